/-! What the law's start gives. -/
def NW : List Cond := flatC (Jvm.Cond.and given_1 narrow_1)
def tabT (k : Nat) : Term := match k with
  | 0 => .static "RootDuel" "FIRST_SETTINGS" "[I"
  | 1 => .static "RootDuel" "LEAST_SETTINGS" "[I"
  | _ => .static "RootDuel" "MOST_SETTINGS" "[I"
theorem nw_tab : ∀ k, k < 3 → (Cond.arrayOf (tabT k) .int ∈ NW ∧ Cond.eq (.length (tabT k)) (.int (Int32.ofNat 7)) ∈ NW) ∧ ∀ j, j < 7 → Cond.eq (.elem (tabT k) (.int (Int32.ofNat j))) (.int (Int32.ofInt (tabF k j))) ∈ NW := by decide +kernel
def strO : List (String × Nat) := [("RootDuel$Reader", 90), ("RootDuel$Reader", 105), ("RootDuel$Reader", 107), ("RootDuel$Reader", 109), ("RootDuel$Reader", 111), ("RootDuel$Reader", 113), ("RootDuel$Reader", 115), ("RootDuel$Reader", 153), ("RootDuel$Reader", 155), ("RootDuel$Reader", 157), ("RootDuel$Reader", 159), ("RootDuel$Reader", 161), ("RootDuel$Page", 70), ("RootDuel$Page", 72), ("RootDuel$Page", 46)]
def strTm (i : Nat) : Term := .string (strO.getD i ("", 0)).1 (strO.getD i ("", 0)).2
theorem nw_str : ∀ i, i < 15 → strN.getD i 0 < 2 ^ 31 ∧ Cond.exactly (strTm i) "java/lang/String" ∈ NW ∧ Cond.eq (.field (strTm i) "java/lang/String" "coder" "B") (.int 0) ∈ NW ∧ Cond.arrayOf (.field (strTm i) "java/lang/String" "value" "[B") .byte ∈ NW ∧ Cond.eq (.length (.field (strTm i) "java/lang/String" "value" "[B")) (.int (Int32.ofNat (strN.getD i 0))) ∈ NW ∧ ∀ j, j < strN.getD i 0 → Cond.eq (.elem (.field (strTm i) "java/lang/String" "value" "[B") (.int (Int32.ofNat j))) (.int ((strI.getD i []).getD j 0)) ∈ NW := by decide +kernel
def clsO (n : Nat) : String := if n = 46 ∨ n = 52 ∨ n = 70 ∨ n = 72 then "RootDuel$Page" else "RootDuel$Reader"
def neIdx : Cond → List (Nat × Nat)
  | .not (.eq (.string a i) (.string b j)) => if a = clsO i ∧ b = clsO j then [(i, j)] else []
  | _ => []
theorem neIdx_mem {L : List Cond} {i j : Nat} (h : (i, j) ∈ L.flatMap neIdx) : Cond.not (.eq (.string (clsO i) i) (.string (clsO j) j)) ∈ L := by
  obtain ⟨w, hw, hi⟩ := List.mem_flatMap.mp h
  unfold neIdx at hi
  split at hi
  · split at hi
    · rename_i hc
      obtain ⟨ha, hb⟩ := hc
      simp only [List.mem_singleton, Prod.mk.injEq] at hi
      obtain ⟨hi, hj⟩ := hi
      subst hi hj ha hb
      exact hw
    · simp at hi
  · simp at hi
def neL : List (Nat × Nat) := [(90, 105), (90, 107), (105, 107), (90, 109), (105, 109), (107, 109), (90, 111), (105, 111), (107, 111), (109, 111), (90, 113), (105, 113), (107, 113), (109, 113), (111, 113), (90, 115), (105, 115), (107, 115), (109, 115), (111, 115), (113, 115), (90, 153), (105, 153), (107, 153), (109, 153), (111, 153), (113, 153), (115, 153), (90, 155), (105, 155), (107, 155), (109, 155), (111, 155), (113, 155), (115, 155), (153, 155), (90, 157), (105, 157), (107, 157), (109, 157), (111, 157), (113, 157), (115, 157), (153, 157), (155, 157), (90, 159), (105, 159), (107, 159), (109, 159), (111, 159), (113, 159), (115, 159), (153, 159), (155, 159), (157, 159), (90, 161), (105, 161), (107, 161), (109, 161), (111, 161), (113, 161), (115, 161), (153, 161), (155, 161), (157, 161), (159, 161), (90, 70), (105, 70), (107, 70), (109, 70), (111, 70), (113, 70), (115, 70), (153, 70), (155, 70), (157, 70), (159, 70), (161, 70), (90, 72), (105, 72), (107, 72), (109, 72), (111, 72), (113, 72), (115, 72), (153, 72), (155, 72), (157, 72), (159, 72), (161, 72), (70, 72), (90, 46), (105, 46), (107, 46), (109, 46), (111, 46), (113, 46), (115, 46), (153, 46), (155, 46), (157, 46), (159, 46), (161, 46), (70, 46), (72, 46), (90, 52), (105, 52), (107, 52), (109, 52), (111, 52), (113, 52), (115, 52), (155, 52), (157, 52), (159, 52), (161, 52), (70, 52), (72, 52), (46, 52)]
theorem nw_neL : NW.flatMap neIdx = neL := by decide +kernel
def numO (i : Nat) : Nat := (strO.getD i ("", 0)).2
theorem neL_all : ∀ i, i < 15 → ∀ j, j < 15 → (i == j || (neL.any (fun q => q.1 == numO i && q.2 == numO j) || neL.any (fun q => q.1 == numO j && q.2 == numO i))) = true := by decide +kernel
theorem neL_any {a b : Nat} (h : neL.any (fun q => q.1 == a && q.2 == b) = true) : (a, b) ∈ NW.flatMap neIdx := by
  obtain ⟨q, hq, e⟩ := List.any_eq_true.mp h
  simp only [Bool.and_eq_true, beq_iff_eq] at e
  obtain ⟨e1, e2⟩ := e
  subst e1 e2
  rw [nw_neL]
  exact hq
theorem strTm_is : ∀ i, i < 15 → strTm i = .string (clsO (numO i)) (numO i) := by decide +kernel
theorem nw_ne (i : Nat) (hi : i < 15) (j : Nat) (hj : j < 15) (hij : i ≠ j) : Cond.not (Cond.eq (strTm i) (strTm j)) ∈ NW ∨ Cond.not (Cond.eq (strTm j) (strTm i)) ∈ NW := by
  rw [strTm_is i hi, strTm_is j hj]
  have h := neL_all i hi j hj
  rw [Bool.or_eq_true, Bool.or_eq_true] at h
  rcases h with h | h | h
  · exact absurd (beq_iff_eq.mp h) hij
  · exact Or.inl (neIdx_mem (neL_any h))
  · exact Or.inr (neIdx_mem (neL_any h))
theorem nw_nest : ∀ w ∈ nestW, w ∈ tables_1 := by decide +kernel
theorem nest_of {w : Cond} (hw : w ∈ nestW) {args : Array Value} {s : State} (h : w.before args s = true) : va_Nw w s := by
  simp only [nestW, List.mem_cons, List.not_mem_nil, or_false] at hw
  rcases hw with rfl | rfl | rfl | rfl | rfl | rfl | rfl | rfl | rfl | rfl | rfl | rfl | rfl | rfl | rfl
  all_goals first | exact va_Nw.of rfl h | (unfold va_Nw Cond.before Cond.holds at *; first | exact h | (simp only [Cond.value] at *; exact h))
theorem nw_nc : ∀ q ∈ ncL, Cond.not (.castable q.1 q.2) ∈ NW := by decide +kernel
theorem nw_strK : ∀ q ∈ strK, Cond.stringRef q.1 q.2.1 (strT.getD q.2.2 "") ∈ tables_1 ∧ (((q.1, q.2.1) = strO.getD q.2.2 ("", 0) ∧ q.2.2 < 15) ∨ q = ("RootDuel$Page", 52, 7)) := by decide +kernel
theorem nw_lay : ∀ w ∈ ([.laysStatic "RootDuel" "FIRST_SETTINGS" "[I", .laysStatic "RootDuel" "LEAST_SETTINGS" "[I", .laysStatic "RootDuel" "MOST_SETTINGS" "[I", .initialized "RootDuel", .laysStatic "java/lang/Throwable" "UNASSIGNED_STACK" "[Ljava/lang/StackTraceElement;", .laysStatic "java/lang/Throwable" "SUPPRESSED_SENTINEL" "Ljava/util/List;", .initialized "java/lang/Throwable", .laysStatic "java/lang/String" "COMPACT_STRINGS" "Z", .initialized "java/lang/String", .laysStatic "jdk/internal/util/Preconditions" "SIOOBE_FORMATTER" "Ljava/util/function/BiFunction;", .initialized "jdk/internal/util/Preconditions"] : List Cond), w ∈ tables_1 := by decide +kernel
theorem nw_ref : ∀ w ∈ ([.isRef (.static "java/lang/Throwable" "UNASSIGNED_STACK" "[Ljava/lang/StackTraceElement;"), .isRef (.static "java/lang/Throwable" "SUPPRESSED_SENTINEL" "Ljava/util/List;"), .eq (.static "java/lang/String" "COMPACT_STRINGS" "Z") (.int 1), .isRef (.static "jdk/internal/util/Preconditions" "SIOOBE_FORMATTER" "Ljava/util/function/BiFunction;"), .eq (.string "RootDuel$Reader" 153) (.string "RootDuel$Page" 52)] : List Cond), w ∈ NW := by decide +kernel
theorem eqR {args : Array Value} {s : State} {t u : Term} {a : Nat} (h : (Cond.eq t u).before args s = true) (ht : t.eval args s none [] s = some (.ref a)) : u.eval args s none [] s = some (.ref a) := by
  cases hv : u.eval args s none [] s with
  | none => simp [Cond.before, Cond.holds, Cond.value, ht, hv] at h
  | some w =>
    simp only [Cond.before, Cond.holds, Cond.value, ht, hv] at h
    cases w <;> simp_all
theorem st_start {args : Array Value} {s : State} (hN : ∀ w ∈ tables_1, w.before args s = true) (hs : ∀ w ∈ NW, w.before args s = true) (D : va_G) : ∃ g : GG, g.1 = D ∧ g.2.1 = s.heap.size ∧ StF g s s.heap := by
  have hA : ∀ a : Nat, a < s.heap.size → ¬ (fun q : Nat => s.heap.size ≤ q) a := fun a h => Nat.not_le.mpr h
  have hL := fun w h => hN w (nw_lay w h)
  have hR := fun w h => hs w (nw_ref w h)
  have tb : ∀ k : Nat, ∃ t : Nat, k < 3 → (tabT k).eval args s none [] s = some (.ref t) ∧ va_T .int t 7 (fun j => .int (Int32.ofInt (tabF k j))) (fun q : Nat => s.heap.size ≤ q) s s.heap := by
    intro k
    by_cases hk : k < 3
    · obtain ⟨⟨h1, h2⟩, h3⟩ := nw_tab k hk
      obtain ⟨t, e, T⟩ := va_Tof (tm := tabT k) (ty := .int) (N := 7) (f := fun j => .int (Int32.ofInt (tabF k j))) (A := fun q : Nat => s.heap.size ≤ q) (by decide) (hs _ h1) (va_eqt (hs _ h2)) (fun j hj => va_eqt (hs _ (h3 j hj))) hA
      exact ⟨t, fun _ => ⟨e, T⟩⟩
    · exact ⟨0, fun h => absurd h hk⟩
  obtain ⟨tf, htf⟩ := Classical.axiomOfChoice tb
  obtain ⟨adK, adV, hS, hK⟩ := vk_Sof (args := args) (s := s) (N := 15) (tm := strTm) (len := strN) (byt := strI) (A := fun q : Nat => s.heap.size ≤ q) (fun i hi => (nw_str i hi).1) (fun i hi => hs _ (nw_str i hi).2.1) (fun i hi => hs _ (nw_str i hi).2.2.1) (fun i hi => hs _ (nw_str i hi).2.2.2.1) (fun i hi => hs _ (nw_str i hi).2.2.2.2.1) (fun i hi j hj => hs _ ((nw_str i hi).2.2.2.2.2 j hj)) (fun i j hi hj hij => (nw_ne i hi j hj hij).imp (hs _) (hs _)) hA
  refine ⟨(D, s.heap.size, tf, adK, adV), rfl, rfl, ?_, ?_, ?_, ?_, ?_, ?_, ?_, ?_, ?_, ?_, ?_, ?_⟩
  · exact va_Zof (hL _ (by simp)) (hL _ (by simp)) (htf 0 (by decide)).1 hA
  · exact va_Zof (hL _ (by simp)) (hL _ (by simp)) (htf 1 (by decide)).1 hA
  · exact va_Zof (hL _ (by simp)) (hL _ (by simp)) (htf 2 (by decide)).1 hA
  · exact fun k hk => (htf k hk).2
  · exact vx_Zqof (C := "java/lang/Throwable") (n := "UNASSIGNED_STACK") (d := "[Ljava/lang/StackTraceElement;") (hL _ (by simp)) (hL _ (by simp)) (hR _ (by simp)) hA
  · exact vx_Zqof (C := "java/lang/Throwable") (n := "SUPPRESSED_SENTINEL") (d := "Ljava/util/List;") (hL _ (by simp)) (hL _ (by simp)) (hR _ (by simp)) hA
  · exact va_Zof (hL _ (by simp)) (hL _ (by simp)) (va_eqi (hR _ (by simp))) hA
  · exact va_Zqof (hL _ (by simp)) (hL _ (by simp)) (hR _ (by simp)) hA
  · exact hS
  · intro q hq
    obtain ⟨k1, k2⟩ := nw_strK q hq
    refine vk_R.of (hN _ k1) ?_
    rcases k2 with ⟨k2, k3⟩ | k2
    · have e : strTm q.2.2 = .string q.1 q.2.1 := by
        unfold strTm
        rw [← k2]
      rw [← e]
      exact hK _ k3
    · subst k2
      exact eqR (hR (.eq (.string "RootDuel$Reader" 153) (.string "RootDuel$Page" 52)) (by simp)) (hK 7 (by decide))
  · exact fun w hw => nest_of hw (hN w (nw_nest w hw))
  · exact fun q hq => va_Nc.of (hs _ (nw_nc q hq))
/-- the script, as an array that lies there -/
theorem st_script {s : State} {b L : Nat} {xs : Nat → Int32} (hL : L ≤ 3072) (hX : va_X b L xs s s.heap) (g : GG) : Rep g s (fun a => if a = b then some (1, L, fun _ => none) else none, s.heap.size) (fun a j => if a = b then (xs j).toInt else 0) s.heap := by
  refine ⟨rfl, fun a k hk => ?_⟩
  have hk2 : (if a = b then some ((1, L, fun _ => none) : Kd) else none) = some k := hk
  by_cases e : a = b
  · rw [if_pos e] at hk2
    cases hk2
    subst e
    obtain ⟨scr, h1, h2, h3, h4, h5⟩ := hX
    refine ⟨scr, h1, h2, h3, h4, by show L < 1000000; omega, fun z => absurd z (by decide), fun j hj => ⟨?_, ?_⟩⟩
    · show scr.slots[j]? = some (.int (Int32.ofInt (if a = a then (xs j).toInt else 0)))
      rw [if_pos rfl, Int32.ofInt_toInt]
      exact h5 j hj
    · show i32 (if a = a then (xs j).toInt else 0)
      rw [if_pos rfl]
      exact ⟨by have := Int32.le_toInt (xs j); omega, by have := Int32.toInt_lt (xs j); omega⟩
  · rw [if_neg e] at hk2
    cases hk2
/-- the whole walk, from the law's first instruction -/
theorem law_all {g : GG} {lay : Lay} {M : Mem} {sa len : Nat} (hg : g.2.1 = lay.2) (hsa : sa < lay.2) (hlen : len ≤ 3072) (hS : lay.1 sa = some (1, len, fun _ => none)) : X g m_L_law 0 0 lay M 0 [(0, vR sa)] [] (fun o _ _ => o = .inl (some (vI 1))) := by
  refine law_start (by omega) (fun lay2 M2 cn ck e1 e2 e3 e4 e5 hD hMo hO1 hO2 hc hr => ?_)
  subst e1 e2
  obtain ⟨c1, c2, c3, c4, c5⟩ := hc
  obtain ⟨r1, r2, r3, r4⟩ := hr
  refine law_loop (sa := sa) (len := len) (b := lay.2) goodA (fun _ _ => rfl) 512 0 lay2 M2 47 11863 (Int.le_refl 0) (by omega) (by omega) (by omega) (by omega) ?_
  refine ⟨tNew, fun _ => 0, 0, fun _ => tNew, fun _ => 0, 0, fun i => if i = 4 then -1 else 0, fun i => M2 (lay.2 + 25 + 2) i, [], fun _ => none, fun _ => none, ⟨by omega, hsa, (e4 _ hsa).trans hS, by omega, hMo, hO1, hO2⟩, hD, ⟨c1, ⟨fun i _ => c3 i, c2 8⟩, ⟨⟨by decide, rfl⟩, fun j _ _ => c4 j, fun i hi => absurd hi (Nat.not_lt_zero i)⟩, fun i _ => rfl, ⟨c5 1, by decide, fun i hi => absurd hi (Nat.not_lt_zero i)⟩⟩, ⟨r1, fun i _ => r4 _ i (by omega) (by omega) (by omega), ⟨⟨(r3 _).trans rfl, by decide⟩, fun i hi => absurd hi (Nat.not_lt_zero i)⟩, ⟨_, bg_new (fun i => r4 _ i (by omega) (by omega) (by omega))⟩, r2, ⟨⟨by decide, (r3 _).trans rfl⟩, fun i hi => absurd hi (Nat.not_lt_zero i)⟩, ⟨(r3 _).trans rfl, (r3 _).trans rfl⟩, ⟨(r3 _).trans rfl, by decide, fun i hi => absurd hi (Nat.not_lt_zero i)⟩, fun i _ => r4 _ i (by omega) (by omega) (by omega)⟩, ⟨fun _ _ => rfl, fun i _ => Or.inl ⟨rfl, rfl⟩⟩, new_inv, Hs.none, fun i hi => absurd hi (Nat.not_lt_zero i)⟩
/-- the classes' numbers -/
theorem kn_start {args : Array Value} {s : State} (hw : ∀ w ∈ wsL_law, w.before args s = true) : ∃ D : va_G, ∀ (k : Nat) (q : vw_C), vwCl[k]? = some q → u_Kn s q.1 q.2.1 q.2.2 (D.1 k) (D.2 k) := by
  obtain ⟨c0, i0, k0⟩ := u_known (C := RX0) (T := TX0) (N := 9) (n := 9) hw inX0 (hw (.instantiable RX0 9) (by decide +kernel))
  obtain ⟨c1, i1, k1⟩ := u_known (C := RX1) (T := TX1) (N := 2) (n := 2) hw inX1 (hw (.instantiable RX1 2) (by decide +kernel))
  obtain ⟨c2, i2, k2⟩ := u_known (C := RX2) (T := TX2) (N := 13) (n := 13) hw inX2 (hw (.instantiable RX2 13) (by decide +kernel))
  obtain ⟨c3, i3, k3⟩ := u_known (C := RX3) (T := TX3) (N := 4) (n := 4) hw inX3 (hw (.instantiable RX3 4) (by decide +kernel))
  obtain ⟨c4, i4, k4⟩ := u_known (C := RX4) (T := TX4) (N := 9) (n := 9) hw inX4 (hw (.instantiable RX4 9) (by decide +kernel))
  obtain ⟨c5, i5, k5⟩ := u_known (C := RX5) (T := TX5) (N := 26) (n := 26) hw inX5 (hw (.instantiable RX5 26) (by decide +kernel))
  refine ⟨(fun k => match k with | 0 => c0 | 1 => c1 | 2 => c2 | 3 => c3 | 4 => c4 | _ => c5, fun k => match k with | 0 => i0 | 1 => i1 | 2 => i2 | 3 => i3 | 4 => i4 | _ => i5), fun k q hq => ?_⟩
  match k, hq with
  | 0, hq => cases hq; exact k0
  | 1, hq => cases hq; exact k1
  | 2, hq => cases hq; exact k2
  | 3, hq => cases hq; exact k3
  | 4, hq => cases hq; exact k4
  | 5, hq => cases hq; exact k5
  | k + 6, hq => simp [vwCl] at hq
