/-! What the law's start gives. -/
def NW : List Cond := flatC (Jvm.Cond.and given_1 narrow_1)
def tabT (k : Nat) : Term := match k with
  | 0 => .static "RootDuel" "FIRST_SETTINGS" "[I"
  | 1 => .static "RootDuel" "LEAST_SETTINGS" "[I"
  | _ => .static "RootDuel" "MOST_SETTINGS" "[I"
theorem nw_tab : ∀ k, k < 3 → (Cond.arrayOf (tabT k) .int ∈ NW ∧ Cond.eq (.length (tabT k)) (.int (Int32.ofNat 7)) ∈ NW) ∧ ∀ j, j < 7 → Cond.eq (.elem (tabT k) (.int (Int32.ofNat j))) (.int (Int32.ofInt (tabF k j))) ∈ NW := by decide +kernel
def strO : List (String × Nat) := [("RootDuel$Reader", 90), ("RootDuel$Reader", 105), ("RootDuel$Reader", 107), ("RootDuel$Reader", 109), ("RootDuel$Reader", 111), ("RootDuel$Reader", 113), ("RootDuel$Reader", 115), ("RootDuel$Reader", 153), ("RootDuel$Reader", 155), ("RootDuel$Reader", 157), ("RootDuel$Reader", 159), ("RootDuel$Reader", 161), ("RootDuel$Page", 70), ("RootDuel$Page", 72), ("RootDuel$Page", 46), ("RootDuelLaw", 120), ("RootDuelLaw", 129), ("RootDuelLaw", 131), ("RootDuelLaw", 133), ("RootDuelLaw", 135), ("RootDuelLaw", 137), ("RootDuelLaw", 139), ("RootDuelLaw", 141), ("RootDuelLaw", 150)]
def strTm (i : Nat) : Term := .string (strO.getD i ("", 0)).1 (strO.getD i ("", 0)).2
def clsO (n : Nat) : String := if n = 46 ∨ n = 52 ∨ n = 70 ∨ n = 72 then "RootDuel$Page" else if n = 120 ∨ n = 129 ∨ n = 131 ∨ n = 133 ∨ n = 135 ∨ n = 137 ∨ n = 139 ∨ n = 141 ∨ n = 150 then "RootDuelLaw" else "RootDuel$Reader"
def strIdx : Cond → List (Nat × Nat × Nat)
  | .eq (.elem (.field (.string a n) c f d) (.int j)) (.int v) => if n ≠ 52 ∧ (a = clsO n ∧ c = "java/lang/String" ∧ f = "value" ∧ d = "[B") ∧ Int32.ofNat j.toNatClampNeg = j ∧ Int32.ofNat v.toNatClampNeg = v then [(n, j.toNatClampNeg, v.toNatClampNeg)] else []
  | _ => []
theorem strIdx_mem {L : List Cond} {n j v : Nat} (h : (n, j, v) ∈ L.flatMap strIdx) : Cond.eq (.elem (.field (.string (clsO n) n) "java/lang/String" "value" "[B") (.int (Int32.ofNat j))) (.int (Int32.ofNat v)) ∈ L := by
  obtain ⟨w, hw, hi⟩ := List.mem_flatMap.mp h
  unfold strIdx at hi
  split at hi
  · split at hi
    · rename_i hc
      obtain ⟨-, ⟨e1, e2, e3, e4⟩, ha, hb⟩ := hc
      simp only [List.mem_singleton, Prod.mk.injEq] at hi
      obtain ⟨h1, h2, h3⟩ := hi
      subst h1 h2 h3
      rw [ha, hb, ← e1, ← e2, ← e3, ← e4]
      exact hw
    · simp at hi
  · simp at hi
def numO (i : Nat) : Nat := (strO.getD i ("", 0)).2
def strL : List (Nat × Nat × Nat) := (List.range 24).flatMap (fun i => (List.range (strN.getD i 0)).map (fun j => (numO i, j, ((strI.getD i []).getD j 0).toNatClampNeg)))
theorem nw_strL : NW.flatMap strIdx = strL := by decide +kernel
theorem strTm_is : ∀ i, i < 24 → strTm i = .string (clsO (numO i)) (numO i) := by decide +kernel
theorem strI_nat : ∀ i, i < 24 → ∀ j, j < strN.getD i 0 → Int32.ofNat ((strI.getD i []).getD j 0).toNatClampNeg = (strI.getD i []).getD j 0 := by decide +kernel
theorem nw_strH0 : ∀ i, i < 6 → strN.getD (0 + i) 0 < 2 ^ 31 ∧ Cond.exactly (strTm (0 + i)) "java/lang/String" ∈ NW ∧ Cond.eq (.field (strTm (0 + i)) "java/lang/String" "coder" "B") (.int 0) ∈ NW ∧ Cond.arrayOf (.field (strTm (0 + i)) "java/lang/String" "value" "[B") .byte ∈ NW ∧ Cond.eq (.length (.field (strTm (0 + i)) "java/lang/String" "value" "[B")) (.int (Int32.ofNat (strN.getD (0 + i) 0))) ∈ NW := by decide +kernel
theorem nw_strH1 : ∀ i, i < 6 → strN.getD (6 + i) 0 < 2 ^ 31 ∧ Cond.exactly (strTm (6 + i)) "java/lang/String" ∈ NW ∧ Cond.eq (.field (strTm (6 + i)) "java/lang/String" "coder" "B") (.int 0) ∈ NW ∧ Cond.arrayOf (.field (strTm (6 + i)) "java/lang/String" "value" "[B") .byte ∈ NW ∧ Cond.eq (.length (.field (strTm (6 + i)) "java/lang/String" "value" "[B")) (.int (Int32.ofNat (strN.getD (6 + i) 0))) ∈ NW := by decide +kernel
theorem nw_strH2 : ∀ i, i < 6 → strN.getD (12 + i) 0 < 2 ^ 31 ∧ Cond.exactly (strTm (12 + i)) "java/lang/String" ∈ NW ∧ Cond.eq (.field (strTm (12 + i)) "java/lang/String" "coder" "B") (.int 0) ∈ NW ∧ Cond.arrayOf (.field (strTm (12 + i)) "java/lang/String" "value" "[B") .byte ∈ NW ∧ Cond.eq (.length (.field (strTm (12 + i)) "java/lang/String" "value" "[B")) (.int (Int32.ofNat (strN.getD (12 + i) 0))) ∈ NW := by decide +kernel
theorem nw_strH3 : ∀ i, i < 6 → strN.getD (18 + i) 0 < 2 ^ 31 ∧ Cond.exactly (strTm (18 + i)) "java/lang/String" ∈ NW ∧ Cond.eq (.field (strTm (18 + i)) "java/lang/String" "coder" "B") (.int 0) ∈ NW ∧ Cond.arrayOf (.field (strTm (18 + i)) "java/lang/String" "value" "[B") .byte ∈ NW ∧ Cond.eq (.length (.field (strTm (18 + i)) "java/lang/String" "value" "[B")) (.int (Int32.ofNat (strN.getD (18 + i) 0))) ∈ NW := by decide +kernel
theorem nw_strH : ∀ i, i < 24 → strN.getD i 0 < 2 ^ 31 ∧ Cond.exactly (strTm i) "java/lang/String" ∈ NW ∧ Cond.eq (.field (strTm i) "java/lang/String" "coder" "B") (.int 0) ∈ NW ∧ Cond.arrayOf (.field (strTm i) "java/lang/String" "value" "[B") .byte ∈ NW ∧ Cond.eq (.length (.field (strTm i) "java/lang/String" "value" "[B")) (.int (Int32.ofNat (strN.getD i 0))) ∈ NW := by
  intro i hi
  rcases (show i < 6 ∨ (6 ≤ i ∧ i < 12) ∨ (12 ≤ i ∧ i < 18) ∨ 18 ≤ i by omega) with c | c | c | c
  · have h := nw_strH0 (i - 0) (by omega)
    rw [show 0 + (i - 0) = i by omega] at h
    exact h
  · have h := nw_strH1 (i - 6) (by omega)
    rw [show 6 + (i - 6) = i by omega] at h
    exact h
  · have h := nw_strH2 (i - 12) (by omega)
    rw [show 12 + (i - 12) = i by omega] at h
    exact h
  · have h := nw_strH3 (i - 18) (by omega)
    rw [show 18 + (i - 18) = i by omega] at h
    exact h
theorem nw_str : ∀ i, i < 24 → strN.getD i 0 < 2 ^ 31 ∧ Cond.exactly (strTm i) "java/lang/String" ∈ NW ∧ Cond.eq (.field (strTm i) "java/lang/String" "coder" "B") (.int 0) ∈ NW ∧ Cond.arrayOf (.field (strTm i) "java/lang/String" "value" "[B") .byte ∈ NW ∧ Cond.eq (.length (.field (strTm i) "java/lang/String" "value" "[B")) (.int (Int32.ofNat (strN.getD i 0))) ∈ NW ∧ ∀ j, j < strN.getD i 0 → Cond.eq (.elem (.field (strTm i) "java/lang/String" "value" "[B") (.int (Int32.ofNat j))) (.int ((strI.getD i []).getD j 0)) ∈ NW := fun i hi => by
  obtain ⟨h1, h2, h3, h4, h5⟩ := nw_strH i hi
  refine ⟨h1, h2, h3, h4, h5, fun j hj => ?_⟩
  rw [strTm_is i hi, ← strI_nat i hi j hj]
  refine strIdx_mem ?_
  rw [nw_strL]
  exact List.mem_flatMap.mpr ⟨i, List.mem_range.mpr hi, List.mem_map.mpr ⟨j, List.mem_range.mpr hj, rfl⟩⟩
def neIdx : Cond → List (Nat × Nat)
  | .not (.eq (.string a i) (.string b j)) => if a = clsO i ∧ b = clsO j then [(i, j)] else []
  | _ => []
theorem neIdx_mem {L : List Cond} {i j : Nat} (h : (i, j) ∈ L.flatMap neIdx) : Cond.not (.eq (.string (clsO i) i) (.string (clsO j) j)) ∈ L := by
  obtain ⟨w, hw, hi⟩ := List.mem_flatMap.mp h
  unfold neIdx at hi
  split at hi
  · split at hi
    · rename_i hc
      obtain ⟨ha, hb⟩ := hc
      simp only [List.mem_singleton, Prod.mk.injEq] at hi
      obtain ⟨hi, hj⟩ := hi
      subst hi hj ha hb
      exact hw
    · simp at hi
  · simp at hi
def neL : List (Nat × Nat) := [(90, 105), (90, 107), (105, 107), (90, 109), (105, 109), (107, 109), (90, 111), (105, 111), (107, 111), (109, 111), (90, 113), (105, 113), (107, 113), (109, 113), (111, 113), (90, 115), (105, 115), (107, 115), (109, 115), (111, 115), (113, 115), (90, 153), (105, 153), (107, 153), (109, 153), (111, 153), (113, 153), (115, 153), (90, 155), (105, 155), (107, 155), (109, 155), (111, 155), (113, 155), (115, 155), (153, 155), (90, 157), (105, 157), (107, 157), (109, 157), (111, 157), (113, 157), (115, 157), (153, 157), (155, 157), (90, 159), (105, 159), (107, 159), (109, 159), (111, 159), (113, 159), (115, 159), (153, 159), (155, 159), (157, 159), (90, 161), (105, 161), (107, 161), (109, 161), (111, 161), (113, 161), (115, 161), (153, 161), (155, 161), (157, 161), (159, 161), (90, 70), (105, 70), (107, 70), (109, 70), (111, 70), (113, 70), (115, 70), (153, 70), (155, 70), (157, 70), (159, 70), (161, 70), (90, 72), (105, 72), (107, 72), (109, 72), (111, 72), (113, 72), (115, 72), (153, 72), (155, 72), (157, 72), (159, 72), (161, 72), (70, 72), (90, 46), (105, 46), (107, 46), (109, 46), (111, 46), (113, 46), (115, 46), (153, 46), (155, 46), (157, 46), (159, 46), (161, 46), (70, 46), (72, 46), (90, 52), (105, 52), (107, 52), (109, 52), (111, 52), (113, 52), (115, 52), (155, 52), (157, 52), (159, 52), (161, 52), (70, 52), (72, 52), (46, 52), (90, 120), (105, 120), (107, 120), (109, 120), (111, 120), (113, 120), (115, 120), (153, 120), (155, 120), (157, 120), (159, 120), (161, 120), (70, 120), (72, 120), (46, 120), (52, 120), (90, 129), (105, 129), (107, 129), (109, 129), (111, 129), (113, 129), (115, 129), (153, 129), (155, 129), (157, 129), (159, 129), (161, 129), (70, 129), (72, 129), (46, 129), (52, 129), (120, 129), (90, 131), (105, 131), (107, 131), (109, 131), (111, 131), (113, 131), (115, 131), (153, 131), (155, 131), (157, 131), (159, 131), (161, 131), (70, 131), (72, 131), (46, 131), (52, 131), (120, 131), (129, 131), (90, 133), (105, 133), (107, 133), (109, 133), (111, 133), (113, 133), (115, 133), (153, 133), (155, 133), (157, 133), (159, 133), (161, 133), (70, 133), (72, 133), (46, 133), (52, 133), (120, 133), (129, 133), (131, 133), (90, 135), (105, 135), (107, 135), (109, 135), (111, 135), (113, 135), (115, 135), (153, 135), (155, 135), (157, 135), (159, 135), (161, 135), (70, 135), (72, 135), (46, 135), (52, 135), (120, 135), (129, 135), (131, 135), (133, 135), (90, 137), (105, 137), (107, 137), (109, 137), (111, 137), (113, 137), (115, 137), (153, 137), (155, 137), (157, 137), (159, 137), (161, 137), (70, 137), (72, 137), (46, 137), (52, 137), (120, 137), (129, 137), (131, 137), (133, 137), (135, 137), (90, 139), (105, 139), (107, 139), (109, 139), (111, 139), (113, 139), (115, 139), (153, 139), (155, 139), (157, 139), (159, 139), (161, 139), (70, 139), (72, 139), (46, 139), (52, 139), (120, 139), (129, 139), (131, 139), (133, 139), (135, 139), (137, 139), (90, 141), (105, 141), (107, 141), (109, 141), (111, 141), (113, 141), (115, 141), (153, 141), (155, 141), (157, 141), (159, 141), (161, 141), (70, 141), (72, 141), (46, 141), (52, 141), (120, 141), (129, 141), (131, 141), (133, 141), (135, 141), (137, 141), (139, 141), (90, 150), (105, 150), (107, 150), (109, 150), (111, 150), (113, 150), (115, 150), (153, 150), (155, 150), (157, 150), (159, 150), (161, 150), (70, 150), (72, 150), (46, 150), (52, 150), (120, 150), (129, 150), (131, 150), (133, 150), (135, 150), (137, 150), (139, 150), (141, 150)]
theorem nw_neL : NW.flatMap neIdx = neL := by decide +kernel
theorem neL_all : ∀ i, i < 24 → ∀ j, j < 24 → (i == j || (neL.any (fun q => q.1 == numO i && q.2 == numO j) || neL.any (fun q => q.1 == numO j && q.2 == numO i))) = true := by decide +kernel
theorem neL_any {a b : Nat} (h : neL.any (fun q => q.1 == a && q.2 == b) = true) : (a, b) ∈ NW.flatMap neIdx := by
  obtain ⟨q, hq, e⟩ := List.any_eq_true.mp h
  simp only [Bool.and_eq_true, beq_iff_eq] at e
  obtain ⟨e1, e2⟩ := e
  subst e1 e2
  rw [nw_neL]
  exact hq
theorem nw_ne (i : Nat) (hi : i < 24) (j : Nat) (hj : j < 24) (hij : i ≠ j) : Cond.not (Cond.eq (strTm i) (strTm j)) ∈ NW ∨ Cond.not (Cond.eq (strTm j) (strTm i)) ∈ NW := by
  rw [strTm_is i hi, strTm_is j hj]
  have h := neL_all i hi j hj
  rw [Bool.or_eq_true, Bool.or_eq_true] at h
  rcases h with h | h | h
  · exact absurd (beq_iff_eq.mp h) hij
  · exact Or.inl (neIdx_mem (neL_any h))
  · exact Or.inr (neIdx_mem (neL_any h))
theorem nw_nest : ∀ w ∈ nestW, w ∈ tables_1 := by decide +kernel
theorem nest_of {w : Cond} (hw : w ∈ nestW) {args : Array Value} {s : State} (h : w.before args s = true) : va_Nw w s := by
  simp only [nestW, List.mem_cons, List.not_mem_nil, or_false] at hw
  rcases hw with rfl | rfl | rfl | rfl | rfl | rfl | rfl | rfl | rfl | rfl | rfl | rfl | rfl | rfl | rfl | rfl | rfl | rfl | rfl | rfl | rfl | rfl | rfl | rfl | rfl | rfl | rfl | rfl | rfl | rfl | rfl | rfl | rfl | rfl | rfl | rfl | rfl | rfl
  all_goals first | exact va_Nw.of rfl h | (unfold va_Nw Cond.before Cond.holds at *; first | exact h | (simp only [Cond.value] at *; exact h))
theorem nw_strK : ∀ q ∈ strK, Cond.stringRef q.1 q.2.1 (strT.getD q.2.2 "") ∈ tables_1 ∧ (((q.1, q.2.1) = strO.getD q.2.2 ("", 0) ∧ q.2.2 < 24) ∨ q = ("RootDuel$Page", 52, 7)) := by decide +kernel
theorem nw_lay : ∀ w ∈ ([.laysStatic "RootDuel" "FIRST_SETTINGS" "[I", .laysStatic "RootDuel" "LEAST_SETTINGS" "[I", .laysStatic "RootDuel" "MOST_SETTINGS" "[I", .initialized "RootDuel", .laysStatic "java/lang/Throwable" "UNASSIGNED_STACK" "[Ljava/lang/StackTraceElement;", .laysStatic "java/lang/Throwable" "SUPPRESSED_SENTINEL" "Ljava/util/List;", .initialized "java/lang/Throwable", .laysStatic "java/lang/String" "COMPACT_STRINGS" "Z", .initialized "java/lang/String", .laysStatic "jdk/internal/util/Preconditions" "SIOOBE_FORMATTER" "Ljava/util/function/BiFunction;", .initialized "jdk/internal/util/Preconditions", .laysStatic "java/lang/Integer" "DigitOnes" "[B", .laysStatic "java/lang/Integer" "DigitTens" "[B", .initialized "java/lang/Integer", .laysStatic "java/util/ArrayList" "DEFAULTCAPACITY_EMPTY_ELEMENTDATA" "[Ljava/lang/Object;", .initialized "java/util/ArrayList", .declares ⟨"java/util/Iterator", "hasNext", "()Z"⟩, .interfaceMethod "java/util/Iterator" "java/util/Iterator" "hasNext" "()Z", .publicMethod ⟨"java/util/ArrayList$Itr", "hasNext", "()Z"⟩, .unhidden "java/util/ArrayList$Itr" "hasNext" "()Z", .castable "java/util/ArrayList$Itr" "java/util/Iterator", .declares ⟨"java/util/Iterator", "next", "()Ljava/lang/Object;"⟩, .interfaceMethod "java/util/Iterator" "java/util/Iterator" "next" "()Ljava/lang/Object;", .publicMethod ⟨"java/util/ArrayList$Itr", "next", "()Ljava/lang/Object;"⟩, .unhidden "java/util/ArrayList$Itr" "next" "()Ljava/lang/Object;"] : List Cond), w ∈ tables_1 := by decide +kernel
theorem nw_ref : ∀ w ∈ ([.isRef (.static "java/lang/Throwable" "UNASSIGNED_STACK" "[Ljava/lang/StackTraceElement;"), .isRef (.static "java/lang/Throwable" "SUPPRESSED_SENTINEL" "Ljava/util/List;"), .eq (.static "java/lang/String" "COMPACT_STRINGS" "Z") (.int 1), .isRef (.static "jdk/internal/util/Preconditions" "SIOOBE_FORMATTER" "Ljava/util/function/BiFunction;"), .eq (.string "RootDuel$Reader" 153) (.string "RootDuel$Page" 52)] : List Cond), w ∈ NW := by decide +kernel
theorem eqR {args : Array Value} {s : State} {t u : Term} {a : Nat} (h : (Cond.eq t u).before args s = true) (ht : t.eval args s none [] s = some (.ref a)) : u.eval args s none [] s = some (.ref a) := by
  cases hv : u.eval args s none [] s with
  | none => simp [Cond.before, Cond.holds, Cond.value, ht, hv] at h
  | some w =>
    simp only [Cond.before, Cond.holds, Cond.value, ht, hv] at h
    cases w <;> simp_all
/-- the library's rows of digits, and the empty row of a list -/
def digT (k : Nat) : Term := match k with
  | 0 => .static "java/lang/Integer" "DigitOnes" "[B"
  | _ => .static "java/lang/Integer" "DigitTens" "[B"
def digF (k j : Nat) : Nat := match k with
  | 0 => 48 + j % 10
  | _ => 48 + j / 10
def datT : Term := .static "java/util/ArrayList" "DEFAULTCAPACITY_EMPTY_ELEMENTDATA" "[Ljava/lang/Object;"
def digIdx : Cond → List (Nat × Nat × Nat)
  | .eq (.elem (.static a b c) (.int j)) (.int v) => if Int32.ofNat j.toNatClampNeg = j ∧ Int32.ofNat v.toNatClampNeg = v then (if digT 0 = .static a b c then [(0, j.toNatClampNeg, v.toNatClampNeg)] else if digT 1 = .static a b c then [(1, j.toNatClampNeg, v.toNatClampNeg)] else []) else []
  | _ => []
theorem digIdx_mem {L : List Cond} {k j v : Nat} (h : (k, j, v) ∈ L.flatMap digIdx) : Cond.eq (.elem (digT k) (.int (Int32.ofNat j))) (.int (Int32.ofNat v)) ∈ L := by
  obtain ⟨w, hw, hi⟩ := List.mem_flatMap.mp h
  unfold digIdx at hi
  split at hi
  · split at hi
    · rename_i hc
      obtain ⟨ha, hb⟩ := hc
      split at hi
      · rename_i he
        simp only [List.mem_singleton, Prod.mk.injEq] at hi
        obtain ⟨h1, h2, h3⟩ := hi
        subst h1 h2 h3
        rw [ha, hb, he]
        exact hw
      · split at hi
        · rename_i he
          simp only [List.mem_singleton, Prod.mk.injEq] at hi
          obtain ⟨h1, h2, h3⟩ := hi
          subst h1 h2 h3
          rw [ha, hb, he]
          exact hw
        · simp at hi
    · simp at hi
  · simp at hi
def digL : List (Nat × Nat × Nat) := (List.range 100).map (fun j => (0, j, 48 + j % 10)) ++ (List.range 100).map (fun j => (1, j, 48 + j / 10))
theorem nw_digL : NW.flatMap digIdx = digL := by decide +kernel
theorem nw_dig0 : ∀ k, k < 2 → Cond.arrayOf (digT k) .byte ∈ NW ∧ Cond.eq (.length (digT k)) (.int (Int32.ofNat 100)) ∈ NW := by decide +kernel
theorem nw_dig (k : Nat) (hk : k < 2) : (Cond.arrayOf (digT k) .byte ∈ NW ∧ Cond.eq (.length (digT k)) (.int (Int32.ofNat 100)) ∈ NW) ∧ ∀ j, j < 100 → Cond.eq (.elem (digT k) (.int (Int32.ofNat j))) (.int (Int32.ofNat (digF k j))) ∈ NW := by
  refine ⟨nw_dig0 k hk, fun j hj => digIdx_mem ?_⟩
  rw [nw_digL]
  rcases (show k = 0 ∨ k = 1 by omega) with rfl | rfl
  · exact List.mem_append_left _ (List.mem_map.mpr ⟨j, List.mem_range.mpr hj, rfl⟩)
  · exact List.mem_append_right _ (List.mem_map.mpr ⟨j, List.mem_range.mpr hj, rfl⟩)
theorem nw_dat : Cond.arrayOf datT (.object "java/lang/Object") ∈ NW ∧ Cond.eq (.length datT) (.int (Int32.ofNat 0)) ∈ NW := by decide +kernel
theorem len_exact {args : Array Value} {s : State} {tm : Term} {N : Nat} (hN : N < 2 ^ 31) (h : (Term.length tm).eval args s none [] s = some (.int (Int32.ofNat N))) : ∃ a cell, tm.eval args s none [] s = some (.ref a) ∧ s.arrayAt? a = some cell ∧ cell.slots.size = N := by
  obtain ⟨a, cell, h1, h2, h3⟩ := Term.length_spec h
  have hn : cell.slots.size < 2 ^ 31 := by
    by_cases hn : cell.slots.size < 2 ^ 31
    · exact hn
    · have h9 := h
      simp only [Term.eval, Option.bind_eq_bind, h1, h2, Option.bind_some] at h9
      rw [if_neg hn] at h9
      cases h9
  have e : Int32.ofNat N = Int32.ofNat cell.slots.size := by
    injection h3
  refine ⟨a, cell, h1, h2, Nat.le_antisymm ?_ ?_⟩
  · exact (Int32.ofNat_le_ofNat hn hN).mp (by rw [e]; exact Int32.le_refl _)
  · exact (Int32.ofNat_le_ofNat hN hn).mp (by rw [e]; exact Int32.le_refl _)
/-- an array of the start, whole -/
def ArS (s : State) (t : Nat) (ty : FieldType) (N : Nat) (f : Nat → Int32) : Prop := ∃ cell : Cell, s.heap[t]? = some cell ∧ s.isArrayOf cell ty ∧ cell.vm ≠ .unknown ∧ cell.slots.size = N ∧ ∀ j : Nat, j < N → cell.slots[j]? = some (.int (f j))
theorem arr_start {args : Array Value} {s : State} {tm : Term} {ty : FieldType} {N : Nat} {f : Nat → Int32} (hN : N < 2 ^ 31) (harr : (Cond.arrayOf tm ty).before args s = true) (hlen : (Cond.eq (.length tm) (.int (Int32.ofNat N))).before args s = true) (hel : ∀ j : Nat, j < N → (Cond.eq (.elem tm (.int (Int32.ofNat j))) (.int (f j))).before args s = true) : ∃ t : Nat, tm.eval args s none [] s = some (.ref t) ∧ ArS s t ty N f := by
  obtain ⟨t, e, cell, c1, c2, c3, -, -, c6, -⟩ := va_Tof (tm := tm) (ty := ty) (N := N) (f := fun j => .int (f j)) (A := fun q : Nat => s.heap.size ≤ q) hN harr (va_eqt hlen) (fun j hj => va_eqt (hel j hj)) (fun a h => Nat.not_le.mpr h)
  obtain ⟨a, cell2, g1, g2, g3⟩ := len_exact hN (va_eqt hlen)
  cases e.symm.trans g1
  cases c1.symm.trans (State.arrayAt?_spec g2).1
  exact ⟨t, e, cell, c1, c2, c3, g3, c6⟩
theorem isArr_ty {s : State} {cell : Cell} {ty ty2 : FieldType} (h : s.isArrayOf cell ty) (h2 : s.isArrayOf cell ty2) : ty = ty2 := by
  obtain ⟨-, k, hk, comp, e⟩ := h
  obtain ⟨-, k2, hk2, comp2, e2⟩ := h2
  cases hk.symm.trans hk2
  have e3 := e.symm.trans e2
  injection e3
theorem ArS.lt {s : State} {t N : Nat} {ty : FieldType} {f : Nat → Int32} (h : ArS s t ty N f) : t < s.heap.size := by
  obtain ⟨cell, h1, -⟩ := h
  exact (Array.getElem?_eq_some_iff.mp h1).1
theorem ArS.ne_ty {s : State} {t u N N2 : Nat} {ty ty2 : FieldType} {f f2 : Nat → Int32} (h : ArS s t ty N f) (h2 : ArS s u ty2 N2 f2) (hne : ty ≠ ty2) : t ≠ u := fun e => by
  subst e
  obtain ⟨cell, c1, c2, -⟩ := h
  obtain ⟨cell2, d1, d2, -⟩ := h2
  cases c1.symm.trans d1
  exact hne (isArr_ty c2 d2)
theorem ArS.ne_at {s : State} {t u N N2 : Nat} {ty ty2 : FieldType} {f f2 : Nat → Int32} (h : ArS s t ty N f) (h2 : ArS s u ty2 N2 f2) {j : Nat} (h3 : j < N) (h4 : j < N2) (hne : f j ≠ f2 j) : t ≠ u := fun e => by
  subst e
  obtain ⟨cell, c1, -, -, -, c5⟩ := h
  obtain ⟨cell2, d1, -, -, -, d5⟩ := h2
  cases c1.symm.trans d1
  have e3 := (c5 j h3).symm.trans (d5 j h4)
  injection e3 with e4
  injection e4 with e5
  exact hne e5
/-- the private methods of a text's superclass, asked of the text -/
theorem lw_sel {y z : MethodName} {s : State} {args : Array Value} {n : Nat} (hy : y.cls ≠ "java/lang/invoke/MethodHandle" ∧ y.cls ≠ "java/lang/invoke/VarHandle") (hins : (Cond.instantiable "java/lang/StringBuilder" n).before args s = true) (hz : (Cond.selects "java/lang/StringBuilder" z z).before args s = true) (hc : y.cls = z.cls) (hpriv : (Cond.privateMethod y).before args s = true) (hinst : (Cond.instanceMethod y).before args s = true) : (Cond.selects "java/lang/StringBuilder" y y).before args s = true := by
  obtain ⟨c, k, hc1, -⟩ := Cond.instantiable_spec hins
  obtain ⟨c2, r, m, -, -, hm, -, mk2, hk2, hi2⟩ := Cond.selects_spec hz
  obtain ⟨mk, methM, hnamed, hmethM, -, -⟩ := Cond.instanceMethod_spec hinst
  have hfound : s.methodFound? y.cls y.name y.desc = some mk := State.methodFound?_of_named hnamed hy
  have hsel : selectMethod {} s.vm c mk = .method mk := selectMethod_private hmethM (Cond.privateMethod_at hpriv mk methM hnamed hmethM)
  have hcls : mk.cls = m.cls := Option.some.inj ((findClass_of_methodNamed hnamed).symm.trans (by rw [hc]; exact findClass_of_methodNamed hm))
  simp only [Cond.before, Cond.holds, Cond.value, hc1, hfound, hnamed, hsel, hcls, hk2]
  simp
  exact hi2
def lw_zs : MethodName := ⟨"java/lang/AbstractStringBuilder", "isLatin1", "()Z"⟩
theorem lw_ex_tb : (∀ y ∈ lw_exm, (y.cls ≠ "java/lang/invoke/MethodHandle" ∧ y.cls ≠ "java/lang/invoke/VarHandle") ∧ y.cls = lw_zs.cls ∧ Cond.privateMethod y ∈ tables_1 ∧ Cond.instanceMethod y ∈ tables_1) ∧ Cond.instantiable "java/lang/StringBuilder" 4 ∈ tables_1 ∧ Cond.selects "java/lang/StringBuilder" lw_zs lw_zs ∈ tables_1 := by decide +kernel
theorem lw_all {args : Array Value} {s : State} (hts : ∀ w ∈ lw_tbl, w.before args s = true) : ∀ w ∈ wsL_law, w.before args s = true := by
  intro w hw
  have hN : ∀ w ∈ tables_1, w.before args s = true := fun w h => hts w (List.mem_append_right _ h)
  rcases List.mem_append.mp (wsL_law_in w hw) with h | h
  · exact hts w h
  · obtain ⟨y, hy, rfl⟩ := List.mem_map.mp h
    obtain ⟨h1, h2, h3⟩ := lw_ex_tb
    obtain ⟨g1, g2, g3, g4⟩ := h1 y hy
    exact lw_sel g1 (hN _ h2) (hN _ h3) g2 (hN _ g3) (hN _ g4)
theorem st_start {args : Array Value} {s : State} (hN : ∀ w ∈ tables_1, w.before args s = true) (hs : ∀ w ∈ NW, w.before args s = true) (D : va_G) : ∃ g : GG, g.1 = D ∧ g.2.1 = s.heap.size ∧ StF g s s.heap ∧ ArS s (g.2.2.1 3) .byte 100 (fun j => Int32.ofNat (digF 0 j)) ∧ ArS s (g.2.2.1 4) .byte 100 (fun j => Int32.ofNat (digF 1 j)) ∧ ArS s (g.2.2.1 5) (.object "java/lang/Object") 0 (fun _ => 0) := by
  have hA : ∀ a : Nat, a < s.heap.size → ¬ (fun q : Nat => s.heap.size ≤ q) a := fun a h => Nat.not_le.mpr h
  have hL := fun w h => hN w (nw_lay w h)
  have hR := fun w h => hs w (nw_ref w h)
  have tb : ∀ k : Nat, ∃ t : Nat, k < 3 → (tabT k).eval args s none [] s = some (.ref t) ∧ va_T .int t 7 (fun j => .int (Int32.ofInt (tabF k j))) (fun q : Nat => s.heap.size ≤ q) s s.heap := by
    intro k
    by_cases hk : k < 3
    · obtain ⟨⟨h1, h2⟩, h3⟩ := nw_tab k hk
      obtain ⟨t, e, T⟩ := va_Tof (tm := tabT k) (ty := .int) (N := 7) (f := fun j => .int (Int32.ofInt (tabF k j))) (A := fun q : Nat => s.heap.size ≤ q) (by decide) (hs _ h1) (va_eqt (hs _ h2)) (fun j hj => va_eqt (hs _ (h3 j hj))) hA
      exact ⟨t, fun _ => ⟨e, T⟩⟩
    · exact ⟨0, fun h => absurd h hk⟩
  obtain ⟨tf, htf⟩ := Classical.axiomOfChoice tb
  obtain ⟨⟨o1, o2⟩, o3⟩ := nw_dig 0 (by decide)
  obtain ⟨d3, e3, A3⟩ := arr_start (tm := digT 0) (ty := .byte) (N := 100) (f := fun j => Int32.ofNat (digF 0 j)) (by decide) (hs _ o1) (hs _ o2) (fun j hj => hs _ (o3 j hj))
  obtain ⟨⟨o4, o5⟩, o6⟩ := nw_dig 1 (by decide)
  obtain ⟨d4, e4, A4⟩ := arr_start (tm := digT 1) (ty := .byte) (N := 100) (f := fun j => Int32.ofNat (digF 1 j)) (by decide) (hs _ o4) (hs _ o5) (fun j hj => hs _ (o6 j hj))
  obtain ⟨d5, e5, A5⟩ := arr_start (tm := datT) (ty := .object "java/lang/Object") (N := 0) (f := fun _ => 0) (by decide) (hs _ nw_dat.1) (hs _ nw_dat.2) (fun j hj => absurd hj (Nat.not_lt_zero j))
  obtain ⟨adK, adV, hS, hK⟩ := vk_Sof (args := args) (s := s) (N := 24) (tm := strTm) (len := strN) (byt := strI) (A := fun q : Nat => s.heap.size ≤ q) (fun i hi => (nw_str i hi).1) (fun i hi => hs _ (nw_str i hi).2.1) (fun i hi => hs _ (nw_str i hi).2.2.1) (fun i hi => hs _ (nw_str i hi).2.2.2.1) (fun i hi => hs _ (nw_str i hi).2.2.2.2.1) (fun i hi j hj => hs _ ((nw_str i hi).2.2.2.2.2 j hj)) (fun i j hi hj hij => (nw_ne i hi j hj hij).imp (hs _) (hs _)) hA
  refine ⟨(D, s.heap.size, fun k => if k = 3 then d3 else if k = 4 then d4 else if k = 5 then d5 else tf k, adK, adV), rfl, rfl, ⟨?_, ?_, ?_, ?_, ?_, ?_, ?_, ?_, ?_, ?_, ?_, ?_, ?_⟩, A3, A4, A5⟩
  · exact va_Zof (hL _ (by simp)) (hL _ (by simp)) (htf 0 (by decide)).1 hA
  · exact va_Zof (hL _ (by simp)) (hL _ (by simp)) (htf 1 (by decide)).1 hA
  · exact va_Zof (hL _ (by simp)) (hL _ (by simp)) (htf 2 (by decide)).1 hA
  · intro k hk
    have e : (if k = 3 then d3 else if k = 4 then d4 else if k = 5 then d5 else tf k) = tf k := by
      rw [if_neg (by omega), if_neg (by omega), if_neg (by omega)]
    show va_T .int (if k = 3 then d3 else if k = 4 then d4 else if k = 5 then d5 else tf k) 7 _ _ s s.heap
    rw [e]
    exact (htf k hk).2
  · exact vx_Zqof (C := "java/lang/Throwable") (n := "UNASSIGNED_STACK") (d := "[Ljava/lang/StackTraceElement;") (hL _ (by simp)) (hL _ (by simp)) (hR _ (by simp)) hA
  · exact vx_Zqof (C := "java/lang/Throwable") (n := "SUPPRESSED_SENTINEL") (d := "Ljava/util/List;") (hL _ (by simp)) (hL _ (by simp)) (hR _ (by simp)) hA
  · exact va_Zof (hL _ (by simp)) (hL _ (by simp)) (va_eqi (hR _ (by simp))) hA
  · exact va_Zqof (hL _ (by simp)) (hL _ (by simp)) (hR _ (by simp)) hA
  · exact hS
  · intro q hq
    obtain ⟨k1, k2⟩ := nw_strK q hq
    refine vk_R.of (hN _ k1) ?_
    rcases k2 with ⟨k2, k3⟩ | k2
    · have e : strTm q.2.2 = .string q.1 q.2.1 := by
        unfold strTm
        rw [← k2]
      rw [← e]
      exact hK _ k3
    · subst k2
      exact eqR (hR (.eq (.string "RootDuel$Reader" 153) (.string "RootDuel$Page" 52)) (by simp)) (hK 7 (by decide))
  · exact fun w hw => nest_of hw (hN w (nw_nest w hw))
  · exact fun q hq => absurd hq List.not_mem_nil
  · refine ⟨va_Zof (hL _ (by simp)) (hL _ (by simp)) e3 hA, va_Zof (hL _ (by simp)) (hL _ (by simp)) e4 hA, va_Zof (hL _ (by simp)) (hL _ (by simp)) e5 hA, va_Fw.of (hL _ (by simp)) (hL _ (by simp)) (hL _ (by simp)) (hL _ (by simp)) (hL _ (by simp)), va_Fw.of (hL _ (by simp)) (hL _ (by simp)) (hL _ (by simp)) (hL _ (by simp)) (hL _ (by simp))⟩
/-- the cells of the start that the law's walk knows -/
def lay0 (g : GG) (sa L n : Nat) : Lay := (fun a => if a = sa then some (1, L, fun _ => none) else if a = g.2.2.1 3 then some (10, 100, fun _ => none) else if a = g.2.2.1 4 then some (10, 100, fun _ => none) else if a = g.2.2.1 5 then some (9, 0, fun _ => none) else none, n)
def mem0 (g : GG) (sa : Nat) (xs : Nat → Int32) : Mem := fun a j => if a = sa then (xs j).toInt else if a = g.2.2.1 3 then 48 + ((j % 10 : Nat) : Int) else 48 + ((j / 10 : Nat) : Int)
theorem dig_ofI (k j : Nat) : Int32.ofInt ((digF k j : Nat) : Int) = Int32.ofNat (digF k j) := by
  first | rfl | exact Int32.ofInt_natCast _ | simp
theorem rep_start {s : State} {b L : Nat} {xs : Nat → Int32} {g : GG} (hL : L ≤ 260) (hX : va_X b L xs s s.heap) (A3 : ArS s (g.2.2.1 3) .byte 100 (fun j => Int32.ofNat (digF 0 j))) (A4 : ArS s (g.2.2.1 4) .byte 100 (fun j => Int32.ofNat (digF 1 j))) (A5 : ArS s (g.2.2.1 5) (.object "java/lang/Object") 0 (fun _ => 0)) (hg : g.2.1 = s.heap.size) (hb : b < s.heap.size) : Rep g s (lay0 g b L s.heap.size) (mem0 g b xs) s.heap ∧ JcP g (lay0 g b L s.heap.size) (mem0 g b xs) ∧ KN (lay0 g b L s.heap.size) b (1, L, fun _ => none) := by
  have AX : ArS s b .int L xs := by
    obtain ⟨scr, h1, h2, h3, h4, h5⟩ := hX
    exact ⟨scr, h1, h2, h3, h4, h5⟩
  have n3 : g.2.2.1 3 ≠ b := A3.ne_ty AX (by decide)
  have n4 : g.2.2.1 4 ≠ b := A4.ne_ty AX (by decide)
  have n5 : g.2.2.1 5 ≠ b := A5.ne_ty AX (by decide)
  have n34 : g.2.2.1 4 ≠ g.2.2.1 3 := A4.ne_at A3 (j := 10) (by decide) (by decide) (by decide)
  have n35 : g.2.2.1 5 ≠ g.2.2.1 3 := A5.ne_ty A3 (by decide)
  have n45 : g.2.2.1 5 ≠ g.2.2.1 4 := A5.ne_ty A4 (by decide)
  have k3 : (lay0 g b L s.heap.size).1 (g.2.2.1 3) = some (10, 100, fun _ => none) := by
    show (if g.2.2.1 3 = b then _ else _) = _
    rw [if_neg n3, if_pos rfl]
  have k4 : (lay0 g b L s.heap.size).1 (g.2.2.1 4) = some (10, 100, fun _ => none) := by
    show (if g.2.2.1 4 = b then _ else _) = _
    rw [if_neg n4, if_neg n34, if_pos rfl]
  have k5 : (lay0 g b L s.heap.size).1 (g.2.2.1 5) = some (9, 0, fun _ => none) := by
    show (if g.2.2.1 5 = b then _ else _) = _
    rw [if_neg n5, if_neg n35, if_neg n45, if_pos rfl]
  have m3 : ∀ j, mem0 g b xs (g.2.2.1 3) j = 48 + ((j % 10 : Nat) : Int) := fun j => by
    unfold mem0
    rw [if_neg n3, if_pos rfl]
  have m4 : ∀ j, mem0 g b xs (g.2.2.1 4) j = 48 + ((j / 10 : Nat) : Int) := fun j => by
    unfold mem0
    rw [if_neg n4, if_neg n34]
  refine ⟨⟨rfl, fun a k hk => ?_⟩, ⟨⟨⟨k3, A3.lt⟩, by rw [hg]; exact A3.lt⟩, ⟨⟨k4, A4.lt⟩, by rw [hg]; exact A4.lt⟩, ⟨⟨k5, A5.lt⟩, by rw [hg]; exact A5.lt⟩, fun k _ => m3 k, fun k _ => m4 k⟩, ⟨if_pos rfl, hb⟩⟩
  by_cases e : a = b
  · have hk2 : some ((1, L, fun _ => none) : Kd) = some k := by
      rw [← hk]
      exact (if_pos e).symm
    cases hk2
    subst e
    obtain ⟨scr, h1, h2, h3, h4, h5⟩ := AX
    refine ⟨scr, h1, h2, h3, h4, by show L < 1000000; omega, fun z => absurd z (by decide), fun j hj => ⟨?_, ?_⟩⟩
    · show scr.slots[j]? = some (.int (Int32.ofInt (mem0 g a xs a j)))
      rw [show mem0 g a xs a j = (xs j).toInt from if_pos rfl, Int32.ofInt_toInt]
      exact h5 j hj
    · show i32 (mem0 g a xs a j)
      rw [show mem0 g a xs a j = (xs j).toInt from if_pos rfl]
      exact ⟨by have := Int32.le_toInt (xs j); omega, by have := Int32.toInt_lt (xs j); omega⟩
  · by_cases e3 : a = g.2.2.1 3
    · subst e3
      cases hk.symm.trans k3
      obtain ⟨cell, h1, h2, h3, h4, h5⟩ := A3
      refine ⟨cell, h1, h2, h3, h4, by show 100 < 1000000; decide, fun z => absurd z (by decide), fun j hj => ?_⟩
      have hj : j < 100 := hj
      refine ⟨?_, ?_⟩
      · show cell.slots[j]? = some (.int (Int32.ofInt (mem0 g b xs (g.2.2.1 3) j)))
        rw [m3, h5 j hj, show (48 + ((j % 10 : Nat) : Int)) = ((digF 0 j : Nat) : Int) from rfl, dig_ofI]
      · show -128 ≤ mem0 g b xs (g.2.2.1 3) j ∧ mem0 g b xs (g.2.2.1 3) j ≤ 127
        rw [m3]
        omega
    · by_cases e4 : a = g.2.2.1 4
      · subst e4
        cases hk.symm.trans k4
        obtain ⟨cell, h1, h2, h3, h4, h5⟩ := A4
        refine ⟨cell, h1, h2, h3, h4, by show 100 < 1000000; decide, fun z => absurd z (by decide), fun j hj => ?_⟩
        have hj : j < 100 := hj
        refine ⟨?_, ?_⟩
        · show cell.slots[j]? = some (.int (Int32.ofInt (mem0 g b xs (g.2.2.1 4) j)))
          rw [m4, h5 j hj, show (48 + ((j / 10 : Nat) : Int)) = ((digF 1 j : Nat) : Int) from rfl, dig_ofI]
        · show -128 ≤ mem0 g b xs (g.2.2.1 4) j ∧ mem0 g b xs (g.2.2.1 4) j ≤ 127
          rw [m4]
          omega
      · by_cases e5 : a = g.2.2.1 5
        · subst e5
          cases hk.symm.trans k5
          obtain ⟨cell, h1, h2, h3, h4, h5⟩ := A5
          exact ⟨cell, h1, h2, h3, h4, by show 0 < 1000000; decide, fun z => absurd z (by decide), fun j hj => absurd hj (Nat.not_lt_zero j)⟩
        · have hk2 : (none : Option Kd) = some k := by
            rw [← hk]
            show _ = (if a = b then _ else _)
            rw [if_neg e, if_neg e3, if_neg e4, if_neg e5]
          cases hk2
/-- the classes' numbers -/
theorem kn_start {args : Array Value} {s : State} (hw : ∀ w ∈ wsL_law, w.before args s = true) : ∃ D : va_G, ∀ (k : Nat) (q : vw_C), vwCl[k]? = some q → u_Kn s q.1 q.2.1 q.2.2 (D.1 k) (D.2 k) := by
  obtain ⟨c0, i0, k0⟩ := u_known (C := RX0) (T := TX0) (N := 9) (n := 9) hw inX0 (hw (.instantiable RX0 9) (by decide +kernel))
  obtain ⟨c1, i1, k1⟩ := u_known (C := RX1) (T := TX1) (N := 2) (n := 2) hw inX1 (hw (.instantiable RX1 2) (by decide +kernel))
  obtain ⟨c2, i2, k2⟩ := u_known (C := RX2) (T := TX2) (N := 13) (n := 13) hw inX2 (hw (.instantiable RX2 13) (by decide +kernel))
  obtain ⟨c3, i3, k3⟩ := u_known (C := RX3) (T := TX3) (N := 4) (n := 4) hw inX3 (hw (.instantiable RX3 4) (by decide +kernel))
  obtain ⟨c4, i4, k4⟩ := u_known (C := RX4) (T := TX4) (N := 9) (n := 9) hw inX4 (hw (.instantiable RX4 9) (by decide +kernel))
  obtain ⟨c5, i5, k5⟩ := u_known (C := RX5) (T := TX5) (N := 5) (n := 5) hw inX5 (hw (.instantiable RX5 5) (by decide +kernel))
  obtain ⟨c6, i6, k6⟩ := u_known (C := RX6) (T := TX6) (N := 14) (n := 14) hw inX6 (hw (.instantiable RX6 14) (by decide +kernel))
  obtain ⟨c7, i7, k7⟩ := u_known (C := RX7) (T := TX7) (N := 2) (n := 2) hw inX7 (hw (.instantiable RX7 2) (by decide +kernel))
  obtain ⟨c8, i8, k8⟩ := u_known (C := RJ4) (T := TJ4) (N := 4) (n := 4) hw inJ4 (hw (.instantiable RJ4 4) (by decide +kernel))
  obtain ⟨c9, i9, k9⟩ := u_known (C := RJ0) (T := TJ0) (N := 4) (n := 4) hw inJ0 (hw (.instantiable RJ0 4) (by decide +kernel))
  obtain ⟨c10, i10, k10⟩ := u_known (C := RJx4a65c) (T := TJx4a65c) (N := 3) (n := 3) hw inJx4a65c (hw (.instantiable RJx4a65c 3) (by decide +kernel))
  obtain ⟨c11, i11, k11⟩ := u_known (C := RJx35411) (T := TJx35411) (N := 4) (n := 4) hw inJx35411 (hw (.instantiable RJx35411 4) (by decide +kernel))
  refine ⟨(fun k => match k with | 0 => c0 | 1 => c1 | 2 => c2 | 3 => c3 | 4 => c4 | 5 => c5 | 6 => c6 | 7 => c7 | 8 => c8 | 9 => c9 | 10 => c10 | _ => c11, fun k => match k with | 0 => i0 | 1 => i1 | 2 => i2 | 3 => i3 | 4 => i4 | 5 => i5 | 6 => i6 | 7 => i7 | 8 => i8 | 9 => i9 | 10 => i10 | _ => i11), fun k q hq => ?_⟩
  match k, hq with
  | 0, hq => cases hq; exact k0
  | 1, hq => cases hq; exact k1
  | 2, hq => cases hq; exact k2
  | 3, hq => cases hq; exact k3
  | 4, hq => cases hq; exact k4
  | 5, hq => cases hq; exact k5
  | 6, hq => cases hq; exact k6
  | 7, hq => cases hq; exact k7
  | 8, hq => cases hq; exact k8
  | 9, hq => cases hq; exact k9
  | 10, hq => cases hq; exact k10
  | 11, hq => cases hq; exact k11
  | k + 12, hq => simp [vwCl] at hq
