/-! X: Math, arraycopy, statics, switches, constants. -/
theorem x_copied_size (cs cd : Cell) (sp dp n : Int32) : (copied cs cd sp dp n).slots.size = cd.slots.size := by
  show (Cell.storeRun _ _ _).slots.size = _
  exact (Cell.storeRun_facts _ _ _).2.2.1
theorem x_copied_at {cs cd : Cell} {sp dp n : Int32} (h : sp.toNatClampNeg + n.toNatClampNeg ≤ cs.slots.size) (h2 : dp.toNatClampNeg + n.toNatClampNeg ≤ cd.slots.size) (j : Nat) : (copied cs cd sp dp n).slots[j]? = if dp.toNatClampNeg ≤ j ∧ j < dp.toNatClampNeg + n.toNatClampNeg then cs.slots[sp.toNatClampNeg + (j - dp.toNatClampNeg)]? else cd.slots[j]? := by
  show (cd.storeRun dp.toNatClampNeg (cs.stretch sp.toNatClampNeg n.toNatClampNeg)).slots[j]? = _
  rw [Cell.storeRun_get _ _ _ _ (by rw [Cell.stretch_length]; exact h2), Cell.stretch_length]
  by_cases e : dp.toNatClampNeg ≤ j ∧ j < dp.toNatClampNeg + n.toNatClampNeg
  · rw [if_pos e, if_pos e]
    unfold Cell.stretch
    rw [List.getElem?_map, List.getElem?_range (by omega), Option.map_some, Array.getD_eq_getD_getElem?]
    cases hc : cs.slots[sp.toNatClampNeg + (j - dp.toNatClampNeg)]? with
    | none => exact absurd (Array.getElem?_eq_none_iff.mp hc) (by omega)
    | some z => rfl
  · rw [if_neg e, if_neg e]
theorem GF.nest {g : GG} {s : State} {H : Heap} {w : Cond} (h : GF g s H) (hw : w ∈ nestW) : va_Nw w s := h.2.2.2.2.2.2.2.2.2.2.2.2.1 w hw
theorem tabF_rng (q j : Nat) : i32 (tabF q j) := by
  have h : ∀ (l : List Int) (j : Nat), (∀ x ∈ l, i32 x) → i32 (l.getD j 0) := by
    intro l
    induction l with
    | nil => intro j _; exact i32_0
    | cons a l ih =>
      intro j hl
      cases j with
      | zero => exact hl a List.mem_cons_self
      | succ j => exact ih j (fun x hx => hl x (List.mem_cons_of_mem _ hx))
  unfold tabF
  split <;> exact h _ _ (by decide)
section XM
variable {g : GG} {r : MR} {cn ck : Nat} {lay : Lay} {M : Mem} {pc : Nat} {L L' : List (Nat × AV)} {st : List AV} {K : KK}
def CM_max (own : String) (idx : Nat) : Prop := Cond.methodLink own idx Lib.Math.max.name ∈ wsL_law ∧ Cond.static Lib.Math.max.name ∈ wsL_law ∧ Cond.initialized "java/lang/Math" ∈ wsL_law ∧ Cond.code Lib.Math.max.name Lib.Math.max.code 2 (some .int) ∈ wsL_law
theorem x_mmax {idx : Nat} {x y : Int} (cw : CM_max r.1.cls idx) (hd : decode r.2.1 pc = .ok (.invokestatic idx, 3)) (hx0 : i32 x) (hy0 : i32 y) (hst : cats st ≤ 8) (hR : 1 ≤ r_fr r ∧ 21 ≤ r_lo r) (hc : cn ≤ r_mc r) (hs : ck ≤ r_ms r) (k : X g r cn ck lay M (pc + 3) L (vI (if x < y then y else x) :: st) K) : X g r cn ck lay M pc L (vI y :: vI x :: st) K := by
  intro p l e s m args below meth c H locs ls C G R S hl
  obtain ⟨hx, hb, hml, hre, hlo, hown, hts, htb, hst0, hnm0⟩ := id C
  have w := k p l e s m args below meth c H locs ls C G R S hl
  exact va_mmax hx hb (hml.trans hl.1.symm) hown (hts _ cw.1) (hts _ cw.2.1) (hts _ cw.2.2.1) (hts _ cw.2.2.2) hR.1 (by have e : (rmOf r).locals = r_lo r := rfl; have e2 := cats_eq st; omega) hc hs hd (by rw [show (if Int32.ofInt x < Int32.ofInt y then Int32.ofInt y else Int32.ofInt x) = Int32.ofInt (if x < y then y else x) by by_cases h : x < y <;> simp [n32_lt hx0 hy0, h]]; exact w)
def CM_min (own : String) (idx : Nat) : Prop := Cond.methodLink own idx Lib.Math.min.name ∈ wsL_law ∧ Cond.static Lib.Math.min.name ∈ wsL_law ∧ Cond.initialized "java/lang/Math" ∈ wsL_law ∧ Cond.code Lib.Math.min.name Lib.Math.min.code 2 (some .int) ∈ wsL_law
theorem x_mmin {idx : Nat} {x y : Int} (cw : CM_min r.1.cls idx) (hd : decode r.2.1 pc = .ok (.invokestatic idx, 3)) (hx0 : i32 x) (hy0 : i32 y) (hst : cats st ≤ 8) (hR : 1 ≤ r_fr r ∧ 21 ≤ r_lo r) (hc : cn ≤ r_mc r) (hs : ck ≤ r_ms r) (k : X g r cn ck lay M (pc + 3) L (vI (if y < x then y else x) :: st) K) : X g r cn ck lay M pc L (vI y :: vI x :: st) K := by
  intro p l e s m args below meth c H locs ls C G R S hl
  obtain ⟨hx, hb, hml, hre, hlo, hown, hts, htb, hst0, hnm0⟩ := id C
  have w := k p l e s m args below meth c H locs ls C G R S hl
  exact va_mmin hx hb (hml.trans hl.1.symm) hown (hts _ cw.1) (hts _ cw.2.1) (hts _ cw.2.2.1) (hts _ cw.2.2.2) hR.1 (by have e : (rmOf r).locals = r_lo r := rfl; have e2 := cats_eq st; omega) hc hs hd (by rw [show (if Int32.ofInt y < Int32.ofInt x then Int32.ofInt y else Int32.ofInt x) = Int32.ofInt (if y < x then y else x) by by_cases h : y < x <;> simp [n32_lt hy0 hx0, h]]; exact w)
def CM_abs (own : String) (idx : Nat) : Prop := Cond.methodLink own idx Lib.Math.abs.name ∈ wsL_law ∧ Cond.static Lib.Math.abs.name ∈ wsL_law ∧ Cond.initialized "java/lang/Math" ∈ wsL_law ∧ Cond.code Lib.Math.abs.name Lib.Math.abs.code 1 (some .int) ∈ wsL_law
theorem x_mabs {idx : Nat} {x : Int} (cw : CM_abs r.1.cls idx) (hd : decode r.2.1 pc = .ok (.invokestatic idx, 3)) (hx0 : i32 x) (hst : cats st ≤ 8) (hR : 1 ≤ r_fr r ∧ 21 ≤ r_lo r) (hc : cn ≤ r_mc r) (hs : ck ≤ r_ms r) (k : X g r cn ck lay M (pc + 3) L (vI (if 0 ≤ x then x else 0 - x) :: st) K) : X g r cn ck lay M pc L (vI x :: st) K := by
  intro p l e s m args below meth c H locs ls C G R S hl
  obtain ⟨hx, hb, hml, hre, hlo, hown, hts, htb, hst0, hnm0⟩ := id C
  have w := k p l e s m args below meth c H locs ls C G R S hl
  exact va_mabs hx hb (hml.trans hl.1.symm) hown (hts _ cw.1) (hts _ cw.2.1) (hts _ cw.2.2.1) (hts _ cw.2.2.2) hR.1 (by have e : (rmOf r).locals = r_lo r := rfl; have e2 := cats_eq st; omega) hc hs hd (by rw [show (if 0 ≤ Int32.ofInt x then Int32.ofInt x else 0 - Int32.ofInt x) = Int32.ofInt (if 0 ≤ x then x else 0 - x) by have e : (0 ≤ Int32.ofInt x) ↔ 0 ≤ x := n32_le i32_0 hx0; by_cases h : 0 ≤ x <;> simp [e, h]]; exact w)
def CM_labs (own : String) (idx : Nat) : Prop := Cond.methodLink own idx Lib.MathLoose.abs_long.x ∈ wsL_law ∧ Cond.static Lib.MathLoose.abs_long.x ∈ wsL_law ∧ Cond.initialized "java/lang/Math" ∈ wsL_law ∧ Cond.code Lib.MathLoose.abs_long.x Lib.MathLoose.abs_long.code 2 (some .long) ∈ wsL_law
theorem x_mlabs {idx : Nat} {x : Int} (cw : CM_labs r.1.cls idx) (hd : decode r.2.1 pc = .ok (.invokestatic idx, 3)) (hx0 : i64 x) (hst : cats st ≤ 8) (hR : 1 ≤ r_fr r ∧ 21 ≤ r_lo r) (hc : cn ≤ r_mc r) (hs : ck ≤ r_ms r) (k : X g r cn ck lay M (pc + 3) L (vJ (if 0 < x then x else -x) :: st) K) : X g r cn ck lay M pc L (vJ x :: st) K := by
  intro p l e s m args below meth c H locs ls C G R S hl
  obtain ⟨hx, hb, hml, hre, hlo, hown, hts, htb, hst0, hnm0⟩ := id C
  have w := k p l e s m args below meth c H locs ls C G R S hl
  have e1 : (if 0 < Int64.ofInt x then Int64.ofInt x else -Int64.ofInt x) = Int64.ofInt (if 0 < x then x else -x) := by
    have e : (0 < Int64.ofInt x) ↔ 0 < x := n64_lt (x := 0) (by decide) hx0
    by_cases h : 0 < x <;> simp [e, h]
  exact va_mabs_long hx hb (hml.trans hl.1.symm) hown (hts _ cw.1) (hts _ cw.2.1) (hts _ cw.2.2.1) (hts _ cw.2.2.2) hR.1 (by have e : (rmOf r).locals = r_lo r := rfl; have e2 := cats_eq st; omega) hc hs hd (by rw [e1]; exact w)
/-- a stretch of one cell, copied into another -/
def mcopy (M : Mem) (a sp b dp n : Nat) : Mem := fun q j => if q = b ∧ dp ≤ j ∧ j < dp + n then M a (sp + (j - dp)) else M q j
theorem mcopy_in {M : Mem} {a sp b dp n j : Nat} (h1 : dp ≤ j) (h2 : j < dp + n) : mcopy M a sp b dp n b j = M a (sp + (j - dp)) := if_pos ⟨rfl, h1, h2⟩
theorem mcopy_nea {M : Mem} {a sp b dp n q j : Nat} (h : ¬ q = b) : mcopy M a sp b dp n q j = M q j := if_neg (fun z => h z.1)
theorem mcopy_out {M : Mem} {a sp b dp n q j : Nat} (h : ¬ (dp ≤ j ∧ j < dp + n)) : mcopy M a sp b dp n q j = M q j := if_neg (fun z => h z.2)
def CAC (own : String) (idx : Nat) : Prop := Cond.methodLink own idx arraycopyName ∈ wsL_law ∧ Cond.native arraycopyName ∈ wsL_law ∧ Cond.static arraycopyName ∈ wsL_law ∧ Cond.initialized "java/lang/System" ∈ wsL_law
/-- arraycopy into a cell of ours, from any cell whose slots are known -/
theorem x_copy0 {idx a b n0 n1 t : Nat} {rf : Nat → Option Nat} {sp dp n : Int} {f : Nat → Int} (cw : CAC r.1.cls idx) (hd : decode r.2.1 pc = .ok (.invokestatic idx, 3)) (hkb : lay.1 b = some (t + 1, n1, rf)) (hw : g.2.1 ≤ b) (ht : t = 0 ∨ t = 1) (h0 : 0 ≤ sp) (h1 : 0 ≤ dp) (h2 : 0 ≤ n) (h3 : sp + n ≤ n0) (h4 : dp + n ≤ n1) (hn0 : n0 < 1000000)
    (hsrc : ∀ {s : State} {H : Heap} {locs : List Loc}, GF g s s.heap → Rep g s lay M H → va_S (gA g) s.heap H locs → ∃ cell : Cell, H[a]? = some cell ∧ s.isArrayOf cell (aty t) ∧ (∀ k, cell.vm ≠ .statics k) ∧ cell.vm ≠ .unknown ∧ n0 ≤ cell.slots.size ∧ ∀ j : Nat, j < n0 → cell.slots[j]? = some (aval t none (f j)) ∧ arng t (f j))
    (hst : cats st ≤ 8) (hR : 1 ≤ r_fr r ∧ 48 ≤ r_lo r)
    (k : X g r cn ck lay (fun q j => if q = b ∧ dp.toNat ≤ j ∧ j < dp.toNat + n.toNat then f (sp.toNat + (j - dp.toNat)) else M q j) (pc + 3) L st K) : X g r cn ck lay M pc L (vI n :: vI dp :: vR b :: vI sp :: vR a :: st) K := by
  intro p l e s m args below meth c H locs ls C G R S hl
  obtain ⟨hx, hb, hml, hre, hlo, hown, hts, htb, hst0, hnm0⟩ := id C
  obtain ⟨cs, s1, s2, s3, s4, s5, s6⟩ := hsrc G R S
  obtain ⟨cd, d1, d2, d3, d4, d5, d6, d7⟩ := x_arr R hkb
  obtain ⟨-, ks, hks, sc, hsk⟩ := s2
  obtain ⟨-, kd, hkd, dc, hdk⟩ := id d2
  have isp : i32 sp := ⟨by omega, by omega⟩
  have idp : i32 dp := ⟨by omega, by omega⟩
  have inn : i32 n := ⟨by omega, by omega⟩
  have eneg : ∀ x : Int, i32 x → 0 ≤ x → ¬ Int32.ofInt x < 0 := fun x hx h q => by
    have := (n32_lt hx i32_0).mp q
    omega
  have hprim : refKind (aty t) = false := by rcases ht with rfl | rfl <;> rfl
  have hav : ∀ (q : Option Nat) (x : Int), aval t q x = aval t none x := fun q x => by rcases ht with rfl | rfl <;> rfl
  have e8 : 2 * (F0 m pc ls ((vI n :: vI dp :: vR b :: vI sp :: vR a :: st).map cv)).monitorRoom + ((st.map cv).map fun v => v.category).sum + (nativeFrameWords "java/lang/System" "arraycopy" 5 + 11) ≤ (rmOf r).locals := by
    have e9 : nativeFrameWords "java/lang/System" "arraycopy" 5 + 11 ≤ 40 := by decide
    rw [cats_eq st]
    show 2 * 0 + _ + (nativeFrameWords "java/lang/System" "arraycopy" 5 + 11) ≤ r_lo r
    omega
  intro T hT X0
  obtain ⟨vm', X', step⟩ := X0.arraycopy hx hown (hts _ cw.1) (hts _ cw.2.1) (hts _ cw.2.2.1) (hts _ cw.2.2.2) (src := a) (dst := b) (cs := cs) (cd := cd) (srcPos := Int32.ofInt sp) (destPos := Int32.ofInt dp) (n := Int32.ofInt n) (by rw [hT]; exact s1) (by rw [hT]; exact d1)
    s3 (fun q h => d2.1 q h) s4 d3 hks hkd hsk hdk (by rw [hprim]; simp) (eneg _ isp h0) (eneg _ idp h1) (eneg _ inn h2)
    (by rw [n32_toInt isp, n32_toInt inn]; omega) (by rw [n32_toInt idp, n32_toInt inn, d4]; omega)
    (fun vm₁ _ i hi => by
      rw [n32_cl inn] at hi
      rw [n32_cl isp]
      obtain ⟨e1, e2⟩ := s6 (sp.toNat + i) (by omega)
      have e3 : cs.slots.getD (sp.toNat + i) .null = aval t none (f (sp.toNat + i)) := by rw [Array.getD_eq_getD_getElem?, e1]; rfl
      rw [e3]
      rcases ht with rfl | rfl
      · exact ⟨rfl, trivial⟩
      · exact ⟨rfl, trivial⟩)
    (g := F0 m pc ls ((vI n :: vI dp :: vR b :: vI sp :: vR a :: st).map cv)) rfl (by rw [hml]; exact hl.1) (rest := st.map cv) rfl (by rw [hb]; exact hd) hR.1 e8
  have hlb : b < H.size := (Array.getElem?_eq_some_iff.mp d1).1
  have hheap : ((T.setVm vm').setCell b (copied cs cd (Int32.ofInt sp) (Int32.ofInt dp) (Int32.ofInt n))).heap = H.setIfInBounds b (copied cs cd (Int32.ofInt sp) (Int32.ofInt dp) (Int32.ofInt n)) := by rw [← hT]; rfl
  have oq : ∀ q : Nat, q ≠ b → (H.setIfInBounds b (copied cs cd (Int32.ofInt sp) (Int32.ofInt dp) (Int32.ofInt n)))[q]? = H[q]? := fun q hq => by simp [Array.getElem?_setIfInBounds, Ne.symm hq]
  have hrep : ∀ (q : Nat) (kq : Kd), lay.1 q = some kq → cellIs g s kq (fun j => if q = b ∧ dp.toNat ≤ j ∧ j < dp.toNat + n.toNat then f (sp.toNat + (j - dp.toNat)) else M q j) q (H.setIfInBounds b (copied cs cd (Int32.ofInt sp) (Int32.ofInt dp) (Int32.ofInt n))) := by
    intro q kq hq
    by_cases e : q = b
    · subst e
      cases hkb.symm.trans hq
      refine ⟨_, show (H.setIfInBounds q _)[q]? = some _ by simp [Array.getElem?_setIfInBounds, hlb]; rfl, ?_⟩
      have f1 : (copied cs cd (Int32.ofInt sp) (Int32.ofInt dp) (Int32.ofInt n)).cls = cd.cls := (Cell.storeRun_facts _ _ _).1
      have f2 : (copied cs cd (Int32.ofInt sp) (Int32.ofInt dp) (Int32.ofInt n)).vm = cd.vm := (Cell.storeRun_facts _ _ _).2.1
      refine ⟨⟨fun q => by rw [f2]; exact d2.1 q, by rw [f1]; exact d2.2⟩, by rw [f2]; exact d3, ?_, d5, by rw [f1]; exact d6, fun j hj => ?_⟩
      · rw [x_copied_size]
        exact d4
      · rw [x_copied_at (by rw [n32_cl inn, n32_cl isp]; omega) (by rw [n32_cl inn, n32_cl idp, d4]; omega), n32_cl inn, n32_cl idp, n32_cl isp]
        by_cases hin : dp.toNat ≤ j ∧ j < dp.toNat + n.toNat
        · rw [if_pos hin]
          obtain ⟨e1, e2⟩ := s6 (sp.toNat + (j - dp.toNat)) (by omega)
          rw [e1]
          simp only [true_and, hin, and_self, if_true]
          exact ⟨by rw [hav (rf j)], e2⟩
        · rw [if_neg hin]
          simp only [true_and, hin, if_false]
          exact d7 j hj
    · have e2 : (fun j => if q = b ∧ dp.toNat ≤ j ∧ j < dp.toNat + n.toNat then f (sp.toNat + (j - dp.toNat)) else M q j) = M q := funext fun j => if_neg (fun z => e z.1)
      show cellIs g s kq (fun j => if q = b ∧ dp.toNat ≤ j ∧ j < dp.toNat + n.toNat then f (sp.toNat + (j - dp.toNat)) else M q j) q _
      rw [e2]
      exact (R.2 q kq hq).kept (oq q e)
  obtain ⟨t2, a1, b1⟩ := k p l e s m args below meth c _ _ ls C G ⟨by simp; exact R.1, hrep⟩ ⟨by simp; exact S.1, fun q g1 g2 => by
      rw [oq q (fun e => g2 (by rw [e]; exact hw))]
      exact S.2.1 q g1 g2, fun q hq => by
      rcases List.mem_append.mp hq with h | h
      · exact S.2.2 q h
      · obtain ⟨z, -, hz⟩ := List.mem_map.mp h
        rw [← hz]
        exact hw⟩ hl _ hheap X'
  exact ⟨t2, step t2 a1, b1⟩
/-- arraycopy between two cells of ours -/
theorem x_copy {idx a b n0 n1 t : Nat} {rf rf0 : Nat → Option Nat} {sp dp n : Int} (cw : CAC r.1.cls idx) (hd : decode r.2.1 pc = .ok (.invokestatic idx, 3)) (hka : lay.1 a = some (t + 1, n0, rf0)) (hkb : lay.1 b = some (t + 1, n1, rf)) (hw : g.2.1 ≤ b) (ht : t = 0 ∨ t = 1) (h0 : 0 ≤ sp) (h1 : 0 ≤ dp) (h2 : 0 ≤ n) (h3 : sp + n ≤ n0) (h4 : dp + n ≤ n1) (hn0 : n0 < 1000000) (hst : cats st ≤ 8) (hR : 1 ≤ r_fr r ∧ 48 ≤ r_lo r)
    (k : X g r cn ck lay (mcopy M a sp.toNat b dp.toNat n.toNat) (pc + 3) L st K) : X g r cn ck lay M pc L (vI n :: vI dp :: vR b :: vI sp :: vR a :: st) K :=
  x_copy0 (f := M a) cw hd hkb hw ht h0 h1 h2 h3 h4 hn0 (fun {s H locs} G R S => by
    obtain ⟨cell, c1, c2, c3, c4, c5, c6, c7⟩ := x_arr R hka
    refine ⟨cell, c1, c2, fun q h => c2.1 q h, c3, by omega, fun j hj => ?_⟩
    obtain ⟨e1, e2⟩ := c7 j hj
    refine ⟨?_, e2⟩
    rw [e1]
    rcases ht with rfl | rfl <;> rfl) hst hR k
/-- arraycopy out of a static table -/
theorem x_copyT {idx b n1 q : Nat} {rf : Nat → Option Nat} {sp dp n : Int} (cw : CAC r.1.cls idx) (hd : decode r.2.1 pc = .ok (.invokestatic idx, 3)) (hq : q < 3) (hkb : lay.1 b = some (1, n1, rf)) (hw : g.2.1 ≤ b) (h0 : 0 ≤ sp) (h1 : 0 ≤ dp) (h2 : 0 ≤ n) (h3 : sp + n ≤ 7) (h4 : dp + n ≤ n1) (hst : cats st ≤ 8) (hR : 1 ≤ r_fr r ∧ 48 ≤ r_lo r)
    (k : X g r cn ck lay (fun z j => if z = b ∧ dp.toNat ≤ j ∧ j < dp.toNat + n.toNat then tabF q (sp.toNat + (j - dp.toNat)) else M z j) (pc + 3) L st K) : X g r cn ck lay M pc L (vI n :: vI dp :: vR b :: vI sp :: vR (g.2.2.1 q) :: st) K :=
  x_copy0 (n0 := 7) (t := 0) (f := tabF q) cw hd hkb hw (Or.inl rfl) h0 h1 h2 h3 h4 (by decide) (fun {s H locs} G R S => by
    obtain ⟨cell, c1, c2, c3, c4, c5, c6, c7⟩ := (G.2.2.2.2.2.1 q hq).kept S.2.1
    refine ⟨cell, c1, c2, c2.1, c3, c4, fun j hj => ⟨c6 j hj, ?_⟩⟩
    exact tabF_rng q j) hst hR k
def GS (own : String) (idx : Nat) (n : String) : Prop := Cond.fieldLinkNest own idx "RootDuel" n "[I" "RootDuel" ∈ nestW
theorem x_gets {idx q : Nat} {n : String} (cw : GS r.1.cls idx n) (hq : (q = 0 ∧ n = "FIRST_SETTINGS") ∨ (q = 1 ∧ n = "LEAST_SETTINGS") ∨ (q = 2 ∧ n = "MOST_SETTINGS")) (hd : decode r.2.1 pc = .ok (.getstatic idx, 3)) (k : X g r cn ck lay M (pc + 3) L (vR (g.2.2.1 q) :: st) K) : X g r cn ck lay M pc L st K := by
  intro p l e s m args below meth c H locs ls C G R S hl
  obtain ⟨hx, hb, hml, hre, hlo, hown, hts, htb, hst0, hnm0⟩ := id C
  have w := k p l e s m args below meth c H locs ls C G R S hl
  rcases hq with ⟨rfl, rfl⟩ | ⟨rfl, rfl⟩ | ⟨rfl, rfl⟩
  · exact va_getsN hx hb G.2.2.1 S hown (va_Nw.use rfl (G.nest cw)) (fun _ h => h) hd w
  · exact va_getsN hx hb G.2.2.2.1 S hown (va_Nw.use rfl (G.nest cw)) (fun _ h => h) hd w
  · exact va_getsN hx hb G.2.2.2.2.1 S hown (va_Nw.use rfl (G.nest cw)) (fun _ h => h) hd w
theorem x_tald {q : Nat} {i : Int} (hd : decode r.2.1 pc = .ok (.iaload, 1)) (hq : q < 3) (h0 : 0 ≤ i) (h1 : i < 7) (k : X g r cn ck lay M (pc + 1) L (vI (tabF q i.toNat) :: st) K) : X g r cn ck lay M pc L (vI i :: vR (g.2.2.1 q) :: st) K := by
  intro p l e s m args below meth c H locs ls C G R S hl
  obtain ⟨d1, d2, d3, d4⟩ := n_aidx (n := 7) h0 h1 (by decide)
  exact va_ti C.1 C.2.1 (G.2.2.2.2.2.1 q hq) S d2 (by rw [d3]; rfl) hd (k p l e s m args below meth c H locs ls C G R S hl)
theorem x_tsw_in {dflt lo hi : Int} {offs : Array Int} {len : Nat} {x off : Int} {t : Nat} (v : Int) (hd : decode r.2.1 pc = .ok (.tableswitch dflt lo hi offs, len)) (hx : x = v) (hv : i32 v) (h1 : ¬ v < lo) (h2 : ¬ hi < v) (ho : offs[(v - lo).toNat]? = some off) (ht : (pc : Int) + off = (t : Int)) (k : X g r cn ck lay M t L st K) : X g r cn ck lay M pc L (vI x :: st) K := by
  subst hx
  intro p l e s m args below meth c H locs ls C G R S hl
  exact lv_tableIn C.1 C.2.1 hd (by rw [n32_toInt hv]; exact h1) (by rw [n32_toInt hv]; exact h2) (by rw [n32_toInt hv]; exact ho) ht (k p l e s m args below meth c H locs ls C G R S hl)
theorem x_tsw_out {dflt lo hi : Int} {offs : Array Int} {len : Nat} {x : Int} {t : Nat} (hd : decode r.2.1 pc = .ok (.tableswitch dflt lo hi offs, len)) (hv : i32 x) (h1 : x < lo ∨ hi < x) (ht : (pc : Int) + dflt = (t : Int)) (k : X g r cn ck lay M t L st K) : X g r cn ck lay M pc L (vI x :: st) K := by
  intro p l e s m args below meth c H locs ls C G R S hl
  exact lv_tableOut C.1 C.2.1 hd (by rw [n32_toInt hv]; exact h1) ht (k p l e s m args below meth c H locs ls C G R S hl)
theorem x_lsw {dflt : Int} {ps : Array (Int × Int)} {len : Nat} {x off : Int} {t : Nat} (hd : decode r.2.1 pc = .ok (.lookupswitch dflt ps, len)) (hv : i32 x) (hp : (ps.toList.zip (ps.toList.drop 1)).all (fun (a, next) => a.1 < next.1) = true) (ho : Op.lookupswitch.offset ps.toList dflt x = off) (ht : (pc : Int) + off = (t : Int)) (k : X g r cn ck lay M t L st K) : X g r cn ck lay M pc L (vI x :: st) K := by
  intro p l e s m args below meth c H locs ls C G R S hl
  exact lv_lookup C.1 C.2.1 hd hp (by rw [n32_toInt hv]; exact ho) ht (k p l e s m args below meth c H locs ls C G R S hl)
theorem x_ldc2 {idx : Nat} {v : Int64} (x : Int) (cw : Cond.constantLong r.1.cls idx v ∈ wsL_law) (hv : v = Int64.ofInt x) (hd : decode r.2.1 pc = .ok (.ldc2_w idx, 3)) (k : X g r cn ck lay M (pc + 3) L (vJ x :: st) K) : X g r cn ck lay M pc L st K := by
  subst hv
  intro p l e s m args below meth c H locs ls C G R S hl
  exact lv_ldc2 C.1 C.2.1 C.2.2.2.2.2.1 (C.2.2.2.2.2.2.1 _ cw) hd (k p l e s m args below meth c H locs ls C G R S hl)
end XM
theorem klX3_64 : Cond.constantLong RX3 64 (67108863) ∈ wsL_law := bg2 199 rfl rfl
theorem klL_33 : Cond.constantLong RL 33 (64) ∈ wsL_law := bg5 204 rfl rfl
theorem kcX0_36 : CAC RX0 36 := ⟨(bg1 53 rfl rfl), (bg1 55 rfl rfl), (bg1 54 rfl rfl), (bg1 4 rfl rfl)⟩
theorem kmX2_42 : CM_min RX2 42 := ⟨(bg1 232 rfl rfl), (bg1 233 rfl rfl), (bg1 13 rfl rfl), (bg1 234 rfl rfl)⟩
theorem kmX0_53 : CM_min RX0 53 := ⟨(bg2 147 rfl rfl), (bg1 233 rfl rfl), (bg1 13 rfl rfl), (bg1 234 rfl rfl)⟩
theorem kmX3_54 : CM_labs RX3 54 := ⟨(bg2 180 rfl rfl), (bg2 181 rfl rfl), (bg1 13 rfl rfl), (bg2 182 rfl rfl)⟩
theorem kcX3_28 : CAC RX3 28 := ⟨(bg2 183 rfl rfl), (bg1 55 rfl rfl), (bg1 54 rfl rfl), (bg1 4 rfl rfl)⟩
theorem kmX0_123 : CM_max RX0 123 := ⟨(bg3 15 rfl rfl), (bg3 16 rfl rfl), (bg1 13 rfl rfl), (bg3 17 rfl rfl)⟩
theorem kmX1_32 : CM_abs RX1 32 := ⟨(bg4 33 rfl rfl), (bg4 34 rfl rfl), (bg1 13 rfl rfl), (bg4 35 rfl rfl)⟩
theorem kmJ8_194 : CM_max RJ8 194 := ⟨(bg4 132 rfl rfl), (bg3 16 rfl rfl), (bg1 13 rfl rfl), (bg3 17 rfl rfl)⟩
theorem kmJ7_304 : CM_min RJ7 304 := ⟨(bg4 165 rfl rfl), (bg1 233 rfl rfl), (bg1 13 rfl rfl), (bg1 234 rfl rfl)⟩
theorem kcJ7_150 : CAC RJ7 150 := ⟨(bg4 166 rfl rfl), (bg1 55 rfl rfl), (bg1 54 rfl rfl), (bg1 4 rfl rfl)⟩
theorem kmJx4a65c_79 : CM_max RJx4a65c 79 := ⟨(bg4 167 rfl rfl), (bg3 16 rfl rfl), (bg1 13 rfl rfl), (bg3 17 rfl rfl)⟩
theorem kmX6_60 : CM_abs RX6 60 := ⟨(bg4 232 rfl rfl), (bg4 34 rfl rfl), (bg1 13 rfl rfl), (bg4 35 rfl rfl)⟩
theorem kmX6_99 : CM_max RX6 99 := ⟨(bg5 61 rfl rfl), (bg3 16 rfl rfl), (bg1 13 rfl rfl), (bg3 17 rfl rfl)⟩
theorem kmX6_106 : CM_min RX6 106 := ⟨(bg5 62 rfl rfl), (bg1 233 rfl rfl), (bg1 13 rfl rfl), (bg1 234 rfl rfl)⟩
theorem kcJ0_212 : CAC RJ0 212 := ⟨(bg6 116 rfl rfl), (bg1 55 rfl rfl), (bg1 54 rfl rfl), (bg1 4 rfl rfl)⟩
theorem kgX0_33 : GS RX0 33 "FIRST_SETTINGS" := by
  unfold GS
  decide +kernel
theorem kgX2_117 : GS RX2 117 "LEAST_SETTINGS" := by
  unfold GS
  decide +kernel
theorem kgX2_120 : GS RX2 120 "MOST_SETTINGS" := by
  unfold GS
  decide +kernel
