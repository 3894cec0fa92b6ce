/-! Specs of the making of sign rows. -/
/-- the parts of a greatest common divisor, by so many steps -/
def euc : Nat → Nat → Nat → Nat
  | 0, d, _ => d
  | n + 1, d, r => if r = 0 then d else euc n r (d % r)
theorem euc_gcd : ∀ (n d r : Nat), r < d → d * r < 2 ^ n → euc n d r = Nat.gcd d r
  | 0, d, r, h1, h2 => by
    have : r = 0 := by
      rcases Nat.eq_zero_or_pos r with h | h
      · exact h
      · have := Nat.mul_le_mul (show 1 ≤ d by omega) h
        omega
    subst this
    simp [euc]
  | n + 1, d, r, h1, h2 => by
    simp only [euc]
    split
    · next h => rw [h]; simp
    · next h =>
      have hlt := Nat.mod_lt d (Nat.pos_of_ne_zero h)
      have e : 2 * (d % r) < d := by
        have a1 := Nat.div_add_mod d r
        have a2 : 1 ≤ d / r := Nat.div_pos (by omega) (Nat.pos_of_ne_zero h)
        have a3 := Nat.mul_le_mul_left r a2
        omega
      have e2 : r * (d % r) < 2 ^ n := by
        have b1 := Nat.mul_lt_mul_of_pos_left e (Nat.pos_of_ne_zero h)
        have b2 : r * (2 * (d % r)) = 2 * (r * (d % r)) := by rw [Nat.mul_left_comm]
        have b3 : r * d = d * r := Nat.mul_comm _ _
        have b4 : 2 ^ (n + 1) = 2 * 2 ^ n := by rw [Nat.pow_succ, Nat.mul_comm]
        omega
      rw [euc_gcd n r (d % r) hlt e2, Nat.gcd_comm r, ← Nat.gcd_rec, Nat.gcd_comm]
theorem euc_200 {d r : Nat} (hr : r < 2 ^ 63) : euc 200 d r = Nat.gcd d r := by
  show (if r = 0 then d else euc 199 r (d % r)) = _
  split
  · next h => rw [h]; simp
  · next h =>
    have hlt := Nat.mod_lt d (Nat.pos_of_ne_zero h)
    have e : r * (d % r) < 2 ^ 199 := by
      have := Nat.mul_lt_mul_of_lt_of_lt hr (show d % r < 2 ^ 63 by omega)
      omega
    rw [euc_gcd 199 r (d % r) hlt e, Nat.gcd_comm r, ← Nat.gcd_rec, Nat.gcd_comm]
def gcdW (w : Nat → Int) : Nat → Nat
  | 0 => 0
  | j + 1 => Nat.gcd (gcdW w j) (w j).natAbs
def redF (w : Nat → Int) : Nat → Int := fun i => if i < 5 then (if 1 < gcdW w 5 then (w i).tdiv (gcdW w 5) else w i) else 0
/-- how many coefficients, without zeros at the top -/
def topW (w : Nat → Int) : Nat → Nat
  | 0 => 0
  | n + 1 => if w n ≠ 0 then n + 1 else topW w n
def addF (s : RS) (w : Nat → Int) : Int × RS := if topW w 5 = 0 ∨ 5 ≤ s.1 then (0, s) else (1, s.1 + 1, fun k => if k = s.1 then redF w else s.2.1 k, fun k => if k = s.1 then topW w 5 - 1 else s.2.2 k)
def derF (f : Nat → Int) : Nat → Int := fun i => if i < 4 then ((i : Int) + 1) * f (i + 1) else 0
def ab (x : Int) : Int := if 0 < x then x else -x
/-- the top coefficient taken out -/
def canF (e : Nat → Int) (low top : Nat) (w : Nat → Int) : Nat → Int := fun i =>
  if low = 1 ∧ top = 1 then (if i = 0 then sg (ab (e low) * w 0 + -e 0 * (if 0 < e low then w top else -w top)) else if i = 1 then 0 else w i)
  else if i = top then 0 else (if i < top then w i * ab (e low) else w i) - (if top - low ≤ i ∧ i < top then (if 0 < e low then w top else -w top) * e (i - (top - low)) else 0)
def canOK (e : Nat → Int) (low top : Nat) (w : Nat → Int) : Prop :=
  (low = 1 ∧ top = 1 → (-68719476736 < e 1 ∧ e 1 < 68719476736) ∧ (-68719476736 < e 0 ∧ e 0 < 68719476736) ∧ (-2251799813685248 < w 0 ∧ w 0 < 2251799813685248) ∧ (-2251799813685248 < w 1 ∧ w 1 < 2251799813685248)) ∧
  (¬ (low = 1 ∧ top = 1) → ∀ i, i < top → i64 (w i * ab (e low)) ∧ i64 (canF e low top w i))
def divL (e : Nat → Int) (low : Nat) : Nat → Nat → (Nat → Int) → Nat → Int
  | 0, _, w => w
  | k + 1, top, w => divL e low k (top - 1) (canF e low top w)
def divLOK (e : Nat → Int) (low : Nat) : Nat → Nat → (Nat → Int) → Prop
  | 0, _, w => ∀ i, i < 5 → -9223372036854775807 ≤ w i ∧ w i ≤ 9223372036854775807
  | k + 1, top, w => canOK e low top w ∧ divLOK e low k (top - 1) (canF e low top w)
def divF (s : RS) : Nat → Int := fun i => - divL (s.2.1 (s.1 - 1)) (s.2.2 (s.1 - 1)) (s.2.2 (s.1 - 2) + 1 - s.2.2 (s.1 - 1)) (s.2.2 (s.1 - 2)) (s.2.1 (s.1 - 2)) i
def divOK (s : RS) : Prop := s.2.2 (s.1 - 1) ≤ 4 ∧ s.2.2 (s.1 - 2) ≤ 4 ∧ divLOK (s.2.1 (s.1 - 1)) (s.2.2 (s.1 - 1)) (s.2.2 (s.1 - 2) + 1 - s.2.2 (s.1 - 1)) (s.2.2 (s.1 - 2)) (s.2.1 (s.1 - 2))
def redOK (w : Nat → Int) : Prop := ∀ i, i < 5 → -9223372036854775807 ≤ w i ∧ w i ≤ 9223372036854775807
def bldL : Nat → RS → RS
  | 0, s => s
  | n + 1, s => if (addF s (divF s)).1 = 1 then bldL n (addF s (divF s)).2 else (addF s (divF s)).2
def bldLOK : Nat → RS → Prop
  | 0, _ => True
  | n + 1, s => divOK s ∧ ((addF s (divF s)).1 = 1 → bldLOK n (addF s (divF s)).2)
def bld1 (w : Nat → Int) : Int × RS := addF (0, fun _ _ => 0, fun _ => 0) w
def bld2 (w : Nat → Int) : Int × RS := addF (bld1 w).2 (derF ((bld1 w).2.2.1 0))
def buildF (w : Nat → Int) : RS := if (bld1 w).1 = 1 then (if (bld2 w).1 = 1 then bldL 3 (bld2 w).2 else (bld2 w).2) else (bld1 w).2
def buildOK (w : Nat → Int) : Prop := redOK w ∧ ((bld1 w).1 = 1 → redOK (derF ((bld1 w).2.2.1 0)) ∧ ((bld2 w).1 = 1 → bldLOK 3 (bld2 w).2))

set_option maxRecDepth 100000 in
theorem sp_X3_reduce {g : GG} {lay : Lay} {M : Mem} {K : KK} {c : Nat} {w : Nat → Int} (hs : SrL lay c) (hb0 : g.2.1 ≤ c) (hw : ∀ i, i < 5 → M (c + 8) i = w i) (hr : redOK w) (k : ∀ M2, Frm (c + 8) (c + 9) M M2 → (∀ i, i < 5 → M2 (c + 8) i = redF w i) → K (.inl none) lay M2) : X g m_X3_reduce 0 0 lay M 0 [(0, vR c)] [] K := by
  have gb : ∀ n : Nat, n ≤ 5 → gcdW w n < 2 ^ 63 := by
    intro n
    induction n with
    | zero => intro _; simp [gcdW]
    | succ n ih =>
      intro hn
      have h1 := ih (by omega)
      have h2 := hr n (by omega)
      simp only [gcdW]
      rcases Nat.eq_zero_or_pos (w n).natAbs with h | h
      · rw [h]
        simpa using h1
      · have := Nat.le_of_dvd h (Nat.gcd_dvd_right (gcdW w n) (w n).natAbs)
        omega
  have div : ∀ (d j : Nat) (y : Int) (M1 : Mem), j + d = 5 → y = j → 1 < gcdW w 5 → Frm (c + 8) (c + 9) M M1 → (∀ i, i < 5 → M1 (c + 8) i = if i < j then redF w i else w i) → X g m_X3_reduce 0 0 lay M1 71 [(3, vI y), (1, vJ (gcdW w 5 : Nat)), (0, vR c)] [] K := by
    intro d
    have hG := gb 5 (by omega)
    induction d with
    | zero =>
      intro j y M1 hj hy hg hF hw1
      refine x_iload_n (pc := 71) dX3_reduce_71 rfl rfl ?_
      refine x_iconst (pc := 72) dX3_reduce_72 ?_
      refine x_icmp_ge (pc := 73) (t := 92) dX3_reduce_73 (by decide) ⟨by omega, by omega⟩ ⟨by omega, by omega⟩ (fun c73 => ?_) (fun c73 => ?_)
      · refine x_vret (pc := 92) dX3_reduce_92 rfl (by decide) (by decide) ?_
        refine k _ hF (fun i hi => ?_)
        rw [hw1 i hi, if_pos (by omega)]
      · exfalso; omega
    | succ d ih =>
      intro j y M1 hj hy hg hF hw1
      subst hy
      have e1 : M1 (c + 8) j = w j := by rw [hw1 j (by omega), if_neg (by omega)]
      have e2 := hr j (by omega)
      have e3 : redF w j = (w j).tdiv (gcdW w 5) := by
        unfold redF
        rw [if_pos (by omega), if_pos hg]
      have e4 : i64 ((w j).tdiv (gcdW w 5)) := by
        have := Int.natAbs_tdiv_le_natAbs (w j) (gcdW w 5)
        exact ⟨by omega, by omega⟩
      obtain ⟨e5, e6⟩ := e4
      refine x_iload_n (pc := 71) dX3_reduce_71 rfl rfl ?_
      refine x_iconst (pc := 72) dX3_reduce_72 ?_
      refine x_icmp_ge (pc := 73) (t := 92) dX3_reduce_73 (by decide) ⟨by omega, by omega⟩ ⟨by omega, by omega⟩ (fun c73 => ?_) (fun c73 => ?_)
      · exfalso; omega
      · refine x_aload_n (pc := 76) dX3_reduce_76 rfl rfl ?_
        refine x_getr (pc := 77) (b := c + 8) fX3_20 dX3_reduce_77 hs.1 rfl rfl ?_
        refine x_iload_n (pc := 80) dX3_reduce_80 rfl rfl ?_
        refine x_dup2 (pc := 81) dX3_reduce_81 rfl rfl ?_
        refine x_lald (pc := 82) dX3_reduce_82 hs.2.2.2.2.2.2.2.2 (by omega) (by omega) (fun r82a r82b => ?_)
        rw [Int.toNat_natCast, e1]
        refine x_lload_n (pc := 83) dX3_reduce_83 rfl rfl ?_
        refine x_ldiv (pc := 84) dX3_reduce_84 ⟨by omega, by omega⟩ ⟨by omega, by omega⟩ (by omega) ?_
        refine x_last (pc := 85) dX3_reduce_85 hs.2.2.2.2.2.2.2.2 (by omega) (by omega) (by omega) ⟨by omega, by omega⟩ ?_
        refine x_iinc (pc := 86) dX3_reduce_86 rfl (by decide) (L' := [(3, _), (1, _), (0, _)]) rfl ?_
        refine x_goto (pc := 89) (t := 71) dX3_reduce_89 (by decide) ?_
        refine X.loc [0, 1, 2] (L' := [(3, _), (1, _), (0, _)]) rfl ?_
        refine ih (j + 1) _ _ (by omega) (by omega) hg (hF.ms (by omega)) (fun i hi => ?_)
        by_cases e : i = j
        · rw [e, Int.toNat_natCast, mset_same, if_pos (by omega), e3]
        · rw [mset_nei (by omega), hw1 i hi]
          by_cases e9 : i < j
          · rw [if_pos e9, if_pos (by omega)]
          · rw [if_neg e9, if_neg (by omega)]
  have red1 : ¬ 1 < gcdW w 5 → ∀ i, i < 5 → redF w i = w i := by
    intro h i hi
    unfold redF
    rw [if_pos hi, if_neg h]
  have inner : ∀ (n : Nat) (st : Int) (dv rs j : Nat), st + n = 200 → 0 ≤ st → dv < 2 ^ 63 → rs < 2 ^ 63 → euc n dv rs = gcdW w (j + 1) → (X g m_X3_reduce 0 0 lay M 57 [(3, vI j), (1, vJ (gcdW w (j + 1) : Nat)), (0, vR c)] [] K) → X g m_X3_reduce 0 0 lay M 23 [(6, vI st), (4, vJ rs), (3, vI j), (1, vJ dv), (0, vR c)] [] K := by
    intro n
    induction n with
    | zero =>
      intro st dv rs j hst hs0 hd hrs he kk
      refine x_iload (pc := 23) dX3_reduce_23 rfl ?_
      refine x_sipush (pc := 25) dX3_reduce_25 (by decide) ?_
      refine x_icmp_ge (pc := 28) (t := 57) dX3_reduce_28 (by decide) ⟨by omega, by omega⟩ ⟨by omega, by omega⟩ (fun c28 => ?_) (fun c28 => ?_)
      · refine X.loc [2, 3, 4] (L' := [(3, _), (1, _), (0, _)]) rfl ?_
        simp only [euc] at he
        rw [he]
        exact kk
      · exfalso; omega
    | succ n ih =>
      intro st dv rs j hst hs0 hd hrs he kk
      simp only [euc] at he
      refine x_iload (pc := 23) dX3_reduce_23 rfl ?_
      refine x_sipush (pc := 25) dX3_reduce_25 (by decide) ?_
      refine x_icmp_ge (pc := 28) (t := 57) dX3_reduce_28 (by decide) ⟨by omega, by omega⟩ ⟨by omega, by omega⟩ (fun c28 => ?_) (fun c28 => ?_)
      · exfalso; omega
      · refine x_lload (pc := 31) dX3_reduce_31 rfl ?_
        refine x_lconst (pc := 33) (x := 0) dX3_reduce_33 (by decide) ?_
        refine x_lcmp_eq (pc := 34) (t := 57) dX3_reduce_34 dX3_reduce_35 (by decide) ⟨by omega, by omega⟩ ⟨by omega, by omega⟩ (fun c34 => ?_) (fun c34 => ?_)
        · refine X.loc [2, 3, 4] (L' := [(3, _), (1, _), (0, _)]) rfl ?_
          rw [if_pos (by omega)] at he
          rw [he]
          exact kk
        · rw [if_neg (by omega)] at he
          refine x_lload_n (pc := 38) dX3_reduce_38 rfl rfl ?_
          refine x_lload (pc := 39) dX3_reduce_39 rfl ?_
          refine x_lrem (pc := 41) dX3_reduce_41 ⟨by omega, by omega⟩ ⟨by omega, by omega⟩ (by omega) ?_
          rw [Int.tmod_eq_emod_of_nonneg (by omega), ← Int.natCast_emod]
          have hm := Nat.mod_lt dv (show rs > 0 by omega)
          refine x_lstore (pc := 42) dX3_reduce_42 trivial (by decide) (L' := [(7, _), (6, _), (4, _), (3, _), (1, _), (0, _)]) rfl ?_
          refine x_lload (pc := 44) dX3_reduce_44 rfl ?_
          refine x_lstore_n (pc := 46) dX3_reduce_46 rfl (by decide) (L' := [(1, _), (7, _), (6, _), (4, _), (3, _), (0, _)]) rfl ?_
          refine x_lload (pc := 47) dX3_reduce_47 rfl ?_
          refine x_lstore (pc := 49) dX3_reduce_49 trivial (by decide) (L' := [(4, _), (1, _), (7, _), (6, _), (3, _), (0, _)]) rfl ?_
          refine x_iinc (pc := 51) dX3_reduce_51 rfl (by decide) (L' := [(6, _), (4, _), (1, _), (7, _), (3, _), (0, _)]) rfl ?_
          refine x_goto (pc := 54) (t := 23) dX3_reduce_54 (by decide) ?_
          refine X.loc [0, 1, 4, 2, 5] (L' := [(6, _), (4, _), (3, _), (1, _), (0, _)]) rfl ?_
          exact ih _ _ _ _ (by omega) (by omega) hrs (by omega) he kk
  have loop : ∀ (d j : Nat) (y dv : Int), j + d = 5 → y = j → dv = (gcdW w j : Nat) → X g m_X3_reduce 0 0 lay M 4 [(3, vI y), (1, vJ dv), (0, vR c)] [] K := by
    intro d
    induction d with
    | zero =>
      intro j y dv hj hy hdv
      have hG := gb 5 (by omega)
      have e5 : j = 5 := by omega
      subst e5
      refine x_iload_n (pc := 4) dX3_reduce_4 rfl rfl ?_
      refine x_iconst (pc := 5) dX3_reduce_5 ?_
      refine x_icmp_ge (pc := 6) (t := 63) dX3_reduce_6 (by decide) ⟨by omega, by omega⟩ ⟨by omega, by omega⟩ (fun c6 => ?_) (fun c6 => ?_)
      · refine x_lload_n (pc := 63) dX3_reduce_63 rfl rfl ?_
        refine x_lconst (pc := 64) (x := 1) dX3_reduce_64 (by decide) ?_
        refine x_lcmp_le (pc := 65) (t := 92) dX3_reduce_65 dX3_reduce_66 (by decide) ⟨by omega, by omega⟩ ⟨by omega, by omega⟩ (fun c65 => ?_) (fun c65 => ?_)
        · refine x_vret (pc := 92) dX3_reduce_92 rfl (by decide) (by decide) ?_
          refine k _ Frm.rf (fun i hi => ?_)
          rw [hw i hi, red1 (by omega) i hi]
        · refine x_iconst (pc := 69) dX3_reduce_69 ?_
          refine x_istore_n (pc := 70) dX3_reduce_70 rfl (by decide) (L' := [(3, _), (1, _), (0, _)]) rfl ?_
          refine X.loc [0, 1, 2] (L' := [(3, _), (1, _), (0, _)]) rfl ?_
          rw [hdv]
          exact div 5 0 _ _ (by omega) rfl (by omega) Frm.rf (fun i hi => by rw [hw i hi, if_neg (by omega)])
      · exfalso; omega
    | succ d ih =>
      intro j y dv hj hy hdv
      subst hy
      subst hdv
      have e1 := hw j (by omega)
      have e2 := hr j (by omega)
      have e3 := gb j (by omega)
      have kk : X g m_X3_reduce 0 0 lay M 57 [(3, vI j), (1, vJ (gcdW w (j + 1) : Nat)), (0, vR c)] [] K := by
        refine x_iinc (pc := 57) dX3_reduce_57 rfl (by decide) (L' := [(3, _), (1, _), (0, _)]) rfl ?_
        refine x_goto (pc := 60) (t := 4) dX3_reduce_60 (by decide) ?_
        refine X.loc [0, 1, 2] (L' := [(3, _), (1, _), (0, _)]) rfl ?_
        exact ih (j + 1) _ _ (by omega) (by omega) rfl
      refine x_iload_n (pc := 4) dX3_reduce_4 rfl rfl ?_
      refine x_iconst (pc := 5) dX3_reduce_5 ?_
      refine x_icmp_ge (pc := 6) (t := 63) dX3_reduce_6 (by decide) ⟨by omega, by omega⟩ ⟨by omega, by omega⟩ (fun c6 => ?_) (fun c6 => ?_)
      · exfalso; omega
      · refine x_aload_n (pc := 9) dX3_reduce_9 rfl rfl ?_
        refine x_getr (pc := 10) (b := c + 8) fX3_20 dX3_reduce_10 hs.1 rfl rfl ?_
        refine x_iload_n (pc := 13) dX3_reduce_13 rfl rfl ?_
        refine x_lald (pc := 14) dX3_reduce_14 hs.2.2.2.2.2.2.2.2 (by omega) (by omega) (fun r14a r14b => ?_)
        rw [Int.toNat_natCast, e1]
        refine x_mlabs (pc := 15) kmX3_54 dX3_reduce_15 ⟨by omega, by omega⟩ (Nat.le_of_ble_eq_true rfl) (by decide) (by decide) (by decide) ?_
        rw [show (if 0 < w j then w j else -w j) = ((w j).natAbs : Int) by split <;> omega]
        refine x_lstore (pc := 18) dX3_reduce_18 trivial (by decide) (L' := [(4, _), (3, _), (1, _), (0, _)]) rfl ?_
        refine x_iconst (pc := 20) dX3_reduce_20 ?_
        refine x_istore (pc := 21) dX3_reduce_21 trivial (by decide) (L' := [(6, _), (4, _), (3, _), (1, _), (0, _)]) rfl ?_
        refine X.loc [0, 1, 2, 3, 4] (L' := [(6, _), (4, _), (3, _), (1, _), (0, _)]) rfl ?_
        refine inner 200 0 _ _ _ (by omega) (by omega) e3 (by omega) (euc_200 (by omega)) kk
  refine x_lconst (pc := 0) (x := 0) dX3_reduce_0 (by decide) ?_
  refine x_lstore_n (pc := 1) dX3_reduce_1 rfl (by decide) (L' := [(1, _), (0, _)]) rfl ?_
  refine x_iconst (pc := 2) dX3_reduce_2 ?_
  refine x_istore_n (pc := 3) dX3_reduce_3 rfl (by decide) (L' := [(3, _), (1, _), (0, _)]) rfl ?_
  refine X.loc [0, 1, 2] (L' := [(3, _), (1, _), (0, _)]) rfl ?_
  exact loop 5 0 _ _ rfl rfl rfl
