/-! Specs of the sign rows just above a point. -/
theorem hor_b {x : Int} {w : Nat → Int} {d : Nat} {A : Int} (hx : -1984 ≤ x ∧ x ≤ 1984) (hA : 0 ≤ A) (hw : ∀ i, i ≤ d → -(A * 1984 ^ (d - i)) ≤ w i ∧ w i ≤ A * 1984 ^ (d - i)) : ∀ k : Nat, k ≤ d → -(A * (k + 1) * 1984 ^ k) ≤ hor x w d k ∧ hor x w d k ≤ A * (k + 1) * 1984 ^ k
  | 0, _ => by
    have := hw d (Nat.le_refl d)
    simp only [hor, Nat.sub_self, Int.pow_zero] at *
    omega
  | k + 1, hk => by
    have h1 := hor_b hx hA hw k (by omega)
    have h2 := hw (d - (k + 1)) (by omega)
    rw [show d - (d - (k + 1)) = k + 1 by omega] at h2
    have h3 := mulb hx.1 hx.2 h1.1 h1.2
    simp only [hor]
    have e : A * (((k + 1 : Nat) : Int) + 1) * 1984 ^ (k + 1) = A * 1984 ^ (k + 1) + 1984 * (A * (k + 1) * 1984 ^ k) := by
      rw [Int.pow_succ]
      push_cast
      grind
    rw [e]
    omega
theorem pow1984 (k : Nat) : (1 : Int) ≤ 1984 ^ k := by
  induction k with
  | zero => decide
  | succ k ih => rw [Int.pow_succ]; omega
theorem pow1984_le {j k : Nat} (h : j ≤ k) : (1984 : Int) ^ j ≤ 1984 ^ k := by
  obtain ⟨m, rfl⟩ := Nat.exists_eq_add_of_le h
  induction m with
  | zero => exact Int.le_refl _
  | succ m ih =>
    rw [← Nat.add_assoc, Int.pow_succ]
    have := pow1984 (j + m)
    have := ih (by omega)
    omega
theorem scale_b {f B : Int} {p k : Nat} (hB : 0 ≤ B) (hf : -B ≤ f ∧ f ≤ B) (hp : p ≤ 6) : -(B * 1984 ^ k) ≤ f * 2 ^ (p * k) ∧ f * 2 ^ (p * k) ≤ B * 1984 ^ k := by
  have h1 : (1 : Int) ≤ 2 ^ (p * k) ∧ (2 : Int) ^ (p * k) ≤ 1984 ^ k := by
    rw [Int.pow_mul]
    have e : (1 : Int) ≤ 2 ^ p ∧ (2 : Int) ^ p ≤ 64 := by
      have : p = 0 ∨ p = 1 ∨ p = 2 ∨ p = 3 ∨ p = 4 ∨ p = 5 ∨ p = 6 := by omega
      rcases this with rfl | rfl | rfl | rfl | rfl | rfl | rfl <;> decide
    generalize (2 : Int) ^ p = z at e
    induction k with
    | zero => simp
    | succ k ih =>
      rw [Int.pow_succ, Int.pow_succ]
      have h2 := mulb (a := z ^ k) (b := z) (A := 1984 ^ k) (B := 64) (by omega) (by omega) (by omega) (by omega)
      have h3 : z ^ k * 1 ≤ z ^ k * z := Int.mul_le_mul_of_nonneg_left e.1 (by omega)
      have := pow1984 k
      omega
  exact mulb hf.1 hf.2 (by omega) h1.2

set_option maxRecDepth 100000 in
theorem sp_X3_signAbove {g : GG} {lay : Lay} {M : Mem} {K : KK} {c : Nat} {s : RS} {q : Nat} {x : Int} {p : Nat} (hs : SrL lay c) (hR : Rw s M c) (hW : WfR s) (hb0 : g.2.1 ≤ c) (hk : q < s.1) (hx : -1984 ≤ x ∧ x ≤ 1984) (hp : p ≤ 6) (k : ∀ M2, Frm (c + 8) (c + 9) M M2 → K (.inl (some (vI (sgnUp (s.2.1 q) (s.2.2 q) x p)))) lay M2) : X g m_X3_signAbove 0 0 lay M 0 [(0, vR c), (1, vI q), (2, vI x), (3, vI p)] [] K := by
  have h5 := hW.1
  have hk5 : q < 5 := by omega
  obtain ⟨hd0, hr⟩ := hR.2 q hk
  obtain ⟨hd4, hz, B, hB0, hB, hf⟩ := hW.2 q hk
  generalize s.2.1 q = f at *
  generalize s.2.2 q = d at *
  obtain ⟨hx1, hx2⟩ := hx
  have hL : ∀ M1, Frm (c + 8) (c + 9) M M1 → M1 (c + 7) q = d ∧ ∀ i, i < 5 → M1 (c + 2 + q) i = f i := fun M1 hF => ⟨by rw [hF _ _ (by omega)]; exact hd0, fun i hi => by rw [hF _ _ (by omega)]; exact hr i hi⟩
  have outer : ∀ (k low : Nat) (y : Int) (w : Nat → Int) (A : Int) (M1 : Mem), low + k = d + 1 → y = low → Frm (c + 8) (c + 9) M M1 → (∀ i, i ≤ d → M1 (c + 8) i = w i) → 0 ≤ A → A * 5 ^ k * 1984 ^ d ≤ 9223372036854775807 → (∀ i, i ≤ d → -(A * 1984 ^ (d - i)) ≤ w i ∧ w i ≤ A * 1984 ^ (d - i)) → upS x d k low w = sgnUp f d x p → X g m_X3_signAbove 0 0 lay M1 81 [(5, vI y), (4, vI d), (0, vR c), (1, vI q), (2, vI x), (3, vI p)] [] K := by
    intro k0
    induction k0 with
    | zero =>
      intro low y w A M1 hlk hy hF hw hA hAb hwb hres
      refine x_iload (pc := 81) dX3_signAbove_81 rfl ?_
      refine x_iload (pc := 83) dX3_signAbove_83 rfl ?_
      refine x_icmp_gt (pc := 85) (t := 165) dX3_signAbove_85 (by decide) ⟨by omega, by omega⟩ ⟨by omega, by omega⟩ (fun c85 => ?_) (fun c85 => ?_)
      · refine x_iconst (pc := 165) dX3_signAbove_165 ?_
        refine x_iret (pc := 166) dX3_signAbove_166 rfl (by decide) (by decide) ?_
        simp only [upS] at hres
        rw [← hres] at k
        exact k _ hF
      · exfalso; omega
    | succ k0 ih =>
      intro low y w A M1 hlk hy hF hw hA hAb hwb hres
      have hor1 := hor_b ⟨hx1, hx2⟩ hA hwb
      have hp5 : A * 5 * 1984 ^ d ≤ 9223372036854775807 := by
        have e1 : (1 : Int) ≤ 5 ^ k0 := Int.pow_pos (by decide)
        have e2 : (0 : Int) ≤ A * 5 * 1984 ^ d := Int.mul_nonneg (by omega) (by have := pow1984 d; omega)
        have e3 : A * 5 ^ (k0 + 1) * 1984 ^ d = A * 5 * 1984 ^ d * 5 ^ k0 := by rw [Int.pow_succ]; grind
        rw [e3] at hAb
        have e4 := Int.mul_le_mul_of_nonneg_left e1 e2
        omega
      have horr : ∀ k, k ≤ d → i64 (hor x w d k) := fun k hk => by
        have a1 := hor1 k hk
        have a2 : A * (k + 1) * 1984 ^ k ≤ A * 5 * 1984 ^ d := Int.mul_le_mul (Int.mul_le_mul_of_nonneg_left (by omega) hA) (pow1984_le hk) (by have := pow1984 k; omega) (by omega)
        exact ⟨by omega, by omega⟩
      have inner : ∀ (r k : Nat) (z : Int) (M2 : Mem), k + r = d - low → z = (d : Int) - 1 - k → Frm (c + 8) (c + 9) M M2 → (∀ i, i ≤ d → M2 (c + 8) i = if d - k ≤ i then hor x w d (d - i) else w i) → X g m_X3_signAbove 0 0 lay M2 94 [(6, vI z), (5, vI y), (4, vI d), (0, vR c), (1, vI q), (2, vI x), (3, vI p)] [] K := by
        intro r
        induction r with
        | zero =>
          intro kz z M2 hkr hz2 hF2 hw2
          have hsyn : ∀ i, i ≤ d → M2 (c + 8) i = syn x d low w i := fun i hi => by
            rw [hw2 i hi]
            unfold syn
            by_cases e : low ≤ i
            · rw [if_pos (by omega), if_pos ⟨e, hi⟩]
            · rw [if_neg (by omega), if_neg (by omega)]
          have e8 : M2 (c + 8) y.toNat = syn x d low w low := by rw [show y.toNat = low by omega]; exact hsyn low (by omega)
          have e9 : syn x d low w low = hor x w d (d - low) := if_pos ⟨Nat.le_refl _, by omega⟩
          have e10 := horr (d - low) (by omega)
          rw [← e9] at e10
          obtain ⟨e11, e12⟩ := e10
          simp only [upS] at hres
          refine x_iload (pc := 94) dX3_signAbove_94 rfl ?_
          refine x_iload (pc := 96) dX3_signAbove_96 rfl ?_
          refine x_icmp_lt (pc := 98) (t := 129) dX3_signAbove_98 (by decide) ⟨by omega, by omega⟩ ⟨by omega, by omega⟩ (fun c98 => ?_) (fun c98 => ?_)
          · refine x_aload_n (pc := 129) dX3_signAbove_129 rfl rfl ?_
            refine x_getr (pc := 130) (b := c + 8) fX3_20 dX3_signAbove_130 hs.1 rfl rfl ?_
            refine x_iload (pc := 133) dX3_signAbove_133 rfl ?_
            refine x_lald (pc := 135) dX3_signAbove_135 hs.2.2.2.2.2.2.2.2 (by omega) (by omega) (fun r135a r135b => ?_)
            rw [e8]
            refine x_lconst (pc := 136) (x := 0) dX3_signAbove_136 (by decide) ?_
            refine x_lcmp_eq (pc := 137) (t := 159) dX3_signAbove_137 dX3_signAbove_138 (by decide) ⟨by omega, by omega⟩ ⟨by omega, by omega⟩ (fun c137 => ?_) (fun c137 => ?_)
            · refine x_iinc (pc := 159) dX3_signAbove_159 rfl (by decide) (L' := [(5, _), (6, _), (4, _), (0, _), (1, _), (2, _), (3, _)]) rfl ?_
              refine x_goto (pc := 162) (t := 81) dX3_signAbove_162 (by decide) ?_
              refine X.loc [0, 2, 3, 4, 5, 6] (L' := [(5, _), (4, _), (0, _), (1, _), (2, _), (3, _)]) rfl ?_
              rw [if_neg (fun q9 => q9 c137)] at hres
              refine ih (low + 1) _ _ (A * 5) _ (by omega) (by omega) hF2 hsyn (by omega) ?_ (fun i hi => ?_) hres
              · rw [Int.pow_succ] at hAb
                have e3 : A * 5 * 5 ^ k0 * 1984 ^ d = A * (5 ^ k0 * 5) * 1984 ^ d := by grind
                rw [e3]
                exact hAb
              · unfold syn
                have a3 := pow1984 (d - i)
                by_cases e : low ≤ i ∧ i ≤ d
                · rw [if_pos e]
                  have a1 := hor1 (d - i) (by omega)
                  have a2 : A * (((d - i : Nat) : Int) + 1) * 1984 ^ (d - i) ≤ A * 5 * 1984 ^ (d - i) := Int.mul_le_mul_of_nonneg_right (Int.mul_le_mul_of_nonneg_left (by omega) hA) (by omega)
                  omega
                · rw [if_neg e]
                  have a1 := hwb i hi
                  have a2 : A * 1984 ^ (d - i) ≤ A * 5 * 1984 ^ (d - i) := Int.mul_le_mul_of_nonneg_right (by omega) (by omega)
                  omega
            · refine x_aload_n (pc := 141) dX3_signAbove_141 rfl rfl ?_
              refine x_getr (pc := 142) (b := c + 8) fX3_20 dX3_signAbove_142 hs.1 rfl rfl ?_
              refine x_iload (pc := 145) dX3_signAbove_145 rfl ?_
              refine x_lald (pc := 147) dX3_signAbove_147 hs.2.2.2.2.2.2.2.2 (by omega) (by omega) (fun r147a r147b => ?_)
              rw [e8]
              refine x_lconst (pc := 148) (x := 0) dX3_signAbove_148 (by decide) ?_
              refine x_lcmp_le (pc := 149) (t := 157) dX3_signAbove_149 dX3_signAbove_150 (by decide) ⟨by omega, by omega⟩ ⟨by omega, by omega⟩ (fun c149 => ?_) (fun c149 => ?_)
              · refine x_iconst (pc := 157) dX3_signAbove_157 ?_
                refine x_iret (pc := 158) dX3_signAbove_158 rfl (by decide) (by decide) ?_
                rw [if_pos (fun q9 => c137 q9)] at hres
                have k9 := k _ hF2
                rw [← hres] at k9
                refine kI k9 ?_
                unfold sg
                grind
              · refine x_iconst (pc := 153) dX3_signAbove_153 ?_
                refine x_goto (pc := 154) (t := 158) dX3_signAbove_154 (by decide) ?_
                refine x_iret (pc := 158) dX3_signAbove_158 rfl (by decide) (by decide) ?_
                rw [if_pos (fun q9 => c137 q9)] at hres
                have k9 := k _ hF2
                rw [← hres] at k9
                refine kI k9 ?_
                unfold sg
                grind
          · exfalso; omega
        | succ r ihr =>
          intro k z M2 hkr hz2 hF2 hw2
          have e8 : z.toNat = d - (k + 1) := by omega
          have e9 : (z + 1).toNat = d - k := by omega
          have e10 : M2 (c + 8) (d - (k + 1)) = w (d - (k + 1)) := by rw [hw2 _ (by omega), if_neg (by omega)]
          have e11 : M2 (c + 8) (d - k) = hor x w d k := by rw [hw2 _ (by omega), if_pos (by omega)]; congr 1; omega
          obtain ⟨e12, e13⟩ := horr (k + 1) (by omega)
          simp only [hor] at e12 e13
          refine x_iload (pc := 94) dX3_signAbove_94 rfl ?_
          refine x_iload (pc := 96) dX3_signAbove_96 rfl ?_
          refine x_icmp_lt (pc := 98) (t := 129) dX3_signAbove_98 (by decide) ⟨by omega, by omega⟩ ⟨by omega, by omega⟩ (fun c98 => ?_) (fun c98 => ?_)
          · exfalso; omega
          · refine x_aload_n (pc := 101) dX3_signAbove_101 rfl rfl ?_
            refine x_getr (pc := 102) (b := c + 8) fX3_20 dX3_signAbove_102 hs.1 rfl rfl ?_
            refine x_iload (pc := 105) dX3_signAbove_105 rfl ?_
            refine x_dup2 (pc := 107) dX3_signAbove_107 rfl rfl ?_
            refine x_lald (pc := 108) dX3_signAbove_108 hs.2.2.2.2.2.2.2.2 (by omega) (by omega) (fun r108a r108b => ?_)
            rw [e8, e10]
            refine x_iload_n (pc := 109) dX3_signAbove_109 rfl rfl ?_
            refine x_i2l (pc := 110) ⟨by omega, by omega⟩ dX3_signAbove_110 ?_
            refine x_aload_n (pc := 111) dX3_signAbove_111 rfl rfl ?_
            refine x_getr (pc := 112) (b := c + 8) fX3_20 dX3_signAbove_112 hs.1 rfl rfl ?_
            refine x_iload (pc := 115) dX3_signAbove_115 rfl ?_
            refine x_iconst (pc := 117) dX3_signAbove_117 ?_
            refine x_iadd (pc := 118) dX3_signAbove_118 ?_
            refine x_lald (pc := 119) dX3_signAbove_119 hs.2.2.2.2.2.2.2.2 (by omega) (by omega) (fun r119a r119b => ?_)
            rw [e9, e11]
            refine x_lmul (pc := 120) dX3_signAbove_120 ?_
            skip
            refine x_ladd (pc := 121) dX3_signAbove_121 ?_
            refine x_last (pc := 122) dX3_signAbove_122 hs.2.2.2.2.2.2.2.2 (by omega) (by omega) (by omega) ⟨by omega, by omega⟩ ?_
            refine x_iinc (pc := 123) dX3_signAbove_123 rfl (by decide) (L' := [(6, _), (5, _), (4, _), (0, _), (1, _), (2, _), (3, _)]) rfl ?_
            refine x_goto (pc := 126) (t := 94) dX3_signAbove_126 (by decide) ?_
            refine X.loc [0, 1, 2, 3, 4, 5, 6] (L' := [(6, _), (5, _), (4, _), (0, _), (1, _), (2, _), (3, _)]) rfl ?_
            refine ihr (k + 1) _ _ (by omega) (by omega) (hF2.ms (by omega)) (fun i hi => ?_)
            by_cases e : i = d - (k + 1)
            · rw [e, e8, mset_same, if_pos (by omega), show d - (d - (k + 1)) = k + 1 by omega]
              simp only [hor]
              try rw [Int.mul_comm x (hor x w d k)]
            · rw [mset_nei (by omega), hw2 i hi]
              by_cases e2 : d - k ≤ i
              · rw [if_pos e2, if_pos (by omega)]
              · rw [if_neg e2, if_neg (by omega)]
      refine x_iload (pc := 81) dX3_signAbove_81 rfl ?_
      refine x_iload (pc := 83) dX3_signAbove_83 rfl ?_
      refine x_icmp_gt (pc := 85) (t := 165) dX3_signAbove_85 (by decide) ⟨by omega, by omega⟩ ⟨by omega, by omega⟩ (fun c85 => ?_) (fun c85 => ?_)
      · exfalso; omega
      · refine x_iload (pc := 88) dX3_signAbove_88 rfl ?_
        refine x_iconst (pc := 90) dX3_signAbove_90 ?_
        refine x_isub (pc := 91) dX3_signAbove_91 ?_
        refine x_istore (pc := 92) dX3_signAbove_92 trivial (by decide) (L' := [(6, _), (5, _), (4, _), (0, _), (1, _), (2, _), (3, _)]) rfl ?_
        refine X.loc [0, 1, 2, 3, 4, 5, 6] (L' := [(6, _), (5, _), (4, _), (0, _), (1, _), (2, _), (3, _)]) rfl ?_
        refine inner (d - low) 0 _ _ (by omega) (by omega) hF (fun i hi => ?_)
        by_cases e : d - 0 ≤ i
        · have e2 : i = d := by omega
          rw [if_pos e, e2, Nat.sub_self]
          exact hw d (Nat.le_refl _)
        · rw [if_neg e]
          exact hw i hi
  have scale : ∀ (r j : Nat) (y : Int) (M1 : Mem), j + r = d + 1 → y = j → Frm (c + 8) (c + 9) M M1 → (∀ i, i < j → M1 (c + 8) i = f i * 2 ^ (p * (d - i))) → X g m_X3_signAbove 0 0 lay M1 41 [(5, vI y), (4, vI d), (0, vR c), (1, vI q), (2, vI x), (3, vI p)] [] K := by
    intro r
    induction r with
    | zero =>
      intro j y M1 hj hy hF hw
      refine x_iload (pc := 41) dX3_signAbove_41 rfl ?_
      refine x_iload (pc := 43) dX3_signAbove_43 rfl ?_
      refine x_icmp_gt (pc := 45) (t := 78) dX3_signAbove_45 (by decide) ⟨by omega, by omega⟩ ⟨by omega, by omega⟩ (fun c45 => ?_) (fun c45 => ?_)
      · refine x_iconst (pc := 78) dX3_signAbove_78 ?_
        refine x_istore (pc := 79) dX3_signAbove_79 trivial (by decide) (L' := [(5, _), (4, _), (0, _), (1, _), (2, _), (3, _)]) rfl ?_
        refine X.loc [0, 1, 2, 3, 4, 5] (L' := [(5, _), (4, _), (0, _), (1, _), (2, _), (3, _)]) rfl ?_
        refine outer (d + 1) 0 _ (fun i => f i * 2 ^ (p * (d - i))) B _ (by omega) rfl hF (fun i hi => hw i (by omega)) hB0 ?_ (fun i hi => scale_b hB0 (hf i hi) hp) rfl
        have e5 : (5 : Int) ^ (d + 1) ≤ 3125 := by
          have : d = 0 ∨ d = 1 ∨ d = 2 ∨ d = 3 ∨ d = 4 := by omega
          rcases this with rfl | rfl | rfl | rfl | rfl <;> decide
        have e6 : B * 5 ^ (d + 1) * 1984 ^ d ≤ B * 3125 * 1984 ^ d := Int.mul_le_mul_of_nonneg_right (Int.mul_le_mul_of_nonneg_left e5 hB0) (by have := pow1984 d; omega)
        omega
      · exfalso; omega
    | succ r ih =>
      intro j y M1 hj hy hF hw
      subst hy
      have e7 : (p : Int) * ((d : Int) - j) = ((p * (d - j) : Nat) : Int) := by rw [Int.natCast_mul, Int.ofNat_sub (by omega)]
      have e8 : p * (d - j) < 64 := by
        have := Nat.mul_le_mul hp (show d - j ≤ 4 by omega)
        omega
      have e9 := scale_b (k := d - j) hB0 (hf j (by omega)) hp
      have e10 : B * 1984 ^ (d - j) ≤ B * 3125 * 1984 ^ d := Int.mul_le_mul (by omega) (pow1984_le (by omega)) (by have := pow1984 (d - j); omega) (by omega)
      have e11 := (hL M1 hF).2 j (by omega)
      refine x_iload (pc := 41) dX3_signAbove_41 rfl ?_
      refine x_iload (pc := 43) dX3_signAbove_43 rfl ?_
      refine x_icmp_gt (pc := 45) (t := 78) dX3_signAbove_45 (by decide) ⟨by omega, by omega⟩ ⟨by omega, by omega⟩ (fun c45 => ?_) (fun c45 => ?_)
      · exfalso; omega
      · refine x_aload_n (pc := 48) dX3_signAbove_48 rfl rfl ?_
        refine x_getr (pc := 49) (b := c + 8) fX3_20 dX3_signAbove_49 hs.1 rfl rfl ?_
        refine x_iload (pc := 52) dX3_signAbove_52 rfl ?_
        refine x_aload_n (pc := 54) dX3_signAbove_54 rfl rfl ?_
        refine x_getr (pc := 55) (b := c + 1) fX3_11 dX3_signAbove_55 hs.1 rfl rfl ?_
        refine x_iload_n (pc := 58) dX3_signAbove_58 rfl rfl ?_
        refine x_aaldR (pc := 59) (c + 2 + q) dX3_signAbove_59 hs.2.1 (by omega) (by omega) (by rw [Int.toNat_natCast]) ?_
        refine x_iload (pc := 60) dX3_signAbove_60 rfl ?_
        refine x_lald (pc := 62) dX3_signAbove_62 (hs.row hk5) (by omega) (by omega) (fun r62a r62b => ?_)
        rw [Int.toNat_natCast, e11]
        refine x_iload_n (pc := 63) dX3_signAbove_63 rfl rfl ?_
        refine x_iload (pc := 64) dX3_signAbove_64 rfl ?_
        refine x_iload (pc := 66) dX3_signAbove_66 rfl ?_
        refine x_isub (pc := 68) dX3_signAbove_68 ?_
        refine x_imul (pc := 69) dX3_signAbove_69 ?_
        refine x_lshl (pc := 70) (p * (d - j)) e8 e7 dX3_signAbove_70 ?_
        refine x_last (pc := 71) dX3_signAbove_71 hs.2.2.2.2.2.2.2.2 (by omega) (by omega) (by omega) ⟨by omega, by omega⟩ ?_
        refine x_iinc (pc := 72) dX3_signAbove_72 rfl (by decide) (L' := [(5, _), (4, _), (0, _), (1, _), (2, _), (3, _)]) rfl ?_
        refine x_goto (pc := 75) (t := 41) dX3_signAbove_75 (by decide) ?_
        refine X.loc [0, 1, 2, 3, 4, 5] (L' := [(5, _), (4, _), (0, _), (1, _), (2, _), (3, _)]) rfl ?_
        refine ih (j + 1) _ _ (by omega) (by omega) (hF.ms (by omega)) (fun i hi => ?_)
        by_cases e : i = j
        · rw [e, Int.toNat_natCast, mset_same]
        · rw [mset_nei (by omega)]
          exact hw i (by omega)
  refine x_iload_n (pc := 0) dX3_signAbove_0 rfl rfl ?_
  refine x_if_lt (pc := 1) (t := 28) dX3_signAbove_1 (by decide) ⟨by omega, by omega⟩ (fun c1 => ?_) (fun c1 => ?_)
  · exfalso; omega
  · refine x_iload_n (pc := 4) dX3_signAbove_4 rfl rfl ?_
    refine x_iconst (pc := 5) dX3_signAbove_5 ?_
    refine x_icmp_ge (pc := 6) (t := 28) dX3_signAbove_6 (by decide) ⟨by omega, by omega⟩ ⟨by omega, by omega⟩ (fun c6 => ?_) (fun c6 => ?_)
    · exfalso; omega
    · refine x_aload_n (pc := 9) dX3_signAbove_9 rfl rfl ?_
      refine x_getr (pc := 10) (b := c + 7) fX3_16 dX3_signAbove_10 hs.1 rfl rfl ?_
      refine x_iload_n (pc := 13) dX3_signAbove_13 rfl rfl ?_
      refine x_iald (pc := 14) dX3_signAbove_14 hs.2.2.2.2.2.2.2.1 (by omega) (by omega) (fun r14a r14b => ?_)
      rw [Int.toNat_natCast, hd0]
      refine x_if_lt (pc := 15) (t := 28) dX3_signAbove_15 (by decide) ⟨by omega, by omega⟩ (fun c15 => ?_) (fun c15 => ?_)
      · exfalso; omega
      · refine x_aload_n (pc := 18) dX3_signAbove_18 rfl rfl ?_
        refine x_getr (pc := 19) (b := c + 7) fX3_16 dX3_signAbove_19 hs.1 rfl rfl ?_
        refine x_iload_n (pc := 22) dX3_signAbove_22 rfl rfl ?_
        refine x_iald (pc := 23) dX3_signAbove_23 hs.2.2.2.2.2.2.2.1 (by omega) (by omega) (fun r23a r23b => ?_)
        rw [Int.toNat_natCast, hd0]
        refine x_iconst (pc := 24) dX3_signAbove_24 ?_
        refine x_icmp_lt (pc := 25) (t := 30) dX3_signAbove_25 (by decide) ⟨by omega, by omega⟩ ⟨by omega, by omega⟩ (fun c25 => ?_) (fun c25 => ?_)
        · refine x_aload_n (pc := 30) dX3_signAbove_30 rfl rfl ?_
          refine x_getr (pc := 31) (b := c + 7) fX3_16 dX3_signAbove_31 hs.1 rfl rfl ?_
          refine x_iload_n (pc := 34) dX3_signAbove_34 rfl rfl ?_
          refine x_iald (pc := 35) dX3_signAbove_35 hs.2.2.2.2.2.2.2.1 (by omega) (by omega) (fun r35a r35b => ?_)
          rw [Int.toNat_natCast, hd0]
          refine x_istore (pc := 36) dX3_signAbove_36 trivial (by decide) (L' := [(4, _), (0, _), (1, _), (2, _), (3, _)]) rfl ?_
          refine x_iconst (pc := 38) dX3_signAbove_38 ?_
          refine x_istore (pc := 39) dX3_signAbove_39 trivial (by decide) (L' := [(5, _), (4, _), (0, _), (1, _), (2, _), (3, _)]) rfl ?_
          refine X.loc [0, 1, 2, 3, 4, 5] (L' := [(5, _), (4, _), (0, _), (1, _), (2, _), (3, _)]) rfl ?_
          exact scale (d + 1) 0 _ _ (by omega) rfl Frm.rf (fun i hi => by omega)
        · exfalso; omega
