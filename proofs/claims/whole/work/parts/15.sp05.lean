/-! Specs of the sign rows just above a point. -/
theorem hor_b {x : Int} {w : Nat → Int} {d : Nat} {A : Int} (hx : -1984 ≤ x ∧ x ≤ 1984) (hA : 0 ≤ A) (hw : ∀ i, i ≤ d → -(A * 1984 ^ (d - i)) ≤ w i ∧ w i ≤ A * 1984 ^ (d - i)) : ∀ k : Nat, k ≤ d → -(A * (k + 1) * 1984 ^ k) ≤ hor x w d k ∧ hor x w d k ≤ A * (k + 1) * 1984 ^ k
  | 0, _ => by
    have := hw d (Nat.le_refl d)
    simp only [hor, Nat.sub_self, Int.pow_zero] at *
    omega
  | k + 1, hk => by
    have h1 := hor_b hx hA hw k (by omega)
    have h2 := hw (d - (k + 1)) (by omega)
    rw [show d - (d - (k + 1)) = k + 1 by omega] at h2
    have h3 := mulb hx.1 hx.2 h1.1 h1.2
    simp only [hor]
    have e : A * (((k + 1 : Nat) : Int) + 1) * 1984 ^ (k + 1) = A * 1984 ^ (k + 1) + 1984 * (A * (k + 1) * 1984 ^ k) := by
      rw [Int.pow_succ]
      push_cast
      grind
    rw [e]
    omega
theorem pow1984 (k : Nat) : (1 : Int) ≤ 1984 ^ k := by
  induction k with
  | zero => decide
  | succ k ih => rw [Int.pow_succ]; omega
theorem pow1984_le {j k : Nat} (h : j ≤ k) : (1984 : Int) ^ j ≤ 1984 ^ k := by
  obtain ⟨m, rfl⟩ := Nat.exists_eq_add_of_le h
  induction m with
  | zero => exact Int.le_refl _
  | succ m ih =>
    rw [← Nat.add_assoc, Int.pow_succ]
    have := pow1984 (j + m)
    have := ih (by omega)
    omega
theorem scale_b {f B : Int} {p k : Nat} (hB : 0 ≤ B) (hf : -B ≤ f ∧ f ≤ B) (hp : p ≤ 6) : -(B * 1984 ^ k) ≤ f * 2 ^ (p * k) ∧ f * 2 ^ (p * k) ≤ B * 1984 ^ k := by
  have h1 : (1 : Int) ≤ 2 ^ (p * k) ∧ (2 : Int) ^ (p * k) ≤ 1984 ^ k := by
    rw [Int.pow_mul]
    have e : (1 : Int) ≤ 2 ^ p ∧ (2 : Int) ^ p ≤ 64 := by
      have : p = 0 ∨ p = 1 ∨ p = 2 ∨ p = 3 ∨ p = 4 ∨ p = 5 ∨ p = 6 := by omega
      rcases this with rfl | rfl | rfl | rfl | rfl | rfl | rfl <;> decide
    generalize (2 : Int) ^ p = z at e
    induction k with
    | zero => simp
    | succ k ih =>
      rw [Int.pow_succ, Int.pow_succ]
      have h2 := mulb (a := z ^ k) (b := z) (A := 1984 ^ k) (B := 64) (by omega) (by omega) (by omega) (by omega)
      have h3 : z ^ k * 1 ≤ z ^ k * z := Int.mul_le_mul_of_nonneg_left e.1 (by omega)
      have := pow1984 k
      omega
  exact mulb hf.1 hf.2 (by omega) h1.2

set_option maxRecDepth 100000 in
theorem sp_X3_signAbove {g : GG} {lay : Lay} {M : Mem} {K : KK} {c : Nat} {s : RS} {q : Nat} {x : Int} {p : Nat} (hs : SrL lay c) (hR : Rw s M c) (hW : WfR s) (hb0 : g.2.1 ≤ c) (hk : q < s.1) (hx : -1984 ≤ x ∧ x ≤ 1984) (hp : p ≤ 6) (k : ∀ M2, Frm (c + 8) (c + 9) M M2 → K (.inl (some (vI (sgnUp (s.2.1 q) (s.2.2 q) x p)))) lay M2) : X g m_X3_signAbove 0 0 lay M 0 [(0, vR c), (1, vI q), (2, vI x), (3, vI p)] [] K := by
  have h5 := hW.1
  have hk5 : q < 5 := by omega
  obtain ⟨hd0, hr⟩ := hR.2 q hk
  obtain ⟨hd4, hz, B, hB0, hB, hf⟩ := hW.2 q hk
  generalize s.2.1 q = f at *
  generalize s.2.2 q = d at *
  obtain ⟨hx1, hx2⟩ := hx
  have hL : ∀ M1, Frm (c + 8) (c + 9) M M1 → M1 (c + 7) q = d ∧ ∀ i, i < 5 → M1 (c + 2 + q) i = f i := fun M1 hF => ⟨by rw [hF _ _ (by omega)]; exact hd0, fun i hi => by rw [hF _ _ (by omega)]; exact hr i hi⟩
  have outer : ∀ (k low : Nat) (y : Int) (w : Nat → Int) (A : Int) (M1 : Mem), low + k = d + 1 → y = low → Frm (c + 8) (c + 9) M M1 → (∀ i, i ≤ d → M1 (c + 8) i = w i) → 0 ≤ A → A * 5 ^ k * 1984 ^ d ≤ 9223372036854775807 → (∀ i, i ≤ d → -(A * 1984 ^ (d - i)) ≤ w i ∧ w i ≤ A * 1984 ^ (d - i)) → upS x d k low w = sgnUp f d x p → X g m_X3_signAbove 0 0 lay M1 57 [(5, vI y), (4, vI d), (0, vR c), (1, vI q), (2, vI x), (3, vI p)] [] K := by
    intro k0
    induction k0 with
    | zero =>
      intro low y w A M1 hlk hy hF hw hA hAb hwb hres
      refine x_iload (pc := 57) dX3_signAbove_57 rfl ?_
      refine x_iload (pc := 59) dX3_signAbove_59 rfl ?_
      refine x_icmp_gt (pc := 61) (t := 147) dX3_signAbove_61 (by decide) ⟨by omega, by omega⟩ ⟨by omega, by omega⟩ (fun c61 => ?_) (fun c61 => ?_)
      · refine x_iconst (pc := 147) dX3_signAbove_147 ?_
        refine x_iret (pc := 148) dX3_signAbove_148 rfl (by decide) (by decide) ?_
        simp only [upS] at hres
        rw [← hres] at k
        exact k _ hF
      · exfalso; omega
    | succ k0 ih =>
      intro low y w A M1 hlk hy hF hw hA hAb hwb hres
      have hor1 := hor_b ⟨hx1, hx2⟩ hA hwb
      have hp5 : A * 5 * 1984 ^ d ≤ 9223372036854775807 := by
        have e1 : (1 : Int) ≤ 5 ^ k0 := Int.pow_pos (by decide)
        have e2 : (0 : Int) ≤ A * 5 * 1984 ^ d := Int.mul_nonneg (by omega) (by have := pow1984 d; omega)
        have e3 : A * 5 ^ (k0 + 1) * 1984 ^ d = A * 5 * 1984 ^ d * 5 ^ k0 := by rw [Int.pow_succ]; grind
        rw [e3] at hAb
        have e4 := Int.mul_le_mul_of_nonneg_left e1 e2
        omega
      have horr : ∀ k, k ≤ d → i64 (hor x w d k) := fun k hk => by
        have a1 := hor1 k hk
        have a2 : A * (k + 1) * 1984 ^ k ≤ A * 5 * 1984 ^ d := Int.mul_le_mul (Int.mul_le_mul_of_nonneg_left (by omega) hA) (pow1984_le hk) (by have := pow1984 k; omega) (by omega)
        exact ⟨by omega, by omega⟩
      have inner : ∀ (r k : Nat) (z : Int) (M2 : Mem), k + r = d - low → z = (d : Int) - 1 - k → Frm (c + 8) (c + 9) M M2 → (∀ i, i ≤ d → M2 (c + 8) i = if d - k ≤ i then hor x w d (d - i) else w i) → X g m_X3_signAbove 0 0 lay M2 76 [(6, vI z), (5, vI y), (4, vI d), (0, vR c), (1, vI q), (2, vI x), (3, vI p)] [] K := by
        intro r
        induction r with
        | zero =>
          intro kz z M2 hkr hz2 hF2 hw2
          have hsyn : ∀ i, i ≤ d → M2 (c + 8) i = syn x d low w i := fun i hi => by
            rw [hw2 i hi]
            unfold syn
            by_cases e : low ≤ i
            · rw [if_pos (by omega), if_pos ⟨e, hi⟩]
            · rw [if_neg (by omega), if_neg (by omega)]
          have e8 : M2 (c + 8) y.toNat = syn x d low w low := by rw [show y.toNat = low by omega]; exact hsyn low (by omega)
          have e9 : syn x d low w low = hor x w d (d - low) := if_pos ⟨Nat.le_refl _, by omega⟩
          have e10 := horr (d - low) (by omega)
          rw [← e9] at e10
          obtain ⟨e11, e12⟩ := e10
          simp only [upS] at hres
          refine x_iload (pc := 76) dX3_signAbove_76 rfl ?_
          refine x_iload (pc := 78) dX3_signAbove_78 rfl ?_
          refine x_icmp_lt (pc := 80) (t := 111) dX3_signAbove_80 (by decide) ⟨by omega, by omega⟩ ⟨by omega, by omega⟩ (fun c80 => ?_) (fun c80 => ?_)
          · refine x_aload_n (pc := 111) dX3_signAbove_111 rfl rfl ?_
            refine x_getr (pc := 112) (b := c + 8) fX3_20 dX3_signAbove_112 hs.1 rfl rfl ?_
            refine x_iload (pc := 115) dX3_signAbove_115 rfl ?_
            refine x_lald (pc := 117) dX3_signAbove_117 hs.2.2.2.2.2.2.2.2 (by omega) (by omega) (fun r117a r117b => ?_)
            rw [e8]
            refine x_lconst (pc := 118) (x := 0) dX3_signAbove_118 (by decide) ?_
            refine x_lcmp_eq (pc := 119) (t := 141) dX3_signAbove_119 dX3_signAbove_120 (by decide) ⟨by omega, by omega⟩ ⟨by omega, by omega⟩ (fun c119 => ?_) (fun c119 => ?_)
            · refine x_iinc (pc := 141) dX3_signAbove_141 rfl (by decide) (L' := [(5, _), (6, _), (4, _), (0, _), (1, _), (2, _), (3, _)]) rfl ?_
              refine x_goto (pc := 144) (t := 57) dX3_signAbove_144 (by decide) ?_
              refine X.loc [0, 2, 3, 4, 5, 6] (L' := [(5, _), (4, _), (0, _), (1, _), (2, _), (3, _)]) rfl ?_
              rw [if_neg (fun q9 => q9 c119)] at hres
              refine ih (low + 1) _ _ (A * 5) _ (by omega) (by omega) hF2 hsyn (by omega) ?_ (fun i hi => ?_) hres
              · rw [Int.pow_succ] at hAb
                have e3 : A * 5 * 5 ^ k0 * 1984 ^ d = A * (5 ^ k0 * 5) * 1984 ^ d := by grind
                rw [e3]
                exact hAb
              · unfold syn
                have a3 := pow1984 (d - i)
                by_cases e : low ≤ i ∧ i ≤ d
                · rw [if_pos e]
                  have a1 := hor1 (d - i) (by omega)
                  have a2 : A * (((d - i : Nat) : Int) + 1) * 1984 ^ (d - i) ≤ A * 5 * 1984 ^ (d - i) := Int.mul_le_mul_of_nonneg_right (Int.mul_le_mul_of_nonneg_left (by omega) hA) (by omega)
                  omega
                · rw [if_neg e]
                  have a1 := hwb i hi
                  have a2 : A * 1984 ^ (d - i) ≤ A * 5 * 1984 ^ (d - i) := Int.mul_le_mul_of_nonneg_right (by omega) (by omega)
                  omega
            · refine x_aload_n (pc := 123) dX3_signAbove_123 rfl rfl ?_
              refine x_getr (pc := 124) (b := c + 8) fX3_20 dX3_signAbove_124 hs.1 rfl rfl ?_
              refine x_iload (pc := 127) dX3_signAbove_127 rfl ?_
              refine x_lald (pc := 129) dX3_signAbove_129 hs.2.2.2.2.2.2.2.2 (by omega) (by omega) (fun r129a r129b => ?_)
              rw [e8]
              refine x_lconst (pc := 130) (x := 0) dX3_signAbove_130 (by decide) ?_
              refine x_lcmp_le (pc := 131) (t := 139) dX3_signAbove_131 dX3_signAbove_132 (by decide) ⟨by omega, by omega⟩ ⟨by omega, by omega⟩ (fun c131 => ?_) (fun c131 => ?_)
              · refine x_iconst (pc := 139) dX3_signAbove_139 ?_
                refine x_iret (pc := 140) dX3_signAbove_140 rfl (by decide) (by decide) ?_
                rw [if_pos (fun q9 => c119 q9)] at hres
                have k9 := k _ hF2
                rw [← hres] at k9
                refine kI k9 ?_
                unfold sg
                grind
              · refine x_iconst (pc := 135) dX3_signAbove_135 ?_
                refine x_goto (pc := 136) (t := 140) dX3_signAbove_136 (by decide) ?_
                refine x_iret (pc := 140) dX3_signAbove_140 rfl (by decide) (by decide) ?_
                rw [if_pos (fun q9 => c119 q9)] at hres
                have k9 := k _ hF2
                rw [← hres] at k9
                refine kI k9 ?_
                unfold sg
                grind
          · exfalso; omega
        | succ r ihr =>
          intro k z M2 hkr hz2 hF2 hw2
          have e8 : z.toNat = d - (k + 1) := by omega
          have e9 : (z + 1).toNat = d - k := by omega
          have e10 : M2 (c + 8) (d - (k + 1)) = w (d - (k + 1)) := by rw [hw2 _ (by omega), if_neg (by omega)]
          have e11 : M2 (c + 8) (d - k) = hor x w d k := by rw [hw2 _ (by omega), if_pos (by omega)]; congr 1; omega
          obtain ⟨e12, e13⟩ := horr (k + 1) (by omega)
          simp only [hor] at e12 e13
          refine x_iload (pc := 76) dX3_signAbove_76 rfl ?_
          refine x_iload (pc := 78) dX3_signAbove_78 rfl ?_
          refine x_icmp_lt (pc := 80) (t := 111) dX3_signAbove_80 (by decide) ⟨by omega, by omega⟩ ⟨by omega, by omega⟩ (fun c80 => ?_) (fun c80 => ?_)
          · exfalso; omega
          · refine x_aload_n (pc := 83) dX3_signAbove_83 rfl rfl ?_
            refine x_getr (pc := 84) (b := c + 8) fX3_20 dX3_signAbove_84 hs.1 rfl rfl ?_
            refine x_iload (pc := 87) dX3_signAbove_87 rfl ?_
            refine x_dup2 (pc := 89) dX3_signAbove_89 rfl rfl ?_
            refine x_lald (pc := 90) dX3_signAbove_90 hs.2.2.2.2.2.2.2.2 (by omega) (by omega) (fun r90a r90b => ?_)
            rw [e8, e10]
            refine x_iload_n (pc := 91) dX3_signAbove_91 rfl rfl ?_
            refine x_i2l (pc := 92) ⟨by omega, by omega⟩ dX3_signAbove_92 ?_
            refine x_aload_n (pc := 93) dX3_signAbove_93 rfl rfl ?_
            refine x_getr (pc := 94) (b := c + 8) fX3_20 dX3_signAbove_94 hs.1 rfl rfl ?_
            refine x_iload (pc := 97) dX3_signAbove_97 rfl ?_
            refine x_iconst (pc := 99) dX3_signAbove_99 ?_
            refine x_iadd (pc := 100) dX3_signAbove_100 ?_
            refine x_lald (pc := 101) dX3_signAbove_101 hs.2.2.2.2.2.2.2.2 (by omega) (by omega) (fun r101a r101b => ?_)
            rw [e9, e11]
            refine x_lmul (pc := 102) dX3_signAbove_102 ?_
            skip
            refine x_ladd (pc := 103) dX3_signAbove_103 ?_
            refine x_last (pc := 104) dX3_signAbove_104 hs.2.2.2.2.2.2.2.2 (by omega) (by omega) (by omega) ⟨by omega, by omega⟩ ?_
            refine x_iinc (pc := 105) dX3_signAbove_105 rfl (by decide) (L' := [(6, _), (5, _), (4, _), (0, _), (1, _), (2, _), (3, _)]) rfl ?_
            refine x_goto (pc := 108) (t := 76) dX3_signAbove_108 (by decide) ?_
            refine X.loc [0, 1, 2, 3, 4, 5, 6] (L' := [(6, _), (5, _), (4, _), (0, _), (1, _), (2, _), (3, _)]) rfl ?_
            refine ihr (k + 1) _ _ (by omega) (by omega) (hF2.ms (by omega)) (fun i hi => ?_)
            by_cases e : i = d - (k + 1)
            · rw [e, e8, mset_same, if_pos (by omega), show d - (d - (k + 1)) = k + 1 by omega]
              simp only [hor]
              try rw [Int.mul_comm x (hor x w d k)]
            · rw [mset_nei (by omega), hw2 i hi]
              by_cases e2 : d - k ≤ i
              · rw [if_pos e2, if_pos (by omega)]
              · rw [if_neg e2, if_neg (by omega)]
      refine x_iload (pc := 57) dX3_signAbove_57 rfl ?_
      refine x_iload (pc := 59) dX3_signAbove_59 rfl ?_
      refine x_icmp_gt (pc := 61) (t := 147) dX3_signAbove_61 (by decide) ⟨by omega, by omega⟩ ⟨by omega, by omega⟩ (fun c61 => ?_) (fun c61 => ?_)
      · exfalso; omega
      · refine x_iload (pc := 64) dX3_signAbove_64 rfl ?_
        refine x_iconst (pc := 66) dX3_signAbove_66 ?_
        refine x_icmp_ge (pc := 67) (t := 147) dX3_signAbove_67 (by decide) ⟨by omega, by omega⟩ ⟨by omega, by omega⟩ (fun c67 => ?_) (fun c67 => ?_)
        · exfalso; omega
        · refine x_iload (pc := 70) dX3_signAbove_70 rfl ?_
          refine x_iconst (pc := 72) dX3_signAbove_72 ?_
          refine x_isub (pc := 73) dX3_signAbove_73 ?_
          refine x_istore (pc := 74) dX3_signAbove_74 trivial (by decide) (L' := [(6, _), (5, _), (4, _), (0, _), (1, _), (2, _), (3, _)]) rfl ?_
          refine X.loc [0, 1, 2, 3, 4, 5, 6] (L' := [(6, _), (5, _), (4, _), (0, _), (1, _), (2, _), (3, _)]) rfl ?_
          refine inner (d - low) 0 _ _ (by omega) (by omega) hF (fun i hi => ?_)
          by_cases e : d - 0 ≤ i
          · have e2 : i = d := by omega
            rw [if_pos e, e2, Nat.sub_self]
            exact hw d (Nat.le_refl _)
          · rw [if_neg e]
            exact hw i hi
  have scale : ∀ (r j : Nat) (y : Int) (M1 : Mem), j + r = d + 1 → y = j → Frm (c + 8) (c + 9) M M1 → (∀ i, i < j → M1 (c + 8) i = f i * 2 ^ (p * (d - i))) → X g m_X3_signAbove 0 0 lay M1 11 [(5, vI y), (4, vI d), (0, vR c), (1, vI q), (2, vI x), (3, vI p)] [] K := by
    intro r
    induction r with
    | zero =>
      intro j y M1 hj hy hF hw
      refine x_iload (pc := 11) dX3_signAbove_11 rfl ?_
      refine x_iload (pc := 13) dX3_signAbove_13 rfl ?_
      refine x_icmp_gt (pc := 15) (t := 54) dX3_signAbove_15 (by decide) ⟨by omega, by omega⟩ ⟨by omega, by omega⟩ (fun c15 => ?_) (fun c15 => ?_)
      · refine x_iconst (pc := 54) dX3_signAbove_54 ?_
        refine x_istore (pc := 55) dX3_signAbove_55 trivial (by decide) (L' := [(5, _), (4, _), (0, _), (1, _), (2, _), (3, _)]) rfl ?_
        refine X.loc [0, 1, 2, 3, 4, 5] (L' := [(5, _), (4, _), (0, _), (1, _), (2, _), (3, _)]) rfl ?_
        refine outer (d + 1) 0 _ (fun i => f i * 2 ^ (p * (d - i))) B _ (by omega) rfl hF (fun i hi => hw i (by omega)) hB0 ?_ (fun i hi => scale_b hB0 (hf i hi) hp) rfl
        have e5 : (5 : Int) ^ (d + 1) ≤ 3125 := by
          have : d = 0 ∨ d = 1 ∨ d = 2 ∨ d = 3 ∨ d = 4 := by omega
          rcases this with rfl | rfl | rfl | rfl | rfl <;> decide
        have e6 : B * 5 ^ (d + 1) * 1984 ^ d ≤ B * 3125 * 1984 ^ d := Int.mul_le_mul_of_nonneg_right (Int.mul_le_mul_of_nonneg_left e5 hB0) (by have := pow1984 d; omega)
        omega
      · exfalso; omega
    | succ r ih =>
      intro j y M1 hj hy hF hw
      subst hy
      have e7 : (p : Int) * ((d : Int) - j) = ((p * (d - j) : Nat) : Int) := by rw [Int.natCast_mul, Int.ofNat_sub (by omega)]
      have e8 : p * (d - j) < 64 := by
        have := Nat.mul_le_mul hp (show d - j ≤ 4 by omega)
        omega
      have e9 := scale_b (k := d - j) hB0 (hf j (by omega)) hp
      have e10 : B * 1984 ^ (d - j) ≤ B * 3125 * 1984 ^ d := Int.mul_le_mul (by omega) (pow1984_le (by omega)) (by have := pow1984 (d - j); omega) (by omega)
      have e11 := (hL M1 hF).2 j (by omega)
      refine x_iload (pc := 11) dX3_signAbove_11 rfl ?_
      refine x_iload (pc := 13) dX3_signAbove_13 rfl ?_
      refine x_icmp_gt (pc := 15) (t := 54) dX3_signAbove_15 (by decide) ⟨by omega, by omega⟩ ⟨by omega, by omega⟩ (fun c15 => ?_) (fun c15 => ?_)
      · exfalso; omega
      · refine x_iload (pc := 18) dX3_signAbove_18 rfl ?_
        refine x_iconst (pc := 20) dX3_signAbove_20 ?_
        refine x_icmp_ge (pc := 21) (t := 54) dX3_signAbove_21 (by decide) ⟨by omega, by omega⟩ ⟨by omega, by omega⟩ (fun c21 => ?_) (fun c21 => ?_)
        · exfalso; omega
        · refine x_aload_n (pc := 24) dX3_signAbove_24 rfl rfl ?_
          refine x_getr (pc := 25) (b := c + 8) fX3_20 dX3_signAbove_25 hs.1 rfl rfl ?_
          refine x_iload (pc := 28) dX3_signAbove_28 rfl ?_
          refine x_aload_n (pc := 30) dX3_signAbove_30 rfl rfl ?_
          refine x_getr (pc := 31) (b := c + 1) fX3_11 dX3_signAbove_31 hs.1 rfl rfl ?_
          refine x_iload_n (pc := 34) dX3_signAbove_34 rfl rfl ?_
          refine x_aaldR (pc := 35) (c + 2 + q) dX3_signAbove_35 hs.2.1 (by omega) (by omega) (by rw [Int.toNat_natCast]) ?_
          refine x_iload (pc := 36) dX3_signAbove_36 rfl ?_
          refine x_lald (pc := 38) dX3_signAbove_38 (hs.row hk5) (by omega) (by omega) (fun r38a r38b => ?_)
          rw [Int.toNat_natCast, e11]
          refine x_iload_n (pc := 39) dX3_signAbove_39 rfl rfl ?_
          refine x_iload (pc := 40) dX3_signAbove_40 rfl ?_
          refine x_iload (pc := 42) dX3_signAbove_42 rfl ?_
          refine x_isub (pc := 44) dX3_signAbove_44 ?_
          refine x_imul (pc := 45) dX3_signAbove_45 ?_
          refine x_lshl (pc := 46) (p * (d - j)) e8 e7 dX3_signAbove_46 ?_
          refine x_last (pc := 47) dX3_signAbove_47 hs.2.2.2.2.2.2.2.2 (by omega) (by omega) (by omega) ⟨by omega, by omega⟩ ?_
          refine x_iinc (pc := 48) dX3_signAbove_48 rfl (by decide) (L' := [(5, _), (4, _), (0, _), (1, _), (2, _), (3, _)]) rfl ?_
          refine x_goto (pc := 51) (t := 11) dX3_signAbove_51 (by decide) ?_
          refine X.loc [0, 1, 2, 3, 4, 5] (L' := [(5, _), (4, _), (0, _), (1, _), (2, _), (3, _)]) rfl ?_
          refine ih (j + 1) _ _ (by omega) (by omega) (hF.ms (by omega)) (fun i hi => ?_)
          by_cases e : i = j
          · rw [e, Int.toNat_natCast, mset_same]
          · rw [mset_nei (by omega)]
            exact hw i (by omega)
  refine x_aload_n (pc := 0) dX3_signAbove_0 rfl rfl ?_
  refine x_getr (pc := 1) (b := c + 7) fX3_16 dX3_signAbove_1 hs.1 rfl rfl ?_
  refine x_iload_n (pc := 4) dX3_signAbove_4 rfl rfl ?_
  refine x_iald (pc := 5) dX3_signAbove_5 hs.2.2.2.2.2.2.2.1 (by omega) (by omega) (fun r5a r5b => ?_)
  rw [Int.toNat_natCast, hd0]
  refine x_istore (pc := 6) dX3_signAbove_6 trivial (by decide) (L' := [(4, _), (0, _), (1, _), (2, _), (3, _)]) rfl ?_
  refine x_iconst (pc := 8) dX3_signAbove_8 ?_
  refine x_istore (pc := 9) dX3_signAbove_9 trivial (by decide) (L' := [(5, _), (4, _), (0, _), (1, _), (2, _), (3, _)]) rfl ?_
  refine X.loc [0, 1, 2, 3, 4, 5] (L' := [(5, _), (4, _), (0, _), (1, _), (2, _), (3, _)]) rfl ?_
  exact scale (d + 1) 0 _ _ (by omega) rfl Frm.rf (fun i hi => by omega)
