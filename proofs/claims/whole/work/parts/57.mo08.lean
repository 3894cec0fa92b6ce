/-! The reference's sign rows: laid for a polynomial, the signs of a row. -/
/-- a row that can be told near a point; its top coefficient is not 0 -/
def okM (f : Nat → Int) (d : Nat) : Prop := d ≤ 4 ∧ f d ≠ 0 ∧ ∃ B : Int, 0 ≤ B ∧ B * 3125 * 2048 ^ d < pB 31 ∧ ∀ i, i ≤ d → -B ≤ f i ∧ f i ≤ B
def WfM (s : RS) : Prop := s.1 ≤ 5 ∧ ∀ k, k < s.1 → okM (s.2.1 k) (s.2.2 k)
theorem ab_le {x B : Int} : ab x ≤ B ↔ (-B ≤ x ∧ x ≤ B) := by unfold ab; split <;> omega
theorem ab_lt {x B : Int} : ab x < B ↔ (-B < x ∧ x < B) := by unfold ab; split <;> omega
theorem pw_pos {n : Int} (hn : 1 ≤ n) (k : Nat) : (1 : Int) ≤ n ^ k := by
  induction k with
  | zero => simp
  | succ k ih =>
    rw [Int.pow_succ]
    have := Int.mul_le_mul_of_nonneg_right ih (show 0 ≤ n by omega)
    omega
theorem pw_le {n : Int} (hn : 1 ≤ n) {j k : Nat} (h : j ≤ k) : n ^ j ≤ n ^ k := by
  obtain ⟨m, rfl⟩ := Nat.exists_eq_add_of_le h
  rw [Int.pow_add]
  have h1 := pw_pos hn j
  have h2 := Int.mul_le_mul_of_nonneg_left (pw_pos hn m) (show 0 ≤ n ^ j by omega)
  omega
theorem hor_b2 {x : Int} {w : Nat → Int} {d : Nat} {A : Int} (hx : -2048 ≤ x ∧ x ≤ 2048) (hA : 0 ≤ A) (hw : ∀ i, i ≤ d → -(A * 2048 ^ (d - i)) ≤ w i ∧ w i ≤ A * 2048 ^ (d - i)) : ∀ k : Nat, k ≤ d → -(A * (k + 1) * 2048 ^ k) ≤ hor x w d k ∧ hor x w d k ≤ A * (k + 1) * 2048 ^ k
  | 0, _ => by
    have := hw d (Nat.le_refl d)
    simp only [hor, Nat.sub_self, Int.pow_zero] at *
    omega
  | k + 1, hk => by
    have h1 := hor_b2 hx hA hw k (by omega)
    have h2 := hw (d - (k + 1)) (by omega)
    rw [show d - (d - (k + 1)) = k + 1 by omega] at h2
    have h3 := mulb hx.1 hx.2 h1.1 h1.2
    simp only [hor]
    have e : A * (((k + 1 : Nat) : Int) + 1) * 2048 ^ (k + 1) = A * 2048 ^ (k + 1) + 2048 * (A * (k + 1) * 2048 ^ k) := by
      rw [Int.pow_succ]
      push_cast
      grind
    rw [e]
    omega
theorem scale_b2 {f B : Int} {p k : Nat} (hB : 0 ≤ B) (hf : -B ≤ f ∧ f ≤ B) (hp : p ≤ 6) : -(B * 2048 ^ k) ≤ f * 2 ^ (p * k) ∧ f * 2 ^ (p * k) ≤ B * 2048 ^ k := by
  have h1 : (1 : Int) ≤ 2 ^ (p * k) ∧ (2 : Int) ^ (p * k) ≤ 2048 ^ k := by
    rw [Int.pow_mul]
    have e : (1 : Int) ≤ 2 ^ p ∧ (2 : Int) ^ p ≤ 64 := by
      have : p = 0 ∨ p = 1 ∨ p = 2 ∨ p = 3 ∨ p = 4 ∨ p = 5 ∨ p = 6 := by omega
      rcases this with rfl | rfl | rfl | rfl | rfl | rfl | rfl <;> decide
    generalize (2 : Int) ^ p = z at e
    induction k with
    | zero => simp
    | succ k ih =>
      rw [Int.pow_succ, Int.pow_succ]
      have h2 := mulb (a := z ^ k) (b := z) (A := 2048 ^ k) (B := 64) (by omega) (by omega) (by omega) (by omega)
      have h3 : z ^ k * 1 ≤ z ^ k * z := Int.mul_le_mul_of_nonneg_left e.1 (by omega)
      have := pw_pos (n := 2048) (by decide) k
      omega
  exact mulb hf.1 hf.2 (by omega) h1.2
theorem mul_sc {a y B : Int} (hB : 0 ≤ B) (h1 : -B ≤ a * y ∧ a * y ≤ B) (hy : 0 ≤ y) (hlt : B < pB 31) : ab a * ab y < pB 31 := by
  have := ab_mul a y
  have h2 := ab_le.mpr h1
  omega

set_option maxRecDepth 100000 in
theorem sp_X5_laysRows {g : GG} {lay : Lay} {M : Mem} {K : KK} {d : Nat} {P : Nat → Int} (hd : MoL lay d) (hb0 : g.2.1 ≤ d) (hB : ∃ N, Bg N M d) (hP : ∀ p, p < 9 → M (d + 1) (11 + p) = P p) (hPr : ∀ p, p < 9 → -1000 < P p ∧ P p < 1000) (hok : mRowsOK P) (k : ∀ M2, FrL d M M2 → Mr (mRows P) M2 d → K (.inl none) lay M2) : X g m_X5_laysRows 0 0 lay M 0 [(0, vR d)] [] K := by
  have loop : ∀ (c j : Nat) (x : Int) (N1 : Nat → Int) (M1 : Mem), j + c = 9 → x = j → Frm (d + 7) (d + 8) M M1 → Bg N1 M1 d → (∀ p, p < j → N1 p = P p) → X g m_X5_laysRows 0 0 lay M1 2 [(1, vI x), (0, vR d)] [] K := by
    intro c
    induction c with
    | zero =>
      intro j x N1 M1 hj hx hF hB1 hp
      refine x_iload_n (pc := 2) dX5_laysRows_2 rfl rfl ?_
      refine x_bipush (pc := 3) dX5_laysRows_3 (by decide) ?_
      refine x_icmp_ge (pc := 5) (t := 32) dX5_laysRows_5 (by decide) ⟨by omega, by omega⟩ ⟨by omega, by omega⟩ (fun c5 => ?_) (fun c5 => ?_)
      · refine x_aload_n (pc := 32) dX5_laysRows_32 rfl rfl ?_
        refine x_callV (pc := 33) [] rfl kX5_115 dX5_laysRows_33 hd.1 rfl rfl (by decide) (Nat.le_of_ble_eq_true rfl) (Nat.le_of_ble_eq_true rfl) (by decide) ?_
        refine sp_X5_laysFrom hd hb0 hB1 (fun p hp9 => hp p (by omega)) hok (fun M2 hF2 hr => ?_)
        refine ⟨_, rfl, ?_⟩
        refine x_vret (pc := 36) dX5_laysRows_36 rfl (by decide) (by decide) ?_
        exact k M2 ((FrL.rf.fr hF).tr hF2) hr
      · exfalso; omega
    | succ c ih =>
      intro j x N1 M1 hj hx hF hB1 hp
      have e1 := hPr j (by omega)
      refine x_iload_n (pc := 2) dX5_laysRows_2 rfl rfl ?_
      refine x_bipush (pc := 3) dX5_laysRows_3 (by decide) ?_
      refine x_icmp_ge (pc := 5) (t := 32) dX5_laysRows_5 (by decide) ⟨by omega, by omega⟩ ⟨by omega, by omega⟩ (fun c5 => ?_) (fun c5 => ?_)
      · exfalso; omega
      · refine x_aload_n (pc := 8) dX5_laysRows_8 rfl rfl ?_
        refine x_iconst (pc := 9) dX5_laysRows_9 ?_
        refine x_iload_n (pc := 10) dX5_laysRows_10 rfl rfl ?_
        refine x_callS (pc := 11) [_, _] rfl kX5_87 dX5_laysRows_11 rfl (by decide) (Nat.le_of_ble_eq_true rfl) (Nat.le_of_ble_eq_true rfl) (by decide) ?_
        refine sp_X5_at ?_
        refine ⟨_, rfl, ?_⟩
        refine x_aload_n (pc := 14) dX5_laysRows_14 rfl rfl ?_
        refine x_getr (pc := 15) (b := d + 1) fX5_7 dX5_laysRows_15 hd.1 rfl rfl ?_
        refine x_bipush (pc := 18) dX5_laysRows_18 (by decide) ?_
        refine x_iload_n (pc := 20) dX5_laysRows_20 rfl rfl ?_
        refine x_iadd (pc := 21) dX5_laysRows_21 ?_
        refine x_iald (pc := 22) dX5_laysRows_22 hd.2.1 (by omega) (by omega) (fun r22a r22b => ?_)
        rw [show (11 + x).toNat = 11 + j by omega, hF _ _ (by omega), hP j (by omega), show 9 * 0 + x = ((j : Nat) : Int) by omega]
        refine x_callV (pc := 23) [_, _] rfl kX5_65 dX5_laysRows_23 hd.1 rfl rfl (by decide) (Nat.le_of_ble_eq_true rfl) (Nat.le_of_ble_eq_true rfl) (by decide) ?_
        refine sp_X5_setsLong hd hb0 hB1 (by omega) (by omega) (fun M2 hF2 hB2 => ?_)
        refine ⟨_, rfl, ?_⟩
        refine x_iinc (pc := 26) dX5_laysRows_26 rfl (by decide) (L' := [(1, _), (0, _)]) rfl ?_
        refine x_goto (pc := 29) (t := 2) dX5_laysRows_29 (by decide) ?_
        refine X.loc [0, 1] (L' := [(1, _), (0, _)]) rfl ?_
        refine ih (j + 1) _ _ _ (by omega) (by omega) (hF.trans hF2.frm) hB2 (fun p hp9 => ?_)
        by_cases e : p = j
        · rw [e, fup_at]
        · rw [fup_ne e]
          exact hp p (by omega)
  obtain ⟨N, hB⟩ := hB
  refine x_iconst (pc := 0) dX5_laysRows_0 ?_
  refine x_istore_n (pc := 1) dX5_laysRows_1 rfl (by decide) (L' := [(1, _), (0, _)]) rfl ?_
  refine X.loc [0, 1] (L' := [(1, _), (0, _)]) rfl ?_
  exact loop 9 0 _ N M rfl rfl Frm.rf hB (fun p hp => by omega)
set_option maxRecDepth 100000 in
theorem sp_X5_signAt {g : GG} {lay : Lay} {M : Mem} {K : KK} {d : Nat} {q p9 : Nat} {x y9 : Int} {s : RS} (hd : MoL lay d) (hb0 : g.2.1 ≤ d) (hR : Mr s M d) (hW : WfM s) (hq : q < s.1) (hx : -2048 ≤ x ∧ x ≤ 2048) (hp9 : p9 ≤ 6) (hy9 : y9 = 0 ∨ y9 = 1) (k : ∀ M2, Frm (d + 7) (d + 8) M M2 → Mr s M2 d → K (.inl (some (vI (if y9 = 1 then sgnUp (s.2.1 q) (s.2.2 q) x p9 else sg (hor x (fun i => s.2.1 q i * 2 ^ (p9 * (s.2.2 q - i))) (s.2.2 q) (s.2.2 q)))))) lay M2) : X g m_X5_signAt 0 0 lay M 0 [(0, vR d), (1, vI q), (2, vI x), (3, vI p9), (4, vI y9)] [] K := by
  have h5 := hW.1
  obtain ⟨N, hB, h9, hrow⟩ := hR
  have hkeep : ∀ N2 M2, Frm (d + 7) (d + 8) M M2 → Bg N2 M2 d → (∀ j, j < 81 → N2 j = N j) → Mr s M2 d := fun N2 M2 hF2 hB2 hN2 => ⟨N2, hB2, by rw [hF2 _ _ (by omega)]; exact h9, fun k hk => ⟨by rw [hF2 _ _ (by omega)]; exact (hrow k hk).1, fun p hp => by rw [hN2 _ (by omega)]; exact (hrow k hk).2 p hp⟩⟩
  obtain ⟨hd0, hr⟩ := hrow q hq
  obtain ⟨hd4, hne, B, hB0, hBb, hf⟩ := hW.2 q hq
  obtain ⟨f, hfe⟩ : ∃ f, f = s.2.1 q := ⟨_, rfl⟩
  obtain ⟨d9, hde⟩ : ∃ d9, d9 = s.2.2 q := ⟨_, rfl⟩
  rw [← hfe] at hr hf hne k
  rw [← hde] at hd0 hd4 hf hne hBb k
  have outer : ∀ (k0 low : Nat) (y : Int) (w : Nat → Int) (A : Int) (N1 : Nat → Int) (M1 : Mem), low + k0 = d9 + 1 → y = low → Frm (d + 7) (d + 8) M M1 → Bg N1 M1 d → (∀ j, j < 81 → N1 j = N j) → (∀ i, i ≤ d9 → N1 (81 + i) = w i) → 0 ≤ A → A * 5 ^ k0 * 2048 ^ d9 < pB 31 → (∀ i, i ≤ d9 → -(A * 2048 ^ (d9 - i)) ≤ w i ∧ w i ≤ A * 2048 ^ (d9 - i)) → (y9 = 1 → upS x d9 k0 low w = sgnUp f d9 x p9) → (y9 = 0 → low = 0 ∧ w = fun i => f i * 2 ^ (p9 * (d9 - i))) → X g m_X5_signAt 0 0 lay M1 77 [(6, vI y), (5, vI d9), (0, vR d), (1, vI q), (2, vI x), (3, vI p9), (4, vI y9)] [] K := by
    intro k0
    induction k0 with
    | zero =>
      intro low y w A N1 M1 hlk hy hF hB1 hN hw hA hAb hwb hres hres0
      rcases hy9 with hy0 | hy0
      · have := (hres0 hy0).1
        exfalso; omega
      · have hres := hres hy0
        refine x_iload (pc := 77) dX5_signAt_77 rfl ?_
        refine x_iload (pc := 79) dX5_signAt_79 rfl ?_
        refine x_icmp_gt (pc := 81) (t := 167) dX5_signAt_81 (by decide) ⟨by omega, by omega⟩ ⟨by omega, by omega⟩ (fun c81 => ?_) (fun c81 => ?_)
        · refine x_iconst (pc := 167) dX5_signAt_167 ?_
          refine x_iret (pc := 168) dX5_signAt_168 rfl (by decide) (by decide) ?_
          simp only [upS] at hres
          have k9 := k _ hF (hkeep N1 M1 hF hB1 hN)
          rw [if_pos hy0, ← hres] at k9
          exact k9
        · exfalso; omega
    | succ k0 ih =>
      intro low y w A N1 M1 hlk hy hF hB1 hN hw hA hAb hwb hres hres0
      have hor1 := hor_b2 hx hA hwb
      have hp5 : A * 5 * 2048 ^ d9 < pB 31 := by
        have e1 : (1 : Int) ≤ 5 ^ k0 := Int.pow_pos (by decide)
        have e2 : (0 : Int) ≤ A * 5 * 2048 ^ d9 := Int.mul_nonneg (by omega) (by have := pw_pos (n := 2048) (by decide) d9; omega)
        have e3 : A * 5 ^ (k0 + 1) * 2048 ^ d9 = A * 5 * 2048 ^ d9 * 5 ^ k0 := by rw [Int.pow_succ]; grind
        rw [e3] at hAb
        have e4 := Int.mul_le_mul_of_nonneg_left e1 e2
        omega
      have horr : ∀ k, k ≤ d9 → A * (k + 1) * 2048 ^ k ≤ A * 5 * 2048 ^ d9 := fun k hk =>
        Int.mul_le_mul (Int.mul_le_mul_of_nonneg_left (by omega) hA) (pw_le (by decide) hk) (by have := pw_pos (n := 2048) (by decide) k; omega) (by omega)
      have inner : ∀ (r k : Nat) (z : Int) (N2 : Nat → Int) (M2 : Mem), k + r = d9 - low → z = (d9 : Int) - 1 - k → Frm (d + 7) (d + 8) M M2 → Bg N2 M2 d → (∀ j, j < 81 → N2 j = N j) → (∀ i, i ≤ d9 → N2 (81 + i) = if d9 - k ≤ i then hor x w d9 (d9 - i) else w i) → X g m_X5_signAt 0 0 lay M2 90 [(7, vI z), (6, vI y), (5, vI d9), (0, vR d), (1, vI q), (2, vI x), (3, vI p9), (4, vI y9)] [] K := by
        intro r
        induction r with
        | zero =>
          intro kz z N2 M2 hkr hz2 hF2 hB2 hN2 hw2
          have hsyn : ∀ i, i ≤ d9 → N2 (81 + i) = syn x d9 low w i := fun i hi => by
            rw [hw2 i hi]
            unfold syn
            by_cases e : low ≤ i
            · rw [if_pos (by omega), if_pos ⟨e, hi⟩]
            · rw [if_neg (by omega), if_neg (by omega)]
          have e8 := hsyn low (by omega)
          have e9 : syn x d9 low w low = hor x w d9 (d9 - low) := if_pos ⟨Nat.le_refl _, by omega⟩
          have hsl := hB2 (81 + low) (by omega)
          rw [e8] at hsl
          have hsr := sg3 (x := syn x d9 low w low)
          have hs0 := @sg_0 (syn x d9 low w low)
          simp only [upS] at hres
          refine x_iload (pc := 90) dX5_signAt_90 rfl ?_
          refine x_iload (pc := 92) dX5_signAt_92 rfl ?_
          refine x_icmp_lt (pc := 94) (t := 134) dX5_signAt_94 (by decide) ⟨by omega, by omega⟩ ⟨by omega, by omega⟩ (fun c94 => ?_) (fun c94 => ?_)
          · refine x_aload_n (pc := 134) dX5_signAt_134 rfl rfl ?_
            refine x_bipush (pc := 135) dX5_signAt_135 (by decide) ?_
            refine x_iload (pc := 137) dX5_signAt_137 rfl ?_
            refine x_iadd (pc := 139) dX5_signAt_139 ?_
            rw [hy, show 81 + (low : Int) = ((81 + low : Nat) : Int) by omega]
            refine x_callV (pc := 140) [_] rfl kX5_73 dX5_signAt_140 hd.1 rfl rfl (by decide) (Nat.le_of_ble_eq_true rfl) (Nat.le_of_ble_eq_true rfl) (by decide) ?_
            refine sp_X5_signOf hd hb0 hsl (by omega) ?_
            refine ⟨_, rfl, ?_⟩
            refine x_if_ne (pc := 143) (t := 151) dX5_signAt_143 (by decide) ⟨by omega, by omega⟩ (fun c143 => ?_) (fun c143 => ?_)
            · refine x_aload_n (pc := 151) dX5_signAt_151 rfl rfl ?_
              refine x_bipush (pc := 152) dX5_signAt_152 (by decide) ?_
              refine x_iload (pc := 154) dX5_signAt_154 rfl ?_
              refine x_iadd (pc := 156) dX5_signAt_156 ?_
              rw [show 81 + (low : Int) = ((81 + low : Nat) : Int) by omega]
              refine x_callV (pc := 157) [_] rfl kX5_73 dX5_signAt_157 hd.1 rfl rfl (by decide) (Nat.le_of_ble_eq_true rfl) (Nat.le_of_ble_eq_true rfl) (by decide) ?_
              refine sp_X5_signOf hd hb0 hsl (by omega) ?_
              refine ⟨_, rfl, ?_⟩
              refine x_iret (pc := 160) dX5_signAt_160 rfl (by decide) (by decide) ?_
              have k9 := k _ hF2 (hkeep N2 M2 hF2 hB2 hN2)
              refine kI k9 ?_
              rcases hy9 with hy0 | hy0
              · obtain ⟨hz0, hwf⟩ := hres0 hy0
                subst hz0
                rw [if_neg (by omega), e9, hwf, Nat.sub_zero]
              · have hres := hres hy0
                rw [if_pos hy0, ← hres, if_pos (fun z => by first | (rw [z] at hs0; omega) | exact absurd (hs0.mpr z) (by omega))]
            · refine x_iload (pc := 146) dX5_signAt_146 rfl ?_
              refine x_if_ne (pc := 148) (t := 161) dX5_signAt_148 (by decide) ⟨by omega, by omega⟩ (fun c148 => ?_) (fun c148 => ?_)
              · refine x_iinc (pc := 161) dX5_signAt_161 rfl (by decide) (L' := [(6, _), (7, _), (5, _), (0, _), (1, _), (2, _), (3, _), (4, _)]) rfl ?_
                refine x_goto (pc := 164) (t := 77) dX5_signAt_164 (by decide) ?_
                refine X.loc [0, 2, 3, 4, 5, 6, 7] (L' := [(6, _), (5, _), (0, _), (1, _), (2, _), (3, _), (4, _)]) rfl ?_
                have hy0 : y9 = 1 := by omega
                have hres := hres hy0
                rw [if_neg (fun z => z (hs0.mp (by omega)))] at hres
                refine ih (low + 1) _ _ (A * 5) _ _ (by omega) (by omega) hF2 hB2 hN2 hsyn (by omega) ?_ (fun i hi => ?_) (fun _ => hres) (fun z => by omega)
                · rw [Int.pow_succ] at hAb
                  have e3 : A * 5 * 5 ^ k0 * 2048 ^ d9 = A * (5 ^ k0 * 5) * 2048 ^ d9 := by grind
                  rw [e3]
                  exact hAb
                · unfold syn
                  have a3 := pw_pos (n := 2048) (by decide) (d9 - i)
                  by_cases e : low ≤ i ∧ i ≤ d9
                  · rw [if_pos e]
                    have a1 := hor1 (d9 - i) (by omega)
                    have a2 : A * (((d9 - i : Nat) : Int) + 1) * 2048 ^ (d9 - i) ≤ A * 5 * 2048 ^ (d9 - i) := Int.mul_le_mul_of_nonneg_right (Int.mul_le_mul_of_nonneg_left (by omega) hA) (by omega)
                    omega
                  · rw [if_neg e]
                    have a1 := hwb i hi
                    have a2 : A * 2048 ^ (d9 - i) ≤ A * 5 * 2048 ^ (d9 - i) := Int.mul_le_mul_of_nonneg_right (by omega) (by omega)
                    omega
              · refine x_aload_n (pc := 151) dX5_signAt_151 rfl rfl ?_
                refine x_bipush (pc := 152) dX5_signAt_152 (by decide) ?_
                refine x_iload (pc := 154) dX5_signAt_154 rfl ?_
                refine x_iadd (pc := 156) dX5_signAt_156 ?_
                rw [show 81 + (low : Int) = ((81 + low : Nat) : Int) by omega]
                refine x_callV (pc := 157) [_] rfl kX5_73 dX5_signAt_157 hd.1 rfl rfl (by decide) (Nat.le_of_ble_eq_true rfl) (Nat.le_of_ble_eq_true rfl) (by decide) ?_
                refine sp_X5_signOf hd hb0 hsl (by omega) ?_
                refine ⟨_, rfl, ?_⟩
                refine x_iret (pc := 160) dX5_signAt_160 rfl (by decide) (by decide) ?_
                have k9 := k _ hF2 (hkeep N2 M2 hF2 hB2 hN2)
                refine kI k9 ?_
                rcases hy9 with hy0 | hy0
                · obtain ⟨hz0, hwf⟩ := hres0 hy0
                  subst hz0
                  rw [if_neg (by omega), e9, hwf, Nat.sub_zero]
                · have hres := hres hy0
                  rw [if_pos hy0, ← hres, if_pos (fun z => by first | (rw [z] at hs0; omega) | exact absurd (hs0.mpr z) (by omega))]
          · exfalso; omega
        | succ r ihr =>
          intro kz z N2 M2 hkr hz2 hF2 hB2 hN2 hw2
          have e10 : N2 (81 + (d9 - (kz + 1))) = w (d9 - (kz + 1)) := by rw [hw2 _ (by omega), if_neg (by omega)]
          have e11 : N2 (81 + (d9 - kz)) = hor x w d9 kz := by rw [hw2 _ (by omega), if_pos (by omega)]; congr 1; omega
          have h1 := hor1 kz (by omega)
          have h2 := horr kz (by omega)
          have h3 := hor1 (kz + 1) (by omega)
          have h4 := horr (kz + 1) (by omega)
          have h5 := mulb hx.1 hx.2 h1.1 h1.2
          have h6 := hwb (d9 - (kz + 1)) (by omega)
          rw [show d9 - (d9 - (kz + 1)) = kz + 1 by omega] at h6
          have e : A * (((kz + 1 : Nat) : Int) + 1) * 2048 ^ (kz + 1) = A * 2048 ^ (kz + 1) + 2048 * (A * (kz + 1) * 2048 ^ kz) := by
            rw [Int.pow_succ]
            push_cast
            grind
          have hA2 : 0 ≤ A * 2048 ^ (kz + 1) := Int.mul_nonneg hA (by have := pw_pos (n := 2048) (by decide) (kz + 1); omega)
          have hA3 : 0 ≤ A * (kz + 1) * 2048 ^ kz := Int.mul_nonneg (Int.mul_nonneg hA (by omega)) (by have := pw_pos (n := 2048) (by decide) kz; omega)
          have g1 : ab (hor x w d9 kz) * ab x < pB 31 := by
            rw [← ab_mul]
            refine ab_lt.mpr ?_
            rw [Int.mul_comm]
            omega
          have g2 : ab (w (d9 - (kz + 1))) + ab (hor x w d9 kz * x) < pB 31 := by
            have z1 := ab_le.mpr h6
            have z2 : ab (hor x w d9 kz * x) ≤ 2048 * (A * (kz + 1) * 2048 ^ kz) := ab_le.mpr (by rw [Int.mul_comm (hor x w d9 kz) x]; exact h5)
            omega
          refine x_iload (pc := 90) dX5_signAt_90 rfl ?_
          refine x_iload (pc := 92) dX5_signAt_92 rfl ?_
          refine x_icmp_lt (pc := 94) (t := 134) dX5_signAt_94 (by decide) ⟨by omega, by omega⟩ ⟨by omega, by omega⟩ (fun c94 => ?_) (fun c94 => ?_)
          · exfalso; omega
          · refine x_aload_n (pc := 97) dX5_signAt_97 rfl rfl ?_
            refine x_bipush (pc := 98) dX5_signAt_98 (by decide) ?_
            refine x_iload (pc := 100) dX5_signAt_100 rfl ?_
            refine x_iadd (pc := 102) dX5_signAt_102 ?_
            refine x_iconst (pc := 103) dX5_signAt_103 ?_
            refine x_iadd (pc := 104) dX5_signAt_104 ?_
            refine x_bipush (pc := 105) dX5_signAt_105 (by decide) ?_
            rw [hz2, show 81 + ((d9 : Int) - 1 - (kz : Int)) + 1 = ((81 + (d9 - kz) : Nat) : Int) by omega]
            refine x_callV (pc := 107) [_, _] rfl kX5_76 dX5_signAt_107 hd.1 rfl rfl (by decide) (Nat.le_of_ble_eq_true rfl) (Nat.le_of_ble_eq_true rfl) (by decide) ?_
            refine sp_X5_copiesLong (t9 := 90) hd hb0 hB2 (by omega) (by omega) (fun M3 hF3 hB3 => ?_)
            rw [e11] at hB3
            refine ⟨_, rfl, ?_⟩
            refine x_aload_n (pc := 110) dX5_signAt_110 rfl rfl ?_
            refine x_bipush (pc := 111) dX5_signAt_111 (by decide) ?_
            refine x_iload_n (pc := 113) dX5_signAt_113 rfl rfl ?_
            refine x_callV (pc := 114) [_, _] rfl kX5_90 dX5_signAt_114 hd.1 rfl rfl (by decide) (Nat.le_of_ble_eq_true rfl) (Nat.le_of_ble_eq_true rfl) (by decide) ?_
            refine sp_X5_multipliesBy (k9 := 90) hd hb0 hB3 (by omega) (by omega) (by rw [fup_at]; exact g1) (fun M4 hF4 hB4 => ?_)
            rw [fup_at, fup2] at hB4
            refine ⟨_, rfl, ?_⟩
            refine x_aload_n (pc := 117) dX5_signAt_117 rfl rfl ?_
            refine x_bipush (pc := 118) dX5_signAt_118 (by decide) ?_
            refine x_iload (pc := 120) dX5_signAt_120 rfl ?_
            refine x_iadd (pc := 122) dX5_signAt_122 ?_
            refine x_bipush (pc := 123) dX5_signAt_123 (by decide) ?_
            rw [show 81 + ((d9 : Int) - 1 - (kz : Int)) = ((81 + (d9 - (kz + 1)) : Nat) : Int) by omega]
            refine x_callV (pc := 125) [_, _] rfl kX5_100 dX5_signAt_125 hd.1 rfl rfl (by decide) (Nat.le_of_ble_eq_true rfl) (Nat.le_of_ble_eq_true rfl) (by decide) ?_
            refine sp_X5_addsLong (t9 := 90) hd hb0 hB4 (by omega) (by omega) (by omega) (by rw [fup_at, fup_ne (by omega), e10]; exact g2) (fun u9 M5 hF5 hB5 => ?_)
            rw [fup_at, fup_ne (show ¬ 81 + (d9 - (kz + 1)) = 90 by omega), e10] at hB5
            refine ⟨_, rfl, ?_⟩
            refine x_iinc (pc := 128) dX5_signAt_128 rfl (by decide) (L' := [(7, _), (6, _), (5, _), (0, _), (1, _), (2, _), (3, _), (4, _)]) rfl ?_
            refine x_goto (pc := 131) (t := 90) dX5_signAt_131 (by decide) ?_
            refine X.loc [0, 1, 2, 3, 4, 5, 6, 7] (L' := [(7, _), (6, _), (5, _), (0, _), (1, _), (2, _), (3, _), (4, _)]) rfl ?_
            refine ihr (kz + 1) _ _ M5 (by omega) (by omega) (((hF2.trans hF3.frm).trans hF4.frm).trans hF5) hB5 (fun i hi => ?_) (fun i hi => ?_)
            · rw [fup_ne (by omega), fup_ne (by omega), fup_ne (by omega)]
              exact hN2 i hi
            · by_cases e : i = d9 - (kz + 1)
              · rw [e, fup_at, if_pos (by omega), show d9 - (d9 - (kz + 1)) = kz + 1 by omega]
                simp only [hor]
                rw [Int.mul_comm x]
              · rw [fup_ne (by omega), fup_ne (by omega), fup_ne (by omega), hw2 i hi]
                by_cases e2 : d9 - kz ≤ i
                · rw [if_pos e2, if_pos (by omega)]
                · rw [if_neg e2, if_neg (by omega)]
      refine x_iload (pc := 77) dX5_signAt_77 rfl ?_
      refine x_iload (pc := 79) dX5_signAt_79 rfl ?_
      refine x_icmp_gt (pc := 81) (t := 167) dX5_signAt_81 (by decide) ⟨by omega, by omega⟩ ⟨by omega, by omega⟩ (fun c81 => ?_) (fun c81 => ?_)
      · exfalso; omega
      · refine x_iload (pc := 84) dX5_signAt_84 rfl ?_
        refine x_iconst (pc := 86) dX5_signAt_86 ?_
        refine x_isub (pc := 87) dX5_signAt_87 ?_
        refine x_istore (pc := 88) dX5_signAt_88 trivial (by decide) (L' := [(7, _), (6, _), (5, _), (0, _), (1, _), (2, _), (3, _), (4, _)]) rfl ?_
        refine X.loc [0, 1, 2, 3, 4, 5, 6, 7] (L' := [(7, _), (6, _), (5, _), (0, _), (1, _), (2, _), (3, _), (4, _)]) rfl ?_
        refine inner (d9 - low) 0 _ N1 M1 (by omega) (by omega) hF hB1 hN (fun i hi => ?_)
        by_cases e : d9 - 0 ≤ i
        · have e2 : i = d9 := by omega
          rw [if_pos e, e2, Nat.sub_self]
          exact hw d9 (Nat.le_refl _)
        · rw [if_neg e]
          exact hw i hi
  have scale : ∀ (r j : Nat) (y : Int) (N1 : Nat → Int) (M1 : Mem), j + r = d9 + 1 → y = j → Frm (d + 7) (d + 8) M M1 → Bg N1 M1 d → (∀ j, j < 81 → N1 j = N j) → (∀ i, i < j → N1 (81 + i) = f i * 2 ^ (p9 * (d9 - i))) → X g m_X5_signAt 0 0 lay M1 11 [(6, vI y), (5, vI d9), (0, vR d), (1, vI q), (2, vI x), (3, vI p9), (4, vI y9)] [] K := by
    intro r
    induction r with
    | zero =>
      intro j y N1 M1 hj hy hF hB1 hN hw
      refine x_iload (pc := 11) dX5_signAt_11 rfl ?_
      refine x_iload (pc := 13) dX5_signAt_13 rfl ?_
      refine x_icmp_gt (pc := 15) (t := 74) dX5_signAt_15 (by decide) ⟨by omega, by omega⟩ ⟨by omega, by omega⟩ (fun c15 => ?_) (fun c15 => ?_)
      · refine x_iconst (pc := 74) dX5_signAt_74 ?_
        refine x_istore (pc := 75) dX5_signAt_75 trivial (by decide) (L' := [(6, _), (5, _), (0, _), (1, _), (2, _), (3, _), (4, _)]) rfl ?_
        refine X.loc [0, 1, 2, 3, 4, 5, 6] (L' := [(6, _), (5, _), (0, _), (1, _), (2, _), (3, _), (4, _)]) rfl ?_
        refine outer (d9 + 1) 0 _ (fun i => f i * 2 ^ (p9 * (d9 - i))) B N1 M1 (by omega) rfl hF hB1 hN (fun i hi => hw i (by omega)) hB0 ?_ (fun i hi => scale_b2 hB0 (hf i hi) hp9) (fun _ => rfl) (fun _ => ⟨rfl, rfl⟩)
        have e5 : (5 : Int) ^ (d9 + 1) ≤ 3125 := by
          have : d9 = 0 ∨ d9 = 1 ∨ d9 = 2 ∨ d9 = 3 ∨ d9 = 4 := by omega
          rcases this with z | z | z | z | z <;> rw [z] <;> decide
        have e6 : B * 5 ^ (d9 + 1) * 2048 ^ d9 ≤ B * 3125 * 2048 ^ d9 := Int.mul_le_mul_of_nonneg_right (Int.mul_le_mul_of_nonneg_left e5 hB0) (by have := pw_pos (n := 2048) (by decide) d9; omega)
        omega
      · exfalso; omega
    | succ r ih =>
      intro j y N1 M1 hj hy hF hB1 hN hw
      have e11 : N1 (9 * q + j) = f j := by rw [hN _ (by omega)]; exact hr j (by omega)
      have pows : ∀ (r2 m : Nat) (z : Int) (N2 : Nat → Int) (M2 : Mem), m + r2 = d9 - j → z = m → Frm (d + 7) (d + 8) M M2 → Bg N2 M2 d → (∀ j, j < 81 → N2 j = N j) → (∀ i, i < j → N2 (81 + i) = f i * 2 ^ (p9 * (d9 - i))) → N2 (81 + j) = f j * 2 ^ (p9 * m) → X g m_X5_signAt 0 0 lay M2 36 [(7, vI z), (6, vI y), (5, vI d9), (0, vR d), (1, vI q), (2, vI x), (3, vI p9), (4, vI y9)] [] K := by
        intro r2
        induction r2 with
        | zero =>
          intro m z N2 M2 hm hz hF2 hB2 hN2 hw2 hj2
          rw [show m = d9 - j by omega] at hj2
          refine x_iload (pc := 36) dX5_signAt_36 rfl ?_
          refine x_iload (pc := 38) dX5_signAt_38 rfl ?_
          refine x_iload (pc := 40) dX5_signAt_40 rfl ?_
          refine x_isub (pc := 42) dX5_signAt_42 ?_
          refine x_icmp_ge (pc := 43) (t := 68) dX5_signAt_43 (by decide) ⟨by omega, by omega⟩ ⟨by omega, by omega⟩ (fun c43 => ?_) (fun c43 => ?_)
          · refine x_iinc (pc := 68) dX5_signAt_68 rfl (by decide) (L' := [(6, _), (7, _), (5, _), (0, _), (1, _), (2, _), (3, _), (4, _)]) rfl ?_
            refine x_goto (pc := 71) (t := 11) dX5_signAt_71 (by decide) ?_
            refine X.loc [0, 2, 3, 4, 5, 6, 7] (L' := [(6, _), (5, _), (0, _), (1, _), (2, _), (3, _), (4, _)]) rfl ?_
            refine ih (j + 1) _ N2 M2 (by omega) (by omega) hF2 hB2 hN2 (fun i hi => ?_)
            by_cases e : i = j
            · rw [e, hj2]
            · exact hw2 i (by omega)
          · exfalso; omega
        | succ r2 ihr =>
          intro m z N2 M2 hm hz hF2 hB2 hN2 hw2 hj2
          have s1 := scale_b2 (k := m + 1) hB0 (hf j (by omega)) hp9
          have s2 : B * 2048 ^ (m + 1) ≤ B * 3125 * 2048 ^ d9 := Int.mul_le_mul (by omega) (pw_le (by decide) (by omega)) (by have := pw_pos (n := 2048) (by decide) (m + 1); omega) (by omega)
          have s3 : f j * 2 ^ (p9 * (m + 1)) = f j * 2 ^ (p9 * m) * 2 ^ p9 := by rw [Nat.mul_add, Nat.mul_one, Int.pow_add, Int.mul_assoc]
          rw [s3] at s1
          have s4 : (0 : Int) < 2 ^ p9 := Int.pow_pos (by decide)
          have s5 : (2 : Int) ^ p9 ≤ 64 := by
            have : p9 = 0 ∨ p9 = 1 ∨ p9 = 2 ∨ p9 = 3 ∨ p9 = 4 ∨ p9 = 5 ∨ p9 = 6 := by omega
            rcases this with rfl | rfl | rfl | rfl | rfl | rfl | rfl <;> decide
          refine x_iload (pc := 36) dX5_signAt_36 rfl ?_
          refine x_iload (pc := 38) dX5_signAt_38 rfl ?_
          refine x_iload (pc := 40) dX5_signAt_40 rfl ?_
          refine x_isub (pc := 42) dX5_signAt_42 ?_
          refine x_icmp_ge (pc := 43) (t := 68) dX5_signAt_43 (by decide) ⟨by omega, by omega⟩ ⟨by omega, by omega⟩ (fun c43 => ?_) (fun c43 => ?_)
          · exfalso; omega
          · refine x_iload_n (pc := 46) dX5_signAt_46 rfl rfl ?_
            refine x_if_le (pc := 47) (t := 68) dX5_signAt_47 (by decide) ⟨by omega, by omega⟩ (fun c47 => ?_) (fun c47 => ?_)
            · refine x_iinc (pc := 68) dX5_signAt_68 rfl (by decide) (L' := [(6, _), (7, _), (5, _), (0, _), (1, _), (2, _), (3, _), (4, _)]) rfl ?_
              refine x_goto (pc := 71) (t := 11) dX5_signAt_71 (by decide) ?_
              refine X.loc [0, 2, 3, 4, 5, 6, 7] (L' := [(6, _), (5, _), (0, _), (1, _), (2, _), (3, _), (4, _)]) rfl ?_
              have hp0 : p9 = 0 := by omega
              refine ih (j + 1) _ N2 M2 (by omega) (by omega) hF2 hB2 hN2 (fun i hi => ?_)
              by_cases e : i = j
              · rw [e, hj2, hp0, Nat.zero_mul, Nat.zero_mul]
              · exact hw2 i (by omega)
            · refine x_aload_n (pc := 50) dX5_signAt_50 rfl rfl ?_
              refine x_bipush (pc := 51) dX5_signAt_51 (by decide) ?_
              refine x_iload (pc := 53) dX5_signAt_53 rfl ?_
              refine x_iadd (pc := 55) dX5_signAt_55 ?_
              refine x_iconst (pc := 56) dX5_signAt_56 ?_
              refine x_iload_n (pc := 57) dX5_signAt_57 rfl rfl ?_
              refine x_ishl (pc := 58) p9 (by omega) rfl dX5_signAt_58 ?_
              rw [show (1 : Int) * 2 ^ p9 = 2 ^ p9 by omega, show 81 + y = ((81 + j : Nat) : Int) by omega]
              refine x_callV (pc := 59) [_, _] rfl kX5_90 dX5_signAt_59 hd.1 rfl rfl (by decide) (Nat.le_of_ble_eq_true rfl) (Nat.le_of_ble_eq_true rfl) (by decide) ?_
              refine sp_X5_multipliesBy hd hb0 hB2 (by omega) (by omega) (by rw [hj2]; exact mul_sc (by omega) s1 (by omega) (by omega)) (fun M3 hF3 hB3 => ?_)
              rw [hj2] at hB3
              refine ⟨_, rfl, ?_⟩
              refine x_iinc (pc := 62) dX5_signAt_62 rfl (by decide) (L' := [(7, _), (6, _), (5, _), (0, _), (1, _), (2, _), (3, _), (4, _)]) rfl ?_
              refine x_goto (pc := 65) (t := 36) dX5_signAt_65 (by decide) ?_
              refine X.loc [0, 1, 2, 3, 4, 5, 6, 7] (L' := [(7, _), (6, _), (5, _), (0, _), (1, _), (2, _), (3, _), (4, _)]) rfl ?_
              refine ihr (m + 1) _ _ M3 (by omega) (by omega) (hF2.trans hF3.frm) hB3 (fun i hi => by rw [fup_ne (by omega)]; exact hN2 i hi) (fun i hi => by rw [fup_ne (by omega)]; exact hw2 i hi) ?_
              rw [fup_at, s3]
      refine x_iload (pc := 11) dX5_signAt_11 rfl ?_
      refine x_iload (pc := 13) dX5_signAt_13 rfl ?_
      refine x_icmp_gt (pc := 15) (t := 74) dX5_signAt_15 (by decide) ⟨by omega, by omega⟩ ⟨by omega, by omega⟩ (fun c15 => ?_) (fun c15 => ?_)
      · exfalso; omega
      · refine x_aload_n (pc := 18) dX5_signAt_18 rfl rfl ?_
        refine x_iload_n (pc := 19) dX5_signAt_19 rfl rfl ?_
        refine x_iload (pc := 20) dX5_signAt_20 rfl ?_
        refine x_callS (pc := 22) [_, _] rfl kX5_87 dX5_signAt_22 rfl (by decide) (Nat.le_of_ble_eq_true rfl) (Nat.le_of_ble_eq_true rfl) (by decide) ?_
        refine sp_X5_at ?_
        refine ⟨_, rfl, ?_⟩
        refine x_bipush (pc := 25) dX5_signAt_25 (by decide) ?_
        refine x_iload (pc := 27) dX5_signAt_27 rfl ?_
        refine x_iadd (pc := 29) dX5_signAt_29 ?_
        rw [show 9 * (q : Int) + y = ((9 * q + j : Nat) : Int) by omega, show 81 + y = ((81 + j : Nat) : Int) by omega]
        refine x_callV (pc := 30) [_, _] rfl kX5_76 dX5_signAt_30 hd.1 rfl rfl (by decide) (Nat.le_of_ble_eq_true rfl) (Nat.le_of_ble_eq_true rfl) (by decide) ?_
        refine sp_X5_copiesLong hd hb0 hB1 (by omega) (by omega) (fun M2 hF2 hB2 => ?_)
        rw [e11] at hB2
        refine ⟨_, rfl, ?_⟩
        refine x_iconst (pc := 33) dX5_signAt_33 ?_
        refine x_istore (pc := 34) dX5_signAt_34 trivial (by decide) (L' := [(7, _), (6, _), (5, _), (0, _), (1, _), (2, _), (3, _), (4, _)]) rfl ?_
        refine X.loc [0, 1, 2, 3, 4, 5, 6, 7] (L' := [(7, _), (6, _), (5, _), (0, _), (1, _), (2, _), (3, _), (4, _)]) rfl ?_
        refine pows (d9 - j) 0 _ _ M2 (by omega) rfl (hF.trans hF2.frm) hB2 (fun i hi => by rw [fup_ne (by omega)]; exact hN i hi) (fun i hi => by rw [fup_ne (by omega)]; exact hw i hi) ?_
        rw [fup_at, Nat.mul_zero, Int.pow_zero, Int.mul_one]
  refine x_aload_n (pc := 0) dX5_signAt_0 rfl rfl ?_
  refine x_getr (pc := 1) (b := d + 8) fX5_32 dX5_signAt_1 hd.1 rfl rfl ?_
  refine x_iload_n (pc := 4) dX5_signAt_4 rfl rfl ?_
  refine x_iald (pc := 5) dX5_signAt_5 hd.2.2.2.2.2.2.2.2.1 (by omega) (by omega) (fun r5a r5b => ?_)
  rw [Int.toNat_natCast, hd0]
  refine x_istore (pc := 6) dX5_signAt_6 trivial (by decide) (L' := [(5, _), (0, _), (1, _), (2, _), (3, _), (4, _)]) rfl ?_
  refine x_iconst (pc := 8) dX5_signAt_8 ?_
  refine x_istore (pc := 9) dX5_signAt_9 trivial (by decide) (L' := [(6, _), (5, _), (0, _), (1, _), (2, _), (3, _), (4, _)]) rfl ?_
  refine X.loc [0, 1, 2, 3, 4, 5, 6] (L' := [(6, _), (5, _), (0, _), (1, _), (2, _), (3, _), (4, _)]) rfl ?_
  exact scale (d9 + 1) 0 _ N M (by omega) rfl Frm.rf hB (fun i hi => rfl) (fun i hi => by omega)
