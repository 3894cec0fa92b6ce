/-! The reference's reader: whole numbers with a sign, words. -/
theorem min_rel {tx v : Nat → Int} {n : Nat} : (v 6 = 3 → minF tx n v = tokF tx n v) ∧ (v 6 ≠ 3 → minF tx n v = v) := by
  unfold minF
  exact ⟨fun h => if_pos h, fun h => if_neg h⟩
theorem wd_next : ∀ w, w < 11 → offW w + stN (wM w) + 1 = offW (w + 1) := by decide
theorem wd_61 : ∀ w, w < 12 → offW w ≤ 63 ∧ stN (wM w) ≤ 7 ∧ 3 ≤ stN (wM w) ∧ offW w + stN (wM w) < 69 := by decide
/-- the first of the words that stands here -/
def wfn (tx v : Nat → Int) : Nat → Nat → Int
  | 0, _ => -1
  | c + 1, w => if isWordP tx v (wM w) then w else wfn tx v c (w + 1)
def wordF (tx v : Nat → Int) : Int := wfn tx v 12 0
theorem wfn_rng (tx v : Nat → Int) : ∀ c w, -1 ≤ wfn tx v c w ∧ wfn tx v c w < w + c
  | 0, w => by simp only [wfn]; omega
  | c + 1, w => by
    have := wfn_rng tx v c (w + 1)
    simp only [wfn]
    split <;> omega
theorem wordF_rng (tx v : Nat → Int) : -1 ≤ wordF tx v ∧ wordF tx v < 12 := wfn_rng tx v 12 0

set_option maxRecDepth 100000 in
theorem sp_X5_readInt {g : GG} {lay : Lay} {M : Mem} {K : KK} {d : Nat} {tx v : Nat → Int} {n : Nat} {R : PR} {lo hi z : Int} (hd : MoL lay d) (hb0 : g.2.1 ≤ d) (hV : RelT tx n v M d) (hlo : -100 ≤ lo ∧ lo ≤ 100) (hhi : -100 ≤ hi ∧ hi ≤ 100) (hz : z = 0 ∨ z = 1) (hR1 : (minF tx n v) 6 ≠ 2 → R = failF (minF tx n v) 1) (hR2 : (minF tx n v) 6 = 2 → ¬ (lo ≤ toldF v (minF tx n v) ∧ toldF v (minF tx n v) ≤ hi) ∨ (z = 0 ∧ toldF v (minF tx n v) = 0) → R = failF (minF tx n v) 2) (hR3 : (minF tx n v) 6 = 2 → (lo ≤ toldF v (minF tx n v) ∧ toldF v (minF tx n v) ≤ hi) → (z = 1 ∨ toldF v (minF tx n v) ≠ 0) → R = (1, tokF tx n (fup (minF tx n v) 10 (toldF v (minF tx n v))))) (k : ∀ M2 x, FrP d M M2 → PRel tx n R M2 d → (R.1 = 1 → x = R.2 10) → -200000 ≤ x ∧ x ≤ 200000 → K (.inl (some (vI x))) lay M2) : X g m_X5_readInt 0 0 lay M 0 [(0, vR d), (1, vI lo), (2, vI hi), (3, vI z)] [] K := by
  obtain ⟨⟨hT, hR, hK⟩, ⟨h17, h18, v3, v4⟩, h13, h14, h15, h16⟩ := id hV
  obtain ⟨⟨k61, k62⟩, ⟨k71, k72⟩, ⟨k81, k82⟩, k91, k92⟩ := id hK
  have hnr := h16.rng
  have hmk := @mk_iff (v 6)
  have h600 := hT.1.1
  obtain ⟨mr1, mr2⟩ := @min_rel tx v n
  obtain ⟨w, hw⟩ : ∃ w, w = minF tx n v := ⟨_, rfl⟩
  rw [← hw] at hR1 hR2 hR3 mr1 mr2
  obtain ⟨q, hq⟩ : ∃ q, q = toldF v w := ⟨_, rfl⟩
  rw [← hq] at hR2 hR3
  have hqv : q = if v 6 = 3 then - w 9 else w 9 := hq
  have ne1 : ¬ (0 : Int) = 1 := by decide
  -- behind the test of the range, with no error
  have stP : ∀ (M1 : Mem) (x : Int), FrP d M M1 → RelT tx n w M1 d → w 6 = 2 → (lo ≤ q ∧ q ≤ hi) → (z = 1 ∨ q ≠ 0) → x = q → X g m_X5_readInt 0 0 lay M1 84 [(5, vI x), (4, vI (if v 6 = 3 then 1 else 0)), (0, vR d), (1, vI lo), (2, vI hi), (3, vI z)] [] K := by
    intro M1 x hF1 hV1 h2 hin hz9 hx
    have hV2 : RelT tx n (fup w 10 q) M1 d := hV1
    refine x_aload_n (pc := 84) dX5_readInt_84 rfl rfl ?_
    refine x_iload (pc := 85) dX5_readInt_85 rfl ?_
    refine x_callV (pc := 87) [_] rfl kX5_308 dX5_readInt_87 hd.1 rfl rfl (by decide) (Nat.le_of_ble_eq_true rfl) (Nat.le_of_ble_eq_true rfl) (by decide) ?_
    refine sp_X5_passesOn hd hb0 hV2 (fun M3 hF3 hV3 => ?_)
    refine ⟨_, rfl, ?_⟩
    refine x_iret (pc := 90) dX5_readInt_90 rfl (by decide) (by decide) ?_
    have e9 := hR3 h2 hin hz9
    refine k M3 x (hF1.tr hF3) (Or.inl ?_) (fun _ => ?_) ?_
    · rw [e9]; exact ⟨rfl, hV3⟩
    · rw [e9, hx]
      show q = tokF tx n (fup w 10 q) 10
      rw [tok_ne (by omega)]
      exact fup_at.symm
    · omega
  have stB : ∀ (M1 : Mem) (x : Int) (c : Int), FrP d M M1 → R = failF w c → BadT tx n (failF w c).2 M1 d → -200000 ≤ x ∧ x ≤ 200000 → X g m_X5_readInt 0 0 lay M1 84 [(5, vI x), (4, vI (if v 6 = 3 then 1 else 0)), (0, vR d), (1, vI lo), (2, vI hi), (3, vI z)] [] K := by
    intro M1 x c hF1 hRe hB1 hx
    refine x_aload_n (pc := 84) dX5_readInt_84 rfl rfl ?_
    refine x_iload (pc := 85) dX5_readInt_85 rfl ?_
    refine x_callV (pc := 87) [_] rfl kX5_308 dX5_readInt_87 hd.1 rfl rfl (by decide) (Nat.le_of_ble_eq_true rfl) (Nat.le_of_ble_eq_true rfl) (by decide) ?_
    refine sp_X5_passesOnB hd hb0 hB1 ?_
    refine ⟨_, rfl, ?_⟩
    refine x_iret (pc := 90) dX5_readInt_90 rfl (by decide) (by decide) ?_
    refine k M1 x hF1 (Or.inr ?_) (fun h1 => ?_) hx
    · rw [hRe]; exact ⟨ne1, hB1⟩
    · rw [hRe] at h1; exact absurd h1 ne1
  have main : ∀ (M1 : Mem), FrP d M M1 → RelT tx n w M1 d → X g m_X5_readInt 0 0 lay M1 31 [(4, vI (if v 6 = 3 then 1 else 0)), (0, vR d), (1, vI lo), (2, vI hi), (3, vI z)] [] K := by
    intro M1 hF1 hV1
    obtain ⟨⟨hT1, -, hK1⟩, ⟨g17, g18, w3, w4⟩, g13, g14, g15, g16⟩ := id hV1
    have hnr1 := g16.rng
    have fin : ∀ x, x = (if v 6 = 3 then - M1 d 16 else M1 d 16) → X g m_X5_readInt 0 0 lay M1 48 [(4, vI (if v 6 = 3 then 1 else 0)), (0, vR d), (1, vI lo), (2, vI hi), (3, vI z)] [vI x] K := by
      intro x hx
      have hxr : -200000 ≤ x ∧ x ≤ 200000 := by rw [hx]; split <;> omega
      have hiff : (lo ≤ x ∧ x ≤ hi) ↔ (lo ≤ q ∧ q ≤ hi) := by
        rw [hx, hqv]
        unfold NumR at g16
        split <;> omega
      have hxe : (lo ≤ x ∧ x ≤ hi) → x = q := by
        intro hin
        rw [hqv]
        rw [hx] at hin ⊢
        unfold NumR at g16
        split at hin <;> split <;> omega
      refine x_istore (pc := 48) dX5_readInt_48 trivial (by decide) (L' := [(5, _), (4, _), (0, _), (1, _), (2, _), (3, _)]) rfl ?_
      refine x_aload_n (pc := 50) dX5_readInt_50 rfl rfl ?_
      refine x_iload (pc := 51) dX5_readInt_51 rfl ?_
      refine x_iload_n (pc := 53) dX5_readInt_53 rfl rfl ?_
      refine x_iload_n (pc := 54) dX5_readInt_54 rfl rfl ?_
      refine x_callV (pc := 55) [_, _, _] rfl kX5_305 dX5_readInt_55 hd.1 rfl rfl (by decide) (Nat.le_of_ble_eq_true rfl) (Nat.le_of_ble_eq_true rfl) (by decide) ?_
      refine sp_X5_looks hd hb0 hV1 ⟨by omega, by omega⟩ ⟨by omega, by omega⟩ ⟨by omega, by omega⟩ (fun M2 hF2 hL => ?_)
      refine ⟨_, rfl, ?_⟩
      rcases hL with ⟨⟨l1, l2⟩, rfl⟩ | ⟨l1, hB2⟩ | ⟨⟨l1, l2⟩, hB2⟩
      · have l3 := hiff.mp l2
        have l4 := hxe l2
        by_cases hz1 : z = 1 ∨ q ≠ 0
        · refine x_aload_n (pc := 58) dX5_readInt_58 rfl rfl ?_
          refine x_aload_n (pc := 59) dX5_readInt_59 rfl rfl ?_
          refine x_geti (pc := 60) fX5_296 dX5_readInt_60 hd.1 rfl (fun r60a r60b => ?_)
          rw [g17] at r60a r60b ⊢
          refine x_if_gt (pc := 63) (t := 75) dX5_readInt_63 (by decide) ⟨by omega, by omega⟩ (fun c63 => ?_) (fun c63 => ?_)
          · exfalso; omega
          · refine x_iload (pc := 66) dX5_readInt_66 rfl ?_
            refine x_if_ne (pc := 68) (t := 75) dX5_readInt_68 (by decide) ⟨by omega, by omega⟩ (fun c68 => ?_) (fun c68 => ?_)
            · refine x_iconst (pc := 75) dX5_readInt_75 ?_
              refine x_goto (pc := 76) (t := 80) dX5_readInt_76 (by decide) ?_
              refine x_iconst (pc := 80) dX5_readInt_80 ?_
              refine x_callV (pc := 81) [_, _] rfl kX5_311 dX5_readInt_81 hd.1 rfl rfl (by decide) (Nat.le_of_ble_eq_true rfl) (Nat.le_of_ble_eq_true rfl) (by decide) ?_
              first
              | (refine sp_X5_must1 hd hb0 ?_)
              | (exfalso; omega)
              refine ⟨_, rfl, ?_⟩
              refine X.loc [0, 1, 2, 3, 4, 5] (L' := [(5, _), (4, _), (0, _), (1, _), (2, _), (3, _)]) rfl ?_
              exact stP M2 x hF1 hV1 l1 l3 hz1 l4
            · refine x_iload_n (pc := 71) dX5_readInt_71 rfl rfl ?_
              refine x_if_eq (pc := 72) (t := 79) dX5_readInt_72 (by decide) ⟨by omega, by omega⟩ (fun c72 => ?_) (fun c72 => ?_)
              · exfalso; omega
              · refine x_iconst (pc := 75) dX5_readInt_75 ?_
                refine x_goto (pc := 76) (t := 80) dX5_readInt_76 (by decide) ?_
                refine x_iconst (pc := 80) dX5_readInt_80 ?_
                refine x_callV (pc := 81) [_, _] rfl kX5_311 dX5_readInt_81 hd.1 rfl rfl (by decide) (Nat.le_of_ble_eq_true rfl) (Nat.le_of_ble_eq_true rfl) (by decide) ?_
                first
                | (refine sp_X5_must1 hd hb0 ?_)
                | (exfalso; omega)
                refine ⟨_, rfl, ?_⟩
                refine X.loc [0, 1, 2, 3, 4, 5] (L' := [(5, _), (4, _), (0, _), (1, _), (2, _), (3, _)]) rfl ?_
                exact stP M2 x hF1 hV1 l1 l3 hz1 l4
        · refine x_aload_n (pc := 58) dX5_readInt_58 rfl rfl ?_
          refine x_aload_n (pc := 59) dX5_readInt_59 rfl rfl ?_
          refine x_geti (pc := 60) fX5_296 dX5_readInt_60 hd.1 rfl (fun r60a r60b => ?_)
          rw [g17] at r60a r60b ⊢
          refine x_if_gt (pc := 63) (t := 75) dX5_readInt_63 (by decide) ⟨by omega, by omega⟩ (fun c63 => ?_) (fun c63 => ?_)
          · exfalso; omega
          · refine x_iload (pc := 66) dX5_readInt_66 rfl ?_
            refine x_if_ne (pc := 68) (t := 75) dX5_readInt_68 (by decide) ⟨by omega, by omega⟩ (fun c68 => ?_) (fun c68 => ?_)
            · exfalso; omega
            · refine x_iload_n (pc := 71) dX5_readInt_71 rfl rfl ?_
              refine x_if_eq (pc := 72) (t := 79) dX5_readInt_72 (by decide) ⟨by omega, by omega⟩ (fun c72 => ?_) (fun c72 => ?_)
              · refine x_iconst (pc := 79) dX5_readInt_79 ?_
                refine x_iconst (pc := 80) dX5_readInt_80 ?_
                refine x_callV (pc := 81) [_, _] rfl kX5_311 dX5_readInt_81 hd.1 rfl rfl (by decide) (Nat.le_of_ble_eq_true rfl) (Nat.le_of_ble_eq_true rfl) (by decide) ?_
                refine sp_X5_must0 hd hb0 hV1 (by omega) (fun M3 hF3 hB3 => ?_)
                refine ⟨_, rfl, ?_⟩
                refine X.loc [0, 1, 2, 3, 4, 5] (L' := [(5, _), (4, _), (0, _), (1, _), (2, _), (3, _)]) rfl ?_
                exact stB M3 x 2 (hF1.tr hF3) (hR2 l1 (Or.inr (by omega))) hB3 hxr
              · exfalso; omega
      · have hB3 := hB2.2.1.2.2.1
        refine x_aload_n (pc := 58) dX5_readInt_58 rfl rfl ?_
        refine x_aload_n (pc := 59) dX5_readInt_59 rfl rfl ?_
        refine x_geti (pc := 60) fX5_296 dX5_readInt_60 hd.1 rfl (fun r60a r60b => ?_)
        rw [hB2.2.1.1] at r60a r60b ⊢
        refine x_if_gt (pc := 63) (t := 75) dX5_readInt_63 (by decide) ⟨by omega, by omega⟩ (fun c63 => ?_) (fun c63 => ?_)
        · refine x_iconst (pc := 75) dX5_readInt_75 ?_
          refine x_goto (pc := 76) (t := 80) dX5_readInt_76 (by decide) ?_
          refine x_iconst (pc := 80) dX5_readInt_80 ?_
          refine x_callV (pc := 81) [_, _] rfl kX5_311 dX5_readInt_81 hd.1 rfl rfl (by decide) (Nat.le_of_ble_eq_true rfl) (Nat.le_of_ble_eq_true rfl) (by decide) ?_
          refine sp_X5_must1 hd hb0 ?_
          refine ⟨_, rfl, ?_⟩
          refine X.loc [0, 1, 2, 3, 4, 5] (L' := [(5, _), (4, _), (0, _), (1, _), (2, _), (3, _)]) rfl ?_
          exact stB M2 x 1 (hF1.tr hF2) (hR1 l1) hB2 hxr
        · exfalso; omega
      · have hB3 := hB2.2.1.2.2.1
        have l5 : R = failF w 2 := hR2 l1 (Or.inl (fun z => l2 (hiff.mpr z)))
        refine x_aload_n (pc := 58) dX5_readInt_58 rfl rfl ?_
        refine x_aload_n (pc := 59) dX5_readInt_59 rfl rfl ?_
        refine x_geti (pc := 60) fX5_296 dX5_readInt_60 hd.1 rfl (fun r60a r60b => ?_)
        rw [hB2.2.1.1] at r60a r60b ⊢
        refine x_if_gt (pc := 63) (t := 75) dX5_readInt_63 (by decide) ⟨by omega, by omega⟩ (fun c63 => ?_) (fun c63 => ?_)
        · refine x_iconst (pc := 75) dX5_readInt_75 ?_
          refine x_goto (pc := 76) (t := 80) dX5_readInt_76 (by decide) ?_
          refine x_iconst (pc := 80) dX5_readInt_80 ?_
          refine x_callV (pc := 81) [_, _] rfl kX5_311 dX5_readInt_81 hd.1 rfl rfl (by decide) (Nat.le_of_ble_eq_true rfl) (Nat.le_of_ble_eq_true rfl) (by decide) ?_
          refine sp_X5_must1 hd hb0 ?_
          refine ⟨_, rfl, ?_⟩
          refine X.loc [0, 1, 2, 3, 4, 5] (L' := [(5, _), (4, _), (0, _), (1, _), (2, _), (3, _)]) rfl ?_
          exact stB M2 x 2 (hF1.tr hF2) l5 hB2 hxr
        · exfalso; omega
    refine x_iload (pc := 31) dX5_readInt_31 rfl ?_
    refine x_if_eq (pc := 33) (t := 44) dX5_readInt_33 (by decide) ⟨by omega, by omega⟩ (fun c33 => ?_) (fun c33 => ?_)
    · refine x_aload_n (pc := 44) dX5_readInt_44 rfl rfl ?_
      refine x_geti (pc := 45) fX5_293 dX5_readInt_45 hd.1 rfl (fun r45a r45b => ?_)
      refine X.loc [0, 1, 2, 3, 4] (L' := [(4, _), (0, _), (1, _), (2, _), (3, _)]) rfl ?_
      refine fin _ ?_
      first
      | (have h : v 6 = 3 := Decidable.byContradiction fun h => by (rw [if_neg h] at c33; omega)
         rw [if_pos h])
      | (have h : ¬ v 6 = 3 := fun h => by (rw [if_pos h] at c33; omega)
         rw [if_neg h])
    · refine x_aload_n (pc := 36) dX5_readInt_36 rfl rfl ?_
      refine x_geti (pc := 37) fX5_293 dX5_readInt_37 hd.1 rfl (fun r37a r37b => ?_)
      refine x_ineg (pc := 40) dX5_readInt_40 ?_
      refine x_goto (pc := 41) (t := 48) dX5_readInt_41 (by decide) ?_
      refine X.loc [0, 1, 2, 3, 4] (L' := [(4, _), (0, _), (1, _), (2, _), (3, _)]) rfl ?_
      refine fin _ ?_
      first
      | (have h : v 6 = 3 := Decidable.byContradiction fun h => by (rw [if_neg h] at c33; omega)
         rw [if_pos h])
      | (have h : ¬ v 6 = 3 := fun h => by (rw [if_pos h] at c33; omega)
         rw [if_neg h])
  have hz8 : (if v 6 = 3 then (1 : Int) else 0) = 0 ∨ (if v 6 = 3 then (1 : Int) else 0) = 1 := by split <;> omega
  refine x_aload_n (pc := 0) dX5_readInt_0 rfl rfl ?_
  refine x_geti (pc := 1) fX5_296 dX5_readInt_1 hd.1 rfl (fun r1a r1b => ?_)
  rw [h17] at r1a r1b ⊢
  refine x_if_ne (pc := 4) (t := 19) dX5_readInt_4 (by decide) ⟨by omega, by omega⟩ (fun c4 => ?_) (fun c4 => ?_)
  · exfalso; omega
  · refine x_aload_n (pc := 7) dX5_readInt_7 rfl rfl ?_
    refine x_geti (pc := 8) fX5_290 dX5_readInt_8 hd.1 rfl (fun r8a r8b => ?_)
    refine x_iconst (pc := 11) dX5_readInt_11 ?_
    rw [h15] at r8a r8b ⊢
    refine x_icmp_ne (pc := 12) (t := 19) dX5_readInt_12 (by decide) ⟨by omega, by omega⟩ ⟨by omega, by omega⟩ (fun c12 => ?_) (fun c12 => ?_)
    · refine x_iconst (pc := 19) dX5_readInt_19 ?_
      refine x_istore (pc := 20) dX5_readInt_20 trivial (by decide) (L' := [(4, _), (0, _), (1, _), (2, _), (3, _)]) rfl ?_
      refine X.loc [0, 1, 2, 3, 4] (L' := [(4, _), (0, _), (1, _), (2, _), (3, _)]) rfl ?_
      first
      | (have e3 : v 6 = 3 := by omega
         have hmain := main
         rw [if_pos e3] at hmain
         refine x_iload (pc := 22) dX5_readInt_22 rfl ?_
         refine x_if_eq (pc := 24) (t := 31) dX5_readInt_24 (by decide) ⟨by omega, by omega⟩ (fun c24 => ?_) (fun c24 => ?_)
         · exfalso; omega
         · refine x_aload_n (pc := 27) dX5_readInt_27 rfl rfl ?_
           refine x_callV (pc := 28) [] rfl kX5_302 dX5_readInt_28 hd.1 rfl rfl (by decide) (Nat.le_of_ble_eq_true rfl) (Nat.le_of_ble_eq_true rfl) (by decide) ?_
           refine sp_X5_next hd hb0 hV (fun M2 hF2 hV2 => ?_)
           refine ⟨_, rfl, ?_⟩
           refine X.loc [0, 1, 2, 3, 4] (L' := [(4, _), (0, _), (1, _), (2, _), (3, _)]) rfl ?_
           exact hmain M2 hF2 (by rw [mr1 e3]; exact hV2))
      | (have e3 : ¬ v 6 = 3 := by omega
         have hmain := main M FrP.rf (by rw [mr2 e3]; exact hV)
         rw [if_neg e3] at hmain
         refine x_iload (pc := 22) dX5_readInt_22 rfl ?_
         refine x_if_eq (pc := 24) (t := 31) dX5_readInt_24 (by decide) ⟨by omega, by omega⟩ (fun c24 => ?_) (fun c24 => ?_)
         · refine X.loc [0, 1, 2, 3, 4] (L' := [(4, _), (0, _), (1, _), (2, _), (3, _)]) rfl ?_
           exact hmain
         · exfalso; omega)
    · refine x_iconst (pc := 15) dX5_readInt_15 ?_
      refine x_goto (pc := 16) (t := 20) dX5_readInt_16 (by decide) ?_
      refine x_istore (pc := 20) dX5_readInt_20 trivial (by decide) (L' := [(4, _), (0, _), (1, _), (2, _), (3, _)]) rfl ?_
      refine X.loc [0, 1, 2, 3, 4] (L' := [(4, _), (0, _), (1, _), (2, _), (3, _)]) rfl ?_
      first
      | (have e3 : v 6 = 3 := by omega
         have hmain := main
         rw [if_pos e3] at hmain
         refine x_iload (pc := 22) dX5_readInt_22 rfl ?_
         refine x_if_eq (pc := 24) (t := 31) dX5_readInt_24 (by decide) ⟨by omega, by omega⟩ (fun c24 => ?_) (fun c24 => ?_)
         · exfalso; omega
         · refine x_aload_n (pc := 27) dX5_readInt_27 rfl rfl ?_
           refine x_callV (pc := 28) [] rfl kX5_302 dX5_readInt_28 hd.1 rfl rfl (by decide) (Nat.le_of_ble_eq_true rfl) (Nat.le_of_ble_eq_true rfl) (by decide) ?_
           refine sp_X5_next hd hb0 hV (fun M2 hF2 hV2 => ?_)
           refine ⟨_, rfl, ?_⟩
           refine X.loc [0, 1, 2, 3, 4] (L' := [(4, _), (0, _), (1, _), (2, _), (3, _)]) rfl ?_
           exact hmain M2 hF2 (by rw [mr1 e3]; exact hV2))
      | (have e3 : ¬ v 6 = 3 := by omega
         have hmain := main M FrP.rf (by rw [mr2 e3]; exact hV)
         rw [if_neg e3] at hmain
         refine x_iload (pc := 22) dX5_readInt_22 rfl ?_
         refine x_if_eq (pc := 24) (t := 31) dX5_readInt_24 (by decide) ⟨by omega, by omega⟩ (fun c24 => ?_) (fun c24 => ?_)
         · refine X.loc [0, 1, 2, 3, 4] (L' := [(4, _), (0, _), (1, _), (2, _), (3, _)]) rfl ?_
           exact hmain
         · exfalso; omega)
set_option maxRecDepth 100000 in
theorem sp_X5_readIntB {g : GG} {lay : Lay} {M : Mem} {K : KK} {d : Nat} {tx v : Nat → Int} {n : Nat} {lo hi z : Int} (hd : MoL lay d) (hb0 : g.2.1 ≤ d) (hV : BadT tx n v M d) (hlo : i32 lo) (hhi : i32 hi) (hz : z = 0 ∨ z = 1) (k : ∀ x, -200000 ≤ x ∧ x ≤ 200000 → K (.inl (some (vI x))) lay M) : X g m_X5_readInt 0 0 lay M 0 [(0, vR d), (1, vI lo), (2, vI hi), (3, vI z)] [] K := by
  obtain ⟨⟨hT, hR⟩, ⟨h17, h18, v31, v32⟩, h161, h162⟩ := id hV
  obtain ⟨hlo1, hlo2⟩ := hlo
  obtain ⟨hhi1, hhi2⟩ := hhi
  refine x_aload_n (pc := 0) dX5_readInt_0 rfl rfl ?_
  refine x_geti (pc := 1) fX5_296 dX5_readInt_1 hd.1 rfl (fun r1a r1b => ?_)
  rw [h17] at r1a r1b ⊢
  refine x_if_ne (pc := 4) (t := 19) dX5_readInt_4 (by decide) ⟨by omega, by omega⟩ (fun c4 => ?_) (fun c4 => ?_)
  · refine x_iconst (pc := 19) dX5_readInt_19 ?_
    refine x_istore (pc := 20) dX5_readInt_20 trivial (by decide) (L' := [(4, _), (0, _), (1, _), (2, _), (3, _)]) rfl ?_
    refine x_iload (pc := 22) dX5_readInt_22 rfl ?_
    refine x_if_eq (pc := 24) (t := 31) dX5_readInt_24 (by decide) ⟨by omega, by omega⟩ (fun c24 => ?_) (fun c24 => ?_)
    · refine x_iload (pc := 31) dX5_readInt_31 rfl ?_
      refine x_if_eq (pc := 33) (t := 44) dX5_readInt_33 (by decide) ⟨by omega, by omega⟩ (fun c33 => ?_) (fun c33 => ?_)
      · refine x_aload_n (pc := 44) dX5_readInt_44 rfl rfl ?_
        refine x_geti (pc := 45) fX5_293 dX5_readInt_45 hd.1 rfl (fun r45a r45b => ?_)
        refine x_istore (pc := 48) dX5_readInt_48 trivial (by decide) (L' := [(5, _), (4, _), (0, _), (1, _), (2, _), (3, _)]) rfl ?_
        refine x_aload_n (pc := 50) dX5_readInt_50 rfl rfl ?_
        refine x_iload (pc := 51) dX5_readInt_51 rfl ?_
        refine x_iload_n (pc := 53) dX5_readInt_53 rfl rfl ?_
        refine x_iload_n (pc := 54) dX5_readInt_54 rfl rfl ?_
        refine x_callV (pc := 55) [_, _, _] rfl kX5_305 dX5_readInt_55 hd.1 rfl rfl (by decide) (Nat.le_of_ble_eq_true rfl) (Nat.le_of_ble_eq_true rfl) (by decide) ?_
        refine sp_X5_looksB hd hb0 hV ⟨by omega, by omega⟩ ⟨by omega, by omega⟩ ⟨by omega, by omega⟩ ?_
        refine ⟨_, rfl, ?_⟩
        refine x_aload_n (pc := 58) dX5_readInt_58 rfl rfl ?_
        refine x_aload_n (pc := 59) dX5_readInt_59 rfl rfl ?_
        refine x_geti (pc := 60) fX5_296 dX5_readInt_60 hd.1 rfl (fun r60a r60b => ?_)
        rw [h17] at r60a r60b ⊢
        refine x_if_gt (pc := 63) (t := 75) dX5_readInt_63 (by decide) ⟨by omega, by omega⟩ (fun c63 => ?_) (fun c63 => ?_)
        · refine x_iconst (pc := 75) dX5_readInt_75 ?_
          refine x_goto (pc := 76) (t := 80) dX5_readInt_76 (by decide) ?_
          refine x_iconst (pc := 80) dX5_readInt_80 ?_
          refine x_callV (pc := 81) [_, _] rfl kX5_311 dX5_readInt_81 hd.1 rfl rfl (by decide) (Nat.le_of_ble_eq_true rfl) (Nat.le_of_ble_eq_true rfl) (by decide) ?_
          refine sp_X5_must1 hd hb0 ?_
          refine ⟨_, rfl, ?_⟩
          refine x_aload_n (pc := 84) dX5_readInt_84 rfl rfl ?_
          refine x_iload (pc := 85) dX5_readInt_85 rfl ?_
          refine x_callV (pc := 87) [_] rfl kX5_308 dX5_readInt_87 hd.1 rfl rfl (by decide) (Nat.le_of_ble_eq_true rfl) (Nat.le_of_ble_eq_true rfl) (by decide) ?_
          refine sp_X5_passesOnB hd hb0 hV ?_
          refine ⟨_, rfl, ?_⟩
          refine x_iret (pc := 90) dX5_readInt_90 rfl (by decide) (by decide) ?_
          exact k _ ⟨by omega, by omega⟩
        · exfalso; omega
      · exfalso; omega
    · exfalso; omega
  · exfalso; omega
set_option maxRecDepth 100000 in
theorem sp_X5_wordHere {g : GG} {lay : Lay} {M : Mem} {K : KK} {d : Nat} {tx v : Nat → Int} {n : Nat} (hd : MoL lay d) (hb0 : g.2.1 ≤ d) (hV : RelT tx n v M d) (hD : Wd M d) (k : K (.inl (some (vI (wordF tx v)))) lay M) : X g m_X5_wordHere 0 0 lay M 0 [(0, vR d)] [] K := by
  obtain ⟨⟨hT, hR, hK⟩, ⟨h17, h18, v3, v4⟩, h13, h14, h15, h16⟩ := id hV
  obtain ⟨⟨k61, k62⟩, ⟨k71, k72⟩, ⟨k81, k82⟩, k91, k92⟩ := id hK
  have hnr := h16.rng
  have hmk := @mk_iff (v 6)
  have h600 := hT.1.1
  obtain ⟨U, hU⟩ : ∃ U, U = wordF tx v := ⟨_, rfl⟩
  rw [← hU] at k
  by_cases h61 : v 6 = 1
  · have outer : ∀ (c w : Nat) (x s : Int), w + c = 12 → x = w → (w < 12 → s = (offW w : Nat)) → wfn tx v c w = U → X g m_X5_wordHere 0 0 lay M 4 [(2, vI x), (1, vI s), (0, vR d)] [] K := by
      intro c
      induction c with
      | zero =>
        intro w x s hw hx hs hu
        simp only [wfn] at hu
        refine x_aload_n (pc := 4) dX5_wordHere_4 rfl rfl ?_
        refine x_geti (pc := 5) fX5_290 dX5_wordHere_5 hd.1 rfl (fun r5a r5b => ?_)
        rw [h15] at r5a r5b ⊢
        refine x_iconst (pc := 8) dX5_wordHere_8 ?_
        refine x_icmp_ne (pc := 9) (t := 121) dX5_wordHere_9 (by decide) ⟨by omega, by omega⟩ ⟨by omega, by omega⟩ (fun c9 => ?_) (fun c9 => ?_)
        · exfalso; omega
        · refine x_iload_n (pc := 12) dX5_wordHere_12 rfl rfl ?_
          refine x_bipush (pc := 13) dX5_wordHere_13 (by decide) ?_
          refine x_icmp_ge (pc := 15) (t := 121) dX5_wordHere_15 (by decide) ⟨by omega, by omega⟩ ⟨by omega, by omega⟩ (fun c15 => ?_) (fun c15 => ?_)
          · refine x_iconst (pc := 121) dX5_wordHere_121 ?_
            refine x_iret (pc := 122) dX5_wordHere_122 rfl (by decide) (by decide) ?_
            rw [← hu] at k
            exact k
          · exfalso; omega
      | succ c ih =>
        intro w x s hw hx hs hu
        have hs := hs (by omega)
        subst hs
        obtain ⟨w1, w2, -, -, w5⟩ := wd_off w (by omega)
        obtain ⟨w6, w7, w8, w9⟩ := wd_61 w (by omega)
        have wn := wd_next w
        simp only [wfn] at hu
        have inner : ∀ (e j : Nat) (y z : Int), j + e = stN (wM w) → y = j → (z = 0 ∨ z = 1) → (z = 1 ↔ ∀ i, i < j → (v 7 + i < v 8 ∧ tx ((v 7).toNat + i) = wdB (offW w + i))) → X g m_X5_wordHere 0 0 lay M 23 [(4, vI z), (3, vI y), (2, vI x), (1, vI (offW w : Nat)), (0, vR d)] [] K := by
          intro e
          induction e with
          | zero =>
            intro j y z hj hy hz hzi
            have ej : j = stN (wM w) := by omega
            have e1 : M (d + 10) (((offW w : Nat) : Int) + y).toNat = 32 := by rw [show (((offW w : Nat) : Int) + y).toNat = offW w + stN (wM w) by omega, hD _ w1]; exact w2
            have hiw : isWordP tx v (wM w) ↔ (z = 1 ∧ v 8 - v 7 = j) := by
              constructor
              · rintro ⟨i1, i2, i3⟩
                refine ⟨hzi.mpr (fun i hi => ⟨by omega, ?_⟩), by omega⟩
                rw [i3 i (by omega)]
                exact ((w5 i (by omega)).1).symm
              · rintro ⟨i1, i2⟩
                refine ⟨h61, by omega, fun i hi => ?_⟩
                rw [(hzi.mp i1 i (by omega)).2]
                exact (w5 i (by omega)).1
            refine x_aload_n (pc := 23) dX5_wordHere_23 rfl rfl ?_
            refine x_getr (pc := 24) (b := d + 10) fX5_43 dX5_wordHere_24 hd.1 rfl rfl ?_
            refine x_iload_n (pc := 27) dX5_wordHere_27 rfl rfl ?_
            refine x_iload_n (pc := 28) dX5_wordHere_28 rfl rfl ?_
            refine x_iadd (pc := 29) dX5_wordHere_29 ?_
            refine x_bald (pc := 30) dX5_wordHere_30 hd.2.2.2.2.2.2.2.2.2.2.1 (by omega) (by omega) (fun r30a r30b => ?_)
            rw [e1] at r30a r30b ⊢
            refine x_bipush (pc := 31) dX5_wordHere_31 (by decide) ?_
            refine x_icmp_eq (pc := 33) (t := 89) dX5_wordHere_33 (by decide) ⟨by omega, by omega⟩ ⟨by omega, by omega⟩ (fun c33 => ?_) (fun c33 => ?_)
            · refine x_iload (pc := 89) dX5_wordHere_89 rfl ?_
              refine x_if_eq (pc := 91) (t := 109) dX5_wordHere_91 (by decide) ⟨by omega, by omega⟩ (fun c91 => ?_) (fun c91 => ?_)
              · refine x_iload_n (pc := 109) dX5_wordHere_109 rfl rfl ?_
                refine x_iload_n (pc := 110) dX5_wordHere_110 rfl rfl ?_
                refine x_iconst (pc := 111) dX5_wordHere_111 ?_
                refine x_iadd (pc := 112) dX5_wordHere_112 ?_
                refine x_iadd (pc := 113) dX5_wordHere_113 ?_
                refine x_istore_n (pc := 114) dX5_wordHere_114 rfl (by decide) (L' := [(1, _), (4, _), (3, _), (2, _), (0, _)]) rfl ?_
                refine x_iinc (pc := 115) dX5_wordHere_115 rfl (by decide) (L' := [(2, _), (1, _), (4, _), (3, _), (0, _)]) rfl ?_
                refine x_goto (pc := 118) (t := 4) dX5_wordHere_118 (by decide) ?_
                refine X.loc [0, 1, 4] (L' := [(2, _), (1, _), (0, _)]) rfl ?_
                rw [if_neg (fun z => by have := hiw.mp z; omega)] at hu
                exact ih (w + 1) _ _ (by omega) (by omega) (fun h => by have := wn (by omega); omega) hu
              · refine x_aload_n (pc := 94) dX5_wordHere_94 rfl rfl ?_
                refine x_geti (pc := 95) fX5_272 dX5_wordHere_95 hd.1 rfl (fun r95a r95b => ?_)
                rw [h13] at r95a r95b ⊢
                refine x_aload_n (pc := 98) dX5_wordHere_98 rfl rfl ?_
                refine x_geti (pc := 99) fX5_278 dX5_wordHere_99 hd.1 rfl (fun r99a r99b => ?_)
                rw [h14] at r99a r99b ⊢
                refine x_isub (pc := 102) dX5_wordHere_102 ?_
                refine x_iload_n (pc := 103) dX5_wordHere_103 rfl rfl ?_
                refine x_icmp_ne (pc := 104) (t := 109) dX5_wordHere_104 (by decide) ⟨by omega, by omega⟩ ⟨by omega, by omega⟩ (fun c104 => ?_) (fun c104 => ?_)
                · refine x_iload_n (pc := 109) dX5_wordHere_109 rfl rfl ?_
                  refine x_iload_n (pc := 110) dX5_wordHere_110 rfl rfl ?_
                  refine x_iconst (pc := 111) dX5_wordHere_111 ?_
                  refine x_iadd (pc := 112) dX5_wordHere_112 ?_
                  refine x_iadd (pc := 113) dX5_wordHere_113 ?_
                  refine x_istore_n (pc := 114) dX5_wordHere_114 rfl (by decide) (L' := [(1, _), (4, _), (3, _), (2, _), (0, _)]) rfl ?_
                  refine x_iinc (pc := 115) dX5_wordHere_115 rfl (by decide) (L' := [(2, _), (1, _), (4, _), (3, _), (0, _)]) rfl ?_
                  refine x_goto (pc := 118) (t := 4) dX5_wordHere_118 (by decide) ?_
                  refine X.loc [0, 1, 4] (L' := [(2, _), (1, _), (0, _)]) rfl ?_
                  rw [if_neg (fun z => by have := hiw.mp z; omega)] at hu
                  exact ih (w + 1) _ _ (by omega) (by omega) (fun h => by have := wn (by omega); omega) hu
                · refine x_iload_n (pc := 107) dX5_wordHere_107 rfl rfl ?_
                  refine x_iret (pc := 108) dX5_wordHere_108 rfl (by decide) (by decide) ?_
                  rw [if_pos (hiw.mpr ⟨by omega, by omega⟩)] at hu
                  rw [← hu] at k
                  rw [hx]
                  exact k
            · exfalso; omega
          | succ e ihe =>
            intro j y z hj hy hz hzi
            obtain ⟨v1, v2⟩ := w5 j (by omega)
            have v3 := wd_rng (offW w + j) (by omega)
            have e1 : M (d + 10) (((offW w : Nat) : Int) + y).toNat = wdB (offW w + j) := by rw [show (((offW w : Nat) : Int) + y).toNat = offW w + j by omega, hD _ (by omega)]
            have e2 : v 7 + y < v 8 → M (d + 9) (v 7 + y).toNat = tx ((v 7).toNat + j) := fun h => by rw [show (v 7 + y).toNat = (v 7).toNat + j by omega]; exact hT.2 _ (by omega)
            have hstep : (∀ i, i < j + 1 → (v 7 + (i : Int) < v 8 ∧ tx ((v 7).toNat + i) = wdB (offW w + i))) ↔ ((∀ i, i < j → (v 7 + (i : Int) < v 8 ∧ tx ((v 7).toNat + i) = wdB (offW w + i))) ∧ (v 7 + (j : Int) < v 8 ∧ tx ((v 7).toNat + j) = wdB (offW w + j))) := by
              constructor
              · exact fun h => ⟨fun i hi => h i (by omega), h j (by omega)⟩
              · rintro ⟨h1, h2⟩ i hi
                by_cases e : i = j
                · rw [e]; exact h2
                · exact h1 i (by omega)
            refine x_aload_n (pc := 23) dX5_wordHere_23 rfl rfl ?_
            refine x_getr (pc := 24) (b := d + 10) fX5_43 dX5_wordHere_24 hd.1 rfl rfl ?_
            refine x_iload_n (pc := 27) dX5_wordHere_27 rfl rfl ?_
            refine x_iload_n (pc := 28) dX5_wordHere_28 rfl rfl ?_
            refine x_iadd (pc := 29) dX5_wordHere_29 ?_
            refine x_bald (pc := 30) dX5_wordHere_30 hd.2.2.2.2.2.2.2.2.2.2.1 (by omega) (by omega) (fun r30a r30b => ?_)
            rw [e1] at r30a r30b ⊢
            refine x_bipush (pc := 31) dX5_wordHere_31 (by decide) ?_
            refine x_icmp_eq (pc := 33) (t := 89) dX5_wordHere_33 (by decide) ⟨by omega, by omega⟩ ⟨by omega, by omega⟩ (fun c33 => ?_) (fun c33 => ?_)
            · exfalso; omega
            · refine x_iload (pc := 36) dX5_wordHere_36 rfl ?_
              refine x_if_eq (pc := 38) (t := 80) dX5_wordHere_38 (by decide) ⟨by omega, by omega⟩ (fun c38 => ?_) (fun c38 => ?_)
              · refine x_iconst (pc := 80) dX5_wordHere_80 ?_
                refine x_istore (pc := 81) dX5_wordHere_81 trivial (by decide) (L' := [(4, _), (3, _), (2, _), (1, _), (0, _)]) rfl ?_
                refine x_iinc (pc := 83) dX5_wordHere_83 rfl (by decide) (L' := [(3, _), (4, _), (2, _), (1, _), (0, _)]) rfl ?_
                refine x_goto (pc := 86) (t := 23) dX5_wordHere_86 (by decide) ?_
                refine X.loc [1, 0, 2, 3, 4] (L' := [(4, _), (3, _), (2, _), (1, _), (0, _)]) rfl ?_
                refine ihe (j + 1) _ _ (by omega) (by omega) (by omega) ?_
                rw [hstep, ← hzi]
                clear hzi hstep ihe ih hu e1 e2 w5 k hK hT hV hR
                grind
              · refine x_aload_n (pc := 41) dX5_wordHere_41 rfl rfl ?_
                refine x_geti (pc := 42) fX5_278 dX5_wordHere_42 hd.1 rfl (fun r42a r42b => ?_)
                rw [h14] at r42a r42b ⊢
                refine x_iload_n (pc := 45) dX5_wordHere_45 rfl rfl ?_
                refine x_iadd (pc := 46) dX5_wordHere_46 ?_
                refine x_aload_n (pc := 47) dX5_wordHere_47 rfl rfl ?_
                refine x_geti (pc := 48) fX5_272 dX5_wordHere_48 hd.1 rfl (fun r48a r48b => ?_)
                rw [h13] at r48a r48b ⊢
                refine x_icmp_ge (pc := 51) (t := 80) dX5_wordHere_51 (by decide) ⟨by omega, by omega⟩ ⟨by omega, by omega⟩ (fun c51 => ?_) (fun c51 => ?_)
                · refine x_iconst (pc := 80) dX5_wordHere_80 ?_
                  refine x_istore (pc := 81) dX5_wordHere_81 trivial (by decide) (L' := [(4, _), (3, _), (2, _), (1, _), (0, _)]) rfl ?_
                  refine x_iinc (pc := 83) dX5_wordHere_83 rfl (by decide) (L' := [(3, _), (4, _), (2, _), (1, _), (0, _)]) rfl ?_
                  refine x_goto (pc := 86) (t := 23) dX5_wordHere_86 (by decide) ?_
                  refine X.loc [1, 0, 2, 3, 4] (L' := [(4, _), (3, _), (2, _), (1, _), (0, _)]) rfl ?_
                  refine ihe (j + 1) _ _ (by omega) (by omega) (by omega) ?_
                  rw [hstep, ← hzi]
                  clear hzi hstep ihe ih hu e1 e2 w5 k hK hT hV hR
                  grind
                · refine x_aload_n (pc := 54) dX5_wordHere_54 rfl rfl ?_
                  refine x_getr (pc := 55) (b := d + 9) fX5_35 dX5_wordHere_55 hd.1 rfl rfl ?_
                  refine x_aload_n (pc := 58) dX5_wordHere_58 rfl rfl ?_
                  refine x_geti (pc := 59) fX5_278 dX5_wordHere_59 hd.1 rfl (fun r59a r59b => ?_)
                  rw [h14] at r59a r59b ⊢
                  refine x_iload_n (pc := 62) dX5_wordHere_62 rfl rfl ?_
                  refine x_iadd (pc := 63) dX5_wordHere_63 ?_
                  refine x_bald (pc := 64) dX5_wordHere_64 hd.2.2.2.2.2.2.2.2.2.1 (by omega) (by omega) (fun r64a r64b => ?_)
                  rw [e2 (by omega)] at r64a r64b ⊢
                  refine x_aload_n (pc := 65) dX5_wordHere_65 rfl rfl ?_
                  refine x_getr (pc := 66) (b := d + 10) fX5_43 dX5_wordHere_66 hd.1 rfl rfl ?_
                  refine x_iload_n (pc := 69) dX5_wordHere_69 rfl rfl ?_
                  refine x_iload_n (pc := 70) dX5_wordHere_70 rfl rfl ?_
                  refine x_iadd (pc := 71) dX5_wordHere_71 ?_
                  refine x_bald (pc := 72) dX5_wordHere_72 hd.2.2.2.2.2.2.2.2.2.2.1 (by omega) (by omega) (fun r72a r72b => ?_)
                  rw [e1] at r72a r72b ⊢
                  refine x_icmp_ne (pc := 73) (t := 80) dX5_wordHere_73 (by decide) ⟨by omega, by omega⟩ ⟨by omega, by omega⟩ (fun c73 => ?_) (fun c73 => ?_)
                  · refine x_iconst (pc := 80) dX5_wordHere_80 ?_
                    refine x_istore (pc := 81) dX5_wordHere_81 trivial (by decide) (L' := [(4, _), (3, _), (2, _), (1, _), (0, _)]) rfl ?_
                    refine x_iinc (pc := 83) dX5_wordHere_83 rfl (by decide) (L' := [(3, _), (4, _), (2, _), (1, _), (0, _)]) rfl ?_
                    refine x_goto (pc := 86) (t := 23) dX5_wordHere_86 (by decide) ?_
                    refine X.loc [1, 0, 2, 3, 4] (L' := [(4, _), (3, _), (2, _), (1, _), (0, _)]) rfl ?_
                    refine ihe (j + 1) _ _ (by omega) (by omega) (by omega) ?_
                    rw [hstep, ← hzi]
                    clear hzi hstep ihe ih hu e1 e2 w5 k hK hT hV hR
                    grind
                  · refine x_iconst (pc := 76) dX5_wordHere_76 ?_
                    refine x_goto (pc := 77) (t := 81) dX5_wordHere_77 (by decide) ?_
                    refine x_istore (pc := 81) dX5_wordHere_81 trivial (by decide) (L' := [(4, _), (3, _), (2, _), (1, _), (0, _)]) rfl ?_
                    refine x_iinc (pc := 83) dX5_wordHere_83 rfl (by decide) (L' := [(3, _), (4, _), (2, _), (1, _), (0, _)]) rfl ?_
                    refine x_goto (pc := 86) (t := 23) dX5_wordHere_86 (by decide) ?_
                    refine X.loc [1, 0, 2, 3, 4] (L' := [(4, _), (3, _), (2, _), (1, _), (0, _)]) rfl ?_
                    refine ihe (j + 1) _ _ (by omega) (by omega) (by omega) ?_
                    rw [hstep, ← hzi]
                    clear hzi hstep ihe ih hu e1 e2 w5 k hK hT hV hR
                    grind
        refine x_aload_n (pc := 4) dX5_wordHere_4 rfl rfl ?_
        refine x_geti (pc := 5) fX5_290 dX5_wordHere_5 hd.1 rfl (fun r5a r5b => ?_)
        rw [h15] at r5a r5b ⊢
        refine x_iconst (pc := 8) dX5_wordHere_8 ?_
        refine x_icmp_ne (pc := 9) (t := 121) dX5_wordHere_9 (by decide) ⟨by omega, by omega⟩ ⟨by omega, by omega⟩ (fun c9 => ?_) (fun c9 => ?_)
        · exfalso; omega
        · refine x_iload_n (pc := 12) dX5_wordHere_12 rfl rfl ?_
          refine x_bipush (pc := 13) dX5_wordHere_13 (by decide) ?_
          refine x_icmp_ge (pc := 15) (t := 121) dX5_wordHere_15 (by decide) ⟨by omega, by omega⟩ ⟨by omega, by omega⟩ (fun c15 => ?_) (fun c15 => ?_)
          · exfalso; omega
          · refine x_iconst (pc := 18) dX5_wordHere_18 ?_
            refine x_istore_n (pc := 19) dX5_wordHere_19 rfl (by decide) (L' := [(3, _), (2, _), (1, _), (0, _)]) rfl ?_
            refine x_iconst (pc := 20) dX5_wordHere_20 ?_
            refine x_istore (pc := 21) dX5_wordHere_21 trivial (by decide) (L' := [(4, _), (3, _), (2, _), (1, _), (0, _)]) rfl ?_
            refine X.loc [0, 1, 2, 3, 4] (L' := [(4, _), (3, _), (2, _), (1, _), (0, _)]) rfl ?_
            exact inner (stN (wM w)) 0 _ _ (by omega) rfl (Or.inr rfl) ⟨fun _ i hi => by omega, fun _ => rfl⟩
    refine x_iconst (pc := 0) dX5_wordHere_0 ?_
    refine x_istore_n (pc := 1) dX5_wordHere_1 rfl (by decide) (L' := [(1, _), (0, _)]) rfl ?_
    refine x_iconst (pc := 2) dX5_wordHere_2 ?_
    refine x_istore_n (pc := 3) dX5_wordHere_3 rfl (by decide) (L' := [(2, _), (1, _), (0, _)]) rfl ?_
    refine X.loc [0, 1, 2] (L' := [(2, _), (1, _), (0, _)]) rfl ?_
    exact outer 12 0 _ _ rfl rfl (fun _ => rfl) hU.symm
  · have hu : U = -1 := by
      rw [hU]
      have : ∀ c w, wfn tx v c w = -1 := by
        intro c
        induction c with
        | zero => intro w; rfl
        | succ c ih =>
          intro w
          simp only [wfn]
          rw [if_neg (fun z => h61 z.1)]
          exact ih _
      exact this 12 0
    refine x_iconst (pc := 0) dX5_wordHere_0 ?_
    refine x_istore_n (pc := 1) dX5_wordHere_1 rfl (by decide) (L' := [(1, _), (0, _)]) rfl ?_
    refine x_iconst (pc := 2) dX5_wordHere_2 ?_
    refine x_istore_n (pc := 3) dX5_wordHere_3 rfl (by decide) (L' := [(2, _), (1, _), (0, _)]) rfl ?_
    refine x_aload_n (pc := 4) dX5_wordHere_4 rfl rfl ?_
    refine x_geti (pc := 5) fX5_290 dX5_wordHere_5 hd.1 rfl (fun r5a r5b => ?_)
    rw [h15] at r5a r5b ⊢
    refine x_iconst (pc := 8) dX5_wordHere_8 ?_
    refine x_icmp_ne (pc := 9) (t := 121) dX5_wordHere_9 (by decide) ⟨by omega, by omega⟩ ⟨by omega, by omega⟩ (fun c9 => ?_) (fun c9 => ?_)
    · refine x_iconst (pc := 121) dX5_wordHere_121 ?_
      refine x_iret (pc := 122) dX5_wordHere_122 rfl (by decide) (by decide) ?_
      rw [hu] at k
      exact k
    · exfalso; omega
