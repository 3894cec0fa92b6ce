/-! The reference's reader: starts. -/
theorem sp_X5_readInt1 {g : GG} {lay : Lay} {M : Mem} {K : KK} {d : Nat} {tx v : Nat → Int} {n : Nat} {lo hi : Int} (hd : MoL lay d) (hb0 : g.2.1 ≤ d) (hV : RelT tx n v M d) (hlo : -100 ≤ lo ∧ lo ≤ 100) (hhi : -100 ≤ hi ∧ hi ≤ 100) (k : ∀ M2 x, FrP d M M2 → PRel tx n (intRF tx n v lo hi) M2 d → ((intRF tx n v lo hi).1 = 1 → x = (intRF tx n v lo hi).2 10) → -200000 ≤ x ∧ x ≤ 200000 → K (.inl (some (vI x))) lay M2) : X g m_X5_readInt 0 0 lay M 0 [(0, vR d), (1, vI lo), (2, vI hi), (3, vI 1)] [] K := by
  refine sp_X5_readInt (R := intRF tx n v lo hi) hd hb0 hV hlo hhi (Or.inr rfl) (fun h => ?_) (fun h h2 => ?_) (fun h h2 h3 => ?_) k
  · unfold intRF
    rw [if_pos h]
  · unfold intRF
    rw [if_neg (fun z => z h), if_pos (by omega)]
  · unfold intRF
    rw [if_neg (fun z => z h), if_neg (by omega)]
theorem sp_X5_readInt0 {g : GG} {lay : Lay} {M : Mem} {K : KK} {d : Nat} {tx v : Nat → Int} {n : Nat} (hd : MoL lay d) (hb0 : g.2.1 ≤ d) (hV : RelT tx n v M d) (k : ∀ M2 x, FrP d M M2 → PRel tx n (intRF tx n v (if v 6 = 3 then -9 else 1) (if v 6 = 3 then -1 else 9)) M2 d → ((intRF tx n v (if v 6 = 3 then -9 else 1) (if v 6 = 3 then -1 else 9)).1 = 1 → x = (intRF tx n v (if v 6 = 3 then -9 else 1) (if v 6 = 3 then -1 else 9)).2 10) → -200000 ≤ x ∧ x ≤ 200000 → K (.inl (some (vI x))) lay M2) : X g m_X5_readInt 0 0 lay M 0 [(0, vR d), (1, vI (-9)), (2, vI 9), (3, vI 0)] [] K := by
  have hm9 : 0 ≤ minF tx n v 9 := by
    have := hV.1.2.2.min (tx := tx)
    exact this.2.2.2.1
  have htold : toldF v (minF tx n v) = if v 6 = 3 then - minF tx n v 9 else minF tx n v 9 := rfl
  refine sp_X5_readInt (R := intRF tx n v (if v 6 = 3 then -9 else 1) (if v 6 = 3 then -1 else 9)) hd hb0 hV (by omega) (by omega) (Or.inl rfl) (fun h => ?_) (fun h h2 => ?_) (fun h h2 h3 => ?_) k
  · unfold intRF
    rw [if_pos h]
  · unfold intRF
    rw [if_neg (fun z => z h), if_pos]
    by_cases e : v 6 = 3
    · rw [if_pos e] at htold
      rw [if_pos e, if_pos e]
      omega
    · rw [if_neg e] at htold
      rw [if_neg e, if_neg e]
      omega
  · unfold intRF
    rw [if_neg (fun z => z h), if_neg]
    by_cases e : v 6 = 3
    · rw [if_pos e] at htold
      rw [if_pos e, if_pos e]
      omega
    · rw [if_neg e] at htold
      rw [if_neg e, if_neg e]
      omega

set_option maxRecDepth 100000 in
theorem sp_X5_readStart {g : GG} {lay : Lay} {M : Mem} {K : KK} {d : Nat} {tx v : Nat → Int} {n : Nat} {T : CT} (hd : MoL lay d) (hb0 : g.2.1 ≤ d) (hV9 : SetR tx n v T M d) (k : ∀ M2, FrW d M M2 → SRel tx n (rStartF tx n v T) M2 d → K (.inl none) lay M2) : X g m_X5_readStart 0 0 lay M 0 [(0, vR d)] [] K := by
  obtain ⟨hV, hRow, ⟨hbits, hb22, hb23⟩, ⟨hv11, hv12⟩, hWS, hWP⟩ := id hV9
  obtain ⟨⟨hT, hR, hK⟩, ⟨h17, h18, v3, v4⟩, h13, h14, h15, h16⟩ := id hV
  obtain ⟨⟨k61, k62⟩, ⟨k71, k72⟩, ⟨k81, k82⟩, k91, k92⟩ := id hK
  have hnr := h16.rng
  have hmk := @mk_iff (v 6)
  have h600 := hT.1.1
  have ne1 : ¬ (0 : Int) = 1 := by decide
  have w0 := hWS.1
  obtain ⟨R, hRe⟩ : ∃ R, R = intRF tx n (tokF tx n v) (-30) 30 := ⟨_, rfl⟩
  have eS : rStartF tx n v T = if R.1 ≠ 1 then (0, R.2, T) else if R.2 6 = 2 ∧ R.2 9 < tS T 0 ∧ bitF (R.2 12) (R.2 9).toNat = 1 then (0, (failF R.2 4).2, T) else if (numRF tx n R.2 0 (tS T 0 - 1)).1 ≠ 1 then (0, (numRF tx n R.2 0 (tS T 0 - 1)).2, T) else (1, fup (numRF tx n R.2 0 (tS T 0 - 1)).2 12 (orF ((numRF tx n R.2 0 (tS T 0 - 1)).2 12) ((numRF tx n R.2 0 (tS T 0 - 1)).2 10).toNat), setP T (fup (tP T) ((numRF tx n R.2 0 (tS T 0 - 1)).2 10).toNat (R.2 10))) := by rw [hRe]; rfl
  obtain ⟨RR, hRR⟩ : ∃ RR, RR = rStartF tx n v T := ⟨_, rfl⟩
  rw [← hRR] at k eS
  have e12 : R.2 12 = v 12 := by rw [hRe, int_ne (by omega), tok_ne (by omega)]
  have e11 : R.2 11 = v 11 := by rw [hRe, int_ne (by omega), tok_ne (by omega)]
  have hrg : R.1 = 1 → -30 ≤ R.2 10 ∧ R.2 10 ≤ 30 := fun h => by rw [hRe] at h ⊢; exact int_rng h
  have badF : ∀ (M2 : Mem) (c9 : Int) (u : Nat → Int), FrP d M M2 → BadT tx n u M2 d → RR.1 ≠ 1 → RR.2.1 = u → -200000 ≤ c9 ∧ c9 ≤ 200000 → X g m_X5_readStart 0 0 lay M2 62 [(1, vI c9), (0, vR d)] [] K := by
    intro M2 c9 u hF2 hB2 hr1 hr2 hc
    have hB3 := hB2.2.1.2.2.1
    obtain ⟨hB4, hB5⟩ := hB2.2.2
    refine x_aload_n (pc := 62) dX5_readStart_62 rfl rfl ?_
    refine x_aload_n (pc := 63) dX5_readStart_63 rfl rfl ?_
    refine x_geti (pc := 64) fX5_293 dX5_readStart_64 hd.1 rfl (fun r64a r64b => ?_)
    refine x_callV (pc := 67) [_] rfl kX5_308 dX5_readStart_67 hd.1 rfl rfl (by decide) (Nat.le_of_ble_eq_true rfl) (Nat.le_of_ble_eq_true rfl) (by decide) ?_
    refine sp_X5_passesOnB hd hb0 hB2 ?_
    refine ⟨_, rfl, ?_⟩
    refine x_istore_n (pc := 70) dX5_readStart_70 rfl (by decide) (L' := [(2, _), (1, _), (0, _)]) rfl ?_
    refine x_aload_n (pc := 71) dX5_readStart_71 rfl rfl ?_
    refine x_geti (pc := 72) fX5_296 dX5_readStart_72 hd.1 rfl (fun r72a r72b => ?_)
    rw [hB2.2.1.1] at r72a r72b ⊢
    refine x_if_ne (pc := 75) (t := 100) dX5_readStart_75 (by decide) ⟨by omega, by omega⟩ (fun c75 => ?_) (fun c75 => ?_)
    · refine x_vret (pc := 100) dX5_readStart_100 rfl (by decide) (by decide) ?_
      refine k M2 (FrW.rf.p hF2) (Or.inr ⟨hr1, ?_⟩)
      rw [hr2]
      exact hB2
    · exfalso; omega
  have bad31 : ∀ (M2 : Mem) (c9 : Int) (u : Nat → Int), FrP d M M2 → BadT tx n u M2 d → RR.1 ≠ 1 → RR.2.1 = u → -200000 ≤ c9 ∧ c9 ≤ 200000 → X g m_X5_readStart 0 0 lay M2 31 [(1, vI c9), (0, vR d)] [] K := by
    intro M2 c9 u hF2 hB2 hr1 hr2 hc
    have hB3 := hB2.2.1.2.2.1
    refine x_aload_n (pc := 31) dX5_readStart_31 rfl rfl ?_
    refine x_aload_n (pc := 32) dX5_readStart_32 rfl rfl ?_
    refine x_geti (pc := 33) fX5_296 dX5_readStart_33 hd.1 rfl (fun r33a r33b => ?_)
    rw [hB2.2.1.1] at r33a r33b ⊢
    refine x_if_gt (pc := 36) (t := 53) dX5_readStart_36 (by decide) ⟨by omega, by omega⟩ (fun c36 => ?_) (fun c36 => ?_)
    · refine x_iconst (pc := 53) dX5_readStart_53 ?_
      refine x_goto (pc := 54) (t := 58) dX5_readStart_54 (by decide) ?_
      refine x_iconst (pc := 58) dX5_readStart_58 ?_
      refine x_callV (pc := 59) [_, _] rfl kX5_311 dX5_readStart_59 hd.1 rfl rfl (by decide) (Nat.le_of_ble_eq_true rfl) (Nat.le_of_ble_eq_true rfl) (by decide) ?_
      refine sp_X5_must1 hd hb0 ?_
      refine ⟨_, rfl, ?_⟩
      refine X.loc [0, 1] (L' := [(1, _), (0, _)]) rfl ?_
      exact badF M2 c9 u hF2 hB2 hr1 hr2 hc
    · exfalso; omega
  have badS : ∀ (M2 : Mem) (c9 : Int), FrP d M M2 → R.1 ≠ 1 → BadT tx n R.2 M2 d → -200000 ≤ c9 ∧ c9 ≤ 200000 → X g m_X5_readStart 0 0 lay M2 14 [(1, vI c9), (0, vR d)] [] K := by
    intro M2 c9 hF2 hr1 hB2 hc
    rw [if_pos hr1] at eS
    have hD0 : M2 (d + 1) 0 = tS T 0 := by rw [hF2.n]; exact hRow.1.1 0 (by omega)
    obtain ⟨hB4, hB5⟩ := hB2.2.2
    refine x_aload_n (pc := 14) dX5_readStart_14 rfl rfl ?_
    refine x_aload_n (pc := 15) dX5_readStart_15 rfl rfl ?_
    refine x_geti (pc := 16) fX5_293 dX5_readStart_16 hd.1 rfl (fun r16a r16b => ?_)
    refine x_iconst (pc := 19) dX5_readStart_19 ?_
    refine x_aload_n (pc := 20) dX5_readStart_20 rfl rfl ?_
    refine x_getr (pc := 21) (b := d + 1) fX5_7 dX5_readStart_21 hd.1 rfl rfl ?_
    refine x_iconst (pc := 24) dX5_readStart_24 ?_
    refine x_iald (pc := 25) dX5_readStart_25 hd.2.1 (by omega) (by omega) (fun r25a r25b => ?_)
    rw [show (0 : Int).toNat = 0 from rfl, hD0] at r25a r25b ⊢
    refine x_iconst (pc := 26) dX5_readStart_26 ?_
    refine x_isub (pc := 27) dX5_readStart_27 ?_
    refine x_callV (pc := 28) [_, _, _] rfl kX5_305 dX5_readStart_28 hd.1 rfl rfl (by decide) (Nat.le_of_ble_eq_true rfl) (Nat.le_of_ble_eq_true rfl) (by decide) ?_
    refine sp_X5_looksB hd hb0 hB2 ⟨by omega, by omega⟩ ⟨by omega, by omega⟩ ⟨by omega, by omega⟩ ?_
    refine ⟨_, rfl, ?_⟩
    refine X.loc [0, 1] (L' := [(1, _), (0, _)]) rfl ?_
    exact bad31 M2 c9 _ hF2 hB2 (by rw [eS]; exact ne1) (by rw [eS]) hc
  have goodS : ∀ (M2 : Mem) (c9 : Int), FrP d M M2 → R.1 = 1 → RelT tx n R.2 M2 d → c9 = R.2 10 → -200000 ≤ c9 ∧ c9 ≤ 200000 → X g m_X5_readStart 0 0 lay M2 14 [(1, vI c9), (0, vR d)] [] K := by
    intro M2 c9 hF2 hr1 hV2 hc9 hc
    rw [if_neg (fun z => z hr1)] at eS
    have hc30 := hrg hr1
    obtain ⟨u, hu⟩ : ∃ u, u = R.2 := ⟨_, rfl⟩
    rw [← hu] at eS hV2 hc9 e12 e11 hc30
    obtain ⟨⟨hT1, -, hK1⟩, ⟨g17, g18, w3, w4⟩, g13, g14, g15, g16⟩ := id hV2
    have hnr1 := g16.rng
    have hD0 : M2 (d + 1) 0 = tS T 0 := by rw [hF2.n]; exact hRow.1.1 0 (by omega)
    have h23 : M2 d 23 = v 12 := by rw [hF2 _ _ (by omega)]; exact hb23
    have eN1 : u 6 ≠ 2 → numRF tx n u 0 (tS T 0 - 1) = failF u 1 := fun h => by unfold numRF; rw [if_pos h]
    have eN2 : u 6 = 2 → ¬ (0 ≤ u 9 ∧ u 9 ≤ tS T 0 - 1) → numRF tx n u 0 (tS T 0 - 1) = failF u 2 := fun h h2 => by unfold numRF; rw [if_neg (fun z => z h), if_pos (by omega)]
    have eN3 : u 6 = 2 → (0 ≤ u 9 ∧ u 9 ≤ tS T 0 - 1) → numRF tx n u 0 (tS T 0 - 1) = (1, tokF tx n (fup u 10 (u 9))) := fun h h2 => by unfold numRF; rw [if_neg (fun z => z h), if_neg (by omega)]
    have hif := g16.iff (lo := 0) (hi := tS T 0 - 1) (by omega)
    have okG : u 6 = 2 → (0 ≤ u 9 ∧ u 9 ≤ tS T 0 - 1) → X g m_X5_readStart 0 0 lay M2 31 [(1, vI c9), (0, vR d)] [] K := by
      intro h6 hin
      have h16e : M2 d 16 = u 9 := g16.eq (hi := tS T 0 - 1) (by omega) hin.2
      obtain ⟨q, hq⟩ := Int.eq_ofNat_of_zero_le hin.1
      have hq5 : q < 5 := by omega
      rw [hq] at h16e
      have hbx : bitF (u 12) (u 9).toNat = bitF (v 12) q := by rw [e12, hq, Int.toNat_natCast]
      have hb01 := bit_01 (v 12) q
      rw [eN3 h6 hin, hbx] at eS
      have fin : bitF (v 12) q = 0 → X g m_X5_readStart 0 0 lay M2 62 [(1, vI c9), (0, vR d)] [] K := by
        intro hb
        rw [if_neg (by omega), if_neg (fun z => z rfl)] at eS
        obtain ⟨a9, ha9⟩ := Int.eq_ofNat_of_zero_le hv12.1
        refine x_aload_n (pc := 62) dX5_readStart_62 rfl rfl ?_
        refine x_aload_n (pc := 63) dX5_readStart_63 rfl rfl ?_
        refine x_geti (pc := 64) fX5_293 dX5_readStart_64 hd.1 rfl (fun r64a r64b => ?_)
        rw [h16e] at r64a r64b ⊢
        refine x_callV (pc := 67) [_] rfl kX5_308 dX5_readStart_67 hd.1 rfl rfl (by decide) (Nat.le_of_ble_eq_true rfl) (Nat.le_of_ble_eq_true rfl) (by decide) ?_
        refine sp_X5_passesOn hd hb0 hV2 (fun M3 hF3 hV3 => ?_)
        refine ⟨_, rfl, ?_⟩
        refine x_istore_n (pc := 70) dX5_readStart_70 rfl (by decide) (L' := [(2, _), (1, _), (0, _)]) rfl ?_
        refine x_aload_n (pc := 71) dX5_readStart_71 rfl rfl ?_
        refine x_geti (pc := 72) fX5_296 dX5_readStart_72 hd.1 rfl (fun r72a r72b => ?_)
        rw [hV3.2.1.1] at r72a r72b ⊢
        refine x_if_ne (pc := 75) (t := 100) dX5_readStart_75 (by decide) ⟨by omega, by omega⟩ (fun c75 => ?_) (fun c75 => ?_)
        · exfalso; omega
        · refine x_aload_n (pc := 78) dX5_readStart_78 rfl rfl ?_
          refine x_getr (pc := 79) (b := d + 1) fX5_7 dX5_readStart_79 hd.1 rfl rfl ?_
          refine x_bipush (pc := 82) dX5_readStart_82 (by decide) ?_
          refine x_iload_n (pc := 84) dX5_readStart_84 rfl rfl ?_
          refine x_iadd (pc := 85) dX5_readStart_85 ?_
          refine x_iload_n (pc := 86) dX5_readStart_86 rfl rfl ?_
          refine x_iast (pc := 87) dX5_readStart_87 hd.2.1 (by omega) (by omega) (by omega) ⟨by omega, by omega⟩ ?_
          refine x_aload_n (pc := 88) dX5_readStart_88 rfl rfl ?_
          refine x_dup (pc := 89) dX5_readStart_89 rfl ?_
          refine x_geti (pc := 90) fX5_318 dX5_readStart_90 hd.1 rfl (fun r90a r90b => ?_)
          try simp (disch := omega) only [mset_same, mset_nea, mset_nei, mcopy_nea, mcopy_in, mcopy_out, Int.reduceToNat, Int.toNat_natCast, Nat.zero_add, Nat.sub_zero] at r90a r90b ⊢
          rw [hF3 _ _ (by omega), h23, ha9] at r90a r90b ⊢
          refine x_iconst (pc := 93) dX5_readStart_93 ?_
          refine x_iload_n (pc := 94) dX5_readStart_94 rfl rfl ?_
          refine x_ishl (pc := 95) q (by omega) rfl dX5_readStart_95 ?_
          refine x_ior (pc := 96) a9 q (by omega) (by omega) rfl rfl dX5_readStart_96 ?_
          rw [or_eq]
          have ho := orF_32 (a := (a9 : Int)) (n := q) (by omega) hq5
          refine x_puti (pc := 97) fnX5_318 dX5_readStart_97 hd.1 (by omega) rfl ⟨by omega, by omega⟩ ?_
          refine x_vret (pc := 100) dX5_readStart_100 rfl (by decide) (by decide) ?_
          rw [show (11 + (q : Int)).toNat = 11 + q by omega]
          have t10 : tokF tx n (fup u 10 (u 9)) 10 = q := by rw [tok_ne (by omega), fup_at, hq]
          have t12 : tokF tx n (fup u 10 (u 9)) 12 = a9 := by rw [tok_ne (by omega), fup_ne (by omega), e12, ha9]
          have t11 : tokF tx n (fup u 10 (u 9)) 11 = v 11 := by rw [tok_ne (by omega), fup_ne (by omega), e11]
          refine k _ (((FrW.rf.p (hF2.tr hF3)).m1).mf (Or.inr rfl)) (Or.inl ?_)
          rw [eS]
          have hV4 : RelT tx n (tokF tx n (fup u 10 (u 9))) M3 d := hV3
          have eD1 : M3 (d + 1) = M (d + 1) := by rw [hF3.n, hF2.n]
          dsimp only
          rw [t10, t12, Int.toNat_natCast]
          refine ⟨rfl, (hV4.m1).mf (by omega), ?_, ⟨fun w hw => ?_, ?_, ?_⟩, ⟨?_, ?_⟩, hWS, ?_⟩
          · show RowT (setP T (fup (tP T) q (u 10))) (mset (mset M3 (d + 1) (11 + q) c9) d 23 _ (d + 1))
            rw [show mset (mset M3 (d + 1) (11 + q) c9) d 23 (orF (a9 : Nat) q) (d + 1) = mset M3 (d + 1) (11 + q) c9 (d + 1) from funext fun j => mset_nea (by omega), mset_row, eD1, hc9]
            exact hRow.setP hq5
          · show bitF _ w = bitF (fup (tokF tx n (fup u 10 (u 9))) 12 _ 11) (swW w)
            rw [mset_nei (by omega), mset_nea (by omega), hF3 _ _ (by omega), hF2 _ _ (by omega), fup_ne (by omega), t11]
            exact hbits w hw
          · rw [mset_nei (by omega), mset_nea (by omega), hF3 _ _ (by omega), hF2 _ _ (by omega)]
            exact hb22
          · show _ = fup (tokF tx n (fup u 10 (u 9))) 12 _ 12
            rw [mset_same, fup_at]
          · show 0 ≤ fup (tokF tx n (fup u 10 (u 9))) 12 _ 11 ∧ fup (tokF tx n (fup u 10 (u 9))) 12 _ 11 < 128
            rw [fup_ne (by omega), t11]
            exact hv11
          · show 0 ≤ fup (tokF tx n (fup u 10 (u 9))) 12 _ 12 ∧ fup (tokF tx n (fup u 10 (u 9))) 12 _ 12 < 32
            rw [fup_at]
            exact ho
          · exact hWP.up hq5 hc30
      refine x_aload_n (pc := 31) dX5_readStart_31 rfl rfl ?_
      refine x_aload_n (pc := 32) dX5_readStart_32 rfl rfl ?_
      refine x_geti (pc := 33) fX5_296 dX5_readStart_33 hd.1 rfl (fun r33a r33b => ?_)
      rw [g17] at r33a r33b ⊢
      refine x_if_gt (pc := 36) (t := 53) dX5_readStart_36 (by decide) ⟨by omega, by omega⟩ (fun c36 => ?_) (fun c36 => ?_)
      · exfalso; omega
      · refine x_aload_n (pc := 39) dX5_readStart_39 rfl rfl ?_
        refine x_geti (pc := 40) fX5_318 dX5_readStart_40 hd.1 rfl (fun r40a r40b => ?_)
        rw [h23] at r40a r40b ⊢
        refine x_aload_n (pc := 43) dX5_readStart_43 rfl rfl ?_
        refine x_geti (pc := 44) fX5_293 dX5_readStart_44 hd.1 rfl (fun r44a r44b => ?_)
        rw [h16e] at r44a r44b ⊢
        refine x_ishr (pc := 47) q (by omega) rfl ⟨by omega, by omega⟩ dX5_readStart_47 ?_
        refine x_iconst (pc := 48) dX5_readStart_48 ?_
        refine x_iandm (pc := 49) 1 (by omega) rfl dX5_readStart_49 ?_
        rw [show v 12 / 2 ^ q % 2 ^ 1 = bitF (v 12) q from rfl]
        refine x_if_ne (pc := 50) (t := 57) dX5_readStart_50 (by decide) ⟨by omega, by omega⟩ (fun c50 => ?_) (fun c50 => ?_)
        · refine x_iconst (pc := 57) dX5_readStart_57 ?_
          refine x_iconst (pc := 58) dX5_readStart_58 ?_
          refine x_callV (pc := 59) [_, _] rfl kX5_311 dX5_readStart_59 hd.1 rfl rfl (by decide) (Nat.le_of_ble_eq_true rfl) (Nat.le_of_ble_eq_true rfl) (by decide) ?_
          first
          | (refine sp_X5_must1 hd hb0 ?_)
          | (refine sp_X5_must0 hd hb0 hV2 (by omega) (fun M3 hF3 hB3 => ?_))
          refine ⟨_, rfl, ?_⟩
          refine X.loc [0, 1] (L' := [(1, _), (0, _)]) rfl ?_
          first
          | (rw [if_pos ⟨h6, by omega, by omega⟩] at eS
             exact badF M3 c9 _ (hF2.tr hF3) hB3 (by rw [eS]; exact ne1) (by rw [eS]) hc)
          | exact fin (by omega)
        · refine x_iconst (pc := 53) dX5_readStart_53 ?_
          refine x_goto (pc := 54) (t := 58) dX5_readStart_54 (by decide) ?_
          refine x_iconst (pc := 58) dX5_readStart_58 ?_
          refine x_callV (pc := 59) [_, _] rfl kX5_311 dX5_readStart_59 hd.1 rfl rfl (by decide) (Nat.le_of_ble_eq_true rfl) (Nat.le_of_ble_eq_true rfl) (by decide) ?_
          first
          | (refine sp_X5_must1 hd hb0 ?_)
          | (refine sp_X5_must0 hd hb0 hV2 (by omega) (fun M3 hF3 hB3 => ?_))
          refine ⟨_, rfl, ?_⟩
          refine X.loc [0, 1] (L' := [(1, _), (0, _)]) rfl ?_
          first
          | (rw [if_pos ⟨h6, by omega, by omega⟩] at eS
             exact badF M3 c9 _ (hF2.tr hF3) hB3 (by rw [eS]; exact ne1) (by rw [eS]) hc)
          | exact fin (by omega)
    refine x_aload_n (pc := 14) dX5_readStart_14 rfl rfl ?_
    refine x_aload_n (pc := 15) dX5_readStart_15 rfl rfl ?_
    refine x_geti (pc := 16) fX5_293 dX5_readStart_16 hd.1 rfl (fun r16a r16b => ?_)
    refine x_iconst (pc := 19) dX5_readStart_19 ?_
    refine x_aload_n (pc := 20) dX5_readStart_20 rfl rfl ?_
    refine x_getr (pc := 21) (b := d + 1) fX5_7 dX5_readStart_21 hd.1 rfl rfl ?_
    refine x_iconst (pc := 24) dX5_readStart_24 ?_
    refine x_iald (pc := 25) dX5_readStart_25 hd.2.1 (by omega) (by omega) (fun r25a r25b => ?_)
    rw [show (0 : Int).toNat = 0 from rfl, hD0] at r25a r25b ⊢
    refine x_iconst (pc := 26) dX5_readStart_26 ?_
    refine x_isub (pc := 27) dX5_readStart_27 ?_
    refine x_callV (pc := 28) [_, _, _] rfl kX5_305 dX5_readStart_28 hd.1 rfl rfl (by decide) (Nat.le_of_ble_eq_true rfl) (Nat.le_of_ble_eq_true rfl) (by decide) ?_
    refine sp_X5_looks hd hb0 hV2 ⟨by omega, by omega⟩ ⟨by omega, by omega⟩ ⟨by omega, by omega⟩ (fun M3 hF3 hL => ?_)
    refine ⟨_, rfl, ?_⟩
    refine X.loc [0, 1] (L' := [(1, _), (0, _)]) rfl ?_
    rcases hL with ⟨⟨l1, l2⟩, rfl⟩ | ⟨l1, hB2⟩ | ⟨⟨l1, l2⟩, hB2⟩
    · exact okG l1 (hif.mp l2)
    · rw [if_neg (fun z => l1 z.1), eN1 l1, if_pos (show ¬ (failF u 1).1 = 1 from ne1)] at eS
      exact bad31 M3 c9 _ (hF2.tr hF3) hB2 (by rw [eS]; exact ne1) (by rw [eS]) hc
    · have l3 : ¬ (0 ≤ u 9 ∧ u 9 ≤ tS T 0 - 1) := fun z => l2 (hif.mpr z)
      rw [if_neg (fun z => by have := z.2.1; omega), eN2 l1 l3, if_pos (show ¬ (failF u 2).1 = 1 from ne1)] at eS
      exact bad31 M3 c9 _ (hF2.tr hF3) hB2 (by rw [eS]; exact ne1) (by rw [eS]) hc
  refine x_aload_n (pc := 0) dX5_readStart_0 rfl rfl ?_
  refine x_callV (pc := 1) [] rfl kX5_302 dX5_readStart_1 hd.1 rfl rfl (by decide) (Nat.le_of_ble_eq_true rfl) (Nat.le_of_ble_eq_true rfl) (by decide) ?_
  refine sp_X5_next hd hb0 hV (fun M1 hF1 hV1 => ?_)
  refine ⟨_, rfl, ?_⟩
  refine x_aload_n (pc := 4) dX5_readStart_4 rfl rfl ?_
  refine x_bipush (pc := 5) dX5_readStart_5 (by decide) ?_
  refine x_bipush (pc := 7) dX5_readStart_7 (by decide) ?_
  refine x_iconst (pc := 9) dX5_readStart_9 ?_
  refine x_callV (pc := 10) [_, _, _] rfl kX5_330 dX5_readStart_10 hd.1 rfl rfl (by decide) (Nat.le_of_ble_eq_true rfl) (Nat.le_of_ble_eq_true rfl) (by decide) ?_
  refine sp_X5_readInt1 hd hb0 hV1 (by omega) (by omega) (fun M2 c9 hF2 hP2 hc2 hcr => ?_)
  rw [← hRe] at hP2 hc2
  refine ⟨_, rfl, ?_⟩
  refine x_istore_n (pc := 13) dX5_readStart_13 rfl (by decide) (L' := [(1, _), (0, _)]) rfl ?_
  refine X.loc [0, 1] (L' := [(1, _), (0, _)]) rfl ?_
  rcases hP2 with ⟨p1, p2⟩ | ⟨p1, p2⟩
  · exact goodS M2 c9 (hF1.tr hF2) p1 p2 (hc2 p1) hcr
  · exact badS M2 c9 (hF1.tr hF2) p1 p2 hcr
