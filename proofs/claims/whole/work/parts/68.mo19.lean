/-! The reference: values and roots told. -/
theorem FrQ.tr {d : Nat} {M M' M'' : Mem} (h : FrQ d M M') (h2 : FrQ d M' M'') : FrQ d M M'' := fun a j q1 q2 q3 q4 q5 => (h2 a j q1 q2 q3 q4 q5).trans (h a j q1 q2 q3 q4 q5)
theorem FrQ.rf {d : Nat} {M : Mem} : FrQ d M M := fun _ _ _ _ _ _ _ => rfl
theorem Mr.m0 {s : RS} {M : Mem} {d : Nat} {t : Int} (h : Mr s M d) : Mr s (mset M d 0 t) d := by
  obtain ⟨N, h1, h2, h3⟩ := h
  exact ⟨N, h1.fr (fun j => mset_nea (by omega)), by rw [mset_ne (by omega)]; exact h2, fun k hk => ⟨by rw [mset_nea (by omega)]; exact (h3 k hk).1, (h3 k hk).2⟩⟩
theorem mulF_at {w : Nat → Int} {j : Nat} : ∀ n : Nat, n ≤ 5 → 5 - n ≤ j → j < 5 → (∀ i, 5 - n ≤ i → i < j → w i = 0) → w j ≠ 0 → mulF w n = j
  | 0, _, h1, h2, _, _ => by omega
  | n + 1, hn, h1, h2, hz, hne => by
    simp only [mulF]
    by_cases e : j = 5 - (n + 1)
    · rw [← e, if_pos hne]
    · rw [if_neg (fun q => q (hz (5 - (n + 1)) (by omega) (by omega)))]
      exact mulF_at n (by omega) (by omega) h2 (fun i h3 h4 => hz i (by omega) h4) hne
theorem mulF_z {w : Nat → Int} : ∀ n : Nat, n ≤ 5 → (∀ i, i < 5 → w i = 0) → mulF w n = -1
  | 0, _, _ => rfl
  | n + 1, hn, hz => by
    simp only [mulF]
    rw [if_neg (fun q => q (hz (5 - (n + 1)) (by omega)))]
    exact mulF_z n (by omega) hz

set_option maxRecDepth 100000 in
theorem sp_X5_degree {g : GG} {lay : Lay} {M : Mem} {K : KK} {d : Nat} {T : CT} (hd : MoL lay d) (hb0 : g.2.1 ≤ d) (hT : RowT T (M (d + 1))) (hW : WfT T) (hB : ∃ N, Bg N M d) (gM : GoodM) (gE : GoodE) (k : ∀ (M2 : Mem) (v : Int), FrQ d M M2 → RowT T (M2 (d + 1)) → (∃ N, Bg N M2 d) → M2 d 0 = kOf [] (oI (degF (tP T) 5)) → (∀ v9, (oI (degF (tP T) 5)) = oI v9 → v = v9) → K (.inl (some (vI v))) lay M2) : X g m_X5_degree 0 0 lay M 0 [(0, vR d)] [] K := by
  have hn := hW.n60
  obtain ⟨wS, wP, wN, wm, wK, wL, wO, wB⟩ := id hW
  obtain ⟨⟨hS, hN, h10, hP, hp3, hL, hK, h99, hm⟩, hO, hBo⟩ := id hT
  refine x_aload_n (pc := 0) dX5_degree_0 rfl rfl ?_
  refine x_iconst (pc := 1) dX5_degree_1 ?_
  refine x_puti (pc := 2) fnX5_55 dX5_degree_2 hd.1 (by omega) rfl ⟨by omega, by omega⟩ ?_
  refine x_nm (fun M1 hM1 => ?_)
  obtain ⟨z1, z2, z3, z4⟩ := mq hM1 hT hB
  refine x_aload_n (pc := 5) dX5_degree_5 rfl rfl ?_
  refine x_callV (pc := 6) [] rfl kX5_136 dX5_degree_6 hd.1 rfl rfl (by decide) (Nat.le_of_ble_eq_true rfl) (Nat.le_of_ble_eq_true rfl) (by decide) ?_
  refine sp_X5_degreeNow hd hb0 z3 hW ?_
  refine ⟨_, rfl, ?_⟩
  refine x_iret (pc := 9) dX5_degree_9 rfl (by decide) (by decide) ?_
  exact k M1 _ z2 z3 z4 (by rw [z1]; rfl) (fun v9 hx => oI_inj hx)
set_option maxRecDepth 100000 in
theorem sp_X5_allRoots {g : GG} {lay : Lay} {M : Mem} {K : KK} {d : Nat} {T : CT} (hd : MoL lay d) (hb0 : g.2.1 ≤ d) (hT : RowT T (M (d + 1))) (hW : WfT T) (hB : ∃ N, Bg N M d) (gM : GoodM) (gE : GoodE) (k : ∀ (M2 : Mem) (v : Int), FrQ d M M2 → RowT T (M2 (d + 1)) → (∃ N, Bg N M2 d) → M2 d 0 = kOf [] (oI (allD (buildF (tP T)))) → (∀ v9, (oI (allD (buildF (tP T)))) = oI v9 → v = v9) → K (.inl (some (vI v))) lay M2) : X g m_X5_allRoots 0 0 lay M 0 [(0, vR d)] [] K := by
  have hn := hW.n60
  obtain ⟨wS, wP, wN, wm, wK, wL, wO, wB⟩ := id hW
  obtain ⟨⟨hS, hN, h10, hP, hp3, hL, hK, h99, hm⟩, hO, hBo⟩ := id hT
  refine x_aload_n (pc := 0) dX5_allRoots_0 rfl rfl ?_
  refine x_iconst (pc := 1) dX5_allRoots_1 ?_
  refine x_puti (pc := 2) fnX5_55 dX5_allRoots_2 hd.1 (by omega) rfl ⟨by omega, by omega⟩ ?_
  refine x_nm (fun M1 hM1 => ?_)
  obtain ⟨z1, z2, z3, z4⟩ := mq hM1 hT hB
  refine x_aload_n (pc := 5) dX5_allRoots_5 rfl rfl ?_
  refine x_callV (pc := 6) [] rfl kX5_222 dX5_allRoots_6 hd.1 rfl rfl (by decide) (Nat.le_of_ble_eq_true rfl) (Nat.le_of_ble_eq_true rfl) (by decide) ?_
  refine sp_X5_rootsInAll hd hb0 z4 (P := tP T) (fun p hp => z3.1.2.2.2.1 p hp) wP gM (fun M2 hF2 hR2 => ?_)
  rw [(gE _ wP).2.2]
  refine ⟨_, rfl, ?_⟩
  refine x_iret (pc := 9) dX5_allRoots_9 rfl (by decide) (by decide) ?_
  exact k M2 _ (z2.l hF2) (z3.fr hF2.n) hR2.bg (by rw [hF2 _ _ (by omega) (by omega) (by omega), z1]; rfl) (fun v9 hx => oI_inj hx)
set_option maxRecDepth 100000 in
theorem sp_X5_rows {g : GG} {lay : Lay} {M : Mem} {K : KK} {d : Nat} {T : CT} (hd : MoL lay d) (hb0 : g.2.1 ≤ d) (hT : RowT T (M (d + 1))) (hW : WfT T) (hB : ∃ N, Bg N M d) (gM : GoodM) (gE : GoodE) (k : ∀ (M2 : Mem) (v : Int), FrQ d M M2 → RowT T (M2 (d + 1)) → (∃ N, Bg N M2 d) → M2 d 0 = kOf [] (oI ((buildF (tP T)).1 : Int)) → (∀ v9, (oI ((buildF (tP T)).1 : Int)) = oI v9 → v = v9) → K (.inl (some (vI v))) lay M2) : X g m_X5_rows 0 0 lay M 0 [(0, vR d)] [] K := by
  have hn := hW.n60
  obtain ⟨wS, wP, wN, wm, wK, wL, wO, wB⟩ := id hW
  obtain ⟨⟨hS, hN, h10, hP, hp3, hL, hK, h99, hm⟩, hO, hBo⟩ := id hT
  refine x_aload_n (pc := 0) dX5_rows_0 rfl rfl ?_
  refine x_iconst (pc := 1) dX5_rows_1 ?_
  refine x_puti (pc := 2) fnX5_55 dX5_rows_2 hd.1 (by omega) rfl ⟨by omega, by omega⟩ ?_
  refine x_nm (fun M1 hM1 => ?_)
  obtain ⟨z1, z2, z3, z4⟩ := mq hM1 hT hB
  refine x_aload_n (pc := 5) dX5_rows_5 rfl rfl ?_
  refine x_callV (pc := 6) [] rfl kX5_126 dX5_rows_6 hd.1 rfl rfl (by decide) (Nat.le_of_ble_eq_true rfl) (Nat.le_of_ble_eq_true rfl) (by decide) ?_
  refine sp_X5_laysRows hd hb0 z4 z3.1.2.2.2.1 (fun p _ => by have := wP p; omega) (gM _ wP).1 (fun M2 hF2 hR2 => ?_)
  refine ⟨_, rfl, ?_⟩
  refine x_aload_n (pc := 9) dX5_rows_9 rfl rfl ?_
  refine x_geti (pc := 10) fX5_106 dX5_rows_10 hd.1 rfl (fun r10a r10b => ?_)
  try simp (disch := omega) only [mset_same, mset_nea, mset_nei, mcopy_nea, mcopy_in, mcopy_out, Int.reduceToNat, Int.toNat_natCast, Nat.zero_add, Nat.sub_zero] at r10a r10b ⊢
  rw [show M2 d 9 = ((buildF (tP T)).1 : Int) by rw [← (gE _ wP).1]; exact hR2.elim (fun _ h => h.2.1)] at r10a r10b ⊢
  refine x_iret (pc := 13) dX5_rows_13 rfl (by decide) (by decide) ?_
  exact k M2 _ (z2.l hF2) (z3.fr hF2.n) hR2.bg (by rw [hF2 _ _ (by omega) (by omega) (by omega), z1]; rfl) (fun v9 hx => oI_inj hx)
set_option maxRecDepth 100000 in
theorem sp_X5_winner {g : GG} {lay : Lay} {M : Mem} {K : KK} {d : Nat} {T : CT} (hd : MoL lay d) (hb0 : g.2.1 ≤ d) (hT : RowT T (M (d + 1))) (hW : WfT T) (hB : ∃ N, Bg N M d) (gM : GoodM) (gE : GoodE) (k : ∀ (M2 : Mem) (v : Int), FrQ d M M2 → RowT T (M2 (d + 1)) → (∃ N, Bg N M2 d) → M2 d 0 = kOf [] (oI (winF T)) → (∀ v9, (oI (winF T)) = oI v9 → v = v9) → K (.inl (some (vI v))) lay M2) : X g m_X5_winner 0 0 lay M 0 [(0, vR d)] [] K := by
  have hn := hW.n60
  obtain ⟨wS, wP, wN, wm, wK, wL, wO, wB⟩ := id hW
  obtain ⟨⟨hS, hN, h10, hP, hp3, hL, hK, h99, hm⟩, hO, hBo⟩ := id hT
  have c0 := scoreF_rng hW (buildF (tP T)) (pl := 0) (by omega)
  have c1 := scoreF_rng hW (buildF (tP T)) (pl := 1) (by omega)
  refine x_aload_n (pc := 0) dX5_winner_0 rfl rfl ?_
  refine x_iconst (pc := 1) dX5_winner_1 ?_
  refine x_puti (pc := 2) fnX5_55 dX5_winner_2 hd.1 (by omega) rfl ⟨by omega, by omega⟩ ?_
  refine x_nm (fun M1 hM1 => ?_)
  obtain ⟨z1, z2, z3, z4⟩ := mq hM1 hT hB
  refine x_aload_n (pc := 5) dX5_winner_5 rfl rfl ?_
  refine x_getr (pc := 6) (b := d + 1) fX5_7 dX5_winner_6 hd.1 rfl rfl ?_
  refine x_bipush (pc := 9) dX5_winner_9 (by decide) ?_
  refine x_iald (pc := 11) dX5_winner_11 hd.2.1 (by omega) (by omega) (fun r11a r11b => ?_)
  try simp (disch := omega) only [mset_same, mset_nea, mset_nei, mcopy_nea, mcopy_in, mcopy_out, Int.reduceToNat, Int.toNat_natCast, Nat.zero_add, Nat.sub_zero] at r11a r11b ⊢
  rw [z3.2.1] at r11a r11b ⊢
  refine x_if_ne (pc := 12) (t := 17) dX5_winner_12 (by decide) ⟨by omega, by omega⟩ (fun c12 => ?_) (fun c12 => ?_)
  · refine x_aload_n (pc := 17) dX5_winner_17 rfl rfl ?_
    refine x_iconst (pc := 18) dX5_winner_18 ?_
    refine x_callV (pc := 19) [_] rfl kX5_243 dX5_winner_19 hd.1 rfl rfl (by decide) (Nat.le_of_ble_eq_true rfl) (Nat.le_of_ble_eq_true rfl) (by decide) ?_
    refine sp_X5_scoreOf (pl := 0) hd hb0 z3 hW z4 gM gE (by omega) (fun M2 hF2 hB2 => ?_)
    refine ⟨_, rfl, ?_⟩
    refine x_istore_n (pc := 22) dX5_winner_22 rfl (by decide) (L' := [(1, _), (0, _)]) rfl ?_
    refine x_aload_n (pc := 23) dX5_winner_23 rfl rfl ?_
    refine x_iconst (pc := 24) dX5_winner_24 ?_
    refine x_callV (pc := 25) [_] rfl kX5_243 dX5_winner_25 hd.1 rfl rfl (by decide) (Nat.le_of_ble_eq_true rfl) (Nat.le_of_ble_eq_true rfl) (by decide) ?_
    refine sp_X5_scoreOf (pl := 1) hd hb0 (z3.fr hF2.n) hW hB2 gM gE (by omega) (fun M3 hF3 hB3 => ?_)
    refine ⟨_, rfl, ?_⟩
    refine x_istore_n (pc := 28) dX5_winner_28 rfl (by decide) (L' := [(2, _), (1, _), (0, _)]) rfl ?_
    refine x_iload_n (pc := 29) dX5_winner_29 rfl rfl ?_
    refine x_iload_n (pc := 30) dX5_winner_30 rfl rfl ?_
    refine x_icmp_le (pc := 31) (t := 38) dX5_winner_31 (by decide) ⟨by omega, by omega⟩ ⟨by omega, by omega⟩ (fun c31 => ?_) (fun c31 => ?_)
    · refine x_iload_n (pc := 38) dX5_winner_38 rfl rfl ?_
      refine x_iload_n (pc := 39) dX5_winner_39 rfl rfl ?_
      refine x_icmp_ge (pc := 40) (t := 47) dX5_winner_40 (by decide) ⟨by omega, by omega⟩ ⟨by omega, by omega⟩ (fun c40 => ?_) (fun c40 => ?_)
      · refine x_iconst (pc := 47) dX5_winner_47 ?_
        refine x_iret (pc := 48) dX5_winner_48 rfl (by decide) (by decide) ?_
        refine k M3 _ ((z2.l hF2).l hF3) ((z3.fr hF2.n).fr hF3.n) hB3 (by rw [hF3 _ _ (by omega) (by omega) (by omega), hF2 _ _ (by omega) (by omega) (by omega), z1]; rfl) (fun v9 hx => ?_)
        rw [← oI_inj hx]
        unfold winF
        repeat (first | rw [if_pos (by omega)] | rw [if_neg (by omega)])
        first | done | rfl
      · refine x_iconst (pc := 43) dX5_winner_43 ?_
        refine x_goto (pc := 44) (t := 48) dX5_winner_44 (by decide) ?_
        refine x_iret (pc := 48) dX5_winner_48 rfl (by decide) (by decide) ?_
        refine k M3 _ ((z2.l hF2).l hF3) ((z3.fr hF2.n).fr hF3.n) hB3 (by rw [hF3 _ _ (by omega) (by omega) (by omega), hF2 _ _ (by omega) (by omega) (by omega), z1]; rfl) (fun v9 hx => ?_)
        rw [← oI_inj hx]
        unfold winF
        repeat (first | rw [if_pos (by omega)] | rw [if_neg (by omega)])
        first | done | rfl
    · refine x_iconst (pc := 34) dX5_winner_34 ?_
      refine x_goto (pc := 35) (t := 48) dX5_winner_35 (by decide) ?_
      refine x_iret (pc := 48) dX5_winner_48 rfl (by decide) (by decide) ?_
      refine k M3 _ ((z2.l hF2).l hF3) ((z3.fr hF2.n).fr hF3.n) hB3 (by rw [hF3 _ _ (by omega) (by omega) (by omega), hF2 _ _ (by omega) (by omega) (by omega), z1]; rfl) (fun v9 hx => ?_)
      rw [← oI_inj hx]
      unfold winF
      repeat (first | rw [if_pos (by omega)] | rw [if_neg (by omega)])
      first | done | rfl
  · refine x_iconst (pc := 15) dX5_winner_15 ?_
    refine x_iret (pc := 16) dX5_winner_16 rfl (by decide) (by decide) ?_
    refine k M1 _ z2 z3 z4 (by rw [z1]; rfl) (fun v9 hx => ?_)
    rw [← oI_inj hx]
    unfold winF
    rw [if_pos (by omega)]
set_option maxRecDepth 100000 in
theorem sp_X5_near {g : GG} {lay : Lay} {M : Mem} {K : KK} {d : Nat} {T : CT} {i p : Int} (hd : MoL lay d) (hb0 : g.2.1 ≤ d) (hT : RowT T (M (d + 1))) (hW : WfT T) (hB : ∃ N, Bg N M d) (gM : GoodM) (gE : GoodE) (gF : GoodF) (hi : i32 i) (hp : i32 p) (k : ∀ (M2 : Mem) (v : Int), FrQ d M M2 → RowT T (M2 (d + 1)) → (∃ N, Bg N M2 d) → M2 d 0 = kOf [nIO, nIA] (rNear T i p) → (∀ v9, (rNear T i p) = oI v9 → v = v9) → K (.inl (some (vI v))) lay M2) : X g m_X5_near 0 0 lay M 0 [(0, vR d), (1, vI i), (2, vI p)] [] K := by
  have hn := hW.n60
  obtain ⟨wS, wP, wN, wm, wK, wL, wO, wB⟩ := id hW
  obtain ⟨⟨hS, hN, h10, hP, hp3, hL, hK, h99, hm⟩, hO, hBo⟩ := id hT
  have had := allD_rng (s := buildF (tP T)) (by have := (gE _ wP).1; have := (gM _ wP).2.1; omega)
  obtain ⟨F1, F2, F3, F4, F5, F6, F7, F8, F9, F10, F11⟩ := gF _ wP
  have E1 := (gE _ wP).1
  have h5m := (gM _ wP).2.1
  have y0 := @b01 (0 ≤ i ∧ i ≤ allD (buildF (tP T)) - 1) inferInstance
  have y1 := @b01 (0 ≤ p ∧ p ≤ 6) inferInstance
  have bad : ∀ (M2 : Mem) (t : Int), FrL d M M2 → Mr (mRows (tP T)) M2 d → 0 < t → t = kOf [nIO, nIA] (rNear T i p) → X g m_X5_near 0 0 lay M2 34 [(0, vR d), (1, vI i), (2, vI p)] [vI t, vR d] K := by
    intro M2 t hF2 hR2 ht1 ht2
    have ht3 : t ≤ 4 := by rw [ht2]; exact kOf_le2
    refine x_puti (pc := 34) fnX5_55 dX5_near_34 hd.1 (by omega) rfl ⟨by omega, by omega⟩ ?_
    refine x_nm (fun M1 hM1 => ?_)
    obtain ⟨z1, z2a, z3, z4⟩ := mq hM1 (hT.fr hF2.n) hR2.bg
    have z2 : FrQ d M M1 := (FrQ.rf.l hF2).tr z2a
    have z5 : Mr (mRows (tP T)) M1 d := by rw [hM1]; exact hR2.m0
    refine x_aload_n (pc := 37) dX5_near_37 rfl rfl ?_
    refine x_geti (pc := 38) fX5_55 dX5_near_38 hd.1 rfl (fun r38a r38b => ?_)
    try simp (disch := omega) only [mset_same, mset_nea, mset_nei, mcopy_nea, mcopy_in, mcopy_out, Int.reduceToNat, Int.toNat_natCast, Nat.zero_add, Nat.sub_zero] at r38a r38b ⊢
    rw [z1] at r38a r38b ⊢
    refine x_if_le (pc := 41) (t := 48) dX5_near_41 (by decide) ⟨by omega, by omega⟩ (fun c41 => ?_) (fun c41 => ?_)
    · exfalso; omega
    · refine x_iconst (pc := 44) dX5_near_44 ?_
      refine x_goto (pc := 45) (t := 54) dX5_near_45 (by decide) ?_
      refine x_iret (pc := 54) dX5_near_54 rfl (by decide) (by decide) ?_
      refine k M1 _ z2 z3 z4 (by rw [z1]; exact ht2) (fun v9 hx => ?_)
      rw [hx] at ht2
      have h0 : kOf [nIO, nIA] (oI v9) = 0 := rfl
      exfalso
      omega
  have good : (0 ≤ i ∧ i ≤ allD (buildF (tP T)) - 1) → (0 ≤ p ∧ p ≤ 6) → ∀ (M2 : Mem), FrL d M M2 → Mr (mRows (tP T)) M2 d → X g m_X5_near 0 0 lay M2 34 [(0, vR d), (1, vI i), (2, vI p)] [vI 0, vR d] K := by
    intro h1 h2 M2 hF2 hR2
    refine x_puti (pc := 34) fnX5_55 dX5_near_34 hd.1 (by omega) rfl ⟨by omega, by omega⟩ ?_
    refine x_nm (fun M1 hM1 => ?_)
    obtain ⟨z1, z2a, z3, z4⟩ := mq hM1 (hT.fr hF2.n) hR2.bg
    have z2 : FrQ d M M1 := (FrQ.rf.l hF2).tr z2a
    have z5 : Mr (mRows (tP T)) M1 d := by rw [hM1]; exact hR2.m0
    refine x_aload_n (pc := 37) dX5_near_37 rfl rfl ?_
    refine x_geti (pc := 38) fX5_55 dX5_near_38 hd.1 rfl (fun r38a r38b => ?_)
    try simp (disch := omega) only [mset_same, mset_nea, mset_nei, mcopy_nea, mcopy_in, mcopy_out, Int.reduceToNat, Int.toNat_natCast, Nat.zero_add, Nat.sub_zero] at r38a r38b ⊢
    rw [z1] at r38a r38b ⊢
    refine x_if_le (pc := 41) (t := 48) dX5_near_41 (by decide) ⟨by omega, by omega⟩ (fun c41 => ?_) (fun c41 => ?_)
    · refine x_aload_n (pc := 48) dX5_near_48 rfl rfl ?_
      refine x_iload_n (pc := 49) dX5_near_49 rfl rfl ?_
      refine x_iload_n (pc := 50) dX5_near_50 rfl rfl ?_
      refine x_callV (pc := 51) [_, _] rfl kX5_258 dX5_near_51 hd.1 rfl rfl (by decide) (Nat.le_of_ble_eq_true rfl) (Nat.le_of_ble_eq_true rfl) (by decide) ?_
      obtain ⟨q, rfl⟩ := Int.eq_ofNat_of_zero_le h2.1
      refine sp_X5_nearOf hd hb0 z5 (gM _ wP).2 (by omega) ⟨by omega, by omega⟩ (fun M3 hF3 hR3 => ?_)
      refine ⟨_, rfl, ?_⟩
      refine x_iret (pc := 54) dX5_near_54 rfl (by decide) (by decide) ?_
      have hR : rNear T i (q : Nat) = oI (mNear (mRows (tP T)) i q) := by
        unfold rNear
        rw [if_neg (fun z => z ⟨by omega, by omega⟩), if_neg (fun z => z h2), Int.toNat_natCast, F5 i q (by omega) (by omega) (by omega)]
      exact k M3 _ (z2.f hF3) (z3.fr hF3.n) hR3.bg (by rw [hF3 _ _ (by omega), z1, hR]; rfl) (fun v9 hx => oI_inj (hR.symm.trans hx))
    · exfalso; omega
  refine x_aload_n (pc := 0) dX5_near_0 rfl rfl ?_
  refine x_iload_n (pc := 1) dX5_near_1 rfl rfl ?_
  refine x_iconst (pc := 2) dX5_near_2 ?_
  refine x_aload_n (pc := 3) dX5_near_3 rfl rfl ?_
  refine x_callV (pc := 4) [] rfl kX5_222 dX5_near_4 hd.1 rfl rfl (by decide) (Nat.le_of_ble_eq_true rfl) (Nat.le_of_ble_eq_true rfl) (by decide) ?_
  refine sp_X5_rootsInAll hd hb0 hB (P := tP T) (fun p hp => hP p hp) wP gM (fun M2 hF2 hR2 => ?_)
  rw [(gE _ wP).2.2]
  refine ⟨_, rfl, ?_⟩
  refine x_iconst (pc := 7) dX5_near_7 ?_
  refine x_isub (pc := 8) dX5_near_8 ?_
  refine x_callS (pc := 9) [_, _, _] rfl kX5_144 dX5_near_9 rfl (by decide) (Nat.le_of_ble_eq_true rfl) (Nat.le_of_ble_eq_true rfl) (by decide) ?_
  obtain ⟨hi1, hi2⟩ := hi
  refine sp_X5_in ⟨by omega, by omega⟩ ⟨by omega, by omega⟩ ⟨by omega, by omega⟩ ?_
  refine ⟨_, rfl, ?_⟩
  refine x_if_ne (pc := 12) (t := 19) dX5_near_12 (by decide) ⟨by omega, by omega⟩ (fun c12 => ?_) (fun c12 => ?_)
  · refine x_iload_n (pc := 19) dX5_near_19 rfl rfl ?_
    refine x_iconst (pc := 20) dX5_near_20 ?_
    refine x_bipush (pc := 21) dX5_near_21 (by decide) ?_
    refine x_callS (pc := 23) [_, _, _] rfl kX5_144 dX5_near_23 rfl (by decide) (Nat.le_of_ble_eq_true rfl) (Nat.le_of_ble_eq_true rfl) (by decide) ?_
    obtain ⟨hp1, hp2⟩ := hp
    refine sp_X5_in ⟨by omega, by omega⟩ ⟨by omega, by omega⟩ ⟨by omega, by omega⟩ ?_
    refine ⟨_, rfl, ?_⟩
    refine x_if_eq (pc := 26) (t := 33) dX5_near_26 (by decide) ⟨by omega, by omega⟩ (fun c26 => ?_) (fun c26 => ?_)
    · refine x_iconst (pc := 33) dX5_near_33 ?_
      refine X.loc [0, 1, 2] (L' := [(0, _), (1, _), (2, _)]) rfl ?_
      first
      | exact good (b1 c12) (b1 c26) M2 hF2 hR2
      | exact bad M2 1 hF2 hR2 (by omega) (by unfold rNear; rw [if_pos (fun z => b0 c12 ⟨z.1, by omega⟩)]; rfl)
      | exact bad M2 2 hF2 hR2 (by omega) (by unfold rNear; rw [if_neg (fun z => z ⟨(b1 c12).1, by have := (b1 c12).2; omega⟩), if_pos (b0 c26)]; rfl)
    · refine x_iconst (pc := 29) dX5_near_29 ?_
      refine x_goto (pc := 30) (t := 34) dX5_near_30 (by decide) ?_
      refine X.loc [0, 1, 2] (L' := [(0, _), (1, _), (2, _)]) rfl ?_
      first
      | exact good (b1 c12) (b1 c26) M2 hF2 hR2
      | exact bad M2 1 hF2 hR2 (by omega) (by unfold rNear; rw [if_pos (fun z => b0 c12 ⟨z.1, by omega⟩)]; rfl)
      | exact bad M2 2 hF2 hR2 (by omega) (by unfold rNear; rw [if_neg (fun z => z ⟨(b1 c12).1, by have := (b1 c12).2; omega⟩), if_pos (b0 c26)]; rfl)
  · refine x_iconst (pc := 15) dX5_near_15 ?_
    refine x_goto (pc := 16) (t := 34) dX5_near_16 (by decide) ?_
    refine X.loc [0, 1, 2] (L' := [(0, _), (1, _), (2, _)]) rfl ?_
    first
    | exact good (b1 c12) (b1 c26) M2 hF2 hR2
    | exact bad M2 1 hF2 hR2 (by omega) (by unfold rNear; rw [if_pos (fun z => b0 c12 ⟨z.1, by omega⟩)]; rfl)
    | exact bad M2 2 hF2 hR2 (by omega) (by unfold rNear; rw [if_neg (fun z => z ⟨(b1 c12).1, by have := (b1 c12).2; omega⟩), if_pos (b0 c26)]; rfl)
set_option maxRecDepth 100000 in
theorem sp_X5_rowDegree {g : GG} {lay : Lay} {M : Mem} {K : KK} {d : Nat} {T : CT} {i : Int} (hd : MoL lay d) (hb0 : g.2.1 ≤ d) (hT : RowT T (M (d + 1))) (hW : WfT T) (hB : ∃ N, Bg N M d) (gM : GoodM) (gE : GoodE) (gF : GoodF) (hi : i32 i) (k : ∀ (M2 : Mem) (v : Int), FrQ d M M2 → RowT T (M2 (d + 1)) → (∃ N, Bg N M2 d) → M2 d 0 = kOf [nIO] (rRowDeg T i) → (∀ v9, (rRowDeg T i) = oI v9 → v = v9) → K (.inl (some (vI v))) lay M2) : X g m_X5_rowDegree 0 0 lay M 0 [(0, vR d), (1, vI i)] [] K := by
  have hn := hW.n60
  obtain ⟨wS, wP, wN, wm, wK, wL, wO, wB⟩ := id hW
  obtain ⟨⟨hS, hN, h10, hP, hp3, hL, hK, h99, hm⟩, hO, hBo⟩ := id hT
  have had := allD_rng (s := buildF (tP T)) (by have := (gE _ wP).1; have := (gM _ wP).2.1; omega)
  obtain ⟨F1, F2, F3, F4, F5, F6, F7, F8, F9, F10, F11⟩ := gF _ wP
  have E1 := (gE _ wP).1
  have h5m := (gM _ wP).2.1
  have bad : ∀ (M2 : Mem) (t : Int), FrL d M M2 → Mr (mRows (tP T)) M2 d → 0 < t → t = kOf [nIO] (rRowDeg T i) → X g m_X5_rowDegree 0 0 lay M2 24 [(0, vR d), (1, vI i)] [vI t, vR d] K := by
    intro M2 t hF2 hR2 ht1 ht2
    have ht3 : t ≤ 4 := by rw [ht2]; exact kOf_le1
    refine x_puti (pc := 24) fnX5_55 dX5_rowDegree_24 hd.1 (by omega) rfl ⟨by omega, by omega⟩ ?_
    refine x_nm (fun M1 hM1 => ?_)
    obtain ⟨z1, z2a, z3, z4⟩ := mq hM1 (hT.fr hF2.n) hR2.bg
    have z2 : FrQ d M M1 := (FrQ.rf.l hF2).tr z2a
    have z5 : Mr (mRows (tP T)) M1 d := by rw [hM1]; exact hR2.m0
    refine x_aload_n (pc := 27) dX5_rowDegree_27 rfl rfl ?_
    refine x_geti (pc := 28) fX5_55 dX5_rowDegree_28 hd.1 rfl (fun r28a r28b => ?_)
    try simp (disch := omega) only [mset_same, mset_nea, mset_nei, mcopy_nea, mcopy_in, mcopy_out, Int.reduceToNat, Int.toNat_natCast, Nat.zero_add, Nat.sub_zero] at r28a r28b ⊢
    rw [z1] at r28a r28b ⊢
    refine x_if_le (pc := 31) (t := 38) dX5_rowDegree_31 (by decide) ⟨by omega, by omega⟩ (fun c31 => ?_) (fun c31 => ?_)
    · exfalso; omega
    · refine x_iconst (pc := 34) dX5_rowDegree_34 ?_
      refine x_goto (pc := 35) (t := 44) dX5_rowDegree_35 (by decide) ?_
      refine x_iret (pc := 44) dX5_rowDegree_44 rfl (by decide) (by decide) ?_
      refine k M1 _ z2 z3 z4 (by rw [z1]; exact ht2) (fun v9 hx => ?_)
      rw [hx] at ht2
      have h0 : kOf [nIO] (oI v9) = 0 := rfl
      exfalso
      omega
  have good : (0 ≤ i ∧ i ≤ ((buildF (tP T)).1 : Int) - 1) → ∀ (M2 : Mem), FrL d M M2 → Mr (mRows (tP T)) M2 d → X g m_X5_rowDegree 0 0 lay M2 24 [(0, vR d), (1, vI i)] [vI 0, vR d] K := by
    intro h1 M2 hF2 hR2
    refine x_puti (pc := 24) fnX5_55 dX5_rowDegree_24 hd.1 (by omega) rfl ⟨by omega, by omega⟩ ?_
    refine x_nm (fun M1 hM1 => ?_)
    obtain ⟨z1, z2a, z3, z4⟩ := mq hM1 (hT.fr hF2.n) hR2.bg
    have z2 : FrQ d M M1 := (FrQ.rf.l hF2).tr z2a
    have z5 : Mr (mRows (tP T)) M1 d := by rw [hM1]; exact hR2.m0
    refine x_aload_n (pc := 27) dX5_rowDegree_27 rfl rfl ?_
    refine x_geti (pc := 28) fX5_55 dX5_rowDegree_28 hd.1 rfl (fun r28a r28b => ?_)
    try simp (disch := omega) only [mset_same, mset_nea, mset_nei, mcopy_nea, mcopy_in, mcopy_out, Int.reduceToNat, Int.toNat_natCast, Nat.zero_add, Nat.sub_zero] at r28a r28b ⊢
    rw [z1] at r28a r28b ⊢
    refine x_if_le (pc := 31) (t := 38) dX5_rowDegree_31 (by decide) ⟨by omega, by omega⟩ (fun c31 => ?_) (fun c31 => ?_)
    · refine x_aload_n (pc := 38) dX5_rowDegree_38 rfl rfl ?_
      refine x_getr (pc := 39) (b := d + 8) fX5_32 dX5_rowDegree_39 hd.1 rfl rfl ?_
      refine x_iload_n (pc := 42) dX5_rowDegree_42 rfl rfl ?_
      obtain ⟨q, rfl⟩ := Int.eq_ofNat_of_zero_le h1.1
      refine x_iald (pc := 43) dX5_rowDegree_43 hd.2.2.2.2.2.2.2.2.1 (by omega) (by omega) (fun r43a r43b => ?_)
      try simp (disch := omega) only [mset_same, mset_nea, mset_nei, mcopy_nea, mcopy_in, mcopy_out, Int.reduceToNat, Int.toNat_natCast, Nat.zero_add, Nat.sub_zero] at r43a r43b ⊢
      have hdg : M1 (d + 8) q = ((mRows (tP T)).2.2 q : Int) := z5.elim (fun _ h => (h.2.2 q (by omega)).1)
      rw [hdg, F1 q (by omega)] at r43a r43b ⊢
      refine x_iret (pc := 44) dX5_rowDegree_44 rfl (by decide) (by decide) ?_
      have hR : rRowDeg T (q : Nat) = oI ((buildF (tP T)).2.2 q) := by
        unfold rRowDeg
        rw [if_neg (fun z => z ⟨by omega, by omega⟩), Int.toNat_natCast]
      exact k M1 _ z2 z3 z4 (by rw [z1, hR]; rfl) (fun v9 hx => oI_inj (hR.symm.trans hx))
    · exfalso; omega
  refine x_aload_n (pc := 0) dX5_rowDegree_0 rfl rfl ?_
  refine x_callV (pc := 1) [] rfl kX5_126 dX5_rowDegree_1 hd.1 rfl rfl (by decide) (Nat.le_of_ble_eq_true rfl) (Nat.le_of_ble_eq_true rfl) (by decide) ?_
  refine sp_X5_laysRows hd hb0 hB hP (fun p _ => by have := wP p; omega) (gM _ wP).1 (fun M2 hF2 hR2 => ?_)
  have h9 : M2 d 9 = ((buildF (tP T)).1 : Int) := by rw [← E1]; exact hR2.elim (fun _ h => h.2.1)
  refine ⟨_, rfl, ?_⟩
  refine x_aload_n (pc := 4) dX5_rowDegree_4 rfl rfl ?_
  refine x_iload_n (pc := 5) dX5_rowDegree_5 rfl rfl ?_
  refine x_iconst (pc := 6) dX5_rowDegree_6 ?_
  refine x_aload_n (pc := 7) dX5_rowDegree_7 rfl rfl ?_
  refine x_geti (pc := 8) fX5_106 dX5_rowDegree_8 hd.1 rfl (fun r8a r8b => ?_)
  rw [h9] at r8a r8b ⊢
  refine x_iconst (pc := 11) dX5_rowDegree_11 ?_
  refine x_isub (pc := 12) dX5_rowDegree_12 ?_
  refine x_callS (pc := 13) [_, _, _] rfl kX5_144 dX5_rowDegree_13 rfl (by decide) (Nat.le_of_ble_eq_true rfl) (Nat.le_of_ble_eq_true rfl) (by decide) ?_
  have y0 := @b01 (0 ≤ i ∧ i ≤ ((buildF (tP T)).1 : Int) - 1) inferInstance
  obtain ⟨hi1, hi2⟩ := hi
  refine sp_X5_in ⟨by omega, by omega⟩ ⟨by omega, by omega⟩ ⟨by omega, by omega⟩ ?_
  refine ⟨_, rfl, ?_⟩
  refine x_if_eq (pc := 16) (t := 23) dX5_rowDegree_16 (by decide) ⟨by omega, by omega⟩ (fun c16 => ?_) (fun c16 => ?_)
  · refine x_iconst (pc := 23) dX5_rowDegree_23 ?_
    refine X.loc [0, 1] (L' := [(0, _), (1, _)]) rfl ?_
    first
    | exact good (b1 c16) M2 hF2 hR2
    | exact bad M2 1 hF2 hR2 (by omega) (by unfold rRowDeg; rw [if_pos (fun z => b0 c16 ⟨z.1, by omega⟩)]; rfl)
  · refine x_iconst (pc := 19) dX5_rowDegree_19 ?_
    refine x_goto (pc := 20) (t := 24) dX5_rowDegree_20 (by decide) ?_
    refine X.loc [0, 1] (L' := [(0, _), (1, _)]) rfl ?_
    first
    | exact good (b1 c16) M2 hF2 hR2
    | exact bad M2 1 hF2 hR2 (by omega) (by unfold rRowDeg; rw [if_pos (fun z => b0 c16 ⟨z.1, by omega⟩)]; rfl)
set_option maxRecDepth 100000 in
theorem sp_X5_rowSign {g : GG} {lay : Lay} {M : Mem} {K : KK} {d : Nat} {T : CT} {i x : Int} (hd : MoL lay d) (hb0 : g.2.1 ≤ d) (hT : RowT T (M (d + 1))) (hW : WfT T) (hB : ∃ N, Bg N M d) (gM : GoodM) (gE : GoodE) (gF : GoodF) (hi : i32 i) (hx : i32 x) (k : ∀ (M2 : Mem) (v : Int), FrQ d M M2 → RowT T (M2 (d + 1)) → (∃ N, Bg N M2 d) → M2 d 0 = kOf [nIO, nIA] (rRowSign T i x) → (∀ v9, (rRowSign T i x) = oI v9 → v = v9) → K (.inl (some (vI v))) lay M2) : X g m_X5_rowSign 0 0 lay M 0 [(0, vR d), (1, vI i), (2, vI x)] [] K := by
  have hn := hW.n60
  obtain ⟨wS, wP, wN, wm, wK, wL, wO, wB⟩ := id hW
  obtain ⟨⟨hS, hN, h10, hP, hp3, hL, hK, h99, hm⟩, hO, hBo⟩ := id hT
  have had := allD_rng (s := buildF (tP T)) (by have := (gE _ wP).1; have := (gM _ wP).2.1; omega)
  obtain ⟨F1, F2, F3, F4, F5, F6, F7, F8, F9, F10, F11⟩ := gF _ wP
  have E1 := (gE _ wP).1
  have h5m := (gM _ wP).2.1
  have y1 := @b01 (placeP x) inferInstance
  have bad : ∀ (M2 : Mem) (t : Int), FrL d M M2 → Mr (mRows (tP T)) M2 d → 0 < t → t = kOf [nIO, nIA] (rRowSign T i x) → X g m_X5_rowSign 0 0 lay M2 35 [(0, vR d), (1, vI i), (2, vI x)] [vI t, vR d] K := by
    intro M2 t hF2 hR2 ht1 ht2
    have ht3 : t ≤ 4 := by rw [ht2]; exact kOf_le2
    refine x_puti (pc := 35) fnX5_55 dX5_rowSign_35 hd.1 (by omega) rfl ⟨by omega, by omega⟩ ?_
    refine x_nm (fun M1 hM1 => ?_)
    obtain ⟨z1, z2a, z3, z4⟩ := mq hM1 (hT.fr hF2.n) hR2.bg
    have z2 : FrQ d M M1 := (FrQ.rf.l hF2).tr z2a
    have z5 : Mr (mRows (tP T)) M1 d := by rw [hM1]; exact hR2.m0
    refine x_aload_n (pc := 38) dX5_rowSign_38 rfl rfl ?_
    refine x_geti (pc := 39) fX5_55 dX5_rowSign_39 hd.1 rfl (fun r39a r39b => ?_)
    try simp (disch := omega) only [mset_same, mset_nea, mset_nei, mcopy_nea, mcopy_in, mcopy_out, Int.reduceToNat, Int.toNat_natCast, Nat.zero_add, Nat.sub_zero] at r39a r39b ⊢
    rw [z1] at r39a r39b ⊢
    refine x_if_le (pc := 42) (t := 49) dX5_rowSign_42 (by decide) ⟨by omega, by omega⟩ (fun c42 => ?_) (fun c42 => ?_)
    · exfalso; omega
    · refine x_iconst (pc := 45) dX5_rowSign_45 ?_
      refine x_goto (pc := 46) (t := 57) dX5_rowSign_46 (by decide) ?_
      refine x_iret (pc := 57) dX5_rowSign_57 rfl (by decide) (by decide) ?_
      refine k M1 _ z2 z3 z4 (by rw [z1]; exact ht2) (fun v9 hx => ?_)
      rw [hx] at ht2
      have h0 : kOf [nIO, nIA] (oI v9) = 0 := rfl
      exfalso
      omega
  have good : (0 ≤ i ∧ i ≤ ((buildF (tP T)).1 : Int) - 1) → placeP x → ∀ (M2 : Mem), FrL d M M2 → Mr (mRows (tP T)) M2 d → X g m_X5_rowSign 0 0 lay M2 35 [(0, vR d), (1, vI i), (2, vI x)] [vI 0, vR d] K := by
    intro h1 h2 M2 hF2 hR2
    refine x_puti (pc := 35) fnX5_55 dX5_rowSign_35 hd.1 (by omega) rfl ⟨by omega, by omega⟩ ?_
    refine x_nm (fun M1 hM1 => ?_)
    obtain ⟨z1, z2a, z3, z4⟩ := mq hM1 (hT.fr hF2.n) hR2.bg
    have z2 : FrQ d M M1 := (FrQ.rf.l hF2).tr z2a
    have z5 : Mr (mRows (tP T)) M1 d := by rw [hM1]; exact hR2.m0
    refine x_aload_n (pc := 38) dX5_rowSign_38 rfl rfl ?_
    refine x_geti (pc := 39) fX5_55 dX5_rowSign_39 hd.1 rfl (fun r39a r39b => ?_)
    try simp (disch := omega) only [mset_same, mset_nea, mset_nei, mcopy_nea, mcopy_in, mcopy_out, Int.reduceToNat, Int.toNat_natCast, Nat.zero_add, Nat.sub_zero] at r39a r39b ⊢
    rw [z1] at r39a r39b ⊢
    refine x_if_le (pc := 42) (t := 49) dX5_rowSign_42 (by decide) ⟨by omega, by omega⟩ (fun c42 => ?_) (fun c42 => ?_)
    · refine x_aload_n (pc := 49) dX5_rowSign_49 rfl rfl ?_
      refine x_iload_n (pc := 50) dX5_rowSign_50 rfl rfl ?_
      refine x_iload_n (pc := 51) dX5_rowSign_51 rfl rfl ?_
      refine x_iconst (pc := 52) dX5_rowSign_52 ?_
      refine x_iconst (pc := 53) dX5_rowSign_53 ?_
      refine x_callV (pc := 54) [_, _, _, _] rfl kX5_118 dX5_rowSign_54 hd.1 rfl rfl (by decide) (Nat.le_of_ble_eq_true rfl) (Nat.le_of_ble_eq_true rfl) (by decide) ?_
      obtain ⟨q, rfl⟩ := Int.eq_ofNat_of_zero_le h1.1
      refine sp_X5_signAt (p9 := 0) (y9 := 0) hd hb0 z5 (gM _ wP).2 (by omega) (by omega) (by omega) (by omega) (fun M3 hF3 hR3 => ?_)
      rw [if_neg (show ¬ (0 : Int) = 1 by omega), F2 q x (by omega) h2.1 h2.2]
      refine ⟨_, rfl, ?_⟩
      refine x_iret (pc := 57) dX5_rowSign_57 rfl (by decide) (by decide) ?_
      have hR : rRowSign T (q : Nat) x = oI (sg (valF ((buildF (tP T)).2.1 q) x 5)) := by
        unfold rRowSign
        rw [if_neg (fun z => z ⟨by omega, by omega⟩), if_neg (fun z => z h2), Int.toNat_natCast]
      exact k M3 _ (z2.f hF3) (z3.fr hF3.n) hR3.bg (by rw [hF3 _ _ (by omega), z1, hR]; rfl) (fun v9 hx => oI_inj (hR.symm.trans hx))
    · exfalso; omega
  refine x_aload_n (pc := 0) dX5_rowSign_0 rfl rfl ?_
  refine x_callV (pc := 1) [] rfl kX5_126 dX5_rowSign_1 hd.1 rfl rfl (by decide) (Nat.le_of_ble_eq_true rfl) (Nat.le_of_ble_eq_true rfl) (by decide) ?_
  refine sp_X5_laysRows hd hb0 hB hP (fun p _ => by have := wP p; omega) (gM _ wP).1 (fun M2 hF2 hR2 => ?_)
  have h9 : M2 d 9 = ((buildF (tP T)).1 : Int) := by rw [← E1]; exact hR2.elim (fun _ h => h.2.1)
  refine ⟨_, rfl, ?_⟩
  refine x_aload_n (pc := 4) dX5_rowSign_4 rfl rfl ?_
  refine x_iload_n (pc := 5) dX5_rowSign_5 rfl rfl ?_
  refine x_iconst (pc := 6) dX5_rowSign_6 ?_
  refine x_aload_n (pc := 7) dX5_rowSign_7 rfl rfl ?_
  refine x_geti (pc := 8) fX5_106 dX5_rowSign_8 hd.1 rfl (fun r8a r8b => ?_)
  rw [h9] at r8a r8b ⊢
  refine x_iconst (pc := 11) dX5_rowSign_11 ?_
  refine x_isub (pc := 12) dX5_rowSign_12 ?_
  refine x_callS (pc := 13) [_, _, _] rfl kX5_144 dX5_rowSign_13 rfl (by decide) (Nat.le_of_ble_eq_true rfl) (Nat.le_of_ble_eq_true rfl) (by decide) ?_
  have y0 := @b01 (0 ≤ i ∧ i ≤ ((buildF (tP T)).1 : Int) - 1) inferInstance
  obtain ⟨hi1, hi2⟩ := hi
  refine sp_X5_in ⟨by omega, by omega⟩ ⟨by omega, by omega⟩ ⟨by omega, by omega⟩ ?_
  refine ⟨_, rfl, ?_⟩
  refine x_if_ne (pc := 16) (t := 23) dX5_rowSign_16 (by decide) ⟨by omega, by omega⟩ (fun c16 => ?_) (fun c16 => ?_)
  · refine x_iload_n (pc := 23) dX5_rowSign_23 rfl rfl ?_
    refine x_callS (pc := 24) [_] rfl kX5_252 dX5_rowSign_24 rfl (by decide) (Nat.le_of_ble_eq_true rfl) (Nat.le_of_ble_eq_true rfl) (by decide) ?_
    refine sp_X5_isPlace hx ?_
    refine ⟨_, rfl, ?_⟩
    refine x_if_eq (pc := 27) (t := 34) dX5_rowSign_27 (by decide) ⟨by omega, by omega⟩ (fun c27 => ?_) (fun c27 => ?_)
    · refine x_iconst (pc := 34) dX5_rowSign_34 ?_
      refine X.loc [0, 1, 2] (L' := [(0, _), (1, _), (2, _)]) rfl ?_
      first
      | exact good (b1 c16) (b1 c27) M2 hF2 hR2
      | exact bad M2 1 hF2 hR2 (by omega) (by unfold rRowSign; rw [if_pos (fun z => b0 c16 ⟨z.1, by omega⟩)]; rfl)
      | exact bad M2 2 hF2 hR2 (by omega) (by unfold rRowSign; rw [if_neg (fun z => z ⟨(b1 c16).1, by have := (b1 c16).2; omega⟩), if_pos (b0 c27)]; rfl)
    · refine x_iconst (pc := 30) dX5_rowSign_30 ?_
      refine x_goto (pc := 31) (t := 35) dX5_rowSign_31 (by decide) ?_
      refine X.loc [0, 1, 2] (L' := [(0, _), (1, _), (2, _)]) rfl ?_
      first
      | exact good (b1 c16) (b1 c27) M2 hF2 hR2
      | exact bad M2 1 hF2 hR2 (by omega) (by unfold rRowSign; rw [if_pos (fun z => b0 c16 ⟨z.1, by omega⟩)]; rfl)
      | exact bad M2 2 hF2 hR2 (by omega) (by unfold rRowSign; rw [if_neg (fun z => z ⟨(b1 c16).1, by have := (b1 c16).2; omega⟩), if_pos (b0 c27)]; rfl)
  · refine x_iconst (pc := 19) dX5_rowSign_19 ?_
    refine x_goto (pc := 20) (t := 35) dX5_rowSign_20 (by decide) ?_
    refine X.loc [0, 1, 2] (L' := [(0, _), (1, _), (2, _)]) rfl ?_
    first
    | exact good (b1 c16) (b1 c27) M2 hF2 hR2
    | exact bad M2 1 hF2 hR2 (by omega) (by unfold rRowSign; rw [if_pos (fun z => b0 c16 ⟨z.1, by omega⟩)]; rfl)
    | exact bad M2 2 hF2 hR2 (by omega) (by unfold rRowSign; rw [if_neg (fun z => z ⟨(b1 c16).1, by have := (b1 c16).2; omega⟩), if_pos (b0 c27)]; rfl)
set_option maxRecDepth 100000 in
theorem sp_X5_changes {g : GG} {lay : Lay} {M : Mem} {K : KK} {d : Nat} {T : CT} {r x : Int} (hd : MoL lay d) (hb0 : g.2.1 ≤ d) (hT : RowT T (M (d + 1))) (hW : WfT T) (hB : ∃ N, Bg N M d) (gM : GoodM) (gE : GoodE) (gF : GoodF) (hr : i32 r) (hx : i32 x) (k : ∀ (M2 : Mem) (v : Int), FrQ d M M2 → RowT T (M2 (d + 1)) → (∃ N, Bg N M2 d) → M2 d 0 = kOf [nIA] (rChanges T r x) → (∀ v9, (rChanges T r x) = oI v9 → v = v9) → K (.inl (some (vI v))) lay M2) : X g m_X5_changes 0 0 lay M 0 [(0, vR d), (1, vI r), (2, vI x)] [] K := by
  have hn := hW.n60
  obtain ⟨wS, wP, wN, wm, wK, wL, wO, wB⟩ := id hW
  obtain ⟨⟨hS, hN, h10, hP, hp3, hL, hK, h99, hm⟩, hO, hBo⟩ := id hT
  have had := allD_rng (s := buildF (tP T)) (by have := (gE _ wP).1; have := (gM _ wP).2.1; omega)
  obtain ⟨F1, F2, F3, F4, F5, F6, F7, F8, F9, F10, F11⟩ := gF _ wP
  have E1 := (gE _ wP).1
  have h5m := (gM _ wP).2.1
  have y0 := @b01 (1 ≤ r ∧ r ≤ 2) inferInstance
  have y1 := @b01 (placeP x) inferInstance
  have bad : ∀ t : Int, 0 < t → t = kOf [nIA] (rChanges T r x) → X g m_X5_changes 0 0 lay M 22 [(0, vR d), (1, vI r), (2, vI x)] [vI t, vR d] K := by
    intro t ht1 ht2
    have ht3 : t ≤ 4 := by rw [ht2]; exact kOf_le1
    refine x_puti (pc := 22) fnX5_55 dX5_changes_22 hd.1 (by omega) rfl ⟨by omega, by omega⟩ ?_
    refine x_nm (fun M1 hM1 => ?_)
    obtain ⟨z1, z2, z3, z4⟩ := mq hM1 hT hB
    refine x_aload_n (pc := 25) dX5_changes_25 rfl rfl ?_
    refine x_geti (pc := 26) fX5_55 dX5_changes_26 hd.1 rfl (fun r26a r26b => ?_)
    try simp (disch := omega) only [mset_same, mset_nea, mset_nei, mcopy_nea, mcopy_in, mcopy_out, Int.reduceToNat, Int.toNat_natCast, Nat.zero_add, Nat.sub_zero] at r26a r26b ⊢
    rw [z1] at r26a r26b ⊢
    refine x_if_le (pc := 29) (t := 34) dX5_changes_29 (by decide) ⟨by omega, by omega⟩ (fun c29 => ?_) (fun c29 => ?_)
    · exfalso; omega
    · refine x_iconst (pc := 32) dX5_changes_32 ?_
      refine x_iret (pc := 33) dX5_changes_33 rfl (by decide) (by decide) ?_
      refine k M1 _ z2 z3 z4 (by rw [z1]; exact ht2) (fun v9 hx => ?_)
      rw [hx] at ht2
      have h0 : kOf [nIA] (oI v9) = 0 := rfl
      exfalso
      omega
  have good : ((1 ≤ r ∧ r ≤ 2) ∧ placeP x) → X g m_X5_changes 0 0 lay M 22 [(0, vR d), (1, vI r), (2, vI x)] [vI 0, vR d] K := by
    intro h1
    refine x_puti (pc := 22) fnX5_55 dX5_changes_22 hd.1 (by omega) rfl ⟨by omega, by omega⟩ ?_
    refine x_nm (fun M1 hM1 => ?_)
    obtain ⟨z1, z2, z3, z4⟩ := mq hM1 hT hB
    refine x_aload_n (pc := 25) dX5_changes_25 rfl rfl ?_
    refine x_geti (pc := 26) fX5_55 dX5_changes_26 hd.1 rfl (fun r26a r26b => ?_)
    try simp (disch := omega) only [mset_same, mset_nea, mset_nei, mcopy_nea, mcopy_in, mcopy_out, Int.reduceToNat, Int.toNat_natCast, Nat.zero_add, Nat.sub_zero] at r26a r26b ⊢
    rw [z1] at r26a r26b ⊢
    refine x_if_le (pc := 29) (t := 34) dX5_changes_29 (by decide) ⟨by omega, by omega⟩ (fun c29 => ?_) (fun c29 => ?_)
    · refine x_iload_n (pc := 34) dX5_changes_34 rfl rfl ?_
      refine x_iconst (pc := 35) dX5_changes_35 ?_
      refine x_icmp_ne (pc := 36) (t := 45) dX5_changes_36 (by decide) ⟨by omega, by omega⟩ ⟨by omega, by omega⟩ (fun c36 => ?_) (fun c36 => ?_)
      · refine x_aload_n (pc := 45) dX5_changes_45 rfl rfl ?_
        refine x_callV (pc := 46) [] rfl kX5_126 dX5_changes_46 hd.1 rfl rfl (by decide) (Nat.le_of_ble_eq_true rfl) (Nat.le_of_ble_eq_true rfl) (by decide) ?_
        refine sp_X5_laysRows hd hb0 z4 z3.1.2.2.2.1 (fun p _ => by have := wP p; omega) (gM _ wP).1 (fun M2 hF2 hR2 => ?_)
        refine ⟨_, rfl, ?_⟩
        refine x_aload_n (pc := 49) dX5_changes_49 rfl rfl ?_
        refine x_iload_n (pc := 50) dX5_changes_50 rfl rfl ?_
        refine x_iconst (pc := 51) dX5_changes_51 ?_
        refine x_iconst (pc := 52) dX5_changes_52 ?_
        refine x_callV (pc := 53) [_, _, _] rfl kX5_122 dX5_changes_53 hd.1 rfl rfl (by decide) (Nat.le_of_ble_eq_true rfl) (Nat.le_of_ble_eq_true rfl) (by decide) ?_
        refine sp_X5_changesAt (p9 := 0) (y9 := 0) hd hb0 hR2 (gM _ wP).2 (by omega) (by omega) (by omega) (fun M3 hF3 hR3 => ?_)
        rw [F3 x h1.2.1 h1.2.2]
        refine ⟨_, rfl, ?_⟩
        refine x_iret (pc := 56) dX5_changes_56 rfl (by decide) (by decide) ?_
        have hR : rChanges T r x = oI ((chZ (fun q => sg (valF ((buildF (tP T)).2.1 q) x 5)) (buildF (tP T)).1).1) := by
          unfold rChanges
          rw [if_neg (fun z => z h1), if_neg (by omega)]
        exact k M3 _ ((z2.l hF2).f hF3) ((z3.fr hF2.n).fr hF3.n) hR3.bg (by rw [hF3 _ _ (by omega), hF2 _ _ (by omega) (by omega) (by omega), z1, hR]; rfl) (fun v9 hx => oI_inj (hR.symm.trans hx))
      · refine x_aload_n (pc := 39) dX5_changes_39 rfl rfl ?_
        refine x_iload_n (pc := 40) dX5_changes_40 rfl rfl ?_
        refine x_callV (pc := 41) [_] rfl kX5_263 dX5_changes_41 hd.1 rfl rfl (by decide) (Nat.le_of_ble_eq_true rfl) (Nat.le_of_ble_eq_true rfl) (by decide) ?_
        refine sp_X5_secondChanges hd hb0 z3 hW h1.2 ?_
        rw [F8 x h1.2.1 h1.2.2]
        refine ⟨_, rfl, ?_⟩
        refine x_iret (pc := 44) dX5_changes_44 rfl (by decide) (by decide) ?_
        have hR : rChanges T r x = oI ((chZ (fun i => sg (shP (tP T) x i)) 5).1) := by
          unfold rChanges derCh
          rw [if_neg (fun z => z h1), if_pos (by omega)]
        exact k M1 _ z2 z3 z4 (by rw [z1, hR]; rfl) (fun v9 hx => oI_inj (hR.symm.trans hx))
    · exfalso; omega
  refine x_aload_n (pc := 0) dX5_changes_0 rfl rfl ?_
  refine x_iload_n (pc := 1) dX5_changes_1 rfl rfl ?_
  refine x_iconst (pc := 2) dX5_changes_2 ?_
  refine x_iconst (pc := 3) dX5_changes_3 ?_
  refine x_callS (pc := 4) [_, _, _] rfl kX5_144 dX5_changes_4 rfl (by decide) (Nat.le_of_ble_eq_true rfl) (Nat.le_of_ble_eq_true rfl) (by decide) ?_
  obtain ⟨hr1, hr2⟩ := hr
  refine sp_X5_in ⟨by omega, by omega⟩ ⟨by omega, by omega⟩ ⟨by omega, by omega⟩ ?_
  refine ⟨_, rfl, ?_⟩
  refine x_if_eq (pc := 7) (t := 21) dX5_changes_7 (by decide) ⟨by omega, by omega⟩ (fun c7 => ?_) (fun c7 => ?_)
  · refine x_iconst (pc := 21) dX5_changes_21 ?_
    refine X.loc [0, 1, 2] (L' := [(0, _), (1, _), (2, _)]) rfl ?_
    first
    | exact good ⟨b1 c7, b1 c14⟩
    | exact bad 1 (by omega) (by unfold rChanges; rw [if_pos (fun z => b0 c7 z.1)]; rfl)
    | exact bad 1 (by omega) (by unfold rChanges; rw [if_pos (fun z => b0 c14 z.2)]; rfl)
  · refine x_iload_n (pc := 10) dX5_changes_10 rfl rfl ?_
    refine x_callS (pc := 11) [_] rfl kX5_252 dX5_changes_11 rfl (by decide) (Nat.le_of_ble_eq_true rfl) (Nat.le_of_ble_eq_true rfl) (by decide) ?_
    refine sp_X5_isPlace hx ?_
    refine ⟨_, rfl, ?_⟩
    refine x_if_eq (pc := 14) (t := 21) dX5_changes_14 (by decide) ⟨by omega, by omega⟩ (fun c14 => ?_) (fun c14 => ?_)
    · refine x_iconst (pc := 21) dX5_changes_21 ?_
      refine X.loc [0, 1, 2] (L' := [(0, _), (1, _), (2, _)]) rfl ?_
      first
      | exact good ⟨b1 c7, b1 c14⟩
      | exact bad 1 (by omega) (by unfold rChanges; rw [if_pos (fun z => b0 c7 z.1)]; rfl)
      | exact bad 1 (by omega) (by unfold rChanges; rw [if_pos (fun z => b0 c14 z.2)]; rfl)
    · refine x_iconst (pc := 17) dX5_changes_17 ?_
      refine x_goto (pc := 18) (t := 22) dX5_changes_18 (by decide) ?_
      refine X.loc [0, 1, 2] (L' := [(0, _), (1, _), (2, _)]) rfl ?_
      first
      | exact good ⟨b1 c7, b1 c14⟩
      | exact bad 1 (by omega) (by unfold rChanges; rw [if_pos (fun z => b0 c7 z.1)]; rfl)
      | exact bad 1 (by omega) (by unfold rChanges; rw [if_pos (fun z => b0 c14 z.2)]; rfl)
set_option maxRecDepth 100000 in
theorem sp_X5_rootsOfSign {g : GG} {lay : Lay} {M : Mem} {K : KK} {d : Nat} {T : CT} {x : Int} (hd : MoL lay d) (hb0 : g.2.1 ≤ d) (hT : RowT T (M (d + 1))) (hW : WfT T) (hB : ∃ N, Bg N M d) (gM : GoodM) (gE : GoodE) (gF : GoodF) (hx : i32 x) (k : ∀ (M2 : Mem) (v : Int), FrQ d M M2 → RowT T (M2 (d + 1)) → (∃ N, Bg N M2 d) → M2 d 0 = kOf [nIA] (rOfSgn T x) → (∀ v9, (rOfSgn T x) = oI v9 → v = v9) → K (.inl (some (vI v))) lay M2) : X g m_X5_rootsOfSign 0 0 lay M 0 [(0, vR d), (1, vI x)] [] K := by
  have hn := hW.n60
  obtain ⟨wS, wP, wN, wm, wK, wL, wO, wB⟩ := id hW
  obtain ⟨⟨hS, hN, h10, hP, hp3, hL, hK, h99, hm⟩, hO, hBo⟩ := id hT
  have had := allD_rng (s := buildF (tP T)) (by have := (gE _ wP).1; have := (gM _ wP).2.1; omega)
  obtain ⟨F1, F2, F3, F4, F5, F6, F7, F8, F9, F10, F11⟩ := gF _ wP
  have E1 := (gE _ wP).1
  have h5m := (gM _ wP).2.1
  have y0 := @b01 (-1 ≤ x ∧ x ≤ 1) inferInstance
  have bad : ∀ t : Int, 0 < t → t = kOf [nIA] (rOfSgn T x) → X g m_X5_rootsOfSign 0 0 lay M 15 [(0, vR d), (1, vI x)] [vI t, vR d] K := by
    intro t ht1 ht2
    have ht3 : t ≤ 4 := by rw [ht2]; exact kOf_le1
    refine x_puti (pc := 15) fnX5_55 dX5_rootsOfSign_15 hd.1 (by omega) rfl ⟨by omega, by omega⟩ ?_
    refine x_nm (fun M1 hM1 => ?_)
    obtain ⟨z1, z2, z3, z4⟩ := mq hM1 hT hB
    refine x_aload_n (pc := 18) dX5_rootsOfSign_18 rfl rfl ?_
    refine x_geti (pc := 19) fX5_55 dX5_rootsOfSign_19 hd.1 rfl (fun r19a r19b => ?_)
    try simp (disch := omega) only [mset_same, mset_nea, mset_nei, mcopy_nea, mcopy_in, mcopy_out, Int.reduceToNat, Int.toNat_natCast, Nat.zero_add, Nat.sub_zero] at r19a r19b ⊢
    rw [z1] at r19a r19b ⊢
    refine x_if_le (pc := 22) (t := 27) dX5_rootsOfSign_22 (by decide) ⟨by omega, by omega⟩ (fun c22 => ?_) (fun c22 => ?_)
    · exfalso; omega
    · refine x_iconst (pc := 25) dX5_rootsOfSign_25 ?_
      refine x_iret (pc := 26) dX5_rootsOfSign_26 rfl (by decide) (by decide) ?_
      refine k M1 _ z2 z3 z4 (by rw [z1]; exact ht2) (fun v9 hx => ?_)
      rw [hx] at ht2
      have h0 : kOf [nIA] (oI v9) = 0 := rfl
      exfalso
      omega
  have good : (-1 ≤ x ∧ x ≤ 1) → X g m_X5_rootsOfSign 0 0 lay M 15 [(0, vR d), (1, vI x)] [vI 0, vR d] K := by
    intro h1
    refine x_puti (pc := 15) fnX5_55 dX5_rootsOfSign_15 hd.1 (by omega) rfl ⟨by omega, by omega⟩ ?_
    refine x_nm (fun M1 hM1 => ?_)
    obtain ⟨z1, z2, z3, z4⟩ := mq hM1 hT hB
    refine x_aload_n (pc := 18) dX5_rootsOfSign_18 rfl rfl ?_
    refine x_geti (pc := 19) fX5_55 dX5_rootsOfSign_19 hd.1 rfl (fun r19a r19b => ?_)
    try simp (disch := omega) only [mset_same, mset_nea, mset_nei, mcopy_nea, mcopy_in, mcopy_out, Int.reduceToNat, Int.toNat_natCast, Nat.zero_add, Nat.sub_zero] at r19a r19b ⊢
    rw [z1] at r19a r19b ⊢
    refine x_if_le (pc := 22) (t := 27) dX5_rootsOfSign_22 (by decide) ⟨by omega, by omega⟩ (fun c22 => ?_) (fun c22 => ?_)
    · refine x_aload_n (pc := 27) dX5_rootsOfSign_27 rfl rfl ?_
      refine x_callV (pc := 28) [] rfl kX5_222 dX5_rootsOfSign_28 hd.1 rfl rfl (by decide) (Nat.le_of_ble_eq_true rfl) (Nat.le_of_ble_eq_true rfl) (by decide) ?_
      refine sp_X5_rootsInAll hd hb0 z4 (P := tP T) (fun p hp => z3.1.2.2.2.1 p hp) wP gM (fun M2 hF2 hR2 => ?_)
      refine ⟨_, rfl, ?_⟩
      refine x_istore_n (pc := 31) dX5_rootsOfSign_31 rfl (by decide) (L' := [(2, _), (0, _), (1, _)]) rfl ?_
      have hal : mAll (mRows (tP T)) = (if (buildF (tP T)).1 = 0 then -1 else cUp (buildF (tP T)) (-31) 0 - cUp (buildF (tP T)) 31 0) := (gE _ wP).2.2
      have c31 := cUp_rng (buildF (tP T)) (-31) 0
      have c32 := cUp_rng (buildF (tP T)) 31 0
      have c00 := cUp_rng (buildF (tP T)) 0 0
      have hg1 : 0 < (buildF (tP T)).1 → 0 ≤ cUp (buildF (tP T)) (-31) 0 - cUp (buildF (tP T)) 31 0 := fun z => by have h := F10 z; unfold allD at h; rw [if_neg (by omega)] at h; exact h
      have hmc := (gE _ wP).2.1 0 (by omega) (by omega)
      have h0P : M2 (d + 1) 11 = tP T 0 := by rw [hF2.n]; exact z3.1.2.2.2.1 0 (by omega)
      rw [hal]
      clear hal
      refine x_iload_n (pc := 32) dX5_rootsOfSign_32 rfl rfl ?_
      refine x_iconst (pc := 33) dX5_rootsOfSign_33 ?_
      refine x_icmp_ne (pc := 34) (t := 39) dX5_rootsOfSign_34 (by decide) ⟨by omega, by omega⟩ ⟨by omega, by omega⟩ (fun c34 => ?_) (fun c34 => ?_)
      · refine x_aload_n (pc := 39) dX5_rootsOfSign_39 rfl rfl ?_
        refine x_getr (pc := 40) (b := d + 1) fX5_7 dX5_rootsOfSign_40 hd.1 rfl rfl ?_
        refine x_bipush (pc := 43) dX5_rootsOfSign_43 (by decide) ?_
        refine x_iald (pc := 45) dX5_rootsOfSign_45 hd.2.1 (by omega) (by omega) (fun r45a r45b => ?_)
        try simp (disch := omega) only [mset_same, mset_nea, mset_nei, mcopy_nea, mcopy_in, mcopy_out, Int.reduceToNat, Int.toNat_natCast, Nat.zero_add, Nat.sub_zero] at r45a r45b ⊢
        rw [h0P] at r45a r45b ⊢
        refine x_if_ne (pc := 46) (t := 53) dX5_rootsOfSign_46 (by decide) ⟨by omega, by omega⟩ (fun c46 => ?_) (fun c46 => ?_)
        · refine x_iconst (pc := 53) dX5_rootsOfSign_53 ?_
          refine x_istore_n (pc := 54) dX5_rootsOfSign_54 rfl (by decide) (L' := [(3, _), (2, _), (0, _), (1, _)]) rfl ?_
          refine x_aload_n (pc := 55) dX5_rootsOfSign_55 rfl rfl ?_
          refine x_iconst (pc := 56) dX5_rootsOfSign_56 ?_
          refine x_iconst (pc := 57) dX5_rootsOfSign_57 ?_
          refine x_iconst (pc := 58) dX5_rootsOfSign_58 ?_
          refine x_callV (pc := 59) [_, _, _] rfl kX5_122 dX5_rootsOfSign_59 hd.1 rfl rfl (by decide) (Nat.le_of_ble_eq_true rfl) (Nat.le_of_ble_eq_true rfl) (by decide) ?_
          refine sp_X5_changesAt (p9 := 0) (y9 := 1) hd hb0 hR2 (gM _ wP).2 (by omega) (by omega) (by omega) (fun M3 hF3 hR3 => ?_)
          refine ⟨_, rfl, ?_⟩
          refine x_aload_n (pc := 62) dX5_rootsOfSign_62 rfl rfl ?_
          refine x_iconst (pc := 63) dX5_rootsOfSign_63 ?_
          refine x_callV (pc := 64) [_] rfl kX5_132 dX5_rootsOfSign_64 hd.1 rfl rfl (by decide) (Nat.le_of_ble_eq_true rfl) (Nat.le_of_ble_eq_true rfl) (by decide) ?_
          refine sp_X5_endChanges (y9 := 1) hd hb0 hR3 (gM _ wP).2 (by omega) ?_
          refine ⟨_, rfl, ?_⟩
          refine x_isub (pc := 67) dX5_rootsOfSign_67 ?_
          rw [hmc, F4.2]
          refine x_istore (pc := 68) dX5_rootsOfSign_68 trivial (by decide) (L' := [(4, _), (3, _), (2, _), (0, _), (1, _)]) rfl ?_
          refine x_iload_n (pc := 70) dX5_rootsOfSign_70 rfl rfl ?_
          refine x_if_ne (pc := 71) (t := 78) dX5_rootsOfSign_71 (by decide) ⟨by omega, by omega⟩ (fun c71 => ?_) (fun c71 => ?_)
          · refine x_iload_n (pc := 78) dX5_rootsOfSign_78 rfl rfl ?_
            refine x_if_le (pc := 79) (t := 87) dX5_rootsOfSign_79 (by decide) ⟨by omega, by omega⟩ (fun c79 => ?_) (fun c79 => ?_)
            · refine x_iload_n (pc := 87) dX5_rootsOfSign_87 rfl rfl ?_
              refine x_iload (pc := 88) dX5_rootsOfSign_88 rfl ?_
              refine x_isub (pc := 90) dX5_rootsOfSign_90 ?_
              refine x_iload_n (pc := 91) dX5_rootsOfSign_91 rfl rfl ?_
              refine x_isub (pc := 92) dX5_rootsOfSign_92 ?_
              refine x_iret (pc := 93) dX5_rootsOfSign_93 rfl (by decide) (by decide) ?_
              have hne : ¬ (buildF (tP T)).1 = 0 := fun z => c34 (by rw [if_pos z])
              refine k M3 _ ((z2.l hF2).f hF3) ((z3.fr hF2.n).fr hF3.n) hR3.bg (by rw [hF3 _ _ (by omega), hF2 _ _ (by omega) (by omega) (by omega), z1]; unfold rOfSgn; rw [if_neg (fun z => z h1)]; rfl) (fun v9 hx => ?_)
              unfold rOfSgn at hx
              rw [if_neg (fun z => z h1)] at hx
              rw [← oI_inj hx]
              unfold ofSgn dBet
              rw [if_neg hne]
              try rw [if_neg hne]
              clear hx k bad hP hp3 hL hK hm wS wP wm wK wL hT hW gM gE gF z3 F1 F2 F3 F5 F6 F8 F9 F11 hR2 hR3
              grind
            · refine x_iload (pc := 82) dX5_rootsOfSign_82 rfl ?_
              refine x_goto (pc := 84) (t := 93) dX5_rootsOfSign_84 (by decide) ?_
              refine x_iret (pc := 93) dX5_rootsOfSign_93 rfl (by decide) (by decide) ?_
              have hne : ¬ (buildF (tP T)).1 = 0 := fun z => c34 (by rw [if_pos z])
              refine k M3 _ ((z2.l hF2).f hF3) ((z3.fr hF2.n).fr hF3.n) hR3.bg (by rw [hF3 _ _ (by omega), hF2 _ _ (by omega) (by omega) (by omega), z1]; unfold rOfSgn; rw [if_neg (fun z => z h1)]; rfl) (fun v9 hx => ?_)
              unfold rOfSgn at hx
              rw [if_neg (fun z => z h1)] at hx
              rw [← oI_inj hx]
              unfold ofSgn dBet
              rw [if_neg hne]
              try rw [if_neg hne]
              clear hx k bad hP hp3 hL hK hm wS wP wm wK wL hT hW gM gE gF z3 F1 F2 F3 F5 F6 F8 F9 F11 hR2 hR3
              grind
          · refine x_iload_n (pc := 74) dX5_rootsOfSign_74 rfl rfl ?_
            refine x_goto (pc := 75) (t := 93) dX5_rootsOfSign_75 (by decide) ?_
            refine x_iret (pc := 93) dX5_rootsOfSign_93 rfl (by decide) (by decide) ?_
            have hne : ¬ (buildF (tP T)).1 = 0 := fun z => c34 (by rw [if_pos z])
            refine k M3 _ ((z2.l hF2).f hF3) ((z3.fr hF2.n).fr hF3.n) hR3.bg (by rw [hF3 _ _ (by omega), hF2 _ _ (by omega) (by omega) (by omega), z1]; unfold rOfSgn; rw [if_neg (fun z => z h1)]; rfl) (fun v9 hx => ?_)
            unfold rOfSgn at hx
            rw [if_neg (fun z => z h1)] at hx
            rw [← oI_inj hx]
            unfold ofSgn dBet
            rw [if_neg hne]
            try rw [if_neg hne]
            clear hx k bad hP hp3 hL hK hm wS wP wm wK wL hT hW gM gE gF z3 F1 F2 F3 F5 F6 F8 F9 F11 hR2 hR3
            grind
        · refine x_iconst (pc := 49) dX5_rootsOfSign_49 ?_
          refine x_goto (pc := 50) (t := 54) dX5_rootsOfSign_50 (by decide) ?_
          refine x_istore_n (pc := 54) dX5_rootsOfSign_54 rfl (by decide) (L' := [(3, _), (2, _), (0, _), (1, _)]) rfl ?_
          refine x_aload_n (pc := 55) dX5_rootsOfSign_55 rfl rfl ?_
          refine x_iconst (pc := 56) dX5_rootsOfSign_56 ?_
          refine x_iconst (pc := 57) dX5_rootsOfSign_57 ?_
          refine x_iconst (pc := 58) dX5_rootsOfSign_58 ?_
          refine x_callV (pc := 59) [_, _, _] rfl kX5_122 dX5_rootsOfSign_59 hd.1 rfl rfl (by decide) (Nat.le_of_ble_eq_true rfl) (Nat.le_of_ble_eq_true rfl) (by decide) ?_
          refine sp_X5_changesAt (p9 := 0) (y9 := 1) hd hb0 hR2 (gM _ wP).2 (by omega) (by omega) (by omega) (fun M3 hF3 hR3 => ?_)
          refine ⟨_, rfl, ?_⟩
          refine x_aload_n (pc := 62) dX5_rootsOfSign_62 rfl rfl ?_
          refine x_iconst (pc := 63) dX5_rootsOfSign_63 ?_
          refine x_callV (pc := 64) [_] rfl kX5_132 dX5_rootsOfSign_64 hd.1 rfl rfl (by decide) (Nat.le_of_ble_eq_true rfl) (Nat.le_of_ble_eq_true rfl) (by decide) ?_
          refine sp_X5_endChanges (y9 := 1) hd hb0 hR3 (gM _ wP).2 (by omega) ?_
          refine ⟨_, rfl, ?_⟩
          refine x_isub (pc := 67) dX5_rootsOfSign_67 ?_
          rw [hmc, F4.2]
          refine x_istore (pc := 68) dX5_rootsOfSign_68 trivial (by decide) (L' := [(4, _), (3, _), (2, _), (0, _), (1, _)]) rfl ?_
          refine x_iload_n (pc := 70) dX5_rootsOfSign_70 rfl rfl ?_
          refine x_if_ne (pc := 71) (t := 78) dX5_rootsOfSign_71 (by decide) ⟨by omega, by omega⟩ (fun c71 => ?_) (fun c71 => ?_)
          · refine x_iload_n (pc := 78) dX5_rootsOfSign_78 rfl rfl ?_
            refine x_if_le (pc := 79) (t := 87) dX5_rootsOfSign_79 (by decide) ⟨by omega, by omega⟩ (fun c79 => ?_) (fun c79 => ?_)
            · refine x_iload_n (pc := 87) dX5_rootsOfSign_87 rfl rfl ?_
              refine x_iload (pc := 88) dX5_rootsOfSign_88 rfl ?_
              refine x_isub (pc := 90) dX5_rootsOfSign_90 ?_
              refine x_iload_n (pc := 91) dX5_rootsOfSign_91 rfl rfl ?_
              refine x_isub (pc := 92) dX5_rootsOfSign_92 ?_
              refine x_iret (pc := 93) dX5_rootsOfSign_93 rfl (by decide) (by decide) ?_
              have hne : ¬ (buildF (tP T)).1 = 0 := fun z => c34 (by rw [if_pos z])
              refine k M3 _ ((z2.l hF2).f hF3) ((z3.fr hF2.n).fr hF3.n) hR3.bg (by rw [hF3 _ _ (by omega), hF2 _ _ (by omega) (by omega) (by omega), z1]; unfold rOfSgn; rw [if_neg (fun z => z h1)]; rfl) (fun v9 hx => ?_)
              unfold rOfSgn at hx
              rw [if_neg (fun z => z h1)] at hx
              rw [← oI_inj hx]
              unfold ofSgn dBet
              rw [if_neg hne]
              try rw [if_neg hne]
              clear hx k bad hP hp3 hL hK hm wS wP wm wK wL hT hW gM gE gF z3 F1 F2 F3 F5 F6 F8 F9 F11 hR2 hR3
              grind
            · refine x_iload (pc := 82) dX5_rootsOfSign_82 rfl ?_
              refine x_goto (pc := 84) (t := 93) dX5_rootsOfSign_84 (by decide) ?_
              refine x_iret (pc := 93) dX5_rootsOfSign_93 rfl (by decide) (by decide) ?_
              have hne : ¬ (buildF (tP T)).1 = 0 := fun z => c34 (by rw [if_pos z])
              refine k M3 _ ((z2.l hF2).f hF3) ((z3.fr hF2.n).fr hF3.n) hR3.bg (by rw [hF3 _ _ (by omega), hF2 _ _ (by omega) (by omega) (by omega), z1]; unfold rOfSgn; rw [if_neg (fun z => z h1)]; rfl) (fun v9 hx => ?_)
              unfold rOfSgn at hx
              rw [if_neg (fun z => z h1)] at hx
              rw [← oI_inj hx]
              unfold ofSgn dBet
              rw [if_neg hne]
              try rw [if_neg hne]
              clear hx k bad hP hp3 hL hK hm wS wP wm wK wL hT hW gM gE gF z3 F1 F2 F3 F5 F6 F8 F9 F11 hR2 hR3
              grind
          · refine x_iload_n (pc := 74) dX5_rootsOfSign_74 rfl rfl ?_
            refine x_goto (pc := 75) (t := 93) dX5_rootsOfSign_75 (by decide) ?_
            refine x_iret (pc := 93) dX5_rootsOfSign_93 rfl (by decide) (by decide) ?_
            have hne : ¬ (buildF (tP T)).1 = 0 := fun z => c34 (by rw [if_pos z])
            refine k M3 _ ((z2.l hF2).f hF3) ((z3.fr hF2.n).fr hF3.n) hR3.bg (by rw [hF3 _ _ (by omega), hF2 _ _ (by omega) (by omega) (by omega), z1]; unfold rOfSgn; rw [if_neg (fun z => z h1)]; rfl) (fun v9 hx => ?_)
            unfold rOfSgn at hx
            rw [if_neg (fun z => z h1)] at hx
            rw [← oI_inj hx]
            unfold ofSgn dBet
            rw [if_neg hne]
            try rw [if_neg hne]
            clear hx k bad hP hp3 hL hK hm wS wP wm wK wL hT hW gM gE gF z3 F1 F2 F3 F5 F6 F8 F9 F11 hR2 hR3
            grind
      · refine x_iconst (pc := 37) dX5_rootsOfSign_37 ?_
        refine x_iret (pc := 38) dX5_rootsOfSign_38 rfl (by decide) (by decide) ?_
        have hR : rOfSgn T x = oI (-1) := by
          unfold rOfSgn ofSgn
          rw [if_neg (fun z => z h1), if_pos (by split at c34 <;> omega)]
        exact k M2 _ (z2.l hF2) (z3.fr hF2.n) hR2.bg (by rw [hF2 _ _ (by omega) (by omega) (by omega), z1, hR]; rfl) (fun v9 hx => oI_inj (hR.symm.trans hx))
    · exfalso; omega
  refine x_aload_n (pc := 0) dX5_rootsOfSign_0 rfl rfl ?_
  refine x_iload_n (pc := 1) dX5_rootsOfSign_1 rfl rfl ?_
  refine x_iconst (pc := 2) dX5_rootsOfSign_2 ?_
  refine x_iconst (pc := 3) dX5_rootsOfSign_3 ?_
  refine x_callS (pc := 4) [_, _, _] rfl kX5_144 dX5_rootsOfSign_4 rfl (by decide) (Nat.le_of_ble_eq_true rfl) (Nat.le_of_ble_eq_true rfl) (by decide) ?_
  obtain ⟨hx1, hx2⟩ := hx
  refine sp_X5_in ⟨by omega, by omega⟩ ⟨by omega, by omega⟩ ⟨by omega, by omega⟩ ?_
  refine ⟨_, rfl, ?_⟩
  refine x_if_eq (pc := 7) (t := 14) dX5_rootsOfSign_7 (by decide) ⟨by omega, by omega⟩ (fun c7 => ?_) (fun c7 => ?_)
  · refine x_iconst (pc := 14) dX5_rootsOfSign_14 ?_
    refine X.loc [0, 1] (L' := [(0, _), (1, _)]) rfl ?_
    first
    | exact good (b1 c7)
    | exact bad 1 (by omega) (by unfold rOfSgn; rw [if_pos (b0 c7)]; rfl)
  · refine x_iconst (pc := 10) dX5_rootsOfSign_10 ?_
    refine x_goto (pc := 11) (t := 15) dX5_rootsOfSign_11 (by decide) ?_
    refine X.loc [0, 1] (L' := [(0, _), (1, _)]) rfl ?_
    first
    | exact good (b1 c7)
    | exact bad 1 (by omega) (by unfold rOfSgn; rw [if_pos (b0 c7)]; rfl)
