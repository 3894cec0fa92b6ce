/-! The reference: multiplicity, surplus, root; best terms; acts. -/
theorem klX5_261 : Cond.constantDouble "RootDuelModel" 261 4638707616191610880 ∈ wsL_law := by decide +kernel
theorem x_dconst {g : GG} {r : MR} {cn ck : Nat} {lay : Lay} {M : Mem} {pc : Nat} {L : List (Nat × AV)} {st : List AV} {K : KK} (hd : decode r.2.1 pc = .ok (.dconst 0, 1)) (k : X g r cn ck lay M (pc + 1) L (vD 0 :: st) K) : X g r cn ck lay M pc L st K := X.lift (fun hx hb w => lv_dconst0 hx hb hd w) k
theorem nearL_rng (f : Int → Int) (i : Int) : ∀ (n : Nat) (lo hi : Int), lo < hi → lo ≤ nearL f i n lo hi ∧ nearL f i n lo hi < hi
  | 0, lo, hi, h => by rw [nearL]; omega
  | n + 1, lo, hi, h => by
    rw [nearL]
    split
    · omega
    · split
      · have := nearL_rng f i n lo ((lo + hi) / 2) (by omega)
        omega
      · have := nearL_rng f i n ((lo + hi) / 2) hi (by omega)
        omega
/-- who is ahead behind a term -/
theorem lead_tTerm {T : CT} {x : Int} {p : Nat} (hx0 : x ≠ 0) (hb : tB T = -1) : leadF T x p = scoreF (tTerm T x p) (buildF (tP (tTerm T x p))) (tN T % 2) - scoreF (tTerm T x p) (buildF (tP (tTerm T x p))) (1 - tN T % 2) := by
  have e1 : tP (tTerm T x p) = fup (tP T) p (tP T p + x) := rfl
  have e2 : (if reachP (tLay T x p) x then ((tN T % 2 : Nat) : Int) else tB T) = (if 0 < tS T 4 ∧ tS T 4 ≤ allD (buildF (fup (tP T) p (tP T p + x))) then ((tN T % 2 : Nat) : Int) else -1) := by
    rw [hb]
    have e3 : reachP (tLay T x p) x ↔ (0 < tS T 4 ∧ tS T 4 ≤ allD (buildF (fup (tP T) p (tP T p + x)))) := ⟨fun z => z.2, fun z => ⟨hx0, z⟩⟩
    simp only [e3]
  have e4 : ∀ s pl, scoreF (tTerm T x p) s pl = scoreF (tryT T x p) s pl := by
    intro s pl
    show _ + _ + (if (if reachP (tLay T x p) x then ((tN T % 2 : Nat) : Int) else tB T) = (pl : Int) then tS T 5 else 0) = _ + _ + (if (if 0 < tS T 4 ∧ tS T 4 ≤ allD (buildF (fup (tP T) p (tP T p + x))) then ((tN T % 2 : Nat) : Int) else -1) = (pl : Int) then tS T 5 else 0)
    rw [e2]
    rfl
  unfold leadF
  rw [e1, e4, e4]

set_option maxRecDepth 100000 in
theorem sp_X5_root {g : GG} {lay : Lay} {M : Mem} {K : KK} {d : Nat} {T : CT} {i : Int} (hd : MoL lay d) (hb0 : g.2.1 ≤ d) (hT : RowT T (M (d + 1))) (hW : WfT T) (hB : ∃ N, Bg N M d) (gM : GoodM) (gE : GoodE) (gF : GoodF) (hi : i32 i) (k : ∀ (M2 : Mem) (v : UInt64), FrQ d M M2 → RowT T (M2 (d + 1)) → (∃ N, Bg N M2 d) → M2 d 0 = kOf [nIO] (rRoot T i) → (∀ v9, (rRoot T i) = .inl (some (vD v9)) → v = v9) → K (.inl (some (vD v))) lay M2) : X g m_X5_root 0 0 lay M 0 [(0, vR d), (1, vI i)] [] K := by
  have hn := hW.n60
  obtain ⟨wS, wP, wN, wm, wK, wL, wO, wB⟩ := id hW
  obtain ⟨⟨hS, hN, h10, hP, hp3, hL, hK, h99, hm⟩, hO, hBo⟩ := id hT
  have had := allD_rng (s := buildF (tP T)) (by have := (gE _ wP).1; have := (gM _ wP).2.1; omega)
  obtain ⟨F1, F2, F3, F4, F5, F6, F7, F8, F9, F10, F11⟩ := gF _ wP
  have E1 := (gE _ wP).1
  have h5m := (gM _ wP).2.1
  have y0 := @b01 (0 ≤ i ∧ i ≤ allD (buildF (tP T)) - 1) inferInstance
  have bad : ∀ (M2 : Mem) (t : Int), FrL d M M2 → Mr (mRows (tP T)) M2 d → 0 < t → t = kOf [nIO] (rRoot T i) → X g m_X5_root 0 0 lay M2 20 [(0, vR d), (1, vI i)] [vI t, vR d] K := by
    intro M2 t hF2 hR2 ht1 ht2
    have ht3 : t ≤ 4 := by rw [ht2]; exact kOf_le1
    refine x_puti (pc := 20) fnX5_55 dX5_root_20 hd.1 (by omega) rfl ⟨by omega, by omega⟩ ?_
    refine x_nm (fun M1 hM1 => ?_)
    obtain ⟨z1, z2a, z3, z4⟩ := mq hM1 (hT.fr hF2.n) hR2.bg
    have z2 : FrQ d M M1 := (FrQ.rf.l hF2).tr z2a
    have z5 : Mr (mRows (tP T)) M1 d := by rw [hM1]; exact hR2.m0
    refine x_aload_n (pc := 23) dX5_root_23 rfl rfl ?_
    refine x_geti (pc := 24) fX5_55 dX5_root_24 hd.1 rfl (fun r24a r24b => ?_)
    try simp (disch := omega) only [mset_same, mset_nea, mset_nei, mcopy_nea, mcopy_in, mcopy_out, Int.reduceToNat, Int.toNat_natCast, Nat.zero_add, Nat.sub_zero] at r24a r24b ⊢
    rw [z1] at r24a r24b ⊢
    refine x_if_le (pc := 27) (t := 34) dX5_root_27 (by decide) ⟨by omega, by omega⟩ (fun c27 => ?_) (fun c27 => ?_)
    · exfalso; omega
    · refine x_dconst (pc := 30) dX5_root_30 ?_
      refine x_goto (pc := 31) (t := 50) dX5_root_31 (by decide) ?_
      refine x_dret (pc := 50) dX5_root_50 rfl (by decide) (by decide) ?_
      refine k M1 _ z2 z3 z4 (by rw [z1]; exact ht2) (fun v9 hx => ?_)
      rw [hx] at ht2
      have h0 : kOf [nIO] (.inl (some (vD v9))) = 0 := rfl
      exfalso
      omega
  have good : (0 ≤ i ∧ i ≤ allD (buildF (tP T)) - 1) → ∀ (M2 : Mem), FrL d M M2 → Mr (mRows (tP T)) M2 d → X g m_X5_root 0 0 lay M2 20 [(0, vR d), (1, vI i)] [vI 0, vR d] K := by
    intro h1 M2 hF2 hR2
    refine x_puti (pc := 20) fnX5_55 dX5_root_20 hd.1 (by omega) rfl ⟨by omega, by omega⟩ ?_
    refine x_nm (fun M1 hM1 => ?_)
    obtain ⟨z1, z2a, z3, z4⟩ := mq hM1 (hT.fr hF2.n) hR2.bg
    have z2 : FrQ d M M1 := (FrQ.rf.l hF2).tr z2a
    have z5 : Mr (mRows (tP T)) M1 d := by rw [hM1]; exact hR2.m0
    refine x_aload_n (pc := 23) dX5_root_23 rfl rfl ?_
    refine x_geti (pc := 24) fX5_55 dX5_root_24 hd.1 rfl (fun r24a r24b => ?_)
    try simp (disch := omega) only [mset_same, mset_nea, mset_nei, mcopy_nea, mcopy_in, mcopy_out, Int.reduceToNat, Int.toNat_natCast, Nat.zero_add, Nat.sub_zero] at r24a r24b ⊢
    rw [z1] at r24a r24b ⊢
    refine x_if_le (pc := 27) (t := 34) dX5_root_27 (by decide) ⟨by omega, by omega⟩ (fun c27 => ?_) (fun c27 => ?_)
    · refine x_iconst (pc := 34) dX5_root_34 ?_
      refine x_aload_n (pc := 35) dX5_root_35 rfl rfl ?_
      refine x_iload_n (pc := 36) dX5_root_36 rfl rfl ?_
      refine x_bipush (pc := 37) dX5_root_37 (by decide) ?_
      refine x_callV (pc := 39) [_, _] rfl kX5_258 dX5_root_39 hd.1 rfl rfl (by decide) (Nat.le_of_ble_eq_true rfl) (Nat.le_of_ble_eq_true rfl) (by decide) ?_
      refine sp_X5_nearOf (p := 6) hd hb0 z5 (gM _ wP).2 (by omega) ⟨by omega, by omega⟩ (fun M3 hF3 hR3 => ?_)
      rw [F5 i 6 (by omega) (by omega) (by omega)]
      have hbr : -1984 ≤ belowF (buildF (tP T)) i 6 ∧ belowF (buildF (tP T)) i 6 < 1984 := belF_rng _ _ _ _ _ (by decide)
      generalize hbl : belowF (buildF (tP T)) i 6 = bl at *
      refine ⟨_, rfl, ?_⟩
      refine x_imul (pc := 42) dX5_root_42 ?_
      refine x_iconst (pc := 43) dX5_root_43 ?_
      refine x_iadd (pc := 44) dX5_root_44 ?_
      refine x_i2d (pc := 45) dX5_root_45 ?_
      refine x_ldc2d (pc := 46) klX5_261 dX5_root_46 ?_
      refine x_ddiv (pc := 49) (rt_num (n := bl) (by omega)) dX5_root_49 ?_
      refine x_dret (pc := 50) dX5_root_50 rfl (by decide) (by decide) ?_
      have hR : rRoot T i = .inl (some (vD (rtF bl))) := by
        unfold rRoot
        rw [if_neg (fun z => z ⟨by omega, by omega⟩), hbl]
      exact k M3 _ (z2.f hF3) (z3.fr hF3.n) hR3.bg (by rw [hF3 _ _ (by omega), z1, hR]; rfl) (fun v9 hq => by
        have h9 := hR.symm.trans hq
        injection h9 with h9
        injection h9 with h9
        injection h9 with h9
        injection h9 with h9
        injection h9 with h9)
    · exfalso; omega
  refine x_aload_n (pc := 0) dX5_root_0 rfl rfl ?_
  refine x_iload_n (pc := 1) dX5_root_1 rfl rfl ?_
  refine x_iconst (pc := 2) dX5_root_2 ?_
  refine x_aload_n (pc := 3) dX5_root_3 rfl rfl ?_
  refine x_callV (pc := 4) [] rfl kX5_222 dX5_root_4 hd.1 rfl rfl (by decide) (Nat.le_of_ble_eq_true rfl) (Nat.le_of_ble_eq_true rfl) (by decide) ?_
  refine sp_X5_rootsInAll hd hb0 hB (P := tP T) (fun p hp => hP p hp) wP gM (fun M2 hF2 hR2 => ?_)
  rw [(gE _ wP).2.2]
  refine ⟨_, rfl, ?_⟩
  refine x_iconst (pc := 7) dX5_root_7 ?_
  refine x_isub (pc := 8) dX5_root_8 ?_
  refine x_callS (pc := 9) [_, _, _] rfl kX5_144 dX5_root_9 rfl (by decide) (Nat.le_of_ble_eq_true rfl) (Nat.le_of_ble_eq_true rfl) (by decide) ?_
  obtain ⟨hi1, hi2⟩ := hi
  refine sp_X5_in ⟨by omega, by omega⟩ ⟨by omega, by omega⟩ ⟨by omega, by omega⟩ ?_
  refine ⟨_, rfl, ?_⟩
  refine x_if_eq (pc := 12) (t := 19) dX5_root_12 (by decide) ⟨by omega, by omega⟩ (fun c12 => ?_) (fun c12 => ?_)
  · refine x_iconst (pc := 19) dX5_root_19 ?_
    refine X.loc [0, 1] (L' := [(0, _), (1, _)]) rfl ?_
    first
    | exact good (b1 c12) M2 hF2 hR2
    | exact bad M2 1 hF2 hR2 (by omega) (by unfold rRoot; rw [if_pos (fun z => b0 c12 ⟨z.1, by omega⟩)]; rfl)
  · refine x_iconst (pc := 15) dX5_root_15 ?_
    refine x_goto (pc := 16) (t := 20) dX5_root_16 (by decide) ?_
    refine X.loc [0, 1] (L' := [(0, _), (1, _)]) rfl ?_
    first
    | exact good (b1 c12) M2 hF2 hR2
    | exact bad M2 1 hF2 hR2 (by omega) (by unfold rRoot; rw [if_pos (fun z => b0 c12 ⟨z.1, by omega⟩)]; rfl)
set_option maxRecDepth 100000 in
theorem sp_X5_multiplicity {g : GG} {lay : Lay} {M : Mem} {K : KK} {d : Nat} {T : CT} {x : Int} (hd : MoL lay d) (hb0 : g.2.1 ≤ d) (hT : RowT T (M (d + 1))) (hW : WfT T) (hB : ∃ N, Bg N M d) (gM : GoodM) (gE : GoodE) (gF : GoodF) (hx : i32 x) (k : ∀ (M2 : Mem) (v : Int), FrQ d M M2 → RowT T (M2 (d + 1)) → (∃ N, Bg N M2 d) → M2 d 0 = kOf [nIA] (rMul T x) → (∀ v9, (rMul T x) = oI v9 → v = v9) → K (.inl (some (vI v))) lay M2) : X g m_X5_multiplicity 0 0 lay M 0 [(0, vR d), (1, vI x)] [] K := by
  have hn := hW.n60
  obtain ⟨wS, wP, wN, wm, wK, wL, wO, wB⟩ := id hW
  obtain ⟨⟨hS, hN, h10, hP, hp3, hL, hK, h99, hm⟩, hO, hBo⟩ := id hT
  have had := allD_rng (s := buildF (tP T)) (by have := (gE _ wP).1; have := (gM _ wP).2.1; omega)
  obtain ⟨F1, F2, F3, F4, F5, F6, F7, F8, F9, F10, F11⟩ := gF _ wP
  have E1 := (gE _ wP).1
  have h5m := (gM _ wP).2.1
  have hdr := degF_rng (tP T) 5
  have y0 := @b01 (placeP x) inferInstance
  have loop : placeP x → ∀ M1, M1 d 0 = 0 → FrQ d M M1 → RowT T (M1 (d + 1)) → (∃ N, Bg N M1 d) → 0 ≤ degF (tP T) 5 → ∀ (c j : Nat) (y : Int), j + c = 5 → y = j → (∀ i, i < j → shP (tP T) x i = 0) → X g m_X5_multiplicity 0 0 lay M1 45 [(2, vI y), (0, vR d), (1, vI x)] [] K := by
    intro h1 M1 z1 z2 z3 z4 hdg c
    induction c with
    | zero =>
      intro j y hj hy hz
      exfalso
      have := (F11 x h1.1 h1.2).mpr (fun q hq => hz q (by omega))
      omega
    | succ c ih =>
      intro j y hj hy hz
      have f9 := F9 x h1.1 h1.2 j (by omega)
      have vb := derAt_b wP (q := j) (by omega) h1 5 (by omega)
      have vb2 : -(7680 * 21 ^ 5) ≤ derV (tP T) j x ∧ derV (tP T) j x ≤ 7680 * 21 ^ 5 := vb
      have vb3 : (21 : Int) ^ 5 = 4084101 := by decide
      rw [vb3] at vb2
      refine x_aload_n (pc := 45) dX5_multiplicity_45 rfl rfl ?_
      refine x_iload_n (pc := 46) dX5_multiplicity_46 rfl rfl ?_
      refine x_iload_n (pc := 47) dX5_multiplicity_47 rfl rfl ?_
      refine x_callV (pc := 48) [_, _] rfl kX5_140 dX5_multiplicity_48 hd.1 rfl rfl (by decide) (Nat.le_of_ble_eq_true rfl) (Nat.le_of_ble_eq_true rfl) (by decide) ?_
      rw [hy]
      refine sp_X5_derivativeAt hd hb0 z3 hW (by omega) h1 ?_
      rw [← hy]
      refine ⟨_, rfl, ?_⟩
      refine x_lconst (pc := 51) (x := 0) dX5_multiplicity_51 (by decide) ?_
      refine x_lcmp_ne (pc := 52) (t := 62) dX5_multiplicity_52 dX5_multiplicity_53 (by decide) ⟨by omega, by omega⟩ ⟨by omega, by omega⟩ (fun c52 => ?_) (fun c52 => ?_)
      · refine x_iload_n (pc := 62) dX5_multiplicity_62 rfl rfl ?_
        refine x_iret (pc := 63) dX5_multiplicity_63 rfl (by decide) (by decide) ?_
        have hR : rMul T x = oI (j : Nat) := by
          unfold rMul
          rw [if_neg (fun z => z h1), mulF_at (j := j) 5 (by omega) (by omega) (by omega) (fun i _ hi => hz i hi) (fun z => by have := f9.mpr z; omega)]
        rw [hy]
        exact k M1 _ z2 z3 z4 (by rw [z1, hR]; rfl) (fun v9 hx => oI_inj (hR.symm.trans hx))
      · refine x_iinc (pc := 56) dX5_multiplicity_56 rfl (by decide) (L' := [(2, _), (0, _), (1, _)]) rfl ?_
        refine x_goto (pc := 59) (t := 45) dX5_multiplicity_59 (by decide) ?_
        refine X.loc [0, 1, 2] (L' := [(2, _), (0, _), (1, _)]) rfl ?_
        refine ih (j + 1) _ (by omega) (by omega) (fun i hi => ?_)
        by_cases e : i = j
        · rw [e]
          exact f9.mp (by omega)
        · exact hz i (by omega)
  have bad : ∀ t : Int, 0 < t → t = kOf [nIA] (rMul T x) → X g m_X5_multiplicity 0 0 lay M 13 [(0, vR d), (1, vI x)] [vI t, vR d] K := by
    intro t ht1 ht2
    have ht3 : t ≤ 4 := by rw [ht2]; exact kOf_le1
    refine x_puti (pc := 13) fnX5_55 dX5_multiplicity_13 hd.1 (by omega) rfl ⟨by omega, by omega⟩ ?_
    refine x_nm (fun M1 hM1 => ?_)
    obtain ⟨z1, z2, z3, z4⟩ := mq hM1 hT hB
    refine x_aload_n (pc := 16) dX5_multiplicity_16 rfl rfl ?_
    refine x_geti (pc := 17) fX5_55 dX5_multiplicity_17 hd.1 rfl (fun r17a r17b => ?_)
    try simp (disch := omega) only [mset_same, mset_nea, mset_nei, mcopy_nea, mcopy_in, mcopy_out, Int.reduceToNat, Int.toNat_natCast, Nat.zero_add, Nat.sub_zero] at r17a r17b ⊢
    rw [z1] at r17a r17b ⊢
    refine x_if_gt (pc := 20) (t := 30) dX5_multiplicity_20 (by decide) ⟨by omega, by omega⟩ (fun c20 => ?_) (fun c20 => ?_)
    · refine x_aload_n (pc := 30) dX5_multiplicity_30 rfl rfl ?_
      refine x_geti (pc := 31) fX5_55 dX5_multiplicity_31 hd.1 rfl (fun r31a r31b => ?_)
      try simp (disch := omega) only [mset_same, mset_nea, mset_nei, mcopy_nea, mcopy_in, mcopy_out, Int.reduceToNat, Int.toNat_natCast, Nat.zero_add, Nat.sub_zero] at r31a r31b ⊢
      rw [z1] at r31a r31b ⊢
      refine x_if_le (pc := 34) (t := 41) dX5_multiplicity_34 (by decide) ⟨by omega, by omega⟩ (fun c34 => ?_) (fun c34 => ?_)
      · exfalso; omega
      · refine x_iconst (pc := 37) dX5_multiplicity_37 ?_
        refine x_goto (pc := 38) (t := 42) dX5_multiplicity_38 (by decide) ?_
        refine x_iret (pc := 42) dX5_multiplicity_42 rfl (by decide) (by decide) ?_
        refine k M1 _ z2 z3 z4 (by rw [z1]; exact ht2) (fun v9 hx => ?_)
        rw [hx] at ht2
        have h0 : kOf [nIA] (oI v9) = 0 := rfl
        exfalso
        omega
    · exfalso; omega
  have good : placeP x → X g m_X5_multiplicity 0 0 lay M 13 [(0, vR d), (1, vI x)] [vI 0, vR d] K := by
    intro h1
    refine x_puti (pc := 13) fnX5_55 dX5_multiplicity_13 hd.1 (by omega) rfl ⟨by omega, by omega⟩ ?_
    refine x_nm (fun M1 hM1 => ?_)
    obtain ⟨z1, z2, z3, z4⟩ := mq hM1 hT hB
    refine x_aload_n (pc := 16) dX5_multiplicity_16 rfl rfl ?_
    refine x_geti (pc := 17) fX5_55 dX5_multiplicity_17 hd.1 rfl (fun r17a r17b => ?_)
    try simp (disch := omega) only [mset_same, mset_nea, mset_nei, mcopy_nea, mcopy_in, mcopy_out, Int.reduceToNat, Int.toNat_natCast, Nat.zero_add, Nat.sub_zero] at r17a r17b ⊢
    rw [z1] at r17a r17b ⊢
    refine x_if_gt (pc := 20) (t := 30) dX5_multiplicity_20 (by decide) ⟨by omega, by omega⟩ (fun c20 => ?_) (fun c20 => ?_)
    · exfalso; omega
    · refine x_aload_n (pc := 23) dX5_multiplicity_23 rfl rfl ?_
      refine x_callV (pc := 24) [] rfl kX5_136 dX5_multiplicity_24 hd.1 rfl rfl (by decide) (Nat.le_of_ble_eq_true rfl) (Nat.le_of_ble_eq_true rfl) (by decide) ?_
      refine sp_X5_degreeNow hd hb0 z3 hW ?_
      refine ⟨_, rfl, ?_⟩
      refine x_if_ge (pc := 27) (t := 43) dX5_multiplicity_27 (by decide) ⟨by omega, by omega⟩ (fun c27 => ?_) (fun c27 => ?_)
      · refine x_iconst (pc := 43) dX5_multiplicity_43 ?_
        refine x_istore_n (pc := 44) dX5_multiplicity_44 rfl (by decide) (L' := [(2, _), (0, _), (1, _)]) rfl ?_
        refine X.loc [0, 1, 2] (L' := [(2, _), (0, _), (1, _)]) rfl ?_
        exact loop h1 M1 z1 z2 z3 z4 (by omega) 5 0 _ rfl rfl (fun i hi => by omega)
      · refine x_aload_n (pc := 30) dX5_multiplicity_30 rfl rfl ?_
        refine x_geti (pc := 31) fX5_55 dX5_multiplicity_31 hd.1 rfl (fun r31a r31b => ?_)
        try simp (disch := omega) only [mset_same, mset_nea, mset_nei, mcopy_nea, mcopy_in, mcopy_out, Int.reduceToNat, Int.toNat_natCast, Nat.zero_add, Nat.sub_zero] at r31a r31b ⊢
        rw [z1] at r31a r31b ⊢
        refine x_if_le (pc := 34) (t := 41) dX5_multiplicity_34 (by decide) ⟨by omega, by omega⟩ (fun c34 => ?_) (fun c34 => ?_)
        · refine x_iconst (pc := 41) dX5_multiplicity_41 ?_
          refine x_iret (pc := 42) dX5_multiplicity_42 rfl (by decide) (by decide) ?_
          have hR : rMul T x = oI (-1) := by
            unfold rMul
            rw [if_neg (fun z => z h1), mulF_z 5 (by omega) ((F11 x h1.1 h1.2).mp (by omega))]
          exact k M1 _ z2 z3 z4 (by rw [z1, hR]; rfl) (fun v9 hx => oI_inj (hR.symm.trans hx))
        · exfalso; omega
  refine x_aload_n (pc := 0) dX5_multiplicity_0 rfl rfl ?_
  refine x_iload_n (pc := 1) dX5_multiplicity_1 rfl rfl ?_
  refine x_callS (pc := 2) [_] rfl kX5_252 dX5_multiplicity_2 rfl (by decide) (Nat.le_of_ble_eq_true rfl) (Nat.le_of_ble_eq_true rfl) (by decide) ?_
  refine sp_X5_isPlace hx ?_
  refine ⟨_, rfl, ?_⟩
  refine x_if_eq (pc := 5) (t := 12) dX5_multiplicity_5 (by decide) ⟨by omega, by omega⟩ (fun c5 => ?_) (fun c5 => ?_)
  · refine x_iconst (pc := 12) dX5_multiplicity_12 ?_
    refine X.loc [0, 1] (L' := [(0, _), (1, _)]) rfl ?_
    first
    | exact good (b1 c5)
    | exact bad 1 (by omega) (by unfold rMul; rw [if_pos (b0 c5)]; rfl)
  · refine x_iconst (pc := 8) dX5_multiplicity_8 ?_
    refine x_goto (pc := 9) (t := 13) dX5_multiplicity_9 (by decide) ?_
    refine X.loc [0, 1] (L' := [(0, _), (1, _)]) rfl ?_
    first
    | exact good (b1 c5)
    | exact bad 1 (by omega) (by unfold rMul; rw [if_pos (b0 c5)]; rfl)
set_option maxRecDepth 100000 in
theorem sp_X5_surplus {g : GG} {lay : Lay} {M : Mem} {K : KK} {d : Nat} {T : CT} {x y : Int} (hd : MoL lay d) (hb0 : g.2.1 ≤ d) (hT : RowT T (M (d + 1))) (hW : WfT T) (hB : ∃ N, Bg N M d) (gM : GoodM) (gE : GoodE) (gF : GoodF) (hx : i32 x) (hy : i32 y) (k : ∀ (M2 : Mem) (v : Int), FrQ d M M2 → RowT T (M2 (d + 1)) → (∃ N, Bg N M2 d) → M2 d 0 = kOf [nIA] (rSur T x y) → (∀ v9, (rSur T x y) = oI v9 → v = v9) → K (.inl (some (vI v))) lay M2) : X g m_X5_surplus 0 0 lay M 0 [(0, vR d), (1, vI x), (2, vI y)] [] K := by
  have hn := hW.n60
  obtain ⟨wS, wP, wN, wm, wK, wL, wO, wB⟩ := id hW
  obtain ⟨⟨hS, hN, h10, hP, hp3, hL, hK, h99, hm⟩, hO, hBo⟩ := id hT
  have had := allD_rng (s := buildF (tP T)) (by have := (gE _ wP).1; have := (gM _ wP).2.1; omega)
  obtain ⟨F1, F2, F3, F4, F5, F6, F7, F8, F9, F10, F11⟩ := gF _ wP
  have E1 := (gE _ wP).1
  have h5m := (gM _ wP).2.1
  have hdr := degF_rng (tP T) 5
  have y0 := @b01 (intvP x y) inferInstance
  have bad : ∀ t : Int, 0 < t → t = kOf [nIA] (rSur T x y) → X g m_X5_surplus 0 0 lay M 14 [(0, vR d), (1, vI x), (2, vI y)] [vI t, vR d] K := by
    intro t ht1 ht2
    have ht3 : t ≤ 4 := by rw [ht2]; exact kOf_le1
    refine x_puti (pc := 14) fnX5_55 dX5_surplus_14 hd.1 (by omega) rfl ⟨by omega, by omega⟩ ?_
    refine x_nm (fun M1 hM1 => ?_)
    obtain ⟨z1, z2, z3, z4⟩ := mq hM1 hT hB
    refine x_aload_n (pc := 17) dX5_surplus_17 rfl rfl ?_
    refine x_geti (pc := 18) fX5_55 dX5_surplus_18 hd.1 rfl (fun r18a r18b => ?_)
    try simp (disch := omega) only [mset_same, mset_nea, mset_nei, mcopy_nea, mcopy_in, mcopy_out, Int.reduceToNat, Int.toNat_natCast, Nat.zero_add, Nat.sub_zero] at r18a r18b ⊢
    rw [z1] at r18a r18b ⊢
    refine x_if_gt (pc := 21) (t := 31) dX5_surplus_21 (by decide) ⟨by omega, by omega⟩ (fun c21 => ?_) (fun c21 => ?_)
    · refine x_aload_n (pc := 31) dX5_surplus_31 rfl rfl ?_
      refine x_geti (pc := 32) fX5_55 dX5_surplus_32 hd.1 rfl (fun r32a r32b => ?_)
      try simp (disch := omega) only [mset_same, mset_nea, mset_nei, mcopy_nea, mcopy_in, mcopy_out, Int.reduceToNat, Int.toNat_natCast, Nat.zero_add, Nat.sub_zero] at r32a r32b ⊢
      rw [z1] at r32a r32b ⊢
      refine x_if_le (pc := 35) (t := 42) dX5_surplus_35 (by decide) ⟨by omega, by omega⟩ (fun c35 => ?_) (fun c35 => ?_)
      · exfalso; omega
      · refine x_iconst (pc := 38) dX5_surplus_38 ?_
        refine x_goto (pc := 39) (t := 43) dX5_surplus_39 (by decide) ?_
        refine x_iret (pc := 43) dX5_surplus_43 rfl (by decide) (by decide) ?_
        refine k M1 _ z2 z3 z4 (by rw [z1]; exact ht2) (fun v9 hx => ?_)
        rw [hx] at ht2
        have h0 : kOf [nIA] (oI v9) = 0 := rfl
        exfalso
        omega
    · exfalso; omega
  have good : intvP x y → X g m_X5_surplus 0 0 lay M 14 [(0, vR d), (1, vI x), (2, vI y)] [vI 0, vR d] K := by
    intro h1
    refine x_puti (pc := 14) fnX5_55 dX5_surplus_14 hd.1 (by omega) rfl ⟨by omega, by omega⟩ ?_
    refine x_nm (fun M1 hM1 => ?_)
    obtain ⟨z1, z2, z3, z4⟩ := mq hM1 hT hB
    refine x_aload_n (pc := 17) dX5_surplus_17 rfl rfl ?_
    refine x_geti (pc := 18) fX5_55 dX5_surplus_18 hd.1 rfl (fun r18a r18b => ?_)
    try simp (disch := omega) only [mset_same, mset_nea, mset_nei, mcopy_nea, mcopy_in, mcopy_out, Int.reduceToNat, Int.toNat_natCast, Nat.zero_add, Nat.sub_zero] at r18a r18b ⊢
    rw [z1] at r18a r18b ⊢
    refine x_if_gt (pc := 21) (t := 31) dX5_surplus_21 (by decide) ⟨by omega, by omega⟩ (fun c21 => ?_) (fun c21 => ?_)
    · exfalso; omega
    · refine x_aload_n (pc := 24) dX5_surplus_24 rfl rfl ?_
      refine x_callV (pc := 25) [] rfl kX5_136 dX5_surplus_25 hd.1 rfl rfl (by decide) (Nat.le_of_ble_eq_true rfl) (Nat.le_of_ble_eq_true rfl) (by decide) ?_
      refine sp_X5_degreeNow hd hb0 z3 hW ?_
      refine ⟨_, rfl, ?_⟩
      refine x_if_ge (pc := 28) (t := 44) dX5_surplus_28 (by decide) ⟨by omega, by omega⟩ (fun c28 => ?_) (fun c28 => ?_)
      · refine x_aload_n (pc := 44) dX5_surplus_44 rfl rfl ?_
        refine x_iload_n (pc := 45) dX5_surplus_45 rfl rfl ?_
        refine x_callV (pc := 46) [_] rfl kX5_263 dX5_surplus_46 hd.1 rfl rfl (by decide) (Nat.le_of_ble_eq_true rfl) (Nat.le_of_ble_eq_true rfl) (by decide) ?_
        refine sp_X5_secondChanges hd hb0 z3 hW h1.1 ?_
        refine ⟨_, rfl, ?_⟩
        refine x_aload_n (pc := 49) dX5_surplus_49 rfl rfl ?_
        refine x_iload_n (pc := 50) dX5_surplus_50 rfl rfl ?_
        refine x_callV (pc := 51) [_] rfl kX5_263 dX5_surplus_51 hd.1 rfl rfl (by decide) (Nat.le_of_ble_eq_true rfl) (Nat.le_of_ble_eq_true rfl) (by decide) ?_
        refine sp_X5_secondChanges hd hb0 z3 hW h1.2.1 ?_
        refine ⟨_, rfl, ?_⟩
        refine x_isub (pc := 54) dX5_surplus_54 ?_
        refine x_aload_n (pc := 55) dX5_surplus_55 rfl rfl ?_
        refine x_iload_n (pc := 56) dX5_surplus_56 rfl rfl ?_
        refine x_iload_n (pc := 57) dX5_surplus_57 rfl rfl ?_
        refine x_callV (pc := 58) [_, _] rfl kX5_266 dX5_surplus_58 hd.1 rfl rfl (by decide) (Nat.le_of_ble_eq_true rfl) (Nat.le_of_ble_eq_true rfl) (by decide) ?_
        have hne : ¬ (buildF (tP T)).1 = 0 := fun z => by have := F7.mp z; omega
        obtain ⟨f61, f62⟩ := F6 (by omega)
        refine sp_X5_timesFrom hd hb0 z4 z3.1.2.2.2.1 (fun p _ => by have := wP p; omega) (gM _ wP).1 f61 h1.1 h1.2.1 (fun M2 hF2 hB2 => ?_)
        refine ⟨_, rfl, ?_⟩
        refine x_isub (pc := 61) dX5_surplus_61 ?_
        refine x_iret (pc := 62) dX5_surplus_62 rfl (by decide) (by decide) ?_
        have hR : rSur T x y = oI (secF (tP T) x - secF (tP T) y - mTimes x y 5 (mRows (tP T))) := by
          unfold rSur surF derCh
          rw [if_neg (fun z => z h1), if_neg hne, f62 x y h1.1.1 h1.2.2 h1.2.1.2, F8 x h1.1.1 h1.1.2, F8 y h1.2.1.1 h1.2.1.2]
        exact k M2 _ (z2.l hF2) (z3.fr hF2.n) hB2 (by rw [hF2 _ _ (by omega) (by omega) (by omega), z1, hR]; rfl) (fun v9 hx => oI_inj (hR.symm.trans hx))
      · refine x_aload_n (pc := 31) dX5_surplus_31 rfl rfl ?_
        refine x_geti (pc := 32) fX5_55 dX5_surplus_32 hd.1 rfl (fun r32a r32b => ?_)
        try simp (disch := omega) only [mset_same, mset_nea, mset_nei, mcopy_nea, mcopy_in, mcopy_out, Int.reduceToNat, Int.toNat_natCast, Nat.zero_add, Nat.sub_zero] at r32a r32b ⊢
        rw [z1] at r32a r32b ⊢
        refine x_if_le (pc := 35) (t := 42) dX5_surplus_35 (by decide) ⟨by omega, by omega⟩ (fun c35 => ?_) (fun c35 => ?_)
        · refine x_iconst (pc := 42) dX5_surplus_42 ?_
          refine x_iret (pc := 43) dX5_surplus_43 rfl (by decide) (by decide) ?_
          have hR : rSur T x y = oI (-1) := by
            unfold rSur surF
            rw [if_neg (fun z => z h1), if_pos (F7.mpr (by omega))]
          exact k M1 _ z2 z3 z4 (by rw [z1, hR]; rfl) (fun v9 hx => oI_inj (hR.symm.trans hx))
        · exfalso; omega
  refine x_aload_n (pc := 0) dX5_surplus_0 rfl rfl ?_
  refine x_iload_n (pc := 1) dX5_surplus_1 rfl rfl ?_
  refine x_iload_n (pc := 2) dX5_surplus_2 rfl rfl ?_
  refine x_callS (pc := 3) [_, _] rfl kX5_204 dX5_surplus_3 rfl (by decide) (Nat.le_of_ble_eq_true rfl) (Nat.le_of_ble_eq_true rfl) (by decide) ?_
  refine sp_X5_areEnds hx hy ?_
  refine ⟨_, rfl, ?_⟩
  refine x_if_eq (pc := 6) (t := 13) dX5_surplus_6 (by decide) ⟨by omega, by omega⟩ (fun c6 => ?_) (fun c6 => ?_)
  · refine x_iconst (pc := 13) dX5_surplus_13 ?_
    refine X.loc [0, 1, 2] (L' := [(0, _), (1, _), (2, _)]) rfl ?_
    first
    | exact good (b1 c6)
    | exact bad 1 (by omega) (by unfold rSur; rw [if_pos (b0 c6)]; rfl)
  · refine x_iconst (pc := 9) dX5_surplus_9 ?_
    refine x_goto (pc := 10) (t := 14) dX5_surplus_10 (by decide) ?_
    refine X.loc [0, 1, 2] (L' := [(0, _), (1, _), (2, _)]) rfl ?_
    first
    | exact good (b1 c6)
    | exact bad 1 (by omega) (by unfold rSur; rw [if_pos (b0 c6)]; rfl)
