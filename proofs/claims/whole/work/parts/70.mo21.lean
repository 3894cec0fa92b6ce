/-! The reference: best terms, what is behind a term, acts. -/
/-- over: nobody claims now; not over: nobody has the bonus -/
def WfB (T : CT) : Prop := (tO T = 0 → tB T = -1) ∧ (hasClaim T → tO T = 0)
theorem Bg.fr2 {M M' : Mem} {d : Nat} (h : ∃ N, Bg N M d) (e : ∀ j, M' (d + 7) j = M (d + 7) j) : ∃ N, Bg N M' d := h.elim (fun N hN => ⟨N, hN.fr e⟩)

set_option maxRecDepth 100000 in
theorem sp_X5_behind {g : GG} {lay : Lay} {M : Mem} {K : KK} {d : Nat} {T : CT} {x p w : Int} (hd : MoL lay d) (hb0 : g.2.1 ≤ d) (hT : RowT T (M (d + 1))) (hW : WfT T) (hB : ∃ N, Bg N M d) (gM : GoodM) (gE : GoodE) (hO0 : WfO T) (hx : i32 x) (hp : i32 p) (hw : i32 w) (k : ∀ (M2 : Mem) (v : Int), FrQ d M M2 → RowT T (M2 (d + 1)) → (∃ N, Bg N M2 d) → M2 d 0 = kOf [nIO, nIA, nIS] (rBehind T x p w) → (∀ v9, (rBehind T x p w) = oI v9 → v = v9) → K (.inl (some (vI v))) lay M2) : X g m_X5_behind 0 0 lay M 0 [(0, vR d), (1, vI x), (2, vI p), (3, vI w)] [] K := by
  have hn := hW.n60
  obtain ⟨wS, wP, wN, wm, wK, wL, wO, wB⟩ := id hW
  obtain ⟨⟨hS, hN, h10, hP, hp3, hL, hK, h99, hm⟩, hO, hBo⟩ := id hT
  have y0 := @b01 (hasP T p) inferInstance
  have y1 := @b01 (layab x) inferInstance
  have y2 := @b01 (0 ≤ w ∧ w ≤ 3) inferInstance
  have bad : ∀ t : Int, 0 < t → t = kOf [nIO, nIA, nIS] (rBehind T x p w) → X g m_X5_behind 0 0 lay M 47 [(0, vR d), (1, vI x), (2, vI p), (3, vI w)] [vI t, vR d] K := by
    intro t ht1 ht2
    have ht3 : t ≤ 4 := by rw [ht2]; exact kOf_le3
    refine x_puti (pc := 47) fnX5_55 dX5_behind_47 hd.1 (by omega) rfl ⟨by omega, by omega⟩ ?_
    refine x_nm (fun M1 hM1 => ?_)
    obtain ⟨z1, z2, z3, z4⟩ := mq hM1 hT hB
    refine x_aload_n (pc := 50) dX5_behind_50 rfl rfl ?_
    refine x_geti (pc := 51) fX5_55 dX5_behind_51 hd.1 rfl (fun r51a r51b => ?_)
    try simp (disch := omega) only [mset_same, mset_nea, mset_nei, mcopy_nea, mcopy_in, mcopy_out, Int.reduceToNat, Int.toNat_natCast, Nat.zero_add, Nat.sub_zero] at r51a r51b ⊢
    rw [z1] at r51a r51b ⊢
    refine x_if_le (pc := 54) (t := 59) dX5_behind_54 (by decide) ⟨by omega, by omega⟩ (fun c54 => ?_) (fun c54 => ?_)
    · exfalso; omega
    · refine x_iconst (pc := 57) dX5_behind_57 ?_
      refine x_iret (pc := 58) dX5_behind_58 rfl (by decide) (by decide) ?_
      refine k M1 _ z2 z3 z4 (by rw [z1]; exact ht2) (fun v9 hx => ?_)
      rw [hx] at ht2
      have h0 : kOf [nIO, nIA, nIS] (oI v9) = 0 := rfl
      exfalso
      omega
  have good : hasP T p → layab x → (0 ≤ w ∧ w ≤ 3) → whyLayF T x p.toNat = 0 → True → X g m_X5_behind 0 0 lay M 47 [(0, vR d), (1, vI x), (2, vI p), (3, vI w)] [vI 0, vR d] K := by
    intro h1 h2 h3 h4 _
    refine x_puti (pc := 47) fnX5_55 dX5_behind_47 hd.1 (by omega) rfl ⟨by omega, by omega⟩ ?_
    refine x_nm (fun M1 hM1 => ?_)
    obtain ⟨z1, z2, z3, z4⟩ := mq hM1 hT hB
    obtain ⟨q, rfl⟩ := Int.eq_ofNat_of_zero_le h1.1
    rw [Int.toNat_natCast] at h4
    obtain ⟨hw0, hws⟩ := why0 hW h4
    have w0 := wS.1
    have w2 := wS.2.2.1
    have hz9 := hO0 hw0
    have hR : rBehind T x (q : Nat) w = oI (behF (tTerm T x q) w) := by
      unfold rBehind
      rw [if_neg (fun z => z h1), if_neg (fun z => z ⟨h2, h3⟩), Int.toNat_natCast, if_neg (fun z => z h4)]
    refine x_aload_n (pc := 50) dX5_behind_50 rfl rfl ?_
    refine x_geti (pc := 51) fX5_55 dX5_behind_51 hd.1 rfl (fun r51a r51b => ?_)
    try simp (disch := omega) only [mset_same, mset_nea, mset_nei, mcopy_nea, mcopy_in, mcopy_out, Int.reduceToNat, Int.toNat_natCast, Nat.zero_add, Nat.sub_zero] at r51a r51b ⊢
    rw [z1] at r51a r51b ⊢
    refine x_if_le (pc := 54) (t := 59) dX5_behind_54 (by decide) ⟨by omega, by omega⟩ (fun c54 => ?_) (fun c54 => ?_)
    · refine x_aload_n (pc := 59) dX5_behind_59 rfl rfl ?_
      refine x_getr (pc := 60) (b := d + 1) fX5_7 dX5_behind_60 hd.1 rfl rfl ?_
      refine x_iconst (pc := 63) dX5_behind_63 ?_
      refine x_aload_n (pc := 64) dX5_behind_64 rfl rfl ?_
      refine x_getr (pc := 65) (b := d + 2) fX5_13 dX5_behind_65 hd.1 rfl rfl ?_
      refine x_iconst (pc := 68) dX5_behind_68 ?_
      refine x_callS (pc := 69) [_, _, _, _] rfl kX5_180 dX5_behind_69 rfl (by decide) (Nat.le_of_ble_eq_true rfl) (Nat.le_of_ble_eq_true rfl) (by decide) ?_
      refine sp_X5_copies (o1 := 0) (o2 := 0) hd.2.1 hd.2.2.1 (by omega) (by omega) (by omega) (by omega) (by omega) (fun M2 hF2 hw2 => ?_)
      have z32 : RowT T (M2 (d + 1)) := z3.fr (fun j => hF2 _ _ (by omega))
      have z42 : ∃ N, Bg N M2 d := Bg.fr2 z4 (fun j => hF2 _ _ (by omega))
      refine ⟨_, rfl, ?_⟩
      refine x_aload_n (pc := 72) dX5_behind_72 rfl rfl ?_
      refine x_iload_n (pc := 73) dX5_behind_73 rfl rfl ?_
      refine x_iload_n (pc := 74) dX5_behind_74 rfl rfl ?_
      refine x_callV (pc := 75) [_, _] rfl kX5_228 dX5_behind_75 hd.1 rfl rfl (by decide) (Nat.le_of_ble_eq_true rfl) (Nat.le_of_ble_eq_true rfl) (by decide) ?_
      refine sp_X5_laysTerm hd hb0 z32 hW z42 gM gE (by omega) (hO0 hw0) (by omega) (by omega) (by omega) hws (fun M3 hF3 hT3 hB3 => ?_)
      have hWt : WfT (tTerm T x q) := hW.term (by omega) (by omega) hws (hO0 hw0)
      refine ⟨_, rfl, ?_⟩
      refine x_iload_n (pc := 78) dX5_behind_78 rfl rfl ?_
      refine x_if_ne (pc := 79) (t := 89) dX5_behind_79 (by decide) ⟨by omega, by omega⟩ (fun c79 => ?_) (fun c79 => ?_)
      · refine x_iload_n (pc := 89) dX5_behind_89 rfl rfl ?_
        refine x_iconst (pc := 90) dX5_behind_90 ?_
        refine x_icmp_ne (pc := 91) (t := 104) dX5_behind_91 (by decide) ⟨by omega, by omega⟩ ⟨by omega, by omega⟩ (fun c91 => ?_) (fun c91 => ?_)
        · refine x_aload_n (pc := 104) dX5_behind_104 rfl rfl ?_
          refine x_iload_n (pc := 105) dX5_behind_105 rfl rfl ?_
          refine x_iconst (pc := 106) dX5_behind_106 ?_
          refine x_isub (pc := 107) dX5_behind_107 ?_
          refine x_callV (pc := 108) [_] rfl kX5_243 dX5_behind_108 hd.1 rfl rfl (by decide) (Nat.le_of_ble_eq_true rfl) (Nat.le_of_ble_eq_true rfl) (by decide) ?_
          obtain ⟨pl, hpl⟩ := Int.eq_ofNat_of_zero_le (show 0 ≤ w - 1 by omega)
          rw [hpl]
          refine sp_X5_scoreOf (pl := pl) hd hb0 hT3 hWt hB3 gM gE (by omega) (fun M4 hF4 hB4 => ?_)
          have e9 : behF (tTerm T x q) w = scoreF (tTerm T x q) (buildF (tP (tTerm T x q))) pl := by
            unfold behF
            rw [if_neg (by omega)]
            by_cases e : w = 1
            · rw [if_pos e, show pl = 0 by omega]
            · rw [if_neg e, if_pos (by omega), show pl = 1 by omega]
          rw [← e9]
          refine ⟨_, rfl, ?_⟩
          refine x_istore (pc := 111) dX5_behind_111 trivial (by decide) (L' := [(4, _), (0, _), (1, _), (2, _), (3, _)]) rfl ?_
          refine x_aload_n (pc := 113) dX5_behind_113 rfl rfl ?_
          refine x_getr (pc := 114) (b := d + 2) fX5_13 dX5_behind_114 hd.1 rfl rfl ?_
          refine x_iconst (pc := 117) dX5_behind_117 ?_
          refine x_aload_n (pc := 118) dX5_behind_118 rfl rfl ?_
          refine x_getr (pc := 119) (b := d + 1) fX5_7 dX5_behind_119 hd.1 rfl rfl ?_
          refine x_iconst (pc := 122) dX5_behind_122 ?_
          refine x_callS (pc := 123) [_, _, _, _] rfl kX5_180 dX5_behind_123 rfl (by decide) (Nat.le_of_ble_eq_true rfl) (Nat.le_of_ble_eq_true rfl) (by decide) ?_
          refine sp_X5_copies (o1 := 0) (o2 := 0) hd.2.2.1 hd.2.1 (by omega) (by omega) (by omega) (by omega) (by omega) (fun M5 hF5 hw5 => ?_)
          refine ⟨_, rfl, ?_⟩
          refine x_iload (pc := 126) dX5_behind_126 rfl ?_
          refine x_iret (pc := 128) dX5_behind_128 rfl (by decide) (by decide) ?_
          have h42 : ∀ j, j < 280 → M5 (d + 1) j = M1 (d + 1) j := fun j hj => by
            have g1 := hw5 j hj
            have g2 := hw2 j hj
            rw [Nat.zero_add] at g1 g2
            rw [g1, hF4 _ _ (by omega) (by omega) (by omega), hF3 _ _ (by omega) (by omega) (by omega) (by omega), g2]
          exact k M5 _ (fun a j q1 q2 q3 q4 q5 => by rw [hF5 _ _ (by omega), hF4 _ _ (fun z => q1 ⟨z.1, Or.inr z.2⟩) q4 q5, hF3 _ _ (fun z => q1 ⟨z.1, Or.inr z.2⟩) q2 q4 q5, hF2 _ _ (by omega)]; exact z2 a j q1 q2 q3 q4 q5) (z3.cong hW h42) (Bg.fr2 hB4 (fun j => hF5 _ _ (by omega))) (by rw [hF5 _ _ (by omega), hF4 _ _ (by omega) (by omega) (by omega), hF3 _ _ (by omega) (by omega) (by omega) (by omega), hF2 _ _ (by omega), z1, hR]; rfl) (fun v9 hx => oI_inj (hR.symm.trans hx))
        · refine x_aload_n (pc := 94) dX5_behind_94 rfl rfl ?_
          refine x_getr (pc := 95) (b := d + 1) fX5_7 dX5_behind_95 hd.1 rfl rfl ?_
          refine x_bipush (pc := 98) dX5_behind_98 (by decide) ?_
          refine x_iald (pc := 100) dX5_behind_100 hd.2.1 (by omega) (by omega) (fun r100a r100b => ?_)
          try simp (disch := omega) only [mset_same, mset_nea, mset_nei, mcopy_nea, mcopy_in, mcopy_out, Int.reduceToNat, Int.toNat_natCast, Nat.zero_add, Nat.sub_zero] at r100a r100b ⊢
          rw [hT3.2.1] at r100a r100b ⊢
          have e9 : behF (tTerm T x q) w = tO (tTerm T x q) := by unfold behF; rw [if_neg (by omega), if_neg (by omega), if_neg (by omega)]
          rw [← e9]
          refine x_nm (fun M4 hM4 => ?_)
          have hF4 : FrL d M3 M4 := by rw [hM4]; exact FrL.rf
          have hB4 : ∃ N, Bg N M4 d := by rw [hM4]; exact hB3
          refine x_goto (pc := 101) (t := 111) dX5_behind_101 (by decide) ?_
          refine x_istore (pc := 111) dX5_behind_111 trivial (by decide) (L' := [(4, _), (0, _), (1, _), (2, _), (3, _)]) rfl ?_
          refine x_aload_n (pc := 113) dX5_behind_113 rfl rfl ?_
          refine x_getr (pc := 114) (b := d + 2) fX5_13 dX5_behind_114 hd.1 rfl rfl ?_
          refine x_iconst (pc := 117) dX5_behind_117 ?_
          refine x_aload_n (pc := 118) dX5_behind_118 rfl rfl ?_
          refine x_getr (pc := 119) (b := d + 1) fX5_7 dX5_behind_119 hd.1 rfl rfl ?_
          refine x_iconst (pc := 122) dX5_behind_122 ?_
          refine x_callS (pc := 123) [_, _, _, _] rfl kX5_180 dX5_behind_123 rfl (by decide) (Nat.le_of_ble_eq_true rfl) (Nat.le_of_ble_eq_true rfl) (by decide) ?_
          refine sp_X5_copies (o1 := 0) (o2 := 0) hd.2.2.1 hd.2.1 (by omega) (by omega) (by omega) (by omega) (by omega) (fun M5 hF5 hw5 => ?_)
          refine ⟨_, rfl, ?_⟩
          refine x_iload (pc := 126) dX5_behind_126 rfl ?_
          refine x_iret (pc := 128) dX5_behind_128 rfl (by decide) (by decide) ?_
          have h42 : ∀ j, j < 280 → M5 (d + 1) j = M1 (d + 1) j := fun j hj => by
            have g1 := hw5 j hj
            have g2 := hw2 j hj
            rw [Nat.zero_add] at g1 g2
            rw [g1, hF4 _ _ (by omega) (by omega) (by omega), hF3 _ _ (by omega) (by omega) (by omega) (by omega), g2]
          exact k M5 _ (fun a j q1 q2 q3 q4 q5 => by rw [hF5 _ _ (by omega), hF4 _ _ (fun z => q1 ⟨z.1, Or.inr z.2⟩) q4 q5, hF3 _ _ (fun z => q1 ⟨z.1, Or.inr z.2⟩) q2 q4 q5, hF2 _ _ (by omega)]; exact z2 a j q1 q2 q3 q4 q5) (z3.cong hW h42) (Bg.fr2 hB4 (fun j => hF5 _ _ (by omega))) (by rw [hF5 _ _ (by omega), hF4 _ _ (by omega) (by omega) (by omega), hF3 _ _ (by omega) (by omega) (by omega) (by omega), hF2 _ _ (by omega), z1, hR]; rfl) (fun v9 hx => oI_inj (hR.symm.trans hx))
      · refine x_aload_n (pc := 82) dX5_behind_82 rfl rfl ?_
        refine x_callV (pc := 83) [] rfl kX5_222 dX5_behind_83 hd.1 rfl rfl (by decide) (Nat.le_of_ble_eq_true rfl) (Nat.le_of_ble_eq_true rfl) (by decide) ?_
        refine sp_X5_rootsInAll hd hb0 hB3 (P := tP (tTerm T x q)) (fun r hr => hT3.1.2.2.2.1 r hr) hWt.2.1 gM (fun M4 hF4 hR4 => ?_)
        have hB4 := hR4.bg
        rw [(gE _ hWt.2.1).2.2]
        have e9 : behF (tTerm T x q) w = allD (buildF (tP (tTerm T x q))) := by unfold behF; rw [if_pos (by omega)]
        rw [← e9]
        refine ⟨_, rfl, ?_⟩
        refine x_goto (pc := 86) (t := 111) dX5_behind_86 (by decide) ?_
        refine x_istore (pc := 111) dX5_behind_111 trivial (by decide) (L' := [(4, _), (0, _), (1, _), (2, _), (3, _)]) rfl ?_
        refine x_aload_n (pc := 113) dX5_behind_113 rfl rfl ?_
        refine x_getr (pc := 114) (b := d + 2) fX5_13 dX5_behind_114 hd.1 rfl rfl ?_
        refine x_iconst (pc := 117) dX5_behind_117 ?_
        refine x_aload_n (pc := 118) dX5_behind_118 rfl rfl ?_
        refine x_getr (pc := 119) (b := d + 1) fX5_7 dX5_behind_119 hd.1 rfl rfl ?_
        refine x_iconst (pc := 122) dX5_behind_122 ?_
        refine x_callS (pc := 123) [_, _, _, _] rfl kX5_180 dX5_behind_123 rfl (by decide) (Nat.le_of_ble_eq_true rfl) (Nat.le_of_ble_eq_true rfl) (by decide) ?_
        refine sp_X5_copies (o1 := 0) (o2 := 0) hd.2.2.1 hd.2.1 (by omega) (by omega) (by omega) (by omega) (by omega) (fun M5 hF5 hw5 => ?_)
        refine ⟨_, rfl, ?_⟩
        refine x_iload (pc := 126) dX5_behind_126 rfl ?_
        refine x_iret (pc := 128) dX5_behind_128 rfl (by decide) (by decide) ?_
        have h42 : ∀ j, j < 280 → M5 (d + 1) j = M1 (d + 1) j := fun j hj => by
          have g1 := hw5 j hj
          have g2 := hw2 j hj
          rw [Nat.zero_add] at g1 g2
          rw [g1, hF4 _ _ (by omega) (by omega) (by omega), hF3 _ _ (by omega) (by omega) (by omega) (by omega), g2]
        exact k M5 _ (fun a j q1 q2 q3 q4 q5 => by rw [hF5 _ _ (by omega), hF4 _ _ (fun z => q1 ⟨z.1, Or.inr z.2⟩) q4 q5, hF3 _ _ (fun z => q1 ⟨z.1, Or.inr z.2⟩) q2 q4 q5, hF2 _ _ (by omega)]; exact z2 a j q1 q2 q3 q4 q5) (z3.cong hW h42) (Bg.fr2 hB4 (fun j => hF5 _ _ (by omega))) (by rw [hF5 _ _ (by omega), hF4 _ _ (by omega) (by omega) (by omega), hF3 _ _ (by omega) (by omega) (by omega) (by omega), hF2 _ _ (by omega), z1, hR]; rfl) (fun v9 hx => oI_inj (hR.symm.trans hx))
    · exfalso; omega
  refine x_aload_n (pc := 0) dX5_behind_0 rfl rfl ?_
  refine x_aload_n (pc := 1) dX5_behind_1 rfl rfl ?_
  refine x_iload_n (pc := 2) dX5_behind_2 rfl rfl ?_
  refine x_callV (pc := 3) [_] rfl kX5_231 dX5_behind_3 hd.1 rfl rfl (by decide) (Nat.le_of_ble_eq_true rfl) (Nat.le_of_ble_eq_true rfl) (by decide) ?_
  refine sp_X5_isPower hd hb0 hT hW hp ?_
  refine ⟨_, rfl, ?_⟩
  refine x_if_ne (pc := 6) (t := 13) dX5_behind_6 (by decide) ⟨by omega, by omega⟩ (fun c6 => ?_) (fun c6 => ?_)
  · refine x_iload_n (pc := 13) dX5_behind_13 rfl rfl ?_
    refine x_callS (pc := 14) [_] rfl kX5_234 dX5_behind_14 rfl (by decide) (Nat.le_of_ble_eq_true rfl) (Nat.le_of_ble_eq_true rfl) (by decide) ?_
    refine sp_X5_isTerm hx ?_
    refine ⟨_, rfl, ?_⟩
    refine x_if_eq (pc := 17) (t := 29) dX5_behind_17 (by decide) ⟨by omega, by omega⟩ (fun c17 => ?_) (fun c17 => ?_)
    · refine x_iconst (pc := 29) dX5_behind_29 ?_
      refine x_goto (pc := 30) (t := 47) dX5_behind_30 (by decide) ?_
      refine X.loc [0, 1, 2, 3] (L' := [(0, _), (1, _), (2, _), (3, _)]) rfl ?_
      first
      | exact good h1 h2 (b1 c26) (by rw [Int.toNat_natCast]; omega) trivial
      | exact bad 1 (by omega) (by unfold rBehind; rw [if_pos (b0 c6)]; rfl)
      | exact bad 2 (by omega) (by unfold rBehind; rw [if_neg (fun z => z (b1 c6)), if_pos (fun z => b0 c17 z.1)]; rfl)
      | exact bad 2 (by omega) (by unfold rBehind; rw [if_neg (fun z => z (b1 c6)), if_pos (fun z => b0 c26 z.2)]; rfl)
      | exact bad 3 (by omega) (by unfold rBehind; rw [if_neg (fun z => z (b1 c6)), if_neg (fun z => z ⟨b1 c17, b1 c26⟩), Int.toNat_natCast, if_pos (by omega)]; rfl)
    · refine x_iload_n (pc := 20) dX5_behind_20 rfl rfl ?_
      refine x_iconst (pc := 21) dX5_behind_21 ?_
      refine x_iconst (pc := 22) dX5_behind_22 ?_
      refine x_callS (pc := 23) [_, _, _] rfl kX5_144 dX5_behind_23 rfl (by decide) (Nat.le_of_ble_eq_true rfl) (Nat.le_of_ble_eq_true rfl) (by decide) ?_
      obtain ⟨hw1, hw2⟩ := hw
      refine sp_X5_in ⟨by omega, by omega⟩ ⟨by omega, by omega⟩ ⟨by omega, by omega⟩ ?_
      refine ⟨_, rfl, ?_⟩
      refine x_if_ne (pc := 26) (t := 33) dX5_behind_26 (by decide) ⟨by omega, by omega⟩ (fun c26 => ?_) (fun c26 => ?_)
      · refine x_aload_n (pc := 33) dX5_behind_33 rfl rfl ?_
        refine x_iload_n (pc := 34) dX5_behind_34 rfl rfl ?_
        refine x_iload_n (pc := 35) dX5_behind_35 rfl rfl ?_
        refine x_callV (pc := 36) [_, _] rfl kX5_225 dX5_behind_36 hd.1 rfl rfl (by decide) (Nat.le_of_ble_eq_true rfl) (Nat.le_of_ble_eq_true rfl) (by decide) ?_
        have w0 := wS.1
        have h1 := b1 c6
        have h2 := b1 c17
        obtain ⟨q, rfl⟩ := Int.eq_ofNat_of_zero_le h1.1
        have hwr := whyLay_rng T x q
        refine sp_X5_whyLay hd hb0 hT hW (by omega) (by omega) h2.1 ?_
        refine ⟨_, rfl, ?_⟩
        refine x_if_le (pc := 39) (t := 46) dX5_behind_39 (by decide) ⟨by omega, by omega⟩ (fun c39 => ?_) (fun c39 => ?_)
        · refine x_iconst (pc := 46) dX5_behind_46 ?_
          refine X.loc [0, 1, 2, 3] (L' := [(0, _), (1, _), (2, _), (3, _)]) rfl ?_
          first
          | exact good h1 h2 (b1 c26) (by rw [Int.toNat_natCast]; omega) trivial
          | exact bad 1 (by omega) (by unfold rBehind; rw [if_pos (b0 c6)]; rfl)
          | exact bad 2 (by omega) (by unfold rBehind; rw [if_neg (fun z => z (b1 c6)), if_pos (fun z => b0 c17 z.1)]; rfl)
          | exact bad 2 (by omega) (by unfold rBehind; rw [if_neg (fun z => z (b1 c6)), if_pos (fun z => b0 c26 z.2)]; rfl)
          | exact bad 3 (by omega) (by unfold rBehind; rw [if_neg (fun z => z (b1 c6)), if_neg (fun z => z ⟨b1 c17, b1 c26⟩), Int.toNat_natCast, if_pos (by omega)]; rfl)
        · refine x_iconst (pc := 42) dX5_behind_42 ?_
          refine x_goto (pc := 43) (t := 47) dX5_behind_43 (by decide) ?_
          refine X.loc [0, 1, 2, 3] (L' := [(0, _), (1, _), (2, _), (3, _)]) rfl ?_
          first
          | exact good h1 h2 (b1 c26) (by rw [Int.toNat_natCast]; omega) trivial
          | exact bad 1 (by omega) (by unfold rBehind; rw [if_pos (b0 c6)]; rfl)
          | exact bad 2 (by omega) (by unfold rBehind; rw [if_neg (fun z => z (b1 c6)), if_pos (fun z => b0 c17 z.1)]; rfl)
          | exact bad 2 (by omega) (by unfold rBehind; rw [if_neg (fun z => z (b1 c6)), if_pos (fun z => b0 c26 z.2)]; rfl)
          | exact bad 3 (by omega) (by unfold rBehind; rw [if_neg (fun z => z (b1 c6)), if_neg (fun z => z ⟨b1 c17, b1 c26⟩), Int.toNat_natCast, if_pos (by omega)]; rfl)
      · refine x_iconst (pc := 29) dX5_behind_29 ?_
        refine x_goto (pc := 30) (t := 47) dX5_behind_30 (by decide) ?_
        refine X.loc [0, 1, 2, 3] (L' := [(0, _), (1, _), (2, _), (3, _)]) rfl ?_
        first
        | exact good h1 h2 (b1 c26) (by rw [Int.toNat_natCast]; omega) trivial
        | exact bad 1 (by omega) (by unfold rBehind; rw [if_pos (b0 c6)]; rfl)
        | exact bad 2 (by omega) (by unfold rBehind; rw [if_neg (fun z => z (b1 c6)), if_pos (fun z => b0 c17 z.1)]; rfl)
        | exact bad 2 (by omega) (by unfold rBehind; rw [if_neg (fun z => z (b1 c6)), if_pos (fun z => b0 c26 z.2)]; rfl)
        | exact bad 3 (by omega) (by unfold rBehind; rw [if_neg (fun z => z (b1 c6)), if_neg (fun z => z ⟨b1 c17, b1 c26⟩), Int.toNat_natCast, if_pos (by omega)]; rfl)
  · refine x_iconst (pc := 9) dX5_behind_9 ?_
    refine x_goto (pc := 10) (t := 47) dX5_behind_10 (by decide) ?_
    refine X.loc [0, 1, 2, 3] (L' := [(0, _), (1, _), (2, _), (3, _)]) rfl ?_
    first
    | exact good h1 h2 (b1 c26) (by rw [Int.toNat_natCast]; omega) trivial
    | exact bad 1 (by omega) (by unfold rBehind; rw [if_pos (b0 c6)]; rfl)
    | exact bad 2 (by omega) (by unfold rBehind; rw [if_neg (fun z => z (b1 c6)), if_pos (fun z => b0 c17 z.1)]; rfl)
    | exact bad 2 (by omega) (by unfold rBehind; rw [if_neg (fun z => z (b1 c6)), if_pos (fun z => b0 c26 z.2)]; rfl)
    | exact bad 3 (by omega) (by unfold rBehind; rw [if_neg (fun z => z (b1 c6)), if_neg (fun z => z ⟨b1 c17, b1 c26⟩), Int.toNat_natCast, if_pos (by omega)]; rfl)
set_option maxRecDepth 100000 in
theorem sp_X5_best {g : GG} {lay : Lay} {M : Mem} {K : KK} {d : Nat} {T : CT} (hd : MoL lay d) (hb0 : g.2.1 ≤ d) (hT : RowT T (M (d + 1))) (hW : WfT T) (hB : ∃ N, Bg N M d) (gM : GoodM) (gE : GoodE) (hO0 : WfO T) (hBO : WfB T) (k : ∀ (M2 : Mem) (v : Int), FrQ d M M2 → RowT T (M2 (d + 1)) → (∃ N, Bg N M2 d) → M2 d 0 = kOf [] (oI (bestF T)) → (∀ v9, (oI (bestF T)) = oI v9 → v = v9) → K (.inl (some (vI v))) lay M2) : X g m_X5_best 0 0 lay M 0 [(0, vR d)] [] K := by
  have hn := hW.n60
  obtain ⟨wS, wP, wN, wm, wK, wL, wO, wB⟩ := id hW
  obtain ⟨⟨hS, hN, h10, hP, hp3, hL, hK, h99, hm⟩, hO, hBo⟩ := id hT
  have w0 := wS.1
  have w2 := wS.2.2.1
  have hm2 : tN T % 2 < 2 := Nat.mod_lt _ (by decide)
  obtain ⟨U, hU⟩ : ∃ U, U = bestF T := ⟨_, rfl⟩
  rw [← hU] at k
  unfold bestF at hU
  have outer : ∀ (c p : Nat) (y f q : Int) (M1 : Mem), p + c = (tS T 0).toNat → y = p → M1 d 0 = 0 → FrQ d M M1 → RowT T (M1 (d + 1)) → (∃ N, Bg N M1 d) → (f, q) = bout T p → X g m_X5_best 0 0 lay M1 17 [(4, vI y), (3, vI ((tN T % 2 : Nat) : Int)), (2, vI q), (1, vI f), (0, vR d)] [] K := by
    intro c
    induction c with
    | zero =>
      intro p y f q M1 hp hy z1 z2 z3 z4 hq
      have e0 : M1 (d + 1) 0 = tS T 0 := z3.1.1 0 (by omega)
      refine x_iload (pc := 17) dX5_best_17 rfl ?_
      refine x_aload_n (pc := 19) dX5_best_19 rfl rfl ?_
      refine x_getr (pc := 20) (b := d + 1) fX5_7 dX5_best_20 hd.1 rfl rfl ?_
      refine x_iconst (pc := 23) dX5_best_23 ?_
      refine x_iald (pc := 24) dX5_best_24 hd.2.1 (by omega) (by omega) (fun r24a r24b => ?_)
      rw [show (0 : Int).toNat = 0 from rfl, e0] at r24a r24b ⊢
      refine x_icmp_ge (pc := 25) (t := 145) dX5_best_25 (by decide) ⟨by omega, by omega⟩ ⟨by omega, by omega⟩ (fun c25 => ?_) (fun c25 => ?_)
      · refine x_iload_n (pc := 145) dX5_best_145 rfl rfl ?_
        refine x_iret (pc := 146) dX5_best_146 rfl (by decide) (by decide) ?_
        rw [show p = (tS T 0).toNat by omega] at hq
        rw [← hq] at hU
        have hU2 : U = f := hU
        rw [hU2] at k
        exact k M1 _ z2 z3 z4 (by rw [z1]; rfl) (fun v9 hx => oI_inj hx)
      · exfalso; omega
    | succ c ih =>
      intro p y f q M1 hp hy z1 z2 z3 z4 hq
      have e0 : M1 (d + 1) 0 = tS T 0 := z3.1.1 0 (by omega)
      subst hy
      have hr0 := bout_rng hW p (by omega)
      have inner : ∀ (d2 n : Nat) (x f q : Int) (M2 : Mem), n + d2 = 19 → x = -9 + (n : Int) → M2 d 0 = 0 → FrQ d M M2 → RowT T (M2 (d + 1)) → (∃ N, Bg N M2 d) → (f, q) = bin T p n (bout T p) → X g m_X5_best 0 0 lay M2 32 [(5, vI x), (4, vI p), (3, vI ((tN T % 2 : Nat) : Int)), (2, vI q), (1, vI f), (0, vR d)] [] K := by
        intro d2
        induction d2 with
        | zero =>
          intro n x f q M2 hn hz z1 z2 z3 z4 hq
          refine x_iload (pc := 32) dX5_best_32 rfl ?_
          refine x_bipush (pc := 34) dX5_best_34 (by decide) ?_
          refine x_icmp_gt (pc := 36) (t := 139) dX5_best_36 (by decide) ⟨by omega, by omega⟩ ⟨by omega, by omega⟩ (fun c36 => ?_) (fun c36 => ?_)
          · refine x_iinc (pc := 139) dX5_best_139 rfl (by decide) (L' := [(4, _), (5, _), (3, _), (2, _), (1, _), (0, _)]) rfl ?_
            refine x_goto (pc := 142) (t := 17) dX5_best_142 (by decide) ?_
            refine X.loc [0, 2, 3, 4, 5] (L' := [(4, _), (3, _), (2, _), (1, _), (0, _)]) rfl ?_
            rw [show n = 19 by omega] at hq
            exact ih (p + 1) _ _ _ M2 (by omega) (by omega) z1 z2 z3 z4 hq
          · exfalso; omega
        | succ d2 ih2 =>
          intro n x f q M1 hn hz z1 z2 z3 z4 hq
          have hr1 := bin_rng (p := p) hW (by omega) hr0 n (by omega)
          rw [← hq] at hr1
          have hwr := whyLay_rng T x p
          have hlr := lead_rng hW (x := x) (p := p) (by omega)
          have hw00 := @why0 T x p hW
          have hnx : bin T p (n + 1) (bout T p) = bstep T p x (f, q) := by
            simp only [bin]
            rw [← hq, hz]
          unfold bstep at hnx
          dsimp only at hr1
          have skip : (x = 0 ∨ whyLayF T x p ≠ 0) → X g m_X5_best 0 0 lay M1 133 [(5, vI x), (4, vI p), (3, vI ((tN T % 2 : Nat) : Int)), (2, vI q), (1, vI f), (0, vR d)] [] K := by
            intro hsk
            rw [if_pos hsk] at hnx
            refine x_iinc (pc := 133) dX5_best_133 rfl (by decide) (L' := [(5, _), (4, _), (3, _), (2, _), (1, _), (0, _)]) rfl ?_
            refine x_goto (pc := 136) (t := 32) dX5_best_136 (by decide) ?_
            refine X.loc [0, 1, 2, 3, 4, 5] (L' := [(5, _), (4, _), (3, _), (2, _), (1, _), (0, _)]) rfl ?_
            exact ih2 (n + 1) _ _ _ M1 (by omega) (by omega) z1 z2 z3 z4 hnx.symm
          refine x_iload (pc := 32) dX5_best_32 rfl ?_
          refine x_bipush (pc := 34) dX5_best_34 (by decide) ?_
          refine x_icmp_gt (pc := 36) (t := 139) dX5_best_36 (by decide) ⟨by omega, by omega⟩ ⟨by omega, by omega⟩ (fun c36 => ?_) (fun c36 => ?_)
          · exfalso; omega
          · refine x_iload (pc := 39) dX5_best_39 rfl ?_
            refine x_if_eq (pc := 41) (t := 133) dX5_best_41 (by decide) ⟨by omega, by omega⟩ (fun c41 => ?_) (fun c41 => ?_)
            · refine X.loc [0, 1, 2, 3, 4, 5] (L' := [(5, _), (4, _), (3, _), (2, _), (1, _), (0, _)]) rfl ?_
              first
              | exact skip (by omega)
              | (refine x_iinc (pc := 133) dX5_best_133 rfl (by decide) (L' := [(5, _), (4, _), (3, _), (2, _), (1, _), (0, _)]) rfl ?_
                 refine x_goto (pc := 136) (t := 32) dX5_best_136 (by decide) ?_
                 rw [if_neg (by omega), if_pos (by dsimp only; omega)] at hnx
                 refine ih2 (n + 1) _ _ _ M5 (by omega) (by omega) y1 y2 y3 y4 ?_
                 rw [hnx])
              | (refine x_iinc (pc := 133) dX5_best_133 rfl (by decide) (L' := [(5, _), (4, _), (3, _), (2, _), (1, _), (0, _)]) rfl ?_
                 refine x_goto (pc := 136) (t := 32) dX5_best_136 (by decide) ?_
                 rw [if_neg (by omega), if_neg (by dsimp only; omega)] at hnx
                 refine ih2 (n + 1) _ _ _ M5 (by omega) (by omega) y1 y2 y3 y4 ?_
                 rw [hnx])
            · refine x_aload_n (pc := 44) dX5_best_44 rfl rfl ?_
              refine x_iload (pc := 45) dX5_best_45 rfl ?_
              refine x_iload (pc := 47) dX5_best_47 rfl ?_
              refine x_callV (pc := 49) [_, _] rfl kX5_225 dX5_best_49 hd.1 rfl rfl (by decide) (Nat.le_of_ble_eq_true rfl) (Nat.le_of_ble_eq_true rfl) (by decide) ?_
              refine sp_X5_whyLay hd hb0 z3 hW (by omega) (by omega) (by omega) ?_
              refine ⟨_, rfl, ?_⟩
              refine x_if_le (pc := 52) (t := 58) dX5_best_52 (by decide) ⟨by omega, by omega⟩ (fun c52 => ?_) (fun c52 => ?_)
              · refine x_aload_n (pc := 58) dX5_best_58 rfl rfl ?_
                refine x_getr (pc := 59) (b := d + 1) fX5_7 dX5_best_59 hd.1 rfl rfl ?_
                refine x_iconst (pc := 62) dX5_best_62 ?_
                refine x_aload_n (pc := 63) dX5_best_63 rfl rfl ?_
                refine x_getr (pc := 64) (b := d + 2) fX5_13 dX5_best_64 hd.1 rfl rfl ?_
                refine x_iconst (pc := 67) dX5_best_67 ?_
                refine x_callS (pc := 68) [_, _, _, _] rfl kX5_180 dX5_best_68 rfl (by decide) (Nat.le_of_ble_eq_true rfl) (Nat.le_of_ble_eq_true rfl) (by decide) ?_
                have hwl : whyLayF T x p = 0 := by omega
                obtain ⟨hw0, hws⟩ := hw00 hwl
                have hz9 := hO0 hw0
                have hlr := hlr hwl
                refine sp_X5_copies (o1 := 0) (o2 := 0) hd.2.1 hd.2.2.1 (by omega) (by omega) (by omega) (by omega) (by omega) (fun M2 hF2 hw2 => ?_)
                have z32 : RowT T (M2 (d + 1)) := z3.fr (fun j => hF2 _ _ (by omega))
                have z42 : ∃ N, Bg N M2 d := Bg.fr2 z4 (fun j => hF2 _ _ (by omega))
                refine ⟨_, rfl, ?_⟩
                refine x_aload_n (pc := 71) dX5_best_71 rfl rfl ?_
                refine x_iload (pc := 72) dX5_best_72 rfl ?_
                refine x_iload (pc := 74) dX5_best_74 rfl ?_
                refine x_callV (pc := 76) [_, _] rfl kX5_228 dX5_best_76 hd.1 rfl rfl (by decide) (Nat.le_of_ble_eq_true rfl) (Nat.le_of_ble_eq_true rfl) (by decide) ?_
                refine sp_X5_laysTerm hd hb0 z32 hW z42 gM gE (by omega) (hO0 hw0) (by omega) (by omega) (by omega) hws (fun M3 hF3 hT3 hB3 => ?_)
                have hWt : WfT (tTerm T x p) := hW.term (by omega) (by omega) hws (hO0 hw0)
                refine ⟨_, rfl, ?_⟩
                refine x_aload_n (pc := 79) dX5_best_79 rfl rfl ?_
                refine x_iload_n (pc := 80) dX5_best_80 rfl rfl ?_
                refine x_callV (pc := 81) [_] rfl kX5_243 dX5_best_81 hd.1 rfl rfl (by decide) (Nat.le_of_ble_eq_true rfl) (Nat.le_of_ble_eq_true rfl) (by decide) ?_
                refine sp_X5_scoreOf (pl := tN T % 2) hd hb0 hT3 hWt hB3 gM gE (by omega) (fun M4 hF4 hB4 => ?_)
                refine ⟨_, rfl, ?_⟩
                refine x_aload_n (pc := 84) dX5_best_84 rfl rfl ?_
                refine x_iconst (pc := 85) dX5_best_85 ?_
                refine x_iload_n (pc := 86) dX5_best_86 rfl rfl ?_
                refine x_isub (pc := 87) dX5_best_87 ?_
                refine x_callV (pc := 88) [_] rfl kX5_243 dX5_best_88 hd.1 rfl rfl (by decide) (Nat.le_of_ble_eq_true rfl) (Nat.le_of_ble_eq_true rfl) (by decide) ?_
                rw [show (1 : Int) - ((tN T % 2 : Nat) : Int) = ((1 - tN T % 2 : Nat) : Int) by omega]
                refine sp_X5_scoreOf (pl := 1 - tN T % 2) hd hb0 (hT3.fr hF4.n) hWt hB4 gM gE (by omega) (fun M6 hF6 hB6 => ?_)
                refine ⟨_, rfl, ?_⟩
                refine x_isub (pc := 91) dX5_best_91 ?_
                rw [← lead_tTerm (by omega) (hBO.1 hw0)]
                refine x_istore (pc := 92) dX5_best_92 trivial (by decide) (L' := [(6, _), (5, _), (4, _), (3, _), (2, _), (1, _), (0, _)]) rfl ?_
                refine x_aload_n (pc := 94) dX5_best_94 rfl rfl ?_
                refine x_getr (pc := 95) (b := d + 2) fX5_13 dX5_best_95 hd.1 rfl rfl ?_
                refine x_iconst (pc := 98) dX5_best_98 ?_
                refine x_aload_n (pc := 99) dX5_best_99 rfl rfl ?_
                refine x_getr (pc := 100) (b := d + 1) fX5_7 dX5_best_100 hd.1 rfl rfl ?_
                refine x_iconst (pc := 103) dX5_best_103 ?_
                refine x_callS (pc := 104) [_, _, _, _] rfl kX5_180 dX5_best_104 rfl (by decide) (Nat.le_of_ble_eq_true rfl) (Nat.le_of_ble_eq_true rfl) (by decide) ?_
                refine sp_X5_copies (o1 := 0) (o2 := 0) hd.2.2.1 hd.2.1 (by omega) (by omega) (by omega) (by omega) (by omega) (fun M5 hF5 hw5 => ?_)
                have h42 : ∀ j, j < 280 → M5 (d + 1) j = M1 (d + 1) j := fun j hj => by
                  have g1 := hw5 j hj
                  have g2 := hw2 j hj
                  rw [Nat.zero_add] at g1 g2
                  rw [g1, hF6 _ _ (by omega) (by omega) (by omega), hF4 _ _ (by omega) (by omega) (by omega), hF3 _ _ (by omega) (by omega) (by omega) (by omega), g2]
                have y2 : FrQ d M M5 := fun a j q1 q2 q3 q4 q5 => by rw [hF5 _ _ (by omega), hF6 _ _ (fun z => q1 ⟨z.1, Or.inr z.2⟩) q4 q5, hF4 _ _ (fun z => q1 ⟨z.1, Or.inr z.2⟩) q4 q5, hF3 _ _ (fun z => q1 ⟨z.1, Or.inr z.2⟩) q2 q4 q5, hF2 _ _ (by omega)]; exact z2 a j q1 q2 q3 q4 q5
                have y3 : RowT T (M5 (d + 1)) := z3.cong hW h42
                have y4 : ∃ N, Bg N M5 d := Bg.fr2 hB6 (fun j => hF5 _ _ (by omega))
                have y1 : M5 d 0 = 0 := by rw [hF5 _ _ (by omega), hF6 _ _ (by omega) (by omega) (by omega), hF4 _ _ (by omega) (by omega) (by omega), hF3 _ _ (by omega) (by omega) (by omega) (by omega), hF2 _ _ (by omega)]; exact z1
                refine ⟨_, rfl, ?_⟩
                refine x_iload_n (pc := 107) dX5_best_107 rfl rfl ?_
                refine x_iconst (pc := 108) dX5_best_108 ?_
                refine x_icmp_eq (pc := 109) (t := 118) dX5_best_109 (by decide) ⟨by omega, by omega⟩ ⟨by omega, by omega⟩ (fun c109 => ?_) (fun c109 => ?_)
                · refine x_bipush (pc := 118) dX5_best_118 (by decide) ?_
                  refine x_iload (pc := 120) dX5_best_120 rfl ?_
                  refine x_imul (pc := 122) dX5_best_122 ?_
                  refine x_iload (pc := 123) dX5_best_123 rfl ?_
                  refine x_iadd (pc := 125) dX5_best_125 ?_
                  refine x_bipush (pc := 126) dX5_best_126 (by decide) ?_
                  refine x_iadd (pc := 128) dX5_best_128 ?_
                  refine x_istore_n (pc := 129) dX5_best_129 rfl (by decide) (L' := [(1, _), (6, _), (5, _), (4, _), (3, _), (2, _), (0, _)]) rfl ?_
                  refine x_iload (pc := 130) dX5_best_130 rfl ?_
                  refine x_istore_n (pc := 132) dX5_best_132 rfl (by decide) (L' := [(2, _), (1, _), (6, _), (5, _), (4, _), (3, _), (0, _)]) rfl ?_
                  refine X.loc [3, 4, 5, 0, 1, 6] (L' := [(5, _), (4, _), (3, _), (2, _), (1, _), (0, _)]) rfl ?_
                  first
                  | exact skip (by omega)
                  | (refine x_iinc (pc := 133) dX5_best_133 rfl (by decide) (L' := [(5, _), (4, _), (3, _), (2, _), (1, _), (0, _)]) rfl ?_
                     refine x_goto (pc := 136) (t := 32) dX5_best_136 (by decide) ?_
                     rw [if_neg (by omega), if_pos (by dsimp only; omega)] at hnx
                     refine ih2 (n + 1) _ _ _ M5 (by omega) (by omega) y1 y2 y3 y4 ?_
                     rw [hnx])
                  | (refine x_iinc (pc := 133) dX5_best_133 rfl (by decide) (L' := [(5, _), (4, _), (3, _), (2, _), (1, _), (0, _)]) rfl ?_
                     refine x_goto (pc := 136) (t := 32) dX5_best_136 (by decide) ?_
                     rw [if_neg (by omega), if_neg (by dsimp only; omega)] at hnx
                     refine ih2 (n + 1) _ _ _ M5 (by omega) (by omega) y1 y2 y3 y4 ?_
                     rw [hnx])
                · refine x_iload (pc := 112) dX5_best_112 rfl ?_
                  refine x_iload_n (pc := 114) dX5_best_114 rfl rfl ?_
                  refine x_icmp_le (pc := 115) (t := 133) dX5_best_115 (by decide) ⟨by omega, by omega⟩ ⟨by omega, by omega⟩ (fun c115 => ?_) (fun c115 => ?_)
                  · refine X.loc [1, 2, 3, 4, 5, 6] (L' := [(5, _), (4, _), (3, _), (2, _), (1, _), (0, _)]) rfl ?_
                    first
                    | exact skip (by omega)
                    | (refine x_iinc (pc := 133) dX5_best_133 rfl (by decide) (L' := [(5, _), (4, _), (3, _), (2, _), (1, _), (0, _)]) rfl ?_
                       refine x_goto (pc := 136) (t := 32) dX5_best_136 (by decide) ?_
                       rw [if_neg (by omega), if_pos (by dsimp only; omega)] at hnx
                       refine ih2 (n + 1) _ _ _ M5 (by omega) (by omega) y1 y2 y3 y4 ?_
                       rw [hnx])
                    | (refine x_iinc (pc := 133) dX5_best_133 rfl (by decide) (L' := [(5, _), (4, _), (3, _), (2, _), (1, _), (0, _)]) rfl ?_
                       refine x_goto (pc := 136) (t := 32) dX5_best_136 (by decide) ?_
                       rw [if_neg (by omega), if_neg (by dsimp only; omega)] at hnx
                       refine ih2 (n + 1) _ _ _ M5 (by omega) (by omega) y1 y2 y3 y4 ?_
                       rw [hnx])
                  · refine x_bipush (pc := 118) dX5_best_118 (by decide) ?_
                    refine x_iload (pc := 120) dX5_best_120 rfl ?_
                    refine x_imul (pc := 122) dX5_best_122 ?_
                    refine x_iload (pc := 123) dX5_best_123 rfl ?_
                    refine x_iadd (pc := 125) dX5_best_125 ?_
                    refine x_bipush (pc := 126) dX5_best_126 (by decide) ?_
                    refine x_iadd (pc := 128) dX5_best_128 ?_
                    refine x_istore_n (pc := 129) dX5_best_129 rfl (by decide) (L' := [(1, _), (6, _), (5, _), (4, _), (3, _), (2, _), (0, _)]) rfl ?_
                    refine x_iload (pc := 130) dX5_best_130 rfl ?_
                    refine x_istore_n (pc := 132) dX5_best_132 rfl (by decide) (L' := [(2, _), (1, _), (6, _), (5, _), (4, _), (3, _), (0, _)]) rfl ?_
                    refine X.loc [3, 4, 5, 0, 1, 6] (L' := [(5, _), (4, _), (3, _), (2, _), (1, _), (0, _)]) rfl ?_
                    first
                    | exact skip (by omega)
                    | (refine x_iinc (pc := 133) dX5_best_133 rfl (by decide) (L' := [(5, _), (4, _), (3, _), (2, _), (1, _), (0, _)]) rfl ?_
                       refine x_goto (pc := 136) (t := 32) dX5_best_136 (by decide) ?_
                       rw [if_neg (by omega), if_pos (by dsimp only; omega)] at hnx
                       refine ih2 (n + 1) _ _ _ M5 (by omega) (by omega) y1 y2 y3 y4 ?_
                       rw [hnx])
                    | (refine x_iinc (pc := 133) dX5_best_133 rfl (by decide) (L' := [(5, _), (4, _), (3, _), (2, _), (1, _), (0, _)]) rfl ?_
                       refine x_goto (pc := 136) (t := 32) dX5_best_136 (by decide) ?_
                       rw [if_neg (by omega), if_neg (by dsimp only; omega)] at hnx
                       refine ih2 (n + 1) _ _ _ M5 (by omega) (by omega) y1 y2 y3 y4 ?_
                       rw [hnx])
              · refine x_goto (pc := 55) (t := 133) dX5_best_55 (by decide) ?_
                refine X.loc [0, 1, 2, 3, 4, 5] (L' := [(5, _), (4, _), (3, _), (2, _), (1, _), (0, _)]) rfl ?_
                first
                | exact skip (by omega)
                | (refine x_iinc (pc := 133) dX5_best_133 rfl (by decide) (L' := [(5, _), (4, _), (3, _), (2, _), (1, _), (0, _)]) rfl ?_
                   refine x_goto (pc := 136) (t := 32) dX5_best_136 (by decide) ?_
                   rw [if_neg (by omega), if_pos (by dsimp only; omega)] at hnx
                   refine ih2 (n + 1) _ _ _ M5 (by omega) (by omega) y1 y2 y3 y4 ?_
                   rw [hnx])
                | (refine x_iinc (pc := 133) dX5_best_133 rfl (by decide) (L' := [(5, _), (4, _), (3, _), (2, _), (1, _), (0, _)]) rfl ?_
                   refine x_goto (pc := 136) (t := 32) dX5_best_136 (by decide) ?_
                   rw [if_neg (by omega), if_neg (by dsimp only; omega)] at hnx
                   refine ih2 (n + 1) _ _ _ M5 (by omega) (by omega) y1 y2 y3 y4 ?_
                   rw [hnx])
      refine x_iload (pc := 17) dX5_best_17 rfl ?_
      refine x_aload_n (pc := 19) dX5_best_19 rfl rfl ?_
      refine x_getr (pc := 20) (b := d + 1) fX5_7 dX5_best_20 hd.1 rfl rfl ?_
      refine x_iconst (pc := 23) dX5_best_23 ?_
      refine x_iald (pc := 24) dX5_best_24 hd.2.1 (by omega) (by omega) (fun r24a r24b => ?_)
      rw [show (0 : Int).toNat = 0 from rfl, e0] at r24a r24b ⊢
      refine x_icmp_ge (pc := 25) (t := 145) dX5_best_25 (by decide) ⟨by omega, by omega⟩ ⟨by omega, by omega⟩ (fun c25 => ?_) (fun c25 => ?_)
      · exfalso; omega
      · refine x_bipush (pc := 28) dX5_best_28 (by decide) ?_
        refine x_istore (pc := 30) dX5_best_30 trivial (by decide) (L' := [(5, _), (4, _), (3, _), (2, _), (1, _), (0, _)]) rfl ?_
        refine X.loc [0, 1, 2, 3, 4, 5] (L' := [(5, _), (4, _), (3, _), (2, _), (1, _), (0, _)]) rfl ?_
        exact inner 19 0 _ _ _ M1 rfl (by omega) z1 z2 z3 z4 hq
  refine x_aload_n (pc := 0) dX5_best_0 rfl rfl ?_
  refine x_iconst (pc := 1) dX5_best_1 ?_
  refine x_puti (pc := 2) fnX5_55 dX5_best_2 hd.1 (by omega) rfl ⟨by omega, by omega⟩ ?_
  refine x_nm (fun M1 hM1 => ?_)
  obtain ⟨z1, z2, z3, z4⟩ := mq hM1 hT hB
  refine x_iconst (pc := 5) dX5_best_5 ?_
  refine x_istore_n (pc := 6) dX5_best_6 rfl (by decide) (L' := [(1, _), (0, _)]) rfl ?_
  refine x_iconst (pc := 7) dX5_best_7 ?_
  refine x_istore_n (pc := 8) dX5_best_8 rfl (by decide) (L' := [(2, _), (1, _), (0, _)]) rfl ?_
  refine x_aload_n (pc := 9) dX5_best_9 rfl rfl ?_
  refine x_callV (pc := 10) [] rfl kX5_152 dX5_best_10 hd.1 rfl rfl (by decide) (Nat.le_of_ble_eq_true rfl) (Nat.le_of_ble_eq_true rfl) (by decide) ?_
  refine sp_X5_whose hd hb0 z3 hW ?_
  refine ⟨_, rfl, ?_⟩
  refine x_istore_n (pc := 13) dX5_best_13 rfl (by decide) (L' := [(3, _), (2, _), (1, _), (0, _)]) rfl ?_
  refine x_iconst (pc := 14) dX5_best_14 ?_
  refine x_istore (pc := 15) dX5_best_15 trivial (by decide) (L' := [(4, _), (3, _), (2, _), (1, _), (0, _)]) rfl ?_
  refine X.loc [0, 1, 2, 3, 4] (L' := [(4, _), (3, _), (2, _), (1, _), (0, _)]) rfl ?_
  exact outer (tS T 0).toNat 0 _ _ _ M1 (by omega) rfl z1 z2 z3 z4 rfl
/-- what an act and its answer may change -/
def FrX (d : Nat) (M M' : Mem) : Prop := ∀ a j, ¬ (a = d ∧ (j = 0 ∨ j = 4 ∨ j = 9)) → ¬ a = d + 1 → ¬ a = d + 2 → ¬ a = d + 3 → ¬ a = d + 6 → ¬ a = d + 7 → ¬ a = d + 8 → M' a j = M a j
theorem FrQ.x {d : Nat} {M M' : Mem} (h : FrQ d M M') : FrX d M M' := fun a j q1 q2 q3 q4 q5 q6 q7 => h a j (fun z => q1 ⟨z.1, by omega⟩) q2 q3 q6 q7
theorem FrX.a {d : Nat} {M M' M'' : Mem} (h : FrX d M M') (h2 : FrA d M' M'') : FrX d M M'' := fun a j q1 q2 q3 q4 q5 q6 q7 => (h2 a j (fun z => q1 ⟨z.1, by omega⟩) q2 q4 q5 q6 q7).trans (h a j q1 q2 q3 q4 q5 q6 q7)
theorem FrA.z {d : Nat} {M M' : Mem} (h : FrA d M M') : M' d 0 = M d 0 := h _ _ (by omega) (by omega) (by omega) (by omega) (by omega) (by omega)

set_option maxRecDepth 100000 in
theorem sp_X5_lay {g : GG} {lay : Lay} {M : Mem} {K : KK} {d : Nat} {T : CT} {H : Nat → CT} {u : Nat} {A : Nat → Int} {x p : Int} (hd : MoL lay d) (hb0 : g.2.1 ≤ d) (hT : RowT T (M (d + 1))) (hW : WfT T) (hB : ∃ N, Bg N M d) (gM : GoodM) (gE : GoodE) (hU : Us H u M d) (hA : Acm A M d) (hO0 : WfO T) (hx : i32 x) (hp : i32 p) (kx : ∀ (M2 : Mem) (v : Int), FrQ d M M2 → RowT T (M2 (d + 1)) → (∃ N, Bg N M2 d) → M2 d 0 = kOf [nIO, nIA] (rWhy T x p) → 0 < M2 d 0 → K (.inl (some (vI v))) lay M2) (k : hasP T p → layab x → ∀ M2, FrX d M M2 → M2 d 0 = 0 → RowT (actLay T x p.toNat) (M2 (d + 1)) → Acm (accF A (whyLayF T x p.toNat)) M2 d → Us (if (whyLayF T x p.toNat) = 0 then pushH H u T else H) (if (whyLayF T x p.toNat) = 0 then pushU u else u) M2 d → (∃ N, Bg N M2 d) → K (.inl (some (vI (whyLayF T x p.toNat)))) lay M2) : X g m_X5_lay 0 0 lay M 0 [(0, vR d), (1, vI x), (2, vI p)] [] K := by
  have hn := hW.n60
  obtain ⟨wS, wP, wN, wm, wK, wL, wO, wB⟩ := id hW
  obtain ⟨⟨hS, hN, h10, hP, hp3, hL, hK, h99, hm⟩, hO, hBo⟩ := id hT
  have y0 := @b01 (hasP T p) inferInstance
  have y1 := @b01 (layab x) inferInstance
  have bad : ∀ t : Int, 0 < t → t = kOf [nIO, nIA] (rWhy T x p) → X g m_X5_lay 0 0 lay M 25 [(0, vR d), (1, vI x), (2, vI p)] [vI t, vR d] K := by
    intro t ht1 ht2
    have ht3 : t ≤ 4 := by rw [ht2]; exact kOf_le2
    refine x_puti (pc := 25) fnX5_55 dX5_lay_25 hd.1 (by omega) rfl ⟨by omega, by omega⟩ ?_
    refine x_nm (fun M1 hM1 => ?_)
    obtain ⟨z1, z2, z3, z4⟩ := mq hM1 hT hB
    refine x_aload_n (pc := 28) dX5_lay_28 rfl rfl ?_
    refine x_geti (pc := 29) fX5_55 dX5_lay_29 hd.1 rfl (fun r29a r29b => ?_)
    try simp (disch := omega) only [mset_same, mset_nea, mset_nei, mcopy_nea, mcopy_in, mcopy_out, Int.reduceToNat, Int.toNat_natCast, Nat.zero_add, Nat.sub_zero] at r29a r29b ⊢
    rw [z1] at r29a r29b ⊢
    refine x_if_le (pc := 32) (t := 39) dX5_lay_32 (by decide) ⟨by omega, by omega⟩ (fun c32 => ?_) (fun c32 => ?_)
    · exfalso; omega
    · refine x_iconst (pc := 35) dX5_lay_35 ?_
      refine x_goto (pc := 36) (t := 45) dX5_lay_36 (by decide) ?_
      refine x_iret (pc := 45) dX5_lay_45 rfl (by decide) (by decide) ?_
      exact kx M1 _ z2 z3 z4 (by rw [z1]; exact ht2) (by rw [z1]; exact ht1)
  have good : hasP T p → layab x → X g m_X5_lay 0 0 lay M 25 [(0, vR d), (1, vI x), (2, vI p)] [vI 0, vR d] K := by
    intro h1 h2
    refine x_puti (pc := 25) fnX5_55 dX5_lay_25 hd.1 (by omega) rfl ⟨by omega, by omega⟩ ?_
    refine x_nm (fun M1 hM1 => ?_)
    obtain ⟨z1, z2, z3, z4⟩ := mq hM1 hT hB
    have hU1 : Us H u M1 d := hU.fr (fun j => z2 _ _ (by omega) (by omega) (by omega) (by omega) (by omega)) (z2 _ _ (by omega) (by omega) (by omega) (by omega) (by omega))
    have hA1 : Acm A M1 d := hA.fr (fun j => z2 _ _ (by omega) (by omega) (by omega) (by omega) (by omega))
    refine x_aload_n (pc := 28) dX5_lay_28 rfl rfl ?_
    refine x_geti (pc := 29) fX5_55 dX5_lay_29 hd.1 rfl (fun r29a r29b => ?_)
    try simp (disch := omega) only [mset_same, mset_nea, mset_nei, mcopy_nea, mcopy_in, mcopy_out, Int.reduceToNat, Int.toNat_natCast, Nat.zero_add, Nat.sub_zero] at r29a r29b ⊢
    rw [z1] at r29a r29b ⊢
    refine x_if_le (pc := 32) (t := 39) dX5_lay_32 (by decide) ⟨by omega, by omega⟩ (fun c32 => ?_) (fun c32 => ?_)
    · refine x_aload_n (pc := 39) dX5_lay_39 rfl rfl ?_
      refine x_iload_n (pc := 40) dX5_lay_40 rfl rfl ?_
      refine x_iload_n (pc := 41) dX5_lay_41 rfl rfl ?_
      refine x_callV (pc := 42) [_, _] rfl kX5_237 dX5_lay_42 hd.1 rfl rfl (by decide) (Nat.le_of_ble_eq_true rfl) (Nat.le_of_ble_eq_true rfl) (by decide) ?_
      have w0 := wS.1
      obtain ⟨q, rfl⟩ := Int.eq_ofNat_of_zero_le h1.1
      rw [Int.toNat_natCast] at k
      refine sp_X5_lays hd hb0 z3 hW hU1 hA1 z4 gM gE hO0 (by omega) (by omega) h2.1 (fun M2 hF2 hT2 hA2 hU2 hB2 => ?_)
      refine ⟨_, rfl, ?_⟩
      refine x_iret (pc := 45) dX5_lay_45 rfl (by decide) (by decide) ?_
      exact k h1 h2 M2 (z2.x.a hF2) (by rw [hF2.z]; exact z1) hT2 hA2 hU2 hB2
    · exfalso; omega
  refine x_aload_n (pc := 0) dX5_lay_0 rfl rfl ?_
  refine x_aload_n (pc := 1) dX5_lay_1 rfl rfl ?_
  refine x_iload_n (pc := 2) dX5_lay_2 rfl rfl ?_
  refine x_callV (pc := 3) [_] rfl kX5_231 dX5_lay_3 hd.1 rfl rfl (by decide) (Nat.le_of_ble_eq_true rfl) (Nat.le_of_ble_eq_true rfl) (by decide) ?_
  refine sp_X5_isPower hd hb0 hT hW hp ?_
  refine ⟨_, rfl, ?_⟩
  refine x_if_ne (pc := 6) (t := 13) dX5_lay_6 (by decide) ⟨by omega, by omega⟩ (fun c6 => ?_) (fun c6 => ?_)
  · refine x_iload_n (pc := 13) dX5_lay_13 rfl rfl ?_
    refine x_callS (pc := 14) [_] rfl kX5_234 dX5_lay_14 rfl (by decide) (Nat.le_of_ble_eq_true rfl) (Nat.le_of_ble_eq_true rfl) (by decide) ?_
    refine sp_X5_isTerm hx ?_
    refine ⟨_, rfl, ?_⟩
    refine x_if_eq (pc := 17) (t := 24) dX5_lay_17 (by decide) ⟨by omega, by omega⟩ (fun c17 => ?_) (fun c17 => ?_)
    · refine x_iconst (pc := 24) dX5_lay_24 ?_
      refine X.loc [0, 1, 2] (L' := [(0, _), (1, _), (2, _)]) rfl ?_
      first
      | exact good (b1 c6) (b1 c17)
      | exact bad 1 (by omega) (by unfold rWhy; rw [if_pos (b0 c6)]; rfl)
      | exact bad 2 (by omega) (by unfold rWhy; rw [if_neg (fun z => z (b1 c6)), if_pos (b0 c17)]; rfl)
    · refine x_iconst (pc := 20) dX5_lay_20 ?_
      refine x_goto (pc := 21) (t := 25) dX5_lay_21 (by decide) ?_
      refine X.loc [0, 1, 2] (L' := [(0, _), (1, _), (2, _)]) rfl ?_
      first
      | exact good (b1 c6) (b1 c17)
      | exact bad 1 (by omega) (by unfold rWhy; rw [if_pos (b0 c6)]; rfl)
      | exact bad 2 (by omega) (by unfold rWhy; rw [if_neg (fun z => z (b1 c6)), if_pos (b0 c17)]; rfl)
  · refine x_iconst (pc := 9) dX5_lay_9 ?_
    refine x_goto (pc := 10) (t := 25) dX5_lay_10 (by decide) ?_
    refine X.loc [0, 1, 2] (L' := [(0, _), (1, _), (2, _)]) rfl ?_
    first
    | exact good (b1 c6) (b1 c17)
    | exact bad 1 (by omega) (by unfold rWhy; rw [if_pos (b0 c6)]; rfl)
    | exact bad 2 (by omega) (by unfold rWhy; rw [if_neg (fun z => z (b1 c6)), if_pos (b0 c17)]; rfl)
set_option maxRecDepth 100000 in
theorem sp_X5_claim {g : GG} {lay : Lay} {M : Mem} {K : KK} {d : Nat} {T : CT} {H : Nat → CT} {u : Nat} {A : Nat → Int} {a y c l s : Int} (hd : MoL lay d) (hb0 : g.2.1 ≤ d) (hT : RowT T (M (d + 1))) (hW : WfT T) (hB : ∃ N, Bg N M d) (gM : GoodM) (gE : GoodE) (hU : Us H u M d) (hA : Acm A M d) (hO0 : WfO T) (ha : i32 a) (hy : i32 y) (hc : i32 c) (hl : l = 0 ∨ l = 1) (hs : i32 s) (kx : ∀ (M2 : Mem) (v : Int), FrQ d M M2 → RowT T (M2 (d + 1)) → (∃ N, Bg N M2 d) → M2 d 0 = kOf [nIA] (if (intvP a y ∧ (0 ≤ c ∧ c ≤ 4) ∧ (1 ≤ s ∧ s ≤ 9)) then oI 0 else eIA) → 0 < M2 d 0 → K (.inl (some (vI v))) lay M2) (k : (intvP a y ∧ (0 ≤ c ∧ c ≤ 4) ∧ (1 ≤ s ∧ s ≤ 9)) → ∀ M2, FrX d M M2 → M2 d 0 = 0 → RowT (actClaim T a y c l s) (M2 (d + 1)) → Acm (accF A (whyClaimF T a y s)) M2 d → Us (if (whyClaimF T a y s) = 0 then pushH H u T else H) (if (whyClaimF T a y s) = 0 then pushU u else u) M2 d → (∃ N, Bg N M2 d) → K (.inl (some (vI (whyClaimF T a y s)))) lay M2) : X g m_X5_claim 0 0 lay M 0 [(0, vR d), (1, vI a), (2, vI y), (3, vI c), (4, vI l), (5, vI s)] [] K := by
  have hn := hW.n60
  obtain ⟨wS, wP, wN, wm, wK, wL, wO, wB⟩ := id hW
  obtain ⟨⟨hS, hN, h10, hP, hp3, hL, hK, h99, hm⟩, hO, hBo⟩ := id hT
  have y0 := @b01 (intvP a y) inferInstance
  have y1 := @b01 (0 ≤ c ∧ c ≤ 4) inferInstance
  have y2 := @b01 (1 ≤ s ∧ s ≤ 9) inferInstance
  have bad : ∀ t : Int, 0 < t → t = kOf [nIA] (if (intvP a y ∧ (0 ≤ c ∧ c ≤ 4) ∧ (1 ≤ s ∧ s ≤ 9)) then oI 0 else eIA) → X g m_X5_claim 0 0 lay M 34 [(0, vR d), (1, vI a), (2, vI y), (3, vI c), (4, vI l), (5, vI s)] [vI t, vR d] K := by
    intro t ht1 ht2
    have ht3 : t ≤ 4 := by rw [ht2]; exact kOf_le1
    refine x_puti (pc := 34) fnX5_55 dX5_claim_34 hd.1 (by omega) rfl ⟨by omega, by omega⟩ ?_
    refine x_nm (fun M1 hM1 => ?_)
    obtain ⟨z1, z2, z3, z4⟩ := mq hM1 hT hB
    refine x_aload_n (pc := 37) dX5_claim_37 rfl rfl ?_
    refine x_geti (pc := 38) fX5_55 dX5_claim_38 hd.1 rfl (fun r38a r38b => ?_)
    try simp (disch := omega) only [mset_same, mset_nea, mset_nei, mcopy_nea, mcopy_in, mcopy_out, Int.reduceToNat, Int.toNat_natCast, Nat.zero_add, Nat.sub_zero] at r38a r38b ⊢
    rw [z1] at r38a r38b ⊢
    refine x_if_le (pc := 41) (t := 48) dX5_claim_41 (by decide) ⟨by omega, by omega⟩ (fun c41 => ?_) (fun c41 => ?_)
    · exfalso; omega
    · refine x_iconst (pc := 44) dX5_claim_44 ?_
      refine x_goto (pc := 45) (t := 67) dX5_claim_45 (by decide) ?_
      refine x_iret (pc := 67) dX5_claim_67 rfl (by decide) (by decide) ?_
      exact kx M1 _ z2 z3 z4 (by rw [z1]; exact ht2) (by rw [z1]; exact ht1)
  have good : (intvP a y ∧ (0 ≤ c ∧ c ≤ 4) ∧ (1 ≤ s ∧ s ≤ 9)) → X g m_X5_claim 0 0 lay M 34 [(0, vR d), (1, vI a), (2, vI y), (3, vI c), (4, vI l), (5, vI s)] [vI 0, vR d] K := by
    intro h1
    refine x_puti (pc := 34) fnX5_55 dX5_claim_34 hd.1 (by omega) rfl ⟨by omega, by omega⟩ ?_
    refine x_nm (fun M1 hM1 => ?_)
    obtain ⟨z1, z2, z3, z4⟩ := mq hM1 hT hB
    have hU1 : Us H u M1 d := hU.fr (fun j => z2 _ _ (by omega) (by omega) (by omega) (by omega) (by omega)) (z2 _ _ (by omega) (by omega) (by omega) (by omega) (by omega))
    have hA1 : Acm A M1 d := hA.fr (fun j => z2 _ _ (by omega) (by omega) (by omega) (by omega) (by omega))
    refine x_aload_n (pc := 37) dX5_claim_37 rfl rfl ?_
    refine x_geti (pc := 38) fX5_55 dX5_claim_38 hd.1 rfl (fun r38a r38b => ?_)
    try simp (disch := omega) only [mset_same, mset_nea, mset_nei, mcopy_nea, mcopy_in, mcopy_out, Int.reduceToNat, Int.toNat_natCast, Nat.zero_add, Nat.sub_zero] at r38a r38b ⊢
    rw [z1] at r38a r38b ⊢
    refine x_if_le (pc := 41) (t := 48) dX5_claim_41 (by decide) ⟨by omega, by omega⟩ (fun c41 => ?_) (fun c41 => ?_)
    · refine x_aload_n (pc := 48) dX5_claim_48 rfl rfl ?_
      refine x_iload_n (pc := 49) dX5_claim_49 rfl rfl ?_
      refine x_iload_n (pc := 50) dX5_claim_50 rfl rfl ?_
      refine x_iload_n (pc := 51) dX5_claim_51 rfl rfl ?_
      refine x_iload (pc := 52) dX5_claim_52 rfl ?_
      refine x_if_eq (pc := 54) (t := 61) dX5_claim_54 (by decide) ⟨by omega, by omega⟩ (fun c54 => ?_) (fun c54 => ?_)
      · refine x_iconst (pc := 61) dX5_claim_61 ?_
        refine x_iload (pc := 62) dX5_claim_62 rfl ?_
        refine x_callV (pc := 64) [_, _, _, _, _] rfl kX5_208 dX5_claim_64 hd.1 rfl rfl (by decide) (Nat.le_of_ble_eq_true rfl) (Nat.le_of_ble_eq_true rfl) (by decide) ?_
        first
        | (have e9 : l = 1 := by omega
           subst e9)
        | (have e9 : l = 0 := by omega
           subst e9)
        refine sp_X5_claims hd hb0 z3 hW hU1 hA1 ⟨h1.1.1.1, h1.1.2.2, h1.1.2.1.2⟩ h1.2.1 (by omega) h1.2.2 (fun M2 hF2 hT2 hA2 hU2 hE2 => ?_)
        refine ⟨_, rfl, ?_⟩
        refine x_iret (pc := 67) dX5_claim_67 rfl (by decide) (by decide) ?_
        exact k h1 M2 (z2.x.a hF2) (by rw [hF2.z]; exact z1) hT2 hA2 hU2 (Bg.fr2 z4 hE2)
      · refine x_iconst (pc := 57) dX5_claim_57 ?_
        refine x_goto (pc := 58) (t := 62) dX5_claim_58 (by decide) ?_
        refine x_iload (pc := 62) dX5_claim_62 rfl ?_
        refine x_callV (pc := 64) [_, _, _, _, _] rfl kX5_208 dX5_claim_64 hd.1 rfl rfl (by decide) (Nat.le_of_ble_eq_true rfl) (Nat.le_of_ble_eq_true rfl) (by decide) ?_
        first
        | (have e9 : l = 1 := by omega
           subst e9)
        | (have e9 : l = 0 := by omega
           subst e9)
        refine sp_X5_claims hd hb0 z3 hW hU1 hA1 ⟨h1.1.1.1, h1.1.2.2, h1.1.2.1.2⟩ h1.2.1 (by omega) h1.2.2 (fun M2 hF2 hT2 hA2 hU2 hE2 => ?_)
        refine ⟨_, rfl, ?_⟩
        refine x_iret (pc := 67) dX5_claim_67 rfl (by decide) (by decide) ?_
        exact k h1 M2 (z2.x.a hF2) (by rw [hF2.z]; exact z1) hT2 hA2 hU2 (Bg.fr2 z4 hE2)
    · exfalso; omega
  refine x_aload_n (pc := 0) dX5_claim_0 rfl rfl ?_
  refine x_iload_n (pc := 1) dX5_claim_1 rfl rfl ?_
  refine x_iload_n (pc := 2) dX5_claim_2 rfl rfl ?_
  refine x_callS (pc := 3) [_, _] rfl kX5_204 dX5_claim_3 rfl (by decide) (Nat.le_of_ble_eq_true rfl) (Nat.le_of_ble_eq_true rfl) (by decide) ?_
  refine sp_X5_areEnds ha hy ?_
  refine ⟨_, rfl, ?_⟩
  refine x_if_eq (pc := 6) (t := 33) dX5_claim_6 (by decide) ⟨by omega, by omega⟩ (fun c6 => ?_) (fun c6 => ?_)
  · refine x_iconst (pc := 33) dX5_claim_33 ?_
    refine X.loc [0, 1, 2, 3, 4, 5] (L' := [(0, _), (1, _), (2, _), (3, _), (4, _), (5, _)]) rfl ?_
    first
    | exact good ⟨b1 c6, b1 c15, b1 c26⟩
    | exact bad 1 (by omega) (by rw [if_neg (fun z => b0 c6 z.1)]; rfl)
    | exact bad 1 (by omega) (by rw [if_neg (fun z => b0 c15 z.2.1)]; rfl)
    | exact bad 1 (by omega) (by rw [if_neg (fun z => b0 c26 z.2.2)]; rfl)
  · refine x_iload_n (pc := 9) dX5_claim_9 rfl rfl ?_
    refine x_iconst (pc := 10) dX5_claim_10 ?_
    refine x_iconst (pc := 11) dX5_claim_11 ?_
    refine x_callS (pc := 12) [_, _, _] rfl kX5_144 dX5_claim_12 rfl (by decide) (Nat.le_of_ble_eq_true rfl) (Nat.le_of_ble_eq_true rfl) (by decide) ?_
    obtain ⟨hc1, hc2⟩ := hc
    refine sp_X5_in ⟨by omega, by omega⟩ ⟨by omega, by omega⟩ ⟨by omega, by omega⟩ ?_
    refine ⟨_, rfl, ?_⟩
    refine x_if_eq (pc := 15) (t := 33) dX5_claim_15 (by decide) ⟨by omega, by omega⟩ (fun c15 => ?_) (fun c15 => ?_)
    · refine x_iconst (pc := 33) dX5_claim_33 ?_
      refine X.loc [0, 1, 2, 3, 4, 5] (L' := [(0, _), (1, _), (2, _), (3, _), (4, _), (5, _)]) rfl ?_
      first
      | exact good ⟨b1 c6, b1 c15, b1 c26⟩
      | exact bad 1 (by omega) (by rw [if_neg (fun z => b0 c6 z.1)]; rfl)
      | exact bad 1 (by omega) (by rw [if_neg (fun z => b0 c15 z.2.1)]; rfl)
      | exact bad 1 (by omega) (by rw [if_neg (fun z => b0 c26 z.2.2)]; rfl)
    · refine x_iload (pc := 18) dX5_claim_18 rfl ?_
      refine x_iconst (pc := 20) dX5_claim_20 ?_
      refine x_bipush (pc := 21) dX5_claim_21 (by decide) ?_
      refine x_callS (pc := 23) [_, _, _] rfl kX5_144 dX5_claim_23 rfl (by decide) (Nat.le_of_ble_eq_true rfl) (Nat.le_of_ble_eq_true rfl) (by decide) ?_
      obtain ⟨hs1, hs2⟩ := hs
      refine sp_X5_in ⟨by omega, by omega⟩ ⟨by omega, by omega⟩ ⟨by omega, by omega⟩ ?_
      refine ⟨_, rfl, ?_⟩
      refine x_if_eq (pc := 26) (t := 33) dX5_claim_26 (by decide) ⟨by omega, by omega⟩ (fun c26 => ?_) (fun c26 => ?_)
      · refine x_iconst (pc := 33) dX5_claim_33 ?_
        refine X.loc [0, 1, 2, 3, 4, 5] (L' := [(0, _), (1, _), (2, _), (3, _), (4, _), (5, _)]) rfl ?_
        first
        | exact good ⟨b1 c6, b1 c15, b1 c26⟩
        | exact bad 1 (by omega) (by rw [if_neg (fun z => b0 c6 z.1)]; rfl)
        | exact bad 1 (by omega) (by rw [if_neg (fun z => b0 c15 z.2.1)]; rfl)
        | exact bad 1 (by omega) (by rw [if_neg (fun z => b0 c26 z.2.2)]; rfl)
      · refine x_iconst (pc := 29) dX5_claim_29 ?_
        refine x_goto (pc := 30) (t := 34) dX5_claim_30 (by decide) ?_
        refine X.loc [0, 1, 2, 3, 4, 5] (L' := [(0, _), (1, _), (2, _), (3, _), (4, _), (5, _)]) rfl ?_
        first
        | exact good ⟨b1 c6, b1 c15, b1 c26⟩
        | exact bad 1 (by omega) (by rw [if_neg (fun z => b0 c6 z.1)]; rfl)
        | exact bad 1 (by omega) (by rw [if_neg (fun z => b0 c15 z.2.1)]; rfl)
        | exact bad 1 (by omega) (by rw [if_neg (fun z => b0 c26 z.2.2)]; rfl)
set_option maxRecDepth 100000 in
theorem sp_X5_pass {g : GG} {lay : Lay} {M : Mem} {K : KK} {d : Nat} {T : CT} {H : Nat → CT} {u : Nat} {A : Nat → Int} (hd : MoL lay d) (hb0 : g.2.1 ≤ d) (hT : RowT T (M (d + 1))) (hW : WfT T) (hB : ∃ N, Bg N M d) (gM : GoodM) (gE : GoodE) (hU : Us H u M d) (hA : Acm A M d) (hO0 : WfO T) (k : True → ∀ M2, FrX d M M2 → M2 d 0 = 0 → RowT (actPass T) (M2 (d + 1)) → Acm (accF A (if tO T = 1 then 1 else 0 : Int)) M2 d → Us (if (if tO T = 1 then 1 else 0 : Int) = 0 then pushH H u T else H) (if (if tO T = 1 then 1 else 0 : Int) = 0 then pushU u else u) M2 d → (∃ N, Bg N M2 d) → K (.inl (some (vI (if tO T = 1 then 1 else 0 : Int)))) lay M2) : X g m_X5_pass 0 0 lay M 0 [(0, vR d)] [] K := by
  have hn := hW.n60
  obtain ⟨wS, wP, wN, wm, wK, wL, wO, wB⟩ := id hW
  obtain ⟨⟨hS, hN, h10, hP, hp3, hL, hK, h99, hm⟩, hO, hBo⟩ := id hT
  refine x_aload_n (pc := 0) dX5_pass_0 rfl rfl ?_
  refine x_iconst (pc := 1) dX5_pass_1 ?_
  refine x_puti (pc := 2) fnX5_55 dX5_pass_2 hd.1 (by omega) rfl ⟨by omega, by omega⟩ ?_
  refine x_nm (fun M1 hM1 => ?_)
  obtain ⟨z1, z2, z3, z4⟩ := mq hM1 hT hB
  have hU1 : Us H u M1 d := hU.fr (fun j => z2 _ _ (by omega) (by omega) (by omega) (by omega) (by omega)) (z2 _ _ (by omega) (by omega) (by omega) (by omega) (by omega))
  have hA1 : Acm A M1 d := hA.fr (fun j => z2 _ _ (by omega) (by omega) (by omega) (by omega) (by omega))
  refine x_aload_n (pc := 5) dX5_pass_5 rfl rfl ?_
  refine x_callV (pc := 6) [] rfl kX5_240 dX5_pass_6 hd.1 rfl rfl (by decide) (Nat.le_of_ble_eq_true rfl) (Nat.le_of_ble_eq_true rfl) (by decide) ?_
  refine sp_X5_passes hd hb0 z3 hW hU1 hA1 z4 gM gE hO0 (fun M2 hF2 hT2 hA2 hU2 hB2 => ?_)
  refine ⟨_, rfl, ?_⟩
  refine x_iret (pc := 9) dX5_pass_9 rfl (by decide) (by decide) ?_
  exact k trivial M2 (z2.x.a hF2) (by rw [hF2.z]; exact z1) hT2 hA2 hU2 hB2
