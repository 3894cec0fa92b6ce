/-! The reference: claims that are right, scores. -/
/-- the reference's rows tell what the class's rows tell -/
def SameQ (s t : RS) : Prop := s.1 = t.1 ∧ (∀ x, -20 ≤ x → x ≤ 20 → mCh s x 0 1 = cUp t x 0) ∧ mAll s = allD t
def GoodE : Prop := ∀ P, WfP P → SameQ (mRows P) (buildF P)
theorem RowT.fr {T : CT} {M M2 : Mem} {d : Nat} (h : RowT T (M (d + 1))) (e : ∀ j, M2 (d + 1) j = M (d + 1) j) : RowT T (M2 (d + 1)) := by
  rw [show M2 (d + 1) = M (d + 1) from funext e]
  exact h
theorem FrL.n {d : Nat} {M M2 : Mem} (h : FrL d M M2) (j : Nat) : M2 (d + 1) j = M (d + 1) j := h _ _ (by omega) (by omega) (by omega)
theorem Frm.n {d : Nat} {M M2 : Mem} (h : Frm (d + 7) (d + 8) M M2) (j : Nat) : M2 (d + 1) j = M (d + 1) j := h _ _ (by omega)
theorem Mr.bg {s : RS} {M : Mem} {d : Nat} (h : Mr s M d) : ∃ N, Bg N M d := h.elim (fun N hN => ⟨N, hN.1⟩)

set_option maxRecDepth 100000 in
theorem sp_X5_isRight {g : GG} {lay : Lay} {M : Mem} {K : KK} {d : Nat} {T : CT} {pl i : Nat} (hd : MoL lay d) (hb0 : g.2.1 ≤ d) (hT : RowT T (M (d + 1))) (hW : WfT T) (hR : Mr (mRows (tP T)) M d) (gM : GoodM) (gE : GoodE) (hpl : pl < 2) (hi : i < tK T pl) (k : ∀ M2, Frm (d + 7) (d + 8) M M2 → Mr (mRows (tP T)) M2 d → K (.inl (some (vI (if rightP (buildF (tP T)) (tL T pl i) then 1 else 0)))) lay M2) : X g m_X5_isRight 0 0 lay M 0 [(0, vR d), (1, vI (47 + 24 * (pl : Int) + 6 * (i : Int)))] [] K := by
  have hn := hW.n60
  obtain ⟨wS, wP, wN, wm, wK, wL, wO, wB⟩ := id hW
  obtain ⟨⟨hS, hN, h10, hP, hp3, hL, hK, h99, hm⟩, hO, hBo⟩ := id hT
  have wk := wK pl
  obtain ⟨E1, E2, -⟩ := gE _ wP
  have h9 : M d 9 = (buildF (tP T)).1 := by rw [← E1]; exact hR.elim (fun _ h => h.2.1)
  have h5 := (gM _ wP).2.1
  rw [E1] at h5
  have l0 := hL pl i 0 hpl hi (by omega)
  have l1 := hL pl i 1 hpl hi (by omega)
  have l2 := hL pl i 2 hpl hi (by omega)
  have l3 := hL pl i 3 hpl hi (by omega)
  have wl := wL pl i hpl hi
  unfold WfL at wl
  have c0 := E2 (tL T pl i 0) (by omega) (by omega)
  have c1 := E2 (tL T pl i 1) (by omega) (by omega)
  have q0 := cUp_rng (buildF (tP T)) (tL T pl i 0) 0
  have q1 := cUp_rng (buildF (tP T)) (tL T pl i 1) 0
  refine x_aload_n (pc := 0) dX5_isRight_0 rfl rfl ?_
  refine x_geti (pc := 1) fX5_106 dX5_isRight_1 hd.1 rfl (fun r1a r1b => ?_)
  rw [h9] at r1a r1b ⊢
  refine x_if_ne (pc := 4) (t := 9) dX5_isRight_4 (by decide) ⟨by omega, by omega⟩ (fun c4 => ?_) (fun c4 => ?_)
  · refine x_aload_n (pc := 9) dX5_isRight_9 rfl rfl ?_
    refine x_aload_n (pc := 10) dX5_isRight_10 rfl rfl ?_
    refine x_getr (pc := 11) (b := d + 1) fX5_7 dX5_isRight_11 hd.1 rfl rfl ?_
    refine x_iload_n (pc := 14) dX5_isRight_14 rfl rfl ?_
    refine x_iald (pc := 15) dX5_isRight_15 hd.2.1 (by omega) (by omega) (fun r15a r15b => ?_)
    rw [show (47 + 24 * (pl : Int) + 6 * (i : Int)).toNat = 47 + 24 * pl + 6 * i + 0 by omega, l0] at r15a r15b ⊢
    refine x_aload_n (pc := 16) dX5_isRight_16 rfl rfl ?_
    refine x_getr (pc := 17) (b := d + 1) fX5_7 dX5_isRight_17 hd.1 rfl rfl ?_
    refine x_iload_n (pc := 20) dX5_isRight_20 rfl rfl ?_
    refine x_iconst (pc := 21) dX5_isRight_21 ?_
    refine x_iadd (pc := 22) dX5_isRight_22 ?_
    refine x_iald (pc := 23) dX5_isRight_23 hd.2.1 (by omega) (by omega) (fun r23a r23b => ?_)
    rw [show (47 + 24 * (pl : Int) + 6 * (i : Int) + 1).toNat = 47 + 24 * pl + 6 * i + 1 by omega, l1] at r23a r23b ⊢
    refine x_callV (pc := 24) [_, _] rfl kX5_129 dX5_isRight_24 hd.1 rfl rfl (by decide) (Nat.le_of_ble_eq_true rfl) (Nat.le_of_ble_eq_true rfl) (by decide) ?_
    refine sp_X5_rootsFrom hd hb0 hR (gM _ wP).2 (by omega) (by omega) (fun M2 hF2 hR2 => ?_)
    rw [c0, c1]
    refine ⟨_, rfl, ?_⟩
    refine x_istore_n (pc := 27) dX5_isRight_27 rfl (by decide) (L' := [(2, _), (0, _), (1, _)]) rfl ?_
    refine x_aload_n (pc := 28) dX5_isRight_28 rfl rfl ?_
    refine x_getr (pc := 29) (b := d + 1) fX5_7 dX5_isRight_29 hd.1 rfl rfl ?_
    refine x_iload_n (pc := 32) dX5_isRight_32 rfl rfl ?_
    refine x_iconst (pc := 33) dX5_isRight_33 ?_
    refine x_iadd (pc := 34) dX5_isRight_34 ?_
    refine x_iald (pc := 35) dX5_isRight_35 hd.2.1 (by omega) (by omega) (fun r35a r35b => ?_)
    rw [hF2.n, show (47 + 24 * (pl : Int) + 6 * (i : Int) + 3).toNat = 47 + 24 * pl + 6 * i + 3 by omega, l3] at r35a r35b ⊢
    refine x_iconst (pc := 36) dX5_isRight_36 ?_
    refine x_icmp_ne (pc := 37) (t := 60) dX5_isRight_37 (by decide) ⟨by omega, by omega⟩ ⟨by omega, by omega⟩ (fun c37 => ?_) (fun c37 => ?_)
    · refine x_iload_n (pc := 60) dX5_isRight_60 rfl rfl ?_
      refine x_aload_n (pc := 61) dX5_isRight_61 rfl rfl ?_
      refine x_getr (pc := 62) (b := d + 1) fX5_7 dX5_isRight_62 hd.1 rfl rfl ?_
      refine x_iload_n (pc := 65) dX5_isRight_65 rfl rfl ?_
      refine x_iconst (pc := 66) dX5_isRight_66 ?_
      refine x_iadd (pc := 67) dX5_isRight_67 ?_
      refine x_iald (pc := 68) dX5_isRight_68 hd.2.1 (by omega) (by omega) (fun r68a r68b => ?_)
      rw [hF2.n, show (47 + 24 * (pl : Int) + 6 * (i : Int) + 2).toNat = 47 + 24 * pl + 6 * i + 2 by omega, l2] at r68a r68b ⊢
      refine x_icmp_ne (pc := 69) (t := 76) dX5_isRight_69 (by decide) ⟨by omega, by omega⟩ ⟨by omega, by omega⟩ (fun c69 => ?_) (fun c69 => ?_)
      · refine x_iconst (pc := 76) dX5_isRight_76 ?_
        refine x_zret (pc := 77) dX5_isRight_77 rfl ⟨by omega, by omega⟩ (by decide) (by decide) ?_
        refine kI (k M2 hF2 hR2) ?_
        clear k hS hP hp3 hL hK hm wS wP wm wK wL hT hW E2 c0 c1 gM gE
        grind
      · refine x_iconst (pc := 72) dX5_isRight_72 ?_
        refine x_goto (pc := 73) (t := 77) dX5_isRight_73 (by decide) ?_
        refine x_zret (pc := 77) dX5_isRight_77 rfl ⟨by omega, by omega⟩ (by decide) (by decide) ?_
        refine kI (k M2 hF2 hR2) ?_
        clear k hS hP hp3 hL hK hm wS wP wm wK wL hT hW E2 c0 c1 gM gE
        grind
    · refine x_iload_n (pc := 40) dX5_isRight_40 rfl rfl ?_
      refine x_aload_n (pc := 41) dX5_isRight_41 rfl rfl ?_
      refine x_getr (pc := 42) (b := d + 1) fX5_7 dX5_isRight_42 hd.1 rfl rfl ?_
      refine x_iload_n (pc := 45) dX5_isRight_45 rfl rfl ?_
      refine x_iconst (pc := 46) dX5_isRight_46 ?_
      refine x_iadd (pc := 47) dX5_isRight_47 ?_
      refine x_iald (pc := 48) dX5_isRight_48 hd.2.1 (by omega) (by omega) (fun r48a r48b => ?_)
      rw [hF2.n, show (47 + 24 * (pl : Int) + 6 * (i : Int) + 2).toNat = 47 + 24 * pl + 6 * i + 2 by omega, l2] at r48a r48b ⊢
      refine x_icmp_lt (pc := 49) (t := 56) dX5_isRight_49 (by decide) ⟨by omega, by omega⟩ ⟨by omega, by omega⟩ (fun c49 => ?_) (fun c49 => ?_)
      · refine x_iconst (pc := 56) dX5_isRight_56 ?_
        refine x_goto (pc := 57) (t := 77) dX5_isRight_57 (by decide) ?_
        refine x_zret (pc := 77) dX5_isRight_77 rfl ⟨by omega, by omega⟩ (by decide) (by decide) ?_
        refine kI (k M2 hF2 hR2) ?_
        clear k hS hP hp3 hL hK hm wS wP wm wK wL hT hW E2 c0 c1 gM gE
        grind
      · refine x_iconst (pc := 52) dX5_isRight_52 ?_
        refine x_goto (pc := 53) (t := 77) dX5_isRight_53 (by decide) ?_
        refine x_zret (pc := 77) dX5_isRight_77 rfl ⟨by omega, by omega⟩ (by decide) (by decide) ?_
        refine kI (k M2 hF2 hR2) ?_
        clear k hS hP hp3 hL hK hm wS wP wm wK wL hT hW E2 c0 c1 gM gE
        grind
  · refine x_iconst (pc := 7) dX5_isRight_7 ?_
    refine x_zret (pc := 8) dX5_isRight_8 rfl ⟨by omega, by omega⟩ (by decide) (by decide) ?_
    have k9 := k M Frm.rf hR
    rw [if_neg (fun z => z.1 (by omega))] at k9
    exact k9
set_option maxRecDepth 100000 in
theorem sp_X5_rightOnes {g : GG} {lay : Lay} {M : Mem} {K : KK} {d : Nat} {T : CT} {pl : Nat} (hd : MoL lay d) (hb0 : g.2.1 ≤ d) (hT : RowT T (M (d + 1))) (hW : WfT T) (hB : ∃ N, Bg N M d) (gM : GoodM) (gE : GoodE) (hpl : pl < 2) (k : ∀ M2, FrL d M M2 → (∃ N, Bg N M2 d) → K (.inl (some (vI (rightN (buildF (tP T)) (tL T pl) (tK T pl))))) lay M2) : X g m_X5_rightOnes 0 0 lay M 0 [(0, vR d), (1, vI pl)] [] K := by
  have hn := hW.n60
  obtain ⟨wS, wP, wN, wm, wK, wL, wO, wB⟩ := id hW
  obtain ⟨⟨hS, hN, h10, hP, hp3, hL, hK, h99, hm⟩, hO, hBo⟩ := id hT
  have wk := wK pl
  have hrng := fun n (_ : n ≤ tK T pl) => rightN_rng (buildF (tP T)) (tL T pl) n
  have loop : ∀ (c j : Nat) (x acc : Int) (M1 : Mem), j + c = tK T pl → x = j → acc = rightN (buildF (tP T)) (tL T pl) j → FrL d M M1 → (0 < tK T pl → Mr (mRows (tP T)) M1 d) → (∃ N, Bg N M1 d) → X g m_X5_rightOnes 0 0 lay M1 8 [(3, vI x), (2, vI acc), (0, vR d), (1, vI pl)] [] K := by
    intro c
    induction c with
    | zero =>
      intro j x acc M1 hj hx ha hF hR1 hB1
      have hT1 := hT.fr hF.n
      refine x_iload_n (pc := 8) dX5_rightOnes_8 rfl rfl ?_
      refine x_aload_n (pc := 9) dX5_rightOnes_9 rfl rfl ?_
      refine x_iload_n (pc := 10) dX5_rightOnes_10 rfl rfl ?_
      refine x_callV (pc := 11) [_] rfl kX5_155 dX5_rightOnes_11 hd.1 rfl rfl (by decide) (Nat.le_of_ble_eq_true rfl) (Nat.le_of_ble_eq_true rfl) (by decide) ?_
      refine sp_X5_claimsOf hd hb0 hT1 hW hpl ?_
      refine ⟨_, rfl, ?_⟩
      refine x_icmp_ge (pc := 14) (t := 43) dX5_rightOnes_14 (by decide) ⟨by omega, by omega⟩ ⟨by omega, by omega⟩ (fun c14 => ?_) (fun c14 => ?_)
      · refine x_iload_n (pc := 43) dX5_rightOnes_43 rfl rfl ?_
        refine x_iret (pc := 44) dX5_rightOnes_44 rfl (by decide) (by decide) ?_
        rw [show j = tK T pl by omega] at ha
        rw [ha]
        exact k M1 hF hB1
      · exfalso; omega
    | succ c ih =>
      intro j x acc M1 hj hx ha hF hR1 hB1
      have hT1 := hT.fr hF.n
      have hrj := hrng j (by omega)
      have hz := @b01 (rightP (buildF (tP T)) (tL T pl j)) inferInstance
      
      refine x_iload_n (pc := 8) dX5_rightOnes_8 rfl rfl ?_
      refine x_aload_n (pc := 9) dX5_rightOnes_9 rfl rfl ?_
      refine x_iload_n (pc := 10) dX5_rightOnes_10 rfl rfl ?_
      refine x_callV (pc := 11) [_] rfl kX5_155 dX5_rightOnes_11 hd.1 rfl rfl (by decide) (Nat.le_of_ble_eq_true rfl) (Nat.le_of_ble_eq_true rfl) (by decide) ?_
      refine sp_X5_claimsOf hd hb0 hT1 hW hpl ?_
      refine ⟨_, rfl, ?_⟩
      refine x_icmp_ge (pc := 14) (t := 43) dX5_rightOnes_14 (by decide) ⟨by omega, by omega⟩ ⟨by omega, by omega⟩ (fun c14 => ?_) (fun c14 => ?_)
      · exfalso; omega
      · refine x_iload_n (pc := 17) dX5_rightOnes_17 rfl rfl ?_
        refine x_aload_n (pc := 18) dX5_rightOnes_18 rfl rfl ?_
        refine x_iload_n (pc := 19) dX5_rightOnes_19 rfl rfl ?_
        refine x_iload_n (pc := 20) dX5_rightOnes_20 rfl rfl ?_
        refine x_callS (pc := 21) [_, _] rfl kX5_158 dX5_rightOnes_21 rfl (by decide) (Nat.le_of_ble_eq_true rfl) (Nat.le_of_ble_eq_true rfl) (by decide) ?_
        refine sp_X5_claimAt ?_
        refine ⟨_, rfl, ?_⟩
        refine x_callV (pc := 24) [_] rfl kX5_161 dX5_rightOnes_24 hd.1 rfl rfl (by decide) (Nat.le_of_ble_eq_true rfl) (Nat.le_of_ble_eq_true rfl) (by decide) ?_
        rw [hx]
        refine sp_X5_isRight hd hb0 hT1 hW (hR1 (by omega)) gM gE hpl (by omega) (fun M2 hF2 hR2 => ?_)
        refine ⟨_, rfl, ?_⟩
        refine x_if_eq (pc := 27) (t := 34) dX5_rightOnes_27 (by decide) ⟨by omega, by omega⟩ (fun c27 => ?_) (fun c27 => ?_)
        · refine x_iconst (pc := 34) dX5_rightOnes_34 ?_
          refine x_iadd (pc := 35) dX5_rightOnes_35 ?_
          refine x_istore_n (pc := 36) dX5_rightOnes_36 rfl (by decide) (L' := [(2, _), (3, _), (0, _), (1, _)]) rfl ?_
          refine x_iinc (pc := 37) dX5_rightOnes_37 rfl (by decide) (L' := [(3, _), (2, _), (0, _), (1, _)]) rfl ?_
          refine x_goto (pc := 40) (t := 8) dX5_rightOnes_40 (by decide) ?_
          refine X.loc [0, 1, 2, 3] (L' := [(3, _), (2, _), (0, _), (1, _)]) rfl ?_
          refine ih (j + 1) _ _ M2 (by omega) (by omega) ?_ (hF.fr hF2) (fun _ => hR2) hR2.bg
          simp only [rightN]
          first
          | (rw [if_pos (b1 c27)]; omega)
          | (rw [if_neg (b0 c27)]; omega)
        · refine x_iconst (pc := 30) dX5_rightOnes_30 ?_
          refine x_goto (pc := 31) (t := 35) dX5_rightOnes_31 (by decide) ?_
          refine x_iadd (pc := 35) dX5_rightOnes_35 ?_
          refine x_istore_n (pc := 36) dX5_rightOnes_36 rfl (by decide) (L' := [(2, _), (3, _), (0, _), (1, _)]) rfl ?_
          refine x_iinc (pc := 37) dX5_rightOnes_37 rfl (by decide) (L' := [(3, _), (2, _), (0, _), (1, _)]) rfl ?_
          refine x_goto (pc := 40) (t := 8) dX5_rightOnes_40 (by decide) ?_
          refine X.loc [0, 1, 2, 3] (L' := [(3, _), (2, _), (0, _), (1, _)]) rfl ?_
          refine ih (j + 1) _ _ M2 (by omega) (by omega) ?_ (hF.fr hF2) (fun _ => hR2) hR2.bg
          simp only [rightN]
          first
          | (rw [if_pos (b1 c27)]; omega)
          | (rw [if_neg (b0 c27)]; omega)
  refine x_aload_n (pc := 0) dX5_rightOnes_0 rfl rfl ?_
  refine x_callV (pc := 1) [] rfl kX5_126 dX5_rightOnes_1 hd.1 rfl rfl (by decide) (Nat.le_of_ble_eq_true rfl) (Nat.le_of_ble_eq_true rfl) (by decide) ?_
  refine sp_X5_laysRows hd hb0 hB hP (fun p _ => by have := wP p; omega) (gM _ wP).1 (fun M2 hF2 hR2 => ?_)
  refine ⟨_, rfl, ?_⟩
  refine x_iconst (pc := 4) dX5_rightOnes_4 ?_
  refine x_istore_n (pc := 5) dX5_rightOnes_5 rfl (by decide) (L' := [(2, _), (0, _), (1, _)]) rfl ?_
  refine x_iconst (pc := 6) dX5_rightOnes_6 ?_
  refine x_istore_n (pc := 7) dX5_rightOnes_7 rfl (by decide) (L' := [(3, _), (2, _), (0, _), (1, _)]) rfl ?_
  refine X.loc [0, 1, 2, 3] (L' := [(3, _), (2, _), (0, _), (1, _)]) rfl ?_
  exact loop (tK T pl) 0 _ _ M2 (by omega) rfl rfl hF2 (fun _ => hR2) hR2.bg
set_option maxRecDepth 100000 in
theorem sp_X5_claimsBring {g : GG} {lay : Lay} {M : Mem} {K : KK} {d : Nat} {T : CT} {pl : Nat} (hd : MoL lay d) (hb0 : g.2.1 ≤ d) (hT : RowT T (M (d + 1))) (hW : WfT T) (hB : ∃ N, Bg N M d) (gM : GoodM) (gE : GoodE) (hpl : pl < 2) (k : ∀ M2, FrL d M M2 → (∃ N, Bg N M2 d) → K (.inl (some (vI (claimPt (buildF (tP T)) (tL T pl) (tK T pl))))) lay M2) : X g m_X5_claimsBring 0 0 lay M 0 [(0, vR d), (1, vI pl)] [] K := by
  have hn := hW.n60
  obtain ⟨wS, wP, wN, wm, wK, wL, wO, wB⟩ := id hW
  obtain ⟨⟨hS, hN, h10, hP, hp3, hL, hK, h99, hm⟩, hO, hBo⟩ := id hT
  have wk := wK pl
  have hst := fun i hi => (by have := wL pl i hpl hi; unfold WfL at this; omega : 1 ≤ tL T pl i 4 ∧ tL T pl i 4 ≤ 9)
  have hrng := claimPt_rng (buildF (tP T)) (tL T pl) (tK T pl) hst
  have loop : ∀ (c j : Nat) (x acc : Int) (M1 : Mem), j + c = tK T pl → x = j → acc = claimPt (buildF (tP T)) (tL T pl) j → FrL d M M1 → (0 < tK T pl → Mr (mRows (tP T)) M1 d) → (∃ N, Bg N M1 d) → X g m_X5_claimsBring 0 0 lay M1 16 [(3, vI x), (2, vI acc), (0, vR d), (1, vI pl)] [] K := by
    intro c
    induction c with
    | zero =>
      intro j x acc M1 hj hx ha hF hR1 hB1
      have hT1 := hT.fr hF.n
      refine x_iload_n (pc := 16) dX5_claimsBring_16 rfl rfl ?_
      refine x_aload_n (pc := 17) dX5_claimsBring_17 rfl rfl ?_
      refine x_iload_n (pc := 18) dX5_claimsBring_18 rfl rfl ?_
      refine x_callV (pc := 19) [_] rfl kX5_155 dX5_claimsBring_19 hd.1 rfl rfl (by decide) (Nat.le_of_ble_eq_true rfl) (Nat.le_of_ble_eq_true rfl) (by decide) ?_
      refine sp_X5_claimsOf hd hb0 hT1 hW hpl ?_
      refine ⟨_, rfl, ?_⟩
      refine x_icmp_ge (pc := 22) (t := 68) dX5_claimsBring_22 (by decide) ⟨by omega, by omega⟩ ⟨by omega, by omega⟩ (fun c22 => ?_) (fun c22 => ?_)
      · refine x_iload_n (pc := 68) dX5_claimsBring_68 rfl rfl ?_
        refine x_iret (pc := 69) dX5_claimsBring_69 rfl (by decide) (by decide) ?_
        rw [show j = tK T pl by omega] at ha
        rw [ha]
        exact k M1 hF hB1
      · exfalso; omega
    | succ c ih =>
      intro j x acc M1 hj hx ha hF hR1 hB1
      have hT1 := hT.fr hF.n
      have hrj := hrng j (by omega)
      have hz := @b01 (rightP (buildF (tP T)) (tL T pl j)) inferInstance
      have e4 := hL pl j 4 hpl (by omega) (by omega)
      have h49 := hst j (by omega)
      refine x_iload_n (pc := 16) dX5_claimsBring_16 rfl rfl ?_
      refine x_aload_n (pc := 17) dX5_claimsBring_17 rfl rfl ?_
      refine x_iload_n (pc := 18) dX5_claimsBring_18 rfl rfl ?_
      refine x_callV (pc := 19) [_] rfl kX5_155 dX5_claimsBring_19 hd.1 rfl rfl (by decide) (Nat.le_of_ble_eq_true rfl) (Nat.le_of_ble_eq_true rfl) (by decide) ?_
      refine sp_X5_claimsOf hd hb0 hT1 hW hpl ?_
      refine ⟨_, rfl, ?_⟩
      refine x_icmp_ge (pc := 22) (t := 68) dX5_claimsBring_22 (by decide) ⟨by omega, by omega⟩ ⟨by omega, by omega⟩ (fun c22 => ?_) (fun c22 => ?_)
      · exfalso; omega
      · refine x_aload_n (pc := 25) dX5_claimsBring_25 rfl rfl ?_
        refine x_getr (pc := 26) (b := d + 1) fX5_7 dX5_claimsBring_26 hd.1 rfl rfl ?_
        refine x_iload_n (pc := 29) dX5_claimsBring_29 rfl rfl ?_
        refine x_iload_n (pc := 30) dX5_claimsBring_30 rfl rfl ?_
        refine x_callS (pc := 31) [_, _] rfl kX5_158 dX5_claimsBring_31 rfl (by decide) (Nat.le_of_ble_eq_true rfl) (Nat.le_of_ble_eq_true rfl) (by decide) ?_
        refine sp_X5_claimAt ?_
        refine ⟨_, rfl, ?_⟩
        refine x_iconst (pc := 34) dX5_claimsBring_34 ?_
        refine x_iadd (pc := 35) dX5_claimsBring_35 ?_
        refine x_iald (pc := 36) dX5_claimsBring_36 hd.2.1 (by omega) (by omega) (fun r36a r36b => ?_)
        rw [hF.n, show (47 + 24 * (pl : Int) + 6 * x + 4).toNat = 47 + 24 * pl + 6 * j + 4 by omega, e4] at r36a r36b ⊢
        refine x_istore (pc := 37) dX5_claimsBring_37 trivial (by decide) (L' := [(4, _), (3, _), (2, _), (0, _), (1, _)]) rfl ?_
        refine x_iload_n (pc := 39) dX5_claimsBring_39 rfl rfl ?_
        refine x_aload_n (pc := 40) dX5_claimsBring_40 rfl rfl ?_
        refine x_iload_n (pc := 41) dX5_claimsBring_41 rfl rfl ?_
        refine x_iload_n (pc := 42) dX5_claimsBring_42 rfl rfl ?_
        refine x_callS (pc := 43) [_, _] rfl kX5_158 dX5_claimsBring_43 rfl (by decide) (Nat.le_of_ble_eq_true rfl) (Nat.le_of_ble_eq_true rfl) (by decide) ?_
        refine sp_X5_claimAt ?_
        refine ⟨_, rfl, ?_⟩
        refine x_callV (pc := 46) [_] rfl kX5_161 dX5_claimsBring_46 hd.1 rfl rfl (by decide) (Nat.le_of_ble_eq_true rfl) (Nat.le_of_ble_eq_true rfl) (by decide) ?_
        rw [hx]
        refine sp_X5_isRight hd hb0 hT1 hW (hR1 (by omega)) gM gE hpl (by omega) (fun M2 hF2 hR2 => ?_)
        refine ⟨_, rfl, ?_⟩
        refine x_if_eq (pc := 49) (t := 57) dX5_claimsBring_49 (by decide) ⟨by omega, by omega⟩ (fun c49 => ?_) (fun c49 => ?_)
        · refine x_iload (pc := 57) dX5_claimsBring_57 rfl ?_
          refine x_ineg (pc := 59) dX5_claimsBring_59 ?_
          refine x_iadd (pc := 60) dX5_claimsBring_60 ?_
          refine x_istore_n (pc := 61) dX5_claimsBring_61 rfl (by decide) (L' := [(2, _), (4, _), (3, _), (0, _), (1, _)]) rfl ?_
          refine x_iinc (pc := 62) dX5_claimsBring_62 rfl (by decide) (L' := [(3, _), (2, _), (4, _), (0, _), (1, _)]) rfl ?_
          refine x_goto (pc := 65) (t := 16) dX5_claimsBring_65 (by decide) ?_
          refine X.loc [0, 1, 3, 4] (L' := [(3, _), (2, _), (0, _), (1, _)]) rfl ?_
          refine ih (j + 1) _ _ M2 (by omega) (by omega) ?_ (hF.fr hF2) (fun _ => hR2) hR2.bg
          simp only [claimPt]
          first
          | (rw [if_pos (b1 c49)]; omega)
          | (rw [if_neg (b0 c49)]; omega)
        · refine x_iload (pc := 52) dX5_claimsBring_52 rfl ?_
          refine x_goto (pc := 54) (t := 60) dX5_claimsBring_54 (by decide) ?_
          refine x_iadd (pc := 60) dX5_claimsBring_60 ?_
          refine x_istore_n (pc := 61) dX5_claimsBring_61 rfl (by decide) (L' := [(2, _), (4, _), (3, _), (0, _), (1, _)]) rfl ?_
          refine x_iinc (pc := 62) dX5_claimsBring_62 rfl (by decide) (L' := [(3, _), (2, _), (4, _), (0, _), (1, _)]) rfl ?_
          refine x_goto (pc := 65) (t := 16) dX5_claimsBring_65 (by decide) ?_
          refine X.loc [0, 1, 3, 4] (L' := [(3, _), (2, _), (0, _), (1, _)]) rfl ?_
          refine ih (j + 1) _ _ M2 (by omega) (by omega) ?_ (hF.fr hF2) (fun _ => hR2) hR2.bg
          simp only [claimPt]
          first
          | (rw [if_pos (b1 c49)]; omega)
          | (rw [if_neg (b0 c49)]; omega)
  refine x_aload_n (pc := 0) dX5_claimsBring_0 rfl rfl ?_
  refine x_iload_n (pc := 1) dX5_claimsBring_1 rfl rfl ?_
  refine x_callV (pc := 2) [_] rfl kX5_155 dX5_claimsBring_2 hd.1 rfl rfl (by decide) (Nat.le_of_ble_eq_true rfl) (Nat.le_of_ble_eq_true rfl) (by decide) ?_
  refine sp_X5_claimsOf hd hb0 hT hW hpl ?_
  refine ⟨_, rfl, ?_⟩
  refine x_if_le (pc := 5) (t := 12) dX5_claimsBring_5 (by decide) ⟨by omega, by omega⟩ (fun c5 => ?_) (fun c5 => ?_)
  · refine x_iconst (pc := 12) dX5_claimsBring_12 ?_
    refine x_istore_n (pc := 13) dX5_claimsBring_13 rfl (by decide) (L' := [(2, _), (0, _), (1, _)]) rfl ?_
    refine x_iconst (pc := 14) dX5_claimsBring_14 ?_
    refine x_istore_n (pc := 15) dX5_claimsBring_15 rfl (by decide) (L' := [(3, _), (2, _), (0, _), (1, _)]) rfl ?_
    refine X.loc [0, 1, 2, 3] (L' := [(3, _), (2, _), (0, _), (1, _)]) rfl ?_
    first
    | exact loop (tK T pl) 0 _ _ M2 (by omega) rfl rfl hF2 (fun _ => hR2) hR2.bg
    | exact loop (tK T pl) 0 _ _ M (by omega) rfl rfl FrL.rf (fun z => by exfalso; omega) hB
  · refine x_aload_n (pc := 8) dX5_claimsBring_8 rfl rfl ?_
    refine x_callV (pc := 9) [] rfl kX5_126 dX5_claimsBring_9 hd.1 rfl rfl (by decide) (Nat.le_of_ble_eq_true rfl) (Nat.le_of_ble_eq_true rfl) (by decide) ?_
    refine sp_X5_laysRows hd hb0 hB hP (fun p _ => by have := wP p; omega) (gM _ wP).1 (fun M2 hF2 hR2 => ?_)
    refine ⟨_, rfl, ?_⟩
    refine x_iconst (pc := 12) dX5_claimsBring_12 ?_
    refine x_istore_n (pc := 13) dX5_claimsBring_13 rfl (by decide) (L' := [(2, _), (0, _), (1, _)]) rfl ?_
    refine x_iconst (pc := 14) dX5_claimsBring_14 ?_
    refine x_istore_n (pc := 15) dX5_claimsBring_15 rfl (by decide) (L' := [(3, _), (2, _), (0, _), (1, _)]) rfl ?_
    refine X.loc [0, 1, 2, 3] (L' := [(3, _), (2, _), (0, _), (1, _)]) rfl ?_
    first
    | exact loop (tK T pl) 0 _ _ M2 (by omega) rfl rfl hF2 (fun _ => hR2) hR2.bg
    | exact loop (tK T pl) 0 _ _ M (by omega) rfl rfl FrL.rf (fun z => by exfalso; omega) hB
set_option maxRecDepth 100000 in
theorem sp_X5_scoreOf {g : GG} {lay : Lay} {M : Mem} {K : KK} {d : Nat} {T : CT} {pl : Nat} (hd : MoL lay d) (hb0 : g.2.1 ≤ d) (hT : RowT T (M (d + 1))) (hW : WfT T) (hB : ∃ N, Bg N M d) (gM : GoodM) (gE : GoodE) (hpl : pl < 2) (k : ∀ M2, FrL d M M2 → (∃ N, Bg N M2 d) → K (.inl (some (vI (scoreF T (buildF (tP T)) pl)))) lay M2) : X g m_X5_scoreOf 0 0 lay M 0 [(0, vR d), (1, vI pl)] [] K := by
  refine x_aload_n (pc := 0) dX5_scoreOf_0 rfl rfl ?_
  refine x_iload_n (pc := 1) dX5_scoreOf_1 rfl rfl ?_
  refine x_callV (pc := 2) [_] rfl kX5_168 dX5_scoreOf_2 hd.1 rfl rfl (by decide) (Nat.le_of_ble_eq_true rfl) (Nat.le_of_ble_eq_true rfl) (by decide) ?_
  refine sp_X5_signPoints hd hb0 hT hW hpl ?_
  refine ⟨_, rfl, ?_⟩
  refine x_aload_n (pc := 5) dX5_scoreOf_5 rfl rfl ?_
  refine x_iload_n (pc := 6) dX5_scoreOf_6 rfl rfl ?_
  refine x_callV (pc := 7) [_] rfl kX5_171 dX5_scoreOf_7 hd.1 rfl rfl (by decide) (Nat.le_of_ble_eq_true rfl) (Nat.le_of_ble_eq_true rfl) (by decide) ?_
  refine sp_X5_claimsBring hd hb0 hT hW hB gM gE hpl (fun M2 hF2 hB2 => ?_)
  refine ⟨_, rfl, ?_⟩
  refine x_iadd (pc := 10) dX5_scoreOf_10 ?_
  refine x_aload_n (pc := 11) dX5_scoreOf_11 rfl rfl ?_
  refine x_iload_n (pc := 12) dX5_scoreOf_12 rfl rfl ?_
  refine x_callV (pc := 13) [_] rfl kX5_174 dX5_scoreOf_13 hd.1 rfl rfl (by decide) (Nat.le_of_ble_eq_true rfl) (Nat.le_of_ble_eq_true rfl) (by decide) ?_
  refine sp_X5_bonusOf hd hb0 (hT.fr hF2.n) hW ⟨by omega, by omega⟩ ?_
  refine ⟨_, rfl, ?_⟩
  refine x_iadd (pc := 16) dX5_scoreOf_16 ?_
  refine x_iret (pc := 17) dX5_scoreOf_17 rfl (by decide) (by decide) ?_
  exact k M2 hF2 hB2
