/-! The reference: play. -/
/-- what a script's doing may change -/
def FrY (d : Nat) (M M' : Mem) : Prop := ∀ a j, ¬ (a = d ∧ (j = 0 ∨ j = 4 ∨ j = 9 ∨ j = 12 ∨ (13 ≤ j ∧ j ≤ 18) ∨ j = 20)) → ¬ a = d + 1 → ¬ a = d + 3 → ¬ a = d + 6 → ¬ a = d + 7 → ¬ a = d + 8 → ¬ a = d + 11 → M' a j = M a j
theorem FrC.y {d : Nat} {M M' : Mem} (h : FrC d M M') : FrY d M M' := fun a j q1 q2 q3 q4 q5 q6 q7 => h a j (by omega) q7
theorem FrY.a {d : Nat} {M M' M'' : Mem} (h : FrY d M M') (h2 : FrA d M' M'') : FrY d M M'' := fun a j q1 q2 q3 q4 q5 q6 q7 => (h2 a j (by omega) q2 q3 q4 q5 q6).trans (h a j q1 q2 q3 q4 q5 q6 q7)
theorem FrY.mf {d i : Nat} {v : Int} {M M' : Mem} (h : FrY d M M') (hi : i = 0 ∨ i = 12) : FrY d M (mset M' d i v) := fun a j q1 q2 q3 q4 q5 q6 q7 => (mset_ne (by omega)).trans (h a j q1 q2 q3 q4 q5 q6 q7)
theorem Us.same {H : Nat → CT} {u : Nat} {M M' : Mem} {d : Nat} (h : Us H u M d) (e : ∀ j, M' (d + 3) j = M (d + 3) j) (e4 : M' d 4 = M d 4) : Us H u M' d := h.fr e e4

set_option maxRecDepth 100000 in
theorem sp_X5_play {g : GG} {lay : Lay} {M : Mem} {K : KK} {d : Nat} {tx v cm : Nat → Int} {n : Nat} {ui : Int} {T : CT} {H : Nat → CT} {u : Nat} {A : Nat → Int} (hd : MoL lay d) (hb0 : g.2.1 ≤ d) (hT : RowT T (M (d + 1))) (hW : WfT T) (hU : Us H u M d) (hA : Acm A M d) (hB : ∃ N, Bg N M d) (gM : GoodM) (gE : GoodE) (hO0 : WfO T) (hX : Tx tx n M d) (hR : TxR tx n) (hD : Wd M d) (k : ∀ M2, FrY d M M2 → (M2 d 0 = 0 ∧ M2 d 12 = 0) → (M2 d 17 = (scriptF tx n (tS T 0) v cm).2.1 3 ∧ M2 d 18 = (scriptF tx n (tS T 0) v cm).2.1 4) → RowT (playF (scriptF tx n (tS T 0) v cm) T A ui).2.1 (M2 (d + 1)) → Acm (playF (scriptF tx n (tS T 0) v cm) T A ui).2.2.1 M2 d → Us (playH (scriptF tx n (tS T 0) v cm) T H u).1 (playH (scriptF tx n (tS T 0) v cm) T H u).2 M2 d → (∃ N, Bg N M2 d) → K (oI (playF (scriptF tx n (tS T 0) v cm) T A ui).1) lay M2) : X g m_X5_play 0 0 lay M 0 [(0, vR d)] [] K := by
  have ne1 : ¬ (0 : Int) = 1 := by decide
  have hP5 := hW.1.1
  have hcm := @script_cm tx n (tS T 0) v cm
  obtain ⟨U, hU9⟩ : ∃ U, U = scriptF tx n (tS T 0) v cm := ⟨_, rfl⟩
  rw [← hU9] at k hcm
  obtain ⟨R, hRp⟩ : ∃ R, R = playF U T A ui := ⟨_, rfl⟩
  obtain ⟨S, hSp⟩ : ∃ S, S = playH U T H u := ⟨_, rfl⟩
  rw [← hRp, ← hSp] at k
  unfold playF at hRp
  unfold playH at hSp
  have endB : ∀ (M1 : Mem) (v1 : Nat → Int), FrC d M M1 → BadT tx n v1 M1 d → U.1 ≠ 1 → U.2.1 = v1 → X g m_X5_play 0 0 lay M1 30 [(0, vR d)] [] K := by
    intro M1 v1 hF hB9 hu1 hu2
    rw [if_pos hu1] at hRp hSp
    rw [hRp, hSp] at k
    obtain ⟨b17, b18, b3, -⟩ := hB9.2.1
    refine x_aload_n (pc := 30) dX5_play_30 rfl rfl ?_
    refine x_iconst (pc := 31) dX5_play_31 ?_
    refine x_puti (pc := 32) fnX5_269 dX5_play_32 hd.1 (by omega) rfl ⟨by omega, by omega⟩ ?_
    refine x_aload_n (pc := 35) dX5_play_35 rfl rfl ?_
    refine x_iconst (pc := 36) dX5_play_36 ?_
    refine x_puti (pc := 37) fnX5_55 dX5_play_37 hd.1 (by omega) rfl ⟨by omega, by omega⟩ ?_
    refine x_aload_n (pc := 40) dX5_play_40 rfl rfl ?_
    refine x_geti (pc := 41) fX5_296 dX5_play_41 hd.1 rfl (fun r41a r41b => ?_)
    try simp (disch := omega) only [mset_same, mset_nea, mset_nei, mcopy_nea, mcopy_in, mcopy_out, Int.reduceToNat, Int.toNat_natCast, Nat.zero_add, Nat.sub_zero] at r41a r41b ⊢
    rw [b17] at r41a r41b ⊢
    refine x_if_le (pc := 44) (t := 49) dX5_play_44 (by decide) ⟨by omega, by omega⟩ (fun c44 => ?_) (fun c44 => ?_)
    · exfalso; omega
    · refine x_iconst (pc := 47) dX5_play_47 ?_
      refine x_iret (pc := 48) dX5_play_48 rfl (by decide) (by decide) ?_
      refine k _ ((hF.y.mf (by omega)).mf (by omega)) ⟨mset_same, by rw [mset_nei (by omega), mset_same]⟩ ⟨by rw [mset_nei (by omega), mset_nei (by omega), b17, hu2], by rw [mset_nei (by omega), mset_nei (by omega), b18, hu2]⟩ ?_ ?_ ?_ ?_
      · rw [show mset (mset M1 d 12 0) d 0 0 (d + 1) = M (d + 1) from funext fun i => by rw [mset_nea (by omega), mset_nea (by omega), hF _ _ (by omega) (by omega)]]
        exact hT
      · exact hA.fr (fun i => by rw [mset_nea (by omega), mset_nea (by omega), hF _ _ (by omega) (by omega)])
      · exact hU.fr (fun i => by rw [mset_nea (by omega), mset_nea (by omega), hF _ _ (by omega) (by omega)]) (by rw [mset_nei (by omega), mset_nei (by omega), hF _ _ (by omega) (by omega)])
      · exact Bg.fr2 hB (fun i => by rw [mset_nea (by omega), mset_nea (by omega), hF _ _ (by omega) (by omega)])
  have loopD : ∀ (c j : Nat) (y ui1 : Int) (T1 : CT) (A1 : Nat → Int) (H1 : Nat → CT) (u1 : Nat) (M1 : Mem), U.1 = 1 → y = j → ((j + c : Nat) : Int) = U.2.1 5 → WfT T1 → WfO T1 → tS T1 = tS T → FrY d M M1 → (M1 d 0 = 0 ∧ M1 d 12 = 0) → (M1 d 17 = U.2.1 3 ∧ M1 d 18 = U.2.1 4) → M1 d 20 = U.2.1 5 → (∀ (i : Nat), (i : Int) < U.2.1 5 → CmR U.2.2 M1 d i) → RowT T1 (M1 (d + 1)) → Acm A1 M1 d → Us H1 u1 M1 d → (∃ N, Bg N M1 d) → R = loopP U.2.2 c j T1 A1 ui1 → S = loopH U.2.2 c j T1 H1 u1 → X g m_X5_play 0 0 lay M1 51 [(1, vI y), (0, vR d)] [] K := by
    intro c
    induction c with
    | zero =>
      intro j y ui1 T1 A1 H1 u1 M1 hu1 hy hj hW1 hO1 hS1 hF hz hz2 hz3 hcr hT1 hA1 hU1 hB1 hR1 hS2
      have h40 := (hcm hu1).1
      simp only [loopP] at hR1
      simp only [loopH] at hS2
      subst hR1 hS2
      refine x_iload_n (pc := 51) dX5_play_51 rfl rfl ?_
      refine x_aload_n (pc := 52) dX5_play_52 rfl rfl ?_
      refine x_geti (pc := 53) fX5_348 dX5_play_53 hd.1 rfl (fun r53a r53b => ?_)
      rw [hz3] at r53a r53b ⊢
      refine x_icmp_ge (pc := 56) (t := 76) dX5_play_56 (by decide) ⟨by omega, by omega⟩ ⟨by omega, by omega⟩ (fun c56 => ?_) (fun c56 => ?_)
      · refine x_iload_n (pc := 76) dX5_play_76 rfl rfl ?_
        refine x_iret (pc := 77) dX5_play_77 rfl (by decide) (by decide) ?_
        rw [hy]
        exact k M1 hF hz hz2 hT1 hA1 hU1 hB1
      · exfalso; omega
    | succ c ih =>
      intro j y ui1 T1 A1 H1 u1 M1 hu1 hy hj hW1 hO1 hS1 hF hz hz2 hz3 hcr hT1 hA1 hU1 hB1 hR1 hS2
      have h40 := (hcm hu1).1
      have hcj := (hcm hu1).2 j (by omega)
      rw [← hS1] at hcj
      have hwf := cmd_wf hW1 hO1 hcj
      have hrr := cmdR_rng T1 U.2.2 j
      simp only [loopP] at hR1
      simp only [loopH] at hS2
      subst hy
      refine x_iload_n (pc := 51) dX5_play_51 rfl rfl ?_
      refine x_aload_n (pc := 52) dX5_play_52 rfl rfl ?_
      refine x_geti (pc := 53) fX5_348 dX5_play_53 hd.1 rfl (fun r53a r53b => ?_)
      rw [hz3] at r53a r53b ⊢
      refine x_icmp_ge (pc := 56) (t := 76) dX5_play_56 (by decide) ⟨by omega, by omega⟩ ⟨by omega, by omega⟩ (fun c56 => ?_) (fun c56 => ?_)
      · exfalso; omega
      · refine x_aload_n (pc := 59) dX5_play_59 rfl rfl ?_
        refine x_bipush (pc := 60) dX5_play_60 (by decide) ?_
        refine x_iload_n (pc := 62) dX5_play_62 rfl rfl ?_
        refine x_imul (pc := 63) dX5_play_63 ?_
        rw [show 6 * (j : Int) = ((6 * j : Nat) : Int) by omega]
        refine x_callV (pc := 64) [_] rfl kX5_357 dX5_play_64 hd.1 rfl rfl (by decide) (Nat.le_of_ble_eq_true rfl) (Nat.le_of_ble_eq_true rfl) (by decide) ?_
        refine sp_X5_doesCommand hd hb0 hT1 hW1 hU1 hA1 hB1 gM gE hO1 (hcr j (by omega)) hcj (by omega) (fun M2 f1 f2 f3 f4 f5 => ?_)
        have g0 : M2 d 0 = 0 ∧ M2 d 12 = 0 := ⟨by rw [f1 _ _ (by omega) (by omega) (by omega) (by omega) (by omega) (by omega)]; exact hz.1, by rw [f1 _ _ (by omega) (by omega) (by omega) (by omega) (by omega) (by omega)]; exact hz.2⟩
        have g1 : M2 d 17 = U.2.1 3 ∧ M2 d 18 = U.2.1 4 := ⟨by rw [f1 _ _ (by omega) (by omega) (by omega) (by omega) (by omega) (by omega)]; exact hz2.1, by rw [f1 _ _ (by omega) (by omega) (by omega) (by omega) (by omega) (by omega)]; exact hz2.2⟩
        refine ⟨_, rfl, ?_⟩
        refine x_if_ne (pc := 67) (t := 76) dX5_play_67 (by decide) ⟨by omega, by omega⟩ (fun c67 => ?_) (fun c67 => ?_)
        · refine x_iload_n (pc := 76) dX5_play_76 rfl rfl ?_
          refine x_iret (pc := 77) dX5_play_77 rfl (by decide) (by decide) ?_
          rw [if_pos (by omega)] at hR1 hS2
          rw [if_neg (by omega), if_neg (by omega)] at f4
          subst hR1 hS2
          exact k M2 (hF.a f1) g0 g1 f2 f3 f4 f5
        · refine x_iinc (pc := 70) dX5_play_70 rfl (by decide) (L' := [(1, _), (0, _)]) rfl ?_
          refine x_goto (pc := 73) (t := 51) dX5_play_73 (by decide) ?_
          refine X.loc [0, 1] (L' := [(1, _), (0, _)]) rfl ?_
          have r0 : cmdR T1 U.2.2 j = 0 := by omega
          rw [if_neg (fun z => z r0)] at hR1 hS2
          rw [if_pos r0, if_pos r0] at f4
          exact ih (j + 1) _ _ _ _ _ _ M2 hu1 (by omega) (by rw [← hj]; omega) hwf.1 hwf.2.1 (hwf.2.2.trans hS1) (hF.a f1) g0 g1 (by rw [f1 _ _ (by omega) (by omega) (by omega) (by omega) (by omega) (by omega)]; exact hz3) (fun i hi => (hcr i hi).up (j := i + 1) (by omega) (fun _ _ => rfl) (fun q hq => f1 _ _ (by omega) (by omega) (by omega) (by omega) (by omega) (by omega))) f2 f3 f4 f5 hR1 hS2
  have endG : ∀ (M1 : Mem) (v1 cm1 : Nat → Int), FrC d M M1 → RelT tx n v1 M1 d → U = (1, v1, cm1) → M1 d 20 = v1 5 → (∀ (i : Nat), (i : Int) < v1 5 → CmR cm1 M1 d i) → X g m_X5_play 0 0 lay M1 30 [(0, vR d)] [] K := by
    intro M1 v1 cm1 hF hV1 hu h20 hcr
    obtain ⟨-, ⟨h17, h18, v3, v4⟩, -⟩ := id hV1
    have hu1 : U.1 = 1 := by rw [hu]
    have h40 := (hcm hu1).1
    rw [if_neg (fun z => z hu1)] at hRp hSp
    refine x_aload_n (pc := 30) dX5_play_30 rfl rfl ?_
    refine x_iconst (pc := 31) dX5_play_31 ?_
    refine x_puti (pc := 32) fnX5_269 dX5_play_32 hd.1 (by omega) rfl ⟨by omega, by omega⟩ ?_
    refine x_aload_n (pc := 35) dX5_play_35 rfl rfl ?_
    refine x_iconst (pc := 36) dX5_play_36 ?_
    refine x_puti (pc := 37) fnX5_55 dX5_play_37 hd.1 (by omega) rfl ⟨by omega, by omega⟩ ?_
    refine x_aload_n (pc := 40) dX5_play_40 rfl rfl ?_
    refine x_geti (pc := 41) fX5_296 dX5_play_41 hd.1 rfl (fun r41a r41b => ?_)
    try simp (disch := omega) only [mset_same, mset_nea, mset_nei, mcopy_nea, mcopy_in, mcopy_out, Int.reduceToNat, Int.toNat_natCast, Nat.zero_add, Nat.sub_zero] at r41a r41b ⊢
    rw [h17] at r41a r41b ⊢
    refine x_if_le (pc := 44) (t := 49) dX5_play_44 (by decide) ⟨by omega, by omega⟩ (fun c44 => ?_) (fun c44 => ?_)
    · refine x_iconst (pc := 49) dX5_play_49 ?_
      refine x_istore_n (pc := 50) dX5_play_50 rfl (by decide) (L' := [(1, _), (0, _)]) rfl ?_
      refine X.loc [0, 1] (L' := [(1, _), (0, _)]) rfl ?_
      have q5 : U.2.1 5 = v1 5 := by rw [hu]
      refine loopD (U.2.1 5).toNat 0 0 ui T A H u _ hu1 rfl (by omega) hW hO0 rfl ((hF.y.mf (by omega)).mf (by omega)) ⟨mset_same, by rw [mset_nei (by omega), mset_same]⟩ ⟨by rw [mset_nei (by omega), mset_nei (by omega), h17, hu]; exact v3.symm, by rw [mset_nei (by omega), mset_nei (by omega), h18, hu]; exact v4.symm⟩ (by rw [mset_nei (by omega), mset_nei (by omega), h20, q5]) (fun i hi => ?_) ?_ ?_ ?_ ?_ hRp hSp
      · rw [hu]
        exact (hcr i (by omega)).up (j := i + 1) (by omega) (fun _ _ => rfl) (fun q hq => by rw [mset_nea (by omega), mset_nea (by omega)])
      · rw [show mset (mset M1 d 12 0) d 0 0 (d + 1) = M (d + 1) from funext fun i => by rw [mset_nea (by omega), mset_nea (by omega), hF _ _ (by omega) (by omega)]]
        exact hT
      · exact hA.fr (fun i => by rw [mset_nea (by omega), mset_nea (by omega), hF _ _ (by omega) (by omega)])
      · exact hU.fr (fun i => by rw [mset_nea (by omega), mset_nea (by omega), hF _ _ (by omega) (by omega)]) (by rw [mset_nei (by omega), mset_nei (by omega), hF _ _ (by omega) (by omega)])
      · exact Bg.fr2 hB (fun i => by rw [mset_nea (by omega), mset_nea (by omega), hF _ _ (by omega) (by omega)])
    · exfalso; omega
  have bad9 : ∀ (M1 : Mem) (v1 : Nat → Int), FrC d M M1 → BadT tx n v1 M1 d → U.1 ≠ 1 → U.2.1 = v1 → X g m_X5_play 0 0 lay M1 9 [(0, vR d)] [] K := by
    intro M1 v1 hF hB9 hu1 hu2
    obtain ⟨b17, b18, b3, -⟩ := hB9.2.1
    refine x_aload_n (pc := 9) dX5_play_9 rfl rfl ?_
    refine x_geti (pc := 10) fX5_296 dX5_play_10 hd.1 rfl (fun r10a r10b => ?_)
    rw [b17] at r10a r10b ⊢
    refine x_if_ne (pc := 13) (t := 30) dX5_play_13 (by decide) ⟨by omega, by omega⟩ (fun c13 => ?_) (fun c13 => ?_)
    · refine X.loc [0] (L' := [(0, _)]) rfl ?_
      exact endB M1 v1 hF hB9 hu1 hu2
    · exfalso; omega
  have loop : ∀ (c j : Nat) (v1 cm1 : Nat → Int) (M1 : Mem), FrC d M M1 → RelT tx n v1 M1 d → v1 5 = j → M1 d 20 = v1 5 → j + c = 41 → j ≤ 40 → (∀ i, i < j → CmR cm1 M1 d i) → loopC tx n (tS T 0) c v1 cm1 = U → X g m_X5_play 0 0 lay M1 9 [(0, vR d)] [] K := by
    intro c
    induction c with
    | zero =>
      intro j v1 cm1 M1 hF hV1 h5 h20 hjc hj hcr hu
      exfalso; omega
    | succ c ih =>
      intro j v1 cm1 M1 hF hV1 h5 h20 hjc hj hcr hu
      obtain ⟨⟨hTx, hRr, hK⟩, ⟨h17, h18, v3, v4⟩, h13, h14, h15, h16⟩ := id hV1
      have hmk := (@mk_iff (v1 6)).2.2.2.1
      have hD1 : Wd M1 d := fun i hi => by rw [hF _ _ (by omega) (by omega)]; exact hD i hi
      have hT1 : RowT T (M1 (d + 1)) := by
        rw [show M1 (d + 1) = M (d + 1) from funext fun i => hF _ _ (by omega) (by omega)]
        exact hT
      rw [loopC_step] at hu
      refine x_aload_n (pc := 9) dX5_play_9 rfl rfl ?_
      refine x_geti (pc := 10) fX5_296 dX5_play_10 hd.1 rfl (fun r10a r10b => ?_)
      rw [h17] at r10a r10b ⊢
      refine x_if_ne (pc := 13) (t := 30) dX5_play_13 (by decide) ⟨by omega, by omega⟩ (fun c13 => ?_) (fun c13 => ?_)
      · exfalso; omega
      · refine x_aload_n (pc := 16) dX5_play_16 rfl rfl ?_
        refine x_geti (pc := 17) fX5_290 dX5_play_17 hd.1 rfl (fun r17a r17b => ?_)
        rw [h15] at r17a r17b ⊢
        refine x_if_eq (pc := 20) (t := 30) dX5_play_20 (by decide) ⟨by omega, by omega⟩ (fun c20 => ?_) (fun c20 => ?_)
        · refine X.loc [0] (L' := [(0, _)]) rfl ?_
          rw [if_pos (by omega)] at hu
          exact endG M1 v1 cm1 hF hV1 hu.symm h20 (fun i hi => hcr i (by omega))
        · refine x_aload_n (pc := 23) dX5_play_23 rfl rfl ?_
          refine x_callV (pc := 24) [] rfl kX5_354 dX5_play_24 hd.1 rfl rfl (by decide) (Nat.le_of_ble_eq_true rfl) (Nat.le_of_ble_eq_true rfl) (by decide) ?_
          refine sp_X5_readCommand (cm := cm1) hd hb0 hV1 hD1 hj h5 (h20.trans h5) hT1 hW (fun M2 hK2 => ?_)
          refine ⟨_, rfl, ?_⟩
          refine x_goto (pc := 27) (t := 9) dX5_play_27 (by decide) ?_
          refine X.loc [0] (L' := [(0, _)]) rfl ?_
          obtain ⟨kF, kp, kR⟩ := hK2
          rw [if_neg (by omega)] at hu
          rcases kR with ⟨s1, s2, s3, s4, s5⟩ | ⟨s1, s2⟩
          · rw [if_neg (fun z => z s1)] at hu
            obtain ⟨a1, a2⟩ := step_adv (by omega) hK s1
            refine ih (j + 1) _ _ M2 (hF.tr kF) s2 (by rw [a1, h5]; omega) (by rw [s3, a1, h5]) (by omega) (by omega) (fun i hi => ?_) hu
            by_cases e : i = j
            · rw [e]
              exact s5
            · exact (hcr i (by omega)).up (j := j) (by omega) (fun q hq => a2 q (by omega)) kp
          · rw [if_pos s1] at hu
            exact bad9 M2 _ (hF.tr kF) s2 (by rw [← hu]; exact ne1) (by rw [← hu])
  refine x_aload_n (pc := 0) dX5_play_0 rfl rfl ?_
  refine x_callV (pc := 1) [] rfl kX5_333 dX5_play_1 hd.1 rfl rfl (by decide) (Nat.le_of_ble_eq_true rfl) (Nat.le_of_ble_eq_true rfl) (by decide) ?_
  refine sp_X5_opensText (v := v) hd hb0 hX hR (fun M3 hF3 hV3 => ?_)
  refine ⟨_, rfl, ?_⟩
  refine x_aload_n (pc := 4) dX5_play_4 rfl rfl ?_
  refine x_iconst (pc := 5) dX5_play_5 ?_
  refine x_puti (pc := 6) fnX5_348 dX5_play_6 hd.1 (by omega) rfl ⟨by omega, by omega⟩ ?_
  refine X.loc [0] (L' := [(0, _)]) rfl ?_
  have e5 : beginF tx n v 5 = 0 := by unfold beginF; rw [tok_ne (by omega)]; rfl
  refine loop 41 0 (beginF tx n v) cm _ (FrC.rf.p hF3).q (hV3.mf (by omega)) e5 (by rw [mset_same, e5]) (by omega) (by omega) (fun i hi => absurd hi (by omega)) ?_
  rw [hU9]
  rfl
