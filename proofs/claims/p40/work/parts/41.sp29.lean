/-! Specs of the reader: commands, a whole script; the text buffer. -/

set_option maxRecDepth 100000 in
theorem sp_X2_readCommand {g : GG} {lay : Lay} {M : Mem} {K : KK} {c n : Nat} {tx v : Nat → Int} {cm : Nat → Int} {P : Int} (hP : RdL lay c) (hb0 : g.2.1 ≤ c) (hr : Rd tx n v M c) (hk : TkOK n v) (hm : Cm cm M c) (h5 : 0 ≤ v 5 ∧ v 5 < 41) (hP5 : 2 ≤ P ∧ P ≤ 5) (k : ∀ M2, Frm c (c + 3) M M2 → Rd tx n (rCmdF tx n v cm P).2.1 M2 c → Cm (rCmdF tx n v cm P).2.2 M2 c → K (.inl (some (vI (rCmdF tx n v cm P).1))) lay M2) : X g m_X2_readCommand 0 0 lay M 0 [(0, vR c), (1, vI P)] [] K := by
  unfold rCmdF at k
  have e5 := hr.at 5 (by decide) (by decide)
  have har := actWF_rng tx v
  have hT1 := fun cm => @rTermF_01 tx n (tokF tx n v) cm P
  have hC1 := fun cm => @rClaimF_01 tx n (tokF tx n v) cm
  have t5 : tokF tx n v 5 = v 5 := tok_ne (by omega)
  refine x_aload_n (pc := 0) dX2_readCommand_0 rfl rfl ?_
  refine x_callV (pc := 1) [] rfl kX2_141 dX2_readCommand_1 hP.1 rfl rfl (by decide) (Nat.le_of_ble_eq_true rfl) (Nat.le_of_ble_eq_true rfl) (by decide) ?_
  refine sp_X2_actOfWord hP hb0 hr hk ?_
  refine ⟨_, rfl, ?_⟩
  refine x_istore_n (pc := 4) dX2_readCommand_4 rfl (by decide) (L' := [(2, _), (0, _), (1, _)]) rfl ?_
  refine x_iload_n (pc := 5) dX2_readCommand_5 rfl rfl ?_
  refine x_iconst (pc := 6) dX2_readCommand_6 ?_
  refine x_icmp_ne (pc := 7) (t := 16) dX2_readCommand_7 (by decide) ⟨by omega, by omega⟩ ⟨by omega, by omega⟩ (fun c7 => ?_) (fun c7 => ?_)
  · refine x_aload_n (pc := 16) dX2_readCommand_16 rfl rfl ?_
    refine x_geti (pc := 17) fX2_60 dX2_readCommand_17 hP.1 rfl (fun r17a r17b => ?_)
    rw [e5] at r17a r17b ⊢
    refine x_bipush (pc := 20) dX2_readCommand_20 (by decide) ?_
    refine x_icmp_lt (pc := 22) (t := 31) dX2_readCommand_22 (by decide) ⟨by omega, by omega⟩ ⟨by omega, by omega⟩ (fun c22 => ?_) (fun c22 => ?_)
    · refine x_aload_n (pc := 31) dX2_readCommand_31 rfl rfl ?_
      refine x_iconst (pc := 32) dX2_readCommand_32 ?_
      refine x_iload_n (pc := 33) dX2_readCommand_33 rfl rfl ?_
      refine x_callV (pc := 34) [_, _] rfl kX2_144 dX2_readCommand_34 hP.1 rfl rfl (by decide) (Nat.le_of_ble_eq_true rfl) (Nat.le_of_ble_eq_true rfl) (by decide) ?_
      refine sp_X2_keep (p := 0) hP hb0 hr hm (by omega) (by decide) ⟨by omega, by omega⟩ (fun M3 hFM3 hrM3 hmM3 => ?_)
      refine ⟨_, rfl, ?_⟩
      have hT2 := hT1 (kpF cm v 0 (actWF tx v))
      have hC2 := hC1 (kpF cm v 0 (actWF tx v))
      refine x_pop (pc := 37) dX2_readCommand_37 rfl ?_
      refine x_aload_n (pc := 38) dX2_readCommand_38 rfl rfl ?_
      refine x_callV (pc := 39) [] rfl kX2_69 dX2_readCommand_39 hP.1 rfl rfl (by decide) (Nat.le_of_ble_eq_true rfl) (Nat.le_of_ble_eq_true rfl) (by decide) ?_
      refine sp_X2_nextToken hP hb0 hrM3 (by unfold TkOK at hk; omega) (fun M4 hF4 hr4 => ?_)
      have hm4 := hmM3.fr hF4 (by omega)
      have hFF : Frm c (c + 3) M M4 := (hFM3.wide (by omega) (by omega)).trans (hF4.wide (by omega) (by omega))
      refine ⟨_, rfl, ?_⟩
      refine x_iload_n (pc := 42) dX2_readCommand_42 rfl rfl ?_
      refine x_if_ne (pc := 43) (t := 52) dX2_readCommand_43 (by decide) ⟨by omega, by omega⟩ (fun c43 => ?_) (fun c43 => ?_)
      · refine x_iload_n (pc := 52) dX2_readCommand_52 rfl rfl ?_
        refine x_iconst (pc := 53) dX2_readCommand_53 ?_
        refine x_icmp_eq (pc := 54) (t := 64) dX2_readCommand_54 (by decide) ⟨by omega, by omega⟩ ⟨by omega, by omega⟩ (fun c54 => ?_) (fun c54 => ?_)
        · refine x_iconst (pc := 64) dX2_readCommand_64 ?_
          refine x_goto (pc := 65) (t := 69) dX2_readCommand_65 (by decide) ?_
          refine x_zret (pc := 69) dX2_readCommand_69 rfl ⟨by omega, by omega⟩ (by decide) (by decide) ?_
          first
          | (rw [if_neg (by omega), if_neg (by omega), if_neg (by omega), if_pos (by omega)] at k
             exact k _ hFF hr4 hm4)
          | (refine kI (k _ (hFF.trans hF5) hr5 hm5) ?_
             omega)
        · refine x_aload_n (pc := 57) dX2_readCommand_57 rfl rfl ?_
          refine x_callV (pc := 58) [] rfl kX2_150 dX2_readCommand_58 hP.1 rfl rfl (by decide) (Nat.le_of_ble_eq_true rfl) (Nat.le_of_ble_eq_true rfl) (by decide) ?_
          rw [if_neg (by omega), if_neg (by omega), if_neg (by omega), if_neg (by omega)] at k
          refine sp_X2_readClaim hP hb0 hr4 hk.tok hm4 (by omega) (fun M5 hF5 hr5 hm5 => ?_)
          refine ⟨_, rfl, ?_⟩
          refine x_if_eq (pc := 61) (t := 68) dX2_readCommand_61 (by decide) ⟨by omega, by omega⟩ (fun c61 => ?_) (fun c61 => ?_)
          · refine x_iconst (pc := 68) dX2_readCommand_68 ?_
            refine x_zret (pc := 69) dX2_readCommand_69 rfl ⟨by omega, by omega⟩ (by decide) (by decide) ?_
            first
            | (rw [if_neg (by omega), if_neg (by omega), if_neg (by omega), if_pos (by omega)] at k
               exact k _ hFF hr4 hm4)
            | (refine kI (k _ (hFF.trans hF5) hr5 hm5) ?_
               omega)
          · refine x_iconst (pc := 64) dX2_readCommand_64 ?_
            refine x_goto (pc := 65) (t := 69) dX2_readCommand_65 (by decide) ?_
            refine x_zret (pc := 69) dX2_readCommand_69 rfl ⟨by omega, by omega⟩ (by decide) (by decide) ?_
            first
            | (rw [if_neg (by omega), if_neg (by omega), if_neg (by omega), if_pos (by omega)] at k
               exact k _ hFF hr4 hm4)
            | (refine kI (k _ (hFF.trans hF5) hr5 hm5) ?_
               omega)
      · refine x_aload_n (pc := 46) dX2_readCommand_46 rfl rfl ?_
        refine x_iload_n (pc := 47) dX2_readCommand_47 rfl rfl ?_
        refine x_callV (pc := 48) [_] rfl kX2_147 dX2_readCommand_48 hP.1 rfl rfl (by decide) (Nat.le_of_ble_eq_true rfl) (Nat.le_of_ble_eq_true rfl) (by decide) ?_
        rw [if_neg (by omega), if_neg (by omega), if_pos (by omega)] at k
        refine sp_X2_readTerm hP hb0 hr4 hk.tok hm4 (by omega) hP5 (fun M5 hF5 hr5 hm5 => ?_)
        refine ⟨_, rfl, ?_⟩
        refine x_zret (pc := 51) dX2_readCommand_51 rfl ⟨by omega, by omega⟩ (by decide) (by decide) ?_
        exact k _ (hFF.trans hF5) hr5 hm5
    · refine x_aload_n (pc := 25) dX2_readCommand_25 rfl rfl ?_
      refine x_iconst (pc := 26) dX2_readCommand_26 ?_
      refine x_callV (pc := 27) [_] rfl kX2_72 dX2_readCommand_27 hP.1 rfl rfl (by decide) (Nat.le_of_ble_eq_true rfl) (Nat.le_of_ble_eq_true rfl) (by decide) ?_
      refine sp_X2_fail hP hb0 hr (by decide) (fun M2 hF2 hr2 => ?_)
      have hm2 := hm.fr hF2 (by omega)
      refine ⟨_, rfl, ?_⟩
      refine x_zret (pc := 30) dX2_readCommand_30 rfl ⟨by omega, by omega⟩ (by decide) (by decide) ?_
      rw [if_neg (by omega), if_pos (by omega)] at k
      exact k _ (hF2.wide (by omega) (by omega)) hr2 hm2
  · refine x_aload_n (pc := 10) dX2_readCommand_10 rfl rfl ?_
    refine x_iconst (pc := 11) dX2_readCommand_11 ?_
    refine x_callV (pc := 12) [_] rfl kX2_72 dX2_readCommand_12 hP.1 rfl rfl (by decide) (Nat.le_of_ble_eq_true rfl) (Nat.le_of_ble_eq_true rfl) (by decide) ?_
    refine sp_X2_fail hP hb0 hr (by decide) (fun M2 hF2 hr2 => ?_)
    have hm2 := hm.fr hF2 (by omega)
    refine ⟨_, rfl, ?_⟩
    refine x_zret (pc := 15) dX2_readCommand_15 rfl ⟨by omega, by omega⟩ (by decide) (by decide) ?_
    rw [if_pos (by omega)] at k
    exact k _ (hF2.wide (by omega) (by omega)) hr2 hm2
set_option maxRecDepth 100000 in
theorem sp_X2_readScript {g : GG} {lay : Lay} {M : Mem} {K : KK} {c n : Nat} {tx v : Nat → Int} {cm : Nat → Int} {P : Int} (hP : RdL lay c) (hb0 : g.2.1 ≤ c) (hr : Rd tx n v M c) (hm : Cm cm M c) (hP5 : 2 ≤ P ∧ P ≤ 5) (k : ∀ M2, Frm c (c + 3) M M2 → Rd tx n (scriptF tx n P v cm).2.1 M2 c → Cm (scriptF tx n P v cm).2.2 M2 c → K (.inl (some (vI (scriptF tx n P v cm).1))) lay M2) : X g m_X2_readScript 0 0 lay M 0 [(0, vR c), (1, vI P)] [] K := by
  obtain ⟨U, hU⟩ : ∃ U, U = scriptF tx n P v cm := ⟨_, rfl⟩
  rw [← hU] at k
  unfold scriptF at hU
  have loop : ∀ (d : Nat) (v cm : Nat → Int) (M1 : Mem), v 5 + d = 41 → 0 ≤ v 5 → TkOK n v → Frm c (c + 3) M M1 → Rd tx n v M1 c → Cm cm M1 c → loopC tx n P d v cm = U → X g m_X2_readScript 0 0 lay M1 4 [(0, vR c), (1, vI P)] [] K := by
    intro d
    induction d with
    | zero =>
      intro v cm M1 h5 h50 hk hF hr hm hu
      simp only [loopC] at hu
      subst hu
      have e6 := hr.at 6 (by decide) (by decide)
      have e5 := hr.at 5 (by decide) (by decide)
      refine x_aload_n (pc := 4) dX2_readScript_4 rfl rfl ?_
      refine x_geti (pc := 5) fX2_36 dX2_readScript_5 hP.1 rfl (fun r5a r5b => ?_)
      refine x_if_eq (pc := 8) (t := 50) dX2_readScript_8 (by decide) ⟨by omega, by omega⟩ (fun c8 => ?_) (fun c8 => ?_)
      · refine x_iconst (pc := 50) dX2_readScript_50 ?_
        refine x_zret (pc := 51) dX2_readScript_51 rfl ⟨by omega, by omega⟩ (by decide) (by decide) ?_
        exact k _ hF hr hm
      · refine x_aload_n (pc := 11) dX2_readScript_11 rfl rfl ?_
        refine x_geti (pc := 12) fX2_60 dX2_readScript_12 hP.1 rfl (fun r12a r12b => ?_)
        refine x_bipush (pc := 15) dX2_readScript_15 (by decide) ?_
        refine x_icmp_gt (pc := 17) (t := 50) dX2_readScript_17 (by decide) ⟨by omega, by omega⟩ ⟨by omega, by omega⟩ (fun c17 => ?_) (fun c17 => ?_)
        · refine x_iconst (pc := 50) dX2_readScript_50 ?_
          refine x_zret (pc := 51) dX2_readScript_51 rfl ⟨by omega, by omega⟩ (by decide) (by decide) ?_
          exact k _ hF hr hm
        · exfalso; omega
    | succ d ih =>
      intro v cm M1 h5 h50 hk hF hr hm hu
      have e6 := hr.at 6 (by decide) (by decide)
      have e5 := hr.at 5 (by decide) (by decide)
      have hk2 := rCmd_ok (tx := tx) (cm := cm) (P := P) hk
      have h01 := @rCmdF_01 tx n v cm P
      have h02 := @semF_01 tx n (rCmdF tx n v cm P).2.1
      have h56 : (semF tx n (rCmdF tx n v cm P).2.1).2 5 = (rCmdF tx n v cm P).2.1 5 := sem_ne (by omega)
      have hk3 : TkOK n (semF tx n (rCmdF tx n v cm P).2.1).2 := hk2.1.sem
      simp only [loopC] at hu
      generalize hRR : rCmdF tx n v cm P = RR at *
      generalize hQQ : semF tx n RR.2.1 = QQ at *
      refine x_aload_n (pc := 4) dX2_readScript_4 rfl rfl ?_
      refine x_geti (pc := 5) fX2_36 dX2_readScript_5 hP.1 rfl (fun r5a r5b => ?_)
      rw [e6] at r5a r5b ⊢
      refine x_if_eq (pc := 8) (t := 50) dX2_readScript_8 (by decide) ⟨by omega, by omega⟩ (fun c8 => ?_) (fun c8 => ?_)
      · refine x_iconst (pc := 50) dX2_readScript_50 ?_
        refine x_zret (pc := 51) dX2_readScript_51 rfl ⟨by omega, by omega⟩ (by decide) (by decide) ?_
        first
        | (rw [if_pos (by omega)] at hu
           subst hu
           exact k _ hF hr hm)
        | (rw [if_neg (by omega), if_pos (by omega)] at hu
           subst hu
           exact k _ (hF.trans hF2) hr2 hm2)
        | (rw [if_neg (by omega), if_neg (by omega), if_pos (by omega)] at hu
           subst hu
           exact k _ ((hF.trans hF2).trans (hF3.wide (by omega) (by omega))) hr3 hm3)
      · refine x_aload_n (pc := 11) dX2_readScript_11 rfl rfl ?_
        refine x_geti (pc := 12) fX2_60 dX2_readScript_12 hP.1 rfl (fun r12a r12b => ?_)
        refine x_bipush (pc := 15) dX2_readScript_15 (by decide) ?_
        refine x_icmp_gt (pc := 17) (t := 50) dX2_readScript_17 (by decide) ⟨by omega, by omega⟩ ⟨by omega, by omega⟩ (fun c17 => ?_) (fun c17 => ?_)
        · exfalso; omega
        · refine x_aload_n (pc := 20) dX2_readScript_20 rfl rfl ?_
          refine x_iload_n (pc := 21) dX2_readScript_21 rfl rfl ?_
          refine x_callV (pc := 22) [_] rfl kX2_138 dX2_readScript_22 hP.1 rfl rfl (by decide) (Nat.le_of_ble_eq_true rfl) (Nat.le_of_ble_eq_true rfl) (by decide) ?_
          refine sp_X2_readCommand hP hb0 hr hk hm (by omega) hP5 (fun M2 hF2 hr2 hm2 => ?_)
          rw [hRR] at hr2 hm2 ⊢
          refine ⟨_, rfl, ?_⟩
          refine x_if_eq (pc := 25) (t := 35) dX2_readScript_25 (by decide) ⟨by omega, by omega⟩ (fun c25 => ?_) (fun c25 => ?_)
          · refine x_iconst (pc := 35) dX2_readScript_35 ?_
            refine x_zret (pc := 36) dX2_readScript_36 rfl ⟨by omega, by omega⟩ (by decide) (by decide) ?_
            first
            | (rw [if_pos (by omega)] at hu
               subst hu
               exact k _ hF hr hm)
            | (rw [if_neg (by omega), if_pos (by omega)] at hu
               subst hu
               exact k _ (hF.trans hF2) hr2 hm2)
            | (rw [if_neg (by omega), if_neg (by omega), if_pos (by omega)] at hu
               subst hu
               exact k _ ((hF.trans hF2).trans (hF3.wide (by omega) (by omega))) hr3 hm3)
          · refine x_aload_n (pc := 28) dX2_readScript_28 rfl rfl ?_
            refine x_callV (pc := 29) [] rfl kX2_86 dX2_readScript_29 hP.1 rfl rfl (by decide) (Nat.le_of_ble_eq_true rfl) (Nat.le_of_ble_eq_true rfl) (by decide) ?_
            refine sp_X2_readSemicolon hP hb0 hr2 hk2.1 (fun M3 hF3 hr3 => ?_)
            rw [hQQ] at hr3 ⊢
            have hm3 := hm2.fr hF3 (by omega)
            refine ⟨_, rfl, ?_⟩
            refine x_if_ne (pc := 32) (t := 37) dX2_readScript_32 (by decide) ⟨by omega, by omega⟩ (fun c32 => ?_) (fun c32 => ?_)
            · refine x_aload_n (pc := 37) dX2_readScript_37 rfl rfl ?_
              refine x_dup (pc := 38) dX2_readScript_38 rfl ?_
              refine x_geti (pc := 39) fX2_60 dX2_readScript_39 hP.1 rfl (fun r39a r39b => ?_)
              rw [hr3.at 5 (by decide) (by decide)] at r39a r39b ⊢
              refine x_iconst (pc := 42) dX2_readScript_42 ?_
              refine x_iadd (pc := 43) dX2_readScript_43 ?_
              refine x_puti (pc := 44) fnX2_60 dX2_readScript_44 hP.1 (by omega) rfl ⟨by omega, by omega⟩ ?_
              refine x_goto (pc := 47) (t := 4) dX2_readScript_47 (by decide) ?_
              rw [if_neg (by omega), if_neg (by omega), if_neg (by omega)] at hu
              refine ih _ _ _ ?_ ?_ (hk3.fup (by omega)) (((hF.trans hF2).trans (hF3.wide (by omega) (by omega))).ms (by omega)) (hr3.ms (by decide)) (fun i hi => by rw [mset_nea (by omega)]; exact hm3 i hi) hu
              · rw [fup_at]
                omega
              · rw [fup_at]
                omega
            · refine x_iconst (pc := 35) dX2_readScript_35 ?_
              refine x_zret (pc := 36) dX2_readScript_36 rfl ⟨by omega, by omega⟩ (by decide) (by decide) ?_
              first
              | (rw [if_pos (by omega)] at hu
                 subst hu
                 exact k _ hF hr hm)
              | (rw [if_neg (by omega), if_pos (by omega)] at hu
                 subst hu
                 exact k _ (hF.trans hF2) hr2 hm2)
              | (rw [if_neg (by omega), if_neg (by omega), if_pos (by omega)] at hu
                 subst hu
                 exact k _ ((hF.trans hF2).trans (hF3.wide (by omega) (by omega))) hr3 hm3)
  refine x_aload_n (pc := 0) dX2_readScript_0 rfl rfl ?_
  refine x_callV (pc := 1) [] rfl kX2_79 dX2_readScript_1 hP.1 rfl rfl (by decide) (Nat.le_of_ble_eq_true rfl) (Nat.le_of_ble_eq_true rfl) (by decide) ?_
  refine sp_X2_beginText hP hb0 hr (fun M2 hF2 hr2 hk2 => ?_)
  have hm2 := hm.fr hF2 (by omega)
  refine ⟨_, rfl, ?_⟩
  exact loop 41 _ _ _ (by rw [begin5]; rfl) (by rw [begin5]; decide) hk2 (hF2.wide (by omega) (by omega)) hr2 hm2 hU.symm
