/-! Specs of the page, second part: polynomials, terms, claims; output of RootDuel. -/
theorem app_apps (pg : List Int) (x : Int) : app pg x = apps pg [x] := rfl

set_option maxRecDepth 100000 in
theorem sp_X1_putTerm {g : GG} {lay : Lay} {M : Mem} {K : KK} {c : Nat} {pg : List Int} {x p : Int} (hP : PgL lay c) (hb0 : g.2.1 ≤ c) (hg : Pg pg M c) (hx : -9 ≤ x ∧ x ≤ 9) (hp : 0 ≤ p ∧ p ≤ 9) (k : ∀ M2, Frm c (c + 2) M M2 → Pg (apps pg (termF x p)) M2 c → K (.inl none) lay M2) : X g m_X1_putTerm 0 0 lay M 0 [(0, vR c), (1, vI x), (2, vI p)] [] K := by
  unfold termF at k
  refine x_iload_n (pc := 0) dX1_putTerm_0 rfl rfl ?_
  refine x_if_ne (pc := 1) (t := 11) dX1_putTerm_1 (by decide) ⟨by omega, by omega⟩ (fun c1 => ?_) (fun c1 => ?_)
  · refine x_aload_n (pc := 11) dX1_putTerm_11 rfl rfl ?_
    refine x_ldcS (pc := 12) (q := 7) (by decide) dX1_putTerm_12 ?_
    refine x_callV (pc := 14) [_] rfl kX1_48 dX1_putTerm_14 hP.1 rfl rfl (by decide) (Nat.le_of_ble_eq_true rfl) (Nat.le_of_ble_eq_true rfl) (by decide) ?_
    refine sp_X1_putText hP hb0 hg (by decide) (fun M2 hFM2 hg2 => ?_)
    refine ⟨_, rfl, ?_⟩
    refine x_aload_n (pc := 17) dX1_putTerm_17 rfl rfl ?_
    refine x_iload_n (pc := 18) dX1_putTerm_18 rfl rfl ?_
    refine x_callV (pc := 19) [_] rfl kX1_54 dX1_putTerm_19 hP.1 rfl rfl (by decide) (Nat.le_of_ble_eq_true rfl) (Nat.le_of_ble_eq_true rfl) (by decide) ?_
    refine sp_X1_putSpaced hP hb0 hg2 (by omega) (fun M3 hFM3 hg3 => ?_)
    refine ⟨_, rfl, ?_⟩
    refine x_aload_n (pc := 22) dX1_putTerm_22 rfl rfl ?_
    refine x_iload_n (pc := 23) dX1_putTerm_23 rfl rfl ?_
    refine x_callV (pc := 24) [_] rfl kX1_54 dX1_putTerm_24 hP.1 rfl rfl (by decide) (Nat.le_of_ble_eq_true rfl) (Nat.le_of_ble_eq_true rfl) (by decide) ?_
    refine sp_X1_putSpaced hP hb0 hg3 (by omega) (fun M4 hFM4 hg4 => ?_)
    refine ⟨_, rfl, ?_⟩
    refine x_aload_n (pc := 27) dX1_putTerm_27 rfl rfl ?_
    refine x_bipush (pc := 28) dX1_putTerm_28 (by decide) ?_
    refine x_callV (pc := 30) [_] rfl kX1_28 dX1_putTerm_30 hP.1 rfl rfl (by decide) (Nat.le_of_ble_eq_true rfl) (Nat.le_of_ble_eq_true rfl) (by decide) ?_
    refine sp_X1_putSign hP hb0 hg4 (by omega) (fun M5 hFM5 hg5 => ?_)
    refine ⟨_, rfl, ?_⟩
    refine x_vret (pc := 33) dX1_putTerm_33 rfl (by decide) (by decide) ?_
    rw [if_neg (by omega), apps_app, apps_app, apps_app] at k
    exact k _ (((hFM2.trans hFM3).trans hFM4).trans hFM5) hg5
  · refine x_aload_n (pc := 4) dX1_putTerm_4 rfl rfl ?_
    refine x_ldcS (pc := 5) (q := 14) (by decide) dX1_putTerm_5 ?_
    refine x_callV (pc := 7) [_] rfl kX1_48 dX1_putTerm_7 hP.1 rfl rfl (by decide) (Nat.le_of_ble_eq_true rfl) (Nat.le_of_ble_eq_true rfl) (by decide) ?_
    refine sp_X1_putText hP hb0 hg (by decide) (fun M2 hFM2 hg2 => ?_)
    refine ⟨_, rfl, ?_⟩
    refine x_vret (pc := 10) dX1_putTerm_10 rfl (by decide) (by decide) ?_
    rw [if_pos (by omega)] at k
    exact k _ hFM2 hg2
set_option maxRecDepth 100000 in
theorem sp_X1_putClaim {g : GG} {lay : Lay} {M : Mem} {K : KK} {c : Nat} {pg : List Int} {z : Nat} {T : CT} {pl i : Nat} (hP : PgL lay c) (hb0 : g.2.1 ≤ c) (hg : Pg pg M c) (hC : CtL lay z) (hT : Ct T M z) (hW : WfT T) (hcz : z + 7 ≤ c ∨ c + 2 ≤ z) (hpl : pl < 2) (hi : i < tK T pl) (k : ∀ M2, Frm c (c + 2) M M2 → Pg (apps pg (clmT (tL T pl i))) M2 c → K (.inl none) lay M2) : X g m_X1_putClaim 0 0 lay M 0 [(0, vR c), (1, vR z), (2, vI pl), (3, vI i)] [] K := by
  have wl := hW.2.2.2.2.2.1 pl i hpl hi
  unfold WfL at wl
  unfold clmT at k
  rw [apps_app] at k
  have rest : ∀ (M2 : Mem) (pg2 : List Int), Frm c (c + 2) M M2 → Pg pg2 M2 c → pg2 = apps pg (if tL T pl i 3 = 1 then stB 12 else stB 13) → X g m_X1_putClaim 0 0 lay M2 22 [(0, vR c), (1, vR z), (2, vI pl), (3, vI i)] [] K := by
    intro M2 pg2 hF2 hg2 hp2
    rw [← hp2] at k
    have hT2 := hT.frm hF2 (by omega)
    refine x_aload_n (pc := 22) dX1_putClaim_22 rfl rfl ?_
    refine x_aload_n (pc := 23) dX1_putClaim_23 rfl rfl ?_
    refine x_iload_n (pc := 24) dX1_putClaim_24 rfl rfl ?_
    refine x_iload_n (pc := 25) dX1_putClaim_25 rfl rfl ?_
    refine x_iconst (pc := 26) dX1_putClaim_26 ?_
    refine x_callV (pc := 27) [_, _, _] rfl kX1_62 dX1_putClaim_27 hC.1 rfl rfl (by decide) (Nat.le_of_ble_eq_true rfl) (Nat.le_of_ble_eq_true rfl) (by decide) ?_
    refine sp_X0_claimField (f := 0) hC hT2 hW hpl hi (by decide) ?_
    refine ⟨_, rfl, ?_⟩
    refine x_callV (pc := 30) [_] rfl kX1_54 dX1_putClaim_30 hP.1 rfl rfl (by decide) (Nat.le_of_ble_eq_true rfl) (Nat.le_of_ble_eq_true rfl) (by decide) ?_
    refine sp_X1_putSpaced hP hb0 hg2 (by omega) (fun M3 hFM3 hg3 => ?_)
    have hT3 := hT2.frm hFM3 (by omega)
    refine ⟨_, rfl, ?_⟩
    refine x_aload_n (pc := 33) dX1_putClaim_33 rfl rfl ?_
    refine x_aload_n (pc := 34) dX1_putClaim_34 rfl rfl ?_
    refine x_iload_n (pc := 35) dX1_putClaim_35 rfl rfl ?_
    refine x_iload_n (pc := 36) dX1_putClaim_36 rfl rfl ?_
    refine x_iconst (pc := 37) dX1_putClaim_37 ?_
    refine x_callV (pc := 38) [_, _, _] rfl kX1_62 dX1_putClaim_38 hC.1 rfl rfl (by decide) (Nat.le_of_ble_eq_true rfl) (Nat.le_of_ble_eq_true rfl) (by decide) ?_
    refine sp_X0_claimField (f := 1) hC hT3 hW hpl hi (by decide) ?_
    refine ⟨_, rfl, ?_⟩
    refine x_callV (pc := 41) [_] rfl kX1_54 dX1_putClaim_41 hP.1 rfl rfl (by decide) (Nat.le_of_ble_eq_true rfl) (Nat.le_of_ble_eq_true rfl) (by decide) ?_
    refine sp_X1_putSpaced hP hb0 hg3 (by omega) (fun M4 hFM4 hg4 => ?_)
    have hT4 := hT3.frm hFM4 (by omega)
    refine ⟨_, rfl, ?_⟩
    refine x_aload_n (pc := 44) dX1_putClaim_44 rfl rfl ?_
    refine x_aload_n (pc := 45) dX1_putClaim_45 rfl rfl ?_
    refine x_iload_n (pc := 46) dX1_putClaim_46 rfl rfl ?_
    refine x_iload_n (pc := 47) dX1_putClaim_47 rfl rfl ?_
    refine x_iconst (pc := 48) dX1_putClaim_48 ?_
    refine x_callV (pc := 49) [_, _, _] rfl kX1_62 dX1_putClaim_49 hC.1 rfl rfl (by decide) (Nat.le_of_ble_eq_true rfl) (Nat.le_of_ble_eq_true rfl) (by decide) ?_
    refine sp_X0_claimField (f := 2) hC hT4 hW hpl hi (by decide) ?_
    refine ⟨_, rfl, ?_⟩
    refine x_callV (pc := 52) [_] rfl kX1_54 dX1_putClaim_52 hP.1 rfl rfl (by decide) (Nat.le_of_ble_eq_true rfl) (Nat.le_of_ble_eq_true rfl) (by decide) ?_
    refine sp_X1_putSpaced hP hb0 hg4 (by omega) (fun M5 hFM5 hg5 => ?_)
    have hT5 := hT4.frm hFM5 (by omega)
    refine ⟨_, rfl, ?_⟩
    refine x_aload_n (pc := 55) dX1_putClaim_55 rfl rfl ?_
    refine x_aload_n (pc := 56) dX1_putClaim_56 rfl rfl ?_
    refine x_iload_n (pc := 57) dX1_putClaim_57 rfl rfl ?_
    refine x_iload_n (pc := 58) dX1_putClaim_58 rfl rfl ?_
    refine x_iconst (pc := 59) dX1_putClaim_59 ?_
    refine x_callV (pc := 60) [_, _, _] rfl kX1_62 dX1_putClaim_60 hC.1 rfl rfl (by decide) (Nat.le_of_ble_eq_true rfl) (Nat.le_of_ble_eq_true rfl) (by decide) ?_
    refine sp_X0_claimField (f := 4) hC hT5 hW hpl hi (by decide) ?_
    refine ⟨_, rfl, ?_⟩
    refine x_callV (pc := 63) [_] rfl kX1_54 dX1_putClaim_63 hP.1 rfl rfl (by decide) (Nat.le_of_ble_eq_true rfl) (Nat.le_of_ble_eq_true rfl) (by decide) ?_
    refine sp_X1_putSpaced hP hb0 hg5 (by omega) (fun M6 hFM6 hg6 => ?_)
    refine ⟨_, rfl, ?_⟩
    refine x_aload_n (pc := 66) dX1_putClaim_66 rfl rfl ?_
    refine x_bipush (pc := 67) dX1_putClaim_67 (by decide) ?_
    refine x_callV (pc := 69) [_] rfl kX1_28 dX1_putClaim_69 hP.1 rfl rfl (by decide) (Nat.le_of_ble_eq_true rfl) (Nat.le_of_ble_eq_true rfl) (by decide) ?_
    refine sp_X1_putSign hP hb0 hg6 (by omega) (fun M7 hFM7 hg7 => ?_)
    refine ⟨_, rfl, ?_⟩
    refine x_vret (pc := 72) dX1_putClaim_72 rfl (by decide) (by decide) ?_
    have k9 := k _ (((((hF2.trans hFM3).trans hFM4).trans hFM5).trans hFM6).trans hFM7)
    simp only [apps_app, apps] at k9
    exact k9 hg7
  refine x_aload_n (pc := 0) dX1_putClaim_0 rfl rfl ?_
  refine x_aload_n (pc := 1) dX1_putClaim_1 rfl rfl ?_
  refine x_iload_n (pc := 2) dX1_putClaim_2 rfl rfl ?_
  refine x_iload_n (pc := 3) dX1_putClaim_3 rfl rfl ?_
  refine x_iconst (pc := 4) dX1_putClaim_4 ?_
  refine x_callV (pc := 5) [_, _, _] rfl kX1_62 dX1_putClaim_5 hC.1 rfl rfl (by decide) (Nat.le_of_ble_eq_true rfl) (Nat.le_of_ble_eq_true rfl) (by decide) ?_
  refine sp_X0_claimField (f := 3) hC hT hW hpl hi (by decide) ?_
  refine ⟨_, rfl, ?_⟩
  refine x_iconst (pc := 8) dX1_putClaim_8 ?_
  refine x_icmp_ne (pc := 9) (t := 17) dX1_putClaim_9 (by decide) ⟨by omega, by omega⟩ ⟨by omega, by omega⟩ (fun c9 => ?_) (fun c9 => ?_)
  · refine x_ldcS (pc := 17) (q := 13) (by decide) dX1_putClaim_17 ?_
    refine x_callV (pc := 19) [_] rfl kX1_48 dX1_putClaim_19 hP.1 rfl rfl (by decide) (Nat.le_of_ble_eq_true rfl) (Nat.le_of_ble_eq_true rfl) (by decide) ?_
    first
    | refine sp_X1_putText (q := 12) hP hb0 hg (by decide) (fun M2 hFM2 hg2 => ?_)
    | refine sp_X1_putText (q := 13) hP hb0 hg (by decide) (fun M2 hFM2 hg2 => ?_)
    refine ⟨_, rfl, ?_⟩
    refine rest _ _ hFM2 hg2 ?_
    first
    | rw [if_pos (by omega)]
    | rw [if_neg (by omega)]
  · refine x_ldcS (pc := 12) (q := 12) (by decide) dX1_putClaim_12 ?_
    refine x_goto (pc := 14) (t := 19) dX1_putClaim_14 (by decide) ?_
    refine x_callV (pc := 19) [_] rfl kX1_48 dX1_putClaim_19 hP.1 rfl rfl (by decide) (Nat.le_of_ble_eq_true rfl) (Nat.le_of_ble_eq_true rfl) (by decide) ?_
    first
    | refine sp_X1_putText (q := 12) hP hb0 hg (by decide) (fun M2 hFM2 hg2 => ?_)
    | refine sp_X1_putText (q := 13) hP hb0 hg (by decide) (fun M2 hFM2 hg2 => ?_)
    refine ⟨_, rfl, ?_⟩
    refine rest _ _ hFM2 hg2 ?_
    first
    | rw [if_pos (by omega)]
    | rw [if_neg (by omega)]
set_option maxRecDepth 100000 in
theorem sp_X1_putClaims {g : GG} {lay : Lay} {M : Mem} {K : KK} {c : Nat} {pg : List Int} {z : Nat} {T : CT} {t : Nat} (hP : PgL lay c) (hb0 : g.2.1 ≤ c) (hg : Pg pg M c) (hC : CtL lay z) (hT : Ct T M z) (hW : WfT T) (hcz : z + 7 ≤ c ∨ c + 2 ≤ z) (ht : t ≤ 60) (k : ∀ M2, Frm c (c + 2) M M2 → Pg (apps pg (clmsT (tL T (t % 2)) t (tK T (t % 2)))) M2 c → K (.inl none) lay M2) : X g m_X1_putClaims 0 0 lay M 0 [(0, vR c), (1, vR z), (2, vI t)] [] K := by
  have m2 : t % 2 < 2 := Nat.mod_lt _ (by decide)
  have wk := hW.2.2.2.2.1 (t % 2)
  have hK := hT.2.2.2.2.1 (t % 2) m2
  have et : (t : Int).tmod 2 = ((t % 2 : Nat) : Int) := tmod2 t
  generalize hpl : t % 2 = pl at *
  have loop : ∀ (d j : Nat) (y : Int) (M1 : Mem), j + d = tK T pl → y = j → Frm c (c + 2) M M1 → Pg (apps pg (clmsT (tL T pl) t j)) M1 c → X g m_X1_putClaims 0 0 lay M1 7 [(4, vI y), (3, vI pl), (0, vR c), (1, vR z), (2, vI t)] [] K := by
    intro d
    induction d with
    | zero =>
      intro j y M1 hj hy hF hg1
      have e1 : M1 (z + 6) pl = tK T pl := by rw [hF _ _ (by omega)]; exact hK
      refine x_iload (pc := 7) dX1_putClaims_7 rfl ?_
      refine x_aload_n (pc := 9) dX1_putClaims_9 rfl rfl ?_
      refine x_iload_n (pc := 10) dX1_putClaims_10 rfl rfl ?_
      refine x_callV (pc := 11) [_] rfl kX1_57 dX1_putClaims_11 hC.1 rfl rfl (by decide) (Nat.le_of_ble_eq_true rfl) (Nat.le_of_ble_eq_true rfl) (by decide) ?_
      refine sp_X0_claimsOf hC (hT.frm hF (by omega)) hW m2 ?_
      refine ⟨_, rfl, ?_⟩
      refine x_icmp_ge (pc := 14) (t := 43) dX1_putClaims_14 (by decide) ⟨by omega, by omega⟩ ⟨by omega, by omega⟩ (fun c14 => ?_) (fun c14 => ?_)
      · refine x_vret (pc := 43) dX1_putClaims_43 rfl (by decide) (by decide) ?_
        rw [show j = tK T pl by omega] at hg1
        exact k _ hF hg1
      · exfalso; omega
    | succ d ih =>
      intro j y M1 hj hy hF hg1
      have e1 : M1 (z + 6) pl = tK T pl := by rw [hF _ _ (by omega)]; exact hK
      have hT1 := hT.frm hF (by omega)
      have wl := hW.2.2.2.2.2.1 pl j m2 (by omega)
      unfold WfL at wl
      have wn := hW.n60
      subst hy
      refine x_iload (pc := 7) dX1_putClaims_7 rfl ?_
      refine x_aload_n (pc := 9) dX1_putClaims_9 rfl rfl ?_
      refine x_iload_n (pc := 10) dX1_putClaims_10 rfl rfl ?_
      refine x_callV (pc := 11) [_] rfl kX1_57 dX1_putClaims_11 hC.1 rfl rfl (by decide) (Nat.le_of_ble_eq_true rfl) (Nat.le_of_ble_eq_true rfl) (by decide) ?_
      refine sp_X0_claimsOf hC hT1 hW m2 ?_
      refine ⟨_, rfl, ?_⟩
      refine x_icmp_ge (pc := 14) (t := 43) dX1_putClaims_14 (by decide) ⟨by omega, by omega⟩ ⟨by omega, by omega⟩ (fun c14 => ?_) (fun c14 => ?_)
      · exfalso; omega
      · refine x_aload_n (pc := 17) dX1_putClaims_17 rfl rfl ?_
        refine x_iload_n (pc := 18) dX1_putClaims_18 rfl rfl ?_
        refine x_iload (pc := 19) dX1_putClaims_19 rfl ?_
        refine x_iconst (pc := 21) dX1_putClaims_21 ?_
        refine x_callV (pc := 22) [_, _, _] rfl kX1_62 dX1_putClaims_22 hC.1 rfl rfl (by decide) (Nat.le_of_ble_eq_true rfl) (Nat.le_of_ble_eq_true rfl) (by decide) ?_
        refine sp_X0_claimField (f := 5) hC hT1 hW m2 (by omega) (by decide) ?_
        refine ⟨_, rfl, ?_⟩
        refine x_iload_n (pc := 25) dX1_putClaims_25 rfl rfl ?_
        refine x_icmp_ne (pc := 26) (t := 37) dX1_putClaims_26 (by decide) ⟨by omega, by omega⟩ ⟨by omega, by omega⟩ (fun c26 => ?_) (fun c26 => ?_)
        · refine x_iinc (pc := 37) dX1_putClaims_37 rfl (by decide) (L' := [(4, _), (3, _), (0, _), (1, _), (2, _)]) rfl ?_
          refine x_goto (pc := 40) (t := 7) dX1_putClaims_40 (by decide) ?_
          refine X.loc [0, 1, 2, 3, 4] (L' := [(4, _), (3, _), (0, _), (1, _), (2, _)]) rfl ?_
          first
          | (refine ih (j + 1) _ _ (by omega) (by omega) (hF.trans hFM2) ?_
             simp only [clmsT]
             rw [if_pos (by omega), apps_app]
             exact hg2)
          | (refine ih (j + 1) _ _ (by omega) (by omega) hF ?_
             simp only [clmsT]
             rw [if_neg (by omega), List.append_nil]
             exact hg1)
        · refine x_aload_n (pc := 29) dX1_putClaims_29 rfl rfl ?_
          refine x_aload_n (pc := 30) dX1_putClaims_30 rfl rfl ?_
          refine x_iload_n (pc := 31) dX1_putClaims_31 rfl rfl ?_
          refine x_iload (pc := 32) dX1_putClaims_32 rfl ?_
          refine x_callV (pc := 34) [_, _, _] rfl kX1_66 dX1_putClaims_34 hP.1 rfl rfl (by decide) (Nat.le_of_ble_eq_true rfl) (Nat.le_of_ble_eq_true rfl) (by decide) ?_
          refine sp_X1_putClaim hP hb0 hg1 hC hT1 hW hcz m2 (by omega) (fun M2 hFM2 hg2 => ?_)
          refine ⟨_, rfl, ?_⟩
          refine x_iinc (pc := 37) dX1_putClaims_37 rfl (by decide) (L' := [(4, _), (3, _), (0, _), (1, _), (2, _)]) rfl ?_
          refine x_goto (pc := 40) (t := 7) dX1_putClaims_40 (by decide) ?_
          refine X.loc [0, 1, 2, 3, 4] (L' := [(4, _), (3, _), (0, _), (1, _), (2, _)]) rfl ?_
          first
          | (refine ih (j + 1) _ _ (by omega) (by omega) (hF.trans hFM2) ?_
             simp only [clmsT]
             rw [if_pos (by omega), apps_app]
             exact hg2)
          | (refine ih (j + 1) _ _ (by omega) (by omega) hF ?_
             simp only [clmsT]
             rw [if_neg (by omega), List.append_nil]
             exact hg1)
  refine x_iload_n (pc := 0) dX1_putClaims_0 rfl rfl ?_
  refine x_iconst (pc := 1) dX1_putClaims_1 ?_
  refine x_irem (pc := 2) dX1_putClaims_2 ⟨by omega, by omega⟩ ⟨by omega, by omega⟩ (by omega) ?_
  rw [et]
  refine x_istore_n (pc := 3) dX1_putClaims_3 rfl (by decide) (L' := [(3, _), (0, _), (1, _), (2, _)]) rfl ?_
  refine x_iconst (pc := 4) dX1_putClaims_4 ?_
  refine x_istore (pc := 5) dX1_putClaims_5 trivial (by decide) (L' := [(4, _), (3, _), (0, _), (1, _), (2, _)]) rfl ?_
  refine X.loc [0, 1, 2, 3, 4] (L' := [(4, _), (3, _), (0, _), (1, _), (2, _)]) rfl ?_
  exact loop (tK T pl) 0 _ _ (by omega) rfl Frm.rf hg
set_option maxRecDepth 100000 in
theorem sp_X4_writeTurns {g : GG} {lay : Lay} {M : Mem} {K : KK} {b : Nat} {sv : Nat → Option Nat} {T : CT} (gB : GoodB) (hd : DuL lay b sv) (hb0 : g.2.1 ≤ b) (hT : Ct T M (b + 1)) (hW : WfT T) (k : ∀ M2, Frm (b + 28) (b + 30) M M2 → Pg (writeT T) M2 (b + 28) → K (oI ((writeT T).length : Nat)) lay M2) : X g m_X4_writeTurns 0 0 lay M 0 [(0, vR b)] [] K := by
  have wn := hW.n60
  unfold writeT at k
  rw [apps_app] at k
  have hPL := hd.2.2.2.2.2.2.1
  have loop : ∀ (d j : Nat) (y : Int) (M1 : Mem), j + d = tN T → y = j → Frm (b + 28) (b + 30) M M1 → Pg (apps [] (turnsT T j)) M1 (b + 28) → X g m_X4_writeTurns 0 0 lay M1 9 [(1, vI y), (0, vR b)] [] K := by
    intro d
    induction d with
    | zero =>
      intro j y M1 hj hy hF hg1
      have hT1 := hT.frm hF (by omega)
      have hN := hT1.2.2.1
      rw [show j = tN T by omega] at hg1
      refine x_iload_n (pc := 9) dX4_writeTurns_9 rfl rfl ?_
      refine x_aload_n (pc := 10) dX4_writeTurns_10 rfl rfl ?_
      refine x_getr (pc := 11) (b := b + 1) fX4_10 dX4_writeTurns_11 hd.1 rfl rfl ?_
      refine x_geti (pc := 14) fX4_114 dX4_writeTurns_14 hd.2.1.1 rfl (fun r14a r14b => ?_)
      refine x_icmp_ge (pc := 17) (t := 69) dX4_writeTurns_17 (by decide) ⟨by omega, by omega⟩ ⟨by omega, by omega⟩ (fun c17 => ?_) (fun c17 => ?_)
      · refine x_aload_n (pc := 69) dX4_writeTurns_69 rfl rfl ?_
        refine x_getr (pc := 70) (b := b + 28) fX4_40 dX4_writeTurns_70 hd.1 rfl rfl ?_
        refine x_aload_n (pc := 73) dX4_writeTurns_73 rfl rfl ?_
        refine x_getr (pc := 74) (b := b + 1) fX4_10 dX4_writeTurns_74 hd.1 rfl rfl ?_
        refine x_aload_n (pc := 77) dX4_writeTurns_77 rfl rfl ?_
        refine x_getr (pc := 78) (b := b + 1) fX4_10 dX4_writeTurns_78 hd.1 rfl rfl ?_
        refine x_geti (pc := 81) fX4_114 dX4_writeTurns_81 hd.2.1.1 rfl (fun r81a r81b => ?_)
        rw [hN]
        refine x_callV (pc := 84) [_, _] rfl kX4_258 dX4_writeTurns_84 hd.2.2.2.2.2.2.1.1 rfl rfl (by decide) (Nat.le_of_ble_eq_true rfl) (Nat.le_of_ble_eq_true rfl) (by decide) ?_
        refine sp_X1_putClaims hPL (by omega) hg1 hd.2.1 hT1 hW (by omega) wn (fun M2 hF2 hg2 => ?_)
        refine ⟨_, rfl, ?_⟩
        refine x_aload_n (pc := 87) dX4_writeTurns_87 rfl rfl ?_
        refine x_getr (pc := 88) (b := b + 28) fX4_40 dX4_writeTurns_88 hd.1 rfl rfl ?_
        refine x_geti (pc := 91) fX4_257 dX4_writeTurns_91 hd.2.2.2.2.2.2.1.1 rfl (fun r91a r91b => ?_)
        rw [hg2.1]
        refine x_iret (pc := 94) dX4_writeTurns_94 rfl (by decide) (by decide) ?_
        exact k _ (hF.trans hF2) hg2
      · exfalso; omega
    | succ d ih =>
      intro j y M1 hj hy hF hg1
      have hT1 := hT.frm hF (by omega)
      have hN := hT1.2.2.1
      have hm := hT1.2.2.2.1 j (by omega)
      have wm := hW.2.2.2.1 j (by omega)
      have w0 := hW.1.1
      subst hy
      refine x_iload_n (pc := 9) dX4_writeTurns_9 rfl rfl ?_
      refine x_aload_n (pc := 10) dX4_writeTurns_10 rfl rfl ?_
      refine x_getr (pc := 11) (b := b + 1) fX4_10 dX4_writeTurns_11 hd.1 rfl rfl ?_
      refine x_geti (pc := 14) fX4_114 dX4_writeTurns_14 hd.2.1.1 rfl (fun r14a r14b => ?_)
      refine x_icmp_ge (pc := 17) (t := 69) dX4_writeTurns_17 (by decide) ⟨by omega, by omega⟩ ⟨by omega, by omega⟩ (fun c17 => ?_) (fun c17 => ?_)
      · exfalso; omega
      · refine x_iload_n (pc := 20) dX4_writeTurns_20 rfl rfl ?_
        refine x_bipush (pc := 21) dX4_writeTurns_21 (by decide) ?_
        refine x_icmp_ge (pc := 23) (t := 69) dX4_writeTurns_23 (by decide) ⟨by omega, by omega⟩ ⟨by omega, by omega⟩ (fun c23 => ?_) (fun c23 => ?_)
        · exfalso; omega
        · refine x_aload_n (pc := 26) dX4_writeTurns_26 rfl rfl ?_
          refine x_getr (pc := 27) (b := b + 28) fX4_40 dX4_writeTurns_27 hd.1 rfl rfl ?_
          refine x_aload_n (pc := 30) dX4_writeTurns_30 rfl rfl ?_
          refine x_getr (pc := 31) (b := b + 1) fX4_10 dX4_writeTurns_31 hd.1 rfl rfl ?_
          refine x_iload_n (pc := 34) dX4_writeTurns_34 rfl rfl ?_
          refine x_callV (pc := 35) [_, _] rfl kX4_258 dX4_writeTurns_35 hd.2.2.2.2.2.2.1.1 rfl rfl (by decide) (Nat.le_of_ble_eq_true rfl) (Nat.le_of_ble_eq_true rfl) (by decide) ?_
          refine sp_X1_putClaims hPL (by omega) hg1 hd.2.1 hT1 hW (by omega) (by omega) (fun M2 hF2 hg2 => ?_)
          have hT2 := hT1.frm hF2 (by omega)
          refine ⟨_, rfl, ?_⟩
          refine x_aload_n (pc := 38) dX4_writeTurns_38 rfl rfl ?_
          refine x_getr (pc := 39) (b := b + 28) fX4_40 dX4_writeTurns_39 hd.1 rfl rfl ?_
          refine x_aload_n (pc := 42) dX4_writeTurns_42 rfl rfl ?_
          refine x_getr (pc := 43) (b := b + 1) fX4_10 dX4_writeTurns_43 hd.1 rfl rfl ?_
          refine x_getr (pc := 46) (b := b + 1 + 3) fX4_262 dX4_writeTurns_46 hd.2.1.1 rfl rfl ?_
          refine x_iload_n (pc := 49) dX4_writeTurns_49 rfl rfl ?_
          refine x_iald (pc := 50) dX4_writeTurns_50 hd.2.1.2.2.2.1 (by omega) (by omega) (fun r50a r50b => ?_)
          refine x_aload_n (pc := 51) dX4_writeTurns_51 rfl rfl ?_
          refine x_getr (pc := 52) (b := b + 1) fX4_10 dX4_writeTurns_52 hd.1 rfl rfl ?_
          refine x_getr (pc := 55) (b := b + 1 + 4) fX4_265 dX4_writeTurns_55 hd.2.1.1 rfl rfl ?_
          refine x_iload_n (pc := 58) dX4_writeTurns_58 rfl rfl ?_
          refine x_iald (pc := 59) dX4_writeTurns_59 hd.2.1.2.2.2.2.1 (by omega) (by omega) (fun r59a r59b => ?_)
          refine x_callV (pc := 60) [_, _] rfl kX4_268 dX4_writeTurns_60 hd.2.2.2.2.2.2.1.1 rfl rfl (by decide) (Nat.le_of_ble_eq_true rfl) (Nat.le_of_ble_eq_true rfl) (by decide) ?_
          rw [Int.toNat_natCast, (hT2.2.2.2.1 j (by omega)).1, (hT2.2.2.2.1 j (by omega)).2]
          refine sp_X1_putTerm hPL (by omega) hg2 (by omega) (by omega) (fun M3 hF3 hg3 => ?_)
          refine ⟨_, rfl, ?_⟩
          refine x_iinc (pc := 63) dX4_writeTurns_63 rfl (by decide) (L' := [(1, _), (0, _)]) rfl ?_
          refine x_goto (pc := 66) (t := 9) dX4_writeTurns_66 (by decide) ?_
          refine X.loc [0, 1] (L' := [(1, _), (0, _)]) rfl ?_
          refine ih (j + 1) _ _ (by omega) (by omega) ((hF.trans hF2).trans hF3) ?_
          simp only [turnsT]
          rw [apps_app, apps_app]
          exact hg3
  refine x_aload_n (pc := 0) dX4_writeTurns_0 rfl rfl ?_
  refine x_getr (pc := 1) (b := b + 28) fX4_40 dX4_writeTurns_1 hd.1 rfl rfl ?_
  refine x_callV (pc := 4) [] rfl kX4_253 dX4_writeTurns_4 hd.2.2.2.2.2.2.1.1 rfl rfl (by decide) (Nat.le_of_ble_eq_true rfl) (Nat.le_of_ble_eq_true rfl) (by decide) ?_
  refine sp_X1_begin hPL (by omega) (fun M2 hF2 hg2 => ?_)
  refine ⟨_, rfl, ?_⟩
  refine x_iconst (pc := 7) dX4_writeTurns_7 ?_
  refine x_istore_n (pc := 8) dX4_writeTurns_8 rfl (by decide) (L' := [(1, _), (0, _)]) rfl ?_
  refine X.loc [0, 1] (L' := [(1, _), (0, _)]) rfl ?_
  exact loop (tN T) 0 _ _ (by omega) rfl hF2 hg2
set_option maxRecDepth 100000 in
theorem sp_X4_output {g : GG} {lay : Lay} {M : Mem} {K : KK} {b : Nat} {sv : Nat → Option Nat} {pg : List Int} {x : Int} (hd : DuL lay b sv) (hb0 : g.2.1 ≤ b) (hg : Pg pg M (b + 28)) (hx : i32 x) (k : K (oI (if 0 ≤ x ∧ x < (pg.length : Nat) then pg.getD x.toNat 0 else -1)) lay M) : X g m_X4_output 0 0 lay M 0 [(0, vR b), (1, vI x)] [] K := by
  obtain ⟨hx1, hx2⟩ := hx
  obtain ⟨g1, g2, g3⟩ := hg
  refine x_iload_n (pc := 0) dX4_output_0 rfl rfl ?_
  refine x_if_lt (pc := 1) (t := 39) dX4_output_1 (by decide) ⟨by omega, by omega⟩ (fun c1 => ?_) (fun c1 => ?_)
  · refine x_iconst (pc := 39) dX4_output_39 ?_
    refine x_iret (pc := 40) dX4_output_40 rfl (by decide) (by decide) ?_
    first
    | (rw [if_pos (by omega)] at k
       exact k)
    | (rw [if_neg (by omega)] at k
       exact k)
  · refine x_iload_n (pc := 4) dX4_output_4 rfl rfl ?_
    refine x_aload_n (pc := 5) dX4_output_5 rfl rfl ?_
    refine x_getr (pc := 6) (b := b + 28) fX4_40 dX4_output_6 hd.1 rfl rfl ?_
    refine x_geti (pc := 9) fX4_257 dX4_output_9 hd.2.2.2.2.2.2.1.1 rfl (fun r9a r9b => ?_)
    rw [g1] at r9a r9b ⊢
    refine x_icmp_ge (pc := 12) (t := 39) dX4_output_12 (by decide) ⟨by omega, by omega⟩ ⟨by omega, by omega⟩ (fun c12 => ?_) (fun c12 => ?_)
    · refine x_iconst (pc := 39) dX4_output_39 ?_
      refine x_iret (pc := 40) dX4_output_40 rfl (by decide) (by decide) ?_
      first
      | (rw [if_pos (by omega)] at k
         exact k)
      | (rw [if_neg (by omega)] at k
         exact k)
    · refine x_iload_n (pc := 15) dX4_output_15 rfl rfl ?_
      refine x_aload_n (pc := 16) dX4_output_16 rfl rfl ?_
      refine x_getr (pc := 17) (b := b + 28) fX4_40 dX4_output_17 hd.1 rfl rfl ?_
      refine x_getr (pc := 20) (b := b + 28 + 1) fX4_272 dX4_output_20 hd.2.2.2.2.2.2.1.1 rfl rfl ?_
      refine x_alen (pc := 23) dX4_output_23 hd.2.2.2.2.2.2.1.2 (fun r23a => ?_)
      refine x_icmp_ge (pc := 24) (t := 39) dX4_output_24 (by decide) ⟨by omega, by omega⟩ ⟨by omega, by omega⟩ (fun c24 => ?_) (fun c24 => ?_)
      · refine x_iconst (pc := 39) dX4_output_39 ?_
        refine x_iret (pc := 40) dX4_output_40 rfl (by decide) (by decide) ?_
        first
        | (rw [if_pos (by omega)] at k
           exact k)
        | (rw [if_neg (by omega)] at k
           exact k)
      · refine x_aload_n (pc := 27) dX4_output_27 rfl rfl ?_
        refine x_getr (pc := 28) (b := b + 28) fX4_40 dX4_output_28 hd.1 rfl rfl ?_
        refine x_getr (pc := 31) (b := b + 28 + 1) fX4_272 dX4_output_31 hd.2.2.2.2.2.2.1.1 rfl rfl ?_
        refine x_iload_n (pc := 34) dX4_output_34 rfl rfl ?_
        refine x_bald (pc := 35) dX4_output_35 hd.2.2.2.2.2.2.1.2 (by omega) (by omega) (fun r35a r35b => ?_)
        rw [g3 x.toNat (by omega)] at r35a r35b ⊢
        refine x_goto (pc := 36) (t := 40) dX4_output_36 (by decide) ?_
        refine x_iret (pc := 40) dX4_output_40 rfl (by decide) (by decide) ?_
        first
        | (rw [if_pos (by omega)] at k
           exact k)
        | (rw [if_neg (by omega)] at k
           exact k)
