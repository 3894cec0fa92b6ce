/-! The reference: commands done, play. -/
def loopH (cm : Nat → Int) : Nat → Nat → CT → (Nat → CT) → Nat → (Nat → CT) × Nat
  | 0, _, _, H, u => (H, u)
  | c + 1, j, T, H, u => if cmdR T cm j ≠ 0 then (H, u) else loopH cm c (j + 1) (cmdT T cm j) (pushH H u T) (pushU u)
def playH (U : SC3) (T : CT) (H : Nat → CT) (u : Nat) : (Nat → CT) × Nat := if U.1 ≠ 1 then (H, u) else loopH U.2.2 (U.2.1 5).toNat 0 T H u
theorem cmdR_rng (T : CT) (cm : Nat → Int) (j : Nat) : 0 ≤ cmdR T cm j ∧ cmdR T cm j ≤ 8 := by
  have wl := whyLay_rng T (cm (6 * j + 1)) (cm (6 * j + 2)).toNat
  have wc := whyClaim_rng T (cm (6 * j + 1)) (cm (6 * j + 2)) (cm (6 * j + 5))
  unfold cmdR
  repeat' split
  all_goals omega
theorem loopC_step (tx : Nat → Int) (n : Nat) (P : Int) (c : Nat) (v cm : Nat → Int) : loopC tx n P (c + 1) v cm = if v 6 = 0 then (1, v, cm) else if (stepF tx n v cm P).1 ≠ 1 then (0, (stepF tx n v cm P).2) else loopC tx n P c (stepF tx n v cm P).2.1 (stepF tx n v cm P).2.2 := by
  have ne1 : ¬ (0 : Int) = 1 := by decide
  simp only [loopC]
  unfold stepF
  by_cases e : v 6 = 0
  · rw [if_pos e, if_pos e]
  · rw [if_neg e, if_neg e]
    by_cases e1 : (rCmdF tx n v cm P).1 ≠ 1
    · rw [if_pos e1, if_pos e1, if_pos ne1]
    · rw [if_neg e1, if_neg e1]
      by_cases e2 : (semF tx n (rCmdF tx n v cm P).2.1).1 ≠ 1
      · rw [if_pos e2, if_pos e2, if_pos ne1]
      · rw [if_neg e2, if_neg e2, if_neg (fun z => z rfl)]
theorem step_adv {tx v cm : Nat → Int} {n : Nat} {P : Int} (h5 : 0 ≤ v 5) (hk : TkOK n v) (h : (stepF tx n v cm P).1 = 1) : (stepF tx n v cm P).2.1 5 = v 5 + 1 ∧ ∀ i, i < 6 * (v 5).toNat → (stepF tx n v cm P).2.2 i = cm i := by
  have ne1 : ¬ (0 : Int) = 1 := by decide
  unfold stepF at h ⊢
  by_cases e1 : (rCmdF tx n v cm P).1 ≠ 1
  · rw [if_pos e1] at h
    exact absurd h ne1
  · rw [if_neg e1] at h ⊢
    have e3 : (rCmdF tx n v cm P).1 = 1 := Decidable.byContradiction e1
    by_cases e2 : (semF tx n (rCmdF tx n v cm P).2.1).1 ≠ 1
    · rw [if_pos e2] at h
      exact absurd h ne1
    · rw [if_neg e2]
      refine ⟨?_, (rCmd_cm h5 e3).2.2⟩
      show (semF tx n (rCmdF tx n v cm P).2.1).2 5 + 1 = v 5 + 1
      rw [sem_ne (by omega), (rCmd_ok hk).2]
theorem CmR.up {cm cm2 : Nat → Int} {M M2 : Mem} {d i j : Nat} (h : CmR cm M d i) (hi : i < j) (e1 : ∀ q, q < 6 * j → cm2 q = cm q) (e2 : ∀ q, q < 6 * j → M2 (d + 11) q = M (d + 11) q) : CmR cm2 M2 d i := by
  obtain ⟨h1, h2, h3⟩ := h
  refine ⟨by rw [e2 _ (by omega), e1 _ (by omega)]; exact h1, fun z => ?_, fun z f f1 f2 => ?_⟩
  · rw [e1 _ (by omega)] at z
    rw [e2 _ (by omega), e2 _ (by omega), e1 _ (by omega), e1 _ (by omega)]
    exact h2 z
  · rw [e1 _ (by omega)] at z
    rw [e2 _ (by omega), e1 _ (by omega)]
    exact h3 z f f1 f2

set_option maxRecDepth 100000 in
theorem sp_X5_doesCommand {g : GG} {lay : Lay} {M : Mem} {K : KK} {d : Nat} {j : Nat} {cm : Nat → Int} {T : CT} {H : Nat → CT} {u : Nat} {A : Nat → Int} (hd : MoL lay d) (hb0 : g.2.1 ≤ d) (hT : RowT T (M (d + 1))) (hW : WfT T) (hU : Us H u M d) (hA : Acm A M d) (hB : ∃ N, Bg N M d) (gM : GoodM) (gE : GoodE) (hO0 : WfO T) (hc : CmR cm M d j) (hok : CmdOK (tS T 0) cm j) (hj : j < 40) (k : ∀ M2, FrA d M M2 → RowT (cmdT T cm j) (M2 (d + 1)) → Acm (accF A (cmdR T cm j)) M2 d → Us (if cmdR T cm j = 0 then pushH H u T else H) (if cmdR T cm j = 0 then pushU u else u) M2 d → (∃ N, Bg N M2 d) → K (.inl (some (vI (cmdR T cm j)))) lay M2) : X g m_X5_doesCommand 0 0 lay M 0 [(0, vR d), (1, vI (6 * j : Nat))] [] K := by
  obtain ⟨hc0, hc1, hc2⟩ := hc
  have hcr : 0 ≤ cm (6 * j) ∧ cm (6 * j) ≤ 2 := by rcases hok with ⟨a, -⟩ | ⟨a, -⟩ | a <;> omega
  have hP5 := hW.1.1
  unfold cmdR cmdT at k
  refine x_aload_n (pc := 0) dX5_doesCommand_0 rfl rfl ?_
  refine x_getr (pc := 1) (b := d + 11) fX5_46 dX5_doesCommand_1 hd.1 rfl rfl ?_
  refine x_iload_n (pc := 4) dX5_doesCommand_4 rfl rfl ?_
  refine x_iald (pc := 5) dX5_doesCommand_5 hd.2.2.2.2.2.2.2.2.2.2.2.1 (by omega) (by omega) (fun r5a r5b => ?_)
  rw [Int.toNat_natCast, hc0] at r5a r5b ⊢
  by_cases s6_7 : cm (6 * j) + 7 = 7
  · refine x_lsw (pc := 6) (t := 32) dX5_doesCommand_6 ⟨by omega, by omega⟩ rfl (by rw [s6_7] <;> rfl) (by decide) ?_
    have q0 : cm (6 * j) = 0 := by omega
    obtain ⟨g1, g2⟩ := hc1 q0
    have hok7 : layab (cm (6 * j + 1)) ∧ 0 ≤ cm (6 * j + 2) ∧ cm (6 * j + 2) < tS T 0 := by
      rcases hok with ⟨_, a, b, c⟩ | ⟨a, _⟩ | a
      · exact ⟨a, b, c⟩
      · omega
      · omega
    obtain ⟨p, hp⟩ := Int.eq_ofNat_of_zero_le hok7.2.1
    rw [if_pos q0, if_pos q0, hp, Int.toNat_natCast] at k
    refine x_aload_n (pc := 32) dX5_doesCommand_32 rfl rfl ?_
    refine x_aload_n (pc := 33) dX5_doesCommand_33 rfl rfl ?_
    refine x_getr (pc := 34) (b := d + 11) fX5_46 dX5_doesCommand_34 hd.1 rfl rfl ?_
    refine x_iload_n (pc := 37) dX5_doesCommand_37 rfl rfl ?_
    refine x_iconst (pc := 38) dX5_doesCommand_38 ?_
    refine x_iadd (pc := 39) dX5_doesCommand_39 ?_
    refine x_iald (pc := 40) dX5_doesCommand_40 hd.2.2.2.2.2.2.2.2.2.2.2.1 (by omega) (by omega) (fun r40a r40b => ?_)
    rw [show (((6 * j : Nat) : Int) + 1).toNat = 6 * j + 1 by omega, g1] at r40a r40b ⊢
    refine x_aload_n (pc := 41) dX5_doesCommand_41 rfl rfl ?_
    refine x_getr (pc := 42) (b := d + 11) fX5_46 dX5_doesCommand_42 hd.1 rfl rfl ?_
    refine x_iload_n (pc := 45) dX5_doesCommand_45 rfl rfl ?_
    refine x_iconst (pc := 46) dX5_doesCommand_46 ?_
    refine x_iadd (pc := 47) dX5_doesCommand_47 ?_
    refine x_iald (pc := 48) dX5_doesCommand_48 hd.2.2.2.2.2.2.2.2.2.2.2.1 (by omega) (by omega) (fun r48a r48b => ?_)
    rw [show (((6 * j : Nat) : Int) + 2).toNat = 6 * j + 2 by omega, g2, hp] at r48a r48b ⊢
    refine x_callV (pc := 49) [_, _] rfl kX5_237 dX5_doesCommand_49 hd.1 rfl rfl (by decide) (Nat.le_of_ble_eq_true rfl) (Nat.le_of_ble_eq_true rfl) (by decide) ?_
    refine sp_X5_lays hd hb0 hT hW hU hA hB gM gE hO0 (by omega) (by omega) (by omega) (fun M2 f1 f2 f3 f4 f5 => ?_)
    have wl := whyLay_rng T (cm (6 * j + 1)) p
    refine ⟨_, rfl, ?_⟩
    refine x_iret (pc := 52) dX5_doesCommand_52 rfl (by decide) (by decide) ?_
    exact k M2 f1 f2 f3 f4 f5
  by_cases s6_8 : cm (6 * j) + 7 = 8
  · refine x_lsw (pc := 6) (t := 53) dX5_doesCommand_6 ⟨by omega, by omega⟩ rfl (by rw [s6_8] <;> rfl) (by decide) ?_
    have q0 : cm (6 * j) = 1 := by omega
    have g := hc2 q0
    have hok7 : intvP (cm (6 * j + 1)) (cm (6 * j + 2)) ∧ (0 ≤ cm (6 * j + 3) ∧ cm (6 * j + 3) ≤ 4) ∧ (0 ≤ cm (6 * j + 4) ∧ cm (6 * j + 4) ≤ 1) ∧ (1 ≤ cm (6 * j + 5) ∧ cm (6 * j + 5) ≤ 9) := by
      rcases hok with ⟨a, _⟩ | ⟨_, a⟩ | a
      · omega
      · exact a
      · omega
    rw [if_neg (by omega), if_pos q0, if_neg (by omega), if_pos q0] at k
    refine x_aload_n (pc := 53) dX5_doesCommand_53 rfl rfl ?_
    refine x_aload_n (pc := 54) dX5_doesCommand_54 rfl rfl ?_
    refine x_getr (pc := 55) (b := d + 11) fX5_46 dX5_doesCommand_55 hd.1 rfl rfl ?_
    refine x_iload_n (pc := 58) dX5_doesCommand_58 rfl rfl ?_
    refine x_iconst (pc := 59) dX5_doesCommand_59 ?_
    refine x_iadd (pc := 60) dX5_doesCommand_60 ?_
    refine x_iald (pc := 61) dX5_doesCommand_61 hd.2.2.2.2.2.2.2.2.2.2.2.1 (by omega) (by omega) (fun r61a r61b => ?_)
    rw [show (((6 * j : Nat) : Int) + 1).toNat = 6 * j + 1 by omega, g 1 (by omega) (by omega)] at r61a r61b ⊢
    refine x_aload_n (pc := 62) dX5_doesCommand_62 rfl rfl ?_
    refine x_getr (pc := 63) (b := d + 11) fX5_46 dX5_doesCommand_63 hd.1 rfl rfl ?_
    refine x_iload_n (pc := 66) dX5_doesCommand_66 rfl rfl ?_
    refine x_iconst (pc := 67) dX5_doesCommand_67 ?_
    refine x_iadd (pc := 68) dX5_doesCommand_68 ?_
    refine x_iald (pc := 69) dX5_doesCommand_69 hd.2.2.2.2.2.2.2.2.2.2.2.1 (by omega) (by omega) (fun r69a r69b => ?_)
    rw [show (((6 * j : Nat) : Int) + 2).toNat = 6 * j + 2 by omega, g 2 (by omega) (by omega)] at r69a r69b ⊢
    refine x_aload_n (pc := 70) dX5_doesCommand_70 rfl rfl ?_
    refine x_getr (pc := 71) (b := d + 11) fX5_46 dX5_doesCommand_71 hd.1 rfl rfl ?_
    refine x_iload_n (pc := 74) dX5_doesCommand_74 rfl rfl ?_
    refine x_iconst (pc := 75) dX5_doesCommand_75 ?_
    refine x_iadd (pc := 76) dX5_doesCommand_76 ?_
    refine x_iald (pc := 77) dX5_doesCommand_77 hd.2.2.2.2.2.2.2.2.2.2.2.1 (by omega) (by omega) (fun r77a r77b => ?_)
    rw [show (((6 * j : Nat) : Int) + 3).toNat = 6 * j + 3 by omega, g 3 (by omega) (by omega)] at r77a r77b ⊢
    refine x_aload_n (pc := 78) dX5_doesCommand_78 rfl rfl ?_
    refine x_getr (pc := 79) (b := d + 11) fX5_46 dX5_doesCommand_79 hd.1 rfl rfl ?_
    refine x_iload_n (pc := 82) dX5_doesCommand_82 rfl rfl ?_
    refine x_iconst (pc := 83) dX5_doesCommand_83 ?_
    refine x_iadd (pc := 84) dX5_doesCommand_84 ?_
    refine x_iald (pc := 85) dX5_doesCommand_85 hd.2.2.2.2.2.2.2.2.2.2.2.1 (by omega) (by omega) (fun r85a r85b => ?_)
    rw [show (((6 * j : Nat) : Int) + 4).toNat = 6 * j + 4 by omega, g 4 (by omega) (by omega)] at r85a r85b ⊢
    refine x_aload_n (pc := 86) dX5_doesCommand_86 rfl rfl ?_
    refine x_getr (pc := 87) (b := d + 11) fX5_46 dX5_doesCommand_87 hd.1 rfl rfl ?_
    refine x_iload_n (pc := 90) dX5_doesCommand_90 rfl rfl ?_
    refine x_iconst (pc := 91) dX5_doesCommand_91 ?_
    refine x_iadd (pc := 92) dX5_doesCommand_92 ?_
    refine x_iald (pc := 93) dX5_doesCommand_93 hd.2.2.2.2.2.2.2.2.2.2.2.1 (by omega) (by omega) (fun r93a r93b => ?_)
    rw [show (((6 * j : Nat) : Int) + 5).toNat = 6 * j + 5 by omega, g 5 (by omega) (by omega)] at r93a r93b ⊢
    refine x_callV (pc := 94) [_, _, _, _, _] rfl kX5_208 dX5_doesCommand_94 hd.1 rfl rfl (by decide) (Nat.le_of_ble_eq_true rfl) (Nat.le_of_ble_eq_true rfl) (by decide) ?_
    refine sp_X5_claims hd hb0 hT hW hU hA (by unfold intvP at hok7; omega) hok7.2.1 hok7.2.2.1 hok7.2.2.2 (fun M2 f1 f2 f3 f4 f6 => ?_)
    have f5 := Bg.fr2 hB f6
    have wl := whyClaim_rng T (cm (6 * j + 1)) (cm (6 * j + 2)) (cm (6 * j + 5))
    refine ⟨_, rfl, ?_⟩
    refine x_iret (pc := 97) dX5_doesCommand_97 rfl (by decide) (by decide) ?_
    exact k M2 f1 f2 f3 f4 f5
  refine x_lsw (pc := 6) (t := 98) dX5_doesCommand_6 ⟨by omega, by omega⟩ rfl (by show Op.lookupswitch.offset [(7, 26), (8, 47)] 92 (cm (6 * j) + 7) = 92; rw [Op.lookupswitch.offset_cons, if_neg (by omega), Op.lookupswitch.offset_cons, if_neg (by omega)] <;> rfl) (by decide) ?_
  have q0 : cm (6 * j) = 2 := by omega
  rw [if_neg (by omega), if_neg (by omega), if_neg (by omega), if_neg (by omega)] at k
  refine x_aload_n (pc := 98) dX5_doesCommand_98 rfl rfl ?_
  refine x_callV (pc := 99) [] rfl kX5_240 dX5_doesCommand_99 hd.1 rfl rfl (by decide) (Nat.le_of_ble_eq_true rfl) (Nat.le_of_ble_eq_true rfl) (by decide) ?_
  refine sp_X5_passes hd hb0 hT hW hU hA hB gM gE hO0 (fun M2 f1 f2 f3 f4 f5 => ?_)
  have wl : (0 : Int) ≤ (if tO T = 1 then 1 else 0) ∧ (if tO T = 1 then 1 else 0 : Int) ≤ 8 := by split <;> omega
  refine ⟨_, rfl, ?_⟩
  refine x_iret (pc := 102) dX5_doesCommand_102 rfl (by decide) (by decide) ?_
  exact k M2 f1 f2 f3 f4 f5
