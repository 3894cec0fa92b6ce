/-! Specs of RootDuel: play. -/
theorem WfT.claim {T : CT} {a b r l s : Int} (h : WfT T) (hk : tK T (tN T % 2) < 4) (hl : WfL (tN T) (mkL a b r l s (tN T))) : WfT (tClaim T a b r l s) := by
  obtain ⟨w1, w2, w3, w4, w5, w6, w7, w8⟩ := h
  refine ⟨w1, w2, w3, w4, fun p => ?_, fun p i hp hi => ?_, w7, w8⟩
  · show (if p = tN T % 2 then tK T p + 1 else tK T p) ≤ 4
    have := w5 p
    split
    · next e => rw [e] at *; omega
    · exact this
  · have hi2 : i < (if p = tN T % 2 then tK T p + 1 else tK T p) := hi
    show WfL (tN T) (if p = tN T % 2 ∧ i = tK T p then mkL a b r l s (tN T) else tL T p i)
    split
    · exact hl
    · next e =>
      refine w6 p i hp ?_
      split at hi2
      · next e2 =>
        have : ¬ i = tK T p := fun z => e ⟨e2, z⟩
        omega
      · exact hi2
theorem actLay_wf {T : CT} {x : Int} {p : Nat} (h : WfT T) (hO : WfO T) (hx : layab x) (hp : (p : Int) < tS T 0) : WfT (actLay T x p) ∧ WfO (actLay T x p) ∧ tS (actLay T x p) = tS T := by
  unfold actLay
  split
  · next z =>
    obtain ⟨g1, g2⟩ := why0 h z
    refine ⟨h.term (by omega) hp g2 (hO g1), fun q => ?_, rfl⟩
    have q2 : (if endP (tLay T x p) x then (1 : Int) else 0) = 0 := q
    have q3 := b0 q2
    show ((tN T + 1 : Nat) : Int) < tS T 2
    have q4 : ¬ tS T 2 ≤ ((tN T + 1 : Nat) : Int) := fun z => q3 (Or.inr (Or.inl z))
    omega
  · exact ⟨h, hO, rfl⟩
theorem actPass_wf {T : CT} (h : WfT T) (hO : WfO T) : WfT (actPass T) ∧ WfO (actPass T) ∧ tS (actPass T) = tS T := by
  unfold actPass
  have hOO := h.2.2.2.2.2.2.1
  have w0 := h.1.1
  have wP := h.2.1 0
  split
  · exact ⟨h, hO, rfl⟩
  · next z =>
    refine ⟨h.term (by omega) (by omega) (by omega) (hO (by omega)), fun q => ?_, rfl⟩
    have q2 : (if endP (tLay T 0 0) 0 then (1 : Int) else 0) = 0 := q
    have q3 := b0 q2
    show ((tN T + 1 : Nat) : Int) < tS T 2
    have q4 : ¬ tS T 2 ≤ ((tN T + 1 : Nat) : Int) := fun z => q3 (Or.inr (Or.inl z))
    omega
theorem actClaim_wf {T : CT} {a b r l s : Int} (h : WfT T) (hO : WfO T) (hi : intvP a b) (hr : 0 ≤ r ∧ r ≤ 4) (hl : 0 ≤ l ∧ l ≤ 1) (hs : 1 ≤ s ∧ s ≤ 9) : WfT (actClaim T a b r l s) ∧ WfO (actClaim T a b r l s) ∧ tS (actClaim T a b r l s) = tS T := by
  unfold actClaim
  have wk := h.2.2.2.2.1 (tN T % 2)
  split
  · next z =>
    have hk : tK T (tN T % 2) < 4 := by
      unfold whyClaimF at z
      split at z
      · omega
      · split at z
        · omega
        · split at z <;> omega
    exact ⟨h.claim hk (by unfold WfL; simp only [mkL]; omega), hO, rfl⟩
  · exact ⟨h, hO, rfl⟩
def cmdR (T : CT) (cm : Nat → Int) (j : Nat) : Int := if cm (6 * j) = 0 then whyLayF T (cm (6 * j + 1)) (cm (6 * j + 2)).toNat else if cm (6 * j) = 1 then whyClaimF T (cm (6 * j + 1)) (cm (6 * j + 2)) (cm (6 * j + 5)) else if tO T = 1 then 1 else 0
def cmdT (T : CT) (cm : Nat → Int) (j : Nat) : CT := if cm (6 * j) = 0 then actLay T (cm (6 * j + 1)) (cm (6 * j + 2)).toNat else if cm (6 * j) = 1 then actClaim T (cm (6 * j + 1)) (cm (6 * j + 2)) (cm (6 * j + 3)) (cm (6 * j + 4)) (cm (6 * j + 5)) else actPass T
def loopP (cm : Nat → Int) : Nat → Nat → CT → (Nat → Int) → Int → Int × CT × (Nat → Int) × Int
  | 0, j, T, A, u => (j, T, A, u)
  | d + 1, j, T, A, u => if cmdR T cm j ≠ 0 then (j, cmdT T cm j, accF A (cmdR T cm j), undF u (cmdR T cm j)) else loopP cm d (j + 1) (cmdT T cm j) (accF A (cmdR T cm j)) (undF u (cmdR T cm j))
def playF (U : SC3) (T : CT) (A : Nat → Int) (u : Int) : Int × CT × (Nat → Int) × Int := if U.1 ≠ 1 then (-1, T, A, u) else loopP U.2.2 (U.2.1 5).toNat 0 T A u
theorem cmd_wf {T : CT} {cm : Nat → Int} {j : Nat} (h : WfT T) (hO : WfO T) (hc : CmdOK (tS T 0) cm j) : WfT (cmdT T cm j) ∧ WfO (cmdT T cm j) ∧ tS (cmdT T cm j) = tS T := by
  unfold cmdT
  rcases hc with ⟨c1, c2, c3, c4⟩ | ⟨c1, c2, c3, c4, c5⟩ | c1
  · rw [if_pos c1]
    exact actLay_wf h hO c2 (by omega)
  · rw [if_neg (by omega), if_pos c1]
    exact actClaim_wf h hO c2 c3 c4 c5
  · rw [if_neg (by omega), if_neg (by omega)]
    exact actPass_wf h hO
theorem undF_rng {u r : Int} (h : 0 ≤ u ∧ u ≤ 12) : 0 ≤ undF u r ∧ undF u r ≤ 12 := by
  unfold undF
  split <;> omega
def Fpl (b : Nat) (M M' : Mem) : Prop := ∀ a j, ¬ (b ≤ a ∧ a < b + 8) → ¬ (b + 16 ≤ a ∧ a < b + 28) → ¬ a = b + 30 → M' a j = M a j
theorem Fpl.act {b : Nat} {M M' M'' : Mem} (h : Fpl b M M') (h2 : Act b M' M'') : Fpl b M M'' := fun a j q1 q2 q3 => (h2 a j q1 (by omega) q3).trans (h a j q1 q2 q3)
theorem Rd.to2 {tx : Nat → Int} {n : Nat} {v : Nat → Int} {M M' : Mem} {c : Nat} (h : Rd tx n v M c) (hF : ∀ a j, c ≤ a → a < c + 2 → M' a j = M a j) : Rd tx n v M' c := ⟨h.1, fun j a b => by rw [hF _ _ (by omega) (by omega)]; exact h.2.1 j a b, fun i hi => by rw [hF _ _ (by omega) (by omega)]; exact h.2.2 i hi⟩

set_option maxRecDepth 100000 in
theorem sp_X4_play {g : GG} {lay : Lay} {M : Mem} {K : KK} {b n : Nat} {sv : Nat → Option Nat} {T : CT} {A tx v cm : Nat → Int} {u : Int} (gB : GoodB) (hd : DuL lay b sv) (hb0 : g.2.1 ≤ b) (hT : Ct T M (b + 1)) (hW : WfT T) (hA : Dh A u M b) (hu : 0 ≤ u ∧ u ≤ 12) (hO : WfO T) (hr : Rd tx n v M (b + 25)) (hm : Cm cm M (b + 25)) (k : ∀ M2, Fpl b M M2 → Rd tx 0 (fup (scriptF tx n (tS T 0) v cm).2.1 2 0) M2 (b + 25) → Cm (scriptF tx n (tS T 0) v cm).2.2 M2 (b + 25) → Ct (playF (scriptF tx n (tS T 0) v cm) T A u).2.1 M2 (b + 1) → Dh (playF (scriptF tx n (tS T 0) v cm) T A u).2.2.1 (playF (scriptF tx n (tS T 0) v cm) T A u).2.2.2 M2 b → K (oI (playF (scriptF tx n (tS T 0) v cm) T A u).1) lay M2) : X g m_X4_play 0 0 lay M 0 [(0, vR b)] [] K := by
  have w0 := hW.1.1
  have e0 := hT.1 0 (by decide)
  have hcm := @script_cm tx n (tS T 0) v cm
  have h01 : 0 ≤ (scriptF tx n (tS T 0) v cm).1 ∧ (scriptF tx n (tS T 0) v cm).1 ≤ 1 := by
    unfold scriptF
    have : ∀ d v cm, 0 ≤ (loopC tx n (tS T 0) d v cm).1 ∧ (loopC tx n (tS T 0) d v cm).1 ≤ 1 := by
      intro d
      induction d with
      | zero => intro v cm; simp [loopC]
      | succ d ih =>
        intro v cm
        simp only [loopC]
        repeat' split
        all_goals first | exact ih _ _ | (dsimp only; omega)
    exact this _ _ _
  generalize hU : scriptF tx n (tS T 0) v cm = U at *
  obtain ⟨R, hR⟩ : ∃ R, R = playF U T A u := ⟨_, rfl⟩
  rw [← hR] at k
  unfold playF at hR
  have loop : U.1 = 1 → ∀ (d j : Nat) (y z : Int) (T1 : CT) (A1 : Nat → Int) (u1 : Int) (M1 : Mem), j + d = (U.2.1 5).toNat → y = j → WfT T1 → WfO T1 → tS T1 = tS T → Fpl b M M1 → Rd tx 0 (fup U.2.1 2 0) M1 (b + 25) → Cm U.2.2 M1 (b + 25) → Ct T1 M1 (b + 1) → Dh A1 u1 M1 b → (0 ≤ u1 ∧ u1 ≤ 12) → loopP U.2.2 d j T1 A1 u1 = R → X g m_X4_play 0 0 lay M1 33 [(2, vI y), (1, vI z), (0, vR b)] [] K := by
    intro hU1 d
    obtain ⟨hp, hc⟩ := hcm hU1
    induction d with
    | zero =>
      intro j y z T1 A1 u1 M1 hj hy hW1 hO1 hS1 hF hr1 hm1 hT1 hA1 hu1 hu9
      have a5 := hr1.at 5 (by decide) (by decide)
      rw [fup_ne (by omega)] at a5
      simp only [loopP] at hu9
      subst hu9
      refine x_iload_n (pc := 33) dX4_play_33 rfl rfl ?_
      refine x_aload_n (pc := 34) dX4_play_34 rfl rfl ?_
      refine x_getr (pc := 35) (b := b + 25) fX4_33 dX4_play_35 hd.1 rfl rfl ?_
      refine x_geti (pc := 38) fX4_84 dX4_play_38 hd.2.2.2.2.2.1.1 rfl (fun r38a r38b => ?_)
      rw [a5] at r38a r38b ⊢
      refine x_icmp_ge (pc := 41) (t := 170) dX4_play_41 (by decide) ⟨by omega, by omega⟩ ⟨by omega, by omega⟩ (fun c41 => ?_) (fun c41 => ?_)
      · refine x_aload_n (pc := 170) dX4_play_170 rfl rfl ?_
        refine x_getr (pc := 171) (b := b + 25) fX4_33 dX4_play_171 hd.1 rfl rfl ?_
        refine x_geti (pc := 174) fX4_84 dX4_play_174 hd.2.2.2.2.2.1.1 rfl (fun r174a r174b => ?_)
        rw [a5] at r174a r174b ⊢
        refine x_iret (pc := 177) dX4_play_177 rfl (by decide) (by decide) ?_
        rw [show U.2.1 5 = (j : Int) by omega]
        exact k _ hF hr1 hm1 hT1 hA1
      · exfalso; omega
    | succ d ih =>
      intro j y z T1 A1 u1 M1 hj hy hW1 hO1 hS1 hF hr1 hm1 hT1 hA1 hu1 hu9
      have a5 := hr1.at 5 (by decide) (by decide)
      rw [fup_ne (by omega)] at a5
      subst hy
      have hcj := hc j (by omega)
      rw [← hS1] at hcj
      have hwf := cmd_wf hW1 hO1 hcj
      simp only [loopP] at hu9
      have wl := whyLay_rng T1 (U.2.2 (6 * j + 1)) (U.2.2 (6 * j + 2)).toNat
      have wc := whyClaim_rng T1 (U.2.2 (6 * j + 1)) (U.2.2 (6 * j + 2)) (U.2.2 (6 * j + 5))
      have wp := @b01 (tO T1 = 1) inferInstance
      refine x_iload_n (pc := 33) dX4_play_33 rfl rfl ?_
      refine x_aload_n (pc := 34) dX4_play_34 rfl rfl ?_
      refine x_getr (pc := 35) (b := b + 25) fX4_33 dX4_play_35 hd.1 rfl rfl ?_
      refine x_geti (pc := 38) fX4_84 dX4_play_38 hd.2.2.2.2.2.1.1 rfl (fun r38a r38b => ?_)
      rw [a5] at r38a r38b ⊢
      refine x_icmp_ge (pc := 41) (t := 170) dX4_play_41 (by decide) ⟨by omega, by omega⟩ ⟨by omega, by omega⟩ (fun c41 => ?_) (fun c41 => ?_)
      · exfalso; omega
      · refine x_aload_n (pc := 44) dX4_play_44 rfl rfl ?_
        refine x_getr (pc := 45) (b := b + 25) fX4_33 dX4_play_45 hd.1 rfl rfl ?_
        refine x_iload_n (pc := 48) dX4_play_48 rfl rfl ?_
        refine x_iconst (pc := 49) dX4_play_49 ?_
        refine x_callV (pc := 50) [_, _] rfl kX4_93 dX4_play_50 hd.2.2.2.2.2.1.1 rfl rfl (by decide) (Nat.le_of_ble_eq_true rfl) (Nat.le_of_ble_eq_true rfl) (by decide) ?_
        refine sp_X2_argument (i := j) (j := 1) hd.2.2.2.2.2.1 hm1 (by omega) (by decide) ?_
        refine ⟨_, rfl, ?_⟩
        refine x_istore_n (pc := 53) dX4_play_53 rfl (by decide) (L' := [(3, _), (2, _), (1, _), (0, _)]) rfl ?_
        refine x_aload_n (pc := 54) dX4_play_54 rfl rfl ?_
        refine x_getr (pc := 55) (b := b + 25) fX4_33 dX4_play_55 hd.1 rfl rfl ?_
        refine x_iload_n (pc := 58) dX4_play_58 rfl rfl ?_
        refine x_iconst (pc := 59) dX4_play_59 ?_
        refine x_callV (pc := 60) [_, _] rfl kX4_93 dX4_play_60 hd.2.2.2.2.2.1.1 rfl rfl (by decide) (Nat.le_of_ble_eq_true rfl) (Nat.le_of_ble_eq_true rfl) (by decide) ?_
        refine sp_X2_argument (i := j) (j := 2) hd.2.2.2.2.2.1 hm1 (by omega) (by decide) ?_
        refine ⟨_, rfl, ?_⟩
        refine x_istore (pc := 63) dX4_play_63 trivial (by decide) (L' := [(4, _), (3, _), (2, _), (1, _), (0, _)]) rfl ?_
        refine x_aload_n (pc := 65) dX4_play_65 rfl rfl ?_
        refine x_getr (pc := 66) (b := b + 25) fX4_33 dX4_play_66 hd.1 rfl rfl ?_
        refine x_iload_n (pc := 69) dX4_play_69 rfl rfl ?_
        refine x_iconst (pc := 70) dX4_play_70 ?_
        refine x_callV (pc := 71) [_, _] rfl kX4_93 dX4_play_71 hd.2.2.2.2.2.1.1 rfl rfl (by decide) (Nat.le_of_ble_eq_true rfl) (Nat.le_of_ble_eq_true rfl) (by decide) ?_
        refine sp_X2_argument (i := j) (j := 0) hd.2.2.2.2.2.1 hm1 (by omega) (by decide) ?_
        refine ⟨_, rfl, ?_⟩
        have cc : i32 (U.2.2 (6 * j + 0)) := by unfold CmdOK at hcj; rw [Nat.add_zero]; exact ⟨by omega, by omega⟩
        obtain ⟨cc1, cc2⟩ := cc
        by_cases s74_0 : U.2.2 (6 * j + 0) = 0
        · refine x_lsw (pc := 74) (t := 100) dX4_play_74 ⟨by omega, by omega⟩ rfl (by rw [s74_0] <;> rfl) (by decide) ?_
          refine x_aload_n (pc := 100) dX4_play_100 rfl rfl ?_
          refine x_iload_n (pc := 101) dX4_play_101 rfl rfl ?_
          refine x_iload (pc := 102) dX4_play_102 rfl ?_
          refine x_callV (pc := 104) [_, _] rfl kX4_97 dX4_play_104 hd.1 rfl rfl (by decide) (Nat.le_of_ble_eq_true rfl) (Nat.le_of_ble_eq_true rfl) (by decide) ?_
          rw [Nat.add_zero] at *
          have cR : cmdR T1 U.2.2 j = whyLayF T1 (U.2.2 (6 * j + 1)) (U.2.2 (6 * j + 2)).toNat := if_pos (by omega)
          have cT : cmdT T1 U.2.2 j = actLay T1 (U.2.2 (6 * j + 1)) (U.2.2 (6 * j + 2)).toNat := if_pos (by omega)
          have hx9 : layab (U.2.2 (6 * j + 1)) ∧ 0 ≤ U.2.2 (6 * j + 2) ∧ U.2.2 (6 * j + 2) < tS T1 0 := by rcases hcj with c | c | c; exact ⟨c.2.1, c.2.2.1, c.2.2.2⟩; omega; omega
          rw [cR, cT] at hu9
          rw [cT] at hwf
          clear cR cT
          rw [show U.2.2 (6 * j + 2) = (((U.2.2 (6 * j + 2)).toNat : Nat) : Int) by omega]
          refine sp_X4_layTerm gB hd hb0 hT1 hW1 hA1 hu1 hO1 (by omega) (by omega) (fun M2 hF2 hT2 hA2 => ?_)
          generalize whyLayF T1 (U.2.2 (6 * j + 1)) (U.2.2 (6 * j + 2)).toNat = rr at *
          refine ⟨_, rfl, ?_⟩
          refine x_istore (pc := 107) dX4_play_107 trivial (by decide) (L' := [(5, _), (4, _), (3, _), (2, _), (1, _), (0, _)]) rfl ?_
          refine x_goto (pc := 109) (t := 157) dX4_play_109 (by decide) ?_
          refine x_iload (pc := 157) dX4_play_157 rfl ?_
          refine x_if_eq (pc := 159) (t := 164) dX4_play_159 (by decide) ⟨by omega, by omega⟩ (fun c159 => ?_) (fun c159 => ?_)
          · refine x_iinc (pc := 164) dX4_play_164 rfl (by decide) (L' := [(2, _), (5, _), (4, _), (3, _), (1, _), (0, _)]) rfl ?_
            refine x_goto (pc := 167) (t := 33) dX4_play_167 (by decide) ?_
            refine X.loc [0, 4, 5] (L' := [(2, _), (1, _), (0, _)]) rfl ?_
            rw [if_neg (by omega)] at hu9
            exact ih (j + 1) _ _ _ _ _ _ (by omega) (by omega) hwf.1 hwf.2.1 (hwf.2.2.trans hS1) (hF.act hF2) (hr1.to2 (fun q j h1 h2 => hF2 q j (by omega) (by omega) (by omega))) (fun i hi => by rw [hF2 _ _ (by omega) (by omega) (by omega)]; exact hm1 i hi) hT2 hA2 (undF_rng hu1) hu9
          · refine x_iload_n (pc := 162) dX4_play_162 rfl rfl ?_
            refine x_iret (pc := 163) dX4_play_163 rfl (by decide) (by decide) ?_
            rw [if_pos (by omega)] at hu9
            subst hu9
            have hF3 : Fpl b M M2 := hF.act hF2
            exact k _ hF3 (hr1.to2 (fun q j h1 h2 => hF2 q j (by omega) (by omega) (by omega))) (fun i hi => by rw [hF2 _ _ (by omega) (by omega) (by omega)]; exact hm1 i hi) hT2 hA2
        by_cases s74_1 : U.2.2 (6 * j + 0) = 1
        · refine x_lsw (pc := 74) (t := 112) dX4_play_74 ⟨by omega, by omega⟩ rfl (by rw [s74_1] <;> rfl) (by decide) ?_
          refine x_aload_n (pc := 112) dX4_play_112 rfl rfl ?_
          refine x_iload_n (pc := 113) dX4_play_113 rfl rfl ?_
          refine x_iload (pc := 114) dX4_play_114 rfl ?_
          refine x_aload_n (pc := 116) dX4_play_116 rfl rfl ?_
          refine x_getr (pc := 117) (b := b + 25) fX4_33 dX4_play_117 hd.1 rfl rfl ?_
          refine x_iload_n (pc := 120) dX4_play_120 rfl rfl ?_
          refine x_iconst (pc := 121) dX4_play_121 ?_
          refine x_callV (pc := 122) [_, _] rfl kX4_93 dX4_play_122 hd.2.2.2.2.2.1.1 rfl rfl (by decide) (Nat.le_of_ble_eq_true rfl) (Nat.le_of_ble_eq_true rfl) (by decide) ?_
          refine sp_X2_argument (i := j) (j := 3) hd.2.2.2.2.2.1 hm1 (by omega) (by decide) ?_
          refine ⟨_, rfl, ?_⟩
          refine x_aload_n (pc := 125) dX4_play_125 rfl rfl ?_
          refine x_getr (pc := 126) (b := b + 25) fX4_33 dX4_play_126 hd.1 rfl rfl ?_
          refine x_iload_n (pc := 129) dX4_play_129 rfl rfl ?_
          refine x_iconst (pc := 130) dX4_play_130 ?_
          refine x_callV (pc := 131) [_, _] rfl kX4_93 dX4_play_131 hd.2.2.2.2.2.1.1 rfl rfl (by decide) (Nat.le_of_ble_eq_true rfl) (Nat.le_of_ble_eq_true rfl) (by decide) ?_
          refine sp_X2_argument (i := j) (j := 4) hd.2.2.2.2.2.1 hm1 (by omega) (by decide) ?_
          refine ⟨_, rfl, ?_⟩
          refine x_aload_n (pc := 134) dX4_play_134 rfl rfl ?_
          refine x_getr (pc := 135) (b := b + 25) fX4_33 dX4_play_135 hd.1 rfl rfl ?_
          refine x_iload_n (pc := 138) dX4_play_138 rfl rfl ?_
          refine x_iconst (pc := 139) dX4_play_139 ?_
          refine x_callV (pc := 140) [_, _] rfl kX4_93 dX4_play_140 hd.2.2.2.2.2.1.1 rfl rfl (by decide) (Nat.le_of_ble_eq_true rfl) (Nat.le_of_ble_eq_true rfl) (by decide) ?_
          refine sp_X2_argument (i := j) (j := 5) hd.2.2.2.2.2.1 hm1 (by omega) (by decide) ?_
          refine ⟨_, rfl, ?_⟩
          refine x_callV (pc := 143) [_, _, _, _, _] rfl kX4_100 dX4_play_143 hd.1 rfl rfl (by decide) (Nat.le_of_ble_eq_true rfl) (Nat.le_of_ble_eq_true rfl) (by decide) ?_
          rw [Nat.add_zero] at *
          have cR : cmdR T1 U.2.2 j = whyClaimF T1 (U.2.2 (6 * j + 1)) (U.2.2 (6 * j + 2)) (U.2.2 (6 * j + 5)) := by unfold cmdR; rw [if_neg (by omega), if_pos (by omega)]
          have cT : cmdT T1 U.2.2 j = actClaim T1 (U.2.2 (6 * j + 1)) (U.2.2 (6 * j + 2)) (U.2.2 (6 * j + 3)) (U.2.2 (6 * j + 4)) (U.2.2 (6 * j + 5)) := by unfold cmdT; rw [if_neg (by omega), if_pos (by omega)]
          have hx9 := hcj
          unfold CmdOK at hx9
          rw [cR, cT] at hu9
          rw [cT] at hwf
          clear cR cT
          refine sp_X4_makeClaim (l := U.2.2 (6 * j + 4)) gB hd hb0 hT1 hW1 hA1 hu1 hO1 (by omega) (by omega) (by omega) (by omega) (fun M2 hF2 hT2 hA2 => ?_)
          generalize whyClaimF T1 (U.2.2 (6 * j + 1)) (U.2.2 (6 * j + 2)) (U.2.2 (6 * j + 5)) = rr at *
          refine ⟨_, rfl, ?_⟩
          refine x_istore (pc := 146) dX4_play_146 trivial (by decide) (L' := [(5, _), (4, _), (3, _), (2, _), (1, _), (0, _)]) rfl ?_
          refine x_goto (pc := 148) (t := 157) dX4_play_148 (by decide) ?_
          refine x_iload (pc := 157) dX4_play_157 rfl ?_
          refine x_if_eq (pc := 159) (t := 164) dX4_play_159 (by decide) ⟨by omega, by omega⟩ (fun c159 => ?_) (fun c159 => ?_)
          · refine x_iinc (pc := 164) dX4_play_164 rfl (by decide) (L' := [(2, _), (5, _), (4, _), (3, _), (1, _), (0, _)]) rfl ?_
            refine x_goto (pc := 167) (t := 33) dX4_play_167 (by decide) ?_
            refine X.loc [0, 4, 5] (L' := [(2, _), (1, _), (0, _)]) rfl ?_
            rw [if_neg (by omega)] at hu9
            exact ih (j + 1) _ _ _ _ _ _ (by omega) (by omega) hwf.1 hwf.2.1 (hwf.2.2.trans hS1) (hF.act hF2) (hr1.to2 (fun q j h1 h2 => hF2 q j (by omega) (by omega) (by omega))) (fun i hi => by rw [hF2 _ _ (by omega) (by omega) (by omega)]; exact hm1 i hi) hT2 hA2 (undF_rng hu1) hu9
          · refine x_iload_n (pc := 162) dX4_play_162 rfl rfl ?_
            refine x_iret (pc := 163) dX4_play_163 rfl (by decide) (by decide) ?_
            rw [if_pos (by omega)] at hu9
            subst hu9
            have hF3 : Fpl b M M2 := hF.act hF2
            exact k _ hF3 (hr1.to2 (fun q j h1 h2 => hF2 q j (by omega) (by omega) (by omega))) (fun i hi => by rw [hF2 _ _ (by omega) (by omega) (by omega)]; exact hm1 i hi) hT2 hA2
        refine x_lsw (pc := 74) (t := 151) dX4_play_74 ⟨by omega, by omega⟩ rfl (by show Op.lookupswitch.offset [(0, 26), (1, 38)] 77 (U.2.2 (6 * j + 0)) = 77; rw [Op.lookupswitch.offset_cons, if_neg (by omega), Op.lookupswitch.offset_cons, if_neg (by omega)] <;> rfl) (by decide) ?_
        refine x_aload_n (pc := 151) dX4_play_151 rfl rfl ?_
        refine x_callV (pc := 152) [] rfl kX4_104 dX4_play_152 hd.1 rfl rfl (by decide) (Nat.le_of_ble_eq_true rfl) (Nat.le_of_ble_eq_true rfl) (by decide) ?_
        rw [Nat.add_zero] at *
        have cR : cmdR T1 U.2.2 j = (if tO T1 = 1 then 1 else 0) := by unfold cmdR; rw [if_neg (by omega), if_neg (by omega)]
        have cT : cmdT T1 U.2.2 j = actPass T1 := by unfold cmdT; rw [if_neg (by omega), if_neg (by omega)]
        rw [cR, cT] at hu9
        rw [cT] at hwf
        clear cR cT
        refine sp_X4_passTurn gB hd hb0 hT1 hW1 hA1 hu1 hO1 (fun M2 hF2 hT2 hA2 => ?_)
        generalize (if tO T1 = 1 then (1 : Int) else 0) = rr at *
        refine ⟨_, rfl, ?_⟩
        refine x_istore (pc := 155) dX4_play_155 trivial (by decide) (L' := [(5, _), (4, _), (3, _), (2, _), (1, _), (0, _)]) rfl ?_
        refine x_iload (pc := 157) dX4_play_157 rfl ?_
        refine x_if_eq (pc := 159) (t := 164) dX4_play_159 (by decide) ⟨by omega, by omega⟩ (fun c159 => ?_) (fun c159 => ?_)
        · refine x_iinc (pc := 164) dX4_play_164 rfl (by decide) (L' := [(2, _), (5, _), (4, _), (3, _), (1, _), (0, _)]) rfl ?_
          refine x_goto (pc := 167) (t := 33) dX4_play_167 (by decide) ?_
          refine X.loc [0, 4, 5] (L' := [(2, _), (1, _), (0, _)]) rfl ?_
          rw [if_neg (by omega)] at hu9
          exact ih (j + 1) _ _ _ _ _ _ (by omega) (by omega) hwf.1 hwf.2.1 (hwf.2.2.trans hS1) (hF.act hF2) (hr1.to2 (fun q j h1 h2 => hF2 q j (by omega) (by omega) (by omega))) (fun i hi => by rw [hF2 _ _ (by omega) (by omega) (by omega)]; exact hm1 i hi) hT2 hA2 (undF_rng hu1) hu9
        · refine x_iload_n (pc := 162) dX4_play_162 rfl rfl ?_
          refine x_iret (pc := 163) dX4_play_163 rfl (by decide) (by decide) ?_
          rw [if_pos (by omega)] at hu9
          subst hu9
          have hF3 : Fpl b M M2 := hF.act hF2
          exact k _ hF3 (hr1.to2 (fun q j h1 h2 => hF2 q j (by omega) (by omega) (by omega))) (fun i hi => by rw [hF2 _ _ (by omega) (by omega) (by omega)]; exact hm1 i hi) hT2 hA2
  refine x_aload_n (pc := 0) dX4_play_0 rfl rfl ?_
  refine x_getr (pc := 1) (b := b + 25) fX4_33 dX4_play_1 hd.1 rfl rfl ?_
  refine x_aload_n (pc := 4) dX4_play_4 rfl rfl ?_
  refine x_getr (pc := 5) (b := b + 1) fX4_10 dX4_play_5 hd.1 rfl rfl ?_
  refine x_getr (pc := 8) (b := b + 1 + 1) fX4_87 dX4_play_8 hd.2.1.1 rfl rfl ?_
  refine x_iconst (pc := 11) dX4_play_11 ?_
  refine x_iald (pc := 12) dX4_play_12 hd.2.1.2.1 (by omega) (by omega) (fun r12a r12b => ?_)
  rw [show (0 : Int).toNat = 0 from rfl, e0] at r12a r12b ⊢
  refine x_callV (pc := 13) [_] rfl kX4_90 dX4_play_13 hd.2.2.2.2.2.1.1 rfl rfl (by decide) (Nat.le_of_ble_eq_true rfl) (Nat.le_of_ble_eq_true rfl) (by decide) ?_
  refine sp_X2_readScript hd.2.2.2.2.2.1 (by omega) hr hm w0 (fun M2 hF2 hr2 hm2 => ?_)
  rw [hU] at hr2 hm2 ⊢
  have hF3 : Frm (b + 25) (b + 28) M (mset M2 (b + 25) 2 0) := Frm.ms (hF2.wide (by omega) (by omega)) (by omega)
  have hFp : Fpl b M (mset M2 (b + 25) 2 0) := fun a j q1 q2 q3 => hF3 a j (by omega)
  have hT3 := hT.frm hF3 (by omega)
  have hA3 : Dh A u (mset M2 (b + 25) 2 0) b := ⟨fun i hi => by rw [hF3 _ _ (by omega)]; exact hA.1 i hi, by rw [hF3 _ _ (by omega)]; exact hA.2⟩
  have hm3 : Cm U.2.2 (mset M2 (b + 25) 2 0) (b + 25) := fun i hi => by rw [mset_nea (by omega)]; exact hm2 i hi
  refine ⟨_, rfl, ?_⟩
  refine x_istore_n (pc := 16) dX4_play_16 rfl (by decide) (L' := [(1, _), (0, _)]) rfl ?_
  refine x_aload_n (pc := 17) dX4_play_17 rfl rfl ?_
  refine x_getr (pc := 18) (b := b + 25) fX4_33 dX4_play_18 hd.1 rfl rfl ?_
  refine x_iconst (pc := 21) dX4_play_21 ?_
  refine x_puti (pc := 22) fnX4_63 dX4_play_22 hd.2.2.2.2.2.1.1 (by omega) rfl ⟨by omega, by omega⟩ ?_
  refine x_iload_n (pc := 25) dX4_play_25 rfl rfl ?_
  refine x_if_ne (pc := 26) (t := 31) dX4_play_26 (by decide) ⟨by omega, by omega⟩ (fun c26 => ?_) (fun c26 => ?_)
  · refine x_iconst (pc := 31) dX4_play_31 ?_
    refine x_istore_n (pc := 32) dX4_play_32 rfl (by decide) (L' := [(2, _), (1, _), (0, _)]) rfl ?_
    refine X.loc [0, 1, 2] (L' := [(2, _), (1, _), (0, _)]) rfl ?_
    rw [if_neg (by omega)] at hR
    exact loop (by omega) (U.2.1 5).toNat 0 _ _ T A u _ (by omega) rfl hW hO rfl hFp hr2.z hm3 hT3 hA3 hu hR.symm
  · refine x_iconst (pc := 29) dX4_play_29 ?_
    refine x_iret (pc := 30) dX4_play_30 rfl (by decide) (by decide) ?_
    rw [if_pos (by omega)] at hR
    subst hR
    exact k _ hFp hr2.z hm3 hT3 hA3
