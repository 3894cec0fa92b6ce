/-! The law's contest as a picture of the class's; the best term. -/
def laF (T : CT) : Nat → Int := fun p => if lastF T (p : Nat) = -1 then -100 else lastF T (p : Nat)
def hpF (T : CT) : Int := if 0 < tN T ∧ tC T (tN T - 1) = 0 then 1 else 0
def HcR (T : CT) (hc : Int) : Prop := (hc = 0 ∨ hc = 1) ∧ (tO T = 0 → (hc = 1 ↔ hasClaim T))
def PwR (T : CT) (pw : Nat) : Prop := (pw : Int) = tS T 0 ∧ ∀ j, pw ≤ j → tP T j = 0
theorem hpF_rng (T : CT) : 0 ≤ hpF T ∧ hpF T ≤ 1 := by unfold hpF; split <;> omega
theorem laF_rng {T : CT} (hW : WfT T) (p : Nat) : -100 ≤ laF T p ∧ laF T p ≤ 60 := by
  have h1 : -1 ≤ lastF T (p : Nat) ∧ lastF T (p : Nat) < tN T := lastT_rng (tC T) (tQ T) (p : Nat) (tN T)
  have h2 := hW.n60
  unfold laF
  split <;> omega
theorem LcW.of {T : CT} {pw : Nat} {hc : Int} (hW : WfT T) (hP : PwR T pw) (hh : HcR T hc) : LcW pw (tS T) (tP T) (laF T) (tN T) (hpF T) hc (tO T) (tB T) := by
  have n60 := hW.n60
  obtain ⟨w1, w2, w3, w4, w5, w6, w7, w8⟩ := hW
  have hS := w1
  unfold WfS at hS
  have h0 := hP.1
  refine ⟨by omega, w1, fun j => ?_, fun j => laF_rng ⟨w1, w2, w3, w4, w5, w6, w7, w8⟩ j, n60, hpF_rng T, ?_, by omega, by omega⟩
  · have := w2 j
    omega
  · have := hh.1
    omega
theorem bar_iff {T : CT} {p : Nat} : barQ (tS T) (laF T) (tN T) p ↔ isBar T (p : Nat) := by
  have h1 : -1 ≤ lastF T (p : Nat) ∧ lastF T (p : Nat) < tN T := lastT_rng (tC T) (tQ T) (p : Nat) (tN T)
  unfold barQ laF
  constructor
  · intro h
    split at h
    · omega
    · exact ⟨by assumption, by omega⟩
  · intro h
    rw [if_neg h.1]
    have := h.2
    have := h.1
    omega
theorem zer_iff {T : CT} {pw p : Nat} (hW : WfT T) (hP : PwR T pw) : zerQ pw (tP T) (p : Nat) ↔ zeroBut (tP T) p := by
  have hS := hW.1
  unfold WfS at hS
  have h0 := hP.1
  constructor
  · intro h j h1 h2
    by_cases c : j < pw
    · exact h j c (by omega)
    · exact hP.2 j (by omega)
  · intro h j h1 h2
    exact h j (by omega) (by omega)
theorem why_F {T : CT} {pw p : Nat} {x z : Int} (hW : WfT T) (hP : PwR T pw) (h : WhyR pw (tS T) (tP T) (laF T) (tN T) (tO T) x p z) : z = whyLayF T x p := by
  unfold WhyR at h
  rw [bar_iff, zer_iff hW hP] at h
  unfold whyLayF
  rcases h with ⟨h1, h2⟩ | ⟨h1, h2, h3⟩ | ⟨h1, h2, h3, h4⟩ | ⟨h1, h2, h3, h4, h5⟩ | ⟨h1, h2, h3, h4, h5⟩
  · rw [if_pos h1, h2]
  · rw [if_neg (by omega), if_pos h2, h3]
  · rw [if_neg (by omega), if_neg h2, if_pos h3, h4]
  · rw [if_neg (by omega), if_neg h2, if_neg (by omega), if_pos h4, h5]
  · rw [if_neg (by omega), if_neg h2, if_neg (by omega), if_neg h4, h5]
theorem wcl_F {T : CT} {hc a1 b1 s1 z : Int} (hh : HcR T hc) (h : WclR (tS T) (tK T (tN T % 2)) (tL T (tN T % 2)) (tO T) hc a1 b1 s1 z) : z = whyClaimF T a1 b1 s1 := by
  unfold WclR at h
  have h9 := hh.2
  unfold whyClaimF
  rcases h with ⟨h1, h2⟩ | ⟨h1, h2, h3⟩ | ⟨h1, h2, h3, h4⟩ | ⟨h1, h2, h3, h4, h5⟩ | ⟨h1, h2, h3, h4, h5, h6⟩ | ⟨h1, h2, h3, h4, h5, h6⟩
  · rw [if_pos h1, h2]
  · rw [if_neg (by omega), if_pos ((h9 h1).mp h2), h3]
  · rw [if_neg (by omega), if_neg (fun q => by have := (h9 h1).mpr q; omega), if_pos h3, h4]
  · rw [if_neg (by omega), if_neg (fun q => by have := (h9 h1).mpr q; omega), if_neg h3, if_pos h4, h5]
  · rw [if_neg (by omega), if_neg (fun q => by have := (h9 h1).mpr q; omega), if_neg h3, if_neg h4, if_pos (by omega), h6]
  · rw [if_neg (by omega), if_neg (fun q => by have := (h9 h1).mpr q; omega), if_neg h3, if_neg h4, if_neg (by omega), h6]
/-- the lead behind a term, by both scores -/
theorem gain_F {T : CT} {x : Int} {p : Nat} (hx : x ≠ 0) (hB : tB T = -1) : behF (tTerm T x p) (1 + ((tN T % 2 : Nat) : Int)) - behF (tTerm T x p) (2 - ((tN T % 2 : Nat) : Int)) = leadF T x p := by
  have hb : tB (tTerm T x p) = tB (tryT T x p) := by
    show (if reachP (tLay T x p) x then ((tN T % 2 : Nat) : Int) else tB T) = if 0 < tS T 4 ∧ tS T 4 ≤ allD (buildF (fup (tP T) p (tP T p + x))) then ((tN T % 2 : Nat) : Int) else -1
    by_cases c : 0 < tS T 4 ∧ tS T 4 ≤ allD (buildF (fup (tP T) p (tP T p + x)))
    · rw [if_pos c, if_pos ⟨hx, c⟩]
    · rw [if_neg c, if_neg (fun q => c q.2), hB]
  have hs : ∀ pl : Nat, scoreF (tTerm T x p) (buildF (tP (tTerm T x p))) pl = scoreF (tryT T x p) (buildF (fup (tP T) p (tP T p + x))) pl := fun pl => by
    show signPt _ _ _ _ + claimPt _ _ _ + bonusF (tTerm T x p) pl = signPt _ _ _ _ + claimPt _ _ _ + bonusF (tryT T x p) pl
    unfold bonusF
    rw [hb]
    rfl
  unfold leadF
  rw [← hs, ← hs]
  rcases (show tN T % 2 = 0 ∨ tN T % 2 = 1 by omega) with h | h
  · rw [h]
    rfl
  · rw [h]
    rfl
theorem beh_rng {T : CT} (hW : WfT T) {w : Int} (hw : w = 1 ∨ w = 2) : -200 ≤ behF T w ∧ behF T w ≤ 200 := by
  rcases hw with rfl | rfl
  · exact scoreF_rng hW _ (by decide)
  · exact scoreF_rng hW _ (by decide)

set_option maxRecDepth 100000 in
theorem sp_L_isBest {g : GG} {lay : Lay} {M : Mem} {K : KK} {b c pw : Nat} {T : CT} {hc : Int} (gB : GoodB) (hA : ArI g lay M lay M b c pw T (laF T) (tN T) (hpF T) hc (tO T)) (hP : PwR T pw) (hh : HcR T hc) (hO : WfO T) (hB : tO T = 0 → tB T = -1) (hbc : b + 32 ≤ c) (k : ∀ lay2 M2, Ext lay lay2 → (∀ y i, ¬ (b + 8 ≤ y ∧ y < b + 15 ∨ b + 16 ≤ y ∧ y < b + 25 ∨ y = b + 31) → M2 y i = M y i) → Ds g lay2 M2 b T → K (.inl (some (vI 1))) lay2 M2) : X g m_L_isBest 0 0 lay M 0 [(0, vR b), (1, vR c)] [] K := by
  have hWf : WfT T := hA.2.1.2.2.2.2
  have hW := LcW.of hWf hP hh
  have w1 := hW.1
  have hPw := hP.1
  have loop : ∀ d p : Nat, p + d = pw → ∀ (lay2 : Lay) (M2 : Mem) (cn ck : Nat), cn ≤ 57 * p → ck ≤ 6 * (57 * p) → ArI g lay M lay2 M2 b c pw T (laF T) (tN T) (hpF T) hc (tO T) → X g m_L_isBest cn ck lay2 M2 13 [(5, vI (p : Nat)), (4, vI ((tN T % 2 : Nat) : Int)), (2, vI (bout T p).1), (3, vI (bout T p).2), (0, vR b), (1, vR c)] [] K := by
    intro d
    induction d with
    | zero =>
      intro p hp lay2 M2 cn ck hcn hck hA
      have ep : p = pw := by omega
      subst ep
      have hbf : bestF T = (bout T p).1 := by
        unfold bestF
        rw [← hPw, Int.toNat_natCast]
      have br := bout_rng hWf p (by omega)
      refine x_iload (pc := 13) dL_isBest_13 rfl ?_
      refine x_aload_n (pc := 15) dL_isBest_15 rfl rfl ?_
      refine x_getrN (pc := 16) (b := (c + 3)) frL_27 dL_isBest_16 hA.2.2.1.1.1 rfl hA.2.2.2.1.1 rfl ?_
      refine x_alen (pc := 19) dL_isBest_19 hA.2.2.1.2.1.1 (fun r19a => ?_)
      refine x_icmp_ge (pc := 20) (t := 144) dL_isBest_20 (by decide) ⟨by omega, by omega⟩ ⟨by omega, by omega⟩ (fun c20 => ?_) (fun c20 => ?_)
      · refine x_aload_n (pc := 144) dL_isBest_144 rfl rfl ?_
        refine x_callV (pc := 145) [] rfl kL_104 dL_isBest_145 hA.2.1.1.1 rfl rfl (by decide) (Nat.le_of_ble_eq_true rfl) (Nat.le_of_ble_eq_true rfl) (show _ + 0 ≤ 400 ∧ _ + 0 ≤ 2400 by omega) ?_
        refine sp_X4_best gB hA.2.1.1 hA.2.1.2.1 hA.2.1.2.2.2.1 hA.2.1.2.2.2.2  (fun M3 n3 hn3 hS3 => ?_)
        have hA := hA.scr hbc hn3 hS3
        rw [hbf]
        refine ⟨_, rfl, ?_⟩
        refine X.cs (cn' := cn) (ck' := ck) ?_ (Nat.le_refl _) (Nat.le_refl _)
        refine x_iload_n (pc := 148) dL_isBest_148 rfl rfl ?_
        refine x_icmp_ne (pc := 149) (t := 156) dL_isBest_149 (by decide) ⟨by omega, by omega⟩ ⟨by omega, by omega⟩ (fun c149 => ?_) (fun c149 => ?_)
        · exfalso; omega
        · refine x_iconst (pc := 152) dL_isBest_152 ?_
          refine x_goto (pc := 153) (t := 157) dL_isBest_153 (by decide) ?_
          refine X.cs (cn' := 400) (ck' := 2400) ?_ (by omega) (by omega)
          refine x_zret (pc := 157) dL_isBest_157 rfl ⟨by omega, by omega⟩ (by decide) (by decide) ?_
          exact k _ _ hA.1.1 hA.1.2 hA.2.1
      · exfalso; omega
    | succ d ih =>
      intro p hp lay2 M2 cn ck hcn hck hA
      have br := bout_rng hWf p (by omega)
      have inner : ∀ e j : Nat, j + e = 19 → ∀ (lay2 : Lay) (M2 : Mem) (cn ck : Nat), cn ≤ 57 * p + 3 * j → ck ≤ 6 * (57 * p + 3 * j) → ArI g lay M lay2 M2 b c pw T (laF T) (tN T) (hpF T) hc (tO T) → X g m_L_isBest cn ck lay2 M2 27 [(6, vI (-9 + (j : Nat))), (5, vI (p : Nat)), (4, vI ((tN T % 2 : Nat) : Int)), (2, vI (bin T p j (bout T p)).1), (3, vI (bin T p j (bout T p)).2), (0, vR b), (1, vR c)] [] K := by
        intro e
        induction e with
        | zero =>
          intro j hj lay2 M2 cn ck hcn hck hA
          have ej : j = 19 := by omega
          subst ej
          refine x_iload (pc := 27) dL_isBest_27 rfl ?_
          refine x_bipush (pc := 29) dL_isBest_29 (by decide) ?_
          refine x_icmp_gt (pc := 31) (t := 138) dL_isBest_31 (by decide) ⟨by omega, by omega⟩ ⟨by omega, by omega⟩ (fun c31 => ?_) (fun c31 => ?_)
          · refine x_iinc (pc := 138) dL_isBest_138 rfl (by decide) (L' := [(5, _), (6, _), (4, _), (2, _), (3, _), (0, _), (1, _)]) rfl ?_
            refine x_goto (pc := 141) (t := 13) dL_isBest_141 (by decide) ?_
            refine X.loc [0, 2, 3, 4, 5, 6] (L' := [(5, _), (4, _), (2, _), (3, _), (0, _), (1, _)]) rfl ?_
            exact ih (p + 1) (by omega) lay2 M2 cn ck (by omega) (by omega) hA
          · exfalso; omega
        | succ e ihe =>
          intro j hj lay2 M2 cn ck hcn hck hA
          have bs : bin T p (j + 1) (bout T p) = bstep T p (-9 + (j : Nat)) (bin T p j (bout T p)) := rfl
          unfold bstep at bs
          have qr := bin_rng hWf (p := p) (by omega) br j (by omega)
          obtain ⟨wv, hwv⟩ : ∃ wv, wv = whyLayF T (-9 + (j : Nat)) p := ⟨_, rfl⟩
          have wvr : 0 ≤ wv ∧ wv ≤ 8 := by
            rw [hwv]
            unfold whyLayF
            repeat (first | omega | split)
          have hg : -9 + (j : Int) ≠ 0 → wv = 0 → behF (tTerm T (-9 + (j : Nat)) p) (1 + ((tN T % 2 : Nat) : Int)) - behF (tTerm T (-9 + (j : Nat)) p) (2 - ((tN T % 2 : Nat) : Int)) = leadF T (-9 + (j : Nat)) p := fun h1 h2 => gain_F h1 (hB (why0 hWf (hwv.symm.trans h2)).1)
          have hlr : wv = 0 → -400 ≤ leadF T (-9 + (j : Nat)) p ∧ leadF T (-9 + (j : Nat)) p ≤ 400 := fun h => lead_rng hWf (by omega) (hwv.symm.trans h)
          rw [← hwv] at bs
          have ihe2 := ihe (j + 1) (by omega)
          rw [bs, show (-9 + ((j + 1 : Nat) : Int)) = -9 + (j : Nat) + 1 by omega] at ihe2
          generalize bin T p j (bout T p) = q at *
          obtain ⟨q1, q2⟩ := q
          refine x_iload (pc := 27) dL_isBest_27 rfl ?_
          refine x_bipush (pc := 29) dL_isBest_29 (by decide) ?_
          refine x_icmp_gt (pc := 31) (t := 138) dL_isBest_31 (by decide) ⟨by omega, by omega⟩ ⟨by omega, by omega⟩ (fun c31 => ?_) (fun c31 => ?_)
          · exfalso; omega
          · refine x_iload (pc := 34) dL_isBest_34 rfl ?_
            refine x_if_ne (pc := 36) (t := 42) dL_isBest_36 (by decide) ⟨by omega, by omega⟩ (fun c36 => ?_) (fun c36 => ?_)
            · refine x_aload_n (pc := 42) dL_isBest_42 rfl rfl ?_
              refine x_iload (pc := 43) dL_isBest_43 rfl ?_
              refine x_iload (pc := 45) dL_isBest_45 rfl ?_
              refine x_callV (pc := 47) [_, _] rfl kL_94 dL_isBest_47 hA.2.1.1.1 rfl rfl (by decide) (Nat.le_of_ble_eq_true rfl) (Nat.le_of_ble_eq_true rfl) (show _ + 1 ≤ 400 ∧ _ + 6 ≤ 2400 by omega) ?_
              refine sp_X4_why gB hA.2.1.1 hA.2.1.2.1 hA.2.1.2.2.2.1 hA.2.1.2.2.2.2 ⟨by omega, by omega⟩ ⟨by omega, by omega⟩ (fun M3 n3 hn3 hS3 => ?_)
              have hA := hA.scr hbc hn3 hS3
              rw [show rWhy T (-9 + (j : Nat)) (p : Nat) = oI wv from (if_neg (fun h => h ⟨by omega, by omega⟩)).trans ((if_neg (fun h => h ⟨by omega, by omega, by omega⟩)).trans (congrArg oI hwv.symm))]
              refine ⟨_, rfl, ?_⟩
              refine X.cs (cn' := cn + 1) (ck' := ck + 6) ?_ (Nat.le_refl _) (Nat.le_refl _)
              refine x_aload_n (pc := 50) dL_isBest_50 rfl rfl ?_
              refine x_iload (pc := 51) dL_isBest_51 rfl ?_
              refine x_iload (pc := 53) dL_isBest_53 rfl ?_
              refine x_callV (pc := 55) [_, _] rfl kL_97 dL_isBest_55 hA.2.2.1.1.1 rfl rfl (by decide) (Nat.le_of_ble_eq_true rfl) (Nat.le_of_ble_eq_true rfl) (show _ + 0 ≤ 400 ∧ _ + 0 ≤ 2400 by omega) ?_
              refine sp_X6_whyLay hA.2.2 hW (by omega) ⟨by omega, by omega⟩ (fun z hz => ?_)
              obtain rfl : wv = z := hwv.trans (why_F hWf hP hz).symm
              refine ⟨_, rfl, ?_⟩
              refine X.cs (cn' := cn + 1) (ck' := ck + 6) ?_ (Nat.le_refl _) (Nat.le_refl _)
              refine x_icmp_eq (pc := 58) (t := 63) dL_isBest_58 (by decide) ⟨by omega, by omega⟩ ⟨by omega, by omega⟩ (fun c58 => ?_) (fun c58 => ?_)
              · refine x_aload_n (pc := 63) dL_isBest_63 rfl rfl ?_
                refine x_iload (pc := 64) dL_isBest_64 rfl ?_
                refine x_iload (pc := 66) dL_isBest_66 rfl ?_
                refine x_callV (pc := 68) [_, _] rfl kL_97 dL_isBest_68 hA.2.2.1.1.1 rfl rfl (by decide) (Nat.le_of_ble_eq_true rfl) (Nat.le_of_ble_eq_true rfl) (show _ + 0 ≤ 400 ∧ _ + 0 ≤ 2400 by omega) ?_
                refine sp_X6_whyLay hA.2.2 hW (by omega) ⟨by omega, by omega⟩ (fun z hz => ?_)
                obtain rfl : wv = z := hwv.trans (why_F hWf hP hz).symm
                refine ⟨_, rfl, ?_⟩
                refine X.cs (cn' := cn + 1) (ck' := ck + 6) ?_ (Nat.le_refl _) (Nat.le_refl _)
                refine x_if_le (pc := 71) (t := 77) dL_isBest_71 (by decide) ⟨by omega, by omega⟩ (fun c71 => ?_) (fun c71 => ?_)
                · refine x_aload_n (pc := 77) dL_isBest_77 rfl rfl ?_
                  refine x_iload (pc := 78) dL_isBest_78 rfl ?_
                  refine x_iload (pc := 80) dL_isBest_80 rfl ?_
                  refine x_iconst (pc := 82) dL_isBest_82 ?_
                  refine x_iload (pc := 83) dL_isBest_83 rfl ?_
                  refine x_iadd (pc := 85) dL_isBest_85 ?_
                  refine x_callV (pc := 86) [_, _, _] rfl kL_100 dL_isBest_86 hA.2.1.1.1 rfl rfl (by decide) (Nat.le_of_ble_eq_true rfl) (Nat.le_of_ble_eq_true rfl) (show _ + 1 ≤ 400 ∧ _ + 6 ≤ 2400 by omega) ?_
                  refine sp_X4_behind gB hA.2.1.1 hA.2.1.2.1 hA.2.1.2.2.2.1 hA.2.1.2.2.2.2 hO ⟨by omega, by omega⟩ ⟨by omega, by omega⟩ ⟨by omega, by omega⟩ (fun M3 n3 hn3 hS3 => ?_)
                  have hA := hA.scr hbc hn3 hS3
                  rw [show rBehind T (-9 + (j : Nat)) (p : Nat) (1 + ((tN T % 2 : Nat) : Int)) = oI (behF (tTerm T (-9 + (j : Nat)) p) (1 + ((tN T % 2 : Nat) : Int))) from (if_neg (fun h => h ⟨by omega, by omega⟩)).trans ((if_neg (fun h => h ⟨⟨by omega, by omega, by omega⟩, by omega, by omega⟩)).trans (if_neg (fun h => h (hwv.symm.trans (by omega)))))]
                  refine ⟨_, rfl, ?_⟩
                  refine X.cs (cn' := cn + 2) (ck' := ck + 12) ?_ (Nat.le_refl _) (Nat.le_refl _)
                  refine x_aload_n (pc := 89) dL_isBest_89 rfl rfl ?_
                  refine x_iload (pc := 90) dL_isBest_90 rfl ?_
                  refine x_iload (pc := 92) dL_isBest_92 rfl ?_
                  refine x_iconst (pc := 94) dL_isBest_94 ?_
                  refine x_iload (pc := 95) dL_isBest_95 rfl ?_
                  refine x_isub (pc := 97) dL_isBest_97 ?_
                  refine x_callV (pc := 98) [_, _, _] rfl kL_100 dL_isBest_98 hA.2.1.1.1 rfl rfl (by decide) (Nat.le_of_ble_eq_true rfl) (Nat.le_of_ble_eq_true rfl) (show _ + 1 ≤ 400 ∧ _ + 6 ≤ 2400 by omega) ?_
                  refine sp_X4_behind gB hA.2.1.1 hA.2.1.2.1 hA.2.1.2.2.2.1 hA.2.1.2.2.2.2 hO ⟨by omega, by omega⟩ ⟨by omega, by omega⟩ ⟨by omega, by omega⟩ (fun M3 n3 hn3 hS3 => ?_)
                  have hA := hA.scr hbc hn3 hS3
                  rw [show rBehind T (-9 + (j : Nat)) (p : Nat) (2 - ((tN T % 2 : Nat) : Int)) = oI (behF (tTerm T (-9 + (j : Nat)) p) (2 - ((tN T % 2 : Nat) : Int))) from (if_neg (fun h => h ⟨by omega, by omega⟩)).trans ((if_neg (fun h => h ⟨⟨by omega, by omega, by omega⟩, by omega, by omega⟩)).trans (if_neg (fun h => h (hwv.symm.trans (by omega)))))]
                  refine ⟨_, rfl, ?_⟩
                  refine X.cs (cn' := cn + 3) (ck' := ck + 18) ?_ (Nat.le_refl _) (Nat.le_refl _)
                  refine x_isub (pc := 101) dL_isBest_101 ?_
                  rw [hg (by omega) (by omega)]
                  have hlr9 := hlr (by omega)
                  refine x_istore (pc := 102) dL_isBest_102 trivial (by decide) (L' := [(7, _), (6, _), (5, _), (4, _), (2, _), (3, _), (0, _), (1, _)]) rfl ?_
                  refine x_iload_n (pc := 104) dL_isBest_104 rfl rfl ?_
                  refine x_if_lt (pc := 105) (t := 117) dL_isBest_105 (by decide) ⟨by omega, by omega⟩ (fun c105 => ?_) (fun c105 => ?_)
                  · refine x_bipush (pc := 117) dL_isBest_117 (by decide) ?_
                    refine x_iload (pc := 119) dL_isBest_119 rfl ?_
                    refine x_imul (pc := 121) dL_isBest_121 ?_
                    refine x_iload (pc := 122) dL_isBest_122 rfl ?_
                    refine x_iadd (pc := 124) dL_isBest_124 ?_
                    refine x_bipush (pc := 125) dL_isBest_125 (by decide) ?_
                    refine x_iadd (pc := 127) dL_isBest_127 ?_
                    refine x_istore_n (pc := 128) dL_isBest_128 rfl (by decide) (L' := [(2, _), (7, _), (6, _), (5, _), (4, _), (3, _), (0, _), (1, _)]) rfl ?_
                    refine x_iload (pc := 129) dL_isBest_129 rfl ?_
                    refine x_istore_n (pc := 131) dL_isBest_131 rfl (by decide) (L' := [(3, _), (2, _), (7, _), (6, _), (5, _), (4, _), (0, _), (1, _)]) rfl ?_
                    refine x_iinc (pc := 132) dL_isBest_132 rfl (by decide) (L' := [(6, _), (3, _), (2, _), (7, _), (5, _), (4, _), (0, _), (1, _)]) rfl ?_
                    refine x_goto (pc := 135) (t := 27) dL_isBest_135 (by decide) ?_
                    refine X.loc [0, 4, 5, 2, 1, 6, 7] (L' := [(6, _), (5, _), (4, _), (2, _), (3, _), (0, _), (1, _)]) rfl ?_
                    first
                    | (rw [if_pos (by omega)] at ihe2; exact ihe2 _ _ _ _ (by omega) (by omega) hA)
                    | (rw [if_neg (by omega), if_pos (by omega)] at ihe2; exact ihe2 _ _ _ _ (by omega) (by omega) hA)
                    | (rw [if_neg (by omega), if_neg (by omega)] at ihe2; exact ihe2 _ _ _ _ (by omega) (by omega) hA)
                  · refine x_iload (pc := 108) dL_isBest_108 rfl ?_
                    refine x_iload_n (pc := 110) dL_isBest_110 rfl rfl ?_
                    refine x_icmp_gt (pc := 111) (t := 117) dL_isBest_111 (by decide) ⟨by omega, by omega⟩ ⟨by omega, by omega⟩ (fun c111 => ?_) (fun c111 => ?_)
                    · refine x_bipush (pc := 117) dL_isBest_117 (by decide) ?_
                      refine x_iload (pc := 119) dL_isBest_119 rfl ?_
                      refine x_imul (pc := 121) dL_isBest_121 ?_
                      refine x_iload (pc := 122) dL_isBest_122 rfl ?_
                      refine x_iadd (pc := 124) dL_isBest_124 ?_
                      refine x_bipush (pc := 125) dL_isBest_125 (by decide) ?_
                      refine x_iadd (pc := 127) dL_isBest_127 ?_
                      refine x_istore_n (pc := 128) dL_isBest_128 rfl (by decide) (L' := [(2, _), (7, _), (6, _), (5, _), (4, _), (3, _), (0, _), (1, _)]) rfl ?_
                      refine x_iload (pc := 129) dL_isBest_129 rfl ?_
                      refine x_istore_n (pc := 131) dL_isBest_131 rfl (by decide) (L' := [(3, _), (2, _), (7, _), (6, _), (5, _), (4, _), (0, _), (1, _)]) rfl ?_
                      refine x_iinc (pc := 132) dL_isBest_132 rfl (by decide) (L' := [(6, _), (3, _), (2, _), (7, _), (5, _), (4, _), (0, _), (1, _)]) rfl ?_
                      refine x_goto (pc := 135) (t := 27) dL_isBest_135 (by decide) ?_
                      refine X.loc [0, 4, 5, 2, 1, 6, 7] (L' := [(6, _), (5, _), (4, _), (2, _), (3, _), (0, _), (1, _)]) rfl ?_
                      first
                      | (rw [if_pos (by omega)] at ihe2; exact ihe2 _ _ _ _ (by omega) (by omega) hA)
                      | (rw [if_neg (by omega), if_pos (by omega)] at ihe2; exact ihe2 _ _ _ _ (by omega) (by omega) hA)
                      | (rw [if_neg (by omega), if_neg (by omega)] at ihe2; exact ihe2 _ _ _ _ (by omega) (by omega) hA)
                    · refine x_goto (pc := 114) (t := 132) dL_isBest_114 (by decide) ?_
                      refine x_iinc (pc := 132) dL_isBest_132 rfl (by decide) (L' := [(6, _), (7, _), (5, _), (4, _), (2, _), (3, _), (0, _), (1, _)]) rfl ?_
                      refine x_goto (pc := 135) (t := 27) dL_isBest_135 (by decide) ?_
                      refine X.loc [0, 2, 3, 4, 5, 6, 7] (L' := [(6, _), (5, _), (4, _), (2, _), (3, _), (0, _), (1, _)]) rfl ?_
                      first
                      | (rw [if_pos (by omega)] at ihe2; exact ihe2 _ _ _ _ (by omega) (by omega) hA)
                      | (rw [if_neg (by omega), if_pos (by omega)] at ihe2; exact ihe2 _ _ _ _ (by omega) (by omega) hA)
                      | (rw [if_neg (by omega), if_neg (by omega)] at ihe2; exact ihe2 _ _ _ _ (by omega) (by omega) hA)
                · refine x_goto (pc := 74) (t := 132) dL_isBest_74 (by decide) ?_
                  refine x_iinc (pc := 132) dL_isBest_132 rfl (by decide) (L' := [(6, _), (5, _), (4, _), (2, _), (3, _), (0, _), (1, _)]) rfl ?_
                  refine x_goto (pc := 135) (t := 27) dL_isBest_135 (by decide) ?_
                  refine X.loc [0, 1, 2, 3, 4, 5, 6] (L' := [(6, _), (5, _), (4, _), (2, _), (3, _), (0, _), (1, _)]) rfl ?_
                  first
                  | (rw [if_pos (by omega)] at ihe2; exact ihe2 _ _ _ _ (by omega) (by omega) hA)
                  | (rw [if_neg (by omega), if_pos (by omega)] at ihe2; exact ihe2 _ _ _ _ (by omega) (by omega) hA)
                  | (rw [if_neg (by omega), if_neg (by omega)] at ihe2; exact ihe2 _ _ _ _ (by omega) (by omega) hA)
              · exfalso; omega
            · refine x_goto (pc := 39) (t := 132) dL_isBest_39 (by decide) ?_
              refine x_iinc (pc := 132) dL_isBest_132 rfl (by decide) (L' := [(6, _), (5, _), (4, _), (2, _), (3, _), (0, _), (1, _)]) rfl ?_
              refine x_goto (pc := 135) (t := 27) dL_isBest_135 (by decide) ?_
              refine X.loc [0, 1, 2, 3, 4, 5, 6] (L' := [(6, _), (5, _), (4, _), (2, _), (3, _), (0, _), (1, _)]) rfl ?_
              first
              | (rw [if_pos (by omega)] at ihe2; exact ihe2 _ _ _ _ (by omega) (by omega) hA)
              | (rw [if_neg (by omega), if_pos (by omega)] at ihe2; exact ihe2 _ _ _ _ (by omega) (by omega) hA)
              | (rw [if_neg (by omega), if_neg (by omega)] at ihe2; exact ihe2 _ _ _ _ (by omega) (by omega) hA)
      refine x_iload (pc := 13) dL_isBest_13 rfl ?_
      refine x_aload_n (pc := 15) dL_isBest_15 rfl rfl ?_
      refine x_getrN (pc := 16) (b := (c + 3)) frL_27 dL_isBest_16 hA.2.2.1.1.1 rfl hA.2.2.2.1.1 rfl ?_
      refine x_alen (pc := 19) dL_isBest_19 hA.2.2.1.2.1.1 (fun r19a => ?_)
      refine x_icmp_ge (pc := 20) (t := 144) dL_isBest_20 (by decide) ⟨by omega, by omega⟩ ⟨by omega, by omega⟩ (fun c20 => ?_) (fun c20 => ?_)
      · exfalso; omega
      · refine x_bipush (pc := 23) dL_isBest_23 (by decide) ?_
        refine x_istore (pc := 25) dL_isBest_25 trivial (by decide) (L' := [(6, _), (5, _), (4, _), (2, _), (3, _), (0, _), (1, _)]) rfl ?_
        refine X.loc [0, 1, 2, 3, 4, 5, 6] (L' := [(6, _), (5, _), (4, _), (2, _), (3, _), (0, _), (1, _)]) rfl ?_
        exact inner 19 0 (by omega) lay2 M2 cn ck (by omega) (by omega) hA
  refine x_iconst (pc := 0) dL_isBest_0 ?_
  refine x_istore_n (pc := 1) dL_isBest_1 rfl (by decide) (L' := [(2, _), (0, _), (1, _)]) rfl ?_
  refine x_iconst (pc := 2) dL_isBest_2 ?_
  refine x_istore_n (pc := 3) dL_isBest_3 rfl (by decide) (L' := [(3, _), (2, _), (0, _), (1, _)]) rfl ?_
  refine x_aload_n (pc := 4) dL_isBest_4 rfl rfl ?_
  refine x_callV (pc := 5) [] rfl kL_91 dL_isBest_5 hA.2.2.1.1.1 rfl rfl (by decide) (Nat.le_of_ble_eq_true rfl) (Nat.le_of_ble_eq_true rfl) (by decide) ?_
  refine sp_X6_whose hA.2.2 hW ?_
  refine ⟨_, rfl, ?_⟩
  refine x_istore (pc := 8) dL_isBest_8 trivial (by decide) (L' := [(4, _), (3, _), (2, _), (0, _), (1, _)]) rfl ?_
  refine x_iconst (pc := 10) dL_isBest_10 ?_
  refine x_istore (pc := 11) dL_isBest_11 trivial (by decide) (L' := [(5, _), (4, _), (3, _), (2, _), (0, _), (1, _)]) rfl ?_
  refine X.loc [0, 1, 3, 2, 4, 5] (L' := [(5, _), (4, _), (2, _), (3, _), (0, _), (1, _)]) rfl ?_
  exact loop pw 0 (by omega) lay M 0 0 (by omega) (by omega) hA
