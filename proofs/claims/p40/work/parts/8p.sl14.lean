/-! The law's loop over acts. -/
theorem cmd_cong {cm cm2 : Nat → Int} {j j2 : Nat} (h : ∀ i, i < 6 → cm (6 * j + i) = cm2 (6 * j2 + i)) (T : CT) (P : Int) : cmdT T cm j = cmdT T cm2 j2 ∧ cmdR T cm j = cmdR T cm2 j2 ∧ (CmdOK P cm j ↔ CmdOK P cm2 j2) := by
  have h0 := h 0 (by decide)
  have h1 := h 1 (by decide)
  have h2 := h 2 (by decide)
  have h3 := h 3 (by decide)
  have h4 := h 4 (by decide)
  have h5 := h 5 (by decide)
  rw [Nat.add_zero, Nat.add_zero] at h0
  unfold cmdT cmdR CmdOK
  rw [h0, h1, h2, h3, h4, h5]
  exact ⟨rfl, rfl, Iff.rfl⟩
theorem runC_cong {cm cm2 : Nat → Int} (T0 : CT) : ∀ n : Nat, (∀ i, i < 6 * n → cm i = cm2 i) → runC cm T0 n = runC cm2 T0 n
  | 0, _ => rfl
  | n + 1, h => by
    simp only [runC]
    rw [runC_cong T0 n (fun i hi => h i (by omega))]
    exact (cmd_cong (fun i hi => h _ (by omega)) _ 0).1
theorem Hist.add {T0 T : CT} {m : Nat} (h : Hist T0 T m) {cmd : Nat → Int} (h1 : CmdOK (tS T0 0) cmd 0) (h2 : cmdR T cmd 0 = 0) : Hist T0 (cmdT T cmd 0) (m + 1) := by
  obtain ⟨cm, n, g1, g2, g3⟩ := h
  have e1 : ∀ i, i < 6 * n → (fun i => if i < 6 * n then cm i else cmd (i - 6 * n)) i = cm i := fun i hi => if_pos hi
  have e2 : ∀ i, i < 6 → (fun i => if i < 6 * n then cm i else cmd (i - 6 * n)) (6 * n + i) = cmd (6 * 0 + i) := fun i hi => by
    show (if 6 * n + i < 6 * n then cm (6 * n + i) else cmd (6 * n + i - 6 * n)) = cmd (6 * 0 + i)
    rw [if_neg (by omega)]
    exact congrArg cmd (by omega)
  have r : ∀ j, j ≤ n → runC (fun i => if i < 6 * n then cm i else cmd (i - 6 * n)) T0 j = runC cm T0 j := fun j hj => runC_cong T0 j (fun i hi => e1 i (by omega))
  refine ⟨fun i => if i < 6 * n then cm i else cmd (i - 6 * n), n + 1, by omega, fun j hj => ?_, ?_⟩
  · by_cases c : j = n
    · subst c
      rw [r j (Nat.le_refl _), ← g3]
      obtain ⟨a1, a2, a3⟩ := cmd_cong (cm := fun i => if i < 6 * j then cm i else cmd (i - 6 * j)) (cm2 := cmd) (j := j) (j2 := 0) e2 T (tS T0 0)
      exact ⟨a3.mpr h1, a2.trans h2⟩
    · rw [r j (by omega)]
      obtain ⟨b1, b2⟩ := g2 j (by omega)
      obtain ⟨a1, a2, a3⟩ := cmd_cong (cm := fun i => if i < 6 * n then cm i else cmd (i - 6 * n)) (cm2 := cm) (j := j) (j2 := j) (fun i hi => e1 _ (by omega)) (runC cm T0 j) (tS T0 0)
      exact ⟨a3.mpr b1, a2.trans b2⟩
  · simp only [runC]
    rw [r n (Nat.le_refl _), ← g3]
    exact (cmd_cong (cm := fun i => if i < 6 * n then cm i else cmd (i - 6 * n)) (cm2 := cmd) (j := n) (j2 := 0) e2 T 0).1.symm
theorem Hist.lay {T0 T : CT} {m p : Nat} {x : Int} (h : Hist T0 T m) (hx : layab x) (hp : (p : Int) < tS T0 0) : Hist T0 (actLay T x p) (m + 1) := by
  by_cases c : whyLayF T x p = 0
  · have := h.add (cmd := fun i => if i = 0 then 0 else if i = 1 then x else (p : Nat)) (Or.inl ⟨rfl, hx, Int.natCast_nonneg p, hp⟩) c
    exact this
  · rw [show actLay T x p = T from if_neg c]
    exact h.up (by omega)
theorem Hist.pass {T0 T : CT} {m : Nat} (h : Hist T0 T m) : Hist T0 (actPass T) (m + 1) := by
  by_cases c : tO T = 1
  · rw [show actPass T = T from if_pos c]
    exact h.up (by omega)
  · have := h.add (cmd := fun _ => 2) (Or.inr (Or.inr rfl)) (if_neg c)
    exact this
theorem Hist.claim {T0 T : CT} {m : Nat} {a b r l s : Int} (h : Hist T0 T m) (hi : intvP a b) (hr : 0 ≤ r ∧ r ≤ 4) (hl : 0 ≤ l ∧ l ≤ 1) (hs : 1 ≤ s ∧ s ≤ 9) (h0 : whyClaimF T a b s = 0) : Hist T0 (actClaim T a b r l s) (m + 1) := by
  have := h.add (cmd := fun i => if i = 0 then 1 else if i = 1 then a else if i = 2 then b else if i = 3 then r else if i = 4 then l else s) (Or.inr (Or.inl ⟨rfl, hi, hr, hl, hs⟩)) h0
  exact this

set_option maxRecDepth 100000 in
theorem law_loop {g : GG} {K : KK} {d b c t pw : Nat} {st : Int} {sx : List Int} {T0 : CT} (gB : GoodB) (gC : ∀ P, WfP P → cntOK 5 (buildF P)) (gR : GoodRt) (hSet : SetOK sx st T0) (hst : 0 ≤ st ∧ st ≤ 20) (hW0 : WfT T0) (hO0 : WfO T0) (hHP : ∀ T, Hist T0 T 22 → PlayOK T0 T) (k : ∀ lay2 M2, K (.inl (some (vI 1))) lay2 M2) : ∀ (kx : Nat), kx ≤ 22 → ∀ (lay : Lay) (M : Mem) (cn ck nn : Nat) (hc : Int) (T : CT), cn ≤ 20000 + 60 * (22 - kx) → ck ≤ 2000000 + 600 * (22 - kx) → nn ≤ 1000 + 10 * (22 - kx) → tS T = tS T0 → LwI g lay M d b c t pw nn hc sx T → LInv T pw hc → Hist T0 T (22 - kx) → X g m_L_law cn ck lay M 363 [(13, vI (kx : Nat)), (1, vR d), (2, vR b), (3, vI (pw : Nat)), (7, vI (tS T 4)), (10, vR c), (11, vR t), (12, vI (st - 6))] [] K := by
  intro kx
  induction kx with
  | zero =>
    intro hk lay M cn ck nn hc T hcn hck hnn hTS hI hV hH
    refine x_iload (pc := 363) dL_law_363 rfl ?_
    refine x_if_le (pc := 365) (t := 1000) dL_law_365 (by decide) ⟨by omega, by omega⟩ (fun c365 => ?_) (fun c365 => ?_)
    · refine X.loc [2, 5, 6, 7] (L' := [(2, _), (10, _), (11, _), (12, _)]) rfl ?_
      exact law_end gB gC gR hI hV.2.2.2.2 hV.2.2.2.1 hV.1 hV.2.1 hSet hst hW0 hO0 (hHP T hH) (by omega) (by omega) k
    · exfalso; omega
  | succ kx ih =>
    intro hk lay M cn ck nn hc T hcn hck hnn hTS hI hV hH
    have hWf : WfT T := hI.2.2.2.1.2.2.2.2
    obtain ⟨hO, hB, hNc, hh, hP⟩ := id hV
    have hPw := hP.1
    have hS0 := hWf.1.1
    -- behind an act: the checks, the next turn
    have next : ∀ (lay2 : Lay) (M2 : Mem) (cn2 ck2 nn2 : Nat) (hc2 : Int) (T2 : CT), cn2 ≤ cn + 8 → ck2 ≤ ck + 80 → nn2 ≤ nn + 10 → tS T2 = tS T → LwI g lay2 M2 d b c t pw nn2 hc2 sx T2 → LInv T2 pw hc2 → Hist T0 T2 (22 - (kx + 1) + 1) → X g m_L_law cn2 ck2 lay2 M2 730 [(13, vI ((kx + 1 : Nat))), (1, vR d), (2, vR b), (3, vI (pw : Nat)), (7, vI (tS T 4)), (10, vR c), (11, vR t), (12, vI (st - 6))] [] K := by
      intro lay2 M2 cn2 ck2 nn2 hc2 T2 g1 g2 g3 g4 hI2 hV2 hH2
      rw [← g4]
      refine law_check gB hI2 hV2 (by omega) (by omega) (fun lay3 M3 cn3 ck3 q1 q2 hI3 => ?_)
      refine x_iinc (pc := 994) dL_law_994 rfl (by decide) (L' := [(13, _), (1, _), (2, _), (3, _), (7, _), (10, _), (11, _), (12, _)]) rfl ?_
      refine x_goto (pc := 997) (t := 363) dL_law_997 (by decide) ?_
      refine X.loc [0, 1, 2, 3, 4, 5, 6, 7] (L' := [(13, _), (1, _), (2, _), (3, _), (7, _), (10, _), (11, _), (12, _)]) rfl ?_
      have l1 := ih (by omega) lay3 M3 cn3 ck3 nn2 hc2 T2 (by omega) (by omega) (by omega) (g4.trans hTS) hI3 hV2 (by rw [show 22 - kx = 22 - (kx + 1) + 1 by omega]; exact hH2)
      rw [show ((kx + 1 : Nat) : Int) + -1 = (kx : Nat) by omega]
      exact l1
    refine x_iload (pc := 363) dL_law_363 rfl ?_
    refine x_if_le (pc := 365) (t := 1000) dL_law_365 (by decide) ⟨by omega, by omega⟩ (fun c365 => ?_) (fun c365 => ?_)
    · exfalso; omega
    · refine x_aload_n (pc := 368) dL_law_368 rfl rfl ?_
      refine x_bipush (pc := 369) dL_law_369 (by decide) ?_
      refine x_callV (pc := 371) [_] rfl kL_113 dL_law_371 hI.2.2.1.1.1 rfl rfl (by decide) (Nat.le_of_ble_eq_true rfl) (Nat.le_of_ble_eq_true rfl) (show _ + 0 ≤ 600086 ∧ _ + 0 ≤ 7301442 by omega) ?_
      refine sp_X7_next hI.2.2.1 (by omega) ⟨by omega, by omega⟩ (fun w M3 wa wb p3 hT3 => ?_)
      have hI := hI.draw p3 hT3
      refine ⟨_, rfl, ?_⟩
      refine X.cs (cn' := cn) (ck' := ck) ?_ (Nat.le_refl _) (Nat.le_refl _)
      refine x_istore (pc := 374) dL_law_374 trivial (by decide) (L' := [(14, _), (13, _), (1, _), (2, _), (3, _), (7, _), (10, _), (11, _), (12, _)]) rfl ?_
      refine x_iload (pc := 376) dL_law_376 rfl ?_
      refine x_iconst (pc := 378) dL_law_378 ?_
      refine x_icmp_ge (pc := 379) (t := 525) dL_law_379 (by decide) ⟨by omega, by omega⟩ ⟨by omega, by omega⟩ (fun c379 => ?_) (fun c379 => ?_)
      · refine x_iload (pc := 525) dL_law_525 rfl ?_
        refine x_iconst (pc := 527) dL_law_527 ?_
        refine x_icmp_ne (pc := 528) (t := 570) dL_law_528 (by decide) ⟨by omega, by omega⟩ ⟨by omega, by omega⟩ (fun c528 => ?_) (fun c528 => ?_)
        · refine x_aload_n (pc := 570) dL_law_570 rfl rfl ?_
          refine x_iload_n (pc := 571) dL_law_571 rfl rfl ?_
          refine x_callV (pc := 572) [_] rfl kL_113 dL_law_572 hI.2.2.1.1.1 rfl rfl (by decide) (Nat.le_of_ble_eq_true rfl) (Nat.le_of_ble_eq_true rfl) (show _ + 0 ≤ 600086 ∧ _ + 0 ≤ 7301442 by omega) ?_
          refine sp_X7_next hI.2.2.1 (by omega) ⟨by omega, by omega⟩ (fun p9 M3 p9a p9b p3 hT3 => ?_)
          have hI := hI.draw p3 hT3
          refine ⟨_, rfl, ?_⟩
          refine X.cs (cn' := cn) (ck' := ck) ?_ (Nat.le_refl _) (Nat.le_refl _)
          refine x_istore (pc := 575) dL_law_575 trivial (by decide) (L' := [(15, _), (14, _), (13, _), (1, _), (2, _), (3, _), (7, _), (10, _), (11, _), (12, _)]) rfl ?_
          refine x_aload_n (pc := 577) dL_law_577 rfl rfl ?_
          refine x_bipush (pc := 578) dL_law_578 (by decide) ?_
          refine x_callV (pc := 580) [_] rfl kL_113 dL_law_580 hI.2.2.1.1.1 rfl rfl (by decide) (Nat.le_of_ble_eq_true rfl) (Nat.le_of_ble_eq_true rfl) (show _ + 0 ≤ 600086 ∧ _ + 0 ≤ 7301442 by omega) ?_
          refine sp_X7_next hI.2.2.1 (by omega) ⟨by omega, by omega⟩ (fun x9 M3 x9a x9b p3 hT3 => ?_)
          have hI := hI.draw p3 hT3
          refine ⟨_, rfl, ?_⟩
          refine X.cs (cn' := cn) (ck' := ck) ?_ (Nat.le_refl _) (Nat.le_refl _)
          refine x_bipush (pc := 583) dL_law_583 (by decide) ?_
          refine x_isub (pc := 585) dL_law_585 ?_
          refine x_istore (pc := 586) dL_law_586 trivial (by decide) (L' := [(16, _), (15, _), (14, _), (13, _), (1, _), (2, _), (3, _), (7, _), (10, _), (11, _), (12, _)]) rfl ?_
          refine x_iload (pc := 588) dL_law_588 rfl ?_
          refine x_if_lt (pc := 590) (t := 600) dL_law_590 (by decide) ⟨by omega, by omega⟩ (fun c590 => ?_) (fun c590 => ?_)
          · refine x_iload (pc := 600) dL_law_600 rfl ?_
            refine x_istore (pc := 602) dL_law_602 trivial (by decide) (L' := [(16, _), (15, _), (14, _), (13, _), (1, _), (2, _), (3, _), (7, _), (10, _), (11, _), (12, _)]) rfl ?_
            refine X.loc [0, 1, 3, 4, 5, 6, 7, 8, 9, 10] (L' := [(16, _), (15, _), (13, _), (1, _), (2, _), (3, _), (7, _), (10, _), (11, _), (12, _)]) rfl ?_
            obtain ⟨p, hp⟩ : ∃ p : Nat, (p : Int) = p9 := ⟨p9.toNat, Int.toNat_of_nonneg p9a⟩
            subst hp
            refine law_lay gB hI hV (by omega) (by omega) ⟨by omega, by omega, by omega⟩ (by omega) (fun lay3 M3 hc3 cn3 ck3 q2 q3 hI3 hV3 => ?_)
            exact next lay3 M3 cn3 ck3 _ hc3 _ (by omega) (by omega) (by omega) (actLay_wf hWf hO ⟨by omega, by omega, by omega⟩ (by omega)).2.2 hI3 hV3 (hH.lay ⟨by omega, by omega, by omega⟩ (by rw [← hTS]; omega))
          · refine x_iload (pc := 593) dL_law_593 rfl ?_
            refine x_iconst (pc := 595) dL_law_595 ?_
            refine x_iadd (pc := 596) dL_law_596 ?_
            refine x_goto (pc := 597) (t := 602) dL_law_597 (by decide) ?_
            refine x_istore (pc := 602) dL_law_602 trivial (by decide) (L' := [(16, _), (15, _), (14, _), (13, _), (1, _), (2, _), (3, _), (7, _), (10, _), (11, _), (12, _)]) rfl ?_
            refine X.loc [0, 1, 3, 4, 5, 6, 7, 8, 9, 10] (L' := [(16, _), (15, _), (13, _), (1, _), (2, _), (3, _), (7, _), (10, _), (11, _), (12, _)]) rfl ?_
            obtain ⟨p, hp⟩ : ∃ p : Nat, (p : Int) = p9 := ⟨p9.toNat, Int.toNat_of_nonneg p9a⟩
            subst hp
            refine law_lay gB hI hV (by omega) (by omega) ⟨by omega, by omega, by omega⟩ (by omega) (fun lay3 M3 hc3 cn3 ck3 q2 q3 hI3 hV3 => ?_)
            exact next lay3 M3 cn3 ck3 _ hc3 _ (by omega) (by omega) (by omega) (actLay_wf hWf hO ⟨by omega, by omega, by omega⟩ (by omega)).2.2 hI3 hV3 (hH.lay ⟨by omega, by omega, by omega⟩ (by rw [← hTS]; omega))
        · refine X.loc [1, 2, 3, 4, 5, 6, 7, 8] (L' := [(13, _), (1, _), (2, _), (3, _), (7, _), (10, _), (11, _), (12, _)]) rfl ?_
          refine law_pass gB hI hV (by omega) (by omega) (fun lay3 M3 hc3 cn3 ck3 q2 q3 hI3 hV3 => ?_)
          exact next lay3 M3 cn3 ck3 _ hc3 _ (by omega) (by omega) (by omega) (actPass_wf hWf hO).2.2 hI3 hV3 hH.pass
      · refine X.loc [1, 2, 3, 4, 5, 6, 7, 8] (L' := [(13, _), (1, _), (2, _), (3, _), (7, _), (10, _), (11, _), (12, _)]) rfl ?_
        refine law_claim gB hI hV (by omega) (by omega) (by omega) (fun lay3 M3 hc3 nn3 cn3 ck3 T2 q1 q2 q3 q4 hI3 hV3 => ?_)
        rcases q4 with rfl | ⟨a, y1, r, l, s, ⟨i1, i2, i3, i4⟩, i5, rfl⟩
        · exact next lay3 M3 cn3 ck3 nn3 hc3 T2 (by omega) (by omega) (by omega) rfl hI3 hV3 (hH.up (by omega))
        · exact next lay3 M3 cn3 ck3 nn3 hc3 _ (by omega) (by omega) (by omega) (actClaim_wf hWf hO i1 i2 i3 i4).2.2 hI3 hV3 (hH.claim i1 i2 i3 i4 i5)
