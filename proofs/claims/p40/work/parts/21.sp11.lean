/-! Specs of a contest's points, and of the end of a turn. -/
abbrev rightP (s : RS) (l : Nat → Int) : Prop := s.1 ≠ 0 ∧ (cUp s (l 0) 0 - cUp s (l 1) 0 = l 2 ∨ (l 2 < cUp s (l 0) 0 - cUp s (l 1) 0 ∧ l 3 = 1))
def rightN (s : RS) (l : Nat → Nat → Int) : Nat → Int
  | 0 => 0
  | n + 1 => if rightP s (l n) then rightN s l n + 1 else rightN s l n
def claimPt (s : RS) (l : Nat → Nat → Int) : Nat → Int
  | 0 => 0
  | n + 1 => claimPt s l n + (if rightP s (l n) then l n 4 else - l n 4)
/-- the points of the first n whole places from x on where the sign is w -/
def signPt (P : Nat → Int) (w x : Int) : Nat → Int
  | 0 => 0
  | n + 1 => signPt P w x n + (if sg (valF P (x + n) 5) = w then 1 else 0)
def wantF (pl : Nat) : Int := if pl = 0 then 1 else -1
def signF (T : CT) (pl : Nat) : Int := signPt (tP T) (wantF pl) (-(tS T 3)) (2 * (tS T 3).toNat + 1)
def bonusF (T : CT) (pl : Int) : Int := if tB T = pl then tS T 5 else 0
def scoreF (T : CT) (s : RS) (pl : Nat) : Int := signF T pl + claimPt s (tL T pl) (tK T pl) + bonusF T pl
theorem rightN_rng (s : RS) (l : Nat → Nat → Int) : ∀ n : Nat, 0 ≤ rightN s l n ∧ rightN s l n ≤ n
  | 0 => by simp [rightN]
  | n + 1 => by
    have := rightN_rng s l n
    simp only [rightN]
    split <;> omega
theorem claimPt_rng (s : RS) (l : Nat → Nat → Int) (m : Nat) (h : ∀ i, i < m → 1 ≤ l i 4 ∧ l i 4 ≤ 9) : ∀ n : Nat, n ≤ m → -(9 * n) ≤ claimPt s l n ∧ claimPt s l n ≤ 9 * n
  | 0, _ => by simp [claimPt]
  | n + 1, hn => by
    have := claimPt_rng s l m h n (by omega)
    have := h n (by omega)
    simp only [claimPt]
    split <;> omega
theorem signPt_rng (P : Nat → Int) (w x : Int) : ∀ n : Nat, 0 ≤ signPt P w x n ∧ signPt P w x n ≤ n
  | 0 => by simp [signPt]
  | n + 1 => by
    have := signPt_rng P w x n
    simp only [signPt]
    split <;> omega
theorem valP_b {P : Nat → Int} (h : WfP P) {x : Int} (hx : -20 ≤ x ∧ x ≤ 20) : ∀ n : Nat, n ≤ 5 → -(30 * 21 ^ n) ≤ valF P x n ∧ valF P x n ≤ 30 * 21 ^ n
  | 0, _ => by simp [valF]
  | n + 1, hn => by
    have h1 := valP_b h hx n (by omega)
    have h2 := h (4 - n)
    have h3 := mulb h1.1 h1.2 hx.1 hx.2
    have h4 : (1 : Int) ≤ 21 ^ n := Int.pow_pos (by decide)
    simp only [valF]
    rw [Int.pow_succ]
    omega
theorem Ct.r {T : CT} {M M' : Mem} {c d : Nat} (h : Ct T M c) (hf : Frm (d + 8) (d + 9) M M') (hd : c + 7 ≤ d ∨ d + 9 ≤ c) : Ct T M' c := h.frm hf (by omega)

set_option maxRecDepth 100000 in
theorem sp_X0_valueAt {g : GG} {lay : Lay} {M : Mem} {K : KK} {c : Nat} {T : CT} {x : Int} (hC : CtL lay c) (hT : Ct T M c) (hW : WfT T) (hx : -20 ≤ x ∧ x ≤ 20) (k : K (.inl (some (vJ (valF (tP T) x 5)))) lay M) : X g m_X0_valueAt 0 0 lay M 0 [(0, vR c), (1, vI x)] [] K := by
  have hn := hW.n60
  obtain ⟨hS, hP, hN, hm, hK, hL, hO, hB⟩ := id hT
  obtain ⟨wS, wP, wN, wm, wK, wL, wO, wB⟩ := id hW
  have loop : ∀ (n j : Nat) (y acc : Int), j + n = 5 → y = 4 - (j : Int) → acc = valF (tP T) x j → X g m_X0_valueAt 0 0 lay M 5 [(4, vI y), (2, vJ acc), (0, vR c), (1, vI x)] [] K := by
    intro n
    induction n with
    | zero =>
      intro j y acc hj hy ha
      have e5 : j = 5 := by omega
      subst e5
      rw [ha]
      clear ha
      refine x_iload (pc := 5) dX0_valueAt_5 rfl ?_
      refine x_if_lt (pc := 7) (t := 30) dX0_valueAt_7 (by decide) ⟨by omega, by omega⟩ (fun c7 => ?_) (fun c7 => ?_)
      · refine x_lload_n (pc := 30) dX0_valueAt_30 rfl rfl ?_
        refine x_lret (pc := 31) dX0_valueAt_31 rfl (by decide) (by decide) ?_
        exact k
      · exfalso; omega
    | succ n ih =>
      intro j y acc hj hy ha
      have e4 : y.toNat = 4 - j := by omega
      have e6 := hP (4 - j) (by omega)
      refine x_iload (pc := 5) dX0_valueAt_5 rfl ?_
      refine x_if_lt (pc := 7) (t := 30) dX0_valueAt_7 (by decide) ⟨by omega, by omega⟩ (fun c7 => ?_) (fun c7 => ?_)
      · exfalso; omega
      · refine x_lload_n (pc := 10) dX0_valueAt_10 rfl rfl ?_
        refine x_iload_n (pc := 11) dX0_valueAt_11 rfl rfl ?_
        refine x_i2l (pc := 12) ⟨by omega, by omega⟩ dX0_valueAt_12 ?_
        refine x_lmul (pc := 13) dX0_valueAt_13 ?_
        refine x_aload_n (pc := 14) dX0_valueAt_14 rfl rfl ?_
        refine x_getr (pc := 15) (b := c + 2) fX0_15 dX0_valueAt_15 hC.1 rfl rfl ?_
        refine x_iload (pc := 18) dX0_valueAt_18 rfl ?_
        refine x_iald (pc := 20) dX0_valueAt_20 hC.2.2.1 (by omega) (by omega) (fun r20a r20b => ?_)
        rw [e4, e6] at r20a r20b ⊢
        refine x_i2l (pc := 21) ⟨by omega, by omega⟩ dX0_valueAt_21 ?_
        refine x_ladd (pc := 22) dX0_valueAt_22 ?_
        refine x_lstore_n (pc := 23) dX0_valueAt_23 rfl (by decide) (L' := [(2, _), (4, _), (0, _), (1, _)]) rfl ?_
        refine x_iinc (pc := 24) dX0_valueAt_24 rfl (by decide) (L' := [(4, _), (2, _), (0, _), (1, _)]) rfl ?_
        refine x_goto (pc := 27) (t := 5) dX0_valueAt_27 (by decide) ?_
        refine X.loc [0, 1, 2, 3] (L' := [(4, _), (2, _), (0, _), (1, _)]) rfl ?_
        refine ih (j + 1) _ _ (by omega) (by omega) ?_
        rw [ha]
        rfl
  refine x_lconst (pc := 0) (x := 0) dX0_valueAt_0 (by decide) ?_
  refine x_lstore_n (pc := 1) dX0_valueAt_1 rfl (by decide) (L' := [(2, _), (0, _), (1, _)]) rfl ?_
  refine x_iconst (pc := 2) dX0_valueAt_2 ?_
  refine x_istore (pc := 3) dX0_valueAt_3 trivial (by decide) (L' := [(4, _), (2, _), (0, _), (1, _)]) rfl ?_
  refine X.loc [0, 1, 2, 3] (L' := [(4, _), (2, _), (0, _), (1, _)]) rfl ?_
  exact loop 5 0 _ _ rfl rfl rfl
set_option maxRecDepth 100000 in
theorem sp_X0_signPoints {g : GG} {lay : Lay} {M : Mem} {K : KK} {c : Nat} {T : CT} {pl : Nat} (hC : CtL lay c) (hT : Ct T M c) (hW : WfT T) (hpl : pl < 2) (k : K (.inl (some (vI (signF T pl)))) lay M) : X g m_X0_signPoints 0 0 lay M 0 [(0, vR c), (1, vI pl)] [] K := by
  have hn := hW.n60
  obtain ⟨hS, hP, hN, hm, hK, hL, hO, hB⟩ := id hT
  obtain ⟨wS, wP, wN, wm, wK, wL, wO, wB⟩ := id hW
  have e3 := hS 3 (by decide)
  have w3 := wS.2.2.2.1
  unfold signF at k
  have hr := signPt_rng (tP T) (wantF pl) (-(tS T 3))
  have loop : ∀ (n j : Nat) (y acc w : Int), j + n = 2 * (tS T 3).toNat + 1 → y = -(tS T 3) + j → w = wantF pl → acc = signPt (tP T) (wantF pl) (-(tS T 3)) j → X g m_X0_signPoints 0 0 lay M 21 [(4, vI y), (3, vI w), (2, vI acc), (0, vR c), (1, vI pl)] [] K := by
    intro n
    induction n with
    | zero =>
      intro j y acc w hj hy hw ha
      have hrj := hr j
      refine x_iload (pc := 21) dX0_signPoints_21 rfl ?_
      refine x_aload_n (pc := 23) dX0_signPoints_23 rfl rfl ?_
      refine x_getr (pc := 24) (b := c + 1) fX0_9 dX0_signPoints_24 hC.1 rfl rfl ?_
      refine x_iconst (pc := 27) dX0_signPoints_27 ?_
      refine x_iald (pc := 28) dX0_signPoints_28 hC.2.1 (by omega) (by omega) (fun r28a r28b => ?_)
      rw [show (3 : Int).toNat = 3 from rfl, e3]
      refine x_icmp_gt (pc := 29) (t := 55) dX0_signPoints_29 (by decide) ⟨by omega, by omega⟩ ⟨by omega, by omega⟩ (fun c29 => ?_) (fun c29 => ?_)
      · refine x_iload_n (pc := 55) dX0_signPoints_55 rfl rfl ?_
        refine x_iret (pc := 56) dX0_signPoints_56 rfl (by decide) (by decide) ?_
        rw [ha, show j = 2 * (tS T 3).toNat + 1 by omega]
        exact k
      · exfalso; omega
    | succ n ih =>
      intro j y acc w hj hy hw ha
      have hrj := hr j
      have hv := valP_b wP (x := y) (by omega) 5 (by omega)
      have hw2 : -1 ≤ w ∧ w ≤ 1 := by rw [hw]; unfold wantF; split <;> omega
      have hsg : (if valF (tP T) y 5 < 0 then (-1 : Int) else if valF (tP T) y 5 = 0 then 0 else 1) = sg (valF (tP T) y 5) := by unfold sg; grind
      have hsr := sg_rng (valF (tP T) y 5)
      refine x_iload (pc := 21) dX0_signPoints_21 rfl ?_
      refine x_aload_n (pc := 23) dX0_signPoints_23 rfl rfl ?_
      refine x_getr (pc := 24) (b := c + 1) fX0_9 dX0_signPoints_24 hC.1 rfl rfl ?_
      refine x_iconst (pc := 27) dX0_signPoints_27 ?_
      refine x_iald (pc := 28) dX0_signPoints_28 hC.2.1 (by omega) (by omega) (fun r28a r28b => ?_)
      rw [show (3 : Int).toNat = 3 from rfl, e3]
      refine x_icmp_gt (pc := 29) (t := 55) dX0_signPoints_29 (by decide) ⟨by omega, by omega⟩ ⟨by omega, by omega⟩ (fun c29 => ?_) (fun c29 => ?_)
      · exfalso; omega
      · refine x_aload_n (pc := 32) dX0_signPoints_32 rfl rfl ?_
        refine x_iload (pc := 33) dX0_signPoints_33 rfl ?_
        refine x_callV (pc := 35) [_] rfl kX0_136 dX0_signPoints_35 hC.1 rfl rfl (by decide) (Nat.le_of_ble_eq_true rfl) (Nat.le_of_ble_eq_true rfl) (by decide) ?_
        refine sp_X0_valueAt hC hT hW (by omega) ?_
        refine ⟨_, rfl, ?_⟩
        refine x_lconst (pc := 38) (x := 0) dX0_signPoints_38 (by decide) ?_
        refine x_callS (pc := 39) [_, _] rfl kX0_140 dX0_signPoints_39 rfl (by decide) (Nat.le_of_ble_eq_true rfl) (Nat.le_of_ble_eq_true rfl) (by decide) ?_
        refine sp_J13_compare_74951 ⟨by omega, by omega⟩ (by decide) ?_
        refine ⟨_, rfl, ?_⟩
        rw [hsg]
        refine x_iload_n (pc := 42) dX0_signPoints_42 rfl rfl ?_
        refine x_icmp_ne (pc := 43) (t := 49) dX0_signPoints_43 (by decide) ⟨by omega, by omega⟩ ⟨by omega, by omega⟩ (fun c43 => ?_) (fun c43 => ?_)
        · refine x_iinc (pc := 49) dX0_signPoints_49 rfl (by decide) (L' := [(4, _), (3, _), (2, _), (0, _), (1, _)]) rfl ?_
          refine x_goto (pc := 52) (t := 21) dX0_signPoints_52 (by decide) ?_
          refine X.loc [0, 1, 2, 3, 4] (L' := [(4, _), (3, _), (2, _), (0, _), (1, _)]) rfl ?_
          refine ih (j + 1) _ _ _ (by omega) (by omega) hw ?_
          simp only [signPt]
          rw [← hy]
          first
          | (rw [if_pos (by omega)]; omega)
          | (rw [if_neg (by omega)]; omega)
        · refine x_iinc (pc := 46) dX0_signPoints_46 rfl (by decide) (L' := [(2, _), (4, _), (3, _), (0, _), (1, _)]) rfl ?_
          refine x_iinc (pc := 49) dX0_signPoints_49 rfl (by decide) (L' := [(4, _), (2, _), (3, _), (0, _), (1, _)]) rfl ?_
          refine x_goto (pc := 52) (t := 21) dX0_signPoints_52 (by decide) ?_
          refine X.loc [0, 2, 1, 3, 4] (L' := [(4, _), (3, _), (2, _), (0, _), (1, _)]) rfl ?_
          refine ih (j + 1) _ _ _ (by omega) (by omega) hw ?_
          simp only [signPt]
          rw [← hy]
          first
          | (rw [if_pos (by omega)]; omega)
          | (rw [if_neg (by omega)]; omega)
  refine x_iconst (pc := 0) dX0_signPoints_0 ?_
  refine x_istore_n (pc := 1) dX0_signPoints_1 rfl (by decide) (L' := [(2, _), (0, _), (1, _)]) rfl ?_
  refine x_iload_n (pc := 2) dX0_signPoints_2 rfl rfl ?_
  refine x_if_ne (pc := 3) (t := 10) dX0_signPoints_3 (by decide) ⟨by omega, by omega⟩ (fun c3 => ?_) (fun c3 => ?_)
  · refine x_iconst (pc := 10) dX0_signPoints_10 ?_
    refine x_istore_n (pc := 11) dX0_signPoints_11 rfl (by decide) (L' := [(3, _), (2, _), (0, _), (1, _)]) rfl ?_
    refine x_aload_n (pc := 12) dX0_signPoints_12 rfl rfl ?_
    refine x_getr (pc := 13) (b := c + 1) fX0_9 dX0_signPoints_13 hC.1 rfl rfl ?_
    refine x_iconst (pc := 16) dX0_signPoints_16 ?_
    refine x_iald (pc := 17) dX0_signPoints_17 hC.2.1 (by omega) (by omega) (fun r17a r17b => ?_)
    rw [show (3 : Int).toNat = 3 from rfl, e3]
    refine x_ineg (pc := 18) dX0_signPoints_18 ?_
    refine x_istore (pc := 19) dX0_signPoints_19 trivial (by decide) (L' := [(4, _), (3, _), (2, _), (0, _), (1, _)]) rfl ?_
    refine X.loc [0, 1, 2, 3, 4] (L' := [(4, _), (3, _), (2, _), (0, _), (1, _)]) rfl ?_
    refine loop (2 * (tS T 3).toNat + 1) 0 _ _ _ (by omega) (by omega) ?_ rfl
    unfold wantF
    first
    | rw [if_pos (by omega)]
    | rw [if_neg (by omega)]
  · refine x_iconst (pc := 6) dX0_signPoints_6 ?_
    refine x_goto (pc := 7) (t := 11) dX0_signPoints_7 (by decide) ?_
    refine x_istore_n (pc := 11) dX0_signPoints_11 rfl (by decide) (L' := [(3, _), (2, _), (0, _), (1, _)]) rfl ?_
    refine x_aload_n (pc := 12) dX0_signPoints_12 rfl rfl ?_
    refine x_getr (pc := 13) (b := c + 1) fX0_9 dX0_signPoints_13 hC.1 rfl rfl ?_
    refine x_iconst (pc := 16) dX0_signPoints_16 ?_
    refine x_iald (pc := 17) dX0_signPoints_17 hC.2.1 (by omega) (by omega) (fun r17a r17b => ?_)
    rw [show (3 : Int).toNat = 3 from rfl, e3]
    refine x_ineg (pc := 18) dX0_signPoints_18 ?_
    refine x_istore (pc := 19) dX0_signPoints_19 trivial (by decide) (L' := [(4, _), (3, _), (2, _), (0, _), (1, _)]) rfl ?_
    refine X.loc [0, 1, 2, 3, 4] (L' := [(4, _), (3, _), (2, _), (0, _), (1, _)]) rfl ?_
    refine loop (2 * (tS T 3).toNat + 1) 0 _ _ _ (by omega) (by omega) ?_ rfl
    unfold wantF
    first
    | rw [if_pos (by omega)]
    | rw [if_neg (by omega)]
set_option maxRecDepth 100000 in
theorem sp_X0_isGoalReached {g : GG} {lay : Lay} {M : Mem} {K : KK} {c d : Nat} {T : CT} {s : RS} (hC : CtL lay c) (hT : Ct T M c) (hW : WfT T) (hs : SrL lay d) (hR : Rw s M d) (hWr : WfR s) (hb0 : g.2.1 ≤ d) (hcd : c + 7 ≤ d ∨ d + 9 ≤ c) (k : ∀ M2, Frm (d + 8) (d + 9) M M2 → K (.inl (some (vI (if 0 < tS T 4 ∧ tS T 4 ≤ allD s then 1 else 0)))) lay M2) : X g m_X0_isGoalReached 0 0 lay M 0 [(0, vR c), (1, vR d)] [] K := by
  have hn := hW.n60
  obtain ⟨hS, hP, hN, hm, hK, hL, hO, hB⟩ := id hT
  obtain ⟨wS, wP, wN, wm, wK, wL, wO, wB⟩ := id hW
  have e4 := hS 4 (by decide)
  have w4 := wS.2.2.2.2.1
  have had : -5 ≤ allD s ∧ allD s ≤ 5 := by
    have h1 := cUp_rng s (-31) 0
    have h2 := cUp_rng s 31 0
    have h3 := hWr.1
    unfold allD
    split <;> omega
  refine x_aload_n (pc := 0) dX0_isGoalReached_0 rfl rfl ?_
  refine x_getr (pc := 1) (b := c + 1) fX0_9 dX0_isGoalReached_1 hC.1 rfl rfl ?_
  refine x_iconst (pc := 4) dX0_isGoalReached_4 ?_
  refine x_iald (pc := 5) dX0_isGoalReached_5 hC.2.1 (by omega) (by omega) (fun r5a r5b => ?_)
  rw [show (4 : Int).toNat = 4 from rfl, e4]
  refine x_if_le (pc := 6) (t := 26) dX0_isGoalReached_6 (by decide) ⟨by omega, by omega⟩ (fun c6 => ?_) (fun c6 => ?_)
  · refine x_iconst (pc := 26) dX0_isGoalReached_26 ?_
    refine x_zret (pc := 27) dX0_isGoalReached_27 rfl ⟨by omega, by omega⟩ (by decide) (by decide) ?_
    first
    | exact kI (k _ hF2) (if_pos (by omega))
    | exact kI (k _ hF2) (if_neg (by omega))
    | exact kI (k _ Frm.rf) (if_neg (by omega))
  · refine x_aload_n (pc := 9) dX0_isGoalReached_9 rfl rfl ?_
    refine x_callV (pc := 10) [] rfl kX0_100 dX0_isGoalReached_10 hs.1 rfl rfl (by decide) (Nat.le_of_ble_eq_true rfl) (Nat.le_of_ble_eq_true rfl) (by decide) ?_
    refine sp_X3_allDistinct hs hR hWr hb0 (fun M2 hF2 => ?_)
    refine ⟨_, rfl, ?_⟩
    refine x_aload_n (pc := 13) dX0_isGoalReached_13 rfl rfl ?_
    refine x_getr (pc := 14) (b := c + 1) fX0_9 dX0_isGoalReached_14 hC.1 rfl rfl ?_
    refine x_iconst (pc := 17) dX0_isGoalReached_17 ?_
    refine x_iald (pc := 18) dX0_isGoalReached_18 hC.2.1 (by omega) (by omega) (fun r18a r18b => ?_)
    rw [show (4 : Int).toNat = 4 from rfl, (hT.r hF2 hcd).1 4 (by decide)]
    refine x_icmp_lt (pc := 19) (t := 26) dX0_isGoalReached_19 (by decide) ⟨by omega, by omega⟩ ⟨by omega, by omega⟩ (fun c19 => ?_) (fun c19 => ?_)
    · refine x_iconst (pc := 26) dX0_isGoalReached_26 ?_
      refine x_zret (pc := 27) dX0_isGoalReached_27 rfl ⟨by omega, by omega⟩ (by decide) (by decide) ?_
      first
      | exact kI (k _ hF2) (if_pos (by omega))
      | exact kI (k _ hF2) (if_neg (by omega))
      | exact kI (k _ Frm.rf) (if_neg (by omega))
    · refine x_iconst (pc := 22) dX0_isGoalReached_22 ?_
      refine x_goto (pc := 23) (t := 27) dX0_isGoalReached_23 (by decide) ?_
      refine x_zret (pc := 27) dX0_isGoalReached_27 rfl ⟨by omega, by omega⟩ (by decide) (by decide) ?_
      first
      | exact kI (k _ hF2) (if_pos (by omega))
      | exact kI (k _ hF2) (if_neg (by omega))
      | exact kI (k _ Frm.rf) (if_neg (by omega))
set_option maxRecDepth 100000 in
theorem sp_X0_isRight {g : GG} {lay : Lay} {M : Mem} {K : KK} {c d : Nat} {T : CT} {s : RS} {pl i : Nat} (hC : CtL lay c) (hT : Ct T M c) (hW : WfT T) (hs : SrL lay d) (hR : Rw s M d) (hWr : WfR s) (hb0 : g.2.1 ≤ d) (hcd : c + 7 ≤ d ∨ d + 9 ≤ c) (hpl : pl < 2) (hi : i < tK T pl) (k : ∀ M2, Frm (d + 8) (d + 9) M M2 → K (.inl (some (vI (if rightP s (tL T pl i) then 1 else 0)))) lay M2) : X g m_X0_isRight 0 0 lay M 0 [(0, vR c), (1, vI pl), (2, vI i), (3, vR d)] [] K := by
  have hn := hW.n60
  obtain ⟨hS, hP, hN, hm, hK, hL, hO, hB⟩ := id hT
  obtain ⟨wS, wP, wN, wm, wK, wL, wO, wB⟩ := id hW
  have wk := wK pl
  have wl := wL pl i hpl hi
  unfold WfL at wl
  have hn0 := hR.1
  have h5 := hWr.1
  have hc1 := cUp_rng s (tL T pl i 0) 0
  have hc2 := cUp_rng s (tL T pl i 1) 0
  refine x_aload_n (pc := 0) dX0_isRight_0 rfl rfl ?_
  refine x_geti (pc := 1) fX0_126 dX0_isRight_1 hs.1 rfl (fun r1a r1b => ?_)
  refine x_if_ne (pc := 4) (t := 9) dX0_isRight_4 (by decide) ⟨by omega, by omega⟩ (fun c4 => ?_) (fun c4 => ?_)
  · refine x_aload_n (pc := 9) dX0_isRight_9 rfl rfl ?_
    refine x_iload_n (pc := 10) dX0_isRight_10 rfl rfl ?_
    refine x_iload_n (pc := 11) dX0_isRight_11 rfl rfl ?_
    refine x_iconst (pc := 12) dX0_isRight_12 ?_
    refine x_callV (pc := 13) [_, _, _] rfl kX0_112 dX0_isRight_13 hC.1 rfl rfl (by decide) (Nat.le_of_ble_eq_true rfl) (Nat.le_of_ble_eq_true rfl) (by decide) ?_
    refine sp_X0_claimField (f := 2) hC hT hW hpl hi (by decide) ?_
    refine ⟨_, rfl, ?_⟩
    refine x_istore (pc := 16) dX0_isRight_16 trivial (by decide) (L' := [(4, _), (0, _), (1, _), (2, _), (3, _)]) rfl ?_
    refine x_aload_n (pc := 18) dX0_isRight_18 rfl rfl ?_
    refine x_iload_n (pc := 19) dX0_isRight_19 rfl rfl ?_
    refine x_iload_n (pc := 20) dX0_isRight_20 rfl rfl ?_
    refine x_iconst (pc := 21) dX0_isRight_21 ?_
    refine x_callV (pc := 22) [_, _, _] rfl kX0_112 dX0_isRight_22 hC.1 rfl rfl (by decide) (Nat.le_of_ble_eq_true rfl) (Nat.le_of_ble_eq_true rfl) (by decide) ?_
    refine sp_X0_claimField (f := 0) hC hT hW hpl hi (by decide) ?_
    refine ⟨_, rfl, ?_⟩
    refine x_istore (pc := 25) dX0_isRight_25 trivial (by decide) (L' := [(5, _), (4, _), (0, _), (1, _), (2, _), (3, _)]) rfl ?_
    refine x_aload_n (pc := 27) dX0_isRight_27 rfl rfl ?_
    refine x_iload_n (pc := 28) dX0_isRight_28 rfl rfl ?_
    refine x_iload_n (pc := 29) dX0_isRight_29 rfl rfl ?_
    refine x_iconst (pc := 30) dX0_isRight_30 ?_
    refine x_callV (pc := 31) [_, _, _] rfl kX0_112 dX0_isRight_31 hC.1 rfl rfl (by decide) (Nat.le_of_ble_eq_true rfl) (Nat.le_of_ble_eq_true rfl) (by decide) ?_
    refine sp_X0_claimField (f := 1) hC hT hW hpl hi (by decide) ?_
    refine ⟨_, rfl, ?_⟩
    refine x_istore (pc := 34) dX0_isRight_34 trivial (by decide) (L' := [(6, _), (5, _), (4, _), (0, _), (1, _), (2, _), (3, _)]) rfl ?_
    refine x_aload_n (pc := 36) dX0_isRight_36 rfl rfl ?_
    refine x_iload (pc := 37) dX0_isRight_37 rfl ?_
    refine x_iconst (pc := 39) dX0_isRight_39 ?_
    refine x_callV (pc := 40) [_, _] rfl kX0_129 dX0_isRight_40 hs.1 rfl rfl (by decide) (Nat.le_of_ble_eq_true rfl) (Nat.le_of_ble_eq_true rfl) (by decide) ?_
    refine sp_X3_changesAbove (p := 0) hs hR hWr hb0 ⟨by omega, by omega⟩ (by decide) (fun M1 hF1 => ?_)
    refine ⟨_, rfl, ?_⟩
    refine x_aload_n (pc := 43) dX0_isRight_43 rfl rfl ?_
    refine x_iload (pc := 44) dX0_isRight_44 rfl ?_
    refine x_iconst (pc := 46) dX0_isRight_46 ?_
    refine x_callV (pc := 47) [_, _] rfl kX0_129 dX0_isRight_47 hs.1 rfl rfl (by decide) (Nat.le_of_ble_eq_true rfl) (Nat.le_of_ble_eq_true rfl) (by decide) ?_
    refine sp_X3_changesAbove (p := 0) hs (hR.w h5 hF1 (by omega)) hWr hb0 ⟨by omega, by omega⟩ (by decide) (fun M2 hF2 => ?_)
    refine ⟨_, rfl, ?_⟩
    refine x_isub (pc := 50) dX0_isRight_50 ?_
    refine x_istore (pc := 51) dX0_isRight_51 trivial (by decide) (L' := [(7, _), (6, _), (5, _), (4, _), (0, _), (1, _), (2, _), (3, _)]) rfl ?_
    refine x_iload (pc := 53) dX0_isRight_53 rfl ?_
    refine x_iload (pc := 55) dX0_isRight_55 rfl ?_
    refine x_icmp_eq (pc := 57) (t := 78) dX0_isRight_57 (by decide) ⟨by omega, by omega⟩ ⟨by omega, by omega⟩ (fun c57 => ?_) (fun c57 => ?_)
    · refine x_iconst (pc := 78) dX0_isRight_78 ?_
      refine x_goto (pc := 79) (t := 83) dX0_isRight_79 (by decide) ?_
      refine x_zret (pc := 83) dX0_isRight_83 rfl ⟨by omega, by omega⟩ (by decide) (by decide) ?_
      first
      | exact kI (k _ (hF1.trans hF2)) (if_pos ⟨by omega, by omega⟩)
      | exact kI (k _ (hF1.trans hF2)) (if_neg (fun z => by omega))
      | exact kI (k _ Frm.rf) (if_neg (fun z => by omega))
    · refine x_iload (pc := 60) dX0_isRight_60 rfl ?_
      refine x_iload (pc := 62) dX0_isRight_62 rfl ?_
      refine x_icmp_le (pc := 64) (t := 82) dX0_isRight_64 (by decide) ⟨by omega, by omega⟩ ⟨by omega, by omega⟩ (fun c64 => ?_) (fun c64 => ?_)
      · refine x_iconst (pc := 82) dX0_isRight_82 ?_
        refine x_zret (pc := 83) dX0_isRight_83 rfl ⟨by omega, by omega⟩ (by decide) (by decide) ?_
        first
        | exact kI (k _ (hF1.trans hF2)) (if_pos ⟨by omega, by omega⟩)
        | exact kI (k _ (hF1.trans hF2)) (if_neg (fun z => by omega))
        | exact kI (k _ Frm.rf) (if_neg (fun z => by omega))
      · refine x_aload_n (pc := 67) dX0_isRight_67 rfl rfl ?_
        refine x_iload_n (pc := 68) dX0_isRight_68 rfl rfl ?_
        refine x_iload_n (pc := 69) dX0_isRight_69 rfl rfl ?_
        refine x_iconst (pc := 70) dX0_isRight_70 ?_
        refine x_callV (pc := 71) [_, _, _] rfl kX0_112 dX0_isRight_71 hC.1 rfl rfl (by decide) (Nat.le_of_ble_eq_true rfl) (Nat.le_of_ble_eq_true rfl) (by decide) ?_
        refine sp_X0_claimField (f := 3) hC (hT.r (hF1.trans hF2) hcd) hW hpl hi (by decide) ?_
        refine ⟨_, rfl, ?_⟩
        refine x_iconst (pc := 74) dX0_isRight_74 ?_
        refine x_icmp_ne (pc := 75) (t := 82) dX0_isRight_75 (by decide) ⟨by omega, by omega⟩ ⟨by omega, by omega⟩ (fun c75 => ?_) (fun c75 => ?_)
        · refine x_iconst (pc := 82) dX0_isRight_82 ?_
          refine x_zret (pc := 83) dX0_isRight_83 rfl ⟨by omega, by omega⟩ (by decide) (by decide) ?_
          first
          | exact kI (k _ (hF1.trans hF2)) (if_pos ⟨by omega, by omega⟩)
          | exact kI (k _ (hF1.trans hF2)) (if_neg (fun z => by omega))
          | exact kI (k _ Frm.rf) (if_neg (fun z => by omega))
        · refine x_iconst (pc := 78) dX0_isRight_78 ?_
          refine x_goto (pc := 79) (t := 83) dX0_isRight_79 (by decide) ?_
          refine x_zret (pc := 83) dX0_isRight_83 rfl ⟨by omega, by omega⟩ (by decide) (by decide) ?_
          first
          | exact kI (k _ (hF1.trans hF2)) (if_pos ⟨by omega, by omega⟩)
          | exact kI (k _ (hF1.trans hF2)) (if_neg (fun z => by omega))
          | exact kI (k _ Frm.rf) (if_neg (fun z => by omega))
  · refine x_iconst (pc := 7) dX0_isRight_7 ?_
    refine x_zret (pc := 8) dX0_isRight_8 rfl ⟨by omega, by omega⟩ (by decide) (by decide) ?_
    first
    | exact kI (k _ (hF1.trans hF2)) (if_pos ⟨by omega, by omega⟩)
    | exact kI (k _ (hF1.trans hF2)) (if_neg (fun z => by omega))
    | exact kI (k _ Frm.rf) (if_neg (fun z => by omega))
set_option maxRecDepth 100000 in
theorem sp_X0_rightClaims {g : GG} {lay : Lay} {M : Mem} {K : KK} {c d : Nat} {T : CT} {s : RS} {pl : Nat} (hC : CtL lay c) (hT : Ct T M c) (hW : WfT T) (hs : SrL lay d) (hR : Rw s M d) (hWr : WfR s) (hb0 : g.2.1 ≤ d) (hcd : c + 7 ≤ d ∨ d + 9 ≤ c) (hpl : pl < 2) (k : ∀ M2, Frm (d + 8) (d + 9) M M2 → K (.inl (some (vI (rightN s (tL T pl) (tK T pl))))) lay M2) : X g m_X0_rightClaims 0 0 lay M 0 [(0, vR c), (1, vI pl), (2, vR d)] [] K := by
  have hn := hW.n60
  obtain ⟨hS, hP, hN, hm, hK, hL, hO, hB⟩ := id hT
  obtain ⟨wS, wP, wN, wm, wK, wL, wO, wB⟩ := id hW
  have e0 := hK pl hpl
  have w0 := wK pl
  have h5 := hWr.1
  have hr := rightN_rng s (tL T pl)
  have loop : ∀ (n j : Nat) (y acc : Int) (M1 : Mem), j + n = tK T pl → y = j → Frm (d + 8) (d + 9) M M1 → acc = rightN s (tL T pl) j → X g m_X0_rightClaims 0 0 lay M1 5 [(4, vI y), (3, vI acc), (0, vR c), (1, vI pl), (2, vR d)] [] K := by
    intro n
    induction n with
    | zero =>
      intro j y acc M1 hj hy hF ha
      have e1 : M1 (c + 6) pl = tK T pl := by rw [hF _ _ (by omega)]; exact e0
      refine x_iload (pc := 5) dX0_rightClaims_5 rfl ?_
      refine x_aload_n (pc := 7) dX0_rightClaims_7 rfl rfl ?_
      refine x_iload_n (pc := 8) dX0_rightClaims_8 rfl rfl ?_
      refine x_callV (pc := 9) [_] rfl kX0_109 dX0_rightClaims_9 hC.1 rfl rfl (by decide) (Nat.le_of_ble_eq_true rfl) (Nat.le_of_ble_eq_true rfl) (by decide) ?_
      refine sp_X0_claimsOf hC (hT.r hF hcd) hW hpl ?_
      refine ⟨_, rfl, ?_⟩
      refine x_icmp_ge (pc := 12) (t := 35) dX0_rightClaims_12 (by decide) ⟨by omega, by omega⟩ ⟨by omega, by omega⟩ (fun c12 => ?_) (fun c12 => ?_)
      · refine x_iload_n (pc := 35) dX0_rightClaims_35 rfl rfl ?_
        refine x_iret (pc := 36) dX0_rightClaims_36 rfl (by decide) (by decide) ?_
        refine kI (k _ hF) ?_
        rw [ha, show j = tK T pl by omega]
      · exfalso; omega
    | succ n ih =>
      intro j y acc M1 hj hy hF ha
      have e1 : M1 (c + 6) pl = tK T pl := by rw [hF _ _ (by omega)]; exact e0
      have hrj := hr j 
      have wl := wL pl j hpl (by omega)
      unfold WfL at wl
      subst hy
      refine x_iload (pc := 5) dX0_rightClaims_5 rfl ?_
      refine x_aload_n (pc := 7) dX0_rightClaims_7 rfl rfl ?_
      refine x_iload_n (pc := 8) dX0_rightClaims_8 rfl rfl ?_
      refine x_callV (pc := 9) [_] rfl kX0_109 dX0_rightClaims_9 hC.1 rfl rfl (by decide) (Nat.le_of_ble_eq_true rfl) (Nat.le_of_ble_eq_true rfl) (by decide) ?_
      refine sp_X0_claimsOf hC (hT.r hF hcd) hW hpl ?_
      refine ⟨_, rfl, ?_⟩
      refine x_icmp_ge (pc := 12) (t := 35) dX0_rightClaims_12 (by decide) ⟨by omega, by omega⟩ ⟨by omega, by omega⟩ (fun c12 => ?_) (fun c12 => ?_)
      · exfalso; omega
      · refine x_aload_n (pc := 15) dX0_rightClaims_15 rfl rfl ?_
        refine x_iload_n (pc := 16) dX0_rightClaims_16 rfl rfl ?_
        refine x_iload (pc := 17) dX0_rightClaims_17 rfl ?_
        refine x_aload_n (pc := 19) dX0_rightClaims_19 rfl rfl ?_
        refine x_callV (pc := 20) [_, _, _] rfl kX0_132 dX0_rightClaims_20 hC.1 rfl rfl (by decide) (Nat.le_of_ble_eq_true rfl) (Nat.le_of_ble_eq_true rfl) (by decide) ?_
        refine sp_X0_isRight hC (hT.r hF hcd) hW hs (hR.w h5 hF (by omega)) hWr hb0 hcd hpl (by omega) (fun M2 hF2 => ?_)
        have hz : 0 ≤ (if rightP s (tL T pl j) then (1 : Int) else 0) ∧ (if rightP s (tL T pl j) then (1 : Int) else 0) ≤ 1 := by split <;> decide
        refine ⟨_, rfl, ?_⟩
        refine x_if_eq (pc := 23) (t := 29) dX0_rightClaims_23 (by decide) ⟨by omega, by omega⟩ (fun c23 => ?_) (fun c23 => ?_)
        · refine x_iinc (pc := 29) dX0_rightClaims_29 rfl (by decide) (L' := [(4, _), (3, _), (0, _), (1, _), (2, _)]) rfl ?_
          refine x_goto (pc := 32) (t := 5) dX0_rightClaims_32 (by decide) ?_
          refine X.loc [0, 1, 2, 3, 4] (L' := [(4, _), (3, _), (0, _), (1, _), (2, _)]) rfl ?_
          refine ih (j + 1) _ _ _ (by omega) (by omega) (hF.trans hF2) ?_
          simp only [rightN]
          grind
        · refine x_iinc (pc := 26) dX0_rightClaims_26 rfl (by decide) (L' := [(3, _), (4, _), (0, _), (1, _), (2, _)]) rfl ?_
          refine x_iinc (pc := 29) dX0_rightClaims_29 rfl (by decide) (L' := [(4, _), (3, _), (0, _), (1, _), (2, _)]) rfl ?_
          refine x_goto (pc := 32) (t := 5) dX0_rightClaims_32 (by decide) ?_
          refine X.loc [0, 1, 2, 3, 4] (L' := [(4, _), (3, _), (0, _), (1, _), (2, _)]) rfl ?_
          refine ih (j + 1) _ _ _ (by omega) (by omega) (hF.trans hF2) ?_
          simp only [rightN]
          grind
  refine x_iconst (pc := 0) dX0_rightClaims_0 ?_
  refine x_istore_n (pc := 1) dX0_rightClaims_1 rfl (by decide) (L' := [(3, _), (0, _), (1, _), (2, _)]) rfl ?_
  refine x_iconst (pc := 2) dX0_rightClaims_2 ?_
  refine x_istore (pc := 3) dX0_rightClaims_3 trivial (by decide) (L' := [(4, _), (3, _), (0, _), (1, _), (2, _)]) rfl ?_
  refine X.loc [0, 1, 2, 3, 4] (L' := [(4, _), (3, _), (0, _), (1, _), (2, _)]) rfl ?_
  exact loop (tK T pl) 0 0 0 _ (by omega) rfl Frm.rf rfl
set_option maxRecDepth 100000 in
theorem sp_X0_claimPoints {g : GG} {lay : Lay} {M : Mem} {K : KK} {c d : Nat} {T : CT} {s : RS} {pl : Nat} (hC : CtL lay c) (hT : Ct T M c) (hW : WfT T) (hs : SrL lay d) (hR : Rw s M d) (hWr : WfR s) (hb0 : g.2.1 ≤ d) (hcd : c + 7 ≤ d ∨ d + 9 ≤ c) (hpl : pl < 2) (k : ∀ M2, Frm (d + 8) (d + 9) M M2 → K (.inl (some (vI (claimPt s (tL T pl) (tK T pl))))) lay M2) : X g m_X0_claimPoints 0 0 lay M 0 [(0, vR c), (1, vI pl), (2, vR d)] [] K := by
  have hn := hW.n60
  obtain ⟨hS, hP, hN, hm, hK, hL, hO, hB⟩ := id hT
  obtain ⟨wS, wP, wN, wm, wK, wL, wO, wB⟩ := id hW
  have e0 := hK pl hpl
  have w0 := wK pl
  have h5 := hWr.1
  have hr := claimPt_rng s (tL T pl) (tK T pl) (fun i hi => by have := wL pl i hpl hi; unfold WfL at this; omega)
  have loop : ∀ (n j : Nat) (y acc : Int) (M1 : Mem), j + n = tK T pl → y = j → Frm (d + 8) (d + 9) M M1 → acc = claimPt s (tL T pl) j → X g m_X0_claimPoints 0 0 lay M1 5 [(4, vI y), (3, vI acc), (0, vR c), (1, vI pl), (2, vR d)] [] K := by
    intro n
    induction n with
    | zero =>
      intro j y acc M1 hj hy hF ha
      have e1 : M1 (c + 6) pl = tK T pl := by rw [hF _ _ (by omega)]; exact e0
      refine x_iload (pc := 5) dX0_claimPoints_5 rfl ?_
      refine x_aload_n (pc := 7) dX0_claimPoints_7 rfl rfl ?_
      refine x_iload_n (pc := 8) dX0_claimPoints_8 rfl rfl ?_
      refine x_callV (pc := 9) [_] rfl kX0_109 dX0_claimPoints_9 hC.1 rfl rfl (by decide) (Nat.le_of_ble_eq_true rfl) (Nat.le_of_ble_eq_true rfl) (by decide) ?_
      refine sp_X0_claimsOf hC (hT.r hF hcd) hW hpl ?_
      refine ⟨_, rfl, ?_⟩
      refine x_icmp_ge (pc := 12) (t := 53) dX0_claimPoints_12 (by decide) ⟨by omega, by omega⟩ ⟨by omega, by omega⟩ (fun c12 => ?_) (fun c12 => ?_)
      · refine x_iload_n (pc := 53) dX0_claimPoints_53 rfl rfl ?_
        refine x_iret (pc := 54) dX0_claimPoints_54 rfl (by decide) (by decide) ?_
        refine kI (k _ hF) ?_
        rw [ha, show j = tK T pl by omega]
      · exfalso; omega
    | succ n ih =>
      intro j y acc M1 hj hy hF ha
      have e1 : M1 (c + 6) pl = tK T pl := by rw [hF _ _ (by omega)]; exact e0
      have hrj := hr j (by omega)
      have wl := wL pl j hpl (by omega)
      unfold WfL at wl
      subst hy
      refine x_iload (pc := 5) dX0_claimPoints_5 rfl ?_
      refine x_aload_n (pc := 7) dX0_claimPoints_7 rfl rfl ?_
      refine x_iload_n (pc := 8) dX0_claimPoints_8 rfl rfl ?_
      refine x_callV (pc := 9) [_] rfl kX0_109 dX0_claimPoints_9 hC.1 rfl rfl (by decide) (Nat.le_of_ble_eq_true rfl) (Nat.le_of_ble_eq_true rfl) (by decide) ?_
      refine sp_X0_claimsOf hC (hT.r hF hcd) hW hpl ?_
      refine ⟨_, rfl, ?_⟩
      refine x_icmp_ge (pc := 12) (t := 53) dX0_claimPoints_12 (by decide) ⟨by omega, by omega⟩ ⟨by omega, by omega⟩ (fun c12 => ?_) (fun c12 => ?_)
      · exfalso; omega
      · refine x_aload_n (pc := 15) dX0_claimPoints_15 rfl rfl ?_
        refine x_iload_n (pc := 16) dX0_claimPoints_16 rfl rfl ?_
        refine x_iload (pc := 17) dX0_claimPoints_17 rfl ?_
        refine x_iconst (pc := 19) dX0_claimPoints_19 ?_
        refine x_callV (pc := 20) [_, _, _] rfl kX0_112 dX0_claimPoints_20 hC.1 rfl rfl (by decide) (Nat.le_of_ble_eq_true rfl) (Nat.le_of_ble_eq_true rfl) (by decide) ?_
        refine sp_X0_claimField (f := 4) hC (hT.r hF hcd) hW hpl (by omega) (by decide) ?_
        refine ⟨_, rfl, ?_⟩
        refine x_istore (pc := 23) dX0_claimPoints_23 trivial (by decide) (L' := [(5, _), (4, _), (3, _), (0, _), (1, _), (2, _)]) rfl ?_
        refine x_iload_n (pc := 25) dX0_claimPoints_25 rfl rfl ?_
        refine x_aload_n (pc := 26) dX0_claimPoints_26 rfl rfl ?_
        refine x_iload_n (pc := 27) dX0_claimPoints_27 rfl rfl ?_
        refine x_iload (pc := 28) dX0_claimPoints_28 rfl ?_
        refine x_aload_n (pc := 30) dX0_claimPoints_30 rfl rfl ?_
        refine x_callV (pc := 31) [_, _, _] rfl kX0_132 dX0_claimPoints_31 hC.1 rfl rfl (by decide) (Nat.le_of_ble_eq_true rfl) (Nat.le_of_ble_eq_true rfl) (by decide) ?_
        refine sp_X0_isRight hC (hT.r hF hcd) hW hs (hR.w h5 hF (by omega)) hWr hb0 hcd hpl (by omega) (fun M2 hF2 => ?_)
        have hz : 0 ≤ (if rightP s (tL T pl j) then (1 : Int) else 0) ∧ (if rightP s (tL T pl j) then (1 : Int) else 0) ≤ 1 := by split <;> decide
        refine ⟨_, rfl, ?_⟩
        refine x_if_eq (pc := 34) (t := 42) dX0_claimPoints_34 (by decide) ⟨by omega, by omega⟩ (fun c34 => ?_) (fun c34 => ?_)
        · refine x_iload (pc := 42) dX0_claimPoints_42 rfl ?_
          refine x_ineg (pc := 44) dX0_claimPoints_44 ?_
          refine x_iadd (pc := 45) dX0_claimPoints_45 ?_
          refine x_istore_n (pc := 46) dX0_claimPoints_46 rfl (by decide) (L' := [(3, _), (5, _), (4, _), (0, _), (1, _), (2, _)]) rfl ?_
          refine x_iinc (pc := 47) dX0_claimPoints_47 rfl (by decide) (L' := [(4, _), (3, _), (5, _), (0, _), (1, _), (2, _)]) rfl ?_
          refine x_goto (pc := 50) (t := 5) dX0_claimPoints_50 (by decide) ?_
          refine X.loc [0, 1, 3, 4, 5] (L' := [(4, _), (3, _), (0, _), (1, _), (2, _)]) rfl ?_
          refine ih (j + 1) _ _ _ (by omega) (by omega) (hF.trans hF2) ?_
          simp only [claimPt]
          grind
        · refine x_iload (pc := 37) dX0_claimPoints_37 rfl ?_
          refine x_goto (pc := 39) (t := 45) dX0_claimPoints_39 (by decide) ?_
          refine x_iadd (pc := 45) dX0_claimPoints_45 ?_
          refine x_istore_n (pc := 46) dX0_claimPoints_46 rfl (by decide) (L' := [(3, _), (5, _), (4, _), (0, _), (1, _), (2, _)]) rfl ?_
          refine x_iinc (pc := 47) dX0_claimPoints_47 rfl (by decide) (L' := [(4, _), (3, _), (5, _), (0, _), (1, _), (2, _)]) rfl ?_
          refine x_goto (pc := 50) (t := 5) dX0_claimPoints_50 (by decide) ?_
          refine X.loc [0, 1, 3, 4, 5] (L' := [(4, _), (3, _), (0, _), (1, _), (2, _)]) rfl ?_
          refine ih (j + 1) _ _ _ (by omega) (by omega) (hF.trans hF2) ?_
          simp only [claimPt]
          grind
  refine x_iconst (pc := 0) dX0_claimPoints_0 ?_
  refine x_istore_n (pc := 1) dX0_claimPoints_1 rfl (by decide) (L' := [(3, _), (0, _), (1, _), (2, _)]) rfl ?_
  refine x_iconst (pc := 2) dX0_claimPoints_2 ?_
  refine x_istore (pc := 3) dX0_claimPoints_3 trivial (by decide) (L' := [(4, _), (3, _), (0, _), (1, _), (2, _)]) rfl ?_
  refine X.loc [0, 1, 2, 3, 4] (L' := [(4, _), (3, _), (0, _), (1, _), (2, _)]) rfl ?_
  exact loop (tK T pl) 0 0 0 _ (by omega) rfl Frm.rf rfl
set_option maxRecDepth 100000 in
theorem sp_X0_score {g : GG} {lay : Lay} {M : Mem} {K : KK} {c d : Nat} {T : CT} {s : RS} {pl : Nat} (hC : CtL lay c) (hT : Ct T M c) (hW : WfT T) (hs : SrL lay d) (hR : Rw s M d) (hWr : WfR s) (hb0 : g.2.1 ≤ d) (hcd : c + 7 ≤ d ∨ d + 9 ≤ c) (hpl : pl < 2) (k : ∀ M2, Frm (d + 8) (d + 9) M M2 → K (.inl (some (vI (scoreF T s pl)))) lay M2) : X g m_X0_score 0 0 lay M 0 [(0, vR c), (1, vI pl), (2, vR d)] [] K := by
  refine x_aload_n (pc := 0) dX0_score_0 rfl rfl ?_
  refine x_iload_n (pc := 1) dX0_score_1 rfl rfl ?_
  refine x_callV (pc := 2) [_] rfl kX0_146 dX0_score_2 hC.1 rfl rfl (by decide) (Nat.le_of_ble_eq_true rfl) (Nat.le_of_ble_eq_true rfl) (by decide) ?_
  refine sp_X0_signPoints hC hT hW hpl ?_
  refine ⟨_, rfl, ?_⟩
  refine x_aload_n (pc := 5) dX0_score_5 rfl rfl ?_
  refine x_iload_n (pc := 6) dX0_score_6 rfl rfl ?_
  refine x_aload_n (pc := 7) dX0_score_7 rfl rfl ?_
  refine x_callV (pc := 8) [_, _] rfl kX0_149 dX0_score_8 hC.1 rfl rfl (by decide) (Nat.le_of_ble_eq_true rfl) (Nat.le_of_ble_eq_true rfl) (by decide) ?_
  refine sp_X0_claimPoints hC hT hW hs hR hWr hb0 hcd hpl (fun M2 hF2 => ?_)
  refine ⟨_, rfl, ?_⟩
  refine x_iadd (pc := 11) dX0_score_11 ?_
  refine x_aload_n (pc := 12) dX0_score_12 rfl rfl ?_
  refine x_iload_n (pc := 13) dX0_score_13 rfl rfl ?_
  refine x_callV (pc := 14) [_] rfl kX0_153 dX0_score_14 hC.1 rfl rfl (by decide) (Nat.le_of_ble_eq_true rfl) (Nat.le_of_ble_eq_true rfl) (by decide) ?_
  refine sp_X0_bonusPoints hC (hT.r hF2 hcd) hW ⟨by omega, by omega⟩ ?_
  refine ⟨_, rfl, ?_⟩
  refine x_iadd (pc := 17) dX0_score_17 ?_
  refine x_iret (pc := 18) dX0_score_18 rfl (by decide) (by decide) ?_
  exact k _ hF2
