/-! Specs of RootDuel, second part: acts and queries. -/
def cntRoots (T : CT) : Int := allD (buildF (tP T))
/-- a throw's answer -/
theorem kT {K : KK} {E : String} {lay : Lay} {M : Mem} {b : Nat} (k : ∀ n, lay.2 ≤ n → K (.inr E) (lay.1, n) M) : ∀ n, lay.2 ≤ n → K (.inr E) (lay.1, n) M := k
def degF (P : Nat → Int) : Nat → Int
  | 0 => -1
  | n + 1 => if P n ≠ 0 then n else degF P n
def rWhy (T : CT) (x p : Int) : Res := if ¬ hasP T p then eIO else if ¬ layab x then eIA else oI (whyLayF T x p.toNat)
def rValue (T : CT) (x : Int) : Res := if ¬ placeP x then eIA else .inl (some (vJ (valF (tP T) x 5)))
def rRoots (T : CT) (a b : Int) : Res := if ¬ intvP a b then eIA else oI (dBet (buildF (tP T)) a b)
def winF (T : CT) : Int := if tO T = 0 then -1 else if scoreF T (buildF (tP T)) 0 = scoreF T (buildF (tP T)) 1 then 2 else if scoreF T (buildF (tP T)) 1 < scoreF T (buildF (tP T)) 0 then 0 else 1
theorem scoreF_rng {T : CT} (hW : WfT T) (s : RS) {pl : Nat} (hpl : pl < 2) : -200 ≤ scoreF T s pl ∧ scoreF T s pl ≤ 200 := by
  obtain ⟨wS, wP, wN, wm, wK, wL, wO, wB⟩ := hW
  have w3 := wS.2.2.2.1
  have w5 := wS.2.2.2.2.2.1
  have wk := wK pl
  have h1 := signPt_rng (tP T) (wantF pl) (-(tS T 3)) (2 * (tS T 3).toNat + 1)
  have h2 := claimPt_rng s (tL T pl) (tK T pl) (fun i hi => by have := wL pl i hpl hi; unfold WfL at this; omega) (tK T pl) (Nat.le_refl _)
  have h3 : 0 ≤ bonusF T pl ∧ bonusF T pl ≤ 20 := by unfold bonusF; split <;> omega
  unfold scoreF signF
  omega

set_option maxRecDepth 100000 in
theorem sp_X4_makeClaim {g : GG} {lay : Lay} {M : Mem} {K : KK} {b : Nat} {sv : Nat → Option Nat} {T : CT} {a y1 r l s : Int} {A : Nat → Int} {u : Int} (gB : GoodB) (hd : DuL lay b sv) (hb0 : g.2.1 ≤ b) (hT : Ct T M (b + 1)) (hW : WfT T) (hA : Dh A u M b) (hu : 0 ≤ u ∧ u ≤ 12) (hO : WfO T) (hi : intvP a y1) (hr : 0 ≤ r ∧ r ≤ 4) (hl : 0 ≤ l ∧ l ≤ 1) (hs : 1 ≤ s ∧ s ≤ 9) (k : ∀ M2, Act b M M2 → Ct (actClaim T a y1 r l s) M2 (b + 1) → Dh (accF A (whyClaimF T a y1 s)) (undF u (whyClaimF T a y1 s)) M2 b → K (.inl (some (vI (whyClaimF T a y1 s)))) lay M2) : X g m_X4_makeClaim 0 0 lay M 0 [(0, vR b), (1, vI a), (2, vI y1), (3, vI r), (4, vI l), (5, vI s)] [] K := by
  have hrg := whyClaim_rng T a y1 s
  have wk := hW.2.2.2.2.1 (tN T % 2)
  have why0 : whyClaimF T a y1 s = 0 → tK T (tN T % 2) < 4 := by
    intro z
    unfold whyClaimF at z
    split at z
    · omega
    · split at z
      · omega
      · split at z <;> omega
  unfold actClaim at k
  refine x_aload_n (pc := 0) dX4_makeClaim_0 rfl rfl ?_
  refine x_getr (pc := 1) (b := b + 1) fX4_10 dX4_makeClaim_1 hd.1 rfl rfl ?_
  refine x_iload_n (pc := 4) dX4_makeClaim_4 rfl rfl ?_
  refine x_iload_n (pc := 5) dX4_makeClaim_5 rfl rfl ?_
  refine x_iload (pc := 6) dX4_makeClaim_6 rfl ?_
  refine x_callV (pc := 8) [_, _, _] rfl kX4_285 dX4_makeClaim_8 hd.2.1.1 rfl rfl (by decide) (Nat.le_of_ble_eq_true rfl) (Nat.le_of_ble_eq_true rfl) (by decide) ?_
  refine sp_X0_refusalOfClaim hd.2.1 hT hW (by omega) hs ?_
  generalize hwl : whyClaimF T a y1 s = why at *
  refine ⟨_, rfl, ?_⟩
  refine x_istore (pc := 11) dX4_makeClaim_11 trivial (by decide) (L' := [(6, _), (0, _), (1, _), (2, _), (3, _), (4, _), (5, _)]) rfl ?_
  refine x_iload (pc := 13) dX4_makeClaim_13 rfl ?_
  refine x_if_ne (pc := 15) (t := 32) dX4_makeClaim_15 (by decide) ⟨by omega, by omega⟩ (fun c15 => ?_) (fun c15 => ?_)
  · refine x_aload_n (pc := 32) dX4_makeClaim_32 rfl rfl ?_
    refine x_iload (pc := 33) dX4_makeClaim_33 rfl ?_
    refine x_callV (pc := 35) [_] rfl kX4_292 dX4_makeClaim_35 hd.1 rfl rfl (by decide) (Nat.le_of_ble_eq_true rfl) (Nat.le_of_ble_eq_true rfl) (by decide) ?_
    first
    | (refine sp_X4_settle (A := A) (u := u) hd hb0 ⟨fun i hi => by rw [hF2 _ _ (by omega)]; exact hA.1 i hi, by rw [hF2 _ _ (by omega)]; exact hA.2⟩ hu hrg (fun M3 hF3 hA3 => ?_)
       skip)
    | refine sp_X4_settle (A := A) (u := u) hd hb0 hA hu hrg (fun M3 hF3 hA3 => ?_)
    refine ⟨_, rfl, ?_⟩
    refine x_iret (pc := 38) dX4_makeClaim_38 rfl (by decide) (by decide) ?_
    first
    | (rw [if_pos (by omega)] at k
       refine k _ (fun a j q1 q2 q3 => ?_) (hT2.gen (fun a j q1 q2 => hF3 _ _ (by omega) (by omega))) hA3
       rw [hF3 _ _ (by omega) q3]
       exact hF2 _ _ (by omega))
    | (rw [if_neg (by omega)] at k
       refine k _ (fun a j q1 q2 q3 => ?_) (hT.gen (fun a j q1 q2 => hF3 _ _ (by omega) (by omega))) hA3
       rw [hF3 _ _ (by omega) q3])
  · refine x_aload_n (pc := 18) dX4_makeClaim_18 rfl rfl ?_
    refine x_getr (pc := 19) (b := b + 1) fX4_10 dX4_makeClaim_19 hd.1 rfl rfl ?_
    refine x_iload_n (pc := 22) dX4_makeClaim_22 rfl rfl ?_
    refine x_iload_n (pc := 23) dX4_makeClaim_23 rfl rfl ?_
    refine x_iload_n (pc := 24) dX4_makeClaim_24 rfl rfl ?_
    refine x_iload (pc := 25) dX4_makeClaim_25 rfl ?_
    refine x_iload (pc := 27) dX4_makeClaim_27 rfl ?_
    refine x_callV (pc := 29) [_, _, _, _, _] rfl kX4_288 dX4_makeClaim_29 hd.2.1.1 rfl rfl (by decide) (Nat.le_of_ble_eq_true rfl) (Nat.le_of_ble_eq_true rfl) (by decide) ?_
    refine sp_X0_addClaim hd.2.1 hT hW (by omega) (why0 (by omega)) (by unfold WfL; simp only [mkL]; omega) (fun M2 hF2 hT2 => ?_)
    refine ⟨_, rfl, ?_⟩
    refine x_aload_n (pc := 32) dX4_makeClaim_32 rfl rfl ?_
    refine x_iload (pc := 33) dX4_makeClaim_33 rfl ?_
    refine x_callV (pc := 35) [_] rfl kX4_292 dX4_makeClaim_35 hd.1 rfl rfl (by decide) (Nat.le_of_ble_eq_true rfl) (Nat.le_of_ble_eq_true rfl) (by decide) ?_
    first
    | (refine sp_X4_settle (A := A) (u := u) hd hb0 ⟨fun i hi => by rw [hF2 _ _ (by omega)]; exact hA.1 i hi, by rw [hF2 _ _ (by omega)]; exact hA.2⟩ hu hrg (fun M3 hF3 hA3 => ?_)
       skip)
    | refine sp_X4_settle (A := A) (u := u) hd hb0 hA hu hrg (fun M3 hF3 hA3 => ?_)
    refine ⟨_, rfl, ?_⟩
    refine x_iret (pc := 38) dX4_makeClaim_38 rfl (by decide) (by decide) ?_
    first
    | (rw [if_pos (by omega)] at k
       refine k _ (fun a j q1 q2 q3 => ?_) (hT2.gen (fun a j q1 q2 => hF3 _ _ (by omega) (by omega))) hA3
       rw [hF3 _ _ (by omega) q3]
       exact hF2 _ _ (by omega))
    | (rw [if_neg (by omega)] at k
       refine k _ (fun a j q1 q2 q3 => ?_) (hT.gen (fun a j q1 q2 => hF3 _ _ (by omega) (by omega))) hA3
       rw [hF3 _ _ (by omega) q3])
set_option maxRecDepth 100000 in
theorem sp_X4_passTurn {g : GG} {lay : Lay} {M : Mem} {K : KK} {b : Nat} {sv : Nat → Option Nat} {T : CT} {A : Nat → Int} {u : Int} (gB : GoodB) (hd : DuL lay b sv) (hb0 : g.2.1 ≤ b) (hT : Ct T M (b + 1)) (hW : WfT T) (hA : Dh A u M b) (hu : 0 ≤ u ∧ u ≤ 12) (hO : WfO T) (k : ∀ M2, Act b M M2 → Ct (actPass T) M2 (b + 1) → Dh (accF A (if tO T = 1 then 1 else 0)) (undF u (if tO T = 1 then 1 else 0)) M2 b → K (.inl (some (vI (if tO T = 1 then 1 else 0)))) lay M2) : X g m_X4_passTurn 0 0 lay M 0 [(0, vR b)] [] K := by
  have hOO := hW.2.2.2.2.2.2.1
  have wP := hW.2.1 0
  have w0 := hW.1.1
  obtain ⟨hS, hP, hN, hm, hK, hL, hOv, hB⟩ := id hT
  unfold actPass at k
  refine x_aload_n (pc := 0) dX4_passTurn_0 rfl rfl ?_
  refine x_getr (pc := 1) (b := b + 1) fX4_10 dX4_passTurn_1 hd.1 rfl rfl ?_
  refine x_getz (pc := 4) fX4_117 dX4_passTurn_4 hd.2.1.1 rfl (fun r4a r4b => ?_)
  rw [hOv] at r4a r4b ⊢
  refine x_if_eq (pc := 7) (t := 14) dX4_passTurn_7 (by decide) ⟨by omega, by omega⟩ (fun c7 => ?_) (fun c7 => ?_)
  · refine x_iconst (pc := 14) dX4_passTurn_14 ?_
    refine x_istore_n (pc := 15) dX4_passTurn_15 rfl (by decide) (L' := [(1, _), (0, _)]) rfl ?_
    refine x_iload_n (pc := 16) dX4_passTurn_16 rfl rfl ?_
    refine x_if_ne (pc := 17) (t := 33) dX4_passTurn_17 (by decide) ⟨by omega, by omega⟩ (fun c17 => ?_) (fun c17 => ?_)
    · refine x_aload_n (pc := 33) dX4_passTurn_33 rfl rfl ?_
      refine x_iload_n (pc := 34) dX4_passTurn_34 rfl rfl ?_
      refine x_callV (pc := 35) [_] rfl kX4_292 dX4_passTurn_35 hd.1 rfl rfl (by decide) (Nat.le_of_ble_eq_true rfl) (Nat.le_of_ble_eq_true rfl) (by decide) ?_
      first
      | (refine sp_X4_settle (A := A) (u := u) hd hb0 ⟨fun i hi => by rw [hF2 _ _ (by omega) (by omega)]; exact hA.1 i hi, by rw [hF2 _ _ (by omega) (by omega)]; exact hA.2⟩ hu (by omega) (fun M3 hF3 hA3 => ?_)
         skip)
      | refine sp_X4_settle (A := A) (u := u) hd hb0 hA hu (by omega) (fun M3 hF3 hA3 => ?_)
      refine ⟨_, rfl, ?_⟩
      refine x_iret (pc := 38) dX4_passTurn_38 rfl (by decide) (by decide) ?_
      first
      | (exfalso; omega)
      | (rw [if_neg (by omega), if_neg (by omega)] at k
         refine k _ (fun a j q1 q2 q3 => ?_) (hT2.gen (fun a j q1 q2 => hF3 _ _ (by omega) (by omega))) hA3
         rw [hF3 _ _ (by omega) q3]
         exact hF2 _ _ (by omega) (by omega))
      | (rw [if_pos (by omega), if_pos (by omega)] at k
         refine k _ (fun a j q1 q2 q3 => ?_) (hT.gen (fun a j q1 q2 => hF3 _ _ (by omega) (by omega))) hA3
         rw [hF3 _ _ (by omega) q3])
    · refine x_aload_n (pc := 20) dX4_passTurn_20 rfl rfl ?_
      refine x_getr (pc := 21) (b := b + 1) fX4_10 dX4_passTurn_21 hd.1 rfl rfl ?_
      refine x_iconst (pc := 24) dX4_passTurn_24 ?_
      refine x_iconst (pc := 25) dX4_passTurn_25 ?_
      refine x_aload_n (pc := 26) dX4_passTurn_26 rfl rfl ?_
      refine x_getr (pc := 27) (b := b + 16) fX4_26 dX4_passTurn_27 hd.1 rfl rfl ?_
      refine x_callV (pc := 30) [_, _, _] rfl kX4_209 dX4_passTurn_30 hd.2.1.1 rfl rfl (by decide) (Nat.le_of_ble_eq_true rfl) (Nat.le_of_ble_eq_true rfl) (by decide) ?_
      refine sp_X0_endTurn (p := 0) gB hd.2.1 hT hW (by omega) hd.2.2.2.2.1 (by omega) (by omega) (by omega) (by omega) (by omega) (hO (by omega)) (fun M2 hF2 hT2 => ?_)
      refine ⟨_, rfl, ?_⟩
      refine x_aload_n (pc := 33) dX4_passTurn_33 rfl rfl ?_
      refine x_iload_n (pc := 34) dX4_passTurn_34 rfl rfl ?_
      refine x_callV (pc := 35) [_] rfl kX4_292 dX4_passTurn_35 hd.1 rfl rfl (by decide) (Nat.le_of_ble_eq_true rfl) (Nat.le_of_ble_eq_true rfl) (by decide) ?_
      first
      | (refine sp_X4_settle (A := A) (u := u) hd hb0 ⟨fun i hi => by rw [hF2 _ _ (by omega) (by omega)]; exact hA.1 i hi, by rw [hF2 _ _ (by omega) (by omega)]; exact hA.2⟩ hu (by omega) (fun M3 hF3 hA3 => ?_)
         skip)
      | refine sp_X4_settle (A := A) (u := u) hd hb0 hA hu (by omega) (fun M3 hF3 hA3 => ?_)
      refine ⟨_, rfl, ?_⟩
      refine x_iret (pc := 38) dX4_passTurn_38 rfl (by decide) (by decide) ?_
      first
      | (exfalso; omega)
      | (rw [if_neg (by omega), if_neg (by omega)] at k
         refine k _ (fun a j q1 q2 q3 => ?_) (hT2.gen (fun a j q1 q2 => hF3 _ _ (by omega) (by omega))) hA3
         rw [hF3 _ _ (by omega) q3]
         exact hF2 _ _ (by omega) (by omega))
      | (rw [if_pos (by omega), if_pos (by omega)] at k
         refine k _ (fun a j q1 q2 q3 => ?_) (hT.gen (fun a j q1 q2 => hF3 _ _ (by omega) (by omega))) hA3
         rw [hF3 _ _ (by omega) q3])
  · refine x_iconst (pc := 10) dX4_passTurn_10 ?_
    refine x_goto (pc := 11) (t := 15) dX4_passTurn_11 (by decide) ?_
    refine x_istore_n (pc := 15) dX4_passTurn_15 rfl (by decide) (L' := [(1, _), (0, _)]) rfl ?_
    refine x_iload_n (pc := 16) dX4_passTurn_16 rfl rfl ?_
    refine x_if_ne (pc := 17) (t := 33) dX4_passTurn_17 (by decide) ⟨by omega, by omega⟩ (fun c17 => ?_) (fun c17 => ?_)
    · refine x_aload_n (pc := 33) dX4_passTurn_33 rfl rfl ?_
      refine x_iload_n (pc := 34) dX4_passTurn_34 rfl rfl ?_
      refine x_callV (pc := 35) [_] rfl kX4_292 dX4_passTurn_35 hd.1 rfl rfl (by decide) (Nat.le_of_ble_eq_true rfl) (Nat.le_of_ble_eq_true rfl) (by decide) ?_
      first
      | (refine sp_X4_settle (A := A) (u := u) hd hb0 ⟨fun i hi => by rw [hF2 _ _ (by omega) (by omega)]; exact hA.1 i hi, by rw [hF2 _ _ (by omega) (by omega)]; exact hA.2⟩ hu (by omega) (fun M3 hF3 hA3 => ?_)
         skip)
      | refine sp_X4_settle (A := A) (u := u) hd hb0 hA hu (by omega) (fun M3 hF3 hA3 => ?_)
      refine ⟨_, rfl, ?_⟩
      refine x_iret (pc := 38) dX4_passTurn_38 rfl (by decide) (by decide) ?_
      first
      | (exfalso; omega)
      | (rw [if_neg (by omega), if_neg (by omega)] at k
         refine k _ (fun a j q1 q2 q3 => ?_) (hT2.gen (fun a j q1 q2 => hF3 _ _ (by omega) (by omega))) hA3
         rw [hF3 _ _ (by omega) q3]
         exact hF2 _ _ (by omega) (by omega))
      | (rw [if_pos (by omega), if_pos (by omega)] at k
         refine k _ (fun a j q1 q2 q3 => ?_) (hT.gen (fun a j q1 q2 => hF3 _ _ (by omega) (by omega))) hA3
         rw [hF3 _ _ (by omega) q3])
    · refine x_aload_n (pc := 20) dX4_passTurn_20 rfl rfl ?_
      refine x_getr (pc := 21) (b := b + 1) fX4_10 dX4_passTurn_21 hd.1 rfl rfl ?_
      refine x_iconst (pc := 24) dX4_passTurn_24 ?_
      refine x_iconst (pc := 25) dX4_passTurn_25 ?_
      refine x_aload_n (pc := 26) dX4_passTurn_26 rfl rfl ?_
      refine x_getr (pc := 27) (b := b + 16) fX4_26 dX4_passTurn_27 hd.1 rfl rfl ?_
      refine x_callV (pc := 30) [_, _, _] rfl kX4_209 dX4_passTurn_30 hd.2.1.1 rfl rfl (by decide) (Nat.le_of_ble_eq_true rfl) (Nat.le_of_ble_eq_true rfl) (by decide) ?_
      refine sp_X0_endTurn (p := 0) gB hd.2.1 hT hW (by omega) hd.2.2.2.2.1 (by omega) (by omega) (by omega) (by omega) (by omega) (hO (by omega)) (fun M2 hF2 hT2 => ?_)
      refine ⟨_, rfl, ?_⟩
      refine x_aload_n (pc := 33) dX4_passTurn_33 rfl rfl ?_
      refine x_iload_n (pc := 34) dX4_passTurn_34 rfl rfl ?_
      refine x_callV (pc := 35) [_] rfl kX4_292 dX4_passTurn_35 hd.1 rfl rfl (by decide) (Nat.le_of_ble_eq_true rfl) (Nat.le_of_ble_eq_true rfl) (by decide) ?_
      first
      | (refine sp_X4_settle (A := A) (u := u) hd hb0 ⟨fun i hi => by rw [hF2 _ _ (by omega) (by omega)]; exact hA.1 i hi, by rw [hF2 _ _ (by omega) (by omega)]; exact hA.2⟩ hu (by omega) (fun M3 hF3 hA3 => ?_)
         skip)
      | refine sp_X4_settle (A := A) (u := u) hd hb0 hA hu (by omega) (fun M3 hF3 hA3 => ?_)
      refine ⟨_, rfl, ?_⟩
      refine x_iret (pc := 38) dX4_passTurn_38 rfl (by decide) (by decide) ?_
      first
      | (exfalso; omega)
      | (rw [if_neg (by omega), if_neg (by omega)] at k
         refine k _ (fun a j q1 q2 q3 => ?_) (hT2.gen (fun a j q1 q2 => hF3 _ _ (by omega) (by omega))) hA3
         rw [hF3 _ _ (by omega) q3]
         exact hF2 _ _ (by omega) (by omega))
      | (rw [if_pos (by omega), if_pos (by omega)] at k
         refine k _ (fun a j q1 q2 q3 => ?_) (hT.gen (fun a j q1 q2 => hF3 _ _ (by omega) (by omega))) hA3
         rw [hF3 _ _ (by omega) q3])
set_option maxRecDepth 100000 in
theorem sp_X4_why {g : GG} {lay : Lay} {M : Mem} {K : KK} {b : Nat} {sv : Nat → Option Nat} {T : CT} {x p : Int} (gB : GoodB) (hd : DuL lay b sv) (hb0 : g.2.1 ≤ b) (hT : Ct T M (b + 1)) (hW : WfT T) (hx : i32 x) (hp : i32 p) (k : ∀ M2 n, lay.2 ≤ n → Scr b M M2 → K (rWhy T x p) (lay.1, n) M2) : X g m_X4_why 0 0 lay M 0 [(0, vR b), (1, vI x), (2, vI p)] [] K := by
  unfold rWhy at k
  have w0 := hW.1.1
  have z0 := @b01 (hasP T p) inferInstance
  have z1 := @b01 (layab x) inferInstance
  refine x_aload_n (pc := 0) dX4_why_0 rfl rfl ?_
  refine x_getr (pc := 1) (b := b + 1) fX4_10 dX4_why_1 hd.1 rfl rfl ?_
  refine x_iload_n (pc := 4) dX4_why_4 rfl rfl ?_
  refine x_callV (pc := 5) [_] rfl kX4_137 dX4_why_5 hd.2.1.1 rfl rfl (by decide) (Nat.le_of_ble_eq_true rfl) (Nat.le_of_ble_eq_true rfl) (by decide) ?_
  refine sp_X0_hasPower hd.2.1 hT hW hp ?_
  refine ⟨_, rfl, ?_⟩
  refine x_if_ne (pc := 8) (t := 19) dX4_why_8 (by decide) ⟨by omega, by omega⟩ (fun c8 => ?_) (fun c8 => ?_)
  · refine x_iload_n (pc := 19) dX4_why_19 rfl rfl ?_
    refine x_callS (pc := 20) [_] rfl kX4_200 dX4_why_20 rfl (by decide) (Nat.le_of_ble_eq_true rfl) (Nat.le_of_ble_eq_true rfl) (by decide) ?_
    refine sp_X4_isLayable hx ?_
    refine ⟨_, rfl, ?_⟩
    refine x_if_ne (pc := 23) (t := 34) dX4_why_23 (by decide) ⟨by omega, by omega⟩ (fun c23 => ?_) (fun c23 => ?_)
    · refine x_aload_n (pc := 34) dX4_why_34 rfl rfl ?_
      refine x_getr (pc := 35) (b := b + 1) fX4_10 dX4_why_35 hd.1 rfl rfl ?_
      refine x_iload_n (pc := 38) dX4_why_38 rfl rfl ?_
      refine x_iload_n (pc := 39) dX4_why_39 rfl rfl ?_
      refine x_callV (pc := 40) [_, _] rfl kX4_203 dX4_why_40 hd.2.1.1 rfl rfl (by decide) (Nat.le_of_ble_eq_true rfl) (Nat.le_of_ble_eq_true rfl) (by decide) ?_
      have y0 := b1 c8
      have y1 := b1 c23
      obtain ⟨q, rfl⟩ := Int.eq_ofNat_of_zero_le y0.1
      refine sp_X0_refusalOfTerm hd.2.1 hT hW (by omega) (by omega) ?_
      refine ⟨_, rfl, ?_⟩
      refine x_iret (pc := 43) dX4_why_43 rfl (by decide) (by decide) ?_
      refine kE2 (k _ _ (Nat.le_refl _) Scr.rf) ?_
      rw [if_neg (fun z => z y0), if_neg (fun z => z y1)]
      rfl
    · refine x_throw0 (pc := 26) ct67 dX4_why_26 dX4_why_29 dX4_why_30 dX4_why_33 rfl (by decide) (Nat.le_of_ble_eq_true rfl) (Nat.le_of_ble_eq_true rfl) ?_
      intro n hn
      refine kE2 (k _ n hn Scr.rf) ?_
      rw [if_neg (fun z => z (b1 c8)), if_pos (b0 c23)]
  · refine x_throw0 (pc := 11) ct140 dX4_why_11 dX4_why_14 dX4_why_15 dX4_why_18 rfl (by decide) (Nat.le_of_ble_eq_true rfl) (Nat.le_of_ble_eq_true rfl) ?_
    intro n hn
    refine kE2 (k _ n hn Scr.rf) ?_
    rw [if_pos (b0 c8)]
set_option maxRecDepth 100000 in
theorem sp_X4_lay {g : GG} {lay : Lay} {M : Mem} {K : KK} {b : Nat} {sv : Nat → Option Nat} {T : CT} {x p : Int} {A : Nat → Int} {u : Int} (gB : GoodB) (hd : DuL lay b sv) (hb0 : g.2.1 ≤ b) (hT : Ct T M (b + 1)) (hW : WfT T) (hA : Dh A u M b) (hu : 0 ≤ u ∧ u ≤ 12) (hO : WfO T) (hx : i32 x) (hp : i32 p) (kx1 : ¬ hasP T p → ∀ n, lay.2 ≤ n → K eIO (lay.1, n) M) (kx2 : hasP T p → ¬ layab x → ∀ n, lay.2 ≤ n → K eIA (lay.1, n) M) (k : hasP T p → layab x → ∀ M2, Act b M M2 → Ct (actLay T x p.toNat) M2 (b + 1) → Dh (accF A (whyLayF T x p.toNat)) (undF u (whyLayF T x p.toNat)) M2 b → K (.inl (some (vI (whyLayF T x p.toNat)))) lay M2) : X g m_X4_lay 0 0 lay M 0 [(0, vR b), (1, vI x), (2, vI p)] [] K := by
  have w0 := hW.1.1
  have z0 := @b01 (hasP T p) inferInstance
  have z1 := @b01 (layab x) inferInstance
  refine x_aload_n (pc := 0) dX4_lay_0 rfl rfl ?_
  refine x_getr (pc := 1) (b := b + 1) fX4_10 dX4_lay_1 hd.1 rfl rfl ?_
  refine x_iload_n (pc := 4) dX4_lay_4 rfl rfl ?_
  refine x_callV (pc := 5) [_] rfl kX4_137 dX4_lay_5 hd.2.1.1 rfl rfl (by decide) (Nat.le_of_ble_eq_true rfl) (Nat.le_of_ble_eq_true rfl) (by decide) ?_
  refine sp_X0_hasPower hd.2.1 hT hW hp ?_
  refine ⟨_, rfl, ?_⟩
  refine x_if_ne (pc := 8) (t := 19) dX4_lay_8 (by decide) ⟨by omega, by omega⟩ (fun c8 => ?_) (fun c8 => ?_)
  · refine x_iload_n (pc := 19) dX4_lay_19 rfl rfl ?_
    refine x_callS (pc := 20) [_] rfl kX4_200 dX4_lay_20 rfl (by decide) (Nat.le_of_ble_eq_true rfl) (Nat.le_of_ble_eq_true rfl) (by decide) ?_
    refine sp_X4_isLayable hx ?_
    refine ⟨_, rfl, ?_⟩
    refine x_if_ne (pc := 23) (t := 34) dX4_lay_23 (by decide) ⟨by omega, by omega⟩ (fun c23 => ?_) (fun c23 => ?_)
    · refine x_aload_n (pc := 34) dX4_lay_34 rfl rfl ?_
      refine x_iload_n (pc := 35) dX4_lay_35 rfl rfl ?_
      refine x_iload_n (pc := 36) dX4_lay_36 rfl rfl ?_
      refine x_callV (pc := 37) [_, _] rfl kX4_97 dX4_lay_37 hd.1 rfl rfl (by decide) (Nat.le_of_ble_eq_true rfl) (Nat.le_of_ble_eq_true rfl) (by decide) ?_
      have y0 := b1 c8
      have y1 := b1 c23
      obtain ⟨q, rfl⟩ := Int.eq_ofNat_of_zero_le y0.1
      refine sp_X4_layTerm gB hd hb0 hT hW hA hu hO (by omega) (by omega) (fun M2 hF2 hT2 hA2 => ?_)
      refine ⟨_, rfl, ?_⟩
      refine x_iret (pc := 40) dX4_lay_40 rfl (by decide) (by decide) ?_
      exact k y0 y1 _ hF2 hT2 hA2
    · refine x_throw0 (pc := 26) ct67 dX4_lay_26 dX4_lay_29 dX4_lay_30 dX4_lay_33 rfl (by decide) (Nat.le_of_ble_eq_true rfl) (Nat.le_of_ble_eq_true rfl) ?_
      exact kx2 (b1 c8) (b0 c23)
  · refine x_throw0 (pc := 11) ct140 dX4_lay_11 dX4_lay_14 dX4_lay_15 dX4_lay_18 rfl (by decide) (Nat.le_of_ble_eq_true rfl) (Nat.le_of_ble_eq_true rfl) ?_
    exact kx1 (b0 c8)
set_option maxRecDepth 100000 in
theorem sp_X4_pass {g : GG} {lay : Lay} {M : Mem} {K : KK} {b : Nat} {sv : Nat → Option Nat} {T : CT} {A : Nat → Int} {u : Int} (gB : GoodB) (hd : DuL lay b sv) (hb0 : g.2.1 ≤ b) (hT : Ct T M (b + 1)) (hW : WfT T) (hA : Dh A u M b) (hu : 0 ≤ u ∧ u ≤ 12) (hO : WfO T) (k : ∀ M2, Act b M M2 → Ct (actPass T) M2 (b + 1) → Dh (accF A (if tO T = 1 then 1 else 0)) (undF u (if tO T = 1 then 1 else 0)) M2 b → K (.inl (some (vI (if tO T = 1 then 1 else 0)))) lay M2) : X g m_X4_pass 0 0 lay M 0 [(0, vR b)] [] K := by
  have hz := @b01 (tO T = 1) inferInstance
  refine x_aload_n (pc := 0) dX4_pass_0 rfl rfl ?_
  refine x_callV (pc := 1) [] rfl kX4_104 dX4_pass_1 hd.1 rfl rfl (by decide) (Nat.le_of_ble_eq_true rfl) (Nat.le_of_ble_eq_true rfl) (by decide) ?_
  refine sp_X4_passTurn gB hd hb0 hT hW hA hu hO (fun M2 hF2 hT2 hA2 => ?_)
  refine ⟨_, rfl, ?_⟩
  refine x_iret (pc := 4) dX4_pass_4 rfl (by decide) (by decide) ?_
  exact k _ hF2 hT2 hA2
set_option maxRecDepth 100000 in
theorem sp_X4_claim {g : GG} {lay : Lay} {M : Mem} {K : KK} {b : Nat} {sv : Nat → Option Nat} {T : CT} {a y1 r l s : Int} {A : Nat → Int} {u : Int} (gB : GoodB) (hd : DuL lay b sv) (hb0 : g.2.1 ≤ b) (hT : Ct T M (b + 1)) (hW : WfT T) (hA : Dh A u M b) (hu : 0 ≤ u ∧ u ≤ 12) (hO : WfO T) (ha : i32 a) (hb : i32 y1) (hr : i32 r) (hl : l = 0 ∨ l = 1) (hs : i32 s) (kx : ¬ (intvP a y1 ∧ (0 ≤ r ∧ r ≤ 4) ∧ (1 ≤ s ∧ s ≤ 9)) → ∀ n, lay.2 ≤ n → K eIA (lay.1, n) M) (k : (intvP a y1 ∧ (0 ≤ r ∧ r ≤ 4) ∧ (1 ≤ s ∧ s ≤ 9)) → ∀ M2, Act b M M2 → Ct (actClaim T a y1 r l s) M2 (b + 1) → Dh (accF A (whyClaimF T a y1 s)) (undF u (whyClaimF T a y1 s)) M2 b → K (.inl (some (vI (whyClaimF T a y1 s)))) lay M2) : X g m_X4_claim 0 0 lay M 0 [(0, vR b), (1, vI a), (2, vI y1), (3, vI r), (4, vI l), (5, vI s)] [] K := by
  obtain ⟨hr1, hr2⟩ := hr
  obtain ⟨hs1, hs2⟩ := hs
  have z1 := @b01 (intvP a y1) inferInstance
  refine x_iload_n (pc := 0) dX4_claim_0 rfl rfl ?_
  refine x_iload_n (pc := 1) dX4_claim_1 rfl rfl ?_
  refine x_callS (pc := 2) [_, _] rfl kX4_196 dX4_claim_2 rfl (by decide) (Nat.le_of_ble_eq_true rfl) (Nat.le_of_ble_eq_true rfl) (by decide) ?_
  refine sp_X4_isInterval ha hb ?_
  refine ⟨_, rfl, ?_⟩
  refine x_if_eq (pc := 5) (t := 30) dX4_claim_5 (by decide) ⟨by omega, by omega⟩ (fun c5 => ?_) (fun c5 => ?_)
  · refine x_throw0 (pc := 30) ct67 dX4_claim_30 dX4_claim_33 dX4_claim_34 dX4_claim_37 rfl (by decide) (Nat.le_of_ble_eq_true rfl) (Nat.le_of_ble_eq_true rfl) ?_
    first
    | exact kx (fun z => b0 c5 z.1)
    | exact kx (fun z => by omega)
  · refine x_iload_n (pc := 8) dX4_claim_8 rfl rfl ?_
    refine x_if_lt (pc := 9) (t := 30) dX4_claim_9 (by decide) ⟨by omega, by omega⟩ (fun c9 => ?_) (fun c9 => ?_)
    · refine x_throw0 (pc := 30) ct67 dX4_claim_30 dX4_claim_33 dX4_claim_34 dX4_claim_37 rfl (by decide) (Nat.le_of_ble_eq_true rfl) (Nat.le_of_ble_eq_true rfl) ?_
      first
      | exact kx (fun z => b0 c5 z.1)
      | exact kx (fun z => by omega)
    · refine x_iload_n (pc := 12) dX4_claim_12 rfl rfl ?_
      refine x_iconst (pc := 13) dX4_claim_13 ?_
      refine x_icmp_gt (pc := 14) (t := 30) dX4_claim_14 (by decide) ⟨by omega, by omega⟩ ⟨by omega, by omega⟩ (fun c14 => ?_) (fun c14 => ?_)
      · refine x_throw0 (pc := 30) ct67 dX4_claim_30 dX4_claim_33 dX4_claim_34 dX4_claim_37 rfl (by decide) (Nat.le_of_ble_eq_true rfl) (Nat.le_of_ble_eq_true rfl) ?_
        first
        | exact kx (fun z => b0 c5 z.1)
        | exact kx (fun z => by omega)
      · refine x_iload (pc := 17) dX4_claim_17 rfl ?_
        refine x_iconst (pc := 19) dX4_claim_19 ?_
        refine x_icmp_lt (pc := 20) (t := 30) dX4_claim_20 (by decide) ⟨by omega, by omega⟩ ⟨by omega, by omega⟩ (fun c20 => ?_) (fun c20 => ?_)
        · refine x_throw0 (pc := 30) ct67 dX4_claim_30 dX4_claim_33 dX4_claim_34 dX4_claim_37 rfl (by decide) (Nat.le_of_ble_eq_true rfl) (Nat.le_of_ble_eq_true rfl) ?_
          first
          | exact kx (fun z => b0 c5 z.1)
          | exact kx (fun z => by omega)
        · refine x_iload (pc := 23) dX4_claim_23 rfl ?_
          refine x_bipush (pc := 25) dX4_claim_25 (by decide) ?_
          refine x_icmp_le (pc := 27) (t := 38) dX4_claim_27 (by decide) ⟨by omega, by omega⟩ ⟨by omega, by omega⟩ (fun c27 => ?_) (fun c27 => ?_)
          · refine x_aload_n (pc := 38) dX4_claim_38 rfl rfl ?_
            refine x_iload_n (pc := 39) dX4_claim_39 rfl rfl ?_
            refine x_iload_n (pc := 40) dX4_claim_40 rfl rfl ?_
            refine x_iload_n (pc := 41) dX4_claim_41 rfl rfl ?_
            refine x_iload (pc := 42) dX4_claim_42 rfl ?_
            refine x_if_eq (pc := 44) (t := 51) dX4_claim_44 (by decide) ⟨by omega, by omega⟩ (fun c44 => ?_) (fun c44 => ?_)
            · refine x_iconst (pc := 51) dX4_claim_51 ?_
              try rw [show (1 : Int) = l by omega]
              try rw [show (0 : Int) = l by omega]
              refine x_iload (pc := 52) dX4_claim_52 rfl ?_
              refine x_callV (pc := 54) [_, _, _, _, _] rfl kX4_100 dX4_claim_54 hd.1 rfl rfl (by decide) (Nat.le_of_ble_eq_true rfl) (Nat.le_of_ble_eq_true rfl) (by decide) ?_
              have y0 := b1 c5
              refine sp_X4_makeClaim (l := l) gB hd hb0 hT hW hA hu hO y0 (by omega) (by omega) (by omega) (fun M2 hF2 hT2 hA2 => ?_)
              refine ⟨_, rfl, ?_⟩
              refine x_iret (pc := 57) dX4_claim_57 rfl (by decide) (by decide) ?_
              exact k ⟨y0, by omega, by omega⟩ _ hF2 hT2 hA2
            · refine x_iconst (pc := 47) dX4_claim_47 ?_
              refine x_goto (pc := 48) (t := 52) dX4_claim_48 (by decide) ?_
              try rw [show (1 : Int) = l by omega]
              try rw [show (0 : Int) = l by omega]
              refine x_iload (pc := 52) dX4_claim_52 rfl ?_
              refine x_callV (pc := 54) [_, _, _, _, _] rfl kX4_100 dX4_claim_54 hd.1 rfl rfl (by decide) (Nat.le_of_ble_eq_true rfl) (Nat.le_of_ble_eq_true rfl) (by decide) ?_
              have y0 := b1 c5
              refine sp_X4_makeClaim (l := l) gB hd hb0 hT hW hA hu hO y0 (by omega) (by omega) (by omega) (fun M2 hF2 hT2 hA2 => ?_)
              refine ⟨_, rfl, ?_⟩
              refine x_iret (pc := 57) dX4_claim_57 rfl (by decide) (by decide) ?_
              exact k ⟨y0, by omega, by omega⟩ _ hF2 hT2 hA2
          · refine x_throw0 (pc := 30) ct67 dX4_claim_30 dX4_claim_33 dX4_claim_34 dX4_claim_37 rfl (by decide) (Nat.le_of_ble_eq_true rfl) (Nat.le_of_ble_eq_true rfl) ?_
            first
            | exact kx (fun z => b0 c5 z.1)
            | exact kx (fun z => by omega)
set_option maxRecDepth 100000 in
theorem sp_X4_degree {g : GG} {lay : Lay} {M : Mem} {K : KK} {b : Nat} {sv : Nat → Option Nat} {T : CT} (gB : GoodB) (hd : DuL lay b sv) (hb0 : g.2.1 ≤ b) (hT : Ct T M (b + 1)) (hW : WfT T) (k : ∀ M2 n, lay.2 ≤ n → Scr b M M2 → K (oI (degF (tP T) 5)) (lay.1, n) M2) : X g m_X4_degree 0 0 lay M 0 [(0, vR b)] [] K := by
  obtain ⟨hS, hP, hN, hm, hK, hL, hOv, hB⟩ := id hT
  obtain ⟨U, hU⟩ : ∃ U, U = degF (tP T) 5 := ⟨_, rfl⟩
  rw [← hU] at k
  have loop : ∀ (n : Nat) (y : Int), y + 1 = n → n ≤ 5 → degF (tP T) n = U → X g m_X4_degree 0 0 lay M 2 [(1, vI y), (0, vR b)] [] K := by
    intro n
    induction n with
    | zero =>
      intro y hy hn5 ht
      simp only [degF] at ht
      refine x_iload_n (pc := 2) dX4_degree_2 rfl rfl ?_
      refine x_if_lt (pc := 3) (t := 26) dX4_degree_3 (by decide) ⟨by omega, by omega⟩ (fun c3 => ?_) (fun c3 => ?_)
      · refine x_iconst (pc := 26) dX4_degree_26 ?_
        refine x_iret (pc := 27) dX4_degree_27 rfl (by decide) (by decide) ?_
        rw [ht]
        exact k _ _ (Nat.le_refl _) Scr.rf
      · exfalso; omega
    | succ n ih =>
      intro y hy hn5 ht
      have e1 := hP n (by omega)
      have e2 : y.toNat = n := by omega
      simp only [degF] at ht
      refine x_iload_n (pc := 2) dX4_degree_2 rfl rfl ?_
      refine x_if_lt (pc := 3) (t := 26) dX4_degree_3 (by decide) ⟨by omega, by omega⟩ (fun c3 => ?_) (fun c3 => ?_)
      · exfalso; omega
      · refine x_aload_n (pc := 6) dX4_degree_6 rfl rfl ?_
        refine x_getr (pc := 7) (b := b + 1) fX4_10 dX4_degree_7 hd.1 rfl rfl ?_
        refine x_getr (pc := 10) (b := b + 1 + 2) fX4_147 dX4_degree_10 hd.2.1.1 rfl rfl ?_
        refine x_iload_n (pc := 13) dX4_degree_13 rfl rfl ?_
        refine x_iald (pc := 14) dX4_degree_14 hd.2.1.2.2.1 (by omega) (by omega) (fun r14a r14b => ?_)
        rw [e2, e1] at r14a r14b ⊢
        refine x_if_eq (pc := 15) (t := 20) dX4_degree_15 (by decide) ⟨by omega, by omega⟩ (fun c15 => ?_) (fun c15 => ?_)
        · refine x_iinc (pc := 20) dX4_degree_20 rfl (by decide) (L' := [(1, _), (0, _)]) rfl ?_
          refine x_goto (pc := 23) (t := 2) dX4_degree_23 (by decide) ?_
          refine X.loc [0, 1] (L' := [(1, _), (0, _)]) rfl ?_
          rw [if_neg (fun q => q c15)] at ht
          exact ih _ (by omega) (by omega) ht
        · refine x_iload_n (pc := 18) dX4_degree_18 rfl rfl ?_
          refine x_iret (pc := 19) dX4_degree_19 rfl (by decide) (by decide) ?_
          rw [if_pos c15] at ht
          rw [show y = (n : Int) by omega, ht]
          exact k _ _ (Nat.le_refl _) Scr.rf
  refine x_iconst (pc := 0) dX4_degree_0 ?_
  refine x_istore_n (pc := 1) dX4_degree_1 rfl (by decide) (L' := [(1, _), (0, _)]) rfl ?_
  exact loop 5 _ (by decide) (by decide) hU.symm
set_option maxRecDepth 100000 in
theorem sp_X4_value {g : GG} {lay : Lay} {M : Mem} {K : KK} {b : Nat} {sv : Nat → Option Nat} {T : CT} {x : Int} (gB : GoodB) (hd : DuL lay b sv) (hb0 : g.2.1 ≤ b) (hT : Ct T M (b + 1)) (hW : WfT T) (hx : i32 x) (k : ∀ M2 n, lay.2 ≤ n → Scr b M M2 → K (rValue T x) (lay.1, n) M2) : X g m_X4_value 0 0 lay M 0 [(0, vR b), (1, vI x)] [] K := by
  unfold rValue at k
  have z1 := @b01 (placeP x) inferInstance
  refine x_iload_n (pc := 0) dX4_value_0 rfl rfl ?_
  refine x_callS (pc := 1) [_] rfl kX4_216 dX4_value_1 rfl (by decide) (Nat.le_of_ble_eq_true rfl) (Nat.le_of_ble_eq_true rfl) (by decide) ?_
  refine sp_X4_isPlace hx ?_
  refine ⟨_, rfl, ?_⟩
  refine x_if_ne (pc := 4) (t := 15) dX4_value_4 (by decide) ⟨by omega, by omega⟩ (fun c4 => ?_) (fun c4 => ?_)
  · refine x_aload_n (pc := 15) dX4_value_15 rfl rfl ?_
    refine x_getr (pc := 16) (b := b + 1) fX4_10 dX4_value_16 hd.1 rfl rfl ?_
    refine x_iload_n (pc := 19) dX4_value_19 rfl rfl ?_
    refine x_callV (pc := 20) [_] rfl kX4_219 dX4_value_20 hd.2.1.1 rfl rfl (by decide) (Nat.le_of_ble_eq_true rfl) (Nat.le_of_ble_eq_true rfl) (by decide) ?_
    have y0 := b1 c4
    refine sp_X0_valueAt hd.2.1 hT hW y0 ?_
    refine ⟨_, rfl, ?_⟩
    refine x_lret (pc := 23) dX4_value_23 rfl (by decide) (by decide) ?_
    refine kE2 (k _ _ (Nat.le_refl _) Scr.rf) ?_
    rw [if_neg (fun z => z y0)]
  · refine x_throw0 (pc := 7) ct67 dX4_value_7 dX4_value_10 dX4_value_11 dX4_value_14 rfl (by decide) (Nat.le_of_ble_eq_true rfl) (Nat.le_of_ble_eq_true rfl) ?_
    intro n hn
    refine kE2 (k _ n hn Scr.rf) ?_
    rw [if_pos (b0 c4)]
set_option maxRecDepth 100000 in
theorem sp_X4_allRoots {g : GG} {lay : Lay} {M : Mem} {K : KK} {b : Nat} {sv : Nat → Option Nat} {T : CT} (gB : GoodB) (hd : DuL lay b sv) (hb0 : g.2.1 ≤ b) (hT : Ct T M (b + 1)) (hW : WfT T) (k : ∀ M2 n, lay.2 ≤ n → Scr b M M2 → K (oI (allD (buildF (tP T)))) (lay.1, n) M2) : X g m_X4_allRoots 0 0 lay M 0 [(0, vR b)] [] K := by
  refine x_aload_n (pc := 0) dX4_allRoots_0 rfl rfl ?_
  refine x_aload_n (pc := 1) dX4_allRoots_1 rfl rfl ?_
  refine x_getr (pc := 2) (b := b + 1) fX4_10 dX4_allRoots_2 hd.1 rfl rfl ?_
  refine x_getr (pc := 5) (b := b + 1 + 2) fX4_147 dX4_allRoots_5 hd.2.1.1 rfl rfl ?_
  refine x_callV (pc := 8) [_] rfl kX4_162 dX4_allRoots_8 hd.1 rfl rfl (by decide) (Nat.le_of_ble_eq_true rfl) (Nat.le_of_ble_eq_true rfl) (by decide) ?_
  refine sp_X4_buildRows gB hd hb0 hd.2.1.2.2.1 (by omega) hW.2.1 (fun i hi => hT.2.1 i hi) (fun M2 hF2 hR2 => ?_)
  have gW := (gB (tP T) hW.2.1).2
  have hT2 : Ct T M2 (b + 1) := hT.frm hF2 (by omega)
  have hS2 : Scr b M M2 := Scr.rf.fr hF2 (by omega)
  refine ⟨_, rfl, ?_⟩
  refine x_aload_n (pc := 11) dX4_allRoots_11 rfl rfl ?_
  refine x_getr (pc := 12) (b := b + 16) fX4_26 dX4_allRoots_12 hd.1 rfl rfl ?_
  refine x_callV (pc := 15) [] rfl kX4_213 dX4_allRoots_15 hd.2.2.2.2.1.1 rfl rfl (by decide) (Nat.le_of_ble_eq_true rfl) (Nat.le_of_ble_eq_true rfl) (by decide) ?_
  refine sp_X3_allDistinct hd.2.2.2.2.1 hR2 gW (by omega) (fun M3 hF3 => ?_)
  refine ⟨_, rfl, ?_⟩
  refine x_iret (pc := 18) dX4_allRoots_18 rfl (by decide) (by decide) ?_
  exact k _ _ (Nat.le_refl _) (hS2.fr hF3 (by omega))
set_option maxRecDepth 100000 in
theorem sp_X4_roots {g : GG} {lay : Lay} {M : Mem} {K : KK} {b : Nat} {sv : Nat → Option Nat} {T : CT} {x y : Int} (gB : GoodB) (hd : DuL lay b sv) (hb0 : g.2.1 ≤ b) (hT : Ct T M (b + 1)) (hW : WfT T) (hx : i32 x) (hy : i32 y) (k : ∀ M2 n, lay.2 ≤ n → Scr b M M2 → K (rRoots T x y) (lay.1, n) M2) : X g m_X4_roots 0 0 lay M 0 [(0, vR b), (1, vI x), (2, vI y)] [] K := by
  unfold rRoots at k
  have z1 := @b01 (intvP x y) inferInstance
  refine x_iload_n (pc := 0) dX4_roots_0 rfl rfl ?_
  refine x_iload_n (pc := 1) dX4_roots_1 rfl rfl ?_
  refine x_callS (pc := 2) [_, _] rfl kX4_196 dX4_roots_2 rfl (by decide) (Nat.le_of_ble_eq_true rfl) (Nat.le_of_ble_eq_true rfl) (by decide) ?_
  refine sp_X4_isInterval hx hy ?_
  refine ⟨_, rfl, ?_⟩
  refine x_if_ne (pc := 5) (t := 16) dX4_roots_5 (by decide) ⟨by omega, by omega⟩ (fun c5 => ?_) (fun c5 => ?_)
  · refine x_aload_n (pc := 16) dX4_roots_16 rfl rfl ?_
    refine x_aload_n (pc := 17) dX4_roots_17 rfl rfl ?_
    refine x_getr (pc := 18) (b := b + 1) fX4_10 dX4_roots_18 hd.1 rfl rfl ?_
    refine x_getr (pc := 21) (b := b + 1 + 2) fX4_147 dX4_roots_21 hd.2.1.1 rfl rfl ?_
    refine x_callV (pc := 24) [_] rfl kX4_162 dX4_roots_24 hd.1 rfl rfl (by decide) (Nat.le_of_ble_eq_true rfl) (Nat.le_of_ble_eq_true rfl) (by decide) ?_
    refine sp_X4_buildRows gB hd hb0 hd.2.1.2.2.1 (by omega) hW.2.1 (fun i hi => hT.2.1 i hi) (fun M2 hF2 hR2 => ?_)
    have gW := (gB (tP T) hW.2.1).2
    have hT2 : Ct T M2 (b + 1) := hT.frm hF2 (by omega)
    have hS2 : Scr b M M2 := Scr.rf.fr hF2 (by omega)
    refine ⟨_, rfl, ?_⟩
    refine x_aload_n (pc := 27) dX4_roots_27 rfl rfl ?_
    refine x_getr (pc := 28) (b := b + 16) fX4_26 dX4_roots_28 hd.1 rfl rfl ?_
    refine x_iload_n (pc := 31) dX4_roots_31 rfl rfl ?_
    refine x_iload_n (pc := 32) dX4_roots_32 rfl rfl ?_
    refine x_callV (pc := 33) [_, _] rfl kX4_223 dX4_roots_33 hd.2.2.2.2.1.1 rfl rfl (by decide) (Nat.le_of_ble_eq_true rfl) (Nat.le_of_ble_eq_true rfl) (by decide) ?_
    have y0 := b1 c5
    refine sp_X3_distinctBetween hd.2.2.2.2.1 hR2 gW (by omega) (by omega) (by omega) (fun M3 hF3 => ?_)
    refine ⟨_, rfl, ?_⟩
    refine x_iret (pc := 36) dX4_roots_36 rfl (by decide) (by decide) ?_
    refine kE2 (k _ _ (Nat.le_refl _) (hS2.fr hF3 (by omega))) ?_
    rw [if_neg (fun z => z y0)]
  · refine x_throw0 (pc := 8) ct67 dX4_roots_8 dX4_roots_11 dX4_roots_12 dX4_roots_15 rfl (by decide) (Nat.le_of_ble_eq_true rfl) (Nat.le_of_ble_eq_true rfl) ?_
    intro n hn
    refine kE2 (k _ n hn Scr.rf) ?_
    rw [if_pos (b0 c5)]
set_option maxRecDepth 100000 in
theorem sp_X4_rows {g : GG} {lay : Lay} {M : Mem} {K : KK} {b : Nat} {sv : Nat → Option Nat} {T : CT} (gB : GoodB) (hd : DuL lay b sv) (hb0 : g.2.1 ≤ b) (hT : Ct T M (b + 1)) (hW : WfT T) (k : ∀ M2 n, lay.2 ≤ n → Scr b M M2 → K (oI ((buildF (tP T)).1 : Int)) (lay.1, n) M2) : X g m_X4_rows 0 0 lay M 0 [(0, vR b)] [] K := by
  refine x_aload_n (pc := 0) dX4_rows_0 rfl rfl ?_
  refine x_aload_n (pc := 1) dX4_rows_1 rfl rfl ?_
  refine x_getr (pc := 2) (b := b + 1) fX4_10 dX4_rows_2 hd.1 rfl rfl ?_
  refine x_getr (pc := 5) (b := b + 1 + 2) fX4_147 dX4_rows_5 hd.2.1.1 rfl rfl ?_
  refine x_callV (pc := 8) [_] rfl kX4_162 dX4_rows_8 hd.1 rfl rfl (by decide) (Nat.le_of_ble_eq_true rfl) (Nat.le_of_ble_eq_true rfl) (by decide) ?_
  refine sp_X4_buildRows gB hd hb0 hd.2.1.2.2.1 (by omega) hW.2.1 (fun i hi => hT.2.1 i hi) (fun M2 hF2 hR2 => ?_)
  have gW := (gB (tP T) hW.2.1).2
  have hT2 : Ct T M2 (b + 1) := hT.frm hF2 (by omega)
  have hS2 : Scr b M M2 := Scr.rf.fr hF2 (by omega)
  refine ⟨_, rfl, ?_⟩
  refine x_aload_n (pc := 11) dX4_rows_11 rfl rfl ?_
  refine x_getr (pc := 12) (b := b + 16) fX4_26 dX4_rows_12 hd.1 rfl rfl ?_
  refine x_geti (pc := 15) fX4_226 dX4_rows_15 hd.2.2.2.2.1.1 rfl (fun r15a r15b => ?_)
  refine x_iret (pc := 18) dX4_rows_18 rfl (by decide) (by decide) ?_
  rw [hR2.1]
  exact k _ _ (Nat.le_refl _) hS2
set_option maxRecDepth 100000 in
theorem sp_X4_winner {g : GG} {lay : Lay} {M : Mem} {K : KK} {b : Nat} {sv : Nat → Option Nat} {T : CT} (gB : GoodB) (hd : DuL lay b sv) (hb0 : g.2.1 ≤ b) (hT : Ct T M (b + 1)) (hW : WfT T) (k : ∀ M2 n, lay.2 ≤ n → Scr b M M2 → K (oI (winF T)) (lay.1, n) M2) : X g m_X4_winner 0 0 lay M 0 [(0, vR b)] [] K := by
  have hOO := hW.2.2.2.2.2.2.1
  have hov := hT.2.2.2.2.2.2.1
  have sr0 := scoreF_rng hW (buildF (tP T)) (pl := 0) (by decide)
  have sr1 := scoreF_rng hW (buildF (tP T)) (pl := 1) (by decide)
  unfold winF at k
  refine x_aload_n (pc := 0) dX4_winner_0 rfl rfl ?_
  refine x_getr (pc := 1) (b := b + 1) fX4_10 dX4_winner_1 hd.1 rfl rfl ?_
  refine x_getz (pc := 4) fX4_117 dX4_winner_4 hd.2.1.1 rfl (fun r4a r4b => ?_)
  rw [hov] at r4a r4b ⊢
  refine x_if_ne (pc := 7) (t := 12) dX4_winner_7 (by decide) ⟨by omega, by omega⟩ (fun c7 => ?_) (fun c7 => ?_)
  · refine x_aload_n (pc := 12) dX4_winner_12 rfl rfl ?_
    refine x_aload_n (pc := 13) dX4_winner_13 rfl rfl ?_
    refine x_getr (pc := 14) (b := b + 1) fX4_10 dX4_winner_14 hd.1 rfl rfl ?_
    refine x_getr (pc := 17) (b := b + 1 + 2) fX4_147 dX4_winner_17 hd.2.1.1 rfl rfl ?_
    refine x_callV (pc := 20) [_] rfl kX4_162 dX4_winner_20 hd.1 rfl rfl (by decide) (Nat.le_of_ble_eq_true rfl) (Nat.le_of_ble_eq_true rfl) (by decide) ?_
    refine sp_X4_buildRows gB hd hb0 hd.2.1.2.2.1 (by omega) hW.2.1 (fun i hi => hT.2.1 i hi) (fun M2 hF2 hR2 => ?_)
    have gW := (gB (tP T) hW.2.1).2
    have hT2 : Ct T M2 (b + 1) := hT.frm hF2 (by omega)
    have hS2 : Scr b M M2 := Scr.rf.fr hF2 (by omega)
    refine ⟨_, rfl, ?_⟩
    refine x_aload_n (pc := 23) dX4_winner_23 rfl rfl ?_
    refine x_getr (pc := 24) (b := b + 1) fX4_10 dX4_winner_24 hd.1 rfl rfl ?_
    refine x_iconst (pc := 27) dX4_winner_27 ?_
    refine x_aload_n (pc := 28) dX4_winner_28 rfl rfl ?_
    refine x_getr (pc := 29) (b := b + 16) fX4_26 dX4_winner_29 hd.1 rfl rfl ?_
    refine x_callV (pc := 32) [_, _] rfl kX4_174 dX4_winner_32 hd.2.1.1 rfl rfl (by decide) (Nat.le_of_ble_eq_true rfl) (Nat.le_of_ble_eq_true rfl) (by decide) ?_
    refine sp_X0_score (pl := 0) hd.2.1 hT2 hW hd.2.2.2.2.1 hR2 gW (by omega) (by omega) (by decide) (fun M3 hF3 => ?_)
    have hT3 := hT2.frm hF3 (by omega)
    have hR3 := hR2.w gW.1 hF3 (by omega)
    have hS3 := hS2.fr hF3 (by omega)
    refine ⟨_, rfl, ?_⟩
    refine x_istore_n (pc := 35) dX4_winner_35 rfl (by decide) (L' := [(1, _), (0, _)]) rfl ?_
    refine x_aload_n (pc := 36) dX4_winner_36 rfl rfl ?_
    refine x_getr (pc := 37) (b := b + 1) fX4_10 dX4_winner_37 hd.1 rfl rfl ?_
    refine x_iconst (pc := 40) dX4_winner_40 ?_
    refine x_aload_n (pc := 41) dX4_winner_41 rfl rfl ?_
    refine x_getr (pc := 42) (b := b + 16) fX4_26 dX4_winner_42 hd.1 rfl rfl ?_
    refine x_callV (pc := 45) [_, _] rfl kX4_174 dX4_winner_45 hd.2.1.1 rfl rfl (by decide) (Nat.le_of_ble_eq_true rfl) (Nat.le_of_ble_eq_true rfl) (by decide) ?_
    refine sp_X0_score (pl := 1) hd.2.1 hT3 hW hd.2.2.2.2.1 hR3 gW (by omega) (by omega) (by decide) (fun M4 hF4 => ?_)
    have hS4 := hS3.fr hF4 (by omega)
    refine ⟨_, rfl, ?_⟩
    refine x_istore_n (pc := 48) dX4_winner_48 rfl (by decide) (L' := [(2, _), (1, _), (0, _)]) rfl ?_
    refine x_iload_n (pc := 49) dX4_winner_49 rfl rfl ?_
    refine x_iload_n (pc := 50) dX4_winner_50 rfl rfl ?_
    refine x_icmp_ne (pc := 51) (t := 56) dX4_winner_51 (by decide) ⟨by omega, by omega⟩ ⟨by omega, by omega⟩ (fun c51 => ?_) (fun c51 => ?_)
    · refine x_iload_n (pc := 56) dX4_winner_56 rfl rfl ?_
      refine x_iload_n (pc := 57) dX4_winner_57 rfl rfl ?_
      refine x_icmp_le (pc := 58) (t := 65) dX4_winner_58 (by decide) ⟨by omega, by omega⟩ ⟨by omega, by omega⟩ (fun c58 => ?_) (fun c58 => ?_)
      · refine x_iconst (pc := 65) dX4_winner_65 ?_
        refine x_iret (pc := 66) dX4_winner_66 rfl (by decide) (by decide) ?_
        refine kE2 (k _ _ (Nat.le_refl _) hS4) ?_
        rw [if_neg (by omega)]
        first
        | rw [if_pos (by omega)]
        | (rw [if_neg (by omega)]
           first
           | rw [if_pos (by omega)]
           | rw [if_neg (by omega)])
      · refine x_iconst (pc := 61) dX4_winner_61 ?_
        refine x_goto (pc := 62) (t := 66) dX4_winner_62 (by decide) ?_
        refine x_iret (pc := 66) dX4_winner_66 rfl (by decide) (by decide) ?_
        refine kE2 (k _ _ (Nat.le_refl _) hS4) ?_
        rw [if_neg (by omega)]
        first
        | rw [if_pos (by omega)]
        | (rw [if_neg (by omega)]
           first
           | rw [if_pos (by omega)]
           | rw [if_neg (by omega)])
    · refine x_iconst (pc := 54) dX4_winner_54 ?_
      refine x_iret (pc := 55) dX4_winner_55 rfl (by decide) (by decide) ?_
      refine kE2 (k _ _ (Nat.le_refl _) hS4) ?_
      rw [if_neg (by omega)]
      first
      | rw [if_pos (by omega)]
      | (rw [if_neg (by omega)]
         first
         | rw [if_pos (by omega)]
         | rw [if_neg (by omega)])
  · refine x_iconst (pc := 10) dX4_winner_10 ?_
    refine x_iret (pc := 11) dX4_winner_11 rfl (by decide) (by decide) ?_
    refine kE2 (k _ _ (Nat.le_refl _) Scr.rf) ?_
    rw [if_pos (by omega)]
