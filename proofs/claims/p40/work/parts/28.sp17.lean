/-! Specs of RootDuel, fifth part: multiplicity, changes, surplus, undo, terms tried. -/
def setP (T : CT) (P : Nat → Int) : CT := (tS T, P, tN T, tC T, tQ T, tK T, tL T, tO T, tB T)
/-- the contest behind a term, of which the points are asked: only coefficients and bonus differ -/
def tryT (T : CT) (x : Int) (p : Nat) : CT := setB (setP T (fup (tP T) p (tP T p + x))) (if 0 < tS T 4 ∧ tS T 4 ≤ allD (buildF (fup (tP T) p (tP T p + x))) then ((tN T % 2 : Nat) : Int) else -1)
def leadF (T : CT) (x : Int) (p : Nat) : Int := scoreF (tryT T x p) (buildF (fup (tP T) p (tP T p + x))) (tN T % 2) - scoreF (tryT T x p) (buildF (fup (tP T) p (tP T p + x))) (1 - tN T % 2)
def bstep (T : CT) (p : Nat) (x : Int) (q : Int × Int) : Int × Int := if x = 0 ∨ whyLayF T x p ≠ 0 then q else if q.1 = -1 ∨ q.2 < leadF T x p then (20 * p + x + 10, leadF T x p) else q
def bin (T : CT) (p : Nat) : Nat → Int × Int → Int × Int
  | 0, q => q
  | n + 1, q => bstep T p (-9 + n) (bin T p n q)
def bout (T : CT) : Nat → Int × Int
  | 0 => (-1, 0)
  | n + 1 => bin T n 19 (bout T n)
def bestF (T : CT) : Int := (bout T (tS T 0).toNat).1
def behF (T : CT) (w : Int) : Int := if w = 0 then allD (buildF (tP T)) else if w = 1 then scoreF T (buildF (tP T)) 0 else if w = 2 then scoreF T (buildF (tP T)) 1 else tO T
def rBehind (T : CT) (x p w : Int) : Res := if ¬ hasP T p then eIO else if ¬ (layab x ∧ 0 ≤ w ∧ w ≤ 3) then eIA else if whyLayF T x p.toNat ≠ 0 then eIS else oI (behF (tTerm T x p.toNat) w)
theorem mulF_le (w : Nat → Int) : ∀ n, -1 ≤ mulF w n ∧ mulF w n ≤ 5
  | 0 => by simp [mulF]
  | n + 1 => by
    have := mulF_le w n
    simp only [mulF]
    split <;> omega
theorem WfT.p {T : CT} {P : Nat → Int} (h : WfT T) (hP : WfP P) : WfT (setP T P) := ⟨h.1, hP, h.2.2⟩
theorem Ct.setP {T : CT} {M : Mem} {c p : Nat} {v : Int} (h : Ct T M c) (hp : p < 5) : Ct (setP T (fup (tP T) p v)) (mset M (c + 2) p v) c := by
  obtain ⟨h1, h2, h3, h4, h5, h6, h7, h8⟩ := h
  refine ⟨fun j hj => ?_, fun j hj => ?_, ?_, fun j hj => ?_, fun j hj => ?_, fun p i f hp hi hf2 => ?_, ?_, ?_⟩
  · rw [mset_nea (by omega)]; exact h1 j hj
  · show _ = fup (tP T) p v j
    unfold fup
    by_cases e : j = p
    · rw [if_pos e, e, mset_same]
    · rw [if_neg e, mset_nei e]; exact h2 j hj
  · rw [mset_nea (by omega)]; exact h3
  · rw [mset_nea (by omega), mset_nea (by omega)]; exact h4 j hj
  · rw [mset_nea (by omega)]; exact h5 j hj
  · rw [mset_nea (by omega)]; exact h6 p i f hp hi hf2
  · rw [mset_nea (by omega)]; exact h7
  · rw [mset_nea (by omega)]; exact h8

set_option maxRecDepth 100000 in
theorem sp_X4_multiplicity {g : GG} {lay : Lay} {M : Mem} {K : KK} {b : Nat} {sv : Nat → Option Nat} {T : CT} {x : Int} (gB : GoodB) (hd : DuL lay b sv) (hb0 : g.2.1 ≤ b) (hT : Ct T M (b + 1)) (hW : WfT T) (hx : i32 x) (k : ∀ M2 n, lay.2 ≤ n → Scr b M M2 → K (rMul T x) (lay.1, n) M2) : X g m_X4_multiplicity 0 0 lay M 0 [(0, vR b), (1, vI x)] [] K := by
  unfold rMul at k
  have z1 := @b01 (placeP x) inferInstance
  have wP := hW.2.1
  obtain ⟨U, hU⟩ : ∃ U, U = mulF (shP (tP T) x) 5 := ⟨_, rfl⟩
  rw [← hU] at k
  have loop : placeP x → ∀ (n : Nat) (y : Int) (M1 : Mem), y + n = 5 → n ≤ 5 → Scr b M M1 → (∀ i, i < 5 → M1 (b + 31) i = shP (tP T) x i) → mulF (shP (tP T) x) n = U → X g m_X4_multiplicity 0 0 lay M1 22 [(2, vI y), (0, vR b), (1, vI x)] [] K := by
    intro hpx n
    have bnd := shiftF_64 (w := tP T) hpx (fun i _ => ⟨(wP i).1, (wP i).2.1⟩) 5 (by decide)
    rw [if_neg (fun z => z hpx)] at k
    induction n with
    | zero =>
      intro y M1 hy hn hS hw ht
      simp only [mulF] at ht
      refine x_iload_n (pc := 22) dX4_multiplicity_22 rfl rfl ?_
      refine x_iconst (pc := 23) dX4_multiplicity_23 ?_
      refine x_icmp_ge (pc := 24) (t := 46) dX4_multiplicity_24 (by decide) ⟨by omega, by omega⟩ ⟨by omega, by omega⟩ (fun c24 => ?_) (fun c24 => ?_)
      · refine x_iconst (pc := 46) dX4_multiplicity_46 ?_
        refine x_iret (pc := 47) dX4_multiplicity_47 rfl (by decide) (by decide) ?_
        rw [ht]
        exact k _ _ (Nat.le_refl _) hS
      · exfalso; omega
    | succ n ih =>
      intro y M1 hy hn hS hw ht
      have e1 := hw (5 - (n + 1)) (by omega)
      have e2 : y.toNat = 5 - (n + 1) := by omega
      have e3 := bnd (5 - (n + 1)) (by omega)
      rw [show shiftF x 5 (tP T) = shP (tP T) x from rfl] at e3
      simp only [mulF] at ht
      refine x_iload_n (pc := 22) dX4_multiplicity_22 rfl rfl ?_
      refine x_iconst (pc := 23) dX4_multiplicity_23 ?_
      refine x_icmp_ge (pc := 24) (t := 46) dX4_multiplicity_24 (by decide) ⟨by omega, by omega⟩ ⟨by omega, by omega⟩ (fun c24 => ?_) (fun c24 => ?_)
      · exfalso; omega
      · refine x_aload_n (pc := 27) dX4_multiplicity_27 rfl rfl ?_
        refine x_getr (pc := 28) (b := b + 31) fX4_48 dX4_multiplicity_28 hd.1 rfl rfl ?_
        refine x_iload_n (pc := 31) dX4_multiplicity_31 rfl rfl ?_
        refine x_lald (pc := 32) dX4_multiplicity_32 hd.2.2.2.2.2.2.2.2.1 (by omega) (by omega) (fun r32a r32b => ?_)
        rw [e2, e1]
        refine x_lconst (pc := 33) (x := 0) dX4_multiplicity_33 (by decide) ?_
        refine x_lcmp_eq (pc := 34) (t := 40) dX4_multiplicity_34 dX4_multiplicity_35 (by decide) ⟨by omega, by omega⟩ ⟨by omega, by omega⟩ (fun c34 => ?_) (fun c34 => ?_)
        · refine x_iinc (pc := 40) dX4_multiplicity_40 rfl (by decide) (L' := [(2, _), (0, _), (1, _)]) rfl ?_
          refine x_goto (pc := 43) (t := 22) dX4_multiplicity_43 (by decide) ?_
          refine X.loc [0, 1, 2] (L' := [(2, _), (0, _), (1, _)]) rfl ?_
          rw [if_neg (fun q => q c34)] at ht
          exact ih _ _ (by omega) (by omega) hS hw ht
        · refine x_iload_n (pc := 38) dX4_multiplicity_38 rfl rfl ?_
          refine x_iret (pc := 39) dX4_multiplicity_39 rfl (by decide) (by decide) ?_
          rw [if_pos c34] at ht
          rw [show y = ((5 - (n + 1) : Nat) : Int) by omega, ht]
          exact k _ _ (Nat.le_refl _) hS
  refine x_iload_n (pc := 0) dX4_multiplicity_0 rfl rfl ?_
  refine x_callS (pc := 1) [_] rfl kX4_216 dX4_multiplicity_1 rfl (by decide) (Nat.le_of_ble_eq_true rfl) (Nat.le_of_ble_eq_true rfl) (by decide) ?_
  refine sp_X4_isPlace hx ?_
  refine ⟨_, rfl, ?_⟩
  refine x_if_ne (pc := 4) (t := 15) dX4_multiplicity_4 (by decide) ⟨by omega, by omega⟩ (fun c4 => ?_) (fun c4 => ?_)
  · refine x_aload_n (pc := 15) dX4_multiplicity_15 rfl rfl ?_
    refine x_iload_n (pc := 16) dX4_multiplicity_16 rfl rfl ?_
    refine x_callV (pc := 17) [_] rfl kX4_229 dX4_multiplicity_17 hd.1 rfl rfl (by decide) (Nat.le_of_ble_eq_true rfl) (Nat.le_of_ble_eq_true rfl) (by decide) ?_
    have y0 := b1 c4
    refine sp_X4_shiftTo gB hd hb0 hT hW y0 (fun M2 hF2 hw2 => ?_)
    refine ⟨_, rfl, ?_⟩
    refine x_iconst (pc := 20) dX4_multiplicity_20 ?_
    refine x_istore_n (pc := 21) dX4_multiplicity_21 rfl (by decide) (L' := [(2, _), (0, _), (1, _)]) rfl ?_
    refine X.loc [0, 1, 2] (L' := [(2, _), (0, _), (1, _)]) rfl ?_
    exact loop y0 5 _ _ rfl (by decide) (Scr.rf.fr hF2 (by omega)) hw2 hU.symm
  · refine x_throw0 (pc := 7) ct67 dX4_multiplicity_7 dX4_multiplicity_10 dX4_multiplicity_11 dX4_multiplicity_14 rfl (by decide) (Nat.le_of_ble_eq_true rfl) (Nat.le_of_ble_eq_true rfl) ?_
    intro n hn
    refine kE2 (k _ n hn Scr.rf) ?_
    rw [if_pos (b0 c4)]
set_option maxRecDepth 100000 in
theorem sp_X4_derivativeChanges {g : GG} {lay : Lay} {M : Mem} {K : KK} {b : Nat} {sv : Nat → Option Nat} {T : CT} {x : Int} (gB : GoodB) (hd : DuL lay b sv) (hb0 : g.2.1 ≤ b) (hT : Ct T M (b + 1)) (hW : WfT T) (hx : placeP x) (k : ∀ M2, Frm (b + 31) (b + 32) M M2 → K (.inl (some (vI (derCh T x)))) lay M2) : X g m_X4_derivativeChanges 0 0 lay M 0 [(0, vR b), (1, vI x)] [] K := by
  have wP := hW.2.1
  have bnd := shiftF_64 (w := tP T) hx (fun i _ => ⟨(wP i).1, (wP i).2.1⟩) 5 (by decide)
  rw [show shiftF x 5 (tP T) = shP (tP T) x from rfl] at bnd
  have hcr := chZ_rng (fun i => sg (shP (tP T) x i)) (fun q => sg_rng _)
  unfold derCh at k
  have loop : ∀ (d j : Nat) (y acc la : Int) (M1 : Mem), j + d = 5 → y = j → Frm (b + 31) (b + 32) M M1 → (∀ i, i < 5 → M1 (b + 31) i = shP (tP T) x i) → acc = (chZ (fun i => sg (shP (tP T) x i)) j).1 → la = (chZ (fun i => sg (shP (tP T) x i)) j).2 → X g m_X4_derivativeChanges 0 0 lay M1 12 [(4, vI y), (3, vI la), (2, vI acc), (0, vR b), (1, vI x)] [] K := by
    intro d
    induction d with
    | zero =>
      intro j y acc la M1 hj hy hF hw ha hla
      refine x_iload (pc := 12) dX4_derivativeChanges_12 rfl ?_
      refine x_iconst (pc := 14) dX4_derivativeChanges_14 ?_
      refine x_icmp_ge (pc := 15) (t := 55) dX4_derivativeChanges_15 (by decide) ⟨by omega, by omega⟩ ⟨by omega, by omega⟩ (fun c15 => ?_) (fun c15 => ?_)
      · refine x_iload_n (pc := 55) dX4_derivativeChanges_55 rfl rfl ?_
        refine x_iret (pc := 56) dX4_derivativeChanges_56 rfl (by decide) (by decide) ?_
        rw [ha, show j = 5 by omega]
        exact k _ hF
      · exfalso; omega
    | succ d ih =>
      intro j y acc la M1 hj hy hF hw ha hla
      subst hy
      have h1 := hcr j
      have h2 := sg_rng (shP (tP T) x j)
      have e1 := hw j (by omega)
      have e3 := bnd j (by omega)
      have hsg : (if shP (tP T) x j < 0 then (-1 : Int) else if shP (tP T) x j = 0 then 0 else 1) = sg (shP (tP T) x j) := by unfold sg; grind
      refine x_iload (pc := 12) dX4_derivativeChanges_12 rfl ?_
      refine x_iconst (pc := 14) dX4_derivativeChanges_14 ?_
      refine x_icmp_ge (pc := 15) (t := 55) dX4_derivativeChanges_15 (by decide) ⟨by omega, by omega⟩ ⟨by omega, by omega⟩ (fun c15 => ?_) (fun c15 => ?_)
      · exfalso; omega
      · refine x_aload_n (pc := 18) dX4_derivativeChanges_18 rfl rfl ?_
        refine x_getr (pc := 19) (b := b + 31) fX4_48 dX4_derivativeChanges_19 hd.1 rfl rfl ?_
        refine x_iload (pc := 22) dX4_derivativeChanges_22 rfl ?_
        refine x_lald (pc := 24) dX4_derivativeChanges_24 hd.2.2.2.2.2.2.2.2.1 (by omega) (by omega) (fun r24a r24b => ?_)
        rw [Int.toNat_natCast, e1]
        refine x_lconst (pc := 25) (x := 0) dX4_derivativeChanges_25 (by decide) ?_
        refine x_callS (pc := 26) [_, _] rfl kX4_299 dX4_derivativeChanges_26 rfl (by decide) (Nat.le_of_ble_eq_true rfl) (Nat.le_of_ble_eq_true rfl) (by decide) ?_
        refine sp_J13_compare_74951 ⟨by omega, by omega⟩ (by decide) ?_
        refine ⟨_, rfl, ?_⟩
        rw [hsg]
        refine x_istore (pc := 29) dX4_derivativeChanges_29 trivial (by decide) (L' := [(5, _), (4, _), (3, _), (2, _), (0, _), (1, _)]) rfl ?_
        refine x_iload (pc := 31) dX4_derivativeChanges_31 rfl ?_
        refine x_if_eq (pc := 33) (t := 49) dX4_derivativeChanges_33 (by decide) ⟨by omega, by omega⟩ (fun c33 => ?_) (fun c33 => ?_)
        · refine x_iinc (pc := 49) dX4_derivativeChanges_49 rfl (by decide) (L' := [(4, _), (5, _), (3, _), (2, _), (0, _), (1, _)]) rfl ?_
          refine x_goto (pc := 52) (t := 12) dX4_derivativeChanges_52 (by decide) ?_
          refine X.loc [0, 2, 3, 4, 5] (L' := [(4, _), (3, _), (2, _), (0, _), (1, _)]) rfl ?_
          refine ih (j + 1) _ _ _ _ (by omega) (by omega) hF hw ?_ ?_
          · simp only [chZ]
            grind
          · simp only [chZ]
            grind
        · refine x_iload_n (pc := 36) dX4_derivativeChanges_36 rfl rfl ?_
          refine x_iload (pc := 37) dX4_derivativeChanges_37 rfl ?_
          refine x_ineg (pc := 39) dX4_derivativeChanges_39 ?_
          refine x_icmp_ne (pc := 40) (t := 46) dX4_derivativeChanges_40 (by decide) ⟨by omega, by omega⟩ ⟨by omega, by omega⟩ (fun c40 => ?_) (fun c40 => ?_)
          · refine x_iload (pc := 46) dX4_derivativeChanges_46 rfl ?_
            refine x_istore_n (pc := 48) dX4_derivativeChanges_48 rfl (by decide) (L' := [(3, _), (5, _), (4, _), (2, _), (0, _), (1, _)]) rfl ?_
            refine x_iinc (pc := 49) dX4_derivativeChanges_49 rfl (by decide) (L' := [(4, _), (3, _), (5, _), (2, _), (0, _), (1, _)]) rfl ?_
            refine x_goto (pc := 52) (t := 12) dX4_derivativeChanges_52 (by decide) ?_
            refine X.loc [0, 1, 3, 4, 5] (L' := [(4, _), (3, _), (2, _), (0, _), (1, _)]) rfl ?_
            refine ih (j + 1) _ _ _ _ (by omega) (by omega) hF hw ?_ ?_
            · simp only [chZ]
              grind
            · simp only [chZ]
              grind
          · refine x_iinc (pc := 43) dX4_derivativeChanges_43 rfl (by decide) (L' := [(2, _), (5, _), (4, _), (3, _), (0, _), (1, _)]) rfl ?_
            refine x_iload (pc := 46) dX4_derivativeChanges_46 rfl ?_
            refine x_istore_n (pc := 48) dX4_derivativeChanges_48 rfl (by decide) (L' := [(3, _), (2, _), (5, _), (4, _), (0, _), (1, _)]) rfl ?_
            refine x_iinc (pc := 49) dX4_derivativeChanges_49 rfl (by decide) (L' := [(4, _), (3, _), (2, _), (5, _), (0, _), (1, _)]) rfl ?_
            refine x_goto (pc := 52) (t := 12) dX4_derivativeChanges_52 (by decide) ?_
            refine X.loc [0, 1, 2, 4, 5] (L' := [(4, _), (3, _), (2, _), (0, _), (1, _)]) rfl ?_
            refine ih (j + 1) _ _ _ _ (by omega) (by omega) hF hw ?_ ?_
            · simp only [chZ]
              grind
            · simp only [chZ]
              grind
  refine x_aload_n (pc := 0) dX4_derivativeChanges_0 rfl rfl ?_
  refine x_iload_n (pc := 1) dX4_derivativeChanges_1 rfl rfl ?_
  refine x_callV (pc := 2) [_] rfl kX4_229 dX4_derivativeChanges_2 hd.1 rfl rfl (by decide) (Nat.le_of_ble_eq_true rfl) (Nat.le_of_ble_eq_true rfl) (by decide) ?_
  refine sp_X4_shiftTo gB hd hb0 hT hW hx (fun M2 hF2 hw2 => ?_)
  refine ⟨_, rfl, ?_⟩
  refine x_iconst (pc := 5) dX4_derivativeChanges_5 ?_
  refine x_istore_n (pc := 6) dX4_derivativeChanges_6 rfl (by decide) (L' := [(2, _), (0, _), (1, _)]) rfl ?_
  refine x_iconst (pc := 7) dX4_derivativeChanges_7 ?_
  refine x_istore_n (pc := 8) dX4_derivativeChanges_8 rfl (by decide) (L' := [(3, _), (2, _), (0, _), (1, _)]) rfl ?_
  refine x_iconst (pc := 9) dX4_derivativeChanges_9 ?_
  refine x_istore (pc := 10) dX4_derivativeChanges_10 trivial (by decide) (L' := [(4, _), (3, _), (2, _), (0, _), (1, _)]) rfl ?_
  refine X.loc [0, 1, 2, 3, 4] (L' := [(4, _), (3, _), (2, _), (0, _), (1, _)]) rfl ?_
  exact loop 5 0 _ _ _ _ rfl rfl hF2 hw2 rfl rfl
set_option maxRecDepth 100000 in
theorem sp_X4_changes {g : GG} {lay : Lay} {M : Mem} {K : KK} {b : Nat} {sv : Nat → Option Nat} {T : CT} {r x : Int} (gB : GoodB) (hd : DuL lay b sv) (hb0 : g.2.1 ≤ b) (hT : Ct T M (b + 1)) (hW : WfT T) (hr : i32 r) (hx : i32 x) (k : ∀ M2 n, lay.2 ≤ n → Scr b M M2 → K (rChanges T r x) (lay.1, n) M2) : X g m_X4_changes 0 0 lay M 0 [(0, vR b), (1, vI r), (2, vI x)] [] K := by
  obtain ⟨hr1, hr2⟩ := hr
  have z1 := @b01 (placeP x) inferInstance
  unfold rChanges at k
  refine x_iload_n (pc := 0) dX4_changes_0 rfl rfl ?_
  refine x_iconst (pc := 1) dX4_changes_1 ?_
  refine x_icmp_lt (pc := 2) (t := 17) dX4_changes_2 (by decide) ⟨by omega, by omega⟩ ⟨by omega, by omega⟩ (fun c2 => ?_) (fun c2 => ?_)
  · refine x_throw0 (pc := 17) ct67 dX4_changes_17 dX4_changes_20 dX4_changes_21 dX4_changes_24 rfl (by decide) (Nat.le_of_ble_eq_true rfl) (Nat.le_of_ble_eq_true rfl) ?_
    intro n hn
    refine kE2 (k _ n hn Scr.rf) ?_
    first
    | (have y0 := b0 c14
       rw [if_pos (fun z => y0 z.2)])
    | rw [if_pos (by omega)]
  · refine x_iload_n (pc := 5) dX4_changes_5 rfl rfl ?_
    refine x_iconst (pc := 6) dX4_changes_6 ?_
    refine x_icmp_gt (pc := 7) (t := 17) dX4_changes_7 (by decide) ⟨by omega, by omega⟩ ⟨by omega, by omega⟩ (fun c7 => ?_) (fun c7 => ?_)
    · refine x_throw0 (pc := 17) ct67 dX4_changes_17 dX4_changes_20 dX4_changes_21 dX4_changes_24 rfl (by decide) (Nat.le_of_ble_eq_true rfl) (Nat.le_of_ble_eq_true rfl) ?_
      intro n hn
      refine kE2 (k _ n hn Scr.rf) ?_
      first
      | (have y0 := b0 c14
         rw [if_pos (fun z => y0 z.2)])
      | rw [if_pos (by omega)]
    · refine x_iload_n (pc := 10) dX4_changes_10 rfl rfl ?_
      refine x_callS (pc := 11) [_] rfl kX4_216 dX4_changes_11 rfl (by decide) (Nat.le_of_ble_eq_true rfl) (Nat.le_of_ble_eq_true rfl) (by decide) ?_
      refine sp_X4_isPlace hx ?_
      refine ⟨_, rfl, ?_⟩
      refine x_if_ne (pc := 14) (t := 25) dX4_changes_14 (by decide) ⟨by omega, by omega⟩ (fun c14 => ?_) (fun c14 => ?_)
      · refine x_iload_n (pc := 25) dX4_changes_25 rfl rfl ?_
        refine x_iconst (pc := 26) dX4_changes_26 ?_
        refine x_icmp_ne (pc := 27) (t := 36) dX4_changes_27 (by decide) ⟨by omega, by omega⟩ ⟨by omega, by omega⟩ (fun c27 => ?_) (fun c27 => ?_)
        · refine x_aload_n (pc := 36) dX4_changes_36 rfl rfl ?_
          refine x_aload_n (pc := 37) dX4_changes_37 rfl rfl ?_
          refine x_getr (pc := 38) (b := b + 1) fX4_10 dX4_changes_38 hd.1 rfl rfl ?_
          refine x_getr (pc := 41) (b := b + 1 + 2) fX4_147 dX4_changes_41 hd.2.1.1 rfl rfl ?_
          refine x_callV (pc := 44) [_] rfl kX4_162 dX4_changes_44 hd.1 rfl rfl (by decide) (Nat.le_of_ble_eq_true rfl) (Nat.le_of_ble_eq_true rfl) (by decide) ?_
          refine sp_X4_buildRows gB hd hb0 hd.2.1.2.2.1 (by omega) hW.2.1 (fun i hi => hT.2.1 i hi) (fun M2 hF2 hR2 => ?_)
          have gW := (gB (tP T) hW.2.1).2
          have hT2 : Ct T M2 (b + 1) := hT.frm hF2 (by omega)
          have hS2 : Scr b M M2 := Scr.rf.fr hF2 (by omega)
          refine ⟨_, rfl, ?_⟩
          refine x_aload_n (pc := 47) dX4_changes_47 rfl rfl ?_
          refine x_getr (pc := 48) (b := b + 16) fX4_26 dX4_changes_48 hd.1 rfl rfl ?_
          refine x_iload_n (pc := 51) dX4_changes_51 rfl rfl ?_
          refine x_callV (pc := 52) [_] rfl kX4_247 dX4_changes_52 hd.2.2.2.2.1.1 rfl rfl (by decide) (Nat.le_of_ble_eq_true rfl) (Nat.le_of_ble_eq_true rfl) (by decide) ?_
          have y0 := b1 c14
          refine sp_X3_changesAt hd.2.2.2.2.1 hR2 gW y0 ?_
          refine ⟨_, rfl, ?_⟩
          refine x_iret (pc := 55) dX4_changes_55 rfl (by decide) (by decide) ?_
          refine kE2 (k _ _ (Nat.le_refl _) hS2) ?_
          rw [if_neg (fun z => z ⟨by omega, y0⟩), if_neg (by omega)]
        · refine x_aload_n (pc := 30) dX4_changes_30 rfl rfl ?_
          refine x_iload_n (pc := 31) dX4_changes_31 rfl rfl ?_
          refine x_callV (pc := 32) [_] rfl kX4_244 dX4_changes_32 hd.1 rfl rfl (by decide) (Nat.le_of_ble_eq_true rfl) (Nat.le_of_ble_eq_true rfl) (by decide) ?_
          have y0 := b1 c14
          refine sp_X4_derivativeChanges gB hd hb0 hT hW y0 (fun M2 hF2 => ?_)
          refine ⟨_, rfl, ?_⟩
          refine x_iret (pc := 35) dX4_changes_35 rfl (by decide) (by decide) ?_
          refine kE2 (k _ _ (Nat.le_refl _) (Scr.rf.fr hF2 (by omega))) ?_
          rw [if_neg (fun z => z ⟨by omega, y0⟩), if_pos (by omega)]
      · refine x_throw0 (pc := 17) ct67 dX4_changes_17 dX4_changes_20 dX4_changes_21 dX4_changes_24 rfl (by decide) (Nat.le_of_ble_eq_true rfl) (Nat.le_of_ble_eq_true rfl) ?_
        intro n hn
        refine kE2 (k _ n hn Scr.rf) ?_
        first
        | (have y0 := b0 c14
           rw [if_pos (fun z => y0 z.2)])
        | rw [if_pos (by omega)]
set_option maxRecDepth 100000 in
theorem sp_X4_surplus {g : GG} {lay : Lay} {M : Mem} {K : KK} {b : Nat} {sv : Nat → Option Nat} {T : CT} {x y : Int} (gB : GoodB) (hd : DuL lay b sv) (hb0 : g.2.1 ≤ b) (hT : Ct T M (b + 1)) (hW : WfT T) (gC : ∀ P, WfP P → cntOK 5 (buildF P)) (hx : i32 x) (hy : i32 y) (k : ∀ M2 n, lay.2 ≤ n → Scr b M M2 → K (rSur T x y) (lay.1, n) M2) : X g m_X4_surplus 0 0 lay M 0 [(0, vR b), (1, vI x), (2, vI y)] [] K := by
  have z1 := @b01 (intvP x y) inferInstance
  have h5 := buildF_le (tP T)
  unfold rSur surF at k
  refine x_iload_n (pc := 0) dX4_surplus_0 rfl rfl ?_
  refine x_iload_n (pc := 1) dX4_surplus_1 rfl rfl ?_
  refine x_callS (pc := 2) [_, _] rfl kX4_196 dX4_surplus_2 rfl (by decide) (Nat.le_of_ble_eq_true rfl) (Nat.le_of_ble_eq_true rfl) (by decide) ?_
  refine sp_X4_isInterval hx hy ?_
  refine ⟨_, rfl, ?_⟩
  refine x_if_ne (pc := 5) (t := 16) dX4_surplus_5 (by decide) ⟨by omega, by omega⟩ (fun c5 => ?_) (fun c5 => ?_)
  · refine x_aload_n (pc := 16) dX4_surplus_16 rfl rfl ?_
    refine x_aload_n (pc := 17) dX4_surplus_17 rfl rfl ?_
    refine x_getr (pc := 18) (b := b + 1) fX4_10 dX4_surplus_18 hd.1 rfl rfl ?_
    refine x_getr (pc := 21) (b := b + 1 + 2) fX4_147 dX4_surplus_21 hd.2.1.1 rfl rfl ?_
    refine x_callV (pc := 24) [_] rfl kX4_162 dX4_surplus_24 hd.1 rfl rfl (by decide) (Nat.le_of_ble_eq_true rfl) (Nat.le_of_ble_eq_true rfl) (by decide) ?_
    refine sp_X4_buildRows gB hd hb0 hd.2.1.2.2.1 (by omega) hW.2.1 (fun i hi => hT.2.1 i hi) (fun M2 hF2 hR2 => ?_)
    have gW := (gB (tP T) hW.2.1).2
    have hT2 : Ct T M2 (b + 1) := hT.frm hF2 (by omega)
    have hS2 : Scr b M M2 := Scr.rf.fr hF2 (by omega)
    refine ⟨_, rfl, ?_⟩
    refine x_aload_n (pc := 27) dX4_surplus_27 rfl rfl ?_
    refine x_getr (pc := 28) (b := b + 16) fX4_26 dX4_surplus_28 hd.1 rfl rfl ?_
    refine x_geti (pc := 31) fX4_226 dX4_surplus_31 hd.2.2.2.2.1.1 rfl (fun r31a r31b => ?_)
    rw [hR2.1] at r31a r31b ⊢
    have y0 := b1 c5
    refine x_if_ne (pc := 34) (t := 39) dX4_surplus_34 (by decide) ⟨by omega, by omega⟩ (fun c34 => ?_) (fun c34 => ?_)
    · refine x_aload_n (pc := 39) dX4_surplus_39 rfl rfl ?_
      refine x_iload_n (pc := 40) dX4_surplus_40 rfl rfl ?_
      refine x_callV (pc := 41) [_] rfl kX4_244 dX4_surplus_41 hd.1 rfl rfl (by decide) (Nat.le_of_ble_eq_true rfl) (Nat.le_of_ble_eq_true rfl) (by decide) ?_
      refine sp_X4_derivativeChanges gB hd hb0 hT2 hW y0.1 (fun M3 hF3 => ?_)
      have hT3 := hT2.frm hF3 (by omega)
      have hR3 := hR2.w h5 hF3 (by omega)
      refine ⟨_, rfl, ?_⟩
      refine x_aload_n (pc := 44) dX4_surplus_44 rfl rfl ?_
      refine x_iload_n (pc := 45) dX4_surplus_45 rfl rfl ?_
      refine x_callV (pc := 46) [_] rfl kX4_244 dX4_surplus_46 hd.1 rfl rfl (by decide) (Nat.le_of_ble_eq_true rfl) (Nat.le_of_ble_eq_true rfl) (by decide) ?_
      refine sp_X4_derivativeChanges gB hd hb0 hT3 hW y0.2.1 (fun M4 hF4 => ?_)
      have hR4 := hR3.w h5 hF4 (by omega)
      refine ⟨_, rfl, ?_⟩
      refine x_isub (pc := 49) dX4_surplus_49 ?_
      refine x_aload_n (pc := 50) dX4_surplus_50 rfl rfl ?_
      refine x_getr (pc := 51) (b := b + 16) fX4_26 dX4_surplus_51 hd.1 rfl rfl ?_
      refine x_iload_n (pc := 54) dX4_surplus_54 rfl rfl ?_
      refine x_iload_n (pc := 55) dX4_surplus_55 rfl rfl ?_
      refine x_callV (pc := 56) [_, _] rfl kX4_250 dX4_surplus_56 hd.2.2.2.2.1.1 rfl rfl (by decide) (Nat.le_of_ble_eq_true rfl) (Nat.le_of_ble_eq_true rfl) (by decide) ?_
      refine sp_X3_countedBetween hd.2.2.2.2.1 (by omega) hR4 h5 (gC _ hW.2.1) (by omega) (by omega) (fun M5 hF5 => ?_)
      refine ⟨_, rfl, ?_⟩
      refine x_isub (pc := 59) dX4_surplus_59 ?_
      refine x_iret (pc := 60) dX4_surplus_60 rfl (by decide) (by decide) ?_
      refine kE2 (k _ _ (Nat.le_refl _) (((hS2.fr hF3 (by omega)).fr hF4 (by omega)).fr hF5 (by omega))) ?_
      rw [if_neg (fun z => z y0), if_neg (by omega)]
    · refine x_iconst (pc := 37) dX4_surplus_37 ?_
      refine x_iret (pc := 38) dX4_surplus_38 rfl (by decide) (by decide) ?_
      refine kE2 (k _ _ (Nat.le_refl _) hS2) ?_
      rw [if_neg (fun z => z y0), if_pos (by omega)]
  · refine x_throw0 (pc := 8) ct67 dX4_surplus_8 dX4_surplus_11 dX4_surplus_12 dX4_surplus_15 rfl (by decide) (Nat.le_of_ble_eq_true rfl) (Nat.le_of_ble_eq_true rfl) ?_
    intro n hn
    refine kE2 (k _ n hn Scr.rf) ?_
    rw [if_pos (b0 c5)]
