/-! Counts that add up, nearer and nearer roots (areRoots). -/
def fbA : Nat → Nat
  | 0 => 0
  | j + 1 => fbA j * 2000 + 39 * 64 ^ j
theorem itsA_b {x : Int} (h : x.natAbs ≤ 39) : ∀ j, (itsA x j).natAbs ≤ 39 * 64 ^ j
  | 0 => by simpa [itsA] using h
  | j + 1 => by
    have := itsA_b h j
    simp only [itsA, Int.natAbs_mul, Nat.pow_succ]
    have e : (64 : Int).natAbs = 64 := rfl
    rw [e, ← Nat.mul_assoc]
    exact Nat.mul_le_mul_right 64 this
theorem fnA_nb {P : Nat → Int} {top : Nat} {n : Int} (hP : ∀ i, -39 ≤ P i ∧ P i ≤ 39) (hn : n.natAbs ≤ 2000) : ∀ j, (fnA P top n j).natAbs ≤ fbA j
  | 0 => by simp [fnA, fbA]
  | j + 1 => by
    have h1 := fnA_nb hP hn j (top := top)
    have h2 := itsA_b (x := P (top - j)) (by have := hP (top - j); omega) j
    have h3 := Int.natAbs_add_le (fnA P top n j * n) (itsA (P (top - j)) j)
    rw [Int.natAbs_mul] at h3
    have h4 := Nat.mul_le_mul h1 hn
    simp only [fnA, fbA]
    omega
theorem fnA_b {P : Nat → Int} {top : Nat} {n : Int} (hP : ∀ i, -39 ≤ P i ∧ P i ≤ 39) (hn : -2000 ≤ n ∧ n ≤ 2000) {j : Nat} (hj : j ≤ 5) : -1000000000000000 < fnA P top n j ∧ fnA P top n j < 1000000000000000 := by
  have h := fnA_nb (top := top) hP (n := n) (by omega) j
  have h2 : fbA j ≤ 700000000000000 := by
    rcases (show j = 0 ∨ j = 1 ∨ j = 2 ∨ j = 3 ∨ j = 4 ∨ j = 5 by omega) with rfl | rfl | rfl | rfl | rfl | rfl <;> decide
  omega
def rcOK (n : Int) : Bool := decide ((Op.cmpValue (FP.dcmp (rtF n) (rtF n)) .l).toInt = 0)
theorem rc_all : (List.range 3970).all (fun k => rcOK ((k : Int) - 1985)) = true := by decide +kernel
theorem rt_cmp {n : Int} (h : -1985 ≤ n ∧ n < 1985) : (Op.cmpValue (FP.dcmp (rtF n) (rtF n)) .l).toInt = 0 := by
  have h1 := List.all_eq_true.mp rc_all (n + 1985).toNat (List.mem_range.mpr (by omega))
  rw [show (((n + 1985).toNat : Nat) : Int) - 1985 = n by omega] at h1
  exact of_decide_eq_true h1
theorem degF_rng (P : Nat → Int) : ∀ n : Nat, -1 ≤ degF P n ∧ degF P n < n
  | 0 => by simp [degF]
  | n + 1 => by
    have := degF_rng P n
    simp only [degF]
    split <;> omega
def sumD (R : RS) : Nat → Int
  | 0 => 0
  | n + 1 => sumD R n + dBet R (-20 + (n : Nat)) (-20 + (n : Nat) + 1)
/-- what the class must tell of no polynomial .. -/
def RtZ (T : CT) : Prop := allD (buildF (tP T)) = -1 ∧ dBet (buildF (tP T)) (-20) 20 = -1 ∧ degF (tP T) 5 = -1 ∧ (buildF (tP T)).1 = 0 ∧ surF T (-3) 3 = -1 ∧ mulF (shP (tP T) 0) 5 = -1 ∧ (chZ (fun q => sg (valF ((buildF (tP T)).2.1 q) 0 5)) (buildF (tP T)).1).1 = 0 ∧ derCh T 0 = 0
/-- .. and of a polynomial -/
def RtF (T : CT) (pw : Nat) : Prop := (sumD (buildF (tP T)) 40 = dBet (buildF (tP T)) (-20) 20) ∧ (dBet (buildF (tP T)) (-20) 20 ≤ allD (buildF (tP T))) ∧ (allD (buildF (tP T)) ≤ degF (tP T) 5) ∧ (ofSgn T (-1) + ofSgn T 0 + ofSgn T 1 = allD (buildF (tP T))) ∧ (∀ k : Int, 0 ≤ k → k < allD (buildF (tP T)) → belowF (buildF (tP T)) k 0 = belowF (buildF (tP T)) k 6 / 2 ^ 6 ∧ belowF (buildF (tP T)) k 3 = belowF (buildF (tP T)) k 6 / 2 ^ 3) ∧ (∀ k : Int, 0 < k → k < allD (buildF (tP T)) → belowF (buildF (tP T)) (k - 1) 6 ≤ belowF (buildF (tP T)) k 6) ∧ (∀ k : Int, 0 ≤ k → k < allD (buildF (tP T)) → (¬ k = 0 ∧ belowF (buildF (tP T)) (k - 1) 6 = belowF (buildF (tP T)) k 6) ∨ (¬ k + 1 = allD (buildF (tP T)) ∧ belowF (buildF (tP T)) (k + 1) 6 = belowF (buildF (tP T)) k 6) ∨ fnA (tP T) (pw - 1) (belowF (buildF (tP T)) k 6 + 1) pw = 0 ∨ fnA (tP T) (pw - 1) (belowF (buildF (tP T)) k 6) pw = 0 ∨ ¬ allD (buildF (tP T)) = degF (tP T) 5 ∨ ¬ sg (fnA (tP T) (pw - 1) (belowF (buildF (tP T)) k 6 + 1) pw) = sg (fnA (tP T) (pw - 1) (belowF (buildF (tP T)) k 6) pw)) ∧ (∀ x : Int, -20 ≤ x → x ≤ 20 → (0 < mulF (shP (tP T) x) 5 ↔ valF (tP T) x 5 = 0)) ∧ (0 ≤ surF T (-4) 7 ∧ (surF T (-4) 7).tmod 2 = 0 ∧ surF T (-4) 7 ≤ 1000) ∧ (-1000 ≤ surF T (-20) 20 ∧ surF T (-20) 20 ≤ 1000)
theorem RtF.s1 {T : CT} {pw : Nat} (h : RtF T pw) : sumD (buildF (tP T)) 40 = dBet (buildF (tP T)) (-20) 20 := h.1
theorem RtF.s2 {T : CT} {pw : Nat} (h : RtF T pw) : dBet (buildF (tP T)) (-20) 20 ≤ allD (buildF (tP T)) := h.2.1
theorem RtF.s3 {T : CT} {pw : Nat} (h : RtF T pw) : allD (buildF (tP T)) ≤ degF (tP T) 5 := h.2.2.1
theorem RtF.s4 {T : CT} {pw : Nat} (h : RtF T pw) : ofSgn T (-1) + ofSgn T 0 + ofSgn T 1 = allD (buildF (tP T)) := h.2.2.2.1
theorem RtF.near {T : CT} {pw : Nat} (h : RtF T pw) : ∀ k : Int, 0 ≤ k → k < allD (buildF (tP T)) → belowF (buildF (tP T)) k 0 = belowF (buildF (tP T)) k 6 / 2 ^ 6 ∧ belowF (buildF (tP T)) k 3 = belowF (buildF (tP T)) k 6 / 2 ^ 3 := h.2.2.2.2.1
theorem RtF.mono {T : CT} {pw : Nat} (h : RtF T pw) : ∀ k : Int, 0 < k → k < allD (buildF (tP T)) → belowF (buildF (tP T)) (k - 1) 6 ≤ belowF (buildF (tP T)) k 6 := h.2.2.2.2.2.1
theorem RtF.alone {T : CT} {pw : Nat} (h : RtF T pw) : ∀ k : Int, 0 ≤ k → k < allD (buildF (tP T)) → (¬ k = 0 ∧ belowF (buildF (tP T)) (k - 1) 6 = belowF (buildF (tP T)) k 6) ∨ (¬ k + 1 = allD (buildF (tP T)) ∧ belowF (buildF (tP T)) (k + 1) 6 = belowF (buildF (tP T)) k 6) ∨ fnA (tP T) (pw - 1) (belowF (buildF (tP T)) k 6 + 1) pw = 0 ∨ fnA (tP T) (pw - 1) (belowF (buildF (tP T)) k 6) pw = 0 ∨ ¬ allD (buildF (tP T)) = degF (tP T) 5 ∨ ¬ sg (fnA (tP T) (pw - 1) (belowF (buildF (tP T)) k 6 + 1) pw) = sg (fnA (tP T) (pw - 1) (belowF (buildF (tP T)) k 6) pw) := h.2.2.2.2.2.2.1
theorem RtF.mul {T : CT} {pw : Nat} (h : RtF T pw) : ∀ x : Int, -20 ≤ x → x ≤ 20 → (0 < mulF (shP (tP T) x) 5 ↔ valF (tP T) x 5 = 0) := h.2.2.2.2.2.2.2.1
theorem RtF.sur {T : CT} {pw : Nat} (h : RtF T pw) : 0 ≤ surF T (-4) 7 ∧ (surF T (-4) 7).tmod 2 = 0 ∧ surF T (-4) 7 ≤ 1000 := h.2.2.2.2.2.2.2.2.1
theorem RtF.sur2 {T : CT} {pw : Nat} (h : RtF T pw) : -1000 ≤ surF T (-20) 20 ∧ surF T (-20) 20 ≤ 1000 := h.2.2.2.2.2.2.2.2.2
def ArI (g : GG) (lay0 : Lay) (M0 : Mem) (lay : Lay) (M : Mem) (b c pw : Nat) (T : CT) (La : Nat → Int) (tn : Nat) (hp hc ov : Int) : Prop := (Ext lay0 lay ∧ ∀ y i, ¬ (b + 8 ≤ y ∧ y < b + 15 ∨ b + 16 ≤ y ∧ y < b + 25 ∨ y = b + 31) → M y i = M0 y i) ∧ Ds g lay M b T ∧ LcQ g lay M c pw (tS T) (tP T) La tn hp hc ov (tB T)
theorem ArI.scr {g : GG} {lay0 : Lay} {M0 : Mem} {lay : Lay} {M M2 : Mem} {b c pw : Nat} {T : CT} {La : Nat → Int} {tn : Nat} {hp hc ov : Int} (h : ArI g lay0 M0 lay M b c pw T La tn hp hc ov) (hbc : b + 32 ≤ c) {n : Nat} (hn : lay.2 ≤ n) (p : Scr b M M2) : ArI g lay0 M0 (lay.1, n) M2 b c pw T La tn hp hc ov :=
  ⟨⟨h.1.1.tr (Ext.up rfl hn), fun y i hy => (p y i (by omega) (by omega) (by omega)).trans (h.1.2 y i hy)⟩, h.2.1.scr hn p, h.2.2.ext (Ext.up rfl hn) (fun y i h1 h2 => p y i (by omega) (by omega) (by omega))⟩
theorem belowF_rng (s : RS) (i : Int) (p : Nat) : -(31 * 2 ^ p) ≤ belowF s i p ∧ belowF s i p < 31 * 2 ^ p := by
  have : (0 : Int) < 2 ^ p := Int.pow_pos (by decide)
  exact belF_rng _ i 32 _ _ (by omega)

set_option maxRecDepth 100000 in
theorem sp_L_areRoots {g : GG} {lay : Lay} {M : Mem} {K : KK} {b c pw : Nat} {T : CT} {La : Nat → Int} {tn : Nat} {hp hc ov : Int} (gB : GoodB) (gC : ∀ P, WfP P → cntOK 5 (buildF P)) (hA : ArI g lay M lay M b c pw T La tn hp hc ov) (hW : LcW pw (tS T) (tP T) La tn hp hc ov (tB T)) (hbc : b + 32 ≤ c) (hPz : ∀ j, pw ≤ j → tP T j = 0) (RZ : zerQ pw (tP T) (-1) → RtZ T) (RN : ¬ zerQ pw (tP T) (-1) → RtF T pw) (k : ∀ lay2 M2, Ext lay lay2 → (∀ y i, ¬ (b + 8 ≤ y ∧ y < b + 15 ∨ b + 16 ≤ y ∧ y < b + 25 ∨ y = b + 31) → M2 y i = M y i) → Ds g lay2 M2 b T → K (.inl (some (vI 1))) lay2 M2) : X g m_L_areRoots 0 0 lay M 0 [(0, vR b), (1, vR c)] [] K := by
  have w1 := hW.1
  have hWP : WfP (tP T) := hA.2.1.2.2.2.2.2.1
  have had := allD_rng (buildF_le (tP T))
  have hdb : ∀ x y, -5 ≤ dBet (buildF (tP T)) x y ∧ dBet (buildF (tP T)) x y ≤ 5 := fun x y => dBet_rng _ _ _ (buildF_le (tP T))
  have hdg := degF_rng (tP T) 5
  have hdb0 := hdb (-20) 20
  have main : ∀ (z9 : Int), (z9 = 0 ∧ ¬ zerQ pw (tP T) (-1)) → ∀ (M2 : Mem) (lay2 : Lay) (cn ck : Nat), cn ≤ 0 → ck ≤ 6 * 0 → ArI g lay M lay2 M2 b c pw T La tn hp hc ov → X g m_L_areRoots cn ck lay2 M2 91 [(3, vI (allD (buildF (tP T)))), (2, vI z9), (0, vR b), (1, vR c)] [] K := by
    intro z9 hz9
    have hn := RN hz9.2
    have hn1 := hn.s1
    have hn2 := hn.s2
    have hn3 := hn.s3
    have hn4 := hn.s4
    -- values
    have loop3 : ∀ d j : Nat, j + d = 41 → ∀ (lay2 : Lay) (M2 : Mem) (cn ck : Nat), cn ≤ 90 + 2 * j → ck ≤ 6 * (90 + 2 * j) → ArI g lay M lay2 M2 b c pw T La tn hp hc ov → X g m_L_areRoots cn ck lay2 M2 385 [(6, vI (-20 + (j : Nat))), (3, vI (allD (buildF (tP T)))), (2, vI z9), (0, vR b), (1, vR c)] [] K := by
      intro d
      induction d with
      | zero =>
        intro j hj lay2 M2 cn ck hcn hck hA
        obtain ⟨u1, u2, u3⟩ := hn.sur
        refine x_iload (pc := 385) dL_areRoots_385 rfl ?_
        refine x_bipush (pc := 387) dL_areRoots_387 (by decide) ?_
        refine x_icmp_gt (pc := 389) (t := 449) dL_areRoots_389 (by decide) ⟨by omega, by omega⟩ ⟨by omega, by omega⟩ (fun c389 => ?_) (fun c389 => ?_)
        · refine x_aload_n (pc := 449) dL_areRoots_449 rfl rfl ?_
          refine x_bipush (pc := 450) dL_areRoots_450 (by decide) ?_
          refine x_bipush (pc := 452) dL_areRoots_452 (by decide) ?_
          refine x_callV (pc := 454) [_, _] rfl kL_52 dL_areRoots_454 hA.2.1.1.1 rfl rfl (by decide) (Nat.le_of_ble_eq_true rfl) (Nat.le_of_ble_eq_true rfl) (show _ + 1 ≤ 400 ∧ _ + 6 ≤ 2400 by omega) ?_
          refine sp_X4_surplus gB hA.2.1.1 hA.2.1.2.1 hA.2.1.2.2.2.1 hA.2.1.2.2.2.2 gC ⟨by omega, by omega⟩ ⟨by omega, by omega⟩ (fun M3 n3 hn3 hS3 => ?_)
          have hA := hA.scr hbc hn3 hS3
          rw [show rSur T (-4) 7 = oI (surF T (-4) 7) from if_neg (fun h => h ⟨⟨by omega, by omega⟩, ⟨by omega, by omega⟩, by omega⟩)]
          refine ⟨_, rfl, ?_⟩
          refine X.cs (cn' := cn + 1) (ck' := ck + 6) ?_ (Nat.le_refl _) (Nat.le_refl _)
          refine x_istore (pc := 457) dL_areRoots_457 trivial (by decide) (L' := [(6, _), (3, _), (2, _), (0, _), (1, _)]) rfl ?_
          refine x_iload (pc := 459) dL_areRoots_459 rfl ?_
          refine x_if_lt (pc := 461) (t := 475) dL_areRoots_461 (by decide) ⟨by omega, by omega⟩ (fun c461 => ?_) (fun c461 => ?_)
          · exfalso; omega
          · refine x_iload (pc := 464) dL_areRoots_464 rfl ?_
            refine x_iconst (pc := 466) dL_areRoots_466 ?_
            refine x_irem (pc := 467) dL_areRoots_467 ⟨by omega, by omega⟩ ⟨by omega, by omega⟩ (by omega) ?_
            rw [u2]
            refine x_if_ne (pc := 468) (t := 475) dL_areRoots_468 (by decide) ⟨by omega, by omega⟩ (fun c468 => ?_) (fun c468 => ?_)
            · exfalso; omega
            · refine x_iconst (pc := 471) dL_areRoots_471 ?_
              refine x_goto (pc := 472) (t := 476) dL_areRoots_472 (by decide) ?_
              refine X.cs (cn' := 400) (ck' := 2400) ?_ (by omega) (by omega)
              refine x_zret (pc := 476) dL_areRoots_476 rfl ⟨by omega, by omega⟩ (by decide) (by decide) ?_
              exact k _ _ hA.1.1 hA.1.2 hA.2.1
        · exfalso; omega
      | succ d ih =>
        intro j hj lay2 M2 cn ck hcn hck hA
        have vv := valS_F hWP w1 hPz (-20 + (j : Nat))
        have vb := valF_b hWP (x := -20 + (j : Nat)) ⟨by omega, by omega⟩
        have hm := hn.mul (-20 + (j : Nat)) (by omega) (by omega)
        have hmr := mulF_le (shP (tP T) (-20 + (j : Nat))) 5
        refine x_iload (pc := 385) dL_areRoots_385 rfl ?_
        refine x_bipush (pc := 387) dL_areRoots_387 (by decide) ?_
        refine x_icmp_gt (pc := 389) (t := 449) dL_areRoots_389 (by decide) ⟨by omega, by omega⟩ ⟨by omega, by omega⟩ (fun c389 => ?_) (fun c389 => ?_)
        · exfalso; omega
        · refine x_aload_n (pc := 392) dL_areRoots_392 rfl rfl ?_
          refine x_iload (pc := 393) dL_areRoots_393 rfl ?_
          refine x_callV (pc := 395) [_] rfl kL_86 dL_areRoots_395 hA.2.1.1.1 rfl rfl (by decide) (Nat.le_of_ble_eq_true rfl) (Nat.le_of_ble_eq_true rfl) (show _ + 1 ≤ 400 ∧ _ + 6 ≤ 2400 by omega) ?_
          refine sp_X4_value gB hA.2.1.1 hA.2.1.2.1 hA.2.1.2.2.2.1 hA.2.1.2.2.2.2 ⟨by omega, by omega⟩ (fun M3 n3 hn3 hS3 => ?_)
          have hA := hA.scr hbc hn3 hS3
          rw [show rValue T (-20 + (j : Nat)) = .inl (some (vJ (valF (tP T) (-20 + (j : Nat)) 5))) from if_neg (fun h => h ⟨by omega, by omega⟩)]
          refine ⟨_, rfl, ?_⟩
          refine X.cs (cn' := cn + 1) (ck' := ck + 6) ?_ (Nat.le_refl _) (Nat.le_refl _)
          refine x_aload_n (pc := 398) dL_areRoots_398 rfl rfl ?_
          refine x_iload (pc := 399) dL_areRoots_399 rfl ?_
          refine x_callV (pc := 401) [_] rfl kL_90 dL_areRoots_401 hA.2.2.1.1.1 rfl rfl (by decide) (Nat.le_of_ble_eq_true rfl) (Nat.le_of_ble_eq_true rfl) (show _ + 0 ≤ 400 ∧ _ + 0 ≤ 2400 by omega) ?_
          refine sp_X6_value hA.2.2 hW ⟨by omega, by omega⟩ ?_
          rw [vv]
          refine ⟨_, rfl, ?_⟩
          refine X.cs (cn' := cn + 1) (ck' := ck + 6) ?_ (Nat.le_refl _) (Nat.le_refl _)
          refine x_lcmp_ne (pc := 404) (t := 441) dL_areRoots_404 dL_areRoots_405 (by decide) ⟨by omega, by omega⟩ ⟨by omega, by omega⟩ (fun c404 => ?_) (fun c404 => ?_)
          · exfalso; omega
          · refine x_aload_n (pc := 408) dL_areRoots_408 rfl rfl ?_
            refine x_iload (pc := 409) dL_areRoots_409 rfl ?_
            refine x_callV (pc := 411) [_] rfl kL_55 dL_areRoots_411 hA.2.1.1.1 rfl rfl (by decide) (Nat.le_of_ble_eq_true rfl) (Nat.le_of_ble_eq_true rfl) (show _ + 1 ≤ 400 ∧ _ + 6 ≤ 2400 by omega) ?_
            refine sp_X4_multiplicity gB hA.2.1.1 hA.2.1.2.1 hA.2.1.2.2.2.1 hA.2.1.2.2.2.2 ⟨by omega, by omega⟩ (fun M3 n3 hn3 hS3 => ?_)
            have hA := hA.scr hbc hn3 hS3
            rw [show rMul T (-20 + (j : Nat)) = oI (mulF (shP (tP T) (-20 + (j : Nat))) 5) from if_neg (fun h => h ⟨by omega, by omega⟩)]
            refine ⟨_, rfl, ?_⟩
            refine X.cs (cn' := cn + 2) (ck' := ck + 12) ?_ (Nat.le_refl _) (Nat.le_refl _)
            refine x_if_le (pc := 414) (t := 421) dL_areRoots_414 (by decide) ⟨by omega, by omega⟩ (fun c414 => ?_) (fun c414 => ?_)
            · refine x_iconst (pc := 421) dL_areRoots_421 ?_
              refine x_aload_n (pc := 422) dL_areRoots_422 rfl rfl ?_
              refine x_iload (pc := 423) dL_areRoots_423 rfl ?_
              refine x_callV (pc := 425) [_] rfl kL_90 dL_areRoots_425 hA.2.2.1.1.1 rfl rfl (by decide) (Nat.le_of_ble_eq_true rfl) (Nat.le_of_ble_eq_true rfl) (show _ + 0 ≤ 400 ∧ _ + 0 ≤ 2400 by omega) ?_
              refine sp_X6_value hA.2.2 hW ⟨by omega, by omega⟩ ?_
              rw [vv]
              refine ⟨_, rfl, ?_⟩
              refine X.cs (cn' := cn + 2) (ck' := ck + 12) ?_ (Nat.le_refl _) (Nat.le_refl _)
              refine x_lconst (pc := 428) (x := 0) dL_areRoots_428 (by decide) ?_
              refine x_lcmp_ne (pc := 429) (t := 437) dL_areRoots_429 dL_areRoots_430 (by decide) ⟨by omega, by omega⟩ ⟨by omega, by omega⟩ (fun c429 => ?_) (fun c429 => ?_)
              · refine x_iconst (pc := 437) dL_areRoots_437 ?_
                refine x_icmp_eq (pc := 438) (t := 443) dL_areRoots_438 (by decide) ⟨by omega, by omega⟩ ⟨by omega, by omega⟩ (fun c438 => ?_) (fun c438 => ?_)
                · refine x_iinc (pc := 443) dL_areRoots_443 rfl (by decide) (L' := [(6, _), (3, _), (2, _), (0, _), (1, _)]) rfl ?_
                  refine x_goto (pc := 446) (t := 385) dL_areRoots_446 (by decide) ?_
                  refine X.loc [0, 1, 2, 3, 4] (L' := [(6, _), (3, _), (2, _), (0, _), (1, _)]) rfl ?_
                  have l1 := ih (j + 1) (by omega) _ _ (cn + 2) (ck + 12) (by omega) (by omega) hA
                  rw [show (-20 + ((j + 1 : Nat) : Int)) = -20 + (j : Nat) + 1 by omega] at l1
                  exact l1
                · exfalso; omega
              · refine x_iconst (pc := 433) dL_areRoots_433 ?_
                refine x_goto (pc := 434) (t := 438) dL_areRoots_434 (by decide) ?_
                refine x_icmp_eq (pc := 438) (t := 443) dL_areRoots_438 (by decide) ⟨by omega, by omega⟩ ⟨by omega, by omega⟩ (fun c438 => ?_) (fun c438 => ?_)
                · refine x_iinc (pc := 443) dL_areRoots_443 rfl (by decide) (L' := [(6, _), (3, _), (2, _), (0, _), (1, _)]) rfl ?_
                  refine x_goto (pc := 446) (t := 385) dL_areRoots_446 (by decide) ?_
                  refine X.loc [0, 1, 2, 3, 4] (L' := [(6, _), (3, _), (2, _), (0, _), (1, _)]) rfl ?_
                  have l1 := ih (j + 1) (by omega) _ _ (cn + 2) (ck + 12) (by omega) (by omega) hA
                  rw [show (-20 + ((j + 1 : Nat) : Int)) = -20 + (j : Nat) + 1 by omega] at l1
                  exact l1
                · exfalso; omega
            · refine x_iconst (pc := 417) dL_areRoots_417 ?_
              refine x_goto (pc := 418) (t := 422) dL_areRoots_418 (by decide) ?_
              refine x_aload_n (pc := 422) dL_areRoots_422 rfl rfl ?_
              refine x_iload (pc := 423) dL_areRoots_423 rfl ?_
              refine x_callV (pc := 425) [_] rfl kL_90 dL_areRoots_425 hA.2.2.1.1.1 rfl rfl (by decide) (Nat.le_of_ble_eq_true rfl) (Nat.le_of_ble_eq_true rfl) (show _ + 0 ≤ 400 ∧ _ + 0 ≤ 2400 by omega) ?_
              refine sp_X6_value hA.2.2 hW ⟨by omega, by omega⟩ ?_
              rw [vv]
              refine ⟨_, rfl, ?_⟩
              refine X.cs (cn' := cn + 2) (ck' := ck + 12) ?_ (Nat.le_refl _) (Nat.le_refl _)
              refine x_lconst (pc := 428) (x := 0) dL_areRoots_428 (by decide) ?_
              refine x_lcmp_ne (pc := 429) (t := 437) dL_areRoots_429 dL_areRoots_430 (by decide) ⟨by omega, by omega⟩ ⟨by omega, by omega⟩ (fun c429 => ?_) (fun c429 => ?_)
              · refine x_iconst (pc := 437) dL_areRoots_437 ?_
                refine x_icmp_eq (pc := 438) (t := 443) dL_areRoots_438 (by decide) ⟨by omega, by omega⟩ ⟨by omega, by omega⟩ (fun c438 => ?_) (fun c438 => ?_)
                · refine x_iinc (pc := 443) dL_areRoots_443 rfl (by decide) (L' := [(6, _), (3, _), (2, _), (0, _), (1, _)]) rfl ?_
                  refine x_goto (pc := 446) (t := 385) dL_areRoots_446 (by decide) ?_
                  refine X.loc [0, 1, 2, 3, 4] (L' := [(6, _), (3, _), (2, _), (0, _), (1, _)]) rfl ?_
                  have l1 := ih (j + 1) (by omega) _ _ (cn + 2) (ck + 12) (by omega) (by omega) hA
                  rw [show (-20 + ((j + 1 : Nat) : Int)) = -20 + (j : Nat) + 1 by omega] at l1
                  exact l1
                · exfalso; omega
              · refine x_iconst (pc := 433) dL_areRoots_433 ?_
                refine x_goto (pc := 434) (t := 438) dL_areRoots_434 (by decide) ?_
                refine x_icmp_eq (pc := 438) (t := 443) dL_areRoots_438 (by decide) ⟨by omega, by omega⟩ ⟨by omega, by omega⟩ (fun c438 => ?_) (fun c438 => ?_)
                · refine x_iinc (pc := 443) dL_areRoots_443 rfl (by decide) (L' := [(6, _), (3, _), (2, _), (0, _), (1, _)]) rfl ?_
                  refine x_goto (pc := 446) (t := 385) dL_areRoots_446 (by decide) ?_
                  refine X.loc [0, 1, 2, 3, 4] (L' := [(6, _), (3, _), (2, _), (0, _), (1, _)]) rfl ?_
                  have l1 := ih (j + 1) (by omega) _ _ (cn + 2) (ck + 12) (by omega) (by omega) hA
                  rw [show (-20 + ((j + 1 : Nat) : Int)) = -20 + (j : Nat) + 1 by omega] at l1
                  exact l1
                · exfalso; omega
    -- roots
    have loop2 : ∀ (d k9 : Nat) (last : Int), (k9 : Int) + d = (allD (buildF (tP T))).toNat → (k9 = 0 ∧ last = -2147483648 ∨ k9 ≠ 0 ∧ last = belowF (buildF (tP T)) ((k9 : Nat) - 1) 6) → ∀ (lay2 : Lay) (M2 : Mem) (cn ck : Nat), cn ≤ 44 + 6 * k9 → ck ≤ 6 * (44 + 6 * k9) → ArI g lay M lay2 M2 b c pw T La tn hp hc ov → X g m_L_areRoots cn ck lay2 M2 183 [(6, vI (k9 : Nat)), (5, vI last), (3, vI (allD (buildF (tP T)))), (2, vI z9), (0, vR b), (1, vR c)] [] K := by
      intro d
      induction d with
      | zero =>
        intro k9 last hk hl lay2 M2 cn ck hcn hck hA
        refine x_iload (pc := 183) dL_areRoots_183 rfl ?_
        refine x_iload_n (pc := 185) dL_areRoots_185 rfl rfl ?_
        refine x_icmp_ge (pc := 186) (t := 381) dL_areRoots_186 (by decide) ⟨by omega, by omega⟩ ⟨by omega, by omega⟩ (fun c186 => ?_) (fun c186 => ?_)
        · refine x_bipush (pc := 381) dL_areRoots_381 (by decide) ?_
          refine x_istore (pc := 383) dL_areRoots_383 trivial (by decide) (L' := [(6, _), (5, _), (3, _), (2, _), (0, _), (1, _)]) rfl ?_
          refine X.loc [0, 2, 3, 4, 5] (L' := [(6, _), (3, _), (2, _), (0, _), (1, _)]) rfl ?_
          exact loop3 41 0 (by omega) _ _ _ _ (by omega) (by omega) hA
        · exfalso; omega
      | succ d ih =>
        intro k9 last hk hl lay2 M2 cn ck hcn hck hA
        obtain ⟨bl, hbl⟩ : ∃ bl, bl = belowF (buildF (tP T)) (k9 : Nat) 6 := ⟨_, rfl⟩
        obtain ⟨bn, hbn⟩ : ∃ bn, bn = belowF (buildF (tP T)) ((k9 : Nat) + 1) 6 := ⟨_, rfl⟩
        have rb := belowF_rng (buildF (tP T)) (k9 : Nat) 6
        have rn := belowF_rng (buildF (tP T)) ((k9 : Nat) + 1) 6
        have r00 := belowF_rng (buildF (tP T)) (k9 : Nat) 0
        have r03 := belowF_rng (buildF (tP T)) (k9 : Nat) 3
        have nr := hn.near (k9 : Nat) (by omega) (by omega)
        have al := hn.alone (k9 : Nat) (by omega) (by omega)
        have mo := hn.mono (k9 : Nat)
        rw [show (31 * 2 ^ 6 : Int) = 1984 from rfl] at rb rn
        rw [← hbl] at rb nr al
        rw [← hbn] at rn al
        obtain ⟨f1, hf1, f1r⟩ : ∃ f1, f1 = fnA (tP T) (pw - 1) (bl + 1) pw ∧ (-1000000000000000 < f1 ∧ f1 < 1000000000000000) := ⟨_, rfl, fnA_b hW.2.2.1 ⟨by omega, by omega⟩ w1.2⟩
        obtain ⟨f0, hf0, f0r⟩ : ∃ f0, f0 = fnA (tP T) (pw - 1) bl pw ∧ (-1000000000000000 < f0 ∧ f0 < 1000000000000000) := ⟨_, rfl, fnA_b hW.2.2.1 ⟨by omega, by omega⟩ w1.2⟩
        rw [← hf1, ← hf0] at al
        have sg1 := sg_rng f1
        have sg0 := sg_rng f0
        have su := hn.sur2
        have hla : last ≤ bl := by
          rcases hl with ⟨h1, h2⟩ | ⟨h1, h2⟩
          · omega
          · have := mo (by omega) (by omega)
            rw [h2, hbl]
            exact this
        have hlr : -2147483648 ≤ last := by
          have r9 := belowF_rng (buildF (tP T)) ((k9 : Nat) - 1) 6
          rw [show (31 * 2 ^ 6 : Int) = 1984 from rfl] at r9
          omega
        have al2 : (¬ (k9 : Int) = 0 ∧ last = bl) ∨ (¬ (k9 : Int) + 1 = allD (buildF (tP T)) ∧ bn = bl) ∨ f1 = 0 ∨ f0 = 0 ∨ ¬ allD (buildF (tP T)) = degF (tP T) 5 ∨ ¬ sg f1 = sg f0 := by
          rcases al with ⟨h1, h2⟩ | h
          · refine Or.inl ⟨h1, ?_⟩
            have h3 := (hl.resolve_left (fun h => by omega)).2
            rw [h3]
            exact h2
          · exact Or.inr h
        have hl2 : (k9 + 1 = 0 ∧ bl = -2147483648 ∨ k9 + 1 ≠ 0 ∧ bl = belowF (buildF (tP T)) (((k9 + 1 : Nat) : Int) - 1) 6) := Or.inr ⟨by omega, by rw [show (((k9 + 1 : Nat) : Int) - 1) = (k9 : Nat) by omega]; exact hbl⟩
        refine x_iload (pc := 183) dL_areRoots_183 rfl ?_
        refine x_iload_n (pc := 185) dL_areRoots_185 rfl rfl ?_
        refine x_icmp_ge (pc := 186) (t := 381) dL_areRoots_186 (by decide) ⟨by omega, by omega⟩ ⟨by omega, by omega⟩ (fun c186 => ?_) (fun c186 => ?_)
        · exfalso; omega
        · refine x_aload_n (pc := 189) dL_areRoots_189 rfl rfl ?_
          refine x_iload (pc := 190) dL_areRoots_190 rfl ?_
          refine x_bipush (pc := 192) dL_areRoots_192 (by decide) ?_
          refine x_callV (pc := 194) [_, _] rfl kL_67 dL_areRoots_194 hA.2.1.1.1 rfl rfl (by decide) (Nat.le_of_ble_eq_true rfl) (Nat.le_of_ble_eq_true rfl) (show _ + 1 ≤ 400 ∧ _ + 6 ≤ 2400 by omega) ?_
          refine sp_X4_near gB hA.2.1.1 hA.2.1.2.1 hA.2.1.2.2.2.1 hA.2.1.2.2.2.2 ⟨by omega, by omega⟩ ⟨by omega, by omega⟩ (fun M3 n3 hn3 hS3 => ?_)
          have hA := hA.scr hbc hn3 hS3
          rw [show rNear T (k9 : Nat) 6 = oI (belowF (buildF (tP T)) (k9 : Nat) 6) from (if_neg (fun h => h ⟨by omega, by omega⟩)).trans (if_neg (fun h => h ⟨by decide, by decide⟩))]
          rw [← hbl]
          refine ⟨_, rfl, ?_⟩
          refine X.cs (cn' := cn + 1) (ck' := ck + 6) ?_ (Nat.le_refl _) (Nat.le_refl _)
          refine x_istore (pc := 197) dL_areRoots_197 trivial (by decide) (L' := [(7, _), (6, _), (5, _), (3, _), (2, _), (0, _), (1, _)]) rfl ?_
          refine x_iload (pc := 199) dL_areRoots_199 rfl ?_
          refine x_iload (pc := 201) dL_areRoots_201 rfl ?_
          refine x_icmp_lt (pc := 203) (t := 256) dL_areRoots_203 (by decide) ⟨by omega, by omega⟩ ⟨by omega, by omega⟩ (fun c203 => ?_) (fun c203 => ?_)
          · exfalso; omega
          · refine x_aload_n (pc := 206) dL_areRoots_206 rfl rfl ?_
            refine x_iload (pc := 207) dL_areRoots_207 rfl ?_
            refine x_iconst (pc := 209) dL_areRoots_209 ?_
            refine x_callV (pc := 210) [_, _] rfl kL_67 dL_areRoots_210 hA.2.1.1.1 rfl rfl (by decide) (Nat.le_of_ble_eq_true rfl) (Nat.le_of_ble_eq_true rfl) (show _ + 1 ≤ 400 ∧ _ + 6 ≤ 2400 by omega) ?_
            refine sp_X4_near gB hA.2.1.1 hA.2.1.2.1 hA.2.1.2.2.2.1 hA.2.1.2.2.2.2 ⟨by omega, by omega⟩ ⟨by omega, by omega⟩ (fun M3 n3 hn3 hS3 => ?_)
            have hA := hA.scr hbc hn3 hS3
            rw [show rNear T (k9 : Nat) 0 = oI (belowF (buildF (tP T)) (k9 : Nat) 0) from (if_neg (fun h => h ⟨by omega, by omega⟩)).trans (if_neg (fun h => h ⟨by decide, by decide⟩))]
            refine ⟨_, rfl, ?_⟩
            refine X.cs (cn' := cn + 2) (ck' := ck + 12) ?_ (Nat.le_refl _) (Nat.le_refl _)
            refine x_iload (pc := 213) dL_areRoots_213 rfl ?_
            refine x_bipush (pc := 215) dL_areRoots_215 (by decide) ?_
            refine x_ishr (pc := 217) 6 (by decide) rfl ⟨by omega, by omega⟩ dL_areRoots_217 ?_
            refine x_icmp_ne (pc := 218) (t := 256) dL_areRoots_218 (by decide) ⟨by omega, by omega⟩ ⟨by omega, by omega⟩ (fun c218 => ?_) (fun c218 => ?_)
            · exfalso; omega
            · refine x_aload_n (pc := 221) dL_areRoots_221 rfl rfl ?_
              refine x_iload (pc := 222) dL_areRoots_222 rfl ?_
              refine x_iconst (pc := 224) dL_areRoots_224 ?_
              refine x_callV (pc := 225) [_, _] rfl kL_67 dL_areRoots_225 hA.2.1.1.1 rfl rfl (by decide) (Nat.le_of_ble_eq_true rfl) (Nat.le_of_ble_eq_true rfl) (show _ + 1 ≤ 400 ∧ _ + 6 ≤ 2400 by omega) ?_
              refine sp_X4_near gB hA.2.1.1 hA.2.1.2.1 hA.2.1.2.2.2.1 hA.2.1.2.2.2.2 ⟨by omega, by omega⟩ ⟨by omega, by omega⟩ (fun M3 n3 hn3 hS3 => ?_)
              have hA := hA.scr hbc hn3 hS3
              rw [show rNear T (k9 : Nat) 3 = oI (belowF (buildF (tP T)) (k9 : Nat) 3) from (if_neg (fun h => h ⟨by omega, by omega⟩)).trans (if_neg (fun h => h ⟨by decide, by decide⟩))]
              refine ⟨_, rfl, ?_⟩
              refine X.cs (cn' := cn + 3) (ck' := ck + 18) ?_ (Nat.le_refl _) (Nat.le_refl _)
              refine x_iload (pc := 228) dL_areRoots_228 rfl ?_
              refine x_iconst (pc := 230) dL_areRoots_230 ?_
              refine x_ishr (pc := 231) 3 (by decide) rfl ⟨by omega, by omega⟩ dL_areRoots_231 ?_
              refine x_icmp_ne (pc := 232) (t := 256) dL_areRoots_232 (by decide) ⟨by omega, by omega⟩ ⟨by omega, by omega⟩ (fun c232 => ?_) (fun c232 => ?_)
              · exfalso; omega
              · refine x_aload_n (pc := 235) dL_areRoots_235 rfl rfl ?_
                refine x_iload (pc := 236) dL_areRoots_236 rfl ?_
                refine x_callV (pc := 238) [_] rfl kL_70 dL_areRoots_238 hA.2.1.1.1 rfl rfl (by decide) (Nat.le_of_ble_eq_true rfl) (Nat.le_of_ble_eq_true rfl) (show _ + 1 ≤ 400 ∧ _ + 6 ≤ 2400 by omega) ?_
                refine sp_X4_root gB hA.2.1.1 hA.2.1.2.1 hA.2.1.2.2.2.1 hA.2.1.2.2.2.2 ⟨by omega, by omega⟩ (fun M3 n3 hn3 hS3 => ?_)
                have hA := hA.scr hbc hn3 hS3
                rw [show rRoot T (k9 : Nat) = .inl (some (vD (rtF bl))) from (if_neg (fun h => h ⟨by omega, by omega⟩)).trans (by rw [hbl])]
                refine ⟨_, rfl, ?_⟩
                refine X.cs (cn' := cn + 4) (ck' := ck + 24) ?_ (Nat.le_refl _) (Nat.le_refl _)
                refine x_iconst (pc := 241) dL_areRoots_241 ?_
                refine x_iload (pc := 242) dL_areRoots_242 rfl ?_
                refine x_imul (pc := 244) dL_areRoots_244 ?_
                refine x_iconst (pc := 245) dL_areRoots_245 ?_
                refine x_iadd (pc := 246) dL_areRoots_246 ?_
                refine x_i2d (pc := 247) dL_areRoots_247 ?_
                refine x_ldc2d (pc := 248) kdL_74 dL_areRoots_248 ?_
                refine x_ddiv (pc := 251) (rt_num (n := bl) (by omega)) dL_areRoots_251 ?_
                refine x_dcmp (pc := 252) dL_areRoots_252 ?_
                rw [show (Op.cmpValue (FP.dcmp (rtF bl) (FP.ddiv (FP.i2d (Int32.ofInt (2 * bl + 1))) 4638707616191610880)) .l).toInt = 0 from rt_cmp (by omega)]
                refine x_if_eq (pc := 253) (t := 258) dL_areRoots_253 (by decide) ⟨by omega, by omega⟩ (fun c253 => ?_) (fun c253 => ?_)
                · refine x_iload (pc := 258) dL_areRoots_258 rfl ?_
                  refine x_if_eq (pc := 260) (t := 270) dL_areRoots_260 (by decide) ⟨by omega, by omega⟩ (fun c260 => ?_) (fun c260 => ?_)
                  · refine x_iload (pc := 270) dL_areRoots_270 rfl ?_
                    refine x_iload_n (pc := 272) dL_areRoots_272 rfl rfl ?_
                    refine x_iconst (pc := 273) dL_areRoots_273 ?_
                    refine x_isub (pc := 274) dL_areRoots_274 ?_
                    refine x_icmp_eq (pc := 275) (t := 293) dL_areRoots_275 (by decide) ⟨by omega, by omega⟩ ⟨by omega, by omega⟩ (fun c275 => ?_) (fun c275 => ?_)
                    · refine x_iconst (pc := 293) dL_areRoots_293 ?_
                      refine x_goto (pc := 294) (t := 298) dL_areRoots_294 (by decide) ?_
                      refine x_istore (pc := 298) dL_areRoots_298 trivial (by decide) (L' := [(8, _), (7, _), (6, _), (5, _), (3, _), (2, _), (0, _), (1, _)]) rfl ?_
                      refine x_aload_n (pc := 300) dL_areRoots_300 rfl rfl ?_
                      refine x_iload (pc := 301) dL_areRoots_301 rfl ?_
                      refine x_iconst (pc := 303) dL_areRoots_303 ?_
                      refine x_iadd (pc := 304) dL_areRoots_304 ?_
                      refine x_callS (pc := 305) [_, _] rfl kL_76 dL_areRoots_305 rfl (by decide) (Nat.le_of_ble_eq_true rfl) (Nat.le_of_ble_eq_true rfl) (show _ + 0 ≤ 400 ∧ _ + 0 ≤ 2400 by omega) ?_
                      refine sp_L_fine hA.2.2 hW ⟨by omega, by omega⟩ ?_
                      rw [← hf1]
                      refine ⟨_, rfl, ?_⟩
                      refine X.cs (cn' := cn + 4) (ck' := ck + 24) ?_ (Nat.le_refl _) (Nat.le_refl _)
                      refine x_lstore (pc := 308) dL_areRoots_308 trivial (by decide) (L' := [(9, _), (8, _), (7, _), (6, _), (5, _), (3, _), (2, _), (0, _), (1, _)]) rfl ?_
                      refine x_iload (pc := 310) dL_areRoots_310 rfl ?_
                      refine x_if_eq (pc := 312) (t := 371) dL_areRoots_312 (by decide) ⟨by omega, by omega⟩ (fun c312 => ?_) (fun c312 => ?_)
                      · refine x_iload (pc := 371) dL_areRoots_371 rfl ?_
                        refine x_istore (pc := 373) dL_areRoots_373 trivial (by decide) (L' := [(5, _), (9, _), (8, _), (7, _), (6, _), (3, _), (2, _), (0, _), (1, _)]) rfl ?_
                        refine x_iinc (pc := 375) dL_areRoots_375 rfl (by decide) (L' := [(6, _), (5, _), (9, _), (8, _), (7, _), (3, _), (2, _), (0, _), (1, _)]) rfl ?_
                        refine x_goto (pc := 378) (t := 183) dL_areRoots_378 (by decide) ?_
                        refine X.loc [0, 1, 5, 6, 7, 8] (L' := [(6, _), (5, _), (3, _), (2, _), (0, _), (1, _)]) rfl ?_
                        exact ih (k9 + 1) bl (by omega) hl2 _ _ _ _ (by omega) (by omega) hA
                      · refine x_lload (pc := 315) dL_areRoots_315 rfl ?_
                        refine x_lconst (pc := 317) (x := 0) dL_areRoots_317 (by decide) ?_
                        refine x_lcmp_eq (pc := 318) (t := 371) dL_areRoots_318 dL_areRoots_319 (by decide) ⟨by omega, by omega⟩ ⟨by omega, by omega⟩ (fun c318 => ?_) (fun c318 => ?_)
                        · refine x_iload (pc := 371) dL_areRoots_371 rfl ?_
                          refine x_istore (pc := 373) dL_areRoots_373 trivial (by decide) (L' := [(5, _), (9, _), (8, _), (7, _), (6, _), (3, _), (2, _), (0, _), (1, _)]) rfl ?_
                          refine x_iinc (pc := 375) dL_areRoots_375 rfl (by decide) (L' := [(6, _), (5, _), (9, _), (8, _), (7, _), (3, _), (2, _), (0, _), (1, _)]) rfl ?_
                          refine x_goto (pc := 378) (t := 183) dL_areRoots_378 (by decide) ?_
                          refine X.loc [0, 1, 5, 6, 7, 8] (L' := [(6, _), (5, _), (3, _), (2, _), (0, _), (1, _)]) rfl ?_
                          exact ih (k9 + 1) bl (by omega) hl2 _ _ _ _ (by omega) (by omega) hA
                        · refine x_aload_n (pc := 322) dL_areRoots_322 rfl rfl ?_
                          refine x_iload (pc := 323) dL_areRoots_323 rfl ?_
                          refine x_callS (pc := 325) [_, _] rfl kL_76 dL_areRoots_325 rfl (by decide) (Nat.le_of_ble_eq_true rfl) (Nat.le_of_ble_eq_true rfl) (show _ + 0 ≤ 400 ∧ _ + 0 ≤ 2400 by omega) ?_
                          refine sp_L_fine hA.2.2 hW ⟨by omega, by omega⟩ ?_
                          rw [← hf0]
                          refine ⟨_, rfl, ?_⟩
                          refine X.cs (cn' := cn + 4) (ck' := ck + 24) ?_ (Nat.le_refl _) (Nat.le_refl _)
                          refine x_lconst (pc := 328) (x := 0) dL_areRoots_328 (by decide) ?_
                          refine x_lcmp_eq (pc := 329) (t := 371) dL_areRoots_329 dL_areRoots_330 (by decide) ⟨by omega, by omega⟩ ⟨by omega, by omega⟩ (fun c329 => ?_) (fun c329 => ?_)
                          · refine x_iload (pc := 371) dL_areRoots_371 rfl ?_
                            refine x_istore (pc := 373) dL_areRoots_373 trivial (by decide) (L' := [(5, _), (9, _), (8, _), (7, _), (6, _), (3, _), (2, _), (0, _), (1, _)]) rfl ?_
                            refine x_iinc (pc := 375) dL_areRoots_375 rfl (by decide) (L' := [(6, _), (5, _), (9, _), (8, _), (7, _), (3, _), (2, _), (0, _), (1, _)]) rfl ?_
                            refine x_goto (pc := 378) (t := 183) dL_areRoots_378 (by decide) ?_
                            refine X.loc [0, 1, 5, 6, 7, 8] (L' := [(6, _), (5, _), (3, _), (2, _), (0, _), (1, _)]) rfl ?_
                            exact ih (k9 + 1) bl (by omega) hl2 _ _ _ _ (by omega) (by omega) hA
                          · refine x_lload (pc := 333) dL_areRoots_333 rfl ?_
                            refine x_callS (pc := 335) [_] rfl kL_82 dL_areRoots_335 rfl (by decide) (Nat.le_of_ble_eq_true rfl) (Nat.le_of_ble_eq_true rfl) (show _ + 0 ≤ 400 ∧ _ + 0 ≤ 2400 by omega) ?_
                            refine sp_L_sign ⟨by omega, by omega⟩ ?_
                            refine ⟨_, rfl, ?_⟩
                            refine X.cs (cn' := cn + 4) (ck' := ck + 24) ?_ (Nat.le_refl _) (Nat.le_refl _)
                            refine x_aload_n (pc := 338) dL_areRoots_338 rfl rfl ?_
                            refine x_iload (pc := 339) dL_areRoots_339 rfl ?_
                            refine x_callS (pc := 341) [_, _] rfl kL_76 dL_areRoots_341 rfl (by decide) (Nat.le_of_ble_eq_true rfl) (Nat.le_of_ble_eq_true rfl) (show _ + 0 ≤ 400 ∧ _ + 0 ≤ 2400 by omega) ?_
                            refine sp_L_fine hA.2.2 hW ⟨by omega, by omega⟩ ?_
                            rw [← hf0]
                            refine ⟨_, rfl, ?_⟩
                            refine X.cs (cn' := cn + 4) (ck' := ck + 24) ?_ (Nat.le_refl _) (Nat.le_refl _)
                            refine x_callS (pc := 344) [_] rfl kL_82 dL_areRoots_344 rfl (by decide) (Nat.le_of_ble_eq_true rfl) (Nat.le_of_ble_eq_true rfl) (show _ + 0 ≤ 400 ∧ _ + 0 ≤ 2400 by omega) ?_
                            refine sp_L_sign ⟨by omega, by omega⟩ ?_
                            refine ⟨_, rfl, ?_⟩
                            refine X.cs (cn' := cn + 4) (ck' := ck + 24) ?_ (Nat.le_refl _) (Nat.le_refl _)
                            refine x_icmp_ne (pc := 347) (t := 371) dL_areRoots_347 (by decide) ⟨by omega, by omega⟩ ⟨by omega, by omega⟩ (fun c347 => ?_) (fun c347 => ?_)
                            · refine x_iload (pc := 371) dL_areRoots_371 rfl ?_
                              refine x_istore (pc := 373) dL_areRoots_373 trivial (by decide) (L' := [(5, _), (9, _), (8, _), (7, _), (6, _), (3, _), (2, _), (0, _), (1, _)]) rfl ?_
                              refine x_iinc (pc := 375) dL_areRoots_375 rfl (by decide) (L' := [(6, _), (5, _), (9, _), (8, _), (7, _), (3, _), (2, _), (0, _), (1, _)]) rfl ?_
                              refine x_goto (pc := 378) (t := 183) dL_areRoots_378 (by decide) ?_
                              refine X.loc [0, 1, 5, 6, 7, 8] (L' := [(6, _), (5, _), (3, _), (2, _), (0, _), (1, _)]) rfl ?_
                              exact ih (k9 + 1) bl (by omega) hl2 _ _ _ _ (by omega) (by omega) hA
                            · refine x_aload_n (pc := 350) dL_areRoots_350 rfl rfl ?_
                              refine x_bipush (pc := 351) dL_areRoots_351 (by decide) ?_
                              refine x_bipush (pc := 353) dL_areRoots_353 (by decide) ?_
                              refine x_callV (pc := 355) [_, _] rfl kL_52 dL_areRoots_355 hA.2.1.1.1 rfl rfl (by decide) (Nat.le_of_ble_eq_true rfl) (Nat.le_of_ble_eq_true rfl) (show _ + 1 ≤ 400 ∧ _ + 6 ≤ 2400 by omega) ?_
                              refine sp_X4_surplus gB hA.2.1.1 hA.2.1.2.1 hA.2.1.2.2.2.1 hA.2.1.2.2.2.2 gC ⟨by omega, by omega⟩ ⟨by omega, by omega⟩ (fun M3 n3 hn3 hS3 => ?_)
                              have hA := hA.scr hbc hn3 hS3
                              rw [show rSur T (-20) 20 = oI (surF T (-20) 20) from if_neg (fun h => h ⟨⟨by omega, by omega⟩, ⟨by omega, by omega⟩, by omega⟩)]
                              refine ⟨_, rfl, ?_⟩
                              refine X.cs (cn' := cn + 5) (ck' := ck + 30) ?_ (Nat.le_refl _) (Nat.le_refl _)
                              refine x_if_ne (pc := 358) (t := 371) dL_areRoots_358 (by decide) ⟨by omega, by omega⟩ (fun c358 => ?_) (fun c358 => ?_)
                              · refine x_iload (pc := 371) dL_areRoots_371 rfl ?_
                                refine x_istore (pc := 373) dL_areRoots_373 trivial (by decide) (L' := [(5, _), (9, _), (8, _), (7, _), (6, _), (3, _), (2, _), (0, _), (1, _)]) rfl ?_
                                refine x_iinc (pc := 375) dL_areRoots_375 rfl (by decide) (L' := [(6, _), (5, _), (9, _), (8, _), (7, _), (3, _), (2, _), (0, _), (1, _)]) rfl ?_
                                refine x_goto (pc := 378) (t := 183) dL_areRoots_378 (by decide) ?_
                                refine X.loc [0, 1, 5, 6, 7, 8] (L' := [(6, _), (5, _), (3, _), (2, _), (0, _), (1, _)]) rfl ?_
                                exact ih (k9 + 1) bl (by omega) hl2 _ _ _ _ (by omega) (by omega) hA
                              · refine x_iload_n (pc := 361) dL_areRoots_361 rfl rfl ?_
                                refine x_aload_n (pc := 362) dL_areRoots_362 rfl rfl ?_
                                refine x_callV (pc := 363) [] rfl kL_46 dL_areRoots_363 hA.2.1.1.1 rfl rfl (by decide) (Nat.le_of_ble_eq_true rfl) (Nat.le_of_ble_eq_true rfl) (show _ + 0 ≤ 400 ∧ _ + 0 ≤ 2400 by omega) ?_
                                refine sp_X4_degree gB hA.2.1.1 hA.2.1.2.1 hA.2.1.2.2.2.1 hA.2.1.2.2.2.2  (fun M3 n3 hn3 hS3 => ?_)
                                have hA := hA.scr hbc hn3 hS3
                                refine ⟨_, rfl, ?_⟩
                                refine X.cs (cn' := cn + 5) (ck' := ck + 30) ?_ (Nat.le_refl _) (Nat.le_refl _)
                                refine x_icmp_ne (pc := 366) (t := 371) dL_areRoots_366 (by decide) ⟨by omega, by omega⟩ ⟨by omega, by omega⟩ (fun c366 => ?_) (fun c366 => ?_)
                                · refine x_iload (pc := 371) dL_areRoots_371 rfl ?_
                                  refine x_istore (pc := 373) dL_areRoots_373 trivial (by decide) (L' := [(5, _), (9, _), (8, _), (7, _), (6, _), (3, _), (2, _), (0, _), (1, _)]) rfl ?_
                                  refine x_iinc (pc := 375) dL_areRoots_375 rfl (by decide) (L' := [(6, _), (5, _), (9, _), (8, _), (7, _), (3, _), (2, _), (0, _), (1, _)]) rfl ?_
                                  refine x_goto (pc := 378) (t := 183) dL_areRoots_378 (by decide) ?_
                                  refine X.loc [0, 1, 5, 6, 7, 8] (L' := [(6, _), (5, _), (3, _), (2, _), (0, _), (1, _)]) rfl ?_
                                  exact ih (k9 + 1) bl (by omega) hl2 _ _ _ _ (by omega) (by omega) hA
                                · exfalso; omega
                    · refine x_aload_n (pc := 278) dL_areRoots_278 rfl rfl ?_
                      refine x_iload (pc := 279) dL_areRoots_279 rfl ?_
                      refine x_iconst (pc := 281) dL_areRoots_281 ?_
                      refine x_iadd (pc := 282) dL_areRoots_282 ?_
                      refine x_bipush (pc := 283) dL_areRoots_283 (by decide) ?_
                      refine x_callV (pc := 285) [_, _] rfl kL_67 dL_areRoots_285 hA.2.1.1.1 rfl rfl (by decide) (Nat.le_of_ble_eq_true rfl) (Nat.le_of_ble_eq_true rfl) (show _ + 1 ≤ 400 ∧ _ + 6 ≤ 2400 by omega) ?_
                      refine sp_X4_near gB hA.2.1.1 hA.2.1.2.1 hA.2.1.2.2.2.1 hA.2.1.2.2.2.2 ⟨by omega, by omega⟩ ⟨by omega, by omega⟩ (fun M3 n3 hn3 hS3 => ?_)
                      have hA := hA.scr hbc hn3 hS3
                      rw [show rNear T ((k9 : Nat) + 1) 6 = oI (belowF (buildF (tP T)) ((k9 : Nat) + 1) 6) from (if_neg (fun h => h ⟨by omega, by omega⟩)).trans (if_neg (fun h => h ⟨by decide, by decide⟩))]
                      rw [← hbn]
                      refine ⟨_, rfl, ?_⟩
                      refine X.cs (cn' := cn + 5) (ck' := ck + 30) ?_ (Nat.le_refl _) (Nat.le_refl _)
                      refine x_iload (pc := 288) dL_areRoots_288 rfl ?_
                      refine x_icmp_eq (pc := 290) (t := 297) dL_areRoots_290 (by decide) ⟨by omega, by omega⟩ ⟨by omega, by omega⟩ (fun c290 => ?_) (fun c290 => ?_)
                      · refine x_iconst (pc := 297) dL_areRoots_297 ?_
                        refine x_istore (pc := 298) dL_areRoots_298 trivial (by decide) (L' := [(8, _), (7, _), (6, _), (5, _), (3, _), (2, _), (0, _), (1, _)]) rfl ?_
                        refine x_aload_n (pc := 300) dL_areRoots_300 rfl rfl ?_
                        refine x_iload (pc := 301) dL_areRoots_301 rfl ?_
                        refine x_iconst (pc := 303) dL_areRoots_303 ?_
                        refine x_iadd (pc := 304) dL_areRoots_304 ?_
                        refine x_callS (pc := 305) [_, _] rfl kL_76 dL_areRoots_305 rfl (by decide) (Nat.le_of_ble_eq_true rfl) (Nat.le_of_ble_eq_true rfl) (show _ + 0 ≤ 400 ∧ _ + 0 ≤ 2400 by omega) ?_
                        refine sp_L_fine hA.2.2 hW ⟨by omega, by omega⟩ ?_
                        rw [← hf1]
                        refine ⟨_, rfl, ?_⟩
                        refine X.cs (cn' := cn + 5) (ck' := ck + 30) ?_ (Nat.le_refl _) (Nat.le_refl _)
                        refine x_lstore (pc := 308) dL_areRoots_308 trivial (by decide) (L' := [(9, _), (8, _), (7, _), (6, _), (5, _), (3, _), (2, _), (0, _), (1, _)]) rfl ?_
                        refine x_iload (pc := 310) dL_areRoots_310 rfl ?_
                        refine x_if_eq (pc := 312) (t := 371) dL_areRoots_312 (by decide) ⟨by omega, by omega⟩ (fun c312 => ?_) (fun c312 => ?_)
                        · refine x_iload (pc := 371) dL_areRoots_371 rfl ?_
                          refine x_istore (pc := 373) dL_areRoots_373 trivial (by decide) (L' := [(5, _), (9, _), (8, _), (7, _), (6, _), (3, _), (2, _), (0, _), (1, _)]) rfl ?_
                          refine x_iinc (pc := 375) dL_areRoots_375 rfl (by decide) (L' := [(6, _), (5, _), (9, _), (8, _), (7, _), (3, _), (2, _), (0, _), (1, _)]) rfl ?_
                          refine x_goto (pc := 378) (t := 183) dL_areRoots_378 (by decide) ?_
                          refine X.loc [0, 1, 5, 6, 7, 8] (L' := [(6, _), (5, _), (3, _), (2, _), (0, _), (1, _)]) rfl ?_
                          exact ih (k9 + 1) bl (by omega) hl2 _ _ _ _ (by omega) (by omega) hA
                        · refine x_lload (pc := 315) dL_areRoots_315 rfl ?_
                          refine x_lconst (pc := 317) (x := 0) dL_areRoots_317 (by decide) ?_
                          refine x_lcmp_eq (pc := 318) (t := 371) dL_areRoots_318 dL_areRoots_319 (by decide) ⟨by omega, by omega⟩ ⟨by omega, by omega⟩ (fun c318 => ?_) (fun c318 => ?_)
                          · refine x_iload (pc := 371) dL_areRoots_371 rfl ?_
                            refine x_istore (pc := 373) dL_areRoots_373 trivial (by decide) (L' := [(5, _), (9, _), (8, _), (7, _), (6, _), (3, _), (2, _), (0, _), (1, _)]) rfl ?_
                            refine x_iinc (pc := 375) dL_areRoots_375 rfl (by decide) (L' := [(6, _), (5, _), (9, _), (8, _), (7, _), (3, _), (2, _), (0, _), (1, _)]) rfl ?_
                            refine x_goto (pc := 378) (t := 183) dL_areRoots_378 (by decide) ?_
                            refine X.loc [0, 1, 5, 6, 7, 8] (L' := [(6, _), (5, _), (3, _), (2, _), (0, _), (1, _)]) rfl ?_
                            exact ih (k9 + 1) bl (by omega) hl2 _ _ _ _ (by omega) (by omega) hA
                          · refine x_aload_n (pc := 322) dL_areRoots_322 rfl rfl ?_
                            refine x_iload (pc := 323) dL_areRoots_323 rfl ?_
                            refine x_callS (pc := 325) [_, _] rfl kL_76 dL_areRoots_325 rfl (by decide) (Nat.le_of_ble_eq_true rfl) (Nat.le_of_ble_eq_true rfl) (show _ + 0 ≤ 400 ∧ _ + 0 ≤ 2400 by omega) ?_
                            refine sp_L_fine hA.2.2 hW ⟨by omega, by omega⟩ ?_
                            rw [← hf0]
                            refine ⟨_, rfl, ?_⟩
                            refine X.cs (cn' := cn + 5) (ck' := ck + 30) ?_ (Nat.le_refl _) (Nat.le_refl _)
                            refine x_lconst (pc := 328) (x := 0) dL_areRoots_328 (by decide) ?_
                            refine x_lcmp_eq (pc := 329) (t := 371) dL_areRoots_329 dL_areRoots_330 (by decide) ⟨by omega, by omega⟩ ⟨by omega, by omega⟩ (fun c329 => ?_) (fun c329 => ?_)
                            · refine x_iload (pc := 371) dL_areRoots_371 rfl ?_
                              refine x_istore (pc := 373) dL_areRoots_373 trivial (by decide) (L' := [(5, _), (9, _), (8, _), (7, _), (6, _), (3, _), (2, _), (0, _), (1, _)]) rfl ?_
                              refine x_iinc (pc := 375) dL_areRoots_375 rfl (by decide) (L' := [(6, _), (5, _), (9, _), (8, _), (7, _), (3, _), (2, _), (0, _), (1, _)]) rfl ?_
                              refine x_goto (pc := 378) (t := 183) dL_areRoots_378 (by decide) ?_
                              refine X.loc [0, 1, 5, 6, 7, 8] (L' := [(6, _), (5, _), (3, _), (2, _), (0, _), (1, _)]) rfl ?_
                              exact ih (k9 + 1) bl (by omega) hl2 _ _ _ _ (by omega) (by omega) hA
                            · refine x_lload (pc := 333) dL_areRoots_333 rfl ?_
                              refine x_callS (pc := 335) [_] rfl kL_82 dL_areRoots_335 rfl (by decide) (Nat.le_of_ble_eq_true rfl) (Nat.le_of_ble_eq_true rfl) (show _ + 0 ≤ 400 ∧ _ + 0 ≤ 2400 by omega) ?_
                              refine sp_L_sign ⟨by omega, by omega⟩ ?_
                              refine ⟨_, rfl, ?_⟩
                              refine X.cs (cn' := cn + 5) (ck' := ck + 30) ?_ (Nat.le_refl _) (Nat.le_refl _)
                              refine x_aload_n (pc := 338) dL_areRoots_338 rfl rfl ?_
                              refine x_iload (pc := 339) dL_areRoots_339 rfl ?_
                              refine x_callS (pc := 341) [_, _] rfl kL_76 dL_areRoots_341 rfl (by decide) (Nat.le_of_ble_eq_true rfl) (Nat.le_of_ble_eq_true rfl) (show _ + 0 ≤ 400 ∧ _ + 0 ≤ 2400 by omega) ?_
                              refine sp_L_fine hA.2.2 hW ⟨by omega, by omega⟩ ?_
                              rw [← hf0]
                              refine ⟨_, rfl, ?_⟩
                              refine X.cs (cn' := cn + 5) (ck' := ck + 30) ?_ (Nat.le_refl _) (Nat.le_refl _)
                              refine x_callS (pc := 344) [_] rfl kL_82 dL_areRoots_344 rfl (by decide) (Nat.le_of_ble_eq_true rfl) (Nat.le_of_ble_eq_true rfl) (show _ + 0 ≤ 400 ∧ _ + 0 ≤ 2400 by omega) ?_
                              refine sp_L_sign ⟨by omega, by omega⟩ ?_
                              refine ⟨_, rfl, ?_⟩
                              refine X.cs (cn' := cn + 5) (ck' := ck + 30) ?_ (Nat.le_refl _) (Nat.le_refl _)
                              refine x_icmp_ne (pc := 347) (t := 371) dL_areRoots_347 (by decide) ⟨by omega, by omega⟩ ⟨by omega, by omega⟩ (fun c347 => ?_) (fun c347 => ?_)
                              · refine x_iload (pc := 371) dL_areRoots_371 rfl ?_
                                refine x_istore (pc := 373) dL_areRoots_373 trivial (by decide) (L' := [(5, _), (9, _), (8, _), (7, _), (6, _), (3, _), (2, _), (0, _), (1, _)]) rfl ?_
                                refine x_iinc (pc := 375) dL_areRoots_375 rfl (by decide) (L' := [(6, _), (5, _), (9, _), (8, _), (7, _), (3, _), (2, _), (0, _), (1, _)]) rfl ?_
                                refine x_goto (pc := 378) (t := 183) dL_areRoots_378 (by decide) ?_
                                refine X.loc [0, 1, 5, 6, 7, 8] (L' := [(6, _), (5, _), (3, _), (2, _), (0, _), (1, _)]) rfl ?_
                                exact ih (k9 + 1) bl (by omega) hl2 _ _ _ _ (by omega) (by omega) hA
                              · refine x_aload_n (pc := 350) dL_areRoots_350 rfl rfl ?_
                                refine x_bipush (pc := 351) dL_areRoots_351 (by decide) ?_
                                refine x_bipush (pc := 353) dL_areRoots_353 (by decide) ?_
                                refine x_callV (pc := 355) [_, _] rfl kL_52 dL_areRoots_355 hA.2.1.1.1 rfl rfl (by decide) (Nat.le_of_ble_eq_true rfl) (Nat.le_of_ble_eq_true rfl) (show _ + 1 ≤ 400 ∧ _ + 6 ≤ 2400 by omega) ?_
                                refine sp_X4_surplus gB hA.2.1.1 hA.2.1.2.1 hA.2.1.2.2.2.1 hA.2.1.2.2.2.2 gC ⟨by omega, by omega⟩ ⟨by omega, by omega⟩ (fun M3 n3 hn3 hS3 => ?_)
                                have hA := hA.scr hbc hn3 hS3
                                rw [show rSur T (-20) 20 = oI (surF T (-20) 20) from if_neg (fun h => h ⟨⟨by omega, by omega⟩, ⟨by omega, by omega⟩, by omega⟩)]
                                refine ⟨_, rfl, ?_⟩
                                refine X.cs (cn' := cn + 6) (ck' := ck + 36) ?_ (Nat.le_refl _) (Nat.le_refl _)
                                refine x_if_ne (pc := 358) (t := 371) dL_areRoots_358 (by decide) ⟨by omega, by omega⟩ (fun c358 => ?_) (fun c358 => ?_)
                                · refine x_iload (pc := 371) dL_areRoots_371 rfl ?_
                                  refine x_istore (pc := 373) dL_areRoots_373 trivial (by decide) (L' := [(5, _), (9, _), (8, _), (7, _), (6, _), (3, _), (2, _), (0, _), (1, _)]) rfl ?_
                                  refine x_iinc (pc := 375) dL_areRoots_375 rfl (by decide) (L' := [(6, _), (5, _), (9, _), (8, _), (7, _), (3, _), (2, _), (0, _), (1, _)]) rfl ?_
                                  refine x_goto (pc := 378) (t := 183) dL_areRoots_378 (by decide) ?_
                                  refine X.loc [0, 1, 5, 6, 7, 8] (L' := [(6, _), (5, _), (3, _), (2, _), (0, _), (1, _)]) rfl ?_
                                  exact ih (k9 + 1) bl (by omega) hl2 _ _ _ _ (by omega) (by omega) hA
                                · refine x_iload_n (pc := 361) dL_areRoots_361 rfl rfl ?_
                                  refine x_aload_n (pc := 362) dL_areRoots_362 rfl rfl ?_
                                  refine x_callV (pc := 363) [] rfl kL_46 dL_areRoots_363 hA.2.1.1.1 rfl rfl (by decide) (Nat.le_of_ble_eq_true rfl) (Nat.le_of_ble_eq_true rfl) (show _ + 0 ≤ 400 ∧ _ + 0 ≤ 2400 by omega) ?_
                                  refine sp_X4_degree gB hA.2.1.1 hA.2.1.2.1 hA.2.1.2.2.2.1 hA.2.1.2.2.2.2  (fun M3 n3 hn3 hS3 => ?_)
                                  have hA := hA.scr hbc hn3 hS3
                                  refine ⟨_, rfl, ?_⟩
                                  refine X.cs (cn' := cn + 6) (ck' := ck + 36) ?_ (Nat.le_refl _) (Nat.le_refl _)
                                  refine x_icmp_ne (pc := 366) (t := 371) dL_areRoots_366 (by decide) ⟨by omega, by omega⟩ ⟨by omega, by omega⟩ (fun c366 => ?_) (fun c366 => ?_)
                                  · refine x_iload (pc := 371) dL_areRoots_371 rfl ?_
                                    refine x_istore (pc := 373) dL_areRoots_373 trivial (by decide) (L' := [(5, _), (9, _), (8, _), (7, _), (6, _), (3, _), (2, _), (0, _), (1, _)]) rfl ?_
                                    refine x_iinc (pc := 375) dL_areRoots_375 rfl (by decide) (L' := [(6, _), (5, _), (9, _), (8, _), (7, _), (3, _), (2, _), (0, _), (1, _)]) rfl ?_
                                    refine x_goto (pc := 378) (t := 183) dL_areRoots_378 (by decide) ?_
                                    refine X.loc [0, 1, 5, 6, 7, 8] (L' := [(6, _), (5, _), (3, _), (2, _), (0, _), (1, _)]) rfl ?_
                                    exact ih (k9 + 1) bl (by omega) hl2 _ _ _ _ (by omega) (by omega) hA
                                  · exfalso; omega
                      · refine x_iconst (pc := 293) dL_areRoots_293 ?_
                        refine x_goto (pc := 294) (t := 298) dL_areRoots_294 (by decide) ?_
                        refine x_istore (pc := 298) dL_areRoots_298 trivial (by decide) (L' := [(8, _), (7, _), (6, _), (5, _), (3, _), (2, _), (0, _), (1, _)]) rfl ?_
                        refine x_aload_n (pc := 300) dL_areRoots_300 rfl rfl ?_
                        refine x_iload (pc := 301) dL_areRoots_301 rfl ?_
                        refine x_iconst (pc := 303) dL_areRoots_303 ?_
                        refine x_iadd (pc := 304) dL_areRoots_304 ?_
                        refine x_callS (pc := 305) [_, _] rfl kL_76 dL_areRoots_305 rfl (by decide) (Nat.le_of_ble_eq_true rfl) (Nat.le_of_ble_eq_true rfl) (show _ + 0 ≤ 400 ∧ _ + 0 ≤ 2400 by omega) ?_
                        refine sp_L_fine hA.2.2 hW ⟨by omega, by omega⟩ ?_
                        rw [← hf1]
                        refine ⟨_, rfl, ?_⟩
                        refine X.cs (cn' := cn + 5) (ck' := ck + 30) ?_ (Nat.le_refl _) (Nat.le_refl _)
                        refine x_lstore (pc := 308) dL_areRoots_308 trivial (by decide) (L' := [(9, _), (8, _), (7, _), (6, _), (5, _), (3, _), (2, _), (0, _), (1, _)]) rfl ?_
                        refine x_iload (pc := 310) dL_areRoots_310 rfl ?_
                        refine x_if_eq (pc := 312) (t := 371) dL_areRoots_312 (by decide) ⟨by omega, by omega⟩ (fun c312 => ?_) (fun c312 => ?_)
                        · refine x_iload (pc := 371) dL_areRoots_371 rfl ?_
                          refine x_istore (pc := 373) dL_areRoots_373 trivial (by decide) (L' := [(5, _), (9, _), (8, _), (7, _), (6, _), (3, _), (2, _), (0, _), (1, _)]) rfl ?_
                          refine x_iinc (pc := 375) dL_areRoots_375 rfl (by decide) (L' := [(6, _), (5, _), (9, _), (8, _), (7, _), (3, _), (2, _), (0, _), (1, _)]) rfl ?_
                          refine x_goto (pc := 378) (t := 183) dL_areRoots_378 (by decide) ?_
                          refine X.loc [0, 1, 5, 6, 7, 8] (L' := [(6, _), (5, _), (3, _), (2, _), (0, _), (1, _)]) rfl ?_
                          exact ih (k9 + 1) bl (by omega) hl2 _ _ _ _ (by omega) (by omega) hA
                        · refine x_lload (pc := 315) dL_areRoots_315 rfl ?_
                          refine x_lconst (pc := 317) (x := 0) dL_areRoots_317 (by decide) ?_
                          refine x_lcmp_eq (pc := 318) (t := 371) dL_areRoots_318 dL_areRoots_319 (by decide) ⟨by omega, by omega⟩ ⟨by omega, by omega⟩ (fun c318 => ?_) (fun c318 => ?_)
                          · refine x_iload (pc := 371) dL_areRoots_371 rfl ?_
                            refine x_istore (pc := 373) dL_areRoots_373 trivial (by decide) (L' := [(5, _), (9, _), (8, _), (7, _), (6, _), (3, _), (2, _), (0, _), (1, _)]) rfl ?_
                            refine x_iinc (pc := 375) dL_areRoots_375 rfl (by decide) (L' := [(6, _), (5, _), (9, _), (8, _), (7, _), (3, _), (2, _), (0, _), (1, _)]) rfl ?_
                            refine x_goto (pc := 378) (t := 183) dL_areRoots_378 (by decide) ?_
                            refine X.loc [0, 1, 5, 6, 7, 8] (L' := [(6, _), (5, _), (3, _), (2, _), (0, _), (1, _)]) rfl ?_
                            exact ih (k9 + 1) bl (by omega) hl2 _ _ _ _ (by omega) (by omega) hA
                          · refine x_aload_n (pc := 322) dL_areRoots_322 rfl rfl ?_
                            refine x_iload (pc := 323) dL_areRoots_323 rfl ?_
                            refine x_callS (pc := 325) [_, _] rfl kL_76 dL_areRoots_325 rfl (by decide) (Nat.le_of_ble_eq_true rfl) (Nat.le_of_ble_eq_true rfl) (show _ + 0 ≤ 400 ∧ _ + 0 ≤ 2400 by omega) ?_
                            refine sp_L_fine hA.2.2 hW ⟨by omega, by omega⟩ ?_
                            rw [← hf0]
                            refine ⟨_, rfl, ?_⟩
                            refine X.cs (cn' := cn + 5) (ck' := ck + 30) ?_ (Nat.le_refl _) (Nat.le_refl _)
                            refine x_lconst (pc := 328) (x := 0) dL_areRoots_328 (by decide) ?_
                            refine x_lcmp_eq (pc := 329) (t := 371) dL_areRoots_329 dL_areRoots_330 (by decide) ⟨by omega, by omega⟩ ⟨by omega, by omega⟩ (fun c329 => ?_) (fun c329 => ?_)
                            · refine x_iload (pc := 371) dL_areRoots_371 rfl ?_
                              refine x_istore (pc := 373) dL_areRoots_373 trivial (by decide) (L' := [(5, _), (9, _), (8, _), (7, _), (6, _), (3, _), (2, _), (0, _), (1, _)]) rfl ?_
                              refine x_iinc (pc := 375) dL_areRoots_375 rfl (by decide) (L' := [(6, _), (5, _), (9, _), (8, _), (7, _), (3, _), (2, _), (0, _), (1, _)]) rfl ?_
                              refine x_goto (pc := 378) (t := 183) dL_areRoots_378 (by decide) ?_
                              refine X.loc [0, 1, 5, 6, 7, 8] (L' := [(6, _), (5, _), (3, _), (2, _), (0, _), (1, _)]) rfl ?_
                              exact ih (k9 + 1) bl (by omega) hl2 _ _ _ _ (by omega) (by omega) hA
                            · refine x_lload (pc := 333) dL_areRoots_333 rfl ?_
                              refine x_callS (pc := 335) [_] rfl kL_82 dL_areRoots_335 rfl (by decide) (Nat.le_of_ble_eq_true rfl) (Nat.le_of_ble_eq_true rfl) (show _ + 0 ≤ 400 ∧ _ + 0 ≤ 2400 by omega) ?_
                              refine sp_L_sign ⟨by omega, by omega⟩ ?_
                              refine ⟨_, rfl, ?_⟩
                              refine X.cs (cn' := cn + 5) (ck' := ck + 30) ?_ (Nat.le_refl _) (Nat.le_refl _)
                              refine x_aload_n (pc := 338) dL_areRoots_338 rfl rfl ?_
                              refine x_iload (pc := 339) dL_areRoots_339 rfl ?_
                              refine x_callS (pc := 341) [_, _] rfl kL_76 dL_areRoots_341 rfl (by decide) (Nat.le_of_ble_eq_true rfl) (Nat.le_of_ble_eq_true rfl) (show _ + 0 ≤ 400 ∧ _ + 0 ≤ 2400 by omega) ?_
                              refine sp_L_fine hA.2.2 hW ⟨by omega, by omega⟩ ?_
                              rw [← hf0]
                              refine ⟨_, rfl, ?_⟩
                              refine X.cs (cn' := cn + 5) (ck' := ck + 30) ?_ (Nat.le_refl _) (Nat.le_refl _)
                              refine x_callS (pc := 344) [_] rfl kL_82 dL_areRoots_344 rfl (by decide) (Nat.le_of_ble_eq_true rfl) (Nat.le_of_ble_eq_true rfl) (show _ + 0 ≤ 400 ∧ _ + 0 ≤ 2400 by omega) ?_
                              refine sp_L_sign ⟨by omega, by omega⟩ ?_
                              refine ⟨_, rfl, ?_⟩
                              refine X.cs (cn' := cn + 5) (ck' := ck + 30) ?_ (Nat.le_refl _) (Nat.le_refl _)
                              refine x_icmp_ne (pc := 347) (t := 371) dL_areRoots_347 (by decide) ⟨by omega, by omega⟩ ⟨by omega, by omega⟩ (fun c347 => ?_) (fun c347 => ?_)
                              · refine x_iload (pc := 371) dL_areRoots_371 rfl ?_
                                refine x_istore (pc := 373) dL_areRoots_373 trivial (by decide) (L' := [(5, _), (9, _), (8, _), (7, _), (6, _), (3, _), (2, _), (0, _), (1, _)]) rfl ?_
                                refine x_iinc (pc := 375) dL_areRoots_375 rfl (by decide) (L' := [(6, _), (5, _), (9, _), (8, _), (7, _), (3, _), (2, _), (0, _), (1, _)]) rfl ?_
                                refine x_goto (pc := 378) (t := 183) dL_areRoots_378 (by decide) ?_
                                refine X.loc [0, 1, 5, 6, 7, 8] (L' := [(6, _), (5, _), (3, _), (2, _), (0, _), (1, _)]) rfl ?_
                                exact ih (k9 + 1) bl (by omega) hl2 _ _ _ _ (by omega) (by omega) hA
                              · refine x_aload_n (pc := 350) dL_areRoots_350 rfl rfl ?_
                                refine x_bipush (pc := 351) dL_areRoots_351 (by decide) ?_
                                refine x_bipush (pc := 353) dL_areRoots_353 (by decide) ?_
                                refine x_callV (pc := 355) [_, _] rfl kL_52 dL_areRoots_355 hA.2.1.1.1 rfl rfl (by decide) (Nat.le_of_ble_eq_true rfl) (Nat.le_of_ble_eq_true rfl) (show _ + 1 ≤ 400 ∧ _ + 6 ≤ 2400 by omega) ?_
                                refine sp_X4_surplus gB hA.2.1.1 hA.2.1.2.1 hA.2.1.2.2.2.1 hA.2.1.2.2.2.2 gC ⟨by omega, by omega⟩ ⟨by omega, by omega⟩ (fun M3 n3 hn3 hS3 => ?_)
                                have hA := hA.scr hbc hn3 hS3
                                rw [show rSur T (-20) 20 = oI (surF T (-20) 20) from if_neg (fun h => h ⟨⟨by omega, by omega⟩, ⟨by omega, by omega⟩, by omega⟩)]
                                refine ⟨_, rfl, ?_⟩
                                refine X.cs (cn' := cn + 6) (ck' := ck + 36) ?_ (Nat.le_refl _) (Nat.le_refl _)
                                refine x_if_ne (pc := 358) (t := 371) dL_areRoots_358 (by decide) ⟨by omega, by omega⟩ (fun c358 => ?_) (fun c358 => ?_)
                                · refine x_iload (pc := 371) dL_areRoots_371 rfl ?_
                                  refine x_istore (pc := 373) dL_areRoots_373 trivial (by decide) (L' := [(5, _), (9, _), (8, _), (7, _), (6, _), (3, _), (2, _), (0, _), (1, _)]) rfl ?_
                                  refine x_iinc (pc := 375) dL_areRoots_375 rfl (by decide) (L' := [(6, _), (5, _), (9, _), (8, _), (7, _), (3, _), (2, _), (0, _), (1, _)]) rfl ?_
                                  refine x_goto (pc := 378) (t := 183) dL_areRoots_378 (by decide) ?_
                                  refine X.loc [0, 1, 5, 6, 7, 8] (L' := [(6, _), (5, _), (3, _), (2, _), (0, _), (1, _)]) rfl ?_
                                  exact ih (k9 + 1) bl (by omega) hl2 _ _ _ _ (by omega) (by omega) hA
                                · refine x_iload_n (pc := 361) dL_areRoots_361 rfl rfl ?_
                                  refine x_aload_n (pc := 362) dL_areRoots_362 rfl rfl ?_
                                  refine x_callV (pc := 363) [] rfl kL_46 dL_areRoots_363 hA.2.1.1.1 rfl rfl (by decide) (Nat.le_of_ble_eq_true rfl) (Nat.le_of_ble_eq_true rfl) (show _ + 0 ≤ 400 ∧ _ + 0 ≤ 2400 by omega) ?_
                                  refine sp_X4_degree gB hA.2.1.1 hA.2.1.2.1 hA.2.1.2.2.2.1 hA.2.1.2.2.2.2  (fun M3 n3 hn3 hS3 => ?_)
                                  have hA := hA.scr hbc hn3 hS3
                                  refine ⟨_, rfl, ?_⟩
                                  refine X.cs (cn' := cn + 6) (ck' := ck + 36) ?_ (Nat.le_refl _) (Nat.le_refl _)
                                  refine x_icmp_ne (pc := 366) (t := 371) dL_areRoots_366 (by decide) ⟨by omega, by omega⟩ ⟨by omega, by omega⟩ (fun c366 => ?_) (fun c366 => ?_)
                                  · refine x_iload (pc := 371) dL_areRoots_371 rfl ?_
                                    refine x_istore (pc := 373) dL_areRoots_373 trivial (by decide) (L' := [(5, _), (9, _), (8, _), (7, _), (6, _), (3, _), (2, _), (0, _), (1, _)]) rfl ?_
                                    refine x_iinc (pc := 375) dL_areRoots_375 rfl (by decide) (L' := [(6, _), (5, _), (9, _), (8, _), (7, _), (3, _), (2, _), (0, _), (1, _)]) rfl ?_
                                    refine x_goto (pc := 378) (t := 183) dL_areRoots_378 (by decide) ?_
                                    refine X.loc [0, 1, 5, 6, 7, 8] (L' := [(6, _), (5, _), (3, _), (2, _), (0, _), (1, _)]) rfl ?_
                                    exact ih (k9 + 1) bl (by omega) hl2 _ _ _ _ (by omega) (by omega) hA
                                  · exfalso; omega
                  · refine x_iload (pc := 263) dL_areRoots_263 rfl ?_
                    refine x_iload (pc := 265) dL_areRoots_265 rfl ?_
                    refine x_icmp_eq (pc := 267) (t := 297) dL_areRoots_267 (by decide) ⟨by omega, by omega⟩ ⟨by omega, by omega⟩ (fun c267 => ?_) (fun c267 => ?_)
                    · refine x_iconst (pc := 297) dL_areRoots_297 ?_
                      refine x_istore (pc := 298) dL_areRoots_298 trivial (by decide) (L' := [(8, _), (7, _), (6, _), (5, _), (3, _), (2, _), (0, _), (1, _)]) rfl ?_
                      refine x_aload_n (pc := 300) dL_areRoots_300 rfl rfl ?_
                      refine x_iload (pc := 301) dL_areRoots_301 rfl ?_
                      refine x_iconst (pc := 303) dL_areRoots_303 ?_
                      refine x_iadd (pc := 304) dL_areRoots_304 ?_
                      refine x_callS (pc := 305) [_, _] rfl kL_76 dL_areRoots_305 rfl (by decide) (Nat.le_of_ble_eq_true rfl) (Nat.le_of_ble_eq_true rfl) (show _ + 0 ≤ 400 ∧ _ + 0 ≤ 2400 by omega) ?_
                      refine sp_L_fine hA.2.2 hW ⟨by omega, by omega⟩ ?_
                      rw [← hf1]
                      refine ⟨_, rfl, ?_⟩
                      refine X.cs (cn' := cn + 4) (ck' := ck + 24) ?_ (Nat.le_refl _) (Nat.le_refl _)
                      refine x_lstore (pc := 308) dL_areRoots_308 trivial (by decide) (L' := [(9, _), (8, _), (7, _), (6, _), (5, _), (3, _), (2, _), (0, _), (1, _)]) rfl ?_
                      refine x_iload (pc := 310) dL_areRoots_310 rfl ?_
                      refine x_if_eq (pc := 312) (t := 371) dL_areRoots_312 (by decide) ⟨by omega, by omega⟩ (fun c312 => ?_) (fun c312 => ?_)
                      · refine x_iload (pc := 371) dL_areRoots_371 rfl ?_
                        refine x_istore (pc := 373) dL_areRoots_373 trivial (by decide) (L' := [(5, _), (9, _), (8, _), (7, _), (6, _), (3, _), (2, _), (0, _), (1, _)]) rfl ?_
                        refine x_iinc (pc := 375) dL_areRoots_375 rfl (by decide) (L' := [(6, _), (5, _), (9, _), (8, _), (7, _), (3, _), (2, _), (0, _), (1, _)]) rfl ?_
                        refine x_goto (pc := 378) (t := 183) dL_areRoots_378 (by decide) ?_
                        refine X.loc [0, 1, 5, 6, 7, 8] (L' := [(6, _), (5, _), (3, _), (2, _), (0, _), (1, _)]) rfl ?_
                        exact ih (k9 + 1) bl (by omega) hl2 _ _ _ _ (by omega) (by omega) hA
                      · refine x_lload (pc := 315) dL_areRoots_315 rfl ?_
                        refine x_lconst (pc := 317) (x := 0) dL_areRoots_317 (by decide) ?_
                        refine x_lcmp_eq (pc := 318) (t := 371) dL_areRoots_318 dL_areRoots_319 (by decide) ⟨by omega, by omega⟩ ⟨by omega, by omega⟩ (fun c318 => ?_) (fun c318 => ?_)
                        · refine x_iload (pc := 371) dL_areRoots_371 rfl ?_
                          refine x_istore (pc := 373) dL_areRoots_373 trivial (by decide) (L' := [(5, _), (9, _), (8, _), (7, _), (6, _), (3, _), (2, _), (0, _), (1, _)]) rfl ?_
                          refine x_iinc (pc := 375) dL_areRoots_375 rfl (by decide) (L' := [(6, _), (5, _), (9, _), (8, _), (7, _), (3, _), (2, _), (0, _), (1, _)]) rfl ?_
                          refine x_goto (pc := 378) (t := 183) dL_areRoots_378 (by decide) ?_
                          refine X.loc [0, 1, 5, 6, 7, 8] (L' := [(6, _), (5, _), (3, _), (2, _), (0, _), (1, _)]) rfl ?_
                          exact ih (k9 + 1) bl (by omega) hl2 _ _ _ _ (by omega) (by omega) hA
                        · refine x_aload_n (pc := 322) dL_areRoots_322 rfl rfl ?_
                          refine x_iload (pc := 323) dL_areRoots_323 rfl ?_
                          refine x_callS (pc := 325) [_, _] rfl kL_76 dL_areRoots_325 rfl (by decide) (Nat.le_of_ble_eq_true rfl) (Nat.le_of_ble_eq_true rfl) (show _ + 0 ≤ 400 ∧ _ + 0 ≤ 2400 by omega) ?_
                          refine sp_L_fine hA.2.2 hW ⟨by omega, by omega⟩ ?_
                          rw [← hf0]
                          refine ⟨_, rfl, ?_⟩
                          refine X.cs (cn' := cn + 4) (ck' := ck + 24) ?_ (Nat.le_refl _) (Nat.le_refl _)
                          refine x_lconst (pc := 328) (x := 0) dL_areRoots_328 (by decide) ?_
                          refine x_lcmp_eq (pc := 329) (t := 371) dL_areRoots_329 dL_areRoots_330 (by decide) ⟨by omega, by omega⟩ ⟨by omega, by omega⟩ (fun c329 => ?_) (fun c329 => ?_)
                          · refine x_iload (pc := 371) dL_areRoots_371 rfl ?_
                            refine x_istore (pc := 373) dL_areRoots_373 trivial (by decide) (L' := [(5, _), (9, _), (8, _), (7, _), (6, _), (3, _), (2, _), (0, _), (1, _)]) rfl ?_
                            refine x_iinc (pc := 375) dL_areRoots_375 rfl (by decide) (L' := [(6, _), (5, _), (9, _), (8, _), (7, _), (3, _), (2, _), (0, _), (1, _)]) rfl ?_
                            refine x_goto (pc := 378) (t := 183) dL_areRoots_378 (by decide) ?_
                            refine X.loc [0, 1, 5, 6, 7, 8] (L' := [(6, _), (5, _), (3, _), (2, _), (0, _), (1, _)]) rfl ?_
                            exact ih (k9 + 1) bl (by omega) hl2 _ _ _ _ (by omega) (by omega) hA
                          · refine x_lload (pc := 333) dL_areRoots_333 rfl ?_
                            refine x_callS (pc := 335) [_] rfl kL_82 dL_areRoots_335 rfl (by decide) (Nat.le_of_ble_eq_true rfl) (Nat.le_of_ble_eq_true rfl) (show _ + 0 ≤ 400 ∧ _ + 0 ≤ 2400 by omega) ?_
                            refine sp_L_sign ⟨by omega, by omega⟩ ?_
                            refine ⟨_, rfl, ?_⟩
                            refine X.cs (cn' := cn + 4) (ck' := ck + 24) ?_ (Nat.le_refl _) (Nat.le_refl _)
                            refine x_aload_n (pc := 338) dL_areRoots_338 rfl rfl ?_
                            refine x_iload (pc := 339) dL_areRoots_339 rfl ?_
                            refine x_callS (pc := 341) [_, _] rfl kL_76 dL_areRoots_341 rfl (by decide) (Nat.le_of_ble_eq_true rfl) (Nat.le_of_ble_eq_true rfl) (show _ + 0 ≤ 400 ∧ _ + 0 ≤ 2400 by omega) ?_
                            refine sp_L_fine hA.2.2 hW ⟨by omega, by omega⟩ ?_
                            rw [← hf0]
                            refine ⟨_, rfl, ?_⟩
                            refine X.cs (cn' := cn + 4) (ck' := ck + 24) ?_ (Nat.le_refl _) (Nat.le_refl _)
                            refine x_callS (pc := 344) [_] rfl kL_82 dL_areRoots_344 rfl (by decide) (Nat.le_of_ble_eq_true rfl) (Nat.le_of_ble_eq_true rfl) (show _ + 0 ≤ 400 ∧ _ + 0 ≤ 2400 by omega) ?_
                            refine sp_L_sign ⟨by omega, by omega⟩ ?_
                            refine ⟨_, rfl, ?_⟩
                            refine X.cs (cn' := cn + 4) (ck' := ck + 24) ?_ (Nat.le_refl _) (Nat.le_refl _)
                            refine x_icmp_ne (pc := 347) (t := 371) dL_areRoots_347 (by decide) ⟨by omega, by omega⟩ ⟨by omega, by omega⟩ (fun c347 => ?_) (fun c347 => ?_)
                            · refine x_iload (pc := 371) dL_areRoots_371 rfl ?_
                              refine x_istore (pc := 373) dL_areRoots_373 trivial (by decide) (L' := [(5, _), (9, _), (8, _), (7, _), (6, _), (3, _), (2, _), (0, _), (1, _)]) rfl ?_
                              refine x_iinc (pc := 375) dL_areRoots_375 rfl (by decide) (L' := [(6, _), (5, _), (9, _), (8, _), (7, _), (3, _), (2, _), (0, _), (1, _)]) rfl ?_
                              refine x_goto (pc := 378) (t := 183) dL_areRoots_378 (by decide) ?_
                              refine X.loc [0, 1, 5, 6, 7, 8] (L' := [(6, _), (5, _), (3, _), (2, _), (0, _), (1, _)]) rfl ?_
                              exact ih (k9 + 1) bl (by omega) hl2 _ _ _ _ (by omega) (by omega) hA
                            · refine x_aload_n (pc := 350) dL_areRoots_350 rfl rfl ?_
                              refine x_bipush (pc := 351) dL_areRoots_351 (by decide) ?_
                              refine x_bipush (pc := 353) dL_areRoots_353 (by decide) ?_
                              refine x_callV (pc := 355) [_, _] rfl kL_52 dL_areRoots_355 hA.2.1.1.1 rfl rfl (by decide) (Nat.le_of_ble_eq_true rfl) (Nat.le_of_ble_eq_true rfl) (show _ + 1 ≤ 400 ∧ _ + 6 ≤ 2400 by omega) ?_
                              refine sp_X4_surplus gB hA.2.1.1 hA.2.1.2.1 hA.2.1.2.2.2.1 hA.2.1.2.2.2.2 gC ⟨by omega, by omega⟩ ⟨by omega, by omega⟩ (fun M3 n3 hn3 hS3 => ?_)
                              have hA := hA.scr hbc hn3 hS3
                              rw [show rSur T (-20) 20 = oI (surF T (-20) 20) from if_neg (fun h => h ⟨⟨by omega, by omega⟩, ⟨by omega, by omega⟩, by omega⟩)]
                              refine ⟨_, rfl, ?_⟩
                              refine X.cs (cn' := cn + 5) (ck' := ck + 30) ?_ (Nat.le_refl _) (Nat.le_refl _)
                              refine x_if_ne (pc := 358) (t := 371) dL_areRoots_358 (by decide) ⟨by omega, by omega⟩ (fun c358 => ?_) (fun c358 => ?_)
                              · refine x_iload (pc := 371) dL_areRoots_371 rfl ?_
                                refine x_istore (pc := 373) dL_areRoots_373 trivial (by decide) (L' := [(5, _), (9, _), (8, _), (7, _), (6, _), (3, _), (2, _), (0, _), (1, _)]) rfl ?_
                                refine x_iinc (pc := 375) dL_areRoots_375 rfl (by decide) (L' := [(6, _), (5, _), (9, _), (8, _), (7, _), (3, _), (2, _), (0, _), (1, _)]) rfl ?_
                                refine x_goto (pc := 378) (t := 183) dL_areRoots_378 (by decide) ?_
                                refine X.loc [0, 1, 5, 6, 7, 8] (L' := [(6, _), (5, _), (3, _), (2, _), (0, _), (1, _)]) rfl ?_
                                exact ih (k9 + 1) bl (by omega) hl2 _ _ _ _ (by omega) (by omega) hA
                              · refine x_iload_n (pc := 361) dL_areRoots_361 rfl rfl ?_
                                refine x_aload_n (pc := 362) dL_areRoots_362 rfl rfl ?_
                                refine x_callV (pc := 363) [] rfl kL_46 dL_areRoots_363 hA.2.1.1.1 rfl rfl (by decide) (Nat.le_of_ble_eq_true rfl) (Nat.le_of_ble_eq_true rfl) (show _ + 0 ≤ 400 ∧ _ + 0 ≤ 2400 by omega) ?_
                                refine sp_X4_degree gB hA.2.1.1 hA.2.1.2.1 hA.2.1.2.2.2.1 hA.2.1.2.2.2.2  (fun M3 n3 hn3 hS3 => ?_)
                                have hA := hA.scr hbc hn3 hS3
                                refine ⟨_, rfl, ?_⟩
                                refine X.cs (cn' := cn + 5) (ck' := ck + 30) ?_ (Nat.le_refl _) (Nat.le_refl _)
                                refine x_icmp_ne (pc := 366) (t := 371) dL_areRoots_366 (by decide) ⟨by omega, by omega⟩ ⟨by omega, by omega⟩ (fun c366 => ?_) (fun c366 => ?_)
                                · refine x_iload (pc := 371) dL_areRoots_371 rfl ?_
                                  refine x_istore (pc := 373) dL_areRoots_373 trivial (by decide) (L' := [(5, _), (9, _), (8, _), (7, _), (6, _), (3, _), (2, _), (0, _), (1, _)]) rfl ?_
                                  refine x_iinc (pc := 375) dL_areRoots_375 rfl (by decide) (L' := [(6, _), (5, _), (9, _), (8, _), (7, _), (3, _), (2, _), (0, _), (1, _)]) rfl ?_
                                  refine x_goto (pc := 378) (t := 183) dL_areRoots_378 (by decide) ?_
                                  refine X.loc [0, 1, 5, 6, 7, 8] (L' := [(6, _), (5, _), (3, _), (2, _), (0, _), (1, _)]) rfl ?_
                                  exact ih (k9 + 1) bl (by omega) hl2 _ _ _ _ (by omega) (by omega) hA
                                · exfalso; omega
                    · refine x_iload (pc := 270) dL_areRoots_270 rfl ?_
                      refine x_iload_n (pc := 272) dL_areRoots_272 rfl rfl ?_
                      refine x_iconst (pc := 273) dL_areRoots_273 ?_
                      refine x_isub (pc := 274) dL_areRoots_274 ?_
                      refine x_icmp_eq (pc := 275) (t := 293) dL_areRoots_275 (by decide) ⟨by omega, by omega⟩ ⟨by omega, by omega⟩ (fun c275 => ?_) (fun c275 => ?_)
                      · refine x_iconst (pc := 293) dL_areRoots_293 ?_
                        refine x_goto (pc := 294) (t := 298) dL_areRoots_294 (by decide) ?_
                        refine x_istore (pc := 298) dL_areRoots_298 trivial (by decide) (L' := [(8, _), (7, _), (6, _), (5, _), (3, _), (2, _), (0, _), (1, _)]) rfl ?_
                        refine x_aload_n (pc := 300) dL_areRoots_300 rfl rfl ?_
                        refine x_iload (pc := 301) dL_areRoots_301 rfl ?_
                        refine x_iconst (pc := 303) dL_areRoots_303 ?_
                        refine x_iadd (pc := 304) dL_areRoots_304 ?_
                        refine x_callS (pc := 305) [_, _] rfl kL_76 dL_areRoots_305 rfl (by decide) (Nat.le_of_ble_eq_true rfl) (Nat.le_of_ble_eq_true rfl) (show _ + 0 ≤ 400 ∧ _ + 0 ≤ 2400 by omega) ?_
                        refine sp_L_fine hA.2.2 hW ⟨by omega, by omega⟩ ?_
                        rw [← hf1]
                        refine ⟨_, rfl, ?_⟩
                        refine X.cs (cn' := cn + 4) (ck' := ck + 24) ?_ (Nat.le_refl _) (Nat.le_refl _)
                        refine x_lstore (pc := 308) dL_areRoots_308 trivial (by decide) (L' := [(9, _), (8, _), (7, _), (6, _), (5, _), (3, _), (2, _), (0, _), (1, _)]) rfl ?_
                        refine x_iload (pc := 310) dL_areRoots_310 rfl ?_
                        refine x_if_eq (pc := 312) (t := 371) dL_areRoots_312 (by decide) ⟨by omega, by omega⟩ (fun c312 => ?_) (fun c312 => ?_)
                        · refine x_iload (pc := 371) dL_areRoots_371 rfl ?_
                          refine x_istore (pc := 373) dL_areRoots_373 trivial (by decide) (L' := [(5, _), (9, _), (8, _), (7, _), (6, _), (3, _), (2, _), (0, _), (1, _)]) rfl ?_
                          refine x_iinc (pc := 375) dL_areRoots_375 rfl (by decide) (L' := [(6, _), (5, _), (9, _), (8, _), (7, _), (3, _), (2, _), (0, _), (1, _)]) rfl ?_
                          refine x_goto (pc := 378) (t := 183) dL_areRoots_378 (by decide) ?_
                          refine X.loc [0, 1, 5, 6, 7, 8] (L' := [(6, _), (5, _), (3, _), (2, _), (0, _), (1, _)]) rfl ?_
                          exact ih (k9 + 1) bl (by omega) hl2 _ _ _ _ (by omega) (by omega) hA
                        · refine x_lload (pc := 315) dL_areRoots_315 rfl ?_
                          refine x_lconst (pc := 317) (x := 0) dL_areRoots_317 (by decide) ?_
                          refine x_lcmp_eq (pc := 318) (t := 371) dL_areRoots_318 dL_areRoots_319 (by decide) ⟨by omega, by omega⟩ ⟨by omega, by omega⟩ (fun c318 => ?_) (fun c318 => ?_)
                          · refine x_iload (pc := 371) dL_areRoots_371 rfl ?_
                            refine x_istore (pc := 373) dL_areRoots_373 trivial (by decide) (L' := [(5, _), (9, _), (8, _), (7, _), (6, _), (3, _), (2, _), (0, _), (1, _)]) rfl ?_
                            refine x_iinc (pc := 375) dL_areRoots_375 rfl (by decide) (L' := [(6, _), (5, _), (9, _), (8, _), (7, _), (3, _), (2, _), (0, _), (1, _)]) rfl ?_
                            refine x_goto (pc := 378) (t := 183) dL_areRoots_378 (by decide) ?_
                            refine X.loc [0, 1, 5, 6, 7, 8] (L' := [(6, _), (5, _), (3, _), (2, _), (0, _), (1, _)]) rfl ?_
                            exact ih (k9 + 1) bl (by omega) hl2 _ _ _ _ (by omega) (by omega) hA
                          · refine x_aload_n (pc := 322) dL_areRoots_322 rfl rfl ?_
                            refine x_iload (pc := 323) dL_areRoots_323 rfl ?_
                            refine x_callS (pc := 325) [_, _] rfl kL_76 dL_areRoots_325 rfl (by decide) (Nat.le_of_ble_eq_true rfl) (Nat.le_of_ble_eq_true rfl) (show _ + 0 ≤ 400 ∧ _ + 0 ≤ 2400 by omega) ?_
                            refine sp_L_fine hA.2.2 hW ⟨by omega, by omega⟩ ?_
                            rw [← hf0]
                            refine ⟨_, rfl, ?_⟩
                            refine X.cs (cn' := cn + 4) (ck' := ck + 24) ?_ (Nat.le_refl _) (Nat.le_refl _)
                            refine x_lconst (pc := 328) (x := 0) dL_areRoots_328 (by decide) ?_
                            refine x_lcmp_eq (pc := 329) (t := 371) dL_areRoots_329 dL_areRoots_330 (by decide) ⟨by omega, by omega⟩ ⟨by omega, by omega⟩ (fun c329 => ?_) (fun c329 => ?_)
                            · refine x_iload (pc := 371) dL_areRoots_371 rfl ?_
                              refine x_istore (pc := 373) dL_areRoots_373 trivial (by decide) (L' := [(5, _), (9, _), (8, _), (7, _), (6, _), (3, _), (2, _), (0, _), (1, _)]) rfl ?_
                              refine x_iinc (pc := 375) dL_areRoots_375 rfl (by decide) (L' := [(6, _), (5, _), (9, _), (8, _), (7, _), (3, _), (2, _), (0, _), (1, _)]) rfl ?_
                              refine x_goto (pc := 378) (t := 183) dL_areRoots_378 (by decide) ?_
                              refine X.loc [0, 1, 5, 6, 7, 8] (L' := [(6, _), (5, _), (3, _), (2, _), (0, _), (1, _)]) rfl ?_
                              exact ih (k9 + 1) bl (by omega) hl2 _ _ _ _ (by omega) (by omega) hA
                            · refine x_lload (pc := 333) dL_areRoots_333 rfl ?_
                              refine x_callS (pc := 335) [_] rfl kL_82 dL_areRoots_335 rfl (by decide) (Nat.le_of_ble_eq_true rfl) (Nat.le_of_ble_eq_true rfl) (show _ + 0 ≤ 400 ∧ _ + 0 ≤ 2400 by omega) ?_
                              refine sp_L_sign ⟨by omega, by omega⟩ ?_
                              refine ⟨_, rfl, ?_⟩
                              refine X.cs (cn' := cn + 4) (ck' := ck + 24) ?_ (Nat.le_refl _) (Nat.le_refl _)
                              refine x_aload_n (pc := 338) dL_areRoots_338 rfl rfl ?_
                              refine x_iload (pc := 339) dL_areRoots_339 rfl ?_
                              refine x_callS (pc := 341) [_, _] rfl kL_76 dL_areRoots_341 rfl (by decide) (Nat.le_of_ble_eq_true rfl) (Nat.le_of_ble_eq_true rfl) (show _ + 0 ≤ 400 ∧ _ + 0 ≤ 2400 by omega) ?_
                              refine sp_L_fine hA.2.2 hW ⟨by omega, by omega⟩ ?_
                              rw [← hf0]
                              refine ⟨_, rfl, ?_⟩
                              refine X.cs (cn' := cn + 4) (ck' := ck + 24) ?_ (Nat.le_refl _) (Nat.le_refl _)
                              refine x_callS (pc := 344) [_] rfl kL_82 dL_areRoots_344 rfl (by decide) (Nat.le_of_ble_eq_true rfl) (Nat.le_of_ble_eq_true rfl) (show _ + 0 ≤ 400 ∧ _ + 0 ≤ 2400 by omega) ?_
                              refine sp_L_sign ⟨by omega, by omega⟩ ?_
                              refine ⟨_, rfl, ?_⟩
                              refine X.cs (cn' := cn + 4) (ck' := ck + 24) ?_ (Nat.le_refl _) (Nat.le_refl _)
                              refine x_icmp_ne (pc := 347) (t := 371) dL_areRoots_347 (by decide) ⟨by omega, by omega⟩ ⟨by omega, by omega⟩ (fun c347 => ?_) (fun c347 => ?_)
                              · refine x_iload (pc := 371) dL_areRoots_371 rfl ?_
                                refine x_istore (pc := 373) dL_areRoots_373 trivial (by decide) (L' := [(5, _), (9, _), (8, _), (7, _), (6, _), (3, _), (2, _), (0, _), (1, _)]) rfl ?_
                                refine x_iinc (pc := 375) dL_areRoots_375 rfl (by decide) (L' := [(6, _), (5, _), (9, _), (8, _), (7, _), (3, _), (2, _), (0, _), (1, _)]) rfl ?_
                                refine x_goto (pc := 378) (t := 183) dL_areRoots_378 (by decide) ?_
                                refine X.loc [0, 1, 5, 6, 7, 8] (L' := [(6, _), (5, _), (3, _), (2, _), (0, _), (1, _)]) rfl ?_
                                exact ih (k9 + 1) bl (by omega) hl2 _ _ _ _ (by omega) (by omega) hA
                              · refine x_aload_n (pc := 350) dL_areRoots_350 rfl rfl ?_
                                refine x_bipush (pc := 351) dL_areRoots_351 (by decide) ?_
                                refine x_bipush (pc := 353) dL_areRoots_353 (by decide) ?_
                                refine x_callV (pc := 355) [_, _] rfl kL_52 dL_areRoots_355 hA.2.1.1.1 rfl rfl (by decide) (Nat.le_of_ble_eq_true rfl) (Nat.le_of_ble_eq_true rfl) (show _ + 1 ≤ 400 ∧ _ + 6 ≤ 2400 by omega) ?_
                                refine sp_X4_surplus gB hA.2.1.1 hA.2.1.2.1 hA.2.1.2.2.2.1 hA.2.1.2.2.2.2 gC ⟨by omega, by omega⟩ ⟨by omega, by omega⟩ (fun M3 n3 hn3 hS3 => ?_)
                                have hA := hA.scr hbc hn3 hS3
                                rw [show rSur T (-20) 20 = oI (surF T (-20) 20) from if_neg (fun h => h ⟨⟨by omega, by omega⟩, ⟨by omega, by omega⟩, by omega⟩)]
                                refine ⟨_, rfl, ?_⟩
                                refine X.cs (cn' := cn + 5) (ck' := ck + 30) ?_ (Nat.le_refl _) (Nat.le_refl _)
                                refine x_if_ne (pc := 358) (t := 371) dL_areRoots_358 (by decide) ⟨by omega, by omega⟩ (fun c358 => ?_) (fun c358 => ?_)
                                · refine x_iload (pc := 371) dL_areRoots_371 rfl ?_
                                  refine x_istore (pc := 373) dL_areRoots_373 trivial (by decide) (L' := [(5, _), (9, _), (8, _), (7, _), (6, _), (3, _), (2, _), (0, _), (1, _)]) rfl ?_
                                  refine x_iinc (pc := 375) dL_areRoots_375 rfl (by decide) (L' := [(6, _), (5, _), (9, _), (8, _), (7, _), (3, _), (2, _), (0, _), (1, _)]) rfl ?_
                                  refine x_goto (pc := 378) (t := 183) dL_areRoots_378 (by decide) ?_
                                  refine X.loc [0, 1, 5, 6, 7, 8] (L' := [(6, _), (5, _), (3, _), (2, _), (0, _), (1, _)]) rfl ?_
                                  exact ih (k9 + 1) bl (by omega) hl2 _ _ _ _ (by omega) (by omega) hA
                                · refine x_iload_n (pc := 361) dL_areRoots_361 rfl rfl ?_
                                  refine x_aload_n (pc := 362) dL_areRoots_362 rfl rfl ?_
                                  refine x_callV (pc := 363) [] rfl kL_46 dL_areRoots_363 hA.2.1.1.1 rfl rfl (by decide) (Nat.le_of_ble_eq_true rfl) (Nat.le_of_ble_eq_true rfl) (show _ + 0 ≤ 400 ∧ _ + 0 ≤ 2400 by omega) ?_
                                  refine sp_X4_degree gB hA.2.1.1 hA.2.1.2.1 hA.2.1.2.2.2.1 hA.2.1.2.2.2.2  (fun M3 n3 hn3 hS3 => ?_)
                                  have hA := hA.scr hbc hn3 hS3
                                  refine ⟨_, rfl, ?_⟩
                                  refine X.cs (cn' := cn + 5) (ck' := ck + 30) ?_ (Nat.le_refl _) (Nat.le_refl _)
                                  refine x_icmp_ne (pc := 366) (t := 371) dL_areRoots_366 (by decide) ⟨by omega, by omega⟩ ⟨by omega, by omega⟩ (fun c366 => ?_) (fun c366 => ?_)
                                  · refine x_iload (pc := 371) dL_areRoots_371 rfl ?_
                                    refine x_istore (pc := 373) dL_areRoots_373 trivial (by decide) (L' := [(5, _), (9, _), (8, _), (7, _), (6, _), (3, _), (2, _), (0, _), (1, _)]) rfl ?_
                                    refine x_iinc (pc := 375) dL_areRoots_375 rfl (by decide) (L' := [(6, _), (5, _), (9, _), (8, _), (7, _), (3, _), (2, _), (0, _), (1, _)]) rfl ?_
                                    refine x_goto (pc := 378) (t := 183) dL_areRoots_378 (by decide) ?_
                                    refine X.loc [0, 1, 5, 6, 7, 8] (L' := [(6, _), (5, _), (3, _), (2, _), (0, _), (1, _)]) rfl ?_
                                    exact ih (k9 + 1) bl (by omega) hl2 _ _ _ _ (by omega) (by omega) hA
                                  · exfalso; omega
                      · refine x_aload_n (pc := 278) dL_areRoots_278 rfl rfl ?_
                        refine x_iload (pc := 279) dL_areRoots_279 rfl ?_
                        refine x_iconst (pc := 281) dL_areRoots_281 ?_
                        refine x_iadd (pc := 282) dL_areRoots_282 ?_
                        refine x_bipush (pc := 283) dL_areRoots_283 (by decide) ?_
                        refine x_callV (pc := 285) [_, _] rfl kL_67 dL_areRoots_285 hA.2.1.1.1 rfl rfl (by decide) (Nat.le_of_ble_eq_true rfl) (Nat.le_of_ble_eq_true rfl) (show _ + 1 ≤ 400 ∧ _ + 6 ≤ 2400 by omega) ?_
                        refine sp_X4_near gB hA.2.1.1 hA.2.1.2.1 hA.2.1.2.2.2.1 hA.2.1.2.2.2.2 ⟨by omega, by omega⟩ ⟨by omega, by omega⟩ (fun M3 n3 hn3 hS3 => ?_)
                        have hA := hA.scr hbc hn3 hS3
                        rw [show rNear T ((k9 : Nat) + 1) 6 = oI (belowF (buildF (tP T)) ((k9 : Nat) + 1) 6) from (if_neg (fun h => h ⟨by omega, by omega⟩)).trans (if_neg (fun h => h ⟨by decide, by decide⟩))]
                        rw [← hbn]
                        refine ⟨_, rfl, ?_⟩
                        refine X.cs (cn' := cn + 5) (ck' := ck + 30) ?_ (Nat.le_refl _) (Nat.le_refl _)
                        refine x_iload (pc := 288) dL_areRoots_288 rfl ?_
                        refine x_icmp_eq (pc := 290) (t := 297) dL_areRoots_290 (by decide) ⟨by omega, by omega⟩ ⟨by omega, by omega⟩ (fun c290 => ?_) (fun c290 => ?_)
                        · refine x_iconst (pc := 297) dL_areRoots_297 ?_
                          refine x_istore (pc := 298) dL_areRoots_298 trivial (by decide) (L' := [(8, _), (7, _), (6, _), (5, _), (3, _), (2, _), (0, _), (1, _)]) rfl ?_
                          refine x_aload_n (pc := 300) dL_areRoots_300 rfl rfl ?_
                          refine x_iload (pc := 301) dL_areRoots_301 rfl ?_
                          refine x_iconst (pc := 303) dL_areRoots_303 ?_
                          refine x_iadd (pc := 304) dL_areRoots_304 ?_
                          refine x_callS (pc := 305) [_, _] rfl kL_76 dL_areRoots_305 rfl (by decide) (Nat.le_of_ble_eq_true rfl) (Nat.le_of_ble_eq_true rfl) (show _ + 0 ≤ 400 ∧ _ + 0 ≤ 2400 by omega) ?_
                          refine sp_L_fine hA.2.2 hW ⟨by omega, by omega⟩ ?_
                          rw [← hf1]
                          refine ⟨_, rfl, ?_⟩
                          refine X.cs (cn' := cn + 5) (ck' := ck + 30) ?_ (Nat.le_refl _) (Nat.le_refl _)
                          refine x_lstore (pc := 308) dL_areRoots_308 trivial (by decide) (L' := [(9, _), (8, _), (7, _), (6, _), (5, _), (3, _), (2, _), (0, _), (1, _)]) rfl ?_
                          refine x_iload (pc := 310) dL_areRoots_310 rfl ?_
                          refine x_if_eq (pc := 312) (t := 371) dL_areRoots_312 (by decide) ⟨by omega, by omega⟩ (fun c312 => ?_) (fun c312 => ?_)
                          · refine x_iload (pc := 371) dL_areRoots_371 rfl ?_
                            refine x_istore (pc := 373) dL_areRoots_373 trivial (by decide) (L' := [(5, _), (9, _), (8, _), (7, _), (6, _), (3, _), (2, _), (0, _), (1, _)]) rfl ?_
                            refine x_iinc (pc := 375) dL_areRoots_375 rfl (by decide) (L' := [(6, _), (5, _), (9, _), (8, _), (7, _), (3, _), (2, _), (0, _), (1, _)]) rfl ?_
                            refine x_goto (pc := 378) (t := 183) dL_areRoots_378 (by decide) ?_
                            refine X.loc [0, 1, 5, 6, 7, 8] (L' := [(6, _), (5, _), (3, _), (2, _), (0, _), (1, _)]) rfl ?_
                            exact ih (k9 + 1) bl (by omega) hl2 _ _ _ _ (by omega) (by omega) hA
                          · refine x_lload (pc := 315) dL_areRoots_315 rfl ?_
                            refine x_lconst (pc := 317) (x := 0) dL_areRoots_317 (by decide) ?_
                            refine x_lcmp_eq (pc := 318) (t := 371) dL_areRoots_318 dL_areRoots_319 (by decide) ⟨by omega, by omega⟩ ⟨by omega, by omega⟩ (fun c318 => ?_) (fun c318 => ?_)
                            · refine x_iload (pc := 371) dL_areRoots_371 rfl ?_
                              refine x_istore (pc := 373) dL_areRoots_373 trivial (by decide) (L' := [(5, _), (9, _), (8, _), (7, _), (6, _), (3, _), (2, _), (0, _), (1, _)]) rfl ?_
                              refine x_iinc (pc := 375) dL_areRoots_375 rfl (by decide) (L' := [(6, _), (5, _), (9, _), (8, _), (7, _), (3, _), (2, _), (0, _), (1, _)]) rfl ?_
                              refine x_goto (pc := 378) (t := 183) dL_areRoots_378 (by decide) ?_
                              refine X.loc [0, 1, 5, 6, 7, 8] (L' := [(6, _), (5, _), (3, _), (2, _), (0, _), (1, _)]) rfl ?_
                              exact ih (k9 + 1) bl (by omega) hl2 _ _ _ _ (by omega) (by omega) hA
                            · refine x_aload_n (pc := 322) dL_areRoots_322 rfl rfl ?_
                              refine x_iload (pc := 323) dL_areRoots_323 rfl ?_
                              refine x_callS (pc := 325) [_, _] rfl kL_76 dL_areRoots_325 rfl (by decide) (Nat.le_of_ble_eq_true rfl) (Nat.le_of_ble_eq_true rfl) (show _ + 0 ≤ 400 ∧ _ + 0 ≤ 2400 by omega) ?_
                              refine sp_L_fine hA.2.2 hW ⟨by omega, by omega⟩ ?_
                              rw [← hf0]
                              refine ⟨_, rfl, ?_⟩
                              refine X.cs (cn' := cn + 5) (ck' := ck + 30) ?_ (Nat.le_refl _) (Nat.le_refl _)
                              refine x_lconst (pc := 328) (x := 0) dL_areRoots_328 (by decide) ?_
                              refine x_lcmp_eq (pc := 329) (t := 371) dL_areRoots_329 dL_areRoots_330 (by decide) ⟨by omega, by omega⟩ ⟨by omega, by omega⟩ (fun c329 => ?_) (fun c329 => ?_)
                              · refine x_iload (pc := 371) dL_areRoots_371 rfl ?_
                                refine x_istore (pc := 373) dL_areRoots_373 trivial (by decide) (L' := [(5, _), (9, _), (8, _), (7, _), (6, _), (3, _), (2, _), (0, _), (1, _)]) rfl ?_
                                refine x_iinc (pc := 375) dL_areRoots_375 rfl (by decide) (L' := [(6, _), (5, _), (9, _), (8, _), (7, _), (3, _), (2, _), (0, _), (1, _)]) rfl ?_
                                refine x_goto (pc := 378) (t := 183) dL_areRoots_378 (by decide) ?_
                                refine X.loc [0, 1, 5, 6, 7, 8] (L' := [(6, _), (5, _), (3, _), (2, _), (0, _), (1, _)]) rfl ?_
                                exact ih (k9 + 1) bl (by omega) hl2 _ _ _ _ (by omega) (by omega) hA
                              · refine x_lload (pc := 333) dL_areRoots_333 rfl ?_
                                refine x_callS (pc := 335) [_] rfl kL_82 dL_areRoots_335 rfl (by decide) (Nat.le_of_ble_eq_true rfl) (Nat.le_of_ble_eq_true rfl) (show _ + 0 ≤ 400 ∧ _ + 0 ≤ 2400 by omega) ?_
                                refine sp_L_sign ⟨by omega, by omega⟩ ?_
                                refine ⟨_, rfl, ?_⟩
                                refine X.cs (cn' := cn + 5) (ck' := ck + 30) ?_ (Nat.le_refl _) (Nat.le_refl _)
                                refine x_aload_n (pc := 338) dL_areRoots_338 rfl rfl ?_
                                refine x_iload (pc := 339) dL_areRoots_339 rfl ?_
                                refine x_callS (pc := 341) [_, _] rfl kL_76 dL_areRoots_341 rfl (by decide) (Nat.le_of_ble_eq_true rfl) (Nat.le_of_ble_eq_true rfl) (show _ + 0 ≤ 400 ∧ _ + 0 ≤ 2400 by omega) ?_
                                refine sp_L_fine hA.2.2 hW ⟨by omega, by omega⟩ ?_
                                rw [← hf0]
                                refine ⟨_, rfl, ?_⟩
                                refine X.cs (cn' := cn + 5) (ck' := ck + 30) ?_ (Nat.le_refl _) (Nat.le_refl _)
                                refine x_callS (pc := 344) [_] rfl kL_82 dL_areRoots_344 rfl (by decide) (Nat.le_of_ble_eq_true rfl) (Nat.le_of_ble_eq_true rfl) (show _ + 0 ≤ 400 ∧ _ + 0 ≤ 2400 by omega) ?_
                                refine sp_L_sign ⟨by omega, by omega⟩ ?_
                                refine ⟨_, rfl, ?_⟩
                                refine X.cs (cn' := cn + 5) (ck' := ck + 30) ?_ (Nat.le_refl _) (Nat.le_refl _)
                                refine x_icmp_ne (pc := 347) (t := 371) dL_areRoots_347 (by decide) ⟨by omega, by omega⟩ ⟨by omega, by omega⟩ (fun c347 => ?_) (fun c347 => ?_)
                                · refine x_iload (pc := 371) dL_areRoots_371 rfl ?_
                                  refine x_istore (pc := 373) dL_areRoots_373 trivial (by decide) (L' := [(5, _), (9, _), (8, _), (7, _), (6, _), (3, _), (2, _), (0, _), (1, _)]) rfl ?_
                                  refine x_iinc (pc := 375) dL_areRoots_375 rfl (by decide) (L' := [(6, _), (5, _), (9, _), (8, _), (7, _), (3, _), (2, _), (0, _), (1, _)]) rfl ?_
                                  refine x_goto (pc := 378) (t := 183) dL_areRoots_378 (by decide) ?_
                                  refine X.loc [0, 1, 5, 6, 7, 8] (L' := [(6, _), (5, _), (3, _), (2, _), (0, _), (1, _)]) rfl ?_
                                  exact ih (k9 + 1) bl (by omega) hl2 _ _ _ _ (by omega) (by omega) hA
                                · refine x_aload_n (pc := 350) dL_areRoots_350 rfl rfl ?_
                                  refine x_bipush (pc := 351) dL_areRoots_351 (by decide) ?_
                                  refine x_bipush (pc := 353) dL_areRoots_353 (by decide) ?_
                                  refine x_callV (pc := 355) [_, _] rfl kL_52 dL_areRoots_355 hA.2.1.1.1 rfl rfl (by decide) (Nat.le_of_ble_eq_true rfl) (Nat.le_of_ble_eq_true rfl) (show _ + 1 ≤ 400 ∧ _ + 6 ≤ 2400 by omega) ?_
                                  refine sp_X4_surplus gB hA.2.1.1 hA.2.1.2.1 hA.2.1.2.2.2.1 hA.2.1.2.2.2.2 gC ⟨by omega, by omega⟩ ⟨by omega, by omega⟩ (fun M3 n3 hn3 hS3 => ?_)
                                  have hA := hA.scr hbc hn3 hS3
                                  rw [show rSur T (-20) 20 = oI (surF T (-20) 20) from if_neg (fun h => h ⟨⟨by omega, by omega⟩, ⟨by omega, by omega⟩, by omega⟩)]
                                  refine ⟨_, rfl, ?_⟩
                                  refine X.cs (cn' := cn + 6) (ck' := ck + 36) ?_ (Nat.le_refl _) (Nat.le_refl _)
                                  refine x_if_ne (pc := 358) (t := 371) dL_areRoots_358 (by decide) ⟨by omega, by omega⟩ (fun c358 => ?_) (fun c358 => ?_)
                                  · refine x_iload (pc := 371) dL_areRoots_371 rfl ?_
                                    refine x_istore (pc := 373) dL_areRoots_373 trivial (by decide) (L' := [(5, _), (9, _), (8, _), (7, _), (6, _), (3, _), (2, _), (0, _), (1, _)]) rfl ?_
                                    refine x_iinc (pc := 375) dL_areRoots_375 rfl (by decide) (L' := [(6, _), (5, _), (9, _), (8, _), (7, _), (3, _), (2, _), (0, _), (1, _)]) rfl ?_
                                    refine x_goto (pc := 378) (t := 183) dL_areRoots_378 (by decide) ?_
                                    refine X.loc [0, 1, 5, 6, 7, 8] (L' := [(6, _), (5, _), (3, _), (2, _), (0, _), (1, _)]) rfl ?_
                                    exact ih (k9 + 1) bl (by omega) hl2 _ _ _ _ (by omega) (by omega) hA
                                  · refine x_iload_n (pc := 361) dL_areRoots_361 rfl rfl ?_
                                    refine x_aload_n (pc := 362) dL_areRoots_362 rfl rfl ?_
                                    refine x_callV (pc := 363) [] rfl kL_46 dL_areRoots_363 hA.2.1.1.1 rfl rfl (by decide) (Nat.le_of_ble_eq_true rfl) (Nat.le_of_ble_eq_true rfl) (show _ + 0 ≤ 400 ∧ _ + 0 ≤ 2400 by omega) ?_
                                    refine sp_X4_degree gB hA.2.1.1 hA.2.1.2.1 hA.2.1.2.2.2.1 hA.2.1.2.2.2.2  (fun M3 n3 hn3 hS3 => ?_)
                                    have hA := hA.scr hbc hn3 hS3
                                    refine ⟨_, rfl, ?_⟩
                                    refine X.cs (cn' := cn + 6) (ck' := ck + 36) ?_ (Nat.le_refl _) (Nat.le_refl _)
                                    refine x_icmp_ne (pc := 366) (t := 371) dL_areRoots_366 (by decide) ⟨by omega, by omega⟩ ⟨by omega, by omega⟩ (fun c366 => ?_) (fun c366 => ?_)
                                    · refine x_iload (pc := 371) dL_areRoots_371 rfl ?_
                                      refine x_istore (pc := 373) dL_areRoots_373 trivial (by decide) (L' := [(5, _), (9, _), (8, _), (7, _), (6, _), (3, _), (2, _), (0, _), (1, _)]) rfl ?_
                                      refine x_iinc (pc := 375) dL_areRoots_375 rfl (by decide) (L' := [(6, _), (5, _), (9, _), (8, _), (7, _), (3, _), (2, _), (0, _), (1, _)]) rfl ?_
                                      refine x_goto (pc := 378) (t := 183) dL_areRoots_378 (by decide) ?_
                                      refine X.loc [0, 1, 5, 6, 7, 8] (L' := [(6, _), (5, _), (3, _), (2, _), (0, _), (1, _)]) rfl ?_
                                      exact ih (k9 + 1) bl (by omega) hl2 _ _ _ _ (by omega) (by omega) hA
                                    · exfalso; omega
                        · refine x_iconst (pc := 293) dL_areRoots_293 ?_
                          refine x_goto (pc := 294) (t := 298) dL_areRoots_294 (by decide) ?_
                          refine x_istore (pc := 298) dL_areRoots_298 trivial (by decide) (L' := [(8, _), (7, _), (6, _), (5, _), (3, _), (2, _), (0, _), (1, _)]) rfl ?_
                          refine x_aload_n (pc := 300) dL_areRoots_300 rfl rfl ?_
                          refine x_iload (pc := 301) dL_areRoots_301 rfl ?_
                          refine x_iconst (pc := 303) dL_areRoots_303 ?_
                          refine x_iadd (pc := 304) dL_areRoots_304 ?_
                          refine x_callS (pc := 305) [_, _] rfl kL_76 dL_areRoots_305 rfl (by decide) (Nat.le_of_ble_eq_true rfl) (Nat.le_of_ble_eq_true rfl) (show _ + 0 ≤ 400 ∧ _ + 0 ≤ 2400 by omega) ?_
                          refine sp_L_fine hA.2.2 hW ⟨by omega, by omega⟩ ?_
                          rw [← hf1]
                          refine ⟨_, rfl, ?_⟩
                          refine X.cs (cn' := cn + 5) (ck' := ck + 30) ?_ (Nat.le_refl _) (Nat.le_refl _)
                          refine x_lstore (pc := 308) dL_areRoots_308 trivial (by decide) (L' := [(9, _), (8, _), (7, _), (6, _), (5, _), (3, _), (2, _), (0, _), (1, _)]) rfl ?_
                          refine x_iload (pc := 310) dL_areRoots_310 rfl ?_
                          refine x_if_eq (pc := 312) (t := 371) dL_areRoots_312 (by decide) ⟨by omega, by omega⟩ (fun c312 => ?_) (fun c312 => ?_)
                          · refine x_iload (pc := 371) dL_areRoots_371 rfl ?_
                            refine x_istore (pc := 373) dL_areRoots_373 trivial (by decide) (L' := [(5, _), (9, _), (8, _), (7, _), (6, _), (3, _), (2, _), (0, _), (1, _)]) rfl ?_
                            refine x_iinc (pc := 375) dL_areRoots_375 rfl (by decide) (L' := [(6, _), (5, _), (9, _), (8, _), (7, _), (3, _), (2, _), (0, _), (1, _)]) rfl ?_
                            refine x_goto (pc := 378) (t := 183) dL_areRoots_378 (by decide) ?_
                            refine X.loc [0, 1, 5, 6, 7, 8] (L' := [(6, _), (5, _), (3, _), (2, _), (0, _), (1, _)]) rfl ?_
                            exact ih (k9 + 1) bl (by omega) hl2 _ _ _ _ (by omega) (by omega) hA
                          · refine x_lload (pc := 315) dL_areRoots_315 rfl ?_
                            refine x_lconst (pc := 317) (x := 0) dL_areRoots_317 (by decide) ?_
                            refine x_lcmp_eq (pc := 318) (t := 371) dL_areRoots_318 dL_areRoots_319 (by decide) ⟨by omega, by omega⟩ ⟨by omega, by omega⟩ (fun c318 => ?_) (fun c318 => ?_)
                            · refine x_iload (pc := 371) dL_areRoots_371 rfl ?_
                              refine x_istore (pc := 373) dL_areRoots_373 trivial (by decide) (L' := [(5, _), (9, _), (8, _), (7, _), (6, _), (3, _), (2, _), (0, _), (1, _)]) rfl ?_
                              refine x_iinc (pc := 375) dL_areRoots_375 rfl (by decide) (L' := [(6, _), (5, _), (9, _), (8, _), (7, _), (3, _), (2, _), (0, _), (1, _)]) rfl ?_
                              refine x_goto (pc := 378) (t := 183) dL_areRoots_378 (by decide) ?_
                              refine X.loc [0, 1, 5, 6, 7, 8] (L' := [(6, _), (5, _), (3, _), (2, _), (0, _), (1, _)]) rfl ?_
                              exact ih (k9 + 1) bl (by omega) hl2 _ _ _ _ (by omega) (by omega) hA
                            · refine x_aload_n (pc := 322) dL_areRoots_322 rfl rfl ?_
                              refine x_iload (pc := 323) dL_areRoots_323 rfl ?_
                              refine x_callS (pc := 325) [_, _] rfl kL_76 dL_areRoots_325 rfl (by decide) (Nat.le_of_ble_eq_true rfl) (Nat.le_of_ble_eq_true rfl) (show _ + 0 ≤ 400 ∧ _ + 0 ≤ 2400 by omega) ?_
                              refine sp_L_fine hA.2.2 hW ⟨by omega, by omega⟩ ?_
                              rw [← hf0]
                              refine ⟨_, rfl, ?_⟩
                              refine X.cs (cn' := cn + 5) (ck' := ck + 30) ?_ (Nat.le_refl _) (Nat.le_refl _)
                              refine x_lconst (pc := 328) (x := 0) dL_areRoots_328 (by decide) ?_
                              refine x_lcmp_eq (pc := 329) (t := 371) dL_areRoots_329 dL_areRoots_330 (by decide) ⟨by omega, by omega⟩ ⟨by omega, by omega⟩ (fun c329 => ?_) (fun c329 => ?_)
                              · refine x_iload (pc := 371) dL_areRoots_371 rfl ?_
                                refine x_istore (pc := 373) dL_areRoots_373 trivial (by decide) (L' := [(5, _), (9, _), (8, _), (7, _), (6, _), (3, _), (2, _), (0, _), (1, _)]) rfl ?_
                                refine x_iinc (pc := 375) dL_areRoots_375 rfl (by decide) (L' := [(6, _), (5, _), (9, _), (8, _), (7, _), (3, _), (2, _), (0, _), (1, _)]) rfl ?_
                                refine x_goto (pc := 378) (t := 183) dL_areRoots_378 (by decide) ?_
                                refine X.loc [0, 1, 5, 6, 7, 8] (L' := [(6, _), (5, _), (3, _), (2, _), (0, _), (1, _)]) rfl ?_
                                exact ih (k9 + 1) bl (by omega) hl2 _ _ _ _ (by omega) (by omega) hA
                              · refine x_lload (pc := 333) dL_areRoots_333 rfl ?_
                                refine x_callS (pc := 335) [_] rfl kL_82 dL_areRoots_335 rfl (by decide) (Nat.le_of_ble_eq_true rfl) (Nat.le_of_ble_eq_true rfl) (show _ + 0 ≤ 400 ∧ _ + 0 ≤ 2400 by omega) ?_
                                refine sp_L_sign ⟨by omega, by omega⟩ ?_
                                refine ⟨_, rfl, ?_⟩
                                refine X.cs (cn' := cn + 5) (ck' := ck + 30) ?_ (Nat.le_refl _) (Nat.le_refl _)
                                refine x_aload_n (pc := 338) dL_areRoots_338 rfl rfl ?_
                                refine x_iload (pc := 339) dL_areRoots_339 rfl ?_
                                refine x_callS (pc := 341) [_, _] rfl kL_76 dL_areRoots_341 rfl (by decide) (Nat.le_of_ble_eq_true rfl) (Nat.le_of_ble_eq_true rfl) (show _ + 0 ≤ 400 ∧ _ + 0 ≤ 2400 by omega) ?_
                                refine sp_L_fine hA.2.2 hW ⟨by omega, by omega⟩ ?_
                                rw [← hf0]
                                refine ⟨_, rfl, ?_⟩
                                refine X.cs (cn' := cn + 5) (ck' := ck + 30) ?_ (Nat.le_refl _) (Nat.le_refl _)
                                refine x_callS (pc := 344) [_] rfl kL_82 dL_areRoots_344 rfl (by decide) (Nat.le_of_ble_eq_true rfl) (Nat.le_of_ble_eq_true rfl) (show _ + 0 ≤ 400 ∧ _ + 0 ≤ 2400 by omega) ?_
                                refine sp_L_sign ⟨by omega, by omega⟩ ?_
                                refine ⟨_, rfl, ?_⟩
                                refine X.cs (cn' := cn + 5) (ck' := ck + 30) ?_ (Nat.le_refl _) (Nat.le_refl _)
                                refine x_icmp_ne (pc := 347) (t := 371) dL_areRoots_347 (by decide) ⟨by omega, by omega⟩ ⟨by omega, by omega⟩ (fun c347 => ?_) (fun c347 => ?_)
                                · refine x_iload (pc := 371) dL_areRoots_371 rfl ?_
                                  refine x_istore (pc := 373) dL_areRoots_373 trivial (by decide) (L' := [(5, _), (9, _), (8, _), (7, _), (6, _), (3, _), (2, _), (0, _), (1, _)]) rfl ?_
                                  refine x_iinc (pc := 375) dL_areRoots_375 rfl (by decide) (L' := [(6, _), (5, _), (9, _), (8, _), (7, _), (3, _), (2, _), (0, _), (1, _)]) rfl ?_
                                  refine x_goto (pc := 378) (t := 183) dL_areRoots_378 (by decide) ?_
                                  refine X.loc [0, 1, 5, 6, 7, 8] (L' := [(6, _), (5, _), (3, _), (2, _), (0, _), (1, _)]) rfl ?_
                                  exact ih (k9 + 1) bl (by omega) hl2 _ _ _ _ (by omega) (by omega) hA
                                · refine x_aload_n (pc := 350) dL_areRoots_350 rfl rfl ?_
                                  refine x_bipush (pc := 351) dL_areRoots_351 (by decide) ?_
                                  refine x_bipush (pc := 353) dL_areRoots_353 (by decide) ?_
                                  refine x_callV (pc := 355) [_, _] rfl kL_52 dL_areRoots_355 hA.2.1.1.1 rfl rfl (by decide) (Nat.le_of_ble_eq_true rfl) (Nat.le_of_ble_eq_true rfl) (show _ + 1 ≤ 400 ∧ _ + 6 ≤ 2400 by omega) ?_
                                  refine sp_X4_surplus gB hA.2.1.1 hA.2.1.2.1 hA.2.1.2.2.2.1 hA.2.1.2.2.2.2 gC ⟨by omega, by omega⟩ ⟨by omega, by omega⟩ (fun M3 n3 hn3 hS3 => ?_)
                                  have hA := hA.scr hbc hn3 hS3
                                  rw [show rSur T (-20) 20 = oI (surF T (-20) 20) from if_neg (fun h => h ⟨⟨by omega, by omega⟩, ⟨by omega, by omega⟩, by omega⟩)]
                                  refine ⟨_, rfl, ?_⟩
                                  refine X.cs (cn' := cn + 6) (ck' := ck + 36) ?_ (Nat.le_refl _) (Nat.le_refl _)
                                  refine x_if_ne (pc := 358) (t := 371) dL_areRoots_358 (by decide) ⟨by omega, by omega⟩ (fun c358 => ?_) (fun c358 => ?_)
                                  · refine x_iload (pc := 371) dL_areRoots_371 rfl ?_
                                    refine x_istore (pc := 373) dL_areRoots_373 trivial (by decide) (L' := [(5, _), (9, _), (8, _), (7, _), (6, _), (3, _), (2, _), (0, _), (1, _)]) rfl ?_
                                    refine x_iinc (pc := 375) dL_areRoots_375 rfl (by decide) (L' := [(6, _), (5, _), (9, _), (8, _), (7, _), (3, _), (2, _), (0, _), (1, _)]) rfl ?_
                                    refine x_goto (pc := 378) (t := 183) dL_areRoots_378 (by decide) ?_
                                    refine X.loc [0, 1, 5, 6, 7, 8] (L' := [(6, _), (5, _), (3, _), (2, _), (0, _), (1, _)]) rfl ?_
                                    exact ih (k9 + 1) bl (by omega) hl2 _ _ _ _ (by omega) (by omega) hA
                                  · refine x_iload_n (pc := 361) dL_areRoots_361 rfl rfl ?_
                                    refine x_aload_n (pc := 362) dL_areRoots_362 rfl rfl ?_
                                    refine x_callV (pc := 363) [] rfl kL_46 dL_areRoots_363 hA.2.1.1.1 rfl rfl (by decide) (Nat.le_of_ble_eq_true rfl) (Nat.le_of_ble_eq_true rfl) (show _ + 0 ≤ 400 ∧ _ + 0 ≤ 2400 by omega) ?_
                                    refine sp_X4_degree gB hA.2.1.1 hA.2.1.2.1 hA.2.1.2.2.2.1 hA.2.1.2.2.2.2  (fun M3 n3 hn3 hS3 => ?_)
                                    have hA := hA.scr hbc hn3 hS3
                                    refine ⟨_, rfl, ?_⟩
                                    refine X.cs (cn' := cn + 6) (ck' := ck + 36) ?_ (Nat.le_refl _) (Nat.le_refl _)
                                    refine x_icmp_ne (pc := 366) (t := 371) dL_areRoots_366 (by decide) ⟨by omega, by omega⟩ ⟨by omega, by omega⟩ (fun c366 => ?_) (fun c366 => ?_)
                                    · refine x_iload (pc := 371) dL_areRoots_371 rfl ?_
                                      refine x_istore (pc := 373) dL_areRoots_373 trivial (by decide) (L' := [(5, _), (9, _), (8, _), (7, _), (6, _), (3, _), (2, _), (0, _), (1, _)]) rfl ?_
                                      refine x_iinc (pc := 375) dL_areRoots_375 rfl (by decide) (L' := [(6, _), (5, _), (9, _), (8, _), (7, _), (3, _), (2, _), (0, _), (1, _)]) rfl ?_
                                      refine x_goto (pc := 378) (t := 183) dL_areRoots_378 (by decide) ?_
                                      refine X.loc [0, 1, 5, 6, 7, 8] (L' := [(6, _), (5, _), (3, _), (2, _), (0, _), (1, _)]) rfl ?_
                                      exact ih (k9 + 1) bl (by omega) hl2 _ _ _ _ (by omega) (by omega) hA
                                    · exfalso; omega
                · exfalso; omega
    have loop1 : ∀ d j : Nat, j + d = 40 → ∀ (lay2 : Lay) (M2 : Mem) (cn ck : Nat), cn ≤ j → ck ≤ 6 * (j) → ArI g lay M lay2 M2 b c pw T La tn hp hc ov → X g m_L_areRoots cn ck lay2 M2 98 [(5, vI (-20 + (j : Nat))), (4, vI (sumD (buildF (tP T)) j)), (3, vI (allD (buildF (tP T)))), (2, vI z9), (0, vR b), (1, vR c)] [] K := by
      intro d
      induction d with
      | zero =>
        intro j hj lay2 M2 cn ck hcn hck hA
        have ej : j = 40 := by omega
        subst ej
        refine x_iload (pc := 98) dL_areRoots_98 rfl ?_
        refine x_bipush (pc := 100) dL_areRoots_100 (by decide) ?_
        refine x_icmp_ge (pc := 102) (t := 126) dL_areRoots_102 (by decide) ⟨by omega, by omega⟩ ⟨by omega, by omega⟩ (fun c102 => ?_) (fun c102 => ?_)
        · rw [hn1]
          refine x_iload (pc := 126) dL_areRoots_126 rfl ?_
          refine x_aload_n (pc := 128) dL_areRoots_128 rfl rfl ?_
          refine x_bipush (pc := 129) dL_areRoots_129 (by decide) ?_
          refine x_bipush (pc := 131) dL_areRoots_131 (by decide) ?_
          refine x_callV (pc := 133) [_, _] rfl kL_42 dL_areRoots_133 hA.2.1.1.1 rfl rfl (by decide) (Nat.le_of_ble_eq_true rfl) (Nat.le_of_ble_eq_true rfl) (show _ + 1 ≤ 400 ∧ _ + 6 ≤ 2400 by omega) ?_
          refine sp_X4_roots gB hA.2.1.1 hA.2.1.2.1 hA.2.1.2.2.2.1 hA.2.1.2.2.2.2 ⟨by omega, by omega⟩ ⟨by omega, by omega⟩ (fun M3 n3 hn3 hS3 => ?_)
          have hA := hA.scr hbc hn3 hS3
          rw [show rRoots T (-20) 20 = oI (dBet (buildF (tP T)) (-20) 20) from if_neg (fun h => h ⟨⟨by omega, by omega⟩, ⟨by omega, by omega⟩, by omega⟩)]
          refine ⟨_, rfl, ?_⟩
          refine X.cs (cn' := cn + 1) (ck' := ck + 6) ?_ (Nat.le_refl _) (Nat.le_refl _)
          refine x_icmp_ne (pc := 136) (t := 174) dL_areRoots_136 (by decide) ⟨by omega, by omega⟩ ⟨by omega, by omega⟩ (fun c136 => ?_) (fun c136 => ?_)
          · exfalso; omega
          · refine x_iload (pc := 139) dL_areRoots_139 rfl ?_
            refine x_iload_n (pc := 141) dL_areRoots_141 rfl rfl ?_
            refine x_icmp_gt (pc := 142) (t := 174) dL_areRoots_142 (by decide) ⟨by omega, by omega⟩ ⟨by omega, by omega⟩ (fun c142 => ?_) (fun c142 => ?_)
            · exfalso; omega
            · refine x_iload_n (pc := 145) dL_areRoots_145 rfl rfl ?_
              refine x_aload_n (pc := 146) dL_areRoots_146 rfl rfl ?_
              refine x_callV (pc := 147) [] rfl kL_46 dL_areRoots_147 hA.2.1.1.1 rfl rfl (by decide) (Nat.le_of_ble_eq_true rfl) (Nat.le_of_ble_eq_true rfl) (show _ + 0 ≤ 400 ∧ _ + 0 ≤ 2400 by omega) ?_
              refine sp_X4_degree gB hA.2.1.1 hA.2.1.2.1 hA.2.1.2.2.2.1 hA.2.1.2.2.2.2  (fun M3 n3 hn3 hS3 => ?_)
              have hA := hA.scr hbc hn3 hS3
              refine ⟨_, rfl, ?_⟩
              refine X.cs (cn' := cn + 1) (ck' := ck + 6) ?_ (Nat.le_refl _) (Nat.le_refl _)
              refine x_icmp_gt (pc := 150) (t := 174) dL_areRoots_150 (by decide) ⟨by omega, by omega⟩ ⟨by omega, by omega⟩ (fun c150 => ?_) (fun c150 => ?_)
              · exfalso; omega
              · refine x_aload_n (pc := 153) dL_areRoots_153 rfl rfl ?_
                refine x_iconst (pc := 154) dL_areRoots_154 ?_
                refine x_callV (pc := 155) [_] rfl kL_61 dL_areRoots_155 hA.2.1.1.1 rfl rfl (by decide) (Nat.le_of_ble_eq_true rfl) (Nat.le_of_ble_eq_true rfl) (show _ + 1 ≤ 400 ∧ _ + 6 ≤ 2400 by omega) ?_
                refine sp_X4_rootsOfSign gB hA.2.1.1 hA.2.1.2.1 hA.2.1.2.2.2.1 hA.2.1.2.2.2.2 ⟨by omega, by omega⟩ (fun M3 n3 hn3 hS3 => ?_)
                have hA := hA.scr hbc hn3 hS3
                rw [show rOfSgn T (-1) = oI (ofSgn T (-1)) from if_neg (fun h => h ⟨by decide, by decide⟩)]
                refine ⟨_, rfl, ?_⟩
                refine X.cs (cn' := cn + 2) (ck' := ck + 12) ?_ (Nat.le_refl _) (Nat.le_refl _)
                refine x_aload_n (pc := 158) dL_areRoots_158 rfl rfl ?_
                refine x_iconst (pc := 159) dL_areRoots_159 ?_
                refine x_callV (pc := 160) [_] rfl kL_61 dL_areRoots_160 hA.2.1.1.1 rfl rfl (by decide) (Nat.le_of_ble_eq_true rfl) (Nat.le_of_ble_eq_true rfl) (show _ + 1 ≤ 400 ∧ _ + 6 ≤ 2400 by omega) ?_
                refine sp_X4_rootsOfSign gB hA.2.1.1 hA.2.1.2.1 hA.2.1.2.2.2.1 hA.2.1.2.2.2.2 ⟨by omega, by omega⟩ (fun M3 n3 hn3 hS3 => ?_)
                have hA := hA.scr hbc hn3 hS3
                rw [show rOfSgn T 0 = oI (ofSgn T 0) from if_neg (fun h => h ⟨by decide, by decide⟩)]
                refine ⟨_, rfl, ?_⟩
                refine X.cs (cn' := cn + 3) (ck' := ck + 18) ?_ (Nat.le_refl _) (Nat.le_refl _)
                refine x_iadd (pc := 163) dL_areRoots_163 ?_
                refine x_aload_n (pc := 164) dL_areRoots_164 rfl rfl ?_
                refine x_iconst (pc := 165) dL_areRoots_165 ?_
                refine x_callV (pc := 166) [_] rfl kL_61 dL_areRoots_166 hA.2.1.1.1 rfl rfl (by decide) (Nat.le_of_ble_eq_true rfl) (Nat.le_of_ble_eq_true rfl) (show _ + 1 ≤ 400 ∧ _ + 6 ≤ 2400 by omega) ?_
                refine sp_X4_rootsOfSign gB hA.2.1.1 hA.2.1.2.1 hA.2.1.2.2.2.1 hA.2.1.2.2.2.2 ⟨by omega, by omega⟩ (fun M3 n3 hn3 hS3 => ?_)
                have hA := hA.scr hbc hn3 hS3
                rw [show rOfSgn T 1 = oI (ofSgn T 1) from if_neg (fun h => h ⟨by decide, by decide⟩)]
                refine ⟨_, rfl, ?_⟩
                refine X.cs (cn' := cn + 4) (ck' := ck + 24) ?_ (Nat.le_refl _) (Nat.le_refl _)
                refine x_iadd (pc := 169) dL_areRoots_169 ?_
                refine x_iload_n (pc := 170) dL_areRoots_170 rfl rfl ?_
                refine x_icmp_eq (pc := 171) (t := 176) dL_areRoots_171 (by decide) ⟨by omega, by omega⟩ ⟨by omega, by omega⟩ (fun c171 => ?_) (fun c171 => ?_)
                · refine x_ldcI (pc := 176) (-2147483648) kiL_66 (by decide) dL_areRoots_176 ?_
                  refine x_istore (pc := 178) dL_areRoots_178 trivial (by decide) (L' := [(5, _), (4, _), (3, _), (2, _), (0, _), (1, _)]) rfl ?_
                  refine x_iconst (pc := 180) dL_areRoots_180 ?_
                  refine x_istore (pc := 181) dL_areRoots_181 trivial (by decide) (L' := [(6, _), (5, _), (4, _), (3, _), (2, _), (0, _), (1, _)]) rfl ?_
                  refine X.loc [0, 1, 3, 4, 5, 6] (L' := [(6, _), (5, _), (3, _), (2, _), (0, _), (1, _)]) rfl ?_
                  exact loop2 (allD (buildF (tP T))).toNat 0 _ (by omega) (Or.inl ⟨rfl, rfl⟩) _ _ _ _ (by omega) (by omega) hA
                · exfalso; omega
        · exfalso; omega
      | succ d ih =>
        intro j hj lay2 M2 cn ck hcn hck hA
        refine x_iload (pc := 98) dL_areRoots_98 rfl ?_
        refine x_bipush (pc := 100) dL_areRoots_100 (by decide) ?_
        refine x_icmp_ge (pc := 102) (t := 126) dL_areRoots_102 (by decide) ⟨by omega, by omega⟩ ⟨by omega, by omega⟩ (fun c102 => ?_) (fun c102 => ?_)
        · exfalso; omega
        · refine x_iload (pc := 105) dL_areRoots_105 rfl ?_
          refine x_aload_n (pc := 107) dL_areRoots_107 rfl rfl ?_
          refine x_iload (pc := 108) dL_areRoots_108 rfl ?_
          refine x_iload (pc := 110) dL_areRoots_110 rfl ?_
          refine x_iconst (pc := 112) dL_areRoots_112 ?_
          refine x_iadd (pc := 113) dL_areRoots_113 ?_
          refine x_callV (pc := 114) [_, _] rfl kL_42 dL_areRoots_114 hA.2.1.1.1 rfl rfl (by decide) (Nat.le_of_ble_eq_true rfl) (Nat.le_of_ble_eq_true rfl) (show _ + 1 ≤ 400 ∧ _ + 6 ≤ 2400 by omega) ?_
          refine sp_X4_roots gB hA.2.1.1 hA.2.1.2.1 hA.2.1.2.2.2.1 hA.2.1.2.2.2.2 ⟨by omega, by omega⟩ ⟨by omega, by omega⟩ (fun M3 n3 hn3 hS3 => ?_)
          have hA := hA.scr hbc hn3 hS3
          rw [show rRoots T (-20 + (j : Nat)) (-20 + (j : Nat) + 1) = oI (dBet (buildF (tP T)) (-20 + (j : Nat)) (-20 + (j : Nat) + 1)) from if_neg (fun h => h ⟨⟨by omega, by omega⟩, ⟨by omega, by omega⟩, by omega⟩)]
          refine ⟨_, rfl, ?_⟩
          refine X.cs (cn' := cn + 1) (ck' := ck + 6) ?_ (Nat.le_refl _) (Nat.le_refl _)
          refine x_iadd (pc := 117) dL_areRoots_117 ?_
          refine x_istore (pc := 118) dL_areRoots_118 trivial (by decide) (L' := [(4, _), (5, _), (3, _), (2, _), (0, _), (1, _)]) rfl ?_
          refine x_iinc (pc := 120) dL_areRoots_120 rfl (by decide) (L' := [(5, _), (4, _), (3, _), (2, _), (0, _), (1, _)]) rfl ?_
          refine x_goto (pc := 123) (t := 98) dL_areRoots_123 (by decide) ?_
          refine X.loc [0, 1, 2, 3, 4, 5] (L' := [(5, _), (4, _), (3, _), (2, _), (0, _), (1, _)]) rfl ?_
          have l1 := ih (j + 1) (by omega) _ _ (cn + 1) (ck + 6) (by omega) (by omega) hA
          rw [show (-20 + ((j + 1 : Nat) : Int)) = -20 + (j : Nat) + 1 by omega] at l1
          exact l1
    intro M2 lay2 cn ck hcn hck hA
    refine x_iconst (pc := 91) dL_areRoots_91 ?_
    refine x_istore (pc := 92) dL_areRoots_92 trivial (by decide) (L' := [(4, _), (3, _), (2, _), (0, _), (1, _)]) rfl ?_
    refine x_bipush (pc := 94) dL_areRoots_94 (by decide) ?_
    refine x_istore (pc := 96) dL_areRoots_96 trivial (by decide) (L' := [(5, _), (4, _), (3, _), (2, _), (0, _), (1, _)]) rfl ?_
    refine X.loc [0, 1, 2, 3, 4, 5] (L' := [(5, _), (4, _), (3, _), (2, _), (0, _), (1, _)]) rfl ?_
    exact loop1 40 0 (by omega) lay2 M2 cn ck (by omega) (by omega) hA
  refine x_aload_n (pc := 0) dL_areRoots_0 rfl rfl ?_
  refine x_iconst (pc := 1) dL_areRoots_1 ?_
  refine x_callV (pc := 2) [_] rfl kL_35 dL_areRoots_2 hA.2.2.1.1.1 rfl rfl (by decide) (Nat.le_of_ble_eq_true rfl) (Nat.le_of_ble_eq_true rfl) (show _ + 0 ≤ 400 ∧ _ + 0 ≤ 2400 by omega) ?_
  refine sp_X6_isZero hA.2.2 hW ⟨by omega, by omega⟩ (fun z9 hz9 => ?_)
  refine ⟨_, rfl, ?_⟩
  refine X.cs (cn' := 0) (ck' := 0) ?_ (Nat.le_refl _) (Nat.le_refl _)
  refine x_istore_n (pc := 5) dL_areRoots_5 rfl (by decide) (L' := [(2, _), (0, _), (1, _)]) rfl ?_
  refine x_aload_n (pc := 6) dL_areRoots_6 rfl rfl ?_
  refine x_callV (pc := 7) [] rfl kL_39 dL_areRoots_7 hA.2.1.1.1 rfl rfl (by decide) (Nat.le_of_ble_eq_true rfl) (Nat.le_of_ble_eq_true rfl) (show _ + 0 ≤ 400 ∧ _ + 0 ≤ 2400 by omega) ?_
  refine sp_X4_allRoots gB hA.2.1.1 hA.2.1.2.1 hA.2.1.2.2.2.1 hA.2.1.2.2.2.2  (fun M3 n3 hn3 hS3 => ?_)
  have hA := hA.scr hbc hn3 hS3
  refine ⟨_, rfl, ?_⟩
  refine X.cs (cn' := 0) (ck' := 0) ?_ (Nat.le_refl _) (Nat.le_refl _)
  refine x_istore_n (pc := 10) dL_areRoots_10 rfl (by decide) (L' := [(3, _), (2, _), (0, _), (1, _)]) rfl ?_
  refine x_iload_n (pc := 11) dL_areRoots_11 rfl rfl ?_
  refine x_if_eq (pc := 12) (t := 91) dL_areRoots_12 (by decide) ⟨by omega, by omega⟩ (fun c12 => ?_) (fun c12 => ?_)
  · refine X.loc [0, 1, 2, 3] (L' := [(3, _), (2, _), (0, _), (1, _)]) rfl ?_
    exact main z9 (hz9.resolve_left (fun h => by omega)) _ _ _ _ (by omega) (by omega) hA
  · obtain ⟨z1, z2, z3, z4, z5, z6, z7, z8⟩ := RZ (hz9.resolve_right (fun h => c12 h.1)).2
    refine x_iload_n (pc := 15) dL_areRoots_15 rfl rfl ?_
    refine x_iconst (pc := 16) dL_areRoots_16 ?_
    refine x_icmp_ne (pc := 17) (t := 89) dL_areRoots_17 (by decide) ⟨by omega, by omega⟩ ⟨by omega, by omega⟩ (fun c17 => ?_) (fun c17 => ?_)
    · exfalso; omega
    · refine x_aload_n (pc := 20) dL_areRoots_20 rfl rfl ?_
      refine x_bipush (pc := 21) dL_areRoots_21 (by decide) ?_
      refine x_bipush (pc := 23) dL_areRoots_23 (by decide) ?_
      refine x_callV (pc := 25) [_, _] rfl kL_42 dL_areRoots_25 hA.2.1.1.1 rfl rfl (by decide) (Nat.le_of_ble_eq_true rfl) (Nat.le_of_ble_eq_true rfl) (show _ + 1 ≤ 400 ∧ _ + 6 ≤ 2400 by omega) ?_
      refine sp_X4_roots gB hA.2.1.1 hA.2.1.2.1 hA.2.1.2.2.2.1 hA.2.1.2.2.2.2 ⟨by omega, by omega⟩ ⟨by omega, by omega⟩ (fun M3 n3 hn3 hS3 => ?_)
      have hA := hA.scr hbc hn3 hS3
      rw [show rRoots T (-20) 20 = oI (dBet (buildF (tP T)) (-20) 20) from if_neg (fun h => h ⟨⟨by omega, by omega⟩, ⟨by omega, by omega⟩, by omega⟩)]
      refine ⟨_, rfl, ?_⟩
      refine X.cs (cn' := 0 + 1) (ck' := 0 + 6) ?_ (Nat.le_refl _) (Nat.le_refl _)
      refine x_iconst (pc := 28) dL_areRoots_28 ?_
      refine x_icmp_ne (pc := 29) (t := 89) dL_areRoots_29 (by decide) ⟨by omega, by omega⟩ ⟨by omega, by omega⟩ (fun c29 => ?_) (fun c29 => ?_)
      · exfalso; omega
      · refine x_aload_n (pc := 32) dL_areRoots_32 rfl rfl ?_
        refine x_callV (pc := 33) [] rfl kL_46 dL_areRoots_33 hA.2.1.1.1 rfl rfl (by decide) (Nat.le_of_ble_eq_true rfl) (Nat.le_of_ble_eq_true rfl) (show _ + 0 ≤ 400 ∧ _ + 0 ≤ 2400 by omega) ?_
        refine sp_X4_degree gB hA.2.1.1 hA.2.1.2.1 hA.2.1.2.2.2.1 hA.2.1.2.2.2.2  (fun M3 n3 hn3 hS3 => ?_)
        have hA := hA.scr hbc hn3 hS3
        refine ⟨_, rfl, ?_⟩
        refine X.cs (cn' := 0 + 1) (ck' := 0 + 6) ?_ (Nat.le_refl _) (Nat.le_refl _)
        refine x_iconst (pc := 36) dL_areRoots_36 ?_
        refine x_icmp_ne (pc := 37) (t := 89) dL_areRoots_37 (by decide) ⟨by omega, by omega⟩ ⟨by omega, by omega⟩ (fun c37 => ?_) (fun c37 => ?_)
        · exfalso; omega
        · refine x_aload_n (pc := 40) dL_areRoots_40 rfl rfl ?_
          refine x_callV (pc := 41) [] rfl kL_49 dL_areRoots_41 hA.2.1.1.1 rfl rfl (by decide) (Nat.le_of_ble_eq_true rfl) (Nat.le_of_ble_eq_true rfl) (show _ + 0 ≤ 400 ∧ _ + 0 ≤ 2400 by omega) ?_
          refine sp_X4_rows gB hA.2.1.1 hA.2.1.2.1 hA.2.1.2.2.2.1 hA.2.1.2.2.2.2  (fun M3 n3 hn3 hS3 => ?_)
          have hA := hA.scr hbc hn3 hS3
          refine ⟨_, rfl, ?_⟩
          refine X.cs (cn' := 0 + 1) (ck' := 0 + 6) ?_ (Nat.le_refl _) (Nat.le_refl _)
          refine x_if_ne (pc := 44) (t := 89) dL_areRoots_44 (by decide) ⟨by omega, by omega⟩ (fun c44 => ?_) (fun c44 => ?_)
          · exfalso; omega
          · refine x_aload_n (pc := 47) dL_areRoots_47 rfl rfl ?_
            refine x_bipush (pc := 48) dL_areRoots_48 (by decide) ?_
            refine x_iconst (pc := 50) dL_areRoots_50 ?_
            refine x_callV (pc := 51) [_, _] rfl kL_52 dL_areRoots_51 hA.2.1.1.1 rfl rfl (by decide) (Nat.le_of_ble_eq_true rfl) (Nat.le_of_ble_eq_true rfl) (show _ + 1 ≤ 400 ∧ _ + 6 ≤ 2400 by omega) ?_
            refine sp_X4_surplus gB hA.2.1.1 hA.2.1.2.1 hA.2.1.2.2.2.1 hA.2.1.2.2.2.2 gC ⟨by omega, by omega⟩ ⟨by omega, by omega⟩ (fun M3 n3 hn3 hS3 => ?_)
            have hA := hA.scr hbc hn3 hS3
            rw [show rSur T (-3) 3 = oI (surF T (-3) 3) from if_neg (fun h => h ⟨⟨by omega, by omega⟩, ⟨by omega, by omega⟩, by omega⟩)]
            refine ⟨_, rfl, ?_⟩
            refine X.cs (cn' := 0 + 2) (ck' := 0 + 12) ?_ (Nat.le_refl _) (Nat.le_refl _)
            refine x_iconst (pc := 54) dL_areRoots_54 ?_
            refine x_icmp_ne (pc := 55) (t := 89) dL_areRoots_55 (by decide) ⟨by omega, by omega⟩ ⟨by omega, by omega⟩ (fun c55 => ?_) (fun c55 => ?_)
            · exfalso; omega
            · refine x_aload_n (pc := 58) dL_areRoots_58 rfl rfl ?_
              refine x_iconst (pc := 59) dL_areRoots_59 ?_
              refine x_callV (pc := 60) [_] rfl kL_55 dL_areRoots_60 hA.2.1.1.1 rfl rfl (by decide) (Nat.le_of_ble_eq_true rfl) (Nat.le_of_ble_eq_true rfl) (show _ + 1 ≤ 400 ∧ _ + 6 ≤ 2400 by omega) ?_
              refine sp_X4_multiplicity gB hA.2.1.1 hA.2.1.2.1 hA.2.1.2.2.2.1 hA.2.1.2.2.2.2 ⟨by omega, by omega⟩ (fun M3 n3 hn3 hS3 => ?_)
              have hA := hA.scr hbc hn3 hS3
              rw [show rMul T 0 = oI (mulF (shP (tP T) 0) 5) from if_neg (fun h => h ⟨by omega, by omega⟩)]
              refine ⟨_, rfl, ?_⟩
              refine X.cs (cn' := 0 + 3) (ck' := 0 + 18) ?_ (Nat.le_refl _) (Nat.le_refl _)
              refine x_iconst (pc := 63) dL_areRoots_63 ?_
              refine x_icmp_ne (pc := 64) (t := 89) dL_areRoots_64 (by decide) ⟨by omega, by omega⟩ ⟨by omega, by omega⟩ (fun c64 => ?_) (fun c64 => ?_)
              · exfalso; omega
              · refine x_aload_n (pc := 67) dL_areRoots_67 rfl rfl ?_
                refine x_iconst (pc := 68) dL_areRoots_68 ?_
                refine x_iconst (pc := 69) dL_areRoots_69 ?_
                refine x_callV (pc := 70) [_, _] rfl kL_58 dL_areRoots_70 hA.2.1.1.1 rfl rfl (by decide) (Nat.le_of_ble_eq_true rfl) (Nat.le_of_ble_eq_true rfl) (show _ + 1 ≤ 400 ∧ _ + 6 ≤ 2400 by omega) ?_
                refine sp_X4_changes gB hA.2.1.1 hA.2.1.2.1 hA.2.1.2.2.2.1 hA.2.1.2.2.2.2 ⟨by omega, by omega⟩ ⟨by omega, by omega⟩ (fun M3 n3 hn3 hS3 => ?_)
                have hA := hA.scr hbc hn3 hS3
                rw [show rChanges T 1 0 = oI 0 from (if_neg (fun h => h ⟨⟨by omega, by omega⟩, ⟨by omega, by omega⟩⟩)).trans (by rw [if_neg (by decide), z7])]
                refine ⟨_, rfl, ?_⟩
                refine X.cs (cn' := 0 + 4) (ck' := 0 + 24) ?_ (Nat.le_refl _) (Nat.le_refl _)
                refine x_if_ne (pc := 73) (t := 89) dL_areRoots_73 (by decide) ⟨by omega, by omega⟩ (fun c73 => ?_) (fun c73 => ?_)
                · exfalso; omega
                · refine x_aload_n (pc := 76) dL_areRoots_76 rfl rfl ?_
                  refine x_iconst (pc := 77) dL_areRoots_77 ?_
                  refine x_iconst (pc := 78) dL_areRoots_78 ?_
                  refine x_callV (pc := 79) [_, _] rfl kL_58 dL_areRoots_79 hA.2.1.1.1 rfl rfl (by decide) (Nat.le_of_ble_eq_true rfl) (Nat.le_of_ble_eq_true rfl) (show _ + 1 ≤ 400 ∧ _ + 6 ≤ 2400 by omega) ?_
                  refine sp_X4_changes gB hA.2.1.1 hA.2.1.2.1 hA.2.1.2.2.2.1 hA.2.1.2.2.2.2 ⟨by omega, by omega⟩ ⟨by omega, by omega⟩ (fun M3 n3 hn3 hS3 => ?_)
                  have hA := hA.scr hbc hn3 hS3
                  rw [show rChanges T 2 0 = oI 0 from (if_neg (fun h => h ⟨⟨by omega, by omega⟩, ⟨by omega, by omega⟩⟩)).trans (by rw [if_pos rfl, z8])]
                  refine ⟨_, rfl, ?_⟩
                  refine X.cs (cn' := 0 + 5) (ck' := 0 + 30) ?_ (Nat.le_refl _) (Nat.le_refl _)
                  refine x_if_ne (pc := 82) (t := 89) dL_areRoots_82 (by decide) ⟨by omega, by omega⟩ (fun c82 => ?_) (fun c82 => ?_)
                  · exfalso; omega
                  · refine x_iconst (pc := 85) dL_areRoots_85 ?_
                    refine x_goto (pc := 86) (t := 90) dL_areRoots_86 (by decide) ?_
                    refine X.cs (cn' := 400) (ck' := 2400) ?_ (by omega) (by omega)
                    refine x_zret (pc := 90) dL_areRoots_90 rfl ⟨by omega, by omega⟩ (by decide) (by decide) ?_
                    exact k _ _ hA.1.1 hA.1.2 hA.2.1
