/-! Specs of RootDuel, sixth part: terms tried, restore. -/
/-- the trial, the rows and the shifted coefficients may differ, but the trial holds what is said -/
theorem WfP.up {P : Nat → Int} {p : Nat} {v : Int} (h : WfP P) (hp : p < 5) (hv : -30 ≤ v ∧ v ≤ 30) : WfP (fup P p v) := fun j => by
  have := h j
  unfold fup
  split <;> omega
theorem setP_back {T : CT} {b v : Int} {p : Nat} : setP (setB (setP T (fup (tP T) p v)) b) (fup (fup (tP T) p v) p (tP T p)) = setB T b := by
  have e : fup (fup (tP T) p v) p (tP T p) = tP T := by
    funext j
    unfold fup
    split
    · next h => rw [h]
    · rfl
  rw [e]
  rfl
theorem bstep_rng {T : CT} (hW : WfT T) {p : Nat} {x : Int} (hx : -9 ≤ x ∧ x ≤ 9) (hp : p < 5) {q : Int × Int} (h : -1 ≤ q.1 ∧ q.1 ≤ 200 ∧ -400 ≤ q.2 ∧ q.2 ≤ 400) (hl : whyLayF T x p = 0 → -400 ≤ leadF T x p ∧ leadF T x p ≤ 400) : -1 ≤ (bstep T p x q).1 ∧ (bstep T p x q).1 ≤ 200 ∧ -400 ≤ (bstep T p x q).2 ∧ (bstep T p x q).2 ≤ 400 := by
  unfold bstep
  split
  · exact h
  · next h1 =>
    have h2 := hl (by omega)
    split
    · dsimp only
      omega
    · exact h
theorem why0 {T : CT} {x : Int} {p : Nat} (hW : WfT T) (z : whyLayF T x p = 0) : tO T = 0 ∧ -30 ≤ tP T p + x ∧ tP T p + x ≤ 30 := by
  have hOO := hW.2.2.2.2.2.2.1
  unfold whyLayF at z
  split at z
  · omega
  · split at z
    · omega
    · split at z <;> omega
theorem lead_rng {T : CT} (hW : WfT T) {x : Int} {p : Nat} (hp : p < 5) (h : whyLayF T x p = 0) : -400 ≤ leadF T x p ∧ leadF T x p ≤ 400 := by
  obtain ⟨h1, h2⟩ := why0 hW h
  have hW1 : WfT (tryT T x p) := (hW.p (hW.2.1.up hp h2)).b (by split <;> omega)
  have a1 := scoreF_rng hW1 (buildF (fup (tP T) p (tP T p + x))) (pl := tN T % 2) (by omega)
  have a2 := scoreF_rng hW1 (buildF (fup (tP T) p (tP T p + x))) (pl := 1 - tN T % 2) (by omega)
  unfold leadF
  omega
theorem bin_rng {T : CT} (hW : WfT T) {p : Nat} (hp : p < 5) {q : Int × Int} (h : -1 ≤ q.1 ∧ q.1 ≤ 200 ∧ -400 ≤ q.2 ∧ q.2 ≤ 400) : ∀ n : Nat, n ≤ 19 → -1 ≤ (bin T p n q).1 ∧ (bin T p n q).1 ≤ 200 ∧ -400 ≤ (bin T p n q).2 ∧ (bin T p n q).2 ≤ 400
  | 0, _ => h
  | n + 1, hn => bstep_rng hW ⟨by omega, by omega⟩ hp (bin_rng hW hp h n (by omega)) (fun z => lead_rng hW hp z)
theorem bout_rng {T : CT} (hW : WfT T) : ∀ n : Nat, n ≤ 5 → -1 ≤ (bout T n).1 ∧ (bout T n).1 ≤ 200 ∧ -400 ≤ (bout T n).2 ∧ (bout T n).2 ≤ 400
  | 0, _ => by simp [bout]
  | n + 1, hn => bin_rng hW (by omega) (bout_rng hW n (by omega)) 19 (by decide)
theorem setB_setP (T : CT) (P : Nat → Int) (b c : Int) : setB (setP (setB T b) P) c = setB (setP T P) c := rfl

set_option maxRecDepth 100000 in
theorem sp_X4_leadBehind {g : GG} {lay : Lay} {M : Mem} {K : KK} {b : Nat} {sv : Nat → Option Nat} {T : CT} {x β : Int} {p : Nat} (gB : GoodB) (hd : DuL lay b sv) (hb0 : g.2.1 ≤ b) (hT : Ct T M (b + 1)) (hW : WfT T) (hB : Ct (setB T β) M (b + 8)) (hβ : β = -1 ∨ β = 0 ∨ β = 1) (hpS : (p : Int) < tS T 0) (hw : whyLayF T x p = 0) (hx : -9 ≤ x ∧ x ≤ 9) (k : ∀ M2 β2, Scr b M M2 → Ct (setB T β2) M2 (b + 8) → (β2 = -1 ∨ β2 = 0 ∨ β2 = 1) → K (.inl (some (vI (leadF T x p)))) lay M2) : X g m_X4_leadBehind 0 0 lay M 0 [(0, vR b), (1, vI x), (2, vI p)] [] K := by
  have w0 := hW.1.1
  have hp : p < 5 := by omega
  obtain ⟨-, hsum⟩ := why0 hW hw
  have e1 := hT.2.1 p hp
  have hWB : WfT (setB T β) := hW.b hβ
  have hPw := hW.2.1.up hp hsum
  have gW := (gB _ hPw).2
  unfold leadF at k
  obtain ⟨s, hs⟩ : ∃ s, s = buildF (fup (tP T) p (tP T p + x)) := ⟨_, rfl⟩
  have hT2 : tryT T x p = setB (setP T (fup (tP T) p (tP T p + x))) (if 0 < tS T 4 ∧ tS T 4 ≤ allD s then ((tN T % 2 : Nat) : Int) else -1) := by unfold tryT; rw [hs]
  have hWt : WfT (tryT T x p) := (hW.p hPw).b (by split <;> omega)
  have m2 : tN T % 2 < 2 := Nat.mod_lt _ (by decide)
  have r1 := scoreF_rng hWt s (pl := tN T % 2) m2
  have r2 := scoreF_rng hWt s (pl := 1 - tN T % 2) (by omega)
  have hz := @b01 (0 < tS T 4 ∧ tS T 4 ≤ allD s) inferInstance
  have hWP : WfT (setP (setB T β) (fup (tP T) p (tP T p + x))) := hWB.p hPw
  rw [← hs] at gW k
  have fin : ∀ (M4 : Mem), Scr b M M4 → Ct (tryT T x p) M4 (b + 8) → Rw s M4 (b + 16) → X g m_X4_leadBehind 0 0 lay M4 78 [(3, vI ((tN T % 2 : Nat) : Int)), (0, vR b), (1, vI x), (2, vI p)] [] K := by
    intro M4 hS4 hC4 hR4
    have e9 : (1 : Int) - ((tN T % 2 : Nat) : Int) = ((1 - tN T % 2 : Nat) : Int) := by omega
    refine x_aload_n (pc := 78) dX4_leadBehind_78 rfl rfl ?_
    refine x_getr (pc := 79) (b := b + 8) fX4_16 dX4_leadBehind_79 hd.1 rfl rfl ?_
    refine x_iload_n (pc := 82) dX4_leadBehind_82 rfl rfl ?_
    refine x_aload_n (pc := 83) dX4_leadBehind_83 rfl rfl ?_
    refine x_getr (pc := 84) (b := b + 16) fX4_26 dX4_leadBehind_84 hd.1 rfl rfl ?_
    refine x_callV (pc := 87) [_, _] rfl kX4_174 dX4_leadBehind_87 hd.2.2.1.1 rfl rfl (by decide) (Nat.le_of_ble_eq_true rfl) (Nat.le_of_ble_eq_true rfl) (by decide) ?_
    refine sp_X0_score hd.2.2.1 hC4 hWt hd.2.2.2.2.1 hR4 gW (by omega) (by omega) m2 (fun M5 hF5 => ?_)
    have hC5 := hC4.frm hF5 (by omega)
    have hR5 := hR4.w gW.1 hF5 (by omega)
    refine ⟨_, rfl, ?_⟩
    refine x_aload_n (pc := 90) dX4_leadBehind_90 rfl rfl ?_
    refine x_getr (pc := 91) (b := b + 8) fX4_16 dX4_leadBehind_91 hd.1 rfl rfl ?_
    refine x_iconst (pc := 94) dX4_leadBehind_94 ?_
    refine x_iload_n (pc := 95) dX4_leadBehind_95 rfl rfl ?_
    refine x_isub (pc := 96) dX4_leadBehind_96 ?_
    rw [e9]
    refine x_aload_n (pc := 97) dX4_leadBehind_97 rfl rfl ?_
    refine x_getr (pc := 98) (b := b + 16) fX4_26 dX4_leadBehind_98 hd.1 rfl rfl ?_
    refine x_callV (pc := 101) [_, _] rfl kX4_174 dX4_leadBehind_101 hd.2.2.1.1 rfl rfl (by decide) (Nat.le_of_ble_eq_true rfl) (Nat.le_of_ble_eq_true rfl) (by decide) ?_
    refine sp_X0_score hd.2.2.1 hC5 hWt hd.2.2.2.2.1 hR5 gW (by omega) (by omega) (by omega) (fun M6 hF6 => ?_)
    have hC6 := hC5.frm hF6 (by omega)
    have hS6 := (hS4.fr hF5 (by omega)).fr hF6 (by omega)
    refine ⟨_, rfl, ?_⟩
    refine x_isub (pc := 104) dX4_leadBehind_104 ?_
    refine x_istore (pc := 105) dX4_leadBehind_105 trivial (by decide) (L' := [(4, _), (3, _), (0, _), (1, _), (2, _)]) rfl ?_
    refine x_aload_n (pc := 107) dX4_leadBehind_107 rfl rfl ?_
    refine x_getr (pc := 108) (b := b + 8) fX4_16 dX4_leadBehind_108 hd.1 rfl rfl ?_
    refine x_getr (pc := 111) (b := b + 8 + 2) fX4_147 dX4_leadBehind_111 hd.2.2.1.1 rfl rfl ?_
    refine x_iload_n (pc := 114) dX4_leadBehind_114 rfl rfl ?_
    refine x_aload_n (pc := 115) dX4_leadBehind_115 rfl rfl ?_
    refine x_getr (pc := 116) (b := b + 1) fX4_10 dX4_leadBehind_116 hd.1 rfl rfl ?_
    refine x_getr (pc := 119) (b := b + 1 + 2) fX4_147 dX4_leadBehind_119 hd.2.1.1 rfl rfl ?_
    refine x_iload_n (pc := 122) dX4_leadBehind_122 rfl rfl ?_
    refine x_iald (pc := 123) dX4_leadBehind_123 hd.2.1.2.2.1 (by omega) (by omega) (fun r123a r123b => ?_)
    rw [Int.toNat_natCast, hS6 _ _ (by omega) (by omega) (by omega), e1] at r123a r123b ⊢
    refine x_iast (pc := 124) dX4_leadBehind_124 hd.2.2.1.2.2.1 (by omega) (by omega) (by omega) ⟨by omega, by omega⟩ ?_
    refine x_iload (pc := 125) dX4_leadBehind_125 rfl ?_
    refine x_iret (pc := 127) dX4_leadBehind_127 rfl (by decide) (by decide) ?_
    rw [Int.toNat_natCast]
    refine k _ (if 0 < tS T 4 ∧ tS T 4 ≤ allD s then ((tN T % 2 : Nat) : Int) else -1) (hS6.ms (by omega)) ?_ ?_
    · have h9 := hC6.setP (p := p) (v := tP T p) hp
      rw [hT2, show tP (setB (setP T (fup (tP T) p (tP T p + x))) (if 0 < tS T 4 ∧ tS T 4 ≤ allD s then ((tN T % 2 : Nat) : Int) else -1)) = fup (tP T) p (tP T p + x) from rfl, setP_back] at h9
      exact h9
    · split <;> omega
  refine x_aload_n (pc := 0) dX4_leadBehind_0 rfl rfl ?_
  refine x_getr (pc := 1) (b := b + 1) fX4_10 dX4_leadBehind_1 hd.1 rfl rfl ?_
  refine x_iload_n (pc := 4) dX4_leadBehind_4 rfl rfl ?_
  refine x_callV (pc := 5) [_] rfl kX4_137 dX4_leadBehind_5 hd.2.1.1 rfl rfl (by decide) (Nat.le_of_ble_eq_true rfl) (Nat.le_of_ble_eq_true rfl) (by decide) ?_
  refine sp_X0_hasPower hd.2.1 hT hW ⟨by omega, by omega⟩ ?_
  refine ⟨_, rfl, ?_⟩
  have hzp : 0 ≤ (if 0 ≤ (p : Int) ∧ (p : Int) < tS T 0 then (1 : Int) else 0) ∧ (if 0 ≤ (p : Int) ∧ (p : Int) < tS T 0 then (1 : Int) else 0) ≤ 1 := b01
  refine x_if_ne (pc := 8) (t := 13) dX4_leadBehind_8 (by decide) ⟨by omega, by omega⟩ (fun c8 => ?_) (fun c8 => ?_)
  · refine x_aload_n (pc := 13) dX4_leadBehind_13 rfl rfl ?_
    refine x_getr (pc := 14) (b := b + 1) fX4_10 dX4_leadBehind_14 hd.1 rfl rfl ?_
    refine x_callV (pc := 17) [] rfl kX4_121 dX4_leadBehind_17 hd.2.1.1 rfl rfl (by decide) (Nat.le_of_ble_eq_true rfl) (Nat.le_of_ble_eq_true rfl) (by decide) ?_
    refine sp_X0_mover hd.2.1 hT hW ?_
    refine ⟨_, rfl, ?_⟩
    refine x_istore_n (pc := 20) dX4_leadBehind_20 rfl (by decide) (L' := [(3, _), (0, _), (1, _), (2, _)]) rfl ?_
    refine x_aload_n (pc := 21) dX4_leadBehind_21 rfl rfl ?_
    refine x_getr (pc := 22) (b := b + 8) fX4_16 dX4_leadBehind_22 hd.1 rfl rfl ?_
    refine x_getr (pc := 25) (b := b + 8 + 2) fX4_147 dX4_leadBehind_25 hd.2.2.1.1 rfl rfl ?_
    refine x_iload_n (pc := 28) dX4_leadBehind_28 rfl rfl ?_
    refine x_aload_n (pc := 29) dX4_leadBehind_29 rfl rfl ?_
    refine x_getr (pc := 30) (b := b + 1) fX4_10 dX4_leadBehind_30 hd.1 rfl rfl ?_
    refine x_getr (pc := 33) (b := b + 1 + 2) fX4_147 dX4_leadBehind_33 hd.2.1.1 rfl rfl ?_
    refine x_iload_n (pc := 36) dX4_leadBehind_36 rfl rfl ?_
    refine x_iald (pc := 37) dX4_leadBehind_37 hd.2.1.2.2.1 (by omega) (by omega) (fun r37a r37b => ?_)
    rw [Int.toNat_natCast, e1] at r37a r37b ⊢
    refine x_iload_n (pc := 38) dX4_leadBehind_38 rfl rfl ?_
    refine x_iadd (pc := 39) dX4_leadBehind_39 ?_
    refine x_iast (pc := 40) dX4_leadBehind_40 hd.2.2.1.2.2.1 (by omega) (by omega) (by omega) ⟨by omega, by omega⟩ ?_
    refine x_aload_n (pc := 41) dX4_leadBehind_41 rfl rfl ?_
    refine x_aload_n (pc := 42) dX4_leadBehind_42 rfl rfl ?_
    refine x_getr (pc := 43) (b := b + 8) fX4_16 dX4_leadBehind_43 hd.1 rfl rfl ?_
    refine x_getr (pc := 46) (b := b + 8 + 2) fX4_147 dX4_leadBehind_46 hd.2.2.1.1 rfl rfl ?_
    have hCP := hB.setP (p := p) (v := tP T p + x) hp
    rw [show tP (setB T β) = tP T from rfl] at hCP
    refine x_callV (pc := 49) [_] rfl kX4_162 dX4_leadBehind_49 hd.1 rfl rfl (by decide) (Nat.le_of_ble_eq_true rfl) (Nat.le_of_ble_eq_true rfl) (by decide) ?_
    rw [Int.toNat_natCast]
    refine sp_X4_buildRows gB hd hb0 hd.2.2.1.2.2.1 (by omega) hPw (fun i hi => hCP.2.1 i hi) (fun M2 hF2 hR2 => ?_)
    rw [← hs] at hR2
    have hC2 := hCP.frm hF2 (by omega)
    have hS2 : Scr b M M2 := (Scr.rf.ms (by omega)).fr hF2 (by omega)
    refine ⟨_, rfl, ?_⟩
    refine x_aload_n (pc := 52) dX4_leadBehind_52 rfl rfl ?_
    refine x_getr (pc := 53) (b := b + 8) fX4_16 dX4_leadBehind_53 hd.1 rfl rfl ?_
    refine x_aload_n (pc := 56) dX4_leadBehind_56 rfl rfl ?_
    refine x_getr (pc := 57) (b := b + 8) fX4_16 dX4_leadBehind_57 hd.1 rfl rfl ?_
    refine x_aload_n (pc := 60) dX4_leadBehind_60 rfl rfl ?_
    refine x_getr (pc := 61) (b := b + 16) fX4_26 dX4_leadBehind_61 hd.1 rfl rfl ?_
    refine x_callV (pc := 64) [_] rfl kX4_295 dX4_leadBehind_64 hd.2.2.1.1 rfl rfl (by decide) (Nat.le_of_ble_eq_true rfl) (Nat.le_of_ble_eq_true rfl) (by decide) ?_
    refine sp_X0_isGoalReached hd.2.2.1 hC2 hWP hd.2.2.2.2.1 hR2 gW (by omega) (by omega) (fun M3 hF3 => ?_)
    have hC3 := hC2.frm hF3 (by omega)
    have hR3 := hR2.w gW.1 hF3 (by omega)
    have hS3 := hS2.fr hF3 (by omega)
    rw [show tS (setP (setB T β) (fup (tP T) p (tP T p + x))) = tS T from rfl]
    refine ⟨_, rfl, ?_⟩
    refine x_if_eq (pc := 67) (t := 74) dX4_leadBehind_67 (by decide) ⟨by omega, by omega⟩ (fun c67 => ?_) (fun c67 => ?_)
    · refine x_iconst (pc := 74) dX4_leadBehind_74 ?_
      refine x_puti (pc := 75) fnX4_134 dX4_leadBehind_75 hd.2.2.1.1 (by omega) rfl ⟨by omega, by omega⟩ ?_
      refine X.loc [0, 1, 2, 3] (L' := [(3, _), (0, _), (1, _), (2, _)]) rfl ?_
      refine fin _ (hS3.ms (by omega)) ?_ (hR3.w gW.1 (lo := b + 8) (hi := b + 9) (Frm.rf.ms (by omega)) (by omega))
      rw [hT2, ← setB_setP T _ β]
      first
      | (rw [if_pos (b1 c67)]
         exact hC3.setB)
      | (rw [if_neg (b0 c67)]
         exact hC3.setB)
    · refine x_iload_n (pc := 70) dX4_leadBehind_70 rfl rfl ?_
      refine x_goto (pc := 71) (t := 75) dX4_leadBehind_71 (by decide) ?_
      refine x_puti (pc := 75) fnX4_134 dX4_leadBehind_75 hd.2.2.1.1 (by omega) rfl ⟨by omega, by omega⟩ ?_
      refine X.loc [0, 1, 2, 3] (L' := [(3, _), (0, _), (1, _), (2, _)]) rfl ?_
      refine fin _ (hS3.ms (by omega)) ?_ (hR3.w gW.1 (lo := b + 8) (hi := b + 9) (Frm.rf.ms (by omega)) (by omega))
      rw [hT2, ← setB_setP T _ β]
      first
      | (rw [if_pos (b1 c67)]
         exact hC3.setB)
      | (rw [if_neg (b0 c67)]
         exact hC3.setB)
  · exact (b0 c8 ⟨by omega, by omega⟩).elim
set_option maxRecDepth 100000 in
theorem sp_X4_best {g : GG} {lay : Lay} {M : Mem} {K : KK} {b : Nat} {sv : Nat → Option Nat} {T : CT} (gB : GoodB) (hd : DuL lay b sv) (hb0 : g.2.1 ≤ b) (hT : Ct T M (b + 1)) (hW : WfT T) (k : ∀ M2 n, lay.2 ≤ n → Scr b M M2 → K (oI (bestF T)) (lay.1, n) M2) : X g m_X4_best 0 0 lay M 0 [(0, vR b)] [] K := by
  have w0 := hW.1.1
  unfold bestF at k
  have outer : ∀ (d p : Nat) (y f q : Int) (M1 : Mem) (β : Int), p + d = (tS T 0).toNat → y = p → Scr b M M1 → Ct (setB T β) M1 (b + 8) → (β = -1 ∨ β = 0 ∨ β = 1) → (f, q) = bout T p → X g m_X4_best 0 0 lay M1 17 [(3, vI y), (2, vI q), (1, vI f), (0, vR b)] [] K := by
    intro d
    induction d with
    | zero =>
      intro p y f q M1 β hp hy hS hB hβ hq
      have e0 := (hT.scr hS).1 0 (by decide)
      refine x_iload_n (pc := 17) dX4_best_17 rfl rfl ?_
      refine x_aload_n (pc := 18) dX4_best_18 rfl rfl ?_
      refine x_getr (pc := 19) (b := b + 1) fX4_10 dX4_best_19 hd.1 rfl rfl ?_
      refine x_getr (pc := 22) (b := b + 1 + 1) fX4_87 dX4_best_22 hd.2.1.1 rfl rfl ?_
      refine x_iconst (pc := 25) dX4_best_25 ?_
      refine x_iald (pc := 26) dX4_best_26 hd.2.1.2.1 (by omega) (by omega) (fun r26a r26b => ?_)
      rw [show (0 : Int).toNat = 0 from rfl, e0] at r26a r26b ⊢
      refine x_icmp_ge (pc := 27) (t := 108) dX4_best_27 (by decide) ⟨by omega, by omega⟩ ⟨by omega, by omega⟩ (fun c27 => ?_) (fun c27 => ?_)
      · refine x_iload_n (pc := 108) dX4_best_108 rfl rfl ?_
        refine x_iret (pc := 109) dX4_best_109 rfl (by decide) (by decide) ?_
        rw [show p = (tS T 0).toNat by omega] at hq
        rw [← hq] at k
        exact k _ _ (Nat.le_refl _) hS
      · exfalso; omega
    | succ d ih =>
      intro p y f q M1 β hp hy hS hB hβ hq
      subst hy
      have e0 := (hT.scr hS).1 0 (by decide)
      have hr0 := bout_rng hW p (by omega)
      have inner : ∀ (d2 n : Nat) (z f q : Int) (M2 : Mem) (β : Int), n + d2 = 19 → z = -9 + (n : Int) → Scr b M M2 → Ct (setB T β) M2 (b + 8) → (β = -1 ∨ β = 0 ∨ β = 1) → (f, q) = bin T p n (bout T p) → X g m_X4_best 0 0 lay M2 34 [(4, vI z), (3, vI p), (2, vI q), (1, vI f), (0, vR b)] [] K := by
        intro d2
        induction d2 with
        | zero =>
          intro n z f q M2 β hn hz hS hB hβ hq
          refine x_iload (pc := 34) dX4_best_34 rfl ?_
          refine x_bipush (pc := 36) dX4_best_36 (by decide) ?_
          refine x_icmp_gt (pc := 38) (t := 102) dX4_best_38 (by decide) ⟨by omega, by omega⟩ ⟨by omega, by omega⟩ (fun c38 => ?_) (fun c38 => ?_)
          · refine x_iinc (pc := 102) dX4_best_102 rfl (by decide) (L' := [(3, _), (4, _), (2, _), (1, _), (0, _)]) rfl ?_
            refine x_goto (pc := 105) (t := 17) dX4_best_105 (by decide) ?_
            refine X.loc [0, 2, 3, 4] (L' := [(3, _), (2, _), (1, _), (0, _)]) rfl ?_
            rw [show n = 19 by omega] at hq
            exact ih (p + 1) _ _ _ _ _ (by omega) (by omega) hS hB hβ hq
          · exfalso; omega
        | succ d2 ih2 =>
          intro n z f q M2 β hn hz hS hB hβ hq
          have hr1 := bin_rng (p := p) hW (by omega) hr0 n (by omega)
          rw [← hq] at hr1
          have hwr := whyLay_rng T z p
          have hlr := lead_rng hW (x := z) (p := p) (by omega)
          have hnx : bin T p (n + 1) (bout T p) = bstep T p z (f, q) := by
            simp only [bin]
            rw [← hq, hz]
          unfold bstep at hnx
          dsimp only at hr1
          refine x_iload (pc := 34) dX4_best_34 rfl ?_
          refine x_bipush (pc := 36) dX4_best_36 (by decide) ?_
          refine x_icmp_gt (pc := 38) (t := 102) dX4_best_38 (by decide) ⟨by omega, by omega⟩ ⟨by omega, by omega⟩ (fun c38 => ?_) (fun c38 => ?_)
          · exfalso; omega
          · refine x_iload (pc := 41) dX4_best_41 rfl ?_
            refine x_if_eq (pc := 43) (t := 96) dX4_best_43 (by decide) ⟨by omega, by omega⟩ (fun c43 => ?_) (fun c43 => ?_)
            · refine x_iinc (pc := 96) dX4_best_96 rfl (by decide) (L' := [(4, _), (3, _), (2, _), (1, _), (0, _)]) rfl ?_
              refine x_goto (pc := 99) (t := 34) dX4_best_99 (by decide) ?_
              refine X.loc [0, 1, 2, 3, 4] (L' := [(4, _), (3, _), (2, _), (1, _), (0, _)]) rfl ?_
              first
              | (rw [if_pos (by omega)] at hnx
                 exact ih2 (n + 1) _ _ _ _ _ (by omega) (by omega) hS hB hβ hnx.symm)
              | (rw [if_neg (by omega), if_pos (by dsimp only; omega)] at hnx
                 refine ih2 (n + 1) _ _ _ _ _ (by omega) (by omega) (hS.tr hS3) hB3 hβ3 ?_
                 rw [hnx])
              | (rw [if_neg (by omega), if_neg (by dsimp only; omega)] at hnx
                 refine ih2 (n + 1) _ _ _ _ _ (by omega) (by omega) (hS.tr hS3) hB3 hβ3 ?_
                 rw [hnx])
            · refine x_aload_n (pc := 46) dX4_best_46 rfl rfl ?_
              refine x_getr (pc := 47) (b := b + 1) fX4_10 dX4_best_47 hd.1 rfl rfl ?_
              refine x_iload (pc := 50) dX4_best_50 rfl ?_
              refine x_iload_n (pc := 52) dX4_best_52 rfl rfl ?_
              refine x_callV (pc := 53) [_, _] rfl kX4_203 dX4_best_53 hd.2.1.1 rfl rfl (by decide) (Nat.le_of_ble_eq_true rfl) (Nat.le_of_ble_eq_true rfl) (by decide) ?_
              refine sp_X0_refusalOfTerm hd.2.1 (hT.scr hS) hW (by omega) (by omega) ?_
              refine ⟨_, rfl, ?_⟩
              refine x_if_eq (pc := 56) (t := 62) dX4_best_56 (by decide) ⟨by omega, by omega⟩ (fun c56 => ?_) (fun c56 => ?_)
              · refine x_aload_n (pc := 62) dX4_best_62 rfl rfl ?_
                refine x_iload (pc := 63) dX4_best_63 rfl ?_
                refine x_iload_n (pc := 65) dX4_best_65 rfl rfl ?_
                refine x_callV (pc := 66) [_, _] rfl kX4_206 dX4_best_66 hd.1 rfl rfl (by decide) (Nat.le_of_ble_eq_true rfl) (Nat.le_of_ble_eq_true rfl) (by decide) ?_
                refine sp_X4_leadBehind gB hd hb0 (hT.scr hS) hW hB hβ (by omega) (by omega) (by omega) (fun M3 β3 hS3 hB3 hβ3 => ?_)
                refine ⟨_, rfl, ?_⟩
                refine x_istore (pc := 69) dX4_best_69 trivial (by decide) (L' := [(5, _), (4, _), (3, _), (2, _), (1, _), (0, _)]) rfl ?_
                refine x_iload_n (pc := 71) dX4_best_71 rfl rfl ?_
                refine x_iconst (pc := 72) dX4_best_72 ?_
                refine x_icmp_eq (pc := 73) (t := 82) dX4_best_73 (by decide) ⟨by omega, by omega⟩ ⟨by omega, by omega⟩ (fun c73 => ?_) (fun c73 => ?_)
                · refine x_bipush (pc := 82) dX4_best_82 (by decide) ?_
                  refine x_iload_n (pc := 84) dX4_best_84 rfl rfl ?_
                  refine x_imul (pc := 85) dX4_best_85 ?_
                  refine x_iload (pc := 86) dX4_best_86 rfl ?_
                  refine x_iadd (pc := 88) dX4_best_88 ?_
                  refine x_bipush (pc := 89) dX4_best_89 (by decide) ?_
                  refine x_iadd (pc := 91) dX4_best_91 ?_
                  refine x_istore_n (pc := 92) dX4_best_92 rfl (by decide) (L' := [(1, _), (5, _), (4, _), (3, _), (2, _), (0, _)]) rfl ?_
                  refine x_iload (pc := 93) dX4_best_93 rfl ?_
                  refine x_istore_n (pc := 95) dX4_best_95 rfl (by decide) (L' := [(2, _), (1, _), (5, _), (4, _), (3, _), (0, _)]) rfl ?_
                  refine x_iinc (pc := 96) dX4_best_96 rfl (by decide) (L' := [(4, _), (2, _), (1, _), (5, _), (3, _), (0, _)]) rfl ?_
                  refine x_goto (pc := 99) (t := 34) dX4_best_99 (by decide) ?_
                  refine X.loc [0, 4, 1, 2, 5] (L' := [(4, _), (3, _), (2, _), (1, _), (0, _)]) rfl ?_
                  first
                  | (rw [if_pos (by omega)] at hnx
                     exact ih2 (n + 1) _ _ _ _ _ (by omega) (by omega) hS hB hβ hnx.symm)
                  | (rw [if_neg (by omega), if_pos (by dsimp only; omega)] at hnx
                     refine ih2 (n + 1) _ _ _ _ _ (by omega) (by omega) (hS.tr hS3) hB3 hβ3 ?_
                     rw [hnx])
                  | (rw [if_neg (by omega), if_neg (by dsimp only; omega)] at hnx
                     refine ih2 (n + 1) _ _ _ _ _ (by omega) (by omega) (hS.tr hS3) hB3 hβ3 ?_
                     rw [hnx])
                · refine x_iload (pc := 76) dX4_best_76 rfl ?_
                  refine x_iload_n (pc := 78) dX4_best_78 rfl rfl ?_
                  refine x_icmp_le (pc := 79) (t := 96) dX4_best_79 (by decide) ⟨by omega, by omega⟩ ⟨by omega, by omega⟩ (fun c79 => ?_) (fun c79 => ?_)
                  · refine x_iinc (pc := 96) dX4_best_96 rfl (by decide) (L' := [(4, _), (5, _), (3, _), (2, _), (1, _), (0, _)]) rfl ?_
                    refine x_goto (pc := 99) (t := 34) dX4_best_99 (by decide) ?_
                    refine X.loc [0, 2, 3, 4, 5] (L' := [(4, _), (3, _), (2, _), (1, _), (0, _)]) rfl ?_
                    first
                    | (rw [if_pos (by omega)] at hnx
                       exact ih2 (n + 1) _ _ _ _ _ (by omega) (by omega) hS hB hβ hnx.symm)
                    | (rw [if_neg (by omega), if_pos (by dsimp only; omega)] at hnx
                       refine ih2 (n + 1) _ _ _ _ _ (by omega) (by omega) (hS.tr hS3) hB3 hβ3 ?_
                       rw [hnx])
                    | (rw [if_neg (by omega), if_neg (by dsimp only; omega)] at hnx
                       refine ih2 (n + 1) _ _ _ _ _ (by omega) (by omega) (hS.tr hS3) hB3 hβ3 ?_
                       rw [hnx])
                  · refine x_bipush (pc := 82) dX4_best_82 (by decide) ?_
                    refine x_iload_n (pc := 84) dX4_best_84 rfl rfl ?_
                    refine x_imul (pc := 85) dX4_best_85 ?_
                    refine x_iload (pc := 86) dX4_best_86 rfl ?_
                    refine x_iadd (pc := 88) dX4_best_88 ?_
                    refine x_bipush (pc := 89) dX4_best_89 (by decide) ?_
                    refine x_iadd (pc := 91) dX4_best_91 ?_
                    refine x_istore_n (pc := 92) dX4_best_92 rfl (by decide) (L' := [(1, _), (5, _), (4, _), (3, _), (2, _), (0, _)]) rfl ?_
                    refine x_iload (pc := 93) dX4_best_93 rfl ?_
                    refine x_istore_n (pc := 95) dX4_best_95 rfl (by decide) (L' := [(2, _), (1, _), (5, _), (4, _), (3, _), (0, _)]) rfl ?_
                    refine x_iinc (pc := 96) dX4_best_96 rfl (by decide) (L' := [(4, _), (2, _), (1, _), (5, _), (3, _), (0, _)]) rfl ?_
                    refine x_goto (pc := 99) (t := 34) dX4_best_99 (by decide) ?_
                    refine X.loc [0, 4, 1, 2, 5] (L' := [(4, _), (3, _), (2, _), (1, _), (0, _)]) rfl ?_
                    first
                    | (rw [if_pos (by omega)] at hnx
                       exact ih2 (n + 1) _ _ _ _ _ (by omega) (by omega) hS hB hβ hnx.symm)
                    | (rw [if_neg (by omega), if_pos (by dsimp only; omega)] at hnx
                       refine ih2 (n + 1) _ _ _ _ _ (by omega) (by omega) (hS.tr hS3) hB3 hβ3 ?_
                       rw [hnx])
                    | (rw [if_neg (by omega), if_neg (by dsimp only; omega)] at hnx
                       refine ih2 (n + 1) _ _ _ _ _ (by omega) (by omega) (hS.tr hS3) hB3 hβ3 ?_
                       rw [hnx])
              · refine x_goto (pc := 59) (t := 96) dX4_best_59 (by decide) ?_
                refine x_iinc (pc := 96) dX4_best_96 rfl (by decide) (L' := [(4, _), (3, _), (2, _), (1, _), (0, _)]) rfl ?_
                refine x_goto (pc := 99) (t := 34) dX4_best_99 (by decide) ?_
                refine X.loc [0, 1, 2, 3, 4] (L' := [(4, _), (3, _), (2, _), (1, _), (0, _)]) rfl ?_
                first
                | (rw [if_pos (by omega)] at hnx
                   exact ih2 (n + 1) _ _ _ _ _ (by omega) (by omega) hS hB hβ hnx.symm)
                | (rw [if_neg (by omega), if_pos (by dsimp only; omega)] at hnx
                   refine ih2 (n + 1) _ _ _ _ _ (by omega) (by omega) (hS.tr hS3) hB3 hβ3 ?_
                   rw [hnx])
                | (rw [if_neg (by omega), if_neg (by dsimp only; omega)] at hnx
                   refine ih2 (n + 1) _ _ _ _ _ (by omega) (by omega) (hS.tr hS3) hB3 hβ3 ?_
                   rw [hnx])
      refine x_iload_n (pc := 17) dX4_best_17 rfl rfl ?_
      refine x_aload_n (pc := 18) dX4_best_18 rfl rfl ?_
      refine x_getr (pc := 19) (b := b + 1) fX4_10 dX4_best_19 hd.1 rfl rfl ?_
      refine x_getr (pc := 22) (b := b + 1 + 1) fX4_87 dX4_best_22 hd.2.1.1 rfl rfl ?_
      refine x_iconst (pc := 25) dX4_best_25 ?_
      refine x_iald (pc := 26) dX4_best_26 hd.2.1.2.1 (by omega) (by omega) (fun r26a r26b => ?_)
      rw [show (0 : Int).toNat = 0 from rfl, e0] at r26a r26b ⊢
      refine x_icmp_ge (pc := 27) (t := 108) dX4_best_27 (by decide) ⟨by omega, by omega⟩ ⟨by omega, by omega⟩ (fun c27 => ?_) (fun c27 => ?_)
      · exfalso; omega
      · refine x_bipush (pc := 30) dX4_best_30 (by decide) ?_
        refine x_istore (pc := 32) dX4_best_32 trivial (by decide) (L' := [(4, _), (3, _), (2, _), (1, _), (0, _)]) rfl ?_
        refine X.loc [0, 1, 2, 3, 4] (L' := [(4, _), (3, _), (2, _), (1, _), (0, _)]) rfl ?_
        exact inner 19 0 _ _ _ _ _ rfl (by omega) hS hB hβ hq
  refine x_iconst (pc := 0) dX4_best_0 ?_
  refine x_istore_n (pc := 1) dX4_best_1 rfl (by decide) (L' := [(1, _), (0, _)]) rfl ?_
  refine x_iconst (pc := 2) dX4_best_2 ?_
  refine x_istore_n (pc := 3) dX4_best_3 rfl (by decide) (L' := [(2, _), (1, _), (0, _)]) rfl ?_
  refine x_aload_n (pc := 4) dX4_best_4 rfl rfl ?_
  refine x_getr (pc := 5) (b := b + 8) fX4_16 dX4_best_5 hd.1 rfl rfl ?_
  refine x_aload_n (pc := 8) dX4_best_8 rfl rfl ?_
  refine x_getr (pc := 9) (b := b + 1) fX4_10 dX4_best_9 hd.1 rfl rfl ?_
  refine x_callV (pc := 12) [_] rfl kX4_77 dX4_best_12 hd.2.2.1.1 rfl rfl (by decide) (Nat.le_of_ble_eq_true rfl) (Nat.le_of_ble_eq_true rfl) (by decide) ?_
  refine sp_X0_copyFrom hd.2.2.1 hd.2.1 (by omega) (by omega) hT hW (fun M2 hF2 hT2 => ?_)
  refine ⟨_, rfl, ?_⟩
  refine x_iconst (pc := 15) dX4_best_15 ?_
  refine x_istore_n (pc := 16) dX4_best_16 rfl (by decide) (L' := [(3, _), (2, _), (1, _), (0, _)]) rfl ?_
  refine X.loc [0, 1, 2, 3] (L' := [(3, _), (2, _), (1, _), (0, _)]) rfl ?_
  exact outer (tS T 0).toNat 0 _ _ _ _ (tB T) (by omega) rfl (Scr.rf.fr hF2 (by omega)) hT2 hW.2.2.2.2.2.2.2 rfl
set_option maxRecDepth 100000 in
theorem sp_X4_behind {g : GG} {lay : Lay} {M : Mem} {K : KK} {b : Nat} {sv : Nat → Option Nat} {T : CT} {x p w : Int} (gB : GoodB) (hd : DuL lay b sv) (hb0 : g.2.1 ≤ b) (hT : Ct T M (b + 1)) (hW : WfT T) (hO : WfO T) (hx : i32 x) (hp : i32 p) (hw : i32 w) (k : ∀ M2 n, lay.2 ≤ n → Scr b M M2 → K (rBehind T x p w) (lay.1, n) M2) : X g m_X4_behind 0 0 lay M 0 [(0, vR b), (1, vI x), (2, vI p), (3, vI w)] [] K := by
  obtain ⟨hw1, hw2⟩ := hw
  have w0 := hW.1.1
  have z0 := @b01 (hasP T p) inferInstance
  have z1 := @b01 (layab x) inferInstance
  have hwr := whyLay_rng T x p.toNat
  unfold rBehind behF at k
  refine x_aload_n (pc := 0) dX4_behind_0 rfl rfl ?_
  refine x_getr (pc := 1) (b := b + 1) fX4_10 dX4_behind_1 hd.1 rfl rfl ?_
  refine x_iload_n (pc := 4) dX4_behind_4 rfl rfl ?_
  refine x_callV (pc := 5) [_] rfl kX4_137 dX4_behind_5 hd.2.1.1 rfl rfl (by decide) (Nat.le_of_ble_eq_true rfl) (Nat.le_of_ble_eq_true rfl) (by decide) ?_
  refine sp_X0_hasPower hd.2.1 hT hW hp ?_
  refine ⟨_, rfl, ?_⟩
  refine x_if_ne (pc := 8) (t := 19) dX4_behind_8 (by decide) ⟨by omega, by omega⟩ (fun c8 => ?_) (fun c8 => ?_)
  · refine x_iload_n (pc := 19) dX4_behind_19 rfl rfl ?_
    refine x_callS (pc := 20) [_] rfl kX4_200 dX4_behind_20 rfl (by decide) (Nat.le_of_ble_eq_true rfl) (Nat.le_of_ble_eq_true rfl) (by decide) ?_
    refine sp_X4_isLayable hx ?_
    refine ⟨_, rfl, ?_⟩
    refine x_if_eq (pc := 23) (t := 35) dX4_behind_23 (by decide) ⟨by omega, by omega⟩ (fun c23 => ?_) (fun c23 => ?_)
    · refine x_throw0 (pc := 35) ct67 dX4_behind_35 dX4_behind_38 dX4_behind_39 dX4_behind_42 rfl (by decide) (Nat.le_of_ble_eq_true rfl) (Nat.le_of_ble_eq_true rfl) ?_
      have y0 := b1 c8
      intro n hn
      refine kE2 (k _ n hn Scr.rf) ?_
      first
      | (have y1 := b0 c23
         rw [if_neg (fun z => z y0), if_pos (fun z => y1 z.1)])
      | rw [if_neg (fun z => z y0), if_pos (by omega)]
    · refine x_iload_n (pc := 26) dX4_behind_26 rfl rfl ?_
      refine x_if_lt (pc := 27) (t := 35) dX4_behind_27 (by decide) ⟨by omega, by omega⟩ (fun c27 => ?_) (fun c27 => ?_)
      · refine x_throw0 (pc := 35) ct67 dX4_behind_35 dX4_behind_38 dX4_behind_39 dX4_behind_42 rfl (by decide) (Nat.le_of_ble_eq_true rfl) (Nat.le_of_ble_eq_true rfl) ?_
        have y0 := b1 c8
        intro n hn
        refine kE2 (k _ n hn Scr.rf) ?_
        first
        | (have y1 := b0 c23
           rw [if_neg (fun z => z y0), if_pos (fun z => y1 z.1)])
        | rw [if_neg (fun z => z y0), if_pos (by omega)]
      · refine x_iload_n (pc := 30) dX4_behind_30 rfl rfl ?_
        refine x_iconst (pc := 31) dX4_behind_31 ?_
        refine x_icmp_le (pc := 32) (t := 43) dX4_behind_32 (by decide) ⟨by omega, by omega⟩ ⟨by omega, by omega⟩ (fun c32 => ?_) (fun c32 => ?_)
        · refine x_aload_n (pc := 43) dX4_behind_43 rfl rfl ?_
          refine x_getr (pc := 44) (b := b + 1) fX4_10 dX4_behind_44 hd.1 rfl rfl ?_
          refine x_iload_n (pc := 47) dX4_behind_47 rfl rfl ?_
          refine x_iload_n (pc := 48) dX4_behind_48 rfl rfl ?_
          refine x_callV (pc := 49) [_, _] rfl kX4_203 dX4_behind_49 hd.2.1.1 rfl rfl (by decide) (Nat.le_of_ble_eq_true rfl) (Nat.le_of_ble_eq_true rfl) (by decide) ?_
          have y0 := b1 c8
          have y1 := b1 c23
          obtain ⟨q, rfl⟩ := Int.eq_ofNat_of_zero_le y0.1
          rw [Int.toNat_natCast] at hwr k
          rw [if_neg (fun z => z y0), if_neg (fun z => z ⟨y1, by omega⟩)] at k
          refine sp_X0_refusalOfTerm hd.2.1 hT hW (by omega) (by omega) ?_
          refine ⟨_, rfl, ?_⟩
          refine x_if_eq (pc := 52) (t := 63) dX4_behind_52 (by decide) ⟨by omega, by omega⟩ (fun c52 => ?_) (fun c52 => ?_)
          · refine x_aload_n (pc := 63) dX4_behind_63 rfl rfl ?_
            refine x_getr (pc := 64) (b := b + 8) fX4_16 dX4_behind_64 hd.1 rfl rfl ?_
            refine x_aload_n (pc := 67) dX4_behind_67 rfl rfl ?_
            refine x_getr (pc := 68) (b := b + 1) fX4_10 dX4_behind_68 hd.1 rfl rfl ?_
            refine x_callV (pc := 71) [_] rfl kX4_77 dX4_behind_71 hd.2.2.1.1 rfl rfl (by decide) (Nat.le_of_ble_eq_true rfl) (Nat.le_of_ble_eq_true rfl) (by decide) ?_
            rw [if_neg (by omega)] at k
            refine sp_X0_copyFrom hd.2.2.1 hd.2.1 (by omega) (by omega) hT hW (fun M2 hF2 hT2 => ?_)
            refine ⟨_, rfl, ?_⟩
            refine x_aload_n (pc := 74) dX4_behind_74 rfl rfl ?_
            refine x_getr (pc := 75) (b := b + 8) fX4_16 dX4_behind_75 hd.1 rfl rfl ?_
            refine x_iload_n (pc := 78) dX4_behind_78 rfl rfl ?_
            refine x_iload_n (pc := 79) dX4_behind_79 rfl rfl ?_
            refine x_aload_n (pc := 80) dX4_behind_80 rfl rfl ?_
            refine x_getr (pc := 81) (b := b + 16) fX4_26 dX4_behind_81 hd.1 rfl rfl ?_
            refine x_callV (pc := 84) [_, _, _] rfl kX4_209 dX4_behind_84 hd.2.2.1.1 rfl rfl (by decide) (Nat.le_of_ble_eq_true rfl) (Nat.le_of_ble_eq_true rfl) (by decide) ?_
            obtain ⟨g1, g2⟩ := why0 hW (show whyLayF T x q = 0 by omega)
            have hWt := hW.term (x := x) (p := q) (by omega) (by omega) g2 (hO g1)
            refine sp_X0_endTurn gB hd.2.2.1 hT2 hW (by omega) hd.2.2.2.2.1 (by omega) (by omega) (by omega) (by omega) g2 (hO g1) (fun M3 hF3 hT3 => ?_)
            have hS3 : Scr b M M3 := fun a j q1 q2 q3 => by rw [hF3 a j (by omega) (by omega), hF2 a j (by omega)]
            refine ⟨_, rfl, ?_⟩
            refine x_aload_n (pc := 87) dX4_behind_87 rfl rfl ?_
            refine x_aload_n (pc := 88) dX4_behind_88 rfl rfl ?_
            refine x_getr (pc := 89) (b := b + 8) fX4_16 dX4_behind_89 hd.1 rfl rfl ?_
            refine x_getr (pc := 92) (b := b + 8 + 2) fX4_147 dX4_behind_92 hd.2.2.1.1 rfl rfl ?_
            refine x_callV (pc := 95) [_] rfl kX4_162 dX4_behind_95 hd.1 rfl rfl (by decide) (Nat.le_of_ble_eq_true rfl) (Nat.le_of_ble_eq_true rfl) (by decide) ?_
            refine sp_X4_buildRows gB hd hb0 hd.2.2.1.2.2.1 (by omega) hWt.2.1 (fun i hi => hT3.2.1 i hi) (fun M4 hF4 hR4 => ?_)
            have gW := (gB _ hWt.2.1).2
            have hT4 := hT3.frm hF4 (by omega)
            have hS4 := hS3.fr hF4 (by omega)
            have hO2 := hT4.2.2.2.2.2.2.1
            have hO3 := hWt.2.2.2.2.2.2.1
            refine ⟨_, rfl, ?_⟩
            refine x_iload_n (pc := 98) dX4_behind_98 rfl rfl ?_
            by_cases s99_0 : w = 0
            · refine x_tsw_in (pc := 99) (t := 124) 0 dX4_behind_99 s99_0 (by decide) (by decide) (by decide) rfl (by decide) ?_
              refine x_aload_n (pc := 124) dX4_behind_124 rfl rfl ?_
              refine x_getr (pc := 125) (b := b + 16) fX4_26 dX4_behind_125 hd.1 rfl rfl ?_
              refine x_callV (pc := 128) [] rfl kX4_213 dX4_behind_128 hd.2.2.2.2.1.1 rfl rfl (by decide) (Nat.le_of_ble_eq_true rfl) (Nat.le_of_ble_eq_true rfl) (by decide) ?_
              refine sp_X3_allDistinct hd.2.2.2.2.1 hR4 gW (by omega) (fun M5 hF5 => ?_)
              refine ⟨_, rfl, ?_⟩
              refine x_iret (pc := 131) dX4_behind_131 rfl (by decide) (by decide) ?_
              first
              | (refine kE2 (k _ _ (Nat.le_refl _) (hS4.fr hF5 (by omega))) ?_
                 repeat (first | rfl | rw [if_pos (by omega)] | rw [if_neg (by omega)])
                 done)
              | (refine kE2 (k _ _ (Nat.le_refl _) hS4) ?_
                 repeat (first | rfl | rw [if_pos (by omega)] | rw [if_neg (by omega)])
                 refine congrArg (fun z => (Sum.inl (some (vI z)) : Res)) ?_
                 omega)
            by_cases s99_1 : w = 1
            · refine x_tsw_in (pc := 99) (t := 132) 1 dX4_behind_99 s99_1 (by decide) (by decide) (by decide) rfl (by decide) ?_
              refine x_aload_n (pc := 132) dX4_behind_132 rfl rfl ?_
              refine x_getr (pc := 133) (b := b + 8) fX4_16 dX4_behind_133 hd.1 rfl rfl ?_
              refine x_iconst (pc := 136) dX4_behind_136 ?_
              refine x_aload_n (pc := 137) dX4_behind_137 rfl rfl ?_
              refine x_getr (pc := 138) (b := b + 16) fX4_26 dX4_behind_138 hd.1 rfl rfl ?_
              refine x_callV (pc := 141) [_, _] rfl kX4_174 dX4_behind_141 hd.2.2.1.1 rfl rfl (by decide) (Nat.le_of_ble_eq_true rfl) (Nat.le_of_ble_eq_true rfl) (by decide) ?_
              refine sp_X0_score (pl := 0) hd.2.2.1 hT4 hWt hd.2.2.2.2.1 hR4 gW (by omega) (by omega) (by omega) (fun M5 hF5 => ?_)
              refine ⟨_, rfl, ?_⟩
              refine x_iret (pc := 144) dX4_behind_144 rfl (by decide) (by decide) ?_
              first
              | (refine kE2 (k _ _ (Nat.le_refl _) (hS4.fr hF5 (by omega))) ?_
                 repeat (first | rfl | rw [if_pos (by omega)] | rw [if_neg (by omega)])
                 done)
              | (refine kE2 (k _ _ (Nat.le_refl _) hS4) ?_
                 repeat (first | rfl | rw [if_pos (by omega)] | rw [if_neg (by omega)])
                 refine congrArg (fun z => (Sum.inl (some (vI z)) : Res)) ?_
                 omega)
            by_cases s99_2 : w = 2
            · refine x_tsw_in (pc := 99) (t := 145) 2 dX4_behind_99 s99_2 (by decide) (by decide) (by decide) rfl (by decide) ?_
              refine x_aload_n (pc := 145) dX4_behind_145 rfl rfl ?_
              refine x_getr (pc := 146) (b := b + 8) fX4_16 dX4_behind_146 hd.1 rfl rfl ?_
              refine x_iconst (pc := 149) dX4_behind_149 ?_
              refine x_aload_n (pc := 150) dX4_behind_150 rfl rfl ?_
              refine x_getr (pc := 151) (b := b + 16) fX4_26 dX4_behind_151 hd.1 rfl rfl ?_
              refine x_callV (pc := 154) [_, _] rfl kX4_174 dX4_behind_154 hd.2.2.1.1 rfl rfl (by decide) (Nat.le_of_ble_eq_true rfl) (Nat.le_of_ble_eq_true rfl) (by decide) ?_
              refine sp_X0_score (pl := 1) hd.2.2.1 hT4 hWt hd.2.2.2.2.1 hR4 gW (by omega) (by omega) (by omega) (fun M5 hF5 => ?_)
              refine ⟨_, rfl, ?_⟩
              refine x_iret (pc := 157) dX4_behind_157 rfl (by decide) (by decide) ?_
              first
              | (refine kE2 (k _ _ (Nat.le_refl _) (hS4.fr hF5 (by omega))) ?_
                 repeat (first | rfl | rw [if_pos (by omega)] | rw [if_neg (by omega)])
                 done)
              | (refine kE2 (k _ _ (Nat.le_refl _) hS4) ?_
                 repeat (first | rfl | rw [if_pos (by omega)] | rw [if_neg (by omega)])
                 refine congrArg (fun z => (Sum.inl (some (vI z)) : Res)) ?_
                 omega)
            refine x_tsw_out (pc := 99) (t := 158) dX4_behind_99 ⟨by omega, by omega⟩ (by omega) (by decide) ?_
            refine x_aload_n (pc := 158) dX4_behind_158 rfl rfl ?_
            refine x_getr (pc := 159) (b := b + 8) fX4_16 dX4_behind_159 hd.1 rfl rfl ?_
            refine x_getz (pc := 162) fX4_117 dX4_behind_162 hd.2.2.1.1 rfl (fun r162a r162b => ?_)
            rw [hO2] at r162a r162b ⊢
            refine x_if_eq (pc := 165) (t := 172) dX4_behind_165 (by decide) ⟨by omega, by omega⟩ (fun c165 => ?_) (fun c165 => ?_)
            · refine x_iconst (pc := 172) dX4_behind_172 ?_
              refine x_iret (pc := 173) dX4_behind_173 rfl (by decide) (by decide) ?_
              first
              | (refine kE2 (k _ _ (Nat.le_refl _) (hS4.fr hF5 (by omega))) ?_
                 repeat (first | rfl | rw [if_pos (by omega)] | rw [if_neg (by omega)])
                 done)
              | (refine kE2 (k _ _ (Nat.le_refl _) hS4) ?_
                 repeat (first | rfl | rw [if_pos (by omega)] | rw [if_neg (by omega)])
                 refine congrArg (fun z => (Sum.inl (some (vI z)) : Res)) ?_
                 omega)
            · refine x_iconst (pc := 168) dX4_behind_168 ?_
              refine x_goto (pc := 169) (t := 173) dX4_behind_169 (by decide) ?_
              refine x_iret (pc := 173) dX4_behind_173 rfl (by decide) (by decide) ?_
              first
              | (refine kE2 (k _ _ (Nat.le_refl _) (hS4.fr hF5 (by omega))) ?_
                 repeat (first | rfl | rw [if_pos (by omega)] | rw [if_neg (by omega)])
                 done)
              | (refine kE2 (k _ _ (Nat.le_refl _) hS4) ?_
                 repeat (first | rfl | rw [if_pos (by omega)] | rw [if_neg (by omega)])
                 refine congrArg (fun z => (Sum.inl (some (vI z)) : Res)) ?_
                 omega)
          · refine x_throw0 (pc := 55) ct56 dX4_behind_55 dX4_behind_58 dX4_behind_59 dX4_behind_62 rfl (by decide) (Nat.le_of_ble_eq_true rfl) (Nat.le_of_ble_eq_true rfl) ?_
            intro n hn
            refine kE2 (k _ n hn Scr.rf) ?_
            rw [if_pos (by omega)]
        · refine x_throw0 (pc := 35) ct67 dX4_behind_35 dX4_behind_38 dX4_behind_39 dX4_behind_42 rfl (by decide) (Nat.le_of_ble_eq_true rfl) (Nat.le_of_ble_eq_true rfl) ?_
          have y0 := b1 c8
          intro n hn
          refine kE2 (k _ n hn Scr.rf) ?_
          first
          | (have y1 := b0 c23
             rw [if_neg (fun z => z y0), if_pos (fun z => y1 z.1)])
          | rw [if_neg (fun z => z y0), if_pos (by omega)]
  · refine x_throw0 (pc := 11) ct140 dX4_behind_11 dX4_behind_14 dX4_behind_15 dX4_behind_18 rfl (by decide) (Nat.le_of_ble_eq_true rfl) (Nat.le_of_ble_eq_true rfl) ?_
    have y0 := b0 c8
    intro n hn
    refine kE2 (k _ n hn Scr.rf) ?_
    rw [if_pos y0]
