/-! A contest as a value; specs of the contest's reads. -/
/-- settings, coefficients, turns that ended, what was laid and on which power, how many claims, the claims, over, who has the bonus -/
abbrev CT : Type := (Nat → Int) × (Nat → Int) × Nat × (Nat → Int) × (Nat → Int) × (Nat → Nat) × (Nat → Nat → Nat → Int) × Int × Int
abbrev tS (T : CT) : Nat → Int := T.1
abbrev tP (T : CT) : Nat → Int := T.2.1
abbrev tN (T : CT) : Nat := T.2.2.1
abbrev tC (T : CT) : Nat → Int := T.2.2.2.1
abbrev tQ (T : CT) : Nat → Int := T.2.2.2.2.1
abbrev tK (T : CT) : Nat → Nat := T.2.2.2.2.2.1
abbrev tL (T : CT) : Nat → Nat → Nat → Int := T.2.2.2.2.2.2.1
abbrev tO (T : CT) : Int := T.2.2.2.2.2.2.2.1
abbrev tB (T : CT) : Int := T.2.2.2.2.2.2.2.2
/-- the contest at c holds T -/
def Ct (T : CT) (M : Mem) (c : Nat) : Prop :=
  (∀ j, j < 7 → M (c + 1) j = tS T j) ∧ (∀ j, j < 5 → M (c + 2) j = tP T j) ∧ M c 6 = tN T ∧ (∀ j, j < tN T → M (c + 3) j = tC T j ∧ M (c + 4) j = tQ T j) ∧ (∀ p, p < 2 → M (c + 6) p = tK T p) ∧ (∀ p i f, p < 2 → i < tK T p → f < 6 → M (c + 5) (24 * p + 6 * i + f) = tL T p i f) ∧ M c 7 = tO T ∧ M c 8 = tB T
def WfS (S : Nat → Int) : Prop := (2 ≤ S 0 ∧ S 0 ≤ 5) ∧ (0 ≤ S 1 ∧ S 1 ≤ 9) ∧ (1 ≤ S 2 ∧ S 2 ≤ 60) ∧ (1 ≤ S 3 ∧ S 3 ≤ 20) ∧ (0 ≤ S 4 ∧ S 4 ≤ 4) ∧ (0 ≤ S 5 ∧ S 5 ≤ 20) ∧ (1 ≤ S 6 ∧ S 6 ≤ 40)
def WfP (P : Nat → Int) : Prop := ∀ j, -30 ≤ P j ∧ P j ≤ 30 ∧ (5 ≤ j → P j = 0)
def WfL (n : Nat) (l : Nat → Int) : Prop := -20 ≤ l 0 ∧ l 0 < l 1 ∧ l 1 ≤ 20 ∧ 0 ≤ l 2 ∧ l 2 ≤ 4 ∧ 0 ≤ l 3 ∧ l 3 ≤ 1 ∧ 1 ≤ l 4 ∧ l 4 ≤ 9 ∧ 0 ≤ l 5 ∧ l 5 ≤ n
def WfT (T : CT) : Prop := WfS (tS T) ∧ WfP (tP T) ∧ (tN T : Int) ≤ tS T 2 ∧ (∀ j, j < tN T → -9 ≤ tC T j ∧ tC T j ≤ 9 ∧ 0 ≤ tQ T j ∧ tQ T j < tS T 0) ∧ (∀ p, tK T p ≤ 4) ∧ (∀ p i, p < 2 → i < tK T p → WfL (tN T) (tL T p i)) ∧ (tO T = 0 ∨ tO T = 1) ∧ (tB T = -1 ∨ tB T = 0 ∨ tB T = 1)
theorem WfT.n60 {T : CT} (h : WfT T) : tN T ≤ 60 := by
  obtain ⟨⟨-, -, ⟨-, h1⟩, -⟩, -, h2, -⟩ := h
  omega
/-- the latest turn before n with a term on the power p -/
def lastT (mc mp : Nat → Int) (p : Int) : Nat → Int
  | 0 => -1
  | n + 1 => if mc n ≠ 0 ∧ mp n = p then n else lastT mc mp p n

set_option maxRecDepth 100000 in
theorem sp_X0_lastTurnOn {g : GG} {lay : Lay} {M : Mem} {K : KK} {c : Nat} {p : Int} {T : CT} (hC : CtL lay c) (hT : Ct T M c) (hW : WfT T) (hp : i32 p) (k : K (.inl (some (vI (lastT (tC T) (tQ T) p (tN T))))) lay M) : X g m_X0_lastTurnOn 0 0 lay M 0 [(0, vR c), (1, vI p)] [] K := by
  obtain ⟨hp1, hp2⟩ := hp
  have hn := hW.n60
  obtain ⟨-, -, hN, hm, -⟩ := hT
  have loop : ∀ (j : Nat), j ≤ tN T → lastT (tC T) (tQ T) p j = lastT (tC T) (tQ T) p (tN T) → X g m_X0_lastTurnOn 0 0 lay M 12 [(2, vI ((j : Int) - 1)), (0, vR c), (1, vI p)] [] K := by
    intro j
    induction j with
    | zero =>
      intro hj he
      refine x_iload_n (pc := 12) dX0_lastTurnOn_12 rfl rfl ?_
      refine x_if_lt (pc := 13) (t := 43) dX0_lastTurnOn_13 (by decide) ⟨by omega, by omega⟩ (fun c13 => ?_) (fun c13 => ?_)
      · refine x_iconst (pc := 43) dX0_lastTurnOn_43 ?_
        refine x_iret (pc := 44) dX0_lastTurnOn_44 rfl (by decide) (by decide) ?_
        simp only [lastT] at he
        rw [he]
        exact k
      · exfalso; omega
    | succ j ih =>
      intro hj he
      have e1 : (((j + 1 : Nat) : Int) - 1).toNat = j := by omega
      simp only [lastT] at he
      refine x_iload_n (pc := 12) dX0_lastTurnOn_12 rfl rfl ?_
      refine x_if_lt (pc := 13) (t := 43) dX0_lastTurnOn_13 (by decide) ⟨by omega, by omega⟩ (fun c13 => ?_) (fun c13 => ?_)
      · exfalso; omega
      · refine x_aload_n (pc := 16) dX0_lastTurnOn_16 rfl rfl ?_
        refine x_getr (pc := 17) (b := c + 3) fX0_18 dX0_lastTurnOn_17 hC.1 rfl rfl ?_
        refine x_iload_n (pc := 20) dX0_lastTurnOn_20 rfl rfl ?_
        refine x_iald (pc := 21) dX0_lastTurnOn_21 hC.2.2.2.1 (by omega) (by omega) (fun r21a r21b => ?_)
        refine x_if_eq (pc := 22) (t := 37) dX0_lastTurnOn_22 (by decide) ⟨by omega, by omega⟩ (fun c22 => ?_) (fun c22 => ?_)
        · refine x_iinc (pc := 37) dX0_lastTurnOn_37 rfl (by decide) (L' := [(2, _), (0, _), (1, _)]) rfl ?_
          refine x_goto (pc := 40) (t := 12) dX0_lastTurnOn_40 (by decide) ?_
          refine X.loc [0, 1, 2] (L' := [(2, _), (0, _), (1, _)]) rfl ?_
          rw [show (((j + 1 : Nat) : Int) - 1 + -1) = (j : Int) - 1 by omega]
          refine ih (by omega) ?_
          rw [if_neg] at he
          · exact he
          · rintro ⟨q1, q2⟩
            first
            | (rw [e1, (hm j (by omega)).1] at c22; exact q1 c22)
            | (rw [e1, (hm j (by omega)).2] at c32; exact c32 q2)
        · refine x_aload_n (pc := 25) dX0_lastTurnOn_25 rfl rfl ?_
          refine x_getr (pc := 26) (b := c + 4) fX0_21 dX0_lastTurnOn_26 hC.1 rfl rfl ?_
          refine x_iload_n (pc := 29) dX0_lastTurnOn_29 rfl rfl ?_
          refine x_iald (pc := 30) dX0_lastTurnOn_30 hC.2.2.2.2.1 (by omega) (by omega) (fun r30a r30b => ?_)
          refine x_iload_n (pc := 31) dX0_lastTurnOn_31 rfl rfl ?_
          refine x_icmp_ne (pc := 32) (t := 37) dX0_lastTurnOn_32 (by decide) ⟨by omega, by omega⟩ ⟨by omega, by omega⟩ (fun c32 => ?_) (fun c32 => ?_)
          · refine x_iinc (pc := 37) dX0_lastTurnOn_37 rfl (by decide) (L' := [(2, _), (0, _), (1, _)]) rfl ?_
            refine x_goto (pc := 40) (t := 12) dX0_lastTurnOn_40 (by decide) ?_
            refine X.loc [0, 1, 2] (L' := [(2, _), (0, _), (1, _)]) rfl ?_
            rw [show (((j + 1 : Nat) : Int) - 1 + -1) = (j : Int) - 1 by omega]
            refine ih (by omega) ?_
            rw [if_neg] at he
            · exact he
            · rintro ⟨q1, q2⟩
              first
              | (rw [e1, (hm j (by omega)).1] at c22; exact q1 c22)
              | (rw [e1, (hm j (by omega)).2] at c32; exact c32 q2)
          · refine x_iload_n (pc := 35) dX0_lastTurnOn_35 rfl rfl ?_
            refine x_iret (pc := 36) dX0_lastTurnOn_36 rfl (by decide) (by decide) ?_
            rw [e1, (hm j (by omega)).1] at c22
            rw [e1, (hm j (by omega)).2] at c32
            rw [if_pos ⟨c22, c32⟩] at he
            rw [show (((j + 1 : Nat) : Int) - 1) = (j : Int) by omega, he]
            exact k
  refine x_aload_n (pc := 0) dX0_lastTurnOn_0 rfl rfl ?_
  refine x_geti (pc := 1) fX0_42 dX0_lastTurnOn_1 hC.1 rfl (fun r1a r1b => ?_)
  refine x_bipush (pc := 4) dX0_lastTurnOn_4 (by decide) ?_
  refine x_mmin (pc := 6) kmX0_53 dX0_lastTurnOn_6 ⟨by omega, by omega⟩ ⟨by omega, by omega⟩ (Nat.le_of_ble_eq_true rfl) (by decide) (by decide) (by decide) ?_
  refine x_iconst (pc := 9) dX0_lastTurnOn_9 ?_
  refine x_isub (pc := 10) dX0_lastTurnOn_10 ?_
  refine x_istore_n (pc := 11) dX0_lastTurnOn_11 rfl (by decide) (L' := [(2, _), (0, _), (1, _)]) rfl ?_
  refine X.loc [0, 1, 2] (L' := [(2, _), (0, _), (1, _)]) rfl ?_
  rw [show (if (60 : Int) < M c 6 then (60 : Int) else M c 6) - 1 = (tN T : Int) - 1 by rw [hN]; split <;> omega]
  exact loop (tN T) (Nat.le_refl _) rfl
