/-! The turns written are played anew, if the text is read as it was written. -/
def SameC (cm cm2 : Nat → Int) (j : Nat) : Prop := cm2 (6 * j) = cm (6 * j) ∧ (cm (6 * j) = 0 → cm2 (6 * j + 1) = cm (6 * j + 1) ∧ cm2 (6 * j + 2) = cm (6 * j + 2)) ∧ (cm (6 * j) = 1 → cm2 (6 * j + 1) = cm (6 * j + 1) ∧ cm2 (6 * j + 2) = cm (6 * j + 2) ∧ cm2 (6 * j + 3) = cm (6 * j + 3) ∧ cm2 (6 * j + 4) = cm (6 * j + 4) ∧ cm2 (6 * j + 5) = cm (6 * j + 5))
theorem SameC.run {cm cm2 : Nat → Int} {j : Nat} (h : SameC cm cm2 j) (T : CT) : cmdR T cm2 j = cmdR T cm j ∧ cmdT T cm2 j = cmdT T cm j := by
  obtain ⟨h0, h1, h2⟩ := h
  unfold cmdR cmdT
  rw [h0]
  by_cases c0 : cm (6 * j) = 0
  · obtain ⟨a, b⟩ := h1 c0
    rw [if_pos c0, if_pos c0, if_pos c0, if_pos c0, a, b]
    exact ⟨rfl, rfl⟩
  · rw [if_neg c0, if_neg c0, if_neg c0, if_neg c0]
    by_cases c1 : cm (6 * j) = 1
    · obtain ⟨a, b, c, d, e⟩ := h2 c1
      rw [if_pos c1, if_pos c1, if_pos c1, if_pos c1, a, b, c, d, e]
      exact ⟨rfl, rfl⟩
    · rw [if_neg c1, if_neg c1, if_neg c1, if_neg c1]
      exact ⟨rfl, rfl⟩
/-- commands are read as they are written -/
def ScrOK : Prop := ∀ (P : Int) (cm cm0 : Nat → Int) (n : Nat) (tx v : Nat → Int), 2 ≤ P → P ≤ 5 → n ≤ 22 → (∀ j, j < n → CmdOK P cm j) → (∀ i, i < (ctxs cm n).length → tx i = (ctxs cm n).getD i 0) → (scriptF tx (ctxs cm n).length P v cm0).1 = 1 ∧ (scriptF tx (ctxs cm n).length P v cm0).2.1 5 = (n : Nat) ∧ ∀ j, j < n → SameC cm (scriptF tx (ctxs cm n).length P v cm0).2.2 j
theorem playOK_of (hs : ScrOK) : ∀ T0 T, WfT T0 → (∃ S2 P2, T0 = mkT S2 P2) → Hist T0 T 22 → PlayOK T0 T := by
  intro T0 T hW ⟨S, P, e0⟩ hH
  subst e0
  obtain ⟨cm, n, h1, h2, h3, ew, wl, wb⟩ := hist_text hW hH
  have hS := hW.1
  unfold WfS at hS
  have hS0 : 2 ≤ tS (mkT S P) 0 ∧ tS (mkT S P) 0 ≤ 5 := by omega
  refine ⟨⟨wl, wb⟩, fun tx v cm0 A u htx => ?_⟩
  rw [ew] at htx ⊢
  obtain ⟨g1, g2, g3⟩ := hs (tS (mkT S P) 0) cm cm0 n tx v hS0.1 hS0.2 h1 (fun j hj => (h2 j hj).1) htx
  rw [c59_cN _ _ (Nat.le_refl _), List.take_length, cN_ctxs hS0.2 n (fun j hj => (h2 j hj).1)]
  generalize scriptF tx (ctxs cm n).length (tS (mkT S P) 0) v cm0 = U at *
  have e : playF U (mkT S P) A u = loopP U.2.2 n 0 (runC cm (mkT S P) 0) A u := by
    unfold playF
    rw [if_neg (fun q => q g1), g2, Int.toNat_natCast]
    rfl
  have l := loop_run (cm := cm) (cm2 := U.2.2) (T0 := mkT S P) (n := n) (fun i hi => by
    obtain ⟨r1, r2⟩ := (g3 i hi).run (runC cm (mkT S P) i)
    rw [r1, r2]
    exact ⟨(h2 i hi).2, rfl⟩) n 0 A u (by omega)
  rw [e, h3]
  exact l
