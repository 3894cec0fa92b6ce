/-! What a script that was read well holds. -/
def CmdOK (P : Int) (cm : Nat → Int) (j : Nat) : Prop := (cm (6 * j) = 0 ∧ layab (cm (6 * j + 1)) ∧ 0 ≤ cm (6 * j + 2) ∧ cm (6 * j + 2) < P) ∨ (cm (6 * j) = 1 ∧ intvP (cm (6 * j + 1)) (cm (6 * j + 2)) ∧ (0 ≤ cm (6 * j + 3) ∧ cm (6 * j + 3) ≤ 4) ∧ (0 ≤ cm (6 * j + 4) ∧ cm (6 * j + 4) ≤ 1) ∧ (1 ≤ cm (6 * j + 5) ∧ cm (6 * j + 5) ≤ 9)) ∨ cm (6 * j) = 2
theorem kp_same {cm v : Nat → Int} {p : Nat} {x : Int} : kpF cm v p x (6 * (v 5).toNat + p) = x := fup_at
theorem kp_ne {cm v : Nat → Int} {p i : Nat} {x : Int} (h : ¬ i = 6 * (v 5).toNat + p) : kpF cm v p x i = cm i := fup_ne h
theorem rTerm_cm {tx : Nat → Int} {n : Nat} {v cm : Nat → Int} {P : Int} (h : (rTermF tx n v cm P).1 = 1) : ∃ X Y, layab X ∧ (0 ≤ Y ∧ Y < P) ∧ (rTermF tx n v cm P).2.2 = kpF (kpF cm v 1 X) v 2 Y := by
  unfold rTermF at *
  have hlo : (if v 6 = 3 then (-9 : Int) else 1) = -9 ∧ (if v 6 = 3 then (-1 : Int) else 9) = -1 ∨ (if v 6 = 3 then (-9 : Int) else 1) = 1 ∧ (if v 6 = 3 then (-1 : Int) else 9) = 9 := by
    by_cases e : v 6 = 3
    · rw [if_pos e, if_pos e]; exact Or.inl ⟨rfl, rfl⟩
    · rw [if_neg e, if_neg e]; exact Or.inr ⟨rfl, rfl⟩
  generalize (if v 6 = 3 then (-9 : Int) else 1) = lo at *
  generalize (if v 6 = 3 then (-1 : Int) else 9) = hi at *
  have hi1 := int_1 (tx := tx) (n := n) (v := v) (lo := lo) (hi := hi)
  generalize intRF tx n v lo hi = R at *
  have hn1 := num_1 (tx := tx) (n := n) (v := R.2) (lo := 0) (hi := P - 1)
  generalize numRF tx n R.2 0 (P - 1) = Q at *
  split at h
  · simp at h
  · next h1 =>
    rw [if_neg h1]
    split at h
    · simp at h
    · next h2 =>
      rw [if_neg h2]
      exact ⟨R.2 10, Q.2 10, by omega, by omega, rfl⟩
theorem rClaim_cm {tx : Nat → Int} {n : Nat} {v cm : Nat → Int} (h : (rClaimF tx n v cm).1 = 1) : ∃ l a b r s, (0 ≤ l ∧ l ≤ 1) ∧ intvP a b ∧ (0 ≤ r ∧ r ≤ 4) ∧ (1 ≤ s ∧ s ≤ 9) ∧ (rClaimF tx n v cm).2.2 = kpF (kpF (kpF (kpF (kpF cm v 4 l) v 1 a) v 2 b) v 3 r) v 5 s := by
  unfold rClaimF at *
  have hl : 0 ≤ (if isWordP tx v 10 then (1 : Int) else 0) ∧ (if isWordP tx v 10 then (1 : Int) else 0) ≤ 1 := b01
  generalize (if isWordP tx v 10 then (1 : Int) else 0) = l at *
  split at h
  · simp at h
  · next h0 =>
    rw [if_neg h0]
    unfold rCl0 at *
    have hi1 := int_1 (tx := tx) (n := n) (v := tokF tx n v) (lo := -20) (hi := 19)
    generalize intRF tx n (tokF tx n v) (-20) 19 = R at *
    split at h
    · simp at h
    · next h1 =>
      rw [if_neg h1]
      unfold rCl1 at *
      have hi2 := int_1 (tx := tx) (n := n) (v := R.2) (lo := R.2 10 + 1) (hi := 20)
      generalize intRF tx n R.2 (R.2 10 + 1) 20 = R2 at *
      split at h
      · simp at h
      · next h2 =>
        rw [if_neg h2]
        unfold rCl2 at *
        have hn1 := num_1 (tx := tx) (n := n) (v := R2.2) (lo := 0) (hi := 4)
        generalize numRF tx n R2.2 0 4 = Q at *
        split at h
        · simp at h
        · next h3 =>
          rw [if_neg h3]
          unfold rCl3 at *
          have hn2 := num_1 (tx := tx) (n := n) (v := Q.2) (lo := 1) (hi := 9)
          generalize numRF tx n Q.2 1 9 = Q2 at *
          split at h
          · simp at h
          · next h4 =>
            rw [if_neg h4]
            exact ⟨l, R.2 10, R2.2 10, Q.2 10, Q2.2 10, hl, by omega, by omega, by omega, rfl⟩
theorem rCmd_cm {tx : Nat → Int} {n : Nat} {v cm : Nat → Int} {P : Int} (h5 : 0 ≤ v 5) (h : (rCmdF tx n v cm P).1 = 1) : v 5 < 40 ∧ CmdOK P (rCmdF tx n v cm P).2.2 (v 5).toNat ∧ ∀ i, i < 6 * (v 5).toNat → (rCmdF tx n v cm P).2.2 i = cm i := by
  have t5 : tokF tx n v 5 = v 5 := tok_ne (by omega)
  have har := actWF_rng tx v
  unfold rCmdF at *
  split at h
  · simp at h
  · next h1 =>
    rw [if_neg h1]
    split at h
    · simp at h
    · next h2 =>
      rw [if_neg h2]
      refine ⟨by omega, ?_⟩
      split at h
      · next h3 =>
        rw [if_pos h3]
        obtain ⟨X, Y, a1, a2, a3⟩ := rTerm_cm h
        rw [a3]
        rw [kpF5 (p := 1) (v := tokF tx n v) (w := v) t5.symm, kpF5 (p := 2) (v := tokF tx n v) (w := v) t5.symm]
        refine ⟨Or.inl ⟨?_, ?_, ?_⟩, fun i hi => ?_⟩
        · rw [kp_ne (by omega), kp_ne (by omega), show 6 * (v 5).toNat = 6 * (v 5).toNat + 0 from rfl, kp_same]
          exact h3
        · rw [kp_ne (by omega), kp_same]
          exact a1
        · rw [kp_same]
          exact a2
        · rw [kp_ne (by omega), kp_ne (by omega), kp_ne (by omega)]
      · next h3 =>
        rw [if_neg h3]
        split at h
        · next h4 =>
          rw [if_pos h4]
          refine ⟨Or.inr (Or.inr ?_), fun i hi => ?_⟩
          · dsimp only
            rw [show 6 * (v 5).toNat = 6 * (v 5).toNat + 0 from rfl, kp_same]
            exact h4
          · dsimp only
            rw [kp_ne (by omega)]
        · next h4 =>
          rw [if_neg h4]
          obtain ⟨l, a, b, r, s, a1, a2, a3, a4, a5⟩ := rClaim_cm h
          rw [a5]
          rw [kpF5 (p := 4) (v := tokF tx n v) (w := v) t5.symm, kpF5 (p := 1) (v := tokF tx n v) (w := v) t5.symm, kpF5 (p := 2) (v := tokF tx n v) (w := v) t5.symm, kpF5 (p := 3) (v := tokF tx n v) (w := v) t5.symm, kpF5 (p := 5) (v := tokF tx n v) (w := v) t5.symm]
          refine ⟨Or.inr (Or.inl ⟨?_, ?_, ?_, ?_, ?_⟩), fun i hi => ?_⟩
          · rw [kp_ne (by omega), kp_ne (by omega), kp_ne (by omega), kp_ne (by omega), kp_ne (by omega), show 6 * (v 5).toNat = 6 * (v 5).toNat + 0 from rfl, kp_same]
            omega
          · rw [kp_ne (p := 5) (by omega), kp_ne (p := 3) (by omega), kp_ne (p := 2) (i := 6 * (v 5).toNat + 1) (by omega), kp_same, kp_ne (p := 5) (by omega), kp_ne (p := 3) (by omega), kp_same]
            exact a2
          · rw [kp_ne (p := 5) (by omega), kp_same]
            exact a3
          · rw [kp_ne (p := 5) (by omega), kp_ne (p := 3) (by omega), kp_ne (p := 2) (by omega), kp_ne (p := 1) (by omega), kp_same]
            exact a1
          · rw [kp_same]
            exact a4
          · rw [kp_ne (by omega), kp_ne (by omega), kp_ne (by omega), kp_ne (by omega), kp_ne (by omega), kp_ne (by omega)]
theorem CmdOK.up {P : Int} {cm cm2 : Nat → Int} {j q : Nat} (h : CmdOK P cm j) (hj : j < q) (he : ∀ i, i < 6 * q → cm2 i = cm i) : CmdOK P cm2 j := by
  unfold CmdOK at *
  rw [he _ (by omega), he _ (by omega), he _ (by omega), he _ (by omega), he _ (by omega), he _ (by omega)]
  exact h
theorem loopC_cm {tx : Nat → Int} {n : Nat} {P : Int} : ∀ (d : Nat) (v cm : Nat → Int), v 5 + d = 41 → 0 ≤ v 5 → v 5 ≤ 40 → (∀ j, j < (v 5).toNat → CmdOK P cm j) → (loopC tx n P d v cm).1 = 1 → (0 ≤ (loopC tx n P d v cm).2.1 5 ∧ (loopC tx n P d v cm).2.1 5 ≤ 40) ∧ ∀ j, j < ((loopC tx n P d v cm).2.1 5).toNat → CmdOK P (loopC tx n P d v cm).2.2 j
  | 0, v, cm, h5, h0, h40, hc, h => absurd h5 (by omega)
  | d + 1, v, cm, h5, h0, h40, hc, h => by
    simp only [loopC] at *
    split at h
    · next h1 =>
      rw [if_pos h1]
      exact ⟨⟨h0, h40⟩, hc⟩
    · next h1 =>
      rw [if_neg h1]
      split at h
      · simp at h
      · next h2 =>
        rw [if_neg h2]
        split at h
        · simp at h
        · next h3 =>
          rw [if_neg h3]
          have h2' : (rCmdF tx n v cm P).1 = 1 := by omega
          obtain ⟨c1, c2, c3⟩ := rCmd_cm h0 h2'
          have e5 : (semF tx n (rCmdF tx n v cm P).2.1).2 5 = v 5 := (sem_ne (by omega)).trans (by
            unfold rCmdF
            have t5 : tokF tx n v 5 = v 5 := tok_ne (by omega)
            split
            · exact fail_ne (x := 1) (j := 5) (by omega)
            · split
              · exact fail_ne (x := 5) (j := 5) (by omega)
              · split
                · unfold rTermF
                  generalize (if tokF tx n v 6 = 3 then (-9 : Int) else 1) = lo
                  generalize (if tokF tx n v 6 = 3 then (-1 : Int) else 9) = hi
                  split
                  · exact (int_ne (by omega)).trans t5
                  · split
                    · exact (num_ne (by omega)).trans ((int_ne (by omega)).trans t5)
                    · exact (num_ne (by omega)).trans ((int_ne (by omega)).trans t5)
                · split
                  · exact t5
                  · unfold rClaimF
                    split
                    · exact (fail_ne (x := 1) (j := 5) (by omega)).trans t5
                    · unfold rCl0
                      have t6 : tokF tx n (tokF tx n v) 5 = v 5 := (tok_ne (by omega)).trans t5
                      split
                      · exact (int_ne (by omega)).trans t6
                      · unfold rCl1
                        split
                        · exact (int_ne (by omega)).trans ((int_ne (by omega)).trans t6)
                        · unfold rCl2
                          split
                          · exact (num_ne (by omega)).trans ((int_ne (by omega)).trans ((int_ne (by omega)).trans t6))
                          · unfold rCl3
                            split
                            · exact (num_ne (by omega)).trans ((num_ne (by omega)).trans ((int_ne (by omega)).trans ((int_ne (by omega)).trans t6)))
                            · exact (num_ne (by omega)).trans ((num_ne (by omega)).trans ((int_ne (by omega)).trans ((int_ne (by omega)).trans t6))))
          refine loopC_cm d _ _ ?_ ?_ ?_ ?_ h
          · rw [fup_at]; omega
          · rw [fup_at]; omega
          · rw [fup_at]; omega
          · intro j hj
            rw [fup_at] at hj
            by_cases e : j = (v 5).toNat
            · rw [e]; exact c2
            · exact (hc j (by omega)).up (q := (v 5).toNat) (by omega) c3
theorem script_cm {tx : Nat → Int} {n : Nat} {P : Int} {v cm : Nat → Int} (h : (scriptF tx n P v cm).1 = 1) : (0 ≤ (scriptF tx n P v cm).2.1 5 ∧ (scriptF tx n P v cm).2.1 5 ≤ 40) ∧ ∀ j, j < ((scriptF tx n P v cm).2.1 5).toNat → CmdOK P (scriptF tx n P v cm).2.2 j := by
  have h0 : beginF tx n v 5 = 0 := begin5
  exact loopC_cm 41 _ _ (by rw [h0]; rfl) (by rw [h0]; decide) (by rw [h0]; decide) (fun j hj => by rw [h0] at hj; exact absurd hj (Nat.not_lt_zero _)) h

