/-! What both objects hold when they are new. -/
theorem vl_zeros {w : Nat → Int} (h : ∀ i, w i = 0) : ∀ n, vl w n = vl (fun _ => 0) n := fun n => by
  rw [show w = fun _ => 0 from funext h]
theorem bg_new {M : Mem} {d : Nat} (h : ∀ i, M (d + 7) i = 0) : Bg (fun _ => 0) M d := fun k _ => by
  refine ⟨by show M (d + 7) (32 * k + 0) = sg 0; rw [h]; decide, fun i _ => by show 0 ≤ M (d + 7) (32 * k + (i + 1)) ∧ M (d + 7) (32 * k + (i + 1)) < 1000000000; rw [h]; exact ⟨by decide, by decide⟩, ?_⟩
  rw [vl_zeros (fun i => h (32 * k + (i + 1)))]
  show vl (fun _ => 0) 31 = ab 0
  decide
theorem new_wf : WfT tNew := by
  refine ⟨by unfold WfS; decide, fun j => ⟨by show (-30 : Int) ≤ 0; decide, by show (0 : Int) ≤ 30; decide, fun _ => rfl⟩, by decide, fun j hj => absurd hj (Nat.not_lt_zero j), fun p => by show 0 ≤ 4; decide, fun p i _ hi => absurd hi (Nat.not_lt_zero i), Or.inl rfl, Or.inl rfl⟩
theorem new_inv : InvT tNew := by
  refine ⟨new_wf, fun _ => by decide, fun _ => rfl, fun h => absurd h.1 (Nat.not_lt_zero 0)⟩
/-- nothing done yet -/
def Fresh (T : CT) : Prop := tN T = 0 ∧ tO T = 0 ∧ tB T = -1 ∧ ∀ p, tK T p = 0
theorem rSet_fresh {tx v : Nat → Int} {n i : Nat} {T : CT} (h : Fresh T) : Fresh (rSetF tx n v T i).2.2 := by
  unfold rSetF
  split
  · exact h
  · exact h
theorem rStart_fresh {tx v : Nat → Int} {n : Nat} {T : CT} (h : Fresh T) : Fresh (rStartF tx n v T).2.2 := by
  unfold rStartF
  split
  · exact h
  · split
    · exact h
    · split
      · exact h
      · exact h
theorem rStmt_fresh {tx v : Nat → Int} {n : Nat} {T : CT} (h : Fresh T) : Fresh (rStmtF tx n v T).2.2 := by
  unfold rStmtF
  split
  · exact rStart_fresh h
  · split
    · exact h
    · split
      · exact h
      · split
        · exact rSet_fresh h
        · split
          · exact rSet_fresh h
          · exact rSet_fresh (rSet_fresh h)
theorem loopS_fresh {tx : Nat → Int} {n : Nat} : ∀ (d : Nat) (v : Nat → Int) (T : CT), Fresh T → Fresh (loopS tx n d v T).2.2
  | 0, v, T, h => h
  | d + 1, v, T, h => by
    rw [loopS]
    split
    · exact h
    · split
      · exact rStmt_fresh h
      · split
        · exact rStmt_fresh h
        · exact loopS_fresh d _ _ (rStmt_fresh h)
theorem setup_inv {tx v : Nat → Int} {n : Nat} (hk : TkOK n (beginF tx n v)) : InvT (setupF tx n v tNew).2.2 := by
  have hw := setup_wf hk
  obtain ⟨f1, f2, f3, f4⟩ : Fresh (setupF tx n v tNew).2.2 := loopS_fresh 600 _ _ ⟨rfl, rfl, rfl, fun _ => rfl⟩
  refine ⟨hw, fun _ => ?_, fun _ => f3, fun h => ?_⟩
  · have := hw.1.2.2.1
    omega
  · have h1 := h.1
    rw [f4] at h1
    exact absurd h1 (by decide)
