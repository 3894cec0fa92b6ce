/-! What both objects hold when they are new. -/
theorem vl_zeros {w : Nat → Int} (h : ∀ i, w i = 0) : ∀ n, vl w n = vl (fun _ => 0) n := fun n => by
  rw [show w = fun _ => 0 from funext h]
theorem bg_new {M : Mem} {d : Nat} (h : ∀ i, M (d + 7) i = 0) : Bg (fun _ => 0) M d := fun k _ => by
  refine ⟨by show M (d + 7) (32 * k + 0) = sg 0; rw [h]; decide, fun i _ => by show 0 ≤ M (d + 7) (32 * k + (i + 1)) ∧ M (d + 7) (32 * k + (i + 1)) < 1000000000; rw [h]; exact ⟨by decide, by decide⟩, ?_⟩
  rw [vl_zeros (fun i => h (32 * k + (i + 1)))]
  show vl (fun _ => 0) 31 = ab 0
  decide
theorem new_wf : WfT tNew := by
  refine ⟨by unfold WfS; decide, fun j => ⟨by show (-30 : Int) ≤ 0; decide, by show (0 : Int) ≤ 30; decide, fun _ => rfl⟩, by decide, fun j hj => absurd hj (Nat.not_lt_zero j), fun p => by show 0 ≤ 4; decide, fun p i _ hi => absurd hi (Nat.not_lt_zero i), Or.inl rfl, Or.inl rfl⟩
theorem new_inv : InvT tNew := by
  refine ⟨new_wf, fun _ => by decide, fun _ => rfl, fun h => absurd h.1 (Nat.not_lt_zero 0)⟩
