/-! Numbers of commands read. -/
theorem tokF_at {tx v : Nat → Int} {n e s e2 : Nat} {k nb : Int} (h8 : v 8 = (e : Nat)) (ht : tokAt tx n e = (k, s, e2, nb)) : (tokF tx n v 6 = k ∧ tokF tx n v 7 = (s : Nat) ∧ tokF tx n v 8 = (e2 : Nat) ∧ tokF tx n v 9 = nb) ∧ ∀ j, j ≠ 6 → j ≠ 7 → j ≠ 8 → j ≠ 9 → tokF tx n v j = v j := by
  unfold tokF
  rw [h8, Int.toNat_natCast, ht]
  refine ⟨⟨rfl, rfl, rfl, rfl⟩, fun j h1 h2 h3 h4 => ?_⟩
  unfold tset
  rw [if_neg h1, if_neg h2, if_neg h3, if_neg h4]
theorem numR_ok {tx v : Nat → Int} {n : Nat} {lo hi : Int} (h6 : v 6 = 2) (h9 : lo ≤ v 9 ∧ v 9 ≤ hi) : numRF tx n v lo hi = (1, tokF tx n (fup v 10 (v 9))) := by
  unfold numRF
  rw [if_neg (fun h => h h6), if_neg (by omega)]
theorem intR_pos {tx v : Nat → Int} {n : Nat} {lo hi : Int} (h6 : v 6 = 2) (h9 : lo ≤ v 9 ∧ v 9 ≤ hi) : intRF tx n v lo hi = (1, tokF tx n (fup v 10 (v 9))) := by
  have e : minF tx n v = v := if_neg (by omega)
  have t : toldF v v = v 9 := if_neg (by omega)
  unfold intRF
  rw [e, t, if_neg (fun h => h h6), if_neg (by omega)]
theorem intR_neg {tx v : Nat → Int} {n e s e2 : Nat} {lo hi nb : Int} (h6 : v 6 = 3) (h8 : v 8 = (e : Nat)) (ht : tokAt tx n e = (2, s, e2, nb)) (h9 : lo ≤ -nb ∧ -nb ≤ hi) : intRF tx n v lo hi = (1, tokF tx n (fup (tokF tx n v) 10 (-nb))) := by
  have e1 : minF tx n v = tokF tx n v := if_pos h6
  obtain ⟨⟨g6, g7, g8, g9⟩, -⟩ := tokF_at h8 ht
  have t : toldF v (tokF tx n v) = -nb := by
    unfold toldF
    rw [if_pos h6, g9]
  unfold intRF
  rw [e1, t, if_neg (fun h => h g6), if_neg (by omega)]
theorem semF_ok {tx v : Nat → Int} {n : Nat} (h6 : v 6 = 4) : semF tx n v = (1, tokF tx n v) := if_pos h6
