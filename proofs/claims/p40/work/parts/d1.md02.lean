/-! Numbers and words read. -/
theorem numF_neg {x : Int} (h : x < 0) : numF x = 45 :: numF (-x) := by
  unfold numF
  rw [if_pos h, if_neg (show ¬ -x < 0 by omega), Int.natAbs_neg]
  rfl
theorem kK_digit {x : Int} (h : 48 ≤ x ∧ x ≤ 57) : kK x = 2 := by
  unfold kK
  rw [if_neg (by omega), if_pos h]
theorem numF_pos {x : Int} (h : 0 ≤ x ∧ x ≤ 99) : (∃ y w, numF x = y :: w) ∧ (∀ y, y ∈ numF x → kK y = 2) ∧ numL 2 0 (numF x) = x := by
  unfold numF
  rw [if_neg (by omega)]
  by_cases c : 10 ≤ x.natAbs
  · rw [if_pos c]
    refine ⟨⟨_, _, rfl⟩, fun y hy => ?_, ?_⟩
    · have : y = 48 + ((x.natAbs / 10 : Nat) : Int) ∨ y = 48 + ((x.natAbs % 10 : Nat) : Int) := by simpa using hy
      exact kK_digit (by omega)
    · show numT 2 (numT 2 0 (48 + ((x.natAbs / 10 : Nat) : Int))) (48 + ((x.natAbs % 10 : Nat) : Int)) = x
      have e1 : numT 2 0 (48 + ((x.natAbs / 10 : Nat) : Int)) = ((x.natAbs / 10 : Nat) : Int) := by
        unfold numT
        rw [if_pos rfl, if_pos (by omega)]
        omega
      rw [e1]
      unfold numT
      rw [if_pos rfl, if_pos (by omega)]
      omega
  · rw [if_neg c]
    refine ⟨⟨_, _, rfl⟩, fun y hy => ?_, ?_⟩
    · have : y = 48 + ((x.natAbs % 10 : Nat) : Int) := by simpa using hy
      exact kK_digit (by omega)
    · show numT 2 0 (48 + ((x.natAbs % 10 : Nat) : Int)) = x
      unfold numT
      rw [if_pos rfl, if_pos (by omega)]
      omega
/-- a number is the next token, behind a blank or not -/
theorem Sfx.tokN {tx : Nat → Int} {n e s : Nat} {x : Int} {r : List Int} (hs : skipF tx n (n - e) e = s) (h : Sfx tx n s (numF x ++ r)) (hx : 0 ≤ x ∧ x ≤ 99) (hr : kH r ≠ 2) : tokAt tx n e = (2, s, s + (numF x).length, x) := by
  obtain ⟨⟨y, w, e1⟩, e2, e3⟩ := numF_pos hx
  rw [e1] at h e2
  have := Sfx.tokW hs h (Or.inr rfl) e2 hr
  rw [this, ← e1, e3]
theorem kH_num {x : Int} {r : List Int} (hx : -99 ≤ x ∧ x ≤ 99) : kH (numF x ++ r) = if x < 0 then 3 else 2 := by
  by_cases c : x < 0
  · rw [if_pos c, numF_neg c]
    rfl
  · obtain ⟨⟨y, w, e1⟩, e2, -⟩ := numF_pos (x := x) (by omega)
    rw [if_neg c, e1]
    exact e2 y (by rw [e1]; exact List.mem_cons_self ..)
