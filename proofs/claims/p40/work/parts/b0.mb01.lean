/-! What the class tells of roots: counts that add up, nearer and nearer roots. -/
theorem topW_z {P : Nat → Int} : ∀ n : Nat, topW P n = 0 → ∀ i, i < n → P i = 0
  | 0, _, i, hi => absurd hi (Nat.not_lt_zero i)
  | n + 1, h, i, hi => by
    simp only [topW] at h
    split at h
    · omega
    · rename_i hn
      by_cases c : i = n
      · subst c
        exact Decidable.byContradiction hn
      · exact topW_z n h i (by omega)
theorem topW_95 {P : Nat → Int} (h : ∀ j, 5 ≤ j → P j = 0) : topW P 9 = topW P 5 := by
  simp only [topW]
  rw [if_neg (fun c => c (h 8 (by decide))), if_neg (fun c => c (h 7 (by decide))), if_neg (fun c => c (h 6 (by decide))), if_neg (fun c => c (h 5 (by decide)))]
theorem chZ_le (s : Nat → Int) : ∀ n : Nat, (chZ s n).1 + 1 ≤ n ∨ ((chZ s n).1 = 0 ∧ (chZ s n).2 = 0)
  | 0 => Or.inr ⟨rfl, rfl⟩
  | n + 1 => by
    have h := chZ_le s n
    simp only [chZ]
    split
    · rename_i hs
      split
      · rename_i h2
        rcases h with h | h
        · left
          show (chZ s n).1 + 1 + 1 ≤ ((n + 1 : Nat) : Int)
          omega
        · omega
      · left
        show (chZ s n).1 + 1 ≤ ((n + 1 : Nat) : Int)
        rcases h with h | h <;> omega
    · rcases h with h | h
      · left
        omega
      · exact Or.inr h
/-- what is known of the rows of a polynomial -/
def RowB (P : Nat → Int) (R : RS) : Prop := R.1 ≠ 0 ∧ (∀ x y : Int, ∀ p : Nat, x ≤ y → cUp R y p ≤ cUp R x p) ∧ (∀ x y : Int, ∀ p q : Nat, (x : Rat) * ((2 : Rat) ^ p)⁻¹ = (y : Rat) * ((2 : Rat) ^ q)⁻¹ → cUp R x p = cUp R y q) ∧ (∀ x : Int, ∀ p : Nat, cUp R x p ≤ degF P 5) ∧ (∀ p : Nat, cUp R (-(31 * 2 ^ p)) p = cUp R (-31) 0 ∧ cUp R (31 * 2 ^ p) p = cUp R 31 0)
theorem rowB {P : Nat → Int} (hP : WfP P) (ht : topW P 9 ≠ 0) : RowB P (buildF P) := by
  have hz := hP.zd
  have sim := sim_all hz (Pp.rf (f := P))
  obtain ⟨n, hC, -, r0, d0, hf⟩ := mRows_ch hz ht
  have hn : (buildF P).1 = n + 1 := sim.1.symm.trans hC.1
  have fall : ∀ i, i ≤ n → (mRows P).2.2 i + i ≤ (mRows P).2.2 0 := fun i => by
    induction i with
    | zero => intro _; omega
    | succ i ih =>
      intro hi
      have := ih (by omega)
      have := hf i (by omega)
      omega
  have dg : degF P 5 + 1 = topW P 9 := by
    rw [topW_95 (fun j hj => (hP j).2.2 hj)]
    exact degF_top P 5
  have eqs : ∀ x y : Int, ∀ p q : Nat, (x : Rat) * ((2 : Rat) ^ p)⁻¹ = (y : Rat) * ((2 : Rat) ^ q)⁻¹ → cUp (buildF P) x p = cUp (buildF P) y q := fun x y p q e => by
    have h1 := (RV.up hC.1 hC.2.1 x p).1
    have h2 := (RV.up hC.1 hC.2.1 y q).1
    rw [e] at h1
    have := h1.uniq h2
    rw [sim.cu, sim.cu] at this
    exact this
  have one : ∀ x : Int, (x : Rat) * ((2 : Rat) ^ 0)⁻¹ = (x : Rat) := fun x => by
    have := cast_pow2 0 x
    rw [show x * 2 ^ 0 = x by omega] at this
    exact this
  refine ⟨by omega, fun x y p h => ?_, eqs, fun x p => ?_, fun p => ⟨eqs _ _ _ _ ?_, eqs _ _ _ _ ?_⟩⟩
  · have := hC.mono (p := p) h
    rw [sim.cu, sim.cu] at this
    exact this
  · have h1 := (RV.up hC.1 hC.2.1 x p).2
    rw [sim.cu] at h1
    rw [← h1]
    have h2 := chZ_le (mSg (mRows P) x p 1) (mRows P).1
    have h3 := fall n (Nat.le_refl _)
    show (chZ (mSg (mRows P) x p 1) (mRows P).1).1 ≤ degF P 5
    rw [hC.1] at h2 ⊢
    omega
  · rw [one, show (-(31 * 2 ^ p) : Int) = -31 * 2 ^ p by omega]
    exact cast_pow2 p (-31)
  · rw [one]
    exact cast_pow2 p 31
theorem nz_top {T : CT} {pw : Nat} (hP : PwR T pw) (h : ¬ zerQ pw (tP T) (-1)) (hw : pw ≤ 5) : topW (tP T) 9 ≠ 0 := fun c => h (fun j hj _ => topW_z 9 c j (by omega))
theorem z_fun {T : CT} {pw : Nat} (hP : PwR T pw) (h : zerQ pw (tP T) (-1)) : tP T = fun _ => 0 := funext fun j => by
  by_cases c : j < pw
  · exact h j c (by omega)
  · exact hP.2 j (by omega)
theorem bz : (buildF (fun _ => 0)).1 = 0 := by decide +kernel
theorem rtZ {T : CT} {pw : Nat} (hP : PwR T pw) (h : zerQ pw (tP T) (-1)) : RtZ T := by
  have e := z_fun hP h
  unfold RtZ surF derCh
  rw [e]
  refine ⟨if_pos bz, if_pos bz, by decide +kernel, bz, if_pos bz, by decide +kernel, by rw [bz]; rfl, by decide +kernel⟩
