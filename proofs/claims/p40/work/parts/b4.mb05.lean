/-! The second rule's changes: even and odd. -/
theorem hor_z {x : Int} {w : Nat → Int} {d : Nat} (hd : d ≤ 4) (hz : ∀ i, d < i → w i = 0) : ∀ k : Nat, k ≤ d → hor x w 4 (4 - d + k) = hor x w d k
  | 0, _ => by
    have z : ∀ j : Nat, j < 4 - d → hor x w 4 j = 0 := fun j => by
      induction j with
      | zero => intro hj; exact hz 4 (by omega)
      | succ j ih =>
        intro hj
        simp only [hor]
        rw [ih (by omega), hz (4 - (j + 1)) (by omega)]
        simp
    by_cases c : d = 4
    · subst c
      rfl
    · obtain ⟨j, hj⟩ : ∃ j, 4 - d = j + 1 := ⟨4 - d - 1, by omega⟩
      rw [Nat.add_zero, hj]
      simp only [hor]
      rw [z j (by omega), show 4 - (j + 1) = d by omega]
      simp
  | k + 1, hk => by
    show w (4 - (4 - d + k + 1)) + x * hor x w 4 (4 - d + k) = w (d - (k + 1)) + x * hor x w d k
    rw [hor_z hd hz k (by omega), show 4 - (4 - d + k + 1) = d - (k + 1) by omega]
theorem syn_z {x : Int} {w : Nat → Int} {d low : Nat} (hd : d ≤ 4) (hz : ∀ i, d < i → w i = 0) (hl : low ≤ d) : syn x 4 low w = syn x d low w := funext fun i => by
  unfold syn
  by_cases c : i ≤ d
  · by_cases c2 : low ≤ i
    · rw [if_pos ⟨c2, by omega⟩, if_pos ⟨c2, c⟩, ← hor_z hd hz (d - i) (by omega), show 4 - d + (d - i) = 4 - i by omega]
    · rw [if_neg (by omega), if_neg (by omega)]
  · rw [if_neg (show ¬ (low ≤ i ∧ i ≤ d) by omega)]
    by_cases c2 : i ≤ 4
    · rw [if_pos ⟨by omega, c2⟩, hz i (by omega)]
      have z : ∀ j : Nat, j < 4 - d → hor x w 4 j = 0 := fun j => by
        induction j with
        | zero => intro hj; exact hz 4 (by omega)
        | succ j ih =>
          intro hj
          simp only [hor]
          rw [ih (by omega), hz (4 - (j + 1)) (by omega)]
          simp
      exact z _ (by omega)
    · rw [if_neg (by omega)]
theorem upS_zz {x : Int} : ∀ (k low : Nat) (w : Nat → Int), (∀ i, low ≤ i → w i = 0) → upS x 4 k low w = 0
  | 0, _, _, _ => rfl
  | k + 1, low, w, h => by
    have hh : ∀ j : Nat, j ≤ 4 - low → low ≤ 4 → hor x w 4 j = 0 := fun j => by
      induction j with
      | zero => intro _ _; exact h 4 (by omega)
      | succ j ih =>
        intro hj hl
        simp only [hor]
        rw [ih (by omega) hl, h (4 - (j + 1)) (by omega)]
        simp
    have e : ∀ i, low ≤ i → syn x 4 low w i = 0 := fun i hi => by
      unfold syn
      by_cases c : i ≤ 4
      · rw [if_pos ⟨hi, c⟩]
        exact hh _ (by omega) (by omega)
      · rw [if_neg (by omega)]
        exact h i hi
    simp only [upS]
    rw [if_neg (fun q => q (e low (Nat.le_refl _)))]
    exact upS_zz k (low + 1) _ (fun i hi => e i (by omega))
theorem upS_4 {x : Int} {d : Nat} (hd : d ≤ 4) : ∀ (k low : Nat) (w : Nat → Int), k + low = d + 1 → (∀ i, d < i → w i = 0) → upS x 4 (k + (4 - d)) low w = upS x d k low w
  | 0, low, w, h, hz => by
    rw [upS_zz _ low w (fun i hi => hz i (by omega))]
    rfl
  | k + 1, low, w, h, hz => by
    rw [show k + 1 + (4 - d) = (k + (4 - d)) + 1 by omega]
    simp only [upS]
    rw [syn_z hd hz (by omega)]
    have hz2 : ∀ i, d < i → syn x d low w i = 0 := fun i hi => by
      unfold syn
      rw [if_neg (by omega)]
      exact hz i hi
    rw [upS_4 hd k (low + 1) (syn x d low w) (by omega) hz2]
theorem up_sh (P : Nat → Int) (x : Int) : upS x 4 5 0 P = if shP P x 0 ≠ 0 then sg (shP P x 0) else if shP P x 1 ≠ 0 then sg (shP P x 1) else if shP P x 2 ≠ 0 then sg (shP P x 2) else if shP P x 3 ≠ 0 then sg (shP P x 3) else if shP P x 4 ≠ 0 then sg (shP P x 4) else 0 := rfl
def fz (s : Nat → Int) : Nat → Int
  | 0 => 0
  | n + 1 => if fz s n ≠ 0 then fz s n else s n
theorem chZ_par {s : Nat → Int} (h : ∀ i, s i = 1 ∨ s i = -1 ∨ s i = 0) : ∀ n : Nat, (fz s n = 0 ∧ (chZ s n).2 = 0 ∧ (chZ s n).1 = 0) ∨ ((fz s n = 1 ∨ fz s n = -1) ∧ ((chZ s n).2 = 1 ∨ (chZ s n).2 = -1) ∧ (chZ s n).1 % 2 = if fz s n = (chZ s n).2 then 0 else 1)
  | 0 => Or.inl ⟨rfl, rfl, rfl⟩
  | n + 1 => by
    have ih := chZ_par h n
    have hn := h n
    have e : chZ s (n + 1) = if s n ≠ 0 then (if (chZ s n).2 = - s n then (chZ s n).1 + 1 else (chZ s n).1, s n) else chZ s n := rfl
    have f : fz s (n + 1) = if fz s n ≠ 0 then fz s n else s n := rfl
    rw [e, f]
    generalize chZ s n = q at *
    obtain ⟨q1, q2⟩ := q
    generalize fz s n = v at *
    generalize s n = y at *
    by_cases c : y = 0
    · rw [if_neg (show ¬ (y ≠ 0) from fun h => h c)]
      rcases ih with ⟨i1, i2, i3⟩ | ⟨i1, i2, i3⟩
      · left
        rw [if_neg (show ¬ (v ≠ 0) from fun h => h i1)]
        exact ⟨c, i2, i3⟩
      · right
        rw [if_pos (show v ≠ 0 by omega)]
        exact ⟨i1, i2, i3⟩
    · rw [if_pos (show y ≠ 0 from c)]
      right
      rcases ih with ⟨i1, i2, i3⟩ | ⟨i1, i2, i3⟩
      · rw [if_neg (show ¬ (v ≠ 0) from fun h => h i1)]
        have i2' : q2 = 0 := i2
        have i3' : q1 = 0 := i3
        refine ⟨by omega, by show y = 1 ∨ y = -1; omega, ?_⟩
        show (if q2 = -y then q1 + 1 else q1) % 2 = if y = y then 0 else 1
        rw [if_neg (show ¬ q2 = -y by omega), if_pos rfl, i3']
        rfl
      · rw [if_pos (show v ≠ 0 by omega)]
        have i2' : q2 = 1 ∨ q2 = -1 := i2
        have i3' : q1 % 2 = if v = q2 then 0 else 1 := i3
        refine ⟨i1, by show y = 1 ∨ y = -1; omega, ?_⟩
        show (if q2 = -y then q1 + 1 else q1) % 2 = if v = y then 0 else 1
        split at i3' <;> split <;> split <;> omega
theorem fz_up (P : Nat → Int) (x : Int) : fz (fun i => sg (shP P x i)) 5 = upS x 4 5 0 P := by
  rw [up_sh]
  simp only [fz]
  have h : ∀ y : Int, sg y = 0 ↔ y = 0 := fun y => by
    unfold sg
    split
    · omega
    · split <;> omega
  by_cases c0 : shP P x 0 = 0
  · by_cases c1 : shP P x 1 = 0
    · by_cases c2 : shP P x 2 = 0
      · by_cases c3 : shP P x 3 = 0
        · by_cases c4 : shP P x 4 = 0 <;> simp [c0, c1, c2, c3, c4, h, sg]
        · simp [c0, c1, c2, c3, h, sg]
          intro q
          omega
      · simp [c0, c1, c2, h]
    · simp [c0, c1, h]
  · simp [c0, h]
