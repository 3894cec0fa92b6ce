/-! The class's numbers stay small: rows that have no common divisor. -/
theorem gcdW_mul (g : Nat) (r : Nat → Int) : ∀ n : Nat, gcdW (fun i => (g : Int) * r i) n = g * gcdW r n
  | 0 => rfl
  | n + 1 => by
    simp only [gcdW]
    rw [gcdW_mul g r n, Int.natAbs_mul, Int.natAbs_natCast, Nat.gcd_mul_left]
theorem gcdW_cg {w v : Nat → Int} : ∀ n : Nat, (∀ i, i < n → w i = v i) → gcdW w n = gcdW v n
  | 0, _ => rfl
  | n + 1, h => by
    simp only [gcdW]
    rw [gcdW_cg n (fun i hi => h i (by omega)), h n (by omega)]
theorem prim_one {w : Nat → Int} (h : topW w 5 ≠ 0) : gcdW (redF w) 5 = 1 := by
  have g0 : gcdW w 5 ≠ 0 := fun z => by
    rcases topW_sp w 5 with ⟨q, -⟩ | ⟨q1, q2, q3, -⟩
    · exact h q
    · have := gcdW_dvd w 5 (topW w 5 - 1) (by omega)
      rw [z] at this
      exact q3 (Int.zero_dvd.mp this)
  by_cases c : 1 < gcdW w 5
  · have e : ∀ i, i < 5 → ((gcdW w 5 : Nat) : Int) * redF w i = w i := fun i hi => by
      unfold redF
      rw [if_pos hi, if_pos c, Int.mul_tdiv_cancel' (gcdW_dvd w 5 i hi)]
    have e2 := gcdW_mul (gcdW w 5) (redF w) 5
    rw [gcdW_cg (w := fun i => ((gcdW w 5 : Nat) : Int) * redF w i) (v := w) 5 e] at e2
    generalize gcdW (redF w) 5 = x at *
    generalize gcdW w 5 = g at *
    have e3 : g * 1 = g * x := by omega
    exact (Nat.eq_of_mul_eq_mul_left (by omega) e3).symm
  · rw [gcdW_cg (w := redF w) (v := w) 5 (fun i hi => by unfold redF; rw [if_pos hi, if_neg c])]
    omega
theorem dvd_gcdW {D A : Nat} {r : Nat → Int} : ∀ n : Nat, (∀ i, i < n → D ∣ A * (r i).natAbs) → D ∣ A * gcdW r n
  | 0, _ => by simp only [gcdW]; exact ⟨0, rfl⟩
  | n + 1, h => by
    simp only [gcdW]
    rw [← Nat.gcd_mul_left]
    exact Nat.dvd_gcd (dvd_gcdW n (fun i hi => h i (by omega))) (h n (by omega))
theorem prim_le {w V : Nat → Int} {a b : Int} (hz : Zd w 4) (h : topW w 5 ≠ 0) (ha : a ≠ 0) (E : ∀ i, i < 5 → a * w i = b * V i) : ∀ i, i < 5 → (redF w i).natAbs ≤ (V i).natAbs := by
  intro i hi
  obtain ⟨c, d, hc, hd, e⟩ := redF_pp hz
  have e1 : ∀ i, i < 5 → (a * c) * redF w i = (d * b) * V i := fun i hi => by
    have := e i
    have e2 := E i hi
    have q1 : a * c * redF w i = a * (c * redF w i) := by grind
    rw [q1, this]
    have q2 : a * (d * w i) = d * (a * w i) := by grind
    rw [q2, e2]
    grind
  have e3 : ∀ i, i < 5 → (a * c).natAbs * (redF w i).natAbs = (d * b).natAbs * (V i).natAbs := fun i hi => by rw [← Int.natAbs_mul, ← Int.natAbs_mul, e1 i hi]
  have A0 : 0 < (a * c).natAbs := by
    have : a * c ≠ 0 := fun z => by rcases Int.mul_eq_zero.mp z with z | z <;> omega
    omega
  have dv := dvd_gcdW (D := (d * b).natAbs) (A := (a * c).natAbs) (r := redF w) 5 (fun i hi => ⟨_, e3 i hi⟩)
  rw [prim_one h, Nat.mul_one] at dv
  have le := Nat.le_of_dvd A0 dv
  have e4 := e3 i hi
  have := Nat.mul_le_mul_right (V i).natAbs le
  exact Nat.le_of_mul_le_mul_left (by omega) A0
theorem can_s {e w : Nat → Int} {low top : Nat} (he : e low ≠ 0) (hn : ¬ (low = 1 ∧ top = 1)) : ∃ s : Int, s * s = 1 ∧ ∀ (w : Nat → Int) (top : Nat), ¬ (low = 1 ∧ top = 1) → ∀ i, canF e low top w i = if i = top then 0 else (if i < top then w i * (s * e low) else w i) - (if top - low ≤ i ∧ i < top then s * w top * e (i - (top - low)) else 0) := by
  obtain ⟨s, h1, h2, h3, h4, h5⟩ := ab_s he
  refine ⟨s, by rcases h1 with rfl | rfl <;> rfl, fun w top hn i => ?_⟩
  unfold canF
  rw [if_neg hn, h2]
  by_cases c : 0 < e low
  · rw [h4 c, if_pos c, Int.one_mul, Int.one_mul]
  · rw [h5 c, if_neg c]
    have q : -1 * w top = -w top := by omega
    rw [q]
/-- row 2 of a polynomial of degree 4 -/
theorem quart2 {f e : Nat → Int} {c d : Int} (hd : 0 < d) (E : ∀ i : Nat, i < 4 → c * (((i : Int) + 1) * f (i + 1)) = d * e i) (he : e 3 ≠ 0) : ∀ i, i < 5 → d * d * divL e 3 2 4 f i = c * c * f 4 * (if i = 0 then 16 * f 4 * f 0 - f 3 * f 1 else if i = 1 then 12 * f 4 * f 1 - 2 * f 3 * f 2 else if i = 2 then 8 * f 4 * f 2 - 3 * f 3 * f 3 else 0) := by
  obtain ⟨s, ss, h⟩ := can_s (e := e) (w := f) (low := 3) (top := 4) he (by decide)
  have h1 := h f 4 (by decide)
  have h2 := h (canF e 3 4 f) 3 (by decide)
  have ed : divL e 3 2 4 f = canF e 3 3 (canF e 3 4 f) := rfl
  have E0 : d * e 0 = c * f 1 := by have := E 0 (by decide); rw [← this]; show c * ((0 + 1) * f 1) = c * f 1; grind
  have E1 : d * e 1 = 2 * c * f 2 := by have := E 1 (by decide); rw [← this]; show c * ((1 + 1) * f 2) = 2 * c * f 2; grind
  have E2 : d * e 2 = 3 * c * f 3 := by have := E 2 (by decide); rw [← this]; show c * ((2 + 1) * f 3) = 3 * c * f 3; grind
  have E3 : d * e 3 = 4 * c * f 4 := by have := E 3 (by decide); rw [← this]; show c * ((3 + 1) * f 4) = 4 * c * f 4; grind
  have w0 : canF e 3 4 f 0 = f 0 * (s * e 3) := by rw [h1 0]; simp
  have w1 : canF e 3 4 f 1 = f 1 * (s * e 3) - s * f 4 * e 0 := by rw [h1 1]; simp
  have w2 : canF e 3 4 f 2 = f 2 * (s * e 3) - s * f 4 * e 1 := by rw [h1 2]; simp
  have w3 : canF e 3 4 f 3 = f 3 * (s * e 3) - s * f 4 * e 2 := by rw [h1 3]; simp
  have w4 : canF e 3 4 f 4 = 0 := by rw [h1 4]; simp
  intro i hi
  rw [ed, h2 i]
  rcases (show i = 0 ∨ i = 1 ∨ i = 2 ∨ i = 3 ∨ i = 4 by omega) with rfl | rfl | rfl | rfl | rfl
  · simp only [w0, w3]
    simp
    have k : d * d * (f 0 * (s * e 3) * (s * e 3) - s * (f 3 * (s * e 3) - s * f 4 * e 2) * e 0) = s * s * (f 0 * (d * e 3) * (d * e 3) - (f 3 * (d * e 3) - s * s * f 4 * (d * e 2)) * (d * e 0)) + (1 - s * s) * (s * s * f 4 * (d * e 2) * (d * e 0)) := by grind
    rw [k, ss, E0, E2, E3]
    grind
  · simp only [w1, w3]
    simp
    have k : d * d * ((f 1 * (s * e 3) - s * f 4 * e 0) * (s * e 3) - s * (f 3 * (s * e 3) - s * f 4 * e 2) * e 1) = s * s * ((f 1 * (d * e 3) - f 4 * (d * e 0)) * (d * e 3) - (f 3 * (d * e 3) - f 4 * (d * e 2)) * (d * e 1)) := by grind
    rw [k, ss, E0, E1, E2, E3]
    grind
  · simp only [w2, w3]
    simp
    have k : d * d * ((f 2 * (s * e 3) - s * f 4 * e 1) * (s * e 3) - s * (f 3 * (s * e 3) - s * f 4 * e 2) * e 2) = s * s * ((f 2 * (d * e 3) - f 4 * (d * e 1)) * (d * e 3) - (f 3 * (d * e 3) - f 4 * (d * e 2)) * (d * e 2)) := by grind
    rw [k, ss, E1, E2, E3]
    grind
  · simp
  · simp only [w4]
    simp
/-- row 3 of a polynomial of degree 4, if row 2 has degree 2 -/
theorem quart3 {e q : Nat → Int} (hq : q 2 ≠ 0) : divL q 2 2 3 e 0 = e 0 * (q 2 * q 2) - (e 2 * (q 2 * q 0) - e 3 * (q 1 * q 0)) ∧ divL q 2 2 3 e 1 = e 1 * (q 2 * q 2) - e 3 * (q 0 * q 2) - (e 2 * (q 2 * q 1) - e 3 * (q 1 * q 1)) := by
  obtain ⟨s, ss, h⟩ := can_s (e := q) (w := e) (low := 2) (top := 3) hq (by decide)
  have h1 := h e 3 (by decide)
  have h2 := h (canF q 2 3 e) 2 (by decide)
  have ed : divL q 2 2 3 e = canF q 2 2 (canF q 2 3 e) := rfl
  have w0 : canF q 2 3 e 0 = e 0 * (s * q 2) := by rw [h1 0]; simp
  have w1 : canF q 2 3 e 1 = e 1 * (s * q 2) - s * e 3 * q 0 := by rw [h1 1]; simp
  have w2 : canF q 2 3 e 2 = e 2 * (s * q 2) - s * e 3 * q 1 := by rw [h1 2]; simp
  rw [ed, h2 0, h2 1]
  simp only [w0, w1, w2]
  simp
  constructor
  · have k : e 0 * (s * q 2) * (s * q 2) - s * (e 2 * (s * q 2) - s * e 3 * q 1) * q 0 = s * s * (e 0 * (q 2 * q 2) - (e 2 * (q 2 * q 0) - e 3 * (q 1 * q 0))) := by grind
    rw [k, ss, Int.one_mul]
  · have k : (e 1 * (s * q 2) - s * e 3 * q 0) * (s * q 2) - s * (e 2 * (s * q 2) - s * e 3 * q 1) * q 1 = s * s * (e 1 * (q 2 * q 2) - e 3 * (q 0 * q 2) - (e 2 * (q 2 * q 1) - e 3 * (q 1 * q 1))) := by grind
    rw [k, ss, Int.one_mul]
