/-! What the rows tell alike: the counts. -/
theorem hor_mul (a x : Int) (w : Nat → Int) (d : Nat) : ∀ k : Nat, hor x (fun i => a * w i) d k = a * hor x w d k
  | 0 => rfl
  | k + 1 => by
    show a * w (d - (k + 1)) + x * hor x (fun i => a * w i) d k = a * (w (d - (k + 1)) + x * hor x w d k)
    rw [hor_mul a x w d k]
    grind
theorem syn_mul (a x : Int) (d low : Nat) (w : Nat → Int) : syn x d low (fun i => a * w i) = fun i => a * syn x d low w i := by
  funext i
  unfold syn
  by_cases c : low ≤ i ∧ i ≤ d
  · rw [if_pos c, if_pos c, hor_mul]
  · rw [if_neg c, if_neg c]
theorem upS_mul {a : Int} (ha : 0 < a) (x : Int) (d : Nat) : ∀ (k low : Nat) (w : Nat → Int), upS x d k low (fun i => a * w i) = upS x d k low w
  | 0, _, _ => rfl
  | k + 1, low, w => by
    simp only [upS]
    rw [syn_mul, upS_mul ha x d k, sg_pm ha]
    by_cases c : syn x d low w low = 0
    · rw [if_neg (fun z => z (by show a * syn x d low w low = 0; rw [c, Int.mul_zero])), if_neg (fun z => z c)]
    · rw [if_pos (fun z => c ((Int.mul_eq_zero.mp z).resolve_left (by omega))), if_pos c]
theorem sgnUp_pp {f g : Nat → Int} (h : Pp f g) (d : Nat) (x : Int) (p : Nat) : sgnUp f d x p = sgnUp g d x p := by
  obtain ⟨a, b, ha, hb, e⟩ := h
  unfold sgnUp
  rw [← upS_mul ha x d, ← upS_mul hb x d (d + 1) 0 (fun i => g i * 2 ^ (p * (d - i)))]
  refine congrArg _ (funext fun i => ?_)
  have := e i
  have e1 : a * (f i * 2 ^ (p * (d - i))) = (a * f i) * 2 ^ (p * (d - i)) := by grind
  rw [e1, this]
  grind
theorem sgHor_pp {f g : Nat → Int} (h : Pp f g) (d k : Nat) (x : Int) (p : Nat) : sg (hor x (fun i => f i * 2 ^ (p * (d - i))) d k) = sg (hor x (fun i => g i * 2 ^ (p * (d - i))) d k) := by
  obtain ⟨a, b, ha, hb, e⟩ := h
  rw [← sg_pm ha, ← sg_pm hb (x := hor x (fun i => g i * 2 ^ (p * (d - i))) d k), ← hor_mul, ← hor_mul]
  refine congrArg sg (congrArg (fun w => hor x w d k) (funext fun i => ?_))
  have := e i
  have e1 : a * (f i * 2 ^ (p * (d - i))) = (a * f i) * 2 ^ (p * (d - i)) := by grind
  rw [e1, this]
  grind
theorem chU_cg {s t : Nat → Int} : ∀ n : Nat, (∀ i, i < n → s i = t i) → chU s n = chU t n
  | 0, _ => rfl
  | n + 1, h => by simp only [chU]; rw [chU_cg n (fun i hi => h i (by omega)), h n (by omega)]
theorem chZ_cg {s t : Nat → Int} : ∀ n : Nat, (∀ i, i < n → s i = t i) → chZ s n = chZ t n
  | 0, _ => rfl
  | n + 1, h => by simp only [chZ]; rw [chZ_cg n (fun i hi => h i (by omega)), h n (by omega)]
theorem Sim.cu {s t : RS} (h : Sim s t) (x : Int) (p : Nat) : cUp s x p = cUp t x p := by
  unfold cUp
  rw [← h.1, chU_cg (s := upG s x p) (t := upG t x p) s.1 (fun q hq => by
    unfold upG
    rw [(h.2 q hq).1]
    exact sgnUp_pp (h.2 q hq).2 _ _ _)]
theorem val_hor {f : Nat → Int} {d : Nat} (hd : d ≤ 4) (hz : Zd f d) (x : Int) : valF f x 5 = hor x (fun i => f i * 2 ^ (0 * (d - i))) d d := by
  have e : (fun i => f i * (2 : Int) ^ (0 * (d - i))) = f := funext fun i => by rw [Nat.zero_mul, Int.pow_zero, Int.mul_one]
  rw [e]
  rcases (show d = 0 ∨ d = 1 ∨ d = 2 ∨ d = 3 ∨ d = 4 by omega) with rfl | rfl | rfl | rfl | rfl
  · simp only [valF, hor, hz 1 (by omega), hz 2 (by omega), hz 3 (by omega), hz 4 (by omega)]
    grind
  · simp only [valF, hor, hz 2 (by omega), hz 3 (by omega), hz 4 (by omega)]
    grind
  · simp only [valF, hor, hz 3 (by omega), hz 4 (by omega)]
    grind
  · simp only [valF, hor, hz 4 (by omega)]
    grind
  · simp only [valF, hor]
    grind
/-- far out, a polynomial with small coefficients is not small -/
theorem far_big {P : Nat → Int} {d : Nat} (hP : ∀ i, -30 ≤ P i ∧ P i ≤ 30) (hd : P d ≠ 0) (z : Rat) (hz : z ≤ -31 ∨ 31 ≤ z) : Big 1 (hoR z P d d) := by
  have hR : ∀ i, i < d → -(30 : Rat) ≤ (P i : Rat) ∧ (P i : Rat) ≤ 30 := fun i _ => by
    have h1 := Rat.intCast_le_intCast.mpr (hP i).1
    have h2 := Rat.intCast_le_intCast.mpr (hP i).2
    exact ⟨h1, h2⟩
  rcases hz with h | h
  · have h1 := hoR_lo (z := z) hd hR (by decide) (by grind) d (Nat.le_refl _)
    have pm : (sg (P d) * if d % 2 = 1 then -1 else 1 : Int) = 1 ∨ (sg (P d) * if d % 2 = 1 then -1 else 1 : Int) = -1 := by
      have := sg_sq hd
      split <;> omega
    have e1 : ((1 : Int) : Rat) = 1 := rfl
    have e2 : ((-1 : Int) : Rat) = -1 := rfl
    rcases pm with c | c
    · rw [c, e1] at h1
      exact Or.inl (by grind)
    · rw [c, e2] at h1
      exact Or.inr (by grind)
  · have h1 := hoR_hi (z := z) hd hR (by decide) (by grind) d (Nat.le_refl _)
    have e1 : ((1 : Int) : Rat) = 1 := rfl
    have e2 : ((-1 : Int) : Rat) = -1 := rfl
    rcases sg_sq hd with c | c
    · rw [c, e1] at h1
      exact Or.inl (by grind)
    · rw [c, e2] at h1
      exact Or.inr (by grind)
theorem cast_pow2 (p : Nat) (x : Int) : (((x * 2 ^ p : Int)) : Rat) * ((2 : Rat) ^ p)⁻¹ = (x : Rat) := by
  have c0 : (0 : Rat) < 2 ^ p := Rat.pow_pos (by decide)
  have ci : (2 : Rat) ^ p * ((2 : Rat) ^ p)⁻¹ = 1 := Rat.mul_inv_cancel _ (by grind)
  rw [Rat.intCast_mul, Rat.intCast_pow]
  have e : ((2 : Int) : Rat) = 2 := rfl
  rw [e]
  generalize (2 : Rat) ^ p = c at *
  generalize c⁻¹ = r at *
  have : (x : Rat) * c * r = (x : Rat) * (c * r) := by grind
  rw [this, ci]
  grind
theorem ChR.mono {s : RS} {n : Nat} (h : ChR s n) {x y : Int} {p : Nat} (hxy : x ≤ y) : cUp s y p ≤ cUp s x p := by
  have h1 := (RV.up h.1 h.2.1 x p).1
  have h2 := (RV.up h.1 h.2.1 y p).1
  have c0 : (0 : Rat) < 2 ^ p := Rat.pow_pos (by decide)
  have i0 := Rat.inv_pos.mpr c0
  exact (h.both (Rat.mul_le_mul_of_nonneg_right (Rat.intCast_le_intCast.mpr hxy) (Rat.le_of_lt i0)) h1 h2).1
/-- at 31 and -31 it is as at the ends -/
theorem ends_31 {P : Nat → Int} {s : RS} {n : Nat} (h : ChR s n) (hP : ∀ i, -30 ≤ P i ∧ P i ≤ 30) (h0 : s.2.1 0 = P) (p : Nat) : endF s 0 = cUp s (-(31 * 2 ^ p)) p ∧ endF s 1 = cUp s (31 * 2 ^ p) p := by
  obtain ⟨R, R0, Rhi, Rlo⟩ := RV.ends h.1 h.2.1
  have l0 := h.2.1 0 (by omega)
  have far : ∀ z : Rat, z ≤ -31 ∨ 31 ≤ z → Big 1 (pR s 0 z) := fun z hz => by
    show Big 1 (hoR z (s.2.1 0) (s.2.2 0) (s.2.2 0))
    rw [h0] at l0 ⊢
    exact far_big hP l0 z hz
  have a1 := (RV.up h.1 h.2.1 (-(31 * 2 ^ p)) p).1
  have a2 := (RV.up h.1 h.2.1 (31 * 2 ^ p) p).1
  have e1 : (((-(31 * 2 ^ p) : Int)) : Rat) * ((2 : Rat) ^ p)⁻¹ = -31 := by
    have := cast_pow2 p (-31)
    rw [show (-(31 * 2 ^ p) : Int) = -31 * 2 ^ p by omega]
    rw [this]
    rfl
  have e2 : (((31 * 2 ^ p : Int)) : Rat) * ((2 : Rat) ^ p)⁻¹ = 31 := by
    rw [cast_pow2 p 31]
    rfl
  rw [e1] at a1
  rw [e2] at a2
  constructor
  · obtain ⟨K, K0, -, K2⟩ := hoR_bl (B := R + 40) (by grind) (s.2.1 0) (s.2.2 0) (s.2.2 0)
    have r0 := Rat.inv_pos.mpr (show 0 < 2 * (K + 1) by grind)
    have r1 : 2 * (K + 1) * (2 * (K + 1))⁻¹ = 1 := Rat.mul_inv_cancel _ (by grind)
    generalize (2 * (K + 1))⁻¹ = e at r0 r1
    have Ke : 0 ≤ K * e := Rat.mul_nonneg K0 (Rat.le_of_lt r0)
    have key := h.both (r := -(R + 31)) (r2 := -31) (by grind) (Rlo _ (by grind)) a1
    refine (key.2 ⟨1 / 2, e, by grind, r0, fun z z1 z2 => ?_⟩).symm
    by_cases c : z ≤ -31
    · exact (far z (Or.inl c)).mono (by grind)
    · have f31 := far (-31) (Or.inl Rat.le_refl)
      have L : -(K * (z - -31)) ≤ pR s 0 z - pR s 0 (-31) ∧ pR s 0 z - pR s 0 (-31) ≤ K * (z - -31) := K2 (-31) z (by grind) (by grind) (by grind)
      have L2 : K * (z - -31) ≤ K * e := Rat.mul_le_mul_of_nonneg_left (by grind) K0
      rcases f31 with f | f
      · exact Or.inl (by grind)
      · exact Or.inr (by grind)
  · have key := h.both (r := 31) (r2 := R + 31) (by grind) a2 (Rhi _ (by grind))
    exact (key.2 ⟨1, 1, by decide, by decide, fun z z1 _ => far z (Or.inr z1)⟩)
/-! Both searches. -/
theorem bel_spec {f : Int → Int} {i : Int} : ∀ (n : Nat) (lo hi : Int), lo < hi → hi - lo ≤ 2 ^ n → f lo ≤ i → i < f hi → f (belF f i n lo hi) ≤ i ∧ i < f (belF f i n lo hi + 1)
  | 0, lo, hi, h1, h2, h3, h4 => by
    have : hi = lo + 1 := by simp at h2; omega
    subst this
    exact ⟨h3, h4⟩
  | n + 1, lo, hi, h1, h2, h3, h4 => by
    have e : (hi - lo).tdiv 2 = (hi - lo) / 2 := Int.tdiv_eq_ediv_of_nonneg (by omega)
    have p2 : (2 : Int) ^ (n + 1) = 2 * 2 ^ n := by rw [Int.pow_succ]; omega
    simp only [belF]
    by_cases c : hi - lo ≤ 1
    · rw [if_pos c]
      have : hi = lo + 1 := by omega
      subst this
      exact ⟨h3, h4⟩
    · rw [if_neg c, e]
      by_cases d : f (lo + (hi - lo) / 2) ≤ i
      · rw [if_pos d]
        exact bel_spec n _ _ (by omega) (by omega) d h4
      · rw [if_neg d]
        exact bel_spec n _ _ (by omega) (by omega) h3 (by omega)
theorem near_spec {f : Int → Int} {i : Int} : ∀ (n : Nat) (lo hi : Int), lo < hi → hi - lo ≤ 2 ^ n → f lo ≤ i → i < f hi → f (nearL f i n lo hi) ≤ i ∧ i < f (nearL f i n lo hi + 1)
  | 0, lo, hi, h1, h2, h3, h4 => by
    have : hi = lo + 1 := by simp at h2; omega
    subst this
    exact ⟨h3, h4⟩
  | n + 1, lo, hi, h1, h2, h3, h4 => by
    have p2 : (2 : Int) ^ (n + 1) = 2 * 2 ^ n := by rw [Int.pow_succ]; omega
    simp only [nearL]
    by_cases c : hi - lo ≤ 1
    · rw [if_pos c]
      have : hi = lo + 1 := by omega
      subst this
      exact ⟨h3, h4⟩
    · rw [if_neg c]
      by_cases d : i < f ((lo + hi) / 2)
      · rw [if_pos d]
        exact near_spec n _ _ (by omega) (by omega) h3 d
      · rw [if_neg d]
        exact near_spec n _ _ (by omega) (by omega) (by omega) h4
theorem sea_uniq {f : Int → Int} {i r q : Int} (hm : ∀ x y, x ≤ y → f x ≤ f y) (h1 : f r ≤ i) (h2 : i < f (r + 1)) (h3 : f q ≤ i) (h4 : i < f (q + 1)) : r = q := by
  by_cases c : r < q
  · have := hm (r + 1) q (by omega)
    omega
  · by_cases d : q < r
    · have := hm (q + 1) r (by omega)
      omega
    · omega
