/-! Rows as functions of rational numbers. -/
def hoR (y : Rat) (w : Nat → Int) (d : Nat) : Nat → Rat
  | 0 => (w d : Rat)
  | k + 1 => (w (d - (k + 1)) : Rat) + y * hoR y w d k
theorem hoR_int (x : Int) (w : Nat → Int) (d : Nat) : ∀ k : Nat, hoR (x : Rat) w d k = ((hor x w d k : Int) : Rat)
  | 0 => rfl
  | k + 1 => by
    show (w (d - (k + 1)) : Rat) + (x : Rat) * hoR (x : Rat) w d k = ((w (d - (k + 1)) + x * hor x w d k : Int) : Rat)
    rw [hoR_int x w d k, Rat.intCast_add, Rat.intCast_mul]
theorem hoR_cong {y : Rat} {w w2 : Nat → Int} {d : Nat} : ∀ k : Nat, (∀ i, d - k ≤ i → i ≤ d → w i = w2 i) → hoR y w d k = hoR y w2 d k
  | 0, h => by simp only [hoR]; rw [h d (by omega) (Nat.le_refl _)]
  | k + 1, h => by
    simp only [hoR]
    rw [h (d - (k + 1)) (Nat.le_refl _) (by omega), hoR_cong k (fun i a b => h i (by omega) b)]
theorem hoR_split (x : Int) (y : Rat) (w : Nat → Int) (d : Nat) : ∀ k : Nat, k + 1 ≤ d → hoR y w d (k + 1) = ((hor x w d (k + 1) : Int) : Rat) + (y - x) * hoR y (fun i => hor x w d (d - i)) d k
  | 0, hk => by
    simp only [hoR, hor, Nat.sub_self]
    rw [Rat.intCast_add, Rat.intCast_mul]
    grind
  | k + 1, hk => by
    have ih := hoR_split x y w d k (by omega)
    have e1 : hoR y w d (k + 1 + 1) = (w (d - (k + 1 + 1)) : Rat) + y * hoR y w d (k + 1) := rfl
    have e2 : hoR y (fun i => hor x w d (d - i)) d (k + 1) = ((hor x w d (d - (d - (k + 1))) : Int) : Rat) + y * hoR y (fun i => hor x w d (d - i)) d k := rfl
    have e3 : hor x w d (k + 1 + 1) = w (d - (k + 1 + 1)) + x * hor x w d (k + 1) := rfl
    rw [e1, e2, e3, ih, show d - (d - (k + 1)) = k + 1 by omega, Rat.intCast_add, Rat.intCast_mul]
    grind
theorem hoR_syn (x : Int) (y : Rat) (w : Nat → Int) {d low : Nat} (h : low < d) : hoR y w d (d - low) = ((syn x d low w low : Int) : Rat) + (y - x) * hoR y (syn x d low w) d (d - (low + 1)) := by
  have h1 := hoR_split x y w d (d - (low + 1)) (by omega)
  rw [show d - (low + 1) + 1 = d - low by omega] at h1
  rw [h1, show syn x d low w low = hor x w d (d - low) from if_pos ⟨Nat.le_refl _, by omega⟩]
  rw [hoR_cong (w := syn x d low w) (w2 := fun i => hor x w d (d - i)) (d - (low + 1)) (fun i a b => if_pos ⟨by omega, b⟩)]
theorem hoR_bl {B : Rat} (hB : 0 ≤ B) (w : Nat → Int) (d : Nat) : ∀ k : Nat, BL B (fun y => hoR y w d k)
  | 0 => BL.const _
  | k + 1 => BL.add (BL.const _) (BL.mul (BL.idf hB) (hoR_bl hB w d k))
theorem sg_cast {v : Int} (h : v ≠ 0) : 1 ≤ ((sg v : Int) : Rat) * (v : Rat) := by
  rw [← Rat.intCast_mul]
  have : (1 : Int) ≤ sg v * v := by unfold sg; split <;> (try split) <;> omega
  exact Rat.intCast_le_intCast.mpr this
theorem sg_sq {v : Int} (h : v ≠ 0) : sg v = 1 ∨ sg v = -1 := by unfold sg; split <;> (try split) <;> omega
/-- the sign just to the right of a place -/
theorem up_right (x : Int) (d : Nat) : ∀ (k low : Nat) (w : Nat → Int), low + k = d → (upS x d (k + 1) low w = 0 → ∀ y : Rat, hoR y w d (d - low) = 0) ∧ (upS x d (k + 1) low w ≠ 0 → ∃ t0 : Rat, 0 < t0 ∧ ∀ t : Rat, 0 < t → t < t0 → 0 < ((upS x d (k + 1) low w : Int) : Rat) * hoR ((x : Rat) + t) w d (d - low))
  | 0, low, w, e => by
    have e1 : syn x d low w low = w d := by
      rw [show syn x d low w low = hor x w d (d - low) from if_pos ⟨Nat.le_refl _, by omega⟩, show d - low = 0 by omega]
      rfl
    have e2 : upS x d 1 low w = if w d ≠ 0 then sg (w d) else 0 := by
      show (if syn x d low w low ≠ 0 then sg (syn x d low w low) else upS x d 0 (low + 1) (syn x d low w)) = _
      rw [e1]
      rfl
    rw [show d - low = 0 by omega]
    rw [show 0 + 1 = 1 from rfl, e2]
    by_cases c : w d = 0
    · refine ⟨fun _ y => ?_, fun z => ?_⟩
      · show ((w d : Int) : Rat) = 0
        rw [c]
        rfl
      · rw [if_neg (fun y => y c)] at z
        exact absurd rfl z
    · refine ⟨fun z => ?_, fun _ => ⟨1, by decide, fun t _ _ => ?_⟩⟩
      · rw [if_pos c] at z
        have := sg_sq c
        omega
      · rw [if_pos c]
        show 0 < ((sg (w d) : Int) : Rat) * ((w d : Int) : Rat)
        have := sg_cast c
        grind
  | k + 1, low, w, e => by
    have hs := fun y => hoR_syn x y w (show low < d by omega)
    have ih := up_right x d k (low + 1) (syn x d low w) (by omega)
    have e2 : upS x d (k + 1 + 1) low w = if syn x d low w low ≠ 0 then sg (syn x d low w low) else upS x d (k + 1) (low + 1) (syn x d low w) := rfl
    rw [e2]
    by_cases c : syn x d low w low = 0
    · rw [if_neg (fun z => z c)]
      refine ⟨fun z y => ?_, fun z => ?_⟩
      · rw [hs y, c, ih.1 z y]
        have : ((0 : Int) : Rat) = 0 := rfl
        grind
      · obtain ⟨t0, h0, h1⟩ := ih.2 z
        refine ⟨t0, h0, fun t ht1 ht2 => ?_⟩
        have h2 := h1 t ht1 ht2
        have h3 := Rat.mul_pos ht1 h2
        rw [hs, c]
        have : ((0 : Int) : Rat) = 0 := rfl
        rw [this]
        have e9 : (x : Rat) + t - x = t := by grind
        rw [e9]
        generalize hoR ((x : Rat) + t) (syn x d low w) d (d - (low + 1)) = r at *
        generalize ((upS x d (k + 1) (low + 1) (syn x d low w) : Int) : Rat) = u at *
        grind
    · rw [if_pos c]
      refine ⟨fun z => absurd z (by have := sg_sq c; omega), fun _ => ?_⟩
      obtain ⟨X, X0, X1, X2⟩ := rq_abs (x : Rat)
      obtain ⟨K, K0, K1, -⟩ := hoR_bl (B := X + 1) (by grind) (syn x d low w) d (d - (low + 1))
      have r0 := Rat.inv_pos.mpr (show 0 < K + 1 by grind)
      have r1 : (K + 1) * (K + 1)⁻¹ = 1 := Rat.mul_inv_cancel _ (by grind)
      generalize (K + 1)⁻¹ = r at r0 r1
      have rK : 0 ≤ K * r := Rat.mul_nonneg K0 (Rat.le_of_lt r0)
      refine ⟨r, r0, fun t ht1 ht2 => ?_⟩
      have hb : -K ≤ hoR ((x : Rat) + t) (syn x d low w) d (d - (low + 1)) ∧ hoR ((x : Rat) + t) (syn x d low w) d (d - (low + 1)) ≤ K := K1 ((x : Rat) + t) (by grind) (by grind)
      rw [hs]
      have e9 : (x : Rat) + t - x = t := by grind
      rw [e9]
      have sc := sg_cast c
      generalize hoR ((x : Rat) + t) (syn x d low w) d (d - (low + 1)) = q at *
      have tq := rq_mul (a := t) (b := q) (A := r) (B := K) (by grind) (by grind) hb.1 hb.2
      rcases sg_sq c with s1 | s1
      · rw [s1] at sc ⊢
        have : ((1 : Int) : Rat) = 1 := rfl
        rw [this] at sc ⊢
        grind
      · rw [s1] at sc ⊢
        have : ((-1 : Int) : Rat) = -1 := rfl
        rw [this] at sc ⊢
        grind
/-- scaled -/
theorem hoR_scale (u : Rat) (c : Int) (f : Nat → Int) (d : Nat) : ∀ k : Nat, k ≤ d → hoR ((c : Rat) * u) (fun i => f i * c ^ (d - i)) d k = (c : Rat) ^ k * hoR u f d k
  | 0, _ => by
    simp only [hoR, Nat.sub_self]
    rw [Int.pow_zero, Int.mul_one, Rat.pow_zero]
    grind
  | k + 1, hk => by
    have ih := hoR_scale u c f d k (by omega)
    simp only [hoR]
    rw [ih, show d - (d - (k + 1)) = k + 1 by omega, Rat.intCast_mul, Rat.intCast_pow, Rat.pow_succ]
    grind
/-- the sign of a row just above x / 2^p -/
theorem sgnUp_right (f : Nat → Int) (d : Nat) (x : Int) (p : Nat) : (sgnUp f d x p = 0 → ∀ y : Rat, hoR y f d d = 0) ∧ (sgnUp f d x p ≠ 0 → ∃ t0 : Rat, 0 < t0 ∧ ∀ t : Rat, 0 < t → t < t0 → 0 < ((sgnUp f d x p : Int) : Rat) * hoR ((x : Rat) * ((2 : Rat) ^ p)⁻¹ + t) f d d) := by
  have h := up_right x d d 0 (fun i => f i * 2 ^ (p * (d - i))) (by omega)
  have hw : (fun i => f i * (2 : Int) ^ (p * (d - i))) = fun i => f i * ((2 : Int) ^ p) ^ (d - i) := funext fun i => by rw [Int.pow_mul]
  have c0 : (0 : Rat) < 2 ^ p := Rat.pow_pos (by decide)
  have cc : (((2 : Int) ^ p : Int) : Rat) = (2 : Rat) ^ p := by rw [Rat.intCast_pow]; rfl
  have ci : (2 : Rat) ^ p * ((2 : Rat) ^ p)⁻¹ = 1 := Rat.mul_inv_cancel _ (by grind)
  have i0 := Rat.inv_pos.mpr c0
  have key : ∀ u : Rat, hoR ((2 : Rat) ^ p * u) (fun i => f i * 2 ^ (p * (d - i))) d d = ((2 : Rat) ^ p) ^ d * hoR u f d d := fun u => by
    rw [hw, ← cc]
    exact hoR_scale u ((2 : Int) ^ p) f d d (Nat.le_refl _)
  have cd : (0 : Rat) < ((2 : Rat) ^ p) ^ d := Rat.pow_pos c0
  unfold sgnUp
  refine ⟨fun z y => ?_, fun z => ?_⟩
  · have h1 := h.1 z ((2 : Rat) ^ p * y)
    rw [Nat.sub_zero, key] at h1
    rcases Rat.mul_eq_zero.mp h1 with h2 | h2
    · grind
    · exact h2
  · obtain ⟨t0, h0, h1⟩ := h.2 z
    refine ⟨t0 * ((2 : Rat) ^ p)⁻¹, Rat.mul_pos h0 i0, fun t ht1 ht2 => ?_⟩
    generalize (2 : Rat) ^ p = c at *
    generalize c⁻¹ = ci2 at *
    have h2 := h1 (c * t) (Rat.mul_pos c0 ht1) (by
      have := Rat.mul_lt_mul_of_pos_left ht2 c0
      have e : c * (t0 * ci2) = t0 * (c * ci2) := by grind
      rw [e, ci] at this
      grind)
    have e : (x : Rat) + c * t = c * ((x : Rat) * ci2 + t) := by
      have : c * ((x : Rat) * ci2 + t) = (x : Rat) * (c * ci2) + c * t := by grind
      rw [this, ci]
      grind
    rw [e, Nat.sub_zero, key] at h2
    generalize ((upS x d (d + 1) 0 fun i => f i * 2 ^ (p * (d - i)) : Int) : Rat) = s at *
    generalize hoR ((x : Rat) * ci2 + t) f d d = v at *
    generalize c ^ d = D at *
    have e2 : s * (D * v) = D * (s * v) := by grind
    rw [e2] at h2
    exact (Rat.mul_pos_iff_of_pos_left cd).mp h2
/-- far out -/
theorem hoR_hi {z R : Rat} {w : Nat → Int} {d : Nat} (hd : w d ≠ 0) (hR : ∀ i, i < d → -R ≤ (w i : Rat) ∧ (w i : Rat) ≤ R) (hR0 : 0 ≤ R) (hz : R + 1 ≤ z) : ∀ k : Nat, k ≤ d → 1 ≤ ((sg (w d) : Int) : Rat) * hoR z w d k
  | 0, _ => sg_cast hd
  | k + 1, hk => by
    have ih := hoR_hi hd hR hR0 hz k (by omega)
    have b := hR (d - (k + 1)) (by omega)
    simp only [hoR]
    have m := Rat.mul_le_mul_of_nonneg_left ih (show 0 ≤ z by grind)
    generalize hoR z w d k = v at *
    rcases sg_sq hd with s | s
    · rw [s] at ih m ⊢
      have : ((1 : Int) : Rat) = 1 := rfl
      rw [this] at ih m ⊢
      grind
    · rw [s] at ih m ⊢
      have : ((-1 : Int) : Rat) = -1 := rfl
      rw [this] at ih m ⊢
      grind
theorem hoR_lo {z R : Rat} {w : Nat → Int} {d : Nat} (hd : w d ≠ 0) (hR : ∀ i, i < d → -R ≤ (w i : Rat) ∧ (w i : Rat) ≤ R) (hR0 : 0 ≤ R) (hz : z ≤ -(R + 1)) : ∀ k : Nat, k ≤ d → 1 ≤ (((sg (w d) * if k % 2 = 1 then -1 else 1 : Int)) : Rat) * hoR z w d k
  | 0, _ => by
    rw [if_neg (by decide), Int.mul_one]
    exact sg_cast hd
  | k + 1, hk => by
    have ih := hoR_lo hd hR hR0 hz k (by omega)
    have b := hR (d - (k + 1)) (by omega)
    simp only [hoR]
    have m := Rat.mul_le_mul_of_nonneg_left ih (show 0 ≤ -z by grind)
    have e : (sg (w d) * if (k + 1) % 2 = 1 then -1 else 1 : Int) = -(sg (w d) * if k % 2 = 1 then -1 else 1 : Int) := by
      by_cases c : k % 2 = 1
      · rw [if_pos c, if_neg (by omega)]
        omega
      · rw [if_neg c, if_pos (by omega)]
        omega
    have s2 : (sg (w d) * if k % 2 = 1 then -1 else 1 : Int) = 1 ∨ (sg (w d) * if k % 2 = 1 then -1 else 1 : Int) = -1 := by
      have := sg_sq hd
      split <;> omega
    rw [e]
    generalize (sg (w d) * if k % 2 = 1 then -1 else 1 : Int) = u at *
    generalize hoR z w d k = v at *
    rcases s2 with s | s
    · rw [s] at ih m ⊢
      have h1 : ((1 : Int) : Rat) = 1 := rfl
      have h2 : ((-1 : Int) : Rat) = -1 := rfl
      rw [h1] at ih m
      rw [h2]
      grind
    · rw [s] at ih m ⊢
      have h1 : ((- -1 : Int) : Rat) = 1 := rfl
      have h2 : ((-1 : Int) : Rat) = -1 := rfl
      rw [h2] at ih m
      rw [h1]
      grind
