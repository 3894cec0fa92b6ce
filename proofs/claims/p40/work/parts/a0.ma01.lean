/-! Rational functions that are bounded and don't change fast on a box. -/
theorem rq_mul {a b A B : Rat} (h1 : -A ≤ a) (h2 : a ≤ A) (h3 : -B ≤ b) (h4 : b ≤ B) : -(A * B) ≤ a * b ∧ a * b ≤ A * B := by
  have h5 : 0 ≤ (A - a) * (B + b) := Rat.mul_nonneg (by grind) (by grind)
  have h6 : 0 ≤ (A + a) * (B - b) := Rat.mul_nonneg (by grind) (by grind)
  have h7 : 0 ≤ (A - a) * (B - b) := Rat.mul_nonneg (by grind) (by grind)
  have h8 : 0 ≤ (A + a) * (B + b) := Rat.mul_nonneg (by grind) (by grind)
  constructor <;> grind
theorem rq_abs (c : Rat) : ∃ K, 0 ≤ K ∧ -K ≤ c ∧ c ≤ K := by
  by_cases h : 0 ≤ c
  · exact ⟨c, h, by grind, by grind⟩
  · exact ⟨-c, by grind, by grind, by grind⟩
theorem rq_sq (a : Rat) : 0 ≤ a * a := by
  by_cases h : 0 ≤ a
  · exact Rat.mul_nonneg h h
  · have := Rat.mul_nonneg (show 0 ≤ -a by grind) (show 0 ≤ -a by grind)
    grind
/-- bounded by K, and by K times the way -/
def BK (B : Rat) (f : Rat → Rat) (K : Rat) : Prop := (∀ x, -B ≤ x → x ≤ B → -K ≤ f x ∧ f x ≤ K) ∧ ∀ x y, -B ≤ x → x ≤ y → y ≤ B → -(K * (y - x)) ≤ f y - f x ∧ f y - f x ≤ K * (y - x)
def BL (B : Rat) (f : Rat → Rat) : Prop := ∃ K, 0 ≤ K ∧ BK B f K
theorem BK.up {B : Rat} {f : Rat → Rat} {K K2 : Rat} (h : BK B f K) (hk : K ≤ K2) : BK B f K2 := by
  refine ⟨fun x h1 h2 => ?_, fun x y h1 h2 h3 => ?_⟩
  · have := h.1 x h1 h2
    constructor <;> grind
  · have h4 := h.2 x y h1 h2 h3
    have h5 : K * (y - x) ≤ K2 * (y - x) := Rat.mul_le_mul_of_nonneg_right hk (by grind)
    constructor <;> grind
theorem BL.const {B : Rat} (c : Rat) : BL B (fun _ => c) := by
  obtain ⟨K, h0, h1, h2⟩ := rq_abs c
  refine ⟨K, h0, fun x _ _ => ⟨h1, h2⟩, fun x y _ h3 _ => ?_⟩
  have := Rat.mul_nonneg h0 (show 0 ≤ y - x by grind)
  constructor <;> grind
theorem BL.idf {B : Rat} (hB : 0 ≤ B) : BL B (fun x => x) := by
  refine ⟨B + 1, by grind, fun x h1 h2 => ⟨by grind, by grind⟩, fun x y h1 h2 h3 => ?_⟩
  have := Rat.mul_nonneg hB (show 0 ≤ y - x by grind)
  constructor <;> grind
theorem BL.add {B : Rat} {f g : Rat → Rat} (hf : BL B f) (hg : BL B g) : BL B (fun x => f x + g x) := by
  obtain ⟨K, k0, k1, k2⟩ := hf
  obtain ⟨L, l0, l1, l2⟩ := hg
  refine ⟨K + L, by grind, fun x h1 h2 => ?_, fun x y h1 h2 h3 => ?_⟩
  · have := k1 x h1 h2
    have := l1 x h1 h2
    constructor <;> grind
  · have := k2 x y h1 h2 h3
    have := l2 x y h1 h2 h3
    constructor <;> grind
theorem BL.mul {B : Rat} {f g : Rat → Rat} (hf : BL B f) (hg : BL B g) : BL B (fun x => f x * g x) := by
  obtain ⟨K, k0, k1, k2⟩ := hf
  obtain ⟨L, l0, l1, l2⟩ := hg
  have kl := Rat.mul_nonneg k0 l0
  refine ⟨2 * (K * L), by grind, fun x h1 h2 => ?_, fun x y h1 h2 h3 => ?_⟩
  · have := rq_mul (k1 x h1 h2).1 (k1 x h1 h2).2 (l1 x h1 h2).1 (l1 x h1 h2).2
    constructor <;> grind
  · have a1 := rq_mul (k1 y (by grind) h3).1 (k1 y (by grind) h3).2 (l2 x y h1 h2 h3).1 (l2 x y h1 h2 h3).2
    have a2 := rq_mul (k2 x y h1 h2 h3).1 (k2 x y h1 h2 h3).2 (l1 x h1 (by grind)).1 (l1 x h1 (by grind)).2
    have e : f y * g y - f x * g x = f y * (g y - g x) + (f y - f x) * g x := by grind
    rw [e]
    have e1 : K * (L * (y - x)) = K * L * (y - x) := by grind
    have e2 : K * (y - x) * L = K * L * (y - x) := by grind
    rw [e1] at a1
    rw [e2] at a2
    constructor <;> grind
theorem BL.cong {B : Rat} {f g : Rat → Rat} (h : BL B f) (e : ∀ x, f x = g x) : BL B g := by
  rw [show g = f from funext fun x => (e x).symm]
  exact h
theorem rq_arch (r : Rat) : ∃ N : Nat, r < (N : Rat) := by
  refine ⟨(r.floor + 1).toNat, ?_⟩
  have h1 := Rat.lt_floor_add_one r
  have h2 : ((r.floor + 1 : Int) : Rat) ≤ (((r.floor + 1).toNat : Int) : Rat) := Rat.intCast_le_intCast.mpr (Int.self_le_toNat _)
  rw [Rat.intCast_natCast] at h2
  grind
/-- away from 0 -/
def Big (e v : Rat) : Prop := e ≤ v ∨ v ≤ -e
theorem Big.mono {e e2 v : Rat} (h : Big e v) (he : e2 ≤ e) : Big e2 v := h.elim (fun h => Or.inl (by grind)) (fun h => Or.inr (by grind))
theorem not_big {e v : Rat} (h : ¬ Big e v) : -e < v ∧ v < e := by
  unfold Big at h
  constructor <;> grind
/-- no two rows that follow each other are small -/
theorem nc_step {a b K e w q h0 h1 h2 : Rat} (ha : 0 < a) (hb : 0 < b) (he : 0 < e) (hw : 0 < w) (w1 : 2 * (w * K) ≤ e * b) (w2 : 2 * (w * a) ≤ e * b) (w3 : w ≤ e) (hq : -K ≤ q ∧ q ≤ K) (E : a * h0 = q * h1 - b * h2) (n1 : ¬ Big w h1) (B2 : Big e h2) : Big w h0 ∧ Big w h2 ∧ h0 * h2 < 0 := by
  obtain ⟨m1, m2⟩ := not_big n1
  have m3 := rq_mul hq.1 hq.2 (Rat.le_of_lt m1) (Rat.le_of_lt m2)
  rcases B2 with g | g
  · have g1 : b * e ≤ b * h2 := Rat.mul_le_mul_of_nonneg_left g (Rat.le_of_lt hb)
    have g2 : a * h0 ≤ a * (-w) := by grind
    have g3 : h0 ≤ -w := Rat.le_of_mul_le_mul_left g2 ha
    refine ⟨Or.inr g3, Or.inl (by grind), ?_⟩
    have g4 : 0 < (-h0) * h2 := Rat.mul_pos (by grind) (by grind)
    grind
  · have g1 : b * e ≤ b * (-h2) := Rat.mul_le_mul_of_nonneg_left (by grind) (Rat.le_of_lt hb)
    have g2 : a * w ≤ a * h0 := by grind
    have g3 : w ≤ h0 := Rat.le_of_mul_le_mul_left g2 ha
    refine ⟨Or.inl g3, Or.inr (by grind), ?_⟩
    have g4 : 0 < h0 * (-h2) := Rat.mul_pos (by grind) (by grind)
    grind
/-- a small number for a step -/
theorem nc_pick {a b K e : Rat} (ha : 0 < a) (hb : 0 < b) (he : 0 < e) (hK : 0 ≤ K) : ∃ w, 0 < w ∧ 2 * (w * K) ≤ e * b ∧ 2 * (w * a) ≤ e * b ∧ w ≤ e := by
  have hD : 0 < 2 * (b + a + K + 1) := by grind
  have hr : 0 < (2 * (b + a + K + 1))⁻¹ := Rat.inv_pos.mpr hD
  have hr2 : 2 * (b + a + K + 1) * (2 * (b + a + K + 1))⁻¹ = 1 := Rat.mul_inv_cancel _ (by grind)
  generalize (2 * (b + a + K + 1))⁻¹ = r at hr hr2
  have eb := Rat.mul_pos he hb
  have w0 : 0 < e * b * r := Rat.mul_pos eb hr
  have k0 : 0 ≤ e * b * r * K := Rat.mul_nonneg (Rat.le_of_lt w0) hK
  have k1 : 0 < e * b * r * a := Rat.mul_pos w0 ha
  have k2 : 0 < e * b * r * b := Rat.mul_pos w0 hb
  have k3 : e * b * (2 * (b + a + K + 1) * r) = e * b := by rw [hr2]; grind
  refine ⟨e * b * r, w0, by grind, by grind, ?_⟩
  have k4 : e * b * r * b ≤ e * b := by grind
  exact Rat.le_of_mul_le_mul_right k4 hb
theorem nc {B : Rat} {n : Nat} {h q : Nat → Rat → Rat} {al be : Nat → Rat} (H : ∀ i, i + 2 ≤ n → 0 < al i ∧ 0 < be i ∧ BL B (q i) ∧ ∀ x, al i * h i x = q i x * h (i + 1) x - be i * h (i + 2) x) (h1 : ∀ x, h n x = 1) : ∀ k, k + 1 ≤ n → ∃ e, 0 < e ∧ (∀ i, n - 1 - k ≤ i → i < n → ∀ x, -B ≤ x → x ≤ B → ¬ Big e (h i x) → Big e (h (i + 1) x)) ∧ ∀ i, n - 1 - k ≤ i → i + 1 < n → ∀ x, -B ≤ x → x ≤ B → ¬ Big e (h (i + 1) x) → Big e (h i x) ∧ Big e (h (i + 2) x) ∧ h i x * h (i + 2) x < 0
  | 0, hk => by
    refine ⟨1, by decide, fun i hi hn x _ _ _ => ?_, fun i hi hn => by omega⟩
    rw [show i + 1 = n by omega, h1]
    exact Or.inl Rat.le_refl
  | k + 1, hk => by
    obtain ⟨e, e0, eP, eR⟩ := nc H h1 k (by omega)
    obtain ⟨j, hj⟩ : ∃ j, j = n - 1 - (k + 1) := ⟨_, rfl⟩
    obtain ⟨ha, hb, ⟨K, K0, Kq, -⟩, E⟩ := H j (by omega)
    obtain ⟨w, w0, w1, w2, w3⟩ := nc_pick ha hb e0 K0
    have R : ∀ x, -B ≤ x → x ≤ B → ¬ Big w (h (j + 1) x) → Big w (h j x) ∧ Big w (h (j + 2) x) ∧ h j x * h (j + 2) x < 0 := fun x x1 x2 n1 =>
      nc_step ha hb e0 w0 w1 w2 w3 (Kq x x1 x2) (E x) n1 (eP (j + 1) (by omega) (by omega) x x1 x2 (fun z => n1 (z.mono w3)))
    refine ⟨w, w0, fun i hi hn x x1 x2 n1 => ?_, fun i hi hn x x1 x2 n1 => ?_⟩
    · by_cases ej : i = j
      · rw [ej] at n1 ⊢
        apply Classical.byContradiction
        intro n2
        exact n1 (R x x1 x2 n2).1
      · exact (eP i (by omega) hn x x1 x2 (fun z => n1 (z.mono w3))).mono w3
    · by_cases ej : i = j
      · rw [ej] at n1 ⊢
        exact R x x1 x2 n1
      · obtain ⟨z1, z2, z3⟩ := eR i (by omega) hn x x1 x2 (fun z => n1 (z.mono w3))
        exact ⟨z1.mono w3, z2.mono w3, z3⟩
/-! Counting changes. -/
def dB (a b : Bool) : Int := if a = b then 0 else 1
theorem dB_two {a b c : Bool} (h : a ≠ c) : dB a b + dB b c = 1 := by
  revert h
  cases a <;> cases b <;> cases c <;> decide
def cV (s : Nat → Bool) : Nat → Int
  | 0 => 0
  | k + 1 => cV s k + dB (s k) (s (k + 1))
theorem comb {s t : Nat → Bool} {n : Nat} (h : ∀ i, i + 2 ≤ n → s (i + 1) = t (i + 1) ∨ (s i = t i ∧ s (i + 2) = t (i + 2) ∧ s i ≠ s (i + 2))) (h0 : 0 < n → s 0 = t 0 ∨ (s 1 = t 1 ∧ s 0 ≠ s 1)) : ∀ k, k ≤ n → (s k = t k → cV t k ≤ cV s k ∧ (s 0 = t 0 → cV t k = cV s k))
  | 0, _ => fun _ => ⟨Int.le_refl _, fun _ => rfl⟩
  | 1, hk => fun e1 => by
    have i0 := h0 (by omega)
    simp only [cV]
    revert e1 i0
    cases s 0 <;> cases t 0 <;> cases s 1 <;> cases t 1 <;> decide
  | k + 2, hk => fun e2 => by
    have i1 := comb h h0 (k + 1) (by omega)
    have i0 := comb h h0 k (by omega)
    have hh := h k (by omega)
    have u1 : cV s (k + 2) = cV s (k + 1) + dB (s (k + 1)) (s (k + 2)) := rfl
    have u2 : cV t (k + 2) = cV t (k + 1) + dB (t (k + 1)) (t (k + 2)) := rfl
    have u3 : cV s (k + 1) = cV s k + dB (s k) (s (k + 1)) := rfl
    have u4 : cV t (k + 1) = cV t k + dB (t k) (t (k + 1)) := rfl
    by_cases c : s (k + 1) = t (k + 1)
    · have j := i1 c
      have u5 : dB (s (k + 1)) (s (k + 2)) = dB (t (k + 1)) (t (k + 2)) := by rw [c, e2]
      exact ⟨by omega, fun z => by have := j.2 z; omega⟩
    · rcases hh with hh | ⟨a1, a2, a3⟩
      · exact absurd hh c
      · have j := i0 a1
        have v1 := dB_two (b := s (k + 1)) a3
        have v2 := dB_two (a := t k) (b := t (k + 1)) (c := t (k + 2)) (by rw [← a1, ← a2]; exact a3)
        exact ⟨by omega, fun z => by have := j.2 z; omega⟩
