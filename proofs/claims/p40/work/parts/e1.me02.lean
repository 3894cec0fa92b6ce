/-! One short step along a chain of remainders. -/
theorem dB_eq {a b : Bool} (h : a = b) : dB a b = 0 := if_pos h
theorem dB_ne {a b : Bool} (h : a ≠ b) : dB a b = 1 := if_neg h
theorem comb2 {s t : Nat → Bool} {n : Nat} (h : ∀ i, i + 2 ≤ n → s (i + 1) = t (i + 1) ∨ (s i = t i ∧ s (i + 2) = t (i + 2) ∧ s i ≠ s (i + 2))) (h0 : 0 < n → s 0 = t 0 ∨ (s 1 = t 1 ∧ s 0 ≠ s 1)) : ∀ k, k ≤ n → s k = t k → cV s k = cV t k + dB (s 0) (t 0)
  | 0, _ => fun e => by
    rw [dB_eq e]
    rfl
  | 1, hk => fun e1 => by
    have i0 := h0 (by omega)
    simp only [cV]
    revert e1 i0
    cases s 0 <;> cases t 0 <;> cases s 1 <;> cases t 1 <;> decide
  | k + 2, hk => fun e2 => by
    have i1 := comb2 h h0 (k + 1) (by omega)
    have i0 := comb2 h h0 k (by omega)
    have hh := h k (by omega)
    have u1 : cV s (k + 2) = cV s (k + 1) + dB (s (k + 1)) (s (k + 2)) := rfl
    have u2 : cV t (k + 2) = cV t (k + 1) + dB (t (k + 1)) (t (k + 2)) := rfl
    have u3 : cV s (k + 1) = cV s k + dB (s k) (s (k + 1)) := rfl
    have u4 : cV t (k + 1) = cV t k + dB (t k) (t (k + 1)) := rfl
    by_cases c : s (k + 1) = t (k + 1)
    · have j := i1 c
      have u5 : dB (s (k + 1)) (s (k + 2)) = dB (t (k + 1)) (t (k + 2)) := by rw [c, e2]
      omega
    · rcases hh with hh | ⟨a1, a2, a3⟩
      · exact absurd hh c
      · have j := i0 a1
        have v1 := dB_two (b := s (k + 1)) a3
        have v2 := dB_two (a := t k) (b := t (k + 1)) (c := t (k + 2)) (by rw [← a1, ← a2]; exact a3)
        omega
theorem piece2 {B C e : Rat} {n : Nat} {h : Nat → Rat → Rat} (he : 0 < e) (hC : 0 ≤ C) (hL : ∀ i, i ≤ n → BK B (h i) C) (h1 : ∀ x, h n x = 1) (eP : ∀ i, i < n → ∀ x, -B ≤ x → x ≤ B → ¬ Big e (h i x) → Big e (h (i + 1) x)) (eR : ∀ i, i + 1 < n → ∀ x, -B ≤ x → x ≤ B → ¬ Big e (h (i + 1) x) → Big e (h i x) ∧ Big e (h (i + 2) x) ∧ h i x * h (i + 2) x < 0) {x y : Rat} (x0 : -B ≤ x) (xy : x ≤ y) (y0 : y ≤ B) (hs : C * (y - x) < e) (Dp : 0 < n → (∀ z, x ≤ z → z ≤ y → 0 < h 1 z) → 0 < h 0 x → 0 < h 0 y) (Dn : 0 < n → (∀ z, x ≤ z → z ≤ y → h 1 z < 0) → h 0 x < 0 → h 0 y < 0) (hx0 : h 0 x ≠ 0) : cV (sgB h x) n = cV (sgB h y) n + dB (sgB h x 0) (sgB h y 0) ∧ (0 < n → sgB h x 0 ≠ sgB h y 0 → sgB h x 1 = sgB h y 1 ∧ sgB h x 0 ≠ sgB h x 1) ∧ ∀ i, i ≤ n → Big e (h i x) → (∀ z, x ≤ z → z ≤ y → 0 < h i z) ∨ ∀ z, x ≤ z → z ≤ y → h i z < 0 := by
  have bigc : ∀ i, i ≤ n → Big e (h i x) → (∀ z, x ≤ z → z ≤ y → 0 < h i z) ∨ ∀ z, x ≤ z → z ≤ y → h i z < 0 := by
    intro i hi hb
    have w : ∀ z, x ≤ z → z ≤ y → C * (z - x) ≤ C * (y - x) := fun z z1 z2 => Rat.mul_le_mul_of_nonneg_left (by grind) hC
    rcases hb with hb | hb
    · refine Or.inl (fun z z1 z2 => ?_)
      have a1 := (hL i hi).2 x z x0 z1 (by grind)
      have a2 := w z z1 z2
      grind
    · refine Or.inr (fun z z1 z2 => ?_)
      have a1 := (hL i hi).2 x z x0 z1 (by grind)
      have a2 := w z z1 z2
      grind
  have same : ∀ i, i ≤ n → Big e (h i x) → sgB h x i = sgB h y i := by
    intro i hi hb
    rcases bigc i hi hb with z | z
    · rw [sgB_pos (z x Rat.le_refl xy), sgB_pos (z y xy Rat.le_refl)]
    · rw [sgB_neg (z x Rat.le_refl xy), sgB_neg (z y xy Rat.le_refl)]
  have xB : x ≤ B := by grind
  have en : sgB h x n = sgB h y n := by unfold sgB; rw [h1, h1]
  have fst : 0 < n → sgB h x 0 = sgB h y 0 ∨ (sgB h x 1 = sgB h y 1 ∧ sgB h x 0 ≠ sgB h x 1) := fun hn => by
    by_cases b : Big e (h 0 x)
    · exact Or.inl (same 0 (by omega) b)
    · have b1 := eP 0 hn x x0 xB b
      by_cases c : sgB h x 0 = sgB h y 0
      · exact Or.inl c
      · refine Or.inr ⟨same 1 (by omega) b1, ?_⟩
        rcases bigc 1 (by omega) b1 with z | z
        · have c0 : h 0 x < 0 := by
            apply Classical.byContradiction
            intro c1
            have p : 0 < h 0 x := by grind
            exact c (by rw [sgB_pos p, sgB_pos (Dp hn z p)])
          rw [sgB_neg c0, sgB_pos (z x Rat.le_refl xy)]
          decide
        · have c0 : 0 < h 0 x := by
            apply Classical.byContradiction
            intro c1
            have p : h 0 x < 0 := by grind
            exact c (by rw [sgB_neg p, sgB_neg (Dn hn z p)])
          rw [sgB_pos c0, sgB_neg (z x Rat.le_refl xy)]
          decide
  refine ⟨comb2 (s := sgB h x) (t := sgB h y) (n := n) (fun i hi => ?_) fst n (Nat.le_refl _) en, fun hn hc => ?_, bigc⟩
  · by_cases b : Big e (h (i + 1) x)
    · exact Or.inl (same (i + 1) (by omega) b)
    · obtain ⟨r1, r2, r3⟩ := eR i (by omega) x x0 xB b
      refine Or.inr ⟨same i (by omega) r1, same (i + 2) hi r2, fun z => ?_⟩
      unfold sgB at z
      by_cases c : 0 ≤ h i x
      · have c2 : 0 ≤ h (i + 2) x := by
          rw [decide_eq_true c] at z
          exact of_decide_eq_true z.symm
        have := Rat.mul_nonneg c c2
        grind
      · have c2 : ¬ 0 ≤ h (i + 2) x := by
          rw [decide_eq_false c] at z
          exact of_decide_eq_false z.symm
        have := Rat.mul_pos (show 0 < -(h i x) by grind) (show 0 < -(h (i + 2) x) by grind)
        grind
  · rcases fst hn with f | f
    · exact absurd f hc
    · exact f
/-- a chain of remainders over its last row: F = g h0, its derivative F2 = g h1 -/
def Cn (F F2 g : Rat → Rat) (h : Nat → Rat → Rat) (n : Nat) : Prop := (PL F ∧ PL F2 ∧ DD F F2) ∧ PL g ∧ (∀ i, i ≤ n → PL (h i)) ∧ (∀ x, F x = g x * h 0 x) ∧ (0 < n → ∀ x, F2 x = g x * h 1 x) ∧ (∀ x, h n x = 1) ∧ (∃ (q : Nat → Rat → Rat) (al be : Nat → Rat), ∀ i, i + 2 ≤ n → 0 < al i ∧ 0 < be i ∧ PL (q i) ∧ ∀ x, al i * h i x = q i x * h (i + 1) x - be i * h (i + 2) x) ∧ ∀ u v, u < v → ∃ z, u < z ∧ z < v ∧ F z ≠ 0
theorem Cn.step {F F2 g : Rat → Rat} {h : Nat → Rat → Rat} {n : Nat} (H : Cn F F2 g h n) (hn : 0 < n) {B : Rat} (hB : 0 ≤ B) : ∃ w : Rat, 0 < w ∧ ∀ u v, -B ≤ u → u < v → v ≤ B → v - u ≤ w → F u ≠ 0 → F v ≠ 0 → cV (sgB h u) n = cV (sgB h v) n + dB (sgB h u 0) (sgB h v 0) ∧ (sgB h u 0 ≠ sgB h v 0 → sgB h u 1 = sgB h v 1 ∧ sgB h u 0 ≠ sgB h u 1) ∧ (sgB h u 0 = sgB h v 0 → ¬ Sml F u v) := by
  obtain ⟨⟨PF, PF2, D⟩, Pg, Ph, Fg, F2g, h1, ⟨q, al, be, R⟩, dns⟩ := H
  have F2g := F2g hn
  have RB : ∀ i, i + 2 ≤ n → 0 < al i ∧ 0 < be i ∧ BL B (q i) ∧ ∀ x, al i * h i x = q i x * h (i + 1) x - be i * h (i + 2) x := fun i hi => ⟨(R i hi).1, (R i hi).2.1, (R i hi).2.2.1.bl hB, (R i hi).2.2.2⟩
  obtain ⟨C, hC, hL⟩ := bk_all n (fun i hi => (Ph i hi).bl hB)
  obtain ⟨G, hG, hGb, -⟩ := Pg.bl hB
  obtain ⟨e, e0, eP1, eR1⟩ := nc RB h1 (n - 1) (by omega)
  have eP : ∀ i, i < n → ∀ x, -B ≤ x → x ≤ B → ¬ Big e (h i x) → Big e (h (i + 1) x) := fun i hi => eP1 i (by omega) hi
  have eR : ∀ i, i + 1 < n → ∀ x, -B ≤ x → x ≤ B → ¬ Big e (h (i + 1) x) → Big e (h i x) ∧ Big e (h (i + 2) x) ∧ h i x * h (i + 2) x < 0 := fun i hi => eR1 i (by omega) hi
  -- the square of F along a way, both ends
  obtain ⟨C2, hC2, hS⟩ := (DD.mul PF PF2 PF D D) B hB
  have Tp : ∀ z w, -B ≤ z → z ≤ w → w ≤ B → F z * F z + (w - z) * (2 * (F z * F2 z)) - C2 * ((w - z) * (w - z)) ≤ F w * F w := fun z w z1 z2 z3 => by
    have := (hS z w z1 (by grind) (by grind) z3).1
    grind
  have Tm : ∀ z w, -B ≤ z → z ≤ w → w ≤ B → F w * F w - (w - z) * (2 * (F w * F2 w)) - C2 * ((w - z) * (w - z)) ≤ F z * F z := fun z w z1 z2 z3 => by
    have := (hS w z (by grind) z3 z1 (by grind)).1
    have e1 : (z - w) * (z - w) = (w - z) * (w - z) := by grind
    rw [e1] at this
    grind
  have hP : ∀ z w, -B ≤ z → z ≤ w → w ≤ B → F z * F z + (w - z) * (2 * (g z * g z * (h 0 z * h 1 z))) - C2 * ((w - z) * (w - z)) ≤ F w * F w := fun z w z1 z2 z3 => by
    have := Tp z w z1 z2 z3
    have e1 : g z * g z * (h 0 z * h 1 z) = F z * F2 z := by rw [Fg, F2g]; grind
    rw [e1]
    exact this
  have dl := fun {x y : Rat} (x0 : -B ≤ x) (xy : x < y) (y0 : y ≤ B) (hp : ∀ z, x ≤ z → z ≤ y → 0 < h 1 z) (hx : 0 < h 0 x) (Fx : F x ≠ 0) => dlem (B := B) (C := C) (G := G) (C2 := C2) (kp := 2) (P := F) (h0 := h 0) (h1 := h 1) (g := g) hC hC2 (by decide) hP Fg hGb (fun z w z1 z2 z3 => ((hL 0 (by omega)).2 z w z1 z2 z3).1) x0 xy y0 hp hx Fx
  have dm := fun {x y : Rat} (x0 : -B ≤ x) (xy : x < y) (y0 : y ≤ B) (hp : ∀ z, x ≤ z → z ≤ y → h 1 z < 0) (hx : h 0 x < 0) (Fx : F x ≠ 0) => dlem (B := B) (C := C) (G := G) (C2 := C2) (kp := 2) (P := fun z => -(F z)) (h0 := fun z => -(h 0 z)) (h1 := fun z => -(h 1 z)) (g := g) hC hC2 (by decide) (fun z w z1 z2 z3 => by have := hP z w z1 z2 z3; grind) (fun z => by rw [Fg]; grind) hGb (fun z w z1 z2 z3 => by have := ((hL 0 (by omega)).2 z w z1 z2 z3).2; grind) x0 xy y0 (fun z z1 z2 => by have := hp z z1 z2; grind) (by grind) (by grind)
  obtain ⟨w, w0, w1⟩ := small_w hC (show 0 < e / 8 by grind)
  refine ⟨w, w0, fun u v u0 uv v0 hw Fu Fv => ?_⟩
  have Cw : C * (v - u) < e / 8 := by
    have := Rat.mul_le_mul_of_nonneg_left hw hC
    grind
  have hu0 : h 0 u ≠ 0 := fun z => Fu (by rw [Fg, z]; grind)
  have hv0 : h 0 v ≠ 0 := fun z => Fv (by rw [Fg, z]; grind)
  have ule : u ≤ v := by grind
  have uB : u ≤ B := by grind
  have pc := piece2 e0 hC hL h1 eP eR u0 ule v0 (by grind) (fun _ hp hx => dl u0 uv v0 hp hx Fu) (fun _ hp hx => by have := dm u0 uv v0 hp hx Fu; grind) hu0
  refine ⟨pc.1, pc.2.1 hn, fun same sm => ?_⟩
  have bigc := pc.2.2
  -- it is enough that the square is not below some number
  have stay : ∀ dl : Rat, 0 < dl → (∀ z, u ≤ z → z ≤ v → dl ≤ F z * F z) → False := fun dl d0 hz => by
    obtain ⟨z, z1, z2, z3⟩ := sm dl d0
    have := hz z z1 z2
    grind
  have Fu2 := sq_pos Fu
  have Fv2 := sq_pos Fv
  -- signs of row 0 on the way, where row 1 keeps its sign
  by_cases b : Big e (h 0 u)
  · -- row 0 is big: the square falls slowly
    obtain ⟨r, hr⟩ : ∃ r, r = e⁻¹ := ⟨_, rfl⟩
    have r0 : 0 < r := by rw [hr]; exact Rat.inv_pos.mpr e0
    have er : e * r = 1 := by rw [hr]; exact Rat.mul_inv_cancel _ (by grind)
    have cr0 : 0 ≤ C * r := Rat.mul_nonneg hC (Rat.le_of_lt r0)
    have b0 : ∀ z, u ≤ z → z ≤ v → Big (e / 2) (h 0 z) := fun z z1 z2 => by
      have l := (hL 0 (by omega)).2 u z u0 z1 (by grind)
      have m : C * (z - u) ≤ C * (v - u) := Rat.mul_le_mul_of_nonneg_left (by grind) hC
      rcases b with b | b
      · exact Or.inl (by grind)
      · exact Or.inr (by grind)
    have ratio : ∀ z, u ≤ z → z ≤ v → -(4 * (C * r) * (F z * F z)) ≤ 2 * (F z * F2 z) := fun z z1 z2 => by
      have k1 := (hL 1 (by omega)).1 z (by grind) (by grind)
      have k0 : -(h 0 z * h 0 z * (2 * r)) ≤ h 0 z * (C * 0 + 1) ∧ h 0 z ≤ h 0 z * h 0 z * (2 * r) := by
        have p0 : 0 ≤ 2 * r * e := by grind
        rcases b0 z z1 z2 with c | c
        · have s1 := Rat.mul_le_mul_of_nonneg_left c (show 0 ≤ h 0 z by grind)
          have s2 := Rat.mul_le_mul_of_nonneg_right s1 (show 0 ≤ 2 * r by grind)
          have e1 : h 0 z * (e / 2) * (2 * r) = h 0 z * (e * r) := by grind
          rw [e1, er] at s2
          constructor <;> grind
        · have s1 := Rat.mul_le_mul_of_nonneg_left (show e / 2 ≤ -(h 0 z) by grind) (show 0 ≤ -(h 0 z) by grind)
          have s2 := Rat.mul_le_mul_of_nonneg_right s1 (show 0 ≤ 2 * r by grind)
          have e1 : -(h 0 z) * (e / 2) * (2 * r) = -(h 0 z * (e * r)) := by grind
          rw [e1, er] at s2
          constructor <;> grind
      have k2 : -(h 0 z * h 0 z * (2 * r)) ≤ h 0 z := by
        have := k0.1
        grind
      have m := rq_mul k2 k0.2 k1.1 k1.2
      have gg := rq_sq (g z)
      have n := Rat.mul_le_mul_of_nonneg_left m.1 gg
      have e1 : F z * F2 z = g z * g z * (h 0 z * h 1 z) := by rw [Fg, F2g]; grind
      have e2 : F z * F z = g z * g z * (h 0 z * h 0 z) := by rw [Fg]; grind
      rw [e1, e2]
      grind
    refine stay (F u * F u * (1 / 2)) (by grind) (fun z z1 z2 => ?_)
    refine gron (B := B) (C := C2) (c := 4 * (C * r)) (f := fun z => F z * F z) (f2 := fun z => 2 * (F z * F2 z)) Tp hC2 (by grind) u0 z1 (by grind) (fun y y1 y2 => ratio y y1 (by grind)) ?_ (Rat.le_of_lt Fu2)
    have m : C * (z - u) ≤ C * (v - u) := Rat.mul_le_mul_of_nonneg_left (by grind) hC
    have m2 : r * (C * (z - u)) ≤ r * (e / 8) := Rat.mul_le_mul_of_nonneg_left (by grind) (Rat.le_of_lt r0)
    have e1 : r * (e / 8) = e * r / 8 := by grind
    rw [e1, er] at m2
    have e2 : 4 * (C * r) * (z - u) = 4 * (r * (C * (z - u))) := by grind
    rw [e2]
    grind
  · have b1 := eP 0 hn u u0 uB b
    have up : (∀ z, u ≤ z → z ≤ v → 0 ≤ F z * F2 z) → False := fun hz => stay (F u * F u * (1 / 2)) (by grind) (fun z z1 z2 =>
      gron (B := B) (C := C2) (c := 0) (f := fun z => F z * F z) (f2 := fun z => 2 * (F z * F2 z)) Tp hC2 Rat.le_refl u0 z1 (by grind) (fun y y1 y2 => by have := hz y y1 (by grind); grind) (by grind) (Rat.le_of_lt Fu2))
    have down : (∀ z, u ≤ z → z ≤ v → F z * F2 z ≤ 0) → False := fun hz => stay (F v * F v * (1 / 2)) (by grind) (fun z z1 z2 =>
      gronR (B := B) (C := C2) (c := 0) (f := fun z => F z * F z) (f2 := fun z => 2 * (F z * F2 z)) Tm hC2 Rat.le_refl (by grind) z2 v0 (fun y y1 y2 => by have := hz y (by grind) y2; grind) (by grind) (Rat.le_of_lt Fv2))
    have ff : ∀ z, F z * F2 z = g z * g z * (h 0 z * h 1 z) := fun z => by rw [Fg, F2g]; grind
    -- a place near z where row 0 has the same sign and F is not 0
    have move : ∀ z, u ≤ z → z < v → ∀ s : Rat, (s = 1 ∨ s = -1) → 0 < s * h 0 z → ∃ y, z < y ∧ y < v ∧ 0 < s * h 0 y ∧ F y ≠ 0 := fun z z1 z2 s hs hz => by
      obtain ⟨t, t0, t1⟩ := small_w hC hz
      obtain ⟨t9, t90, t91, t92⟩ := rq_min t (v - z) t0 (by grind)
      obtain ⟨y, y1, y2, y3⟩ := dns z (z + t9) (by grind)
      refine ⟨y, y1, by grind, ?_, y3⟩
      have l := (hL 0 (by omega)).2 z y (by grind) (by grind) (by grind)
      have m : C * (y - z) ≤ C * t := Rat.mul_le_mul_of_nonneg_left (by grind) hC
      rcases hs with rfl | rfl <;> grind
    rcases bigc 1 (by omega) b1 with s | s
    · by_cases p : 0 < h 0 u
      · refine up (fun z z1 z2 => ?_)
        have a : 0 ≤ h 0 z := by
          by_cases c : u = z
          · rw [← c]
            exact Rat.le_of_lt p
          · exact Rat.le_of_lt (dl u0 (by grind) (by grind) (fun y y1 y2 => s y y1 (by grind)) p Fu)
        rw [ff]
        exact Rat.mul_nonneg (rq_sq _) (Rat.mul_nonneg a (Rat.le_of_lt (s z z1 z2)))
      · have nv : h 0 v < 0 := by
          apply Classical.byContradiction
          intro c
          rw [sgB_neg (show h 0 u < 0 by grind), sgB_pos (show 0 < h 0 v by grind)] at same
          cases same
        refine down (fun z z1 z2 => ?_)
        have a : h 0 z ≤ 0 := by
          apply Classical.byContradiction
          intro c
          have zv : z ≠ v := fun e9 => by
            rw [e9] at c
            grind
          obtain ⟨y, y1, y2, y3, y4⟩ := move z z1 (by grind) 1 (Or.inl rfl) (by grind)
          have := dl (show -B ≤ y by grind) y2 v0 (fun x x1 x2 => s x (by grind) x2) (by grind) y4
          grind
        have m := Rat.mul_nonneg (rq_sq (g z)) (Rat.mul_nonneg (show 0 ≤ -(h 0 z) by grind) (Rat.le_of_lt (s z z1 z2)))
        rw [ff]
        grind
    · by_cases p : h 0 u < 0
      · refine up (fun z z1 z2 => ?_)
        have a : h 0 z ≤ 0 := by
          by_cases c : u = z
          · rw [← c]
            exact Rat.le_of_lt p
          · have := dm u0 (show u < z by grind) (by grind) (fun y y1 y2 => s y y1 (by grind)) p Fu
            grind
        have m := Rat.mul_nonneg (rq_sq (g z)) (Rat.mul_nonneg (show 0 ≤ -(h 0 z) by grind) (show 0 ≤ -(h 1 z) by have := s z z1 z2; grind))
        rw [ff]
        grind
      · have nv : 0 < h 0 v := by
          apply Classical.byContradiction
          intro c
          rw [sgB_pos (show 0 < h 0 u by grind), sgB_neg (show h 0 v < 0 by grind)] at same
          cases same
        refine down (fun z z1 z2 => ?_)
        have a : 0 ≤ h 0 z := by
          apply Classical.byContradiction
          intro c
          have zv : z ≠ v := fun e9 => by
            rw [e9] at c
            grind
          obtain ⟨y, y1, y2, y3, y4⟩ := move z z1 (by grind) (-1) (Or.inr rfl) (by grind)
          have := dm (show -B ≤ y by grind) y2 v0 (fun x x1 x2 => s x (by grind) x2) (by grind) y4
          grind
        have m := Rat.mul_nonneg (rq_sq (g z)) (Rat.mul_nonneg a (show 0 ≤ -(h 1 z) by have := s z z1 z2; grind))
        rw [ff]
        grind
/-- the sign of a function, as 0 ≤ tells it -/
def sB (F : Rat → Rat) (x : Rat) : Bool := decide (0 ≤ F x)
theorem sB_fac {g a b : Rat} (hg : g ≠ 0) (ha : a ≠ 0) (hb : b ≠ 0) : (decide (0 ≤ g * a) = decide (0 ≤ g * b)) ↔ (decide (0 ≤ a) = decide (0 ≤ b)) := by
  have key : ∀ c : Rat, c ≠ 0 → (0 < g → decide (0 ≤ g * c) = decide (0 ≤ c)) ∧ (g < 0 → decide (0 ≤ g * c) = !decide (0 ≤ c)) := fun c hc => by
    by_cases p : 0 ≤ c
    · have p0 : 0 < c := by grind
      refine ⟨fun q => ?_, fun q => ?_⟩
      · rw [decide_eq_true p, decide_eq_true (Rat.mul_nonneg (Rat.le_of_lt q) p)]
      · have := Rat.mul_pos (show 0 < -g by grind) p0
        rw [decide_eq_true p, decide_eq_false (by grind)]
        rfl
    · refine ⟨fun q => ?_, fun q => ?_⟩
      · have := Rat.mul_pos q (show 0 < -c by grind)
        rw [decide_eq_false p, decide_eq_false (by grind)]
      · have := Rat.mul_pos (show 0 < -g by grind) (show 0 < -c by grind)
        rw [decide_eq_false p, decide_eq_true (by grind)]
        rfl
  by_cases q : 0 < g
  · rw [(key a ha).1 q, (key b hb).1 q]
  · rw [(key a ha).2 (by grind), (key b hb).2 (by grind)]
    cases decide (0 ≤ a) <;> cases decide (0 ≤ b) <;> simp
/-- what a step tells of two derivatives that follow each other -/
theorem Cn.two {F F2 g : Rat → Rat} {h : Nat → Rat → Rat} {n : Nat} (H : Cn F F2 g h n) (hn : 0 < n) {B : Rat} (hB : 0 ≤ B) : ∃ w : Rat, 0 < w ∧ ∀ u v, -B ≤ u → u < v → v ≤ B → v - u ≤ w → F u ≠ 0 → F v ≠ 0 → F2 u ≠ 0 → F2 v ≠ 0 → (Sml F u v → sB F u ≠ sB F2 u ∧ sB F v = sB F2 v) ∧ (sB F u = sB F2 u → sB F v ≠ sB F2 v → Sml F2 u v) := by
  obtain ⟨w, w0, S⟩ := H.step hn hB
  obtain ⟨-, Pg, Ph, Fg, F2g, -⟩ := H
  have F2g := F2g hn
  refine ⟨w, w0, fun u v u0 uv v0 hw Fu Fv Gu Gv => ?_⟩
  obtain ⟨-, s2, s3⟩ := S u v u0 uv v0 hw Fu Fv
  have gu : g u ≠ 0 := fun z => Fu (by rw [Fg, z]; grind)
  have gv : g v ≠ 0 := fun z => Fv (by rw [Fg, z]; grind)
  have h0u : h 0 u ≠ 0 := fun z => Fu (by rw [Fg, z]; grind)
  have h0v : h 0 v ≠ 0 := fun z => Fv (by rw [Fg, z]; grind)
  have h1u : h 1 u ≠ 0 := fun z => Gu (by rw [F2g, z]; grind)
  have h1v : h 1 v ≠ 0 := fun z => Gv (by rw [F2g, z]; grind)
  have eu : sB F u = sB F2 u ↔ sgB h u 0 = sgB h u 1 := by
    unfold sB sgB
    rw [Fg, F2g]
    exact sB_fac gu h0u h1u
  have ev : sB F v = sB F2 v ↔ sgB h v 0 = sgB h v 1 := by
    unfold sB sgB
    rw [Fg, F2g]
    exact sB_fac gv h0v h1v
  by_cases c : sgB h u 0 = sgB h v 0
  · refine ⟨fun sm => absurd sm (s3 c), fun q1 q2 => ?_⟩
    have q1 := eu.mp q1
    have q2 : ¬ sgB h v 0 = sgB h v 1 := fun z => q2 (ev.mpr z)
    have q3 : sgB h u 1 ≠ sgB h v 1 := fun z => q2 (by rw [← c, q1, z])
    refine Sml.of (A := h 1) (k := g) (Ph 1 (by omega)) Pg (fun z => by rw [F2g]; grind) (Rat.le_of_lt uv) ?_
    unfold sgB at q3
    by_cases p : 0 ≤ h 1 u
    · by_cases p2 : 0 ≤ h 1 v
      · rw [decide_eq_true p, decide_eq_true p2] at q3
        exact absurd rfl q3
      · exact Or.inr ⟨by grind, by grind⟩
    · by_cases p2 : 0 ≤ h 1 v
      · exact Or.inl ⟨by grind, by grind⟩
      · rw [decide_eq_false p, decide_eq_false p2] at q3
        exact absurd rfl q3
  · obtain ⟨t1, t2⟩ := s2 c
    have t3 : sgB h v 0 = sgB h v 1 := by
      rw [← t1]
      revert c t2
      cases sgB h u 0 <;> cases sgB h v 0 <;> cases sgB h u 1 <;> decide
    exact ⟨fun _ => ⟨fun z => t2 (eu.mp z), ev.mpr t3⟩, fun _ q => absurd (ev.mpr t3) q⟩
