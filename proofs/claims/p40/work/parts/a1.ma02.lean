/-! The count of changes never grows. -/
theorem sq_pos {a : Rat} (h : a ≠ 0) : 0 < a * a := by
  by_cases c : 0 < a
  · exact Rat.mul_pos c c
  · have := Rat.mul_pos (show 0 < -a by grind) (show 0 < -a by grind)
    grind
theorem dlem {B C G C2 kp : Rat} {P h0 h1 g : Rat → Rat} (hC : 0 ≤ C) (h2 : 0 ≤ C2) (hk : 0 < kp) (hP : ∀ z w, -B ≤ z → z ≤ w → w ≤ B → P z * P z + (w - z) * (kp * (g z * g z * (h0 z * h1 z))) - C2 * ((w - z) * (w - z)) ≤ P w * P w) (hg : ∀ z, P z = g z * h0 z) (hGb : ∀ z, -B ≤ z → z ≤ B → -G ≤ g z ∧ g z ≤ G) (hL : ∀ z w, -B ≤ z → z ≤ w → w ≤ B → -(C * (w - z)) ≤ h0 w - h0 z) {x y : Rat} (x0 : -B ≤ x) (xy : x < y) (y0 : y ≤ B) (hp : ∀ z, x ≤ z → z ≤ y → 0 < h1 z) (hx : 0 < h0 x) (Px : P x ≠ 0) : 0 < h0 y := by
  have F0 := sq_pos Px
  obtain ⟨F, hF⟩ : ∃ F, F = P x * P x := ⟨_, rfl⟩
  rw [← hF] at F0
  obtain ⟨L, hLd⟩ : ∃ L, L = y - x := ⟨_, rfl⟩
  have L0 : 0 < L := by grind
  have gc : 0 ≤ G * C * (G * C) := rq_sq _
  have c2l : 0 ≤ C2 * L := Rat.mul_nonneg h2 (Rat.le_of_lt L0)
  obtain ⟨M, hM⟩ : ∃ M, M = G * C * (G * C) + C2 * L + 1 := ⟨_, rfl⟩
  have M0 : 0 < M := by grind
  obtain ⟨N, hN⟩ := rq_arch (M * L * F⁻¹ + L)
  have Fi := Rat.inv_pos.mpr F0
  have FF : F * F⁻¹ = 1 := Rat.mul_inv_cancel _ (by grind)
  have ML := Rat.mul_pos M0 L0
  have MLF := Rat.mul_pos ML Fi
  have N0 : 0 < (N : Rat) := by grind
  have r0 := Rat.inv_pos.mpr N0
  have rN : (N : Rat) * (N : Rat)⁻¹ = 1 := Rat.mul_inv_cancel _ (by grind)
  generalize (N : Rat)⁻¹ = r at r0 rN
  obtain ⟨ep, hep⟩ : ∃ ep, ep = L * r := ⟨_, rfl⟩
  have ep0 : 0 < ep := by rw [hep]; exact Rat.mul_pos L0 r0
  have epN : (N : Rat) * ep = L := by
    have : (N : Rat) * ep = L * ((N : Rat) * r) := by grind
    rw [this, rN]
    grind
  have ep1 : ep ≤ 1 := by
    have q1 : L * r ≤ (N : Rat) * r := Rat.mul_le_mul_of_nonneg_right (by grind) (Rat.le_of_lt r0)
    grind
  have MF : M * ep < F := by
    have q1 : M * L * F⁻¹ * F < (N : Rat) * F := Rat.mul_lt_mul_of_pos_right (by grind) F0
    have q2 : M * L * F⁻¹ * F = M * L := by
      have : M * L * F⁻¹ * F = M * L * (F * F⁻¹) := by grind
      rw [this, FF]
      grind
    have q3 : M * L * r < (N : Rat) * F * r := Rat.mul_lt_mul_of_pos_right (by grind) r0
    have q4 : (N : Rat) * F * r = F * ((N : Rat) * r) := by grind
    rw [q4, rN, Rat.mul_one] at q3
    rw [hep, ← Rat.mul_assoc]
    exact q3
  have eps : ep * ep ≤ ep := by
    have := Rat.mul_le_mul_of_nonneg_left ep1 (Rat.le_of_lt ep0)
    grind
  have f3 : G * C * (G * C) * (ep * ep) ≤ G * C * (G * C) * ep := Rat.mul_le_mul_of_nonneg_left eps gc
  have claim : ∀ k : Nat, k ≤ N → 0 < h0 (x + (k : Rat) * ep) ∧ F - (k : Rat) * (C2 * (ep * ep)) ≤ P (x + (k : Rat) * ep) * P (x + (k : Rat) * ep) := by
    intro k
    induction k with
    | zero =>
      intro _
      have e0 : x + ((0 : Nat) : Rat) * ep = x := by
        have : ((0 : Nat) : Rat) = 0 := rfl
        rw [this]
        grind
      rw [e0]
      refine ⟨hx, ?_⟩
      have : ((0 : Nat) : Rat) = 0 := rfl
      rw [this]
      grind
    | succ k ih =>
      intro hkN
      obtain ⟨i1, i2⟩ := ih (by omega)
      have kc : ((k + 1 : Nat) : Rat) = (k : Rat) + 1 := by rw [Rat.natCast_add]; rfl
      have k0 : 0 ≤ (k : Rat) := Rat.natCast_nonneg
      have kN : (k : Rat) + 1 ≤ (N : Rat) := by rw [← kc]; exact Rat.natCast_le_natCast.mpr hkN
      rw [kc]
      have ke0 : 0 ≤ (k : Rat) * ep := Rat.mul_nonneg k0 (Rat.le_of_lt ep0)
      have keN : ((k : Rat) + 1) * ep ≤ (N : Rat) * ep := Rat.mul_le_mul_of_nonneg_right kN (Rat.le_of_lt ep0)
      generalize (k : Rat) = kk at *
      obtain ⟨z, hz⟩ : ∃ z, z = x + kk * ep := ⟨_, rfl⟩
      have hw : x + (kk + 1) * ep = z + ep := by grind
      rw [hw]
      rw [← hz] at i1 i2
      have z1 : -B ≤ z := by grind
      have z2 : z + ep ≤ B := by grind
      have hz9 := hp z (by grind) (by grind)
      have st := hP z (z + ep) z1 (by grind) z2
      rw [show z + ep - z = ep by grind] at st
      have gg := rq_sq (g z)
      have pos : 0 ≤ ep * (kp * (g z * g z * (h0 z * h1 z))) := Rat.mul_nonneg (Rat.le_of_lt ep0) (Rat.mul_nonneg (Rat.le_of_lt hk) (Rat.mul_nonneg gg (Rat.le_of_lt (Rat.mul_pos i1 hz9))))
      refine ⟨?_, by grind⟩
      apply Classical.byContradiction
      intro hn
      have l1 := hL z (z + ep) z1 (by grind) z2
      rw [show z + ep - z = ep by grind] at l1
      have ce : 0 ≤ C * ep := Rat.mul_nonneg hC (Rat.le_of_lt ep0)
      have hzz : h0 z ≤ C * ep := by grind
      have m1 := rq_mul (a := h0 z) (b := h0 z) (A := C * ep) (B := C * ep) (by grind) hzz (by grind) hzz
      have gb := hGb z z1 (by grind)
      have m2 := rq_mul gb.1 gb.2 gb.1 gb.2
      have hh := rq_sq (h0 z)
      have m3 := rq_mul (a := g z * g z) (b := h0 z * h0 z) (A := G * G) (B := C * ep * (C * ep)) (by grind) m2.2 (by grind) m1.2
      have f2 : P z * P z ≤ G * G * (C * ep * (C * ep)) := by
        rw [hg z]
        grind
      have f4 : C2 * ep * (kk * ep) ≤ C2 * ep * L := Rat.mul_le_mul_of_nonneg_left (by grind) (Rat.mul_nonneg h2 (Rat.le_of_lt ep0))
      rw [hM] at MF
      grind
  have fin := (claim N (Nat.le_refl _)).1
  rw [epN, show x + L = y by grind] at fin
  exact fin
theorem bk_all {B : Rat} {h : Nat → Rat → Rat} : ∀ n : Nat, (∀ i, i ≤ n → BL B (h i)) → ∃ C, 0 ≤ C ∧ ∀ i, i ≤ n → BK B (h i) C
  | 0, hb => by
    obtain ⟨K, k0, k1⟩ := hb 0 (Nat.le_refl _)
    exact ⟨K, k0, fun i hi => by rw [show i = 0 by omega]; exact k1⟩
  | n + 1, hb => by
    obtain ⟨C, c0, c1⟩ := bk_all n (fun i hi => hb i (by omega))
    obtain ⟨K, k0, k1⟩ := hb (n + 1) (Nat.le_refl _)
    refine ⟨C + K, by grind, fun i hi => ?_⟩
    by_cases e : i = n + 1
    · rw [e]
      exact k1.up (by grind)
    · exact (c1 i (by omega)).up (by grind)
/-- the signs at a place -/
def sgB (h : Nat → Rat → Rat) (x : Rat) : Nat → Bool := fun i => decide (0 ≤ h i x)
theorem sgB_pos {h : Nat → Rat → Rat} {x : Rat} {i : Nat} (z : 0 < h i x) : sgB h x i = true := decide_eq_true (Rat.le_of_lt z)
theorem sgB_neg {h : Nat → Rat → Rat} {x : Rat} {i : Nat} (z : h i x < 0) : sgB h x i = false := decide_eq_false (by grind)
theorem piece {B C e : Rat} {n : Nat} {h : Nat → Rat → Rat} (he : 0 < e) (hC : 0 ≤ C) (hL : ∀ i, i ≤ n → BK B (h i) C) (h1 : ∀ x, h n x = 1) (eP : ∀ i, i < n → ∀ x, -B ≤ x → x ≤ B → ¬ Big e (h i x) → Big e (h (i + 1) x)) (eR : ∀ i, i + 1 < n → ∀ x, -B ≤ x → x ≤ B → ¬ Big e (h (i + 1) x) → Big e (h i x) ∧ Big e (h (i + 2) x) ∧ h i x * h (i + 2) x < 0) {x y : Rat} (x0 : -B ≤ x) (xy : x ≤ y) (y0 : y ≤ B) (hs : C * (y - x) < e) (Dp : 0 < n → (∀ z, x ≤ z → z ≤ y → 0 < h 1 z) → 0 < h 0 x → 0 < h 0 y) (Dn : 0 < n → (∀ z, x ≤ z → z ≤ y → h 1 z < 0) → h 0 x < 0 → h 0 y < 0) (hx0 : h 0 x ≠ 0) : cV (sgB h y) n ≤ cV (sgB h x) n ∧ (Big e (h 0 x) → cV (sgB h y) n = cV (sgB h x) n) := by
  have bigc : ∀ i, i ≤ n → Big e (h i x) → (∀ z, x ≤ z → z ≤ y → 0 < h i z) ∨ ∀ z, x ≤ z → z ≤ y → h i z < 0 := by
    intro i hi hb
    have w : ∀ z, x ≤ z → z ≤ y → C * (z - x) ≤ C * (y - x) := fun z z1 z2 => Rat.mul_le_mul_of_nonneg_left (by grind) hC
    rcases hb with hb | hb
    · refine Or.inl (fun z z1 z2 => ?_)
      have a1 := (hL i hi).2 x z x0 z1 (by grind)
      have a2 := w z z1 z2
      grind
    · refine Or.inr (fun z z1 z2 => ?_)
      have a1 := (hL i hi).2 x z x0 z1 (by grind)
      have a2 := w z z1 z2
      grind
  have same : ∀ i, i ≤ n → Big e (h i x) → sgB h x i = sgB h y i := by
    intro i hi hb
    rcases bigc i hi hb with z | z
    · rw [sgB_pos (z x Rat.le_refl xy), sgB_pos (z y xy Rat.le_refl)]
    · rw [sgB_neg (z x Rat.le_refl xy), sgB_neg (z y xy Rat.le_refl)]
  have xB : x ≤ B := by grind
  have en : sgB h x n = sgB h y n := by unfold sgB; rw [h1, h1]
  have key := comb (s := sgB h x) (t := sgB h y) (n := n) (fun i hi => ?_) (fun hn => ?_) n (Nat.le_refl _) en
  · exact ⟨key.1, fun hb => key.2 (same 0 (by omega) hb)⟩
  · by_cases b : Big e (h (i + 1) x)
    · exact Or.inl (same (i + 1) (by omega) b)
    · obtain ⟨r1, r2, r3⟩ := eR i (by omega) x x0 xB b
      refine Or.inr ⟨same i (by omega) r1, same (i + 2) hi r2, fun z => ?_⟩
      unfold sgB at z
      by_cases c : 0 ≤ h i x
      · have c2 : 0 ≤ h (i + 2) x := by
          rw [decide_eq_true c] at z
          exact of_decide_eq_true z.symm
        have := Rat.mul_nonneg c c2
        grind
      · have c2 : ¬ 0 ≤ h (i + 2) x := by
          rw [decide_eq_false c] at z
          exact of_decide_eq_false z.symm
        have := Rat.mul_pos (show 0 < -(h i x) by grind) (show 0 < -(h (i + 2) x) by grind)
        grind
  · by_cases b : Big e (h 0 x)
    · exact Or.inl (same 0 (by omega) b)
    · have b1 := eP 0 hn x x0 xB b
      by_cases c : sgB h x 0 = sgB h y 0
      · exact Or.inl c
      · refine Or.inr ⟨same 1 (by omega) b1, ?_⟩
        rcases bigc 1 (by omega) b1 with z | z
        · have c0 : h 0 x < 0 := by
            apply Classical.byContradiction
            intro c1
            have p : 0 < h 0 x := by grind
            exact c (by rw [sgB_pos p, sgB_pos (Dp hn z p)])
          rw [sgB_neg c0, sgB_pos (z x Rat.le_refl xy)]
          decide
        · have c0 : 0 < h 0 x := by
            apply Classical.byContradiction
            intro c1
            have p : h 0 x < 0 := by grind
            exact c (by rw [sgB_neg p, sgB_neg (Dn hn z p)])
          rw [sgB_pos c0, sgB_neg (z x Rat.le_refl xy)]
          decide
theorem sturm {B : Rat} {n : Nat} {h q : Nat → Rat → Rat} {al be : Nat → Rat} {P g : Rat → Rat} {kp C2 dl : Rat} (H : ∀ i, i + 2 ≤ n → 0 < al i ∧ 0 < be i ∧ BL B (q i) ∧ ∀ x, al i * h i x = q i x * h (i + 1) x - be i * h (i + 2) x) (h1 : ∀ x, h n x = 1) (hB : ∀ i, i ≤ n → BL B (h i)) (hg : BL B g) (hPg : ∀ z, P z = g z * h 0 z) (hk : 0 < kp) (h2 : 0 ≤ C2) (hP : 0 < n → ∀ z w, -B ≤ z → z ≤ w → w ≤ B → P z * P z + (w - z) * (kp * (g z * g z * (h 0 z * h 1 z))) - C2 * ((w - z) * (w - z)) ≤ P w * P w) (hd : ∀ u v, u < v → ∃ z, u < z ∧ z < v ∧ P z ≠ 0) (dl0 : 0 < dl) {x y : Rat} (x0 : -B ≤ x) (xy : x ≤ y) (y0 : y ≤ B) (hx : P x ≠ 0) (hy : P y ≠ 0) : cV (sgB h y) n ≤ cV (sgB h x) n ∧ ((∀ z, x ≤ z → z ≤ y → Big dl (P z)) → cV (sgB h y) n = cV (sgB h x) n) := by
  by_cases hn : n = 0
  · subst hn
    exact ⟨Int.le_refl _, fun _ => rfl⟩
  obtain ⟨C, hC, hL⟩ := bk_all n hB
  obtain ⟨G, hG, hGb, -⟩ := hg
  obtain ⟨e1, e10, eP1, eR1⟩ := nc H h1 (n - 1) (by omega)
  obtain ⟨e, e0, ee1, eG⟩ : ∃ e, 0 < e ∧ e ≤ e1 ∧ G * e < dl := by
    have r0 := Rat.inv_pos.mpr (show 0 < G + 1 by grind)
    have r1 : (G + 1) * (G + 1)⁻¹ = 1 := Rat.mul_inv_cancel _ (by grind)
    generalize (G + 1)⁻¹ = r at r0 r1
    have dr := Rat.mul_pos dl0 r0
    have d1 : dl * ((G + 1) * r) = dl := by rw [r1]; grind
    by_cases c : e1 ≤ dl * r
    · refine ⟨e1, e10, Rat.le_refl, ?_⟩
      have := Rat.mul_le_mul_of_nonneg_left c hG
      grind
    · exact ⟨dl * r, dr, by grind, by grind⟩
  have eP : ∀ i, i < n → ∀ x, -B ≤ x → x ≤ B → ¬ Big e (h i x) → Big e (h (i + 1) x) := fun i hi x a b c => (eP1 i (by omega) hi x a b (fun z => c (z.mono ee1))).mono ee1
  have eR : ∀ i, i + 1 < n → ∀ x, -B ≤ x → x ≤ B → ¬ Big e (h (i + 1) x) → Big e (h i x) ∧ Big e (h (i + 2) x) ∧ h i x * h (i + 2) x < 0 := fun i hi x a b c => by
    obtain ⟨z1, z2, z3⟩ := eR1 i (by omega) hi x a b (fun z => c (z.mono ee1))
    exact ⟨z1.mono ee1, z2.mono ee1, z3⟩
  obtain ⟨w, w0, wC⟩ : ∃ w, 0 < w ∧ C * w < e := by
    have r0 := Rat.inv_pos.mpr (show 0 < C + 1 by grind)
    have r1 : (C + 1) * (C + 1)⁻¹ = 1 := Rat.mul_inv_cancel _ (by grind)
    generalize (C + 1)⁻¹ = r at r0 r1
    have er := Rat.mul_pos e0 r0
    have d1 : e * ((C + 1) * r) = e := by rw [r1]; grind
    exact ⟨e * r, er, by grind⟩
  have nz : ∀ z, P z ≠ 0 → h 0 z ≠ 0 := fun z hz c => hz (by rw [hPg, c]; grind)
  have bigP : ∀ z, -B ≤ z → z ≤ B → Big dl (P z) → Big e (h 0 z) := by
    intro z z1 z2 hb
    apply Classical.byContradiction
    intro c
    obtain ⟨c1, c2⟩ := not_big c
    have m := rq_mul (hGb z z1 z2).1 (hGb z z1 z2).2 (Rat.le_of_lt c1) (Rat.le_of_lt c2)
    rw [← hPg] at m
    rcases hb with hb | hb <;> grind
  have one : ∀ u v, -B ≤ u → u ≤ v → v ≤ B → P u ≠ 0 → v - u ≤ w → cV (sgB h v) n ≤ cV (sgB h u) n ∧ (Big e (h 0 u) → cV (sgB h v) n = cV (sgB h u) n) := by
    intro u v u0 uv v0 pu huv
    have hs : C * (v - u) < e := by
      have := Rat.mul_le_mul_of_nonneg_left huv hC
      grind
    by_cases euv : u = v
    · rw [euv]
      exact ⟨Int.le_refl _, fun _ => rfl⟩
    have ult : u < v := by grind
    refine piece e0 hC hL h1 eP eR u0 uv v0 hs (fun hn0 hp hx => ?_) (fun hn0 hp hx => ?_) (nz u pu)
    · exact dlem hC h2 hk (hP hn0) hPg hGb (fun z w z1 z2 z3 => ((hL 0 (by omega)).2 z w z1 z2 z3).1) u0 ult v0 hp hx pu
    · have := dlem (P := fun z => -(P z)) (h0 := fun z => -(h 0 z)) (h1 := fun z => -(h 1 z)) (g := g) hC h2 hk (fun z w z1 z2 z3 => by have := hP hn0 z w z1 z2 z3; grind) (fun z => by rw [hPg]; grind) hGb (fun z w z1 z2 z3 => by have := ((hL 0 (by omega)).2 z w z1 z2 z3).2; grind) u0 ult v0 (fun z z1 z2 => by have := hp z z1 z2; grind) (by grind) (by grind)
      grind
  have main : ∀ N : Nat, ∀ u, -B ≤ u → u ≤ y → y - u ≤ (N : Rat) * (w / 2) → P u ≠ 0 → cV (sgB h y) n ≤ cV (sgB h u) n ∧ ((∀ z, u ≤ z → z ≤ y → Big dl (P z)) → cV (sgB h y) n = cV (sgB h u) n) := by
    intro N
    induction N with
    | zero =>
      intro u u0 uy hu pu
      have : ((0 : Nat) : Rat) = 0 := rfl
      rw [this] at hu
      have : u = y := by grind
      rw [this]
      exact ⟨Int.le_refl _, fun _ => rfl⟩
    | succ N ih =>
      intro u u0 uy hu pu
      have kc : ((N + 1 : Nat) : Rat) = (N : Rat) + 1 := by rw [Rat.natCast_add]; rfl
      rw [kc] at hu
      by_cases c : y - u ≤ w
      · obtain ⟨a1, a2⟩ := one u y u0 uy y0 pu c
        exact ⟨a1, fun z => a2 (bigP u u0 (by grind) (z u Rat.le_refl uy))⟩
      · obtain ⟨m, m1, m2, m3⟩ := hd (u + w / 2) (u + w) (by grind)
        obtain ⟨a1, a2⟩ := one u m u0 (by grind) (by grind) pu (by grind)
        obtain ⟨b1, b2⟩ := ih m (by grind) (by grind) (by grind) m3
        refine ⟨by omega, fun z => ?_⟩
        have c1 := a2 (bigP u u0 (by grind) (z u Rat.le_refl uy))
        have c2 := b2 (fun v v1 v2 => z v (by grind) v2)
        omega
  have w2 : 0 < w / 2 := by grind
  obtain ⟨N, hN⟩ := rq_arch ((y - x) * (w / 2)⁻¹)
  have wi : (w / 2) * (w / 2)⁻¹ = 1 := Rat.mul_inv_cancel _ (by grind)
  refine main N x x0 xy ?_ hx
  have := Rat.mul_le_mul_of_nonneg_right (Rat.le_of_lt hN) (Rat.le_of_lt w2)
  have e9 : (y - x) * (w / 2)⁻¹ * (w / 2) = (y - x) * ((w / 2) * (w / 2)⁻¹) := by grind
  rw [e9, wi] at this
  grind
