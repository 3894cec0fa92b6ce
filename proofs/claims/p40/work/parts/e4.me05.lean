/-! Budan and Fourier: the surplus is not below 0. -/
theorem near_nz {f : Rat → Rat} (hf : PL f) {z : Rat} (h : f z ≠ 0) : ∃ r : Rat, 0 < r ∧ ∀ y, z ≤ y → y ≤ z + r → f y ≠ 0 := by
  obtain ⟨Z, Z0, Z1, Z2⟩ := rq_abs z
  obtain ⟨K, K0, -, K1⟩ := hf.bl (B := Z + 1) (by grind)
  by_cases c : 0 < f z
  · obtain ⟨w, w0, w1⟩ := small_w K0 c
    obtain ⟨r, r0, r1, r2⟩ := rq_min 1 w (by decide) w0
    refine ⟨r, r0, fun y y1 y2 e => ?_⟩
    have l := (K1 z y (by grind) y1 (by grind)).1
    have m : K * (y - z) ≤ K * w := Rat.mul_le_mul_of_nonneg_left (by grind) K0
    grind
  · obtain ⟨w, w0, w1⟩ := small_w K0 (show 0 < -(f z) by grind)
    obtain ⟨r, r0, r1, r2⟩ := rq_min 1 w (by decide) w0
    refine ⟨r, r0, fun y y1 y2 e => ?_⟩
    have l := (K1 z y (by grind) y1 (by grind)).2
    have m : K * (y - z) ≤ K * w := Rat.mul_le_mul_of_nonneg_left (by grind) K0
    grind
theorem dense_all {F : Nat → Rat → Rat} (hP : ∀ i, PL (F i)) : ∀ d : Nat, (∀ i, i ≤ d → ∀ u v : Rat, u < v → ∃ z, u < z ∧ z < v ∧ F i z ≠ 0) → ∀ u v : Rat, u < v → ∃ a b, u < a ∧ a < b ∧ b < v ∧ ∀ y, a ≤ y → y ≤ b → ∀ i, i ≤ d → F i y ≠ 0
  | 0, h, u, v, huv => by
    obtain ⟨z, z1, z2, z3⟩ := h 0 (Nat.le_refl _) u v huv
    obtain ⟨r, r0, r1⟩ := near_nz (hP 0) z3
    obtain ⟨q, q0, q1, q2⟩ := rq_min r (v - z) r0 (by grind)
    exact ⟨z, z + q, z1, by grind, by grind, fun y y1 y2 i hi => by rw [show i = 0 by omega]; exact r1 y y1 (by grind)⟩
  | d + 1, h, u, v, huv => by
    obtain ⟨a, b, a1, a2, a3, a4⟩ := dense_all hP d (fun i hi => h i (by omega)) u v huv
    obtain ⟨z, z1, z2, z3⟩ := h (d + 1) (Nat.le_refl _) a b a2
    obtain ⟨r, r0, r1⟩ := near_nz (hP (d + 1)) z3
    obtain ⟨q, q0, q1, q2⟩ := rq_min r (b - z) r0 (by grind)
    refine ⟨z, z + q, by grind, by grind, by grind, fun y y1 y2 i hi => ?_⟩
    by_cases e : i = d + 1
    · rw [e]
      exact r1 y y1 (by grind)
    · exact a4 y (by grind) (by grind) i (by omega)
/-- one width for all of finitely many -/
theorem wid_all {p : Nat → Rat → Rat → Prop} : ∀ d : Nat, (∀ i, i < d → ∃ w : Rat, 0 < w ∧ ∀ u v, v - u ≤ w → p i u v) → ∃ w : Rat, 0 < w ∧ ∀ u v, v - u ≤ w → ∀ i, i < d → p i u v
  | 0, _ => ⟨1, by decide, fun u v _ i hi => absurd hi (Nat.not_lt_zero i)⟩
  | d + 1, h => by
    obtain ⟨a, a0, a1⟩ := wid_all d (fun i hi => h i (by omega))
    obtain ⟨b, b0, b1⟩ := h d (by omega)
    obtain ⟨c, c0, ca, cb⟩ := rq_min a b a0 b0
    refine ⟨c, c0, fun u v hw i hi => ?_⟩
    by_cases e : i = d
    · rw [e]
      exact b1 u v (by grind)
    · exact a1 u v (by grind) i (by omega)
theorem surNN : SurNN := by
  intro P hW ht
  have z4 : Zd P 4 := hW.zd
  have tn := top_nz ht
  have zt : Zd P (topW P 9 - 1) := fun i hi => topW_zd z4 i hi
  have t5 := topW_95 (P := P) (fun j hj => (hW j).2.2 hj)
  have tle := topW_le P 5
  obtain ⟨d, hd⟩ : ∃ d, d = topW P 9 - 1 := ⟨_, rfl⟩
  rw [← hd] at tn zt
  have d4 : d ≤ 4 := by omega
  have hP : ∀ i, PL (pv (drI i P)) := fun i => PL_pv _
  have hD : ∀ i, DD (pv (drI i P)) (pv (drI (i + 1) P)) := fun i => drv_dd (drI_zd z4 i)
  have tops : ∀ i, i ≤ d → topW (drI i P) 9 = d - i + 1 := fun i hi => by
    obtain ⟨a, b⟩ := drI_top tn zt i hi
    exact topW_eq (by omega) a b
  have dns : ∀ i, i ≤ d → ∀ u v : Rat, u < v → ∃ z, u < z ∧ z < v ∧ pv (drI i P) z ≠ 0 := fun i hi u v huv => by
    obtain ⟨n, g, h, hC, -⟩ := chain_of (drI_zd z4 i) (by rw [tops i hi]; omega)
    exact hC.2.2.2.2.2.2.2 u v huv
  -- the last derivative stays away from 0
  have far : ∀ u v, ¬ Sml (pv (drI d P)) u v := fun u v sm => by
    obtain ⟨a, b⟩ := drI_top tn zt d (Nat.le_refl _)
    rw [Nat.sub_self] at a b
    have e : ∀ x, pv (drI d P) x = (drI d P 0 : Rat) := fun x => by
      unfold pv
      rw [b 1 (by omega), b 2 (by omega), b 3 (by omega), b 4 (by omega), i0]
      grind
    have nz : (drI d P 0 : Rat) ≠ 0 := fun c => a (Rat.intCast_eq_zero_iff.mp c)
    have p := sq_pos nz
    obtain ⟨z, -, -, z3⟩ := sm _ p
    rw [e] at z3
    grind
  have B0 : (0 : Rat) ≤ 8 := by decide
  obtain ⟨w1, w10, W1⟩ := wid_all (p := fun i u v => -8 ≤ u → u < v → v ≤ 8 → pv (drI i P) u ≠ 0 → pv (drI i P) v ≠ 0 → pv (drI (i + 1) P) u ≠ 0 → pv (drI (i + 1) P) v ≠ 0 → (Sml (pv (drI i P)) u v → sB (pv (drI i P)) u ≠ sB (pv (drI (i + 1) P)) u ∧ sB (pv (drI i P)) v = sB (pv (drI (i + 1) P)) v) ∧ (sB (pv (drI i P)) u = sB (pv (drI (i + 1) P)) u → sB (pv (drI i P)) v ≠ sB (pv (drI (i + 1) P)) v → Sml (pv (drI (i + 1) P)) u v)) d (fun i hi => by
    obtain ⟨n, g, h, hC, -, n0, -⟩ := chain_of (drI_zd z4 i) (by rw [tops i (by omega)]; omega)
    obtain ⟨w, w0, S⟩ := hC.two (n0 (by rw [tops i (by omega)]; omega)) B0
    exact ⟨w, w0, fun u v hw u0 uv v0 a b c e => S u v u0 uv v0 hw a b c e⟩)
  obtain ⟨Lm, w2, N, w20, N1, N2, W2⟩ := lev (F := fun i => pv (drI i P)) hD B0 5 P 0 z4 ht (fun i hi => ⟨fun _ => 1, PL.const 1, fun x => by
    rw [show i = 0 by omega]
    show pv P x = pv P x * 1
    grind⟩)
  obtain ⟨w, w0, wa, wb⟩ := rq_min w1 w2 w10 w20
  obtain ⟨V, hV⟩ : ∃ V : Rat → Int, V = fun x => cV (fun i => sB (pv (drI i P)) x) d := ⟨_, rfl⟩
  have step : ∀ u v, -8 ≤ u → u < v → v ≤ 8 → v - u ≤ w → (∀ i, i ≤ d → pv (drI i P) u ≠ 0) → (∀ i, i ≤ d → pv (drI i P) v ≠ 0) → Lm u - Lm v ≤ V u - V v := by
    intro u v u0 uv v0 hw gu gv
    have fa := fall_all (s := fun i => sB (pv (drI i P)) u) (t := fun i => sB (pv (drI i P)) v) (c := fun i => Sml (pv (drI i P)) u v) (d := d)
      (fun i hi => (W1 u v (by grind) i hi u0 uv v0 (gu i (by omega)) (gv i (by omega)) (gu (i + 1) (by omega)) (gv (i + 1) (by omega))).1)
      (fun i hi => (W1 u v (by grind) i hi u0 uv v0 (gu i (by omega)) (gv i (by omega)) (gu (i + 1) (by omega)) (gv (i + 1) (by omega))).2)
      (far u v)
    have fa1 : V v ≤ V u := by rw [hV]; exact fa.1
    have fa2 : ∀ r : Nat, (∀ i, i ≤ r → Sml (pv (drI i P)) u v) → V v + (r : Nat) + 1 ≤ V u := by rw [hV]; exact fa.2
    rcases W2 u v u0 uv v0 (by grind) (gu 0 (by omega)) (gv 0 (by omega)) with l | ⟨r, r1, r2⟩
    · omega
    · have := fa2 r (fun i hi => r2 i (by omega))
      omega
  -- the ends
  obtain ⟨a1, a10, A1⟩ := var_at d4 tn zt (-4)
  obtain ⟨a2, a20, A2⟩ := var_at d4 tn zt 7
  obtain ⟨b1, b10, B1⟩ := N2 (-4)
  obtain ⟨b2, b20, B2⟩ := N2 7
  obtain ⟨c1, c10, c1a, c1b⟩ := rq_min a1 a2 a10 a20
  obtain ⟨c2, c20, c2a, c2b⟩ := rq_min b1 b2 b10 b20
  obtain ⟨c3, c30, c3a, c3b⟩ := rq_min c1 c2 c10 c20
  obtain ⟨t, t0, ta, tb⟩ := rq_min c3 1 c30 (by decide)
  obtain ⟨g1, v1⟩ := A1 t t0 (by grind)
  obtain ⟨g2, v2⟩ := A2 t t0 (by grind)
  have l1 := B1 t t0 (by grind)
  have l2 := B2 t t0 (by grind)
  have e4 : ((-4 : Int) : Rat) = -4 := rfl
  have e7 : ((7 : Int) : Rat) = 7 := rfl
  rw [e4] at g1 v1 l1
  rw [e7] at g2 v2 l2
  have V1 : V (-4 + t) = (chZ (fun i => sg (shP P (-4) i)) 5).1 := by rw [hV]; exact v1
  have V2 : V (7 + t) = (chZ (fun i => sg (shP P 7 i)) 5).1 := by rw [hV]; exact v2
  obtain ⟨y, hy⟩ : ∃ y : Rat, y = 7 + t := ⟨_, rfl⟩
  rw [← hy] at g2 V2 l2
  have main : ∀ n : Nat, ∀ u, -8 ≤ u → u ≤ y → y - u ≤ (n : Rat) * (w / 2) → (∀ i, i ≤ d → pv (drI i P) u ≠ 0) → Lm u - Lm y ≤ V u - V y := by
    intro n
    induction n with
    | zero =>
      intro u u0 uy hu gu
      have : ((0 : Nat) : Rat) = 0 := rfl
      rw [this] at hu
      have : u = y := by grind
      rw [this]
      omega
    | succ n ih =>
      intro u u0 uy hu gu
      have kc : ((n + 1 : Nat) : Rat) = (n : Rat) + 1 := by rw [Rat.natCast_add]; rfl
      rw [kc] at hu
      by_cases e : u = y
      · rw [e]
        omega
      · by_cases c : y - u ≤ w
        · exact step u y u0 (by grind) (by grind) c gu g2
        · obtain ⟨a, b, ua, ab, bv, gm⟩ := dense_all hP d dns (u + w / 2) (u + w) (by grind)
          have g3 := gm a Rat.le_refl (Rat.le_of_lt ab)
          have s1 := step u a u0 (by grind) (by grind) (by grind) gu g3
          have s2 := ih a (by grind) (by grind) (by grind) g3
          omega
  obtain ⟨n, hn⟩ := steps_of (L := y - (-4 + t)) (show 0 < w / 2 by grind)
  have fin := main n (-4 + t) (by grind) (by grind) hn g1
  rw [V1, V2, l1, l2] at fin
  rw [N1]
  exact fin
