/-! Derivatives of polynomials; what comes near 0. -/
/-- f2 is the derivative of f -/
def DD (f f2 : Rat → Rat) : Prop := ∀ B : Rat, 0 ≤ B → ∃ C : Rat, 0 ≤ C ∧ ∀ z w, -B ≤ z → z ≤ B → -B ≤ w → w ≤ B → -(C * ((w - z) * (w - z))) ≤ f w - f z - (w - z) * f2 z ∧ f w - f z - (w - z) * f2 z ≤ C * ((w - z) * (w - z))
theorem DD.cong {f f2 g g2 : Rat → Rat} (h : DD f f2) (e : ∀ x, f x = g x) (e2 : ∀ x, f2 x = g2 x) : DD g g2 := by
  rw [show g = f from funext fun x => (e x).symm, show g2 = f2 from funext fun x => (e2 x).symm]
  exact h
theorem DD.const (c : Rat) : DD (fun _ => c) (fun _ => 0) := fun B _ => ⟨0, by decide, fun z w _ _ _ _ => by constructor <;> grind⟩
theorem DD.idf : DD (fun x => x) (fun _ => 1) := fun B _ => ⟨0, by decide, fun z w _ _ _ _ => by constructor <;> grind⟩
theorem DD.add {f f2 g g2 : Rat → Rat} (hf : DD f f2) (hg : DD g g2) : DD (fun x => f x + g x) (fun x => f2 x + g2 x) := fun B hB => by
  obtain ⟨C, c0, c1⟩ := hf B hB
  obtain ⟨D, d0, d1⟩ := hg B hB
  refine ⟨C + D, by grind, fun z w h1 h2 h3 h4 => ?_⟩
  have a := c1 z w h1 h2 h3 h4
  have b := d1 z w h1 h2 h3 h4
  have e : f w + g w - (f z + g z) - (w - z) * (f2 z + g2 z) = (f w - f z - (w - z) * f2 z) + (g w - g z - (w - z) * g2 z) := by grind
  rw [e]
  generalize (w - z) * (w - z) = t at *
  constructor <;> grind
/-- how far a bounded function moves -/
theorem BK.both {B K : Rat} {f : Rat → Rat} (h : BK B f K) {z w : Rat} (h1 : -B ≤ z) (h2 : z ≤ B) (h3 : -B ≤ w) (h4 : w ≤ B) (k0 : 0 ≤ K) (a : Rat) {A : Rat} (a0 : 0 ≤ A) (a1 : -A ≤ a) (a2 : a ≤ A) : -(A * K * ((w - z) * (w - z))) ≤ (w - z) * (a * (f w - f z)) ∧ (w - z) * (a * (f w - f z)) ≤ A * K * ((w - z) * (w - z)) := by
  by_cases c : z ≤ w
  · have m := h.2 z w h1 c h4
    have t := rq_mul (a := a) (b := f w - f z) (A := A) (B := K * (w - z)) a1 a2 m.1 m.2
    have p := Rat.mul_le_mul_of_nonneg_left t.1 (show 0 ≤ w - z by grind)
    have q := Rat.mul_le_mul_of_nonneg_left t.2 (show 0 ≤ w - z by grind)
    constructor <;> grind
  · have m := h.2 w z h3 (by grind) h2
    have t := rq_mul (a := a) (b := f z - f w) (A := A) (B := K * (z - w)) a1 a2 m.1 m.2
    have p := Rat.mul_le_mul_of_nonneg_left t.1 (show 0 ≤ z - w by grind)
    have q := Rat.mul_le_mul_of_nonneg_left t.2 (show 0 ≤ z - w by grind)
    constructor <;> grind
theorem DD.mul {f f2 g g2 : Rat → Rat} (Pf : PL f) (Pf2 : PL f2) (Pg : PL g) (hf : DD f f2) (hg : DD g g2) : DD (fun x => f x * g x) (fun x => f2 x * g x + f x * g2 x) := fun B hB => by
  obtain ⟨C, c0, c1⟩ := hf B hB
  obtain ⟨D, d0, d1⟩ := hg B hB
  obtain ⟨K, k0, k1⟩ := Pf.bl hB
  obtain ⟨K2, k20, k21⟩ := Pf2.bl hB
  obtain ⟨L, l0, l1⟩ := Pg.bl hB
  refine ⟨C * L + K * D + K2 * L, ?_, fun z w h1 h2 h3 h4 => ?_⟩
  · have := Rat.mul_nonneg c0 l0
    have := Rat.mul_nonneg k0 d0
    have := Rat.mul_nonneg k20 l0
    grind
  · have t0 := rq_sq (w - z)
    have a := c1 z w h1 h2 h3 h4
    have b := d1 z w h1 h2 h3 h4
    have gw := l1.1 w h3 h4
    have fz := k1.1 z h1 h2
    have f2z := k21.1 z h1 h2
    have m1 := rq_mul a.1 a.2 gw.1 gw.2
    have m2 := rq_mul fz.1 fz.2 b.1 b.2
    have m3 := l1.both h1 h2 h3 h4 l0 (f2 z) k20 f2z.1 f2z.2
    have e : f w * g w - f z * g z - (w - z) * (f2 z * g z + f z * g2 z) = (f w - f z - (w - z) * f2 z) * g w + f z * (g w - g z - (w - z) * g2 z) + (w - z) * (f2 z * (g w - g z)) := by grind
    rw [e]
    generalize (f w - f z - (w - z) * f2 z) * g w = u1 at *
    generalize f z * (g w - g z - (w - z) * g2 z) = u2 at *
    generalize (w - z) * (f2 z * (g w - g z)) = u3 at *
    generalize (w - z) * (w - z) = t at *
    have e1 : C * t * L = C * L * t := by grind
    have e2 : K * (D * t) = K * D * t := by grind
    rw [e1] at m1
    rw [e2] at m2
    have e3 : (C * L + K * D + K2 * L) * t = C * L * t + K * D * t + K2 * L * t := by grind
    rw [e3]
    constructor <;> grind
theorem DD.half {f a b : Rat → Rat} (h : DD f a) (g : DD f b) (x : Rat) : a x ≤ b x := by
  apply Classical.byContradiction
  intro hn
  obtain ⟨X, X0, X1, X2⟩ := rq_abs x
  obtain ⟨C, c0, c1⟩ := h (X + 1) (by grind)
  obtain ⟨D, d0, d1⟩ := g (X + 1) (by grind)
  obtain ⟨E, hE⟩ : ∃ E, E = a x - b x := ⟨_, rfl⟩
  have E0 : 0 < E := by grind
  have r0 := Rat.inv_pos.mpr (show 0 < C + D + 1 by grind)
  have r1 : (C + D + 1) * (C + D + 1)⁻¹ = 1 := Rat.mul_inv_cancel _ (by grind)
  generalize (C + D + 1)⁻¹ = r at r0 r1
  obtain ⟨t, t0, t1, t2⟩ := rq_min 1 (E * r) (by decide) (Rat.mul_pos E0 r0)
  have p := c1 x (x + t) (by grind) (by grind) (by grind) (by grind)
  have q := d1 x (x + t) (by grind) (by grind) (by grind) (by grind)
  rw [show x + t - x = t by grind] at p q
  have k1 : t * E ≤ t * ((C + D) * t) := by
    have e1 : t * E = t * a x - t * b x := by rw [hE]; grind
    have e2 : t * ((C + D) * t) = C * (t * t) + D * (t * t) := by grind
    rw [e1, e2]
    grind
  have k2 : E ≤ (C + D) * t := Rat.le_of_mul_le_mul_left k1 t0
  have k3 : (C + D + 1) * t < (C + D + 1) * (E * r) := Rat.mul_lt_mul_of_pos_left t2 (by grind)
  have e3 : (C + D + 1) * (E * r) = E * ((C + D + 1) * r) := by grind
  rw [e3, r1] at k3
  have e4 : (C + D + 1) * t = (C + D) * t + t := by grind
  rw [e4] at k3
  grind
theorem DD.uniq {f a b : Rat → Rat} (h : DD f a) (g : DD f b) (x : Rat) : a x = b x := by
  have h1 := h.half g x
  have h2 := g.half h x
  grind
theorem pe_der : ∀ l : List Rat, ∃ f2, PL f2 ∧ DD (pe l) f2
  | [] => ⟨fun _ => 0, PL.const 0, DD.const 0⟩
  | a :: l => by
    obtain ⟨g, hg, hd⟩ := pe_der l
    exact ⟨fun x => 0 + (1 * pe l x + x * g x), (PL.const 0).add (((PL.const 1).mul ⟨l, fun _ => rfl⟩).add (PL.idf.mul hg)), DD.add (DD.const a) (DD.mul PL.idf (PL.const 1) ⟨l, fun _ => rfl⟩ DD.idf hd)⟩
theorem PL.der {f : Rat → Rat} (h : PL f) : ∃ f2, PL f2 ∧ DD f f2 := by
  obtain ⟨l, e⟩ := h
  obtain ⟨f2, h1, h2⟩ := pe_der l
  exact ⟨f2, h1, h2.cong (fun x => (e x).symm) (fun _ => rfl)⟩
/-- the derivative of a row of coefficients -/
def drv (f : Nat → Int) : Nat → Int := fun j => f (j + 1) * ((j : Int) + 1)
theorem drv_zd {f : Nat → Int} {d : Nat} (h : Zd f (d + 1)) : Zd (drv f) d := fun i hi => by
  unfold drv
  rw [h (i + 1) (by omega), Int.zero_mul]
theorem drv_pv {f : Nat → Int} (hz : Zd f 4) (x : Rat) : pv (drv f) x = (f 1 : Rat) + x * (2 * (f 2 : Rat) + x * (3 * (f 3 : Rat) + x * (4 * (f 4 : Rat)))) := by
  have h0 : drv f 0 = f 1 := by show f 1 * (0 + 1) = f 1; omega
  have h1 : drv f 1 = 2 * f 2 := by show f 2 * (1 + 1) = 2 * f 2; omega
  have h2 : drv f 2 = 3 * f 3 := by show f 3 * (2 + 1) = 3 * f 3; omega
  have h3 : drv f 3 = 4 * f 4 := by show f 4 * (3 + 1) = 4 * f 4; omega
  have h4 : drv f 4 = 0 := by show f 5 * (4 + 1) = 0; rw [hz 5 (by omega)]; rfl
  unfold pv
  rw [h0, h1, h2, h3, h4, i0]
  simp only [Rat.intCast_mul]
  have e2 : ((2 : Int) : Rat) = 2 := rfl
  have e3 : ((3 : Int) : Rat) = 3 := rfl
  have e4 : ((4 : Int) : Rat) = 4 := rfl
  rw [e2, e3, e4]
  grind
theorem drv_dd {f : Nat → Int} (hz : Zd f 4) : DD (pv f) (pv (drv f)) := by
  have d3 : DD (fun x => (f 3 : Rat) + x * (f 4 : Rat)) (fun x => 0 + (1 * (f 4 : Rat) + x * 0)) := DD.add (DD.const _) (DD.mul PL.idf (PL.const 1) (PL.const _) DD.idf (DD.const _))
  have p3 : PL (fun x => (f 3 : Rat) + x * (f 4 : Rat)) := (PL.const _).add (PL.idf.mul (PL.const _))
  have d2 := DD.add (DD.const (f 2 : Rat)) (DD.mul PL.idf (PL.const 1) p3 DD.idf d3)
  have p2 := (PL.const (f 2 : Rat)).add (PL.idf.mul p3)
  have d1 := DD.add (DD.const (f 1 : Rat)) (DD.mul PL.idf (PL.const 1) p2 DD.idf d2)
  have p1 := (PL.const (f 1 : Rat)).add (PL.idf.mul p2)
  have d0 := DD.add (DD.const (f 0 : Rat)) (DD.mul PL.idf (PL.const 1) p1 DD.idf d1)
  refine d0.cong (fun x => rfl) (fun x => ?_)
  rw [drv_pv hz]
  grind
/-- f comes near 0 from u to v -/
def Sml (f : Rat → Rat) (u v : Rat) : Prop := ∀ dl : Rat, 0 < dl → ∃ z, u ≤ z ∧ z ≤ v ∧ f z * f z < dl
theorem small_w {K e : Rat} (hK : 0 ≤ K) (he : 0 < e) : ∃ w, 0 < w ∧ K * w < e := by
  have r0 := Rat.inv_pos.mpr (show 0 < K + 1 by grind)
  have r1 : (K + 1) * (K + 1)⁻¹ = 1 := Rat.mul_inv_cancel _ (by grind)
  generalize (K + 1)⁻¹ = r at r0 r1
  have er := Rat.mul_pos he r0
  have d1 : e * ((K + 1) * r) = e := by rw [r1]; grind
  exact ⟨e * r, er, by grind⟩
theorem steps_of {L w : Rat} (hw : 0 < w) : ∃ N : Nat, L ≤ (N : Rat) * w := by
  obtain ⟨N, hN⟩ := rq_arch (L * w⁻¹)
  have wi : w * w⁻¹ = 1 := Rat.mul_inv_cancel _ (by grind)
  refine ⟨N, ?_⟩
  have := Rat.mul_le_mul_of_nonneg_right (Rat.le_of_lt hN) (Rat.le_of_lt hw)
  have e9 : L * w⁻¹ * w = L * (w * w⁻¹) := by grind
  rw [e9, wi] at this
  grind
/-- what stays away from 0 keeps its sign -/
theorem big_sgn {B eta : Rat} {f : Rat → Rat} (he : 0 < eta) (hf : BL B f) {u v : Rat} (u0 : -B ≤ u) (uv : u ≤ v) (v0 : v ≤ B) (hb : ∀ z, u ≤ z → z ≤ v → Big eta (f z)) (hu : 0 < f u) : 0 < f v := by
  obtain ⟨K, k0, -, k1⟩ := hf
  obtain ⟨w, w0, wK⟩ := small_w k0 he
  have main : ∀ N : Nat, ∀ x, u ≤ x → x ≤ v → v - x ≤ (N : Rat) * w → 0 < f x → 0 < f v := by
    intro N
    induction N with
    | zero =>
      intro x ux xv hx fx
      have : ((0 : Nat) : Rat) = 0 := rfl
      rw [this] at hx
      have : x = v := by grind
      rw [← this]
      exact fx
    | succ N ih =>
      intro x ux xv hx fx
      have kc : ((N + 1 : Nat) : Rat) = (N : Rat) + 1 := by rw [Rat.natCast_add]; rfl
      rw [kc] at hx
      have fe : eta ≤ f x := by
        rcases hb x ux xv with h | h <;> grind
      by_cases c : v - x ≤ w
      · have l := (k1 x v (by grind) xv v0).1
        have m := Rat.mul_le_mul_of_nonneg_left c k0
        grind
      · have l := (k1 x (x + w) (by grind) (by grind) (by grind)).1
        rw [show x + w - x = w by grind] at l
        exact ih (x + w) (by grind) (by grind) (by grind) (by grind)
  obtain ⟨N, hN⟩ := steps_of (L := v - u) w0
  exact main N u Rat.le_refl uv hN hu
/-- a change of sign brings a polynomial, and all that it divides, near 0 -/
theorem Sml.of {A k F : Rat → Rat} (hA : PL A) (hk : PL k) (hF : ∀ z, F z = A z * k z) {u v : Rat} (uv : u ≤ v) (hs : (A u < 0 ∧ 0 < A v) ∨ (0 < A u ∧ A v < 0)) : Sml F u v := by
  intro dl dl0
  obtain ⟨U, U0, U1, U2⟩ := rq_abs u
  obtain ⟨V, V0, V1, V2⟩ := rq_abs v
  have B0 : 0 ≤ U + V := by grind
  obtain ⟨K, k0, k1, -⟩ := hk.bl B0
  have KK := rq_sq K
  obtain ⟨w, w0, w1⟩ := small_w KK dl0
  obtain ⟨eta, e0, e1, e2⟩ := rq_min 1 w (by decide) w0
  have near : ∃ z, u ≤ z ∧ z ≤ v ∧ ¬ Big eta (A z) := by
    apply Classical.byContradiction
    intro hn
    have hb : ∀ z, u ≤ z → z ≤ v → Big eta (A z) := fun z z1 z2 => by
      apply Classical.byContradiction
      intro h
      exact hn ⟨z, z1, z2, h⟩
    rcases hs with ⟨s1, s2⟩ | ⟨s1, s2⟩
    · have nA : PL (fun x => -1 * A x) := (PL.const (-1)).mul hA
      have := big_sgn (f := fun x => -1 * A x) e0 (nA.bl B0) (by grind) uv (by grind) (fun z z1 z2 => by
        rcases hb z z1 z2 with h | h
        · exact Or.inr (by grind)
        · exact Or.inl (by grind)) (by grind)
      grind
    · have := big_sgn e0 (hA.bl B0) (by grind) uv (by grind) hb s1
      grind
  obtain ⟨z, z1, z2, z3⟩ := near
  obtain ⟨n1, n2⟩ := not_big z3
  have kz := k1 z (by grind) (by grind)
  have m := rq_mul (Rat.le_of_lt n1) (Rat.le_of_lt n2) kz.1 kz.2
  have m2 := rq_mul m.1 m.2 m.1 m.2
  refine ⟨z, z1, z2, ?_⟩
  rw [hF]
  have e3 : eta * eta ≤ eta := by
    have := Rat.mul_le_mul_of_nonneg_left (Rat.le_of_lt e1) (Rat.le_of_lt e0)
    grind
  have e4 : K * K * (eta * eta) ≤ K * K * eta := Rat.mul_le_mul_of_nonneg_left e3 KK
  have e5 : K * K * eta ≤ K * K * w := Rat.mul_le_mul_of_nonneg_left (Rat.le_of_lt e2) KK
  have e6 : eta * K * (eta * K) = K * K * (eta * eta) := by grind
  rw [e6] at m2
  grind
/-- a function that falls no faster than in measure keeps half of itself on a short way -/
theorem gron {B C c : Rat} {f f2 : Rat → Rat} (T : ∀ z w, -B ≤ z → z ≤ w → w ≤ B → f z + (w - z) * f2 z - C * ((w - z) * (w - z)) ≤ f w) (hC : 0 ≤ C) (hc : 0 ≤ c) {x y : Rat} (x0 : -B ≤ x) (xy : x ≤ y) (y0 : y ≤ B) (hd : ∀ z, x ≤ z → z ≤ y → -(c * f z) ≤ f2 z) (hl : c * (y - x) ≤ 1 / 2) (fx : 0 ≤ f x) : f x * (1 / 2) ≤ f y := by
  by_cases e : x = y
  · rw [← e]
    grind
  apply Classical.byContradiction
  intro hn
  obtain ⟨L, hL⟩ : ∃ L, L = y - x := ⟨_, rfl⟩
  have L0 : 0 < L := by grind
  obtain ⟨E, hE⟩ : ∃ E, E = f x * (1 / 2) - f y := ⟨_, rfl⟩
  have E0 : 0 < E := by grind
  obtain ⟨w, w0, w1⟩ := small_w (Rat.mul_nonneg hC (Rat.le_of_lt L0)) E0
  obtain ⟨N, hN⟩ := rq_arch (L * w⁻¹ + 1)
  have wi0 := Rat.inv_pos.mpr w0
  have wi : w * w⁻¹ = 1 := Rat.mul_inv_cancel _ (by grind)
  have lw0 := Rat.mul_pos L0 wi0
  have N0 : 0 < (N : Rat) := by grind
  have r0 := Rat.inv_pos.mpr N0
  have rN : (N : Rat) * (N : Rat)⁻¹ = 1 := Rat.mul_inv_cancel _ (by grind)
  generalize (N : Rat)⁻¹ = r at r0 rN
  obtain ⟨ep, hep⟩ : ∃ ep, ep = L * r := ⟨_, rfl⟩
  have ep0 : 0 < ep := by rw [hep]; exact Rat.mul_pos L0 r0
  have epN : (N : Rat) * ep = L := by
    have : (N : Rat) * ep = L * ((N : Rat) * r) := by grind
    rw [this, rN]
    grind
  have epw : ep ≤ w := by
    have q1 : L * w⁻¹ * (w * r) ≤ (N : Rat) * (w * r) := Rat.mul_le_mul_of_nonneg_right (by grind) (Rat.le_of_lt (Rat.mul_pos w0 r0))
    have q2 : L * w⁻¹ * (w * r) = L * r * (w * w⁻¹) := by grind
    have q3 : (N : Rat) * (w * r) = w * ((N : Rat) * r) := by grind
    rw [q2, wi, q3, rN] at q1
    grind
  have ce0 : 0 ≤ c * ep := Rat.mul_nonneg hc (Rat.le_of_lt ep0)
  have ce1 : c * ep ≤ 1 := by
    have N1 : 1 ≤ (N : Rat) := by
      have : (1 : Rat) ≤ L * w⁻¹ + 1 := by grind
      grind
    have q1 : 1 * ep ≤ (N : Rat) * ep := Rat.mul_le_mul_of_nonneg_right N1 (Rat.le_of_lt ep0)
    have q2 : c * ep ≤ c * (y - x) := Rat.mul_le_mul_of_nonneg_left (by grind) hc
    grind
  have claim : ∀ k : Nat, k ≤ N → f x * (1 - (k : Rat) * (c * ep)) - (k : Rat) * (C * (ep * ep)) ≤ f (x + (k : Rat) * ep) := by
    intro k
    induction k with
    | zero =>
      intro _
      have e0 : ((0 : Nat) : Rat) = 0 := rfl
      rw [e0, show x + 0 * ep = x by grind]
      grind
    | succ k ih =>
      intro hkN
      have ih := ih (by omega)
      have kc : ((k + 1 : Nat) : Rat) = (k : Rat) + 1 := by rw [Rat.natCast_add]; rfl
      have k0 : 0 ≤ (k : Rat) := Rat.natCast_nonneg
      have kN : (k : Rat) + 1 ≤ (N : Rat) := by rw [← kc]; exact Rat.natCast_le_natCast.mpr hkN
      rw [kc]
      have ke0 : 0 ≤ (k : Rat) * ep := Rat.mul_nonneg k0 (Rat.le_of_lt ep0)
      have keN : ((k : Rat) + 1) * ep ≤ (N : Rat) * ep := Rat.mul_le_mul_of_nonneg_right kN (Rat.le_of_lt ep0)
      generalize (k : Rat) = kk at *
      obtain ⟨z, hz⟩ : ∃ z, z = x + kk * ep := ⟨_, rfl⟩
      have hw : x + (kk + 1) * ep = z + ep := by grind
      rw [hw]
      rw [← hz] at ih
      have st := T z (z + ep) (by grind) (by grind) (by grind)
      rw [show z + ep - z = ep by grind] at st
      have dz := Rat.mul_le_mul_of_nonneg_left (hd z (by grind) (by grind)) (Rat.le_of_lt ep0)
      have m := Rat.mul_le_mul_of_nonneg_left ih (show 0 ≤ 1 - c * ep by grind)
      have cc0 : 0 ≤ C * (ep * ep) := Rat.mul_nonneg hC (Rat.mul_nonneg (Rat.le_of_lt ep0) (Rat.le_of_lt ep0))
      have n1 : 0 ≤ c * ep * (kk * (C * (ep * ep))) := Rat.mul_nonneg ce0 (Rat.mul_nonneg k0 cc0)
      have n2 : 0 ≤ c * ep * (f x * (kk * (c * ep))) := Rat.mul_nonneg ce0 (Rat.mul_nonneg fx (Rat.mul_nonneg k0 ce0))
      have e1 : (1 - c * ep) * (f x * (1 - kk * (c * ep)) - kk * (C * (ep * ep))) = f x * (1 - (kk + 1) * (c * ep)) + c * ep * (f x * (kk * (c * ep))) - kk * (C * (ep * ep)) + c * ep * (kk * (C * (ep * ep))) := by grind
      have e2 : (1 - c * ep) * f z = f z + ep * -(c * f z) := by grind
      rw [e1, e2] at m
      have e3 : (kk + 1) * (C * (ep * ep)) = kk * (C * (ep * ep)) + C * (ep * ep) := by grind
      rw [e3]
      grind
  have fin := claim N (Nat.le_refl _)
  rw [epN, show x + L = y by grind] at fin
  have e1 : (N : Rat) * (c * ep) = c * ((N : Rat) * ep) := by grind
  have e2 : (N : Rat) * (C * (ep * ep)) = C * ((N : Rat) * ep) * ep := by grind
  rw [e1, e2, epN] at fin
  have q1 : C * L * ep ≤ C * L * w := Rat.mul_le_mul_of_nonneg_left epw (Rat.mul_nonneg hC (Rat.le_of_lt L0))
  have q2 : c * L ≤ 1 / 2 := by
    rw [hL]
    exact hl
  have q3 := Rat.mul_le_mul_of_nonneg_left (show 1 / 2 ≤ 1 - c * L by grind) fx
  grind
/-- the same from the right end -/
theorem gronR {B C c : Rat} {f f2 : Rat → Rat} (T : ∀ z w, -B ≤ z → z ≤ w → w ≤ B → f w - (w - z) * f2 w - C * ((w - z) * (w - z)) ≤ f z) (hC : 0 ≤ C) (hc : 0 ≤ c) {x y : Rat} (x0 : -B ≤ x) (xy : x ≤ y) (y0 : y ≤ B) (hd : ∀ z, x ≤ z → z ≤ y → f2 z ≤ c * f z) (hl : c * (y - x) ≤ 1 / 2) (fy : 0 ≤ f y) : f y * (1 / 2) ≤ f x := by
  have := gron (B := B) (C := C) (c := c) (f := fun z => f (-z)) (f2 := fun z => -(f2 (-z))) (fun z w h1 h2 h3 => by
    have t := T (-w) (-z) (by grind) (by grind) (by grind)
    have e : -z - -w = w - z := by grind
    rw [e] at t
    grind) hC hc (x := -y) (y := -x) (by grind) (by grind) (by grind) (fun z z1 z2 => by
    have := hd (-z) (by grind) (by grind)
    grind) (by
    have e : -x - -y = y - x := by grind
    rw [e]
    exact hl) (by rw [Rat.neg_neg]; exact fy)
  rw [Rat.neg_neg, Rat.neg_neg] at this
  exact this
