/-! Rows that are remainders: the count falls from left to right; its ends. -/
/-- a polynomial, by its coefficients -/
def pe : List Rat → Rat → Rat
  | [] => fun _ => 0
  | a :: l => fun x => a + x * pe l x
def PL (f : Rat → Rat) : Prop := ∃ l : List Rat, ∀ x, f x = pe l x
theorem pe_bl {B : Rat} (hB : 0 ≤ B) : ∀ l : List Rat, BL B (pe l)
  | [] => BL.const 0
  | a :: l => BL.add (BL.const a) (BL.mul (BL.idf hB) (pe_bl hB l))
theorem PL.bl {f : Rat → Rat} (h : PL f) {B : Rat} (hB : 0 ≤ B) : BL B f := by
  obtain ⟨l, e⟩ := h
  exact (pe_bl hB l).cong (fun x => (e x).symm)
theorem PL.cong {f g : Rat → Rat} (h : PL f) (e : ∀ x, f x = g x) : PL g := by
  obtain ⟨l, el⟩ := h
  exact ⟨l, fun x => (e x).symm.trans (el x)⟩
theorem PL.const (c : Rat) : PL (fun _ => c) := ⟨[c], fun x => by simp only [pe]; grind⟩
theorem PL.idf : PL (fun x => x) := ⟨[0, 1], fun x => by simp only [pe]; grind⟩
theorem pe_add : ∀ l m : List Rat, ∃ r : List Rat, ∀ x, pe l x + pe m x = pe r x
  | [], m => ⟨m, fun x => by simp only [pe]; grind⟩
  | a :: l, [] => ⟨a :: l, fun x => by simp only [pe]; grind⟩
  | a :: l, b :: m => by
    obtain ⟨r, hr⟩ := pe_add l m
    exact ⟨(a + b) :: r, fun x => by
      have := hr x
      simp only [pe]
      rw [← this]
      grind⟩
theorem PL.add {f g : Rat → Rat} (hf : PL f) (hg : PL g) : PL (fun x => f x + g x) := by
  obtain ⟨l, el⟩ := hf
  obtain ⟨m, em⟩ := hg
  obtain ⟨r, er⟩ := pe_add l m
  exact ⟨r, fun x => by
    show f x + g x = _
    rw [el, em, er]⟩
theorem pe_smul (c : Rat) : ∀ l : List Rat, ∃ r : List Rat, ∀ x, c * pe l x = pe r x
  | [] => ⟨[], fun x => by simp only [pe]; grind⟩
  | a :: l => by
    obtain ⟨r, hr⟩ := pe_smul c l
    exact ⟨(c * a) :: r, fun x => by
      have := hr x
      simp only [pe]
      rw [← this]
      grind⟩
theorem pe_mul : ∀ l m : List Rat, ∃ r : List Rat, ∀ x, pe l x * pe m x = pe r x
  | [], m => ⟨[], fun x => by simp only [pe]; grind⟩
  | a :: l, m => by
    obtain ⟨r, hr⟩ := pe_mul l m
    obtain ⟨r2, hr2⟩ := pe_smul a m
    obtain ⟨r3, hr3⟩ := pe_add r2 (0 :: r)
    exact ⟨r3, fun x => by
      have h1 := hr x
      have h2 := hr2 x
      have h3 := hr3 x
      simp only [pe] at h3 ⊢
      rw [← h3, ← h2, ← h1]
      grind⟩
theorem PL.mul {f g : Rat → Rat} (hf : PL f) (hg : PL g) : PL (fun x => f x * g x) := by
  obtain ⟨l, el⟩ := hf
  obtain ⟨m, em⟩ := hg
  obtain ⟨r, er⟩ := pe_mul l m
  exact ⟨r, fun x => by
    show f x * g x = _
    rw [el, em, er]⟩
theorem PL.ho (w : Nat → Int) (d : Nat) : ∀ k : Nat, PL (fun y => hoR y w d k)
  | 0 => PL.const _
  | k + 1 => PL.add (PL.const _) (PL.mul PL.idf (PL.ho w d k))
/-- the square of row 0 along a way, told by row 1 -/
def DP (p0 p1 : Rat → Rat) : Prop := ∀ B : Rat, 0 ≤ B → ∃ C2 : Rat, 0 ≤ C2 ∧ ∀ z w, -B ≤ z → z ≤ w → w ≤ B → p0 z * p0 z + (w - z) * (2 * (p0 z * p1 z)) - C2 * ((w - z) * (w - z)) ≤ p0 w * p0 w
def ChR (s : RS) (n : Nat) : Prop := s.1 = n + 1 ∧ (∀ i, i ≤ n → s.2.1 i (s.2.2 i) ≠ 0) ∧ (∃ (q : Nat → Rat → Rat) (al be : Nat → Rat), (∀ i, i + 2 ≤ n → 0 < al i ∧ 0 < be i ∧ PL (q i) ∧ ∀ x, al i * pR s i x = q i x * pR s (i + 1) x - be i * pR s (i + 2) x) ∧ (0 < n → 0 < al (n - 1) ∧ PL (q (n - 1)) ∧ ∀ x, al (n - 1) * pR s (n - 1) x = q (n - 1) x * pR s n x)) ∧ (0 < n → DP (pR s 0) (pR s 1))
theorem two_pow_ge (p : Nat) : (p : Rat) ≤ (2 : Rat) ^ p := by
  have h : ((p : Nat) : Rat) ≤ ((2 ^ p : Nat) : Rat) := Rat.natCast_le_natCast.mpr (Nat.le_of_lt Nat.lt_two_pow_self)
  rw [Rat.natCast_pow] at h
  exact h
/-- a row is not 0 all along -/
theorem row_dense {f : Nat → Int} {d : Nat} (hf : f d ≠ 0) (u v : Rat) (huv : u < v) : ∃ z, u < z ∧ z < v ∧ hoR z f d d ≠ 0 := by
  have d0 : 0 < v - u := by grind
  have i0 := Rat.inv_pos.mpr d0
  have i1 : (v - u) * (v - u)⁻¹ = 1 := Rat.mul_inv_cancel _ (by grind)
  obtain ⟨p, hp⟩ := rq_arch ((v - u)⁻¹)
  have hc := two_pow_ge p
  have c0 : (0 : Rat) < 2 ^ p := Rat.pow_pos (by decide)
  have ci : (2 : Rat) ^ p * ((2 : Rat) ^ p)⁻¹ = 1 := Rat.mul_inv_cancel _ (by grind)
  have ci0 := Rat.inv_pos.mpr c0
  obtain ⟨x, hx⟩ : ∃ x : Int, x = (u * 2 ^ p).floor + 1 := ⟨_, rfl⟩
  have x1 : u * 2 ^ p < (x : Rat) := by rw [hx]; exact Rat.lt_floor_add_one _
  have x2 : (x : Rat) ≤ u * 2 ^ p + 1 := by
    rw [hx, Rat.intCast_add]
    have : (((u * 2 ^ p).floor : Int) : Rat) ≤ u * 2 ^ p := Rat.floor_le _
    have e1 : ((1 : Int) : Rat) = 1 := rfl
    grind
  obtain ⟨t0, h0, h1⟩ := (sgnUp_right f d x p).2 (sgnUp_nz hf)
  generalize (2 : Rat) ^ p = c at *
  generalize c⁻¹ = r at *
  have r1 : u < (x : Rat) * r := by
    have := Rat.mul_lt_mul_of_pos_right x1 ci0
    have e : u * c * r = u * (c * r) := by grind
    rw [e, ci] at this
    grind
  have r2 : (x : Rat) * r < v := by
    have a1 := Rat.mul_le_mul_of_nonneg_right x2 (Rat.le_of_lt ci0)
    have e : (u * c + 1) * r = u * (c * r) + r := by grind
    rw [e, ci] at a1
    have a2 : 1 < (v - u) * c := by
      have := Rat.mul_lt_mul_of_pos_left (show (v - u)⁻¹ < c by grind) d0
      rw [i1] at this
      exact this
    have a3 := Rat.mul_lt_mul_of_pos_right a2 ci0
    have e2 : (v - u) * c * r = (v - u) * (c * r) := by grind
    rw [e2, ci] at a3
    grind
  obtain ⟨t, t1, t2, t3⟩ := rq_min t0 (v - (x : Rat) * r) h0 (by grind)
  refine ⟨(x : Rat) * r + t, by grind, by grind, fun z => ?_⟩
  have := h1 t t1 t2
  rw [z] at this
  grind
theorem ChR.both {s : RS} {n : Nat} (h : ChR s n) {r r2 : Rat} {v v2 : Int} (hr : r ≤ r2) (h1 : RV (pR s) n r v) (h2 : RV (pR s) n r2 v2) : v2 ≤ v ∧ ((∃ dl e : Rat, 0 < dl ∧ 0 < e ∧ ∀ z, r ≤ z → z ≤ r2 + e → Big dl (pR s 0 z)) → v2 = v) := by
  obtain ⟨hs, hl, ⟨q, al, be, H, Hn⟩, hD⟩ := h
  have core : ∀ e : Rat, 0 < e → ∃ t : Rat, 0 < t ∧ t < e ∧ (v2 ≤ v) ∧ ∀ dl : Rat, 0 < dl → (∀ z, r + t ≤ z → z ≤ r2 + t → Big dl (pR s 0 z)) → v2 = v := by
    intro e e0
    obtain ⟨a, a0, ha⟩ := h1
    obtain ⟨b, b0, hb⟩ := h2
    obtain ⟨m, m0, m1, m2⟩ := rq_min a b a0 b0
    obtain ⟨t9, t90, t91, t92⟩ := rq_min m 1 m0 (by decide)
    obtain ⟨t, t0, t1, t2⟩ := rq_min t9 e t90 e0
    obtain ⟨R, R0, R1, R2⟩ := rq_abs r
    obtain ⟨S, S0, S1, S2⟩ := rq_abs r2
    obtain ⟨x1, x2⟩ := ha t t0 (by grind)
    obtain ⟨y1, y2⟩ := hb t t0 (by grind)
    have B0 : 0 ≤ R + S + 1 := by grind
    obtain ⟨C2, C20, hC⟩ : ∃ C2 : Rat, 0 ≤ C2 ∧ (0 < n → ∀ z w, -(R + S + 1) ≤ z → z ≤ w → w ≤ R + S + 1 → pR s 0 z * pR s 0 z + (w - z) * (2 * (pR s 0 z * pR s 1 z)) - C2 * ((w - z) * (w - z)) ≤ pR s 0 w * pR s 0 w) := by
      by_cases c : 0 < n
      · obtain ⟨C2, c1, c2⟩ := hD c _ B0
        exact ⟨C2, c1, fun _ => c2⟩
      · exact ⟨0, by decide, fun z => absurd z c⟩
    have key := fun dl (dl0 : (0 : Rat) < dl) => mSturm (B := R + S + 1) (n := n) (p := pR s) (q := q) (al := al) (be := be) (C2 := C2) (dl := dl) (fun i hi => ⟨(H i hi).1, (H i hi).2.1, (H i hi).2.2.1.bl B0, (H i hi).2.2.2⟩) (fun hn => ⟨(Hn hn).1, (Hn hn).2.1.bl B0, (Hn hn).2.2⟩) (hoR_bl B0 _ _ _) C20 hC (fun u v huv => row_dense (hl 0 (by omega)) u v huv) dl0 (x := r + t) (y := r2 + t) (by grind) (by grind) (by grind) x1 y1
    rw [x2, y2] at key
    exact ⟨t, t0, t2, (key 1 (by decide)).1, fun dl d0 => (key dl d0).2⟩
  obtain ⟨t, -, -, c1, -⟩ := core 1 (by decide)
  refine ⟨c1, fun z => ?_⟩
  obtain ⟨dl, e, d0, e0, d1⟩ := z
  obtain ⟨t, c2, c3, -, c4⟩ := core e e0
  exact c4 dl d0 (fun z z1 z2 => d1 z (by grind) (by grind))
/-- a bound of all coefficients -/
theorem co_bound (f : Nat → Int) : ∀ d : Nat, ∃ R : Rat, 0 ≤ R ∧ ∀ i, i < d → -R ≤ (f i : Rat) ∧ (f i : Rat) ≤ R
  | 0 => ⟨0, by decide, fun i hi => absurd hi (Nat.not_lt_zero i)⟩
  | d + 1 => by
    obtain ⟨R, r0, r1⟩ := co_bound f d
    obtain ⟨K, k0, k1, k2⟩ := rq_abs (f d : Rat)
    refine ⟨R + K, by grind, fun i hi => ?_⟩
    by_cases e : i = d
    · rw [e]
      constructor <;> grind
    · have := r1 i (by omega)
      constructor <;> grind
theorem co_bound2 (f : Nat → Nat → Int) (dg : Nat → Nat) : ∀ n : Nat, ∃ R : Rat, 0 ≤ R ∧ ∀ k, k ≤ n → ∀ i, i < dg k → -R ≤ (f k i : Rat) ∧ (f k i : Rat) ≤ R
  | 0 => by
    obtain ⟨R, r0, r1⟩ := co_bound (f 0) (dg 0)
    exact ⟨R, r0, fun k hk => by rw [show k = 0 by omega]; exact r1⟩
  | n + 1 => by
    obtain ⟨R, r0, r1⟩ := co_bound2 f dg n
    obtain ⟨K, k0, k1⟩ := co_bound (f (n + 1)) (dg (n + 1))
    refine ⟨R + K, by grind, fun k hk i hi => ?_⟩
    by_cases e : k = n + 1
    · rw [e] at hi ⊢
      have := k1 i hi
      constructor <;> grind
    · have := r1 k (by omega) i hi
      constructor <;> grind
theorem RV.ends {s : RS} {n : Nat} (hn : s.1 = n + 1) (hs : ∀ i, i ≤ n → s.2.1 i (s.2.2 i) ≠ 0) : ∃ R : Rat, 0 ≤ R ∧ (∀ r, R ≤ r → RV (pR s) n r (endF s 1)) ∧ ∀ r, r ≤ -R → RV (pR s) n r (endF s 0) := by
  obtain ⟨R, R0, hR⟩ := co_bound2 s.2.1 s.2.2 n
  refine ⟨R + 2, by grind, fun r hr => ⟨1, by decide, fun t t1 t2 => ?_⟩, fun r hr => ⟨1, by decide, fun t t1 t2 => ?_⟩⟩
  · have pm : ∀ i, i ≤ n → eSg s 1 i = 1 ∨ eSg s 1 i = -1 := fun i hi => by
      have := sg_sq (hs i hi)
      unfold eSg
      rw [if_neg (fun z => absurd z.1 (by decide)), Int.mul_one]
      exact this
    have := sgB_of (p := pR s) (z := r + t) pm (fun i hi => by
      have h1 := hoR_hi (z := r + t) (hs i hi) (hR i hi) R0 (by grind) (s.2.2 i) (Nat.le_refl _)
      have e : eSg s 1 i = sg (s.2.1 i (s.2.2 i)) := by
        unfold eSg
        rw [if_neg (fun z => absurd z.1 (by decide)), Int.mul_one]
      rw [e]
      grind)
    unfold endF
    rw [hn, (ch_cV (s := eSg s 1) n pm).2]
    exact this
  · have pm : ∀ i, i ≤ n → eSg s 0 i = 1 ∨ eSg s 0 i = -1 := fun i hi => by
      have := sg_sq (hs i hi)
      unfold eSg
      split <;> omega
    have := sgB_of (p := pR s) (z := r + t) pm (fun i hi => by
      have h1 := hoR_lo (z := r + t) (hs i hi) (hR i hi) R0 (by grind) (s.2.2 i) (Nat.le_refl _)
      have e : eSg s 0 i = (sg (s.2.1 i (s.2.2 i)) * if s.2.2 i % 2 = 1 then -1 else 1 : Int) := by
        unfold eSg
        by_cases c : s.2.2 i % 2 = 1
        · rw [if_pos ⟨rfl, c⟩, if_pos c]
        · rw [if_neg (fun z => c z.2), if_neg c]
      rw [e]
      grind)
    unfold endF
    rw [hn, (ch_cV (s := eSg s 0) n pm).2]
    exact this
