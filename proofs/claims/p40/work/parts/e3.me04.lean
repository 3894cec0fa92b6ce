/-! The changes of sign among the derivatives along a step, and just to the right of a whole number. -/
theorem dB_01 (a b : Bool) : 0 ≤ dB a b ∧ dB a b ≤ 1 := by cases a <;> cases b <;> decide
theorem fall_T {s t : Nat → Bool} {c : Nat → Prop} {d : Nat} (h1 : ∀ i, i < d → c i → s i ≠ s (i + 1) ∧ t i = t (i + 1)) (h2 : ∀ i, i < d → s i = s (i + 1) → t i ≠ t (i + 1) → c (i + 1)) (h3 : ¬ c d) : ∀ m j : Nat, j + m = d → cV t d - cV t j ≤ cV s d - cV s j ∧ (c j → cV t d - cV t j + 1 ≤ cV s d - cV s j)
  | 0, j, e => by
    obtain rfl : j = d := by omega
    exact ⟨by omega, fun h => absurd h h3⟩
  | m + 1, j, e => by
    obtain ⟨i1, i2⟩ := fall_T h1 h2 h3 m (j + 1) (by omega)
    have us : cV s (j + 1) = cV s j + dB (s j) (s (j + 1)) := rfl
    have ut : cV t (j + 1) = cV t j + dB (t j) (t (j + 1)) := rfl
    have bs := dB_01 (s j) (s (j + 1))
    have bt := dB_01 (t j) (t (j + 1))
    by_cases cj : c j
    · obtain ⟨a, b⟩ := h1 j (by omega) cj
      rw [dB_ne a] at us
      rw [dB_eq b] at ut
      exact ⟨by omega, fun _ => by omega⟩
    · refine ⟨?_, fun h => absurd h cj⟩
      by_cases es : s j = s (j + 1)
      · by_cases et : t j = t (j + 1)
        · rw [dB_eq es] at us
          rw [dB_eq et] at ut
          omega
        · have := i2 (h2 j (by omega) es et)
          omega
      · rw [dB_ne es] at us
        omega
theorem fall_all {s t : Nat → Bool} {c : Nat → Prop} {d : Nat} (h1 : ∀ i, i < d → c i → s i ≠ s (i + 1) ∧ t i = t (i + 1)) (h2 : ∀ i, i < d → s i = s (i + 1) → t i ≠ t (i + 1) → c (i + 1)) (h3 : ¬ c d) : cV t d ≤ cV s d ∧ ∀ r : Nat, (∀ i, i ≤ r → c i) → cV t d + (r : Nat) + 1 ≤ cV s d := by
  have z := (fall_T h1 h2 h3 d 0 (Nat.zero_add d)).1
  have e1 : cV s 0 = 0 := rfl
  have e2 : cV t 0 = 0 := rfl
  refine ⟨by omega, fun r hr => ?_⟩
  have rd : r < d := by
    apply Classical.byContradiction
    intro n
    exact h3 (hr d (by omega))
  have pre : ∀ k : Nat, k ≤ r + 1 → cV s k = cV t k + (k : Nat) := by
    intro k
    induction k with
    | zero => intro _; rfl
    | succ k ih =>
      intro hk
      have ih := ih (by omega)
      obtain ⟨a, b⟩ := h1 k (by omega) (hr k (by omega))
      have us : cV s (k + 1) = cV s k + dB (s k) (s (k + 1)) := rfl
      have ut : cV t (k + 1) = cV t k + dB (t k) (t (k + 1)) := rfl
      rw [dB_ne a] at us
      rw [dB_eq b] at ut
      omega
  have p := pre (r + 1) (Nat.le_refl _)
  have w := (fall_T h1 h2 h3 (d - (r + 1)) (r + 1) (by omega)).1
  omega
/-- the first that is not 0, from i on -/
def ld (s : Nat → Int) : Nat → Nat → Int
  | 0, i => s i
  | k + 1, i => if s i ≠ 0 then s i else ld s k (i + 1)
theorem ld_ge {s : Nat → Int} {d : Nat} (hd : s d ≠ 0) : ∀ m i k : Nat, i + m = d → m ≤ k → ld s k i = ld s m i
  | 0, i, k, e, hk => by
    obtain rfl : i = d := by omega
    cases k with
    | zero => rfl
    | succ k => exact if_pos hd
  | m + 1, i, k, e, hk => by
    obtain ⟨k, rfl⟩ : ∃ k0, k = k0 + 1 := ⟨k - 1, by omega⟩
    simp only [ld]
    rw [ld_ge hd m (i + 1) k (by omega) (by omega)]
theorem ld_pm {s : Nat → Int} {d : Nat} (hs : ∀ i, s i = 1 ∨ s i = -1 ∨ s i = 0) (hd : s d ≠ 0) : ∀ m i : Nat, i + m = d → ld s m i = 1 ∨ ld s m i = -1
  | 0, i, e => by
    obtain rfl : i = d := by omega
    have := hs i
    show s i = 1 ∨ s i = -1
    omega
  | m + 1, i, e => by
    simp only [ld]
    by_cases c : s i = 0
    · rw [if_neg (fun h => h c)]
      exact ld_pm hs hd m (i + 1) (by omega)
    · rw [if_pos c]
      have := hs i
      omega
theorem ld_sh {s : Nat → Int} : ∀ k i : Nat, ld (fun j => s (i + j)) k 0 = ld s k i := by
  have g : ∀ k i j : Nat, ld (fun q => s (i + q)) k j = ld s k (i + j) := by
    intro k
    induction k with
    | zero => intro i j; rfl
    | succ k ih =>
      intro i j
      simp only [ld]
      rw [ih i (j + 1)]
      rfl
  exact fun k i => g k i 0
/-- changes with the zeros left out are changes among the next signs -/
theorem chZ_ld {s : Nat → Int} (hs : ∀ i, s i = 1 ∨ s i = -1 ∨ s i = 0) {d : Nat} (hd : s d ≠ 0) : (chZ s (d + 1)).1 = cV (fun i => decide (ld s (d - i) i = 1)) d := by
  have pm : ∀ i, i ≤ d → ld s (d - i) i = 1 ∨ ld s (d - i) i = -1 := fun i hi => ld_pm hs hd (d - i) i (by omega)
  have key : ∀ i, i ≤ d → (chZ s i).1 + (if (chZ s i).2 = - ld s (d - i) i then 1 else 0) = cV (fun i => decide (ld s (d - i) i = 1)) i := by
    intro i
    induction i with
    | zero =>
      intro _
      have := pm 0 (by omega)
      show (0 : Int) + (if (0 : Int) = - ld s (d - 0) 0 then 1 else 0) = 0
      rw [if_neg (by omega)]
      rfl
    | succ i ih =>
      intro hi
      have ih := ih (by omega)
      have p0 := pm i (by omega)
      have p1 := pm (i + 1) hi
      have e : chZ s (i + 1) = if s i ≠ 0 then (if (chZ s i).2 = - s i then (chZ s i).1 + 1 else (chZ s i).1, s i) else chZ s i := rfl
      have u : cV (fun i => decide (ld s (d - i) i = 1)) (i + 1) = cV (fun i => decide (ld s (d - i) i = 1)) i + dB (decide (ld s (d - i) i = 1)) (decide (ld s (d - (i + 1)) (i + 1) = 1)) := rfl
      have l : ld s (d - i) i = if s i ≠ 0 then s i else ld s (d - (i + 1)) (i + 1) := by
        obtain ⟨k, hk⟩ : ∃ k, d - i = k + 1 := ⟨d - i - 1, by omega⟩
        rw [hk, show d - (i + 1) = k by omega]
        rfl
      rw [u, ← ih, dB_pm p0 p1, e]
      by_cases c : s i = 0
      · have c2 : ¬ s i ≠ 0 := fun h => h c
        rw [if_neg c2] at l ⊢
        rw [l]
        have : ¬ ld s (d - (i + 1)) (i + 1) = - ld s (d - (i + 1)) (i + 1) := by omega
        rw [if_neg this]
        omega
      · rw [if_pos c] at l ⊢
        rw [l]
        dsimp only
        split <;> omega
  have k := key d (Nat.le_refl _)
  have l : ld s (d - d) d = s d := by
    rw [Nat.sub_self]
    rfl
  rw [l] at k
  have e : chZ s (d + 1) = if s d ≠ 0 then (if (chZ s d).2 = - s d then (chZ s d).1 + 1 else (chZ s d).1, s d) else chZ s d := rfl
  rw [← k, e, if_pos hd]
  dsimp only
  split <;> omega
/-- the sign of a polynomial just to the right of 0 -/
theorem lead_step {a : Int} {q : Rat → Rat} {L : Int} (hq : PL q) (h : L ≠ 0 → ∃ t0 : Rat, 0 < t0 ∧ ∀ t, 0 < t → t < t0 → 0 < (L : Rat) * q t) : (if sg a ≠ 0 then sg a else L) ≠ 0 → ∃ t0 : Rat, 0 < t0 ∧ ∀ t, 0 < t → t < t0 → 0 < (((if sg a ≠ 0 then sg a else L) : Int) : Rat) * ((a : Rat) + t * q t) := by
  by_cases c : sg a = 0
  · have c2 : ¬ sg a ≠ 0 := fun h => h c
    rw [if_neg c2]
    intro hL
    obtain ⟨t0, h0, h1⟩ := h hL
    refine ⟨t0, h0, fun t t1 t2 => ?_⟩
    have := Rat.mul_pos t1 (h1 t t1 t2)
    rw [sg0.mp c, i0]
    grind
  · rw [if_pos c]
    intro _
    have a0 : a ≠ 0 := fun z => c (sg0.mpr z)
    have sc := sg_cast a0
    obtain ⟨K, K0, K1, -⟩ := hq.bl (B := 1) (by decide)
    obtain ⟨w, w0, w1⟩ := small_w K0 (show (0 : Rat) < 1 by decide)
    obtain ⟨t0, h0, h1, h2⟩ := rq_min 1 w (by decide) w0
    refine ⟨t0, h0, fun t t1 t2 => ?_⟩
    have b := K1 t (by grind) (by grind)
    have m := rq_mul (a := t) (b := q t) (A := w) (B := K) (by grind) (by grind) b.1 b.2
    rcases sg_sq a0 with s1 | s1
    · rw [s1] at sc ⊢
      have e1 : ((1 : Int) : Rat) = 1 := rfl
      rw [e1] at sc ⊢
      grind
    · rw [s1] at sc ⊢
      have e1 : ((-1 : Int) : Rat) = -1 := rfl
      rw [e1] at sc ⊢
      grind
theorem lead (f : Nat → Int) (h : ld (fun i => sg (f i)) 4 0 ≠ 0) : ∃ t0 : Rat, 0 < t0 ∧ ∀ t, 0 < t → t < t0 → 0 < ((ld (fun i => sg (f i)) 4 0 : Int) : Rat) * pv f t := by
  have p4 : PL (fun _ : Rat => (f 4 : Rat)) := PL.const _
  have p3 := (PL.const (f 3 : Rat)).add (PL.idf.mul p4)
  have p2 := (PL.const (f 2 : Rat)).add (PL.idf.mul p3)
  have p1 := (PL.const (f 1 : Rat)).add (PL.idf.mul p2)
  have h4 : sg (f 4) ≠ 0 → ∃ t0 : Rat, 0 < t0 ∧ ∀ t, 0 < t → t < t0 → 0 < ((sg (f 4) : Int) : Rat) * (f 4 : Rat) := fun c => ⟨1, by decide, fun t _ _ => by
    have := sg_cast (v := f 4) (fun z => c (sg0.mpr z))
    grind⟩
  exact lead_step p1 (lead_step p2 (lead_step p3 (lead_step p4 h4))) h
theorem DD.shift {f f2 : Rat → Rat} (h : DD f f2) (x : Rat) : DD (fun t => f (x + t)) (fun t => f2 (x + t)) := fun B hB => by
  obtain ⟨X, X0, X1, X2⟩ := rq_abs x
  obtain ⟨C, c0, c1⟩ := h (X + B) (by grind)
  refine ⟨C, c0, fun z w h1 h2 h3 h4 => ?_⟩
  have := c1 (x + z) (x + w) (by grind) (by grind) (by grind) (by grind)
  rw [show x + w - (x + z) = w - z by grind] at this
  exact this
/-- derivatives of a row of coefficients -/
def drI : Nat → (Nat → Int) → Nat → Int
  | 0, f => f
  | i + 1, f => drv (drI i f)
theorem drI_zd {f : Nat → Int} (hz : Zd f 4) : ∀ i : Nat, Zd (drI i f) 4
  | 0 => hz
  | i + 1 => drv_zd (fun j hj => drI_zd hz i j (by omega))
theorem drI_top {f : Nat → Int} {d : Nat} (hd : f d ≠ 0) (hz : Zd f d) : ∀ i : Nat, i ≤ d → drI i f (d - i) ≠ 0 ∧ Zd (drI i f) (d - i)
  | 0, _ => ⟨hd, hz⟩
  | i + 1, hi => by
    obtain ⟨h1, h2⟩ := drI_top hd hz i (by omega)
    rw [show d - i = d - (i + 1) + 1 by omega] at h1 h2
    refine ⟨fun c => ?_, drv_zd h2⟩
    rcases Int.mul_eq_zero.mp c with z | z
    · exact h1 z
    · omega
theorem drI_sg {f : Nat → Int} : ∀ i j : Nat, sg (drI i f j) = sg (f (i + j))
  | 0, j => by
    rw [Nat.zero_add]
    rfl
  | i + 1, j => by
    show sg (drI i f (j + 1) * ((j : Int) + 1)) = _
    rw [Int.mul_comm, sg_mulp (by omega), drI_sg i (j + 1), show i + (j + 1) = i + 1 + j by omega]
/-- the coefficients at a whole number -/
def shY (P : Nat → Int) (x : Int) : Nat → Int := fun i => if i < 5 then shP P x i else 0
theorem shY_zd (P : Nat → Int) (x : Int) : Zd (shY P x) 4 := fun i hi => if_neg (by omega)
theorem shY_pv (P : Nat → Int) (x : Int) (t : Rat) : pv P ((x : Rat) + t) = pv (shY P x) t := by
  obtain ⟨-, b0, b1, b2, b3, b4⟩ := der_sh P x
  have c0 : shY P x 0 = shP P x 0 := rfl
  have c1 : shY P x 1 = shP P x 1 := rfl
  have c2 : shY P x 2 = shP P x 2 := rfl
  have c3 : shY P x 3 = shP P x 3 := rfl
  have c4 : shY P x 4 = shP P x 4 := rfl
  unfold pv
  rw [c0, c1, c2, c3, c4, b0, b1, b2, b3, b4]
  simp only [Rat.intCast_add, Rat.intCast_mul]
  have e2 : ((2 : Int) : Rat) = 2 := rfl
  have e3 : ((3 : Int) : Rat) = 3 := rfl
  have e4 : ((4 : Int) : Rat) = 4 := rfl
  have e6 : ((6 : Int) : Rat) = 6 := rfl
  rw [e2, e3, e4, e6]
  grind
theorem drI_sh {P : Nat → Int} (hz : Zd P 4) (x : Int) : ∀ (i : Nat) (t : Rat), pv (drI i P) ((x : Rat) + t) = pv (drI i (shY P x)) t
  | 0, t => shY_pv P x t
  | i + 1, t => by
    have h1 := (drv_dd (drI_zd hz i)).shift (x : Rat)
    have h2 := (drv_dd (drI_zd (shY_zd P x) i)).cong (fun t => (drI_sh hz x i t).symm) (fun _ => rfl)
    exact h1.uniq h2 t
/-- what holds near enough holds of all of finitely many -/
theorem ev_all {p : Nat → Rat → Prop} : ∀ d : Nat, (∀ i, i ≤ d → ∃ t0 : Rat, 0 < t0 ∧ ∀ t, 0 < t → t < t0 → p i t) → ∃ t0 : Rat, 0 < t0 ∧ ∀ t, 0 < t → t < t0 → ∀ i, i ≤ d → p i t
  | 0, h => by
    obtain ⟨t0, h0, h1⟩ := h 0 (Nat.le_refl _)
    exact ⟨t0, h0, fun t a b i hi => by rw [show i = 0 by omega]; exact h1 t a b⟩
  | d + 1, h => by
    obtain ⟨a, a0, a1⟩ := ev_all d (fun i hi => h i (by omega))
    obtain ⟨b, b0, b1⟩ := h (d + 1) (Nat.le_refl _)
    obtain ⟨c, c0, ca, cb⟩ := rq_min a b a0 b0
    refine ⟨c, c0, fun t t1 t2 i hi => ?_⟩
    by_cases e : i = d + 1
    · rw [e]
      exact b1 t t1 (by grind)
    · exact a1 t t1 (by grind) i (by omega)
theorem var_at {P : Nat → Int} {d : Nat} (hd4 : d ≤ 4) (hd : P d ≠ 0) (hz : Zd P d) (x : Int) : ∃ t0 : Rat, 0 < t0 ∧ ∀ t, 0 < t → t < t0 → (∀ i, i ≤ d → pv (drI i P) ((x : Rat) + t) ≠ 0) ∧ cV (fun i => sB (pv (drI i P)) ((x : Rat) + t)) d = (chZ (fun i => sg (shP P x i)) 5).1 := by
  have z4 : Zd P 4 := fun i hi => hz i (by omega)
  obtain ⟨s, hs⟩ : ∃ s : Nat → Int, s = fun i => sg (shY P x i) := ⟨_, rfl⟩
  have s3 : ∀ i, s i = 1 ∨ s i = -1 ∨ s i = 0 := fun i => by
    rw [hs]
    exact sg3
  have t5 := topW_95 (P := P) (fun j hj => z4 j (by omega))
  have t9 := topW_eq (by omega) hd hz
  have sd : s d ≠ 0 := fun c => by
    rw [hs] at c
    have e : shY P x d = P d := by
      show (if d < 5 then shP P x d else 0) = P d
      rw [if_pos (by omega)]
      exact sh_at hd4 hz x
    have c2 : sg (shY P x d) = 0 := c
    rw [e] at c2
    exact hd (sg0.mp c2)
  have cz : (chZ (fun i => sg (shP P x i)) 5).1 = (chZ s (d + 1)).1 := by
    have e : chZ (fun i => sg (shP P x i)) 5 = chZ (fun i => sg (shP P x i)) (d + 1) := chZ_tail 5 (by omega) (fun i h1 h2 => by
      show sg (shP P x i) = 0
      rw [sh_top x (by omega) h2]
      rfl)
    have g : ∀ n : Nat, n ≤ 5 → chZ (fun i => sg (shP P x i)) n = chZ s n := by
      intro n
      induction n with
      | zero => intro _; rfl
      | succ n ih =>
        intro hn
        simp only [chZ]
        have e2 : s n = sg (shP P x n) := by
          rw [hs]
          show sg (if n < 5 then shP P x n else 0) = _
          rw [if_pos (by omega)]
        rw [ih (by omega), e2]
    rw [e, g (d + 1) (by omega)]
  have pm : ∀ i, i ≤ d → ld s (d - i) i = 1 ∨ ld s (d - i) i = -1 := fun i hi => ld_pm s3 sd (d - i) i (by omega)
  have li : ∀ i, i ≤ d → ld (fun j => sg (drI i (shY P x) j)) 4 0 = ld s (d - i) i := fun i hi => by
    have e : (fun j => sg (drI i (shY P x) j)) = fun j => s (i + j) := funext fun j => by
      rw [drI_sg, hs]
    rw [e, ld_sh, ld_ge sd (d - i) i 4 (by omega) (by omega)]
  obtain ⟨t0, h0, h1⟩ := ev_all (p := fun i t => 0 < ((ld s (d - i) i : Int) : Rat) * pv (drI i P) ((x : Rat) + t)) d (fun i hi => by
    have p := pm i hi
    obtain ⟨t0, h0, h1⟩ := lead (drI i (shY P x)) (by rw [li i hi]; omega)
    refine ⟨t0, h0, fun t a b => ?_⟩
    have := h1 t a b
    rw [li i hi] at this
    rw [drI_sh z4]
    exact this)
  refine ⟨t0, h0, fun t a b => ?_⟩
  have h2 := h1 t a b
  refine ⟨fun i hi c => ?_, ?_⟩
  · have := h2 i hi
    rw [c] at this
    grind
  · rw [cz, chZ_ld s3 sd]
    refine cV_cong d (fun i hi => ?_)
    have q := h2 i hi
    have e1 : ((1 : Int) : Rat) = 1 := rfl
    have e2 : ((-1 : Int) : Rat) = -1 := rfl
    unfold sB
    rcases pm i hi with c | c
    · rw [c, e1] at q
      rw [decide_eq_true c, decide_eq_true (by grind)]
    · rw [c, e2] at q
      rw [decide_eq_false (show ¬ ld s (d - i) i = 1 by omega), decide_eq_false (by grind)]
