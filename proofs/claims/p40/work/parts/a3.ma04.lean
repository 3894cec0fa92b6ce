/-! From rows that are remainders to the count. -/
def hhF (n : Nat) (q : Nat → Rat → Rat) (al be : Nat → Rat) : Nat → Rat → Rat
  | 0 => fun _ => 1
  | 1 => fun x => (al (n - 1))⁻¹ * q (n - 1) x
  | k + 2 => fun x => (al (n - (k + 2)))⁻¹ * (q (n - (k + 2)) x * hhF n q al be (k + 1) x + -(be (n - (k + 2))) * hhF n q al be k x)
theorem hh_ok {B : Rat} {n : Nat} {p q : Nat → Rat → Rat} {al be : Nat → Rat} (H : ∀ i, i + 2 ≤ n → 0 < al i ∧ 0 < be i ∧ BL B (q i) ∧ ∀ x, al i * p i x = q i x * p (i + 1) x - be i * p (i + 2) x) (Hn : 0 < n → 0 < al (n - 1) ∧ BL B (q (n - 1)) ∧ ∀ x, al (n - 1) * p (n - 1) x = q (n - 1) x * p n x) : ∀ k, (k ≤ n → BL B (hhF n q al be k) ∧ ∀ x, p (n - k) x = p n x * hhF n q al be k x) ∧ (k + 1 ≤ n → BL B (hhF n q al be (k + 1)) ∧ ∀ x, p (n - (k + 1)) x = p n x * hhF n q al be (k + 1) x)
  | 0 => by
    refine ⟨fun _ => ⟨BL.const 1, fun x => ?_⟩, fun hk => ?_⟩
    · show p (n - 0) x = p n x * 1
      rw [Nat.sub_zero]
      grind
    · obtain ⟨a, b, c⟩ := Hn (by omega)
      refine ⟨BL.mul (BL.const _) b, fun x => ?_⟩
      show p (n - (0 + 1)) x = p n x * ((al (n - 1))⁻¹ * q (n - 1) x)
      have ai : al (n - 1) * (al (n - 1))⁻¹ = 1 := Rat.mul_inv_cancel _ (by grind)
      have cx := c x
      rw [show n - (0 + 1) = n - 1 from rfl]
      generalize (al (n - 1))⁻¹ = r at *
      have : p n x * (r * q (n - 1) x) = r * (q (n - 1) x * p n x) := by grind
      rw [this, ← cx]
      have : r * (al (n - 1) * p (n - 1) x) = (al (n - 1) * r) * p (n - 1) x := by grind
      rw [this, ai]
      grind
  | k + 1 => by
    have ih := hh_ok H Hn k
    refine ⟨ih.2, fun hk => ?_⟩
    obtain ⟨b0, e0⟩ := ih.1 (by omega)
    obtain ⟨b1, e1⟩ := ih.2 (by omega)
    obtain ⟨a, b, qb, E⟩ := H (n - (k + 2)) (by omega)
    refine ⟨BL.mul (BL.const _) (BL.add (BL.mul qb b1) (BL.mul (BL.const _) b0)), fun x => ?_⟩
    have ai : al (n - (k + 2)) * (al (n - (k + 2)))⁻¹ = 1 := Rat.mul_inv_cancel _ (by grind)
    have Ex := E x
    rw [show n - (k + 2) + 1 = n - (k + 1) by omega, show n - (k + 2) + 2 = n - k by omega, e0, e1] at Ex
    show p (n - (k + 2)) x = p n x * ((al (n - (k + 2)))⁻¹ * (q (n - (k + 2)) x * hhF n q al be (k + 1) x + -(be (n - (k + 2))) * hhF n q al be k x))
    generalize (al (n - (k + 2)))⁻¹ = r at *
    have t1 : p n x * (r * (q (n - (k + 2)) x * hhF n q al be (k + 1) x + -(be (n - (k + 2))) * hhF n q al be k x)) = r * (q (n - (k + 2)) x * (p n x * hhF n q al be (k + 1) x) - be (n - (k + 2)) * (p n x * hhF n q al be k x)) := by grind
    rw [t1, ← Ex]
    have t2 : r * (al (n - (k + 2)) * p (n - (k + 2)) x) = (al (n - (k + 2)) * r) * p (n - (k + 2)) x := by grind
    rw [t2, ai]
    grind
theorem cV_cong {s t : Nat → Bool} : ∀ n : Nat, (∀ i, i ≤ n → s i = t i) → cV s n = cV t n
  | 0, _ => rfl
  | n + 1, h => by
    simp only [cV]
    rw [cV_cong n (fun i hi => h i (by omega)), h n (by omega), h (n + 1) (Nat.le_refl _)]
theorem cV_not {s t : Nat → Bool} : ∀ n : Nat, (∀ i, i ≤ n → s i = !t i) → cV s n = cV t n
  | 0, _ => rfl
  | n + 1, h => by
    simp only [cV]
    rw [cV_not n (fun i hi => h i (by omega)), h n (by omega), h (n + 1) (Nat.le_refl _)]
    cases t n <;> cases t (n + 1) <;> rfl
theorem cV_fac {n : Nat} {p h : Nat → Rat → Rat} {x g : Rat} (hp : ∀ i, i ≤ n → p i x = g * h i x) (hx : ∀ i, i ≤ n → p i x ≠ 0) : cV (sgB p x) n = cV (sgB h x) n := by
  have g0 : g ≠ 0 := fun z => hx 0 (by omega) (by rw [hp 0 (by omega), z]; grind)
  by_cases c : 0 < g
  · refine cV_cong n (fun i hi => ?_)
    unfold sgB
    rw [hp i hi]
    by_cases d : 0 ≤ h i x
    · rw [decide_eq_true d, decide_eq_true (Rat.mul_nonneg (Rat.le_of_lt c) d)]
    · have := Rat.mul_pos c (show 0 < -(h i x) by grind)
      rw [decide_eq_false d, decide_eq_false (by grind)]
  · refine cV_not n (fun i hi => ?_)
    have nz : h i x ≠ 0 := fun z => hx i hi (by rw [hp i hi, z]; grind)
    unfold sgB
    rw [hp i hi]
    by_cases d : 0 ≤ h i x
    · have := Rat.mul_pos (show 0 < -g by grind) (show 0 < h i x by grind)
      rw [decide_eq_true d, decide_eq_false (by grind)]
      rfl
    · have := Rat.mul_pos (show 0 < -g by grind) (show 0 < -(h i x) by grind)
      rw [decide_eq_false d, decide_eq_true (by grind)]
      rfl
theorem mSturm {B : Rat} {n : Nat} {p q : Nat → Rat → Rat} {al be : Nat → Rat} {C2 dl : Rat} (H : ∀ i, i + 2 ≤ n → 0 < al i ∧ 0 < be i ∧ BL B (q i) ∧ ∀ x, al i * p i x = q i x * p (i + 1) x - be i * p (i + 2) x) (Hn : 0 < n → 0 < al (n - 1) ∧ BL B (q (n - 1)) ∧ ∀ x, al (n - 1) * p (n - 1) x = q (n - 1) x * p n x) (hpn : BL B (p n)) (h2 : 0 ≤ C2) (hP : 0 < n → ∀ z w, -B ≤ z → z ≤ w → w ≤ B → p 0 z * p 0 z + (w - z) * (2 * (p 0 z * p 1 z)) - C2 * ((w - z) * (w - z)) ≤ p 0 w * p 0 w) (hd : ∀ u v, u < v → ∃ z, u < z ∧ z < v ∧ p 0 z ≠ 0) (dl0 : 0 < dl) {x y : Rat} (x0 : -B ≤ x) (xy : x ≤ y) (y0 : y ≤ B) (hx : ∀ i, i ≤ n → p i x ≠ 0) (hy : ∀ i, i ≤ n → p i y ≠ 0) : cV (sgB p y) n ≤ cV (sgB p x) n ∧ ((∀ z, x ≤ z → z ≤ y → Big dl (p 0 z)) → cV (sgB p y) n = cV (sgB p x) n) := by
  obtain ⟨h, hh⟩ : ∃ h : Nat → Rat → Rat, h = fun i => hhF n q al be (n - i) := ⟨_, rfl⟩
  have hi : ∀ i, i ≤ n → BL B (h i) ∧ ∀ x, p i x = p n x * h i x := fun i hi => by
    have := (hh_ok H Hn (n - i)).1 (by omega)
    rw [show n - (n - i) = i by omega] at this
    rw [hh]
    exact this
  have h1 : ∀ x, h n x = 1 := fun x => by
    rw [hh]
    show hhF n q al be (n - n) x = 1
    rw [Nat.sub_self]
    rfl
  have HH : ∀ i, i + 2 ≤ n → 0 < al i ∧ 0 < be i ∧ BL B (q i) ∧ ∀ x, al i * h i x = q i x * h (i + 1) x - be i * h (i + 2) x := fun i hi2 => by
    obtain ⟨a, b, c, -⟩ := H i hi2
    refine ⟨a, b, c, fun x => ?_⟩
    have ai : al i * (al i)⁻¹ = 1 := Rat.mul_inv_cancel _ (by grind)
    have e : h i x = (al i)⁻¹ * (q i x * h (i + 1) x + -(be i) * h (i + 2) x) := by
      rw [hh]
      show hhF n q al be (n - i) x = _
      obtain ⟨k, hk⟩ : ∃ k, n - i = k + 2 := ⟨n - i - 2, by omega⟩
      show hhF n q al be (n - i) x = (al i)⁻¹ * (q i x * hhF n q al be (n - (i + 1)) x + -(be i) * hhF n q al be (n - (i + 2)) x)
      rw [hk, show n - (i + 1) = k + 1 by omega, show n - (i + 2) = k by omega]
      show (al (n - (k + 2)))⁻¹ * (q (n - (k + 2)) x * hhF n q al be (k + 1) x + -(be (n - (k + 2))) * hhF n q al be k x) = _
      rw [show n - (k + 2) = i by omega]
    rw [e]
    generalize (al i)⁻¹ = r at *
    have : al i * (r * (q i x * h (i + 1) x + -(be i) * h (i + 2) x)) = (al i * r) * (q i x * h (i + 1) x - be i * h (i + 2) x) := by grind
    rw [this, ai]
    grind
  have key := sturm (kp := 2) HH h1 (fun i hi2 => (hi i hi2).1) hpn (fun z => (hi 0 (by omega)).2 z) (by decide) h2 (fun hn z w z1 z2 z3 => by
    have := hP hn z w z1 z2 z3
    have e : p n z * p n z * (h 0 z * h 1 z) = p 0 z * p 1 z := by
      rw [(hi 0 (by omega)).2 z, (hi 1 (by omega)).2 z]
      grind
    rw [e]
    exact this) hd dl0 x0 xy y0 (hx 0 (by omega)) (hy 0 (by omega))
  rw [← cV_fac (fun i hi2 => (hi i hi2).2 x) hx, ← cV_fac (fun i hi2 => (hi i hi2).2 y) hy] at key
  exact key
theorem dB_pm {a b : Int} (ha : a = 1 ∨ a = -1) (hb : b = 1 ∨ b = -1) : dB (decide (a = 1)) (decide (b = 1)) = if a = -b then 1 else 0 := by
  rcases ha with rfl | rfl <;> rcases hb with rfl | rfl <;> decide
/-- the count of changes as both programs make it -/
theorem ch_cV {s : Nat → Int} : ∀ n : Nat, (∀ i, i ≤ n → s i = 1 ∨ s i = -1) → chU s (n + 1) = (cV (fun i => decide (s i = 1)) n, s n) ∧ chZ s (n + 1) = (cV (fun i => decide (s i = 1)) n, s n)
  | 0, h => by
    have h0 := h 0 (by omega)
    simp only [chU, chZ, cV]
    rcases h0 with e | e <;> rw [e] <;> exact ⟨rfl, rfl⟩
  | n + 1, h => by
    obtain ⟨i1, i2⟩ := ch_cV n (fun i hi => h i (by omega))
    have h0 := h n (by omega)
    have h1 := h (n + 1) (by omega)
    have e1 : chU s (n + 1 + 1) = (if (chU s (n + 1)).2 = - s (n + 1) then (chU s (n + 1)).1 + 1 else (chU s (n + 1)).1, s (n + 1)) := rfl
    have e2 : chZ s (n + 1 + 1) = if s (n + 1) ≠ 0 then (if (chZ s (n + 1)).2 = - s (n + 1) then (chZ s (n + 1)).1 + 1 else (chZ s (n + 1)).1, s (n + 1)) else chZ s (n + 1) := rfl
    rw [e1, e2, i1, i2, if_pos (show s (n + 1) ≠ 0 by omega)]
    dsimp only
    have : (if s n = - s (n + 1) then cV (fun i => decide (s i = 1)) n + 1 else cV (fun i => decide (s i = 1)) n) = cV (fun i => decide (s i = 1)) (n + 1) := by
      show _ = cV (fun i => decide (s i = 1)) n + dB (decide (s n = 1)) (decide (s (n + 1) = 1))
      rw [dB_pm h0 h1]
      split <;> omega
    rw [this]
    exact ⟨rfl, rfl⟩
/-- the count just to the right of a place -/
def RV (p : Nat → Rat → Rat) (n : Nat) (r : Rat) (v : Int) : Prop := ∃ t0 : Rat, 0 < t0 ∧ ∀ t, 0 < t → t < t0 → (∀ i, i ≤ n → p i (r + t) ≠ 0) ∧ cV (sgB p (r + t)) n = v
theorem rq_min (a b : Rat) (ha : 0 < a) (hb : 0 < b) : ∃ c, 0 < c ∧ c < a ∧ c < b := by
  by_cases h : a ≤ b
  · exact ⟨a / 2, by grind, by grind, by grind⟩
  · exact ⟨b / 2, by grind, by grind, by grind⟩
theorem RV.uniq {p : Nat → Rat → Rat} {n : Nat} {r : Rat} {v w : Int} (h : RV p n r v) (g : RV p n r w) : v = w := by
  obtain ⟨a, a0, ha⟩ := h
  obtain ⟨b, b0, hb⟩ := g
  obtain ⟨c, c0, c1, c2⟩ := rq_min a b a0 b0
  rw [← (ha c c0 c1).2, ← (hb c c0 c2).2]
/-- the signs of rows just above x / 2^p -/
theorem up_all {f : Nat → Nat → Int} {dg : Nat → Nat} (x : Int) (p : Nat) : ∀ n : Nat, (∀ i, i ≤ n → sgnUp (f i) (dg i) x p ≠ 0) → ∃ t0 : Rat, 0 < t0 ∧ ∀ t : Rat, 0 < t → t < t0 → ∀ i, i ≤ n → 0 < ((sgnUp (f i) (dg i) x p : Int) : Rat) * hoR ((x : Rat) * ((2 : Rat) ^ p)⁻¹ + t) (f i) (dg i) (dg i)
  | 0, h => by
    obtain ⟨t0, h0, h1⟩ := (sgnUp_right (f 0) (dg 0) x p).2 (h 0 (by omega))
    exact ⟨t0, h0, fun t a b i hi => by rw [show i = 0 by omega]; exact h1 t a b⟩
  | n + 1, h => by
    obtain ⟨a, a0, ha⟩ := up_all x p n (fun i hi => h i (by omega))
    obtain ⟨b, b0, hb⟩ := (sgnUp_right (f (n + 1)) (dg (n + 1)) x p).2 (h (n + 1) (by omega))
    obtain ⟨c, c0, c1, c2⟩ := rq_min a b a0 b0
    refine ⟨c, c0, fun t t1 t2 i hi => ?_⟩
    by_cases e : i = n + 1
    · rw [e]
      exact hb t t1 (by grind)
    · exact ha t t1 (by grind) i (by omega)
theorem sgB_of {s : Nat → Int} {p : Nat → Rat → Rat} {n : Nat} {z : Rat} (hs : ∀ i, i ≤ n → s i = 1 ∨ s i = -1) (h : ∀ i, i ≤ n → 0 < ((s i : Int) : Rat) * p i z) : (∀ i, i ≤ n → p i z ≠ 0) ∧ cV (sgB p z) n = cV (fun i => decide (s i = 1)) n := by
  have e1 : ((1 : Int) : Rat) = 1 := rfl
  have e2 : ((-1 : Int) : Rat) = -1 := rfl
  refine ⟨fun i hi c => ?_, cV_cong n (fun i hi => ?_)⟩
  · have := h i hi
    rw [c] at this
    grind
  · have := h i hi
    unfold sgB
    rcases hs i hi with c | c
    · rw [c, e1] at this
      rw [decide_eq_true (show (0 : Rat) ≤ p i z by grind), decide_eq_true c]
    · rw [c, e2] at this
      rw [decide_eq_false (show ¬ (0 : Rat) ≤ p i z by grind), decide_eq_false (by omega)]
/-- rows as functions -/
abbrev pR (s : RS) : Nat → Rat → Rat := fun i z => hoR z (s.2.1 i) (s.2.2 i) (s.2.2 i)
theorem sgnUp_pm {f : Nat → Int} {d : Nat} {x : Int} {p : Nat} (h : sgnUp f d x p ≠ 0) : sgnUp f d x p = 1 ∨ sgnUp f d x p = -1 := by
  have := upS_3 x d (d + 1) 0 (fun i => f i * 2 ^ (p * (d - i)))
  unfold sgnUp at *
  omega
theorem sgnUp_nz {f : Nat → Int} {d : Nat} {x : Int} {p : Nat} (h : f d ≠ 0) : sgnUp f d x p ≠ 0 := by
  intro z
  have h1 := (sgnUp_right f d x p).1 z
  obtain ⟨R, hR⟩ : ∃ R : Rat, 0 ≤ R ∧ ∀ i, i < d → -R ≤ (f i : Rat) ∧ (f i : Rat) ≤ R := by
    clear h1 z h
    induction d with
    | zero => exact ⟨0, by decide, fun i hi => absurd hi (Nat.not_lt_zero i)⟩
    | succ d ih =>
      obtain ⟨R, r0, r1⟩ := ih
      obtain ⟨K, k0, k1, k2⟩ := rq_abs (f d : Rat)
      refine ⟨R + K, by grind, fun i hi => ?_⟩
      by_cases e : i = d
      · rw [e]
        constructor <;> grind
      · have := r1 i (by omega)
        constructor <;> grind
  have := hoR_hi (z := R + 1) h hR.2 hR.1 Rat.le_refl d (Nat.le_refl _)
  rw [h1] at this
  grind
theorem RV.up {s : RS} {n : Nat} (hn : s.1 = n + 1) (hs : ∀ i, i ≤ n → s.2.1 i (s.2.2 i) ≠ 0) (x : Int) (p : Nat) : RV (pR s) n ((x : Rat) * ((2 : Rat) ^ p)⁻¹) (cUp s x p) ∧ mCh s x p 1 = cUp s x p := by
  have nz : ∀ i, i ≤ n → sgnUp (s.2.1 i) (s.2.2 i) x p ≠ 0 := fun i hi => sgnUp_nz (hs i hi)
  have pm := fun i hi => sgnUp_pm (nz i hi)
  obtain ⟨c1, c2⟩ := ch_cV (s := upG s x p) n pm
  obtain ⟨t0, h0, h1⟩ := up_all x p n nz
  refine ⟨⟨t0, h0, fun t a b => ?_⟩, ?_⟩
  · have := sgB_of (p := pR s) pm (h1 t a b)
    unfold cUp
    rw [hn, c1]
    exact this
  · unfold cUp mCh
    rw [hn, c1]
    have e : mSg s x p 1 = upG s x p := funext fun q => if_pos rfl
    rw [e, c2]
