/-! The reference: where its cells lie; its long numbers. -/
def MoL (lay : Lay) (d : Nat) : Prop := lay.1 d = some (0, 5, fun j => match j with | 1 => some (d + 1) | 2 => some (d + 2) | 3 => some (d + 3) | 5 => some (d + 4) | 6 => some (d + 5) | 7 => some (d + 6) | 8 => some (d + 7) | 10 => some (d + 8) | 11 => some (d + 9) | 19 => some (d + 10) | 21 => some (d + 11) | _ => some (d + 12)) ∧ lay.1 (d + 1) = some (1, 280, fun _ => none) ∧ lay.1 (d + 2) = some (1, 280, fun _ => none) ∧ lay.1 (d + 3) = some (1, 3360, fun _ => none) ∧ lay.1 (d + 4) = some (1, 560, fun _ => none) ∧ lay.1 (d + 5) = some (4, 2, fun _ => none) ∧ lay.1 (d + 6) = some (1, 9, fun _ => none) ∧ lay.1 (d + 7) = some (1, 3008, fun _ => none) ∧ lay.1 (d + 8) = some (1, 9, fun _ => none) ∧ lay.1 (d + 9) = some (3, 600, fun _ => none) ∧ lay.1 (d + 10) = some (3, 69, fun _ => none) ∧ lay.1 (d + 11) = some (1, 246, fun _ => none) ∧ lay.1 (d + 12) = some (3, 1024, fun _ => none)
def pB (n : Nat) : Int := 1000000000 ^ n
theorem pB_0 : pB 0 = 1 := rfl
theorem pB_s (n : Nat) : pB (n + 1) = 1000000000 * pB n := by
  unfold pB
  rw [Int.pow_succ, Int.mul_comm]
theorem pB_pos (n : Nat) : 1 ≤ pB n := by
  induction n with
  | zero => exact Int.le_refl _
  | succ n ih => rw [pB_s]; omega
theorem pB_add (i j : Nat) : pB (i + j) = pB i * pB j := Int.pow_add ..
theorem pB_le {i j : Nat} (h : i ≤ j) : pB i ≤ pB j := by
  obtain ⟨m, rfl⟩ := Nat.exists_eq_add_of_le h
  clear h
  induction m with
  | zero => exact Int.le_refl _
  | succ m ih =>
    rw [← Nat.add_assoc, pB_s]
    have := pB_pos (i + m)
    omega
theorem pB_lt {i j : Nat} (h : pB i < pB j) : i < j := by
  rcases Nat.lt_or_ge i j with h1 | h1
  · exact h1
  · have := pB_le h1
    omega
def vl (f : Nat → Int) : Nat → Int
  | 0 => 0
  | n + 1 => vl f n + f n * pB n
theorem vl_cong {f g : Nat → Int} : ∀ n : Nat, (∀ i, i < n → f i = g i) → vl f n = vl g n
  | 0, _ => rfl
  | n + 1, h => by
    simp only [vl]
    rw [vl_cong n (fun i hi => h i (by omega)), h n (by omega)]
theorem vl_nn {f : Nat → Int} : ∀ n : Nat, (∀ i, i < n → 0 ≤ f i) → 0 ≤ vl f n
  | 0, _ => Int.le_refl _
  | n + 1, h => by
    have h1 := vl_nn n (fun i hi => h i (by omega))
    have h2 := Int.mul_nonneg (h n (by omega)) (show 0 ≤ pB n by have := pB_pos n; omega)
    simp only [vl]
    omega
theorem vl_lt {f : Nat → Int} : ∀ n : Nat, (∀ i, i < n → 0 ≤ f i ∧ f i < 1000000000) → vl f n < pB n
  | 0, _ => by simp [vl, pB]
  | n + 1, h => by
    have h1 := vl_lt n (fun i hi => h i (by omega))
    have h2 := Int.mul_le_mul_of_nonneg_right (show f n ≤ 999999999 by have := h n (by omega); omega) (show 0 ≤ pB n by have := pB_pos n; omega)
    simp only [vl]
    rw [pB_s]
    omega
theorem vl_mono {f : Nat → Int} {m : Nat} : ∀ n : Nat, m ≤ n → (∀ i, i < n → 0 ≤ f i) → vl f m ≤ vl f n
  | 0, hm, _ => by rw [show m = 0 by omega]; exact Int.le_refl _
  | n + 1, hm, h => by
    by_cases e : m = n + 1
    · rw [e]; exact Int.le_refl _
    · have h1 := vl_mono (m := m) n (by omega) (fun i hi => h i (by omega))
      have h2 := Int.mul_nonneg (h n (by omega)) (show 0 ≤ pB n by have := pB_pos n; omega)
      simp only [vl]
      omega
theorem vl_ge {f : Nat → Int} {m n : Nat} (hm : m < n) (h : ∀ i, i < n → 0 ≤ f i) (h1 : 1 ≤ f m) : pB m ≤ vl f n := by
  have a1 := vl_mono (f := f) (m := m + 1) n (by omega) h
  have a2 := vl_nn (f := f) m (fun i hi => h i (by omega))
  have a3 := Int.mul_le_mul_of_nonneg_right h1 (show 0 ≤ pB m by have := pB_pos m; omega)
  simp only [vl] at a1
  omega
theorem vl_top {f : Nat → Int} {m : Nat} : ∀ n : Nat, m ≤ n → (∀ i, m ≤ i → i < n → f i = 0) → vl f n = vl f m
  | 0, hm, _ => by rw [show m = 0 by omega]
  | n + 1, hm, h => by
    by_cases e : m = n + 1
    · rw [e]
    · simp only [vl]
      rw [h n (by omega) (by omega), vl_top (m := m) n (by omega) (fun i h1 h2 => h i h1 (by omega))]
      omega
theorem vl_z {f : Nat → Int} : ∀ n : Nat, (∀ i, i < n → 0 ≤ f i) → vl f n = 0 → ∀ i, i < n → f i = 0
  | 0, _, _, i, hi => by omega
  | n + 1, h, hz, i, hi => by
    have h1 := vl_nn n (fun i hi => h i (by omega))
    have h2 := Int.mul_nonneg (h n (by omega)) (show 0 ≤ pB n by have := pB_pos n; omega)
    simp only [vl] at hz
    by_cases e : i = n
    · subst e
      have h3 : f i * pB i = 0 := by omega
      rcases Int.mul_eq_zero.mp h3 with h4 | h4
      · exact h4
      · have := pB_pos i
        omega
    · exact vl_z n (fun i hi => h i (by omega)) (by omega) i (by omega)
theorem vl_up {f : Nat → Int} {q : Nat} {s : Int} : ∀ n : Nat, q < n → vl (fup f q s) n = vl f n + (s - f q) * pB q
  | 0, h => by omega
  | n + 1, h => by
    simp only [vl]
    by_cases e : q = n
    · subst e
      rw [vl_cong (f := fup f q s) (g := f) q (fun i hi => fup_ne (by omega)), fup_at]
      grind
    · rw [vl_up n (by omega), fup_ne (by omega)]
      grind
/-- a slot of 32 places holds a number -/
def Sl (v : Int) (m : Nat → Int) : Prop := m 0 = sg v ∧ (∀ i, i < 31 → 0 ≤ m (i + 1) ∧ m (i + 1) < 1000000000) ∧ vl (fun i => m (i + 1)) 31 = ab v
abbrev slm (M : Mem) (d k : Nat) : Nat → Int := fun i => M (d + 7) (32 * k + i)
/-- the long numbers -/
def Bg (N : Nat → Int) (M : Mem) (d : Nat) : Prop := ∀ k, k < 94 → Sl (N k) (slm M d k)
/-- one slot alone differs -/
def FrS (d k : Nat) (M M' : Mem) : Prop := ∀ a j, ¬ (a = d + 7 ∧ 32 * k ≤ j ∧ j < 32 * k + 32) → M' a j = M a j
theorem FrS.rf {d k : Nat} {M : Mem} : FrS d k M M := fun _ _ _ => rfl
theorem FrS.tr {d k : Nat} {M M' M'' : Mem} (h : FrS d k M M') (h2 : FrS d k M' M'') : FrS d k M M'' := fun a j q => (h2 a j q).trans (h a j q)
theorem FrS.ms {d k i : Nat} {v : Int} {M M' : Mem} (h : FrS d k M M') (hi : 32 * k ≤ i ∧ i < 32 * k + 32) : FrS d k M (mset M' (d + 7) i v) := fun a j q => by
  rw [mset_ne (fun e => q ⟨e.1, by omega⟩)]
  exact h a j q
theorem FrS.frm {d k : Nat} {M M' : Mem} (h : FrS d k M M') : Frm (d + 7) (d + 8) M M' := fun a j q => h a j (fun z => q (by omega))
theorem FrS.sl {d k q : Nat} {M M' : Mem} (h : FrS d k M M') (hq : q ≠ k) (i : Nat) (hi : i < 32) : slm M' d q i = slm M d q i := h _ _ (by omega)
theorem Sl.cong {v : Int} {m m' : Nat → Int} (h : Sl v m) (e : ∀ i, i < 32 → m' i = m i) : Sl v m' := ⟨by rw [e 0 (by omega)]; exact h.1, fun i hi => by rw [e _ (by omega)]; exact h.2.1 i hi, by rw [← h.2.2]; exact vl_cong 31 (fun i hi => e _ (by omega))⟩
theorem Bg.up {N : Nat → Int} {M M' : Mem} {d k : Nat} {v : Int} (h : Bg N M d) (hF : FrS d k M M') (hv : Sl v (slm M' d k)) : Bg (fup N k v) M' d := fun j hj => by
  by_cases e : j = k
  · rw [e, fup_at]
    exact hv
  · rw [fup_ne e]
    exact (h j hj).cong (fun i hi => hF.sl e i hi)
theorem Sl.dg {v : Int} {m : Nat → Int} (h : Sl v m) : ∀ i, i < 31 → 0 ≤ m (i + 1) ∧ m (i + 1) < 1000000000 := h.2.1
theorem Sl.dn {v : Int} {m : Nat → Int} (h : Sl v m) : ∀ i, i < 31 → 0 ≤ (fun i => m (i + 1)) i := fun i hi => (h.2.1 i hi).1
theorem Sl.lt {v : Int} {m : Nat → Int} (h : Sl v m) : ab v < pB 31 := by rw [← h.2.2]; exact vl_lt 31 h.2.1
theorem ab_nn (x : Int) : 0 ≤ ab x := by unfold ab; split <;> omega
theorem sg_0 {x : Int} : sg x = 0 ↔ x = 0 := by unfold sg; split <;> (try split) <;> omega
theorem ab_0 {x : Int} : ab x = 0 ↔ x = 0 := by unfold ab; split <;> omega
theorem sg_neg (x : Int) : sg (-x) = - sg x := by unfold sg; repeat' split <;> (try omega)
theorem ab_neg (x : Int) : ab (-x) = ab x := by unfold ab; repeat' split <;> (try omega)
theorem ab_sg (x : Int) : x = sg x * ab x := by
  unfold sg ab
  split
  · omega
  · split <;> omega
theorem sg_mul (x y : Int) : sg (x * y) = sg x * sg y := by
  rcases Int.lt_trichotomy x 0 with hx | hx | hx
  · rcases Int.lt_trichotomy y 0 with hy | hy | hy
    · have := Int.mul_pos_of_neg_of_neg hx hy
      unfold sg
      rw [if_pos this, if_neg (by omega), if_pos hx, if_neg (by omega), if_pos hy]
      rfl
    · subst hy; simp [sg]
    · have := Int.mul_neg_of_neg_of_pos hx hy
      unfold sg
      rw [if_neg (by omega), if_pos this, if_neg (by omega), if_pos hx, if_pos hy]
      rfl
  · subst hx; simp [sg]
  · rcases Int.lt_trichotomy y 0 with hy | hy | hy
    · have := Int.mul_neg_of_pos_of_neg hx hy
      unfold sg
      rw [if_neg (by omega), if_pos this, if_pos hx, if_neg (by omega), if_pos hy]
      rfl
    · subst hy; simp [sg]
    · have := Int.mul_pos hx hy
      unfold sg
      rw [if_pos this, if_pos hx, if_pos hy]
      rfl
theorem ab_mul (x y : Int) : ab (x * y) = ab x * ab y := by
  have e := sg_mul x y
  have h1 := ab_sg x
  have h2 := ab_sg y
  have h3 := ab_sg (x * y)
  have hx : sg x = 1 ∨ sg x = -1 ∨ x = 0 := by unfold sg; split <;> (try split) <;> omega
  have hy : sg y = 1 ∨ sg y = -1 ∨ y = 0 := by unfold sg; split <;> (try split) <;> omega
  rcases hx with hx | hx | hx
  · rcases hy with hy | hy | hy
    · rw [e, hx, hy] at h3; rw [hx] at h1; rw [hy] at h2; grind
    · rw [e, hx, hy] at h3; rw [hx] at h1; rw [hy] at h2; grind
    · subst hy; simp [ab]
  · rcases hy with hy | hy | hy
    · rw [e, hx, hy] at h3; rw [hx] at h1; rw [hy] at h2; grind
    · rw [e, hx, hy] at h3; rw [hx] at h1; rw [hy] at h2; grind
    · subst hy; simp [ab]
  · subst hx; simp [ab]
theorem Sl_0 {m : Nat → Int} (h : ∀ i, i < 32 → m i = 0) : Sl 0 m := ⟨by rw [h 0 (by omega)]; rfl, fun i hi => by rw [h _ (by omega)]; omega, by rw [vl_top (m := 0) 31 (by omega) (fun i _ hi => h _ (by omega))]; rfl⟩
theorem Sl_1 {v : Int} {m : Nat → Int} (hv : -1000000000 < v ∧ v < 1000000000) (h0 : m 0 = sg v) (h1 : m 1 = ab v) (h : ∀ i, 2 ≤ i → i < 32 → m i = 0) : Sl v m := by
  refine ⟨h0, fun i hi => ?_, ?_⟩
  · cases i with
    | zero =>
      rw [Nat.zero_add, h1]
      have := ab_nn v
      unfold ab at *
      split at this <;> (constructor <;> (try split) <;> omega)
    | succ i => rw [h _ (by omega) (by omega)]; omega
  · rw [vl_top (m := 1) 31 (by omega) (fun i h2 hi => h _ (by omega) (by omega))]
    simp only [vl, pB_0]
    rw [Nat.zero_add, h1]
    omega

set_option maxRecDepth 100000 in
theorem sp_X5_slot {g : GG} {lay : Lay} {M : Mem} {K : KK} {x : Int}  (k : K (.inl (some (vI (32 * x)))) lay M) : X g m_X5_slot 0 0 lay M 0 [(0, vI x)] [] K := by
  refine x_bipush (pc := 0) dX5_slot_0 (by decide) ?_
  refine x_iload_n (pc := 2) dX5_slot_2 rfl rfl ?_
  refine x_imul (pc := 3) dX5_slot_3 ?_
  refine x_iret (pc := 4) dX5_slot_4 rfl (by decide) (by decide) ?_
  exact k
set_option maxRecDepth 100000 in
theorem sp_X5_signOf {g : GG} {lay : Lay} {M : Mem} {K : KK} {d : Nat} {k9 : Nat} {v : Int} (hd : MoL lay d) (hb0 : g.2.1 ≤ d) (hv : Sl v (slm M d k9)) (hk9 : k9 < 94) (k : K (.inl (some (vI (sg v)))) lay M) : X g m_X5_signOf 0 0 lay M 0 [(0, vR d), (1, vI k9)] [] K := by
  have h0 : M (d + 7) (32 * k9 + 0) = sg v := hv.1
  refine x_aload_n (pc := 0) dX5_signOf_0 rfl rfl ?_
  refine x_getr (pc := 1) (b := d + 7) fX5_29 dX5_signOf_1 hd.1 rfl rfl ?_
  refine x_iload_n (pc := 4) dX5_signOf_4 rfl rfl ?_
  refine x_callS (pc := 5) [_] rfl kX5_58 dX5_signOf_5 rfl (by decide) (Nat.le_of_ble_eq_true rfl) (Nat.le_of_ble_eq_true rfl) (by decide) ?_
  refine sp_X5_slot ?_
  refine ⟨_, rfl, ?_⟩
  refine x_iald (pc := 8) dX5_signOf_8 hd.2.2.2.2.2.2.2.1 (by omega) (by omega) (fun r8a r8b => ?_)
  rw [show (32 * (k9 : Int)).toNat = 32 * k9 + 0 by omega, h0]
  refine x_iret (pc := 9) dX5_signOf_9 rfl (by decide) (by decide) ?_
  exact k
