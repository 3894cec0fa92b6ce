/-! The reference's rows are remainders. -/
def pv (f : Nat → Int) (z : Rat) : Rat := (f 0 : Rat) + z * ((f 1 : Rat) + z * ((f 2 : Rat) + z * ((f 3 : Rat) + z * (f 4 : Rat))))
/-- no coefficient above -/
def Zd (f : Nat → Int) (d : Nat) : Prop := ∀ i, d < i → f i = 0
theorem i0 : ((0 : Int) : Rat) = 0 := rfl
theorem hoR_pv {f : Nat → Int} {d : Nat} (hd : d ≤ 4) (hz : Zd f d) (z : Rat) : hoR z f d d = pv f z := by
  rcases (show d = 0 ∨ d = 1 ∨ d = 2 ∨ d = 3 ∨ d = 4 by omega) with rfl | rfl | rfl | rfl | rfl
  · simp only [hoR, pv, hz 1 (by omega), hz 2 (by omega), hz 3 (by omega), hz 4 (by omega), i0]
    grind
  · simp only [hoR, pv, hz 2 (by omega), hz 3 (by omega), hz 4 (by omega), i0]
    grind
  · simp only [hoR, pv, hz 3 (by omega), hz 4 (by omega), i0]
    grind
  · simp only [hoR, pv, hz 4 (by omega), i0]
    grind
  · simp only [hoR, pv]
theorem PL_pv (f : Nat → Int) : PL (pv f) := (PL.ho f 4 4).cong (fun _ => rfl)
theorem ab_s {x : Int} (h : x ≠ 0) : ∃ s : Int, (s = 1 ∨ s = -1) ∧ ab x = s * x ∧ 0 < ab x ∧ (0 < x → s = 1) ∧ (¬ 0 < x → s = -1) := by
  by_cases c : 0 < x
  · exact ⟨1, Or.inl rfl, by unfold ab; rw [if_pos c]; omega, by unfold ab; rw [if_pos c]; omega, fun _ => rfl, fun z => absurd c z⟩
  · exact ⟨-1, Or.inr rfl, by unfold ab; rw [if_neg c]; omega, by unfold ab; rw [if_neg c]; omega, fun z => absurd z c, fun _ => rfl⟩
theorem mcan_s {e w : Nat → Int} {low top : Nat} (he : e low ≠ 0) : ∃ s : Int, ab (e low) = s * e low ∧ 0 < ab (e low) ∧ ∀ p, mcan e low top w p = if p < top then w p * (s * e low) + (if top ≤ p + low then -(s * (w top * e (p + low - top))) else 0) else if p = top then 0 else w p := by
  obtain ⟨s, h1, h2, h3, h4, h5⟩ := ab_s he
  refine ⟨s, h2, h3, fun p => ?_⟩
  unfold mcan
  rw [h2]
  by_cases c : p < top
  · rw [if_pos c, if_pos c]
    by_cases c2 : top ≤ p + low
    · rw [if_pos c2, if_pos c2]
      by_cases c3 : 0 < e low
      · rw [if_pos c3, h4 c3]
        omega
      · rw [if_neg c3, h5 c3]
        omega
    · rw [if_neg c2, if_neg c2]
  · rw [if_neg c, if_neg c]
theorem mcan_pv {e w : Nat → Int} {low top : Nat} (ht : top ≤ 4) (hl : low ≤ top) (he : e low ≠ 0) (ze : Zd e low) (zw : Zd w top) : ∃ s : Int, 0 < ab (e low) ∧ ∀ z : Rat, pv (mcan e low top w) z = (ab (e low) : Rat) * pv w z - ((s * w top : Int) : Rat) * z ^ (top - low) * pv e z := by
  obtain ⟨s, h2, h3, h4⟩ := mcan_s (w := w) (top := top) he
  refine ⟨s, h3, fun z => ?_⟩
  rw [h2]
  unfold pv
  simp only [h4]
  rcases (show top = 0 ∨ top = 1 ∨ top = 2 ∨ top = 3 ∨ top = 4 by omega) with rfl | rfl | rfl | rfl | rfl
  · have l0 : low = 0 := by omega
    subst l0
    simp [ze 1 (by omega), ze 2 (by omega), ze 3 (by omega), ze 4 (by omega), zw 1 (by omega), zw 2 (by omega), zw 3 (by omega), zw 4 (by omega)]
    grind
  · rcases (show low = 0 ∨ low = 1 by omega) with rfl | rfl
    · simp [ze 1 (by omega), ze 2 (by omega), ze 3 (by omega), ze 4 (by omega), zw 2 (by omega), zw 3 (by omega), zw 4 (by omega)]
      grind
    · simp [ze 2 (by omega), ze 3 (by omega), ze 4 (by omega), zw 2 (by omega), zw 3 (by omega), zw 4 (by omega)]
      grind
  · rcases (show low = 0 ∨ low = 1 ∨ low = 2 by omega) with rfl | rfl | rfl
    · simp [ze 1 (by omega), ze 2 (by omega), ze 3 (by omega), ze 4 (by omega), zw 3 (by omega), zw 4 (by omega)]
      grind
    · simp [ze 2 (by omega), ze 3 (by omega), ze 4 (by omega), zw 3 (by omega), zw 4 (by omega)]
      grind
    · simp [ze 3 (by omega), ze 4 (by omega), zw 3 (by omega), zw 4 (by omega)]
      grind
  · rcases (show low = 0 ∨ low = 1 ∨ low = 2 ∨ low = 3 by omega) with rfl | rfl | rfl | rfl
    · simp [ze 1 (by omega), ze 2 (by omega), ze 3 (by omega), ze 4 (by omega), zw 4 (by omega)]
      grind
    · simp [ze 2 (by omega), ze 3 (by omega), ze 4 (by omega), zw 4 (by omega)]
      grind
    · simp [ze 3 (by omega), ze 4 (by omega), zw 4 (by omega)]
      grind
    · simp [ze 4 (by omega), zw 4 (by omega)]
      grind
  · rcases (show low = 0 ∨ low = 1 ∨ low = 2 ∨ low = 3 ∨ low = 4 by omega) with rfl | rfl | rfl | rfl | rfl
    · simp [ze 1 (by omega), ze 2 (by omega), ze 3 (by omega), ze 4 (by omega)]
      grind
    · simp [ze 2 (by omega), ze 3 (by omega), ze 4 (by omega)]
      grind
    · simp [ze 3 (by omega), ze 4 (by omega)]
      grind
    · simp [ze 4 (by omega)]
      grind
    · simp
      grind
theorem PL.pow : ∀ k : Nat, PL (fun z => z ^ k)
  | 0 => (PL.const 1).cong (fun x => (Rat.pow_zero x).symm)
  | k + 1 => ((PL.pow k).mul PL.idf).cong (fun x => (Rat.pow_succ x k).symm)
theorem mdiv_ok {e : Nat → Int} {low : Nat} (he : e low ≠ 0) (ze : Zd e low) : ∀ (k top : Nat) (w : Nat → Int), (0 < k → top + 1 = low + k) → top ≤ 4 → (∀ i, low + k ≤ i → w i = 0) → (∃ (a : Rat) (q : Rat → Rat), 0 < a ∧ PL q ∧ ∀ z, pv (mdivL e low k top w) z = a * pv w z - q z * pv e z) ∧ ∀ i, low ≤ i → mdivL e low k top w i = 0
  | 0, top, w, _, _, zw => ⟨⟨1, fun _ => 0, by decide, PL.const 0, fun z => by simp only [mdivL]; grind⟩, fun i hi => zw i (by omega)⟩
  | k + 1, top, w, hk, ht, zw => by
    have hk := hk (by omega)
    obtain ⟨s, h0, h1⟩ := mcan_pv (e := e) (w := w) (low := low) (top := top) ht (by omega) he ze (fun i hi => zw i (by omega))
    have zz : ∀ i, low + k ≤ i → mcan e low top w i = 0 := by
      intro i hi
      unfold mcan
      rw [if_neg (by omega)]
      split
      · rfl
      · exact zw i (by omega)
    obtain ⟨⟨a, q, a0, hq, E⟩, Z⟩ := mdiv_ok he ze k (top - 1) (mcan e low top w) (by omega) (by omega) zz
    refine ⟨⟨a * (ab (e low) : Rat), fun z => a * (((s * w top : Int) : Rat) * z ^ (top - low)) + q z, Rat.mul_pos a0 (Rat.intCast_pos.mpr h0), ?_, fun z => ?_⟩, Z⟩
    · exact ((PL.const a).mul ((PL.const _).mul (PL.pow _))).add hq
    · show pv (mdivL e low k (top - 1) (mcan e low top w)) z = _
      rw [E z, h1 z]
      grind
