/-! Roots told nearer and nearer; counts of unit intervals; multiplicities. -/
theorem one_pow (x : Int) : (x : Rat) * ((2 : Rat) ^ 0)⁻¹ = (x : Rat) := by
  have := cast_pow2 0 x
  rw [show x * 2 ^ 0 = x by omega] at this
  exact this
theorem scl6 (x : Int) : (((x * 64 : Int)) : Rat) * ((2 : Rat) ^ 6)⁻¹ = (x : Rat) * ((2 : Rat) ^ 0)⁻¹ := by
  rw [one_pow]
  exact cast_pow2 6 x
theorem scl3 (x : Int) : (((x * 8 : Int)) : Rat) * ((2 : Rat) ^ 6)⁻¹ = (x : Rat) * ((2 : Rat) ^ 3)⁻¹ := by
  have e : ((2 : Rat) ^ 6)⁻¹ = ((2 : Rat) ^ 3)⁻¹ * ((2 : Rat) ^ 3)⁻¹ := by decide +kernel
  rw [e, ← Rat.mul_assoc]
  congr 1
  exact cast_pow2 3 x
theorem bel_at {P : Nat → Int} {R : RS} (h : RowB P R) {k : Int} (k0 : 0 ≤ k) (k1 : k < allD R) {p : Nat} (hp : p ≤ 6) : cUp R (belowF R k p + 1) p < cUp R (-31) 0 - k ∧ cUp R (-31) 0 - k ≤ cUp R (belowF R k p) p := by
  obtain ⟨h1, h2, h3, h4, h5⟩ := h
  obtain ⟨e1, e2⟩ := h5 p
  obtain ⟨q1, q2⟩ := pow2_le hp
  have ha : allD R = cUp R (-31) 0 - cUp R 31 0 := if_neg h1
  have := bel_spec (f := fun n => cUp R (-(31 * 2 ^ p)) p - cUp R n p) (i := k) 32 (-(31 * 2 ^ p)) (31 * 2 ^ p) (by omega) (by
    have : (2 : Int) ^ 32 = 4294967296 := by decide
    omega) (by show cUp R (-(31 * 2 ^ p)) p - cUp R (-(31 * 2 ^ p)) p ≤ k; omega) (by show k < cUp R (-(31 * 2 ^ p)) p - cUp R (31 * 2 ^ p) p; omega)
  have g1 : cUp R (-(31 * 2 ^ p)) p - cUp R (belowF R k p) p ≤ k := this.1
  have g2 : k < cUp R (-(31 * 2 ^ p)) p - cUp R (belowF R k p + 1) p := this.2
  omega
theorem bel_un {P : Nat → Int} {R : RS} (h : RowB P R) {k : Int} (k0 : 0 ≤ k) (k1 : k < allD R) {p : Nat} (hp : p ≤ 6) {q : Int} (q1 : cUp R (q + 1) p < cUp R (-31) 0 - k) (q2 : cUp R (-31) 0 - k ≤ cUp R q p) : belowF R k p = q := by
  obtain ⟨g1, g2⟩ := bel_at h k0 k1 hp
  have h2 := h.2.1
  by_cases c : belowF R k p < q
  · have := h2 (belowF R k p + 1) q p (by omega)
    omega
  · by_cases c2 : q < belowF R k p
    · have := h2 (q + 1) (belowF R k p) p (by omega)
      omega
    · omega
theorem near_F {P : Nat → Int} {R : RS} (h : RowB P R) {k : Int} (k0 : 0 ≤ k) (k1 : k < allD R) : belowF R k 0 = belowF R k 6 / 2 ^ 6 ∧ belowF R k 3 = belowF R k 6 / 2 ^ 3 := by
  obtain ⟨g1, g2⟩ := bel_at h k0 k1 (p := 6) (by decide)
  have h2 := h.2.1
  have h3 := h.2.2.1
  generalize belowF R k 6 = m at *
  rw [show (2 : Int) ^ 6 = 64 from rfl, show (2 : Int) ^ 3 = 8 from rfl]
  constructor
  · refine bel_un h k0 k1 (by decide) ?_ ?_
    · rw [← h3 ((m / 64 + 1) * 64) (m / 64 + 1) 6 0 (scl6 _)]
      have := h2 (m + 1) ((m / 64 + 1) * 64) 6 (by omega)
      omega
    · rw [← h3 (m / 64 * 64) (m / 64) 6 0 (scl6 _)]
      have := h2 (m / 64 * 64) m 6 (by omega)
      omega
  · refine bel_un h k0 k1 (by decide) ?_ ?_
    · rw [← h3 ((m / 8 + 1) * 8) (m / 8 + 1) 6 3 (scl3 _)]
      have := h2 (m + 1) ((m / 8 + 1) * 8) 6 (by omega)
      omega
    · rw [← h3 (m / 8 * 8) (m / 8) 6 3 (scl3 _)]
      have := h2 (m / 8 * 8) m 6 (by omega)
      omega
theorem mono_F {P : Nat → Int} {R : RS} (h : RowB P R) {k : Int} (k0 : 0 < k) (k1 : k < allD R) : belowF R (k - 1) 6 ≤ belowF R k 6 := by
  obtain ⟨g1, g2⟩ := bel_at h (k := k) (by omega) k1 (p := 6) (by decide)
  obtain ⟨g3, g4⟩ := bel_at h (k := k - 1) (by omega) (by omega) (p := 6) (by decide)
  by_cases c : belowF R (k - 1) 6 ≤ belowF R k 6
  · exact c
  · have := h.2.1 (belowF R k 6 + 1) (belowF R (k - 1) 6) 6 (by omega)
    omega
theorem sumD_at {R : RS} (h : R.1 ≠ 0) : ∀ n : Nat, sumD R n = cUp R (-20) 0 - cUp R (-20 + (n : Nat)) 0
  | 0 => by
    rw [show (-20 + ((0 : Nat) : Int)) = -20 from rfl]
    simp only [sumD]
    omega
  | n + 1 => by
    have e : dBet R (-20 + (n : Nat)) (-20 + (n : Nat) + 1) = cUp R (-20 + (n : Nat)) 0 - cUp R (-20 + (n : Nat) + 1) 0 := if_neg h
    simp only [sumD]
    rw [sumD_at h n, e, show (-20 + ((n + 1 : Nat) : Int)) = -20 + (n : Nat) + 1 by omega]
    omega
theorem mulF_0 (w : Nat → Int) : 0 < mulF w 5 ↔ (w 0 = 0 ∧ ¬ ∀ q, q < 5 → w q = 0) := by
  simp only [mulF]
  show 0 < (if w 0 ≠ 0 then (0 : Int) else if w 1 ≠ 0 then 1 else if w 2 ≠ 0 then 2 else if w 3 ≠ 0 then 3 else if w 4 ≠ 0 then 4 else -1) ↔ _
  by_cases c0 : w 0 = 0
  · rw [if_neg (fun h => h c0)]
    constructor
    · intro h
      refine ⟨c0, fun h2 => ?_⟩
      rw [if_neg (fun h => h (h2 1 (by decide))), if_neg (fun h => h (h2 2 (by decide))), if_neg (fun h => h (h2 3 (by decide))), if_neg (fun h => h (h2 4 (by decide)))] at h
      omega
    · intro h9
      have h := h9.2
      split
      · decide
      · rename_i c1
        split
        · decide
        · rename_i c2
          split
          · decide
          · rename_i c3
            split
            · decide
            · rename_i c4
              refine absurd (fun q hq => ?_) h
              rcases (show q = 0 ∨ q = 1 ∨ q = 2 ∨ q = 3 ∨ q = 4 by omega) with rfl | rfl | rfl | rfl | rfl
              · exact c0
              · exact Decidable.byContradiction c1
              · exact Decidable.byContradiction c2
              · exact Decidable.byContradiction c3
              · exact Decidable.byContradiction c4
  · rw [if_pos c0]
    exact ⟨fun h => absurd h (by decide), fun h => absurd h.1 c0⟩
theorem val_sh (P : Nat → Int) (x : Int) : valF P x 5 = shP P x 0 := by
  rw [(der_sh P x).2.1]
  simp only [valF]
  show ((((0 * x + P 4) * x + P 3) * x + P 2) * x + P 1) * x + P 0 = _
  grind
theorem cntF_rng (a b : Int) : ∀ (n : Nat) (s : RS), s.1 ≤ 5 → -(5 * (n : Nat)) ≤ cntF a b n s ∧ cntF a b n s ≤ 5 * (n : Nat)
  | 0, s, _ => by simp [cntF]
  | n + 1, s, h => by
    have h1 := dBet_rng s a b h
    have h2 := cntF_rng a b n (buildF (s.2.1 (s.1 - 1))) (buildF_le _)
    simp only [cntF]
    split <;> omega
theorem surF_rng (T : CT) (a b : Int) : -1000 ≤ surF T a b ∧ surF T a b ≤ 1000 := by
  have h1 := chZ_rng (fun i => sg (shP (tP T) a i)) (fun k => sg_rng _) 5
  have h2 := chZ_rng (fun i => sg (shP (tP T) b i)) (fun k => sg_rng _) 5
  have h3 := cntF_rng a b 5 (buildF (tP T)) (buildF_le _)
  unfold surF derCh
  split <;> omega
theorem rtF_of {T : CT} {pw : Nat} (hW : WfT T) (hP : PwR T pw) (hz : ¬ zerQ pw (tP T) (-1)) (hal : ∀ k : Int, 0 ≤ k → k < allD (buildF (tP T)) → (¬ k = 0 ∧ belowF (buildF (tP T)) (k - 1) 6 = belowF (buildF (tP T)) k 6) ∨ (¬ k + 1 = allD (buildF (tP T)) ∧ belowF (buildF (tP T)) (k + 1) 6 = belowF (buildF (tP T)) k 6) ∨ fnA (tP T) (pw - 1) (belowF (buildF (tP T)) k 6 + 1) pw = 0 ∨ fnA (tP T) (pw - 1) (belowF (buildF (tP T)) k 6) pw = 0 ∨ ¬ allD (buildF (tP T)) = degF (tP T) 5 ∨ ¬ sg (fnA (tP T) (pw - 1) (belowF (buildF (tP T)) k 6 + 1) pw) = sg (fnA (tP T) (pw - 1) (belowF (buildF (tP T)) k 6) pw)) (hsur : 0 ≤ surF T (-4) 7 ∧ (surF T (-4) 7).tmod 2 = 0) : RtF T pw := by
  have hw5 : pw ≤ 5 := by
    have h1 := hP.1
    have h2 := hW.1.1
    omega
  have ht := nz_top hP hz hw5
  have hB := rowB hW.2.1 ht
  have h1 := hB.1
  have h2 := hB.2.1
  have h4 := hB.2.2.2.1
  have ha : allD (buildF (tP T)) = cUp (buildF (tP T)) (-31) 0 - cUp (buildF (tP T)) 31 0 := if_neg h1
  have hd : ∀ a b, dBet (buildF (tP T)) a b = cUp (buildF (tP T)) a 0 - cUp (buildF (tP T)) b 0 := fun a b => if_neg h1
  refine ⟨?_, ?_, ?_, ?_, fun k k0 k1 => near_F hB k0 k1, fun k k0 k1 => mono_F hB k0 k1, hal, fun x x0 x1 => ?_, ⟨hsur.1, hsur.2, (surF_rng T _ _).2⟩, surF_rng T _ _⟩
  · rw [sumD_at h1, hd]
    rfl
  · rw [hd, ha]
    have g1 := h2 (-31) (-20) 0 (by decide)
    have g2 := h2 20 31 0 (by decide)
    omega
  · rw [ha]
    have g1 := h4 (-31) 0
    have g2 := cUp_rng (buildF (tP T)) 31 0
    omega
  · have o1 : ofSgn T (-1) = dBet (buildF (tP T)) (-31) 0 - (if tP T 0 = 0 then 1 else 0) := by
      unfold ofSgn
      rw [if_neg h1, if_neg (show ¬ (-1 : Int) = 0 by decide), if_neg (show ¬ (0 : Int) < -1 by decide)]
    have o0 : ofSgn T 0 = (if tP T 0 = 0 then 1 else 0) := by
      unfold ofSgn
      rw [if_neg h1, if_pos rfl]
    have o2 : ofSgn T 1 = dBet (buildF (tP T)) 0 31 := by
      unfold ofSgn
      rw [if_neg h1, if_neg (show ¬ (1 : Int) = 0 by decide), if_pos (show (0 : Int) < 1 by decide)]
    rw [o1, o0, o2, ha, hd, hd]
    omega
  · rw [mulF_0, val_sh]
    constructor
    · exact fun h => h.1
    · intro h
      refine ⟨h, fun h5 => ?_⟩
      have := (deg_sh (tP T) x).mpr h5
      have := degF_top (tP T) 5
      rw [← topW_95 (fun j hj => (hW.2.1 j).2.2 hj)] at this
      omega
