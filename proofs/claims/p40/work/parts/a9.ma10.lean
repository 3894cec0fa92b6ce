/-! What the rows tell alike: all of it, but the roots as often as they are ones. -/
theorem WfP.zd {P : Nat → Int} (h : WfP P) : Zd P 4 := fun i hi => (h i).2.2 (by omega)
theorem rows_zero {P : Nat → Int} (c : topW P 9 = 0) : (mRows P).1 = 0 := by
  unfold mRows
  rw [if_pos c]
theorem mch_cup {P Q : Nat → Int} (hz : Zd P 4) (hPQ : Pp P Q) (x : Int) (p : Nat) : mCh (mRows P) x p 1 = cUp (buildF Q) x p := by
  have sim := sim_all hz hPQ
  by_cases c : topW P 9 = 0
  · have z := rows_zero c
    unfold mCh cUp
    rw [← sim.1, z]
    rfl
  · obtain ⟨n, hC, -⟩ := mRows_ch hz c
    exact ((RV.up hC.1 hC.2.1 x p).2).trans (sim.cu x p)
theorem ends_all {P : Nat → Int} (hP : WfP P) (p : Nat) : endF (mRows P) 0 = cUp (buildF P) (-(31 * 2 ^ p)) p ∧ endF (mRows P) 1 = cUp (buildF P) (31 * 2 ^ p) p := by
  have hz := hP.zd
  have sim := sim_all hz Pp.rf
  by_cases c : topW P 9 = 0
  · have z := rows_zero c
    unfold endF cUp
    rw [← sim.1, z]
    exact ⟨rfl, rfl⟩
  · obtain ⟨n, hC, -, r0, -⟩ := mRows_ch hz c
    have := ends_31 hC (fun i => ⟨(hP i).1, (hP i).2.1⟩) r0 p
    rw [sim.cu, sim.cu] at this
    exact this
theorem goodE : GoodE := by
  intro P hP
  have hz := hP.zd
  have sim := sim_all hz Pp.rf
  refine ⟨sim.1, fun x _ _ => mch_cup hz Pp.rf x 0, ?_⟩
  have e := ends_all hP 0
  unfold mAll allD
  rw [sim.1, e.1, e.2]
  rfl
theorem allD_nn {P : Nat → Int} (hP : WfP P) (h : 0 < (buildF P).1) : 0 ≤ allD (buildF P) := by
  have hz := hP.zd
  have sim := sim_all hz Pp.rf
  have c : topW P 9 ≠ 0 := fun c => by have := rows_zero c; have := sim.1; omega
  obtain ⟨n, hC, -⟩ := mRows_ch hz c
  have := hC.mono (x := -31) (y := 31) (p := 0) (by decide)
  rw [sim.cu, sim.cu] at this
  unfold allD
  rw [if_neg (by omega)]
  omega
theorem pow2_le {p : Nat} (hp : p ≤ 6) : (1 : Int) ≤ 2 ^ p ∧ (2 : Int) ^ p ≤ 64 := ⟨pw_pos (by decide) p, pw_le (n := 2) (k := 6) (by decide) hp⟩
theorem near_all {P : Nat → Int} (hP : WfP P) {i : Int} {p : Nat} (h0 : 0 ≤ i) (h1 : i < allD (buildF P)) (hp : p ≤ 6) : mNear (mRows P) i p = belowF (buildF P) i p := by
  have hz := hP.zd
  have sim := sim_all hz Pp.rf
  have t0 : (buildF P).1 ≠ 0 := fun z => by unfold allD at h1; rw [if_pos z] at h1; omega
  have c : topW P 9 ≠ 0 := fun c => by have := rows_zero c; have := sim.1; omega
  obtain ⟨n, hC, -⟩ := mRows_ch hz c
  obtain ⟨e0, e1⟩ := ends_all hP p
  obtain ⟨e2, e3⟩ := ends_all hP 0
  have ha : allD (buildF P) = endF (mRows P) 0 - endF (mRows P) 1 := by
    unfold allD
    rw [if_neg t0, e2, e3]
    rfl
  rw [ha] at h1
  obtain ⟨f, hf⟩ : ∃ f : Int → Int, f = fun m => endF (mRows P) 0 - cUp (mRows P) m p := ⟨_, rfl⟩
  have f1 : (fun n => cUp (buildF P) (-(31 * 2 ^ p)) p - cUp (buildF P) n p) = f := by
    rw [hf]
    funext m
    rw [e0, sim.cu]
  have f2 : (fun m => endF (mRows P) 0 - mCh (mRows P) m p 1) = f := by
    rw [hf]
    funext m
    rw [mch_cup hz Pp.rf, sim.cu]
  have fm : ∀ x y, x ≤ y → f x ≤ f y := fun x y hxy => by
    have := hC.mono (p := p) hxy
    rw [hf]
    dsimp only
    omega
  have fl : f (-(31 * 2 ^ p)) = 0 := by
    rw [hf]
    dsimp only
    rw [sim.cu, e0]
    omega
  have fh : f (31 * 2 ^ p) = endF (mRows P) 0 - endF (mRows P) 1 := by
    rw [hf]
    dsimp only
    rw [sim.cu, e1]
  have pp := pow2_le hp
  have fl2 := fm (-(32 * 2 ^ p)) (-(31 * 2 ^ p)) (by omega)
  have fh2 := fm (31 * 2 ^ p) (32 * 2 ^ p) (by omega)
  unfold mNear belowF
  rw [f1, f2]
  have s1 := near_spec (f := f) (i := i) 13 (-(32 * 2 ^ p)) (32 * 2 ^ p) (by omega) (by omega) (by omega) (by omega)
  have s2 := bel_spec (f := f) (i := i) 32 (-(31 * 2 ^ p)) (31 * 2 ^ p) (by omega) (by omega) (by omega) (by omega)
  exact sea_uniq fm s1.1 s1.2 s2.1 s2.2
/-! The second rule. -/
theorem der_sh (P : Nat → Int) (x : Int) : (derV P 0 x = shP P x 0 ∧ derV P 1 x = shP P x 1 ∧ derV P 2 x = 2 * shP P x 2 ∧ derV P 3 x = 6 * shP P x 3 ∧ derV P 4 x = 24 * shP P x 4) ∧ (shP P x 0 = P 0 + x * (P 1 + x * (P 2 + x * (P 3 + x * P 4))) ∧ shP P x 1 = P 1 + x * (2 * P 2 + x * (3 * P 3 + x * (4 * P 4))) ∧ shP P x 2 = P 2 + x * (3 * P 3 + x * (6 * P 4)) ∧ shP P x 3 = P 3 + x * (4 * P 4) ∧ shP P x 4 = P 4) := by
  have s0 : shP P x 0 = P 0 + x * (P 1 + x * (P 2 + x * (P 3 + x * P 4))) := by
    simp [shP, shiftF, syn4, hor]
  have s1 : shP P x 1 = P 1 + x * (2 * P 2 + x * (3 * P 3 + x * (4 * P 4))) := by
    simp [shP, shiftF, syn4, hor]
    grind
  have s2 : shP P x 2 = P 2 + x * (3 * P 3 + x * (6 * P 4)) := by
    simp [shP, shiftF, syn4, hor]
    grind
  have s3 : shP P x 3 = P 3 + x * (4 * P 4) := by
    simp [shP, shiftF, syn4, hor]
    grind
  have s4 : shP P x 4 = P 4 := by
    simp [shP, shiftF, syn4, hor]
  refine ⟨⟨?_, ?_, ?_, ?_, ?_⟩, s0, s1, s2, s3, s4⟩
  · rw [s0]
    simp [derV, derAt, fallF]
    grind
  · rw [s1]
    simp [derV, derAt, fallF]
    grind
  · rw [s2]
    simp [derV, derAt, fallF]
    grind
  · rw [s3]
    simp [derV, derAt, fallF]
    grind
  · rw [s4]
    simp [derV, derAt, fallF]
    grind
theorem degF_top (P : Nat → Int) : ∀ n : Nat, degF P n + 1 = topW P n
  | 0 => rfl
  | n + 1 => by
    simp only [degF, topW]
    by_cases c : P n = 0
    · rw [if_neg (fun z => z c), if_neg (fun z => z c), degF_top P n]
    · rw [if_pos c, if_pos c]
      omega
theorem chZ_tail {s : Nat → Int} {t : Nat} : ∀ n : Nat, t ≤ n → (∀ i, t ≤ i → i < n → s i = 0) → chZ s n = chZ s t
  | 0, h, _ => by rw [show t = 0 by omega]
  | n + 1, h, z => by
    by_cases c : t = n + 1
    · rw [c]
    · have e : chZ s (n + 1) = if s n ≠ 0 then (if (chZ s n).2 = - s n then (chZ s n).1 + 1 else (chZ s n).1, s n) else chZ s n := rfl
      rw [e, if_neg (fun y => y (z n (by omega) (by omega)))]
      exact chZ_tail n (by omega) (fun i a b => z i a (by omega))
theorem der_zero (P : Nat → Int) (x : Int) (q : Nat) (hq : q < 5) : sg (derV P q x) = sg (shP P x q) := by
  obtain ⟨⟨a0, a1, a2, a3, a4⟩, -⟩ := der_sh P x
  rcases (show q = 0 ∨ q = 1 ∨ q = 2 ∨ q = 3 ∨ q = 4 by omega) with rfl | rfl | rfl | rfl | rfl
  · rw [a0]
  · rw [a1]
  · rw [a2, sg_pm (by decide)]
  · rw [a3, sg_pm (by decide)]
  · rw [a4, sg_pm (by decide)]
theorem sh_top {P : Nat → Int} (x : Int) {q : Nat} (h : topW P 5 ≤ q) (hq : q < 5) : shP P x q = 0 := by
  obtain ⟨-, b0, b1, b2, b3, b4⟩ := der_sh P x
  have z : ∀ i, q ≤ i → i < 5 → P i = 0 := fun i hi h5 => by
    rcases topW_sp P 5 with ⟨-, c⟩ | ⟨-, -, -, c⟩
    · exact c i h5
    · exact c i (by omega) h5
  rcases (show q = 0 ∨ q = 1 ∨ q = 2 ∨ q = 3 ∨ q = 4 by omega) with rfl | rfl | rfl | rfl | rfl
  · rw [b0, z 0 (by omega) (by omega), z 1 (by omega) (by omega), z 2 (by omega) (by omega), z 3 (by omega) (by omega), z 4 (by omega) (by omega)]
    simp
  · rw [b1, z 1 (by omega) (by omega), z 2 (by omega) (by omega), z 3 (by omega) (by omega), z 4 (by omega) (by omega)]
    simp
  · rw [b2, z 2 (by omega) (by omega), z 3 (by omega) (by omega), z 4 (by omega) (by omega)]
    simp
  · rw [b3, z 3 (by omega) (by omega), z 4 (by omega) (by omega)]
    simp
  · rw [b4, z 4 (by omega) (by omega)]
theorem sec_all (P : Nat → Int) (x : Int) : secF P x = (chZ (fun i => sg (shP P x i)) 5).1 := by
  unfold secF
  rw [degF_top, Int.toNat_natCast]
  have t5 : topW P 5 ≤ 5 := by rcases topW_sp P 5 with ⟨c, -⟩ | ⟨-, c, -⟩ <;> omega
  rw [chZ_cg (s := fun k => sg (derV P k x)) (t := fun i => sg (shP P x i)) _ (fun i hi => der_zero P x i (by omega))]
  rw [chZ_tail (s := fun i => sg (shP P x i)) (t := topW P 5) 5 t5 (fun i a b => by rw [sh_top x a b]; rfl)]
theorem deg_sh (P : Nat → Int) (x : Int) : degF P 5 < 0 ↔ ∀ q, q < 5 → shP P x q = 0 := by
  have e := degF_top P 5
  constructor
  · intro h q hq
    exact sh_top x (by omega) hq
  · intro h
    obtain ⟨-, b0, b1, b2, b3, b4⟩ := der_sh P x
    have z4 : P 4 = 0 := by rw [← b4]; exact h 4 (by omega)
    have z3 : P 3 = 0 := by have := h 3 (by omega); rw [b3, z4] at this; simpa using this
    have z2 : P 2 = 0 := by have := h 2 (by omega); rw [b2, z4, z3] at this; simpa using this
    have z1 : P 1 = 0 := by have := h 1 (by omega); rw [b1, z4, z3, z2] at this; simpa using this
    have z0 : P 0 = 0 := by have := h 0 (by omega); rw [b0, z4, z3, z2, z1] at this; simpa using this
    rcases topW_sp P 5 with ⟨c, -⟩ | ⟨c1, c2, c3, -⟩
    · omega
    · exfalso
      rcases (show topW P 5 - 1 = 0 ∨ topW P 5 - 1 = 1 ∨ topW P 5 - 1 = 2 ∨ topW P 5 - 1 = 3 ∨ topW P 5 - 1 = 4 by omega) with d | d | d | d | d <;> rw [d] at c3
      · exact c3 z0
      · exact c3 z1
      · exact c3 z2
      · exact c3 z3
      · exact c3 z4
/-- rows told at a place -/
theorem row_sg {P Q : Nat → Int} (hz : Zd P 4) (hPQ : Pp P Q) {k : Nat} (hk : k < (buildF Q).1) (x : Int) : sg (hor x (fun i => (mRows P).2.1 k i * 2 ^ (0 * ((mRows P).2.2 k - i))) ((mRows P).2.2 k) ((mRows P).2.2 k)) = sg (valF ((buildF Q).2.1 k) x 5) := by
  have sim := sim_all hz hPQ
  have c : topW P 9 ≠ 0 := fun c => by have := rows_zero c; have := sim.1; omega
  obtain ⟨n, hC, hd, -⟩ := mRows_ch hz c
  have hk2 : k < (mRows P).1 := by rw [sim.1]; exact hk
  obtain ⟨e1, e2⟩ := sim.2 k hk2
  obtain ⟨d1, d2⟩ := hd k (by have := hC.1; omega)
  rw [sgHor_pp e2, val_hor d1 (e2.zd d2)]
