/-! A root that lies alone where all are roots: the value's sign changes. -/
theorem chU_par {s : Nat → Int} : ∀ n : Nat, (∀ i, i ≤ n → s i = 1 ∨ s i = -1) → (chU s (n + 1)).2 = s n ∧ (chU s (n + 1)).1 % 2 = if s 0 = s n then 0 else 1
  | 0, h => by
    have h0 := h 0 (Nat.le_refl _)
    refine ⟨rfl, ?_⟩
    have h1 : ¬ (0 : Int) = - s 0 := by omega
    simp [chU, h1]
  | n + 1, h => by
    obtain ⟨h1, h2⟩ := chU_par n (fun i hi => h i (by omega))
    have a0 := h 0 (by omega)
    have an := h n (by omega)
    have an1 := h (n + 1) (Nat.le_refl _)
    refine ⟨rfl, ?_⟩
    have e : (chU s (n + 1 + 1)).1 = if (chU s (n + 1)).2 = - s (n + 1) then (chU s (n + 1)).1 + 1 else (chU s (n + 1)).1 := rfl
    rw [e, h1]
    generalize (chU s (n + 1)).1 = c at *
    split at h2 <;> split <;> split <;> omega
theorem itsA_pow (x : Int) : ∀ j : Nat, itsA x j = x * 64 ^ j
  | 0 => by simp [itsA]
  | j + 1 => by
    simp only [itsA]
    rw [itsA_pow x j, Int.pow_succ, Int.mul_assoc]
theorem fnA_z {P : Nat → Int} {top : Nat} {x : Int} : ∀ j : Nat, (∀ i, top - j < i → P i = 0) → j ≤ top → fnA P top x j = 0
  | 0, _, _ => rfl
  | j + 1, h, hj => by
    simp only [fnA]
    rw [fnA_z j (fun i hi => h i (by omega)) (by omega), h (top - j) (by omega), itsA_pow]
    simp
theorem fnA_hor {P : Nat → Int} {top d : Nat} {x : Int} (hd : d ≤ top) (hz : ∀ i, d < i → P i = 0) : ∀ k : Nat, k ≤ d → fnA P top x (top - d + k + 1) = 64 ^ (top - d) * hor x (fun i => P i * 2 ^ (6 * (d - i))) d k
  | 0, _ => by
    show fnA P top x (top - d) * x + itsA (P (top - (top - d))) (top - d) = _
    rw [fnA_z (top - d) (fun i hi => hz i (by omega)) (by omega), itsA_pow, show top - (top - d) = d by omega]
    simp only [hor, Nat.sub_self, Nat.mul_zero, Int.pow_zero]
    rw [Int.mul_comm (P d)]
    simp
  | k + 1, hk => by
    show fnA P top x (top - d + k + 1) * x + itsA (P (top - (top - d + k + 1))) (top - d + k + 1) = _
    rw [fnA_hor hd hz k (by omega), itsA_pow, show top - (top - d + k + 1) = d - (k + 1) by omega]
    simp only [hor]
    rw [show d - (d - (k + 1)) = k + 1 by omega, show top - d + k + 1 = (top - d) + (k + 1) by omega, Int.pow_add, Int.pow_mul, show (2 : Int) ^ 6 = 64 from rfl]
    generalize (64 : Int) ^ (top - d) = a
    generalize (64 : Int) ^ (k + 1) = b
    generalize P (d - (k + 1)) = y
    generalize hor x _ d k = z
    grind
theorem sg_mulp {a x : Int} (ha : 0 < a) : sg (a * x) = sg x := by
  have h : (0 < x ∧ 0 < a * x) ∨ (x < 0 ∧ a * x < 0) ∨ (x = 0 ∧ a * x = 0) := by
    rcases (show 0 < x ∨ x < 0 ∨ x = 0 by omega) with h | h | h
    · exact Or.inl ⟨h, Int.mul_pos ha h⟩
    · exact Or.inr (Or.inl ⟨h, Int.mul_neg_of_pos_of_neg ha h⟩)
    · subst h
      exact Or.inr (Or.inr ⟨rfl, Int.mul_zero a⟩)
  unfold sg
  generalize a * x = y at *
  split <;> split <;> (try split) <;> (try split) <;> omega
theorem sgnUp_hor {f : Nat → Int} {d p : Nat} {x : Int} (h : hor x (fun i => f i * 2 ^ (p * (d - i))) d d ≠ 0) : sgnUp f d x p = sg (hor x (fun i => f i * 2 ^ (p * (d - i))) d d) := by
  have e : syn x d 0 (fun i => f i * 2 ^ (p * (d - i))) 0 = hor x (fun i => f i * 2 ^ (p * (d - i))) d d := if_pos ⟨Nat.le_refl _, Nat.zero_le _⟩
  show (if syn x d 0 (fun i => f i * 2 ^ (p * (d - i))) 0 ≠ 0 then sg (syn x d 0 (fun i => f i * 2 ^ (p * (d - i))) 0) else _) = _
  rw [if_pos (by rw [e]; exact h), e]
theorem sgnUp_s {f : Nat → Int} {d p : Nat} {x : Int} (h : f d ≠ 0) : sgnUp f d x p = 1 ∨ sgnUp f d x p = -1 := by
  have h3 : sgnUp f d x p = 1 ∨ sgnUp f d x p = -1 ∨ sgnUp f d x p = 0 := upS_3 _ _ _ _ _
  rcases h3 with h3 | h3 | h3
  · exact Or.inl h3
  · exact Or.inr h3
  · obtain ⟨z, -, -, hz⟩ := row_dense h 0 1 (by decide)
    exact absurd ((sgnUp_right f d x p).1 h3 z) hz
theorem sgnUp_c {f : Nat → Int} {p : Nat} {x y : Int} (h : f 0 ≠ 0) : sgnUp f 0 x p = sgnUp f 0 y p := by
  rw [sgnUp_hor (by simp only [hor, Nat.sub_self, Nat.mul_zero, Int.pow_zero]; omega), sgnUp_hor (x := y) (by simp only [hor, Nat.sub_self, Nat.mul_zero, Int.pow_zero]; omega)]
  rfl
theorem alone_F {T : CT} {pw : Nat} (hW : WfT T) (hP : PwR T pw) (hz : ¬ zerQ pw (tP T) (-1)) (k : Int) (k0 : 0 ≤ k) (k1 : k < allD (buildF (tP T))) : (¬ k = 0 ∧ belowF (buildF (tP T)) (k - 1) 6 = belowF (buildF (tP T)) k 6) ∨ (¬ k + 1 = allD (buildF (tP T)) ∧ belowF (buildF (tP T)) (k + 1) 6 = belowF (buildF (tP T)) k 6) ∨ fnA (tP T) (pw - 1) (belowF (buildF (tP T)) k 6 + 1) pw = 0 ∨ fnA (tP T) (pw - 1) (belowF (buildF (tP T)) k 6) pw = 0 ∨ ¬ allD (buildF (tP T)) = degF (tP T) 5 ∨ ¬ sg (fnA (tP T) (pw - 1) (belowF (buildF (tP T)) k 6 + 1) pw) = sg (fnA (tP T) (pw - 1) (belowF (buildF (tP T)) k 6) pw) := by
  have hw : 2 ≤ pw ∧ pw ≤ 5 := by
    have h1 := hP.1
    have h2 := hW.1.1
    omega
  have ht := nz_top hP hz hw.2
  have hB := rowB hW.2.1 ht
  have hWP := hW.2.1
  have hPz := hP.2
  generalize tP T = P at *
  obtain ⟨h1, h2, h3, h4, h5⟩ := id hB
  have ha : allD (buildF P) = cUp (buildF P) (-31) 0 - cUp (buildF P) 31 0 := if_neg h1
  obtain ⟨g1, g2⟩ := bel_at hB k0 k1 (p := 6) (by decide)
  have br := belowF_rng (buildF P) k 6
  have e5 := h5 6
  rw [show (31 * 2 ^ 6 : Int) = 1984 from rfl] at br e5
  by_cases c1 : ¬ k = 0 ∧ belowF (buildF P) (k - 1) 6 = belowF (buildF P) k 6
  · exact Or.inl c1
  by_cases c2 : ¬ k + 1 = allD (buildF P) ∧ belowF (buildF P) (k + 1) 6 = belowF (buildF P) k 6
  · exact Or.inr (Or.inl c2)
  have u1 : cUp (buildF P) (belowF (buildF P) k 6) 6 = cUp (buildF P) (-31) 0 - k := by
    by_cases c : k = 0
    · have := h2 (-1984) (belowF (buildF P) k 6) 6 (by omega)
      omega
    · have m := mono_F hB (by omega) k1
      obtain ⟨g3, g4⟩ := bel_at hB (k := k - 1) (by omega) (by omega) (p := 6) (by decide)
      have := h2 (belowF (buildF P) (k - 1) 6 + 1) (belowF (buildF P) k 6) 6 (by omega)
      omega
  have u2 : cUp (buildF P) (belowF (buildF P) k 6 + 1) 6 = cUp (buildF P) (-31) 0 - k - 1 := by
    by_cases c : k + 1 = allD (buildF P)
    · have := h2 (belowF (buildF P) k 6 + 1) 1984 6 (by omega)
      omega
    · have m := mono_F hB (k := k + 1) (by omega) (by omega)
      rw [show k + 1 - 1 = k by omega] at m
      obtain ⟨g3, g4⟩ := bel_at hB (k := k + 1) (by omega) (by omega) (p := 6) (by decide)
      have := h2 (belowF (buildF P) k 6 + 1) (belowF (buildF P) (k + 1) 6) 6 (by omega)
      omega
  generalize belowF (buildF P) k 6 = b at *
  by_cases f1 : fnA P (pw - 1) (b + 1) pw = 0
  · exact Or.inr (Or.inr (Or.inl f1))
  by_cases f0 : fnA P (pw - 1) b pw = 0
  · exact Or.inr (Or.inr (Or.inr (Or.inl f0)))
  by_cases cd : allD (buildF P) = degF P 5
  · refine Or.inr (Or.inr (Or.inr (Or.inr (Or.inr ?_))))
    have hzd := hWP.zd
    have sim := sim_all hzd (Pp.rf (f := P))
    obtain ⟨n, hC, hz2, r0, d0, hf⟩ := mRows_ch hzd ht
    have fall : ∀ i, i ≤ n → (mRows P).2.2 i + i ≤ (mRows P).2.2 0 := fun i => by
      induction i with
      | zero => intro _; omega
      | succ i ih =>
        intro hi
        have := ih (by omega)
        have := hf i (by omega)
        omega
    have dg : degF P 5 + 1 = topW P 9 := by
      rw [topW_95 (fun j hj => (hWP j).2.2 hj)]
      exact degF_top P 5
    have cle : ∀ x : Int, ∀ p : Nat, cUp (buildF P) x p ≤ n := fun x p => by
      have q1 := (RV.up hC.1 hC.2.1 x p).2
      rw [sim.cu] at q1
      rw [← q1]
      have q2 := chZ_le (mSg (mRows P) x p 1) (mRows P).1
      show (chZ (mSg (mRows P) x p 1) (mRows P).1).1 ≤ n
      rw [hC.1] at q2 ⊢
      omega
    have l0 : (mRows P).2.2 n = 0 := by
      have := fall n (Nat.le_refl _)
      have := cle (-31) 0
      have := cUp_rng (buildF P) 31 0
      omega
    have nzr : ∀ x : Int, ∀ i, i ≤ n → upG (mRows P) x 6 i = 1 ∨ upG (mRows P) x 6 i = -1 := fun x i hi => sgnUp_s (hC.2.1 i hi)
    have par : ∀ x : Int, cUp (buildF P) x 6 % 2 = if upG (mRows P) x 6 0 = upG (mRows P) x 6 n then 0 else 1 := fun x => by
      rw [← sim.cu]
      show (chU (upG (mRows P) x 6) (mRows P).1).1 % 2 = _
      rw [hC.1]
      exact (chU_par n (nzr x)).2
    have p0 := par b
    have p1 := par (b + 1)
    have lst : upG (mRows P) b 6 n = upG (mRows P) (b + 1) 6 n := by
      have hn := hC.2.1 n (Nat.le_refl _)
      show sgnUp ((mRows P).2.1 n) ((mRows P).2.2 n) b 6 = sgnUp ((mRows P).2.1 n) ((mRows P).2.2 n) (b + 1) 6
      rw [l0] at hn ⊢
      exact sgnUp_c hn
    -- the first row's sign is the value's
    have tp : topW P 9 ≤ pw := by
      rcases topW_sp P 9 with ⟨q, -⟩ | ⟨q1, q2, q3, q4⟩
      · omega
      · by_cases c : topW P 9 ≤ pw
        · exact c
        · exact absurd (hPz (topW P 9 - 1) (by omega)) q3
    have zd : ∀ i, topW P 9 - 1 < i → P i = 0 := fun i hi => topW_zd hzd i hi
    have fst : ∀ x : Int, fnA P (pw - 1) x pw ≠ 0 → upG (mRows P) x 6 0 = sg (fnA P (pw - 1) x pw) := fun x hx => by
      have e := fnA_hor (P := P) (top := pw - 1) (d := topW P 9 - 1) (x := x) (by omega) zd (topW P 9 - 1) (Nat.le_refl _)
      rw [show pw - 1 - (topW P 9 - 1) + (topW P 9 - 1) + 1 = pw by omega] at e
      have pp : (0 : Int) < 64 ^ (pw - 1 - (topW P 9 - 1)) := Int.pow_pos (by decide)
      rw [e] at hx ⊢
      rw [sg_mulp pp]
      show sgnUp ((mRows P).2.1 0) ((mRows P).2.2 0) x 6 = _
      rw [r0, d0]
      refine sgnUp_hor (fun h => hx ?_)
      rw [h, Int.mul_zero]
    intro hs
    rw [← fst b f0, ← fst (b + 1) f1] at hs
    rw [lst, ← hs] at p0
    have p2 := p0.trans p1.symm
    omega
  · exact Or.inr (Or.inr (Or.inr (Or.inr (Or.inl cd))))
