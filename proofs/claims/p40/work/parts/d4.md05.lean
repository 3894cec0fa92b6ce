/-! Commands read as they are written. -/
theorem kp_at {cm v : Nat → Int} {p j : Nat} {x : Int} (h5 : v 5 = (j : Nat)) (i : Nat) : kpF cm v p x i = if i = 6 * j + p then x else cm i := by
  unfold kpF fup
  rw [h5, Int.toNat_natCast]
theorem act_at {tx v : Nat → Int} {q : Nat} (h : ∀ q2, q2 < 12 → (isWordP tx v q2 ↔ q = q2)) (hq : 7 ≤ q ∧ q ≤ 9) : actWF tx v = (q : Int) - 7 := by
  unfold actWF
  have h7 := h 7 (by decide)
  have h8 := h 8 (by decide)
  have h9 := h 9 (by decide)
  rcases (show q = 7 ∨ q = 8 ∨ q = 9 by omega) with e | e | e
  · rw [if_pos (h7.mpr e), e]
    rfl
  · rw [if_neg (fun g => by have := h7.mp g; omega), if_pos (h8.mpr e), e]
    rfl
  · rw [if_neg (fun g => by have := h7.mp g; omega), if_neg (fun g => by have := h8.mp g; omega), if_pos (h9.mpr e), e]
    rfl
theorem rTerm_rd {tx v cm : Nat → Int} {n j : Nat} {x p P : Int} {r : List Int} (h : Nx tx n v (numF x ++ 32 :: (numF p ++ 59 :: r))) (hx : layab x) (hp : 0 ≤ p ∧ p < P) (hP : P ≤ 5) (h5 : v 5 = (j : Nat)) : ∃ w c2, rTermF tx n v cm P = (1, w, c2) ∧ Nx tx n w (59 :: r) ∧ w 5 = (j : Nat) ∧ ∀ i, c2 i = if i = 6 * j + 2 then p else if i = 6 * j + 1 then x else cm i := by
  have hx2 := hx.2
  have hx0 := hx.1
  have k1 : kH (32 :: (numF p ++ 59 :: r)) ≠ 2 := by
    show kK 32 ≠ 2
    decide
  have k2 : kH (59 :: r) ≠ 2 := by
    show kK 59 ≠ 2
    decide
  have k3 : kH (numF p ++ 59 :: r) ≠ 6 := by
    rw [kH_num (by omega), if_neg (by omega)]
    decide
  have kd := h.kd (by omega) k1
  obtain ⟨w, e1, e2, e3, e4⟩ := h.intR (lo := if v 6 = 3 then -9 else 1) (hi := if v 6 = 3 then -1 else 9) (by omega) k1 (by
    rw [kd]
    by_cases c : x < 0
    · rw [if_pos c, if_pos rfl, if_pos rfl]
      omega
    · rw [if_neg c, if_neg (by decide), if_neg (by decide)]
      omega)
  obtain ⟨w2, g1, g2, g3, g4⟩ := (e3.blank k3).numR (lo := 0) (hi := P - 1) (by omega) k2 (by omega)
  refine ⟨w2, kpF (kpF cm v 1 x) v 2 p, ?_, g3, ?_, fun i => ?_⟩
  · unfold rTermF
    rw [e1]
    dsimp only
    rw [g1, e2]
    dsimp only
    rw [g2, if_neg (fun q => q rfl), if_neg (fun q => q rfl)]
  · rw [g4 5 (by decide) (by decide) (by decide) (by decide) (by decide), e4 5 (by decide) (by decide) (by decide) (by decide) (by decide), h5]
  · rw [kp_at h5, kp_at h5]
theorem rClaim_rd {tx v cm : Nat → Int} {n j : Nat} {a b c l s : Int} {r : List Int} (h : Nx tx n v ((if l = 1 then stB 10 else stB 11) ++ 32 :: (numF a ++ 32 :: (numF b ++ 32 :: (numF c ++ 32 :: (numF s ++ 59 :: r)))))) (ha : intvP a b) (hc : 0 ≤ c ∧ c ≤ 4) (hl : 0 ≤ l ∧ l ≤ 1) (hs : 1 ≤ s ∧ s ≤ 9) (h5 : v 5 = (j : Nat)) : ∃ w c2, rClaimF tx n v cm = (1, w, c2) ∧ Nx tx n w (59 :: r) ∧ w 5 = (j : Nat) ∧ ∀ i, c2 i = if i = 6 * j + 5 then s else if i = 6 * j + 3 then c else if i = 6 * j + 2 then b else if i = 6 * j + 1 then a else if i = 6 * j + 4 then l else cm i := by
  obtain ⟨⟨a1, a2⟩, ⟨b1, b2⟩, ab⟩ := ha
  have kb : ∀ L, kH (32 :: L) ≠ 2 := fun L => by
    show kK 32 ≠ 2
    decide
  have kw : ∀ L, kH (32 :: L) ≠ 1 := fun L => by
    show kK 32 ≠ 1
    decide
  have k2 : kH (59 :: r) ≠ 2 := by
    show kK 59 ≠ 2
    decide
  have kn : ∀ (x : Int) L, -99 ≤ x ∧ x ≤ 99 → kH (numF x ++ L) ≠ 6 := fun x L hx => by
    rw [kH_num hx]
    split <;> decide
  have hw : ((if l = 1 then stB 10 else stB 11) : List Int) = stB (if l = 1 then 10 else 11) := by split <;> rfl
  rw [hw] at h
  obtain ⟨⟨-, hq⟩, hb⟩ := h.wd (by split <;> decide) (kw _)
  obtain ⟨t1, t2⟩ := hb.tok
  have hq10 := hq 10 (by decide)
  have hq11 := hq 11 (by decide)
  have hor : ¬ (¬ isWordP tx v 10 ∧ ¬ isWordP tx v 11) := fun ⟨n1, n2⟩ => by
    by_cases c1 : l = 1
    · exact n1 (hq10.mpr (if_pos c1))
    · exact n2 (hq11.mpr (if_neg c1))
  have e10 : (if isWordP tx v 10 then (1 : Int) else 0) = l := by
    by_cases c1 : l = 1
    · rw [if_pos (hq10.mpr (if_pos c1)), c1]
    · rw [if_neg (fun g => by
        have := hq10.mp g
        rw [if_neg c1] at this
        omega)]
      omega
  obtain ⟨w1, e1, e2, e3, e4⟩ := (t1.blank (kn a _ (by omega))).intR (lo := -20) (hi := 19) (by omega) (kb _) (by omega)
  obtain ⟨w2, f1, f2, f3, f4⟩ := (e3.blank (kn b _ (by omega))).intR (lo := a + 1) (hi := 20) (by omega) (kb _) (by omega)
  obtain ⟨w3, g1, g2, g3, g4⟩ := (f3.blank (kn c _ (by omega))).numR (lo := 0) (hi := 4) (by omega) (kb _) (by omega)
  obtain ⟨w4, i1, i2, i3, i4⟩ := (g3.blank (kn s _ (by omega))).numR (lo := 1) (hi := 9) (by omega) k2 (by omega)
  refine ⟨w4, kpF (kpF (kpF (kpF (kpF cm v 4 l) v 1 a) v 2 b) v 3 c) v 5 s, ?_, i3, ?_, fun i => ?_⟩
  · unfold rClaimF
    rw [if_neg hor, e10]
    unfold rCl0
    rw [e1]
    dsimp only
    rw [if_neg (fun q => q rfl), e2]
    unfold rCl1
    rw [f1]
    dsimp only
    rw [if_neg (fun q => q rfl), f2]
    unfold rCl2
    rw [g1]
    dsimp only
    rw [if_neg (fun q => q rfl), g2]
    unfold rCl3
    rw [i1]
    dsimp only
    rw [if_neg (fun q => q rfl), i2]
  · rw [i4 5 (by decide) (by decide) (by decide) (by decide) (by decide), g4 5 (by decide) (by decide) (by decide) (by decide) (by decide), f4 5 (by decide) (by decide) (by decide) (by decide) (by decide), e4 5 (by decide) (by decide) (by decide) (by decide) (by decide), t2 5 (by decide) (by decide) (by decide) (by decide), h5]
  · rw [kp_at h5, kp_at h5, kp_at h5, kp_at h5, kp_at h5]
theorem rCmd_rd {tx v cm c : Nat → Int} {n j : Nat} {P : Int} {r : List Int} (h : Nx tx n v (ctx cm j ++ r)) (hP : P ≤ 5) (hc : CmdOK P cm j) (h5 : v 5 = (j : Nat)) (hj : j < 40) : v 6 ≠ 0 ∧ ∃ w c2, rCmdF tx n v c P = (1, w, c2) ∧ Nx tx n w (59 :: r) ∧ w 5 = (j : Nat) ∧ SameC cm c2 j ∧ ∀ i, i < 6 * j → c2 i = c i := by
  have kw : ∀ L, kH (32 :: L) ≠ 1 := fun L => by
    show kK 32 ≠ 1
    decide
  have k59 : ∀ L, kH (59 :: L) ≠ 1 := fun L => by
    show kK 59 ≠ 1
    decide
  have n40 : ¬ 40 ≤ v 5 := by omega
  unfold ctx at h
  rcases hc with ⟨h0, h1, h2⟩ | ⟨h0, h1, h2, h3, h4⟩ | h0
  · rw [if_pos h0] at h
    unfold termF at h
    rw [if_neg h1.1] at h
    simp only [List.append_assoc, List.cons_append, List.nil_append] at h
    obtain ⟨⟨h6, hq⟩, hb⟩ := h.wd (q := 7) (by decide) (kw _)
    obtain ⟨t1, t2⟩ := hb.tok
    have ea := act_at hq (by decide)
    have kn : kH (numF (cm (6 * j + 1)) ++ 32 :: (numF (cm (6 * j + 2)) ++ 59 :: r)) ≠ 6 := by
      rw [kH_num (by have := h1.2; omega)]
      split <;> decide
    have t5 : tokF tx n v 5 = (j : Nat) := by rw [t2 5 (by decide) (by decide) (by decide) (by decide), h5]
    obtain ⟨w, c2, e1, e2, e3, e4⟩ := rTerm_rd (cm := kpF c v 0 0) (t1.blank kn) h1 h2 hP t5
    refine ⟨by rw [h6]; decide, w, c2, ?_, e2, e3, ⟨?_, fun _ => ⟨?_, ?_⟩, fun q => ?_⟩, fun i hi => ?_⟩
    · unfold rCmdF
      rw [ea, if_neg (by decide), if_neg n40, if_pos (by decide)]
      exact e1
    · rw [e4, if_neg (by omega), if_neg (by omega), kp_at h5, if_pos (by omega), h0]
    · rw [e4, if_neg (by omega), if_pos (by omega)]
    · rw [e4, if_pos (by omega)]
    · omega
    · rw [e4, if_neg (by omega), if_neg (by omega), kp_at h5, if_neg (by omega)]
  · rw [if_neg (by omega), if_pos h0] at h
    unfold clmT at h
    simp only [mkL] at h
    have hw : (if cm (6 * j + 4) = 1 then stB 12 else stB 13) = stB 8 ++ 32 :: (if cm (6 * j + 4) = 1 then stB 10 else stB 11) := by split <;> decide
    rw [hw] at h
    simp only [List.append_assoc, List.cons_append, List.nil_append] at h
    obtain ⟨⟨h6, hq⟩, hb⟩ := h.wd (q := 8) (by decide) (kw _)
    obtain ⟨t1, t2⟩ := hb.tok
    have ea := act_at hq (by decide)
    have kn : ∀ L, kH ((if cm (6 * j + 4) = 1 then stB 10 else stB 11) ++ L) ≠ 6 := fun L => by
      split
      · show kK 108 ≠ 6
        decide
      · show kK 101 ≠ 6
        decide
    have t5 : tokF tx n v 5 = (j : Nat) := by rw [t2 5 (by decide) (by decide) (by decide) (by decide), h5]
    obtain ⟨w, c2, e1, e2, e3, e4⟩ := rClaim_rd (cm := kpF c v 0 1) (t1.blank (kn _)) h1 h2 h3 h4 t5
    refine ⟨by rw [h6]; decide, w, c2, ?_, e2, e3, ⟨?_, fun q => ?_, fun _ => ⟨?_, ?_, ?_, ?_, ?_⟩⟩, fun i hi => ?_⟩
    · unfold rCmdF
      rw [ea, if_neg (by decide), if_neg n40, if_neg (by decide), if_neg (by decide)]
      exact e1
    · rw [e4, if_neg (by omega), if_neg (by omega), if_neg (by omega), if_neg (by omega), if_neg (by omega), kp_at h5, if_pos (by omega), h0]
    · omega
    · rw [e4, if_neg (by omega), if_neg (by omega), if_neg (by omega), if_pos (by omega)]
    · rw [e4, if_neg (by omega), if_neg (by omega), if_pos (by omega)]
    · rw [e4, if_neg (by omega), if_pos (by omega)]
    · rw [e4, if_neg (by omega), if_neg (by omega), if_neg (by omega), if_neg (by omega), if_pos (by omega)]
    · rw [e4, if_pos (by omega)]
    · rw [e4, if_neg (by omega), if_neg (by omega), if_neg (by omega), if_neg (by omega), if_neg (by omega), kp_at h5, if_neg (by omega)]
  · rw [if_neg (by omega), if_neg (by omega), show stB 14 = stB 9 ++ [59] by decide] at h
    simp only [List.append_assoc, List.cons_append, List.nil_append] at h
    obtain ⟨⟨h6, hq⟩, hb⟩ := h.wd (q := 9) (by decide) (k59 _)
    obtain ⟨t1, t2⟩ := hb.tok
    have ea := act_at hq (by decide)
    have t5 : tokF tx n v 5 = (j : Nat) := by rw [t2 5 (by decide) (by decide) (by decide) (by decide), h5]
    refine ⟨by rw [h6]; decide, tokF tx n v, kpF c v 0 2, ?_, t1, t5, ⟨?_, fun q => ?_, fun q => ?_⟩, fun i hi => ?_⟩
    · unfold rCmdF
      rw [ea, if_neg (by decide), if_neg n40, if_neg (by decide), if_pos (by decide)]
      rfl
    · rw [kp_at h5, if_pos (by omega), h0]
    · omega
    · omega
    · rw [kp_at h5, if_neg (by omega)]
def ctR (cm : Nat → Int) : Nat → Nat → List Int
  | 0, _ => []
  | d + 1, j => ctx cm j ++ ctR cm d (j + 1)
theorem ctR_all {cm : Nat → Int} : ∀ (d j : Nat), ctxs cm j ++ ctR cm d j = ctxs cm (j + d)
  | 0, j => List.append_nil _
  | d + 1, j => by
    have := ctR_all (cm := cm) d (j + 1)
    simp only [ctR]
    rw [← List.append_assoc, show j + (d + 1) = j + 1 + d by omega, ← this]
    rfl
theorem SameC.keep {cm c c2 : Nat → Int} {i j : Nat} (h : SameC cm c i) (hij : i < j) (e : ∀ k, k < 6 * j → c2 k = c k) : SameC cm c2 i := by
  obtain ⟨h0, h1, h2⟩ := h
  refine ⟨?_, fun q => ⟨?_, ?_⟩, fun q => ⟨?_, ?_, ?_, ?_, ?_⟩⟩
  · rw [e _ (by omega), h0]
  · rw [e _ (by omega), (h1 q).1]
  · rw [e _ (by omega), (h1 q).2]
  · rw [e _ (by omega), (h2 q).1]
  · rw [e _ (by omega), (h2 q).2.1]
  · rw [e _ (by omega), (h2 q).2.2.1]
  · rw [e _ (by omega), (h2 q).2.2.2.1]
  · rw [e _ (by omega), (h2 q).2.2.2.2]
theorem loopC_rd {tx cm : Nat → Int} {n m : Nat} {P : Int} (hP : P ≤ 5) (hm : m ≤ 22) (hc : ∀ j, j < m → CmdOK P cm j) : ∀ (d j D : Nat) (v c : Nat → Int), j + d = m → d < D → v 5 = (j : Nat) → Nx tx n v (ctR cm d j) → (∀ i, i < j → SameC cm c i) → (loopC tx n P D v c).1 = 1 ∧ (loopC tx n P D v c).2.1 5 = (m : Nat) ∧ ∀ i, i < m → SameC cm (loopC tx n P D v c).2.2 i
  | 0, j, D, v, c, hj, hD, h5, h, hS => by
    obtain ⟨D, rfl⟩ : ∃ D0, D = D0 + 1 := ⟨D - 1, by omega⟩
    have e : loopC tx n P (D + 1) v c = (1, v, c) := if_pos h.fin
    obtain rfl : j = m := by omega
    rw [e]
    exact ⟨rfl, h5, hS⟩
  | d + 1, j, D, v, c, hj, hD, h5, h, hS => by
    obtain ⟨D, rfl⟩ : ∃ D0, D = D0 + 1 := ⟨D - 1, by omega⟩
    obtain ⟨h6, w, c2, e1, e2, e3, e4, e5⟩ := rCmd_rd (c := c) h hP (hc j (by omega)) h5 (by omega)
    obtain ⟨s1, s2, s3⟩ := e2.sem
    have e : loopC tx n P (D + 1) v c = loopC tx n P D (fup (tokF tx n w) 5 (tokF tx n w 5 + 1)) c2 := by
      simp only [loopC]
      rw [if_neg h6, e1]
      dsimp only
      rw [if_neg (fun q => q rfl), s1]
      dsimp only
      rw [if_neg (fun q => q rfl)]
    rw [e]
    refine loopC_rd hP hm hc d (j + 1) D _ c2 (by omega) (by omega) ?_ (s2.ne (fun i h1 h2 => fup_ne (by omega))) (fun i hi => ?_)
    · rw [fup_at, s3 5 (by decide) (by decide) (by decide) (by decide), e3]
      rfl
    · by_cases q : i = j
      · rw [q]
        exact e4
      · exact (hS i (by omega)).keep (j := j) (by omega) e5
theorem scrOK : ScrOK := by
  intro P cm cm0 m tx v h2 hP hm hc htx
  obtain ⟨b1, b2, -, -⟩ := begin_nx (v := v) htx
  have e : ctxs cm m = ctR cm m 0 := by
    have := ctR_all (cm := cm) m 0
    rw [Nat.zero_add] at this
    exact this.symm
  have := loopC_rd (tx := tx) (cm := cm) (n := (ctxs cm m).length) hP hm hc m 0 41 (beginF tx (ctxs cm m).length v) cm0 (Nat.zero_add _) (by omega) b2 (by rw [← e]; exact b1) (fun i hi => absurd hi (Nat.not_lt_zero i))
  exact this
