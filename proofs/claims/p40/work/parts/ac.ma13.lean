/-! The class's numbers stay small: steps. -/
theorem redF_le {w : Nat → Int} {i : Nat} {B : Int} (h : -B ≤ w i ∧ w i ≤ B) : -B ≤ redF w i ∧ redF w i ≤ B := by
  unfold redF
  by_cases c : i < 5
  · rw [if_pos c]
    by_cases d : 1 < gcdW w 5
    · rw [if_pos d]
      have h1 : (w i).tdiv (gcdW w 5 : Nat) = 0 ∨ True := Or.inr trivial
      have e : ((gcdW w 5 : Nat) : Int) * (w i).tdiv (gcdW w 5 : Nat) = w i := Int.mul_tdiv_cancel' (gcdW_dvd w 5 i c)
      generalize (w i).tdiv (gcdW w 5 : Nat) = q at *
      generalize ((gcdW w 5 : Nat)) = g at *
      have g1 : (1 : Int) ≤ (g : Int) := by omega
      by_cases q0 : 0 ≤ q
      · have := Int.mul_le_mul_of_nonneg_right g1 q0
        omega
      · have := Int.mul_le_mul_of_nonneg_right g1 (show 0 ≤ -q by omega)
        have e9 : (g : Int) * -q = -((g : Int) * q) := Int.mul_neg _ _
        omega
    · rw [if_neg d]
      exact h
  · rw [if_neg c]
    omega
theorem redF_cb {w : Nat → Int} {B : Int} (h : Cb w B) : Cb (redF w) B := fun i => redF_le (h i)
/-- a constant row is 1 or -1 -/
theorem redF_const {w : Nat → Int} (h : topW w 5 ≤ 1) : Cb (redF w) 1 := by
  have z : ∀ i, 1 ≤ i → i < 5 → w i = 0 := fun i h1 h5 => by
    rcases topW_sp w 5 with ⟨-, c⟩ | ⟨-, -, -, c⟩
    · exact c i h5
    · exact c i (by omega) h5
  have g : gcdW w 5 = (w 0).natAbs := by
    simp only [gcdW]
    rw [z 1 (by omega) (by omega), z 2 (by omega) (by omega), z 3 (by omega) (by omega), z 4 (by omega) (by omega)]
    simp
  intro i
  unfold redF
  by_cases c : i < 5
  · rw [if_pos c, g]
    by_cases i0 : i = 0
    · subst i0
      by_cases d : 1 < (w 0).natAbs
      · rw [if_pos d]
        by_cases p : 0 ≤ w 0
        · have e : (((w 0).natAbs : Nat) : Int) = w 0 := by omega
          rw [e, Int.tdiv_self (by omega)]
          omega
        · have e : (((w 0).natAbs : Nat) : Int) = -(w 0) := by omega
          rw [e, Int.tdiv_neg, Int.tdiv_self (by omega)]
          omega
      · rw [if_neg d]
        omega
    · rw [z i (by omega) c]
      split <;> simp
  · rw [if_neg c]
    omega
theorem can_b {e w : Nat → Int} {low top : Nat} {W E : Int} (hw : Cb w W) (he : Cb e E) (hE : 1 ≤ E) (hW : 0 ≤ W) (hn : ¬ (low = 1 ∧ top = 1)) : Cb (canF e low top w) (W * (2 * E)) ∧ (W * (2 * E) ≤ 9223372036854775807 → canOK e low top w) := by
  have WE : 0 ≤ W * E := Int.mul_nonneg hW (by omega)
  have we : W * (2 * E) = 2 * (W * E) := by grind
  have W1 : W ≤ W * E := by
    have := Int.mul_le_mul_of_nonneg_left hE hW
    omega
  have x1 : ∀ i, -(W * E) ≤ w i * ab (e low) ∧ w i * ab (e low) ≤ W * E := fun i => mulb (hw i).1 (hw i).2 (show -E ≤ ab (e low) by have := ab_n0 (e low); omega) (ab_b (he low))
  have cb : Cb (canF e low top w) (2 * (W * E)) := fun i => by
    have a1 := x1 i
    have x2 := mulb (hw top).1 (hw top).2 (he (i - (top - low))).1 (he (i - (top - low))).2
    have x3 := hw i
    unfold canF
    rw [if_neg hn]
    split
    · omega
    · have : ∀ u v : Int, (-(W * E) ≤ u ∧ u ≤ W * E) → (-(W * E) ≤ v ∧ v ≤ W * E) → -(2 * (W * E)) ≤ u - v ∧ u - v ≤ 2 * (W * E) := fun u v _ _ => by omega
      refine this _ _ ?_ ?_
      · split <;> omega
      · split
        · split
          · exact x2
          · have e9 : -w top * e (i - (top - low)) = -(w top * e (i - (top - low))) := by rw [Int.neg_mul]
            rw [e9]
            omega
        · omega
  rw [we]
  refine ⟨cb, fun h => ⟨fun z => absurd z hn, fun _ i _ => ⟨?_, ?_⟩⟩⟩
  · have := x1 i
    exact ⟨by omega, by omega⟩
  · have := cb i
    exact ⟨by omega, by omega⟩
/-- no division by a row of degree 1 -/
theorem divL_b {e : Nat → Int} {low : Nat} {E : Int} (he : Cb e E) (hE : 1 ≤ E) (hl : low ≠ 1) : ∀ (k top : Nat) (w : Nat → Int) (W : Int), 0 ≤ W → Cb w W → Cb (divL e low k top w) (W * (2 * E) ^ k) ∧ (W * (2 * E) ^ k ≤ 9223372036854775807 → divLOK e low k top w)
  | 0, _, w, W, _, hw => by
    rw [Int.pow_zero, Int.mul_one]
    exact ⟨hw, fun h i _ => by have := hw i; exact ⟨by omega, by omega⟩⟩
  | k + 1, top, w, W, hW, hw => by
    obtain ⟨c1, c2⟩ := can_b (low := low) (top := top) hw he hE hW (fun z => hl z.1)
    have w2 : 0 ≤ W * (2 * E) := Int.mul_nonneg hW (by omega)
    obtain ⟨i1, i2⟩ := divL_b he hE hl k (top - 1) _ _ w2 c1
    have e1 : W * (2 * E) ^ (k + 1) = W * (2 * E) * (2 * E) ^ k := by rw [Int.pow_succ]; grind
    rw [e1]
    refine ⟨i1, fun h => ⟨c2 ?_, i2 h⟩⟩
    have := Int.mul_le_mul_of_nonneg_left (pw1 (n := 2 * E) (by omega) k) w2
    omega
/-- the last step of a division by a row of degree 1 leaves a sign -/
theorem divL_one {e : Nat → Int} {E : Int} (he : Cb e E) (hE : 1 ≤ E) (hE2 : E < 68719476736) : ∀ (k : Nat) (w : Nat → Int) (W : Int), 0 ≤ W → Cb w W → Zd w (k + 1) → W * (2 * E) ^ k < 2251799813685248 → Cb (divL e 1 (k + 1) (k + 1) w) 1 ∧ divLOK e 1 (k + 1) (k + 1) w
  | 0, w, W, hW, hw, zw, hb => by
    rw [Int.pow_zero, Int.mul_one] at hb
    have c1 : Cb (canF e 1 1 w) 1 := fun i => by
      unfold canF
      rw [if_pos ⟨rfl, rfl⟩]
      split
      · exact sg_rng _
      · split
        · omega
        · rw [zw i (by omega)]
          omega
    refine ⟨c1, ⟨fun _ => ?_, fun z => absurd ⟨rfl, rfl⟩ z⟩, fun i _ => ?_⟩
    · have a0 := he 0
      have a1 := he 1
      have b0 := hw 0
      have b1 := hw 1
      exact ⟨⟨by omega, by omega⟩, ⟨by omega, by omega⟩, ⟨by omega, by omega⟩, ⟨by omega, by omega⟩⟩
    · have : -1 ≤ canF e 1 1 w i ∧ canF e 1 1 w i ≤ 1 := c1 i
      show -9223372036854775807 ≤ canF e 1 1 w i ∧ canF e 1 1 w i ≤ 9223372036854775807
      omega
  | k + 1, w, W, hW, hw, zw, hb => by
    have e1 : W * (2 * E) ^ (k + 1) = W * (2 * E) * (2 * E) ^ k := by rw [Int.pow_succ]; grind
    rw [e1] at hb
    have w2 : 0 ≤ W * (2 * E) := Int.mul_nonneg hW (by omega)
    obtain ⟨c1, c2⟩ := can_b (low := 1) (top := k + 1 + 1) hw he hE hW (fun z => by omega)
    have := Int.mul_le_mul_of_nonneg_left (pw1 (n := 2 * E) (by omega) k) w2
    have zc : Zd (canF e 1 (k + 1 + 1) w) (k + 1) := fun i hi => by
      unfold canF
      rw [if_neg (by omega)]
      by_cases c : i = k + 1 + 1
      · rw [if_pos c]
      · rw [if_neg c, if_neg (by omega), if_neg (by omega), zw i (by omega)]
        rfl
    obtain ⟨i1, i2⟩ := divL_one he hE hE2 k _ _ w2 c1 zc hb
    exact ⟨i1, c2 (by omega), i2⟩
/-- a step of the class's division, by the shape of the divisor -/
theorem cstep {s t : RS} {m : Nat} {W E : Int} (h : MI s m) (hs : Sim s t) (hw : Cb (t.2.1 m) W) (he : Cb (t.2.1 (m + 1)) E) (hW : 0 ≤ W) (hE : 1 ≤ E) (hc : s.2.2 (m + 1) = 0 → Cb (t.2.1 (m + 1)) 1) (h0 : W * 32 ≤ 9223372036854775807) (h1 : s.2.2 (m + 1) = 1 → E < 68719476736 ∧ W * (2 * E) ^ (s.2.2 m - 1) < 2251799813685248) (h2 : 2 ≤ s.2.2 (m + 1) → W * (2 * E) ^ (s.2.2 m + 1 - s.2.2 (m + 1)) ≤ 9223372036854775807) : divOK t ∧ (s.2.2 (m + 1) = 0 → topW (divF t) 5 = 0) ∧ (s.2.2 (m + 1) = 1 → Cb (divF t) 1) ∧ (2 ≤ s.2.2 (m + 1) → Cb (divF t) (W * (2 * E) ^ (s.2.2 m + 1 - s.2.2 (m + 1)))) := by
  have hp := divR_pp h hs
  have hz := (mdivR_ok h).2
  obtain ⟨g1, g2, g3, -⟩ := h
  have t1 := hs.1
  have e1 : t.1 - 1 = m + 1 := by omega
  have e2 : t.1 - 2 = m := by omega
  have d1 := (hs.2 (m + 1) (by omega)).1
  have d0 := (hs.2 m (by omega)).1
  have p0 := (hs.2 m (by omega)).2
  have dd := g3 m (Nat.le_refl _)
  have d4 := (g2 m (by omega)).1
  have zw : Zd (t.2.1 m) (s.2.2 m) := p0.zd (g2 m (by omega)).2.2
  have eF : ∀ i, divF t i = - divL (t.2.1 (m + 1)) (s.2.2 (m + 1)) (s.2.2 m + 1 - s.2.2 (m + 1)) (s.2.2 m) (t.2.1 m) i := fun i => by
    unfold divF
    rw [e1, e2, ← d1, ← d0]
  have eO : divOK t ↔ (s.2.2 (m + 1) ≤ 4 ∧ s.2.2 m ≤ 4 ∧ divLOK (t.2.1 (m + 1)) (s.2.2 (m + 1)) (s.2.2 m + 1 - s.2.2 (m + 1)) (s.2.2 m) (t.2.1 m)) := by
    unfold divOK
    rw [e1, e2, ← d1, ← d0]
  have neg : ∀ B, Cb (divL (t.2.1 (m + 1)) (s.2.2 (m + 1)) (s.2.2 m + 1 - s.2.2 (m + 1)) (s.2.2 m) (t.2.1 m)) B → Cb (divF t) B := fun B hb i => by
    rw [eF]
    have := hb i
    omega
  rw [eO]
  by_cases c0 : s.2.2 (m + 1) = 0
  · have b := divL_b (low := 0) (hc c0) (by decide) (by decide) (s.2.2 m + 1) (s.2.2 m) _ W hW hw
    have p5 : (2 * 1 : Int) ^ (s.2.2 m + 1) ≤ 2 ^ 5 := pw_le (by decide) (by omega)
    have p6 := Int.mul_le_mul_of_nonneg_left p5 hW
    rw [c0] at hz ⊢
    refine ⟨⟨by omega, d4, b.2 (by omega)⟩, fun _ => ?_, fun z => by omega, fun z => by omega⟩
    rw [← hp.top]
    rcases topW_sp (mdivR s) 5 with ⟨q, -⟩ | ⟨-, -, q, -⟩
    · exact q
    · exact absurd (hz _ (by omega)) q
  · by_cases c1 : s.2.2 (m + 1) = 1
    · obtain ⟨x1, x2⟩ := h1 c1
      have b := divL_one he hE x1 (s.2.2 m - 1) (t.2.1 m) W hW hw (fun i hi => zw i (by omega)) x2
      rw [show s.2.2 m - 1 + 1 = s.2.2 m by omega] at b
      rw [c1, Nat.add_sub_cancel]
      refine ⟨⟨by omega, d4, b.2⟩, fun z => by omega, fun _ => ?_, fun z => by omega⟩
      refine neg 1 ?_
      rw [c1, Nat.add_sub_cancel]
      exact b.1
    · have b := divL_b (low := s.2.2 (m + 1)) he hE c1 (s.2.2 m + 1 - s.2.2 (m + 1)) (s.2.2 m) _ W hW hw
      exact ⟨⟨by omega, d4, b.2 (h2 (by omega))⟩, fun z => absurd z c0, fun z => absurd z c1, fun _ => neg _ b.1⟩
/-- the class's loop, its rows told by what each of them keeps -/
theorem cl {Iv : Nat → (Nat → Int) → Prop} {tt : Nat} (step : ∀ (s t : RS) (m : Nat), MI s m → Sim s t → s.2.2 0 + 1 = tt → (∀ k, k ≤ m + 1 → s.2.2 k + k + 1 ≤ tt) → Pp (derF (t.2.1 0)) (t.2.1 1) → s.2.2 1 + 2 = tt → (∀ k, k ≤ m + 1 → Iv k (t.2.1 k)) → (∀ k, 1 ≤ k → k ≤ m + 1 → s.2.2 k = 0 → Cb (t.2.1 k) 1) → divOK t ∧ (topW (divF t) 5 ≠ 0 → Iv (m + 2) (redF (divF t)))) : ∀ (n : Nat) (s t : RS) (m : Nat), MI s m → Sim s t → s.2.2 (m + 1) ≤ n → s.2.2 0 + 1 = tt → Pp (derF (t.2.1 0)) (t.2.1 1) → s.2.2 1 + 2 = tt → (∀ k, k ≤ m + 1 → Iv k (t.2.1 k)) → (∀ k, 1 ≤ k → k ≤ m + 1 → s.2.2 k = 0 → Cb (t.2.1 k) 1) → bldLOK n t ∧ ∀ k, k < (bldL n t).1 → Iv k ((bldL n t).2.1 k) ∧ (1 ≤ k → (bldL n t).2.2 k = 0 → Cb ((bldL n t).2.1 k) 1)
  | 0, s, t, m, h, hs, _, _, _, _, hi, hc => by
    refine ⟨trivial, fun k hk => ?_⟩
    have t1 := hs.1
    have g1 := h.1
    have hk2 : k < t.1 := hk
    exact ⟨hi k (by omega), fun k1 d0 => hc k k1 (by omega) (by rw [(hs.2 k (by omega)).1]; exact d0)⟩
  | n + 1, s, t, m, h, hs, hn, h0, hd, hd1, hi, hc => by
    have t1 := hs.1
    have g1 := h.1
    have small : ∀ k, k ≤ m + 1 → s.2.2 k + k + 1 ≤ tt := by
      intro k
      induction k with
      | zero => intro _; omega
      | succ k ih => intro hk; have := ih (by omega); have := h.2.2.1 k (by omega); omega
    obtain ⟨s1, s2⟩ := step s t m h hs h0 small hd hd1 hi hc
    have hp := divR_pp h hs
    have hz := (mdivR_ok h).2
    have sm := h.small (m + 1) (Nat.le_refl _)
    have h4 := (h.2.1 (m + 1) (Nat.le_refl _)).1
    have zt : Zd (mdivR s) 4 := fun i hi => hz i (by omega)
    have t95 := top95 zt
    have eb : bldL (n + 1) t = if (addF t (divF t)).1 = 1 then bldL n (addF t (divF t)).2 else (addF t (divF t)).2 := rfl
    by_cases c : topW (mdivR s) 9 = 0
    · have ea : addF t (divF t) = (0, t) := by
        unfold addF
        rw [if_pos (Or.inl (by rw [← hp.top, ← t95]; exact c))]
      rw [eb, ea, if_neg (show ¬ (0 : Int) = 1 by decide)]
      refine ⟨⟨s1, fun z => by rw [ea] at z; exact absurd z (show ¬ (0 : Int) = 1 by decide)⟩, fun k hk => ?_⟩
      have hk2 : k < t.1 := hk
      exact ⟨hi k (by omega), fun k1 d0 => hc k k1 (by omega) (by rw [(hs.2 k (by omega)).1]; exact d0)⟩
    · have c0 : ¬ s.2.2 (m + 1) = 0 := fun z => by
        rw [z] at hz
        rcases topW_sp (mdivR s) 9 with ⟨h1, -⟩ | ⟨h1, h2, h3, -⟩
        · exact c h1
        · exact h3 (hz _ (by omega))
      have cd : topW (divF t) 5 ≠ 0 := fun z => c (by rw [t95, hp.top]; exact z)
      have hn2 := h.next c
      have ea : addF t (divF t) = (1, t.1 + 1, fun k => if k = t.1 then redF (divF t) else t.2.1 k, fun k => if k = t.1 then topW (divF t) 5 - 1 else t.2.2 k) := by
        unfold addF
        rw [if_neg (fun z => z.elim cd (fun z => by omega))]
      have e9 : ∀ k, k ≤ m + 1 → (mNext s).2.2 k = s.2.2 k := fun k hk => by
        show (if k = s.1 then topW (mdivR s) 9 - 1 else s.2.2 k) = _
        rw [if_neg (by omega)]
      have e10 := hn2.2.2.1 (m + 1) (Nat.le_refl _)
      have e11 := e9 (m + 1) (Nat.le_refl _)
      have sim2 : Sim (mNext s) (t.1 + 1, fun k => if k = t.1 then redF (divF t) else t.2.1 k, fun k => if k = t.1 then topW (divF t) 5 - 1 else t.2.2 k) := by
        refine ⟨by show s.1 + 1 = t.1 + 1; rw [hs.1], fun k hk => ?_⟩
        show (if k = s.1 then topW (mdivR s) 9 - 1 else s.2.2 k) = (if k = t.1 then topW (divF t) 5 - 1 else t.2.2 k) ∧ Pp (if k = s.1 then mdivR s else s.2.1 k) (if k = t.1 then redF (divF t) else t.2.1 k)
        have hk2 : k < s.1 + 1 := hk
        by_cases ck : k = s.1
        · rw [if_pos ck, if_pos (by rw [← hs.1]; exact ck), if_pos ck, if_pos (by rw [← hs.1]; exact ck)]
          exact ⟨by rw [t95, hp.top], hp.trans (redF_pp (hp.zd zt)).symm⟩
        · rw [if_neg ck, if_neg (by rw [← hs.1]; exact ck), if_neg ck, if_neg (by rw [← hs.1]; exact ck)]
          exact hs.2 k (by omega)
      have r0 : ∀ k, k ≤ m + 1 → (if k = t.1 then redF (divF t) else t.2.1 k) = t.2.1 k := fun k hk => if_neg (by omega)
      have ih := cl step n (mNext s) (t.1 + 1, fun k => if k = t.1 then redF (divF t) else t.2.1 k, fun k => if k = t.1 then topW (divF t) 5 - 1 else t.2.2 k) (m + 1) hn2 sim2 (by omega) (by rw [e9 0 (by omega)]; exact h0) (by
          show Pp (derF (if 0 = t.1 then redF (divF t) else t.2.1 0)) (if 1 = t.1 then redF (divF t) else t.2.1 1)
          rw [r0 0 (by omega), r0 1 (by omega)]
          exact hd) (by rw [e9 1 (by omega)]; exact hd1) (fun k hk => by
          show Iv k (if k = t.1 then redF (divF t) else t.2.1 k)
          by_cases ck : k = t.1
          · rw [if_pos ck, show k = m + 2 by omega]
            exact s2 cd
          · rw [if_neg ck]
            exact hi k (by omega)) (fun k k1 hk d0 => by
          show Cb (if k = t.1 then redF (divF t) else t.2.1 k) 1
          by_cases ck : k = t.1
          · rw [if_pos ck]
            have d9 : (mNext s).2.2 k = topW (mdivR s) 9 - 1 := by
              show (if k = s.1 then topW (mdivR s) 9 - 1 else s.2.2 k) = _
              rw [if_pos (by omega)]
            refine redF_const ?_
            rw [← hp.top, ← t95]
            omega
          · rw [if_neg ck]
            exact hc k k1 (by omega) (by rw [← e9 k (by omega)]; exact d0))
      refine ⟨⟨s1, fun _ => ?_⟩, ?_⟩
      · rw [ea]
        exact ih.1
      · rw [eb, ea, if_pos rfl]
        exact ih.2
