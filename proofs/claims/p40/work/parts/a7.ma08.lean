/-! Rows of the class against rows of the reference. -/
/-- the same but for a positive factor -/
def Pp (f g : Nat → Int) : Prop := ∃ a b : Int, 0 < a ∧ 0 < b ∧ ∀ i, a * f i = b * g i
theorem Pp.rf {f : Nat → Int} : Pp f f := ⟨1, 1, by decide, by decide, fun _ => rfl⟩
theorem Pp.symm {f g : Nat → Int} (h : Pp f g) : Pp g f := by
  obtain ⟨a, b, ha, hb, e⟩ := h
  exact ⟨b, a, hb, ha, fun i => (e i).symm⟩
theorem Pp.trans {f g k : Nat → Int} (h : Pp f g) (h2 : Pp g k) : Pp f k := by
  obtain ⟨a, b, ha, hb, e⟩ := h
  obtain ⟨c, d, hc, hd, e2⟩ := h2
  refine ⟨a * c, b * d, Int.mul_pos ha hc, Int.mul_pos hb hd, fun i => ?_⟩
  have h1 := e i
  have h2 := e2 i
  have e1 : a * c * f i = c * (a * f i) := by grind
  have e3 : c * (b * g i) = b * (c * g i) := by grind
  rw [e1, h1, e3, h2]
  grind
theorem Pp.of_eq {f g : Nat → Int} (h : ∀ i, f i = g i) : Pp f g := ⟨1, 1, by decide, by decide, fun i => by rw [h i]⟩
theorem sg_pm {a x : Int} (ha : 0 < a) : sg (a * x) = sg x := by
  unfold sg
  by_cases c : 0 < x
  · rw [if_pos c, if_pos (Int.mul_pos ha c)]
  · by_cases d : x < 0
    · have := Int.mul_neg_of_pos_of_neg ha d
      rw [if_neg (by omega), if_pos this, if_neg c, if_pos d]
    · have : x = 0 := by omega
      subst this
      rw [Int.mul_zero]
theorem sg0 {x : Int} : sg x = 0 ↔ x = 0 := by
  unfold sg
  split <;> (try split) <;> omega
theorem Pp.sgn {f g : Nat → Int} (h : Pp f g) (i : Nat) : sg (f i) = sg (g i) := by
  obtain ⟨a, b, ha, hb, e⟩ := h
  rw [← sg_pm ha, e i, sg_pm hb]
theorem Pp.zero {f g : Nat → Int} (h : Pp f g) (i : Nat) : f i = 0 ↔ g i = 0 := by rw [← sg0, h.sgn, sg0]
theorem Pp.zd {f g : Nat → Int} (h : Pp f g) {d : Nat} (z : Zd f d) : Zd g d := fun i hi => (h.zero i).mp (z i hi)
theorem Pp.top {f g : Nat → Int} (h : Pp f g) : ∀ n : Nat, topW f n = topW g n
  | 0 => rfl
  | n + 1 => by
    simp only [topW]
    by_cases c : f n = 0
    · rw [if_neg (fun z => z c), if_neg (fun z => z ((h.zero n).mp c)), h.top n]
    · rw [if_pos c, if_pos (fun z => c ((h.zero n).mpr z))]
theorem Pp.neg {f g : Nat → Int} (h : Pp f g) : Pp (fun i => -f i) (fun i => -g i) := by
  obtain ⟨a, b, ha, hb, e⟩ := h
  exact ⟨a, b, ha, hb, fun i => by have := e i; show a * -f i = b * -g i; rw [Int.mul_neg, Int.mul_neg, this]⟩
theorem gcdW_dvd (w : Nat → Int) : ∀ n i : Nat, i < n → ((gcdW w n : Nat) : Int) ∣ w i
  | 0, i, h => absurd h (Nat.not_lt_zero i)
  | n + 1, i, h => by
    simp only [gcdW]
    by_cases e : i = n
    · rw [e]
      exact Int.ofNat_dvd_left.mpr (Nat.gcd_dvd_right _ _)
    · exact Int.dvd_trans (Int.natCast_dvd_natCast.mpr (Nat.gcd_dvd_left _ _)) (gcdW_dvd w n i (by omega))
theorem redF_pp {w : Nat → Int} (hz : Zd w 4) : Pp (redF w) w := by
  by_cases c : 1 < gcdW w 5
  · refine ⟨(gcdW w 5 : Nat), 1, by omega, by decide, fun i => ?_⟩
    unfold redF
    by_cases d : i < 5
    · rw [if_pos d, if_pos c, Int.mul_tdiv_cancel' (gcdW_dvd w 5 i d), Int.one_mul]
    · rw [if_neg d, hz i (by omega)]
      omega
  · refine Pp.of_eq (fun i => ?_)
    unfold redF
    by_cases d : i < 5
    · rw [if_pos d, if_neg c]
    · rw [if_neg d, hz i (by omega)]
theorem can_pp {e w : Nat → Int} {low top : Nat} (hl : low ≤ top) (zw : Zd w top) : Pp (canF e low top w) (mcan e low top w) := by
  by_cases c : low = 1 ∧ top = 1
  · obtain ⟨rfl, rfl⟩ := c
    have c0 : canF e 1 1 w 0 = sg (mcan e 1 1 w 0) := by
      unfold canF mcan
      rw [if_pos ⟨rfl, rfl⟩, if_pos rfl, if_pos (show 0 < 1 by decide), if_pos (show 1 ≤ 0 + 1 by decide)]
      congr 1
      show ab (e 1) * w 0 + -e 0 * (if 0 < e 1 then w 1 else -w 1) = w 0 * ab (e 1) + (if 0 < e 1 then -(w 1 * e 0) else w 1 * e 0)
      split <;> grind
    have c1 : ∀ i, i ≠ 0 → canF e 1 1 w i = 0 ∧ mcan e 1 1 w i = 0 := fun i hi => by
      unfold canF mcan
      by_cases c : i = 1
      · rw [if_pos ⟨rfl, rfl⟩, if_neg hi, if_pos c, if_neg (show ¬ i < 1 by omega)]
        exact ⟨rfl, rfl⟩
      · rw [if_pos ⟨rfl, rfl⟩, if_neg hi, if_neg c, if_neg (show ¬ i < 1 by omega)]
        exact ⟨zw i (by omega), zw i (by omega)⟩
    generalize canF e 1 1 w = u at *
    generalize mcan e 1 1 w = v at *
    by_cases z : v 0 = 0
    · refine Pp.of_eq (fun i => ?_)
      by_cases hi : i = 0
      · rw [hi, c0, z]
        rfl
      · rw [(c1 i hi).1, (c1 i hi).2]
    · refine ⟨sg (v 0) * v 0, 1, by unfold sg; split <;> (try split) <;> omega, by decide, fun i => ?_⟩
      by_cases hi : i = 0
      · rw [hi, c0]
        unfold sg
        split <;> (try split) <;> omega
      · rw [(c1 i hi).1, (c1 i hi).2]
        omega
  · refine Pp.of_eq (fun i => ?_)
    unfold canF mcan
    rw [if_neg c]
    by_cases c1 : i = top
    · rw [if_pos c1, if_neg (by omega), if_pos c1]
    · rw [if_neg c1]
      by_cases c2 : i < top
      · rw [if_pos c2, if_pos c2]
        by_cases c3 : top ≤ i + low
        · rw [if_pos c3, if_pos ⟨by omega, c2⟩, show i - (top - low) = i + low - top by omega]
          split <;> grind
        · rw [if_neg c3, if_neg (by omega)]
          omega
      · rw [if_neg c2, if_neg c2, if_neg c1, if_neg (fun z => c2 z.2)]
        omega
theorem mcan_pp {e e2 w w2 : Nat → Int} {low top : Nat} (he : Pp e e2) (hw : Pp w w2) (zw : Zd w top) : Pp (mcan e low top w) (mcan e2 low top w2) := by
  have zw2 := hw.zd zw
  have hs := he.sgn low
  obtain ⟨a, b, ha, hb, E⟩ := he
  obtain ⟨c, d, hc, hd, W⟩ := hw
  have sgp : 0 < e low ↔ 0 < e2 low := by
    have q : ∀ x : Int, 0 < x ↔ sg x = 1 := fun x => by unfold sg; split <;> (try split) <;> omega
    rw [q, q, hs]
  have el := E low
  refine ⟨a * c, b * d, Int.mul_pos ha hc, Int.mul_pos hb hd, fun p => ?_⟩
  unfold mcan
  by_cases c1 : p < top
  · rw [if_pos c1, if_pos c1]
    have h1 : (c * w p) * (a * e low) = (d * w2 p) * (b * e2 low) := by rw [W p, el]
    have h2 : (c * w top) * (a * e (p + low - top)) = (d * w2 top) * (b * e2 (p + low - top)) := by rw [W top, E]
    unfold ab
    by_cases c2 : 0 < e low
    · rw [if_pos c2, if_pos (sgp.mp c2)]
      by_cases c3 : top ≤ p + low
      · rw [if_pos c3, if_pos c3, if_pos c2, if_pos (sgp.mp c2)]
        grind
      · rw [if_neg c3, if_neg c3]
        grind
    · rw [if_neg c2, if_neg (fun z => c2 (sgp.mpr z))]
      by_cases c3 : top ≤ p + low
      · rw [if_pos c3, if_pos c3, if_neg c2, if_neg (fun z => c2 (sgp.mpr z))]
        grind
      · rw [if_neg c3, if_neg c3]
        grind
  · rw [if_neg c1, if_neg c1]
    by_cases c2 : p = top
    · rw [if_pos c2, if_pos c2]
      omega
    · rw [if_neg c2, if_neg c2, zw p (by omega), zw2 p (by omega)]
      omega
theorem mcan_zero {e w : Nat → Int} {low top k : Nat} (hk : top + 1 = low + (k + 1)) (zw : ∀ i, low + (k + 1) ≤ i → w i = 0) : ∀ i, low + k ≤ i → mcan e low top w i = 0 := by
  intro i hi
  unfold mcan
  rw [if_neg (by omega)]
  split
  · rfl
  · exact zw i (by omega)
theorem div_pp {e e2 : Nat → Int} {low : Nat} (he : Pp e e2) : ∀ (k top : Nat) (w w2 : Nat → Int), (0 < k → top + 1 = low + k) → Pp w w2 → (∀ i, low + k ≤ i → w i = 0) → Pp (divL e low k top w) (mdivL e2 low k top w2)
  | 0, _, _, _, _, hw, _ => hw
  | k + 1, top, w, w2, hk, hw, zw => by
    have hk := hk (by omega)
    have zt : Zd w top := fun i hi => zw i (by omega)
    have h1 := (can_pp (e := e) (low := low) (by omega) zt).trans (mcan_pp (low := low) he hw zt)
    have h2 := mcan_zero (e := e2) hk (fun i hi => (hw.zero i).mp (zw i hi))
    exact div_pp he k (top - 1) _ _ (by omega) h1 (fun i hi => (h1.zero i).mpr (h2 i hi))
def Sim (s t : RS) : Prop := s.1 = t.1 ∧ ∀ k, k < s.1 → s.2.2 k = t.2.2 k ∧ Pp (s.2.1 k) (t.2.1 k)
theorem divR_pp {s t : RS} {m : Nat} (h : MI s m) (hs : Sim s t) : Pp (mdivR s) (divF t) := by
  obtain ⟨h1, h2, h3, -⟩ := h
  obtain ⟨e1, e2⟩ := hs
  obtain ⟨d0, p0⟩ := e2 m (by omega)
  obtain ⟨d1, p1⟩ := e2 (m + 1) (by omega)
  have hd := h3 m (Nat.le_refl _)
  have key := div_pp (low := s.2.2 (m + 1)) p1.symm (s.2.2 m + 1 - s.2.2 (m + 1)) (s.2.2 m) (t.2.1 m) (s.2.1 m) (by omega) p0.symm (fun i hi => (p0.zero i).mp ((h2 m (by omega)).2.2 i (by omega)))
  have k2 := key.symm.neg
  refine (Pp.of_eq (fun i => ?_)).trans (k2.trans (Pp.of_eq (fun i => ?_)))
  · unfold mdivR
    rw [h1, show m + 2 - 1 = m + 1 by omega, show m + 2 - 2 = m by omega]
  · unfold divF
    rw [← e1, h1, show m + 2 - 1 = m + 1 by omega, show m + 2 - 2 = m by omega, ← d0, ← d1]
theorem MI.small {s : RS} {m : Nat} (h : MI s m) : ∀ i, i ≤ m + 1 → s.2.2 i + i ≤ 4
  | 0, hi => by have := (h.2.1 0 hi).1; omega
  | i + 1, hi => by
    have h1 := h.small i (by omega)
    have h2 := h.2.2.1 i (by omega)
    omega
theorem sim_loop : ∀ (n : Nat) (s t : RS) (m : Nat), MI s m → Sim s t → s.2.2 (m + 1) ≤ n → Sim (mLoop (n + 1) s) (bldL n t)
  | 0, s, t, m, h, hs, hn => by
    have e1 : s.1 - 1 = m + 1 := by have := h.1; omega
    have : mLoop (0 + 1) s = s := by
      show (if s.2.2 (s.1 - 1) = 0 ∨ topW (mdivR s) 9 = 0 then s else mLoop 0 (mNext s)) = s
      rw [e1, if_pos (Or.inl (by omega))]
    rw [this]
    exact hs
  | n + 1, s, t, m, h, hs, hn => by
    have e1 : s.1 - 1 = m + 1 := by have := h.1; omega
    have hp := divR_pp h hs
    have hz := (mdivR_ok h).2
    have sm := h.small (m + 1) (Nat.le_refl _)
    have h4 := (h.2.1 (m + 1) (Nat.le_refl _)).1
    have zt : Zd (mdivR s) 4 := fun i hi => hz i (by omega)
    have t95 : topW (mdivR s) 9 = topW (mdivR s) 5 := by
      show (if mdivR s 8 ≠ 0 then 9 else if mdivR s 7 ≠ 0 then 8 else if mdivR s 6 ≠ 0 then 7 else if mdivR s 5 ≠ 0 then 6 else topW (mdivR s) 5) = _
      rw [if_neg (fun z => z (zt 8 (by omega))), if_neg (fun z => z (zt 7 (by omega))), if_neg (fun z => z (zt 6 (by omega))), if_neg (fun z => z (zt 5 (by omega)))]
    have em : mLoop (n + 1 + 1) s = if s.2.2 (m + 1) = 0 ∨ topW (mdivR s) 9 = 0 then s else mLoop (n + 1) (mNext s) := by
      show (if s.2.2 (s.1 - 1) = 0 ∨ topW (mdivR s) 9 = 0 then s else mLoop (n + 1) (mNext s)) = _
      rw [e1]
    have eb : bldL (n + 1) t = if (addF t (divF t)).1 = 1 then bldL n (addF t (divF t)).2 else (addF t (divF t)).2 := rfl
    rw [em, eb]
    by_cases c : topW (mdivR s) 9 = 0
    · have ea : addF t (divF t) = (0, t) := by
        unfold addF
        rw [if_pos (Or.inl (by rw [← hp.top, ← t95]; exact c))]
      rw [if_pos (Or.inr c), ea, if_neg (show ¬ (0 : Int) = 1 by decide)]
      exact hs
    · have c0 : ¬ s.2.2 (m + 1) = 0 := fun z => by
        rw [z] at hz
        rcases topW_sp (mdivR s) 9 with ⟨h1, -⟩ | ⟨h1, h2, h3, -⟩
        · exact c h1
        · exact h3 (hz _ (by omega))
      rw [if_neg (fun z => z.elim c0 c)]
      have hn2 := h.next c
      have ea : addF t (divF t) = (1, t.1 + 1, fun k => if k = t.1 then redF (divF t) else t.2.1 k, fun k => if k = t.1 then topW (divF t) 5 - 1 else t.2.2 k) := by
        unfold addF
        have t1 := hs.1
        have s1 := h.1
        rw [if_neg (fun z => z.elim (fun z => c (by rw [t95, hp.top]; exact z)) (fun z => by omega))]
      rw [ea, if_pos rfl]
      have e9 : (mNext s).2.2 (m + 1) = s.2.2 (m + 1) := by
        show (if m + 1 = s.1 then topW (mdivR s) 9 - 1 else s.2.2 (m + 1)) = _
        rw [if_neg (by have := h.1; omega)]
      have e10 := hn2.2.2.1 (m + 1) (Nat.le_refl _)
      refine sim_loop n _ _ (m + 1) hn2 ⟨by show s.1 + 1 = t.1 + 1; rw [hs.1], fun k hk => ?_⟩ (by omega)
      show (if k = s.1 then topW (mdivR s) 9 - 1 else s.2.2 k) = (if k = t.1 then topW (divF t) 5 - 1 else t.2.2 k) ∧ Pp (if k = s.1 then mdivR s else s.2.1 k) (if k = t.1 then redF (divF t) else t.2.1 k)
      have hk2 : k < s.1 + 1 := hk
      by_cases ck : k = s.1
      · rw [if_pos ck, if_pos (by rw [← hs.1]; exact ck), if_pos ck, if_pos (by rw [← hs.1]; exact ck)]
        exact ⟨by rw [t95, hp.top], hp.trans (redF_pp (hp.zd zt)).symm⟩
      · rw [if_neg ck, if_neg (by rw [← hs.1]; exact ck), if_neg ck, if_neg (by rw [← hs.1]; exact ck)]
        exact hs.2 k (by omega)
theorem top95 {P : Nat → Int} (zt : Zd P 4) : topW P 9 = topW P 5 := by
  show (if P 8 ≠ 0 then 9 else if P 7 ≠ 0 then 8 else if P 6 ≠ 0 then 7 else if P 5 ≠ 0 then 6 else topW P 5) = _
  rw [if_neg (fun z => z (zt 8 (by omega))), if_neg (fun z => z (zt 7 (by omega))), if_neg (fun z => z (zt 6 (by omega))), if_neg (fun z => z (zt 5 (by omega)))]
/-- both have the same rows, but for positive factors -/
theorem sim_all {P Q : Nat → Int} (hz : Zd P 4) (hPQ : Pp P Q) : Sim (mRows P) (buildF Q) := by
  have hzQ := hPQ.zd hz
  have ht := hPQ.top 5
  have t9 := top95 hz
  rcases topW_sp P 9 with ⟨c0, -⟩ | ⟨t1, t2, t3, t4⟩
  · have e1 : mRows P = (0, fun _ => P, fun _ => 0) := by
      unfold mRows
      rw [if_pos c0]
    have e2 : bld1 Q = (0, 0, fun _ _ => 0, fun _ => 0) := by
      unfold bld1 addF
      rw [if_pos (Or.inl (by rw [← ht, ← t9]; exact c0))]
    have e3 : buildF Q = (0, fun _ _ => 0, fun _ => 0) := by
      unfold buildF
      rw [e2, if_neg (by decide)]
    rw [e1, e3]
    exact ⟨rfl, fun k hk => absurd hk (Nat.not_lt_zero k)⟩
  · have e2 : bld1 Q = (1, 1, fun k => if k = 0 then redF Q else fun _ => 0, fun k => if k = 0 then topW Q 5 - 1 else 0) := by
      unfold bld1 addF
      rw [if_neg (fun z => z.elim (fun z => by omega) (fun z => absurd z (by decide)))]
    have r0 : (bld1 Q).2.2.1 0 = redF Q := by rw [e2]; rfl
    have rq := redF_pp hzQ
    have zr : Zd (redF Q) 4 := rq.symm.zd hzQ
    have zder : Zd (derF (redF Q)) 4 := fun i hi => by
      unfold derF
      rw [if_neg (by omega)]
    have e4 : buildF Q = if (bld2 Q).1 = 1 then bldL 3 (bld2 Q).2 else (bld2 Q).2 := by
      show (if (bld1 Q).1 = 1 then _ else _) = _
      rw [e2, if_pos rfl]
    have derv : ∀ i, derF (redF Q) i = ((i : Int) + 1) * redF Q (i + 1) := fun i => by
      unfold derF
      by_cases c : i < 4
      · rw [if_pos c]
      · rw [if_neg c, zr (i + 1) (by omega), Int.mul_zero]
    have b2 : bld2 Q = addF (bld1 Q).2 (derF (redF Q)) := by
      unfold bld2
      rw [r0]
    by_cases c1 : topW P 9 = 1
    · have e1 : mRows P = (1, fun _ => P, fun _ => 0) := by
        unfold mRows
        rw [if_neg (by omega), if_pos c1]
      have zP : ∀ i, 1 ≤ i → redF Q i = 0 := fun i hi => (rq.zero i).mpr ((hPQ.zero i).mp (by
        by_cases c : i < 9
        · exact t4 i (by omega) c
        · exact hz i (by omega)))
      have td : topW (derF (redF Q)) 5 = 0 := by
        rcases topW_sp (derF (redF Q)) 5 with ⟨h1, -⟩ | ⟨h1, h2, h3, -⟩
        · exact h1
        · exact absurd (by rw [derv, zP _ (by omega), Int.mul_zero]) h3
      have e5 : bld2 Q = (0, (bld1 Q).2) := by
        rw [b2]
        unfold addF
        rw [if_pos (Or.inl td)]
      rw [e4, e5, if_neg (show ¬ (0 : Int) = 1 by decide), e1, e2]
      refine ⟨rfl, fun k hk => ?_⟩
      have k0 : k = 0 := Nat.lt_one_iff.mp hk
      subst k0
      exact ⟨by show 0 = topW Q 5 - 1; omega, hPQ.trans rq.symm⟩
    · have e1 : mRows P = mLoop 4 (mTwo P) := by
        unfold mRows
        rw [if_neg (by omega), if_neg c1]
      obtain ⟨h1, -, t5⟩ := mTwo_ok hz (by omega)
      obtain ⟨d, hd⟩ : ∃ d, topW P 9 = d + 1 := ⟨topW P 9 - 1, by omega⟩
      have r1 : (mTwo P).2.1 1 = mder P d := by
        show mder P (topW P 9 - 1) = _
        rw [hd]
        rfl
      have d1 : (mTwo P).2.2 1 = d - 1 := by
        show topW P 9 - 2 = d - 1
        omega
      have zP : ∀ i, d < i → P i = 0 := fun i hi => by
        by_cases c : i < 9
        · exact t4 i (by omega) c
        · exact hz i (by omega)
      have md : ∀ p, mder P d p = P (p + 1) * ((p : Int) + 1) := fun p => by
        unfold mder
        by_cases c : p < d
        · rw [if_pos c]
        · rw [if_neg c, zP (p + 1) (by omega)]
          omega
      have pd : Pp (mder P d) (derF (redF Q)) := by
        obtain ⟨a, b, ha, hb, E⟩ := hPQ.trans rq.symm
        refine ⟨a, b, ha, hb, fun i => ?_⟩
        rw [md, derv]
        have := E (i + 1)
        have q1 : a * (P (i + 1) * ((i : Int) + 1)) = (a * P (i + 1)) * ((i : Int) + 1) := by grind
        rw [q1, this]
        grind
      have zm : Zd (mder P d) 4 := pd.symm.zd zder
      have tm : topW (mder P d) 9 = d := by
        have g := (h1.2.1 1 (by omega)).2
        rw [r1, d1] at g
        rcases topW_sp (mder P d) 9 with ⟨q1, q2⟩ | ⟨q1, q2, q3, q4⟩
        · exact absurd (q2 (d - 1) (by omega)) g.1
        · by_cases c : topW (mder P d) 9 - 1 < d - 1
          · exact absurd (q4 (d - 1) (by omega) (by omega)) g.1
          · by_cases c2 : d - 1 < topW (mder P d) 9 - 1
            · exact absurd (g.2 _ c2) q3
            · omega
      have e5 : bld2 Q = (1, 2, fun k => if k = 1 then redF (derF (redF Q)) else (bld1 Q).2.2.1 k, fun k => if k = 1 then topW (derF (redF Q)) 5 - 1 else (bld1 Q).2.2.2 k) := by
        have b1 : (bld1 Q).2.1 = 1 := by rw [e2]
        rw [b2]
        unfold addF
        rw [b1, if_neg (fun z => z.elim (fun z => by rw [← pd.top, ← top95 zm, tm] at z; omega) (fun z => absurd z (by decide)))]
      rw [e4, e5, if_pos rfl, e1]
      refine sim_loop 3 _ _ 0 h1 ⟨rfl, fun k hk => ?_⟩ (by rw [d1]; omega)
      have hk2 : k < 2 := hk
      rcases (show k = 0 ∨ k = 1 by omega) with rfl | rfl
      · refine ⟨?_, ?_⟩
        · show topW P 9 - 1 = (bld1 Q).2.2.2 0
          rw [e2]
          show topW P 9 - 1 = topW Q 5 - 1
          omega
        · show Pp P ((bld1 Q).2.2.1 0)
          rw [r0]
          exact hPQ.trans rq.symm
      · refine ⟨?_, ?_⟩
        · show topW P 9 - 2 = topW (derF (redF Q)) 5 - 1
          rw [← pd.top, ← top95 zm, tm]
          omega
        · rw [r1]
          exact pd.trans (redF_pp zder).symm
