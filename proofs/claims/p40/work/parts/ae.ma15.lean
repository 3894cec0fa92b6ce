/-! The class's numbers stay small: all of it. -/
def Rb (t k : Nat) : Int := match t, k with
  | 5, 0 => 30
  | 5, 1 => 120
  | 5, 2 => 15300
  | 5, 3 => 68719476735
  | 4, 0 => 120
  | 4, 1 => 360
  | 4, 2 => 62208000
  | 3, 0 => 15300
  | 3, 1 => 30600
  | 2, 0 => 68719476735
  | _, _ => 1
def Ivt (t k : Nat) (f : Nat → Int) : Prop := Cb f (Rb t k) ∧ (t = 5 → k = 1 → (-30 ≤ f 0 ∧ f 0 ≤ 30) ∧ (-60 ≤ f 1 ∧ f 1 ≤ 60) ∧ (-90 ≤ f 2 ∧ f 2 ≤ 90)) ∧ (t = 5 → k = 2 → (-12600 ≤ f 1 ∧ f 1 ≤ 12600) ∧ (-9900 ≤ f 2 ∧ f 2 ≤ 9900))
theorem row2_b {f e w : Nat → Int} {c d : Int} (hc : 0 < c) (hd : 0 < d) (hf : Cb f 30) (f4 : f 4 ≠ 0) (E : ∀ i : Nat, i < 4 → c * (((i : Int) + 1) * f (i + 1)) = d * e i) (he : e 3 ≠ 0) (hw : ∀ i, w i = - divL e 3 2 4 f i) (zw : Zd w 4) (tw : topW w 5 ≠ 0) : Ivt 5 2 (redF w) := by
  have q := quart2 hd E he
  have p := prim_le (w := w) (V := fun i => if i = 0 then 16 * f 4 * f 0 - f 3 * f 1 else if i = 1 then 12 * f 4 * f 1 - 2 * f 3 * f 2 else if i = 2 then 8 * f 4 * f 2 - 3 * f 3 * f 3 else 0) (a := d * d) (b := -(c * c * f 4)) zw tw (by have := Int.mul_pos hd hd; omega) (fun i hi => by
    have := q i hi
    rw [hw i]
    have e1 : d * d * -divL e 3 2 4 f i = -(d * d * divL e 3 2 4 f i) := Int.mul_neg _ _
    rw [e1, this]
    exact (Int.neg_mul _ _).symm)
  have m := fun i j => mulb (hf i).1 (hf i).2 (hf j).1 (hf j).2
  have p0 : (redF w 0).natAbs ≤ (16 * f 4 * f 0 - f 3 * f 1).natAbs := p 0 (by decide)
  have p1 : (redF w 1).natAbs ≤ (12 * f 4 * f 1 - 2 * f 3 * f 2).natAbs := p 1 (by decide)
  have p2 : (redF w 2).natAbs ≤ (8 * f 4 * f 2 - 3 * f 3 * f 3).natAbs := p 2 (by decide)
  have p3 : (redF w 3).natAbs ≤ (0 : Int).natAbs := p 3 (by decide)
  have p4 : (redF w 4).natAbs ≤ (0 : Int).natAbs := p 4 (by decide)
  have m40 := m 4 0
  have m31 := m 3 1
  have m41 := m 4 1
  have m32 := m 3 2
  have m42 := m 4 2
  have m33 := m 3 3
  rw [Int.mul_assoc] at p0 p1 p2
  rw [Int.mul_assoc 2] at p1
  rw [Int.mul_assoc 3] at p2
  have z5 : ∀ i, 5 ≤ i → redF w i = 0 := fun i hi => by
    unfold redF
    rw [if_neg (by omega)]
  have b0 : -15300 ≤ redF w 0 ∧ redF w 0 ≤ 15300 := by omega
  have b1 : -12600 ≤ redF w 1 ∧ redF w 1 ≤ 12600 := by omega
  have b2 : -9900 ≤ redF w 2 ∧ redF w 2 ≤ 9900 := by omega
  refine ⟨fun i => ?_, fun _ z => absurd z (by decide), fun _ _ => ⟨b1, b2⟩⟩
  show -15300 ≤ redF w i ∧ redF w i ≤ 15300
  by_cases c5 : i < 5
  · rcases (show i = 0 ∨ i = 1 ∨ i = 2 ∨ i = 3 ∨ i = 4 by omega) with rfl | rfl | rfl | rfl | rfl
    · exact b0
    · omega
    · omega
    · have : (0 : Int).natAbs = 0 := rfl
      omega
    · have : (0 : Int).natAbs = 0 := rfl
      omega
  · rw [z5 i (by omega)]
    decide
theorem row3_b {e q w : Nat → Int} (he : Ivt 5 1 e) (hq : Ivt 5 2 q) (h2 : q 2 ≠ 0) (hw : ∀ i, w i = - divL q 2 2 3 e i) (zw : ∀ i, 2 ≤ i → w i = 0) : Cb w 68719476735 := by
  obtain ⟨e3, e012, -⟩ := he
  obtain ⟨⟨a1, a2⟩, ⟨b1, b2⟩, ⟨c1, c2⟩⟩ := e012 rfl rfl
  have d3 : -120 ≤ e 3 ∧ e 3 ≤ 120 := e3 3
  obtain ⟨q0, -, q12⟩ := hq
  obtain ⟨⟨g1, g2⟩, ⟨h1, h3⟩⟩ := q12 rfl rfl
  have g0 : -15300 ≤ q 0 ∧ q 0 ≤ 15300 := q0 0
  obtain ⟨k0, k1⟩ := quart3 (e := e) h2
  have q22 := mulb h1 h3 h1 h3
  have q20 := mulb h1 h3 g0.1 g0.2
  have q10 := mulb g1 g2 g0.1 g0.2
  have q02 := mulb g0.1 g0.2 h1 h3
  have q21 := mulb h1 h3 g1 g2
  have q11 := mulb g1 g2 g1 g2
  have x1 := mulb a1 a2 q22.1 q22.2
  have x2 := mulb c1 c2 q20.1 q20.2
  have x3 := mulb d3.1 d3.2 q10.1 q10.2
  have x4 := mulb b1 b2 q22.1 q22.2
  have x5 := mulb d3.1 d3.2 q02.1 q02.2
  have x6 := mulb c1 c2 q21.1 q21.2
  have x7 := mulb d3.1 d3.2 q11.1 q11.2
  intro i
  by_cases i2 : 2 ≤ i
  · rw [zw i i2]
    decide
  · rw [hw i]
    rcases (show i = 0 ∨ i = 1 by omega) with rfl | rfl
    · rw [k0]
      omega
    · rw [k1]
      omega
theorem Rb1 (t k : Nat) : 1 ≤ Rb t k ∧ Rb t k * 32 ≤ 9223372036854775807 := by
  unfold Rb
  split <;> decide
theorem stepT {tt : Nat} (ht : tt = 2 ∨ tt = 3 ∨ tt = 4 ∨ tt = 5) (s t : RS) (m : Nat) (h : MI s m) (hs : Sim s t) (h0 : s.2.2 0 + 1 = tt) (sm : ∀ k, k ≤ m + 1 → s.2.2 k + k + 1 ≤ tt) (hd : Pp (derF (t.2.1 0)) (t.2.1 1)) (h1 : s.2.2 1 + 2 = tt) (hi : ∀ k, k ≤ m + 1 → Ivt tt k (t.2.1 k)) (hc : ∀ k, 1 ≤ k → k ≤ m + 1 → s.2.2 k = 0 → Cb (t.2.1 k) 1) : divOK t ∧ (topW (divF t) 5 ≠ 0 → Ivt tt (m + 2) (redF (divF t))) := by
  have ch := fun a b => cstep h hs (hi m (by omega)).1 (hi (m + 1) (Nat.le_refl _)).1 (by have := (Rb1 tt m).1; omega) (Rb1 tt (m + 1)).1 (hc (m + 1) (by omega) (Nat.le_refl _)) (Rb1 tt m).2 a b
  have dec := h.2.2.1 m (Nat.le_refl _)
  have sm1 := sm (m + 1) (Nat.le_refl _)
  have sm0 := sm m (by omega)
  have t1 := hs.1
  have g1 := h.1
  have e1 : t.1 - 1 = m + 1 := by omega
  have e2 : t.1 - 2 = m := by omega
  have hp := divR_pp h hs
  have hz := (mdivR_ok h).2
  have zt : Zd (mdivR s) 4 := fun i hi => hz i (by have := (h.2.1 (m + 1) (Nat.le_refl _)).1; omega)
  have zF : Zd (divF t) 4 := hp.zd zt
  have eF : ∀ i, divF t i = - divL (t.2.1 (m + 1)) (s.2.2 (m + 1)) (s.2.2 m + 1 - s.2.2 (m + 1)) (s.2.2 m) (t.2.1 m) i := fun i => by
    unfold divF
    rw [e1, e2, ← (hs.2 (m + 1) (by omega)).1, ← (hs.2 m (by omega)).1]
  have one : ∀ k, Cb (redF (divF t)) 1 → (∀ T, T = tt → k = m + 2 → ¬ (T = 5 ∧ (k = 1 ∨ k = 2))) → k = m + 2 → Ivt tt (m + 2) (redF (divF t)) := fun k hb hk ek => ⟨hb.up (Rb1 tt (m + 2)).1, fun z1 z2 => absurd ⟨z1, Or.inl (by omega)⟩ (hk tt rfl ek), fun z1 z2 => absurd ⟨z1, Or.inr (by omega)⟩ (hk tt rfl ek)⟩
  rcases ht with rfl | rfl | rfl | rfl
  · -- degree 1
    have m0 : m = 0 := by omega
    subst m0
    obtain ⟨c1, c2, -, -⟩ := ch (fun z => by omega) (fun z => by omega)
    exact ⟨c1, fun z => absurd (c2 (by omega)) z⟩
  · -- degree 2
    rcases (show m = 0 ∨ m = 1 by omega) with rfl | rfl
    · have d0 : s.2.2 0 = 2 := by omega
      have d1 : s.2.2 (0 + 1) = 1 := by show s.2.2 1 = 1; omega
      obtain ⟨c1, c2, c3, -⟩ := ch (fun _ => by rw [d0]; decide) (fun z => by omega)
      exact ⟨c1, fun z => one 2 (redF_cb (c3 d1)) (fun T e _ => by omega) rfl⟩
    · obtain ⟨c1, c2, -, -⟩ := ch (fun z => by omega) (fun z => by omega)
      exact ⟨c1, fun z => absurd (c2 (by omega)) z⟩
  · -- degree 3
    rcases (show m = 0 ∨ m = 1 ∨ m = 2 by omega) with rfl | rfl | rfl
    · have d0 : s.2.2 0 = 3 := by omega
      have d1 : s.2.2 (0 + 1) = 2 := by show s.2.2 1 = 2; omega
      obtain ⟨c1, c2, c3, c4⟩ := ch (fun z => by omega) (fun z => by rw [d0, d1]; decide)
      refine ⟨c1, fun z => ⟨?_, fun z1 _ => absurd z1 (by decide), fun z1 _ => absurd z1 (by decide)⟩⟩
      have := c4 (by omega)
      rw [d0, d1] at this
      exact redF_cb this
    · have d0 : s.2.2 1 = 2 := by omega
      obtain ⟨c1, c2, c3, -⟩ := ch (fun _ => by rw [d0]; decide) (fun z => by omega)
      refine ⟨c1, fun z => ?_⟩
      by_cases dz : s.2.2 (1 + 1) = 0
      · exact absurd (c2 dz) z
      · exact one 3 (redF_cb (c3 (by omega))) (fun T e _ => by omega) rfl
    · obtain ⟨c1, c2, -, -⟩ := ch (fun z => by omega) (fun z => by omega)
      exact ⟨c1, fun z => absurd (c2 (by omega)) z⟩
  · -- degree 4
    rcases (show m = 0 ∨ m = 1 ∨ m = 2 ∨ m = 3 by omega) with rfl | rfl | rfl | rfl
    · have d0 : s.2.2 0 = 4 := by omega
      have d1 : s.2.2 (0 + 1) = 3 := by show s.2.2 1 = 3; omega
      obtain ⟨c1, c2, c3, c4⟩ := ch (fun z => by omega) (fun z => by rw [d0, d1]; decide)
      refine ⟨c1, fun z => ?_⟩
      rw [d0, d1] at eF
      obtain ⟨c, d, hc0, hd0, E⟩ := hd
      have n0 := (h.2.1 0 (by omega)).2.1
      have n1 := (h.2.1 1 (by omega)).2.1
      rw [d0] at n0
      rw [show s.2.2 1 = 3 from d1] at n1
      have k0 := (hs.2 0 (by omega)).2
      have k1 := (hs.2 1 (by omega)).2
      exact row2_b hc0 hd0 (hi 0 (by omega)).1 (fun y => n0 ((k0.zero 4).mpr y)) (fun i hi4 => by
        have := E i
        unfold derF at this
        rw [if_pos hi4] at this
        exact this) (fun y => n1 ((k1.zero 3).mpr y)) eF zF z
    · have d0 : s.2.2 1 = 3 := by omega
      obtain ⟨c1, c2, c3, c4⟩ := ch (fun _ => by rw [d0]; decide) (fun z => by
        rw [d0, show s.2.2 (1 + 1) = 2 by omega]
        decide)
      refine ⟨c1, fun z => ?_⟩
      by_cases dz : s.2.2 (1 + 1) = 0
      · exact absurd (c2 dz) z
      · refine ⟨?_, fun _ z2 => absurd z2 (by decide), fun _ z2 => absurd z2 (by decide)⟩
        by_cases dy : s.2.2 (1 + 1) = 1
        · exact (redF_cb (c3 dy)).up (Rb1 5 3).1
        · have d2 : s.2.2 (1 + 1) = 2 := by omega
          rw [d2] at eF hz
          rw [d0] at eF
          have n2 := (h.2.1 2 (by omega)).2.1
          rw [show s.2.2 2 = 2 from d2] at n2
          have k2 := (hs.2 2 (by omega)).2
          exact redF_cb (row3_b (hi 1 (by omega)) (hi 2 (by omega)) (fun y => n2 ((k2.zero 2).mpr y)) eF (fun i hi2 => (hp.zero i).mp (hz i hi2)))
    · obtain ⟨c1, c2, c3, -⟩ := ch (fun z => by
        rw [show s.2.2 2 = 2 by omega]
        decide) (fun z => by omega)
      refine ⟨c1, fun z => ?_⟩
      by_cases dz : s.2.2 (2 + 1) = 0
      · exact absurd (c2 dz) z
      · exact one 4 (redF_cb (c3 (by omega))) (fun T e _ => by omega) rfl
    · obtain ⟨c1, c2, -, -⟩ := ch (fun z => by omega) (fun z => by omega)
      exact ⟨c1, fun z => absurd (c2 (by omega)) z⟩
/-- the class's first two rows -/
theorem bld_two {Q : Nat → Int} (hz : Zd Q 4) (ht : 2 ≤ topW Q 9) : (bld1 Q).1 = 1 ∧ (bld1 Q).2.2.1 0 = redF Q ∧ (bld2 Q).1 = 1 ∧ (bld2 Q).2.2.1 0 = redF Q ∧ (bld2 Q).2.2.1 1 = redF (derF (redF Q)) ∧ Sim (mTwo Q) (bld2 Q).2 ∧ topW (derF (redF Q)) 5 + 1 = topW Q 9 := by
  obtain ⟨t1, t2, t3, t4⟩ := (topW_sp Q 9).resolve_left (fun z => by omega)
  have t9 := top95 hz
  have e2 : bld1 Q = (1, 1, fun k => if k = 0 then redF Q else fun _ => 0, fun k => if k = 0 then topW Q 5 - 1 else 0) := by
    unfold bld1 addF
    rw [if_neg (fun z => z.elim (fun z => by omega) (fun z => absurd z (by decide)))]
  have r0 : (bld1 Q).2.2.1 0 = redF Q := by rw [e2]; rfl
  have rq := redF_pp hz
  have zr : Zd (redF Q) 4 := rq.symm.zd hz
  have zder : Zd (derF (redF Q)) 4 := fun i hi => by
    unfold derF
    rw [if_neg (by omega)]
  have derv : ∀ i, derF (redF Q) i = ((i : Int) + 1) * redF Q (i + 1) := fun i => by
    unfold derF
    by_cases c : i < 4
    · rw [if_pos c]
    · rw [if_neg c, zr (i + 1) (by omega), Int.mul_zero]
  have b2 : bld2 Q = addF (bld1 Q).2 (derF (redF Q)) := by
    unfold bld2
    rw [r0]
  obtain ⟨h1, -, t5⟩ := mTwo_ok hz ht
  obtain ⟨d, hd⟩ : ∃ d, topW Q 9 = d + 1 := ⟨topW Q 9 - 1, by omega⟩
  have r1 : (mTwo Q).2.1 1 = mder Q d := by
    show mder Q (topW Q 9 - 1) = _
    rw [hd]
    rfl
  have d1 : (mTwo Q).2.2 1 = d - 1 := by
    show topW Q 9 - 2 = d - 1
    omega
  have zP : ∀ i, d < i → Q i = 0 := fun i hi => by
    by_cases c : i < 9
    · exact t4 i (by omega) c
    · exact hz i (by omega)
  have md : ∀ p, mder Q d p = Q (p + 1) * ((p : Int) + 1) := fun p => by
    unfold mder
    by_cases c : p < d
    · rw [if_pos c]
    · rw [if_neg c, zP (p + 1) (by omega)]
      omega
  have pd : Pp (mder Q d) (derF (redF Q)) := by
    obtain ⟨a, b, ha, hb, E⟩ := rq.symm
    refine ⟨a, b, ha, hb, fun i => ?_⟩
    rw [md, derv]
    have := E (i + 1)
    have q1 : a * (Q (i + 1) * ((i : Int) + 1)) = (a * Q (i + 1)) * ((i : Int) + 1) := by grind
    rw [q1, this]
    grind
  have zm : Zd (mder Q d) 4 := pd.symm.zd zder
  have tm : topW (mder Q d) 9 = d := by
    have g := (h1.2.1 1 (by omega)).2
    rw [r1, d1] at g
    rcases topW_sp (mder Q d) 9 with ⟨q1, q2⟩ | ⟨q1, q2, q3, q4⟩
    · exact absurd (q2 (d - 1) (by omega)) g.1
    · by_cases c : topW (mder Q d) 9 - 1 < d - 1
      · exact absurd (q4 (d - 1) (by omega) (by omega)) g.1
      · by_cases c2 : d - 1 < topW (mder Q d) 9 - 1
        · exact absurd (g.2 _ c2) q3
        · omega
  have td : topW (derF (redF Q)) 5 = d := by rw [← pd.top, ← top95 zm, tm]
  have e5 : bld2 Q = (1, 2, fun k => if k = 1 then redF (derF (redF Q)) else (bld1 Q).2.2.1 k, fun k => if k = 1 then topW (derF (redF Q)) 5 - 1 else (bld1 Q).2.2.2 k) := by
    have b1 : (bld1 Q).2.1 = 1 := by rw [e2]
    rw [b2]
    unfold addF
    rw [b1, if_neg (fun z => z.elim (fun z => by omega) (fun z => absurd z (by decide)))]
  refine ⟨by rw [e2], r0, by rw [e5], ?_, ?_, ⟨by rw [e5]; rfl, fun k hk => ?_⟩, by omega⟩
  · rw [e5]
    exact r0
  · rw [e5]
    rfl
  · have hk2 : k < 2 := hk
    rw [e5]
    rcases (show k = 0 ∨ k = 1 by omega) with rfl | rfl
    · refine ⟨?_, ?_⟩
      · show topW Q 9 - 1 = (bld1 Q).2.2.2 0
        rw [e2]
        show topW Q 9 - 1 = topW Q 5 - 1
        omega
      · show Pp Q ((bld1 Q).2.2.1 0)
        rw [r0]
        exact rq.symm
    · refine ⟨?_, ?_⟩
      · show topW Q 9 - 2 = topW (derF (redF Q)) 5 - 1
        omega
      · rw [r1]
        exact pd.trans (redF_pp zder).symm
def cbd (t : Nat) : Int := if t = 5 then 30 else if t = 4 then 120 else if t = 3 then 15300 else 68719476735
def GC (Q : Nat → Int) : Prop := Zd Q 4 ∧ topW Q 9 ≠ 0 ∧ Cb Q (cbd (topW Q 9))
theorem der_cb {Q : Nat → Int} {B : Int} (h : Cb Q B) : Cb (derF (redF Q)) (4 * B) := fun i => by
  have hB : 0 ≤ B := by have := h 0; omega
  unfold derF
  by_cases c : i < 4
  · rw [if_pos c]
    have := mulb (show -4 ≤ (i : Int) + 1 by omega) (show (i : Int) + 1 ≤ 4 by omega) (redF_cb h (i + 1)).1 (redF_cb h (i + 1)).2
    omega
  · rw [if_neg c]
    omega
theorem der_zd {Q : Nat → Int} {B : Int} {n : Nat} (hz : Zd Q 4) (hzt : Zd Q n) (h : Cb Q B) : Cb (derF (redF Q)) ((n : Int) * B) := fun i => by
  have hB : 0 ≤ B := by have := h 0; omega
  have nB : 0 ≤ (n : Int) * B := Int.mul_nonneg (by omega) hB
  unfold derF
  by_cases c : i < 4
  · rw [if_pos c]
    by_cases c2 : i + 1 ≤ n
    · have := mulb (show -(n : Int) ≤ (i : Int) + 1 by omega) (show (i : Int) + 1 ≤ (n : Int) by omega) (redF_cb h (i + 1)).1 (redF_cb h (i + 1)).2
      omega
    · rw [((redF_pp hz).zero (i + 1)).mpr (hzt (i + 1) (by omega)), Int.mul_zero]
      omega
  · rw [if_neg c]
    omega
theorem iv_start {Q : Nat → Int} {t : Nat} (hz : Zd Q 4) (hzt : Zd Q (t - 1)) (ht : t = 2 ∨ t = 3 ∨ t = 4 ∨ t = 5) (h : Cb Q (cbd t)) (h1 : t = 2 → Cb (redF (derF (redF Q))) 1) : Ivt t 0 (redF Q) ∧ Ivt t 1 (redF (derF (redF Q))) := by
  have r0 := redF_cb h
  have dz := redF_cb (der_zd hz hzt h)
  rcases ht with rfl | rfl | rfl | rfl
  · exact ⟨⟨r0, fun z _ => absurd z (by decide), fun z _ => absurd z (by decide)⟩, ⟨h1 rfl, fun z _ => absurd z (by decide), fun z _ => absurd z (by decide)⟩⟩
  · exact ⟨⟨r0, fun z _ => absurd z (by decide), fun z _ => absurd z (by decide)⟩, ⟨dz.up (by decide), fun z _ => absurd z (by decide), fun z _ => absurd z (by decide)⟩⟩
  · exact ⟨⟨r0, fun z _ => absurd z (by decide), fun z _ => absurd z (by decide)⟩, ⟨dz.up (by decide), fun z _ => absurd z (by decide), fun z _ => absurd z (by decide)⟩⟩
  · refine ⟨⟨r0, fun _ z => absurd z (by decide), fun _ z => absurd z (by decide)⟩, ⟨dz.up (by decide), fun _ _ => ?_, fun _ z => absurd z (by decide)⟩⟩
    have k : ∀ i : Nat, i < 4 → ∀ B : Int, B = 30 * ((i : Int) + 1) → -B ≤ derF (redF Q) i ∧ derF (redF Q) i ≤ B := fun i hi B hB => by
      unfold derF
      rw [if_pos hi]
      have r : -30 ≤ redF Q (i + 1) ∧ redF Q (i + 1) ≤ 30 := r0 (i + 1)
      have := mulb (show -((i : Int) + 1) ≤ (i : Int) + 1 by omega) (Int.le_refl _) r.1 r.2
      have e9 : ((i : Int) + 1) * 30 = 30 * ((i : Int) + 1) := Int.mul_comm _ _
      omega
    exact ⟨redF_le (k 0 (by decide) 30 (by decide)), redF_le (k 1 (by decide) 60 (by decide)), redF_le (k 2 (by decide) 90 (by decide))⟩
theorem Rb_num {t k d : Nat} (ht : t = 2 ∨ t = 3 ∨ t = 4 ∨ t = 5) (h : d + k + 1 ≤ t) (hd : 1 ≤ d) : Rb t k * 3125 * 1984 ^ d ≤ 9223372036854775807 ∧ (1 ≤ k → Rb t k ≤ cbd (d + 1)) := by
  rcases ht with rfl | rfl | rfl | rfl
  · obtain ⟨rfl, rfl⟩ : d = 1 ∧ k = 0 := by omega
    decide
  · rcases (show (d = 1 ∧ k = 0) ∨ (d = 1 ∧ k = 1) ∨ (d = 2 ∧ k = 0) by omega) with ⟨rfl, rfl⟩ | ⟨rfl, rfl⟩ | ⟨rfl, rfl⟩ <;> decide
  · rcases (show (d = 1 ∧ k = 0) ∨ (d = 1 ∧ k = 1) ∨ (d = 1 ∧ k = 2) ∨ (d = 2 ∧ k = 0) ∨ (d = 2 ∧ k = 1) ∨ (d = 3 ∧ k = 0) by omega) with ⟨rfl, rfl⟩ | ⟨rfl, rfl⟩ | ⟨rfl, rfl⟩ | ⟨rfl, rfl⟩ | ⟨rfl, rfl⟩ | ⟨rfl, rfl⟩ <;> decide
  · rcases (show (d = 4 ∧ k = 0) ∨ (d = 3 ∧ k = 0) ∨ (d = 3 ∧ k = 1) ∨ (d = 2 ∧ k = 0) ∨ (d = 2 ∧ k = 1) ∨ (d = 2 ∧ k = 2) ∨ (d = 1 ∧ k = 0) ∨ (d = 1 ∧ k = 1) ∨ (d = 1 ∧ k = 2) ∨ (d = 1 ∧ k = 3) by omega) with ⟨rfl, rfl⟩ | ⟨rfl, rfl⟩ | ⟨rfl, rfl⟩ | ⟨rfl, rfl⟩ | ⟨rfl, rfl⟩ | ⟨rfl, rfl⟩ | ⟨rfl, rfl⟩ | ⟨rfl, rfl⟩ | ⟨rfl, rfl⟩ | ⟨rfl, rfl⟩ <;> decide
theorem cbd_le (t : Nat) : 1 ≤ cbd t ∧ cbd t ≤ 68719476735 := by
  unfold cbd
  split
  · decide
  · split
    · decide
    · split <;> decide
theorem topW_zd {Q : Nat → Int} (hz : Zd Q 4) : Zd Q (topW Q 9 - 1) := fun j hj => by
  by_cases c9 : j < 9
  · rcases topW_sp Q 9 with ⟨-, c⟩ | ⟨-, -, -, c⟩
    · exact c j c9
    · exact c j (by omega) c9
  · exact hz j (by omega)
theorem gc_ok {Q : Nat → Int} (h : GC Q) : buildOK Q ∧ WfR (buildF Q) ∧ GC ((buildF Q).2.1 ((buildF Q).1 - 1)) := by
  obtain ⟨hz, c, hb⟩ := h
  have t5 : topW Q 9 ≤ 5 := by
    rcases topW_sp Q 9 with ⟨q, -⟩ | ⟨-, -, q, -⟩
    · omega
    · apply Classical.byContradiction
      intro d
      exact q (hz _ (by omega))
  have sim := sim_all hz Pp.rf
  obtain ⟨l1, l2, l3, l4⟩ := last_row hz Pp.rf c
  obtain ⟨n, hC, hdg, r0, dg0, dec⟩ := mRows_ch hz c
  have hsn := hC.1
  have sm : ∀ i, i ≤ n → (mRows Q).2.2 i + i + 1 ≤ topW Q 9 := by
    intro i
    induction i with
    | zero => intro _; omega
    | succ i ih => intro hi; have := ih (by omega); have := dec i (by omega); omega
  have cb := cbd_le (topW Q 9)
  have rd : redOK Q := fun i _ => by have := hb i; omega
  have zlast : Zd ((buildF Q).2.1 ((buildF Q).1 - 1)) 4 := l2.zd l1
  have tlast : topW ((buildF Q).2.1 ((buildF Q).1 - 1)) 9 = (mRows Q).2.2 ((mRows Q).1 - 1) + 1 := by rw [← l2.top, l3]
  by_cases c1 : topW Q 9 = 1
  · have b1 : bld1 Q = (1, 1, fun k => if k = 0 then redF Q else fun _ => 0, fun k => if k = 0 then topW Q 5 - 1 else 0) := by
      have t9 := top95 hz
      unfold bld1 addF
      rw [if_neg (fun z => z.elim (fun z => by omega) (fun z => absurd z (by decide)))]
    have r1 : (bld1 Q).2.2.1 0 = redF Q := by rw [b1]; rfl
    have zq := topW_zd hz
    rw [c1] at zq
    have td : topW (derF (redF Q)) 5 = 0 := by
      have dz := der_zd (n := 0) hz zq hb
      rw [show ((0 : Nat) : Int) * cbd (topW Q 9) = 0 from Int.zero_mul _] at dz
      rcases topW_sp (derF (redF Q)) 5 with ⟨q, -⟩ | ⟨-, -, q, -⟩
      · exact q
      · have := dz (topW (derF (redF Q)) 5 - 1)
        exact absurd (by omega) q
    have b2 : bld2 Q = (0, (bld1 Q).2) := by
      unfold bld2
      rw [r1]
      unfold addF
      rw [if_pos (Or.inl td)]
    have eb : buildF Q = (1, fun k => if k = 0 then redF Q else fun _ => 0, fun k => if k = 0 then topW Q 5 - 1 else 0) := by
      show (if (bld1 Q).1 = 1 then (if (bld2 Q).1 = 1 then bldL 3 (bld2 Q).2 else (bld2 Q).2) else (bld1 Q).2) = _
      rw [if_pos (by rw [b1]), if_neg (by rw [b2]; exact (show ¬ (0 : Int) = 1 by decide)), b2, b1]
    have rr := redF_cb hb
    have t95 := top95 hz
    have drv := der_cb hb
    refine ⟨⟨rd, fun _ => ⟨fun i _ => ?_, fun z => ?_⟩⟩, ?_, zlast, by rw [tlast]; omega, ?_⟩
    · rw [r1]
      have := drv i
      omega
    · rw [b2] at z
      exact absurd z (show ¬ (0 : Int) = 1 by decide)
    · rw [eb]
      refine ⟨show 1 ≤ 5 by decide, fun k hk => ?_⟩
      have k0 : k = 0 := Nat.lt_one_iff.mp hk
      subst k0
      show okR (redF Q) (topW Q 5 - 1)
      rw [← t95, c1]
      have q0 := (redF_pp hz).symm.zd zq
      exact ⟨by decide, q0, 68719476735, by decide, by decide, fun i _ => by have := rr i; omega⟩
    · rw [tlast, show (mRows Q).2.2 ((mRows Q).1 - 1) + 1 = 1 by have := sm ((mRows Q).1 - 1) (by omega); omega, eb]
      show Cb (redF Q) (cbd 1)
      rw [c1] at rr
      exact rr
  · obtain ⟨x1, x2, x3, x4, x5, x6, x7⟩ := bld_two hz (show 2 ≤ topW Q 9 by omega)
    have ht : topW Q 9 = 2 ∨ topW Q 9 = 3 ∨ topW Q 9 = 4 ∨ topW Q 9 = 5 := by omega
    obtain ⟨m1, -, -⟩ := mTwo_ok hz (show 2 ≤ topW Q 9 by omega)
    have d0 : (mTwo Q).2.2 0 = topW Q 9 - 1 := rfl
    have d1 : (mTwo Q).2.2 1 = topW Q 9 - 2 := rfl
    have ivs := iv_start hz (topW_zd hz) ht hb (fun z => redF_const (by omega))
    have key := cl (Iv := Ivt (topW Q 9)) (tt := topW Q 9) (fun s t m a b c d e f g i => stepT ht s t m a b c d e f g i) 3 (mTwo Q) (bld2 Q).2 0 m1 x6 (by show (mTwo Q).2.2 1 ≤ 3; omega) (by omega) (by
      rw [x4, x5]
      have zder : Zd (derF (redF Q)) 4 := fun i hi => by
        unfold derF
        rw [if_neg (by omega)]
      exact (redF_pp zder).symm) (by omega) (fun k hk => by
      rcases (show k = 0 ∨ k = 1 by omega) with rfl | rfl
      · rw [x4]; exact ivs.1
      · rw [x5]; exact ivs.2) (fun k k1 hk dk => by
      have ek : k = 1 := by omega
      subst ek
      rw [x5]
      exact redF_const (by omega))
    have eb : buildF Q = bldL 3 (bld2 Q).2 := by
      show (if (bld1 Q).1 = 1 then (if (bld2 Q).1 = 1 then bldL 3 (bld2 Q).2 else (bld2 Q).2) else (bld1 Q).2) = _
      rw [if_pos x1, if_pos x3]
    rw [← eb] at key
    have drv := der_cb hb
    refine ⟨⟨rd, fun _ => ⟨fun i _ => ?_, fun _ => key.1⟩⟩, ⟨buildF_le Q, fun k hk => ?_⟩, zlast, by rw [tlast]; omega, ?_⟩
    · rw [x2]
      have := drv i
      omega
    · have hk2 : k < (mRows Q).1 := by rw [sim.1]; exact hk
      obtain ⟨e1, e2⟩ := sim.2 k hk2
      obtain ⟨g1, g2⟩ := hdg k (by omega)
      have smk := sm k (by omega)
      obtain ⟨k1, k2⟩ := key.2 k hk
      rw [← e1] at k2 ⊢
      refine ⟨g1, e2.zd g2, ?_⟩
      by_cases dz : (mRows Q).2.2 k = 0
      · by_cases kz : 1 ≤ k
        · refine ⟨1, by decide, by rw [dz]; decide, fun i _ => ?_⟩
          exact k2 kz dz i
        · have := dg0
          have k00 : k = 0 := by omega
          subst k00
          omega
      · have rb := (Rb1 (topW Q 9) k).1
        exact ⟨Rb (topW Q 9) k, by omega, (Rb_num ht smk (by omega)).1, fun i _ => k1.1 i⟩
    · rw [tlast]
      have hl : (buildF Q).1 - 1 < (buildF Q).1 := by rw [← sim.1]; omega
      obtain ⟨k1, k2⟩ := key.2 _ hl
      have e1 := (sim.2 ((mRows Q).1 - 1) (by omega)).1
      have smk := sm ((mRows Q).1 - 1) (by omega)
      have r2 := rows_two hz (show 2 ≤ topW Q 9 by omega)
      rw [← sim.1] at k1 k2 ⊢
      rw [← e1] at k2
      by_cases dz : (mRows Q).2.2 ((mRows Q).1 - 1) = 0
      · exact (k2 (by omega) dz).up (cbd_le _).1
      · exact k1.1.up ((Rb_num ht smk (by omega)).2 (by omega))
theorem gc_P {P : Nat → Int} (hP : WfP P) (c : topW P 9 ≠ 0) : GC P := by
  refine ⟨hP.zd, c, fun i => ?_⟩
  have h1 : (30 : Int) ≤ cbd (topW P 9) := by
    unfold cbd
    split
    · decide
    · split
      · decide
      · split <;> decide
  have := hP i
  omega
theorem zero_build {P : Nat → Int} (hz : Zd P 4) (c : topW P 9 = 0) : (bld1 P).1 = 0 ∧ (buildF P).1 = 0 := by
  have t := top95 hz
  have b1 : bld1 P = (0, 0, fun _ _ => 0, fun _ => 0) := by
    unfold bld1 addF
    rw [if_pos (Or.inl (by omega))]
  refine ⟨by rw [b1], ?_⟩
  show (if (bld1 P).1 = 1 then (if (bld2 P).1 = 1 then bldL 3 (bld2 P).2 else (bld2 P).2) else (bld1 P).2).1 = 0
  rw [b1, if_neg (show ¬ (0 : Int) = 1 by decide)]
theorem goodB : GoodB := by
  intro P hP
  by_cases c : topW P 9 = 0
  · obtain ⟨z1, z2⟩ := zero_build hP.zd c
    refine ⟨⟨fun i _ => ?_, fun z => by rw [z1] at z; exact absurd z (by decide)⟩, by rw [z2]; omega, fun k hk => by rw [z2] at hk; omega⟩
    have := hP i
    omega
  · have := gc_ok (gc_P hP c)
    exact ⟨this.1, this.2.1⟩
theorem cnt_ok : ∀ (n : Nat) (Q : Nat → Int), GC Q → cntOK n (buildF Q)
  | 0, _, _ => trivial
  | n + 1, Q, h => fun _ => by
    obtain ⟨g1, g2, g3⟩ := gc_ok h
    exact ⟨g2, (gc_ok g3).1, cnt_ok n _ g3⟩
theorem goodC : ∀ P, WfP P → cntOK 5 (buildF P) := by
  intro P hP
  by_cases c : topW P 9 = 0
  · obtain ⟨-, z2⟩ := zero_build hP.zd c
    show 1 < (buildF P).1 → _
    intro h
    omega
  · exact cnt_ok 5 P (gc_P hP c)
theorem goodA : GoodA := ⟨goodB, goodC, goodM, goodE, goodF⟩
