/-! The reference's rows, all of them. -/
theorem topW_sp (f : Nat → Int) : ∀ n : Nat, (topW f n = 0 ∧ ∀ i, i < n → f i = 0) ∨ (0 < topW f n ∧ topW f n ≤ n ∧ f (topW f n - 1) ≠ 0 ∧ ∀ i, topW f n ≤ i → i < n → f i = 0)
  | 0 => Or.inl ⟨rfl, fun i hi => absurd hi (Nat.not_lt_zero i)⟩
  | n + 1 => by
    simp only [topW]
    by_cases c : f n = 0
    · rw [if_neg (fun z => z c)]
      rcases topW_sp f n with ⟨h1, h2⟩ | ⟨h1, h2, h3, h4⟩
      · refine Or.inl ⟨h1, fun i hi => ?_⟩
        by_cases e : i = n
        · rw [e]; exact c
        · exact h2 i (by omega)
      · refine Or.inr ⟨h1, by omega, h3, fun i a b => ?_⟩
        by_cases e : i = n
        · rw [e]; exact c
        · exact h4 i a (by omega)
    · rw [if_pos c]
      exact Or.inr ⟨by omega, Nat.le_refl _, by rw [Nat.add_sub_cancel]; exact c, fun i a b => by omega⟩
/-- rows so far: m + 2 of them -/
def MI (s : RS) (m : Nat) : Prop := s.1 = m + 2 ∧ (∀ i, i ≤ m + 1 → s.2.2 i ≤ 4 ∧ s.2.1 i (s.2.2 i) ≠ 0 ∧ Zd (s.2.1 i) (s.2.2 i)) ∧ (∀ i, i ≤ m → s.2.2 (i + 1) < s.2.2 i) ∧ ∃ (q : Nat → Rat → Rat) (al be : Nat → Rat), ∀ i, i + 2 ≤ m + 1 → 0 < al i ∧ 0 < be i ∧ PL (q i) ∧ ∀ x, al i * pv (s.2.1 i) x = q i x * pv (s.2.1 (i + 1)) x - be i * pv (s.2.1 (i + 2)) x
/-- the last division leaves nothing -/
def ME (s : RS) (m : Nat) : Prop := ∃ (a : Rat) (q : Rat → Rat), 0 < a ∧ PL q ∧ ∀ x, a * pv (s.2.1 m) x = q x * pv (s.2.1 (m + 1)) x
theorem mdivR_ok {s : RS} {m : Nat} (h : MI s m) : (∃ (a : Rat) (q : Rat → Rat), 0 < a ∧ PL q ∧ ∀ z, a * pv (s.2.1 m) z = q z * pv (s.2.1 (m + 1)) z - 1 * pv (mdivR s) z) ∧ ∀ i, s.2.2 (m + 1) ≤ i → mdivR s i = 0 := by
  obtain ⟨h1, h2, h3, -⟩ := h
  obtain ⟨a4, a5, a6⟩ := h2 m (by omega)
  obtain ⟨b4, b5, b6⟩ := h2 (m + 1) (by omega)
  have hd := h3 m (Nat.le_refl _)
  obtain ⟨⟨a, q, p1, p2, p3⟩, p4⟩ := mdiv_ok b5 b6 (s.2.2 m + 1 - s.2.2 (m + 1)) (s.2.2 m) (s.2.1 m) (by omega) a4 (fun i hi => a6 i (by omega))
  have e : ∀ i, mdivR s i = - mdivL (s.2.1 (m + 1)) (s.2.2 (m + 1)) (s.2.2 m + 1 - s.2.2 (m + 1)) (s.2.2 m) (s.2.1 m) i := fun i => by
    unfold mdivR
    rw [h1, show m + 2 - 1 = m + 1 by omega, show m + 2 - 2 = m by omega]
  refine ⟨⟨a, q, p1, p2, fun z => ?_⟩, fun i hi => by rw [e, p4 i hi]; rfl⟩
  have e2 : pv (mdivR s) z = - pv (mdivL (s.2.1 (m + 1)) (s.2.2 (m + 1)) (s.2.2 m + 1 - s.2.2 (m + 1)) (s.2.2 m) (s.2.1 m)) z := by
    unfold pv
    rw [e 0, e 1, e 2, e 3, e 4]
    simp only [Rat.intCast_neg]
    grind
  rw [e2, p3 z]
  grind
theorem MI.next {s : RS} {m : Nat} (h : MI s m) (hR : topW (mdivR s) 9 ≠ 0) : MI (mNext s) (m + 1) := by
  obtain ⟨⟨a, q0, p1, p2, p3⟩, p4⟩ := mdivR_ok h
  obtain ⟨h1, h2, h3, q, al, be, H⟩ := h
  obtain ⟨b4, b5, b6⟩ := h2 (m + 1) (by omega)
  have ht := (topW_sp (mdivR s) 9).resolve_left (fun z => hR z.1)
  obtain ⟨t1, t2, t3, t4⟩ := ht
  have tl : topW (mdivR s) 9 - 1 < s.2.2 (m + 1) := by
    apply Classical.byContradiction
    intro c
    exact t3 (p4 _ (by omega))
  have r0 : ∀ i, i ≠ m + 2 → (mNext s).2.1 i = s.2.1 i := fun i hi => by
    show (if i = s.1 then mdivR s else s.2.1 i) = s.2.1 i
    rw [if_neg (by omega)]
  have d0 : ∀ i, i ≠ m + 2 → (mNext s).2.2 i = s.2.2 i := fun i hi => by
    show (if i = s.1 then topW (mdivR s) 9 - 1 else s.2.2 i) = s.2.2 i
    rw [if_neg (by omega)]
  have r1 : (mNext s).2.1 (m + 2) = mdivR s := by
    show (if m + 2 = s.1 then mdivR s else s.2.1 (m + 2)) = _
    rw [if_pos h1.symm]
  have d1 : (mNext s).2.2 (m + 2) = topW (mdivR s) 9 - 1 := by
    show (if m + 2 = s.1 then topW (mdivR s) 9 - 1 else s.2.2 (m + 2)) = _
    rw [if_pos h1.symm]
  refine ⟨by show s.1 + 1 = m + 1 + 2; omega, fun i hi => ?_, fun i hi => ?_, fun i => if i = m then q0 else q i, fun i => if i = m then a else al i, fun i => if i = m then 1 else be i, fun i hi => ?_⟩
  · by_cases e : i = m + 2
    · rw [e, r1, d1]
      refine ⟨by omega, t3, fun j hj => ?_⟩
      by_cases c : j < 9
      · exact t4 j (by omega) c
      · exact p4 j (by omega)
    · rw [r0 i e, d0 i e]
      exact h2 i (by omega)
  · by_cases e : i = m + 1
    · rw [e, d1, d0 (m + 1) (by omega)]
      exact tl
    · rw [d0 (i + 1) (by omega), d0 i (by omega)]
      exact h3 i (by omega)
  · by_cases e : i = m
    · rw [e, r1, r0 m (by omega), r0 (m + 1) (by omega)]
      simp only [if_pos]
      exact ⟨p1, by decide, p2, p3⟩
    · rw [r0 i (by omega), r0 (i + 1) (by omega), r0 (i + 2) (by omega)]
      simp only [if_neg e]
      exact H i (by omega)
theorem MI.stop {s : RS} {m : Nat} (h : MI s m) (hR : s.2.2 (m + 1) = 0 ∨ topW (mdivR s) 9 = 0) : ME s m := by
  rcases hR with z | z
  · obtain ⟨h1, h2, -⟩ := h
    obtain ⟨b4, b5, b6⟩ := h2 (m + 1) (by omega)
    rw [z] at b5 b6
    have e : ∀ x, pv (s.2.1 (m + 1)) x = (s.2.1 (m + 1) 0 : Rat) := fun x => by
      unfold pv
      rw [b6 1 (by omega), b6 2 (by omega), b6 3 (by omega), b6 4 (by omega), i0]
      grind
    have nz : (s.2.1 (m + 1) 0 : Rat) ≠ 0 := fun c => b5 (Rat.intCast_eq_zero_iff.mp c)
    refine ⟨1, fun x => ((s.2.1 (m + 1) 0 : Rat))⁻¹ * pv (s.2.1 m) x, by decide, (PL.const _).mul (PL_pv _), fun x => ?_⟩
    rw [e x]
    have ci := Rat.mul_inv_cancel _ nz
    generalize ((s.2.1 (m + 1) 0 : Rat))⁻¹ = r at *
    generalize (s.2.1 (m + 1) 0 : Rat) = c at *
    have : r * pv (s.2.1 m) x * c = (c * r) * pv (s.2.1 m) x := by grind
    rw [this, ci]
  · obtain ⟨⟨a, q0, p1, p2, p3⟩, p4⟩ := mdivR_ok h
    refine ⟨a, q0, p1, p2, fun x => ?_⟩
    have h9 := ((topW_sp (mdivR s) 9).resolve_right (fun y => by omega)).2
    have e : pv (mdivR s) x = 0 := by
      unfold pv
      rw [h9 0 (by omega), h9 1 (by omega), h9 2 (by omega), h9 3 (by omega), h9 4 (by omega), i0]
      grind
    rw [p3 x, e]
    grind
/-- the loop comes to the end; the rows that were there stay -/
theorem mLoop_ok : ∀ (fuel : Nat) (s : RS) (m : Nat), MI s m → s.2.2 (m + 1) + 1 ≤ fuel → ∃ n, m ≤ n ∧ MI (mLoop fuel s) n ∧ ME (mLoop fuel s) n ∧ ∀ i, i ≤ m + 1 → (mLoop fuel s).2.1 i = s.2.1 i ∧ (mLoop fuel s).2.2 i = s.2.2 i
  | 0, _, _, _, h => absurd h (by omega)
  | fuel + 1, s, m, h, hf => by
    simp only [mLoop]
    have e1 : s.1 - 1 = m + 1 := by have := h.1; omega
    rw [e1]
    by_cases c : s.2.2 (m + 1) = 0 ∨ topW (mdivR s) 9 = 0
    · rw [if_pos c]
      exact ⟨m, Nat.le_refl _, h, h.stop c, fun i _ => ⟨rfl, rfl⟩⟩
    · rw [if_neg c]
      have hn := h.next (fun z => c (Or.inr z))
      have hd := hn.2.2.1 (m + 1) (Nat.le_refl _)
      have s1 := h.1
      have k1 : ∀ i, i ≤ m + 1 → (mNext s).2.1 i = s.2.1 i ∧ (mNext s).2.2 i = s.2.2 i := fun i hi => ⟨by show (if i = s.1 then mdivR s else s.2.1 i) = _; rw [if_neg (by omega)], by show (if i = s.1 then topW (mdivR s) 9 - 1 else s.2.2 i) = _; rw [if_neg (by omega)]⟩
      have hd2 := (k1 (m + 1) (Nat.le_refl _)).2
      obtain ⟨n, n1, n2, n3, n4⟩ := mLoop_ok fuel (mNext s) (m + 1) hn (by omega)
      exact ⟨n, by omega, n2, n3, fun i hi => ⟨(n4 i (by omega)).1.trans (k1 i hi).1, (n4 i (by omega)).2.trans (k1 i hi).2⟩⟩
theorem dp_pv {f g : Nat → Int} (h : g 0 = f 1 ∧ g 1 = 2 * f 2 ∧ g 2 = 3 * f 3 ∧ g 3 = 4 * f 4 ∧ g 4 = 0) : DP (pv f) (pv g) := by
  intro B hB
  obtain ⟨h0, h1, h2, h3, h4⟩ := h
  obtain ⟨K, K0, K1, -⟩ := (PL_pv f).bl hB
  obtain ⟨a, a0, a1, a2⟩ := rq_abs (f 2 : Rat)
  obtain ⟨b, b0, b1, b2⟩ := rq_abs (f 3 : Rat)
  obtain ⟨c, c0, c1, c2⟩ := rq_abs (f 4 : Rat)
  have bb : 0 ≤ b * (3 * B) := Rat.mul_nonneg b0 (by grind)
  have B2 : 0 ≤ B * B := Rat.mul_nonneg hB hB
  have cb : 0 ≤ c * (6 * (B * B)) := Rat.mul_nonneg c0 (by grind)
  obtain ⟨E0, hE0⟩ : ∃ E0, E0 = a + b * (3 * B) + c * (6 * (B * B)) := ⟨_, rfl⟩
  have e00 : 0 ≤ E0 := by grind
  refine ⟨2 * (K * E0), Rat.mul_nonneg (by decide) (Rat.mul_nonneg K0 e00), fun z w z1 z2 z3 => ?_⟩
  obtain ⟨E, hE⟩ : ∃ E : Rat, E = (f 2 : Rat) + (f 3 : Rat) * (2 * z + w) + (f 4 : Rat) * (3 * (z * z) + 2 * (z * w) + w * w) := ⟨_, rfl⟩
  have zz := rq_mul (a := z) (b := z) (A := B) (B := B) z1 (by grind) z1 (by grind)
  have zw := rq_mul (a := z) (b := w) (A := B) (B := B) z1 (by grind) (by grind) z3
  have ww := rq_mul (a := w) (b := w) (A := B) (B := B) (by grind) z3 (by grind) z3
  have m1 := rq_mul (a := (f 3 : Rat)) (b := 2 * z + w) (A := b) (B := 3 * B) b1 b2 (by grind) (by grind)
  have m2 := rq_mul (a := (f 4 : Rat)) (b := 3 * (z * z) + 2 * (z * w) + w * w) (A := c) (B := 6 * (B * B)) c1 c2 (by grind) (by grind)
  have eb : -E0 ≤ E ∧ E ≤ E0 := by constructor <;> grind
  have kb := K1 z z1 (by grind)
  have ke := rq_mul kb.1 kb.2 eb.1 eb.2
  have id : pv f w = pv f z + (w - z) * pv g z + (w - z) * (w - z) * E := by
    rw [hE]
    unfold pv
    rw [h0, h1, h2, h3, h4, i0]
    simp only [Rat.intCast_mul]
    have e2 : ((2 : Int) : Rat) = 2 := rfl
    have e3 : ((3 : Int) : Rat) = 3 := rfl
    have e4 : ((4 : Int) : Rat) = 4 := rfl
    rw [e2, e3, e4]
    grind
  generalize pv f w = Pw at *
  generalize pv f z = Pz at *
  generalize pv g z = D at *
  have t2 : 0 ≤ (w - z) * (w - z) := rq_sq _
  have sq := rq_sq (D + (w - z) * E)
  have t3 : 0 ≤ (w - z) * (w - z) * ((D + (w - z) * E) * (D + (w - z) * E)) := Rat.mul_nonneg t2 sq
  have t4 : (w - z) * (w - z) * (-(K * E0)) ≤ (w - z) * (w - z) * (Pz * E) := Rat.mul_le_mul_of_nonneg_left ke.1 t2
  rw [id]
  grind
theorem mTwo_ok {P : Nat → Int} (hz : Zd P 4) (ht : 2 ≤ topW P 9) : MI (mTwo P) 0 ∧ DP (pv P) (pv ((mTwo P).2.1 1)) ∧ topW P 9 ≤ 5 := by
  obtain ⟨t1, t2, t3, t4⟩ := (topW_sp P 9).resolve_left (fun z => by omega)
  have t5 : topW P 9 ≤ 5 := by
    apply Classical.byContradiction
    intro c
    exact t3 (hz _ (by omega))
  obtain ⟨d, hd⟩ : ∃ d, topW P 9 = d + 1 := ⟨topW P 9 - 1, by omega⟩
  have r0 : (mTwo P).2.1 0 = P := rfl
  have r1 : (mTwo P).2.1 1 = mder P d := by
    show mder P (topW P 9 - 1) = _
    rw [hd]
    rfl
  have d0 : (mTwo P).2.2 0 = d := by
    show topW P 9 - 1 = d
    omega
  have d1 : (mTwo P).2.2 1 = d - 1 := by
    show topW P 9 - 2 = d - 1
    omega
  have zP : Zd P d := fun j hj => by
    by_cases c : j < 9
    · exact t4 j (by omega) c
    · exact hz j (by omega)
  rw [hd, Nat.add_sub_cancel] at t3
  have md : ∀ p, mder P d p = P (p + 1) * ((p : Int) + 1) := fun p => by
    unfold mder
    by_cases c : p < d
    · rw [if_pos c]
    · rw [if_neg c, zP (p + 1) (by omega)]
      omega
  refine ⟨⟨rfl, fun i hi => ?_, fun i hi => ?_, fun _ _ => 0, fun _ => 0, fun _ => 0, fun i hi => by omega⟩, ?_, t5⟩
  · rcases (show i = 0 ∨ i = 1 by omega) with rfl | rfl
    · rw [r0, d0]
      exact ⟨by omega, t3, zP⟩
    · rw [r1, d1]
      refine ⟨by omega, ?_, fun j hj => ?_⟩
      · rw [md, show d - 1 + 1 = d by omega]
        intro z
        rcases Int.mul_eq_zero.mp z with z | z
        · exact t3 z
        · omega
      · rw [md, zP (j + 1) (by omega)]
        omega
  · rw [show i = 0 by omega, d0, d1]
    omega
  · rw [r1]
    refine dp_pv ⟨?_, ?_, ?_, ?_, ?_⟩
    · rw [md]; show P 1 * (0 + 1) = P 1; omega
    · rw [md]; show P 2 * (1 + 1) = 2 * P 2; omega
    · rw [md]; show P 3 * (2 + 1) = 3 * P 3; omega
    · rw [md]; show P 4 * (3 + 1) = 4 * P 4; omega
    · rw [md, hz 5 (by omega)]; rfl
/-- the reference's rows of a polynomial that is not 0 -/
theorem mRows_ch {P : Nat → Int} (hz : Zd P 4) (ht : topW P 9 ≠ 0) : ∃ n, ChR (mRows P) n ∧ (∀ i, i ≤ n → (mRows P).2.2 i ≤ 4 ∧ Zd ((mRows P).2.1 i) ((mRows P).2.2 i)) ∧ (mRows P).2.1 0 = P ∧ (mRows P).2.2 0 = topW P 9 - 1 ∧ (∀ i, i < n → (mRows P).2.2 (i + 1) < (mRows P).2.2 i) := by
  obtain ⟨t1, t2, t3, t4⟩ := (topW_sp P 9).resolve_left (fun z => ht z.1)
  by_cases c : topW P 9 = 1
  · have e : mRows P = (1, fun _ => P, fun _ => 0) := by
      unfold mRows
      rw [if_neg ht, if_pos c]
    rw [e]
    rw [c] at t3 t4
    have zP : Zd P 0 := fun j hj => by
      by_cases c : j < 9
      · exact t4 j (by omega) c
      · exact hz j (by omega)
    exact ⟨0, ⟨rfl, fun i hi => t3, ⟨fun _ _ => 0, fun _ => 0, fun _ => 0, fun i hi => by omega, fun hn => absurd hn (Nat.lt_irrefl _)⟩, fun hn => absurd hn (Nat.lt_irrefl _)⟩, fun i hi => ⟨Nat.zero_le 4, zP⟩, rfl, by rw [c], fun i hi => absurd hi (Nat.not_lt_zero i)⟩
  · have e : mRows P = mLoop 4 (mTwo P) := by
      unfold mRows
      rw [if_neg ht, if_neg c]
    rw [e]
    obtain ⟨h1, h2, h3⟩ := mTwo_ok hz (by omega)
    have d1 : (mTwo P).2.2 1 = topW P 9 - 2 := rfl
    obtain ⟨n, -, n2, n3, n4⟩ := mLoop_ok 4 (mTwo P) 0 h1 (by rw [d1]; omega)
    have k0 := n4 0 (by omega)
    have k1 := n4 1 (by omega)
    generalize mLoop 4 (mTwo P) = s at *
    obtain ⟨g1, g2, g3, q, al, be, g4⟩ := n2
    obtain ⟨a, q0, a1, a2, a3⟩ := n3
    have pe : ∀ i, i ≤ n + 1 → ∀ x, pR s i x = pv (s.2.1 i) x := fun i hi x => hoR_pv (g2 i hi).1 (g2 i hi).2.2 x
    refine ⟨n + 1, ⟨g1, fun i hi => (g2 i hi).2.1, ⟨fun i => if i = n then q0 else q i, fun i => if i = n then a else al i, be, fun i hi => ?_, fun _ => ?_⟩, fun _ => ?_⟩, fun i hi => ⟨(g2 i hi).1, (g2 i hi).2.2⟩, k0.1, k0.2, fun i hi => g3 i (by omega)⟩
    · simp only [if_neg (show ¬ i = n by omega)]
      obtain ⟨b1, b2, b3, b4⟩ := g4 i (by omega)
      refine ⟨b1, b2, b3, fun x => ?_⟩
      rw [pe i (by omega), pe (i + 1) (by omega), pe (i + 2) (by omega)]
      exact b4 x
    · rw [show n + 1 - 1 = n by omega]
      simp only [if_pos]
      refine ⟨a1, a2, fun x => ?_⟩
      rw [pe n (by omega), pe (n + 1) (by omega)]
      exact a3 x
    · have e0 : pR s 0 = pv P := funext fun x => by rw [pe 0 (by omega), k0.1]; rfl
      have e1 : pR s 1 = pv ((mTwo P).2.1 1) := funext fun x => by rw [pe 1 (by omega), k1.1]
      rw [e0, e1]
      exact h2
