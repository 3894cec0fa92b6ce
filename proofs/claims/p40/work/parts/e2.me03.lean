/-! The chain of a row of coefficients, its last row; levels. -/
theorem hh_pl {n : Nat} {q : Nat → Rat → Rat} {al be : Nat → Rat} (H : ∀ i, i + 2 ≤ n → PL (q i)) (Hn : 0 < n → PL (q (n - 1))) : ∀ k : Nat, k ≤ n → PL (hhF n q al be k)
  | 0, _ => PL.const 1
  | 1, hk => (PL.const _).mul (Hn (by omega))
  | k + 2, hk => (PL.const _).mul (((H (n - (k + 2)) (by omega)).mul (hh_pl H Hn (k + 1) (by omega))).add ((PL.const _).mul (hh_pl H Hn k (by omega))))
theorem mRows_1 {Q : Nat → Int} (hz : Zd Q 4) (ht : topW Q 9 ≠ 0) (h1 : topW Q 9 ≠ 1) : (mRows Q).2.1 1 = mder Q (topW Q 9 - 1) ∧ 2 ≤ (mRows Q).1 := by
  have e : mRows Q = mLoop 4 (mTwo Q) := by
    unfold mRows
    rw [if_neg ht, if_neg h1]
  rw [e]
  obtain ⟨g1, g2, g3⟩ := mTwo_ok hz (by omega)
  have d1 : (mTwo Q).2.2 1 = topW Q 9 - 2 := rfl
  obtain ⟨n, -, n2, n3, n4⟩ := mLoop_ok 4 (mTwo Q) 0 g1 (by rw [d1]; omega)
  exact ⟨(n4 1 (by omega)).1, mLoop_ge 4 (mTwo Q)⟩
theorem mder_drv {Q : Nat → Int} {d : Nat} (hz : Zd Q d) : mder Q d = drv Q := funext fun p => by
  unfold mder drv
  by_cases c : p < d
  · rw [if_pos c]
  · rw [if_neg c, hz (p + 1) (by omega), Int.zero_mul]
theorem Pp.fac {f g : Nat → Int} (h : Pp f g) : ∃ c : Rat, ∀ x, pv f x = c * pv g x := by
  obtain ⟨a, b, a0, b0, e⟩ := h
  have ar : (0 : Rat) < (a : Rat) := Rat.intCast_pos.mpr a0
  have ai : (a : Rat) * (a : Rat)⁻¹ = 1 := Rat.mul_inv_cancel _ (by grind)
  have k : ∀ i, (f i : Rat) = (a : Rat)⁻¹ * (b : Rat) * (g i : Rat) := fun i => by
    have e1 : (a : Rat) * (f i : Rat) = (b : Rat) * (g i : Rat) := by
      rw [← Rat.intCast_mul, ← Rat.intCast_mul, e i]
    generalize (a : Rat)⁻¹ = r at *
    have e2 : (f i : Rat) = (a : Rat) * r * (f i : Rat) := by rw [ai]; grind
    rw [e2]
    have e3 : (a : Rat) * r * (f i : Rat) = r * ((a : Rat) * (f i : Rat)) := by grind
    rw [e3, e1]
    grind
  refine ⟨(a : Rat)⁻¹ * (b : Rat), fun x => ?_⟩
  unfold pv
  rw [k 0, k 1, k 2, k 3, k 4]
  generalize (a : Rat)⁻¹ * (b : Rat) = c
  grind
theorem topW_eq {f : Nat → Int} {d : Nat} (hd : d < 9) (h : f d ≠ 0) (hz : Zd f d) : topW f 9 = d + 1 := by
  rcases topW_sp f 9 with ⟨-, q⟩ | ⟨q1, q2, q3, q4⟩
  · exact absurd (q d hd) h
  · by_cases c1 : topW f 9 - 1 ≤ d
    · by_cases c2 : d < topW f 9
      · omega
      · exact absurd (q4 d (by omega) hd) h
    · exact absurd (hz _ (by omega)) q3
theorem chain_of {Q : Nat → Int} (hz : Zd Q 4) (ht : topW Q 9 ≠ 0) : ∃ (n : Nat) (g : Rat → Rat) (h : Nat → Rat → Rat), Cn (pv Q) (pv (drv Q)) g h n ∧ (buildF Q).1 = n + 1 ∧ (topW Q 9 ≠ 1 → 0 < n) ∧ (∀ x : Int, ∃ t0 : Rat, 0 < t0 ∧ ∀ t, 0 < t → t < t0 → cV (sgB h ((x : Rat) + t)) n = cUp (buildF Q) x 0) ∧ (0 < n → Zd ((buildF Q).2.1 n) 4 ∧ topW ((buildF Q).2.1 n) 9 ≠ 0 ∧ ∃ c : Rat, ∀ x, g x = c * pv ((buildF Q).2.1 n) x) := by
  have sim := sim_all hz (Pp.rf (f := Q))
  obtain ⟨n, hC, hz2, r0, d0, hf⟩ := mRows_ch hz ht
  have hn : (buildF Q).1 = n + 1 := sim.1.symm.trans hC.1
  obtain ⟨hs, hl, ⟨q, al, be, H, Hn⟩, hD⟩ := id hC
  have p3 : ∀ i, i ≤ n → ∀ x, pR (mRows Q) i x = pv ((mRows Q).2.1 i) x := fun i hi x => hoR_pv (hz2 i hi).1 (hz2 i hi).2 x
  have hh := hh_ok (B := 0) (n := n) (p := pR (mRows Q)) (q := q) (al := al) (be := be) (fun i hi => ⟨(H i hi).1, (H i hi).2.1, (H i hi).2.2.1.bl Rat.le_refl, (H i hi).2.2.2⟩) (fun hn => ⟨(Hn hn).1, (Hn hn).2.1.bl Rat.le_refl, (Hn hn).2.2⟩)
  have hi : ∀ i, i ≤ n → ∀ x, pR (mRows Q) i x = pR (mRows Q) n x * hhF n q al be (n - i) x := fun i hi x => by
    have := ((hh (n - i)).1 (by omega)).2 x
    rw [show n - (n - i) = i by omega] at this
    exact this
  have n1 : topW Q 9 ≠ 1 → 0 < n := fun h => by
    have := (mRows_1 hz ht h).2
    omega
  have zQ : Zd Q (topW Q 9 - 1) := fun i hi => topW_zd hz i hi
  refine ⟨n, pv ((mRows Q).2.1 n), fun i => hhF n q al be (n - i), ⟨⟨PL_pv _, PL_pv _, drv_dd hz⟩, PL_pv _, fun i hi => hh_pl (fun j hj => (H j hj).2.2.1) (fun h => (Hn h).2.1) (n - i) (by omega), fun x => ?_, fun hn0 x => ?_, fun x => ?_, ⟨q, al, be, fun i hi2 => ?_⟩, fun u v huv => ?_⟩, hn, n1, fun x => ?_, fun hn0 => ?_⟩
  · have := hi 0 (by omega) x
    rw [p3 0 (by omega), r0, p3 n (Nat.le_refl _)] at this
    exact this
  · have h1 : topW Q 9 ≠ 1 := fun c => by
      have e : mRows Q = (1, fun _ => Q, fun _ => 0) := by
        unfold mRows
        rw [if_neg ht, if_pos c]
      have e2 : (mRows Q).1 = 1 := by rw [e]
      omega
    have := hi 1 (by omega) x
    rw [p3 1 (by omega), (mRows_1 hz ht h1).1, mder_drv zQ, p3 n (Nat.le_refl _)] at this
    exact this
  · show hhF n q al be (n - n) x = 1
    rw [Nat.sub_self]
    rfl
  · obtain ⟨a, b, c, -⟩ := H i hi2
    refine ⟨a, b, c, fun x => ?_⟩
    have ai : al i * (al i)⁻¹ = 1 := Rat.mul_inv_cancel _ (by grind)
    have e : hhF n q al be (n - i) x = (al i)⁻¹ * (q i x * hhF n q al be (n - (i + 1)) x + -(be i) * hhF n q al be (n - (i + 2)) x) := by
      obtain ⟨k, hk⟩ : ∃ k, n - i = k + 2 := ⟨n - i - 2, by omega⟩
      rw [hk, show n - (i + 1) = k + 1 by omega, show n - (i + 2) = k by omega]
      show (al (n - (k + 2)))⁻¹ * (q (n - (k + 2)) x * hhF n q al be (k + 1) x + -(be (n - (k + 2))) * hhF n q al be k x) = _
      rw [show n - (k + 2) = i by omega]
    show al i * hhF n q al be (n - i) x = q i x * hhF n q al be (n - (i + 1)) x - be i * hhF n q al be (n - (i + 2)) x
    rw [e]
    generalize (al i)⁻¹ = r at *
    have : al i * (r * (q i x * hhF n q al be (n - (i + 1)) x + -(be i) * hhF n q al be (n - (i + 2)) x)) = (al i * r) * (q i x * hhF n q al be (n - (i + 1)) x - be i * hhF n q al be (n - (i + 2)) x) := by grind
    rw [this, ai]
    grind
  · obtain ⟨z, z1, z2, z3⟩ := row_dense (hl 0 (by omega)) u v huv
    refine ⟨z, z1, z2, fun c => z3 ?_⟩
    have := p3 0 (by omega) z
    rw [r0] at this
    exact this.trans c
  · obtain ⟨t0, h0, h1⟩ := (RV.up hC.1 hC.2.1 x 0).1
    rw [one_pow] at h1
    refine ⟨t0, h0, fun t ht1 ht2 => ?_⟩
    obtain ⟨a, b⟩ := h1 t ht1 ht2
    rw [← sim.cu, ← b]
    exact (cV_fac (h := fun i => hhF n q al be (n - i)) (g := pR (mRows Q) n ((x : Rat) + t)) (fun i hi2 => hi i hi2 _) a).symm
  · obtain ⟨s1, s2⟩ := sim.2 n (by rw [hC.1]; omega)
    have zl := hz2 n (Nat.le_refl _)
    have tl := hl n (Nat.le_refl _)
    have zl4 : Zd ((mRows Q).2.1 n) 4 := fun i hi2 => zl.2 i (by omega)
    have t9 := topW_eq (by omega) tl zl.2
    refine ⟨s2.zd zl4, ?_, s2.fac⟩
    rw [← s2.top 9, t9]
    omega
theorem lev {F : Nat → Rat → Rat} (hD : ∀ i, DD (F i) (F (i + 1))) {B : Rat} (hB : 0 ≤ B) : ∀ (m : Nat) (Q : Nat → Int) (k : Nat), Zd Q 4 → topW Q 9 ≠ 0 → (∀ i, i ≤ k → ∃ K, PL K ∧ ∀ x, F i x = pv Q x * K x) → ∃ (Lm : Rat → Int) (w : Rat) (N : Int → Int), 0 < w ∧ (∀ a b, cntF a b m (buildF Q) = N a - N b) ∧ (∀ x : Int, ∃ t0 : Rat, 0 < t0 ∧ ∀ t, 0 < t → t < t0 → Lm ((x : Rat) + t) = N x) ∧ ∀ u v, -B ≤ u → u < v → v ≤ B → v - u ≤ w → F 0 u ≠ 0 → F 0 v ≠ 0 → Lm u = Lm v ∨ ∃ r : Nat, Lm u - Lm v ≤ (r : Nat) + 1 ∧ ∀ i, i ≤ k + r → Sml (F i) u v
  | 0, Q, k, _, _, _ => ⟨fun _ => 0, 1, fun _ => 0, by decide, fun a b => rfl, fun x => ⟨1, by decide, fun t _ _ => rfl⟩, fun u v _ _ _ _ _ _ => Or.inl rfl⟩
  | m + 1, Q, k, hz, ht, hdiv => by
    obtain ⟨n, g, h, hC, hn, -, hcu, hlast⟩ := chain_of hz ht
    by_cases n0 : n = 0
    · refine ⟨fun _ => 0, 1, fun _ => 0, by decide, fun a b => ?_, fun x => ⟨1, by decide, fun t _ _ => rfl⟩, fun u v _ _ _ _ _ _ => Or.inl rfl⟩
      simp only [cntF]
      rw [if_pos (by omega)]
      rfl
    · obtain ⟨z1, t1, c, gc⟩ := hlast (by omega)
      obtain ⟨w1, w10, S⟩ := hC.step (by omega) hB
      obtain ⟨⟨PF, PF2, D⟩, Pg, Ph, Fg, F2g, -⟩ := id hC
      have F2g := F2g (by omega)
      have P0 := Ph 0 (by omega)
      have P1 := Ph 1 (by omega)
      have dv : ∀ i, i ≤ k + 1 → ∃ K, PL K ∧ ∀ x, F i x = pv ((buildF Q).2.1 n) x * K x := by
        intro i hi
        by_cases e : i = k + 1
        · obtain ⟨K, pK, eK⟩ := hdiv k (Nat.le_refl _)
          obtain ⟨K2, pK2, dK⟩ := pK.der
          have un := (hD k).uniq ((DD.mul PF PF2 pK D dK).cong (fun x => (eK x).symm) (fun _ => rfl))
          refine ⟨fun x => c * (h 1 x * K x + h 0 x * K2 x), (PL.const c).mul ((P1.mul pK).add (P0.mul pK2)), fun x => ?_⟩
          have u1 : F (k + 1) x = pv (drv Q) x * K x + pv Q x * K2 x := un x
          rw [e, u1, F2g x, Fg x, gc x]
          grind
        · obtain ⟨K, pK, eK⟩ := hdiv i (by omega)
          refine ⟨fun x => c * (h 0 x * K x), (PL.const c).mul (P0.mul pK), fun x => ?_⟩
          rw [eK x, Fg x, gc x]
          grind
      obtain ⟨L1, w2, N1, w20, c1, c2, c3⟩ := lev hD hB m ((buildF Q).2.1 n) (k + 1) z1 t1 dv
      obtain ⟨w, w0, wa, wb⟩ := rq_min w1 w2 w10 w20
      refine ⟨fun x => cV (sgB h x) n + L1 x, w, fun x => cUp (buildF Q) x 0 + N1 x, w0, fun a b => ?_, fun x => ?_, fun u v u0 uv v0 hw Fu Fv => ?_⟩
      · have hd : dBet (buildF Q) a b = cUp (buildF Q) a 0 - cUp (buildF Q) b 0 := if_neg (by omega)
        simp only [cntF]
        rw [if_neg (by omega), show (buildF Q).1 - 1 = n by omega, c1, hd]
        omega
      · obtain ⟨a, a0, a1⟩ := hcu x
        obtain ⟨b, b0, b1⟩ := c2 x
        obtain ⟨t, t0, ta, tb⟩ := rq_min a b a0 b0
        refine ⟨t, t0, fun y y1 y2 => ?_⟩
        show cV (sgB h ((x : Rat) + y)) n + L1 ((x : Rat) + y) = cUp (buildF Q) x 0 + N1 x
        rw [a1 y y1 (by grind), b1 y y1 (by grind)]
      · obtain ⟨K0, pK0, eK0⟩ := hdiv 0 (by omega)
        have Qu : pv Q u ≠ 0 := fun z => Fu (by rw [eK0, z]; grind)
        have Qv : pv Q v ≠ 0 := fun z => Fv (by rw [eK0, z]; grind)
        obtain ⟨s1, -, -⟩ := S u v u0 uv v0 (by grind) Qu Qv
        have l := c3 u v u0 uv v0 (by grind) Fu Fv
        show cV (sgB h u) n + L1 u = cV (sgB h v) n + L1 v ∨ ∃ r : Nat, cV (sgB h u) n + L1 u - (cV (sgB h v) n + L1 v) ≤ (r : Nat) + 1 ∧ ∀ i, i ≤ k + r → Sml (F i) u v
        by_cases e : sgB h u 0 = sgB h v 0
        · rw [dB_eq e] at s1
          rcases l with l | ⟨r, r1, r2⟩
          · exact Or.inl (by omega)
          · exact Or.inr ⟨r, by omega, fun i hi => r2 i (by omega)⟩
        · rw [dB_ne e] at s1
          have hu0 : h 0 u ≠ 0 := fun z => Qu (by rw [Fg, z]; grind)
          have hv0 : h 0 v ≠ 0 := fun z => Qv (by rw [Fg, z]; grind)
          have ch : (h 0 u < 0 ∧ 0 < h 0 v) ∨ (0 < h 0 u ∧ h 0 v < 0) := by
            unfold sgB at e
            by_cases p : 0 ≤ h 0 u
            · by_cases p2 : 0 ≤ h 0 v
              · rw [decide_eq_true p, decide_eq_true p2] at e
                exact absurd rfl e
              · exact Or.inr ⟨by grind, by grind⟩
            · by_cases p2 : 0 ≤ h 0 v
              · exact Or.inl ⟨by grind, by grind⟩
              · rw [decide_eq_false p, decide_eq_false p2] at e
                exact absurd rfl e
          have sm : ∀ i, i ≤ k → Sml (F i) u v := fun i hi => by
            obtain ⟨K, pK, eK⟩ := hdiv i hi
            exact Sml.of (A := h 0) (k := fun x => g x * K x) P0 (Pg.mul pK) (fun z => by rw [eK, Fg]; grind) (Rat.le_of_lt uv) ch
          rcases l with l | ⟨r, r1, r2⟩
          · exact Or.inr ⟨0, by omega, fun i hi => sm i (by omega)⟩
          · exact Or.inr ⟨r + 1, by omega, fun i hi => r2 i (by omega)⟩
