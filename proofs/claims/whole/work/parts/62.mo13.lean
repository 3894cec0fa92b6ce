/-! The reference: turns that end. -/
theorem termsOn_cong {a b c e : Nat → Int} {p : Int} : ∀ n : Nat, (∀ j, j < n → a j = b j ∧ c j = e j) → termsOnF a c p n = termsOnF b e p n
  | 0, _ => rfl
  | n + 1, h => by
    simp only [termsOnF]
    rw [termsOn_cong n (fun j hj => h j (by omega)), (h n (by omega)).1, (h n (by omega)).2]
theorem lastT_cong {a b c e : Nat → Int} {p : Int} : ∀ n : Nat, (∀ j, j < n → a j = b j ∧ c j = e j) → lastT a c p n = lastT b e p n
  | 0, _ => rfl
  | n + 1, h => by
    simp only [lastT]
    rw [lastT_cong n (fun j hj => h j (by omega)), (h n (by omega)).1, (h n (by omega)).2]
theorem termsOf_cong {a b : Nat → Int} {p : Int} : ∀ n : Nat, (∀ j, j < n → a j = b j) → termsOfF a p n = termsOfF b p n
  | 0, _ => rfl
  | n + 1, h => by
    simp only [termsOfF]
    rw [termsOf_cong n (fun j hj => h j (by omega)), h n (by omega)]
/-- the row of a contest just before its turn ends: the term is laid -/
def PreE (T : CT) (x : Int) (p : Nat) (r : Nat → Int) : Prop :=
  (∀ j, j < 7 → r j = tS T j) ∧ (r 7 = tN T ∧ r 8 = tO T ∧ r 9 = tB T ∧ r 10 = pasF T) ∧ (∀ q, q < 9 → r (11 + q) = tP (tLay T x p) q) ∧ (∀ q, q < 5 → r (20 + q) = termsOnF (tC (tLay T x p)) (tQ (tLay T x p)) q (tN T + 1) ∧ r (29 + q) = lastF (tLay T x p) q ∧ r (38 + q) = byF (tLay T x p) q) ∧ (∀ pl i f, pl < 2 → i < tK T pl → f < 6 → r (47 + 24 * pl + 6 * i + f) = tL T pl i f) ∧ (∀ pl, pl < 2 → r (95 + pl) = tK T pl ∧ r (97 + pl) = termsOfF (tC (tLay T x p)) pl (tN T + 1)) ∧ r 99 = tN T - (termsOfF (tC T) 0 (tN T) + termsOfF (tC T) 1 (tN T)) ∧ (∀ j, j < tN T → r (100 + 3 * j) = (if tC T j = 0 then 1 else 0) ∧ r (100 + 3 * j + 1) = tC T j ∧ r (100 + 3 * j + 2) = tQ T j)
theorem lay_ag (T : CT) (x : Int) (p : Nat) (j : Nat) (hj : j < tN T) : tC (tLay T x p) j = tC T j ∧ tQ (tLay T x p) j = tQ T j := ⟨fup_ne (by omega), fup_ne (by omega)⟩
theorem lay_at (T : CT) (x : Int) (p : Nat) : tC (tLay T x p) (tN T) = x ∧ tQ (tLay T x p) (tN T) = p := ⟨fup_at, fup_at⟩
theorem lay_on (T : CT) (x : Int) (p : Nat) (q : Int) : termsOnF (tC (tLay T x p)) (tQ (tLay T x p)) q (tN T + 1) = (if x ≠ 0 ∧ (p : Int) = q then termsOnF (tC T) (tQ T) q (tN T) + 1 else termsOnF (tC T) (tQ T) q (tN T)) := by
  simp only [termsOnF]
  rw [termsOn_cong (tN T) (lay_ag T x p), (lay_at T x p).1, (lay_at T x p).2]
theorem lay_last (T : CT) (x : Int) (p : Nat) (q : Int) : lastF (tLay T x p) q = (if x ≠ 0 ∧ (p : Int) = q then (tN T : Int) else lastF T q) := by
  show lastT _ _ q (tN T + 1) = _
  simp only [lastT]
  rw [lastT_cong (tN T) (lay_ag T x p), (lay_at T x p).1, (lay_at T x p).2]
theorem lay_of (T : CT) (x : Int) (p : Nat) (q : Int) : termsOfF (tC (tLay T x p)) q (tN T + 1) = (if x ≠ 0 ∧ ((tN T % 2 : Nat) : Int) = q then termsOfF (tC T) q (tN T) + 1 else termsOfF (tC T) q (tN T)) := by
  simp only [termsOfF]
  rw [termsOf_cong (tN T) (fun j hj => (lay_ag T x p j hj).1), (lay_at T x p).1]
theorem lay_by (T : CT) (x : Int) (p : Nat) (q : Int) : byF (tLay T x p) q = (if x ≠ 0 ∧ (p : Int) = q then ((tN T % 2 : Nat) : Int) else byF T q) := by
  unfold byF
  rw [lay_last]
  by_cases e : x ≠ 0 ∧ (p : Int) = q
  · rw [if_pos e, if_pos e, if_neg (by omega), tmod2]
  · rw [if_neg e, if_neg e]
theorem pre_pass {T : CT} {r : Nat → Int} (hT : RowT T r) : PreE T 0 0 r := by
  obtain ⟨⟨hS, hN, h10, hP, hp3, hL, hK, h99, hm⟩, hO, hB⟩ := hT
  refine ⟨hS, ⟨hN, hO, hB, h10⟩, fun q hq => ?_, fun q hq => ⟨?_, ?_, ?_⟩, hL, fun pl h1 => ⟨(hK pl h1).1, ?_⟩, h99, hm⟩
  · show _ = fup (tP T) 0 (tP T 0 + 0) q
    rw [Int.add_zero, hP q hq]
    unfold fup
    split
    · next h => rw [h]
    · rfl
  · rw [lay_on, if_neg (fun z => z.1 rfl)]
    exact (hp3 q hq).1
  · rw [lay_last, if_neg (fun z => z.1 rfl)]
    exact (hp3 q hq).2.1
  · rw [lay_by, if_neg (fun z => z.1 rfl)]
    exact (hp3 q hq).2.2
  · rw [lay_of, if_neg (fun z => z.1 rfl)]
    exact (hK pl h1).2
theorem pre_term {T : CT} {r : Nat → Int} {x : Int} {p : Nat} (hT : RowT T r) (hW : WfT T) (hx : x ≠ 0) (hp : p < 5) : PreE T x p (fup (fup (fup (fup (fup r (11 + p) (tP T p + x)) (20 + p) (termsOnF (tC T) (tQ T) p (tN T) + 1)) (29 + p) (tN T)) (38 + p) ((tN T % 2 : Nat) : Int)) (97 + tN T % 2) (termsOfF (tC T) ((tN T % 2 : Nat) : Int) (tN T) + 1)) := by
  have hn := hW.n60
  have hk4 := hW.2.2.2.2.1
  have h2 : tN T % 2 < 2 := Nat.mod_lt _ (by decide)
  obtain ⟨⟨hS, hN, h10, hP, hp3, hL, hK, h99, hm⟩, hO, hB⟩ := hT
  have F : ∀ j v, j < 11 ∨ 46 < j → ¬ j = 97 + tN T % 2 → r j = v → fup (fup (fup (fup (fup r (11 + p) (tP T p + x)) (20 + p) (termsOnF (tC T) (tQ T) p (tN T) + 1)) (29 + p) (tN T)) (38 + p) ((tN T % 2 : Nat) : Int)) (97 + tN T % 2) (termsOfF (tC T) ((tN T % 2 : Nat) : Int) (tN T) + 1) j = v := by
    intro j v h1 h3 h4
    rw [fup_ne h3, fup_ne (by omega), fup_ne (by omega), fup_ne (by omega), fup_ne (by omega)]
    exact h4
  refine ⟨fun j hj => F _ _ (by omega) (by omega) (hS j hj), ⟨F _ _ (by omega) (by omega) hN, F _ _ (by omega) (by omega) hO, F _ _ (by omega) (by omega) hB, F _ _ (by omega) (by omega) h10⟩, fun q hq => ?_, fun q hq => ⟨?_, ?_, ?_⟩, fun pl i f h1 h3 h4 => ?_, fun pl h1 => ⟨F _ _ (by omega) (by omega) (hK pl h1).1, ?_⟩, F _ _ (by omega) (by omega) h99, fun j hj => ⟨F _ _ (by omega) (by omega) (hm j hj).1, F _ _ (by omega) (by omega) (hm j hj).2.1, F _ _ (by omega) (by omega) (hm j hj).2.2⟩⟩
  · show _ = fup (tP T) p (tP T p + x) q
    rw [fup_ne (by omega), fup_ne (by omega), fup_ne (by omega), fup_ne (by omega)]
    by_cases e : q = p
    · rw [e, fup_at, fup_at]
    · rw [fup_ne (by omega), fup_ne e]
      exact hP q hq
  · rw [lay_on, fup_ne (by omega), fup_ne (by omega), fup_ne (by omega)]
    by_cases e : q = p
    · rw [e, fup_at, if_pos ⟨hx, rfl⟩]
    · rw [fup_ne (by omega), fup_ne (by omega), if_neg (fun z => e (by omega))]
      exact (hp3 q hq).1
  · rw [lay_last, fup_ne (by omega), fup_ne (by omega)]
    by_cases e : q = p
    · rw [e, fup_at, if_pos ⟨hx, rfl⟩]
    · rw [fup_ne (by omega), fup_ne (by omega), fup_ne (by omega), if_neg (fun z => e (by omega))]
      exact (hp3 q hq).2.1
  · rw [lay_by, fup_ne (by omega)]
    by_cases e : q = p
    · rw [e, fup_at, if_pos ⟨hx, rfl⟩]
    · rw [fup_ne (by omega), fup_ne (by omega), fup_ne (by omega), fup_ne (by omega), if_neg (fun z => e (by omega))]
      exact (hp3 q hq).2.2
  · have := hk4 pl
    exact F _ _ (by omega) (by omega) (hL pl i f h1 h3 h4)
  · rw [lay_of]
    by_cases e : pl = tN T % 2
    · rw [e, fup_at, if_pos ⟨hx, rfl⟩]
    · rw [if_neg (fun z => e (by omega))]
      exact F _ _ (by omega) (by omega) (hK pl h1).2
/-- the contest ends with this turn, by the turns or the bars -/
abbrev ovE (T : CT) : Prop := (tN T : Int) = tS T 2 ∨ (2 ≤ tN T ∧ tC T (tN T - 1) = 0 ∧ tC T (tN T - 2) = 0) ∨ barredF T (tS T 0).toNat = tS T 0
theorem PreE.post {T : CT} {r : Nat → Int} {x y : Int} {p : Nat} (h : PreE T x p r) (hW : WfT T) (hn : tN T < 60) (hy : y = if x = 0 then 1 else 0) : RowC (tLay T x p) (fup (fup (fup (fup (fup (fup r (100 + 3 * tN T) y) (100 + 3 * tN T + 1) x) (100 + 3 * tN T + 2) p) 10 y) 99 (r 99 + y)) 7 (tN T + 1)) := by
  have hk4 := hW.2.2.2.2.1
  obtain ⟨hS, ⟨hN, hO, hB, h10⟩, hP, hp3, hL, hK, h99, hm⟩ := h
  have F : ∀ j v, j < 100 + 3 * tN T → ¬ j = 10 → ¬ j = 99 → ¬ j = 7 → r j = v → fup (fup (fup (fup (fup (fup r (100 + 3 * tN T) y) (100 + 3 * tN T + 1) x) (100 + 3 * tN T + 2) p) 10 y) 99 (r 99 + y)) 7 (tN T + 1) j = v := by
    intro j v h1 h2 h3 h4 h5
    rw [fup_ne h4, fup_ne h3, fup_ne h2, fup_ne (by omega), fup_ne (by omega), fup_ne (by omega)]
    exact h5
  have hl := lay_at T x p
  refine ⟨fun j hj => F _ _ (by omega) (by omega) (by omega) (by omega) (hS j hj), ?_, ?_, fun q hq => F _ _ (by omega) (by omega) (by omega) (by omega) (hP q hq), fun q hq => ⟨F _ _ (by omega) (by omega) (by omega) (by omega) (hp3 q hq).1, F _ _ (by omega) (by omega) (by omega) (by omega) (hp3 q hq).2.1, F _ _ (by omega) (by omega) (by omega) (by omega) (hp3 q hq).2.2⟩, fun pl i f h1 h2 h3 => ?_, fun pl h1 => ⟨F _ _ (by omega) (by omega) (by omega) (by omega) (hK pl h1).1, F _ _ (by omega) (by omega) (by omega) (by omega) (hK pl h1).2⟩, ?_, fun j hj => ?_⟩
  · rw [fup_at]
    show _ = ((tN T + 1 : Nat) : Int)
    omega
  · rw [fup_ne (by omega), fup_ne (by omega), fup_at, hy]
    unfold pasF
    show _ = if 0 < tN T + 1 ∧ tC (tLay T x p) (tN T) = 0 then (1 : Int) else 0
    rw [hl.1]
    by_cases e : x = 0
    · rw [if_pos e, if_pos ⟨by omega, e⟩]
    · rw [if_neg e, if_neg (fun z => e z.2)]
  · have k4 := hk4 pl
    have h2 : i < tK T pl := h2
    exact F _ _ (by omega) (by omega) (by omega) (by omega) (hL pl i f h1 h2 h3)
  · rw [fup_ne (by omega), fup_at, h99]
    show _ = ((tN T + 1 : Nat) : Int) - (termsOfF (tC (tLay T x p)) 0 (tN T + 1) + termsOfF (tC (tLay T x p)) 1 (tN T + 1))
    rw [lay_of, lay_of, hy]
    by_cases e : x = 0
    · rw [if_pos e, if_neg (fun z => z.1 e), if_neg (fun z => z.1 e)]
      omega
    · rw [if_neg e]
      by_cases e2 : tN T % 2 = 0
      · rw [if_pos ⟨e, by omega⟩, if_neg (fun z => by omega)]
        omega
      · rw [if_neg (fun z => by omega), if_pos ⟨e, by omega⟩]
        omega
  · have hj : j < tN T + 1 := hj
    by_cases e : j = tN T
    · rw [e, hl.1, hl.2]
      refine ⟨?_, ?_, ?_⟩
      · rw [fup_ne (by omega), fup_ne (by omega), fup_ne (by omega), fup_ne (by omega), fup_ne (by omega), fup_at, hy]
      · rw [fup_ne (by omega), fup_ne (by omega), fup_ne (by omega), fup_ne (by omega), fup_at]
      · rw [fup_ne (by omega), fup_ne (by omega), fup_ne (by omega), fup_at]
    · obtain ⟨g1, g2⟩ := lay_ag T x p j (by omega)
      obtain ⟨m1, m2, m3⟩ := hm j (by omega)
      rw [g1, g2]
      exact ⟨F _ _ (by omega) (by omega) (by omega) (by omega) m1, F _ _ (by omega) (by omega) (by omega) (by omega) m2, F _ _ (by omega) (by omega) (by omega) (by omega) m3⟩

set_option maxRecDepth 100000 in
theorem sp_X5_ends {g : GG} {lay : Lay} {M : Mem} {K : KK} {d : Nat} {T : CT} {x y9 : Int} {p : Nat} (hd : MoL lay d) (hb0 : g.2.1 ≤ d) (hE : PreE T x p (M (d + 1))) (hW : WfT T) (hn : tN T < 60) (hp : p < 5) (hx : -9 ≤ x ∧ x ≤ 9) (hy9 : y9 = if x = 0 then 1 else 0) (k : ∀ M2, (∀ a j, ¬ a = d + 1 → M2 a j = M a j) → RowC (tLay T x p) (M2 (d + 1)) → M2 (d + 1) 8 = (if ovE (tLay T x p) then 1 else 0) → M2 (d + 1) 9 = tB T → K (.inl none) lay M2) : X g m_X5_ends 0 0 lay M 0 [(0, vR d), (1, vI x), (2, vI p), (3, vI y9)] [] K := by
  obtain ⟨wS, wP, wN, wm, wK, wL, wO, wB⟩ := id hW
  obtain ⟨hS, ⟨hN, hO, hB, h10⟩, hP, hp3, hL, hK, h99, hm⟩ := id hE
  have hy01 : y9 = 0 ∨ y9 = 1 := by rw [hy9]; split <;> omega
  have t0 := termsOfF_rng (tC T) 0 (tN T)
  have t1 := termsOfF_rng (tC T) 1 (tN T)
  have hpas : pasF T = 0 ∨ pasF T = 1 := by unfold pasF; split <;> omega
  have s2 := hS 2 (by omega)
  have s0 := hS 0 (by omega)
  have w2 := wS.2.2.1
  have fin : ∀ (tw v6 : Int) (M1 : Mem), (∀ a j, ¬ a = d + 1 → M1 a j = M a j) → RowC (tLay T x p) (M1 (d + 1)) → M1 (d + 1) 9 = tB T → v6 = (if ovE (tLay T x p) then 1 else 0) → X g m_X5_ends 0 0 lay M1 159 [(6, vI v6), (5, vI tw), (4, vI (100 + 3 * (tN T : Int))), (0, vR d), (1, vI x), (2, vI p), (3, vI y9)] [] K := by
    intro tw v6 M1 hF hR h9 hv
    have hv01 : v6 = 0 ∨ v6 = 1 := by rw [hv]; split <;> omega
    have fin2 : ∀ v, v = v6 → K (.inl none) lay (mset M1 (d + 1) 8 v) := by
      intro v e
      refine k _ (fun a j q => by rw [mset_nea q]; exact hF a j q) ?_ (by rw [mset_same, e, hv]) (by rw [mset_nei (by omega)]; exact h9)
      rw [mset_row]
      exact hR.cong (by show tN T + 1 ≤ 60; omega) wK (fun j h1 h2 h3 => fup_ne h2)
    refine x_aload_n (pc := 159) dX5_ends_159 rfl rfl ?_
    refine x_getr (pc := 160) (b := d + 1) fX5_7 dX5_ends_160 hd.1 rfl rfl ?_
    refine x_bipush (pc := 163) dX5_ends_163 (by decide) ?_
    refine x_iload (pc := 165) dX5_ends_165 rfl ?_
    refine x_if_eq (pc := 167) (t := 174) dX5_ends_167 (by decide) ⟨by omega, by omega⟩ (fun c167 => ?_) (fun c167 => ?_)
    · refine x_iconst (pc := 174) dX5_ends_174 ?_
      refine x_iast (pc := 175) dX5_ends_175 hd.2.1 (by omega) (by omega) (by omega) ⟨by omega, by omega⟩ ?_
      refine x_vret (pc := 176) dX5_ends_176 rfl (by decide) (by decide) ?_
      exact fin2 _ (by omega)
    · refine x_iconst (pc := 170) dX5_ends_170 ?_
      refine x_goto (pc := 171) (t := 175) dX5_ends_171 (by decide) ?_
      refine x_iast (pc := 175) dX5_ends_175 hd.2.1 (by omega) (by omega) (by omega) ⟨by omega, by omega⟩ ?_
      refine x_vret (pc := 176) dX5_ends_176 rfl (by decide) (by decide) ?_
      exact fin2 _ (by omega)
  have mid : ∀ (tw : Int) (M1 : Mem), (tw = 0 ∨ tw = 1) → (tw = 1 ↔ (y9 = 1 ∧ pasF T = 1)) → (∀ a j, ¬ a = d + 1 → M1 a j = M a j) → RowC (tLay T x p) (M1 (d + 1)) → M1 (d + 1) 9 = tB T → X g m_X5_ends 0 0 lay M1 118 [(5, vI tw), (4, vI (100 + 3 * (tN T : Int))), (0, vR d), (1, vI x), (2, vI p), (3, vI y9)] [] K := by
    intro tw M1 htw0 htw hF hR h9
    have r7 : M1 (d + 1) 7 = ((tN T + 1 : Nat) : Int) := hR.2.1
    have r2 : M1 (d + 1) 2 = tS T 2 := hR.1 2 (by omega)
    have r0 : M1 (d + 1) 0 = tS T 0 := hR.1 0 (by omega)
    have htw2 : tw = 1 ↔ (2 ≤ tN (tLay T x p) ∧ tC (tLay T x p) (tN (tLay T x p) - 1) = 0 ∧ tC (tLay T x p) (tN (tLay T x p) - 2) = 0) := by
      rw [htw]
      show _ ↔ (2 ≤ tN T + 1 ∧ tC (tLay T x p) (tN T) = 0 ∧ tC (tLay T x p) (tN T - 1) = 0)
      rw [(lay_at T x p).1]
      unfold pasF
      constructor
      · rintro ⟨h1, h2⟩
        have hx0 : x = 0 := Decidable.byContradiction fun z => by rw [if_neg z] at hy9; omega
        by_cases e : 0 < tN T ∧ tC T (tN T - 1) = 0
        · exact ⟨by omega, hx0, by rw [(lay_ag T x p _ (by omega)).1]; exact e.2⟩
        · rw [if_neg e] at h2; omega
      · rintro ⟨h1, h2, h3⟩
        rw [(lay_ag T x p _ (by omega)).1] at h3
        rw [if_pos h2] at hy9
        exact ⟨hy9, if_pos ⟨by omega, h3⟩⟩
    have hov : (if ovE (tLay T x p) then (1 : Int) else 0) = if ((tN T + 1 : Nat) : Int) = tS T 2 ∨ tw = 1 ∨ barredF (tLay T x p) (tS T 0).toNat = tS T 0 then 1 else 0 := by
      simp only [htw2]
      rfl
    have hbr := barredF_rng (tLay T x p) (tS T 0).toNat
    have w0 := wS.1
    have hbar : BarH (tLay T x p) (M1 (d + 1)) := ⟨hR.1 0 (by omega), hR.1 1 (by omega), hR.2.1, fun q hq => (hR.2.2.2.2.1 q hq).2.1⟩
    refine x_aload_n (pc := 118) dX5_ends_118 rfl rfl ?_
    refine x_getr (pc := 119) (b := d + 1) fX5_7 dX5_ends_119 hd.1 rfl rfl ?_
    refine x_bipush (pc := 122) dX5_ends_122 (by decide) ?_
    refine x_iald (pc := 124) dX5_ends_124 hd.2.1 (by omega) (by omega) (fun r124a r124b => ?_)
    rw [show (7 : Int).toNat = 7 from rfl, r7] at r124a r124b ⊢
    refine x_aload_n (pc := 125) dX5_ends_125 rfl rfl ?_
    refine x_getr (pc := 126) (b := d + 1) fX5_7 dX5_ends_126 hd.1 rfl rfl ?_
    refine x_iconst (pc := 129) dX5_ends_129 ?_
    refine x_iald (pc := 130) dX5_ends_130 hd.2.1 (by omega) (by omega) (fun r130a r130b => ?_)
    rw [show (2 : Int).toNat = 2 from rfl, r2] at r130a r130b ⊢
    refine x_icmp_eq (pc := 131) (t := 152) dX5_ends_131 (by decide) ⟨by omega, by omega⟩ ⟨by omega, by omega⟩ (fun c131 => ?_) (fun c131 => ?_)
    · refine x_iconst (pc := 152) dX5_ends_152 ?_
      refine x_goto (pc := 153) (t := 157) dX5_ends_153 (by decide) ?_
      refine x_istore (pc := 157) dX5_ends_157 trivial (by decide) (L' := [(6, _), (5, _), (4, _), (0, _), (1, _), (2, _), (3, _)]) rfl ?_
      refine X.loc [0, 1, 2, 3, 4, 5, 6] (L' := [(6, _), (5, _), (4, _), (0, _), (1, _), (2, _), (3, _)]) rfl ?_
      refine fin tw _ M1 hF hR h9 ?_
      rw [hov]
      first
      | rw [if_pos (by omega)]
      | rw [if_neg (by omega)]
    · refine x_iload (pc := 134) dX5_ends_134 rfl ?_
      refine x_if_ne (pc := 136) (t := 152) dX5_ends_136 (by decide) ⟨by omega, by omega⟩ (fun c136 => ?_) (fun c136 => ?_)
      · refine x_iconst (pc := 152) dX5_ends_152 ?_
        refine x_goto (pc := 153) (t := 157) dX5_ends_153 (by decide) ?_
        refine x_istore (pc := 157) dX5_ends_157 trivial (by decide) (L' := [(6, _), (5, _), (4, _), (0, _), (1, _), (2, _), (3, _)]) rfl ?_
        refine X.loc [0, 1, 2, 3, 4, 5, 6] (L' := [(6, _), (5, _), (4, _), (0, _), (1, _), (2, _), (3, _)]) rfl ?_
        refine fin tw _ M1 hF hR h9 ?_
        rw [hov]
        first
        | rw [if_pos (by omega)]
        | rw [if_neg (by omega)]
      · refine x_aload_n (pc := 139) dX5_ends_139 rfl rfl ?_
        refine x_callV (pc := 140) [] rfl kX5_215 dX5_ends_140 hd.1 rfl rfl (by decide) (Nat.le_of_ble_eq_true rfl) (Nat.le_of_ble_eq_true rfl) (by decide) ?_
        refine sp_X5_barred hd hb0 hbar wS (by show tN T + 1 ≤ 60; omega) ?_
        rw [show tS (tLay T x p) = tS T from rfl]
        refine ⟨_, rfl, ?_⟩
        refine x_aload_n (pc := 143) dX5_ends_143 rfl rfl ?_
        refine x_getr (pc := 144) (b := d + 1) fX5_7 dX5_ends_144 hd.1 rfl rfl ?_
        refine x_iconst (pc := 147) dX5_ends_147 ?_
        refine x_iald (pc := 148) dX5_ends_148 hd.2.1 (by omega) (by omega) (fun r148a r148b => ?_)
        rw [show (0 : Int).toNat = 0 from rfl, r0] at r148a r148b ⊢
        refine x_icmp_ne (pc := 149) (t := 156) dX5_ends_149 (by decide) ⟨by omega, by omega⟩ ⟨by omega, by omega⟩ (fun c149 => ?_) (fun c149 => ?_)
        · refine x_iconst (pc := 156) dX5_ends_156 ?_
          refine x_istore (pc := 157) dX5_ends_157 trivial (by decide) (L' := [(6, _), (5, _), (4, _), (0, _), (1, _), (2, _), (3, _)]) rfl ?_
          refine X.loc [0, 1, 2, 3, 4, 5, 6] (L' := [(6, _), (5, _), (4, _), (0, _), (1, _), (2, _), (3, _)]) rfl ?_
          refine fin tw _ M1 hF hR h9 ?_
          rw [hov]
          first
          | rw [if_pos (by omega)]
          | rw [if_neg (by omega)]
        · refine x_iconst (pc := 152) dX5_ends_152 ?_
          refine x_goto (pc := 153) (t := 157) dX5_ends_153 (by decide) ?_
          refine x_istore (pc := 157) dX5_ends_157 trivial (by decide) (L' := [(6, _), (5, _), (4, _), (0, _), (1, _), (2, _), (3, _)]) rfl ?_
          refine X.loc [0, 1, 2, 3, 4, 5, 6] (L' := [(6, _), (5, _), (4, _), (0, _), (1, _), (2, _), (3, _)]) rfl ?_
          refine fin tw _ M1 hF hR h9 ?_
          rw [hov]
          first
          | rw [if_pos (by omega)]
          | rw [if_neg (by omega)]
  rcases hy01 with hy0 | hy0
  · refine x_bipush (pc := 0) dX5_ends_0 (by decide) ?_
    refine x_iconst (pc := 2) dX5_ends_2 ?_
    refine x_aload_n (pc := 3) dX5_ends_3 rfl rfl ?_
    refine x_getr (pc := 4) (b := d + 1) fX5_7 dX5_ends_4 hd.1 rfl rfl ?_
    refine x_bipush (pc := 7) dX5_ends_7 (by decide) ?_
    refine x_iald (pc := 9) dX5_ends_9 hd.2.1 (by omega) (by omega) (fun r9a r9b => ?_)
    rw [show (7 : Int).toNat = 7 from rfl, hN] at r9a r9b ⊢
    refine x_imul (pc := 10) dX5_ends_10 ?_
    refine x_iadd (pc := 11) dX5_ends_11 ?_
    refine x_istore (pc := 12) dX5_ends_12 trivial (by decide) (L' := [(4, _), (0, _), (1, _), (2, _), (3, _)]) rfl ?_
    refine x_aload_n (pc := 14) dX5_ends_14 rfl rfl ?_
    refine x_getr (pc := 15) (b := d + 1) fX5_7 dX5_ends_15 hd.1 rfl rfl ?_
    refine x_iload (pc := 18) dX5_ends_18 rfl ?_
    refine x_iload_n (pc := 20) dX5_ends_20 rfl rfl ?_
    refine x_if_eq (pc := 21) (t := 28) dX5_ends_21 (by decide) ⟨by omega, by omega⟩ (fun c21 => ?_) (fun c21 => ?_)
    · refine x_iconst (pc := 28) dX5_ends_28 ?_
      refine x_iast (pc := 29) dX5_ends_29 hd.2.1 (by omega) (by omega) (by omega) ⟨by omega, by omega⟩ ?_
      refine x_aload_n (pc := 30) dX5_ends_30 rfl rfl ?_
      refine x_getr (pc := 31) (b := d + 1) fX5_7 dX5_ends_31 hd.1 rfl rfl ?_
      refine x_iload (pc := 34) dX5_ends_34 rfl ?_
      refine x_iconst (pc := 36) dX5_ends_36 ?_
      refine x_iadd (pc := 37) dX5_ends_37 ?_
      refine x_iload_n (pc := 38) dX5_ends_38 rfl rfl ?_
      refine x_iast (pc := 39) dX5_ends_39 hd.2.1 (by omega) (by omega) (by omega) ⟨by omega, by omega⟩ ?_
      refine x_aload_n (pc := 40) dX5_ends_40 rfl rfl ?_
      refine x_getr (pc := 41) (b := d + 1) fX5_7 dX5_ends_41 hd.1 rfl rfl ?_
      refine x_iload (pc := 44) dX5_ends_44 rfl ?_
      refine x_iconst (pc := 46) dX5_ends_46 ?_
      refine x_iadd (pc := 47) dX5_ends_47 ?_
      refine x_iload_n (pc := 48) dX5_ends_48 rfl rfl ?_
      refine x_iast (pc := 49) dX5_ends_49 hd.2.1 (by omega) (by omega) (by omega) ⟨by omega, by omega⟩ ?_
      refine x_iload_n (pc := 50) dX5_ends_50 rfl rfl ?_
      refine x_if_eq (pc := 51) (t := 69) dX5_ends_51 (by decide) ⟨by omega, by omega⟩ (fun c51 => ?_) (fun c51 => ?_)
      · refine x_iconst (pc := 69) dX5_ends_69 ?_
        refine x_istore (pc := 70) dX5_ends_70 trivial (by decide) (L' := [(5, _), (4, _), (0, _), (1, _), (2, _), (3, _)]) rfl ?_
        refine x_aload_n (pc := 72) dX5_ends_72 rfl rfl ?_
        refine x_getr (pc := 73) (b := d + 1) fX5_7 dX5_ends_73 hd.1 rfl rfl ?_
        refine x_bipush (pc := 76) dX5_ends_76 (by decide) ?_
        refine x_iload_n (pc := 78) dX5_ends_78 rfl rfl ?_
        refine x_if_eq (pc := 79) (t := 86) dX5_ends_79 (by decide) ⟨by omega, by omega⟩ (fun c79 => ?_) (fun c79 => ?_)
        · refine x_iconst (pc := 86) dX5_ends_86 ?_
          refine x_iast (pc := 87) dX5_ends_87 hd.2.1 (by omega) (by omega) (by omega) ⟨by omega, by omega⟩ ?_
          refine x_aload_n (pc := 88) dX5_ends_88 rfl rfl ?_
          refine x_getr (pc := 89) (b := d + 1) fX5_7 dX5_ends_89 hd.1 rfl rfl ?_
          refine x_bipush (pc := 92) dX5_ends_92 (by decide) ?_
          refine x_dup2 (pc := 94) dX5_ends_94 rfl rfl ?_
          refine x_iald (pc := 95) dX5_ends_95 hd.2.1 (by omega) (by omega) (fun r95a r95b => ?_)
          try simp (disch := omega) only [mset_same, mset_nea, mset_nei, mcopy_nea, mcopy_in, mcopy_out, Int.reduceToNat, Int.toNat_natCast, Nat.zero_add, Nat.sub_zero] at r95a r95b ⊢
          rw [h99] at r95a r95b ⊢
          refine x_iload_n (pc := 96) dX5_ends_96 rfl rfl ?_
          refine x_if_eq (pc := 97) (t := 104) dX5_ends_97 (by decide) ⟨by omega, by omega⟩ (fun c97 => ?_) (fun c97 => ?_)
          · refine x_iconst (pc := 104) dX5_ends_104 ?_
            refine x_iadd (pc := 105) dX5_ends_105 ?_
            refine x_iast (pc := 106) dX5_ends_106 hd.2.1 (by omega) (by omega) (by omega) ⟨by omega, by omega⟩ ?_
            refine x_aload_n (pc := 107) dX5_ends_107 rfl rfl ?_
            refine x_getr (pc := 108) (b := d + 1) fX5_7 dX5_ends_108 hd.1 rfl rfl ?_
            refine x_bipush (pc := 111) dX5_ends_111 (by decide) ?_
            refine x_dup2 (pc := 113) dX5_ends_113 rfl rfl ?_
            refine x_iald (pc := 114) dX5_ends_114 hd.2.1 (by omega) (by omega) (fun r114a r114b => ?_)
            try simp (disch := omega) only [mset_same, mset_nea, mset_nei, mcopy_nea, mcopy_in, mcopy_out, Int.reduceToNat, Int.toNat_natCast, Nat.zero_add, Nat.sub_zero] at r114a r114b ⊢
            rw [hN] at r114a r114b ⊢
            refine x_iconst (pc := 115) dX5_ends_115 ?_
            refine x_iadd (pc := 116) dX5_ends_116 ?_
            refine x_iast (pc := 117) dX5_ends_117 hd.2.1 (by omega) (by omega) (by omega) ⟨by omega, by omega⟩ ?_
            refine X.loc [0, 1, 2, 3, 4, 5] (L' := [(5, _), (4, _), (0, _), (1, _), (2, _), (3, _)]) rfl ?_
            try simp only [Int.reduceToNat]
            rw [show (100 + 3 * (tN T : Int)).toNat = 100 + 3 * tN T by omega, show (100 + 3 * (tN T : Int) + 1).toNat = 100 + 3 * tN T + 1 by omega, show (100 + 3 * (tN T : Int) + 2).toNat = 100 + 3 * tN T + 2 by omega]
            refine mid _ _ (by omega) (by omega) (fun a j q => by rw [mset_nea q, mset_nea q, mset_nea q, mset_nea q, mset_nea q, mset_nea q]) ?_ (by rw [mset_nei (by omega), mset_nei (by omega), mset_nei (by omega), mset_nei (by omega), mset_nei (by omega), mset_nei (by omega)]; exact hB)
            rw [mset_row, mset_row, mset_row, mset_row, mset_row, mset_row]
            have hpo := hE.post hW hn hy9
            rw [h99, hy0] at hpo
            exact hpo
          · exfalso; omega
        · exfalso; omega
      · exfalso; omega
    · exfalso; omega
  · refine x_bipush (pc := 0) dX5_ends_0 (by decide) ?_
    refine x_iconst (pc := 2) dX5_ends_2 ?_
    refine x_aload_n (pc := 3) dX5_ends_3 rfl rfl ?_
    refine x_getr (pc := 4) (b := d + 1) fX5_7 dX5_ends_4 hd.1 rfl rfl ?_
    refine x_bipush (pc := 7) dX5_ends_7 (by decide) ?_
    refine x_iald (pc := 9) dX5_ends_9 hd.2.1 (by omega) (by omega) (fun r9a r9b => ?_)
    rw [show (7 : Int).toNat = 7 from rfl, hN] at r9a r9b ⊢
    refine x_imul (pc := 10) dX5_ends_10 ?_
    refine x_iadd (pc := 11) dX5_ends_11 ?_
    refine x_istore (pc := 12) dX5_ends_12 trivial (by decide) (L' := [(4, _), (0, _), (1, _), (2, _), (3, _)]) rfl ?_
    refine x_aload_n (pc := 14) dX5_ends_14 rfl rfl ?_
    refine x_getr (pc := 15) (b := d + 1) fX5_7 dX5_ends_15 hd.1 rfl rfl ?_
    refine x_iload (pc := 18) dX5_ends_18 rfl ?_
    refine x_iload_n (pc := 20) dX5_ends_20 rfl rfl ?_
    refine x_if_eq (pc := 21) (t := 28) dX5_ends_21 (by decide) ⟨by omega, by omega⟩ (fun c21 => ?_) (fun c21 => ?_)
    · exfalso; omega
    · refine x_iconst (pc := 24) dX5_ends_24 ?_
      refine x_goto (pc := 25) (t := 29) dX5_ends_25 (by decide) ?_
      refine x_iast (pc := 29) dX5_ends_29 hd.2.1 (by omega) (by omega) (by omega) ⟨by omega, by omega⟩ ?_
      refine x_aload_n (pc := 30) dX5_ends_30 rfl rfl ?_
      refine x_getr (pc := 31) (b := d + 1) fX5_7 dX5_ends_31 hd.1 rfl rfl ?_
      refine x_iload (pc := 34) dX5_ends_34 rfl ?_
      refine x_iconst (pc := 36) dX5_ends_36 ?_
      refine x_iadd (pc := 37) dX5_ends_37 ?_
      refine x_iload_n (pc := 38) dX5_ends_38 rfl rfl ?_
      refine x_iast (pc := 39) dX5_ends_39 hd.2.1 (by omega) (by omega) (by omega) ⟨by omega, by omega⟩ ?_
      refine x_aload_n (pc := 40) dX5_ends_40 rfl rfl ?_
      refine x_getr (pc := 41) (b := d + 1) fX5_7 dX5_ends_41 hd.1 rfl rfl ?_
      refine x_iload (pc := 44) dX5_ends_44 rfl ?_
      refine x_iconst (pc := 46) dX5_ends_46 ?_
      refine x_iadd (pc := 47) dX5_ends_47 ?_
      refine x_iload_n (pc := 48) dX5_ends_48 rfl rfl ?_
      refine x_iast (pc := 49) dX5_ends_49 hd.2.1 (by omega) (by omega) (by omega) ⟨by omega, by omega⟩ ?_
      refine x_iload_n (pc := 50) dX5_ends_50 rfl rfl ?_
      refine x_if_eq (pc := 51) (t := 69) dX5_ends_51 (by decide) ⟨by omega, by omega⟩ (fun c51 => ?_) (fun c51 => ?_)
      · exfalso; omega
      · refine x_aload_n (pc := 54) dX5_ends_54 rfl rfl ?_
        refine x_getr (pc := 55) (b := d + 1) fX5_7 dX5_ends_55 hd.1 rfl rfl ?_
        refine x_bipush (pc := 58) dX5_ends_58 (by decide) ?_
        refine x_iald (pc := 60) dX5_ends_60 hd.2.1 (by omega) (by omega) (fun r60a r60b => ?_)
        try simp (disch := omega) only [mset_same, mset_nea, mset_nei, mcopy_nea, mcopy_in, mcopy_out, Int.reduceToNat, Int.toNat_natCast, Nat.zero_add, Nat.sub_zero] at r60a r60b ⊢
        rw [h10] at r60a r60b ⊢
        refine x_iconst (pc := 61) dX5_ends_61 ?_
        refine x_icmp_ne (pc := 62) (t := 69) dX5_ends_62 (by decide) ⟨by omega, by omega⟩ ⟨by omega, by omega⟩ (fun c62 => ?_) (fun c62 => ?_)
        · refine x_iconst (pc := 69) dX5_ends_69 ?_
          refine x_istore (pc := 70) dX5_ends_70 trivial (by decide) (L' := [(5, _), (4, _), (0, _), (1, _), (2, _), (3, _)]) rfl ?_
          refine x_aload_n (pc := 72) dX5_ends_72 rfl rfl ?_
          refine x_getr (pc := 73) (b := d + 1) fX5_7 dX5_ends_73 hd.1 rfl rfl ?_
          refine x_bipush (pc := 76) dX5_ends_76 (by decide) ?_
          refine x_iload_n (pc := 78) dX5_ends_78 rfl rfl ?_
          refine x_if_eq (pc := 79) (t := 86) dX5_ends_79 (by decide) ⟨by omega, by omega⟩ (fun c79 => ?_) (fun c79 => ?_)
          · exfalso; omega
          · refine x_iconst (pc := 82) dX5_ends_82 ?_
            refine x_goto (pc := 83) (t := 87) dX5_ends_83 (by decide) ?_
            refine x_iast (pc := 87) dX5_ends_87 hd.2.1 (by omega) (by omega) (by omega) ⟨by omega, by omega⟩ ?_
            refine x_aload_n (pc := 88) dX5_ends_88 rfl rfl ?_
            refine x_getr (pc := 89) (b := d + 1) fX5_7 dX5_ends_89 hd.1 rfl rfl ?_
            refine x_bipush (pc := 92) dX5_ends_92 (by decide) ?_
            refine x_dup2 (pc := 94) dX5_ends_94 rfl rfl ?_
            refine x_iald (pc := 95) dX5_ends_95 hd.2.1 (by omega) (by omega) (fun r95a r95b => ?_)
            try simp (disch := omega) only [mset_same, mset_nea, mset_nei, mcopy_nea, mcopy_in, mcopy_out, Int.reduceToNat, Int.toNat_natCast, Nat.zero_add, Nat.sub_zero] at r95a r95b ⊢
            rw [h99] at r95a r95b ⊢
            refine x_iload_n (pc := 96) dX5_ends_96 rfl rfl ?_
            refine x_if_eq (pc := 97) (t := 104) dX5_ends_97 (by decide) ⟨by omega, by omega⟩ (fun c97 => ?_) (fun c97 => ?_)
            · exfalso; omega
            · refine x_iconst (pc := 100) dX5_ends_100 ?_
              refine x_goto (pc := 101) (t := 105) dX5_ends_101 (by decide) ?_
              refine x_iadd (pc := 105) dX5_ends_105 ?_
              refine x_iast (pc := 106) dX5_ends_106 hd.2.1 (by omega) (by omega) (by omega) ⟨by omega, by omega⟩ ?_
              refine x_aload_n (pc := 107) dX5_ends_107 rfl rfl ?_
              refine x_getr (pc := 108) (b := d + 1) fX5_7 dX5_ends_108 hd.1 rfl rfl ?_
              refine x_bipush (pc := 111) dX5_ends_111 (by decide) ?_
              refine x_dup2 (pc := 113) dX5_ends_113 rfl rfl ?_
              refine x_iald (pc := 114) dX5_ends_114 hd.2.1 (by omega) (by omega) (fun r114a r114b => ?_)
              try simp (disch := omega) only [mset_same, mset_nea, mset_nei, mcopy_nea, mcopy_in, mcopy_out, Int.reduceToNat, Int.toNat_natCast, Nat.zero_add, Nat.sub_zero] at r114a r114b ⊢
              rw [hN] at r114a r114b ⊢
              refine x_iconst (pc := 115) dX5_ends_115 ?_
              refine x_iadd (pc := 116) dX5_ends_116 ?_
              refine x_iast (pc := 117) dX5_ends_117 hd.2.1 (by omega) (by omega) (by omega) ⟨by omega, by omega⟩ ?_
              refine X.loc [0, 1, 2, 3, 4, 5] (L' := [(5, _), (4, _), (0, _), (1, _), (2, _), (3, _)]) rfl ?_
              try simp only [Int.reduceToNat]
              rw [show (100 + 3 * (tN T : Int)).toNat = 100 + 3 * tN T by omega, show (100 + 3 * (tN T : Int) + 1).toNat = 100 + 3 * tN T + 1 by omega, show (100 + 3 * (tN T : Int) + 2).toNat = 100 + 3 * tN T + 2 by omega]
              refine mid _ _ (by omega) (by omega) (fun a j q => by rw [mset_nea q, mset_nea q, mset_nea q, mset_nea q, mset_nea q, mset_nea q]) ?_ (by rw [mset_nei (by omega), mset_nei (by omega), mset_nei (by omega), mset_nei (by omega), mset_nei (by omega), mset_nei (by omega)]; exact hB)
              rw [mset_row, mset_row, mset_row, mset_row, mset_row, mset_row]
              have hpo := hE.post hW hn hy9
              rw [h99, hy0] at hpo
              exact hpo
        · refine x_iconst (pc := 65) dX5_ends_65 ?_
          refine x_goto (pc := 66) (t := 70) dX5_ends_66 (by decide) ?_
          refine x_istore (pc := 70) dX5_ends_70 trivial (by decide) (L' := [(5, _), (4, _), (0, _), (1, _), (2, _), (3, _)]) rfl ?_
          refine x_aload_n (pc := 72) dX5_ends_72 rfl rfl ?_
          refine x_getr (pc := 73) (b := d + 1) fX5_7 dX5_ends_73 hd.1 rfl rfl ?_
          refine x_bipush (pc := 76) dX5_ends_76 (by decide) ?_
          refine x_iload_n (pc := 78) dX5_ends_78 rfl rfl ?_
          refine x_if_eq (pc := 79) (t := 86) dX5_ends_79 (by decide) ⟨by omega, by omega⟩ (fun c79 => ?_) (fun c79 => ?_)
          · exfalso; omega
          · refine x_iconst (pc := 82) dX5_ends_82 ?_
            refine x_goto (pc := 83) (t := 87) dX5_ends_83 (by decide) ?_
            refine x_iast (pc := 87) dX5_ends_87 hd.2.1 (by omega) (by omega) (by omega) ⟨by omega, by omega⟩ ?_
            refine x_aload_n (pc := 88) dX5_ends_88 rfl rfl ?_
            refine x_getr (pc := 89) (b := d + 1) fX5_7 dX5_ends_89 hd.1 rfl rfl ?_
            refine x_bipush (pc := 92) dX5_ends_92 (by decide) ?_
            refine x_dup2 (pc := 94) dX5_ends_94 rfl rfl ?_
            refine x_iald (pc := 95) dX5_ends_95 hd.2.1 (by omega) (by omega) (fun r95a r95b => ?_)
            try simp (disch := omega) only [mset_same, mset_nea, mset_nei, mcopy_nea, mcopy_in, mcopy_out, Int.reduceToNat, Int.toNat_natCast, Nat.zero_add, Nat.sub_zero] at r95a r95b ⊢
            rw [h99] at r95a r95b ⊢
            refine x_iload_n (pc := 96) dX5_ends_96 rfl rfl ?_
            refine x_if_eq (pc := 97) (t := 104) dX5_ends_97 (by decide) ⟨by omega, by omega⟩ (fun c97 => ?_) (fun c97 => ?_)
            · exfalso; omega
            · refine x_iconst (pc := 100) dX5_ends_100 ?_
              refine x_goto (pc := 101) (t := 105) dX5_ends_101 (by decide) ?_
              refine x_iadd (pc := 105) dX5_ends_105 ?_
              refine x_iast (pc := 106) dX5_ends_106 hd.2.1 (by omega) (by omega) (by omega) ⟨by omega, by omega⟩ ?_
              refine x_aload_n (pc := 107) dX5_ends_107 rfl rfl ?_
              refine x_getr (pc := 108) (b := d + 1) fX5_7 dX5_ends_108 hd.1 rfl rfl ?_
              refine x_bipush (pc := 111) dX5_ends_111 (by decide) ?_
              refine x_dup2 (pc := 113) dX5_ends_113 rfl rfl ?_
              refine x_iald (pc := 114) dX5_ends_114 hd.2.1 (by omega) (by omega) (fun r114a r114b => ?_)
              try simp (disch := omega) only [mset_same, mset_nea, mset_nei, mcopy_nea, mcopy_in, mcopy_out, Int.reduceToNat, Int.toNat_natCast, Nat.zero_add, Nat.sub_zero] at r114a r114b ⊢
              rw [hN] at r114a r114b ⊢
              refine x_iconst (pc := 115) dX5_ends_115 ?_
              refine x_iadd (pc := 116) dX5_ends_116 ?_
              refine x_iast (pc := 117) dX5_ends_117 hd.2.1 (by omega) (by omega) (by omega) ⟨by omega, by omega⟩ ?_
              refine X.loc [0, 1, 2, 3, 4, 5] (L' := [(5, _), (4, _), (0, _), (1, _), (2, _), (3, _)]) rfl ?_
              try simp only [Int.reduceToNat]
              rw [show (100 + 3 * (tN T : Int)).toNat = 100 + 3 * tN T by omega, show (100 + 3 * (tN T : Int) + 1).toNat = 100 + 3 * tN T + 1 by omega, show (100 + 3 * (tN T : Int) + 2).toNat = 100 + 3 * tN T + 2 by omega]
              refine mid _ _ (by omega) (by omega) (fun a j q => by rw [mset_nea q, mset_nea q, mset_nea q, mset_nea q, mset_nea q, mset_nea q]) ?_ (by rw [mset_nei (by omega), mset_nei (by omega), mset_nei (by omega), mset_nei (by omega), mset_nei (by omega), mset_nei (by omega)]; exact hB)
              rw [mset_row, mset_row, mset_row, mset_row, mset_row, mset_row]
              have hpo := hE.post hW hn hy9
              rw [h99, hy0] at hpo
              exact hpo
