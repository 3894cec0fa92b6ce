/-! The law's act: claim. -/
/-- a claim is added to a player's list -/
theorem LcL.add {g : GG} {lay lay2 : Lay} {M M2 : Mem} {c pl e : Nat} {kk kk2 : Nat → Nat} {ll ll2 : Nat → Nat → Nat → Int} {w : Nat → Int} {el : Nat → Nat → Nat} (g5 : g.2.2.1 5 < g.2.1) (hout : LsP g lay M (c + 2) 2 (fun i => c + 5 + 2 * i)) (ho1 : M (c + 2) 1 = er (c + 6)) (hin : ∀ p, p < 2 → LsP g lay M (c + 5 + 2 * p) (kk p) (el p) ∧ kk p ≤ 4 ∧ ∀ i, i < kk p → KN lay (el p i) (0, 5, fun _ => none) ∧ c + 8 ≤ el p i ∧ (∀ f, f < 5 → M (el p i) f = ll p i f) ∧ WfL 100 (ll p i)) (hx0 : ∀ x0 x1, M (c + 5) 1 = er x0 → M (c + 7) 1 = er x1 → g.2.1 ≤ x0 → x0 ≠ x1) (hx9 : ∀ p, p < 2 → ∀ x, M (c + 5 + 2 * p) 1 = er x → g.2.1 ≤ x → c + 8 ≤ x ∧ x < lay.2) (hpl : pl < 2) (hk : kk pl < 4) (he : KN lay e (0, 5, fun _ => none)) (hec : c + 8 ≤ e) (hw : ∀ f, f < 5 → M e f = w f) (E : Ext lay lay2) (p4 : ∀ y i, y < lay.2 → y ≠ c + 5 + 2 * pl → (∀ x, M (c + 5 + 2 * pl) 1 = er x → g.2.1 ≤ x → y ≠ x) → M2 y i = M y i) (hx4 : (M (c + 5 + 2 * pl) 1 = er (g.2.2.1 5) ∧ lay2.2 = lay.2 + 1 ∧ M2 (c + 5 + 2 * pl) 1 = er lay.2) ∨ (M (c + 5 + 2 * pl) 1 ≠ er (g.2.2.1 5) ∧ lay2 = lay ∧ M2 (c + 5 + 2 * pl) 1 = M (c + 5 + 2 * pl) 1)) (hL4 : LsP g lay2 M2 (c + 5 + 2 * pl) (kk pl + 1) (fun i => if i = kk pl then e else el pl i)) (k1 : kk2 pl = kk pl + 1) (k2 : ∀ p, p < 2 → p ≠ pl → kk2 p = kk p) (l1 : ∀ i, i < kk pl → ll2 pl i = ll pl i) (l2 : ∀ f, f < 5 → ll2 pl (kk pl) f = w f) (l3 : ∀ p i, p < 2 → p ≠ pl → ll2 p i = ll p i) (hww : WfL 100 (ll2 pl (kk pl))) : LcL g lay2 M2 c kk2 ll2 := by
  have wl := (hin pl hpl).1.2.1
  have ll0 := (hin pl hpl).1.1.2
  have hl0 := (hin 0 (by decide)).1.1
  have hl1 := (hin 1 (by decide)).1.1
  have b2 := hout.1.2
  have wo := hout.2.1
  have kx : ∀ x, M (c + 5 + 2 * pl) 1 = er x → g.2.1 ≤ x → KN lay x (8, 10, fun _ => none) := fun x z1 z2 => (hin pl hpl).1.ar z1 z2 g5
  -- cells that are no arrays of references stay
  have q : ∀ y i ky, KN lay y ky → ky.1 ≠ 8 → y ≠ c + 5 + 2 * pl → M2 y i = M y i := fun y i ky hy h8 hn => p4 y i hy.2 hn (fun x z1 z2 e9 => hy.ne (kx x z1 z2) (Or.inl h8) e9)
  -- the other list's array stays
  have qo : ∀ p x i, p < 2 → p ≠ pl → M (c + 5 + 2 * p) 1 = er x → g.2.1 ≤ x → M2 x i = M x i := fun p x i hp hn z1 z2 => by
    have h9 := hx9 p hp x z1 z2
    refine p4 x i h9.2 (by omega) (fun x2 y1 y2 e9 => ?_)
    subst e9
    rcases (show p = 0 ∧ pl = 1 ∨ p = 1 ∧ pl = 0 by omega) with ⟨rfl, rfl⟩ | ⟨rfl, rfl⟩
    · exact hx0 x x z1 y1 z2 rfl
    · exact hx0 x x y1 z1 z2 rfl
  refine ⟨fun p => if p = pl then (fun i => if i = kk pl then e else el pl i) else el p, hout.ext E (fun i => q _ i _ hout.1 (by decide) (by omega)) (fun x i z1 z2 => ?_), (q _ _ _ hout.1 (by decide) (by omega)).trans ho1, fun p hp => ?_, fun x0 x1 z1 z2 z3 e9 => ?_, fun p hp x z1 z2 => ?_⟩
  · have := er_inj (z1.symm.trans ho1)
    subst this
    exact p4 _ i (hout.ar ho1 z2 g5).2 (by omega) (fun x2 y1 y2 => by have := hx9 pl hpl x2 y1 y2; omega)
  · by_cases hpp : p = pl
    · subst hpp
      rw [k1]
      simp only [if_true]
      refine ⟨hL4, by omega, fun i hi => ?_⟩
      by_cases hii : i = kk p
      · subst hii
        simp only [if_true]
        exact ⟨he.ext E, hec, fun f hf => (q _ _ _ he (show (0 : Nat) ≠ 8 by decide) (by omega)).trans ((hw f hf).trans (l2 f hf).symm), hww⟩
      · simp only [if_neg hii]
        obtain ⟨g1, g2, g3, g4⟩ := (hin p hp).2.2 i (by omega)
        rw [l1 i (by omega)]
        exact ⟨g1.ext E, g2, fun f hf => (q _ _ _ g1 (show (0 : Nat) ≠ 8 by decide) (by omega)).trans (g3 f hf), g4⟩
    · simp only [if_neg hpp]
      obtain ⟨g1, g2, g3⟩ := hin p hp
      rw [k2 p hp hpp]
      refine ⟨g1.ext E (fun i => q _ i _ g1.1 (show (0 : Nat) ≠ 8 by decide) (by omega)) (fun x i z1 z2 => qo p x i hp hpp z1 z2), g2, fun i hi => ?_⟩
      obtain ⟨h1, h2, h3, h4⟩ := g3 i hi
      rw [l3 p i hp hpp]
      exact ⟨h1.ext E, h2, fun f hf => (q _ _ _ h1 (show (0 : Nat) ≠ 8 by decide) (by omega)).trans (h3 f hf), h4⟩
  · subst e9
    rcases (show pl = 0 ∨ pl = 1 by omega) with rfl | rfl
    · have z2' : M (c + 7) 1 = er x0 := (q (c + 7) 1 _ hl1 (show (0 : Nat) ≠ 8 by decide) (by omega)).symm.trans z2
      rcases hx4 with ⟨y1, y2, y3⟩ | ⟨y1, y2, y3⟩
      · have := er_inj (z1.symm.trans y3)
        have := hx9 1 (by decide) x0 z2' z3
        omega
      · exact hx0 x0 x0 (y3.symm.trans z1) z2' z3 rfl
    · have z1' : M (c + 5) 1 = er x0 := (q (c + 5) 1 _ hl0 (show (0 : Nat) ≠ 8 by decide) (by omega)).symm.trans z1
      rcases hx4 with ⟨y1, y2, y3⟩ | ⟨y1, y2, y3⟩
      · have := er_inj (z2.symm.trans y3)
        have := hx9 0 (by decide) x0 z1' z3
        omega
      · exact hx0 x0 x0 z1' (y3.symm.trans z2) z3 rfl
  · have e1 := E.1
    have e2 := he.2
    by_cases hpp : p = pl
    · subst hpp
      rcases hx4 with ⟨y1, y2, y3⟩ | ⟨y1, y2, y3⟩
      · have := er_inj (z1.symm.trans y3)
        omega
      · have := hx9 p hp x (y3.symm.trans z1) z2
        omega
    · have := hx9 p hp x ((q _ _ _ (hin p hp).1.1 (show (0 : Nat) ≠ 8 by decide) (by omega)).symm.trans z1) z2
      omega

