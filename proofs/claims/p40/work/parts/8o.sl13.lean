/-! The law's act: claim. -/
/-- a claim is added to a player's list -/
theorem LcL.add {g : GG} {lay lay2 : Lay} {M M2 : Mem} {c pl e : Nat} {kk kk2 : Nat → Nat} {ll ll2 : Nat → Nat → Nat → Int} {w : Nat → Int} {el : Nat → Nat → Nat} (g5 : g.2.2.1 5 < g.2.1) (hout : LsP g lay M (c + 2) 2 (fun i => c + 5 + 2 * i)) (ho1 : M (c + 2) 1 = er (c + 6)) (hin : ∀ p, p < 2 → LsP g lay M (c + 5 + 2 * p) (kk p) (el p) ∧ kk p ≤ 4 ∧ ∀ i, i < kk p → KN lay (el p i) (0, 5, fun _ => none) ∧ c + 8 ≤ el p i ∧ (∀ f, f < 5 → M (el p i) f = ll p i f) ∧ WfL 100 (ll p i)) (hx0 : ∀ x0 x1, M (c + 5) 1 = er x0 → M (c + 7) 1 = er x1 → g.2.1 ≤ x0 → x0 ≠ x1) (hx9 : ∀ p, p < 2 → ∀ x, M (c + 5 + 2 * p) 1 = er x → g.2.1 ≤ x → c + 8 ≤ x ∧ x < lay.2) (hpl : pl < 2) (hk : kk pl < 4) (he : KN lay e (0, 5, fun _ => none)) (hec : c + 8 ≤ e) (hw : ∀ f, f < 5 → M e f = w f) (E : Ext lay lay2) (p4 : ∀ y i, y < lay.2 → y ≠ c + 5 + 2 * pl → (∀ x, M (c + 5 + 2 * pl) 1 = er x → g.2.1 ≤ x → y ≠ x) → M2 y i = M y i) (hx4 : (M (c + 5 + 2 * pl) 1 = er (g.2.2.1 5) ∧ lay2.2 = lay.2 + 1 ∧ M2 (c + 5 + 2 * pl) 1 = er lay.2) ∨ (M (c + 5 + 2 * pl) 1 ≠ er (g.2.2.1 5) ∧ lay2 = lay ∧ M2 (c + 5 + 2 * pl) 1 = M (c + 5 + 2 * pl) 1)) (hL4 : LsP g lay2 M2 (c + 5 + 2 * pl) (kk pl + 1) (fun i => if i = kk pl then e else el pl i)) (k1 : kk2 pl = kk pl + 1) (k2 : ∀ p, p < 2 → p ≠ pl → kk2 p = kk p) (l1 : ∀ i, i < kk pl → ll2 pl i = ll pl i) (l2 : ∀ f, f < 5 → ll2 pl (kk pl) f = w f) (l3 : ∀ p i, p < 2 → p ≠ pl → ll2 p i = ll p i) (hww : WfL 100 (ll2 pl (kk pl))) : LcL g lay2 M2 c kk2 ll2 := by
  have wl := (hin pl hpl).1.2.1
  have ll0 := (hin pl hpl).1.1.2
  have hl0 := (hin 0 (by decide)).1.1
  have hl1 := (hin 1 (by decide)).1.1
  have b2 := hout.1.2
  have wo := hout.2.1
  have kx : ∀ x, M (c + 5 + 2 * pl) 1 = er x → g.2.1 ≤ x → KN lay x (8, 10, fun _ => none) := fun x z1 z2 => (hin pl hpl).1.ar z1 z2 g5
  -- cells that are no arrays of references stay
  have q : ∀ y i ky, KN lay y ky → ky.1 ≠ 8 → y ≠ c + 5 + 2 * pl → M2 y i = M y i := fun y i ky hy h8 hn => p4 y i hy.2 hn (fun x z1 z2 e9 => hy.ne (kx x z1 z2) (Or.inl h8) e9)
  -- the other list's array stays
  have qo : ∀ p x i, p < 2 → p ≠ pl → M (c + 5 + 2 * p) 1 = er x → g.2.1 ≤ x → M2 x i = M x i := fun p x i hp hn z1 z2 => by
    have h9 := hx9 p hp x z1 z2
    refine p4 x i h9.2 (by omega) (fun x2 y1 y2 e9 => ?_)
    subst e9
    rcases (show p = 0 ∧ pl = 1 ∨ p = 1 ∧ pl = 0 by omega) with ⟨rfl, rfl⟩ | ⟨rfl, rfl⟩
    · exact hx0 x x z1 y1 z2 rfl
    · exact hx0 x x y1 z1 z2 rfl
  refine ⟨fun p => if p = pl then (fun i => if i = kk pl then e else el pl i) else el p, hout.ext E (fun i => q _ i _ hout.1 (by decide) (by omega)) (fun x i z1 z2 => ?_), (q _ _ _ hout.1 (by decide) (by omega)).trans ho1, fun p hp => ?_, fun x0 x1 z1 z2 z3 e9 => ?_, fun p hp x z1 z2 => ?_⟩
  · have := er_inj (z1.symm.trans ho1)
    subst this
    exact p4 _ i (hout.ar ho1 z2 g5).2 (by omega) (fun x2 y1 y2 => by have := hx9 pl hpl x2 y1 y2; omega)
  · by_cases hpp : p = pl
    · subst hpp
      rw [k1]
      simp only [if_true]
      refine ⟨hL4, by omega, fun i hi => ?_⟩
      by_cases hii : i = kk p
      · subst hii
        simp only [if_true]
        exact ⟨he.ext E, hec, fun f hf => (q _ _ _ he (show (0 : Nat) ≠ 8 by decide) (by omega)).trans ((hw f hf).trans (l2 f hf).symm), hww⟩
      · simp only [if_neg hii]
        obtain ⟨g1, g2, g3, g4⟩ := (hin p hp).2.2 i (by omega)
        rw [l1 i (by omega)]
        exact ⟨g1.ext E, g2, fun f hf => (q _ _ _ g1 (show (0 : Nat) ≠ 8 by decide) (by omega)).trans (g3 f hf), g4⟩
    · simp only [if_neg hpp]
      obtain ⟨g1, g2, g3⟩ := hin p hp
      rw [k2 p hp hpp]
      refine ⟨g1.ext E (fun i => q _ i _ g1.1 (show (0 : Nat) ≠ 8 by decide) (by omega)) (fun x i z1 z2 => qo p x i hp hpp z1 z2), g2, fun i hi => ?_⟩
      obtain ⟨h1, h2, h3, h4⟩ := g3 i hi
      rw [l3 p i hp hpp]
      exact ⟨h1.ext E, h2, fun f hf => (q _ _ _ h1 (show (0 : Nat) ≠ 8 by decide) (by omega)).trans (h3 f hf), h4⟩
  · subst e9
    rcases (show pl = 0 ∨ pl = 1 by omega) with rfl | rfl
    · have z2' : M (c + 7) 1 = er x0 := (q (c + 7) 1 _ hl1 (show (0 : Nat) ≠ 8 by decide) (by omega)).symm.trans z2
      rcases hx4 with ⟨y1, y2, y3⟩ | ⟨y1, y2, y3⟩
      · have := er_inj (z1.symm.trans y3)
        have := hx9 1 (by decide) x0 z2' z3
        omega
      · exact hx0 x0 x0 (y3.symm.trans z1) z2' z3 rfl
    · have z1' : M (c + 5) 1 = er x0 := (q (c + 5) 1 _ hl0 (show (0 : Nat) ≠ 8 by decide) (by omega)).symm.trans z1
      rcases hx4 with ⟨y1, y2, y3⟩ | ⟨y1, y2, y3⟩
      · have := er_inj (z2.symm.trans y3)
        have := hx9 0 (by decide) x0 z1' z3
        omega
      · exact hx0 x0 x0 z1' (y3.symm.trans z2) z3 rfl
  · have e1 := E.1
    have e2 := he.2
    by_cases hpp : p = pl
    · subst hpp
      rcases hx4 with ⟨y1, y2, y3⟩ | ⟨y1, y2, y3⟩
      · have := er_inj (z1.symm.trans y3)
        omega
      · have := hx9 p hp x (y3.symm.trans z1) z2
        omega
    · have := hx9 p hp x ((q _ _ _ (hin p hp).1.1 (show (0 : Nat) ≠ 8 by decide) (by omega)).symm.trans z1) z2
      omega

/-- a new cell was made, and draws went on -/
theorem LwI.new {g : GG} {lay lay2 : Lay} {M M2 : Mem} {d b c t pw nn n2 : Nat} {hc : Int} {sx : List Int} {T : CT} (h : LwI g lay M d b c t pw nn hc sx T) (E : Ext lay lay2) (p : ∀ y i, y < lay.2 → y ≠ d → M2 y i = M y i) (hT2 : ToP g lay2 M2 d n2) : LwI g lay2 M2 d b c t pw n2 hc sx T := by
  obtain ⟨⟨h1, h2, h2b⟩, hJ, hT, hD, ⟨A, u, hA, hu⟩, ⟨tx, n, v, cm, hR, hC⟩, hQ, hL, hS⟩ := h
  have bw := hT.2.1
  have b1 := hS.lt
  exact ⟨⟨h1, h2, h2b⟩, hJ.ext E (n := g.2.1) (fun y i hy => p y i (by omega) (by omega)) (Nat.le_refl _), hT2, hD.ext E (fun y i y1 y2 => p y i (by omega) (by omega)), ⟨A, u, hA.mem (fun i => p _ i (by omega) (by omega)) (fun i => p _ i (by omega) (by omega)), hu⟩, ⟨tx, n, v, cm, hR.mem (fun y i y1 y2 => p y i (by omega) (by omega)), hC.mem (fun i => p _ i (by omega) (by omega))⟩, hQ.ext E (fun y i y1 y2 => p y i (by omega) (by omega)), hL.ext E (fun y i y1 y2 _ _ => p y i (by omega) (by omega)), hS.fr E (fun i => p _ i (by omega) (by omega)) (fun v cap hv hv2 i => p _ i hv.2 (by omega))⟩
/-- the law's lists changed -/
theorem LwJ.lists {g : GG} {lay lay2 : Lay} {M M2 : Mem} {d b c t pw nn pl : Nat} {sx : List Int} {T : CT} {S P La : Nat → Int} {tn : Nat} {hp hc ov bt : Int} {kk kk2 : Nat → Nat} {ll ll2 : Nat → Nat → Nat → Int} (h : LwJ g lay M d b c t pw nn sx T S P La tn hp hc ov bt kk ll) (hpl : pl < 2) (E : Ext lay lay2) (hx8 : ∀ x, M (c + 5 + 2 * pl) 1 = er x → g.2.1 ≤ x → KN lay x (8, 10, fun _ => none) ∧ c + 8 ≤ x) (p4 : ∀ y i, y < lay.2 → y ≠ c + 5 + 2 * pl → (∀ x, M (c + 5 + 2 * pl) 1 = er x → g.2.1 ≤ x → y ≠ x) → M2 y i = M y i) (hL2 : LcL g lay2 M2 c kk2 ll2) : LwJ g lay2 M2 d b c t pw nn sx T S P La tn hp hc ov bt kk2 ll2 := by
  obtain ⟨⟨h1, h2, h2b⟩, hJ, hT, hD, ⟨A, u, hA, hu⟩, ⟨tx, n, v, cm, hR, hC⟩, hQ, hL, hS⟩ := h
  have bw := hT.2.1
  have b1 := hS.lt
  have q : ∀ y i, y < c + 5 → M2 y i = M y i := fun y i hy => p4 y i (by omega) (by omega) (fun x z1 z2 => by have := (hx8 x z1 z2).2; omega)
  have hk := hS.kn
  refine ⟨⟨h1, h2, h2b⟩, hJ.ext E (n := g.2.1) (fun y i hy => q y i (by omega)) (Nat.le_refl _), hT.ext E (fun i => q _ i (by omega)), hD.ext E (fun y i y1 y2 => q y i (by omega)), ⟨A, u, hA.mem (fun i => q _ i (by omega)) (fun i => q _ i (by omega)), hu⟩, ⟨tx, n, v, cm, hR.mem (fun y i y1 y2 => q y i (by omega)), hC.mem (fun i => q _ i (by omega))⟩, hQ.ext E (fun y i y1 y2 => q y i (by omega)), hL2, hS.fr E (fun i => p4 _ i b1 (by omega) (fun x z1 z2 => hk.ne (hx8 x z1 z2).1 (Or.inl (show (0 : Nat) ≠ 8 by decide)))) (fun v cap hv hv2 i => p4 _ i hv.2 (by omega) (fun x z1 z2 => hv.ne (hx8 x z1 z2).1 (Or.inl (show (3 : Nat) ≠ 8 by decide))))⟩
theorem LcQ.hcs {g : GG} {lay : Lay} {M : Mem} {c pw : Nat} {S P La : Nat → Int} {tn : Nat} {hp hc ov bt : Int} (h : LcQ g lay M c pw S P La tn hp hc ov bt) (x : Int) : LcQ g lay (mset M c 11 x) c pw S P La tn hp x ov bt := by
  obtain ⟨⟨h1, h2, h3, h4⟩, ⟨h5, h6, h7⟩, h8, h9, h10, h11, h12, h13, h14, h15⟩ := h
  have q : ∀ i, i ≠ 11 → mset M c 11 x c i = M c i := fun i hi => mset_nei hi
  exact ⟨⟨h1, h2, h3, h4⟩, ⟨(q _ (by decide)).trans h5, (q _ (by decide)).trans h6, (q _ (by decide)).trans h7⟩, fun j hj => (mset_nea (by omega)).trans (h8 j hj), fun j hj => (mset_nea (by omega)).trans (h9 j hj), fun i hi => (q _ (by omega)).trans (h10 i hi), (q _ (by decide)).trans h11, (q _ (by decide)).trans h12, mset_same, (q _ (by decide)).trans h14, (q _ (by decide)).trans h15⟩
theorem LInv.claim {T : CT} {pw : Nat} {hc a b r l s : Int} (hV : LInv T pw hc) (h0 : tO T = 0) : LInv (tClaim T a b r l s) pw 1 := by
  obtain ⟨hO, hB, hNc, hh, hP⟩ := hV
  have hcl : hasClaim (tClaim T a b r l s) := by
    show 0 < (if tN T % 2 = tN T % 2 then tK T (tN T % 2) + 1 else tK T (tN T % 2)) ∧ (if tN T % 2 = tN T % 2 ∧ (if tN T % 2 = tN T % 2 then tK T (tN T % 2) + 1 else tK T (tN T % 2)) - 1 = tK T (tN T % 2) then mkL a b r l s (tN T) else tL T (tN T % 2) ((if tN T % 2 = tN T % 2 then tK T (tN T % 2) + 1 else tK T (tN T % 2)) - 1)) 5 = (tN T : Nat)
    rw [if_pos rfl, if_pos ⟨rfl, by omega⟩]
    exact ⟨by omega, rfl⟩
  exact ⟨hO, hB, fun h => by
    have : tO T = 1 := h
    omega, ⟨Or.inr rfl, fun _ => ⟨fun _ => hcl, fun _ => rfl⟩⟩, hP⟩
set_option maxRecDepth 100000 in
theorem law_claim {g : GG} {lay : Lay} {M : Mem} {K : KK} {cn ck : Nat} {kx : Int} {d b c t pw nn : Nat} {hc st : Int} {sx : List Int} {T : CT} (gB : GoodB) (hI : LwI g lay M d b c t pw nn hc sx T) (hV : LInv T pw hc) (hcn : cn ≤ 90000) (hck : ck ≤ 3900000) (hnn : nn ≤ 90000) (k : ∀ lay2 M2 hc2 nn2 cn2 ck2 T2, nn2 ≤ nn + 5 → cn2 ≤ cn + 8 → ck2 ≤ ck + 80 → (T2 = T ∨ ∃ a y1 r l s, (intvP a y1 ∧ (0 ≤ r ∧ r ≤ 4) ∧ (0 ≤ l ∧ l ≤ 1) ∧ (1 ≤ s ∧ s ≤ 9)) ∧ whyClaimF T a y1 s = 0 ∧ T2 = actClaim T a y1 r l s) → LwI g lay2 M2 d b c t pw nn2 hc2 sx T2 → LInv T2 pw hc2 → X g m_L_law cn2 ck2 lay2 M2 730 [(13, vI kx), (1, vR d), (2, vR b), (3, vI (pw : Nat)), (7, vI (tS T 4)), (10, vR c), (11, vR t), (12, vI (st - 6))] [] K) : X g m_L_law cn ck lay M 382 [(13, vI kx), (1, vR d), (2, vR b), (3, vI (pw : Nat)), (7, vI (tS T 4)), (10, vR c), (11, vR t), (12, vI (st - 6))] [] K := by
  have hWf : WfT T := hI.2.2.2.1.2.2.2.2
  obtain ⟨hO, hB, hNc, hh, hP⟩ := id hV
  have hWl := LcW.of hWf hP hh
  have ha1 := hI.1
  have w1 := hWl.1
  have hPw := hP.1
  have n60 := hWf.n60
  have oo := hWf.2.2.2.2.2.2.1
  have bb9 := hWf.2.2.2.2.2.2.2
  have s60 := hWf.1.2.2.1
  have gw := hI.2.2.2.1.2.1
  have lbt := hI.2.2.2.2.2.2.2.2.lt
  have gd9 := hI.2.2.1.2.1
  have hdk := hI.2.2.1.1
  refine x_aload_n (pc := 382) dL_law_382 rfl rfl ?_
  refine x_bipush (pc := 383) dL_law_383 (by decide) ?_
  refine x_callV (pc := 385) [_] rfl kL_113 dL_law_385 hdk.1 rfl rfl (by decide) (Nat.le_of_ble_eq_true rfl) (Nat.le_of_ble_eq_true rfl) (show _ + 0 ≤ 600086 ∧ _ + 0 ≤ 7301442 by omega) ?_
  refine sp_X7_next hI.2.2.1 (by omega) ⟨by omega, by omega⟩ (fun z1 M3 z1a z1b p3 hT => ?_)
  have hp := fun y i (h1 : y < lay.2) (h2 : y ≠ d) => p3 y i h2
  refine ⟨_, rfl, ?_⟩
  refine X.cs (cn' := cn) (ck' := ck) ?_ (Nat.le_refl _) (Nat.le_refl _)
  refine x_bipush (pc := 388) dL_law_388 (by decide) ?_
  refine x_isub (pc := 390) dL_law_390 ?_
  refine x_istore (pc := 391) dL_law_391 trivial (by decide) (L' := [(15, _), (13, _), (1, _), (2, _), (3, _), (7, _), (10, _), (11, _), (12, _)]) rfl ?_
  refine x_newH (pc := 393) cnL_166 dL_law_393 (show _ + 1 ≤ 600086 ∧ _ + 5 ≤ 7301442 by omega) (fun q lay2 M4 e0 e1 E hpn hq zq => ?_)
  refine X.cs (cn' := cn + 1) (ck' := ck + 5) ?_ (Nat.le_refl _) (Nat.le_refl _)
  have hT := hT.ext E (fun i => hpn _ i (by have := hT.1.2; omega))
  have hp := fun y i (h1 : y < lay.2) (h2 : y ≠ d) => (hpn y i (by omega)).trans (hp y i h1 h2)
  have hdk := hdk.ext E
  refine x_dup (pc := 396) dL_law_396 rfl ?_
  refine x_iload (pc := 397) dL_law_397 rfl ?_
  refine x_iload (pc := 399) dL_law_399 rfl ?_
  refine x_iconst (pc := 401) dL_law_401 ?_
  refine x_iadd (pc := 402) dL_law_402 ?_
  refine x_aload_n (pc := 403) dL_law_403 rfl rfl ?_
  refine x_bipush (pc := 404) dL_law_404 (by decide) ?_
  refine x_iload (pc := 406) dL_law_406 rfl ?_
  refine x_isub (pc := 408) dL_law_408 ?_
  refine x_callV (pc := 409) [_] rfl kL_113 dL_law_409 hdk.1 rfl rfl (by decide) (Nat.le_of_ble_eq_true rfl) (Nat.le_of_ble_eq_true rfl) (show _ + 0 ≤ 600086 ∧ _ + 0 ≤ 7301442 by omega) ?_
  refine sp_X7_next hT (by omega) ⟨by omega, by omega⟩ (fun z2 M3 z2a z2b p3 hT => ?_)
  have hp := fun y i (h1 : y < lay.2) (h2 : y ≠ d) => (p3 y i h2).trans (hp y i h1 h2)
  refine ⟨_, rfl, ?_⟩
  refine X.cs (cn' := cn + 1) (ck' := ck + 5) ?_ (Nat.le_refl _) (Nat.le_refl _)
  refine x_iadd (pc := 412) dL_law_412 ?_
  refine x_aload_n (pc := 413) dL_law_413 rfl rfl ?_
  refine x_iconst (pc := 414) dL_law_414 ?_
  refine x_callV (pc := 415) [_] rfl kL_113 dL_law_415 hdk.1 rfl rfl (by decide) (Nat.le_of_ble_eq_true rfl) (Nat.le_of_ble_eq_true rfl) (show _ + 0 ≤ 600086 ∧ _ + 0 ≤ 7301442 by omega) ?_
  refine sp_X7_next hT (by omega) ⟨by omega, by omega⟩ (fun z3 M3 z3a z3b p3 hT => ?_)
  have hp := fun y i (h1 : y < lay.2) (h2 : y ≠ d) => (p3 y i h2).trans (hp y i h1 h2)
  refine ⟨_, rfl, ?_⟩
  refine X.cs (cn' := cn + 1) (ck' := ck + 5) ?_ (Nat.le_refl _) (Nat.le_refl _)
  refine x_aload_n (pc := 418) dL_law_418 rfl rfl ?_
  refine x_iconst (pc := 419) dL_law_419 ?_
  refine x_callV (pc := 420) [_] rfl kL_113 dL_law_420 hdk.1 rfl rfl (by decide) (Nat.le_of_ble_eq_true rfl) (Nat.le_of_ble_eq_true rfl) (show _ + 0 ≤ 600086 ∧ _ + 0 ≤ 7301442 by omega) ?_
  refine sp_X7_next hT (by omega) ⟨by omega, by omega⟩ (fun z4 M3 z4a z4b p3 hT => ?_)
  have hp := fun y i (h1 : y < lay.2) (h2 : y ≠ d) => (p3 y i h2).trans (hp y i h1 h2)
  refine ⟨_, rfl, ?_⟩
  refine X.cs (cn' := cn + 1) (ck' := ck + 5) ?_ (Nat.le_refl _) (Nat.le_refl _)
  refine x_if_ne (pc := 423) (t := 430) dL_law_423 (by decide) ⟨by omega, by omega⟩ (fun c423 => ?_) (fun c423 => ?_)
  · refine x_iconst (pc := 430) dL_law_430 ?_
    refine x_iconst (pc := 431) dL_law_431 ?_
    refine x_aload_n (pc := 432) dL_law_432 rfl rfl ?_
    refine x_bipush (pc := 433) dL_law_433 (by decide) ?_
    refine x_callV (pc := 435) [_] rfl kL_113 dL_law_435 hdk.1 rfl rfl (by decide) (Nat.le_of_ble_eq_true rfl) (Nat.le_of_ble_eq_true rfl) (show _ + 0 ≤ 600086 ∧ _ + 0 ≤ 7301442 by omega) ?_
    refine sp_X7_next hT (by omega) ⟨by omega, by omega⟩ (fun z5 M3 z5a z5b p3 hT => ?_)
    have hp := fun y i (h1 : y < lay.2) (h2 : y ≠ d) => (p3 y i h2).trans (hp y i h1 h2)
    refine ⟨_, rfl, ?_⟩
    refine X.cs (cn' := cn + 1) (ck' := ck + 5) ?_ (Nat.le_refl _) (Nat.le_refl _)
    refine x_iadd (pc := 438) dL_law_438 ?_
    refine x_callP (pc := 439) [_, _, _, _, _] rfl kpL_168 dL_law_439 rfl (by decide) (Nat.le_of_ble_eq_true rfl) (Nat.le_of_ble_eq_true rfl) (show _ + 0 ≤ 600086 ∧ _ + 0 ≤ 7301442 by omega) ?_
    refine sp_X5_init hq (by omega) ⟨by omega, by omega⟩ ⟨by omega, by omega⟩ ⟨by omega, by omega⟩ ⟨by omega, by omega⟩ ⟨by omega, by omega⟩ (fun M5 p5 hf => ?_)
    have hT := hT.ext (M2 := M5) Ext.rf (fun i => p5 _ i (by omega))
    have hI := hI.new E (fun y i h1 h2 => (p5 y i (by omega)).trans (hp y i h1 h2)) hT
    refine ⟨_, rfl, ?_⟩
    refine X.cs (cn' := cn + 1) (ck' := ck + 5) ?_ (Nat.le_refl _) (Nat.le_refl _)
    refine x_astore (pc := 442) dL_law_442 trivial (by decide) (L' := [(16, _), (15, _), (13, _), (1, _), (2, _), (3, _), (7, _), (10, _), (11, _), (12, _)]) rfl ?_
    refine x_aload (pc := 444) dL_law_444 rfl ?_
    refine x_aload (pc := 446) dL_law_446 rfl ?_
    refine x_callV (pc := 448) [_] rfl kL_171 dL_law_448 hI.2.2.2.2.2.2.1.1.1.1 rfl rfl (by decide) (Nat.le_of_ble_eq_true rfl) (Nat.le_of_ble_eq_true rfl) (show _ + 1 ≤ 600086 ∧ _ + 4 ≤ 7301442 by omega) ?_
    obtain ⟨wv, hwv⟩ : ∃ wv, wv = whyClaimF T (z1 - 20) (z1 - 20 + 1 + z2) (1 + z5) := ⟨_, rfl⟩
    refine sp_X6_whyClaim hI.2.2.2.2.2.2.1 hWl hI.2.1 hI.2.2.2.2.2.2.2.1 hq (by omega) (hf 0 (by decide)) (hf 1 (by decide)) (hf 4 (by decide)) ⟨by show -20 ≤ z1 - 20; omega, by show z1 - 20 < z1 - 20 + 1 + z2; omega, by show z1 - 20 + 1 + z2 ≤ 20; omega⟩ ⟨by show 1 ≤ 1 + z5; omega, by show 1 + z5 ≤ 9; omega⟩ (fun z lay3 M6 E3 p6 hz => ?_)
    obtain rfl : wv = z := hwv.trans (wcl_F hh hz).symm
    have hI := hI.scr E3 (fun y i h _ => p6 y i h)
    have lq9 := hq.2
    have hq := hq.ext E3
    have hf : ∀ f, f < 5 → M6 q f = mkL (z1 - 20) (z1 - 20 + 1 + z2) z3 0 (1 + z5) 0 f := fun f h => (p6 _ _ lq9).trans (hf f h)
    have v0 : M6 q 0 = z1 - 20 := hf 0 (by decide)
    have v1 : M6 q 1 = z1 - 20 + 1 + z2 := hf 1 (by decide)
    have v2 : M6 q 2 = z3 := hf 2 (by decide)
    have v3 : M6 q 3 = 0 := hf 3 (by decide)
    have v4 : M6 q 4 = 1 + z5 := hf 4 (by decide)
    obtain ⟨A, u, hA, hu0, hu1⟩ := hI.2.2.2.2.1
    refine ⟨_, rfl, ?_⟩
    refine X.cs (cn' := cn + 2) (ck' := ck + 9) ?_ (Nat.le_refl _) (Nat.le_refl _)
    refine x_istore (pc := 451) dL_law_451 trivial (by decide) (L' := [(17, _), (16, _), (15, _), (13, _), (1, _), (2, _), (3, _), (7, _), (10, _), (11, _), (12, _)]) rfl ?_
    refine x_aload_n (pc := 453) dL_law_453 rfl rfl ?_
    refine x_aload (pc := 454) dL_law_454 rfl ?_
    refine x_getiN (pc := 456) frL_175 dL_law_456 hq.1 rfl (fun r456a r456b => ?_)
    rw [v0]
    refine x_aload (pc := 459) dL_law_459 rfl ?_
    refine x_getiN (pc := 461) frL_179 dL_law_461 hq.1 rfl (fun r461a r461b => ?_)
    rw [v1]
    refine x_aload (pc := 464) dL_law_464 rfl ?_
    refine x_getiN (pc := 466) frL_182 dL_law_466 hq.1 rfl (fun r466a r466b => ?_)
    rw [v2]
    refine x_aload (pc := 469) dL_law_469 rfl ?_
    refine x_getzN (pc := 471) frL_184 dL_law_471 hq.1 rfl (fun r471a r471b => ?_)
    rw [v3]
    refine x_aload (pc := 474) dL_law_474 rfl ?_
    refine x_getiN (pc := 476) frL_188 dL_law_476 hq.1 rfl (fun r476a r476b => ?_)
    rw [v4]
    refine x_callV (pc := 479) [_, _, _, _, _] rfl kL_191 dL_law_479 hI.2.2.2.1.1.1 rfl rfl (by decide) (Nat.le_of_ble_eq_true rfl) (Nat.le_of_ble_eq_true rfl) (show _ + 1 ≤ 600086 ∧ _ + 6 ≤ 7301442 by omega) ?_
    refine sp_X4_claim gB hI.2.2.2.1.1 hI.2.2.2.1.2.1 hI.2.2.2.1.2.2.2.1 hWf hA ⟨hu0, hu1⟩ hO ⟨by omega, by omega⟩ ⟨by omega, by omega⟩ ⟨by omega, by omega⟩ (by omega) ⟨by omega, by omega⟩ (fun h => absurd ⟨⟨⟨by omega, by omega⟩, ⟨by omega, by omega⟩, by omega⟩, ⟨by omega, by omega⟩, ⟨by omega, by omega⟩⟩ h) (fun _ M2 hAc hCt hDh => ?_)
    have hI := hI.act hAc hCt (actClaim_wf hWf hO ⟨⟨by omega, by omega⟩, ⟨by omega, by omega⟩, by omega⟩ ⟨by omega, by omega⟩ ⟨by omega, by omega⟩ ⟨by omega, by omega⟩).1 hDh (undF_u ⟨hu0, hu1⟩)
    have hf : ∀ f, f < 5 → M2 q f = mkL (z1 - 20) (z1 - 20 + 1 + z2) z3 0 (1 + z5) 0 f := fun f h => (hAc _ _ (by omega) (by omega) (by omega)).trans (hf f h)
    have hcn := whyClaim_rng T (z1 - 20) (z1 - 20 + 1 + z2) (1 + z5)
    rw [← hwv] at hcn ⊢
    refine ⟨_, rfl, ?_⟩
    refine X.cs (cn' := cn + 3) (ck' := ck + 15) ?_ (Nat.le_refl _) (Nat.le_refl _)
    refine x_iload (pc := 482) dL_law_482 rfl ?_
    refine x_icmp_eq (pc := 484) (t := 489) dL_law_484 (by decide) ⟨by omega, by omega⟩ ⟨by omega, by omega⟩ (fun c484 => ?_) (fun c484 => ?_)
    · have ov9 : wv = 0 → tO T = 0 := fun h => oo.resolve_right (fun h1 => by
        have h2 : wv = 1 := hwv.trans (if_pos h1)
        omega)
      have kr9 : wv = 0 → tK T (tN T % 2) < 4 := fun h => by
        have h2 := hwv.symm.trans h
        have h3 := hWf.2.2.2.2.1 (tN T % 2)
        unfold whyClaimF at h2
        split at h2
        · omega
        · split at h2
          · omega
          · split at h2 <;> omega
      refine x_iload (pc := 489) dL_law_489 rfl ?_
      refine x_if_ne (pc := 491) (t := 522) dL_law_491 (by decide) ⟨by omega, by omega⟩ (fun c491 => ?_) (fun c491 => ?_)
      · refine x_goto (pc := 522) (t := 730) dL_law_522 (by decide) ?_
        refine X.loc [3, 4, 5, 6, 7, 8, 9, 10] (L' := [(13, _), (1, _), (2, _), (3, _), (7, _), (10, _), (11, _), (12, _)]) rfl ?_
        first
        | (have e : actClaim T (z1 - 20) (z1 - 20 + 1 + z2) z3 0 (1 + z5) = T := if_neg (by omega)
           rw [e] at hI
           exact k _ _ hc _ _ _ T (by omega) (by omega) (by omega) (Or.inl rfl) hI hV)
        | (have e : actClaim T (z1 - 20) (z1 - 20 + 1 + z2) z3 0 (1 + z5) = tClaim T (z1 - 20) (z1 - 20 + 1 + z2) z3 0 (1 + z5) := if_pos (by omega)
           rw [e] at hI
           have hI2 : LwI g lay4 (mset M7 c 11 1) d b c t pw (nn + 1 + 1 + 1 + 1 + 1) 1 sx (tClaim T (z1 - 20) (z1 - 20 + 1 + z2) z3 0 (1 + z5)) := hI.law (fun y i y1 _ _ => mset_nea y1) (hI.2.2.2.2.2.2.1.hcs 1)
           exact k _ _ 1 _ _ _ _ (by omega) (by omega) (by omega) (Or.inr ⟨z1 - 20, z1 - 20 + 1 + z2, z3, 0, 1 + z5, ⟨⟨⟨by omega, by omega⟩, ⟨by omega, by omega⟩, by omega⟩, ⟨by omega, by omega⟩, ⟨by omega, by omega⟩, ⟨by omega, by omega⟩⟩, by omega, e.symm⟩) hI2 (hV.claim hz9))
      · have hz9 := ov9 (by omega)
        have hk9 := kr9 (by omega)
        obtain ⟨el, hout, ho1, hin, hx0, hx9⟩ := id hI.2.2.2.2.2.2.2.1
        obtain ⟨hl, hl4, hlc⟩ := hin (tN T % 2) (by omega)
        refine x_aload (pc := 494) dL_law_494 rfl ?_
        refine x_getrN (pc := 496) (b := (c + 2)) frL_195 dL_law_496 hI.2.2.2.2.2.2.1.1.1.1 rfl hI.2.2.2.2.2.2.1.2.1.2.2 rfl ?_
        refine x_aload (pc := 499) dL_law_499 rfl ?_
        refine x_callV (pc := 501) [] rfl kL_91 dL_law_501 hI.2.2.2.2.2.2.1.1.1.1 rfl rfl (by decide) (Nat.le_of_ble_eq_true rfl) (Nat.le_of_ble_eq_true rfl) (show _ + 0 ≤ 600086 ∧ _ + 0 ≤ 7301442 by omega) ?_
        refine sp_X6_whose hI.2.2.2.2.2.2.1 hWl ?_
        refine ⟨_, rfl, ?_⟩
        refine X.cs (cn' := cn + 3) (ck' := ck + 15) ?_ (Nat.le_refl _) (Nat.le_refl _)
        refine x_callV (pc := 504) [_] rfl kL_199 dL_law_504 hout.1.1 rfl rfl (by decide) (Nat.le_of_ble_eq_true rfl) (Nat.le_of_ble_eq_true rfl) (show _ + 0 ≤ 600086 ∧ _ + 0 ≤ 7301442 by omega) ?_
        refine sp_Ls_get hout (by omega) ?_
        refine ⟨_, rfl, ?_⟩
        refine X.cs (cn' := cn + 3) (ck' := ck + 15) ?_ (Nat.le_refl _) (Nat.le_refl _)
        refine x_castC (pc := 507) clL_200 dL_law_507 hl.1.1 rfl ?_
        refine x_aload (pc := 510) dL_law_510 rfl ?_
        refine x_callV (pc := 512) [_] rfl kL_205 dL_law_512 hl.1.1 rfl rfl (by decide) (Nat.le_of_ble_eq_true rfl) (Nat.le_of_ble_eq_true rfl) (show _ + 1 ≤ 600086 ∧ _ + 10 ≤ 7301442 by omega) ?_
        refine sp_Ls_add hI.2.1 hl hq ⟨_, rfl, by decide⟩ (by omega) (fun lay4 M7 E4 p4 hx4 hL4 => ?_)
        have ekk : ∀ p, tK (tClaim T (z1 - 20) (z1 - 20 + 1 + z2) z3 0 (1 + z5)) p = if p = tN T % 2 then tK T p + 1 else tK T p := fun _ => rfl
        have ell : ∀ p i, tL (tClaim T (z1 - 20) (z1 - 20 + 1 + z2) z3 0 (1 + z5)) p i = if p = tN T % 2 ∧ i = tK T p then mkL (z1 - 20) (z1 - 20 + 1 + z2) z3 0 (1 + z5) (tN T) else tL T p i := fun _ _ => rfl
        have hLL := LcL.add (kk2 := tK (tClaim T (z1 - 20) (z1 - 20 + 1 + z2) z3 0 (1 + z5))) (ll2 := tL (tClaim T (z1 - 20) (z1 - 20 + 1 + z2) z3 0 (1 + z5))) hI.2.1.2.2.1.2 hout ho1 hin hx0 hx9 (by omega) hk9 hq (by omega) hf E4 p4 hx4 hL4 (by rw [ekk, if_pos rfl]) (fun p _ h => by rw [ekk, if_neg h]) (fun i hi => by rw [ell, if_neg (by omega)]) (fun f hf5 => by
          rw [ell, if_pos ⟨rfl, rfl⟩]
          rcases (show f = 0 ∨ f = 1 ∨ f = 2 ∨ f = 3 ∨ f = 4 by omega) with rfl | rfl | rfl | rfl | rfl <;> rfl) (fun p i _ h => by rw [ell, if_neg (fun h2 => h h2.1)]) (by
          rw [ell, if_pos ⟨rfl, rfl⟩]
          unfold WfL
          simp only [mkL]
          omega)
        have hI := hI.lists (by omega) E4 (fun x y1 y2 => ⟨hl.ar y1 y2 hI.2.1.2.2.1.2, (hx9 _ (by omega) x y1 y2).1⟩) p4 hLL
        refine ⟨_, rfl, ?_⟩
        refine X.cs (cn' := cn + 4) (ck' := ck + 25) ?_ (Nat.le_refl _) (Nat.le_refl _)
        refine x_pop (pc := 515) dL_law_515 rfl ?_
        refine x_aload (pc := 516) dL_law_516 rfl ?_
        refine x_iconst (pc := 518) dL_law_518 ?_
        refine x_putzN (pc := 519) fwL_209 dL_law_519 hI.2.2.2.2.2.2.1.1.1.1 hI.2.2.2.2.2.2.1.1.2.2.2 rfl ⟨by omega, by omega⟩ ?_
        refine x_goto (pc := 522) (t := 730) dL_law_522 (by decide) ?_
        refine X.loc [3, 4, 5, 6, 7, 8, 9, 10] (L' := [(13, _), (1, _), (2, _), (3, _), (7, _), (10, _), (11, _), (12, _)]) rfl ?_
        first
        | (have e : actClaim T (z1 - 20) (z1 - 20 + 1 + z2) z3 0 (1 + z5) = T := if_neg (by omega)
           rw [e] at hI
           exact k _ _ hc _ _ _ T (by omega) (by omega) (by omega) (Or.inl rfl) hI hV)
        | (have e : actClaim T (z1 - 20) (z1 - 20 + 1 + z2) z3 0 (1 + z5) = tClaim T (z1 - 20) (z1 - 20 + 1 + z2) z3 0 (1 + z5) := if_pos (by omega)
           rw [e] at hI
           have hI2 : LwI g lay4 (mset M7 c 11 1) d b c t pw (nn + 1 + 1 + 1 + 1 + 1) 1 sx (tClaim T (z1 - 20) (z1 - 20 + 1 + z2) z3 0 (1 + z5)) := hI.law (fun y i y1 _ _ => mset_nea y1) (hI.2.2.2.2.2.2.1.hcs 1)
           exact k _ _ 1 _ _ _ _ (by omega) (by omega) (by omega) (Or.inr ⟨z1 - 20, z1 - 20 + 1 + z2, z3, 0, 1 + z5, ⟨⟨⟨by omega, by omega⟩, ⟨by omega, by omega⟩, by omega⟩, ⟨by omega, by omega⟩, ⟨by omega, by omega⟩, ⟨by omega, by omega⟩⟩, by omega, e.symm⟩) hI2 (hV.claim hz9))
    · exfalso; omega
  · refine x_iconst (pc := 426) dL_law_426 ?_
    refine x_goto (pc := 427) (t := 431) dL_law_427 (by decide) ?_
    refine x_iconst (pc := 431) dL_law_431 ?_
    refine x_aload_n (pc := 432) dL_law_432 rfl rfl ?_
    refine x_bipush (pc := 433) dL_law_433 (by decide) ?_
    refine x_callV (pc := 435) [_] rfl kL_113 dL_law_435 hdk.1 rfl rfl (by decide) (Nat.le_of_ble_eq_true rfl) (Nat.le_of_ble_eq_true rfl) (show _ + 0 ≤ 600086 ∧ _ + 0 ≤ 7301442 by omega) ?_
    refine sp_X7_next hT (by omega) ⟨by omega, by omega⟩ (fun z5 M3 z5a z5b p3 hT => ?_)
    have hp := fun y i (h1 : y < lay.2) (h2 : y ≠ d) => (p3 y i h2).trans (hp y i h1 h2)
    refine ⟨_, rfl, ?_⟩
    refine X.cs (cn' := cn + 1) (ck' := ck + 5) ?_ (Nat.le_refl _) (Nat.le_refl _)
    refine x_iadd (pc := 438) dL_law_438 ?_
    refine x_callP (pc := 439) [_, _, _, _, _] rfl kpL_168 dL_law_439 rfl (by decide) (Nat.le_of_ble_eq_true rfl) (Nat.le_of_ble_eq_true rfl) (show _ + 0 ≤ 600086 ∧ _ + 0 ≤ 7301442 by omega) ?_
    refine sp_X5_init hq (by omega) ⟨by omega, by omega⟩ ⟨by omega, by omega⟩ ⟨by omega, by omega⟩ ⟨by omega, by omega⟩ ⟨by omega, by omega⟩ (fun M5 p5 hf => ?_)
    have hT := hT.ext (M2 := M5) Ext.rf (fun i => p5 _ i (by omega))
    have hI := hI.new E (fun y i h1 h2 => (p5 y i (by omega)).trans (hp y i h1 h2)) hT
    refine ⟨_, rfl, ?_⟩
    refine X.cs (cn' := cn + 1) (ck' := ck + 5) ?_ (Nat.le_refl _) (Nat.le_refl _)
    refine x_astore (pc := 442) dL_law_442 trivial (by decide) (L' := [(16, _), (15, _), (13, _), (1, _), (2, _), (3, _), (7, _), (10, _), (11, _), (12, _)]) rfl ?_
    refine x_aload (pc := 444) dL_law_444 rfl ?_
    refine x_aload (pc := 446) dL_law_446 rfl ?_
    refine x_callV (pc := 448) [_] rfl kL_171 dL_law_448 hI.2.2.2.2.2.2.1.1.1.1 rfl rfl (by decide) (Nat.le_of_ble_eq_true rfl) (Nat.le_of_ble_eq_true rfl) (show _ + 1 ≤ 600086 ∧ _ + 4 ≤ 7301442 by omega) ?_
    obtain ⟨wv, hwv⟩ : ∃ wv, wv = whyClaimF T (z1 - 20) (z1 - 20 + 1 + z2) (1 + z5) := ⟨_, rfl⟩
    refine sp_X6_whyClaim hI.2.2.2.2.2.2.1 hWl hI.2.1 hI.2.2.2.2.2.2.2.1 hq (by omega) (hf 0 (by decide)) (hf 1 (by decide)) (hf 4 (by decide)) ⟨by show -20 ≤ z1 - 20; omega, by show z1 - 20 < z1 - 20 + 1 + z2; omega, by show z1 - 20 + 1 + z2 ≤ 20; omega⟩ ⟨by show 1 ≤ 1 + z5; omega, by show 1 + z5 ≤ 9; omega⟩ (fun z lay3 M6 E3 p6 hz => ?_)
    obtain rfl : wv = z := hwv.trans (wcl_F hh hz).symm
    have hI := hI.scr E3 (fun y i h _ => p6 y i h)
    have lq9 := hq.2
    have hq := hq.ext E3
    have hf : ∀ f, f < 5 → M6 q f = mkL (z1 - 20) (z1 - 20 + 1 + z2) z3 1 (1 + z5) 0 f := fun f h => (p6 _ _ lq9).trans (hf f h)
    have v0 : M6 q 0 = z1 - 20 := hf 0 (by decide)
    have v1 : M6 q 1 = z1 - 20 + 1 + z2 := hf 1 (by decide)
    have v2 : M6 q 2 = z3 := hf 2 (by decide)
    have v3 : M6 q 3 = 1 := hf 3 (by decide)
    have v4 : M6 q 4 = 1 + z5 := hf 4 (by decide)
    obtain ⟨A, u, hA, hu0, hu1⟩ := hI.2.2.2.2.1
    refine ⟨_, rfl, ?_⟩
    refine X.cs (cn' := cn + 2) (ck' := ck + 9) ?_ (Nat.le_refl _) (Nat.le_refl _)
    refine x_istore (pc := 451) dL_law_451 trivial (by decide) (L' := [(17, _), (16, _), (15, _), (13, _), (1, _), (2, _), (3, _), (7, _), (10, _), (11, _), (12, _)]) rfl ?_
    refine x_aload_n (pc := 453) dL_law_453 rfl rfl ?_
    refine x_aload (pc := 454) dL_law_454 rfl ?_
    refine x_getiN (pc := 456) frL_175 dL_law_456 hq.1 rfl (fun r456a r456b => ?_)
    rw [v0]
    refine x_aload (pc := 459) dL_law_459 rfl ?_
    refine x_getiN (pc := 461) frL_179 dL_law_461 hq.1 rfl (fun r461a r461b => ?_)
    rw [v1]
    refine x_aload (pc := 464) dL_law_464 rfl ?_
    refine x_getiN (pc := 466) frL_182 dL_law_466 hq.1 rfl (fun r466a r466b => ?_)
    rw [v2]
    refine x_aload (pc := 469) dL_law_469 rfl ?_
    refine x_getzN (pc := 471) frL_184 dL_law_471 hq.1 rfl (fun r471a r471b => ?_)
    rw [v3]
    refine x_aload (pc := 474) dL_law_474 rfl ?_
    refine x_getiN (pc := 476) frL_188 dL_law_476 hq.1 rfl (fun r476a r476b => ?_)
    rw [v4]
    refine x_callV (pc := 479) [_, _, _, _, _] rfl kL_191 dL_law_479 hI.2.2.2.1.1.1 rfl rfl (by decide) (Nat.le_of_ble_eq_true rfl) (Nat.le_of_ble_eq_true rfl) (show _ + 1 ≤ 600086 ∧ _ + 6 ≤ 7301442 by omega) ?_
    refine sp_X4_claim gB hI.2.2.2.1.1 hI.2.2.2.1.2.1 hI.2.2.2.1.2.2.2.1 hWf hA ⟨hu0, hu1⟩ hO ⟨by omega, by omega⟩ ⟨by omega, by omega⟩ ⟨by omega, by omega⟩ (by omega) ⟨by omega, by omega⟩ (fun h => absurd ⟨⟨⟨by omega, by omega⟩, ⟨by omega, by omega⟩, by omega⟩, ⟨by omega, by omega⟩, ⟨by omega, by omega⟩⟩ h) (fun _ M2 hAc hCt hDh => ?_)
    have hI := hI.act hAc hCt (actClaim_wf hWf hO ⟨⟨by omega, by omega⟩, ⟨by omega, by omega⟩, by omega⟩ ⟨by omega, by omega⟩ ⟨by omega, by omega⟩ ⟨by omega, by omega⟩).1 hDh (undF_u ⟨hu0, hu1⟩)
    have hf : ∀ f, f < 5 → M2 q f = mkL (z1 - 20) (z1 - 20 + 1 + z2) z3 1 (1 + z5) 0 f := fun f h => (hAc _ _ (by omega) (by omega) (by omega)).trans (hf f h)
    have hcn := whyClaim_rng T (z1 - 20) (z1 - 20 + 1 + z2) (1 + z5)
    rw [← hwv] at hcn ⊢
    refine ⟨_, rfl, ?_⟩
    refine X.cs (cn' := cn + 3) (ck' := ck + 15) ?_ (Nat.le_refl _) (Nat.le_refl _)
    refine x_iload (pc := 482) dL_law_482 rfl ?_
    refine x_icmp_eq (pc := 484) (t := 489) dL_law_484 (by decide) ⟨by omega, by omega⟩ ⟨by omega, by omega⟩ (fun c484 => ?_) (fun c484 => ?_)
    · have ov9 : wv = 0 → tO T = 0 := fun h => oo.resolve_right (fun h1 => by
        have h2 : wv = 1 := hwv.trans (if_pos h1)
        omega)
      have kr9 : wv = 0 → tK T (tN T % 2) < 4 := fun h => by
        have h2 := hwv.symm.trans h
        have h3 := hWf.2.2.2.2.1 (tN T % 2)
        unfold whyClaimF at h2
        split at h2
        · omega
        · split at h2
          · omega
          · split at h2 <;> omega
      refine x_iload (pc := 489) dL_law_489 rfl ?_
      refine x_if_ne (pc := 491) (t := 522) dL_law_491 (by decide) ⟨by omega, by omega⟩ (fun c491 => ?_) (fun c491 => ?_)
      · refine x_goto (pc := 522) (t := 730) dL_law_522 (by decide) ?_
        refine X.loc [3, 4, 5, 6, 7, 8, 9, 10] (L' := [(13, _), (1, _), (2, _), (3, _), (7, _), (10, _), (11, _), (12, _)]) rfl ?_
        first
        | (have e : actClaim T (z1 - 20) (z1 - 20 + 1 + z2) z3 1 (1 + z5) = T := if_neg (by omega)
           rw [e] at hI
           exact k _ _ hc _ _ _ T (by omega) (by omega) (by omega) (Or.inl rfl) hI hV)
        | (have e : actClaim T (z1 - 20) (z1 - 20 + 1 + z2) z3 1 (1 + z5) = tClaim T (z1 - 20) (z1 - 20 + 1 + z2) z3 1 (1 + z5) := if_pos (by omega)
           rw [e] at hI
           have hI2 : LwI g lay4 (mset M7 c 11 1) d b c t pw (nn + 1 + 1 + 1 + 1 + 1) 1 sx (tClaim T (z1 - 20) (z1 - 20 + 1 + z2) z3 1 (1 + z5)) := hI.law (fun y i y1 _ _ => mset_nea y1) (hI.2.2.2.2.2.2.1.hcs 1)
           exact k _ _ 1 _ _ _ _ (by omega) (by omega) (by omega) (Or.inr ⟨z1 - 20, z1 - 20 + 1 + z2, z3, 1, 1 + z5, ⟨⟨⟨by omega, by omega⟩, ⟨by omega, by omega⟩, by omega⟩, ⟨by omega, by omega⟩, ⟨by omega, by omega⟩, ⟨by omega, by omega⟩⟩, by omega, e.symm⟩) hI2 (hV.claim hz9))
      · have hz9 := ov9 (by omega)
        have hk9 := kr9 (by omega)
        obtain ⟨el, hout, ho1, hin, hx0, hx9⟩ := id hI.2.2.2.2.2.2.2.1
        obtain ⟨hl, hl4, hlc⟩ := hin (tN T % 2) (by omega)
        refine x_aload (pc := 494) dL_law_494 rfl ?_
        refine x_getrN (pc := 496) (b := (c + 2)) frL_195 dL_law_496 hI.2.2.2.2.2.2.1.1.1.1 rfl hI.2.2.2.2.2.2.1.2.1.2.2 rfl ?_
        refine x_aload (pc := 499) dL_law_499 rfl ?_
        refine x_callV (pc := 501) [] rfl kL_91 dL_law_501 hI.2.2.2.2.2.2.1.1.1.1 rfl rfl (by decide) (Nat.le_of_ble_eq_true rfl) (Nat.le_of_ble_eq_true rfl) (show _ + 0 ≤ 600086 ∧ _ + 0 ≤ 7301442 by omega) ?_
        refine sp_X6_whose hI.2.2.2.2.2.2.1 hWl ?_
        refine ⟨_, rfl, ?_⟩
        refine X.cs (cn' := cn + 3) (ck' := ck + 15) ?_ (Nat.le_refl _) (Nat.le_refl _)
        refine x_callV (pc := 504) [_] rfl kL_199 dL_law_504 hout.1.1 rfl rfl (by decide) (Nat.le_of_ble_eq_true rfl) (Nat.le_of_ble_eq_true rfl) (show _ + 0 ≤ 600086 ∧ _ + 0 ≤ 7301442 by omega) ?_
        refine sp_Ls_get hout (by omega) ?_
        refine ⟨_, rfl, ?_⟩
        refine X.cs (cn' := cn + 3) (ck' := ck + 15) ?_ (Nat.le_refl _) (Nat.le_refl _)
        refine x_castC (pc := 507) clL_200 dL_law_507 hl.1.1 rfl ?_
        refine x_aload (pc := 510) dL_law_510 rfl ?_
        refine x_callV (pc := 512) [_] rfl kL_205 dL_law_512 hl.1.1 rfl rfl (by decide) (Nat.le_of_ble_eq_true rfl) (Nat.le_of_ble_eq_true rfl) (show _ + 1 ≤ 600086 ∧ _ + 10 ≤ 7301442 by omega) ?_
        refine sp_Ls_add hI.2.1 hl hq ⟨_, rfl, by decide⟩ (by omega) (fun lay4 M7 E4 p4 hx4 hL4 => ?_)
        have ekk : ∀ p, tK (tClaim T (z1 - 20) (z1 - 20 + 1 + z2) z3 1 (1 + z5)) p = if p = tN T % 2 then tK T p + 1 else tK T p := fun _ => rfl
        have ell : ∀ p i, tL (tClaim T (z1 - 20) (z1 - 20 + 1 + z2) z3 1 (1 + z5)) p i = if p = tN T % 2 ∧ i = tK T p then mkL (z1 - 20) (z1 - 20 + 1 + z2) z3 1 (1 + z5) (tN T) else tL T p i := fun _ _ => rfl
        have hLL := LcL.add (kk2 := tK (tClaim T (z1 - 20) (z1 - 20 + 1 + z2) z3 1 (1 + z5))) (ll2 := tL (tClaim T (z1 - 20) (z1 - 20 + 1 + z2) z3 1 (1 + z5))) hI.2.1.2.2.1.2 hout ho1 hin hx0 hx9 (by omega) hk9 hq (by omega) hf E4 p4 hx4 hL4 (by rw [ekk, if_pos rfl]) (fun p _ h => by rw [ekk, if_neg h]) (fun i hi => by rw [ell, if_neg (by omega)]) (fun f hf5 => by
          rw [ell, if_pos ⟨rfl, rfl⟩]
          rcases (show f = 0 ∨ f = 1 ∨ f = 2 ∨ f = 3 ∨ f = 4 by omega) with rfl | rfl | rfl | rfl | rfl <;> rfl) (fun p i _ h => by rw [ell, if_neg (fun h2 => h h2.1)]) (by
          rw [ell, if_pos ⟨rfl, rfl⟩]
          unfold WfL
          simp only [mkL]
          omega)
        have hI := hI.lists (by omega) E4 (fun x y1 y2 => ⟨hl.ar y1 y2 hI.2.1.2.2.1.2, (hx9 _ (by omega) x y1 y2).1⟩) p4 hLL
        refine ⟨_, rfl, ?_⟩
        refine X.cs (cn' := cn + 4) (ck' := ck + 25) ?_ (Nat.le_refl _) (Nat.le_refl _)
        refine x_pop (pc := 515) dL_law_515 rfl ?_
        refine x_aload (pc := 516) dL_law_516 rfl ?_
        refine x_iconst (pc := 518) dL_law_518 ?_
        refine x_putzN (pc := 519) fwL_209 dL_law_519 hI.2.2.2.2.2.2.1.1.1.1 hI.2.2.2.2.2.2.1.1.2.2.2 rfl ⟨by omega, by omega⟩ ?_
        refine x_goto (pc := 522) (t := 730) dL_law_522 (by decide) ?_
        refine X.loc [3, 4, 5, 6, 7, 8, 9, 10] (L' := [(13, _), (1, _), (2, _), (3, _), (7, _), (10, _), (11, _), (12, _)]) rfl ?_
        first
        | (have e : actClaim T (z1 - 20) (z1 - 20 + 1 + z2) z3 1 (1 + z5) = T := if_neg (by omega)
           rw [e] at hI
           exact k _ _ hc _ _ _ T (by omega) (by omega) (by omega) (Or.inl rfl) hI hV)
        | (have e : actClaim T (z1 - 20) (z1 - 20 + 1 + z2) z3 1 (1 + z5) = tClaim T (z1 - 20) (z1 - 20 + 1 + z2) z3 1 (1 + z5) := if_pos (by omega)
           rw [e] at hI
           have hI2 : LwI g lay4 (mset M7 c 11 1) d b c t pw (nn + 1 + 1 + 1 + 1 + 1) 1 sx (tClaim T (z1 - 20) (z1 - 20 + 1 + z2) z3 1 (1 + z5)) := hI.law (fun y i y1 _ _ => mset_nea y1) (hI.2.2.2.2.2.2.1.hcs 1)
           exact k _ _ 1 _ _ _ _ (by omega) (by omega) (by omega) (Or.inr ⟨z1 - 20, z1 - 20 + 1 + z2, z3, 1, 1 + z5, ⟨⟨⟨by omega, by omega⟩, ⟨by omega, by omega⟩, by omega⟩, ⟨by omega, by omega⟩, ⟨by omega, by omega⟩, ⟨by omega, by omega⟩⟩, by omega, e.symm⟩) hI2 (hV.claim hz9))
    · exfalso; omega
