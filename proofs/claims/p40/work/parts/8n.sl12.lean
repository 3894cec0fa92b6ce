/-! The law's act: lay. -/
theorem LwJ.scr {g : GG} {lay lay2 : Lay} {M M2 : Mem} {d b c t pw nn : Nat} {sx : List Int} {T : CT} {S P La : Nat → Int} {tn : Nat} {hp hc ov bt : Int} {kk : Nat → Nat} {ll : Nat → Nat → Nat → Int} (h : LwJ g lay M d b c t pw nn sx T S P La tn hp hc ov bt kk ll) (E : Ext lay lay2) (p : ∀ y i, y < lay.2 → ¬ (b + 8 ≤ y ∧ y < b + 15 ∨ b + 16 ≤ y ∧ y < b + 25 ∨ y = b + 31) → M2 y i = M y i) : LwJ g lay2 M2 d b c t pw nn sx T S P La tn hp hc ov bt kk ll := by
  obtain ⟨⟨h1, h2, h2b⟩, hJ, hT, hD, ⟨A, u, hA, hu⟩, ⟨tx, n, v, cm, hR, hC⟩, hQ, hL, hS⟩ := h
  have b1 := hS.lt
  have bw := hD.2.1
  have td := hT.1.2
  refine ⟨⟨h1, h2, h2b⟩, hJ.ext E (n := g.2.1) (fun y i hy => p y i (by omega) (by omega)) (Nat.le_refl _), hT.ext E (fun i => p _ i (by omega) (by omega)), hD.ext E (fun y i y1 y2 => p y i (by omega) (by omega)), ⟨A, u, hA.mem (fun i => p _ i (by omega) (by omega)) (fun i => p _ i (by omega) (by omega)), hu⟩, ⟨tx, n, v, cm, hR.mem (fun y i y1 y2 => p y i (by omega) (by omega)), hC.mem (fun i => p _ i (by omega) (by omega))⟩, hQ.ext E (fun y i y1 y2 => p y i (by omega) (by omega)), hL.ext E (fun y i y1 y2 _ _ => p y i (by omega) (by omega)), hS.fr E (fun i => p _ i (by omega) (by omega)) (fun v cap hv hv2 i => p _ i hv.2 (by omega))⟩
/-- only the draws go on -/
theorem LwI.draw {g : GG} {lay : Lay} {M M2 : Mem} {d b c t pw nn n2 : Nat} {hc : Int} {sx : List Int} {T : CT} (h : LwI g lay M d b c t pw nn hc sx T) (p : ∀ y i, y ≠ d → M2 y i = M y i) (hT2 : ToP g lay M2 d n2) : LwI g lay M2 d b c t pw n2 hc sx T := by
  obtain ⟨⟨h1, h2, h2b⟩, hJ, hT, hD, ⟨A, u, hA, hu⟩, ⟨tx, n, v, cm, hR, hC⟩, hQ, hL, hS⟩ := h
  have E : Ext lay lay := Ext.rf
  have bw := hT.2.1
  exact ⟨⟨h1, h2, h2b⟩, hJ.ext E (n := g.2.1) (fun y i hy => p y i (by omega)) (Nat.le_refl _), hT2, hD.ext E (fun y i y1 y2 => p y i (by omega)), ⟨A, u, hA.mem (fun i => p _ i (by omega)) (fun i => p _ i (by omega)), hu⟩, ⟨tx, n, v, cm, hR.mem (fun y i y1 y2 => p y i (by omega)), hC.mem (fun i => p _ i (by omega))⟩, hQ.ext E (fun y i y1 y2 => p y i (by omega)), hL.ext E (fun y i y1 y2 _ _ => p y i (by omega)), hS.fr E (fun i => p _ i (by omega)) (fun v cap hv hv2 i => p _ i (by omega))⟩
theorem LcQ.term {g : GG} {lay : Lay} {M : Mem} {c pw : Nat} {S P La : Nat → Int} {tn : Nat} {hp hc ov bt : Int} (h : LcQ g lay M c pw S P La tn hp hc ov bt) {p : Nat} (x y : Int) : LcQ g lay (mset (mset M (c + 3) p x) (c + 4) p y) c pw S (fup P p x) (fup La p y) tn hp hc ov bt := by
  obtain ⟨⟨h1, h2, h3, h4⟩, ⟨h5, h6, h7⟩, h8, h9, h10, h11, h12, h13, h14, h15⟩ := h
  have q : ∀ i, mset (mset M (c + 3) p x) (c + 4) p y c i = M c i := fun i => by rw [mset_nea (by omega), mset_nea (by omega)]
  refine ⟨⟨h1, h2, h3, h4⟩, ⟨(q _).trans h5, (q _).trans h6, (q _).trans h7⟩, fun j hj => ?_, fun j hj => ?_, fun i hi => (q _).trans (h10 i hi), (q _).trans h11, (q _).trans h12, (q _).trans h13, (q _).trans h14, (q _).trans h15⟩
  · rw [mset_nea (by omega)]
    by_cases e : j = p
    · subst e
      rw [mset_same, fup_s9]
    · rw [mset_nei e, fup_n9 _ _ e]
      exact h8 j hj
  · by_cases e : j = p
    · subst e
      rw [mset_same, fup_s9]
    · rw [mset_nei e, fup_n9 _ _ e, mset_nea (by omega)]
      exact h9 j hj
theorem LcQ.bon {g : GG} {lay : Lay} {M : Mem} {c pw : Nat} {S P La : Nat → Int} {tn : Nat} {hp hc ov bt : Int} (h : LcQ g lay M c pw S P La tn hp hc ov bt) (x y : Int) : LcQ g lay (mset (mset M c 12 x) c 13 y) c pw S P La tn hp hc x y := by
  obtain ⟨⟨h1, h2, h3, h4⟩, ⟨h5, h6, h7⟩, h8, h9, h10, h11, h12, h13, h14, h15⟩ := h
  have q : ∀ i, i < 12 → mset (mset M c 12 x) c 13 y c i = M c i := fun i hi => by rw [mset_nei (by omega), mset_nei (by omega)]
  have q3 : ∀ i, mset (mset M c 12 x) c 13 y (c + 3) i = M (c + 3) i := fun i => by rw [mset_nea (by omega), mset_nea (by omega)]
  have q4 : ∀ i, mset (mset M c 12 x) c 13 y (c + 4) i = M (c + 4) i := fun i => by rw [mset_nea (by omega), mset_nea (by omega)]
  refine ⟨⟨h1, h2, h3, h4⟩, ⟨(q _ (by decide)).trans h5, (q _ (by decide)).trans h6, (q _ (by decide)).trans h7⟩, fun j hj => (q3 j).trans (h8 j hj), fun j hj => (q4 j).trans (h9 j hj), fun i hi => (q _ (by omega)).trans (h10 i hi), (q _ (by decide)).trans h11, (q _ (by decide)).trans h12, (q _ (by decide)).trans h13, ?_, mset_same⟩
  rw [mset_nei (by decide), mset_same]

set_option maxRecDepth 100000 in
theorem law_lay {g : GG} {lay : Lay} {M : Mem} {K : KK} {cn ck : Nat} {kx x : Int} {p : Nat} {d b c t pw nn : Nat} {hc st : Int} {sx : List Int} {T : CT} (gB : GoodB) (hI : LwI g lay M d b c t pw nn hc sx T) (hV : LInv T pw hc) (hcn : cn ≤ 90000) (hck : ck ≤ 3900000) (hx : layab x) (hp : p < pw) (k : ∀ lay2 M2 hc2 cn2 ck2, cn2 ≤ cn + 8 → ck2 ≤ ck + 80 → LwI g lay2 M2 d b c t pw nn hc2 sx (actLay T x p) → LInv (actLay T x p) pw hc2 → X g m_L_law cn2 ck2 lay2 M2 730 [(13, vI kx), (1, vR d), (2, vR b), (3, vI (pw : Nat)), (7, vI (tS T 4)), (10, vR c), (11, vR t), (12, vI (st - 6))] [] K) : X g m_L_law cn ck lay M 604 [(16, vI x), (15, vI (p : Nat)), (13, vI kx), (1, vR d), (2, vR b), (3, vI (pw : Nat)), (7, vI (tS T 4)), (10, vR c), (11, vR t), (12, vI (st - 6))] [] K := by
  have hWf : WfT T := hI.2.2.2.1.2.2.2.2
  obtain ⟨hO, hB, hNc, hh, hP⟩ := id hV
  have hWl := LcW.of hWf hP hh
  have ha1 := hI.1
  have w1 := hWl.1
  have hPw := hP.1
  have n60 := hWf.n60
  have oo := hWf.2.2.2.2.2.2.1
  have bb9 := hWf.2.2.2.2.2.2.2
  have s60 := hWf.1.2.2.1
  have gw := hI.2.2.2.1.2.1
  obtain ⟨A, u, hA, hu0, hu1⟩ := hI.2.2.2.2.1
  obtain ⟨wv, hwv⟩ : ∃ wv, wv = whyLayF T x p := ⟨_, rfl⟩
  have wvr := whyLay_rng T x p
  rw [← hwv] at wvr
  have wP := hWf.2.1 p
  have e7 : ((p : Nat) : Int).toNat = p := Int.toNat_natCast p
  have adr := allD_rng (buildF_le (tP (tTerm T x p)))
  have gr := hWf.1.2.2.2.2.1
  have hw0 : wv = 0 → tO T = 0 ∧ -30 ≤ tP T p + x ∧ tP T p + x ≤ 30 := fun h => why0 hWf (hwv.symm.trans h)
  have done : ∀ (lay2 : Lay) (M3 : Mem) (cn2 ck2 : Nat) (z bt : Int), cn2 ≤ cn + 8 → ck2 ≤ ck + 80 → wv = 0 → (0 < tS T 4 ∧ tS T 4 ≤ allD (buildF (tP (tTerm T x p))) ∧ z = 1 ∧ bt = ((tN T % 2 : Nat) : Int) ∨ ¬ (0 < tS T 4 ∧ tS T 4 ≤ allD (buildF (tP (tTerm T x p)))) ∧ bt = tB T ∧ (z = 1 ∧ ((tN T : Int) + 1 = tS T 2 ∨ ((0 : Int) = 1 ∧ hpF T = 1) ∨ allQ pw (tS T) (fup (laF T) p (tN T : Nat)) (tN T + 1)) ∨ z = 0 ∧ ¬ ((tN T : Int) + 1 = tS T 2 ∨ ((0 : Int) = 1 ∧ hpF T = 1) ∨ allQ pw (tS T) (fup (laF T) p (tN T : Nat)) (tN T + 1)))) → LwJ g lay2 M3 d b c t pw nn sx (actLay T x p) (tS T) (fup (tP T) p (tP T p + x)) (fup (laF T) p (tN T : Nat)) (tN T + 1) 0 0 z bt (tK T) (tL T) → X g m_L_law cn2 ck2 lay2 M3 730 [(13, vI kx), (1, vR d), (2, vR b), (3, vI (pw : Nat)), (7, vI (tS T 4)), (10, vR c), (11, vR t), (12, vI (st - 6))] [] K := by
    intro lay2 M3 cn2 ck2 z bt h1 h2 hz0 hz hJ
    obtain ⟨h0, hs1, hs2⟩ := hw0 hz0
    have e : actLay T x p = tTerm T x p := if_pos (hwv.symm.trans hz0)
    have el : laF (tTerm T x p) = fup (laF T) p (tN T : Nat) := funext fun q => by
      rw [laF_term]
      unfold fup
      by_cases q9 : q = p
      · rw [if_pos ⟨hx.1, q9.symm⟩, if_pos q9]
      · rw [if_neg (fun h => q9 h.2.symm), if_neg q9]
    have ei := end_iff (x := x) (p := p) hP (hO h0)
    rw [el] at ei
    have er9 : reachP (tLay T x p) x ↔ (0 < tS T 4 ∧ tS T 4 ≤ allD (buildF (tP (tTerm T x p)))) := ⟨fun h => h.2, fun h => ⟨hx.1, h⟩⟩
    have ez : z = tO (tTerm T x p) := by
      show z = if endP (tLay T x p) x then 1 else 0
      rcases hz with ⟨g1, g2, z1, z2⟩ | ⟨g1, b1, ⟨z1, z2⟩ | ⟨z1, z2⟩⟩
      · rw [if_pos (ei.mpr (Or.inl (er9.mpr ⟨g1, g2⟩))), z1]
      · rw [if_pos (ei.mpr ?_), z1]
        rcases z2 with h | ⟨h, -⟩ | h
        · exact Or.inr (Or.inl h)
        · exact absurd h (by decide)
        · exact Or.inr (Or.inr (Or.inr h))
      · rw [if_neg (fun h => z2 ?_), z1]
        rcases ei.mp h with h | h | ⟨h, -⟩ | h
        · exact absurd (er9.mp h) g1
        · exact Or.inl h
        · exact absurd h hx.1
        · exact Or.inr (Or.inr h)
    have eb : bt = tB (tTerm T x p) := by
      show bt = if reachP (tLay T x p) x then ((tN T % 2 : Nat) : Int) else tB T
      rcases hz with ⟨g1, g2, z1, z2⟩ | ⟨g1, b1, -⟩
      · rw [if_pos (er9.mpr ⟨g1, g2⟩), z2]
      · rw [if_neg (fun h => g1 (er9.mp h)), b1]
    have hO2 : WfO (tTerm T x p) := by rw [← e]; exact (actLay_wf hWf hO hx (by omega)).2.1
    have hV2 := hV.term (x := x) (p := p) hWf h0 hp hO2
    rw [e] at hJ
    have hQ2 : LcQ g lay2 M3 c pw (tS T) (tP (tTerm T x p)) (laF (tTerm T x p)) (tN T + 1) (hpF (tTerm T x p)) 0 (tO (tTerm T x p)) (tB (tTerm T x p)) := hJ.2.2.2.2.2.2.1.to (fun q _ => rfl) (fun q _ => by rw [el]) (by rw [hpF_term, if_neg hx.1]) rfl ez eb
    have hI2 : LwI g lay2 M3 d b c t pw nn 0 sx (tTerm T x p) := hJ.law (fun y i _ _ _ => rfl) hQ2
    rw [← e] at hI2 hV2
    exact k lay2 M3 0 cn2 ck2 h1 h2 hI2 hV2
  refine x_aload (pc := 604) dL_law_604 rfl ?_
  refine x_iload (pc := 606) dL_law_606 rfl ?_
  refine x_iload (pc := 608) dL_law_608 rfl ?_
  refine x_callV (pc := 610) [_, _] rfl kL_97 dL_law_610 hI.2.2.2.2.2.2.1.1.1.1 rfl rfl (by decide) (Nat.le_of_ble_eq_true rfl) (Nat.le_of_ble_eq_true rfl) (show _ + 0 ≤ 600086 ∧ _ + 0 ≤ 7301442 by omega) ?_
  refine sp_X6_whyLay hI.2.2.2.2.2.2.1 hWl hp ⟨by omega, by omega⟩ (fun z hz => ?_)
  obtain rfl : wv = z := hwv.trans (why_F hWf hP hz).symm
  refine ⟨_, rfl, ?_⟩
  refine X.cs (cn' := cn) (ck' := ck) ?_ (Nat.le_refl _) (Nat.le_refl _)
  refine x_istore (pc := 613) dL_law_613 trivial (by decide) (L' := [(17, _), (16, _), (15, _), (13, _), (1, _), (2, _), (3, _), (7, _), (10, _), (11, _), (12, _)]) rfl ?_
  refine x_aload (pc := 615) dL_law_615 rfl ?_
  refine x_callV (pc := 617) [] rfl kL_91 dL_law_617 hI.2.2.2.2.2.2.1.1.1.1 rfl rfl (by decide) (Nat.le_of_ble_eq_true rfl) (Nat.le_of_ble_eq_true rfl) (show _ + 0 ≤ 600086 ∧ _ + 0 ≤ 7301442 by omega) ?_
  refine sp_X6_whose hI.2.2.2.2.2.2.1 hWl ?_
  refine ⟨_, rfl, ?_⟩
  refine X.cs (cn' := cn) (ck' := ck) ?_ (Nat.le_refl _) (Nat.le_refl _)
  refine x_istore (pc := 620) dL_law_620 trivial (by decide) (L' := [(18, _), (17, _), (16, _), (15, _), (13, _), (1, _), (2, _), (3, _), (7, _), (10, _), (11, _), (12, _)]) rfl ?_
  refine x_iload (pc := 622) dL_law_622 rfl ?_
  refine x_if_ne (pc := 624) (t := 639) dL_law_624 (by decide) ⟨by omega, by omega⟩ (fun c624 => ?_) (fun c624 => ?_)
  · refine x_iconst (pc := 639) dL_law_639 ?_
    refine x_istore (pc := 640) dL_law_640 trivial (by decide) (L' := [(19, _), (18, _), (17, _), (16, _), (15, _), (13, _), (1, _), (2, _), (3, _), (7, _), (10, _), (11, _), (12, _)]) rfl ?_
    refine x_aload_n (pc := 642) dL_law_642 rfl rfl ?_
    refine x_iload (pc := 643) dL_law_643 rfl ?_
    refine x_iload (pc := 645) dL_law_645 rfl ?_
    refine x_callV (pc := 647) [_, _] rfl kL_222 dL_law_647 hI.2.2.2.1.1.1 rfl rfl (by decide) (Nat.le_of_ble_eq_true rfl) (Nat.le_of_ble_eq_true rfl) (show _ + 1 ≤ 600086 ∧ _ + 6 ≤ 7301442 by omega) ?_
    refine sp_X4_lay gB hI.2.2.2.1.1 hI.2.2.2.1.2.1 hI.2.2.2.1.2.2.2.1 hWf hA ⟨hu0, hu1⟩ hO ⟨by omega, by omega⟩ ⟨by omega, by omega⟩ (fun h => absurd (show 0 ≤ ((p : Nat) : Int) ∧ ((p : Nat) : Int) < tS T 0 by omega) h) (fun _ h => absurd (show x ≠ 0 ∧ -9 ≤ x ∧ x ≤ 9 by omega) h) (fun _ _ M2 hAc hCt hDh => ?_)
    rw [Int.toNat_natCast] at hCt hDh ⊢
    have hI := hI.act hAc hCt (actLay_wf hWf hO hx (by omega)).1 hDh (undF_u ⟨hu0, hu1⟩)
    rw [← hwv]
    refine ⟨_, rfl, ?_⟩
    refine X.cs (cn' := cn + 1) (ck' := ck + 6) ?_ (Nat.le_refl _) (Nat.le_refl _)
    refine x_iload (pc := 650) dL_law_650 rfl ?_
    refine x_icmp_eq (pc := 652) (t := 657) dL_law_652 (by decide) ⟨by omega, by omega⟩ ⟨by omega, by omega⟩ (fun c652 => ?_) (fun c652 => ?_)
    · refine x_iload (pc := 657) dL_law_657 rfl ?_
      refine x_if_ne (pc := 659) (t := 730) dL_law_659 (by decide) ⟨by omega, by omega⟩ (fun c659 => ?_) (fun c659 => ?_)
      · refine X.loc [5, 6, 7, 8, 9, 10, 11, 12] (L' := [(13, _), (1, _), (2, _), (3, _), (7, _), (10, _), (11, _), (12, _)]) rfl ?_
        first
        | exact done _ _ _ _ z _ (by omega) (by omega) (by omega) (Or.inr ⟨by omega, rfl, hz⟩) hI
        | exact done _ _ _ _ 1 _ (by omega) (by omega) (by omega) (Or.inl ⟨by omega, by omega, rfl, rfl⟩) (hI.law (fun y i y1 _ _ => by rw [mset_nea y1, mset_nea y1]) (hI.2.2.2.2.2.2.1.bon 1 _))
        | (have e : actLay T x p = T := if_neg (by omega)
           rw [e] at hI k
           exact k _ _ hc _ _ (by omega) (by omega) hI hV)
      · refine x_aload (pc := 662) dL_law_662 rfl ?_
        refine x_getrN (pc := 664) (b := (c + 3)) frL_27 dL_law_664 hI.2.2.2.2.2.2.1.1.1.1 rfl hI.2.2.2.2.2.2.1.2.1.1 rfl ?_
        refine x_iload (pc := 667) dL_law_667 rfl ?_
        refine x_dup2 (pc := 669) dL_law_669 rfl rfl ?_
        refine x_iald (pc := 670) dL_law_670 hI.2.2.2.2.2.2.1.1.2.1.1 (by omega) (by omega) (fun r670a r670b => ?_)
        obtain ⟨h0, hs1, hs2⟩ := hw0 (by omega)
        rw [e7]
        have e9 := hI.2.2.2.2.2.2.1.2.2.1 p hp
        rw [e9]
        refine x_iload (pc := 671) dL_law_671 rfl ?_
        refine x_iadd (pc := 673) dL_law_673 ?_
        refine x_iast (pc := 674) dL_law_674 hI.2.2.2.2.2.2.1.1.2.1.1 (show g.2.1 ≤ c + 3 by omega) (by omega) (by omega) ⟨by omega, by omega⟩ ?_
        refine x_aload (pc := 675) dL_law_675 rfl ?_
        refine x_getrN (pc := 677) (b := (c + 4)) frL_225 dL_law_677 hI.2.2.2.2.2.2.1.1.1.1 rfl (by first | exact hI.2.2.2.2.2.2.1.2.1.2.1 | (simp (disch := omega) only [mset_same, mset_nea, mset_nei, mcopy_nea, mcopy_in, mcopy_out, Int.reduceToNat, Int.toNat_natCast, Nat.zero_add, Nat.sub_zero]; done) | (simp (disch := omega) only [mset_same, mset_nea, mset_nei, mcopy_nea, mcopy_in, mcopy_out, Int.reduceToNat, Int.toNat_natCast, Nat.zero_add, Nat.sub_zero]; exact hI.2.2.2.2.2.2.1.2.1.2.1)) rfl ?_
        refine x_iload (pc := 680) dL_law_680 rfl ?_
        refine x_aload (pc := 682) dL_law_682 rfl ?_
        refine x_getiN (pc := 684) frL_228 dL_law_684 hI.2.2.2.2.2.2.1.1.1.1 rfl (fun r684a r684b => ?_)
        try simp (disch := omega) only [mset_same, mset_nea, mset_nei, mcopy_nea, mcopy_in, mcopy_out, Int.reduceToNat, Int.toNat_natCast, Nat.zero_add, Nat.sub_zero] at r684a r684b ⊢
        have q12 := hI.2.2.2.2.2.2.1.2.2.2.2.2.2.2.2.1
        have q9 := hI.2.2.2.2.2.2.1.2.2.2.2.2.1
        rw [q9]
        refine x_iast (pc := 687) dL_law_687 hI.2.2.2.2.2.2.1.1.2.2.1.1 (show g.2.1 ≤ c + 4 by omega) (by omega) (by omega) ⟨by omega, by omega⟩ ?_
        try rw [e7]
        have hQ5 := hI.2.2.2.2.2.2.1.term (p := p) (tP T p + x) (tN T : Nat)
        have hI := hI.law (M2 := mset (mset M2 (c + 3) p (tP T p + x)) (c + 4) p (tN T : Nat)) (fun y i _ y2 y3 => by rw [mset_nea y3, mset_nea y2]) hQ5
        refine x_aload (pc := 688) dL_law_688 rfl ?_
        refine x_iconst (pc := 690) dL_law_690 ?_
        refine x_callV (pc := 691) [_] rfl kL_218 dL_law_691 hI.2.2.2.2.2.2.1.1.1.1 rfl rfl (by decide) (Nat.le_of_ble_eq_true rfl) (Nat.le_of_ble_eq_true rfl) (show _ + 0 ≤ 600086 ∧ _ + 0 ≤ 7301442 by omega) ?_
        refine sp_X6_ends hI.2.2.2.2.2.2.1 ⟨hWl.1, hWl.2.1, fun j => (by have := hWl.2.2.1 j; unfold fup; split <;> omega), fun j => (by have := hWl.2.2.2.1 j; unfold fup; split <;> omega), hWl.2.2.2.2⟩ ⟨by omega, by omega⟩ (by have := hO h0; omega) (fun M3 z p3 hz hQ3 => ?_)
        have hI := hI.law (fun y i y1 _ _ => p3 y i y1) hQ3
        refine ⟨_, rfl, ?_⟩
        refine X.cs (cn' := cn + 1) (ck' := ck + 6) ?_ (Nat.le_refl _) (Nat.le_refl _)
        refine x_aload_n (pc := 694) dL_law_694 rfl rfl ?_
        refine x_callV (pc := 695) [] rfl kL_39 dL_law_695 hI.2.2.2.1.1.1 rfl rfl (by decide) (Nat.le_of_ble_eq_true rfl) (Nat.le_of_ble_eq_true rfl) (show _ + 0 ≤ 600086 ∧ _ + 0 ≤ 7301442 by omega) ?_
        refine sp_X4_allRoots gB hI.2.2.2.1.1 hI.2.2.2.1.2.1 hI.2.2.2.1.2.2.2.1 hI.2.2.2.1.2.2.2.2 (fun M3 n3 hn3 hS3 => ?_)
        have hI := hI.scr (Ext.up (lay2 := (_, n3)) rfl hn3) (fun y i _ h => hS3 y i (by omega) (by omega) (by omega))
        rw [show tP (actLay T x p) = tP (tTerm T x p) from congrArg tP (if_pos (hwv.symm.trans (by omega)))]
        refine ⟨_, rfl, ?_⟩
        refine X.cs (cn' := cn + 1) (ck' := ck + 6) ?_ (Nat.le_refl _) (Nat.le_refl _)
        refine x_iload (pc := 698) dL_law_698 rfl ?_
        refine x_icmp_eq (pc := 700) (t := 705) dL_law_700 (by decide) ⟨by omega, by omega⟩ ⟨by omega, by omega⟩ (fun c700 => ?_) (fun c700 => ?_)
        · refine x_iload (pc := 705) dL_law_705 rfl ?_
          refine x_if_le (pc := 707) (t := 730) dL_law_707 (by decide) ⟨by omega, by omega⟩ (fun c707 => ?_) (fun c707 => ?_)
          · refine X.loc [5, 6, 7, 8, 9, 10, 11, 12] (L' := [(13, _), (1, _), (2, _), (3, _), (7, _), (10, _), (11, _), (12, _)]) rfl ?_
            first
            | exact done _ _ _ _ z _ (by omega) (by omega) (by omega) (Or.inr ⟨by omega, rfl, hz⟩) hI
            | exact done _ _ _ _ 1 _ (by omega) (by omega) (by omega) (Or.inl ⟨by omega, by omega, rfl, rfl⟩) (hI.law (fun y i y1 _ _ => by rw [mset_nea y1, mset_nea y1]) (hI.2.2.2.2.2.2.1.bon 1 _))
            | (have e : actLay T x p = T := if_neg (by omega)
               rw [e] at hI k
               exact k _ _ hc _ _ (by omega) (by omega) hI hV)
          · refine x_iload (pc := 710) dL_law_710 rfl ?_
            refine x_iload (pc := 712) dL_law_712 rfl ?_
            refine x_icmp_lt (pc := 714) (t := 730) dL_law_714 (by decide) ⟨by omega, by omega⟩ ⟨by omega, by omega⟩ (fun c714 => ?_) (fun c714 => ?_)
            · refine X.loc [5, 6, 7, 8, 9, 10, 11, 12] (L' := [(13, _), (1, _), (2, _), (3, _), (7, _), (10, _), (11, _), (12, _)]) rfl ?_
              first
              | exact done _ _ _ _ z _ (by omega) (by omega) (by omega) (Or.inr ⟨by omega, rfl, hz⟩) hI
              | exact done _ _ _ _ 1 _ (by omega) (by omega) (by omega) (Or.inl ⟨by omega, by omega, rfl, rfl⟩) (hI.law (fun y i y1 _ _ => by rw [mset_nea y1, mset_nea y1]) (hI.2.2.2.2.2.2.1.bon 1 _))
              | (have e : actLay T x p = T := if_neg (by omega)
                 rw [e] at hI k
                 exact k _ _ hc _ _ (by omega) (by omega) hI hV)
            · refine x_aload (pc := 717) dL_law_717 rfl ?_
              refine x_iconst (pc := 719) dL_law_719 ?_
              refine x_putzN (pc := 720) fwL_215 dL_law_720 hI.2.2.2.2.2.2.1.1.1.1 hI.2.2.2.2.2.2.1.1.2.2.2 rfl ⟨by omega, by omega⟩ ?_
              refine x_aload (pc := 723) dL_law_723 rfl ?_
              refine x_iload (pc := 725) dL_law_725 rfl ?_
              refine x_putiN (pc := 727) fwL_231 dL_law_727 hI.2.2.2.2.2.2.1.1.1.1 hI.2.2.2.2.2.2.1.1.2.2.2 rfl ⟨by omega, by omega⟩ ?_
              refine X.loc [5, 6, 7, 8, 9, 10, 11, 12] (L' := [(13, _), (1, _), (2, _), (3, _), (7, _), (10, _), (11, _), (12, _)]) rfl ?_
              first
              | exact done _ _ _ _ z _ (by omega) (by omega) (by omega) (Or.inr ⟨by omega, rfl, hz⟩) hI
              | exact done _ _ _ _ 1 _ (by omega) (by omega) (by omega) (Or.inl ⟨by omega, by omega, rfl, rfl⟩) (hI.law (fun y i y1 _ _ => by rw [mset_nea y1, mset_nea y1]) (hI.2.2.2.2.2.2.1.bon 1 _))
              | (have e : actLay T x p = T := if_neg (by omega)
                 rw [e] at hI k
                 exact k _ _ hc _ _ (by omega) (by omega) hI hV)
        · exfalso; omega
    · exfalso; omega
  · refine x_aload_n (pc := 627) dL_law_627 rfl rfl ?_
    refine x_iload (pc := 628) dL_law_628 rfl ?_
    refine x_iload (pc := 630) dL_law_630 rfl ?_
    refine x_iconst (pc := 632) dL_law_632 ?_
    refine x_callV (pc := 633) [_, _, _] rfl kL_100 dL_law_633 hI.2.2.2.1.1.1 rfl rfl (by decide) (Nat.le_of_ble_eq_true rfl) (Nat.le_of_ble_eq_true rfl) (show _ + 1 ≤ 600086 ∧ _ + 6 ≤ 7301442 by omega) ?_
    refine sp_X4_behind gB hI.2.2.2.1.1 hI.2.2.2.1.2.1 hI.2.2.2.1.2.2.2.1 hI.2.2.2.1.2.2.2.2 hO ⟨by omega, by omega⟩ ⟨by omega, by omega⟩ ⟨by omega, by omega⟩ (fun M3 n3 hn3 hS3 => ?_)
    have hA := hA.mem (M' := M3) (fun i => hS3 _ _ (by omega) (by omega) (by omega)) (fun i => hS3 _ _ (by omega) (by omega) (by omega))
    have hI := hI.scr (Ext.up (lay2 := (_, n3)) rfl hn3) (fun y i _ h => hS3 y i (by omega) (by omega) (by omega))
    rw [show rBehind T x (p : Nat) 0 = oI (allD (buildF (tP (tTerm T x p)))) from (if_neg (fun h => h ⟨by omega, by omega⟩)).trans ((if_neg (fun h => h ⟨hx, by omega, by omega⟩)).trans (if_neg (fun h => h (hwv.symm.trans (by omega)))))]
    refine ⟨_, rfl, ?_⟩
    refine X.cs (cn' := cn + 1) (ck' := ck + 6) ?_ (Nat.le_refl _) (Nat.le_refl _)
    refine x_goto (pc := 636) (t := 640) dL_law_636 (by decide) ?_
    refine x_istore (pc := 640) dL_law_640 trivial (by decide) (L' := [(19, _), (18, _), (17, _), (16, _), (15, _), (13, _), (1, _), (2, _), (3, _), (7, _), (10, _), (11, _), (12, _)]) rfl ?_
    refine x_aload_n (pc := 642) dL_law_642 rfl rfl ?_
    refine x_iload (pc := 643) dL_law_643 rfl ?_
    refine x_iload (pc := 645) dL_law_645 rfl ?_
    refine x_callV (pc := 647) [_, _] rfl kL_222 dL_law_647 hI.2.2.2.1.1.1 rfl rfl (by decide) (Nat.le_of_ble_eq_true rfl) (Nat.le_of_ble_eq_true rfl) (show _ + 1 ≤ 600086 ∧ _ + 6 ≤ 7301442 by omega) ?_
    refine sp_X4_lay gB hI.2.2.2.1.1 hI.2.2.2.1.2.1 hI.2.2.2.1.2.2.2.1 hWf hA ⟨hu0, hu1⟩ hO ⟨by omega, by omega⟩ ⟨by omega, by omega⟩ (fun h => absurd (show 0 ≤ ((p : Nat) : Int) ∧ ((p : Nat) : Int) < tS T 0 by omega) h) (fun _ h => absurd (show x ≠ 0 ∧ -9 ≤ x ∧ x ≤ 9 by omega) h) (fun _ _ M2 hAc hCt hDh => ?_)
    rw [Int.toNat_natCast] at hCt hDh ⊢
    have hI := hI.act hAc hCt (actLay_wf hWf hO hx (by omega)).1 hDh (undF_u ⟨hu0, hu1⟩)
    rw [← hwv]
    refine ⟨_, rfl, ?_⟩
    refine X.cs (cn' := cn + 2) (ck' := ck + 12) ?_ (Nat.le_refl _) (Nat.le_refl _)
    refine x_iload (pc := 650) dL_law_650 rfl ?_
    refine x_icmp_eq (pc := 652) (t := 657) dL_law_652 (by decide) ⟨by omega, by omega⟩ ⟨by omega, by omega⟩ (fun c652 => ?_) (fun c652 => ?_)
    · refine x_iload (pc := 657) dL_law_657 rfl ?_
      refine x_if_ne (pc := 659) (t := 730) dL_law_659 (by decide) ⟨by omega, by omega⟩ (fun c659 => ?_) (fun c659 => ?_)
      · refine X.loc [5, 6, 7, 8, 9, 10, 11, 12] (L' := [(13, _), (1, _), (2, _), (3, _), (7, _), (10, _), (11, _), (12, _)]) rfl ?_
        first
        | exact done _ _ _ _ z _ (by omega) (by omega) (by omega) (Or.inr ⟨by omega, rfl, hz⟩) hI
        | exact done _ _ _ _ 1 _ (by omega) (by omega) (by omega) (Or.inl ⟨by omega, by omega, rfl, rfl⟩) (hI.law (fun y i y1 _ _ => by rw [mset_nea y1, mset_nea y1]) (hI.2.2.2.2.2.2.1.bon 1 _))
        | (have e : actLay T x p = T := if_neg (by omega)
           rw [e] at hI k
           exact k _ _ hc _ _ (by omega) (by omega) hI hV)
      · refine x_aload (pc := 662) dL_law_662 rfl ?_
        refine x_getrN (pc := 664) (b := (c + 3)) frL_27 dL_law_664 hI.2.2.2.2.2.2.1.1.1.1 rfl hI.2.2.2.2.2.2.1.2.1.1 rfl ?_
        refine x_iload (pc := 667) dL_law_667 rfl ?_
        refine x_dup2 (pc := 669) dL_law_669 rfl rfl ?_
        refine x_iald (pc := 670) dL_law_670 hI.2.2.2.2.2.2.1.1.2.1.1 (by omega) (by omega) (fun r670a r670b => ?_)
        obtain ⟨h0, hs1, hs2⟩ := hw0 (by omega)
        rw [e7]
        have e9 := hI.2.2.2.2.2.2.1.2.2.1 p hp
        rw [e9]
        refine x_iload (pc := 671) dL_law_671 rfl ?_
        refine x_iadd (pc := 673) dL_law_673 ?_
        refine x_iast (pc := 674) dL_law_674 hI.2.2.2.2.2.2.1.1.2.1.1 (show g.2.1 ≤ c + 3 by omega) (by omega) (by omega) ⟨by omega, by omega⟩ ?_
        refine x_aload (pc := 675) dL_law_675 rfl ?_
        refine x_getrN (pc := 677) (b := (c + 4)) frL_225 dL_law_677 hI.2.2.2.2.2.2.1.1.1.1 rfl (by first | exact hI.2.2.2.2.2.2.1.2.1.2.1 | (simp (disch := omega) only [mset_same, mset_nea, mset_nei, mcopy_nea, mcopy_in, mcopy_out, Int.reduceToNat, Int.toNat_natCast, Nat.zero_add, Nat.sub_zero]; done) | (simp (disch := omega) only [mset_same, mset_nea, mset_nei, mcopy_nea, mcopy_in, mcopy_out, Int.reduceToNat, Int.toNat_natCast, Nat.zero_add, Nat.sub_zero]; exact hI.2.2.2.2.2.2.1.2.1.2.1)) rfl ?_
        refine x_iload (pc := 680) dL_law_680 rfl ?_
        refine x_aload (pc := 682) dL_law_682 rfl ?_
        refine x_getiN (pc := 684) frL_228 dL_law_684 hI.2.2.2.2.2.2.1.1.1.1 rfl (fun r684a r684b => ?_)
        try simp (disch := omega) only [mset_same, mset_nea, mset_nei, mcopy_nea, mcopy_in, mcopy_out, Int.reduceToNat, Int.toNat_natCast, Nat.zero_add, Nat.sub_zero] at r684a r684b ⊢
        have q12 := hI.2.2.2.2.2.2.1.2.2.2.2.2.2.2.2.1
        have q9 := hI.2.2.2.2.2.2.1.2.2.2.2.2.1
        rw [q9]
        refine x_iast (pc := 687) dL_law_687 hI.2.2.2.2.2.2.1.1.2.2.1.1 (show g.2.1 ≤ c + 4 by omega) (by omega) (by omega) ⟨by omega, by omega⟩ ?_
        try rw [e7]
        have hQ5 := hI.2.2.2.2.2.2.1.term (p := p) (tP T p + x) (tN T : Nat)
        have hI := hI.law (M2 := mset (mset M2 (c + 3) p (tP T p + x)) (c + 4) p (tN T : Nat)) (fun y i _ y2 y3 => by rw [mset_nea y3, mset_nea y2]) hQ5
        refine x_aload (pc := 688) dL_law_688 rfl ?_
        refine x_iconst (pc := 690) dL_law_690 ?_
        refine x_callV (pc := 691) [_] rfl kL_218 dL_law_691 hI.2.2.2.2.2.2.1.1.1.1 rfl rfl (by decide) (Nat.le_of_ble_eq_true rfl) (Nat.le_of_ble_eq_true rfl) (show _ + 0 ≤ 600086 ∧ _ + 0 ≤ 7301442 by omega) ?_
        refine sp_X6_ends hI.2.2.2.2.2.2.1 ⟨hWl.1, hWl.2.1, fun j => (by have := hWl.2.2.1 j; unfold fup; split <;> omega), fun j => (by have := hWl.2.2.2.1 j; unfold fup; split <;> omega), hWl.2.2.2.2⟩ ⟨by omega, by omega⟩ (by have := hO h0; omega) (fun M3 z p3 hz hQ3 => ?_)
        have hI := hI.law (fun y i y1 _ _ => p3 y i y1) hQ3
        refine ⟨_, rfl, ?_⟩
        refine X.cs (cn' := cn + 2) (ck' := ck + 12) ?_ (Nat.le_refl _) (Nat.le_refl _)
        refine x_aload_n (pc := 694) dL_law_694 rfl rfl ?_
        refine x_callV (pc := 695) [] rfl kL_39 dL_law_695 hI.2.2.2.1.1.1 rfl rfl (by decide) (Nat.le_of_ble_eq_true rfl) (Nat.le_of_ble_eq_true rfl) (show _ + 0 ≤ 600086 ∧ _ + 0 ≤ 7301442 by omega) ?_
        refine sp_X4_allRoots gB hI.2.2.2.1.1 hI.2.2.2.1.2.1 hI.2.2.2.1.2.2.2.1 hI.2.2.2.1.2.2.2.2 (fun M3 n3 hn3 hS3 => ?_)
        have hI := hI.scr (Ext.up (lay2 := (_, n3)) rfl hn3) (fun y i _ h => hS3 y i (by omega) (by omega) (by omega))
        rw [show tP (actLay T x p) = tP (tTerm T x p) from congrArg tP (if_pos (hwv.symm.trans (by omega)))]
        refine ⟨_, rfl, ?_⟩
        refine X.cs (cn' := cn + 2) (ck' := ck + 12) ?_ (Nat.le_refl _) (Nat.le_refl _)
        refine x_iload (pc := 698) dL_law_698 rfl ?_
        refine x_icmp_eq (pc := 700) (t := 705) dL_law_700 (by decide) ⟨by omega, by omega⟩ ⟨by omega, by omega⟩ (fun c700 => ?_) (fun c700 => ?_)
        · refine x_iload (pc := 705) dL_law_705 rfl ?_
          refine x_if_le (pc := 707) (t := 730) dL_law_707 (by decide) ⟨by omega, by omega⟩ (fun c707 => ?_) (fun c707 => ?_)
          · refine X.loc [5, 6, 7, 8, 9, 10, 11, 12] (L' := [(13, _), (1, _), (2, _), (3, _), (7, _), (10, _), (11, _), (12, _)]) rfl ?_
            first
            | exact done _ _ _ _ z _ (by omega) (by omega) (by omega) (Or.inr ⟨by omega, rfl, hz⟩) hI
            | exact done _ _ _ _ 1 _ (by omega) (by omega) (by omega) (Or.inl ⟨by omega, by omega, rfl, rfl⟩) (hI.law (fun y i y1 _ _ => by rw [mset_nea y1, mset_nea y1]) (hI.2.2.2.2.2.2.1.bon 1 _))
            | (have e : actLay T x p = T := if_neg (by omega)
               rw [e] at hI k
               exact k _ _ hc _ _ (by omega) (by omega) hI hV)
          · refine x_iload (pc := 710) dL_law_710 rfl ?_
            refine x_iload (pc := 712) dL_law_712 rfl ?_
            refine x_icmp_lt (pc := 714) (t := 730) dL_law_714 (by decide) ⟨by omega, by omega⟩ ⟨by omega, by omega⟩ (fun c714 => ?_) (fun c714 => ?_)
            · refine X.loc [5, 6, 7, 8, 9, 10, 11, 12] (L' := [(13, _), (1, _), (2, _), (3, _), (7, _), (10, _), (11, _), (12, _)]) rfl ?_
              first
              | exact done _ _ _ _ z _ (by omega) (by omega) (by omega) (Or.inr ⟨by omega, rfl, hz⟩) hI
              | exact done _ _ _ _ 1 _ (by omega) (by omega) (by omega) (Or.inl ⟨by omega, by omega, rfl, rfl⟩) (hI.law (fun y i y1 _ _ => by rw [mset_nea y1, mset_nea y1]) (hI.2.2.2.2.2.2.1.bon 1 _))
              | (have e : actLay T x p = T := if_neg (by omega)
                 rw [e] at hI k
                 exact k _ _ hc _ _ (by omega) (by omega) hI hV)
            · refine x_aload (pc := 717) dL_law_717 rfl ?_
              refine x_iconst (pc := 719) dL_law_719 ?_
              refine x_putzN (pc := 720) fwL_215 dL_law_720 hI.2.2.2.2.2.2.1.1.1.1 hI.2.2.2.2.2.2.1.1.2.2.2 rfl ⟨by omega, by omega⟩ ?_
              refine x_aload (pc := 723) dL_law_723 rfl ?_
              refine x_iload (pc := 725) dL_law_725 rfl ?_
              refine x_putiN (pc := 727) fwL_231 dL_law_727 hI.2.2.2.2.2.2.1.1.1.1 hI.2.2.2.2.2.2.1.1.2.2.2 rfl ⟨by omega, by omega⟩ ?_
              refine X.loc [5, 6, 7, 8, 9, 10, 11, 12] (L' := [(13, _), (1, _), (2, _), (3, _), (7, _), (10, _), (11, _), (12, _)]) rfl ?_
              first
              | exact done _ _ _ _ z _ (by omega) (by omega) (by omega) (Or.inr ⟨by omega, rfl, hz⟩) hI
              | exact done _ _ _ _ 1 _ (by omega) (by omega) (by omega) (Or.inl ⟨by omega, by omega, rfl, rfl⟩) (hI.law (fun y i y1 _ _ => by rw [mset_nea y1, mset_nea y1]) (hI.2.2.2.2.2.2.1.bon 1 _))
              | (have e : actLay T x p = T := if_neg (by omega)
                 rw [e] at hI k
                 exact k _ _ hc _ _ (by omega) (by omega) hI hV)
        · exfalso; omega
    · exfalso; omega
