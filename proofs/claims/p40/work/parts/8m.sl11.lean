/-! The law's acts: pass, lay. -/
/-- as LwI, but the law's own contest is told apart -/
def LwJ (g : GG) (lay : Lay) (M : Mem) (d b c t pw nn : Nat) (sx : List Int) (T : CT) (S P La : Nat → Int) (tn : Nat) (hp hc ov bt : Int) (kk : Nat → Nat) (ll : Nat → Nat → Nat → Int) : Prop := (d + 1 = b ∧ b + 32 = c ∧ c + 8 ≤ t) ∧ JcP g lay M ∧ ToP g lay M d nn ∧ Ds g lay M b T ∧ (∃ A u, Dh A u M b ∧ 0 ≤ u ∧ u ≤ 12) ∧ (∃ tx n v cm, Rd tx n v M (b + 25) ∧ Cm cm M (b + 25)) ∧ LcQ g lay M c pw S P La tn hp hc ov bt ∧ LcL g lay M c kk ll ∧ SbP g lay M t sx
theorem LwI.act {g : GG} {lay : Lay} {M M2 : Mem} {d b c t pw nn : Nat} {hc : Int} {sx : List Int} {T T2 : CT} {A2 : Nat → Int} {u2 : Int} (h : LwI g lay M d b c t pw nn hc sx T) (p : Act b M M2) (hCt : Ct T2 M2 (b + 1)) (hW : WfT T2) (hA2 : Dh A2 u2 M2 b) (hu2 : 0 ≤ u2 ∧ u2 ≤ 12) : LwJ g lay M2 d b c t pw nn sx T2 (tS T) (tP T) (laF T) (tN T) (hpF T) hc (tO T) (tB T) (tK T) (tL T) := by
  obtain ⟨⟨h1, h2, h2b⟩, hJ, hT, hD, ⟨A, u, hA, hu⟩, ⟨tx, n, v, cm, hR, hC⟩, hQ, hL, hS⟩ := h
  have E : Ext lay lay := Ext.rf
  have bw := hD.2.1
  exact ⟨⟨h1, h2, h2b⟩, hJ.ext E (n := g.2.1) (fun y i hy => p y i (by omega) (by omega) (by omega)) (Nat.le_refl _), hT.ext E (fun i => p _ i (by omega) (by omega) (by omega)), ⟨hD.1, hD.2.1, hD.2.2.1, hCt, hW⟩, ⟨A2, u2, hA2, hu2⟩, ⟨tx, n, v, cm, hR.mem (fun y i y1 y2 => p y i (by omega) (by omega) (by omega)), hC.mem (fun i => p _ i (by omega) (by omega) (by omega))⟩, hQ.ext E (fun y i y1 y2 => p y i (by omega) (by omega) (by omega)), hL.ext E (fun y i y1 y2 _ _ => p y i (by omega) (by omega) (by omega)), hS.fr E (fun i => p _ i (by omega) (by omega) (by omega)) (fun v cap hv hv2 i => p _ i (by omega) (by omega) (by omega))⟩
theorem LwJ.law {g : GG} {lay : Lay} {M M2 : Mem} {d b c t pw nn : Nat} {sx : List Int} {T : CT} {S P La S2 P2 La2 : Nat → Int} {tn tn2 : Nat} {hp hc ov bt hp2 hc2 ov2 bt2 : Int} {kk : Nat → Nat} {ll : Nat → Nat → Nat → Int} (h : LwJ g lay M d b c t pw nn sx T S P La tn hp hc ov bt kk ll) (p : ∀ y i, y ≠ c → y ≠ c + 3 → y ≠ c + 4 → M2 y i = M y i) (hQ2 : LcQ g lay M2 c pw S2 P2 La2 tn2 hp2 hc2 ov2 bt2) : LwJ g lay M2 d b c t pw nn sx T S2 P2 La2 tn2 hp2 hc2 ov2 bt2 kk ll := by
  obtain ⟨⟨h1, h2, h2b⟩, hJ, hT, hD, ⟨A, u, hA, hu⟩, ⟨tx, n, v, cm, hR, hC⟩, hQ, hL, hS⟩ := h
  have E : Ext lay lay := Ext.rf
  have bw := hD.2.1
  exact ⟨⟨h1, h2, h2b⟩, hJ.ext E (n := g.2.1) (fun y i hy => p y i (by omega) (by omega) (by omega)) (Nat.le_refl _), hT.ext E (fun i => p _ i (by omega) (by omega) (by omega)), hD.ext E (fun y i y1 y2 => p y i (by omega) (by omega) (by omega)), ⟨A, u, hA.mem (fun i => p _ i (by omega) (by omega) (by omega)) (fun i => p _ i (by omega) (by omega) (by omega)), hu⟩, ⟨tx, n, v, cm, hR.mem (fun y i y1 y2 => p y i (by omega) (by omega) (by omega)), hC.mem (fun i => p _ i (by omega) (by omega) (by omega))⟩, hQ2, hL.ext E (fun y i y1 y2 y3 y4 => p y i (by omega) y3 y4), hS.fr E (fun i => p _ i (by omega) (by omega) (by omega)) (fun v cap hv hv2 i => p _ i (by omega) (by omega) (by omega))⟩
theorem LcQ.to {g : GG} {lay : Lay} {M : Mem} {c pw : Nat} {S P La P2 La2 : Nat → Int} {tn : Nat} {hp hc ov bt hp2 hc2 ov2 bt2 : Int} (h : LcQ g lay M c pw S P La tn hp hc ov bt) (e1 : ∀ p, p < pw → P p = P2 p) (e2 : ∀ p, p < pw → La p = La2 p) (e3 : hp = hp2) (e4 : hc = hc2) (e5 : ov = ov2) (e6 : bt = bt2) : LcQ g lay M c pw S P2 La2 tn hp2 hc2 ov2 bt2 := by
  subst e3 e4 e5 e6
  obtain ⟨h1, h2, h3, h4, h5⟩ := h
  exact ⟨h1, h2, fun p hp => (h3 p hp).trans (e1 p hp), fun p hp => (h4 p hp).trans (e2 p hp), h5⟩

set_option maxRecDepth 100000 in
theorem law_pass {g : GG} {lay : Lay} {M : Mem} {K : KK} {cn ck : Nat} {kx : Int} {d b c t pw nn : Nat} {hc st : Int} {sx : List Int} {T : CT} (gB : GoodB) (hI : LwI g lay M d b c t pw nn hc sx T) (hV : LInv T pw hc) (hcn : cn ≤ 90000) (hck : ck ≤ 3900000) (k : ∀ lay2 M2 hc2 cn2 ck2, cn2 ≤ cn + 8 → ck2 ≤ ck + 80 → LwI g lay2 M2 d b c t pw nn hc2 sx (actPass T) → LInv (actPass T) pw hc2 → X g m_L_law cn2 ck2 lay2 M2 730 [(13, vI kx), (1, vR d), (2, vR b), (3, vI (pw : Nat)), (7, vI (tS T 4)), (10, vR c), (11, vR t), (12, vI (st - 6))] [] K) : X g m_L_law cn ck lay M 531 [(13, vI kx), (1, vR d), (2, vR b), (3, vI (pw : Nat)), (7, vI (tS T 4)), (10, vR c), (11, vR t), (12, vI (st - 6))] [] K := by
  have hWf : WfT T := hI.2.2.2.1.2.2.2.2
  obtain ⟨hO, hB, hNc, hh, hP⟩ := id hV
  have hWl := LcW.of hWf hP hh
  have ha1 := hI.1
  have w1 := hWl.1
  have hPw := hP.1
  have n60 := hWf.n60
  have oo := hWf.2.2.2.2.2.2.1
  have bb9 := hWf.2.2.2.2.2.2.2
  have s60 := hWf.1.2.2.1
  obtain ⟨A, u, hA, hu0, hu1⟩ := hI.2.2.2.2.1
  have done : ∀ (lay2 : Lay) (M2 M3 : Mem) (cn2 ck2 : Nat) (z : Int), cn2 ≤ cn + 8 → ck2 ≤ ck + 80 → tO T = 0 → LwJ g lay2 M2 d b c t pw nn sx (actPass T) (tS T) (tP T) (laF T) (tN T) (hpF T) hc (tO T) (tB T) (tK T) (tL T) → (∀ y i, y ≠ c → M3 y i = M2 y i) → (z = 1 ∧ ((tN T : Int) + 1 = tS T 2 ∨ ((1 : Int) = 1 ∧ hpF T = 1) ∨ allQ pw (tS T) (laF T) (tN T + 1)) ∨ z = 0 ∧ ¬ ((tN T : Int) + 1 = tS T 2 ∨ ((1 : Int) = 1 ∧ hpF T = 1) ∨ allQ pw (tS T) (laF T) (tN T + 1))) → LcQ g lay2 M3 c pw (tS T) (tP T) (laF T) (tN T + 1) 1 0 z (tB T) → X g m_L_law cn2 ck2 lay2 M3 730 [(13, vI kx), (1, vR d), (2, vR b), (3, vI (pw : Nat)), (7, vI (tS T 4)), (10, vR c), (11, vR t), (12, vI (st - 6))] [] K := by
    intro lay2 M2 M3 cn2 ck2 z h1 h2 h0 hJ hp hz hQ
    have e : actPass T = tTerm T 0 0 := if_neg (by omega)
    have el : laF (tTerm T 0 0) = laF T := funext fun q => by rw [laF_term, if_neg (fun h => h.1 rfl)]
    have ei := end_iff (x := 0) (p := 0) hP (hO h0)
    rw [el] at ei
    have ez : z = tO (tTerm T 0 0) := by
      show z = if endP (tLay T 0 0) 0 then 1 else 0
      have nr : ¬ reachP (tLay T 0 0) 0 := fun h => h.1 rfl
      rcases hz with ⟨z1, z2⟩ | ⟨z1, z2⟩
      · rw [if_pos (ei.mpr ?_), z1]
        rcases z2 with h | ⟨-, h⟩ | h
        · exact Or.inr (Or.inl h)
        · exact Or.inr (Or.inr (Or.inl ⟨rfl, h⟩))
        · exact Or.inr (Or.inr (Or.inr h))
      · rw [if_neg (fun h => z2 ?_), z1]
        rcases ei.mp h with h | h | ⟨-, h⟩ | h
        · exact absurd h nr
        · exact Or.inl h
        · exact Or.inr (Or.inl ⟨rfl, h⟩)
        · exact Or.inr (Or.inr h)
    have hO2 : WfO (tTerm T 0 0) := by rw [← e]; exact (actPass_wf hWf hO).2.1
    have hV2 := hV.term (x := 0) (p := 0) hWf h0 (by omega) hO2
    rw [e] at hJ
    have hQ2 : LcQ g lay2 M3 c pw (tS T) (tP (tTerm T 0 0)) (laF (tTerm T 0 0)) (tN T + 1) (hpF (tTerm T 0 0)) 0 (tO (tTerm T 0 0)) (tB (tTerm T 0 0)) := hQ.to (fun q _ => by
        show tP T q = fup (tP T) 0 (tP T 0 + 0) q
        unfold fup
        split
        · rename_i h
          rw [h]
          omega
        · rfl) (fun q _ => by rw [el]) (by rw [hpF_term, if_pos rfl]) rfl ez (by
        show tB T = if reachP (tLay T 0 0) 0 then ((tN T % 2 : Nat) : Int) else tB T
        rw [if_neg (fun h => h.1 rfl)])
    have hI2 : LwI g lay2 M3 d b c t pw nn 0 sx (tTerm T 0 0) := hJ.law (fun y i y1 _ _ => hp y i y1) hQ2
    rw [← e] at hI2 hV2
    exact k lay2 M3 0 cn2 ck2 h1 h2 hI2 hV2
  refine x_aload_n (pc := 531) dL_law_531 rfl rfl ?_
  refine x_callV (pc := 532) [] rfl kL_212 dL_law_532 hI.2.2.2.1.1.1 rfl rfl (by decide) (Nat.le_of_ble_eq_true rfl) (Nat.le_of_ble_eq_true rfl) (show _ + 0 ≤ 600086 ∧ _ + 0 ≤ 7301442 by omega) ?_
  refine sp_X4_pass gB hI.2.2.2.1.1 hI.2.2.2.1.2.1 hI.2.2.2.1.2.2.2.1 hWf hA ⟨hu0, hu1⟩ hO (fun M2 hAc hCt hDh => ?_)
  have hI := hI.act hAc hCt (actPass_wf hWf hO).1 hDh (undF_u ⟨hu0, hu1⟩)
  obtain ⟨zz, hzz, hzz2⟩ : ∃ zz : Int, zz = (if tO T = 1 then 1 else 0) ∧ (zz = 1 ∧ tO T = 1 ∨ zz = 0 ∧ tO T = 0) := ⟨_, rfl, by
    rcases oo with h | h
    · exact Or.inr ⟨if_neg (by omega), h⟩
    · exact Or.inl ⟨if_pos h, h⟩⟩
  rw [← hzz]
  refine ⟨_, rfl, ?_⟩
  refine X.cs (cn' := cn) (ck' := ck) ?_ (Nat.le_refl _) (Nat.le_refl _)
  refine x_aload (pc := 535) dL_law_535 rfl ?_
  refine x_getzN (pc := 537) frL_215 dL_law_537 hI.2.2.2.2.2.2.1.1.1.1 rfl (fun r537a r537b => ?_)
  have q12 := hI.2.2.2.2.2.2.1.2.2.2.2.2.2.2.2.1
  refine x_if_eq (pc := 540) (t := 547) dL_law_540 (by decide) ⟨by omega, by omega⟩ (fun c540 => ?_) (fun c540 => ?_)
  · refine x_iconst (pc := 547) dL_law_547 ?_
    refine x_icmp_eq (pc := 548) (t := 553) dL_law_548 (by decide) ⟨by omega, by omega⟩ ⟨by omega, by omega⟩ (fun c548 => ?_) (fun c548 => ?_)
    · refine x_aload (pc := 553) dL_law_553 rfl ?_
      refine x_getzN (pc := 555) frL_215 dL_law_555 hI.2.2.2.2.2.2.1.1.1.1 rfl (fun r555a r555b => ?_)
      have q12 := hI.2.2.2.2.2.2.1.2.2.2.2.2.2.2.2.1
      refine x_if_ne (pc := 558) (t := 730) dL_law_558 (by decide) ⟨by omega, by omega⟩ (fun c558 => ?_) (fun c558 => ?_)
      · refine X.loc [0, 1, 2, 3, 4, 5, 6, 7] (L' := [(13, _), (1, _), (2, _), (3, _), (7, _), (10, _), (11, _), (12, _)]) rfl ?_
        first
        | exact done lay M2 M3 _ _ z (by omega) (by omega) (by omega) hI p3 hz hQ3
        | (have e : actPass T = T := if_pos (by omega)
           rw [e] at hI k
           exact k lay M2 hc _ _ (by omega) (by omega) hI hV)
      · refine x_aload (pc := 561) dL_law_561 rfl ?_
        refine x_iconst (pc := 563) dL_law_563 ?_
        refine x_callV (pc := 564) [_] rfl kL_218 dL_law_564 hI.2.2.2.2.2.2.1.1.1.1 rfl rfl (by decide) (Nat.le_of_ble_eq_true rfl) (Nat.le_of_ble_eq_true rfl) (show _ + 0 ≤ 600086 ∧ _ + 0 ≤ 7301442 by omega) ?_
        refine sp_X6_ends hI.2.2.2.2.2.2.1 hWl ⟨by omega, by omega⟩ (by have := hO (by omega); omega) (fun M3 z p3 hz hQ3 => ?_)
        refine ⟨_, rfl, ?_⟩
        refine X.cs (cn' := cn) (ck' := ck) ?_ (Nat.le_refl _) (Nat.le_refl _)
        refine x_goto (pc := 567) (t := 730) dL_law_567 (by decide) ?_
        refine X.loc [0, 1, 2, 3, 4, 5, 6, 7] (L' := [(13, _), (1, _), (2, _), (3, _), (7, _), (10, _), (11, _), (12, _)]) rfl ?_
        first
        | exact done lay M2 M3 _ _ z (by omega) (by omega) (by omega) hI p3 hz hQ3
        | (have e : actPass T = T := if_pos (by omega)
           rw [e] at hI k
           exact k lay M2 hc _ _ (by omega) (by omega) hI hV)
    · exfalso; omega
  · refine x_iconst (pc := 543) dL_law_543 ?_
    refine x_goto (pc := 544) (t := 548) dL_law_544 (by decide) ?_
    refine x_icmp_eq (pc := 548) (t := 553) dL_law_548 (by decide) ⟨by omega, by omega⟩ ⟨by omega, by omega⟩ (fun c548 => ?_) (fun c548 => ?_)
    · refine x_aload (pc := 553) dL_law_553 rfl ?_
      refine x_getzN (pc := 555) frL_215 dL_law_555 hI.2.2.2.2.2.2.1.1.1.1 rfl (fun r555a r555b => ?_)
      have q12 := hI.2.2.2.2.2.2.1.2.2.2.2.2.2.2.2.1
      refine x_if_ne (pc := 558) (t := 730) dL_law_558 (by decide) ⟨by omega, by omega⟩ (fun c558 => ?_) (fun c558 => ?_)
      · refine X.loc [0, 1, 2, 3, 4, 5, 6, 7] (L' := [(13, _), (1, _), (2, _), (3, _), (7, _), (10, _), (11, _), (12, _)]) rfl ?_
        first
        | exact done lay M2 M3 _ _ z (by omega) (by omega) (by omega) hI p3 hz hQ3
        | (have e : actPass T = T := if_pos (by omega)
           rw [e] at hI k
           exact k lay M2 hc _ _ (by omega) (by omega) hI hV)
      · refine x_aload (pc := 561) dL_law_561 rfl ?_
        refine x_iconst (pc := 563) dL_law_563 ?_
        refine x_callV (pc := 564) [_] rfl kL_218 dL_law_564 hI.2.2.2.2.2.2.1.1.1.1 rfl rfl (by decide) (Nat.le_of_ble_eq_true rfl) (Nat.le_of_ble_eq_true rfl) (show _ + 0 ≤ 600086 ∧ _ + 0 ≤ 7301442 by omega) ?_
        refine sp_X6_ends hI.2.2.2.2.2.2.1 hWl ⟨by omega, by omega⟩ (by have := hO (by omega); omega) (fun M3 z p3 hz hQ3 => ?_)
        refine ⟨_, rfl, ?_⟩
        refine X.cs (cn' := cn) (ck' := ck) ?_ (Nat.le_refl _) (Nat.le_refl _)
        refine x_goto (pc := 567) (t := 730) dL_law_567 (by decide) ?_
        refine X.loc [0, 1, 2, 3, 4, 5, 6, 7] (L' := [(13, _), (1, _), (2, _), (3, _), (7, _), (10, _), (11, _), (12, _)]) rfl ?_
        first
        | exact done lay M2 M3 _ _ z (by omega) (by omega) (by omega) hI p3 hz hQ3
        | (have e : actPass T = T := if_pos (by omega)
           rw [e] at hI k
           exact k lay M2 hc _ _ (by omega) (by omega) hI hV)
    · exfalso; omega
