/-! The settings told and loaded. -/
theorem LwJ.load {g : GG} {lay : Lay} {M M2 : Mem} {d b c t pw nn : Nat} {sx : List Int} {T T2 : CT} {S P La : Nat → Int} {tn : Nat} {hp hc ov bt : Int} {kk : Nat → Nat} {ll : Nat → Nat → Nat → Int} (h : LwJ g lay M d b c t pw nn sx T S P La tn hp hc ov bt kk ll) (p : ∀ y i, ¬ (b ≤ y ∧ y < b + 28) → M2 y i = M y i) (hCt : Ct T2 M2 (b + 1)) (hW : WfT T2) (hA2 : ∃ A u, Dh A u M2 b ∧ 0 ≤ u ∧ u ≤ 12) (hR2 : ∃ tx n v cm, Rd tx n v M2 (b + 25) ∧ Cm cm M2 (b + 25)) : LwJ g lay M2 d b c t pw nn sx T2 S P La tn hp hc ov bt kk ll := by
  obtain ⟨⟨h1, h2, h2b⟩, hJ, hT, hD, -, -, hQ, hL, hS⟩ := h
  have E : Ext lay lay := Ext.rf
  have bw := hT.2.1
  exact ⟨⟨h1, h2, h2b⟩, hJ.ext E (n := g.2.1) (fun y i hy => p y i (by omega)) (Nat.le_refl _), hT.ext E (fun i => p _ i (by omega)), ⟨hD.1, hD.2.1, hD.2.2.1, hCt, hW⟩, hA2, hR2, hQ.ext E (fun y i y1 y2 => p y i (by omega)), hL.ext E (fun y i y1 y2 _ _ => p y i (by omega)), hS.fr E (fun i => p _ i (by omega)) (fun v cap hv hv2 i => p _ i (by omega))⟩

set_option maxRecDepth 100000 in
theorem law_load {g : GG} {lay : Lay} {M : Mem} {K : KK} {d b c t pw nn cn ck : Nat} {st : Int} {sx : List Int} {T0 : CT} (gB : GoodB) (gC : ∀ P, WfP P → cntOK 5 (buildF P)) (gR : GoodRt) (hSet : SetOK sx st T0) (hst : 0 ≤ st ∧ st ≤ 20) (hW0 : WfT T0) (hV : LInv T0 pw 0) (hHP : ∀ T, Hist T0 T 22 → PlayOK T0 T) (hJ : LwJ g lay M d b c t pw nn sx tNew (tS T0) (tP T0) (laF T0) (tN T0) (hpF T0) 0 (tO T0) (tB T0) (tK T0) (tL T0)) (hcn : cn ≤ 10000) (hck : ck ≤ 1000000) (hnn : nn ≤ 900) (k : ∀ lay2 M2, K (.inl (some (vI 1))) lay2 M2) : X g m_L_law cn ck lay M 321 [(1, vR d), (2, vR b), (3, vI (pw : Nat)), (7, vI (tS T0 4)), (10, vR c), (11, vR t), (12, vI (st - 6))] [] K := by
  have ha1 := hJ.1
  obtain ⟨⟨sl, sc⟩, sp⟩ := hSet
  have hbw := hJ.2.2.2.1.2.1
  have hbl := hJ.2.2.2.1.2.2.1
  obtain ⟨A, u, hA, hu0, hu1⟩ := hJ.2.2.2.2.1
  obtain ⟨tx, n, v, cm, hR, hC⟩ := hJ.2.2.2.2.2.1
  have hd := hJ.2.2.2.1.1
  have htl := hJ.2.2.2.2.2.2.2.2.lt
  have hS := hJ.2.2.2.2.2.2.2.2
  have hdk := hJ.2.2.1.1
  have hWl := LcW.of hW0 hV.2.2.2.2 hV.2.2.2.1
  have w1 := hWl.1
  refine x_aload_n (pc := 321) dL_law_321 rfl rfl ?_
  refine x_aload (pc := 322) dL_law_322 rfl ?_
  refine x_callV (pc := 324) [] rfl kL_143 dL_law_324 hS.kn.1 rfl rfl (by decide) (Nat.le_of_ble_eq_true rfl) (Nat.le_of_ble_eq_true rfl) (show _ + 2 ≤ 600086 ∧ _ + 704 ≤ 7301442 by omega) ?_
  refine sp_J4_toString_0e30d hS (by omega) (fun a4 lay4 M4 e4 E4 p4 hT4 hv4 => ?_)
  have hJ := hJ.scr E4 (fun y i h _ => p4 y i h)
  have hA := hA.mem (M' := M4) (fun i => p4 _ i (by omega)) (fun i => p4 _ i (by omega))
  have hR := hR.mem (M' := M4) (fun y i y1 y2 => p4 _ i (by omega))
  have hC := hC.mem (M' := M4) (fun i => p4 _ i (by omega))
  have hd := hJ.2.2.2.1.1
  refine ⟨_, rfl, ?_⟩
  refine X.cs (cn' := cn + 2) (ck' := ck + 704) ?_ (Nat.le_refl _) (Nat.le_refl _)
  refine x_callS (pc := 327) [_, _] rfl kL_155 dL_law_327 rfl (by decide) (Nat.le_of_ble_eq_true rfl) (Nat.le_of_ble_eq_true rfl) (show _ + 200 ≤ 600086 ∧ _ + 1200 ≤ 7301442 by omega) ?_
  refine sp_L_puts hd hbw hR hT4 (by omega) sc (by omega) (fun v h => by have := hv4 v h; omega) (fun M5 tx5 v5 hF5 hR5 htx5 => ?_)
  obtain ⟨s1, s2, s3⟩ := sp tx5 v5 htx5
  refine ⟨_, rfl, ?_⟩
  refine X.cs (cn' := cn + 202) (ck' := ck + 1904) ?_ (Nat.le_refl _) (Nat.le_refl _)
  refine x_aload_n (pc := 330) dL_law_330 rfl rfl ?_
  refine x_callV (pc := 331) [] rfl kL_159 dL_law_331 hd.1 rfl rfl (by decide) (Nat.le_of_ble_eq_true rfl) (Nat.le_of_ble_eq_true rfl) (show _ + 0 ≤ 600086 ∧ _ + 0 ≤ 7301442 by omega) ?_
  refine sp_X4_load hd hbw hR5 (fun M6 hF6 hR6 h61 h60 => ?_)
  rw [if_pos s1, s2]
  obtain ⟨hCt, hu6⟩ := h61 s1
  rw [s3] at hCt
  have hA6 : Dh A 0 M6 b := ⟨fun i hi => (hF6 _ _ (by omega) (by omega)).trans ((hF5 _ _ (by omega)).trans (hA.1 i hi)), hu6⟩
  have hC6 := hC.mem (M' := M6) (fun i => (hF6 _ _ (by omega) (by omega)).trans (hF5 _ _ (by omega)))
  have hI : LwI g lay4 M6 d b c t pw nn 0 sx T0 := hJ.load (fun y i hy => (hF6 _ _ (by omega) (by omega)).trans (hF5 _ _ (by omega))) hCt hW0 ⟨A, 0, hA6, by decide, by decide⟩ ⟨_, _, _, _, hR6, hC6⟩
  refine ⟨_, rfl, ?_⟩
  refine X.cs (cn' := cn + 202) (ck' := ck + 1904) ?_ (Nat.le_refl _) (Nat.le_refl _)
  refine x_bipush (pc := 334) dL_law_334 (by decide) ?_
  refine x_iload (pc := 336) dL_law_336 rfl ?_
  refine x_iadd (pc := 338) dL_law_338 ?_
  refine x_icmp_ne (pc := 339) (t := 351) dL_law_339 (by decide) ⟨by omega, by omega⟩ ⟨by omega, by omega⟩ (fun c339 => ?_) (fun c339 => ?_)
  · exfalso; omega
  · refine x_aload_n (pc := 342) dL_law_342 rfl rfl ?_
    refine x_aload (pc := 343) dL_law_343 rfl ?_
    refine x_callS (pc := 345) [_, _] rfl kL_162 dL_law_345 rfl (by decide) (Nat.le_of_ble_eq_true rfl) (Nat.le_of_ble_eq_true rfl) (show _ + 400 ≤ 600086 ∧ _ + 2400 ≤ 7301442 by omega) ?_
    refine sp_L_areRoots gB gC hI.ar hWl (by omega) hV.2.2.2.2.2 (gR T0 pw hW0 hV.2.2.2.2).1 (gR T0 pw hW0 hV.2.2.2.2).2 (fun lay3 M3 E3 p3 hD3 => ?_)
    have hI := hI.scr E3 (fun y i _ h => p3 y i h)
    refine ⟨_, rfl, ?_⟩
    refine X.cs (cn' := cn + 602) (ck' := ck + 4304) ?_ (Nat.le_refl _) (Nat.le_refl _)
    refine x_if_ne (pc := 348) (t := 353) dL_law_348 (by decide) ⟨by omega, by omega⟩ (fun c348 => ?_) (fun c348 => ?_)
    · refine x_iconst (pc := 353) dL_law_353 ?_
      refine x_aload_n (pc := 354) dL_law_354 rfl rfl ?_
      refine x_bipush (pc := 355) dL_law_355 (by decide) ?_
      refine x_callV (pc := 357) [_] rfl kL_113 dL_law_357 hI.2.2.1.1.1 rfl rfl (by decide) (Nat.le_of_ble_eq_true rfl) (Nat.le_of_ble_eq_true rfl) (show _ + 0 ≤ 600086 ∧ _ + 0 ≤ 7301442 by omega) ?_
      refine sp_X7_next hI.2.2.1 (by omega) ⟨by omega, by omega⟩ (fun z M3 za zb p3 hT3 => ?_)
      have hI := hI.draw p3 hT3
      refine ⟨_, rfl, ?_⟩
      refine X.cs (cn' := cn + 602) (ck' := ck + 4304) ?_ (Nat.le_refl _) (Nat.le_refl _)
      refine x_iadd (pc := 360) dL_law_360 ?_
      refine x_istore (pc := 361) dL_law_361 trivial (by decide) (L' := [(13, _), (1, _), (2, _), (3, _), (7, _), (10, _), (11, _), (12, _)]) rfl ?_
      refine X.loc [0, 1, 2, 3, 4, 5, 6, 7] (L' := [(13, _), (1, _), (2, _), (3, _), (7, _), (10, _), (11, _), (12, _)]) rfl ?_
      obtain ⟨kx, hkx⟩ : ∃ kx : Nat, (kx : Int) = 3 + z := ⟨(3 + z).toNat, Int.toNat_of_nonneg (by omega)⟩
      rw [← hkx]
      exact law_loop gB gC gR ⟨⟨sl, sc⟩, sp⟩ hst hW0 hV.1 hHP k kx (by omega) _ _ _ _ _ 0 T0 (by omega) (by omega) (by omega) rfl hI hV ⟨fun _ => 0, 0, Nat.zero_le _, fun j hj => absurd hj (Nat.not_lt_zero j), rfl⟩
    · exfalso; omega
