/-! The reference's reader: a command of a script. -/
/-- command j as it is kept -/
def CmR (cm : Nat → Int) (M : Mem) (d j : Nat) : Prop := M (d + 11) (6 * j) = cm (6 * j) + 7 ∧ (cm (6 * j) = 0 → M (d + 11) (6 * j + 1) = cm (6 * j + 1) ∧ M (d + 11) (6 * j + 2) = cm (6 * j + 2)) ∧ (cm (6 * j) = 1 → ∀ f, 1 ≤ f → f ≤ 5 → M (d + 11) (6 * j + f) = cm (6 * j + f))
/-- a command and its semicolon -/
def stepF (tx : Nat → Int) (n : Nat) (v cm : Nat → Int) (P : Int) : SC3 := if (rCmdF tx n v cm P).1 ≠ 1 then (0, (rCmdF tx n v cm P).2) else if (semF tx n (rCmdF tx n v cm P).2.1).1 ≠ 1 then (0, (semF tx n (rCmdF tx n v cm P).2.1).2, (rCmdF tx n v cm P).2.2) else (1, fup (semF tx n (rCmdF tx n v cm P).2.1).2 5 ((semF tx n (rCmdF tx n v cm P).2.1).2 5 + 1), (rCmdF tx n v cm P).2.2)
def KRel (tx : Nat → Int) (n : Nat) (R : SC3) (j : Nat) (M0 M : Mem) (d : Nat) : Prop := FrC d M0 M ∧ (∀ i, i < 6 * j → M (d + 11) i = M0 (d + 11) i) ∧ ((R.1 = 1 ∧ RelT tx n R.2.1 M d ∧ M d 20 = (j : Int) + 1 ∧ j < 40 ∧ CmR R.2.2 M d j) ∨ (R.1 ≠ 1 ∧ BadT tx n R.2.1 M d))
theorem BadT.mf {tx v : Nat → Int} {n : Nat} {M : Mem} {d i : Nat} {x : Int} (h : BadT tx n v M d) (hi : 19 ≤ i) : BadT tx n v (mset M d i x) d := by
  obtain ⟨⟨hT, hR⟩, ⟨a1, a2, a3⟩, a4⟩ := h
  refine ⟨⟨hT.z (mset_ne (by omega)) (fun j => mset_nea (by omega)), hR⟩, ⟨?_, ?_, a3⟩, ?_⟩ <;> rw [mset_ne (by omega)] <;> assumption
theorem FrC.q {d : Nat} {v : Int} {M M' : Mem} (h : FrC d M M') : FrC d M (mset M' d 20 v) := fun a j q q2 => (mset_ne (fun z => q ⟨z.1, Or.inr z.2⟩)).trans (h a j q q2)

set_option maxRecDepth 100000 in
theorem sp_X5_readCommand {g : GG} {lay : Lay} {M : Mem} {K : KK} {d : Nat} {tx v : Nat → Int} {n : Nat} {j : Nat} {cm : Nat → Int} {T : CT} (hd : MoL lay d) (hb0 : g.2.1 ≤ d) (hV : RelT tx n v M d) (hD : Wd M d) (hj : j ≤ 40) (h5 : v 5 = j) (h20 : M d 20 = j) (hRow : RowT T (M (d + 1))) (hW : WfT T) (k : ∀ M2, KRel tx n (stepF tx n v cm (tS T 0)) j M M2 d → K (.inl none) lay M2) : X g m_X5_readCommand 0 0 lay M 0 [(0, vR d)] [] K := by
  obtain ⟨⟨hT, hR, hK⟩, ⟨h17, h18, v3, v4⟩, h13, h14, h15, h16⟩ := id hV
  obtain ⟨⟨k61, k62⟩, ⟨k71, k72⟩, ⟨k81, k82⟩, k91, k92⟩ := id hK
  have hnr := h16.rng
  have hmk := @mk_iff (v 6)
  have h600 := hT.1.1
  have ne1 : ¬ (0 : Int) = 1 := by decide
  have hv5 : (v 5).toNat = j := by omega
  have hP5 := hW.1.1
  have hP0 : M (d + 1) 0 = tS T 0 := hRow.1.1 0 (by omega)
  obtain ⟨P, hPe⟩ : ∃ P, P = tS T 0 := ⟨_, rfl⟩
  rw [← hPe] at k hP0 hP5
  obtain ⟨C, hC⟩ : ∃ C, C = rCmdF tx n v cm P := ⟨_, rfl⟩
  obtain ⟨R, hR9⟩ : ∃ R, R = stepF tx n v cm P := ⟨_, rfl⟩
  have hRs := hR9
  unfold stepF at hRs
  rw [← hC] at hRs
  rw [← hR9] at k
  have hbad : C.1 ≠ 1 → R.1 ≠ 1 ∧ R.2.1 = C.2.1 := fun h => by
    rw [hRs, if_pos h]
    exact ⟨ne1, rfl⟩
  have wr := wordF_rng tx v
  obtain ⟨W, hWe⟩ : ∃ W, W = wordF tx v := ⟨_, rfl⟩
  have l7 : W = 7 ↔ isWordP tx v 7 := by rw [hWe]; exact @wordF_iff tx v 7 (by omega)
  have l8 : W = 8 ↔ isWordP tx v 8 := by rw [hWe]; exact @wordF_iff tx v 8 (by omega)
  have l9 : W = 9 ↔ isWordP tx v 9 := by rw [hWe]; exact @wordF_iff tx v 9 (by omega)
  rw [← hWe] at wr
  obtain ⟨u, hu⟩ : ∃ u, u = tokF tx n v := ⟨_, rfl⟩
  have hu5 : u 5 = v 5 := by rw [hu]; exact tok_ne (by omega)
  have bad122 : ∀ (M1 : Mem) (w2 : Int) (w : Nat → Int), (-1 ≤ w2 ∧ w2 < 12) → FrC d M M1 → M1 d 20 = j → (∀ i, i < 6 * j → M1 (d + 11) i = M (d + 11) i) → BadT tx n w M1 d → R.1 ≠ 1 → R.2.1 = w → X g m_X5_readCommand 0 0 lay M1 122 [(2, vI (6 * j : Nat)), (1, vI w2), (0, vR d)] [] K := by
    intro M1 w2 w hw2 hF h201 hpre hB hn1 hn2
    refine x_aload_n (pc := 122) dX5_readCommand_122 rfl rfl ?_
    refine x_callV (pc := 123) [] rfl kX5_345 dX5_readCommand_123 hd.1 rfl rfl (by decide) (Nat.le_of_ble_eq_true rfl) (Nat.le_of_ble_eq_true rfl) (by decide) ?_
    refine sp_X5_closesStatementB hd hb0 hB ?_
    refine ⟨_, rfl, ?_⟩
    refine x_aload_n (pc := 126) dX5_readCommand_126 rfl rfl ?_
    refine x_dup (pc := 127) dX5_readCommand_127 rfl ?_
    refine x_geti (pc := 128) fX5_348 dX5_readCommand_128 hd.1 rfl (fun r128a r128b => ?_)
    refine x_iconst (pc := 131) dX5_readCommand_131 ?_
    refine x_iadd (pc := 132) dX5_readCommand_132 ?_
    refine x_puti (pc := 133) fnX5_348 dX5_readCommand_133 hd.1 (by omega) rfl ⟨by omega, by omega⟩ ?_
    refine x_vret (pc := 136) dX5_readCommand_136 rfl (by decide) (by decide) ?_
    rw [h201]
    exact k _ ⟨hF.q, fun i hi => by rw [mset_nea (by omega)]; exact hpre i hi, Or.inr ⟨hn1, by rw [hn2]; exact hB.mf (by omega)⟩⟩
  have g122 : ∀ (M1 : Mem) (w2 : Int) (w cm2 : Nat → Int), (-1 ≤ w2 ∧ w2 < 12) → FrC d M M1 → M1 d 20 = j → (∀ i, i < 6 * j → M1 (d + 11) i = M (d + 11) i) → j < 40 → RelT tx n w M1 d → C = (1, w, cm2) → CmR cm2 M1 d j → X g m_X5_readCommand 0 0 lay M1 122 [(2, vI (6 * j : Nat)), (1, vI w2), (0, vR d)] [] K := by
    intro M1 w2 w cm2 hw2 hF h201 hpre hj4 hV1 hc hcr
    rw [hc] at hRs
    dsimp only at hRs
    rw [if_neg (fun z => z rfl)] at hRs
    refine x_aload_n (pc := 122) dX5_readCommand_122 rfl rfl ?_
    refine x_callV (pc := 123) [] rfl kX5_345 dX5_readCommand_123 hd.1 rfl rfl (by decide) (Nat.le_of_ble_eq_true rfl) (Nat.le_of_ble_eq_true rfl) (by decide) ?_
    refine sp_X5_closesStatement hd hb0 hV1 (fun M2 hF2 hP2 => ?_)
    have h202 : M2 d 20 = j := by rw [hF2 _ _ (by omega)]; exact h201
    refine ⟨_, rfl, ?_⟩
    refine x_aload_n (pc := 126) dX5_readCommand_126 rfl rfl ?_
    refine x_dup (pc := 127) dX5_readCommand_127 rfl ?_
    refine x_geti (pc := 128) fX5_348 dX5_readCommand_128 hd.1 rfl (fun r128a r128b => ?_)
    refine x_iconst (pc := 131) dX5_readCommand_131 ?_
    refine x_iadd (pc := 132) dX5_readCommand_132 ?_
    refine x_puti (pc := 133) fnX5_348 dX5_readCommand_133 hd.1 (by omega) rfl ⟨by omega, by omega⟩ ?_
    refine x_vret (pc := 136) dX5_readCommand_136 rfl (by decide) (by decide) ?_
    rw [h202]
    refine k _ ⟨(hF.p hF2).q, fun i hi => by rw [mset_nea (by omega), hF2 _ _ (by omega)]; exact hpre i hi, ?_⟩
    rcases hP2 with ⟨p1, p2⟩ | ⟨p1, p2⟩
    · rw [if_neg (fun z => z p1)] at hRs
      refine Or.inl ⟨by rw [hRs], ?_, mset_same, hj4, ?_⟩
      · rw [hRs]
        have p3 : RelT tx n (fup (semF tx n w).2 5 ((semF tx n w).2 5 + 1)) M2 d := p2
        exact p3.mf (by omega)
      · rw [hRs]
        have e11 : ∀ i, mset M2 d 20 ((j : Int) + 1) (d + 11) i = M1 (d + 11) i := fun i => by rw [mset_nea (by omega), hF2 _ _ (by omega)]
        obtain ⟨c1, c2, c3⟩ := hcr
        refine ⟨by rw [e11]; exact c1, fun h => by rw [e11, e11]; exact c2 h, fun h f f1 f2 => by rw [e11]; exact c3 h f f1 f2⟩
    · rw [if_pos p1] at hRs
      exact Or.inr ⟨by rw [hRs]; exact ne1, by rw [hRs]; exact p2.mf (by omega)⟩
  have bad107 : ∀ (M1 : Mem) (w2 y : Int) (w : Nat → Int), (-1 ≤ w2 ∧ w2 < 12) → -200000 ≤ y ∧ y ≤ 200000 → FrC d M M1 → M1 d 20 = j → (∀ i, i < 6 * j → M1 (d + 11) i = M (d + 11) i) → j < 40 → BadT tx n w M1 d → R.1 ≠ 1 → R.2.1 = w → X g m_X5_readCommand 0 0 lay M1 107 [(2, vI (6 * j : Nat)), (1, vI w2), (0, vR d)] [vI y, vI ((6 * j : Nat) + 2), vR (d + 11)] K := by
    intro M1 w2 y w hw2 hy hF h201 hpre hj4 hB hn1 hn2
    refine x_iast (pc := 107) dX5_readCommand_107 hd.2.2.2.2.2.2.2.2.2.2.2.1 (by omega) (by omega) (by omega) ⟨by omega, by omega⟩ ?_
    refine x_goto (pc := 108) (t := 122) dX5_readCommand_108 (by decide) ?_
    rw [show (((6 * j : Nat) : Int) + 2).toNat = 6 * j + 2 by omega]
    refine X.loc [0, 1, 2] (L' := [(2, _), (1, _), (0, _)]) rfl ?_
    exact bad122 _ _ w hw2 hF.m (by rw [mset_nea (by omega)]; exact h201) (fun i hi => by rw [mset_nei (by omega)]; exact hpre i hi) hB.m11 hn1 hn2
  have g107 : ∀ (M1 : Mem) (w2 x y : Int) (w cm2 : Nat → Int), (-1 ≤ w2 ∧ w2 < 12) → -200000 ≤ y ∧ y ≤ 200000 → FrC d M M1 → M1 d 20 = j → (∀ i, i < 6 * j → M1 (d + 11) i = M (d + 11) i) → j < 40 → RelT tx n w M1 d → C = (1, w, kpF (kpF (kpF cm v 0 0) u 1 x) u 2 y) → M1 (d + 11) (6 * j) = 7 → M1 (d + 11) (6 * j + 1) = x → X g m_X5_readCommand 0 0 lay M1 107 [(2, vI (6 * j : Nat)), (1, vI w2), (0, vR d)] [vI y, vI ((6 * j : Nat) + 2), vR (d + 11)] K := by
    intro M1 w2 x y w cm2 hw2 hy hF h201 hpre hj4 hV1 hc hm0 hm1
    refine x_iast (pc := 107) dX5_readCommand_107 hd.2.2.2.2.2.2.2.2.2.2.2.1 (by omega) (by omega) (by omega) ⟨by omega, by omega⟩ ?_
    refine x_goto (pc := 108) (t := 122) dX5_readCommand_108 (by decide) ?_
    rw [show (((6 * j : Nat) : Int) + 2).toNat = 6 * j + 2 by omega]
    refine X.loc [0, 1, 2] (L' := [(2, _), (1, _), (0, _)]) rfl ?_
    refine g122 _ _ w _ hw2 hF.m (by rw [mset_nea (by omega)]; exact h201) (fun i hi => by rw [mset_nei (by omega)]; exact hpre i hi) hj4 hV1.m11 hc ?_
    have hu5n : (u 5).toNat = j := by rw [hu5]; exact hv5
    have q0 : kpF (kpF (kpF cm v 0 0) u 1 x) u 2 y (6 * j) = 0 := by
      unfold kpF
      rw [hu5n, hv5, fup_ne (by omega), fup_ne (by omega)]
      exact fup_at
    refine ⟨?_, fun _ => ⟨?_, ?_⟩, fun z => ?_⟩
    · rw [mset_nei (by omega), hm0, q0]
      rfl
    · rw [mset_nei (by omega), hm1]
      unfold kpF
      rw [hu5n, fup_ne (by omega), fup_at]
    · rw [mset_same]
      unfold kpF
      rw [hu5n, fup_at]
    · rw [q0] at z
      exact absurd z ne1
  have bad86 : ∀ (M1 : Mem) (w2 x : Int) (w : Nat → Int), (-1 ≤ w2 ∧ w2 < 12) → -200000 ≤ x ∧ x ≤ 200000 → FrC d M M1 → M1 d 20 = j → (∀ i, i < 6 * j → M1 (d + 11) i = M (d + 11) i) → j < 40 → BadT tx n w M1 d → R.1 ≠ 1 → R.2.1 = w → X g m_X5_readCommand 0 0 lay M1 86 [(2, vI (6 * j : Nat)), (1, vI w2), (0, vR d)] [vI x, vI ((6 * j : Nat) + 1), vR (d + 11)] K := by
    intro M1 w2 x w hw2 hx hF h201 hpre hj4 hB hn1 hn2
    have hP1 : M1 (d + 1) 0 = P := by rw [hF _ _ (by omega) (by omega)]; exact hP0
    refine x_iast (pc := 86) dX5_readCommand_86 hd.2.2.2.2.2.2.2.2.2.2.2.1 (by omega) (by omega) (by omega) ⟨by omega, by omega⟩ ?_
    refine x_aload_n (pc := 87) dX5_readCommand_87 rfl rfl ?_
    refine x_getr (pc := 88) (b := d + 11) fX5_46 dX5_readCommand_88 hd.1 rfl rfl ?_
    refine x_iload_n (pc := 91) dX5_readCommand_91 rfl rfl ?_
    refine x_iconst (pc := 92) dX5_readCommand_92 ?_
    refine x_iadd (pc := 93) dX5_readCommand_93 ?_
    refine x_aload_n (pc := 94) dX5_readCommand_94 rfl rfl ?_
    refine x_iconst (pc := 95) dX5_readCommand_95 ?_
    refine x_aload_n (pc := 96) dX5_readCommand_96 rfl rfl ?_
    refine x_getr (pc := 97) (b := d + 1) fX5_7 dX5_readCommand_97 hd.1 rfl rfl ?_
    refine x_iconst (pc := 100) dX5_readCommand_100 ?_
    refine x_iald (pc := 101) dX5_readCommand_101 hd.2.1 (by omega) (by omega) (fun r101a r101b => ?_)
    try simp (disch := omega) only [mset_same, mset_nea, mset_nei, mcopy_nea, mcopy_in, mcopy_out, Int.reduceToNat, Int.toNat_natCast, Nat.zero_add, Nat.sub_zero] at r101a r101b ⊢
    rw [hP1] at r101a r101b ⊢
    refine x_iconst (pc := 102) dX5_readCommand_102 ?_
    refine x_isub (pc := 103) dX5_readCommand_103 ?_
    refine x_callV (pc := 104) [_, _] rfl kX5_327 dX5_readCommand_104 hd.1 rfl rfl (by decide) (Nat.le_of_ble_eq_true rfl) (Nat.le_of_ble_eq_true rfl) (by decide) ?_
    refine sp_X5_readsB hd hb0 hB.m11 ⟨by omega, by omega⟩ ⟨by omega, by omega⟩ (fun y hy => ?_)
    refine ⟨_, rfl, ?_⟩
    rw [show (((6 * j : Nat) : Int) + 1).toNat = 6 * j + 1 by omega]
    refine X.loc [0, 1, 2] (L' := [(2, _), (1, _), (0, _)]) rfl ?_
    exact bad107 _ _ y w hw2 (by omega) hF.m (by rw [mset_nea (by omega)]; exact h201) (fun i hi => by rw [mset_nei (by omega)]; exact hpre i hi) hj4 hB.m11 hn1 hn2
  have g86 : ∀ (M1 : Mem) (w2 x : Int) (w : Nat → Int), (-1 ≤ w2 ∧ w2 < 12) → -200000 ≤ x ∧ x ≤ 200000 → FrC d M M1 → M1 d 20 = j → (∀ i, i < 6 * j → M1 (d + 11) i = M (d + 11) i) → j < 40 → RelT tx n w M1 d → C = (if (numRF tx n w 0 (P - 1)).1 ≠ 1 then (0, (numRF tx n w 0 (P - 1)).2, kpF (kpF cm v 0 0) u 1 x) else (1, (numRF tx n w 0 (P - 1)).2, kpF (kpF (kpF cm v 0 0) u 1 x) u 2 ((numRF tx n w 0 (P - 1)).2 10))) → M1 (d + 11) (6 * j) = 7 → X g m_X5_readCommand 0 0 lay M1 86 [(2, vI (6 * j : Nat)), (1, vI w2), (0, vR d)] [vI x, vI ((6 * j : Nat) + 1), vR (d + 11)] K := by
    intro M1 w2 x w hw2 hx hF h201 hpre hj4 hV1 hc hm0
    have hP1 : M1 (d + 1) 0 = P := by rw [hF _ _ (by omega) (by omega)]; exact hP0
    refine x_iast (pc := 86) dX5_readCommand_86 hd.2.2.2.2.2.2.2.2.2.2.2.1 (by omega) (by omega) (by omega) ⟨by omega, by omega⟩ ?_
    refine x_aload_n (pc := 87) dX5_readCommand_87 rfl rfl ?_
    refine x_getr (pc := 88) (b := d + 11) fX5_46 dX5_readCommand_88 hd.1 rfl rfl ?_
    refine x_iload_n (pc := 91) dX5_readCommand_91 rfl rfl ?_
    refine x_iconst (pc := 92) dX5_readCommand_92 ?_
    refine x_iadd (pc := 93) dX5_readCommand_93 ?_
    refine x_aload_n (pc := 94) dX5_readCommand_94 rfl rfl ?_
    refine x_iconst (pc := 95) dX5_readCommand_95 ?_
    refine x_aload_n (pc := 96) dX5_readCommand_96 rfl rfl ?_
    refine x_getr (pc := 97) (b := d + 1) fX5_7 dX5_readCommand_97 hd.1 rfl rfl ?_
    refine x_iconst (pc := 100) dX5_readCommand_100 ?_
    refine x_iald (pc := 101) dX5_readCommand_101 hd.2.1 (by omega) (by omega) (fun r101a r101b => ?_)
    try simp (disch := omega) only [mset_same, mset_nea, mset_nei, mcopy_nea, mcopy_in, mcopy_out, Int.reduceToNat, Int.toNat_natCast, Nat.zero_add, Nat.sub_zero] at r101a r101b ⊢
    rw [hP1] at r101a r101b ⊢
    refine x_iconst (pc := 102) dX5_readCommand_102 ?_
    refine x_isub (pc := 103) dX5_readCommand_103 ?_
    refine x_callV (pc := 104) [_, _] rfl kX5_327 dX5_readCommand_104 hd.1 rfl rfl (by decide) (Nat.le_of_ble_eq_true rfl) (Nat.le_of_ble_eq_true rfl) (by decide) ?_
    refine sp_X5_reads hd hb0 hV1.m11 ⟨by omega, by omega⟩ ⟨by omega, by omega⟩ (fun M2 y hF2 hP2 hy2 hyr => ?_)
    refine ⟨_, rfl, ?_⟩
    refine X.loc [0, 1, 2] (L' := [(2, _), (1, _), (0, _)]) rfl ?_
    have hF12 : FrC d M M2 := (hF.m).p hF2
    have h202 : M2 d 20 = j := by rw [hF2 _ _ (by omega), mset_nea (by omega)]; exact h201
    have hp2 : ∀ i, i < 6 * j → M2 (d + 11) i = M (d + 11) i := fun i hi => by rw [hF2 _ _ (by omega), mset_nei (by omega)]; exact hpre i hi
    rcases hP2 with ⟨p1, p2⟩ | ⟨p1, p2⟩
    · rw [if_neg (fun z => z p1), ← hy2 p1] at hc
      exact g107 M2 _ x y _ cm hw2 (by omega) hF12 h202 hp2 hj4 p2 hc (by rw [hF2 _ _ (by omega), mset_nei (by omega)]; exact hm0) (by rw [hF2 _ _ (by omega)]; exact mset_same)
    · rw [if_pos p1] at hc
      have h9 := hbad (by rw [hc]; exact ne1)
      exact bad107 M2 _ y _ hw2 (by omega) hF12 h202 hp2 hj4 p2 h9.1 (by rw [h9.2, hc])
  have t57 : ∀ (M1 : Mem), FrP d M M1 → j < 40 → RelT tx n u M1 d → (7 ≤ W ∧ W ≤ 9) → X g m_X5_readCommand 0 0 lay M1 57 [(2, vI (6 * j : Nat)), (1, vI W), (0, vR d)] [] K := by
    intro M1 hF hj4 hV1 h79
    have h201 : M1 d 20 = j := by rw [hF _ _ (by omega)]; exact h20
    have hD1 : Wd M1 d := fun i hi => by rw [hF _ _ (by omega)]; exact hD i hi
    have e79 : W = 7 ∨ W = 8 ∨ W = 9 := by omega
    have h40 : ¬ 40 ≤ v 5 := by omega
    rcases e79 with e | e | e
    · have ea : actWF tx v = 0 := by unfold actWF; rw [if_pos (l7.mp e)]
      have hC7 : C = rTermF tx n u (kpF cm v 0 0) P := by
        rw [hC]
        unfold rCmdF
        rw [ea, if_neg (by decide), if_neg h40, if_pos rfl, hu]
      rw [e]
      refine x_aload_n (pc := 57) dX5_readCommand_57 rfl rfl ?_
      refine x_getr (pc := 58) (b := d + 11) fX5_46 dX5_readCommand_58 hd.1 rfl rfl ?_
      refine x_iload_n (pc := 61) dX5_readCommand_61 rfl rfl ?_
      refine x_iload_n (pc := 62) dX5_readCommand_62 rfl rfl ?_
      refine x_iast (pc := 63) dX5_readCommand_63 hd.2.2.2.2.2.2.2.2.2.2.2.1 (by omega) (by omega) (by omega) ⟨by omega, by omega⟩ ?_
      refine x_iload_n (pc := 64) dX5_readCommand_64 rfl rfl ?_
      refine x_bipush (pc := 65) dX5_readCommand_65 (by decide) ?_
      refine x_icmp_ne (pc := 67) (t := 111) dX5_readCommand_67 (by decide) ⟨by omega, by omega⟩ ⟨by omega, by omega⟩ (fun c67 => ?_) (fun c67 => ?_)
      · exfalso; omega
      · refine x_aload_n (pc := 70) dX5_readCommand_70 rfl rfl ?_
        refine x_getr (pc := 71) (b := d + 11) fX5_46 dX5_readCommand_71 hd.1 rfl rfl ?_
        refine x_iload_n (pc := 74) dX5_readCommand_74 rfl rfl ?_
        refine x_iconst (pc := 75) dX5_readCommand_75 ?_
        refine x_iadd (pc := 76) dX5_readCommand_76 ?_
        refine x_aload_n (pc := 77) dX5_readCommand_77 rfl rfl ?_
        refine x_bipush (pc := 78) dX5_readCommand_78 (by decide) ?_
        refine x_bipush (pc := 80) dX5_readCommand_80 (by decide) ?_
        refine x_iconst (pc := 82) dX5_readCommand_82 ?_
        refine x_callV (pc := 83) [_, _, _] rfl kX5_330 dX5_readCommand_83 hd.1 rfl rfl (by decide) (Nat.le_of_ble_eq_true rfl) (Nat.le_of_ble_eq_true rfl) (by decide) ?_
        refine sp_X5_readInt0 hd hb0 hV1.m11 (fun M2 x hF2 hP2 hx2 hxr => ?_)
        refine ⟨_, rfl, ?_⟩
        refine X.loc [0, 1, 2] (L' := [(2, _), (1, _), (0, _)]) rfl ?_
        have hF12 : FrC d M M2 := ((FrC.rf.p hF).m).p hF2
        have h202 : M2 d 20 = j := by rw [hF2 _ _ (by omega), mset_nea (by omega)]; exact h201
        have hp2 : ∀ i, i < 6 * j → M2 (d + 11) i = M (d + 11) i := fun i hi => by rw [hF2 _ _ (by omega), mset_nei (by omega)]; exact hF _ _ (by omega)
        unfold rTermF at hC7
        rcases hP2 with ⟨p1, p2⟩ | ⟨p1, p2⟩
        · rw [if_neg (fun z => z p1), ← hx2 p1] at hC7
          exact g86 M2 _ x _ (by omega) hxr hF12 h202 hp2 hj4 p2 hC7 (by rw [hF2 _ _ (by omega)]; exact mset_same)
        · rw [if_pos p1] at hC7
          have h9 := hbad (by rw [hC7]; exact ne1)
          exact bad86 M2 _ x _ (by omega) hxr hF12 h202 hp2 hj4 p2 h9.1 (by rw [h9.2, hC7])
    · have ea : actWF tx v = 1 := by unfold actWF; rw [if_neg (fun z => by have := l7.mpr z; omega), if_pos (l8.mp e)]
      have hC8 : C = rClaimF tx n u (kpF cm v 0 1) := by
        rw [hC]
        unfold rCmdF
        rw [ea, if_neg (by decide), if_neg h40, if_neg (by decide), if_neg (by decide), hu]
      rw [e]
      refine x_aload_n (pc := 57) dX5_readCommand_57 rfl rfl ?_
      refine x_getr (pc := 58) (b := d + 11) fX5_46 dX5_readCommand_58 hd.1 rfl rfl ?_
      refine x_iload_n (pc := 61) dX5_readCommand_61 rfl rfl ?_
      refine x_iload_n (pc := 62) dX5_readCommand_62 rfl rfl ?_
      refine x_iast (pc := 63) dX5_readCommand_63 hd.2.2.2.2.2.2.2.2.2.2.2.1 (by omega) (by omega) (by omega) ⟨by omega, by omega⟩ ?_
      refine x_iload_n (pc := 64) dX5_readCommand_64 rfl rfl ?_
      refine x_bipush (pc := 65) dX5_readCommand_65 (by decide) ?_
      refine x_icmp_ne (pc := 67) (t := 111) dX5_readCommand_67 (by decide) ⟨by omega, by omega⟩ ⟨by omega, by omega⟩ (fun c67 => ?_) (fun c67 => ?_)
      · refine x_iload_n (pc := 111) dX5_readCommand_111 rfl rfl ?_
        refine x_bipush (pc := 112) dX5_readCommand_112 (by decide) ?_
        refine x_icmp_ne (pc := 114) (t := 122) dX5_readCommand_114 (by decide) ⟨by omega, by omega⟩ ⟨by omega, by omega⟩ (fun c114 => ?_) (fun c114 => ?_)
        · exfalso; omega
        · refine x_aload_n (pc := 117) dX5_readCommand_117 rfl rfl ?_
          refine x_iload_n (pc := 118) dX5_readCommand_118 rfl rfl ?_
          refine x_callV (pc := 119) [_] rfl kX5_351 dX5_readCommand_119 hd.1 rfl rfl (by decide) (Nat.le_of_ble_eq_true rfl) (Nat.le_of_ble_eq_true rfl) (by decide) ?_
          refine sp_X5_readClaim (cm := kpF cm v 0 1) hd hb0 hV1.m11 (fun i hi => by rw [mset_nea (by omega)]; exact hD1 i hi) hj4 (by rw [hu5]; exact h5) (fun M2 hc2 => ?_)
          rw [← hC8] at hc2
          obtain ⟨hF2, h202, hp2, hP2⟩ := hc2
          refine ⟨_, rfl, ?_⟩
          refine X.loc [0, 1, 2] (L' := [(2, _), (1, _), (0, _)]) rfl ?_
          have hF12 : FrC d M M2 := FrC.tr ((FrC.rf.p hF).m) hF2
          have h203 : M2 d 20 = j := by rw [h202, mset_nea (by omega)]; exact h201
          have hp3 : ∀ i, i < 6 * j → M2 (d + 11) i = M (d + 11) i := fun i hi => by rw [hp2 _ (by omega), mset_nei (by omega)]; exact hF _ _ (by omega)
          rcases hP2 with ⟨p1, p2, p3⟩ | ⟨p1, p2⟩
          · refine g122 M2 _ C.2.1 C.2.2 (by omega) hF12 h203 hp3 hj4 p2 (by rw [← p1]) ?_
            obtain ⟨l, a, b, r, s, -, -, -, -, hk⟩ := rClaim_cm (by rw [← hC8]; exact p1)
            rw [← hC8] at hk
            have hu5n : (u 5).toNat = j := by rw [hu5]; exact hv5
            have q0 : C.2.2 (6 * j) = 1 := by
              rw [hk]
              unfold kpF
              rw [hu5n, hv5, fup_ne (by omega), fup_ne (by omega), fup_ne (by omega), fup_ne (by omega), fup_ne (by omega)]
              exact fup_at
            refine ⟨?_, fun z => ?_, fun _ f f1 f2 => p3 f f1 f2⟩
            · rw [hp2 _ (by omega), q0]
              exact mset_same
            · rw [q0] at z
              omega
          · exact bad122 M2 _ _ (by omega) hF12 h203 hp3 p2 (hbad p1).1 (hbad p1).2
      · exfalso; omega
    · have ea : actWF tx v = 2 := by unfold actWF; rw [if_neg (fun z => by have := l7.mpr z; omega), if_neg (fun z => by have := l8.mpr z; omega), if_pos (l9.mp e)]
      have hC9 : C = (1, u, kpF cm v 0 2) := by
        rw [hC]
        unfold rCmdF
        rw [ea, if_neg (by decide), if_neg h40, if_neg (by decide), if_pos rfl, hu]
      rw [e]
      refine x_aload_n (pc := 57) dX5_readCommand_57 rfl rfl ?_
      refine x_getr (pc := 58) (b := d + 11) fX5_46 dX5_readCommand_58 hd.1 rfl rfl ?_
      refine x_iload_n (pc := 61) dX5_readCommand_61 rfl rfl ?_
      refine x_iload_n (pc := 62) dX5_readCommand_62 rfl rfl ?_
      refine x_iast (pc := 63) dX5_readCommand_63 hd.2.2.2.2.2.2.2.2.2.2.2.1 (by omega) (by omega) (by omega) ⟨by omega, by omega⟩ ?_
      refine x_iload_n (pc := 64) dX5_readCommand_64 rfl rfl ?_
      refine x_bipush (pc := 65) dX5_readCommand_65 (by decide) ?_
      refine x_icmp_ne (pc := 67) (t := 111) dX5_readCommand_67 (by decide) ⟨by omega, by omega⟩ ⟨by omega, by omega⟩ (fun c67 => ?_) (fun c67 => ?_)
      · refine x_iload_n (pc := 111) dX5_readCommand_111 rfl rfl ?_
        refine x_bipush (pc := 112) dX5_readCommand_112 (by decide) ?_
        refine x_icmp_ne (pc := 114) (t := 122) dX5_readCommand_114 (by decide) ⟨by omega, by omega⟩ ⟨by omega, by omega⟩ (fun c114 => ?_) (fun c114 => ?_)
        · refine X.loc [0, 1, 2] (L' := [(2, _), (1, _), (0, _)]) rfl ?_
          rw [Int.toNat_natCast]
          refine g122 _ _ u _ (by omega) (FrC.rf.p hF).m (by rw [mset_nea (by omega)]; exact h201) (fun i hi => by rw [mset_nei (by omega)]; exact hF _ _ (by omega)) hj4 hV1.m11 hC9 ?_
          have q0 : kpF cm v 0 2 (6 * j) = 2 := by
            unfold kpF
            rw [hv5]
            exact fup_at
          refine ⟨?_, fun z => ?_, fun z => ?_⟩
          · rw [mset_same, q0]
            rfl
          · rw [q0] at z
            omega
          · rw [q0] at z
            omega
        · exfalso; omega
      · exfalso; omega
  have t45 : j < 40 → (7 ≤ W ∧ W ≤ 9) → X g m_X5_readCommand 0 0 lay M 45 [(1, vI W), (0, vR d)] [] K := by
    intro hj4 hw6
    refine x_aload_n (pc := 45) dX5_readCommand_45 rfl rfl ?_
    refine x_callV (pc := 46) [] rfl kX5_302 dX5_readCommand_46 hd.1 rfl rfl (by decide) (Nat.le_of_ble_eq_true rfl) (Nat.le_of_ble_eq_true rfl) (by decide) ?_
    refine sp_X5_next hd hb0 hV (fun M2 hF2 hV2 => ?_)
    have h202 : M2 d 20 = j := by rw [hF2 _ _ (by omega)]; exact h20
    rw [← hu] at hV2
    refine ⟨_, rfl, ?_⟩
    refine x_bipush (pc := 49) dX5_readCommand_49 (by decide) ?_
    refine x_aload_n (pc := 51) dX5_readCommand_51 rfl rfl ?_
    refine x_geti (pc := 52) fX5_348 dX5_readCommand_52 hd.1 rfl (fun r52a r52b => ?_)
    refine x_imul (pc := 55) dX5_readCommand_55 ?_
    refine x_istore_n (pc := 56) dX5_readCommand_56 rfl (by decide) (L' := [(2, _), (1, _), (0, _)]) rfl ?_
    rw [h202, show 6 * (j : Int) = ((6 * j : Nat) : Int) by omega]
    refine X.loc [0, 1, 2] (L' := [(2, _), (1, _), (0, _)]) rfl ?_
    exact t57 M2 hF2 hj4 hV2 hw6
  have hC5 : 7 ≤ W ∧ W ≤ 9 ∧ ¬ j < 40 → C = (0, (failF v 5).2, cm) := fun h => by
    have ea : actWF tx v ≠ -1 := fun z => by
      unfold actWF at z
      have e79 : W = 7 ∨ W = 8 ∨ W = 9 := by omega
      rcases e79 with e | e | e
      · rw [if_pos (l7.mp e)] at z; omega
      · rw [if_neg (fun z => by have := l7.mpr z; omega), if_pos (l8.mp e)] at z; omega
      · rw [if_neg (fun z => by have := l7.mpr z; omega), if_neg (fun z => by have := l8.mpr z; omega), if_pos (l9.mp e)] at z; omega
    rw [hC]
    unfold rCmdF
    rw [if_neg ea, if_pos (by omega)]
  by_cases hw6 : 7 ≤ W ∧ W ≤ 9
  · have hz9 : (if 7 ≤ W ∧ W ≤ 9 then (1 : Int) else 0) = 1 := if_pos hw6
    refine x_aload_n (pc := 0) dX5_readCommand_0 rfl rfl ?_
    refine x_callV (pc := 1) [] rfl kX5_336 dX5_readCommand_1 hd.1 rfl rfl (by decide) (Nat.le_of_ble_eq_true rfl) (Nat.le_of_ble_eq_true rfl) (by decide) ?_
    refine sp_X5_wordHere hd hb0 hV hD ?_
    rw [← hWe]
    refine ⟨_, rfl, ?_⟩
    refine x_istore_n (pc := 4) dX5_readCommand_4 rfl (by decide) (L' := [(1, _), (0, _)]) rfl ?_
    refine x_aload_n (pc := 5) dX5_readCommand_5 rfl rfl ?_
    refine x_iload_n (pc := 6) dX5_readCommand_6 rfl rfl ?_
    refine x_bipush (pc := 7) dX5_readCommand_7 (by decide) ?_
    refine x_bipush (pc := 9) dX5_readCommand_9 (by decide) ?_
    refine x_callS (pc := 11) [_, _, _] rfl kX5_144 dX5_readCommand_11 rfl (by decide) (Nat.le_of_ble_eq_true rfl) (Nat.le_of_ble_eq_true rfl) (by decide) ?_
    refine sp_X5_in ⟨by omega, by omega⟩ ⟨by omega, by omega⟩ ⟨by omega, by omega⟩ ?_
    rw [hz9]
    refine ⟨_, rfl, ?_⟩
    refine x_iconst (pc := 14) dX5_readCommand_14 ?_
    refine x_callV (pc := 15) [_, _] rfl kX5_311 dX5_readCommand_15 hd.1 rfl rfl (by decide) (Nat.le_of_ble_eq_true rfl) (Nat.le_of_ble_eq_true rfl) (by decide) ?_
    first
    | (refine sp_X5_must1 hd hb0 ?_)
    | (refine sp_X5_must0 hd hb0 hV (by omega) (fun M2 hF2 hB2 => ?_)
       have hB3 := hB2.2.1.2.2.1
       have hB4 := hB2.2.1.1)
    refine ⟨_, rfl, ?_⟩
    refine x_aload_n (pc := 18) dX5_readCommand_18 rfl rfl ?_
    refine x_aload_n (pc := 19) dX5_readCommand_19 rfl rfl ?_
    refine x_geti (pc := 20) fX5_348 dX5_readCommand_20 hd.1 rfl (fun r20a r20b => ?_)
    refine x_bipush (pc := 23) dX5_readCommand_23 (by decide) ?_
    refine x_icmp_ge (pc := 25) (t := 32) dX5_readCommand_25 (by decide) ⟨by omega, by omega⟩ ⟨by omega, by omega⟩ (fun c25 => ?_) (fun c25 => ?_)
    · refine x_iconst (pc := 32) dX5_readCommand_32 ?_
      refine x_iconst (pc := 33) dX5_readCommand_33 ?_
      refine x_callV (pc := 34) [_, _] rfl kX5_311 dX5_readCommand_34 hd.1 rfl rfl (by decide) (Nat.le_of_ble_eq_true rfl) (Nat.le_of_ble_eq_true rfl) (by decide) ?_
      first
      | (refine sp_X5_must1 hd hb0 ?_)
      | (refine sp_X5_must0 hd hb0 hV (by omega) (fun M2 hF2 hB2 => ?_)
         have hB3 := hB2.2.1.2.2.1
         have hB4 := hB2.2.1.1)
      refine ⟨_, rfl, ?_⟩
      refine x_aload_n (pc := 37) dX5_readCommand_37 rfl rfl ?_
      refine x_geti (pc := 38) fX5_296 dX5_readCommand_38 hd.1 rfl (fun r38a r38b => ?_)
      refine x_if_le (pc := 41) (t := 45) dX5_readCommand_41 (by decide) ⟨by omega, by omega⟩ (fun c41 => ?_) (fun c41 => ?_)
      · refine X.loc [0, 1] (L' := [(1, _), (0, _)]) rfl ?_
        first
        | (exfalso; omega)
        | exact t45 (by omega) hw6
      · refine x_vret (pc := 44) dX5_readCommand_44 rfl (by decide) (by decide) ?_
        first
        | (exfalso; omega)
        | (have h9 := hbad (by rw [hC5 (by omega)]; exact ne1)
           rw [hC5 (by omega)] at h9
           exact k M2 ⟨FrC.rf.p hF2, fun i hi => hF2 _ _ (by omega), Or.inr ⟨h9.1, by rw [h9.2]; exact hB2⟩⟩)
    · refine x_iconst (pc := 28) dX5_readCommand_28 ?_
      refine x_goto (pc := 29) (t := 33) dX5_readCommand_29 (by decide) ?_
      refine x_iconst (pc := 33) dX5_readCommand_33 ?_
      refine x_callV (pc := 34) [_, _] rfl kX5_311 dX5_readCommand_34 hd.1 rfl rfl (by decide) (Nat.le_of_ble_eq_true rfl) (Nat.le_of_ble_eq_true rfl) (by decide) ?_
      first
      | (refine sp_X5_must1 hd hb0 ?_)
      | (refine sp_X5_must0 hd hb0 hV (by omega) (fun M2 hF2 hB2 => ?_)
         have hB3 := hB2.2.1.2.2.1
         have hB4 := hB2.2.1.1)
      refine ⟨_, rfl, ?_⟩
      refine x_aload_n (pc := 37) dX5_readCommand_37 rfl rfl ?_
      refine x_geti (pc := 38) fX5_296 dX5_readCommand_38 hd.1 rfl (fun r38a r38b => ?_)
      refine x_if_le (pc := 41) (t := 45) dX5_readCommand_41 (by decide) ⟨by omega, by omega⟩ (fun c41 => ?_) (fun c41 => ?_)
      · refine X.loc [0, 1] (L' := [(1, _), (0, _)]) rfl ?_
        first
        | (exfalso; omega)
        | exact t45 (by omega) hw6
      · refine x_vret (pc := 44) dX5_readCommand_44 rfl (by decide) (by decide) ?_
        first
        | (exfalso; omega)
        | (have h9 := hbad (by rw [hC5 (by omega)]; exact ne1)
           rw [hC5 (by omega)] at h9
           exact k M2 ⟨FrC.rf.p hF2, fun i hi => hF2 _ _ (by omega), Or.inr ⟨h9.1, by rw [h9.2]; exact hB2⟩⟩)
  · have hz9 : (if 7 ≤ W ∧ W ≤ 9 then (1 : Int) else 0) = 0 := if_neg hw6
    have ea : actWF tx v = -1 := by unfold actWF; rw [if_neg (fun z => by have := l7.mpr z; omega), if_neg (fun z => by have := l8.mpr z; omega), if_neg (fun z => by have := l9.mpr z; omega)]
    have hC0 : C = (0, (failF v 1).2, cm) := by
      rw [hC]
      unfold rCmdF
      rw [if_pos ea]
    refine x_aload_n (pc := 0) dX5_readCommand_0 rfl rfl ?_
    refine x_callV (pc := 1) [] rfl kX5_336 dX5_readCommand_1 hd.1 rfl rfl (by decide) (Nat.le_of_ble_eq_true rfl) (Nat.le_of_ble_eq_true rfl) (by decide) ?_
    refine sp_X5_wordHere hd hb0 hV hD ?_
    rw [← hWe]
    refine ⟨_, rfl, ?_⟩
    refine x_istore_n (pc := 4) dX5_readCommand_4 rfl (by decide) (L' := [(1, _), (0, _)]) rfl ?_
    refine x_aload_n (pc := 5) dX5_readCommand_5 rfl rfl ?_
    refine x_iload_n (pc := 6) dX5_readCommand_6 rfl rfl ?_
    refine x_bipush (pc := 7) dX5_readCommand_7 (by decide) ?_
    refine x_bipush (pc := 9) dX5_readCommand_9 (by decide) ?_
    refine x_callS (pc := 11) [_, _, _] rfl kX5_144 dX5_readCommand_11 rfl (by decide) (Nat.le_of_ble_eq_true rfl) (Nat.le_of_ble_eq_true rfl) (by decide) ?_
    refine sp_X5_in ⟨by omega, by omega⟩ ⟨by omega, by omega⟩ ⟨by omega, by omega⟩ ?_
    rw [hz9]
    refine ⟨_, rfl, ?_⟩
    refine x_iconst (pc := 14) dX5_readCommand_14 ?_
    refine x_callV (pc := 15) [_, _] rfl kX5_311 dX5_readCommand_15 hd.1 rfl rfl (by decide) (Nat.le_of_ble_eq_true rfl) (Nat.le_of_ble_eq_true rfl) (by decide) ?_
    first
    | (refine sp_X5_must0 hd hb0 hV (by omega) (fun M2 hF2 hB2 => ?_)
       have hB3 := hB2.2.1.2.2.1)
    | (refine sp_X5_mustB hd hb0 hB2 (by omega) ?_)
    refine ⟨_, rfl, ?_⟩
    refine x_aload_n (pc := 18) dX5_readCommand_18 rfl rfl ?_
    refine x_aload_n (pc := 19) dX5_readCommand_19 rfl rfl ?_
    refine x_geti (pc := 20) fX5_348 dX5_readCommand_20 hd.1 rfl (fun r20a r20b => ?_)
    refine x_bipush (pc := 23) dX5_readCommand_23 (by decide) ?_
    refine x_icmp_ge (pc := 25) (t := 32) dX5_readCommand_25 (by decide) ⟨by omega, by omega⟩ ⟨by omega, by omega⟩ (fun c25 => ?_) (fun c25 => ?_)
    · refine x_iconst (pc := 32) dX5_readCommand_32 ?_
      refine x_iconst (pc := 33) dX5_readCommand_33 ?_
      refine x_callV (pc := 34) [_, _] rfl kX5_311 dX5_readCommand_34 hd.1 rfl rfl (by decide) (Nat.le_of_ble_eq_true rfl) (Nat.le_of_ble_eq_true rfl) (by decide) ?_
      first
      | (refine sp_X5_must0 hd hb0 hV (by omega) (fun M2 hF2 hB2 => ?_)
         have hB3 := hB2.2.1.2.2.1)
      | (refine sp_X5_mustB hd hb0 hB2 (by omega) ?_)
      refine ⟨_, rfl, ?_⟩
      refine x_aload_n (pc := 37) dX5_readCommand_37 rfl rfl ?_
      refine x_geti (pc := 38) fX5_296 dX5_readCommand_38 hd.1 rfl (fun r38a r38b => ?_)
      rw [hB2.2.1.1] at r38a r38b ⊢
      refine x_if_le (pc := 41) (t := 45) dX5_readCommand_41 (by decide) ⟨by omega, by omega⟩ (fun c41 => ?_) (fun c41 => ?_)
      · exfalso; omega
      · refine x_vret (pc := 44) dX5_readCommand_44 rfl (by decide) (by decide) ?_
        have h9 := hbad (by rw [hC0]; exact ne1)
        rw [hC0] at h9
        exact k M2 ⟨FrC.rf.p hF2, fun i hi => hF2 _ _ (by omega), Or.inr ⟨h9.1, by rw [h9.2]; exact hB2⟩⟩
    · refine x_iconst (pc := 28) dX5_readCommand_28 ?_
      refine x_goto (pc := 29) (t := 33) dX5_readCommand_29 (by decide) ?_
      refine x_iconst (pc := 33) dX5_readCommand_33 ?_
      refine x_callV (pc := 34) [_, _] rfl kX5_311 dX5_readCommand_34 hd.1 rfl rfl (by decide) (Nat.le_of_ble_eq_true rfl) (Nat.le_of_ble_eq_true rfl) (by decide) ?_
      first
      | (refine sp_X5_must0 hd hb0 hV (by omega) (fun M2 hF2 hB2 => ?_)
         have hB3 := hB2.2.1.2.2.1)
      | (refine sp_X5_mustB hd hb0 hB2 (by omega) ?_)
      refine ⟨_, rfl, ?_⟩
      refine x_aload_n (pc := 37) dX5_readCommand_37 rfl rfl ?_
      refine x_geti (pc := 38) fX5_296 dX5_readCommand_38 hd.1 rfl (fun r38a r38b => ?_)
      rw [hB2.2.1.1] at r38a r38b ⊢
      refine x_if_le (pc := 41) (t := 45) dX5_readCommand_41 (by decide) ⟨by omega, by omega⟩ (fun c41 => ?_) (fun c41 => ?_)
      · exfalso; omega
      · refine x_vret (pc := 44) dX5_readCommand_44 rfl (by decide) (by decide) ?_
        have h9 := hbad (by rw [hC0]; exact ne1)
        rw [hC0] at h9
        exact k M2 ⟨FrC.rf.p hF2, fun i hi => hF2 _ _ (by omega), Or.inr ⟨h9.1, by rw [h9.2]; exact hB2⟩⟩
