/-! The reference: terms laid, passes. -/
def FrT (d : Nat) (M M' : Mem) : Prop := ∀ a j, ¬ (a = d ∧ j = 9) → ¬ a = d + 1 → ¬ a = d + 7 → ¬ a = d + 8 → M' a j = M a j
theorem Acm.fr {A : Nat → Int} {M M' : Mem} {d : Nat} (h : Acm A M d) (e : ∀ j, M' (d + 6) j = M (d + 6) j) : Acm A M' d := fun i hi => by rw [e]; exact h i hi
theorem Us.fr {H : Nat → CT} {u : Nat} {M M' : Mem} {d : Nat} (h : Us H u M d) (e : ∀ j, M' (d + 3) j = M (d + 3) j) (e4 : M' d 4 = M d 4) : Us H u M' d :=
  ⟨⟨by rw [e4]; exact h.1.1, h.1.2⟩, fun i hi => ⟨(h.2 i hi).1, (h.2 i hi).2.cong (h.2 i hi).1 (fun j hj => e _)⟩⟩
theorem why00 {T : CT} {x : Int} {p : Nat} (hW : WfT T) (z : whyLayF T x p = 0) : tO T = 0 ∧ -30 ≤ tP T p + x ∧ tP T p + x ≤ 30 := why0 hW z

set_option maxRecDepth 100000 in
theorem sp_X5_laysTerm {g : GG} {lay : Lay} {M : Mem} {K : KK} {d : Nat} {T : CT} {x : Int} {p : Nat} (hd : MoL lay d) (hb0 : g.2.1 ≤ d) (hT : RowT T (M (d + 1))) (hW : WfT T) (hB : ∃ N, Bg N M d) (gM : GoodM) (gE : GoodE) (hn6 : tN T < 60) (hO2 : (tN T : Int) < tS T 2) (hp : (p : Int) < tS T 0) (hx : -9 ≤ x ∧ x ≤ 9) (hx0 : x ≠ 0) (hs : -30 ≤ tP T p + x ∧ tP T p + x ≤ 30) (k : ∀ M2, FrT d M M2 → RowT (tTerm T x p) (M2 (d + 1)) → (∃ N, Bg N M2 d) → K (.inl none) lay M2) : X g m_X5_laysTerm 0 0 lay M 0 [(0, vR d), (1, vI x), (2, vI p)] [] K := by
  have hn := hW.n60
  obtain ⟨wS, wP, wN, wm, wK, wL, wO, wB⟩ := id hW
  obtain ⟨⟨hS, hN, h10, hP, hp3, hL, hK, h99, hm⟩, hO, hBo⟩ := id hT
  have w0 := wS.1
  have hp5 : p < 5 := by omega
  have h2 : tN T % 2 < 2 := Nat.mod_lt _ (by decide)
  have e11 := hP p (by omega)
  have e20 := (hp3 p hp5).1
  have e97 := (hK (tN T % 2) h2).2
  have t1 := termsOnF_rng (tC T) (tQ T) p (tN T)
  have t2 := termsOfF_rng (tC T) ((tN T % 2 : Nat) : Int) (tN T)
  have w4 := wS.2.2.2.2.1
  have wP2 : WfP (tP (tLay T x p)) := wP.up hp5 hs
  obtain ⟨-, -, E3⟩ := gE _ wP2
  have had := allD_rng (s := buildF (tP (tLay T x p))) (by have := (gE _ wP2).1; have := (gM _ wP2).2.1; omega)
  have hEP : (endP (tLay T x p) x) ↔ (reachP (tLay T x p) x ∨ ovE (tLay T x p)) := by
    unfold endP ovE
    have e1 : (tN (tLay T x p) : Int) ≤ tS (tLay T x p) 2 ∨ tS (tLay T x p) 2 < (tN (tLay T x p) : Int) := by omega
    show _ ∨ tS T 2 ≤ ((tN T + 1 : Nat) : Int) ∨ _ ↔ _ ∨ ((tN T + 1 : Nat) : Int) = tS T 2 ∨ _
    have e2 : tS T 2 ≤ ((tN T + 1 : Nat) : Int) ↔ ((tN T + 1 : Nat) : Int) = tS T 2 := by omega
    rw [e2]
  have fin : ∀ (M4 : Mem), FrT d M M4 → RowC (tLay T x p) (M4 (d + 1)) → (∃ N, Bg N M4 d) → M4 (d + 1) 8 = (if endP (tLay T x p) x then 1 else 0) → M4 (d + 1) 9 = (if reachP (tLay T x p) x then ((tN T % 2 : Nat) : Int) else tB T) → K (.inl none) lay M4 :=
    fun M4 hF4 hC4 hB4 h8 h9 => k M4 hF4 ⟨hC4, h8, h9⟩ hB4
  clear k
  refine x_aload_n (pc := 0) dX5_laysTerm_0 rfl rfl ?_
  refine x_callV (pc := 1) [] rfl kX5_152 dX5_laysTerm_1 hd.1 rfl rfl (by decide) (Nat.le_of_ble_eq_true rfl) (Nat.le_of_ble_eq_true rfl) (by decide) ?_
  refine sp_X5_whose hd hb0 hT hW ?_
  refine ⟨_, rfl, ?_⟩
  refine x_istore_n (pc := 4) dX5_laysTerm_4 rfl (by decide) (L' := [(3, _), (0, _), (1, _), (2, _)]) rfl ?_
  refine x_aload_n (pc := 5) dX5_laysTerm_5 rfl rfl ?_
  refine x_getr (pc := 6) (b := d + 1) fX5_7 dX5_laysTerm_6 hd.1 rfl rfl ?_
  refine x_bipush (pc := 9) dX5_laysTerm_9 (by decide) ?_
  refine x_iload_n (pc := 11) dX5_laysTerm_11 rfl rfl ?_
  refine x_iadd (pc := 12) dX5_laysTerm_12 ?_
  refine x_dup2 (pc := 13) dX5_laysTerm_13 rfl rfl ?_
  refine x_iald (pc := 14) dX5_laysTerm_14 hd.2.1 (by omega) (by omega) (fun r14a r14b => ?_)
  rw [show (11 + (p : Int)).toNat = 11 + p by omega, e11] at r14a r14b ⊢
  refine x_iload_n (pc := 15) dX5_laysTerm_15 rfl rfl ?_
  refine x_iadd (pc := 16) dX5_laysTerm_16 ?_
  refine x_iast (pc := 17) dX5_laysTerm_17 hd.2.1 (by omega) (by omega) (by omega) ⟨by omega, by omega⟩ ?_
  rw [show (11 + (p : Int)).toNat = 11 + p by omega]
  refine x_aload_n (pc := 18) dX5_laysTerm_18 rfl rfl ?_
  refine x_getr (pc := 19) (b := d + 1) fX5_7 dX5_laysTerm_19 hd.1 rfl rfl ?_
  refine x_bipush (pc := 22) dX5_laysTerm_22 (by decide) ?_
  refine x_iload_n (pc := 24) dX5_laysTerm_24 rfl rfl ?_
  refine x_iadd (pc := 25) dX5_laysTerm_25 ?_
  refine x_dup2 (pc := 26) dX5_laysTerm_26 rfl rfl ?_
  refine x_iald (pc := 27) dX5_laysTerm_27 hd.2.1 (by omega) (by omega) (fun r27a r27b => ?_)
  try simp (disch := omega) only [mset_same, mset_nea, mset_nei, mcopy_nea, mcopy_in, mcopy_out, Int.reduceToNat, Int.toNat_natCast, Nat.zero_add, Nat.sub_zero] at r27a r27b ⊢
  rw [show (20 + (p : Int)).toNat = 20 + p by omega, e20] at r27a r27b ⊢
  refine x_iconst (pc := 28) dX5_laysTerm_28 ?_
  refine x_iadd (pc := 29) dX5_laysTerm_29 ?_
  refine x_iast (pc := 30) dX5_laysTerm_30 hd.2.1 (by omega) (by omega) (by omega) ⟨by omega, by omega⟩ ?_
  rw [show (20 + (p : Int)).toNat = 20 + p by omega]
  refine x_aload_n (pc := 31) dX5_laysTerm_31 rfl rfl ?_
  refine x_getr (pc := 32) (b := d + 1) fX5_7 dX5_laysTerm_32 hd.1 rfl rfl ?_
  refine x_bipush (pc := 35) dX5_laysTerm_35 (by decide) ?_
  refine x_iload_n (pc := 37) dX5_laysTerm_37 rfl rfl ?_
  refine x_iadd (pc := 38) dX5_laysTerm_38 ?_
  refine x_aload_n (pc := 39) dX5_laysTerm_39 rfl rfl ?_
  refine x_getr (pc := 40) (b := d + 1) fX5_7 dX5_laysTerm_40 hd.1 rfl rfl ?_
  refine x_bipush (pc := 43) dX5_laysTerm_43 (by decide) ?_
  refine x_iald (pc := 45) dX5_laysTerm_45 hd.2.1 (by omega) (by omega) (fun r45a r45b => ?_)
  try simp (disch := omega) only [mset_same, mset_nea, mset_nei, mcopy_nea, mcopy_in, mcopy_out, Int.reduceToNat, Int.toNat_natCast, Nat.zero_add, Nat.sub_zero] at r45a r45b ⊢
  rw [hN] at r45a r45b ⊢
  refine x_iast (pc := 46) dX5_laysTerm_46 hd.2.1 (by omega) (by omega) (by omega) ⟨by omega, by omega⟩ ?_
  rw [show (29 + (p : Int)).toNat = 29 + p by omega]
  refine x_aload_n (pc := 47) dX5_laysTerm_47 rfl rfl ?_
  refine x_getr (pc := 48) (b := d + 1) fX5_7 dX5_laysTerm_48 hd.1 rfl rfl ?_
  refine x_bipush (pc := 51) dX5_laysTerm_51 (by decide) ?_
  refine x_iload_n (pc := 53) dX5_laysTerm_53 rfl rfl ?_
  refine x_iadd (pc := 54) dX5_laysTerm_54 ?_
  refine x_iload_n (pc := 55) dX5_laysTerm_55 rfl rfl ?_
  refine x_iast (pc := 56) dX5_laysTerm_56 hd.2.1 (by omega) (by omega) (by omega) ⟨by omega, by omega⟩ ?_
  rw [show (38 + (p : Int)).toNat = 38 + p by omega]
  refine x_aload_n (pc := 57) dX5_laysTerm_57 rfl rfl ?_
  refine x_getr (pc := 58) (b := d + 1) fX5_7 dX5_laysTerm_58 hd.1 rfl rfl ?_
  refine x_bipush (pc := 61) dX5_laysTerm_61 (by decide) ?_
  refine x_iload_n (pc := 63) dX5_laysTerm_63 rfl rfl ?_
  refine x_iadd (pc := 64) dX5_laysTerm_64 ?_
  refine x_dup2 (pc := 65) dX5_laysTerm_65 rfl rfl ?_
  refine x_iald (pc := 66) dX5_laysTerm_66 hd.2.1 (by omega) (by omega) (fun r66a r66b => ?_)
  try simp (disch := omega) only [mset_same, mset_nea, mset_nei, mcopy_nea, mcopy_in, mcopy_out, Int.reduceToNat, Int.toNat_natCast, Nat.zero_add, Nat.sub_zero] at r66a r66b ⊢
  rw [show (97 + ((tN T % 2 : Nat) : Int)).toNat = 97 + tN T % 2 by omega, e97] at r66a r66b ⊢
  refine x_iconst (pc := 67) dX5_laysTerm_67 ?_
  refine x_iadd (pc := 68) dX5_laysTerm_68 ?_
  refine x_iast (pc := 69) dX5_laysTerm_69 hd.2.1 (by omega) (by omega) (by omega) ⟨by omega, by omega⟩ ?_
  rw [show (97 + ((tN T % 2 : Nat) : Int)).toNat = 97 + tN T % 2 by omega]
  refine x_aload_n (pc := 70) dX5_laysTerm_70 rfl rfl ?_
  refine x_iload_n (pc := 71) dX5_laysTerm_71 rfl rfl ?_
  refine x_iload_n (pc := 72) dX5_laysTerm_72 rfl rfl ?_
  refine x_iconst (pc := 73) dX5_laysTerm_73 ?_
  refine x_callV (pc := 74) [_, _, _] rfl kX5_218 dX5_laysTerm_74 hd.1 rfl rfl (by decide) (Nat.le_of_ble_eq_true rfl) (Nat.le_of_ble_eq_true rfl) (by decide) ?_
  have hpre := pre_term (x := x) hT hW hx0 hp5
  rw [← mset_row, ← mset_row, ← mset_row, ← mset_row, ← mset_row] at hpre
  obtain ⟨M1, hM1⟩ : ∃ M1, M1 = mset (mset (mset (mset (mset M (d + 1) (11 + p) (tP T p + x)) (d + 1) (20 + p) (termsOnF (tC T) (tQ T) p (tN T) + 1)) (d + 1) (29 + p) (tN T)) (d + 1) (38 + p) ((tN T % 2 : Nat) : Int)) (d + 1) (97 + tN T % 2) (termsOfF (tC T) ((tN T % 2 : Nat) : Int) (tN T) + 1) := ⟨_, rfl⟩
  rw [← hM1] at hpre ⊢
  have hF1 : ∀ a j, ¬ a = d + 1 → M1 a j = M a j := fun a j q => by rw [hM1, mset_nea q, mset_nea q, mset_nea q, mset_nea q, mset_nea q]
  refine sp_X5_ends (x := x) (p := p) hd hb0 hpre hW hn6 hp5 hx (by rw [if_neg hx0]) (fun M2 hF2 hC2 h28 h29 => ?_)
  have e24 : M2 (d + 1) 4 = tS T 4 := hC2.1 4 (by omega)
  have hB2 : ∃ N, Bg N M2 d := hB.elim (fun N hN => ⟨N, hN.fr (fun j => by rw [hF2 _ _ (by omega), hF1 _ _ (by omega)])⟩)
  refine ⟨_, rfl, ?_⟩
  refine x_aload_n (pc := 77) dX5_laysTerm_77 rfl rfl ?_
  refine x_getr (pc := 78) (b := d + 1) fX5_7 dX5_laysTerm_78 hd.1 rfl rfl ?_
  refine x_iconst (pc := 81) dX5_laysTerm_81 ?_
  refine x_iald (pc := 82) dX5_laysTerm_82 hd.2.1 (by omega) (by omega) (fun r82a r82b => ?_)
  try simp (disch := omega) only [mset_same, mset_nea, mset_nei, mcopy_nea, mcopy_in, mcopy_out, Int.reduceToNat, Int.toNat_natCast, Nat.zero_add, Nat.sub_zero] at r82a r82b ⊢
  rw [e24] at r82a r82b ⊢
  refine x_if_le (pc := 83) (t := 115) dX5_laysTerm_83 (by decide) ⟨by omega, by omega⟩ (fun c83 => ?_) (fun c83 => ?_)
  · refine x_vret (pc := 115) dX5_laysTerm_115 rfl (by decide) (by decide) ?_
    first
    | (have hnr : ¬ reachP (tLay T x p) x := fun z => by have z2 := z.2.1; have z3 : tS (tLay T x p) 4 = tS T 4 := rfl; omega
       refine fin M2 (fun a j q1 q2 q3 q4 => by rw [hF2 _ _ q2, hF1 _ _ q2]) hC2 hB2 ?_ (by rw [if_neg hnr]; exact h29)
       rw [h28]
       simp only [hEP, hnr, false_or]
       done)
    | (have hnr : ¬ reachP (tLay T x p) x := fun z => by have z2 := z.2.2; have z3 : tS (tLay T x p) 4 = tS T 4 := rfl; omega
       refine fin M3 (fun a j q1 q2 q3 q4 => by rw [hF3 _ _ q1 q3 q4, hF2 _ _ q2, hF1 _ _ q2]) ?_ hR3.bg ?_ (by rw [if_neg hnr, hF3.n]; exact h29)
       · rw [show M3 (d + 1) = M2 (d + 1) from funext hF3.n]
         exact hC2
       · rw [hF3.n, h28]
         simp only [hEP, hnr, false_or])
    | (simp only [Int.reduceToNat]
       have hnr : reachP (tLay T x p) x := ⟨hx0, by show 0 < tS T 4; omega, by show tS T 4 ≤ _; omega⟩
       refine fin _ (fun a j q1 q2 q3 q4 => by rw [mset_nea q2, mset_nea q2, hF3 _ _ q1 q3 q4, hF2 _ _ q2, hF1 _ _ q2]) ?_ ?_ ?_ ?_
       · rw [mset_row, mset_row, show M3 (d + 1) = M2 (d + 1) from funext hF3.n]
         exact hC2.cong (by show tN T + 1 ≤ 60; omega) wK (fun j g1 g2 g3 => by rw [fup_ne g3, fup_ne g2])
       · exact hR3.bg.elim (fun N hN => ⟨N, hN.fr (fun j => by rw [mset_nea (by omega), mset_nea (by omega)])⟩)
       · rw [mset_nei (by decide), mset_same, if_pos (hEP.mpr (Or.inl hnr))]
       · rw [mset_same, if_pos hnr])
  · refine x_aload_n (pc := 86) dX5_laysTerm_86 rfl rfl ?_
    refine x_callV (pc := 87) [] rfl kX5_222 dX5_laysTerm_87 hd.1 rfl rfl (by decide) (Nat.le_of_ble_eq_true rfl) (Nat.le_of_ble_eq_true rfl) (by decide) ?_
    refine sp_X5_rootsInAll hd hb0 hB2 (P := tP (tLay T x p)) (fun q hq => hC2.2.2.2.1 q hq) wP2 gM (fun M3 hF3 hR3 => ?_)
    rw [E3]
    refine ⟨_, rfl, ?_⟩
    refine x_aload_n (pc := 90) dX5_laysTerm_90 rfl rfl ?_
    refine x_getr (pc := 91) (b := d + 1) fX5_7 dX5_laysTerm_91 hd.1 rfl rfl ?_
    refine x_iconst (pc := 94) dX5_laysTerm_94 ?_
    refine x_iald (pc := 95) dX5_laysTerm_95 hd.2.1 (by omega) (by omega) (fun r95a r95b => ?_)
    try simp (disch := omega) only [mset_same, mset_nea, mset_nei, mcopy_nea, mcopy_in, mcopy_out, Int.reduceToNat, Int.toNat_natCast, Nat.zero_add, Nat.sub_zero] at r95a r95b ⊢
    rw [hF3.n, e24] at r95a r95b ⊢
    refine x_icmp_lt (pc := 96) (t := 115) dX5_laysTerm_96 (by decide) ⟨by omega, by omega⟩ ⟨by omega, by omega⟩ (fun c96 => ?_) (fun c96 => ?_)
    · refine x_vret (pc := 115) dX5_laysTerm_115 rfl (by decide) (by decide) ?_
      first
      | (have hnr : ¬ reachP (tLay T x p) x := fun z => by have z2 := z.2.1; have z3 : tS (tLay T x p) 4 = tS T 4 := rfl; omega
         refine fin M2 (fun a j q1 q2 q3 q4 => by rw [hF2 _ _ q2, hF1 _ _ q2]) hC2 hB2 ?_ (by rw [if_neg hnr]; exact h29)
         rw [h28]
         simp only [hEP, hnr, false_or]
         done)
      | (have hnr : ¬ reachP (tLay T x p) x := fun z => by have z2 := z.2.2; have z3 : tS (tLay T x p) 4 = tS T 4 := rfl; omega
         refine fin M3 (fun a j q1 q2 q3 q4 => by rw [hF3 _ _ q1 q3 q4, hF2 _ _ q2, hF1 _ _ q2]) ?_ hR3.bg ?_ (by rw [if_neg hnr, hF3.n]; exact h29)
         · rw [show M3 (d + 1) = M2 (d + 1) from funext hF3.n]
           exact hC2
         · rw [hF3.n, h28]
           simp only [hEP, hnr, false_or])
      | (simp only [Int.reduceToNat]
         have hnr : reachP (tLay T x p) x := ⟨hx0, by show 0 < tS T 4; omega, by show tS T 4 ≤ _; omega⟩
         refine fin _ (fun a j q1 q2 q3 q4 => by rw [mset_nea q2, mset_nea q2, hF3 _ _ q1 q3 q4, hF2 _ _ q2, hF1 _ _ q2]) ?_ ?_ ?_ ?_
         · rw [mset_row, mset_row, show M3 (d + 1) = M2 (d + 1) from funext hF3.n]
           exact hC2.cong (by show tN T + 1 ≤ 60; omega) wK (fun j g1 g2 g3 => by rw [fup_ne g3, fup_ne g2])
         · exact hR3.bg.elim (fun N hN => ⟨N, hN.fr (fun j => by rw [mset_nea (by omega), mset_nea (by omega)])⟩)
         · rw [mset_nei (by decide), mset_same, if_pos (hEP.mpr (Or.inl hnr))]
         · rw [mset_same, if_pos hnr])
    · refine x_aload_n (pc := 99) dX5_laysTerm_99 rfl rfl ?_
      refine x_getr (pc := 100) (b := d + 1) fX5_7 dX5_laysTerm_100 hd.1 rfl rfl ?_
      refine x_bipush (pc := 103) dX5_laysTerm_103 (by decide) ?_
      refine x_iconst (pc := 105) dX5_laysTerm_105 ?_
      refine x_iast (pc := 106) dX5_laysTerm_106 hd.2.1 (by omega) (by omega) (by omega) ⟨by omega, by omega⟩ ?_
      refine x_aload_n (pc := 107) dX5_laysTerm_107 rfl rfl ?_
      refine x_getr (pc := 108) (b := d + 1) fX5_7 dX5_laysTerm_108 hd.1 rfl rfl ?_
      refine x_bipush (pc := 111) dX5_laysTerm_111 (by decide) ?_
      refine x_iload_n (pc := 113) dX5_laysTerm_113 rfl rfl ?_
      refine x_iast (pc := 114) dX5_laysTerm_114 hd.2.1 (by omega) (by omega) (by omega) ⟨by omega, by omega⟩ ?_
      refine x_vret (pc := 115) dX5_laysTerm_115 rfl (by decide) (by decide) ?_
      first
      | (have hnr : ¬ reachP (tLay T x p) x := fun z => by have z2 := z.2.1; have z3 : tS (tLay T x p) 4 = tS T 4 := rfl; omega
         refine fin M2 (fun a j q1 q2 q3 q4 => by rw [hF2 _ _ q2, hF1 _ _ q2]) hC2 hB2 ?_ (by rw [if_neg hnr]; exact h29)
         rw [h28]
         simp only [hEP, hnr, false_or]
         done)
      | (have hnr : ¬ reachP (tLay T x p) x := fun z => by have z2 := z.2.2; have z3 : tS (tLay T x p) 4 = tS T 4 := rfl; omega
         refine fin M3 (fun a j q1 q2 q3 q4 => by rw [hF3 _ _ q1 q3 q4, hF2 _ _ q2, hF1 _ _ q2]) ?_ hR3.bg ?_ (by rw [if_neg hnr, hF3.n]; exact h29)
         · rw [show M3 (d + 1) = M2 (d + 1) from funext hF3.n]
           exact hC2
         · rw [hF3.n, h28]
           simp only [hEP, hnr, false_or])
      | (simp only [Int.reduceToNat]
         have hnr : reachP (tLay T x p) x := ⟨hx0, by show 0 < tS T 4; omega, by show tS T 4 ≤ _; omega⟩
         refine fin _ (fun a j q1 q2 q3 q4 => by rw [mset_nea q2, mset_nea q2, hF3 _ _ q1 q3 q4, hF2 _ _ q2, hF1 _ _ q2]) ?_ ?_ ?_ ?_
         · rw [mset_row, mset_row, show M3 (d + 1) = M2 (d + 1) from funext hF3.n]
           exact hC2.cong (by show tN T + 1 ≤ 60; omega) wK (fun j g1 g2 g3 => by rw [fup_ne g3, fup_ne g2])
         · exact hR3.bg.elim (fun N hN => ⟨N, hN.fr (fun j => by rw [mset_nea (by omega), mset_nea (by omega)])⟩)
         · rw [mset_nei (by decide), mset_same, if_pos (hEP.mpr (Or.inl hnr))]
         · rw [mset_same, if_pos hnr])
set_option maxRecDepth 100000 in
theorem sp_X5_lays {g : GG} {lay : Lay} {M : Mem} {K : KK} {d : Nat} {T : CT} {H : Nat → CT} {u : Nat} {A : Nat → Int} {x : Int} {p : Nat} (hd : MoL lay d) (hb0 : g.2.1 ≤ d) (hT : RowT T (M (d + 1))) (hW : WfT T) (hU : Us H u M d) (hA : Acm A M d) (hB : ∃ N, Bg N M d) (gM : GoodM) (gE : GoodE) (hO0 : WfO T) (hp : (p : Int) < tS T 0) (hx : -9 ≤ x ∧ x ≤ 9) (hx0 : x ≠ 0) (k : ∀ M2, FrA d M M2 → RowT (actLay T x p) (M2 (d + 1)) → Acm (accF A (whyLayF T x p)) M2 d → Us (if (whyLayF T x p) = 0 then pushH H u T else H) (if (whyLayF T x p) = 0 then pushU u else u) M2 d → (∃ N, Bg N M2 d) → K (.inl (some (vI (whyLayF T x p)))) lay M2) : X g m_X5_lays 0 0 lay M 0 [(0, vR d), (1, vI x), (2, vI p)] [] K := by
  have w0 := hW.1.1
  have hr := whyLay_rng T x p
  have w2 := hW.1.2.2.1
  have hwz := @why0 T x p hW
  unfold actLay at k
  obtain ⟨wy, hwy⟩ : ∃ wy, wy = whyLayF T x p := ⟨_, rfl⟩
  rw [← hwy] at hr k hwz
  refine x_aload_n (pc := 0) dX5_lays_0 rfl rfl ?_
  refine x_iload_n (pc := 1) dX5_lays_1 rfl rfl ?_
  refine x_iload_n (pc := 2) dX5_lays_2 rfl rfl ?_
  refine x_callV (pc := 3) [_, _] rfl kX5_225 dX5_lays_3 hd.1 rfl rfl (by decide) (Nat.le_of_ble_eq_true rfl) (Nat.le_of_ble_eq_true rfl) (by decide) ?_
  refine sp_X5_whyLay hd hb0 hT hW (by omega) hx hx0 ?_
  rw [← hwy]
  refine ⟨_, rfl, ?_⟩
  refine x_istore_n (pc := 6) dX5_lays_6 rfl (by decide) (L' := [(3, _), (0, _), (1, _), (2, _)]) rfl ?_
  refine x_iload_n (pc := 7) dX5_lays_7 rfl rfl ?_
  refine x_if_le (pc := 8) (t := 17) dX5_lays_8 (by decide) ⟨by omega, by omega⟩ (fun c8 => ?_) (fun c8 => ?_)
  · refine x_aload_n (pc := 17) dX5_lays_17 rfl rfl ?_
    refine x_callV (pc := 18) [] rfl kX5_201 dX5_lays_18 hd.1 rfl rfl (by decide) (Nat.le_of_ble_eq_true rfl) (Nat.le_of_ble_eq_true rfl) (by decide) ?_
    refine sp_X5_does hd hb0 hT hW hU hA (fun M2 hF2 hU2 hA2 => ?_)
    have hw0 : wy = 0 := by omega
    have eN : M2 (d + 1) = M (d + 1) := funext fun j => hF2 _ _ (by omega) (by omega) (by omega)
    have hT2 : RowT T (M2 (d + 1)) := by rw [eN]; exact hT
    have hB2 : ∃ N, Bg N M2 d := hB.elim (fun N hN => ⟨N, hN.fr (fun j => hF2 _ _ (by omega) (by omega) (by omega))⟩)
    refine ⟨_, rfl, ?_⟩
    refine x_istore (pc := 21) dX5_lays_21 trivial (by decide) (L' := [(4, _), (3, _), (0, _), (1, _), (2, _)]) rfl ?_
    refine x_aload_n (pc := 23) dX5_lays_23 rfl rfl ?_
    refine x_iload_n (pc := 24) dX5_lays_24 rfl rfl ?_
    refine x_iload_n (pc := 25) dX5_lays_25 rfl rfl ?_
    refine x_callV (pc := 26) [_, _] rfl kX5_228 dX5_lays_26 hd.1 rfl rfl (by decide) (Nat.le_of_ble_eq_true rfl) (Nat.le_of_ble_eq_true rfl) (by decide) ?_
    obtain ⟨z1, z2⟩ := hwz hw0
    have z3 := hO0 z1
    refine sp_X5_laysTerm hd hb0 hT2 hW hB2 gM gE (by omega) z3 hp hx hx0 z2 (fun M3 hF3 hT3 hB3 => ?_)
    refine ⟨_, rfl, ?_⟩
    refine x_iload (pc := 29) dX5_lays_29 rfl ?_
    refine x_iret (pc := 31) dX5_lays_31 rfl (by decide) (by decide) ?_
    have k9 := k M3 (fun a j q1 q2 q3 q4 q5 q6 => by rw [hF3 _ _ (fun z => q1 ⟨z.1, Or.inr z.2⟩) q2 q5 q6]; exact hF2 a j (fun z => q1 ⟨z.1, Or.inl z.2⟩) q3 q4)
    rw [if_pos hw0, if_pos hw0, if_pos hw0] at k9
    rw [hw0] at k9
    exact k9 hT3 (hA2.fr (fun j => hF3 _ _ (by omega) (by omega) (by omega) (by omega))) (hU2.fr (fun j => hF3 _ _ (by omega) (by omega) (by omega) (by omega)) (hF3 _ _ (by omega) (by omega) (by omega) (by omega))) hB3
  · refine x_aload_n (pc := 11) dX5_lays_11 rfl rfl ?_
    refine x_iload_n (pc := 12) dX5_lays_12 rfl rfl ?_
    refine x_callV (pc := 13) [_] rfl kX5_198 dX5_lays_13 hd.1 rfl rfl (by decide) (Nat.le_of_ble_eq_true rfl) (Nat.le_of_ble_eq_true rfl) (by decide) ?_
    refine sp_X5_refuses hd hb0 hA (by omega) (fun M2 hF2 hA2 => ?_)
    refine ⟨_, rfl, ?_⟩
    refine x_iret (pc := 16) dX5_lays_16 rfl (by decide) (by decide) ?_
    have k9 := k M2 (fun b j q1 q2 q3 q4 q5 q6 => hF2 b j q4)
    rw [if_neg (by omega), if_neg (by omega), if_neg (by omega)] at k9
    refine k9 ?_ hA2 (hU.fr (fun j => hF2 _ _ (by omega)) (hF2 _ _ (by omega))) (hB.elim (fun N hN => ⟨N, hN.fr (fun j => hF2 _ _ (by omega))⟩))
    rw [show M2 (d + 1) = M (d + 1) from funext fun j => hF2 _ _ (by omega)]
    exact hT
set_option maxRecDepth 100000 in
theorem sp_X5_passes {g : GG} {lay : Lay} {M : Mem} {K : KK} {d : Nat} {T : CT} {H : Nat → CT} {u : Nat} {A : Nat → Int} (hd : MoL lay d) (hb0 : g.2.1 ≤ d) (hT : RowT T (M (d + 1))) (hW : WfT T) (hU : Us H u M d) (hA : Acm A M d) (hB : ∃ N, Bg N M d) (gM : GoodM) (gE : GoodE) (hO0 : WfO T) (k : ∀ M2, FrA d M M2 → RowT (actPass T) (M2 (d + 1)) → Acm (accF A (if tO T = 1 then 1 else 0 : Int)) M2 d → Us (if (if tO T = 1 then 1 else 0 : Int) = 0 then pushH H u T else H) (if (if tO T = 1 then 1 else 0 : Int) = 0 then pushU u else u) M2 d → (∃ N, Bg N M2 d) → K (.inl (some (vI (if tO T = 1 then 1 else 0 : Int)))) lay M2) : X g m_X5_passes 0 0 lay M 0 [(0, vR d)] [] K := by
  have w2 := hW.1.2.2.1
  have hwO := hW.2.2.2.2.2.2.1
  unfold actPass at k
  obtain ⟨wy, hwy⟩ : ∃ wy, wy = (if tO T = 1 then (1 : Int) else 0) := ⟨_, rfl⟩
  rw [← hwy] at k
  have hw1 : (wy = 0 ↔ tO T = 0) ∧ (wy = 1 ↔ tO T = 1) := by rw [hwy]; split <;> omega
  have h8 : M (d + 1) 8 = tO T := hT.2.1
  refine x_aload_n (pc := 0) dX5_passes_0 rfl rfl ?_
  refine x_getr (pc := 1) (b := d + 1) fX5_7 dX5_passes_1 hd.1 rfl rfl ?_
  refine x_bipush (pc := 4) dX5_passes_4 (by decide) ?_
  refine x_iald (pc := 6) dX5_passes_6 hd.2.1 (by omega) (by omega) (fun r6a r6b => ?_)
  rw [show (8 : Int).toNat = 8 from rfl, h8] at r6a r6b ⊢
  refine x_iconst (pc := 7) dX5_passes_7 ?_
  refine x_icmp_ne (pc := 8) (t := 17) dX5_passes_8 (by decide) ⟨by omega, by omega⟩ ⟨by omega, by omega⟩ (fun c8 => ?_) (fun c8 => ?_)
  · refine x_aload_n (pc := 17) dX5_passes_17 rfl rfl ?_
    refine x_callV (pc := 18) [] rfl kX5_201 dX5_passes_18 hd.1 rfl rfl (by decide) (Nat.le_of_ble_eq_true rfl) (Nat.le_of_ble_eq_true rfl) (by decide) ?_
    refine sp_X5_does hd hb0 hT hW hU hA (fun M2 hF2 hU2 hA2 => ?_)
    have hw0 : wy = 0 := by omega
    have eN : M2 (d + 1) = M (d + 1) := funext fun j => hF2 _ _ (by omega) (by omega) (by omega)
    have hT2 : RowT T (M2 (d + 1)) := by rw [eN]; exact hT
    have hB2 : ∃ N, Bg N M2 d := hB.elim (fun N hN => ⟨N, hN.fr (fun j => hF2 _ _ (by omega) (by omega) (by omega))⟩)
    refine ⟨_, rfl, ?_⟩
    refine x_istore_n (pc := 21) dX5_passes_21 rfl (by decide) (L' := [(1, _), (0, _)]) rfl ?_
    refine x_aload_n (pc := 22) dX5_passes_22 rfl rfl ?_
    refine x_iconst (pc := 23) dX5_passes_23 ?_
    refine x_iconst (pc := 24) dX5_passes_24 ?_
    refine x_iconst (pc := 25) dX5_passes_25 ?_
    refine x_callV (pc := 26) [_, _, _] rfl kX5_218 dX5_passes_26 hd.1 rfl rfl (by decide) (Nat.le_of_ble_eq_true rfl) (Nat.le_of_ble_eq_true rfl) (by decide) ?_
    have z3 := hO0 (by omega)
    refine sp_X5_ends (x := 0) (p := 0) (T := T) hd hb0 (pre_pass hT2) hW (by omega) (by omega) (by omega) rfl (fun M3 hF3 hC3 h38 h39 => ?_)
    refine ⟨_, rfl, ?_⟩
    refine x_iload_n (pc := 29) dX5_passes_29 rfl rfl ?_
    refine x_iret (pc := 30) dX5_passes_30 rfl (by decide) (by decide) ?_
    have k9 := k M3 (fun a j q1 q2 q3 q4 q5 q6 => by rw [hF3 _ _ q2]; exact hF2 a j (fun z => q1 ⟨z.1, Or.inl z.2⟩) q3 q4)
    rw [if_neg (by omega), if_pos hw0, if_pos hw0] at k9
    rw [hw0] at k9
    refine k9 ⟨hC3, ?_, ?_⟩ (hA2.fr (fun j => hF3 _ _ (by omega))) (hU2.fr (fun j => hF3 _ _ (by omega)) (hF3 _ _ (by omega))) (hB2.elim (fun N hN => ⟨N, hN.fr (fun j => hF3 _ _ (by omega))⟩))
    · rw [h38]
      have hEP : (endP (tLay T 0 0) 0) ↔ ovE (tLay T 0 0) := by
        unfold endP ovE
        have e0 : ¬ reachP (tLay T 0 0) 0 := fun z => z.1 rfl
        show _ ∨ tS T 2 ≤ ((tN T + 1 : Nat) : Int) ∨ _ ↔ ((tN T + 1 : Nat) : Int) = tS T 2 ∨ _
        have e2 : tS T 2 ≤ ((tN T + 1 : Nat) : Int) ↔ ((tN T + 1 : Nat) : Int) = tS T 2 := by omega
        rw [e2]
        simp only [e0, false_or]
      show _ = if endP (tLay T 0 0) 0 then (1 : Int) else 0
      simp only [hEP]
    · rw [h39]
      show _ = if reachP (tLay T 0 0) 0 then ((tN T % 2 : Nat) : Int) else tB T
      rw [if_neg (fun z => z.1 rfl)]
  · refine x_aload_n (pc := 11) dX5_passes_11 rfl rfl ?_
    refine x_iconst (pc := 12) dX5_passes_12 ?_
    refine x_callV (pc := 13) [_] rfl kX5_198 dX5_passes_13 hd.1 rfl rfl (by decide) (Nat.le_of_ble_eq_true rfl) (Nat.le_of_ble_eq_true rfl) (by decide) ?_
    refine sp_X5_refuses (q := 1) hd hb0 hA (by omega) (fun M2 hF2 hA2 => ?_)
    refine ⟨_, rfl, ?_⟩
    refine x_iret (pc := 16) dX5_passes_16 rfl (by decide) (by decide) ?_
    have hwy1 : wy = 1 := by omega
    rw [hwy1] at k
    have k9 := k M2 (fun b j q1 q2 q3 q4 q5 q6 => hF2 b j q4)
    rw [if_pos (show tO T = 1 by omega), if_neg (by omega), if_neg (by omega)] at k9
    refine k9 ?_ hA2 (hU.fr (fun j => hF2 _ _ (by omega)) (hF2 _ _ (by omega))) (hB.elim (fun N hN => ⟨N, hN.fr (fun j => hF2 _ _ (by omega))⟩))
    rw [show M2 (d + 1) = M (d + 1) from funext fun j => hF2 _ _ (by omega)]
    exact hT
