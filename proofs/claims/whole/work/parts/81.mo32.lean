/-! The reference's reader: a claim of a script. -/
/-- the reader's fields, the commands -/
def FrC (d : Nat) (M M' : Mem) : Prop := ∀ a j, ¬ (a = d ∧ ((13 ≤ j ∧ j ≤ 18) ∨ j = 20)) → ¬ a = d + 11 → M' a j = M a j
theorem FrC.rf {d : Nat} {M : Mem} : FrC d M M := fun _ _ _ _ => rfl
theorem FrC.tr {d : Nat} {M M' M'' : Mem} (h : FrC d M M') (h2 : FrC d M' M'') : FrC d M M'' := fun a j q q2 => (h2 a j q q2).trans (h a j q q2)
theorem FrC.p {d : Nat} {M M' M'' : Mem} (h : FrC d M M') (h2 : FrP d M' M'') : FrC d M M'' := fun a j q q2 => (h2 a j (fun z => q ⟨z.1, Or.inl z.2⟩)).trans (h a j q q2)
theorem FrC.m {d i : Nat} {v : Int} {M M' : Mem} (h : FrC d M M') : FrC d M (mset M' (d + 11) i v) := fun a j q q2 => (mset_nea q2).trans (h a j q q2)
theorem RelT.m11 {tx v : Nat → Int} {n : Nat} {M : Mem} {d i : Nat} {x : Int} (h : RelT tx n v M d) : RelT tx n v (mset M (d + 11) i x) d := by
  obtain ⟨⟨hT, hR, hK⟩, ⟨a1, a2, a3, a4⟩, a5, a6, a7, a8⟩ := h
  refine ⟨⟨hT.z (mset_nea (by omega)) (fun j => mset_nea (by omega)), hR, hK⟩, ⟨?_, ?_, a3, a4⟩, ?_, ?_, ?_, ?_⟩ <;> rw [mset_nea (by omega)] <;> assumption
theorem BadT.m11 {tx v : Nat → Int} {n : Nat} {M : Mem} {d i : Nat} {x : Int} (h : BadT tx n v M d) : BadT tx n v (mset M (d + 11) i x) d := by
  obtain ⟨⟨hT, hR⟩, ⟨a1, a2, a3⟩, a4⟩ := h
  refine ⟨⟨hT.z (mset_nea (by omega)) (fun j => mset_nea (by omega)), hR⟩, ⟨?_, ?_, a3⟩, ?_⟩ <;> rw [mset_nea (by omega)] <;> assumption
/-- what a read command leaves -/
def CRel (tx : Nat → Int) (n : Nat) (R : SC3) (j : Nat) (M0 M : Mem) (d : Nat) : Prop := FrC d M0 M ∧ M d 20 = M0 d 20 ∧ (∀ i, ¬ (6 * j + 1 ≤ i ∧ i ≤ 6 * j + 5) → M (d + 11) i = M0 (d + 11) i) ∧ ((R.1 = 1 ∧ RelT tx n R.2.1 M d ∧ ∀ f, 1 ≤ f → f ≤ 5 → M (d + 11) (6 * j + f) = R.2.2 (6 * j + f)) ∨ (R.1 ≠ 1 ∧ BadT tx n R.2.1 M d))
theorem int5 {tx : Nat → Int} {n : Nat} {v : Nat → Int} {lo hi : Int} : (intRF tx n v lo hi).2 5 = v 5 := int_ne (by omega)

set_option maxRecDepth 100000 in
theorem sp_X5_readClaim {g : GG} {lay : Lay} {M : Mem} {K : KK} {d : Nat} {tx v : Nat → Int} {n : Nat} {j : Nat} {cm : Nat → Int} (hd : MoL lay d) (hb0 : g.2.1 ≤ d) (hV : RelT tx n v M d) (hD : Wd M d) (hj : j < 40) (h5 : v 5 = j) (k : ∀ M2, CRel tx n (rClaimF tx n v cm) j M M2 d → K (.inl none) lay M2) : X g m_X5_readClaim 0 0 lay M 0 [(0, vR d), (1, vI (6 * j : Nat))] [] K := by
  obtain ⟨⟨hT, hR, hK⟩, ⟨h17, h18, v3, v4⟩, h13, h14, h15, h16⟩ := id hV
  obtain ⟨⟨k61, k62⟩, ⟨k71, k72⟩, ⟨k81, k82⟩, k91, k92⟩ := id hK
  have hnr := h16.rng
  have hmk := @mk_iff (v 6)
  have h600 := hT.1.1
  have ne1 : ¬ (0 : Int) = 1 := by decide
  have hv5 : (v 5).toNat = j := by omega
  obtain ⟨RC, hRC⟩ : ∃ RC, RC = rClaimF tx n v cm := ⟨_, rfl⟩
  rw [← hRC] at k
  have wr := wordF_rng tx v
  have lE := @wordF_iff tx v 10 (by omega)
  have lL := @wordF_iff tx v 11 (by omega)
  have hL10 : isWordP tx v 10 ↔ wordF tx v = 11 := lL.symm
  have hL11 : isWordP tx v 11 ↔ wordF tx v = 10 := lE.symm
  have b84 : ∀ (M1 : Mem) (w2 so a y r s : Int) (u : Nat → Int), -200000 ≤ so ∧ so ≤ 200000 → -200000 ≤ a ∧ a ≤ 200000 → -200000 ≤ y ∧ y ≤ 200000 → -200000 ≤ r ∧ r ≤ 200000 → -200000 ≤ s ∧ s ≤ 200000 → FrP d M M1 → BadT tx n u M1 d → RC.1 ≠ 1 → RC.2.1 = u → X g m_X5_readClaim 0 0 lay M1 84 [(7, vI s), (6, vI r), (5, vI y), (4, vI a), (3, vI so), (2, vI w2), (0, vR d), (1, vI (6 * j : Nat))] [] K := by
    intro M1 w2 so a y r s u hso ha hy hr hs hF hB hn1 hn2
    refine x_aload_n (pc := 84) dX5_readClaim_84 rfl rfl ?_
    refine x_getr (pc := 85) (b := d + 11) fX5_46 dX5_readClaim_85 hd.1 rfl rfl ?_
    refine x_iload_n (pc := 88) dX5_readClaim_88 rfl rfl ?_
    refine x_iconst (pc := 89) dX5_readClaim_89 ?_
    refine x_iadd (pc := 90) dX5_readClaim_90 ?_
    refine x_iload (pc := 91) dX5_readClaim_91 rfl ?_
    refine x_iast (pc := 93) dX5_readClaim_93 hd.2.2.2.2.2.2.2.2.2.2.2.1 (by omega) (by omega) (by omega) ⟨by omega, by omega⟩ ?_
    refine x_aload_n (pc := 94) dX5_readClaim_94 rfl rfl ?_
    refine x_getr (pc := 95) (b := d + 11) fX5_46 dX5_readClaim_95 hd.1 rfl rfl ?_
    refine x_iload_n (pc := 98) dX5_readClaim_98 rfl rfl ?_
    refine x_iconst (pc := 99) dX5_readClaim_99 ?_
    refine x_iadd (pc := 100) dX5_readClaim_100 ?_
    refine x_iload (pc := 101) dX5_readClaim_101 rfl ?_
    refine x_iast (pc := 103) dX5_readClaim_103 hd.2.2.2.2.2.2.2.2.2.2.2.1 (by omega) (by omega) (by omega) ⟨by omega, by omega⟩ ?_
    refine x_aload_n (pc := 104) dX5_readClaim_104 rfl rfl ?_
    refine x_getr (pc := 105) (b := d + 11) fX5_46 dX5_readClaim_105 hd.1 rfl rfl ?_
    refine x_iload_n (pc := 108) dX5_readClaim_108 rfl rfl ?_
    refine x_iconst (pc := 109) dX5_readClaim_109 ?_
    refine x_iadd (pc := 110) dX5_readClaim_110 ?_
    refine x_iload (pc := 111) dX5_readClaim_111 rfl ?_
    refine x_iast (pc := 113) dX5_readClaim_113 hd.2.2.2.2.2.2.2.2.2.2.2.1 (by omega) (by omega) (by omega) ⟨by omega, by omega⟩ ?_
    refine x_aload_n (pc := 114) dX5_readClaim_114 rfl rfl ?_
    refine x_getr (pc := 115) (b := d + 11) fX5_46 dX5_readClaim_115 hd.1 rfl rfl ?_
    refine x_iload_n (pc := 118) dX5_readClaim_118 rfl rfl ?_
    refine x_iconst (pc := 119) dX5_readClaim_119 ?_
    refine x_iadd (pc := 120) dX5_readClaim_120 ?_
    refine x_iload_n (pc := 121) dX5_readClaim_121 rfl rfl ?_
    refine x_iast (pc := 122) dX5_readClaim_122 hd.2.2.2.2.2.2.2.2.2.2.2.1 (by omega) (by omega) (by omega) ⟨by omega, by omega⟩ ?_
    refine x_aload_n (pc := 123) dX5_readClaim_123 rfl rfl ?_
    refine x_getr (pc := 124) (b := d + 11) fX5_46 dX5_readClaim_124 hd.1 rfl rfl ?_
    refine x_iload_n (pc := 127) dX5_readClaim_127 rfl rfl ?_
    refine x_iconst (pc := 128) dX5_readClaim_128 ?_
    refine x_iadd (pc := 129) dX5_readClaim_129 ?_
    refine x_iload (pc := 130) dX5_readClaim_130 rfl ?_
    refine x_iast (pc := 132) dX5_readClaim_132 hd.2.2.2.2.2.2.2.2.2.2.2.1 (by omega) (by omega) (by omega) ⟨by omega, by omega⟩ ?_
    refine x_vret (pc := 133) dX5_readClaim_133 rfl (by decide) (by decide) ?_
    refine k _ ⟨((((FrC.rf.p hF).m).m.m).m).m, by rw [mset_nea (by omega), mset_nea (by omega), mset_nea (by omega), mset_nea (by omega), mset_nea (by omega)]; exact hF _ _ (by omega), fun i hi => ?_, Or.inr ⟨hn1, ?_⟩⟩
    · rw [mset_nei (by omega), mset_nei (by omega), mset_nei (by omega), mset_nei (by omega), mset_nei (by omega)]
      exact hF _ _ (by omega)
    · rw [hn2]
      exact ((((hB.m11).m11).m11).m11).m11
  have b75 : ∀ (M1 : Mem) (w2 so a y r : Int) (u : Nat → Int), -200000 ≤ so ∧ so ≤ 200000 → -200000 ≤ a ∧ a ≤ 200000 → -200000 ≤ y ∧ y ≤ 200000 → -200000 ≤ r ∧ r ≤ 200000 → FrP d M M1 → BadT tx n u M1 d → RC.1 ≠ 1 → RC.2.1 = u → X g m_X5_readClaim 0 0 lay M1 75 [(6, vI r), (5, vI y), (4, vI a), (3, vI so), (2, vI w2), (0, vR d), (1, vI (6 * j : Nat))] [] K := by
    intro M1 w2 so a y r u hso ha hy hr hF hB hn1 hn2
    refine x_aload_n (pc := 75) dX5_readClaim_75 rfl rfl ?_
    refine x_iconst (pc := 76) dX5_readClaim_76 ?_
    refine x_bipush (pc := 77) dX5_readClaim_77 (by decide) ?_
    refine x_callV (pc := 79) [_, _] rfl kX5_327 dX5_readClaim_79 hd.1 rfl rfl (by decide) (Nat.le_of_ble_eq_true rfl) (Nat.le_of_ble_eq_true rfl) (by decide) ?_
    refine sp_X5_readsB hd hb0 hB ⟨by omega, by omega⟩ ⟨by omega, by omega⟩ (fun s hs => ?_)
    refine ⟨_, rfl, ?_⟩
    refine x_istore (pc := 82) dX5_readClaim_82 trivial (by decide) (L' := [(7, _), (6, _), (5, _), (4, _), (3, _), (2, _), (0, _), (1, _)]) rfl ?_
    refine X.loc [0, 1, 2, 3, 4, 5, 6, 7] (L' := [(7, _), (6, _), (5, _), (4, _), (3, _), (2, _), (0, _), (1, _)]) rfl ?_
    exact b84 M1 _ so a y r s u hso ha hy hr (by omega) hF hB hn1 hn2
  have b67 : ∀ (M1 : Mem) (w2 so a y : Int) (u : Nat → Int), -200000 ≤ so ∧ so ≤ 200000 → -200000 ≤ a ∧ a ≤ 200000 → -200000 ≤ y ∧ y ≤ 200000 → FrP d M M1 → BadT tx n u M1 d → RC.1 ≠ 1 → RC.2.1 = u → X g m_X5_readClaim 0 0 lay M1 67 [(5, vI y), (4, vI a), (3, vI so), (2, vI w2), (0, vR d), (1, vI (6 * j : Nat))] [] K := by
    intro M1 w2 so a y u hso ha hy hF hB hn1 hn2
    refine x_aload_n (pc := 67) dX5_readClaim_67 rfl rfl ?_
    refine x_iconst (pc := 68) dX5_readClaim_68 ?_
    refine x_iconst (pc := 69) dX5_readClaim_69 ?_
    refine x_callV (pc := 70) [_, _] rfl kX5_327 dX5_readClaim_70 hd.1 rfl rfl (by decide) (Nat.le_of_ble_eq_true rfl) (Nat.le_of_ble_eq_true rfl) (by decide) ?_
    refine sp_X5_readsB hd hb0 hB ⟨by omega, by omega⟩ ⟨by omega, by omega⟩ (fun r hr => ?_)
    refine ⟨_, rfl, ?_⟩
    refine x_istore (pc := 73) dX5_readClaim_73 trivial (by decide) (L' := [(6, _), (5, _), (4, _), (3, _), (2, _), (0, _), (1, _)]) rfl ?_
    refine X.loc [0, 1, 2, 3, 4, 5, 6] (L' := [(6, _), (5, _), (4, _), (3, _), (2, _), (0, _), (1, _)]) rfl ?_
    exact b75 M1 _ so a y r u hso ha hy (by omega) hF hB hn1 hn2
  have b54 : ∀ (M1 : Mem) (w2 so a : Int) (u : Nat → Int), -200000 ≤ so ∧ so ≤ 200000 → -200000 ≤ a ∧ a ≤ 200000 → FrP d M M1 → BadT tx n u M1 d → RC.1 ≠ 1 → RC.2.1 = u → X g m_X5_readClaim 0 0 lay M1 54 [(4, vI a), (3, vI so), (2, vI w2), (0, vR d), (1, vI (6 * j : Nat))] [] K := by
    intro M1 w2 so a u hso ha hF hB hn1 hn2
    refine x_aload_n (pc := 54) dX5_readClaim_54 rfl rfl ?_
    refine x_iload (pc := 55) dX5_readClaim_55 rfl ?_
    refine x_iconst (pc := 57) dX5_readClaim_57 ?_
    refine x_iadd (pc := 58) dX5_readClaim_58 ?_
    refine x_bipush (pc := 59) dX5_readClaim_59 (by decide) ?_
    refine x_iconst (pc := 61) dX5_readClaim_61 ?_
    refine x_callV (pc := 62) [_, _, _] rfl kX5_330 dX5_readClaim_62 hd.1 rfl rfl (by decide) (Nat.le_of_ble_eq_true rfl) (Nat.le_of_ble_eq_true rfl) (by decide) ?_
    refine sp_X5_readIntB hd hb0 hB ⟨by omega, by omega⟩ ⟨by omega, by omega⟩ (Or.inr rfl) (fun y hy => ?_)
    refine ⟨_, rfl, ?_⟩
    refine x_istore (pc := 65) dX5_readClaim_65 trivial (by decide) (L' := [(5, _), (4, _), (3, _), (2, _), (0, _), (1, _)]) rfl ?_
    refine X.loc [0, 1, 2, 3, 4, 5] (L' := [(5, _), (4, _), (3, _), (2, _), (0, _), (1, _)]) rfl ?_
    exact b67 M1 _ so a y u hso ha hy hF hB hn1 hn2
  have b43 : ∀ (M1 : Mem) (w2 so : Int) (u : Nat → Int), -200000 ≤ so ∧ so ≤ 200000 → FrP d M M1 → BadT tx n u M1 d → RC.1 ≠ 1 → RC.2.1 = u → X g m_X5_readClaim 0 0 lay M1 43 [(3, vI so), (2, vI w2), (0, vR d), (1, vI (6 * j : Nat))] [] K := by
    intro M1 w2 so u hso hF hB hn1 hn2
    refine x_aload_n (pc := 43) dX5_readClaim_43 rfl rfl ?_
    refine x_bipush (pc := 44) dX5_readClaim_44 (by decide) ?_
    refine x_bipush (pc := 46) dX5_readClaim_46 (by decide) ?_
    refine x_iconst (pc := 48) dX5_readClaim_48 ?_
    refine x_callV (pc := 49) [_, _, _] rfl kX5_330 dX5_readClaim_49 hd.1 rfl rfl (by decide) (Nat.le_of_ble_eq_true rfl) (Nat.le_of_ble_eq_true rfl) (by decide) ?_
    refine sp_X5_readIntB hd hb0 hB ⟨by omega, by omega⟩ ⟨by omega, by omega⟩ (Or.inr rfl) (fun a ha => ?_)
    refine ⟨_, rfl, ?_⟩
    refine x_istore (pc := 52) dX5_readClaim_52 trivial (by decide) (L' := [(4, _), (3, _), (2, _), (0, _), (1, _)]) rfl ?_
    refine X.loc [0, 1, 2, 3, 4] (L' := [(4, _), (3, _), (2, _), (0, _), (1, _)]) rfl ?_
    exact b54 M1 _ so a u hso ha hF hB hn1 hn2
  have g84 : ∀ (M1 : Mem) (w2 so a y r s : Int) (u c1 : Nat → Int), -200000 ≤ so ∧ so ≤ 200000 → -200000 ≤ a ∧ a ≤ 200000 → -200000 ≤ y ∧ y ≤ 200000 → -200000 ≤ r ∧ r ≤ 200000 → -200000 ≤ s ∧ s ≤ 200000 → FrP d M M1 → RelT tx n u M1 d → RC = (1, u, kpF (kpF (kpF (kpF (kpF cm v 4 so) v 1 a) v 2 y) v 3 r) v 5 s) → X g m_X5_readClaim 0 0 lay M1 84 [(7, vI s), (6, vI r), (5, vI y), (4, vI a), (3, vI so), (2, vI w2), (0, vR d), (1, vI (6 * j : Nat))] [] K := by
    intro M1 w2 so a y r s u c1 hso ha hy hr hs hF hV1 he
    refine x_aload_n (pc := 84) dX5_readClaim_84 rfl rfl ?_
    refine x_getr (pc := 85) (b := d + 11) fX5_46 dX5_readClaim_85 hd.1 rfl rfl ?_
    refine x_iload_n (pc := 88) dX5_readClaim_88 rfl rfl ?_
    refine x_iconst (pc := 89) dX5_readClaim_89 ?_
    refine x_iadd (pc := 90) dX5_readClaim_90 ?_
    refine x_iload (pc := 91) dX5_readClaim_91 rfl ?_
    refine x_iast (pc := 93) dX5_readClaim_93 hd.2.2.2.2.2.2.2.2.2.2.2.1 (by omega) (by omega) (by omega) ⟨by omega, by omega⟩ ?_
    refine x_aload_n (pc := 94) dX5_readClaim_94 rfl rfl ?_
    refine x_getr (pc := 95) (b := d + 11) fX5_46 dX5_readClaim_95 hd.1 rfl rfl ?_
    refine x_iload_n (pc := 98) dX5_readClaim_98 rfl rfl ?_
    refine x_iconst (pc := 99) dX5_readClaim_99 ?_
    refine x_iadd (pc := 100) dX5_readClaim_100 ?_
    refine x_iload (pc := 101) dX5_readClaim_101 rfl ?_
    refine x_iast (pc := 103) dX5_readClaim_103 hd.2.2.2.2.2.2.2.2.2.2.2.1 (by omega) (by omega) (by omega) ⟨by omega, by omega⟩ ?_
    refine x_aload_n (pc := 104) dX5_readClaim_104 rfl rfl ?_
    refine x_getr (pc := 105) (b := d + 11) fX5_46 dX5_readClaim_105 hd.1 rfl rfl ?_
    refine x_iload_n (pc := 108) dX5_readClaim_108 rfl rfl ?_
    refine x_iconst (pc := 109) dX5_readClaim_109 ?_
    refine x_iadd (pc := 110) dX5_readClaim_110 ?_
    refine x_iload (pc := 111) dX5_readClaim_111 rfl ?_
    refine x_iast (pc := 113) dX5_readClaim_113 hd.2.2.2.2.2.2.2.2.2.2.2.1 (by omega) (by omega) (by omega) ⟨by omega, by omega⟩ ?_
    refine x_aload_n (pc := 114) dX5_readClaim_114 rfl rfl ?_
    refine x_getr (pc := 115) (b := d + 11) fX5_46 dX5_readClaim_115 hd.1 rfl rfl ?_
    refine x_iload_n (pc := 118) dX5_readClaim_118 rfl rfl ?_
    refine x_iconst (pc := 119) dX5_readClaim_119 ?_
    refine x_iadd (pc := 120) dX5_readClaim_120 ?_
    refine x_iload_n (pc := 121) dX5_readClaim_121 rfl rfl ?_
    refine x_iast (pc := 122) dX5_readClaim_122 hd.2.2.2.2.2.2.2.2.2.2.2.1 (by omega) (by omega) (by omega) ⟨by omega, by omega⟩ ?_
    refine x_aload_n (pc := 123) dX5_readClaim_123 rfl rfl ?_
    refine x_getr (pc := 124) (b := d + 11) fX5_46 dX5_readClaim_124 hd.1 rfl rfl ?_
    refine x_iload_n (pc := 127) dX5_readClaim_127 rfl rfl ?_
    refine x_iconst (pc := 128) dX5_readClaim_128 ?_
    refine x_iadd (pc := 129) dX5_readClaim_129 ?_
    refine x_iload (pc := 130) dX5_readClaim_130 rfl ?_
    refine x_iast (pc := 132) dX5_readClaim_132 hd.2.2.2.2.2.2.2.2.2.2.2.1 (by omega) (by omega) (by omega) ⟨by omega, by omega⟩ ?_
    refine x_vret (pc := 133) dX5_readClaim_133 rfl (by decide) (by decide) ?_
    rw [show (((6 * j : Nat) : Int) + 1).toNat = 6 * j + 1 by omega, show (((6 * j : Nat) : Int) + 2).toNat = 6 * j + 2 by omega, show (((6 * j : Nat) : Int) + 3).toNat = 6 * j + 3 by omega, show (((6 * j : Nat) : Int) + 4).toNat = 6 * j + 4 by omega, show (((6 * j : Nat) : Int) + 5).toNat = 6 * j + 5 by omega]
    refine k _ ⟨((((FrC.rf.p hF).m).m.m).m).m, by rw [mset_nea (by omega), mset_nea (by omega), mset_nea (by omega), mset_nea (by omega), mset_nea (by omega)]; exact hF _ _ (by omega), fun i hi => ?_, Or.inl ⟨by rw [he], ?_, fun f h1 h2 => ?_⟩⟩
    · rw [mset_nei (by omega), mset_nei (by omega), mset_nei (by omega), mset_nei (by omega), mset_nei (by omega)]
      exact hF _ _ (by omega)
    · rw [he]
      exact ((((hV1.m11).m11).m11).m11).m11
    · rw [he]
      dsimp only
      unfold kpF
      rw [hv5]
      have ef : f = 1 ∨ f = 2 ∨ f = 3 ∨ f = 4 ∨ f = 5 := by omega
      rcases ef with rfl | rfl | rfl | rfl | rfl
      · rw [mset_nei (by omega), mset_nei (by omega), mset_nei (by omega), mset_nei (by omega), mset_same, fup_ne (by omega), fup_ne (by omega), fup_ne (by omega), fup_at]
      · rw [mset_nei (by omega), mset_nei (by omega), mset_nei (by omega), mset_same, fup_ne (by omega), fup_ne (by omega), fup_at]
      · rw [mset_nei (by omega), mset_nei (by omega), mset_same, fup_ne (by omega), fup_at]
      · rw [mset_nei (by omega), mset_same, fup_ne (by omega), fup_ne (by omega), fup_ne (by omega), fup_ne (by omega), fup_at]
      · rw [mset_same, fup_at]
  have g75 : ∀ (M1 : Mem) (w2 so a y r : Int) (u : Nat → Int), -200000 ≤ so ∧ so ≤ 200000 → -200000 ≤ a ∧ a ≤ 200000 → -200000 ≤ y ∧ y ≤ 200000 → -200000 ≤ r ∧ r ≤ 200000 → FrP d M M1 → RelT tx n u M1 d → RC = rCl3 tx n v u (kpF (kpF (kpF (kpF cm v 4 so) v 1 a) v 2 y) v 3 r) → X g m_X5_readClaim 0 0 lay M1 75 [(6, vI r), (5, vI y), (4, vI a), (3, vI so), (2, vI w2), (0, vR d), (1, vI (6 * j : Nat))] [] K := by
    intro M1 w2 so a y r u hso ha hy hr hF hV1 he
    unfold rCl3 at he
    refine x_aload_n (pc := 75) dX5_readClaim_75 rfl rfl ?_
    refine x_iconst (pc := 76) dX5_readClaim_76 ?_
    refine x_bipush (pc := 77) dX5_readClaim_77 (by decide) ?_
    refine x_callV (pc := 79) [_, _] rfl kX5_327 dX5_readClaim_79 hd.1 rfl rfl (by decide) (Nat.le_of_ble_eq_true rfl) (Nat.le_of_ble_eq_true rfl) (by decide) ?_
    refine sp_X5_reads hd hb0 hV1 ⟨by omega, by omega⟩ ⟨by omega, by omega⟩ (fun M2 s hF2 hP2 hs2 hsr => ?_)
    refine ⟨_, rfl, ?_⟩
    refine x_istore (pc := 82) dX5_readClaim_82 trivial (by decide) (L' := [(7, _), (6, _), (5, _), (4, _), (3, _), (2, _), (0, _), (1, _)]) rfl ?_
    refine X.loc [0, 1, 2, 3, 4, 5, 6, 7] (L' := [(7, _), (6, _), (5, _), (4, _), (3, _), (2, _), (0, _), (1, _)]) rfl ?_
    rcases hP2 with ⟨p1, p2⟩ | ⟨p1, p2⟩
    · rw [if_neg (fun z => z p1), ← hs2 p1] at he
      exact g84 M2 _ so a y r s _ cm hso ha hy hr (by omega) (hF.tr hF2) p2 he
    · rw [if_pos p1] at he
      exact b84 M2 _ so a y r s _ hso ha hy hr (by omega) (hF.tr hF2) p2 (by rw [he]; exact ne1) (by rw [he])
  have g67 : ∀ (M1 : Mem) (w2 so a y : Int) (u : Nat → Int), -200000 ≤ so ∧ so ≤ 200000 → -200000 ≤ a ∧ a ≤ 200000 → -200000 ≤ y ∧ y ≤ 200000 → FrP d M M1 → RelT tx n u M1 d → RC = rCl2 tx n v u (kpF (kpF (kpF cm v 4 so) v 1 a) v 2 y) → X g m_X5_readClaim 0 0 lay M1 67 [(5, vI y), (4, vI a), (3, vI so), (2, vI w2), (0, vR d), (1, vI (6 * j : Nat))] [] K := by
    intro M1 w2 so a y u hso ha hy hF hV1 he
    unfold rCl2 at he
    refine x_aload_n (pc := 67) dX5_readClaim_67 rfl rfl ?_
    refine x_iconst (pc := 68) dX5_readClaim_68 ?_
    refine x_iconst (pc := 69) dX5_readClaim_69 ?_
    refine x_callV (pc := 70) [_, _] rfl kX5_327 dX5_readClaim_70 hd.1 rfl rfl (by decide) (Nat.le_of_ble_eq_true rfl) (Nat.le_of_ble_eq_true rfl) (by decide) ?_
    refine sp_X5_reads hd hb0 hV1 ⟨by omega, by omega⟩ ⟨by omega, by omega⟩ (fun M2 r hF2 hP2 hr2 hrr => ?_)
    refine ⟨_, rfl, ?_⟩
    refine x_istore (pc := 73) dX5_readClaim_73 trivial (by decide) (L' := [(6, _), (5, _), (4, _), (3, _), (2, _), (0, _), (1, _)]) rfl ?_
    refine X.loc [0, 1, 2, 3, 4, 5, 6] (L' := [(6, _), (5, _), (4, _), (3, _), (2, _), (0, _), (1, _)]) rfl ?_
    rcases hP2 with ⟨p1, p2⟩ | ⟨p1, p2⟩
    · rw [if_neg (fun z => z p1), ← hr2 p1] at he
      exact g75 M2 _ so a y r _ hso ha hy (by omega) (hF.tr hF2) p2 he
    · rw [if_pos p1] at he
      exact b75 M2 _ so a y r _ hso ha hy (by omega) (hF.tr hF2) p2 (by rw [he]; exact ne1) (by rw [he])
  have g54 : ∀ (M1 : Mem) (w2 so a : Int) (u : Nat → Int), -200000 ≤ so ∧ so ≤ 200000 → (-20 ≤ a ∧ a ≤ 19) → FrP d M M1 → RelT tx n u M1 d → RC = rCl1 tx n v u (kpF (kpF cm v 4 so) v 1 a) a → X g m_X5_readClaim 0 0 lay M1 54 [(4, vI a), (3, vI so), (2, vI w2), (0, vR d), (1, vI (6 * j : Nat))] [] K := by
    intro M1 w2 so a u hso ha hF hV1 he
    unfold rCl1 at he
    refine x_aload_n (pc := 54) dX5_readClaim_54 rfl rfl ?_
    refine x_iload (pc := 55) dX5_readClaim_55 rfl ?_
    refine x_iconst (pc := 57) dX5_readClaim_57 ?_
    refine x_iadd (pc := 58) dX5_readClaim_58 ?_
    refine x_bipush (pc := 59) dX5_readClaim_59 (by decide) ?_
    refine x_iconst (pc := 61) dX5_readClaim_61 ?_
    refine x_callV (pc := 62) [_, _, _] rfl kX5_330 dX5_readClaim_62 hd.1 rfl rfl (by decide) (Nat.le_of_ble_eq_true rfl) (Nat.le_of_ble_eq_true rfl) (by decide) ?_
    refine sp_X5_readInt1 hd hb0 hV1 ⟨by omega, by omega⟩ ⟨by omega, by omega⟩ (fun M2 y hF2 hP2 hy2 hyr => ?_)
    refine ⟨_, rfl, ?_⟩
    refine x_istore (pc := 65) dX5_readClaim_65 trivial (by decide) (L' := [(5, _), (4, _), (3, _), (2, _), (0, _), (1, _)]) rfl ?_
    refine X.loc [0, 1, 2, 3, 4, 5] (L' := [(5, _), (4, _), (3, _), (2, _), (0, _), (1, _)]) rfl ?_
    rcases hP2 with ⟨p1, p2⟩ | ⟨p1, p2⟩
    · rw [if_neg (fun z => z p1), ← hy2 p1] at he
      exact g67 M2 _ so a y _ hso (by omega) hyr (hF.tr hF2) p2 he
    · rw [if_pos p1] at he
      exact b67 M2 _ so a y _ hso (by omega) hyr (hF.tr hF2) p2 (by rw [he]; exact ne1) (by rw [he])
  have g43 : ∀ (M1 : Mem) (w2 so : Int) (u : Nat → Int), -200000 ≤ so ∧ so ≤ 200000 → FrP d M M1 → RelT tx n u M1 d → RC = rCl0 tx n v u (kpF cm v 4 so) → X g m_X5_readClaim 0 0 lay M1 43 [(3, vI so), (2, vI w2), (0, vR d), (1, vI (6 * j : Nat))] [] K := by
    intro M1 w2 so u hso hF hV1 he
    unfold rCl0 at he
    refine x_aload_n (pc := 43) dX5_readClaim_43 rfl rfl ?_
    refine x_bipush (pc := 44) dX5_readClaim_44 (by decide) ?_
    refine x_bipush (pc := 46) dX5_readClaim_46 (by decide) ?_
    refine x_iconst (pc := 48) dX5_readClaim_48 ?_
    refine x_callV (pc := 49) [_, _, _] rfl kX5_330 dX5_readClaim_49 hd.1 rfl rfl (by decide) (Nat.le_of_ble_eq_true rfl) (Nat.le_of_ble_eq_true rfl) (by decide) ?_
    refine sp_X5_readInt1 hd hb0 hV1 ⟨by omega, by omega⟩ ⟨by omega, by omega⟩ (fun M2 a hF2 hP2 ha2 har => ?_)
    refine ⟨_, rfl, ?_⟩
    refine x_istore (pc := 52) dX5_readClaim_52 trivial (by decide) (L' := [(4, _), (3, _), (2, _), (0, _), (1, _)]) rfl ?_
    refine X.loc [0, 1, 2, 3, 4] (L' := [(4, _), (3, _), (2, _), (0, _), (1, _)]) rfl ?_
    rcases hP2 with ⟨p1, p2⟩ | ⟨p1, p2⟩
    · have hrg := int_rng p1
      rw [if_neg (fun z => z p1), ← ha2 p1] at he
      rw [← ha2 p1] at hrg
      exact g54 M2 _ so a _ hso hrg (hF.tr hF2) p2 he
    · rw [if_pos p1] at he
      exact b54 M2 _ so a _ hso har (hF.tr hF2) p2 (by rw [he]; exact ne1) (by rw [he])
  have bad27 : ∀ (M1 : Mem) (w2 : Int) (u : Nat → Int), (-1 ≤ w2 ∧ w2 < 12) → FrP d M M1 → BadT tx n u M1 d → RC.1 ≠ 1 → RC.2.1 = u → X g m_X5_readClaim 0 0 lay M1 27 [(2, vI w2), (0, vR d), (1, vI (6 * j : Nat))] [] K := by
    intro M1 w2 u hw2 hF hB hn1 hn2
    refine x_aload_n (pc := 27) dX5_readClaim_27 rfl rfl ?_
    refine x_iload_n (pc := 28) dX5_readClaim_28 rfl rfl ?_
    refine x_bipush (pc := 29) dX5_readClaim_29 (by decide) ?_
    refine x_icmp_ne (pc := 31) (t := 38) dX5_readClaim_31 (by decide) ⟨by omega, by omega⟩ ⟨by omega, by omega⟩ (fun c31 => ?_) (fun c31 => ?_)
    · refine x_iconst (pc := 38) dX5_readClaim_38 ?_
      refine x_callV (pc := 39) [_] rfl kX5_308 dX5_readClaim_39 hd.1 rfl rfl (by decide) (Nat.le_of_ble_eq_true rfl) (Nat.le_of_ble_eq_true rfl) (by decide) ?_
      refine sp_X5_passesOnB hd hb0 hB ?_
      refine ⟨_, rfl, ?_⟩
      refine x_istore_n (pc := 42) dX5_readClaim_42 rfl (by decide) (L' := [(3, _), (2, _), (0, _), (1, _)]) rfl ?_
      refine X.loc [0, 1, 2, 3] (L' := [(3, _), (2, _), (0, _), (1, _)]) rfl ?_
      exact b43 M1 _ _ u (by omega) hF hB hn1 hn2
    · refine x_iconst (pc := 34) dX5_readClaim_34 ?_
      refine x_goto (pc := 35) (t := 39) dX5_readClaim_35 (by decide) ?_
      refine x_callV (pc := 39) [_] rfl kX5_308 dX5_readClaim_39 hd.1 rfl rfl (by decide) (Nat.le_of_ble_eq_true rfl) (Nat.le_of_ble_eq_true rfl) (by decide) ?_
      refine sp_X5_passesOnB hd hb0 hB ?_
      refine ⟨_, rfl, ?_⟩
      refine x_istore_n (pc := 42) dX5_readClaim_42 rfl (by decide) (L' := [(3, _), (2, _), (0, _), (1, _)]) rfl ?_
      refine X.loc [0, 1, 2, 3] (L' := [(3, _), (2, _), (0, _), (1, _)]) rfl ?_
      exact b43 M1 _ _ u (by omega) hF hB hn1 hn2
  have good27 : (isWordP tx v 10 ∨ isWordP tx v 11) → X g m_X5_readClaim 0 0 lay M 27 [(2, vI (wordF tx v)), (0, vR d), (1, vI (6 * j : Nat))] [] K := by
    intro hw
    unfold rClaimF at hRC
    rw [if_neg (fun z => by rcases hw with h | h; exact z.1 h; exact z.2 h)] at hRC
    refine x_aload_n (pc := 27) dX5_readClaim_27 rfl rfl ?_
    refine x_iload_n (pc := 28) dX5_readClaim_28 rfl rfl ?_
    refine x_bipush (pc := 29) dX5_readClaim_29 (by decide) ?_
    refine x_icmp_ne (pc := 31) (t := 38) dX5_readClaim_31 (by decide) ⟨by omega, by omega⟩ ⟨by omega, by omega⟩ (fun c31 => ?_) (fun c31 => ?_)
    · refine x_iconst (pc := 38) dX5_readClaim_38 ?_
      refine x_callV (pc := 39) [_] rfl kX5_308 dX5_readClaim_39 hd.1 rfl rfl (by decide) (Nat.le_of_ble_eq_true rfl) (Nat.le_of_ble_eq_true rfl) (by decide) ?_
      refine sp_X5_passesOn hd hb0 hV (fun M2 hF2 hV2 => ?_)
      refine ⟨_, rfl, ?_⟩
      refine x_istore_n (pc := 42) dX5_readClaim_42 rfl (by decide) (L' := [(3, _), (2, _), (0, _), (1, _)]) rfl ?_
      refine X.loc [0, 1, 2, 3] (L' := [(3, _), (2, _), (0, _), (1, _)]) rfl ?_
      refine g43 M2 _ _ _ (by omega) hF2 hV2 ?_
      rw [hRC]
      first
      | (rw [if_pos (hL10.mpr (by omega))])
      | (rw [if_neg (fun z => by have := hL10.mp z; omega)])
    · refine x_iconst (pc := 34) dX5_readClaim_34 ?_
      refine x_goto (pc := 35) (t := 39) dX5_readClaim_35 (by decide) ?_
      refine x_callV (pc := 39) [_] rfl kX5_308 dX5_readClaim_39 hd.1 rfl rfl (by decide) (Nat.le_of_ble_eq_true rfl) (Nat.le_of_ble_eq_true rfl) (by decide) ?_
      refine sp_X5_passesOn hd hb0 hV (fun M2 hF2 hV2 => ?_)
      refine ⟨_, rfl, ?_⟩
      refine x_istore_n (pc := 42) dX5_readClaim_42 rfl (by decide) (L' := [(3, _), (2, _), (0, _), (1, _)]) rfl ?_
      refine X.loc [0, 1, 2, 3] (L' := [(3, _), (2, _), (0, _), (1, _)]) rfl ?_
      refine g43 M2 _ _ _ (by omega) hF2 hV2 ?_
      rw [hRC]
      first
      | (rw [if_pos (hL10.mpr (by omega))])
      | (rw [if_neg (fun z => by have := hL10.mp z; omega)])
  refine x_aload_n (pc := 0) dX5_readClaim_0 rfl rfl ?_
  refine x_callV (pc := 1) [] rfl kX5_336 dX5_readClaim_1 hd.1 rfl rfl (by decide) (Nat.le_of_ble_eq_true rfl) (Nat.le_of_ble_eq_true rfl) (by decide) ?_
  refine sp_X5_wordHere hd hb0 hV hD ?_
  refine ⟨_, rfl, ?_⟩
  refine x_istore_n (pc := 4) dX5_readClaim_4 rfl (by decide) (L' := [(2, _), (0, _), (1, _)]) rfl ?_
  refine x_aload_n (pc := 5) dX5_readClaim_5 rfl rfl ?_
  refine x_iload_n (pc := 6) dX5_readClaim_6 rfl rfl ?_
  refine x_bipush (pc := 7) dX5_readClaim_7 (by decide) ?_
  refine x_icmp_eq (pc := 9) (t := 18) dX5_readClaim_9 (by decide) ⟨by omega, by omega⟩ ⟨by omega, by omega⟩ (fun c9 => ?_) (fun c9 => ?_)
  · refine x_iconst (pc := 18) dX5_readClaim_18 ?_
    refine x_goto (pc := 19) (t := 23) dX5_readClaim_19 (by decide) ?_
    refine x_iconst (pc := 23) dX5_readClaim_23 ?_
    refine x_callV (pc := 24) [_, _] rfl kX5_311 dX5_readClaim_24 hd.1 rfl rfl (by decide) (Nat.le_of_ble_eq_true rfl) (Nat.le_of_ble_eq_true rfl) (by decide) ?_
    first
    | (refine sp_X5_must1 hd hb0 ?_)
    | (refine sp_X5_must0 hd hb0 hV (by omega) (fun M2 hF2 hB2 => ?_))
    refine ⟨_, rfl, ?_⟩
    refine X.loc [0, 1, 2] (L' := [(2, _), (0, _), (1, _)]) rfl ?_
    first
    | exact good27 (Or.inl (hL10.mpr (by omega)))
    | exact good27 (Or.inr (hL11.mpr (by omega)))
    | (have e9 : RC = (0, (failF v 1).2, cm) := by
         rw [hRC]
         unfold rClaimF
         rw [if_pos ⟨fun z => by have := hL10.mp z; omega, fun z => by have := hL11.mp z; omega⟩]
       exact bad27 M2 _ _ wr hF2 hB2 (by rw [e9]; exact ne1) (by rw [e9]))
  · refine x_iload_n (pc := 12) dX5_readClaim_12 rfl rfl ?_
    refine x_bipush (pc := 13) dX5_readClaim_13 (by decide) ?_
    refine x_icmp_ne (pc := 15) (t := 22) dX5_readClaim_15 (by decide) ⟨by omega, by omega⟩ ⟨by omega, by omega⟩ (fun c15 => ?_) (fun c15 => ?_)
    · refine x_iconst (pc := 22) dX5_readClaim_22 ?_
      refine x_iconst (pc := 23) dX5_readClaim_23 ?_
      refine x_callV (pc := 24) [_, _] rfl kX5_311 dX5_readClaim_24 hd.1 rfl rfl (by decide) (Nat.le_of_ble_eq_true rfl) (Nat.le_of_ble_eq_true rfl) (by decide) ?_
      first
      | (refine sp_X5_must1 hd hb0 ?_)
      | (refine sp_X5_must0 hd hb0 hV (by omega) (fun M2 hF2 hB2 => ?_))
      refine ⟨_, rfl, ?_⟩
      refine X.loc [0, 1, 2] (L' := [(2, _), (0, _), (1, _)]) rfl ?_
      first
      | exact good27 (Or.inl (hL10.mpr (by omega)))
      | exact good27 (Or.inr (hL11.mpr (by omega)))
      | (have e9 : RC = (0, (failF v 1).2, cm) := by
           rw [hRC]
           unfold rClaimF
           rw [if_pos ⟨fun z => by have := hL10.mp z; omega, fun z => by have := hL11.mp z; omega⟩]
         exact bad27 M2 _ _ wr hF2 hB2 (by rw [e9]; exact ne1) (by rw [e9]))
    · refine x_iconst (pc := 18) dX5_readClaim_18 ?_
      refine x_goto (pc := 19) (t := 23) dX5_readClaim_19 (by decide) ?_
      refine x_iconst (pc := 23) dX5_readClaim_23 ?_
      refine x_callV (pc := 24) [_, _] rfl kX5_311 dX5_readClaim_24 hd.1 rfl rfl (by decide) (Nat.le_of_ble_eq_true rfl) (Nat.le_of_ble_eq_true rfl) (by decide) ?_
      first
      | (refine sp_X5_must1 hd hb0 ?_)
      | (refine sp_X5_must0 hd hb0 hV (by omega) (fun M2 hF2 hB2 => ?_))
      refine ⟨_, rfl, ?_⟩
      refine X.loc [0, 1, 2] (L' := [(2, _), (0, _), (1, _)]) rfl ?_
      first
      | exact good27 (Or.inl (hL10.mpr (by omega)))
      | exact good27 (Or.inr (hL11.mpr (by omega)))
      | (have e9 : RC = (0, (failF v 1).2, cm) := by
           rw [hRC]
           unfold rClaimF
           rw [if_pos ⟨fun z => by have := hL10.mp z; omega, fun z => by have := hL11.mp z; omega⟩]
         exact bad27 M2 _ _ wr hF2 hB2 (by rw [e9]; exact ne1) (by rw [e9]))
