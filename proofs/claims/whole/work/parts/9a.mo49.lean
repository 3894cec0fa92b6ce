/-! The law's other calls. -/
set_option maxRecDepth 100000 in
theorem law_errorCode {g : GG} {lay : Lay} {M : Mem} {K : KK} {sa len b : Nat} {i : Int} {cn ck : Nat} (G : GoodA) (hL : LI g sa len b lay M) (hi : 0 ≤ i ∧ i + 6 ≤ (len : Int)) (hc : cn + 7 ≤ 601024 ∧ ck + 191 ≤ 7293034) (k : CK g sa len b i cn ck K) : X g m_L_law cn ck lay M 346 [(5, vI i), (4, vR (b + 46)), (3, vR (b + 45)), (2, vR (b + 32)), (1, vR b), (0, vR sa)] [] K := by
  obtain ⟨T, A, u, H, tx, n, v, cm, pg, S, sv, hL⟩ := hL
  obtain ⟨⟨hg, hsb, hSc, htop, hMo, hO1, hO2⟩, hD, ⟨cT, cA, cR, cC, cP⟩, hR, hSv, ⟨hW, hO, hB⟩, hH, hX⟩ := id hL
  have hu : 0 ≤ (u : Int) ∧ (u : Int) ≤ 12 := ⟨by omega, by have := hH.1; omega⟩
  have hdg : g.2.1 ≤ b + 32 := by omega
  obtain ⟨gB, gC, gM, gE, gF⟩ := id G
  refine x_aload_n (pc := 346) dL_law_346 rfl rfl ?_
  refine x_callV (pc := 347) [] rfl kL_116 dL_law_347 hD.1 rfl rfl ⟨Nat.le_of_ble_eq_true rfl, Nat.le_of_ble_eq_true rfl⟩ (Nat.le_of_ble_eq_true rfl) (Nat.le_of_ble_eq_true rfl) ⟨by show cn + 0 ≤ 601024; omega, by show ck + 0 ≤ 7293034; omega⟩ ?_
  have h4 : X g m_X4_errorCode 0 0 lay M 0 [(0, vR b)] [] (fun o l2 M2 => o = oI (v 3) ∧ l2 = lay ∧ M2 = M) := sp_X4_errorCode hD hg cR ⟨rfl, rfl, rfl⟩
  refine X.norm h4 (fun o l2 M2 z => ?_)
  obtain ⟨rfl, rfl, rfl⟩ := z
  refine ⟨_, rfl, ?_⟩
  obtain ⟨rT, rA, rU, rB, rW, rX, ⟨rE3, rE4⟩, rP, rS⟩ := id hR
  refine x_aload_n (pc := 350) dL_law_350 rfl rfl ?_
  refine x_callV (pc := 351) [] rfl kL_119 dL_law_351 hMo.1 rfl rfl ⟨Nat.le_of_ble_eq_true rfl, Nat.le_of_ble_eq_true rfl⟩ (Nat.le_of_ble_eq_true rfl) (Nat.le_of_ble_eq_true rfl) ⟨by show cn + 0 + 0 ≤ 601024; omega, by show ck + 0 + 0 ≤ 7293034; omega⟩ ?_
  have h5 : X g m_X5_errorCode 0 0 l2 M2 0 [(0, vR (b + 32))] [] (fun o l3 M3 => o = oI (v 3) ∧ l3 = l2 ∧ FrZ (b + 32) M2 M3) := sp_X5_errorCode hMo hdg rE3 (fun M3 z => ⟨rfl, rfl, z⟩)
  refine X.norm h5 (fun o l3 M3 z => ?_)
  obtain ⟨rfl, rfl, z1⟩ := z
  refine ⟨_, rfl, ?_⟩
  refine x_icmp_eq (pc := 354) (t := 1890) dL_law_354 (by decide) (nmI_rng _) (nmI_rng _) (fun _ => ?_) (fun z => absurd rfl z)
  refine k _ _ _ _ (by show cn + 0 + 0 ≤ cn + 7; omega) (by show ck + 0 + 0 ≤ ck + 191; omega) ?_
  exact ⟨T, A, u, H, tx, n, v, cm, pg, S, sv, hL.z z1⟩
set_option maxRecDepth 100000 in
theorem law_errorPosition {g : GG} {lay : Lay} {M : Mem} {K : KK} {sa len b : Nat} {i : Int} {cn ck : Nat} (G : GoodA) (hL : LI g sa len b lay M) (hi : 0 ≤ i ∧ i + 6 ≤ (len : Int)) (hc : cn + 7 ≤ 601024 ∧ ck + 191 ≤ 7293034) (k : CK g sa len b i cn ck K) : X g m_L_law cn ck lay M 359 [(5, vI i), (4, vR (b + 46)), (3, vR (b + 45)), (2, vR (b + 32)), (1, vR b), (0, vR sa)] [] K := by
  obtain ⟨T, A, u, H, tx, n, v, cm, pg, S, sv, hL⟩ := hL
  obtain ⟨⟨hg, hsb, hSc, htop, hMo, hO1, hO2⟩, hD, ⟨cT, cA, cR, cC, cP⟩, hR, hSv, ⟨hW, hO, hB⟩, hH, hX⟩ := id hL
  have hu : 0 ≤ (u : Int) ∧ (u : Int) ≤ 12 := ⟨by omega, by have := hH.1; omega⟩
  have hdg : g.2.1 ≤ b + 32 := by omega
  obtain ⟨gB, gC, gM, gE, gF⟩ := id G
  refine x_aload_n (pc := 359) dL_law_359 rfl rfl ?_
  refine x_callV (pc := 360) [] rfl kL_120 dL_law_360 hD.1 rfl rfl ⟨Nat.le_of_ble_eq_true rfl, Nat.le_of_ble_eq_true rfl⟩ (Nat.le_of_ble_eq_true rfl) (Nat.le_of_ble_eq_true rfl) ⟨by show cn + 0 ≤ 601024; omega, by show ck + 0 ≤ 7293034; omega⟩ ?_
  have h4 : X g m_X4_errorPosition 0 0 lay M 0 [(0, vR b)] [] (fun o l2 M2 => o = oI (v 4) ∧ l2 = lay ∧ M2 = M) := sp_X4_errorPosition hD hg cR ⟨rfl, rfl, rfl⟩
  refine X.norm h4 (fun o l2 M2 z => ?_)
  obtain ⟨rfl, rfl, rfl⟩ := z
  refine ⟨_, rfl, ?_⟩
  obtain ⟨rT, rA, rU, rB, rW, rX, ⟨rE3, rE4⟩, rP, rS⟩ := id hR
  refine x_aload_n (pc := 363) dL_law_363 rfl rfl ?_
  refine x_callV (pc := 364) [] rfl kL_123 dL_law_364 hMo.1 rfl rfl ⟨Nat.le_of_ble_eq_true rfl, Nat.le_of_ble_eq_true rfl⟩ (Nat.le_of_ble_eq_true rfl) (Nat.le_of_ble_eq_true rfl) ⟨by show cn + 0 + 0 ≤ 601024; omega, by show ck + 0 + 0 ≤ 7293034; omega⟩ ?_
  have h5 : X g m_X5_errorPosition 0 0 l2 M2 0 [(0, vR (b + 32))] [] (fun o l3 M3 => o = oI (v 4) ∧ l3 = l2 ∧ FrZ (b + 32) M2 M3) := sp_X5_errorPosition hMo hdg rE4 (fun M3 z => ⟨rfl, rfl, z⟩)
  refine X.norm h5 (fun o l3 M3 z => ?_)
  obtain ⟨rfl, rfl, z1⟩ := z
  refine ⟨_, rfl, ?_⟩
  refine x_icmp_eq (pc := 367) (t := 1890) dL_law_367 (by decide) (nmI_rng _) (nmI_rng _) (fun _ => ?_) (fun z => absurd rfl z)
  refine k _ _ _ _ (by show cn + 0 + 0 ≤ cn + 7; omega) (by show ck + 0 + 0 ≤ ck + 191; omega) ?_
  exact ⟨T, A, u, H, tx, n, v, cm, pg, S, sv, hL.z z1⟩
set_option maxRecDepth 100000 in
theorem law_output {g : GG} {lay : Lay} {M : Mem} {K : KK} {sa len b : Nat} {i : Int} {cn ck : Nat} (G : GoodA) (hL : LI g sa len b lay M) (hi : 0 ≤ i ∧ i + 6 ≤ (len : Int)) (hc : cn + 7 ≤ 601024 ∧ ck + 191 ≤ 7293034) (k : CK g sa len b i cn ck K) : X g m_L_law cn ck lay M 1780 [(5, vI i), (4, vR (b + 46)), (3, vR (b + 45)), (2, vR (b + 32)), (1, vR b), (0, vR sa)] [] K := by
  obtain ⟨T, A, u, H, tx, n, v, cm, pg, S, sv, hL⟩ := hL
  obtain ⟨⟨hg, hsb, hSc, htop, hMo, hO1, hO2⟩, hD, ⟨cT, cA, cR, cC, cP⟩, hR, hSv, ⟨hW, hO, hB⟩, hH, hX⟩ := id hL
  have hu : 0 ≤ (u : Int) ∧ (u : Int) ≤ 12 := ⟨by omega, by have := hH.1; omega⟩
  have hdg : g.2.1 ≤ b + 32 := by omega
  obtain ⟨gB, gC, gM, gE, gF⟩ := id G
  refine x_aload_n (pc := 1780) dL_law_1780 rfl rfl ?_
  refine x_aload_n (pc := 1781) dL_law_1781 rfl rfl ?_
  refine x_iload (pc := 1782) dL_law_1782 rfl ?_
  refine x_iconst (pc := 1784) dL_law_1784 ?_
  refine x_iadd (pc := 1785) dL_law_1785 ?_
  refine x_iald (pc := 1786) dL_law_1786 hSc (by omega) (by omega) (fun a1 b1 => ?_)
  obtain ⟨p1, e1⟩ : ∃ z, z = M sa (i + 1).toNat := ⟨_, rfl⟩
  rw [← e1] at a1 b1 ⊢
  have R1 : i32 p1 := ⟨a1, b1⟩
  refine x_callV (pc := 1787) [_] rfl kL_217 dL_law_1787 hD.1 rfl rfl ⟨Nat.le_of_ble_eq_true rfl, Nat.le_of_ble_eq_true rfl⟩ (Nat.le_of_ble_eq_true rfl) (Nat.le_of_ble_eq_true rfl) ⟨by show cn + 0 ≤ 601024; omega, by show ck + 0 ≤ 7293034; omega⟩ ?_
  have h4 : X g m_X4_output 0 0 lay M 0 [(0, vR b), (1, vI p1)] [] (fun o l2 M2 => o = oI (if 0 ≤ p1 ∧ p1 < (pg.length : Nat) then pg.getD p1.toNat 0 else -1) ∧ l2 = lay ∧ M2 = M) := sp_X4_output hD hg cP R1 ⟨rfl, rfl, rfl⟩
  refine X.norm h4 (fun o l2 M2 z => ?_)
  obtain ⟨rfl, rfl, rfl⟩ := z
  refine ⟨_, rfl, ?_⟩
  obtain ⟨rT, rA, rU, rB, rW, rX, ⟨rE3, rE4⟩, rP, rS⟩ := id hR
  have hSc2 := hSc
  have hsc2 : ∀ j, M2 sa j = M2 sa j := fun _ => rfl
  refine x_aload_n (pc := 1790) dL_law_1790 rfl rfl ?_
  refine x_aload_n (pc := 1791) dL_law_1791 rfl rfl ?_
  refine x_iload (pc := 1792) dL_law_1792 rfl ?_
  refine x_iconst (pc := 1794) dL_law_1794 ?_
  refine x_iadd (pc := 1795) dL_law_1795 ?_
  refine x_iald (pc := 1796) dL_law_1796 hSc2 (by omega) (by omega) (fun _ _ => ?_)
  rw [show M2 sa (i + 1).toNat = p1 from (hsc2 _).trans e1.symm]
  refine x_callV (pc := 1797) [_] rfl kL_220 dL_law_1797 hMo.1 rfl rfl ⟨Nat.le_of_ble_eq_true rfl, Nat.le_of_ble_eq_true rfl⟩ (Nat.le_of_ble_eq_true rfl) (Nat.le_of_ble_eq_true rfl) ⟨by show cn + 0 + 0 ≤ 601024; omega, by show ck + 0 + 0 ≤ 7293034; omega⟩ ?_
  have h5 : X g m_X5_output 0 0 l2 M2 0 [(0, vR (b + 32)), (1, vI p1)] [] (fun o l3 M3 => o = oI (if 0 ≤ p1 ∧ p1 < (pg.length : Nat) then pg.getD p1.toNat 0 else -1) ∧ l3 = l2 ∧ FrZ (b + 32) M2 M3) := sp_X5_output hMo hdg rP R1 (fun M3 z => ⟨rfl, rfl, z⟩)
  refine X.norm h5 (fun o l3 M3 z => ?_)
  obtain ⟨rfl, rfl, z1⟩ := z
  refine ⟨_, rfl, ?_⟩
  refine x_icmp_eq (pc := 1800) (t := 1890) dL_law_1800 (by decide) (nmI_rng _) (nmI_rng _) (fun _ => ?_) (fun z => absurd rfl z)
  refine k _ _ _ _ (by show cn + 0 + 0 ≤ cn + 7; omega) (by show ck + 0 + 0 ≤ ck + 191; omega) ?_
  exact ⟨T, A, u, H, tx, n, v, cm, pg, S, sv, hL.z z1⟩
set_option maxRecDepth 100000 in
theorem law_write {g : GG} {lay : Lay} {M : Mem} {K : KK} {sa len b : Nat} {i : Int} {cn ck : Nat} (G : GoodA) (hL : LI g sa len b lay M) (hi : 0 ≤ i ∧ i + 6 ≤ (len : Int)) (hc : cn + 7 ≤ 601024 ∧ ck + 191 ≤ 7293034) (k : CK g sa len b i cn ck K) : X g m_L_law cn ck lay M 1754 [(5, vI i), (4, vR (b + 46)), (3, vR (b + 45)), (2, vR (b + 32)), (1, vR b), (0, vR sa)] [] K := by
  obtain ⟨T, A, u, H, tx, n, v, cm, pg, S, sv, hL⟩ := hL
  obtain ⟨⟨hg, hsb, hSc, htop, hMo, hO1, hO2⟩, hD, ⟨cT, cA, cR, cC, cP⟩, hR, hSv, ⟨hW, hO, hB⟩, hH, hX⟩ := id hL
  have hu : 0 ≤ (u : Int) ∧ (u : Int) ≤ 12 := ⟨by omega, by have := hH.1; omega⟩
  have hdg : g.2.1 ≤ b + 32 := by omega
  obtain ⟨gB, gC, gM, gE, gF⟩ := id G
  refine x_aload_n (pc := 1754) dL_law_1754 rfl rfl ?_
  refine x_callV (pc := 1755) [] rfl kL_209 dL_law_1755 hD.1 rfl rfl ⟨Nat.le_of_ble_eq_true rfl, Nat.le_of_ble_eq_true rfl⟩ (Nat.le_of_ble_eq_true rfl) (Nat.le_of_ble_eq_true rfl) ⟨by show cn + 0 ≤ 601024; omega, by show ck + 0 ≤ 7293034; omega⟩ ?_
  have h4 : X g m_X4_write 0 0 lay M 0 [(0, vR b)] [] (fun o l2 M2 => o = oI (((writeF (tP T)).length : Nat)) ∧ l2 = lay ∧ Frm (b + 28) (b + 30) M M2 ∧ Pg (writeF (tP T)) M2 (b + 28)) := sp_X4_write gB hD hg cT hW (fun M2 z1 z2 => ⟨rfl, rfl, z1, z2⟩)
  refine X.norm h4 (fun o l2 M2 z => ?_)
  obtain ⟨rfl, rfl, z1, z2⟩ := z
  refine ⟨_, rfl, ?_⟩
  have e2 : ∀ a j, ¬ (b + 28 ≤ a ∧ a < b + 30) → M2 a j = M a j := z1
  have hR2 := hR.fr (M2 := M2) (fun a j _ _ => e2 a j (by omega))
  obtain ⟨rT, rA, rU, rB, rW, rX, ⟨rE3, rE4⟩, rP, rS⟩ := id hR2
  refine x_aload_n (pc := 1758) dL_law_1758 rfl rfl ?_
  refine x_callV (pc := 1759) [] rfl kL_212 dL_law_1759 hMo.1 rfl rfl ⟨Nat.le_of_ble_eq_true rfl, Nat.le_of_ble_eq_true rfl⟩ (Nat.le_of_ble_eq_true rfl) (Nat.le_of_ble_eq_true rfl) ⟨by show cn + 0 + 0 ≤ 601024; omega, by show ck + 0 + 0 ≤ 7293034; omega⟩ ?_
  have h5 : X g m_X5_write 0 0 l2 M2 0 [(0, vR (b + 32))] [] (fun o l3 M3 => o = oI (((writeF (tP T)).length : Nat)) ∧ l3 = l2 ∧ (∀ a j, ¬ (a = b + 32 ∧ (j = 0 ∨ j = 25)) → ¬ a = b + 32 + 12 → M3 a j = M2 a j) ∧ Po (writeF (tP T)) M3 (b + 32)) := sp_X5_write hMo hdg rT hW (fun M3 z1 z2 => ⟨rfl, rfl, z1, z2⟩)
  refine X.norm h5 (fun o l3 M3 z => ?_)
  obtain ⟨rfl, rfl, z3, z4⟩ := z
  refine ⟨_, rfl, ?_⟩
  refine x_icmp_eq (pc := 1762) (t := 1890) dL_law_1762 (by decide) (nmI_rng _) (nmI_rng _) (fun _ => ?_) (fun z => absurd rfl z)
  refine k _ _ _ _ (by show cn + 0 + 0 ≤ cn + 7; omega) (by show ck + 0 + 0 ≤ ck + 191; omega) ?_
  have e3 : ∀ a j, ¬ (a = b + 32 ∧ (j = 0 ∨ j = 25)) → ¬ a = b + 32 + 12 → M3 a j = M2 a j := z3
  have e4 : ∀ a j, ¬ (b + 28 ≤ a ∧ a < b + 30) → ¬ (b + 32 ≤ a ∧ a < b + 45) → M3 a j = M a j := fun a j q1 q2 => (e3 a j (by omega) (by omega)).trans (e2 a j q1)
  refine ⟨T, A, u, H, tx, n, v, cm, writeF (tP T), S, sv, ⟨hg, hsb, hSc, htop, hMo, hO1, hO2⟩, hD, ⟨cT.gen (fun a j _ _ => e4 a j (by omega) (by omega)), ⟨fun i hi => by rw [e4 _ _ (by omega) (by omega)]; exact cA.1 i hi, by rw [e4 _ _ (by omega) (by omega)]; exact cA.2⟩, ⟨cR.1, fun j q1 q2 => by rw [e4 _ _ (by omega) (by omega)]; exact cR.2.1 j q1 q2, fun i hi => by rw [e4 _ _ (by omega) (by omega)]; exact cR.2.2 i hi⟩, fun i hi => by rw [e4 _ _ (by omega) (by omega)]; exact cC i hi, ⟨by rw [e3 _ _ (by omega) (by omega)]; exact z2.1, z2.2.1, fun i hi => by rw [e3 _ _ (by omega) (by omega)]; exact z2.2.2 i hi⟩⟩, ⟨rT.fe (fun j => e3 _ j (by omega) (by omega)), rA.fr (fun j => e3 _ j (by omega) (by omega)), rU.fr (fun j => e3 _ j (by omega) (by omega)) (e3 _ _ (by omega) (by omega)), Bg.fr2 rB (fun j => e3 _ j (by omega) (by omega)), rW.fr (fun j => e3 _ j (by omega) (by omega)), rX.z (e3 _ _ (by omega) (by omega)) (fun j => e3 _ j (by omega) (by omega)), ⟨(e3 _ _ (by omega) (by omega)).trans rE3, (e3 _ _ (by omega) (by omega)).trans rE4⟩, z4, rS.fr (fun j => e3 _ j (by omega) (by omega)) (fun j => e3 _ j (by omega) (by omega))⟩, hSv.fr (Nat.le_refl _) (fun a j q1 q2 => e4 a j (by omega) (by omega)), ⟨hW, hO, hB⟩, hH, hX⟩
set_option maxRecDepth 100000 in
theorem law_writeTurns {g : GG} {lay : Lay} {M : Mem} {K : KK} {sa len b : Nat} {i : Int} {cn ck : Nat} (G : GoodA) (hL : LI g sa len b lay M) (hi : 0 ≤ i ∧ i + 6 ≤ (len : Int)) (hc : cn + 7 ≤ 601024 ∧ ck + 191 ≤ 7293034) (k : CK g sa len b i cn ck K) : X g m_L_law cn ck lay M 1767 [(5, vI i), (4, vR (b + 46)), (3, vR (b + 45)), (2, vR (b + 32)), (1, vR b), (0, vR sa)] [] K := by
  obtain ⟨T, A, u, H, tx, n, v, cm, pg, S, sv, hL⟩ := hL
  obtain ⟨⟨hg, hsb, hSc, htop, hMo, hO1, hO2⟩, hD, ⟨cT, cA, cR, cC, cP⟩, hR, hSv, ⟨hW, hO, hB⟩, hH, hX⟩ := id hL
  have hu : 0 ≤ (u : Int) ∧ (u : Int) ≤ 12 := ⟨by omega, by have := hH.1; omega⟩
  have hdg : g.2.1 ≤ b + 32 := by omega
  obtain ⟨gB, gC, gM, gE, gF⟩ := id G
  refine x_aload_n (pc := 1767) dL_law_1767 rfl rfl ?_
  refine x_callV (pc := 1768) [] rfl kL_213 dL_law_1768 hD.1 rfl rfl ⟨Nat.le_of_ble_eq_true rfl, Nat.le_of_ble_eq_true rfl⟩ (Nat.le_of_ble_eq_true rfl) (Nat.le_of_ble_eq_true rfl) ⟨by show cn + 0 ≤ 601024; omega, by show ck + 0 ≤ 7293034; omega⟩ ?_
  have h4 : X g m_X4_writeTurns 0 0 lay M 0 [(0, vR b)] [] (fun o l2 M2 => o = oI (((writeT T).length : Nat)) ∧ l2 = lay ∧ Frm (b + 28) (b + 30) M M2 ∧ Pg (writeT T) M2 (b + 28)) := sp_X4_writeTurns gB hD hg cT hW (fun M2 z1 z2 => ⟨rfl, rfl, z1, z2⟩)
  refine X.norm h4 (fun o l2 M2 z => ?_)
  obtain ⟨rfl, rfl, z1, z2⟩ := z
  refine ⟨_, rfl, ?_⟩
  have e2 : ∀ a j, ¬ (b + 28 ≤ a ∧ a < b + 30) → M2 a j = M a j := z1
  have hR2 := hR.fr (M2 := M2) (fun a j _ _ => e2 a j (by omega))
  obtain ⟨rT, rA, rU, rB, rW, rX, ⟨rE3, rE4⟩, rP, rS⟩ := id hR2
  refine x_aload_n (pc := 1771) dL_law_1771 rfl rfl ?_
  refine x_callV (pc := 1772) [] rfl kL_216 dL_law_1772 hMo.1 rfl rfl ⟨Nat.le_of_ble_eq_true rfl, Nat.le_of_ble_eq_true rfl⟩ (Nat.le_of_ble_eq_true rfl) (Nat.le_of_ble_eq_true rfl) ⟨by show cn + 0 + 0 ≤ 601024; omega, by show ck + 0 + 0 ≤ 7293034; omega⟩ ?_
  have h5 : X g m_X5_writeTurns 0 0 l2 M2 0 [(0, vR (b + 32))] [] (fun o l3 M3 => o = oI (((writeT T).length : Nat)) ∧ l3 = l2 ∧ (∀ a j, ¬ (a = b + 32 ∧ (j = 0 ∨ j = 25)) → ¬ a = b + 32 + 12 → M3 a j = M2 a j) ∧ Po (writeT T) M3 (b + 32)) := sp_X5_writeTurns hMo hdg rT hW rW (fun M3 z1 z2 => ⟨rfl, rfl, z1, z2⟩)
  refine X.norm h5 (fun o l3 M3 z => ?_)
  obtain ⟨rfl, rfl, z3, z4⟩ := z
  refine ⟨_, rfl, ?_⟩
  refine x_icmp_eq (pc := 1775) (t := 1890) dL_law_1775 (by decide) (nmI_rng _) (nmI_rng _) (fun _ => ?_) (fun z => absurd rfl z)
  refine k _ _ _ _ (by show cn + 0 + 0 ≤ cn + 7; omega) (by show ck + 0 + 0 ≤ ck + 191; omega) ?_
  have e3 : ∀ a j, ¬ (a = b + 32 ∧ (j = 0 ∨ j = 25)) → ¬ a = b + 32 + 12 → M3 a j = M2 a j := z3
  have e4 : ∀ a j, ¬ (b + 28 ≤ a ∧ a < b + 30) → ¬ (b + 32 ≤ a ∧ a < b + 45) → M3 a j = M a j := fun a j q1 q2 => (e3 a j (by omega) (by omega)).trans (e2 a j q1)
  refine ⟨T, A, u, H, tx, n, v, cm, writeT T, S, sv, ⟨hg, hsb, hSc, htop, hMo, hO1, hO2⟩, hD, ⟨cT.gen (fun a j _ _ => e4 a j (by omega) (by omega)), ⟨fun i hi => by rw [e4 _ _ (by omega) (by omega)]; exact cA.1 i hi, by rw [e4 _ _ (by omega) (by omega)]; exact cA.2⟩, ⟨cR.1, fun j q1 q2 => by rw [e4 _ _ (by omega) (by omega)]; exact cR.2.1 j q1 q2, fun i hi => by rw [e4 _ _ (by omega) (by omega)]; exact cR.2.2 i hi⟩, fun i hi => by rw [e4 _ _ (by omega) (by omega)]; exact cC i hi, ⟨by rw [e3 _ _ (by omega) (by omega)]; exact z2.1, z2.2.1, fun i hi => by rw [e3 _ _ (by omega) (by omega)]; exact z2.2.2 i hi⟩⟩, ⟨rT.fe (fun j => e3 _ j (by omega) (by omega)), rA.fr (fun j => e3 _ j (by omega) (by omega)), rU.fr (fun j => e3 _ j (by omega) (by omega)) (e3 _ _ (by omega) (by omega)), Bg.fr2 rB (fun j => e3 _ j (by omega) (by omega)), rW.fr (fun j => e3 _ j (by omega) (by omega)), rX.z (e3 _ _ (by omega) (by omega)) (fun j => e3 _ j (by omega) (by omega)), ⟨(e3 _ _ (by omega) (by omega)).trans rE3, (e3 _ _ (by omega) (by omega)).trans rE4⟩, z4, rS.fr (fun j => e3 _ j (by omega) (by omega)) (fun j => e3 _ j (by omega) (by omega))⟩, hSv.fr (Nat.le_refl _) (fun a j q1 q2 => e4 a j (by omega) (by omega)), ⟨hW, hO, hB⟩, hH, hX⟩
set_option maxRecDepth 100000 in
theorem law_load {g : GG} {lay : Lay} {M : Mem} {K : KK} {sa len b : Nat} {i : Int} {cn ck : Nat} (G : GoodA) (hL : LI g sa len b lay M) (hi : 0 ≤ i ∧ i + 6 ≤ (len : Int)) (hc : cn + 7 ≤ 601024 ∧ ck + 191 ≤ 7293034) (k : CK g sa len b i cn ck K) : X g m_L_law cn ck lay M 320 [(5, vI i), (4, vR (b + 46)), (3, vR (b + 45)), (2, vR (b + 32)), (1, vR b), (0, vR sa)] [] K := by
  obtain ⟨T, A, u, H, tx, n, v, cm, pg, S, sv, hL⟩ := hL
  obtain ⟨⟨hg, hsb, hSc, htop, hMo, hO1, hO2⟩, hD, ⟨cT, cA, cR, cC, cP⟩, hR, hSv, ⟨hW, hO, hB⟩, hH, hX⟩ := id hL
  have hu : 0 ≤ (u : Int) ∧ (u : Int) ≤ 12 := ⟨by omega, by have := hH.1; omega⟩
  have hdg : g.2.1 ≤ b + 32 := by omega
  obtain ⟨gB, gC, gM, gE, gF⟩ := id G
  refine x_aload_n (pc := 320) dL_law_320 rfl rfl ?_
  refine x_callV (pc := 321) [] rfl kL_108 dL_law_321 hD.1 rfl rfl ⟨Nat.le_of_ble_eq_true rfl, Nat.le_of_ble_eq_true rfl⟩ (Nat.le_of_ble_eq_true rfl) (Nat.le_of_ble_eq_true rfl) ⟨by show cn + 0 ≤ 601024; omega, by show ck + 0 ≤ 7293034; omega⟩ ?_
  have h4 : X g m_X4_load 0 0 lay M 0 [(0, vR b)] [] (fun o l2 M2 => o = oI (if (setupF tx n v tNew).1 = 1 then (setupF tx n v tNew).2.1 5 else -1) ∧ l2 = lay ∧ (∀ a j, ¬ (b ≤ a ∧ a < b + 15) → ¬ a = b + 25 → M2 a j = M a j) ∧ Rd tx 0 (fup (setupF tx n v tNew).2.1 2 0) M2 (b + 25) ∧ ((setupF tx n v tNew).1 = 1 → Ct (setupF tx n v tNew).2.2 M2 (b + 1) ∧ M2 b 8 = 0) ∧ (¬ (setupF tx n v tNew).1 = 1 → (∀ a j, b ≤ a → a < b + 8 → M2 a j = M a j))) := sp_X4_load hD hg cR (fun M2 z1 z2 z3 z4 => ⟨rfl, rfl, z1, z2, z3, z4⟩)
  refine X.norm h4 (fun o l2 M2 z => ?_)
  obtain ⟨rfl, rfl, z1, z2, z3, z4⟩ := z
  refine ⟨_, rfl, ?_⟩
  have hR2 := hR.fr (M2 := M2) (fun a j _ _ => z1 a j (by omega) (by omega))
  obtain ⟨rT, rA, rU, rB, rW, rX, ⟨rE3, rE4⟩, rP, rS⟩ := id hR2
  refine x_aload_n (pc := 324) dL_law_324 rfl rfl ?_
  refine x_callV (pc := 325) [] rfl kL_111 dL_law_325 hMo.1 rfl rfl ⟨Nat.le_of_ble_eq_true rfl, Nat.le_of_ble_eq_true rfl⟩ (Nat.le_of_ble_eq_true rfl) (Nat.le_of_ble_eq_true rfl) ⟨by show cn + 0 + 0 ≤ 601024; omega, by show ck + 0 + 0 ≤ 7293034; omega⟩ ?_
  have h5 : X g m_X5_load 0 0 l2 M2 0 [(0, vR (b + 32))] [] (fun o l3 M3 => o = oI (if (setupF tx n v tNew).1 = 1 then (setupF tx n v tNew).2.1 5 else -1) ∧ l3 = l2 ∧ (∀ a j, ¬ (a = b + 32 ∧ (j = 0 ∨ j = 4 ∨ j = 12 ∨ (13 ≤ j ∧ j ≤ 18) ∨ j = 22 ∨ j = 23)) → ¬ a = b + 32 + 1 → ¬ a = b + 32 + 2 → M3 a j = M2 a j) ∧ (M3 (b + 32) 0 = 0 ∧ M3 (b + 32) 12 = 0) ∧ (M3 (b + 32) 17 = (setupF tx n v tNew).2.1 3 ∧ M3 (b + 32) 18 = (setupF tx n v tNew).2.1 4) ∧ ((setupF tx n v tNew).1 = 1 → RowT (setupF tx n v tNew).2.2 (M3 (b + 32 + 1)) ∧ M3 (b + 32) 4 = 0) ∧ ((setupF tx n v tNew).1 ≠ 1 → RowT T (M3 (b + 32 + 1)) ∧ M3 (b + 32) 4 = M2 (b + 32) 4)) := sp_X5_load (v := v) hMo hdg rT hW rX hX rW (fun M3 z1 z2 z3 z4 z5 => ⟨rfl, rfl, z1, z2, z3, z4, z5⟩)
  refine X.norm h5 (fun o l3 M3 z => ?_)
  obtain ⟨rfl, rfl, w1, ⟨w21, w22⟩, w3, w4, w5⟩ := z
  refine ⟨_, rfl, ?_⟩
  refine x_icmp_eq (pc := 328) (t := 1890) dL_law_328 (by decide) (nmI_rng _) (nmI_rng _) (fun _ => ?_) (fun z => absurd rfl z)
  refine k _ _ _ _ (by show cn + 0 + 0 ≤ cn + 7; omega) (by show ck + 0 + 0 ≤ ck + 191; omega) ?_
  have e4 : ∀ a j, ¬ (b ≤ a ∧ a < b + 15) → ¬ a = b + 25 → ¬ (b + 32 ≤ a ∧ a < b + 45) → M3 a j = M a j := fun a j q1 q2 q3 => (w1 a j (by omega) (by omega) (by omega)).trans (z1 a j q1 q2)
  have e3 : ∀ a j, a < b + 32 → M3 a j = M2 a j := fun a j q => w1 a j (by omega) (by omega) (by omega)
  have rA3 := rA.fr (M' := M3) (fun j => w1 _ j (by omega) (by omega) (by omega))
  have rB3 := Bg.fr2 (M' := M3) rB (fun j => w1 _ j (by omega) (by omega) (by omega))
  have rW3 := rW.fr (M2 := M3) (fun j => w1 _ j (by omega) (by omega) (by omega))
  have rP3 := rP.fr (M2 := M3) (w1 _ _ (by omega) (by omega) (by omega)) (fun j => w1 _ j (by omega) (by omega) (by omega))
  have rS3 := rS.fr (M2 := M3) (fun j => w1 _ j (by omega) (by omega) (by omega)) (fun j => w1 _ j (by omega) (by omega) (by omega))
  have rX3 : Tx tx 0 M3 (b + 32) := ⟨⟨by omega, w22⟩, fun i hi => absurd hi (Nat.not_lt_zero i)⟩
  have cR3 : Rd tx 0 (fup (setupF tx n v tNew).2.1 2 0) M3 (b + 25) := ⟨z2.1, fun j q1 q2 => by rw [e3 _ _ (by omega)]; exact z2.2.1 j q1 q2, fun i hi => absurd hi (Nat.not_lt_zero i)⟩
  have cC3 : Cm cm M3 (b + 25) := fun i hi => by rw [e4 _ _ (by omega) (by omega) (by omega)]; exact cC i hi
  have cP3 : Pg pg M3 (b + 28) := ⟨by rw [e4 _ _ (by omega) (by omega) (by omega)]; exact cP.1, cP.2.1, fun i hi => by rw [e4 _ _ (by omega) (by omega) (by omega)]; exact cP.2.2 i hi⟩
  have cA3 : ∀ i, i < 9 → M3 (b + 30) i = A i := fun i hi => by rw [e4 _ _ (by omega) (by omega) (by omega)]; exact cA.1 i hi
  have hSv3 := hSv.fr (M2 := M3) (Nat.le_refl _) (fun a j q1 q2 => e4 a j (by omega) (by omega) (by omega))
  have hX3 : TxR tx 0 := fun i hi => absurd hi (Nat.not_lt_zero i)
  by_cases g1 : (setupF tx n v tNew).1 = 1
  · obtain ⟨y1, y2⟩ := z3 g1
    obtain ⟨y3, y4⟩ := w4 g1
    exact ⟨(setupF tx n v tNew).2.2, A, 0, H, tx, 0, fup (setupF tx n v tNew).2.1 2 0, cm, pg, S, sv, ⟨hg, hsb, hSc, htop, hMo, hO1, hO2⟩, hD, ⟨y1.gen (fun a j q1 q2 => e3 a j (by omega)), ⟨cA3, by rw [e3 _ _ (by omega)]; exact y2⟩, cR3, cC3, cP3⟩, ⟨y3, rA3, ⟨⟨y4, by omega⟩, fun i hi => absurd hi (Nat.not_lt_zero i)⟩, rB3, rW3, rX3, w3, rP3, rS3⟩, hSv3, setup_inv (tokF_ok tx n _ (by show 0 ≤ (0 : Int) ∧ (0 : Int) ≤ n; omega)), Hs.none, hX3⟩
  · have y1 := z4 g1
    obtain ⟨y3, y4⟩ := w5 g1
    have ec : ∀ a j, b ≤ a → a < b + 8 → M3 a j = M a j := fun a j q1 q2 => (e3 a j (by omega)).trans (y1 a j q1 q2)
    exact ⟨T, A, u, H, tx, 0, fup (setupF tx n v tNew).2.1 2 0, cm, pg, S, sv, ⟨hg, hsb, hSc, htop, hMo, hO1, hO2⟩, hD, ⟨cT.gen (fun a j q1 q2 => ec a j (by omega) (by omega)), ⟨cA3, by rw [ec _ _ (by omega) (by omega)]; exact cA.2⟩, cR3, cC3, cP3⟩, ⟨y3, rA3, rU.fr (fun j => w1 _ j (by omega) (by omega) (by omega)) y4, rB3, rW3, rX3, w3, rP3, rS3⟩, hSv3, ⟨hW, hO, hB⟩, hH, hX3⟩
theorem play_hs {tx v cm A : Nat → Int} {n u : Nat} {T : CT} {H : Nat → CT} (hI : InvT T) (hH : Hs H u T) : InvT (playF (scriptF tx n (tS T 0) v cm) T A u).2.1 ∧ Hs (playH (scriptF tx n (tS T 0) v cm) T H u).1 (playH (scriptF tx n (tS T 0) v cm) T H u).2 (playF (scriptF tx n (tS T 0) v cm) T A u).2.1 ∧ ((playH (scriptF tx n (tS T 0) v cm) T H u).2 : Int) = (playF (scriptF tx n (tS T 0) v cm) T A u).2.2.2 := by
  have hcm := @script_cm tx n (tS T 0) v cm
  generalize scriptF tx n (tS T 0) v cm = U at *
  unfold playF playH
  by_cases z : U.1 = 1
  · rw [if_neg (fun q => q z), if_neg (fun q => q z)]
    exact loop_hs _ 0 T A H u hI hH (fun j _ hj => (hcm z).2 j (by omega))
  · rw [if_pos z, if_pos z]
    exact ⟨hI, hH, rfl⟩
set_option maxRecDepth 100000 in
theorem law_play {g : GG} {lay : Lay} {M : Mem} {K : KK} {sa len b : Nat} {i : Int} {cn ck : Nat} (G : GoodA) (hL : LI g sa len b lay M) (hi : 0 ≤ i ∧ i + 6 ≤ (len : Int)) (hc : cn + 7 ≤ 601024 ∧ ck + 191 ≤ 7293034) (k : CK g sa len b i cn ck K) : X g m_L_law cn ck lay M 333 [(5, vI i), (4, vR (b + 46)), (3, vR (b + 45)), (2, vR (b + 32)), (1, vR b), (0, vR sa)] [] K := by
  obtain ⟨T, A, u, H, tx, n, v, cm, pg, S, sv, hL⟩ := hL
  obtain ⟨⟨hg, hsb, hSc, htop, hMo, hO1, hO2⟩, hD, ⟨cT, cA, cR, cC, cP⟩, hR, hSv, ⟨hW, hO, hB⟩, hH, hX⟩ := id hL
  have hu : 0 ≤ (u : Int) ∧ (u : Int) ≤ 12 := ⟨by omega, by have := hH.1; omega⟩
  have hdg : g.2.1 ≤ b + 32 := by omega
  obtain ⟨gB, gC, gM, gE, gF⟩ := id G
  refine x_aload_n (pc := 333) dL_law_333 rfl rfl ?_
  refine x_callV (pc := 334) [] rfl kL_112 dL_law_334 hD.1 rfl rfl ⟨Nat.le_of_ble_eq_true rfl, Nat.le_of_ble_eq_true rfl⟩ (Nat.le_of_ble_eq_true rfl) (Nat.le_of_ble_eq_true rfl) ⟨by show cn + 0 ≤ 601024; omega, by show ck + 0 ≤ 7293034; omega⟩ ?_
  have h4 : X g m_X4_play 0 0 lay M 0 [(0, vR b)] [] (fun o l2 M2 => o = oI ((playF (scriptF tx n (tS T 0) v cm) T A u).1) ∧ l2 = lay ∧ Fpl b M M2 ∧ Rd tx 0 (fup (scriptF tx n (tS T 0) v cm).2.1 2 0) M2 (b + 25) ∧ Cm (scriptF tx n (tS T 0) v cm).2.2 M2 (b + 25) ∧ Ct (playF (scriptF tx n (tS T 0) v cm) T A u).2.1 M2 (b + 1) ∧ Dh (playF (scriptF tx n (tS T 0) v cm) T A u).2.2.1 (playF (scriptF tx n (tS T 0) v cm) T A u).2.2.2 M2 b) := sp_X4_play gB hD hg cT hW cA hu hO cR cC (fun M2 z1 z2 z3 z4 z5 => ⟨rfl, rfl, z1, z2, z3, z4, z5⟩)
  refine X.norm h4 (fun o l2 M2 z => ?_)
  obtain ⟨rfl, rfl, z1, z2, z3, z4, z5⟩ := z
  refine ⟨_, rfl, ?_⟩
  have hR2 := hR.fr (M2 := M2) (fun a j _ _ => z1 a j (by omega) (by omega) (by omega))
  obtain ⟨rT, rA, rU, rB, rW, rX, ⟨rE3, rE4⟩, rP, rS⟩ := id hR2
  refine x_aload_n (pc := 337) dL_law_337 rfl rfl ?_
  refine x_callV (pc := 338) [] rfl kL_115 dL_law_338 hMo.1 rfl rfl ⟨Nat.le_of_ble_eq_true rfl, Nat.le_of_ble_eq_true rfl⟩ (Nat.le_of_ble_eq_true rfl) (Nat.le_of_ble_eq_true rfl) ⟨by show cn + 0 + 0 ≤ 601024; omega, by show ck + 0 + 0 ≤ 7293034; omega⟩ ?_
  have h5 : X g m_X5_play 0 0 l2 M2 0 [(0, vR (b + 32))] [] (fun o l3 M3 => o = oI ((playF (scriptF tx n (tS T 0) v cm) T A u).1) ∧ l3 = l2 ∧ FrY (b + 32) M2 M3 ∧ (M3 (b + 32) 0 = 0 ∧ M3 (b + 32) 12 = 0) ∧ (M3 (b + 32) 17 = (scriptF tx n (tS T 0) v cm).2.1 3 ∧ M3 (b + 32) 18 = (scriptF tx n (tS T 0) v cm).2.1 4) ∧ RowT (playF (scriptF tx n (tS T 0) v cm) T A u).2.1 (M3 (b + 32 + 1)) ∧ Acm (playF (scriptF tx n (tS T 0) v cm) T A u).2.2.1 M3 (b + 32) ∧ Us (playH (scriptF tx n (tS T 0) v cm) T H u).1 (playH (scriptF tx n (tS T 0) v cm) T H u).2 M3 (b + 32) ∧ (∃ N, Bg N M3 (b + 32))) := sp_X5_play (v := v) (cm := cm) (ui := (u : Int)) hMo hdg rT hW rU rA rB gM gE hO rX hX rW (fun M3 z1 z2 z3 z4 z5 z6 z7 => ⟨rfl, rfl, z1, z2, z3, z4, z5, z6, z7⟩)
  refine X.norm h5 (fun o l3 M3 z => ?_)
  obtain ⟨rfl, rfl, w1, ⟨w21, w22⟩, w3, w4, w5, w6, w7⟩ := z
  refine ⟨_, rfl, ?_⟩
  refine x_icmp_eq (pc := 341) (t := 1890) dL_law_341 (by decide) (nmI_rng _) (nmI_rng _) (fun _ => ?_) (fun z => absurd rfl z)
  refine k _ _ _ _ (by show cn + 0 + 0 ≤ cn + 7; omega) (by show ck + 0 + 0 ≤ ck + 191; omega) ?_
  have w9 : ∀ a j, ¬ (a = b + 32 ∧ (j = 0 ∨ j = 4 ∨ j = 9 ∨ j = 12 ∨ (13 ≤ j ∧ j ≤ 18) ∨ j = 20)) → ¬ a = b + 32 + 1 → ¬ a = b + 32 + 3 → ¬ a = b + 32 + 6 → ¬ a = b + 32 + 7 → ¬ a = b + 32 + 8 → ¬ a = b + 32 + 11 → M3 a j = M2 a j := w1
  have e3 : ∀ a j, ¬ (b + 32 ≤ a ∧ a < b + 45) → M3 a j = M2 a j := fun a j q => w9 a j (by omega) (by omega) (by omega) (by omega) (by omega) (by omega) (by omega)
  have e4 : ∀ a j, ¬ (b ≤ a ∧ a < b + 8) → ¬ (b + 16 ≤ a ∧ a < b + 28) → ¬ a = b + 30 → ¬ (b + 32 ≤ a ∧ a < b + 45) → M3 a j = M a j := fun a j q1 q2 q3 q4 => (e3 a j q4).trans (z1 a j q1 q2 q3)
  obtain ⟨i1, i2, i3⟩ := play_hs (tx := tx) (n := n) (v := v) (cm := cm) (A := A) ⟨hW, hO, hB⟩ hH
  exact ⟨(playF (scriptF tx n (tS T 0) v cm) T A u).2.1, (playF (scriptF tx n (tS T 0) v cm) T A u).2.2.1, (playH (scriptF tx n (tS T 0) v cm) T H u).2, (playH (scriptF tx n (tS T 0) v cm) T H u).1, tx, 0, fup (scriptF tx n (tS T 0) v cm).2.1 2 0, (scriptF tx n (tS T 0) v cm).2.2, pg, S, sv, ⟨hg, hsb, hSc, htop, hMo, hO1, hO2⟩, hD, ⟨z4.gen (fun a j q1 q2 => e3 a j (by omega)), ⟨fun i hi => by rw [e3 _ _ (by omega)]; exact z5.1 i hi, by rw [e3 _ _ (by omega), i3]; exact z5.2⟩, ⟨z2.1, fun j q1 q2 => by rw [e3 _ _ (by omega)]; exact z2.2.1 j q1 q2, fun i hi => absurd hi (Nat.not_lt_zero i)⟩, fun i hi => by rw [e3 _ _ (by omega)]; exact z3 i hi, ⟨by rw [e4 _ _ (by omega) (by omega) (by omega) (by omega)]; exact cP.1, cP.2.1, fun i hi => by rw [e4 _ _ (by omega) (by omega) (by omega) (by omega)]; exact cP.2.2 i hi⟩⟩, ⟨w4, w5, w6, w7, rW.fr (fun j => w9 _ j (by omega) (by omega) (by omega) (by omega) (by omega) (by omega) (by omega)), ⟨⟨by omega, w22⟩, fun i hi => absurd hi (Nat.not_lt_zero i)⟩, w3, rP.fr (w9 _ _ (by omega) (by omega) (by omega) (by omega) (by omega) (by omega) (by omega)) (fun j => w9 _ j (by omega) (by omega) (by omega) (by omega) (by omega) (by omega) (by omega)), rS.fr (fun j => w9 _ j (by omega) (by omega) (by omega) (by omega) (by omega) (by omega) (by omega)) (fun j => w9 _ j (by omega) (by omega) (by omega) (by omega) (by omega) (by omega) (by omega))⟩, hSv.fr (Nat.le_refl _) (fun a j q1 q2 => e4 a j (by omega) (by omega) (by omega) (by omega)), i1, i2, fun i hi => absurd hi (Nat.not_lt_zero i)⟩
/-- behind an act that both have done -/
theorem LV.act {T T2 : CT} {A : Nat → Int} {u : Nat} {H : Nat → CT} {tx : Nat → Int} {n : Nat} {v cm : Nat → Int} {pg : List Int} {S : Nat → Option CT} {sv : Nat → Option Nat} {g : GG} {sa len b : Nat} {lay l2 : Lay} {M M1 M2 M3 : Mem} {w : Int} (h : LV T A u H tx n v cm pg S sv g sa len b lay M) (e1 : l2.1 = lay.1) (e2 : lay.2 ≤ l2.2) (hS : Act b M M1) (ho : ∀ a j, a ≠ b + 45 → M2 a j = M1 a j) (hQ : FrX (b + 32) M2 M3) (hC : Ct T2 M1 (b + 1)) (hD : Dh (accF A w) (undF u w) M1 b) (hT : RowT T2 (M3 (b + 32 + 1))) (hA : Acm (accF A w) M3 (b + 32)) (hU : Us (if w = 0 then pushH H u T else H) (if w = 0 then pushU u else u) M3 (b + 32)) (hB : ∃ N, Bg N M3 (b + 32)) (hI : InvT T2) (hH : Hs (if w = 0 then pushH H u T else H) (if w = 0 then pushU u else u) T2) : LI g sa len b l2 M3 := by
  obtain ⟨h1, h2, ⟨cT, cA, cR, cC, cP⟩, ⟨rT, rA, rU, rB, rW, rX, ⟨rE3, rE4⟩, rP, rS⟩, h5, -, hH0, hX⟩ := h
  have q : ∀ a j, ¬ (a = b + 32 ∧ (j = 0 ∨ j = 4 ∨ j = 9)) → ¬ a = b + 32 + 1 → ¬ a = b + 32 + 2 → ¬ a = b + 32 + 3 → ¬ a = b + 32 + 6 → ¬ a = b + 32 + 7 → ¬ a = b + 32 + 8 → M3 a j = M2 a j := hQ
  have e3 : ∀ a j, ¬ (b + 32 ≤ a ∧ a < b + 46) → M3 a j = M1 a j := fun a j z => (q a j (by omega) (by omega) (by omega) (by omega) (by omega) (by omega) (by omega)).trans (ho a j (by omega))
  have e4 : ∀ a j, ¬ (b ≤ a ∧ a < b + 8) → ¬ (b + 16 ≤ a ∧ a < b + 25) → ¬ a = b + 30 → ¬ (b + 32 ≤ a ∧ a < b + 46) → M3 a j = M a j := fun a j q1 q2 q3 q4 => (e3 a j q4).trans (hS a j q1 q2 q3)
  have eu : undF (u : Int) w = ((if w = 0 then pushU u else u : Nat) : Int) := by
    have hu := hH0.1
    unfold undF pushU
    by_cases z : w = 0
    · by_cases e : u = 12
      · rw [if_neg (by omega), if_pos z, if_pos e]
        omega
      · rw [if_pos ⟨z, by omega⟩, if_pos z, if_neg e]
        omega
    · rw [if_neg (fun y => z y.1), if_neg z]
  have r : ∀ a j, a = b + 32 + 4 ∨ a = b + 32 + 5 ∨ a = b + 32 + 9 ∨ a = b + 32 + 10 ∨ a = b + 32 + 12 → M3 a j = M a j := fun a j z => (q a j (by omega) (by omega) (by omega) (by omega) (by omega) (by omega) (by omega)).trans ((ho a j (by omega)).trans (hS a j (by omega) (by omega) (by omega)))
  have r0 : ∀ j, j = 12 ∨ j = 17 ∨ j = 18 ∨ j = 25 → M3 (b + 32) j = M (b + 32) j := fun j z => (q _ j (by omega) (by omega) (by omega) (by omega) (by omega) (by omega) (by omega)).trans ((ho _ j (by omega)).trans (hS _ j (by omega) (by omega) (by omega)))
  exact ⟨T2, accF A w, _, _, tx, n, v, cm, pg, S, sv, h1.up e1 e2, h2.up e1, ⟨hC.gen (fun a j q1 q2 => e3 a j (by omega)), ⟨fun i hi => by rw [e3 _ _ (by omega)]; exact hD.1 i hi, by rw [e3 _ _ (by omega), ← eu]; exact hD.2⟩, ⟨cR.1, fun j q1 q2 => by rw [e4 _ _ (by omega) (by omega) (by omega) (by omega)]; exact cR.2.1 j q1 q2, fun i hi => by rw [e4 _ _ (by omega) (by omega) (by omega) (by omega)]; exact cR.2.2 i hi⟩, fun i hi => by rw [e4 _ _ (by omega) (by omega) (by omega) (by omega)]; exact cC i hi, ⟨by rw [e4 _ _ (by omega) (by omega) (by omega) (by omega)]; exact cP.1, cP.2.1, fun i hi => by rw [e4 _ _ (by omega) (by omega) (by omega) (by omega)]; exact cP.2.2 i hi⟩⟩, ⟨hT, hA, hU, hB, rW.fr (fun j => r _ j (by omega)), rX.z (r0 _ (by omega)) (fun j => r _ j (by omega)), ⟨(r0 _ (by omega)).trans rE3, (r0 _ (by omega)).trans rE4⟩, rP.fr (r0 _ (by omega)) (fun j => r _ j (by omega)), rS.fr (fun j => r _ j (by omega)) (fun j => r _ j (by omega))⟩, h5.fr e2 (fun a j q1 q2 => e4 a j (by omega) (by omega) (by omega) (by omega)), hI, hH, hX⟩
set_option maxRecDepth 100000 in
theorem law_pass {g : GG} {lay : Lay} {M : Mem} {K : KK} {sa len b : Nat} {i : Int} {cn ck : Nat} (G : GoodA) (hL : LI g sa len b lay M) (hi : 0 ≤ i ∧ i + 6 ≤ (len : Int)) (hc : cn + 7 ≤ 601024 ∧ ck + 191 ≤ 7293034) (k : CK g sa len b i cn ck K) : X g m_L_law cn ck lay M 901 [(5, vI i), (4, vR (b + 46)), (3, vR (b + 45)), (2, vR (b + 32)), (1, vR b), (0, vR sa)] [] K := by
  obtain ⟨T, A, u, H, tx, n, v, cm, pg, S, sv, hL⟩ := hL
  obtain ⟨⟨hg, hsb, hSc, htop, hMo, hO1, hO2⟩, hD, ⟨cT, cA, cR, cC, cP⟩, hR, hSv, ⟨hW, hO, hB⟩, hH, hX⟩ := id hL
  have hu : 0 ≤ (u : Int) ∧ (u : Int) ≤ 12 := ⟨by omega, by have := hH.1; omega⟩
  have hdg : g.2.1 ≤ b + 32 := by omega
  obtain ⟨gB, gC, gM, gE, gF⟩ := id G
  refine x_aload_n (pc := 901) dL_law_901 rfl rfl ?_
  refine x_callV (pc := 902) [] rfl kL_152 dL_law_902 hD.1 rfl rfl ⟨Nat.le_of_ble_eq_true rfl, Nat.le_of_ble_eq_true rfl⟩ (Nat.le_of_ble_eq_true rfl) (Nat.le_of_ble_eq_true rfl) ⟨by show cn + 0 ≤ 601024; omega, by show ck + 0 ≤ 7293034; omega⟩ ?_
  have h4 : X g m_X4_pass 0 0 lay M 0 [(0, vR b)] [] (fun o l2 M2 => o = oI (if tO T = 1 then 1 else 0 : Int) ∧ l2 = lay ∧ Act b M M2 ∧ Ct (actPass T) M2 (b + 1) ∧ Dh (accF A (if tO T = 1 then 1 else 0)) (undF u (if tO T = 1 then 1 else 0)) M2 b) := sp_X4_pass gB hD hg cT hW cA hu hO (fun M2 z1 z2 z3 => ⟨rfl, rfl, z1, z2, z3⟩)
  refine X.norm h4 (fun o l2 M2 z => ?_)
  obtain ⟨rfl, rfl, z1, z2, z3⟩ := z
  refine ⟨_, rfl, ?_⟩
  have hR2 := hR.fr (M2 := M2) (fun a j _ _ => z1 a j (by omega) (by omega) (by omega))
  obtain ⟨rT, rA, rU, rB, rW, rX, ⟨rE3, rE4⟩, rP, rS⟩ := id hR2
  refine x_aload_n (pc := 905) dL_law_905 rfl rfl ?_
  refine x_callV (pc := 906) [] rfl kL_155 dL_law_906 hMo.1 rfl rfl ⟨Nat.le_of_ble_eq_true rfl, Nat.le_of_ble_eq_true rfl⟩ (Nat.le_of_ble_eq_true rfl) (Nat.le_of_ble_eq_true rfl) ⟨by show cn + 0 + 0 ≤ 601024; omega, by show ck + 0 + 0 ≤ 7293034; omega⟩ ?_
  have h5 : X g m_X5_pass 0 0 l2 M2 0 [(0, vR (b + 32))] [] (fun o l3 M3 => o = oI (if tO T = 1 then 1 else 0 : Int) ∧ l3 = l2 ∧ FrX (b + 32) M2 M3 ∧ RowT (actPass T) (M3 (b + 32 + 1)) ∧ Acm (accF A (if tO T = 1 then 1 else 0 : Int)) M3 (b + 32) ∧ Us (if (if tO T = 1 then 1 else 0 : Int) = 0 then pushH H u T else H) (if (if tO T = 1 then 1 else 0 : Int) = 0 then pushU u else u) M3 (b + 32) ∧ (∃ N, Bg N M3 (b + 32))) := sp_X5_pass hMo hdg rT hW rB gM gE rU rA hO (fun _ M3 z1 _ z2 z3 z4 z5 => ⟨rfl, rfl, z1, z2, z3, z4, z5⟩)
  refine X.norm h5 (fun o l3 M3 z => ?_)
  obtain ⟨rfl, rfl, w1, w2, w3, w4, w5⟩ := z
  refine ⟨_, rfl, ?_⟩
  refine x_icmp_eq (pc := 909) (t := 1890) dL_law_909 (by decide) (nmI_rng _) (nmI_rng _) (fun _ => ?_) (fun z => absurd rfl z)
  refine k _ _ _ _ (by show cn + 0 + 0 ≤ cn + 7; omega) (by show ck + 0 + 0 ≤ ck + 191; omega) ?_
  have hs := actPass_hs ⟨hW, hO, hB⟩ hH
  exact hL.act rfl (Nat.le_refl _) z1 (fun _ _ _ => rfl) w1 z2 z3 w2 w3 w4 w5 hs.1 hs.2
