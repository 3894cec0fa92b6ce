/-! The law's calls that tell something. -/
set_option maxRecDepth 100000 in
theorem law_winner {g : GG} {lay : Lay} {M : Mem} {K : KK} {sa len b : Nat} {i : Int} {cn ck : Nat} (G : GoodA) (hL : LI g sa len b lay M) (hi : 0 ≤ i ∧ i + 6 ≤ (len : Int)) (hc : cn + 7 ≤ 601024 ∧ ck + 191 ≤ 7293034) (k : CK g sa len b i cn ck K) : X g m_L_law cn ck lay M 644 [(5, vI i), (4, vR (b + 46)), (3, vR (b + 45)), (2, vR (b + 32)), (1, vR b), (0, vR sa)] [] K := by
  obtain ⟨T, A, u, H, tx, n, v, cm, pg, S, sv, hL⟩ := hL
  obtain ⟨⟨hg, hsb, hSc, htop, hMo, hO1, hO2⟩, hD, ⟨cT, cA, cR, cC, cP⟩, hR, hSv, ⟨hW, hO, hB⟩, hH, hX⟩ := id hL
  have hu : 0 ≤ (u : Int) ∧ (u : Int) ≤ 12 := ⟨by omega, by have := hH.1; omega⟩
  have hdg : g.2.1 ≤ b + 32 := by omega
  obtain ⟨gB, gC, gM, gE, gF⟩ := id G
  refine x_aload_n (pc := 644) dL_law_644 rfl rfl ?_
  refine x_callV (pc := 645) [] rfl kL_138 dL_law_645 hD.1 rfl rfl ⟨Nat.le_of_ble_eq_true rfl, Nat.le_of_ble_eq_true rfl⟩ (Nat.le_of_ble_eq_true rfl) (Nat.le_of_ble_eq_true rfl) ⟨by show cn + 0 ≤ 601024; omega, by show ck + 0 ≤ 7293034; omega⟩ ?_
  have h4 : X g m_X4_winner 0 0 lay M 0 [(0, vR b)] [] (fun o l2 M2 => o = oI (winF T) ∧ l2.1 = lay.1 ∧ lay.2 ≤ l2.2 ∧ Scr b M M2) := sp_X4_winner gB hD hg cT hW (fun M2 n2 hn hS => ⟨rfl, rfl, hn, hS⟩)
  refine X.norm h4 (fun o l2 M2 z => ?_)
  obtain ⟨rfl, q1, q2, q3⟩ := z
  refine ⟨_, rfl, ?_⟩
  have hL2 := hL.c (M2 := M2) q1 q2 q3 (fun _ _ _ _ => rfl)
  obtain ⟨⟨-, -, hSc2, -, hMo2, hO12, hO22⟩, -, -, ⟨rT, rA, rU, rB, rW, rX, rE, rP, rS⟩, -⟩ := id hL2
  refine x_aload_n (pc := 648) dL_law_648 rfl rfl ?_
  refine x_callV (pc := 649) [] rfl kL_141 dL_law_649 hMo2.1 rfl rfl ⟨Nat.le_of_ble_eq_true rfl, Nat.le_of_ble_eq_true rfl⟩ (Nat.le_of_ble_eq_true rfl) (Nat.le_of_ble_eq_true rfl) ⟨by show cn + 0 + 0 ≤ 601024; omega, by show ck + 0 + 0 ≤ 7293034; omega⟩ ?_
  have h5 : X g m_X5_winner 0 0 l2 M2 0 [(0, vR (b + 32))] [] (fun o l3 M3 => o = oI (winF T) ∧ l3 = l2 ∧ FrQ (b + 32) M2 M3 ∧ RowT T (M3 (b + 32 + 1)) ∧ (∃ N, Bg N M3 (b + 32))) := sp_X5_winner hMo2 hdg rT hW rB gM gE (fun M3 v5 z1 z2 z3 z4 z5 => ⟨by rw [z5 _ rfl], rfl, z1, z2, z3⟩)
  refine X.norm h5 (fun o l3 M3 z => ?_)
  obtain ⟨rfl, rfl, z1, z2, z3⟩ := z
  refine ⟨_, rfl, ?_⟩
  have hL3 := hL2.m z1 z2 z3
  refine x_icmp_eq (pc := 652) (t := 1890) dL_law_652 (by decide) (nmI_rng _) (nmI_rng _) (fun _ => ?_) (fun z => absurd rfl z)
  exact k _ _ _ _ (by show cn + 0 + 0 ≤ cn + 7; omega) (by show ck + 0 + 0 ≤ ck + 191; omega) ⟨T, A, u, H, tx, n, v, cm, pg, S, sv, hL3⟩
set_option maxRecDepth 100000 in
theorem law_best {g : GG} {lay : Lay} {M : Mem} {K : KK} {sa len b : Nat} {i : Int} {cn ck : Nat} (G : GoodA) (hL : LI g sa len b lay M) (hi : 0 ≤ i ∧ i + 6 ≤ (len : Int)) (hc : cn + 7 ≤ 601024 ∧ ck + 191 ≤ 7293034) (k : CK g sa len b i cn ck K) : X g m_L_law cn ck lay M 982 [(5, vI i), (4, vR (b + 46)), (3, vR (b + 45)), (2, vR (b + 32)), (1, vR b), (0, vR sa)] [] K := by
  obtain ⟨T, A, u, H, tx, n, v, cm, pg, S, sv, hL⟩ := hL
  obtain ⟨⟨hg, hsb, hSc, htop, hMo, hO1, hO2⟩, hD, ⟨cT, cA, cR, cC, cP⟩, hR, hSv, ⟨hW, hO, hB⟩, hH, hX⟩ := id hL
  have hu : 0 ≤ (u : Int) ∧ (u : Int) ≤ 12 := ⟨by omega, by have := hH.1; omega⟩
  have hdg : g.2.1 ≤ b + 32 := by omega
  obtain ⟨gB, gC, gM, gE, gF⟩ := id G
  refine x_aload_n (pc := 982) dL_law_982 rfl rfl ?_
  refine x_callV (pc := 983) [] rfl kL_159 dL_law_983 hD.1 rfl rfl ⟨Nat.le_of_ble_eq_true rfl, Nat.le_of_ble_eq_true rfl⟩ (Nat.le_of_ble_eq_true rfl) (Nat.le_of_ble_eq_true rfl) ⟨by show cn + 0 ≤ 601024; omega, by show ck + 0 ≤ 7293034; omega⟩ ?_
  have h4 : X g m_X4_best 0 0 lay M 0 [(0, vR b)] [] (fun o l2 M2 => o = oI (bestF T) ∧ l2.1 = lay.1 ∧ lay.2 ≤ l2.2 ∧ Scr b M M2) := sp_X4_best gB hD hg cT hW (fun M2 n2 hn hS => ⟨rfl, rfl, hn, hS⟩)
  refine X.norm h4 (fun o l2 M2 z => ?_)
  obtain ⟨rfl, q1, q2, q3⟩ := z
  refine ⟨_, rfl, ?_⟩
  have hL2 := hL.c (M2 := M2) q1 q2 q3 (fun _ _ _ _ => rfl)
  obtain ⟨⟨-, -, hSc2, -, hMo2, hO12, hO22⟩, -, -, ⟨rT, rA, rU, rB, rW, rX, rE, rP, rS⟩, -⟩ := id hL2
  refine x_aload_n (pc := 986) dL_law_986 rfl rfl ?_
  refine x_callV (pc := 987) [] rfl kL_162 dL_law_987 hMo2.1 rfl rfl ⟨Nat.le_of_ble_eq_true rfl, Nat.le_of_ble_eq_true rfl⟩ (Nat.le_of_ble_eq_true rfl) (Nat.le_of_ble_eq_true rfl) ⟨by show cn + 0 + 0 ≤ 601024; omega, by show ck + 0 + 0 ≤ 7293034; omega⟩ ?_
  have h5 : X g m_X5_best 0 0 l2 M2 0 [(0, vR (b + 32))] [] (fun o l3 M3 => o = oI (bestF T) ∧ l3 = l2 ∧ FrQ (b + 32) M2 M3 ∧ RowT T (M3 (b + 32 + 1)) ∧ (∃ N, Bg N M3 (b + 32))) := sp_X5_best hMo2 hdg rT hW rB gM gE hO hB (fun M3 v5 z1 z2 z3 z4 z5 => ⟨by rw [z5 _ rfl], rfl, z1, z2, z3⟩)
  refine X.norm h5 (fun o l3 M3 z => ?_)
  obtain ⟨rfl, rfl, z1, z2, z3⟩ := z
  refine ⟨_, rfl, ?_⟩
  have hL3 := hL2.m z1 z2 z3
  refine x_icmp_eq (pc := 990) (t := 1890) dL_law_990 (by decide) (nmI_rng _) (nmI_rng _) (fun _ => ?_) (fun z => absurd rfl z)
  exact k _ _ _ _ (by show cn + 0 + 0 ≤ cn + 7; omega) (by show ck + 0 + 0 ≤ ck + 191; omega) ⟨T, A, u, H, tx, n, v, cm, pg, S, sv, hL3⟩
set_option maxRecDepth 100000 in
theorem law_degree {g : GG} {lay : Lay} {M : Mem} {K : KK} {sa len b : Nat} {i : Int} {cn ck : Nat} (G : GoodA) (hL : LI g sa len b lay M) (hi : 0 ≤ i ∧ i + 6 ≤ (len : Int)) (hc : cn + 7 ≤ 601024 ∧ ck + 191 ≤ 7293034) (k : CK g sa len b i cn ck K) : X g m_L_law cn ck lay M 1075 [(5, vI i), (4, vR (b + 46)), (3, vR (b + 45)), (2, vR (b + 32)), (1, vR b), (0, vR sa)] [] K := by
  obtain ⟨T, A, u, H, tx, n, v, cm, pg, S, sv, hL⟩ := hL
  obtain ⟨⟨hg, hsb, hSc, htop, hMo, hO1, hO2⟩, hD, ⟨cT, cA, cR, cC, cP⟩, hR, hSv, ⟨hW, hO, hB⟩, hH, hX⟩ := id hL
  have hu : 0 ≤ (u : Int) ∧ (u : Int) ≤ 12 := ⟨by omega, by have := hH.1; omega⟩
  have hdg : g.2.1 ≤ b + 32 := by omega
  obtain ⟨gB, gC, gM, gE, gF⟩ := id G
  refine x_aload_n (pc := 1075) dL_law_1075 rfl rfl ?_
  refine x_callV (pc := 1076) [] rfl kL_166 dL_law_1076 hD.1 rfl rfl ⟨Nat.le_of_ble_eq_true rfl, Nat.le_of_ble_eq_true rfl⟩ (Nat.le_of_ble_eq_true rfl) (Nat.le_of_ble_eq_true rfl) ⟨by show cn + 0 ≤ 601024; omega, by show ck + 0 ≤ 7293034; omega⟩ ?_
  have h4 : X g m_X4_degree 0 0 lay M 0 [(0, vR b)] [] (fun o l2 M2 => o = oI (degF (tP T) 5) ∧ l2.1 = lay.1 ∧ lay.2 ≤ l2.2 ∧ Scr b M M2) := sp_X4_degree gB hD hg cT hW (fun M2 n2 hn hS => ⟨rfl, rfl, hn, hS⟩)
  refine X.norm h4 (fun o l2 M2 z => ?_)
  obtain ⟨rfl, q1, q2, q3⟩ := z
  refine ⟨_, rfl, ?_⟩
  have hL2 := hL.c (M2 := M2) q1 q2 q3 (fun _ _ _ _ => rfl)
  obtain ⟨⟨-, -, hSc2, -, hMo2, hO12, hO22⟩, -, -, ⟨rT, rA, rU, rB, rW, rX, rE, rP, rS⟩, -⟩ := id hL2
  refine x_aload_n (pc := 1079) dL_law_1079 rfl rfl ?_
  refine x_callV (pc := 1080) [] rfl kL_169 dL_law_1080 hMo2.1 rfl rfl ⟨Nat.le_of_ble_eq_true rfl, Nat.le_of_ble_eq_true rfl⟩ (Nat.le_of_ble_eq_true rfl) (Nat.le_of_ble_eq_true rfl) ⟨by show cn + 0 + 0 ≤ 601024; omega, by show ck + 0 + 0 ≤ 7293034; omega⟩ ?_
  have h5 : X g m_X5_degree 0 0 l2 M2 0 [(0, vR (b + 32))] [] (fun o l3 M3 => o = oI (degF (tP T) 5) ∧ l3 = l2 ∧ FrQ (b + 32) M2 M3 ∧ RowT T (M3 (b + 32 + 1)) ∧ (∃ N, Bg N M3 (b + 32))) := sp_X5_degree hMo2 hdg rT hW rB gM gE (fun M3 v5 z1 z2 z3 z4 z5 => ⟨by rw [z5 _ rfl], rfl, z1, z2, z3⟩)
  refine X.norm h5 (fun o l3 M3 z => ?_)
  obtain ⟨rfl, rfl, z1, z2, z3⟩ := z
  refine ⟨_, rfl, ?_⟩
  have hL3 := hL2.m z1 z2 z3
  refine x_icmp_eq (pc := 1083) (t := 1890) dL_law_1083 (by decide) (nmI_rng _) (nmI_rng _) (fun _ => ?_) (fun z => absurd rfl z)
  exact k _ _ _ _ (by show cn + 0 + 0 ≤ cn + 7; omega) (by show ck + 0 + 0 ≤ ck + 191; omega) ⟨T, A, u, H, tx, n, v, cm, pg, S, sv, hL3⟩
set_option maxRecDepth 100000 in
theorem law_allRoots {g : GG} {lay : Lay} {M : Mem} {K : KK} {sa len b : Nat} {i : Int} {cn ck : Nat} (G : GoodA) (hL : LI g sa len b lay M) (hi : 0 ≤ i ∧ i + 6 ≤ (len : Int)) (hc : cn + 7 ≤ 601024 ∧ ck + 191 ≤ 7293034) (k : CK g sa len b i cn ck K) : X g m_L_law cn ck lay M 1211 [(5, vI i), (4, vR (b + 46)), (3, vR (b + 45)), (2, vR (b + 32)), (1, vR b), (0, vR sa)] [] K := by
  obtain ⟨T, A, u, H, tx, n, v, cm, pg, S, sv, hL⟩ := hL
  obtain ⟨⟨hg, hsb, hSc, htop, hMo, hO1, hO2⟩, hD, ⟨cT, cA, cR, cC, cP⟩, hR, hSv, ⟨hW, hO, hB⟩, hH, hX⟩ := id hL
  have hu : 0 ≤ (u : Int) ∧ (u : Int) ≤ 12 := ⟨by omega, by have := hH.1; omega⟩
  have hdg : g.2.1 ≤ b + 32 := by omega
  obtain ⟨gB, gC, gM, gE, gF⟩ := id G
  refine x_aload_n (pc := 1211) dL_law_1211 rfl rfl ?_
  refine x_callV (pc := 1212) [] rfl kL_176 dL_law_1212 hD.1 rfl rfl ⟨Nat.le_of_ble_eq_true rfl, Nat.le_of_ble_eq_true rfl⟩ (Nat.le_of_ble_eq_true rfl) (Nat.le_of_ble_eq_true rfl) ⟨by show cn + 0 ≤ 601024; omega, by show ck + 0 ≤ 7293034; omega⟩ ?_
  have h4 : X g m_X4_allRoots 0 0 lay M 0 [(0, vR b)] [] (fun o l2 M2 => o = oI (allD (buildF (tP T))) ∧ l2.1 = lay.1 ∧ lay.2 ≤ l2.2 ∧ Scr b M M2) := sp_X4_allRoots gB hD hg cT hW (fun M2 n2 hn hS => ⟨rfl, rfl, hn, hS⟩)
  refine X.norm h4 (fun o l2 M2 z => ?_)
  obtain ⟨rfl, q1, q2, q3⟩ := z
  refine ⟨_, rfl, ?_⟩
  have hL2 := hL.c (M2 := M2) q1 q2 q3 (fun _ _ _ _ => rfl)
  obtain ⟨⟨-, -, hSc2, -, hMo2, hO12, hO22⟩, -, -, ⟨rT, rA, rU, rB, rW, rX, rE, rP, rS⟩, -⟩ := id hL2
  refine x_aload_n (pc := 1215) dL_law_1215 rfl rfl ?_
  refine x_callV (pc := 1216) [] rfl kL_179 dL_law_1216 hMo2.1 rfl rfl ⟨Nat.le_of_ble_eq_true rfl, Nat.le_of_ble_eq_true rfl⟩ (Nat.le_of_ble_eq_true rfl) (Nat.le_of_ble_eq_true rfl) ⟨by show cn + 0 + 0 ≤ 601024; omega, by show ck + 0 + 0 ≤ 7293034; omega⟩ ?_
  have h5 : X g m_X5_allRoots 0 0 l2 M2 0 [(0, vR (b + 32))] [] (fun o l3 M3 => o = oI (allD (buildF (tP T))) ∧ l3 = l2 ∧ FrQ (b + 32) M2 M3 ∧ RowT T (M3 (b + 32 + 1)) ∧ (∃ N, Bg N M3 (b + 32))) := sp_X5_allRoots hMo2 hdg rT hW rB gM gE (fun M3 v5 z1 z2 z3 z4 z5 => ⟨by rw [z5 _ rfl], rfl, z1, z2, z3⟩)
  refine X.norm h5 (fun o l3 M3 z => ?_)
  obtain ⟨rfl, rfl, z1, z2, z3⟩ := z
  refine ⟨_, rfl, ?_⟩
  have hL3 := hL2.m z1 z2 z3
  refine x_icmp_eq (pc := 1219) (t := 1890) dL_law_1219 (by decide) (nmI_rng _) (nmI_rng _) (fun _ => ?_) (fun z => absurd rfl z)
  exact k _ _ _ _ (by show cn + 0 + 0 ≤ cn + 7; omega) (by show ck + 0 + 0 ≤ ck + 191; omega) ⟨T, A, u, H, tx, n, v, cm, pg, S, sv, hL3⟩
set_option maxRecDepth 100000 in
theorem law_rows {g : GG} {lay : Lay} {M : Mem} {K : KK} {sa len b : Nat} {i : Int} {cn ck : Nat} (G : GoodA) (hL : LI g sa len b lay M) (hi : 0 ≤ i ∧ i + 6 ≤ (len : Int)) (hc : cn + 7 ≤ 601024 ∧ ck + 191 ≤ 7293034) (k : CK g sa len b i cn ck K) : X g m_L_law cn ck lay M 1481 [(5, vI i), (4, vR (b + 46)), (3, vR (b + 45)), (2, vR (b + 32)), (1, vR b), (0, vR sa)] [] K := by
  obtain ⟨T, A, u, H, tx, n, v, cm, pg, S, sv, hL⟩ := hL
  obtain ⟨⟨hg, hsb, hSc, htop, hMo, hO1, hO2⟩, hD, ⟨cT, cA, cR, cC, cP⟩, hR, hSv, ⟨hW, hO, hB⟩, hH, hX⟩ := id hL
  have hu : 0 ≤ (u : Int) ∧ (u : Int) ≤ 12 := ⟨by omega, by have := hH.1; omega⟩
  have hdg : g.2.1 ≤ b + 32 := by omega
  obtain ⟨gB, gC, gM, gE, gF⟩ := id G
  refine x_aload_n (pc := 1481) dL_law_1481 rfl rfl ?_
  refine x_callV (pc := 1482) [] rfl kL_193 dL_law_1482 hD.1 rfl rfl ⟨Nat.le_of_ble_eq_true rfl, Nat.le_of_ble_eq_true rfl⟩ (Nat.le_of_ble_eq_true rfl) (Nat.le_of_ble_eq_true rfl) ⟨by show cn + 0 ≤ 601024; omega, by show ck + 0 ≤ 7293034; omega⟩ ?_
  have h4 : X g m_X4_rows 0 0 lay M 0 [(0, vR b)] [] (fun o l2 M2 => o = oI (((buildF (tP T)).1 : Int)) ∧ l2.1 = lay.1 ∧ lay.2 ≤ l2.2 ∧ Scr b M M2) := sp_X4_rows gB hD hg cT hW (fun M2 n2 hn hS => ⟨rfl, rfl, hn, hS⟩)
  refine X.norm h4 (fun o l2 M2 z => ?_)
  obtain ⟨rfl, q1, q2, q3⟩ := z
  refine ⟨_, rfl, ?_⟩
  have hL2 := hL.c (M2 := M2) q1 q2 q3 (fun _ _ _ _ => rfl)
  obtain ⟨⟨-, -, hSc2, -, hMo2, hO12, hO22⟩, -, -, ⟨rT, rA, rU, rB, rW, rX, rE, rP, rS⟩, -⟩ := id hL2
  refine x_aload_n (pc := 1485) dL_law_1485 rfl rfl ?_
  refine x_callV (pc := 1486) [] rfl kL_196 dL_law_1486 hMo2.1 rfl rfl ⟨Nat.le_of_ble_eq_true rfl, Nat.le_of_ble_eq_true rfl⟩ (Nat.le_of_ble_eq_true rfl) (Nat.le_of_ble_eq_true rfl) ⟨by show cn + 0 + 0 ≤ 601024; omega, by show ck + 0 + 0 ≤ 7293034; omega⟩ ?_
  have h5 : X g m_X5_rows 0 0 l2 M2 0 [(0, vR (b + 32))] [] (fun o l3 M3 => o = oI (((buildF (tP T)).1 : Int)) ∧ l3 = l2 ∧ FrQ (b + 32) M2 M3 ∧ RowT T (M3 (b + 32 + 1)) ∧ (∃ N, Bg N M3 (b + 32))) := sp_X5_rows hMo2 hdg rT hW rB gM gE (fun M3 v5 z1 z2 z3 z4 z5 => ⟨by rw [z5 _ rfl], rfl, z1, z2, z3⟩)
  refine X.norm h5 (fun o l3 M3 z => ?_)
  obtain ⟨rfl, rfl, z1, z2, z3⟩ := z
  refine ⟨_, rfl, ?_⟩
  have hL3 := hL2.m z1 z2 z3
  refine x_icmp_eq (pc := 1489) (t := 1890) dL_law_1489 (by decide) (nmI_rng _) (nmI_rng _) (fun _ => ?_) (fun z => absurd rfl z)
  exact k _ _ _ _ (by show cn + 0 + 0 ≤ cn + 7; omega) (by show ck + 0 + 0 ≤ ck + 191; omega) ⟨T, A, u, H, tx, n, v, cm, pg, S, sv, hL3⟩
set_option maxRecDepth 100000 in
theorem law_count {g : GG} {lay : Lay} {M : Mem} {K : KK} {sa len b : Nat} {i : Int} {cn ck : Nat} (G : GoodA) (hL : LI g sa len b lay M) (hi : 0 ≤ i ∧ i + 6 ≤ (len : Int)) (hc : cn + 7 ≤ 601024 ∧ ck + 191 ≤ 7293034) (k : CK g sa len b i cn ck K) : X g m_L_law cn ck lay M 372 [(5, vI i), (4, vR (b + 46)), (3, vR (b + 45)), (2, vR (b + 32)), (1, vR b), (0, vR sa)] [] K := by
  obtain ⟨T, A, u, H, tx, n, v, cm, pg, S, sv, hL⟩ := hL
  obtain ⟨⟨hg, hsb, hSc, htop, hMo, hO1, hO2⟩, hD, ⟨cT, cA, cR, cC, cP⟩, hR, hSv, ⟨hW, hO, hB⟩, hH, hX⟩ := id hL
  have hu : 0 ≤ (u : Int) ∧ (u : Int) ≤ 12 := ⟨by omega, by have := hH.1; omega⟩
  have hdg : g.2.1 ≤ b + 32 := by omega
  obtain ⟨gB, gC, gM, gE, gF⟩ := id G
  refine x_aload_n (pc := 372) dL_law_372 rfl rfl ?_
  refine x_aload_n (pc := 373) dL_law_373 rfl rfl ?_
  refine x_iload (pc := 374) dL_law_374 rfl ?_
  refine x_iconst (pc := 376) dL_law_376 ?_
  refine x_iadd (pc := 377) dL_law_377 ?_
  refine x_iald (pc := 378) dL_law_378 hSc (by omega) (by omega) (fun a1 b1 => ?_)
  obtain ⟨p1, e1⟩ : ∃ z, z = M sa (i + 1).toNat := ⟨_, rfl⟩
  rw [← e1] at a1 b1 ⊢
  have R1 : i32 p1 := ⟨a1, b1⟩
  refine x_aload_n (pc := 379) dL_law_379 rfl rfl ?_
  refine x_callSH (pc := 380) [_, _, _] rfl kh_count dL_law_380 rfl ⟨Nat.le_of_ble_eq_true rfl, Nat.le_of_ble_eq_true rfl⟩ (Nat.le_of_ble_eq_true rfl) (Nat.le_of_ble_eq_true rfl) ⟨by show cn + 1 ≤ 601024; omega, by show ck + 6 ≤ 7293034; omega⟩ ?_
  refine sp_L_count hD.1 (by omega) (hx_IA (r := rCount T u p1) (P := fun l2 M2 => l2.1 = lay.1 ∧ lay.2 ≤ l2.2 ∧ Scr b M M2) (sp_X4_count gB hD hg cT hW cA hu R1 (fun M2 n2 hn hS => ⟨rfl, rfl, hn, hS⟩)) rc_rCount (fun l2 M2 h => by rw [h.1]; exact hO1) (fun l2 M1 hP M2 hF hy => ?_))
  obtain ⟨q1, q2, q3⟩ := hP
  refine ⟨_, rfl, ?_⟩
  have hL2 := hL.c (M2 := M2) q1 q2 q3 (fun a j z1 z2 => hF a j z1)
  obtain ⟨⟨-, -, hSc2, -, hMo2, hO12, hO22⟩, -, -, ⟨rT, rA, rU, rB, rW, rX, rE, rP, rS⟩, -⟩ := id hL2
  have hsc2 : ∀ j, M2 sa j = M sa j := fun j => (hF _ j (by omega)).trans (q3 _ j (by omega) (by omega) (by omega))
  obtain ⟨kc, hkc⟩ : ∃ z, z = kOf [nIA] (rCount T u p1) := ⟨_, rfl⟩
  have hk9 := kOf_rng [nIA] (rCount T u p1)
  rw [← hkc] at hk9 ⊢
  have hk8 : 0 ≤ kc ∧ kc ≤ 3 := ⟨hk9.1, Int.le_trans hk9.2 (by decide)⟩
  refine x_istore (pc := 383) dL_law_383 trivial (by decide) (L' := [(6, _), (5, _), (4, _), (3, _), (2, _), (1, _), (0, _)]) rfl ?_
  refine x_aload_n (pc := 385) dL_law_385 rfl rfl ?_
  refine x_aload_n (pc := 386) dL_law_386 rfl rfl ?_
  refine x_iload (pc := 387) dL_law_387 rfl ?_
  refine x_iconst (pc := 389) dL_law_389 ?_
  refine x_iadd (pc := 390) dL_law_390 ?_
  refine x_iald (pc := 391) dL_law_391 hSc2 (by omega) (by omega) (fun _ _ => ?_)
  rw [show M2 sa (i + 1).toNat = p1 from (hsc2 _).trans e1.symm]
  refine x_callV (pc := 392) [_] rfl kL_126 dL_law_392 hMo2.1 rfl rfl ⟨Nat.le_of_ble_eq_true rfl, Nat.le_of_ble_eq_true rfl⟩ (Nat.le_of_ble_eq_true rfl) (Nat.le_of_ble_eq_true rfl) ⟨by show cn + 1 + 0 ≤ 601024; omega, by show ck + 6 + 0 ≤ 7293034; omega⟩ ?_
  have h5 : X g m_X5_count 0 0 l2 M2 0 [(0, vR (b + 32)), (1, vI p1)] [] (fun o l3 M3 => ∃ v5 : Int, o = .inl (some (vI v5)) ∧ l3 = l2 ∧ FrQ (b + 32) M2 M3 ∧ RowT T (M3 (b + 32 + 1)) ∧ (∃ N, Bg N M3 (b + 32)) ∧ M3 (b + 32) 0 = kOf [nIA] (rCount T u p1) ∧ ∀ v9, rCount T u p1 = oI v9 → v5 = v9) := sp_X5_count hMo2 hdg rT hW rB gM gE rU (fun z => hB.2 z) R1 (fun M3 v5 z1 z2 z3 z4 z5 => ⟨v5, rfl, rfl, z1, z2, z3, z4, z5⟩)
  refine X.norm h5 (fun o l3 M3 z => ?_)
  obtain ⟨v5, rfl, rfl, z1, z2, z3, z4, z5⟩ := z
  refine ⟨_, rfl, ?_⟩
  have hL3 := hL2.m z1 z2 z3
  rw [← hkc] at z4
  refine x_istore (pc := 395) dL_law_395 trivial (by decide) (L' := [(7, _), (6, _), (5, _), (4, _), (3, _), (2, _), (1, _), (0, _)]) rfl ?_
  refine x_aload_n (pc := 397) dL_law_397 rfl rfl ?_
  refine x_callV (pc := 398) [] rfl kL_101 dL_law_398 hMo2.1 rfl rfl ⟨Nat.le_of_ble_eq_true rfl, Nat.le_of_ble_eq_true rfl⟩ (Nat.le_of_ble_eq_true rfl) (Nat.le_of_ble_eq_true rfl) ⟨by show cn + 1 + 0 + 0 ≤ 601024; omega, by show ck + 6 + 0 + 0 ≤ 7293034; omega⟩ ?_
  refine sp_X5_thrown hMo2 (fun _ _ => ⟨_, rfl, ?_⟩)
  rw [z4]
  refine x_iload (pc := 401) dL_law_401 rfl ?_
  refine x_icmp_eq (pc := 403) (t := 408) dL_law_403 (by decide) ⟨by omega, by omega⟩ ⟨by omega, by omega⟩ (fun _ => ?_) (fun z => absurd rfl z)
  refine x_iload (pc := 408) dL_law_408 rfl ?_
  refine x_if_ne (pc := 410) (t := 425) dL_law_410 (by decide) ⟨by omega, by omega⟩ (fun z => ?_) (fun z => ?_)
  · refine x_goto (pc := 425) (t := 1890) dL_law_425 (by decide) ?_
    refine X.loc [2, 3, 4, 5, 6, 7] (L' := [(5, _), (4, _), (3, _), (2, _), (1, _), (0, _)]) rfl ?_
    exact k _ _ _ _ (by show cn + 1 + 0 + 0 ≤ cn + 7; omega) (by show ck + 6 + 0 + 0 ≤ ck + 191; omega) ⟨T, A, u, H, tx, n, v, cm, pg, S, sv, hL3⟩
  · obtain ⟨y9, hy9⟩ := RC.zero (rc_rCount : RC [nIA] (rCount T u p1)) (by rw [← hkc]; exact z)
    have ev : M3 (b + 45) 0 = nmI y9 := (z1 _ _ (by omega) (by omega) (by omega) (by omega) (by omega)).trans (hy y9 hy9)
    have e9 := z5 y9 hy9
    subst e9
    refine x_aload_n (pc := 413) dL_law_413 rfl rfl ?_
    refine x_iconst (pc := 414) dL_law_414 ?_
    refine x_lald (pc := 415) dL_law_415 hO12 (by omega) (by omega) (fun _ _ => ?_)
    rw [show M3 (b + 45) (0 : Int).toNat = nmI v5 from ev]
    refine x_iload (pc := 416) dL_law_416 rfl ?_
    refine x_i2l (pc := 418) (nmI_rng _) dL_law_418 ?_
    refine x_lcmp_eq (pc := 419) (t := 425) dL_law_419 dL_law_420 (by decide) (by have := nmI_rng v5; exact ⟨by omega, by omega⟩) (by have := nmI_rng v5; exact ⟨by omega, by omega⟩) (fun _ => ?_) (fun z9 => absurd rfl z9)
    refine x_goto (pc := 425) (t := 1890) dL_law_425 (by decide) ?_
    refine X.loc [2, 3, 4, 5, 6, 7] (L' := [(5, _), (4, _), (3, _), (2, _), (1, _), (0, _)]) rfl ?_
    exact k _ _ _ _ (by show cn + 1 + 0 + 0 ≤ cn + 7; omega) (by show ck + 6 + 0 + 0 ≤ ck + 191; omega) ⟨T, A, u, H, tx, n, v, cm, pg, S, sv, hL3⟩
set_option maxRecDepth 100000 in
theorem law_power {g : GG} {lay : Lay} {M : Mem} {K : KK} {sa len b : Nat} {i : Int} {cn ck : Nat} (G : GoodA) (hL : LI g sa len b lay M) (hi : 0 ≤ i ∧ i + 6 ≤ (len : Int)) (hc : cn + 7 ≤ 601024 ∧ ck + 191 ≤ 7293034) (k : CK g sa len b i cn ck K) : X g m_L_law cn ck lay M 428 [(5, vI i), (4, vR (b + 46)), (3, vR (b + 45)), (2, vR (b + 32)), (1, vR b), (0, vR sa)] [] K := by
  obtain ⟨T, A, u, H, tx, n, v, cm, pg, S, sv, hL⟩ := hL
  obtain ⟨⟨hg, hsb, hSc, htop, hMo, hO1, hO2⟩, hD, ⟨cT, cA, cR, cC, cP⟩, hR, hSv, ⟨hW, hO, hB⟩, hH, hX⟩ := id hL
  have hu : 0 ≤ (u : Int) ∧ (u : Int) ≤ 12 := ⟨by omega, by have := hH.1; omega⟩
  have hdg : g.2.1 ≤ b + 32 := by omega
  obtain ⟨gB, gC, gM, gE, gF⟩ := id G
  refine x_aload_n (pc := 428) dL_law_428 rfl rfl ?_
  refine x_aload_n (pc := 429) dL_law_429 rfl rfl ?_
  refine x_iload (pc := 430) dL_law_430 rfl ?_
  refine x_iconst (pc := 432) dL_law_432 ?_
  refine x_iadd (pc := 433) dL_law_433 ?_
  refine x_iald (pc := 434) dL_law_434 hSc (by omega) (by omega) (fun a1 b1 => ?_)
  obtain ⟨p1, e1⟩ : ∃ z, z = M sa (i + 1).toNat := ⟨_, rfl⟩
  rw [← e1] at a1 b1 ⊢
  have R1 : i32 p1 := ⟨a1, b1⟩
  refine x_aload_n (pc := 435) dL_law_435 rfl rfl ?_
  refine x_iload (pc := 436) dL_law_436 rfl ?_
  refine x_iconst (pc := 438) dL_law_438 ?_
  refine x_iadd (pc := 439) dL_law_439 ?_
  refine x_iald (pc := 440) dL_law_440 hSc (by omega) (by omega) (fun a2 b2 => ?_)
  obtain ⟨p2, e2⟩ : ∃ z, z = M sa (i + 2).toNat := ⟨_, rfl⟩
  rw [← e2] at a2 b2 ⊢
  have R2 : i32 p2 := ⟨a2, b2⟩
  refine x_aload_n (pc := 441) dL_law_441 rfl rfl ?_
  refine x_callSH (pc := 442) [_, _, _, _] rfl kh_power dL_law_442 rfl ⟨Nat.le_of_ble_eq_true rfl, Nat.le_of_ble_eq_true rfl⟩ (Nat.le_of_ble_eq_true rfl) (Nat.le_of_ble_eq_true rfl) ⟨by show cn + 1 ≤ 601024; omega, by show ck + 6 ≤ 7293034; omega⟩ ?_
  refine sp_L_power hD.1 (by omega) (hx_IOIA (r := rPower T p1 p2) (P := fun l2 M2 => l2.1 = lay.1 ∧ lay.2 ≤ l2.2 ∧ Scr b M M2) (sp_X4_power gB hD hg cT hW R1 R2 (fun M2 n2 hn hS => ⟨rfl, rfl, hn, hS⟩)) rc_rPower (fun l2 M2 h => by rw [h.1]; exact hO1) (fun l2 M1 hP M2 hF hy => ?_))
  obtain ⟨q1, q2, q3⟩ := hP
  refine ⟨_, rfl, ?_⟩
  have hL2 := hL.c (M2 := M2) q1 q2 q3 (fun a j z1 z2 => hF a j z1)
  obtain ⟨⟨-, -, hSc2, -, hMo2, hO12, hO22⟩, -, -, ⟨rT, rA, rU, rB, rW, rX, rE, rP, rS⟩, -⟩ := id hL2
  have hsc2 : ∀ j, M2 sa j = M sa j := fun j => (hF _ j (by omega)).trans (q3 _ j (by omega) (by omega) (by omega))
  obtain ⟨kc, hkc⟩ : ∃ z, z = kOf [nIO, nIA] (rPower T p1 p2) := ⟨_, rfl⟩
  have hk9 := kOf_rng [nIO, nIA] (rPower T p1 p2)
  rw [← hkc] at hk9 ⊢
  have hk8 : 0 ≤ kc ∧ kc ≤ 3 := ⟨hk9.1, Int.le_trans hk9.2 (by decide)⟩
  refine x_istore (pc := 445) dL_law_445 trivial (by decide) (L' := [(6, _), (5, _), (4, _), (3, _), (2, _), (1, _), (0, _)]) rfl ?_
  refine x_aload_n (pc := 447) dL_law_447 rfl rfl ?_
  refine x_aload_n (pc := 448) dL_law_448 rfl rfl ?_
  refine x_iload (pc := 449) dL_law_449 rfl ?_
  refine x_iconst (pc := 451) dL_law_451 ?_
  refine x_iadd (pc := 452) dL_law_452 ?_
  refine x_iald (pc := 453) dL_law_453 hSc2 (by omega) (by omega) (fun _ _ => ?_)
  rw [show M2 sa (i + 1).toNat = p1 from (hsc2 _).trans e1.symm]
  refine x_aload_n (pc := 454) dL_law_454 rfl rfl ?_
  refine x_iload (pc := 455) dL_law_455 rfl ?_
  refine x_iconst (pc := 457) dL_law_457 ?_
  refine x_iadd (pc := 458) dL_law_458 ?_
  refine x_iald (pc := 459) dL_law_459 hSc2 (by omega) (by omega) (fun _ _ => ?_)
  rw [show M2 sa (i + 2).toNat = p2 from (hsc2 _).trans e2.symm]
  refine x_callV (pc := 460) [_, _] rfl kL_130 dL_law_460 hMo2.1 rfl rfl ⟨Nat.le_of_ble_eq_true rfl, Nat.le_of_ble_eq_true rfl⟩ (Nat.le_of_ble_eq_true rfl) (Nat.le_of_ble_eq_true rfl) ⟨by show cn + 1 + 0 ≤ 601024; omega, by show ck + 6 + 0 ≤ 7293034; omega⟩ ?_
  have h5 : X g m_X5_power 0 0 l2 M2 0 [(0, vR (b + 32)), (1, vI p1), (2, vI p2)] [] (fun o l3 M3 => ∃ v5 : Int, o = .inl (some (vI v5)) ∧ l3 = l2 ∧ FrQ (b + 32) M2 M3 ∧ RowT T (M3 (b + 32 + 1)) ∧ (∃ N, Bg N M3 (b + 32)) ∧ M3 (b + 32) 0 = kOf [nIO, nIA] (rPower T p1 p2) ∧ ∀ v9, rPower T p1 p2 = oI v9 → v5 = v9) := sp_X5_power hMo2 hdg rT hW rB gM gE R1 R2 (fun M3 v5 z1 z2 z3 z4 z5 => ⟨v5, rfl, rfl, z1, z2, z3, z4, z5⟩)
  refine X.norm h5 (fun o l3 M3 z => ?_)
  obtain ⟨v5, rfl, rfl, z1, z2, z3, z4, z5⟩ := z
  refine ⟨_, rfl, ?_⟩
  have hL3 := hL2.m z1 z2 z3
  rw [← hkc] at z4
  refine x_istore (pc := 463) dL_law_463 trivial (by decide) (L' := [(7, _), (6, _), (5, _), (4, _), (3, _), (2, _), (1, _), (0, _)]) rfl ?_
  refine x_aload_n (pc := 465) dL_law_465 rfl rfl ?_
  refine x_callV (pc := 466) [] rfl kL_101 dL_law_466 hMo2.1 rfl rfl ⟨Nat.le_of_ble_eq_true rfl, Nat.le_of_ble_eq_true rfl⟩ (Nat.le_of_ble_eq_true rfl) (Nat.le_of_ble_eq_true rfl) ⟨by show cn + 1 + 0 + 0 ≤ 601024; omega, by show ck + 6 + 0 + 0 ≤ 7293034; omega⟩ ?_
  refine sp_X5_thrown hMo2 (fun _ _ => ⟨_, rfl, ?_⟩)
  rw [z4]
  refine x_iload (pc := 469) dL_law_469 rfl ?_
  refine x_icmp_eq (pc := 471) (t := 476) dL_law_471 (by decide) ⟨by omega, by omega⟩ ⟨by omega, by omega⟩ (fun _ => ?_) (fun z => absurd rfl z)
  refine x_iload (pc := 476) dL_law_476 rfl ?_
  refine x_if_ne (pc := 478) (t := 493) dL_law_478 (by decide) ⟨by omega, by omega⟩ (fun z => ?_) (fun z => ?_)
  · refine x_goto (pc := 493) (t := 1890) dL_law_493 (by decide) ?_
    refine X.loc [2, 3, 4, 5, 6, 7] (L' := [(5, _), (4, _), (3, _), (2, _), (1, _), (0, _)]) rfl ?_
    exact k _ _ _ _ (by show cn + 1 + 0 + 0 ≤ cn + 7; omega) (by show ck + 6 + 0 + 0 ≤ ck + 191; omega) ⟨T, A, u, H, tx, n, v, cm, pg, S, sv, hL3⟩
  · obtain ⟨y9, hy9⟩ := RC.zero (rc_rPower : RC [nIO, nIA] (rPower T p1 p2)) (by rw [← hkc]; exact z)
    have ev : M3 (b + 45) 0 = nmI y9 := (z1 _ _ (by omega) (by omega) (by omega) (by omega) (by omega)).trans (hy y9 hy9)
    have e9 := z5 y9 hy9
    subst e9
    refine x_aload_n (pc := 481) dL_law_481 rfl rfl ?_
    refine x_iconst (pc := 482) dL_law_482 ?_
    refine x_lald (pc := 483) dL_law_483 hO12 (by omega) (by omega) (fun _ _ => ?_)
    rw [show M3 (b + 45) (0 : Int).toNat = nmI v5 from ev]
    refine x_iload (pc := 484) dL_law_484 rfl ?_
    refine x_i2l (pc := 486) (nmI_rng _) dL_law_486 ?_
    refine x_lcmp_eq (pc := 487) (t := 493) dL_law_487 dL_law_488 (by decide) (by have := nmI_rng v5; exact ⟨by omega, by omega⟩) (by have := nmI_rng v5; exact ⟨by omega, by omega⟩) (fun _ => ?_) (fun z9 => absurd rfl z9)
    refine x_goto (pc := 493) (t := 1890) dL_law_493 (by decide) ?_
    refine X.loc [2, 3, 4, 5, 6, 7] (L' := [(5, _), (4, _), (3, _), (2, _), (1, _), (0, _)]) rfl ?_
    exact k _ _ _ _ (by show cn + 1 + 0 + 0 ≤ cn + 7; omega) (by show ck + 6 + 0 + 0 ≤ ck + 191; omega) ⟨T, A, u, H, tx, n, v, cm, pg, S, sv, hL3⟩
set_option maxRecDepth 100000 in
theorem law_claimOf {g : GG} {lay : Lay} {M : Mem} {K : KK} {sa len b : Nat} {i : Int} {cn ck : Nat} (G : GoodA) (hL : LI g sa len b lay M) (hi : 0 ≤ i ∧ i + 6 ≤ (len : Int)) (hc : cn + 7 ≤ 601024 ∧ ck + 191 ≤ 7293034) (k : CK g sa len b i cn ck K) : X g m_L_law cn ck lay M 496 [(5, vI i), (4, vR (b + 46)), (3, vR (b + 45)), (2, vR (b + 32)), (1, vR b), (0, vR sa)] [] K := by
  obtain ⟨T, A, u, H, tx, n, v, cm, pg, S, sv, hL⟩ := hL
  obtain ⟨⟨hg, hsb, hSc, htop, hMo, hO1, hO2⟩, hD, ⟨cT, cA, cR, cC, cP⟩, hR, hSv, ⟨hW, hO, hB⟩, hH, hX⟩ := id hL
  have hu : 0 ≤ (u : Int) ∧ (u : Int) ≤ 12 := ⟨by omega, by have := hH.1; omega⟩
  have hdg : g.2.1 ≤ b + 32 := by omega
  obtain ⟨gB, gC, gM, gE, gF⟩ := id G
  refine x_aload_n (pc := 496) dL_law_496 rfl rfl ?_
  refine x_aload_n (pc := 497) dL_law_497 rfl rfl ?_
  refine x_iload (pc := 498) dL_law_498 rfl ?_
  refine x_iconst (pc := 500) dL_law_500 ?_
  refine x_iadd (pc := 501) dL_law_501 ?_
  refine x_iald (pc := 502) dL_law_502 hSc (by omega) (by omega) (fun a1 b1 => ?_)
  obtain ⟨p1, e1⟩ : ∃ z, z = M sa (i + 1).toNat := ⟨_, rfl⟩
  rw [← e1] at a1 b1 ⊢
  have R1 : i32 p1 := ⟨a1, b1⟩
  refine x_aload_n (pc := 503) dL_law_503 rfl rfl ?_
  refine x_iload (pc := 504) dL_law_504 rfl ?_
  refine x_iconst (pc := 506) dL_law_506 ?_
  refine x_iadd (pc := 507) dL_law_507 ?_
  refine x_iald (pc := 508) dL_law_508 hSc (by omega) (by omega) (fun a2 b2 => ?_)
  obtain ⟨p2, e2⟩ : ∃ z, z = M sa (i + 2).toNat := ⟨_, rfl⟩
  rw [← e2] at a2 b2 ⊢
  have R2 : i32 p2 := ⟨a2, b2⟩
  refine x_aload_n (pc := 509) dL_law_509 rfl rfl ?_
  refine x_iload (pc := 510) dL_law_510 rfl ?_
  refine x_iconst (pc := 512) dL_law_512 ?_
  refine x_iadd (pc := 513) dL_law_513 ?_
  refine x_iald (pc := 514) dL_law_514 hSc (by omega) (by omega) (fun a3 b3 => ?_)
  obtain ⟨p3, e3⟩ : ∃ z, z = M sa (i + 3).toNat := ⟨_, rfl⟩
  rw [← e3] at a3 b3 ⊢
  have R3 : i32 p3 := ⟨a3, b3⟩
  refine x_aload_n (pc := 515) dL_law_515 rfl rfl ?_
  refine x_callSH (pc := 516) [_, _, _, _, _] rfl kh_claimOf dL_law_516 rfl ⟨Nat.le_of_ble_eq_true rfl, Nat.le_of_ble_eq_true rfl⟩ (Nat.le_of_ble_eq_true rfl) (Nat.le_of_ble_eq_true rfl) ⟨by show cn + 1 ≤ 601024; omega, by show ck + 6 ≤ 7293034; omega⟩ ?_
  refine sp_L_claimOf hD.1 (by omega) (hx_IOIA (r := rClaimOf T p1 p2 p3) (P := fun l2 M2 => l2.1 = lay.1 ∧ lay.2 ≤ l2.2 ∧ Scr b M M2) (sp_X4_claimOf gB hD hg cT hW R1 R2 R3 (fun M2 n2 hn hS => ⟨rfl, rfl, hn, hS⟩)) rc_rClaimOf (fun l2 M2 h => by rw [h.1]; exact hO1) (fun l2 M1 hP M2 hF hy => ?_))
  obtain ⟨q1, q2, q3⟩ := hP
  refine ⟨_, rfl, ?_⟩
  have hL2 := hL.c (M2 := M2) q1 q2 q3 (fun a j z1 z2 => hF a j z1)
  obtain ⟨⟨-, -, hSc2, -, hMo2, hO12, hO22⟩, -, -, ⟨rT, rA, rU, rB, rW, rX, rE, rP, rS⟩, -⟩ := id hL2
  have hsc2 : ∀ j, M2 sa j = M sa j := fun j => (hF _ j (by omega)).trans (q3 _ j (by omega) (by omega) (by omega))
  obtain ⟨kc, hkc⟩ : ∃ z, z = kOf [nIO, nIA] (rClaimOf T p1 p2 p3) := ⟨_, rfl⟩
  have hk9 := kOf_rng [nIO, nIA] (rClaimOf T p1 p2 p3)
  rw [← hkc] at hk9 ⊢
  have hk8 : 0 ≤ kc ∧ kc ≤ 3 := ⟨hk9.1, Int.le_trans hk9.2 (by decide)⟩
  refine x_istore (pc := 519) dL_law_519 trivial (by decide) (L' := [(6, _), (5, _), (4, _), (3, _), (2, _), (1, _), (0, _)]) rfl ?_
  refine x_aload_n (pc := 521) dL_law_521 rfl rfl ?_
  refine x_aload_n (pc := 522) dL_law_522 rfl rfl ?_
  refine x_iload (pc := 523) dL_law_523 rfl ?_
  refine x_iconst (pc := 525) dL_law_525 ?_
  refine x_iadd (pc := 526) dL_law_526 ?_
  refine x_iald (pc := 527) dL_law_527 hSc2 (by omega) (by omega) (fun _ _ => ?_)
  rw [show M2 sa (i + 1).toNat = p1 from (hsc2 _).trans e1.symm]
  refine x_aload_n (pc := 528) dL_law_528 rfl rfl ?_
  refine x_iload (pc := 529) dL_law_529 rfl ?_
  refine x_iconst (pc := 531) dL_law_531 ?_
  refine x_iadd (pc := 532) dL_law_532 ?_
  refine x_iald (pc := 533) dL_law_533 hSc2 (by omega) (by omega) (fun _ _ => ?_)
  rw [show M2 sa (i + 2).toNat = p2 from (hsc2 _).trans e2.symm]
  refine x_aload_n (pc := 534) dL_law_534 rfl rfl ?_
  refine x_iload (pc := 535) dL_law_535 rfl ?_
  refine x_iconst (pc := 537) dL_law_537 ?_
  refine x_iadd (pc := 538) dL_law_538 ?_
  refine x_iald (pc := 539) dL_law_539 hSc2 (by omega) (by omega) (fun _ _ => ?_)
  rw [show M2 sa (i + 3).toNat = p3 from (hsc2 _).trans e3.symm]
  refine x_callV (pc := 540) [_, _, _] rfl kL_134 dL_law_540 hMo2.1 rfl rfl ⟨Nat.le_of_ble_eq_true rfl, Nat.le_of_ble_eq_true rfl⟩ (Nat.le_of_ble_eq_true rfl) (Nat.le_of_ble_eq_true rfl) ⟨by show cn + 1 + 0 ≤ 601024; omega, by show ck + 6 + 0 ≤ 7293034; omega⟩ ?_
  have h5 : X g m_X5_claimOf 0 0 l2 M2 0 [(0, vR (b + 32)), (1, vI p1), (2, vI p2), (3, vI p3)] [] (fun o l3 M3 => ∃ v5 : Int, o = .inl (some (vI v5)) ∧ l3 = l2 ∧ FrQ (b + 32) M2 M3 ∧ RowT T (M3 (b + 32 + 1)) ∧ (∃ N, Bg N M3 (b + 32)) ∧ M3 (b + 32) 0 = kOf [nIO, nIA] (rClaimOf T p1 p2 p3) ∧ ∀ v9, rClaimOf T p1 p2 p3 = oI v9 → v5 = v9) := sp_X5_claimOf hMo2 hdg rT hW rB gM gE R1 R2 R3 (fun M3 v5 z1 z2 z3 z4 z5 => ⟨v5, rfl, rfl, z1, z2, z3, z4, z5⟩)
  refine X.norm h5 (fun o l3 M3 z => ?_)
  obtain ⟨v5, rfl, rfl, z1, z2, z3, z4, z5⟩ := z
  refine ⟨_, rfl, ?_⟩
  have hL3 := hL2.m z1 z2 z3
  rw [← hkc] at z4
  refine x_istore (pc := 543) dL_law_543 trivial (by decide) (L' := [(7, _), (6, _), (5, _), (4, _), (3, _), (2, _), (1, _), (0, _)]) rfl ?_
  refine x_aload_n (pc := 545) dL_law_545 rfl rfl ?_
  refine x_callV (pc := 546) [] rfl kL_101 dL_law_546 hMo2.1 rfl rfl ⟨Nat.le_of_ble_eq_true rfl, Nat.le_of_ble_eq_true rfl⟩ (Nat.le_of_ble_eq_true rfl) (Nat.le_of_ble_eq_true rfl) ⟨by show cn + 1 + 0 + 0 ≤ 601024; omega, by show ck + 6 + 0 + 0 ≤ 7293034; omega⟩ ?_
  refine sp_X5_thrown hMo2 (fun _ _ => ⟨_, rfl, ?_⟩)
  rw [z4]
  refine x_iload (pc := 549) dL_law_549 rfl ?_
  refine x_icmp_eq (pc := 551) (t := 556) dL_law_551 (by decide) ⟨by omega, by omega⟩ ⟨by omega, by omega⟩ (fun _ => ?_) (fun z => absurd rfl z)
  refine x_iload (pc := 556) dL_law_556 rfl ?_
  refine x_if_ne (pc := 558) (t := 573) dL_law_558 (by decide) ⟨by omega, by omega⟩ (fun z => ?_) (fun z => ?_)
  · refine x_goto (pc := 573) (t := 1890) dL_law_573 (by decide) ?_
    refine X.loc [2, 3, 4, 5, 6, 7] (L' := [(5, _), (4, _), (3, _), (2, _), (1, _), (0, _)]) rfl ?_
    exact k _ _ _ _ (by show cn + 1 + 0 + 0 ≤ cn + 7; omega) (by show ck + 6 + 0 + 0 ≤ ck + 191; omega) ⟨T, A, u, H, tx, n, v, cm, pg, S, sv, hL3⟩
  · obtain ⟨y9, hy9⟩ := RC.zero (rc_rClaimOf : RC [nIO, nIA] (rClaimOf T p1 p2 p3)) (by rw [← hkc]; exact z)
    have ev : M3 (b + 45) 0 = nmI y9 := (z1 _ _ (by omega) (by omega) (by omega) (by omega) (by omega)).trans (hy y9 hy9)
    have e9 := z5 y9 hy9
    subst e9
    refine x_aload_n (pc := 561) dL_law_561 rfl rfl ?_
    refine x_iconst (pc := 562) dL_law_562 ?_
    refine x_lald (pc := 563) dL_law_563 hO12 (by omega) (by omega) (fun _ _ => ?_)
    rw [show M3 (b + 45) (0 : Int).toNat = nmI v5 from ev]
    refine x_iload (pc := 564) dL_law_564 rfl ?_
    refine x_i2l (pc := 566) (nmI_rng _) dL_law_566 ?_
    refine x_lcmp_eq (pc := 567) (t := 573) dL_law_567 dL_law_568 (by decide) (by have := nmI_rng v5; exact ⟨by omega, by omega⟩) (by have := nmI_rng v5; exact ⟨by omega, by omega⟩) (fun _ => ?_) (fun z9 => absurd rfl z9)
    refine x_goto (pc := 573) (t := 1890) dL_law_573 (by decide) ?_
    refine X.loc [2, 3, 4, 5, 6, 7] (L' := [(5, _), (4, _), (3, _), (2, _), (1, _), (0, _)]) rfl ?_
    exact k _ _ _ _ (by show cn + 1 + 0 + 0 ≤ cn + 7; omega) (by show ck + 6 + 0 + 0 ≤ ck + 191; omega) ⟨T, A, u, H, tx, n, v, cm, pg, S, sv, hL3⟩
set_option maxRecDepth 100000 in
theorem law_player {g : GG} {lay : Lay} {M : Mem} {K : KK} {sa len b : Nat} {i : Int} {cn ck : Nat} (G : GoodA) (hL : LI g sa len b lay M) (hi : 0 ≤ i ∧ i + 6 ≤ (len : Int)) (hc : cn + 7 ≤ 601024 ∧ ck + 191 ≤ 7293034) (k : CK g sa len b i cn ck K) : X g m_L_law cn ck lay M 576 [(5, vI i), (4, vR (b + 46)), (3, vR (b + 45)), (2, vR (b + 32)), (1, vR b), (0, vR sa)] [] K := by
  obtain ⟨T, A, u, H, tx, n, v, cm, pg, S, sv, hL⟩ := hL
  obtain ⟨⟨hg, hsb, hSc, htop, hMo, hO1, hO2⟩, hD, ⟨cT, cA, cR, cC, cP⟩, hR, hSv, ⟨hW, hO, hB⟩, hH, hX⟩ := id hL
  have hu : 0 ≤ (u : Int) ∧ (u : Int) ≤ 12 := ⟨by omega, by have := hH.1; omega⟩
  have hdg : g.2.1 ≤ b + 32 := by omega
  obtain ⟨gB, gC, gM, gE, gF⟩ := id G
  refine x_aload_n (pc := 576) dL_law_576 rfl rfl ?_
  refine x_aload_n (pc := 577) dL_law_577 rfl rfl ?_
  refine x_iload (pc := 578) dL_law_578 rfl ?_
  refine x_iconst (pc := 580) dL_law_580 ?_
  refine x_iadd (pc := 581) dL_law_581 ?_
  refine x_iald (pc := 582) dL_law_582 hSc (by omega) (by omega) (fun a1 b1 => ?_)
  obtain ⟨p1, e1⟩ : ∃ z, z = M sa (i + 1).toNat := ⟨_, rfl⟩
  rw [← e1] at a1 b1 ⊢
  have R1 : i32 p1 := ⟨a1, b1⟩
  refine x_aload_n (pc := 583) dL_law_583 rfl rfl ?_
  refine x_iload (pc := 584) dL_law_584 rfl ?_
  refine x_iconst (pc := 586) dL_law_586 ?_
  refine x_iadd (pc := 587) dL_law_587 ?_
  refine x_iald (pc := 588) dL_law_588 hSc (by omega) (by omega) (fun a2 b2 => ?_)
  obtain ⟨p2, e2⟩ : ∃ z, z = M sa (i + 2).toNat := ⟨_, rfl⟩
  rw [← e2] at a2 b2 ⊢
  have R2 : i32 p2 := ⟨a2, b2⟩
  refine x_aload_n (pc := 589) dL_law_589 rfl rfl ?_
  refine x_callSH (pc := 590) [_, _, _, _] rfl kh_player dL_law_590 rfl ⟨Nat.le_of_ble_eq_true rfl, Nat.le_of_ble_eq_true rfl⟩ (Nat.le_of_ble_eq_true rfl) (Nat.le_of_ble_eq_true rfl) ⟨by show cn + 1 ≤ 601024; omega, by show ck + 6 ≤ 7293034; omega⟩ ?_
  refine sp_L_player hD.1 (by omega) (hx_IOIA (r := rPlayer T p1 p2) (P := fun l2 M2 => l2.1 = lay.1 ∧ lay.2 ≤ l2.2 ∧ Scr b M M2) (sp_X4_player gB hD hg cT hW R1 R2 (fun M2 n2 hn hS => ⟨rfl, rfl, hn, hS⟩)) rc_rPlayer (fun l2 M2 h => by rw [h.1]; exact hO1) (fun l2 M1 hP M2 hF hy => ?_))
  obtain ⟨q1, q2, q3⟩ := hP
  refine ⟨_, rfl, ?_⟩
  have hL2 := hL.c (M2 := M2) q1 q2 q3 (fun a j z1 z2 => hF a j z1)
  obtain ⟨⟨-, -, hSc2, -, hMo2, hO12, hO22⟩, -, -, ⟨rT, rA, rU, rB, rW, rX, rE, rP, rS⟩, -⟩ := id hL2
  have hsc2 : ∀ j, M2 sa j = M sa j := fun j => (hF _ j (by omega)).trans (q3 _ j (by omega) (by omega) (by omega))
  obtain ⟨kc, hkc⟩ : ∃ z, z = kOf [nIO, nIA] (rPlayer T p1 p2) := ⟨_, rfl⟩
  have hk9 := kOf_rng [nIO, nIA] (rPlayer T p1 p2)
  rw [← hkc] at hk9 ⊢
  have hk8 : 0 ≤ kc ∧ kc ≤ 3 := ⟨hk9.1, Int.le_trans hk9.2 (by decide)⟩
  refine x_istore (pc := 593) dL_law_593 trivial (by decide) (L' := [(6, _), (5, _), (4, _), (3, _), (2, _), (1, _), (0, _)]) rfl ?_
  refine x_aload_n (pc := 595) dL_law_595 rfl rfl ?_
  refine x_aload_n (pc := 596) dL_law_596 rfl rfl ?_
  refine x_iload (pc := 597) dL_law_597 rfl ?_
  refine x_iconst (pc := 599) dL_law_599 ?_
  refine x_iadd (pc := 600) dL_law_600 ?_
  refine x_iald (pc := 601) dL_law_601 hSc2 (by omega) (by omega) (fun _ _ => ?_)
  rw [show M2 sa (i + 1).toNat = p1 from (hsc2 _).trans e1.symm]
  refine x_aload_n (pc := 602) dL_law_602 rfl rfl ?_
  refine x_iload (pc := 603) dL_law_603 rfl ?_
  refine x_iconst (pc := 605) dL_law_605 ?_
  refine x_iadd (pc := 606) dL_law_606 ?_
  refine x_iald (pc := 607) dL_law_607 hSc2 (by omega) (by omega) (fun _ _ => ?_)
  rw [show M2 sa (i + 2).toNat = p2 from (hsc2 _).trans e2.symm]
  refine x_callV (pc := 608) [_, _] rfl kL_137 dL_law_608 hMo2.1 rfl rfl ⟨Nat.le_of_ble_eq_true rfl, Nat.le_of_ble_eq_true rfl⟩ (Nat.le_of_ble_eq_true rfl) (Nat.le_of_ble_eq_true rfl) ⟨by show cn + 1 + 0 ≤ 601024; omega, by show ck + 6 + 0 ≤ 7293034; omega⟩ ?_
  have h5 : X g m_X5_player 0 0 l2 M2 0 [(0, vR (b + 32)), (1, vI p1), (2, vI p2)] [] (fun o l3 M3 => ∃ v5 : Int, o = .inl (some (vI v5)) ∧ l3 = l2 ∧ FrQ (b + 32) M2 M3 ∧ RowT T (M3 (b + 32 + 1)) ∧ (∃ N, Bg N M3 (b + 32)) ∧ M3 (b + 32) 0 = kOf [nIO, nIA] (rPlayer T p1 p2) ∧ ∀ v9, rPlayer T p1 p2 = oI v9 → v5 = v9) := sp_X5_player hMo2 hdg rT hW rB gM gE R1 R2 (fun M3 v5 z1 z2 z3 z4 z5 => ⟨v5, rfl, rfl, z1, z2, z3, z4, z5⟩)
  refine X.norm h5 (fun o l3 M3 z => ?_)
  obtain ⟨v5, rfl, rfl, z1, z2, z3, z4, z5⟩ := z
  refine ⟨_, rfl, ?_⟩
  have hL3 := hL2.m z1 z2 z3
  rw [← hkc] at z4
  refine x_istore (pc := 611) dL_law_611 trivial (by decide) (L' := [(7, _), (6, _), (5, _), (4, _), (3, _), (2, _), (1, _), (0, _)]) rfl ?_
  refine x_aload_n (pc := 613) dL_law_613 rfl rfl ?_
  refine x_callV (pc := 614) [] rfl kL_101 dL_law_614 hMo2.1 rfl rfl ⟨Nat.le_of_ble_eq_true rfl, Nat.le_of_ble_eq_true rfl⟩ (Nat.le_of_ble_eq_true rfl) (Nat.le_of_ble_eq_true rfl) ⟨by show cn + 1 + 0 + 0 ≤ 601024; omega, by show ck + 6 + 0 + 0 ≤ 7293034; omega⟩ ?_
  refine sp_X5_thrown hMo2 (fun _ _ => ⟨_, rfl, ?_⟩)
  rw [z4]
  refine x_iload (pc := 617) dL_law_617 rfl ?_
  refine x_icmp_eq (pc := 619) (t := 624) dL_law_619 (by decide) ⟨by omega, by omega⟩ ⟨by omega, by omega⟩ (fun _ => ?_) (fun z => absurd rfl z)
  refine x_iload (pc := 624) dL_law_624 rfl ?_
  refine x_if_ne (pc := 626) (t := 641) dL_law_626 (by decide) ⟨by omega, by omega⟩ (fun z => ?_) (fun z => ?_)
  · refine x_goto (pc := 641) (t := 1890) dL_law_641 (by decide) ?_
    refine X.loc [2, 3, 4, 5, 6, 7] (L' := [(5, _), (4, _), (3, _), (2, _), (1, _), (0, _)]) rfl ?_
    exact k _ _ _ _ (by show cn + 1 + 0 + 0 ≤ cn + 7; omega) (by show ck + 6 + 0 + 0 ≤ ck + 191; omega) ⟨T, A, u, H, tx, n, v, cm, pg, S, sv, hL3⟩
  · obtain ⟨y9, hy9⟩ := RC.zero (rc_rPlayer : RC [nIO, nIA] (rPlayer T p1 p2)) (by rw [← hkc]; exact z)
    have ev : M3 (b + 45) 0 = nmI y9 := (z1 _ _ (by omega) (by omega) (by omega) (by omega) (by omega)).trans (hy y9 hy9)
    have e9 := z5 y9 hy9
    subst e9
    refine x_aload_n (pc := 629) dL_law_629 rfl rfl ?_
    refine x_iconst (pc := 630) dL_law_630 ?_
    refine x_lald (pc := 631) dL_law_631 hO12 (by omega) (by omega) (fun _ _ => ?_)
    rw [show M3 (b + 45) (0 : Int).toNat = nmI v5 from ev]
    refine x_iload (pc := 632) dL_law_632 rfl ?_
    refine x_i2l (pc := 634) (nmI_rng _) dL_law_634 ?_
    refine x_lcmp_eq (pc := 635) (t := 641) dL_law_635 dL_law_636 (by decide) (by have := nmI_rng v5; exact ⟨by omega, by omega⟩) (by have := nmI_rng v5; exact ⟨by omega, by omega⟩) (fun _ => ?_) (fun z9 => absurd rfl z9)
    refine x_goto (pc := 641) (t := 1890) dL_law_641 (by decide) ?_
    refine X.loc [2, 3, 4, 5, 6, 7] (L' := [(5, _), (4, _), (3, _), (2, _), (1, _), (0, _)]) rfl ?_
    exact k _ _ _ _ (by show cn + 1 + 0 + 0 ≤ cn + 7; omega) (by show ck + 6 + 0 + 0 ≤ ck + 191; omega) ⟨T, A, u, H, tx, n, v, cm, pg, S, sv, hL3⟩
set_option maxRecDepth 100000 in
theorem law_account {g : GG} {lay : Lay} {M : Mem} {K : KK} {sa len b : Nat} {i : Int} {cn ck : Nat} (G : GoodA) (hL : LI g sa len b lay M) (hi : 0 ≤ i ∧ i + 6 ≤ (len : Int)) (hc : cn + 7 ≤ 601024 ∧ ck + 191 ≤ 7293034) (k : CK g sa len b i cn ck K) : X g m_L_law cn ck lay M 657 [(5, vI i), (4, vR (b + 46)), (3, vR (b + 45)), (2, vR (b + 32)), (1, vR b), (0, vR sa)] [] K := by
  obtain ⟨T, A, u, H, tx, n, v, cm, pg, S, sv, hL⟩ := hL
  obtain ⟨⟨hg, hsb, hSc, htop, hMo, hO1, hO2⟩, hD, ⟨cT, cA, cR, cC, cP⟩, hR, hSv, ⟨hW, hO, hB⟩, hH, hX⟩ := id hL
  have hu : 0 ≤ (u : Int) ∧ (u : Int) ≤ 12 := ⟨by omega, by have := hH.1; omega⟩
  have hdg : g.2.1 ≤ b + 32 := by omega
  obtain ⟨gB, gC, gM, gE, gF⟩ := id G
  refine x_aload_n (pc := 657) dL_law_657 rfl rfl ?_
  refine x_aload_n (pc := 658) dL_law_658 rfl rfl ?_
  refine x_iload (pc := 659) dL_law_659 rfl ?_
  refine x_iconst (pc := 661) dL_law_661 ?_
  refine x_iadd (pc := 662) dL_law_662 ?_
  refine x_iald (pc := 663) dL_law_663 hSc (by omega) (by omega) (fun a1 b1 => ?_)
  obtain ⟨p1, e1⟩ : ∃ z, z = M sa (i + 1).toNat := ⟨_, rfl⟩
  rw [← e1] at a1 b1 ⊢
  have R1 : i32 p1 := ⟨a1, b1⟩
  refine x_aload_n (pc := 664) dL_law_664 rfl rfl ?_
  refine x_callSH (pc := 665) [_, _, _] rfl kh_account dL_law_665 rfl ⟨Nat.le_of_ble_eq_true rfl, Nat.le_of_ble_eq_true rfl⟩ (Nat.le_of_ble_eq_true rfl) (Nat.le_of_ble_eq_true rfl) ⟨by show cn + 1 ≤ 601024; omega, by show ck + 6 ≤ 7293034; omega⟩ ?_
  refine sp_L_account hD.1 (by omega) (hx_IA (r := (if 0 ≤ p1 ∧ p1 ≤ 8 then oI (A p1.toNat) else eIA)) (P := fun l2 M2 => l2.1 = lay.1 ∧ lay.2 ≤ l2.2 ∧ Scr b M M2) (sp_X4_account hD hg cA R1 (fun M2 n2 hn hS => ⟨rfl, rfl, hn, hS⟩)) rc_acc (fun l2 M2 h => by rw [h.1]; exact hO1) (fun l2 M1 hP M2 hF hy => ?_))
  obtain ⟨q1, q2, q3⟩ := hP
  refine ⟨_, rfl, ?_⟩
  have hL2 := hL.c (M2 := M2) q1 q2 q3 (fun a j z1 z2 => hF a j z1)
  obtain ⟨⟨-, -, hSc2, -, hMo2, hO12, hO22⟩, -, -, ⟨rT, rA, rU, rB, rW, rX, rE, rP, rS⟩, -⟩ := id hL2
  have hsc2 : ∀ j, M2 sa j = M sa j := fun j => (hF _ j (by omega)).trans (q3 _ j (by omega) (by omega) (by omega))
  obtain ⟨kc, hkc⟩ : ∃ z, z = kOf [nIA] ((if 0 ≤ p1 ∧ p1 ≤ 8 then oI (A p1.toNat) else eIA)) := ⟨_, rfl⟩
  have hk9 := kOf_rng [nIA] ((if 0 ≤ p1 ∧ p1 ≤ 8 then oI (A p1.toNat) else eIA))
  rw [← hkc] at hk9 ⊢
  have hk8 : 0 ≤ kc ∧ kc ≤ 3 := ⟨hk9.1, Int.le_trans hk9.2 (by decide)⟩
  refine x_istore (pc := 668) dL_law_668 trivial (by decide) (L' := [(6, _), (5, _), (4, _), (3, _), (2, _), (1, _), (0, _)]) rfl ?_
  refine x_aload_n (pc := 670) dL_law_670 rfl rfl ?_
  refine x_aload_n (pc := 671) dL_law_671 rfl rfl ?_
  refine x_iload (pc := 672) dL_law_672 rfl ?_
  refine x_iconst (pc := 674) dL_law_674 ?_
  refine x_iadd (pc := 675) dL_law_675 ?_
  refine x_iald (pc := 676) dL_law_676 hSc2 (by omega) (by omega) (fun _ _ => ?_)
  rw [show M2 sa (i + 1).toNat = p1 from (hsc2 _).trans e1.symm]
  refine x_callV (pc := 677) [_] rfl kL_144 dL_law_677 hMo2.1 rfl rfl ⟨Nat.le_of_ble_eq_true rfl, Nat.le_of_ble_eq_true rfl⟩ (Nat.le_of_ble_eq_true rfl) (Nat.le_of_ble_eq_true rfl) ⟨by show cn + 1 + 0 ≤ 601024; omega, by show ck + 6 + 0 ≤ 7293034; omega⟩ ?_
  have h5 : X g m_X5_account 0 0 l2 M2 0 [(0, vR (b + 32)), (1, vI p1)] [] (fun o l3 M3 => ∃ v5 : Int, o = .inl (some (vI v5)) ∧ l3 = l2 ∧ FrQ (b + 32) M2 M3 ∧ RowT T (M3 (b + 32 + 1)) ∧ (∃ N, Bg N M3 (b + 32)) ∧ M3 (b + 32) 0 = kOf [nIA] ((if 0 ≤ p1 ∧ p1 ≤ 8 then oI (A p1.toNat) else eIA)) ∧ ∀ v9, (if 0 ≤ p1 ∧ p1 ≤ 8 then oI (A p1.toNat) else eIA) = oI v9 → v5 = v9) := sp_X5_account hMo2 hdg rT hW rB gM gE rA R1 (fun M3 v5 z1 z2 z3 z4 z5 => ⟨v5, rfl, rfl, z1, z2, z3, z4, z5⟩)
  refine X.norm h5 (fun o l3 M3 z => ?_)
  obtain ⟨v5, rfl, rfl, z1, z2, z3, z4, z5⟩ := z
  refine ⟨_, rfl, ?_⟩
  have hL3 := hL2.m z1 z2 z3
  rw [← hkc] at z4
  refine x_istore (pc := 680) dL_law_680 trivial (by decide) (L' := [(7, _), (6, _), (5, _), (4, _), (3, _), (2, _), (1, _), (0, _)]) rfl ?_
  refine x_aload_n (pc := 682) dL_law_682 rfl rfl ?_
  refine x_callV (pc := 683) [] rfl kL_101 dL_law_683 hMo2.1 rfl rfl ⟨Nat.le_of_ble_eq_true rfl, Nat.le_of_ble_eq_true rfl⟩ (Nat.le_of_ble_eq_true rfl) (Nat.le_of_ble_eq_true rfl) ⟨by show cn + 1 + 0 + 0 ≤ 601024; omega, by show ck + 6 + 0 + 0 ≤ 7293034; omega⟩ ?_
  refine sp_X5_thrown hMo2 (fun _ _ => ⟨_, rfl, ?_⟩)
  rw [z4]
  refine x_iload (pc := 686) dL_law_686 rfl ?_
  refine x_icmp_eq (pc := 688) (t := 693) dL_law_688 (by decide) ⟨by omega, by omega⟩ ⟨by omega, by omega⟩ (fun _ => ?_) (fun z => absurd rfl z)
  refine x_iload (pc := 693) dL_law_693 rfl ?_
  refine x_if_ne (pc := 695) (t := 710) dL_law_695 (by decide) ⟨by omega, by omega⟩ (fun z => ?_) (fun z => ?_)
  · refine x_goto (pc := 710) (t := 1890) dL_law_710 (by decide) ?_
    refine X.loc [2, 3, 4, 5, 6, 7] (L' := [(5, _), (4, _), (3, _), (2, _), (1, _), (0, _)]) rfl ?_
    exact k _ _ _ _ (by show cn + 1 + 0 + 0 ≤ cn + 7; omega) (by show ck + 6 + 0 + 0 ≤ ck + 191; omega) ⟨T, A, u, H, tx, n, v, cm, pg, S, sv, hL3⟩
  · obtain ⟨y9, hy9⟩ := RC.zero (rc_acc : RC [nIA] ((if 0 ≤ p1 ∧ p1 ≤ 8 then oI (A p1.toNat) else eIA))) (by rw [← hkc]; exact z)
    have ev : M3 (b + 45) 0 = nmI y9 := (z1 _ _ (by omega) (by omega) (by omega) (by omega) (by omega)).trans (hy y9 hy9)
    have e9 := z5 y9 hy9
    subst e9
    refine x_aload_n (pc := 698) dL_law_698 rfl rfl ?_
    refine x_iconst (pc := 699) dL_law_699 ?_
    refine x_lald (pc := 700) dL_law_700 hO12 (by omega) (by omega) (fun _ _ => ?_)
    rw [show M3 (b + 45) (0 : Int).toNat = nmI v5 from ev]
    refine x_iload (pc := 701) dL_law_701 rfl ?_
    refine x_i2l (pc := 703) (nmI_rng _) dL_law_703 ?_
    refine x_lcmp_eq (pc := 704) (t := 710) dL_law_704 dL_law_705 (by decide) (by have := nmI_rng v5; exact ⟨by omega, by omega⟩) (by have := nmI_rng v5; exact ⟨by omega, by omega⟩) (fun _ => ?_) (fun z9 => absurd rfl z9)
    refine x_goto (pc := 710) (t := 1890) dL_law_710 (by decide) ?_
    refine X.loc [2, 3, 4, 5, 6, 7] (L' := [(5, _), (4, _), (3, _), (2, _), (1, _), (0, _)]) rfl ?_
    exact k _ _ _ _ (by show cn + 1 + 0 + 0 ≤ cn + 7; omega) (by show ck + 6 + 0 + 0 ≤ ck + 191; omega) ⟨T, A, u, H, tx, n, v, cm, pg, S, sv, hL3⟩
set_option maxRecDepth 100000 in
theorem law_why {g : GG} {lay : Lay} {M : Mem} {K : KK} {sa len b : Nat} {i : Int} {cn ck : Nat} (G : GoodA) (hL : LI g sa len b lay M) (hi : 0 ≤ i ∧ i + 6 ≤ (len : Int)) (hc : cn + 7 ≤ 601024 ∧ ck + 191 ≤ 7293034) (k : CK g sa len b i cn ck K) : X g m_L_law cn ck lay M 914 [(5, vI i), (4, vR (b + 46)), (3, vR (b + 45)), (2, vR (b + 32)), (1, vR b), (0, vR sa)] [] K := by
  obtain ⟨T, A, u, H, tx, n, v, cm, pg, S, sv, hL⟩ := hL
  obtain ⟨⟨hg, hsb, hSc, htop, hMo, hO1, hO2⟩, hD, ⟨cT, cA, cR, cC, cP⟩, hR, hSv, ⟨hW, hO, hB⟩, hH, hX⟩ := id hL
  have hu : 0 ≤ (u : Int) ∧ (u : Int) ≤ 12 := ⟨by omega, by have := hH.1; omega⟩
  have hdg : g.2.1 ≤ b + 32 := by omega
  obtain ⟨gB, gC, gM, gE, gF⟩ := id G
  refine x_aload_n (pc := 914) dL_law_914 rfl rfl ?_
  refine x_aload_n (pc := 915) dL_law_915 rfl rfl ?_
  refine x_iload (pc := 916) dL_law_916 rfl ?_
  refine x_iconst (pc := 918) dL_law_918 ?_
  refine x_iadd (pc := 919) dL_law_919 ?_
  refine x_iald (pc := 920) dL_law_920 hSc (by omega) (by omega) (fun a1 b1 => ?_)
  obtain ⟨p1, e1⟩ : ∃ z, z = M sa (i + 1).toNat := ⟨_, rfl⟩
  rw [← e1] at a1 b1 ⊢
  have R1 : i32 p1 := ⟨a1, b1⟩
  refine x_aload_n (pc := 921) dL_law_921 rfl rfl ?_
  refine x_iload (pc := 922) dL_law_922 rfl ?_
  refine x_iconst (pc := 924) dL_law_924 ?_
  refine x_iadd (pc := 925) dL_law_925 ?_
  refine x_iald (pc := 926) dL_law_926 hSc (by omega) (by omega) (fun a2 b2 => ?_)
  obtain ⟨p2, e2⟩ : ∃ z, z = M sa (i + 2).toNat := ⟨_, rfl⟩
  rw [← e2] at a2 b2 ⊢
  have R2 : i32 p2 := ⟨a2, b2⟩
  refine x_aload_n (pc := 927) dL_law_927 rfl rfl ?_
  refine x_callSH (pc := 928) [_, _, _, _] rfl kh_why dL_law_928 rfl ⟨Nat.le_of_ble_eq_true rfl, Nat.le_of_ble_eq_true rfl⟩ (Nat.le_of_ble_eq_true rfl) (Nat.le_of_ble_eq_true rfl) ⟨by show cn + 1 ≤ 601024; omega, by show ck + 6 ≤ 7293034; omega⟩ ?_
  refine sp_L_why hD.1 (by omega) (hx_IOIA (r := rWhy T p1 p2) (P := fun l2 M2 => l2.1 = lay.1 ∧ lay.2 ≤ l2.2 ∧ Scr b M M2) (sp_X4_why gB hD hg cT hW R1 R2 (fun M2 n2 hn hS => ⟨rfl, rfl, hn, hS⟩)) rc_rWhy (fun l2 M2 h => by rw [h.1]; exact hO1) (fun l2 M1 hP M2 hF hy => ?_))
  obtain ⟨q1, q2, q3⟩ := hP
  refine ⟨_, rfl, ?_⟩
  have hL2 := hL.c (M2 := M2) q1 q2 q3 (fun a j z1 z2 => hF a j z1)
  obtain ⟨⟨-, -, hSc2, -, hMo2, hO12, hO22⟩, -, -, ⟨rT, rA, rU, rB, rW, rX, rE, rP, rS⟩, -⟩ := id hL2
  have hsc2 : ∀ j, M2 sa j = M sa j := fun j => (hF _ j (by omega)).trans (q3 _ j (by omega) (by omega) (by omega))
  obtain ⟨kc, hkc⟩ : ∃ z, z = kOf [nIO, nIA] (rWhy T p1 p2) := ⟨_, rfl⟩
  have hk9 := kOf_rng [nIO, nIA] (rWhy T p1 p2)
  rw [← hkc] at hk9 ⊢
  have hk8 : 0 ≤ kc ∧ kc ≤ 3 := ⟨hk9.1, Int.le_trans hk9.2 (by decide)⟩
  refine x_istore (pc := 931) dL_law_931 trivial (by decide) (L' := [(6, _), (5, _), (4, _), (3, _), (2, _), (1, _), (0, _)]) rfl ?_
  refine x_aload_n (pc := 933) dL_law_933 rfl rfl ?_
  refine x_aload_n (pc := 934) dL_law_934 rfl rfl ?_
  refine x_iload (pc := 935) dL_law_935 rfl ?_
  refine x_iconst (pc := 937) dL_law_937 ?_
  refine x_iadd (pc := 938) dL_law_938 ?_
  refine x_iald (pc := 939) dL_law_939 hSc2 (by omega) (by omega) (fun _ _ => ?_)
  rw [show M2 sa (i + 1).toNat = p1 from (hsc2 _).trans e1.symm]
  refine x_aload_n (pc := 940) dL_law_940 rfl rfl ?_
  refine x_iload (pc := 941) dL_law_941 rfl ?_
  refine x_iconst (pc := 943) dL_law_943 ?_
  refine x_iadd (pc := 944) dL_law_944 ?_
  refine x_iald (pc := 945) dL_law_945 hSc2 (by omega) (by omega) (fun _ _ => ?_)
  rw [show M2 sa (i + 2).toNat = p2 from (hsc2 _).trans e2.symm]
  refine x_callV (pc := 946) [_, _] rfl kL_158 dL_law_946 hMo2.1 rfl rfl ⟨Nat.le_of_ble_eq_true rfl, Nat.le_of_ble_eq_true rfl⟩ (Nat.le_of_ble_eq_true rfl) (Nat.le_of_ble_eq_true rfl) ⟨by show cn + 1 + 0 ≤ 601024; omega, by show ck + 6 + 0 ≤ 7293034; omega⟩ ?_
  have h5 : X g m_X5_why 0 0 l2 M2 0 [(0, vR (b + 32)), (1, vI p1), (2, vI p2)] [] (fun o l3 M3 => ∃ v5 : Int, o = .inl (some (vI v5)) ∧ l3 = l2 ∧ FrQ (b + 32) M2 M3 ∧ RowT T (M3 (b + 32 + 1)) ∧ (∃ N, Bg N M3 (b + 32)) ∧ M3 (b + 32) 0 = kOf [nIO, nIA] (rWhy T p1 p2) ∧ ∀ v9, rWhy T p1 p2 = oI v9 → v5 = v9) := sp_X5_why hMo2 hdg rT hW rB gM gE R1 R2 (fun M3 v5 z1 z2 z3 z4 z5 => ⟨v5, rfl, rfl, z1, z2, z3, z4, z5⟩)
  refine X.norm h5 (fun o l3 M3 z => ?_)
  obtain ⟨v5, rfl, rfl, z1, z2, z3, z4, z5⟩ := z
  refine ⟨_, rfl, ?_⟩
  have hL3 := hL2.m z1 z2 z3
  rw [← hkc] at z4
  refine x_istore (pc := 949) dL_law_949 trivial (by decide) (L' := [(7, _), (6, _), (5, _), (4, _), (3, _), (2, _), (1, _), (0, _)]) rfl ?_
  refine x_aload_n (pc := 951) dL_law_951 rfl rfl ?_
  refine x_callV (pc := 952) [] rfl kL_101 dL_law_952 hMo2.1 rfl rfl ⟨Nat.le_of_ble_eq_true rfl, Nat.le_of_ble_eq_true rfl⟩ (Nat.le_of_ble_eq_true rfl) (Nat.le_of_ble_eq_true rfl) ⟨by show cn + 1 + 0 + 0 ≤ 601024; omega, by show ck + 6 + 0 + 0 ≤ 7293034; omega⟩ ?_
  refine sp_X5_thrown hMo2 (fun _ _ => ⟨_, rfl, ?_⟩)
  rw [z4]
  refine x_iload (pc := 955) dL_law_955 rfl ?_
  refine x_icmp_eq (pc := 957) (t := 962) dL_law_957 (by decide) ⟨by omega, by omega⟩ ⟨by omega, by omega⟩ (fun _ => ?_) (fun z => absurd rfl z)
  refine x_iload (pc := 962) dL_law_962 rfl ?_
  refine x_if_ne (pc := 964) (t := 979) dL_law_964 (by decide) ⟨by omega, by omega⟩ (fun z => ?_) (fun z => ?_)
  · refine x_goto (pc := 979) (t := 1890) dL_law_979 (by decide) ?_
    refine X.loc [2, 3, 4, 5, 6, 7] (L' := [(5, _), (4, _), (3, _), (2, _), (1, _), (0, _)]) rfl ?_
    exact k _ _ _ _ (by show cn + 1 + 0 + 0 ≤ cn + 7; omega) (by show ck + 6 + 0 + 0 ≤ ck + 191; omega) ⟨T, A, u, H, tx, n, v, cm, pg, S, sv, hL3⟩
  · obtain ⟨y9, hy9⟩ := RC.zero (rc_rWhy : RC [nIO, nIA] (rWhy T p1 p2)) (by rw [← hkc]; exact z)
    have ev : M3 (b + 45) 0 = nmI y9 := (z1 _ _ (by omega) (by omega) (by omega) (by omega) (by omega)).trans (hy y9 hy9)
    have e9 := z5 y9 hy9
    subst e9
    refine x_aload_n (pc := 967) dL_law_967 rfl rfl ?_
    refine x_iconst (pc := 968) dL_law_968 ?_
    refine x_lald (pc := 969) dL_law_969 hO12 (by omega) (by omega) (fun _ _ => ?_)
    rw [show M3 (b + 45) (0 : Int).toNat = nmI v5 from ev]
    refine x_iload (pc := 970) dL_law_970 rfl ?_
    refine x_i2l (pc := 972) (nmI_rng _) dL_law_972 ?_
    refine x_lcmp_eq (pc := 973) (t := 979) dL_law_973 dL_law_974 (by decide) (by have := nmI_rng v5; exact ⟨by omega, by omega⟩) (by have := nmI_rng v5; exact ⟨by omega, by omega⟩) (fun _ => ?_) (fun z9 => absurd rfl z9)
    refine x_goto (pc := 979) (t := 1890) dL_law_979 (by decide) ?_
    refine X.loc [2, 3, 4, 5, 6, 7] (L' := [(5, _), (4, _), (3, _), (2, _), (1, _), (0, _)]) rfl ?_
    exact k _ _ _ _ (by show cn + 1 + 0 + 0 ≤ cn + 7; omega) (by show ck + 6 + 0 + 0 ≤ ck + 191; omega) ⟨T, A, u, H, tx, n, v, cm, pg, S, sv, hL3⟩
set_option maxRecDepth 100000 in
theorem law_behind {g : GG} {lay : Lay} {M : Mem} {K : KK} {sa len b : Nat} {i : Int} {cn ck : Nat} (G : GoodA) (hL : LI g sa len b lay M) (hi : 0 ≤ i ∧ i + 6 ≤ (len : Int)) (hc : cn + 7 ≤ 601024 ∧ ck + 191 ≤ 7293034) (k : CK g sa len b i cn ck K) : X g m_L_law cn ck lay M 995 [(5, vI i), (4, vR (b + 46)), (3, vR (b + 45)), (2, vR (b + 32)), (1, vR b), (0, vR sa)] [] K := by
  obtain ⟨T, A, u, H, tx, n, v, cm, pg, S, sv, hL⟩ := hL
  obtain ⟨⟨hg, hsb, hSc, htop, hMo, hO1, hO2⟩, hD, ⟨cT, cA, cR, cC, cP⟩, hR, hSv, ⟨hW, hO, hB⟩, hH, hX⟩ := id hL
  have hu : 0 ≤ (u : Int) ∧ (u : Int) ≤ 12 := ⟨by omega, by have := hH.1; omega⟩
  have hdg : g.2.1 ≤ b + 32 := by omega
  obtain ⟨gB, gC, gM, gE, gF⟩ := id G
  refine x_aload_n (pc := 995) dL_law_995 rfl rfl ?_
  refine x_aload_n (pc := 996) dL_law_996 rfl rfl ?_
  refine x_iload (pc := 997) dL_law_997 rfl ?_
  refine x_iconst (pc := 999) dL_law_999 ?_
  refine x_iadd (pc := 1000) dL_law_1000 ?_
  refine x_iald (pc := 1001) dL_law_1001 hSc (by omega) (by omega) (fun a1 b1 => ?_)
  obtain ⟨p1, e1⟩ : ∃ z, z = M sa (i + 1).toNat := ⟨_, rfl⟩
  rw [← e1] at a1 b1 ⊢
  have R1 : i32 p1 := ⟨a1, b1⟩
  refine x_aload_n (pc := 1002) dL_law_1002 rfl rfl ?_
  refine x_iload (pc := 1003) dL_law_1003 rfl ?_
  refine x_iconst (pc := 1005) dL_law_1005 ?_
  refine x_iadd (pc := 1006) dL_law_1006 ?_
  refine x_iald (pc := 1007) dL_law_1007 hSc (by omega) (by omega) (fun a2 b2 => ?_)
  obtain ⟨p2, e2⟩ : ∃ z, z = M sa (i + 2).toNat := ⟨_, rfl⟩
  rw [← e2] at a2 b2 ⊢
  have R2 : i32 p2 := ⟨a2, b2⟩
  refine x_aload_n (pc := 1008) dL_law_1008 rfl rfl ?_
  refine x_iload (pc := 1009) dL_law_1009 rfl ?_
  refine x_iconst (pc := 1011) dL_law_1011 ?_
  refine x_iadd (pc := 1012) dL_law_1012 ?_
  refine x_iald (pc := 1013) dL_law_1013 hSc (by omega) (by omega) (fun a3 b3 => ?_)
  obtain ⟨p3, e3⟩ : ∃ z, z = M sa (i + 3).toNat := ⟨_, rfl⟩
  rw [← e3] at a3 b3 ⊢
  have R3 : i32 p3 := ⟨a3, b3⟩
  refine x_aload_n (pc := 1014) dL_law_1014 rfl rfl ?_
  refine x_callSH (pc := 1015) [_, _, _, _, _] rfl kh_behind dL_law_1015 rfl ⟨Nat.le_of_ble_eq_true rfl, Nat.le_of_ble_eq_true rfl⟩ (Nat.le_of_ble_eq_true rfl) (Nat.le_of_ble_eq_true rfl) ⟨by show cn + 1 ≤ 601024; omega, by show ck + 6 ≤ 7293034; omega⟩ ?_
  refine sp_L_behind hD.1 (by omega) (hx_IOIAIS (r := rBehind T p1 p2 p3) (P := fun l2 M2 => l2.1 = lay.1 ∧ lay.2 ≤ l2.2 ∧ Scr b M M2) (sp_X4_behind gB hD hg cT hW hO R1 R2 R3 (fun M2 n2 hn hS => ⟨rfl, rfl, hn, hS⟩)) rc_rBehind (fun l2 M2 h => by rw [h.1]; exact hO1) (fun l2 M1 hP M2 hF hy => ?_))
  obtain ⟨q1, q2, q3⟩ := hP
  refine ⟨_, rfl, ?_⟩
  have hL2 := hL.c (M2 := M2) q1 q2 q3 (fun a j z1 z2 => hF a j z1)
  obtain ⟨⟨-, -, hSc2, -, hMo2, hO12, hO22⟩, -, -, ⟨rT, rA, rU, rB, rW, rX, rE, rP, rS⟩, -⟩ := id hL2
  have hsc2 : ∀ j, M2 sa j = M sa j := fun j => (hF _ j (by omega)).trans (q3 _ j (by omega) (by omega) (by omega))
  obtain ⟨kc, hkc⟩ : ∃ z, z = kOf [nIO, nIA, nIS] (rBehind T p1 p2 p3) := ⟨_, rfl⟩
  have hk9 := kOf_rng [nIO, nIA, nIS] (rBehind T p1 p2 p3)
  rw [← hkc] at hk9 ⊢
  have hk8 : 0 ≤ kc ∧ kc ≤ 3 := ⟨hk9.1, Int.le_trans hk9.2 (by decide)⟩
  refine x_istore (pc := 1018) dL_law_1018 trivial (by decide) (L' := [(6, _), (5, _), (4, _), (3, _), (2, _), (1, _), (0, _)]) rfl ?_
  refine x_aload_n (pc := 1020) dL_law_1020 rfl rfl ?_
  refine x_aload_n (pc := 1021) dL_law_1021 rfl rfl ?_
  refine x_iload (pc := 1022) dL_law_1022 rfl ?_
  refine x_iconst (pc := 1024) dL_law_1024 ?_
  refine x_iadd (pc := 1025) dL_law_1025 ?_
  refine x_iald (pc := 1026) dL_law_1026 hSc2 (by omega) (by omega) (fun _ _ => ?_)
  rw [show M2 sa (i + 1).toNat = p1 from (hsc2 _).trans e1.symm]
  refine x_aload_n (pc := 1027) dL_law_1027 rfl rfl ?_
  refine x_iload (pc := 1028) dL_law_1028 rfl ?_
  refine x_iconst (pc := 1030) dL_law_1030 ?_
  refine x_iadd (pc := 1031) dL_law_1031 ?_
  refine x_iald (pc := 1032) dL_law_1032 hSc2 (by omega) (by omega) (fun _ _ => ?_)
  rw [show M2 sa (i + 2).toNat = p2 from (hsc2 _).trans e2.symm]
  refine x_aload_n (pc := 1033) dL_law_1033 rfl rfl ?_
  refine x_iload (pc := 1034) dL_law_1034 rfl ?_
  refine x_iconst (pc := 1036) dL_law_1036 ?_
  refine x_iadd (pc := 1037) dL_law_1037 ?_
  refine x_iald (pc := 1038) dL_law_1038 hSc2 (by omega) (by omega) (fun _ _ => ?_)
  rw [show M2 sa (i + 3).toNat = p3 from (hsc2 _).trans e3.symm]
  refine x_callV (pc := 1039) [_, _, _] rfl kL_165 dL_law_1039 hMo2.1 rfl rfl ⟨Nat.le_of_ble_eq_true rfl, Nat.le_of_ble_eq_true rfl⟩ (Nat.le_of_ble_eq_true rfl) (Nat.le_of_ble_eq_true rfl) ⟨by show cn + 1 + 0 ≤ 601024; omega, by show ck + 6 + 0 ≤ 7293034; omega⟩ ?_
  have h5 : X g m_X5_behind 0 0 l2 M2 0 [(0, vR (b + 32)), (1, vI p1), (2, vI p2), (3, vI p3)] [] (fun o l3 M3 => ∃ v5 : Int, o = .inl (some (vI v5)) ∧ l3 = l2 ∧ FrQ (b + 32) M2 M3 ∧ RowT T (M3 (b + 32 + 1)) ∧ (∃ N, Bg N M3 (b + 32)) ∧ M3 (b + 32) 0 = kOf [nIO, nIA, nIS] (rBehind T p1 p2 p3) ∧ ∀ v9, rBehind T p1 p2 p3 = oI v9 → v5 = v9) := sp_X5_behind hMo2 hdg rT hW rB gM gE hO R1 R2 R3 (fun M3 v5 z1 z2 z3 z4 z5 => ⟨v5, rfl, rfl, z1, z2, z3, z4, z5⟩)
  refine X.norm h5 (fun o l3 M3 z => ?_)
  obtain ⟨v5, rfl, rfl, z1, z2, z3, z4, z5⟩ := z
  refine ⟨_, rfl, ?_⟩
  have hL3 := hL2.m z1 z2 z3
  rw [← hkc] at z4
  refine x_istore (pc := 1042) dL_law_1042 trivial (by decide) (L' := [(7, _), (6, _), (5, _), (4, _), (3, _), (2, _), (1, _), (0, _)]) rfl ?_
  refine x_aload_n (pc := 1044) dL_law_1044 rfl rfl ?_
  refine x_callV (pc := 1045) [] rfl kL_101 dL_law_1045 hMo2.1 rfl rfl ⟨Nat.le_of_ble_eq_true rfl, Nat.le_of_ble_eq_true rfl⟩ (Nat.le_of_ble_eq_true rfl) (Nat.le_of_ble_eq_true rfl) ⟨by show cn + 1 + 0 + 0 ≤ 601024; omega, by show ck + 6 + 0 + 0 ≤ 7293034; omega⟩ ?_
  refine sp_X5_thrown hMo2 (fun _ _ => ⟨_, rfl, ?_⟩)
  rw [z4]
  refine x_iload (pc := 1048) dL_law_1048 rfl ?_
  refine x_icmp_eq (pc := 1050) (t := 1055) dL_law_1050 (by decide) ⟨by omega, by omega⟩ ⟨by omega, by omega⟩ (fun _ => ?_) (fun z => absurd rfl z)
  refine x_iload (pc := 1055) dL_law_1055 rfl ?_
  refine x_if_ne (pc := 1057) (t := 1072) dL_law_1057 (by decide) ⟨by omega, by omega⟩ (fun z => ?_) (fun z => ?_)
  · refine x_goto (pc := 1072) (t := 1890) dL_law_1072 (by decide) ?_
    refine X.loc [2, 3, 4, 5, 6, 7] (L' := [(5, _), (4, _), (3, _), (2, _), (1, _), (0, _)]) rfl ?_
    exact k _ _ _ _ (by show cn + 1 + 0 + 0 ≤ cn + 7; omega) (by show ck + 6 + 0 + 0 ≤ ck + 191; omega) ⟨T, A, u, H, tx, n, v, cm, pg, S, sv, hL3⟩
  · obtain ⟨y9, hy9⟩ := RC.zero (rc_rBehind : RC [nIO, nIA, nIS] (rBehind T p1 p2 p3)) (by rw [← hkc]; exact z)
    have ev : M3 (b + 45) 0 = nmI y9 := (z1 _ _ (by omega) (by omega) (by omega) (by omega) (by omega)).trans (hy y9 hy9)
    have e9 := z5 y9 hy9
    subst e9
    refine x_aload_n (pc := 1060) dL_law_1060 rfl rfl ?_
    refine x_iconst (pc := 1061) dL_law_1061 ?_
    refine x_lald (pc := 1062) dL_law_1062 hO12 (by omega) (by omega) (fun _ _ => ?_)
    rw [show M3 (b + 45) (0 : Int).toNat = nmI v5 from ev]
    refine x_iload (pc := 1063) dL_law_1063 rfl ?_
    refine x_i2l (pc := 1065) (nmI_rng _) dL_law_1065 ?_
    refine x_lcmp_eq (pc := 1066) (t := 1072) dL_law_1066 dL_law_1067 (by decide) (by have := nmI_rng v5; exact ⟨by omega, by omega⟩) (by have := nmI_rng v5; exact ⟨by omega, by omega⟩) (fun _ => ?_) (fun z9 => absurd rfl z9)
    refine x_goto (pc := 1072) (t := 1890) dL_law_1072 (by decide) ?_
    refine X.loc [2, 3, 4, 5, 6, 7] (L' := [(5, _), (4, _), (3, _), (2, _), (1, _), (0, _)]) rfl ?_
    exact k _ _ _ _ (by show cn + 1 + 0 + 0 ≤ cn + 7; omega) (by show ck + 6 + 0 + 0 ≤ ck + 191; omega) ⟨T, A, u, H, tx, n, v, cm, pg, S, sv, hL3⟩
set_option maxRecDepth 100000 in
theorem law_value {g : GG} {lay : Lay} {M : Mem} {K : KK} {sa len b : Nat} {i : Int} {cn ck : Nat} (G : GoodA) (hL : LI g sa len b lay M) (hi : 0 ≤ i ∧ i + 6 ≤ (len : Int)) (hc : cn + 7 ≤ 601024 ∧ ck + 191 ≤ 7293034) (k : CK g sa len b i cn ck K) : X g m_L_law cn ck lay M 1088 [(5, vI i), (4, vR (b + 46)), (3, vR (b + 45)), (2, vR (b + 32)), (1, vR b), (0, vR sa)] [] K := by
  obtain ⟨T, A, u, H, tx, n, v, cm, pg, S, sv, hL⟩ := hL
  obtain ⟨⟨hg, hsb, hSc, htop, hMo, hO1, hO2⟩, hD, ⟨cT, cA, cR, cC, cP⟩, hR, hSv, ⟨hW, hO, hB⟩, hH, hX⟩ := id hL
  have hu : 0 ≤ (u : Int) ∧ (u : Int) ≤ 12 := ⟨by omega, by have := hH.1; omega⟩
  have hdg : g.2.1 ≤ b + 32 := by omega
  obtain ⟨gB, gC, gM, gE, gF⟩ := id G
  refine x_aload_n (pc := 1088) dL_law_1088 rfl rfl ?_
  refine x_aload_n (pc := 1089) dL_law_1089 rfl rfl ?_
  refine x_iload (pc := 1090) dL_law_1090 rfl ?_
  refine x_iconst (pc := 1092) dL_law_1092 ?_
  refine x_iadd (pc := 1093) dL_law_1093 ?_
  refine x_iald (pc := 1094) dL_law_1094 hSc (by omega) (by omega) (fun a1 b1 => ?_)
  obtain ⟨p1, e1⟩ : ∃ z, z = M sa (i + 1).toNat := ⟨_, rfl⟩
  rw [← e1] at a1 b1 ⊢
  have R1 : i32 p1 := ⟨a1, b1⟩
  refine x_aload_n (pc := 1095) dL_law_1095 rfl rfl ?_
  refine x_callSH (pc := 1096) [_, _, _] rfl kh_value dL_law_1096 rfl ⟨Nat.le_of_ble_eq_true rfl, Nat.le_of_ble_eq_true rfl⟩ (Nat.le_of_ble_eq_true rfl) (Nat.le_of_ble_eq_true rfl) ⟨by show cn + 1 ≤ 601024; omega, by show ck + 6 ≤ 7293034; omega⟩ ?_
  refine sp_L_value hD.1 (by omega) (hxJ_IA (r := rValue T p1) (P := fun l2 M2 => l2.1 = lay.1 ∧ lay.2 ≤ l2.2 ∧ Scr b M M2) (sp_X4_value gB hD hg cT hW R1 (fun M2 n2 hn hS => ⟨rfl, rfl, hn, hS⟩)) rc_rValue (fun l2 M2 h => by rw [h.1]; exact hO1) (fun l2 M1 hP M2 hF hy => ?_))
  obtain ⟨q1, q2, q3⟩ := hP
  refine ⟨_, rfl, ?_⟩
  have hL2 := hL.c (M2 := M2) q1 q2 q3 (fun a j z1 z2 => hF a j z1)
  obtain ⟨⟨-, -, hSc2, -, hMo2, hO12, hO22⟩, -, -, ⟨rT, rA, rU, rB, rW, rX, rE, rP, rS⟩, -⟩ := id hL2
  have hsc2 : ∀ j, M2 sa j = M sa j := fun j => (hF _ j (by omega)).trans (q3 _ j (by omega) (by omega) (by omega))
  obtain ⟨kc, hkc⟩ : ∃ z, z = kOf [nIA] (rValue T p1) := ⟨_, rfl⟩
  have hk9 := kOf_rng [nIA] (rValue T p1)
  rw [← hkc] at hk9 ⊢
  have hk8 : 0 ≤ kc ∧ kc ≤ 3 := ⟨hk9.1, Int.le_trans hk9.2 (by decide)⟩
  refine x_istore (pc := 1099) dL_law_1099 trivial (by decide) (L' := [(6, _), (5, _), (4, _), (3, _), (2, _), (1, _), (0, _)]) rfl ?_
  refine x_aload_n (pc := 1101) dL_law_1101 rfl rfl ?_
  refine x_aload_n (pc := 1102) dL_law_1102 rfl rfl ?_
  refine x_iload (pc := 1103) dL_law_1103 rfl ?_
  refine x_iconst (pc := 1105) dL_law_1105 ?_
  refine x_iadd (pc := 1106) dL_law_1106 ?_
  refine x_iald (pc := 1107) dL_law_1107 hSc2 (by omega) (by omega) (fun _ _ => ?_)
  rw [show M2 sa (i + 1).toNat = p1 from (hsc2 _).trans e1.symm]
  refine x_callV (pc := 1108) [_] rfl kL_172 dL_law_1108 hMo2.1 rfl rfl ⟨Nat.le_of_ble_eq_true rfl, Nat.le_of_ble_eq_true rfl⟩ (Nat.le_of_ble_eq_true rfl) (Nat.le_of_ble_eq_true rfl) ⟨by show cn + 1 + 0 ≤ 601024; omega, by show ck + 6 + 0 ≤ 7293034; omega⟩ ?_
  have h5 : X g m_X5_value 0 0 l2 M2 0 [(0, vR (b + 32)), (1, vI p1)] [] (fun o l3 M3 => ∃ v5 : Int, o = .inl (some (vJ v5)) ∧ l3 = l2 ∧ FrQ (b + 32) M2 M3 ∧ RowT T (M3 (b + 32 + 1)) ∧ (∃ N, Bg N M3 (b + 32)) ∧ M3 (b + 32) 0 = kOf [nIA] (rValue T p1) ∧ ∀ v9, rValue T p1 = .inl (some (vJ v9)) → v5 = v9) := sp_X5_value hMo2 hdg rT hW rB gM gE R1 (fun M3 v5 z1 z2 z3 z4 z5 => ⟨v5, rfl, rfl, z1, z2, z3, z4, z5⟩)
  refine X.norm h5 (fun o l3 M3 z => ?_)
  obtain ⟨v5, rfl, rfl, z1, z2, z3, z4, z5⟩ := z
  refine ⟨_, rfl, ?_⟩
  have hL3 := hL2.m z1 z2 z3
  rw [← hkc] at z4
  refine x_lstore (pc := 1111) dL_law_1111 trivial (by decide) (L' := [(7, _), (6, _), (5, _), (4, _), (3, _), (2, _), (1, _), (0, _)]) rfl ?_
  refine x_aload_n (pc := 1113) dL_law_1113 rfl rfl ?_
  refine x_callV (pc := 1114) [] rfl kL_101 dL_law_1114 hMo2.1 rfl rfl ⟨Nat.le_of_ble_eq_true rfl, Nat.le_of_ble_eq_true rfl⟩ (Nat.le_of_ble_eq_true rfl) (Nat.le_of_ble_eq_true rfl) ⟨by show cn + 1 + 0 + 0 ≤ 601024; omega, by show ck + 6 + 0 + 0 ≤ 7293034; omega⟩ ?_
  refine sp_X5_thrown hMo2 (fun _ _ => ⟨_, rfl, ?_⟩)
  rw [z4]
  refine x_iload (pc := 1117) dL_law_1117 rfl ?_
  refine x_icmp_eq (pc := 1119) (t := 1124) dL_law_1119 (by decide) ⟨by omega, by omega⟩ ⟨by omega, by omega⟩ (fun _ => ?_) (fun z => absurd rfl z)
  refine x_iload (pc := 1124) dL_law_1124 rfl ?_
  refine x_if_ne (pc := 1126) (t := 1140) dL_law_1126 (by decide) ⟨by omega, by omega⟩ (fun z => ?_) (fun z => ?_)
  · refine x_goto (pc := 1140) (t := 1890) dL_law_1140 (by decide) ?_
    refine X.loc [2, 3, 4, 5, 6, 7] (L' := [(5, _), (4, _), (3, _), (2, _), (1, _), (0, _)]) rfl ?_
    exact k _ _ _ _ (by show cn + 1 + 0 + 0 ≤ cn + 7; omega) (by show ck + 6 + 0 + 0 ≤ ck + 191; omega) ⟨T, A, u, H, tx, n, v, cm, pg, S, sv, hL3⟩
  · obtain ⟨y9, hy9⟩ := RCJ.zero (rc_rValue : RCJ [nIA] (rValue T p1)) (by rw [← hkc]; exact z)
    have ev : M3 (b + 45) 0 = nmJ y9 := (z1 _ _ (by omega) (by omega) (by omega) (by omega) (by omega)).trans (hy y9 hy9)
    have e9 := z5 y9 hy9
    subst e9
    refine x_aload_n (pc := 1129) dL_law_1129 rfl rfl ?_
    refine x_iconst (pc := 1130) dL_law_1130 ?_
    refine x_lald (pc := 1131) dL_law_1131 hO12 (by omega) (by omega) (fun _ _ => ?_)
    rw [show M3 (b + 45) (0 : Int).toNat = nmJ v5 from ev]
    refine x_lload (pc := 1132) dL_law_1132 rfl ?_
    refine x_lcmp_eq (pc := 1134) (t := 1140) dL_law_1134 dL_law_1135 (by decide) (nmJ_rng _) (nmJ_rng _) (fun _ => ?_) (fun z9 => absurd rfl z9)
    refine x_goto (pc := 1140) (t := 1890) dL_law_1140 (by decide) ?_
    refine X.loc [2, 3, 4, 5, 6, 7] (L' := [(5, _), (4, _), (3, _), (2, _), (1, _), (0, _)]) rfl ?_
    exact k _ _ _ _ (by show cn + 1 + 0 + 0 ≤ cn + 7; omega) (by show ck + 6 + 0 + 0 ≤ ck + 191; omega) ⟨T, A, u, H, tx, n, v, cm, pg, S, sv, hL3⟩
set_option maxRecDepth 100000 in
theorem law_roots {g : GG} {lay : Lay} {M : Mem} {K : KK} {sa len b : Nat} {i : Int} {cn ck : Nat} (G : GoodA) (hL : LI g sa len b lay M) (hi : 0 ≤ i ∧ i + 6 ≤ (len : Int)) (hc : cn + 7 ≤ 601024 ∧ ck + 191 ≤ 7293034) (k : CK g sa len b i cn ck K) : X g m_L_law cn ck lay M 1143 [(5, vI i), (4, vR (b + 46)), (3, vR (b + 45)), (2, vR (b + 32)), (1, vR b), (0, vR sa)] [] K := by
  obtain ⟨T, A, u, H, tx, n, v, cm, pg, S, sv, hL⟩ := hL
  obtain ⟨⟨hg, hsb, hSc, htop, hMo, hO1, hO2⟩, hD, ⟨cT, cA, cR, cC, cP⟩, hR, hSv, ⟨hW, hO, hB⟩, hH, hX⟩ := id hL
  have hu : 0 ≤ (u : Int) ∧ (u : Int) ≤ 12 := ⟨by omega, by have := hH.1; omega⟩
  have hdg : g.2.1 ≤ b + 32 := by omega
  obtain ⟨gB, gC, gM, gE, gF⟩ := id G
  refine x_aload_n (pc := 1143) dL_law_1143 rfl rfl ?_
  refine x_aload_n (pc := 1144) dL_law_1144 rfl rfl ?_
  refine x_iload (pc := 1145) dL_law_1145 rfl ?_
  refine x_iconst (pc := 1147) dL_law_1147 ?_
  refine x_iadd (pc := 1148) dL_law_1148 ?_
  refine x_iald (pc := 1149) dL_law_1149 hSc (by omega) (by omega) (fun a1 b1 => ?_)
  obtain ⟨p1, e1⟩ : ∃ z, z = M sa (i + 1).toNat := ⟨_, rfl⟩
  rw [← e1] at a1 b1 ⊢
  have R1 : i32 p1 := ⟨a1, b1⟩
  refine x_aload_n (pc := 1150) dL_law_1150 rfl rfl ?_
  refine x_iload (pc := 1151) dL_law_1151 rfl ?_
  refine x_iconst (pc := 1153) dL_law_1153 ?_
  refine x_iadd (pc := 1154) dL_law_1154 ?_
  refine x_iald (pc := 1155) dL_law_1155 hSc (by omega) (by omega) (fun a2 b2 => ?_)
  obtain ⟨p2, e2⟩ : ∃ z, z = M sa (i + 2).toNat := ⟨_, rfl⟩
  rw [← e2] at a2 b2 ⊢
  have R2 : i32 p2 := ⟨a2, b2⟩
  refine x_aload_n (pc := 1156) dL_law_1156 rfl rfl ?_
  refine x_callSH (pc := 1157) [_, _, _, _] rfl kh_roots dL_law_1157 rfl ⟨Nat.le_of_ble_eq_true rfl, Nat.le_of_ble_eq_true rfl⟩ (Nat.le_of_ble_eq_true rfl) (Nat.le_of_ble_eq_true rfl) ⟨by show cn + 1 ≤ 601024; omega, by show ck + 6 ≤ 7293034; omega⟩ ?_
  refine sp_L_roots hD.1 (by omega) (hx_IA (r := rRoots T p1 p2) (P := fun l2 M2 => l2.1 = lay.1 ∧ lay.2 ≤ l2.2 ∧ Scr b M M2) (sp_X4_roots gB hD hg cT hW R1 R2 (fun M2 n2 hn hS => ⟨rfl, rfl, hn, hS⟩)) rc_rRoots (fun l2 M2 h => by rw [h.1]; exact hO1) (fun l2 M1 hP M2 hF hy => ?_))
  obtain ⟨q1, q2, q3⟩ := hP
  refine ⟨_, rfl, ?_⟩
  have hL2 := hL.c (M2 := M2) q1 q2 q3 (fun a j z1 z2 => hF a j z1)
  obtain ⟨⟨-, -, hSc2, -, hMo2, hO12, hO22⟩, -, -, ⟨rT, rA, rU, rB, rW, rX, rE, rP, rS⟩, -⟩ := id hL2
  have hsc2 : ∀ j, M2 sa j = M sa j := fun j => (hF _ j (by omega)).trans (q3 _ j (by omega) (by omega) (by omega))
  obtain ⟨kc, hkc⟩ : ∃ z, z = kOf [nIA] (rRoots T p1 p2) := ⟨_, rfl⟩
  have hk9 := kOf_rng [nIA] (rRoots T p1 p2)
  rw [← hkc] at hk9 ⊢
  have hk8 : 0 ≤ kc ∧ kc ≤ 3 := ⟨hk9.1, Int.le_trans hk9.2 (by decide)⟩
  refine x_istore (pc := 1160) dL_law_1160 trivial (by decide) (L' := [(6, _), (5, _), (4, _), (3, _), (2, _), (1, _), (0, _)]) rfl ?_
  refine x_aload_n (pc := 1162) dL_law_1162 rfl rfl ?_
  refine x_aload_n (pc := 1163) dL_law_1163 rfl rfl ?_
  refine x_iload (pc := 1164) dL_law_1164 rfl ?_
  refine x_iconst (pc := 1166) dL_law_1166 ?_
  refine x_iadd (pc := 1167) dL_law_1167 ?_
  refine x_iald (pc := 1168) dL_law_1168 hSc2 (by omega) (by omega) (fun _ _ => ?_)
  rw [show M2 sa (i + 1).toNat = p1 from (hsc2 _).trans e1.symm]
  refine x_aload_n (pc := 1169) dL_law_1169 rfl rfl ?_
  refine x_iload (pc := 1170) dL_law_1170 rfl ?_
  refine x_iconst (pc := 1172) dL_law_1172 ?_
  refine x_iadd (pc := 1173) dL_law_1173 ?_
  refine x_iald (pc := 1174) dL_law_1174 hSc2 (by omega) (by omega) (fun _ _ => ?_)
  rw [show M2 sa (i + 2).toNat = p2 from (hsc2 _).trans e2.symm]
  refine x_callV (pc := 1175) [_, _] rfl kL_175 dL_law_1175 hMo2.1 rfl rfl ⟨Nat.le_of_ble_eq_true rfl, Nat.le_of_ble_eq_true rfl⟩ (Nat.le_of_ble_eq_true rfl) (Nat.le_of_ble_eq_true rfl) ⟨by show cn + 1 + 0 ≤ 601024; omega, by show ck + 6 + 0 ≤ 7293034; omega⟩ ?_
  have h5 : X g m_X5_roots 0 0 l2 M2 0 [(0, vR (b + 32)), (1, vI p1), (2, vI p2)] [] (fun o l3 M3 => ∃ v5 : Int, o = .inl (some (vI v5)) ∧ l3 = l2 ∧ FrQ (b + 32) M2 M3 ∧ RowT T (M3 (b + 32 + 1)) ∧ (∃ N, Bg N M3 (b + 32)) ∧ M3 (b + 32) 0 = kOf [nIA] (rRoots T p1 p2) ∧ ∀ v9, rRoots T p1 p2 = oI v9 → v5 = v9) := sp_X5_roots hMo2 hdg rT hW rB gM gE R1 R2 (fun M3 v5 z1 z2 z3 z4 z5 => ⟨v5, rfl, rfl, z1, z2, z3, z4, z5⟩)
  refine X.norm h5 (fun o l3 M3 z => ?_)
  obtain ⟨v5, rfl, rfl, z1, z2, z3, z4, z5⟩ := z
  refine ⟨_, rfl, ?_⟩
  have hL3 := hL2.m z1 z2 z3
  rw [← hkc] at z4
  refine x_istore (pc := 1178) dL_law_1178 trivial (by decide) (L' := [(7, _), (6, _), (5, _), (4, _), (3, _), (2, _), (1, _), (0, _)]) rfl ?_
  refine x_aload_n (pc := 1180) dL_law_1180 rfl rfl ?_
  refine x_callV (pc := 1181) [] rfl kL_101 dL_law_1181 hMo2.1 rfl rfl ⟨Nat.le_of_ble_eq_true rfl, Nat.le_of_ble_eq_true rfl⟩ (Nat.le_of_ble_eq_true rfl) (Nat.le_of_ble_eq_true rfl) ⟨by show cn + 1 + 0 + 0 ≤ 601024; omega, by show ck + 6 + 0 + 0 ≤ 7293034; omega⟩ ?_
  refine sp_X5_thrown hMo2 (fun _ _ => ⟨_, rfl, ?_⟩)
  rw [z4]
  refine x_iload (pc := 1184) dL_law_1184 rfl ?_
  refine x_icmp_eq (pc := 1186) (t := 1191) dL_law_1186 (by decide) ⟨by omega, by omega⟩ ⟨by omega, by omega⟩ (fun _ => ?_) (fun z => absurd rfl z)
  refine x_iload (pc := 1191) dL_law_1191 rfl ?_
  refine x_if_ne (pc := 1193) (t := 1208) dL_law_1193 (by decide) ⟨by omega, by omega⟩ (fun z => ?_) (fun z => ?_)
  · refine x_goto (pc := 1208) (t := 1890) dL_law_1208 (by decide) ?_
    refine X.loc [2, 3, 4, 5, 6, 7] (L' := [(5, _), (4, _), (3, _), (2, _), (1, _), (0, _)]) rfl ?_
    exact k _ _ _ _ (by show cn + 1 + 0 + 0 ≤ cn + 7; omega) (by show ck + 6 + 0 + 0 ≤ ck + 191; omega) ⟨T, A, u, H, tx, n, v, cm, pg, S, sv, hL3⟩
  · obtain ⟨y9, hy9⟩ := RC.zero (rc_rRoots : RC [nIA] (rRoots T p1 p2)) (by rw [← hkc]; exact z)
    have ev : M3 (b + 45) 0 = nmI y9 := (z1 _ _ (by omega) (by omega) (by omega) (by omega) (by omega)).trans (hy y9 hy9)
    have e9 := z5 y9 hy9
    subst e9
    refine x_aload_n (pc := 1196) dL_law_1196 rfl rfl ?_
    refine x_iconst (pc := 1197) dL_law_1197 ?_
    refine x_lald (pc := 1198) dL_law_1198 hO12 (by omega) (by omega) (fun _ _ => ?_)
    rw [show M3 (b + 45) (0 : Int).toNat = nmI v5 from ev]
    refine x_iload (pc := 1199) dL_law_1199 rfl ?_
    refine x_i2l (pc := 1201) (nmI_rng _) dL_law_1201 ?_
    refine x_lcmp_eq (pc := 1202) (t := 1208) dL_law_1202 dL_law_1203 (by decide) (by have := nmI_rng v5; exact ⟨by omega, by omega⟩) (by have := nmI_rng v5; exact ⟨by omega, by omega⟩) (fun _ => ?_) (fun z9 => absurd rfl z9)
    refine x_goto (pc := 1208) (t := 1890) dL_law_1208 (by decide) ?_
    refine X.loc [2, 3, 4, 5, 6, 7] (L' := [(5, _), (4, _), (3, _), (2, _), (1, _), (0, _)]) rfl ?_
    exact k _ _ _ _ (by show cn + 1 + 0 + 0 ≤ cn + 7; omega) (by show ck + 6 + 0 + 0 ≤ ck + 191; omega) ⟨T, A, u, H, tx, n, v, cm, pg, S, sv, hL3⟩
set_option maxRecDepth 100000 in
theorem law_rootsOfSign {g : GG} {lay : Lay} {M : Mem} {K : KK} {sa len b : Nat} {i : Int} {cn ck : Nat} (G : GoodA) (hL : LI g sa len b lay M) (hi : 0 ≤ i ∧ i + 6 ≤ (len : Int)) (hc : cn + 7 ≤ 601024 ∧ ck + 191 ≤ 7293034) (k : CK g sa len b i cn ck K) : X g m_L_law cn ck lay M 1224 [(5, vI i), (4, vR (b + 46)), (3, vR (b + 45)), (2, vR (b + 32)), (1, vR b), (0, vR sa)] [] K := by
  obtain ⟨T, A, u, H, tx, n, v, cm, pg, S, sv, hL⟩ := hL
  obtain ⟨⟨hg, hsb, hSc, htop, hMo, hO1, hO2⟩, hD, ⟨cT, cA, cR, cC, cP⟩, hR, hSv, ⟨hW, hO, hB⟩, hH, hX⟩ := id hL
  have hu : 0 ≤ (u : Int) ∧ (u : Int) ≤ 12 := ⟨by omega, by have := hH.1; omega⟩
  have hdg : g.2.1 ≤ b + 32 := by omega
  obtain ⟨gB, gC, gM, gE, gF⟩ := id G
  refine x_aload_n (pc := 1224) dL_law_1224 rfl rfl ?_
  refine x_aload_n (pc := 1225) dL_law_1225 rfl rfl ?_
  refine x_iload (pc := 1226) dL_law_1226 rfl ?_
  refine x_iconst (pc := 1228) dL_law_1228 ?_
  refine x_iadd (pc := 1229) dL_law_1229 ?_
  refine x_iald (pc := 1230) dL_law_1230 hSc (by omega) (by omega) (fun a1 b1 => ?_)
  obtain ⟨p1, e1⟩ : ∃ z, z = M sa (i + 1).toNat := ⟨_, rfl⟩
  rw [← e1] at a1 b1 ⊢
  have R1 : i32 p1 := ⟨a1, b1⟩
  refine x_aload_n (pc := 1231) dL_law_1231 rfl rfl ?_
  refine x_callSH (pc := 1232) [_, _, _] rfl kh_rootsOfSign dL_law_1232 rfl ⟨Nat.le_of_ble_eq_true rfl, Nat.le_of_ble_eq_true rfl⟩ (Nat.le_of_ble_eq_true rfl) (Nat.le_of_ble_eq_true rfl) ⟨by show cn + 1 ≤ 601024; omega, by show ck + 6 ≤ 7293034; omega⟩ ?_
  refine sp_L_rootsOfSign hD.1 (by omega) (hx_IA (r := rOfSgn T p1) (P := fun l2 M2 => l2.1 = lay.1 ∧ lay.2 ≤ l2.2 ∧ Scr b M M2) (sp_X4_rootsOfSign gB hD hg cT hW R1 (fun M2 n2 hn hS => ⟨rfl, rfl, hn, hS⟩)) rc_rOfSgn (fun l2 M2 h => by rw [h.1]; exact hO1) (fun l2 M1 hP M2 hF hy => ?_))
  obtain ⟨q1, q2, q3⟩ := hP
  refine ⟨_, rfl, ?_⟩
  have hL2 := hL.c (M2 := M2) q1 q2 q3 (fun a j z1 z2 => hF a j z1)
  obtain ⟨⟨-, -, hSc2, -, hMo2, hO12, hO22⟩, -, -, ⟨rT, rA, rU, rB, rW, rX, rE, rP, rS⟩, -⟩ := id hL2
  have hsc2 : ∀ j, M2 sa j = M sa j := fun j => (hF _ j (by omega)).trans (q3 _ j (by omega) (by omega) (by omega))
  obtain ⟨kc, hkc⟩ : ∃ z, z = kOf [nIA] (rOfSgn T p1) := ⟨_, rfl⟩
  have hk9 := kOf_rng [nIA] (rOfSgn T p1)
  rw [← hkc] at hk9 ⊢
  have hk8 : 0 ≤ kc ∧ kc ≤ 3 := ⟨hk9.1, Int.le_trans hk9.2 (by decide)⟩
  refine x_istore (pc := 1235) dL_law_1235 trivial (by decide) (L' := [(6, _), (5, _), (4, _), (3, _), (2, _), (1, _), (0, _)]) rfl ?_
  refine x_aload_n (pc := 1237) dL_law_1237 rfl rfl ?_
  refine x_aload_n (pc := 1238) dL_law_1238 rfl rfl ?_
  refine x_iload (pc := 1239) dL_law_1239 rfl ?_
  refine x_iconst (pc := 1241) dL_law_1241 ?_
  refine x_iadd (pc := 1242) dL_law_1242 ?_
  refine x_iald (pc := 1243) dL_law_1243 hSc2 (by omega) (by omega) (fun _ _ => ?_)
  rw [show M2 sa (i + 1).toNat = p1 from (hsc2 _).trans e1.symm]
  refine x_callV (pc := 1244) [_] rfl kL_182 dL_law_1244 hMo2.1 rfl rfl ⟨Nat.le_of_ble_eq_true rfl, Nat.le_of_ble_eq_true rfl⟩ (Nat.le_of_ble_eq_true rfl) (Nat.le_of_ble_eq_true rfl) ⟨by show cn + 1 + 0 ≤ 601024; omega, by show ck + 6 + 0 ≤ 7293034; omega⟩ ?_
  have h5 : X g m_X5_rootsOfSign 0 0 l2 M2 0 [(0, vR (b + 32)), (1, vI p1)] [] (fun o l3 M3 => ∃ v5 : Int, o = .inl (some (vI v5)) ∧ l3 = l2 ∧ FrQ (b + 32) M2 M3 ∧ RowT T (M3 (b + 32 + 1)) ∧ (∃ N, Bg N M3 (b + 32)) ∧ M3 (b + 32) 0 = kOf [nIA] (rOfSgn T p1) ∧ ∀ v9, rOfSgn T p1 = oI v9 → v5 = v9) := sp_X5_rootsOfSign hMo2 hdg rT hW rB gM gE gF R1 (fun M3 v5 z1 z2 z3 z4 z5 => ⟨v5, rfl, rfl, z1, z2, z3, z4, z5⟩)
  refine X.norm h5 (fun o l3 M3 z => ?_)
  obtain ⟨v5, rfl, rfl, z1, z2, z3, z4, z5⟩ := z
  refine ⟨_, rfl, ?_⟩
  have hL3 := hL2.m z1 z2 z3
  rw [← hkc] at z4
  refine x_istore (pc := 1247) dL_law_1247 trivial (by decide) (L' := [(7, _), (6, _), (5, _), (4, _), (3, _), (2, _), (1, _), (0, _)]) rfl ?_
  refine x_aload_n (pc := 1249) dL_law_1249 rfl rfl ?_
  refine x_callV (pc := 1250) [] rfl kL_101 dL_law_1250 hMo2.1 rfl rfl ⟨Nat.le_of_ble_eq_true rfl, Nat.le_of_ble_eq_true rfl⟩ (Nat.le_of_ble_eq_true rfl) (Nat.le_of_ble_eq_true rfl) ⟨by show cn + 1 + 0 + 0 ≤ 601024; omega, by show ck + 6 + 0 + 0 ≤ 7293034; omega⟩ ?_
  refine sp_X5_thrown hMo2 (fun _ _ => ⟨_, rfl, ?_⟩)
  rw [z4]
  refine x_iload (pc := 1253) dL_law_1253 rfl ?_
  refine x_icmp_eq (pc := 1255) (t := 1260) dL_law_1255 (by decide) ⟨by omega, by omega⟩ ⟨by omega, by omega⟩ (fun _ => ?_) (fun z => absurd rfl z)
  refine x_iload (pc := 1260) dL_law_1260 rfl ?_
  refine x_if_ne (pc := 1262) (t := 1277) dL_law_1262 (by decide) ⟨by omega, by omega⟩ (fun z => ?_) (fun z => ?_)
  · refine x_goto (pc := 1277) (t := 1890) dL_law_1277 (by decide) ?_
    refine X.loc [2, 3, 4, 5, 6, 7] (L' := [(5, _), (4, _), (3, _), (2, _), (1, _), (0, _)]) rfl ?_
    exact k _ _ _ _ (by show cn + 1 + 0 + 0 ≤ cn + 7; omega) (by show ck + 6 + 0 + 0 ≤ ck + 191; omega) ⟨T, A, u, H, tx, n, v, cm, pg, S, sv, hL3⟩
  · obtain ⟨y9, hy9⟩ := RC.zero (rc_rOfSgn : RC [nIA] (rOfSgn T p1)) (by rw [← hkc]; exact z)
    have ev : M3 (b + 45) 0 = nmI y9 := (z1 _ _ (by omega) (by omega) (by omega) (by omega) (by omega)).trans (hy y9 hy9)
    have e9 := z5 y9 hy9
    subst e9
    refine x_aload_n (pc := 1265) dL_law_1265 rfl rfl ?_
    refine x_iconst (pc := 1266) dL_law_1266 ?_
    refine x_lald (pc := 1267) dL_law_1267 hO12 (by omega) (by omega) (fun _ _ => ?_)
    rw [show M3 (b + 45) (0 : Int).toNat = nmI v5 from ev]
    refine x_iload (pc := 1268) dL_law_1268 rfl ?_
    refine x_i2l (pc := 1270) (nmI_rng _) dL_law_1270 ?_
    refine x_lcmp_eq (pc := 1271) (t := 1277) dL_law_1271 dL_law_1272 (by decide) (by have := nmI_rng v5; exact ⟨by omega, by omega⟩) (by have := nmI_rng v5; exact ⟨by omega, by omega⟩) (fun _ => ?_) (fun z9 => absurd rfl z9)
    refine x_goto (pc := 1277) (t := 1890) dL_law_1277 (by decide) ?_
    refine X.loc [2, 3, 4, 5, 6, 7] (L' := [(5, _), (4, _), (3, _), (2, _), (1, _), (0, _)]) rfl ?_
    exact k _ _ _ _ (by show cn + 1 + 0 + 0 ≤ cn + 7; omega) (by show ck + 6 + 0 + 0 ≤ ck + 191; omega) ⟨T, A, u, H, tx, n, v, cm, pg, S, sv, hL3⟩
set_option maxRecDepth 100000 in
theorem law_multiplicity {g : GG} {lay : Lay} {M : Mem} {K : KK} {sa len b : Nat} {i : Int} {cn ck : Nat} (G : GoodA) (hL : LI g sa len b lay M) (hi : 0 ≤ i ∧ i + 6 ≤ (len : Int)) (hc : cn + 7 ≤ 601024 ∧ ck + 191 ≤ 7293034) (k : CK g sa len b i cn ck K) : X g m_L_law cn ck lay M 1280 [(5, vI i), (4, vR (b + 46)), (3, vR (b + 45)), (2, vR (b + 32)), (1, vR b), (0, vR sa)] [] K := by
  obtain ⟨T, A, u, H, tx, n, v, cm, pg, S, sv, hL⟩ := hL
  obtain ⟨⟨hg, hsb, hSc, htop, hMo, hO1, hO2⟩, hD, ⟨cT, cA, cR, cC, cP⟩, hR, hSv, ⟨hW, hO, hB⟩, hH, hX⟩ := id hL
  have hu : 0 ≤ (u : Int) ∧ (u : Int) ≤ 12 := ⟨by omega, by have := hH.1; omega⟩
  have hdg : g.2.1 ≤ b + 32 := by omega
  obtain ⟨gB, gC, gM, gE, gF⟩ := id G
  refine x_aload_n (pc := 1280) dL_law_1280 rfl rfl ?_
  refine x_aload_n (pc := 1281) dL_law_1281 rfl rfl ?_
  refine x_iload (pc := 1282) dL_law_1282 rfl ?_
  refine x_iconst (pc := 1284) dL_law_1284 ?_
  refine x_iadd (pc := 1285) dL_law_1285 ?_
  refine x_iald (pc := 1286) dL_law_1286 hSc (by omega) (by omega) (fun a1 b1 => ?_)
  obtain ⟨p1, e1⟩ : ∃ z, z = M sa (i + 1).toNat := ⟨_, rfl⟩
  rw [← e1] at a1 b1 ⊢
  have R1 : i32 p1 := ⟨a1, b1⟩
  refine x_aload_n (pc := 1287) dL_law_1287 rfl rfl ?_
  refine x_callSH (pc := 1288) [_, _, _] rfl kh_multiplicity dL_law_1288 rfl ⟨Nat.le_of_ble_eq_true rfl, Nat.le_of_ble_eq_true rfl⟩ (Nat.le_of_ble_eq_true rfl) (Nat.le_of_ble_eq_true rfl) ⟨by show cn + 1 ≤ 601024; omega, by show ck + 6 ≤ 7293034; omega⟩ ?_
  refine sp_L_multiplicity hD.1 (by omega) (hx_IA (r := rMul T p1) (P := fun l2 M2 => l2.1 = lay.1 ∧ lay.2 ≤ l2.2 ∧ Scr b M M2) (sp_X4_multiplicity gB hD hg cT hW R1 (fun M2 n2 hn hS => ⟨rfl, rfl, hn, hS⟩)) rc_rMul (fun l2 M2 h => by rw [h.1]; exact hO1) (fun l2 M1 hP M2 hF hy => ?_))
  obtain ⟨q1, q2, q3⟩ := hP
  refine ⟨_, rfl, ?_⟩
  have hL2 := hL.c (M2 := M2) q1 q2 q3 (fun a j z1 z2 => hF a j z1)
  obtain ⟨⟨-, -, hSc2, -, hMo2, hO12, hO22⟩, -, -, ⟨rT, rA, rU, rB, rW, rX, rE, rP, rS⟩, -⟩ := id hL2
  have hsc2 : ∀ j, M2 sa j = M sa j := fun j => (hF _ j (by omega)).trans (q3 _ j (by omega) (by omega) (by omega))
  obtain ⟨kc, hkc⟩ : ∃ z, z = kOf [nIA] (rMul T p1) := ⟨_, rfl⟩
  have hk9 := kOf_rng [nIA] (rMul T p1)
  rw [← hkc] at hk9 ⊢
  have hk8 : 0 ≤ kc ∧ kc ≤ 3 := ⟨hk9.1, Int.le_trans hk9.2 (by decide)⟩
  refine x_istore (pc := 1291) dL_law_1291 trivial (by decide) (L' := [(6, _), (5, _), (4, _), (3, _), (2, _), (1, _), (0, _)]) rfl ?_
  refine x_aload_n (pc := 1293) dL_law_1293 rfl rfl ?_
  refine x_aload_n (pc := 1294) dL_law_1294 rfl rfl ?_
  refine x_iload (pc := 1295) dL_law_1295 rfl ?_
  refine x_iconst (pc := 1297) dL_law_1297 ?_
  refine x_iadd (pc := 1298) dL_law_1298 ?_
  refine x_iald (pc := 1299) dL_law_1299 hSc2 (by omega) (by omega) (fun _ _ => ?_)
  rw [show M2 sa (i + 1).toNat = p1 from (hsc2 _).trans e1.symm]
  refine x_callV (pc := 1300) [_] rfl kL_185 dL_law_1300 hMo2.1 rfl rfl ⟨Nat.le_of_ble_eq_true rfl, Nat.le_of_ble_eq_true rfl⟩ (Nat.le_of_ble_eq_true rfl) (Nat.le_of_ble_eq_true rfl) ⟨by show cn + 1 + 0 ≤ 601024; omega, by show ck + 6 + 0 ≤ 7293034; omega⟩ ?_
  have h5 : X g m_X5_multiplicity 0 0 l2 M2 0 [(0, vR (b + 32)), (1, vI p1)] [] (fun o l3 M3 => ∃ v5 : Int, o = .inl (some (vI v5)) ∧ l3 = l2 ∧ FrQ (b + 32) M2 M3 ∧ RowT T (M3 (b + 32 + 1)) ∧ (∃ N, Bg N M3 (b + 32)) ∧ M3 (b + 32) 0 = kOf [nIA] (rMul T p1) ∧ ∀ v9, rMul T p1 = oI v9 → v5 = v9) := sp_X5_multiplicity hMo2 hdg rT hW rB gM gE gF R1 (fun M3 v5 z1 z2 z3 z4 z5 => ⟨v5, rfl, rfl, z1, z2, z3, z4, z5⟩)
  refine X.norm h5 (fun o l3 M3 z => ?_)
  obtain ⟨v5, rfl, rfl, z1, z2, z3, z4, z5⟩ := z
  refine ⟨_, rfl, ?_⟩
  have hL3 := hL2.m z1 z2 z3
  rw [← hkc] at z4
  refine x_istore (pc := 1303) dL_law_1303 trivial (by decide) (L' := [(7, _), (6, _), (5, _), (4, _), (3, _), (2, _), (1, _), (0, _)]) rfl ?_
  refine x_aload_n (pc := 1305) dL_law_1305 rfl rfl ?_
  refine x_callV (pc := 1306) [] rfl kL_101 dL_law_1306 hMo2.1 rfl rfl ⟨Nat.le_of_ble_eq_true rfl, Nat.le_of_ble_eq_true rfl⟩ (Nat.le_of_ble_eq_true rfl) (Nat.le_of_ble_eq_true rfl) ⟨by show cn + 1 + 0 + 0 ≤ 601024; omega, by show ck + 6 + 0 + 0 ≤ 7293034; omega⟩ ?_
  refine sp_X5_thrown hMo2 (fun _ _ => ⟨_, rfl, ?_⟩)
  rw [z4]
  refine x_iload (pc := 1309) dL_law_1309 rfl ?_
  refine x_icmp_eq (pc := 1311) (t := 1316) dL_law_1311 (by decide) ⟨by omega, by omega⟩ ⟨by omega, by omega⟩ (fun _ => ?_) (fun z => absurd rfl z)
  refine x_iload (pc := 1316) dL_law_1316 rfl ?_
  refine x_if_ne (pc := 1318) (t := 1333) dL_law_1318 (by decide) ⟨by omega, by omega⟩ (fun z => ?_) (fun z => ?_)
  · refine x_goto (pc := 1333) (t := 1890) dL_law_1333 (by decide) ?_
    refine X.loc [2, 3, 4, 5, 6, 7] (L' := [(5, _), (4, _), (3, _), (2, _), (1, _), (0, _)]) rfl ?_
    exact k _ _ _ _ (by show cn + 1 + 0 + 0 ≤ cn + 7; omega) (by show ck + 6 + 0 + 0 ≤ ck + 191; omega) ⟨T, A, u, H, tx, n, v, cm, pg, S, sv, hL3⟩
  · obtain ⟨y9, hy9⟩ := RC.zero (rc_rMul : RC [nIA] (rMul T p1)) (by rw [← hkc]; exact z)
    have ev : M3 (b + 45) 0 = nmI y9 := (z1 _ _ (by omega) (by omega) (by omega) (by omega) (by omega)).trans (hy y9 hy9)
    have e9 := z5 y9 hy9
    subst e9
    refine x_aload_n (pc := 1321) dL_law_1321 rfl rfl ?_
    refine x_iconst (pc := 1322) dL_law_1322 ?_
    refine x_lald (pc := 1323) dL_law_1323 hO12 (by omega) (by omega) (fun _ _ => ?_)
    rw [show M3 (b + 45) (0 : Int).toNat = nmI v5 from ev]
    refine x_iload (pc := 1324) dL_law_1324 rfl ?_
    refine x_i2l (pc := 1326) (nmI_rng _) dL_law_1326 ?_
    refine x_lcmp_eq (pc := 1327) (t := 1333) dL_law_1327 dL_law_1328 (by decide) (by have := nmI_rng v5; exact ⟨by omega, by omega⟩) (by have := nmI_rng v5; exact ⟨by omega, by omega⟩) (fun _ => ?_) (fun z9 => absurd rfl z9)
    refine x_goto (pc := 1333) (t := 1890) dL_law_1333 (by decide) ?_
    refine X.loc [2, 3, 4, 5, 6, 7] (L' := [(5, _), (4, _), (3, _), (2, _), (1, _), (0, _)]) rfl ?_
    exact k _ _ _ _ (by show cn + 1 + 0 + 0 ≤ cn + 7; omega) (by show ck + 6 + 0 + 0 ≤ ck + 191; omega) ⟨T, A, u, H, tx, n, v, cm, pg, S, sv, hL3⟩
set_option maxRecDepth 100000 in
theorem law_near {g : GG} {lay : Lay} {M : Mem} {K : KK} {sa len b : Nat} {i : Int} {cn ck : Nat} (G : GoodA) (hL : LI g sa len b lay M) (hi : 0 ≤ i ∧ i + 6 ≤ (len : Int)) (hc : cn + 7 ≤ 601024 ∧ ck + 191 ≤ 7293034) (k : CK g sa len b i cn ck K) : X g m_L_law cn ck lay M 1336 [(5, vI i), (4, vR (b + 46)), (3, vR (b + 45)), (2, vR (b + 32)), (1, vR b), (0, vR sa)] [] K := by
  obtain ⟨T, A, u, H, tx, n, v, cm, pg, S, sv, hL⟩ := hL
  obtain ⟨⟨hg, hsb, hSc, htop, hMo, hO1, hO2⟩, hD, ⟨cT, cA, cR, cC, cP⟩, hR, hSv, ⟨hW, hO, hB⟩, hH, hX⟩ := id hL
  have hu : 0 ≤ (u : Int) ∧ (u : Int) ≤ 12 := ⟨by omega, by have := hH.1; omega⟩
  have hdg : g.2.1 ≤ b + 32 := by omega
  obtain ⟨gB, gC, gM, gE, gF⟩ := id G
  refine x_aload_n (pc := 1336) dL_law_1336 rfl rfl ?_
  refine x_aload_n (pc := 1337) dL_law_1337 rfl rfl ?_
  refine x_iload (pc := 1338) dL_law_1338 rfl ?_
  refine x_iconst (pc := 1340) dL_law_1340 ?_
  refine x_iadd (pc := 1341) dL_law_1341 ?_
  refine x_iald (pc := 1342) dL_law_1342 hSc (by omega) (by omega) (fun a1 b1 => ?_)
  obtain ⟨p1, e1⟩ : ∃ z, z = M sa (i + 1).toNat := ⟨_, rfl⟩
  rw [← e1] at a1 b1 ⊢
  have R1 : i32 p1 := ⟨a1, b1⟩
  refine x_aload_n (pc := 1343) dL_law_1343 rfl rfl ?_
  refine x_iload (pc := 1344) dL_law_1344 rfl ?_
  refine x_iconst (pc := 1346) dL_law_1346 ?_
  refine x_iadd (pc := 1347) dL_law_1347 ?_
  refine x_iald (pc := 1348) dL_law_1348 hSc (by omega) (by omega) (fun a2 b2 => ?_)
  obtain ⟨p2, e2⟩ : ∃ z, z = M sa (i + 2).toNat := ⟨_, rfl⟩
  rw [← e2] at a2 b2 ⊢
  have R2 : i32 p2 := ⟨a2, b2⟩
  refine x_aload_n (pc := 1349) dL_law_1349 rfl rfl ?_
  refine x_callSH (pc := 1350) [_, _, _, _] rfl kh_near dL_law_1350 rfl ⟨Nat.le_of_ble_eq_true rfl, Nat.le_of_ble_eq_true rfl⟩ (Nat.le_of_ble_eq_true rfl) (Nat.le_of_ble_eq_true rfl) ⟨by show cn + 1 ≤ 601024; omega, by show ck + 6 ≤ 7293034; omega⟩ ?_
  refine sp_L_near hD.1 (by omega) (hx_IOIA (r := rNear T p1 p2) (P := fun l2 M2 => l2.1 = lay.1 ∧ lay.2 ≤ l2.2 ∧ Scr b M M2) (sp_X4_near gB hD hg cT hW R1 R2 (fun M2 n2 hn hS => ⟨rfl, rfl, hn, hS⟩)) rc_rNear (fun l2 M2 h => by rw [h.1]; exact hO1) (fun l2 M1 hP M2 hF hy => ?_))
  obtain ⟨q1, q2, q3⟩ := hP
  refine ⟨_, rfl, ?_⟩
  have hL2 := hL.c (M2 := M2) q1 q2 q3 (fun a j z1 z2 => hF a j z1)
  obtain ⟨⟨-, -, hSc2, -, hMo2, hO12, hO22⟩, -, -, ⟨rT, rA, rU, rB, rW, rX, rE, rP, rS⟩, -⟩ := id hL2
  have hsc2 : ∀ j, M2 sa j = M sa j := fun j => (hF _ j (by omega)).trans (q3 _ j (by omega) (by omega) (by omega))
  obtain ⟨kc, hkc⟩ : ∃ z, z = kOf [nIO, nIA] (rNear T p1 p2) := ⟨_, rfl⟩
  have hk9 := kOf_rng [nIO, nIA] (rNear T p1 p2)
  rw [← hkc] at hk9 ⊢
  have hk8 : 0 ≤ kc ∧ kc ≤ 3 := ⟨hk9.1, Int.le_trans hk9.2 (by decide)⟩
  refine x_istore (pc := 1353) dL_law_1353 trivial (by decide) (L' := [(6, _), (5, _), (4, _), (3, _), (2, _), (1, _), (0, _)]) rfl ?_
  refine x_aload_n (pc := 1355) dL_law_1355 rfl rfl ?_
  refine x_aload_n (pc := 1356) dL_law_1356 rfl rfl ?_
  refine x_iload (pc := 1357) dL_law_1357 rfl ?_
  refine x_iconst (pc := 1359) dL_law_1359 ?_
  refine x_iadd (pc := 1360) dL_law_1360 ?_
  refine x_iald (pc := 1361) dL_law_1361 hSc2 (by omega) (by omega) (fun _ _ => ?_)
  rw [show M2 sa (i + 1).toNat = p1 from (hsc2 _).trans e1.symm]
  refine x_aload_n (pc := 1362) dL_law_1362 rfl rfl ?_
  refine x_iload (pc := 1363) dL_law_1363 rfl ?_
  refine x_iconst (pc := 1365) dL_law_1365 ?_
  refine x_iadd (pc := 1366) dL_law_1366 ?_
  refine x_iald (pc := 1367) dL_law_1367 hSc2 (by omega) (by omega) (fun _ _ => ?_)
  rw [show M2 sa (i + 2).toNat = p2 from (hsc2 _).trans e2.symm]
  refine x_callV (pc := 1368) [_, _] rfl kL_188 dL_law_1368 hMo2.1 rfl rfl ⟨Nat.le_of_ble_eq_true rfl, Nat.le_of_ble_eq_true rfl⟩ (Nat.le_of_ble_eq_true rfl) (Nat.le_of_ble_eq_true rfl) ⟨by show cn + 1 + 0 ≤ 601024; omega, by show ck + 6 + 0 ≤ 7293034; omega⟩ ?_
  have h5 : X g m_X5_near 0 0 l2 M2 0 [(0, vR (b + 32)), (1, vI p1), (2, vI p2)] [] (fun o l3 M3 => ∃ v5 : Int, o = .inl (some (vI v5)) ∧ l3 = l2 ∧ FrQ (b + 32) M2 M3 ∧ RowT T (M3 (b + 32 + 1)) ∧ (∃ N, Bg N M3 (b + 32)) ∧ M3 (b + 32) 0 = kOf [nIO, nIA] (rNear T p1 p2) ∧ ∀ v9, rNear T p1 p2 = oI v9 → v5 = v9) := sp_X5_near hMo2 hdg rT hW rB gM gE gF R1 R2 (fun M3 v5 z1 z2 z3 z4 z5 => ⟨v5, rfl, rfl, z1, z2, z3, z4, z5⟩)
  refine X.norm h5 (fun o l3 M3 z => ?_)
  obtain ⟨v5, rfl, rfl, z1, z2, z3, z4, z5⟩ := z
  refine ⟨_, rfl, ?_⟩
  have hL3 := hL2.m z1 z2 z3
  rw [← hkc] at z4
  refine x_istore (pc := 1371) dL_law_1371 trivial (by decide) (L' := [(7, _), (6, _), (5, _), (4, _), (3, _), (2, _), (1, _), (0, _)]) rfl ?_
  refine x_aload_n (pc := 1373) dL_law_1373 rfl rfl ?_
  refine x_callV (pc := 1374) [] rfl kL_101 dL_law_1374 hMo2.1 rfl rfl ⟨Nat.le_of_ble_eq_true rfl, Nat.le_of_ble_eq_true rfl⟩ (Nat.le_of_ble_eq_true rfl) (Nat.le_of_ble_eq_true rfl) ⟨by show cn + 1 + 0 + 0 ≤ 601024; omega, by show ck + 6 + 0 + 0 ≤ 7293034; omega⟩ ?_
  refine sp_X5_thrown hMo2 (fun _ _ => ⟨_, rfl, ?_⟩)
  rw [z4]
  refine x_iload (pc := 1377) dL_law_1377 rfl ?_
  refine x_icmp_eq (pc := 1379) (t := 1384) dL_law_1379 (by decide) ⟨by omega, by omega⟩ ⟨by omega, by omega⟩ (fun _ => ?_) (fun z => absurd rfl z)
  refine x_iload (pc := 1384) dL_law_1384 rfl ?_
  refine x_if_ne (pc := 1386) (t := 1401) dL_law_1386 (by decide) ⟨by omega, by omega⟩ (fun z => ?_) (fun z => ?_)
  · refine x_goto (pc := 1401) (t := 1890) dL_law_1401 (by decide) ?_
    refine X.loc [2, 3, 4, 5, 6, 7] (L' := [(5, _), (4, _), (3, _), (2, _), (1, _), (0, _)]) rfl ?_
    exact k _ _ _ _ (by show cn + 1 + 0 + 0 ≤ cn + 7; omega) (by show ck + 6 + 0 + 0 ≤ ck + 191; omega) ⟨T, A, u, H, tx, n, v, cm, pg, S, sv, hL3⟩
  · obtain ⟨y9, hy9⟩ := RC.zero (rc_rNear : RC [nIO, nIA] (rNear T p1 p2)) (by rw [← hkc]; exact z)
    have ev : M3 (b + 45) 0 = nmI y9 := (z1 _ _ (by omega) (by omega) (by omega) (by omega) (by omega)).trans (hy y9 hy9)
    have e9 := z5 y9 hy9
    subst e9
    refine x_aload_n (pc := 1389) dL_law_1389 rfl rfl ?_
    refine x_iconst (pc := 1390) dL_law_1390 ?_
    refine x_lald (pc := 1391) dL_law_1391 hO12 (by omega) (by omega) (fun _ _ => ?_)
    rw [show M3 (b + 45) (0 : Int).toNat = nmI v5 from ev]
    refine x_iload (pc := 1392) dL_law_1392 rfl ?_
    refine x_i2l (pc := 1394) (nmI_rng _) dL_law_1394 ?_
    refine x_lcmp_eq (pc := 1395) (t := 1401) dL_law_1395 dL_law_1396 (by decide) (by have := nmI_rng v5; exact ⟨by omega, by omega⟩) (by have := nmI_rng v5; exact ⟨by omega, by omega⟩) (fun _ => ?_) (fun z9 => absurd rfl z9)
    refine x_goto (pc := 1401) (t := 1890) dL_law_1401 (by decide) ?_
    refine X.loc [2, 3, 4, 5, 6, 7] (L' := [(5, _), (4, _), (3, _), (2, _), (1, _), (0, _)]) rfl ?_
    exact k _ _ _ _ (by show cn + 1 + 0 + 0 ≤ cn + 7; omega) (by show ck + 6 + 0 + 0 ≤ ck + 191; omega) ⟨T, A, u, H, tx, n, v, cm, pg, S, sv, hL3⟩
set_option maxRecDepth 100000 in
theorem law_root {g : GG} {lay : Lay} {M : Mem} {K : KK} {sa len b : Nat} {i : Int} {cn ck : Nat} (G : GoodA) (hL : LI g sa len b lay M) (hi : 0 ≤ i ∧ i + 6 ≤ (len : Int)) (hc : cn + 7 ≤ 601024 ∧ ck + 191 ≤ 7293034) (k : CK g sa len b i cn ck K) : X g m_L_law cn ck lay M 1404 [(5, vI i), (4, vR (b + 46)), (3, vR (b + 45)), (2, vR (b + 32)), (1, vR b), (0, vR sa)] [] K := by
  obtain ⟨T, A, u, H, tx, n, v, cm, pg, S, sv, hL⟩ := hL
  obtain ⟨⟨hg, hsb, hSc, htop, hMo, hO1, hO2⟩, hD, ⟨cT, cA, cR, cC, cP⟩, hR, hSv, ⟨hW, hO, hB⟩, hH, hX⟩ := id hL
  have hu : 0 ≤ (u : Int) ∧ (u : Int) ≤ 12 := ⟨by omega, by have := hH.1; omega⟩
  have hdg : g.2.1 ≤ b + 32 := by omega
  obtain ⟨gB, gC, gM, gE, gF⟩ := id G
  refine x_aload_n (pc := 1404) dL_law_1404 rfl rfl ?_
  refine x_aload_n (pc := 1405) dL_law_1405 rfl rfl ?_
  refine x_iload (pc := 1406) dL_law_1406 rfl ?_
  refine x_iconst (pc := 1408) dL_law_1408 ?_
  refine x_iadd (pc := 1409) dL_law_1409 ?_
  refine x_iald (pc := 1410) dL_law_1410 hSc (by omega) (by omega) (fun a1 b1 => ?_)
  obtain ⟨p1, e1⟩ : ∃ z, z = M sa (i + 1).toNat := ⟨_, rfl⟩
  rw [← e1] at a1 b1 ⊢
  have R1 : i32 p1 := ⟨a1, b1⟩
  refine x_aload (pc := 1411) dL_law_1411 rfl ?_
  refine x_callSH (pc := 1413) [_, _, _] rfl kh_root dL_law_1413 rfl ⟨Nat.le_of_ble_eq_true rfl, Nat.le_of_ble_eq_true rfl⟩ (Nat.le_of_ble_eq_true rfl) (Nat.le_of_ble_eq_true rfl) ⟨by show cn + 1 ≤ 601024; omega, by show ck + 6 ≤ 7293034; omega⟩ ?_
  refine sp_L_root hD.1 (by omega) (hxD_IO (r := rRoot T p1) (P := fun l2 M2 => l2.1 = lay.1 ∧ lay.2 ≤ l2.2 ∧ Scr b M M2) (sp_X4_root gB hD hg cT hW R1 (fun M2 n2 hn hS => ⟨rfl, rfl, hn, hS⟩)) rc_rRoot (fun l2 M2 h => by rw [h.1]; exact hO2) (fun l2 M1 hP M2 hF hy => ?_))
  obtain ⟨q1, q2, q3⟩ := hP
  refine ⟨_, rfl, ?_⟩
  have hL2 := hL.c (M2 := M2) q1 q2 q3 (fun a j z1 z2 => hF a j z2)
  obtain ⟨⟨-, -, hSc2, -, hMo2, hO12, hO22⟩, -, -, ⟨rT, rA, rU, rB, rW, rX, rE, rP, rS⟩, -⟩ := id hL2
  have hsc2 : ∀ j, M2 sa j = M sa j := fun j => (hF _ j (by omega)).trans (q3 _ j (by omega) (by omega) (by omega))
  obtain ⟨kc, hkc⟩ : ∃ z, z = kOf [nIO] (rRoot T p1) := ⟨_, rfl⟩
  have hk9 := kOf_rng [nIO] (rRoot T p1)
  rw [← hkc] at hk9 ⊢
  have hk8 : 0 ≤ kc ∧ kc ≤ 3 := ⟨hk9.1, Int.le_trans hk9.2 (by decide)⟩
  refine x_istore (pc := 1416) dL_law_1416 trivial (by decide) (L' := [(6, _), (5, _), (4, _), (3, _), (2, _), (1, _), (0, _)]) rfl ?_
  refine x_aload_n (pc := 1418) dL_law_1418 rfl rfl ?_
  refine x_aload_n (pc := 1419) dL_law_1419 rfl rfl ?_
  refine x_iload (pc := 1420) dL_law_1420 rfl ?_
  refine x_iconst (pc := 1422) dL_law_1422 ?_
  refine x_iadd (pc := 1423) dL_law_1423 ?_
  refine x_iald (pc := 1424) dL_law_1424 hSc2 (by omega) (by omega) (fun _ _ => ?_)
  rw [show M2 sa (i + 1).toNat = p1 from (hsc2 _).trans e1.symm]
  refine x_callV (pc := 1425) [_] rfl kL_192 dL_law_1425 hMo2.1 rfl rfl ⟨Nat.le_of_ble_eq_true rfl, Nat.le_of_ble_eq_true rfl⟩ (Nat.le_of_ble_eq_true rfl) (Nat.le_of_ble_eq_true rfl) ⟨by show cn + 1 + 0 ≤ 601024; omega, by show ck + 6 + 0 ≤ 7293034; omega⟩ ?_
  have h5 : X g m_X5_root 0 0 l2 M2 0 [(0, vR (b + 32)), (1, vI p1)] [] (fun o l3 M3 => ∃ v5 : UInt64, o = .inl (some (vD v5)) ∧ l3 = l2 ∧ FrQ (b + 32) M2 M3 ∧ RowT T (M3 (b + 32 + 1)) ∧ (∃ N, Bg N M3 (b + 32)) ∧ M3 (b + 32) 0 = kOf [nIO] (rRoot T p1) ∧ ∀ v9, rRoot T p1 = .inl (some (vD v9)) → v5 = v9) := sp_X5_root hMo2 hdg rT hW rB gM gE gF R1 (fun M3 v5 z1 z2 z3 z4 z5 => ⟨v5, rfl, rfl, z1, z2, z3, z4, z5⟩)
  refine X.norm h5 (fun o l3 M3 z => ?_)
  obtain ⟨v5, rfl, rfl, z1, z2, z3, z4, z5⟩ := z
  refine ⟨_, rfl, ?_⟩
  have hL3 := hL2.m z1 z2 z3
  rw [← hkc] at z4
  refine x_dstore (pc := 1428) dL_law_1428 trivial (by decide) (L' := [(7, _), (6, _), (5, _), (4, _), (3, _), (2, _), (1, _), (0, _)]) rfl ?_
  refine x_aload_n (pc := 1430) dL_law_1430 rfl rfl ?_
  refine x_callV (pc := 1431) [] rfl kL_101 dL_law_1431 hMo2.1 rfl rfl ⟨Nat.le_of_ble_eq_true rfl, Nat.le_of_ble_eq_true rfl⟩ (Nat.le_of_ble_eq_true rfl) (Nat.le_of_ble_eq_true rfl) ⟨by show cn + 1 + 0 + 0 ≤ 601024; omega, by show ck + 6 + 0 + 0 ≤ 7293034; omega⟩ ?_
  refine sp_X5_thrown hMo2 (fun _ _ => ⟨_, rfl, ?_⟩)
  rw [z4]
  refine x_iload (pc := 1434) dL_law_1434 rfl ?_
  refine x_icmp_eq (pc := 1436) (t := 1441) dL_law_1436 (by decide) ⟨by omega, by omega⟩ ⟨by omega, by omega⟩ (fun _ => ?_) (fun z => absurd rfl z)
  refine x_iload (pc := 1441) dL_law_1441 rfl ?_
  refine x_if_ne (pc := 1443) (t := 1478) dL_law_1443 (by decide) ⟨by omega, by omega⟩ (fun z => ?_) (fun z => ?_)
  · refine x_goto (pc := 1478) (t := 1890) dL_law_1478 (by decide) ?_
    refine X.loc [2, 3, 4, 5, 6, 7] (L' := [(5, _), (4, _), (3, _), (2, _), (1, _), (0, _)]) rfl ?_
    exact k _ _ _ _ (by show cn + 1 + 0 + 0 ≤ cn + 7; omega) (by show ck + 6 + 0 + 0 ≤ ck + 191; omega) ⟨T, A, u, H, tx, n, v, cm, pg, S, sv, hL3⟩
  · obtain ⟨y9, hy9⟩ := RCD.zero (rc_rRoot : RCD [nIO] (rRoot T p1)) (by rw [← hkc]; exact z)
    have ev : M3 (b + 46) 0 = (y9.toNat : Int) := (z1 _ _ (by omega) (by omega) (by omega) (by omega) (by omega)).trans (hy y9 hy9)
    have e9 := z5 y9 hy9
    subst e9
    have ed : UInt64.ofNat (M3 (b + 46) 0).toNat = v5 := by rw [ev, Int.toNat_natCast, UInt64.ofNat_toNat]
    obtain ⟨w, hw⟩ : ∃ w, w = (Op.cmpValue (FP.dcmp v5 v5) .l).toInt := ⟨_, rfl⟩
    have hwr : i32 w := ⟨by have := Int32.le_toInt (Op.cmpValue (FP.dcmp v5 v5) .l); omega, by have := Int32.toInt_lt (Op.cmpValue (FP.dcmp v5 v5) .l); omega⟩
    refine x_aload (pc := 1446) dL_law_1446 rfl ?_
    refine x_iconst (pc := 1448) dL_law_1448 ?_
    refine x_dald (pc := 1449) dL_law_1449 hO22 (by omega) (by omega) (fun _ => ?_)
    rw [show UInt64.ofNat (M3 (b + 46) (0 : Int).toNat).toNat = v5 from ed]
    refine x_dload (pc := 1450) dL_law_1450 rfl ?_
    refine x_dcmp (pc := 1452) dL_law_1452 ?_
    rw [← hw]
    refine x_if_eq (pc := 1453) (t := 1478) dL_law_1453 (by decide) hwr (fun z9 => ?_) (fun z9 => ?_)
    · refine x_goto (pc := 1478) (t := 1890) dL_law_1478 (by decide) ?_
      refine X.loc [2, 3, 4, 5, 6, 7] (L' := [(5, _), (4, _), (3, _), (2, _), (1, _), (0, _)]) rfl ?_
      exact k _ _ _ _ (by show cn + 1 + 0 + 0 ≤ cn + 7; omega) (by show ck + 6 + 0 + 0 ≤ ck + 191; omega) ⟨T, A, u, H, tx, n, v, cm, pg, S, sv, hL3⟩
    · refine x_aload (pc := 1456) dL_law_1456 rfl ?_
      refine x_iconst (pc := 1458) dL_law_1458 ?_
      refine x_dald (pc := 1459) dL_law_1459 hO22 (by omega) (by omega) (fun _ => ?_)
      rw [show UInt64.ofNat (M3 (b + 46) (0 : Int).toNat).toNat = v5 from ed]
      refine x_aload (pc := 1460) dL_law_1460 rfl ?_
      refine x_iconst (pc := 1462) dL_law_1462 ?_
      refine x_dald (pc := 1463) dL_law_1463 hO22 (by omega) (by omega) (fun _ => ?_)
      rw [show UInt64.ofNat (M3 (b + 46) (0 : Int).toNat).toNat = v5 from ed]
      refine x_dcmp (pc := 1464) dL_law_1464 ?_
      rw [← hw]
      refine x_if_eq (pc := 1465) (t := 1476) dL_law_1465 (by decide) hwr (fun z8 => absurd z8 z9) (fun _ => ?_)
      refine x_dload (pc := 1468) dL_law_1468 rfl ?_
      refine x_dload (pc := 1470) dL_law_1470 rfl ?_
      refine x_dcmp (pc := 1472) dL_law_1472 ?_
      rw [← hw]
      refine x_if_ne (pc := 1473) (t := 1478) dL_law_1473 (by decide) hwr (fun _ => ?_) (fun z8 => absurd z8 z9)
      refine x_goto (pc := 1478) (t := 1890) dL_law_1478 (by decide) ?_
      refine X.loc [2, 3, 4, 5, 6, 7] (L' := [(5, _), (4, _), (3, _), (2, _), (1, _), (0, _)]) rfl ?_
      exact k _ _ _ _ (by show cn + 1 + 0 + 0 ≤ cn + 7; omega) (by show ck + 6 + 0 + 0 ≤ ck + 191; omega) ⟨T, A, u, H, tx, n, v, cm, pg, S, sv, hL3⟩
set_option maxRecDepth 100000 in
theorem law_rowDegree {g : GG} {lay : Lay} {M : Mem} {K : KK} {sa len b : Nat} {i : Int} {cn ck : Nat} (G : GoodA) (hL : LI g sa len b lay M) (hi : 0 ≤ i ∧ i + 6 ≤ (len : Int)) (hc : cn + 7 ≤ 601024 ∧ ck + 191 ≤ 7293034) (k : CK g sa len b i cn ck K) : X g m_L_law cn ck lay M 1494 [(5, vI i), (4, vR (b + 46)), (3, vR (b + 45)), (2, vR (b + 32)), (1, vR b), (0, vR sa)] [] K := by
  obtain ⟨T, A, u, H, tx, n, v, cm, pg, S, sv, hL⟩ := hL
  obtain ⟨⟨hg, hsb, hSc, htop, hMo, hO1, hO2⟩, hD, ⟨cT, cA, cR, cC, cP⟩, hR, hSv, ⟨hW, hO, hB⟩, hH, hX⟩ := id hL
  have hu : 0 ≤ (u : Int) ∧ (u : Int) ≤ 12 := ⟨by omega, by have := hH.1; omega⟩
  have hdg : g.2.1 ≤ b + 32 := by omega
  obtain ⟨gB, gC, gM, gE, gF⟩ := id G
  refine x_aload_n (pc := 1494) dL_law_1494 rfl rfl ?_
  refine x_aload_n (pc := 1495) dL_law_1495 rfl rfl ?_
  refine x_iload (pc := 1496) dL_law_1496 rfl ?_
  refine x_iconst (pc := 1498) dL_law_1498 ?_
  refine x_iadd (pc := 1499) dL_law_1499 ?_
  refine x_iald (pc := 1500) dL_law_1500 hSc (by omega) (by omega) (fun a1 b1 => ?_)
  obtain ⟨p1, e1⟩ : ∃ z, z = M sa (i + 1).toNat := ⟨_, rfl⟩
  rw [← e1] at a1 b1 ⊢
  have R1 : i32 p1 := ⟨a1, b1⟩
  refine x_aload_n (pc := 1501) dL_law_1501 rfl rfl ?_
  refine x_callSH (pc := 1502) [_, _, _] rfl kh_rowDegree dL_law_1502 rfl ⟨Nat.le_of_ble_eq_true rfl, Nat.le_of_ble_eq_true rfl⟩ (Nat.le_of_ble_eq_true rfl) (Nat.le_of_ble_eq_true rfl) ⟨by show cn + 1 ≤ 601024; omega, by show ck + 6 ≤ 7293034; omega⟩ ?_
  refine sp_L_rowDegree hD.1 (by omega) (hx_IO (r := rRowDeg T p1) (P := fun l2 M2 => l2.1 = lay.1 ∧ lay.2 ≤ l2.2 ∧ Scr b M M2) (sp_X4_rowDegree gB hD hg cT hW R1 (fun M2 n2 hn hS => ⟨rfl, rfl, hn, hS⟩)) rc_rRowDeg (fun l2 M2 h => by rw [h.1]; exact hO1) (fun l2 M1 hP M2 hF hy => ?_))
  obtain ⟨q1, q2, q3⟩ := hP
  refine ⟨_, rfl, ?_⟩
  have hL2 := hL.c (M2 := M2) q1 q2 q3 (fun a j z1 z2 => hF a j z1)
  obtain ⟨⟨-, -, hSc2, -, hMo2, hO12, hO22⟩, -, -, ⟨rT, rA, rU, rB, rW, rX, rE, rP, rS⟩, -⟩ := id hL2
  have hsc2 : ∀ j, M2 sa j = M sa j := fun j => (hF _ j (by omega)).trans (q3 _ j (by omega) (by omega) (by omega))
  obtain ⟨kc, hkc⟩ : ∃ z, z = kOf [nIO] (rRowDeg T p1) := ⟨_, rfl⟩
  have hk9 := kOf_rng [nIO] (rRowDeg T p1)
  rw [← hkc] at hk9 ⊢
  have hk8 : 0 ≤ kc ∧ kc ≤ 3 := ⟨hk9.1, Int.le_trans hk9.2 (by decide)⟩
  refine x_istore (pc := 1505) dL_law_1505 trivial (by decide) (L' := [(6, _), (5, _), (4, _), (3, _), (2, _), (1, _), (0, _)]) rfl ?_
  refine x_aload_n (pc := 1507) dL_law_1507 rfl rfl ?_
  refine x_aload_n (pc := 1508) dL_law_1508 rfl rfl ?_
  refine x_iload (pc := 1509) dL_law_1509 rfl ?_
  refine x_iconst (pc := 1511) dL_law_1511 ?_
  refine x_iadd (pc := 1512) dL_law_1512 ?_
  refine x_iald (pc := 1513) dL_law_1513 hSc2 (by omega) (by omega) (fun _ _ => ?_)
  rw [show M2 sa (i + 1).toNat = p1 from (hsc2 _).trans e1.symm]
  refine x_callV (pc := 1514) [_] rfl kL_199 dL_law_1514 hMo2.1 rfl rfl ⟨Nat.le_of_ble_eq_true rfl, Nat.le_of_ble_eq_true rfl⟩ (Nat.le_of_ble_eq_true rfl) (Nat.le_of_ble_eq_true rfl) ⟨by show cn + 1 + 0 ≤ 601024; omega, by show ck + 6 + 0 ≤ 7293034; omega⟩ ?_
  have h5 : X g m_X5_rowDegree 0 0 l2 M2 0 [(0, vR (b + 32)), (1, vI p1)] [] (fun o l3 M3 => ∃ v5 : Int, o = .inl (some (vI v5)) ∧ l3 = l2 ∧ FrQ (b + 32) M2 M3 ∧ RowT T (M3 (b + 32 + 1)) ∧ (∃ N, Bg N M3 (b + 32)) ∧ M3 (b + 32) 0 = kOf [nIO] (rRowDeg T p1) ∧ ∀ v9, rRowDeg T p1 = oI v9 → v5 = v9) := sp_X5_rowDegree hMo2 hdg rT hW rB gM gE gF R1 (fun M3 v5 z1 z2 z3 z4 z5 => ⟨v5, rfl, rfl, z1, z2, z3, z4, z5⟩)
  refine X.norm h5 (fun o l3 M3 z => ?_)
  obtain ⟨v5, rfl, rfl, z1, z2, z3, z4, z5⟩ := z
  refine ⟨_, rfl, ?_⟩
  have hL3 := hL2.m z1 z2 z3
  rw [← hkc] at z4
  refine x_istore (pc := 1517) dL_law_1517 trivial (by decide) (L' := [(7, _), (6, _), (5, _), (4, _), (3, _), (2, _), (1, _), (0, _)]) rfl ?_
  refine x_aload_n (pc := 1519) dL_law_1519 rfl rfl ?_
  refine x_callV (pc := 1520) [] rfl kL_101 dL_law_1520 hMo2.1 rfl rfl ⟨Nat.le_of_ble_eq_true rfl, Nat.le_of_ble_eq_true rfl⟩ (Nat.le_of_ble_eq_true rfl) (Nat.le_of_ble_eq_true rfl) ⟨by show cn + 1 + 0 + 0 ≤ 601024; omega, by show ck + 6 + 0 + 0 ≤ 7293034; omega⟩ ?_
  refine sp_X5_thrown hMo2 (fun _ _ => ⟨_, rfl, ?_⟩)
  rw [z4]
  refine x_iload (pc := 1523) dL_law_1523 rfl ?_
  refine x_icmp_eq (pc := 1525) (t := 1530) dL_law_1525 (by decide) ⟨by omega, by omega⟩ ⟨by omega, by omega⟩ (fun _ => ?_) (fun z => absurd rfl z)
  refine x_iload (pc := 1530) dL_law_1530 rfl ?_
  refine x_if_ne (pc := 1532) (t := 1547) dL_law_1532 (by decide) ⟨by omega, by omega⟩ (fun z => ?_) (fun z => ?_)
  · refine x_goto (pc := 1547) (t := 1890) dL_law_1547 (by decide) ?_
    refine X.loc [2, 3, 4, 5, 6, 7] (L' := [(5, _), (4, _), (3, _), (2, _), (1, _), (0, _)]) rfl ?_
    exact k _ _ _ _ (by show cn + 1 + 0 + 0 ≤ cn + 7; omega) (by show ck + 6 + 0 + 0 ≤ ck + 191; omega) ⟨T, A, u, H, tx, n, v, cm, pg, S, sv, hL3⟩
  · obtain ⟨y9, hy9⟩ := RC.zero (rc_rRowDeg : RC [nIO] (rRowDeg T p1)) (by rw [← hkc]; exact z)
    have ev : M3 (b + 45) 0 = nmI y9 := (z1 _ _ (by omega) (by omega) (by omega) (by omega) (by omega)).trans (hy y9 hy9)
    have e9 := z5 y9 hy9
    subst e9
    refine x_aload_n (pc := 1535) dL_law_1535 rfl rfl ?_
    refine x_iconst (pc := 1536) dL_law_1536 ?_
    refine x_lald (pc := 1537) dL_law_1537 hO12 (by omega) (by omega) (fun _ _ => ?_)
    rw [show M3 (b + 45) (0 : Int).toNat = nmI v5 from ev]
    refine x_iload (pc := 1538) dL_law_1538 rfl ?_
    refine x_i2l (pc := 1540) (nmI_rng _) dL_law_1540 ?_
    refine x_lcmp_eq (pc := 1541) (t := 1547) dL_law_1541 dL_law_1542 (by decide) (by have := nmI_rng v5; exact ⟨by omega, by omega⟩) (by have := nmI_rng v5; exact ⟨by omega, by omega⟩) (fun _ => ?_) (fun z9 => absurd rfl z9)
    refine x_goto (pc := 1547) (t := 1890) dL_law_1547 (by decide) ?_
    refine X.loc [2, 3, 4, 5, 6, 7] (L' := [(5, _), (4, _), (3, _), (2, _), (1, _), (0, _)]) rfl ?_
    exact k _ _ _ _ (by show cn + 1 + 0 + 0 ≤ cn + 7; omega) (by show ck + 6 + 0 + 0 ≤ ck + 191; omega) ⟨T, A, u, H, tx, n, v, cm, pg, S, sv, hL3⟩
set_option maxRecDepth 100000 in
theorem law_rowSign {g : GG} {lay : Lay} {M : Mem} {K : KK} {sa len b : Nat} {i : Int} {cn ck : Nat} (G : GoodA) (hL : LI g sa len b lay M) (hi : 0 ≤ i ∧ i + 6 ≤ (len : Int)) (hc : cn + 7 ≤ 601024 ∧ ck + 191 ≤ 7293034) (k : CK g sa len b i cn ck K) : X g m_L_law cn ck lay M 1550 [(5, vI i), (4, vR (b + 46)), (3, vR (b + 45)), (2, vR (b + 32)), (1, vR b), (0, vR sa)] [] K := by
  obtain ⟨T, A, u, H, tx, n, v, cm, pg, S, sv, hL⟩ := hL
  obtain ⟨⟨hg, hsb, hSc, htop, hMo, hO1, hO2⟩, hD, ⟨cT, cA, cR, cC, cP⟩, hR, hSv, ⟨hW, hO, hB⟩, hH, hX⟩ := id hL
  have hu : 0 ≤ (u : Int) ∧ (u : Int) ≤ 12 := ⟨by omega, by have := hH.1; omega⟩
  have hdg : g.2.1 ≤ b + 32 := by omega
  obtain ⟨gB, gC, gM, gE, gF⟩ := id G
  refine x_aload_n (pc := 1550) dL_law_1550 rfl rfl ?_
  refine x_aload_n (pc := 1551) dL_law_1551 rfl rfl ?_
  refine x_iload (pc := 1552) dL_law_1552 rfl ?_
  refine x_iconst (pc := 1554) dL_law_1554 ?_
  refine x_iadd (pc := 1555) dL_law_1555 ?_
  refine x_iald (pc := 1556) dL_law_1556 hSc (by omega) (by omega) (fun a1 b1 => ?_)
  obtain ⟨p1, e1⟩ : ∃ z, z = M sa (i + 1).toNat := ⟨_, rfl⟩
  rw [← e1] at a1 b1 ⊢
  have R1 : i32 p1 := ⟨a1, b1⟩
  refine x_aload_n (pc := 1557) dL_law_1557 rfl rfl ?_
  refine x_iload (pc := 1558) dL_law_1558 rfl ?_
  refine x_iconst (pc := 1560) dL_law_1560 ?_
  refine x_iadd (pc := 1561) dL_law_1561 ?_
  refine x_iald (pc := 1562) dL_law_1562 hSc (by omega) (by omega) (fun a2 b2 => ?_)
  obtain ⟨p2, e2⟩ : ∃ z, z = M sa (i + 2).toNat := ⟨_, rfl⟩
  rw [← e2] at a2 b2 ⊢
  have R2 : i32 p2 := ⟨a2, b2⟩
  refine x_aload_n (pc := 1563) dL_law_1563 rfl rfl ?_
  refine x_callSH (pc := 1564) [_, _, _, _] rfl kh_rowSign dL_law_1564 rfl ⟨Nat.le_of_ble_eq_true rfl, Nat.le_of_ble_eq_true rfl⟩ (Nat.le_of_ble_eq_true rfl) (Nat.le_of_ble_eq_true rfl) ⟨by show cn + 1 ≤ 601024; omega, by show ck + 6 ≤ 7293034; omega⟩ ?_
  refine sp_L_rowSign hD.1 (by omega) (hx_IOIA (r := rRowSign T p1 p2) (P := fun l2 M2 => l2.1 = lay.1 ∧ lay.2 ≤ l2.2 ∧ Scr b M M2) (sp_X4_rowSign gB hD hg cT hW R1 R2 (fun M2 n2 hn hS => ⟨rfl, rfl, hn, hS⟩)) rc_rRowSign (fun l2 M2 h => by rw [h.1]; exact hO1) (fun l2 M1 hP M2 hF hy => ?_))
  obtain ⟨q1, q2, q3⟩ := hP
  refine ⟨_, rfl, ?_⟩
  have hL2 := hL.c (M2 := M2) q1 q2 q3 (fun a j z1 z2 => hF a j z1)
  obtain ⟨⟨-, -, hSc2, -, hMo2, hO12, hO22⟩, -, -, ⟨rT, rA, rU, rB, rW, rX, rE, rP, rS⟩, -⟩ := id hL2
  have hsc2 : ∀ j, M2 sa j = M sa j := fun j => (hF _ j (by omega)).trans (q3 _ j (by omega) (by omega) (by omega))
  obtain ⟨kc, hkc⟩ : ∃ z, z = kOf [nIO, nIA] (rRowSign T p1 p2) := ⟨_, rfl⟩
  have hk9 := kOf_rng [nIO, nIA] (rRowSign T p1 p2)
  rw [← hkc] at hk9 ⊢
  have hk8 : 0 ≤ kc ∧ kc ≤ 3 := ⟨hk9.1, Int.le_trans hk9.2 (by decide)⟩
  refine x_istore (pc := 1567) dL_law_1567 trivial (by decide) (L' := [(6, _), (5, _), (4, _), (3, _), (2, _), (1, _), (0, _)]) rfl ?_
  refine x_aload_n (pc := 1569) dL_law_1569 rfl rfl ?_
  refine x_aload_n (pc := 1570) dL_law_1570 rfl rfl ?_
  refine x_iload (pc := 1571) dL_law_1571 rfl ?_
  refine x_iconst (pc := 1573) dL_law_1573 ?_
  refine x_iadd (pc := 1574) dL_law_1574 ?_
  refine x_iald (pc := 1575) dL_law_1575 hSc2 (by omega) (by omega) (fun _ _ => ?_)
  rw [show M2 sa (i + 1).toNat = p1 from (hsc2 _).trans e1.symm]
  refine x_aload_n (pc := 1576) dL_law_1576 rfl rfl ?_
  refine x_iload (pc := 1577) dL_law_1577 rfl ?_
  refine x_iconst (pc := 1579) dL_law_1579 ?_
  refine x_iadd (pc := 1580) dL_law_1580 ?_
  refine x_iald (pc := 1581) dL_law_1581 hSc2 (by omega) (by omega) (fun _ _ => ?_)
  rw [show M2 sa (i + 2).toNat = p2 from (hsc2 _).trans e2.symm]
  refine x_callV (pc := 1582) [_, _] rfl kL_202 dL_law_1582 hMo2.1 rfl rfl ⟨Nat.le_of_ble_eq_true rfl, Nat.le_of_ble_eq_true rfl⟩ (Nat.le_of_ble_eq_true rfl) (Nat.le_of_ble_eq_true rfl) ⟨by show cn + 1 + 0 ≤ 601024; omega, by show ck + 6 + 0 ≤ 7293034; omega⟩ ?_
  have h5 : X g m_X5_rowSign 0 0 l2 M2 0 [(0, vR (b + 32)), (1, vI p1), (2, vI p2)] [] (fun o l3 M3 => ∃ v5 : Int, o = .inl (some (vI v5)) ∧ l3 = l2 ∧ FrQ (b + 32) M2 M3 ∧ RowT T (M3 (b + 32 + 1)) ∧ (∃ N, Bg N M3 (b + 32)) ∧ M3 (b + 32) 0 = kOf [nIO, nIA] (rRowSign T p1 p2) ∧ ∀ v9, rRowSign T p1 p2 = oI v9 → v5 = v9) := sp_X5_rowSign hMo2 hdg rT hW rB gM gE gF R1 R2 (fun M3 v5 z1 z2 z3 z4 z5 => ⟨v5, rfl, rfl, z1, z2, z3, z4, z5⟩)
  refine X.norm h5 (fun o l3 M3 z => ?_)
  obtain ⟨v5, rfl, rfl, z1, z2, z3, z4, z5⟩ := z
  refine ⟨_, rfl, ?_⟩
  have hL3 := hL2.m z1 z2 z3
  rw [← hkc] at z4
  refine x_istore (pc := 1585) dL_law_1585 trivial (by decide) (L' := [(7, _), (6, _), (5, _), (4, _), (3, _), (2, _), (1, _), (0, _)]) rfl ?_
  refine x_aload_n (pc := 1587) dL_law_1587 rfl rfl ?_
  refine x_callV (pc := 1588) [] rfl kL_101 dL_law_1588 hMo2.1 rfl rfl ⟨Nat.le_of_ble_eq_true rfl, Nat.le_of_ble_eq_true rfl⟩ (Nat.le_of_ble_eq_true rfl) (Nat.le_of_ble_eq_true rfl) ⟨by show cn + 1 + 0 + 0 ≤ 601024; omega, by show ck + 6 + 0 + 0 ≤ 7293034; omega⟩ ?_
  refine sp_X5_thrown hMo2 (fun _ _ => ⟨_, rfl, ?_⟩)
  rw [z4]
  refine x_iload (pc := 1591) dL_law_1591 rfl ?_
  refine x_icmp_eq (pc := 1593) (t := 1598) dL_law_1593 (by decide) ⟨by omega, by omega⟩ ⟨by omega, by omega⟩ (fun _ => ?_) (fun z => absurd rfl z)
  refine x_iload (pc := 1598) dL_law_1598 rfl ?_
  refine x_if_ne (pc := 1600) (t := 1615) dL_law_1600 (by decide) ⟨by omega, by omega⟩ (fun z => ?_) (fun z => ?_)
  · refine x_goto (pc := 1615) (t := 1890) dL_law_1615 (by decide) ?_
    refine X.loc [2, 3, 4, 5, 6, 7] (L' := [(5, _), (4, _), (3, _), (2, _), (1, _), (0, _)]) rfl ?_
    exact k _ _ _ _ (by show cn + 1 + 0 + 0 ≤ cn + 7; omega) (by show ck + 6 + 0 + 0 ≤ ck + 191; omega) ⟨T, A, u, H, tx, n, v, cm, pg, S, sv, hL3⟩
  · obtain ⟨y9, hy9⟩ := RC.zero (rc_rRowSign : RC [nIO, nIA] (rRowSign T p1 p2)) (by rw [← hkc]; exact z)
    have ev : M3 (b + 45) 0 = nmI y9 := (z1 _ _ (by omega) (by omega) (by omega) (by omega) (by omega)).trans (hy y9 hy9)
    have e9 := z5 y9 hy9
    subst e9
    refine x_aload_n (pc := 1603) dL_law_1603 rfl rfl ?_
    refine x_iconst (pc := 1604) dL_law_1604 ?_
    refine x_lald (pc := 1605) dL_law_1605 hO12 (by omega) (by omega) (fun _ _ => ?_)
    rw [show M3 (b + 45) (0 : Int).toNat = nmI v5 from ev]
    refine x_iload (pc := 1606) dL_law_1606 rfl ?_
    refine x_i2l (pc := 1608) (nmI_rng _) dL_law_1608 ?_
    refine x_lcmp_eq (pc := 1609) (t := 1615) dL_law_1609 dL_law_1610 (by decide) (by have := nmI_rng v5; exact ⟨by omega, by omega⟩) (by have := nmI_rng v5; exact ⟨by omega, by omega⟩) (fun _ => ?_) (fun z9 => absurd rfl z9)
    refine x_goto (pc := 1615) (t := 1890) dL_law_1615 (by decide) ?_
    refine X.loc [2, 3, 4, 5, 6, 7] (L' := [(5, _), (4, _), (3, _), (2, _), (1, _), (0, _)]) rfl ?_
    exact k _ _ _ _ (by show cn + 1 + 0 + 0 ≤ cn + 7; omega) (by show ck + 6 + 0 + 0 ≤ ck + 191; omega) ⟨T, A, u, H, tx, n, v, cm, pg, S, sv, hL3⟩
set_option maxRecDepth 100000 in
theorem law_changes {g : GG} {lay : Lay} {M : Mem} {K : KK} {sa len b : Nat} {i : Int} {cn ck : Nat} (G : GoodA) (hL : LI g sa len b lay M) (hi : 0 ≤ i ∧ i + 6 ≤ (len : Int)) (hc : cn + 7 ≤ 601024 ∧ ck + 191 ≤ 7293034) (k : CK g sa len b i cn ck K) : X g m_L_law cn ck lay M 1618 [(5, vI i), (4, vR (b + 46)), (3, vR (b + 45)), (2, vR (b + 32)), (1, vR b), (0, vR sa)] [] K := by
  obtain ⟨T, A, u, H, tx, n, v, cm, pg, S, sv, hL⟩ := hL
  obtain ⟨⟨hg, hsb, hSc, htop, hMo, hO1, hO2⟩, hD, ⟨cT, cA, cR, cC, cP⟩, hR, hSv, ⟨hW, hO, hB⟩, hH, hX⟩ := id hL
  have hu : 0 ≤ (u : Int) ∧ (u : Int) ≤ 12 := ⟨by omega, by have := hH.1; omega⟩
  have hdg : g.2.1 ≤ b + 32 := by omega
  obtain ⟨gB, gC, gM, gE, gF⟩ := id G
  refine x_aload_n (pc := 1618) dL_law_1618 rfl rfl ?_
  refine x_aload_n (pc := 1619) dL_law_1619 rfl rfl ?_
  refine x_iload (pc := 1620) dL_law_1620 rfl ?_
  refine x_iconst (pc := 1622) dL_law_1622 ?_
  refine x_iadd (pc := 1623) dL_law_1623 ?_
  refine x_iald (pc := 1624) dL_law_1624 hSc (by omega) (by omega) (fun a1 b1 => ?_)
  obtain ⟨p1, e1⟩ : ∃ z, z = M sa (i + 1).toNat := ⟨_, rfl⟩
  rw [← e1] at a1 b1 ⊢
  have R1 : i32 p1 := ⟨a1, b1⟩
  refine x_aload_n (pc := 1625) dL_law_1625 rfl rfl ?_
  refine x_iload (pc := 1626) dL_law_1626 rfl ?_
  refine x_iconst (pc := 1628) dL_law_1628 ?_
  refine x_iadd (pc := 1629) dL_law_1629 ?_
  refine x_iald (pc := 1630) dL_law_1630 hSc (by omega) (by omega) (fun a2 b2 => ?_)
  obtain ⟨p2, e2⟩ : ∃ z, z = M sa (i + 2).toNat := ⟨_, rfl⟩
  rw [← e2] at a2 b2 ⊢
  have R2 : i32 p2 := ⟨a2, b2⟩
  refine x_aload_n (pc := 1631) dL_law_1631 rfl rfl ?_
  refine x_callSH (pc := 1632) [_, _, _, _] rfl kh_changes dL_law_1632 rfl ⟨Nat.le_of_ble_eq_true rfl, Nat.le_of_ble_eq_true rfl⟩ (Nat.le_of_ble_eq_true rfl) (Nat.le_of_ble_eq_true rfl) ⟨by show cn + 1 ≤ 601024; omega, by show ck + 6 ≤ 7293034; omega⟩ ?_
  refine sp_L_changes hD.1 (by omega) (hx_IA (r := rChanges T p1 p2) (P := fun l2 M2 => l2.1 = lay.1 ∧ lay.2 ≤ l2.2 ∧ Scr b M M2) (sp_X4_changes gB hD hg cT hW R1 R2 (fun M2 n2 hn hS => ⟨rfl, rfl, hn, hS⟩)) rc_rChanges (fun l2 M2 h => by rw [h.1]; exact hO1) (fun l2 M1 hP M2 hF hy => ?_))
  obtain ⟨q1, q2, q3⟩ := hP
  refine ⟨_, rfl, ?_⟩
  have hL2 := hL.c (M2 := M2) q1 q2 q3 (fun a j z1 z2 => hF a j z1)
  obtain ⟨⟨-, -, hSc2, -, hMo2, hO12, hO22⟩, -, -, ⟨rT, rA, rU, rB, rW, rX, rE, rP, rS⟩, -⟩ := id hL2
  have hsc2 : ∀ j, M2 sa j = M sa j := fun j => (hF _ j (by omega)).trans (q3 _ j (by omega) (by omega) (by omega))
  obtain ⟨kc, hkc⟩ : ∃ z, z = kOf [nIA] (rChanges T p1 p2) := ⟨_, rfl⟩
  have hk9 := kOf_rng [nIA] (rChanges T p1 p2)
  rw [← hkc] at hk9 ⊢
  have hk8 : 0 ≤ kc ∧ kc ≤ 3 := ⟨hk9.1, Int.le_trans hk9.2 (by decide)⟩
  refine x_istore (pc := 1635) dL_law_1635 trivial (by decide) (L' := [(6, _), (5, _), (4, _), (3, _), (2, _), (1, _), (0, _)]) rfl ?_
  refine x_aload_n (pc := 1637) dL_law_1637 rfl rfl ?_
  refine x_aload_n (pc := 1638) dL_law_1638 rfl rfl ?_
  refine x_iload (pc := 1639) dL_law_1639 rfl ?_
  refine x_iconst (pc := 1641) dL_law_1641 ?_
  refine x_iadd (pc := 1642) dL_law_1642 ?_
  refine x_iald (pc := 1643) dL_law_1643 hSc2 (by omega) (by omega) (fun _ _ => ?_)
  rw [show M2 sa (i + 1).toNat = p1 from (hsc2 _).trans e1.symm]
  refine x_aload_n (pc := 1644) dL_law_1644 rfl rfl ?_
  refine x_iload (pc := 1645) dL_law_1645 rfl ?_
  refine x_iconst (pc := 1647) dL_law_1647 ?_
  refine x_iadd (pc := 1648) dL_law_1648 ?_
  refine x_iald (pc := 1649) dL_law_1649 hSc2 (by omega) (by omega) (fun _ _ => ?_)
  rw [show M2 sa (i + 2).toNat = p2 from (hsc2 _).trans e2.symm]
  refine x_callV (pc := 1650) [_, _] rfl kL_205 dL_law_1650 hMo2.1 rfl rfl ⟨Nat.le_of_ble_eq_true rfl, Nat.le_of_ble_eq_true rfl⟩ (Nat.le_of_ble_eq_true rfl) (Nat.le_of_ble_eq_true rfl) ⟨by show cn + 1 + 0 ≤ 601024; omega, by show ck + 6 + 0 ≤ 7293034; omega⟩ ?_
  have h5 : X g m_X5_changes 0 0 l2 M2 0 [(0, vR (b + 32)), (1, vI p1), (2, vI p2)] [] (fun o l3 M3 => ∃ v5 : Int, o = .inl (some (vI v5)) ∧ l3 = l2 ∧ FrQ (b + 32) M2 M3 ∧ RowT T (M3 (b + 32 + 1)) ∧ (∃ N, Bg N M3 (b + 32)) ∧ M3 (b + 32) 0 = kOf [nIA] (rChanges T p1 p2) ∧ ∀ v9, rChanges T p1 p2 = oI v9 → v5 = v9) := sp_X5_changes hMo2 hdg rT hW rB gM gE gF R1 R2 (fun M3 v5 z1 z2 z3 z4 z5 => ⟨v5, rfl, rfl, z1, z2, z3, z4, z5⟩)
  refine X.norm h5 (fun o l3 M3 z => ?_)
  obtain ⟨v5, rfl, rfl, z1, z2, z3, z4, z5⟩ := z
  refine ⟨_, rfl, ?_⟩
  have hL3 := hL2.m z1 z2 z3
  rw [← hkc] at z4
  refine x_istore (pc := 1653) dL_law_1653 trivial (by decide) (L' := [(7, _), (6, _), (5, _), (4, _), (3, _), (2, _), (1, _), (0, _)]) rfl ?_
  refine x_aload_n (pc := 1655) dL_law_1655 rfl rfl ?_
  refine x_callV (pc := 1656) [] rfl kL_101 dL_law_1656 hMo2.1 rfl rfl ⟨Nat.le_of_ble_eq_true rfl, Nat.le_of_ble_eq_true rfl⟩ (Nat.le_of_ble_eq_true rfl) (Nat.le_of_ble_eq_true rfl) ⟨by show cn + 1 + 0 + 0 ≤ 601024; omega, by show ck + 6 + 0 + 0 ≤ 7293034; omega⟩ ?_
  refine sp_X5_thrown hMo2 (fun _ _ => ⟨_, rfl, ?_⟩)
  rw [z4]
  refine x_iload (pc := 1659) dL_law_1659 rfl ?_
  refine x_icmp_eq (pc := 1661) (t := 1666) dL_law_1661 (by decide) ⟨by omega, by omega⟩ ⟨by omega, by omega⟩ (fun _ => ?_) (fun z => absurd rfl z)
  refine x_iload (pc := 1666) dL_law_1666 rfl ?_
  refine x_if_ne (pc := 1668) (t := 1683) dL_law_1668 (by decide) ⟨by omega, by omega⟩ (fun z => ?_) (fun z => ?_)
  · refine x_goto (pc := 1683) (t := 1890) dL_law_1683 (by decide) ?_
    refine X.loc [2, 3, 4, 5, 6, 7] (L' := [(5, _), (4, _), (3, _), (2, _), (1, _), (0, _)]) rfl ?_
    exact k _ _ _ _ (by show cn + 1 + 0 + 0 ≤ cn + 7; omega) (by show ck + 6 + 0 + 0 ≤ ck + 191; omega) ⟨T, A, u, H, tx, n, v, cm, pg, S, sv, hL3⟩
  · obtain ⟨y9, hy9⟩ := RC.zero (rc_rChanges : RC [nIA] (rChanges T p1 p2)) (by rw [← hkc]; exact z)
    have ev : M3 (b + 45) 0 = nmI y9 := (z1 _ _ (by omega) (by omega) (by omega) (by omega) (by omega)).trans (hy y9 hy9)
    have e9 := z5 y9 hy9
    subst e9
    refine x_aload_n (pc := 1671) dL_law_1671 rfl rfl ?_
    refine x_iconst (pc := 1672) dL_law_1672 ?_
    refine x_lald (pc := 1673) dL_law_1673 hO12 (by omega) (by omega) (fun _ _ => ?_)
    rw [show M3 (b + 45) (0 : Int).toNat = nmI v5 from ev]
    refine x_iload (pc := 1674) dL_law_1674 rfl ?_
    refine x_i2l (pc := 1676) (nmI_rng _) dL_law_1676 ?_
    refine x_lcmp_eq (pc := 1677) (t := 1683) dL_law_1677 dL_law_1678 (by decide) (by have := nmI_rng v5; exact ⟨by omega, by omega⟩) (by have := nmI_rng v5; exact ⟨by omega, by omega⟩) (fun _ => ?_) (fun z9 => absurd rfl z9)
    refine x_goto (pc := 1683) (t := 1890) dL_law_1683 (by decide) ?_
    refine X.loc [2, 3, 4, 5, 6, 7] (L' := [(5, _), (4, _), (3, _), (2, _), (1, _), (0, _)]) rfl ?_
    exact k _ _ _ _ (by show cn + 1 + 0 + 0 ≤ cn + 7; omega) (by show ck + 6 + 0 + 0 ≤ ck + 191; omega) ⟨T, A, u, H, tx, n, v, cm, pg, S, sv, hL3⟩
set_option maxRecDepth 100000 in
theorem law_surplus {g : GG} {lay : Lay} {M : Mem} {K : KK} {sa len b : Nat} {i : Int} {cn ck : Nat} (G : GoodA) (hL : LI g sa len b lay M) (hi : 0 ≤ i ∧ i + 6 ≤ (len : Int)) (hc : cn + 7 ≤ 601024 ∧ ck + 191 ≤ 7293034) (k : CK g sa len b i cn ck K) : X g m_L_law cn ck lay M 1686 [(5, vI i), (4, vR (b + 46)), (3, vR (b + 45)), (2, vR (b + 32)), (1, vR b), (0, vR sa)] [] K := by
  obtain ⟨T, A, u, H, tx, n, v, cm, pg, S, sv, hL⟩ := hL
  obtain ⟨⟨hg, hsb, hSc, htop, hMo, hO1, hO2⟩, hD, ⟨cT, cA, cR, cC, cP⟩, hR, hSv, ⟨hW, hO, hB⟩, hH, hX⟩ := id hL
  have hu : 0 ≤ (u : Int) ∧ (u : Int) ≤ 12 := ⟨by omega, by have := hH.1; omega⟩
  have hdg : g.2.1 ≤ b + 32 := by omega
  obtain ⟨gB, gC, gM, gE, gF⟩ := id G
  refine x_aload_n (pc := 1686) dL_law_1686 rfl rfl ?_
  refine x_aload_n (pc := 1687) dL_law_1687 rfl rfl ?_
  refine x_iload (pc := 1688) dL_law_1688 rfl ?_
  refine x_iconst (pc := 1690) dL_law_1690 ?_
  refine x_iadd (pc := 1691) dL_law_1691 ?_
  refine x_iald (pc := 1692) dL_law_1692 hSc (by omega) (by omega) (fun a1 b1 => ?_)
  obtain ⟨p1, e1⟩ : ∃ z, z = M sa (i + 1).toNat := ⟨_, rfl⟩
  rw [← e1] at a1 b1 ⊢
  have R1 : i32 p1 := ⟨a1, b1⟩
  refine x_aload_n (pc := 1693) dL_law_1693 rfl rfl ?_
  refine x_iload (pc := 1694) dL_law_1694 rfl ?_
  refine x_iconst (pc := 1696) dL_law_1696 ?_
  refine x_iadd (pc := 1697) dL_law_1697 ?_
  refine x_iald (pc := 1698) dL_law_1698 hSc (by omega) (by omega) (fun a2 b2 => ?_)
  obtain ⟨p2, e2⟩ : ∃ z, z = M sa (i + 2).toNat := ⟨_, rfl⟩
  rw [← e2] at a2 b2 ⊢
  have R2 : i32 p2 := ⟨a2, b2⟩
  refine x_aload_n (pc := 1699) dL_law_1699 rfl rfl ?_
  refine x_callSH (pc := 1700) [_, _, _, _] rfl kh_surplus dL_law_1700 rfl ⟨Nat.le_of_ble_eq_true rfl, Nat.le_of_ble_eq_true rfl⟩ (Nat.le_of_ble_eq_true rfl) (Nat.le_of_ble_eq_true rfl) ⟨by show cn + 1 ≤ 601024; omega, by show ck + 6 ≤ 7293034; omega⟩ ?_
  refine sp_L_surplus hD.1 (by omega) (hx_IA (r := rSur T p1 p2) (P := fun l2 M2 => l2.1 = lay.1 ∧ lay.2 ≤ l2.2 ∧ Scr b M M2) (sp_X4_surplus gB hD hg cT hW gC R1 R2 (fun M2 n2 hn hS => ⟨rfl, rfl, hn, hS⟩)) rc_rSur (fun l2 M2 h => by rw [h.1]; exact hO1) (fun l2 M1 hP M2 hF hy => ?_))
  obtain ⟨q1, q2, q3⟩ := hP
  refine ⟨_, rfl, ?_⟩
  have hL2 := hL.c (M2 := M2) q1 q2 q3 (fun a j z1 z2 => hF a j z1)
  obtain ⟨⟨-, -, hSc2, -, hMo2, hO12, hO22⟩, -, -, ⟨rT, rA, rU, rB, rW, rX, rE, rP, rS⟩, -⟩ := id hL2
  have hsc2 : ∀ j, M2 sa j = M sa j := fun j => (hF _ j (by omega)).trans (q3 _ j (by omega) (by omega) (by omega))
  obtain ⟨kc, hkc⟩ : ∃ z, z = kOf [nIA] (rSur T p1 p2) := ⟨_, rfl⟩
  have hk9 := kOf_rng [nIA] (rSur T p1 p2)
  rw [← hkc] at hk9 ⊢
  have hk8 : 0 ≤ kc ∧ kc ≤ 3 := ⟨hk9.1, Int.le_trans hk9.2 (by decide)⟩
  refine x_istore (pc := 1703) dL_law_1703 trivial (by decide) (L' := [(6, _), (5, _), (4, _), (3, _), (2, _), (1, _), (0, _)]) rfl ?_
  refine x_aload_n (pc := 1705) dL_law_1705 rfl rfl ?_
  refine x_aload_n (pc := 1706) dL_law_1706 rfl rfl ?_
  refine x_iload (pc := 1707) dL_law_1707 rfl ?_
  refine x_iconst (pc := 1709) dL_law_1709 ?_
  refine x_iadd (pc := 1710) dL_law_1710 ?_
  refine x_iald (pc := 1711) dL_law_1711 hSc2 (by omega) (by omega) (fun _ _ => ?_)
  rw [show M2 sa (i + 1).toNat = p1 from (hsc2 _).trans e1.symm]
  refine x_aload_n (pc := 1712) dL_law_1712 rfl rfl ?_
  refine x_iload (pc := 1713) dL_law_1713 rfl ?_
  refine x_iconst (pc := 1715) dL_law_1715 ?_
  refine x_iadd (pc := 1716) dL_law_1716 ?_
  refine x_iald (pc := 1717) dL_law_1717 hSc2 (by omega) (by omega) (fun _ _ => ?_)
  rw [show M2 sa (i + 2).toNat = p2 from (hsc2 _).trans e2.symm]
  refine x_callV (pc := 1718) [_, _] rfl kL_208 dL_law_1718 hMo2.1 rfl rfl ⟨Nat.le_of_ble_eq_true rfl, Nat.le_of_ble_eq_true rfl⟩ (Nat.le_of_ble_eq_true rfl) (Nat.le_of_ble_eq_true rfl) ⟨by show cn + 1 + 0 ≤ 601024; omega, by show ck + 6 + 0 ≤ 7293034; omega⟩ ?_
  have h5 : X g m_X5_surplus 0 0 l2 M2 0 [(0, vR (b + 32)), (1, vI p1), (2, vI p2)] [] (fun o l3 M3 => ∃ v5 : Int, o = .inl (some (vI v5)) ∧ l3 = l2 ∧ FrQ (b + 32) M2 M3 ∧ RowT T (M3 (b + 32 + 1)) ∧ (∃ N, Bg N M3 (b + 32)) ∧ M3 (b + 32) 0 = kOf [nIA] (rSur T p1 p2) ∧ ∀ v9, rSur T p1 p2 = oI v9 → v5 = v9) := sp_X5_surplus hMo2 hdg rT hW rB gM gE gF R1 R2 (fun M3 v5 z1 z2 z3 z4 z5 => ⟨v5, rfl, rfl, z1, z2, z3, z4, z5⟩)
  refine X.norm h5 (fun o l3 M3 z => ?_)
  obtain ⟨v5, rfl, rfl, z1, z2, z3, z4, z5⟩ := z
  refine ⟨_, rfl, ?_⟩
  have hL3 := hL2.m z1 z2 z3
  rw [← hkc] at z4
  refine x_istore (pc := 1721) dL_law_1721 trivial (by decide) (L' := [(7, _), (6, _), (5, _), (4, _), (3, _), (2, _), (1, _), (0, _)]) rfl ?_
  refine x_aload_n (pc := 1723) dL_law_1723 rfl rfl ?_
  refine x_callV (pc := 1724) [] rfl kL_101 dL_law_1724 hMo2.1 rfl rfl ⟨Nat.le_of_ble_eq_true rfl, Nat.le_of_ble_eq_true rfl⟩ (Nat.le_of_ble_eq_true rfl) (Nat.le_of_ble_eq_true rfl) ⟨by show cn + 1 + 0 + 0 ≤ 601024; omega, by show ck + 6 + 0 + 0 ≤ 7293034; omega⟩ ?_
  refine sp_X5_thrown hMo2 (fun _ _ => ⟨_, rfl, ?_⟩)
  rw [z4]
  refine x_iload (pc := 1727) dL_law_1727 rfl ?_
  refine x_icmp_eq (pc := 1729) (t := 1734) dL_law_1729 (by decide) ⟨by omega, by omega⟩ ⟨by omega, by omega⟩ (fun _ => ?_) (fun z => absurd rfl z)
  refine x_iload (pc := 1734) dL_law_1734 rfl ?_
  refine x_if_ne (pc := 1736) (t := 1751) dL_law_1736 (by decide) ⟨by omega, by omega⟩ (fun z => ?_) (fun z => ?_)
  · refine x_goto (pc := 1751) (t := 1890) dL_law_1751 (by decide) ?_
    refine X.loc [2, 3, 4, 5, 6, 7] (L' := [(5, _), (4, _), (3, _), (2, _), (1, _), (0, _)]) rfl ?_
    exact k _ _ _ _ (by show cn + 1 + 0 + 0 ≤ cn + 7; omega) (by show ck + 6 + 0 + 0 ≤ ck + 191; omega) ⟨T, A, u, H, tx, n, v, cm, pg, S, sv, hL3⟩
  · obtain ⟨y9, hy9⟩ := RC.zero (rc_rSur : RC [nIA] (rSur T p1 p2)) (by rw [← hkc]; exact z)
    have ev : M3 (b + 45) 0 = nmI y9 := (z1 _ _ (by omega) (by omega) (by omega) (by omega) (by omega)).trans (hy y9 hy9)
    have e9 := z5 y9 hy9
    subst e9
    refine x_aload_n (pc := 1739) dL_law_1739 rfl rfl ?_
    refine x_iconst (pc := 1740) dL_law_1740 ?_
    refine x_lald (pc := 1741) dL_law_1741 hO12 (by omega) (by omega) (fun _ _ => ?_)
    rw [show M3 (b + 45) (0 : Int).toNat = nmI v5 from ev]
    refine x_iload (pc := 1742) dL_law_1742 rfl ?_
    refine x_i2l (pc := 1744) (nmI_rng _) dL_law_1744 ?_
    refine x_lcmp_eq (pc := 1745) (t := 1751) dL_law_1745 dL_law_1746 (by decide) (by have := nmI_rng v5; exact ⟨by omega, by omega⟩) (by have := nmI_rng v5; exact ⟨by omega, by omega⟩) (fun _ => ?_) (fun z9 => absurd rfl z9)
    refine x_goto (pc := 1751) (t := 1890) dL_law_1751 (by decide) ?_
    refine X.loc [2, 3, 4, 5, 6, 7] (L' := [(5, _), (4, _), (3, _), (2, _), (1, _), (0, _)]) rfl ?_
    exact k _ _ _ _ (by show cn + 1 + 0 + 0 ≤ cn + 7; omega) (by show ck + 6 + 0 + 0 ≤ ck + 191; omega) ⟨T, A, u, H, tx, n, v, cm, pg, S, sv, hL3⟩
