/-! The law's beginning. -/
/-- the law itself; its room is the statement's -/
def m_L_law : MR := (yL_law, cL_law, 9, some .boolean, 14, 558, 601024, 7293034, [])
theorem cnL8 : CN RL 8 4 9 := ⟨_, rfl, rfl, by decide +kernel, by decide +kernel, by decide +kernel⟩
theorem cnL92 : CN RL 92 5 26 := ⟨_, rfl, rfl, by decide +kernel, by decide +kernel, by decide +kernel⟩
theorem kiL4 : CI RL 91 m_X4_init := ⟨by decide +kernel, ⟨by decide +kernel, by decide +kernel, by decide +kernel, by decide +kernel⟩, ⟨rfl, by decide, by decide, by decide⟩, rfl, rfl⟩
theorem kiL5 : CI RL 94 m_X5_init := ⟨by decide +kernel, ⟨by decide +kernel, by decide +kernel, by decide +kernel, by decide +kernel⟩, ⟨rfl, by decide, by decide, by decide⟩, rfl, rfl⟩
theorem DuL.tr {l l' : Lay} {b : Nat} (h : DuL l b (fun _ => none)) (e : ∀ x, b ≤ x → x < b + 32 → l'.1 x = l.1 x) : DuL l' b (fun _ => none) := by
  obtain ⟨d1, dC, dT, dS, dR, dRd, dP, dA, dH, dv1, dv2⟩ := h
  exact ⟨(e _ (by omega) (by omega)).trans d1, dC.tr (fun x h1 h2 => e x (by omega) (by omega)), dT.tr (fun x h1 h2 => e x (by omega) (by omega)), (e _ (by omega) (by omega)).trans dS, dR.tr (fun x h1 h2 => e x (by omega) (by omega)), dRd.tr (fun x h1 h2 => e x (by omega) (by omega)), dP.tr (fun x h1 h2 => e x (by omega) (by omega)), (e _ (by omega) (by omega)).trans dA, (e _ (by omega) (by omega)).trans dH, fun i a _ h => (by cases h), fun a a2 h => (by cases h)⟩
theorem MoL.tr {l l' : Lay} {d : Nat} (h : MoL l d) (e : ∀ x, d ≤ x → x < d + 13 → l'.1 x = l.1 x) : MoL l' d := by
  obtain ⟨h0, h1, h2, h3, h4, h5, h6, h7, h8, h9, h10, h11, h12⟩ := h
  exact ⟨(e _ (by omega) (by omega)).trans h0, (e _ (by omega) (by omega)).trans h1, (e _ (by omega) (by omega)).trans h2, (e _ (by omega) (by omega)).trans h3, (e _ (by omega) (by omega)).trans h4, (e _ (by omega) (by omega)).trans h5, (e _ (by omega) (by omega)).trans h6, (e _ (by omega) (by omega)).trans h7, (e _ (by omega) (by omega)).trans h8, (e _ (by omega) (by omega)).trans h9, (e _ (by omega) (by omega)).trans h10, (e _ (by omega) (by omega)).trans h11, (e _ (by omega) (by omega)).trans h12⟩
set_option maxRecDepth 100000 in
theorem law_start {g : GG} {lay : Lay} {M : Mem} {K : KK} {sa : Nat} (hg : g.2.1 ≤ lay.2) (k : ∀ (lay2 : Lay) (M2 : Mem) (cn ck : Nat), cn = 47 → ck = 11863 → lay2.2 = lay.2 + 47 → (∀ x, x < lay.2 → lay2.1 x = lay.1 x) → (∀ x i, x < lay.2 → M2 x i = M x i) → DuL lay2 lay.2 (fun _ => none) → MoL lay2 (lay.2 + 32) → lay2.1 (lay.2 + 45) = some (2, 1, fun _ => none) → lay2.1 (lay.2 + 46) = some (5, 1, fun _ => none) → (Ct tNew M2 (lay.2 + 1) ∧ (∀ i, M2 lay.2 i = 0) ∧ (∀ i, M2 (lay.2 + 30) i = 0) ∧ (∀ i, M2 (lay.2 + 25) i = if i = 4 then -1 else 0) ∧ (∀ i, M2 (lay.2 + 28) i = 0)) → (RowT tNew (M2 (lay.2 + 32 + 1)) ∧ Wd M2 (lay.2 + 32) ∧ (∀ i, M2 (lay.2 + 32) i = if i = 18 then -1 else 0) ∧ (∀ x i, lay.2 + 32 + 2 ≤ x → x ≤ lay.2 + 32 + 12 → x ≠ lay.2 + 32 + 10 → M2 x i = 0)) → X g m_L_law cn ck lay2 M2 28 [(5, vI 0), (4, vR (lay.2 + 46)), (3, vR (lay.2 + 45)), (2, vR (lay.2 + 32)), (1, vR lay.2), (0, vR sa)] [] K) : X g m_L_law 0 0 lay M 0 [(0, vR sa)] [] K := by
  refine x_newG (pc := 0) cnL8 dL_law_0 ⟨by decide, by decide⟩ (fun l1 M1 z1 e1 n1 m1 w1 => ?_)
  refine x_dup (pc := 3) dL_law_3 rfl ?_
  refine x_callI (pc := 4) kiL4 dL_law_4 (Nat.le_of_ble_eq_true rfl |> fun h => ⟨h, Nat.le_of_ble_eq_true rfl⟩) (by decide) (Nat.le_of_ble_eq_true rfl) ⟨by decide, by decide⟩ ?_
  refine sp_X4_init n1 (by omega) (by omega) (fun l2 M2 z2 b2 D2 T2 o2 A2 R2 P2 Q2 => ?_)
  refine ⟨none, rfl, ?_⟩
  refine x_astore_n (pc := 7) dL_law_7 rfl (by decide) rfl ?_
  refine x_newG (pc := 8) cnL92 dL_law_8 ⟨by decide, by decide⟩ (fun l3 M3 z3 e3 n3 m3 w3 => ?_)
  refine x_dup (pc := 11) dL_law_11 rfl ?_
  refine x_callI (pc := 12) kiL5 dL_law_12 (Nat.le_of_ble_eq_true rfl |> fun h => ⟨h, Nat.le_of_ble_eq_true rfl⟩) (by decide) (Nat.le_of_ble_eq_true rfl) ⟨by decide, by decide⟩ ?_
  refine sp_X5_init n3 (by omega) (by omega) (fun l4 M4 z4 b4 D4 T4 W4 o4 Z4 => ?_)
  refine ⟨none, rfl, ?_⟩
  refine x_astore_n (pc := 15) dL_law_15 rfl (by decide) rfl ?_
  refine x_iconst (pc := 16) dL_law_16 ?_
  refine x_newaG (pc := 17) (n := 1) rfl (by decide) na1 dL_law_17 (by decide) ⟨by decide, by decide⟩ (fun l5 M5 z5 e5 n5 m5 w5 => ?_)
  refine x_astore_n (pc := 19) dL_law_19 rfl (by decide) rfl ?_
  refine x_iconst (pc := 20) dL_law_20 ?_
  refine x_newaG (pc := 21) (n := 1) rfl (by decide) na4 dL_law_21 (by decide) ⟨by decide, by decide⟩ (fun l6 M6 z6 e6 n6 m6 w6 => ?_)
  refine x_astore (pc := 23) dL_law_23 trivial (by decide) rfl ?_
  refine x_iconst (pc := 25) dL_law_25 ?_
  refine x_istore (pc := 26) dL_law_26 trivial (by decide) rfl ?_
  have B2 : l2.2 = lay.2 + 32 := by omega
  have B4 : l4.2 = lay.2 + 45 := by omega
  have B5 : l5.2 = lay.2 + 46 := by omega
  rw [B2] at D4 T4 W4 o4 Z4
  rw [B2, B4, B5]
  have E : ∀ x, x < lay.2 + 32 → l6.1 x = l2.1 x := fun x h => (e6 x (by omega)).trans ((e5 x (by omega)).trans ((b4.1 x (by omega)).trans (e3 x (by omega))))
  have F : ∀ x i, x < lay.2 + 32 → M6 x i = M2 x i := fun x i h => (m6 x i (by omega)).trans ((m5 x i (by omega)).trans ((b4.2 x i (by omega)).trans (m3 x i (by omega))))
  have E4 : ∀ x, x < lay.2 + 45 → l6.1 x = l4.1 x := fun x h => (e6 x (by omega)).trans (e5 x (by omega))
  have F4 : ∀ x i, x < lay.2 + 45 → M6 x i = M4 x i := fun x i h => (m6 x i (by omega)).trans (m5 x i (by omega))
  refine k l6 M6 _ _ rfl rfl (by omega) (fun x h => (E x (by omega)).trans ((b2.1 x (by omega)).trans (e1 x (by omega)))) (fun x i h => (F x i (by omega)).trans ((b2.2 x i (by omega)).trans (m1 x i (by omega)))) (D2.tr (fun x h1 h2 => E x (by omega))) (D4.tr (fun x h1 h2 => E4 x (by omega))) ((e6 _ (by omega)).trans (by rw [← B4]; exact n5)) (by rw [← B5]; exact n6) ⟨T2.gen (fun x i h1 h2 => F x i (by omega)), fun i => (F _ i (by omega)).trans ((o2 i).trans (w1 i)), fun i => (F _ i (by omega)).trans (A2 i), fun i => (F _ i (by omega)).trans (R2 i), fun i => (F _ i (by omega)).trans (P2 i)⟩ ⟨?_, fun i hi => (F4 _ i (by omega)).trans (W4 i hi), fun i => (F4 _ i (by omega)).trans ((o4 i).trans (by rw [show M3 (lay.2 + 32) i = 0 by rw [← B2]; exact w3 i])), fun x i h1 h2 h3 => (F4 x i (by omega)).trans (Z4 x i h1 h2 h3)⟩
  rw [show M6 (lay.2 + 32 + 1) = M4 (lay.2 + 32 + 1) from funext fun i => F4 _ i (by omega)]
  exact T4
