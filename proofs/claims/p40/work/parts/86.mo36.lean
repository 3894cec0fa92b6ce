/-! Constructors. -/
/-- what stood below an address stays -/
def Bel (a : Nat) (lay lay2 : Lay) (M M2 : Mem) : Prop := (∀ x, x < a → lay2.1 x = lay.1 x) ∧ ∀ x i, x < a → M2 x i = M x i

set_option maxRecDepth 100000 in
theorem sp_X1_init {g : GG} {lay : Lay} {M : Mem} {K : KK} {a : Nat} (hk : lay.1 a = some (0, 1, fun _ => none)) (hw : g.2.1 ≤ a) (hlt : a + 1 = lay.2) (k : ∀ lay2 M2, lay2.2 = lay.2 + 1 → Bel a lay lay2 M M2 → PgL lay2 a → (∀ i, M2 a i = M a i) → (∀ i, M2 (a + 1) i = 0) → K (.inl none) lay2 M2) : X g m_X1_init 0 0 lay M 0 [(0, vR a)] [] K := by
  refine x_aload_n (pc := 0) dX1_init_0 rfl rfl ?_
  refine x_super (pc := 1) kiO1 dX1_init_1 (by decide) ⟨by decide, by decide⟩ ?_
  refine x_aload_n (pc := 4) dX1_init_4 rfl rfl ?_
  refine x_sipush (pc := 5) dX1_init_5 (by decide) ?_
  refine x_arrf (pc := 8) (n := 1024) ffX1_9 rfl rfl (by decide) na2 dX1_init_8 dX1_init_10 hk hw (by omega) (by decide) ⟨by decide, by decide⟩ rfl (fun l1 M1 z1 e1 n1 a1 m1 w1 => ?_)
  refine X.re (k' := (0, 1, fun j => some (a + 1 + j))) a1 ⟨rfl, rfl, fun _ => ?_, fun z => absurd rfl z⟩ ?_
  · intro j hj
    match j, hj with
    | 0, _ => exact congrArg some (by omega)
    | 1, h => cases h
    | j + 2, h => cases h
  · refine x_vret (pc := 13) dX1_init_13 rfl (by decide) (by decide) ?_
    refine k _ _ (by show l1.2 = _; omega) ⟨fun x h => (lput_ne (by omega)).trans (e1 x (by omega) (by omega)), fun x i h => (m1 x i (by omega))⟩ ⟨lput_at, (lput_ne (by omega)).trans (by rw [show a + 1 = lay.2 by omega]; exact n1)⟩ (fun i => (m1 a i (by omega))) (fun i => (by rw [show a + 1 = lay.2 by omega]; exact w1 i))
set_option maxRecDepth 100000 in
theorem sp_X2_init {g : GG} {lay : Lay} {M : Mem} {K : KK} {a : Nat} (hk : lay.1 a = some (0, 2, fun _ => none)) (hw : g.2.1 ≤ a) (hlt : a + 1 = lay.2) (k : ∀ lay2 M2, lay2.2 = lay.2 + 2 → Bel a lay lay2 M M2 → RdL lay2 a → (∀ i, M2 a i = if i = 4 then -1 else M a i) → (∀ i, M2 (a + 1) i = 0) → (∀ i, M2 (a + 2) i = 0) → K (.inl none) lay2 M2) : X g m_X2_init 0 0 lay M 0 [(0, vR a)] [] K := by
  refine x_aload_n (pc := 0) dX2_init_0 rfl rfl ?_
  refine x_super (pc := 1) kiO2 dX2_init_1 (by decide) ⟨by decide, by decide⟩ ?_
  refine x_aload_n (pc := 4) dX2_init_4 rfl rfl ?_
  refine x_sipush (pc := 5) dX2_init_5 (by decide) ?_
  refine x_arrf (pc := 8) (n := 600) ffX2_9 rfl rfl (by decide) na2 dX2_init_8 dX2_init_10 hk hw (by omega) (by decide) ⟨by decide, by decide⟩ rfl (fun l1 M1 z1 e1 n1 a1 m1 w1 => ?_)
  refine x_aload_n (pc := 13) dX2_init_13 rfl rfl ?_
  refine x_sipush (pc := 14) dX2_init_14 (by decide) ?_
  refine x_arrf (pc := 17) (n := 240) ffX2_15 rfl rfl (by decide) na0 dX2_init_17 dX2_init_19 a1 hw (by omega) (by decide) ⟨by decide, by decide⟩ rfl (fun l2 M2 z2 e2 n2 a2 m2 w2 => ?_)
  refine X.re (k' := (0, 2, fun j => some (a + 1 + j))) a2 ⟨rfl, rfl, fun _ => ?_, fun z => absurd rfl z⟩ ?_
  · intro j hj
    match j, hj with
    | 0, _ => exact congrArg some (by omega)
    | 1, _ => exact congrArg some (by omega)
    | 2, h => cases h
    | 3, h => cases h
    | 4, h => cases h
    | 5, h => cases h
    | 6, h => cases h
    | 7, h => cases h
    | 8, h => cases h
    | 9, h => cases h
    | 10, h => cases h
    | 11, h => cases h
    | 12, h => cases h
    | j + 13, h => cases h
  · refine x_aload_n (pc := 22) dX2_init_22 rfl rfl ?_
    refine x_iconst (pc := 23) dX2_init_23 ?_
    refine x_puti (pc := 24) fnX2_19 dX2_init_24 lput_at hw rfl ⟨by omega, by omega⟩ ?_
    refine x_vret (pc := 27) dX2_init_27 rfl (by decide) (by decide) ?_
    refine k _ _ (by show l2.2 = _; omega) ⟨fun x h => (lput_ne (by omega)).trans ((e2 x (by omega) (by omega)).trans (e1 x (by omega) (by omega))), fun x i h => (mset_nea (by omega)).trans ((m2 x i (by omega)).trans (m1 x i (by omega)))⟩ ⟨lput_at, (lput_ne (by omega)).trans ((e2 _ (by omega) (by omega)).trans (by rw [show a + 1 = lay.2 by omega]; exact n1)), (lput_ne (by omega)).trans (by rw [show a + 2 = l1.2 by omega]; exact n2)⟩ (fun i => ?_) (fun i => (mset_nea (by omega)).trans ((m2 _ i (by omega)).trans (by rw [show a + 1 = lay.2 by omega]; exact w1 i))) (fun i => (mset_nea (by omega)).trans (by rw [show a + 2 = l1.2 by omega]; exact w2 i))
    by_cases h4 : i = 4
    · subst h4
      rw [mset_same, if_pos rfl]
    · rw [mset_nei h4, if_neg h4]
      exact ((m2 a i (by omega)).trans (m1 a i (by omega)))
set_option maxRecDepth 100000 in
theorem sp_X0_init {g : GG} {lay : Lay} {M : Mem} {K : KK} {a : Nat} (hk : lay.1 a = some (0, 0, fun _ => none)) (hw : g.2.1 ≤ a) (hlt : a + 1 = lay.2) (k : ∀ lay2 M2, lay2.2 = lay.2 + 6 → Bel a lay lay2 M M2 → CtL lay2 a → Ct tNew M2 a → K (.inl none) lay2 M2) : X g m_X0_init 0 0 lay M 0 [(0, vR a)] [] K := by
  refine x_aload_n (pc := 0) dX0_init_0 rfl rfl ?_
  refine x_super (pc := 1) kiO0 dX0_init_1 (by decide) ⟨by decide, by decide⟩ ?_
  refine x_aload_n (pc := 4) dX0_init_4 rfl rfl ?_
  refine x_bipush (pc := 5) dX0_init_5 (by decide) ?_
  refine x_arrf (pc := 7) (n := 7) ffX0_9 rfl rfl (by decide) na0 dX0_init_7 dX0_init_9 hk hw (by omega) (by decide) ⟨by decide, by decide⟩ rfl (fun l1 M1 z1 e1 n1 a1 m1 w1 => ?_)
  refine x_aload_n (pc := 12) dX0_init_12 rfl rfl ?_
  refine x_iconst (pc := 13) dX0_init_13 ?_
  refine x_arrf (pc := 14) (n := 5) ffX0_15 rfl rfl (by decide) na0 dX0_init_14 dX0_init_16 a1 hw (by omega) (by decide) ⟨by decide, by decide⟩ rfl (fun l2 M2 z2 e2 n2 a2 m2 w2 => ?_)
  refine x_aload_n (pc := 19) dX0_init_19 rfl rfl ?_
  refine x_bipush (pc := 20) dX0_init_20 (by decide) ?_
  refine x_arrf (pc := 22) (n := 60) ffX0_18 rfl rfl (by decide) na0 dX0_init_22 dX0_init_24 a2 hw (by omega) (by decide) ⟨by decide, by decide⟩ rfl (fun l3 M3 z3 e3 n3 a3 m3 w3 => ?_)
  refine x_aload_n (pc := 27) dX0_init_27 rfl rfl ?_
  refine x_bipush (pc := 28) dX0_init_28 (by decide) ?_
  refine x_arrf (pc := 30) (n := 60) ffX0_21 rfl rfl (by decide) na0 dX0_init_30 dX0_init_32 a3 hw (by omega) (by decide) ⟨by decide, by decide⟩ rfl (fun l4 M4 z4 e4 n4 a4 m4 w4 => ?_)
  refine x_aload_n (pc := 35) dX0_init_35 rfl rfl ?_
  refine x_bipush (pc := 36) dX0_init_36 (by decide) ?_
  refine x_arrf (pc := 38) (n := 48) ffX0_24 rfl rfl (by decide) na0 dX0_init_38 dX0_init_40 a4 hw (by omega) (by decide) ⟨by decide, by decide⟩ rfl (fun l5 M5 z5 e5 n5 a5 m5 w5 => ?_)
  refine x_aload_n (pc := 43) dX0_init_43 rfl rfl ?_
  refine x_iconst (pc := 44) dX0_init_44 ?_
  refine x_arrf (pc := 45) (n := 2) ffX0_27 rfl rfl (by decide) na0 dX0_init_45 dX0_init_47 a5 hw (by omega) (by decide) ⟨by decide, by decide⟩ rfl (fun l6 M6 z6 e6 n6 a6 m6 w6 => ?_)
  refine X.re (k' := (0, 0, fun j => some (a + 1 + j))) a6 ⟨rfl, rfl, fun _ => ?_, fun z => absurd rfl z⟩ ?_
  · intro j hj
    match j, hj with
    | 0, _ => exact congrArg some (by omega)
    | 1, _ => exact congrArg some (by omega)
    | 2, _ => exact congrArg some (by omega)
    | 3, _ => exact congrArg some (by omega)
    | 4, _ => exact congrArg some (by omega)
    | 5, _ => exact congrArg some (by omega)
    | 6, h => cases h
    | 7, h => cases h
    | 8, h => cases h
    | j + 9, h => cases h
  · have hC : CtL (lput l6 a (0, 0, fun j => some (a + 1 + j))) a := ⟨lput_at, (lput_ne (by omega)).trans ((e6 _ (by omega) (by omega)).trans ((e5 _ (by omega) (by omega)).trans ((e4 _ (by omega) (by omega)).trans ((e3 _ (by omega) (by omega)).trans ((e2 _ (by omega) (by omega)).trans (by rw [show a + 1 = lay.2 by omega]; exact n1)))))), (lput_ne (by omega)).trans ((e6 _ (by omega) (by omega)).trans ((e5 _ (by omega) (by omega)).trans ((e4 _ (by omega) (by omega)).trans ((e3 _ (by omega) (by omega)).trans (by rw [show a + 2 = l1.2 by omega]; exact n2))))), (lput_ne (by omega)).trans ((e6 _ (by omega) (by omega)).trans ((e5 _ (by omega) (by omega)).trans ((e4 _ (by omega) (by omega)).trans (by rw [show a + 3 = l2.2 by omega]; exact n3)))), (lput_ne (by omega)).trans ((e6 _ (by omega) (by omega)).trans ((e5 _ (by omega) (by omega)).trans (by rw [show a + 4 = l3.2 by omega]; exact n4))), (lput_ne (by omega)).trans ((e6 _ (by omega) (by omega)).trans (by rw [show a + 5 = l4.2 by omega]; exact n5)), (lput_ne (by omega)).trans (by rw [show a + 6 = l5.2 by omega]; exact n6)⟩
    refine x_aload_n (pc := 50) dX0_init_50 rfl rfl ?_
    refine x_callV (pc := 51) [] rfl kX0_30 dX0_init_51 hC.1 rfl rfl (by decide) (Nat.le_of_ble_eq_true rfl) (Nat.le_of_ble_eq_true rfl) (by decide) ?_
    refine sp_X0_begin hC hw (fun M7 hF7 hT7 => ?_)
    refine ⟨none, rfl, ?_⟩
    refine x_vret (pc := 54) dX0_init_54 rfl (by decide) (by decide) ?_
    exact k _ _ (by show l6.2 = _; omega) ⟨fun x h => (lput_ne (by omega)).trans ((e6 x (by omega) (by omega)).trans ((e5 x (by omega) (by omega)).trans ((e4 x (by omega) (by omega)).trans ((e3 x (by omega) (by omega)).trans ((e2 x (by omega) (by omega)).trans (e1 x (by omega) (by omega))))))), fun x i h => (hF7 x i (by omega)).trans ((m6 x i (by omega)).trans ((m5 x i (by omega)).trans ((m4 x i (by omega)).trans ((m3 x i (by omega)).trans ((m2 x i (by omega)).trans (m1 x i (by omega)))))))⟩ hC hT7
set_option maxRecDepth 100000 in
theorem sp_X3_init {g : GG} {lay : Lay} {M : Mem} {K : KK} {a : Nat} (hk : lay.1 a = some (0, 3, fun _ => none)) (hw : g.2.1 ≤ a) (hlt : a + 1 = lay.2) (k : ∀ lay2 M2, lay2.2 = lay.2 + 8 → Bel a lay lay2 M M2 → SrL lay2 a → K (.inl none) lay2 M2) : X g m_X3_init 0 0 lay M 0 [(0, vR a)] [] K := by
  refine x_aload_n (pc := 0) dX3_init_0 rfl rfl ?_
  refine x_super (pc := 1) kiO3 dX3_init_1 (by decide) ⟨by decide, by decide⟩ ?_
  refine x_aload_n (pc := 4) dX3_init_4 rfl rfl ?_
  refine x_iconst (pc := 5) dX3_init_5 ?_
  refine x_iconst (pc := 6) dX3_init_6 ?_
  refine x_mnaG (pc := 7) (n := 5) (w := 5) dX3_init_7 cl9 na1 (by decide) (by decide) ⟨by decide, by decide⟩ (fun l0 M0 z0 e0 n0 v0 m0 w0 => ?_)
  refine x_putrG (pc := 11) ffX3_11 rfl dX3_init_11 ((e0 _ (by omega)).trans hk) hw rfl (fun l9 z9 e9 a9 => ?_)
  refine x_aload_n (pc := 14) dX3_init_14 rfl rfl ?_
  refine x_iconst (pc := 15) dX3_init_15 ?_
  refine x_arrf (pc := 16) (n := 5) ffX3_16 rfl rfl (by decide) na0 dX3_init_16 dX3_init_18 a9 hw (by omega) (by decide) ⟨by decide, by decide⟩ rfl (fun l1 M1 z1 e1 n1 a1 m1 w1 => ?_)
  refine x_aload_n (pc := 21) dX3_init_21 rfl rfl ?_
  refine x_iconst (pc := 22) dX3_init_22 ?_
  refine x_arrf (pc := 23) (n := 5) ffX3_20 rfl rfl (by decide) na1 dX3_init_23 dX3_init_25 a1 hw (by omega) (by decide) ⟨by decide, by decide⟩ rfl (fun l2 M2 z2 e2 n2 a2 m2 w2 => ?_)
  refine X.re (k' := (0, 3, fun j => match j with | 0 => some (a + 1) | 1 => some (a + 7) | _ => some (a + 8))) a2 ⟨rfl, rfl, fun _ => ?_, fun z => absurd rfl z⟩ ?_
  · intro j hj
    match j, hj with
    | 0, _ => exact congrArg some (by omega)
    | 1, _ => exact congrArg some (by omega)
    | 2, _ => exact congrArg some (by omega)
    | 3, h => cases h
    | j + 4, h => cases h
  · refine X.re (a := a + 1) (k := (6, 5, fun i => if i < 5 then some (lay.2 + 1 + i) else none)) (k' := (6, 5, fun j => some (a + 2 + j))) ((lput_ne (by omega)).trans ((e2 _ (by omega) (by omega)).trans ((e1 _ (by omega) (by omega)).trans ((e9 _ (by omega)).trans (by rw [show a + 1 = lay.2 by omega]; exact n0))))) ⟨rfl, rfl, fun z => absurd z (by show ¬ 6 = 0; decide), fun _ j hj => ?_⟩ ?_
    · have hj5 : j < 5 := hj
      show some (a + 2 + j) = if j < 5 then some (lay.2 + 1 + j) else none
      rw [if_pos hj5]
      exact congrArg some (by omega)
    · refine x_vret (pc := 28) dX3_init_28 rfl (by decide) (by decide) ?_
      exact k _ _ (by show l2.2 = _; omega) ⟨fun x h => (lput_ne (by omega)).trans ((lput_ne (by omega)).trans ((e2 _ (by omega) (by omega)).trans ((e1 _ (by omega) (by omega)).trans ((e9 _ (by omega)).trans (e0 x (by omega)))))), fun x i h => ((m2 x i (by omega)).trans ((m1 x i (by omega)).trans (m0 x i (by omega))))⟩ ⟨(lput_ne (by omega)).trans lput_at, lput_at, (lput_ne (by omega)).trans ((lput_ne (by omega)).trans ((e2 _ (by omega) (by omega)).trans ((e1 _ (by omega) (by omega)).trans ((e9 _ (by omega)).trans (by rw [show a + 2 = lay.2 + 1 + 0 by omega]; exact v0 0 (by omega)))))), (lput_ne (by omega)).trans ((lput_ne (by omega)).trans ((e2 _ (by omega) (by omega)).trans ((e1 _ (by omega) (by omega)).trans ((e9 _ (by omega)).trans (by rw [show a + 3 = lay.2 + 1 + 1 by omega]; exact v0 1 (by omega)))))), (lput_ne (by omega)).trans ((lput_ne (by omega)).trans ((e2 _ (by omega) (by omega)).trans ((e1 _ (by omega) (by omega)).trans ((e9 _ (by omega)).trans (by rw [show a + 4 = lay.2 + 1 + 2 by omega]; exact v0 2 (by omega)))))), (lput_ne (by omega)).trans ((lput_ne (by omega)).trans ((e2 _ (by omega) (by omega)).trans ((e1 _ (by omega) (by omega)).trans ((e9 _ (by omega)).trans (by rw [show a + 5 = lay.2 + 1 + 3 by omega]; exact v0 3 (by omega)))))), (lput_ne (by omega)).trans ((lput_ne (by omega)).trans ((e2 _ (by omega) (by omega)).trans ((e1 _ (by omega) (by omega)).trans ((e9 _ (by omega)).trans (by rw [show a + 6 = lay.2 + 1 + 4 by omega]; exact v0 4 (by omega)))))), (lput_ne (by omega)).trans ((lput_ne (by omega)).trans ((e2 _ (by omega) (by omega)).trans (by rw [show a + 7 = l9.2 by omega]; exact n1))), (lput_ne (by omega)).trans ((lput_ne (by omega)).trans (by rw [show a + 8 = l1.2 by omega]; exact n2))⟩
