/-! RootDuel's constructor. -/
theorem CtL.tr {l l' : Lay} {c : Nat} (h : CtL l c) (e : ∀ x, c ≤ x → x < c + 7 → l'.1 x = l.1 x) : CtL l' c := by
  obtain ⟨h0, h1, h2, h3, h4, h5, h6⟩ := h
  exact ⟨(e _ (by omega) (by omega)).trans h0, (e _ (by omega) (by omega)).trans h1, (e _ (by omega) (by omega)).trans h2, (e _ (by omega) (by omega)).trans h3, (e _ (by omega) (by omega)).trans h4, (e _ (by omega) (by omega)).trans h5, (e _ (by omega) (by omega)).trans h6⟩
theorem SrL.tr {l l' : Lay} {c : Nat} (h : SrL l c) (e : ∀ x, c ≤ x → x < c + 9 → l'.1 x = l.1 x) : SrL l' c := by
  obtain ⟨h0, h1, h2, h3, h4, h5, h6, h7, h8⟩ := h
  exact ⟨(e _ (by omega) (by omega)).trans h0, (e _ (by omega) (by omega)).trans h1, (e _ (by omega) (by omega)).trans h2, (e _ (by omega) (by omega)).trans h3, (e _ (by omega) (by omega)).trans h4, (e _ (by omega) (by omega)).trans h5, (e _ (by omega) (by omega)).trans h6, (e _ (by omega) (by omega)).trans h7, (e _ (by omega) (by omega)).trans h8⟩
theorem RdL.tr {l l' : Lay} {c : Nat} (h : RdL l c) (e : ∀ x, c ≤ x → x < c + 3 → l'.1 x = l.1 x) : RdL l' c := by
  obtain ⟨h0, h1, h2⟩ := h
  exact ⟨(e _ (by omega) (by omega)).trans h0, (e _ (by omega) (by omega)).trans h1, (e _ (by omega) (by omega)).trans h2⟩
theorem PgL.tr {l l' : Lay} {c : Nat} (h : PgL l c) (e : ∀ x, c ≤ x → x < c + 2 → l'.1 x = l.1 x) : PgL l' c := by
  obtain ⟨h0, h1⟩ := h
  exact ⟨(e _ (by omega) (by omega)).trans h0, (e _ (by omega) (by omega)).trans h1⟩

set_option maxRecDepth 100000 in
theorem sp_X4_init {g : GG} {lay : Lay} {M : Mem} {K : KK} {a : Nat} (hk : lay.1 a = some (0, 4, fun _ => none)) (hw : g.2.1 ≤ a) (hlt : a + 1 = lay.2) (k : ∀ lay2 M2, lay2.2 = lay.2 + 31 → Bel a lay lay2 M M2 → DuL lay2 a (fun _ => none) → Ct tNew M2 (a + 1) → (∀ i, M2 a i = M a i) → (∀ i, M2 (a + 30) i = 0) → (∀ i, M2 (a + 25) i = if i = 4 then -1 else 0) → (∀ i, M2 (a + 28) i = 0) → (∀ i, M2 (a + 28 + 1) i = 0) → K (.inl none) lay2 M2) : X g m_X4_init 0 0 lay M 0 [(0, vR a)] [] K := by
  refine x_aload_n (pc := 0) dX4_init_0 rfl rfl ?_
  refine x_super (pc := 1) kiO4 dX4_init_1 (by decide) ⟨by decide, by decide⟩ ?_
  have B1 : lay.2 = a + 1 := by omega
  refine x_aload_n (pc := 4) dX4_init_4 rfl rfl ?_
  refine x_newG (pc := 5) cn7 dX4_init_5 ⟨by decide, by decide⟩ (fun nl1 nM1 nz1 ne1 nn1 nm1 nw1 => ?_)
  refine x_dup (pc := 8) dX4_init_8 rfl ?_
  refine x_callI (pc := 9) kiC dX4_init_9 (by decide) (by decide) (Nat.le_of_ble_eq_true rfl) ⟨by decide, by decide⟩ ?_
  refine sp_X0_init nn1 (by omega) (by omega) (fun cl1 cM1 cz1 cb1 cL1 T1 => ?_)
  refine ⟨none, rfl, ?_⟩
  refine x_putrG (pc := 12) ffX4_10 rfl dX4_init_12 ((cb1.1 _ (by omega)).trans ((ne1 _ (by omega)).trans hk)) hw rfl (fun l1 z1 e1 a1 => ?_)
  have E1 : ∀ x, x ≠ a → x < lay.2 → l1.1 x = lay.1 x := fun x h1 h2 => (e1 x h1).trans ((cb1.1 x (by omega)).trans (ne1 x (by omega)))
  have F1 : ∀ x i, x < lay.2 → cM1 x i = M x i := fun x i h => (cb1.2 x i h).trans (nm1 x i (by omega))
  have B2 : l1.2 = a + 8 := by omega
  refine x_aload_n (pc := 15) dX4_init_15 rfl rfl ?_
  refine x_newG (pc := 16) cn7 dX4_init_16 ⟨by decide, by decide⟩ (fun nl2 nM2 nz2 ne2 nn2 nm2 nw2 => ?_)
  refine x_dup (pc := 19) dX4_init_19 rfl ?_
  refine x_callI (pc := 20) kiC dX4_init_20 (by decide) (by decide) (Nat.le_of_ble_eq_true rfl) ⟨by decide, by decide⟩ ?_
  refine sp_X0_init nn2 (by omega) (by omega) (fun cl2 cM2 cz2 cb2 cL2 T2 => ?_)
  refine ⟨none, rfl, ?_⟩
  refine x_putrG (pc := 23) ffX4_16 rfl dX4_init_23 ((cb2.1 _ (by omega)).trans ((ne2 _ (by omega)).trans a1)) hw rfl (fun l2 z2 e2 a2 => ?_)
  have E2 : ∀ x, x ≠ a → x < l1.2 → l2.1 x = l1.1 x := fun x h1 h2 => (e2 x h1).trans ((cb2.1 x (by omega)).trans (ne2 x (by omega)))
  have F2 : ∀ x i, x < l1.2 → cM2 x i = cM1 x i := fun x i h => (cb2.2 x i h).trans (nm2 x i (by omega))
  have B3 : l2.2 = a + 15 := by omega
  refine x_aload_n (pc := 26) dX4_init_26 rfl rfl ?_
  refine x_iconst (pc := 27) dX4_init_27 ?_
  refine x_newqG (pc := 28) (n := 2) dX4_init_28 cl7 (by decide) ⟨by decide, by decide⟩ (fun nl3 nM3 nz3 ne3 nn3 nm3 nw3 => ?_)
  refine x_putrG (pc := 31) ffX4_19 rfl dX4_init_31 ((ne3 _ (by omega)).trans a2) hw rfl (fun l3 z3 e3 a3 => ?_)
  have E3 : ∀ x, x ≠ a → x < l2.2 → l3.1 x = l2.1 x := fun x h1 h2 => (e3 x h1).trans (ne3 x (by omega))
  have F3 : ∀ x i, x < l2.2 → nM3 x i = cM2 x i := fun x i h => nm3 x i (by omega)
  have B4 : l3.2 = a + 16 := by omega
  refine x_aload_n (pc := 34) dX4_init_34 rfl rfl ?_
  refine x_newG (pc := 35) cn23 dX4_init_35 ⟨by decide, by decide⟩ (fun nl4 nM4 nz4 ne4 nn4 nm4 nw4 => ?_)
  refine x_dup (pc := 38) dX4_init_38 rfl ?_
  refine x_callIN (pc := 39) kiS dX4_init_39 (by decide) (by decide) (Nat.le_of_ble_eq_true rfl) ⟨by decide, by decide⟩ ?_
  refine sp_X3_init nn4 (by omega) (by omega) (fun cl4 cM4 cz4 cb4 cL4 => ?_)
  refine ⟨none, rfl, ?_⟩
  refine x_putrG (pc := 42) ffX4_26 rfl dX4_init_42 ((cb4.1 _ (by omega)).trans ((ne4 _ (by omega)).trans a3)) hw rfl (fun l4 z4 e4 a4 => ?_)
  have E4 : ∀ x, x ≠ a → x < l3.2 → l4.1 x = l3.1 x := fun x h1 h2 => (e4 x h1).trans ((cb4.1 x (by omega)).trans (ne4 x (by omega)))
  have F4 : ∀ x i, x < l3.2 → cM4 x i = nM3 x i := fun x i h => (cb4.2 x i h).trans (nm4 x i (by omega))
  have B5 : l4.2 = a + 25 := by omega
  refine x_aload_n (pc := 45) dX4_init_45 rfl rfl ?_
  refine x_newG (pc := 46) cn30 dX4_init_46 ⟨by decide, by decide⟩ (fun nl5 nM5 nz5 ne5 nn5 nm5 nw5 => ?_)
  refine x_dup (pc := 49) dX4_init_49 rfl ?_
  refine x_callIN (pc := 50) kiR dX4_init_50 (by decide) (by decide) (Nat.le_of_ble_eq_true rfl) ⟨by decide, by decide⟩ ?_
  refine sp_X2_init nn5 (by omega) (by omega) (fun cl5 cM5 cz5 cb5 cL5 R1 R2 R3 => ?_)
  refine ⟨none, rfl, ?_⟩
  refine x_putrG (pc := 53) ffX4_33 rfl dX4_init_53 ((cb5.1 _ (by omega)).trans ((ne5 _ (by omega)).trans a4)) hw rfl (fun l5 z5 e5 a5 => ?_)
  have E5 : ∀ x, x ≠ a → x < l4.2 → l5.1 x = l4.1 x := fun x h1 h2 => (e5 x h1).trans ((cb5.1 x (by omega)).trans (ne5 x (by omega)))
  have F5 : ∀ x i, x < l4.2 → cM5 x i = cM4 x i := fun x i h => (cb5.2 x i h).trans (nm5 x i (by omega))
  have B6 : l5.2 = a + 28 := by omega
  refine x_aload_n (pc := 56) dX4_init_56 rfl rfl ?_
  refine x_newG (pc := 57) cn37 dX4_init_57 ⟨by decide, by decide⟩ (fun nl6 nM6 nz6 ne6 nn6 nm6 nw6 => ?_)
  refine x_dup (pc := 60) dX4_init_60 rfl ?_
  refine x_callIN (pc := 61) kiP dX4_init_61 (by decide) (by decide) (Nat.le_of_ble_eq_true rfl) ⟨by decide, by decide⟩ ?_
  refine sp_X1_init nn6 (by omega) (by omega) (fun cl6 cM6 cz6 cb6 cL6 P1 P2 => ?_)
  refine ⟨none, rfl, ?_⟩
  refine x_putrG (pc := 64) ffX4_40 rfl dX4_init_64 ((cb6.1 _ (by omega)).trans ((ne6 _ (by omega)).trans a5)) hw rfl (fun l6 z6 e6 a6 => ?_)
  have E6 : ∀ x, x ≠ a → x < l5.2 → l6.1 x = l5.1 x := fun x h1 h2 => (e6 x h1).trans ((cb6.1 x (by omega)).trans (ne6 x (by omega)))
  have F6 : ∀ x i, x < l5.2 → cM6 x i = cM5 x i := fun x i h => (cb6.2 x i h).trans (nm6 x i (by omega))
  have B7 : l6.2 = a + 30 := by omega
  refine x_aload_n (pc := 67) dX4_init_67 rfl rfl ?_
  refine x_bipush (pc := 68) dX4_init_68 (by decide) ?_
  refine x_arrf (pc := 70) (n := 9) ffX4_44 rfl rfl (by decide) na0 dX4_init_70 dX4_init_72 a6 hw (by omega) (by decide) ⟨by decide, by decide⟩ rfl (fun l7 M7 z7 e7 n7 a7 m7 w7 => ?_)
  have E7 : ∀ x, x ≠ a → x < l6.2 → l7.1 x = l6.1 x := fun x h1 h2 => e7 x h1 (by omega)
  have F7 : ∀ x i, x < l6.2 → M7 x i = cM6 x i := fun x i h => m7 x i (by omega)
  have B8 : l7.2 = a + 31 := by omega
  refine x_aload_n (pc := 75) dX4_init_75 rfl rfl ?_
  refine x_iconst (pc := 76) dX4_init_76 ?_
  refine x_arrf (pc := 77) (n := 5) ffX4_48 rfl rfl (by decide) na1 dX4_init_77 dX4_init_79 a7 hw (by omega) (by decide) ⟨by decide, by decide⟩ rfl (fun l8 M8 z8 e8 n8 a8 m8 w8 => ?_)
  have E8 : ∀ x, x ≠ a → x < l7.2 → l8.1 x = l7.1 x := fun x h1 h2 => e8 x h1 (by omega)
  have F8 : ∀ x i, x < l7.2 → M8 x i = M7 x i := fun x i h => m8 x i (by omega)
  refine X.re (k' := (0, 4, fun j => match j with | 0 => some (a + 1) | 1 => some (a + 8) | 2 => some (a + 15) | 3 => some (a + 16) | 4 => some (a + 25) | 5 => some (a + 28) | 6 => some (a + 30) | _ => some (a + 31))) a8 ⟨rfl, rfl, fun _ => ?_, fun z => absurd rfl z⟩ ?_
  · intro j hj
    match j, hj with
    | 0, _ => exact congrArg some (by omega)
    | 1, _ => exact congrArg some (by omega)
    | 2, _ => exact congrArg some (by omega)
    | 3, _ => exact congrArg some (by omega)
    | 4, _ => exact congrArg some (by omega)
    | 5, _ => exact congrArg some (by omega)
    | 6, _ => exact congrArg some (by omega)
    | 7, _ => exact congrArg some (by omega)
    | 8, h => cases h
    | j + 9, h => cases h
  · rw [B1] at cL1 T1
    rw [B2] at cL2 T2
    rw [B4] at cL4
    rw [B5] at cL5 R1 R2 R3
    rw [B6] at cL6 P1 P2
    have hD : DuL (lput l8 a (0, 4, fun j => match j with | 0 => some (a + 1) | 1 => some (a + 8) | 2 => some (a + 15) | 3 => some (a + 16) | 4 => some (a + 25) | 5 => some (a + 28) | 6 => some (a + 30) | _ => some (a + 31))) a (fun _ => none) := by
      refine ⟨lput_at, cL1.tr (fun x h1 h2 => (lput_ne (by omega)).trans ((E8 x (by omega) (by omega)).trans ((E7 x (by omega) (by omega)).trans ((E6 x (by omega) (by omega)).trans ((E5 x (by omega) (by omega)).trans ((E4 x (by omega) (by omega)).trans ((E3 x (by omega) (by omega)).trans ((E2 x (by omega) (by omega)).trans (e1 x (by omega)))))))))), cL2.tr (fun x h1 h2 => (lput_ne (by omega)).trans ((E8 x (by omega) (by omega)).trans ((E7 x (by omega) (by omega)).trans ((E6 x (by omega) (by omega)).trans ((E5 x (by omega) (by omega)).trans ((E4 x (by omega) (by omega)).trans ((E3 x (by omega) (by omega)).trans (e2 x (by omega))))))))), ?_, cL4.tr (fun x h1 h2 => (lput_ne (by omega)).trans ((E8 x (by omega) (by omega)).trans ((E7 x (by omega) (by omega)).trans ((E6 x (by omega) (by omega)).trans ((E5 x (by omega) (by omega)).trans (e4 x (by omega))))))), cL5.tr (fun x h1 h2 => (lput_ne (by omega)).trans ((E8 x (by omega) (by omega)).trans ((E7 x (by omega) (by omega)).trans ((E6 x (by omega) (by omega)).trans (e5 x (by omega)))))), cL6.tr (fun x h1 h2 => (lput_ne (by omega)).trans ((E8 x (by omega) (by omega)).trans ((E7 x (by omega) (by omega)).trans (e6 x (by omega))))), ?_, ?_, ?_⟩
      · exact (lput_ne (by omega)).trans ((E8 _ (by omega) (by omega)).trans ((E7 _ (by omega) (by omega)).trans ((E6 _ (by omega) (by omega)).trans ((E5 _ (by omega) (by omega)).trans ((E4 _ (by omega) (by omega)).trans ((e3 _ (by omega)).trans (by rw [← B3]; exact nn3)))))))
      · exact (lput_ne (by omega)).trans ((E8 _ (by omega) (by omega)).trans (by rw [← B7]; exact n7))
      · exact (lput_ne (by omega)).trans (by rw [← B8]; exact n8)
      · exact ⟨fun i a2 _ h => (by cases h), fun a2 a3 h => (by cases h)⟩
    refine x_vret (pc := 82) dX4_init_82 rfl (by decide) (by decide) ?_
    refine k _ _ (by show l8.2 = _; omega) ⟨fun x h => (lput_ne (by omega)).trans ((E8 x (by omega) (by omega)).trans ((E7 x (by omega) (by omega)).trans ((E6 x (by omega) (by omega)).trans ((E5 x (by omega) (by omega)).trans ((E4 x (by omega) (by omega)).trans ((E3 x (by omega) (by omega)).trans ((E2 x (by omega) (by omega)).trans (E1 x (by omega) (by omega))))))))), fun x i h => ((F8 x i (by omega)).trans ((F7 x i (by omega)).trans ((F6 x i (by omega)).trans ((F5 x i (by omega)).trans ((F4 x i (by omega)).trans ((F3 x i (by omega)).trans ((F2 x i (by omega)).trans (F1 x i (by omega)))))))))⟩ hD (T1.gen (fun x i h1 h2 => ((F8 x i (by omega)).trans ((F7 x i (by omega)).trans ((F6 x i (by omega)).trans ((F5 x i (by omega)).trans ((F4 x i (by omega)).trans ((F3 x i (by omega)).trans (F2 x i (by omega)))))))))) (fun i => ?_) (fun i => ?_) (fun i => ?_) (fun i => ?_) (fun i => ?_)
    · have x : Nat := a
      exact ((F8 a i (by omega)).trans ((F7 a i (by omega)).trans ((F6 a i (by omega)).trans ((F5 a i (by omega)).trans ((F4 a i (by omega)).trans ((F3 a i (by omega)).trans ((F2 a i (by omega)).trans (F1 a i (by omega)))))))))
    · exact (F8 (a + 30) i (by omega)).trans (by rw [← B7]; exact w7 i)
    · exact (((F8 (a + 25) i (by omega)).trans ((F7 (a + 25) i (by omega)).trans (F6 (a + 25) i (by omega))))).trans ((R1 i).trans (by rw [show nM5 (a + 25) i = 0 by rw [← B5]; exact nw5 i]))
    · exact (((F8 (a + 28) i (by omega)).trans (F7 (a + 28) i (by omega)))).trans ((P1 i).trans (by rw [← B6]; exact nw6 i))
    · exact (((F8 (a + 28 + 1) i (by omega)).trans (F7 (a + 28 + 1) i (by omega)))).trans (P2 i)
