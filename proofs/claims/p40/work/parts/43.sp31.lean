/-! Specs of RootDuel: appendText, restore. -/
def apTx (x : Int) : Nat → (Nat → Int) → Nat → Nat → Int
  | 0, tx, _ => tx
  | d + 1, tx, n => apTx x d (fup tx n ((x / 2 ^ (8 * d)).bmod 256)) (n + 1)
theorem bm256 (x : Int) : -128 ≤ x.bmod 256 ∧ x.bmod 256 ≤ 127 := by
  have h1 := Int.le_bmod (x := x) (m := 256) (by decide)
  have h2 := Int.bmod_lt (x := x) (m := 256) (by decide)
  omega

set_option maxRecDepth 100000 in
theorem sp_X4_appendText {g : GG} {lay : Lay} {M : Mem} {K : KK} {b n : Nat} {sv : Nat → Option Nat} {tx v : Nat → Int} {x : Int} (hd : DuL lay b sv) (hb0 : g.2.1 ≤ b) (hr : Rd tx n v M (b + 25)) (hx : i32 x) (kx : 600 < n + 4 → ∀ m, lay.2 ≤ m → K eIS (lay.1, m) M) (k : n + 4 ≤ 600 → ∀ M2, Frm (b + 25) (b + 27) M M2 → Rd (apTx x 4 tx n) (n + 4) (fup v 2 (n + 4 : Nat)) M2 (b + 25) → K (oI (n + 4 : Nat)) lay M2) : X g m_X4_appendText 0 0 lay M 0 [(0, vR b), (1, vI x)] [] K := by
  obtain ⟨hx1, hx2⟩ := hx
  have e2 := hr.1.1
  have loop : n + 4 ≤ 600 → ∀ (d n1 : Nat) (y : Int) (tx1 v1 : Nat → Int) (M1 : Mem), d ≤ 4 → n1 + d = n + 4 → y = 8 * (d : Int) - 8 → Frm (b + 25) (b + 27) M M1 → Rd tx1 n1 v1 M1 (b + 25) → (∀ j, fup v1 2 (n + 4 : Nat) j = fup v 2 (n + 4 : Nat) j) → apTx x d tx1 n1 = apTx x 4 tx n → X g m_X4_appendText 0 0 lay M1 22 [(2, vI y), (0, vR b), (1, vI x)] [] K := by
    intro h600 d
    have k2 := k h600
    clear k
    induction d with
    | zero =>
      intro n1 y tx1 v1 M1 hd4 hn hy hF hr1 hv1 hu
      have hn1 : n1 = n + 4 := by omega
      subst hn1
      have a2 := (hr1.at 2 (by decide) (by decide)).trans hr1.1.2
      refine x_iload_n (pc := 22) dX4_appendText_22 rfl rfl ?_
      refine x_if_lt (pc := 23) (t := 43) dX4_appendText_23 (by decide) ⟨by omega, by omega⟩ (fun c23 => ?_) (fun c23 => ?_)
      · refine x_aload_n (pc := 43) dX4_appendText_43 rfl rfl ?_
        refine x_getr (pc := 44) (b := b + 25) fX4_33 dX4_appendText_44 hd.1 rfl rfl ?_
        refine x_geti (pc := 47) fX4_63 dX4_appendText_47 hd.2.2.2.2.2.1.1 rfl (fun r47a r47b => ?_)
        rw [a2] at r47a r47b ⊢
        refine x_iret (pc := 50) dX4_appendText_50 rfl (by decide) (by decide) ?_
        simp only [apTx] at hu
        rw [hu] at hr1
        refine k2 _ hF (hr1.to (fun j => ?_))
        rw [← hv1]
        unfold fup
        split
        · next h => rw [h]; exact hr1.1.2
        · rfl
      · exfalso; omega
    | succ d ih =>
      intro n1 y tx1 v1 M1 hd4 hn hy hF hr1 hv1 hu
      have hbm := bm256 (x / 2 ^ (8 * d))
      have hyd : y = ((8 * d : Nat) : Int) := by omega
      refine x_iload_n (pc := 22) dX4_appendText_22 rfl rfl ?_
      refine x_if_lt (pc := 23) (t := 43) dX4_appendText_23 (by decide) ⟨by omega, by omega⟩ (fun c23 => ?_) (fun c23 => ?_)
      · exfalso; omega
      · refine x_aload_n (pc := 26) dX4_appendText_26 rfl rfl ?_
        refine x_getr (pc := 27) (b := b + 25) fX4_33 dX4_appendText_27 hd.1 rfl rfl ?_
        refine x_iload_n (pc := 30) dX4_appendText_30 rfl rfl ?_
        refine x_iload_n (pc := 31) dX4_appendText_31 rfl rfl ?_
        refine x_ishr (pc := 32) (8 * d) (by omega) hyd ⟨by omega, by omega⟩ dX4_appendText_32 ?_
        refine x_i2b (pc := 33) dX4_appendText_33 ?_
        refine x_callV (pc := 34) [_] rfl kX4_59 dX4_appendText_34 hd.2.2.2.2.2.1.1 rfl rfl (by decide) (Nat.le_of_ble_eq_true rfl) (Nat.le_of_ble_eq_true rfl) (by decide) ?_
        refine sp_X2_append hd.2.2.2.2.2.1 (by omega) hr1 (by omega) hbm (fun M2 hF2 hr2 => ?_)
        refine ⟨_, rfl, ?_⟩
        refine x_iinc (pc := 37) dX4_appendText_37 rfl (by decide) (L' := [(2, _), (0, _), (1, _)]) rfl ?_
        refine x_goto (pc := 40) (t := 22) dX4_appendText_40 (by decide) ?_
        refine X.loc [0, 1, 2] (L' := [(2, _), (0, _), (1, _)]) rfl ?_
        exact ih _ _ _ _ _ (by omega) (by omega) (by omega) (hF.trans hF2) hr2 (fun j => by rw [fup_fup]; exact hv1 j) hu
  have hz := @b01 ((n : Int) + 4 ≤ 600) inferInstance
  refine x_aload_n (pc := 0) dX4_appendText_0 rfl rfl ?_
  refine x_getr (pc := 1) (b := b + 25) fX4_33 dX4_appendText_1 hd.1 rfl rfl ?_
  refine x_iconst (pc := 4) dX4_appendText_4 ?_
  refine x_callV (pc := 5) [_] rfl kX4_52 dX4_appendText_5 hd.2.2.2.2.2.1.1 rfl rfl (by decide) (Nat.le_of_ble_eq_true rfl) (Nat.le_of_ble_eq_true rfl) (by decide) ?_
  refine sp_X2_hasRoom hd.2.2.2.2.2.1 hr (by decide) ?_
  refine ⟨_, rfl, ?_⟩
  refine x_if_ne (pc := 8) (t := 19) dX4_appendText_8 (by decide) ⟨by omega, by omega⟩ (fun c8 => ?_) (fun c8 => ?_)
  · refine x_bipush (pc := 19) dX4_appendText_19 (by decide) ?_
    refine x_istore_n (pc := 21) dX4_appendText_21 rfl (by decide) (L' := [(2, _), (0, _), (1, _)]) rfl ?_
    refine X.loc [0, 1, 2] (L' := [(2, _), (0, _), (1, _)]) rfl ?_
    have := b1 c8
    exact loop (by omega) 4 n _ _ _ _ (by decide) rfl rfl Frm.rf hr (fun j => rfl) rfl
  · refine x_throw0 (pc := 11) ct56 dX4_appendText_11 dX4_appendText_14 dX4_appendText_15 dX4_appendText_18 rfl (by decide) (Nat.le_of_ble_eq_true rfl) (Nat.le_of_ble_eq_true rfl) ?_
    have := b0 c8
    exact kx (by omega)
