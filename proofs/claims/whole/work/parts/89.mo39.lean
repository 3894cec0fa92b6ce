/-! RootDuel's save. -/
set_option maxRecDepth 100000 in
theorem sp_X4_save {g : GG} {lay : Lay} {M : Mem} {K : KK} {b : Nat} {sv : Nat → Option Nat} {x : Int} {T : CT} (hd : DuL lay b sv) (hb0 : g.2.1 ≤ b) (hx : i32 x) (hT : Ct T M (b + 1)) (hW : WfT T) (hsz : b + 32 ≤ lay.2) (hsv7 : ∀ i a, i < 2 → sv i = some a → a + 7 ≤ lay.2) (kA : ¬ (0 ≤ x ∧ x < 2) → ∀ m, lay.2 ≤ m → K eIA (lay.1, m) M) (k : ∀ (lay2 : Lay) (M2 : Mem) (sv2 : Nat → Option Nat) (c : Nat), 0 ≤ x ∧ x < 2 → sv2 x.toNat = some c → (∀ j, j ≠ x.toNat → sv2 j = sv j) → ((sv x.toNat = some c ∧ lay2 = lay) ∨ (lay.2 = c ∧ lay2.2 = lay.2 + 7)) → DuL lay2 b sv2 → (∀ q, q ≠ b + 15 → q < lay.2 → lay2.1 q = lay.1 q) → (∀ q j, q < lay.2 → ¬ (c ≤ q ∧ q < c + 7) → M2 q j = M q j) → Ct T M2 c → K (.inl none) lay2 M2) : X g m_X4_save 0 0 lay M 0 [(0, vR b), (1, vI x)] [] K := by
  obtain ⟨hx1, hx2⟩ := hx
  obtain ⟨d1, dC, dT, dS, dR, dRd, dP, dA, dH, dv1, dv2⟩ := id hd
  have good39 : ∀ (lay2 : Lay) (M2 : Mem) (sv2 : Nat → Option Nat) (c cn ck : Nat), 0 ≤ x ∧ x < 2 → sv2 x.toNat = some c → (∀ j, j ≠ x.toNat → sv2 j = sv j) → ((sv x.toNat = some c ∧ lay2 = lay) ∨ (lay.2 = c ∧ lay2.2 = lay.2 + 7)) → DuL lay2 b sv2 → (∀ q, q ≠ b + 15 → q < lay.2 → lay2.1 q = lay.1 q) → (∀ q j, q < lay.2 → ¬ (c ≤ q ∧ q < c + 7) → M2 q j = M q j) → Ct T M2 (b + 1) → cn ≤ r_mc m_X4_save → ck ≤ r_ms m_X4_save → X g m_X4_save cn ck lay2 M2 39 [(0, vR b), (1, vI x)] [] K := by
    intro lay2 M2 sv2 c cn ck h1 h2 h3 h4 hd2 h5 h6 hT2 hcn hck
    obtain ⟨hbc, hCc⟩ := hd2.2.2.2.2.2.2.2.2.2.1 x.toNat c (by omega) h2
    refine x_aload_n (pc := 39) dX4_save_39 rfl rfl ?_
    refine x_getr (pc := 40) (b := b + 15) fX4_19 dX4_save_40 hd2.1 rfl rfl ?_
    refine x_iload_n (pc := 43) dX4_save_43 rfl rfl ?_
    refine x_aaldR (pc := 44) c dX4_save_44 hd2.2.2.2.1 (by omega) (by omega) h2 ?_
    refine x_aload_n (pc := 45) dX4_save_45 rfl rfl ?_
    refine x_getr (pc := 46) (b := b + 1) fX4_10 dX4_save_46 hd2.1 rfl rfl ?_
    refine x_callV (pc := 49) [_] rfl kX4_77 dX4_save_49 hCc.1 rfl rfl (by decide) (Nat.le_of_ble_eq_true rfl) (Nat.le_of_ble_eq_true rfl) ⟨hcn, hck⟩ ?_
    refine sp_X0_copyFrom hCc hd2.2.1 (by omega) (by omega) hT2 hW (fun M3 hF3 hT3 => ?_)
    refine ⟨_, rfl, ?_⟩
    refine x_vret (pc := 52) dX4_save_52 rfl hcn hck ?_
    exact k lay2 M3 sv2 c h1 h2 h3 h4 hd2 h5 (fun q j q1 q2 => (hF3 q j q2).trans (h6 q j q1 q2)) hT3
  cases hsv : sv x.toNat with
  | none =>
    refine x_iload_n (pc := 0) dX4_save_0 rfl rfl ?_
    refine x_if_lt (pc := 1) (t := 9) dX4_save_1 (by decide) ⟨by omega, by omega⟩ (fun c1 => ?_) (fun c1 => ?_)
    · refine x_throw0 (pc := 9) ct67 dX4_save_9 dX4_save_12 dX4_save_13 dX4_save_16 rfl (by decide) (Nat.le_of_ble_eq_true rfl) (Nat.le_of_ble_eq_true rfl) ?_
      exact kA (by omega)
    · refine x_iload_n (pc := 4) dX4_save_4 rfl rfl ?_
      refine x_iconst (pc := 5) dX4_save_5 ?_
      refine x_icmp_lt (pc := 6) (t := 17) dX4_save_6 (by decide) ⟨by omega, by omega⟩ ⟨by omega, by omega⟩ (fun c6 => ?_) (fun c6 => ?_)
      · refine x_aload_n (pc := 17) dX4_save_17 rfl rfl ?_
        refine x_getr (pc := 18) (b := b + 15) fX4_19 dX4_save_18 d1 rfl rfl ?_
        refine x_iload_n (pc := 21) dX4_save_21 rfl rfl ?_
        refine x_aald (pc := 22) (t := 1) dX4_save_22 dS (by omega) (by omega) ?_
        rw [hsv]
        refine x_ifnonnullN (pc := 23) dX4_save_23 ?_
        refine x_aload_n (pc := 26) dX4_save_26 rfl rfl ?_
        refine x_getr (pc := 27) (b := b + 15) fX4_19 dX4_save_27 d1 rfl rfl ?_
        refine x_iload_n (pc := 30) dX4_save_30 rfl rfl ?_
        refine x_newG (pc := 31) cn7 dX4_save_31 ⟨by decide, by decide⟩ (fun l1 M1 z1 e1 n1 m1 w1 => ?_)
        refine x_dup (pc := 34) dX4_save_34 rfl ?_
        refine x_callI (pc := 35) kiC dX4_save_35 (by decide) (by decide) (Nat.le_of_ble_eq_true rfl) ⟨by decide, by decide⟩ ?_
        refine sp_X0_init n1 (by omega) (by omega) (fun l2 M2 z2 b2 C2 T2 => ?_)
        refine ⟨none, rfl, ?_⟩
        refine x_aastC (pc := 38) (n := 2) (rf := sv) dX4_save_38 ((b2.1 _ (by omega)).trans ((e1 _ (by omega)).trans dS)) C2.1 (by omega) (by omega) (by omega) ?_
        have E : ∀ q, q ≠ b + 15 → q < lay.2 → (lput l2 (b + 15) (7, 2, fun j => if j = x.toNat then some lay.2 else sv j)).1 q = lay.1 q := fun q h1 h2 => (lput_ne h1).trans ((b2.1 q h2).trans (e1 q (by omega)))
        have hF : ∀ q j, q < lay.2 → M2 q j = M q j := fun q j h => (b2.2 q j h).trans (m1 q j (by omega))
        have hx9 : x.toNat = 0 ∨ x.toNat = 1 := by omega
        refine good39 _ M2 _ lay.2 _ _ ⟨by omega, by omega⟩ (if_pos rfl) (fun j hj => if_neg hj) (Or.inr ⟨rfl, by show l2.2 = _; omega⟩) ⟨(E _ (by omega) (by omega)).trans d1, dC.tr (fun q h1 h2 => E q (by omega) (by omega)), dT.tr (fun q h1 h2 => E q (by omega) (by omega)), lput_at, dR.tr (fun q h1 h2 => E q (by omega) (by omega)), dRd.tr (fun q h1 h2 => E q (by omega) (by omega)), dP.tr (fun q h1 h2 => E q (by omega) (by omega)), (E _ (by omega) (by omega)).trans dA, (E _ (by omega) (by omega)).trans dH, fun i a hi h => ?_, fun a a2 h1 h2 => ?_⟩ E (fun q j h _ => hF q j h) (hT.gen (fun q j h1 h2 => hF q j (by omega))) (by decide) (by decide)
        · by_cases e : i = x.toNat
          · have h9 : some lay.2 = some a := (if_pos e).symm.trans h
            cases h9
            exact ⟨hsz, C2.tr (fun q h1 h2 => lput_ne (by omega))⟩
          · have h9 : sv i = some a := (if_neg e).symm.trans h
            obtain ⟨g1, g2⟩ := dv1 i a hi h9
            have g3 := hsv7 i a hi h9
            exact ⟨g1, g2.tr (fun q h1 h2 => E q (by omega) (by omega))⟩
        · rcases hx9 with e | e
          · have h8 : some lay.2 = some a := (if_pos e.symm).symm.trans h1
            have h9 : sv 1 = some a2 := (if_neg (by omega)).symm.trans h2
            have := hsv7 1 a2 (by omega) h9
            cases h8
            omega
          · have h8 : some lay.2 = some a2 := (if_pos e.symm).symm.trans h2
            have h9 : sv 0 = some a := (if_neg (by omega)).symm.trans h1
            have := hsv7 0 a (by omega) h9
            cases h8
            omega
      · refine x_throw0 (pc := 9) ct67 dX4_save_9 dX4_save_12 dX4_save_13 dX4_save_16 rfl (by decide) (Nat.le_of_ble_eq_true rfl) (Nat.le_of_ble_eq_true rfl) ?_
        exact kA (by omega)
  | some a =>
    refine x_iload_n (pc := 0) dX4_save_0 rfl rfl ?_
    refine x_if_lt (pc := 1) (t := 9) dX4_save_1 (by decide) ⟨by omega, by omega⟩ (fun c1 => ?_) (fun c1 => ?_)
    · refine x_throw0 (pc := 9) ct67 dX4_save_9 dX4_save_12 dX4_save_13 dX4_save_16 rfl (by decide) (Nat.le_of_ble_eq_true rfl) (Nat.le_of_ble_eq_true rfl) ?_
      exact kA (by omega)
    · refine x_iload_n (pc := 4) dX4_save_4 rfl rfl ?_
      refine x_iconst (pc := 5) dX4_save_5 ?_
      refine x_icmp_lt (pc := 6) (t := 17) dX4_save_6 (by decide) ⟨by omega, by omega⟩ ⟨by omega, by omega⟩ (fun c6 => ?_) (fun c6 => ?_)
      · refine x_aload_n (pc := 17) dX4_save_17 rfl rfl ?_
        refine x_getr (pc := 18) (b := b + 15) fX4_19 dX4_save_18 d1 rfl rfl ?_
        refine x_iload_n (pc := 21) dX4_save_21 rfl rfl ?_
        refine x_aaldR (pc := 22) a dX4_save_22 dS (by omega) (by omega) hsv ?_
        refine x_ifnonnull (pc := 23) (t := 39) dX4_save_23 (by decide) ?_
        exact good39 lay M sv a 0 0 ⟨by omega, by omega⟩ hsv (fun j _ => rfl) (Or.inl ⟨hsv, rfl⟩) hd (fun q _ _ => rfl) (fun q j _ _ => rfl) hT (by decide) (by decide)
      · refine x_throw0 (pc := 9) ct67 dX4_save_9 dX4_save_12 dX4_save_13 dX4_save_16 rfl (by decide) (Nat.le_of_ble_eq_true rfl) (Nat.le_of_ble_eq_true rfl) ?_
        exact kA (by omega)
