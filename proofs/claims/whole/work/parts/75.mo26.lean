/-! The reference's reader: numbers, semicolons, errors. -/
def FrP (d : Nat) (M M' : Mem) : Prop := ∀ a j, ¬ (a = d ∧ 13 ≤ j ∧ j ≤ 18) → M' a j = M a j
theorem FrP.rf {d : Nat} {M : Mem} : FrP d M M := fun _ _ _ => rfl
theorem FrP.tr {d : Nat} {M M' M'' : Mem} (h : FrP d M M') (h2 : FrP d M' M'') : FrP d M M'' := fun a j q => (h2 a j q).trans (h a j q)
theorem FrG.p {d : Nat} {M M' : Mem} (h : FrG d M M') : FrP d M M' := fun a j q => h a j (fun z => q ⟨z.1, by omega⟩)
theorem FrP.ms {d j : Nat} {M M' : Mem} {v : Int} (h : FrP d M M') (hj : 13 ≤ j ∧ j ≤ 18) : FrP d M (mset M' d j v) := fun a i q => by
  rw [mset_ne (by omega)]
  exact h a i q
theorem Tx.p {tx : Nat → Int} {n : Nat} {M M' : Mem} {d : Nat} (h : Tx tx n M d) (h2 : FrP d M M') : Tx tx n M' d := h.z (h2 _ _ (by omega)) (fun j => h2 _ _ (by omega))
/-- no error yet: the token that lies there -/
def RelT (tx : Nat → Int) (n : Nat) (v : Nat → Int) (M : Mem) (d : Nat) : Prop := (Tx tx n M d ∧ TxR tx n ∧ TkOK n v) ∧ (M d 17 = 0 ∧ M d 18 = -1 ∧ v 3 = 0 ∧ v 4 = -1) ∧ M d 13 = v 8 ∧ M d 14 = v 7 ∧ M d 15 = mk (v 6) ∧ NumR (M d 16) (v 9)
/-- an error, and where -/
def BadT (tx : Nat → Int) (n : Nat) (v : Nat → Int) (M : Mem) (d : Nat) : Prop := (Tx tx n M d ∧ TxR tx n) ∧ (M d 17 = v 3 ∧ M d 18 = v 4 ∧ 0 < v 3 ∧ v 3 ≤ 5) ∧ (0 ≤ M d 16 ∧ M d 16 ≤ 200000)
def PRel (tx : Nat → Int) (n : Nat) (R : PR) (M : Mem) (d : Nat) : Prop := (R.1 = 1 ∧ RelT tx n R.2 M d) ∨ (R.1 ≠ 1 ∧ BadT tx n R.2 M d)
theorem NumR.rng {a x : Int} (h : NumR a x) : 0 ≤ a ∧ a ≤ 200000 ∧ 0 ≤ x ∧ x ≤ 1000 := by unfold NumR at h; omega
theorem NumR.iff {a x lo hi : Int} (h : NumR a x) (hh : hi < 1000) : (lo ≤ a ∧ a ≤ hi) ↔ (lo ≤ x ∧ x ≤ hi) := by unfold NumR at h; omega
theorem NumR.eq {a x hi : Int} (h : NumR a x) (hh : hi < 1000) (hx : x ≤ hi) : a = x := by unfold NumR at h; omega
theorem mk_iff {x : Int} : (mk x = 2 ↔ x = 2) ∧ (mk x = 3 ↔ x = 4) ∧ (mk x = 4 ↔ x = 3) ∧ (mk x = 0 ↔ x = 0) ∧ (mk x = 1 ↔ x = 1) := by
  unfold mk
  repeat' split
  all_goals omega
theorem tokF_at (tx : Nat → Int) (n : Nat) (v : Nat → Int) : tokF tx n v 6 = (tokAt tx n (v 8).toNat).1 ∧ tokF tx n v 7 = (tokAt tx n (v 8).toNat).2.1 ∧ tokF tx n v 8 = (tokAt tx n (v 8).toNat).2.2.1 ∧ tokF tx n v 9 = (tokAt tx n (v 8).toNat).2.2.2 := ⟨rfl, rfl, rfl, rfl⟩

set_option maxRecDepth 100000 in
theorem sp_X5_next {g : GG} {lay : Lay} {M : Mem} {K : KK} {d : Nat} {tx v : Nat → Int} {n : Nat} (hd : MoL lay d) (hb0 : g.2.1 ≤ d) (hV : RelT tx n v M d) (k : ∀ M2, FrP d M M2 → RelT tx n (tokF tx n v) M2 d → K (.inl none) lay M2) : X g m_X5_goesOn 0 0 lay M 0 [(0, vR d)] [] K := by
  obtain ⟨⟨hT, hR, hK⟩, ⟨h17, h18, v3, v4⟩, h13, h14, h15, h16⟩ := id hV
  obtain ⟨⟨k61, k62⟩, ⟨k71, k72⟩, ⟨k81, k82⟩, k91, k92⟩ := id hK
  have hnr := h16.rng
  have hmk := @mk_iff (v 6)
  have h600 := hT.1.1
  refine sp_X5_goesOn (e := (v 8).toNat) hd hb0 hT hR (by rw [h13]; omega) (by omega) (fun M2 am hF m13 m14 m15 m16 hn => ?_)
  obtain ⟨t6, t7, t8, t9⟩ := tokF_at tx n v
  refine k M2 hF.p ⟨⟨hT.g hF, hR, hK.tok⟩, ⟨by rw [hF _ _ (by omega)]; exact h17, by rw [hF _ _ (by omega)]; exact h18, (tok_ne (by omega)).trans v3, (tok_ne (by omega)).trans v4⟩, by rw [t8]; exact m13, by rw [t7]; exact m14, by rw [t6]; exact m15, by rw [t9, m16]; exact hn⟩
set_option maxRecDepth 100000 in
theorem sp_X5_fails {g : GG} {lay : Lay} {M : Mem} {K : KK} {d : Nat} {tx v : Nat → Int} {n : Nat} {c : Int} (hd : MoL lay d) (hb0 : g.2.1 ≤ d) (hV : RelT tx n v M d) (hc : 1 ≤ c ∧ c ≤ 5) (k : ∀ M2, FrP d M M2 → BadT tx n (failF v c).2 M2 d → K (.inl none) lay M2) : X g m_X5_fails 0 0 lay M 0 [(0, vR d), (1, vI c)] [] K := by
  obtain ⟨⟨hT, hR, hK⟩, ⟨h17, h18, v3, v4⟩, h13, h14, h15, h16⟩ := id hV
  obtain ⟨⟨k61, k62⟩, ⟨k71, k72⟩, ⟨k81, k82⟩, k91, k92⟩ := id hK
  have hnr := h16.rng
  have hmk := @mk_iff (v 6)
  have h600 := hT.1.1
  refine x_aload_n (pc := 0) dX5_fails_0 rfl rfl ?_
  refine x_geti (pc := 1) fX5_296 dX5_fails_1 hd.1 rfl (fun r1a r1b => ?_)
  rw [h17] at r1a r1b ⊢
  refine x_if_ne (pc := 4) (t := 20) dX5_fails_4 (by decide) ⟨by omega, by omega⟩ (fun c4 => ?_) (fun c4 => ?_)
  · exfalso; omega
  · refine x_aload_n (pc := 7) dX5_fails_7 rfl rfl ?_
    refine x_iload_n (pc := 8) dX5_fails_8 rfl rfl ?_
    refine x_puti (pc := 9) fnX5_296 dX5_fails_9 hd.1 (by omega) rfl ⟨by omega, by omega⟩ ?_
    refine x_aload_n (pc := 12) dX5_fails_12 rfl rfl ?_
    refine x_aload_n (pc := 13) dX5_fails_13 rfl rfl ?_
    refine x_geti (pc := 14) fX5_278 dX5_fails_14 hd.1 rfl (fun r14a r14b => ?_)
    try simp (disch := omega) only [mset_same, mset_nea, mset_nei, mcopy_nea, mcopy_in, mcopy_out, Int.reduceToNat, Int.toNat_natCast, Nat.zero_add, Nat.sub_zero] at r14a r14b ⊢
    rw [h14] at r14a r14b ⊢
    refine x_puti (pc := 17) fnX5_39 dX5_fails_17 hd.1 (by omega) rfl ⟨by omega, by omega⟩ ?_
    refine x_vret (pc := 20) dX5_fails_20 rfl (by decide) (by decide) ?_
    refine k _ ((FrP.rf.ms (by omega)).ms (by omega)) ⟨⟨hT.p ((FrP.rf.ms (by omega)).ms (by omega)), hR⟩, ⟨?_, ?_, ?_⟩, ?_⟩
    · rw [mset_nei (by omega), mset_same]
      rfl
    · rw [mset_same]
      rfl
    · show 0 < c ∧ c ≤ 5
      omega
    · rw [mset_nei (by omega), mset_nei (by omega)]
      omega
set_option maxRecDepth 100000 in
theorem sp_X5_failsB {g : GG} {lay : Lay} {M : Mem} {K : KK} {d : Nat} {tx v : Nat → Int} {n : Nat} {c : Int} (hd : MoL lay d) (hb0 : g.2.1 ≤ d) (hV : BadT tx n v M d) (k : K (.inl none) lay M) : X g m_X5_fails 0 0 lay M 0 [(0, vR d), (1, vI c)] [] K := by
  obtain ⟨⟨hT, hR⟩, ⟨h17, h18, v31, v32⟩, h161, h162⟩ := id hV
  refine x_aload_n (pc := 0) dX5_fails_0 rfl rfl ?_
  refine x_geti (pc := 1) fX5_296 dX5_fails_1 hd.1 rfl (fun r1a r1b => ?_)
  rw [h17] at r1a r1b ⊢
  refine x_if_ne (pc := 4) (t := 20) dX5_fails_4 (by decide) ⟨by omega, by omega⟩ (fun c4 => ?_) (fun c4 => ?_)
  · refine x_vret (pc := 20) dX5_fails_20 rfl (by decide) (by decide) ?_
    exact k
  · exfalso; omega
set_option maxRecDepth 100000 in
theorem sp_X5_must1 {g : GG} {lay : Lay} {M : Mem} {K : KK} {d : Nat} {c : Int} (hd : MoL lay d) (hb0 : g.2.1 ≤ d) (k : K (.inl none) lay M) : X g m_X5_must 0 0 lay M 0 [(0, vR d), (1, vI 1), (2, vI c)] [] K := by
  refine x_iload_n (pc := 0) dX5_must_0 rfl rfl ?_
  refine x_if_ne (pc := 1) (t := 9) dX5_must_1 (by decide) ⟨by omega, by omega⟩ (fun c1 => ?_) (fun c1 => ?_)
  · refine x_vret (pc := 9) dX5_must_9 rfl (by decide) (by decide) ?_
    exact k
  · exfalso; omega
set_option maxRecDepth 100000 in
theorem sp_X5_must0 {g : GG} {lay : Lay} {M : Mem} {K : KK} {d : Nat} {tx v : Nat → Int} {n : Nat} {c : Int} (hd : MoL lay d) (hb0 : g.2.1 ≤ d) (hV : RelT tx n v M d) (hc : 1 ≤ c ∧ c ≤ 5) (k : ∀ M2, FrP d M M2 → BadT tx n (failF v c).2 M2 d → K (.inl none) lay M2) : X g m_X5_must 0 0 lay M 0 [(0, vR d), (1, vI 0), (2, vI c)] [] K := by
  refine x_iload_n (pc := 0) dX5_must_0 rfl rfl ?_
  refine x_if_ne (pc := 1) (t := 9) dX5_must_1 (by decide) ⟨by omega, by omega⟩ (fun c1 => ?_) (fun c1 => ?_)
  · exfalso; omega
  · refine x_aload_n (pc := 4) dX5_must_4 rfl rfl ?_
    refine x_iload_n (pc := 5) dX5_must_5 rfl rfl ?_
    refine x_callV (pc := 6) [_] rfl kX5_299 dX5_must_6 hd.1 rfl rfl (by decide) (Nat.le_of_ble_eq_true rfl) (Nat.le_of_ble_eq_true rfl) (by decide) ?_
    refine sp_X5_fails hd hb0 hV hc (fun M2 hF2 hB2 => ?_)
    refine ⟨_, rfl, ?_⟩
    refine x_vret (pc := 9) dX5_must_9 rfl (by decide) (by decide) ?_
    exact k M2 hF2 hB2
set_option maxRecDepth 100000 in
theorem sp_X5_mustB {g : GG} {lay : Lay} {M : Mem} {K : KK} {d : Nat} {tx v : Nat → Int} {n : Nat} {c y : Int} (hd : MoL lay d) (hb0 : g.2.1 ≤ d) (hV : BadT tx n v M d) (hy : y = 0 ∨ y = 1) (k : K (.inl none) lay M) : X g m_X5_must 0 0 lay M 0 [(0, vR d), (1, vI y), (2, vI c)] [] K := by
  refine x_iload_n (pc := 0) dX5_must_0 rfl rfl ?_
  refine x_if_ne (pc := 1) (t := 9) dX5_must_1 (by decide) ⟨by omega, by omega⟩ (fun c1 => ?_) (fun c1 => ?_)
  · refine x_vret (pc := 9) dX5_must_9 rfl (by decide) (by decide) ?_
    exact k
  · refine x_aload_n (pc := 4) dX5_must_4 rfl rfl ?_
    refine x_iload_n (pc := 5) dX5_must_5 rfl rfl ?_
    refine x_callV (pc := 6) [_] rfl kX5_299 dX5_must_6 hd.1 rfl rfl (by decide) (Nat.le_of_ble_eq_true rfl) (Nat.le_of_ble_eq_true rfl) (by decide) ?_
    refine sp_X5_failsB hd hb0 hV ?_
    refine ⟨_, rfl, ?_⟩
    refine x_vret (pc := 9) dX5_must_9 rfl (by decide) (by decide) ?_
    exact k
set_option maxRecDepth 100000 in
theorem sp_X5_passesOn {g : GG} {lay : Lay} {M : Mem} {K : KK} {d : Nat} {tx v : Nat → Int} {n : Nat} {x : Int} (hd : MoL lay d) (hb0 : g.2.1 ≤ d) (hV : RelT tx n v M d) (k : ∀ M2, FrP d M M2 → RelT tx n (tokF tx n v) M2 d → K (.inl (some (vI x))) lay M2) : X g m_X5_passesOn 0 0 lay M 0 [(0, vR d), (1, vI x)] [] K := by
  obtain ⟨⟨hT, hR, hK⟩, ⟨h17, h18, v3, v4⟩, h13, h14, h15, h16⟩ := id hV
  obtain ⟨⟨k61, k62⟩, ⟨k71, k72⟩, ⟨k81, k82⟩, k91, k92⟩ := id hK
  have hnr := h16.rng
  have hmk := @mk_iff (v 6)
  have h600 := hT.1.1
  refine x_aload_n (pc := 0) dX5_passesOn_0 rfl rfl ?_
  refine x_geti (pc := 1) fX5_296 dX5_passesOn_1 hd.1 rfl (fun r1a r1b => ?_)
  rw [h17] at r1a r1b ⊢
  refine x_if_ne (pc := 4) (t := 11) dX5_passesOn_4 (by decide) ⟨by omega, by omega⟩ (fun c4 => ?_) (fun c4 => ?_)
  · exfalso; omega
  · refine x_aload_n (pc := 7) dX5_passesOn_7 rfl rfl ?_
    refine x_callV (pc := 8) [] rfl kX5_302 dX5_passesOn_8 hd.1 rfl rfl (by decide) (Nat.le_of_ble_eq_true rfl) (Nat.le_of_ble_eq_true rfl) (by decide) ?_
    refine sp_X5_next hd hb0 hV (fun M2 hF2 hV2 => ?_)
    refine ⟨_, rfl, ?_⟩
    refine x_iload_n (pc := 11) dX5_passesOn_11 rfl rfl ?_
    refine x_iret (pc := 12) dX5_passesOn_12 rfl (by decide) (by decide) ?_
    exact k M2 hF2 hV2
set_option maxRecDepth 100000 in
theorem sp_X5_passesOnB {g : GG} {lay : Lay} {M : Mem} {K : KK} {d : Nat} {tx v : Nat → Int} {n : Nat} {x : Int} (hd : MoL lay d) (hb0 : g.2.1 ≤ d) (hV : BadT tx n v M d) (k : K (.inl (some (vI (x)))) lay M) : X g m_X5_passesOn 0 0 lay M 0 [(0, vR d), (1, vI x)] [] K := by
  obtain ⟨⟨hT, hR⟩, ⟨h17, h18, v31, v32⟩, h161, h162⟩ := id hV
  refine x_aload_n (pc := 0) dX5_passesOn_0 rfl rfl ?_
  refine x_geti (pc := 1) fX5_296 dX5_passesOn_1 hd.1 rfl (fun r1a r1b => ?_)
  rw [h17] at r1a r1b ⊢
  refine x_if_ne (pc := 4) (t := 11) dX5_passesOn_4 (by decide) ⟨by omega, by omega⟩ (fun c4 => ?_) (fun c4 => ?_)
  · refine x_iload_n (pc := 11) dX5_passesOn_11 rfl rfl ?_
    refine x_iret (pc := 12) dX5_passesOn_12 rfl (by decide) (by decide) ?_
    exact k
  · exfalso; omega
set_option maxRecDepth 100000 in
theorem sp_X5_looks {g : GG} {lay : Lay} {M : Mem} {K : KK} {d : Nat} {tx v : Nat → Int} {n : Nat} {x lo hi : Int} (hd : MoL lay d) (hb0 : g.2.1 ≤ d) (hV : RelT tx n v M d) (hx : i32 x) (hlo : i32 lo) (hhi : i32 hi) (k : ∀ M2, FrP d M M2 → ((v 6 = 2 ∧ (lo ≤ x ∧ x ≤ hi)) ∧ M2 = M) ∨ (v 6 ≠ 2 ∧ BadT tx n (failF v 1).2 M2 d) ∨ ((v 6 = 2 ∧ ¬ (lo ≤ x ∧ x ≤ hi)) ∧ BadT tx n (failF v 2).2 M2 d) → K (.inl none) lay M2) : X g m_X5_looks 0 0 lay M 0 [(0, vR d), (1, vI x), (2, vI lo), (3, vI hi)] [] K := by
  obtain ⟨⟨hT, hR, hK⟩, ⟨h17, h18, v3, v4⟩, h13, h14, h15, h16⟩ := id hV
  obtain ⟨⟨k61, k62⟩, ⟨k71, k72⟩, ⟨k81, k82⟩, k91, k92⟩ := id hK
  have hnr := h16.rng
  have hmk := @mk_iff (v 6)
  have h600 := hT.1.1
  have y0 := @b01 (lo ≤ x ∧ x ≤ hi) inferInstance
  refine x_aload_n (pc := 0) dX5_looks_0 rfl rfl ?_
  refine x_geti (pc := 1) fX5_290 dX5_looks_1 hd.1 rfl (fun r1a r1b => ?_)
  refine x_iconst (pc := 4) dX5_looks_4 ?_
  rw [h15] at r1a r1b ⊢
  refine x_icmp_eq (pc := 5) (t := 16) dX5_looks_5 (by decide) ⟨by omega, by omega⟩ ⟨by omega, by omega⟩ (fun c5 => ?_) (fun c5 => ?_)
  · refine x_iload_n (pc := 16) dX5_looks_16 rfl rfl ?_
    refine x_iload_n (pc := 17) dX5_looks_17 rfl rfl ?_
    refine x_iload_n (pc := 18) dX5_looks_18 rfl rfl ?_
    refine x_callS (pc := 19) [_, _, _] rfl kX5_144 dX5_looks_19 rfl (by decide) (Nat.le_of_ble_eq_true rfl) (Nat.le_of_ble_eq_true rfl) (by decide) ?_
    refine sp_X5_in hx hlo hhi ?_
    refine ⟨_, rfl, ?_⟩
    refine x_if_ne (pc := 22) (t := 30) dX5_looks_22 (by decide) ⟨by omega, by omega⟩ (fun c22 => ?_) (fun c22 => ?_)
    · refine x_vret (pc := 30) dX5_looks_30 rfl (by decide) (by decide) ?_
      first
      | exact k M2 hF2 (Or.inr (Or.inl ⟨by omega, hB2⟩))
      | exact k M2 hF2 (Or.inr (Or.inr ⟨⟨by omega, b0 c22⟩, hB2⟩))
      | exact k M FrP.rf (Or.inl ⟨⟨by omega, b1 c22⟩, rfl⟩)
    · refine x_aload_n (pc := 25) dX5_looks_25 rfl rfl ?_
      refine x_iconst (pc := 26) dX5_looks_26 ?_
      refine x_callV (pc := 27) [_] rfl kX5_299 dX5_looks_27 hd.1 rfl rfl (by decide) (Nat.le_of_ble_eq_true rfl) (Nat.le_of_ble_eq_true rfl) (by decide) ?_
      refine sp_X5_fails hd hb0 hV (by omega) (fun M2 hF2 hB2 => ?_)
      refine ⟨_, rfl, ?_⟩
      refine x_vret (pc := 30) dX5_looks_30 rfl (by decide) (by decide) ?_
      first
      | exact k M2 hF2 (Or.inr (Or.inl ⟨by omega, hB2⟩))
      | exact k M2 hF2 (Or.inr (Or.inr ⟨⟨by omega, b0 c22⟩, hB2⟩))
      | exact k M FrP.rf (Or.inl ⟨⟨by omega, b1 c22⟩, rfl⟩)
  · refine x_aload_n (pc := 8) dX5_looks_8 rfl rfl ?_
    refine x_iconst (pc := 9) dX5_looks_9 ?_
    refine x_callV (pc := 10) [_] rfl kX5_299 dX5_looks_10 hd.1 rfl rfl (by decide) (Nat.le_of_ble_eq_true rfl) (Nat.le_of_ble_eq_true rfl) (by decide) ?_
    refine sp_X5_fails hd hb0 hV (by omega) (fun M2 hF2 hB2 => ?_)
    refine ⟨_, rfl, ?_⟩
    refine x_goto (pc := 13) (t := 30) dX5_looks_13 (by decide) ?_
    refine x_vret (pc := 30) dX5_looks_30 rfl (by decide) (by decide) ?_
    first
    | exact k M2 hF2 (Or.inr (Or.inl ⟨by omega, hB2⟩))
    | exact k M2 hF2 (Or.inr (Or.inr ⟨⟨by omega, b0 c22⟩, hB2⟩))
    | exact k M FrP.rf (Or.inl ⟨⟨by omega, b1 c22⟩, rfl⟩)
set_option maxRecDepth 100000 in
theorem sp_X5_looksB {g : GG} {lay : Lay} {M : Mem} {K : KK} {d : Nat} {tx v : Nat → Int} {n : Nat} {x lo hi : Int} (hd : MoL lay d) (hb0 : g.2.1 ≤ d) (hV : BadT tx n v M d) (hx : i32 x) (hlo : i32 lo) (hhi : i32 hi) (k : K (.inl none) lay M) : X g m_X5_looks 0 0 lay M 0 [(0, vR d), (1, vI x), (2, vI lo), (3, vI hi)] [] K := by
  obtain ⟨⟨hT, hR⟩, ⟨h17, h18, v31, v32⟩, h161, h162⟩ := id hV
  have y0 := @b01 (lo ≤ x ∧ x ≤ hi) inferInstance
  refine x_aload_n (pc := 0) dX5_looks_0 rfl rfl ?_
  refine x_geti (pc := 1) fX5_290 dX5_looks_1 hd.1 rfl (fun r1a r1b => ?_)
  refine x_iconst (pc := 4) dX5_looks_4 ?_
  refine x_icmp_eq (pc := 5) (t := 16) dX5_looks_5 (by decide) ⟨by omega, by omega⟩ ⟨by omega, by omega⟩ (fun c5 => ?_) (fun c5 => ?_)
  · refine x_iload_n (pc := 16) dX5_looks_16 rfl rfl ?_
    refine x_iload_n (pc := 17) dX5_looks_17 rfl rfl ?_
    refine x_iload_n (pc := 18) dX5_looks_18 rfl rfl ?_
    refine x_callS (pc := 19) [_, _, _] rfl kX5_144 dX5_looks_19 rfl (by decide) (Nat.le_of_ble_eq_true rfl) (Nat.le_of_ble_eq_true rfl) (by decide) ?_
    refine sp_X5_in hx hlo hhi ?_
    refine ⟨_, rfl, ?_⟩
    refine x_if_ne (pc := 22) (t := 30) dX5_looks_22 (by decide) ⟨by omega, by omega⟩ (fun c22 => ?_) (fun c22 => ?_)
    · refine x_vret (pc := 30) dX5_looks_30 rfl (by decide) (by decide) ?_
      exact k
    · refine x_aload_n (pc := 25) dX5_looks_25 rfl rfl ?_
      refine x_iconst (pc := 26) dX5_looks_26 ?_
      refine x_callV (pc := 27) [_] rfl kX5_299 dX5_looks_27 hd.1 rfl rfl (by decide) (Nat.le_of_ble_eq_true rfl) (Nat.le_of_ble_eq_true rfl) (by decide) ?_
      refine sp_X5_failsB hd hb0 hV ?_
      refine ⟨_, rfl, ?_⟩
      refine x_vret (pc := 30) dX5_looks_30 rfl (by decide) (by decide) ?_
      exact k
  · refine x_aload_n (pc := 8) dX5_looks_8 rfl rfl ?_
    refine x_iconst (pc := 9) dX5_looks_9 ?_
    refine x_callV (pc := 10) [_] rfl kX5_299 dX5_looks_10 hd.1 rfl rfl (by decide) (Nat.le_of_ble_eq_true rfl) (Nat.le_of_ble_eq_true rfl) (by decide) ?_
    refine sp_X5_failsB hd hb0 hV ?_
    refine ⟨_, rfl, ?_⟩
    refine x_goto (pc := 13) (t := 30) dX5_looks_13 (by decide) ?_
    refine x_vret (pc := 30) dX5_looks_30 rfl (by decide) (by decide) ?_
    exact k
set_option maxRecDepth 100000 in
theorem sp_X5_reads {g : GG} {lay : Lay} {M : Mem} {K : KK} {d : Nat} {tx v : Nat → Int} {n : Nat} {lo hi : Int} (hd : MoL lay d) (hb0 : g.2.1 ≤ d) (hV : RelT tx n v M d) (hlo : -100 ≤ lo ∧ lo ≤ 100) (hhi : -100 ≤ hi ∧ hi ≤ 100) (k : ∀ M2 x, FrP d M M2 → PRel tx n (numRF tx n v lo hi) M2 d → ((numRF tx n v lo hi).1 = 1 → x = (numRF tx n v lo hi).2 10) → 0 ≤ x ∧ x ≤ 200000 → K (.inl (some (vI x))) lay M2) : X g m_X5_reads 0 0 lay M 0 [(0, vR d), (1, vI lo), (2, vI hi)] [] K := by
  obtain ⟨⟨hT, hR, hK⟩, ⟨h17, h18, v3, v4⟩, h13, h14, h15, h16⟩ := id hV
  obtain ⟨⟨k61, k62⟩, ⟨k71, k72⟩, ⟨k81, k82⟩, k91, k92⟩ := id hK
  have hnr := h16.rng
  have hmk := @mk_iff (v 6)
  have h600 := hT.1.1
  have hif := h16.iff (lo := lo) (hi := hi) (by omega)
  have fin : ∀ M2 x, FrP d M M2 → PRel tx n (numRF tx n v lo hi) M2 d → ((numRF tx n v lo hi).1 = 1 → x = v 9) → 0 ≤ x ∧ x ≤ 200000 → K (.inl (some (vI x))) lay M2 := by
    intro M2 x hF2 hP hx hr
    refine k M2 x hF2 hP (fun h1 => ?_) hr
    rw [hx h1]
    unfold numRF at h1 ⊢
    split
    · next h => rw [if_pos h] at h1; exact absurd h1 (by show ¬ (0 : Int) = 1; decide)
    · next h =>
      rw [if_neg h] at h1
      split
      · next h2 => rw [if_pos h2] at h1; exact absurd h1 (by show ¬ (0 : Int) = 1; decide)
      · show v 9 = tokF tx n (fup v 10 (v 9)) 10
        rw [tok_ne (by omega)]
        exact fup_at.symm
  clear k
  refine x_aload_n (pc := 0) dX5_reads_0 rfl rfl ?_
  refine x_aload_n (pc := 1) dX5_reads_1 rfl rfl ?_
  refine x_geti (pc := 2) fX5_293 dX5_reads_2 hd.1 rfl (fun r2a r2b => ?_)
  refine x_iload_n (pc := 5) dX5_reads_5 rfl rfl ?_
  refine x_iload_n (pc := 6) dX5_reads_6 rfl rfl ?_
  refine x_callV (pc := 7) [_, _, _] rfl kX5_305 dX5_reads_7 hd.1 rfl rfl (by decide) (Nat.le_of_ble_eq_true rfl) (Nat.le_of_ble_eq_true rfl) (by decide) ?_
  refine sp_X5_looks hd hb0 hV ⟨by omega, by omega⟩ ⟨by omega, by omega⟩ ⟨by omega, by omega⟩ (fun M2 hF2 hL => ?_)
  refine ⟨_, rfl, ?_⟩
  refine x_aload_n (pc := 10) dX5_reads_10 rfl rfl ?_
  refine x_aload_n (pc := 11) dX5_reads_11 rfl rfl ?_
  refine x_geti (pc := 12) fX5_293 dX5_reads_12 hd.1 rfl (fun r12a r12b => ?_)
  refine x_callV (pc := 15) [_] rfl kX5_308 dX5_reads_15 hd.1 rfl rfl (by decide) (Nat.le_of_ble_eq_true rfl) (Nat.le_of_ble_eq_true rfl) (by decide) ?_
  have e16 : M2 d 16 = M d 16 ∨ True := Or.inr trivial
  rcases hL with ⟨⟨l1, l2⟩, rfl⟩ | ⟨l1, hB2⟩ | ⟨⟨l1, l2⟩, hB2⟩
  · have l3 := hif.mp l2
    have hV1 : RelT tx n (fup v 10 (v 9)) M2 d := hV
    refine sp_X5_passesOn hd hb0 hV1 (fun M3 hF3 hV3 => ?_)
    refine ⟨_, rfl, ?_⟩
    refine x_iret (pc := 18) dX5_reads_18 rfl (by decide) (by decide) ?_
    refine fin M3 _ hF3 (Or.inl ?_) (fun _ => h16.eq (hi := hi) (by omega) l3.2) ⟨hnr.1, hnr.2.1⟩
    unfold numRF
    rw [if_neg (fun z => z l1), if_neg (by omega)]
    exact ⟨rfl, hV3⟩
  · refine sp_X5_passesOnB hd hb0 hB2 ?_
    refine ⟨_, rfl, ?_⟩
    refine x_iret (pc := 18) dX5_reads_18 rfl (by decide) (by decide) ?_
    have e1 : numRF tx n v lo hi = failF v 1 := by unfold numRF; rw [if_pos l1]
    refine fin M2 _ hF2 (Or.inr ?_) (fun h1 => ?_) ⟨hB2.2.2.1, hB2.2.2.2⟩
    · rw [e1]; exact ⟨by show ¬ (0 : Int) = 1; decide, hB2⟩
    · rw [e1] at h1; exact absurd h1 (by show ¬ (0 : Int) = 1; decide)
  · refine sp_X5_passesOnB hd hb0 hB2 ?_
    refine ⟨_, rfl, ?_⟩
    refine x_iret (pc := 18) dX5_reads_18 rfl (by decide) (by decide) ?_
    have e1 : numRF tx n v lo hi = failF v 2 := by unfold numRF; rw [if_neg (fun z => z l1), if_pos (by have := not_congr hif |>.mp l2; omega)]
    refine fin M2 _ hF2 (Or.inr ?_) (fun h1 => ?_) ⟨hB2.2.2.1, hB2.2.2.2⟩
    · rw [e1]; exact ⟨by show ¬ (0 : Int) = 1; decide, hB2⟩
    · rw [e1] at h1; exact absurd h1 (by show ¬ (0 : Int) = 1; decide)
set_option maxRecDepth 100000 in
theorem sp_X5_readsB {g : GG} {lay : Lay} {M : Mem} {K : KK} {d : Nat} {tx v : Nat → Int} {n : Nat} {lo hi : Int} (hd : MoL lay d) (hb0 : g.2.1 ≤ d) (hV : BadT tx n v M d) (hlo : -100 ≤ lo ∧ lo ≤ 100) (hhi : -100 ≤ hi ∧ hi ≤ 100) (k : ∀ x, 0 ≤ x ∧ x ≤ 200000 → K (.inl (some (vI x))) lay M) : X g m_X5_reads 0 0 lay M 0 [(0, vR d), (1, vI lo), (2, vI hi)] [] K := by
  obtain ⟨⟨hT, hR⟩, ⟨h17, h18, v31, v32⟩, h161, h162⟩ := id hV
  refine x_aload_n (pc := 0) dX5_reads_0 rfl rfl ?_
  refine x_aload_n (pc := 1) dX5_reads_1 rfl rfl ?_
  refine x_geti (pc := 2) fX5_293 dX5_reads_2 hd.1 rfl (fun r2a r2b => ?_)
  refine x_iload_n (pc := 5) dX5_reads_5 rfl rfl ?_
  refine x_iload_n (pc := 6) dX5_reads_6 rfl rfl ?_
  refine x_callV (pc := 7) [_, _, _] rfl kX5_305 dX5_reads_7 hd.1 rfl rfl (by decide) (Nat.le_of_ble_eq_true rfl) (Nat.le_of_ble_eq_true rfl) (by decide) ?_
  refine sp_X5_looksB hd hb0 hV ⟨by omega, by omega⟩ ⟨by omega, by omega⟩ ⟨by omega, by omega⟩ ?_
  refine ⟨_, rfl, ?_⟩
  refine x_aload_n (pc := 10) dX5_reads_10 rfl rfl ?_
  refine x_aload_n (pc := 11) dX5_reads_11 rfl rfl ?_
  refine x_geti (pc := 12) fX5_293 dX5_reads_12 hd.1 rfl (fun r12a r12b => ?_)
  refine x_callV (pc := 15) [_] rfl kX5_308 dX5_reads_15 hd.1 rfl rfl (by decide) (Nat.le_of_ble_eq_true rfl) (Nat.le_of_ble_eq_true rfl) (by decide) ?_
  refine sp_X5_passesOnB hd hb0 hV ?_
  refine ⟨_, rfl, ?_⟩
  refine x_iret (pc := 18) dX5_reads_18 rfl (by decide) (by decide) ?_
  exact k _ ⟨h161, h162⟩
set_option maxRecDepth 100000 in
theorem sp_X5_closesStatement {g : GG} {lay : Lay} {M : Mem} {K : KK} {d : Nat} {tx v : Nat → Int} {n : Nat} (hd : MoL lay d) (hb0 : g.2.1 ≤ d) (hV : RelT tx n v M d) (k : ∀ M2, FrP d M M2 → PRel tx n (semF tx n v) M2 d → K (.inl none) lay M2) : X g m_X5_closesStatement 0 0 lay M 0 [(0, vR d)] [] K := by
  obtain ⟨⟨hT, hR, hK⟩, ⟨h17, h18, v3, v4⟩, h13, h14, h15, h16⟩ := id hV
  obtain ⟨⟨k61, k62⟩, ⟨k71, k72⟩, ⟨k81, k82⟩, k91, k92⟩ := id hK
  have hnr := h16.rng
  have hmk := @mk_iff (v 6)
  have h600 := hT.1.1
  have good : v 6 = 4 → X g m_X5_closesStatement 0 0 lay M 18 [(0, vR d)] [] K := by
    intro h6
    refine x_aload_n (pc := 18) dX5_closesStatement_18 rfl rfl ?_
    refine x_geti (pc := 19) fX5_296 dX5_closesStatement_19 hd.1 rfl (fun r19a r19b => ?_)
    rw [h17] at r19a r19b ⊢
    refine x_if_ne (pc := 22) (t := 29) dX5_closesStatement_22 (by decide) ⟨by omega, by omega⟩ (fun c22 => ?_) (fun c22 => ?_)
    · exfalso; omega
    · refine x_aload_n (pc := 25) dX5_closesStatement_25 rfl rfl ?_
      refine x_callV (pc := 26) [] rfl kX5_302 dX5_closesStatement_26 hd.1 rfl rfl (by decide) (Nat.le_of_ble_eq_true rfl) (Nat.le_of_ble_eq_true rfl) (by decide) ?_
      refine sp_X5_next hd hb0 hV (fun M2 hF2 hV2 => ?_)
      refine ⟨_, rfl, ?_⟩
      refine x_vret (pc := 29) dX5_closesStatement_29 rfl (by decide) (by decide) ?_
      refine k M2 hF2 (Or.inl ?_)
      unfold semF
      rw [if_pos h6]
      exact ⟨rfl, hV2⟩
  have bad : v 6 ≠ 4 → ∀ M2, FrP d M M2 → BadT tx n (failF v 1).2 M2 d → X g m_X5_closesStatement 0 0 lay M2 18 [(0, vR d)] [] K := by
    intro h6 M2 hF2 hB2
    have hB3 := hB2.2.1.2.2.1
    refine x_aload_n (pc := 18) dX5_closesStatement_18 rfl rfl ?_
    refine x_geti (pc := 19) fX5_296 dX5_closesStatement_19 hd.1 rfl (fun r19a r19b => ?_)
    rw [hB2.2.1.1] at r19a r19b ⊢
    refine x_if_ne (pc := 22) (t := 29) dX5_closesStatement_22 (by decide) ⟨by omega, by omega⟩ (fun c22 => ?_) (fun c22 => ?_)
    · refine x_vret (pc := 29) dX5_closesStatement_29 rfl (by decide) (by decide) ?_
      refine k M2 hF2 (Or.inr ?_)
      unfold semF
      rw [if_neg h6]
      exact ⟨by show ¬ (0 : Int) = 1; decide, hB2⟩
    · exfalso; omega
  refine x_aload_n (pc := 0) dX5_closesStatement_0 rfl rfl ?_
  refine x_aload_n (pc := 1) dX5_closesStatement_1 rfl rfl ?_
  refine x_geti (pc := 2) fX5_290 dX5_closesStatement_2 hd.1 rfl (fun r2a r2b => ?_)
  refine x_iconst (pc := 5) dX5_closesStatement_5 ?_
  rw [h15] at r2a r2b ⊢
  refine x_icmp_ne (pc := 6) (t := 13) dX5_closesStatement_6 (by decide) ⟨by omega, by omega⟩ ⟨by omega, by omega⟩ (fun c6 => ?_) (fun c6 => ?_)
  · refine x_iconst (pc := 13) dX5_closesStatement_13 ?_
    refine x_iconst (pc := 14) dX5_closesStatement_14 ?_
    refine x_callV (pc := 15) [_, _] rfl kX5_311 dX5_closesStatement_15 hd.1 rfl rfl (by decide) (Nat.le_of_ble_eq_true rfl) (Nat.le_of_ble_eq_true rfl) (by decide) ?_
    first
    | (refine sp_X5_must1 hd hb0 ?_)
    | (refine sp_X5_must0 hd hb0 hV (by omega) (fun M2 hF2 hB2 => ?_))
    refine ⟨_, rfl, ?_⟩
    refine X.loc [0] (L' := [(0, _)]) rfl ?_
    first
    | exact good (by omega)
    | exact bad (by omega) M2 hF2 hB2
  · refine x_iconst (pc := 9) dX5_closesStatement_9 ?_
    refine x_goto (pc := 10) (t := 14) dX5_closesStatement_10 (by decide) ?_
    refine x_iconst (pc := 14) dX5_closesStatement_14 ?_
    refine x_callV (pc := 15) [_, _] rfl kX5_311 dX5_closesStatement_15 hd.1 rfl rfl (by decide) (Nat.le_of_ble_eq_true rfl) (Nat.le_of_ble_eq_true rfl) (by decide) ?_
    first
    | (refine sp_X5_must1 hd hb0 ?_)
    | (refine sp_X5_must0 hd hb0 hV (by omega) (fun M2 hF2 hB2 => ?_))
    refine ⟨_, rfl, ?_⟩
    refine X.loc [0] (L' := [(0, _)]) rfl ?_
    first
    | exact good (by omega)
    | exact bad (by omega) M2 hF2 hB2
set_option maxRecDepth 100000 in
theorem sp_X5_closesStatementB {g : GG} {lay : Lay} {M : Mem} {K : KK} {d : Nat} {tx v : Nat → Int} {n : Nat} (hd : MoL lay d) (hb0 : g.2.1 ≤ d) (hV : BadT tx n v M d) (k : K (.inl none) lay M) : X g m_X5_closesStatement 0 0 lay M 0 [(0, vR d)] [] K := by
  obtain ⟨⟨hT, hR⟩, ⟨h17, h18, v31, v32⟩, h161, h162⟩ := id hV
  refine x_aload_n (pc := 0) dX5_closesStatement_0 rfl rfl ?_
  refine x_aload_n (pc := 1) dX5_closesStatement_1 rfl rfl ?_
  refine x_geti (pc := 2) fX5_290 dX5_closesStatement_2 hd.1 rfl (fun r2a r2b => ?_)
  refine x_iconst (pc := 5) dX5_closesStatement_5 ?_
  refine x_icmp_ne (pc := 6) (t := 13) dX5_closesStatement_6 (by decide) ⟨by omega, by omega⟩ ⟨by omega, by omega⟩ (fun c6 => ?_) (fun c6 => ?_)
  · refine x_iconst (pc := 13) dX5_closesStatement_13 ?_
    refine x_iconst (pc := 14) dX5_closesStatement_14 ?_
    refine x_callV (pc := 15) [_, _] rfl kX5_311 dX5_closesStatement_15 hd.1 rfl rfl (by decide) (Nat.le_of_ble_eq_true rfl) (Nat.le_of_ble_eq_true rfl) (by decide) ?_
    refine sp_X5_mustB hd hb0 hV (by omega) ?_
    refine ⟨_, rfl, ?_⟩
    refine x_aload_n (pc := 18) dX5_closesStatement_18 rfl rfl ?_
    refine x_geti (pc := 19) fX5_296 dX5_closesStatement_19 hd.1 rfl (fun r19a r19b => ?_)
    rw [h17] at r19a r19b ⊢
    refine x_if_ne (pc := 22) (t := 29) dX5_closesStatement_22 (by decide) ⟨by omega, by omega⟩ (fun c22 => ?_) (fun c22 => ?_)
    · refine x_vret (pc := 29) dX5_closesStatement_29 rfl (by decide) (by decide) ?_
      exact k
    · exfalso; omega
  · refine x_iconst (pc := 9) dX5_closesStatement_9 ?_
    refine x_goto (pc := 10) (t := 14) dX5_closesStatement_10 (by decide) ?_
    refine x_iconst (pc := 14) dX5_closesStatement_14 ?_
    refine x_callV (pc := 15) [_, _] rfl kX5_311 dX5_closesStatement_15 hd.1 rfl rfl (by decide) (Nat.le_of_ble_eq_true rfl) (Nat.le_of_ble_eq_true rfl) (by decide) ?_
    refine sp_X5_mustB hd hb0 hV (by omega) ?_
    refine ⟨_, rfl, ?_⟩
    refine x_aload_n (pc := 18) dX5_closesStatement_18 rfl rfl ?_
    refine x_geti (pc := 19) fX5_296 dX5_closesStatement_19 hd.1 rfl (fun r19a r19b => ?_)
    rw [h17] at r19a r19b ⊢
    refine x_if_ne (pc := 22) (t := 29) dX5_closesStatement_22 (by decide) ⟨by omega, by omega⟩ (fun c22 => ?_) (fun c22 => ?_)
    · refine x_vret (pc := 29) dX5_closesStatement_29 rfl (by decide) (by decide) ?_
      exact k
    · exfalso; omega
set_option maxRecDepth 100000 in
theorem sp_X5_opensText {g : GG} {lay : Lay} {M : Mem} {K : KK} {d : Nat} {tx v : Nat → Int} {n : Nat} (hd : MoL lay d) (hb0 : g.2.1 ≤ d) (hT : Tx tx n M d) (hR : TxR tx n) (k : ∀ M2, FrP d M M2 → RelT tx n (beginF tx n v) M2 d → K (.inl none) lay M2) : X g m_X5_opensText 0 0 lay M 0 [(0, vR d)] [] K := by
  have h600 := hT.1.1
  refine x_aload_n (pc := 0) dX5_opensText_0 rfl rfl ?_
  refine x_iconst (pc := 1) dX5_opensText_1 ?_
  refine x_puti (pc := 2) fnX5_272 dX5_opensText_2 hd.1 (by omega) rfl ⟨by omega, by omega⟩ ?_
  refine x_aload_n (pc := 5) dX5_opensText_5 rfl rfl ?_
  refine x_iconst (pc := 6) dX5_opensText_6 ?_
  refine x_puti (pc := 7) fnX5_296 dX5_opensText_7 hd.1 (by omega) rfl ⟨by omega, by omega⟩ ?_
  refine x_aload_n (pc := 10) dX5_opensText_10 rfl rfl ?_
  refine x_iconst (pc := 11) dX5_opensText_11 ?_
  refine x_puti (pc := 12) fnX5_39 dX5_opensText_12 hd.1 (by omega) rfl ⟨by omega, by omega⟩ ?_
  refine x_aload_n (pc := 15) dX5_opensText_15 rfl rfl ?_
  refine x_callV (pc := 16) [] rfl kX5_302 dX5_opensText_16 hd.1 rfl rfl (by decide) (Nat.le_of_ble_eq_true rfl) (Nat.le_of_ble_eq_true rfl) (by decide) ?_
  obtain ⟨M1, hM1⟩ : ∃ M1, M1 = mset (mset (mset M d 13 0) d 17 0) d 18 (-1) := ⟨_, rfl⟩
  rw [← hM1]
  have hF1 : FrP d M M1 := by rw [hM1]; exact ((FrP.rf.ms (by omega)).ms (by omega)).ms (by omega)
  refine sp_X5_goesOn (e := 0) hd hb0 (hT.p hF1) hR (by rw [hM1, mset_nei (by omega), mset_nei (by omega), mset_same]; rfl) (by omega) (fun M2 am hF2 m13 m14 m15 m16 hn => ?_)
  refine ⟨_, rfl, ?_⟩
  refine x_vret (pc := 19) dX5_opensText_19 rfl (by decide) (by decide) ?_
  obtain ⟨t6, t7, t8, t9⟩ := tokF_at tx n (fup (fup (fup (fup (fup (fup v 3 0) 4 (-1)) 8 0) 5 0) 11 0) 12 0)
  have hok : TkOK n (beginF tx n v) := tokF_ok tx n _ (by show 0 ≤ (0 : Int) ∧ (0 : Int) ≤ n; omega)
  refine k M2 (hF1.tr hF2.p) ⟨⟨(hT.p hF1).g hF2, hR, hok⟩, ⟨?_, ?_, ?_, ?_⟩, m13.trans t8.symm, m14.trans t7.symm, m15, ?_⟩
  · rw [hF2 _ _ (by omega), hM1, mset_nei (by omega), mset_same]
  · rw [hF2 _ _ (by omega), hM1, mset_same]
  · exact (tok_ne (by omega)).trans rfl
  · exact (tok_ne (by omega)).trans rfl
  · show NumR _ (tokF tx n _ 9)
    rw [t9, m16]
    exact hn
