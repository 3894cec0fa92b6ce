/-! The reference: the text buffer, output, undo, saved states. -/
def Tx (tx : Nat → Int) (n : Nat) (M : Mem) (d : Nat) : Prop := (n ≤ 600 ∧ M d 12 = n) ∧ ∀ i, i < n → M (d + 9) i = tx i
def FrZ (d : Nat) (M M' : Mem) : Prop := ∀ a j, ¬ (a = d ∧ j = 0) → M' a j = M a j
def Sv (S : Nat → Option CT) (M : Mem) (d : Nat) : Prop := ∀ i, i < 2 → match S i with
  | none => M (d + 5) i = 0
  | some T => M (d + 5) i = 1 ∧ (WfT T ∧ RowT T (fun j => M (d + 4) (280 * i + j)))
/-- the output -/
def Po (pg : List Int) (M : Mem) (d : Nat) : Prop := M d 25 = pg.length ∧ pg.length ≤ 1024 ∧ ∀ i, i < pg.length → M (d + 12) i = pg.getD i 0
theorem Tx.z {tx : Nat → Int} {n : Nat} {M M' : Mem} {d : Nat} (h : Tx tx n M d) (h12 : M' d 12 = M d 12) (h9 : ∀ j, M' (d + 9) j = M (d + 9) j) : Tx tx n M' d := ⟨⟨h.1.1, by rw [h12]; exact h.1.2⟩, fun i hi => by rw [h9]; exact h.2 i hi⟩

set_option maxRecDepth 100000 in
theorem sp_X5_errorCode {g : GG} {lay : Lay} {M : Mem} {K : KK} {d : Nat} {q : Int} (hd : MoL lay d) (hb0 : g.2.1 ≤ d) (hq : M d 17 = q) (k : ∀ M2, FrZ d M M2 → K (.inl (some (vI q))) lay M2) : X g m_X5_errorCode 0 0 lay M 0 [(0, vR d)] [] K := by
  refine x_aload_n (pc := 0) dX5_errorCode_0 rfl rfl ?_
  refine x_iconst (pc := 1) dX5_errorCode_1 ?_
  refine x_puti (pc := 2) fnX5_55 dX5_errorCode_2 hd.1 (by omega) rfl ⟨by omega, by omega⟩ ?_
  refine x_aload_n (pc := 5) dX5_errorCode_5 rfl rfl ?_
  refine x_geti (pc := 6) fX5_296 dX5_errorCode_6 hd.1 rfl (fun r6a r6b => ?_)
  try simp (disch := omega) only [mset_same, mset_nea, mset_nei, mcopy_nea, mcopy_in, mcopy_out, Int.reduceToNat, Int.toNat_natCast, Nat.zero_add, Nat.sub_zero] at r6a r6b ⊢
  rw [hq] at r6a r6b ⊢
  refine x_iret (pc := 9) dX5_errorCode_9 rfl (by decide) (by decide) ?_
  exact k _ (fun a j q1 => mset_ne q1)
set_option maxRecDepth 100000 in
theorem sp_X5_errorPosition {g : GG} {lay : Lay} {M : Mem} {K : KK} {d : Nat} {q : Int} (hd : MoL lay d) (hb0 : g.2.1 ≤ d) (hq : M d 18 = q) (k : ∀ M2, FrZ d M M2 → K (.inl (some (vI q))) lay M2) : X g m_X5_errorPosition 0 0 lay M 0 [(0, vR d)] [] K := by
  refine x_aload_n (pc := 0) dX5_errorPosition_0 rfl rfl ?_
  refine x_iconst (pc := 1) dX5_errorPosition_1 ?_
  refine x_puti (pc := 2) fnX5_55 dX5_errorPosition_2 hd.1 (by omega) rfl ⟨by omega, by omega⟩ ?_
  refine x_aload_n (pc := 5) dX5_errorPosition_5 rfl rfl ?_
  refine x_geti (pc := 6) fX5_39 dX5_errorPosition_6 hd.1 rfl (fun r6a r6b => ?_)
  try simp (disch := omega) only [mset_same, mset_nea, mset_nei, mcopy_nea, mcopy_in, mcopy_out, Int.reduceToNat, Int.toNat_natCast, Nat.zero_add, Nat.sub_zero] at r6a r6b ⊢
  rw [hq] at r6a r6b ⊢
  refine x_iret (pc := 9) dX5_errorPosition_9 rfl (by decide) (by decide) ?_
  exact k _ (fun a j q1 => mset_ne q1)
set_option maxRecDepth 100000 in
theorem sp_X5_output {g : GG} {lay : Lay} {M : Mem} {K : KK} {d : Nat} {x : Int} {pg : List Int} (hd : MoL lay d) (hb0 : g.2.1 ≤ d) (hg : Po pg M d) (hx : i32 x) (k : ∀ M2, FrZ d M M2 → K (.inl (some (vI (if 0 ≤ x ∧ x < (pg.length : Nat) then pg.getD x.toNat 0 else -1)))) lay M2) : X g m_X5_output 0 0 lay M 0 [(0, vR d), (1, vI x)] [] K := by
  obtain ⟨hx1, hx2⟩ := hx
  obtain ⟨g1, g2, g3⟩ := hg
  have y0 := @b01 (0 ≤ x ∧ x ≤ (pg.length : Int) - 1) inferInstance
  refine x_aload_n (pc := 0) dX5_output_0 rfl rfl ?_
  refine x_iconst (pc := 1) dX5_output_1 ?_
  refine x_puti (pc := 2) fnX5_55 dX5_output_2 hd.1 (by omega) rfl ⟨by omega, by omega⟩ ?_
  refine x_iload_n (pc := 5) dX5_output_5 rfl rfl ?_
  refine x_iconst (pc := 6) dX5_output_6 ?_
  refine x_aload_n (pc := 7) dX5_output_7 rfl rfl ?_
  refine x_geti (pc := 8) fX5_360 dX5_output_8 hd.1 rfl (fun r8a r8b => ?_)
  try simp (disch := omega) only [mset_same, mset_nea, mset_nei, mcopy_nea, mcopy_in, mcopy_out, Int.reduceToNat, Int.toNat_natCast, Nat.zero_add, Nat.sub_zero] at r8a r8b ⊢
  rw [g1] at r8a r8b ⊢
  refine x_iconst (pc := 11) dX5_output_11 ?_
  refine x_isub (pc := 12) dX5_output_12 ?_
  refine x_callS (pc := 13) [_, _, _] rfl kX5_144 dX5_output_13 rfl (by decide) (Nat.le_of_ble_eq_true rfl) (Nat.le_of_ble_eq_true rfl) (by decide) ?_
  refine sp_X5_in ⟨by omega, by omega⟩ ⟨by omega, by omega⟩ ⟨by omega, by omega⟩ ?_
  refine ⟨_, rfl, ?_⟩
  refine x_if_eq (pc := 16) (t := 28) dX5_output_16 (by decide) ⟨by omega, by omega⟩ (fun c16 => ?_) (fun c16 => ?_)
  · refine x_iconst (pc := 28) dX5_output_28 ?_
    refine x_iret (pc := 29) dX5_output_29 rfl (by decide) (by decide) ?_
    refine kI (k _ (fun a j q1 => mset_ne q1)) ?_
    first
    | (have c9 := b1 c16
       rw [if_pos ⟨c9.1, by omega⟩])
    | (have c9 := b0 c16
       rw [if_neg (fun z => c9 ⟨z.1, by omega⟩)])
  · refine x_aload_n (pc := 19) dX5_output_19 rfl rfl ?_
    refine x_getr (pc := 20) (b := d + 12) fX5_49 dX5_output_20 hd.1 rfl rfl ?_
    refine x_iload_n (pc := 23) dX5_output_23 rfl rfl ?_
    refine x_bald (pc := 24) dX5_output_24 hd.2.2.2.2.2.2.2.2.2.2.2.2 (by omega) (by omega) (fun r24a r24b => ?_)
    try simp (disch := omega) only [mset_same, mset_nea, mset_nei, mcopy_nea, mcopy_in, mcopy_out, Int.reduceToNat, Int.toNat_natCast, Nat.zero_add, Nat.sub_zero] at r24a r24b ⊢
    rw [g3 x.toNat (by have := b1 c16; omega)] at r24a r24b ⊢
    refine x_goto (pc := 25) (t := 29) dX5_output_25 (by decide) ?_
    refine x_iret (pc := 29) dX5_output_29 rfl (by decide) (by decide) ?_
    refine kI (k _ (fun a j q1 => mset_ne q1)) ?_
    first
    | (have c9 := b1 c16
       rw [if_pos ⟨c9.1, by omega⟩])
    | (have c9 := b0 c16
       rw [if_neg (fun z => c9 ⟨z.1, by omega⟩)])
set_option maxRecDepth 100000 in
theorem sp_X5_truncateText {g : GG} {lay : Lay} {M : Mem} {K : KK} {d : Nat} {x : Int} {tx : Nat → Int} {n : Nat} (hd : MoL lay d) (hb0 : g.2.1 ≤ d) (ht : Tx tx n M d) (hx : i32 x) (kx : ¬ (0 ≤ x ∧ x ≤ n) → ∀ (M2 : Mem) (v : Int), FrZ d M M2 → M2 d 0 = 1 → K (.inl (some (vI v))) lay M2) (k : 0 ≤ x ∧ x ≤ n → ∀ M2, (∀ a j, ¬ (a = d ∧ (j = 0 ∨ j = 12)) → M2 a j = M a j) → M2 d 0 = 0 → Tx tx x.toNat M2 d → K (.inl (some (vI x))) lay M2) : X g m_X5_truncateText 0 0 lay M 0 [(0, vR d), (1, vI x)] [] K := by
  obtain ⟨hx1, hx2⟩ := hx
  obtain ⟨⟨t1, t2⟩, t3⟩ := ht
  have y0 := @b01 (0 ≤ x ∧ x ≤ (n : Int)) inferInstance
  refine x_aload_n (pc := 0) dX5_truncateText_0 rfl rfl ?_
  refine x_iload_n (pc := 1) dX5_truncateText_1 rfl rfl ?_
  refine x_iconst (pc := 2) dX5_truncateText_2 ?_
  refine x_aload_n (pc := 3) dX5_truncateText_3 rfl rfl ?_
  refine x_geti (pc := 4) fX5_269 dX5_truncateText_4 hd.1 rfl (fun r4a r4b => ?_)
  rw [t2] at r4a r4b ⊢
  refine x_callS (pc := 7) [_, _, _] rfl kX5_144 dX5_truncateText_7 rfl (by decide) (Nat.le_of_ble_eq_true rfl) (Nat.le_of_ble_eq_true rfl) (by decide) ?_
  refine sp_X5_in ⟨by omega, by omega⟩ ⟨by omega, by omega⟩ ⟨by omega, by omega⟩ ?_
  refine ⟨_, rfl, ?_⟩
  refine x_if_eq (pc := 10) (t := 17) dX5_truncateText_10 (by decide) ⟨by omega, by omega⟩ (fun c10 => ?_) (fun c10 => ?_)
  · refine x_iconst (pc := 17) dX5_truncateText_17 ?_
    refine x_puti (pc := 18) fnX5_55 dX5_truncateText_18 hd.1 (by omega) rfl ⟨by omega, by omega⟩ ?_
    refine x_aload_n (pc := 21) dX5_truncateText_21 rfl rfl ?_
    refine x_geti (pc := 22) fX5_55 dX5_truncateText_22 hd.1 rfl (fun r22a r22b => ?_)
    try simp (disch := omega) only [mset_same, mset_nea, mset_nei, mcopy_nea, mcopy_in, mcopy_out, Int.reduceToNat, Int.toNat_natCast, Nat.zero_add, Nat.sub_zero] at r22a r22b ⊢
    refine x_if_le (pc := 25) (t := 30) dX5_truncateText_25 (by decide) ⟨by omega, by omega⟩ (fun c25 => ?_) (fun c25 => ?_)
    · refine x_aload_n (pc := 30) dX5_truncateText_30 rfl rfl ?_
      refine x_iload_n (pc := 31) dX5_truncateText_31 rfl rfl ?_
      refine x_puti (pc := 32) fnX5_269 dX5_truncateText_32 hd.1 (by omega) rfl ⟨by omega, by omega⟩ ?_
      refine x_aload_n (pc := 35) dX5_truncateText_35 rfl rfl ?_
      refine x_geti (pc := 36) fX5_269 dX5_truncateText_36 hd.1 rfl (fun r36a r36b => ?_)
      try simp (disch := omega) only [mset_same, mset_nea, mset_nei, mcopy_nea, mcopy_in, mcopy_out, Int.reduceToNat, Int.toNat_natCast, Nat.zero_add, Nat.sub_zero] at r36a r36b ⊢
      refine x_iret (pc := 39) dX5_truncateText_39 rfl (by decide) (by decide) ?_
      first
      | (exfalso; omega)
      | (refine k (b1 c10) _ (fun a j q1 => by rw [mset_ne (by omega), mset_ne (by omega)]) (by rw [mset_ne (by omega), mset_same]) ⟨⟨by omega, by rw [mset_same]; omega⟩, fun i hi => ?_⟩
         rw [mset_nea (by omega), mset_nea (by omega)]
         exact t3 i (by omega))
    · refine x_iconst (pc := 28) dX5_truncateText_28 ?_
      refine x_iret (pc := 29) dX5_truncateText_29 rfl (by decide) (by decide) ?_
      first
      | (exfalso; omega)
      | exact kx (b0 c10) _ _ (fun a j q1 => mset_ne q1) mset_same
  · refine x_iconst (pc := 13) dX5_truncateText_13 ?_
    refine x_goto (pc := 14) (t := 18) dX5_truncateText_14 (by decide) ?_
    refine x_puti (pc := 18) fnX5_55 dX5_truncateText_18 hd.1 (by omega) rfl ⟨by omega, by omega⟩ ?_
    refine x_aload_n (pc := 21) dX5_truncateText_21 rfl rfl ?_
    refine x_geti (pc := 22) fX5_55 dX5_truncateText_22 hd.1 rfl (fun r22a r22b => ?_)
    try simp (disch := omega) only [mset_same, mset_nea, mset_nei, mcopy_nea, mcopy_in, mcopy_out, Int.reduceToNat, Int.toNat_natCast, Nat.zero_add, Nat.sub_zero] at r22a r22b ⊢
    refine x_if_le (pc := 25) (t := 30) dX5_truncateText_25 (by decide) ⟨by omega, by omega⟩ (fun c25 => ?_) (fun c25 => ?_)
    · refine x_aload_n (pc := 30) dX5_truncateText_30 rfl rfl ?_
      refine x_iload_n (pc := 31) dX5_truncateText_31 rfl rfl ?_
      refine x_puti (pc := 32) fnX5_269 dX5_truncateText_32 hd.1 (by omega) rfl ⟨by omega, by omega⟩ ?_
      refine x_aload_n (pc := 35) dX5_truncateText_35 rfl rfl ?_
      refine x_geti (pc := 36) fX5_269 dX5_truncateText_36 hd.1 rfl (fun r36a r36b => ?_)
      try simp (disch := omega) only [mset_same, mset_nea, mset_nei, mcopy_nea, mcopy_in, mcopy_out, Int.reduceToNat, Int.toNat_natCast, Nat.zero_add, Nat.sub_zero] at r36a r36b ⊢
      refine x_iret (pc := 39) dX5_truncateText_39 rfl (by decide) (by decide) ?_
      first
      | (exfalso; omega)
      | (refine k (b1 c10) _ (fun a j q1 => by rw [mset_ne (by omega), mset_ne (by omega)]) (by rw [mset_ne (by omega), mset_same]) ⟨⟨by omega, by rw [mset_same]; omega⟩, fun i hi => ?_⟩
         rw [mset_nea (by omega), mset_nea (by omega)]
         exact t3 i (by omega))
    · refine x_iconst (pc := 28) dX5_truncateText_28 ?_
      refine x_iret (pc := 29) dX5_truncateText_29 rfl (by decide) (by decide) ?_
      first
      | (exfalso; omega)
      | exact kx (b0 c10) _ _ (fun a j q1 => mset_ne q1) mset_same
set_option maxRecDepth 100000 in
theorem sp_X5_appendText {g : GG} {lay : Lay} {M : Mem} {K : KK} {d : Nat} {x : Int} {tx : Nat → Int} {n : Nat} (hd : MoL lay d) (hb0 : g.2.1 ≤ d) (ht : Tx tx n M d) (hx : i32 x) (kx : 600 < n + 4 → ∀ (M2 : Mem) (v : Int), FrZ d M M2 → M2 d 0 = 1 → K (.inl (some (vI v))) lay M2) (k : n + 4 ≤ 600 → ∀ M2, (∀ a j, ¬ (a = d ∧ (j = 0 ∨ j = 12)) → ¬ a = d + 9 → M2 a j = M a j) → M2 d 0 = 0 → Tx (apTx x 4 tx n) (n + 4) M2 d → K (.inl (some (vI (n + 4 : Nat)))) lay M2) : X g m_X5_appendText 0 0 lay M 0 [(0, vR d), (1, vI x)] [] K := by
  obtain ⟨hx1, hx2⟩ := hx
  have hn12 := ht.1.2
  have hn600 := ht.1.1
  have loop : n + 4 ≤ 600 → ∀ (c n1 : Nat) (y : Int) (tx1 : Nat → Int) (M1 : Mem), c ≤ 4 → n1 + c = n + 4 → y = 8 * (c : Int) - 8 → (∀ a j, ¬ (a = d ∧ (j = 0 ∨ j = 12)) → ¬ a = d + 9 → M1 a j = M a j) → M1 d 0 = 0 → Tx tx1 n1 M1 d → apTx x c tx1 n1 = apTx x 4 tx n → X g m_X5_appendText 0 0 lay M1 33 [(2, vI y), (0, vR d), (1, vI x)] [] K := by
    intro h600 c
    have k2 := k h600
    clear k
    induction c with
    | zero =>
      intro n1 y tx1 M1 hd4 hn hy hF h0 ht1 hu
      have hn1 : n1 = n + 4 := by omega
      subst hn1
      have a2 := ht1.1.2
      refine x_iload_n (pc := 33) dX5_appendText_33 rfl rfl ?_
      refine x_if_lt (pc := 34) (t := 66) dX5_appendText_34 (by decide) ⟨by omega, by omega⟩ (fun c34 => ?_) (fun c34 => ?_)
      · refine x_aload_n (pc := 66) dX5_appendText_66 rfl rfl ?_
        refine x_geti (pc := 67) fX5_269 dX5_appendText_67 hd.1 rfl (fun r67a r67b => ?_)
        rw [a2] at r67a r67b ⊢
        refine x_iret (pc := 70) dX5_appendText_70 rfl (by decide) (by decide) ?_
        simp only [apTx] at hu
        rw [hu] at ht1
        exact k2 _ hF h0 ht1
      · exfalso; omega
    | succ c ih =>
      intro n1 y tx1 M1 hd4 hn hy hF h0 ht1 hu
      have hbm := bm256 (x / 2 ^ (8 * c))
      have hyd : y = ((8 * c : Nat) : Int) := by omega
      have a2 := ht1.1.2
      refine x_iload_n (pc := 33) dX5_appendText_33 rfl rfl ?_
      refine x_if_lt (pc := 34) (t := 66) dX5_appendText_34 (by decide) ⟨by omega, by omega⟩ (fun c34 => ?_) (fun c34 => ?_)
      · exfalso; omega
      · refine x_aload_n (pc := 37) dX5_appendText_37 rfl rfl ?_
        refine x_getr (pc := 38) (b := d + 9) fX5_35 dX5_appendText_38 hd.1 rfl rfl ?_
        refine x_aload_n (pc := 41) dX5_appendText_41 rfl rfl ?_
        refine x_geti (pc := 42) fX5_269 dX5_appendText_42 hd.1 rfl (fun r42a r42b => ?_)
        rw [a2] at r42a r42b ⊢
        refine x_iload_n (pc := 45) dX5_appendText_45 rfl rfl ?_
        refine x_iload_n (pc := 46) dX5_appendText_46 rfl rfl ?_
        refine x_ishr (pc := 47) (8 * c) (by omega) hyd ⟨by omega, by omega⟩ dX5_appendText_47 ?_
        refine x_i2b (pc := 48) dX5_appendText_48 ?_
        refine x_bast (pc := 49) dX5_appendText_49 hd.2.2.2.2.2.2.2.2.2.1 (by omega) (by omega) (by omega) ⟨by omega, by omega⟩ ?_
        refine x_aload_n (pc := 50) dX5_appendText_50 rfl rfl ?_
        refine x_dup (pc := 51) dX5_appendText_51 rfl ?_
        refine x_geti (pc := 52) fX5_269 dX5_appendText_52 hd.1 rfl (fun r52a r52b => ?_)
        try simp (disch := omega) only [mset_same, mset_nea, mset_nei, mcopy_nea, mcopy_in, mcopy_out, Int.reduceToNat, Int.toNat_natCast, Nat.zero_add, Nat.sub_zero] at r52a r52b ⊢
        rw [a2] at r52a r52b ⊢
        refine x_iconst (pc := 55) dX5_appendText_55 ?_
        refine x_iadd (pc := 56) dX5_appendText_56 ?_
        refine x_puti (pc := 57) fnX5_269 dX5_appendText_57 hd.1 (by omega) rfl ⟨by omega, by omega⟩ ?_
        refine x_iinc (pc := 60) dX5_appendText_60 rfl (by decide) (L' := [(2, _), (0, _), (1, _)]) rfl ?_
        refine x_goto (pc := 63) (t := 33) dX5_appendText_63 (by decide) ?_
        refine X.loc [0, 1, 2] (L' := [(2, _), (0, _), (1, _)]) rfl ?_
        refine ih (n1 + 1) _ (fup tx1 n1 ((x / 2 ^ (8 * c)).bmod 256)) _ (by omega) (by omega) (by omega) (fun a j q1 q2 => ?_) ?_ ⟨⟨by omega, ?_⟩, fun i hi => ?_⟩ hu
        · rw [mset_ne (by omega), mset_nea q2]
          exact hF a j q1 q2
        · rw [mset_ne (by omega), mset_nea (by omega)]
          exact h0
        · rw [mset_same]
          omega
        · rw [mset_nea (by omega)]
          by_cases e : i = n1
          · rw [e, mset_same, fup_at]
          · rw [mset_nei (by omega), fup_ne e]
            exact ht1.2 i (by omega)
  refine x_aload_n (pc := 0) dX5_appendText_0 rfl rfl ?_
  refine x_aload_n (pc := 1) dX5_appendText_1 rfl rfl ?_
  refine x_geti (pc := 2) fX5_269 dX5_appendText_2 hd.1 rfl (fun r2a r2b => ?_)
  rw [hn12] at r2a r2b ⊢
  refine x_iconst (pc := 5) dX5_appendText_5 ?_
  refine x_iadd (pc := 6) dX5_appendText_6 ?_
  refine x_sipush (pc := 7) dX5_appendText_7 (by decide) ?_
  refine x_icmp_gt (pc := 10) (t := 17) dX5_appendText_10 (by decide) ⟨by omega, by omega⟩ ⟨by omega, by omega⟩ (fun c10 => ?_) (fun c10 => ?_)
  · refine x_iconst (pc := 17) dX5_appendText_17 ?_
    refine x_puti (pc := 18) fnX5_55 dX5_appendText_18 hd.1 (by omega) rfl ⟨by omega, by omega⟩ ?_
    refine x_aload_n (pc := 21) dX5_appendText_21 rfl rfl ?_
    refine x_geti (pc := 22) fX5_55 dX5_appendText_22 hd.1 rfl (fun r22a r22b => ?_)
    try simp (disch := omega) only [mset_same, mset_nea, mset_nei, mcopy_nea, mcopy_in, mcopy_out, Int.reduceToNat, Int.toNat_natCast, Nat.zero_add, Nat.sub_zero] at r22a r22b ⊢
    refine x_if_le (pc := 25) (t := 30) dX5_appendText_25 (by decide) ⟨by omega, by omega⟩ (fun c25 => ?_) (fun c25 => ?_)
    · refine x_bipush (pc := 30) dX5_appendText_30 (by decide) ?_
      refine x_istore_n (pc := 32) dX5_appendText_32 rfl (by decide) (L' := [(2, _), (0, _), (1, _)]) rfl ?_
      refine X.loc [0, 1, 2] (L' := [(2, _), (0, _), (1, _)]) rfl ?_
      first
      | (exfalso; omega)
      | (refine loop (by omega) 4 n _ tx _ (by omega) rfl rfl (fun a j q1 q2 => mset_ne (by omega)) mset_same (ht.z (mset_ne (by omega)) (fun j => mset_nea (by omega))) rfl)
    · refine x_iconst (pc := 28) dX5_appendText_28 ?_
      refine x_iret (pc := 29) dX5_appendText_29 rfl (by decide) (by decide) ?_
      first
      | (exfalso; omega)
      | exact kx (by omega) _ _ (fun a j q1 => mset_ne q1) mset_same
  · refine x_iconst (pc := 13) dX5_appendText_13 ?_
    refine x_goto (pc := 14) (t := 18) dX5_appendText_14 (by decide) ?_
    refine x_puti (pc := 18) fnX5_55 dX5_appendText_18 hd.1 (by omega) rfl ⟨by omega, by omega⟩ ?_
    refine x_aload_n (pc := 21) dX5_appendText_21 rfl rfl ?_
    refine x_geti (pc := 22) fX5_55 dX5_appendText_22 hd.1 rfl (fun r22a r22b => ?_)
    try simp (disch := omega) only [mset_same, mset_nea, mset_nei, mcopy_nea, mcopy_in, mcopy_out, Int.reduceToNat, Int.toNat_natCast, Nat.zero_add, Nat.sub_zero] at r22a r22b ⊢
    refine x_if_le (pc := 25) (t := 30) dX5_appendText_25 (by decide) ⟨by omega, by omega⟩ (fun c25 => ?_) (fun c25 => ?_)
    · refine x_bipush (pc := 30) dX5_appendText_30 (by decide) ?_
      refine x_istore_n (pc := 32) dX5_appendText_32 rfl (by decide) (L' := [(2, _), (0, _), (1, _)]) rfl ?_
      refine X.loc [0, 1, 2] (L' := [(2, _), (0, _), (1, _)]) rfl ?_
      first
      | (exfalso; omega)
      | (refine loop (by omega) 4 n _ tx _ (by omega) rfl rfl (fun a j q1 q2 => mset_ne (by omega)) mset_same (ht.z (mset_ne (by omega)) (fun j => mset_nea (by omega))) rfl)
    · refine x_iconst (pc := 28) dX5_appendText_28 ?_
      refine x_iret (pc := 29) dX5_appendText_29 rfl (by decide) (by decide) ?_
      first
      | (exfalso; omega)
      | exact kx (by omega) _ _ (fun a j q1 => mset_ne q1) mset_same
set_option maxRecDepth 100000 in
theorem sp_X5_undo {g : GG} {lay : Lay} {M : Mem} {K : KK} {d : Nat} {T : CT} {H : Nat → CT} {u : Nat} (hd : MoL lay d) (hb0 : g.2.1 ≤ d) (hT : RowT T (M (d + 1))) (hW : WfT T) (hU : Us H u M d) (k0 : u = 0 → ∀ M2, FrZ d M M2 → K (.inl (some (vI (-1)))) lay M2) (k : 0 < u → ∀ M2, (∀ a j, ¬ (a = d ∧ (j = 0 ∨ j = 4)) → ¬ a = d + 1 → M2 a j = M a j) → RowT (H (u - 1)) (M2 (d + 1)) → Us H (u - 1) M2 d → K (.inl (some (vI (u - 1 : Nat)))) lay M2) : X g m_X5_undo 0 0 lay M 0 [(0, vR d)] [] K := by
  obtain ⟨⟨hu4, hu12⟩, hH⟩ := id hU
  refine x_aload_n (pc := 0) dX5_undo_0 rfl rfl ?_
  refine x_iconst (pc := 1) dX5_undo_1 ?_
  refine x_puti (pc := 2) fnX5_55 dX5_undo_2 hd.1 (by omega) rfl ⟨by omega, by omega⟩ ?_
  refine x_aload_n (pc := 5) dX5_undo_5 rfl rfl ?_
  refine x_geti (pc := 6) fX5_177 dX5_undo_6 hd.1 rfl (fun r6a r6b => ?_)
  try simp (disch := omega) only [mset_same, mset_nea, mset_nei, mcopy_nea, mcopy_in, mcopy_out, Int.reduceToNat, Int.toNat_natCast, Nat.zero_add, Nat.sub_zero] at r6a r6b ⊢
  rw [hu4] at r6a r6b ⊢
  refine x_if_ne (pc := 9) (t := 14) dX5_undo_9 (by decide) ⟨by omega, by omega⟩ (fun c9 => ?_) (fun c9 => ?_)
  · refine x_aload_n (pc := 14) dX5_undo_14 rfl rfl ?_
    refine x_dup (pc := 15) dX5_undo_15 rfl ?_
    refine x_geti (pc := 16) fX5_177 dX5_undo_16 hd.1 rfl (fun r16a r16b => ?_)
    try simp (disch := omega) only [mset_same, mset_nea, mset_nei, mcopy_nea, mcopy_in, mcopy_out, Int.reduceToNat, Int.toNat_natCast, Nat.zero_add, Nat.sub_zero] at r16a r16b ⊢
    rw [hu4] at r16a r16b ⊢
    refine x_iconst (pc := 19) dX5_undo_19 ?_
    refine x_isub (pc := 20) dX5_undo_20 ?_
    refine x_puti (pc := 21) fnX5_177 dX5_undo_21 hd.1 (by omega) rfl ⟨by omega, by omega⟩ ?_
    refine x_aload_n (pc := 24) dX5_undo_24 rfl rfl ?_
    refine x_getr (pc := 25) (b := d + 3) fX5_16 dX5_undo_25 hd.1 rfl rfl ?_
    refine x_sipush (pc := 28) dX5_undo_28 (by decide) ?_
    refine x_aload_n (pc := 31) dX5_undo_31 rfl rfl ?_
    refine x_geti (pc := 32) fX5_177 dX5_undo_32 hd.1 rfl (fun r32a r32b => ?_)
    try simp (disch := omega) only [mset_same, mset_nea, mset_nei, mcopy_nea, mcopy_in, mcopy_out, Int.reduceToNat, Int.toNat_natCast, Nat.zero_add, Nat.sub_zero] at r32a r32b ⊢
    refine x_imul (pc := 35) dX5_undo_35 ?_
    rw [show 280 * ((u : Int) - 1) = ((280 * (u - 1) : Nat) : Int) by omega]
    refine x_aload_n (pc := 36) dX5_undo_36 rfl rfl ?_
    refine x_getr (pc := 37) (b := d + 1) fX5_7 dX5_undo_37 hd.1 rfl rfl ?_
    refine x_iconst (pc := 40) dX5_undo_40 ?_
    refine x_callS (pc := 41) [_, _, _, _] rfl kX5_180 dX5_undo_41 rfl (by decide) (Nat.le_of_ble_eq_true rfl) (Nat.le_of_ble_eq_true rfl) (by decide) ?_
    refine sp_X5_copies (o1 := 280 * (u - 1)) (o2 := 0) hd.2.2.2.1 hd.2.1 (by omega) (by omega) (by omega) (by omega) (by omega) (fun M2 hF2 hw2 => ?_)
    have e4 : M2 d 4 = ((u - 1 : Nat) : Int) := by
      rw [hF2 _ _ (by omega), mset_same]
      omega
    refine ⟨_, rfl, ?_⟩
    refine x_aload_n (pc := 44) dX5_undo_44 rfl rfl ?_
    refine x_geti (pc := 45) fX5_177 dX5_undo_45 hd.1 rfl (fun r45a r45b => ?_)
    try simp (disch := omega) only [mset_same, mset_nea, mset_nei, mcopy_nea, mcopy_in, mcopy_out, Int.reduceToNat, Int.toNat_natCast, Nat.zero_add, Nat.sub_zero] at r45a r45b ⊢
    refine x_iret (pc := 48) dX5_undo_48 rfl (by decide) (by decide) ?_
    rw [e4]
    have hUu := hH (u - 1) (by omega)
    refine k (by omega) M2 (fun a j q1 q2 => by rw [hF2 _ _ (by omega), mset_ne (by omega), mset_ne (by omega)]) (hUu.2.cong hUu.1 (fun j hj => ?_)) ⟨⟨e4, by omega⟩, fun i hi => ?_⟩
    · have h9 := hw2 j hj
      rw [Nat.zero_add] at h9
      rw [h9, mset_nea (by omega), mset_nea (by omega)]
    · obtain ⟨g1, g2⟩ := hH i (by omega)
      exact ⟨g1, g2.cong g1 (fun j hj => by show M2 (d + 3) (280 * i + j) = _; rw [hF2 _ _ (by omega), mset_nea (by omega), mset_nea (by omega)])⟩
  · refine x_iconst (pc := 12) dX5_undo_12 ?_
    refine x_iret (pc := 13) dX5_undo_13 rfl (by decide) (by decide) ?_
    exact k0 (by omega) _ (fun a j q1 => mset_ne q1)
set_option maxRecDepth 100000 in
theorem sp_X5_save {g : GG} {lay : Lay} {M : Mem} {K : KK} {d : Nat} {T : CT} {S : Nat → Option CT} {x : Int} (hd : MoL lay d) (hb0 : g.2.1 ≤ d) (hT : RowT T (M (d + 1))) (hW : WfT T) (hS9 : Sv S M d) (hx : i32 x) (kx : ¬ (0 ≤ x ∧ x ≤ 1) → ∀ M2, FrZ d M M2 → M2 d 0 = 1 → K (.inl none) lay M2) (k : 0 ≤ x ∧ x ≤ 1 → ∀ M2, (∀ a j, ¬ (a = d ∧ j = 0) → ¬ a = d + 4 → ¬ a = d + 5 → M2 a j = M a j) → M2 d 0 = 0 → Sv (fun i => if i = x.toNat then some T else S i) M2 d → K (.inl none) lay M2) : X g m_X5_save 0 0 lay M 0 [(0, vR d), (1, vI x)] [] K := by
  obtain ⟨hx1, hx2⟩ := hx
  have y0 := @b01 (0 ≤ x ∧ x ≤ 1) inferInstance
  refine x_aload_n (pc := 0) dX5_save_0 rfl rfl ?_
  refine x_iload_n (pc := 1) dX5_save_1 rfl rfl ?_
  refine x_iconst (pc := 2) dX5_save_2 ?_
  refine x_iconst (pc := 3) dX5_save_3 ?_
  refine x_callS (pc := 4) [_, _, _] rfl kX5_144 dX5_save_4 rfl (by decide) (Nat.le_of_ble_eq_true rfl) (Nat.le_of_ble_eq_true rfl) (by decide) ?_
  refine sp_X5_in ⟨by omega, by omega⟩ ⟨by omega, by omega⟩ ⟨by omega, by omega⟩ ?_
  refine ⟨_, rfl, ?_⟩
  refine x_if_eq (pc := 7) (t := 14) dX5_save_7 (by decide) ⟨by omega, by omega⟩ (fun c7 => ?_) (fun c7 => ?_)
  · refine x_iconst (pc := 14) dX5_save_14 ?_
    refine x_puti (pc := 15) fnX5_55 dX5_save_15 hd.1 (by omega) rfl ⟨by omega, by omega⟩ ?_
    refine x_aload_n (pc := 18) dX5_save_18 rfl rfl ?_
    refine x_geti (pc := 19) fX5_55 dX5_save_19 hd.1 rfl (fun r19a r19b => ?_)
    try simp (disch := omega) only [mset_same, mset_nea, mset_nei, mcopy_nea, mcopy_in, mcopy_out, Int.reduceToNat, Int.toNat_natCast, Nat.zero_add, Nat.sub_zero] at r19a r19b ⊢
    refine x_if_le (pc := 22) (t := 26) dX5_save_22 (by decide) ⟨by omega, by omega⟩ (fun c22 => ?_) (fun c22 => ?_)
    · refine x_aload_n (pc := 26) dX5_save_26 rfl rfl ?_
      refine x_getr (pc := 27) (b := d + 1) fX5_7 dX5_save_27 hd.1 rfl rfl ?_
      refine x_iconst (pc := 30) dX5_save_30 ?_
      refine x_aload_n (pc := 31) dX5_save_31 rfl rfl ?_
      refine x_getr (pc := 32) (b := d + 4) fX5_19 dX5_save_32 hd.1 rfl rfl ?_
      refine x_sipush (pc := 35) dX5_save_35 (by decide) ?_
      refine x_iload_n (pc := 38) dX5_save_38 rfl rfl ?_
      refine x_imul (pc := 39) dX5_save_39 ?_
      have hx9 : 0 ≤ x ∧ x ≤ 1 := by first | exact b1 c7 | (exfalso; omega)
      obtain ⟨s, rfl⟩ := Int.eq_ofNat_of_zero_le hx9.1
      rw [show 280 * (s : Int) = ((280 * s : Nat) : Int) by omega]
      refine x_callS (pc := 40) [_, _, _, _] rfl kX5_180 dX5_save_40 rfl (by decide) (Nat.le_of_ble_eq_true rfl) (Nat.le_of_ble_eq_true rfl) (by decide) ?_
      refine sp_X5_copies (o1 := 0) (o2 := 280 * s) hd.2.1 hd.2.2.2.2.1 (by omega) (by omega) (by omega) (by omega) (by omega) (fun M2 hF2 hw2 => ?_)
      refine ⟨_, rfl, ?_⟩
      refine x_aload_n (pc := 43) dX5_save_43 rfl rfl ?_
      refine x_getr (pc := 44) (b := d + 5) fX5_22 dX5_save_44 hd.1 rfl rfl ?_
      refine x_iload_n (pc := 47) dX5_save_47 rfl rfl ?_
      refine x_iconst (pc := 48) dX5_save_48 ?_
      refine x_zast (pc := 49) dX5_save_49 hd.2.2.2.2.2.1 (by omega) (by omega) (by omega) ⟨by omega, by omega⟩ ?_
      refine x_vret (pc := 50) dX5_save_50 rfl (by decide) (by decide) ?_
      first
      | (exfalso; omega)
      | (refine k hx9 _ (fun a j q1 q2 q3 => by rw [mset_nea q3, hF2 _ _ (by omega), mset_ne q1]) (by rw [mset_nea (by omega), hF2 _ _ (by omega), mset_same]) (fun i hi => ?_)
         have h9 := hS9 i hi
         rw [show ((s : Nat) : Int).toNat = s from Int.toNat_natCast s]
         by_cases e : i = s
         · subst e
           show match (if i = i then some T else S i) with | none => _ | some T => _
           rw [if_pos rfl]
           refine ⟨mset_same, hW, hT.cong hW (fun j hj => ?_)⟩
           show mset _ _ _ _ (d + 4) (280 * i + j) = _
           rw [mset_nea (by omega), hw2 j hj, Nat.zero_add, mset_nea (by omega)]
         · show match (if i = s then some T else S i) with | none => _ | some T => _
           rw [if_neg e]
           cases hs : S i with
           | none =>
             rw [hs] at h9
             show mset _ _ _ _ (d + 5) i = 0
             rw [mset_nei e, hF2 _ _ (by omega), mset_nea (by omega)]
             exact h9
           | some T2 =>
             rw [hs] at h9
             obtain ⟨g0, g1, g2⟩ := h9
             refine ⟨?_, g1, g2.cong g1 (fun j hj => ?_)⟩
             · rw [mset_nei e, hF2 _ _ (by omega), mset_nea (by omega)]
               exact g0
             · show mset _ _ _ _ (d + 4) (280 * i + j) = _
               rw [mset_nea (by omega), hF2 _ _ (by omega), mset_nea (by omega)])
    · refine x_vret (pc := 25) dX5_save_25 rfl (by decide) (by decide) ?_
      first
      | (exfalso; omega)
      | exact kx (b0 c7) _ (fun a j q1 => mset_ne q1) mset_same
  · refine x_iconst (pc := 10) dX5_save_10 ?_
    refine x_goto (pc := 11) (t := 15) dX5_save_11 (by decide) ?_
    refine x_puti (pc := 15) fnX5_55 dX5_save_15 hd.1 (by omega) rfl ⟨by omega, by omega⟩ ?_
    refine x_aload_n (pc := 18) dX5_save_18 rfl rfl ?_
    refine x_geti (pc := 19) fX5_55 dX5_save_19 hd.1 rfl (fun r19a r19b => ?_)
    try simp (disch := omega) only [mset_same, mset_nea, mset_nei, mcopy_nea, mcopy_in, mcopy_out, Int.reduceToNat, Int.toNat_natCast, Nat.zero_add, Nat.sub_zero] at r19a r19b ⊢
    refine x_if_le (pc := 22) (t := 26) dX5_save_22 (by decide) ⟨by omega, by omega⟩ (fun c22 => ?_) (fun c22 => ?_)
    · refine x_aload_n (pc := 26) dX5_save_26 rfl rfl ?_
      refine x_getr (pc := 27) (b := d + 1) fX5_7 dX5_save_27 hd.1 rfl rfl ?_
      refine x_iconst (pc := 30) dX5_save_30 ?_
      refine x_aload_n (pc := 31) dX5_save_31 rfl rfl ?_
      refine x_getr (pc := 32) (b := d + 4) fX5_19 dX5_save_32 hd.1 rfl rfl ?_
      refine x_sipush (pc := 35) dX5_save_35 (by decide) ?_
      refine x_iload_n (pc := 38) dX5_save_38 rfl rfl ?_
      refine x_imul (pc := 39) dX5_save_39 ?_
      have hx9 : 0 ≤ x ∧ x ≤ 1 := by first | exact b1 c7 | (exfalso; omega)
      obtain ⟨s, rfl⟩ := Int.eq_ofNat_of_zero_le hx9.1
      rw [show 280 * (s : Int) = ((280 * s : Nat) : Int) by omega]
      refine x_callS (pc := 40) [_, _, _, _] rfl kX5_180 dX5_save_40 rfl (by decide) (Nat.le_of_ble_eq_true rfl) (Nat.le_of_ble_eq_true rfl) (by decide) ?_
      refine sp_X5_copies (o1 := 0) (o2 := 280 * s) hd.2.1 hd.2.2.2.2.1 (by omega) (by omega) (by omega) (by omega) (by omega) (fun M2 hF2 hw2 => ?_)
      refine ⟨_, rfl, ?_⟩
      refine x_aload_n (pc := 43) dX5_save_43 rfl rfl ?_
      refine x_getr (pc := 44) (b := d + 5) fX5_22 dX5_save_44 hd.1 rfl rfl ?_
      refine x_iload_n (pc := 47) dX5_save_47 rfl rfl ?_
      refine x_iconst (pc := 48) dX5_save_48 ?_
      refine x_zast (pc := 49) dX5_save_49 hd.2.2.2.2.2.1 (by omega) (by omega) (by omega) ⟨by omega, by omega⟩ ?_
      refine x_vret (pc := 50) dX5_save_50 rfl (by decide) (by decide) ?_
      first
      | (exfalso; omega)
      | (refine k hx9 _ (fun a j q1 q2 q3 => by rw [mset_nea q3, hF2 _ _ (by omega), mset_ne q1]) (by rw [mset_nea (by omega), hF2 _ _ (by omega), mset_same]) (fun i hi => ?_)
         have h9 := hS9 i hi
         rw [show ((s : Nat) : Int).toNat = s from Int.toNat_natCast s]
         by_cases e : i = s
         · subst e
           show match (if i = i then some T else S i) with | none => _ | some T => _
           rw [if_pos rfl]
           refine ⟨mset_same, hW, hT.cong hW (fun j hj => ?_)⟩
           show mset _ _ _ _ (d + 4) (280 * i + j) = _
           rw [mset_nea (by omega), hw2 j hj, Nat.zero_add, mset_nea (by omega)]
         · show match (if i = s then some T else S i) with | none => _ | some T => _
           rw [if_neg e]
           cases hs : S i with
           | none =>
             rw [hs] at h9
             show mset _ _ _ _ (d + 5) i = 0
             rw [mset_nei e, hF2 _ _ (by omega), mset_nea (by omega)]
             exact h9
           | some T2 =>
             rw [hs] at h9
             obtain ⟨g0, g1, g2⟩ := h9
             refine ⟨?_, g1, g2.cong g1 (fun j hj => ?_)⟩
             · rw [mset_nei e, hF2 _ _ (by omega), mset_nea (by omega)]
               exact g0
             · show mset _ _ _ _ (d + 4) (280 * i + j) = _
               rw [mset_nea (by omega), hF2 _ _ (by omega), mset_nea (by omega)])
    · refine x_vret (pc := 25) dX5_save_25 rfl (by decide) (by decide) ?_
      first
      | (exfalso; omega)
      | exact kx (b0 c7) _ (fun a j q1 => mset_ne q1) mset_same
set_option maxRecDepth 100000 in
theorem sp_X5_restore {g : GG} {lay : Lay} {M : Mem} {K : KK} {d : Nat} {T : CT} {S : Nat → Option CT} {x : Int} (hd : MoL lay d) (hb0 : g.2.1 ≤ d) (hT : RowT T (M (d + 1))) (hW : WfT T) (hS9 : Sv S M d) (hx : i32 x) (kx : ∀ (M2 : Mem) (t : Int), (¬ (0 ≤ x ∧ x ≤ 1) ∧ t = 1) ∨ ((0 ≤ x ∧ x ≤ 1) ∧ S x.toNat = none ∧ t = 2) → FrZ d M M2 → M2 d 0 = t → K (.inl none) lay M2) (k : ∀ T2, 0 ≤ x ∧ x ≤ 1 → S x.toNat = some T2 → WfT T2 → ∀ M2, (∀ a j, ¬ (a = d ∧ (j = 0 ∨ j = 4)) → ¬ a = d + 1 → M2 a j = M a j) → M2 d 0 = 0 → RowT T2 (M2 (d + 1)) → M2 d 4 = 0 → K (.inl none) lay M2) : X g m_X5_restore 0 0 lay M 0 [(0, vR d), (1, vI x)] [] K := by
  obtain ⟨hx1, hx2⟩ := hx
  have y0 := @b01 (0 ≤ x ∧ x ≤ 1) inferInstance
  refine x_aload_n (pc := 0) dX5_restore_0 rfl rfl ?_
  refine x_iload_n (pc := 1) dX5_restore_1 rfl rfl ?_
  refine x_iconst (pc := 2) dX5_restore_2 ?_
  refine x_iconst (pc := 3) dX5_restore_3 ?_
  refine x_callS (pc := 4) [_, _, _] rfl kX5_144 dX5_restore_4 rfl (by decide) (Nat.le_of_ble_eq_true rfl) (Nat.le_of_ble_eq_true rfl) (by decide) ?_
  refine sp_X5_in ⟨by omega, by omega⟩ ⟨by omega, by omega⟩ ⟨by omega, by omega⟩ ?_
  refine ⟨_, rfl, ?_⟩
  refine x_if_ne (pc := 7) (t := 14) dX5_restore_7 (by decide) ⟨by omega, by omega⟩ (fun c7 => ?_) (fun c7 => ?_)
  · refine x_aload_n (pc := 14) dX5_restore_14 rfl rfl ?_
    refine x_getr (pc := 15) (b := d + 5) fX5_22 dX5_restore_15 hd.1 rfl rfl ?_
    refine x_iload_n (pc := 18) dX5_restore_18 rfl rfl ?_
    have hx9 := b1 c7
    have h9 := hS9 x.toNat (by omega)
    refine x_zald (pc := 19) dX5_restore_19 hd.2.2.2.2.2.1 (by omega) (by omega) (fun r19a r19b => ?_)
    refine x_if_eq (pc := 20) (t := 27) dX5_restore_20 (by decide) ⟨by omega, by omega⟩ (fun c20 => ?_) (fun c20 => ?_)
    · refine x_iconst (pc := 27) dX5_restore_27 ?_
      refine x_puti (pc := 28) fnX5_55 dX5_restore_28 hd.1 (by omega) rfl ⟨by omega, by omega⟩ ?_
      refine x_aload_n (pc := 31) dX5_restore_31 rfl rfl ?_
      refine x_geti (pc := 32) fX5_55 dX5_restore_32 hd.1 rfl (fun r32a r32b => ?_)
      try simp (disch := omega) only [mset_same, mset_nea, mset_nei, mcopy_nea, mcopy_in, mcopy_out, Int.reduceToNat, Int.toNat_natCast, Nat.zero_add, Nat.sub_zero] at r32a r32b ⊢
      refine x_if_le (pc := 35) (t := 39) dX5_restore_35 (by decide) ⟨by omega, by omega⟩ (fun c35 => ?_) (fun c35 => ?_)
      · refine x_aload_n (pc := 39) dX5_restore_39 rfl rfl ?_
        refine x_getr (pc := 40) (b := d + 4) fX5_19 dX5_restore_40 hd.1 rfl rfl ?_
        refine x_sipush (pc := 43) dX5_restore_43 (by decide) ?_
        refine x_iload_n (pc := 46) dX5_restore_46 rfl rfl ?_
        refine x_imul (pc := 47) dX5_restore_47 ?_
        refine x_aload_n (pc := 48) dX5_restore_48 rfl rfl ?_
        refine x_getr (pc := 49) (b := d + 1) fX5_7 dX5_restore_49 hd.1 rfl rfl ?_
        refine x_iconst (pc := 52) dX5_restore_52 ?_
        refine x_callS (pc := 53) [_, _, _, _] rfl kX5_180 dX5_restore_53 rfl (by decide) (Nat.le_of_ble_eq_true rfl) (Nat.le_of_ble_eq_true rfl) (by decide) ?_
        have hx0 : 0 ≤ x ∧ x ≤ 1 := by first | exact hx9 | (exfalso; omega)
        obtain ⟨s, rfl⟩ := Int.eq_ofNat_of_zero_le hx0.1
        rw [show 280 * (s : Int) = ((280 * s : Nat) : Int) by omega]
        refine sp_X5_copies (o1 := 280 * s) (o2 := 0) hd.2.2.2.2.1 hd.2.1 (by omega) (by omega) (by omega) (by omega) (by omega) (fun M2 hF2 hw2 => ?_)
        refine ⟨_, rfl, ?_⟩
        refine x_aload_n (pc := 56) dX5_restore_56 rfl rfl ?_
        refine x_iconst (pc := 57) dX5_restore_57 ?_
        refine x_puti (pc := 58) fnX5_177 dX5_restore_58 hd.1 (by omega) rfl ⟨by omega, by omega⟩ ?_
        refine x_vret (pc := 61) dX5_restore_61 rfl (by decide) (by decide) ?_
        first
        | (exfalso; omega)
        | (rw [Int.toNat_natCast] at h9
           rcases hs : S s with _ | T2
           · rw [hs] at h9
             have h99 : M (d + 5) s = 0 := h9
             simp only [Int.toNat_natCast] at c20
             exfalso
             omega
           · rw [hs] at h9
             obtain ⟨g0, g1, g2⟩ := h9
             refine k T2 hx9 (by rw [Int.toNat_natCast]; exact hs) g1 _ (fun a j q1 q2 => by rw [mset_ne (by omega), hF2 _ _ (by omega), mset_ne (by omega)]) (by rw [mset_ne (by omega), hF2 _ _ (by omega), mset_same]) (g2.cong g1 (fun j hj => ?_)) mset_same
             have h8 := hw2 j hj
             rw [Nat.zero_add] at h8
             rw [mset_nea (by omega), h8, mset_nea (by omega)])
      · refine x_vret (pc := 38) dX5_restore_38 rfl (by decide) (by decide) ?_
        first
        | (exfalso; omega)
        | exact kx _ 1 (Or.inl ⟨b0 c7, rfl⟩) (fun a j q1 => mset_ne q1) mset_same
        | (refine kx _ 2 (Or.inr ⟨hx9, ?_, rfl⟩) (fun a j q1 => mset_ne q1) mset_same
           cases hs : S x.toNat with
           | none => rfl
           | some T2 =>
             rw [hs] at h9
             exfalso
             have := h9.1
             omega)
    · refine x_iconst (pc := 23) dX5_restore_23 ?_
      refine x_goto (pc := 24) (t := 28) dX5_restore_24 (by decide) ?_
      refine x_puti (pc := 28) fnX5_55 dX5_restore_28 hd.1 (by omega) rfl ⟨by omega, by omega⟩ ?_
      refine x_aload_n (pc := 31) dX5_restore_31 rfl rfl ?_
      refine x_geti (pc := 32) fX5_55 dX5_restore_32 hd.1 rfl (fun r32a r32b => ?_)
      try simp (disch := omega) only [mset_same, mset_nea, mset_nei, mcopy_nea, mcopy_in, mcopy_out, Int.reduceToNat, Int.toNat_natCast, Nat.zero_add, Nat.sub_zero] at r32a r32b ⊢
      refine x_if_le (pc := 35) (t := 39) dX5_restore_35 (by decide) ⟨by omega, by omega⟩ (fun c35 => ?_) (fun c35 => ?_)
      · refine x_aload_n (pc := 39) dX5_restore_39 rfl rfl ?_
        refine x_getr (pc := 40) (b := d + 4) fX5_19 dX5_restore_40 hd.1 rfl rfl ?_
        refine x_sipush (pc := 43) dX5_restore_43 (by decide) ?_
        refine x_iload_n (pc := 46) dX5_restore_46 rfl rfl ?_
        refine x_imul (pc := 47) dX5_restore_47 ?_
        refine x_aload_n (pc := 48) dX5_restore_48 rfl rfl ?_
        refine x_getr (pc := 49) (b := d + 1) fX5_7 dX5_restore_49 hd.1 rfl rfl ?_
        refine x_iconst (pc := 52) dX5_restore_52 ?_
        refine x_callS (pc := 53) [_, _, _, _] rfl kX5_180 dX5_restore_53 rfl (by decide) (Nat.le_of_ble_eq_true rfl) (Nat.le_of_ble_eq_true rfl) (by decide) ?_
        have hx0 : 0 ≤ x ∧ x ≤ 1 := by first | exact hx9 | (exfalso; omega)
        obtain ⟨s, rfl⟩ := Int.eq_ofNat_of_zero_le hx0.1
        rw [show 280 * (s : Int) = ((280 * s : Nat) : Int) by omega]
        refine sp_X5_copies (o1 := 280 * s) (o2 := 0) hd.2.2.2.2.1 hd.2.1 (by omega) (by omega) (by omega) (by omega) (by omega) (fun M2 hF2 hw2 => ?_)
        refine ⟨_, rfl, ?_⟩
        refine x_aload_n (pc := 56) dX5_restore_56 rfl rfl ?_
        refine x_iconst (pc := 57) dX5_restore_57 ?_
        refine x_puti (pc := 58) fnX5_177 dX5_restore_58 hd.1 (by omega) rfl ⟨by omega, by omega⟩ ?_
        refine x_vret (pc := 61) dX5_restore_61 rfl (by decide) (by decide) ?_
        first
        | (exfalso; omega)
        | (rw [Int.toNat_natCast] at h9
           rcases hs : S s with _ | T2
           · rw [hs] at h9
             have h99 : M (d + 5) s = 0 := h9
             simp only [Int.toNat_natCast] at c20
             exfalso
             omega
           · rw [hs] at h9
             obtain ⟨g0, g1, g2⟩ := h9
             refine k T2 hx9 (by rw [Int.toNat_natCast]; exact hs) g1 _ (fun a j q1 q2 => by rw [mset_ne (by omega), hF2 _ _ (by omega), mset_ne (by omega)]) (by rw [mset_ne (by omega), hF2 _ _ (by omega), mset_same]) (g2.cong g1 (fun j hj => ?_)) mset_same
             have h8 := hw2 j hj
             rw [Nat.zero_add] at h8
             rw [mset_nea (by omega), h8, mset_nea (by omega)])
      · refine x_vret (pc := 38) dX5_restore_38 rfl (by decide) (by decide) ?_
        first
        | (exfalso; omega)
        | exact kx _ 1 (Or.inl ⟨b0 c7, rfl⟩) (fun a j q1 => mset_ne q1) mset_same
        | (refine kx _ 2 (Or.inr ⟨hx9, ?_, rfl⟩) (fun a j q1 => mset_ne q1) mset_same
           cases hs : S x.toNat with
           | none => rfl
           | some T2 =>
             rw [hs] at h9
             exfalso
             have := h9.1
             omega)
  · refine x_iconst (pc := 10) dX5_restore_10 ?_
    refine x_goto (pc := 11) (t := 28) dX5_restore_11 (by decide) ?_
    refine x_puti (pc := 28) fnX5_55 dX5_restore_28 hd.1 (by omega) rfl ⟨by omega, by omega⟩ ?_
    refine x_aload_n (pc := 31) dX5_restore_31 rfl rfl ?_
    refine x_geti (pc := 32) fX5_55 dX5_restore_32 hd.1 rfl (fun r32a r32b => ?_)
    try simp (disch := omega) only [mset_same, mset_nea, mset_nei, mcopy_nea, mcopy_in, mcopy_out, Int.reduceToNat, Int.toNat_natCast, Nat.zero_add, Nat.sub_zero] at r32a r32b ⊢
    refine x_if_le (pc := 35) (t := 39) dX5_restore_35 (by decide) ⟨by omega, by omega⟩ (fun c35 => ?_) (fun c35 => ?_)
    · refine x_aload_n (pc := 39) dX5_restore_39 rfl rfl ?_
      refine x_getr (pc := 40) (b := d + 4) fX5_19 dX5_restore_40 hd.1 rfl rfl ?_
      refine x_sipush (pc := 43) dX5_restore_43 (by decide) ?_
      refine x_iload_n (pc := 46) dX5_restore_46 rfl rfl ?_
      refine x_imul (pc := 47) dX5_restore_47 ?_
      refine x_aload_n (pc := 48) dX5_restore_48 rfl rfl ?_
      refine x_getr (pc := 49) (b := d + 1) fX5_7 dX5_restore_49 hd.1 rfl rfl ?_
      refine x_iconst (pc := 52) dX5_restore_52 ?_
      refine x_callS (pc := 53) [_, _, _, _] rfl kX5_180 dX5_restore_53 rfl (by decide) (Nat.le_of_ble_eq_true rfl) (Nat.le_of_ble_eq_true rfl) (by decide) ?_
      have hx0 : 0 ≤ x ∧ x ≤ 1 := by first | exact hx9 | (exfalso; omega)
      obtain ⟨s, rfl⟩ := Int.eq_ofNat_of_zero_le hx0.1
      rw [show 280 * (s : Int) = ((280 * s : Nat) : Int) by omega]
      refine sp_X5_copies (o1 := 280 * s) (o2 := 0) hd.2.2.2.2.1 hd.2.1 (by omega) (by omega) (by omega) (by omega) (by omega) (fun M2 hF2 hw2 => ?_)
      refine ⟨_, rfl, ?_⟩
      refine x_aload_n (pc := 56) dX5_restore_56 rfl rfl ?_
      refine x_iconst (pc := 57) dX5_restore_57 ?_
      refine x_puti (pc := 58) fnX5_177 dX5_restore_58 hd.1 (by omega) rfl ⟨by omega, by omega⟩ ?_
      refine x_vret (pc := 61) dX5_restore_61 rfl (by decide) (by decide) ?_
      first
      | (exfalso; omega)
      | (rw [Int.toNat_natCast] at h9
         rcases hs : S s with _ | T2
         · rw [hs] at h9
           have h99 : M (d + 5) s = 0 := h9
           simp only [Int.toNat_natCast] at c20
           exfalso
           omega
         · rw [hs] at h9
           obtain ⟨g0, g1, g2⟩ := h9
           refine k T2 hx9 (by rw [Int.toNat_natCast]; exact hs) g1 _ (fun a j q1 q2 => by rw [mset_ne (by omega), hF2 _ _ (by omega), mset_ne (by omega)]) (by rw [mset_ne (by omega), hF2 _ _ (by omega), mset_same]) (g2.cong g1 (fun j hj => ?_)) mset_same
           have h8 := hw2 j hj
           rw [Nat.zero_add] at h8
           rw [mset_nea (by omega), h8, mset_nea (by omega)])
    · refine x_vret (pc := 38) dX5_restore_38 rfl (by decide) (by decide) ?_
      first
      | (exfalso; omega)
      | exact kx _ 1 (Or.inl ⟨b0 c7, rfl⟩) (fun a j q1 => mset_ne q1) mset_same
      | (refine kx _ 2 (Or.inr ⟨hx9, ?_, rfl⟩) (fun a j q1 => mset_ne q1) mset_same
         cases hs : S x.toNat with
         | none => rfl
         | some T2 =>
           rw [hs] at h9
           exfalso
           have := h9.1
           omega)
