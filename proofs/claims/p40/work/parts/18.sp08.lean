/-! Specs of the making of sign rows, second part. -/
theorem topW_le (w : Nat → Int) : ∀ n, topW w n ≤ n
  | 0 => Nat.le_refl _
  | n + 1 => by
    have := topW_le w n
    simp only [topW]
    split <;> omega

set_option maxRecDepth 100000 in
theorem sp_X3_addWork {g : GG} {lay : Lay} {M : Mem} {K : KK} {c : Nat} {w : Nat → Int} {s : RS} (hs : SrL lay c) (hb0 : g.2.1 ≤ c) (hw : ∀ i, i < 5 → M (c + 8) i = w i) (hr : redOK w) (hR : Rw s M c) (h5 : s.1 ≤ 5) (k : ∀ M2, Frm c (c + 9) M M2 → Rw (addF s w).2 M2 c → K (.inl (some (vI (addF s w).1))) lay M2) : X g m_X3_addWork 0 0 lay M 0 [(0, vR c)] [] K := by
  have hn := hR.1
  have hle := topW_le w 5
  have fin : ∀ y : Int, y + 1 = topW w 5 → X g m_X3_addWork 0 0 lay M 23 [(1, vI y), (0, vR c)] [] K := by
    intro y hy
    unfold addF at k
    refine x_iload_n (pc := 23) dX3_addWork_23 rfl rfl ?_
    refine x_if_lt (pc := 24) (t := 35) dX3_addWork_24 (by decide) ⟨by omega, by omega⟩ (fun c24 => ?_) (fun c24 => ?_)
    · refine x_iconst (pc := 35) dX3_addWork_35 ?_
      refine x_zret (pc := 36) dX3_addWork_36 rfl ⟨by omega, by omega⟩ (by decide) (by decide) ?_
      have k9 := k M Frm.rf
      rw [if_pos (by omega)] at k9
      exact k9 hR
    · refine x_aload_n (pc := 27) dX3_addWork_27 rfl rfl ?_
      refine x_geti (pc := 28) fX3_24 dX3_addWork_28 hs.1 rfl (fun r28a r28b => ?_)
      refine x_iconst (pc := 31) dX3_addWork_31 ?_
      refine x_icmp_lt (pc := 32) (t := 37) dX3_addWork_32 (by decide) ⟨by omega, by omega⟩ ⟨by omega, by omega⟩ (fun c32 => ?_) (fun c32 => ?_)
      · refine x_aload_n (pc := 37) dX3_addWork_37 rfl rfl ?_
        refine x_callV (pc := 38) [] rfl kX3_47 dX3_addWork_38 hs.1 rfl rfl (by decide) (Nat.le_of_ble_eq_true rfl) (Nat.le_of_ble_eq_true rfl) (by decide) ?_
        refine sp_X3_reduce hs hb0 hw hr (fun M1 hF1 hw1 => ?_)
        have hR1 := hR.w h5 hF1 (by omega)
        have hn1 := hR1.1
        refine ⟨_, rfl, ?_⟩
        refine x_aload_n (pc := 41) dX3_addWork_41 rfl rfl ?_
        refine x_getr (pc := 42) (b := c + 8) fX3_20 dX3_addWork_42 hs.1 rfl rfl ?_
        refine x_iconst (pc := 45) dX3_addWork_45 ?_
        refine x_aload_n (pc := 46) dX3_addWork_46 rfl rfl ?_
        refine x_getr (pc := 47) (b := c + 1) fX3_11 dX3_addWork_47 hs.1 rfl rfl ?_
        refine x_aload_n (pc := 50) dX3_addWork_50 rfl rfl ?_
        refine x_geti (pc := 51) fX3_24 dX3_addWork_51 hs.1 rfl (fun r51a r51b => ?_)
        rw [hn1]
        refine x_aaldR (pc := 54) (c + 2 + s.1) dX3_addWork_54 hs.2.1 (by omega) (by omega) (by rw [Int.toNat_natCast]) ?_
        refine x_iconst (pc := 55) dX3_addWork_55 ?_
        refine x_iconst (pc := 56) dX3_addWork_56 ?_
        refine x_copy (pc := 57) kcX3_28 dX3_addWork_57 hs.2.2.2.2.2.2.2.2 (hs.row (by omega)) (by omega) (by decide) (by omega) (by omega) (by omega) (by omega) (by omega) (by decide) (Nat.le_of_ble_eq_true rfl) (by decide) ?_
        refine x_aload_n (pc := 60) dX3_addWork_60 rfl rfl ?_
        refine x_getr (pc := 61) (b := c + 7) fX3_16 dX3_addWork_61 hs.1 rfl rfl ?_
        refine x_aload_n (pc := 64) dX3_addWork_64 rfl rfl ?_
        refine x_geti (pc := 65) fX3_24 dX3_addWork_65 hs.1 rfl (fun r65a r65b => ?_)
        try simp (disch := omega) only [mset_same, mset_nea, mset_nei, mcopy_nea, mcopy_in, mcopy_out, Int.reduceToNat, Int.toNat_natCast, Nat.zero_add, Nat.sub_zero] at r65a r65b ⊢
        rw [hn1]
        refine x_iload_n (pc := 68) dX3_addWork_68 rfl rfl ?_
        refine x_iast (pc := 69) dX3_addWork_69 hs.2.2.2.2.2.2.2.1 (by omega) (by omega) (by omega) ⟨by omega, by omega⟩ ?_
        refine x_aload_n (pc := 70) dX3_addWork_70 rfl rfl ?_
        refine x_dup (pc := 71) dX3_addWork_71 rfl ?_
        refine x_geti (pc := 72) fX3_24 dX3_addWork_72 hs.1 rfl (fun r72a r72b => ?_)
        try simp (disch := omega) only [mset_same, mset_nea, mset_nei, mcopy_nea, mcopy_in, mcopy_out, Int.reduceToNat, Int.toNat_natCast, Nat.zero_add, Nat.sub_zero] at r72a r72b ⊢
        try rw [mset_nea (by omega), mcopy_nea (by omega), hn1]
        try clear r72a r72b
        refine x_iconst (pc := 75) dX3_addWork_75 ?_
        refine x_iadd (pc := 76) dX3_addWork_76 ?_
        refine x_puti (pc := 77) fnX3_24 dX3_addWork_77 hs.1 (by omega) rfl ⟨by omega, by omega⟩ ?_
        refine x_iconst (pc := 80) dX3_addWork_80 ?_
        refine x_zret (pc := 81) dX3_addWork_81 rfl ⟨by omega, by omega⟩ (by decide) (by decide) ?_
        rw [if_neg (by omega)] at k
        refine k _ (((Frm.trans (hF1.wide (by omega) (by omega)) ?_).ms ?_).ms ?_) ⟨?_, fun q hq => ⟨?_, fun i hi => ?_⟩⟩
        · intro a j ha
          rw [mcopy_nea (by omega)]
        · omega
        · omega
        · rw [mset_same]
          dsimp only
          omega
        · dsimp only at hq ⊢
          rw [mset_nea (by omega)]
          by_cases e : q = s.1
          · rw [e, mset_same, if_pos rfl]
            omega
          · rw [mset_nei (by omega), mcopy_nea (by omega), if_neg e]
            exact (hR1.2 q (by omega)).1
        · dsimp only at hq ⊢
          rw [mset_nea (by omega), mset_nea (by omega)]
          by_cases e : q = s.1
          · rw [e, if_pos rfl, mcopy_in (by omega) (by omega), ← hw1 i hi]
            simp
          · rw [if_neg e, mcopy_nea (by omega)]
            exact (hR1.2 q (by omega)).2 i hi
      · refine x_iconst (pc := 35) dX3_addWork_35 ?_
        refine x_zret (pc := 36) dX3_addWork_36 rfl ⟨by omega, by omega⟩ (by decide) (by decide) ?_
        have k9 := k M Frm.rf
        rw [if_pos (by omega)] at k9
        exact k9 hR
  obtain ⟨T, hT⟩ : ∃ T, T = topW w 5 := ⟨_, rfl⟩
  have loop : ∀ (n : Nat) (y : Int), y + 1 = n → n ≤ 5 → topW w n = T → X g m_X3_addWork 0 0 lay M 2 [(1, vI y), (0, vR c)] [] K := by
    intro n
    induction n with
    | zero =>
      intro y hy hn5 ht
      simp only [topW] at ht
      refine x_iload_n (pc := 2) dX3_addWork_2 rfl rfl ?_
      refine x_if_lt (pc := 3) (t := 23) dX3_addWork_3 (by decide) ⟨by omega, by omega⟩ (fun c3 => ?_) (fun c3 => ?_)
      · exact fin _ (by omega)
      · exfalso; omega
    | succ n ih =>
      intro y hy hn5 ht
      have e1 := hw n (by omega)
      have e2 : y.toNat = n := by omega
      simp only [topW] at ht
      refine x_iload_n (pc := 2) dX3_addWork_2 rfl rfl ?_
      refine x_if_lt (pc := 3) (t := 23) dX3_addWork_3 (by decide) ⟨by omega, by omega⟩ (fun c3 => ?_) (fun c3 => ?_)
      · exfalso; omega
      · refine x_aload_n (pc := 6) dX3_addWork_6 rfl rfl ?_
        refine x_getr (pc := 7) (b := c + 8) fX3_20 dX3_addWork_7 hs.1 rfl rfl ?_
        refine x_iload_n (pc := 10) dX3_addWork_10 rfl rfl ?_
        refine x_lald (pc := 11) dX3_addWork_11 hs.2.2.2.2.2.2.2.2 (by omega) (by omega) (fun r11a r11b => ?_)
        rw [e2, e1]
        rw [e2, e1] at r11a r11b
        refine x_lconst (pc := 12) (x := 0) dX3_addWork_12 (by decide) ?_
        refine x_lcmp_ne (pc := 13) (t := 23) dX3_addWork_13 dX3_addWork_14 (by decide) ⟨by omega, by omega⟩ ⟨by omega, by omega⟩ (fun c13 => ?_) (fun c13 => ?_)
        · rw [if_pos c13] at ht
          exact fin _ (by omega)
        · refine x_iinc (pc := 17) dX3_addWork_17 rfl (by decide) (L' := [(1, _), (0, _)]) rfl ?_
          refine x_goto (pc := 20) (t := 2) dX3_addWork_20 (by decide) ?_
          refine X.loc [0, 1] (L' := [(1, _), (0, _)]) rfl ?_
          rw [if_neg (fun q => q c13)] at ht
          exact ih _ (by omega) (by omega) ht
  refine x_iconst (pc := 0) dX3_addWork_0 ?_
  refine x_istore_n (pc := 1) dX3_addWork_1 rfl (by decide) (L' := [(1, _), (0, _)]) rfl ?_
  exact loop 5 _ (by decide) (by decide) hT.symm
set_option maxRecDepth 100000 in
theorem sp_X3_derive {g : GG} {lay : Lay} {M : Mem} {K : KK} {c : Nat} {f : Nat → Int} (hs : SrL lay c) (hb0 : g.2.1 ≤ c) (hf : ∀ i, i < 5 → M (c + 2) i = f i) (hr : redOK (derF f)) (k : ∀ M2, Frm (c + 8) (c + 9) M M2 → (∀ i, i < 5 → M2 (c + 8) i = derF f i) → K (.inl none) lay M2) : X g m_X3_derive 0 0 lay M 0 [(0, vR c)] [] K := by
  have loop : ∀ (d j : Nat) (y : Int) (M1 : Mem), j + d = 4 → y = (j : Int) + 1 → Frm (c + 8) (c + 9) M M1 → (∀ i, i < j → M1 (c + 8) i = derF f i) → X g m_X3_derive 0 0 lay M1 2 [(1, vI y), (0, vR c)] [] K := by
    intro d
    induction d with
    | zero =>
      intro j y M1 hj hy hF hw
      refine x_iload_n (pc := 2) dX3_derive_2 rfl rfl ?_
      refine x_iconst (pc := 3) dX3_derive_3 ?_
      refine x_icmp_ge (pc := 4) (t := 32) dX3_derive_4 (by decide) ⟨by omega, by omega⟩ ⟨by omega, by omega⟩ (fun c4 => ?_) (fun c4 => ?_)
      · refine x_aload_n (pc := 32) dX3_derive_32 rfl rfl ?_
        refine x_getr (pc := 33) (b := c + 8) fX3_20 dX3_derive_33 hs.1 rfl rfl ?_
        refine x_iconst (pc := 36) dX3_derive_36 ?_
        refine x_lconst (pc := 37) (x := 0) dX3_derive_37 (by decide) ?_
        refine x_last (pc := 38) dX3_derive_38 hs.2.2.2.2.2.2.2.2 (by omega) (by omega) (by omega) ⟨by omega, by omega⟩ ?_
        refine x_vret (pc := 39) dX3_derive_39 rfl (by decide) (by decide) ?_
        refine k _ (hF.ms (by omega)) (fun i hi => ?_)
        by_cases e : i = 4
        · rw [e, show (4 : Int).toNat = 4 from rfl, mset_same]
          rfl
        · rw [show (4 : Int).toNat = 4 from rfl, mset_nei e]
          exact hw i (by omega)
      · exfalso; omega
    | succ d ih =>
      intro j y M1 hj hy hF hw
      have e1 : M1 (c + 2) y.toNat = f (j + 1) := by rw [show y.toNat = j + 1 by omega, hF _ _ (by omega)]; exact hf _ (by omega)
      have e2 : y * f (j + 1) = derF f j := by
        unfold derF
        rw [if_pos (by omega), hy]
      have e3 := hr j (by omega)
      have e4 : (y - 1).toNat = j := by omega
      refine x_iload_n (pc := 2) dX3_derive_2 rfl rfl ?_
      refine x_iconst (pc := 3) dX3_derive_3 ?_
      refine x_icmp_ge (pc := 4) (t := 32) dX3_derive_4 (by decide) ⟨by omega, by omega⟩ ⟨by omega, by omega⟩ (fun c4 => ?_) (fun c4 => ?_)
      · exfalso; omega
      · refine x_aload_n (pc := 7) dX3_derive_7 rfl rfl ?_
        refine x_getr (pc := 8) (b := c + 8) fX3_20 dX3_derive_8 hs.1 rfl rfl ?_
        refine x_iload_n (pc := 11) dX3_derive_11 rfl rfl ?_
        refine x_iconst (pc := 12) dX3_derive_12 ?_
        refine x_isub (pc := 13) dX3_derive_13 ?_
        refine x_iload_n (pc := 14) dX3_derive_14 rfl rfl ?_
        refine x_i2l (pc := 15) ⟨by omega, by omega⟩ dX3_derive_15 ?_
        refine x_aload_n (pc := 16) dX3_derive_16 rfl rfl ?_
        refine x_getr (pc := 17) (b := c + 1) fX3_11 dX3_derive_17 hs.1 rfl rfl ?_
        refine x_iconst (pc := 20) dX3_derive_20 ?_
        refine x_aaldR (pc := 21) (c + 2) dX3_derive_21 hs.2.1 (by omega) (by omega) rfl ?_
        refine x_iload_n (pc := 22) dX3_derive_22 rfl rfl ?_
        refine x_lald (pc := 23) dX3_derive_23 (hs.row (k := 0) (by omega)) (by omega) (by omega) (fun r23a r23b => ?_)
        rw [e1]
        refine x_lmul (pc := 24) dX3_derive_24 ?_
        rw [e2]
        refine x_last (pc := 25) dX3_derive_25 hs.2.2.2.2.2.2.2.2 (by omega) (by omega) (by omega) ⟨by omega, by omega⟩ ?_
        refine x_iinc (pc := 26) dX3_derive_26 rfl (by decide) (L' := [(1, _), (0, _)]) rfl ?_
        refine x_goto (pc := 29) (t := 2) dX3_derive_29 (by decide) ?_
        rw [e4]
        refine ih (j + 1) _ _ (by omega) (by omega) (hF.ms (by omega)) (fun i hi => ?_)
        by_cases e : i = j
        · rw [e, mset_same]
        · rw [mset_nei (by omega)]
          exact hw i (by omega)
  refine x_iconst (pc := 0) dX3_derive_0 ?_
  refine x_istore_n (pc := 1) dX3_derive_1 rfl (by decide) (L' := [(1, _), (0, _)]) rfl ?_
  exact loop 4 0 _ _ rfl rfl Frm.rf (fun i hi => by omega)
