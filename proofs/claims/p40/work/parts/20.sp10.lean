/-! Specs of the making of sign rows, fourth part: divide, take, build, descend, countedBetween. -/
theorem addF_le {s : RS} {w : Nat → Int} (h : s.1 ≤ 5) : (addF s w).2.1 ≤ 5 ∧ ((addF s w).1 = 1 → (addF s w).2.1 = s.1 + 1) ∧ 0 ≤ (addF s w).1 ∧ (addF s w).1 ≤ 1 := by
  unfold addF
  split
  · exact ⟨h, fun q => by simp at q, Int.le_refl 0, Int.zero_le_ofNat 1⟩
  · exact ⟨by dsimp only; omega, fun _ => rfl, Int.zero_le_ofNat 1, Int.le_refl 1⟩
theorem bldL_le : ∀ (n : Nat) (s : RS), s.1 ≤ 5 → (bldL n s).1 ≤ 5
  | 0, _, h => h
  | n + 1, s, h => by
    have h1 := addF_le (w := divF s) h
    simp only [bldL]
    split
    · exact bldL_le n _ h1.1
    · exact h1.1
theorem buildF_le (w : Nat → Int) : (buildF w).1 ≤ 5 := by
  have h1 : (bld1 w).2.1 ≤ 5 := (addF_le (by decide)).1
  have h2 : (bld2 w).2.1 ≤ 5 := (addF_le h1).1
  unfold buildF
  split
  · split
    · exact bldL_le _ _ h2
    · exact h2
  · exact h1
/-- as often as a root counts -/
def cntF (a b : Int) : Nat → RS → Int
  | 0, _ => 0
  | n + 1, s => if s.1 ≤ 1 then 0 else dBet s a b + cntF a b n (buildF (s.2.1 (s.1 - 1)))
def cntOK : Nat → RS → Prop
  | 0, _ => True
  | n + 1, s => 1 < s.1 → WfR s ∧ buildOK (s.2.1 (s.1 - 1)) ∧ cntOK n (buildF (s.2.1 (s.1 - 1)))
theorem dBet_rng (s : RS) (a b : Int) (h : s.1 ≤ 5) : -5 ≤ dBet s a b ∧ dBet s a b ≤ 5 := by
  have h1 := cUp_rng s a 0
  have h2 := cUp_rng s b 0
  unfold dBet
  split <;> omega
theorem Rw.buildW {s : RS} {M M2 : Mem} {c : Nat} (h : Rw s M c) (hn : s.1 ≤ 5) (hF : Frm (c + 8) (c + 9) M M2) : Rw s M2 c := h.w hn hF (by omega)

set_option maxRecDepth 100000 in
theorem sp_X3_divide {g : GG} {lay : Lay} {M : Mem} {K : KK} {c : Nat} {s : RS} (hs : SrL lay c) (hb0 : g.2.1 ≤ c) (hR : Rw s M c) (h2 : 2 ≤ s.1) (h5 : s.1 ≤ 5) (hd : divOK s) (k : ∀ M2, Frm (c + 8) (c + 9) M M2 → redOK (divF s) → (∀ i, i < 5 → M2 (c + 8) i = divF s i) → K (.inl none) lay M2) : X g m_X3_divide 0 0 lay M 0 [(0, vR c)] [] K := by
  have hn := hR.1
  obtain ⟨d1, rr1⟩ := hR.2 (s.1 - 1) (by omega)
  obtain ⟨d2, rr2⟩ := hR.2 (s.1 - 2) (by omega)
  obtain ⟨l4, h4, hd⟩ := hd
  unfold divF at k
  generalize he : s.2.1 (s.1 - 1) = e at *
  generalize hlow : s.2.2 (s.1 - 1) = low at *
  generalize hhigh : s.2.2 (s.1 - 2) = high at *
  generalize hf : s.2.1 (s.1 - 2) = f at *
  obtain ⟨W, hW⟩ : ∃ W, W = divL e low (high + 1 - low) high f := ⟨_, rfl⟩
  rw [← hW] at k
  have neg : redOK W → ∀ (d j : Nat) (y : Int) (M1 : Mem), j + d = 5 → y = j → Frm (c + 8) (c + 9) M M1 → (∀ i, i < 5 → M1 (c + 8) i = if i < j then - W i else W i) → X g m_X3_divide 0 0 lay M1 94 [(3, vI y), (2, vI low), (1, vR (c + 2 + (s.1 - 1))), (0, vR c)] [] K := by
    intro hok d
    induction d with
    | zero =>
      intro j y M1 hj hy hF hw
      refine x_iload_n (pc := 94) dX3_divide_94 rfl rfl ?_
      refine x_iconst (pc := 95) dX3_divide_95 ?_
      refine x_icmp_ge (pc := 96) (t := 118) dX3_divide_96 (by decide) ⟨by omega, by omega⟩ ⟨by omega, by omega⟩ (fun c96 => ?_) (fun c96 => ?_)
      · refine x_vret (pc := 118) dX3_divide_118 rfl (by decide) (by decide) ?_
        refine k _ hF (fun i hi => ?_) (fun i hi => ?_)
        · have := hok i hi
          show -9223372036854775807 ≤ - W i ∧ - W i ≤ 9223372036854775807
          omega
        · rw [hw i hi, if_pos (by omega)]
      · exfalso; omega
    | succ d ih =>
      intro j y M1 hj hy hF hw
      subst hy
      have e1 := hw j (by omega)
      rw [if_neg (by omega)] at e1
      have e2 := hok j (by omega)
      refine x_iload_n (pc := 94) dX3_divide_94 rfl rfl ?_
      refine x_iconst (pc := 95) dX3_divide_95 ?_
      refine x_icmp_ge (pc := 96) (t := 118) dX3_divide_96 (by decide) ⟨by omega, by omega⟩ ⟨by omega, by omega⟩ (fun c96 => ?_) (fun c96 => ?_)
      · exfalso; omega
      · refine x_aload_n (pc := 99) dX3_divide_99 rfl rfl ?_
        refine x_getr (pc := 100) (b := c + 8) fX3_20 dX3_divide_100 hs.1 rfl rfl ?_
        refine x_iload_n (pc := 103) dX3_divide_103 rfl rfl ?_
        refine x_aload_n (pc := 104) dX3_divide_104 rfl rfl ?_
        refine x_getr (pc := 105) (b := c + 8) fX3_20 dX3_divide_105 hs.1 rfl rfl ?_
        refine x_iload_n (pc := 108) dX3_divide_108 rfl rfl ?_
        refine x_lald (pc := 109) dX3_divide_109 hs.2.2.2.2.2.2.2.2 (by omega) (by omega) (fun r109a r109b => ?_)
        rw [Int.toNat_natCast, e1]
        refine x_lneg (pc := 110) dX3_divide_110 ?_
        refine x_last (pc := 111) dX3_divide_111 hs.2.2.2.2.2.2.2.2 (by omega) (by omega) (by omega) ⟨by omega, by omega⟩ ?_
        refine x_iinc (pc := 112) dX3_divide_112 rfl (by decide) (L' := [(3, _), (2, _), (1, _), (0, _)]) rfl ?_
        refine x_goto (pc := 115) (t := 94) dX3_divide_115 (by decide) ?_
        refine X.loc [0, 1, 2, 3] (L' := [(3, _), (2, _), (1, _), (0, _)]) rfl ?_
        refine ih (j + 1) _ _ (by omega) (by omega) (hF.ms (by omega)) (fun i hi => ?_)
        by_cases a1 : i = j
        · rw [a1, Int.toNat_natCast, mset_same, if_pos (by omega)]
        · rw [mset_nei (by omega), hw i hi]
          by_cases a2 : i < j
          · rw [if_pos a2, if_pos (by omega)]
          · rw [if_neg a2, if_neg (by omega)]
  have loop : ∀ (n top : Nat) (y : Int) (w : Nat → Int) (M1 : Mem), top = y.toNat → y < 5 → -1 ≤ y → (n : Int) = max 0 (y + 1 - low) → Frm (c + 8) (c + 9) M M1 → (∀ i, i < 5 → M1 (c + 8) i = w i) → divLOK e low n top w → divL e low n top w = W → X g m_X3_divide 0 0 lay M1 74 [(3, vI y), (2, vI low), (1, vR (c + 2 + (s.1 - 1))), (0, vR c)] [] K := by
    intro n
    induction n with
    | zero =>
      intro top y w M1 ht hy5 hy1 hn hF hw hok hres
      simp only [divL] at hres
      subst hres
      refine x_iload_n (pc := 74) dX3_divide_74 rfl rfl ?_
      refine x_iload_n (pc := 75) dX3_divide_75 rfl rfl ?_
      refine x_icmp_lt (pc := 76) (t := 92) dX3_divide_76 (by decide) ⟨by omega, by omega⟩ ⟨by omega, by omega⟩ (fun c76 => ?_) (fun c76 => ?_)
      · refine x_iconst (pc := 92) dX3_divide_92 ?_
        refine x_istore_n (pc := 93) dX3_divide_93 rfl (by decide) (L' := [(3, _), (2, _), (1, _), (0, _)]) rfl ?_
        refine X.loc [0, 1, 2, 3] (L' := [(3, _), (2, _), (1, _), (0, _)]) rfl ?_
        exact neg hok 5 0 _ _ rfl rfl hF (fun i hi => by rw [hw i hi, if_neg (by omega)])
      · exfalso; omega
    | succ n ih =>
      intro top y w M1 ht hy5 hy1 hn hF hw hok hres
      simp only [divL] at hres
      obtain ⟨ok1, ok2⟩ := hok
      have hy : y = (top : Int) := by omega
      subst hy
      refine x_iload_n (pc := 74) dX3_divide_74 rfl rfl ?_
      refine x_iload_n (pc := 75) dX3_divide_75 rfl rfl ?_
      refine x_icmp_lt (pc := 76) (t := 92) dX3_divide_76 (by decide) ⟨by omega, by omega⟩ ⟨by omega, by omega⟩ (fun c76 => ?_) (fun c76 => ?_)
      · exfalso; omega
      · refine x_aload_n (pc := 79) dX3_divide_79 rfl rfl ?_
        refine x_iload_n (pc := 80) dX3_divide_80 rfl rfl ?_
        refine x_aload_n (pc := 81) dX3_divide_81 rfl rfl ?_
        refine x_iload_n (pc := 82) dX3_divide_82 rfl rfl ?_
        refine x_callV (pc := 83) [_, _, _] rfl kX3_50 dX3_divide_83 hs.1 rfl rfl (by decide) (Nat.le_of_ble_eq_true rfl) (Nat.le_of_ble_eq_true rfl) (by decide) ?_
        refine sp_X3_cancel (q := s.1 - 1) (w := w) (e := e) hs hb0 hw (by omega) (fun i hi => by rw [hF _ _ (by omega)]; exact rr1 i hi) (by omega) (by omega) ok1 (fun M2 hF2 hw2 => ?_)
        refine ⟨_, rfl, ?_⟩
        refine x_iinc (pc := 86) dX3_divide_86 rfl (by decide) (L' := [(3, _), (2, _), (1, _), (0, _)]) rfl ?_
        refine x_goto (pc := 89) (t := 74) dX3_divide_89 (by decide) ?_
        refine X.loc [0, 1, 2, 3] (L' := [(3, _), (2, _), (1, _), (0, _)]) rfl ?_
        exact ih (top - 1) _ _ _ (by omega) (by omega) (by omega) (by omega) (hF.trans hF2) hw2 ok2 hres
  refine x_aload_n (pc := 0) dX3_divide_0 rfl rfl ?_
  refine x_geti (pc := 1) fX3_24 dX3_divide_1 hs.1 rfl (fun r1a r1b => ?_)
  refine x_iconst (pc := 4) dX3_divide_4 ?_
  refine x_icmp_lt (pc := 5) (t := 16) dX3_divide_5 (by decide) ⟨by omega, by omega⟩ ⟨by omega, by omega⟩ (fun c5 => ?_) (fun c5 => ?_)
  · exfalso; omega
  · refine x_aload_n (pc := 8) dX3_divide_8 rfl rfl ?_
    refine x_geti (pc := 9) fX3_24 dX3_divide_9 hs.1 rfl (fun r9a r9b => ?_)
    refine x_iconst (pc := 12) dX3_divide_12 ?_
    refine x_icmp_le (pc := 13) (t := 17) dX3_divide_13 (by decide) ⟨by omega, by omega⟩ ⟨by omega, by omega⟩ (fun c13 => ?_) (fun c13 => ?_)
    · refine x_aload_n (pc := 17) dX3_divide_17 rfl rfl ?_
      refine x_getr (pc := 18) (b := c + 1) fX3_11 dX3_divide_18 hs.1 rfl rfl ?_
      refine x_aload_n (pc := 21) dX3_divide_21 rfl rfl ?_
      refine x_geti (pc := 22) fX3_24 dX3_divide_22 hs.1 rfl (fun r22a r22b => ?_)
      rw [hn]
      refine x_iconst (pc := 25) dX3_divide_25 ?_
      refine x_isub (pc := 26) dX3_divide_26 ?_
      refine x_aaldR (pc := 27) (c + 2 + (s.1 - 1)) dX3_divide_27 hs.2.1 (by omega) (by omega) (by rw [show ((s.1 : Int) - 1).toNat = s.1 - 1 by omega]) ?_
      refine x_astore_n (pc := 28) dX3_divide_28 rfl (by decide) (L' := [(1, _), (0, _)]) rfl ?_
      refine x_aload_n (pc := 29) dX3_divide_29 rfl rfl ?_
      refine x_getr (pc := 30) (b := c + 7) fX3_16 dX3_divide_30 hs.1 rfl rfl ?_
      refine x_aload_n (pc := 33) dX3_divide_33 rfl rfl ?_
      refine x_geti (pc := 34) fX3_24 dX3_divide_34 hs.1 rfl (fun r34a r34b => ?_)
      rw [hn]
      refine x_iconst (pc := 37) dX3_divide_37 ?_
      refine x_isub (pc := 38) dX3_divide_38 ?_
      refine x_iald (pc := 39) dX3_divide_39 hs.2.2.2.2.2.2.2.1 (by omega) (by omega) (fun r39a r39b => ?_)
      rw [show ((s.1 : Int) - 1).toNat = s.1 - 1 by omega, d1]
      refine x_istore_n (pc := 40) dX3_divide_40 rfl (by decide) (L' := [(2, _), (1, _), (0, _)]) rfl ?_
      refine x_aload_n (pc := 41) dX3_divide_41 rfl rfl ?_
      refine x_getr (pc := 42) (b := c + 1) fX3_11 dX3_divide_42 hs.1 rfl rfl ?_
      refine x_aload_n (pc := 45) dX3_divide_45 rfl rfl ?_
      refine x_geti (pc := 46) fX3_24 dX3_divide_46 hs.1 rfl (fun r46a r46b => ?_)
      rw [hn]
      refine x_iconst (pc := 49) dX3_divide_49 ?_
      refine x_isub (pc := 50) dX3_divide_50 ?_
      refine x_aaldR (pc := 51) (c + 2 + (s.1 - 2)) dX3_divide_51 hs.2.1 (by omega) (by omega) (by rw [show ((s.1 : Int) - 2).toNat = s.1 - 2 by omega]) ?_
      refine x_iconst (pc := 52) dX3_divide_52 ?_
      refine x_aload_n (pc := 53) dX3_divide_53 rfl rfl ?_
      refine x_getr (pc := 54) (b := c + 8) fX3_20 dX3_divide_54 hs.1 rfl rfl ?_
      refine x_iconst (pc := 57) dX3_divide_57 ?_
      refine x_iconst (pc := 58) dX3_divide_58 ?_
      refine x_copy (pc := 59) kcX3_28 dX3_divide_59 (hs.row (by omega)) hs.2.2.2.2.2.2.2.2 (by omega) (by decide) (by omega) (by omega) (by omega) (by omega) (by omega) (by decide) (Nat.le_of_ble_eq_true rfl) (by decide) ?_
      refine x_aload_n (pc := 62) dX3_divide_62 rfl rfl ?_
      refine x_getr (pc := 63) (b := c + 7) fX3_16 dX3_divide_63 hs.1 rfl rfl ?_
      refine x_aload_n (pc := 66) dX3_divide_66 rfl rfl ?_
      refine x_geti (pc := 67) fX3_24 dX3_divide_67 hs.1 rfl (fun r67a r67b => ?_)
      try simp (disch := omega) only [mset_same, mset_nea, mset_nei, mcopy_nea, mcopy_in, mcopy_out, Int.reduceToNat, Int.toNat_natCast, Nat.zero_add, Nat.sub_zero] at r67a r67b ⊢
      rw [hn]
      refine x_iconst (pc := 70) dX3_divide_70 ?_
      refine x_isub (pc := 71) dX3_divide_71 ?_
      refine x_iald (pc := 72) dX3_divide_72 hs.2.2.2.2.2.2.2.1 (by omega) (by omega) (fun r72a r72b => ?_)
      try simp (disch := omega) only [mset_same, mset_nea, mset_nei, mcopy_nea, mcopy_in, mcopy_out, Int.reduceToNat, Int.toNat_natCast, Nat.zero_add, Nat.sub_zero] at r72a r72b ⊢
      rw [show ((s.1 : Int) - 2).toNat = s.1 - 2 by omega, d2]
      refine x_istore_n (pc := 73) dX3_divide_73 rfl (by decide) (L' := [(3, _), (2, _), (1, _), (0, _)]) rfl ?_
      refine X.loc [0, 1, 2, 3] (L' := [(3, _), (2, _), (1, _), (0, _)]) rfl ?_
      refine loop (high + 1 - low) high _ f _ (by omega) (by omega) (by omega) (by omega) ?_ ?_ hd hW.symm
      · intro a j ha
        rw [mcopy_nea (by omega)]
      · intro i hi
        rw [mcopy_in (by omega) (by omega), ← rr2 i hi]
        simp
    · exfalso; omega
set_option maxRecDepth 100000 in
theorem sp_X3_take {g : GG} {lay : Lay} {M : Mem} {K : KK} {c a : Nat} {rf : Nat → Option Nat} {w : Nat → Int} (hs : SrL lay c) (hb0 : g.2.1 ≤ c) (ha : lay.1 a = some (1, 5, rf)) (hac : ¬ a = c + 8) (hw : ∀ i, i < 5 → M a i = w i) (k : ∀ M2, Frm (c + 8) (c + 9) M M2 → (∀ i, i < 5 → M2 (c + 8) i = w i) → K (.inl none) lay M2) : X g m_X3_take 0 0 lay M 0 [(0, vR c), (1, vR a)] [] K := by
  have loop : ∀ (d j : Nat) (y : Int) (M1 : Mem), j + d = 5 → y = j → Frm (c + 8) (c + 9) M M1 → (∀ i, i < j → M1 (c + 8) i = w i) → X g m_X3_take 0 0 lay M1 2 [(2, vI y), (0, vR c), (1, vR a)] [] K := by
    intro d
    induction d with
    | zero =>
      intro j y M1 hj hy hF hw1
      refine x_iload_n (pc := 2) dX3_take_2 rfl rfl ?_
      refine x_iconst (pc := 3) dX3_take_3 ?_
      refine x_icmp_ge (pc := 4) (t := 29) dX3_take_4 (by decide) ⟨by omega, by omega⟩ ⟨by omega, by omega⟩ (fun c4 => ?_) (fun c4 => ?_)
      · refine x_vret (pc := 29) dX3_take_29 rfl (by decide) (by decide) ?_
        exact k _ hF (fun i hi => hw1 i (by omega))
      · exfalso; omega
    | succ d ih =>
      intro j y M1 hj hy hF hw1
      subst hy
      have e1 : M1 a j = w j := by rw [hF _ _ (by omega)]; exact hw j (by omega)
      refine x_iload_n (pc := 2) dX3_take_2 rfl rfl ?_
      refine x_iconst (pc := 3) dX3_take_3 ?_
      refine x_icmp_ge (pc := 4) (t := 29) dX3_take_4 (by decide) ⟨by omega, by omega⟩ ⟨by omega, by omega⟩ (fun c4 => ?_) (fun c4 => ?_)
      · exfalso; omega
      · refine x_iload_n (pc := 7) dX3_take_7 rfl rfl ?_
        refine x_aload_n (pc := 8) dX3_take_8 rfl rfl ?_
        refine x_alen (pc := 9) dX3_take_9 ha (fun r9a => ?_)
        refine x_icmp_ge (pc := 10) (t := 29) dX3_take_10 (by decide) ⟨by omega, by omega⟩ ⟨by omega, by omega⟩ (fun c10 => ?_) (fun c10 => ?_)
        · exfalso; omega
        · refine x_aload_n (pc := 13) dX3_take_13 rfl rfl ?_
          refine x_getr (pc := 14) (b := c + 8) fX3_20 dX3_take_14 hs.1 rfl rfl ?_
          refine x_iload_n (pc := 17) dX3_take_17 rfl rfl ?_
          refine x_aload_n (pc := 18) dX3_take_18 rfl rfl ?_
          refine x_iload_n (pc := 19) dX3_take_19 rfl rfl ?_
          refine x_iald (pc := 20) dX3_take_20 ha (by omega) (by omega) (fun r20a r20b => ?_)
          rw [Int.toNat_natCast, e1] at r20a r20b ⊢
          refine x_i2l (pc := 21) ⟨by omega, by omega⟩ dX3_take_21 ?_
          refine x_last (pc := 22) dX3_take_22 hs.2.2.2.2.2.2.2.2 (by omega) (by omega) (by omega) ⟨by omega, by omega⟩ ?_
          refine x_iinc (pc := 23) dX3_take_23 rfl (by decide) (L' := [(2, _), (0, _), (1, _)]) rfl ?_
          refine x_goto (pc := 26) (t := 2) dX3_take_26 (by decide) ?_
          refine X.loc [0, 1, 2] (L' := [(2, _), (0, _), (1, _)]) rfl ?_
          refine ih (j + 1) _ _ (by omega) (by omega) (hF.ms (by omega)) (fun i hi => ?_)
          by_cases a1 : i = j
          · rw [a1, Int.toNat_natCast, mset_same]
          · rw [mset_nei (by omega)]
            exact hw1 i (by omega)
  refine x_iconst (pc := 0) dX3_take_0 ?_
  refine x_istore_n (pc := 1) dX3_take_1 rfl (by decide) (L' := [(2, _), (0, _), (1, _)]) rfl ?_
  exact loop 5 0 _ _ rfl rfl Frm.rf (fun i hi => by omega)
set_option maxRecDepth 100000 in
theorem sp_X3_build {g : GG} {lay : Lay} {M : Mem} {K : KK} {c : Nat} {w : Nat → Int} (hs : SrL lay c) (hb0 : g.2.1 ≤ c) (hw : ∀ i, i < 5 → M (c + 8) i = w i) (hok : buildOK w) (k : ∀ M2, Frm c (c + 9) M M2 → Rw (buildF w) M2 c → K (.inl none) lay M2) : X g m_X3_build 0 0 lay M 0 [(0, vR c)] [] K := by
  obtain ⟨ok0, ok1⟩ := hok
  obtain ⟨B, hB⟩ : ∃ B, B = buildF w := ⟨_, rfl⟩
  rw [← hB] at k
  unfold buildF at hB
  have loop : ∀ (n : Nat) (s : RS) (y b : Int) (M1 : Mem), y + n = 5 → 2 ≤ y → 2 ≤ s.1 ∨ b = 0 → s.1 ≤ 5 → (b = 0 → B = s) → (¬ b = 0 → bldLOK n s ∧ B = bldL n s) → i32 b → Frm c (c + 9) M M1 → Rw s M1 c → X g m_X3_build 0 0 lay M1 25 [(2, vI y), (1, vI b), (0, vR c)] [] K := by
    intro n
    induction n with
    | zero =>
      intro s y b M1 hy hy2 hs2 hs5 hb0' hb1 hbi hF hR
      simp only [bldL] at hb1
      obtain ⟨hb2, hb3⟩ := hbi
      refine x_iload_n (pc := 25) dX3_build_25 rfl rfl ?_
      refine x_if_eq (pc := 26) (t := 49) dX3_build_26 (by decide) ⟨by omega, by omega⟩ (fun c26 => ?_) (fun c26 => ?_)
      · refine x_vret (pc := 49) dX3_build_49 rfl (by decide) (by decide) ?_
        have e : B = s := by
          first
          | exact hb0' (by omega)
          | exact (hb1 (by omega)).2
        rw [e] at k
        exact k _ hF hR
      · refine x_iload_n (pc := 29) dX3_build_29 rfl rfl ?_
        refine x_iconst (pc := 30) dX3_build_30 ?_
        refine x_icmp_ge (pc := 31) (t := 49) dX3_build_31 (by decide) ⟨by omega, by omega⟩ ⟨by omega, by omega⟩ (fun c31 => ?_) (fun c31 => ?_)
        · refine x_vret (pc := 49) dX3_build_49 rfl (by decide) (by decide) ?_
          have e : B = s := by
            first
            | exact hb0' (by omega)
            | exact (hb1 (by omega)).2
          rw [e] at k
          exact k _ hF hR
        · exfalso; omega
    | succ n ih =>
      intro s y b M1 hy hy2 hs2 hs5 hb0' hb1 hbi hF hR
      simp only [bldL, bldLOK] at hb1
      obtain ⟨hb2, hb3⟩ := hbi
      refine x_iload_n (pc := 25) dX3_build_25 rfl rfl ?_
      refine x_if_eq (pc := 26) (t := 49) dX3_build_26 (by decide) ⟨by omega, by omega⟩ (fun c26 => ?_) (fun c26 => ?_)
      · refine x_vret (pc := 49) dX3_build_49 rfl (by decide) (by decide) ?_
        rw [hb0' (by omega)] at k
        exact k _ hF hR
      · refine x_iload_n (pc := 29) dX3_build_29 rfl rfl ?_
        refine x_iconst (pc := 30) dX3_build_30 ?_
        refine x_icmp_ge (pc := 31) (t := 49) dX3_build_31 (by decide) ⟨by omega, by omega⟩ ⟨by omega, by omega⟩ (fun c31 => ?_) (fun c31 => ?_)
        · exfalso; omega
        · refine x_aload_n (pc := 34) dX3_build_34 rfl rfl ?_
          refine x_callV (pc := 35) [] rfl kX3_44 dX3_build_35 hs.1 rfl rfl (by decide) (Nat.le_of_ble_eq_true rfl) (Nat.le_of_ble_eq_true rfl) (by decide) ?_
          refine sp_X3_divide hs hb0 hR (by omega) hs5 (hb1 (by omega)).1.1 (fun M2 hF2 hro hw2 => ?_)
          refine ⟨_, rfl, ?_⟩
          refine x_aload_n (pc := 38) dX3_build_38 rfl rfl ?_
          refine x_callV (pc := 39) [] rfl kX3_37 dX3_build_39 hs.1 rfl rfl (by decide) (Nat.le_of_ble_eq_true rfl) (Nat.le_of_ble_eq_true rfl) (by decide) ?_
          have ha := addF_le (w := divF s) hs5
          refine sp_X3_addWork hs hb0 hw2 hro (hR.buildW hs5 hF2) hs5 (fun M3 hF3 hR3 => ?_)
          refine ⟨_, rfl, ?_⟩
          refine x_istore_n (pc := 42) dX3_build_42 rfl (by decide) (L' := [(1, _), (2, _), (0, _)]) rfl ?_
          refine x_iinc (pc := 43) dX3_build_43 rfl (by decide) (L' := [(2, _), (1, _), (0, _)]) rfl ?_
          refine x_goto (pc := 46) (t := 25) dX3_build_46 (by decide) ?_
          refine X.loc [0, 1, 2] (L' := [(2, _), (1, _), (0, _)]) rfl ?_
          obtain ⟨⟨q1, q2⟩, q3⟩ := hb1 (by omega)
          refine ih _ _ _ _ (by omega) (by omega) ?_ ha.1 (fun z => ?_) (fun z => ?_) ⟨by omega, by omega⟩ (hF.trans ((hF2.wide (by omega) (by omega)).trans hF3)) hR3
          · have := ha.2.1
            omega
          · rw [q3, if_neg (by omega)]
          · have z1 : (addF s (divF s)).1 = 1 := by omega
            rw [if_pos z1] at q3
            exact ⟨q2 z1, q3⟩
  refine x_aload_n (pc := 0) dX3_build_0 rfl rfl ?_
  refine x_iconst (pc := 1) dX3_build_1 ?_
  refine x_puti (pc := 2) fnX3_24 dX3_build_2 hs.1 (by omega) rfl ⟨by omega, by omega⟩ ?_
  refine x_aload_n (pc := 5) dX3_build_5 rfl rfl ?_
  refine x_callV (pc := 6) [] rfl kX3_37 dX3_build_6 hs.1 rfl rfl (by decide) (Nat.le_of_ble_eq_true rfl) (Nat.le_of_ble_eq_true rfl) (by decide) ?_
  have g1 := addF_le (s := (0, fun _ _ => 0, fun _ => 0)) (w := w) (by decide)
  refine sp_X3_addWork (s := (0, fun _ _ => 0, fun _ => 0)) hs hb0 (w := w) (fun i hi => by rw [mset_nea (by omega)]; exact hw i hi) ok0 ⟨by rw [mset_same]; rfl, fun q hq => absurd hq (Nat.not_lt_zero _)⟩ (by decide) (fun M1 hF1 hR1 => ?_)
  have hF1' := (Frm.rf.ms (M := M) (a := c) (i := 3) (v := 0) (lo := c) (hi := c + 9) (by omega)).trans hF1
  rw [show addF (0, fun _ _ => 0, fun _ => 0) w = bld1 w from rfl] at g1 hR1 ⊢
  refine ⟨_, rfl, ?_⟩
  refine x_istore_n (pc := 9) dX3_build_9 rfl (by decide) (L' := [(1, _), (0, _)]) rfl ?_
  refine x_iload_n (pc := 10) dX3_build_10 rfl rfl ?_
  refine x_if_eq (pc := 11) (t := 23) dX3_build_11 (by decide) ⟨by omega, by omega⟩ (fun c11 => ?_) (fun c11 => ?_)
  · refine x_iconst (pc := 23) dX3_build_23 ?_
    refine x_istore_n (pc := 24) dX3_build_24 rfl (by decide) (L' := [(2, _), (1, _), (0, _)]) rfl ?_
    refine X.loc [0, 1, 2] (L' := [(2, _), (1, _), (0, _)]) rfl ?_
    first
    | (rw [if_pos h1] at hB
       refine loop 3 (bld2 w).2 _ _ _ rfl (by decide) ?_ g3.1 (fun z => ?_) (fun z => ?_) ⟨by omega, by omega⟩ (hF1'.trans ((hF2.wide (by omega) (by omega)).trans hF3)) hR3
       · have := g3.2.1
         omega
       · rw [hB, if_neg (by omega)]
       · have z1 : (bld2 w).1 = 1 := by omega
         rw [if_pos z1] at hB
         exact ⟨ok3 z1, hB⟩)
    | (rw [if_neg (by omega)] at hB
       exact loop 3 (bld1 w).2 _ _ _ rfl (by decide) (Or.inr (by omega)) g1.1 (fun z => hB) (fun z => absurd (by omega) z) ⟨by omega, by omega⟩ hF1' hR1)
  · refine x_aload_n (pc := 14) dX3_build_14 rfl rfl ?_
    refine x_callV (pc := 15) [] rfl kX3_41 dX3_build_15 hs.1 rfl rfl (by decide) (Nat.le_of_ble_eq_true rfl) (Nat.le_of_ble_eq_true rfl) (by decide) ?_
    have h1 : (bld1 w).1 = 1 := by omega
    obtain ⟨ok2, ok3⟩ := ok1 h1
    have g2 := g1.2.1 h1
    refine sp_X3_derive hs hb0 (hR1.2 0 (by simp only [g2]; omega)).2 ok2 (fun M2 hF2 hw2 => ?_)
    refine ⟨_, rfl, ?_⟩
    refine x_aload_n (pc := 18) dX3_build_18 rfl rfl ?_
    refine x_callV (pc := 19) [] rfl kX3_37 dX3_build_19 hs.1 rfl rfl (by decide) (Nat.le_of_ble_eq_true rfl) (Nat.le_of_ble_eq_true rfl) (by decide) ?_
    have g3 := addF_le (s := (bld1 w).2) (w := derF ((bld1 w).2.2.1 0)) g1.1
    refine sp_X3_addWork hs hb0 hw2 ok2 (hR1.buildW g1.1 hF2) g1.1 (fun M3 hF3 hR3 => ?_)
    rw [show addF (bld1 w).2 (derF ((bld1 w).2.2.1 0)) = bld2 w from rfl] at g3 hR3 ⊢
    refine ⟨_, rfl, ?_⟩
    refine x_istore_n (pc := 22) dX3_build_22 rfl (by decide) (L' := [(1, _), (0, _)]) rfl ?_
    refine x_iconst (pc := 23) dX3_build_23 ?_
    refine x_istore_n (pc := 24) dX3_build_24 rfl (by decide) (L' := [(2, _), (1, _), (0, _)]) rfl ?_
    refine X.loc [0, 1, 2] (L' := [(2, _), (1, _), (0, _)]) rfl ?_
    first
    | (rw [if_pos h1] at hB
       refine loop 3 (bld2 w).2 _ _ _ rfl (by decide) ?_ g3.1 (fun z => ?_) (fun z => ?_) ⟨by omega, by omega⟩ (hF1'.trans ((hF2.wide (by omega) (by omega)).trans hF3)) hR3
       · have := g3.2.1
         omega
       · rw [hB, if_neg (by omega)]
       · have z1 : (bld2 w).1 = 1 := by omega
         rw [if_pos z1] at hB
         exact ⟨ok3 z1, hB⟩)
    | (rw [if_neg (by omega)] at hB
       exact loop 3 (bld1 w).2 _ _ _ rfl (by decide) (Or.inr (by omega)) g1.1 (fun z => hB) (fun z => absurd (by omega) z) ⟨by omega, by omega⟩ hF1' hR1)
set_option maxRecDepth 100000 in
theorem sp_X3_descend {g : GG} {lay : Lay} {M : Mem} {K : KK} {c : Nat} {s : RS} (hs : SrL lay c) (hb0 : g.2.1 ≤ c) (hR : Rw s M c) (h1 : 1 ≤ s.1) (h5 : s.1 ≤ 5) (hok : buildOK (s.2.1 (s.1 - 1))) (k : ∀ M2, Frm c (c + 9) M M2 → Rw (buildF (s.2.1 (s.1 - 1))) M2 c → K (.inl none) lay M2) : X g m_X3_descend 0 0 lay M 0 [(0, vR c)] [] K := by
  have hn := hR.1
  obtain ⟨d1, rr1⟩ := hR.2 (s.1 - 1) (by omega)
  refine x_aload_n (pc := 0) dX3_descend_0 rfl rfl ?_
  refine x_geti (pc := 1) fX3_24 dX3_descend_1 hs.1 rfl (fun r1a r1b => ?_)
  refine x_if_le (pc := 4) (t := 40) dX3_descend_4 (by decide) ⟨by omega, by omega⟩ (fun c4 => ?_) (fun c4 => ?_)
  · exfalso; omega
  · refine x_aload_n (pc := 7) dX3_descend_7 rfl rfl ?_
    refine x_geti (pc := 8) fX3_24 dX3_descend_8 hs.1 rfl (fun r8a r8b => ?_)
    refine x_iconst (pc := 11) dX3_descend_11 ?_
    refine x_icmp_gt (pc := 12) (t := 40) dX3_descend_12 (by decide) ⟨by omega, by omega⟩ ⟨by omega, by omega⟩ (fun c12 => ?_) (fun c12 => ?_)
    · exfalso; omega
    · refine x_aload_n (pc := 15) dX3_descend_15 rfl rfl ?_
      refine x_getr (pc := 16) (b := c + 1) fX3_11 dX3_descend_16 hs.1 rfl rfl ?_
      refine x_aload_n (pc := 19) dX3_descend_19 rfl rfl ?_
      refine x_geti (pc := 20) fX3_24 dX3_descend_20 hs.1 rfl (fun r20a r20b => ?_)
      rw [hn]
      refine x_iconst (pc := 23) dX3_descend_23 ?_
      refine x_isub (pc := 24) dX3_descend_24 ?_
      refine x_aaldR (pc := 25) (c + 2 + (s.1 - 1)) dX3_descend_25 hs.2.1 (by omega) (by omega) (by rw [show ((s.1 : Int) - 1).toNat = s.1 - 1 by omega]) ?_
      refine x_iconst (pc := 26) dX3_descend_26 ?_
      refine x_aload_n (pc := 27) dX3_descend_27 rfl rfl ?_
      refine x_getr (pc := 28) (b := c + 8) fX3_20 dX3_descend_28 hs.1 rfl rfl ?_
      refine x_iconst (pc := 31) dX3_descend_31 ?_
      refine x_iconst (pc := 32) dX3_descend_32 ?_
      refine x_copy (pc := 33) kcX3_28 dX3_descend_33 (hs.row (by omega)) hs.2.2.2.2.2.2.2.2 (by omega) (by decide) (by omega) (by omega) (by omega) (by omega) (by omega) (by decide) (Nat.le_of_ble_eq_true rfl) (by decide) ?_
      refine x_aload_n (pc := 36) dX3_descend_36 rfl rfl ?_
      refine x_callV (pc := 37) [] rfl kX3_34 dX3_descend_37 hs.1 rfl rfl (by decide) (Nat.le_of_ble_eq_true rfl) (Nat.le_of_ble_eq_true rfl) (by decide) ?_
      refine sp_X3_build (w := s.2.1 (s.1 - 1)) hs hb0 (fun i hi => ?_) hok (fun M2 hF2 hR2 => ?_)
      · rw [mcopy_in (by omega) (by omega), ← rr1 i hi]
        simp
      refine ⟨_, rfl, ?_⟩
      refine x_vret (pc := 40) dX3_descend_40 rfl (by decide) (by decide) ?_
      refine k _ (Frm.trans ?_ hF2) hR2
      intro a j ha
      rw [mcopy_nea (by omega)]
set_option maxRecDepth 100000 in
theorem sp_X3_countedBetween {g : GG} {lay : Lay} {M : Mem} {K : KK} {c : Nat} {s : RS} {a b : Int} (hs : SrL lay c) (hb0 : g.2.1 ≤ c) (hR : Rw s M c) (h5 : s.1 ≤ 5) (hok : cntOK 5 s) (ha : -1984 ≤ a ∧ a ≤ 1984) (hb : -1984 ≤ b ∧ b ≤ 1984) (k : ∀ M2, Frm c (c + 9) M M2 → K (.inl (some (vI (cntF a b 5 s)))) lay M2) : X g m_X3_countedBetween 0 0 lay M 0 [(0, vR c), (1, vI a), (2, vI b)] [] K := by
  have loop : ∀ (n : Nat) (s2 : RS) (y acc : Int) (M1 : Mem), y + n = 5 → 0 ≤ y → -(5 * y) ≤ acc → acc ≤ 5 * y → s2.1 ≤ 5 → cntOK n s2 → Frm c (c + 9) M M1 → Rw s2 M1 c → acc + cntF a b n s2 = cntF a b 5 s → X g m_X3_countedBetween 0 0 lay M1 5 [(4, vI y), (3, vI acc), (0, vR c), (1, vI a), (2, vI b)] [] K := by
    obtain ⟨T, hT⟩ : ∃ T, T = cntF a b 5 s := ⟨_, rfl⟩
    rw [← hT] at k ⊢
    intro n
    induction n with
    | zero =>
      intro s2 y acc M1 hy hy0 ha1 ha2 hs5 hk hF hR hres
      simp only [cntF] at hres
      refine x_iload (pc := 5) dX3_countedBetween_5 rfl ?_
      refine x_iconst (pc := 7) dX3_countedBetween_7 ?_
      refine x_icmp_ge (pc := 8) (t := 38) dX3_countedBetween_8 (by decide) ⟨by omega, by omega⟩ ⟨by omega, by omega⟩ (fun c8 => ?_) (fun c8 => ?_)
      · refine x_iload_n (pc := 38) dX3_countedBetween_38 rfl rfl ?_
        refine x_iret (pc := 39) dX3_countedBetween_39 rfl (by decide) (by decide) ?_
        refine kI (k _ hF) ?_
        omega
      · exfalso; omega
    | succ n ih =>
      intro s2 y acc M1 hy hy0 ha1 ha2 hs5 hk hF hR hres
      have hn := hR.1
      have hdb := dBet_rng s2 a b hs5
      simp only [cntF] at hres
      simp only [cntOK] at hk
      refine x_iload (pc := 5) dX3_countedBetween_5 rfl ?_
      refine x_iconst (pc := 7) dX3_countedBetween_7 ?_
      refine x_icmp_ge (pc := 8) (t := 38) dX3_countedBetween_8 (by decide) ⟨by omega, by omega⟩ ⟨by omega, by omega⟩ (fun c8 => ?_) (fun c8 => ?_)
      · exfalso; omega
      · refine x_aload_n (pc := 11) dX3_countedBetween_11 rfl rfl ?_
        refine x_geti (pc := 12) fX3_24 dX3_countedBetween_12 hs.1 rfl (fun r12a r12b => ?_)
        refine x_iconst (pc := 15) dX3_countedBetween_15 ?_
        refine x_icmp_le (pc := 16) (t := 38) dX3_countedBetween_16 (by decide) ⟨by omega, by omega⟩ ⟨by omega, by omega⟩ (fun c16 => ?_) (fun c16 => ?_)
        · refine x_iload_n (pc := 38) dX3_countedBetween_38 rfl rfl ?_
          refine x_iret (pc := 39) dX3_countedBetween_39 rfl (by decide) (by decide) ?_
          rw [if_pos (by omega)] at hres
          refine kI (k _ hF) ?_
          omega
        · refine x_iload_n (pc := 19) dX3_countedBetween_19 rfl rfl ?_
          refine x_aload_n (pc := 20) dX3_countedBetween_20 rfl rfl ?_
          refine x_iload_n (pc := 21) dX3_countedBetween_21 rfl rfl ?_
          refine x_iload_n (pc := 22) dX3_countedBetween_22 rfl rfl ?_
          refine x_callV (pc := 23) [_, _] rfl kX3_83 dX3_countedBetween_23 hs.1 rfl rfl (by decide) (Nat.le_of_ble_eq_true rfl) (Nat.le_of_ble_eq_true rfl) (by decide) ?_
          obtain ⟨k1, k2, k3⟩ := hk (by omega)
          refine sp_X3_distinctBetween hs hR k1 hb0 ha hb (fun M2 hF2 => ?_)
          refine ⟨_, rfl, ?_⟩
          refine x_iadd (pc := 26) dX3_countedBetween_26 ?_
          refine x_istore_n (pc := 27) dX3_countedBetween_27 rfl (by decide) (L' := [(3, _), (4, _), (0, _), (1, _), (2, _)]) rfl ?_
          refine x_aload_n (pc := 28) dX3_countedBetween_28 rfl rfl ?_
          refine x_callV (pc := 29) [] rfl kX3_86 dX3_countedBetween_29 hs.1 rfl rfl (by decide) (Nat.le_of_ble_eq_true rfl) (Nat.le_of_ble_eq_true rfl) (by decide) ?_
          refine sp_X3_descend hs hb0 (hR.buildW hs5 hF2) (by omega) hs5 k2 (fun M3 hF3 hR3 => ?_)
          refine ⟨_, rfl, ?_⟩
          refine x_iinc (pc := 32) dX3_countedBetween_32 rfl (by decide) (L' := [(4, _), (3, _), (0, _), (1, _), (2, _)]) rfl ?_
          refine x_goto (pc := 35) (t := 5) dX3_countedBetween_35 (by decide) ?_
          refine X.loc [0, 1, 2, 3, 4] (L' := [(4, _), (3, _), (0, _), (1, _), (2, _)]) rfl ?_
          rw [if_neg (by omega)] at hres
          exact ih _ _ _ _ (by omega) (by omega) (by omega) (by omega) (buildF_le _) k3 (hF.trans ((hF2.wide (by omega) (by omega)).trans hF3)) hR3 (by omega)
  refine x_iconst (pc := 0) dX3_countedBetween_0 ?_
  refine x_istore_n (pc := 1) dX3_countedBetween_1 rfl (by decide) (L' := [(3, _), (0, _), (1, _), (2, _)]) rfl ?_
  refine x_iconst (pc := 2) dX3_countedBetween_2 ?_
  refine x_istore (pc := 3) dX3_countedBetween_3 trivial (by decide) (L' := [(4, _), (3, _), (0, _), (1, _), (2, _)]) rfl ?_
  refine X.loc [0, 1, 2, 3, 4] (L' := [(4, _), (3, _), (0, _), (1, _), (2, _)]) rfl ?_
  exact loop 5 s _ _ _ rfl (by decide) (by decide) (by decide) h5 hok Frm.rf hR (Int.zero_add _)
