/-! Specs of the reader: words, numbers, marks. -/
theorem TkOK.fup {n : Nat} {v : Nat → Int} {j : Nat} {x : Int} (h : TkOK n v) (hj : j < 6 ∨ 9 < j) : TkOK n (fup v j x) := by
  unfold TkOK at *
  rw [fup_ne (by omega), fup_ne (by omega), fup_ne (by omega), fup_ne (by omega)]
  exact h
abbrev PR : Type := Int × (Nat → Int)
def failF (v : Nat → Int) (x : Int) : PR := (0, fup (fup v 3 x) 4 (v 7))
def semF (tx : Nat → Int) (n : Nat) (v : Nat → Int) : PR := if v 6 = 4 then (1, tokF tx n v) else failF v 1
def numRF (tx : Nat → Int) (n : Nat) (v : Nat → Int) (lo hi : Int) : PR := if v 6 ≠ 2 then failF v 1 else if v 9 < lo ∨ hi < v 9 then failF v 2 else (1, tokF tx n (fup v 10 (v 9)))
def minF (tx : Nat → Int) (n : Nat) (v : Nat → Int) : Nat → Int := if v 6 = 3 then tokF tx n v else v
def toldF (v w : Nat → Int) : Int := if v 6 = 3 then - w 9 else w 9
def intRF (tx : Nat → Int) (n : Nat) (v : Nat → Int) (lo hi : Int) : PR := if (minF tx n v) 6 ≠ 2 then failF (minF tx n v) 1 else if toldF v (minF tx n v) < lo ∨ hi < toldF v (minF tx n v) then failF (minF tx n v) 2 else (1, tokF tx n (fup (minF tx n v) 10 (toldF v (minF tx n v))))
def beginF (tx : Nat → Int) (n : Nat) (v : Nat → Int) : Nat → Int := tokF tx n (fup (fup (fup (fup (fup (fup v 3 0) 4 (-1)) 8 0) 5 0) 11 0) 12 0)
def setWF (tx v : Nat → Int) : Int := if isWordP tx v 1 then 0 else if isWordP tx v 2 then 1 else if isWordP tx v 3 then 2 else if isWordP tx v 4 then 3 else if isWordP tx v 5 then 4 else if isWordP tx v 6 then 6 else -1
def actWF (tx v : Nat → Int) : Int := if isWordP tx v 7 then 0 else if isWordP tx v 8 then 1 else if isWordP tx v 9 then 2 else -1
theorem TkOK.tok {tx : Nat → Int} {n : Nat} {v : Nat → Int} (h : TkOK n v) : TkOK n (tokF tx n v) := tokF_ok tx n v (by unfold TkOK at h; omega)
theorem TkOK.fail {n : Nat} {v : Nat → Int} {x : Int} (h : TkOK n v) : TkOK n (failF v x).2 := (h.fup (by omega)).fup (by omega)
theorem TkOK.min {tx : Nat → Int} {n : Nat} {v : Nat → Int} (h : TkOK n v) : TkOK n (minF tx n v) := by
  unfold minF
  split
  · exact h.tok
  · exact h
theorem TkOK.sem {tx : Nat → Int} {n : Nat} {v : Nat → Int} (h : TkOK n v) : TkOK n (semF tx n v).2 := by
  unfold semF
  split
  · exact h.tok
  · exact h.fail
theorem TkOK.num {tx : Nat → Int} {n : Nat} {v : Nat → Int} {lo hi : Int} (h : TkOK n v) : TkOK n (numRF tx n v lo hi).2 := by
  unfold numRF
  split
  · exact h.fail
  · split
    · exact h.fail
    · exact (h.fup (by omega)).tok
theorem TkOK.int {tx : Nat → Int} {n : Nat} {v : Nat → Int} {lo hi : Int} (h : TkOK n v) : TkOK n (intRF tx n v lo hi).2 := by
  unfold intRF
  split
  · exact h.min.fail
  · split
    · exact h.min.fail
    · exact (h.min.fup (by omega)).tok
theorem Rd.at {tx : Nat → Int} {n : Nat} {v : Nat → Int} {M : Mem} {c : Nat} (h : Rd tx n v M c) (j : Nat) (h1 : 2 ≤ j) (h2 : j ≤ 12) : M c j = v j := h.2.1 j h1 h2

set_option maxRecDepth 100000 in
theorem sp_X2_isWord {g : GG} {lay : Lay} {M : Mem} {K : KK} {c n : Nat} {tx v : Nat → Int} {q : Nat} (hP : RdL lay c) (hb0 : g.2.1 ≤ c) (hr : Rd tx n v M c) (hk : TkOK n v) (hq : q < 24) (k : K (.inl (some (vI (if isWordP tx v q then 1 else 0)))) lay M) : X g m_X2_isWord 0 0 lay M 0 [(0, vR c), (1, vR (g.2.2.2.1 q))] [] K := by
  have hn := stN_rng q hq
  have n6 := hr.1.1
  have e6 := hr.at 6 (by decide) (by decide)
  have e7 := hr.at 7 (by decide) (by decide)
  have e8 := hr.at 8 (by decide) (by decide)
  unfold TkOK at hk
  have loop : v 6 = 1 → v 8 - v 7 = stN q → ∀ (d j : Nat) (y : Int), j + d = stN q → y = j → (∀ i, i < j → tx ((v 7).toNat + i) = (stB q).getD i 0) → X g m_X2_isWord 0 0 lay M 28 [(2, vI y), (0, vR c), (1, vR (g.2.2.2.1 q))] [] K := by
    intro hk6 hk8 d
    induction d with
    | zero =>
      intro j y hj hy ha
      refine x_iload_n (pc := 28) dX2_isWord_28 rfl rfl ?_
      refine x_aload_n (pc := 29) dX2_isWord_29 rfl rfl ?_
      refine x_callVs (pc := 30) [] rfl kX2_48 dX2_isWord_30 hq rfl rfl (by decide) (Nat.le_of_ble_eq_true rfl) (Nat.le_of_ble_eq_true rfl) (by decide) ?_
      refine sp_J0_length_8abf5 hq ?_
      refine ⟨_, rfl, ?_⟩
      refine x_icmp_ge (pc := 33) (t := 78) dX2_isWord_33 (by decide) ⟨by omega, by omega⟩ ⟨by omega, by omega⟩ (fun c33 => ?_) (fun c33 => ?_)
      · refine x_iconst (pc := 78) dX2_isWord_78 ?_
        refine x_zret (pc := 79) dX2_isWord_79 rfl ⟨by omega, by omega⟩ (by decide) (by decide) ?_
        rw [if_pos ⟨hk6, hk8, fun i hi => ha i (by omega)⟩] at k
        exact k
      · exfalso; omega
    | succ d ih =>
      intro j y hj hy ha
      subst hy
      have hb := stB_rng q hq j (by omega)
      have et := hr.2.2 ((v 7).toNat + j) (by omega)
      have e9 : (v 7 + (j : Int)).toNat = (v 7).toNat + j := by omega
      refine x_iload_n (pc := 28) dX2_isWord_28 rfl rfl ?_
      refine x_aload_n (pc := 29) dX2_isWord_29 rfl rfl ?_
      refine x_callVs (pc := 30) [] rfl kX2_48 dX2_isWord_30 hq rfl rfl (by decide) (Nat.le_of_ble_eq_true rfl) (Nat.le_of_ble_eq_true rfl) (by decide) ?_
      refine sp_J0_length_8abf5 hq ?_
      refine ⟨_, rfl, ?_⟩
      refine x_icmp_ge (pc := 33) (t := 78) dX2_isWord_33 (by decide) ⟨by omega, by omega⟩ ⟨by omega, by omega⟩ (fun c33 => ?_) (fun c33 => ?_)
      · exfalso; omega
      · refine x_aload_n (pc := 36) dX2_isWord_36 rfl rfl ?_
        refine x_geti (pc := 37) fX2_29 dX2_isWord_37 hP.1 rfl (fun r37a r37b => ?_)
        rw [e7] at r37a r37b ⊢
        refine x_iload_n (pc := 40) dX2_isWord_40 rfl rfl ?_
        refine x_iadd (pc := 41) dX2_isWord_41 ?_
        refine x_istore_n (pc := 42) dX2_isWord_42 rfl (by decide) (L' := [(3, _), (2, _), (0, _), (1, _)]) rfl ?_
        refine x_iload_n (pc := 43) dX2_isWord_43 rfl rfl ?_
        refine x_if_lt (pc := 44) (t := 70) dX2_isWord_44 (by decide) ⟨by omega, by omega⟩ (fun c44 => ?_) (fun c44 => ?_)
        · exfalso; omega
        · refine x_iload_n (pc := 47) dX2_isWord_47 rfl rfl ?_
          refine x_aload_n (pc := 48) dX2_isWord_48 rfl rfl ?_
          refine x_getr (pc := 49) (b := c + 1) fX2_9 dX2_isWord_49 hP.1 rfl rfl ?_
          refine x_alen (pc := 52) dX2_isWord_52 hP.2.1 (fun r52a => ?_)
          refine x_icmp_ge (pc := 53) (t := 70) dX2_isWord_53 (by decide) ⟨by omega, by omega⟩ ⟨by omega, by omega⟩ (fun c53 => ?_) (fun c53 => ?_)
          · exfalso; omega
          · refine x_aload_n (pc := 56) dX2_isWord_56 rfl rfl ?_
            refine x_getr (pc := 57) (b := c + 1) fX2_9 dX2_isWord_57 hP.1 rfl rfl ?_
            refine x_iload_n (pc := 60) dX2_isWord_60 rfl rfl ?_
            refine x_bald (pc := 61) dX2_isWord_61 hP.2.1 (by omega) (by omega) (fun r61a r61b => ?_)
            rw [e9, et] at r61a r61b ⊢
            refine x_aload_n (pc := 62) dX2_isWord_62 rfl rfl ?_
            refine x_iload_n (pc := 63) dX2_isWord_63 rfl rfl ?_
            refine x_callVs (pc := 64) [_] rfl kX2_53 dX2_isWord_64 hq rfl rfl (by decide) (Nat.le_of_ble_eq_true rfl) (Nat.le_of_ble_eq_true rfl) (by decide) ?_
            refine sp_J0_charAt_5068e hq (by omega) (by omega) ?_
            refine ⟨_, rfl, ?_⟩
            rw [Int.toNat_natCast]
            refine x_icmp_eq (pc := 67) (t := 72) dX2_isWord_67 (by decide) ⟨by omega, by omega⟩ ⟨by omega, by omega⟩ (fun c67 => ?_) (fun c67 => ?_)
            · refine x_iinc (pc := 72) dX2_isWord_72 rfl (by decide) (L' := [(2, _), (3, _), (0, _), (1, _)]) rfl ?_
              refine x_goto (pc := 75) (t := 28) dX2_isWord_75 (by decide) ?_
              refine X.loc [0, 2, 3] (L' := [(2, _), (0, _), (1, _)]) rfl ?_
              refine ih (j + 1) _ (by omega) (by omega) (fun i hi => ?_)
              by_cases e : i = j
              · rw [e]
                exact c67
              · exact ha i (by omega)
            · refine x_iconst (pc := 70) dX2_isWord_70 ?_
              refine x_zret (pc := 71) dX2_isWord_71 rfl ⟨by omega, by omega⟩ (by decide) (by decide) ?_
              rw [if_neg (fun z => c67 (z.2.2 j (by omega)))] at k
              exact k
  refine x_aload_n (pc := 0) dX2_isWord_0 rfl rfl ?_
  refine x_geti (pc := 1) fX2_36 dX2_isWord_1 hP.1 rfl (fun r1a r1b => ?_)
  refine x_iconst (pc := 4) dX2_isWord_4 ?_
  rw [e6] at r1a r1b ⊢
  refine x_icmp_ne (pc := 5) (t := 24) dX2_isWord_5 (by decide) ⟨by omega, by omega⟩ ⟨by omega, by omega⟩ (fun c5 => ?_) (fun c5 => ?_)
  · refine x_iconst (pc := 24) dX2_isWord_24 ?_
    refine x_zret (pc := 25) dX2_isWord_25 rfl ⟨by omega, by omega⟩ (by decide) (by decide) ?_
    first
    | (rw [if_neg (fun z => c5 z.1)] at k
       exact k)
    | (rw [if_neg (fun z => c21 z.2.1)] at k
       exact k)
  · refine x_aload_n (pc := 8) dX2_isWord_8 rfl rfl ?_
    refine x_geti (pc := 9) fX2_26 dX2_isWord_9 hP.1 rfl (fun r9a r9b => ?_)
    refine x_aload_n (pc := 12) dX2_isWord_12 rfl rfl ?_
    refine x_geti (pc := 13) fX2_29 dX2_isWord_13 hP.1 rfl (fun r13a r13b => ?_)
    rw [e8] at r9a r9b ⊢
    rw [e7] at r13a r13b ⊢
    refine x_isub (pc := 16) dX2_isWord_16 ?_
    refine x_aload_n (pc := 17) dX2_isWord_17 rfl rfl ?_
    refine x_callVs (pc := 18) [] rfl kX2_48 dX2_isWord_18 hq rfl rfl (by decide) (Nat.le_of_ble_eq_true rfl) (Nat.le_of_ble_eq_true rfl) (by decide) ?_
    refine sp_J0_length_8abf5 hq ?_
    refine ⟨_, rfl, ?_⟩
    refine x_icmp_eq (pc := 21) (t := 26) dX2_isWord_21 (by decide) ⟨by omega, by omega⟩ ⟨by omega, by omega⟩ (fun c21 => ?_) (fun c21 => ?_)
    · refine x_iconst (pc := 26) dX2_isWord_26 ?_
      refine x_istore_n (pc := 27) dX2_isWord_27 rfl (by decide) (L' := [(2, _), (0, _), (1, _)]) rfl ?_
      refine X.loc [0, 1, 2] (L' := [(2, _), (0, _), (1, _)]) rfl ?_
      exact loop c5 c21 (stN q) 0 _ (by omega) rfl (fun i hi => absurd hi (Nat.not_lt_zero _))
    · refine x_iconst (pc := 24) dX2_isWord_24 ?_
      refine x_zret (pc := 25) dX2_isWord_25 rfl ⟨by omega, by omega⟩ (by decide) (by decide) ?_
      first
      | (rw [if_neg (fun z => c5 z.1)] at k
         exact k)
      | (rw [if_neg (fun z => c21 z.2.1)] at k
         exact k)
set_option maxRecDepth 100000 in
theorem sp_X2_fail {g : GG} {lay : Lay} {M : Mem} {K : KK} {c n : Nat} {tx v : Nat → Int} {x : Int} (hP : RdL lay c) (hb0 : g.2.1 ≤ c) (hr : Rd tx n v M c) (hx : i32 x) (k : ∀ M2, Frm c (c + 1) M M2 → Rd tx n (failF v x).2 M2 c → K (.inl (some (vI 0))) lay M2) : X g m_X2_fail 0 0 lay M 0 [(0, vR c), (1, vI x)] [] K := by
  obtain ⟨hx1, hx2⟩ := hx
  have e7 := hr.at 7 (by decide) (by decide)
  refine x_aload_n (pc := 0) dX2_fail_0 rfl rfl ?_
  refine x_iload_n (pc := 1) dX2_fail_1 rfl rfl ?_
  refine x_puti (pc := 2) fnX2_57 dX2_fail_2 hP.1 (by omega) rfl ⟨by omega, by omega⟩ ?_
  refine x_aload_n (pc := 5) dX2_fail_5 rfl rfl ?_
  refine x_aload_n (pc := 6) dX2_fail_6 rfl rfl ?_
  refine x_geti (pc := 7) fX2_29 dX2_fail_7 hP.1 rfl (fun r7a r7b => ?_)
  try simp (disch := omega) only [mset_same, mset_nea, mset_nei, mcopy_nea, mcopy_in, mcopy_out, Int.reduceToNat, Int.toNat_natCast, Nat.zero_add, Nat.sub_zero] at r7a r7b ⊢
  try rw [mset_nei (by decide)]
  rw [e7] at r7a r7b ⊢
  refine x_puti (pc := 10) fnX2_19 dX2_fail_10 hP.1 (by omega) rfl ⟨by omega, by omega⟩ ?_
  refine x_iconst (pc := 13) dX2_fail_13 ?_
  refine x_zret (pc := 14) dX2_fail_14 rfl ⟨by omega, by omega⟩ (by decide) (by decide) ?_
  exact k _ ((Frm.rf.ms (by omega)).ms (by omega)) ((hr.ms (by decide)).ms (by decide))
set_option maxRecDepth 100000 in
theorem sp_X2_beginText {g : GG} {lay : Lay} {M : Mem} {K : KK} {c n : Nat} {tx v : Nat → Int} (hP : RdL lay c) (hb0 : g.2.1 ≤ c) (hr : Rd tx n v M c) (k : ∀ M2, Frm c (c + 1) M M2 → Rd tx n (beginF tx n v) M2 c → TkOK n (beginF tx n v) → K (.inl none) lay M2) : X g m_X2_beginText 0 0 lay M 0 [(0, vR c)] [] K := by
  refine x_aload_n (pc := 0) dX2_beginText_0 rfl rfl ?_
  refine x_iconst (pc := 1) dX2_beginText_1 ?_
  refine x_puti (pc := 2) fnX2_57 dX2_beginText_2 hP.1 (by omega) rfl ⟨by omega, by omega⟩ ?_
  refine x_aload_n (pc := 5) dX2_beginText_5 rfl rfl ?_
  refine x_iconst (pc := 6) dX2_beginText_6 ?_
  refine x_puti (pc := 7) fnX2_19 dX2_beginText_7 hP.1 (by omega) rfl ⟨by omega, by omega⟩ ?_
  refine x_aload_n (pc := 10) dX2_beginText_10 rfl rfl ?_
  refine x_iconst (pc := 11) dX2_beginText_11 ?_
  refine x_puti (pc := 12) fnX2_26 dX2_beginText_12 hP.1 (by omega) rfl ⟨by omega, by omega⟩ ?_
  refine x_aload_n (pc := 15) dX2_beginText_15 rfl rfl ?_
  refine x_iconst (pc := 16) dX2_beginText_16 ?_
  refine x_puti (pc := 17) fnX2_60 dX2_beginText_17 hP.1 (by omega) rfl ⟨by omega, by omega⟩ ?_
  refine x_aload_n (pc := 20) dX2_beginText_20 rfl rfl ?_
  refine x_iconst (pc := 21) dX2_beginText_21 ?_
  refine x_puti (pc := 22) fnX2_63 dX2_beginText_22 hP.1 (by omega) rfl ⟨by omega, by omega⟩ ?_
  refine x_aload_n (pc := 25) dX2_beginText_25 rfl rfl ?_
  refine x_iconst (pc := 26) dX2_beginText_26 ?_
  refine x_puti (pc := 27) fnX2_66 dX2_beginText_27 hP.1 (by omega) rfl ⟨by omega, by omega⟩ ?_
  refine x_aload_n (pc := 30) dX2_beginText_30 rfl rfl ?_
  refine x_callV (pc := 31) [] rfl kX2_69 dX2_beginText_31 hP.1 rfl rfl (by decide) (Nat.le_of_ble_eq_true rfl) (Nat.le_of_ble_eq_true rfl) (by decide) ?_
  have hr6 := (((((hr.ms (x := 0) (j := 3) (by decide)).ms (x := -1) (j := 4) (by decide)).ms (x := 0) (j := 8) (by decide)).ms (x := 0) (j := 5) (by decide)).ms (x := 0) (j := 11) (by decide)).ms (x := 0) (j := 12) (by decide)
  have h8 : (fup (fup (fup (fup (fup (fup v 3 0) 4 (-1)) 8 0) 5 0) 11 0) 12 0) 8 = 0 := rfl
  refine sp_X2_nextToken hP hb0 hr6 (by rw [h8]; omega) (fun M2 hF2 hr2 => ?_)
  refine ⟨_, rfl, ?_⟩
  refine x_vret (pc := 34) dX2_beginText_34 rfl (by decide) (by decide) ?_
  exact k _ (Frm.trans ((((((Frm.rf.ms (by omega)).ms (by omega)).ms (by omega)).ms (by omega)).ms (by omega)).ms (by omega)) hF2) hr2 (tokF_ok _ _ _ (by rw [h8]; omega))
set_option maxRecDepth 100000 in
theorem sp_X2_readSemicolon {g : GG} {lay : Lay} {M : Mem} {K : KK} {c n : Nat} {tx v : Nat → Int} (hP : RdL lay c) (hb0 : g.2.1 ≤ c) (hr : Rd tx n v M c) (hk : TkOK n v) (k : ∀ M2, Frm c (c + 1) M M2 → Rd tx n (semF tx n v).2 M2 c → K (.inl (some (vI (semF tx n v).1))) lay M2) : X g m_X2_readSemicolon 0 0 lay M 0 [(0, vR c)] [] K := by
  have e6 := hr.at 6 (by decide) (by decide)
  unfold semF at k
  refine x_aload_n (pc := 0) dX2_readSemicolon_0 rfl rfl ?_
  refine x_geti (pc := 1) fX2_36 dX2_readSemicolon_1 hP.1 rfl (fun r1a r1b => ?_)
  refine x_iconst (pc := 4) dX2_readSemicolon_4 ?_
  rw [e6] at r1a r1b ⊢
  refine x_icmp_eq (pc := 5) (t := 14) dX2_readSemicolon_5 (by decide) ⟨by omega, by omega⟩ ⟨by omega, by omega⟩ (fun c5 => ?_) (fun c5 => ?_)
  · refine x_aload_n (pc := 14) dX2_readSemicolon_14 rfl rfl ?_
    refine x_callV (pc := 15) [] rfl kX2_69 dX2_readSemicolon_15 hP.1 rfl rfl (by decide) (Nat.le_of_ble_eq_true rfl) (Nat.le_of_ble_eq_true rfl) (by decide) ?_
    refine sp_X2_nextToken hP hb0 hr (by unfold TkOK at hk; omega) (fun M2 hF2 hr2 => ?_)
    refine ⟨_, rfl, ?_⟩
    refine x_iconst (pc := 18) dX2_readSemicolon_18 ?_
    refine x_zret (pc := 19) dX2_readSemicolon_19 rfl ⟨by omega, by omega⟩ (by decide) (by decide) ?_
    first
    | (rw [if_pos (by omega)] at k
       exact k _ hF2 hr2)
    | (rw [if_neg (by omega)] at k
       exact k _ hF2 hr2)
  · refine x_aload_n (pc := 8) dX2_readSemicolon_8 rfl rfl ?_
    refine x_iconst (pc := 9) dX2_readSemicolon_9 ?_
    refine x_callV (pc := 10) [_] rfl kX2_72 dX2_readSemicolon_10 hP.1 rfl rfl (by decide) (Nat.le_of_ble_eq_true rfl) (Nat.le_of_ble_eq_true rfl) (by decide) ?_
    refine sp_X2_fail hP hb0 hr (by decide) (fun M2 hF2 hr2 => ?_)
    refine ⟨_, rfl, ?_⟩
    refine x_zret (pc := 13) dX2_readSemicolon_13 rfl ⟨by omega, by omega⟩ (by decide) (by decide) ?_
    first
    | (rw [if_pos (by omega)] at k
       exact k _ hF2 hr2)
    | (rw [if_neg (by omega)] at k
       exact k _ hF2 hr2)
set_option maxRecDepth 100000 in
theorem sp_X2_readNumber {g : GG} {lay : Lay} {M : Mem} {K : KK} {c n : Nat} {tx v : Nat → Int} {lo hi : Int} (hP : RdL lay c) (hb0 : g.2.1 ≤ c) (hr : Rd tx n v M c) (hk : TkOK n v) (hlo : i32 lo) (hhi : i32 hi) (k : ∀ M2, Frm c (c + 1) M M2 → Rd tx n (numRF tx n v lo hi).2 M2 c → K (.inl (some (vI (numRF tx n v lo hi).1))) lay M2) : X g m_X2_readNumber 0 0 lay M 0 [(0, vR c), (1, vI lo), (2, vI hi)] [] K := by
  obtain ⟨hlo1, hlo2⟩ := hlo
  obtain ⟨hhi1, hhi2⟩ := hhi
  have e6 := hr.at 6 (by decide) (by decide)
  have e9 := hr.at 9 (by decide) (by decide)
  unfold numRF at k
  refine x_aload_n (pc := 0) dX2_readNumber_0 rfl rfl ?_
  refine x_geti (pc := 1) fX2_36 dX2_readNumber_1 hP.1 rfl (fun r1a r1b => ?_)
  refine x_iconst (pc := 4) dX2_readNumber_4 ?_
  rw [e6] at r1a r1b ⊢
  refine x_icmp_eq (pc := 5) (t := 14) dX2_readNumber_5 (by decide) ⟨by omega, by omega⟩ ⟨by omega, by omega⟩ (fun c5 => ?_) (fun c5 => ?_)
  · refine x_aload_n (pc := 14) dX2_readNumber_14 rfl rfl ?_
    refine x_geti (pc := 15) fX2_39 dX2_readNumber_15 hP.1 rfl (fun r15a r15b => ?_)
    rw [e9] at r15a r15b ⊢
    refine x_iload_n (pc := 18) dX2_readNumber_18 rfl rfl ?_
    refine x_icmp_lt (pc := 19) (t := 30) dX2_readNumber_19 (by decide) ⟨by omega, by omega⟩ ⟨by omega, by omega⟩ (fun c19 => ?_) (fun c19 => ?_)
    · refine x_aload_n (pc := 30) dX2_readNumber_30 rfl rfl ?_
      refine x_iconst (pc := 31) dX2_readNumber_31 ?_
      refine x_callV (pc := 32) [_] rfl kX2_72 dX2_readNumber_32 hP.1 rfl rfl (by decide) (Nat.le_of_ble_eq_true rfl) (Nat.le_of_ble_eq_true rfl) (by decide) ?_
      refine sp_X2_fail hP hb0 hr (by decide) (fun M2 hF2 hr2 => ?_)
      refine ⟨_, rfl, ?_⟩
      refine x_zret (pc := 35) dX2_readNumber_35 rfl ⟨by omega, by omega⟩ (by decide) (by decide) ?_
      first
      | (rw [if_pos (by omega)] at k
         exact k _ hF2 hr2)
      | (rw [if_neg (by omega), if_pos (by omega)] at k
         exact k _ hF2 hr2)
      | (rw [if_neg (by omega), if_neg (by omega)] at k
         exact k _ (Frm.trans (Frm.rf.ms (by omega)) hF2) hr2)
    · refine x_aload_n (pc := 22) dX2_readNumber_22 rfl rfl ?_
      refine x_geti (pc := 23) fX2_39 dX2_readNumber_23 hP.1 rfl (fun r23a r23b => ?_)
      rw [e9] at r23a r23b ⊢
      refine x_iload_n (pc := 26) dX2_readNumber_26 rfl rfl ?_
      refine x_icmp_le (pc := 27) (t := 36) dX2_readNumber_27 (by decide) ⟨by omega, by omega⟩ ⟨by omega, by omega⟩ (fun c27 => ?_) (fun c27 => ?_)
      · refine x_aload_n (pc := 36) dX2_readNumber_36 rfl rfl ?_
        refine x_aload_n (pc := 37) dX2_readNumber_37 rfl rfl ?_
        refine x_geti (pc := 38) fX2_39 dX2_readNumber_38 hP.1 rfl (fun r38a r38b => ?_)
        rw [e9] at r38a r38b ⊢
        refine x_puti (pc := 41) fnX2_76 dX2_readNumber_41 hP.1 (by omega) rfl ⟨by omega, by omega⟩ ?_
        refine x_aload_n (pc := 44) dX2_readNumber_44 rfl rfl ?_
        refine x_callV (pc := 45) [] rfl kX2_69 dX2_readNumber_45 hP.1 rfl rfl (by decide) (Nat.le_of_ble_eq_true rfl) (Nat.le_of_ble_eq_true rfl) (by decide) ?_
        have hk2 : TkOK n (fup v 10 (v 9)) := hk.fup (by omega)
        refine sp_X2_nextToken hP hb0 (hr.ms (by decide)) (by unfold TkOK at hk2; omega) (fun M2 hF2 hr2 => ?_)
        refine ⟨_, rfl, ?_⟩
        refine x_iconst (pc := 48) dX2_readNumber_48 ?_
        refine x_zret (pc := 49) dX2_readNumber_49 rfl ⟨by omega, by omega⟩ (by decide) (by decide) ?_
        first
        | (rw [if_pos (by omega)] at k
           exact k _ hF2 hr2)
        | (rw [if_neg (by omega), if_pos (by omega)] at k
           exact k _ hF2 hr2)
        | (rw [if_neg (by omega), if_neg (by omega)] at k
           exact k _ (Frm.trans (Frm.rf.ms (by omega)) hF2) hr2)
      · refine x_aload_n (pc := 30) dX2_readNumber_30 rfl rfl ?_
        refine x_iconst (pc := 31) dX2_readNumber_31 ?_
        refine x_callV (pc := 32) [_] rfl kX2_72 dX2_readNumber_32 hP.1 rfl rfl (by decide) (Nat.le_of_ble_eq_true rfl) (Nat.le_of_ble_eq_true rfl) (by decide) ?_
        refine sp_X2_fail hP hb0 hr (by decide) (fun M2 hF2 hr2 => ?_)
        refine ⟨_, rfl, ?_⟩
        refine x_zret (pc := 35) dX2_readNumber_35 rfl ⟨by omega, by omega⟩ (by decide) (by decide) ?_
        first
        | (rw [if_pos (by omega)] at k
           exact k _ hF2 hr2)
        | (rw [if_neg (by omega), if_pos (by omega)] at k
           exact k _ hF2 hr2)
        | (rw [if_neg (by omega), if_neg (by omega)] at k
           exact k _ (Frm.trans (Frm.rf.ms (by omega)) hF2) hr2)
  · refine x_aload_n (pc := 8) dX2_readNumber_8 rfl rfl ?_
    refine x_iconst (pc := 9) dX2_readNumber_9 ?_
    refine x_callV (pc := 10) [_] rfl kX2_72 dX2_readNumber_10 hP.1 rfl rfl (by decide) (Nat.le_of_ble_eq_true rfl) (Nat.le_of_ble_eq_true rfl) (by decide) ?_
    refine sp_X2_fail hP hb0 hr (by decide) (fun M2 hF2 hr2 => ?_)
    refine ⟨_, rfl, ?_⟩
    refine x_zret (pc := 13) dX2_readNumber_13 rfl ⟨by omega, by omega⟩ (by decide) (by decide) ?_
    first
    | (rw [if_pos (by omega)] at k
       exact k _ hF2 hr2)
    | (rw [if_neg (by omega), if_pos (by omega)] at k
       exact k _ hF2 hr2)
    | (rw [if_neg (by omega), if_neg (by omega)] at k
       exact k _ (Frm.trans (Frm.rf.ms (by omega)) hF2) hr2)
set_option maxRecDepth 100000 in
theorem sp_X2_readInteger {g : GG} {lay : Lay} {M : Mem} {K : KK} {c n : Nat} {tx v : Nat → Int} {lo hi : Int} (hP : RdL lay c) (hb0 : g.2.1 ≤ c) (hr : Rd tx n v M c) (hk : TkOK n v) (hlo : i32 lo) (hhi : i32 hi) (k : ∀ M2, Frm c (c + 1) M M2 → Rd tx n (intRF tx n v lo hi).2 M2 c → K (.inl (some (vI (intRF tx n v lo hi).1))) lay M2) : X g m_X2_readInteger 0 0 lay M 0 [(0, vR c), (1, vI lo), (2, vI hi)] [] K := by
  obtain ⟨hlo1, hlo2⟩ := hlo
  obtain ⟨hhi1, hhi2⟩ := hhi
  have e6 := hr.at 6 (by decide) (by decide)
  have hkm : TkOK n (minF tx n v) := hk.min
  unfold intRF at k
  have rest : ∀ (y : Int) (M1 : Mem), (y = 1 ∧ v 6 = 3 ∨ y = 0 ∧ ¬ v 6 = 3) → Frm c (c + 1) M M1 → Rd tx n (minF tx n v) M1 c → X g m_X2_readInteger 0 0 lay M1 22 [(3, vI y), (0, vR c), (1, vI lo), (2, vI hi)] [] K := by
    intro y M1 hy hF hr1
    generalize hw : minF tx n v = w at *
    have a6 := hr1.at 6 (by decide) (by decide)
    have a9 := hr1.at 9 (by decide) (by decide)
    have hto : toldF v w = if y = 1 then - w 9 else w 9 := by
      unfold toldF
      rcases hy with ⟨q1, q2⟩ | ⟨q1, q2⟩
      · rw [if_pos q2, if_pos q1]
      · rw [if_neg q2, if_neg (by omega)]
    have hkw := id hkm
    unfold TkOK at hkw
    refine x_aload_n (pc := 22) dX2_readInteger_22 rfl rfl ?_
    refine x_geti (pc := 23) fX2_36 dX2_readInteger_23 hP.1 rfl (fun r23a r23b => ?_)
    refine x_iconst (pc := 26) dX2_readInteger_26 ?_
    rw [a6] at r23a r23b ⊢
    refine x_icmp_eq (pc := 27) (t := 36) dX2_readInteger_27 (by decide) ⟨by omega, by omega⟩ ⟨by omega, by omega⟩ (fun c27 => ?_) (fun c27 => ?_)
    · refine x_iload_n (pc := 36) dX2_readInteger_36 rfl rfl ?_
      refine x_if_eq (pc := 37) (t := 48) dX2_readInteger_37 (by decide) ⟨by omega, by omega⟩ (fun c37 => ?_) (fun c37 => ?_)
      · refine x_aload_n (pc := 48) dX2_readInteger_48 rfl rfl ?_
        refine x_geti (pc := 49) fX2_39 dX2_readInteger_49 hP.1 rfl (fun r49a r49b => ?_)
        try rw [a9] at r49a r49b ⊢
        first
        | rw [if_pos (show y = 1 by omega)] at hto
        | rw [if_neg (show ¬ y = 1 by omega)] at hto
        rw [← hto]
        refine x_istore (pc := 52) dX2_readInteger_52 trivial (by decide) (L' := [(4, _), (3, _), (0, _), (1, _), (2, _)]) rfl ?_
        refine x_iload (pc := 54) dX2_readInteger_54 rfl ?_
        refine x_iload_n (pc := 56) dX2_readInteger_56 rfl rfl ?_
        refine x_icmp_lt (pc := 57) (t := 66) dX2_readInteger_57 (by decide) ⟨by omega, by omega⟩ ⟨by omega, by omega⟩ (fun c57 => ?_) (fun c57 => ?_)
        · refine x_aload_n (pc := 66) dX2_readInteger_66 rfl rfl ?_
          refine x_iconst (pc := 67) dX2_readInteger_67 ?_
          refine x_callV (pc := 68) [_] rfl kX2_72 dX2_readInteger_68 hP.1 rfl rfl (by decide) (Nat.le_of_ble_eq_true rfl) (Nat.le_of_ble_eq_true rfl) (by decide) ?_
          refine sp_X2_fail hP hb0 hr1 (by decide) (fun M2 hF2 hr2 => ?_)
          refine ⟨_, rfl, ?_⟩
          refine x_zret (pc := 71) dX2_readInteger_71 rfl ⟨by omega, by omega⟩ (by decide) (by decide) ?_
          first
          | (rw [if_pos (by omega)] at k
             exact k _ (hF.trans hF2) hr2)
          | (rw [if_neg (by omega), if_pos (by omega)] at k
             exact k _ (hF.trans hF2) hr2)
          | (rw [if_neg (by omega), if_neg (by omega)] at k
             exact k _ (Frm.trans (hF.ms (by omega)) hF2) hr2)
        · refine x_iload (pc := 60) dX2_readInteger_60 rfl ?_
          refine x_iload_n (pc := 62) dX2_readInteger_62 rfl rfl ?_
          refine x_icmp_le (pc := 63) (t := 72) dX2_readInteger_63 (by decide) ⟨by omega, by omega⟩ ⟨by omega, by omega⟩ (fun c63 => ?_) (fun c63 => ?_)
          · refine x_aload_n (pc := 72) dX2_readInteger_72 rfl rfl ?_
            refine x_iload (pc := 73) dX2_readInteger_73 rfl ?_
            refine x_puti (pc := 75) fnX2_76 dX2_readInteger_75 hP.1 (by omega) rfl ⟨by omega, by omega⟩ ?_
            refine x_aload_n (pc := 78) dX2_readInteger_78 rfl rfl ?_
            refine x_callV (pc := 79) [] rfl kX2_69 dX2_readInteger_79 hP.1 rfl rfl (by decide) (Nat.le_of_ble_eq_true rfl) (Nat.le_of_ble_eq_true rfl) (by decide) ?_
            have hk2 : TkOK n (fup w 10 (toldF v w)) := hkm.fup (by omega)
            refine sp_X2_nextToken hP hb0 (hr1.ms (by decide)) (by unfold TkOK at hk2; omega) (fun M2 hF2 hr2 => ?_)
            refine ⟨_, rfl, ?_⟩
            refine x_iconst (pc := 82) dX2_readInteger_82 ?_
            refine x_zret (pc := 83) dX2_readInteger_83 rfl ⟨by omega, by omega⟩ (by decide) (by decide) ?_
            first
            | (rw [if_pos (by omega)] at k
               exact k _ (hF.trans hF2) hr2)
            | (rw [if_neg (by omega), if_pos (by omega)] at k
               exact k _ (hF.trans hF2) hr2)
            | (rw [if_neg (by omega), if_neg (by omega)] at k
               exact k _ (Frm.trans (hF.ms (by omega)) hF2) hr2)
          · refine x_aload_n (pc := 66) dX2_readInteger_66 rfl rfl ?_
            refine x_iconst (pc := 67) dX2_readInteger_67 ?_
            refine x_callV (pc := 68) [_] rfl kX2_72 dX2_readInteger_68 hP.1 rfl rfl (by decide) (Nat.le_of_ble_eq_true rfl) (Nat.le_of_ble_eq_true rfl) (by decide) ?_
            refine sp_X2_fail hP hb0 hr1 (by decide) (fun M2 hF2 hr2 => ?_)
            refine ⟨_, rfl, ?_⟩
            refine x_zret (pc := 71) dX2_readInteger_71 rfl ⟨by omega, by omega⟩ (by decide) (by decide) ?_
            first
            | (rw [if_pos (by omega)] at k
               exact k _ (hF.trans hF2) hr2)
            | (rw [if_neg (by omega), if_pos (by omega)] at k
               exact k _ (hF.trans hF2) hr2)
            | (rw [if_neg (by omega), if_neg (by omega)] at k
               exact k _ (Frm.trans (hF.ms (by omega)) hF2) hr2)
      · refine x_aload_n (pc := 40) dX2_readInteger_40 rfl rfl ?_
        refine x_geti (pc := 41) fX2_39 dX2_readInteger_41 hP.1 rfl (fun r41a r41b => ?_)
        rw [a9] at r41a r41b ⊢
        refine x_ineg (pc := 44) dX2_readInteger_44 ?_
        refine x_goto (pc := 45) (t := 52) dX2_readInteger_45 (by decide) ?_
        try rw [a9] at r49a r49b ⊢
        first
        | rw [if_pos (show y = 1 by omega)] at hto
        | rw [if_neg (show ¬ y = 1 by omega)] at hto
        rw [← hto]
        refine x_istore (pc := 52) dX2_readInteger_52 trivial (by decide) (L' := [(4, _), (3, _), (0, _), (1, _), (2, _)]) rfl ?_
        refine x_iload (pc := 54) dX2_readInteger_54 rfl ?_
        refine x_iload_n (pc := 56) dX2_readInteger_56 rfl rfl ?_
        refine x_icmp_lt (pc := 57) (t := 66) dX2_readInteger_57 (by decide) ⟨by omega, by omega⟩ ⟨by omega, by omega⟩ (fun c57 => ?_) (fun c57 => ?_)
        · refine x_aload_n (pc := 66) dX2_readInteger_66 rfl rfl ?_
          refine x_iconst (pc := 67) dX2_readInteger_67 ?_
          refine x_callV (pc := 68) [_] rfl kX2_72 dX2_readInteger_68 hP.1 rfl rfl (by decide) (Nat.le_of_ble_eq_true rfl) (Nat.le_of_ble_eq_true rfl) (by decide) ?_
          refine sp_X2_fail hP hb0 hr1 (by decide) (fun M2 hF2 hr2 => ?_)
          refine ⟨_, rfl, ?_⟩
          refine x_zret (pc := 71) dX2_readInteger_71 rfl ⟨by omega, by omega⟩ (by decide) (by decide) ?_
          first
          | (rw [if_pos (by omega)] at k
             exact k _ (hF.trans hF2) hr2)
          | (rw [if_neg (by omega), if_pos (by omega)] at k
             exact k _ (hF.trans hF2) hr2)
          | (rw [if_neg (by omega), if_neg (by omega)] at k
             exact k _ (Frm.trans (hF.ms (by omega)) hF2) hr2)
        · refine x_iload (pc := 60) dX2_readInteger_60 rfl ?_
          refine x_iload_n (pc := 62) dX2_readInteger_62 rfl rfl ?_
          refine x_icmp_le (pc := 63) (t := 72) dX2_readInteger_63 (by decide) ⟨by omega, by omega⟩ ⟨by omega, by omega⟩ (fun c63 => ?_) (fun c63 => ?_)
          · refine x_aload_n (pc := 72) dX2_readInteger_72 rfl rfl ?_
            refine x_iload (pc := 73) dX2_readInteger_73 rfl ?_
            refine x_puti (pc := 75) fnX2_76 dX2_readInteger_75 hP.1 (by omega) rfl ⟨by omega, by omega⟩ ?_
            refine x_aload_n (pc := 78) dX2_readInteger_78 rfl rfl ?_
            refine x_callV (pc := 79) [] rfl kX2_69 dX2_readInteger_79 hP.1 rfl rfl (by decide) (Nat.le_of_ble_eq_true rfl) (Nat.le_of_ble_eq_true rfl) (by decide) ?_
            have hk2 : TkOK n (fup w 10 (toldF v w)) := hkm.fup (by omega)
            refine sp_X2_nextToken hP hb0 (hr1.ms (by decide)) (by unfold TkOK at hk2; omega) (fun M2 hF2 hr2 => ?_)
            refine ⟨_, rfl, ?_⟩
            refine x_iconst (pc := 82) dX2_readInteger_82 ?_
            refine x_zret (pc := 83) dX2_readInteger_83 rfl ⟨by omega, by omega⟩ (by decide) (by decide) ?_
            first
            | (rw [if_pos (by omega)] at k
               exact k _ (hF.trans hF2) hr2)
            | (rw [if_neg (by omega), if_pos (by omega)] at k
               exact k _ (hF.trans hF2) hr2)
            | (rw [if_neg (by omega), if_neg (by omega)] at k
               exact k _ (Frm.trans (hF.ms (by omega)) hF2) hr2)
          · refine x_aload_n (pc := 66) dX2_readInteger_66 rfl rfl ?_
            refine x_iconst (pc := 67) dX2_readInteger_67 ?_
            refine x_callV (pc := 68) [_] rfl kX2_72 dX2_readInteger_68 hP.1 rfl rfl (by decide) (Nat.le_of_ble_eq_true rfl) (Nat.le_of_ble_eq_true rfl) (by decide) ?_
            refine sp_X2_fail hP hb0 hr1 (by decide) (fun M2 hF2 hr2 => ?_)
            refine ⟨_, rfl, ?_⟩
            refine x_zret (pc := 71) dX2_readInteger_71 rfl ⟨by omega, by omega⟩ (by decide) (by decide) ?_
            first
            | (rw [if_pos (by omega)] at k
               exact k _ (hF.trans hF2) hr2)
            | (rw [if_neg (by omega), if_pos (by omega)] at k
               exact k _ (hF.trans hF2) hr2)
            | (rw [if_neg (by omega), if_neg (by omega)] at k
               exact k _ (Frm.trans (hF.ms (by omega)) hF2) hr2)
    · refine x_aload_n (pc := 30) dX2_readInteger_30 rfl rfl ?_
      refine x_iconst (pc := 31) dX2_readInteger_31 ?_
      refine x_callV (pc := 32) [_] rfl kX2_72 dX2_readInteger_32 hP.1 rfl rfl (by decide) (Nat.le_of_ble_eq_true rfl) (Nat.le_of_ble_eq_true rfl) (by decide) ?_
      refine sp_X2_fail hP hb0 hr1 (by decide) (fun M2 hF2 hr2 => ?_)
      refine ⟨_, rfl, ?_⟩
      refine x_zret (pc := 35) dX2_readInteger_35 rfl ⟨by omega, by omega⟩ (by decide) (by decide) ?_
      first
      | (rw [if_pos (by omega)] at k
         exact k _ (hF.trans hF2) hr2)
      | (rw [if_neg (by omega), if_pos (by omega)] at k
         exact k _ (hF.trans hF2) hr2)
      | (rw [if_neg (by omega), if_neg (by omega)] at k
         exact k _ (Frm.trans (hF.ms (by omega)) hF2) hr2)
  refine x_aload_n (pc := 0) dX2_readInteger_0 rfl rfl ?_
  refine x_geti (pc := 1) fX2_36 dX2_readInteger_1 hP.1 rfl (fun r1a r1b => ?_)
  refine x_iconst (pc := 4) dX2_readInteger_4 ?_
  rw [e6] at r1a r1b ⊢
  refine x_icmp_ne (pc := 5) (t := 12) dX2_readInteger_5 (by decide) ⟨by omega, by omega⟩ ⟨by omega, by omega⟩ (fun c5 => ?_) (fun c5 => ?_)
  · refine x_iconst (pc := 12) dX2_readInteger_12 ?_
    refine x_istore_n (pc := 13) dX2_readInteger_13 rfl (by decide) (L' := [(3, _), (0, _), (1, _), (2, _)]) rfl ?_
    refine x_iload_n (pc := 14) dX2_readInteger_14 rfl rfl ?_
    refine x_if_eq (pc := 15) (t := 22) dX2_readInteger_15 (by decide) ⟨by omega, by omega⟩ (fun c15 => ?_) (fun c15 => ?_)
    · refine X.loc [0, 1, 2, 3] (L' := [(3, _), (0, _), (1, _), (2, _)]) rfl ?_
      first
      | (exfalso; omega)
      | (refine rest _ _ (Or.inl ⟨rfl, by omega⟩) hF2 ?_
         unfold minF
         rw [if_pos (by omega)]
         exact hr2)
      | (refine rest _ _ (Or.inr ⟨rfl, by omega⟩) Frm.rf ?_
         unfold minF
         rw [if_neg (by omega)]
         exact hr)
    · refine x_aload_n (pc := 18) dX2_readInteger_18 rfl rfl ?_
      refine x_callV (pc := 19) [] rfl kX2_69 dX2_readInteger_19 hP.1 rfl rfl (by decide) (Nat.le_of_ble_eq_true rfl) (Nat.le_of_ble_eq_true rfl) (by decide) ?_
      refine sp_X2_nextToken hP hb0 hr (by unfold TkOK at hk; omega) (fun M2 hF2 hr2 => ?_)
      refine ⟨_, rfl, ?_⟩
      refine X.loc [0, 1, 2, 3] (L' := [(3, _), (0, _), (1, _), (2, _)]) rfl ?_
      first
      | (exfalso; omega)
      | (refine rest _ _ (Or.inl ⟨rfl, by omega⟩) hF2 ?_
         unfold minF
         rw [if_pos (by omega)]
         exact hr2)
      | (refine rest _ _ (Or.inr ⟨rfl, by omega⟩) Frm.rf ?_
         unfold minF
         rw [if_neg (by omega)]
         exact hr)
  · refine x_iconst (pc := 8) dX2_readInteger_8 ?_
    refine x_goto (pc := 9) (t := 13) dX2_readInteger_9 (by decide) ?_
    refine x_istore_n (pc := 13) dX2_readInteger_13 rfl (by decide) (L' := [(3, _), (0, _), (1, _), (2, _)]) rfl ?_
    refine x_iload_n (pc := 14) dX2_readInteger_14 rfl rfl ?_
    refine x_if_eq (pc := 15) (t := 22) dX2_readInteger_15 (by decide) ⟨by omega, by omega⟩ (fun c15 => ?_) (fun c15 => ?_)
    · refine X.loc [0, 1, 2, 3] (L' := [(3, _), (0, _), (1, _), (2, _)]) rfl ?_
      first
      | (exfalso; omega)
      | (refine rest _ _ (Or.inl ⟨rfl, by omega⟩) hF2 ?_
         unfold minF
         rw [if_pos (by omega)]
         exact hr2)
      | (refine rest _ _ (Or.inr ⟨rfl, by omega⟩) Frm.rf ?_
         unfold minF
         rw [if_neg (by omega)]
         exact hr)
    · refine x_aload_n (pc := 18) dX2_readInteger_18 rfl rfl ?_
      refine x_callV (pc := 19) [] rfl kX2_69 dX2_readInteger_19 hP.1 rfl rfl (by decide) (Nat.le_of_ble_eq_true rfl) (Nat.le_of_ble_eq_true rfl) (by decide) ?_
      refine sp_X2_nextToken hP hb0 hr (by unfold TkOK at hk; omega) (fun M2 hF2 hr2 => ?_)
      refine ⟨_, rfl, ?_⟩
      refine X.loc [0, 1, 2, 3] (L' := [(3, _), (0, _), (1, _), (2, _)]) rfl ?_
      first
      | (exfalso; omega)
      | (refine rest _ _ (Or.inl ⟨rfl, by omega⟩) hF2 ?_
         unfold minF
         rw [if_pos (by omega)]
         exact hr2)
      | (refine rest _ _ (Or.inr ⟨rfl, by omega⟩) Frm.rf ?_
         unfold minF
         rw [if_neg (by omega)]
         exact hr)
set_option maxRecDepth 100000 in
theorem sp_X2_settingOfWord {g : GG} {lay : Lay} {M : Mem} {K : KK} {c n : Nat} {tx v : Nat → Int} (hP : RdL lay c) (hb0 : g.2.1 ≤ c) (hr : Rd tx n v M c) (hk : TkOK n v) (k : K (.inl (some (vI (setWF tx v)))) lay M) : X g m_X2_settingOfWord 0 0 lay M 0 [(0, vR c)] [] K := by
  refine x_aload_n (pc := 0) dX2_settingOfWord_0 rfl rfl ?_
  refine x_ldcS (pc := 1) (q := 1) (by decide) dX2_settingOfWord_1 ?_
  refine x_callV (pc := 3) [_] rfl kX2_91 dX2_settingOfWord_3 hP.1 rfl rfl (by decide) (Nat.le_of_ble_eq_true rfl) (Nat.le_of_ble_eq_true rfl) (by decide) ?_
  refine sp_X2_isWord (q := 1) hP hb0 hr hk (by decide) ?_
  have hz3 := @b01 (isWordP tx v 1) inferInstance
  refine ⟨_, rfl, ?_⟩
  refine x_if_eq (pc := 6) (t := 11) dX2_settingOfWord_6 (by decide) ⟨by omega, by omega⟩ (fun c6 => ?_) (fun c6 => ?_)
  · refine x_aload_n (pc := 11) dX2_settingOfWord_11 rfl rfl ?_
    refine x_ldcS (pc := 12) (q := 2) (by decide) dX2_settingOfWord_12 ?_
    refine x_callV (pc := 14) [_] rfl kX2_91 dX2_settingOfWord_14 hP.1 rfl rfl (by decide) (Nat.le_of_ble_eq_true rfl) (Nat.le_of_ble_eq_true rfl) (by decide) ?_
    refine sp_X2_isWord (q := 2) hP hb0 hr hk (by decide) ?_
    have hz14 := @b01 (isWordP tx v 2) inferInstance
    refine ⟨_, rfl, ?_⟩
    refine x_if_eq (pc := 17) (t := 22) dX2_settingOfWord_17 (by decide) ⟨by omega, by omega⟩ (fun c17 => ?_) (fun c17 => ?_)
    · refine x_aload_n (pc := 22) dX2_settingOfWord_22 rfl rfl ?_
      refine x_ldcS (pc := 23) (q := 3) (by decide) dX2_settingOfWord_23 ?_
      refine x_callV (pc := 25) [_] rfl kX2_91 dX2_settingOfWord_25 hP.1 rfl rfl (by decide) (Nat.le_of_ble_eq_true rfl) (Nat.le_of_ble_eq_true rfl) (by decide) ?_
      refine sp_X2_isWord (q := 3) hP hb0 hr hk (by decide) ?_
      have hz25 := @b01 (isWordP tx v 3) inferInstance
      refine ⟨_, rfl, ?_⟩
      refine x_if_eq (pc := 28) (t := 33) dX2_settingOfWord_28 (by decide) ⟨by omega, by omega⟩ (fun c28 => ?_) (fun c28 => ?_)
      · refine x_aload_n (pc := 33) dX2_settingOfWord_33 rfl rfl ?_
        refine x_ldcS (pc := 34) (q := 4) (by decide) dX2_settingOfWord_34 ?_
        refine x_callV (pc := 36) [_] rfl kX2_91 dX2_settingOfWord_36 hP.1 rfl rfl (by decide) (Nat.le_of_ble_eq_true rfl) (Nat.le_of_ble_eq_true rfl) (by decide) ?_
        refine sp_X2_isWord (q := 4) hP hb0 hr hk (by decide) ?_
        have hz36 := @b01 (isWordP tx v 4) inferInstance
        refine ⟨_, rfl, ?_⟩
        refine x_if_eq (pc := 39) (t := 44) dX2_settingOfWord_39 (by decide) ⟨by omega, by omega⟩ (fun c39 => ?_) (fun c39 => ?_)
        · refine x_aload_n (pc := 44) dX2_settingOfWord_44 rfl rfl ?_
          refine x_ldcS (pc := 45) (q := 5) (by decide) dX2_settingOfWord_45 ?_
          refine x_callV (pc := 47) [_] rfl kX2_91 dX2_settingOfWord_47 hP.1 rfl rfl (by decide) (Nat.le_of_ble_eq_true rfl) (Nat.le_of_ble_eq_true rfl) (by decide) ?_
          refine sp_X2_isWord (q := 5) hP hb0 hr hk (by decide) ?_
          have hz47 := @b01 (isWordP tx v 5) inferInstance
          refine ⟨_, rfl, ?_⟩
          refine x_if_eq (pc := 50) (t := 55) dX2_settingOfWord_50 (by decide) ⟨by omega, by omega⟩ (fun c50 => ?_) (fun c50 => ?_)
          · refine x_aload_n (pc := 55) dX2_settingOfWord_55 rfl rfl ?_
            refine x_ldcS (pc := 56) (q := 6) (by decide) dX2_settingOfWord_56 ?_
            refine x_callV (pc := 58) [_] rfl kX2_91 dX2_settingOfWord_58 hP.1 rfl rfl (by decide) (Nat.le_of_ble_eq_true rfl) (Nat.le_of_ble_eq_true rfl) (by decide) ?_
            refine sp_X2_isWord (q := 6) hP hb0 hr hk (by decide) ?_
            have hz58 := @b01 (isWordP tx v 6) inferInstance
            refine ⟨_, rfl, ?_⟩
            refine x_if_eq (pc := 61) (t := 69) dX2_settingOfWord_61 (by decide) ⟨by omega, by omega⟩ (fun c61 => ?_) (fun c61 => ?_)
            · refine x_iconst (pc := 69) dX2_settingOfWord_69 ?_
              refine x_iret (pc := 70) dX2_settingOfWord_70 rfl (by decide) (by decide) ?_
              refine kI k ?_
              unfold setWF
              first
              | (rw [if_pos (b1 c6)]; done)
              | skip
              first
              | rw [if_neg (b0 c6)]
              | skip
              first
              | (rw [if_pos (b1 c17)]; done)
              | skip
              first
              | rw [if_neg (b0 c17)]
              | skip
              first
              | (rw [if_pos (b1 c28)]; done)
              | skip
              first
              | rw [if_neg (b0 c28)]
              | skip
              first
              | (rw [if_pos (b1 c39)]; done)
              | skip
              first
              | rw [if_neg (b0 c39)]
              | skip
              first
              | (rw [if_pos (b1 c50)]; done)
              | skip
              first
              | rw [if_neg (b0 c50)]
              | skip
              first
              | (rw [if_pos (b1 c61)]; done)
              | skip
              first
              | rw [if_neg (b0 c61)]
              | skip
            · refine x_bipush (pc := 64) dX2_settingOfWord_64 (by decide) ?_
              refine x_goto (pc := 66) (t := 70) dX2_settingOfWord_66 (by decide) ?_
              refine x_iret (pc := 70) dX2_settingOfWord_70 rfl (by decide) (by decide) ?_
              refine kI k ?_
              unfold setWF
              first
              | (rw [if_pos (b1 c6)]; done)
              | skip
              first
              | rw [if_neg (b0 c6)]
              | skip
              first
              | (rw [if_pos (b1 c17)]; done)
              | skip
              first
              | rw [if_neg (b0 c17)]
              | skip
              first
              | (rw [if_pos (b1 c28)]; done)
              | skip
              first
              | rw [if_neg (b0 c28)]
              | skip
              first
              | (rw [if_pos (b1 c39)]; done)
              | skip
              first
              | rw [if_neg (b0 c39)]
              | skip
              first
              | (rw [if_pos (b1 c50)]; done)
              | skip
              first
              | rw [if_neg (b0 c50)]
              | skip
              first
              | (rw [if_pos (b1 c61)]; done)
              | skip
              first
              | rw [if_neg (b0 c61)]
              | skip
          · refine x_iconst (pc := 53) dX2_settingOfWord_53 ?_
            refine x_iret (pc := 54) dX2_settingOfWord_54 rfl (by decide) (by decide) ?_
            refine kI k ?_
            unfold setWF
            first
            | (rw [if_pos (b1 c6)]; done)
            | skip
            first
            | rw [if_neg (b0 c6)]
            | skip
            first
            | (rw [if_pos (b1 c17)]; done)
            | skip
            first
            | rw [if_neg (b0 c17)]
            | skip
            first
            | (rw [if_pos (b1 c28)]; done)
            | skip
            first
            | rw [if_neg (b0 c28)]
            | skip
            first
            | (rw [if_pos (b1 c39)]; done)
            | skip
            first
            | rw [if_neg (b0 c39)]
            | skip
            first
            | (rw [if_pos (b1 c50)]; done)
            | skip
            first
            | rw [if_neg (b0 c50)]
            | skip
            first
            | (rw [if_pos (b1 c61)]; done)
            | skip
            first
            | rw [if_neg (b0 c61)]
            | skip
        · refine x_iconst (pc := 42) dX2_settingOfWord_42 ?_
          refine x_iret (pc := 43) dX2_settingOfWord_43 rfl (by decide) (by decide) ?_
          refine kI k ?_
          unfold setWF
          first
          | (rw [if_pos (b1 c6)]; done)
          | skip
          first
          | rw [if_neg (b0 c6)]
          | skip
          first
          | (rw [if_pos (b1 c17)]; done)
          | skip
          first
          | rw [if_neg (b0 c17)]
          | skip
          first
          | (rw [if_pos (b1 c28)]; done)
          | skip
          first
          | rw [if_neg (b0 c28)]
          | skip
          first
          | (rw [if_pos (b1 c39)]; done)
          | skip
          first
          | rw [if_neg (b0 c39)]
          | skip
          first
          | (rw [if_pos (b1 c50)]; done)
          | skip
          first
          | rw [if_neg (b0 c50)]
          | skip
          first
          | (rw [if_pos (b1 c61)]; done)
          | skip
          first
          | rw [if_neg (b0 c61)]
          | skip
      · refine x_iconst (pc := 31) dX2_settingOfWord_31 ?_
        refine x_iret (pc := 32) dX2_settingOfWord_32 rfl (by decide) (by decide) ?_
        refine kI k ?_
        unfold setWF
        first
        | (rw [if_pos (b1 c6)]; done)
        | skip
        first
        | rw [if_neg (b0 c6)]
        | skip
        first
        | (rw [if_pos (b1 c17)]; done)
        | skip
        first
        | rw [if_neg (b0 c17)]
        | skip
        first
        | (rw [if_pos (b1 c28)]; done)
        | skip
        first
        | rw [if_neg (b0 c28)]
        | skip
        first
        | (rw [if_pos (b1 c39)]; done)
        | skip
        first
        | rw [if_neg (b0 c39)]
        | skip
        first
        | (rw [if_pos (b1 c50)]; done)
        | skip
        first
        | rw [if_neg (b0 c50)]
        | skip
        first
        | (rw [if_pos (b1 c61)]; done)
        | skip
        first
        | rw [if_neg (b0 c61)]
        | skip
    · refine x_iconst (pc := 20) dX2_settingOfWord_20 ?_
      refine x_iret (pc := 21) dX2_settingOfWord_21 rfl (by decide) (by decide) ?_
      refine kI k ?_
      unfold setWF
      first
      | (rw [if_pos (b1 c6)]; done)
      | skip
      first
      | rw [if_neg (b0 c6)]
      | skip
      first
      | (rw [if_pos (b1 c17)]; done)
      | skip
      first
      | rw [if_neg (b0 c17)]
      | skip
      first
      | (rw [if_pos (b1 c28)]; done)
      | skip
      first
      | rw [if_neg (b0 c28)]
      | skip
      first
      | (rw [if_pos (b1 c39)]; done)
      | skip
      first
      | rw [if_neg (b0 c39)]
      | skip
      first
      | (rw [if_pos (b1 c50)]; done)
      | skip
      first
      | rw [if_neg (b0 c50)]
      | skip
      first
      | (rw [if_pos (b1 c61)]; done)
      | skip
      first
      | rw [if_neg (b0 c61)]
      | skip
  · refine x_iconst (pc := 9) dX2_settingOfWord_9 ?_
    refine x_iret (pc := 10) dX2_settingOfWord_10 rfl (by decide) (by decide) ?_
    refine kI k ?_
    unfold setWF
    first
    | (rw [if_pos (b1 c6)]; done)
    | skip
    first
    | rw [if_neg (b0 c6)]
    | skip
    first
    | (rw [if_pos (b1 c17)]; done)
    | skip
    first
    | rw [if_neg (b0 c17)]
    | skip
    first
    | (rw [if_pos (b1 c28)]; done)
    | skip
    first
    | rw [if_neg (b0 c28)]
    | skip
    first
    | (rw [if_pos (b1 c39)]; done)
    | skip
    first
    | rw [if_neg (b0 c39)]
    | skip
    first
    | (rw [if_pos (b1 c50)]; done)
    | skip
    first
    | rw [if_neg (b0 c50)]
    | skip
    first
    | (rw [if_pos (b1 c61)]; done)
    | skip
    first
    | rw [if_neg (b0 c61)]
    | skip
set_option maxRecDepth 100000 in
theorem sp_X2_actOfWord {g : GG} {lay : Lay} {M : Mem} {K : KK} {c n : Nat} {tx v : Nat → Int} (hP : RdL lay c) (hb0 : g.2.1 ≤ c) (hr : Rd tx n v M c) (hk : TkOK n v) (k : K (.inl (some (vI (actWF tx v)))) lay M) : X g m_X2_actOfWord 0 0 lay M 0 [(0, vR c)] [] K := by
  refine x_aload_n (pc := 0) dX2_actOfWord_0 rfl rfl ?_
  refine x_ldcS (pc := 1) (q := 7) (by decide) dX2_actOfWord_1 ?_
  refine x_callV (pc := 3) [_] rfl kX2_91 dX2_actOfWord_3 hP.1 rfl rfl (by decide) (Nat.le_of_ble_eq_true rfl) (Nat.le_of_ble_eq_true rfl) (by decide) ?_
  refine sp_X2_isWord (q := 7) hP hb0 hr hk (by decide) ?_
  have hz3 := @b01 (isWordP tx v 7) inferInstance
  refine ⟨_, rfl, ?_⟩
  refine x_if_eq (pc := 6) (t := 11) dX2_actOfWord_6 (by decide) ⟨by omega, by omega⟩ (fun c6 => ?_) (fun c6 => ?_)
  · refine x_aload_n (pc := 11) dX2_actOfWord_11 rfl rfl ?_
    refine x_ldcS (pc := 12) (q := 8) (by decide) dX2_actOfWord_12 ?_
    refine x_callV (pc := 14) [_] rfl kX2_91 dX2_actOfWord_14 hP.1 rfl rfl (by decide) (Nat.le_of_ble_eq_true rfl) (Nat.le_of_ble_eq_true rfl) (by decide) ?_
    refine sp_X2_isWord (q := 8) hP hb0 hr hk (by decide) ?_
    have hz14 := @b01 (isWordP tx v 8) inferInstance
    refine ⟨_, rfl, ?_⟩
    refine x_if_eq (pc := 17) (t := 22) dX2_actOfWord_17 (by decide) ⟨by omega, by omega⟩ (fun c17 => ?_) (fun c17 => ?_)
    · refine x_aload_n (pc := 22) dX2_actOfWord_22 rfl rfl ?_
      refine x_ldcS (pc := 23) (q := 9) (by decide) dX2_actOfWord_23 ?_
      refine x_callV (pc := 25) [_] rfl kX2_91 dX2_actOfWord_25 hP.1 rfl rfl (by decide) (Nat.le_of_ble_eq_true rfl) (Nat.le_of_ble_eq_true rfl) (by decide) ?_
      refine sp_X2_isWord (q := 9) hP hb0 hr hk (by decide) ?_
      have hz25 := @b01 (isWordP tx v 9) inferInstance
      refine ⟨_, rfl, ?_⟩
      refine x_if_eq (pc := 28) (t := 35) dX2_actOfWord_28 (by decide) ⟨by omega, by omega⟩ (fun c28 => ?_) (fun c28 => ?_)
      · refine x_iconst (pc := 35) dX2_actOfWord_35 ?_
        refine x_iret (pc := 36) dX2_actOfWord_36 rfl (by decide) (by decide) ?_
        refine kI k ?_
        unfold actWF
        first
        | (rw [if_pos (b1 c6)]; done)
        | skip
        first
        | rw [if_neg (b0 c6)]
        | skip
        first
        | (rw [if_pos (b1 c17)]; done)
        | skip
        first
        | rw [if_neg (b0 c17)]
        | skip
        first
        | (rw [if_pos (b1 c28)]; done)
        | skip
        first
        | rw [if_neg (b0 c28)]
        | skip
      · refine x_iconst (pc := 31) dX2_actOfWord_31 ?_
        refine x_goto (pc := 32) (t := 36) dX2_actOfWord_32 (by decide) ?_
        refine x_iret (pc := 36) dX2_actOfWord_36 rfl (by decide) (by decide) ?_
        refine kI k ?_
        unfold actWF
        first
        | (rw [if_pos (b1 c6)]; done)
        | skip
        first
        | rw [if_neg (b0 c6)]
        | skip
        first
        | (rw [if_pos (b1 c17)]; done)
        | skip
        first
        | rw [if_neg (b0 c17)]
        | skip
        first
        | (rw [if_pos (b1 c28)]; done)
        | skip
        first
        | rw [if_neg (b0 c28)]
        | skip
    · refine x_iconst (pc := 20) dX2_actOfWord_20 ?_
      refine x_iret (pc := 21) dX2_actOfWord_21 rfl (by decide) (by decide) ?_
      refine kI k ?_
      unfold actWF
      first
      | (rw [if_pos (b1 c6)]; done)
      | skip
      first
      | rw [if_neg (b0 c6)]
      | skip
      first
      | (rw [if_pos (b1 c17)]; done)
      | skip
      first
      | rw [if_neg (b0 c17)]
      | skip
      first
      | (rw [if_pos (b1 c28)]; done)
      | skip
      first
      | rw [if_neg (b0 c28)]
      | skip
  · refine x_iconst (pc := 9) dX2_actOfWord_9 ?_
    refine x_iret (pc := 10) dX2_actOfWord_10 rfl (by decide) (by decide) ?_
    refine kI k ?_
    unfold actWF
    first
    | (rw [if_pos (b1 c6)]; done)
    | skip
    first
    | rw [if_neg (b0 c6)]
    | skip
    first
    | (rw [if_pos (b1 c17)]; done)
    | skip
    first
    | rw [if_neg (b0 c17)]
    | skip
    first
    | (rw [if_pos (b1 c28)]; done)
    | skip
    first
    | rw [if_neg (b0 c28)]
    | skip
