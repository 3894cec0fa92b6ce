/-! Specs of the reader: scripts. -/
def Cm (cm : Nat → Int) (M : Mem) (c : Nat) : Prop := ∀ i, i < 240 → M (c + 2) i = cm i
theorem Cm.fr {cm : Nat → Int} {M M' : Mem} {c lo hi : Nat} (h : Cm cm M c) (hF : Frm lo hi M M') (hd : c + 3 ≤ lo ∨ hi ≤ c + 2) : Cm cm M' c := fun i hi => by rw [hF _ _ (by omega)]; exact h i hi
abbrev SC3 : Type := Int × (Nat → Int) × (Nat → Int)
def kpF (cm : Nat → Int) (v : Nat → Int) (p : Nat) (x : Int) : Nat → Int := fup cm (6 * (v 5).toNat + p) x
def rTermF (tx : Nat → Int) (n : Nat) (v cm : Nat → Int) (P : Int) : SC3 :=
  if (intRF tx n v (if v 6 = 3 then -9 else 1) (if v 6 = 3 then -1 else 9)).1 ≠ 1 then (0, (intRF tx n v (if v 6 = 3 then -9 else 1) (if v 6 = 3 then -1 else 9)).2, cm)
  else if (numRF tx n (intRF tx n v (if v 6 = 3 then -9 else 1) (if v 6 = 3 then -1 else 9)).2 0 (P - 1)).1 ≠ 1 then (0, (numRF tx n (intRF tx n v (if v 6 = 3 then -9 else 1) (if v 6 = 3 then -1 else 9)).2 0 (P - 1)).2, kpF cm v 1 ((intRF tx n v (if v 6 = 3 then -9 else 1) (if v 6 = 3 then -1 else 9)).2 10))
  else (1, (numRF tx n (intRF tx n v (if v 6 = 3 then -9 else 1) (if v 6 = 3 then -1 else 9)).2 0 (P - 1)).2, kpF (kpF cm v 1 ((intRF tx n v (if v 6 = 3 then -9 else 1) (if v 6 = 3 then -1 else 9)).2 10)) v 2 ((numRF tx n (intRF tx n v (if v 6 = 3 then -9 else 1) (if v 6 = 3 then -1 else 9)).2 0 (P - 1)).2 10))
/-- the end of a claim: roots and stake -/
def rCl3 (tx : Nat → Int) (n : Nat) (u v cm : Nat → Int) : SC3 :=
  if (numRF tx n v 1 9).1 ≠ 1 then (0, (numRF tx n v 1 9).2, cm) else (1, (numRF tx n v 1 9).2, kpF cm u 5 ((numRF tx n v 1 9).2 10))
def rCl2 (tx : Nat → Int) (n : Nat) (u v cm : Nat → Int) : SC3 :=
  if (numRF tx n v 0 4).1 ≠ 1 then (0, (numRF tx n v 0 4).2, cm) else rCl3 tx n u (numRF tx n v 0 4).2 (kpF cm u 3 ((numRF tx n v 0 4).2 10))
def rCl1 (tx : Nat → Int) (n : Nat) (u v cm : Nat → Int) (from_ : Int) : SC3 :=
  if (intRF tx n v (from_ + 1) 20).1 ≠ 1 then (0, (intRF tx n v (from_ + 1) 20).2, cm) else rCl2 tx n u (intRF tx n v (from_ + 1) 20).2 (kpF cm u 2 ((intRF tx n v (from_ + 1) 20).2 10))
def rCl0 (tx : Nat → Int) (n : Nat) (u v cm : Nat → Int) : SC3 :=
  if (intRF tx n v (-20) 19).1 ≠ 1 then (0, (intRF tx n v (-20) 19).2, cm) else rCl1 tx n u (intRF tx n v (-20) 19).2 (kpF cm u 1 ((intRF tx n v (-20) 19).2 10)) ((intRF tx n v (-20) 19).2 10)
def rClaimF (tx : Nat → Int) (n : Nat) (v cm : Nat → Int) : SC3 :=
  if ¬ isWordP tx v 10 ∧ ¬ isWordP tx v 11 then (0, (failF v 1).2, cm) else rCl0 tx n v (tokF tx n v) (kpF cm v 4 (if isWordP tx v 10 then 1 else 0))
def rCmdF (tx : Nat → Int) (n : Nat) (v cm : Nat → Int) (P : Int) : SC3 :=
  if actWF tx v = -1 then (0, (failF v 1).2, cm) else if 40 ≤ v 5 then (0, (failF v 5).2, cm)
  else if actWF tx v = 0 then rTermF tx n (tokF tx n v) (kpF cm v 0 (actWF tx v)) P
  else if actWF tx v = 2 then (1, tokF tx n v, kpF cm v 0 (actWF tx v))
  else rClaimF tx n (tokF tx n v) (kpF cm v 0 (actWF tx v))
theorem actWF_rng (tx v : Nat → Int) : -1 ≤ actWF tx v ∧ actWF tx v ≤ 2 := by
  unfold actWF
  repeat' split
  all_goals omega

set_option maxRecDepth 100000 in
theorem sp_X2_argument {g : GG} {lay : Lay} {M : Mem} {K : KK} {c : Nat} {cm : Nat → Int} {i j : Nat} (hP : RdL lay c) (hm : Cm cm M c) (hi : i < 40) (hj : j < 6) (k : K (.inl (some (vI (cm (6 * i + j))))) lay M) : X g m_X2_argument 0 0 lay M 0 [(0, vR c), (1, vI i), (2, vI j)] [] K := by
  have e1 := hm (6 * i + j) (by omega)
  refine x_iload_n (pc := 0) dX2_argument_0 rfl rfl ?_
  refine x_bipush (pc := 1) dX2_argument_1 (by decide) ?_
  refine x_imul (pc := 3) dX2_argument_3 ?_
  refine x_iload_n (pc := 4) dX2_argument_4 rfl rfl ?_
  refine x_iadd (pc := 5) dX2_argument_5 ?_
  refine x_istore_n (pc := 6) dX2_argument_6 rfl (by decide) (L' := [(3, _), (0, _), (1, _), (2, _)]) rfl ?_
  refine x_iload_n (pc := 7) dX2_argument_7 rfl rfl ?_
  refine x_if_lt (pc := 8) (t := 29) dX2_argument_8 (by decide) ⟨by omega, by omega⟩ (fun c8 => ?_) (fun c8 => ?_)
  · exfalso; omega
  · refine x_iload_n (pc := 11) dX2_argument_11 rfl rfl ?_
    refine x_aload_n (pc := 12) dX2_argument_12 rfl rfl ?_
    refine x_getr (pc := 13) (b := c + 2) fX2_15 dX2_argument_13 hP.1 rfl rfl ?_
    refine x_alen (pc := 16) dX2_argument_16 hP.2.2 (fun r16a => ?_)
    refine x_icmp_ge (pc := 17) (t := 29) dX2_argument_17 (by decide) ⟨by omega, by omega⟩ ⟨by omega, by omega⟩ (fun c17 => ?_) (fun c17 => ?_)
    · exfalso; omega
    · refine x_aload_n (pc := 20) dX2_argument_20 rfl rfl ?_
      refine x_getr (pc := 21) (b := c + 2) fX2_15 dX2_argument_21 hP.1 rfl rfl ?_
      refine x_iload_n (pc := 24) dX2_argument_24 rfl rfl ?_
      refine x_iald (pc := 25) dX2_argument_25 hP.2.2 (by omega) (by omega) (fun r25a r25b => ?_)
      rw [show ((i : Int) * 6 + (j : Int)).toNat = 6 * i + j by omega, e1] at r25a r25b ⊢
      refine x_goto (pc := 26) (t := 30) dX2_argument_26 (by decide) ?_
      refine x_iret (pc := 30) dX2_argument_30 rfl (by decide) (by decide) ?_
      exact k
set_option maxRecDepth 100000 in
theorem sp_X2_keep {g : GG} {lay : Lay} {M : Mem} {K : KK} {c n : Nat} {tx v : Nat → Int} {cm : Nat → Int} {p : Nat} {x : Int} (hP : RdL lay c) (hb0 : g.2.1 ≤ c) (hr : Rd tx n v M c) (hm : Cm cm M c) (h5 : 0 ≤ v 5 ∧ v 5 < 40) (hp : p < 6) (hx : i32 x) (k : ∀ M2, Frm (c + 2) (c + 3) M M2 → Rd tx n v M2 c → Cm (kpF cm v p x) M2 c → K (.inl (some (vI 1))) lay M2) : X g m_X2_keep 0 0 lay M 0 [(0, vR c), (1, vI p), (2, vI x)] [] K := by
  obtain ⟨hx1, hx2⟩ := hx
  have e5 := hr.at 5 (by decide) (by decide)
  refine x_aload_n (pc := 0) dX2_keep_0 rfl rfl ?_
  refine x_geti (pc := 1) fX2_60 dX2_keep_1 hP.1 rfl (fun r1a r1b => ?_)
  rw [e5] at r1a r1b ⊢
  refine x_bipush (pc := 4) dX2_keep_4 (by decide) ?_
  refine x_imul (pc := 6) dX2_keep_6 ?_
  refine x_iload_n (pc := 7) dX2_keep_7 rfl rfl ?_
  refine x_iadd (pc := 8) dX2_keep_8 ?_
  refine x_istore_n (pc := 9) dX2_keep_9 rfl (by decide) (L' := [(3, _), (0, _), (1, _), (2, _)]) rfl ?_
  refine x_iload_n (pc := 10) dX2_keep_10 rfl rfl ?_
  refine x_if_lt (pc := 11) (t := 30) dX2_keep_11 (by decide) ⟨by omega, by omega⟩ (fun c11 => ?_) (fun c11 => ?_)
  · exfalso; omega
  · refine x_iload_n (pc := 14) dX2_keep_14 rfl rfl ?_
    refine x_aload_n (pc := 15) dX2_keep_15 rfl rfl ?_
    refine x_getr (pc := 16) (b := c + 2) fX2_15 dX2_keep_16 hP.1 rfl rfl ?_
    refine x_alen (pc := 19) dX2_keep_19 hP.2.2 (fun r19a => ?_)
    refine x_icmp_ge (pc := 20) (t := 30) dX2_keep_20 (by decide) ⟨by omega, by omega⟩ ⟨by omega, by omega⟩ (fun c20 => ?_) (fun c20 => ?_)
    · exfalso; omega
    · refine x_aload_n (pc := 23) dX2_keep_23 rfl rfl ?_
      refine x_getr (pc := 24) (b := c + 2) fX2_15 dX2_keep_24 hP.1 rfl rfl ?_
      refine x_iload_n (pc := 27) dX2_keep_27 rfl rfl ?_
      refine x_iload_n (pc := 28) dX2_keep_28 rfl rfl ?_
      refine x_iast (pc := 29) dX2_keep_29 hP.2.2 (by omega) (by omega) (by omega) ⟨by omega, by omega⟩ ?_
      refine x_iconst (pc := 30) dX2_keep_30 ?_
      refine x_zret (pc := 31) dX2_keep_31 rfl ⟨by omega, by omega⟩ (by decide) (by decide) ?_
      rw [show (v 5 * 6 + (p : Int)).toNat = 6 * (v 5).toNat + p by omega]
      have hF : Frm (c + 2) (c + 3) M (mset M (c + 2) (6 * (v 5).toNat + p) x) := Frm.rf.ms (by omega)
      refine k _ hF (hr.fr hF (by omega)) (fun i hi => ?_)
      unfold kpF
      by_cases e : i = 6 * (v 5).toNat + p
      · rw [e, mset_same, fup_at]
      · rw [mset_nei e, fup_ne e]
        exact hm i hi
set_option maxRecDepth 100000 in
theorem sp_X2_readTerm {g : GG} {lay : Lay} {M : Mem} {K : KK} {c n : Nat} {tx v : Nat → Int} {cm : Nat → Int} {P : Int} (hP : RdL lay c) (hb0 : g.2.1 ≤ c) (hr : Rd tx n v M c) (hk : TkOK n v) (hm : Cm cm M c) (h5 : 0 ≤ v 5 ∧ v 5 < 40) (hP5 : 2 ≤ P ∧ P ≤ 5) (k : ∀ M2, Frm c (c + 3) M M2 → Rd tx n (rTermF tx n v cm P).2.1 M2 c → Cm (rTermF tx n v cm P).2.2 M2 c → K (.inl (some (vI (rTermF tx n v cm P).1))) lay M2) : X g m_X2_readTerm 0 0 lay M 0 [(0, vR c), (1, vI P)] [] K := by
  have e6 := hr.at 6 (by decide) (by decide)
  unfold rTermF at k
  have rest : ∀ lo hi : Int, lo = (if v 6 = 3 then -9 else 1) → hi = (if v 6 = 3 then -1 else 9) → X g m_X2_readTerm 0 0 lay M 30 [(3, vI hi), (2, vI lo), (0, vR c), (1, vI P)] [] K := by
    intro lo hi hlo hhi
    have hb : -9 ≤ lo ∧ lo ≤ 1 ∧ -1 ≤ hi ∧ hi ≤ 9 := by
      rw [hlo, hhi]
      split <;> omega
    rw [← hlo, ← hhi] at k
    have hi1 := int_1 (tx := tx) (n := n) (v := v) (lo := lo) (hi := hi)
    have hi5 : (intRF tx n v lo hi).2 5 = v 5 := int_ne (by omega)
    have hkR : TkOK n (intRF tx n v lo hi).2 := hk.int
    generalize hR : intRF tx n v lo hi = R at *
    have hn1 := num_1 (tx := tx) (n := n) (v := R.2) (lo := 0) (hi := P - 1)
    have hn5 : (numRF tx n R.2 0 (P - 1)).2 5 = R.2 5 := num_ne (by omega)
    generalize hQ : numRF tx n R.2 0 (P - 1) = Q at *
    have k1 : ∀ x, kpF cm v 1 x = kpF cm R.2 1 x := fun x => by unfold kpF; rw [hi5]
    have k2 : ∀ cm x, kpF cm v 2 x = kpF cm Q.2 2 x := fun cm x => by unfold kpF; rw [hn5, hi5]
    rw [k1, k2] at k
    refine x_aload_n (pc := 30) dX2_readTerm_30 rfl rfl ?_
    refine x_iload_n (pc := 31) dX2_readTerm_31 rfl rfl ?_
    refine x_iload_n (pc := 32) dX2_readTerm_32 rfl rfl ?_
    refine x_callV (pc := 33) [_, _] rfl kX2_132 dX2_readTerm_33 hP.1 rfl rfl (by decide) (Nat.le_of_ble_eq_true rfl) (Nat.le_of_ble_eq_true rfl) (by decide) ?_
    refine sp_X2_readInteger hP hb0 hr hk ⟨by omega, by omega⟩ ⟨by omega, by omega⟩ (fun M2 hF2 hr2 => ?_)
    rw [hR] at hr2 ⊢
    have hm2 := hm.fr hF2 (by omega)
    refine ⟨_, rfl, ?_⟩
    refine x_if_eq (pc := 36) (t := 78) dX2_readTerm_36 (by decide) ⟨by omega, by omega⟩ (fun c36 => ?_) (fun c36 => ?_)
    · refine x_iconst (pc := 78) dX2_readTerm_78 ?_
      refine x_zret (pc := 79) dX2_readTerm_79 rfl ⟨by omega, by omega⟩ (by decide) (by decide) ?_
      first
      | (rw [if_pos (by omega)] at k
         exact k _ (hF2.wide (by omega) (by omega)) hr2 hm2)
      | (rw [if_neg (by omega), if_pos (by omega)] at k
         exact k _ (((hF2.wide (by omega) (by omega)).trans (hFM3.wide (by omega) (by omega))).trans (hF4.wide (by omega) (by omega))) hr4 hm4)
      | (rw [if_neg (by omega), if_neg (by omega)] at k
         exact k _ ((((hF2.wide (by omega) (by omega)).trans (hFM3.wide (by omega) (by omega))).trans (hF4.wide (by omega) (by omega))).trans (hFM5.wide (by omega) (by omega))) hrM5 hmM5)
    · refine x_aload_n (pc := 39) dX2_readTerm_39 rfl rfl ?_
      refine x_iconst (pc := 40) dX2_readTerm_40 ?_
      refine x_aload_n (pc := 41) dX2_readTerm_41 rfl rfl ?_
      refine x_geti (pc := 42) fX2_76 dX2_readTerm_42 hP.1 rfl (fun r42a r42b => ?_)
      refine x_callV (pc := 45) [_, _] rfl kX2_144 dX2_readTerm_45 hP.1 rfl rfl (by decide) (Nat.le_of_ble_eq_true rfl) (Nat.le_of_ble_eq_true rfl) (by decide) ?_
      rw [hr2.at 10 (by decide) (by decide)]
      refine sp_X2_keep (p := 1) hP hb0 hr2 hm2 (by omega) (by decide) ⟨by omega, by omega⟩ (fun M3 hFM3 hrM3 hmM3 => ?_)
      refine ⟨_, rfl, ?_⟩
      refine x_if_eq (pc := 48) (t := 78) dX2_readTerm_48 (by decide) ⟨by omega, by omega⟩ (fun c48 => ?_) (fun c48 => ?_)
      · exfalso; omega
      · refine x_aload_n (pc := 51) dX2_readTerm_51 rfl rfl ?_
        refine x_iconst (pc := 52) dX2_readTerm_52 ?_
        refine x_iload_n (pc := 53) dX2_readTerm_53 rfl rfl ?_
        refine x_iconst (pc := 54) dX2_readTerm_54 ?_
        refine x_isub (pc := 55) dX2_readTerm_55 ?_
        refine x_callV (pc := 56) [_, _] rfl kX2_123 dX2_readTerm_56 hP.1 rfl rfl (by decide) (Nat.le_of_ble_eq_true rfl) (Nat.le_of_ble_eq_true rfl) (by decide) ?_
        refine sp_X2_readNumber hP hb0 hrM3 hkR (by decide) ⟨by omega, by omega⟩ (fun M4 hF4 hr4 => ?_)
        rw [hQ] at hr4 ⊢
        have hm4 := hmM3.fr hF4 (by omega)
        refine ⟨_, rfl, ?_⟩
        refine x_if_eq (pc := 59) (t := 78) dX2_readTerm_59 (by decide) ⟨by omega, by omega⟩ (fun c59 => ?_) (fun c59 => ?_)
        · refine x_iconst (pc := 78) dX2_readTerm_78 ?_
          refine x_zret (pc := 79) dX2_readTerm_79 rfl ⟨by omega, by omega⟩ (by decide) (by decide) ?_
          first
          | (rw [if_pos (by omega)] at k
             exact k _ (hF2.wide (by omega) (by omega)) hr2 hm2)
          | (rw [if_neg (by omega), if_pos (by omega)] at k
             exact k _ (((hF2.wide (by omega) (by omega)).trans (hFM3.wide (by omega) (by omega))).trans (hF4.wide (by omega) (by omega))) hr4 hm4)
          | (rw [if_neg (by omega), if_neg (by omega)] at k
             exact k _ ((((hF2.wide (by omega) (by omega)).trans (hFM3.wide (by omega) (by omega))).trans (hF4.wide (by omega) (by omega))).trans (hFM5.wide (by omega) (by omega))) hrM5 hmM5)
        · refine x_aload_n (pc := 62) dX2_readTerm_62 rfl rfl ?_
          refine x_iconst (pc := 63) dX2_readTerm_63 ?_
          refine x_aload_n (pc := 64) dX2_readTerm_64 rfl rfl ?_
          refine x_geti (pc := 65) fX2_76 dX2_readTerm_65 hP.1 rfl (fun r65a r65b => ?_)
          refine x_callV (pc := 68) [_, _] rfl kX2_144 dX2_readTerm_68 hP.1 rfl rfl (by decide) (Nat.le_of_ble_eq_true rfl) (Nat.le_of_ble_eq_true rfl) (by decide) ?_
          rw [hr4.at 10 (by decide) (by decide)]
          refine sp_X2_keep (p := 2) hP hb0 hr4 hm4 (by omega) (by decide) ⟨by omega, by omega⟩ (fun M5 hFM5 hrM5 hmM5 => ?_)
          refine ⟨_, rfl, ?_⟩
          refine x_if_eq (pc := 71) (t := 78) dX2_readTerm_71 (by decide) ⟨by omega, by omega⟩ (fun c71 => ?_) (fun c71 => ?_)
          · exfalso; omega
          · refine x_iconst (pc := 74) dX2_readTerm_74 ?_
            refine x_goto (pc := 75) (t := 79) dX2_readTerm_75 (by decide) ?_
            refine x_zret (pc := 79) dX2_readTerm_79 rfl ⟨by omega, by omega⟩ (by decide) (by decide) ?_
            first
            | (rw [if_pos (by omega)] at k
               exact k _ (hF2.wide (by omega) (by omega)) hr2 hm2)
            | (rw [if_neg (by omega), if_pos (by omega)] at k
               exact k _ (((hF2.wide (by omega) (by omega)).trans (hFM3.wide (by omega) (by omega))).trans (hF4.wide (by omega) (by omega))) hr4 hm4)
            | (rw [if_neg (by omega), if_neg (by omega)] at k
               exact k _ ((((hF2.wide (by omega) (by omega)).trans (hFM3.wide (by omega) (by omega))).trans (hF4.wide (by omega) (by omega))).trans (hFM5.wide (by omega) (by omega))) hrM5 hmM5)
  refine x_aload_n (pc := 0) dX2_readTerm_0 rfl rfl ?_
  refine x_geti (pc := 1) fX2_36 dX2_readTerm_1 hP.1 rfl (fun r1a r1b => ?_)
  refine x_iconst (pc := 4) dX2_readTerm_4 ?_
  rw [e6] at r1a r1b ⊢
  refine x_icmp_ne (pc := 5) (t := 13) dX2_readTerm_5 (by decide) ⟨by omega, by omega⟩ ⟨by omega, by omega⟩ (fun c5 => ?_) (fun c5 => ?_)
  · refine x_iconst (pc := 13) dX2_readTerm_13 ?_
    refine x_istore_n (pc := 14) dX2_readTerm_14 rfl (by decide) (L' := [(2, _), (0, _), (1, _)]) rfl ?_
    refine x_aload_n (pc := 15) dX2_readTerm_15 rfl rfl ?_
    refine x_geti (pc := 16) fX2_36 dX2_readTerm_16 hP.1 rfl (fun r16a r16b => ?_)
    refine x_iconst (pc := 19) dX2_readTerm_19 ?_
    rw [e6] at r16a r16b ⊢
    refine x_icmp_ne (pc := 20) (t := 27) dX2_readTerm_20 (by decide) ⟨by omega, by omega⟩ ⟨by omega, by omega⟩ (fun c20 => ?_) (fun c20 => ?_)
    · refine x_bipush (pc := 27) dX2_readTerm_27 (by decide) ?_
      refine x_istore_n (pc := 29) dX2_readTerm_29 rfl (by decide) (L' := [(3, _), (2, _), (0, _), (1, _)]) rfl ?_
      refine X.loc [0, 1, 2, 3] (L' := [(3, _), (2, _), (0, _), (1, _)]) rfl ?_
      first
      | (exfalso; omega)
      | exact rest _ _ (by rw [if_pos (by omega)]) (by rw [if_pos (by omega)])
      | exact rest _ _ (by rw [if_neg (by omega)]) (by rw [if_neg (by omega)])
    · refine x_iconst (pc := 23) dX2_readTerm_23 ?_
      refine x_goto (pc := 24) (t := 29) dX2_readTerm_24 (by decide) ?_
      refine x_istore_n (pc := 29) dX2_readTerm_29 rfl (by decide) (L' := [(3, _), (2, _), (0, _), (1, _)]) rfl ?_
      refine X.loc [0, 1, 2, 3] (L' := [(3, _), (2, _), (0, _), (1, _)]) rfl ?_
      first
      | (exfalso; omega)
      | exact rest _ _ (by rw [if_pos (by omega)]) (by rw [if_pos (by omega)])
      | exact rest _ _ (by rw [if_neg (by omega)]) (by rw [if_neg (by omega)])
  · refine x_bipush (pc := 8) dX2_readTerm_8 (by decide) ?_
    refine x_goto (pc := 10) (t := 14) dX2_readTerm_10 (by decide) ?_
    refine x_istore_n (pc := 14) dX2_readTerm_14 rfl (by decide) (L' := [(2, _), (0, _), (1, _)]) rfl ?_
    refine x_aload_n (pc := 15) dX2_readTerm_15 rfl rfl ?_
    refine x_geti (pc := 16) fX2_36 dX2_readTerm_16 hP.1 rfl (fun r16a r16b => ?_)
    refine x_iconst (pc := 19) dX2_readTerm_19 ?_
    rw [e6] at r16a r16b ⊢
    refine x_icmp_ne (pc := 20) (t := 27) dX2_readTerm_20 (by decide) ⟨by omega, by omega⟩ ⟨by omega, by omega⟩ (fun c20 => ?_) (fun c20 => ?_)
    · refine x_bipush (pc := 27) dX2_readTerm_27 (by decide) ?_
      refine x_istore_n (pc := 29) dX2_readTerm_29 rfl (by decide) (L' := [(3, _), (2, _), (0, _), (1, _)]) rfl ?_
      refine X.loc [0, 1, 2, 3] (L' := [(3, _), (2, _), (0, _), (1, _)]) rfl ?_
      first
      | (exfalso; omega)
      | exact rest _ _ (by rw [if_pos (by omega)]) (by rw [if_pos (by omega)])
      | exact rest _ _ (by rw [if_neg (by omega)]) (by rw [if_neg (by omega)])
    · refine x_iconst (pc := 23) dX2_readTerm_23 ?_
      refine x_goto (pc := 24) (t := 29) dX2_readTerm_24 (by decide) ?_
      refine x_istore_n (pc := 29) dX2_readTerm_29 rfl (by decide) (L' := [(3, _), (2, _), (0, _), (1, _)]) rfl ?_
      refine X.loc [0, 1, 2, 3] (L' := [(3, _), (2, _), (0, _), (1, _)]) rfl ?_
      first
      | (exfalso; omega)
      | exact rest _ _ (by rw [if_pos (by omega)]) (by rw [if_pos (by omega)])
      | exact rest _ _ (by rw [if_neg (by omega)]) (by rw [if_neg (by omega)])
