/-! Specs of the reader: setups. -/
def orF (a : Int) (n : Nat) : Int := if (a.toNat / 2 ^ n) % 2 = 0 then (a.toNat : Int) + 2 ^ n else a.toNat
theorem orF_128 {a : Int} {n : Nat} (h : 0 ≤ a ∧ a < 128) (hn : n < 7) : 0 ≤ orF a n ∧ orF a n < 128 := by
  have : ∀ a : Nat, a < 128 → ∀ n : Nat, n < 7 → 0 ≤ orF (a : Int) n ∧ orF (a : Int) n < 128 := by decide
  obtain ⟨b, rfl⟩ := Int.eq_ofNat_of_zero_le h.1
  exact this b (by omega) n hn
theorem orF_32 {a : Int} {n : Nat} (h : 0 ≤ a ∧ a < 32) (hn : n < 5) : 0 ≤ orF a n ∧ orF a n < 32 := by
  have : ∀ a : Nat, a < 32 → ∀ n : Nat, n < 5 → 0 ≤ orF (a : Int) n ∧ orF (a : Int) n < 32 := by decide
  obtain ⟨b, rfl⟩ := Int.eq_ofNat_of_zero_le h.1
  exact this b (by omega) n hn
def bitF (a : Int) (n : Nat) : Int := a / 2 ^ n % 2 ^ 1
theorem tok_ne {tx : Nat → Int} {n : Nat} {v : Nat → Int} {j : Nat} (h : j < 6 ∨ 9 < j) : tokF tx n v j = v j := by
  unfold tokF tset
  rw [if_neg (by omega), if_neg (by omega), if_neg (by omega), if_neg (by omega)]
theorem fail_ne {v : Nat → Int} {x : Int} {j : Nat} (h : 4 < j) : (failF v x).2 j = v j := by
  show fup (fup v 3 x) 4 (v 7) j = v j
  rw [fup_ne (by omega), fup_ne (by omega)]
theorem num_ne {tx : Nat → Int} {n : Nat} {v : Nat → Int} {lo hi : Int} {j : Nat} (h : j = 5 ∨ 10 < j) : (numRF tx n v lo hi).2 j = v j := by
  unfold numRF
  split
  · exact fail_ne (by omega)
  · split
    · exact fail_ne (by omega)
    · show tokF tx n _ j = v j
      rw [tok_ne (by omega), fup_ne (by omega)]
theorem min_ne {tx : Nat → Int} {n : Nat} {v : Nat → Int} {j : Nat} (h : j < 6 ∨ 9 < j) : minF tx n v j = v j := by
  unfold minF
  split
  · exact tok_ne h
  · rfl
theorem int_ne {tx : Nat → Int} {n : Nat} {v : Nat → Int} {lo hi : Int} {j : Nat} (h : j = 5 ∨ 10 < j) : (intRF tx n v lo hi).2 j = v j := by
  unfold intRF
  split
  · rw [fail_ne (by omega), min_ne (by omega)]
  · split
    · rw [fail_ne (by omega), min_ne (by omega)]
    · show tokF tx n _ j = v j
      rw [tok_ne (by omega), fup_ne (by omega), min_ne (by omega)]
theorem num_1 {tx : Nat → Int} {n : Nat} {v : Nat → Int} {lo hi : Int} : ((numRF tx n v lo hi).1 = 1 ∧ lo ≤ (numRF tx n v lo hi).2 10 ∧ (numRF tx n v lo hi).2 10 ≤ hi) ∨ (numRF tx n v lo hi).1 = 0 := by
  unfold numRF
  split
  · exact Or.inr rfl
  · split
    · exact Or.inr rfl
    · refine Or.inl ⟨rfl, ?_⟩
      dsimp only
      rw [tok_ne (j := 10) (by omega), fup_at]
      omega
theorem int_1 {tx : Nat → Int} {n : Nat} {v : Nat → Int} {lo hi : Int} : ((intRF tx n v lo hi).1 = 1 ∧ lo ≤ (intRF tx n v lo hi).2 10 ∧ (intRF tx n v lo hi).2 10 ≤ hi) ∨ (intRF tx n v lo hi).1 = 0 := by
  unfold intRF
  split
  · exact Or.inr rfl
  · split
    · exact Or.inr rfl
    · refine Or.inl ⟨rfl, ?_⟩
      dsimp only
      rw [tok_ne (j := 10) (by omega), fup_at]
      omega
abbrev SR3 : Type := Int × (Nat → Int) × CT
def setS (T : CT) (i : Nat) (x : Int) : CT := (fup (tS T) i x, tP T, tN T, tC T, tQ T, tK T, tL T, tO T, tB T)
def rSetF (tx : Nat → Int) (n : Nat) (v : Nat → Int) (T : CT) (i : Nat) : SR3 := if (numRF tx n v (tabF 1 i) (tabF 2 i)).1 = 1 then (1, (numRF tx n v (tabF 1 i) (tabF 2 i)).2, setS T i ((numRF tx n v (tabF 1 i) (tabF 2 i)).2 10)) else (0, (numRF tx n v (tabF 1 i) (tabF 2 i)).2, T)
theorem Ct.setS {T : CT} {M : Mem} {c i : Nat} {x : Int} (h : Ct T M c) (hi : i < 7) : Ct (setS T i x) (mset M (c + 1) i x) c := by
  obtain ⟨h1, h2, h3, h4, h5, h6, h7, h8⟩ := h
  refine ⟨fun j hj => ?_, fun j hj => ?_, ?_, fun j hj => ?_, fun j hj => ?_, fun p i f hp hi hf2 => ?_, ?_, ?_⟩
  · show _ = fup (tS T) i x j
    by_cases e : j = i
    · rw [e, fup_at, mset_same]
    · rw [fup_ne e, mset_nei e]; exact h1 j hj
  · rw [mset_nea (by omega)]; exact h2 j hj
  · rw [mset_nea (by omega)]; exact h3
  · rw [mset_nea (by omega), mset_nea (by omega)]; exact h4 j hj
  · rw [mset_nea (by omega)]; exact h5 j hj
  · rw [mset_nea (by omega)]; exact h6 p i f hp hi hf2
  · rw [mset_nea (by omega)]; exact h7
  · rw [mset_nea (by omega)]; exact h8
/-- only the reader's fields and the draft may differ -/
def FrR (c z : Nat) (M M' : Mem) : Prop := ∀ a j, ¬ a = c → ¬ (z ≤ a ∧ a < z + 7) → M' a j = M a j
theorem FrR.rf {c z : Nat} {M : Mem} : FrR c z M M := fun _ _ _ _ => rfl
theorem FrR.tr {c z : Nat} {M M' M'' : Mem} (h : FrR c z M M') (h2 : FrR c z M' M'') : FrR c z M M'' := fun a j q1 q2 => (h2 a j q1 q2).trans (h a j q1 q2)
theorem FrR.of {c z : Nat} {M M' : Mem} (h : Frm c (c + 1) M M') : FrR c z M M' := fun a j q1 q2 => h a j (by omega)
theorem FrR.ms {c z : Nat} {M M' : Mem} {a i : Nat} {x : Int} (h : FrR c z M M') (ha : a = c ∨ (z ≤ a ∧ a < z + 7)) : FrR c z M (mset M' a i x) := fun b j q1 q2 => by
  rw [mset_nea (by omega)]
  exact h b j q1 q2

set_option maxRecDepth 100000 in
theorem sp_X2_readSetting {g : GG} {lay : Lay} {M : Mem} {K : KK} {c n : Nat} {tx v : Nat → Int} {z : Nat} {T : CT} {i : Nat} (hP : RdL lay c) (hb0 : g.2.1 ≤ c) (hr : Rd tx n v M c) (hk : TkOK n v) (hC : CtL lay z) (hz0 : g.2.1 ≤ z) (hT : Ct T M z) (hcz : z + 7 ≤ c ∨ c + 3 ≤ z) (hi : i < 7) (k : ∀ M2, FrR c z M M2 → Rd tx n (rSetF tx n v T i).2.1 M2 c → Ct (rSetF tx n v T i).2.2 M2 z → K (.inl (some (vI (rSetF tx n v T i).1))) lay M2) : X g m_X2_readSetting 0 0 lay M 0 [(0, vR c), (1, vR z), (2, vI i)] [] K := by
  have t1 := tabF_rng 1 i
  have t2 := tabF_rng 2 i
  have hn1 := num_1 (tx := tx) (n := n) (v := v) (lo := tabF 1 i) (hi := tabF 2 i)
  unfold rSetF at k
  refine x_iload_n (pc := 0) dX2_readSetting_0 rfl rfl ?_
  refine x_if_lt (pc := 1) (t := 10) dX2_readSetting_1 (by decide) ⟨by omega, by omega⟩ (fun c1 => ?_) (fun c1 => ?_)
  · exfalso; omega
  · refine x_iload_n (pc := 4) dX2_readSetting_4 rfl rfl ?_
    refine x_bipush (pc := 5) dX2_readSetting_5 (by decide) ?_
    refine x_icmp_lt (pc := 7) (t := 16) dX2_readSetting_7 (by decide) ⟨by omega, by omega⟩ ⟨by omega, by omega⟩ (fun c7 => ?_) (fun c7 => ?_)
    · refine x_aload_n (pc := 16) dX2_readSetting_16 rfl rfl ?_
      refine x_gets (pc := 17) (q := 1) kgX2_117 (by decide) dX2_readSetting_17 ?_
      refine x_iload_n (pc := 20) dX2_readSetting_20 rfl rfl ?_
      refine x_tald (pc := 21) dX2_readSetting_21 (by decide) (by omega) (by omega) ?_
      refine x_gets (pc := 22) (q := 2) kgX2_120 (by decide) dX2_readSetting_22 ?_
      refine x_iload_n (pc := 25) dX2_readSetting_25 rfl rfl ?_
      refine x_tald (pc := 26) dX2_readSetting_26 (by decide) (by omega) (by omega) ?_
      refine x_callV (pc := 27) [_, _] rfl kX2_123 dX2_readSetting_27 hP.1 rfl rfl (by decide) (Nat.le_of_ble_eq_true rfl) (Nat.le_of_ble_eq_true rfl) (by decide) ?_
      rw [Int.toNat_natCast]
      refine sp_X2_readNumber hP hb0 hr hk t1 t2 (fun M2 hF2 hr2 => ?_)
      have hT2 := hT.frm hF2 (by omega)
      have a10 := hr2.at 10 (by decide) (by decide)
      generalize numRF tx n v (tabF 1 i) (tabF 2 i) = R at *
      refine ⟨_, rfl, ?_⟩
      refine x_if_ne (pc := 30) (t := 35) dX2_readSetting_30 (by decide) ⟨by omega, by omega⟩ (fun c30 => ?_) (fun c30 => ?_)
      · refine x_aload_n (pc := 35) dX2_readSetting_35 rfl rfl ?_
        refine x_getr (pc := 36) (b := z + 1) fX2_127 dX2_readSetting_36 hC.1 rfl rfl ?_
        refine x_iload_n (pc := 39) dX2_readSetting_39 rfl rfl ?_
        refine x_aload_n (pc := 40) dX2_readSetting_40 rfl rfl ?_
        refine x_geti (pc := 41) fX2_76 dX2_readSetting_41 hP.1 rfl (fun r41a r41b => ?_)
        rw [a10] at r41a r41b ⊢
        refine x_iast (pc := 44) dX2_readSetting_44 hC.2.1 (by omega) (by omega) (by omega) ⟨by omega, by omega⟩ ?_
        refine x_iconst (pc := 45) dX2_readSetting_45 ?_
        refine x_zret (pc := 46) dX2_readSetting_46 rfl ⟨by omega, by omega⟩ (by decide) (by decide) ?_
        rw [if_pos (by omega)] at k
        rw [Int.toNat_natCast]
        exact k _ ((FrR.of hF2).ms (by omega)) (hr2.fr (lo := z + 1) (hi := z + 2) (Frm.rf.ms (by omega)) (by omega)) (hT2.setS hi)
      · refine x_iconst (pc := 33) dX2_readSetting_33 ?_
        refine x_zret (pc := 34) dX2_readSetting_34 rfl ⟨by omega, by omega⟩ (by decide) (by decide) ?_
        rw [if_neg (by omega)] at k
        exact k _ (FrR.of hF2) hr2 hT2
    · exfalso; omega
def rStartF (tx : Nat → Int) (n : Nat) (v : Nat → Int) (T : CT) : SR3 :=
  if (intRF tx n (tokF tx n v) (-30) 30).1 ≠ 1 then (0, (intRF tx n (tokF tx n v) (-30) 30).2, T)
  else if (intRF tx n (tokF tx n v) (-30) 30).2 6 = 2 ∧ (intRF tx n (tokF tx n v) (-30) 30).2 9 < tS T 0 ∧ bitF ((intRF tx n (tokF tx n v) (-30) 30).2 12) ((intRF tx n (tokF tx n v) (-30) 30).2 9).toNat = 1 then (0, (failF (intRF tx n (tokF tx n v) (-30) 30).2 4).2, T)
  else if (numRF tx n (intRF tx n (tokF tx n v) (-30) 30).2 0 (tS T 0 - 1)).1 ≠ 1 then (0, (numRF tx n (intRF tx n (tokF tx n v) (-30) 30).2 0 (tS T 0 - 1)).2, T)
  else (1, fup (numRF tx n (intRF tx n (tokF tx n v) (-30) 30).2 0 (tS T 0 - 1)).2 12 (orF ((numRF tx n (intRF tx n (tokF tx n v) (-30) 30).2 0 (tS T 0 - 1)).2 12) ((numRF tx n (intRF tx n (tokF tx n v) (-30) 30).2 0 (tS T 0 - 1)).2 10).toNat), setP T (fup (tP T) ((numRF tx n (intRF tx n (tokF tx n v) (-30) 30).2 0 (tS T 0 - 1)).2 10).toNat ((intRF tx n (tokF tx n v) (-30) 30).2 10)))

set_option maxRecDepth 100000 in
theorem sp_X2_readStart {g : GG} {lay : Lay} {M : Mem} {K : KK} {c n : Nat} {tx v : Nat → Int} {z : Nat} {T : CT} (hP : RdL lay c) (hb0 : g.2.1 ≤ c) (hr : Rd tx n v M c) (hk : TkOK n v) (hC : CtL lay z) (hz0 : g.2.1 ≤ z) (hT : Ct T M z) (hcz : z + 7 ≤ c ∨ c + 3 ≤ z) (hS0 : 2 ≤ tS T 0 ∧ tS T 0 ≤ 5) (h12 : 0 ≤ v 12 ∧ v 12 < 32) (k : ∀ M2, FrR c z M M2 → Rd tx n (rStartF tx n v T).2.1 M2 c → Ct (rStartF tx n v T).2.2 M2 z → K (.inl (some (vI (rStartF tx n v T).1))) lay M2) : X g m_X2_readStart 0 0 lay M 0 [(0, vR c), (1, vR z)] [] K := by
  have hk0 : TkOK n (tokF tx n v) := hk.tok
  have hi1 := int_1 (tx := tx) (n := n) (v := tokF tx n v) (lo := -30) (hi := 30)
  have hi2 : (intRF tx n (tokF tx n v) (-30) 30).2 12 = v 12 := by rw [int_ne (by omega), tok_ne (by omega)]
  have hkR : TkOK n (intRF tx n (tokF tx n v) (-30) 30).2 := hk0.int
  unfold rStartF at k
  generalize hR : intRF tx n (tokF tx n v) (-30) 30 = R at *
  have hn1 := num_1 (tx := tx) (n := n) (v := R.2) (lo := 0) (hi := tS T 0 - 1)
  have hn2 : (numRF tx n R.2 0 (tS T 0 - 1)).2 12 = R.2 12 := num_ne (by omega)
  generalize hQ : numRF tx n R.2 0 (tS T 0 - 1) = Q at *
  have hkR2 := id hkR
  unfold TkOK at hkR2
  have tail : ∀ M3 : Mem, FrR c z M M3 → Rd tx n R.2 M3 c → Ct T M3 z → R.1 = 1 → ¬ (R.2 6 = 2 ∧ R.2 9 < tS T 0 ∧ bitF (R.2 12) (R.2 9).toNat = 1) → X g m_X2_readStart 0 0 lay M3 66 [(3, vI (tS T 0)), (2, vI (R.2 10)), (0, vR c), (1, vR z)] [] K := by
    intro M3 hF3 hr3 hT3 h1 h2
    rw [if_neg (fun q => q h1), if_neg h2] at k
    refine x_aload_n (pc := 66) dX2_readStart_66 rfl rfl ?_
    refine x_iconst (pc := 67) dX2_readStart_67 ?_
    refine x_iload_n (pc := 68) dX2_readStart_68 rfl rfl ?_
    refine x_iconst (pc := 69) dX2_readStart_69 ?_
    refine x_isub (pc := 70) dX2_readStart_70 ?_
    refine x_callV (pc := 71) [_, _] rfl kX2_123 dX2_readStart_71 hP.1 rfl rfl (by decide) (Nat.le_of_ble_eq_true rfl) (Nat.le_of_ble_eq_true rfl) (by decide) ?_
    refine sp_X2_readNumber hP hb0 hr3 hkR (by decide) ⟨by omega, by omega⟩ (fun M4 hF4 hr4 => ?_)
    rw [hQ] at hr4 ⊢
    have hT4 := hT3.frm hF4 (by omega)
    have b10 := hr4.at 10 (by decide) (by decide)
    have b12 := hr4.at 12 (by decide) (by decide)
    refine ⟨_, rfl, ?_⟩
    refine x_if_eq (pc := 74) (t := 92) dX2_readStart_74 (by decide) ⟨by omega, by omega⟩ (fun c74 => ?_) (fun c74 => ?_)
    · refine x_iconst (pc := 92) dX2_readStart_92 ?_
      refine x_zret (pc := 93) dX2_readStart_93 rfl ⟨by omega, by omega⟩ (by decide) (by decide) ?_
      first
      | (exfalso; omega)
      | (rw [if_pos (by omega)] at k
         exact k _ (hF3.tr (FrR.of hF4)) hr4 hT4)
    · refine x_aload_n (pc := 77) dX2_readStart_77 rfl rfl ?_
      refine x_geti (pc := 78) fX2_76 dX2_readStart_78 hP.1 rfl (fun r78a r78b => ?_)
      rw [b10] at r78a r78b ⊢
      refine x_if_lt (pc := 81) (t := 92) dX2_readStart_81 (by decide) ⟨by omega, by omega⟩ (fun c81 => ?_) (fun c81 => ?_)
      · refine x_iconst (pc := 92) dX2_readStart_92 ?_
        refine x_zret (pc := 93) dX2_readStart_93 rfl ⟨by omega, by omega⟩ (by decide) (by decide) ?_
        first
        | (exfalso; omega)
        | (rw [if_pos (by omega)] at k
           exact k _ (hF3.tr (FrR.of hF4)) hr4 hT4)
      · refine x_aload_n (pc := 84) dX2_readStart_84 rfl rfl ?_
        refine x_geti (pc := 85) fX2_76 dX2_readStart_85 hP.1 rfl (fun r85a r85b => ?_)
        rw [b10] at r85a r85b ⊢
        refine x_iconst (pc := 88) dX2_readStart_88 ?_
        refine x_icmp_lt (pc := 89) (t := 94) dX2_readStart_89 (by decide) ⟨by omega, by omega⟩ ⟨by omega, by omega⟩ (fun c89 => ?_) (fun c89 => ?_)
        · refine x_aload_n (pc := 94) dX2_readStart_94 rfl rfl ?_
          refine x_dup (pc := 95) dX2_readStart_95 rfl ?_
          refine x_geti (pc := 96) fX2_66 dX2_readStart_96 hP.1 rfl (fun r96a r96b => ?_)
          rw [b12] at r96a r96b ⊢
          refine x_iconst (pc := 99) dX2_readStart_99 ?_
          refine x_aload_n (pc := 100) dX2_readStart_100 rfl rfl ?_
          refine x_geti (pc := 101) fX2_76 dX2_readStart_101 hP.1 rfl (fun r101a r101b => ?_)
          rw [b10] at r101a r101b ⊢
          refine x_ishl (pc := 104) (Q.2 10).toNat (by omega) (by omega) dX2_readStart_104 ?_
          refine x_ior (pc := 105) (Q.2 12).toNat (Q.2 10).toNat (by omega) (by omega) (by omega) rfl dX2_readStart_105 ?_
          have ho := orF_32 (a := Q.2 12) (n := (Q.2 10).toNat) (by omega) (by omega)
          rw [show (if ((Q.2 12).toNat / 2 ^ (Q.2 10).toNat) % 2 = 0 then (((Q.2 12).toNat : Nat) : Int) + 2 ^ (Q.2 10).toNat else ((Q.2 12).toNat : Nat)) = orF (Q.2 12) (Q.2 10).toNat from rfl]
          refine x_puti (pc := 106) fnX2_66 dX2_readStart_106 hP.1 (by omega) rfl ⟨by omega, by omega⟩ ?_
          refine x_aload_n (pc := 109) dX2_readStart_109 rfl rfl ?_
          refine x_getr (pc := 110) (b := z + 2) fX2_135 dX2_readStart_110 hC.1 rfl rfl ?_
          refine x_aload_n (pc := 113) dX2_readStart_113 rfl rfl ?_
          refine x_geti (pc := 114) fX2_76 dX2_readStart_114 hP.1 rfl (fun r114a r114b => ?_)
          try simp (disch := omega) only [mset_same, mset_nea, mset_nei, mcopy_nea, mcopy_in, mcopy_out, Int.reduceToNat, Int.toNat_natCast, Nat.zero_add, Nat.sub_zero] at r114a r114b ⊢
          try rw [mset_nei (by decide)]
          rw [b10] at r114a r114b ⊢
          refine x_iload_n (pc := 117) dX2_readStart_117 rfl rfl ?_
          refine x_iast (pc := 118) dX2_readStart_118 hC.2.2.1 (by omega) (by omega) (by omega) ⟨by omega, by omega⟩ ?_
          refine x_iconst (pc := 119) dX2_readStart_119 ?_
          refine x_zret (pc := 120) dX2_readStart_120 rfl ⟨by omega, by omega⟩ (by decide) (by decide) ?_
          rw [if_neg (by omega)] at k
          exact k _ (((hF3.tr (FrR.of hF4)).ms (by omega)).ms (by omega)) ((hr4.ms (by decide)).fr (lo := z + 2) (hi := z + 3) (Frm.rf.ms (by omega)) (by omega)) ((hT4.gen (fun a j q1 q2 => mset_nea (by omega))).setP (by omega))
        · refine x_iconst (pc := 92) dX2_readStart_92 ?_
          refine x_zret (pc := 93) dX2_readStart_93 rfl ⟨by omega, by omega⟩ (by decide) (by decide) ?_
          first
          | (exfalso; omega)
          | (rw [if_pos (by omega)] at k
             exact k _ (hF3.tr (FrR.of hF4)) hr4 hT4)
  refine x_aload_n (pc := 0) dX2_readStart_0 rfl rfl ?_
  refine x_callV (pc := 1) [] rfl kX2_69 dX2_readStart_1 hP.1 rfl rfl (by decide) (Nat.le_of_ble_eq_true rfl) (Nat.le_of_ble_eq_true rfl) (by decide) ?_
  refine sp_X2_nextToken hP hb0 hr (by unfold TkOK at hk; omega) (fun M2 hF2 hr2 => ?_)
  have hT2 := hT.frm hF2 (by omega)
  refine ⟨_, rfl, ?_⟩
  refine x_aload_n (pc := 4) dX2_readStart_4 rfl rfl ?_
  refine x_bipush (pc := 5) dX2_readStart_5 (by decide) ?_
  refine x_bipush (pc := 7) dX2_readStart_7 (by decide) ?_
  refine x_callV (pc := 9) [_, _] rfl kX2_132 dX2_readStart_9 hP.1 rfl rfl (by decide) (Nat.le_of_ble_eq_true rfl) (Nat.le_of_ble_eq_true rfl) (by decide) ?_
  refine sp_X2_readInteger hP hb0 hr2 hk0 (by decide) (by decide) (fun M3 hF3 hr3 => ?_)
  rw [hR] at hr3 ⊢
  have hT3 := hT2.frm hF3 (by omega)
  have a10 := hr3.at 10 (by decide) (by decide)
  have a6 := hr3.at 6 (by decide) (by decide)
  have a9 := hr3.at 9 (by decide) (by decide)
  have a12 := hr3.at 12 (by decide) (by decide)
  have s0 := hT3.1 0 (by decide)
  have hFF : FrR c z M M3 := (FrR.of hF2).tr (FrR.of hF3)
  refine ⟨_, rfl, ?_⟩
  refine x_if_ne (pc := 12) (t := 17) dX2_readStart_12 (by decide) ⟨by omega, by omega⟩ (fun c12 => ?_) (fun c12 => ?_)
  · refine x_aload_n (pc := 17) dX2_readStart_17 rfl rfl ?_
    refine x_geti (pc := 18) fX2_76 dX2_readStart_18 hP.1 rfl (fun r18a r18b => ?_)
    rw [a10] at r18a r18b ⊢
    refine x_istore_n (pc := 21) dX2_readStart_21 rfl (by decide) (L' := [(2, _), (0, _), (1, _)]) rfl ?_
    refine x_aload_n (pc := 22) dX2_readStart_22 rfl rfl ?_
    refine x_getr (pc := 23) (b := z + 1) fX2_127 dX2_readStart_23 hC.1 rfl rfl ?_
    refine x_iconst (pc := 26) dX2_readStart_26 ?_
    refine x_iald (pc := 27) dX2_readStart_27 hC.2.1 (by omega) (by omega) (fun r27a r27b => ?_)
    rw [show (0 : Int).toNat = 0 from rfl, s0] at r27a r27b ⊢
    refine x_istore_n (pc := 28) dX2_readStart_28 rfl (by decide) (L' := [(3, _), (2, _), (0, _), (1, _)]) rfl ?_
    refine x_aload_n (pc := 29) dX2_readStart_29 rfl rfl ?_
    refine x_geti (pc := 30) fX2_36 dX2_readStart_30 hP.1 rfl (fun r30a r30b => ?_)
    rw [a6] at r30a r30b ⊢
    refine x_iconst (pc := 33) dX2_readStart_33 ?_
    refine x_icmp_ne (pc := 34) (t := 66) dX2_readStart_34 (by decide) ⟨by omega, by omega⟩ ⟨by omega, by omega⟩ (fun c34 => ?_) (fun c34 => ?_)
    · refine X.loc [0, 1, 2, 3] (L' := [(3, _), (2, _), (0, _), (1, _)]) rfl ?_
      exact tail _ hFF hr3 hT3 (by omega) (fun z => by omega)
    · refine x_aload_n (pc := 37) dX2_readStart_37 rfl rfl ?_
      refine x_geti (pc := 38) fX2_39 dX2_readStart_38 hP.1 rfl (fun r38a r38b => ?_)
      rw [a9] at r38a r38b ⊢
      refine x_iload_n (pc := 41) dX2_readStart_41 rfl rfl ?_
      refine x_icmp_ge (pc := 42) (t := 66) dX2_readStart_42 (by decide) ⟨by omega, by omega⟩ ⟨by omega, by omega⟩ (fun c42 => ?_) (fun c42 => ?_)
      · refine X.loc [0, 1, 2, 3] (L' := [(3, _), (2, _), (0, _), (1, _)]) rfl ?_
        exact tail _ hFF hr3 hT3 (by omega) (fun z => by omega)
      · refine x_aload_n (pc := 45) dX2_readStart_45 rfl rfl ?_
        refine x_geti (pc := 46) fX2_66 dX2_readStart_46 hP.1 rfl (fun r46a r46b => ?_)
        rw [a12] at r46a r46b ⊢
        refine x_aload_n (pc := 49) dX2_readStart_49 rfl rfl ?_
        refine x_geti (pc := 50) fX2_39 dX2_readStart_50 hP.1 rfl (fun r50a r50b => ?_)
        rw [a9] at r50a r50b ⊢
        refine x_ishr (pc := 53) (R.2 9).toNat (by omega) (by omega) ⟨by omega, by omega⟩ dX2_readStart_53 ?_
        refine x_iconst (pc := 54) dX2_readStart_54 ?_
        refine x_iandm (pc := 55) 1 (by decide) (by decide) dX2_readStart_55 ?_
        rw [show R.2 12 / 2 ^ (R.2 9).toNat % 2 ^ 1 = bitF (R.2 12) (R.2 9).toNat from rfl]
        have hbr : 0 ≤ bitF (R.2 12) (R.2 9).toNat ∧ bitF (R.2 12) (R.2 9).toNat ≤ 1 := by unfold bitF; omega
        refine x_iconst (pc := 56) dX2_readStart_56 ?_
        refine x_icmp_ne (pc := 57) (t := 66) dX2_readStart_57 (by decide) ⟨by omega, by omega⟩ ⟨by omega, by omega⟩ (fun c57 => ?_) (fun c57 => ?_)
        · refine X.loc [0, 1, 2, 3] (L' := [(3, _), (2, _), (0, _), (1, _)]) rfl ?_
          exact tail _ hFF hr3 hT3 (by omega) (fun z => by omega)
        · refine x_aload_n (pc := 60) dX2_readStart_60 rfl rfl ?_
          refine x_iconst (pc := 61) dX2_readStart_61 ?_
          refine x_callV (pc := 62) [_] rfl kX2_72 dX2_readStart_62 hP.1 rfl rfl (by decide) (Nat.le_of_ble_eq_true rfl) (Nat.le_of_ble_eq_true rfl) (by decide) ?_
          refine sp_X2_fail hP hb0 hr3 (by decide) (fun M4 hF4 hr4 => ?_)
          have hT4 := hT3.frm hF4 (by omega)
          refine ⟨_, rfl, ?_⟩
          refine x_zret (pc := 65) dX2_readStart_65 rfl ⟨by omega, by omega⟩ (by decide) (by decide) ?_
          rw [if_neg (by omega), if_pos ⟨by omega, by omega, by omega⟩] at k
          exact k _ (hFF.tr (FrR.of hF4)) hr4 hT4
  · refine x_iconst (pc := 15) dX2_readStart_15 ?_
    refine x_zret (pc := 16) dX2_readStart_16 rfl ⟨by omega, by omega⟩ (by decide) (by decide) ?_
    rw [if_pos (by omega)] at k
    exact k _ hFF hr3 hT3
