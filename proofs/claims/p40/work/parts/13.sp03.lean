/-! Specs of a contest's writes: a new contest, a copy, a claim, an act taken back. -/
/-- only cells from lo on, below hi, differ -/
def Frm (lo hi : Nat) (M M' : Mem) : Prop := ∀ a j, ¬ (lo ≤ a ∧ a < hi) → M' a j = M a j
theorem Frm.rf {lo hi : Nat} {M : Mem} : Frm lo hi M M := fun _ _ _ => rfl
theorem Frm.ms {lo hi : Nat} {M M' : Mem} {a i : Nat} {v : Int} (h : Frm lo hi M M') (ha : lo ≤ a ∧ a < hi) : Frm lo hi M (mset M' a i v) := fun b j hb => by
  rw [mset_nea (fun e => hb (by rw [e]; exact ha))]
  exact h b j hb
theorem Frm.trans {lo hi : Nat} {M M' M'' : Mem} (h : Frm lo hi M M') (h2 : Frm lo hi M' M'') : Frm lo hi M M'' := fun a j ha => (h2 a j ha).trans (h a j ha)
theorem Frm.wide {lo hi lo' hi' : Nat} {M M' : Mem} (h : Frm lo hi M M') (h1 : lo' ≤ lo) (h2 : hi ≤ hi') : Frm lo' hi' M M' := fun a j ha => h a j (fun q => ha (by omega))
theorem Ct.frm {T : CT} {M M' : Mem} {c lo hi : Nat} (h : Ct T M c) (hf : Frm lo hi M M') (hd : c + 7 ≤ lo ∨ hi ≤ c) : Ct T M' c := by
  obtain ⟨h1, h2, h3, h4, h5, h6, h7, h8⟩ := h
  refine ⟨fun j hj => ?_, fun j hj => ?_, ?_, fun j hj => ?_, fun j hj => ?_, fun p i f hp hi hf2 => ?_, ?_, ?_⟩
  · rw [hf _ _ (by omega)]; exact h1 j hj
  · rw [hf _ _ (by omega)]; exact h2 j hj
  · rw [hf _ _ (by omega)]; exact h3
  · rw [hf _ _ (by omega), hf _ _ (by omega)]; exact h4 j hj
  · rw [hf _ _ (by omega)]; exact h5 j hj
  · rw [hf _ _ (by omega)]; exact h6 p i f hp hi hf2
  · rw [hf _ _ (by omega)]; exact h7
  · rw [hf _ _ (by omega)]; exact h8
def fup (f : Nat → Int) (i : Nat) (v : Int) : Nat → Int := fun j => if j = i then v else f j
def mkL (a b r l s t : Int) : Nat → Int
  | 0 => a
  | 1 => b
  | 2 => r
  | 3 => l
  | 4 => s
  | _ => t
/-- a claim more -/
def tClaim (T : CT) (a b r l s : Int) : CT := (tS T, tP T, tN T, tC T, tQ T, (fun p => if p = tN T % 2 then tK T p + 1 else tK T p), (fun p i => if p = tN T % 2 ∧ i = tK T p then mkL a b r l s (tN T) else tL T p i), tO T, tB T)
/-- the latest act taken back -/
def tBack (T : CT) : CT := if hasClaim T then (tS T, tP T, tN T, tC T, tQ T, (fun p => if p = tN T % 2 then tK T p - 1 else tK T p), (fun p i => if p = tN T % 2 ∧ i = tK T p - 1 then (fun _ => 0) else tL T p i), tO T, tB T)
  else (tS T, fup (tP T) (tQ T (tN T - 1)).toNat (tP T (tQ T (tN T - 1)).toNat - tC T (tN T - 1)), tN T - 1, fup (tC T) (tN T - 1) 0, fup (tQ T) (tN T - 1) 0, tK T, tL T, 0, -1)
def tNew : CT := (tabF 0, fun _ => 0, 0, fun _ => 0, fun _ => 0, fun _ => 0, fun _ _ _ => 0, 0, -1)

set_option maxRecDepth 100000 in
theorem sp_X0_begin {g : GG} {lay : Lay} {M : Mem} {K : KK} {c : Nat} (hC : CtL lay c) (hb0 : g.2.1 ≤ c) (k : ∀ M2, Frm c (c + 7) M M2 → Ct tNew M2 c → K (.inl none) lay M2) : X g m_X0_begin 0 0 lay M 0 [(0, vR c)] [] K := by
  have loop : ∀ (d j : Nat) (x : Int) (M1 : Mem), j + d = 5 → x = j → Frm c (c + 7) M M1 → (∀ i, i < 7 → M1 (c + 1) i = tabF 0 i) → (∀ i, i < j → M1 (c + 2) i = 0) → X g m_X0_begin 0 0 lay M1 16 [(1, vI x), (0, vR c)] [] K := by
    intro d
    induction d with
    | zero =>
      intro j x M1 hj hx hF hS hP
      refine x_iload_n (pc := 16) dX0_begin_16 rfl rfl ?_
      refine x_iconst (pc := 17) dX0_begin_17 ?_
      refine x_icmp_ge (pc := 18) (t := 34) dX0_begin_18 (by decide) ⟨by omega, by omega⟩ ⟨by omega, by omega⟩ (fun c18 => ?_) (fun c18 => ?_)
      · refine x_aload_n (pc := 34) dX0_begin_34 rfl rfl ?_
        refine x_getr (pc := 35) (b := c + 6) fX0_27 dX0_begin_35 hC.1 rfl rfl ?_
        refine x_iconst (pc := 38) dX0_begin_38 ?_
        refine x_iconst (pc := 39) dX0_begin_39 ?_
        refine x_iast (pc := 40) dX0_begin_40 hC.2.2.2.2.2.2 (by omega) (by omega) (by omega) ⟨by omega, by omega⟩ ?_
        refine x_aload_n (pc := 41) dX0_begin_41 rfl rfl ?_
        refine x_getr (pc := 42) (b := c + 6) fX0_27 dX0_begin_42 hC.1 rfl rfl ?_
        refine x_iconst (pc := 45) dX0_begin_45 ?_
        refine x_iconst (pc := 46) dX0_begin_46 ?_
        refine x_iast (pc := 47) dX0_begin_47 hC.2.2.2.2.2.2 (by omega) (by omega) (by omega) ⟨by omega, by omega⟩ ?_
        refine x_aload_n (pc := 48) dX0_begin_48 rfl rfl ?_
        refine x_iconst (pc := 49) dX0_begin_49 ?_
        refine x_puti (pc := 50) fnX0_42 dX0_begin_50 hC.1 (by omega) rfl ⟨by omega, by omega⟩ ?_
        refine x_aload_n (pc := 53) dX0_begin_53 rfl rfl ?_
        refine x_iconst (pc := 54) dX0_begin_54 ?_
        refine x_putz (pc := 55) fnX0_46 dX0_begin_55 hC.1 (by omega) rfl ⟨by omega, by omega⟩ ?_
        refine x_aload_n (pc := 58) dX0_begin_58 rfl rfl ?_
        refine x_iconst (pc := 59) dX0_begin_59 ?_
        refine x_puti (pc := 60) fnX0_50 dX0_begin_60 hC.1 (by omega) rfl ⟨by omega, by omega⟩ ?_
        refine x_vret (pc := 63) dX0_begin_63 rfl (by decide) (by decide) ?_
        refine k _ ((((((hF.ms ?_).ms ?_).ms ?_).ms ?_).ms ?_)) ⟨?_, ?_, ?_, ?_, ?_, ?_, ?_, ?_⟩
        all_goals first | omega | skip
        · intro i hi
          simpa [mset, tNew] using hS i hi
        · intro i hi
          simpa [mset, tNew] using hP i (by omega)
        · simp [mset, tNew]
        · intro i hi
          exact absurd hi (Nat.not_lt_zero _)
        · intro i hi
          have e : i = 0 ∨ i = 1 := by omega
          rcases e with rfl | rfl <;> simp [mset, tNew]
        · intro p i f hp hi
          exact absurd hi (Nat.not_lt_zero _)
        · simp [mset, tNew]
        · simp [mset, tNew]
      · exfalso; omega
    | succ d ih =>
      intro j x M1 hj hx hF hS hP
      refine x_iload_n (pc := 16) dX0_begin_16 rfl rfl ?_
      refine x_iconst (pc := 17) dX0_begin_17 ?_
      refine x_icmp_ge (pc := 18) (t := 34) dX0_begin_18 (by decide) ⟨by omega, by omega⟩ ⟨by omega, by omega⟩ (fun c18 => ?_) (fun c18 => ?_)
      · exfalso; omega
      · refine x_aload_n (pc := 21) dX0_begin_21 rfl rfl ?_
        refine x_getr (pc := 22) (b := c + 2) fX0_15 dX0_begin_22 hC.1 rfl rfl ?_
        refine x_iload_n (pc := 25) dX0_begin_25 rfl rfl ?_
        refine x_iconst (pc := 26) dX0_begin_26 ?_
        refine x_iast (pc := 27) dX0_begin_27 hC.2.2.1 (by omega) (by omega) (by omega) ⟨by omega, by omega⟩ ?_
        refine x_iinc (pc := 28) dX0_begin_28 rfl (by decide) (L' := [(1, _), (0, _)]) rfl ?_
        refine x_goto (pc := 31) (t := 16) dX0_begin_31 (by decide) ?_
        refine X.loc [0, 1] (L' := [(1, _), (0, _)]) rfl ?_
        refine ih (j + 1) _ _ (by omega) (by omega) (hF.ms (by omega)) (fun i hi => ?_) (fun i hi => ?_)
        · rw [mset_nea (by omega)]
          exact hS i hi
        · by_cases e : i = j
          · rw [e, show x.toNat = j by omega, mset_same]
          · rw [mset_nei (by omega)]
            exact hP i (by omega)
  refine x_gets (pc := 0) (q := 0) kgX0_33 (by decide) dX0_begin_0 ?_
  refine x_iconst (pc := 3) dX0_begin_3 ?_
  refine x_aload_n (pc := 4) dX0_begin_4 rfl rfl ?_
  refine x_getr (pc := 5) (b := c + 1) fX0_9 dX0_begin_5 hC.1 rfl rfl ?_
  refine x_iconst (pc := 8) dX0_begin_8 ?_
  refine x_bipush (pc := 9) dX0_begin_9 (by decide) ?_
  refine x_copyT (pc := 11) kcX0_36 dX0_begin_11 (by decide) hC.2.1 (by omega) (by omega) (by omega) (by omega) (by omega) (by omega) (Nat.le_of_ble_eq_true rfl) (by decide) ?_
  refine x_iconst (pc := 14) dX0_begin_14 ?_
  refine x_istore_n (pc := 15) dX0_begin_15 rfl (by decide) (L' := [(1, _), (0, _)]) rfl ?_
  refine X.loc [0, 1] (L' := [(1, _), (0, _)]) rfl ?_
  refine loop 5 0 0 _ rfl rfl ?_ ?_ ?_
  · intro a j ha
    exact if_neg (fun q => ha (by omega))
  · intro i hi
    show (if c + 1 = c + 1 ∧ (0 : Int).toNat ≤ i ∧ i < (0 : Int).toNat + (7 : Int).toNat then tabF 0 ((0 : Int).toNat + (i - (0 : Int).toNat)) else M (c + 1) i) = tabF 0 i
    rw [if_pos ⟨rfl, by omega, by omega⟩]
    congr 1
    omega
  · intro i hi
    omega
set_option maxRecDepth 100000 in
theorem sp_X0_copyFrom {g : GG} {lay : Lay} {M : Mem} {K : KK} {c z : Nat} {T : CT} (hC : CtL lay c) (hZ : CtL lay z) (hb0 : g.2.1 ≤ c) (hd : c + 7 ≤ z ∨ z + 7 ≤ c) (hT : Ct T M z) (hW : WfT T) (k : ∀ M2, Frm c (c + 7) M M2 → Ct T M2 c → K (.inl none) lay M2) : X g m_X0_copyFrom 0 0 lay M 0 [(0, vR c), (1, vR z)] [] K := by
  have hn := hW.n60
  have wK := hW.2.2.2.2.1
  obtain ⟨hS, hP, hN, hm, hK, hL, hO, hB⟩ := id hT
  refine x_aload_n (pc := 0) dX0_copyFrom_0 rfl rfl ?_
  refine x_ifnonnull (pc := 1) (t := 5) dX0_copyFrom_1 (by decide) ?_
  refine x_aload_n (pc := 5) dX0_copyFrom_5 rfl rfl ?_
  refine x_getr (pc := 6) (b := z + 1) fX0_9 dX0_copyFrom_6 hZ.1 rfl rfl ?_
  refine x_iconst (pc := 9) dX0_copyFrom_9 ?_
  refine x_aload_n (pc := 10) dX0_copyFrom_10 rfl rfl ?_
  refine x_getr (pc := 11) (b := c + 1) fX0_9 dX0_copyFrom_11 hC.1 rfl rfl ?_
  refine x_iconst (pc := 14) dX0_copyFrom_14 ?_
  refine x_bipush (pc := 15) dX0_copyFrom_15 (by decide) ?_
  refine x_copy (pc := 17) kcX0_36 dX0_copyFrom_17 hZ.2.1 hC.2.1 (by omega) (by decide) (by omega) (by omega) (by omega) (by omega) (by omega) (by decide) (Nat.le_of_ble_eq_true rfl) (by decide) ?_
  refine x_aload_n (pc := 20) dX0_copyFrom_20 rfl rfl ?_
  refine x_getr (pc := 21) (b := z + 2) fX0_15 dX0_copyFrom_21 hZ.1 rfl rfl ?_
  refine x_iconst (pc := 24) dX0_copyFrom_24 ?_
  refine x_aload_n (pc := 25) dX0_copyFrom_25 rfl rfl ?_
  refine x_getr (pc := 26) (b := c + 2) fX0_15 dX0_copyFrom_26 hC.1 rfl rfl ?_
  refine x_iconst (pc := 29) dX0_copyFrom_29 ?_
  refine x_iconst (pc := 30) dX0_copyFrom_30 ?_
  refine x_copy (pc := 31) kcX0_36 dX0_copyFrom_31 hZ.2.2.1 hC.2.2.1 (by omega) (by decide) (by omega) (by omega) (by omega) (by omega) (by omega) (by decide) (Nat.le_of_ble_eq_true rfl) (by decide) ?_
  refine x_aload_n (pc := 34) dX0_copyFrom_34 rfl rfl ?_
  refine x_getr (pc := 35) (b := z + 3) fX0_18 dX0_copyFrom_35 hZ.1 rfl rfl ?_
  refine x_iconst (pc := 38) dX0_copyFrom_38 ?_
  refine x_aload_n (pc := 39) dX0_copyFrom_39 rfl rfl ?_
  refine x_getr (pc := 40) (b := c + 3) fX0_18 dX0_copyFrom_40 hC.1 rfl rfl ?_
  refine x_iconst (pc := 43) dX0_copyFrom_43 ?_
  refine x_bipush (pc := 44) dX0_copyFrom_44 (by decide) ?_
  refine x_copy (pc := 46) kcX0_36 dX0_copyFrom_46 hZ.2.2.2.1 hC.2.2.2.1 (by omega) (by decide) (by omega) (by omega) (by omega) (by omega) (by omega) (by decide) (Nat.le_of_ble_eq_true rfl) (by decide) ?_
  refine x_aload_n (pc := 49) dX0_copyFrom_49 rfl rfl ?_
  refine x_getr (pc := 50) (b := z + 4) fX0_21 dX0_copyFrom_50 hZ.1 rfl rfl ?_
  refine x_iconst (pc := 53) dX0_copyFrom_53 ?_
  refine x_aload_n (pc := 54) dX0_copyFrom_54 rfl rfl ?_
  refine x_getr (pc := 55) (b := c + 4) fX0_21 dX0_copyFrom_55 hC.1 rfl rfl ?_
  refine x_iconst (pc := 58) dX0_copyFrom_58 ?_
  refine x_bipush (pc := 59) dX0_copyFrom_59 (by decide) ?_
  refine x_copy (pc := 61) kcX0_36 dX0_copyFrom_61 hZ.2.2.2.2.1 hC.2.2.2.2.1 (by omega) (by decide) (by omega) (by omega) (by omega) (by omega) (by omega) (by decide) (Nat.le_of_ble_eq_true rfl) (by decide) ?_
  refine x_aload_n (pc := 64) dX0_copyFrom_64 rfl rfl ?_
  refine x_getr (pc := 65) (b := z + 5) fX0_24 dX0_copyFrom_65 hZ.1 rfl rfl ?_
  refine x_iconst (pc := 68) dX0_copyFrom_68 ?_
  refine x_aload_n (pc := 69) dX0_copyFrom_69 rfl rfl ?_
  refine x_getr (pc := 70) (b := c + 5) fX0_24 dX0_copyFrom_70 hC.1 rfl rfl ?_
  refine x_iconst (pc := 73) dX0_copyFrom_73 ?_
  refine x_bipush (pc := 74) dX0_copyFrom_74 (by decide) ?_
  refine x_copy (pc := 76) kcX0_36 dX0_copyFrom_76 hZ.2.2.2.2.2.1 hC.2.2.2.2.2.1 (by omega) (by decide) (by omega) (by omega) (by omega) (by omega) (by omega) (by decide) (Nat.le_of_ble_eq_true rfl) (by decide) ?_
  refine x_aload_n (pc := 79) dX0_copyFrom_79 rfl rfl ?_
  refine x_getr (pc := 80) (b := z + 6) fX0_27 dX0_copyFrom_80 hZ.1 rfl rfl ?_
  refine x_iconst (pc := 83) dX0_copyFrom_83 ?_
  refine x_aload_n (pc := 84) dX0_copyFrom_84 rfl rfl ?_
  refine x_getr (pc := 85) (b := c + 6) fX0_27 dX0_copyFrom_85 hC.1 rfl rfl ?_
  refine x_iconst (pc := 88) dX0_copyFrom_88 ?_
  refine x_iconst (pc := 89) dX0_copyFrom_89 ?_
  refine x_copy (pc := 90) kcX0_36 dX0_copyFrom_90 hZ.2.2.2.2.2.2 hC.2.2.2.2.2.2 (by omega) (by decide) (by omega) (by omega) (by omega) (by omega) (by omega) (by decide) (Nat.le_of_ble_eq_true rfl) (by decide) ?_
  refine x_aload_n (pc := 93) dX0_copyFrom_93 rfl rfl ?_
  refine x_aload_n (pc := 94) dX0_copyFrom_94 rfl rfl ?_
  refine x_geti (pc := 95) fX0_42 dX0_copyFrom_95 hZ.1 rfl (fun r95a r95b => ?_)
  try simp (disch := omega) only [mset_same, mset_nea, mset_nei, mcopy_nea, mcopy_in, mcopy_out, Int.reduceToNat, Int.toNat_natCast, Nat.zero_add, Nat.sub_zero] at r95a r95b ⊢
  refine x_puti (pc := 98) fnX0_42 dX0_copyFrom_98 hC.1 (by omega) rfl ⟨by omega, by omega⟩ ?_
  refine x_aload_n (pc := 101) dX0_copyFrom_101 rfl rfl ?_
  refine x_aload_n (pc := 102) dX0_copyFrom_102 rfl rfl ?_
  refine x_getz (pc := 103) fX0_46 dX0_copyFrom_103 hZ.1 rfl (fun r103a r103b => ?_)
  try simp (disch := omega) only [mset_same, mset_nea, mset_nei, mcopy_nea, mcopy_in, mcopy_out, Int.reduceToNat, Int.toNat_natCast, Nat.zero_add, Nat.sub_zero] at r103a r103b ⊢
  refine x_putz (pc := 106) fnX0_46 dX0_copyFrom_106 hC.1 (by omega) rfl ⟨by omega, by omega⟩ ?_
  refine x_aload_n (pc := 109) dX0_copyFrom_109 rfl rfl ?_
  refine x_aload_n (pc := 110) dX0_copyFrom_110 rfl rfl ?_
  refine x_geti (pc := 111) fX0_50 dX0_copyFrom_111 hZ.1 rfl (fun r111a r111b => ?_)
  try simp (disch := omega) only [mset_same, mset_nea, mset_nei, mcopy_nea, mcopy_in, mcopy_out, Int.reduceToNat, Int.toNat_natCast, Nat.zero_add, Nat.sub_zero] at r111a r111b ⊢
  refine x_puti (pc := 114) fnX0_50 dX0_copyFrom_114 hC.1 (by omega) rfl ⟨by omega, by omega⟩ ?_
  refine x_vret (pc := 117) dX0_copyFrom_117 rfl (by decide) (by decide) ?_
  refine k _ ?_ ⟨?_, ?_, ?_, ?_, ?_, ?_, ?_, ?_⟩
  · intro a j ha
    simp (disch := omega) only [mset_same, mset_nea, mset_nei, mcopy_nea, mcopy_in, mcopy_out, Int.reduceToNat, Int.toNat_natCast, Nat.zero_add, Nat.sub_zero]
  · intro j hj
    simp (disch := omega) only [mset_same, mset_nea, mset_nei, mcopy_nea, mcopy_in, mcopy_out, Int.reduceToNat, Int.toNat_natCast, Nat.zero_add, Nat.sub_zero]
    exact hS j hj
  · intro j hj
    simp (disch := omega) only [mset_same, mset_nea, mset_nei, mcopy_nea, mcopy_in, mcopy_out, Int.reduceToNat, Int.toNat_natCast, Nat.zero_add, Nat.sub_zero]
    exact hP j hj
  · simp (disch := omega) only [mset_same, mset_nea, mset_nei, mcopy_nea, mcopy_in, mcopy_out, Int.reduceToNat, Int.toNat_natCast, Nat.zero_add, Nat.sub_zero]
    exact hN
  · intro j hj
    simp (disch := omega) only [mset_same, mset_nea, mset_nei, mcopy_nea, mcopy_in, mcopy_out, Int.reduceToNat, Int.toNat_natCast, Nat.zero_add, Nat.sub_zero]
    exact hm j hj
  · intro p hp
    simp (disch := omega) only [mset_same, mset_nea, mset_nei, mcopy_nea, mcopy_in, mcopy_out, Int.reduceToNat, Int.toNat_natCast, Nat.zero_add, Nat.sub_zero]
    exact hK p hp
  · intro p i f hp hi hf
    have := wK p
    simp (disch := omega) only [mset_same, mset_nea, mset_nei, mcopy_nea, mcopy_in, mcopy_out, Int.reduceToNat, Int.toNat_natCast, Nat.zero_add, Nat.sub_zero]
    exact hL p i f hp hi hf
  · simp (disch := omega) only [mset_same, mset_nea, mset_nei, mcopy_nea, mcopy_in, mcopy_out, Int.reduceToNat, Int.toNat_natCast, Nat.zero_add, Nat.sub_zero]
    exact hO
  · simp (disch := omega) only [mset_same, mset_nea, mset_nei, mcopy_nea, mcopy_in, mcopy_out, Int.reduceToNat, Int.toNat_natCast, Nat.zero_add, Nat.sub_zero]
    exact hB
set_option maxRecDepth 100000 in
theorem sp_X0_addClaim {g : GG} {lay : Lay} {M : Mem} {K : KK} {c : Nat} {T : CT} {a b r e s : Int} (hC : CtL lay c) (hT : Ct T M c) (hW : WfT T) (hb0 : g.2.1 ≤ c) (hk : tK T (tN T % 2) < 4) (hl : WfL (tN T) (mkL a b r e s (tN T))) (k : ∀ M2, Frm c (c + 7) M M2 → Ct (tClaim T a b r e s) M2 c → K (.inl none) lay M2) : X g m_X0_addClaim 0 0 lay M 0 [(0, vR c), (1, vI a), (2, vI b), (3, vI r), (4, vI e), (5, vI s)] [] K := by
  have hn := hW.n60
  obtain ⟨hS, hP, hN, hm, hK, hL, hO, hB⟩ := id hT
  obtain ⟨wS, wP, wN, wm, wK, wL, wO, wB⟩ := id hW
  have h2 : tN T % 2 < 2 := Nat.mod_lt _ (by decide)
  have e0 := hK (tN T % 2) h2
  obtain ⟨l1, l2, l3, l4, l5, l6, l7, l8, l9, l10, l11⟩ := hl
  simp only [mkL] at l1 l2 l3 l4 l5 l6 l7 l8 l9 l10 l11
  generalize hq : tN T % 2 = q at *
  generalize hy : tK T q = y at *
  have ey : ∀ z : Int, 0 ≤ z → z ≤ 5 → (((q : Int) * 4 + y) * 6 + z).toNat = 24 * q + 6 * y + z.toNat := fun z h0 h1 => by omega
  refine x_aload_n (pc := 0) dX0_addClaim_0 rfl rfl ?_
  refine x_callV (pc := 1) [] rfl kX0_76 dX0_addClaim_1 hC.1 rfl rfl (by decide) (Nat.le_of_ble_eq_true rfl) (Nat.le_of_ble_eq_true rfl) (by decide) ?_
  refine sp_X0_mover hC hT hW ?_
  rw [hq]
  refine ⟨_, rfl, ?_⟩
  refine x_istore (pc := 4) dX0_addClaim_4 trivial (by decide) (L' := [(6, _), (0, _), (1, _), (2, _), (3, _), (4, _), (5, _)]) rfl ?_
  refine x_iload (pc := 6) dX0_addClaim_6 rfl ?_
  refine x_iconst (pc := 8) dX0_addClaim_8 ?_
  refine x_imul (pc := 9) dX0_addClaim_9 ?_
  refine x_aload_n (pc := 10) dX0_addClaim_10 rfl rfl ?_
  refine x_iload (pc := 11) dX0_addClaim_11 rfl ?_
  refine x_callV (pc := 13) [_] rfl kX0_109 dX0_addClaim_13 hC.1 rfl rfl (by decide) (Nat.le_of_ble_eq_true rfl) (Nat.le_of_ble_eq_true rfl) (by decide) ?_
  refine sp_X0_claimsOf hC hT hW h2 ?_
  rw [hy]
  refine ⟨_, rfl, ?_⟩
  refine x_iadd (pc := 16) dX0_addClaim_16 ?_
  refine x_bipush (pc := 17) dX0_addClaim_17 (by decide) ?_
  refine x_imul (pc := 19) dX0_addClaim_19 ?_
  refine x_istore (pc := 20) dX0_addClaim_20 trivial (by decide) (L' := [(7, _), (6, _), (0, _), (1, _), (2, _), (3, _), (4, _), (5, _)]) rfl ?_
  refine x_iload (pc := 22) dX0_addClaim_22 rfl ?_
  refine x_callSN (pc := 24) [_] rfl kX0_103 dX0_addClaim_24 rfl (by decide) (Nat.le_of_ble_eq_true rfl) (Nat.le_of_ble_eq_true rfl) (by decide) ?_
  refine sp_X4_isPlayer ⟨by omega, by omega⟩ ?_
  refine ⟨_, rfl, ?_⟩
  have hz9 : 0 ≤ (if (q : Int) = 0 ∨ (q : Int) = 1 then (1 : Int) else 0) ∧ (if (q : Int) = 0 ∨ (q : Int) = 1 then (1 : Int) else 0) ≤ 1 := b01
  refine x_if_eq (pc := 27) (t := 48) dX0_addClaim_27 (by decide) ⟨by omega, by omega⟩ (fun c27 => ?_) (fun c27 => ?_)
  · exact (b0 c27 (by omega)).elim
  · refine x_iload (pc := 30) dX0_addClaim_30 rfl ?_
    refine x_if_lt (pc := 32) (t := 48) dX0_addClaim_32 (by decide) ⟨by omega, by omega⟩ (fun c32 => ?_) (fun c32 => ?_)
    · exfalso; omega
    · refine x_iload (pc := 35) dX0_addClaim_35 rfl ?_
      refine x_bipush (pc := 37) dX0_addClaim_37 (by decide) ?_
      refine x_iadd (pc := 39) dX0_addClaim_39 ?_
      refine x_aload_n (pc := 40) dX0_addClaim_40 rfl rfl ?_
      refine x_getr (pc := 41) (b := c + 5) fX0_24 dX0_addClaim_41 hC.1 rfl rfl ?_
      refine x_alen (pc := 44) dX0_addClaim_44 hC.2.2.2.2.2.1 (fun r44a => ?_)
      refine x_icmp_le (pc := 45) (t := 49) dX0_addClaim_45 (by decide) ⟨by omega, by omega⟩ ⟨by omega, by omega⟩ (fun c45 => ?_) (fun c45 => ?_)
      · refine x_aload_n (pc := 49) dX0_addClaim_49 rfl rfl ?_
        refine x_getr (pc := 50) (b := c + 5) fX0_24 dX0_addClaim_50 hC.1 rfl rfl ?_
        refine x_iload (pc := 53) dX0_addClaim_53 rfl ?_
        refine x_iconst (pc := 55) dX0_addClaim_55 ?_
        refine x_iadd (pc := 56) dX0_addClaim_56 ?_
        refine x_iload_n (pc := 57) dX0_addClaim_57 rfl rfl ?_
        refine x_iast (pc := 58) dX0_addClaim_58 hC.2.2.2.2.2.1 (by omega) (by omega) (by omega) ⟨by omega, by omega⟩ ?_
        refine x_aload_n (pc := 59) dX0_addClaim_59 rfl rfl ?_
        refine x_getr (pc := 60) (b := c + 5) fX0_24 dX0_addClaim_60 hC.1 rfl rfl ?_
        refine x_iload (pc := 63) dX0_addClaim_63 rfl ?_
        refine x_iconst (pc := 65) dX0_addClaim_65 ?_
        refine x_iadd (pc := 66) dX0_addClaim_66 ?_
        refine x_iload_n (pc := 67) dX0_addClaim_67 rfl rfl ?_
        refine x_iast (pc := 68) dX0_addClaim_68 hC.2.2.2.2.2.1 (by omega) (by omega) (by omega) ⟨by omega, by omega⟩ ?_
        refine x_aload_n (pc := 69) dX0_addClaim_69 rfl rfl ?_
        refine x_getr (pc := 70) (b := c + 5) fX0_24 dX0_addClaim_70 hC.1 rfl rfl ?_
        refine x_iload (pc := 73) dX0_addClaim_73 rfl ?_
        refine x_iconst (pc := 75) dX0_addClaim_75 ?_
        refine x_iadd (pc := 76) dX0_addClaim_76 ?_
        refine x_iload_n (pc := 77) dX0_addClaim_77 rfl rfl ?_
        refine x_iast (pc := 78) dX0_addClaim_78 hC.2.2.2.2.2.1 (by omega) (by omega) (by omega) ⟨by omega, by omega⟩ ?_
        refine x_aload_n (pc := 79) dX0_addClaim_79 rfl rfl ?_
        refine x_getr (pc := 80) (b := c + 5) fX0_24 dX0_addClaim_80 hC.1 rfl rfl ?_
        refine x_iload (pc := 83) dX0_addClaim_83 rfl ?_
        refine x_iconst (pc := 85) dX0_addClaim_85 ?_
        refine x_iadd (pc := 86) dX0_addClaim_86 ?_
        refine x_iload (pc := 87) dX0_addClaim_87 rfl ?_
        refine x_iast (pc := 89) dX0_addClaim_89 hC.2.2.2.2.2.1 (by omega) (by omega) (by omega) ⟨by omega, by omega⟩ ?_
        refine x_aload_n (pc := 90) dX0_addClaim_90 rfl rfl ?_
        refine x_getr (pc := 91) (b := c + 5) fX0_24 dX0_addClaim_91 hC.1 rfl rfl ?_
        refine x_iload (pc := 94) dX0_addClaim_94 rfl ?_
        refine x_iconst (pc := 96) dX0_addClaim_96 ?_
        refine x_iadd (pc := 97) dX0_addClaim_97 ?_
        refine x_iload (pc := 98) dX0_addClaim_98 rfl ?_
        refine x_iast (pc := 100) dX0_addClaim_100 hC.2.2.2.2.2.1 (by omega) (by omega) (by omega) ⟨by omega, by omega⟩ ?_
        refine x_aload_n (pc := 101) dX0_addClaim_101 rfl rfl ?_
        refine x_getr (pc := 102) (b := c + 5) fX0_24 dX0_addClaim_102 hC.1 rfl rfl ?_
        refine x_iload (pc := 105) dX0_addClaim_105 rfl ?_
        refine x_iconst (pc := 107) dX0_addClaim_107 ?_
        refine x_iadd (pc := 108) dX0_addClaim_108 ?_
        refine x_aload_n (pc := 109) dX0_addClaim_109 rfl rfl ?_
        refine x_geti (pc := 110) fX0_42 dX0_addClaim_110 hC.1 rfl (fun r110a r110b => ?_)
        try simp (disch := omega) only [mset_same, mset_nea, mset_nei, mcopy_nea, mcopy_in, mcopy_out, Int.reduceToNat, Int.toNat_natCast, Nat.zero_add, Nat.sub_zero] at r110a r110b ⊢
        refine x_iast (pc := 113) dX0_addClaim_113 hC.2.2.2.2.2.1 (by omega) (by omega) (by omega) ⟨by omega, by omega⟩ ?_
        refine x_aload_n (pc := 114) dX0_addClaim_114 rfl rfl ?_
        refine x_getr (pc := 115) (b := c + 6) fX0_27 dX0_addClaim_115 hC.1 rfl rfl ?_
        refine x_iload (pc := 118) dX0_addClaim_118 rfl ?_
        refine x_dup2 (pc := 120) dX0_addClaim_120 rfl rfl ?_
        refine x_iald (pc := 121) dX0_addClaim_121 hC.2.2.2.2.2.2 (by omega) (by omega) (fun r121a r121b => ?_)
        try simp (disch := omega) only [mset_same, mset_nea, mset_nei, mcopy_nea, mcopy_in, mcopy_out, Int.reduceToNat, Int.toNat_natCast, Nat.zero_add, Nat.sub_zero] at r121a r121b ⊢
        rw [e0]
        refine x_iconst (pc := 122) dX0_addClaim_122 ?_
        refine x_iadd (pc := 123) dX0_addClaim_123 ?_
        refine x_iast (pc := 124) dX0_addClaim_124 hC.2.2.2.2.2.2 (by omega) (by omega) (by omega) ⟨by omega, by omega⟩ ?_
        refine x_vret (pc := 125) dX0_addClaim_125 rfl (by decide) (by decide) ?_
        refine k _ ?_ ⟨?_, ?_, ?_, ?_, ?_, ?_, ?_, ?_⟩
        · intro a' j' ha
          simp (disch := omega) only [mset_same, mset_nea, mset_nei, mcopy_nea, mcopy_in, mcopy_out, Int.reduceToNat, Int.toNat_natCast, Nat.zero_add, Nat.sub_zero]
        · intro j hj
          simp (disch := omega) only [mset_same, mset_nea, mset_nei, mcopy_nea, mcopy_in, mcopy_out, Int.reduceToNat, Int.toNat_natCast, Nat.zero_add, Nat.sub_zero]
          exact hS j hj
        · intro j hj
          simp (disch := omega) only [mset_same, mset_nea, mset_nei, mcopy_nea, mcopy_in, mcopy_out, Int.reduceToNat, Int.toNat_natCast, Nat.zero_add, Nat.sub_zero]
          exact hP j hj
        · simp (disch := omega) only [mset_same, mset_nea, mset_nei, mcopy_nea, mcopy_in, mcopy_out, Int.reduceToNat, Int.toNat_natCast, Nat.zero_add, Nat.sub_zero]
          exact hN
        · intro j hj
          simp (disch := omega) only [mset_same, mset_nea, mset_nei, mcopy_nea, mcopy_in, mcopy_out, Int.reduceToNat, Int.toNat_natCast, Nat.zero_add, Nat.sub_zero]
          exact hm j hj
        · intro p hp
          show _ = (((if p = tN T % 2 then tK T p + 1 else tK T p) : Nat) : Int)
          rw [hq]
          by_cases e : p = q
          · subst e
            simp (disch := omega) only [mset_same, mset_nea, mset_nei, mcopy_nea, mcopy_in, mcopy_out, Int.reduceToNat, Int.toNat_natCast, Nat.zero_add, Nat.sub_zero]
            simp [hy]
          · simp (disch := omega) only [mset_same, mset_nea, mset_nei, mcopy_nea, mcopy_in, mcopy_out, Int.reduceToNat, Int.toNat_natCast, Nat.zero_add, Nat.sub_zero]
            rw [if_neg e]
            exact hK p hp
        · intro p i f hp hi hf
          have hi : i < (if p = tN T % 2 then tK T p + 1 else tK T p) := hi
          show _ = (if p = tN T % 2 ∧ i = tK T p then mkL a b r e s (tN T) else tL T p i) f
          rw [hq] at hi ⊢
          have := wK p
          by_cases e2 : p = q ∧ i = y
          · obtain ⟨e3, e4⟩ := e2
            subst e3
            subst e4
            rw [hy, if_pos ⟨rfl, rfl⟩]
            have e5 : f = 0 ∨ f = 1 ∨ f = 2 ∨ f = 3 ∨ f = 4 ∨ f = 5 := by omega
            rcases e5 with rfl | rfl | rfl | rfl | rfl | rfl <;> simp (disch := omega) only [ey, mset_same, mset_nea, mset_nei, Int.reduceToNat, mkL]
            rw [hN]
          · have e3 : ¬ (p = q ∧ i = tK T p) := fun z => e2 ⟨z.1, by rw [z.2, z.1, hy]⟩
            rw [if_neg e3]
            have hi2 : i < tK T p := by
              by_cases e4 : p = q
              · rw [if_pos e4] at hi
                have : i ≠ tK T p := fun z => e3 ⟨e4, z⟩
                omega
              · rw [if_neg e4] at hi
                exact hi
            have hne : p = q → i < y := fun z => by rw [z, hy] at hi2; exact hi2
            simp (disch := omega) only [ey, mset_same, mset_nea, mset_nei, Int.reduceToNat]
            exact hL p i f hp hi2 hf
        · simp (disch := omega) only [mset_same, mset_nea, mset_nei, mcopy_nea, mcopy_in, mcopy_out, Int.reduceToNat, Int.toNat_natCast, Nat.zero_add, Nat.sub_zero]
          exact hO
        · simp (disch := omega) only [mset_same, mset_nea, mset_nei, mcopy_nea, mcopy_in, mcopy_out, Int.reduceToNat, Int.toNat_natCast, Nat.zero_add, Nat.sub_zero]
          exact hB
      · exfalso; omega
