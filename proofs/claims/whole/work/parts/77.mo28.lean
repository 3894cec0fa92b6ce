/-! The reference's reader: settings, starts. -/
def swW (w : Nat) : Nat := if w = 5 then 6 else w
theorem bit_or : ∀ a, a < 128 → ∀ n, n < 7 → ∀ m, m < 7 → bitF (orF (a : Nat) n) m = if m = n then 1 else bitF (a : Nat) m := by decide +kernel
theorem or_eq (a n : Nat) : (if (a / 2 ^ n) % 2 = 0 then (a : Int) + 2 ^ n else a) = orF (a : Nat) n := by
  unfold orF
  rw [Int.toNat_natCast]
theorem or_64 : ∀ a, a < 64 → ∀ n, n < 6 → 0 ≤ orF (a : Nat) n ∧ orF (a : Nat) n < 64 := by decide +kernel
theorem bit_01 (a : Int) (n : Nat) : bitF a n = 0 ∨ bitF a n = 1 := by
  unfold bitF
  have h1 := Int.emod_nonneg (a / 2 ^ n) (show (2 : Int) ^ 1 ≠ 0 by decide)
  have h2 := Int.emod_lt_of_pos (a / 2 ^ n) (show (0 : Int) < 2 ^ 1 by decide)
  omega
/-- a setup that is being read -/
def SetR (tx : Nat → Int) (n : Nat) (v : Nat → Int) (T : CT) (M : Mem) (d : Nat) : Prop := RelT tx n v M d ∧ RowT T (M (d + 1)) ∧ ((∀ w, w < 6 → bitF (M d 22) w = bitF (v 11) (swW w)) ∧ (0 ≤ M d 22 ∧ M d 22 < 64) ∧ M d 23 = v 12) ∧ ((0 ≤ v 11 ∧ v 11 < 128) ∧ (0 ≤ v 12 ∧ v 12 < 32)) ∧ WfS (tS T) ∧ WfP (tP T)
def SRel (tx : Nat → Int) (n : Nat) (R : SR3) (M : Mem) (d : Nat) : Prop := (R.1 = 1 ∧ SetR tx n R.2.1 R.2.2 M d) ∨ (R.1 ≠ 1 ∧ BadT tx n R.2.1 M d)
def FrW (d : Nat) (M M' : Mem) : Prop := ∀ a j, ¬ (a = d ∧ ((13 ≤ j ∧ j ≤ 18) ∨ j = 22 ∨ j = 23)) → ¬ a = d + 1 → M' a j = M a j
theorem FrW.rf {d : Nat} {M : Mem} : FrW d M M := fun _ _ _ _ => rfl
theorem FrW.tr {d : Nat} {M M' M'' : Mem} (h : FrW d M M') (h2 : FrW d M' M'') : FrW d M M'' := fun a j q q2 => (h2 a j q q2).trans (h a j q q2)
theorem FrW.p {d : Nat} {M M' M'' : Mem} (h : FrW d M M') (h2 : FrP d M' M'') : FrW d M M'' := fun a j q q2 => (h2 a j (fun z => q ⟨z.1, Or.inl z.2⟩)).trans (h a j q q2)
theorem FrW.m1 {d i : Nat} {v : Int} {M M' : Mem} (h : FrW d M M') : FrW d M (mset M' (d + 1) i v) := fun a j q q2 => (mset_nea q2).trans (h a j q q2)
theorem FrW.mf {d i : Nat} {v : Int} {M M' : Mem} (h : FrW d M M') (hi : i = 22 ∨ i = 23) : FrW d M (mset M' d i v) := fun a j q q2 => (mset_ne (fun z => q ⟨z.1, by omega⟩)).trans (h a j q q2)
theorem RelT.m1 {tx v : Nat → Int} {n : Nat} {M : Mem} {d i : Nat} {x : Int} (h : RelT tx n v M d) : RelT tx n v (mset M (d + 1) i x) d := by
  obtain ⟨⟨hT, hR, hK⟩, ⟨a1, a2, a3, a4⟩, a5, a6, a7, a8⟩ := h
  refine ⟨⟨hT.z (mset_nea (by omega)) (fun j => mset_nea (by omega)), hR, hK⟩, ⟨?_, ?_, a3, a4⟩, ?_, ?_, ?_, ?_⟩ <;> rw [mset_nea (by omega)] <;> assumption
theorem RelT.mf {tx v : Nat → Int} {n : Nat} {M : Mem} {d i : Nat} {x : Int} (h : RelT tx n v M d) (hi : 19 ≤ i) : RelT tx n v (mset M d i x) d := by
  obtain ⟨⟨hT, hR, hK⟩, ⟨a1, a2, a3, a4⟩, a5, a6, a7, a8⟩ := h
  refine ⟨⟨hT.z (mset_ne (by omega)) (fun j => mset_nea (by omega)), hR, hK⟩, ⟨?_, ?_, a3, a4⟩, ?_, ?_, ?_, ?_⟩ <;> rw [mset_nei (by omega)] <;> assumption
theorem BadT.m1 {tx v : Nat → Int} {n : Nat} {M : Mem} {d i : Nat} {x : Int} (h : BadT tx n v M d) : BadT tx n v (mset M (d + 1) i x) d := by
  obtain ⟨⟨hT, hR⟩, ⟨a1, a2, a3⟩, a4⟩ := h
  refine ⟨⟨hT.z (mset_nea (by omega)) (fun j => mset_nea (by omega)), hR⟩, ⟨?_, ?_, a3⟩, ?_⟩ <;> rw [mset_nea (by omega)] <;> assumption
theorem RowT.setS {T : CT} {r : Nat → Int} {i : Nat} {x : Int} (h : RowT T r) (hi : i < 7) : RowT (setS T i x) (fup r i x) := by
  obtain ⟨⟨hS, hN, h10, hP, hp3, hL, hK, h99, hm⟩, hO, hB⟩ := h
  have e : ∀ j, 7 ≤ j → fup r i x j = r j := fun j hj => fup_ne (by omega)
  refine ⟨⟨fun j hj => ?_, ?_, ?_, fun p hp => ?_, fun p hp => ⟨?_, ?_, ?_⟩, fun pl k f h1 h2 h3 => ?_, fun pl h1 => ⟨?_, ?_⟩, ?_, fun j hj => ⟨?_, ?_, ?_⟩⟩, ?_, ?_⟩
  · show _ = fup (tS T) i x j
    unfold fup
    split
    · rfl
    · exact hS j hj
  · rw [e _ (by omega)]; exact hN
  · rw [e _ (by omega)]; exact h10
  · rw [e _ (by omega)]; exact hP p hp
  · rw [e _ (by omega)]; exact (hp3 p hp).1
  · rw [e _ (by omega)]; exact (hp3 p hp).2.1
  · rw [e _ (by omega)]; exact (hp3 p hp).2.2
  · rw [e _ (by omega)]; exact hL pl k f h1 h2 h3
  · rw [e _ (by omega)]; exact (hK pl h1).1
  · rw [e _ (by omega)]; exact (hK pl h1).2
  · rw [e _ (by omega)]; exact h99
  · rw [e _ (by omega)]; exact (hm j hj).1
  · rw [e _ (by omega)]; exact (hm j hj).2.1
  · rw [e _ (by omega)]; exact (hm j hj).2.2
  · rw [e _ (by omega)]; exact hO
  · rw [e _ (by omega)]; exact hB
theorem RowT.setP {T : CT} {r : Nat → Int} {i : Nat} {x : Int} (h : RowT T r) (hi : i < 5) : RowT (setP T (fup (tP T) i x)) (fup r (11 + i) x) := by
  obtain ⟨⟨hS, hN, h10, hP, hp3, hL, hK, h99, hm⟩, hO, hB⟩ := h
  have e : ∀ j, j < 11 ∨ 20 ≤ j → fup r (11 + i) x j = r j := fun j hj => fup_ne (by omega)
  refine ⟨⟨fun j hj => ?_, ?_, ?_, fun p hp => ?_, fun p hp => ⟨?_, ?_, ?_⟩, fun pl k f h1 h2 h3 => ?_, fun pl h1 => ⟨?_, ?_⟩, ?_, fun j hj => ⟨?_, ?_, ?_⟩⟩, ?_, ?_⟩
  · rw [e _ (by omega)]; exact hS j hj
  · rw [e _ (by omega)]; exact hN
  · rw [e _ (by omega)]; exact h10
  · show _ = fup (tP T) i x p
    unfold fup
    by_cases e2 : p = i
    · rw [if_pos e2, if_pos (by omega)]
    · rw [if_neg e2, if_neg (by omega)]; exact hP p hp
  · rw [e _ (by omega)]; exact (hp3 p hp).1
  · rw [e _ (by omega)]; exact (hp3 p hp).2.1
  · rw [e _ (by omega)]; exact (hp3 p hp).2.2
  · rw [e _ (by omega)]; exact hL pl k f h1 h2 h3
  · rw [e _ (by omega)]; exact (hK pl h1).1
  · rw [e _ (by omega)]; exact (hK pl h1).2
  · rw [e _ (by omega)]; exact h99
  · rw [e _ (by omega)]; exact (hm j hj).1
  · rw [e _ (by omega)]; exact (hm j hj).2.1
  · rw [e _ (by omega)]; exact (hm j hj).2.2
  · rw [e _ (by omega)]; exact hO
  · rw [e _ (by omega)]; exact hB
theorem FrP.n {d : Nat} {M M' : Mem} (h : FrP d M M') : M' (d + 1) = M (d + 1) := funext fun j => h _ _ (by omega)
/-- the words as the class asks for them -/
theorem words_one {tx v : Nat → Int} {a b : Nat} (ha : a < 12) (hb : b < 12) (h1 : isWordP tx v a) (h2 : isWordP tx v b) : a = b := by
  have key : ∀ a, a < 12 → ∀ b, b < 12 → stN a = stN b → (∀ i, i < 7 → i < stN a → (stB a).getD i 0 = (stB b).getD i 0) → a = b := by decide
  refine key a ha b hb (by have := h1.2.1; have := h2.2.1; omega) (fun i _ hi => ?_)
  have e1 := h1.2.2 i hi
  have e2 := h2.2.2 i (by have := h1.2.1; have := h2.2.1; omega)
  rw [← e1, ← e2]
theorem wfn_eq {tx v : Nat → Int} : ∀ (c w : Nat), (∀ u, wfn tx v c w = (u : Nat) → w ≤ u ∧ u < w + c ∧ isWordP tx v (wM u)) ∧ (wfn tx v c w = -1 → ∀ u, w ≤ u → u < w + c → ¬ isWordP tx v (wM u))
  | 0, w => ⟨fun u h => by simp only [wfn] at h; omega, fun _ u h1 h2 => by omega⟩
  | c + 1, w => by
    obtain ⟨i1, i2⟩ := wfn_eq (tx := tx) (v := v) c (w + 1)
    have hr := wfn_rng tx v c (w + 1)
    simp only [wfn]
    by_cases e : isWordP tx v (wM w)
    · rw [if_pos e]
      refine ⟨fun u h => ?_, fun h => by omega⟩
      have hu : u = w := by omega
      subst hu
      exact ⟨by omega, by omega, e⟩
    · rw [if_neg e]
      refine ⟨fun u h => ?_, fun h u h1 h2 => ?_⟩
      · have := i1 u h
        exact ⟨by omega, by omega, this.2.2⟩
      · by_cases e2 : u = w
        · rw [e2]; exact e
        · exact i2 h u (by omega) (by omega)
theorem num_rng {tx v : Nat → Int} {n : Nat} {lo hi : Int} (h : (numRF tx n v lo hi).1 = 1) : lo ≤ (numRF tx n v lo hi).2 10 ∧ (numRF tx n v lo hi).2 10 ≤ hi := by
  unfold numRF at h ⊢
  split
  · next h2 => rw [if_pos h2] at h; exact absurd h (by show ¬ (0 : Int) = 1; decide)
  · next h2 =>
    rw [if_neg h2] at h
    split
    · next h3 => rw [if_pos h3] at h; exact absurd h (by show ¬ (0 : Int) = 1; decide)
    · show lo ≤ tokF tx n (fup v 10 (v 9)) 10 ∧ tokF tx n (fup v 10 (v 9)) 10 ≤ hi
      rw [tok_ne (by omega), fup_at]
      omega
theorem int_rng {tx v : Nat → Int} {n : Nat} {lo hi : Int} (h : (intRF tx n v lo hi).1 = 1) : lo ≤ (intRF tx n v lo hi).2 10 ∧ (intRF tx n v lo hi).2 10 ≤ hi := by
  unfold intRF at h ⊢
  split
  · next h2 => rw [if_pos h2] at h; exact absurd h (by show ¬ (0 : Int) = 1; decide)
  · next h2 =>
    rw [if_neg h2] at h
    split
    · next h3 => rw [if_pos h3] at h; exact absurd h (by show ¬ (0 : Int) = 1; decide)
    · show lo ≤ tokF tx n (fup (minF tx n v) 10 (toldF v (minF tx n v))) 10 ∧ tokF tx n (fup (minF tx n v) 10 (toldF v (minF tx n v))) 10 ≤ hi
      rw [tok_ne (by omega), fup_at]
      omega
theorem tab_rng : ∀ i, i < 7 → (0 ≤ tabF 1 i ∧ tabF 1 i ≤ 100) ∧ (0 ≤ tabF 2 i ∧ tabF 2 i ≤ 100) := by decide
theorem swW_inj {a b : Nat} (ha : a < 6) (hb : b < 6) (h : swW a = swW b) : a = b := by
  unfold swW at h
  split at h <;> split at h <;> omega
theorem wM_12 : ∀ w, w < 12 → wM w < 12 := by decide
theorem wM_inj : ∀ w, w < 12 → ∀ u, u < 12 → wM w = wM u → w = u := by decide
theorem wordF_iff {tx v : Nat → Int} {w : Nat} (hw : w < 12) : wordF tx v = (w : Nat) ↔ isWordP tx v (wM w) := by
  obtain ⟨i1, i2⟩ := wfn_eq (tx := tx) (v := v) 12 0
  have hr := wordF_rng tx v
  constructor
  · exact fun h => (i1 w h).2.2
  · intro h
    by_cases e : wordF tx v = -1
    · exact absurd h (i2 e w (by omega) (by omega))
    · obtain ⟨u, hu⟩ := Int.eq_ofNat_of_zero_le (show 0 ≤ wordF tx v by omega)
      have h3 := i1 u hu
      have := words_one (wM_12 u (by omega)) (wM_12 w hw) h3.2.2 h
      have := wM_inj u (by omega) w hw this
      rw [hu, this]

set_option maxRecDepth 100000 in
theorem sp_X5_lowOf {g : GG} {lay : Lay} {M : Mem} {K : KK} {i : Nat} (hi : i < 5 ∨ i = 6) (k : K (.inl (some (vI (tabF 1 i)))) lay M) : X g m_X5_lowOf 0 0 lay M 0 [(0, vI i)] [] K := by
  refine x_iload_n (pc := 0) dX5_lowOf_0 rfl rfl ?_
  refine x_if_ne (pc := 1) (t := 8) dX5_lowOf_1 (by decide) ⟨by omega, by omega⟩ (fun c1 => ?_) (fun c1 => ?_)
  · refine x_iload_n (pc := 8) dX5_lowOf_8 rfl rfl ?_
    refine x_iconst (pc := 9) dX5_lowOf_9 ?_
    refine x_icmp_eq (pc := 10) (t := 18) dX5_lowOf_10 (by decide) ⟨by omega, by omega⟩ ⟨by omega, by omega⟩ (fun c10 => ?_) (fun c10 => ?_)
    · refine x_iconst (pc := 18) dX5_lowOf_18 ?_
      refine x_goto (pc := 19) (t := 23) dX5_lowOf_19 (by decide) ?_
      refine x_iret (pc := 23) dX5_lowOf_23 rfl (by decide) (by decide) ?_
      refine kI k ?_
      have e : i = 0 ∨ i = 1 ∨ i = 2 ∨ i = 3 ∨ i = 4 ∨ i = 6 := by omega
      rcases e with rfl | rfl | rfl | rfl | rfl | rfl <;> first | rfl | (exfalso; omega)
    · refine x_iload_n (pc := 13) dX5_lowOf_13 rfl rfl ?_
      refine x_iconst (pc := 14) dX5_lowOf_14 ?_
      refine x_icmp_ne (pc := 15) (t := 22) dX5_lowOf_15 (by decide) ⟨by omega, by omega⟩ ⟨by omega, by omega⟩ (fun c15 => ?_) (fun c15 => ?_)
      · refine x_iconst (pc := 22) dX5_lowOf_22 ?_
        refine x_iret (pc := 23) dX5_lowOf_23 rfl (by decide) (by decide) ?_
        refine kI k ?_
        have e : i = 0 ∨ i = 1 ∨ i = 2 ∨ i = 3 ∨ i = 4 ∨ i = 6 := by omega
        rcases e with rfl | rfl | rfl | rfl | rfl | rfl <;> first | rfl | (exfalso; omega)
      · refine x_iconst (pc := 18) dX5_lowOf_18 ?_
        refine x_goto (pc := 19) (t := 23) dX5_lowOf_19 (by decide) ?_
        refine x_iret (pc := 23) dX5_lowOf_23 rfl (by decide) (by decide) ?_
        refine kI k ?_
        have e : i = 0 ∨ i = 1 ∨ i = 2 ∨ i = 3 ∨ i = 4 ∨ i = 6 := by omega
        rcases e with rfl | rfl | rfl | rfl | rfl | rfl <;> first | rfl | (exfalso; omega)
  · refine x_iconst (pc := 4) dX5_lowOf_4 ?_
    refine x_goto (pc := 5) (t := 23) dX5_lowOf_5 (by decide) ?_
    refine x_iret (pc := 23) dX5_lowOf_23 rfl (by decide) (by decide) ?_
    refine kI k ?_
    have e : i = 0 ∨ i = 1 ∨ i = 2 ∨ i = 3 ∨ i = 4 ∨ i = 6 := by omega
    rcases e with rfl | rfl | rfl | rfl | rfl | rfl <;> first | rfl | (exfalso; omega)
set_option maxRecDepth 100000 in
theorem sp_X5_highOf {g : GG} {lay : Lay} {M : Mem} {K : KK} {i : Nat} (hi : i < 5 ∨ i = 6) (k : K (.inl (some (vI (tabF 2 i)))) lay M) : X g m_X5_highOf 0 0 lay M 0 [(0, vI i)] [] K := by
  refine x_iload_n (pc := 0) dX5_highOf_0 rfl rfl ?_
  refine x_if_ne (pc := 1) (t := 8) dX5_highOf_1 (by decide) ⟨by omega, by omega⟩ (fun c1 => ?_) (fun c1 => ?_)
  · refine x_iload_n (pc := 8) dX5_highOf_8 rfl rfl ?_
    refine x_iconst (pc := 9) dX5_highOf_9 ?_
    refine x_icmp_ne (pc := 10) (t := 18) dX5_highOf_10 (by decide) ⟨by omega, by omega⟩ ⟨by omega, by omega⟩ (fun c10 => ?_) (fun c10 => ?_)
    · refine x_iload_n (pc := 18) dX5_highOf_18 rfl rfl ?_
      refine x_iconst (pc := 19) dX5_highOf_19 ?_
      refine x_icmp_ne (pc := 20) (t := 28) dX5_highOf_20 (by decide) ⟨by omega, by omega⟩ ⟨by omega, by omega⟩ (fun c20 => ?_) (fun c20 => ?_)
      · refine x_iload_n (pc := 28) dX5_highOf_28 rfl rfl ?_
        refine x_iconst (pc := 29) dX5_highOf_29 ?_
        refine x_icmp_ne (pc := 30) (t := 38) dX5_highOf_30 (by decide) ⟨by omega, by omega⟩ ⟨by omega, by omega⟩ (fun c30 => ?_) (fun c30 => ?_)
        · refine x_iload_n (pc := 38) dX5_highOf_38 rfl rfl ?_
          refine x_iconst (pc := 39) dX5_highOf_39 ?_
          refine x_icmp_ne (pc := 40) (t := 47) dX5_highOf_40 (by decide) ⟨by omega, by omega⟩ ⟨by omega, by omega⟩ (fun c40 => ?_) (fun c40 => ?_)
          · refine x_bipush (pc := 47) dX5_highOf_47 (by decide) ?_
            refine x_iret (pc := 49) dX5_highOf_49 rfl (by decide) (by decide) ?_
            refine kI k ?_
            have e : i = 0 ∨ i = 1 ∨ i = 2 ∨ i = 3 ∨ i = 4 ∨ i = 6 := by omega
            rcases e with rfl | rfl | rfl | rfl | rfl | rfl <;> first | rfl | (exfalso; omega)
          · refine x_iconst (pc := 43) dX5_highOf_43 ?_
            refine x_goto (pc := 44) (t := 49) dX5_highOf_44 (by decide) ?_
            refine x_iret (pc := 49) dX5_highOf_49 rfl (by decide) (by decide) ?_
            refine kI k ?_
            have e : i = 0 ∨ i = 1 ∨ i = 2 ∨ i = 3 ∨ i = 4 ∨ i = 6 := by omega
            rcases e with rfl | rfl | rfl | rfl | rfl | rfl <;> first | rfl | (exfalso; omega)
        · refine x_bipush (pc := 33) dX5_highOf_33 (by decide) ?_
          refine x_goto (pc := 35) (t := 49) dX5_highOf_35 (by decide) ?_
          refine x_iret (pc := 49) dX5_highOf_49 rfl (by decide) (by decide) ?_
          refine kI k ?_
          have e : i = 0 ∨ i = 1 ∨ i = 2 ∨ i = 3 ∨ i = 4 ∨ i = 6 := by omega
          rcases e with rfl | rfl | rfl | rfl | rfl | rfl <;> first | rfl | (exfalso; omega)
      · refine x_bipush (pc := 23) dX5_highOf_23 (by decide) ?_
        refine x_goto (pc := 25) (t := 49) dX5_highOf_25 (by decide) ?_
        refine x_iret (pc := 49) dX5_highOf_49 rfl (by decide) (by decide) ?_
        refine kI k ?_
        have e : i = 0 ∨ i = 1 ∨ i = 2 ∨ i = 3 ∨ i = 4 ∨ i = 6 := by omega
        rcases e with rfl | rfl | rfl | rfl | rfl | rfl <;> first | rfl | (exfalso; omega)
    · refine x_bipush (pc := 13) dX5_highOf_13 (by decide) ?_
      refine x_goto (pc := 15) (t := 49) dX5_highOf_15 (by decide) ?_
      refine x_iret (pc := 49) dX5_highOf_49 rfl (by decide) (by decide) ?_
      refine kI k ?_
      have e : i = 0 ∨ i = 1 ∨ i = 2 ∨ i = 3 ∨ i = 4 ∨ i = 6 := by omega
      rcases e with rfl | rfl | rfl | rfl | rfl | rfl <;> first | rfl | (exfalso; omega)
  · refine x_iconst (pc := 4) dX5_highOf_4 ?_
    refine x_goto (pc := 5) (t := 49) dX5_highOf_5 (by decide) ?_
    refine x_iret (pc := 49) dX5_highOf_49 rfl (by decide) (by decide) ?_
    refine kI k ?_
    have e : i = 0 ∨ i = 1 ∨ i = 2 ∨ i = 3 ∨ i = 4 ∨ i = 6 := by omega
    rcases e with rfl | rfl | rfl | rfl | rfl | rfl <;> first | rfl | (exfalso; omega)
set_option maxRecDepth 100000 in
theorem sp_X5_readSetting {g : GG} {lay : Lay} {M : Mem} {K : KK} {d : Nat} {tx v : Nat → Int} {n : Nat} {T : CT} {w : Nat} (hd : MoL lay d) (hb0 : g.2.1 ≤ d) (hV9 : SetR tx n v T M d) (hw : w < 6) (hn0 : ¬ isWordP tx v 0) (hsw : setWF tx v = (swW w : Nat)) (k : ∀ M2, FrW d M M2 → SRel tx n (rStmtF tx n v T) M2 d → K (.inl none) lay M2) : X g m_X5_readSetting 0 0 lay M 0 [(0, vR d), (1, vI w)] [] K := by
  obtain ⟨hV, hRow, ⟨hbits, hb22, hb23⟩, ⟨hv11, hv12⟩, hWS, hWP⟩ := id hV9
  obtain ⟨⟨hT, hR, hK⟩, ⟨h17, h18, v3, v4⟩, h13, h14, h15, h16⟩ := id hV
  obtain ⟨⟨k61, k62⟩, ⟨k71, k72⟩, ⟨k81, k82⟩, k91, k92⟩ := id hK
  have hnr := h16.rng
  have hmk := @mk_iff (v 6)
  have h600 := hT.1.1
  have hs7 : swW w < 7 ∧ (swW w = 0 ↔ w = 0) ∧ (swW w = 4 ↔ w = 4) ∧ (swW w < 5 ∨ swW w = 6) := by unfold swW; split <;> omega
  have hbw := hbits w hw
  have hb01 := bit_01 (M d 22) w
  have ne1 : ¬ (0 : Int) = 1 := by decide
  have eR : rStmtF tx n v T = if ((swW w : Nat) : Int) = 0 ∧ v 12 ≠ 0 ∨ bitF (v 11) (swW w) = 1 then (0, (failF v 3).2, T) else if (rSetF tx n (tokF tx n (fup v 11 (orF (v 11) (swW w)))) T (swW w)).1 ≠ 1 then (0, (rSetF tx n (tokF tx n (fup v 11 (orF (v 11) (swW w)))) T (swW w)).2) else if ((swW w : Nat) : Int) ≠ 4 then (1, (rSetF tx n (tokF tx n (fup v 11 (orF (v 11) (swW w)))) T (swW w)).2) else rSetF tx n (rSetF tx n (tokF tx n (fup v 11 (orF (v 11) (swW w)))) T (swW w)).2.1 (rSetF tx n (tokF tx n (fup v 11 (orF (v 11) (swW w)))) T (swW w)).2.2 5 := by
    unfold rStmtF
    rw [if_neg hn0, if_neg (by rw [hsw]; omega), hsw, Int.toNat_natCast]
  obtain ⟨RR, hRR⟩ : ∃ RR, RR = rStmtF tx n v T := ⟨_, rfl⟩
  rw [← hRR] at k eR
  obtain ⟨Q, hQ⟩ : ∃ Q, Q = rSetF tx n (tokF tx n (fup v 11 (orF (v 11) (swW w)))) T (swW w) := ⟨_, rfl⟩
  rw [← hQ] at eR
  have badK : ∀ M2, FrW d M M2 → BadT tx n (failF v 3).2 M2 d → (((swW w : Nat) : Int) = 0 ∧ v 12 ≠ 0 ∨ bitF (v 11) (swW w) = 1) → X g m_X5_readSetting 0 0 lay M2 44 [(2, vI (swW w : Nat)), (0, vR d), (1, vI w)] [] K := by
    intro M2 hF2 hB2 hc
    have hB3 := hB2.2.1.2.2.1
    rw [if_pos hc] at eR
    refine x_aload_n (pc := 44) dX5_readSetting_44 rfl rfl ?_
    refine x_geti (pc := 45) fX5_296 dX5_readSetting_45 hd.1 rfl (fun r45a r45b => ?_)
    rw [hB2.2.1.1] at r45a r45b ⊢
    refine x_if_le (pc := 48) (t := 52) dX5_readSetting_48 (by decide) ⟨by omega, by omega⟩ (fun c48 => ?_) (fun c48 => ?_)
    · exfalso; omega
    · refine x_vret (pc := 51) dX5_readSetting_51 rfl (by decide) (by decide) ?_
      refine k M2 hF2 (Or.inr ?_)
      rw [eR]
      exact ⟨ne1, hB2⟩
  have last : ∀ M2 (x : Int), FrW d M M2 → 0 ≤ x ∧ x ≤ 200000 → ¬ (((swW w : Nat) : Int) = 0 ∧ v 12 ≠ 0 ∨ bitF (v 11) (swW w) = 1) → SRel tx n Q (mset M2 (d + 1) (swW w) x) d → X g m_X5_readSetting 0 0 lay (mset M2 (d + 1) (swW w) x) 86 [(2, vI (swW w : Nat)), (0, vR d), (1, vI w)] [] K := by
    intro M2 x hF2 hx hc hQ2
    rw [if_neg hc] at eR
    obtain ⟨M3, hM3⟩ : ∃ M3, M3 = mset M2 (d + 1) (swW w) x := ⟨_, rfl⟩
    rw [← hM3] at hQ2 ⊢
    have hF3 : FrW d M M3 := by rw [hM3]; exact hF2.m1
    rcases hQ2 with ⟨hq1, hq2⟩ | ⟨hq1, hq2⟩
    · rw [if_neg (fun z => z hq1)] at eR
      have hq5 := hq2.1
      obtain ⟨u9, hu9⟩ : ∃ u9, u9 = numRF tx n Q.2.1 0 20 := ⟨_, rfl⟩
      refine x_iload_n (pc := 86) dX5_readSetting_86 rfl rfl ?_
      refine x_iconst (pc := 87) dX5_readSetting_87 ?_
      refine x_icmp_ne (pc := 88) (t := 104) dX5_readSetting_88 (by decide) ⟨by omega, by omega⟩ ⟨by omega, by omega⟩ (fun c88 => ?_) (fun c88 => ?_)
      · refine x_vret (pc := 104) dX5_readSetting_104 rfl (by decide) (by decide) ?_
        first
        | (rw [if_pos (by omega)] at eR
           refine k M3 hF3 (Or.inl ?_)
           rw [eR]
           exact ⟨rfl, hq2⟩)
        | (rw [if_neg (by omega)] at eR
           refine k _ ((hF3.p hF4).m1) ?_
           rw [eR]
           unfold rSetF
           rw [show tabF 1 5 = 0 from rfl, show tabF 2 5 = 20 from rfl]
           rcases hP4 with ⟨p1, p2⟩ | ⟨p1, p2⟩
           · rw [if_pos p1, ← hy4 p1]
             obtain ⟨-, g2, ⟨g3, g4, g5⟩, ⟨g6, g7⟩, g8, g9⟩ := id hq2
             have en11 : (numRF tx n Q.2.1 0 20).2 11 = Q.2.1 11 := num_ne (by omega)
             have en12 : (numRF tx n Q.2.1 0 20).2 12 = Q.2.1 12 := num_ne (by omega)
             refine Or.inl ⟨rfl, p2.m1, ?_, ⟨fun q hq => ?_, ?_, ?_⟩, ⟨?_, ?_⟩, ?_, g9⟩
             · show RowT (setS Q.2.2 5 y) (mset M4 (d + 1) 5 y (d + 1))
               rw [mset_row, hF4.n]
               exact g2.setS (by omega)
             · show bitF _ q = bitF ((numRF tx n Q.2.1 0 20).2 11) (swW q)
               rw [mset_nea (by omega), hF4 _ _ (by omega), en11]
               exact g3 q hq
             · rw [mset_nea (by omega), hF4 _ _ (by omega)]
               exact g4
             · show _ = (numRF tx n Q.2.1 0 20).2 12
               rw [mset_nea (by omega), hF4 _ _ (by omega), en12]
               exact g5
             · show 0 ≤ (numRF tx n Q.2.1 0 20).2 11 ∧ (numRF tx n Q.2.1 0 20).2 11 < 128
               rw [en11]; exact g6
             · show 0 ≤ (numRF tx n Q.2.1 0 20).2 12 ∧ (numRF tx n Q.2.1 0 20).2 12 < 32
               rw [en12]; exact g7
             · have hrg := num_rng p1
               have hy5 := hy4 p1
               exact g8.up (by omega) (by show (0 : Int) ≤ y; omega) (by show y ≤ (20 : Int); omega)
           · rw [if_neg p1]
             exact Or.inr ⟨ne1, p2.m1⟩)
      · refine x_aload_n (pc := 91) dX5_readSetting_91 rfl rfl ?_
        refine x_getr (pc := 92) (b := d + 1) fX5_7 dX5_readSetting_92 hd.1 rfl rfl ?_
        refine x_iconst (pc := 95) dX5_readSetting_95 ?_
        refine x_aload_n (pc := 96) dX5_readSetting_96 rfl rfl ?_
        refine x_iconst (pc := 97) dX5_readSetting_97 ?_
        refine x_bipush (pc := 98) dX5_readSetting_98 (by decide) ?_
        refine x_callV (pc := 100) [_, _] rfl kX5_327 dX5_readSetting_100 hd.1 rfl rfl (by decide) (Nat.le_of_ble_eq_true rfl) (Nat.le_of_ble_eq_true rfl) (by decide) ?_
        refine sp_X5_reads hd hb0 hq5 ⟨by omega, by omega⟩ ⟨by omega, by omega⟩ (fun M4 y hF4 hP4 hy4 hyr => ?_)
        refine ⟨_, rfl, ?_⟩
        refine x_iast (pc := 103) dX5_readSetting_103 hd.2.1 (by omega) (by omega) (by omega) ⟨by omega, by omega⟩ ?_
        refine x_vret (pc := 104) dX5_readSetting_104 rfl (by decide) (by decide) ?_
        first
        | (rw [if_pos (by omega)] at eR
           refine k M3 hF3 (Or.inl ?_)
           rw [eR]
           exact ⟨rfl, hq2⟩)
        | (rw [if_neg (by omega)] at eR
           refine k _ ((hF3.p hF4).m1) ?_
           rw [eR]
           unfold rSetF
           rw [show tabF 1 5 = 0 from rfl, show tabF 2 5 = 20 from rfl]
           rcases hP4 with ⟨p1, p2⟩ | ⟨p1, p2⟩
           · rw [if_pos p1, ← hy4 p1]
             obtain ⟨-, g2, ⟨g3, g4, g5⟩, ⟨g6, g7⟩, g8, g9⟩ := id hq2
             have en11 : (numRF tx n Q.2.1 0 20).2 11 = Q.2.1 11 := num_ne (by omega)
             have en12 : (numRF tx n Q.2.1 0 20).2 12 = Q.2.1 12 := num_ne (by omega)
             refine Or.inl ⟨rfl, p2.m1, ?_, ⟨fun q hq => ?_, ?_, ?_⟩, ⟨?_, ?_⟩, ?_, g9⟩
             · show RowT (setS Q.2.2 5 y) (mset M4 (d + 1) 5 y (d + 1))
               rw [mset_row, hF4.n]
               exact g2.setS (by omega)
             · show bitF _ q = bitF ((numRF tx n Q.2.1 0 20).2 11) (swW q)
               rw [mset_nea (by omega), hF4 _ _ (by omega), en11]
               exact g3 q hq
             · rw [mset_nea (by omega), hF4 _ _ (by omega)]
               exact g4
             · show _ = (numRF tx n Q.2.1 0 20).2 12
               rw [mset_nea (by omega), hF4 _ _ (by omega), en12]
               exact g5
             · show 0 ≤ (numRF tx n Q.2.1 0 20).2 11 ∧ (numRF tx n Q.2.1 0 20).2 11 < 128
               rw [en11]; exact g6
             · show 0 ≤ (numRF tx n Q.2.1 0 20).2 12 ∧ (numRF tx n Q.2.1 0 20).2 12 < 32
               rw [en12]; exact g7
             · have hrg := num_rng p1
               have hy5 := hy4 p1
               exact g8.up (by omega) (by show (0 : Int) ≤ y; omega) (by show y ≤ (20 : Int); omega)
           · rw [if_neg p1]
             exact Or.inr ⟨ne1, p2.m1⟩)
    · rw [if_pos hq1] at eR
      refine x_iload_n (pc := 86) dX5_readSetting_86 rfl rfl ?_
      refine x_iconst (pc := 87) dX5_readSetting_87 ?_
      refine x_icmp_ne (pc := 88) (t := 104) dX5_readSetting_88 (by decide) ⟨by omega, by omega⟩ ⟨by omega, by omega⟩ (fun c88 => ?_) (fun c88 => ?_)
      · refine x_vret (pc := 104) dX5_readSetting_104 rfl (by decide) (by decide) ?_
        rw [eR] at k
        first
        | (refine k M3 hF3 (Or.inr ⟨ne1, hq2⟩))
        | (refine k _ hF3.m1 (Or.inr ⟨ne1, hq2.m1⟩))
      · refine x_aload_n (pc := 91) dX5_readSetting_91 rfl rfl ?_
        refine x_getr (pc := 92) (b := d + 1) fX5_7 dX5_readSetting_92 hd.1 rfl rfl ?_
        refine x_iconst (pc := 95) dX5_readSetting_95 ?_
        refine x_aload_n (pc := 96) dX5_readSetting_96 rfl rfl ?_
        refine x_iconst (pc := 97) dX5_readSetting_97 ?_
        refine x_bipush (pc := 98) dX5_readSetting_98 (by decide) ?_
        refine x_callV (pc := 100) [_, _] rfl kX5_327 dX5_readSetting_100 hd.1 rfl rfl (by decide) (Nat.le_of_ble_eq_true rfl) (Nat.le_of_ble_eq_true rfl) (by decide) ?_
        refine sp_X5_readsB hd hb0 hq2 ⟨by omega, by omega⟩ ⟨by omega, by omega⟩ (fun y hyr => ?_)
        refine ⟨_, rfl, ?_⟩
        refine x_iast (pc := 103) dX5_readSetting_103 hd.2.1 (by omega) (by omega) (by omega) ⟨by omega, by omega⟩ ?_
        refine x_vret (pc := 104) dX5_readSetting_104 rfl (by decide) (by decide) ?_
        rw [eR] at k
        first
        | (refine k M3 hF3 (Or.inr ⟨ne1, hq2⟩))
        | (refine k _ hF3.m1 (Or.inr ⟨ne1, hq2.m1⟩))
  have goodK : ¬ (((swW w : Nat) : Int) = 0 ∧ v 12 ≠ 0 ∨ bitF (v 11) (swW w) = 1) → X g m_X5_readSetting 0 0 lay M 44 [(2, vI (swW w : Nat)), (0, vR d), (1, vI w)] [] K := by
    intro hc
    have hbz : bitF (M d 22) w = 0 := by
      rcases hb01 with z | z
      · exact z
      · exact absurd (Or.inr (hbw ▸ z)) hc
    refine x_aload_n (pc := 44) dX5_readSetting_44 rfl rfl ?_
    refine x_geti (pc := 45) fX5_296 dX5_readSetting_45 hd.1 rfl (fun r45a r45b => ?_)
    rw [h17] at r45a r45b ⊢
    refine x_if_le (pc := 48) (t := 52) dX5_readSetting_48 (by decide) ⟨by omega, by omega⟩ (fun c48 => ?_) (fun c48 => ?_)
    · refine x_aload_n (pc := 52) dX5_readSetting_52 rfl rfl ?_
      refine x_dup (pc := 53) dX5_readSetting_53 rfl ?_
      refine x_geti (pc := 54) fX5_315 dX5_readSetting_54 hd.1 rfl (fun r54a r54b => ?_)
      obtain ⟨a9, ha9⟩ := Int.eq_ofNat_of_zero_le hb22.1
      rw [ha9] at r54a r54b ⊢
      refine x_iconst (pc := 57) dX5_readSetting_57 ?_
      refine x_iload_n (pc := 58) dX5_readSetting_58 rfl rfl ?_
      refine x_ishl (pc := 59) w (by omega) rfl dX5_readSetting_59 ?_
      refine x_ior (pc := 60) a9 w (by omega) (by omega) rfl rfl dX5_readSetting_60 ?_
      rw [or_eq]
      have ho64 := or_64 a9 (by omega) w hw
      refine x_puti (pc := 61) fnX5_315 dX5_readSetting_61 hd.1 (by omega) rfl ⟨by omega, by omega⟩ ?_
      refine x_aload_n (pc := 64) dX5_readSetting_64 rfl rfl ?_
      refine x_callV (pc := 65) [] rfl kX5_302 dX5_readSetting_65 hd.1 rfl rfl (by decide) (Nat.le_of_ble_eq_true rfl) (Nat.le_of_ble_eq_true rfl) (by decide) ?_
      have hV1 : RelT tx n (fup v 11 (orF (v 11) (swW w))) (mset M d 22 (orF (a9 : Nat) w)) d := hV.mf (by omega)
      refine sp_X5_next hd hb0 hV1 (fun M2 hF2 hV2 => ?_)
      refine ⟨_, rfl, ?_⟩
      refine x_aload_n (pc := 68) dX5_readSetting_68 rfl rfl ?_
      refine x_getr (pc := 69) (b := d + 1) fX5_7 dX5_readSetting_69 hd.1 rfl rfl ?_
      refine x_iload_n (pc := 72) dX5_readSetting_72 rfl rfl ?_
      refine x_aload_n (pc := 73) dX5_readSetting_73 rfl rfl ?_
      refine x_iload_n (pc := 74) dX5_readSetting_74 rfl rfl ?_
      refine x_callS (pc := 75) [_] rfl kX5_321 dX5_readSetting_75 rfl (by decide) (Nat.le_of_ble_eq_true rfl) (Nat.le_of_ble_eq_true rfl) (by decide) ?_
      refine sp_X5_lowOf hs7.2.2.2 ?_
      refine ⟨_, rfl, ?_⟩
      refine x_iload_n (pc := 78) dX5_readSetting_78 rfl rfl ?_
      refine x_callS (pc := 79) [_] rfl kX5_324 dX5_readSetting_79 rfl (by decide) (Nat.le_of_ble_eq_true rfl) (Nat.le_of_ble_eq_true rfl) (by decide) ?_
      refine sp_X5_highOf hs7.2.2.2 ?_
      refine ⟨_, rfl, ?_⟩
      refine x_callV (pc := 82) [_, _] rfl kX5_327 dX5_readSetting_82 hd.1 rfl rfl (by decide) (Nat.le_of_ble_eq_true rfl) (Nat.le_of_ble_eq_true rfl) (by decide) ?_
      have htab := tab_rng (swW w) hs7.1
      refine sp_X5_reads hd hb0 hV2 (by omega) (by omega) (fun M3 x hF3 hP3 hx3 hxr => ?_)
      refine ⟨_, rfl, ?_⟩
      refine x_iast (pc := 85) dX5_readSetting_85 hd.2.1 (by omega) (by omega) (by omega) ⟨by omega, by omega⟩ ?_
      refine X.loc [0, 1, 2] (L' := [(2, _), (0, _), (1, _)]) rfl ?_
      rw [Int.toNat_natCast]
      have hF23 : FrW d M M3 := (((FrW.rf.mf (Or.inl rfl)).p hF2).p hF3)
      refine last M3 x hF23 hxr hc ?_
      rw [hQ]
      unfold rSetF
      have e22 : M3 d 22 = orF (a9 : Nat) w := by rw [hF3 _ _ (by omega), hF2 _ _ (by omega), mset_same]
      have e23 : M3 d 23 = v 12 := by rw [hF3 _ _ (by omega), hF2 _ _ (by omega), mset_nei (by omega)]; exact hb23
      have eD1 : M3 (d + 1) = M (d + 1) := by rw [hF3.n, hF2.n]; exact funext fun j => mset_nea (by omega)
      rcases hP3 with ⟨p1, p2⟩ | ⟨p1, p2⟩
      · rw [if_pos p1, ← hx3 p1]
        have en11 : (numRF tx n (tokF tx n (fup v 11 (orF (v 11) (swW w)))) (tabF 1 (swW w)) (tabF 2 (swW w))).2 11 = orF (v 11) (swW w) := by rw [num_ne (by omega), tok_ne (by omega), fup_at]
        have en12 : (numRF tx n (tokF tx n (fup v 11 (orF (v 11) (swW w)))) (tabF 1 (swW w)) (tabF 2 (swW w))).2 12 = v 12 := by rw [num_ne (by omega), tok_ne (by omega), fup_ne (by omega)]
        have hrg := num_rng p1
        have hx5 := hx3 p1
        refine Or.inl ⟨rfl, p2.m1, ?_, ⟨fun q hq => ?_, ?_, ?_⟩, ⟨?_, ?_⟩, ?_, hWP⟩
        · show RowT (setS T (swW w) x) (mset M3 (d + 1) (swW w) x (d + 1))
          rw [mset_row, eD1]
          exact hRow.setS hs7.1
        · show bitF _ q = bitF ((numRF tx n _ _ _).2 11) (swW q)
          rw [mset_nea (by omega), e22, en11, bit_or a9 (by omega) w (by omega) q (by omega)]
          obtain ⟨b9, hb9⟩ := Int.eq_ofNat_of_zero_le hv11.1
          have hq0 := hbits q hq
          rw [ha9, hb9] at hq0
          rw [hb9, bit_or b9 (by omega) (swW w) hs7.1 (swW q) (by unfold swW; split <;> omega)]
          by_cases e : q = w
          · rw [if_pos e, if_pos (by rw [e])]
          · rw [if_neg e, if_neg (fun z => e (swW_inj hq hw z))]
            exact hq0
        · rw [mset_nea (by omega), e22]
          exact ho64
        · show _ = (numRF tx n _ _ _).2 12
          rw [mset_nea (by omega), e23, en12]
        · show 0 ≤ (numRF tx n _ _ _).2 11 ∧ (numRF tx n _ _ _).2 11 < 128
          rw [en11]
          exact orF_128 hv11 hs7.1
        · show 0 ≤ (numRF tx n _ _ _).2 12 ∧ (numRF tx n _ _ _).2 12 < 32
          rw [en12]
          exact hv12
        · exact hWS.up hs7.1 (by omega) (by omega)
      · rw [if_neg p1]
        exact Or.inr ⟨ne1, p2.m1⟩
    · exfalso; omega
  have mid : X g m_X5_readSetting 0 0 lay M 12 [(2, vI (swW w : Nat)), (0, vR d), (1, vI w)] [] K := by
    refine x_aload_n (pc := 12) dX5_readSetting_12 rfl rfl ?_
    refine x_aload_n (pc := 13) dX5_readSetting_13 rfl rfl ?_
    refine x_geti (pc := 14) fX5_315 dX5_readSetting_14 hd.1 rfl (fun r14a r14b => ?_)
    refine x_iload_n (pc := 17) dX5_readSetting_17 rfl rfl ?_
    refine x_ishr (pc := 18) w (by omega) rfl ⟨by omega, by omega⟩ dX5_readSetting_18 ?_
    refine x_iconst (pc := 19) dX5_readSetting_19 ?_
    refine x_iandm (pc := 20) 1 (by omega) rfl dX5_readSetting_20 ?_
    rw [show M d 22 / 2 ^ w % 2 ^ 1 = bitF (M d 22) w from rfl]
    refine x_if_ne (pc := 21) (t := 39) dX5_readSetting_21 (by decide) ⟨by omega, by omega⟩ (fun c21 => ?_) (fun c21 => ?_)
    · refine x_iconst (pc := 39) dX5_readSetting_39 ?_
      refine x_iconst (pc := 40) dX5_readSetting_40 ?_
      refine x_callV (pc := 41) [_, _] rfl kX5_311 dX5_readSetting_41 hd.1 rfl rfl (by decide) (Nat.le_of_ble_eq_true rfl) (Nat.le_of_ble_eq_true rfl) (by decide) ?_
      first
      | (refine sp_X5_must1 hd hb0 ?_)
      | (refine sp_X5_must0 hd hb0 hV (by omega) (fun M2 hF2 hB2 => ?_))
      refine ⟨_, rfl, ?_⟩
      refine X.loc [0, 1, 2] (L' := [(2, _), (0, _), (1, _)]) rfl ?_
      first
      | exact badK M2 (FrW.rf.p hF2) hB2 (by omega)
      | exact goodK (by omega)
    · refine x_iload_n (pc := 24) dX5_readSetting_24 rfl rfl ?_
      refine x_if_ne (pc := 25) (t := 35) dX5_readSetting_25 (by decide) ⟨by omega, by omega⟩ (fun c25 => ?_) (fun c25 => ?_)
      · refine x_iconst (pc := 35) dX5_readSetting_35 ?_
        refine x_goto (pc := 36) (t := 40) dX5_readSetting_36 (by decide) ?_
        refine x_iconst (pc := 40) dX5_readSetting_40 ?_
        refine x_callV (pc := 41) [_, _] rfl kX5_311 dX5_readSetting_41 hd.1 rfl rfl (by decide) (Nat.le_of_ble_eq_true rfl) (Nat.le_of_ble_eq_true rfl) (by decide) ?_
        first
        | (refine sp_X5_must1 hd hb0 ?_)
        | (refine sp_X5_must0 hd hb0 hV (by omega) (fun M2 hF2 hB2 => ?_))
        refine ⟨_, rfl, ?_⟩
        refine X.loc [0, 1, 2] (L' := [(2, _), (0, _), (1, _)]) rfl ?_
        first
        | exact badK M2 (FrW.rf.p hF2) hB2 (by omega)
        | exact goodK (by omega)
      · refine x_aload_n (pc := 28) dX5_readSetting_28 rfl rfl ?_
        refine x_geti (pc := 29) fX5_318 dX5_readSetting_29 hd.1 rfl (fun r29a r29b => ?_)
        rw [hb23] at r29a r29b ⊢
        refine x_if_ne (pc := 32) (t := 39) dX5_readSetting_32 (by decide) ⟨by omega, by omega⟩ (fun c32 => ?_) (fun c32 => ?_)
        · refine x_iconst (pc := 39) dX5_readSetting_39 ?_
          refine x_iconst (pc := 40) dX5_readSetting_40 ?_
          refine x_callV (pc := 41) [_, _] rfl kX5_311 dX5_readSetting_41 hd.1 rfl rfl (by decide) (Nat.le_of_ble_eq_true rfl) (Nat.le_of_ble_eq_true rfl) (by decide) ?_
          first
          | (refine sp_X5_must1 hd hb0 ?_)
          | (refine sp_X5_must0 hd hb0 hV (by omega) (fun M2 hF2 hB2 => ?_))
          refine ⟨_, rfl, ?_⟩
          refine X.loc [0, 1, 2] (L' := [(2, _), (0, _), (1, _)]) rfl ?_
          first
          | exact badK M2 (FrW.rf.p hF2) hB2 (by omega)
          | exact goodK (by omega)
        · refine x_iconst (pc := 35) dX5_readSetting_35 ?_
          refine x_goto (pc := 36) (t := 40) dX5_readSetting_36 (by decide) ?_
          refine x_iconst (pc := 40) dX5_readSetting_40 ?_
          refine x_callV (pc := 41) [_, _] rfl kX5_311 dX5_readSetting_41 hd.1 rfl rfl (by decide) (Nat.le_of_ble_eq_true rfl) (Nat.le_of_ble_eq_true rfl) (by decide) ?_
          first
          | (refine sp_X5_must1 hd hb0 ?_)
          | (refine sp_X5_must0 hd hb0 hV (by omega) (fun M2 hF2 hB2 => ?_))
          refine ⟨_, rfl, ?_⟩
          refine X.loc [0, 1, 2] (L' := [(2, _), (0, _), (1, _)]) rfl ?_
          first
          | exact badK M2 (FrW.rf.p hF2) hB2 (by omega)
          | exact goodK (by omega)
  clear goodK badK last
  refine x_iload_n (pc := 0) dX5_readSetting_0 rfl rfl ?_
  refine x_iconst (pc := 1) dX5_readSetting_1 ?_
  refine x_icmp_ne (pc := 2) (t := 10) dX5_readSetting_2 (by decide) ⟨by omega, by omega⟩ ⟨by omega, by omega⟩ (fun c2 => ?_) (fun c2 => ?_)
  · refine x_iload_n (pc := 10) dX5_readSetting_10 rfl rfl ?_
    refine x_istore_n (pc := 11) dX5_readSetting_11 rfl (by decide) (L' := [(2, _), (0, _), (1, _)]) rfl ?_
    refine X.loc [0, 1, 2] (L' := [(2, _), (0, _), (1, _)]) rfl ?_
    first
    | (rw [show swW w = 6 by unfold swW; rw [if_pos (by omega)]] at mid
       exact mid)
    | (rw [show swW w = w by unfold swW; rw [if_neg (by omega)]] at mid
       exact mid)
  · refine x_bipush (pc := 5) dX5_readSetting_5 (by decide) ?_
    refine x_goto (pc := 7) (t := 11) dX5_readSetting_7 (by decide) ?_
    refine x_istore_n (pc := 11) dX5_readSetting_11 rfl (by decide) (L' := [(2, _), (0, _), (1, _)]) rfl ?_
    refine X.loc [0, 1, 2] (L' := [(2, _), (0, _), (1, _)]) rfl ?_
    first
    | (rw [show swW w = 6 by unfold swW; rw [if_pos (by omega)]] at mid
       exact mid)
    | (rw [show swW w = w by unfold swW; rw [if_neg (by omega)]] at mid
       exact mid)
