/-! The reference's reader: a setup read. -/
theorem runF_ge (tx : Nat → Int) (n : Nat) (k : Int) : ∀ c e nb, e ≤ (runF tx n k c e nb).1
  | 0, e, nb => Nat.le_refl _
  | c + 1, e, nb => by
    simp only [runF]
    split
    · have := runF_ge tx n k c (e + 1) (numT k nb (tx e))
      omega
    · exact Nat.le_refl _
theorem tok_adv {tx v : Nat → Int} {n : Nat} (h : 0 ≤ v 8 ∧ v 8 ≤ n) : v 8 ≤ tokF tx n v 8 ∧ (tokF tx n v 6 ≠ 0 → v 8 + 1 ≤ tokF tx n v 8) := by
  obtain ⟨t6, t7, t8, t9⟩ := tokF_at tx n v
  rw [t6, t8]
  have hs := skipF_le tx n (n - (v 8).toNat) (v 8).toNat (by omega)
  unfold tokAt
  dsimp only
  obtain ⟨s, hse⟩ : ∃ s, s = skipF tx n (n - (v 8).toNat) (v 8).toNat := ⟨_, rfl⟩
  rw [← hse] at hs ⊢
  by_cases e : kindF tx n s = 1 ∨ kindF tx n s = 2
  · rw [if_pos e]
    dsimp only
    have hlt := kind_lt (tx := tx) (n := n) (e := s) (by omega)
    obtain ⟨c, hc⟩ : ∃ c, n - s = c + 1 := ⟨n - s - 1, by omega⟩
    rw [hc]
    simp only [runF]
    rw [if_pos trivial]
    have := runF_ge tx n (kindF tx n s) c (s + 1) (numT (kindF tx n s) 0 (tx s))
    omega
  · rw [if_neg e]
    by_cases e2 : kindF tx n s = 0
    · rw [if_pos e2]
      dsimp only
      exact ⟨by omega, fun h => absurd e2 h⟩
    · rw [if_neg e2]
      dsimp only
      omega
def Adv (v w : Nat → Int) : Prop := v 8 ≤ w 8 ∧ (w 6 ≠ 0 → v 8 + 1 ≤ w 8)
theorem num_adv {tx v : Nat → Int} {n : Nat} {lo hi : Int} (hv : 0 ≤ v 8 ∧ v 8 ≤ n) (h : (numRF tx n v lo hi).1 = 1) : Adv v (numRF tx n v lo hi).2 := by
  unfold numRF at h ⊢
  split
  · next h2 => rw [if_pos h2] at h; exact absurd h (by show ¬ (0 : Int) = 1; decide)
  · next h2 =>
    rw [if_neg h2] at h
    split
    · next h3 => rw [if_pos h3] at h; exact absurd h (by show ¬ (0 : Int) = 1; decide)
    · exact tok_adv (v := fup v 10 (v 9)) hv
theorem int_adv {tx v : Nat → Int} {n : Nat} {lo hi : Int} (hv : TkOK n v) (h : (intRF tx n v lo hi).1 = 1) : Adv v (intRF tx n v lo hi).2 := by
  obtain ⟨-, ⟨k71, k72⟩, ⟨k81, k82⟩, -⟩ := id hv
  have hm : v 8 ≤ minF tx n v 8 ∧ minF tx n v 8 ≤ n := by
    have h2 := hv.min (tx := tx)
    obtain ⟨-, -, ⟨m81, m82⟩, -⟩ := h2
    refine ⟨?_, m82⟩
    unfold minF
    split
    · exact (tok_adv (by omega)).1
    · exact Int.le_refl _
  unfold intRF at h ⊢
  split
  · next h2 => rw [if_pos h2] at h; exact absurd h (by show ¬ (0 : Int) = 1; decide)
  · next h2 =>
    rw [if_neg h2] at h
    split
    · next h3 => rw [if_pos h3] at h; exact absurd h (by show ¬ (0 : Int) = 1; decide)
    · have := tok_adv (tx := tx) (n := n) (v := fup (minF tx n v) 10 (toldF v (minF tx n v))) (by show 0 ≤ minF tx n v 8 ∧ minF tx n v 8 ≤ n; omega)
      have e8 : fup (minF tx n v) 10 (toldF v (minF tx n v)) 8 = minF tx n v 8 := rfl
      rw [e8] at this
      exact ⟨by show v 8 ≤ tokF tx n _ 8; omega, fun z => by have := this.2 z; show v 8 + 1 ≤ tokF tx n _ 8; omega⟩
theorem Adv.tr {v w u : Nat → Int} (h1 : v 8 ≤ w 8) (h2 : Adv w u) : Adv v u := ⟨by have := h2.1; omega, fun z => by have := h2.2 z; omega⟩
theorem rSet_adv {tx v : Nat → Int} {n : Nat} {T : CT} {i : Nat} (hv : 0 ≤ v 8 ∧ v 8 ≤ n) (h : (rSetF tx n v T i).1 = 1) : Adv v (rSetF tx n v T i).2.1 := by
  unfold rSetF at h ⊢
  split
  · next h2 => exact num_adv hv h2
  · next h2 => rw [if_neg h2] at h; exact absurd h (by show ¬ (0 : Int) = 1; decide)
theorem rSet_ok {tx v : Nat → Int} {n : Nat} {T : CT} {i : Nat} (hv : TkOK n v) : TkOK n (rSetF tx n v T i).2.1 := by
  unfold rSetF
  split <;> exact hv.num
theorem rStart_adv {tx v : Nat → Int} {n : Nat} {T : CT} (hv : TkOK n v) (h : (rStartF tx n v T).1 = 1) : Adv v (rStartF tx n v T).2.1 := by
  obtain ⟨-, ⟨k71, k72⟩, ⟨k81, k82⟩, -⟩ := id hv
  have ht := tok_adv (tx := tx) (n := n) (v := v) (by omega)
  have hok := hv.tok (tx := tx)
  unfold rStartF at h ⊢
  split
  · next h2 => rw [if_pos h2] at h; exact absurd h (by show ¬ (0 : Int) = 1; decide)
  · next h2 =>
    rw [if_neg h2] at h
    have h3 : (intRF tx n (tokF tx n v) (-30) 30).1 = 1 := Decidable.byContradiction h2
    have ai := int_adv hok h3
    have hok2 := hok.int (tx := tx) (lo := -30) (hi := 30)
    split
    · next h4 => rw [if_pos h4] at h; exact absurd h (by show ¬ (0 : Int) = 1; decide)
    · next h4 =>
      rw [if_neg h4] at h
      split
      · next h5 => rw [if_pos h5] at h; exact absurd h (by show ¬ (0 : Int) = 1; decide)
      · next h5 =>
        have an := num_adv (tx := tx) (n := n) (v := (intRF tx n (tokF tx n v) (-30) 30).2) (lo := 0) (hi := tS T 0 - 1) (by have := hok2.2.2.1; have := hok2.2.1; omega) (Decidable.byContradiction h5)
        have a2 := Adv.tr (v := v) (by have := ai.1; omega) an
        exact ⟨a2.1, a2.2⟩
theorem rStmt_adv {tx v : Nat → Int} {n : Nat} {T : CT} (hv : TkOK n v) (h : (rStmtF tx n v T).1 = 1) : Adv v (rStmtF tx n v T).2.1 := by
  obtain ⟨-, ⟨k71, k72⟩, ⟨k81, k82⟩, -⟩ := id hv
  unfold rStmtF at h ⊢
  split
  · next h2 => rw [if_pos h2] at h; exact rStart_adv hv h
  · next h2 =>
    rw [if_neg h2] at h
    split
    · next h3 => rw [if_pos h3] at h; exact absurd h (by show ¬ (0 : Int) = 1; decide)
    · next h3 =>
      rw [if_neg h3] at h
      split
      · next h4 => rw [if_pos h4] at h; exact absurd h (by show ¬ (0 : Int) = 1; decide)
      · next h4 =>
        rw [if_neg h4] at h
        have hok1 : TkOK n (fup v 11 (orF (v 11) (setWF tx v).toNat)) := hv.fup (by omega)
        have ht := tok_adv (tx := tx) (n := n) (v := fup v 11 (orF (v 11) (setWF tx v).toNat)) (by show 0 ≤ v 8 ∧ v 8 ≤ n; omega)
        have e8 : fup v 11 (orF (v 11) (setWF tx v).toNat) 8 = v 8 := rfl
        rw [e8] at ht
        have hok2 := hok1.tok (tx := tx)
        obtain ⟨w2, hw2⟩ : ∃ w2, w2 = tokF tx n (fup v 11 (orF (v 11) (setWF tx v).toNat)) := ⟨_, rfl⟩
        rw [← hw2] at ht hok2 h ⊢
        obtain ⟨-, ⟨m71, m72⟩, ⟨m81, m82⟩, -⟩ := id hok2
        split
        · next h5 => rw [if_pos h5] at h; exact absurd h (by show ¬ (0 : Int) = 1; decide)
        · next h5 =>
          rw [if_neg h5] at h
          have as := rSet_adv (T := T) (i := (setWF tx v).toNat) (by omega) (Decidable.byContradiction h5)
          split
          · exact Adv.tr ht.1 as
          · next h6 =>
            rw [if_neg h6] at h
            have hok3 := rSet_ok (tx := tx) (T := T) (i := (setWF tx v).toNat) hok2
            obtain ⟨-, ⟨o71, o72⟩, ⟨o81, o82⟩, -⟩ := id hok3
            have a2 := rSet_adv (by omega) h
            exact Adv.tr (by have := as.1; omega) a2
theorem rStmt_ok {tx v : Nat → Int} {n : Nat} {T : CT} {M : Mem} {d : Nat} (h : SRel tx n (rStmtF tx n v T) M d) (h1 : (rStmtF tx n v T).1 = 1) : TkOK n (rStmtF tx n v T).2.1 := by
  rcases h with ⟨-, h2⟩ | ⟨h2, -⟩
  · exact h2.1.1.2.2
  · exact absurd h1 h2
theorem setWF_eq {tx v : Nat → Int} {w : Nat} (hw : w < 6) (h : wordF tx v = (w : Nat)) : ¬ isWordP tx v 0 ∧ setWF tx v = (swW w : Nat) := by
  have h1 := (wordF_iff (by omega)).mp h
  have no : ∀ u, u < 12 → u ≠ wM w → ¬ isWordP tx v u := fun u hu hne h2 => hne (words_one hu (wM_12 w (by omega)) h2 h1)
  have hm : wM w = w + 1 := by
    have : ∀ w, w < 6 → wM w = w + 1 := by decide
    exact this w hw
  rw [hm] at h1 no
  refine ⟨no 0 (by omega) (by omega), ?_⟩
  unfold setWF
  have e : w = 0 ∨ w = 1 ∨ w = 2 ∨ w = 3 ∨ w = 4 ∨ w = 5 := by omega
  rcases e with rfl | rfl | rfl | rfl | rfl | rfl
  · rw [if_pos h1]; rfl
  · rw [if_neg (no 1 (by omega) (by omega)), if_pos h1]; rfl
  · rw [if_neg (no 1 (by omega) (by omega)), if_neg (no 2 (by omega) (by omega)), if_pos h1]; rfl
  · rw [if_neg (no 1 (by omega) (by omega)), if_neg (no 2 (by omega) (by omega)), if_neg (no 3 (by omega) (by omega)), if_pos h1]; rfl
  · rw [if_neg (no 1 (by omega) (by omega)), if_neg (no 2 (by omega) (by omega)), if_neg (no 3 (by omega) (by omega)), if_neg (no 4 (by omega) (by omega)), if_pos h1]; rfl
  · rw [if_neg (no 1 (by omega) (by omega)), if_neg (no 2 (by omega) (by omega)), if_neg (no 3 (by omega) (by omega)), if_neg (no 4 (by omega) (by omega)), if_neg (no 5 (by omega) (by omega)), if_pos h1]; rfl
theorem setWF_no {tx v : Nat → Int} (h : ¬ (0 ≤ wordF tx v ∧ wordF tx v ≤ 6)) : ¬ isWordP tx v 0 ∧ setWF tx v = -1 := by
  have no : ∀ w, w < 7 → ¬ isWordP tx v (wM w) := fun w hw h2 => by
    have := (wordF_iff (by omega)).mpr h2
    omega
  refine ⟨no 6 (by omega), ?_⟩
  unfold setWF
  rw [if_neg (show ¬ isWordP tx v 1 from no 0 (by omega)), if_neg (show ¬ isWordP tx v 2 from no 1 (by omega)), if_neg (show ¬ isWordP tx v 3 from no 2 (by omega)), if_neg (show ¬ isWordP tx v 4 from no 3 (by omega)), if_neg (show ¬ isWordP tx v 5 from no 4 (by omega)), if_neg (show ¬ isWordP tx v 6 from no 5 (by omega))]
theorem RowT.new {r : Nat → Int} (h : ∀ j, j < 280 → r j = if j = 0 then 5 else if j = 1 then 2 else if j = 2 then 12 else if j = 3 then 5 else if j = 6 then 12 else if j = 9 then -1 else if (29 ≤ j ∧ j < 34) ∨ (38 ≤ j ∧ j < 43) then -1 else 0) : RowT tNew r := by
  refine ⟨⟨fun j hj => ?_, ?_, ?_, fun p hp => ?_, fun p hp => ⟨?_, ?_, ?_⟩, fun pl k f h1 h2 h3 => ?_, fun pl h1 => ⟨?_, ?_⟩, ?_, fun j hj => ?_⟩, ?_, ?_⟩
  · rw [h j (by omega)]
    have e : j = 0 ∨ j = 1 ∨ j = 2 ∨ j = 3 ∨ j = 4 ∨ j = 5 ∨ j = 6 := by omega
    rcases e with rfl | rfl | rfl | rfl | rfl | rfl | rfl <;> rfl
  · rw [h 7 (by omega)]; rfl
  · rw [h 10 (by omega)]; rfl
  · rw [h _ (by omega), if_neg (by omega), if_neg (by omega), if_neg (by omega), if_neg (by omega), if_neg (by omega), if_neg (by omega), if_neg (by omega)]; rfl
  · rw [h _ (by omega), if_neg (by omega), if_neg (by omega), if_neg (by omega), if_neg (by omega), if_neg (by omega), if_neg (by omega), if_neg (by omega)]; rfl
  · rw [h _ (by omega), if_neg (by omega), if_neg (by omega), if_neg (by omega), if_neg (by omega), if_neg (by omega), if_neg (by omega), if_pos (by omega)]; rfl
  · rw [h _ (by omega), if_neg (by omega), if_neg (by omega), if_neg (by omega), if_neg (by omega), if_neg (by omega), if_neg (by omega), if_pos (by omega)]; rfl
  · exact absurd h2 (Nat.not_lt_zero k)
  · rw [h _ (by omega), if_neg (by omega), if_neg (by omega), if_neg (by omega), if_neg (by omega), if_neg (by omega), if_neg (by omega), if_neg (by omega)]; rfl
  · rw [h _ (by omega), if_neg (by omega), if_neg (by omega), if_neg (by omega), if_neg (by omega), if_neg (by omega), if_neg (by omega), if_neg (by omega)]; rfl
  · rw [h 99 (by omega)]; rfl
  · exact absurd hj (Nat.not_lt_zero j)
  · rw [h 8 (by omega)]; rfl
  · rw [h 9 (by omega)]; rfl

set_option maxRecDepth 100000 in
theorem sp_X5_begins {g : GG} {lay : Lay} {M : Mem} {K : KK} {d : Nat} (hd : MoL lay d) (hb0 : g.2.1 ≤ d) (k : ∀ M2, (∀ a j, ¬ a = d + 1 → M2 a j = M a j) → RowT tNew (M2 (d + 1)) → K (.inl none) lay M2) : X g m_X5_begins 0 0 lay M 0 [(0, vR d)] [] K := by
  have second : ∀ (c j : Nat) (x : Int) (M1 : Mem), j + c = 5 → x = j → (∀ a j, ¬ a = d + 1 → M1 a j = M a j) → (∀ i, i < 280 → M1 (d + 1) i = if i = 0 then 5 else if i = 1 then 2 else if i = 2 then 12 else if i = 3 then 5 else if i = 6 then 12 else if i = 9 then -1 else if (29 ≤ i ∧ i < 29 + j) ∨ (38 ≤ i ∧ i < 38 + j) then -1 else 0) → X g m_X5_begins 0 0 lay M1 70 [(1, vI x), (0, vR d)] [] K := by
    intro c
    induction c with
    | zero =>
      intro j x M1 hj hx hF hw
      refine x_iload_n (pc := 70) dX5_begins_70 rfl rfl ?_
      refine x_iconst (pc := 71) dX5_begins_71 ?_
      refine x_icmp_ge (pc := 72) (t := 101) dX5_begins_72 (by decide) ⟨by omega, by omega⟩ ⟨by omega, by omega⟩ (fun c72 => ?_) (fun c72 => ?_)
      · refine x_vret (pc := 101) dX5_begins_101 rfl (by decide) (by decide) ?_
        refine k M1 hF (RowT.new (fun i hi => ?_))
        rw [hw i hi, show j = 5 by omega]
      · exfalso; omega
    | succ c ih =>
      intro j x M1 hj hx hF hw
      refine x_iload_n (pc := 70) dX5_begins_70 rfl rfl ?_
      refine x_iconst (pc := 71) dX5_begins_71 ?_
      refine x_icmp_ge (pc := 72) (t := 101) dX5_begins_72 (by decide) ⟨by omega, by omega⟩ ⟨by omega, by omega⟩ (fun c72 => ?_) (fun c72 => ?_)
      · exfalso; omega
      · refine x_aload_n (pc := 75) dX5_begins_75 rfl rfl ?_
        refine x_getr (pc := 76) (b := d + 1) fX5_7 dX5_begins_76 hd.1 rfl rfl ?_
        refine x_bipush (pc := 79) dX5_begins_79 (by decide) ?_
        refine x_iload_n (pc := 81) dX5_begins_81 rfl rfl ?_
        refine x_iadd (pc := 82) dX5_begins_82 ?_
        refine x_iconst (pc := 83) dX5_begins_83 ?_
        refine x_iast (pc := 84) dX5_begins_84 hd.2.1 (by omega) (by omega) (by omega) ⟨by omega, by omega⟩ ?_
        refine x_aload_n (pc := 85) dX5_begins_85 rfl rfl ?_
        refine x_getr (pc := 86) (b := d + 1) fX5_7 dX5_begins_86 hd.1 rfl rfl ?_
        refine x_bipush (pc := 89) dX5_begins_89 (by decide) ?_
        refine x_iload_n (pc := 91) dX5_begins_91 rfl rfl ?_
        refine x_iadd (pc := 92) dX5_begins_92 ?_
        refine x_iconst (pc := 93) dX5_begins_93 ?_
        refine x_iast (pc := 94) dX5_begins_94 hd.2.1 (by omega) (by omega) (by omega) ⟨by omega, by omega⟩ ?_
        refine x_iinc (pc := 95) dX5_begins_95 rfl (by decide) (L' := [(1, _), (0, _)]) rfl ?_
        refine x_goto (pc := 98) (t := 70) dX5_begins_98 (by decide) ?_
        refine X.loc [0, 1] (L' := [(1, _), (0, _)]) rfl ?_
        rw [show (29 + x).toNat = 29 + j by omega, show (38 + x).toNat = 38 + j by omega]
        refine ih (j + 1) _ _ (by omega) (by omega) (fun a i q => by rw [mset_nea q, mset_nea q]; exact hF a i q) (fun i hi => ?_)
        by_cases e : i = 38 + j
        · rw [e, mset_same, if_neg (by omega), if_neg (by omega), if_neg (by omega), if_neg (by omega), if_neg (by omega), if_neg (by omega), if_pos (by omega)]
        · rw [mset_nei e]
          by_cases e2 : i = 29 + j
          · rw [e2, mset_same, if_neg (by omega), if_neg (by omega), if_neg (by omega), if_neg (by omega), if_neg (by omega), if_neg (by omega), if_pos (by omega)]
          · rw [mset_nei e2, hw i hi]
            have e3 : ((29 ≤ i ∧ i < 29 + j) ∨ (38 ≤ i ∧ i < 38 + j)) ↔ ((29 ≤ i ∧ i < 29 + (j + 1)) ∨ (38 ≤ i ∧ i < 38 + (j + 1))) := by omega
            simp only [e3]
  have first : ∀ (c j : Nat) (x : Int) (M1 : Mem), j + c = 280 → x = j → (∀ a j, ¬ a = d + 1 → M1 a j = M a j) → (∀ i, i < j → M1 (d + 1) i = 0) → X g m_X5_begins 0 0 lay M1 2 [(1, vI x), (0, vR d)] [] K := by
    intro c
    induction c with
    | zero =>
      intro j x M1 hj hx hF hw
      refine x_iload_n (pc := 2) dX5_begins_2 rfl rfl ?_
      refine x_sipush (pc := 3) dX5_begins_3 (by decide) ?_
      refine x_icmp_ge (pc := 6) (t := 22) dX5_begins_6 (by decide) ⟨by omega, by omega⟩ ⟨by omega, by omega⟩ (fun c6 => ?_) (fun c6 => ?_)
      · refine x_aload_n (pc := 22) dX5_begins_22 rfl rfl ?_
        refine x_getr (pc := 23) (b := d + 1) fX5_7 dX5_begins_23 hd.1 rfl rfl ?_
        refine x_iconst (pc := 26) dX5_begins_26 ?_
        refine x_iconst (pc := 27) dX5_begins_27 ?_
        refine x_iast (pc := 28) dX5_begins_28 hd.2.1 (by omega) (by omega) (by omega) ⟨by omega, by omega⟩ ?_
        refine x_aload_n (pc := 29) dX5_begins_29 rfl rfl ?_
        refine x_getr (pc := 30) (b := d + 1) fX5_7 dX5_begins_30 hd.1 rfl rfl ?_
        refine x_iconst (pc := 33) dX5_begins_33 ?_
        refine x_iconst (pc := 34) dX5_begins_34 ?_
        refine x_iast (pc := 35) dX5_begins_35 hd.2.1 (by omega) (by omega) (by omega) ⟨by omega, by omega⟩ ?_
        refine x_aload_n (pc := 36) dX5_begins_36 rfl rfl ?_
        refine x_getr (pc := 37) (b := d + 1) fX5_7 dX5_begins_37 hd.1 rfl rfl ?_
        refine x_iconst (pc := 40) dX5_begins_40 ?_
        refine x_bipush (pc := 41) dX5_begins_41 (by decide) ?_
        refine x_iast (pc := 43) dX5_begins_43 hd.2.1 (by omega) (by omega) (by omega) ⟨by omega, by omega⟩ ?_
        refine x_aload_n (pc := 44) dX5_begins_44 rfl rfl ?_
        refine x_getr (pc := 45) (b := d + 1) fX5_7 dX5_begins_45 hd.1 rfl rfl ?_
        refine x_iconst (pc := 48) dX5_begins_48 ?_
        refine x_iconst (pc := 49) dX5_begins_49 ?_
        refine x_iast (pc := 50) dX5_begins_50 hd.2.1 (by omega) (by omega) (by omega) ⟨by omega, by omega⟩ ?_
        refine x_aload_n (pc := 51) dX5_begins_51 rfl rfl ?_
        refine x_getr (pc := 52) (b := d + 1) fX5_7 dX5_begins_52 hd.1 rfl rfl ?_
        refine x_bipush (pc := 55) dX5_begins_55 (by decide) ?_
        refine x_bipush (pc := 57) dX5_begins_57 (by decide) ?_
        refine x_iast (pc := 59) dX5_begins_59 hd.2.1 (by omega) (by omega) (by omega) ⟨by omega, by omega⟩ ?_
        refine x_aload_n (pc := 60) dX5_begins_60 rfl rfl ?_
        refine x_getr (pc := 61) (b := d + 1) fX5_7 dX5_begins_61 hd.1 rfl rfl ?_
        refine x_bipush (pc := 64) dX5_begins_64 (by decide) ?_
        refine x_iconst (pc := 66) dX5_begins_66 ?_
        refine x_iast (pc := 67) dX5_begins_67 hd.2.1 (by omega) (by omega) (by omega) ⟨by omega, by omega⟩ ?_
        refine x_iconst (pc := 68) dX5_begins_68 ?_
        refine x_istore_n (pc := 69) dX5_begins_69 rfl (by decide) (L' := [(1, _), (0, _)]) rfl ?_
        refine X.loc [0, 1] (L' := [(1, _), (0, _)]) rfl ?_
        simp only [Int.reduceToNat]
        refine second 5 0 _ _ rfl rfl (fun a i q => by rw [mset_nea q, mset_nea q, mset_nea q, mset_nea q, mset_nea q, mset_nea q]; exact hF a i q) (fun i hi => ?_)
        have h0 := hw i (by omega)
        rw [if_neg (show ¬ ((29 ≤ i ∧ i < 29 + 0) ∨ (38 ≤ i ∧ i < 38 + 0)) by omega)]
        simp only [mset_row]
        unfold fup
        rw [h0]
        by_cases e9 : i = 9
        · subst e9; rfl
        · by_cases e6 : i = 6
          · subst e6; rfl
          · by_cases e3 : i = 3
            · subst e3; rfl
            · by_cases e2 : i = 2
              · subst e2; rfl
              · by_cases e1 : i = 1
                · subst e1; rfl
                · by_cases e0 : i = 0
                  · subst e0; rfl
                  · simp [e9, e6, e3, e2, e1, e0]
      · exfalso; omega
    | succ c ih =>
      intro j x M1 hj hx hF hw
      refine x_iload_n (pc := 2) dX5_begins_2 rfl rfl ?_
      refine x_sipush (pc := 3) dX5_begins_3 (by decide) ?_
      refine x_icmp_ge (pc := 6) (t := 22) dX5_begins_6 (by decide) ⟨by omega, by omega⟩ ⟨by omega, by omega⟩ (fun c6 => ?_) (fun c6 => ?_)
      · exfalso; omega
      · refine x_aload_n (pc := 9) dX5_begins_9 rfl rfl ?_
        refine x_getr (pc := 10) (b := d + 1) fX5_7 dX5_begins_10 hd.1 rfl rfl ?_
        refine x_iload_n (pc := 13) dX5_begins_13 rfl rfl ?_
        refine x_iconst (pc := 14) dX5_begins_14 ?_
        refine x_iast (pc := 15) dX5_begins_15 hd.2.1 (by omega) (by omega) (by omega) ⟨by omega, by omega⟩ ?_
        refine x_iinc (pc := 16) dX5_begins_16 rfl (by decide) (L' := [(1, _), (0, _)]) rfl ?_
        refine x_goto (pc := 19) (t := 2) dX5_begins_19 (by decide) ?_
        refine X.loc [0, 1] (L' := [(1, _), (0, _)]) rfl ?_
        rw [show x.toNat = j by omega]
        refine ih (j + 1) _ _ (by omega) (by omega) (fun a i q => by rw [mset_nea q]; exact hF a i q) (fun i hi => ?_)
        by_cases e : i = j
        · rw [e, mset_same]
        · rw [mset_nei e]
          exact hw i (by omega)
  refine x_iconst (pc := 0) dX5_begins_0 ?_
  refine x_istore_n (pc := 1) dX5_begins_1 rfl (by decide) (L' := [(1, _), (0, _)]) rfl ?_
  refine X.loc [0, 1] (L' := [(1, _), (0, _)]) rfl ?_
  exact first 280 0 _ M rfl rfl (fun a j q => rfl) (fun i hi => by omega)
