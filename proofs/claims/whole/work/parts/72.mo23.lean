/-! The reference: output. -/
def wdL : List Int := [112, 111, 119, 101, 114, 115, 32, 98, 97, 114, 32, 116, 117, 114, 110, 115, 32, 114, 101, 97, 99, 104, 32, 103, 111, 97, 108, 32, 112, 117, 114, 115, 101, 32, 115, 116, 97, 114, 116, 32, 108, 97, 121, 32, 99, 108, 97, 105, 109, 32, 112, 97, 115, 115, 32, 101, 120, 97, 99, 116, 108, 121, 32, 108, 101, 97, 115, 116, 32]
def wdB (i : Nat) : Int := wdL.getD i 0
def offL : List Nat := [0, 7, 11, 17, 23, 28, 34, 40, 44, 50, 55, 63]
def offW (w : Nat) : Nat := offL.getD w 0
def wML : List Nat := [1, 2, 3, 4, 5, 6, 0, 7, 8, 9, 11, 10]
def wM (w : Nat) : Nat := wML.getD w 0
/-- spaces ahead of a place -/
def spc : Nat → Int
  | 0 => 0
  | j + 1 => spc j + (if wdB j = 32 then 1 else 0)
theorem wd_off : ∀ w, w < 12 → offW w + stN (wM w) < 69 ∧ wdB (offW w + stN (wM w)) = 32 ∧ spc (offW w) = w ∧ (∀ j, j < offW w → spc j < w) ∧ (∀ i, i < stN (wM w) → wdB (offW w + i) = (stB (wM w)).getD i 0 ∧ wdB (offW w + i) ≠ 32) := by decide +kernel
theorem wM_15 : ∀ w, w < 12 → wM w < 15 := by decide
theorem wd_rng : ∀ i, i < 69 → 0 ≤ wdB i ∧ wdB i < 128 := by decide +kernel
def Wd (M : Mem) (d : Nat) : Prop := ∀ i, i < 69 → M (d + 10) i = wdB i
def FrO (d : Nat) (M M' : Mem) : Prop := ∀ a j, ¬ (a = d ∧ j = 25) → ¬ a = d + 12 → M' a j = M a j
theorem FrO.rf {d : Nat} {M : Mem} : FrO d M M := fun _ _ _ _ => rfl
theorem FrO.tr {d : Nat} {M M' M'' : Mem} (h : FrO d M M') (h2 : FrO d M' M'') : FrO d M M'' := fun a j q1 q2 => (h2 a j q1 q2).trans (h a j q1 q2)
theorem FrO.wd {d : Nat} {M M' : Mem} (h : Wd M d) (h2 : FrO d M M') : Wd M' d := fun i hi => by rw [h2 _ _ (by omega) (by omega)]; exact h i hi
theorem bmod_id {x : Int} (h : 0 ≤ x ∧ x < 128) : x.bmod 256 = x := by
  rw [Int.bmod_def]
  omega
theorem apps_eq {L : List Int} : ∀ {pg : List Int}, pg.length + L.length ≤ 1024 → apps pg L = pg ++ L := by
  induction L with
  | nil => intro pg _; simp [apps]
  | cons x L ih =>
    intro pg h
    simp only [List.length_cons] at h
    show apps (app pg x) L = _
    rw [show app pg x = pg ++ [x] from if_pos (by omega), ih (by simp; omega)]
    simp
theorem numF_len {n : Int} : (numF n).length ≤ 3 := by
  unfold numF
  split <;> split <;> simp

set_option maxRecDepth 100000 in
theorem sp_X5_prints {g : GG} {lay : Lay} {M : Mem} {K : KK} {d : Nat} {pg : List Int} {x : Int} (hd : MoL lay d) (hb0 : g.2.1 ≤ d) (hg : Po pg M d) (hx : 0 ≤ x ∧ x < 128) (hl : pg.length < 1024) (k : ∀ M2, FrO d M M2 → Po (pg ++ [x]) M2 d → K (.inl none) lay M2) : X g m_X5_prints 0 0 lay M 0 [(0, vR d), (1, vI x)] [] K := by
  obtain ⟨g1, g2, g3⟩ := hg
  refine x_aload_n (pc := 0) dX5_prints_0 rfl rfl ?_
  refine x_getr (pc := 1) (b := d + 12) fX5_49 dX5_prints_1 hd.1 rfl rfl ?_
  refine x_aload_n (pc := 4) dX5_prints_4 rfl rfl ?_
  refine x_geti (pc := 5) fX5_360 dX5_prints_5 hd.1 rfl (fun r5a r5b => ?_)
  rw [g1] at r5a r5b ⊢
  refine x_iload_n (pc := 8) dX5_prints_8 rfl rfl ?_
  refine x_i2b (pc := 9) dX5_prints_9 ?_
  rw [bmod_id hx]
  refine x_bast (pc := 10) dX5_prints_10 hd.2.2.2.2.2.2.2.2.2.2.2.2 (by omega) (by omega) (by omega) ⟨by omega, by omega⟩ ?_
  refine x_aload_n (pc := 11) dX5_prints_11 rfl rfl ?_
  refine x_dup (pc := 12) dX5_prints_12 rfl ?_
  refine x_geti (pc := 13) fX5_360 dX5_prints_13 hd.1 rfl (fun r13a r13b => ?_)
  try simp (disch := omega) only [mset_same, mset_nea, mset_nei, mcopy_nea, mcopy_in, mcopy_out, Int.reduceToNat, Int.toNat_natCast, Nat.zero_add, Nat.sub_zero] at r13a r13b ⊢
  rw [g1] at r13a r13b ⊢
  refine x_iconst (pc := 16) dX5_prints_16 ?_
  refine x_iadd (pc := 17) dX5_prints_17 ?_
  refine x_puti (pc := 18) fnX5_360 dX5_prints_18 hd.1 (by omega) rfl ⟨by omega, by omega⟩ ?_
  refine x_vret (pc := 21) dX5_prints_21 rfl (by decide) (by decide) ?_
  refine k _ (fun a j q1 q2 => by rw [mset_ne q1, mset_nea q2]) ⟨?_, ?_, fun i hi => ?_⟩
  · rw [mset_same]
    simp
  · simp
    omega
  · rw [mset_nea (by omega)]
    by_cases e : i = pg.length
    · rw [e, mset_same]
      simp
    · have hi2 : i < pg.length := by simp at hi; omega
      rw [mset_nei e, g3 i hi2, List.getD_eq_getElem?_getD, List.getD_eq_getElem?_getD, List.getElem?_append_left hi2]
set_option maxRecDepth 100000 in
theorem sp_X5_printsNumber {g : GG} {lay : Lay} {M : Mem} {K : KK} {d : Nat} {pg : List Int} {n : Int} (hd : MoL lay d) (hb0 : g.2.1 ≤ d) (hg : Po pg M d) (hn : -99 ≤ n ∧ n ≤ 99) (hl : pg.length + 3 ≤ 1024) (k : ∀ M2, FrO d M M2 → Po (pg ++ numF n) M2 d → K (.inl none) lay M2) : X g m_X5_printsNumber 0 0 lay M 0 [(0, vR d), (1, vI n)] [] K := by
  have rest2 : ∀ (M1 : Mem) (p1 : List Int) (s : Int), s = n.natAbs → FrO d M M1 → Po p1 M1 d → p1.length + 2 ≤ 1024 → (∀ M2, FrO d M M2 → Po (p1 ++ ((if 10 ≤ n.natAbs then [48 + ((n.natAbs / 10 : Nat) : Int)] else []) ++ [48 + ((n.natAbs % 10 : Nat) : Int)])) M2 d → K (.inl none) lay M2) → X g m_X5_printsNumber 0 0 lay M1 21 [(2, vI s), (0, vR d), (1, vI n)] [] K := by
    intro M1 p1 s hs hF1 hg1 hl1 kk
    have es : s.tdiv 10 = ((n.natAbs / 10 : Nat) : Int) := by rw [Int.tdiv_eq_ediv_of_nonneg (by omega)]; omega
    have em : s.tmod 10 = ((n.natAbs % 10 : Nat) : Int) := by rw [Int.tmod_eq_emod_of_nonneg (by omega)]; omega
    have hs99 : 0 ≤ s ∧ s ≤ 99 := by omega
    refine x_iload_n (pc := 21) dX5_printsNumber_21 rfl rfl ?_
    refine x_bipush (pc := 22) dX5_printsNumber_22 (by decide) ?_
    refine x_icmp_le (pc := 24) (t := 38) dX5_printsNumber_24 (by decide) ⟨by omega, by omega⟩ ⟨by omega, by omega⟩ (fun c24 => ?_) (fun c24 => ?_)
    · refine x_aload_n (pc := 38) dX5_printsNumber_38 rfl rfl ?_
      refine x_bipush (pc := 39) dX5_printsNumber_39 (by decide) ?_
      refine x_iload_n (pc := 41) dX5_printsNumber_41 rfl rfl ?_
      refine x_bipush (pc := 42) dX5_printsNumber_42 (by decide) ?_
      refine x_irem (pc := 44) dX5_printsNumber_44 ⟨by omega, by omega⟩ ⟨by omega, by omega⟩ (by omega) ?_
      refine x_iadd (pc := 45) dX5_printsNumber_45 ?_
      rw [em]
      refine x_callV (pc := 46) [_] rfl kX5_363 dX5_printsNumber_46 hd.1 rfl rfl (by decide) (Nat.le_of_ble_eq_true rfl) (Nat.le_of_ble_eq_true rfl) (by decide) ?_
      first
      | refine sp_X5_prints hd hb0 hg2 (by omega) (by simp; omega) (fun M3 hF3 hg3 => ?_)
      | refine sp_X5_prints hd hb0 hg1 (by omega) (by omega) (fun M3 hF3 hg3 => ?_)
      refine ⟨_, rfl, ?_⟩
      refine x_vret (pc := 49) dX5_printsNumber_49 rfl (by decide) (by decide) ?_
      first
      | (refine kk M3 ((hF1.tr hF2).tr hF3) ?_
         rw [if_pos (by omega)]
         simpa [List.append_assoc] using hg3)
      | (refine kk M3 (hF1.tr hF3) ?_
         rw [if_neg (by omega)]
         simpa [List.append_assoc] using hg3)
    · refine x_aload_n (pc := 27) dX5_printsNumber_27 rfl rfl ?_
      refine x_bipush (pc := 28) dX5_printsNumber_28 (by decide) ?_
      refine x_iload_n (pc := 30) dX5_printsNumber_30 rfl rfl ?_
      refine x_bipush (pc := 31) dX5_printsNumber_31 (by decide) ?_
      refine x_idiv (pc := 33) dX5_printsNumber_33 ⟨by omega, by omega⟩ ⟨by omega, by omega⟩ (by omega) ?_
      refine x_iadd (pc := 34) dX5_printsNumber_34 ?_
      rw [es]
      refine x_callV (pc := 35) [_] rfl kX5_363 dX5_printsNumber_35 hd.1 rfl rfl (by decide) (Nat.le_of_ble_eq_true rfl) (Nat.le_of_ble_eq_true rfl) (by decide) ?_
      refine sp_X5_prints hd hb0 hg1 (by omega) (by omega) (fun M2 hF2 hg2 => ?_)
      refine ⟨_, rfl, ?_⟩
      refine x_aload_n (pc := 38) dX5_printsNumber_38 rfl rfl ?_
      refine x_bipush (pc := 39) dX5_printsNumber_39 (by decide) ?_
      refine x_iload_n (pc := 41) dX5_printsNumber_41 rfl rfl ?_
      refine x_bipush (pc := 42) dX5_printsNumber_42 (by decide) ?_
      refine x_irem (pc := 44) dX5_printsNumber_44 ⟨by omega, by omega⟩ ⟨by omega, by omega⟩ (by omega) ?_
      refine x_iadd (pc := 45) dX5_printsNumber_45 ?_
      rw [em]
      refine x_callV (pc := 46) [_] rfl kX5_363 dX5_printsNumber_46 hd.1 rfl rfl (by decide) (Nat.le_of_ble_eq_true rfl) (Nat.le_of_ble_eq_true rfl) (by decide) ?_
      first
      | refine sp_X5_prints hd hb0 hg2 (by omega) (by simp; omega) (fun M3 hF3 hg3 => ?_)
      | refine sp_X5_prints hd hb0 hg1 (by omega) (by omega) (fun M3 hF3 hg3 => ?_)
      refine ⟨_, rfl, ?_⟩
      refine x_vret (pc := 49) dX5_printsNumber_49 rfl (by decide) (by decide) ?_
      first
      | (refine kk M3 ((hF1.tr hF2).tr hF3) ?_
         rw [if_pos (by omega)]
         simpa [List.append_assoc] using hg3)
      | (refine kk M3 (hF1.tr hF3) ?_
         rw [if_neg (by omega)]
         simpa [List.append_assoc] using hg3)
  have rest : ∀ (M1 : Mem) (p1 : List Int), FrO d M M1 → Po p1 M1 d → p1.length + 2 ≤ 1024 → (∀ M2, FrO d M M2 → Po (p1 ++ ((if 10 ≤ n.natAbs then [48 + ((n.natAbs / 10 : Nat) : Int)] else []) ++ [48 + ((n.natAbs % 10 : Nat) : Int)])) M2 d → K (.inl none) lay M2) → X g m_X5_printsNumber 0 0 lay M1 10 [(0, vR d), (1, vI n)] [] K := by
    intro M1 p1 hF1 hg1 hl1 kk
    refine x_iload_n (pc := 10) dX5_printsNumber_10 rfl rfl ?_
    refine x_if_ge (pc := 11) (t := 19) dX5_printsNumber_11 (by decide) ⟨by omega, by omega⟩ (fun c11 => ?_) (fun c11 => ?_)
    · refine x_iload_n (pc := 19) dX5_printsNumber_19 rfl rfl ?_
      refine x_istore_n (pc := 20) dX5_printsNumber_20 rfl (by decide) (L' := [(2, _), (0, _), (1, _)]) rfl ?_
      refine X.loc [0, 1, 2] (L' := [(2, _), (0, _), (1, _)]) rfl ?_
      exact rest2 M1 p1 _ (by omega) hF1 hg1 hl1 kk
    · refine x_iload_n (pc := 14) dX5_printsNumber_14 rfl rfl ?_
      refine x_ineg (pc := 15) dX5_printsNumber_15 ?_
      refine x_goto (pc := 16) (t := 20) dX5_printsNumber_16 (by decide) ?_
      refine x_istore_n (pc := 20) dX5_printsNumber_20 rfl (by decide) (L' := [(2, _), (0, _), (1, _)]) rfl ?_
      refine X.loc [0, 1, 2] (L' := [(2, _), (0, _), (1, _)]) rfl ?_
      exact rest2 M1 p1 _ (by omega) hF1 hg1 hl1 kk
  refine x_iload_n (pc := 0) dX5_printsNumber_0 rfl rfl ?_
  refine x_if_ge (pc := 1) (t := 10) dX5_printsNumber_1 (by decide) ⟨by omega, by omega⟩ (fun c1 => ?_) (fun c1 => ?_)
  · refine X.loc [0, 1] (L' := [(0, _), (1, _)]) rfl ?_
    first
    | (refine rest M2 _ hF2 hg2 (by simp; omega) (fun M3 hF3 hg3 => k M3 hF3 ?_)
       unfold numF
       rw [if_pos (by omega)]
       simpa [List.append_assoc] using hg3)
    | (refine rest M pg FrO.rf hg (by omega) (fun M3 hF3 hg3 => k M3 hF3 ?_)
       unfold numF
       rw [if_neg (by omega)]
       simpa [List.append_assoc] using hg3)
  · refine x_aload_n (pc := 4) dX5_printsNumber_4 rfl rfl ?_
    refine x_bipush (pc := 5) dX5_printsNumber_5 (by decide) ?_
    refine x_callV (pc := 7) [_] rfl kX5_363 dX5_printsNumber_7 hd.1 rfl rfl (by decide) (Nat.le_of_ble_eq_true rfl) (Nat.le_of_ble_eq_true rfl) (by decide) ?_
    refine sp_X5_prints hd hb0 hg (by omega) (by omega) (fun M2 hF2 hg2 => ?_)
    refine ⟨_, rfl, ?_⟩
    refine X.loc [0, 1] (L' := [(0, _), (1, _)]) rfl ?_
    first
    | (refine rest M2 _ hF2 hg2 (by simp; omega) (fun M3 hF3 hg3 => k M3 hF3 ?_)
       unfold numF
       rw [if_pos (by omega)]
       simpa [List.append_assoc] using hg3)
    | (refine rest M pg FrO.rf hg (by omega) (fun M3 hF3 hg3 => k M3 hF3 ?_)
       unfold numF
       rw [if_neg (by omega)]
       simpa [List.append_assoc] using hg3)
set_option maxRecDepth 100000 in
theorem sp_X5_printsNext {g : GG} {lay : Lay} {M : Mem} {K : KK} {d : Nat} {pg : List Int} {n : Int} (hd : MoL lay d) (hb0 : g.2.1 ≤ d) (hg : Po pg M d) (hn : -99 ≤ n ∧ n ≤ 99) (hl : pg.length + 4 ≤ 1024) (k : ∀ M2, FrO d M M2 → Po (pg ++ (32 :: numF n)) M2 d → K (.inl none) lay M2) : X g m_X5_printsNext 0 0 lay M 0 [(0, vR d), (1, vI n)] [] K := by
  refine x_aload_n (pc := 0) dX5_printsNext_0 rfl rfl ?_
  refine x_bipush (pc := 1) dX5_printsNext_1 (by decide) ?_
  refine x_callV (pc := 3) [_] rfl kX5_363 dX5_printsNext_3 hd.1 rfl rfl (by decide) (Nat.le_of_ble_eq_true rfl) (Nat.le_of_ble_eq_true rfl) (by decide) ?_
  refine sp_X5_prints hd hb0 hg (by omega) (by omega) (fun M2 hF2 hg2 => ?_)
  refine ⟨_, rfl, ?_⟩
  refine x_aload_n (pc := 6) dX5_printsNext_6 rfl rfl ?_
  refine x_iload_n (pc := 7) dX5_printsNext_7 rfl rfl ?_
  refine x_callV (pc := 8) [_] rfl kX5_366 dX5_printsNext_8 hd.1 rfl rfl (by decide) (Nat.le_of_ble_eq_true rfl) (Nat.le_of_ble_eq_true rfl) (by decide) ?_
  refine sp_X5_printsNumber hd hb0 hg2 hn (by simp; omega) (fun M3 hF3 hg3 => ?_)
  refine ⟨_, rfl, ?_⟩
  refine x_vret (pc := 11) dX5_printsNext_11 rfl (by decide) (by decide) ?_
  refine k M3 (hF2.tr hF3) ?_
  simpa [List.append_assoc] using hg3
set_option maxRecDepth 100000 in
theorem sp_X5_printsTerm {g : GG} {lay : Lay} {M : Mem} {K : KK} {d : Nat} {pg : List Int} {x : Int} {p : Nat} (hd : MoL lay d) (hb0 : g.2.1 ≤ d) (hg : Po pg M d) (hx : -30 ≤ x ∧ x ≤ 30) (hp : p < 5) (hl : pg.length + 20 ≤ 1024) (k : ∀ M2, FrO d M M2 → Po (monF pg x p) M2 d → (monF pg x p).length ≤ pg.length + 8 → K (.inl none) lay M2) : X g m_X5_printsTerm 0 0 lay M 0 [(0, vR d), (1, vI x), (2, vI p)] [] K := by
  have hlen : ∀ L : List Int, L.length ≤ 8 → apps pg L = pg ++ L := fun L h => apps_eq (by omega)
  unfold monF at k
  generalize hA : (if 0 < pg.length ∧ 0 < x then [(43 : Int)] else []) = A at k
  generalize hB : (if p = 0 ∨ (x ≠ 1 ∧ x ≠ -1) then numF x else if x = -1 then [45] else []) = B at k
  generalize hC : (if 0 < p then [(120 : Int)] else []) = C at k
  generalize hD : (if 1 < p then 94 :: numF p else []) = D at k
  have lA : A.length ≤ 1 := by rw [← hA]; split <;> simp
  have lB : B.length ≤ 3 := by
    rw [← hB]
    split
    · exact numF_len
    · split <;> simp
  have lC : C.length ≤ 1 := by rw [← hC]; split <;> simp
  have hDe : 1 < p → numF (p : Int) = [48 + (p : Int)] := fun h => by
    unfold numF
    rw [if_neg (by omega), if_neg (by omega), show (p : Int).natAbs % 10 = p by omega]
    simp
  have lD : D.length ≤ 2 := by
    rw [← hD]
    split
    · next h => rw [hDe h]; simp
    · simp
  have lL : (A ++ (B ++ (C ++ D))).length ≤ 8 := by simp; omega
  rw [hlen _ lL] at k
  have f3 : ∀ (M1 : Mem) (p1 : List Int), p1 = pg ++ (A ++ (B ++ C)) → FrO d M M1 → Po p1 M1 d → X g m_X5_printsTerm 0 0 lay M1 59 [(0, vR d), (1, vI x), (2, vI p)] [] K := by
    intro M1 p1 he hF1 hg1
    have hl1 : p1.length ≤ pg.length + 5 := by rw [he]; simp; omega
    refine x_iload_n (pc := 59) dX5_printsTerm_59 rfl rfl ?_
    refine x_iconst (pc := 60) dX5_printsTerm_60 ?_
    refine x_icmp_le (pc := 61) (t := 78) dX5_printsTerm_61 (by decide) ⟨by omega, by omega⟩ ⟨by omega, by omega⟩ (fun c61 => ?_) (fun c61 => ?_)
    · refine x_vret (pc := 78) dX5_printsTerm_78 rfl (by decide) (by decide) ?_
      first
      | (rw [if_pos (by omega), hDe (by omega)] at hD
         subst hD
         refine k M3 ((hF1.tr hF2).tr hF3) ?_ (by simp; omega)
         rw [he] at hg3
         simpa [List.append_assoc] using hg3)
      | (rw [if_neg (by omega)] at hD
         subst hD
         refine k M1 hF1 ?_ (by simp; omega)
         rw [he] at hg1
         simpa [List.append_assoc] using hg1)
    · refine x_aload_n (pc := 64) dX5_printsTerm_64 rfl rfl ?_
      refine x_bipush (pc := 65) dX5_printsTerm_65 (by decide) ?_
      refine x_callV (pc := 67) [_] rfl kX5_363 dX5_printsTerm_67 hd.1 rfl rfl (by decide) (Nat.le_of_ble_eq_true rfl) (Nat.le_of_ble_eq_true rfl) (by decide) ?_
      refine sp_X5_prints hd hb0 hg1 (by omega) (by omega) (fun M2 hF2 hg2 => ?_)
      refine ⟨_, rfl, ?_⟩
      refine x_aload_n (pc := 70) dX5_printsTerm_70 rfl rfl ?_
      refine x_bipush (pc := 71) dX5_printsTerm_71 (by decide) ?_
      refine x_iload_n (pc := 73) dX5_printsTerm_73 rfl rfl ?_
      refine x_iadd (pc := 74) dX5_printsTerm_74 ?_
      refine x_callV (pc := 75) [_] rfl kX5_363 dX5_printsTerm_75 hd.1 rfl rfl (by decide) (Nat.le_of_ble_eq_true rfl) (Nat.le_of_ble_eq_true rfl) (by decide) ?_
      refine sp_X5_prints hd hb0 hg2 (by omega) (by simp; omega) (fun M3 hF3 hg3 => ?_)
      refine ⟨_, rfl, ?_⟩
      refine x_vret (pc := 78) dX5_printsTerm_78 rfl (by decide) (by decide) ?_
      first
      | (rw [if_pos (by omega), hDe (by omega)] at hD
         subst hD
         refine k M3 ((hF1.tr hF2).tr hF3) ?_ (by simp; omega)
         rw [he] at hg3
         simpa [List.append_assoc] using hg3)
      | (rw [if_neg (by omega)] at hD
         subst hD
         refine k M1 hF1 ?_ (by simp; omega)
         rw [he] at hg1
         simpa [List.append_assoc] using hg1)
  have f2 : ∀ (M1 : Mem) (p1 : List Int), p1 = pg ++ (A ++ B) → FrO d M M1 → Po p1 M1 d → X g m_X5_printsTerm 0 0 lay M1 49 [(0, vR d), (1, vI x), (2, vI p)] [] K := by
    intro M1 p1 he hF1 hg1
    have hl1 : p1.length ≤ pg.length + 4 := by rw [he]; simp; omega
    refine x_iload_n (pc := 49) dX5_printsTerm_49 rfl rfl ?_
    refine x_if_le (pc := 50) (t := 59) dX5_printsTerm_50 (by decide) ⟨by omega, by omega⟩ (fun c50 => ?_) (fun c50 => ?_)
    · first
      | (rw [if_pos (by omega)] at hC
         subst hC
         refine f3 M2 _ ?_ (hF1.tr hF2) hg2
         rw [he]
         simp [List.append_assoc])
      | (rw [if_neg (by omega)] at hC
         subst hC
         refine f3 M1 _ ?_ hF1 hg1
         rw [he]
         simp [List.append_assoc])
    · refine x_aload_n (pc := 53) dX5_printsTerm_53 rfl rfl ?_
      refine x_bipush (pc := 54) dX5_printsTerm_54 (by decide) ?_
      refine x_callV (pc := 56) [_] rfl kX5_363 dX5_printsTerm_56 hd.1 rfl rfl (by decide) (Nat.le_of_ble_eq_true rfl) (Nat.le_of_ble_eq_true rfl) (by decide) ?_
      refine sp_X5_prints hd hb0 hg1 (by omega) (by omega) (fun M2 hF2 hg2 => ?_)
      refine ⟨_, rfl, ?_⟩
      first
      | (rw [if_pos (by omega)] at hC
         subst hC
         refine f3 M2 _ ?_ (hF1.tr hF2) hg2
         rw [he]
         simp [List.append_assoc])
      | (rw [if_neg (by omega)] at hC
         subst hC
         refine f3 M1 _ ?_ hF1 hg1
         rw [he]
         simp [List.append_assoc])
  have f1 : ∀ (M1 : Mem) (p1 : List Int), p1 = pg ++ A → FrO d M M1 → Po p1 M1 d → X g m_X5_printsTerm 0 0 lay M1 17 [(0, vR d), (1, vI x), (2, vI p)] [] K := by
    intro M1 p1 he hF1 hg1
    have hl1 : p1.length ≤ pg.length + 1 := by rw [he]; simp; omega
    refine x_iload_n (pc := 17) dX5_printsTerm_17 rfl rfl ?_
    refine x_if_le (pc := 18) (t := 44) dX5_printsTerm_18 (by decide) ⟨by omega, by omega⟩ (fun c18 => ?_) (fun c18 => ?_)
    · refine x_aload_n (pc := 44) dX5_printsTerm_44 rfl rfl ?_
      refine x_iload_n (pc := 45) dX5_printsTerm_45 rfl rfl ?_
      refine x_callV (pc := 46) [_] rfl kX5_366 dX5_printsTerm_46 hd.1 rfl rfl (by decide) (Nat.le_of_ble_eq_true rfl) (Nat.le_of_ble_eq_true rfl) (by decide) ?_
      refine sp_X5_printsNumber hd hb0 hg1 (by omega) (by omega) (fun M2 hF2 hg2 => ?_)
      refine ⟨_, rfl, ?_⟩
      first
      | (exfalso; omega)
      | (rw [if_pos (by omega)] at hB
         subst hB
         refine f2 M2 _ ?_ (hF1.tr hF2) hg2
         rw [he]
         simp [List.append_assoc])
      | (rw [if_neg (by omega), if_pos (by omega)] at hB
         subst hB
         refine f2 M2 _ ?_ (hF1.tr hF2) hg2
         rw [he]
         simp [List.append_assoc])
      | (rw [if_neg (by omega), if_neg (by omega)] at hB
         subst hB
         refine f2 M1 _ ?_ hF1 hg1
         rw [he]
         simp [List.append_assoc])
    · refine x_iload_n (pc := 21) dX5_printsTerm_21 rfl rfl ?_
      refine x_iconst (pc := 22) dX5_printsTerm_22 ?_
      refine x_icmp_eq (pc := 23) (t := 31) dX5_printsTerm_23 (by decide) ⟨by omega, by omega⟩ ⟨by omega, by omega⟩ (fun c23 => ?_) (fun c23 => ?_)
      · refine x_iload_n (pc := 31) dX5_printsTerm_31 rfl rfl ?_
        refine x_if_ge (pc := 32) (t := 49) dX5_printsTerm_32 (by decide) ⟨by omega, by omega⟩ (fun c32 => ?_) (fun c32 => ?_)
        · first
          | (exfalso; omega)
          | (rw [if_pos (by omega)] at hB
             subst hB
             refine f2 M2 _ ?_ (hF1.tr hF2) hg2
             rw [he]
             simp [List.append_assoc])
          | (rw [if_neg (by omega), if_pos (by omega)] at hB
             subst hB
             refine f2 M2 _ ?_ (hF1.tr hF2) hg2
             rw [he]
             simp [List.append_assoc])
          | (rw [if_neg (by omega), if_neg (by omega)] at hB
             subst hB
             refine f2 M1 _ ?_ hF1 hg1
             rw [he]
             simp [List.append_assoc])
        · refine x_aload_n (pc := 35) dX5_printsTerm_35 rfl rfl ?_
          refine x_bipush (pc := 36) dX5_printsTerm_36 (by decide) ?_
          refine x_callV (pc := 38) [_] rfl kX5_363 dX5_printsTerm_38 hd.1 rfl rfl (by decide) (Nat.le_of_ble_eq_true rfl) (Nat.le_of_ble_eq_true rfl) (by decide) ?_
          refine sp_X5_prints hd hb0 hg1 (by omega) (by omega) (fun M2 hF2 hg2 => ?_)
          refine ⟨_, rfl, ?_⟩
          refine x_goto (pc := 41) (t := 49) dX5_printsTerm_41 (by decide) ?_
          first
          | (exfalso; omega)
          | (rw [if_pos (by omega)] at hB
             subst hB
             refine f2 M2 _ ?_ (hF1.tr hF2) hg2
             rw [he]
             simp [List.append_assoc])
          | (rw [if_neg (by omega), if_pos (by omega)] at hB
             subst hB
             refine f2 M2 _ ?_ (hF1.tr hF2) hg2
             rw [he]
             simp [List.append_assoc])
          | (rw [if_neg (by omega), if_neg (by omega)] at hB
             subst hB
             refine f2 M1 _ ?_ hF1 hg1
             rw [he]
             simp [List.append_assoc])
      · refine x_iload_n (pc := 26) dX5_printsTerm_26 rfl rfl ?_
        refine x_iconst (pc := 27) dX5_printsTerm_27 ?_
        refine x_icmp_ne (pc := 28) (t := 44) dX5_printsTerm_28 (by decide) ⟨by omega, by omega⟩ ⟨by omega, by omega⟩ (fun c28 => ?_) (fun c28 => ?_)
        · refine x_aload_n (pc := 44) dX5_printsTerm_44 rfl rfl ?_
          refine x_iload_n (pc := 45) dX5_printsTerm_45 rfl rfl ?_
          refine x_callV (pc := 46) [_] rfl kX5_366 dX5_printsTerm_46 hd.1 rfl rfl (by decide) (Nat.le_of_ble_eq_true rfl) (Nat.le_of_ble_eq_true rfl) (by decide) ?_
          refine sp_X5_printsNumber hd hb0 hg1 (by omega) (by omega) (fun M2 hF2 hg2 => ?_)
          refine ⟨_, rfl, ?_⟩
          first
          | (exfalso; omega)
          | (rw [if_pos (by omega)] at hB
             subst hB
             refine f2 M2 _ ?_ (hF1.tr hF2) hg2
             rw [he]
             simp [List.append_assoc])
          | (rw [if_neg (by omega), if_pos (by omega)] at hB
             subst hB
             refine f2 M2 _ ?_ (hF1.tr hF2) hg2
             rw [he]
             simp [List.append_assoc])
          | (rw [if_neg (by omega), if_neg (by omega)] at hB
             subst hB
             refine f2 M1 _ ?_ hF1 hg1
             rw [he]
             simp [List.append_assoc])
        · refine x_iload_n (pc := 31) dX5_printsTerm_31 rfl rfl ?_
          refine x_if_ge (pc := 32) (t := 49) dX5_printsTerm_32 (by decide) ⟨by omega, by omega⟩ (fun c32 => ?_) (fun c32 => ?_)
          · first
            | (exfalso; omega)
            | (rw [if_pos (by omega)] at hB
               subst hB
               refine f2 M2 _ ?_ (hF1.tr hF2) hg2
               rw [he]
               simp [List.append_assoc])
            | (rw [if_neg (by omega), if_pos (by omega)] at hB
               subst hB
               refine f2 M2 _ ?_ (hF1.tr hF2) hg2
               rw [he]
               simp [List.append_assoc])
            | (rw [if_neg (by omega), if_neg (by omega)] at hB
               subst hB
               refine f2 M1 _ ?_ hF1 hg1
               rw [he]
               simp [List.append_assoc])
          · refine x_aload_n (pc := 35) dX5_printsTerm_35 rfl rfl ?_
            refine x_bipush (pc := 36) dX5_printsTerm_36 (by decide) ?_
            refine x_callV (pc := 38) [_] rfl kX5_363 dX5_printsTerm_38 hd.1 rfl rfl (by decide) (Nat.le_of_ble_eq_true rfl) (Nat.le_of_ble_eq_true rfl) (by decide) ?_
            refine sp_X5_prints hd hb0 hg1 (by omega) (by omega) (fun M2 hF2 hg2 => ?_)
            refine ⟨_, rfl, ?_⟩
            refine x_goto (pc := 41) (t := 49) dX5_printsTerm_41 (by decide) ?_
            first
            | (exfalso; omega)
            | (rw [if_pos (by omega)] at hB
               subst hB
               refine f2 M2 _ ?_ (hF1.tr hF2) hg2
               rw [he]
               simp [List.append_assoc])
            | (rw [if_neg (by omega), if_pos (by omega)] at hB
               subst hB
               refine f2 M2 _ ?_ (hF1.tr hF2) hg2
               rw [he]
               simp [List.append_assoc])
            | (rw [if_neg (by omega), if_neg (by omega)] at hB
               subst hB
               refine f2 M1 _ ?_ hF1 hg1
               rw [he]
               simp [List.append_assoc])
  obtain ⟨g1, g2, g3⟩ := id hg
  refine x_iload_n (pc := 0) dX5_printsTerm_0 rfl rfl ?_
  refine x_if_le (pc := 1) (t := 17) dX5_printsTerm_1 (by decide) ⟨by omega, by omega⟩ (fun c1 => ?_) (fun c1 => ?_)
  · first
    | (rw [if_pos (by omega)] at hA
       subst hA
       exact f1 M2 _ rfl hF2 hg2)
    | (rw [if_neg (by omega)] at hA
       subst hA
       exact f1 M _ (by simp) FrO.rf hg)
  · refine x_aload_n (pc := 4) dX5_printsTerm_4 rfl rfl ?_
    refine x_geti (pc := 5) fX5_360 dX5_printsTerm_5 hd.1 rfl (fun r5a r5b => ?_)
    rw [g1] at r5a r5b ⊢
    refine x_if_le (pc := 8) (t := 17) dX5_printsTerm_8 (by decide) ⟨by omega, by omega⟩ (fun c8 => ?_) (fun c8 => ?_)
    · first
      | (rw [if_pos (by omega)] at hA
         subst hA
         exact f1 M2 _ rfl hF2 hg2)
      | (rw [if_neg (by omega)] at hA
         subst hA
         exact f1 M _ (by simp) FrO.rf hg)
    · refine x_aload_n (pc := 11) dX5_printsTerm_11 rfl rfl ?_
      refine x_bipush (pc := 12) dX5_printsTerm_12 (by decide) ?_
      refine x_callV (pc := 14) [_] rfl kX5_363 dX5_printsTerm_14 hd.1 rfl rfl (by decide) (Nat.le_of_ble_eq_true rfl) (Nat.le_of_ble_eq_true rfl) (by decide) ?_
      refine sp_X5_prints hd hb0 hg (by omega) (by omega) (fun M2 hF2 hg2 => ?_)
      refine ⟨_, rfl, ?_⟩
      first
      | (rw [if_pos (by omega)] at hA
         subst hA
         exact f1 M2 _ rfl hF2 hg2)
      | (rw [if_neg (by omega)] at hA
         subst hA
         exact f1 M _ (by simp) FrO.rf hg)
set_option maxRecDepth 100000 in
theorem sp_X5_printsWord {g : GG} {lay : Lay} {M : Mem} {K : KK} {d : Nat} {pg : List Int} {w : Nat} (hd : MoL lay d) (hb0 : g.2.1 ≤ d) (hg : Po pg M d) (hw : w < 12) (hD : Wd M d) (hl : pg.length + 13 ≤ 1024) (k : ∀ M2, FrO d M M2 → Po (pg ++ stB (wM w)) M2 d → K (.inl none) lay M2) : X g m_X5_printsWord 0 0 lay M 0 [(0, vR d), (1, vI w)] [] K := by
  obtain ⟨w1, w2, w3, w4, w5⟩ := wd_off w hw
  have hsl : (stB (wM w)).length = stN (wM w) := stB_len _ (wM_15 w hw)
  have hsr := stN_rng (wM w) (wM_15 w hw)
  have second : ∀ (c j : Nat) (x z : Int) (M1 : Mem), j + c = stN (wM w) → x = ((offW w + j : Nat) : Int) → FrO d M M1 → Po (pg ++ (stB (wM w)).take j) M1 d → X g m_X5_printsWord 0 0 lay M1 33 [(3, vI z), (2, vI x), (0, vR d), (1, vI w)] [] K := by
    intro c
    induction c with
    | zero =>
      intro j x z M1 hj hx hF hg1
      have hD1 := hF.wd hD
      have e1 : M1 (d + 10) x.toNat = 32 := by rw [show x.toNat = offW w + stN (wM w) by omega, hD1 _ w1]; exact w2
      rw [List.take_of_length_le (by omega)] at hg1
      refine x_aload_n (pc := 33) dX5_printsWord_33 rfl rfl ?_
      refine x_getr (pc := 34) (b := d + 10) fX5_43 dX5_printsWord_34 hd.1 rfl rfl ?_
      refine x_iload_n (pc := 37) dX5_printsWord_37 rfl rfl ?_
      refine x_bald (pc := 38) dX5_printsWord_38 hd.2.2.2.2.2.2.2.2.2.2.1 (by omega) (by omega) (fun r38a r38b => ?_)
      rw [e1] at r38a r38b ⊢
      refine x_bipush (pc := 39) dX5_printsWord_39 (by decide) ?_
      refine x_icmp_eq (pc := 41) (t := 60) dX5_printsWord_41 (by decide) ⟨by omega, by omega⟩ ⟨by omega, by omega⟩ (fun c41 => ?_) (fun c41 => ?_)
      · refine x_vret (pc := 60) dX5_printsWord_60 rfl (by decide) (by decide) ?_
        exact k M1 hF hg1
      · exfalso; omega
    | succ c ih =>
      intro j x z M1 hj hx hF hg1
      have hD1 := hF.wd hD
      obtain ⟨v1, v2⟩ := w5 j (by omega)
      have v3 := wd_rng (offW w + j) (by omega)
      have e1 : M1 (d + 10) x.toNat = wdB (offW w + j) := by rw [show x.toNat = offW w + j by omega, hD1 _ (by omega)]
      have e2 : (stB (wM w)).take (j + 1) = (stB (wM w)).take j ++ [wdB (offW w + j)] := by
        rw [v1, List.take_succ, List.getD_eq_getElem?_getD, List.getElem?_eq_getElem (by omega)]
        rfl
      have e3 : ((stB (wM w)).take j).length = j := by rw [List.length_take]; omega
      refine x_aload_n (pc := 33) dX5_printsWord_33 rfl rfl ?_
      refine x_getr (pc := 34) (b := d + 10) fX5_43 dX5_printsWord_34 hd.1 rfl rfl ?_
      refine x_iload_n (pc := 37) dX5_printsWord_37 rfl rfl ?_
      refine x_bald (pc := 38) dX5_printsWord_38 hd.2.2.2.2.2.2.2.2.2.2.1 (by omega) (by omega) (fun r38a r38b => ?_)
      rw [e1] at r38a r38b ⊢
      refine x_bipush (pc := 39) dX5_printsWord_39 (by decide) ?_
      refine x_icmp_eq (pc := 41) (t := 60) dX5_printsWord_41 (by decide) ⟨by omega, by omega⟩ ⟨by omega, by omega⟩ (fun c41 => ?_) (fun c41 => ?_)
      · exfalso; omega
      · refine x_aload_n (pc := 44) dX5_printsWord_44 rfl rfl ?_
        refine x_aload_n (pc := 45) dX5_printsWord_45 rfl rfl ?_
        refine x_getr (pc := 46) (b := d + 10) fX5_43 dX5_printsWord_46 hd.1 rfl rfl ?_
        refine x_iload_n (pc := 49) dX5_printsWord_49 rfl rfl ?_
        refine x_bald (pc := 50) dX5_printsWord_50 hd.2.2.2.2.2.2.2.2.2.2.1 (by omega) (by omega) (fun r50a r50b => ?_)
        rw [e1] at r50a r50b ⊢
        refine x_callV (pc := 51) [_] rfl kX5_363 dX5_printsWord_51 hd.1 rfl rfl (by decide) (Nat.le_of_ble_eq_true rfl) (Nat.le_of_ble_eq_true rfl) (by decide) ?_
        refine sp_X5_prints hd hb0 hg1 (by omega) (by simp [e3]; omega) (fun M2 hF2 hg2 => ?_)
        refine ⟨_, rfl, ?_⟩
        refine x_iinc (pc := 54) dX5_printsWord_54 rfl (by decide) (L' := [(2, _), (3, _), (0, _), (1, _)]) rfl ?_
        refine x_goto (pc := 57) (t := 33) dX5_printsWord_57 (by decide) ?_
        refine X.loc [1, 0, 2, 3] (L' := [(3, _), (2, _), (0, _), (1, _)]) rfl ?_
        refine ih (j + 1) _ _ M2 (by omega) (by omega) (hF.tr hF2) ?_
        rw [e2, ← List.append_assoc]
        exact hg2
  have first : ∀ (c j : Nat) (x z : Int), j + c = offW w → x = j → z = (w : Int) - spc j → X g m_X5_printsWord 0 0 lay M 4 [(3, vI z), (2, vI x), (0, vR d), (1, vI w)] [] K := by
    intro c
    induction c with
    | zero =>
      intro j x z hj hx hz
      rw [show j = offW w by omega, w3] at hz
      refine x_iload_n (pc := 4) dX5_printsWord_4 rfl rfl ?_
      refine x_if_le (pc := 5) (t := 33) dX5_printsWord_5 (by decide) ⟨by omega, by omega⟩ (fun c5 => ?_) (fun c5 => ?_)
      · refine X.loc [0, 1, 2, 3] (L' := [(3, _), (2, _), (0, _), (1, _)]) rfl ?_
        exact second (stN (wM w)) 0 _ _ M (by omega) (by omega) FrO.rf (by simpa using hg)
      · exfalso; omega
    | succ c ih =>
      intro j x z hj hx hz
      have h4 := w4 j (by omega)
      have e1 : M (d + 10) x.toNat = wdB j := by rw [show x.toNat = j by omega]; exact hD j (by omega)
      have v3 := wd_rng j (by omega)
      have e5 : spc (j + 1) = spc j + (if wdB j = 32 then 1 else 0) := rfl
      have hs0 : 0 ≤ spc j := by
        have : ∀ n : Nat, 0 ≤ spc n := fun n => by
          induction n with
          | zero => exact Int.le_refl _
          | succ n ih => simp only [spc]; split <;> omega
        exact this j
      refine x_iload_n (pc := 4) dX5_printsWord_4 rfl rfl ?_
      refine x_if_le (pc := 5) (t := 33) dX5_printsWord_5 (by decide) ⟨by omega, by omega⟩ (fun c5 => ?_) (fun c5 => ?_)
      · exfalso; omega
      · refine x_iload_n (pc := 8) dX5_printsWord_8 rfl rfl ?_
        refine x_aload_n (pc := 9) dX5_printsWord_9 rfl rfl ?_
        refine x_getr (pc := 10) (b := d + 10) fX5_43 dX5_printsWord_10 hd.1 rfl rfl ?_
        refine x_iload_n (pc := 13) dX5_printsWord_13 rfl rfl ?_
        refine x_bald (pc := 14) dX5_printsWord_14 hd.2.2.2.2.2.2.2.2.2.2.1 (by omega) (by omega) (fun r14a r14b => ?_)
        rw [e1] at r14a r14b ⊢
        refine x_bipush (pc := 15) dX5_printsWord_15 (by decide) ?_
        refine x_icmp_ne (pc := 17) (t := 24) dX5_printsWord_17 (by decide) ⟨by omega, by omega⟩ ⟨by omega, by omega⟩ (fun c17 => ?_) (fun c17 => ?_)
        · refine x_iconst (pc := 24) dX5_printsWord_24 ?_
          refine x_isub (pc := 25) dX5_printsWord_25 ?_
          refine x_istore_n (pc := 26) dX5_printsWord_26 rfl (by decide) (L' := [(3, _), (2, _), (0, _), (1, _)]) rfl ?_
          refine x_iinc (pc := 27) dX5_printsWord_27 rfl (by decide) (L' := [(2, _), (3, _), (0, _), (1, _)]) rfl ?_
          refine x_goto (pc := 30) (t := 4) dX5_printsWord_30 (by decide) ?_
          refine X.loc [1, 0, 2, 3] (L' := [(3, _), (2, _), (0, _), (1, _)]) rfl ?_
          refine ih (j + 1) _ _ (by omega) (by omega) ?_
          rw [e5]
          first
          | (rw [if_pos (by omega)]; omega)
          | (rw [if_neg (by omega)]; omega)
        · refine x_iconst (pc := 20) dX5_printsWord_20 ?_
          refine x_goto (pc := 21) (t := 25) dX5_printsWord_21 (by decide) ?_
          refine x_isub (pc := 25) dX5_printsWord_25 ?_
          refine x_istore_n (pc := 26) dX5_printsWord_26 rfl (by decide) (L' := [(3, _), (2, _), (0, _), (1, _)]) rfl ?_
          refine x_iinc (pc := 27) dX5_printsWord_27 rfl (by decide) (L' := [(2, _), (3, _), (0, _), (1, _)]) rfl ?_
          refine x_goto (pc := 30) (t := 4) dX5_printsWord_30 (by decide) ?_
          refine X.loc [1, 0, 2, 3] (L' := [(3, _), (2, _), (0, _), (1, _)]) rfl ?_
          refine ih (j + 1) _ _ (by omega) (by omega) ?_
          rw [e5]
          first
          | (rw [if_pos (by omega)]; omega)
          | (rw [if_neg (by omega)]; omega)
  refine x_iconst (pc := 0) dX5_printsWord_0 ?_
  refine x_istore_n (pc := 1) dX5_printsWord_1 rfl (by decide) (L' := [(2, _), (0, _), (1, _)]) rfl ?_
  refine x_iload_n (pc := 2) dX5_printsWord_2 rfl rfl ?_
  refine x_istore_n (pc := 3) dX5_printsWord_3 rfl (by decide) (L' := [(3, _), (2, _), (0, _), (1, _)]) rfl ?_
  refine X.loc [0, 1, 2, 3] (L' := [(3, _), (2, _), (0, _), (1, _)]) rfl ?_
  exact first (offW w) 0 _ _ (by omega) rfl (by simp [spc])
