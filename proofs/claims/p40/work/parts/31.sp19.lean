/-! Specs of the page. -/
/-- the page at c holds these bytes -/
def Pg (pg : List Int) (M : Mem) (c : Nat) : Prop := M c 1 = pg.length ∧ pg.length ≤ 1024 ∧ ∀ i, i < pg.length → M (c + 1) i = pg.getD i 0
def app (pg : List Int) (x : Int) : List Int := if pg.length < 1024 then pg ++ [x] else pg
def apps (pg : List Int) : List Int → List Int
  | [] => pg
  | x :: l => apps (app pg x) l
def numF (n : Int) : List Int := (if n < 0 then [45] else []) ++ ((if 10 ≤ n.natAbs then [48 + ((n.natAbs / 10 : Nat) : Int)] else []) ++ [48 + ((n.natAbs % 10 : Nat) : Int)])
theorem app_le {pg : List Int} {x : Int} (h : pg.length ≤ 1024) : (app pg x).length ≤ 1024 := by
  unfold app
  split
  · simp; omega
  · exact h
theorem apps_app (pg l : List Int) (l2 : List Int) : apps pg (l ++ l2) = apps (apps pg l) l2 := by
  induction l generalizing pg with
  | nil => rfl
  | cons x l ih => exact ih _
theorem Pg.fr {pg : List Int} {M M' : Mem} {c lo hi : Nat} (h : Pg pg M c) (hF : Frm lo hi M M') (hd : c + 2 ≤ lo ∨ hi ≤ c) : Pg pg M' c := ⟨by rw [hF _ _ (by omega)]; exact h.1, h.2.1, fun i hi => by rw [hF _ _ (by omega)]; exact h.2.2 i hi⟩
def monF (pg : List Int) (x : Int) (p : Nat) : List Int :=
  apps pg ((if 0 < pg.length ∧ 0 < x then [43] else []) ++ ((if p = 0 ∨ (x ≠ 1 ∧ x ≠ -1) then numF x else if x = -1 then [45] else []) ++ ((if 0 < p then [120] else []) ++ (if 1 < p then 94 :: numF p else []))))
def polF (P : Nat → Int) : Nat → List Int → List Int
  | 0, pg => pg
  | n + 1, pg => polF P n (if P n ≠ 0 then monF pg (P n) n else pg)
def termF (x p : Int) : List Int := if x = 0 then stB 14 else stB 7 ++ (32 :: numF x ++ (32 :: numF p ++ [59]))
def clmT (l : Nat → Int) : List Int := (if l 3 = 1 then stB 12 else stB 13) ++ (32 :: numF (l 0) ++ (32 :: numF (l 1) ++ (32 :: numF (l 2) ++ (32 :: numF (l 4) ++ [59]))))
/-- the claims made in a turn -/
def clmsT (l : Nat → Nat → Int) (t : Int) : Nat → List Int
  | 0 => []
  | n + 1 => clmsT l t n ++ (if l n 5 = t then clmT (l n) else [])
def turnsT (T : CT) : Nat → List Int
  | 0 => []
  | n + 1 => turnsT T n ++ (clmsT (tL T (n % 2)) n (tK T (n % 2)) ++ termF (tC T n) (tQ T n))
def writeF (P : Nat → Int) : List Int := if (polF P 5 []).length = 0 then app (polF P 5 []) 48 else polF P 5 []
def writeT (T : CT) : List Int := apps [] (turnsT T (tN T) ++ clmsT (tL T (tN T % 2)) (tN T) (tK T (tN T % 2)))
theorem stB_len (q : Nat) (h : q < 24) : (stB q).length = stN q := by
  revert q
  decide

set_option maxRecDepth 100000 in
theorem sp_X1_begin {g : GG} {lay : Lay} {M : Mem} {K : KK} {c : Nat} (hP : PgL lay c) (hb0 : g.2.1 ≤ c) (k : ∀ M2, Frm c (c + 2) M M2 → Pg ([]) M2 c → K (.inl none) lay M2) : X g m_X1_begin 0 0 lay M 0 [(0, vR c)] [] K := by
  refine x_aload_n (pc := 0) dX1_begin_0 rfl rfl ?_
  refine x_iconst (pc := 1) dX1_begin_1 ?_
  refine x_puti (pc := 2) fnX1_15 dX1_begin_2 hP.1 (by omega) rfl ⟨by omega, by omega⟩ ?_
  refine x_vret (pc := 5) dX1_begin_5 rfl (by decide) (by decide) ?_
  exact k _ (Frm.rf.ms (by omega)) ⟨mset_same, by decide, fun i hi => absurd hi (Nat.not_lt_zero _)⟩
set_option maxRecDepth 100000 in
theorem sp_X1_putSign {g : GG} {lay : Lay} {M : Mem} {K : KK} {c : Nat} {pg : List Int} {x : Int} (hP : PgL lay c) (hb0 : g.2.1 ≤ c) (hg : Pg pg M c) (hx : 0 ≤ x ∧ x < 128) (k : ∀ M2, Frm c (c + 2) M M2 → Pg (app pg x) M2 c → K (.inl none) lay M2) : X g m_X1_putSign 0 0 lay M 0 [(0, vR c), (1, vI x)] [] K := by
  obtain ⟨g1, g2, g3⟩ := hg
  unfold app at k
  refine x_aload_n (pc := 0) dX1_putSign_0 rfl rfl ?_
  refine x_geti (pc := 1) fX1_15 dX1_putSign_1 hP.1 rfl (fun r1a r1b => ?_)
  refine x_if_lt (pc := 4) (t := 40) dX1_putSign_4 (by decide) ⟨by omega, by omega⟩ (fun c4 => ?_) (fun c4 => ?_)
  · refine x_vret (pc := 40) dX1_putSign_40 rfl (by decide) (by decide) ?_
    first
    | (rw [if_neg (by omega)] at k
       exact k _ Frm.rf ⟨g1, g2, g3⟩)
    | (rw [if_pos (by omega)] at k
       refine k _ ((Frm.rf.ms (by omega)).ms (by omega)) ⟨?_, ?_, fun i hi => ?_⟩
       · rw [mset_same, g1]
         simp
       · simp
         omega
       · rw [mset_nea (by omega), show (M c 1).toNat = pg.length by omega]
         simp at hi
         by_cases e : i = pg.length
         · rw [e, mset_same]
           simp [List.getD_eq_getElem?_getD]
         · rw [mset_nei e, g3 i (by omega)]
           simp [List.getD_eq_getElem?_getD, List.getElem?_append_left (show i < pg.length by omega)])
  · refine x_aload_n (pc := 7) dX1_putSign_7 rfl rfl ?_
    refine x_geti (pc := 8) fX1_15 dX1_putSign_8 hP.1 rfl (fun r8a r8b => ?_)
    refine x_aload_n (pc := 11) dX1_putSign_11 rfl rfl ?_
    refine x_getr (pc := 12) (b := c + 1) fX1_9 dX1_putSign_12 hP.1 rfl rfl ?_
    refine x_alen (pc := 15) dX1_putSign_15 hP.2 (fun r15a => ?_)
    refine x_icmp_ge (pc := 16) (t := 40) dX1_putSign_16 (by decide) ⟨by omega, by omega⟩ ⟨by omega, by omega⟩ (fun c16 => ?_) (fun c16 => ?_)
    · refine x_vret (pc := 40) dX1_putSign_40 rfl (by decide) (by decide) ?_
      first
      | (rw [if_neg (by omega)] at k
         exact k _ Frm.rf ⟨g1, g2, g3⟩)
      | (rw [if_pos (by omega)] at k
         refine k _ ((Frm.rf.ms (by omega)).ms (by omega)) ⟨?_, ?_, fun i hi => ?_⟩
         · rw [mset_same, g1]
           simp
         · simp
           omega
         · rw [mset_nea (by omega), show (M c 1).toNat = pg.length by omega]
           simp at hi
           by_cases e : i = pg.length
           · rw [e, mset_same]
             simp [List.getD_eq_getElem?_getD]
           · rw [mset_nei e, g3 i (by omega)]
             simp [List.getD_eq_getElem?_getD, List.getElem?_append_left (show i < pg.length by omega)])
    · refine x_aload_n (pc := 19) dX1_putSign_19 rfl rfl ?_
      refine x_getr (pc := 20) (b := c + 1) fX1_9 dX1_putSign_20 hP.1 rfl rfl ?_
      refine x_aload_n (pc := 23) dX1_putSign_23 rfl rfl ?_
      refine x_geti (pc := 24) fX1_15 dX1_putSign_24 hP.1 rfl (fun r24a r24b => ?_)
      refine x_iload_n (pc := 27) dX1_putSign_27 rfl rfl ?_
      refine x_i2b (pc := 28) dX1_putSign_28 ?_
      rw [Int.bmod_eq_of_le (show -((256 : Nat) / 2 : Int) ≤ x by omega) (show x < ((256 : Nat) + 1 : Int) / 2 by omega)]
      refine x_bast (pc := 29) dX1_putSign_29 hP.2 (by omega) (by omega) (by omega) ⟨by omega, by omega⟩ ?_
      refine x_aload_n (pc := 30) dX1_putSign_30 rfl rfl ?_
      refine x_dup (pc := 31) dX1_putSign_31 rfl ?_
      refine x_geti (pc := 32) fX1_15 dX1_putSign_32 hP.1 rfl (fun r32a r32b => ?_)
      try simp (disch := omega) only [mset_same, mset_nea, mset_nei, mcopy_nea, mcopy_in, mcopy_out, Int.reduceToNat, Int.toNat_natCast, Nat.zero_add, Nat.sub_zero] at r32a r32b ⊢
      refine x_iconst (pc := 35) dX1_putSign_35 ?_
      refine x_iadd (pc := 36) dX1_putSign_36 ?_
      refine x_puti (pc := 37) fnX1_15 dX1_putSign_37 hP.1 (by omega) rfl ⟨by omega, by omega⟩ ?_
      refine x_vret (pc := 40) dX1_putSign_40 rfl (by decide) (by decide) ?_
      first
      | (rw [if_neg (by omega)] at k
         exact k _ Frm.rf ⟨g1, g2, g3⟩)
      | (rw [if_pos (by omega)] at k
         refine k _ ((Frm.rf.ms (by omega)).ms (by omega)) ⟨?_, ?_, fun i hi => ?_⟩
         · rw [mset_same, g1]
           simp
         · simp
           omega
         · rw [mset_nea (by omega), show (M c 1).toNat = pg.length by omega]
           simp at hi
           by_cases e : i = pg.length
           · rw [e, mset_same]
             simp [List.getD_eq_getElem?_getD]
           · rw [mset_nei e, g3 i (by omega)]
             simp [List.getD_eq_getElem?_getD, List.getElem?_append_left (show i < pg.length by omega)])
set_option maxRecDepth 100000 in
theorem sp_X1_putText {g : GG} {lay : Lay} {M : Mem} {K : KK} {c : Nat} {pg : List Int} {q : Nat} (hP : PgL lay c) (hb0 : g.2.1 ≤ c) (hg : Pg pg M c) (hq : q < 24) (k : ∀ M2, Frm c (c + 2) M M2 → Pg (apps pg (stB q)) M2 c → K (.inl none) lay M2) : X g m_X1_putText 0 0 lay M 0 [(0, vR c), (1, vR (g.2.2.2.1 q))] [] K := by
  have hn := stN_rng q hq
  have hle := stB_len q hq
  obtain ⟨U, hU⟩ : ∃ U, U = apps pg (stB q) := ⟨_, rfl⟩
  rw [← hU] at k
  have loop : ∀ (d j : Nat) (y : Int) (M1 : Mem) (pg1 : List Int), j + d = stN q → y = j → Frm c (c + 2) M M1 → Pg pg1 M1 c → apps pg1 ((stB q).drop j) = U → X g m_X1_putText 0 0 lay M1 2 [(2, vI y), (0, vR c), (1, vR (g.2.2.2.1 q))] [] K := by
    intro d
    induction d with
    | zero =>
      intro j y M1 pg1 hj hy hF hg1 hu
      refine x_iload_n (pc := 2) dX1_putText_2 rfl rfl ?_
      refine x_aload_n (pc := 3) dX1_putText_3 rfl rfl ?_
      refine x_callVs (pc := 4) [] rfl kX1_19 dX1_putText_4 hq rfl rfl (by decide) (Nat.le_of_ble_eq_true rfl) (Nat.le_of_ble_eq_true rfl) (by decide) ?_
      refine sp_J0_length_8abf5 hq ?_
      refine ⟨_, rfl, ?_⟩
      refine x_icmp_ge (pc := 7) (t := 25) dX1_putText_7 (by decide) ⟨by omega, by omega⟩ ⟨by omega, by omega⟩ (fun c7 => ?_) (fun c7 => ?_)
      · refine x_vret (pc := 25) dX1_putText_25 rfl (by decide) (by decide) ?_
        rw [List.drop_of_length_le (by omega)] at hu
        exact k _ hF (hu ▸ hg1)
      · exfalso; omega
    | succ d ih =>
      intro j y M1 pg1 hj hy hF hg1 hu
      subst hy
      have hb := stB_rng q hq j (by omega)
      have e1 : (stB q).drop j = (stB q).getD j 0 :: (stB q).drop (j + 1) := by
        rw [List.getD_eq_getElem?_getD, List.getElem?_eq_getElem (by omega), Option.getD_some]
        exact List.drop_eq_getElem_cons (by omega)
      rw [e1] at hu
      refine x_iload_n (pc := 2) dX1_putText_2 rfl rfl ?_
      refine x_aload_n (pc := 3) dX1_putText_3 rfl rfl ?_
      refine x_callVs (pc := 4) [] rfl kX1_19 dX1_putText_4 hq rfl rfl (by decide) (Nat.le_of_ble_eq_true rfl) (Nat.le_of_ble_eq_true rfl) (by decide) ?_
      refine sp_J0_length_8abf5 hq ?_
      refine ⟨_, rfl, ?_⟩
      refine x_icmp_ge (pc := 7) (t := 25) dX1_putText_7 (by decide) ⟨by omega, by omega⟩ ⟨by omega, by omega⟩ (fun c7 => ?_) (fun c7 => ?_)
      · exfalso; omega
      · refine x_aload_n (pc := 10) dX1_putText_10 rfl rfl ?_
        refine x_aload_n (pc := 11) dX1_putText_11 rfl rfl ?_
        refine x_iload_n (pc := 12) dX1_putText_12 rfl rfl ?_
        refine x_callVs (pc := 13) [_] rfl kX1_24 dX1_putText_13 hq rfl rfl (by decide) (Nat.le_of_ble_eq_true rfl) (Nat.le_of_ble_eq_true rfl) (by decide) ?_
        refine sp_J0_charAt_5068e hq (by omega) (by omega) ?_
        refine ⟨_, rfl, ?_⟩
        refine x_callV (pc := 16) [_] rfl kX1_28 dX1_putText_16 hP.1 rfl rfl (by decide) (Nat.le_of_ble_eq_true rfl) (Nat.le_of_ble_eq_true rfl) (by decide) ?_
        rw [Int.toNat_natCast]
        refine sp_X1_putSign hP hb0 hg1 (by omega) (fun M2 hF2 hg2 => ?_)
        refine ⟨_, rfl, ?_⟩
        refine x_iinc (pc := 19) dX1_putText_19 rfl (by decide) (L' := [(2, _), (0, _), (1, _)]) rfl ?_
        refine x_goto (pc := 22) (t := 2) dX1_putText_22 (by decide) ?_
        refine X.loc [0, 1, 2] (L' := [(2, _), (0, _), (1, _)]) rfl ?_
        exact ih (j + 1) _ _ _ (by omega) (by omega) (hF.trans hF2) hg2 hu
  refine x_iconst (pc := 0) dX1_putText_0 ?_
  refine x_istore_n (pc := 1) dX1_putText_1 rfl (by decide) (L' := [(2, _), (0, _), (1, _)]) rfl ?_
  refine X.loc [0, 1, 2] (L' := [(2, _), (0, _), (1, _)]) rfl ?_
  exact loop (stN q) 0 _ _ pg (by omega) rfl Frm.rf hg hU.symm
set_option maxRecDepth 100000 in
theorem sp_X1_putNumber {g : GG} {lay : Lay} {M : Mem} {K : KK} {c : Nat} {pg : List Int} {n : Int} (hP : PgL lay c) (hb0 : g.2.1 ≤ c) (hg : Pg pg M c) (hn : -99 ≤ n ∧ n ≤ 99) (k : ∀ M2, Frm c (c + 2) M M2 → Pg (apps pg (numF n)) M2 c → K (.inl none) lay M2) : X g m_X1_putNumber 0 0 lay M 0 [(0, vR c), (1, vI n)] [] K := by
  unfold numF at k
  have rest : ∀ (M1 : Mem) (pg1 : List Int), Frm c (c + 2) M M1 → Pg pg1 M1 c → pg1 = apps pg (if n < 0 then [45] else []) → X g m_X1_putNumber 0 0 lay M1 10 [(0, vR c), (1, vI n)] [] K := by
    intro M1 pg1 hF1 hg1 hp1
    rw [apps_app, ← hp1] at k
    refine x_iload_n (pc := 10) dX1_putNumber_10 rfl rfl ?_
    refine x_mabs (pc := 11) kmX1_32 dX1_putNumber_11 ⟨by omega, by omega⟩ (Nat.le_of_ble_eq_true rfl) (by decide) (by decide) (by decide) ?_
    rw [show (if 0 ≤ n then n else 0 - n) = ((n.natAbs : Nat) : Int) by split <;> omega]
    refine x_istore_n (pc := 14) dX1_putNumber_14 rfl (by decide) (L' := [(2, _), (0, _), (1, _)]) rfl ?_
    refine x_iload_n (pc := 15) dX1_putNumber_15 rfl rfl ?_
    refine x_bipush (pc := 16) dX1_putNumber_16 (by decide) ?_
    refine x_icmp_lt (pc := 18) (t := 33) dX1_putNumber_18 (by decide) ⟨by omega, by omega⟩ ⟨by omega, by omega⟩ (fun c18 => ?_) (fun c18 => ?_)
    · refine x_aload_n (pc := 33) dX1_putNumber_33 rfl rfl ?_
      refine x_bipush (pc := 34) dX1_putNumber_34 (by decide) ?_
      refine x_iload_n (pc := 36) dX1_putNumber_36 rfl rfl ?_
      refine x_bipush (pc := 37) dX1_putNumber_37 (by decide) ?_
      refine x_irem (pc := 39) dX1_putNumber_39 ⟨by omega, by omega⟩ ⟨by omega, by omega⟩ (by omega) ?_
      rw [Int.tmod_eq_emod_of_nonneg (by omega)]
      refine x_iadd (pc := 40) dX1_putNumber_40 ?_
      refine x_i2c (pc := 41) (by omega) (by omega) dX1_putNumber_41 ?_
      refine x_callV (pc := 42) [_] rfl kX1_28 dX1_putNumber_42 hP.1 rfl rfl (by decide) (Nat.le_of_ble_eq_true rfl) (Nat.le_of_ble_eq_true rfl) (by decide) ?_
      first
      | (refine sp_X1_putSign hP hb0 hg2 (by omega) (fun M3 hFM3 hg3 => ?_)
         skip)
      | refine sp_X1_putSign hP hb0 hg1 (by omega) (fun M3 hFM3 hg3 => ?_)
      refine ⟨_, rfl, ?_⟩
      refine x_vret (pc := 45) dX1_putNumber_45 rfl (by decide) (by decide) ?_
      first
      | (rw [if_pos (by omega)] at k
         exact k _ ((hF1.trans hFM2).trans hFM3) hg3)
      | (rw [if_neg (by omega)] at k
         exact k _ (hF1.trans hFM3) hg3)
    · refine x_aload_n (pc := 21) dX1_putNumber_21 rfl rfl ?_
      refine x_bipush (pc := 22) dX1_putNumber_22 (by decide) ?_
      refine x_iload_n (pc := 24) dX1_putNumber_24 rfl rfl ?_
      refine x_bipush (pc := 25) dX1_putNumber_25 (by decide) ?_
      refine x_idiv (pc := 27) dX1_putNumber_27 ⟨by omega, by omega⟩ ⟨by omega, by omega⟩ (by omega) ?_
      rw [Int.tdiv_eq_ediv_of_nonneg (by omega)]
      refine x_iadd (pc := 28) dX1_putNumber_28 ?_
      refine x_i2c (pc := 29) (by omega) (by omega) dX1_putNumber_29 ?_
      refine x_callV (pc := 30) [_] rfl kX1_28 dX1_putNumber_30 hP.1 rfl rfl (by decide) (Nat.le_of_ble_eq_true rfl) (Nat.le_of_ble_eq_true rfl) (by decide) ?_
      refine sp_X1_putSign hP hb0 hg1 (by omega) (fun M2 hFM2 hg2 => ?_)
      refine ⟨_, rfl, ?_⟩
      refine x_aload_n (pc := 33) dX1_putNumber_33 rfl rfl ?_
      refine x_bipush (pc := 34) dX1_putNumber_34 (by decide) ?_
      refine x_iload_n (pc := 36) dX1_putNumber_36 rfl rfl ?_
      refine x_bipush (pc := 37) dX1_putNumber_37 (by decide) ?_
      refine x_irem (pc := 39) dX1_putNumber_39 ⟨by omega, by omega⟩ ⟨by omega, by omega⟩ (by omega) ?_
      rw [Int.tmod_eq_emod_of_nonneg (by omega)]
      refine x_iadd (pc := 40) dX1_putNumber_40 ?_
      refine x_i2c (pc := 41) (by omega) (by omega) dX1_putNumber_41 ?_
      refine x_callV (pc := 42) [_] rfl kX1_28 dX1_putNumber_42 hP.1 rfl rfl (by decide) (Nat.le_of_ble_eq_true rfl) (Nat.le_of_ble_eq_true rfl) (by decide) ?_
      first
      | (refine sp_X1_putSign hP hb0 hg2 (by omega) (fun M3 hFM3 hg3 => ?_)
         skip)
      | refine sp_X1_putSign hP hb0 hg1 (by omega) (fun M3 hFM3 hg3 => ?_)
      refine ⟨_, rfl, ?_⟩
      refine x_vret (pc := 45) dX1_putNumber_45 rfl (by decide) (by decide) ?_
      first
      | (rw [if_pos (by omega)] at k
         exact k _ ((hF1.trans hFM2).trans hFM3) hg3)
      | (rw [if_neg (by omega)] at k
         exact k _ (hF1.trans hFM3) hg3)
  refine x_iload_n (pc := 0) dX1_putNumber_0 rfl rfl ?_
  refine x_if_ge (pc := 1) (t := 10) dX1_putNumber_1 (by decide) ⟨by omega, by omega⟩ (fun c1 => ?_) (fun c1 => ?_)
  · first
    | exact rest _ _ hFM2 hg2 (by rw [if_pos (by omega)]; rfl)
    | exact rest _ _ Frm.rf hg (by rw [if_neg (by omega)]; rfl)
  · refine x_aload_n (pc := 4) dX1_putNumber_4 rfl rfl ?_
    refine x_bipush (pc := 5) dX1_putNumber_5 (by decide) ?_
    refine x_callV (pc := 7) [_] rfl kX1_28 dX1_putNumber_7 hP.1 rfl rfl (by decide) (Nat.le_of_ble_eq_true rfl) (Nat.le_of_ble_eq_true rfl) (by decide) ?_
    refine sp_X1_putSign hP hb0 hg (by omega) (fun M2 hFM2 hg2 => ?_)
    refine ⟨_, rfl, ?_⟩
    first
    | exact rest _ _ hFM2 hg2 (by rw [if_pos (by omega)]; rfl)
    | exact rest _ _ Frm.rf hg (by rw [if_neg (by omega)]; rfl)
set_option maxRecDepth 100000 in
theorem sp_X1_putSpaced {g : GG} {lay : Lay} {M : Mem} {K : KK} {c : Nat} {pg : List Int} {n : Int} (hP : PgL lay c) (hb0 : g.2.1 ≤ c) (hg : Pg pg M c) (hn : -99 ≤ n ∧ n ≤ 99) (k : ∀ M2, Frm c (c + 2) M M2 → Pg (apps pg (32 :: numF n)) M2 c → K (.inl none) lay M2) : X g m_X1_putSpaced 0 0 lay M 0 [(0, vR c), (1, vI n)] [] K := by
  refine x_aload_n (pc := 0) dX1_putSpaced_0 rfl rfl ?_
  refine x_bipush (pc := 1) dX1_putSpaced_1 (by decide) ?_
  refine x_callV (pc := 3) [_] rfl kX1_28 dX1_putSpaced_3 hP.1 rfl rfl (by decide) (Nat.le_of_ble_eq_true rfl) (Nat.le_of_ble_eq_true rfl) (by decide) ?_
  refine sp_X1_putSign hP hb0 hg (by omega) (fun M2 hFM2 hg2 => ?_)
  refine ⟨_, rfl, ?_⟩
  refine x_aload_n (pc := 6) dX1_putSpaced_6 rfl rfl ?_
  refine x_iload_n (pc := 7) dX1_putSpaced_7 rfl rfl ?_
  refine x_callV (pc := 8) [_] rfl kX1_38 dX1_putSpaced_8 hP.1 rfl rfl (by decide) (Nat.le_of_ble_eq_true rfl) (Nat.le_of_ble_eq_true rfl) (by decide) ?_
  refine sp_X1_putNumber hP hb0 hg2 hn (fun M3 hFM3 hg3 => ?_)
  refine ⟨_, rfl, ?_⟩
  refine x_vret (pc := 11) dX1_putSpaced_11 rfl (by decide) (by decide) ?_
  exact k _ (hFM2.trans hFM3) hg3
