/-! The law's helpers. -/
theorem X.mono {g : GG} {r : MR} {cn ck : Nat} {lay : Lay} {M : Mem} {pc : Nat} {L : List (Nat × AV)} {st : List AV} {K K' : KK} (h : X g r cn ck lay M pc L st K') (hk : ∀ o lay M, K' o lay M → K o lay M) : X g r cn ck lay M pc L st K := by
  intro p l e s m args below meth c H locs ls C G R S hl T hT Xs
  obtain ⟨t, a1, o, b1, b2, b3⟩ := h p l e s m args below meth c H locs ls C G R S hl T hT Xs
  refine ⟨t, a1, o, b1, b2, ?_⟩
  rcases b3 with ⟨⟨⟨v, l2, M2, e1, e2, e3⟩, e4⟩, e5⟩ | ⟨q, e1, E, ce, L, ⟨⟨l2, M2, e2, e3⟩, e4⟩, e5⟩
  · exact Or.inl ⟨⟨⟨v, l2, M2, e1, hk _ _ _ e2, e3⟩, e4⟩, e5⟩
  · exact Or.inr ⟨q, e1, E, ce, L, ⟨⟨l2, M2, hk _ _ _ e2, e3⟩, e4⟩, e5⟩
theorem clL13 : Cond.classLink RL 13 "java/lang/IllegalStateException" ∈ wsL_law := by decide +kernel
theorem clL18 : Cond.classLink RL 18 "java/lang/IllegalArgumentException" ∈ wsL_law := by decide +kernel
theorem clL27 : Cond.classLink RL 27 "java/lang/IndexOutOfBoundsException" ∈ wsL_law := by decide +kernel
theorem sp_X5_thrown {g : GG} {lay : Lay} {M : Mem} {K : KK} {d : Nat} (hd : MoL lay d) (k : -2147483648 ≤ M d 0 → M d 0 ≤ 2147483647 → K (.inl (some (vI (M d 0)))) lay M) : X g m_X5_thrown 0 0 lay M 0 [(0, vR d)] [] K := by
  refine x_aload_n (pc := 0) dX5_thrown_0 rfl rfl ?_
  refine x_geti (pc := 1) fX5_55 dX5_thrown_1 hd.1 rfl (fun r1 r2 => ?_)
  exact x_iret (pc := 4) dX5_thrown_4 rfl (by decide) (by decide) (k r1 r2)

set_option maxRecDepth 100000 in
theorem sp_L_appendText {g : GG} {lay : Lay} {M : Mem} {K : KK} {b o : Nat} {p1 : Int} {rf : Nat → Option Nat} (hb : lay.1 b = some (0, 4, rf)) (hw : g.2.1 ≤ o) (hX : X g m_X4_appendText 0 0 lay M 0 [(0, vR b), (1, vI p1)] [] (fun o2 lay2 M2 => (∃ y, o2 = .inl (some (vI y)) ∧ i32 y ∧ lay2.1 o = some (2, 1, fun _ => none) ∧ K (.inl (some (vI 0))) lay2 (mset M2 o 0 y)) ∨ (o2 = eIS ∧ K (.inl (some (vI 1))) lay2 M2))) : X g m_L_appendText 0 0 lay M 0 [(0, vR b), (1, vI p1), (2, vR o)] [] K := by
  refine x_aload_n (pc := 0) dL_appendText_0 rfl rfl ?_
  refine x_iconst (pc := 1) dL_appendText_1 ?_
  refine x_aload_n (pc := 2) dL_appendText_2 rfl rfl ?_
  refine x_iload_n (pc := 3) dL_appendText_3 rfl rfl ?_
  refine x_callVX (pc := 4) [_] rfl kL_7 dL_appendText_4 hb rfl rfl (by decide) (Nat.le_of_ble_eq_true rfl) (Nat.le_of_ble_eq_true rfl) (by decide) ?_
  refine X.mono hX (fun o2 lay2 M2 hK => ?_)
  rcases hK with ⟨y, rfl, hy, ho, hk⟩ | ⟨rfl, hk⟩
  · refine Or.inl ⟨_, rfl, ?_⟩
    refine x_i2l (pc := 7) hy dL_appendText_7 ?_
    refine x_last (pc := 8) dL_appendText_8 ho hw (by decide) (by decide) (by obtain ⟨y1, y2⟩ := hy; exact ⟨by omega, by omega⟩) ?_
    refine x_goto (pc := 9) (t := 15) dL_appendText_9 (by decide) ?_
    refine x_iconst (pc := 15) dL_appendText_15 ?_
    exact x_iret (pc := 16) dL_appendText_16 rfl (by decide) (by decide) hk
  · refine Or.inr ⟨_, 12, rfl, ?_, fun q => ?_⟩
    · exact Or.inl ⟨by decide, rfl, by decide, _, clL13, by decide⟩
    · refine x_astore_n (pc := 12) dL_appendText_12 rfl (by decide) rfl ?_
      refine x_iconst (pc := 13) dL_appendText_13 ?_
      exact x_iret (pc := 14) dL_appendText_14 rfl (by decide) (by decide) hk
set_option maxRecDepth 100000 in
theorem sp_L_truncateText {g : GG} {lay : Lay} {M : Mem} {K : KK} {b o : Nat} {p1 : Int} {rf : Nat → Option Nat} (hb : lay.1 b = some (0, 4, rf)) (hw : g.2.1 ≤ o) (hX : X g m_X4_truncateText 0 0 lay M 0 [(0, vR b), (1, vI p1)] [] (fun o2 lay2 M2 => (∃ y, o2 = .inl (some (vI y)) ∧ i32 y ∧ lay2.1 o = some (2, 1, fun _ => none) ∧ K (.inl (some (vI 0))) lay2 (mset M2 o 0 y)) ∨ (o2 = eIA ∧ K (.inl (some (vI 1))) lay2 M2))) : X g m_L_truncateText 0 0 lay M 0 [(0, vR b), (1, vI p1), (2, vR o)] [] K := by
  refine x_aload_n (pc := 0) dL_truncateText_0 rfl rfl ?_
  refine x_iconst (pc := 1) dL_truncateText_1 ?_
  refine x_aload_n (pc := 2) dL_truncateText_2 rfl rfl ?_
  refine x_iload_n (pc := 3) dL_truncateText_3 rfl rfl ?_
  refine x_callVX (pc := 4) [_] rfl kL_15 dL_truncateText_4 hb rfl rfl (by decide) (Nat.le_of_ble_eq_true rfl) (Nat.le_of_ble_eq_true rfl) (by decide) ?_
  refine X.mono hX (fun o2 lay2 M2 hK => ?_)
  rcases hK with ⟨y, rfl, hy, ho, hk⟩ | ⟨rfl, hk⟩
  · refine Or.inl ⟨_, rfl, ?_⟩
    refine x_i2l (pc := 7) hy dL_truncateText_7 ?_
    refine x_last (pc := 8) dL_truncateText_8 ho hw (by decide) (by decide) (by obtain ⟨y1, y2⟩ := hy; exact ⟨by omega, by omega⟩) ?_
    refine x_goto (pc := 9) (t := 15) dL_truncateText_9 (by decide) ?_
    refine x_iconst (pc := 15) dL_truncateText_15 ?_
    exact x_iret (pc := 16) dL_truncateText_16 rfl (by decide) (by decide) hk
  · refine Or.inr ⟨_, 12, rfl, ?_, fun q => ?_⟩
    · exact Or.inl ⟨by decide, rfl, by decide, _, clL18, by decide⟩
    · refine x_astore_n (pc := 12) dL_truncateText_12 rfl (by decide) rfl ?_
      refine x_iconst (pc := 13) dL_truncateText_13 ?_
      exact x_iret (pc := 14) dL_truncateText_14 rfl (by decide) (by decide) hk
set_option maxRecDepth 100000 in
theorem sp_L_count {g : GG} {lay : Lay} {M : Mem} {K : KK} {b o : Nat} {p1 : Int} {rf : Nat → Option Nat} (hb : lay.1 b = some (0, 4, rf)) (hw : g.2.1 ≤ o) (hX : X g m_X4_count 0 0 lay M 0 [(0, vR b), (1, vI p1)] [] (fun o2 lay2 M2 => (∃ y, o2 = .inl (some (vI y)) ∧ i32 y ∧ lay2.1 o = some (2, 1, fun _ => none) ∧ K (.inl (some (vI 0))) lay2 (mset M2 o 0 y)) ∨ (o2 = eIA ∧ K (.inl (some (vI 1))) lay2 M2))) : X g m_L_count 0 0 lay M 0 [(0, vR b), (1, vI p1), (2, vR o)] [] K := by
  refine x_aload_n (pc := 0) dL_count_0 rfl rfl ?_
  refine x_iconst (pc := 1) dL_count_1 ?_
  refine x_aload_n (pc := 2) dL_count_2 rfl rfl ?_
  refine x_iload_n (pc := 3) dL_count_3 rfl rfl ?_
  refine x_callVX (pc := 4) [_] rfl kL_20 dL_count_4 hb rfl rfl (by decide) (Nat.le_of_ble_eq_true rfl) (Nat.le_of_ble_eq_true rfl) (by decide) ?_
  refine X.mono hX (fun o2 lay2 M2 hK => ?_)
  rcases hK with ⟨y, rfl, hy, ho, hk⟩ | ⟨rfl, hk⟩
  · refine Or.inl ⟨_, rfl, ?_⟩
    refine x_i2l (pc := 7) hy dL_count_7 ?_
    refine x_last (pc := 8) dL_count_8 ho hw (by decide) (by decide) (by obtain ⟨y1, y2⟩ := hy; exact ⟨by omega, by omega⟩) ?_
    refine x_goto (pc := 9) (t := 15) dL_count_9 (by decide) ?_
    refine x_iconst (pc := 15) dL_count_15 ?_
    exact x_iret (pc := 16) dL_count_16 rfl (by decide) (by decide) hk
  · refine Or.inr ⟨_, 12, rfl, ?_, fun q => ?_⟩
    · exact Or.inl ⟨by decide, rfl, by decide, _, clL18, by decide⟩
    · refine x_astore_n (pc := 12) dL_count_12 rfl (by decide) rfl ?_
      refine x_iconst (pc := 13) dL_count_13 ?_
      exact x_iret (pc := 14) dL_count_14 rfl (by decide) (by decide) hk
set_option maxRecDepth 100000 in
theorem sp_L_power {g : GG} {lay : Lay} {M : Mem} {K : KK} {b o : Nat} {p1 p2 : Int} {rf : Nat → Option Nat} (hb : lay.1 b = some (0, 4, rf)) (hw : g.2.1 ≤ o) (hX : X g m_X4_power 0 0 lay M 0 [(0, vR b), (1, vI p1), (2, vI p2)] [] (fun o2 lay2 M2 => (∃ y, o2 = .inl (some (vI y)) ∧ i32 y ∧ lay2.1 o = some (2, 1, fun _ => none) ∧ K (.inl (some (vI 0))) lay2 (mset M2 o 0 y)) ∨ (o2 = eIO ∧ K (.inl (some (vI 1))) lay2 M2) ∨ (o2 = eIA ∧ K (.inl (some (vI 2))) lay2 M2))) : X g m_L_power 0 0 lay M 0 [(0, vR b), (1, vI p1), (2, vI p2), (3, vR o)] [] K := by
  refine x_aload_n (pc := 0) dL_power_0 rfl rfl ?_
  refine x_iconst (pc := 1) dL_power_1 ?_
  refine x_aload_n (pc := 2) dL_power_2 rfl rfl ?_
  refine x_iload_n (pc := 3) dL_power_3 rfl rfl ?_
  refine x_iload_n (pc := 4) dL_power_4 rfl rfl ?_
  refine x_callVX (pc := 5) [_, _] rfl kL_23 dL_power_5 hb rfl rfl (by decide) (Nat.le_of_ble_eq_true rfl) (Nat.le_of_ble_eq_true rfl) (by decide) ?_
  refine X.mono hX (fun o2 lay2 M2 hK => ?_)
  rcases hK with ⟨y, rfl, hy, ho, hk⟩ | ⟨rfl, hk⟩ | ⟨rfl, hk⟩
  · refine Or.inl ⟨_, rfl, ?_⟩
    refine x_i2l (pc := 8) hy dL_power_8 ?_
    refine x_last (pc := 9) dL_power_9 ho hw (by decide) (by decide) (by obtain ⟨y1, y2⟩ := hy; exact ⟨by omega, by omega⟩) ?_
    refine x_goto (pc := 10) (t := 21) dL_power_10 (by decide) ?_
    refine x_iconst (pc := 21) dL_power_21 ?_
    exact x_iret (pc := 22) dL_power_22 rfl (by decide) (by decide) hk
  · refine Or.inr ⟨_, 13, rfl, ?_, fun q => ?_⟩
    · exact Or.inl ⟨by decide, rfl, by decide, _, clL27, by decide⟩
    · refine x_astore (pc := 13) dL_power_13 trivial (by decide) rfl ?_
      refine x_iconst (pc := 15) dL_power_15 ?_
      exact x_iret (pc := 16) dL_power_16 rfl (by decide) (by decide) hk
  · refine Or.inr ⟨_, 17, rfl, ?_, fun q => ?_⟩
    · exact Or.inr ⟨Or.inr ⟨by decide, _, clL27, by decide⟩, Or.inl ⟨by decide, rfl, by decide, _, clL18, by decide⟩⟩
    · refine x_astore (pc := 17) dL_power_17 trivial (by decide) rfl ?_
      refine x_iconst (pc := 19) dL_power_19 ?_
      exact x_iret (pc := 20) dL_power_20 rfl (by decide) (by decide) hk
set_option maxRecDepth 100000 in
theorem sp_L_claimOf {g : GG} {lay : Lay} {M : Mem} {K : KK} {b o : Nat} {p1 p2 p3 : Int} {rf : Nat → Option Nat} (hb : lay.1 b = some (0, 4, rf)) (hw : g.2.1 ≤ o) (hX : X g m_X4_claimOf 0 0 lay M 0 [(0, vR b), (1, vI p1), (2, vI p2), (3, vI p3)] [] (fun o2 lay2 M2 => (∃ y, o2 = .inl (some (vI y)) ∧ i32 y ∧ lay2.1 o = some (2, 1, fun _ => none) ∧ K (.inl (some (vI 0))) lay2 (mset M2 o 0 y)) ∨ (o2 = eIO ∧ K (.inl (some (vI 1))) lay2 M2) ∨ (o2 = eIA ∧ K (.inl (some (vI 2))) lay2 M2))) : X g m_L_claimOf 0 0 lay M 0 [(0, vR b), (1, vI p1), (2, vI p2), (3, vI p3), (4, vR o)] [] K := by
  refine x_aload (pc := 0) dL_claimOf_0 rfl ?_
  refine x_iconst (pc := 2) dL_claimOf_2 ?_
  refine x_aload_n (pc := 3) dL_claimOf_3 rfl rfl ?_
  refine x_iload_n (pc := 4) dL_claimOf_4 rfl rfl ?_
  refine x_iload_n (pc := 5) dL_claimOf_5 rfl rfl ?_
  refine x_iload_n (pc := 6) dL_claimOf_6 rfl rfl ?_
  refine x_callVX (pc := 7) [_, _, _] rfl kL_29 dL_claimOf_7 hb rfl rfl (by decide) (Nat.le_of_ble_eq_true rfl) (Nat.le_of_ble_eq_true rfl) (by decide) ?_
  refine X.mono hX (fun o2 lay2 M2 hK => ?_)
  rcases hK with ⟨y, rfl, hy, ho, hk⟩ | ⟨rfl, hk⟩ | ⟨rfl, hk⟩
  · refine Or.inl ⟨_, rfl, ?_⟩
    refine x_i2l (pc := 10) hy dL_claimOf_10 ?_
    refine x_last (pc := 11) dL_claimOf_11 ho hw (by decide) (by decide) (by obtain ⟨y1, y2⟩ := hy; exact ⟨by omega, by omega⟩) ?_
    refine x_goto (pc := 12) (t := 23) dL_claimOf_12 (by decide) ?_
    refine x_iconst (pc := 23) dL_claimOf_23 ?_
    exact x_iret (pc := 24) dL_claimOf_24 rfl (by decide) (by decide) hk
  · refine Or.inr ⟨_, 15, rfl, ?_, fun q => ?_⟩
    · exact Or.inl ⟨by decide, rfl, by decide, _, clL27, by decide⟩
    · refine x_astore (pc := 15) dL_claimOf_15 trivial (by decide) rfl ?_
      refine x_iconst (pc := 17) dL_claimOf_17 ?_
      exact x_iret (pc := 18) dL_claimOf_18 rfl (by decide) (by decide) hk
  · refine Or.inr ⟨_, 19, rfl, ?_, fun q => ?_⟩
    · exact Or.inr ⟨Or.inr ⟨by decide, _, clL27, by decide⟩, Or.inl ⟨by decide, rfl, by decide, _, clL18, by decide⟩⟩
    · refine x_astore (pc := 19) dL_claimOf_19 trivial (by decide) rfl ?_
      refine x_iconst (pc := 21) dL_claimOf_21 ?_
      exact x_iret (pc := 22) dL_claimOf_22 rfl (by decide) (by decide) hk
set_option maxRecDepth 100000 in
theorem sp_L_player {g : GG} {lay : Lay} {M : Mem} {K : KK} {b o : Nat} {p1 p2 : Int} {rf : Nat → Option Nat} (hb : lay.1 b = some (0, 4, rf)) (hw : g.2.1 ≤ o) (hX : X g m_X4_player 0 0 lay M 0 [(0, vR b), (1, vI p1), (2, vI p2)] [] (fun o2 lay2 M2 => (∃ y, o2 = .inl (some (vI y)) ∧ i32 y ∧ lay2.1 o = some (2, 1, fun _ => none) ∧ K (.inl (some (vI 0))) lay2 (mset M2 o 0 y)) ∨ (o2 = eIO ∧ K (.inl (some (vI 1))) lay2 M2) ∨ (o2 = eIA ∧ K (.inl (some (vI 2))) lay2 M2))) : X g m_L_player 0 0 lay M 0 [(0, vR b), (1, vI p1), (2, vI p2), (3, vR o)] [] K := by
  refine x_aload_n (pc := 0) dL_player_0 rfl rfl ?_
  refine x_iconst (pc := 1) dL_player_1 ?_
  refine x_aload_n (pc := 2) dL_player_2 rfl rfl ?_
  refine x_iload_n (pc := 3) dL_player_3 rfl rfl ?_
  refine x_iload_n (pc := 4) dL_player_4 rfl rfl ?_
  refine x_callVX (pc := 5) [_, _] rfl kL_33 dL_player_5 hb rfl rfl (by decide) (Nat.le_of_ble_eq_true rfl) (Nat.le_of_ble_eq_true rfl) (by decide) ?_
  refine X.mono hX (fun o2 lay2 M2 hK => ?_)
  rcases hK with ⟨y, rfl, hy, ho, hk⟩ | ⟨rfl, hk⟩ | ⟨rfl, hk⟩
  · refine Or.inl ⟨_, rfl, ?_⟩
    refine x_i2l (pc := 8) hy dL_player_8 ?_
    refine x_last (pc := 9) dL_player_9 ho hw (by decide) (by decide) (by obtain ⟨y1, y2⟩ := hy; exact ⟨by omega, by omega⟩) ?_
    refine x_goto (pc := 10) (t := 21) dL_player_10 (by decide) ?_
    refine x_iconst (pc := 21) dL_player_21 ?_
    exact x_iret (pc := 22) dL_player_22 rfl (by decide) (by decide) hk
  · refine Or.inr ⟨_, 13, rfl, ?_, fun q => ?_⟩
    · exact Or.inl ⟨by decide, rfl, by decide, _, clL27, by decide⟩
    · refine x_astore (pc := 13) dL_player_13 trivial (by decide) rfl ?_
      refine x_iconst (pc := 15) dL_player_15 ?_
      exact x_iret (pc := 16) dL_player_16 rfl (by decide) (by decide) hk
  · refine Or.inr ⟨_, 17, rfl, ?_, fun q => ?_⟩
    · exact Or.inr ⟨Or.inr ⟨by decide, _, clL27, by decide⟩, Or.inl ⟨by decide, rfl, by decide, _, clL18, by decide⟩⟩
    · refine x_astore (pc := 17) dL_player_17 trivial (by decide) rfl ?_
      refine x_iconst (pc := 19) dL_player_19 ?_
      exact x_iret (pc := 20) dL_player_20 rfl (by decide) (by decide) hk
set_option maxRecDepth 100000 in
theorem sp_L_account {g : GG} {lay : Lay} {M : Mem} {K : KK} {b o : Nat} {p1 : Int} {rf : Nat → Option Nat} (hb : lay.1 b = some (0, 4, rf)) (hw : g.2.1 ≤ o) (hX : X g m_X4_account 0 0 lay M 0 [(0, vR b), (1, vI p1)] [] (fun o2 lay2 M2 => (∃ y, o2 = .inl (some (vI y)) ∧ i32 y ∧ lay2.1 o = some (2, 1, fun _ => none) ∧ K (.inl (some (vI 0))) lay2 (mset M2 o 0 y)) ∨ (o2 = eIA ∧ K (.inl (some (vI 1))) lay2 M2))) : X g m_L_account 0 0 lay M 0 [(0, vR b), (1, vI p1), (2, vR o)] [] K := by
  refine x_aload_n (pc := 0) dL_account_0 rfl rfl ?_
  refine x_iconst (pc := 1) dL_account_1 ?_
  refine x_aload_n (pc := 2) dL_account_2 rfl rfl ?_
  refine x_iload_n (pc := 3) dL_account_3 rfl rfl ?_
  refine x_callVX (pc := 4) [_] rfl kL_36 dL_account_4 hb rfl rfl (by decide) (Nat.le_of_ble_eq_true rfl) (Nat.le_of_ble_eq_true rfl) (by decide) ?_
  refine X.mono hX (fun o2 lay2 M2 hK => ?_)
  rcases hK with ⟨y, rfl, hy, ho, hk⟩ | ⟨rfl, hk⟩
  · refine Or.inl ⟨_, rfl, ?_⟩
    refine x_i2l (pc := 7) hy dL_account_7 ?_
    refine x_last (pc := 8) dL_account_8 ho hw (by decide) (by decide) (by obtain ⟨y1, y2⟩ := hy; exact ⟨by omega, by omega⟩) ?_
    refine x_goto (pc := 9) (t := 15) dL_account_9 (by decide) ?_
    refine x_iconst (pc := 15) dL_account_15 ?_
    exact x_iret (pc := 16) dL_account_16 rfl (by decide) (by decide) hk
  · refine Or.inr ⟨_, 12, rfl, ?_, fun q => ?_⟩
    · exact Or.inl ⟨by decide, rfl, by decide, _, clL18, by decide⟩
    · refine x_astore_n (pc := 12) dL_account_12 rfl (by decide) rfl ?_
      refine x_iconst (pc := 13) dL_account_13 ?_
      exact x_iret (pc := 14) dL_account_14 rfl (by decide) (by decide) hk
set_option maxRecDepth 100000 in
theorem sp_L_claim {g : GG} {lay : Lay} {M : Mem} {K : KK} {b o : Nat} {p1 p2 p3 p4 p5 : Int} {rf : Nat → Option Nat} (hb : lay.1 b = some (0, 4, rf)) (hw : g.2.1 ≤ o) (hX : X g m_X4_claim 0 0 lay M 0 [(0, vR b), (1, vI p1), (2, vI p2), (3, vI p3), (4, vI p4), (5, vI p5)] [] (fun o2 lay2 M2 => (∃ y, o2 = .inl (some (vI y)) ∧ i32 y ∧ lay2.1 o = some (2, 1, fun _ => none) ∧ K (.inl (some (vI 0))) lay2 (mset M2 o 0 y)) ∨ (o2 = eIA ∧ K (.inl (some (vI 1))) lay2 M2))) : X g m_L_claim 0 0 lay M 0 [(0, vR b), (1, vI p1), (2, vI p2), (3, vI p3), (4, vI p4), (5, vI p5), (6, vR o)] [] K := by
  refine x_aload (pc := 0) dL_claim_0 rfl ?_
  refine x_iconst (pc := 2) dL_claim_2 ?_
  refine x_aload_n (pc := 3) dL_claim_3 rfl rfl ?_
  refine x_iload_n (pc := 4) dL_claim_4 rfl rfl ?_
  refine x_iload_n (pc := 5) dL_claim_5 rfl rfl ?_
  refine x_iload_n (pc := 6) dL_claim_6 rfl rfl ?_
  refine x_iload (pc := 7) dL_claim_7 rfl ?_
  refine x_iload (pc := 9) dL_claim_9 rfl ?_
  refine x_callVX (pc := 11) [_, _, _, _, _] rfl kL_39 dL_claim_11 hb rfl rfl (by decide) (Nat.le_of_ble_eq_true rfl) (Nat.le_of_ble_eq_true rfl) (by decide) ?_
  refine X.mono hX (fun o2 lay2 M2 hK => ?_)
  rcases hK with ⟨y, rfl, hy, ho, hk⟩ | ⟨rfl, hk⟩
  · refine Or.inl ⟨_, rfl, ?_⟩
    refine x_i2l (pc := 14) hy dL_claim_14 ?_
    refine x_last (pc := 15) dL_claim_15 ho hw (by decide) (by decide) (by obtain ⟨y1, y2⟩ := hy; exact ⟨by omega, by omega⟩) ?_
    refine x_goto (pc := 16) (t := 23) dL_claim_16 (by decide) ?_
    refine x_iconst (pc := 23) dL_claim_23 ?_
    exact x_iret (pc := 24) dL_claim_24 rfl (by decide) (by decide) hk
  · refine Or.inr ⟨_, 19, rfl, ?_, fun q => ?_⟩
    · exact Or.inl ⟨by decide, rfl, by decide, _, clL18, by decide⟩
    · refine x_astore (pc := 19) dL_claim_19 trivial (by decide) rfl ?_
      refine x_iconst (pc := 21) dL_claim_21 ?_
      exact x_iret (pc := 22) dL_claim_22 rfl (by decide) (by decide) hk
set_option maxRecDepth 100000 in
theorem sp_L_lay {g : GG} {lay : Lay} {M : Mem} {K : KK} {b o : Nat} {p1 p2 : Int} {rf : Nat → Option Nat} (hb : lay.1 b = some (0, 4, rf)) (hw : g.2.1 ≤ o) (hX : X g m_X4_lay 0 0 lay M 0 [(0, vR b), (1, vI p1), (2, vI p2)] [] (fun o2 lay2 M2 => (∃ y, o2 = .inl (some (vI y)) ∧ i32 y ∧ lay2.1 o = some (2, 1, fun _ => none) ∧ K (.inl (some (vI 0))) lay2 (mset M2 o 0 y)) ∨ (o2 = eIO ∧ K (.inl (some (vI 1))) lay2 M2) ∨ (o2 = eIA ∧ K (.inl (some (vI 2))) lay2 M2))) : X g m_L_lay 0 0 lay M 0 [(0, vR b), (1, vI p1), (2, vI p2), (3, vR o)] [] K := by
  refine x_aload_n (pc := 0) dL_lay_0 rfl rfl ?_
  refine x_iconst (pc := 1) dL_lay_1 ?_
  refine x_aload_n (pc := 2) dL_lay_2 rfl rfl ?_
  refine x_iload_n (pc := 3) dL_lay_3 rfl rfl ?_
  refine x_iload_n (pc := 4) dL_lay_4 rfl rfl ?_
  refine x_callVX (pc := 5) [_, _] rfl kL_43 dL_lay_5 hb rfl rfl (by decide) (Nat.le_of_ble_eq_true rfl) (Nat.le_of_ble_eq_true rfl) (by decide) ?_
  refine X.mono hX (fun o2 lay2 M2 hK => ?_)
  rcases hK with ⟨y, rfl, hy, ho, hk⟩ | ⟨rfl, hk⟩ | ⟨rfl, hk⟩
  · refine Or.inl ⟨_, rfl, ?_⟩
    refine x_i2l (pc := 8) hy dL_lay_8 ?_
    refine x_last (pc := 9) dL_lay_9 ho hw (by decide) (by decide) (by obtain ⟨y1, y2⟩ := hy; exact ⟨by omega, by omega⟩) ?_
    refine x_goto (pc := 10) (t := 21) dL_lay_10 (by decide) ?_
    refine x_iconst (pc := 21) dL_lay_21 ?_
    exact x_iret (pc := 22) dL_lay_22 rfl (by decide) (by decide) hk
  · refine Or.inr ⟨_, 13, rfl, ?_, fun q => ?_⟩
    · exact Or.inl ⟨by decide, rfl, by decide, _, clL27, by decide⟩
    · refine x_astore (pc := 13) dL_lay_13 trivial (by decide) rfl ?_
      refine x_iconst (pc := 15) dL_lay_15 ?_
      exact x_iret (pc := 16) dL_lay_16 rfl (by decide) (by decide) hk
  · refine Or.inr ⟨_, 17, rfl, ?_, fun q => ?_⟩
    · exact Or.inr ⟨Or.inr ⟨by decide, _, clL27, by decide⟩, Or.inl ⟨by decide, rfl, by decide, _, clL18, by decide⟩⟩
    · refine x_astore (pc := 17) dL_lay_17 trivial (by decide) rfl ?_
      refine x_iconst (pc := 19) dL_lay_19 ?_
      exact x_iret (pc := 20) dL_lay_20 rfl (by decide) (by decide) hk
set_option maxRecDepth 100000 in
theorem sp_L_why {g : GG} {lay : Lay} {M : Mem} {K : KK} {b o : Nat} {p1 p2 : Int} {rf : Nat → Option Nat} (hb : lay.1 b = some (0, 4, rf)) (hw : g.2.1 ≤ o) (hX : X g m_X4_why 0 0 lay M 0 [(0, vR b), (1, vI p1), (2, vI p2)] [] (fun o2 lay2 M2 => (∃ y, o2 = .inl (some (vI y)) ∧ i32 y ∧ lay2.1 o = some (2, 1, fun _ => none) ∧ K (.inl (some (vI 0))) lay2 (mset M2 o 0 y)) ∨ (o2 = eIO ∧ K (.inl (some (vI 1))) lay2 M2) ∨ (o2 = eIA ∧ K (.inl (some (vI 2))) lay2 M2))) : X g m_L_why 0 0 lay M 0 [(0, vR b), (1, vI p1), (2, vI p2), (3, vR o)] [] K := by
  refine x_aload_n (pc := 0) dL_why_0 rfl rfl ?_
  refine x_iconst (pc := 1) dL_why_1 ?_
  refine x_aload_n (pc := 2) dL_why_2 rfl rfl ?_
  refine x_iload_n (pc := 3) dL_why_3 rfl rfl ?_
  refine x_iload_n (pc := 4) dL_why_4 rfl rfl ?_
  refine x_callVX (pc := 5) [_, _] rfl kL_46 dL_why_5 hb rfl rfl (by decide) (Nat.le_of_ble_eq_true rfl) (Nat.le_of_ble_eq_true rfl) (by decide) ?_
  refine X.mono hX (fun o2 lay2 M2 hK => ?_)
  rcases hK with ⟨y, rfl, hy, ho, hk⟩ | ⟨rfl, hk⟩ | ⟨rfl, hk⟩
  · refine Or.inl ⟨_, rfl, ?_⟩
    refine x_i2l (pc := 8) hy dL_why_8 ?_
    refine x_last (pc := 9) dL_why_9 ho hw (by decide) (by decide) (by obtain ⟨y1, y2⟩ := hy; exact ⟨by omega, by omega⟩) ?_
    refine x_goto (pc := 10) (t := 21) dL_why_10 (by decide) ?_
    refine x_iconst (pc := 21) dL_why_21 ?_
    exact x_iret (pc := 22) dL_why_22 rfl (by decide) (by decide) hk
  · refine Or.inr ⟨_, 13, rfl, ?_, fun q => ?_⟩
    · exact Or.inl ⟨by decide, rfl, by decide, _, clL27, by decide⟩
    · refine x_astore (pc := 13) dL_why_13 trivial (by decide) rfl ?_
      refine x_iconst (pc := 15) dL_why_15 ?_
      exact x_iret (pc := 16) dL_why_16 rfl (by decide) (by decide) hk
  · refine Or.inr ⟨_, 17, rfl, ?_, fun q => ?_⟩
    · exact Or.inr ⟨Or.inr ⟨by decide, _, clL27, by decide⟩, Or.inl ⟨by decide, rfl, by decide, _, clL18, by decide⟩⟩
    · refine x_astore (pc := 17) dL_why_17 trivial (by decide) rfl ?_
      refine x_iconst (pc := 19) dL_why_19 ?_
      exact x_iret (pc := 20) dL_why_20 rfl (by decide) (by decide) hk
set_option maxRecDepth 100000 in
theorem sp_L_behind {g : GG} {lay : Lay} {M : Mem} {K : KK} {b o : Nat} {p1 p2 p3 : Int} {rf : Nat → Option Nat} (hb : lay.1 b = some (0, 4, rf)) (hw : g.2.1 ≤ o) (hX : X g m_X4_behind 0 0 lay M 0 [(0, vR b), (1, vI p1), (2, vI p2), (3, vI p3)] [] (fun o2 lay2 M2 => (∃ y, o2 = .inl (some (vI y)) ∧ i32 y ∧ lay2.1 o = some (2, 1, fun _ => none) ∧ K (.inl (some (vI 0))) lay2 (mset M2 o 0 y)) ∨ (o2 = eIO ∧ K (.inl (some (vI 1))) lay2 M2) ∨ (o2 = eIA ∧ K (.inl (some (vI 2))) lay2 M2) ∨ (o2 = eIS ∧ K (.inl (some (vI 3))) lay2 M2))) : X g m_L_behind 0 0 lay M 0 [(0, vR b), (1, vI p1), (2, vI p2), (3, vI p3), (4, vR o)] [] K := by
  refine x_aload (pc := 0) dL_behind_0 rfl ?_
  refine x_iconst (pc := 2) dL_behind_2 ?_
  refine x_aload_n (pc := 3) dL_behind_3 rfl rfl ?_
  refine x_iload_n (pc := 4) dL_behind_4 rfl rfl ?_
  refine x_iload_n (pc := 5) dL_behind_5 rfl rfl ?_
  refine x_iload_n (pc := 6) dL_behind_6 rfl rfl ?_
  refine x_callVX (pc := 7) [_, _, _] rfl kL_49 dL_behind_7 hb rfl rfl (by decide) (Nat.le_of_ble_eq_true rfl) (Nat.le_of_ble_eq_true rfl) (by decide) ?_
  refine X.mono hX (fun o2 lay2 M2 hK => ?_)
  rcases hK with ⟨y, rfl, hy, ho, hk⟩ | ⟨rfl, hk⟩ | ⟨rfl, hk⟩ | ⟨rfl, hk⟩
  · refine Or.inl ⟨_, rfl, ?_⟩
    refine x_i2l (pc := 10) hy dL_behind_10 ?_
    refine x_last (pc := 11) dL_behind_11 ho hw (by decide) (by decide) (by obtain ⟨y1, y2⟩ := hy; exact ⟨by omega, by omega⟩) ?_
    refine x_goto (pc := 12) (t := 27) dL_behind_12 (by decide) ?_
    refine x_iconst (pc := 27) dL_behind_27 ?_
    exact x_iret (pc := 28) dL_behind_28 rfl (by decide) (by decide) hk
  · refine Or.inr ⟨_, 15, rfl, ?_, fun q => ?_⟩
    · exact Or.inl ⟨by decide, rfl, by decide, _, clL27, by decide⟩
    · refine x_astore (pc := 15) dL_behind_15 trivial (by decide) rfl ?_
      refine x_iconst (pc := 17) dL_behind_17 ?_
      exact x_iret (pc := 18) dL_behind_18 rfl (by decide) (by decide) hk
  · refine Or.inr ⟨_, 19, rfl, ?_, fun q => ?_⟩
    · exact Or.inr ⟨Or.inr ⟨by decide, _, clL27, by decide⟩, Or.inl ⟨by decide, rfl, by decide, _, clL18, by decide⟩⟩
    · refine x_astore (pc := 19) dL_behind_19 trivial (by decide) rfl ?_
      refine x_iconst (pc := 21) dL_behind_21 ?_
      exact x_iret (pc := 22) dL_behind_22 rfl (by decide) (by decide) hk
  · refine Or.inr ⟨_, 23, rfl, ?_, fun q => ?_⟩
    · exact Or.inr ⟨Or.inr ⟨by decide, _, clL27, by decide⟩, Or.inr ⟨Or.inr ⟨by decide, _, clL18, by decide⟩, Or.inl ⟨by decide, rfl, by decide, _, clL13, by decide⟩⟩⟩
    · refine x_astore (pc := 23) dL_behind_23 trivial (by decide) rfl ?_
      refine x_iconst (pc := 25) dL_behind_25 ?_
      exact x_iret (pc := 26) dL_behind_26 rfl (by decide) (by decide) hk
set_option maxRecDepth 100000 in
theorem sp_L_value {g : GG} {lay : Lay} {M : Mem} {K : KK} {b o : Nat} {p1 : Int} {rf : Nat → Option Nat} (hb : lay.1 b = some (0, 4, rf)) (hw : g.2.1 ≤ o) (hX : X g m_X4_value 0 0 lay M 0 [(0, vR b), (1, vI p1)] [] (fun o2 lay2 M2 => (∃ y, o2 = .inl (some (vJ y)) ∧ i64 y ∧ lay2.1 o = some (2, 1, fun _ => none) ∧ K (.inl (some (vI 0))) lay2 (mset M2 o 0 y)) ∨ (o2 = eIA ∧ K (.inl (some (vI 1))) lay2 M2))) : X g m_L_value 0 0 lay M 0 [(0, vR b), (1, vI p1), (2, vR o)] [] K := by
  refine x_aload_n (pc := 0) dL_value_0 rfl rfl ?_
  refine x_iconst (pc := 1) dL_value_1 ?_
  refine x_aload_n (pc := 2) dL_value_2 rfl rfl ?_
  refine x_iload_n (pc := 3) dL_value_3 rfl rfl ?_
  refine x_callVX (pc := 4) [_] rfl kL_52 dL_value_4 hb rfl rfl (by decide) (Nat.le_of_ble_eq_true rfl) (Nat.le_of_ble_eq_true rfl) (by decide) ?_
  refine X.mono hX (fun o2 lay2 M2 hK => ?_)
  rcases hK with ⟨y, rfl, hy, ho, hk⟩ | ⟨rfl, hk⟩
  · refine Or.inl ⟨_, rfl, ?_⟩
    refine x_last (pc := 7) dL_value_7 ho hw (by decide) (by decide) hy ?_
    refine x_goto (pc := 8) (t := 14) dL_value_8 (by decide) ?_
    refine x_iconst (pc := 14) dL_value_14 ?_
    exact x_iret (pc := 15) dL_value_15 rfl (by decide) (by decide) hk
  · refine Or.inr ⟨_, 11, rfl, ?_, fun q => ?_⟩
    · exact Or.inl ⟨by decide, rfl, by decide, _, clL18, by decide⟩
    · refine x_astore_n (pc := 11) dL_value_11 rfl (by decide) rfl ?_
      refine x_iconst (pc := 12) dL_value_12 ?_
      exact x_iret (pc := 13) dL_value_13 rfl (by decide) (by decide) hk
set_option maxRecDepth 100000 in
theorem sp_L_roots {g : GG} {lay : Lay} {M : Mem} {K : KK} {b o : Nat} {p1 p2 : Int} {rf : Nat → Option Nat} (hb : lay.1 b = some (0, 4, rf)) (hw : g.2.1 ≤ o) (hX : X g m_X4_roots 0 0 lay M 0 [(0, vR b), (1, vI p1), (2, vI p2)] [] (fun o2 lay2 M2 => (∃ y, o2 = .inl (some (vI y)) ∧ i32 y ∧ lay2.1 o = some (2, 1, fun _ => none) ∧ K (.inl (some (vI 0))) lay2 (mset M2 o 0 y)) ∨ (o2 = eIA ∧ K (.inl (some (vI 1))) lay2 M2))) : X g m_L_roots 0 0 lay M 0 [(0, vR b), (1, vI p1), (2, vI p2), (3, vR o)] [] K := by
  refine x_aload_n (pc := 0) dL_roots_0 rfl rfl ?_
  refine x_iconst (pc := 1) dL_roots_1 ?_
  refine x_aload_n (pc := 2) dL_roots_2 rfl rfl ?_
  refine x_iload_n (pc := 3) dL_roots_3 rfl rfl ?_
  refine x_iload_n (pc := 4) dL_roots_4 rfl rfl ?_
  refine x_callVX (pc := 5) [_, _] rfl kL_56 dL_roots_5 hb rfl rfl (by decide) (Nat.le_of_ble_eq_true rfl) (Nat.le_of_ble_eq_true rfl) (by decide) ?_
  refine X.mono hX (fun o2 lay2 M2 hK => ?_)
  rcases hK with ⟨y, rfl, hy, ho, hk⟩ | ⟨rfl, hk⟩
  · refine Or.inl ⟨_, rfl, ?_⟩
    refine x_i2l (pc := 8) hy dL_roots_8 ?_
    refine x_last (pc := 9) dL_roots_9 ho hw (by decide) (by decide) (by obtain ⟨y1, y2⟩ := hy; exact ⟨by omega, by omega⟩) ?_
    refine x_goto (pc := 10) (t := 17) dL_roots_10 (by decide) ?_
    refine x_iconst (pc := 17) dL_roots_17 ?_
    exact x_iret (pc := 18) dL_roots_18 rfl (by decide) (by decide) hk
  · refine Or.inr ⟨_, 13, rfl, ?_, fun q => ?_⟩
    · exact Or.inl ⟨by decide, rfl, by decide, _, clL18, by decide⟩
    · refine x_astore (pc := 13) dL_roots_13 trivial (by decide) rfl ?_
      refine x_iconst (pc := 15) dL_roots_15 ?_
      exact x_iret (pc := 16) dL_roots_16 rfl (by decide) (by decide) hk
set_option maxRecDepth 100000 in
theorem sp_L_rootsOfSign {g : GG} {lay : Lay} {M : Mem} {K : KK} {b o : Nat} {p1 : Int} {rf : Nat → Option Nat} (hb : lay.1 b = some (0, 4, rf)) (hw : g.2.1 ≤ o) (hX : X g m_X4_rootsOfSign 0 0 lay M 0 [(0, vR b), (1, vI p1)] [] (fun o2 lay2 M2 => (∃ y, o2 = .inl (some (vI y)) ∧ i32 y ∧ lay2.1 o = some (2, 1, fun _ => none) ∧ K (.inl (some (vI 0))) lay2 (mset M2 o 0 y)) ∨ (o2 = eIA ∧ K (.inl (some (vI 1))) lay2 M2))) : X g m_L_rootsOfSign 0 0 lay M 0 [(0, vR b), (1, vI p1), (2, vR o)] [] K := by
  refine x_aload_n (pc := 0) dL_rootsOfSign_0 rfl rfl ?_
  refine x_iconst (pc := 1) dL_rootsOfSign_1 ?_
  refine x_aload_n (pc := 2) dL_rootsOfSign_2 rfl rfl ?_
  refine x_iload_n (pc := 3) dL_rootsOfSign_3 rfl rfl ?_
  refine x_callVX (pc := 4) [_] rfl kL_59 dL_rootsOfSign_4 hb rfl rfl (by decide) (Nat.le_of_ble_eq_true rfl) (Nat.le_of_ble_eq_true rfl) (by decide) ?_
  refine X.mono hX (fun o2 lay2 M2 hK => ?_)
  rcases hK with ⟨y, rfl, hy, ho, hk⟩ | ⟨rfl, hk⟩
  · refine Or.inl ⟨_, rfl, ?_⟩
    refine x_i2l (pc := 7) hy dL_rootsOfSign_7 ?_
    refine x_last (pc := 8) dL_rootsOfSign_8 ho hw (by decide) (by decide) (by obtain ⟨y1, y2⟩ := hy; exact ⟨by omega, by omega⟩) ?_
    refine x_goto (pc := 9) (t := 15) dL_rootsOfSign_9 (by decide) ?_
    refine x_iconst (pc := 15) dL_rootsOfSign_15 ?_
    exact x_iret (pc := 16) dL_rootsOfSign_16 rfl (by decide) (by decide) hk
  · refine Or.inr ⟨_, 12, rfl, ?_, fun q => ?_⟩
    · exact Or.inl ⟨by decide, rfl, by decide, _, clL18, by decide⟩
    · refine x_astore_n (pc := 12) dL_rootsOfSign_12 rfl (by decide) rfl ?_
      refine x_iconst (pc := 13) dL_rootsOfSign_13 ?_
      exact x_iret (pc := 14) dL_rootsOfSign_14 rfl (by decide) (by decide) hk
set_option maxRecDepth 100000 in
theorem sp_L_multiplicity {g : GG} {lay : Lay} {M : Mem} {K : KK} {b o : Nat} {p1 : Int} {rf : Nat → Option Nat} (hb : lay.1 b = some (0, 4, rf)) (hw : g.2.1 ≤ o) (hX : X g m_X4_multiplicity 0 0 lay M 0 [(0, vR b), (1, vI p1)] [] (fun o2 lay2 M2 => (∃ y, o2 = .inl (some (vI y)) ∧ i32 y ∧ lay2.1 o = some (2, 1, fun _ => none) ∧ K (.inl (some (vI 0))) lay2 (mset M2 o 0 y)) ∨ (o2 = eIA ∧ K (.inl (some (vI 1))) lay2 M2))) : X g m_L_multiplicity 0 0 lay M 0 [(0, vR b), (1, vI p1), (2, vR o)] [] K := by
  refine x_aload_n (pc := 0) dL_multiplicity_0 rfl rfl ?_
  refine x_iconst (pc := 1) dL_multiplicity_1 ?_
  refine x_aload_n (pc := 2) dL_multiplicity_2 rfl rfl ?_
  refine x_iload_n (pc := 3) dL_multiplicity_3 rfl rfl ?_
  refine x_callVX (pc := 4) [_] rfl kL_62 dL_multiplicity_4 hb rfl rfl (by decide) (Nat.le_of_ble_eq_true rfl) (Nat.le_of_ble_eq_true rfl) (by decide) ?_
  refine X.mono hX (fun o2 lay2 M2 hK => ?_)
  rcases hK with ⟨y, rfl, hy, ho, hk⟩ | ⟨rfl, hk⟩
  · refine Or.inl ⟨_, rfl, ?_⟩
    refine x_i2l (pc := 7) hy dL_multiplicity_7 ?_
    refine x_last (pc := 8) dL_multiplicity_8 ho hw (by decide) (by decide) (by obtain ⟨y1, y2⟩ := hy; exact ⟨by omega, by omega⟩) ?_
    refine x_goto (pc := 9) (t := 15) dL_multiplicity_9 (by decide) ?_
    refine x_iconst (pc := 15) dL_multiplicity_15 ?_
    exact x_iret (pc := 16) dL_multiplicity_16 rfl (by decide) (by decide) hk
  · refine Or.inr ⟨_, 12, rfl, ?_, fun q => ?_⟩
    · exact Or.inl ⟨by decide, rfl, by decide, _, clL18, by decide⟩
    · refine x_astore_n (pc := 12) dL_multiplicity_12 rfl (by decide) rfl ?_
      refine x_iconst (pc := 13) dL_multiplicity_13 ?_
      exact x_iret (pc := 14) dL_multiplicity_14 rfl (by decide) (by decide) hk
set_option maxRecDepth 100000 in
theorem sp_L_near {g : GG} {lay : Lay} {M : Mem} {K : KK} {b o : Nat} {p1 p2 : Int} {rf : Nat → Option Nat} (hb : lay.1 b = some (0, 4, rf)) (hw : g.2.1 ≤ o) (hX : X g m_X4_near 0 0 lay M 0 [(0, vR b), (1, vI p1), (2, vI p2)] [] (fun o2 lay2 M2 => (∃ y, o2 = .inl (some (vI y)) ∧ i32 y ∧ lay2.1 o = some (2, 1, fun _ => none) ∧ K (.inl (some (vI 0))) lay2 (mset M2 o 0 y)) ∨ (o2 = eIO ∧ K (.inl (some (vI 1))) lay2 M2) ∨ (o2 = eIA ∧ K (.inl (some (vI 2))) lay2 M2))) : X g m_L_near 0 0 lay M 0 [(0, vR b), (1, vI p1), (2, vI p2), (3, vR o)] [] K := by
  refine x_aload_n (pc := 0) dL_near_0 rfl rfl ?_
  refine x_iconst (pc := 1) dL_near_1 ?_
  refine x_aload_n (pc := 2) dL_near_2 rfl rfl ?_
  refine x_iload_n (pc := 3) dL_near_3 rfl rfl ?_
  refine x_iload_n (pc := 4) dL_near_4 rfl rfl ?_
  refine x_callVX (pc := 5) [_, _] rfl kL_65 dL_near_5 hb rfl rfl (by decide) (Nat.le_of_ble_eq_true rfl) (Nat.le_of_ble_eq_true rfl) (by decide) ?_
  refine X.mono hX (fun o2 lay2 M2 hK => ?_)
  rcases hK with ⟨y, rfl, hy, ho, hk⟩ | ⟨rfl, hk⟩ | ⟨rfl, hk⟩
  · refine Or.inl ⟨_, rfl, ?_⟩
    refine x_i2l (pc := 8) hy dL_near_8 ?_
    refine x_last (pc := 9) dL_near_9 ho hw (by decide) (by decide) (by obtain ⟨y1, y2⟩ := hy; exact ⟨by omega, by omega⟩) ?_
    refine x_goto (pc := 10) (t := 21) dL_near_10 (by decide) ?_
    refine x_iconst (pc := 21) dL_near_21 ?_
    exact x_iret (pc := 22) dL_near_22 rfl (by decide) (by decide) hk
  · refine Or.inr ⟨_, 13, rfl, ?_, fun q => ?_⟩
    · exact Or.inl ⟨by decide, rfl, by decide, _, clL27, by decide⟩
    · refine x_astore (pc := 13) dL_near_13 trivial (by decide) rfl ?_
      refine x_iconst (pc := 15) dL_near_15 ?_
      exact x_iret (pc := 16) dL_near_16 rfl (by decide) (by decide) hk
  · refine Or.inr ⟨_, 17, rfl, ?_, fun q => ?_⟩
    · exact Or.inr ⟨Or.inr ⟨by decide, _, clL27, by decide⟩, Or.inl ⟨by decide, rfl, by decide, _, clL18, by decide⟩⟩
    · refine x_astore (pc := 17) dL_near_17 trivial (by decide) rfl ?_
      refine x_iconst (pc := 19) dL_near_19 ?_
      exact x_iret (pc := 20) dL_near_20 rfl (by decide) (by decide) hk
set_option maxRecDepth 100000 in
theorem sp_L_root {g : GG} {lay : Lay} {M : Mem} {K : KK} {b o : Nat} {p1 : Int} {rf : Nat → Option Nat} (hb : lay.1 b = some (0, 4, rf)) (hw : g.2.1 ≤ o) (hX : X g m_X4_root 0 0 lay M 0 [(0, vR b), (1, vI p1)] [] (fun o2 lay2 M2 => (∃ y : UInt64, o2 = .inl (some (vD y)) ∧ lay2.1 o = some (5, 1, fun _ => none) ∧ K (.inl (some (vI 0))) lay2 (mset M2 o 0 (y.toNat : Int))) ∨ (o2 = eIO ∧ K (.inl (some (vI 1))) lay2 M2))) : X g m_L_root 0 0 lay M 0 [(0, vR b), (1, vI p1), (2, vR o)] [] K := by
  refine x_aload_n (pc := 0) dL_root_0 rfl rfl ?_
  refine x_iconst (pc := 1) dL_root_1 ?_
  refine x_aload_n (pc := 2) dL_root_2 rfl rfl ?_
  refine x_iload_n (pc := 3) dL_root_3 rfl rfl ?_
  refine x_callVX (pc := 4) [_] rfl kL_68 dL_root_4 hb rfl rfl (by decide) (Nat.le_of_ble_eq_true rfl) (Nat.le_of_ble_eq_true rfl) (by decide) ?_
  refine X.mono hX (fun o2 lay2 M2 hK => ?_)
  rcases hK with ⟨y, rfl, ho, hk⟩ | ⟨rfl, hk⟩
  · refine Or.inl ⟨_, rfl, ?_⟩
    refine x_dast (pc := 7) dL_root_7 ho hw (by decide) (by decide) ?_
    refine x_goto (pc := 8) (t := 14) dL_root_8 (by decide) ?_
    refine x_iconst (pc := 14) dL_root_14 ?_
    exact x_iret (pc := 15) dL_root_15 rfl (by decide) (by decide) hk
  · refine Or.inr ⟨_, 11, rfl, ?_, fun q => ?_⟩
    · exact Or.inl ⟨by decide, rfl, by decide, _, clL27, by decide⟩
    · refine x_astore_n (pc := 11) dL_root_11 rfl (by decide) rfl ?_
      refine x_iconst (pc := 12) dL_root_12 ?_
      exact x_iret (pc := 13) dL_root_13 rfl (by decide) (by decide) hk
set_option maxRecDepth 100000 in
theorem sp_L_rowDegree {g : GG} {lay : Lay} {M : Mem} {K : KK} {b o : Nat} {p1 : Int} {rf : Nat → Option Nat} (hb : lay.1 b = some (0, 4, rf)) (hw : g.2.1 ≤ o) (hX : X g m_X4_rowDegree 0 0 lay M 0 [(0, vR b), (1, vI p1)] [] (fun o2 lay2 M2 => (∃ y, o2 = .inl (some (vI y)) ∧ i32 y ∧ lay2.1 o = some (2, 1, fun _ => none) ∧ K (.inl (some (vI 0))) lay2 (mset M2 o 0 y)) ∨ (o2 = eIO ∧ K (.inl (some (vI 1))) lay2 M2))) : X g m_L_rowDegree 0 0 lay M 0 [(0, vR b), (1, vI p1), (2, vR o)] [] K := by
  refine x_aload_n (pc := 0) dL_rowDegree_0 rfl rfl ?_
  refine x_iconst (pc := 1) dL_rowDegree_1 ?_
  refine x_aload_n (pc := 2) dL_rowDegree_2 rfl rfl ?_
  refine x_iload_n (pc := 3) dL_rowDegree_3 rfl rfl ?_
  refine x_callVX (pc := 4) [_] rfl kL_72 dL_rowDegree_4 hb rfl rfl (by decide) (Nat.le_of_ble_eq_true rfl) (Nat.le_of_ble_eq_true rfl) (by decide) ?_
  refine X.mono hX (fun o2 lay2 M2 hK => ?_)
  rcases hK with ⟨y, rfl, hy, ho, hk⟩ | ⟨rfl, hk⟩
  · refine Or.inl ⟨_, rfl, ?_⟩
    refine x_i2l (pc := 7) hy dL_rowDegree_7 ?_
    refine x_last (pc := 8) dL_rowDegree_8 ho hw (by decide) (by decide) (by obtain ⟨y1, y2⟩ := hy; exact ⟨by omega, by omega⟩) ?_
    refine x_goto (pc := 9) (t := 15) dL_rowDegree_9 (by decide) ?_
    refine x_iconst (pc := 15) dL_rowDegree_15 ?_
    exact x_iret (pc := 16) dL_rowDegree_16 rfl (by decide) (by decide) hk
  · refine Or.inr ⟨_, 12, rfl, ?_, fun q => ?_⟩
    · exact Or.inl ⟨by decide, rfl, by decide, _, clL27, by decide⟩
    · refine x_astore_n (pc := 12) dL_rowDegree_12 rfl (by decide) rfl ?_
      refine x_iconst (pc := 13) dL_rowDegree_13 ?_
      exact x_iret (pc := 14) dL_rowDegree_14 rfl (by decide) (by decide) hk
set_option maxRecDepth 100000 in
theorem sp_L_rowSign {g : GG} {lay : Lay} {M : Mem} {K : KK} {b o : Nat} {p1 p2 : Int} {rf : Nat → Option Nat} (hb : lay.1 b = some (0, 4, rf)) (hw : g.2.1 ≤ o) (hX : X g m_X4_rowSign 0 0 lay M 0 [(0, vR b), (1, vI p1), (2, vI p2)] [] (fun o2 lay2 M2 => (∃ y, o2 = .inl (some (vI y)) ∧ i32 y ∧ lay2.1 o = some (2, 1, fun _ => none) ∧ K (.inl (some (vI 0))) lay2 (mset M2 o 0 y)) ∨ (o2 = eIO ∧ K (.inl (some (vI 1))) lay2 M2) ∨ (o2 = eIA ∧ K (.inl (some (vI 2))) lay2 M2))) : X g m_L_rowSign 0 0 lay M 0 [(0, vR b), (1, vI p1), (2, vI p2), (3, vR o)] [] K := by
  refine x_aload_n (pc := 0) dL_rowSign_0 rfl rfl ?_
  refine x_iconst (pc := 1) dL_rowSign_1 ?_
  refine x_aload_n (pc := 2) dL_rowSign_2 rfl rfl ?_
  refine x_iload_n (pc := 3) dL_rowSign_3 rfl rfl ?_
  refine x_iload_n (pc := 4) dL_rowSign_4 rfl rfl ?_
  refine x_callVX (pc := 5) [_, _] rfl kL_75 dL_rowSign_5 hb rfl rfl (by decide) (Nat.le_of_ble_eq_true rfl) (Nat.le_of_ble_eq_true rfl) (by decide) ?_
  refine X.mono hX (fun o2 lay2 M2 hK => ?_)
  rcases hK with ⟨y, rfl, hy, ho, hk⟩ | ⟨rfl, hk⟩ | ⟨rfl, hk⟩
  · refine Or.inl ⟨_, rfl, ?_⟩
    refine x_i2l (pc := 8) hy dL_rowSign_8 ?_
    refine x_last (pc := 9) dL_rowSign_9 ho hw (by decide) (by decide) (by obtain ⟨y1, y2⟩ := hy; exact ⟨by omega, by omega⟩) ?_
    refine x_goto (pc := 10) (t := 21) dL_rowSign_10 (by decide) ?_
    refine x_iconst (pc := 21) dL_rowSign_21 ?_
    exact x_iret (pc := 22) dL_rowSign_22 rfl (by decide) (by decide) hk
  · refine Or.inr ⟨_, 13, rfl, ?_, fun q => ?_⟩
    · exact Or.inl ⟨by decide, rfl, by decide, _, clL27, by decide⟩
    · refine x_astore (pc := 13) dL_rowSign_13 trivial (by decide) rfl ?_
      refine x_iconst (pc := 15) dL_rowSign_15 ?_
      exact x_iret (pc := 16) dL_rowSign_16 rfl (by decide) (by decide) hk
  · refine Or.inr ⟨_, 17, rfl, ?_, fun q => ?_⟩
    · exact Or.inr ⟨Or.inr ⟨by decide, _, clL27, by decide⟩, Or.inl ⟨by decide, rfl, by decide, _, clL18, by decide⟩⟩
    · refine x_astore (pc := 17) dL_rowSign_17 trivial (by decide) rfl ?_
      refine x_iconst (pc := 19) dL_rowSign_19 ?_
      exact x_iret (pc := 20) dL_rowSign_20 rfl (by decide) (by decide) hk
set_option maxRecDepth 100000 in
theorem sp_L_changes {g : GG} {lay : Lay} {M : Mem} {K : KK} {b o : Nat} {p1 p2 : Int} {rf : Nat → Option Nat} (hb : lay.1 b = some (0, 4, rf)) (hw : g.2.1 ≤ o) (hX : X g m_X4_changes 0 0 lay M 0 [(0, vR b), (1, vI p1), (2, vI p2)] [] (fun o2 lay2 M2 => (∃ y, o2 = .inl (some (vI y)) ∧ i32 y ∧ lay2.1 o = some (2, 1, fun _ => none) ∧ K (.inl (some (vI 0))) lay2 (mset M2 o 0 y)) ∨ (o2 = eIA ∧ K (.inl (some (vI 1))) lay2 M2))) : X g m_L_changes 0 0 lay M 0 [(0, vR b), (1, vI p1), (2, vI p2), (3, vR o)] [] K := by
  refine x_aload_n (pc := 0) dL_changes_0 rfl rfl ?_
  refine x_iconst (pc := 1) dL_changes_1 ?_
  refine x_aload_n (pc := 2) dL_changes_2 rfl rfl ?_
  refine x_iload_n (pc := 3) dL_changes_3 rfl rfl ?_
  refine x_iload_n (pc := 4) dL_changes_4 rfl rfl ?_
  refine x_callVX (pc := 5) [_, _] rfl kL_78 dL_changes_5 hb rfl rfl (by decide) (Nat.le_of_ble_eq_true rfl) (Nat.le_of_ble_eq_true rfl) (by decide) ?_
  refine X.mono hX (fun o2 lay2 M2 hK => ?_)
  rcases hK with ⟨y, rfl, hy, ho, hk⟩ | ⟨rfl, hk⟩
  · refine Or.inl ⟨_, rfl, ?_⟩
    refine x_i2l (pc := 8) hy dL_changes_8 ?_
    refine x_last (pc := 9) dL_changes_9 ho hw (by decide) (by decide) (by obtain ⟨y1, y2⟩ := hy; exact ⟨by omega, by omega⟩) ?_
    refine x_goto (pc := 10) (t := 17) dL_changes_10 (by decide) ?_
    refine x_iconst (pc := 17) dL_changes_17 ?_
    exact x_iret (pc := 18) dL_changes_18 rfl (by decide) (by decide) hk
  · refine Or.inr ⟨_, 13, rfl, ?_, fun q => ?_⟩
    · exact Or.inl ⟨by decide, rfl, by decide, _, clL18, by decide⟩
    · refine x_astore (pc := 13) dL_changes_13 trivial (by decide) rfl ?_
      refine x_iconst (pc := 15) dL_changes_15 ?_
      exact x_iret (pc := 16) dL_changes_16 rfl (by decide) (by decide) hk
set_option maxRecDepth 100000 in
theorem sp_L_surplus {g : GG} {lay : Lay} {M : Mem} {K : KK} {b o : Nat} {p1 p2 : Int} {rf : Nat → Option Nat} (hb : lay.1 b = some (0, 4, rf)) (hw : g.2.1 ≤ o) (hX : X g m_X4_surplus 0 0 lay M 0 [(0, vR b), (1, vI p1), (2, vI p2)] [] (fun o2 lay2 M2 => (∃ y, o2 = .inl (some (vI y)) ∧ i32 y ∧ lay2.1 o = some (2, 1, fun _ => none) ∧ K (.inl (some (vI 0))) lay2 (mset M2 o 0 y)) ∨ (o2 = eIA ∧ K (.inl (some (vI 1))) lay2 M2))) : X g m_L_surplus 0 0 lay M 0 [(0, vR b), (1, vI p1), (2, vI p2), (3, vR o)] [] K := by
  refine x_aload_n (pc := 0) dL_surplus_0 rfl rfl ?_
  refine x_iconst (pc := 1) dL_surplus_1 ?_
  refine x_aload_n (pc := 2) dL_surplus_2 rfl rfl ?_
  refine x_iload_n (pc := 3) dL_surplus_3 rfl rfl ?_
  refine x_iload_n (pc := 4) dL_surplus_4 rfl rfl ?_
  refine x_callVX (pc := 5) [_, _] rfl kL_81 dL_surplus_5 hb rfl rfl (by decide) (Nat.le_of_ble_eq_true rfl) (Nat.le_of_ble_eq_true rfl) (by decide) ?_
  refine X.mono hX (fun o2 lay2 M2 hK => ?_)
  rcases hK with ⟨y, rfl, hy, ho, hk⟩ | ⟨rfl, hk⟩
  · refine Or.inl ⟨_, rfl, ?_⟩
    refine x_i2l (pc := 8) hy dL_surplus_8 ?_
    refine x_last (pc := 9) dL_surplus_9 ho hw (by decide) (by decide) (by obtain ⟨y1, y2⟩ := hy; exact ⟨by omega, by omega⟩) ?_
    refine x_goto (pc := 10) (t := 17) dL_surplus_10 (by decide) ?_
    refine x_iconst (pc := 17) dL_surplus_17 ?_
    exact x_iret (pc := 18) dL_surplus_18 rfl (by decide) (by decide) hk
  · refine Or.inr ⟨_, 13, rfl, ?_, fun q => ?_⟩
    · exact Or.inl ⟨by decide, rfl, by decide, _, clL18, by decide⟩
    · refine x_astore (pc := 13) dL_surplus_13 trivial (by decide) rfl ?_
      refine x_iconst (pc := 15) dL_surplus_15 ?_
      exact x_iret (pc := 16) dL_surplus_16 rfl (by decide) (by decide) hk
set_option maxRecDepth 100000 in
theorem sp_L_save {g : GG} {lay : Lay} {M : Mem} {K : KK} {b : Nat} {p1 : Int} {rf : Nat → Option Nat} (hb : lay.1 b = some (0, 4, rf)) (hX : X g m_X4_save 0 0 lay M 0 [(0, vR b), (1, vI p1)] [] (fun o2 lay2 M2 => (o2 = .inl none ∧ K (.inl (some (vI 0))) lay2 M2) ∨ (o2 = eIA ∧ K (.inl (some (vI 1))) lay2 M2))) : X g m_L_save 0 0 lay M 0 [(0, vR b), (1, vI p1)] [] K := by
  refine x_aload_n (pc := 0) dL_save_0 rfl rfl ?_
  refine x_iload_n (pc := 1) dL_save_1 rfl rfl ?_
  refine x_callVX (pc := 2) [_] rfl kL_84 dL_save_2 hb rfl rfl (by decide) (Nat.le_of_ble_eq_true rfl) (Nat.le_of_ble_eq_true rfl) (by decide) ?_
  refine X.mono hX (fun o2 lay2 M2 hK => ?_)
  rcases hK with ⟨rfl, hk⟩ | ⟨rfl, hk⟩
  · refine Or.inl ⟨_, rfl, ?_⟩
    refine x_goto (pc := 5) (t := 11) dL_save_5 (by decide) ?_
    refine x_iconst (pc := 11) dL_save_11 ?_
    exact x_iret (pc := 12) dL_save_12 rfl (by decide) (by decide) hk
  · refine Or.inr ⟨_, 8, rfl, ?_, fun q => ?_⟩
    · exact Or.inl ⟨by decide, rfl, by decide, _, clL18, by decide⟩
    · refine x_astore_n (pc := 8) dL_save_8 rfl (by decide) rfl ?_
      refine x_iconst (pc := 9) dL_save_9 ?_
      exact x_iret (pc := 10) dL_save_10 rfl (by decide) (by decide) hk
set_option maxRecDepth 100000 in
theorem sp_L_restore {g : GG} {lay : Lay} {M : Mem} {K : KK} {b : Nat} {p1 : Int} {rf : Nat → Option Nat} (hb : lay.1 b = some (0, 4, rf)) (hX : X g m_X4_restore 0 0 lay M 0 [(0, vR b), (1, vI p1)] [] (fun o2 lay2 M2 => (o2 = .inl none ∧ K (.inl (some (vI 0))) lay2 M2) ∨ (o2 = eIA ∧ K (.inl (some (vI 1))) lay2 M2) ∨ (o2 = eIS ∧ K (.inl (some (vI 2))) lay2 M2))) : X g m_L_restore 0 0 lay M 0 [(0, vR b), (1, vI p1)] [] K := by
  refine x_aload_n (pc := 0) dL_restore_0 rfl rfl ?_
  refine x_iload_n (pc := 1) dL_restore_1 rfl rfl ?_
  refine x_callVX (pc := 2) [_] rfl kL_88 dL_restore_2 hb rfl rfl (by decide) (Nat.le_of_ble_eq_true rfl) (Nat.le_of_ble_eq_true rfl) (by decide) ?_
  refine X.mono hX (fun o2 lay2 M2 hK => ?_)
  rcases hK with ⟨rfl, hk⟩ | ⟨rfl, hk⟩ | ⟨rfl, hk⟩
  · refine Or.inl ⟨_, rfl, ?_⟩
    refine x_goto (pc := 5) (t := 14) dL_restore_5 (by decide) ?_
    refine x_iconst (pc := 14) dL_restore_14 ?_
    exact x_iret (pc := 15) dL_restore_15 rfl (by decide) (by decide) hk
  · refine Or.inr ⟨_, 8, rfl, ?_, fun q => ?_⟩
    · exact Or.inl ⟨by decide, rfl, by decide, _, clL18, by decide⟩
    · refine x_astore_n (pc := 8) dL_restore_8 rfl (by decide) rfl ?_
      refine x_iconst (pc := 9) dL_restore_9 ?_
      exact x_iret (pc := 10) dL_restore_10 rfl (by decide) (by decide) hk
  · refine Or.inr ⟨_, 11, rfl, ?_, fun q => ?_⟩
    · exact Or.inr ⟨Or.inr ⟨by decide, _, clL18, by decide⟩, Or.inl ⟨by decide, rfl, by decide, _, clL13, by decide⟩⟩
    · refine x_astore_n (pc := 11) dL_restore_11 rfl (by decide) rfl ?_
      refine x_iconst (pc := 12) dL_restore_12 ?_
      exact x_iret (pc := 13) dL_restore_13 rfl (by decide) (by decide) hk
