/-! Rows of the constant texts: loading, receivers, fields, bytes; the library's length and charAt. -/
section
variable {g : GG} {r : MR} {cn ck : Nat} {lay : Lay} {M : Mem} {pc : Nat} {L : List (Nat × AV)} {st stk : List AV} {K : KK}
def stB (q : Nat) : List Int := strB.getD q []
def stN (q : Nat) : Nat := strN.getD q 0
theorem GF.str {s : State} {H : Heap} (h : GF g s H) : vk_S 24 strN strI g.2.2.2.1 g.2.2.2.2 (gA g) s H := h.2.2.2.2.2.2.2.2.2.2.1
theorem stI_at : ∀ i, i < 24 → ∀ j, j < stN i → (strI.getD i []).getD j 0 = Int32.ofInt ((stB i).getD j 0) := by decide +kernel
theorem stB_rng : ∀ i, i < 24 → ∀ j, j < stN i → 32 ≤ (stB i).getD j 0 ∧ (stB i).getD j 0 < 128 := by decide +kernel
theorem stN_rng : ∀ i, i < 24 → 1 ≤ stN i ∧ stN i ≤ 13 := by decide +kernel
theorem x_ldcS {idx q : Nat} (cw : (r.1.cls, idx, q) ∈ strK) (hd : decode r.2.1 pc = .ok (.ldc idx, 2)) (k : X g r cn ck lay M (pc + 2) L (vR (g.2.2.2.1 q) :: st) K) : X g r cn ck lay M pc L st K := by
  intro p l e s m args below meth c H locs ls C G R S hl
  obtain ⟨hx, hb, hml, hre, hlo, hown, hts, htb, hst0, hnm0⟩ := id C
  exact va_ldcS hx hb hown (G.2.2.2.2.2.2.2.2.2.2.2.1 _ cw) hd (k p l e s m args below meth c H locs ls C G R S hl)
theorem x_getSv {idx i : Nat} (cw : Cond.fieldLink r.1.cls idx "java/lang/String" "value" "[B" ∈ wsL_law) (hi : i < 24) (hd : decode r.2.1 pc = .ok (.getfield idx, 3)) (k : X g r cn ck lay M (pc + 3) L (vR (g.2.2.2.2 i) :: st) K) : X g r cn ck lay M pc L (vR (g.2.2.2.1 i) :: st) K := by
  intro p l e s m args below meth c H locs ls C G R S hl
  obtain ⟨hx, hb, hml, hre, hlo, hown, hts, htb, hst0, hnm0⟩ := id C
  exact vk_getf hx hb (G.str.1 i hi).2.2.1 S hown (hts _ cw) (fun _ h => h) hd (k p l e s m args below meth c H locs ls C G R S hl)
theorem x_getSc {idx i : Nat} (cw : Cond.fieldLink r.1.cls idx "java/lang/String" "coder" "B" ∈ wsL_law) (hi : i < 24) (hd : decode r.2.1 pc = .ok (.getfield idx, 3)) (k : X g r cn ck lay M (pc + 3) L (vI 0 :: st) K) : X g r cn ck lay M pc L (vR (g.2.2.2.1 i) :: st) K := by
  intro p l e s m args below meth c H locs ls C G R S hl
  obtain ⟨hx, hb, hml, hre, hlo, hown, hts, htb, hst0, hnm0⟩ := id C
  exact vk_getf hx hb (G.str.1 i hi).2.1 S hown (hts _ cw) (fun _ h => h) hd (k p l e s m args below meth c H locs ls C G R S hl)
theorem x_lenS {i : Nat} (hi : i < 24) (hd : decode r.2.1 pc = .ok (.arraylength, 1)) (k : X g r cn ck lay M (pc + 1) L (vI (stN i : Nat) :: st) K) : X g r cn ck lay M pc L (vR (g.2.2.2.2 i) :: st) K := by
  intro p l e s m args below meth c H locs ls C G R S hl
  exact va_tlen C.1 C.2.1 (G.str.1 i hi).2.2.2 S rfl hd (k p l e s m args below meth c H locs ls C G R S hl)
theorem x_bytS {i : Nat} {j : Int} (hi : i < 24) (h0 : 0 ≤ j) (h1 : j < stN i) (hd : decode r.2.1 pc = .ok (.baload, 1)) (k : X g r cn ck lay M (pc + 1) L (vI ((stB i).getD j.toNat 0) :: st) K) : X g r cn ck lay M pc L (vI j :: vR (g.2.2.2.2 i) :: st) K := by
  intro p l e s m args below meth c H locs ls C G R S hl
  have hn := stN_rng i hi
  obtain ⟨d1, d2, d3, d4⟩ := n_aidx (n := stN i) h0 h1 (by omega)
  exact va_tb C.1 C.2.1 (G.str.1 i hi).2.2.2 S d2 (by rw [d3, stI_at i hi _ d4]; rfl) hd (k p l e s m args below meth c H locs ls C G R S hl)
theorem x_gcs {idx : Nat} (cw : Cond.fieldLink r.1.cls idx "java/lang/String" "COMPACT_STRINGS" "Z" ∈ wsL_law) (hd : decode r.2.1 pc = .ok (.getstatic idx, 3)) (k : X g r cn ck lay M (pc + 3) L (vI 1 :: st) K) : X g r cn ck lay M pc L st K := by
  intro p l e s m args below meth c H locs ls C G R S hl
  obtain ⟨hx, hb, hml, hre, hlo, hown, hts, htb, hst0, hnm0⟩ := id C
  exact va_gets hx hb G.2.2.2.2.2.2.2.2.1 S hown (hts _ cw) (fun _ h => h) hd (k p l e s m args below meth c H locs ls C G R S hl)
theorem x_gsf {idx : Nat} (cw : Cond.fieldLink r.1.cls idx "jdk/internal/util/Preconditions" "SIOOBE_FORMATTER" "Ljava/util/function/BiFunction;" ∈ wsL_law) (hd : decode r.2.1 pc = .ok (.getstatic idx, 3)) (k : ∀ q : Option Nat, X g r cn ck lay M (pc + 3) L (vA q :: st) K) : X g r cn ck lay M pc L st K := by
  intro p l e s m args below meth c H locs ls C G R S hl
  obtain ⟨hx, hb, hml, hre, hlo, hown, hts, htb, hst0, hnm0⟩ := id C
  rcases G.2.2.2.2.2.2.2.2.2.1 with z | ⟨t, z⟩
  · exact va_gets hx hb z S hown (hts _ cw) (fun _ h => h) hd (k none p l e s m args below meth c H locs ls C G R S hl)
  · exact va_gets hx hb z S hown (hts _ cw) (fun _ h => h) hd (k (some t) p l e s m args below meth c H locs ls C G R S hl)

theorem x_callVs {idx np q : Nat} {rc : MR} (As : List AV) (hs : stk = As.reverse ++ vR (g.2.2.2.1 q) :: st) (cw : CV r.1.cls idx rc np) (hd : decode r.2.1 pc = .ok (.invokevirtual idx, 3)) (hq : q < 24) (hcl : rc.1.cls = "java/lang/String") (hn0 : As.length = np) (hR : r_fr rc + 1 ≤ r_fr r ∧ 8 + (rc.2.2.1 + 11) + r_lo rc ≤ r_lo r) (hlen : cats (vR (g.2.2.2.1 q) :: As) ≤ rc.2.2.1) (hst : cats st ≤ 8) (hcc : cn + r_mc rc ≤ r_mc r ∧ ck + r_ms rc ≤ r_ms r)
    (hX : X g rc 0 0 lay M 0 (lvA 0 (vR (g.2.2.2.1 q) :: As)) [] (kR g r (cn + r_mc rc) (ck + r_ms rc) (pc + 3) L st K)) : X g r cn ck lay M pc L stk K := by
  subst hs
  obtain ⟨hn, ⟨c1, c2, c3, c4, c5⟩, c6, c7, c8, c9⟩ := cw
  rw [← hn0] at hn
  intro p l e s m args below meth c H locs ls C G R S hl
  obtain ⟨hx, hb, hml, hre, hlo, hown, hts, htb, hst0, hnm0⟩ := id C
  have hM := met_of c6 c7 l hst0 (by rw [cats_sl]; exact hlen) hX
  have hcb := cwV (R := rmOf r) (s := s) (args := args) (own := r.1.cls) (C := rc.1.cls) (index := idx) (y := rc.1) (bytes := rc.2.1) (maxL := rc.2.2.1) (ret := rc.2.2.2.1) (ws := wsOf rc) (ws' := wsL_law) (rm := rmOf rc) (mc := (rmOf rc).cells) (ms := (rmOf rc).slots) (Ts := wsL_law) As.length hts (fun w hw => by
    rcases List.mem_append.mp (show w ∈ ([.methodLink r.1.cls idx rc.1, .instanceMethod rc.1, .selects rc.1.cls rc.1 rc.1, .initialized rc.1.cls] : List Cond) ++ wsOf rc from hw) with h | h
    · simp only [List.mem_cons, List.not_mem_nil, or_false] at h
      rcases h with rfl | rfl | rfl | rfl
      · exact good_mem c1
      · exact good_mem c2
      · exact good_mem c3
      · exact good_mem c4
    · rcases List.mem_cons.mp h with rfl | h
      · exact good_mem c5
      · exact good_mem h) rfl rfl rfl ⟨rfl, c8, c9, hn⟩ hR
  obtain ⟨cell, q1, q2, q3⟩ := vk_recv (G.str) hq S
  have hrun := vx_runV (p := p) (l := l) (e := e) (R := rmOf r) (s := s) (m := m) (args := args) (below := below) (meth := meth) (c := c) (H := H) (locs := locs) (cells := cn) (slots := ck) (nL := r.2.2.1) (cc := r.2.1) (Ts := wsL_law) (own := r.1.cls) (C := rc.1.cls) (b := g.2.2.2.1 q) (As := As.map cv) (rest := st.map cv) (g := F0 m pc ls ((As.reverse ++ vR (g.2.2.2.1 q) :: st).map cv)) ⟨hx, hb, hml, hown, hts⟩ hM hcb
    ⟨PcOf.blind, ⟨cell, q1, q2, by rw [hcl]; exact q3⟩, fun U hU hW => ⟨rfl, by rw [hU]; exact G.next (WW.of hW) S.1 S.2.1, by rw [hU]; exact R.moved hW.alike⟩⟩
    rfl (by simp) hl.1 (by simp [cv, va_rf]) (lv_room (by rw [cats_eq]; exact hst)) hd hcc
  exact x_after C G S hl hrun

end
theorem flJ0_9 : Cond.fieldLink "java/lang/String" 9 "java/lang/String" "value" "[B" ∈ wsL_law := by decide +kernel
theorem flJ0_15 : Cond.fieldLink "java/lang/String" 15 "java/lang/String" "coder" "B" ∈ wsL_law := by decide +kernel
theorem flJ0_38 : Cond.fieldLink "java/lang/String" 38 "java/lang/String" "COMPACT_STRINGS" "Z" ∈ wsL_law := by decide +kernel
theorem flJ0_1053 : Cond.fieldLink "java/lang/String" 1053 "jdk/internal/util/Preconditions" "SIOOBE_FORMATTER" "Ljava/util/function/BiFunction;" ∈ wsL_law := by decide +kernel
set_option maxRecDepth 100000 in
theorem sp_J0_coder_7d493 {g : GG} {lay : Lay} {M : Mem} {K : KK} {q : Nat} (hq : q < 24) (k : K (.inl (some (vI (0)))) lay M) : X g m_J0_coder_7d493 0 0 lay M 0 [(0, vR (g.2.2.2.1 q))] [] K := by
  refine x_gcs (pc := 0) flJ0_38 dJ0_coder_7d493_0 ?_
  refine x_if_eq (pc := 3) (t := 13) dJ0_coder_7d493_3 (by decide) ⟨by omega, by omega⟩ (fun c3 => ?_) (fun c3 => ?_)
  · exfalso; omega
  · refine x_aload_n (pc := 6) dJ0_coder_7d493_6 rfl rfl ?_
    refine x_getSc (pc := 7) (i := q) flJ0_15 hq dJ0_coder_7d493_7 ?_
    refine x_goto (pc := 10) (t := 14) dJ0_coder_7d493_10 (by decide) ?_
    refine x_bret (pc := 14) dJ0_coder_7d493_14 rfl ⟨by omega, by omega⟩ (by decide) (by decide) ?_
    exact k
set_option maxRecDepth 100000 in
theorem sp_J0_isLatin1_aae02 {g : GG} {lay : Lay} {M : Mem} {K : KK} {q : Nat} (hq : q < 24) (k : K (.inl (some (vI (1)))) lay M) : X g m_J0_isLatin1_aae02 0 0 lay M 0 [(0, vR (g.2.2.2.1 q))] [] K := by
  refine x_gcs (pc := 0) flJ0_38 dJ0_isLatin1_aae02_0 ?_
  refine x_if_eq (pc := 3) (t := 17) dJ0_isLatin1_aae02_3 (by decide) ⟨by omega, by omega⟩ (fun c3 => ?_) (fun c3 => ?_)
  · exfalso; omega
  · refine x_aload_n (pc := 6) dJ0_isLatin1_aae02_6 rfl rfl ?_
    refine x_getSc (pc := 7) (i := q) flJ0_15 hq dJ0_isLatin1_aae02_7 ?_
    refine x_if_ne (pc := 10) (t := 17) dJ0_isLatin1_aae02_10 (by decide) ⟨by omega, by omega⟩ (fun c10 => ?_) (fun c10 => ?_)
    · exfalso; omega
    · refine x_iconst (pc := 13) dJ0_isLatin1_aae02_13 ?_
      refine x_goto (pc := 14) (t := 18) dJ0_isLatin1_aae02_14 (by decide) ?_
      refine x_zret (pc := 18) dJ0_isLatin1_aae02_18 rfl ⟨by omega, by omega⟩ (by decide) (by decide) ?_
      exact k
set_option maxRecDepth 100000 in
theorem sp_J0_length_8abf5 {g : GG} {lay : Lay} {M : Mem} {K : KK} {q : Nat} (hq : q < 24) (k : K (.inl (some (vI ((stN q : Nat))))) lay M) : X g m_J0_length_8abf5 0 0 lay M 0 [(0, vR (g.2.2.2.1 q))] [] K := by
  have hn := stN_rng q hq
  refine x_aload_n (pc := 0) dJ0_length_8abf5_0 rfl rfl ?_
  refine x_getSv (pc := 1) (i := q) flJ0_9 hq dJ0_length_8abf5_1 ?_
  refine x_lenS (pc := 4) (i := q) hq dJ0_length_8abf5_4 ?_
  refine x_aload_n (pc := 5) dJ0_length_8abf5_5 rfl rfl ?_
  refine x_callVs (pc := 6) [] rfl kJ0_335 dJ0_length_8abf5_6 hq rfl rfl (by decide) (Nat.le_of_ble_eq_true rfl) (Nat.le_of_ble_eq_true rfl) (by decide) ?_
  refine sp_J0_coder_7d493 hq ?_
  refine ⟨_, rfl, ?_⟩
  refine x_ishr (pc := 9) 0 (by decide) rfl ⟨by omega, by omega⟩ dJ0_length_8abf5_9 ?_
  refine x_iret (pc := 10) dJ0_length_8abf5_10 rfl (by decide) (by decide) ?_
  refine kI k ?_
  simp
set_option maxRecDepth 100000 in
theorem sp_J3_checkIndex_8e157 {g : GG} {lay : Lay} {M : Mem} {K : KK} {i n : Int} {q : Option Nat} (h0 : 0 ≤ i) (h1 : i < n) (h2 : n < 1000) (k : K (.inl (some (vI (i)))) lay M) : X g m_J3_checkIndex_8e157 0 0 lay M 0 [(0, vI i), (1, vI n), (2, vA q)] [] K := by
  refine x_iload_n (pc := 0) dJ3_checkIndex_8e157_0 rfl rfl ?_
  refine x_if_lt (pc := 1) (t := 9) dJ3_checkIndex_8e157_1 (by decide) ⟨by omega, by omega⟩ (fun c1 => ?_) (fun c1 => ?_)
  · exfalso; omega
  · refine x_iload_n (pc := 4) dJ3_checkIndex_8e157_4 rfl rfl ?_
    refine x_iload_n (pc := 5) dJ3_checkIndex_8e157_5 rfl rfl ?_
    refine x_icmp_lt (pc := 6) (t := 16) dJ3_checkIndex_8e157_6 (by decide) ⟨by omega, by omega⟩ ⟨by omega, by omega⟩ (fun c6 => ?_) (fun c6 => ?_)
    · refine x_iload_n (pc := 16) dJ3_checkIndex_8e157_16 rfl rfl ?_
      refine x_iret (pc := 17) dJ3_checkIndex_8e157_17 rfl (by decide) (by decide) ?_
      exact k
    · exfalso; omega
set_option maxRecDepth 100000 in
theorem sp_J0_checkIndex_df160 {g : GG} {lay : Lay} {M : Mem} {K : KK} {i n : Int} (h0 : 0 ≤ i) (h1 : i < n) (h2 : n < 1000) (k : K (.inl none) lay M) : X g m_J0_checkIndex_df160 0 0 lay M 0 [(0, vI i), (1, vI n)] [] K := by
  refine x_iload_n (pc := 0) dJ0_checkIndex_df160_0 rfl rfl ?_
  refine x_iload_n (pc := 1) dJ0_checkIndex_df160_1 rfl rfl ?_
  refine x_gsf (pc := 2) flJ0_1053 dJ0_checkIndex_df160_2 (fun q2 => ?_)
  refine x_callS (pc := 5) [_, _, _] rfl kJ0_1059 dJ0_checkIndex_df160_5 rfl (by decide) (Nat.le_of_ble_eq_true rfl) (Nat.le_of_ble_eq_true rfl) (by decide) ?_
  refine sp_J3_checkIndex_8e157 h0 h1 h2 ?_
  refine ⟨_, rfl, ?_⟩
  refine x_pop (pc := 8) dJ0_checkIndex_df160_8 rfl ?_
  refine x_vret (pc := 9) dJ0_checkIndex_df160_9 rfl (by decide) (by decide) ?_
  exact k
set_option maxRecDepth 100000 in
theorem sp_J1_charAt_3b067 {g : GG} {lay : Lay} {M : Mem} {K : KK} {q : Nat} {i : Int} (hq : q < 24) (h0 : 0 ≤ i) (h1 : i < stN q) (k : K (.inl (some (vI ((stB q).getD i.toNat 0)))) lay M) : X g m_J1_charAt_3b067 0 0 lay M 0 [(0, vR (g.2.2.2.2 q)), (1, vI i)] [] K := by
  have hn := stN_rng q hq
  have hb := stB_rng q hq i.toNat (by omega)
  refine x_iload_n (pc := 0) dJ1_charAt_3b067_0 rfl rfl ?_
  refine x_aload_n (pc := 1) dJ1_charAt_3b067_1 rfl rfl ?_
  refine x_lenS (pc := 2) (i := q) hq dJ1_charAt_3b067_2 ?_
  refine x_callS (pc := 3) [_, _] rfl kJ1_9 dJ1_charAt_3b067_3 rfl (by decide) (Nat.le_of_ble_eq_true rfl) (Nat.le_of_ble_eq_true rfl) (by decide) ?_
  refine sp_J0_checkIndex_df160 h0 h1 (by omega) ?_
  refine ⟨_, rfl, ?_⟩
  refine x_aload_n (pc := 6) dJ1_charAt_3b067_6 rfl rfl ?_
  refine x_iload_n (pc := 7) dJ1_charAt_3b067_7 rfl rfl ?_
  refine x_bytS (pc := 8) (i := q) hq (by omega) (by omega) dJ1_charAt_3b067_8 ?_
  refine x_sipush (pc := 9) dJ1_charAt_3b067_9 (by decide) ?_
  refine x_iandm (pc := 12) 8 (by decide) (by decide) dJ1_charAt_3b067_12 ?_
  rw [show (stB q).getD i.toNat 0 % 2 ^ 8 = (stB q).getD i.toNat 0 by omega]
  refine x_i2c (pc := 13) (by omega) (by omega) dJ1_charAt_3b067_13 ?_
  refine x_cret (pc := 14) dJ1_charAt_3b067_14 rfl (by omega) (by omega) (by decide) (by decide) ?_
  exact k
set_option maxRecDepth 100000 in
theorem sp_J0_charAt_5068e {g : GG} {lay : Lay} {M : Mem} {K : KK} {q : Nat} {i : Int} (hq : q < 24) (h0 : 0 ≤ i) (h1 : i < stN q) (k : K (.inl (some (vI ((stB q).getD i.toNat 0)))) lay M) : X g m_J0_charAt_5068e 0 0 lay M 0 [(0, vR (g.2.2.2.1 q)), (1, vI i)] [] K := by
  have hn := stN_rng q hq
  have hb := stB_rng q hq i.toNat (by omega)
  refine x_aload_n (pc := 0) dJ0_charAt_5068e_0 rfl rfl ?_
  refine x_callVs (pc := 1) [] rfl kJ0_492 dJ0_charAt_5068e_1 hq rfl rfl (by decide) (Nat.le_of_ble_eq_true rfl) (Nat.le_of_ble_eq_true rfl) (by decide) ?_
  refine sp_J0_isLatin1_aae02 hq ?_
  refine ⟨_, rfl, ?_⟩
  refine x_if_eq (pc := 4) (t := 16) dJ0_charAt_5068e_4 (by decide) ⟨by omega, by omega⟩ (fun c4 => ?_) (fun c4 => ?_)
  · exfalso; omega
  · refine x_aload_n (pc := 7) dJ0_charAt_5068e_7 rfl rfl ?_
    refine x_getSv (pc := 8) (i := q) flJ0_9 hq dJ0_charAt_5068e_8 ?_
    refine x_iload_n (pc := 11) dJ0_charAt_5068e_11 rfl rfl ?_
    refine x_callS (pc := 12) [_, _] rfl kJ0_495 dJ0_charAt_5068e_12 rfl (by decide) (Nat.le_of_ble_eq_true rfl) (Nat.le_of_ble_eq_true rfl) (by decide) ?_
    refine sp_J1_charAt_3b067 hq h0 h1 ?_
    refine ⟨_, rfl, ?_⟩
    refine x_cret (pc := 15) dJ0_charAt_5068e_15 rfl (by omega) (by omega) (by decide) (by decide) ?_
    exact k
