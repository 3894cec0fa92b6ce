/-! Specs of the reader: next token, words, numbers. -/
theorem tset_98 {v : Nat → Int} {k s e nb x x2 y y2 : Int} (h : x = x2) (h2 : y = y2) (j : Nat) : fup (fup (tset v k s e nb) 9 x) 8 y j = tset v k s y2 x2 j := by
  subst h
  subst h2
  unfold fup tset
  repeat' split
  all_goals first | rfl | omega
theorem fup_fup {v : Nat → Int} {i : Nat} {x y : Int} (j : Nat) : fup (fup v i x) i y j = fup v i y j := by
  unfold fup
  split <;> rfl
theorem tset_0 {v : Nat → Int} {S k z s : Int} (j : Nat) : fup (fup (fup (fup v 7 S) 6 k) 9 z) 8 s j = tset v k S s z j := by
  unfold fup tset
  repeat' split
  all_goals first | rfl | omega
theorem tset_1 {v : Nat → Int} {S k z s : Int} (j : Nat) : fup (fup (fup (fup (fup v 7 S) 6 k) 9 z) 8 s) 8 (s + 1) j = tset v k S ((s + 1 : Int)) z j := by
  unfold fup tset
  repeat' split
  all_goals first | rfl | omega
theorem fup_at {v : Nat → Int} {j : Nat} {x : Int} : fup v j x j = x := if_pos rfl
theorem fup_ne {v : Nat → Int} {i j : Nat} {x : Int} (h : ¬ i = j) : fup v j x i = v i := if_neg h
abbrev isWordP (tx : Nat → Int) (v : Nat → Int) (q : Nat) : Prop := v 6 = 1 ∧ v 8 - v 7 = stN q ∧ ∀ i, i < stN q → tx ((v 7).toNat + i) = (stB q).getD i 0

set_option maxRecDepth 100000 in
theorem sp_X2_nextToken {g : GG} {lay : Lay} {M : Mem} {K : KK} {c n : Nat} {tx v : Nat → Int} (hP : RdL lay c) (hb0 : g.2.1 ≤ c) (hr : Rd tx n v M c) (h8 : 0 ≤ v 8 ∧ v 8 ≤ n) (k : ∀ M2, Frm c (c + 1) M M2 → Rd tx n (tokF tx n v) M2 c → K (.inl none) lay M2) : X g m_X2_nextToken 0 0 lay M 0 [(0, vR c)] [] K := by
  have n6 := hr.1.1
  obtain ⟨e, he⟩ := Int.eq_ofNat_of_zero_le h8.1
  have en : e ≤ n := by omega
  obtain ⟨V, hV⟩ : ∃ V, V = tokF tx n v := ⟨_, rfl⟩
  rw [← hV] at k
  unfold tokF tokAt at hV
  dsimp only at hV
  rw [he, Int.toNat_natCast] at hV
  have hsl := skipF_le tx n (n - e) e (by omega)
  have hs6 := skip6 tx n (n - e) e (by omega)
  obtain ⟨S, hS⟩ : ∃ S, S = skipF tx n (n - e) e := ⟨_, rfl⟩
  rw [← hS] at hsl hs6 hV
  have hkr := kindF_rng tx n S
  obtain ⟨kd, hkd⟩ : ∃ kd, kd = kindF tx n S := ⟨_, rfl⟩
  rw [← hkd] at hkr hs6 hV
  have run : kd = 1 ∨ kd = 2 → ∀ (d e2 : Nat) (nb : Int) (M1 : Mem), e2 + d = n → 0 ≤ nb → nb ≤ 1000 → Frm c (c + 1) M M1 → Rd tx n (tset v kd S e2 nb) M1 c → runF tx n kd d e2 nb = runF tx n kd (n - S) S 0 → X g m_X2_nextToken 0 0 lay M1 86 [(0, vR c)] [] K := by
    intro hk12
    rw [if_pos hk12] at hV
    intro d
    induction d with
    | zero =>
      intro e2 nb M1 hj hn0 hn1 hF hr1 hu
      have a2 : M1 c 2 = n := (hr1.2.1 2 (by decide) (by decide)).trans hr1.1.2
      have a8 : M1 c 8 = e2 := hr1.2.1 8 (by decide) (by decide)
      simp only [runF] at hu
      refine x_aload_n (pc := 86) dX2_nextToken_86 rfl rfl ?_
      refine x_geti (pc := 87) fX2_26 dX2_nextToken_87 hP.1 rfl (fun r87a r87b => ?_)
      refine x_aload_n (pc := 90) dX2_nextToken_90 rfl rfl ?_
      refine x_geti (pc := 91) fX2_23 dX2_nextToken_91 hP.1 rfl (fun r91a r91b => ?_)
      refine x_icmp_ge (pc := 94) (t := 196) dX2_nextToken_94 (by decide) ⟨by omega, by omega⟩ ⟨by omega, by omega⟩ (fun c94 => ?_) (fun c94 => ?_)
      · refine x_vret (pc := 196) dX2_nextToken_196 rfl (by decide) (by decide) ?_
        refine k _ hF (hr1.to (fun j => ?_))
        rw [hV, ← hu]
      · exfalso; omega
    | succ d ih =>
      intro e2 nb M1 hj hn0 hn1 hF hr1 hu
      have a2 : M1 c 2 = n := (hr1.2.1 2 (by decide) (by decide)).trans hr1.1.2
      have a6 : M1 c 6 = kd := hr1.2.1 6 (by decide) (by decide)
      have a8 : M1 c 8 = e2 := hr1.2.1 8 (by decide) (by decide)
      have a9 : M1 c 9 = nb := hr1.2.1 9 (by decide) (by decide)
      have at0 := hr1.2.2 e2 (by omega)
      have hk2 := kindF_rng tx n e2
      have hk9 := kind2 tx n e2
      simp only [runF] at hu
      refine x_aload_n (pc := 86) dX2_nextToken_86 rfl rfl ?_
      refine x_geti (pc := 87) fX2_26 dX2_nextToken_87 hP.1 rfl (fun r87a r87b => ?_)
      refine x_aload_n (pc := 90) dX2_nextToken_90 rfl rfl ?_
      refine x_geti (pc := 91) fX2_23 dX2_nextToken_91 hP.1 rfl (fun r91a r91b => ?_)
      refine x_icmp_ge (pc := 94) (t := 196) dX2_nextToken_94 (by decide) ⟨by omega, by omega⟩ ⟨by omega, by omega⟩ (fun c94 => ?_) (fun c94 => ?_)
      · exfalso; omega
      · refine x_aload_n (pc := 97) dX2_nextToken_97 rfl rfl ?_
        refine x_geti (pc := 98) fX2_26 dX2_nextToken_98 hP.1 rfl (fun r98a r98b => ?_)
        refine x_aload_n (pc := 101) dX2_nextToken_101 rfl rfl ?_
        refine x_getr (pc := 102) (b := c + 1) fX2_9 dX2_nextToken_102 hP.1 rfl rfl ?_
        refine x_alen (pc := 105) dX2_nextToken_105 hP.2.1 (fun r105a => ?_)
        refine x_icmp_ge (pc := 106) (t := 196) dX2_nextToken_106 (by decide) ⟨by omega, by omega⟩ ⟨by omega, by omega⟩ (fun c106 => ?_) (fun c106 => ?_)
        · exfalso; omega
        · refine x_aload_n (pc := 109) dX2_nextToken_109 rfl rfl ?_
          refine x_aload_n (pc := 110) dX2_nextToken_110 rfl rfl ?_
          refine x_geti (pc := 111) fX2_26 dX2_nextToken_111 hP.1 rfl (fun r111a r111b => ?_)
          rw [a8]
          refine x_callV (pc := 114) [_] rfl kX2_32 dX2_nextToken_114 hP.1 rfl rfl (by decide) (Nat.le_of_ble_eq_true rfl) (Nat.le_of_ble_eq_true rfl) (by decide) ?_
          refine sp_X2_kindAt hP hb0 hr1 (by omega) ?_
          refine ⟨_, rfl, ?_⟩
          refine x_aload_n (pc := 117) dX2_nextToken_117 rfl rfl ?_
          refine x_geti (pc := 118) fX2_36 dX2_nextToken_118 hP.1 rfl (fun r118a r118b => ?_)
          rw [Int.toNat_natCast]
          refine x_icmp_ne (pc := 121) (t := 196) dX2_nextToken_121 (by decide) ⟨by omega, by omega⟩ ⟨by omega, by omega⟩ (fun c121 => ?_) (fun c121 => ?_)
          · refine x_vret (pc := 196) dX2_nextToken_196 rfl (by decide) (by decide) ?_
            refine k _ hF (hr1.to (fun j => ?_))
            rw [if_neg (by omega)] at hu
            rw [hV, ← hu]
          · refine x_aload_n (pc := 124) dX2_nextToken_124 rfl rfl ?_
            refine x_aload_n (pc := 125) dX2_nextToken_125 rfl rfl ?_
            refine x_geti (pc := 126) fX2_36 dX2_nextToken_126 hP.1 rfl (fun r126a r126b => ?_)
            refine x_iconst (pc := 129) dX2_nextToken_129 ?_
            refine x_icmp_ne (pc := 130) (t := 162) dX2_nextToken_130 (by decide) ⟨by omega, by omega⟩ ⟨by omega, by omega⟩ (fun c130 => ?_) (fun c130 => ?_)
            · refine x_iconst (pc := 162) dX2_nextToken_162 ?_
              refine x_puti (pc := 163) fnX2_39 dX2_nextToken_163 hP.1 (by omega) rfl ⟨by omega, by omega⟩ ?_
              refine x_aload_n (pc := 166) dX2_nextToken_166 rfl rfl ?_
              refine x_dup (pc := 167) dX2_nextToken_167 rfl ?_
              refine x_geti (pc := 168) fX2_26 dX2_nextToken_168 hP.1 rfl (fun r168a r168b => ?_)
              try simp (disch := omega) only [mset_same, mset_nea, mset_nei, mcopy_nea, mcopy_in, mcopy_out, Int.reduceToNat, Int.toNat_natCast, Nat.zero_add, Nat.sub_zero] at r168a r168b ⊢
              refine x_iconst (pc := 171) dX2_nextToken_171 ?_
              refine x_iadd (pc := 172) dX2_nextToken_172 ?_
              refine x_puti (pc := 173) fnX2_26 dX2_nextToken_173 hP.1 (by omega) rfl ⟨by omega, by omega⟩ ?_
              refine x_goto (pc := 176) (t := 86) dX2_nextToken_176 (by decide) ?_
              rw [if_pos (by omega)] at hu
              
              refine ih (e2 + 1) (numT kd nb (tx e2)) _ (by omega) ?_ ?_ (((hF.ms (by omega)).ms (by omega))) (((hr1.ms (by decide)).ms (by decide)).to (tset_98 ?_ (by omega))) hu
              · unfold numT
                split
                · split <;> omega
                · omega
              · unfold numT
                split
                · split <;> omega
                · omega
              · unfold numT
                repeat' split
                all_goals omega
            · refine x_sipush (pc := 133) dX2_nextToken_133 (by decide) ?_
              refine x_aload_n (pc := 136) dX2_nextToken_136 rfl rfl ?_
              refine x_geti (pc := 137) fX2_39 dX2_nextToken_137 hP.1 rfl (fun r137a r137b => ?_)
              refine x_bipush (pc := 140) dX2_nextToken_140 (by decide) ?_
              refine x_imul (pc := 142) dX2_nextToken_142 ?_
              refine x_aload_n (pc := 143) dX2_nextToken_143 rfl rfl ?_
              refine x_getr (pc := 144) (b := c + 1) fX2_9 dX2_nextToken_144 hP.1 rfl rfl ?_
              refine x_aload_n (pc := 147) dX2_nextToken_147 rfl rfl ?_
              refine x_geti (pc := 148) fX2_26 dX2_nextToken_148 hP.1 rfl (fun r148a r148b => ?_)
              refine x_bald (pc := 151) dX2_nextToken_151 hP.2.1 (by omega) (by omega) (fun r151a r151b => ?_)
              rw [a8, Int.toNat_natCast, at0] at r151a r151b ⊢
              rw [a9] at r137a r137b ⊢
              refine x_iadd (pc := 152) dX2_nextToken_152 ?_
              refine x_bipush (pc := 153) dX2_nextToken_153 (by decide) ?_
              refine x_isub (pc := 155) dX2_nextToken_155 ?_
              refine x_mmin (pc := 156) kmX2_42 dX2_nextToken_156 ⟨by omega, by omega⟩ ⟨by omega, by omega⟩ (Nat.le_of_ble_eq_true rfl) (by decide) (by decide) (by decide) ?_
              refine x_goto (pc := 159) (t := 163) dX2_nextToken_159 (by decide) ?_
              refine x_puti (pc := 163) fnX2_39 dX2_nextToken_163 hP.1 (by omega) rfl ⟨by omega, by omega⟩ ?_
              refine x_aload_n (pc := 166) dX2_nextToken_166 rfl rfl ?_
              refine x_dup (pc := 167) dX2_nextToken_167 rfl ?_
              refine x_geti (pc := 168) fX2_26 dX2_nextToken_168 hP.1 rfl (fun r168a r168b => ?_)
              try simp (disch := omega) only [mset_same, mset_nea, mset_nei, mcopy_nea, mcopy_in, mcopy_out, Int.reduceToNat, Int.toNat_natCast, Nat.zero_add, Nat.sub_zero] at r168a r168b ⊢
              refine x_iconst (pc := 171) dX2_nextToken_171 ?_
              refine x_iadd (pc := 172) dX2_nextToken_172 ?_
              refine x_puti (pc := 173) fnX2_26 dX2_nextToken_173 hP.1 (by omega) rfl ⟨by omega, by omega⟩ ?_
              refine x_goto (pc := 176) (t := 86) dX2_nextToken_176 (by decide) ?_
              rw [if_pos (by omega)] at hu
              
              refine ih (e2 + 1) (numT kd nb (tx e2)) _ (by omega) ?_ ?_ (((hF.ms (by omega)).ms (by omega))) (((hr1.ms (by decide)).ms (by decide)).to (tset_98 ?_ (by omega))) hu
              · unfold numT
                split
                · split <;> omega
                · omega
              · unfold numT
                split
                · split <;> omega
                · omega
              · unfold numT
                repeat' split
                all_goals omega
  have mid : ∀ M1 : Mem, Frm c (c + 1) M M1 → Rd tx n (fup v 7 S) M1 c → X g m_X2_nextToken 0 0 lay M1 45 [(0, vR c)] [] K := by
    intro M1 hF hr1
    have a2 : M1 c 2 = n := (hr1.2.1 2 (by decide) (by decide)).trans hr1.1.2
    have a7 : M1 c 7 = S := hr1.2.1 7 (by decide) (by decide)
    have hk0 := kind0 tx n S
    refine x_aload_n (pc := 45) dX2_nextToken_45 rfl rfl ?_
    refine x_aload_n (pc := 46) dX2_nextToken_46 rfl rfl ?_
    refine x_aload_n (pc := 47) dX2_nextToken_47 rfl rfl ?_
    refine x_geti (pc := 48) fX2_29 dX2_nextToken_48 hP.1 rfl (fun r48a r48b => ?_)
    rw [a7]
    refine x_callV (pc := 51) [_] rfl kX2_32 dX2_nextToken_51 hP.1 rfl rfl (by decide) (Nat.le_of_ble_eq_true rfl) (Nat.le_of_ble_eq_true rfl) (by decide) ?_
    refine sp_X2_kindAt hP hb0 hr1 (by omega) ?_
    rw [Int.toNat_natCast, ← hkd]
    refine ⟨_, rfl, ?_⟩
    refine x_puti (pc := 54) fnX2_36 dX2_nextToken_54 hP.1 (by omega) rfl ⟨by omega, by omega⟩ ?_
    refine x_aload_n (pc := 57) dX2_nextToken_57 rfl rfl ?_
    refine x_iconst (pc := 58) dX2_nextToken_58 ?_
    refine x_puti (pc := 59) fnX2_39 dX2_nextToken_59 hP.1 (by omega) rfl ⟨by omega, by omega⟩ ?_
    refine x_aload_n (pc := 62) dX2_nextToken_62 rfl rfl ?_
    refine x_aload_n (pc := 63) dX2_nextToken_63 rfl rfl ?_
    refine x_geti (pc := 64) fX2_29 dX2_nextToken_64 hP.1 rfl (fun r64a r64b => ?_)
    try simp (disch := omega) only [mset_same, mset_nea, mset_nei, mcopy_nea, mcopy_in, mcopy_out, Int.reduceToNat, Int.toNat_natCast, Nat.zero_add, Nat.sub_zero] at r64a r64b ⊢
    refine x_puti (pc := 67) fnX2_26 dX2_nextToken_67 hP.1 (by omega) rfl ⟨by omega, by omega⟩ ?_
    refine x_aload_n (pc := 70) dX2_nextToken_70 rfl rfl ?_
    refine x_geti (pc := 71) fX2_36 dX2_nextToken_71 hP.1 rfl (fun r71a r71b => ?_)
    try simp (disch := omega) only [mset_same, mset_nea, mset_nei, mcopy_nea, mcopy_in, mcopy_out, Int.reduceToNat, Int.toNat_natCast, Nat.zero_add, Nat.sub_zero] at r71a r71b ⊢
    refine x_iconst (pc := 74) dX2_nextToken_74 ?_
    refine x_icmp_eq (pc := 75) (t := 86) dX2_nextToken_75 (by decide) ⟨by omega, by omega⟩ ⟨by omega, by omega⟩ (fun c75 => ?_) (fun c75 => ?_)
    · rw [a7]
      exact run (by omega) (n - S) S 0 _ (by omega) (by decide) (by decide) (((hF.ms (by omega)).ms (by omega)).ms (by omega)) ((((hr1.ms (by decide)).ms (by decide)).ms (by decide)).to tset_0) rfl
    · refine x_aload_n (pc := 78) dX2_nextToken_78 rfl rfl ?_
      refine x_geti (pc := 79) fX2_36 dX2_nextToken_79 hP.1 rfl (fun r79a r79b => ?_)
      try simp (disch := omega) only [mset_same, mset_nea, mset_nei, mcopy_nea, mcopy_in, mcopy_out, Int.reduceToNat, Int.toNat_natCast, Nat.zero_add, Nat.sub_zero] at r79a r79b ⊢
      refine x_iconst (pc := 82) dX2_nextToken_82 ?_
      refine x_icmp_ne (pc := 83) (t := 179) dX2_nextToken_83 (by decide) ⟨by omega, by omega⟩ ⟨by omega, by omega⟩ (fun c83 => ?_) (fun c83 => ?_)
      · refine x_aload_n (pc := 179) dX2_nextToken_179 rfl rfl ?_
        refine x_geti (pc := 180) fX2_36 dX2_nextToken_180 hP.1 rfl (fun r180a r180b => ?_)
        try simp (disch := omega) only [mset_same, mset_nea, mset_nei, mcopy_nea, mcopy_in, mcopy_out, Int.reduceToNat, Int.toNat_natCast, Nat.zero_add, Nat.sub_zero] at r180a r180b ⊢
        refine x_if_eq (pc := 183) (t := 196) dX2_nextToken_183 (by decide) ⟨by omega, by omega⟩ (fun c183 => ?_) (fun c183 => ?_)
        · refine x_vret (pc := 196) dX2_nextToken_196 rfl (by decide) (by decide) ?_
          first
          | (rw [if_neg (show ¬ (kd = 1 ∨ kd = 2) by omega), if_pos (show kd = 0 by omega)] at hV
             rw [hV] at k
             rw [a7]
             exact k _ (((hF.ms (by omega)).ms (by omega)).ms (by omega)) ((((hr1.ms (by decide)).ms (by decide)).ms (by decide)).to tset_0))
          | (rw [if_neg (show ¬ (kd = 1 ∨ kd = 2) by omega), if_neg (show ¬ kd = 0 by omega)] at hV
             rw [hV] at k
             rw [a7]
             exact k _ ((((hF.ms (by omega)).ms (by omega)).ms (by omega)).ms (by omega)) (((((hr1.ms (by decide)).ms (by decide)).ms (by decide)).ms (by decide)).to tset_1))
        · refine x_aload_n (pc := 186) dX2_nextToken_186 rfl rfl ?_
          refine x_dup (pc := 187) dX2_nextToken_187 rfl ?_
          refine x_geti (pc := 188) fX2_26 dX2_nextToken_188 hP.1 rfl (fun r188a r188b => ?_)
          try simp (disch := omega) only [mset_same, mset_nea, mset_nei, mcopy_nea, mcopy_in, mcopy_out, Int.reduceToNat, Int.toNat_natCast, Nat.zero_add, Nat.sub_zero] at r188a r188b ⊢
          refine x_iconst (pc := 191) dX2_nextToken_191 ?_
          refine x_iadd (pc := 192) dX2_nextToken_192 ?_
          refine x_puti (pc := 193) fnX2_26 dX2_nextToken_193 hP.1 (by omega) rfl ⟨by omega, by omega⟩ ?_
          refine x_vret (pc := 196) dX2_nextToken_196 rfl (by decide) (by decide) ?_
          first
          | (rw [if_neg (show ¬ (kd = 1 ∨ kd = 2) by omega), if_pos (show kd = 0 by omega)] at hV
             rw [hV] at k
             rw [a7]
             exact k _ (((hF.ms (by omega)).ms (by omega)).ms (by omega)) ((((hr1.ms (by decide)).ms (by decide)).ms (by decide)).to tset_0))
          | (rw [if_neg (show ¬ (kd = 1 ∨ kd = 2) by omega), if_neg (show ¬ kd = 0 by omega)] at hV
             rw [hV] at k
             rw [a7]
             exact k _ ((((hF.ms (by omega)).ms (by omega)).ms (by omega)).ms (by omega)) (((((hr1.ms (by decide)).ms (by decide)).ms (by decide)).ms (by decide)).to tset_1))
      · rw [a7]
        exact run (by omega) (n - S) S 0 _ (by omega) (by decide) (by decide) (((hF.ms (by omega)).ms (by omega)).ms (by omega)) ((((hr1.ms (by decide)).ms (by decide)).ms (by decide)).to tset_0) rfl
  have skip : ∀ (d s : Nat) (M1 : Mem), s + d = n → Frm c (c + 1) M M1 → Rd tx n (fup v 7 s) M1 c → skipF tx n d s = S → X g m_X2_nextToken 0 0 lay M1 8 [(0, vR c)] [] K := by
    intro d
    induction d with
    | zero =>
      intro s M1 hj hF hr1 hu
      have a2 : M1 c 2 = n := (hr1.2.1 2 (by decide) (by decide)).trans hr1.1.2
      have a7 : M1 c 7 = s := hr1.2.1 7 (by decide) (by decide)
      simp only [skipF] at hu
      refine x_aload_n (pc := 8) dX2_nextToken_8 rfl rfl ?_
      refine x_geti (pc := 9) fX2_29 dX2_nextToken_9 hP.1 rfl (fun r9a r9b => ?_)
      refine x_aload_n (pc := 12) dX2_nextToken_12 rfl rfl ?_
      refine x_geti (pc := 13) fX2_23 dX2_nextToken_13 hP.1 rfl (fun r13a r13b => ?_)
      refine x_icmp_ge (pc := 16) (t := 45) dX2_nextToken_16 (by decide) ⟨by omega, by omega⟩ ⟨by omega, by omega⟩ (fun c16 => ?_) (fun c16 => ?_)
      · rw [hu] at hr1
        exact mid _ hF hr1
      · exfalso; omega
    | succ d ih =>
      intro s M1 hj hF hr1 hu
      have a2 : M1 c 2 = n := (hr1.2.1 2 (by decide) (by decide)).trans hr1.1.2
      have a7 : M1 c 7 = s := hr1.2.1 7 (by decide) (by decide)
      have hk2 := kindF_rng tx n s
      simp only [skipF] at hu
      refine x_aload_n (pc := 8) dX2_nextToken_8 rfl rfl ?_
      refine x_geti (pc := 9) fX2_29 dX2_nextToken_9 hP.1 rfl (fun r9a r9b => ?_)
      refine x_aload_n (pc := 12) dX2_nextToken_12 rfl rfl ?_
      refine x_geti (pc := 13) fX2_23 dX2_nextToken_13 hP.1 rfl (fun r13a r13b => ?_)
      refine x_icmp_ge (pc := 16) (t := 45) dX2_nextToken_16 (by decide) ⟨by omega, by omega⟩ ⟨by omega, by omega⟩ (fun c16 => ?_) (fun c16 => ?_)
      · exfalso; omega
      · refine x_aload_n (pc := 19) dX2_nextToken_19 rfl rfl ?_
        refine x_aload_n (pc := 20) dX2_nextToken_20 rfl rfl ?_
        refine x_geti (pc := 21) fX2_29 dX2_nextToken_21 hP.1 rfl (fun r21a r21b => ?_)
        rw [a7]
        refine x_callV (pc := 24) [_] rfl kX2_32 dX2_nextToken_24 hP.1 rfl rfl (by decide) (Nat.le_of_ble_eq_true rfl) (Nat.le_of_ble_eq_true rfl) (by decide) ?_
        refine sp_X2_kindAt hP hb0 hr1 (by omega) ?_
        refine ⟨_, rfl, ?_⟩
        refine x_bipush (pc := 27) dX2_nextToken_27 (by decide) ?_
        rw [Int.toNat_natCast]
        refine x_icmp_ne (pc := 29) (t := 45) dX2_nextToken_29 (by decide) ⟨by omega, by omega⟩ ⟨by omega, by omega⟩ (fun c29 => ?_) (fun c29 => ?_)
        · rw [if_neg (by omega)] at hu
          rw [hu] at hr1
          exact mid _ hF hr1
        · refine x_aload_n (pc := 32) dX2_nextToken_32 rfl rfl ?_
          refine x_dup (pc := 33) dX2_nextToken_33 rfl ?_
          refine x_geti (pc := 34) fX2_29 dX2_nextToken_34 hP.1 rfl (fun r34a r34b => ?_)
          refine x_iconst (pc := 37) dX2_nextToken_37 ?_
          refine x_iadd (pc := 38) dX2_nextToken_38 ?_
          rw [a7]
          refine x_puti (pc := 39) fnX2_29 dX2_nextToken_39 hP.1 (by omega) rfl ⟨by omega, by omega⟩ ?_
          refine x_goto (pc := 42) (t := 8) dX2_nextToken_42 (by decide) ?_
          rw [if_pos (by omega)] at hu
          have a7s : ((s : Int) + 1) = ((s + 1 : Nat) : Int) := by omega
          rw [a7s]
          exact ih (s + 1) _ (by omega) (hF.ms (by omega)) ((hr1.ms (by decide)).to fup_fup) hu
  have a8 : M c 8 = e := (hr.2.1 8 (by decide) (by decide)).trans he
  refine x_aload_n (pc := 0) dX2_nextToken_0 rfl rfl ?_
  refine x_aload_n (pc := 1) dX2_nextToken_1 rfl rfl ?_
  refine x_geti (pc := 2) fX2_26 dX2_nextToken_2 hP.1 rfl (fun r2a r2b => ?_)
  rw [a8]
  refine x_puti (pc := 5) fnX2_29 dX2_nextToken_5 hP.1 (by omega) rfl ⟨by omega, by omega⟩ ?_
  exact skip (n - e) e _ (by omega) (Frm.rf.ms (by omega)) (hr.ms (by decide)) hS.symm
