/-! Specs of the making of sign rows, third part. -/

set_option maxRecDepth 100000 in
theorem sp_X3_cancel {g : GG} {lay : Lay} {M : Mem} {K : KK} {c q low top : Nat} {w e : Nat → Int} (hs : SrL lay c) (hb0 : g.2.1 ≤ c) (hw : ∀ i, i < 5 → M (c + 8) i = w i) (hq : q < 5) (he : ∀ i, i < 5 → M (c + 2 + q) i = e i) (hlt : low ≤ top) (ht4 : top ≤ 4) (hc : canOK e low top w) (k : ∀ M2, Frm (c + 8) (c + 9) M M2 → (∀ i, i < 5 → M2 (c + 8) i = canF e low top w i) → K (.inl none) lay M2) : X g m_X3_cancel 0 0 lay M 0 [(0, vR c), (1, vI top), (2, vR (c + 2 + q)), (3, vI low)] [] K := by
  have el := he low (by omega)
  have wt := hw top (by omega)
  have w0 := hw 0 (by omega)
  have e0 := he 0 (by omega)
  obtain ⟨fac, hfac⟩ : ∃ z, z = (if 0 < e low then w top else -w top) := ⟨_, rfl⟩
  obtain ⟨siz, hsiz⟩ : ∃ z, z = ab (e low) := ⟨_, rfl⟩
  have loop2 : ¬ (low = 1 ∧ top = 1) → ∀ (d j : Nat) (y : Int) (M1 : Mem), j + d = low → y = j → Frm (c + 8) (c + 9) M M1 → (∀ i, i < 5 → M1 (c + 8) i = if top - low ≤ i ∧ i < top - low + j then canF e low top w i else if i = top then 0 else if i < top then w i * siz else w i) → X g m_X3_cancel 0 0 lay M1 106 [(8, vI y), (6, vJ fac), (4, vJ siz), (0, vR c), (1, vI top), (2, vR (c + 2 + q)), (3, vI low)] [] K := by
    intro hne d
    induction d with
    | zero =>
      intro j y M1 hj hy hF hw1
      refine x_iload (pc := 106) dX3_cancel_106 rfl ?_
      refine x_iload_n (pc := 108) dX3_cancel_108 rfl rfl ?_
      refine x_icmp_ge (pc := 109) (t := 139) dX3_cancel_109 (by decide) ⟨by omega, by omega⟩ ⟨by omega, by omega⟩ (fun c109 => ?_) (fun c109 => ?_)
      · refine x_vret (pc := 139) dX3_cancel_139 rfl (by decide) (by decide) ?_
        refine k _ hF (fun i hi => ?_)
        rw [hw1 i hi]
        by_cases a1 : top - low ≤ i ∧ i < top - low + j
        · rw [if_pos a1]
        · rw [if_neg a1]
          unfold canF
          rw [if_neg hne]
          by_cases a2 : i = top
          · rw [if_pos a2, if_pos a2]
          · rw [if_neg a2, if_neg a2, if_neg (show ¬ (top - low ≤ i ∧ i < top) by omega), hsiz, Int.sub_zero]
      · exfalso; omega
    | succ d ih =>
      intro j y M1 hj hy hF hw1
      subst hy
      have e1 := hw1 (top - low + j) (by omega)
      rw [if_neg (by omega), if_neg (by omega), if_pos (by omega)] at e1
      have e2 : ((top : Int) - low + j).toNat = top - low + j := by omega
      have e3 : M1 (c + 2 + q) j = e j := by rw [hF _ _ (by omega)]; exact he j (by omega)
      have e4 := (hc.2 hne (top - low + j) (by omega)).2
      have e5 : canF e low top w (top - low + j) = w (top - low + j) * siz - fac * e j := by
        unfold canF
        rw [if_neg hne, if_neg (by omega), if_pos (by omega), if_pos (by omega), ← hfac, ← hsiz, show top - low + j - (top - low) = j by omega]
      rw [e5] at e4
      obtain ⟨e6, e7⟩ := e4
      refine x_iload (pc := 106) dX3_cancel_106 rfl ?_
      refine x_iload_n (pc := 108) dX3_cancel_108 rfl rfl ?_
      refine x_icmp_ge (pc := 109) (t := 139) dX3_cancel_109 (by decide) ⟨by omega, by omega⟩ ⟨by omega, by omega⟩ (fun c109 => ?_) (fun c109 => ?_)
      · exfalso; omega
      · refine x_aload_n (pc := 112) dX3_cancel_112 rfl rfl ?_
        refine x_getr (pc := 113) (b := c + 8) fX3_20 dX3_cancel_113 hs.1 rfl rfl ?_
        refine x_iload_n (pc := 116) dX3_cancel_116 rfl rfl ?_
        refine x_iload_n (pc := 117) dX3_cancel_117 rfl rfl ?_
        refine x_isub (pc := 118) dX3_cancel_118 ?_
        refine x_iload (pc := 119) dX3_cancel_119 rfl ?_
        refine x_iadd (pc := 121) dX3_cancel_121 ?_
        refine x_dup2 (pc := 122) dX3_cancel_122 rfl rfl ?_
        refine x_lald (pc := 123) dX3_cancel_123 hs.2.2.2.2.2.2.2.2 (by omega) (by omega) (fun r123a r123b => ?_)
        rw [e2, e1]
        refine x_lload (pc := 124) dX3_cancel_124 rfl ?_
        refine x_aload_n (pc := 126) dX3_cancel_126 rfl rfl ?_
        refine x_iload (pc := 127) dX3_cancel_127 rfl ?_
        refine x_lald (pc := 129) dX3_cancel_129 (hs.row hq) (by omega) (by omega) (fun r129a r129b => ?_)
        rw [Int.toNat_natCast, e3]
        refine x_lmul (pc := 130) dX3_cancel_130 ?_
        refine x_lsub (pc := 131) dX3_cancel_131 ?_
        refine x_last (pc := 132) dX3_cancel_132 hs.2.2.2.2.2.2.2.2 (by omega) (by omega) (by omega) ⟨by omega, by omega⟩ ?_
        refine x_iinc (pc := 133) dX3_cancel_133 rfl (by decide) (L' := [(8, _), (6, _), (4, _), (0, _), (1, _), (2, _), (3, _)]) rfl ?_
        refine x_goto (pc := 136) (t := 106) dX3_cancel_136 (by decide) ?_
        rw [e2]
        refine X.loc [0, 1, 2, 3, 4, 5, 6] (L' := [(8, _), (6, _), (4, _), (0, _), (1, _), (2, _), (3, _)]) rfl ?_
        refine ih (j + 1) _ _ (by omega) (by omega) (hF.ms (by omega)) (fun i hi => ?_)
        by_cases a1 : i = top - low + j
        · rw [a1, mset_same, if_pos (by omega), e5]
        · rw [mset_nei a1, hw1 i hi]
          by_cases a2 : top - low ≤ i ∧ i < top - low + j
          · rw [if_pos a2, if_pos (by omega)]
          · rw [if_neg a2, if_neg (show ¬ (top - low ≤ i ∧ i < top - low + (j + 1)) by omega)]
  have loop1 : ¬ (low = 1 ∧ top = 1) → ∀ (d j : Nat) (y : Int) (M1 : Mem), j + d = top → y = j → Frm (c + 8) (c + 9) M M1 → (∀ i, i < 5 → M1 (c + 8) i = if i < j then w i * siz else if i = top then 0 else w i) → X g m_X3_cancel 0 0 lay M1 79 [(8, vI y), (6, vJ fac), (4, vJ siz), (0, vR c), (1, vI top), (2, vR (c + 2 + q)), (3, vI low)] [] K := by
    intro hne d
    induction d with
    | zero =>
      intro j y M1 hj hy hF hw1
      refine x_iload (pc := 79) dX3_cancel_79 rfl ?_
      refine x_iload_n (pc := 81) dX3_cancel_81 rfl rfl ?_
      refine x_icmp_ge (pc := 82) (t := 103) dX3_cancel_82 (by decide) ⟨by omega, by omega⟩ ⟨by omega, by omega⟩ (fun c82 => ?_) (fun c82 => ?_)
      · refine x_iconst (pc := 103) dX3_cancel_103 ?_
        refine x_istore (pc := 104) dX3_cancel_104 trivial (by decide) (L' := [(8, _), (6, _), (4, _), (0, _), (1, _), (2, _), (3, _)]) rfl ?_
        refine X.loc [0, 1, 2, 3, 4, 5, 6] (L' := [(8, _), (6, _), (4, _), (0, _), (1, _), (2, _), (3, _)]) rfl ?_
        refine loop2 hne low 0 _ _ (by omega) rfl hF (fun i hi => ?_)
        rw [hw1 i hi, if_neg (show ¬ (top - low ≤ i ∧ i < top - low + 0) by omega)]
        by_cases a1 : i < j
        · rw [if_pos a1, if_neg (by omega), if_pos (by omega)]
        · rw [if_neg a1]
          by_cases a2 : i = top
          · rw [if_pos a2, if_pos a2]
          · rw [if_neg a2, if_neg a2, if_neg (by omega)]
      · exfalso; omega
    | succ d ih =>
      intro j y M1 hj hy hF hw1
      subst hy
      have e1 := hw1 j (by omega)
      rw [if_neg (by omega), if_neg (by omega)] at e1
      have e4 := (hc.2 hne j (by omega)).1
      rw [← hsiz] at e4
      obtain ⟨e6, e7⟩ := e4
      refine x_iload (pc := 79) dX3_cancel_79 rfl ?_
      refine x_iload_n (pc := 81) dX3_cancel_81 rfl rfl ?_
      refine x_icmp_ge (pc := 82) (t := 103) dX3_cancel_82 (by decide) ⟨by omega, by omega⟩ ⟨by omega, by omega⟩ (fun c82 => ?_) (fun c82 => ?_)
      · exfalso; omega
      · refine x_aload_n (pc := 85) dX3_cancel_85 rfl rfl ?_
        refine x_getr (pc := 86) (b := c + 8) fX3_20 dX3_cancel_86 hs.1 rfl rfl ?_
        refine x_iload (pc := 89) dX3_cancel_89 rfl ?_
        refine x_dup2 (pc := 91) dX3_cancel_91 rfl rfl ?_
        refine x_lald (pc := 92) dX3_cancel_92 hs.2.2.2.2.2.2.2.2 (by omega) (by omega) (fun r92a r92b => ?_)
        rw [Int.toNat_natCast, e1]
        refine x_lload (pc := 93) dX3_cancel_93 rfl ?_
        refine x_lmul (pc := 95) dX3_cancel_95 ?_
        refine x_last (pc := 96) dX3_cancel_96 hs.2.2.2.2.2.2.2.2 (by omega) (by omega) (by omega) ⟨by omega, by omega⟩ ?_
        refine x_iinc (pc := 97) dX3_cancel_97 rfl (by decide) (L' := [(8, _), (6, _), (4, _), (0, _), (1, _), (2, _), (3, _)]) rfl ?_
        refine x_goto (pc := 100) (t := 79) dX3_cancel_100 (by decide) ?_
        refine X.loc [0, 1, 2, 3, 4, 5, 6] (L' := [(8, _), (6, _), (4, _), (0, _), (1, _), (2, _), (3, _)]) rfl ?_
        refine ih (j + 1) _ _ (by omega) (by omega) (hF.ms (by omega)) (fun i hi => ?_)
        by_cases a1 : i = j
        · rw [a1, Int.toNat_natCast, mset_same, if_pos (by omega)]
        · rw [mset_nei (by omega), hw1 i hi]
          by_cases a2 : i < j
          · rw [if_pos a2, if_pos (by omega)]
          · rw [if_neg a2, if_neg (show ¬ i < j + 1 by omega)]
  have rest : X g m_X3_cancel 0 0 lay M 34 [(6, vJ fac), (4, vJ siz), (0, vR c), (1, vI top), (2, vR (c + 2 + q)), (3, vI low)] [] K := by
    refine x_aload_n (pc := 34) dX3_cancel_34 rfl rfl ?_
    refine x_getr (pc := 35) (b := c + 8) fX3_20 dX3_cancel_35 hs.1 rfl rfl ?_
    refine x_iload_n (pc := 38) dX3_cancel_38 rfl rfl ?_
    refine x_lconst (pc := 39) (x := 0) dX3_cancel_39 (by decide) ?_
    refine x_last (pc := 40) dX3_cancel_40 hs.2.2.2.2.2.2.2.2 (by omega) (by omega) (by omega) ⟨by omega, by omega⟩ ?_
    refine x_iload_n (pc := 41) dX3_cancel_41 rfl rfl ?_
    refine x_iconst (pc := 42) dX3_cancel_42 ?_
    refine x_icmp_ne (pc := 43) (t := 76) dX3_cancel_43 (by decide) ⟨by omega, by omega⟩ ⟨by omega, by omega⟩ (fun c43 => ?_) (fun c43 => ?_)
    · refine x_iconst (pc := 76) dX3_cancel_76 ?_
      refine x_istore (pc := 77) dX3_cancel_77 trivial (by decide) (L' := [(8, _), (6, _), (4, _), (0, _), (1, _), (2, _), (3, _)]) rfl ?_
      refine X.loc [0, 1, 2, 3, 4, 5, 6] (L' := [(8, _), (6, _), (4, _), (0, _), (1, _), (2, _), (3, _)]) rfl ?_
      refine loop1 (by omega) top 0 _ _ (by omega) rfl (Frm.rf.ms (by omega)) (fun i hi => ?_)
      rw [if_neg (by omega), Int.toNat_natCast]
      by_cases a2 : i = top
      · rw [if_pos a2, a2, mset_same]
      · rw [if_neg a2, mset_nei a2]
        exact hw i hi
    · refine x_iload_n (pc := 46) dX3_cancel_46 rfl rfl ?_
      refine x_iconst (pc := 47) dX3_cancel_47 ?_
      refine x_icmp_ne (pc := 48) (t := 76) dX3_cancel_48 (by decide) ⟨by omega, by omega⟩ ⟨by omega, by omega⟩ (fun c48 => ?_) (fun c48 => ?_)
      · refine x_iconst (pc := 76) dX3_cancel_76 ?_
        refine x_istore (pc := 77) dX3_cancel_77 trivial (by decide) (L' := [(8, _), (6, _), (4, _), (0, _), (1, _), (2, _), (3, _)]) rfl ?_
        refine X.loc [0, 1, 2, 3, 4, 5, 6] (L' := [(8, _), (6, _), (4, _), (0, _), (1, _), (2, _), (3, _)]) rfl ?_
        refine loop1 (by omega) top 0 _ _ (by omega) rfl (Frm.rf.ms (by omega)) (fun i hi => ?_)
        rw [if_neg (by omega), Int.toNat_natCast]
        by_cases a2 : i = top
        · rw [if_pos a2, a2, mset_same]
        · rw [if_neg a2, mset_nei a2]
          exact hw i hi
      · obtain ⟨rfl, rfl⟩ : low = 1 ∧ top = 1 := ⟨by omega, by omega⟩
        obtain ⟨⟨g1, g2⟩, ⟨g3, g4⟩, ⟨g5, g6⟩, g7, g8⟩ := hc.1 ⟨rfl, rfl⟩
        refine x_aload_n (pc := 51) dX3_cancel_51 rfl rfl ?_
        refine x_getr (pc := 52) (b := c + 8) fX3_20 dX3_cancel_52 hs.1 rfl rfl ?_
        refine x_iconst (pc := 55) dX3_cancel_55 ?_
        refine x_lload (pc := 56) dX3_cancel_56 rfl ?_
        refine x_aload_n (pc := 58) dX3_cancel_58 rfl rfl ?_
        refine x_getr (pc := 59) (b := c + 8) fX3_20 dX3_cancel_59 hs.1 rfl rfl ?_
        refine x_iconst (pc := 62) dX3_cancel_62 ?_
        refine x_lald (pc := 63) dX3_cancel_63 hs.2.2.2.2.2.2.2.2 (by omega) (by omega) (fun r63a r63b => ?_)
        try simp (disch := omega) only [mset_same, mset_nea, mset_nei, mcopy_nea, mcopy_in, mcopy_out, Int.reduceToNat, Int.toNat_natCast, Nat.zero_add, Nat.sub_zero] at r63a r63b ⊢
        rw [w0]
        refine x_aload_n (pc := 64) dX3_cancel_64 rfl rfl ?_
        refine x_iconst (pc := 65) dX3_cancel_65 ?_
        refine x_lald (pc := 66) dX3_cancel_66 (hs.row hq) (by omega) (by omega) (fun r66a r66b => ?_)
        try simp (disch := omega) only [mset_same, mset_nea, mset_nei, mcopy_nea, mcopy_in, mcopy_out, Int.reduceToNat, Int.toNat_natCast, Nat.zero_add, Nat.sub_zero] at r66a r66b ⊢
        rw [e0]
        refine x_lneg (pc := 67) dX3_cancel_67 ?_
        refine x_lload (pc := 68) dX3_cancel_68 rfl ?_
        have q1 : -68719476736 < siz ∧ siz < 68719476736 := by rw [hsiz]; unfold ab; split <;> omega
        have q2 : -2251799813685248 < fac ∧ fac < 2251799813685248 := by rw [hfac]; split <;> omega
        refine x_callS (pc := 70) [_, _, _, _] rfl kX3_60 dX3_cancel_70 rfl (by decide) (Nat.le_of_ble_eq_true rfl) (Nat.le_of_ble_eq_true rfl) (by decide) ?_
        refine sp_X3_signOfSum q1 ⟨g5, g6⟩ (by omega) q2 ?_
        refine ⟨_, rfl, ?_⟩
        have q3 := sg_rng (siz * w 0 + -e 0 * fac)
        refine x_i2l (pc := 73) ⟨by omega, by omega⟩ dX3_cancel_73 ?_
        refine x_last (pc := 74) dX3_cancel_74 hs.2.2.2.2.2.2.2.2 (by omega) (by omega) (by omega) ⟨by omega, by omega⟩ ?_
        refine x_vret (pc := 75) dX3_cancel_75 rfl (by decide) (by decide) ?_
        refine k _ ((Frm.rf.ms (by omega)).ms (by omega)) (fun i hi => ?_)
        unfold canF
        rw [if_pos ⟨rfl, rfl⟩]
        by_cases a1 : i = 0
        · rw [if_pos a1, a1, show (0 : Int).toNat = 0 from rfl, mset_same, ← hfac, ← hsiz]
        · rw [if_neg a1, show (0 : Int).toNat = 0 from rfl, mset_nei a1]
          by_cases a2 : i = 1
          · rw [if_pos a2, a2, mset_same]
          · rw [if_neg a2, mset_nei a2]
            exact hw i hi
  refine x_aload_n (pc := 0) dX3_cancel_0 rfl rfl ?_
  refine x_iload_n (pc := 1) dX3_cancel_1 rfl rfl ?_
  refine x_lald (pc := 2) dX3_cancel_2 (hs.row hq) (by omega) (by omega) (fun r2a r2b => ?_)
  rw [Int.toNat_natCast, el] at r2a r2b ⊢
  refine x_mlabs (pc := 3) kmX3_54 dX3_cancel_3 ⟨by omega, by omega⟩ (Nat.le_of_ble_eq_true rfl) (by decide) (by decide) (by decide) ?_
  refine x_lstore (pc := 6) dX3_cancel_6 trivial (by decide) (L' := [(4, _), (0, _), (1, _), (2, _), (3, _)]) rfl ?_
  refine x_aload_n (pc := 8) dX3_cancel_8 rfl rfl ?_
  refine x_iload_n (pc := 9) dX3_cancel_9 rfl rfl ?_
  refine x_lald (pc := 10) dX3_cancel_10 (hs.row hq) (by omega) (by omega) (fun r10a r10b => ?_)
  rw [Int.toNat_natCast, el]
  refine x_lconst (pc := 11) (x := 0) dX3_cancel_11 (by decide) ?_
  refine x_lcmp_le (pc := 12) (t := 25) dX3_cancel_12 dX3_cancel_13 (by decide) ⟨by omega, by omega⟩ ⟨by omega, by omega⟩ (fun c12 => ?_) (fun c12 => ?_)
  · refine x_aload_n (pc := 25) dX3_cancel_25 rfl rfl ?_
    refine x_getr (pc := 26) (b := c + 8) fX3_20 dX3_cancel_26 hs.1 rfl rfl ?_
    refine x_iload_n (pc := 29) dX3_cancel_29 rfl rfl ?_
    refine x_lald (pc := 30) dX3_cancel_30 hs.2.2.2.2.2.2.2.2 (by omega) (by omega) (fun r30a r30b => ?_)
    rw [Int.toNat_natCast, wt]
    refine x_lneg (pc := 31) dX3_cancel_31 ?_
    refine x_lstore (pc := 32) dX3_cancel_32 trivial (by decide) (L' := [(6, _), (4, _), (0, _), (1, _), (2, _), (3, _)]) rfl ?_
    refine X.loc [0, 1, 2, 3, 4, 5] (L' := [(6, _), (4, _), (0, _), (1, _), (2, _), (3, _)]) rfl ?_
    rw [hfac, hsiz] at rest
    unfold ab at rest
    first
    | (have h9 : 0 < e low := by omega
       simp only [h9, if_true] at rest ⊢
       exact rest)
    | (have h9 : ¬ 0 < e low := by omega
       simp only [h9, if_false] at rest ⊢
       exact rest)
  · refine x_aload_n (pc := 16) dX3_cancel_16 rfl rfl ?_
    refine x_getr (pc := 17) (b := c + 8) fX3_20 dX3_cancel_17 hs.1 rfl rfl ?_
    refine x_iload_n (pc := 20) dX3_cancel_20 rfl rfl ?_
    refine x_lald (pc := 21) dX3_cancel_21 hs.2.2.2.2.2.2.2.2 (by omega) (by omega) (fun r21a r21b => ?_)
    rw [Int.toNat_natCast, wt]
    refine x_goto (pc := 22) (t := 32) dX3_cancel_22 (by decide) ?_
    refine x_lstore (pc := 32) dX3_cancel_32 trivial (by decide) (L' := [(6, _), (4, _), (0, _), (1, _), (2, _), (3, _)]) rfl ?_
    refine X.loc [0, 1, 2, 3, 4, 5] (L' := [(6, _), (4, _), (0, _), (1, _), (2, _), (3, _)]) rfl ?_
    rw [hfac, hsiz] at rest
    unfold ab at rest
    first
    | (have h9 : 0 < e low := by omega
       simp only [h9, if_true] at rest ⊢
       exact rest)
    | (have h9 : ¬ 0 < e low := by omega
       simp only [h9, if_false] at rest ⊢
       exact rest)
