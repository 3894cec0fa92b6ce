/-! Specs of the making of sign rows, third part. -/

set_option maxRecDepth 100000 in
theorem sp_X3_cancel {g : GG} {lay : Lay} {M : Mem} {K : KK} {c q low top : Nat} {w e : Nat → Int} (hs : SrL lay c) (hb0 : g.2.1 ≤ c) (hw : ∀ i, i < 5 → M (c + 8) i = w i) (hq : q < 5) (he : ∀ i, i < 5 → M (c + 2 + q) i = e i) (hlt : low ≤ top) (ht4 : top ≤ 4) (hc : canOK e low top w) (k : ∀ M2, Frm (c + 8) (c + 9) M M2 → (∀ i, i < 5 → M2 (c + 8) i = canF e low top w i) → K (.inl none) lay M2) : X g m_X3_cancel 0 0 lay M 0 [(0, vR c), (1, vI top), (2, vR (c + 2 + q)), (3, vI low)] [] K := by
  have el := he low (by omega)
  have wt := hw top (by omega)
  have w0 := hw 0 (by omega)
  have e0 := he 0 (by omega)
  obtain ⟨fac, hfac⟩ : ∃ z, z = (if 0 < e low then w top else -w top) := ⟨_, rfl⟩
  obtain ⟨siz, hsiz⟩ : ∃ z, z = ab (e low) := ⟨_, rfl⟩
  have loop2 : ¬ (low = 1 ∧ top = 1) → ∀ (d j : Nat) (y : Int) (M1 : Mem), j + d = low → y = j → Frm (c + 8) (c + 9) M M1 → (∀ i, i < 5 → M1 (c + 8) i = if top - low ≤ i ∧ i < top - low + j then canF e low top w i else if i = top then 0 else if i < top then w i * siz else w i) → X g m_X3_cancel 0 0 lay M1 127 [(8, vI y), (6, vJ fac), (4, vJ siz), (0, vR c), (1, vI top), (2, vR (c + 2 + q)), (3, vI low)] [] K := by
    intro hne d
    induction d with
    | zero =>
      intro j y M1 hj hy hF hw1
      refine x_iload (pc := 127) dX3_cancel_127 rfl ?_
      refine x_iload_n (pc := 129) dX3_cancel_129 rfl rfl ?_
      refine x_icmp_ge (pc := 130) (t := 160) dX3_cancel_130 (by decide) ⟨by omega, by omega⟩ ⟨by omega, by omega⟩ (fun c130 => ?_) (fun c130 => ?_)
      · refine x_vret (pc := 160) dX3_cancel_160 rfl (by decide) (by decide) ?_
        refine k _ hF (fun i hi => ?_)
        rw [hw1 i hi]
        by_cases a1 : top - low ≤ i ∧ i < top - low + j
        · rw [if_pos a1]
        · rw [if_neg a1]
          unfold canF
          rw [if_neg hne]
          by_cases a2 : i = top
          · rw [if_pos a2, if_pos a2]
          · rw [if_neg a2, if_neg a2, if_neg (show ¬ (top - low ≤ i ∧ i < top) by omega), hsiz, Int.sub_zero]
      · exfalso; omega
    | succ d ih =>
      intro j y M1 hj hy hF hw1
      subst hy
      have e1 := hw1 (top - low + j) (by omega)
      rw [if_neg (by omega), if_neg (by omega), if_pos (by omega)] at e1
      have e2 : ((top : Int) - low + j).toNat = top - low + j := by omega
      have e3 : M1 (c + 2 + q) j = e j := by rw [hF _ _ (by omega)]; exact he j (by omega)
      have e4 := (hc.2 hne (top - low + j) (by omega)).2
      have e5 : canF e low top w (top - low + j) = w (top - low + j) * siz - fac * e j := by
        unfold canF
        rw [if_neg hne, if_neg (by omega), if_pos (by omega), if_pos (by omega), ← hfac, ← hsiz, show top - low + j - (top - low) = j by omega]
      rw [e5] at e4
      obtain ⟨e6, e7⟩ := e4
      refine x_iload (pc := 127) dX3_cancel_127 rfl ?_
      refine x_iload_n (pc := 129) dX3_cancel_129 rfl rfl ?_
      refine x_icmp_ge (pc := 130) (t := 160) dX3_cancel_130 (by decide) ⟨by omega, by omega⟩ ⟨by omega, by omega⟩ (fun c130 => ?_) (fun c130 => ?_)
      · exfalso; omega
      · refine x_aload_n (pc := 133) dX3_cancel_133 rfl rfl ?_
        refine x_getr (pc := 134) (b := c + 8) fX3_20 dX3_cancel_134 hs.1 rfl rfl ?_
        refine x_iload_n (pc := 137) dX3_cancel_137 rfl rfl ?_
        refine x_iload_n (pc := 138) dX3_cancel_138 rfl rfl ?_
        refine x_isub (pc := 139) dX3_cancel_139 ?_
        refine x_iload (pc := 140) dX3_cancel_140 rfl ?_
        refine x_iadd (pc := 142) dX3_cancel_142 ?_
        refine x_dup2 (pc := 143) dX3_cancel_143 rfl rfl ?_
        refine x_lald (pc := 144) dX3_cancel_144 hs.2.2.2.2.2.2.2.2 (by omega) (by omega) (fun r144a r144b => ?_)
        rw [e2, e1]
        refine x_lload (pc := 145) dX3_cancel_145 rfl ?_
        refine x_aload_n (pc := 147) dX3_cancel_147 rfl rfl ?_
        refine x_iload (pc := 148) dX3_cancel_148 rfl ?_
        refine x_lald (pc := 150) dX3_cancel_150 (hs.row hq) (by omega) (by omega) (fun r150a r150b => ?_)
        rw [Int.toNat_natCast, e3]
        refine x_lmul (pc := 151) dX3_cancel_151 ?_
        refine x_lsub (pc := 152) dX3_cancel_152 ?_
        refine x_last (pc := 153) dX3_cancel_153 hs.2.2.2.2.2.2.2.2 (by omega) (by omega) (by omega) ⟨by omega, by omega⟩ ?_
        refine x_iinc (pc := 154) dX3_cancel_154 rfl (by decide) (L' := [(8, _), (6, _), (4, _), (0, _), (1, _), (2, _), (3, _)]) rfl ?_
        refine x_goto (pc := 157) (t := 127) dX3_cancel_157 (by decide) ?_
        rw [e2]
        refine X.loc [0, 1, 2, 3, 4, 5, 6] (L' := [(8, _), (6, _), (4, _), (0, _), (1, _), (2, _), (3, _)]) rfl ?_
        refine ih (j + 1) _ _ (by omega) (by omega) (hF.ms (by omega)) (fun i hi => ?_)
        by_cases a1 : i = top - low + j
        · rw [a1, mset_same, if_pos (by omega), e5]
        · rw [mset_nei a1, hw1 i hi]
          by_cases a2 : top - low ≤ i ∧ i < top - low + j
          · rw [if_pos a2, if_pos (by omega)]
          · rw [if_neg a2, if_neg (show ¬ (top - low ≤ i ∧ i < top - low + (j + 1)) by omega)]
  have loop1 : ¬ (low = 1 ∧ top = 1) → ∀ (d j : Nat) (y : Int) (M1 : Mem), j + d = top → y = j → Frm (c + 8) (c + 9) M M1 → (∀ i, i < 5 → M1 (c + 8) i = if i < j then w i * siz else if i = top then 0 else w i) → X g m_X3_cancel 0 0 lay M1 100 [(8, vI y), (6, vJ fac), (4, vJ siz), (0, vR c), (1, vI top), (2, vR (c + 2 + q)), (3, vI low)] [] K := by
    intro hne d
    induction d with
    | zero =>
      intro j y M1 hj hy hF hw1
      refine x_iload (pc := 100) dX3_cancel_100 rfl ?_
      refine x_iload_n (pc := 102) dX3_cancel_102 rfl rfl ?_
      refine x_icmp_ge (pc := 103) (t := 124) dX3_cancel_103 (by decide) ⟨by omega, by omega⟩ ⟨by omega, by omega⟩ (fun c103 => ?_) (fun c103 => ?_)
      · refine x_iconst (pc := 124) dX3_cancel_124 ?_
        refine x_istore (pc := 125) dX3_cancel_125 trivial (by decide) (L' := [(8, _), (6, _), (4, _), (0, _), (1, _), (2, _), (3, _)]) rfl ?_
        refine X.loc [0, 1, 2, 3, 4, 5, 6] (L' := [(8, _), (6, _), (4, _), (0, _), (1, _), (2, _), (3, _)]) rfl ?_
        refine loop2 hne low 0 _ _ (by omega) rfl hF (fun i hi => ?_)
        rw [hw1 i hi, if_neg (show ¬ (top - low ≤ i ∧ i < top - low + 0) by omega)]
        by_cases a1 : i < j
        · rw [if_pos a1, if_neg (by omega), if_pos (by omega)]
        · rw [if_neg a1]
          by_cases a2 : i = top
          · rw [if_pos a2, if_pos a2]
          · rw [if_neg a2, if_neg a2, if_neg (by omega)]
      · exfalso; omega
    | succ d ih =>
      intro j y M1 hj hy hF hw1
      subst hy
      have e1 := hw1 j (by omega)
      rw [if_neg (by omega), if_neg (by omega)] at e1
      have e4 := (hc.2 hne j (by omega)).1
      rw [← hsiz] at e4
      obtain ⟨e6, e7⟩ := e4
      refine x_iload (pc := 100) dX3_cancel_100 rfl ?_
      refine x_iload_n (pc := 102) dX3_cancel_102 rfl rfl ?_
      refine x_icmp_ge (pc := 103) (t := 124) dX3_cancel_103 (by decide) ⟨by omega, by omega⟩ ⟨by omega, by omega⟩ (fun c103 => ?_) (fun c103 => ?_)
      · exfalso; omega
      · refine x_aload_n (pc := 106) dX3_cancel_106 rfl rfl ?_
        refine x_getr (pc := 107) (b := c + 8) fX3_20 dX3_cancel_107 hs.1 rfl rfl ?_
        refine x_iload (pc := 110) dX3_cancel_110 rfl ?_
        refine x_dup2 (pc := 112) dX3_cancel_112 rfl rfl ?_
        refine x_lald (pc := 113) dX3_cancel_113 hs.2.2.2.2.2.2.2.2 (by omega) (by omega) (fun r113a r113b => ?_)
        rw [Int.toNat_natCast, e1]
        refine x_lload (pc := 114) dX3_cancel_114 rfl ?_
        refine x_lmul (pc := 116) dX3_cancel_116 ?_
        refine x_last (pc := 117) dX3_cancel_117 hs.2.2.2.2.2.2.2.2 (by omega) (by omega) (by omega) ⟨by omega, by omega⟩ ?_
        refine x_iinc (pc := 118) dX3_cancel_118 rfl (by decide) (L' := [(8, _), (6, _), (4, _), (0, _), (1, _), (2, _), (3, _)]) rfl ?_
        refine x_goto (pc := 121) (t := 100) dX3_cancel_121 (by decide) ?_
        refine X.loc [0, 1, 2, 3, 4, 5, 6] (L' := [(8, _), (6, _), (4, _), (0, _), (1, _), (2, _), (3, _)]) rfl ?_
        refine ih (j + 1) _ _ (by omega) (by omega) (hF.ms (by omega)) (fun i hi => ?_)
        by_cases a1 : i = j
        · rw [a1, Int.toNat_natCast, mset_same, if_pos (by omega)]
        · rw [mset_nei (by omega), hw1 i hi]
          by_cases a2 : i < j
          · rw [if_pos a2, if_pos (by omega)]
          · rw [if_neg a2, if_neg (show ¬ i < j + 1 by omega)]
  have rest : X g m_X3_cancel 0 0 lay M 55 [(6, vJ fac), (4, vJ siz), (0, vR c), (1, vI top), (2, vR (c + 2 + q)), (3, vI low)] [] K := by
    refine x_aload_n (pc := 55) dX3_cancel_55 rfl rfl ?_
    refine x_getr (pc := 56) (b := c + 8) fX3_20 dX3_cancel_56 hs.1 rfl rfl ?_
    refine x_iload_n (pc := 59) dX3_cancel_59 rfl rfl ?_
    refine x_lconst (pc := 60) (x := 0) dX3_cancel_60 (by decide) ?_
    refine x_last (pc := 61) dX3_cancel_61 hs.2.2.2.2.2.2.2.2 (by omega) (by omega) (by omega) ⟨by omega, by omega⟩ ?_
    refine x_iload_n (pc := 62) dX3_cancel_62 rfl rfl ?_
    refine x_iconst (pc := 63) dX3_cancel_63 ?_
    refine x_icmp_ne (pc := 64) (t := 97) dX3_cancel_64 (by decide) ⟨by omega, by omega⟩ ⟨by omega, by omega⟩ (fun c64 => ?_) (fun c64 => ?_)
    · refine x_iconst (pc := 97) dX3_cancel_97 ?_
      refine x_istore (pc := 98) dX3_cancel_98 trivial (by decide) (L' := [(8, _), (6, _), (4, _), (0, _), (1, _), (2, _), (3, _)]) rfl ?_
      refine X.loc [0, 1, 2, 3, 4, 5, 6] (L' := [(8, _), (6, _), (4, _), (0, _), (1, _), (2, _), (3, _)]) rfl ?_
      refine loop1 (by omega) top 0 _ _ (by omega) rfl (Frm.rf.ms (by omega)) (fun i hi => ?_)
      rw [if_neg (by omega), Int.toNat_natCast]
      by_cases a2 : i = top
      · rw [if_pos a2, a2, mset_same]
      · rw [if_neg a2, mset_nei a2]
        exact hw i hi
    · refine x_iload_n (pc := 67) dX3_cancel_67 rfl rfl ?_
      refine x_iconst (pc := 68) dX3_cancel_68 ?_
      refine x_icmp_ne (pc := 69) (t := 97) dX3_cancel_69 (by decide) ⟨by omega, by omega⟩ ⟨by omega, by omega⟩ (fun c69 => ?_) (fun c69 => ?_)
      · refine x_iconst (pc := 97) dX3_cancel_97 ?_
        refine x_istore (pc := 98) dX3_cancel_98 trivial (by decide) (L' := [(8, _), (6, _), (4, _), (0, _), (1, _), (2, _), (3, _)]) rfl ?_
        refine X.loc [0, 1, 2, 3, 4, 5, 6] (L' := [(8, _), (6, _), (4, _), (0, _), (1, _), (2, _), (3, _)]) rfl ?_
        refine loop1 (by omega) top 0 _ _ (by omega) rfl (Frm.rf.ms (by omega)) (fun i hi => ?_)
        rw [if_neg (by omega), Int.toNat_natCast]
        by_cases a2 : i = top
        · rw [if_pos a2, a2, mset_same]
        · rw [if_neg a2, mset_nei a2]
          exact hw i hi
      · obtain ⟨rfl, rfl⟩ : low = 1 ∧ top = 1 := ⟨by omega, by omega⟩
        obtain ⟨⟨g1, g2⟩, ⟨g3, g4⟩, ⟨g5, g6⟩, g7, g8⟩ := hc.1 ⟨rfl, rfl⟩
        refine x_aload_n (pc := 72) dX3_cancel_72 rfl rfl ?_
        refine x_getr (pc := 73) (b := c + 8) fX3_20 dX3_cancel_73 hs.1 rfl rfl ?_
        refine x_iconst (pc := 76) dX3_cancel_76 ?_
        refine x_lload (pc := 77) dX3_cancel_77 rfl ?_
        refine x_aload_n (pc := 79) dX3_cancel_79 rfl rfl ?_
        refine x_getr (pc := 80) (b := c + 8) fX3_20 dX3_cancel_80 hs.1 rfl rfl ?_
        refine x_iconst (pc := 83) dX3_cancel_83 ?_
        refine x_lald (pc := 84) dX3_cancel_84 hs.2.2.2.2.2.2.2.2 (by omega) (by omega) (fun r84a r84b => ?_)
        try simp (disch := omega) only [mset_same, mset_nea, mset_nei, mcopy_nea, mcopy_in, mcopy_out, Int.reduceToNat, Int.toNat_natCast, Nat.zero_add, Nat.sub_zero] at r84a r84b ⊢
        rw [w0]
        refine x_aload_n (pc := 85) dX3_cancel_85 rfl rfl ?_
        refine x_iconst (pc := 86) dX3_cancel_86 ?_
        refine x_lald (pc := 87) dX3_cancel_87 (hs.row hq) (by omega) (by omega) (fun r87a r87b => ?_)
        try simp (disch := omega) only [mset_same, mset_nea, mset_nei, mcopy_nea, mcopy_in, mcopy_out, Int.reduceToNat, Int.toNat_natCast, Nat.zero_add, Nat.sub_zero] at r87a r87b ⊢
        rw [e0]
        refine x_lneg (pc := 88) dX3_cancel_88 ?_
        refine x_lload (pc := 89) dX3_cancel_89 rfl ?_
        have q1 : -68719476736 < siz ∧ siz < 68719476736 := by rw [hsiz]; unfold ab; split <;> omega
        have q2 : -2251799813685248 < fac ∧ fac < 2251799813685248 := by rw [hfac]; split <;> omega
        refine x_callS (pc := 91) [_, _, _, _] rfl kX3_60 dX3_cancel_91 rfl (by decide) (Nat.le_of_ble_eq_true rfl) (Nat.le_of_ble_eq_true rfl) (by decide) ?_
        refine sp_X3_signOfSum q1 ⟨g5, g6⟩ (by omega) q2 ?_
        refine ⟨_, rfl, ?_⟩
        have q3 := sg_rng (siz * w 0 + -e 0 * fac)
        refine x_i2l (pc := 94) ⟨by omega, by omega⟩ dX3_cancel_94 ?_
        refine x_last (pc := 95) dX3_cancel_95 hs.2.2.2.2.2.2.2.2 (by omega) (by omega) (by omega) ⟨by omega, by omega⟩ ?_
        refine x_vret (pc := 96) dX3_cancel_96 rfl (by decide) (by decide) ?_
        refine k _ ((Frm.rf.ms (by omega)).ms (by omega)) (fun i hi => ?_)
        unfold canF
        rw [if_pos ⟨rfl, rfl⟩]
        by_cases a1 : i = 0
        · rw [if_pos a1, a1, show (0 : Int).toNat = 0 from rfl, mset_same, ← hfac, ← hsiz]
        · rw [if_neg a1, show (0 : Int).toNat = 0 from rfl, mset_nei a1]
          by_cases a2 : i = 1
          · rw [if_pos a2, a2, mset_same]
          · rw [if_neg a2, mset_nei a2]
            exact hw i hi
  refine x_iload_n (pc := 0) dX3_cancel_0 rfl rfl ?_
  refine x_if_lt (pc := 1) (t := 20) dX3_cancel_1 (by decide) ⟨by omega, by omega⟩ (fun c1 => ?_) (fun c1 => ?_)
  · exfalso; omega
  · refine x_iload_n (pc := 4) dX3_cancel_4 rfl rfl ?_
    refine x_iload_n (pc := 5) dX3_cancel_5 rfl rfl ?_
    refine x_icmp_gt (pc := 6) (t := 20) dX3_cancel_6 (by decide) ⟨by omega, by omega⟩ ⟨by omega, by omega⟩ (fun c6 => ?_) (fun c6 => ?_)
    · exfalso; omega
    · refine x_iload_n (pc := 9) dX3_cancel_9 rfl rfl ?_
      refine x_iconst (pc := 10) dX3_cancel_10 ?_
      refine x_icmp_ge (pc := 11) (t := 20) dX3_cancel_11 (by decide) ⟨by omega, by omega⟩ ⟨by omega, by omega⟩ (fun c11 => ?_) (fun c11 => ?_)
      · exfalso; omega
      · refine x_iload_n (pc := 14) dX3_cancel_14 rfl rfl ?_
        refine x_aload_n (pc := 15) dX3_cancel_15 rfl rfl ?_
        refine x_alen (pc := 16) dX3_cancel_16 (hs.row hq) (fun r16a => ?_)
        refine x_icmp_lt (pc := 17) (t := 21) dX3_cancel_17 (by decide) ⟨by omega, by omega⟩ ⟨by omega, by omega⟩ (fun c17 => ?_) (fun c17 => ?_)
        · refine x_aload_n (pc := 21) dX3_cancel_21 rfl rfl ?_
          refine x_iload_n (pc := 22) dX3_cancel_22 rfl rfl ?_
          refine x_lald (pc := 23) dX3_cancel_23 (hs.row hq) (by omega) (by omega) (fun r23a r23b => ?_)
          rw [Int.toNat_natCast, el] at r23a r23b ⊢
          refine x_mlabs (pc := 24) kmX3_54 dX3_cancel_24 ⟨by omega, by omega⟩ (Nat.le_of_ble_eq_true rfl) (by decide) (by decide) (by decide) ?_
          refine x_lstore (pc := 27) dX3_cancel_27 trivial (by decide) (L' := [(4, _), (0, _), (1, _), (2, _), (3, _)]) rfl ?_
          refine x_aload_n (pc := 29) dX3_cancel_29 rfl rfl ?_
          refine x_iload_n (pc := 30) dX3_cancel_30 rfl rfl ?_
          refine x_lald (pc := 31) dX3_cancel_31 (hs.row hq) (by omega) (by omega) (fun r31a r31b => ?_)
          rw [Int.toNat_natCast, el]
          refine x_lconst (pc := 32) (x := 0) dX3_cancel_32 (by decide) ?_
          refine x_lcmp_le (pc := 33) (t := 46) dX3_cancel_33 dX3_cancel_34 (by decide) ⟨by omega, by omega⟩ ⟨by omega, by omega⟩ (fun c33 => ?_) (fun c33 => ?_)
          · refine x_aload_n (pc := 46) dX3_cancel_46 rfl rfl ?_
            refine x_getr (pc := 47) (b := c + 8) fX3_20 dX3_cancel_47 hs.1 rfl rfl ?_
            refine x_iload_n (pc := 50) dX3_cancel_50 rfl rfl ?_
            refine x_lald (pc := 51) dX3_cancel_51 hs.2.2.2.2.2.2.2.2 (by omega) (by omega) (fun r51a r51b => ?_)
            rw [Int.toNat_natCast, wt]
            refine x_lneg (pc := 52) dX3_cancel_52 ?_
            refine x_lstore (pc := 53) dX3_cancel_53 trivial (by decide) (L' := [(6, _), (4, _), (0, _), (1, _), (2, _), (3, _)]) rfl ?_
            refine X.loc [0, 1, 2, 3, 4, 5] (L' := [(6, _), (4, _), (0, _), (1, _), (2, _), (3, _)]) rfl ?_
            rw [hfac, hsiz] at rest
            unfold ab at rest
            first
            | (have h9 : 0 < e low := by omega
               simp only [h9, if_true] at rest ⊢
               exact rest)
            | (have h9 : ¬ 0 < e low := by omega
               simp only [h9, if_false] at rest ⊢
               exact rest)
          · refine x_aload_n (pc := 37) dX3_cancel_37 rfl rfl ?_
            refine x_getr (pc := 38) (b := c + 8) fX3_20 dX3_cancel_38 hs.1 rfl rfl ?_
            refine x_iload_n (pc := 41) dX3_cancel_41 rfl rfl ?_
            refine x_lald (pc := 42) dX3_cancel_42 hs.2.2.2.2.2.2.2.2 (by omega) (by omega) (fun r42a r42b => ?_)
            rw [Int.toNat_natCast, wt]
            refine x_goto (pc := 43) (t := 53) dX3_cancel_43 (by decide) ?_
            refine x_lstore (pc := 53) dX3_cancel_53 trivial (by decide) (L' := [(6, _), (4, _), (0, _), (1, _), (2, _), (3, _)]) rfl ?_
            refine X.loc [0, 1, 2, 3, 4, 5] (L' := [(6, _), (4, _), (0, _), (1, _), (2, _), (3, _)]) rfl ?_
            rw [hfac, hsiz] at rest
            unfold ab at rest
            first
            | (have h9 : 0 < e low := by omega
               simp only [h9, if_true] at rest ⊢
               exact rest)
            | (have h9 : ¬ 0 < e low := by omega
               simp only [h9, if_false] at rest ⊢
               exact rest)
        · exfalso; omega
