/-! The reference's long numbers: times a small one, amounts added. -/
theorem fup2 {N : Nat → Int} {k : Nat} {a b : Int} : fup (fup N k a) k b = fup N k b := by
  funext i
  unfold fup
  split <;> rfl
theorem fup_id {N : Nat → Int} {k : Nat} : fup N k (N k) = N := by
  funext i
  unfold fup
  split
  · next h => rw [h]
  · rfl
theorem fup_cm {N : Nat → Int} {k t : Nat} {a b : Int} (h : k ≠ t) : fup (fup N k a) t b = fup (fup N t b) k a := by
  funext i
  unfold fup
  by_cases e : i = t
  · subst e
    rw [if_pos rfl, if_neg (Ne.symm h), if_pos rfl]
  · rw [if_neg e, if_neg e]
theorem Sw.lt {w : Int} {m : Nat → Int} (h : Sw w m) : w < pB 31 := by rw [← h.2]; exact vl_lt 31 h.1
theorem slm_ne {M : Mem} {d k q i : Nat} {v : Int} (h : 32 * k + i ≠ q) : slm (mset M (d + 7) q v) d k i = slm M d k i := mset_nei h

set_option maxRecDepth 100000 in
theorem sp_X5_multipliesBy {g : GG} {lay : Lay} {M : Mem} {K : KK} {d : Nat} {k9 : Nat} {y9 : Int} {N : Nat → Int} (hd : MoL lay d) (hb0 : g.2.1 ≤ d) (hB : Bg N M d) (hk9 : k9 < 94) (hy9 : -100000 ≤ y9 ∧ y9 ≤ 100000) (hov : ab (N k9) * ab y9 < pB 31) (k : ∀ M2, FrS d k9 M M2 → Bg (fup N k9 (N k9 * y9)) M2 d → K (.inl none) lay M2) : X g m_X5_multipliesBy 0 0 lay M 0 [(0, vR d), (1, vI k9), (2, vI y9)] [] K := by
  have hA := hB k9 hk9
  have hAn := ab_nn (N k9)
  have hs0 : M (d + 7) (32 * k9 + 0) = sg (N k9) := hA.1
  have hsr := sg3 (x := N k9)
  have ham2 : 0 ≤ ab y9 ∧ ab y9 ≤ 100000 := by unfold ab; split <;> omega
  have fin : ∀ (n : Nat) (am z c : Int) (M1 : Mem), FrS d k9 M M1 → M1 (d + 7) (32 * k9 + 0) = sg (N k9) → Sw (ab (N k9) * ab y9) (slm M1 d k9) → X g m_X5_multipliesBy 0 0 lay M1 94 [(9, vI z), (7, vJ c), (5, vJ am), (4, vI n), (3, vI (32 * (k9 : Int))), (0, vR d), (1, vI k9), (2, vI y9)] [] K := by
    intro n am z c M1 hF hs hW
    have e9 := ab_mul (N k9) y9
    have hS : ∀ s : Int, s = sg (N k9 * y9) → FrS d k9 M (mset M1 (d + 7) (32 * k9 + 0) s) ∧ Bg (fup N k9 (N k9 * y9)) (mset M1 (d + 7) (32 * k9 + 0) s) d := by
      intro s hs
      have hF2 : FrS d k9 M (mset M1 (d + 7) (32 * k9 + 0) s) := hF.ms (by omega)
      refine ⟨hF2, hB.up hF2 ⟨?_, fun i hi => ?_, ?_⟩⟩
      · show mset _ _ _ _ (d + 7) (32 * k9 + 0) = _
        rw [mset_same, hs]
      · rw [slm_ne (by omega)]
        exact hW.1 i hi
      · rw [e9, ← hW.2]
        exact vl_cong 31 (fun i hi => slm_ne (by omega))
    have es := sg_mul (N k9) y9
    have hr3 := sg3 (x := N k9 * y9)
    have fin2 : ∀ s : Int, s = sg (N k9 * y9) → X g m_X5_multipliesBy 0 0 lay M1 127 [(9, vI z), (7, vJ c), (5, vJ am), (4, vI n), (3, vI (32 * (k9 : Int))), (0, vR d), (1, vI k9), (2, vI y9)] [vI s, vI (32 * (k9 : Int)), vR (d + 7)] K := by
      intro s hs9
      obtain ⟨hm1, hm2⟩ := hS s hs9
      refine x_iast (pc := 127) dX5_multipliesBy_127 hd.2.2.2.2.2.2.2.1 (by omega) (by omega) (by omega) ⟨by omega, by omega⟩ ?_
      rw [show (32 * (k9 : Int)).toNat = 32 * k9 + 0 by omega]
      refine x_iload_n (pc := 128) dX5_multipliesBy_128 rfl rfl ?_
      refine x_if_ne (pc := 129) (t := 138) dX5_multipliesBy_129 (by decide) ⟨by omega, by omega⟩ (fun c129 => ?_) (fun c129 => ?_)
      · refine x_vret (pc := 138) dX5_multipliesBy_138 rfl (by decide) (by decide) ?_
        first
        | (refine k _ (hm1.tr hF2) ?_
           rw [hy0, Int.mul_zero]
           exact hB2)
        | exact k _ hm1 hm2
      · refine x_aload_n (pc := 132) dX5_multipliesBy_132 rfl rfl ?_
        refine x_iload_n (pc := 133) dX5_multipliesBy_133 rfl rfl ?_
        refine x_iconst (pc := 134) dX5_multipliesBy_134 ?_
        refine x_callV (pc := 135) [_, _] rfl kX5_65 dX5_multipliesBy_135 hd.1 rfl rfl (by decide) (Nat.le_of_ble_eq_true rfl) (Nat.le_of_ble_eq_true rfl) (by decide) ?_
        have hy0 : y9 = 0 := by omega
        rw [hy0, Int.mul_zero] at hm2
        refine sp_X5_setsLong (N := fup N k9 0) (k9 := k9) (v := 0) hd hb0 hm2 hk9 (by omega) (fun M2 hF2 hB2 => ?_)
        rw [fup2] at hB2
        refine ⟨_, rfl, ?_⟩
        refine x_vret (pc := 138) dX5_multipliesBy_138 rfl (by decide) (by decide) ?_
        first
        | (refine k _ (hm1.tr hF2) ?_
           rw [hy0, Int.mul_zero]
           exact hB2)
        | exact k _ hm1 hm2
    refine x_aload_n (pc := 94) dX5_multipliesBy_94 rfl rfl ?_
    refine x_getr (pc := 95) (b := d + 7) fX5_29 dX5_multipliesBy_95 hd.1 rfl rfl ?_
    refine x_iload_n (pc := 98) dX5_multipliesBy_98 rfl rfl ?_
    refine x_iload_n (pc := 99) dX5_multipliesBy_99 rfl rfl ?_
    refine x_if_ne (pc := 100) (t := 107) dX5_multipliesBy_100 (by decide) ⟨by omega, by omega⟩ (fun c100 => ?_) (fun c100 => ?_)
    · refine x_iload_n (pc := 107) dX5_multipliesBy_107 rfl rfl ?_
      refine x_if_ge (pc := 108) (t := 121) dX5_multipliesBy_108 (by decide) ⟨by omega, by omega⟩ (fun c108 => ?_) (fun c108 => ?_)
      · refine x_aload_n (pc := 121) dX5_multipliesBy_121 rfl rfl ?_
        refine x_getr (pc := 122) (b := d + 7) fX5_29 dX5_multipliesBy_122 hd.1 rfl rfl ?_
        refine x_iload_n (pc := 125) dX5_multipliesBy_125 rfl rfl ?_
        refine x_iald (pc := 126) dX5_multipliesBy_126 hd.2.2.2.2.2.2.2.1 (by omega) (by omega) (fun r126a r126b => ?_)
        refine X.loc [0, 1, 2, 3, 4, 5, 6, 7] (L' := [(9, _), (7, _), (5, _), (4, _), (3, _), (0, _), (1, _), (2, _)]) rfl ?_
        refine fin2 _ ?_
        first
        | (rw [show y9 = 0 by omega, Int.mul_zero]; rfl)
        | (rw [es, show sg y9 = -1 by unfold sg; rw [if_neg (by omega), if_pos (by omega)]]; omega)
        | (rw [show (32 * (k9 : Int)).toNat = 32 * k9 + 0 by omega, hs, es, show sg y9 = 1 by unfold sg; rw [if_pos (by omega)]]; omega)
      · refine x_aload_n (pc := 111) dX5_multipliesBy_111 rfl rfl ?_
        refine x_getr (pc := 112) (b := d + 7) fX5_29 dX5_multipliesBy_112 hd.1 rfl rfl ?_
        refine x_iload_n (pc := 115) dX5_multipliesBy_115 rfl rfl ?_
        refine x_iald (pc := 116) dX5_multipliesBy_116 hd.2.2.2.2.2.2.2.1 (by omega) (by omega) (fun r116a r116b => ?_)
        rw [show (32 * (k9 : Int)).toNat = 32 * k9 + 0 by omega, hs]
        refine x_ineg (pc := 117) dX5_multipliesBy_117 ?_
        refine x_goto (pc := 118) (t := 127) dX5_multipliesBy_118 (by decide) ?_
        refine X.loc [0, 1, 2, 3, 4, 5, 6, 7] (L' := [(9, _), (7, _), (5, _), (4, _), (3, _), (0, _), (1, _), (2, _)]) rfl ?_
        refine fin2 _ ?_
        first
        | (rw [show y9 = 0 by omega, Int.mul_zero]; rfl)
        | (rw [es, show sg y9 = -1 by unfold sg; rw [if_neg (by omega), if_pos (by omega)]]; omega)
        | (rw [show (32 * (k9 : Int)).toNat = 32 * k9 + 0 by omega, hs, es, show sg y9 = 1 by unfold sg; rw [if_pos (by omega)]]; omega)
    · refine x_iconst (pc := 103) dX5_multipliesBy_103 ?_
      refine x_goto (pc := 104) (t := 127) dX5_multipliesBy_104 (by decide) ?_
      refine X.loc [0, 1, 2, 3, 4, 5, 6, 7] (L' := [(9, _), (7, _), (5, _), (4, _), (3, _), (0, _), (1, _), (2, _)]) rfl ?_
      refine fin2 _ ?_
      first
      | (rw [show y9 = 0 by omega, Int.mul_zero]; rfl)
      | (rw [es, show sg y9 = -1 by unfold sg; rw [if_neg (by omega), if_pos (by omega)]]; omega)
      | (rw [show (32 * (k9 : Int)).toNat = 32 * k9 + 0 by omega, hs, es, show sg y9 = 1 by unfold sg; rw [if_pos (by omega)]]; omega)
  have loop : ∀ (n : Nat) (am : Int), n ≤ 31 → (∀ i, n ≤ i → i < 31 → slm M d k9 (i + 1) = 0) → am = ab y9 → ∀ (e j0 : Nat) (z c W : Int) (M1 : Mem), j0 + e = 32 → j0 ≤ 31 → z = (j0 : Int) + 1 → FrS d k9 M M1 → M1 (d + 7) (32 * k9 + 0) = sg (N k9) → Sw W (slm M1 d k9) → (∀ i, j0 ≤ i → i < 31 → slm M1 d k9 (i + 1) = slm M d k9 (i + 1)) → 0 ≤ c → c ≤ am → W + c * pB j0 = vl (fun i => slm M d k9 (i + 1)) j0 * am + (ab (N k9) - vl (fun i => slm M d k9 (i + 1)) j0) → X g m_X5_multipliesBy 0 0 lay M1 32 [(9, vI z), (7, vJ c), (5, vJ am), (4, vI n), (3, vI (32 * (k9 : Int))), (0, vR d), (1, vI k9), (2, vI y9)] [] K := by
    intro n am hn hnz ham e
    rw [← ham] at ham2 hov
    have hVn : ∀ j, n ≤ j → j ≤ 31 → vl (fun i => slm M d k9 (i + 1)) j = ab (N k9) := fun j hj h31 => by
      rw [← hA.2.2]
      exact (vl_top (m := n) j hj (fun i h1 h2 => hnz i h1 (by omega))).trans (vl_top (m := n) 31 hn hnz).symm
    induction e with
    | zero =>
      intro j0 z c W M1 hj hj31 hz hF hs hW hd2 hc0 hc1 hinv
      exfalso
      omega
    | succ e ih =>
      intro j0 z c W M1 hj hj31 hz hF hs hW hd2 hc0 hc1 hinv
      have hWn := hW.nn
      have hb : j0 < n ∨ 0 < c → j0 < 31 := by
        intro h
        by_cases h1 : j0 < n
        · omega
        · refine pB_lt ?_
          have h3 := hVn j0 (by omega) (by omega)
          have h4 := Int.mul_le_mul_of_nonneg_right (show 1 ≤ c by omega) (show 0 ≤ pB j0 by have := pB_pos j0; omega)
          rw [h3] at hinv
          omega
      have stp : j0 < 31 → ∀ (s y : Int), s + 1000000000 * y = slm M d k9 (j0 + 1) * am + c → W + (s - slm M1 d k9 (j0 + 1)) * pB j0 + y * (1000000000 * pB j0) = (vl (fun i => slm M d k9 (i + 1)) j0 + slm M d k9 (j0 + 1) * pB j0) * am + (ab (N k9) - (vl (fun i => slm M d k9 (i + 1)) j0 + slm M d k9 (j0 + 1) * pB j0)) := by
        intro h31 s y hsy
        rw [hd2 j0 (Nat.le_refl _) h31]
        grind
      refine x_iload (pc := 32) dX5_multipliesBy_32 rfl ?_
      refine x_iload (pc := 34) dX5_multipliesBy_34 rfl ?_
      refine x_icmp_le (pc := 36) (t := 46) dX5_multipliesBy_36 (by decide) ⟨by omega, by omega⟩ ⟨by omega, by omega⟩ (fun c36 => ?_) (fun c36 => ?_)
      · have h31 := hb (by omega)
        have hdA := hA.2.1 j0 h31
        refine x_aload_n (pc := 46) dX5_multipliesBy_46 rfl rfl ?_
        refine x_getr (pc := 47) (b := d + 7) fX5_29 dX5_multipliesBy_47 hd.1 rfl rfl ?_
        refine x_iload_n (pc := 50) dX5_multipliesBy_50 rfl rfl ?_
        refine x_iload (pc := 51) dX5_multipliesBy_51 rfl ?_
        refine x_iadd (pc := 53) dX5_multipliesBy_53 ?_
        refine x_iald (pc := 54) dX5_multipliesBy_54 hd.2.2.2.2.2.2.2.1 (by omega) (by omega) (fun r54a r54b => ?_)
        rw [show (32 * (k9 : Int) + z).toNat = 32 * k9 + (j0 + 1) by omega, show M1 (d + 7) (32 * k9 + (j0 + 1)) = slm M d k9 (j0 + 1) from hd2 j0 (Nat.le_refl _) h31]
        have stp2 := stp h31
        have hp1 := Int.mul_le_mul_of_nonneg_right (show slm M d k9 (j0 + 1) ≤ 999999999 by omega) ham2.1
        have hp0 := Int.mul_nonneg hdA.1 ham2.1
        refine x_i2l (pc := 55) ⟨by omega, by omega⟩ dX5_multipliesBy_55 ?_
        refine x_lload (pc := 56) dX5_multipliesBy_56 rfl ?_
        refine x_lmul (pc := 58) dX5_multipliesBy_58 ?_
        refine x_lload (pc := 59) dX5_multipliesBy_59 rfl ?_
        refine x_ladd (pc := 61) dX5_multipliesBy_61 ?_
        obtain ⟨t, ht⟩ : ∃ t, t = slm M d k9 (j0 + 1) * am := ⟨_, rfl⟩
        rw [← ht] at hp1 hp0 stp2 ⊢
        clear hinv hVn stp hov
        have em : (t + c).tmod 1000000000 = (t + c) % 1000000000 := Int.tmod_eq_emod_of_nonneg (by omega)
        have ed : (t + c).tdiv 1000000000 = (t + c) / 1000000000 := Int.tdiv_eq_ediv_of_nonneg (by omega)
        have ex : (32 * (k9 : Int) + z).toNat = 32 * k9 + (j0 + 1) := by omega
        refine x_lstore (pc := 62) dX5_multipliesBy_62 trivial (by decide) (L' := [(10, _), (9, _), (7, _), (5, _), (4, _), (3, _), (0, _), (1, _), (2, _)]) rfl ?_
        refine x_aload_n (pc := 64) dX5_multipliesBy_64 rfl rfl ?_
        refine x_getr (pc := 65) (b := d + 7) fX5_29 dX5_multipliesBy_65 hd.1 rfl rfl ?_
        refine x_iload_n (pc := 68) dX5_multipliesBy_68 rfl rfl ?_
        refine x_iload (pc := 69) dX5_multipliesBy_69 rfl ?_
        refine x_iadd (pc := 71) dX5_multipliesBy_71 ?_
        refine x_lload (pc := 72) dX5_multipliesBy_72 rfl ?_
        refine x_ldc2 (pc := 74) 1000000000 klX5_69 (by decide) dX5_multipliesBy_74 ?_
        refine x_lrem (pc := 77) dX5_multipliesBy_77 ⟨by omega, by omega⟩ ⟨by omega, by omega⟩ (by omega) ?_
        refine x_l2i (pc := 78) dX5_multipliesBy_78 ?_
        rw [em]
        refine x_iast (pc := 79) dX5_multipliesBy_79 hd.2.2.2.2.2.2.2.1 (by omega) (by omega) (by omega) ⟨by omega, by omega⟩ ?_
        rw [ex]
        refine x_lload (pc := 80) dX5_multipliesBy_80 rfl ?_
        refine x_ldc2 (pc := 82) 1000000000 klX5_69 (by decide) dX5_multipliesBy_82 ?_
        refine x_ldiv (pc := 85) dX5_multipliesBy_85 ⟨by omega, by omega⟩ ⟨by omega, by omega⟩ (by omega) ?_
        rw [ed]
        refine x_lstore (pc := 86) dX5_multipliesBy_86 trivial (by decide) (L' := [(7, _), (10, _), (9, _), (5, _), (4, _), (3, _), (0, _), (1, _), (2, _)]) rfl ?_
        refine x_iinc (pc := 88) dX5_multipliesBy_88 rfl (by decide) (L' := [(9, _), (7, _), (10, _), (5, _), (4, _), (3, _), (0, _), (1, _), (2, _)]) rfl ?_
        refine x_goto (pc := 91) (t := 32) dX5_multipliesBy_91 (by decide) ?_
        refine X.loc [0, 1, 3, 4, 5, 6, 7, 8] (L' := [(9, _), (7, _), (5, _), (4, _), (3, _), (0, _), (1, _), (2, _)]) rfl ?_
        refine ih (j0 + 1) _ _ _ _ (by omega) (by omega) (by omega) (hF.ms (by omega)) (by rw [mset_nei (by omega)]; exact hs) (hW.set h31 ⟨by omega, by omega⟩) (fun i h1 h2 => ?_) (by omega) (by omega) ?_
        · rw [slm_ne (by omega)]
          exact hd2 i (by omega) h2
        · rw [pB_s]
          simp only [vl]
          exact stp2 _ _ (by omega)
      · refine x_lload (pc := 39) dX5_multipliesBy_39 rfl ?_
        refine x_lconst (pc := 41) (x := 0) dX5_multipliesBy_41 (by decide) ?_
        refine x_lcmp_le (pc := 42) (t := 94) dX5_multipliesBy_42 dX5_multipliesBy_43 (by decide) ⟨by omega, by omega⟩ ⟨by omega, by omega⟩ (fun c42 => ?_) (fun c42 => ?_)
        · refine X.loc [0, 1, 2, 3, 4, 5, 6, 7] (L' := [(9, _), (7, _), (5, _), (4, _), (3, _), (0, _), (1, _), (2, _)]) rfl ?_
          refine fin n am _ _ M1 hF hs ?_
          have h3 := hVn j0 (by omega) (by omega)
          rw [h3, show c = 0 by omega, Int.zero_mul, Int.add_zero, Int.sub_self, Int.add_zero] at hinv
          rw [← ham, ← hinv]
          exact hW
        · have h31 := hb (by omega)
          have hdA := hA.2.1 j0 h31
          refine x_aload_n (pc := 46) dX5_multipliesBy_46 rfl rfl ?_
          refine x_getr (pc := 47) (b := d + 7) fX5_29 dX5_multipliesBy_47 hd.1 rfl rfl ?_
          refine x_iload_n (pc := 50) dX5_multipliesBy_50 rfl rfl ?_
          refine x_iload (pc := 51) dX5_multipliesBy_51 rfl ?_
          refine x_iadd (pc := 53) dX5_multipliesBy_53 ?_
          refine x_iald (pc := 54) dX5_multipliesBy_54 hd.2.2.2.2.2.2.2.1 (by omega) (by omega) (fun r54a r54b => ?_)
          rw [show (32 * (k9 : Int) + z).toNat = 32 * k9 + (j0 + 1) by omega, show M1 (d + 7) (32 * k9 + (j0 + 1)) = slm M d k9 (j0 + 1) from hd2 j0 (Nat.le_refl _) h31]
          have stp2 := stp h31
          have hp1 := Int.mul_le_mul_of_nonneg_right (show slm M d k9 (j0 + 1) ≤ 999999999 by omega) ham2.1
          have hp0 := Int.mul_nonneg hdA.1 ham2.1
          refine x_i2l (pc := 55) ⟨by omega, by omega⟩ dX5_multipliesBy_55 ?_
          refine x_lload (pc := 56) dX5_multipliesBy_56 rfl ?_
          refine x_lmul (pc := 58) dX5_multipliesBy_58 ?_
          refine x_lload (pc := 59) dX5_multipliesBy_59 rfl ?_
          refine x_ladd (pc := 61) dX5_multipliesBy_61 ?_
          obtain ⟨t, ht⟩ : ∃ t, t = slm M d k9 (j0 + 1) * am := ⟨_, rfl⟩
          rw [← ht] at hp1 hp0 stp2 ⊢
          clear hinv hVn stp hov
          have em : (t + c).tmod 1000000000 = (t + c) % 1000000000 := Int.tmod_eq_emod_of_nonneg (by omega)
          have ed : (t + c).tdiv 1000000000 = (t + c) / 1000000000 := Int.tdiv_eq_ediv_of_nonneg (by omega)
          have ex : (32 * (k9 : Int) + z).toNat = 32 * k9 + (j0 + 1) := by omega
          refine x_lstore (pc := 62) dX5_multipliesBy_62 trivial (by decide) (L' := [(10, _), (9, _), (7, _), (5, _), (4, _), (3, _), (0, _), (1, _), (2, _)]) rfl ?_
          refine x_aload_n (pc := 64) dX5_multipliesBy_64 rfl rfl ?_
          refine x_getr (pc := 65) (b := d + 7) fX5_29 dX5_multipliesBy_65 hd.1 rfl rfl ?_
          refine x_iload_n (pc := 68) dX5_multipliesBy_68 rfl rfl ?_
          refine x_iload (pc := 69) dX5_multipliesBy_69 rfl ?_
          refine x_iadd (pc := 71) dX5_multipliesBy_71 ?_
          refine x_lload (pc := 72) dX5_multipliesBy_72 rfl ?_
          refine x_ldc2 (pc := 74) 1000000000 klX5_69 (by decide) dX5_multipliesBy_74 ?_
          refine x_lrem (pc := 77) dX5_multipliesBy_77 ⟨by omega, by omega⟩ ⟨by omega, by omega⟩ (by omega) ?_
          refine x_l2i (pc := 78) dX5_multipliesBy_78 ?_
          rw [em]
          refine x_iast (pc := 79) dX5_multipliesBy_79 hd.2.2.2.2.2.2.2.1 (by omega) (by omega) (by omega) ⟨by omega, by omega⟩ ?_
          rw [ex]
          refine x_lload (pc := 80) dX5_multipliesBy_80 rfl ?_
          refine x_ldc2 (pc := 82) 1000000000 klX5_69 (by decide) dX5_multipliesBy_82 ?_
          refine x_ldiv (pc := 85) dX5_multipliesBy_85 ⟨by omega, by omega⟩ ⟨by omega, by omega⟩ (by omega) ?_
          rw [ed]
          refine x_lstore (pc := 86) dX5_multipliesBy_86 trivial (by decide) (L' := [(7, _), (10, _), (9, _), (5, _), (4, _), (3, _), (0, _), (1, _), (2, _)]) rfl ?_
          refine x_iinc (pc := 88) dX5_multipliesBy_88 rfl (by decide) (L' := [(9, _), (7, _), (10, _), (5, _), (4, _), (3, _), (0, _), (1, _), (2, _)]) rfl ?_
          refine x_goto (pc := 91) (t := 32) dX5_multipliesBy_91 (by decide) ?_
          refine X.loc [0, 1, 3, 4, 5, 6, 7, 8] (L' := [(9, _), (7, _), (5, _), (4, _), (3, _), (0, _), (1, _), (2, _)]) rfl ?_
          refine ih (j0 + 1) _ _ _ _ (by omega) (by omega) (by omega) (hF.ms (by omega)) (by rw [mset_nei (by omega)]; exact hs) (hW.set h31 ⟨by omega, by omega⟩) (fun i h1 h2 => ?_) (by omega) (by omega) ?_
          · rw [slm_ne (by omega)]
            exact hd2 i (by omega) h2
          · rw [pB_s]
            simp only [vl]
            exact stp2 _ _ (by omega)
  refine x_iload_n (pc := 0) dX5_multipliesBy_0 rfl rfl ?_
  refine x_callS (pc := 1) [_] rfl kX5_58 dX5_multipliesBy_1 rfl (by decide) (Nat.le_of_ble_eq_true rfl) (Nat.le_of_ble_eq_true rfl) (by decide) ?_
  refine sp_X5_slot ?_
  refine ⟨_, rfl, ?_⟩
  refine x_istore_n (pc := 4) dX5_multipliesBy_4 rfl (by decide) (L' := [(3, _), (0, _), (1, _), (2, _)]) rfl ?_
  refine x_aload_n (pc := 5) dX5_multipliesBy_5 rfl rfl ?_
  refine x_iload_n (pc := 6) dX5_multipliesBy_6 rfl rfl ?_
  refine x_callV (pc := 7) [_] rfl kX5_62 dX5_multipliesBy_7 hd.1 rfl rfl (by decide) (Nat.le_of_ble_eq_true rfl) (Nat.le_of_ble_eq_true rfl) (by decide) ?_
  refine sp_X5_partsOf hd hb0 hA hk9 (fun n p1 p2 p3 => ?_)
  refine ⟨_, rfl, ?_⟩
  refine x_istore (pc := 10) dX5_multipliesBy_10 trivial (by decide) (L' := [(4, _), (3, _), (0, _), (1, _), (2, _)]) rfl ?_
  refine x_iload_n (pc := 12) dX5_multipliesBy_12 rfl rfl ?_
  refine x_if_ge (pc := 13) (t := 22) dX5_multipliesBy_13 (by decide) ⟨by omega, by omega⟩ (fun c13 => ?_) (fun c13 => ?_)
  · refine x_iload_n (pc := 22) dX5_multipliesBy_22 rfl rfl ?_
    refine x_i2l (pc := 23) ⟨by omega, by omega⟩ dX5_multipliesBy_23 ?_
    refine x_lstore (pc := 24) dX5_multipliesBy_24 trivial (by decide) (L' := [(5, _), (4, _), (3, _), (0, _), (1, _), (2, _)]) rfl ?_
    refine x_lconst (pc := 26) (x := 0) dX5_multipliesBy_26 (by decide) ?_
    refine x_lstore (pc := 27) dX5_multipliesBy_27 trivial (by decide) (L' := [(7, _), (5, _), (4, _), (3, _), (0, _), (1, _), (2, _)]) rfl ?_
    refine x_iconst (pc := 29) dX5_multipliesBy_29 ?_
    refine x_istore (pc := 30) dX5_multipliesBy_30 trivial (by decide) (L' := [(9, _), (7, _), (5, _), (4, _), (3, _), (0, _), (1, _), (2, _)]) rfl ?_
    refine X.loc [0, 1, 2, 3, 4, 5, 6, 7] (L' := [(9, _), (7, _), (5, _), (4, _), (3, _), (0, _), (1, _), (2, _)]) rfl ?_
    refine loop n _ p1 p2 (by unfold ab; split <;> omega) 32 0 _ _ _ _ rfl (by omega) rfl FrS.rf hs0 ⟨hA.2.1, hA.2.2⟩ (fun i _ _ => rfl) (by omega) (by omega) ?_
    simp [vl]
  · refine x_iload_n (pc := 16) dX5_multipliesBy_16 rfl rfl ?_
    refine x_i2l (pc := 17) ⟨by omega, by omega⟩ dX5_multipliesBy_17 ?_
    refine x_lneg (pc := 18) dX5_multipliesBy_18 ?_
    refine x_goto (pc := 19) (t := 24) dX5_multipliesBy_19 (by decide) ?_
    refine x_lstore (pc := 24) dX5_multipliesBy_24 trivial (by decide) (L' := [(5, _), (4, _), (3, _), (0, _), (1, _), (2, _)]) rfl ?_
    refine x_lconst (pc := 26) (x := 0) dX5_multipliesBy_26 (by decide) ?_
    refine x_lstore (pc := 27) dX5_multipliesBy_27 trivial (by decide) (L' := [(7, _), (5, _), (4, _), (3, _), (0, _), (1, _), (2, _)]) rfl ?_
    refine x_iconst (pc := 29) dX5_multipliesBy_29 ?_
    refine x_istore (pc := 30) dX5_multipliesBy_30 trivial (by decide) (L' := [(9, _), (7, _), (5, _), (4, _), (3, _), (0, _), (1, _), (2, _)]) rfl ?_
    refine X.loc [0, 1, 2, 3, 4, 5, 6, 7] (L' := [(9, _), (7, _), (5, _), (4, _), (3, _), (0, _), (1, _), (2, _)]) rfl ?_
    refine loop n _ p1 p2 (by unfold ab; split <;> omega) 32 0 _ _ _ _ rfl (by omega) rfl FrS.rf hs0 ⟨hA.2.1, hA.2.2⟩ (fun i _ _ => rfl) (by omega) (by omega) ?_
    simp [vl]
set_option maxRecDepth 100000 in
theorem sp_X5_addsAmount {g : GG} {lay : Lay} {M : Mem} {K : KK} {d : Nat} {k9 t9 : Nat} {v w y9 : Int} (hd : MoL lay d) (hb0 : g.2.1 ≤ d) (hA : Sl v (slm M d k9)) (hT : Sl w (slm M d t9)) (hk9 : k9 < 94) (ht9 : t9 < 94) (hne : k9 ≠ t9) (hy9 : (y9 = 1 ∧ ab v + ab w < pB 31) ∨ (y9 = -1 ∧ ab w ≤ ab v)) (k : ∀ M2, FrS d k9 M M2 → M2 (d + 7) (32 * k9 + 0) = M (d + 7) (32 * k9 + 0) → Sw (ab v + y9 * ab w) (slm M2 d k9) → K (.inl none) lay M2) : X g m_X5_addsAmount 0 0 lay M 0 [(0, vR d), (1, vI k9), (2, vI t9), (3, vI y9)] [] K := by
  have hAn := ab_nn v
  have hTn := ab_nn w
  have hAl := hA.lt
  have loop : ∀ (n : Nat), n ≤ 31 → (∀ i, n ≤ i → i < 31 → slm M d t9 (i + 1) = 0) → ∀ (e j0 : Nat) (z c W : Int) (M1 : Mem), j0 + e = 32 → j0 ≤ 31 → z = (j0 : Int) + 1 → FrS d k9 M M1 → M1 (d + 7) (32 * k9 + 0) = M (d + 7) (32 * k9 + 0) → Sw W (slm M1 d k9) → (∀ i, j0 ≤ i → i < 31 → slm M1 d k9 (i + 1) = slm M d k9 (i + 1)) → (c = 0 ∨ c = 1 ∨ c = -1) → W + c * pB j0 = ab v + y9 * vl (fun i => slm M d t9 (i + 1)) j0 → X g m_X5_addsAmount 0 0 lay M1 25 [(9, vI z), (7, vJ c), (6, vI n), (5, vI (32 * (t9 : Int))), (4, vI (32 * (k9 : Int))), (0, vR d), (1, vI k9), (2, vI t9), (3, vI y9)] [] K := by
    intro n hn hnz e
    have hVn : ∀ j, n ≤ j → j ≤ 31 → vl (fun i => slm M d t9 (i + 1)) j = ab w := fun j hj h31 => by
      rw [← hT.2.2]
      exact (vl_top (m := n) j hj (fun i h1 h2 => hnz i h1 (by omega))).trans (vl_top (m := n) 31 hn hnz).symm
    induction e with
    | zero =>
      intro j0 z c W M1 hj hj31 hz hF hs hW hd2 hc hinv
      exfalso
      omega
    | succ e ih =>
      intro j0 z c W M1 hj hj31 hz hF hs hW hd2 hc hinv
      have hWn := hW.nn
      have hWl := hW.lt
      have hb : j0 < n ∨ c ≠ 0 → j0 < 31 := by
        intro h
        by_cases h1 : j0 < n
        · omega
        · refine pB_lt ?_
          have h3 := hVn j0 (by omega) (by omega)
          rw [h3] at hinv
          rcases hc with rfl | rfl | rfl <;> rcases hy9 with ⟨rfl, hy⟩ | ⟨rfl, hy⟩ <;> omega
      have stp : j0 < 31 → ∀ (a s y : Int), a = y9 * slm M d t9 (j0 + 1) → s + 1000000000 * y = slm M d k9 (j0 + 1) + c + a → W + (s - slm M1 d k9 (j0 + 1)) * pB j0 + y * (1000000000 * pB j0) = ab v + y9 * (vl (fun i => slm M d t9 (i + 1)) j0 + slm M d t9 (j0 + 1) * pB j0) := by
        intro h31 a s y ha hsy
        rw [hd2 j0 (Nat.le_refl _) h31]
        grind
      have step : ∀ (a : Int), j0 < 31 → a = y9 * slm M d t9 (j0 + 1) → X g m_X5_addsAmount 0 0 lay M1 78 [(9, vI z), (7, vJ c), (6, vI n), (5, vI (32 * (t9 : Int))), (4, vI (32 * (k9 : Int))), (0, vR d), (1, vI k9), (2, vI t9), (3, vI y9)] [vJ a, vJ (slm M d k9 (j0 + 1) + c)] K := by
        intro a h31 ha
        have hdT := hT.2.1 j0 h31
        have hdA := hA.2.1 j0 h31
        have stp2 := fun s y => stp h31 a s y ha
        have har : -1000000000 < a ∧ a < 1000000000 := by rcases hy9 with ⟨rfl, hy⟩ | ⟨rfl, hy⟩ <;> omega
        clear hinv hVn stp hy9
        have ex : (32 * (k9 : Int) + z).toNat = 32 * k9 + (j0 + 1) := by omega
        refine x_ladd (pc := 78) dX5_addsAmount_78 ?_
        refine x_lstore (pc := 79) dX5_addsAmount_79 trivial (by decide) (L' := [(10, _), (9, _), (7, _), (6, _), (5, _), (4, _), (0, _), (1, _), (2, _), (3, _)]) rfl ?_
        refine x_lload (pc := 81) dX5_addsAmount_81 rfl ?_
        refine x_lconst (pc := 83) (x := 0) dX5_addsAmount_83 (by decide) ?_
        refine x_lcmp_ge (pc := 84) (t := 94) dX5_addsAmount_84 dX5_addsAmount_85 (by decide) ⟨by omega, by omega⟩ ⟨by omega, by omega⟩ (fun c84 => ?_) (fun c84 => ?_)
        · refine x_lload (pc := 94) dX5_addsAmount_94 rfl ?_
          refine x_ldc2 (pc := 96) 1000000000 klX5_69 (by decide) dX5_addsAmount_96 ?_
          refine x_lcmp_lt (pc := 99) (t := 107) dX5_addsAmount_99 dX5_addsAmount_100 (by decide) ⟨by omega, by omega⟩ ⟨by omega, by omega⟩ (fun c99 => ?_) (fun c99 => ?_)
          · refine x_lconst (pc := 107) (x := 0) dX5_addsAmount_107 (by decide) ?_
            refine x_lstore (pc := 108) dX5_addsAmount_108 trivial (by decide) (L' := [(7, _), (10, _), (9, _), (6, _), (5, _), (4, _), (0, _), (1, _), (2, _), (3, _)]) rfl ?_
            refine x_aload_n (pc := 110) dX5_addsAmount_110 rfl rfl ?_
            refine x_getr (pc := 111) (b := d + 7) fX5_29 dX5_addsAmount_111 hd.1 rfl rfl ?_
            refine x_iload (pc := 114) dX5_addsAmount_114 rfl ?_
            refine x_iload (pc := 116) dX5_addsAmount_116 rfl ?_
            refine x_iadd (pc := 118) dX5_addsAmount_118 ?_
            refine x_lload (pc := 119) dX5_addsAmount_119 rfl ?_
            refine x_lload (pc := 121) dX5_addsAmount_121 rfl ?_
            refine x_ldc2 (pc := 123) 1000000000 klX5_69 (by decide) dX5_addsAmount_123 ?_
            refine x_lmul (pc := 126) dX5_addsAmount_126 ?_
            refine x_lsub (pc := 127) dX5_addsAmount_127 ?_
            refine x_l2i (pc := 128) dX5_addsAmount_128 ?_
            refine x_iast (pc := 129) dX5_addsAmount_129 hd.2.2.2.2.2.2.2.1 (by omega) (by omega) (by omega) ⟨by omega, by omega⟩ ?_
            rw [ex]
            refine x_iinc (pc := 130) dX5_addsAmount_130 rfl (by decide) (L' := [(9, _), (7, _), (10, _), (6, _), (5, _), (4, _), (0, _), (1, _), (2, _), (3, _)]) rfl ?_
            refine x_goto (pc := 133) (t := 25) dX5_addsAmount_133 (by decide) ?_
            refine X.loc [0, 1, 3, 4, 5, 6, 7, 8, 9] (L' := [(9, _), (7, _), (6, _), (5, _), (4, _), (0, _), (1, _), (2, _), (3, _)]) rfl ?_
            refine ih (j0 + 1) _ _ _ _ (by omega) (by omega) (by omega) (hF.ms (by omega)) (by rw [mset_nei (by omega)]; exact hs) (hW.set h31 ⟨by omega, by omega⟩) (fun i h1 h2 => ?_) (by omega) ?_
            · rw [slm_ne (by omega)]
              exact hd2 i (by omega) h2
            · rw [pB_s]
              simp only [vl]
              exact stp2 _ _ (by omega)
          · refine x_lconst (pc := 103) (x := 1) dX5_addsAmount_103 (by decide) ?_
            refine x_goto (pc := 104) (t := 108) dX5_addsAmount_104 (by decide) ?_
            refine x_lstore (pc := 108) dX5_addsAmount_108 trivial (by decide) (L' := [(7, _), (10, _), (9, _), (6, _), (5, _), (4, _), (0, _), (1, _), (2, _), (3, _)]) rfl ?_
            refine x_aload_n (pc := 110) dX5_addsAmount_110 rfl rfl ?_
            refine x_getr (pc := 111) (b := d + 7) fX5_29 dX5_addsAmount_111 hd.1 rfl rfl ?_
            refine x_iload (pc := 114) dX5_addsAmount_114 rfl ?_
            refine x_iload (pc := 116) dX5_addsAmount_116 rfl ?_
            refine x_iadd (pc := 118) dX5_addsAmount_118 ?_
            refine x_lload (pc := 119) dX5_addsAmount_119 rfl ?_
            refine x_lload (pc := 121) dX5_addsAmount_121 rfl ?_
            refine x_ldc2 (pc := 123) 1000000000 klX5_69 (by decide) dX5_addsAmount_123 ?_
            refine x_lmul (pc := 126) dX5_addsAmount_126 ?_
            refine x_lsub (pc := 127) dX5_addsAmount_127 ?_
            refine x_l2i (pc := 128) dX5_addsAmount_128 ?_
            refine x_iast (pc := 129) dX5_addsAmount_129 hd.2.2.2.2.2.2.2.1 (by omega) (by omega) (by omega) ⟨by omega, by omega⟩ ?_
            rw [ex]
            refine x_iinc (pc := 130) dX5_addsAmount_130 rfl (by decide) (L' := [(9, _), (7, _), (10, _), (6, _), (5, _), (4, _), (0, _), (1, _), (2, _), (3, _)]) rfl ?_
            refine x_goto (pc := 133) (t := 25) dX5_addsAmount_133 (by decide) ?_
            refine X.loc [0, 1, 3, 4, 5, 6, 7, 8, 9] (L' := [(9, _), (7, _), (6, _), (5, _), (4, _), (0, _), (1, _), (2, _), (3, _)]) rfl ?_
            refine ih (j0 + 1) _ _ _ _ (by omega) (by omega) (by omega) (hF.ms (by omega)) (by rw [mset_nei (by omega)]; exact hs) (hW.set h31 ⟨by omega, by omega⟩) (fun i h1 h2 => ?_) (by omega) ?_
            · rw [slm_ne (by omega)]
              exact hd2 i (by omega) h2
            · rw [pB_s]
              simp only [vl]
              exact stp2 _ _ (by omega)
        · refine x_ldc2 (pc := 88) (-1) klX5_71 (by decide) dX5_addsAmount_88 ?_
          refine x_goto (pc := 91) (t := 108) dX5_addsAmount_91 (by decide) ?_
          refine x_lstore (pc := 108) dX5_addsAmount_108 trivial (by decide) (L' := [(7, _), (10, _), (9, _), (6, _), (5, _), (4, _), (0, _), (1, _), (2, _), (3, _)]) rfl ?_
          refine x_aload_n (pc := 110) dX5_addsAmount_110 rfl rfl ?_
          refine x_getr (pc := 111) (b := d + 7) fX5_29 dX5_addsAmount_111 hd.1 rfl rfl ?_
          refine x_iload (pc := 114) dX5_addsAmount_114 rfl ?_
          refine x_iload (pc := 116) dX5_addsAmount_116 rfl ?_
          refine x_iadd (pc := 118) dX5_addsAmount_118 ?_
          refine x_lload (pc := 119) dX5_addsAmount_119 rfl ?_
          refine x_lload (pc := 121) dX5_addsAmount_121 rfl ?_
          refine x_ldc2 (pc := 123) 1000000000 klX5_69 (by decide) dX5_addsAmount_123 ?_
          refine x_lmul (pc := 126) dX5_addsAmount_126 ?_
          refine x_lsub (pc := 127) dX5_addsAmount_127 ?_
          refine x_l2i (pc := 128) dX5_addsAmount_128 ?_
          refine x_iast (pc := 129) dX5_addsAmount_129 hd.2.2.2.2.2.2.2.1 (by omega) (by omega) (by omega) ⟨by omega, by omega⟩ ?_
          rw [ex]
          refine x_iinc (pc := 130) dX5_addsAmount_130 rfl (by decide) (L' := [(9, _), (7, _), (10, _), (6, _), (5, _), (4, _), (0, _), (1, _), (2, _), (3, _)]) rfl ?_
          refine x_goto (pc := 133) (t := 25) dX5_addsAmount_133 (by decide) ?_
          refine X.loc [0, 1, 3, 4, 5, 6, 7, 8, 9] (L' := [(9, _), (7, _), (6, _), (5, _), (4, _), (0, _), (1, _), (2, _), (3, _)]) rfl ?_
          refine ih (j0 + 1) _ _ _ _ (by omega) (by omega) (by omega) (hF.ms (by omega)) (by rw [mset_nei (by omega)]; exact hs) (hW.set h31 ⟨by omega, by omega⟩) (fun i h1 h2 => ?_) (by omega) ?_
          · rw [slm_ne (by omega)]
            exact hd2 i (by omega) h2
          · rw [pB_s]
            simp only [vl]
            exact stp2 _ _ (by omega)
      refine x_iload (pc := 25) dX5_addsAmount_25 rfl ?_
      refine x_iload (pc := 27) dX5_addsAmount_27 rfl ?_
      refine x_icmp_le (pc := 29) (t := 39) dX5_addsAmount_29 (by decide) ⟨by omega, by omega⟩ ⟨by omega, by omega⟩ (fun c29 => ?_) (fun c29 => ?_)
      · have h31 := hb (by omega)
        refine x_aload_n (pc := 39) dX5_addsAmount_39 rfl rfl ?_
        refine x_getr (pc := 40) (b := d + 7) fX5_29 dX5_addsAmount_40 hd.1 rfl rfl ?_
        refine x_iload (pc := 43) dX5_addsAmount_43 rfl ?_
        refine x_iload (pc := 45) dX5_addsAmount_45 rfl ?_
        refine x_iadd (pc := 47) dX5_addsAmount_47 ?_
        refine x_iald (pc := 48) dX5_addsAmount_48 hd.2.2.2.2.2.2.2.1 (by omega) (by omega) (fun r48a r48b => ?_)
        rw [show (32 * (k9 : Int) + z).toNat = 32 * k9 + (j0 + 1) by omega, show M1 (d + 7) (32 * k9 + (j0 + 1)) = slm M d k9 (j0 + 1) from hd2 j0 (Nat.le_refl _) h31] at r48a r48b ⊢
        refine x_i2l (pc := 49) ⟨by omega, by omega⟩ dX5_addsAmount_49 ?_
        refine x_lload (pc := 50) dX5_addsAmount_50 rfl ?_
        refine x_ladd (pc := 52) dX5_addsAmount_52 ?_
        refine x_iload (pc := 53) dX5_addsAmount_53 rfl ?_
        refine x_iload (pc := 55) dX5_addsAmount_55 rfl ?_
        refine x_icmp_gt (pc := 57) (t := 77) dX5_addsAmount_57 (by decide) ⟨by omega, by omega⟩ ⟨by omega, by omega⟩ (fun c57 => ?_) (fun c57 => ?_)
        · refine x_lconst (pc := 77) (x := 0) dX5_addsAmount_77 (by decide) ?_
          refine X.loc [0, 1, 2, 3, 4, 5, 6, 7, 8] (L' := [(9, _), (7, _), (6, _), (5, _), (4, _), (0, _), (1, _), (2, _), (3, _)]) rfl ?_
          first
          | exact step _ h31 rfl
          | (have e0 : slm M d t9 (j0 + 1) = 0 := hnz j0 (by omega) h31
             exact step 0 h31 (by rw [e0, Int.mul_zero]))
        · refine x_iload_n (pc := 60) dX5_addsAmount_60 rfl rfl ?_
          refine x_i2l (pc := 61) ⟨by omega, by omega⟩ dX5_addsAmount_61 ?_
          refine x_aload_n (pc := 62) dX5_addsAmount_62 rfl rfl ?_
          refine x_getr (pc := 63) (b := d + 7) fX5_29 dX5_addsAmount_63 hd.1 rfl rfl ?_
          refine x_iload (pc := 66) dX5_addsAmount_66 rfl ?_
          refine x_iload (pc := 68) dX5_addsAmount_68 rfl ?_
          refine x_iadd (pc := 70) dX5_addsAmount_70 ?_
          refine x_iald (pc := 71) dX5_addsAmount_71 hd.2.2.2.2.2.2.2.1 (by omega) (by omega) (fun r71a r71b => ?_)
          rw [show (32 * (t9 : Int) + z).toNat = 32 * t9 + (j0 + 1) by omega, hF _ _ (by omega)] at r71a r71b ⊢
          refine x_i2l (pc := 72) ⟨by omega, by omega⟩ dX5_addsAmount_72 ?_
          refine x_lmul (pc := 73) dX5_addsAmount_73 ?_
          refine x_goto (pc := 74) (t := 78) dX5_addsAmount_74 (by decide) ?_
          refine X.loc [0, 1, 2, 3, 4, 5, 6, 7, 8] (L' := [(9, _), (7, _), (6, _), (5, _), (4, _), (0, _), (1, _), (2, _), (3, _)]) rfl ?_
          first
          | exact step _ h31 rfl
          | (have e0 : slm M d t9 (j0 + 1) = 0 := hnz j0 (by omega) h31
             exact step 0 h31 (by rw [e0, Int.mul_zero]))
      · refine x_lload (pc := 32) dX5_addsAmount_32 rfl ?_
        refine x_lconst (pc := 34) (x := 0) dX5_addsAmount_34 (by decide) ?_
        refine x_lcmp_eq (pc := 35) (t := 136) dX5_addsAmount_35 dX5_addsAmount_36 (by decide) ⟨by omega, by omega⟩ ⟨by omega, by omega⟩ (fun c35 => ?_) (fun c35 => ?_)
        · refine x_vret (pc := 136) dX5_addsAmount_136 rfl (by decide) (by decide) ?_
          refine k M1 hF hs ?_
          have h3 := hVn j0 (by omega) (by omega)
          rw [h3, show c = 0 by omega, Int.zero_mul, Int.add_zero] at hinv
          rw [← hinv]
          exact hW
        · have h31 := hb (by omega)
          refine x_aload_n (pc := 39) dX5_addsAmount_39 rfl rfl ?_
          refine x_getr (pc := 40) (b := d + 7) fX5_29 dX5_addsAmount_40 hd.1 rfl rfl ?_
          refine x_iload (pc := 43) dX5_addsAmount_43 rfl ?_
          refine x_iload (pc := 45) dX5_addsAmount_45 rfl ?_
          refine x_iadd (pc := 47) dX5_addsAmount_47 ?_
          refine x_iald (pc := 48) dX5_addsAmount_48 hd.2.2.2.2.2.2.2.1 (by omega) (by omega) (fun r48a r48b => ?_)
          rw [show (32 * (k9 : Int) + z).toNat = 32 * k9 + (j0 + 1) by omega, show M1 (d + 7) (32 * k9 + (j0 + 1)) = slm M d k9 (j0 + 1) from hd2 j0 (Nat.le_refl _) h31] at r48a r48b ⊢
          refine x_i2l (pc := 49) ⟨by omega, by omega⟩ dX5_addsAmount_49 ?_
          refine x_lload (pc := 50) dX5_addsAmount_50 rfl ?_
          refine x_ladd (pc := 52) dX5_addsAmount_52 ?_
          refine x_iload (pc := 53) dX5_addsAmount_53 rfl ?_
          refine x_iload (pc := 55) dX5_addsAmount_55 rfl ?_
          refine x_icmp_gt (pc := 57) (t := 77) dX5_addsAmount_57 (by decide) ⟨by omega, by omega⟩ ⟨by omega, by omega⟩ (fun c57 => ?_) (fun c57 => ?_)
          · refine x_lconst (pc := 77) (x := 0) dX5_addsAmount_77 (by decide) ?_
            refine X.loc [0, 1, 2, 3, 4, 5, 6, 7, 8] (L' := [(9, _), (7, _), (6, _), (5, _), (4, _), (0, _), (1, _), (2, _), (3, _)]) rfl ?_
            first
            | exact step _ h31 rfl
            | (have e0 : slm M d t9 (j0 + 1) = 0 := hnz j0 (by omega) h31
               exact step 0 h31 (by rw [e0, Int.mul_zero]))
          · refine x_iload_n (pc := 60) dX5_addsAmount_60 rfl rfl ?_
            refine x_i2l (pc := 61) ⟨by omega, by omega⟩ dX5_addsAmount_61 ?_
            refine x_aload_n (pc := 62) dX5_addsAmount_62 rfl rfl ?_
            refine x_getr (pc := 63) (b := d + 7) fX5_29 dX5_addsAmount_63 hd.1 rfl rfl ?_
            refine x_iload (pc := 66) dX5_addsAmount_66 rfl ?_
            refine x_iload (pc := 68) dX5_addsAmount_68 rfl ?_
            refine x_iadd (pc := 70) dX5_addsAmount_70 ?_
            refine x_iald (pc := 71) dX5_addsAmount_71 hd.2.2.2.2.2.2.2.1 (by omega) (by omega) (fun r71a r71b => ?_)
            rw [show (32 * (t9 : Int) + z).toNat = 32 * t9 + (j0 + 1) by omega, hF _ _ (by omega)] at r71a r71b ⊢
            refine x_i2l (pc := 72) ⟨by omega, by omega⟩ dX5_addsAmount_72 ?_
            refine x_lmul (pc := 73) dX5_addsAmount_73 ?_
            refine x_goto (pc := 74) (t := 78) dX5_addsAmount_74 (by decide) ?_
            refine X.loc [0, 1, 2, 3, 4, 5, 6, 7, 8] (L' := [(9, _), (7, _), (6, _), (5, _), (4, _), (0, _), (1, _), (2, _), (3, _)]) rfl ?_
            first
            | exact step _ h31 rfl
            | (have e0 : slm M d t9 (j0 + 1) = 0 := hnz j0 (by omega) h31
               exact step 0 h31 (by rw [e0, Int.mul_zero]))
  refine x_iload_n (pc := 0) dX5_addsAmount_0 rfl rfl ?_
  refine x_callS (pc := 1) [_] rfl kX5_58 dX5_addsAmount_1 rfl (by decide) (Nat.le_of_ble_eq_true rfl) (Nat.le_of_ble_eq_true rfl) (by decide) ?_
  refine sp_X5_slot ?_
  refine ⟨_, rfl, ?_⟩
  refine x_istore (pc := 4) dX5_addsAmount_4 trivial (by decide) (L' := [(4, _), (0, _), (1, _), (2, _), (3, _)]) rfl ?_
  refine x_iload_n (pc := 6) dX5_addsAmount_6 rfl rfl ?_
  refine x_callS (pc := 7) [_] rfl kX5_58 dX5_addsAmount_7 rfl (by decide) (Nat.le_of_ble_eq_true rfl) (Nat.le_of_ble_eq_true rfl) (by decide) ?_
  refine sp_X5_slot ?_
  refine ⟨_, rfl, ?_⟩
  refine x_istore (pc := 10) dX5_addsAmount_10 trivial (by decide) (L' := [(5, _), (4, _), (0, _), (1, _), (2, _), (3, _)]) rfl ?_
  refine x_aload_n (pc := 12) dX5_addsAmount_12 rfl rfl ?_
  refine x_iload_n (pc := 13) dX5_addsAmount_13 rfl rfl ?_
  refine x_callV (pc := 14) [_] rfl kX5_62 dX5_addsAmount_14 hd.1 rfl rfl (by decide) (Nat.le_of_ble_eq_true rfl) (Nat.le_of_ble_eq_true rfl) (by decide) ?_
  refine sp_X5_partsOf hd hb0 hT ht9 (fun n p1 p2 p3 => ?_)
  refine ⟨_, rfl, ?_⟩
  refine x_istore (pc := 17) dX5_addsAmount_17 trivial (by decide) (L' := [(6, _), (5, _), (4, _), (0, _), (1, _), (2, _), (3, _)]) rfl ?_
  refine x_lconst (pc := 19) (x := 0) dX5_addsAmount_19 (by decide) ?_
  refine x_lstore (pc := 20) dX5_addsAmount_20 trivial (by decide) (L' := [(7, _), (6, _), (5, _), (4, _), (0, _), (1, _), (2, _), (3, _)]) rfl ?_
  refine x_iconst (pc := 22) dX5_addsAmount_22 ?_
  refine x_istore (pc := 23) dX5_addsAmount_23 trivial (by decide) (L' := [(9, _), (7, _), (6, _), (5, _), (4, _), (0, _), (1, _), (2, _), (3, _)]) rfl ?_
  refine X.loc [0, 1, 2, 3, 4, 5, 6, 7, 8] (L' := [(9, _), (7, _), (6, _), (5, _), (4, _), (0, _), (1, _), (2, _), (3, _)]) rfl ?_
  refine loop n p1 p2 32 0 _ _ _ _ rfl (by omega) rfl FrS.rf rfl ⟨hA.2.1, hA.2.2⟩ (fun i _ _ => rfl) (by omega) ?_
  simp [vl]
set_option maxRecDepth 100000 in
theorem sp_X5_addsLong {g : GG} {lay : Lay} {M : Mem} {K : KK} {d : Nat} {k9 t9 : Nat} {N : Nat → Int} (hd : MoL lay d) (hb0 : g.2.1 ≤ d) (hB : Bg N M d) (hk9 : k9 < 93) (ht9 : t9 < 93) (hne : k9 ≠ t9) (hov : ab (N k9) + ab (N t9) < pB 31) (k : ∀ x M2, Frm (d + 7) (d + 8) M M2 → Bg (fup (fup N 93 x) k9 (N k9 + N t9)) M2 d → K (.inl none) lay M2) : X g m_X5_addsLong 0 0 lay M 0 [(0, vR d), (1, vI k9), (2, vI t9)] [] K := by
  have hA := hB k9 (by omega)
  have hT := hB t9 (by omega)
  have hAn := ab_nn (N k9)
  have hTn := ab_nn (N t9)
  have hs1 := sg3 (x := N k9)
  have hs2 := sg3 (x := N t9)
  have hs3 := sg3 (x := ab (N k9) - ab (N t9))
  have z1 := @sg_0 (N k9)
  have z2 := @sg_0 (N t9)
  have z3 := @sg_0 (ab (N k9) - ab (N t9))
  have a1 := ab_sg (N k9)
  have a2 := ab_sg (N t9)
  have same : ∀ s, s = N k9 + N t9 → fup (fup N 93 (N 93)) k9 s = fup N k9 (N k9 + N t9) := fun s hs => by rw [fup_id, hs]
  refine x_aload_n (pc := 0) dX5_addsLong_0 rfl rfl ?_
  refine x_iload_n (pc := 1) dX5_addsLong_1 rfl rfl ?_
  refine x_callV (pc := 2) [_] rfl kX5_73 dX5_addsLong_2 hd.1 rfl rfl (by decide) (Nat.le_of_ble_eq_true rfl) (Nat.le_of_ble_eq_true rfl) (by decide) ?_
  refine sp_X5_signOf hd hb0 hA (by omega) ?_
  refine ⟨_, rfl, ?_⟩
  refine x_istore_n (pc := 5) dX5_addsLong_5 rfl (by decide) (L' := [(3, _), (0, _), (1, _), (2, _)]) rfl ?_
  refine x_aload_n (pc := 6) dX5_addsLong_6 rfl rfl ?_
  refine x_iload_n (pc := 7) dX5_addsLong_7 rfl rfl ?_
  refine x_callV (pc := 8) [_] rfl kX5_73 dX5_addsLong_8 hd.1 rfl rfl (by decide) (Nat.le_of_ble_eq_true rfl) (Nat.le_of_ble_eq_true rfl) (by decide) ?_
  refine sp_X5_signOf hd hb0 hT (by omega) ?_
  refine ⟨_, rfl, ?_⟩
  refine x_istore (pc := 11) dX5_addsLong_11 trivial (by decide) (L' := [(4, _), (3, _), (0, _), (1, _), (2, _)]) rfl ?_
  refine x_iload (pc := 13) dX5_addsLong_13 rfl ?_
  refine x_if_ne (pc := 15) (t := 19) dX5_addsLong_15 (by decide) ⟨by omega, by omega⟩ (fun c15 => ?_) (fun c15 => ?_)
  · refine x_iload_n (pc := 19) dX5_addsLong_19 rfl rfl ?_
    refine x_if_ne (pc := 20) (t := 30) dX5_addsLong_20 (by decide) ⟨by omega, by omega⟩ (fun c20 => ?_) (fun c20 => ?_)
    · refine x_iload_n (pc := 30) dX5_addsLong_30 rfl rfl ?_
      refine x_iload (pc := 31) dX5_addsLong_31 rfl ?_
      refine x_icmp_ne (pc := 33) (t := 44) dX5_addsLong_33 (by decide) ⟨by omega, by omega⟩ ⟨by omega, by omega⟩ (fun c33 => ?_) (fun c33 => ?_)
      · refine x_aload_n (pc := 44) dX5_addsLong_44 rfl rfl ?_
        refine x_iload_n (pc := 45) dX5_addsLong_45 rfl rfl ?_
        refine x_iload_n (pc := 46) dX5_addsLong_46 rfl rfl ?_
        refine x_callV (pc := 47) [_, _] rfl kX5_83 dX5_addsLong_47 hd.1 rfl rfl (by decide) (Nat.le_of_ble_eq_true rfl) (Nat.le_of_ble_eq_true rfl) (by decide) ?_
        refine sp_X5_comparesAmounts hd hb0 hA (by omega) hT (by omega) ?_
        refine ⟨_, rfl, ?_⟩
        refine x_istore (pc := 50) dX5_addsLong_50 trivial (by decide) (L' := [(5, _), (4, _), (3, _), (0, _), (1, _), (2, _)]) rfl ?_
        refine x_iload (pc := 52) dX5_addsLong_52 rfl ?_
        refine x_if_ne (pc := 54) (t := 66) dX5_addsLong_54 (by decide) ⟨by omega, by omega⟩ (fun c54 => ?_) (fun c54 => ?_)
        · refine x_iload (pc := 66) dX5_addsLong_66 rfl ?_
          refine x_if_le (pc := 68) (t := 81) dX5_addsLong_68 (by decide) ⟨by omega, by omega⟩ (fun c68 => ?_) (fun c68 => ?_)
          · refine x_aload_n (pc := 81) dX5_addsLong_81 rfl rfl ?_
            refine x_iload_n (pc := 82) dX5_addsLong_82 rfl rfl ?_
            refine x_bipush (pc := 83) dX5_addsLong_83 (by decide) ?_
            refine x_callV (pc := 85) [_, _] rfl kX5_76 dX5_addsLong_85 hd.1 rfl rfl (by decide) (Nat.le_of_ble_eq_true rfl) (Nat.le_of_ble_eq_true rfl) (by decide) ?_
            refine sp_X5_copiesLong (k9 := k9) (t9 := 93) hd hb0 hB (by omega) (by omega) (fun M1 hF1 hB1 => ?_)
            refine ⟨_, rfl, ?_⟩
            refine x_aload_n (pc := 88) dX5_addsLong_88 rfl rfl ?_
            refine x_iload_n (pc := 89) dX5_addsLong_89 rfl rfl ?_
            refine x_iload_n (pc := 90) dX5_addsLong_90 rfl rfl ?_
            refine x_callV (pc := 91) [_, _] rfl kX5_76 dX5_addsLong_91 hd.1 rfl rfl (by decide) (Nat.le_of_ble_eq_true rfl) (Nat.le_of_ble_eq_true rfl) (by decide) ?_
            refine sp_X5_copiesLong (k9 := t9) (t9 := k9) hd hb0 hB1 (by omega) (by omega) (fun M2 hF2 hB2 => ?_)
            rw [fup_ne (show ¬ t9 = 93 by omega)] at hB2
            have hA2 := hB2 k9 (by omega)
            have hT2 := hB2 93 (by omega)
            rw [fup_at] at hA2
            rw [fup_ne (show ¬ 93 = k9 by omega), fup_at] at hT2
            refine ⟨_, rfl, ?_⟩
            refine x_aload_n (pc := 94) dX5_addsLong_94 rfl rfl ?_
            refine x_iload_n (pc := 95) dX5_addsLong_95 rfl rfl ?_
            refine x_bipush (pc := 96) dX5_addsLong_96 (by decide) ?_
            refine x_iconst (pc := 98) dX5_addsLong_98 ?_
            refine x_callV (pc := 99) [_, _, _] rfl kX5_79 dX5_addsLong_99 hd.1 rfl rfl (by decide) (Nat.le_of_ble_eq_true rfl) (Nat.le_of_ble_eq_true rfl) (by decide) ?_
            have hgt : ab (N k9) < ab (N t9) := by unfold sg at *; omega
            refine sp_X5_addsAmount (k9 := k9) (t9 := 93) hd hb0 hA2 hT2 (by omega) (by omega) (by omega) (Or.inr ⟨rfl, by omega⟩) (fun M3 hF3 hs3 hW3 => ?_)
            refine ⟨_, rfl, ?_⟩
            refine x_vret (pc := 102) dX5_addsLong_102 rfl (by decide) (by decide) ?_
            first
            | (refine k (N 93) M2 hF2.frm ?_
               rw [same _ rfl, show N k9 + N t9 = 0 by unfold sg ab at *; omega]
               exact hB2)
            | (refine k (N 93) M2 hF2.frm ?_
               rw [same _ rfl]
               refine hB.up hF2 ⟨?_, hW2.1, ?_⟩
               · show M2 (d + 7) (32 * k9 + 0) = _
                 rw [hs2, show M (d + 7) (32 * k9 + 0) = sg (N k9) from hA.1]
                 unfold sg ab at *
                 omega
               · rw [hW2.2]
                 unfold sg ab at *
                 omega)
            | (refine k (N k9) M3 ((hF1.frm.trans hF2.frm).trans hF3.frm) ?_
               have h9 := hB2.up (v := N k9 + N t9) hF3 ⟨?_, hW3.1, ?_⟩
               · rw [fup2] at h9
                 exact h9
               · show M3 (d + 7) (32 * k9 + 0) = _
                 rw [hs3, show M2 (d + 7) (32 * k9 + 0) = sg (N t9) from hA2.1]
                 unfold sg ab at *
                 omega
               · rw [hW3.2]
                 unfold sg ab at *
                 omega)
          · refine x_aload_n (pc := 71) dX5_addsLong_71 rfl rfl ?_
            refine x_iload_n (pc := 72) dX5_addsLong_72 rfl rfl ?_
            refine x_iload_n (pc := 73) dX5_addsLong_73 rfl rfl ?_
            refine x_iconst (pc := 74) dX5_addsLong_74 ?_
            refine x_callV (pc := 75) [_, _, _] rfl kX5_79 dX5_addsLong_75 hd.1 rfl rfl (by decide) (Nat.le_of_ble_eq_true rfl) (Nat.le_of_ble_eq_true rfl) (by decide) ?_
            have hgt : ab (N t9) < ab (N k9) := by unfold sg at *; omega
            refine sp_X5_addsAmount hd hb0 hA hT (by omega) (by omega) hne (Or.inr ⟨rfl, by omega⟩) (fun M2 hF2 hs2 hW2 => ?_)
            refine ⟨_, rfl, ?_⟩
            refine x_goto (pc := 78) (t := 102) dX5_addsLong_78 (by decide) ?_
            refine x_vret (pc := 102) dX5_addsLong_102 rfl (by decide) (by decide) ?_
            first
            | (refine k (N 93) M2 hF2.frm ?_
               rw [same _ rfl, show N k9 + N t9 = 0 by unfold sg ab at *; omega]
               exact hB2)
            | (refine k (N 93) M2 hF2.frm ?_
               rw [same _ rfl]
               refine hB.up hF2 ⟨?_, hW2.1, ?_⟩
               · show M2 (d + 7) (32 * k9 + 0) = _
                 rw [hs2, show M (d + 7) (32 * k9 + 0) = sg (N k9) from hA.1]
                 unfold sg ab at *
                 omega
               · rw [hW2.2]
                 unfold sg ab at *
                 omega)
            | (refine k (N k9) M3 ((hF1.frm.trans hF2.frm).trans hF3.frm) ?_
               have h9 := hB2.up (v := N k9 + N t9) hF3 ⟨?_, hW3.1, ?_⟩
               · rw [fup2] at h9
                 exact h9
               · show M3 (d + 7) (32 * k9 + 0) = _
                 rw [hs3, show M2 (d + 7) (32 * k9 + 0) = sg (N t9) from hA2.1]
                 unfold sg ab at *
                 omega
               · rw [hW3.2]
                 unfold sg ab at *
                 omega)
        · refine x_aload_n (pc := 57) dX5_addsLong_57 rfl rfl ?_
          refine x_iload_n (pc := 58) dX5_addsLong_58 rfl rfl ?_
          refine x_iconst (pc := 59) dX5_addsLong_59 ?_
          refine x_callV (pc := 60) [_, _] rfl kX5_65 dX5_addsLong_60 hd.1 rfl rfl (by decide) (Nat.le_of_ble_eq_true rfl) (Nat.le_of_ble_eq_true rfl) (by decide) ?_
          refine sp_X5_setsLong (k9 := k9) (v := 0) hd hb0 hB (by omega) (by omega) (fun M2 hF2 hB2 => ?_)
          refine ⟨_, rfl, ?_⟩
          refine x_goto (pc := 63) (t := 102) dX5_addsLong_63 (by decide) ?_
          refine x_vret (pc := 102) dX5_addsLong_102 rfl (by decide) (by decide) ?_
          first
          | (refine k (N 93) M2 hF2.frm ?_
             rw [same _ rfl, show N k9 + N t9 = 0 by unfold sg ab at *; omega]
             exact hB2)
          | (refine k (N 93) M2 hF2.frm ?_
             rw [same _ rfl]
             refine hB.up hF2 ⟨?_, hW2.1, ?_⟩
             · show M2 (d + 7) (32 * k9 + 0) = _
               rw [hs2, show M (d + 7) (32 * k9 + 0) = sg (N k9) from hA.1]
               unfold sg ab at *
               omega
             · rw [hW2.2]
               unfold sg ab at *
               omega)
          | (refine k (N k9) M3 ((hF1.frm.trans hF2.frm).trans hF3.frm) ?_
             have h9 := hB2.up (v := N k9 + N t9) hF3 ⟨?_, hW3.1, ?_⟩
             · rw [fup2] at h9
               exact h9
             · show M3 (d + 7) (32 * k9 + 0) = _
               rw [hs3, show M2 (d + 7) (32 * k9 + 0) = sg (N t9) from hA2.1]
               unfold sg ab at *
               omega
             · rw [hW3.2]
               unfold sg ab at *
               omega)
      · refine x_aload_n (pc := 36) dX5_addsLong_36 rfl rfl ?_
        refine x_iload_n (pc := 37) dX5_addsLong_37 rfl rfl ?_
        refine x_iload_n (pc := 38) dX5_addsLong_38 rfl rfl ?_
        refine x_iconst (pc := 39) dX5_addsLong_39 ?_
        refine x_callV (pc := 40) [_, _, _] rfl kX5_79 dX5_addsLong_40 hd.1 rfl rfl (by decide) (Nat.le_of_ble_eq_true rfl) (Nat.le_of_ble_eq_true rfl) (by decide) ?_
        refine sp_X5_addsAmount hd hb0 hA hT (by omega) (by omega) hne (Or.inl ⟨rfl, hov⟩) (fun M2 hF2 hs2 hW2 => ?_)
        refine ⟨_, rfl, ?_⟩
        refine x_vret (pc := 43) dX5_addsLong_43 rfl (by decide) (by decide) ?_
        refine k (N 93) M2 hF2.frm ?_
        rw [same _ rfl]
        refine hB.up hF2 ⟨?_, hW2.1, ?_⟩
        · show M2 (d + 7) (32 * k9 + 0) = _
          rw [hs2, show M (d + 7) (32 * k9 + 0) = sg (N k9) from hA.1]
          unfold sg at *
          repeat' split at * <;> omega
        · rw [hW2.2]
          unfold sg at *
          unfold ab at *
          repeat' split at * <;> omega
    · refine x_aload_n (pc := 23) dX5_addsLong_23 rfl rfl ?_
      refine x_iload_n (pc := 24) dX5_addsLong_24 rfl rfl ?_
      refine x_iload_n (pc := 25) dX5_addsLong_25 rfl rfl ?_
      refine x_callV (pc := 26) [_, _] rfl kX5_76 dX5_addsLong_26 hd.1 rfl rfl (by decide) (Nat.le_of_ble_eq_true rfl) (Nat.le_of_ble_eq_true rfl) (by decide) ?_
      refine sp_X5_copiesLong (k9 := t9) (t9 := k9) hd hb0 hB (by omega) (by omega) (fun M2 hF2 hB2 => ?_)
      refine ⟨_, rfl, ?_⟩
      refine x_vret (pc := 29) dX5_addsLong_29 rfl (by decide) (by decide) ?_
      refine k (N 93) M2 hF2.frm ?_
      rw [same _ rfl, show N k9 = 0 by omega, Int.zero_add]
      exact hB2
  · refine x_vret (pc := 18) dX5_addsLong_18 rfl (by decide) (by decide) ?_
    refine k (N 93) M Frm.rf ?_
    rw [same _ rfl, show N t9 = 0 by omega, Int.add_zero, fup_id]
    exact hB
