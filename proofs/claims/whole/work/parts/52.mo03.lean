/-! The reference's long numbers: sums and products. -/
theorem slm_set {M : Mem} {d k q : Nat} {v : Int} : slm (mset M (d + 7) (32 * k + (q + 1)) v) d k = fup (slm M d k) (q + 1) v := by
  funext i
  show mset _ _ _ _ (d + 7) (32 * k + i) = _
  by_cases e : i = q + 1
  · rw [e, mset_same, fup_at]
  · rw [mset_nei (by omega), fup_ne e]
theorem vl_set {m : Nat → Int} {q n : Nat} {v : Int} (hq : q < n) : vl (fun i => fup m (q + 1) v (i + 1)) n = vl (fun i => m (i + 1)) n + (v - m (q + 1)) * pB q := by
  rw [← vl_up (f := fun i => m (i + 1)) (q := q) (s := v) n hq]
  exact vl_cong n (fun i hi => by unfold fup; by_cases e : i = q <;> simp [e])
/-- a slot that is being made: its sign 0, its parts in their range -/
def Sw (w : Int) (m : Nat → Int) : Prop := (∀ i, i < 31 → 0 ≤ m (i + 1) ∧ m (i + 1) < 1000000000) ∧ vl (fun i => m (i + 1)) 31 = w
theorem Sw.nn {w : Int} {m : Nat → Int} (h : Sw w m) : 0 ≤ w := by rw [← h.2]; exact vl_nn 31 (fun i hi => (h.1 i hi).1)
theorem Sw.set {w : Int} {M : Mem} {d k q : Nat} {v : Int} (h : Sw w (slm M d k)) (hq : q < 31) (hv : 0 ≤ v ∧ v < 1000000000) : Sw (w + (v - slm M d k (q + 1)) * pB q) (slm (mset M (d + 7) (32 * k + (q + 1)) v) d k) := by
  rw [slm_set]
  refine ⟨fun i hi => ?_, ?_⟩
  · unfold fup
    split
    · exact hv
    · exact h.1 i hi
  · rw [vl_set hq, h.2]
theorem ab_pos {v : Int} {m : Nat → Int} {n : Nat} (h : Sl v m) (h0 : 0 < n) (hn : n ≤ 31) (h1 : 1 ≤ m n) : pB (n - 1) ≤ ab v := by
  rw [← h.2.2]
  refine vl_ge (by omega) h.dn ?_
  show 1 ≤ m (n - 1 + 1)
  rw [show n - 1 + 1 = n by omega]
  exact h1
theorem mul_e {W Z s x c y a b Pi Pj Q V : Int} (h : W + c * Q = Z + a * Pi * V) (hQ : Q = Pi * Pj) (hs : s + 1000000000 * y = x + c + a * b) : W + (s - x) * Q + y * (1000000000 * Q) = Z + a * Pi * (V + b * Pj) := by
  subst hQ
  grind
theorem sg3 {x : Int} : sg x = 1 ∨ sg x = -1 ∨ sg x = 0 := by unfold sg; split <;> (try split) <;> omega

set_option maxRecDepth 100000 in
theorem sp_X5_multiplies {g : GG} {lay : Lay} {M : Mem} {K : KK} {d : Nat} {k9 t9 z9 : Nat} {N : Nat → Int} (hd : MoL lay d) (hb0 : g.2.1 ≤ d) (hB : Bg N M d) (hk9 : k9 < 94) (ht9 : t9 < 94) (hz9 : z9 < 94) (hne : z9 ≠ k9 ∧ z9 ≠ t9) (hov : ab (N k9) * ab (N t9) < pB 31) (k : ∀ M2, FrS d z9 M M2 → Bg (fup N z9 (N k9 * N t9)) M2 d → K (.inl none) lay M2) : X g m_X5_multiplies 0 0 lay M 0 [(0, vR d), (1, vI k9), (2, vI t9), (3, vI z9)] [] K := by
  have hA := hB k9 hk9
  have hT := hB t9 ht9
  have hAn := ab_nn (N k9)
  have hTn := ab_nn (N t9)
  have inner : ∀ (m n i0 : Nat), m ≤ 31 → n ≤ 31 → (∀ i, n ≤ i → i < 31 → slm M d t9 (i + 1) = 0) → i0 < m → (0 < n → m + n ≤ 32) → (∀ M1, FrS d z9 M M1 → M1 (d + 7) (32 * z9) = 0 → Sw (vl (fun i => slm M d k9 (i + 1)) (i0 + 1) * ab (N t9)) (slm M1 d z9) → ∀ y : Int, y = ((i0 + 1 : Nat) : Int) + 1 → X g m_X5_multiplies 0 0 lay M1 41 [(9, vI y), (8, vI n), (7, vI m), (6, vI (32 * (z9 : Int))), (5, vI (32 * (t9 : Int))), (4, vI (32 * (k9 : Int))), (0, vR d), (1, vI k9), (2, vI t9), (3, vI z9)] [] K) → ∀ (e j0 : Nat) (y x W c : Int) (M1 : Mem), j0 + e = 32 → j0 ≤ 31 → y = (j0 : Int) + 1 → x = (i0 : Int) + 1 → FrS d z9 M M1 → M1 (d + 7) (32 * z9) = 0 → Sw W (slm M1 d z9) → 0 ≤ c → c < 1000000000 → W + c * pB (i0 + j0) = vl (fun i => slm M d k9 (i + 1)) i0 * ab (N t9) + slm M d k9 (i0 + 1) * pB i0 * vl (fun i => slm M d t9 (i + 1)) j0 → X g m_X5_multiplies 0 0 lay M1 54 [(12, vI y), (10, vJ c), (9, vI x), (8, vI n), (7, vI m), (6, vI (32 * (z9 : Int))), (5, vI (32 * (t9 : Int))), (4, vI (32 * (k9 : Int))), (0, vR d), (1, vI k9), (2, vI t9), (3, vI z9)] [] K := by
    intro m n i0 hm hn hnz hi0 hmn cont e
    have hdA := hA.2.1 i0 (by omega)
    have hfull : vl (fun i => slm M d k9 (i + 1)) i0 * ab (N t9) + slm M d k9 (i0 + 1) * pB i0 * ab (N t9) = vl (fun i => slm M d k9 (i + 1)) (i0 + 1) * ab (N t9) := by
      simp only [vl]
      grind
    have hfb : vl (fun i => slm M d k9 (i + 1)) (i0 + 1) * ab (N t9) < pB 31 := by
      have h1 : vl (fun i => slm M d k9 (i + 1)) (i0 + 1) ≤ ab (N k9) := by
        rw [← hA.2.2]
        exact vl_mono 31 (by omega) hA.dn
      have := Int.mul_le_mul_of_nonneg_right h1 hTn
      omega
    have hVn : ∀ j, n ≤ j → vl (fun i => slm M d t9 (i + 1)) (min j 31) = ab (N t9) := fun j hj => by
      rw [← hT.2.2]
      exact (vl_top 31 (by omega) (fun i h1 h2 => hnz i (by omega) h2)).symm
    have hbd : ∀ (j0 : Nat) (W c : Int), 0 ≤ W → 0 ≤ c → j0 ≤ 31 → W + c * pB (i0 + j0) = vl (fun i => slm M d k9 (i + 1)) i0 * ab (N t9) + slm M d k9 (i0 + 1) * pB i0 * vl (fun i => slm M d t9 (i + 1)) j0 → (j0 < n ∨ 0 < c) → i0 + j0 < 31 := by
      intro j0 W c hW hc hj hinv h
      by_cases h1 : j0 < n
      · omega
      · refine pB_lt ?_
        have h3 := hVn j0 (by omega)
        rw [Nat.min_eq_left hj] at h3
        have h4 := Int.mul_le_mul_of_nonneg_right (show 1 ≤ c by omega) (show 0 ≤ pB (i0 + j0) by have := pB_pos (i0 + j0); omega)
        rw [h3, hfull] at hinv
        omega
    induction e with
    | zero =>
      intro j0 y x W c M1 hj hj31 hy hx hF hs hW hc0 hc1 hinv
      omega
    | succ e ih =>
      intro j0 y x W c M1 hj hj31 hy hx hF hs hW hc0 hc1 hinv
      have hWn := hW.nn
      have hb := hbd j0 W c hWn hc0 (by omega) hinv
      have exit : n ≤ j0 → c = 0 → X g m_X5_multiplies 0 0 lay M1 41 [(9, vI (x + 1)), (8, vI n), (7, vI m), (6, vI (32 * (z9 : Int))), (5, vI (32 * (t9 : Int))), (4, vI (32 * (k9 : Int))), (0, vR d), (1, vI k9), (2, vI t9), (3, vI z9)] [] K := by
        intro h1 h2
        refine cont M1 hF hs ?_ _ (by omega)
        have h3 := hVn j0 h1
        rw [Nat.min_eq_left (by omega)] at h3
        rw [h2, h3, hfull] at hinv
        rw [← hinv]
        simpa using hW
      have step : ∀ (a : Int), i0 + j0 < 31 → a = slm M d t9 (j0 + 1) → X g m_X5_multiplies 0 0 lay M1 121 [(12, vI y), (10, vJ c), (9, vI x), (8, vI n), (7, vI m), (6, vI (32 * (z9 : Int))), (5, vI (32 * (t9 : Int))), (4, vI (32 * (k9 : Int))), (0, vR d), (1, vI k9), (2, vI t9), (3, vI z9)] [vJ (slm M d k9 (i0 + 1) * a), vJ (slm M1 d z9 (i0 + j0 + 1) + c)] K := by
        intro a h31 ha
        have hdT := hT.2.1 j0 (by omega)
        have hdW := hW.1 (i0 + j0) h31
        rw [← ha] at hdT
        have hp1 := Int.mul_le_mul (show slm M d k9 (i0 + 1) ≤ 999999999 by omega) (show a ≤ 999999999 by omega) (by omega) (by omega)
        have hp0 := Int.mul_nonneg hdA.1 hdT.1
        have hinv2 := fun (s z : Int) (hs9 : s + 1000000000 * z = slm M1 d z9 (i0 + j0 + 1) + c + slm M d k9 (i0 + 1) * a) => mul_e (s := s) (x := slm M1 d z9 (i0 + j0 + 1)) (y := z) (b := a) hinv (pB_add i0 j0) hs9
        have hkeep : slm M d k9 (i0 + 1) * a = slm M d k9 (i0 + 1) * a := rfl
        obtain ⟨u, hu⟩ : ∃ u, u = slm M1 d z9 (i0 + j0 + 1) := ⟨_, rfl⟩
        obtain ⟨t, ht⟩ : ∃ t, t = slm M d k9 (i0 + 1) * a := ⟨_, rfl⟩
        rw [← hu, ← ht] at hinv2 ⊢
        rw [← hu] at hdW
        rw [← ht] at hp1 hp0
        have em : (u + c + t).tmod 1000000000 = (u + c + t) % 1000000000 := Int.tmod_eq_emod_of_nonneg (by omega)
        have ed : (u + c + t).tdiv 1000000000 = (u + c + t) / 1000000000 := Int.tdiv_eq_ediv_of_nonneg (by omega)
        have ex : (32 * (z9 : Int) + x + y - 1).toNat = 32 * z9 + ((i0 + j0) + 1) := by omega
        refine x_ladd (pc := 121) dX5_multiplies_121 ?_
        refine x_lstore (pc := 122) dX5_multiplies_122 trivial (by decide) (L' := [(13, _), (12, _), (10, _), (9, _), (8, _), (7, _), (6, _), (5, _), (4, _), (0, _), (1, _), (2, _), (3, _)]) rfl ?_
        clear hinv hbd hfull hfb hVn
        refine x_aload_n (pc := 124) dX5_multiplies_124 rfl rfl ?_
        refine x_getr (pc := 125) (b := d + 7) fX5_29 dX5_multiplies_125 hd.1 rfl rfl ?_
        refine x_iload (pc := 128) dX5_multiplies_128 rfl ?_
        refine x_iload (pc := 130) dX5_multiplies_130 rfl ?_
        refine x_iadd (pc := 132) dX5_multiplies_132 ?_
        refine x_iload (pc := 133) dX5_multiplies_133 rfl ?_
        refine x_iadd (pc := 135) dX5_multiplies_135 ?_
        refine x_iconst (pc := 136) dX5_multiplies_136 ?_
        refine x_isub (pc := 137) dX5_multiplies_137 ?_
        refine x_lload (pc := 138) dX5_multiplies_138 rfl ?_
        refine x_ldc2 (pc := 140) 1000000000 klX5_69 (by decide) dX5_multiplies_140 ?_
        refine x_lrem (pc := 143) dX5_multiplies_143 ⟨by omega, by omega⟩ ⟨by omega, by omega⟩ (by omega) ?_
        rw [em]
        refine x_l2i (pc := 144) dX5_multiplies_144 ?_
        refine x_iast (pc := 145) dX5_multiplies_145 hd.2.2.2.2.2.2.2.1 (by omega) (by omega) (by omega) ⟨by omega, by omega⟩ ?_
        rw [ex]
        refine x_lload (pc := 146) dX5_multiplies_146 rfl ?_
        refine x_ldc2 (pc := 148) 1000000000 klX5_69 (by decide) dX5_multiplies_148 ?_
        refine x_ldiv (pc := 151) dX5_multiplies_151 ⟨by omega, by omega⟩ ⟨by omega, by omega⟩ (by omega) ?_
        rw [ed]
        refine x_lstore (pc := 152) dX5_multiplies_152 trivial (by decide) (L' := [(10, _), (13, _), (12, _), (9, _), (8, _), (7, _), (6, _), (5, _), (4, _), (0, _), (1, _), (2, _), (3, _)]) rfl ?_
        refine x_iinc (pc := 154) dX5_multiplies_154 rfl (by decide) (L' := [(12, _), (10, _), (13, _), (9, _), (8, _), (7, _), (6, _), (5, _), (4, _), (0, _), (1, _), (2, _), (3, _)]) rfl ?_
        refine x_goto (pc := 157) (t := 54) dX5_multiplies_157 (by decide) ?_
        refine X.loc [0, 1, 3, 4, 5, 6, 7, 8, 9, 10, 11, 12] (L' := [(12, _), (10, _), (9, _), (8, _), (7, _), (6, _), (5, _), (4, _), (0, _), (1, _), (2, _), (3, _)]) rfl ?_
        refine ih (j0 + 1) _ _ _ _ _ (by omega) (by omega) (by omega) hx (hF.ms (by omega)) (by rw [mset_nei (by omega)]; exact hs) (hW.set h31 ⟨by omega, by omega⟩) (by omega) (by omega) ?_
        rw [show i0 + (j0 + 1) = i0 + j0 + 1 by omega, pB_s]
        simp only [vl]
        rw [← ha, ← hu]
        exact hinv2 _ _ (by omega)
      refine x_iload (pc := 54) dX5_multiplies_54 rfl ?_
      refine x_iload (pc := 56) dX5_multiplies_56 rfl ?_
      refine x_icmp_le (pc := 58) (t := 68) dX5_multiplies_58 (by decide) ⟨by omega, by omega⟩ ⟨by omega, by omega⟩ (fun c58 => ?_) (fun c58 => ?_)
      · have h31 := hb (by omega)
        refine x_aload_n (pc := 68) dX5_multiplies_68 rfl rfl ?_
        refine x_getr (pc := 69) (b := d + 7) fX5_29 dX5_multiplies_69 hd.1 rfl rfl ?_
        refine x_iload (pc := 72) dX5_multiplies_72 rfl ?_
        refine x_iload (pc := 74) dX5_multiplies_74 rfl ?_
        refine x_iadd (pc := 76) dX5_multiplies_76 ?_
        refine x_iload (pc := 77) dX5_multiplies_77 rfl ?_
        refine x_iadd (pc := 79) dX5_multiplies_79 ?_
        refine x_iconst (pc := 80) dX5_multiplies_80 ?_
        refine x_isub (pc := 81) dX5_multiplies_81 ?_
        refine x_iald (pc := 82) dX5_multiplies_82 hd.2.2.2.2.2.2.2.1 (by omega) (by omega) (fun r82a r82b => ?_)
        rw [show (32 * (z9 : Int) + x + y - 1).toNat = 32 * z9 + ((i0 + j0) + 1) by omega] at r82a r82b ⊢
        refine x_i2l (pc := 83) ⟨by omega, by omega⟩ dX5_multiplies_83 ?_
        refine x_lload (pc := 84) dX5_multiplies_84 rfl ?_
        refine x_ladd (pc := 86) dX5_multiplies_86 ?_
        refine x_iload (pc := 87) dX5_multiplies_87 rfl ?_
        refine x_iload (pc := 89) dX5_multiplies_89 rfl ?_
        refine x_icmp_gt (pc := 91) (t := 120) dX5_multiplies_91 (by decide) ⟨by omega, by omega⟩ ⟨by omega, by omega⟩ (fun c91 => ?_) (fun c91 => ?_)
        · refine x_lconst (pc := 120) (x := 0) dX5_multiplies_120 (by decide) ?_
          refine X.loc [0, 1, 2, 3, 4, 5, 6, 7, 8, 9, 10, 11] (L' := [(12, _), (10, _), (9, _), (8, _), (7, _), (6, _), (5, _), (4, _), (0, _), (1, _), (2, _), (3, _)]) rfl ?_
          first
          | exact step _ h31 rfl
          | (have e0 : slm M d t9 (j0 + 1) = 0 := hnz j0 (by omega) (by omega)
             have k0 := step 0 h31 e0.symm
             rw [Int.mul_zero] at k0
             exact k0)
        · refine x_aload_n (pc := 94) dX5_multiplies_94 rfl rfl ?_
          refine x_getr (pc := 95) (b := d + 7) fX5_29 dX5_multiplies_95 hd.1 rfl rfl ?_
          refine x_iload (pc := 98) dX5_multiplies_98 rfl ?_
          refine x_iload (pc := 100) dX5_multiplies_100 rfl ?_
          refine x_iadd (pc := 102) dX5_multiplies_102 ?_
          refine x_iald (pc := 103) dX5_multiplies_103 hd.2.2.2.2.2.2.2.1 (by omega) (by omega) (fun r103a r103b => ?_)
          rw [show (32 * (k9 : Int) + x).toNat = 32 * k9 + (i0 + 1) by omega, hF _ _ (by omega)] at r103a r103b ⊢
          refine x_i2l (pc := 104) ⟨by omega, by omega⟩ dX5_multiplies_104 ?_
          refine x_aload_n (pc := 105) dX5_multiplies_105 rfl rfl ?_
          refine x_getr (pc := 106) (b := d + 7) fX5_29 dX5_multiplies_106 hd.1 rfl rfl ?_
          refine x_iload (pc := 109) dX5_multiplies_109 rfl ?_
          refine x_iload (pc := 111) dX5_multiplies_111 rfl ?_
          refine x_iadd (pc := 113) dX5_multiplies_113 ?_
          refine x_iald (pc := 114) dX5_multiplies_114 hd.2.2.2.2.2.2.2.1 (by omega) (by omega) (fun r114a r114b => ?_)
          rw [show (32 * (t9 : Int) + y).toNat = 32 * t9 + (j0 + 1) by omega, hF _ _ (by omega)] at r114a r114b ⊢
          refine x_i2l (pc := 115) ⟨by omega, by omega⟩ dX5_multiplies_115 ?_
          refine x_lmul (pc := 116) dX5_multiplies_116 ?_
          refine x_goto (pc := 117) (t := 121) dX5_multiplies_117 (by decide) ?_
          refine X.loc [0, 1, 2, 3, 4, 5, 6, 7, 8, 9, 10, 11] (L' := [(12, _), (10, _), (9, _), (8, _), (7, _), (6, _), (5, _), (4, _), (0, _), (1, _), (2, _), (3, _)]) rfl ?_
          first
          | exact step _ h31 rfl
          | (have e0 : slm M d t9 (j0 + 1) = 0 := hnz j0 (by omega) (by omega)
             have k0 := step 0 h31 e0.symm
             rw [Int.mul_zero] at k0
             exact k0)
      · refine x_lload (pc := 61) dX5_multiplies_61 rfl ?_
        refine x_lconst (pc := 63) (x := 0) dX5_multiplies_63 (by decide) ?_
        refine x_lcmp_le (pc := 64) (t := 160) dX5_multiplies_64 dX5_multiplies_65 (by decide) ⟨by omega, by omega⟩ ⟨by omega, by omega⟩ (fun c64 => ?_) (fun c64 => ?_)
        · refine x_iinc (pc := 160) dX5_multiplies_160 rfl (by decide) (L' := [(9, _), (12, _), (10, _), (8, _), (7, _), (6, _), (5, _), (4, _), (0, _), (1, _), (2, _), (3, _)]) rfl ?_
          refine x_goto (pc := 163) (t := 41) dX5_multiplies_163 (by decide) ?_
          refine X.loc [0, 3, 4, 5, 6, 7, 8, 9, 10, 11] (L' := [(9, _), (8, _), (7, _), (6, _), (5, _), (4, _), (0, _), (1, _), (2, _), (3, _)]) rfl ?_
          exact exit (by omega) (by omega)
        · have h31 := hb (by omega)
          refine x_aload_n (pc := 68) dX5_multiplies_68 rfl rfl ?_
          refine x_getr (pc := 69) (b := d + 7) fX5_29 dX5_multiplies_69 hd.1 rfl rfl ?_
          refine x_iload (pc := 72) dX5_multiplies_72 rfl ?_
          refine x_iload (pc := 74) dX5_multiplies_74 rfl ?_
          refine x_iadd (pc := 76) dX5_multiplies_76 ?_
          refine x_iload (pc := 77) dX5_multiplies_77 rfl ?_
          refine x_iadd (pc := 79) dX5_multiplies_79 ?_
          refine x_iconst (pc := 80) dX5_multiplies_80 ?_
          refine x_isub (pc := 81) dX5_multiplies_81 ?_
          refine x_iald (pc := 82) dX5_multiplies_82 hd.2.2.2.2.2.2.2.1 (by omega) (by omega) (fun r82a r82b => ?_)
          rw [show (32 * (z9 : Int) + x + y - 1).toNat = 32 * z9 + ((i0 + j0) + 1) by omega] at r82a r82b ⊢
          refine x_i2l (pc := 83) ⟨by omega, by omega⟩ dX5_multiplies_83 ?_
          refine x_lload (pc := 84) dX5_multiplies_84 rfl ?_
          refine x_ladd (pc := 86) dX5_multiplies_86 ?_
          refine x_iload (pc := 87) dX5_multiplies_87 rfl ?_
          refine x_iload (pc := 89) dX5_multiplies_89 rfl ?_
          refine x_icmp_gt (pc := 91) (t := 120) dX5_multiplies_91 (by decide) ⟨by omega, by omega⟩ ⟨by omega, by omega⟩ (fun c91 => ?_) (fun c91 => ?_)
          · refine x_lconst (pc := 120) (x := 0) dX5_multiplies_120 (by decide) ?_
            refine X.loc [0, 1, 2, 3, 4, 5, 6, 7, 8, 9, 10, 11] (L' := [(12, _), (10, _), (9, _), (8, _), (7, _), (6, _), (5, _), (4, _), (0, _), (1, _), (2, _), (3, _)]) rfl ?_
            first
            | exact step _ h31 rfl
            | (have e0 : slm M d t9 (j0 + 1) = 0 := hnz j0 (by omega) (by omega)
               have k0 := step 0 h31 e0.symm
               rw [Int.mul_zero] at k0
               exact k0)
          · refine x_aload_n (pc := 94) dX5_multiplies_94 rfl rfl ?_
            refine x_getr (pc := 95) (b := d + 7) fX5_29 dX5_multiplies_95 hd.1 rfl rfl ?_
            refine x_iload (pc := 98) dX5_multiplies_98 rfl ?_
            refine x_iload (pc := 100) dX5_multiplies_100 rfl ?_
            refine x_iadd (pc := 102) dX5_multiplies_102 ?_
            refine x_iald (pc := 103) dX5_multiplies_103 hd.2.2.2.2.2.2.2.1 (by omega) (by omega) (fun r103a r103b => ?_)
            rw [show (32 * (k9 : Int) + x).toNat = 32 * k9 + (i0 + 1) by omega, hF _ _ (by omega)] at r103a r103b ⊢
            refine x_i2l (pc := 104) ⟨by omega, by omega⟩ dX5_multiplies_104 ?_
            refine x_aload_n (pc := 105) dX5_multiplies_105 rfl rfl ?_
            refine x_getr (pc := 106) (b := d + 7) fX5_29 dX5_multiplies_106 hd.1 rfl rfl ?_
            refine x_iload (pc := 109) dX5_multiplies_109 rfl ?_
            refine x_iload (pc := 111) dX5_multiplies_111 rfl ?_
            refine x_iadd (pc := 113) dX5_multiplies_113 ?_
            refine x_iald (pc := 114) dX5_multiplies_114 hd.2.2.2.2.2.2.2.1 (by omega) (by omega) (fun r114a r114b => ?_)
            rw [show (32 * (t9 : Int) + y).toNat = 32 * t9 + (j0 + 1) by omega, hF _ _ (by omega)] at r114a r114b ⊢
            refine x_i2l (pc := 115) ⟨by omega, by omega⟩ dX5_multiplies_115 ?_
            refine x_lmul (pc := 116) dX5_multiplies_116 ?_
            refine x_goto (pc := 117) (t := 121) dX5_multiplies_117 (by decide) ?_
            refine X.loc [0, 1, 2, 3, 4, 5, 6, 7, 8, 9, 10, 11] (L' := [(12, _), (10, _), (9, _), (8, _), (7, _), (6, _), (5, _), (4, _), (0, _), (1, _), (2, _), (3, _)]) rfl ?_
            first
            | exact step _ h31 rfl
            | (have e0 : slm M d t9 (j0 + 1) = 0 := hnz j0 (by omega) (by omega)
               have k0 := step 0 h31 e0.symm
               rw [Int.mul_zero] at k0
               exact k0)
  have outer : ∀ (m n : Nat), m ≤ 31 → n ≤ 31 → (∀ i, m ≤ i → i < 31 → slm M d k9 (i + 1) = 0) → (∀ i, n ≤ i → i < 31 → slm M d t9 (i + 1) = 0) → (0 < m → 0 < n → m + n ≤ 32) → ∀ (e i0 : Nat) (y : Int) (M1 : Mem), i0 + e = m → y = (i0 : Int) + 1 → FrS d z9 M M1 → M1 (d + 7) (32 * z9) = 0 → Sw (vl (fun i => slm M d k9 (i + 1)) i0 * ab (N t9)) (slm M1 d z9) → X g m_X5_multiplies 0 0 lay M1 41 [(9, vI y), (8, vI n), (7, vI m), (6, vI (32 * (z9 : Int))), (5, vI (32 * (t9 : Int))), (4, vI (32 * (k9 : Int))), (0, vR d), (1, vI k9), (2, vI t9), (3, vI z9)] [] K := by
    intro m n hm hn hmz hnz hmn e
    induction e with
    | zero =>
      intro i0 y M1 hi hy hF hs hW
      have e1 : M1 (d + 7) (32 * k9 + 0) = sg (N k9) := by rw [hF _ _ (by omega)]; exact hA.1
      have e2 : M1 (d + 7) (32 * t9 + 0) = sg (N t9) := by rw [hF _ _ (by omega)]; exact hT.1
      have e3 : vl (fun i => slm M d k9 (i + 1)) i0 = ab (N k9) := by
        rw [← hA.2.2]
        exact (vl_top 31 (by omega) (fun i h1 h2 => hmz i (by omega) h2)).symm
      rw [e3] at hW
      have hr := sg3 (x := N k9 * N t9)
      refine x_iload (pc := 41) dX5_multiplies_41 rfl ?_
      refine x_iload (pc := 43) dX5_multiplies_43 rfl ?_
      refine x_icmp_gt (pc := 45) (t := 166) dX5_multiplies_45 (by decide) ⟨by omega, by omega⟩ ⟨by omega, by omega⟩ (fun c45 => ?_) (fun c45 => ?_)
      · refine x_aload_n (pc := 166) dX5_multiplies_166 rfl rfl ?_
        refine x_getr (pc := 167) (b := d + 7) fX5_29 dX5_multiplies_167 hd.1 rfl rfl ?_
        refine x_iload (pc := 170) dX5_multiplies_170 rfl ?_
        refine x_aload_n (pc := 172) dX5_multiplies_172 rfl rfl ?_
        refine x_getr (pc := 173) (b := d + 7) fX5_29 dX5_multiplies_173 hd.1 rfl rfl ?_
        refine x_iload (pc := 176) dX5_multiplies_176 rfl ?_
        refine x_iald (pc := 178) dX5_multiplies_178 hd.2.2.2.2.2.2.2.1 (by omega) (by omega) (fun r178a r178b => ?_)
        rw [show (32 * (k9 : Int)).toNat = 32 * k9 + 0 by omega, e1] at r178a r178b ⊢
        refine x_aload_n (pc := 179) dX5_multiplies_179 rfl rfl ?_
        refine x_getr (pc := 180) (b := d + 7) fX5_29 dX5_multiplies_180 hd.1 rfl rfl ?_
        refine x_iload (pc := 183) dX5_multiplies_183 rfl ?_
        refine x_iald (pc := 185) dX5_multiplies_185 hd.2.2.2.2.2.2.2.1 (by omega) (by omega) (fun r185a r185b => ?_)
        rw [show (32 * (t9 : Int)).toNat = 32 * t9 + 0 by omega, e2] at r185a r185b ⊢
        refine x_imul (pc := 186) dX5_multiplies_186 ?_
        rw [← sg_mul]
        refine x_iast (pc := 187) dX5_multiplies_187 hd.2.2.2.2.2.2.2.1 (by omega) (by omega) (by omega) ⟨by omega, by omega⟩ ?_
        refine x_vret (pc := 188) dX5_multiplies_188 rfl (by decide) (by decide) ?_
        rw [show (32 * (z9 : Int)).toNat = 32 * z9 by omega]
        have hF2 : FrS d z9 M (mset M1 (d + 7) (32 * z9) (sg (N k9 * N t9))) := hF.ms (by omega)
        refine k _ hF2 (hB.up hF2 ⟨?_, fun i hi => ?_, ?_⟩)
        · show mset _ _ _ _ (d + 7) (32 * z9 + 0) = _
          exact mset_same
        · show 0 ≤ mset _ _ _ _ (d + 7) (32 * z9 + (i + 1)) ∧ mset _ _ _ _ (d + 7) (32 * z9 + (i + 1)) < _
          rw [mset_nei (by omega)]
          exact hW.1 i hi
        · rw [ab_mul, ← hW.2]
          refine vl_cong 31 (fun i hi => ?_)
          show mset _ _ _ _ (d + 7) (32 * z9 + (i + 1)) = _
          rw [mset_nei (by omega)]
      · exfalso; omega
    | succ e ih =>
      intro i0 y M1 hi hy hF hs hW
      refine x_iload (pc := 41) dX5_multiplies_41 rfl ?_
      refine x_iload (pc := 43) dX5_multiplies_43 rfl ?_
      refine x_icmp_gt (pc := 45) (t := 166) dX5_multiplies_45 (by decide) ⟨by omega, by omega⟩ ⟨by omega, by omega⟩ (fun c45 => ?_) (fun c45 => ?_)
      · exfalso; omega
      · refine x_lconst (pc := 48) (x := 0) dX5_multiplies_48 (by decide) ?_
        refine x_lstore (pc := 49) dX5_multiplies_49 trivial (by decide) (L' := [(10, _), (9, _), (8, _), (7, _), (6, _), (5, _), (4, _), (0, _), (1, _), (2, _), (3, _)]) rfl ?_
        refine x_iconst (pc := 51) dX5_multiplies_51 ?_
        refine x_istore (pc := 52) dX5_multiplies_52 trivial (by decide) (L' := [(12, _), (10, _), (9, _), (8, _), (7, _), (6, _), (5, _), (4, _), (0, _), (1, _), (2, _), (3, _)]) rfl ?_
        refine X.loc [0, 1, 2, 3, 4, 5, 6, 7, 8, 9, 10, 11] (L' := [(12, _), (10, _), (9, _), (8, _), (7, _), (6, _), (5, _), (4, _), (0, _), (1, _), (2, _), (3, _)]) rfl ?_
        refine inner m n i0 hm hn hnz (by omega) (hmn (by omega)) (fun M2 hF2 hs2 hW2 z hz => ih (i0 + 1) z M2 (by omega) (by omega) hF2 hs2 hW2) 32 0 _ _ _ _ _ rfl (by omega) rfl hy hF hs hW (by omega) (by omega) ?_
        simp [vl]
  refine x_iload_n (pc := 0) dX5_multiplies_0 rfl rfl ?_
  refine x_callS (pc := 1) [_] rfl kX5_58 dX5_multiplies_1 rfl (by decide) (Nat.le_of_ble_eq_true rfl) (Nat.le_of_ble_eq_true rfl) (by decide) ?_
  refine sp_X5_slot ?_
  refine ⟨_, rfl, ?_⟩
  refine x_istore (pc := 4) dX5_multiplies_4 trivial (by decide) (L' := [(4, _), (0, _), (1, _), (2, _), (3, _)]) rfl ?_
  refine x_iload_n (pc := 6) dX5_multiplies_6 rfl rfl ?_
  refine x_callS (pc := 7) [_] rfl kX5_58 dX5_multiplies_7 rfl (by decide) (Nat.le_of_ble_eq_true rfl) (Nat.le_of_ble_eq_true rfl) (by decide) ?_
  refine sp_X5_slot ?_
  refine ⟨_, rfl, ?_⟩
  refine x_istore (pc := 10) dX5_multiplies_10 trivial (by decide) (L' := [(5, _), (4, _), (0, _), (1, _), (2, _), (3, _)]) rfl ?_
  refine x_iload_n (pc := 12) dX5_multiplies_12 rfl rfl ?_
  refine x_callS (pc := 13) [_] rfl kX5_58 dX5_multiplies_13 rfl (by decide) (Nat.le_of_ble_eq_true rfl) (Nat.le_of_ble_eq_true rfl) (by decide) ?_
  refine sp_X5_slot ?_
  refine ⟨_, rfl, ?_⟩
  refine x_istore (pc := 16) dX5_multiplies_16 trivial (by decide) (L' := [(6, _), (5, _), (4, _), (0, _), (1, _), (2, _), (3, _)]) rfl ?_
  refine x_aload_n (pc := 18) dX5_multiplies_18 rfl rfl ?_
  refine x_iload_n (pc := 19) dX5_multiplies_19 rfl rfl ?_
  refine x_callV (pc := 20) [_] rfl kX5_62 dX5_multiplies_20 hd.1 rfl rfl (by decide) (Nat.le_of_ble_eq_true rfl) (Nat.le_of_ble_eq_true rfl) (by decide) ?_
  refine sp_X5_partsOf hd hb0 hA hk9 (fun m p1 p2 p3 => ?_)
  refine ⟨_, rfl, ?_⟩
  refine x_istore (pc := 23) dX5_multiplies_23 trivial (by decide) (L' := [(7, _), (6, _), (5, _), (4, _), (0, _), (1, _), (2, _), (3, _)]) rfl ?_
  refine x_aload_n (pc := 25) dX5_multiplies_25 rfl rfl ?_
  refine x_iload_n (pc := 26) dX5_multiplies_26 rfl rfl ?_
  refine x_callV (pc := 27) [_] rfl kX5_62 dX5_multiplies_27 hd.1 rfl rfl (by decide) (Nat.le_of_ble_eq_true rfl) (Nat.le_of_ble_eq_true rfl) (by decide) ?_
  refine sp_X5_partsOf hd hb0 hT ht9 (fun n q1 q2 q3 => ?_)
  refine ⟨_, rfl, ?_⟩
  refine x_istore (pc := 30) dX5_multiplies_30 trivial (by decide) (L' := [(8, _), (7, _), (6, _), (5, _), (4, _), (0, _), (1, _), (2, _), (3, _)]) rfl ?_
  refine x_aload_n (pc := 32) dX5_multiplies_32 rfl rfl ?_
  refine x_iload_n (pc := 33) dX5_multiplies_33 rfl rfl ?_
  refine x_iconst (pc := 34) dX5_multiplies_34 ?_
  refine x_callV (pc := 35) [_, _] rfl kX5_65 dX5_multiplies_35 hd.1 rfl rfl (by decide) (Nat.le_of_ble_eq_true rfl) (Nat.le_of_ble_eq_true rfl) (by decide) ?_
  refine sp_X5_setsLong (k9 := z9) hd hb0 hB hz9 (by omega) (fun M1 hF1 hB1 => ?_)
  refine ⟨_, rfl, ?_⟩
  refine x_iconst (pc := 38) dX5_multiplies_38 ?_
  refine x_istore (pc := 39) dX5_multiplies_39 trivial (by decide) (L' := [(9, _), (8, _), (7, _), (6, _), (5, _), (4, _), (0, _), (1, _), (2, _), (3, _)]) rfl ?_
  refine X.loc [0, 1, 2, 3, 4, 5, 6, 7, 8, 9] (L' := [(9, _), (8, _), (7, _), (6, _), (5, _), (4, _), (0, _), (1, _), (2, _), (3, _)]) rfl ?_
  have hz := hB1 z9 hz9
  rw [fup_at] at hz
  refine outer m n p1 q1 p2 q2 (fun h1 h2 => ?_) m 0 _ _ (by omega) rfl hF1 hz.1 ?_
  · have a1 := ab_pos hA h1 p1 (p3 h1)
    have a2 := ab_pos hT h2 q1 (q3 h2)
    have a3 := Int.mul_le_mul a1 a2 (by have := pB_pos (n - 1); omega) hAn
    rw [← pB_add] at a3
    have := pB_lt (i := m - 1 + (n - 1)) (j := 31) (by omega)
    omega
  · simp only [vl, Int.zero_mul]
    exact ⟨hz.2.1, hz.2.2⟩
