/-! The reference: a polynomial written, turns written. -/
theorem stB_8 : stB (wM 8) ++ ([32] ++ stB (wM 11)) = stB 12 ∧ stB (wM 8) ++ ([32] ++ stB (wM 10)) = stB 13 ∧ stB (wM 9) ++ [59] = stB 14 ∧ stB (wM 7) = stB 7 := by decide
theorem stB_le : ∀ q, q < 15 → (stB q).length ≤ 13 := by decide
theorem clmT_len (l : Nat → Int) : (clmT l).length ≤ 30 := by
  have h1 := stB_le 12 (by omega)
  have h2 := stB_le 13 (by omega)
  have n0 := @numF_len (l 0)
  have n1 := @numF_len (l 1)
  have n2 := @numF_len (l 2)
  have n4 := @numF_len (l 4)
  unfold clmT
  split <;> (simp; omega)
theorem termF_len (x p : Int) : (termF x p).length ≤ 12 := by
  have h1 : (stB 14).length = 5 := by decide
  have h2 : (stB 7).length = 3 := by decide
  have n0 := @numF_len x
  have n1 := @numF_len p
  unfold termF
  split
  · omega
  · simp; omega
/-- how many of the first claims were made ahead of a turn -/
def cntC (l : Nat → Nat → Int) (t : Int) : Nat → Nat
  | 0 => 0
  | n + 1 => cntC l t n + (if l n 5 < t then 1 else 0)
theorem cntC_le (l : Nat → Nat → Int) (t : Int) : ∀ n, cntC l t n ≤ n
  | 0 => Nat.le_refl _
  | n + 1 => by
    have := cntC_le l t n
    simp only [cntC]
    split <;> omega
theorem clms_len (l : Nat → Nat → Int) (t : Int) : ∀ n, (clmsT l t n).length + 30 * cntC l t n ≤ 30 * cntC l (t + 1) n
  | 0 => by simp [clmsT, cntC]
  | n + 1 => by
    have h1 := clms_len l t n
    have h2 := clmT_len (l n)
    simp only [clmsT, cntC, List.length_append]
    by_cases e : l n 5 = t
    · rw [if_pos e, if_neg (by omega), if_pos (by omega)]
      omega
    · rw [if_neg e]
      by_cases e2 : l n 5 < t
      · rw [if_pos e2, if_pos (by omega)]
        simp
        omega
      · rw [if_neg e2, if_neg (by omega)]
        simp
        omega
theorem cntC_mono (l : Nat → Nat → Int) {t t' : Int} (h : t ≤ t') : ∀ n, cntC l t n ≤ cntC l t' n
  | 0 => Nat.le_refl _
  | n + 1 => by
    have := cntC_mono l h n
    simp only [cntC]
    split
    · rw [if_pos (by omega)]; omega
    · split <;> omega
theorem turns_len (T : CT) : ∀ n : Nat, (turnsT T n).length ≤ 12 * n + 30 * (cntC (tL T 0) n (tK T 0) + cntC (tL T 1) n (tK T 1))
  | 0 => by simp [turnsT]
  | n + 1 => by
    have h1 := turns_len T n
    have h2 := clms_len (tL T (n % 2)) n (tK T (n % 2))
    have h3 := termF_len (tC T n) (tQ T n)
    have h4 := cntC_mono (tL T 0) (show ((n : Nat) : Int) ≤ ((n + 1 : Nat) : Int) by omega) (tK T 0)
    have h5 := cntC_mono (tL T 1) (show ((n : Nat) : Int) ≤ ((n + 1 : Nat) : Int) by omega) (tK T 1)
    simp only [turnsT, List.length_append]
    have hm : n % 2 = 0 ∨ n % 2 = 1 := by omega
    rw [show ((n : Int) + 1) = ((n + 1 : Nat) : Int) by omega] at h2
    rcases hm with e | e <;> rw [e] at h2 ⊢ <;> omega
theorem all_len (T : CT) (hk : ∀ p, tK T p ≤ 4) (n : Nat) (hn : n ≤ 60) : (turnsT T n ++ clmsT (tL T (n % 2)) n (tK T (n % 2))).length ≤ 960 := by
  have h1 := turns_len T n
  have h2 := clms_len (tL T (n % 2)) n (tK T (n % 2))
  have h4 := cntC_mono (tL T 0) (show ((n : Nat) : Int) ≤ (n : Int) + 1 by omega) (tK T 0)
  have h5 := cntC_mono (tL T 1) (show ((n : Nat) : Int) ≤ (n : Int) + 1 by omega) (tK T 1)
  have h6 := cntC_le (tL T 0) ((n : Int) + 1) (tK T 0)
  have h7 := cntC_le (tL T 1) ((n : Int) + 1) (tK T 1)
  have k0 := hk 0
  have k1 := hk 1
  rw [List.length_append]
  have hm : n % 2 = 0 ∨ n % 2 = 1 := by omega
  rcases hm with e | e <;> rw [e] at h2 ⊢ <;> omega
theorem turns_pre (T : CT) {n m : Nat} (h : n ≤ m) : (turnsT T n).length ≤ (turnsT T m).length := by
  induction m with
  | zero => rw [show n = 0 by omega]; exact Nat.le_refl _
  | succ m ih =>
    by_cases e : n = m + 1
    · rw [e]; exact Nat.le_refl _
    · have := ih (by omega)
      simp only [turnsT, List.length_append]
      omega
theorem turns_step (T : CT) (n : Nat) : (turnsT T n ++ clmsT (tL T (n % 2)) n (tK T (n % 2))).length ≤ (turnsT T (n + 1)).length := by
  simp only [turnsT, List.length_append]
  omega
theorem clms_pre (l : Nat → Nat → Int) (t : Int) {n m : Nat} (h : n ≤ m) : (clmsT l t n).length ≤ (clmsT l t m).length := by
  induction m with
  | zero => rw [show n = 0 by omega]; exact Nat.le_refl _
  | succ m ih =>
    by_cases e : n = m + 1
    · rw [e]; exact Nat.le_refl _
    · have := ih (by omega)
      simp only [clmsT, List.length_append]
      omega
theorem FrO.n {d : Nat} {M M' : Mem} (h : FrO d M M') (j : Nat) : M' (d + 1) j = M (d + 1) j := h _ _ (by omega) (by omega)

set_option maxRecDepth 100000 in
theorem sp_X5_printsClaim {g : GG} {lay : Lay} {M : Mem} {K : KK} {d : Nat} {T : CT} {pg : List Int} {t : Nat} (hd : MoL lay d) (hb0 : g.2.1 ≤ d) (hT : RowT T (M (d + 1))) (hW : WfT T) (hg : Po pg M d) (hD : Wd M d) (ht : t ≤ 60) (hl : pg.length + (clmsT (tL T (t % 2)) t (tK T (t % 2))).length ≤ 960) (k : ∀ M2, FrO d M M2 → Po (pg ++ clmsT (tL T (t % 2)) t (tK T (t % 2))) M2 d → K (.inl none) lay M2) : X g m_X5_printsClaim 0 0 lay M 0 [(0, vR d), (1, vI t)] [] K := by
  have hn := hW.n60
  obtain ⟨wS, wP, wN, wm, wK, wL, wO, wB⟩ := id hW
  obtain ⟨⟨hS, hN, h10, hP, hp3, hL, hK, h99, hm⟩, hO, hBo⟩ := id hT
  have h2 : t % 2 < 2 := Nat.mod_lt _ (by decide)
  generalize hpl : t % 2 = pl at *
  have wk := wK pl
  have loop : ∀ (c j : Nat) (x : Int) (M1 : Mem), j + c = tK T pl → x = j → FrO d M M1 → Po (pg ++ clmsT (tL T pl) t j) M1 d → X g m_X5_printsClaim 0 0 lay M1 6 [(3, vI x), (2, vI pl), (0, vR d), (1, vI t)] [] K := by
    intro c
    induction c with
    | zero =>
      intro j x M1 hj hx hF hg1
      have hT1 := hT.fr hF.n
      refine x_iload_n (pc := 6) dX5_printsClaim_6 rfl rfl ?_
      refine x_aload_n (pc := 7) dX5_printsClaim_7 rfl rfl ?_
      refine x_iload_n (pc := 8) dX5_printsClaim_8 rfl rfl ?_
      refine x_callV (pc := 9) [_] rfl kX5_155 dX5_printsClaim_9 hd.1 rfl rfl (by decide) (Nat.le_of_ble_eq_true rfl) (Nat.le_of_ble_eq_true rfl) (by decide) ?_
      refine sp_X5_claimsOf hd hb0 hT1 hW h2 ?_
      refine ⟨_, rfl, ?_⟩
      refine x_icmp_ge (pc := 12) (t := 136) dX5_printsClaim_12 (by decide) ⟨by omega, by omega⟩ ⟨by omega, by omega⟩ (fun c12 => ?_) (fun c12 => ?_)
      · refine x_vret (pc := 136) dX5_printsClaim_136 rfl (by decide) (by decide) ?_
        rw [show j = tK T pl by omega] at hg1
        exact k M1 hF hg1
      · exfalso; omega
    | succ c ih =>
      intro j x M1 hj hx hF hg1
      have hT1 := hT.fr hF.n
      have hD1 := hF.wd hD
      have l0 := hL pl j 0 h2 (by omega) (by omega)
      have l1 := hL pl j 1 h2 (by omega) (by omega)
      have l2 := hL pl j 2 h2 (by omega) (by omega)
      have l3 := hL pl j 3 h2 (by omega) (by omega)
      have l4 := hL pl j 4 h2 (by omega) (by omega)
      have l5 := hL pl j 5 h2 (by omega) (by omega)
      have wl := wL pl j h2 (by omega)
      unfold WfL at wl
      have hpre := clms_pre (tL T pl) (t : Int) (show j + 1 ≤ tK T pl by omega)
      have en : clmsT (tL T pl) t (j + 1) = clmsT (tL T pl) t j ++ (if tL T pl j 5 = t then clmT (tL T pl j) else []) := rfl
      have b8 := stB_le (wM 8) (wM_15 8 (by omega))
      obtain ⟨s8, s8b, -, -⟩ := stB_8
      have hlc := clmT_len (tL T pl j)
      have hpj := clms_pre (tL T pl) (t : Int) (show j ≤ tK T pl by omega)
      have next : ∀ M2, FrO d M1 M2 → Po (pg ++ clmsT (tL T pl) t (j + 1)) M2 d → X g m_X5_printsClaim 0 0 lay M2 130 [(4, vI ((47 + 24 * pl + 6 * j : Nat) : Int)), (3, vI x), (2, vI pl), (0, vR d), (1, vI t)] [] K := by
        intro M2 hF2 hg2
        refine x_iinc (pc := 130) dX5_printsClaim_130 rfl (by decide) (L' := [(3, _), (4, _), (2, _), (0, _), (1, _)]) rfl ?_
        refine x_goto (pc := 133) (t := 6) dX5_printsClaim_133 (by decide) ?_
        refine X.loc [0, 2, 3, 4] (L' := [(3, _), (2, _), (0, _), (1, _)]) rfl ?_
        exact ih (j + 1) _ M2 (by omega) (by omega) (hF.tr hF2) hg2
      have tail : ∀ (M2 : Mem) (p2 : List Int), FrO d M1 M2 → Po p2 M2 d → p2.length ≤ pg.length + (clmsT (tL T pl) t j).length + 15 → p2 ++ (32 :: numF (tL T pl j 0) ++ (32 :: numF (tL T pl j 1) ++ (32 :: numF (tL T pl j 2) ++ (32 :: numF (tL T pl j 4) ++ [59])))) = pg ++ clmsT (tL T pl) t (j + 1) → X g m_X5_printsClaim 0 0 lay M2 74 [(4, vI ((47 + 24 * pl + 6 * j : Nat) : Int)), (3, vI x), (2, vI pl), (0, vR d), (1, vI t)] [] K := by
        intro M2 p2 hF2 hg2 hl2 he2
        have n0 := @numF_len (tL T pl j 0)
        have n1 := @numF_len (tL T pl j 1)
        have n2 := @numF_len (tL T pl j 2)
        have n4 := @numF_len (tL T pl j 4)
        have e0 : ∀ (M3 : Mem) (f : Nat), FrO d M1 M3 → f < 6 → M3 (d + 1) (47 + 24 * pl + 6 * j + f) = tL T pl j f := fun M3 f hF3 hf => by rw [hF3.n, hF.n]; exact hL pl j f h2 (by omega) hf
        refine x_aload_n (pc := 74) dX5_printsClaim_74 rfl rfl ?_
        refine x_aload_n (pc := 75) dX5_printsClaim_75 rfl rfl ?_
        refine x_getr (pc := 76) (b := d + 1) fX5_7 dX5_printsClaim_76 hd.1 rfl rfl ?_
        refine x_iload (pc := 79) dX5_printsClaim_79 rfl ?_
        refine x_iald (pc := 81) dX5_printsClaim_81 hd.2.1 (by omega) (by omega) (fun r81a r81b => ?_)
        rw [show ((47 + 24 * pl + 6 * j : Nat) : Int).toNat = 47 + 24 * pl + 6 * j + 0 by omega, e0 M2 0 hF2 (by omega)] at r81a r81b ⊢
        refine x_callV (pc := 82) [_] rfl kX5_375 dX5_printsClaim_82 hd.1 rfl rfl (by decide) (Nat.le_of_ble_eq_true rfl) (Nat.le_of_ble_eq_true rfl) (by decide) ?_
        refine sp_X5_printsNext hd hb0 hg2 (by omega) (by omega) (fun M3 hF3 hg3 => ?_)
        refine ⟨_, rfl, ?_⟩
        refine x_aload_n (pc := 85) dX5_printsClaim_85 rfl rfl ?_
        refine x_aload_n (pc := 86) dX5_printsClaim_86 rfl rfl ?_
        refine x_getr (pc := 87) (b := d + 1) fX5_7 dX5_printsClaim_87 hd.1 rfl rfl ?_
        refine x_iload (pc := 90) dX5_printsClaim_90 rfl ?_
        refine x_iconst (pc := 92) dX5_printsClaim_92 ?_
        refine x_iadd (pc := 93) dX5_printsClaim_93 ?_
        refine x_iald (pc := 94) dX5_printsClaim_94 hd.2.1 (by omega) (by omega) (fun r94a r94b => ?_)
        rw [show (((47 + 24 * pl + 6 * j : Nat) : Int) + 1).toNat = 47 + 24 * pl + 6 * j + 1 by omega, e0 M3 1 (hF2.tr hF3) (by omega)] at r94a r94b ⊢
        refine x_callV (pc := 95) [_] rfl kX5_375 dX5_printsClaim_95 hd.1 rfl rfl (by decide) (Nat.le_of_ble_eq_true rfl) (Nat.le_of_ble_eq_true rfl) (by decide) ?_
        refine sp_X5_printsNext hd hb0 hg3 (by omega) (by simp; omega) (fun M4 hF4 hg4 => ?_)
        refine ⟨_, rfl, ?_⟩
        refine x_aload_n (pc := 98) dX5_printsClaim_98 rfl rfl ?_
        refine x_aload_n (pc := 99) dX5_printsClaim_99 rfl rfl ?_
        refine x_getr (pc := 100) (b := d + 1) fX5_7 dX5_printsClaim_100 hd.1 rfl rfl ?_
        refine x_iload (pc := 103) dX5_printsClaim_103 rfl ?_
        refine x_iconst (pc := 105) dX5_printsClaim_105 ?_
        refine x_iadd (pc := 106) dX5_printsClaim_106 ?_
        refine x_iald (pc := 107) dX5_printsClaim_107 hd.2.1 (by omega) (by omega) (fun r107a r107b => ?_)
        rw [show (((47 + 24 * pl + 6 * j : Nat) : Int) + 2).toNat = 47 + 24 * pl + 6 * j + 2 by omega, e0 M4 2 ((hF2.tr hF3).tr hF4) (by omega)] at r107a r107b ⊢
        refine x_callV (pc := 108) [_] rfl kX5_375 dX5_printsClaim_108 hd.1 rfl rfl (by decide) (Nat.le_of_ble_eq_true rfl) (Nat.le_of_ble_eq_true rfl) (by decide) ?_
        refine sp_X5_printsNext hd hb0 hg4 (by omega) (by simp; omega) (fun M5 hF5 hg5 => ?_)
        refine ⟨_, rfl, ?_⟩
        refine x_aload_n (pc := 111) dX5_printsClaim_111 rfl rfl ?_
        refine x_aload_n (pc := 112) dX5_printsClaim_112 rfl rfl ?_
        refine x_getr (pc := 113) (b := d + 1) fX5_7 dX5_printsClaim_113 hd.1 rfl rfl ?_
        refine x_iload (pc := 116) dX5_printsClaim_116 rfl ?_
        refine x_iconst (pc := 118) dX5_printsClaim_118 ?_
        refine x_iadd (pc := 119) dX5_printsClaim_119 ?_
        refine x_iald (pc := 120) dX5_printsClaim_120 hd.2.1 (by omega) (by omega) (fun r120a r120b => ?_)
        rw [show (((47 + 24 * pl + 6 * j : Nat) : Int) + 4).toNat = 47 + 24 * pl + 6 * j + 4 by omega, e0 M5 4 (((hF2.tr hF3).tr hF4).tr hF5) (by omega)] at r120a r120b ⊢
        refine x_callV (pc := 121) [_] rfl kX5_375 dX5_printsClaim_121 hd.1 rfl rfl (by decide) (Nat.le_of_ble_eq_true rfl) (Nat.le_of_ble_eq_true rfl) (by decide) ?_
        refine sp_X5_printsNext hd hb0 hg5 (by omega) (by simp; omega) (fun M6 hF6 hg6 => ?_)
        refine ⟨_, rfl, ?_⟩
        refine x_aload_n (pc := 124) dX5_printsClaim_124 rfl rfl ?_
        refine x_bipush (pc := 125) dX5_printsClaim_125 (by decide) ?_
        refine x_callV (pc := 127) [_] rfl kX5_363 dX5_printsClaim_127 hd.1 rfl rfl (by decide) (Nat.le_of_ble_eq_true rfl) (Nat.le_of_ble_eq_true rfl) (by decide) ?_
        refine sp_X5_prints hd hb0 hg6 (by omega) (by simp; omega) (fun M7 hF7 hg7 => ?_)
        refine ⟨_, rfl, ?_⟩
        refine X.loc [0, 1, 2, 3, 4] (L' := [(4, _), (3, _), (2, _), (0, _), (1, _)]) rfl ?_
        refine next M7 (((((hF2.tr hF3).tr hF4).tr hF5).tr hF6).tr hF7) ?_
        rw [← he2]
        simpa [List.append_assoc] using hg7
      refine x_iload_n (pc := 6) dX5_printsClaim_6 rfl rfl ?_
      refine x_aload_n (pc := 7) dX5_printsClaim_7 rfl rfl ?_
      refine x_iload_n (pc := 8) dX5_printsClaim_8 rfl rfl ?_
      refine x_callV (pc := 9) [_] rfl kX5_155 dX5_printsClaim_9 hd.1 rfl rfl (by decide) (Nat.le_of_ble_eq_true rfl) (Nat.le_of_ble_eq_true rfl) (by decide) ?_
      refine sp_X5_claimsOf hd hb0 hT1 hW h2 ?_
      refine ⟨_, rfl, ?_⟩
      refine x_icmp_ge (pc := 12) (t := 136) dX5_printsClaim_12 (by decide) ⟨by omega, by omega⟩ ⟨by omega, by omega⟩ (fun c12 => ?_) (fun c12 => ?_)
      · exfalso; omega
      · refine x_iload_n (pc := 15) dX5_printsClaim_15 rfl rfl ?_
        refine x_iload_n (pc := 16) dX5_printsClaim_16 rfl rfl ?_
        refine x_callS (pc := 17) [_, _] rfl kX5_158 dX5_printsClaim_17 rfl (by decide) (Nat.le_of_ble_eq_true rfl) (Nat.le_of_ble_eq_true rfl) (by decide) ?_
        refine sp_X5_claimAt ?_
        refine ⟨_, rfl, ?_⟩
        rw [show 47 + 24 * (pl : Int) + 6 * x = ((47 + 24 * pl + 6 * j : Nat) : Int) by omega]
        refine x_istore (pc := 20) dX5_printsClaim_20 trivial (by decide) (L' := [(4, _), (3, _), (2, _), (0, _), (1, _)]) rfl ?_
        refine x_aload_n (pc := 22) dX5_printsClaim_22 rfl rfl ?_
        refine x_getr (pc := 23) (b := d + 1) fX5_7 dX5_printsClaim_23 hd.1 rfl rfl ?_
        refine x_iload (pc := 26) dX5_printsClaim_26 rfl ?_
        refine x_iconst (pc := 28) dX5_printsClaim_28 ?_
        refine x_iadd (pc := 29) dX5_printsClaim_29 ?_
        refine x_iald (pc := 30) dX5_printsClaim_30 hd.2.1 (by omega) (by omega) (fun r30a r30b => ?_)
        rw [show (((47 + 24 * pl + 6 * j : Nat) : Int) + 5).toNat = 47 + 24 * pl + 6 * j + 5 by omega, hF.n, l5] at r30a r30b ⊢
        refine x_iload_n (pc := 31) dX5_printsClaim_31 rfl rfl ?_
        refine x_icmp_eq (pc := 32) (t := 38) dX5_printsClaim_32 (by decide) ⟨by omega, by omega⟩ ⟨by omega, by omega⟩ (fun c32 => ?_) (fun c32 => ?_)
        · refine x_aload_n (pc := 38) dX5_printsClaim_38 rfl rfl ?_
          refine x_bipush (pc := 39) dX5_printsClaim_39 (by decide) ?_
          refine x_callV (pc := 41) [_] rfl kX5_372 dX5_printsClaim_41 hd.1 rfl rfl (by decide) (Nat.le_of_ble_eq_true rfl) (Nat.le_of_ble_eq_true rfl) (by decide) ?_
          refine sp_X5_printsWord (w := 8) hd hb0 hg1 (by omega) hD1 (by simp; omega) (fun M2 hF2 hg2 => ?_)
          refine ⟨_, rfl, ?_⟩
          refine x_aload_n (pc := 44) dX5_printsClaim_44 rfl rfl ?_
          refine x_bipush (pc := 45) dX5_printsClaim_45 (by decide) ?_
          refine x_callV (pc := 47) [_] rfl kX5_363 dX5_printsClaim_47 hd.1 rfl rfl (by decide) (Nat.le_of_ble_eq_true rfl) (Nat.le_of_ble_eq_true rfl) (by decide) ?_
          refine sp_X5_prints hd hb0 hg2 (by omega) (by simp; omega) (fun M3 hF3 hg3 => ?_)
          have hD3 := hF3.wd (hF2.wd hD1)
          refine ⟨_, rfl, ?_⟩
          refine x_aload_n (pc := 50) dX5_printsClaim_50 rfl rfl ?_
          refine x_aload_n (pc := 51) dX5_printsClaim_51 rfl rfl ?_
          refine x_getr (pc := 52) (b := d + 1) fX5_7 dX5_printsClaim_52 hd.1 rfl rfl ?_
          refine x_iload (pc := 55) dX5_printsClaim_55 rfl ?_
          refine x_iconst (pc := 57) dX5_printsClaim_57 ?_
          refine x_iadd (pc := 58) dX5_printsClaim_58 ?_
          refine x_iald (pc := 59) dX5_printsClaim_59 hd.2.1 (by omega) (by omega) (fun r59a r59b => ?_)
          rw [show (((47 + 24 * pl + 6 * j : Nat) : Int) + 3).toNat = 47 + 24 * pl + 6 * j + 3 by omega, hF3.n, hF2.n, hF.n, l3] at r59a r59b ⊢
          refine x_iconst (pc := 60) dX5_printsClaim_60 ?_
          refine x_icmp_ne (pc := 61) (t := 69) dX5_printsClaim_61 (by decide) ⟨by omega, by omega⟩ ⟨by omega, by omega⟩ (fun c61 => ?_) (fun c61 => ?_)
          · refine x_bipush (pc := 69) dX5_printsClaim_69 (by decide) ?_
            refine x_callV (pc := 71) [_] rfl kX5_372 dX5_printsClaim_71 hd.1 rfl rfl (by decide) (Nat.le_of_ble_eq_true rfl) (Nat.le_of_ble_eq_true rfl) (by decide) ?_
            first
            | refine sp_X5_printsWord (w := 11) hd hb0 hg3 (by omega) hD3 (by simp; omega) (fun M4 hF4 hg4 => ?_)
            | refine sp_X5_printsWord (w := 10) hd hb0 hg3 (by omega) hD3 (by simp; omega) (fun M4 hF4 hg4 => ?_)
            refine ⟨_, rfl, ?_⟩
            refine X.loc [0, 1, 2, 3, 4] (L' := [(4, _), (3, _), (2, _), (0, _), (1, _)]) rfl ?_
            refine tail M4 _ ((hF2.tr hF3).tr hF4) hg4 ?_ ?_
            · first
              | (have b9 : (stB (wM 8) ++ ([32] ++ stB (wM 11))).length ≤ 13 := by rw [s8]; exact stB_le 12 (by omega)
                 simp at b9 ⊢
                 omega)
              | (have b9 : (stB (wM 8) ++ ([32] ++ stB (wM 10))).length ≤ 13 := by rw [s8b]; exact stB_le 13 (by omega)
                 simp at b9 ⊢
                 omega)
            · rw [en, if_pos (by omega)]
              unfold clmT
              first
              | (rw [if_pos (by omega), ← s8]
                 simp [List.append_assoc]
                 done)
              | (rw [if_neg (by omega), ← s8b]
                 simp [List.append_assoc]
                 done)
          · refine x_bipush (pc := 64) dX5_printsClaim_64 (by decide) ?_
            refine x_goto (pc := 66) (t := 71) dX5_printsClaim_66 (by decide) ?_
            refine x_callV (pc := 71) [_] rfl kX5_372 dX5_printsClaim_71 hd.1 rfl rfl (by decide) (Nat.le_of_ble_eq_true rfl) (Nat.le_of_ble_eq_true rfl) (by decide) ?_
            first
            | refine sp_X5_printsWord (w := 11) hd hb0 hg3 (by omega) hD3 (by simp; omega) (fun M4 hF4 hg4 => ?_)
            | refine sp_X5_printsWord (w := 10) hd hb0 hg3 (by omega) hD3 (by simp; omega) (fun M4 hF4 hg4 => ?_)
            refine ⟨_, rfl, ?_⟩
            refine X.loc [0, 1, 2, 3, 4] (L' := [(4, _), (3, _), (2, _), (0, _), (1, _)]) rfl ?_
            refine tail M4 _ ((hF2.tr hF3).tr hF4) hg4 ?_ ?_
            · first
              | (have b9 : (stB (wM 8) ++ ([32] ++ stB (wM 11))).length ≤ 13 := by rw [s8]; exact stB_le 12 (by omega)
                 simp at b9 ⊢
                 omega)
              | (have b9 : (stB (wM 8) ++ ([32] ++ stB (wM 10))).length ≤ 13 := by rw [s8b]; exact stB_le 13 (by omega)
                 simp at b9 ⊢
                 omega)
            · rw [en, if_pos (by omega)]
              unfold clmT
              first
              | (rw [if_pos (by omega), ← s8]
                 simp [List.append_assoc]
                 done)
              | (rw [if_neg (by omega), ← s8b]
                 simp [List.append_assoc]
                 done)
        · refine x_goto (pc := 35) (t := 130) dX5_printsClaim_35 (by decide) ?_
          refine X.loc [0, 1, 2, 3, 4] (L' := [(4, _), (3, _), (2, _), (0, _), (1, _)]) rfl ?_
          refine next M1 FrO.rf ?_
          rw [en, if_neg (by omega)]
          simpa using hg1
  refine x_iload_n (pc := 0) dX5_printsClaim_0 rfl rfl ?_
  refine x_iconst (pc := 1) dX5_printsClaim_1 ?_
  refine x_irem (pc := 2) dX5_printsClaim_2 ⟨by omega, by omega⟩ ⟨by omega, by omega⟩ (by omega) ?_
  rw [tmod2, hpl]
  refine x_istore_n (pc := 3) dX5_printsClaim_3 rfl (by decide) (L' := [(2, _), (0, _), (1, _)]) rfl ?_
  refine x_iconst (pc := 4) dX5_printsClaim_4 ?_
  refine x_istore_n (pc := 5) dX5_printsClaim_5 rfl (by decide) (L' := [(3, _), (2, _), (0, _), (1, _)]) rfl ?_
  refine X.loc [0, 1, 2, 3] (L' := [(3, _), (2, _), (0, _), (1, _)]) rfl ?_
  exact loop (tK T pl) 0 _ M (by omega) rfl FrO.rf (by simpa [clmsT] using hg)
set_option maxRecDepth 100000 in
theorem sp_X5_write {g : GG} {lay : Lay} {M : Mem} {K : KK} {d : Nat} {T : CT} (hd : MoL lay d) (hb0 : g.2.1 ≤ d) (hT : RowT T (M (d + 1))) (hW : WfT T) (k : ∀ M2, (∀ a j, ¬ (a = d ∧ (j = 0 ∨ j = 25)) → ¬ a = d + 12 → M2 a j = M a j) → Po (writeF (tP T)) M2 d → K (.inl (some (vI ((writeF (tP T)).length : Nat)))) lay M2) : X g m_X5_write 0 0 lay M 0 [(0, vR d)] [] K := by
  have hn := hW.n60
  obtain ⟨wS, wP, wN, wm, wK, wL, wO, wB⟩ := id hW
  obtain ⟨⟨hS, hN, h10, hP, hp3, hL, hK, h99, hm⟩, hO, hBo⟩ := id hT
  obtain ⟨U, hU⟩ : ∃ U, U = polF (tP T) 5 [] := ⟨_, rfl⟩
  unfold writeF at k
  rw [← hU] at k
  have loop : ∀ (n : Nat) (y : Int) (M1 : Mem) (pg : List Int), y + 1 = n → n ≤ 5 → (∀ a j, ¬ (a = d ∧ (j = 0 ∨ j = 25)) → ¬ a = d + 12 → M1 a j = M a j) → Po pg M1 d → pg.length + 8 * n ≤ 40 → polF (tP T) n pg = U → X g m_X5_write 0 0 lay M1 12 [(1, vI y), (0, vR d)] [] K := by
    intro n
    induction n with
    | zero =>
      intro y M1 pg hy hn5 hF hg hl hu
      simp only [polF] at hu
      rw [← hu] at k
      obtain ⟨g1, g2, g3⟩ := id hg
      refine x_iload_n (pc := 12) dX5_write_12 rfl rfl ?_
      refine x_if_lt (pc := 13) (t := 48) dX5_write_13 (by decide) ⟨by omega, by omega⟩ (fun c13 => ?_) (fun c13 => ?_)
      · refine x_aload_n (pc := 48) dX5_write_48 rfl rfl ?_
        refine x_geti (pc := 49) fX5_360 dX5_write_49 hd.1 rfl (fun r49a r49b => ?_)
        rw [g1] at r49a r49b ⊢
        refine x_if_ne (pc := 52) (t := 61) dX5_write_52 (by decide) ⟨by omega, by omega⟩ (fun c52 => ?_) (fun c52 => ?_)
        · refine x_aload_n (pc := 61) dX5_write_61 rfl rfl ?_
          refine x_geti (pc := 62) fX5_360 dX5_write_62 hd.1 rfl (fun r62a r62b => ?_)
          refine x_iret (pc := 65) dX5_write_65 rfl (by decide) (by decide) ?_
          first
          | (rw [if_neg (by omega)] at k
             rw [g1]
             exact k M1 hF hg)
          | (rw [if_pos (by omega)] at k
             rw [hg2.1]
             rw [show app pg 48 = pg ++ [48] from if_pos (by omega)] at k
             exact k M2 (fun a j q1 q2 => by rw [hF2 _ _ (by omega) q2]; exact hF a j q1 q2) hg2)
        · refine x_aload_n (pc := 55) dX5_write_55 rfl rfl ?_
          refine x_bipush (pc := 56) dX5_write_56 (by decide) ?_
          refine x_callV (pc := 58) [_] rfl kX5_363 dX5_write_58 hd.1 rfl rfl (by decide) (Nat.le_of_ble_eq_true rfl) (Nat.le_of_ble_eq_true rfl) (by decide) ?_
          refine sp_X5_prints hd hb0 hg (by omega) (by omega) (fun M2 hF2 hg2 => ?_)
          refine ⟨_, rfl, ?_⟩
          refine x_aload_n (pc := 61) dX5_write_61 rfl rfl ?_
          refine x_geti (pc := 62) fX5_360 dX5_write_62 hd.1 rfl (fun r62a r62b => ?_)
          refine x_iret (pc := 65) dX5_write_65 rfl (by decide) (by decide) ?_
          first
          | (rw [if_neg (by omega)] at k
             rw [g1]
             exact k M1 hF hg)
          | (rw [if_pos (by omega)] at k
             rw [hg2.1]
             rw [show app pg 48 = pg ++ [48] from if_pos (by omega)] at k
             exact k M2 (fun a j q1 q2 => by rw [hF2 _ _ (by omega) q2]; exact hF a j q1 q2) hg2)
      · exfalso; omega
    | succ n ih =>
      intro y M1 pg hy hn5 hF hg hl hu
      have e1 : M1 (d + 1) (11 + n) = tP T n := by rw [hF _ _ (by omega) (by omega)]; exact hP n (by omega)
      have wp := wP n
      simp only [polF] at hu
      refine x_iload_n (pc := 12) dX5_write_12 rfl rfl ?_
      refine x_if_lt (pc := 13) (t := 48) dX5_write_13 (by decide) ⟨by omega, by omega⟩ (fun c13 => ?_) (fun c13 => ?_)
      · exfalso; omega
      · refine x_aload_n (pc := 16) dX5_write_16 rfl rfl ?_
        refine x_getr (pc := 17) (b := d + 1) fX5_7 dX5_write_17 hd.1 rfl rfl ?_
        refine x_bipush (pc := 20) dX5_write_20 (by decide) ?_
        refine x_iload_n (pc := 22) dX5_write_22 rfl rfl ?_
        refine x_iadd (pc := 23) dX5_write_23 ?_
        refine x_iald (pc := 24) dX5_write_24 hd.2.1 (by omega) (by omega) (fun r24a r24b => ?_)
        rw [show (11 + y).toNat = 11 + n by omega, e1] at r24a r24b ⊢
        refine x_if_eq (pc := 25) (t := 42) dX5_write_25 (by decide) ⟨by omega, by omega⟩ (fun c25 => ?_) (fun c25 => ?_)
        · refine x_iinc (pc := 42) dX5_write_42 rfl (by decide) (L' := [(1, _), (0, _)]) rfl ?_
          refine x_goto (pc := 45) (t := 12) dX5_write_45 (by decide) ?_
          refine X.loc [0, 1] (L' := [(1, _), (0, _)]) rfl ?_
          first
          | (rw [if_pos (by assumption)] at hu
             exact ih _ M2 _ (by omega) (by omega) (fun a j q1 q2 => by rw [hF2 _ _ (by omega) q2]; exact hF a j q1 q2) hg2 (by omega) hu)
          | (rw [if_neg (by omega)] at hu
             exact ih _ M1 _ (by omega) (by omega) hF hg (by omega) hu)
        · refine x_aload_n (pc := 28) dX5_write_28 rfl rfl ?_
          refine x_aload_n (pc := 29) dX5_write_29 rfl rfl ?_
          refine x_getr (pc := 30) (b := d + 1) fX5_7 dX5_write_30 hd.1 rfl rfl ?_
          refine x_bipush (pc := 33) dX5_write_33 (by decide) ?_
          refine x_iload_n (pc := 35) dX5_write_35 rfl rfl ?_
          refine x_iadd (pc := 36) dX5_write_36 ?_
          refine x_iald (pc := 37) dX5_write_37 hd.2.1 (by omega) (by omega) (fun r37a r37b => ?_)
          rw [show (11 + y).toNat = 11 + n by omega, e1] at r37a r37b ⊢
          refine x_iload_n (pc := 38) dX5_write_38 rfl rfl ?_
          refine x_callV (pc := 39) [_, _] rfl kX5_369 dX5_write_39 hd.1 rfl rfl (by decide) (Nat.le_of_ble_eq_true rfl) (Nat.le_of_ble_eq_true rfl) (by decide) ?_
          rw [show y = (n : Int) by omega]
          refine sp_X5_printsTerm hd hb0 hg ⟨wp.1, wp.2.1⟩ (by omega) (by omega) (fun M2 hF2 hg2 hl2 => ?_)
          rw [show (n : Int) = y by omega]
          refine ⟨_, rfl, ?_⟩
          refine x_iinc (pc := 42) dX5_write_42 rfl (by decide) (L' := [(1, _), (0, _)]) rfl ?_
          refine x_goto (pc := 45) (t := 12) dX5_write_45 (by decide) ?_
          refine X.loc [0, 1] (L' := [(1, _), (0, _)]) rfl ?_
          first
          | (rw [if_pos (by assumption)] at hu
             exact ih _ M2 _ (by omega) (by omega) (fun a j q1 q2 => by rw [hF2 _ _ (by omega) q2]; exact hF a j q1 q2) hg2 (by omega) hu)
          | (rw [if_neg (by omega)] at hu
             exact ih _ M1 _ (by omega) (by omega) hF hg (by omega) hu)
  refine x_aload_n (pc := 0) dX5_write_0 rfl rfl ?_
  refine x_iconst (pc := 1) dX5_write_1 ?_
  refine x_puti (pc := 2) fnX5_55 dX5_write_2 hd.1 (by omega) rfl ⟨by omega, by omega⟩ ?_
  refine x_aload_n (pc := 5) dX5_write_5 rfl rfl ?_
  refine x_iconst (pc := 6) dX5_write_6 ?_
  refine x_puti (pc := 7) fnX5_360 dX5_write_7 hd.1 (by omega) rfl ⟨by omega, by omega⟩ ?_
  refine x_iconst (pc := 10) dX5_write_10 ?_
  refine x_istore_n (pc := 11) dX5_write_11 rfl (by decide) (L' := [(1, _), (0, _)]) rfl ?_
  refine X.loc [0, 1] (L' := [(1, _), (0, _)]) rfl ?_
  exact loop 5 _ _ [] (by omega) (by omega) (fun a j q1 q2 => by rw [mset_ne (by omega), mset_ne (by omega)]) ⟨by rw [mset_same]; rfl, by simp, fun i hi => by simp at hi⟩ (by simp) hU.symm
set_option maxRecDepth 100000 in
theorem sp_X5_writeTurns {g : GG} {lay : Lay} {M : Mem} {K : KK} {d : Nat} {T : CT} (hd : MoL lay d) (hb0 : g.2.1 ≤ d) (hT : RowT T (M (d + 1))) (hW : WfT T) (hD : Wd M d) (k : ∀ M2, (∀ a j, ¬ (a = d ∧ (j = 0 ∨ j = 25)) → ¬ a = d + 12 → M2 a j = M a j) → Po (writeT T) M2 d → K (.inl (some (vI ((writeT T).length : Nat)))) lay M2) : X g m_X5_writeTurns 0 0 lay M 0 [(0, vR d)] [] K := by
  have hn := hW.n60
  obtain ⟨wS, wP, wN, wm, wK, wL, wO, wB⟩ := id hW
  obtain ⟨⟨hS, hN, h10, hP, hp3, hL, hK, h99, hm⟩, hO, hBo⟩ := id hT
  have hal := all_len T wK (tN T) hn
  have eW : writeT T = turnsT T (tN T) ++ clmsT (tL T (tN T % 2)) (tN T) (tK T (tN T % 2)) := by
    unfold writeT
    rw [apps_eq (by simp at hal ⊢; omega)]
    simp
  rw [eW] at k
  obtain ⟨-, -, s14, s7⟩ := stB_8
  have loop : ∀ (c j : Nat) (x : Int) (M1 : Mem), j + c = tN T → x = j → (∀ a j, ¬ (a = d ∧ (j = 0 ∨ j = 25)) → ¬ a = d + 12 → M1 a j = M a j) → Po (turnsT T j) M1 d → X g m_X5_writeTurns 0 0 lay M1 12 [(1, vI x), (0, vR d)] [] K := by
    intro c
    induction c with
    | zero =>
      intro j x M1 hj hx hF hg1
      have hT1 : RowT T (M1 (d + 1)) := hT.fr (fun q => hF _ _ (by omega) (by omega))
      have hD1 : Wd M1 d := fun i hi => by rw [hF _ _ (by omega) (by omega)]; exact hD i hi
      have e7 : M1 (d + 1) 7 = tN T := hT1.1.2.1
      have ej : j = tN T := by omega
      subst ej
      refine x_iload_n (pc := 12) dX5_writeTurns_12 rfl rfl ?_
      refine x_aload_n (pc := 13) dX5_writeTurns_13 rfl rfl ?_
      refine x_getr (pc := 14) (b := d + 1) fX5_7 dX5_writeTurns_14 hd.1 rfl rfl ?_
      refine x_bipush (pc := 17) dX5_writeTurns_17 (by decide) ?_
      refine x_iald (pc := 19) dX5_writeTurns_19 hd.2.1 (by omega) (by omega) (fun r19a r19b => ?_)
      rw [show (7 : Int).toNat = 7 from rfl, e7] at r19a r19b ⊢
      refine x_icmp_ge (pc := 20) (t := 101) dX5_writeTurns_20 (by decide) ⟨by omega, by omega⟩ ⟨by omega, by omega⟩ (fun c20 => ?_) (fun c20 => ?_)
      · refine x_aload_n (pc := 101) dX5_writeTurns_101 rfl rfl ?_
        refine x_aload_n (pc := 102) dX5_writeTurns_102 rfl rfl ?_
        refine x_getr (pc := 103) (b := d + 1) fX5_7 dX5_writeTurns_103 hd.1 rfl rfl ?_
        refine x_bipush (pc := 106) dX5_writeTurns_106 (by decide) ?_
        refine x_iald (pc := 108) dX5_writeTurns_108 hd.2.1 (by omega) (by omega) (fun r108a r108b => ?_)
        rw [show (7 : Int).toNat = 7 from rfl, e7] at r108a r108b ⊢
        refine x_callV (pc := 109) [_] rfl kX5_378 dX5_writeTurns_109 hd.1 rfl rfl (by decide) (Nat.le_of_ble_eq_true rfl) (Nat.le_of_ble_eq_true rfl) (by decide) ?_
        refine sp_X5_printsClaim hd hb0 hT1 hW hg1 hD1 (by omega) (by simp at hal ⊢; omega) (fun M2 hF2 hg2 => ?_)
        refine ⟨_, rfl, ?_⟩
        refine x_aload_n (pc := 112) dX5_writeTurns_112 rfl rfl ?_
        refine x_geti (pc := 113) fX5_360 dX5_writeTurns_113 hd.1 rfl (fun r113a r113b => ?_)
        refine x_iret (pc := 116) dX5_writeTurns_116 rfl (by decide) (by decide) ?_
        rw [hg2.1]
        exact k M2 (fun a j q1 q2 => by rw [hF2 _ _ (by omega) q2]; exact hF a j q1 q2) hg2
      · exfalso; omega
    | succ c ih =>
      intro j x M1 hj hx hF hg1
      have hT1 : RowT T (M1 (d + 1)) := hT.fr (fun q => hF _ _ (by omega) (by omega))
      have hD1 : Wd M1 d := fun i hi => by rw [hF _ _ (by omega) (by omega)]; exact hD i hi
      have e7 : M1 (d + 1) 7 = tN T := hT1.1.2.1
      have hpl := turns_pre T (show j + 1 ≤ tN T by omega)
      have hst := turns_step T j
      have hal2 : (turnsT T (tN T)).length ≤ 960 := by simp at hal; omega
      have wmj := wm j (by omega)
      have w0 := wS.1
      have en : turnsT T (j + 1) = (turnsT T j ++ clmsT (tL T (j % 2)) j (tK T (j % 2))) ++ termF (tC T j) (tQ T j) := by
        simp only [turnsT]
        rw [List.append_assoc]
      have em : ∀ M2, FrO d M1 M2 → M2 (d + 1) (100 + 3 * j) = (if tC T j = 0 then 1 else 0) ∧ M2 (d + 1) (100 + 3 * j + 1) = tC T j ∧ M2 (d + 1) (100 + 3 * j + 2) = tQ T j := fun M2 hF2 => by rw [hF2.n, hF2.n, hF2.n]; exact hT1.1.2.2.2.2.2.2.2.2 j (by omega)
      have i0 : (100 + 3 * x).toNat = 100 + 3 * j := by omega
      have i1 : (100 + 3 * x + 1).toNat = 100 + 3 * j + 1 := by omega
      have i2 : (100 + 3 * x + 2).toNat = 100 + 3 * j + 2 := by omega
      have hlt : (turnsT T j ++ clmsT (tL T (j % 2)) j (tK T (j % 2))).length ≤ 960 := by omega
      have b7 := stB_le (wM 7) (wM_15 7 (by omega))
      have b9 := stB_le (wM 9) (wM_15 9 (by omega))
      have nx := @numF_len (tC T j)
      have nq := @numF_len (tQ T j)
      refine x_iload_n (pc := 12) dX5_writeTurns_12 rfl rfl ?_
      refine x_aload_n (pc := 13) dX5_writeTurns_13 rfl rfl ?_
      refine x_getr (pc := 14) (b := d + 1) fX5_7 dX5_writeTurns_14 hd.1 rfl rfl ?_
      refine x_bipush (pc := 17) dX5_writeTurns_17 (by decide) ?_
      refine x_iald (pc := 19) dX5_writeTurns_19 hd.2.1 (by omega) (by omega) (fun r19a r19b => ?_)
      rw [show (7 : Int).toNat = 7 from rfl, e7] at r19a r19b ⊢
      refine x_icmp_ge (pc := 20) (t := 101) dX5_writeTurns_20 (by decide) ⟨by omega, by omega⟩ ⟨by omega, by omega⟩ (fun c20 => ?_) (fun c20 => ?_)
      · exfalso; omega
      · refine x_aload_n (pc := 23) dX5_writeTurns_23 rfl rfl ?_
        refine x_iload_n (pc := 24) dX5_writeTurns_24 rfl rfl ?_
        refine x_callV (pc := 25) [_] rfl kX5_378 dX5_writeTurns_25 hd.1 rfl rfl (by decide) (Nat.le_of_ble_eq_true rfl) (Nat.le_of_ble_eq_true rfl) (by decide) ?_
        rw [hx]
        refine sp_X5_printsClaim hd hb0 hT1 hW hg1 hD1 (by omega) (by simp at hlt ⊢; omega) (fun M2 hF2 hg2 => ?_)
        rw [← hx]
        have hD2 := hF2.wd hD1
        refine ⟨_, rfl, ?_⟩
        refine x_bipush (pc := 28) dX5_writeTurns_28 (by decide) ?_
        refine x_iconst (pc := 30) dX5_writeTurns_30 ?_
        refine x_iload_n (pc := 31) dX5_writeTurns_31 rfl rfl ?_
        refine x_imul (pc := 32) dX5_writeTurns_32 ?_
        refine x_iadd (pc := 33) dX5_writeTurns_33 ?_
        refine x_istore_n (pc := 34) dX5_writeTurns_34 rfl (by decide) (L' := [(2, _), (1, _), (0, _)]) rfl ?_
        refine x_aload_n (pc := 35) dX5_writeTurns_35 rfl rfl ?_
        refine x_aload_n (pc := 36) dX5_writeTurns_36 rfl rfl ?_
        refine x_getr (pc := 37) (b := d + 1) fX5_7 dX5_writeTurns_37 hd.1 rfl rfl ?_
        refine x_iload_n (pc := 40) dX5_writeTurns_40 rfl rfl ?_
        refine x_iald (pc := 41) dX5_writeTurns_41 hd.2.1 (by omega) (by omega) (fun r41a r41b => ?_)
        rw [i0, (em M2 hF2).1] at r41a r41b ⊢
        refine x_iconst (pc := 42) dX5_writeTurns_42 ?_
        refine x_icmp_ne (pc := 43) (t := 51) dX5_writeTurns_43 (by decide) ⟨by omega, by omega⟩ ⟨by omega, by omega⟩ (fun c43 => ?_) (fun c43 => ?_)
        · refine x_bipush (pc := 51) dX5_writeTurns_51 (by decide) ?_
          refine x_callV (pc := 53) [_] rfl kX5_372 dX5_writeTurns_53 hd.1 rfl rfl (by decide) (Nat.le_of_ble_eq_true rfl) (Nat.le_of_ble_eq_true rfl) (by decide) ?_
          first
          | refine sp_X5_printsWord (w := 9) hd hb0 hg2 (by omega) hD2 (by omega) (fun M3 hF3 hg3 => ?_)
          | refine sp_X5_printsWord (w := 7) hd hb0 hg2 (by omega) hD2 (by omega) (fun M3 hF3 hg3 => ?_)
          refine ⟨_, rfl, ?_⟩
          refine x_aload_n (pc := 56) dX5_writeTurns_56 rfl rfl ?_
          refine x_getr (pc := 57) (b := d + 1) fX5_7 dX5_writeTurns_57 hd.1 rfl rfl ?_
          refine x_iload_n (pc := 60) dX5_writeTurns_60 rfl rfl ?_
          refine x_iald (pc := 61) dX5_writeTurns_61 hd.2.1 (by omega) (by omega) (fun r61a r61b => ?_)
          rw [i0, (em M3 (hF2.tr hF3)).1] at r61a r61b ⊢
          refine x_if_ne (pc := 62) (t := 89) dX5_writeTurns_62 (by decide) ⟨by omega, by omega⟩ (fun c62 => ?_) (fun c62 => ?_)
          · refine x_aload_n (pc := 89) dX5_writeTurns_89 rfl rfl ?_
            refine x_bipush (pc := 90) dX5_writeTurns_90 (by decide) ?_
            refine x_callV (pc := 92) [_] rfl kX5_363 dX5_writeTurns_92 hd.1 rfl rfl (by decide) (Nat.le_of_ble_eq_true rfl) (Nat.le_of_ble_eq_true rfl) (by decide) ?_
            first
            | refine sp_X5_prints hd hb0 hg5 (by omega) (by simp only [List.length_append, List.length_cons] at *; omega) (fun M6 hF6 hg6 => ?_)
            | refine sp_X5_prints hd hb0 hg3 (by omega) (by simp only [List.length_append, List.length_cons] at *; omega) (fun M6 hF6 hg6 => ?_)
            refine ⟨_, rfl, ?_⟩
            refine x_iinc (pc := 95) dX5_writeTurns_95 rfl (by decide) (L' := [(1, _), (2, _), (0, _)]) rfl ?_
            refine x_goto (pc := 98) (t := 12) dX5_writeTurns_98 (by decide) ?_
            refine X.loc [0, 2] (L' := [(1, _), (0, _)]) rfl ?_
            first
            | (exfalso; split at c43 <;> split at c62 <;> omega)
            | (have hx0 : tC T j = 0 := Decidable.byContradiction fun z => by rw [if_neg z] at c43; omega
               refine ih (j + 1) _ M6 (by omega) (by omega) (fun a j q1 q2 => by rw [hF6 _ _ (by omega) q2, hF3 _ _ (by omega) q2, hF2 _ _ (by omega) q2]; exact hF a j q1 q2) ?_
               rw [en]
               unfold termF
               rw [if_pos hx0, ← s14, ← List.append_assoc]
               exact hg6)
            | (have hx0 : ¬ tC T j = 0 := fun z => by rw [if_pos z] at c43; omega
               refine ih (j + 1) _ M6 (by omega) (by omega) (fun a j q1 q2 => by rw [hF6 _ _ (by omega) q2, hF5 _ _ (by omega) q2, hF4 _ _ (by omega) q2, hF3 _ _ (by omega) q2, hF2 _ _ (by omega) q2]; exact hF a j q1 q2) ?_
               rw [en]
               unfold termF
               rw [if_neg hx0, ← s7]
               simpa [List.append_assoc] using hg6)
          · refine x_aload_n (pc := 65) dX5_writeTurns_65 rfl rfl ?_
            refine x_aload_n (pc := 66) dX5_writeTurns_66 rfl rfl ?_
            refine x_getr (pc := 67) (b := d + 1) fX5_7 dX5_writeTurns_67 hd.1 rfl rfl ?_
            refine x_iload_n (pc := 70) dX5_writeTurns_70 rfl rfl ?_
            refine x_iconst (pc := 71) dX5_writeTurns_71 ?_
            refine x_iadd (pc := 72) dX5_writeTurns_72 ?_
            refine x_iald (pc := 73) dX5_writeTurns_73 hd.2.1 (by omega) (by omega) (fun r73a r73b => ?_)
            rw [i1, (em M3 (hF2.tr hF3)).2.1] at r73a r73b ⊢
            refine x_callV (pc := 74) [_] rfl kX5_375 dX5_writeTurns_74 hd.1 rfl rfl (by decide) (Nat.le_of_ble_eq_true rfl) (Nat.le_of_ble_eq_true rfl) (by decide) ?_
            refine sp_X5_printsNext hd hb0 hg3 (by omega) (by simp only [List.length_append] at *; omega) (fun M4 hF4 hg4 => ?_)
            refine ⟨_, rfl, ?_⟩
            refine x_aload_n (pc := 77) dX5_writeTurns_77 rfl rfl ?_
            refine x_aload_n (pc := 78) dX5_writeTurns_78 rfl rfl ?_
            refine x_getr (pc := 79) (b := d + 1) fX5_7 dX5_writeTurns_79 hd.1 rfl rfl ?_
            refine x_iload_n (pc := 82) dX5_writeTurns_82 rfl rfl ?_
            refine x_iconst (pc := 83) dX5_writeTurns_83 ?_
            refine x_iadd (pc := 84) dX5_writeTurns_84 ?_
            refine x_iald (pc := 85) dX5_writeTurns_85 hd.2.1 (by omega) (by omega) (fun r85a r85b => ?_)
            rw [i2, (em M4 ((hF2.tr hF3).tr hF4)).2.2] at r85a r85b ⊢
            refine x_callV (pc := 86) [_] rfl kX5_375 dX5_writeTurns_86 hd.1 rfl rfl (by decide) (Nat.le_of_ble_eq_true rfl) (Nat.le_of_ble_eq_true rfl) (by decide) ?_
            refine sp_X5_printsNext hd hb0 hg4 (by omega) (by simp only [List.length_append, List.length_cons] at *; omega) (fun M5 hF5 hg5 => ?_)
            refine ⟨_, rfl, ?_⟩
            refine x_aload_n (pc := 89) dX5_writeTurns_89 rfl rfl ?_
            refine x_bipush (pc := 90) dX5_writeTurns_90 (by decide) ?_
            refine x_callV (pc := 92) [_] rfl kX5_363 dX5_writeTurns_92 hd.1 rfl rfl (by decide) (Nat.le_of_ble_eq_true rfl) (Nat.le_of_ble_eq_true rfl) (by decide) ?_
            first
            | refine sp_X5_prints hd hb0 hg5 (by omega) (by simp only [List.length_append, List.length_cons] at *; omega) (fun M6 hF6 hg6 => ?_)
            | refine sp_X5_prints hd hb0 hg3 (by omega) (by simp only [List.length_append, List.length_cons] at *; omega) (fun M6 hF6 hg6 => ?_)
            refine ⟨_, rfl, ?_⟩
            refine x_iinc (pc := 95) dX5_writeTurns_95 rfl (by decide) (L' := [(1, _), (2, _), (0, _)]) rfl ?_
            refine x_goto (pc := 98) (t := 12) dX5_writeTurns_98 (by decide) ?_
            refine X.loc [0, 2] (L' := [(1, _), (0, _)]) rfl ?_
            first
            | (exfalso; split at c43 <;> split at c62 <;> omega)
            | (have hx0 : tC T j = 0 := Decidable.byContradiction fun z => by rw [if_neg z] at c43; omega
               refine ih (j + 1) _ M6 (by omega) (by omega) (fun a j q1 q2 => by rw [hF6 _ _ (by omega) q2, hF3 _ _ (by omega) q2, hF2 _ _ (by omega) q2]; exact hF a j q1 q2) ?_
               rw [en]
               unfold termF
               rw [if_pos hx0, ← s14, ← List.append_assoc]
               exact hg6)
            | (have hx0 : ¬ tC T j = 0 := fun z => by rw [if_pos z] at c43; omega
               refine ih (j + 1) _ M6 (by omega) (by omega) (fun a j q1 q2 => by rw [hF6 _ _ (by omega) q2, hF5 _ _ (by omega) q2, hF4 _ _ (by omega) q2, hF3 _ _ (by omega) q2, hF2 _ _ (by omega) q2]; exact hF a j q1 q2) ?_
               rw [en]
               unfold termF
               rw [if_neg hx0, ← s7]
               simpa [List.append_assoc] using hg6)
        · refine x_bipush (pc := 46) dX5_writeTurns_46 (by decide) ?_
          refine x_goto (pc := 48) (t := 53) dX5_writeTurns_48 (by decide) ?_
          refine x_callV (pc := 53) [_] rfl kX5_372 dX5_writeTurns_53 hd.1 rfl rfl (by decide) (Nat.le_of_ble_eq_true rfl) (Nat.le_of_ble_eq_true rfl) (by decide) ?_
          first
          | refine sp_X5_printsWord (w := 9) hd hb0 hg2 (by omega) hD2 (by omega) (fun M3 hF3 hg3 => ?_)
          | refine sp_X5_printsWord (w := 7) hd hb0 hg2 (by omega) hD2 (by omega) (fun M3 hF3 hg3 => ?_)
          refine ⟨_, rfl, ?_⟩
          refine x_aload_n (pc := 56) dX5_writeTurns_56 rfl rfl ?_
          refine x_getr (pc := 57) (b := d + 1) fX5_7 dX5_writeTurns_57 hd.1 rfl rfl ?_
          refine x_iload_n (pc := 60) dX5_writeTurns_60 rfl rfl ?_
          refine x_iald (pc := 61) dX5_writeTurns_61 hd.2.1 (by omega) (by omega) (fun r61a r61b => ?_)
          rw [i0, (em M3 (hF2.tr hF3)).1] at r61a r61b ⊢
          refine x_if_ne (pc := 62) (t := 89) dX5_writeTurns_62 (by decide) ⟨by omega, by omega⟩ (fun c62 => ?_) (fun c62 => ?_)
          · refine x_aload_n (pc := 89) dX5_writeTurns_89 rfl rfl ?_
            refine x_bipush (pc := 90) dX5_writeTurns_90 (by decide) ?_
            refine x_callV (pc := 92) [_] rfl kX5_363 dX5_writeTurns_92 hd.1 rfl rfl (by decide) (Nat.le_of_ble_eq_true rfl) (Nat.le_of_ble_eq_true rfl) (by decide) ?_
            first
            | refine sp_X5_prints hd hb0 hg5 (by omega) (by simp only [List.length_append, List.length_cons] at *; omega) (fun M6 hF6 hg6 => ?_)
            | refine sp_X5_prints hd hb0 hg3 (by omega) (by simp only [List.length_append, List.length_cons] at *; omega) (fun M6 hF6 hg6 => ?_)
            refine ⟨_, rfl, ?_⟩
            refine x_iinc (pc := 95) dX5_writeTurns_95 rfl (by decide) (L' := [(1, _), (2, _), (0, _)]) rfl ?_
            refine x_goto (pc := 98) (t := 12) dX5_writeTurns_98 (by decide) ?_
            refine X.loc [0, 2] (L' := [(1, _), (0, _)]) rfl ?_
            first
            | (exfalso; split at c43 <;> split at c62 <;> omega)
            | (have hx0 : tC T j = 0 := Decidable.byContradiction fun z => by rw [if_neg z] at c43; omega
               refine ih (j + 1) _ M6 (by omega) (by omega) (fun a j q1 q2 => by rw [hF6 _ _ (by omega) q2, hF3 _ _ (by omega) q2, hF2 _ _ (by omega) q2]; exact hF a j q1 q2) ?_
               rw [en]
               unfold termF
               rw [if_pos hx0, ← s14, ← List.append_assoc]
               exact hg6)
            | (have hx0 : ¬ tC T j = 0 := fun z => by rw [if_pos z] at c43; omega
               refine ih (j + 1) _ M6 (by omega) (by omega) (fun a j q1 q2 => by rw [hF6 _ _ (by omega) q2, hF5 _ _ (by omega) q2, hF4 _ _ (by omega) q2, hF3 _ _ (by omega) q2, hF2 _ _ (by omega) q2]; exact hF a j q1 q2) ?_
               rw [en]
               unfold termF
               rw [if_neg hx0, ← s7]
               simpa [List.append_assoc] using hg6)
          · refine x_aload_n (pc := 65) dX5_writeTurns_65 rfl rfl ?_
            refine x_aload_n (pc := 66) dX5_writeTurns_66 rfl rfl ?_
            refine x_getr (pc := 67) (b := d + 1) fX5_7 dX5_writeTurns_67 hd.1 rfl rfl ?_
            refine x_iload_n (pc := 70) dX5_writeTurns_70 rfl rfl ?_
            refine x_iconst (pc := 71) dX5_writeTurns_71 ?_
            refine x_iadd (pc := 72) dX5_writeTurns_72 ?_
            refine x_iald (pc := 73) dX5_writeTurns_73 hd.2.1 (by omega) (by omega) (fun r73a r73b => ?_)
            rw [i1, (em M3 (hF2.tr hF3)).2.1] at r73a r73b ⊢
            refine x_callV (pc := 74) [_] rfl kX5_375 dX5_writeTurns_74 hd.1 rfl rfl (by decide) (Nat.le_of_ble_eq_true rfl) (Nat.le_of_ble_eq_true rfl) (by decide) ?_
            refine sp_X5_printsNext hd hb0 hg3 (by omega) (by simp only [List.length_append] at *; omega) (fun M4 hF4 hg4 => ?_)
            refine ⟨_, rfl, ?_⟩
            refine x_aload_n (pc := 77) dX5_writeTurns_77 rfl rfl ?_
            refine x_aload_n (pc := 78) dX5_writeTurns_78 rfl rfl ?_
            refine x_getr (pc := 79) (b := d + 1) fX5_7 dX5_writeTurns_79 hd.1 rfl rfl ?_
            refine x_iload_n (pc := 82) dX5_writeTurns_82 rfl rfl ?_
            refine x_iconst (pc := 83) dX5_writeTurns_83 ?_
            refine x_iadd (pc := 84) dX5_writeTurns_84 ?_
            refine x_iald (pc := 85) dX5_writeTurns_85 hd.2.1 (by omega) (by omega) (fun r85a r85b => ?_)
            rw [i2, (em M4 ((hF2.tr hF3).tr hF4)).2.2] at r85a r85b ⊢
            refine x_callV (pc := 86) [_] rfl kX5_375 dX5_writeTurns_86 hd.1 rfl rfl (by decide) (Nat.le_of_ble_eq_true rfl) (Nat.le_of_ble_eq_true rfl) (by decide) ?_
            refine sp_X5_printsNext hd hb0 hg4 (by omega) (by simp only [List.length_append, List.length_cons] at *; omega) (fun M5 hF5 hg5 => ?_)
            refine ⟨_, rfl, ?_⟩
            refine x_aload_n (pc := 89) dX5_writeTurns_89 rfl rfl ?_
            refine x_bipush (pc := 90) dX5_writeTurns_90 (by decide) ?_
            refine x_callV (pc := 92) [_] rfl kX5_363 dX5_writeTurns_92 hd.1 rfl rfl (by decide) (Nat.le_of_ble_eq_true rfl) (Nat.le_of_ble_eq_true rfl) (by decide) ?_
            first
            | refine sp_X5_prints hd hb0 hg5 (by omega) (by simp only [List.length_append, List.length_cons] at *; omega) (fun M6 hF6 hg6 => ?_)
            | refine sp_X5_prints hd hb0 hg3 (by omega) (by simp only [List.length_append, List.length_cons] at *; omega) (fun M6 hF6 hg6 => ?_)
            refine ⟨_, rfl, ?_⟩
            refine x_iinc (pc := 95) dX5_writeTurns_95 rfl (by decide) (L' := [(1, _), (2, _), (0, _)]) rfl ?_
            refine x_goto (pc := 98) (t := 12) dX5_writeTurns_98 (by decide) ?_
            refine X.loc [0, 2] (L' := [(1, _), (0, _)]) rfl ?_
            first
            | (exfalso; split at c43 <;> split at c62 <;> omega)
            | (have hx0 : tC T j = 0 := Decidable.byContradiction fun z => by rw [if_neg z] at c43; omega
               refine ih (j + 1) _ M6 (by omega) (by omega) (fun a j q1 q2 => by rw [hF6 _ _ (by omega) q2, hF3 _ _ (by omega) q2, hF2 _ _ (by omega) q2]; exact hF a j q1 q2) ?_
               rw [en]
               unfold termF
               rw [if_pos hx0, ← s14, ← List.append_assoc]
               exact hg6)
            | (have hx0 : ¬ tC T j = 0 := fun z => by rw [if_pos z] at c43; omega
               refine ih (j + 1) _ M6 (by omega) (by omega) (fun a j q1 q2 => by rw [hF6 _ _ (by omega) q2, hF5 _ _ (by omega) q2, hF4 _ _ (by omega) q2, hF3 _ _ (by omega) q2, hF2 _ _ (by omega) q2]; exact hF a j q1 q2) ?_
               rw [en]
               unfold termF
               rw [if_neg hx0, ← s7]
               simpa [List.append_assoc] using hg6)
  refine x_aload_n (pc := 0) dX5_writeTurns_0 rfl rfl ?_
  refine x_iconst (pc := 1) dX5_writeTurns_1 ?_
  refine x_puti (pc := 2) fnX5_55 dX5_writeTurns_2 hd.1 (by omega) rfl ⟨by omega, by omega⟩ ?_
  refine x_aload_n (pc := 5) dX5_writeTurns_5 rfl rfl ?_
  refine x_iconst (pc := 6) dX5_writeTurns_6 ?_
  refine x_puti (pc := 7) fnX5_360 dX5_writeTurns_7 hd.1 (by omega) rfl ⟨by omega, by omega⟩ ?_
  refine x_iconst (pc := 10) dX5_writeTurns_10 ?_
  refine x_istore_n (pc := 11) dX5_writeTurns_11 rfl (by decide) (L' := [(1, _), (0, _)]) rfl ?_
  refine X.loc [0, 1] (L' := [(1, _), (0, _)]) rfl ?_
  exact loop (tN T) 0 _ _ (by omega) rfl (fun a j q1 q2 => by rw [mset_ne (by omega), mset_ne (by omega)]) ⟨by rw [mset_same]; rfl, by simp [turnsT], fun i hi => by simp [turnsT] at hi⟩
