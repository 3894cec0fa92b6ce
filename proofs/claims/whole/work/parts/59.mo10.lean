/-! The reference's row of a contest: what it holds; reads. -/
def pasF (T : CT) : Int := if 0 < tN T ∧ tC T (tN T - 1) = 0 then 1 else 0
def byF (T : CT) (p : Int) : Int := if lastF T p = -1 then -1 else (lastF T p).tmod 2
/-- all but whether it is over and who got the bonus -/
def RowC (T : CT) (r : Nat → Int) : Prop :=
  (∀ j, j < 7 → r j = tS T j) ∧ r 7 = tN T ∧ r 10 = pasF T ∧ (∀ p, p < 9 → r (11 + p) = tP T p) ∧ (∀ p, p < 5 → r (20 + p) = termsOnF (tC T) (tQ T) p (tN T) ∧ r (29 + p) = lastF T p ∧ r (38 + p) = byF T p) ∧ (∀ pl i f, pl < 2 → i < tK T pl → f < 6 → r (47 + 24 * pl + 6 * i + f) = tL T pl i f) ∧ (∀ pl, pl < 2 → r (95 + pl) = tK T pl ∧ r (97 + pl) = termsOfF (tC T) pl (tN T)) ∧ r 99 = tN T - (termsOfF (tC T) 0 (tN T) + termsOfF (tC T) 1 (tN T)) ∧ (∀ j, j < tN T → r (100 + 3 * j) = (if tC T j = 0 then 1 else 0) ∧ r (100 + 3 * j + 1) = tC T j ∧ r (100 + 3 * j + 2) = tQ T j)
def RowT (T : CT) (r : Nat → Int) : Prop := RowC T r ∧ r 8 = tO T ∧ r 9 = tB T
def BarH (T : CT) (r : Nat → Int) : Prop := r 0 = tS T 0 ∧ r 1 = tS T 1 ∧ r 7 = tN T ∧ ∀ p, p < 5 → r (29 + p) = lastF T p
theorem RowT.bar {T : CT} {r : Nat → Int} (h : RowT T r) : BarH T r := ⟨h.1.1 0 (by omega), h.1.1 1 (by omega), h.1.2.1, fun p hp => (h.1.2.2.2.2.1 p hp).2.1⟩
theorem zeroBut_deg {P : Nat → Int} {p : Nat} (hp : p < 5) (hne : P p ≠ 0) (hz : zeroBut P p) : degF P 5 = p := by
  have h : ∀ n : Nat, p < n → n ≤ 5 → degF P n = p := by
    intro n
    induction n with
    | zero => intro h; omega
    | succ n ih =>
      intro h1 h2
      simp only [degF]
      by_cases e : n = p
      · rw [e, if_pos hne]
      · rw [if_neg (fun q => q (hz n (by omega) e))]
        exact ih (by omega) (by omega)
  exact h 5 hp (by omega)
theorem degF_rng (P : Nat → Int) : ∀ n : Nat, -1 ≤ degF P n ∧ degF P n < n
  | 0 => by simp [degF]
  | n + 1 => by
    have := degF_rng P n
    simp only [degF]
    split <;> omega

set_option maxRecDepth 100000 in
theorem sp_X5_in {g : GG} {lay : Lay} {M : Mem} {K : KK} {x y z : Int} (hx : i32 x) (hy : i32 y) (hz : i32 z) (k : K (.inl (some (vI (if y ≤ x ∧ x ≤ z then 1 else 0)))) lay M) : X g m_X5_in 0 0 lay M 0 [(0, vI x), (1, vI y), (2, vI z)] [] K := by
  obtain ⟨hx1, hx2⟩ := hx
  obtain ⟨hy1, hy2⟩ := hy
  obtain ⟨hz1, hz2⟩ := hz
  refine x_iload_n (pc := 0) dX5_in_0 rfl rfl ?_
  refine x_iload_n (pc := 1) dX5_in_1 rfl rfl ?_
  refine x_icmp_lt (pc := 2) (t := 14) dX5_in_2 (by decide) ⟨by omega, by omega⟩ ⟨by omega, by omega⟩ (fun c2 => ?_) (fun c2 => ?_)
  · refine x_iconst (pc := 14) dX5_in_14 ?_
    refine x_zret (pc := 15) dX5_in_15 rfl ⟨by omega, by omega⟩ (by decide) (by decide) ?_
    first
    | exact k
    | (rw [if_pos (by omega)] at k; exact k)
    | (rw [if_neg (by omega)] at k; exact k)
  · refine x_iload_n (pc := 5) dX5_in_5 rfl rfl ?_
    refine x_iload_n (pc := 6) dX5_in_6 rfl rfl ?_
    refine x_icmp_gt (pc := 7) (t := 14) dX5_in_7 (by decide) ⟨by omega, by omega⟩ ⟨by omega, by omega⟩ (fun c7 => ?_) (fun c7 => ?_)
    · refine x_iconst (pc := 14) dX5_in_14 ?_
      refine x_zret (pc := 15) dX5_in_15 rfl ⟨by omega, by omega⟩ (by decide) (by decide) ?_
      first
      | exact k
      | (rw [if_pos (by omega)] at k; exact k)
      | (rw [if_neg (by omega)] at k; exact k)
    · refine x_iconst (pc := 10) dX5_in_10 ?_
      refine x_goto (pc := 11) (t := 15) dX5_in_11 (by decide) ?_
      refine x_zret (pc := 15) dX5_in_15 rfl ⟨by omega, by omega⟩ (by decide) (by decide) ?_
      first
      | exact k
      | (rw [if_pos (by omega)] at k; exact k)
      | (rw [if_neg (by omega)] at k; exact k)
set_option maxRecDepth 100000 in
theorem sp_X5_isPower {g : GG} {lay : Lay} {M : Mem} {K : KK} {d : Nat} {T : CT} {p : Int} (hd : MoL lay d) (hb0 : g.2.1 ≤ d) (hT : RowT T (M (d + 1))) (hW : WfT T) (hp : i32 p) (k : K (.inl (some (vI (if hasP T p then 1 else 0)))) lay M) : X g m_X5_isPower 0 0 lay M 0 [(0, vR d), (1, vI p)] [] K := by
  have hn := hW.n60
  obtain ⟨wS, wP, wN, wm, wK, wL, wO, wB⟩ := id hW
  obtain ⟨⟨hS, hN, h10, hP, hp3, hL, hK, h99, hm⟩, hO, hBo⟩ := id hT
  obtain ⟨hp1, hp2⟩ := hp
  have e0 := hS 0 (by decide)
  have w0 := wS.1
  refine x_iload_n (pc := 0) dX5_isPower_0 rfl rfl ?_
  refine x_iconst (pc := 1) dX5_isPower_1 ?_
  refine x_aload_n (pc := 2) dX5_isPower_2 rfl rfl ?_
  refine x_getr (pc := 3) (b := d + 1) fX5_7 dX5_isPower_3 hd.1 rfl rfl ?_
  refine x_iconst (pc := 6) dX5_isPower_6 ?_
  refine x_iald (pc := 7) dX5_isPower_7 hd.2.1 (by omega) (by omega) (fun r7a r7b => ?_)
  rw [show (0 : Int).toNat = 0 from rfl, e0] at r7a r7b ⊢
  refine x_iconst (pc := 8) dX5_isPower_8 ?_
  refine x_isub (pc := 9) dX5_isPower_9 ?_
  have hz := @b01 (0 ≤ p ∧ p ≤ tS T 0 - 1) inferInstance
  refine x_callS (pc := 10) [_, _, _] rfl kX5_144 dX5_isPower_10 rfl (by decide) (Nat.le_of_ble_eq_true rfl) (Nat.le_of_ble_eq_true rfl) (by decide) ?_
  refine sp_X5_in ⟨by omega, by omega⟩ ⟨by omega, by omega⟩ ⟨by omega, by omega⟩ ?_
  refine ⟨_, rfl, ?_⟩
  refine x_zret (pc := 13) dX5_isPower_13 rfl ⟨by omega, by omega⟩ (by decide) (by decide) ?_
  refine kI k ?_
  by_cases h : hasP T p
  · rw [if_pos h, if_pos (by omega)]
  · rw [if_neg h, if_neg (by omega)]
set_option maxRecDepth 100000 in
theorem sp_X5_whose {g : GG} {lay : Lay} {M : Mem} {K : KK} {d : Nat} {T : CT} (hd : MoL lay d) (hb0 : g.2.1 ≤ d) (hT : RowT T (M (d + 1))) (hW : WfT T) (k : K (.inl (some (vI (((tN T % 2 : Nat) : Int))))) lay M) : X g m_X5_whose 0 0 lay M 0 [(0, vR d)] [] K := by
  have hn := hW.n60
  obtain ⟨wS, wP, wN, wm, wK, wL, wO, wB⟩ := id hW
  obtain ⟨⟨hS, hN, h10, hP, hp3, hL, hK, h99, hm⟩, hO, hBo⟩ := id hT
  refine x_aload_n (pc := 0) dX5_whose_0 rfl rfl ?_
  refine x_getr (pc := 1) (b := d + 1) fX5_7 dX5_whose_1 hd.1 rfl rfl ?_
  refine x_bipush (pc := 4) dX5_whose_4 (by decide) ?_
  refine x_iald (pc := 6) dX5_whose_6 hd.2.1 (by omega) (by omega) (fun r6a r6b => ?_)
  refine x_iconst (pc := 7) dX5_whose_7 ?_
  rw [show (7 : Int).toNat = 7 from rfl, hN] at r6a r6b ⊢
  refine x_irem (pc := 8) dX5_whose_8 ⟨by omega, by omega⟩ ⟨by omega, by omega⟩ (by omega) ?_
  refine x_iret (pc := 9) dX5_whose_9 rfl (by decide) (by decide) ?_
  rw [tmod2]
  exact k
set_option maxRecDepth 100000 in
theorem sp_X5_claimAt {g : GG} {lay : Lay} {M : Mem} {K : KK} {x y : Int}  (k : K (.inl (some (vI (47 + 24 * x + 6 * y)))) lay M) : X g m_X5_claimAt 0 0 lay M 0 [(0, vI x), (1, vI y)] [] K := by
  refine x_bipush (pc := 0) dX5_claimAt_0 (by decide) ?_
  refine x_bipush (pc := 2) dX5_claimAt_2 (by decide) ?_
  refine x_iload_n (pc := 4) dX5_claimAt_4 rfl rfl ?_
  refine x_imul (pc := 5) dX5_claimAt_5 ?_
  refine x_iadd (pc := 6) dX5_claimAt_6 ?_
  refine x_bipush (pc := 7) dX5_claimAt_7 (by decide) ?_
  refine x_iload_n (pc := 9) dX5_claimAt_9 rfl rfl ?_
  refine x_imul (pc := 10) dX5_claimAt_10 ?_
  refine x_iadd (pc := 11) dX5_claimAt_11 ?_
  refine x_iret (pc := 12) dX5_claimAt_12 rfl (by decide) (by decide) ?_
  exact k
set_option maxRecDepth 100000 in
theorem sp_X5_claimsOf {g : GG} {lay : Lay} {M : Mem} {K : KK} {d : Nat} {T : CT} {pl : Nat} (hd : MoL lay d) (hb0 : g.2.1 ≤ d) (hT : RowT T (M (d + 1))) (hW : WfT T) (hpl : pl < 2) (k : K (.inl (some (vI ((tK T pl : Nat))))) lay M) : X g m_X5_claimsOf 0 0 lay M 0 [(0, vR d), (1, vI pl)] [] K := by
  have hn := hW.n60
  obtain ⟨wS, wP, wN, wm, wK, wL, wO, wB⟩ := id hW
  obtain ⟨⟨hS, hN, h10, hP, hp3, hL, hK, h99, hm⟩, hO, hBo⟩ := id hT
  have e0 := (hK pl hpl).1
  refine x_aload_n (pc := 0) dX5_claimsOf_0 rfl rfl ?_
  refine x_getr (pc := 1) (b := d + 1) fX5_7 dX5_claimsOf_1 hd.1 rfl rfl ?_
  refine x_bipush (pc := 4) dX5_claimsOf_4 (by decide) ?_
  refine x_iload_n (pc := 6) dX5_claimsOf_6 rfl rfl ?_
  refine x_iadd (pc := 7) dX5_claimsOf_7 ?_
  refine x_iald (pc := 8) dX5_claimsOf_8 hd.2.1 (by omega) (by omega) (fun r8a r8b => ?_)
  refine x_iret (pc := 9) dX5_claimsOf_9 rfl (by decide) (by decide) ?_
  rw [show (95 + (pl : Int)).toNat = 95 + pl by omega, e0]
  exact k
set_option maxRecDepth 100000 in
theorem sp_X5_isBarred {g : GG} {lay : Lay} {M : Mem} {K : KK} {d : Nat} {T : CT} {p : Nat} (hd : MoL lay d) (hb0 : g.2.1 ≤ d) (hT : BarH T (M (d + 1))) (hWS : WfS (tS T)) (hn : tN T ≤ 60) (hp : p < 5) (k : K (.inl (some (vI (if isBar T p then 1 else 0)))) lay M) : X g m_X5_isBarred 0 0 lay M 0 [(0, vR d), (1, vI p)] [] K := by
  obtain ⟨h0, h1, h7, h29⟩ := hT
  have hr : -1 ≤ lastF T p ∧ lastF T p < tN T := lastT_rng (tC T) (tQ T) p (tN T)
  have e9 := h29 p hp
  have w1 := hWS.2.1
  refine x_aload_n (pc := 0) dX5_isBarred_0 rfl rfl ?_
  refine x_getr (pc := 1) (b := d + 1) fX5_7 dX5_isBarred_1 hd.1 rfl rfl ?_
  refine x_bipush (pc := 4) dX5_isBarred_4 (by decide) ?_
  refine x_iload_n (pc := 6) dX5_isBarred_6 rfl rfl ?_
  refine x_iadd (pc := 7) dX5_isBarred_7 ?_
  refine x_iald (pc := 8) dX5_isBarred_8 hd.2.1 (by omega) (by omega) (fun r8a r8b => ?_)
  rw [show (29 + (p : Int)).toNat = 29 + p by omega, e9] at r8a r8b ⊢
  refine x_istore_n (pc := 9) dX5_isBarred_9 rfl (by decide) (L' := [(2, _), (0, _), (1, _)]) rfl ?_
  refine x_iload_n (pc := 10) dX5_isBarred_10 rfl rfl ?_
  refine x_iconst (pc := 11) dX5_isBarred_11 ?_
  refine x_icmp_eq (pc := 12) (t := 46) dX5_isBarred_12 (by decide) ⟨by omega, by omega⟩ ⟨by omega, by omega⟩ (fun c12 => ?_) (fun c12 => ?_)
  · refine x_iconst (pc := 46) dX5_isBarred_46 ?_
    refine x_zret (pc := 47) dX5_isBarred_47 rfl ⟨by omega, by omega⟩ (by decide) (by decide) ?_
    refine kI k ?_
    clear k h29
    grind
  · refine x_aload_n (pc := 15) dX5_isBarred_15 rfl rfl ?_
    refine x_getr (pc := 16) (b := d + 1) fX5_7 dX5_isBarred_16 hd.1 rfl rfl ?_
    refine x_iconst (pc := 19) dX5_isBarred_19 ?_
    refine x_iald (pc := 20) dX5_isBarred_20 hd.2.1 (by omega) (by omega) (fun r20a r20b => ?_)
    rw [show (1 : Int).toNat = 1 from rfl, h1] at r20a r20b ⊢
    refine x_if_eq (pc := 21) (t := 42) dX5_isBarred_21 (by decide) ⟨by omega, by omega⟩ (fun c21 => ?_) (fun c21 => ?_)
    · refine x_iconst (pc := 42) dX5_isBarred_42 ?_
      refine x_goto (pc := 43) (t := 47) dX5_isBarred_43 (by decide) ?_
      refine x_zret (pc := 47) dX5_isBarred_47 rfl ⟨by omega, by omega⟩ (by decide) (by decide) ?_
      refine kI k ?_
      clear k h29
      grind
    · refine x_aload_n (pc := 24) dX5_isBarred_24 rfl rfl ?_
      refine x_getr (pc := 25) (b := d + 1) fX5_7 dX5_isBarred_25 hd.1 rfl rfl ?_
      refine x_bipush (pc := 28) dX5_isBarred_28 (by decide) ?_
      refine x_iald (pc := 30) dX5_isBarred_30 hd.2.1 (by omega) (by omega) (fun r30a r30b => ?_)
      rw [show (7 : Int).toNat = 7 from rfl, h7] at r30a r30b ⊢
      refine x_iload_n (pc := 31) dX5_isBarred_31 rfl rfl ?_
      refine x_aload_n (pc := 32) dX5_isBarred_32 rfl rfl ?_
      refine x_getr (pc := 33) (b := d + 1) fX5_7 dX5_isBarred_33 hd.1 rfl rfl ?_
      refine x_iconst (pc := 36) dX5_isBarred_36 ?_
      refine x_iald (pc := 37) dX5_isBarred_37 hd.2.1 (by omega) (by omega) (fun r37a r37b => ?_)
      rw [show (1 : Int).toNat = 1 from rfl, h1] at r37a r37b ⊢
      refine x_iadd (pc := 38) dX5_isBarred_38 ?_
      refine x_icmp_gt (pc := 39) (t := 46) dX5_isBarred_39 (by decide) ⟨by omega, by omega⟩ ⟨by omega, by omega⟩ (fun c39 => ?_) (fun c39 => ?_)
      · refine x_iconst (pc := 46) dX5_isBarred_46 ?_
        refine x_zret (pc := 47) dX5_isBarred_47 rfl ⟨by omega, by omega⟩ (by decide) (by decide) ?_
        refine kI k ?_
        clear k h29
        grind
      · refine x_iconst (pc := 42) dX5_isBarred_42 ?_
        refine x_goto (pc := 43) (t := 47) dX5_isBarred_43 (by decide) ?_
        refine x_zret (pc := 47) dX5_isBarred_47 rfl ⟨by omega, by omega⟩ (by decide) (by decide) ?_
        refine kI k ?_
        clear k h29
        grind
set_option maxRecDepth 100000 in
theorem sp_X5_barred {g : GG} {lay : Lay} {M : Mem} {K : KK} {d : Nat} {T : CT} (hd : MoL lay d) (hb0 : g.2.1 ≤ d) (hT : BarH T (M (d + 1))) (hWS : WfS (tS T)) (hn : tN T ≤ 60) (k : K (.inl (some (vI (barredF T (tS T 0).toNat)))) lay M) : X g m_X5_barred 0 0 lay M 0 [(0, vR d)] [] K := by
  have e0 := hT.1
  have w0 := hWS.1
  have loop : ∀ (c j : Nat) (x acc : Int), j + c = (tS T 0).toNat → x = j → acc = barredF T j → X g m_X5_barred 0 0 lay M 4 [(2, vI x), (1, vI acc), (0, vR d)] [] K := by
    intro c
    induction c with
    | zero =>
      intro j x acc hj hx ha
      refine x_iload_n (pc := 4) dX5_barred_4 rfl rfl ?_
      refine x_aload_n (pc := 5) dX5_barred_5 rfl rfl ?_
      refine x_getr (pc := 6) (b := d + 1) fX5_7 dX5_barred_6 hd.1 rfl rfl ?_
      refine x_iconst (pc := 9) dX5_barred_9 ?_
      refine x_iald (pc := 10) dX5_barred_10 hd.2.1 (by omega) (by omega) (fun r10a r10b => ?_)
      rw [show (0 : Int).toNat = 0 from rfl, e0] at r10a r10b ⊢
      refine x_icmp_ge (pc := 11) (t := 36) dX5_barred_11 (by decide) ⟨by omega, by omega⟩ ⟨by omega, by omega⟩ (fun c11 => ?_) (fun c11 => ?_)
      · refine x_iload_n (pc := 36) dX5_barred_36 rfl rfl ?_
        refine x_iret (pc := 37) dX5_barred_37 rfl (by decide) (by decide) ?_
        refine kI k ?_
        rw [ha, show j = (tS T 0).toNat by omega]
      · exfalso; omega
    | succ c ih =>
      intro j x acc hj hx ha
      have hr := barredF_rng T j
      have hz := @b01 (isBar T j) inferInstance
      subst hx
      refine x_iload_n (pc := 4) dX5_barred_4 rfl rfl ?_
      refine x_aload_n (pc := 5) dX5_barred_5 rfl rfl ?_
      refine x_getr (pc := 6) (b := d + 1) fX5_7 dX5_barred_6 hd.1 rfl rfl ?_
      refine x_iconst (pc := 9) dX5_barred_9 ?_
      refine x_iald (pc := 10) dX5_barred_10 hd.2.1 (by omega) (by omega) (fun r10a r10b => ?_)
      rw [show (0 : Int).toNat = 0 from rfl, e0] at r10a r10b ⊢
      refine x_icmp_ge (pc := 11) (t := 36) dX5_barred_11 (by decide) ⟨by omega, by omega⟩ ⟨by omega, by omega⟩ (fun c11 => ?_) (fun c11 => ?_)
      · exfalso; omega
      · refine x_iload_n (pc := 14) dX5_barred_14 rfl rfl ?_
        refine x_aload_n (pc := 15) dX5_barred_15 rfl rfl ?_
        refine x_iload_n (pc := 16) dX5_barred_16 rfl rfl ?_
        refine x_callV (pc := 17) [_] rfl kX5_148 dX5_barred_17 hd.1 rfl rfl (by decide) (Nat.le_of_ble_eq_true rfl) (Nat.le_of_ble_eq_true rfl) (by decide) ?_
        refine sp_X5_isBarred hd hb0 hT hWS hn (by omega) ?_
        refine ⟨_, rfl, ?_⟩
        refine x_if_eq (pc := 20) (t := 27) dX5_barred_20 (by decide) ⟨by omega, by omega⟩ (fun c20 => ?_) (fun c20 => ?_)
        · refine x_iconst (pc := 27) dX5_barred_27 ?_
          refine x_iadd (pc := 28) dX5_barred_28 ?_
          refine x_istore_n (pc := 29) dX5_barred_29 rfl (by decide) (L' := [(1, _), (2, _), (0, _)]) rfl ?_
          refine x_iinc (pc := 30) dX5_barred_30 rfl (by decide) (L' := [(2, _), (1, _), (0, _)]) rfl ?_
          refine x_goto (pc := 33) (t := 4) dX5_barred_33 (by decide) ?_
          refine X.loc [0, 1, 2] (L' := [(2, _), (1, _), (0, _)]) rfl ?_
          refine ih (j + 1) _ _ (by omega) (by omega) ?_
          clear k ih hT
          grind [barredF]
        · refine x_iconst (pc := 23) dX5_barred_23 ?_
          refine x_goto (pc := 24) (t := 28) dX5_barred_24 (by decide) ?_
          refine x_iadd (pc := 28) dX5_barred_28 ?_
          refine x_istore_n (pc := 29) dX5_barred_29 rfl (by decide) (L' := [(1, _), (2, _), (0, _)]) rfl ?_
          refine x_iinc (pc := 30) dX5_barred_30 rfl (by decide) (L' := [(2, _), (1, _), (0, _)]) rfl ?_
          refine x_goto (pc := 33) (t := 4) dX5_barred_33 (by decide) ?_
          refine X.loc [0, 1, 2] (L' := [(2, _), (1, _), (0, _)]) rfl ?_
          refine ih (j + 1) _ _ (by omega) (by omega) ?_
          clear k ih hT
          grind [barredF]
  refine x_iconst (pc := 0) dX5_barred_0 ?_
  refine x_istore_n (pc := 1) dX5_barred_1 rfl (by decide) (L' := [(1, _), (0, _)]) rfl ?_
  refine x_iconst (pc := 2) dX5_barred_2 ?_
  refine x_istore_n (pc := 3) dX5_barred_3 rfl (by decide) (L' := [(2, _), (1, _), (0, _)]) rfl ?_
  refine X.loc [0, 1, 2] (L' := [(2, _), (1, _), (0, _)]) rfl ?_
  exact loop (tS T 0).toNat 0 0 0 (by omega) rfl rfl
set_option maxRecDepth 100000 in
theorem sp_X5_hasClaimed {g : GG} {lay : Lay} {M : Mem} {K : KK} {d : Nat} {T : CT} (hd : MoL lay d) (hb0 : g.2.1 ≤ d) (hT : RowT T (M (d + 1))) (hW : WfT T) (k : K (.inl (some (vI (if tO T = 0 ∧ hasClaim T then 1 else 0)))) lay M) : X g m_X5_hasClaimed 0 0 lay M 0 [(0, vR d)] [] K := by
  have hn := hW.n60
  obtain ⟨wS, wP, wN, wm, wK, wL, wO, wB⟩ := id hW
  obtain ⟨⟨hS, hN, h10, hP, hp3, hL, hK, h99, hm⟩, hO, hBo⟩ := id hT
  have h2 : tN T % 2 < 2 := Nat.mod_lt _ (by decide)
  have wk := wK (tN T % 2)
  refine x_aload_n (pc := 0) dX5_hasClaimed_0 rfl rfl ?_
  refine x_callV (pc := 1) [] rfl kX5_152 dX5_hasClaimed_1 hd.1 rfl rfl (by decide) (Nat.le_of_ble_eq_true rfl) (Nat.le_of_ble_eq_true rfl) (by decide) ?_
  refine sp_X5_whose hd hb0 hT hW ?_
  refine ⟨_, rfl, ?_⟩
  refine x_istore_n (pc := 4) dX5_hasClaimed_4 rfl (by decide) (L' := [(1, _), (0, _)]) rfl ?_
  refine x_aload_n (pc := 5) dX5_hasClaimed_5 rfl rfl ?_
  refine x_iload_n (pc := 6) dX5_hasClaimed_6 rfl rfl ?_
  refine x_callV (pc := 7) [_] rfl kX5_155 dX5_hasClaimed_7 hd.1 rfl rfl (by decide) (Nat.le_of_ble_eq_true rfl) (Nat.le_of_ble_eq_true rfl) (by decide) ?_
  refine sp_X5_claimsOf hd hb0 hT hW h2 ?_
  refine ⟨_, rfl, ?_⟩
  refine x_istore_n (pc := 10) dX5_hasClaimed_10 rfl (by decide) (L' := [(2, _), (1, _), (0, _)]) rfl ?_
  refine x_aload_n (pc := 11) dX5_hasClaimed_11 rfl rfl ?_
  refine x_getr (pc := 12) (b := d + 1) fX5_7 dX5_hasClaimed_12 hd.1 rfl rfl ?_
  refine x_bipush (pc := 15) dX5_hasClaimed_15 (by decide) ?_
  refine x_iald (pc := 17) dX5_hasClaimed_17 hd.2.1 (by omega) (by omega) (fun r17a r17b => ?_)
  rw [show (8 : Int).toNat = 8 from rfl, hO] at r17a r17b ⊢
  refine x_if_ne (pc := 18) (t := 53) dX5_hasClaimed_18 (by decide) ⟨by omega, by omega⟩ (fun c18 => ?_) (fun c18 => ?_)
  · refine x_iconst (pc := 53) dX5_hasClaimed_53 ?_
    refine x_zret (pc := 54) dX5_hasClaimed_54 rfl ⟨by omega, by omega⟩ (by decide) (by decide) ?_
    refine kI k ?_
    clear k hS hP hp3 hL hK hm wS wP wm wK wL hT hW
    grind
  · refine x_iload_n (pc := 21) dX5_hasClaimed_21 rfl rfl ?_
    refine x_if_le (pc := 22) (t := 53) dX5_hasClaimed_22 (by decide) ⟨by omega, by omega⟩ (fun c22 => ?_) (fun c22 => ?_)
    · refine x_iconst (pc := 53) dX5_hasClaimed_53 ?_
      refine x_zret (pc := 54) dX5_hasClaimed_54 rfl ⟨by omega, by omega⟩ (by decide) (by decide) ?_
      refine kI k ?_
      clear k hS hP hp3 hL hK hm wS wP wm wK wL hT hW
      grind
    · refine x_aload_n (pc := 25) dX5_hasClaimed_25 rfl rfl ?_
      refine x_getr (pc := 26) (b := d + 1) fX5_7 dX5_hasClaimed_26 hd.1 rfl rfl ?_
      refine x_iload_n (pc := 29) dX5_hasClaimed_29 rfl rfl ?_
      refine x_iload_n (pc := 30) dX5_hasClaimed_30 rfl rfl ?_
      refine x_iconst (pc := 31) dX5_hasClaimed_31 ?_
      refine x_isub (pc := 32) dX5_hasClaimed_32 ?_
      refine x_callS (pc := 33) [_, _] rfl kX5_158 dX5_hasClaimed_33 rfl (by decide) (Nat.le_of_ble_eq_true rfl) (Nat.le_of_ble_eq_true rfl) (by decide) ?_
      refine sp_X5_claimAt ?_
      refine ⟨_, rfl, ?_⟩
      refine x_iconst (pc := 36) dX5_hasClaimed_36 ?_
      refine x_iadd (pc := 37) dX5_hasClaimed_37 ?_
      refine x_iald (pc := 38) dX5_hasClaimed_38 hd.2.1 (by omega) (by omega) (fun r38a r38b => ?_)
      have e5 := hL (tN T % 2) (tK T (tN T % 2) - 1) 5 h2 (by omega) (by omega)
      rw [show (47 + 24 * ((tN T % 2 : Nat) : Int) + 6 * (((tK T (tN T % 2) : Nat) : Int) - 1) + 5).toNat = 47 + 24 * (tN T % 2) + 6 * (tK T (tN T % 2) - 1) + 5 by omega, e5] at r38a r38b ⊢
      refine x_aload_n (pc := 39) dX5_hasClaimed_39 rfl rfl ?_
      refine x_getr (pc := 40) (b := d + 1) fX5_7 dX5_hasClaimed_40 hd.1 rfl rfl ?_
      refine x_bipush (pc := 43) dX5_hasClaimed_43 (by decide) ?_
      refine x_iald (pc := 45) dX5_hasClaimed_45 hd.2.1 (by omega) (by omega) (fun r45a r45b => ?_)
      rw [show (7 : Int).toNat = 7 from rfl, hN] at r45a r45b ⊢
      refine x_icmp_ne (pc := 46) (t := 53) dX5_hasClaimed_46 (by decide) ⟨by omega, by omega⟩ ⟨by omega, by omega⟩ (fun c46 => ?_) (fun c46 => ?_)
      · refine x_iconst (pc := 53) dX5_hasClaimed_53 ?_
        refine x_zret (pc := 54) dX5_hasClaimed_54 rfl ⟨by omega, by omega⟩ (by decide) (by decide) ?_
        refine kI k ?_
        clear k hS hP hp3 hL hK hm wS wP wm wK wL hT hW
        grind
      · refine x_iconst (pc := 49) dX5_hasClaimed_49 ?_
        refine x_goto (pc := 50) (t := 54) dX5_hasClaimed_50 (by decide) ?_
        refine x_zret (pc := 54) dX5_hasClaimed_54 rfl ⟨by omega, by omega⟩ (by decide) (by decide) ?_
        refine kI k ?_
        clear k hS hP hp3 hL hK hm wS wP wm wK wL hT hW
        grind
set_option maxRecDepth 100000 in
theorem sp_X5_stakesOf {g : GG} {lay : Lay} {M : Mem} {K : KK} {d : Nat} {T : CT} {pl : Nat} (hd : MoL lay d) (hb0 : g.2.1 ≤ d) (hT : RowT T (M (d + 1))) (hW : WfT T) (hpl : pl < 2) (k : K (.inl (some (vI (stakesF (tL T pl) (tK T pl))))) lay M) : X g m_X5_stakesOf 0 0 lay M 0 [(0, vR d), (1, vI pl)] [] K := by
  have hn := hW.n60
  obtain ⟨wS, wP, wN, wm, wK, wL, wO, wB⟩ := id hW
  obtain ⟨⟨hS, hN, h10, hP, hp3, hL, hK, h99, hm⟩, hO, hBo⟩ := id hT
  have wk := wK pl
  have hst := stakesF_rng (tL T pl) (tK T pl) (fun i hi => by have := wL pl i hpl hi; unfold WfL at this; omega)
  have loop : ∀ (c j : Nat) (x acc : Int), j + c = tK T pl → x = j → acc = stakesF (tL T pl) j → X g m_X5_stakesOf 0 0 lay M 4 [(3, vI x), (2, vI acc), (0, vR d), (1, vI pl)] [] K := by
    intro c
    induction c with
    | zero =>
      intro j x acc hj hx ha
      refine x_iload_n (pc := 4) dX5_stakesOf_4 rfl rfl ?_
      refine x_aload_n (pc := 5) dX5_stakesOf_5 rfl rfl ?_
      refine x_iload_n (pc := 6) dX5_stakesOf_6 rfl rfl ?_
      refine x_callV (pc := 7) [_] rfl kX5_155 dX5_stakesOf_7 hd.1 rfl rfl (by decide) (Nat.le_of_ble_eq_true rfl) (Nat.le_of_ble_eq_true rfl) (by decide) ?_
      refine sp_X5_claimsOf hd hb0 hT hW hpl ?_
      refine ⟨_, rfl, ?_⟩
      refine x_icmp_ge (pc := 10) (t := 34) dX5_stakesOf_10 (by decide) ⟨by omega, by omega⟩ ⟨by omega, by omega⟩ (fun c10 => ?_) (fun c10 => ?_)
      · refine x_iload_n (pc := 34) dX5_stakesOf_34 rfl rfl ?_
        refine x_iret (pc := 35) dX5_stakesOf_35 rfl (by decide) (by decide) ?_
        refine kI k ?_
        rw [ha, show j = tK T pl by omega]
      · exfalso; omega
    | succ c ih =>
      intro j x acc hj hx ha
      have hr := hst j (by omega)
      have e4 := hL pl j 4 hpl (by omega) (by omega)
      refine x_iload_n (pc := 4) dX5_stakesOf_4 rfl rfl ?_
      refine x_aload_n (pc := 5) dX5_stakesOf_5 rfl rfl ?_
      refine x_iload_n (pc := 6) dX5_stakesOf_6 rfl rfl ?_
      refine x_callV (pc := 7) [_] rfl kX5_155 dX5_stakesOf_7 hd.1 rfl rfl (by decide) (Nat.le_of_ble_eq_true rfl) (Nat.le_of_ble_eq_true rfl) (by decide) ?_
      refine sp_X5_claimsOf hd hb0 hT hW hpl ?_
      refine ⟨_, rfl, ?_⟩
      refine x_icmp_ge (pc := 10) (t := 34) dX5_stakesOf_10 (by decide) ⟨by omega, by omega⟩ ⟨by omega, by omega⟩ (fun c10 => ?_) (fun c10 => ?_)
      · exfalso; omega
      · refine x_iload_n (pc := 13) dX5_stakesOf_13 rfl rfl ?_
        refine x_aload_n (pc := 14) dX5_stakesOf_14 rfl rfl ?_
        refine x_getr (pc := 15) (b := d + 1) fX5_7 dX5_stakesOf_15 hd.1 rfl rfl ?_
        refine x_iload_n (pc := 18) dX5_stakesOf_18 rfl rfl ?_
        refine x_iload_n (pc := 19) dX5_stakesOf_19 rfl rfl ?_
        refine x_callS (pc := 20) [_, _] rfl kX5_158 dX5_stakesOf_20 rfl (by decide) (Nat.le_of_ble_eq_true rfl) (Nat.le_of_ble_eq_true rfl) (by decide) ?_
        refine sp_X5_claimAt ?_
        refine ⟨_, rfl, ?_⟩
        refine x_iconst (pc := 23) dX5_stakesOf_23 ?_
        refine x_iadd (pc := 24) dX5_stakesOf_24 ?_
        refine x_iald (pc := 25) dX5_stakesOf_25 hd.2.1 (by omega) (by omega) (fun r25a r25b => ?_)
        rw [show (47 + 24 * (pl : Int) + 6 * x + 4).toNat = 47 + 24 * pl + 6 * j + 4 by omega, e4] at r25a r25b ⊢
        refine x_iadd (pc := 26) dX5_stakesOf_26 ?_
        refine x_istore_n (pc := 27) dX5_stakesOf_27 rfl (by decide) (L' := [(2, _), (3, _), (0, _), (1, _)]) rfl ?_
        refine x_iinc (pc := 28) dX5_stakesOf_28 rfl (by decide) (L' := [(3, _), (2, _), (0, _), (1, _)]) rfl ?_
        refine x_goto (pc := 31) (t := 4) dX5_stakesOf_31 (by decide) ?_
        refine X.loc [0, 1, 2, 3] (L' := [(3, _), (2, _), (0, _), (1, _)]) rfl ?_
        refine ih (j + 1) _ _ (by omega) (by omega) ?_
        simp only [stakesF]
        omega
  refine x_iconst (pc := 0) dX5_stakesOf_0 ?_
  refine x_istore_n (pc := 1) dX5_stakesOf_1 rfl (by decide) (L' := [(2, _), (0, _), (1, _)]) rfl ?_
  refine x_iconst (pc := 2) dX5_stakesOf_2 ?_
  refine x_istore_n (pc := 3) dX5_stakesOf_3 rfl (by decide) (L' := [(3, _), (2, _), (0, _), (1, _)]) rfl ?_
  refine X.loc [0, 1, 2, 3] (L' := [(3, _), (2, _), (0, _), (1, _)]) rfl ?_
  exact loop (tK T pl) 0 0 0 (by omega) rfl rfl
set_option maxRecDepth 100000 in
theorem sp_X5_bonusOf {g : GG} {lay : Lay} {M : Mem} {K : KK} {d : Nat} {T : CT} {pl : Int} (hd : MoL lay d) (hb0 : g.2.1 ≤ d) (hT : RowT T (M (d + 1))) (hW : WfT T) (hp : i32 pl) (k : K (.inl (some (vI (bonusF T pl)))) lay M) : X g m_X5_bonusOf 0 0 lay M 0 [(0, vR d), (1, vI pl)] [] K := by
  have hn := hW.n60
  obtain ⟨wS, wP, wN, wm, wK, wL, wO, wB⟩ := id hW
  obtain ⟨⟨hS, hN, h10, hP, hp3, hL, hK, h99, hm⟩, hO, hBo⟩ := id hT
  obtain ⟨hp1, hp2⟩ := hp
  have e5 := hS 5 (by decide)
  unfold bonusF at k
  refine x_aload_n (pc := 0) dX5_bonusOf_0 rfl rfl ?_
  refine x_getr (pc := 1) (b := d + 1) fX5_7 dX5_bonusOf_1 hd.1 rfl rfl ?_
  refine x_bipush (pc := 4) dX5_bonusOf_4 (by decide) ?_
  refine x_iald (pc := 6) dX5_bonusOf_6 hd.2.1 (by omega) (by omega) (fun r6a r6b => ?_)
  rw [show (9 : Int).toNat = 9 from rfl, hBo] at r6a r6b ⊢
  refine x_iload_n (pc := 7) dX5_bonusOf_7 rfl rfl ?_
  refine x_icmp_ne (pc := 8) (t := 20) dX5_bonusOf_8 (by decide) ⟨by omega, by omega⟩ ⟨by omega, by omega⟩ (fun c8 => ?_) (fun c8 => ?_)
  · refine x_iconst (pc := 20) dX5_bonusOf_20 ?_
    refine x_iret (pc := 21) dX5_bonusOf_21 rfl (by decide) (by decide) ?_
    first
    | exact k
    | (rw [if_pos (by omega)] at k; exact k)
    | (rw [if_neg (by omega)] at k; exact k)
  · refine x_aload_n (pc := 11) dX5_bonusOf_11 rfl rfl ?_
    refine x_getr (pc := 12) (b := d + 1) fX5_7 dX5_bonusOf_12 hd.1 rfl rfl ?_
    refine x_iconst (pc := 15) dX5_bonusOf_15 ?_
    refine x_iald (pc := 16) dX5_bonusOf_16 hd.2.1 (by omega) (by omega) (fun r16a r16b => ?_)
    rw [show (5 : Int).toNat = 5 from rfl, e5] at r16a r16b ⊢
    refine x_goto (pc := 17) (t := 21) dX5_bonusOf_17 (by decide) ?_
    refine x_iret (pc := 21) dX5_bonusOf_21 rfl (by decide) (by decide) ?_
    first
    | exact k
    | (rw [if_pos (by omega)] at k; exact k)
    | (rw [if_neg (by omega)] at k; exact k)
set_option maxRecDepth 100000 in
theorem sp_X5_valueAt {g : GG} {lay : Lay} {M : Mem} {K : KK} {d : Nat} {T : CT} {x : Int} (hd : MoL lay d) (hb0 : g.2.1 ≤ d) (hT : RowT T (M (d + 1))) (hW : WfT T) (hx : -20 ≤ x ∧ x ≤ 20) (k : K (.inl (some (vJ (valF (tP T) x 5)))) lay M) : X g m_X5_valueAt 0 0 lay M 0 [(0, vR d), (1, vI x)] [] K := by
  have hn := hW.n60
  obtain ⟨wS, wP, wN, wm, wK, wL, wO, wB⟩ := id hW
  obtain ⟨⟨hS, hN, h10, hP, hp3, hL, hK, h99, hm⟩, hO, hBo⟩ := id hT
  have vb := valP_b wP hx
  have loop : ∀ (c j : Nat) (y acc : Int), j + c = 5 → y = 4 - (j : Int) → acc = valF (tP T) x j → X g m_X5_valueAt 0 0 lay M 5 [(4, vI y), (2, vJ acc), (0, vR d), (1, vI x)] [] K := by
    intro c
    induction c with
    | zero =>
      intro j y acc hj hy ha
      refine x_iload (pc := 5) dX5_valueAt_5 rfl ?_
      refine x_if_lt (pc := 7) (t := 33) dX5_valueAt_7 (by decide) ⟨by omega, by omega⟩ (fun c7 => ?_) (fun c7 => ?_)
      · refine x_lload_n (pc := 33) dX5_valueAt_33 rfl rfl ?_
        refine x_lret (pc := 34) dX5_valueAt_34 rfl (by decide) (by decide) ?_
        rw [ha, show j = 5 by omega]
        exact k
      · exfalso; omega
    | succ c ih =>
      intro j y acc hj hy ha
      have e1 := hP (4 - j) (by omega)
      refine x_iload (pc := 5) dX5_valueAt_5 rfl ?_
      refine x_if_lt (pc := 7) (t := 33) dX5_valueAt_7 (by decide) ⟨by omega, by omega⟩ (fun c7 => ?_) (fun c7 => ?_)
      · exfalso; omega
      · refine x_lload_n (pc := 10) dX5_valueAt_10 rfl rfl ?_
        refine x_iload_n (pc := 11) dX5_valueAt_11 rfl rfl ?_
        refine x_i2l (pc := 12) ⟨by omega, by omega⟩ dX5_valueAt_12 ?_
        refine x_lmul (pc := 13) dX5_valueAt_13 ?_
        refine x_aload_n (pc := 14) dX5_valueAt_14 rfl rfl ?_
        refine x_getr (pc := 15) (b := d + 1) fX5_7 dX5_valueAt_15 hd.1 rfl rfl ?_
        refine x_bipush (pc := 18) dX5_valueAt_18 (by decide) ?_
        refine x_iload (pc := 20) dX5_valueAt_20 rfl ?_
        refine x_iadd (pc := 22) dX5_valueAt_22 ?_
        refine x_iald (pc := 23) dX5_valueAt_23 hd.2.1 (by omega) (by omega) (fun r23a r23b => ?_)
        rw [show (11 + y).toNat = 11 + (4 - j) by omega, e1] at r23a r23b ⊢
        refine x_i2l (pc := 24) ⟨by omega, by omega⟩ dX5_valueAt_24 ?_
        refine x_ladd (pc := 25) dX5_valueAt_25 ?_
        refine x_lstore_n (pc := 26) dX5_valueAt_26 rfl (by decide) (L' := [(2, _), (4, _), (0, _), (1, _)]) rfl ?_
        refine x_iinc (pc := 27) dX5_valueAt_27 rfl (by decide) (L' := [(4, _), (2, _), (0, _), (1, _)]) rfl ?_
        refine x_goto (pc := 30) (t := 5) dX5_valueAt_30 (by decide) ?_
        refine X.loc [0, 1, 2, 3] (L' := [(4, _), (2, _), (0, _), (1, _)]) rfl ?_
        refine ih (j + 1) _ _ (by omega) (by omega) ?_
        simp only [valF]
        rw [ha]
  refine x_lconst (pc := 0) (x := 0) dX5_valueAt_0 (by decide) ?_
  refine x_lstore_n (pc := 1) dX5_valueAt_1 rfl (by decide) (L' := [(2, _), (0, _), (1, _)]) rfl ?_
  refine x_iconst (pc := 2) dX5_valueAt_2 ?_
  refine x_istore (pc := 3) dX5_valueAt_3 trivial (by decide) (L' := [(4, _), (2, _), (0, _), (1, _)]) rfl ?_
  refine X.loc [0, 1, 2, 3] (L' := [(4, _), (2, _), (0, _), (1, _)]) rfl ?_
  exact loop 5 0 _ _ rfl rfl rfl
set_option maxRecDepth 100000 in
theorem sp_X5_degreeNow {g : GG} {lay : Lay} {M : Mem} {K : KK} {d : Nat} {T : CT} (hd : MoL lay d) (hb0 : g.2.1 ≤ d) (hT : RowT T (M (d + 1))) (hW : WfT T) (k : K (.inl (some (vI (degF (tP T) 5)))) lay M) : X g m_X5_degreeNow 0 0 lay M 0 [(0, vR d)] [] K := by
  have hn := hW.n60
  obtain ⟨wS, wP, wN, wm, wK, wL, wO, wB⟩ := id hW
  obtain ⟨⟨hS, hN, h10, hP, hp3, hL, hK, h99, hm⟩, hO, hBo⟩ := id hT
  obtain ⟨D, hD⟩ : ∃ D, D = degF (tP T) 5 := ⟨_, rfl⟩
  rw [← hD] at k
  have loop : ∀ (n : Nat) (y : Int), y + 1 = n → n ≤ 5 → degF (tP T) n = D → X g m_X5_degreeNow 0 0 lay M 2 [(1, vI y), (0, vR d)] [] K := by
    intro n
    induction n with
    | zero =>
      intro y hy hn5 ht
      simp only [degF] at ht
      refine x_iload_n (pc := 2) dX5_degreeNow_2 rfl rfl ?_
      refine x_if_lt (pc := 3) (t := 24) dX5_degreeNow_3 (by decide) ⟨by omega, by omega⟩ (fun c3 => ?_) (fun c3 => ?_)
      · refine x_iload_n (pc := 24) dX5_degreeNow_24 rfl rfl ?_
        refine x_iret (pc := 25) dX5_degreeNow_25 rfl (by decide) (by decide) ?_
        refine kI k ?_
        omega
      · exfalso; omega
    | succ n ih =>
      intro y hy hn5 ht
      have e1 := hP n (by omega)
      simp only [degF] at ht
      refine x_iload_n (pc := 2) dX5_degreeNow_2 rfl rfl ?_
      refine x_if_lt (pc := 3) (t := 24) dX5_degreeNow_3 (by decide) ⟨by omega, by omega⟩ (fun c3 => ?_) (fun c3 => ?_)
      · exfalso; omega
      · refine x_aload_n (pc := 6) dX5_degreeNow_6 rfl rfl ?_
        refine x_getr (pc := 7) (b := d + 1) fX5_7 dX5_degreeNow_7 hd.1 rfl rfl ?_
        refine x_bipush (pc := 10) dX5_degreeNow_10 (by decide) ?_
        refine x_iload_n (pc := 12) dX5_degreeNow_12 rfl rfl ?_
        refine x_iadd (pc := 13) dX5_degreeNow_13 ?_
        refine x_iald (pc := 14) dX5_degreeNow_14 hd.2.1 (by omega) (by omega) (fun r14a r14b => ?_)
        rw [show (11 + y).toNat = 11 + n by omega, e1] at r14a r14b ⊢
        refine x_if_ne (pc := 15) (t := 24) dX5_degreeNow_15 (by decide) ⟨by omega, by omega⟩ (fun c15 => ?_) (fun c15 => ?_)
        · refine x_iload_n (pc := 24) dX5_degreeNow_24 rfl rfl ?_
          refine x_iret (pc := 25) dX5_degreeNow_25 rfl (by decide) (by decide) ?_
          rw [if_pos c15] at ht
          refine kI k ?_
          omega
        · refine x_iinc (pc := 18) dX5_degreeNow_18 rfl (by decide) (L' := [(1, _), (0, _)]) rfl ?_
          refine x_goto (pc := 21) (t := 2) dX5_degreeNow_21 (by decide) ?_
          refine X.loc [0, 1] (L' := [(1, _), (0, _)]) rfl ?_
          rw [if_neg (fun z => z c15)] at ht
          exact ih _ (by omega) (by omega) ht
  refine x_iconst (pc := 0) dX5_degreeNow_0 ?_
  refine x_istore_n (pc := 1) dX5_degreeNow_1 rfl (by decide) (L' := [(1, _), (0, _)]) rfl ?_
  refine X.loc [0, 1] (L' := [(1, _), (0, _)]) rfl ?_
  exact loop 5 _ (by omega) (by omega) hD.symm
set_option maxRecDepth 100000 in
theorem sp_X5_signPoints {g : GG} {lay : Lay} {M : Mem} {K : KK} {d : Nat} {T : CT} {pl : Nat} (hd : MoL lay d) (hb0 : g.2.1 ≤ d) (hT : RowT T (M (d + 1))) (hW : WfT T) (hpl : pl < 2) (k : K (.inl (some (vI (signF T pl)))) lay M) : X g m_X5_signPoints 0 0 lay M 0 [(0, vR d), (1, vI pl)] [] K := by
  have hn := hW.n60
  obtain ⟨wS, wP, wN, wm, wK, wL, wO, wB⟩ := id hW
  obtain ⟨⟨hS, hN, h10, hP, hp3, hL, hK, h99, hm⟩, hO, hBo⟩ := id hT
  have e3 := hS 3 (by decide)
  have w3 := wS.2.2.2.1
  unfold signF at k
  have hr := signPt_rng (tP T) (wantF pl) (-(tS T 3))
  have loop : ∀ (n j : Nat) (y acc : Int), j + n = 2 * (tS T 3).toNat + 1 → y = -(tS T 3) + j → acc = signPt (tP T) (wantF pl) (-(tS T 3)) j → X g m_X5_signPoints 0 0 lay M 10 [(3, vI y), (2, vI acc), (0, vR d), (1, vI pl)] [] K := by
    intro n
    induction n with
    | zero =>
      intro j y acc hj hy ha
      have hrj := hr j
      refine x_iload_n (pc := 10) dX5_signPoints_10 rfl rfl ?_
      refine x_aload_n (pc := 11) dX5_signPoints_11 rfl rfl ?_
      refine x_getr (pc := 12) (b := d + 1) fX5_7 dX5_signPoints_12 hd.1 rfl rfl ?_
      refine x_iconst (pc := 15) dX5_signPoints_15 ?_
      refine x_iald (pc := 16) dX5_signPoints_16 hd.2.1 (by omega) (by omega) (fun r16a r16b => ?_)
      rw [show (3 : Int).toNat = 3 from rfl, e3] at r16a r16b ⊢
      refine x_icmp_gt (pc := 17) (t := 64) dX5_signPoints_17 (by decide) ⟨by omega, by omega⟩ ⟨by omega, by omega⟩ (fun c17 => ?_) (fun c17 => ?_)
      · refine x_iload_n (pc := 64) dX5_signPoints_64 rfl rfl ?_
        refine x_iret (pc := 65) dX5_signPoints_65 rfl (by decide) (by decide) ?_
        refine kI k ?_
        rw [ha, show j = 2 * (tS T 3).toNat + 1 by omega]
      · exfalso; omega
    | succ n ih =>
      intro j y acc hj hy ha
      have hrj := hr j
      have vb := valP_b wP (x := y) ⟨by omega, by omega⟩ 5 (Nat.le_refl _)
      have hst : signPt (tP T) (wantF pl) (-(tS T 3)) (j + 1) = acc + (if sg (valF (tP T) y 5) = wantF pl then 1 else 0) := by
        simp only [signPt]
        rw [ha, hy]
      have hst : signPt (tP T) (wantF pl) (-(tS T 3)) (j + 1) = acc + (if (if 0 < valF (tP T) y 5 then (1 : Int) else if valF (tP T) y 5 < 0 then -1 else 0) = (if pl = 0 then (1 : Int) else -1) then 1 else 0) := hst
      clear ha
      refine x_iload_n (pc := 10) dX5_signPoints_10 rfl rfl ?_
      refine x_aload_n (pc := 11) dX5_signPoints_11 rfl rfl ?_
      refine x_getr (pc := 12) (b := d + 1) fX5_7 dX5_signPoints_12 hd.1 rfl rfl ?_
      refine x_iconst (pc := 15) dX5_signPoints_15 ?_
      refine x_iald (pc := 16) dX5_signPoints_16 hd.2.1 (by omega) (by omega) (fun r16a r16b => ?_)
      rw [show (3 : Int).toNat = 3 from rfl, e3] at r16a r16b ⊢
      refine x_icmp_gt (pc := 17) (t := 64) dX5_signPoints_17 (by decide) ⟨by omega, by omega⟩ ⟨by omega, by omega⟩ (fun c17 => ?_) (fun c17 => ?_)
      · exfalso; omega
      · refine x_aload_n (pc := 20) dX5_signPoints_20 rfl rfl ?_
        refine x_iload_n (pc := 21) dX5_signPoints_21 rfl rfl ?_
        refine x_callV (pc := 22) [_] rfl kX5_164 dX5_signPoints_22 hd.1 rfl rfl (by decide) (Nat.le_of_ble_eq_true rfl) (Nat.le_of_ble_eq_true rfl) (by decide) ?_
        refine sp_X5_valueAt hd hb0 hT hW (by omega) ?_
        refine ⟨_, rfl, ?_⟩
        refine x_lstore (pc := 25) dX5_signPoints_25 trivial (by decide) (L' := [(4, _), (3, _), (2, _), (0, _), (1, _)]) rfl ?_
        refine x_iload_n (pc := 27) dX5_signPoints_27 rfl rfl ?_
        refine x_iload_n (pc := 28) dX5_signPoints_28 rfl rfl ?_
        refine x_if_ne (pc := 29) (t := 39) dX5_signPoints_29 (by decide) ⟨by omega, by omega⟩ (fun c29 => ?_) (fun c29 => ?_)
        · refine x_iload_n (pc := 39) dX5_signPoints_39 rfl rfl ?_
          refine x_iconst (pc := 40) dX5_signPoints_40 ?_
          refine x_icmp_ne (pc := 41) (t := 55) dX5_signPoints_41 (by decide) ⟨by omega, by omega⟩ ⟨by omega, by omega⟩ (fun c41 => ?_) (fun c41 => ?_)
          · refine x_iconst (pc := 55) dX5_signPoints_55 ?_
            refine x_iadd (pc := 56) dX5_signPoints_56 ?_
            refine x_istore_n (pc := 57) dX5_signPoints_57 rfl (by decide) (L' := [(2, _), (4, _), (3, _), (0, _), (1, _)]) rfl ?_
            refine x_iinc (pc := 58) dX5_signPoints_58 rfl (by decide) (L' := [(3, _), (2, _), (4, _), (0, _), (1, _)]) rfl ?_
            refine x_goto (pc := 61) (t := 10) dX5_signPoints_61 (by decide) ?_
            refine X.loc [0, 1, 3, 4] (L' := [(3, _), (2, _), (0, _), (1, _)]) rfl ?_
            refine ih (j + 1) _ _ (by omega) (by omega) ?_
            rw [hst]
            clear k ih hst hr hS hP hp3 hL hK hm wS wP wm wK wL hT hW
            grind
          · refine x_lload (pc := 44) dX5_signPoints_44 rfl ?_
            refine x_lconst (pc := 46) (x := 0) dX5_signPoints_46 (by decide) ?_
            refine x_lcmp_ge (pc := 47) (t := 55) dX5_signPoints_47 dX5_signPoints_48 (by decide) ⟨by omega, by omega⟩ ⟨by omega, by omega⟩ (fun c47 => ?_) (fun c47 => ?_)
            · refine x_iconst (pc := 55) dX5_signPoints_55 ?_
              refine x_iadd (pc := 56) dX5_signPoints_56 ?_
              refine x_istore_n (pc := 57) dX5_signPoints_57 rfl (by decide) (L' := [(2, _), (4, _), (3, _), (0, _), (1, _)]) rfl ?_
              refine x_iinc (pc := 58) dX5_signPoints_58 rfl (by decide) (L' := [(3, _), (2, _), (4, _), (0, _), (1, _)]) rfl ?_
              refine x_goto (pc := 61) (t := 10) dX5_signPoints_61 (by decide) ?_
              refine X.loc [0, 1, 3, 4] (L' := [(3, _), (2, _), (0, _), (1, _)]) rfl ?_
              refine ih (j + 1) _ _ (by omega) (by omega) ?_
              rw [hst]
              clear k ih hst hr hS hP hp3 hL hK hm wS wP wm wK wL hT hW
              grind
            · refine x_iconst (pc := 51) dX5_signPoints_51 ?_
              refine x_goto (pc := 52) (t := 56) dX5_signPoints_52 (by decide) ?_
              refine x_iadd (pc := 56) dX5_signPoints_56 ?_
              refine x_istore_n (pc := 57) dX5_signPoints_57 rfl (by decide) (L' := [(2, _), (4, _), (3, _), (0, _), (1, _)]) rfl ?_
              refine x_iinc (pc := 58) dX5_signPoints_58 rfl (by decide) (L' := [(3, _), (2, _), (4, _), (0, _), (1, _)]) rfl ?_
              refine x_goto (pc := 61) (t := 10) dX5_signPoints_61 (by decide) ?_
              refine X.loc [0, 1, 3, 4] (L' := [(3, _), (2, _), (0, _), (1, _)]) rfl ?_
              refine ih (j + 1) _ _ (by omega) (by omega) ?_
              rw [hst]
              clear k ih hst hr hS hP hp3 hL hK hm wS wP wm wK wL hT hW
              grind
        · refine x_lload (pc := 32) dX5_signPoints_32 rfl ?_
          refine x_lconst (pc := 34) (x := 0) dX5_signPoints_34 (by decide) ?_
          refine x_lcmp_gt (pc := 35) (t := 51) dX5_signPoints_35 dX5_signPoints_36 (by decide) ⟨by omega, by omega⟩ ⟨by omega, by omega⟩ (fun c35 => ?_) (fun c35 => ?_)
          · refine x_iconst (pc := 51) dX5_signPoints_51 ?_
            refine x_goto (pc := 52) (t := 56) dX5_signPoints_52 (by decide) ?_
            refine x_iadd (pc := 56) dX5_signPoints_56 ?_
            refine x_istore_n (pc := 57) dX5_signPoints_57 rfl (by decide) (L' := [(2, _), (4, _), (3, _), (0, _), (1, _)]) rfl ?_
            refine x_iinc (pc := 58) dX5_signPoints_58 rfl (by decide) (L' := [(3, _), (2, _), (4, _), (0, _), (1, _)]) rfl ?_
            refine x_goto (pc := 61) (t := 10) dX5_signPoints_61 (by decide) ?_
            refine X.loc [0, 1, 3, 4] (L' := [(3, _), (2, _), (0, _), (1, _)]) rfl ?_
            refine ih (j + 1) _ _ (by omega) (by omega) ?_
            rw [hst]
            clear k ih hst hr hS hP hp3 hL hK hm wS wP wm wK wL hT hW
            grind
          · refine x_iload_n (pc := 39) dX5_signPoints_39 rfl rfl ?_
            refine x_iconst (pc := 40) dX5_signPoints_40 ?_
            refine x_icmp_ne (pc := 41) (t := 55) dX5_signPoints_41 (by decide) ⟨by omega, by omega⟩ ⟨by omega, by omega⟩ (fun c41 => ?_) (fun c41 => ?_)
            · refine x_iconst (pc := 55) dX5_signPoints_55 ?_
              refine x_iadd (pc := 56) dX5_signPoints_56 ?_
              refine x_istore_n (pc := 57) dX5_signPoints_57 rfl (by decide) (L' := [(2, _), (4, _), (3, _), (0, _), (1, _)]) rfl ?_
              refine x_iinc (pc := 58) dX5_signPoints_58 rfl (by decide) (L' := [(3, _), (2, _), (4, _), (0, _), (1, _)]) rfl ?_
              refine x_goto (pc := 61) (t := 10) dX5_signPoints_61 (by decide) ?_
              refine X.loc [0, 1, 3, 4] (L' := [(3, _), (2, _), (0, _), (1, _)]) rfl ?_
              refine ih (j + 1) _ _ (by omega) (by omega) ?_
              rw [hst]
              clear k ih hst hr hS hP hp3 hL hK hm wS wP wm wK wL hT hW
              grind
            · refine x_lload (pc := 44) dX5_signPoints_44 rfl ?_
              refine x_lconst (pc := 46) (x := 0) dX5_signPoints_46 (by decide) ?_
              refine x_lcmp_ge (pc := 47) (t := 55) dX5_signPoints_47 dX5_signPoints_48 (by decide) ⟨by omega, by omega⟩ ⟨by omega, by omega⟩ (fun c47 => ?_) (fun c47 => ?_)
              · refine x_iconst (pc := 55) dX5_signPoints_55 ?_
                refine x_iadd (pc := 56) dX5_signPoints_56 ?_
                refine x_istore_n (pc := 57) dX5_signPoints_57 rfl (by decide) (L' := [(2, _), (4, _), (3, _), (0, _), (1, _)]) rfl ?_
                refine x_iinc (pc := 58) dX5_signPoints_58 rfl (by decide) (L' := [(3, _), (2, _), (4, _), (0, _), (1, _)]) rfl ?_
                refine x_goto (pc := 61) (t := 10) dX5_signPoints_61 (by decide) ?_
                refine X.loc [0, 1, 3, 4] (L' := [(3, _), (2, _), (0, _), (1, _)]) rfl ?_
                refine ih (j + 1) _ _ (by omega) (by omega) ?_
                rw [hst]
                clear k ih hst hr hS hP hp3 hL hK hm wS wP wm wK wL hT hW
                grind
              · refine x_iconst (pc := 51) dX5_signPoints_51 ?_
                refine x_goto (pc := 52) (t := 56) dX5_signPoints_52 (by decide) ?_
                refine x_iadd (pc := 56) dX5_signPoints_56 ?_
                refine x_istore_n (pc := 57) dX5_signPoints_57 rfl (by decide) (L' := [(2, _), (4, _), (3, _), (0, _), (1, _)]) rfl ?_
                refine x_iinc (pc := 58) dX5_signPoints_58 rfl (by decide) (L' := [(3, _), (2, _), (4, _), (0, _), (1, _)]) rfl ?_
                refine x_goto (pc := 61) (t := 10) dX5_signPoints_61 (by decide) ?_
                refine X.loc [0, 1, 3, 4] (L' := [(3, _), (2, _), (0, _), (1, _)]) rfl ?_
                refine ih (j + 1) _ _ (by omega) (by omega) ?_
                rw [hst]
                clear k ih hst hr hS hP hp3 hL hK hm wS wP wm wK wL hT hW
                grind
  refine x_iconst (pc := 0) dX5_signPoints_0 ?_
  refine x_istore_n (pc := 1) dX5_signPoints_1 rfl (by decide) (L' := [(2, _), (0, _), (1, _)]) rfl ?_
  refine x_aload_n (pc := 2) dX5_signPoints_2 rfl rfl ?_
  refine x_getr (pc := 3) (b := d + 1) fX5_7 dX5_signPoints_3 hd.1 rfl rfl ?_
  refine x_iconst (pc := 6) dX5_signPoints_6 ?_
  refine x_iald (pc := 7) dX5_signPoints_7 hd.2.1 (by omega) (by omega) (fun r7a r7b => ?_)
  rw [show (3 : Int).toNat = 3 from rfl, e3] at r7a r7b ⊢
  refine x_ineg (pc := 8) dX5_signPoints_8 ?_
  refine x_istore_n (pc := 9) dX5_signPoints_9 rfl (by decide) (L' := [(3, _), (2, _), (0, _), (1, _)]) rfl ?_
  refine X.loc [0, 1, 2, 3] (L' := [(3, _), (2, _), (0, _), (1, _)]) rfl ?_
  exact loop (2 * (tS T 3).toNat + 1) 0 _ _ (by omega) (by omega) rfl
set_option maxRecDepth 100000 in
theorem sp_X5_isAlone {g : GG} {lay : Lay} {M : Mem} {K : KK} {d : Nat} {T : CT} {p : Nat} (hd : MoL lay d) (hb0 : g.2.1 ≤ d) (hT : RowT T (M (d + 1))) (hW : WfT T) (hp : p < 5) (k : K (.inl (some (vI (if zeroBut (tP T) p then 1 else 0)))) lay M) : X g m_X5_isAlone 0 0 lay M 0 [(0, vR d), (1, vI p)] [] K := by
  have hn := hW.n60
  obtain ⟨wS, wP, wN, wm, wK, wL, wO, wB⟩ := id hW
  obtain ⟨⟨hS, hN, h10, hP, hp3, hL, hK, h99, hm⟩, hO, hBo⟩ := id hT
  have loop : ∀ (c j : Nat) (x y : Int), j + c = 5 → x = j → (y = 0 ∨ y = 1) → (y = 1 ↔ ∀ i, i < j → i ≠ p → tP T i = 0) → X g m_X5_isAlone 0 0 lay M 4 [(3, vI x), (2, vI y), (0, vR d), (1, vI p)] [] K := by
    intro c
    induction c with
    | zero =>
      intro j x y hj hx hy ha
      refine x_iload_n (pc := 4) dX5_isAlone_4 rfl rfl ?_
      refine x_iconst (pc := 5) dX5_isAlone_5 ?_
      refine x_icmp_ge (pc := 6) (t := 42) dX5_isAlone_6 (by decide) ⟨by omega, by omega⟩ ⟨by omega, by omega⟩ (fun c6 => ?_) (fun c6 => ?_)
      · refine x_iload_n (pc := 42) dX5_isAlone_42 rfl rfl ?_
        refine x_zret (pc := 43) dX5_isAlone_43 rfl ⟨by omega, by omega⟩ (by decide) (by decide) ?_
        refine kI k ?_
        have h5 : j = 5 := by omega
        subst h5
        by_cases h : zeroBut (tP T) p
        · rw [if_pos h, ha.mpr h]
        · rw [if_neg h]
          have : y ≠ 1 := fun z => h (ha.mp z)
          omega
      · exfalso; omega
    | succ c ih =>
      intro j x y hj hx hy ha
      have e0 := hP j (by omega)
      have hstep : (∀ i, i < j + 1 → i ≠ p → tP T i = 0) ↔ ((∀ i, i < j → i ≠ p → tP T i = 0) ∧ (j ≠ p → tP T j = 0)) := by
        constructor
        · exact fun h => ⟨fun i hi => h i (by omega), h j (by omega)⟩
        · rintro ⟨h1, h2⟩ i hi hn
          by_cases e : i = j
          · subst e; exact h2 hn
          · exact h1 i (by omega) hn
      refine x_iload_n (pc := 4) dX5_isAlone_4 rfl rfl ?_
      refine x_iconst (pc := 5) dX5_isAlone_5 ?_
      refine x_icmp_ge (pc := 6) (t := 42) dX5_isAlone_6 (by decide) ⟨by omega, by omega⟩ ⟨by omega, by omega⟩ (fun c6 => ?_) (fun c6 => ?_)
      · exfalso; omega
      · refine x_iload_n (pc := 9) dX5_isAlone_9 rfl rfl ?_
        refine x_if_eq (pc := 10) (t := 34) dX5_isAlone_10 (by decide) ⟨by omega, by omega⟩ (fun c10 => ?_) (fun c10 => ?_)
        · refine x_iconst (pc := 34) dX5_isAlone_34 ?_
          refine x_istore_n (pc := 35) dX5_isAlone_35 rfl (by decide) (L' := [(2, _), (3, _), (0, _), (1, _)]) rfl ?_
          refine x_iinc (pc := 36) dX5_isAlone_36 rfl (by decide) (L' := [(3, _), (2, _), (0, _), (1, _)]) rfl ?_
          refine x_goto (pc := 39) (t := 4) dX5_isAlone_39 (by decide) ?_
          refine X.loc [0, 1, 2, 3] (L' := [(3, _), (2, _), (0, _), (1, _)]) rfl ?_
          refine ih (j + 1) _ _ (by omega) (by omega) (by omega) ?_
          rw [hstep, ← ha]
          clear k ih ha hstep
          first
          | (have e9 : j = p := by omega
             subst e9
             grind)
          | (have e9 : ¬ j = p := by omega
             grind)
          | grind
        · refine x_iload_n (pc := 13) dX5_isAlone_13 rfl rfl ?_
          refine x_iload_n (pc := 14) dX5_isAlone_14 rfl rfl ?_
          refine x_icmp_eq (pc := 15) (t := 30) dX5_isAlone_15 (by decide) ⟨by omega, by omega⟩ ⟨by omega, by omega⟩ (fun c15 => ?_) (fun c15 => ?_)
          · refine x_iconst (pc := 30) dX5_isAlone_30 ?_
            refine x_goto (pc := 31) (t := 35) dX5_isAlone_31 (by decide) ?_
            refine x_istore_n (pc := 35) dX5_isAlone_35 rfl (by decide) (L' := [(2, _), (3, _), (0, _), (1, _)]) rfl ?_
            refine x_iinc (pc := 36) dX5_isAlone_36 rfl (by decide) (L' := [(3, _), (2, _), (0, _), (1, _)]) rfl ?_
            refine x_goto (pc := 39) (t := 4) dX5_isAlone_39 (by decide) ?_
            refine X.loc [0, 1, 2, 3] (L' := [(3, _), (2, _), (0, _), (1, _)]) rfl ?_
            refine ih (j + 1) _ _ (by omega) (by omega) (by omega) ?_
            rw [hstep, ← ha]
            clear k ih ha hstep
            first
            | (have e9 : j = p := by omega
               subst e9
               grind)
            | (have e9 : ¬ j = p := by omega
               grind)
            | grind
          · refine x_aload_n (pc := 18) dX5_isAlone_18 rfl rfl ?_
            refine x_getr (pc := 19) (b := d + 1) fX5_7 dX5_isAlone_19 hd.1 rfl rfl ?_
            refine x_bipush (pc := 22) dX5_isAlone_22 (by decide) ?_
            refine x_iload_n (pc := 24) dX5_isAlone_24 rfl rfl ?_
            refine x_iadd (pc := 25) dX5_isAlone_25 ?_
            refine x_iald (pc := 26) dX5_isAlone_26 hd.2.1 (by omega) (by omega) (fun r26a r26b => ?_)
            rw [show (11 + x).toNat = 11 + j by omega, e0] at r26a r26b ⊢
            refine x_if_ne (pc := 27) (t := 34) dX5_isAlone_27 (by decide) ⟨by omega, by omega⟩ (fun c27 => ?_) (fun c27 => ?_)
            · refine x_iconst (pc := 34) dX5_isAlone_34 ?_
              refine x_istore_n (pc := 35) dX5_isAlone_35 rfl (by decide) (L' := [(2, _), (3, _), (0, _), (1, _)]) rfl ?_
              refine x_iinc (pc := 36) dX5_isAlone_36 rfl (by decide) (L' := [(3, _), (2, _), (0, _), (1, _)]) rfl ?_
              refine x_goto (pc := 39) (t := 4) dX5_isAlone_39 (by decide) ?_
              refine X.loc [0, 1, 2, 3] (L' := [(3, _), (2, _), (0, _), (1, _)]) rfl ?_
              refine ih (j + 1) _ _ (by omega) (by omega) (by omega) ?_
              rw [hstep, ← ha]
              clear k ih ha hstep
              first
              | (have e9 : j = p := by omega
                 subst e9
                 grind)
              | (have e9 : ¬ j = p := by omega
                 grind)
              | grind
            · refine x_iconst (pc := 30) dX5_isAlone_30 ?_
              refine x_goto (pc := 31) (t := 35) dX5_isAlone_31 (by decide) ?_
              refine x_istore_n (pc := 35) dX5_isAlone_35 rfl (by decide) (L' := [(2, _), (3, _), (0, _), (1, _)]) rfl ?_
              refine x_iinc (pc := 36) dX5_isAlone_36 rfl (by decide) (L' := [(3, _), (2, _), (0, _), (1, _)]) rfl ?_
              refine x_goto (pc := 39) (t := 4) dX5_isAlone_39 (by decide) ?_
              refine X.loc [0, 1, 2, 3] (L' := [(3, _), (2, _), (0, _), (1, _)]) rfl ?_
              refine ih (j + 1) _ _ (by omega) (by omega) (by omega) ?_
              rw [hstep, ← ha]
              clear k ih ha hstep
              first
              | (have e9 : j = p := by omega
                 subst e9
                 grind)
              | (have e9 : ¬ j = p := by omega
                 grind)
              | grind
  refine x_iconst (pc := 0) dX5_isAlone_0 ?_
  refine x_istore_n (pc := 1) dX5_isAlone_1 rfl (by decide) (L' := [(2, _), (0, _), (1, _)]) rfl ?_
  refine x_iconst (pc := 2) dX5_isAlone_2 ?_
  refine x_istore_n (pc := 3) dX5_isAlone_3 rfl (by decide) (L' := [(3, _), (2, _), (0, _), (1, _)]) rfl ?_
  refine X.loc [0, 1, 2, 3] (L' := [(3, _), (2, _), (0, _), (1, _)]) rfl ?_
  exact loop 5 0 _ _ rfl rfl (Or.inr rfl) ⟨fun _ i hi => by omega, fun _ => rfl⟩
set_option maxRecDepth 100000 in
theorem sp_X5_whyLay {g : GG} {lay : Lay} {M : Mem} {K : KK} {d : Nat} {T : CT} {x : Int} {p : Nat} (hd : MoL lay d) (hb0 : g.2.1 ≤ d) (hT : RowT T (M (d + 1))) (hW : WfT T) (hp : p < 5) (hx : -9 ≤ x ∧ x ≤ 9) (hx0 : x ≠ 0) (k : K (.inl (some (vI (whyLayF T x p)))) lay M) : X g m_X5_whyLay 0 0 lay M 0 [(0, vR d), (1, vI x), (2, vI p)] [] K := by
  have hn := hW.n60
  obtain ⟨wS, wP, wN, wm, wK, wL, wO, wB⟩ := id hW
  obtain ⟨⟨hS, hN, h10, hP, hp3, hL, hK, h99, hm⟩, hO, hBo⟩ := id hT
  have wp := wP p
  have ep := hP p (by omega)
  have hz1 := @b01 (isBar T p) inferInstance
  have hz2 := @b01 (-30 ≤ tP T p + x ∧ tP T p + x ≤ 30) inferInstance
  have hz3 := @b01 (zeroBut (tP T) p) inferInstance
  have hdr := degF_rng (tP T) 5
  have hzd := @zeroBut_deg (tP T) p hp
  unfold whyLayF at k
  refine x_aload_n (pc := 0) dX5_whyLay_0 rfl rfl ?_
  refine x_getr (pc := 1) (b := d + 1) fX5_7 dX5_whyLay_1 hd.1 rfl rfl ?_
  refine x_bipush (pc := 4) dX5_whyLay_4 (by decide) ?_
  refine x_iload_n (pc := 6) dX5_whyLay_6 rfl rfl ?_
  refine x_iadd (pc := 7) dX5_whyLay_7 ?_
  refine x_iald (pc := 8) dX5_whyLay_8 hd.2.1 (by omega) (by omega) (fun r8a r8b => ?_)
  rw [show (11 + (p : Int)).toNat = 11 + p by omega, ep] at r8a r8b ⊢
  refine x_iload_n (pc := 9) dX5_whyLay_9 rfl rfl ?_
  refine x_iadd (pc := 10) dX5_whyLay_10 ?_
  refine x_istore_n (pc := 11) dX5_whyLay_11 rfl (by decide) (L' := [(3, _), (0, _), (1, _), (2, _)]) rfl ?_
  refine x_aload_n (pc := 12) dX5_whyLay_12 rfl rfl ?_
  refine x_getr (pc := 13) (b := d + 1) fX5_7 dX5_whyLay_13 hd.1 rfl rfl ?_
  refine x_bipush (pc := 16) dX5_whyLay_16 (by decide) ?_
  refine x_iald (pc := 18) dX5_whyLay_18 hd.2.1 (by omega) (by omega) (fun r18a r18b => ?_)
  rw [show (8 : Int).toNat = 8 from rfl, hO] at r18a r18b ⊢
  refine x_iconst (pc := 19) dX5_whyLay_19 ?_
  refine x_icmp_ne (pc := 20) (t := 27) dX5_whyLay_20 (by decide) ⟨by omega, by omega⟩ ⟨by omega, by omega⟩ (fun c20 => ?_) (fun c20 => ?_)
  · refine x_aload_n (pc := 27) dX5_whyLay_27 rfl rfl ?_
    refine x_iload_n (pc := 28) dX5_whyLay_28 rfl rfl ?_
    refine x_callV (pc := 29) [_] rfl kX5_148 dX5_whyLay_29 hd.1 rfl rfl (by decide) (Nat.le_of_ble_eq_true rfl) (Nat.le_of_ble_eq_true rfl) (by decide) ?_
    refine sp_X5_isBarred hd hb0 hT.bar wS hn hp ?_
    refine ⟨_, rfl, ?_⟩
    refine x_if_eq (pc := 32) (t := 40) dX5_whyLay_32 (by decide) ⟨by omega, by omega⟩ (fun c32 => ?_) (fun c32 => ?_)
    · refine x_iload_n (pc := 40) dX5_whyLay_40 rfl rfl ?_
      refine x_bipush (pc := 41) dX5_whyLay_41 (by decide) ?_
      refine x_bipush (pc := 43) dX5_whyLay_43 (by decide) ?_
      refine x_callS (pc := 45) [_, _, _] rfl kX5_144 dX5_whyLay_45 rfl (by decide) (Nat.le_of_ble_eq_true rfl) (Nat.le_of_ble_eq_true rfl) (by decide) ?_
      refine sp_X5_in ⟨by omega, by omega⟩ ⟨by omega, by omega⟩ ⟨by omega, by omega⟩ ?_
      refine ⟨_, rfl, ?_⟩
      refine x_if_ne (pc := 48) (t := 56) dX5_whyLay_48 (by decide) ⟨by omega, by omega⟩ (fun c48 => ?_) (fun c48 => ?_)
      · refine x_iload_n (pc := 56) dX5_whyLay_56 rfl rfl ?_
        refine x_if_ne (pc := 57) (t := 81) dX5_whyLay_57 (by decide) ⟨by omega, by omega⟩ (fun c57 => ?_) (fun c57 => ?_)
        · refine x_iconst (pc := 81) dX5_whyLay_81 ?_
          refine x_iret (pc := 82) dX5_whyLay_82 rfl (by decide) (by decide) ?_
          refine kI k ?_
          clear k hS hP hp3 hL hK hm wS wP wm wK wL hT hW
          grind
        · refine x_aload_n (pc := 60) dX5_whyLay_60 rfl rfl ?_
          refine x_callV (pc := 61) [] rfl kX5_136 dX5_whyLay_61 hd.1 rfl rfl (by decide) (Nat.le_of_ble_eq_true rfl) (Nat.le_of_ble_eq_true rfl) (by decide) ?_
          refine sp_X5_degreeNow hd hb0 hT hW ?_
          refine ⟨_, rfl, ?_⟩
          refine x_iload_n (pc := 64) dX5_whyLay_64 rfl rfl ?_
          refine x_icmp_ne (pc := 65) (t := 81) dX5_whyLay_65 (by decide) ⟨by omega, by omega⟩ ⟨by omega, by omega⟩ (fun c65 => ?_) (fun c65 => ?_)
          · refine x_iconst (pc := 81) dX5_whyLay_81 ?_
            refine x_iret (pc := 82) dX5_whyLay_82 rfl (by decide) (by decide) ?_
            refine kI k ?_
            clear k hS hP hp3 hL hK hm wS wP wm wK wL hT hW
            grind
          · refine x_aload_n (pc := 68) dX5_whyLay_68 rfl rfl ?_
            refine x_iload_n (pc := 69) dX5_whyLay_69 rfl rfl ?_
            refine x_callV (pc := 70) [_] rfl kX5_212 dX5_whyLay_70 hd.1 rfl rfl (by decide) (Nat.le_of_ble_eq_true rfl) (Nat.le_of_ble_eq_true rfl) (by decide) ?_
            refine sp_X5_isAlone hd hb0 hT hW hp ?_
            refine ⟨_, rfl, ?_⟩
            refine x_if_eq (pc := 73) (t := 81) dX5_whyLay_73 (by decide) ⟨by omega, by omega⟩ (fun c73 => ?_) (fun c73 => ?_)
            · refine x_iconst (pc := 81) dX5_whyLay_81 ?_
              refine x_iret (pc := 82) dX5_whyLay_82 rfl (by decide) (by decide) ?_
              refine kI k ?_
              clear k hS hP hp3 hL hK hm wS wP wm wK wL hT hW
              grind
            · refine x_bipush (pc := 76) dX5_whyLay_76 (by decide) ?_
              refine x_goto (pc := 78) (t := 82) dX5_whyLay_78 (by decide) ?_
              refine x_iret (pc := 82) dX5_whyLay_82 rfl (by decide) (by decide) ?_
              refine kI k ?_
              clear k hS hP hp3 hL hK hm wS wP wm wK wL hT hW
              grind
      · refine x_bipush (pc := 51) dX5_whyLay_51 (by decide) ?_
        refine x_goto (pc := 53) (t := 82) dX5_whyLay_53 (by decide) ?_
        refine x_iret (pc := 82) dX5_whyLay_82 rfl (by decide) (by decide) ?_
        refine kI k ?_
        clear k hS hP hp3 hL hK hm wS wP wm wK wL hT hW
        grind
    · refine x_bipush (pc := 35) dX5_whyLay_35 (by decide) ?_
      refine x_goto (pc := 37) (t := 82) dX5_whyLay_37 (by decide) ?_
      refine x_iret (pc := 82) dX5_whyLay_82 rfl (by decide) (by decide) ?_
      refine kI k ?_
      clear k hS hP hp3 hL hK hm wS wP wm wK wL hT hW
      grind
  · refine x_iconst (pc := 23) dX5_whyLay_23 ?_
    refine x_goto (pc := 24) (t := 82) dX5_whyLay_24 (by decide) ?_
    refine x_iret (pc := 82) dX5_whyLay_82 rfl (by decide) (by decide) ?_
    refine kI k ?_
    clear k hS hP hp3 hL hK hm wS wP wm wK wL hT hW
    grind
set_option maxRecDepth 100000 in
theorem sp_X5_areEnds {g : GG} {lay : Lay} {M : Mem} {K : KK} {x y : Int} (hx : i32 x) (hy : i32 y) (k : K (.inl (some (vI (if intvP x y then 1 else 0)))) lay M) : X g m_X5_areEnds 0 0 lay M 0 [(0, vI x), (1, vI y)] [] K := by
  obtain ⟨hx1, hx2⟩ := hx
  obtain ⟨hy1, hy2⟩ := hy
  have hz := @b01 (-20 ≤ x ∧ x ≤ 19) inferInstance
  refine x_iload_n (pc := 0) dX5_areEnds_0 rfl rfl ?_
  refine x_bipush (pc := 1) dX5_areEnds_1 (by decide) ?_
  refine x_bipush (pc := 3) dX5_areEnds_3 (by decide) ?_
  refine x_callS (pc := 5) [_, _, _] rfl kX5_144 dX5_areEnds_5 rfl (by decide) (Nat.le_of_ble_eq_true rfl) (Nat.le_of_ble_eq_true rfl) (by decide) ?_
  refine sp_X5_in ⟨by omega, by omega⟩ ⟨by omega, by omega⟩ ⟨by omega, by omega⟩ ?_
  refine ⟨_, rfl, ?_⟩
  refine x_if_eq (pc := 8) (t := 26) dX5_areEnds_8 (by decide) ⟨by omega, by omega⟩ (fun c8 => ?_) (fun c8 => ?_)
  · refine x_iconst (pc := 26) dX5_areEnds_26 ?_
    refine x_zret (pc := 27) dX5_areEnds_27 rfl ⟨by omega, by omega⟩ (by decide) (by decide) ?_
    refine kI k ?_
    clear k
    grind
  · refine x_iload_n (pc := 11) dX5_areEnds_11 rfl rfl ?_
    refine x_iload_n (pc := 12) dX5_areEnds_12 rfl rfl ?_
    refine x_icmp_le (pc := 13) (t := 26) dX5_areEnds_13 (by decide) ⟨by omega, by omega⟩ ⟨by omega, by omega⟩ (fun c13 => ?_) (fun c13 => ?_)
    · refine x_iconst (pc := 26) dX5_areEnds_26 ?_
      refine x_zret (pc := 27) dX5_areEnds_27 rfl ⟨by omega, by omega⟩ (by decide) (by decide) ?_
      refine kI k ?_
      clear k
      grind
    · refine x_iload_n (pc := 16) dX5_areEnds_16 rfl rfl ?_
      refine x_bipush (pc := 17) dX5_areEnds_17 (by decide) ?_
      refine x_icmp_gt (pc := 19) (t := 26) dX5_areEnds_19 (by decide) ⟨by omega, by omega⟩ ⟨by omega, by omega⟩ (fun c19 => ?_) (fun c19 => ?_)
      · refine x_iconst (pc := 26) dX5_areEnds_26 ?_
        refine x_zret (pc := 27) dX5_areEnds_27 rfl ⟨by omega, by omega⟩ (by decide) (by decide) ?_
        refine kI k ?_
        clear k
        grind
      · refine x_iconst (pc := 22) dX5_areEnds_22 ?_
        refine x_goto (pc := 23) (t := 27) dX5_areEnds_23 (by decide) ?_
        refine x_zret (pc := 27) dX5_areEnds_27 rfl ⟨by omega, by omega⟩ (by decide) (by decide) ?_
        refine kI k ?_
        clear k
        grind
set_option maxRecDepth 100000 in
theorem sp_X5_isTerm {g : GG} {lay : Lay} {M : Mem} {K : KK} {x : Int} (hx : i32 x) (k : K (.inl (some (vI (if layab x then 1 else 0)))) lay M) : X g m_X5_isTerm 0 0 lay M 0 [(0, vI x)] [] K := by
  obtain ⟨hx1, hx2⟩ := hx
  have hz := @b01 (-9 ≤ x ∧ x ≤ 9) inferInstance
  refine x_iload_n (pc := 0) dX5_isTerm_0 rfl rfl ?_
  refine x_bipush (pc := 1) dX5_isTerm_1 (by decide) ?_
  refine x_bipush (pc := 3) dX5_isTerm_3 (by decide) ?_
  refine x_callS (pc := 5) [_, _, _] rfl kX5_144 dX5_isTerm_5 rfl (by decide) (Nat.le_of_ble_eq_true rfl) (Nat.le_of_ble_eq_true rfl) (by decide) ?_
  refine sp_X5_in ⟨by omega, by omega⟩ ⟨by omega, by omega⟩ ⟨by omega, by omega⟩ ?_
  refine ⟨_, rfl, ?_⟩
  refine x_if_eq (pc := 8) (t := 19) dX5_isTerm_8 (by decide) ⟨by omega, by omega⟩ (fun c8 => ?_) (fun c8 => ?_)
  · refine x_iconst (pc := 19) dX5_isTerm_19 ?_
    refine x_zret (pc := 20) dX5_isTerm_20 rfl ⟨by omega, by omega⟩ (by decide) (by decide) ?_
    refine kI k ?_
    clear k
    grind
  · refine x_iload_n (pc := 11) dX5_isTerm_11 rfl rfl ?_
    refine x_if_eq (pc := 12) (t := 19) dX5_isTerm_12 (by decide) ⟨by omega, by omega⟩ (fun c12 => ?_) (fun c12 => ?_)
    · refine x_iconst (pc := 19) dX5_isTerm_19 ?_
      refine x_zret (pc := 20) dX5_isTerm_20 rfl ⟨by omega, by omega⟩ (by decide) (by decide) ?_
      refine kI k ?_
      clear k
      grind
    · refine x_iconst (pc := 15) dX5_isTerm_15 ?_
      refine x_goto (pc := 16) (t := 20) dX5_isTerm_16 (by decide) ?_
      refine x_zret (pc := 20) dX5_isTerm_20 rfl ⟨by omega, by omega⟩ (by decide) (by decide) ?_
      refine kI k ?_
      clear k
      grind
set_option maxRecDepth 100000 in
theorem sp_X5_isPlayer {g : GG} {lay : Lay} {M : Mem} {K : KK} {x : Int} (hx : i32 x) (k : K (.inl (some (vI (if x = 0 ∨ x = 1 then 1 else 0)))) lay M) : X g m_X5_isPlayer 0 0 lay M 0 [(0, vI x)] [] K := by
  obtain ⟨hx1, hx2⟩ := hx
  have hz := @b01 (0 ≤ x ∧ x ≤ 1) inferInstance
  refine x_iload_n (pc := 0) dX5_isPlayer_0 rfl rfl ?_
  refine x_iconst (pc := 1) dX5_isPlayer_1 ?_
  refine x_iconst (pc := 2) dX5_isPlayer_2 ?_
  refine x_callS (pc := 3) [_, _, _] rfl kX5_144 dX5_isPlayer_3 rfl (by decide) (Nat.le_of_ble_eq_true rfl) (Nat.le_of_ble_eq_true rfl) (by decide) ?_
  refine sp_X5_in ⟨by omega, by omega⟩ ⟨by omega, by omega⟩ ⟨by omega, by omega⟩ ?_
  refine ⟨_, rfl, ?_⟩
  refine x_zret (pc := 6) dX5_isPlayer_6 rfl ⟨by omega, by omega⟩ (by decide) (by decide) ?_
  refine kI k ?_
  by_cases h : x = 0 ∨ x = 1
  · rw [if_pos h, if_pos (by omega)]
  · rw [if_neg h, if_neg (by omega)]
set_option maxRecDepth 100000 in
theorem sp_X5_isPlace {g : GG} {lay : Lay} {M : Mem} {K : KK} {x : Int} (hx : i32 x) (k : K (.inl (some (vI (if placeP x then 1 else 0)))) lay M) : X g m_X5_isPlace 0 0 lay M 0 [(0, vI x)] [] K := by
  obtain ⟨hx1, hx2⟩ := hx
  have hz := @b01 (-20 ≤ x ∧ x ≤ 20) inferInstance
  refine x_iload_n (pc := 0) dX5_isPlace_0 rfl rfl ?_
  refine x_bipush (pc := 1) dX5_isPlace_1 (by decide) ?_
  refine x_bipush (pc := 3) dX5_isPlace_3 (by decide) ?_
  refine x_callS (pc := 5) [_, _, _] rfl kX5_144 dX5_isPlace_5 rfl (by decide) (Nat.le_of_ble_eq_true rfl) (Nat.le_of_ble_eq_true rfl) (by decide) ?_
  refine sp_X5_in ⟨by omega, by omega⟩ ⟨by omega, by omega⟩ ⟨by omega, by omega⟩ ?_
  refine ⟨_, rfl, ?_⟩
  refine x_zret (pc := 8) dX5_isPlace_8 rfl ⟨by omega, by omega⟩ (by decide) (by decide) ?_
  exact k
set_option maxRecDepth 100000 in
theorem sp_X5_whyClaim {g : GG} {lay : Lay} {M : Mem} {K : KK} {d : Nat} {T : CT} {a y s : Int} (hd : MoL lay d) (hb0 : g.2.1 ≤ d) (hT : RowT T (M (d + 1))) (hW : WfT T) (ha : -20 ≤ a ∧ a < y ∧ y ≤ 20) (hs : 1 ≤ s ∧ s ≤ 9) (k : K (.inl (some (vI (whyClaimF T a y s)))) lay M) : X g m_X5_whyClaim 0 0 lay M 0 [(0, vR d), (1, vI a), (2, vI y), (3, vI s)] [] K := by
  have hn := hW.n60
  obtain ⟨wS, wP, wN, wm, wK, wL, wO, wB⟩ := id hW
  obtain ⟨⟨hS, hN, h10, hP, hp3, hL, hK, h99, hm⟩, hO, hBo⟩ := id hT
  have h2 : tN T % 2 < 2 := Nat.mod_lt _ (by decide)
  have w0 := wK (tN T % 2)
  have e6 := hS 6 (by decide)
  have w6 := wS.2.2.2.2.2.2
  have hst := stakesF_rng (tL T (tN T % 2)) (tK T (tN T % 2)) (fun i hi => by have := wL (tN T % 2) i h2 hi; unfold WfL at this; omega) (tK T (tN T % 2)) (Nat.le_refl _)
  have loop : ∀ (c j : Nat) (x q : Int), j + c = tK T (tN T % 2) → x = j → (q = 0 ∨ q = 1) → (q = 1 ↔ lapsF (tL T (tN T % 2)) a y j) → X g m_X5_whyClaim 0 0 lay M 12 [(6, vI x), (5, vI q), (4, vI ((tN T % 2 : Nat) : Int)), (0, vR d), (1, vI a), (2, vI y), (3, vI s)] [] K := by
    intro c
    induction c with
    | zero =>
      intro j x q hj hx hq hl
      rw [show j = tK T (tN T % 2) by omega] at hl
      have h9 : whyClaimF T a y s = (if tO T = 1 then 1 else if hasClaim T then 2 else if tK T (tN T % 2) = 4 then 3 else if q = 1 then 4 else if tS T 6 < stakesF (tL T (tN T % 2)) (tK T (tN T % 2)) + s then 5 else 0) := by
        unfold whyClaimF
        simp only [hl]
      rw [h9] at k
      clear h9 hl
      have hz := @b01 (tO T = 0 ∧ hasClaim T) inferInstance
      refine x_iload (pc := 12) dX5_whyClaim_12 rfl ?_
      refine x_aload_n (pc := 14) dX5_whyClaim_14 rfl rfl ?_
      refine x_iload (pc := 15) dX5_whyClaim_15 rfl ?_
      refine x_callV (pc := 17) [_] rfl kX5_155 dX5_whyClaim_17 hd.1 rfl rfl (by decide) (Nat.le_of_ble_eq_true rfl) (Nat.le_of_ble_eq_true rfl) (by decide) ?_
      refine sp_X5_claimsOf hd hb0 hT hW h2 ?_
      refine ⟨_, rfl, ?_⟩
      refine x_icmp_ge (pc := 20) (t := 109) dX5_whyClaim_20 (by decide) ⟨by omega, by omega⟩ ⟨by omega, by omega⟩ (fun c20 => ?_) (fun c20 => ?_)
      · refine x_aload_n (pc := 109) dX5_whyClaim_109 rfl rfl ?_
        refine x_getr (pc := 110) (b := d + 1) fX5_7 dX5_whyClaim_110 hd.1 rfl rfl ?_
        refine x_bipush (pc := 113) dX5_whyClaim_113 (by decide) ?_
        refine x_iald (pc := 115) dX5_whyClaim_115 hd.2.1 (by omega) (by omega) (fun r115a r115b => ?_)
        rw [show (8 : Int).toNat = 8 from rfl, hO] at r115a r115b ⊢
        refine x_iconst (pc := 116) dX5_whyClaim_116 ?_
        refine x_icmp_ne (pc := 117) (t := 124) dX5_whyClaim_117 (by decide) ⟨by omega, by omega⟩ ⟨by omega, by omega⟩ (fun c117 => ?_) (fun c117 => ?_)
        · refine x_aload_n (pc := 124) dX5_whyClaim_124 rfl rfl ?_
          refine x_callV (pc := 125) [] rfl kX5_187 dX5_whyClaim_125 hd.1 rfl rfl (by decide) (Nat.le_of_ble_eq_true rfl) (Nat.le_of_ble_eq_true rfl) (by decide) ?_
          refine sp_X5_hasClaimed hd hb0 hT hW ?_
          refine ⟨_, rfl, ?_⟩
          refine x_if_eq (pc := 128) (t := 135) dX5_whyClaim_128 (by decide) ⟨by omega, by omega⟩ (fun c128 => ?_) (fun c128 => ?_)
          · refine x_aload_n (pc := 135) dX5_whyClaim_135 rfl rfl ?_
            refine x_iload (pc := 136) dX5_whyClaim_136 rfl ?_
            refine x_callV (pc := 138) [_] rfl kX5_155 dX5_whyClaim_138 hd.1 rfl rfl (by decide) (Nat.le_of_ble_eq_true rfl) (Nat.le_of_ble_eq_true rfl) (by decide) ?_
            refine sp_X5_claimsOf hd hb0 hT hW h2 ?_
            refine ⟨_, rfl, ?_⟩
            refine x_iconst (pc := 141) dX5_whyClaim_141 ?_
            refine x_icmp_ne (pc := 142) (t := 149) dX5_whyClaim_142 (by decide) ⟨by omega, by omega⟩ ⟨by omega, by omega⟩ (fun c142 => ?_) (fun c142 => ?_)
            · refine x_iload (pc := 149) dX5_whyClaim_149 rfl ?_
              refine x_if_eq (pc := 151) (t := 158) dX5_whyClaim_151 (by decide) ⟨by omega, by omega⟩ (fun c151 => ?_) (fun c151 => ?_)
              · refine x_aload_n (pc := 158) dX5_whyClaim_158 rfl rfl ?_
                refine x_iload (pc := 159) dX5_whyClaim_159 rfl ?_
                refine x_callV (pc := 161) [_] rfl kX5_191 dX5_whyClaim_161 hd.1 rfl rfl (by decide) (Nat.le_of_ble_eq_true rfl) (Nat.le_of_ble_eq_true rfl) (by decide) ?_
                refine sp_X5_stakesOf hd hb0 hT hW h2 ?_
                refine ⟨_, rfl, ?_⟩
                refine x_iload_n (pc := 164) dX5_whyClaim_164 rfl rfl ?_
                refine x_iadd (pc := 165) dX5_whyClaim_165 ?_
                refine x_aload_n (pc := 166) dX5_whyClaim_166 rfl rfl ?_
                refine x_getr (pc := 167) (b := d + 1) fX5_7 dX5_whyClaim_167 hd.1 rfl rfl ?_
                refine x_bipush (pc := 170) dX5_whyClaim_170 (by decide) ?_
                refine x_iald (pc := 172) dX5_whyClaim_172 hd.2.1 (by omega) (by omega) (fun r172a r172b => ?_)
                rw [show (6 : Int).toNat = 6 from rfl, e6] at r172a r172b ⊢
                refine x_icmp_le (pc := 173) (t := 180) dX5_whyClaim_173 (by decide) ⟨by omega, by omega⟩ ⟨by omega, by omega⟩ (fun c173 => ?_) (fun c173 => ?_)
                · refine x_iconst (pc := 180) dX5_whyClaim_180 ?_
                  refine x_iret (pc := 181) dX5_whyClaim_181 rfl (by decide) (by decide) ?_
                  refine kI k ?_
                  clear k hS hP hp3 hL hK hm wS wP wm wK wL hT hW
                  grind
                · refine x_iconst (pc := 176) dX5_whyClaim_176 ?_
                  refine x_goto (pc := 177) (t := 181) dX5_whyClaim_177 (by decide) ?_
                  refine x_iret (pc := 181) dX5_whyClaim_181 rfl (by decide) (by decide) ?_
                  refine kI k ?_
                  clear k hS hP hp3 hL hK hm wS wP wm wK wL hT hW
                  grind
              · refine x_iconst (pc := 154) dX5_whyClaim_154 ?_
                refine x_goto (pc := 155) (t := 181) dX5_whyClaim_155 (by decide) ?_
                refine x_iret (pc := 181) dX5_whyClaim_181 rfl (by decide) (by decide) ?_
                refine kI k ?_
                clear k hS hP hp3 hL hK hm wS wP wm wK wL hT hW
                grind
            · refine x_iconst (pc := 145) dX5_whyClaim_145 ?_
              refine x_goto (pc := 146) (t := 181) dX5_whyClaim_146 (by decide) ?_
              refine x_iret (pc := 181) dX5_whyClaim_181 rfl (by decide) (by decide) ?_
              refine kI k ?_
              clear k hS hP hp3 hL hK hm wS wP wm wK wL hT hW
              grind
          · refine x_iconst (pc := 131) dX5_whyClaim_131 ?_
            refine x_goto (pc := 132) (t := 181) dX5_whyClaim_132 (by decide) ?_
            refine x_iret (pc := 181) dX5_whyClaim_181 rfl (by decide) (by decide) ?_
            refine kI k ?_
            clear k hS hP hp3 hL hK hm wS wP wm wK wL hT hW
            grind
        · refine x_iconst (pc := 120) dX5_whyClaim_120 ?_
          refine x_goto (pc := 121) (t := 181) dX5_whyClaim_121 (by decide) ?_
          refine x_iret (pc := 181) dX5_whyClaim_181 rfl (by decide) (by decide) ?_
          refine kI k ?_
          clear k hS hP hp3 hL hK hm wS wP wm wK wL hT hW
          grind
      · exfalso; omega
    | succ c ih =>
      intro j x q hj hx hq hl
      have e0 := hL (tN T % 2) j 0 h2 (by omega) (by omega)
      have e1 := hL (tN T % 2) j 1 h2 (by omega) (by omega)
      have wl := wL (tN T % 2) j h2 (by omega)
      unfold WfL at wl
      have hstep : lapsF (tL T (tN T % 2)) a y (j + 1) ↔ (lapsF (tL T (tN T % 2)) a y j ∨ (a < tL T (tN T % 2) j 1 ∧ tL T (tN T % 2) j 0 < y)) := by
        constructor
        · rintro ⟨i, hi, q1, q2⟩
          by_cases e : i = j
          · subst e; exact Or.inr ⟨q1, q2⟩
          · exact Or.inl ⟨i, by omega, q1, q2⟩
        · rintro (⟨i, hi, q1, q2⟩ | ⟨q1, q2⟩)
          · exact ⟨i, by omega, q1, q2⟩
          · exact ⟨j, by omega, q1, q2⟩
      refine x_iload (pc := 12) dX5_whyClaim_12 rfl ?_
      refine x_aload_n (pc := 14) dX5_whyClaim_14 rfl rfl ?_
      refine x_iload (pc := 15) dX5_whyClaim_15 rfl ?_
      refine x_callV (pc := 17) [_] rfl kX5_155 dX5_whyClaim_17 hd.1 rfl rfl (by decide) (Nat.le_of_ble_eq_true rfl) (Nat.le_of_ble_eq_true rfl) (by decide) ?_
      refine sp_X5_claimsOf hd hb0 hT hW h2 ?_
      refine ⟨_, rfl, ?_⟩
      refine x_icmp_ge (pc := 20) (t := 109) dX5_whyClaim_20 (by decide) ⟨by omega, by omega⟩ ⟨by omega, by omega⟩ (fun c20 => ?_) (fun c20 => ?_)
      · exfalso; omega
      · refine x_iload (pc := 23) dX5_whyClaim_23 rfl ?_
        refine x_iload (pc := 25) dX5_whyClaim_25 rfl ?_
        refine x_callS (pc := 27) [_, _] rfl kX5_158 dX5_whyClaim_27 rfl (by decide) (Nat.le_of_ble_eq_true rfl) (Nat.le_of_ble_eq_true rfl) (by decide) ?_
        refine sp_X5_claimAt ?_
        refine ⟨_, rfl, ?_⟩
        refine x_istore (pc := 30) dX5_whyClaim_30 trivial (by decide) (L' := [(7, _), (6, _), (5, _), (4, _), (0, _), (1, _), (2, _), (3, _)]) rfl ?_
        refine x_aload_n (pc := 32) dX5_whyClaim_32 rfl rfl ?_
        refine x_getr (pc := 33) (b := d + 1) fX5_7 dX5_whyClaim_33 hd.1 rfl rfl ?_
        refine x_iload (pc := 36) dX5_whyClaim_36 rfl ?_
        refine x_iald (pc := 38) dX5_whyClaim_38 hd.2.1 (by omega) (by omega) (fun r38a r38b => ?_)
        rw [show (47 + 24 * ((tN T % 2 : Nat) : Int) + 6 * x).toNat = 47 + 24 * (tN T % 2) + 6 * j + 0 by omega, e0] at r38a r38b ⊢
        refine x_iload_n (pc := 39) dX5_whyClaim_39 rfl rfl ?_
        refine x_icmp_le (pc := 40) (t := 53) dX5_whyClaim_40 (by decide) ⟨by omega, by omega⟩ ⟨by omega, by omega⟩ (fun c40 => ?_) (fun c40 => ?_)
        · refine x_iload_n (pc := 53) dX5_whyClaim_53 rfl rfl ?_
          refine x_istore (pc := 54) dX5_whyClaim_54 trivial (by decide) (L' := [(8, _), (7, _), (6, _), (5, _), (4, _), (0, _), (1, _), (2, _), (3, _)]) rfl ?_
          refine x_aload_n (pc := 56) dX5_whyClaim_56 rfl rfl ?_
          refine x_getr (pc := 57) (b := d + 1) fX5_7 dX5_whyClaim_57 hd.1 rfl rfl ?_
          refine x_iload (pc := 60) dX5_whyClaim_60 rfl ?_
          refine x_iconst (pc := 62) dX5_whyClaim_62 ?_
          refine x_iadd (pc := 63) dX5_whyClaim_63 ?_
          refine x_iald (pc := 64) dX5_whyClaim_64 hd.2.1 (by omega) (by omega) (fun r64a r64b => ?_)
          rw [show (47 + 24 * ((tN T % 2 : Nat) : Int) + 6 * x + 1).toNat = 47 + 24 * (tN T % 2) + 6 * j + 1 by omega, e1] at r64a r64b ⊢
          refine x_iload_n (pc := 65) dX5_whyClaim_65 rfl rfl ?_
          refine x_icmp_ge (pc := 66) (t := 81) dX5_whyClaim_66 (by decide) ⟨by omega, by omega⟩ ⟨by omega, by omega⟩ (fun c66 => ?_) (fun c66 => ?_)
          · refine x_iload_n (pc := 81) dX5_whyClaim_81 rfl rfl ?_
            refine x_istore (pc := 82) dX5_whyClaim_82 trivial (by decide) (L' := [(9, _), (8, _), (7, _), (6, _), (5, _), (4, _), (0, _), (1, _), (2, _), (3, _)]) rfl ?_
            refine x_iload (pc := 84) dX5_whyClaim_84 rfl ?_
            refine x_if_ne (pc := 86) (t := 96) dX5_whyClaim_86 (by decide) ⟨by omega, by omega⟩ (fun c86 => ?_) (fun c86 => ?_)
            · refine x_iconst (pc := 96) dX5_whyClaim_96 ?_
              refine x_goto (pc := 97) (t := 101) dX5_whyClaim_97 (by decide) ?_
              refine x_istore (pc := 101) dX5_whyClaim_101 trivial (by decide) (L' := [(5, _), (9, _), (8, _), (7, _), (6, _), (4, _), (0, _), (1, _), (2, _), (3, _)]) rfl ?_
              refine x_iinc (pc := 103) dX5_whyClaim_103 rfl (by decide) (L' := [(6, _), (5, _), (9, _), (8, _), (7, _), (4, _), (0, _), (1, _), (2, _), (3, _)]) rfl ?_
              refine x_goto (pc := 106) (t := 12) dX5_whyClaim_106 (by decide) ?_
              refine X.loc [0, 1, 5, 6, 7, 8, 9] (L' := [(6, _), (5, _), (4, _), (0, _), (1, _), (2, _), (3, _)]) rfl ?_
              refine ih (j + 1) _ _ (by omega) (by omega) (by omega) ?_
              rw [hstep, ← hl]
              clear k ih hl hstep hS hP hp3 hL hK hm wS wP wm wK wL hT hW
              grind
            · refine x_iload (pc := 89) dX5_whyClaim_89 rfl ?_
              refine x_iload (pc := 91) dX5_whyClaim_91 rfl ?_
              refine x_icmp_ge (pc := 93) (t := 100) dX5_whyClaim_93 (by decide) ⟨by omega, by omega⟩ ⟨by omega, by omega⟩ (fun c93 => ?_) (fun c93 => ?_)
              · refine x_iconst (pc := 100) dX5_whyClaim_100 ?_
                refine x_istore (pc := 101) dX5_whyClaim_101 trivial (by decide) (L' := [(5, _), (9, _), (8, _), (7, _), (6, _), (4, _), (0, _), (1, _), (2, _), (3, _)]) rfl ?_
                refine x_iinc (pc := 103) dX5_whyClaim_103 rfl (by decide) (L' := [(6, _), (5, _), (9, _), (8, _), (7, _), (4, _), (0, _), (1, _), (2, _), (3, _)]) rfl ?_
                refine x_goto (pc := 106) (t := 12) dX5_whyClaim_106 (by decide) ?_
                refine X.loc [0, 1, 5, 6, 7, 8, 9] (L' := [(6, _), (5, _), (4, _), (0, _), (1, _), (2, _), (3, _)]) rfl ?_
                refine ih (j + 1) _ _ (by omega) (by omega) (by omega) ?_
                rw [hstep, ← hl]
                clear k ih hl hstep hS hP hp3 hL hK hm wS wP wm wK wL hT hW
                grind
              · refine x_iconst (pc := 96) dX5_whyClaim_96 ?_
                refine x_goto (pc := 97) (t := 101) dX5_whyClaim_97 (by decide) ?_
                refine x_istore (pc := 101) dX5_whyClaim_101 trivial (by decide) (L' := [(5, _), (9, _), (8, _), (7, _), (6, _), (4, _), (0, _), (1, _), (2, _), (3, _)]) rfl ?_
                refine x_iinc (pc := 103) dX5_whyClaim_103 rfl (by decide) (L' := [(6, _), (5, _), (9, _), (8, _), (7, _), (4, _), (0, _), (1, _), (2, _), (3, _)]) rfl ?_
                refine x_goto (pc := 106) (t := 12) dX5_whyClaim_106 (by decide) ?_
                refine X.loc [0, 1, 5, 6, 7, 8, 9] (L' := [(6, _), (5, _), (4, _), (0, _), (1, _), (2, _), (3, _)]) rfl ?_
                refine ih (j + 1) _ _ (by omega) (by omega) (by omega) ?_
                rw [hstep, ← hl]
                clear k ih hl hstep hS hP hp3 hL hK hm wS wP wm wK wL hT hW
                grind
          · refine x_aload_n (pc := 69) dX5_whyClaim_69 rfl rfl ?_
            refine x_getr (pc := 70) (b := d + 1) fX5_7 dX5_whyClaim_70 hd.1 rfl rfl ?_
            refine x_iload (pc := 73) dX5_whyClaim_73 rfl ?_
            refine x_iconst (pc := 75) dX5_whyClaim_75 ?_
            refine x_iadd (pc := 76) dX5_whyClaim_76 ?_
            refine x_iald (pc := 77) dX5_whyClaim_77 hd.2.1 (by omega) (by omega) (fun r77a r77b => ?_)
            rw [show (47 + 24 * ((tN T % 2 : Nat) : Int) + 6 * x + 1).toNat = 47 + 24 * (tN T % 2) + 6 * j + 1 by omega, e1] at r77a r77b ⊢
            refine x_goto (pc := 78) (t := 82) dX5_whyClaim_78 (by decide) ?_
            refine x_istore (pc := 82) dX5_whyClaim_82 trivial (by decide) (L' := [(9, _), (8, _), (7, _), (6, _), (5, _), (4, _), (0, _), (1, _), (2, _), (3, _)]) rfl ?_
            refine x_iload (pc := 84) dX5_whyClaim_84 rfl ?_
            refine x_if_ne (pc := 86) (t := 96) dX5_whyClaim_86 (by decide) ⟨by omega, by omega⟩ (fun c86 => ?_) (fun c86 => ?_)
            · refine x_iconst (pc := 96) dX5_whyClaim_96 ?_
              refine x_goto (pc := 97) (t := 101) dX5_whyClaim_97 (by decide) ?_
              refine x_istore (pc := 101) dX5_whyClaim_101 trivial (by decide) (L' := [(5, _), (9, _), (8, _), (7, _), (6, _), (4, _), (0, _), (1, _), (2, _), (3, _)]) rfl ?_
              refine x_iinc (pc := 103) dX5_whyClaim_103 rfl (by decide) (L' := [(6, _), (5, _), (9, _), (8, _), (7, _), (4, _), (0, _), (1, _), (2, _), (3, _)]) rfl ?_
              refine x_goto (pc := 106) (t := 12) dX5_whyClaim_106 (by decide) ?_
              refine X.loc [0, 1, 5, 6, 7, 8, 9] (L' := [(6, _), (5, _), (4, _), (0, _), (1, _), (2, _), (3, _)]) rfl ?_
              refine ih (j + 1) _ _ (by omega) (by omega) (by omega) ?_
              rw [hstep, ← hl]
              clear k ih hl hstep hS hP hp3 hL hK hm wS wP wm wK wL hT hW
              grind
            · refine x_iload (pc := 89) dX5_whyClaim_89 rfl ?_
              refine x_iload (pc := 91) dX5_whyClaim_91 rfl ?_
              refine x_icmp_ge (pc := 93) (t := 100) dX5_whyClaim_93 (by decide) ⟨by omega, by omega⟩ ⟨by omega, by omega⟩ (fun c93 => ?_) (fun c93 => ?_)
              · refine x_iconst (pc := 100) dX5_whyClaim_100 ?_
                refine x_istore (pc := 101) dX5_whyClaim_101 trivial (by decide) (L' := [(5, _), (9, _), (8, _), (7, _), (6, _), (4, _), (0, _), (1, _), (2, _), (3, _)]) rfl ?_
                refine x_iinc (pc := 103) dX5_whyClaim_103 rfl (by decide) (L' := [(6, _), (5, _), (9, _), (8, _), (7, _), (4, _), (0, _), (1, _), (2, _), (3, _)]) rfl ?_
                refine x_goto (pc := 106) (t := 12) dX5_whyClaim_106 (by decide) ?_
                refine X.loc [0, 1, 5, 6, 7, 8, 9] (L' := [(6, _), (5, _), (4, _), (0, _), (1, _), (2, _), (3, _)]) rfl ?_
                refine ih (j + 1) _ _ (by omega) (by omega) (by omega) ?_
                rw [hstep, ← hl]
                clear k ih hl hstep hS hP hp3 hL hK hm wS wP wm wK wL hT hW
                grind
              · refine x_iconst (pc := 96) dX5_whyClaim_96 ?_
                refine x_goto (pc := 97) (t := 101) dX5_whyClaim_97 (by decide) ?_
                refine x_istore (pc := 101) dX5_whyClaim_101 trivial (by decide) (L' := [(5, _), (9, _), (8, _), (7, _), (6, _), (4, _), (0, _), (1, _), (2, _), (3, _)]) rfl ?_
                refine x_iinc (pc := 103) dX5_whyClaim_103 rfl (by decide) (L' := [(6, _), (5, _), (9, _), (8, _), (7, _), (4, _), (0, _), (1, _), (2, _), (3, _)]) rfl ?_
                refine x_goto (pc := 106) (t := 12) dX5_whyClaim_106 (by decide) ?_
                refine X.loc [0, 1, 5, 6, 7, 8, 9] (L' := [(6, _), (5, _), (4, _), (0, _), (1, _), (2, _), (3, _)]) rfl ?_
                refine ih (j + 1) _ _ (by omega) (by omega) (by omega) ?_
                rw [hstep, ← hl]
                clear k ih hl hstep hS hP hp3 hL hK hm wS wP wm wK wL hT hW
                grind
        · refine x_aload_n (pc := 43) dX5_whyClaim_43 rfl rfl ?_
          refine x_getr (pc := 44) (b := d + 1) fX5_7 dX5_whyClaim_44 hd.1 rfl rfl ?_
          refine x_iload (pc := 47) dX5_whyClaim_47 rfl ?_
          refine x_iald (pc := 49) dX5_whyClaim_49 hd.2.1 (by omega) (by omega) (fun r49a r49b => ?_)
          rw [show (47 + 24 * ((tN T % 2 : Nat) : Int) + 6 * x).toNat = 47 + 24 * (tN T % 2) + 6 * j + 0 by omega, e0] at r49a r49b ⊢
          refine x_goto (pc := 50) (t := 54) dX5_whyClaim_50 (by decide) ?_
          refine x_istore (pc := 54) dX5_whyClaim_54 trivial (by decide) (L' := [(8, _), (7, _), (6, _), (5, _), (4, _), (0, _), (1, _), (2, _), (3, _)]) rfl ?_
          refine x_aload_n (pc := 56) dX5_whyClaim_56 rfl rfl ?_
          refine x_getr (pc := 57) (b := d + 1) fX5_7 dX5_whyClaim_57 hd.1 rfl rfl ?_
          refine x_iload (pc := 60) dX5_whyClaim_60 rfl ?_
          refine x_iconst (pc := 62) dX5_whyClaim_62 ?_
          refine x_iadd (pc := 63) dX5_whyClaim_63 ?_
          refine x_iald (pc := 64) dX5_whyClaim_64 hd.2.1 (by omega) (by omega) (fun r64a r64b => ?_)
          rw [show (47 + 24 * ((tN T % 2 : Nat) : Int) + 6 * x + 1).toNat = 47 + 24 * (tN T % 2) + 6 * j + 1 by omega, e1] at r64a r64b ⊢
          refine x_iload_n (pc := 65) dX5_whyClaim_65 rfl rfl ?_
          refine x_icmp_ge (pc := 66) (t := 81) dX5_whyClaim_66 (by decide) ⟨by omega, by omega⟩ ⟨by omega, by omega⟩ (fun c66 => ?_) (fun c66 => ?_)
          · refine x_iload_n (pc := 81) dX5_whyClaim_81 rfl rfl ?_
            refine x_istore (pc := 82) dX5_whyClaim_82 trivial (by decide) (L' := [(9, _), (8, _), (7, _), (6, _), (5, _), (4, _), (0, _), (1, _), (2, _), (3, _)]) rfl ?_
            refine x_iload (pc := 84) dX5_whyClaim_84 rfl ?_
            refine x_if_ne (pc := 86) (t := 96) dX5_whyClaim_86 (by decide) ⟨by omega, by omega⟩ (fun c86 => ?_) (fun c86 => ?_)
            · refine x_iconst (pc := 96) dX5_whyClaim_96 ?_
              refine x_goto (pc := 97) (t := 101) dX5_whyClaim_97 (by decide) ?_
              refine x_istore (pc := 101) dX5_whyClaim_101 trivial (by decide) (L' := [(5, _), (9, _), (8, _), (7, _), (6, _), (4, _), (0, _), (1, _), (2, _), (3, _)]) rfl ?_
              refine x_iinc (pc := 103) dX5_whyClaim_103 rfl (by decide) (L' := [(6, _), (5, _), (9, _), (8, _), (7, _), (4, _), (0, _), (1, _), (2, _), (3, _)]) rfl ?_
              refine x_goto (pc := 106) (t := 12) dX5_whyClaim_106 (by decide) ?_
              refine X.loc [0, 1, 5, 6, 7, 8, 9] (L' := [(6, _), (5, _), (4, _), (0, _), (1, _), (2, _), (3, _)]) rfl ?_
              refine ih (j + 1) _ _ (by omega) (by omega) (by omega) ?_
              rw [hstep, ← hl]
              clear k ih hl hstep hS hP hp3 hL hK hm wS wP wm wK wL hT hW
              grind
            · refine x_iload (pc := 89) dX5_whyClaim_89 rfl ?_
              refine x_iload (pc := 91) dX5_whyClaim_91 rfl ?_
              refine x_icmp_ge (pc := 93) (t := 100) dX5_whyClaim_93 (by decide) ⟨by omega, by omega⟩ ⟨by omega, by omega⟩ (fun c93 => ?_) (fun c93 => ?_)
              · refine x_iconst (pc := 100) dX5_whyClaim_100 ?_
                refine x_istore (pc := 101) dX5_whyClaim_101 trivial (by decide) (L' := [(5, _), (9, _), (8, _), (7, _), (6, _), (4, _), (0, _), (1, _), (2, _), (3, _)]) rfl ?_
                refine x_iinc (pc := 103) dX5_whyClaim_103 rfl (by decide) (L' := [(6, _), (5, _), (9, _), (8, _), (7, _), (4, _), (0, _), (1, _), (2, _), (3, _)]) rfl ?_
                refine x_goto (pc := 106) (t := 12) dX5_whyClaim_106 (by decide) ?_
                refine X.loc [0, 1, 5, 6, 7, 8, 9] (L' := [(6, _), (5, _), (4, _), (0, _), (1, _), (2, _), (3, _)]) rfl ?_
                refine ih (j + 1) _ _ (by omega) (by omega) (by omega) ?_
                rw [hstep, ← hl]
                clear k ih hl hstep hS hP hp3 hL hK hm wS wP wm wK wL hT hW
                grind
              · refine x_iconst (pc := 96) dX5_whyClaim_96 ?_
                refine x_goto (pc := 97) (t := 101) dX5_whyClaim_97 (by decide) ?_
                refine x_istore (pc := 101) dX5_whyClaim_101 trivial (by decide) (L' := [(5, _), (9, _), (8, _), (7, _), (6, _), (4, _), (0, _), (1, _), (2, _), (3, _)]) rfl ?_
                refine x_iinc (pc := 103) dX5_whyClaim_103 rfl (by decide) (L' := [(6, _), (5, _), (9, _), (8, _), (7, _), (4, _), (0, _), (1, _), (2, _), (3, _)]) rfl ?_
                refine x_goto (pc := 106) (t := 12) dX5_whyClaim_106 (by decide) ?_
                refine X.loc [0, 1, 5, 6, 7, 8, 9] (L' := [(6, _), (5, _), (4, _), (0, _), (1, _), (2, _), (3, _)]) rfl ?_
                refine ih (j + 1) _ _ (by omega) (by omega) (by omega) ?_
                rw [hstep, ← hl]
                clear k ih hl hstep hS hP hp3 hL hK hm wS wP wm wK wL hT hW
                grind
          · refine x_aload_n (pc := 69) dX5_whyClaim_69 rfl rfl ?_
            refine x_getr (pc := 70) (b := d + 1) fX5_7 dX5_whyClaim_70 hd.1 rfl rfl ?_
            refine x_iload (pc := 73) dX5_whyClaim_73 rfl ?_
            refine x_iconst (pc := 75) dX5_whyClaim_75 ?_
            refine x_iadd (pc := 76) dX5_whyClaim_76 ?_
            refine x_iald (pc := 77) dX5_whyClaim_77 hd.2.1 (by omega) (by omega) (fun r77a r77b => ?_)
            rw [show (47 + 24 * ((tN T % 2 : Nat) : Int) + 6 * x + 1).toNat = 47 + 24 * (tN T % 2) + 6 * j + 1 by omega, e1] at r77a r77b ⊢
            refine x_goto (pc := 78) (t := 82) dX5_whyClaim_78 (by decide) ?_
            refine x_istore (pc := 82) dX5_whyClaim_82 trivial (by decide) (L' := [(9, _), (8, _), (7, _), (6, _), (5, _), (4, _), (0, _), (1, _), (2, _), (3, _)]) rfl ?_
            refine x_iload (pc := 84) dX5_whyClaim_84 rfl ?_
            refine x_if_ne (pc := 86) (t := 96) dX5_whyClaim_86 (by decide) ⟨by omega, by omega⟩ (fun c86 => ?_) (fun c86 => ?_)
            · refine x_iconst (pc := 96) dX5_whyClaim_96 ?_
              refine x_goto (pc := 97) (t := 101) dX5_whyClaim_97 (by decide) ?_
              refine x_istore (pc := 101) dX5_whyClaim_101 trivial (by decide) (L' := [(5, _), (9, _), (8, _), (7, _), (6, _), (4, _), (0, _), (1, _), (2, _), (3, _)]) rfl ?_
              refine x_iinc (pc := 103) dX5_whyClaim_103 rfl (by decide) (L' := [(6, _), (5, _), (9, _), (8, _), (7, _), (4, _), (0, _), (1, _), (2, _), (3, _)]) rfl ?_
              refine x_goto (pc := 106) (t := 12) dX5_whyClaim_106 (by decide) ?_
              refine X.loc [0, 1, 5, 6, 7, 8, 9] (L' := [(6, _), (5, _), (4, _), (0, _), (1, _), (2, _), (3, _)]) rfl ?_
              refine ih (j + 1) _ _ (by omega) (by omega) (by omega) ?_
              rw [hstep, ← hl]
              clear k ih hl hstep hS hP hp3 hL hK hm wS wP wm wK wL hT hW
              grind
            · refine x_iload (pc := 89) dX5_whyClaim_89 rfl ?_
              refine x_iload (pc := 91) dX5_whyClaim_91 rfl ?_
              refine x_icmp_ge (pc := 93) (t := 100) dX5_whyClaim_93 (by decide) ⟨by omega, by omega⟩ ⟨by omega, by omega⟩ (fun c93 => ?_) (fun c93 => ?_)
              · refine x_iconst (pc := 100) dX5_whyClaim_100 ?_
                refine x_istore (pc := 101) dX5_whyClaim_101 trivial (by decide) (L' := [(5, _), (9, _), (8, _), (7, _), (6, _), (4, _), (0, _), (1, _), (2, _), (3, _)]) rfl ?_
                refine x_iinc (pc := 103) dX5_whyClaim_103 rfl (by decide) (L' := [(6, _), (5, _), (9, _), (8, _), (7, _), (4, _), (0, _), (1, _), (2, _), (3, _)]) rfl ?_
                refine x_goto (pc := 106) (t := 12) dX5_whyClaim_106 (by decide) ?_
                refine X.loc [0, 1, 5, 6, 7, 8, 9] (L' := [(6, _), (5, _), (4, _), (0, _), (1, _), (2, _), (3, _)]) rfl ?_
                refine ih (j + 1) _ _ (by omega) (by omega) (by omega) ?_
                rw [hstep, ← hl]
                clear k ih hl hstep hS hP hp3 hL hK hm wS wP wm wK wL hT hW
                grind
              · refine x_iconst (pc := 96) dX5_whyClaim_96 ?_
                refine x_goto (pc := 97) (t := 101) dX5_whyClaim_97 (by decide) ?_
                refine x_istore (pc := 101) dX5_whyClaim_101 trivial (by decide) (L' := [(5, _), (9, _), (8, _), (7, _), (6, _), (4, _), (0, _), (1, _), (2, _), (3, _)]) rfl ?_
                refine x_iinc (pc := 103) dX5_whyClaim_103 rfl (by decide) (L' := [(6, _), (5, _), (9, _), (8, _), (7, _), (4, _), (0, _), (1, _), (2, _), (3, _)]) rfl ?_
                refine x_goto (pc := 106) (t := 12) dX5_whyClaim_106 (by decide) ?_
                refine X.loc [0, 1, 5, 6, 7, 8, 9] (L' := [(6, _), (5, _), (4, _), (0, _), (1, _), (2, _), (3, _)]) rfl ?_
                refine ih (j + 1) _ _ (by omega) (by omega) (by omega) ?_
                rw [hstep, ← hl]
                clear k ih hl hstep hS hP hp3 hL hK hm wS wP wm wK wL hT hW
                grind
  refine x_aload_n (pc := 0) dX5_whyClaim_0 rfl rfl ?_
  refine x_callV (pc := 1) [] rfl kX5_152 dX5_whyClaim_1 hd.1 rfl rfl (by decide) (Nat.le_of_ble_eq_true rfl) (Nat.le_of_ble_eq_true rfl) (by decide) ?_
  refine sp_X5_whose hd hb0 hT hW ?_
  refine ⟨_, rfl, ?_⟩
  refine x_istore (pc := 4) dX5_whyClaim_4 trivial (by decide) (L' := [(4, _), (0, _), (1, _), (2, _), (3, _)]) rfl ?_
  refine x_iconst (pc := 6) dX5_whyClaim_6 ?_
  refine x_istore (pc := 7) dX5_whyClaim_7 trivial (by decide) (L' := [(5, _), (4, _), (0, _), (1, _), (2, _), (3, _)]) rfl ?_
  refine x_iconst (pc := 9) dX5_whyClaim_9 ?_
  refine x_istore (pc := 10) dX5_whyClaim_10 trivial (by decide) (L' := [(6, _), (5, _), (4, _), (0, _), (1, _), (2, _), (3, _)]) rfl ?_
  refine X.loc [0, 1, 2, 3, 4, 5, 6] (L' := [(6, _), (5, _), (4, _), (0, _), (1, _), (2, _), (3, _)]) rfl ?_
  exact loop (tK T (tN T % 2)) 0 _ _ (by omega) rfl (Or.inl rfl) ⟨fun h => by omega, fun ⟨i, hi, _⟩ => by omega⟩
