/-! Specs of a contest's further reads. -/
theorem kI {K : KK} {lay : Lay} {M : Mem} {a b : Int} (k : K (.inl (some (vI a))) lay M) (h : a = b) : K (.inl (some (vI b))) lay M := h ▸ k
theorem b0 {p : Prop} {d : Decidable p} (h : (if p then (1 : Int) else 0) = 0) : ¬ p := fun q => by rw [if_pos q] at h; exact absurd h (by decide)
theorem b1 {p : Prop} {d : Decidable p} (h : ¬ (if p then (1 : Int) else 0) = 0) : p := Decidable.byContradiction fun q => h (if_neg q)
theorem b01 {p : Prop} {d : Decidable p} : 0 ≤ (if p then (1 : Int) else 0) ∧ (if p then (1 : Int) else 0) ≤ 1 := by split <;> decide
theorem tmod2 (n : Nat) : (n : Int).tmod 2 = ((n % 2 : Nat) : Int) := by
  rw [Int.tmod_eq_emod_of_nonneg (by omega)]
  omega
def termsOnF (mc mp : Nat → Int) (p : Int) : Nat → Int
  | 0 => 0
  | n + 1 => if mc n ≠ 0 ∧ mp n = p then termsOnF mc mp p n + 1 else termsOnF mc mp p n
def termsOfF (mc : Nat → Int) (pl : Int) : Nat → Int
  | 0 => 0
  | n + 1 => if mc n ≠ 0 ∧ ((n % 2 : Nat) : Int) = pl then termsOfF mc pl n + 1 else termsOfF mc pl n
theorem termsOnF_rng (mc mp : Nat → Int) (p : Int) : ∀ n : Nat, 0 ≤ termsOnF mc mp p n ∧ termsOnF mc mp p n ≤ n
  | 0 => by simp [termsOnF]
  | n + 1 => by
    have := termsOnF_rng mc mp p n
    simp only [termsOnF]
    split <;> omega
theorem termsOfF_rng (mc : Nat → Int) (p : Int) : ∀ n : Nat, 0 ≤ termsOfF mc p n ∧ termsOfF mc p n ≤ n
  | 0 => by simp [termsOfF]
  | n + 1 => by
    have := termsOfF_rng mc p n
    simp only [termsOfF]
    split <;> omega
theorem lastT_rng (mc mp : Nat → Int) (p : Int) : ∀ n : Nat, -1 ≤ lastT mc mp p n ∧ lastT mc mp p n < n
  | 0 => by simp [lastT]
  | n + 1 => by
    have := lastT_rng mc mp p n
    simp only [lastT]
    split <;> omega
abbrev lastF (T : CT) (p : Int) : Int := lastT (tC T) (tQ T) p (tN T)
abbrev isBar (T : CT) (p : Int) : Prop := lastF T p ≠ -1 ∧ (tS T 1 = 0 ∨ (tN T : Int) ≤ lastF T p + tS T 1)
def barredF (T : CT) : Nat → Int
  | 0 => 0
  | n + 1 => if isBar T n then barredF T n + 1 else barredF T n
theorem barredF_rng (T : CT) : ∀ n : Nat, 0 ≤ barredF T n ∧ barredF T n ≤ n
  | 0 => by simp [barredF]
  | n + 1 => by
    have := barredF_rng T n
    simp only [barredF]
    split <;> omega
abbrev zeroBut (P : Nat → Int) (p : Nat) : Prop := ∀ j, j < 5 → j ≠ p → P j = 0
def whyLayF (T : CT) (x : Int) (p : Nat) : Int := if tO T = 1 then 1 else if isBar T p then 6 else if tP T p + x < -30 ∨ 30 < tP T p + x then 7 else if tP T p + x = 0 ∧ zeroBut (tP T) p then 8 else 0
abbrev hasClaim (T : CT) : Prop := 0 < tK T (tN T % 2) ∧ tL T (tN T % 2) (tK T (tN T % 2) - 1) 5 = tN T
def stakesF (l : Nat → Nat → Int) : Nat → Int
  | 0 => 0
  | n + 1 => stakesF l n + l n 4
abbrev lapsF (l : Nat → Nat → Int) (a b : Int) (n : Nat) : Prop := ∃ i, i < n ∧ a < l i 1 ∧ l i 0 < b
def whyClaimF (T : CT) (a b s : Int) : Int := if tO T = 1 then 1 else if hasClaim T then 2 else if tK T (tN T % 2) = 4 then 3 else if lapsF (tL T (tN T % 2)) a b (tK T (tN T % 2)) then 4 else if tS T 6 < stakesF (tL T (tN T % 2)) (tK T (tN T % 2)) + s then 5 else 0

theorem stakesF_rng (l : Nat → Nat → Int) (m : Nat) (h : ∀ i, i < m → 1 ≤ l i 4 ∧ l i 4 ≤ 9) : ∀ n : Nat, n ≤ m → 0 ≤ stakesF l n ∧ stakesF l n ≤ 9 * n
  | 0, _ => by simp [stakesF]
  | n + 1, hn => by
    have := stakesF_rng l m h n (by omega)
    have := h n (by omega)
    simp only [stakesF]
    omega

set_option maxRecDepth 100000 in
theorem sp_X0_mover {g : GG} {lay : Lay} {M : Mem} {K : KK} {c : Nat} {T : CT} (hC : CtL lay c) (hT : Ct T M c) (hW : WfT T) (k : K (.inl (some (vI (((tN T % 2 : Nat) : Int))))) lay M) : X g m_X0_mover 0 0 lay M 0 [(0, vR c)] [] K := by
  have hn := hW.n60
  obtain ⟨hS, hP, hN, hm, hK, hL, hO, hB⟩ := id hT
  obtain ⟨wS, wP, wN, wm, wK, wL, wO, wB⟩ := id hW
  refine x_aload_n (pc := 0) dX0_mover_0 rfl rfl ?_
  refine x_geti (pc := 1) fX0_42 dX0_mover_1 hC.1 rfl (fun r1a r1b => ?_)
  refine x_iconst (pc := 4) dX0_mover_4 ?_
  refine x_irem (pc := 5) dX0_mover_5 ⟨by omega, by omega⟩ ⟨by omega, by omega⟩ (by omega) ?_
  refine x_iret (pc := 6) dX0_mover_6 rfl (by decide) (by decide) ?_
  rw [hN, tmod2]
  exact k
set_option maxRecDepth 100000 in
theorem sp_X4_isPlayer {g : GG} {lay : Lay} {M : Mem} {K : KK} {x : Int} (hx : i32 x) (k : K (.inl (some (vI (if x = 0 ∨ x = 1 then 1 else 0)))) lay M) : X g m_X4_isPlayer 0 0 lay M 0 [(0, vI x)] [] K := by
  obtain ⟨hx1, hx2⟩ := hx
  refine x_iload_n (pc := 0) dX4_isPlayer_0 rfl rfl ?_
  refine x_if_eq (pc := 1) (t := 9) dX4_isPlayer_1 (by decide) ⟨by omega, by omega⟩ (fun c1 => ?_) (fun c1 => ?_)
  · refine x_iconst (pc := 9) dX4_isPlayer_9 ?_
    refine x_goto (pc := 10) (t := 14) dX4_isPlayer_10 (by decide) ?_
    refine x_zret (pc := 14) dX4_isPlayer_14 rfl ⟨by omega, by omega⟩ (by decide) (by decide) ?_
    first
    | exact k
    | (rw [if_pos (by omega)] at k; exact k)
    | (rw [if_neg (by omega)] at k; exact k)
  · refine x_iload_n (pc := 4) dX4_isPlayer_4 rfl rfl ?_
    refine x_iconst (pc := 5) dX4_isPlayer_5 ?_
    refine x_icmp_ne (pc := 6) (t := 13) dX4_isPlayer_6 (by decide) ⟨by omega, by omega⟩ ⟨by omega, by omega⟩ (fun c6 => ?_) (fun c6 => ?_)
    · refine x_iconst (pc := 13) dX4_isPlayer_13 ?_
      refine x_zret (pc := 14) dX4_isPlayer_14 rfl ⟨by omega, by omega⟩ (by decide) (by decide) ?_
      first
      | exact k
      | (rw [if_pos (by omega)] at k; exact k)
      | (rw [if_neg (by omega)] at k; exact k)
    · refine x_iconst (pc := 9) dX4_isPlayer_9 ?_
      refine x_goto (pc := 10) (t := 14) dX4_isPlayer_10 (by decide) ?_
      refine x_zret (pc := 14) dX4_isPlayer_14 rfl ⟨by omega, by omega⟩ (by decide) (by decide) ?_
      first
      | exact k
      | (rw [if_pos (by omega)] at k; exact k)
      | (rw [if_neg (by omega)] at k; exact k)
set_option maxRecDepth 100000 in
theorem sp_X0_claimsOf {g : GG} {lay : Lay} {M : Mem} {K : KK} {c : Nat} {T : CT} {pl : Nat} (hC : CtL lay c) (hT : Ct T M c) (hW : WfT T) (hpl : pl < 2) (k : K (.inl (some (vI (tK T pl)))) lay M) : X g m_X0_claimsOf 0 0 lay M 0 [(0, vR c), (1, vI pl)] [] K := by
  have hn := hW.n60
  obtain ⟨hS, hP, hN, hm, hK, hL, hO, hB⟩ := id hT
  obtain ⟨wS, wP, wN, wm, wK, wL, wO, wB⟩ := id hW
  have e0 := hK pl hpl
  have w0 := wK pl
  have hz : 0 ≤ (if (pl : Int) = 0 ∨ (pl : Int) = 1 then (1 : Int) else 0) ∧ (if (pl : Int) = 0 ∨ (pl : Int) = 1 then (1 : Int) else 0) ≤ 1 := b01
  refine x_iload_n (pc := 0) dX0_claimsOf_0 rfl rfl ?_
  refine x_callSN (pc := 1) [_] rfl kX0_103 dX0_claimsOf_1 rfl (by decide) (Nat.le_of_ble_eq_true rfl) (Nat.le_of_ble_eq_true rfl) (by decide) ?_
  refine sp_X4_isPlayer ⟨by omega, by omega⟩ ?_
  refine ⟨_, rfl, ?_⟩
  refine x_if_eq (pc := 4) (t := 16) dX0_claimsOf_4 (by decide) ⟨by omega, by omega⟩ (fun c4 => ?_) (fun c4 => ?_)
  · exact (b0 c4 (by omega)).elim
  · refine x_aload_n (pc := 7) dX0_claimsOf_7 rfl rfl ?_
    refine x_getr (pc := 8) (b := c + 6) fX0_27 dX0_claimsOf_8 hC.1 rfl rfl ?_
    refine x_iload_n (pc := 11) dX0_claimsOf_11 rfl rfl ?_
    refine x_iald (pc := 12) dX0_claimsOf_12 hC.2.2.2.2.2.2 (by omega) (by omega) (fun r12a r12b => ?_)
    refine x_goto (pc := 13) (t := 17) dX0_claimsOf_13 (by decide) ?_
    refine x_iret (pc := 17) dX0_claimsOf_17 rfl (by decide) (by decide) ?_
    rw [Int.toNat_natCast, e0]
    exact k
set_option maxRecDepth 100000 in
theorem sp_X0_hasPower {g : GG} {lay : Lay} {M : Mem} {K : KK} {c : Nat} {T : CT} {p : Int} (hC : CtL lay c) (hT : Ct T M c) (hW : WfT T) (hp : i32 p) (k : K (.inl (some (vI (if 0 ≤ p ∧ p < tS T 0 then 1 else 0)))) lay M) : X g m_X0_hasPower 0 0 lay M 0 [(0, vR c), (1, vI p)] [] K := by
  have hn := hW.n60
  obtain ⟨hS, hP, hN, hm, hK, hL, hO, hB⟩ := id hT
  obtain ⟨wS, wP, wN, wm, wK, wL, wO, wB⟩ := id hW
  obtain ⟨hp1, hp2⟩ := hp
  have e0 := hS 0 (by decide)
  have w0 := wS.1
  refine x_iload_n (pc := 0) dX0_hasPower_0 rfl rfl ?_
  refine x_if_lt (pc := 1) (t := 23) dX0_hasPower_1 (by decide) ⟨by omega, by omega⟩ (fun c1 => ?_) (fun c1 => ?_)
  · refine x_iconst (pc := 23) dX0_hasPower_23 ?_
    refine x_zret (pc := 24) dX0_hasPower_24 rfl ⟨by omega, by omega⟩ (by decide) (by decide) ?_
    first
    | exact k
    | (rw [if_pos (by omega)] at k; exact k)
    | (rw [if_neg (by omega)] at k; exact k)
  · refine x_iload_n (pc := 4) dX0_hasPower_4 rfl rfl ?_
    refine x_aload_n (pc := 5) dX0_hasPower_5 rfl rfl ?_
    refine x_getr (pc := 6) (b := c + 1) fX0_9 dX0_hasPower_6 hC.1 rfl rfl ?_
    refine x_iconst (pc := 9) dX0_hasPower_9 ?_
    refine x_iald (pc := 10) dX0_hasPower_10 hC.2.1 (by omega) (by omega) (fun r10a r10b => ?_)
    rw [show (0 : Int).toNat = 0 from rfl, e0]
    refine x_icmp_ge (pc := 11) (t := 23) dX0_hasPower_11 (by decide) ⟨by omega, by omega⟩ ⟨by omega, by omega⟩ (fun c11 => ?_) (fun c11 => ?_)
    · refine x_iconst (pc := 23) dX0_hasPower_23 ?_
      refine x_zret (pc := 24) dX0_hasPower_24 rfl ⟨by omega, by omega⟩ (by decide) (by decide) ?_
      first
      | exact k
      | (rw [if_pos (by omega)] at k; exact k)
      | (rw [if_neg (by omega)] at k; exact k)
    · refine x_iload_n (pc := 14) dX0_hasPower_14 rfl rfl ?_
      refine x_iconst (pc := 15) dX0_hasPower_15 ?_
      refine x_icmp_ge (pc := 16) (t := 23) dX0_hasPower_16 (by decide) ⟨by omega, by omega⟩ ⟨by omega, by omega⟩ (fun c16 => ?_) (fun c16 => ?_)
      · exfalso; omega
      · refine x_iconst (pc := 19) dX0_hasPower_19 ?_
        refine x_goto (pc := 20) (t := 24) dX0_hasPower_20 (by decide) ?_
        refine x_zret (pc := 24) dX0_hasPower_24 rfl ⟨by omega, by omega⟩ (by decide) (by decide) ?_
        first
        | exact k
        | (rw [if_pos (by omega)] at k; exact k)
        | (rw [if_neg (by omega)] at k; exact k)
set_option maxRecDepth 100000 in
theorem sp_X0_termsOn {g : GG} {lay : Lay} {M : Mem} {K : KK} {c : Nat} {T : CT} {p : Int} (hC : CtL lay c) (hT : Ct T M c) (hW : WfT T) (hp : i32 p) (k : K (.inl (some (vI (termsOnF (tC T) (tQ T) p (tN T))))) lay M) : X g m_X0_termsOn 0 0 lay M 0 [(0, vR c), (1, vI p)] [] K := by
  have hn := hW.n60
  obtain ⟨hS, hP, hN, hm, hK, hL, hO, hB⟩ := id hT
  obtain ⟨wS, wP, wN, wm, wK, wL, wO, wB⟩ := id hW
  obtain ⟨hp1, hp2⟩ := hp
  have loop : ∀ (d j : Nat) (x acc : Int), j + d = tN T → x = j → acc = termsOnF (tC T) (tQ T) p j → acc ≤ 60 → X g m_X0_termsOn 0 0 lay M 4 [(3, vI x), (2, vI acc), (0, vR c), (1, vI p)] [] K := by
    intro d
    induction d with
    | zero =>
      intro j x acc hj hx ha hq
      refine x_iload_n (pc := 4) dX0_termsOn_4 rfl rfl ?_
      refine x_aload_n (pc := 5) dX0_termsOn_5 rfl rfl ?_
      refine x_geti (pc := 6) fX0_42 dX0_termsOn_6 hC.1 rfl (fun r6a r6b => ?_)
      refine x_icmp_ge (pc := 9) (t := 46) dX0_termsOn_9 (by decide) ⟨by omega, by omega⟩ ⟨by omega, by omega⟩ (fun c9 => ?_) (fun c9 => ?_)
      · refine x_iload_n (pc := 46) dX0_termsOn_46 rfl rfl ?_
        refine x_iret (pc := 47) dX0_termsOn_47 rfl (by decide) (by decide) ?_
        have e : j = tN T := by omega
        rw [ha, e]
        exact k
      · exfalso; omega
    | succ d ih =>
      intro j x acc hj hx ha hq
      have ex : x.toNat = j := by omega
      have hr := termsOnF_rng (tC T) (tQ T) p j
      refine x_iload_n (pc := 4) dX0_termsOn_4 rfl rfl ?_
      refine x_aload_n (pc := 5) dX0_termsOn_5 rfl rfl ?_
      refine x_geti (pc := 6) fX0_42 dX0_termsOn_6 hC.1 rfl (fun r6a r6b => ?_)
      refine x_icmp_ge (pc := 9) (t := 46) dX0_termsOn_9 (by decide) ⟨by omega, by omega⟩ ⟨by omega, by omega⟩ (fun c9 => ?_) (fun c9 => ?_)
      · exfalso; omega
      · refine x_iload_n (pc := 12) dX0_termsOn_12 rfl rfl ?_
        refine x_bipush (pc := 13) dX0_termsOn_13 (by decide) ?_
        refine x_icmp_ge (pc := 15) (t := 46) dX0_termsOn_15 (by decide) ⟨by omega, by omega⟩ ⟨by omega, by omega⟩ (fun c15 => ?_) (fun c15 => ?_)
        · exfalso; omega
        · refine x_aload_n (pc := 18) dX0_termsOn_18 rfl rfl ?_
          refine x_getr (pc := 19) (b := c + 3) fX0_18 dX0_termsOn_19 hC.1 rfl rfl ?_
          refine x_iload_n (pc := 22) dX0_termsOn_22 rfl rfl ?_
          refine x_iald (pc := 23) dX0_termsOn_23 hC.2.2.2.1 (by omega) (by omega) (fun r23a r23b => ?_)
          refine x_if_eq (pc := 24) (t := 40) dX0_termsOn_24 (by decide) ⟨by omega, by omega⟩ (fun c24 => ?_) (fun c24 => ?_)
          · refine x_iinc (pc := 40) dX0_termsOn_40 rfl (by decide) (L' := [(3, _), (2, _), (0, _), (1, _)]) rfl ?_
            refine x_goto (pc := 43) (t := 4) dX0_termsOn_43 (by decide) ?_
            refine X.loc [0, 1, 2, 3] (L' := [(3, _), (2, _), (0, _), (1, _)]) rfl ?_
            have e9 := hm j (by omega)
            rw [ex] at *
            refine ih (j + 1) _ _ (by omega) (by omega) ?_ (by omega)
            grind [termsOnF]
          · refine x_aload_n (pc := 27) dX0_termsOn_27 rfl rfl ?_
            refine x_getr (pc := 28) (b := c + 4) fX0_21 dX0_termsOn_28 hC.1 rfl rfl ?_
            refine x_iload_n (pc := 31) dX0_termsOn_31 rfl rfl ?_
            refine x_iald (pc := 32) dX0_termsOn_32 hC.2.2.2.2.1 (by omega) (by omega) (fun r32a r32b => ?_)
            refine x_iload_n (pc := 33) dX0_termsOn_33 rfl rfl ?_
            refine x_icmp_ne (pc := 34) (t := 40) dX0_termsOn_34 (by decide) ⟨by omega, by omega⟩ ⟨by omega, by omega⟩ (fun c34 => ?_) (fun c34 => ?_)
            · refine x_iinc (pc := 40) dX0_termsOn_40 rfl (by decide) (L' := [(3, _), (2, _), (0, _), (1, _)]) rfl ?_
              refine x_goto (pc := 43) (t := 4) dX0_termsOn_43 (by decide) ?_
              refine X.loc [0, 1, 2, 3] (L' := [(3, _), (2, _), (0, _), (1, _)]) rfl ?_
              have e9 := hm j (by omega)
              rw [ex] at *
              refine ih (j + 1) _ _ (by omega) (by omega) ?_ (by omega)
              grind [termsOnF]
            · refine x_iinc (pc := 37) dX0_termsOn_37 rfl (by decide) (L' := [(2, _), (3, _), (0, _), (1, _)]) rfl ?_
              refine x_iinc (pc := 40) dX0_termsOn_40 rfl (by decide) (L' := [(3, _), (2, _), (0, _), (1, _)]) rfl ?_
              refine x_goto (pc := 43) (t := 4) dX0_termsOn_43 (by decide) ?_
              refine X.loc [0, 1, 2, 3] (L' := [(3, _), (2, _), (0, _), (1, _)]) rfl ?_
              have e9 := hm j (by omega)
              rw [ex] at *
              refine ih (j + 1) _ _ (by omega) (by omega) ?_ (by omega)
              grind [termsOnF]
  refine x_iconst (pc := 0) dX0_termsOn_0 ?_
  refine x_istore_n (pc := 1) dX0_termsOn_1 rfl (by decide) (L' := [(2, _), (0, _), (1, _)]) rfl ?_
  refine x_iconst (pc := 2) dX0_termsOn_2 ?_
  refine x_istore_n (pc := 3) dX0_termsOn_3 rfl (by decide) (L' := [(3, _), (2, _), (0, _), (1, _)]) rfl ?_
  refine X.loc [0, 1, 2, 3] (L' := [(3, _), (2, _), (0, _), (1, _)]) rfl ?_
  exact loop (tN T) 0 0 0 (by omega) (by decide) rfl (by omega)
set_option maxRecDepth 100000 in
theorem sp_X0_termsOf {g : GG} {lay : Lay} {M : Mem} {K : KK} {c : Nat} {T : CT} {p : Int} (hC : CtL lay c) (hT : Ct T M c) (hW : WfT T) (hp : i32 p) (k : K (.inl (some (vI (termsOfF (tC T) p (tN T))))) lay M) : X g m_X0_termsOf 0 0 lay M 0 [(0, vR c), (1, vI p)] [] K := by
  have hn := hW.n60
  obtain ⟨hS, hP, hN, hm, hK, hL, hO, hB⟩ := id hT
  obtain ⟨wS, wP, wN, wm, wK, wL, wO, wB⟩ := id hW
  obtain ⟨hp1, hp2⟩ := hp
  have loop : ∀ (d j : Nat) (x acc : Int), j + d = tN T → x = j → acc = termsOfF (tC T) p j → acc ≤ 60 → X g m_X0_termsOf 0 0 lay M 4 [(3, vI x), (2, vI acc), (0, vR c), (1, vI p)] [] K := by
    intro d
    induction d with
    | zero =>
      intro j x acc hj hx ha hq
      refine x_iload_n (pc := 4) dX0_termsOf_4 rfl rfl ?_
      refine x_aload_n (pc := 5) dX0_termsOf_5 rfl rfl ?_
      refine x_geti (pc := 6) fX0_42 dX0_termsOf_6 hC.1 rfl (fun r6a r6b => ?_)
      refine x_icmp_ge (pc := 9) (t := 43) dX0_termsOf_9 (by decide) ⟨by omega, by omega⟩ ⟨by omega, by omega⟩ (fun c9 => ?_) (fun c9 => ?_)
      · refine x_iload_n (pc := 43) dX0_termsOf_43 rfl rfl ?_
        refine x_iret (pc := 44) dX0_termsOf_44 rfl (by decide) (by decide) ?_
        have e : j = tN T := by omega
        rw [ha, e]
        exact k
      · exfalso; omega
    | succ d ih =>
      intro j x acc hj hx ha hq
      have ex : x.toNat = j := by omega
      have hr := termsOfF_rng (tC T) p j
      refine x_iload_n (pc := 4) dX0_termsOf_4 rfl rfl ?_
      refine x_aload_n (pc := 5) dX0_termsOf_5 rfl rfl ?_
      refine x_geti (pc := 6) fX0_42 dX0_termsOf_6 hC.1 rfl (fun r6a r6b => ?_)
      refine x_icmp_ge (pc := 9) (t := 43) dX0_termsOf_9 (by decide) ⟨by omega, by omega⟩ ⟨by omega, by omega⟩ (fun c9 => ?_) (fun c9 => ?_)
      · exfalso; omega
      · refine x_iload_n (pc := 12) dX0_termsOf_12 rfl rfl ?_
        refine x_bipush (pc := 13) dX0_termsOf_13 (by decide) ?_
        refine x_icmp_ge (pc := 15) (t := 43) dX0_termsOf_15 (by decide) ⟨by omega, by omega⟩ ⟨by omega, by omega⟩ (fun c15 => ?_) (fun c15 => ?_)
        · exfalso; omega
        · refine x_aload_n (pc := 18) dX0_termsOf_18 rfl rfl ?_
          refine x_getr (pc := 19) (b := c + 3) fX0_18 dX0_termsOf_19 hC.1 rfl rfl ?_
          refine x_iload_n (pc := 22) dX0_termsOf_22 rfl rfl ?_
          refine x_iald (pc := 23) dX0_termsOf_23 hC.2.2.2.1 (by omega) (by omega) (fun r23a r23b => ?_)
          refine x_if_eq (pc := 24) (t := 37) dX0_termsOf_24 (by decide) ⟨by omega, by omega⟩ (fun c24 => ?_) (fun c24 => ?_)
          · refine x_iinc (pc := 37) dX0_termsOf_37 rfl (by decide) (L' := [(3, _), (2, _), (0, _), (1, _)]) rfl ?_
            refine x_goto (pc := 40) (t := 4) dX0_termsOf_40 (by decide) ?_
            refine X.loc [0, 1, 2, 3] (L' := [(3, _), (2, _), (0, _), (1, _)]) rfl ?_
            have e9 := hm j (by omega)
            rw [ex] at *
            refine ih (j + 1) _ _ (by omega) (by omega) ?_ (by omega)
            grind [termsOfF]
          · refine x_iload_n (pc := 27) dX0_termsOf_27 rfl rfl ?_
            refine x_iconst (pc := 28) dX0_termsOf_28 ?_
            refine x_irem (pc := 29) dX0_termsOf_29 ⟨by omega, by omega⟩ ⟨by omega, by omega⟩ (by omega) ?_
            refine x_iload_n (pc := 30) dX0_termsOf_30 rfl rfl ?_
            rw [show x.tmod 2 = ((j % 2 : Nat) : Int) by rw [hx, tmod2]]
            refine x_icmp_ne (pc := 31) (t := 37) dX0_termsOf_31 (by decide) ⟨by omega, by omega⟩ ⟨by omega, by omega⟩ (fun c31 => ?_) (fun c31 => ?_)
            · refine x_iinc (pc := 37) dX0_termsOf_37 rfl (by decide) (L' := [(3, _), (2, _), (0, _), (1, _)]) rfl ?_
              refine x_goto (pc := 40) (t := 4) dX0_termsOf_40 (by decide) ?_
              refine X.loc [0, 1, 2, 3] (L' := [(3, _), (2, _), (0, _), (1, _)]) rfl ?_
              have e9 := hm j (by omega)
              rw [ex] at *
              refine ih (j + 1) _ _ (by omega) (by omega) ?_ (by omega)
              grind [termsOfF]
            · refine x_iinc (pc := 34) dX0_termsOf_34 rfl (by decide) (L' := [(2, _), (3, _), (0, _), (1, _)]) rfl ?_
              refine x_iinc (pc := 37) dX0_termsOf_37 rfl (by decide) (L' := [(3, _), (2, _), (0, _), (1, _)]) rfl ?_
              refine x_goto (pc := 40) (t := 4) dX0_termsOf_40 (by decide) ?_
              refine X.loc [0, 1, 2, 3] (L' := [(3, _), (2, _), (0, _), (1, _)]) rfl ?_
              have e9 := hm j (by omega)
              rw [ex] at *
              refine ih (j + 1) _ _ (by omega) (by omega) ?_ (by omega)
              grind [termsOfF]
  refine x_iconst (pc := 0) dX0_termsOf_0 ?_
  refine x_istore_n (pc := 1) dX0_termsOf_1 rfl (by decide) (L' := [(2, _), (0, _), (1, _)]) rfl ?_
  refine x_iconst (pc := 2) dX0_termsOf_2 ?_
  refine x_istore_n (pc := 3) dX0_termsOf_3 rfl (by decide) (L' := [(3, _), (2, _), (0, _), (1, _)]) rfl ?_
  refine X.loc [0, 1, 2, 3] (L' := [(3, _), (2, _), (0, _), (1, _)]) rfl ?_
  exact loop (tN T) 0 0 0 (by omega) (by decide) rfl (by omega)
set_option maxRecDepth 100000 in
theorem sp_X0_termsLaid {g : GG} {lay : Lay} {M : Mem} {K : KK} {c : Nat} {T : CT} (hC : CtL lay c) (hT : Ct T M c) (hW : WfT T) (k : K (.inl (some (vI (termsOfF (tC T) 0 (tN T) + termsOfF (tC T) 1 (tN T))))) lay M) : X g m_X0_termsLaid 0 0 lay M 0 [(0, vR c)] [] K := by
  refine x_aload_n (pc := 0) dX0_termsLaid_0 rfl rfl ?_
  refine x_iconst (pc := 1) dX0_termsLaid_1 ?_
  refine x_callV (pc := 2) [_] rfl kX0_59 dX0_termsLaid_2 hC.1 rfl rfl (by decide) (Nat.le_of_ble_eq_true rfl) (Nat.le_of_ble_eq_true rfl) (by decide) ?_
  refine sp_X0_termsOf hC hT hW (by decide) ?_
  refine ⟨_, rfl, ?_⟩
  refine x_aload_n (pc := 5) dX0_termsLaid_5 rfl rfl ?_
  refine x_iconst (pc := 6) dX0_termsLaid_6 ?_
  refine x_callV (pc := 7) [_] rfl kX0_59 dX0_termsLaid_7 hC.1 rfl rfl (by decide) (Nat.le_of_ble_eq_true rfl) (Nat.le_of_ble_eq_true rfl) (by decide) ?_
  refine sp_X0_termsOf hC hT hW (by decide) ?_
  refine ⟨_, rfl, ?_⟩
  refine x_iadd (pc := 10) dX0_termsLaid_10 ?_
  refine x_iret (pc := 11) dX0_termsLaid_11 rfl (by decide) (by decide) ?_
  exact k
set_option maxRecDepth 100000 in
theorem sp_X0_isBarred {g : GG} {lay : Lay} {M : Mem} {K : KK} {c : Nat} {T : CT} {p : Int} (hC : CtL lay c) (hT : Ct T M c) (hW : WfT T) (hp : i32 p) (k : K (.inl (some (vI (if isBar T p then 1 else 0)))) lay M) : X g m_X0_isBarred 0 0 lay M 0 [(0, vR c), (1, vI p)] [] K := by
  have hn := hW.n60
  obtain ⟨hS, hP, hN, hm, hK, hL, hO, hB⟩ := id hT
  obtain ⟨wS, wP, wN, wm, wK, wL, wO, wB⟩ := id hW
  have e0 := hS 1 (by decide)
  have hr := lastT_rng (tC T) (tQ T) p (tN T)
  have w1 := wS.2.1
  refine x_aload_n (pc := 0) dX0_isBarred_0 rfl rfl ?_
  refine x_iload_n (pc := 1) dX0_isBarred_1 rfl rfl ?_
  refine x_callV (pc := 2) [_] rfl kX0_63 dX0_isBarred_2 hC.1 rfl rfl (by decide) (Nat.le_of_ble_eq_true rfl) (Nat.le_of_ble_eq_true rfl) (by decide) ?_
  refine sp_X0_lastTurnOn hC hT hW hp ?_
  refine ⟨_, rfl, ?_⟩
  refine x_istore_n (pc := 5) dX0_isBarred_5 rfl (by decide) (L' := [(2, _), (0, _), (1, _)]) rfl ?_
  refine x_iload_n (pc := 6) dX0_isBarred_6 rfl rfl ?_
  refine x_iconst (pc := 7) dX0_isBarred_7 ?_
  refine x_icmp_eq (pc := 8) (t := 39) dX0_isBarred_8 (by decide) ⟨by omega, by omega⟩ ⟨by omega, by omega⟩ (fun c8 => ?_) (fun c8 => ?_)
  · refine x_iconst (pc := 39) dX0_isBarred_39 ?_
    refine x_zret (pc := 40) dX0_isBarred_40 rfl ⟨by omega, by omega⟩ (by decide) (by decide) ?_
    refine kI k ?_
    clear hS hP hm hK hL wS wP wm wK wL hT hW hC k
    grind
  · refine x_aload_n (pc := 11) dX0_isBarred_11 rfl rfl ?_
    refine x_getr (pc := 12) (b := c + 1) fX0_9 dX0_isBarred_12 hC.1 rfl rfl ?_
    refine x_iconst (pc := 15) dX0_isBarred_15 ?_
    refine x_iald (pc := 16) dX0_isBarred_16 hC.2.1 (by omega) (by omega) (fun r16a r16b => ?_)
    rw [show (1 : Int).toNat = 1 from rfl, e0]
    refine x_if_eq (pc := 17) (t := 35) dX0_isBarred_17 (by decide) ⟨by omega, by omega⟩ (fun c17 => ?_) (fun c17 => ?_)
    · refine x_iconst (pc := 35) dX0_isBarred_35 ?_
      refine x_goto (pc := 36) (t := 40) dX0_isBarred_36 (by decide) ?_
      refine x_zret (pc := 40) dX0_isBarred_40 rfl ⟨by omega, by omega⟩ (by decide) (by decide) ?_
      refine kI k ?_
      clear hS hP hm hK hL wS wP wm wK wL hT hW hC k
      grind
    · refine x_aload_n (pc := 20) dX0_isBarred_20 rfl rfl ?_
      refine x_geti (pc := 21) fX0_42 dX0_isBarred_21 hC.1 rfl (fun r21a r21b => ?_)
      refine x_iload_n (pc := 24) dX0_isBarred_24 rfl rfl ?_
      refine x_aload_n (pc := 25) dX0_isBarred_25 rfl rfl ?_
      refine x_getr (pc := 26) (b := c + 1) fX0_9 dX0_isBarred_26 hC.1 rfl rfl ?_
      refine x_iconst (pc := 29) dX0_isBarred_29 ?_
      refine x_iald (pc := 30) dX0_isBarred_30 hC.2.1 (by omega) (by omega) (fun r30a r30b => ?_)
      rw [show (1 : Int).toNat = 1 from rfl, e0]
      refine x_iadd (pc := 31) dX0_isBarred_31 ?_
      refine x_icmp_gt (pc := 32) (t := 39) dX0_isBarred_32 (by decide) ⟨by omega, by omega⟩ ⟨by omega, by omega⟩ (fun c32 => ?_) (fun c32 => ?_)
      · refine x_iconst (pc := 39) dX0_isBarred_39 ?_
        refine x_zret (pc := 40) dX0_isBarred_40 rfl ⟨by omega, by omega⟩ (by decide) (by decide) ?_
        refine kI k ?_
        clear hS hP hm hK hL wS wP wm wK wL hT hW hC k
        grind
      · refine x_iconst (pc := 35) dX0_isBarred_35 ?_
        refine x_goto (pc := 36) (t := 40) dX0_isBarred_36 (by decide) ?_
        refine x_zret (pc := 40) dX0_isBarred_40 rfl ⟨by omega, by omega⟩ (by decide) (by decide) ?_
        refine kI k ?_
        clear hS hP hm hK hL wS wP wm wK wL hT hW hC k
        grind
set_option maxRecDepth 100000 in
theorem sp_X0_barredPowers {g : GG} {lay : Lay} {M : Mem} {K : KK} {c : Nat} {T : CT} (hC : CtL lay c) (hT : Ct T M c) (hW : WfT T) (k : K (.inl (some (vI (barredF T (tS T 0).toNat)))) lay M) : X g m_X0_barredPowers 0 0 lay M 0 [(0, vR c)] [] K := by
  have hn := hW.n60
  obtain ⟨hS, hP, hN, hm, hK, hL, hO, hB⟩ := id hT
  obtain ⟨wS, wP, wN, wm, wK, wL, wO, wB⟩ := id hW
  have e0 := hS 0 (by decide)
  have w0 := wS.1
  have loop : ∀ (d j : Nat) (x acc : Int), j + d = (tS T 0).toNat → x = j → acc = barredF T j → X g m_X0_barredPowers 0 0 lay M 4 [(2, vI x), (1, vI acc), (0, vR c)] [] K := by
    intro d
    induction d with
    | zero =>
      intro j x acc hj hx ha
      refine x_iload_n (pc := 4) dX0_barredPowers_4 rfl rfl ?_
      refine x_aload_n (pc := 5) dX0_barredPowers_5 rfl rfl ?_
      refine x_getr (pc := 6) (b := c + 1) fX0_9 dX0_barredPowers_6 hC.1 rfl rfl ?_
      refine x_iconst (pc := 9) dX0_barredPowers_9 ?_
      refine x_iald (pc := 10) dX0_barredPowers_10 hC.2.1 (by omega) (by omega) (fun r10a r10b => ?_)
      rw [show (0 : Int).toNat = 0 from rfl, e0]
      refine x_icmp_ge (pc := 11) (t := 31) dX0_barredPowers_11 (by decide) ⟨by omega, by omega⟩ ⟨by omega, by omega⟩ (fun c11 => ?_) (fun c11 => ?_)
      · refine x_iload_n (pc := 31) dX0_barredPowers_31 rfl rfl ?_
        refine x_iret (pc := 32) dX0_barredPowers_32 rfl (by decide) (by decide) ?_
        refine kI k ?_
        rw [ha, show j = (tS T 0).toNat by omega]
      · exfalso; omega
    | succ d ih =>
      intro j x acc hj hx ha
      have hr := barredF_rng T j
      subst hx
      refine x_iload_n (pc := 4) dX0_barredPowers_4 rfl rfl ?_
      refine x_aload_n (pc := 5) dX0_barredPowers_5 rfl rfl ?_
      refine x_getr (pc := 6) (b := c + 1) fX0_9 dX0_barredPowers_6 hC.1 rfl rfl ?_
      refine x_iconst (pc := 9) dX0_barredPowers_9 ?_
      refine x_iald (pc := 10) dX0_barredPowers_10 hC.2.1 (by omega) (by omega) (fun r10a r10b => ?_)
      rw [show (0 : Int).toNat = 0 from rfl, e0]
      refine x_icmp_ge (pc := 11) (t := 31) dX0_barredPowers_11 (by decide) ⟨by omega, by omega⟩ ⟨by omega, by omega⟩ (fun c11 => ?_) (fun c11 => ?_)
      · exfalso; omega
      · refine x_aload_n (pc := 14) dX0_barredPowers_14 rfl rfl ?_
        refine x_iload_n (pc := 15) dX0_barredPowers_15 rfl rfl ?_
        refine x_callV (pc := 16) [_] rfl kX0_66 dX0_barredPowers_16 hC.1 rfl rfl (by decide) (Nat.le_of_ble_eq_true rfl) (Nat.le_of_ble_eq_true rfl) (by decide) ?_
        refine sp_X0_isBarred hC hT hW ⟨by omega, by omega⟩ ?_
        refine ⟨_, rfl, ?_⟩
        have hz : 0 ≤ (if isBar T j then (1 : Int) else 0) ∧ (if isBar T j then (1 : Int) else 0) ≤ 1 := by split <;> decide
        refine x_if_eq (pc := 19) (t := 25) dX0_barredPowers_19 (by decide) ⟨by omega, by omega⟩ (fun c19 => ?_) (fun c19 => ?_)
        · refine x_iinc (pc := 25) dX0_barredPowers_25 rfl (by decide) (L' := [(2, _), (1, _), (0, _)]) rfl ?_
          refine x_goto (pc := 28) (t := 4) dX0_barredPowers_28 (by decide) ?_
          refine X.loc [0, 1, 2] (L' := [(2, _), (1, _), (0, _)]) rfl ?_
          refine ih (j + 1) _ _ (by omega) (by omega) ?_
          grind [barredF]
        · refine x_iinc (pc := 22) dX0_barredPowers_22 rfl (by decide) (L' := [(1, _), (2, _), (0, _)]) rfl ?_
          refine x_iinc (pc := 25) dX0_barredPowers_25 rfl (by decide) (L' := [(2, _), (1, _), (0, _)]) rfl ?_
          refine x_goto (pc := 28) (t := 4) dX0_barredPowers_28 (by decide) ?_
          refine X.loc [0, 1, 2] (L' := [(2, _), (1, _), (0, _)]) rfl ?_
          refine ih (j + 1) _ _ (by omega) (by omega) ?_
          grind [barredF]
  refine x_iconst (pc := 0) dX0_barredPowers_0 ?_
  refine x_istore_n (pc := 1) dX0_barredPowers_1 rfl (by decide) (L' := [(1, _), (0, _)]) rfl ?_
  refine x_iconst (pc := 2) dX0_barredPowers_2 ?_
  refine x_istore_n (pc := 3) dX0_barredPowers_3 rfl (by decide) (L' := [(2, _), (1, _), (0, _)]) rfl ?_
  refine X.loc [0, 1, 2] (L' := [(2, _), (1, _), (0, _)]) rfl ?_
  exact loop (tS T 0).toNat 0 0 0 (by omega) rfl rfl
set_option maxRecDepth 100000 in
theorem sp_X0_coefficientOf {g : GG} {lay : Lay} {M : Mem} {K : KK} {c : Nat} {T : CT} {p : Nat} (hC : CtL lay c) (hT : Ct T M c) (hW : WfT T) (hp : p < 5) (k : K (.inl (some (vI (tP T p)))) lay M) : X g m_X0_coefficientOf 0 0 lay M 0 [(0, vR c), (1, vI p)] [] K := by
  have hn := hW.n60
  obtain ⟨hS, hP, hN, hm, hK, hL, hO, hB⟩ := id hT
  obtain ⟨wS, wP, wN, wm, wK, wL, wO, wB⟩ := id hW
  have e0 := hP p hp
  refine x_iload_n (pc := 0) dX0_coefficientOf_0 rfl rfl ?_
  refine x_if_lt (pc := 1) (t := 18) dX0_coefficientOf_1 (by decide) ⟨by omega, by omega⟩ (fun c1 => ?_) (fun c1 => ?_)
  · exfalso; omega
  · refine x_iload_n (pc := 4) dX0_coefficientOf_4 rfl rfl ?_
    refine x_iconst (pc := 5) dX0_coefficientOf_5 ?_
    refine x_icmp_ge (pc := 6) (t := 18) dX0_coefficientOf_6 (by decide) ⟨by omega, by omega⟩ ⟨by omega, by omega⟩ (fun c6 => ?_) (fun c6 => ?_)
    · exfalso; omega
    · refine x_aload_n (pc := 9) dX0_coefficientOf_9 rfl rfl ?_
      refine x_getr (pc := 10) (b := c + 2) fX0_15 dX0_coefficientOf_10 hC.1 rfl rfl ?_
      refine x_iload_n (pc := 13) dX0_coefficientOf_13 rfl rfl ?_
      refine x_iald (pc := 14) dX0_coefficientOf_14 hC.2.2.1 (by omega) (by omega) (fun r14a r14b => ?_)
      refine x_goto (pc := 15) (t := 19) dX0_coefficientOf_15 (by decide) ?_
      refine x_iret (pc := 19) dX0_coefficientOf_19 rfl (by decide) (by decide) ?_
      rw [Int.toNat_natCast, e0]
      exact k
set_option maxRecDepth 100000 in
theorem sp_X0_isZeroBut {g : GG} {lay : Lay} {M : Mem} {K : KK} {c : Nat} {T : CT} {p : Nat} (hC : CtL lay c) (hT : Ct T M c) (hW : WfT T) (hp : p < 5) (k : K (.inl (some (vI (if zeroBut (tP T) p then 1 else 0)))) lay M) : X g m_X0_isZeroBut 0 0 lay M 0 [(0, vR c), (1, vI p)] [] K := by
  have hn := hW.n60
  obtain ⟨hS, hP, hN, hm, hK, hL, hO, hB⟩ := id hT
  obtain ⟨wS, wP, wN, wm, wK, wL, wO, wB⟩ := id hW
  have loop : ∀ (d j : Nat) (x : Int), j + d = 5 → x = j → (∀ i, i < j → i ≠ p → tP T i = 0) → X g m_X0_isZeroBut 0 0 lay M 2 [(2, vI x), (0, vR c), (1, vI p)] [] K := by
    intro d
    induction d with
    | zero =>
      intro j x hj hx ha
      refine x_iload_n (pc := 2) dX0_isZeroBut_2 rfl rfl ?_
      refine x_iconst (pc := 3) dX0_isZeroBut_3 ?_
      refine x_icmp_ge (pc := 4) (t := 29) dX0_isZeroBut_4 (by decide) ⟨by omega, by omega⟩ ⟨by omega, by omega⟩ (fun c4 => ?_) (fun c4 => ?_)
      · refine x_iconst (pc := 29) dX0_isZeroBut_29 ?_
        refine x_zret (pc := 30) dX0_isZeroBut_30 rfl ⟨by omega, by omega⟩ (by decide) (by decide) ?_
        rw [if_pos (fun i hi => ha i (by omega))] at k
        exact k
      · exfalso; omega
    | succ d ih =>
      intro j x hj hx ha
      have ex : x.toNat = j := by omega
      have e0 := hP j (by omega)
      refine x_iload_n (pc := 2) dX0_isZeroBut_2 rfl rfl ?_
      refine x_iconst (pc := 3) dX0_isZeroBut_3 ?_
      refine x_icmp_ge (pc := 4) (t := 29) dX0_isZeroBut_4 (by decide) ⟨by omega, by omega⟩ ⟨by omega, by omega⟩ (fun c4 => ?_) (fun c4 => ?_)
      · exfalso; omega
      · refine x_iload_n (pc := 7) dX0_isZeroBut_7 rfl rfl ?_
        refine x_iload_n (pc := 8) dX0_isZeroBut_8 rfl rfl ?_
        refine x_icmp_eq (pc := 9) (t := 23) dX0_isZeroBut_9 (by decide) ⟨by omega, by omega⟩ ⟨by omega, by omega⟩ (fun c9 => ?_) (fun c9 => ?_)
        · refine x_iinc (pc := 23) dX0_isZeroBut_23 rfl (by decide) (L' := [(2, _), (0, _), (1, _)]) rfl ?_
          refine x_goto (pc := 26) (t := 2) dX0_isZeroBut_26 (by decide) ?_
          refine X.loc [0, 1, 2] (L' := [(2, _), (0, _), (1, _)]) rfl ?_
          refine ih (j + 1) _ (by omega) (by omega) (fun i hi hn => ?_)
          by_cases e : i = j
          · subst e
            first
            | (exfalso; omega)
            | (rw [ex, e0] at c18; exact c18)
          · exact ha i (by omega) hn
        · refine x_aload_n (pc := 12) dX0_isZeroBut_12 rfl rfl ?_
          refine x_getr (pc := 13) (b := c + 2) fX0_15 dX0_isZeroBut_13 hC.1 rfl rfl ?_
          refine x_iload_n (pc := 16) dX0_isZeroBut_16 rfl rfl ?_
          refine x_iald (pc := 17) dX0_isZeroBut_17 hC.2.2.1 (by omega) (by omega) (fun r17a r17b => ?_)
          refine x_if_eq (pc := 18) (t := 23) dX0_isZeroBut_18 (by decide) ⟨by omega, by omega⟩ (fun c18 => ?_) (fun c18 => ?_)
          · refine x_iinc (pc := 23) dX0_isZeroBut_23 rfl (by decide) (L' := [(2, _), (0, _), (1, _)]) rfl ?_
            refine x_goto (pc := 26) (t := 2) dX0_isZeroBut_26 (by decide) ?_
            refine X.loc [0, 1, 2] (L' := [(2, _), (0, _), (1, _)]) rfl ?_
            refine ih (j + 1) _ (by omega) (by omega) (fun i hi hn => ?_)
            by_cases e : i = j
            · subst e
              first
              | (exfalso; omega)
              | (rw [ex, e0] at c18; exact c18)
            · exact ha i (by omega) hn
          · refine x_iconst (pc := 21) dX0_isZeroBut_21 ?_
            refine x_zret (pc := 22) dX0_isZeroBut_22 rfl ⟨by omega, by omega⟩ (by decide) (by decide) ?_
            rw [ex, e0] at c18
            rw [if_neg (fun q => c18 (q j (by omega) (by omega)))] at k
            exact k
  refine x_iconst (pc := 0) dX0_isZeroBut_0 ?_
  refine x_istore_n (pc := 1) dX0_isZeroBut_1 rfl (by decide) (L' := [(2, _), (0, _), (1, _)]) rfl ?_
  refine X.loc [0, 1, 2] (L' := [(2, _), (0, _), (1, _)]) rfl ?_
  exact loop 5 0 0 (by omega) rfl (fun i hi => by omega)
set_option maxRecDepth 100000 in
theorem sp_X0_refusalOfTerm {g : GG} {lay : Lay} {M : Mem} {K : KK} {c : Nat} {T : CT} {x : Int} {p : Nat} (hC : CtL lay c) (hT : Ct T M c) (hW : WfT T) (hp : p < 5) (hx : -9 ≤ x ∧ x ≤ 9) (k : K (.inl (some (vI (whyLayF T x p)))) lay M) : X g m_X0_refusalOfTerm 0 0 lay M 0 [(0, vR c), (1, vI x), (2, vI p)] [] K := by
  have hn := hW.n60
  obtain ⟨hS, hP, hN, hm, hK, hL, hO, hB⟩ := id hT
  obtain ⟨wS, wP, wN, wm, wK, wL, wO, wB⟩ := id hW
  have wp := wP p
  refine x_aload_n (pc := 0) dX0_refusalOfTerm_0 rfl rfl ?_
  refine x_getz (pc := 1) fX0_46 dX0_refusalOfTerm_1 hC.1 rfl (fun r1a r1b => ?_)
  refine x_if_eq (pc := 4) (t := 9) dX0_refusalOfTerm_4 (by decide) ⟨by omega, by omega⟩ (fun c4 => ?_) (fun c4 => ?_)
  · refine x_aload_n (pc := 9) dX0_refusalOfTerm_9 rfl rfl ?_
    refine x_iload_n (pc := 10) dX0_refusalOfTerm_10 rfl rfl ?_
    refine x_callV (pc := 11) [_] rfl kX0_66 dX0_refusalOfTerm_11 hC.1 rfl rfl (by decide) (Nat.le_of_ble_eq_true rfl) (Nat.le_of_ble_eq_true rfl) (by decide) ?_
    refine sp_X0_isBarred hC hT hW ⟨by omega, by omega⟩ ?_
    refine ⟨_, rfl, ?_⟩
    have hz : 0 ≤ (if isBar T p then (1 : Int) else 0) ∧ (if isBar T p then (1 : Int) else 0) ≤ 1 := by split <;> decide
    refine x_if_eq (pc := 14) (t := 20) dX0_refusalOfTerm_14 (by decide) ⟨by omega, by omega⟩ (fun c14 => ?_) (fun c14 => ?_)
    · refine x_aload_n (pc := 20) dX0_refusalOfTerm_20 rfl rfl ?_
      refine x_iload_n (pc := 21) dX0_refusalOfTerm_21 rfl rfl ?_
      refine x_callV (pc := 22) [_] rfl kX0_70 dX0_refusalOfTerm_22 hC.1 rfl rfl (by decide) (Nat.le_of_ble_eq_true rfl) (Nat.le_of_ble_eq_true rfl) (by decide) ?_
      refine sp_X0_coefficientOf hC hT hW hp ?_
      refine ⟨_, rfl, ?_⟩
      refine x_iload_n (pc := 25) dX0_refusalOfTerm_25 rfl rfl ?_
      refine x_iadd (pc := 26) dX0_refusalOfTerm_26 ?_
      refine x_istore_n (pc := 27) dX0_refusalOfTerm_27 rfl (by decide) (L' := [(3, _), (0, _), (1, _), (2, _)]) rfl ?_
      refine x_iload_n (pc := 28) dX0_refusalOfTerm_28 rfl rfl ?_
      refine x_bipush (pc := 29) dX0_refusalOfTerm_29 (by decide) ?_
      refine x_icmp_lt (pc := 31) (t := 40) dX0_refusalOfTerm_31 (by decide) ⟨by omega, by omega⟩ ⟨by omega, by omega⟩ (fun c31 => ?_) (fun c31 => ?_)
      · refine x_bipush (pc := 40) dX0_refusalOfTerm_40 (by decide) ?_
        refine x_iret (pc := 42) dX0_refusalOfTerm_42 rfl (by decide) (by decide) ?_
        refine kI k ?_
        clear hS hP hm hK hL wS wP wm wK wL hT hW hC k
        simp only [whyLayF]
        grind
      · refine x_iload_n (pc := 34) dX0_refusalOfTerm_34 rfl rfl ?_
        refine x_bipush (pc := 35) dX0_refusalOfTerm_35 (by decide) ?_
        refine x_icmp_le (pc := 37) (t := 43) dX0_refusalOfTerm_37 (by decide) ⟨by omega, by omega⟩ ⟨by omega, by omega⟩ (fun c37 => ?_) (fun c37 => ?_)
        · refine x_iload_n (pc := 43) dX0_refusalOfTerm_43 rfl rfl ?_
          refine x_if_ne (pc := 44) (t := 60) dX0_refusalOfTerm_44 (by decide) ⟨by omega, by omega⟩ (fun c44 => ?_) (fun c44 => ?_)
          · refine x_iconst (pc := 60) dX0_refusalOfTerm_60 ?_
            refine x_iret (pc := 61) dX0_refusalOfTerm_61 rfl (by decide) (by decide) ?_
            refine kI k ?_
            clear hS hP hm hK hL wS wP wm wK wL hT hW hC k
            simp only [whyLayF]
            grind
          · refine x_aload_n (pc := 47) dX0_refusalOfTerm_47 rfl rfl ?_
            refine x_iload_n (pc := 48) dX0_refusalOfTerm_48 rfl rfl ?_
            refine x_callV (pc := 49) [_] rfl kX0_73 dX0_refusalOfTerm_49 hC.1 rfl rfl (by decide) (Nat.le_of_ble_eq_true rfl) (Nat.le_of_ble_eq_true rfl) (by decide) ?_
            refine sp_X0_isZeroBut hC hT hW hp ?_
            refine ⟨_, rfl, ?_⟩
            have hz2 : 0 ≤ (if zeroBut (tP T) p then (1 : Int) else 0) ∧ (if zeroBut (tP T) p then (1 : Int) else 0) ≤ 1 := by split <;> decide
            refine x_if_eq (pc := 52) (t := 60) dX0_refusalOfTerm_52 (by decide) ⟨by omega, by omega⟩ (fun c52 => ?_) (fun c52 => ?_)
            · refine x_iconst (pc := 60) dX0_refusalOfTerm_60 ?_
              refine x_iret (pc := 61) dX0_refusalOfTerm_61 rfl (by decide) (by decide) ?_
              refine kI k ?_
              clear hS hP hm hK hL wS wP wm wK wL hT hW hC k
              simp only [whyLayF]
              grind
            · refine x_bipush (pc := 55) dX0_refusalOfTerm_55 (by decide) ?_
              refine x_goto (pc := 57) (t := 61) dX0_refusalOfTerm_57 (by decide) ?_
              refine x_iret (pc := 61) dX0_refusalOfTerm_61 rfl (by decide) (by decide) ?_
              refine kI k ?_
              clear hS hP hm hK hL wS wP wm wK wL hT hW hC k
              simp only [whyLayF]
              grind
        · refine x_bipush (pc := 40) dX0_refusalOfTerm_40 (by decide) ?_
          refine x_iret (pc := 42) dX0_refusalOfTerm_42 rfl (by decide) (by decide) ?_
          refine kI k ?_
          clear hS hP hm hK hL wS wP wm wK wL hT hW hC k
          simp only [whyLayF]
          grind
    · refine x_bipush (pc := 17) dX0_refusalOfTerm_17 (by decide) ?_
      refine x_iret (pc := 19) dX0_refusalOfTerm_19 rfl (by decide) (by decide) ?_
      refine kI k ?_
      clear hS hP hm hK hL wS wP wm wK wL hT hW hC k
      simp only [whyLayF]
      grind
  · refine x_iconst (pc := 7) dX0_refusalOfTerm_7 ?_
    refine x_iret (pc := 8) dX0_refusalOfTerm_8 rfl (by decide) (by decide) ?_
    refine kI k ?_
    clear hS hP hm hK hL wS wP wm wK wL hT hW hC k
    simp only [whyLayF]
    grind
set_option maxRecDepth 100000 in
theorem sp_X0_endsWithTwoPasses {g : GG} {lay : Lay} {M : Mem} {K : KK} {c : Nat} {T : CT} (hC : CtL lay c) (hT : Ct T M c) (hW : WfT T) (k : K (.inl (some (vI (if 2 ≤ tN T ∧ tC T (tN T - 1) = 0 ∧ tC T (tN T - 2) = 0 then 1 else 0)))) lay M) : X g m_X0_endsWithTwoPasses 0 0 lay M 0 [(0, vR c)] [] K := by
  have hn := hW.n60
  obtain ⟨hS, hP, hN, hm, hK, hL, hO, hB⟩ := id hT
  obtain ⟨wS, wP, wN, wm, wK, wL, wO, wB⟩ := id hW
  refine x_aload_n (pc := 0) dX0_endsWithTwoPasses_0 rfl rfl ?_
  refine x_geti (pc := 1) fX0_42 dX0_endsWithTwoPasses_1 hC.1 rfl (fun r1a r1b => ?_)
  refine x_iconst (pc := 4) dX0_endsWithTwoPasses_4 ?_
  refine x_icmp_lt (pc := 5) (t := 49) dX0_endsWithTwoPasses_5 (by decide) ⟨by omega, by omega⟩ ⟨by omega, by omega⟩ (fun c5 => ?_) (fun c5 => ?_)
  · refine x_iconst (pc := 49) dX0_endsWithTwoPasses_49 ?_
    refine x_zret (pc := 50) dX0_endsWithTwoPasses_50 rfl ⟨by omega, by omega⟩ (by decide) (by decide) ?_
    refine kI k ?_
    clear hS hP hm hK hL wS wP wm wK wL hT hW hC k
    grind
  · refine x_aload_n (pc := 8) dX0_endsWithTwoPasses_8 rfl rfl ?_
    refine x_geti (pc := 9) fX0_42 dX0_endsWithTwoPasses_9 hC.1 rfl (fun r9a r9b => ?_)
    refine x_bipush (pc := 12) dX0_endsWithTwoPasses_12 (by decide) ?_
    refine x_icmp_gt (pc := 14) (t := 49) dX0_endsWithTwoPasses_14 (by decide) ⟨by omega, by omega⟩ ⟨by omega, by omega⟩ (fun c14 => ?_) (fun c14 => ?_)
    · exfalso; omega
    · refine x_aload_n (pc := 17) dX0_endsWithTwoPasses_17 rfl rfl ?_
      refine x_getr (pc := 18) (b := c + 3) fX0_18 dX0_endsWithTwoPasses_18 hC.1 rfl rfl ?_
      refine x_aload_n (pc := 21) dX0_endsWithTwoPasses_21 rfl rfl ?_
      refine x_geti (pc := 22) fX0_42 dX0_endsWithTwoPasses_22 hC.1 rfl (fun r22a r22b => ?_)
      refine x_iconst (pc := 25) dX0_endsWithTwoPasses_25 ?_
      refine x_isub (pc := 26) dX0_endsWithTwoPasses_26 ?_
      refine x_iald (pc := 27) dX0_endsWithTwoPasses_27 hC.2.2.2.1 (by omega) (by omega) (fun r27a r27b => ?_)
      have z1 : (M c 6 - 1).toNat = tN T - 1 := by omega
      rw [z1, (hm (tN T - 1) (by omega)).1] at r27a r27b ⊢
      refine x_if_ne (pc := 28) (t := 49) dX0_endsWithTwoPasses_28 (by decide) ⟨by omega, by omega⟩ (fun c28 => ?_) (fun c28 => ?_)
      · refine x_iconst (pc := 49) dX0_endsWithTwoPasses_49 ?_
        refine x_zret (pc := 50) dX0_endsWithTwoPasses_50 rfl ⟨by omega, by omega⟩ (by decide) (by decide) ?_
        refine kI k ?_
        clear hS hP hm hK hL wS wP wm wK wL hT hW hC k
        grind
      · refine x_aload_n (pc := 31) dX0_endsWithTwoPasses_31 rfl rfl ?_
        refine x_getr (pc := 32) (b := c + 3) fX0_18 dX0_endsWithTwoPasses_32 hC.1 rfl rfl ?_
        refine x_aload_n (pc := 35) dX0_endsWithTwoPasses_35 rfl rfl ?_
        refine x_geti (pc := 36) fX0_42 dX0_endsWithTwoPasses_36 hC.1 rfl (fun r36a r36b => ?_)
        refine x_iconst (pc := 39) dX0_endsWithTwoPasses_39 ?_
        refine x_isub (pc := 40) dX0_endsWithTwoPasses_40 ?_
        refine x_iald (pc := 41) dX0_endsWithTwoPasses_41 hC.2.2.2.1 (by omega) (by omega) (fun r41a r41b => ?_)
        have z2 : (M c 6 - 2).toNat = tN T - 2 := by omega
        rw [z2, (hm (tN T - 2) (by omega)).1] at r41a r41b ⊢
        refine x_if_ne (pc := 42) (t := 49) dX0_endsWithTwoPasses_42 (by decide) ⟨by omega, by omega⟩ (fun c42 => ?_) (fun c42 => ?_)
        · refine x_iconst (pc := 49) dX0_endsWithTwoPasses_49 ?_
          refine x_zret (pc := 50) dX0_endsWithTwoPasses_50 rfl ⟨by omega, by omega⟩ (by decide) (by decide) ?_
          refine kI k ?_
          clear hS hP hm hK hL wS wP wm wK wL hT hW hC k
          grind
        · refine x_iconst (pc := 45) dX0_endsWithTwoPasses_45 ?_
          refine x_goto (pc := 46) (t := 50) dX0_endsWithTwoPasses_46 (by decide) ?_
          refine x_zret (pc := 50) dX0_endsWithTwoPasses_50 rfl ⟨by omega, by omega⟩ (by decide) (by decide) ?_
          refine kI k ?_
          clear hS hP hm hK hL wS wP wm wK wL hT hW hC k
          grind
set_option maxRecDepth 100000 in
theorem sp_X0_claimField {g : GG} {lay : Lay} {M : Mem} {K : KK} {c : Nat} {T : CT} {pl i f : Nat} (hC : CtL lay c) (hT : Ct T M c) (hW : WfT T) (hpl : pl < 2) (hi : i < tK T pl) (hf : f < 6) (k : K (.inl (some (vI (tL T pl i f)))) lay M) : X g m_X0_claimField 0 0 lay M 0 [(0, vR c), (1, vI pl), (2, vI i), (3, vI f)] [] K := by
  have hn := hW.n60
  obtain ⟨hS, hP, hN, hm, hK, hL, hO, hB⟩ := id hT
  obtain ⟨wS, wP, wN, wm, wK, wL, wO, wB⟩ := id hW
  have wk := wK pl
  have e0 := hL pl i f hpl hi hf
  refine x_iload_n (pc := 0) dX0_claimField_0 rfl rfl ?_
  refine x_iconst (pc := 1) dX0_claimField_1 ?_
  refine x_imul (pc := 2) dX0_claimField_2 ?_
  refine x_iload_n (pc := 3) dX0_claimField_3 rfl rfl ?_
  refine x_iadd (pc := 4) dX0_claimField_4 ?_
  refine x_bipush (pc := 5) dX0_claimField_5 (by decide) ?_
  refine x_imul (pc := 7) dX0_claimField_7 ?_
  refine x_iload_n (pc := 8) dX0_claimField_8 rfl rfl ?_
  refine x_iadd (pc := 9) dX0_claimField_9 ?_
  refine x_istore (pc := 10) dX0_claimField_10 trivial (by decide) (L' := [(4, _), (0, _), (1, _), (2, _), (3, _)]) rfl ?_
  refine x_iload (pc := 12) dX0_claimField_12 rfl ?_
  refine x_if_lt (pc := 14) (t := 37) dX0_claimField_14 (by decide) ⟨by omega, by omega⟩ (fun c14 => ?_) (fun c14 => ?_)
  · exfalso; omega
  · refine x_iload (pc := 17) dX0_claimField_17 rfl ?_
    refine x_aload_n (pc := 19) dX0_claimField_19 rfl rfl ?_
    refine x_getr (pc := 20) (b := c + 5) fX0_24 dX0_claimField_20 hC.1 rfl rfl ?_
    refine x_alen (pc := 23) dX0_claimField_23 hC.2.2.2.2.2.1 (fun r23a => ?_)
    refine x_icmp_ge (pc := 24) (t := 37) dX0_claimField_24 (by decide) ⟨by omega, by omega⟩ ⟨by omega, by omega⟩ (fun c24 => ?_) (fun c24 => ?_)
    · exfalso; omega
    · refine x_aload_n (pc := 27) dX0_claimField_27 rfl rfl ?_
      refine x_getr (pc := 28) (b := c + 5) fX0_24 dX0_claimField_28 hC.1 rfl rfl ?_
      refine x_iload (pc := 31) dX0_claimField_31 rfl ?_
      refine x_iald (pc := 33) dX0_claimField_33 hC.2.2.2.2.2.1 (by omega) (by omega) (fun r33a r33b => ?_)
      refine x_goto (pc := 34) (t := 38) dX0_claimField_34 (by decide) ?_
      refine x_iret (pc := 38) dX0_claimField_38 rfl (by decide) (by decide) ?_
      refine kI k ?_
      rw [← e0]
      congr 1
      omega
set_option maxRecDepth 100000 in
theorem sp_X0_hasClaimNow {g : GG} {lay : Lay} {M : Mem} {K : KK} {c : Nat} {T : CT} (hC : CtL lay c) (hT : Ct T M c) (hW : WfT T) (k : K (.inl (some (vI (if hasClaim T then 1 else 0)))) lay M) : X g m_X0_hasClaimNow 0 0 lay M 0 [(0, vR c)] [] K := by
  have hn := hW.n60
  obtain ⟨hS, hP, hN, hm, hK, hL, hO, hB⟩ := id hT
  obtain ⟨wS, wP, wN, wm, wK, wL, wO, wB⟩ := id hW
  have h2 : tN T % 2 < 2 := Nat.mod_lt _ (by decide)
  have e0 := hK (tN T % 2) h2
  have w0 := wK (tN T % 2)
  have e1 : (tK T (tN T % 2) : Int) - 1 = ((tK T (tN T % 2) - 1 : Nat) : Int) ∨ tK T (tN T % 2) = 0 := by omega
  have wl := wL (tN T % 2) (tK T (tN T % 2) - 1) h2
  refine x_aload_n (pc := 0) dX0_hasClaimNow_0 rfl rfl ?_
  refine x_callV (pc := 1) [] rfl kX0_76 dX0_hasClaimNow_1 hC.1 rfl rfl (by decide) (Nat.le_of_ble_eq_true rfl) (Nat.le_of_ble_eq_true rfl) (by decide) ?_
  refine sp_X0_mover hC hT hW ?_
  refine ⟨_, rfl, ?_⟩
  refine x_istore_n (pc := 4) dX0_hasClaimNow_4 rfl (by decide) (L' := [(1, _), (0, _)]) rfl ?_
  refine x_aload_n (pc := 5) dX0_hasClaimNow_5 rfl rfl ?_
  refine x_iload_n (pc := 6) dX0_hasClaimNow_6 rfl rfl ?_
  refine x_callV (pc := 7) [_] rfl kX0_109 dX0_hasClaimNow_7 hC.1 rfl rfl (by decide) (Nat.le_of_ble_eq_true rfl) (Nat.le_of_ble_eq_true rfl) (by decide) ?_
  refine sp_X0_claimsOf hC hT hW h2 ?_
  refine ⟨_, rfl, ?_⟩
  refine x_istore_n (pc := 10) dX0_hasClaimNow_10 rfl (by decide) (L' := [(2, _), (1, _), (0, _)]) rfl ?_
  refine x_iload_n (pc := 11) dX0_hasClaimNow_11 rfl rfl ?_
  refine x_if_le (pc := 12) (t := 35) dX0_hasClaimNow_12 (by decide) ⟨by omega, by omega⟩ (fun c12 => ?_) (fun c12 => ?_)
  · refine x_iconst (pc := 35) dX0_hasClaimNow_35 ?_
    refine x_zret (pc := 36) dX0_hasClaimNow_36 rfl ⟨by omega, by omega⟩ (by decide) (by decide) ?_
    refine kI k ?_
    clear hS hP hm hK hL wS wP wm wK wL hT hW hC k
    grind
  · refine x_aload_n (pc := 15) dX0_hasClaimNow_15 rfl rfl ?_
    refine x_iload_n (pc := 16) dX0_hasClaimNow_16 rfl rfl ?_
    refine x_iload_n (pc := 17) dX0_hasClaimNow_17 rfl rfl ?_
    refine x_iconst (pc := 18) dX0_hasClaimNow_18 ?_
    refine x_isub (pc := 19) dX0_hasClaimNow_19 ?_
    refine x_iconst (pc := 20) dX0_hasClaimNow_20 ?_
    refine x_callV (pc := 21) [_, _, _] rfl kX0_112 dX0_hasClaimNow_21 hC.1 rfl rfl (by decide) (Nat.le_of_ble_eq_true rfl) (Nat.le_of_ble_eq_true rfl) (by decide) ?_
    rw [show (tK T (tN T % 2) : Int) - 1 = ((tK T (tN T % 2) - 1 : Nat) : Int) by omega]
    have wl := wl (by omega)
    unfold WfL at wl
    refine sp_X0_claimField (f := 5) hC hT hW h2 (by omega) (by decide) ?_
    refine ⟨_, rfl, ?_⟩
    refine x_aload_n (pc := 24) dX0_hasClaimNow_24 rfl rfl ?_
    refine x_geti (pc := 25) fX0_42 dX0_hasClaimNow_25 hC.1 rfl (fun r25a r25b => ?_)
    refine x_icmp_ne (pc := 28) (t := 35) dX0_hasClaimNow_28 (by decide) ⟨by omega, by omega⟩ ⟨by omega, by omega⟩ (fun c28 => ?_) (fun c28 => ?_)
    · refine x_iconst (pc := 35) dX0_hasClaimNow_35 ?_
      refine x_zret (pc := 36) dX0_hasClaimNow_36 rfl ⟨by omega, by omega⟩ (by decide) (by decide) ?_
      refine kI k ?_
      clear hS hP hm hK hL wS wP wm wK wL hT hW hC k
      grind
    · refine x_iconst (pc := 31) dX0_hasClaimNow_31 ?_
      refine x_goto (pc := 32) (t := 36) dX0_hasClaimNow_32 (by decide) ?_
      refine x_zret (pc := 36) dX0_hasClaimNow_36 rfl ⟨by omega, by omega⟩ (by decide) (by decide) ?_
      refine kI k ?_
      clear hS hP hm hK hL wS wP wm wK wL hT hW hC k
      grind
set_option maxRecDepth 100000 in
theorem sp_X0_stakes {g : GG} {lay : Lay} {M : Mem} {K : KK} {c : Nat} {T : CT} {pl : Nat} (hC : CtL lay c) (hT : Ct T M c) (hW : WfT T) (hpl : pl < 2) (k : K (.inl (some (vI (stakesF (tL T pl) (tK T pl))))) lay M) : X g m_X0_stakes 0 0 lay M 0 [(0, vR c), (1, vI pl)] [] K := by
  have hn := hW.n60
  obtain ⟨hS, hP, hN, hm, hK, hL, hO, hB⟩ := id hT
  obtain ⟨wS, wP, wN, wm, wK, wL, wO, wB⟩ := id hW
  have e0 := hK pl hpl
  have w0 := wK pl
  have hs := stakesF_rng (tL T pl) (tK T pl) (fun i hi => by have := wL pl i hpl hi; unfold WfL at this; omega)
  have loop : ∀ (d j : Nat) (x acc : Int), j + d = tK T pl → x = j → acc = stakesF (tL T pl) j → X g m_X0_stakes 0 0 lay M 4 [(3, vI x), (2, vI acc), (0, vR c), (1, vI pl)] [] K := by
    intro d
    induction d with
    | zero =>
      intro j x acc hj hx ha
      refine x_iload_n (pc := 4) dX0_stakes_4 rfl rfl ?_
      refine x_aload_n (pc := 5) dX0_stakes_5 rfl rfl ?_
      refine x_iload_n (pc := 6) dX0_stakes_6 rfl rfl ?_
      refine x_callV (pc := 7) [_] rfl kX0_109 dX0_stakes_7 hC.1 rfl rfl (by decide) (Nat.le_of_ble_eq_true rfl) (Nat.le_of_ble_eq_true rfl) (by decide) ?_
      refine sp_X0_claimsOf hC hT hW hpl ?_
      refine ⟨_, rfl, ?_⟩
      refine x_icmp_ge (pc := 10) (t := 29) dX0_stakes_10 (by decide) ⟨by omega, by omega⟩ ⟨by omega, by omega⟩ (fun c10 => ?_) (fun c10 => ?_)
      · refine x_iload_n (pc := 29) dX0_stakes_29 rfl rfl ?_
        refine x_iret (pc := 30) dX0_stakes_30 rfl (by decide) (by decide) ?_
        refine kI k ?_
        rw [ha, show j = tK T pl by omega]
      · exfalso; omega
    | succ d ih =>
      intro j x acc hj hx ha
      have hr := hs j (by omega)
      subst hx
      refine x_iload_n (pc := 4) dX0_stakes_4 rfl rfl ?_
      refine x_aload_n (pc := 5) dX0_stakes_5 rfl rfl ?_
      refine x_iload_n (pc := 6) dX0_stakes_6 rfl rfl ?_
      refine x_callV (pc := 7) [_] rfl kX0_109 dX0_stakes_7 hC.1 rfl rfl (by decide) (Nat.le_of_ble_eq_true rfl) (Nat.le_of_ble_eq_true rfl) (by decide) ?_
      refine sp_X0_claimsOf hC hT hW hpl ?_
      refine ⟨_, rfl, ?_⟩
      refine x_icmp_ge (pc := 10) (t := 29) dX0_stakes_10 (by decide) ⟨by omega, by omega⟩ ⟨by omega, by omega⟩ (fun c10 => ?_) (fun c10 => ?_)
      · exfalso; omega
      · refine x_iload_n (pc := 13) dX0_stakes_13 rfl rfl ?_
        refine x_aload_n (pc := 14) dX0_stakes_14 rfl rfl ?_
        refine x_iload_n (pc := 15) dX0_stakes_15 rfl rfl ?_
        refine x_iload_n (pc := 16) dX0_stakes_16 rfl rfl ?_
        refine x_iconst (pc := 17) dX0_stakes_17 ?_
        refine x_callV (pc := 18) [_, _, _] rfl kX0_112 dX0_stakes_18 hC.1 rfl rfl (by decide) (Nat.le_of_ble_eq_true rfl) (Nat.le_of_ble_eq_true rfl) (by decide) ?_
        refine sp_X0_claimField (f := 4) hC hT hW hpl (by omega) (by decide) ?_
        refine ⟨_, rfl, ?_⟩
        refine x_iadd (pc := 21) dX0_stakes_21 ?_
        refine x_istore_n (pc := 22) dX0_stakes_22 rfl (by decide) (L' := [(2, _), (3, _), (0, _), (1, _)]) rfl ?_
        refine x_iinc (pc := 23) dX0_stakes_23 rfl (by decide) (L' := [(3, _), (2, _), (0, _), (1, _)]) rfl ?_
        refine x_goto (pc := 26) (t := 4) dX0_stakes_26 (by decide) ?_
        refine X.loc [0, 1, 2, 3] (L' := [(3, _), (2, _), (0, _), (1, _)]) rfl ?_
        refine ih (j + 1) _ _ (by omega) (by omega) ?_
        grind [stakesF]
  refine x_iconst (pc := 0) dX0_stakes_0 ?_
  refine x_istore_n (pc := 1) dX0_stakes_1 rfl (by decide) (L' := [(2, _), (0, _), (1, _)]) rfl ?_
  refine x_iconst (pc := 2) dX0_stakes_2 ?_
  refine x_istore_n (pc := 3) dX0_stakes_3 rfl (by decide) (L' := [(3, _), (2, _), (0, _), (1, _)]) rfl ?_
  refine X.loc [0, 1, 2, 3] (L' := [(3, _), (2, _), (0, _), (1, _)]) rfl ?_
  exact loop (tK T pl) 0 0 0 (by omega) rfl rfl
set_option maxRecDepth 100000 in
theorem sp_X0_overlaps {g : GG} {lay : Lay} {M : Mem} {K : KK} {c : Nat} {T : CT} {pl : Nat} {a b : Int} (hC : CtL lay c) (hT : Ct T M c) (hW : WfT T) (hpl : pl < 2) (ha : i32 a) (hb : i32 b) (hab : a < b) (k : K (.inl (some (vI (if lapsF (tL T pl) a b (tK T pl) then 1 else 0)))) lay M) : X g m_X0_overlaps 0 0 lay M 0 [(0, vR c), (1, vI pl), (2, vI a), (3, vI b)] [] K := by
  have hn := hW.n60
  obtain ⟨hS, hP, hN, hm, hK, hL, hO, hB⟩ := id hT
  obtain ⟨wS, wP, wN, wm, wK, wL, wO, wB⟩ := id hW
  have e0 := hK pl hpl
  have w0 := wK pl
  obtain ⟨ha1, ha2⟩ := ha
  obtain ⟨hb1, hb2⟩ := hb
  have loop : ∀ (d j : Nat) (x : Int), j + d = tK T pl → x = j → ¬ lapsF (tL T pl) a b j → X g m_X0_overlaps 0 0 lay M 3 [(4, vI x), (0, vR c), (1, vI pl), (2, vI a), (3, vI b)] [] K := by
    intro d
    induction d with
    | zero =>
      intro j x hj hx hn
      refine x_iload (pc := 3) dX0_overlaps_3 rfl ?_
      refine x_aload_n (pc := 5) dX0_overlaps_5 rfl rfl ?_
      refine x_iload_n (pc := 6) dX0_overlaps_6 rfl rfl ?_
      refine x_callV (pc := 7) [_] rfl kX0_109 dX0_overlaps_7 hC.1 rfl rfl (by decide) (Nat.le_of_ble_eq_true rfl) (Nat.le_of_ble_eq_true rfl) (by decide) ?_
      refine sp_X0_claimsOf hC hT hW hpl ?_
      refine ⟨_, rfl, ?_⟩
      refine x_icmp_ge (pc := 10) (t := 56) dX0_overlaps_10 (by decide) ⟨by omega, by omega⟩ ⟨by omega, by omega⟩ (fun c10 => ?_) (fun c10 => ?_)
      · refine x_iconst (pc := 56) dX0_overlaps_56 ?_
        refine x_zret (pc := 57) dX0_overlaps_57 rfl ⟨by omega, by omega⟩ (by decide) (by decide) ?_
        rw [if_neg (by rw [show tK T pl = j by omega]; exact hn)] at k
        exact k
      · exfalso; omega
    | succ d ih =>
      intro j x hj hx hn
      have wl := wL pl j hpl (by omega)
      unfold WfL at wl
      subst hx
      refine x_iload (pc := 3) dX0_overlaps_3 rfl ?_
      refine x_aload_n (pc := 5) dX0_overlaps_5 rfl rfl ?_
      refine x_iload_n (pc := 6) dX0_overlaps_6 rfl rfl ?_
      refine x_callV (pc := 7) [_] rfl kX0_109 dX0_overlaps_7 hC.1 rfl rfl (by decide) (Nat.le_of_ble_eq_true rfl) (Nat.le_of_ble_eq_true rfl) (by decide) ?_
      refine sp_X0_claimsOf hC hT hW hpl ?_
      refine ⟨_, rfl, ?_⟩
      refine x_icmp_ge (pc := 10) (t := 56) dX0_overlaps_10 (by decide) ⟨by omega, by omega⟩ ⟨by omega, by omega⟩ (fun c10 => ?_) (fun c10 => ?_)
      · exfalso; omega
      · refine x_iload_n (pc := 13) dX0_overlaps_13 rfl rfl ?_
        refine x_aload_n (pc := 14) dX0_overlaps_14 rfl rfl ?_
        refine x_iload_n (pc := 15) dX0_overlaps_15 rfl rfl ?_
        refine x_iload (pc := 16) dX0_overlaps_16 rfl ?_
        refine x_iconst (pc := 18) dX0_overlaps_18 ?_
        refine x_callV (pc := 19) [_, _, _] rfl kX0_112 dX0_overlaps_19 hC.1 rfl rfl (by decide) (Nat.le_of_ble_eq_true rfl) (Nat.le_of_ble_eq_true rfl) (by decide) ?_
        refine sp_X0_claimField (f := 0) hC hT hW hpl (by omega) (by decide) ?_
        refine ⟨_, rfl, ?_⟩
        refine x_mmax (pc := 22) kmX0_123 dX0_overlaps_22 ⟨by omega, by omega⟩ ⟨by omega, by omega⟩ (Nat.le_of_ble_eq_true rfl) (by decide) (by decide) (by decide) ?_
        refine x_istore (pc := 25) dX0_overlaps_25 trivial (by decide) (L' := [(5, _), (4, _), (0, _), (1, _), (2, _), (3, _)]) rfl ?_
        refine x_iload_n (pc := 27) dX0_overlaps_27 rfl rfl ?_
        refine x_aload_n (pc := 28) dX0_overlaps_28 rfl rfl ?_
        refine x_iload_n (pc := 29) dX0_overlaps_29 rfl rfl ?_
        refine x_iload (pc := 30) dX0_overlaps_30 rfl ?_
        refine x_iconst (pc := 32) dX0_overlaps_32 ?_
        refine x_callV (pc := 33) [_, _, _] rfl kX0_112 dX0_overlaps_33 hC.1 rfl rfl (by decide) (Nat.le_of_ble_eq_true rfl) (Nat.le_of_ble_eq_true rfl) (by decide) ?_
        refine sp_X0_claimField (f := 1) hC hT hW hpl (by omega) (by decide) ?_
        refine ⟨_, rfl, ?_⟩
        refine x_mmin (pc := 36) kmX0_53 dX0_overlaps_36 ⟨by omega, by omega⟩ ⟨by omega, by omega⟩ (Nat.le_of_ble_eq_true rfl) (by decide) (by decide) (by decide) ?_
        refine x_istore (pc := 39) dX0_overlaps_39 trivial (by decide) (L' := [(6, _), (5, _), (4, _), (0, _), (1, _), (2, _), (3, _)]) rfl ?_
        refine x_iload (pc := 41) dX0_overlaps_41 rfl ?_
        obtain ⟨z1, q1, q2, q3, q4⟩ : ∃ z, z = (if a < tL T pl j 0 then tL T pl j 0 else a) ∧ a ≤ z ∧ tL T pl j 0 ≤ z ∧ (z = a ∨ z = tL T pl j 0) := ⟨_, rfl, by split <;> omega, by split <;> omega, by split <;> omega⟩
        obtain ⟨z2, p1, p2, p3, p4⟩ : ∃ z, z = (if tL T pl j 1 < b then tL T pl j 1 else b) ∧ z ≤ b ∧ z ≤ tL T pl j 1 ∧ (z = b ∨ z = tL T pl j 1) := ⟨_, rfl, by split <;> omega, by split <;> omega, by split <;> omega⟩
        rw [← q1, ← p1]
        refine x_iload (pc := 43) dX0_overlaps_43 rfl ?_
        refine x_icmp_ge (pc := 45) (t := 50) dX0_overlaps_45 (by decide) ⟨by omega, by omega⟩ ⟨by omega, by omega⟩ (fun c45 => ?_) (fun c45 => ?_)
        · refine x_iinc (pc := 50) dX0_overlaps_50 rfl (by decide) (L' := [(4, _), (6, _), (5, _), (0, _), (1, _), (2, _), (3, _)]) rfl ?_
          refine x_goto (pc := 53) (t := 3) dX0_overlaps_53 (by decide) ?_
          refine X.loc [0, 3, 4, 5, 6] (L' := [(4, _), (0, _), (1, _), (2, _), (3, _)]) rfl ?_
          refine ih (j + 1) _ (by omega) (by omega) ?_
          rintro ⟨i, hi, q1, q2⟩
          by_cases e : i = j
          · subst e
            omega
          · exact hn ⟨i, by omega, q1, q2⟩
        · refine x_iconst (pc := 48) dX0_overlaps_48 ?_
          refine x_zret (pc := 49) dX0_overlaps_49 rfl ⟨by omega, by omega⟩ (by decide) (by decide) ?_
          rw [if_pos ⟨j, by omega, by omega, by omega⟩] at k
          exact k
  refine x_iconst (pc := 0) dX0_overlaps_0 ?_
  refine x_istore (pc := 1) dX0_overlaps_1 trivial (by decide) (L' := [(4, _), (0, _), (1, _), (2, _), (3, _)]) rfl ?_
  refine X.loc [0, 1, 2, 3, 4] (L' := [(4, _), (0, _), (1, _), (2, _), (3, _)]) rfl ?_
  exact loop (tK T pl) 0 0 (by omega) rfl (fun ⟨i, hi, _⟩ => by omega)
set_option maxRecDepth 100000 in
theorem sp_X0_refusalOfClaim {g : GG} {lay : Lay} {M : Mem} {K : KK} {c : Nat} {T : CT} {a b s : Int} (hC : CtL lay c) (hT : Ct T M c) (hW : WfT T) (ha : -20 ≤ a ∧ a < b ∧ b ≤ 20) (hs : 1 ≤ s ∧ s ≤ 9) (k : K (.inl (some (vI (whyClaimF T a b s)))) lay M) : X g m_X0_refusalOfClaim 0 0 lay M 0 [(0, vR c), (1, vI a), (2, vI b), (3, vI s)] [] K := by
  have hn := hW.n60
  obtain ⟨hS, hP, hN, hm, hK, hL, hO, hB⟩ := id hT
  obtain ⟨wS, wP, wN, wm, wK, wL, wO, wB⟩ := id hW
  have h2 : tN T % 2 < 2 := Nat.mod_lt _ (by decide)
  have e0 := hK (tN T % 2) h2
  have w0 := wK (tN T % 2)
  have e6 := hS 6 (by decide)
  have w6 := wS.2.2.2.2.2.2
  have hst := stakesF_rng (tL T (tN T % 2)) (tK T (tN T % 2)) (fun i hi => by have := wL (tN T % 2) i h2 hi; unfold WfL at this; omega) (tK T (tN T % 2)) (Nat.le_refl _)
  refine x_aload_n (pc := 0) dX0_refusalOfClaim_0 rfl rfl ?_
  refine x_callV (pc := 1) [] rfl kX0_76 dX0_refusalOfClaim_1 hC.1 rfl rfl (by decide) (Nat.le_of_ble_eq_true rfl) (Nat.le_of_ble_eq_true rfl) (by decide) ?_
  refine sp_X0_mover hC hT hW ?_
  refine ⟨_, rfl, ?_⟩
  refine x_istore (pc := 4) dX0_refusalOfClaim_4 trivial (by decide) (L' := [(4, _), (0, _), (1, _), (2, _), (3, _)]) rfl ?_
  refine x_aload_n (pc := 6) dX0_refusalOfClaim_6 rfl rfl ?_
  refine x_getz (pc := 7) fX0_46 dX0_refusalOfClaim_7 hC.1 rfl (fun r7a r7b => ?_)
  refine x_if_eq (pc := 10) (t := 15) dX0_refusalOfClaim_10 (by decide) ⟨by omega, by omega⟩ (fun c10 => ?_) (fun c10 => ?_)
  · refine x_aload_n (pc := 15) dX0_refusalOfClaim_15 rfl rfl ?_
    refine x_callV (pc := 16) [] rfl kX0_106 dX0_refusalOfClaim_16 hC.1 rfl rfl (by decide) (Nat.le_of_ble_eq_true rfl) (Nat.le_of_ble_eq_true rfl) (by decide) ?_
    refine sp_X0_hasClaimNow hC hT hW ?_
    refine ⟨_, rfl, ?_⟩
    have hz : 0 ≤ (if hasClaim T then (1 : Int) else 0) ∧ (if hasClaim T then (1 : Int) else 0) ≤ 1 := by split <;> decide
    refine x_if_eq (pc := 19) (t := 24) dX0_refusalOfClaim_19 (by decide) ⟨by omega, by omega⟩ (fun c19 => ?_) (fun c19 => ?_)
    · refine x_aload_n (pc := 24) dX0_refusalOfClaim_24 rfl rfl ?_
      refine x_iload (pc := 25) dX0_refusalOfClaim_25 rfl ?_
      refine x_callV (pc := 27) [_] rfl kX0_109 dX0_refusalOfClaim_27 hC.1 rfl rfl (by decide) (Nat.le_of_ble_eq_true rfl) (Nat.le_of_ble_eq_true rfl) (by decide) ?_
      refine sp_X0_claimsOf hC hT hW h2 ?_
      refine ⟨_, rfl, ?_⟩
      refine x_iconst (pc := 30) dX0_refusalOfClaim_30 ?_
      refine x_icmp_lt (pc := 31) (t := 36) dX0_refusalOfClaim_31 (by decide) ⟨by omega, by omega⟩ ⟨by omega, by omega⟩ (fun c31 => ?_) (fun c31 => ?_)
      · refine x_aload_n (pc := 36) dX0_refusalOfClaim_36 rfl rfl ?_
        refine x_iload (pc := 37) dX0_refusalOfClaim_37 rfl ?_
        refine x_iload_n (pc := 39) dX0_refusalOfClaim_39 rfl rfl ?_
        refine x_iload_n (pc := 40) dX0_refusalOfClaim_40 rfl rfl ?_
        refine x_callV (pc := 41) [_, _, _] rfl kX0_116 dX0_refusalOfClaim_41 hC.1 rfl rfl (by decide) (Nat.le_of_ble_eq_true rfl) (Nat.le_of_ble_eq_true rfl) (by decide) ?_
        refine sp_X0_overlaps hC hT hW h2 ⟨by omega, by omega⟩ ⟨by omega, by omega⟩ (by omega) ?_
        refine ⟨_, rfl, ?_⟩
        have hz2 : 0 ≤ (if lapsF (tL T (tN T % 2)) a b (tK T (tN T % 2)) then (1 : Int) else 0) ∧ (if lapsF (tL T (tN T % 2)) a b (tK T (tN T % 2)) then (1 : Int) else 0) ≤ 1 := by split <;> decide
        refine x_if_eq (pc := 44) (t := 49) dX0_refusalOfClaim_44 (by decide) ⟨by omega, by omega⟩ (fun c44 => ?_) (fun c44 => ?_)
        · refine x_aload_n (pc := 49) dX0_refusalOfClaim_49 rfl rfl ?_
          refine x_iload (pc := 50) dX0_refusalOfClaim_50 rfl ?_
          refine x_callV (pc := 52) [_] rfl kX0_120 dX0_refusalOfClaim_52 hC.1 rfl rfl (by decide) (Nat.le_of_ble_eq_true rfl) (Nat.le_of_ble_eq_true rfl) (by decide) ?_
          refine sp_X0_stakes hC hT hW h2 ?_
          refine ⟨_, rfl, ?_⟩
          refine x_iload_n (pc := 55) dX0_refusalOfClaim_55 rfl rfl ?_
          refine x_iadd (pc := 56) dX0_refusalOfClaim_56 ?_
          refine x_aload_n (pc := 57) dX0_refusalOfClaim_57 rfl rfl ?_
          refine x_getr (pc := 58) (b := c + 1) fX0_9 dX0_refusalOfClaim_58 hC.1 rfl rfl ?_
          refine x_bipush (pc := 61) dX0_refusalOfClaim_61 (by decide) ?_
          refine x_iald (pc := 63) dX0_refusalOfClaim_63 hC.2.1 (by omega) (by omega) (fun r63a r63b => ?_)
          rw [show (6 : Int).toNat = 6 from rfl, e6]
          refine x_icmp_le (pc := 64) (t := 71) dX0_refusalOfClaim_64 (by decide) ⟨by omega, by omega⟩ ⟨by omega, by omega⟩ (fun c64 => ?_) (fun c64 => ?_)
          · refine x_iconst (pc := 71) dX0_refusalOfClaim_71 ?_
            refine x_iret (pc := 72) dX0_refusalOfClaim_72 rfl (by decide) (by decide) ?_
            refine kI k ?_
            unfold whyClaimF
            first
            | have d19 := b1 c19
            | have d19 := b0 c19
            | skip
            first
            | have d45 := b1 c44
            | have d45 := b0 c44
            | skip
            repeat (first | rw [if_pos (by first | omega | assumption)] | rw [if_neg (by first | omega | assumption)])
          · refine x_iconst (pc := 67) dX0_refusalOfClaim_67 ?_
            refine x_goto (pc := 68) (t := 72) dX0_refusalOfClaim_68 (by decide) ?_
            refine x_iret (pc := 72) dX0_refusalOfClaim_72 rfl (by decide) (by decide) ?_
            refine kI k ?_
            unfold whyClaimF
            first
            | have d19 := b1 c19
            | have d19 := b0 c19
            | skip
            first
            | have d45 := b1 c44
            | have d45 := b0 c44
            | skip
            repeat (first | rw [if_pos (by first | omega | assumption)] | rw [if_neg (by first | omega | assumption)])
        · refine x_iconst (pc := 47) dX0_refusalOfClaim_47 ?_
          refine x_iret (pc := 48) dX0_refusalOfClaim_48 rfl (by decide) (by decide) ?_
          refine kI k ?_
          unfold whyClaimF
          first
          | have d19 := b1 c19
          | have d19 := b0 c19
          | skip
          first
          | have d45 := b1 c44
          | have d45 := b0 c44
          | skip
          repeat (first | rw [if_pos (by first | omega | assumption)] | rw [if_neg (by first | omega | assumption)])
      · refine x_iconst (pc := 34) dX0_refusalOfClaim_34 ?_
        refine x_iret (pc := 35) dX0_refusalOfClaim_35 rfl (by decide) (by decide) ?_
        refine kI k ?_
        unfold whyClaimF
        first
        | have d19 := b1 c19
        | have d19 := b0 c19
        | skip
        first
        | have d45 := b1 c44
        | have d45 := b0 c44
        | skip
        repeat (first | rw [if_pos (by first | omega | assumption)] | rw [if_neg (by first | omega | assumption)])
    · refine x_iconst (pc := 22) dX0_refusalOfClaim_22 ?_
      refine x_iret (pc := 23) dX0_refusalOfClaim_23 rfl (by decide) (by decide) ?_
      refine kI k ?_
      unfold whyClaimF
      first
      | have d19 := b1 c19
      | have d19 := b0 c19
      | skip
      first
      | have d45 := b1 c44
      | have d45 := b0 c44
      | skip
      repeat (first | rw [if_pos (by first | omega | assumption)] | rw [if_neg (by first | omega | assumption)])
  · refine x_iconst (pc := 13) dX0_refusalOfClaim_13 ?_
    refine x_iret (pc := 14) dX0_refusalOfClaim_14 rfl (by decide) (by decide) ?_
    refine kI k ?_
    unfold whyClaimF
    first
    | have d19 := b1 c19
    | have d19 := b0 c19
    | skip
    first
    | have d45 := b1 c44
    | have d45 := b0 c44
    | skip
    repeat (first | rw [if_pos (by first | omega | assumption)] | rw [if_neg (by first | omega | assumption)])
set_option maxRecDepth 100000 in
theorem sp_X0_bonusPoints {g : GG} {lay : Lay} {M : Mem} {K : KK} {c : Nat} {T : CT} {pl : Int} (hC : CtL lay c) (hT : Ct T M c) (hW : WfT T) (hp : i32 pl) (k : K (.inl (some (vI (if tB T = pl then tS T 5 else 0)))) lay M) : X g m_X0_bonusPoints 0 0 lay M 0 [(0, vR c), (1, vI pl)] [] K := by
  have hn := hW.n60
  obtain ⟨hS, hP, hN, hm, hK, hL, hO, hB⟩ := id hT
  obtain ⟨wS, wP, wN, wm, wK, wL, wO, wB⟩ := id hW
  obtain ⟨hp1, hp2⟩ := hp
  have e5 := hS 5 (by decide)
  refine x_aload_n (pc := 0) dX0_bonusPoints_0 rfl rfl ?_
  refine x_geti (pc := 1) fX0_50 dX0_bonusPoints_1 hC.1 rfl (fun r1a r1b => ?_)
  refine x_iload_n (pc := 4) dX0_bonusPoints_4 rfl rfl ?_
  refine x_icmp_ne (pc := 5) (t := 17) dX0_bonusPoints_5 (by decide) ⟨by omega, by omega⟩ ⟨by omega, by omega⟩ (fun c5 => ?_) (fun c5 => ?_)
  · refine x_iconst (pc := 17) dX0_bonusPoints_17 ?_
    refine x_iret (pc := 18) dX0_bonusPoints_18 rfl (by decide) (by decide) ?_
    refine kI k ?_
    first
    | (rw [show (5 : Int).toNat = 5 from rfl, e5]; grind)
    | grind
  · refine x_aload_n (pc := 8) dX0_bonusPoints_8 rfl rfl ?_
    refine x_getr (pc := 9) (b := c + 1) fX0_9 dX0_bonusPoints_9 hC.1 rfl rfl ?_
    refine x_iconst (pc := 12) dX0_bonusPoints_12 ?_
    refine x_iald (pc := 13) dX0_bonusPoints_13 hC.2.1 (by omega) (by omega) (fun r13a r13b => ?_)
    refine x_goto (pc := 14) (t := 18) dX0_bonusPoints_14 (by decide) ?_
    refine x_iret (pc := 18) dX0_bonusPoints_18 rfl (by decide) (by decide) ?_
    refine kI k ?_
    first
    | (rw [show (5 : Int).toNat = 5 from rfl, e5]; grind)
    | grind
