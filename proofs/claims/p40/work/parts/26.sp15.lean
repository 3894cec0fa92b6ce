/-! Specs of RootDuel, third part: queries. -/
def countF (T : CT) (u x : Int) : Int := if x < 7 then tS T x.toNat else if x = 7 then tN T else if x = 8 then (if tO T = 1 then -1 else ((tN T % 2 : Nat) : Int)) else if x = 9 then tO T else if x = 10 then barredF T (tS T 0).toNat else if x = 11 then termsOfF (tC T) 0 (tN T) + termsOfF (tC T) 1 (tN T) else if x = 12 then (tN T : Int) - (termsOfF (tC T) 0 (tN T) + termsOfF (tC T) 1 (tN T)) else if x = 13 then u else if x = 14 then (if hasClaim T then 1 else 0) else tB T
def rCount (T : CT) (u x : Int) : Res := if ¬ (0 ≤ x ∧ x ≤ 15) then eIA else oI (countF T u x)
def powF (T : CT) (p : Nat) (x : Int) : Int := if x = 0 then tP T p else if x = 1 then (if isBar T p then 1 else 0) else if x = 2 then termsOnF (tC T) (tQ T) p (tN T) else if x = 3 then lastF T p else if lastF T p = -1 then -1 else (lastF T p).tmod 2
def rPower (T : CT) (p x : Int) : Res := if ¬ hasP T p then eIO else if ¬ (0 ≤ x ∧ x ≤ 4) then eIA else oI (powF T p.toNat x)
abbrev isPl (x : Int) : Prop := x = 0 ∨ x = 1
def clmF (T : CT) (pl i : Nat) (x : Int) : Int := if tK T pl ≤ i then -1 else if x = 5 then (if rightP (buildF (tP T)) (tL T pl i) then 1 else 0) else if x = 6 then tL T pl i 5 else tL T pl i x.toNat
def rClaimOf (T : CT) (pl i x : Int) : Res := if ¬ (isPl pl ∧ 0 ≤ i) then eIO else if ¬ (0 ≤ x ∧ x ≤ 6) then eIA else oI (clmF T pl.toNat i.toNat x)
def plrF (T : CT) (pl : Nat) (x : Int) : Int := if x = 0 then scoreF T (buildF (tP T)) pl else if x = 1 then signF T pl else if x = 2 then claimPt (buildF (tP T)) (tL T pl) (tK T pl) else if x = 3 then bonusF T pl else if x = 4 then tK T pl else if x = 5 then stakesF (tL T pl) (tK T pl) else if x = 6 then rightN (buildF (tP T)) (tL T pl) (tK T pl) else termsOfF (tC T) pl (tN T)
def rPlayer (T : CT) (pl x : Int) : Res := if ¬ isPl pl then eIO else if ¬ (0 ≤ x ∧ x ≤ 7) then eIA else oI (plrF T pl.toNat x)
def ofSgn (T : CT) (x : Int) : Int := if (buildF (tP T)).1 = 0 then -1 else if x = 0 then (if tP T 0 = 0 then 1 else 0) else if 0 < x then dBet (buildF (tP T)) 0 31 else dBet (buildF (tP T)) (-31) 0 - (if tP T 0 = 0 then 1 else 0)
def rOfSgn (T : CT) (x : Int) : Res := if ¬ (-1 ≤ x ∧ x ≤ 1) then eIA else oI (ofSgn T x)
def belowF (s : RS) (i : Int) (p : Nat) : Int := belF (fun n => cUp s (-(31 * 2 ^ p)) p - cUp s n p) i 32 (-(31 * 2 ^ p)) (31 * 2 ^ p)
def rNear (T : CT) (i p : Int) : Res := if ¬ (0 ≤ i ∧ i < allD (buildF (tP T))) then eIO else if ¬ (0 ≤ p ∧ p ≤ 6) then eIA else oI (belowF (buildF (tP T)) i p.toNat)
def rRowDeg (T : CT) (r : Int) : Res := if ¬ (0 ≤ r ∧ r < (buildF (tP T)).1) then eIO else oI ((buildF (tP T)).2.2 r.toNat)
def rRowSign (T : CT) (r x : Int) : Res := if ¬ (0 ≤ r ∧ r < (buildF (tP T)).1) then eIO else if ¬ placeP x then eIA else oI (sg (valF ((buildF (tP T)).2.1 r.toNat) x 5))
theorem allD_rng {s : RS} (h3 : s.1 ≤ 5) : -5 ≤ allD s ∧ allD s ≤ 5 := by
  have h1 := cUp_rng s (-31) 0
  have h2 := cUp_rng s 31 0
  unfold allD
  split <;> omega

set_option maxRecDepth 100000 in
theorem sp_X4_count {g : GG} {lay : Lay} {M : Mem} {K : KK} {b : Nat} {sv : Nat → Option Nat} {T : CT} {x : Int} {A : Nat → Int} {u : Int} (gB : GoodB) (hd : DuL lay b sv) (hb0 : g.2.1 ≤ b) (hT : Ct T M (b + 1)) (hW : WfT T) (hA : Dh A u M b) (hu : 0 ≤ u ∧ u ≤ 12) (hx : i32 x) (k : ∀ M2 n, lay.2 ≤ n → Scr b M M2 → K (rCount T u x) (lay.1, n) M2) : X g m_X4_count 0 0 lay M 0 [(0, vR b), (1, vI x)] [] K := by
  obtain ⟨hx1, hx2⟩ := hx
  have hOO := hW.2.2.2.2.2.2.1
  have hBB := hW.2.2.2.2.2.2.2
  obtain ⟨hS, hP, hN, hm, hK, hL, hOv, hB⟩ := id hT
  have hn60 := hW.n60
  have t0 := termsOfF_rng (tC T) 0 (tN T)
  have t1 := termsOfF_rng (tC T) 1 (tN T)
  have hun := hA.2
  have hz := @b01 (hasClaim T) inferInstance
  unfold rCount countF at k
  refine x_iload_n (pc := 0) dX4_count_0 rfl rfl ?_
  refine x_if_lt (pc := 1) (t := 10) dX4_count_1 (by decide) ⟨by omega, by omega⟩ (fun c1 => ?_) (fun c1 => ?_)
  · refine x_throw0 (pc := 10) ct67 dX4_count_10 dX4_count_13 dX4_count_14 dX4_count_17 rfl (by decide) (Nat.le_of_ble_eq_true rfl) (Nat.le_of_ble_eq_true rfl) ?_
    intro n hn
    refine kE2 (k _ n hn Scr.rf) ?_
    repeat (first | rfl | rw [if_pos (by omega)] | rw [if_neg (by omega)])
  · refine x_iload_n (pc := 4) dX4_count_4 rfl rfl ?_
    refine x_bipush (pc := 5) dX4_count_5 (by decide) ?_
    refine x_icmp_le (pc := 7) (t := 18) dX4_count_7 (by decide) ⟨by omega, by omega⟩ ⟨by omega, by omega⟩ (fun c7 => ?_) (fun c7 => ?_)
    · refine x_iload_n (pc := 18) dX4_count_18 rfl rfl ?_
      refine x_bipush (pc := 19) dX4_count_19 (by decide) ?_
      refine x_icmp_ge (pc := 21) (t := 34) dX4_count_21 (by decide) ⟨by omega, by omega⟩ ⟨by omega, by omega⟩ (fun c21 => ?_) (fun c21 => ?_)
      · refine x_iload_n (pc := 34) dX4_count_34 rfl rfl ?_
        by_cases s35_7 : x = 7
        · refine x_tsw_in (pc := 35) (t := 80) 7 dX4_count_35 s35_7 (by decide) (by decide) (by decide) rfl (by decide) ?_
          refine x_aload_n (pc := 80) dX4_count_80 rfl rfl ?_
          refine x_getr (pc := 81) (b := b + 1) fX4_10 dX4_count_81 hd.1 rfl rfl ?_
          refine x_geti (pc := 84) fX4_114 dX4_count_84 hd.2.1.1 rfl (fun r84a r84b => ?_)
          rw [hN] at r84a r84b ⊢
          refine x_iret (pc := 87) dX4_count_87 rfl (by decide) (by decide) ?_
          refine kE2 (k _ _ (Nat.le_refl _) Scr.rf) ?_
          repeat (first | rfl | rw [if_pos (by omega)] | rw [if_neg (by omega)])
        by_cases s35_8 : x = 8
        · refine x_tsw_in (pc := 35) (t := 88) 8 dX4_count_35 s35_8 (by decide) (by decide) (by decide) rfl (by decide) ?_
          refine x_aload_n (pc := 88) dX4_count_88 rfl rfl ?_
          refine x_getr (pc := 89) (b := b + 1) fX4_10 dX4_count_89 hd.1 rfl rfl ?_
          refine x_getz (pc := 92) fX4_117 dX4_count_92 hd.2.1.1 rfl (fun r92a r92b => ?_)
          rw [hOv] at r92a r92b ⊢
          refine x_if_eq (pc := 95) (t := 102) dX4_count_95 (by decide) ⟨by omega, by omega⟩ (fun c95 => ?_) (fun c95 => ?_)
          · refine x_aload_n (pc := 102) dX4_count_102 rfl rfl ?_
            refine x_getr (pc := 103) (b := b + 1) fX4_10 dX4_count_103 hd.1 rfl rfl ?_
            refine x_callV (pc := 106) [] rfl kX4_121 dX4_count_106 hd.2.1.1 rfl rfl (by decide) (Nat.le_of_ble_eq_true rfl) (Nat.le_of_ble_eq_true rfl) (by decide) ?_
            refine sp_X0_mover hd.2.1 hT hW ?_
            refine ⟨_, rfl, ?_⟩
            refine x_iret (pc := 109) dX4_count_109 rfl (by decide) (by decide) ?_
            refine kE2 (k _ _ (Nat.le_refl _) Scr.rf) ?_
            repeat (first | rfl | rw [if_pos (by omega)] | rw [if_neg (by omega)])
          · refine x_iconst (pc := 98) dX4_count_98 ?_
            refine x_goto (pc := 99) (t := 109) dX4_count_99 (by decide) ?_
            refine x_iret (pc := 109) dX4_count_109 rfl (by decide) (by decide) ?_
            refine kE2 (k _ _ (Nat.le_refl _) Scr.rf) ?_
            repeat (first | rfl | rw [if_pos (by omega)] | rw [if_neg (by omega)])
        by_cases s35_9 : x = 9
        · refine x_tsw_in (pc := 35) (t := 110) 9 dX4_count_35 s35_9 (by decide) (by decide) (by decide) rfl (by decide) ?_
          refine x_aload_n (pc := 110) dX4_count_110 rfl rfl ?_
          refine x_getr (pc := 111) (b := b + 1) fX4_10 dX4_count_111 hd.1 rfl rfl ?_
          refine x_getz (pc := 114) fX4_117 dX4_count_114 hd.2.1.1 rfl (fun r114a r114b => ?_)
          rw [hOv] at r114a r114b ⊢
          refine x_if_eq (pc := 117) (t := 124) dX4_count_117 (by decide) ⟨by omega, by omega⟩ (fun c117 => ?_) (fun c117 => ?_)
          · refine x_iconst (pc := 124) dX4_count_124 ?_
            refine x_iret (pc := 125) dX4_count_125 rfl (by decide) (by decide) ?_
            refine kE2 (k _ _ (Nat.le_refl _) Scr.rf) ?_
            repeat (first | rfl | rw [if_pos (by omega)] | rw [if_neg (by omega)])
            try (refine congrArg (fun z => (Sum.inl (some (vI z)) : Res)) ?_; omega)
          · refine x_iconst (pc := 120) dX4_count_120 ?_
            refine x_goto (pc := 121) (t := 125) dX4_count_121 (by decide) ?_
            refine x_iret (pc := 125) dX4_count_125 rfl (by decide) (by decide) ?_
            refine kE2 (k _ _ (Nat.le_refl _) Scr.rf) ?_
            repeat (first | rfl | rw [if_pos (by omega)] | rw [if_neg (by omega)])
            try (refine congrArg (fun z => (Sum.inl (some (vI z)) : Res)) ?_; omega)
        by_cases s35_10 : x = 10
        · refine x_tsw_in (pc := 35) (t := 126) 10 dX4_count_35 s35_10 (by decide) (by decide) (by decide) rfl (by decide) ?_
          refine x_aload_n (pc := 126) dX4_count_126 rfl rfl ?_
          refine x_getr (pc := 127) (b := b + 1) fX4_10 dX4_count_127 hd.1 rfl rfl ?_
          refine x_callV (pc := 130) [] rfl kX4_124 dX4_count_130 hd.2.1.1 rfl rfl (by decide) (Nat.le_of_ble_eq_true rfl) (Nat.le_of_ble_eq_true rfl) (by decide) ?_
          refine sp_X0_barredPowers hd.2.1 hT hW ?_
          refine ⟨_, rfl, ?_⟩
          refine x_iret (pc := 133) dX4_count_133 rfl (by decide) (by decide) ?_
          refine kE2 (k _ _ (Nat.le_refl _) Scr.rf) ?_
          repeat (first | rfl | rw [if_pos (by omega)] | rw [if_neg (by omega)])
        by_cases s35_11 : x = 11
        · refine x_tsw_in (pc := 35) (t := 134) 11 dX4_count_35 s35_11 (by decide) (by decide) (by decide) rfl (by decide) ?_
          refine x_aload_n (pc := 134) dX4_count_134 rfl rfl ?_
          refine x_getr (pc := 135) (b := b + 1) fX4_10 dX4_count_135 hd.1 rfl rfl ?_
          refine x_callV (pc := 138) [] rfl kX4_127 dX4_count_138 hd.2.1.1 rfl rfl (by decide) (Nat.le_of_ble_eq_true rfl) (Nat.le_of_ble_eq_true rfl) (by decide) ?_
          refine sp_X0_termsLaid hd.2.1 hT hW ?_
          refine ⟨_, rfl, ?_⟩
          refine x_iret (pc := 141) dX4_count_141 rfl (by decide) (by decide) ?_
          refine kE2 (k _ _ (Nat.le_refl _) Scr.rf) ?_
          repeat (first | rfl | rw [if_pos (by omega)] | rw [if_neg (by omega)])
        by_cases s35_12 : x = 12
        · refine x_tsw_in (pc := 35) (t := 142) 12 dX4_count_35 s35_12 (by decide) (by decide) (by decide) rfl (by decide) ?_
          refine x_aload_n (pc := 142) dX4_count_142 rfl rfl ?_
          refine x_getr (pc := 143) (b := b + 1) fX4_10 dX4_count_143 hd.1 rfl rfl ?_
          refine x_geti (pc := 146) fX4_114 dX4_count_146 hd.2.1.1 rfl (fun r146a r146b => ?_)
          rw [hN] at r146a r146b ⊢
          refine x_aload_n (pc := 149) dX4_count_149 rfl rfl ?_
          refine x_getr (pc := 150) (b := b + 1) fX4_10 dX4_count_150 hd.1 rfl rfl ?_
          refine x_callV (pc := 153) [] rfl kX4_127 dX4_count_153 hd.2.1.1 rfl rfl (by decide) (Nat.le_of_ble_eq_true rfl) (Nat.le_of_ble_eq_true rfl) (by decide) ?_
          refine sp_X0_termsLaid hd.2.1 hT hW ?_
          refine ⟨_, rfl, ?_⟩
          refine x_isub (pc := 156) dX4_count_156 ?_
          refine x_iret (pc := 157) dX4_count_157 rfl (by decide) (by decide) ?_
          refine kE2 (k _ _ (Nat.le_refl _) Scr.rf) ?_
          repeat (first | rfl | rw [if_pos (by omega)] | rw [if_neg (by omega)])
        by_cases s35_13 : x = 13
        · refine x_tsw_in (pc := 35) (t := 158) 13 dX4_count_35 s35_13 (by decide) (by decide) (by decide) rfl (by decide) ?_
          refine x_aload_n (pc := 158) dX4_count_158 rfl rfl ?_
          refine x_geti (pc := 159) fX4_81 dX4_count_159 hd.1 rfl (fun r159a r159b => ?_)
          rw [hun] at r159a r159b ⊢
          refine x_iret (pc := 162) dX4_count_162 rfl (by decide) (by decide) ?_
          refine kE2 (k _ _ (Nat.le_refl _) Scr.rf) ?_
          repeat (first | rfl | rw [if_pos (by omega)] | rw [if_neg (by omega)])
        by_cases s35_14 : x = 14
        · refine x_tsw_in (pc := 35) (t := 163) 14 dX4_count_35 s35_14 (by decide) (by decide) (by decide) rfl (by decide) ?_
          refine x_aload_n (pc := 163) dX4_count_163 rfl rfl ?_
          refine x_getr (pc := 164) (b := b + 1) fX4_10 dX4_count_164 hd.1 rfl rfl ?_
          refine x_callV (pc := 167) [] rfl kX4_130 dX4_count_167 hd.2.1.1 rfl rfl (by decide) (Nat.le_of_ble_eq_true rfl) (Nat.le_of_ble_eq_true rfl) (by decide) ?_
          refine sp_X0_hasClaimNow hd.2.1 hT hW ?_
          refine ⟨_, rfl, ?_⟩
          refine x_if_eq (pc := 170) (t := 177) dX4_count_170 (by decide) ⟨by omega, by omega⟩ (fun c170 => ?_) (fun c170 => ?_)
          · refine x_iconst (pc := 177) dX4_count_177 ?_
            refine x_iret (pc := 178) dX4_count_178 rfl (by decide) (by decide) ?_
            refine kE2 (k _ _ (Nat.le_refl _) Scr.rf) ?_
            repeat (first | rfl | rw [if_pos (by omega)] | rw [if_neg (by omega)])
            try (refine congrArg (fun z => (Sum.inl (some (vI z)) : Res)) ?_; omega)
          · refine x_iconst (pc := 173) dX4_count_173 ?_
            refine x_goto (pc := 174) (t := 178) dX4_count_174 (by decide) ?_
            refine x_iret (pc := 178) dX4_count_178 rfl (by decide) (by decide) ?_
            refine kE2 (k _ _ (Nat.le_refl _) Scr.rf) ?_
            repeat (first | rfl | rw [if_pos (by omega)] | rw [if_neg (by omega)])
            try (refine congrArg (fun z => (Sum.inl (some (vI z)) : Res)) ?_; omega)
        refine x_tsw_out (pc := 35) (t := 179) dX4_count_35 ⟨by omega, by omega⟩ (by omega) (by decide) ?_
        refine x_aload_n (pc := 179) dX4_count_179 rfl rfl ?_
        refine x_getr (pc := 180) (b := b + 1) fX4_10 dX4_count_180 hd.1 rfl rfl ?_
        refine x_geti (pc := 183) fX4_134 dX4_count_183 hd.2.1.1 rfl (fun r183a r183b => ?_)
        rw [hB] at r183a r183b ⊢
        refine x_iret (pc := 186) dX4_count_186 rfl (by decide) (by decide) ?_
        refine kE2 (k _ _ (Nat.le_refl _) Scr.rf) ?_
        repeat (first | rfl | rw [if_pos (by omega)] | rw [if_neg (by omega)])
      · refine x_aload_n (pc := 24) dX4_count_24 rfl rfl ?_
        refine x_getr (pc := 25) (b := b + 1) fX4_10 dX4_count_25 hd.1 rfl rfl ?_
        refine x_getr (pc := 28) (b := b + 1 + 1) fX4_87 dX4_count_28 hd.2.1.1 rfl rfl ?_
        refine x_iload_n (pc := 31) dX4_count_31 rfl rfl ?_
        refine x_iald (pc := 32) dX4_count_32 hd.2.1.2.1 (by omega) (by omega) (fun r32a r32b => ?_)
        rw [hS x.toNat (by omega)] at r32a r32b ⊢
        refine x_iret (pc := 33) dX4_count_33 rfl (by decide) (by decide) ?_
        refine kE2 (k _ _ (Nat.le_refl _) Scr.rf) ?_
        repeat (first | rfl | rw [if_pos (by omega)] | rw [if_neg (by omega)])
    · refine x_throw0 (pc := 10) ct67 dX4_count_10 dX4_count_13 dX4_count_14 dX4_count_17 rfl (by decide) (Nat.le_of_ble_eq_true rfl) (Nat.le_of_ble_eq_true rfl) ?_
      intro n hn
      refine kE2 (k _ n hn Scr.rf) ?_
      repeat (first | rfl | rw [if_pos (by omega)] | rw [if_neg (by omega)])
set_option maxRecDepth 100000 in
theorem sp_X4_power {g : GG} {lay : Lay} {M : Mem} {K : KK} {b : Nat} {sv : Nat → Option Nat} {T : CT} {p x : Int} (gB : GoodB) (hd : DuL lay b sv) (hb0 : g.2.1 ≤ b) (hT : Ct T M (b + 1)) (hW : WfT T) (hp : i32 p) (hx : i32 x) (k : ∀ M2 n, lay.2 ≤ n → Scr b M M2 → K (rPower T p x) (lay.1, n) M2) : X g m_X4_power 0 0 lay M 0 [(0, vR b), (1, vI p), (2, vI x)] [] K := by
  obtain ⟨hx1, hx2⟩ := hx
  have hn60 := hW.n60
  have z0 := @b01 (hasP T p) inferInstance
  have z1 := @b01 (isBar T p) inferInstance
  have hr := lastT_rng (tC T) (tQ T) p (tN T)
  have w0 := hW.1.1
  have hPp := hT.2.1 p.toNat
  unfold rPower powF at k
  refine x_aload_n (pc := 0) dX4_power_0 rfl rfl ?_
  refine x_getr (pc := 1) (b := b + 1) fX4_10 dX4_power_1 hd.1 rfl rfl ?_
  refine x_iload_n (pc := 4) dX4_power_4 rfl rfl ?_
  refine x_callV (pc := 5) [_] rfl kX4_137 dX4_power_5 hd.2.1.1 rfl rfl (by decide) (Nat.le_of_ble_eq_true rfl) (Nat.le_of_ble_eq_true rfl) (by decide) ?_
  refine sp_X0_hasPower hd.2.1 hT hW hp ?_
  refine ⟨_, rfl, ?_⟩
  refine x_if_ne (pc := 8) (t := 19) dX4_power_8 (by decide) ⟨by omega, by omega⟩ (fun c8 => ?_) (fun c8 => ?_)
  · refine x_iload_n (pc := 19) dX4_power_19 rfl rfl ?_
    refine x_if_lt (pc := 20) (t := 28) dX4_power_20 (by decide) ⟨by omega, by omega⟩ (fun c20 => ?_) (fun c20 => ?_)
    · refine x_throw0 (pc := 28) ct67 dX4_power_28 dX4_power_31 dX4_power_32 dX4_power_35 rfl (by decide) (Nat.le_of_ble_eq_true rfl) (Nat.le_of_ble_eq_true rfl) ?_
      have y0 := b1 c8
      intro n hn
      refine kE2 (k _ n hn Scr.rf) ?_
      rw [if_neg (fun z => z y0), if_pos (by omega)]
    · refine x_iload_n (pc := 23) dX4_power_23 rfl rfl ?_
      refine x_iconst (pc := 24) dX4_power_24 ?_
      refine x_icmp_le (pc := 25) (t := 36) dX4_power_25 (by decide) ⟨by omega, by omega⟩ ⟨by omega, by omega⟩ (fun c25 => ?_) (fun c25 => ?_)
      · have y0 := b1 c8
        have ep : ((p.toNat : Nat) : Int) = p := by omega
        rw [ep] at k
        refine x_aload_n (pc := 36) dX4_power_36 rfl rfl ?_
        refine x_getr (pc := 37) (b := b + 1) fX4_10 dX4_power_37 hd.1 rfl rfl ?_
        refine x_iload_n (pc := 40) dX4_power_40 rfl rfl ?_
        refine x_callV (pc := 41) [_] rfl kX4_143 dX4_power_41 hd.2.1.1 rfl rfl (by decide) (Nat.le_of_ble_eq_true rfl) (Nat.le_of_ble_eq_true rfl) (by decide) ?_
        refine sp_X0_lastTurnOn hd.2.1 hT hW hp ?_
        refine ⟨_, rfl, ?_⟩
        refine x_istore_n (pc := 44) dX4_power_44 rfl (by decide) (L' := [(3, _), (0, _), (1, _), (2, _)]) rfl ?_
        refine x_iload_n (pc := 45) dX4_power_45 rfl rfl ?_
        by_cases s46_0 : x = 0
        · refine x_tsw_in (pc := 46) (t := 76) 0 dX4_power_46 s46_0 (by decide) (by decide) (by decide) rfl (by decide) ?_
          refine x_aload_n (pc := 76) dX4_power_76 rfl rfl ?_
          refine x_getr (pc := 77) (b := b + 1) fX4_10 dX4_power_77 hd.1 rfl rfl ?_
          refine x_getr (pc := 80) (b := b + 1 + 2) fX4_147 dX4_power_80 hd.2.1.1 rfl rfl ?_
          refine x_iload_n (pc := 83) dX4_power_83 rfl rfl ?_
          refine x_iald (pc := 84) dX4_power_84 hd.2.1.2.2.1 (by omega) (by omega) (fun r84a r84b => ?_)
          rw [hPp (by omega)] at r84a r84b ⊢
          refine x_iret (pc := 85) dX4_power_85 rfl (by decide) (by decide) ?_
          refine kE2 (k _ _ (Nat.le_refl _) Scr.rf) ?_
          rw [if_neg (fun z => z y0)]
          repeat (first | rfl | rw [if_pos (by omega)] | rw [if_neg (by omega)])
        by_cases s46_1 : x = 1
        · refine x_tsw_in (pc := 46) (t := 86) 1 dX4_power_46 s46_1 (by decide) (by decide) (by decide) rfl (by decide) ?_
          refine x_aload_n (pc := 86) dX4_power_86 rfl rfl ?_
          refine x_getr (pc := 87) (b := b + 1) fX4_10 dX4_power_87 hd.1 rfl rfl ?_
          refine x_iload_n (pc := 90) dX4_power_90 rfl rfl ?_
          refine x_callV (pc := 91) [_] rfl kX4_150 dX4_power_91 hd.2.1.1 rfl rfl (by decide) (Nat.le_of_ble_eq_true rfl) (Nat.le_of_ble_eq_true rfl) (by decide) ?_
          refine sp_X0_isBarred hd.2.1 hT hW hp ?_
          refine ⟨_, rfl, ?_⟩
          refine x_if_eq (pc := 94) (t := 101) dX4_power_94 (by decide) ⟨by omega, by omega⟩ (fun c94 => ?_) (fun c94 => ?_)
          · refine x_iconst (pc := 101) dX4_power_101 ?_
            refine x_iret (pc := 102) dX4_power_102 rfl (by decide) (by decide) ?_
            refine kE2 (k _ _ (Nat.le_refl _) Scr.rf) ?_
            rw [if_neg (fun z => z y0), if_neg (by omega), if_neg (by omega), if_pos (by omega)]
            refine congrArg (fun z => (Sum.inl (some (vI z)) : Res)) ?_
            omega
          · refine x_iconst (pc := 97) dX4_power_97 ?_
            refine x_goto (pc := 98) (t := 102) dX4_power_98 (by decide) ?_
            refine x_iret (pc := 102) dX4_power_102 rfl (by decide) (by decide) ?_
            refine kE2 (k _ _ (Nat.le_refl _) Scr.rf) ?_
            rw [if_neg (fun z => z y0), if_neg (by omega), if_neg (by omega), if_pos (by omega)]
            refine congrArg (fun z => (Sum.inl (some (vI z)) : Res)) ?_
            omega
        by_cases s46_2 : x = 2
        · refine x_tsw_in (pc := 46) (t := 103) 2 dX4_power_46 s46_2 (by decide) (by decide) (by decide) rfl (by decide) ?_
          refine x_aload_n (pc := 103) dX4_power_103 rfl rfl ?_
          refine x_getr (pc := 104) (b := b + 1) fX4_10 dX4_power_104 hd.1 rfl rfl ?_
          refine x_iload_n (pc := 107) dX4_power_107 rfl rfl ?_
          refine x_callV (pc := 108) [_] rfl kX4_153 dX4_power_108 hd.2.1.1 rfl rfl (by decide) (Nat.le_of_ble_eq_true rfl) (Nat.le_of_ble_eq_true rfl) (by decide) ?_
          refine sp_X0_termsOn hd.2.1 hT hW hp ?_
          refine ⟨_, rfl, ?_⟩
          refine x_iret (pc := 111) dX4_power_111 rfl (by decide) (by decide) ?_
          refine kE2 (k _ _ (Nat.le_refl _) Scr.rf) ?_
          rw [if_neg (fun z => z y0)]
          repeat (first | rfl | rw [if_pos (by omega)] | rw [if_neg (by omega)])
        by_cases s46_3 : x = 3
        · refine x_tsw_in (pc := 46) (t := 112) 3 dX4_power_46 s46_3 (by decide) (by decide) (by decide) rfl (by decide) ?_
          refine x_iload_n (pc := 112) dX4_power_112 rfl rfl ?_
          refine x_iret (pc := 113) dX4_power_113 rfl (by decide) (by decide) ?_
          refine kE2 (k _ _ (Nat.le_refl _) Scr.rf) ?_
          rw [if_neg (fun z => z y0)]
          repeat (first | rfl | rw [if_pos (by omega)] | rw [if_neg (by omega)])
        refine x_tsw_out (pc := 46) (t := 114) dX4_power_46 ⟨by omega, by omega⟩ (by omega) (by decide) ?_
        refine x_iload_n (pc := 114) dX4_power_114 rfl rfl ?_
        refine x_iconst (pc := 115) dX4_power_115 ?_
        refine x_icmp_ne (pc := 116) (t := 123) dX4_power_116 (by decide) ⟨by omega, by omega⟩ ⟨by omega, by omega⟩ (fun c116 => ?_) (fun c116 => ?_)
        · refine x_iload_n (pc := 123) dX4_power_123 rfl rfl ?_
          refine x_iconst (pc := 124) dX4_power_124 ?_
          refine x_irem (pc := 125) dX4_power_125 ⟨by omega, by omega⟩ ⟨by omega, by omega⟩ (by omega) ?_
          refine x_iret (pc := 126) dX4_power_126 rfl (by decide) (by decide) ?_
          refine kE2 (k _ _ (Nat.le_refl _) Scr.rf) ?_
          rw [if_neg (fun z => z y0)]
          repeat (first | rfl | rw [if_pos (by omega)] | rw [if_neg (by omega)])
        · refine x_iconst (pc := 119) dX4_power_119 ?_
          refine x_goto (pc := 120) (t := 126) dX4_power_120 (by decide) ?_
          refine x_iret (pc := 126) dX4_power_126 rfl (by decide) (by decide) ?_
          refine kE2 (k _ _ (Nat.le_refl _) Scr.rf) ?_
          rw [if_neg (fun z => z y0)]
          repeat (first | rfl | rw [if_pos (by omega)] | rw [if_neg (by omega)])
      · refine x_throw0 (pc := 28) ct67 dX4_power_28 dX4_power_31 dX4_power_32 dX4_power_35 rfl (by decide) (Nat.le_of_ble_eq_true rfl) (Nat.le_of_ble_eq_true rfl) ?_
        have y0 := b1 c8
        intro n hn
        refine kE2 (k _ n hn Scr.rf) ?_
        rw [if_neg (fun z => z y0), if_pos (by omega)]
  · refine x_throw0 (pc := 11) ct140 dX4_power_11 dX4_power_14 dX4_power_15 dX4_power_18 rfl (by decide) (Nat.le_of_ble_eq_true rfl) (Nat.le_of_ble_eq_true rfl) ?_
    have y0 := b0 c8
    intro n hn
    refine kE2 (k _ n hn Scr.rf) ?_
    rw [if_pos y0]
set_option maxRecDepth 100000 in
theorem sp_X4_rootsOfSign {g : GG} {lay : Lay} {M : Mem} {K : KK} {b : Nat} {sv : Nat → Option Nat} {T : CT} {x : Int} (gB : GoodB) (hd : DuL lay b sv) (hb0 : g.2.1 ≤ b) (hT : Ct T M (b + 1)) (hW : WfT T) (hx : i32 x) (k : ∀ M2 n, lay.2 ≤ n → Scr b M M2 → K (rOfSgn T x) (lay.1, n) M2) : X g m_X4_rootsOfSign 0 0 lay M 0 [(0, vR b), (1, vI x)] [] K := by
  obtain ⟨hx1, hx2⟩ := hx
  have h0 := hT.2.1 0 (by decide)
  unfold rOfSgn ofSgn at k
  refine x_iload_n (pc := 0) dX4_rootsOfSign_0 rfl rfl ?_
  refine x_iconst (pc := 1) dX4_rootsOfSign_1 ?_
  refine x_icmp_lt (pc := 2) (t := 10) dX4_rootsOfSign_2 (by decide) ⟨by omega, by omega⟩ ⟨by omega, by omega⟩ (fun c2 => ?_) (fun c2 => ?_)
  · refine x_throw0 (pc := 10) ct67 dX4_rootsOfSign_10 dX4_rootsOfSign_13 dX4_rootsOfSign_14 dX4_rootsOfSign_17 rfl (by decide) (Nat.le_of_ble_eq_true rfl) (Nat.le_of_ble_eq_true rfl) ?_
    intro n hn
    refine kE2 (k _ n hn Scr.rf) ?_
    repeat (first | rfl | rw [if_pos (by omega)] | rw [if_neg (by omega)])
  · refine x_iload_n (pc := 5) dX4_rootsOfSign_5 rfl rfl ?_
    refine x_iconst (pc := 6) dX4_rootsOfSign_6 ?_
    refine x_icmp_le (pc := 7) (t := 18) dX4_rootsOfSign_7 (by decide) ⟨by omega, by omega⟩ ⟨by omega, by omega⟩ (fun c7 => ?_) (fun c7 => ?_)
    · refine x_aload_n (pc := 18) dX4_rootsOfSign_18 rfl rfl ?_
      refine x_aload_n (pc := 19) dX4_rootsOfSign_19 rfl rfl ?_
      refine x_getr (pc := 20) (b := b + 1) fX4_10 dX4_rootsOfSign_20 hd.1 rfl rfl ?_
      refine x_getr (pc := 23) (b := b + 1 + 2) fX4_147 dX4_rootsOfSign_23 hd.2.1.1 rfl rfl ?_
      refine x_callV (pc := 26) [_] rfl kX4_162 dX4_rootsOfSign_26 hd.1 rfl rfl (by decide) (Nat.le_of_ble_eq_true rfl) (Nat.le_of_ble_eq_true rfl) (by decide) ?_
      refine sp_X4_buildRows gB hd hb0 hd.2.1.2.2.1 (by omega) hW.2.1 (fun i hi => hT.2.1 i hi) (fun M2 hF2 hR2 => ?_)
      have gW := (gB (tP T) hW.2.1).2
      have hT2 : Ct T M2 (b + 1) := hT.frm hF2 (by omega)
      have hS2 : Scr b M M2 := Scr.rf.fr hF2 (by omega)
      refine ⟨_, rfl, ?_⟩
      refine x_aload_n (pc := 29) dX4_rootsOfSign_29 rfl rfl ?_
      refine x_getr (pc := 30) (b := b + 16) fX4_26 dX4_rootsOfSign_30 hd.1 rfl rfl ?_
      refine x_geti (pc := 33) fX4_226 dX4_rootsOfSign_33 hd.2.2.2.2.1.1 rfl (fun r33a r33b => ?_)
      rw [hR2.1] at r33a r33b ⊢
      refine x_if_ne (pc := 36) (t := 41) dX4_rootsOfSign_36 (by decide) ⟨by omega, by omega⟩ (fun c36 => ?_) (fun c36 => ?_)
      · refine x_aload_n (pc := 41) dX4_rootsOfSign_41 rfl rfl ?_
        refine x_getr (pc := 42) (b := b + 1) fX4_10 dX4_rootsOfSign_42 hd.1 rfl rfl ?_
        refine x_getr (pc := 45) (b := b + 1 + 2) fX4_147 dX4_rootsOfSign_45 hd.2.1.1 rfl rfl ?_
        refine x_iconst (pc := 48) dX4_rootsOfSign_48 ?_
        refine x_iald (pc := 49) dX4_rootsOfSign_49 hd.2.1.2.2.1 (by omega) (by omega) (fun r49a r49b => ?_)
        rw [show (0 : Int).toNat = 0 from rfl, hT2.2.1 0 (by decide)] at r49a r49b ⊢
        refine x_if_ne (pc := 50) (t := 57) dX4_rootsOfSign_50 (by decide) ⟨by omega, by omega⟩ (fun c50 => ?_) (fun c50 => ?_)
        · refine x_iconst (pc := 57) dX4_rootsOfSign_57 ?_
          refine x_istore_n (pc := 58) dX4_rootsOfSign_58 rfl (by decide) (L' := [(2, _), (0, _), (1, _)]) rfl ?_
          refine x_iload_n (pc := 59) dX4_rootsOfSign_59 rfl rfl ?_
          refine x_if_ne (pc := 60) (t := 65) dX4_rootsOfSign_60 (by decide) ⟨by omega, by omega⟩ (fun c60 => ?_) (fun c60 => ?_)
          · refine x_iload_n (pc := 65) dX4_rootsOfSign_65 rfl rfl ?_
            refine x_if_le (pc := 66) (t := 80) dX4_rootsOfSign_66 (by decide) ⟨by omega, by omega⟩ (fun c66 => ?_) (fun c66 => ?_)
            · refine x_aload_n (pc := 80) dX4_rootsOfSign_80 rfl rfl ?_
              refine x_getr (pc := 81) (b := b + 16) fX4_26 dX4_rootsOfSign_81 hd.1 rfl rfl ?_
              refine x_bipush (pc := 84) dX4_rootsOfSign_84 (by decide) ?_
              refine x_iconst (pc := 86) dX4_rootsOfSign_86 ?_
              refine x_callV (pc := 87) [_, _] rfl kX4_223 dX4_rootsOfSign_87 hd.2.2.2.2.1.1 rfl rfl (by decide) (Nat.le_of_ble_eq_true rfl) (Nat.le_of_ble_eq_true rfl) (by decide) ?_
              refine sp_X3_distinctBetween hd.2.2.2.2.1 hR2 gW (by omega) (by omega) (by omega) (fun M3 hF3 => ?_)
              refine ⟨_, rfl, ?_⟩
              refine x_iload_n (pc := 90) dX4_rootsOfSign_90 rfl rfl ?_
              refine x_isub (pc := 91) dX4_rootsOfSign_91 ?_
              refine x_iret (pc := 92) dX4_rootsOfSign_92 rfl (by decide) (by decide) ?_
              first
              | (refine kE2 (k _ _ (Nat.le_refl _) (hS2.fr hF3 (by omega))) ?_
                 repeat (first | rfl | rw [if_pos (by omega)] | rw [if_neg (by omega)]))
              | (refine kE2 (k _ _ (Nat.le_refl _) hS2) ?_
                 repeat (first | rfl | rw [if_pos (by omega)] | rw [if_neg (by omega)]))
            · refine x_aload_n (pc := 69) dX4_rootsOfSign_69 rfl rfl ?_
              refine x_getr (pc := 70) (b := b + 16) fX4_26 dX4_rootsOfSign_70 hd.1 rfl rfl ?_
              refine x_iconst (pc := 73) dX4_rootsOfSign_73 ?_
              refine x_bipush (pc := 74) dX4_rootsOfSign_74 (by decide) ?_
              refine x_callV (pc := 76) [_, _] rfl kX4_223 dX4_rootsOfSign_76 hd.2.2.2.2.1.1 rfl rfl (by decide) (Nat.le_of_ble_eq_true rfl) (Nat.le_of_ble_eq_true rfl) (by decide) ?_
              refine sp_X3_distinctBetween hd.2.2.2.2.1 hR2 gW (by omega) (by omega) (by omega) (fun M3 hF3 => ?_)
              refine ⟨_, rfl, ?_⟩
              refine x_iret (pc := 79) dX4_rootsOfSign_79 rfl (by decide) (by decide) ?_
              first
              | (refine kE2 (k _ _ (Nat.le_refl _) (hS2.fr hF3 (by omega))) ?_
                 repeat (first | rfl | rw [if_pos (by omega)] | rw [if_neg (by omega)]))
              | (refine kE2 (k _ _ (Nat.le_refl _) hS2) ?_
                 repeat (first | rfl | rw [if_pos (by omega)] | rw [if_neg (by omega)]))
          · refine x_iload_n (pc := 63) dX4_rootsOfSign_63 rfl rfl ?_
            refine x_iret (pc := 64) dX4_rootsOfSign_64 rfl (by decide) (by decide) ?_
            first
            | (refine kE2 (k _ _ (Nat.le_refl _) (hS2.fr hF3 (by omega))) ?_
               repeat (first | rfl | rw [if_pos (by omega)] | rw [if_neg (by omega)]))
            | (refine kE2 (k _ _ (Nat.le_refl _) hS2) ?_
               repeat (first | rfl | rw [if_pos (by omega)] | rw [if_neg (by omega)]))
        · refine x_iconst (pc := 53) dX4_rootsOfSign_53 ?_
          refine x_goto (pc := 54) (t := 58) dX4_rootsOfSign_54 (by decide) ?_
          refine x_istore_n (pc := 58) dX4_rootsOfSign_58 rfl (by decide) (L' := [(2, _), (0, _), (1, _)]) rfl ?_
          refine x_iload_n (pc := 59) dX4_rootsOfSign_59 rfl rfl ?_
          refine x_if_ne (pc := 60) (t := 65) dX4_rootsOfSign_60 (by decide) ⟨by omega, by omega⟩ (fun c60 => ?_) (fun c60 => ?_)
          · refine x_iload_n (pc := 65) dX4_rootsOfSign_65 rfl rfl ?_
            refine x_if_le (pc := 66) (t := 80) dX4_rootsOfSign_66 (by decide) ⟨by omega, by omega⟩ (fun c66 => ?_) (fun c66 => ?_)
            · refine x_aload_n (pc := 80) dX4_rootsOfSign_80 rfl rfl ?_
              refine x_getr (pc := 81) (b := b + 16) fX4_26 dX4_rootsOfSign_81 hd.1 rfl rfl ?_
              refine x_bipush (pc := 84) dX4_rootsOfSign_84 (by decide) ?_
              refine x_iconst (pc := 86) dX4_rootsOfSign_86 ?_
              refine x_callV (pc := 87) [_, _] rfl kX4_223 dX4_rootsOfSign_87 hd.2.2.2.2.1.1 rfl rfl (by decide) (Nat.le_of_ble_eq_true rfl) (Nat.le_of_ble_eq_true rfl) (by decide) ?_
              refine sp_X3_distinctBetween hd.2.2.2.2.1 hR2 gW (by omega) (by omega) (by omega) (fun M3 hF3 => ?_)
              refine ⟨_, rfl, ?_⟩
              refine x_iload_n (pc := 90) dX4_rootsOfSign_90 rfl rfl ?_
              refine x_isub (pc := 91) dX4_rootsOfSign_91 ?_
              refine x_iret (pc := 92) dX4_rootsOfSign_92 rfl (by decide) (by decide) ?_
              first
              | (refine kE2 (k _ _ (Nat.le_refl _) (hS2.fr hF3 (by omega))) ?_
                 repeat (first | rfl | rw [if_pos (by omega)] | rw [if_neg (by omega)]))
              | (refine kE2 (k _ _ (Nat.le_refl _) hS2) ?_
                 repeat (first | rfl | rw [if_pos (by omega)] | rw [if_neg (by omega)]))
            · refine x_aload_n (pc := 69) dX4_rootsOfSign_69 rfl rfl ?_
              refine x_getr (pc := 70) (b := b + 16) fX4_26 dX4_rootsOfSign_70 hd.1 rfl rfl ?_
              refine x_iconst (pc := 73) dX4_rootsOfSign_73 ?_
              refine x_bipush (pc := 74) dX4_rootsOfSign_74 (by decide) ?_
              refine x_callV (pc := 76) [_, _] rfl kX4_223 dX4_rootsOfSign_76 hd.2.2.2.2.1.1 rfl rfl (by decide) (Nat.le_of_ble_eq_true rfl) (Nat.le_of_ble_eq_true rfl) (by decide) ?_
              refine sp_X3_distinctBetween hd.2.2.2.2.1 hR2 gW (by omega) (by omega) (by omega) (fun M3 hF3 => ?_)
              refine ⟨_, rfl, ?_⟩
              refine x_iret (pc := 79) dX4_rootsOfSign_79 rfl (by decide) (by decide) ?_
              first
              | (refine kE2 (k _ _ (Nat.le_refl _) (hS2.fr hF3 (by omega))) ?_
                 repeat (first | rfl | rw [if_pos (by omega)] | rw [if_neg (by omega)]))
              | (refine kE2 (k _ _ (Nat.le_refl _) hS2) ?_
                 repeat (first | rfl | rw [if_pos (by omega)] | rw [if_neg (by omega)]))
          · refine x_iload_n (pc := 63) dX4_rootsOfSign_63 rfl rfl ?_
            refine x_iret (pc := 64) dX4_rootsOfSign_64 rfl (by decide) (by decide) ?_
            first
            | (refine kE2 (k _ _ (Nat.le_refl _) (hS2.fr hF3 (by omega))) ?_
               repeat (first | rfl | rw [if_pos (by omega)] | rw [if_neg (by omega)]))
            | (refine kE2 (k _ _ (Nat.le_refl _) hS2) ?_
               repeat (first | rfl | rw [if_pos (by omega)] | rw [if_neg (by omega)]))
      · refine x_iconst (pc := 39) dX4_rootsOfSign_39 ?_
        refine x_iret (pc := 40) dX4_rootsOfSign_40 rfl (by decide) (by decide) ?_
        first
        | (refine kE2 (k _ _ (Nat.le_refl _) (hS2.fr hF3 (by omega))) ?_
           repeat (first | rfl | rw [if_pos (by omega)] | rw [if_neg (by omega)]))
        | (refine kE2 (k _ _ (Nat.le_refl _) hS2) ?_
           repeat (first | rfl | rw [if_pos (by omega)] | rw [if_neg (by omega)]))
    · refine x_throw0 (pc := 10) ct67 dX4_rootsOfSign_10 dX4_rootsOfSign_13 dX4_rootsOfSign_14 dX4_rootsOfSign_17 rfl (by decide) (Nat.le_of_ble_eq_true rfl) (Nat.le_of_ble_eq_true rfl) ?_
      intro n hn
      refine kE2 (k _ n hn Scr.rf) ?_
      repeat (first | rfl | rw [if_pos (by omega)] | rw [if_neg (by omega)])
set_option maxRecDepth 100000 in
theorem sp_X4_near {g : GG} {lay : Lay} {M : Mem} {K : KK} {b : Nat} {sv : Nat → Option Nat} {T : CT} {i p : Int} (gB : GoodB) (hd : DuL lay b sv) (hb0 : g.2.1 ≤ b) (hT : Ct T M (b + 1)) (hW : WfT T) (hi : i32 i) (hp : i32 p) (k : ∀ M2 n, lay.2 ≤ n → Scr b M M2 → K (rNear T i p) (lay.1, n) M2) : X g m_X4_near 0 0 lay M 0 [(0, vR b), (1, vI i), (2, vI p)] [] K := by
  obtain ⟨hi1, hi2⟩ := hi
  obtain ⟨hp1, hp2⟩ := hp
  have had := allD_rng (buildF_le (tP T))
  unfold rNear belowF at k
  refine x_aload_n (pc := 0) dX4_near_0 rfl rfl ?_
  refine x_aload_n (pc := 1) dX4_near_1 rfl rfl ?_
  refine x_getr (pc := 2) (b := b + 1) fX4_10 dX4_near_2 hd.1 rfl rfl ?_
  refine x_getr (pc := 5) (b := b + 1 + 2) fX4_147 dX4_near_5 hd.2.1.1 rfl rfl ?_
  refine x_callV (pc := 8) [_] rfl kX4_162 dX4_near_8 hd.1 rfl rfl (by decide) (Nat.le_of_ble_eq_true rfl) (Nat.le_of_ble_eq_true rfl) (by decide) ?_
  refine sp_X4_buildRows gB hd hb0 hd.2.1.2.2.1 (by omega) hW.2.1 (fun i hi => hT.2.1 i hi) (fun M2 hF2 hR2 => ?_)
  have gW := (gB (tP T) hW.2.1).2
  have hT2 : Ct T M2 (b + 1) := hT.frm hF2 (by omega)
  have hS2 : Scr b M M2 := Scr.rf.fr hF2 (by omega)
  refine ⟨_, rfl, ?_⟩
  refine x_iload_n (pc := 11) dX4_near_11 rfl rfl ?_
  refine x_if_lt (pc := 12) (t := 26) dX4_near_12 (by decide) ⟨by omega, by omega⟩ (fun c12 => ?_) (fun c12 => ?_)
  · refine x_throw0 (pc := 26) ct140 dX4_near_26 dX4_near_29 dX4_near_30 dX4_near_33 rfl (by decide) (Nat.le_of_ble_eq_true rfl) (Nat.le_of_ble_eq_true rfl) ?_
    first
    | (intro n hn
       refine kE2 (k _ n hn hS3) ?_
       repeat (first | rfl | rw [if_pos (by omega)] | rw [if_neg (by omega)]))
    | (intro n hn
       refine kE2 (k _ n hn hS2) ?_
       repeat (first | rfl | rw [if_pos (by omega)] | rw [if_neg (by omega)]))
  · refine x_iload_n (pc := 15) dX4_near_15 rfl rfl ?_
    refine x_aload_n (pc := 16) dX4_near_16 rfl rfl ?_
    refine x_getr (pc := 17) (b := b + 16) fX4_26 dX4_near_17 hd.1 rfl rfl ?_
    refine x_callV (pc := 20) [] rfl kX4_213 dX4_near_20 hd.2.2.2.2.1.1 rfl rfl (by decide) (Nat.le_of_ble_eq_true rfl) (Nat.le_of_ble_eq_true rfl) (by decide) ?_
    refine sp_X3_allDistinct hd.2.2.2.2.1 hR2 gW (by omega) (fun M3 hF3 => ?_)
    have hS3 := hS2.fr hF3 (by omega)
    have hR3 := hR2.w gW.1 hF3 (by omega)
    refine ⟨_, rfl, ?_⟩
    refine x_icmp_lt (pc := 23) (t := 34) dX4_near_23 (by decide) ⟨by omega, by omega⟩ ⟨by omega, by omega⟩ (fun c23 => ?_) (fun c23 => ?_)
    · refine x_iload_n (pc := 34) dX4_near_34 rfl rfl ?_
      refine x_if_lt (pc := 35) (t := 44) dX4_near_35 (by decide) ⟨by omega, by omega⟩ (fun c35 => ?_) (fun c35 => ?_)
      · refine x_throw0 (pc := 44) ct67 dX4_near_44 dX4_near_47 dX4_near_48 dX4_near_51 rfl (by decide) (Nat.le_of_ble_eq_true rfl) (Nat.le_of_ble_eq_true rfl) ?_
        intro n hn
        refine kE2 (k _ n hn hS3) ?_
        repeat (first | rfl | rw [if_pos (by omega)] | rw [if_neg (by omega)])
      · refine x_iload_n (pc := 38) dX4_near_38 rfl rfl ?_
        refine x_bipush (pc := 39) dX4_near_39 (by decide) ?_
        refine x_icmp_le (pc := 41) (t := 52) dX4_near_41 (by decide) ⟨by omega, by omega⟩ ⟨by omega, by omega⟩ (fun c41 => ?_) (fun c41 => ?_)
        · refine x_aload_n (pc := 52) dX4_near_52 rfl rfl ?_
          refine x_getr (pc := 53) (b := b + 16) fX4_26 dX4_near_53 hd.1 rfl rfl ?_
          refine x_iload_n (pc := 56) dX4_near_56 rfl rfl ?_
          refine x_iload_n (pc := 57) dX4_near_57 rfl rfl ?_
          refine x_callV (pc := 58) [_, _] rfl kX4_233 dX4_near_58 hd.2.2.2.2.1.1 rfl rfl (by decide) (Nat.le_of_ble_eq_true rfl) (Nat.le_of_ble_eq_true rfl) (by decide) ?_
          obtain ⟨q, rfl⟩ := Int.eq_ofNat_of_zero_le (show 0 ≤ p by omega)
          refine sp_X3_below hd.2.2.2.2.1 hR3 gW (by omega) ⟨by omega, by omega⟩ (by omega) (fun M4 hF4 => ?_)
          refine ⟨_, rfl, ?_⟩
          refine x_iret (pc := 61) dX4_near_61 rfl (by decide) (by decide) ?_
          refine kE2 (k _ _ (Nat.le_refl _) (hS3.fr hF4 (by omega))) ?_
          rw [if_neg (by omega), if_neg (by omega), Int.toNat_natCast]
        · refine x_throw0 (pc := 44) ct67 dX4_near_44 dX4_near_47 dX4_near_48 dX4_near_51 rfl (by decide) (Nat.le_of_ble_eq_true rfl) (Nat.le_of_ble_eq_true rfl) ?_
          intro n hn
          refine kE2 (k _ n hn hS3) ?_
          repeat (first | rfl | rw [if_pos (by omega)] | rw [if_neg (by omega)])
    · refine x_throw0 (pc := 26) ct140 dX4_near_26 dX4_near_29 dX4_near_30 dX4_near_33 rfl (by decide) (Nat.le_of_ble_eq_true rfl) (Nat.le_of_ble_eq_true rfl) ?_
      first
      | (intro n hn
         refine kE2 (k _ n hn hS3) ?_
         repeat (first | rfl | rw [if_pos (by omega)] | rw [if_neg (by omega)]))
      | (intro n hn
         refine kE2 (k _ n hn hS2) ?_
         repeat (first | rfl | rw [if_pos (by omega)] | rw [if_neg (by omega)]))
