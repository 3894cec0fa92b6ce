/-! Specs of RootDuel, fourth part: claims, players, shifts of P. -/
/-- the coefficients of P(x + y) by powers of y, as signs of the derivatives -/
def syn4 (x : Int) (low : Nat) (w : Nat → Int) : Nat → Int := fun i => if low ≤ i ∧ i ≤ 4 then hor x w 4 (4 - i) else w i
def shiftF (x : Int) : Nat → (Nat → Int) → Nat → Int
  | 0, w => w
  | n + 1, w => syn4 x n (shiftF x n w)
def shP (P : Nat → Int) (x : Int) : Nat → Int := shiftF x 5 P
def mulF (w : Nat → Int) : Nat → Int
  | 0 => -1
  | n + 1 => if w (5 - (n + 1)) ≠ 0 then ((5 - (n + 1) : Nat) : Int) else mulF w n
def rMul (T : CT) (x : Int) : Res := if ¬ placeP x then eIA else oI (mulF (shP (tP T) x) 5)
def derCh (T : CT) (x : Int) : Int := (chZ (fun i => sg (shP (tP T) x i)) 5).1
def rChanges (T : CT) (r x : Int) : Res := if ¬ ((1 ≤ r ∧ r ≤ 2) ∧ placeP x) then eIA else oI (if r = 2 then derCh T x else (chZ (fun q => sg (valF ((buildF (tP T)).2.1 q) x 5)) (buildF (tP T)).1).1)
def surF (T : CT) (a b : Int) : Int := if (buildF (tP T)).1 = 0 then -1 else derCh T a - derCh T b - cntF a b 5 (buildF (tP T))
def rSur (T : CT) (a b : Int) : Res := if ¬ intvP a b then eIA else oI (surF T a b)
theorem p20 (k : Nat) : (1 : Int) ≤ 20 ^ k := Int.pow_pos (by decide)
theorem hor4_b {x : Int} {w : Nat → Int} {A : Int} (hx : -20 ≤ x ∧ x ≤ 20) (hA : 0 ≤ A) (hw : ∀ i, i ≤ 4 → -(A * 20 ^ (4 - i)) ≤ w i ∧ w i ≤ A * 20 ^ (4 - i)) : ∀ k : Nat, k ≤ 4 → -(A * (k + 1) * 20 ^ k) ≤ hor x w 4 k ∧ hor x w 4 k ≤ A * (k + 1) * 20 ^ k
  | 0, _ => by
    have := hw 4 (Nat.le_refl 4)
    simp only [hor, Nat.sub_self, Int.pow_zero] at *
    omega
  | k + 1, hk => by
    have h1 := hor4_b hx hA hw k (by omega)
    have h2 := hw (4 - (k + 1)) (by omega)
    rw [show 4 - (4 - (k + 1)) = k + 1 by omega] at h2
    have h3 := mulb hx.1 hx.2 h1.1 h1.2
    simp only [hor]
    have e : A * (((k + 1 : Nat) : Int) + 1) * 20 ^ (k + 1) = A * 20 ^ (k + 1) + 20 * (A * (k + 1) * 20 ^ k) := by
      rw [Int.pow_succ]
      push_cast
      grind
    rw [e]
    omega
theorem shiftF_b {x : Int} {w : Nat → Int} {A : Int} (hx : -20 ≤ x ∧ x ≤ 20) (hA : 0 ≤ A) (hw : ∀ i, i ≤ 4 → -A ≤ w i ∧ w i ≤ A) : ∀ n : Nat, ∀ i, i ≤ 4 → -(A * 5 ^ n * 20 ^ (4 - i)) ≤ shiftF x n w i ∧ shiftF x n w i ≤ A * 5 ^ n * 20 ^ (4 - i)
  | 0, i, hi => by
    have := hw i hi
    have h1 := Int.mul_le_mul_of_nonneg_left (p20 (4 - i)) hA
    simp only [shiftF, Int.pow_zero, Int.mul_one] at *
    omega
  | n + 1, i, hi => by
    have h0 : (1 : Int) ≤ 5 ^ n := Int.pow_pos (by decide)
    have h9 : 0 ≤ A * 5 ^ n := Int.mul_nonneg hA (by omega)
    have h1 := shiftF_b hx hA hw n
    have e : A * 5 ^ (n + 1) = A * 5 ^ n * 5 := by rw [Int.pow_succ]; grind
    have hp := p20 (4 - i)
    simp only [shiftF, syn4]
    rw [e]
    split
    · have h2 := hor4_b hx h9 h1 (4 - i) (by omega)
      have h4 : A * 5 ^ n * (((4 - i : Nat) : Int) + 1) * 20 ^ (4 - i) ≤ A * 5 ^ n * 5 * 20 ^ (4 - i) := Int.mul_le_mul_of_nonneg_right (Int.mul_le_mul_of_nonneg_left (by omega) h9) (by omega)
      omega
    · have h2 := h1 i hi
      have h4 : A * 5 ^ n * 20 ^ (4 - i) ≤ A * 5 ^ n * 5 * 20 ^ (4 - i) := Int.mul_le_mul_of_nonneg_right (by omega) (by omega)
      omega
theorem shiftF_64 {x : Int} {w : Nat → Int} (hx : -20 ≤ x ∧ x ≤ 20) (hw : ∀ i, i ≤ 4 → -30 ≤ w i ∧ w i ≤ 30) (n : Nat) (hn : n ≤ 5) (i : Nat) (hi : i ≤ 4) : -15000000000 ≤ shiftF x n w i ∧ shiftF x n w i ≤ 15000000000 := by
  have h1 := shiftF_b hx (A := 30) (by decide) hw n i hi
  have h2 : (5 : Int) ^ n ≤ 3125 := by
    have : n = 0 ∨ n = 1 ∨ n = 2 ∨ n = 3 ∨ n = 4 ∨ n = 5 := by omega
    rcases this with rfl | rfl | rfl | rfl | rfl | rfl <;> decide
  have h3 : (20 : Int) ^ (4 - i) ≤ 160000 := by
    have : i = 0 ∨ i = 1 ∨ i = 2 ∨ i = 3 ∨ i = 4 := by omega
    rcases this with rfl | rfl | rfl | rfl | rfl <;> decide
  have h4 : (30 : Int) * 5 ^ n * 20 ^ (4 - i) ≤ 93750 * 160000 := Int.mul_le_mul (by omega) h3 (by have := p20 (4 - i); omega) (by omega)
  omega

set_option maxRecDepth 100000 in
theorem sp_X4_player {g : GG} {lay : Lay} {M : Mem} {K : KK} {b : Nat} {sv : Nat → Option Nat} {T : CT} {pl x : Int} (gB : GoodB) (hd : DuL lay b sv) (hb0 : g.2.1 ≤ b) (hT : Ct T M (b + 1)) (hW : WfT T) (hp : i32 pl) (hx : i32 x) (k : ∀ M2 n, lay.2 ≤ n → Scr b M M2 → K (rPlayer T pl x) (lay.1, n) M2) : X g m_X4_player 0 0 lay M 0 [(0, vR b), (1, vI pl), (2, vI x)] [] K := by
  obtain ⟨hp1, hp2⟩ := hp
  obtain ⟨hx1, hx2⟩ := hx
  have z0 := @b01 (isPl pl) inferInstance
  have hK := hT.2.2.2.2.1 pl.toNat
  unfold rPlayer plrF bonusF at k
  refine x_iload_n (pc := 0) dX4_player_0 rfl rfl ?_
  refine x_callS (pc := 1) [_] rfl kX4_156 dX4_player_1 rfl (by decide) (Nat.le_of_ble_eq_true rfl) (Nat.le_of_ble_eq_true rfl) (by decide) ?_
  refine sp_X4_isPlayer ⟨hp1, hp2⟩ ?_
  refine ⟨_, rfl, ?_⟩
  refine x_if_ne (pc := 4) (t := 15) dX4_player_4 (by decide) ⟨by omega, by omega⟩ (fun c4 => ?_) (fun c4 => ?_)
  · refine x_iload_n (pc := 15) dX4_player_15 rfl rfl ?_
    refine x_if_lt (pc := 16) (t := 25) dX4_player_16 (by decide) ⟨by omega, by omega⟩ (fun c16 => ?_) (fun c16 => ?_)
    · refine x_throw0 (pc := 25) ct67 dX4_player_25 dX4_player_28 dX4_player_29 dX4_player_32 rfl (by decide) (Nat.le_of_ble_eq_true rfl) (Nat.le_of_ble_eq_true rfl) ?_
      have y0 := b1 c4
      intro n hn
      refine kE2 (k _ n hn Scr.rf) ?_
      repeat (first | rfl | rw [if_pos (by omega)] | rw [if_neg (by omega)])
    · refine x_iload_n (pc := 19) dX4_player_19 rfl rfl ?_
      refine x_bipush (pc := 20) dX4_player_20 (by decide) ?_
      refine x_icmp_le (pc := 22) (t := 33) dX4_player_22 (by decide) ⟨by omega, by omega⟩ ⟨by omega, by omega⟩ (fun c22 => ?_) (fun c22 => ?_)
      · refine x_aload_n (pc := 33) dX4_player_33 rfl rfl ?_
        refine x_aload_n (pc := 34) dX4_player_34 rfl rfl ?_
        refine x_getr (pc := 35) (b := b + 1) fX4_10 dX4_player_35 hd.1 rfl rfl ?_
        refine x_getr (pc := 38) (b := b + 1 + 2) fX4_147 dX4_player_38 hd.2.1.1 rfl rfl ?_
        refine x_callV (pc := 41) [_] rfl kX4_162 dX4_player_41 hd.1 rfl rfl (by decide) (Nat.le_of_ble_eq_true rfl) (Nat.le_of_ble_eq_true rfl) (by decide) ?_
        have y0 := b1 c4
        obtain ⟨q, rfl⟩ := Int.eq_ofNat_of_zero_le (show 0 ≤ pl by omega)
        simp only [Int.toNat_natCast] at *
        refine sp_X4_buildRows gB hd hb0 hd.2.1.2.2.1 (by omega) hW.2.1 (fun i hi => hT.2.1 i hi) (fun M2 hF2 hR2 => ?_)
        have gW := (gB (tP T) hW.2.1).2
        have hT2 : Ct T M2 (b + 1) := hT.frm hF2 (by omega)
        have hS2 : Scr b M M2 := Scr.rf.fr hF2 (by omega)
        refine ⟨_, rfl, ?_⟩
        refine x_iload_n (pc := 44) dX4_player_44 rfl rfl ?_
        by_cases s45_0 : x = 0
        · refine x_tsw_in (pc := 45) (t := 88) 0 dX4_player_45 s45_0 (by decide) (by decide) (by decide) rfl (by decide) ?_
          refine x_aload_n (pc := 88) dX4_player_88 rfl rfl ?_
          refine x_getr (pc := 89) (b := b + 1) fX4_10 dX4_player_89 hd.1 rfl rfl ?_
          refine x_iload_n (pc := 92) dX4_player_92 rfl rfl ?_
          refine x_aload_n (pc := 93) dX4_player_93 rfl rfl ?_
          refine x_getr (pc := 94) (b := b + 16) fX4_26 dX4_player_94 hd.1 rfl rfl ?_
          refine x_callV (pc := 97) [_, _] rfl kX4_174 dX4_player_97 hd.2.1.1 rfl rfl (by decide) (Nat.le_of_ble_eq_true rfl) (Nat.le_of_ble_eq_true rfl) (by decide) ?_
          refine sp_X0_score hd.2.1 hT2 hW hd.2.2.2.2.1 hR2 gW (by omega) (by omega) (by omega) (fun M3 hF3 => ?_)
          refine ⟨_, rfl, ?_⟩
          refine x_iret (pc := 100) dX4_player_100 rfl (by decide) (by decide) ?_
          first
          | (refine kE2 (k _ _ (Nat.le_refl _) (hS2.fr hF3 (by omega))) ?_
             repeat (first | rfl | rw [if_pos (by omega)] | rw [if_neg (by omega)]))
          | (refine kE2 (k _ _ (Nat.le_refl _) hS2) ?_
             repeat (first | rfl | rw [if_pos (by omega)] | rw [if_neg (by omega)]))
        by_cases s45_1 : x = 1
        · refine x_tsw_in (pc := 45) (t := 101) 1 dX4_player_45 s45_1 (by decide) (by decide) (by decide) rfl (by decide) ?_
          refine x_aload_n (pc := 101) dX4_player_101 rfl rfl ?_
          refine x_getr (pc := 102) (b := b + 1) fX4_10 dX4_player_102 hd.1 rfl rfl ?_
          refine x_iload_n (pc := 105) dX4_player_105 rfl rfl ?_
          refine x_callV (pc := 106) [_] rfl kX4_178 dX4_player_106 hd.2.1.1 rfl rfl (by decide) (Nat.le_of_ble_eq_true rfl) (Nat.le_of_ble_eq_true rfl) (by decide) ?_
          refine sp_X0_signPoints hd.2.1 hT2 hW (by omega) ?_
          refine ⟨_, rfl, ?_⟩
          refine x_iret (pc := 109) dX4_player_109 rfl (by decide) (by decide) ?_
          first
          | (refine kE2 (k _ _ (Nat.le_refl _) (hS2.fr hF3 (by omega))) ?_
             repeat (first | rfl | rw [if_pos (by omega)] | rw [if_neg (by omega)]))
          | (refine kE2 (k _ _ (Nat.le_refl _) hS2) ?_
             repeat (first | rfl | rw [if_pos (by omega)] | rw [if_neg (by omega)]))
        by_cases s45_2 : x = 2
        · refine x_tsw_in (pc := 45) (t := 110) 2 dX4_player_45 s45_2 (by decide) (by decide) (by decide) rfl (by decide) ?_
          refine x_aload_n (pc := 110) dX4_player_110 rfl rfl ?_
          refine x_getr (pc := 111) (b := b + 1) fX4_10 dX4_player_111 hd.1 rfl rfl ?_
          refine x_iload_n (pc := 114) dX4_player_114 rfl rfl ?_
          refine x_aload_n (pc := 115) dX4_player_115 rfl rfl ?_
          refine x_getr (pc := 116) (b := b + 16) fX4_26 dX4_player_116 hd.1 rfl rfl ?_
          refine x_callV (pc := 119) [_, _] rfl kX4_181 dX4_player_119 hd.2.1.1 rfl rfl (by decide) (Nat.le_of_ble_eq_true rfl) (Nat.le_of_ble_eq_true rfl) (by decide) ?_
          refine sp_X0_claimPoints hd.2.1 hT2 hW hd.2.2.2.2.1 hR2 gW (by omega) (by omega) (by omega) (fun M3 hF3 => ?_)
          refine ⟨_, rfl, ?_⟩
          refine x_iret (pc := 122) dX4_player_122 rfl (by decide) (by decide) ?_
          first
          | (refine kE2 (k _ _ (Nat.le_refl _) (hS2.fr hF3 (by omega))) ?_
             repeat (first | rfl | rw [if_pos (by omega)] | rw [if_neg (by omega)]))
          | (refine kE2 (k _ _ (Nat.le_refl _) hS2) ?_
             repeat (first | rfl | rw [if_pos (by omega)] | rw [if_neg (by omega)]))
        by_cases s45_3 : x = 3
        · refine x_tsw_in (pc := 45) (t := 123) 3 dX4_player_45 s45_3 (by decide) (by decide) (by decide) rfl (by decide) ?_
          refine x_aload_n (pc := 123) dX4_player_123 rfl rfl ?_
          refine x_getr (pc := 124) (b := b + 1) fX4_10 dX4_player_124 hd.1 rfl rfl ?_
          refine x_iload_n (pc := 127) dX4_player_127 rfl rfl ?_
          refine x_callV (pc := 128) [_] rfl kX4_184 dX4_player_128 hd.2.1.1 rfl rfl (by decide) (Nat.le_of_ble_eq_true rfl) (Nat.le_of_ble_eq_true rfl) (by decide) ?_
          refine sp_X0_bonusPoints hd.2.1 hT2 hW ⟨by omega, by omega⟩ ?_
          refine ⟨_, rfl, ?_⟩
          refine x_iret (pc := 131) dX4_player_131 rfl (by decide) (by decide) ?_
          first
          | (refine kE2 (k _ _ (Nat.le_refl _) (hS2.fr hF3 (by omega))) ?_
             repeat (first | rfl | rw [if_pos (by omega)] | rw [if_neg (by omega)]))
          | (refine kE2 (k _ _ (Nat.le_refl _) hS2) ?_
             repeat (first | rfl | rw [if_pos (by omega)] | rw [if_neg (by omega)]))
        by_cases s45_4 : x = 4
        · refine x_tsw_in (pc := 45) (t := 132) 4 dX4_player_45 s45_4 (by decide) (by decide) (by decide) rfl (by decide) ?_
          refine x_aload_n (pc := 132) dX4_player_132 rfl rfl ?_
          refine x_getr (pc := 133) (b := b + 1) fX4_10 dX4_player_133 hd.1 rfl rfl ?_
          refine x_iload_n (pc := 136) dX4_player_136 rfl rfl ?_
          refine x_callV (pc := 137) [_] rfl kX4_159 dX4_player_137 hd.2.1.1 rfl rfl (by decide) (Nat.le_of_ble_eq_true rfl) (Nat.le_of_ble_eq_true rfl) (by decide) ?_
          refine sp_X0_claimsOf hd.2.1 hT2 hW (by omega) ?_
          refine ⟨_, rfl, ?_⟩
          refine x_iret (pc := 140) dX4_player_140 rfl (by decide) (by decide) ?_
          first
          | (refine kE2 (k _ _ (Nat.le_refl _) (hS2.fr hF3 (by omega))) ?_
             repeat (first | rfl | rw [if_pos (by omega)] | rw [if_neg (by omega)]))
          | (refine kE2 (k _ _ (Nat.le_refl _) hS2) ?_
             repeat (first | rfl | rw [if_pos (by omega)] | rw [if_neg (by omega)]))
        by_cases s45_5 : x = 5
        · refine x_tsw_in (pc := 45) (t := 141) 5 dX4_player_45 s45_5 (by decide) (by decide) (by decide) rfl (by decide) ?_
          refine x_aload_n (pc := 141) dX4_player_141 rfl rfl ?_
          refine x_getr (pc := 142) (b := b + 1) fX4_10 dX4_player_142 hd.1 rfl rfl ?_
          refine x_iload_n (pc := 145) dX4_player_145 rfl rfl ?_
          refine x_callV (pc := 146) [_] rfl kX4_187 dX4_player_146 hd.2.1.1 rfl rfl (by decide) (Nat.le_of_ble_eq_true rfl) (Nat.le_of_ble_eq_true rfl) (by decide) ?_
          refine sp_X0_stakes hd.2.1 hT2 hW (by omega) ?_
          refine ⟨_, rfl, ?_⟩
          refine x_iret (pc := 149) dX4_player_149 rfl (by decide) (by decide) ?_
          first
          | (refine kE2 (k _ _ (Nat.le_refl _) (hS2.fr hF3 (by omega))) ?_
             repeat (first | rfl | rw [if_pos (by omega)] | rw [if_neg (by omega)]))
          | (refine kE2 (k _ _ (Nat.le_refl _) hS2) ?_
             repeat (first | rfl | rw [if_pos (by omega)] | rw [if_neg (by omega)]))
        by_cases s45_6 : x = 6
        · refine x_tsw_in (pc := 45) (t := 150) 6 dX4_player_45 s45_6 (by decide) (by decide) (by decide) rfl (by decide) ?_
          refine x_aload_n (pc := 150) dX4_player_150 rfl rfl ?_
          refine x_getr (pc := 151) (b := b + 1) fX4_10 dX4_player_151 hd.1 rfl rfl ?_
          refine x_iload_n (pc := 154) dX4_player_154 rfl rfl ?_
          refine x_aload_n (pc := 155) dX4_player_155 rfl rfl ?_
          refine x_getr (pc := 156) (b := b + 16) fX4_26 dX4_player_156 hd.1 rfl rfl ?_
          refine x_callV (pc := 159) [_, _] rfl kX4_190 dX4_player_159 hd.2.1.1 rfl rfl (by decide) (Nat.le_of_ble_eq_true rfl) (Nat.le_of_ble_eq_true rfl) (by decide) ?_
          refine sp_X0_rightClaims hd.2.1 hT2 hW hd.2.2.2.2.1 hR2 gW (by omega) (by omega) (by omega) (fun M3 hF3 => ?_)
          refine ⟨_, rfl, ?_⟩
          refine x_iret (pc := 162) dX4_player_162 rfl (by decide) (by decide) ?_
          first
          | (refine kE2 (k _ _ (Nat.le_refl _) (hS2.fr hF3 (by omega))) ?_
             repeat (first | rfl | rw [if_pos (by omega)] | rw [if_neg (by omega)]))
          | (refine kE2 (k _ _ (Nat.le_refl _) hS2) ?_
             repeat (first | rfl | rw [if_pos (by omega)] | rw [if_neg (by omega)]))
        refine x_tsw_out (pc := 45) (t := 163) dX4_player_45 ⟨by omega, by omega⟩ (by omega) (by decide) ?_
        refine x_aload_n (pc := 163) dX4_player_163 rfl rfl ?_
        refine x_getr (pc := 164) (b := b + 1) fX4_10 dX4_player_164 hd.1 rfl rfl ?_
        refine x_iload_n (pc := 167) dX4_player_167 rfl rfl ?_
        refine x_callV (pc := 168) [_] rfl kX4_193 dX4_player_168 hd.2.1.1 rfl rfl (by decide) (Nat.le_of_ble_eq_true rfl) (Nat.le_of_ble_eq_true rfl) (by decide) ?_
        refine sp_X0_termsOf hd.2.1 hT2 hW ⟨by omega, by omega⟩ ?_
        refine ⟨_, rfl, ?_⟩
        refine x_iret (pc := 171) dX4_player_171 rfl (by decide) (by decide) ?_
        first
        | (refine kE2 (k _ _ (Nat.le_refl _) (hS2.fr hF3 (by omega))) ?_
           repeat (first | rfl | rw [if_pos (by omega)] | rw [if_neg (by omega)]))
        | (refine kE2 (k _ _ (Nat.le_refl _) hS2) ?_
           repeat (first | rfl | rw [if_pos (by omega)] | rw [if_neg (by omega)]))
      · refine x_throw0 (pc := 25) ct67 dX4_player_25 dX4_player_28 dX4_player_29 dX4_player_32 rfl (by decide) (Nat.le_of_ble_eq_true rfl) (Nat.le_of_ble_eq_true rfl) ?_
        have y0 := b1 c4
        intro n hn
        refine kE2 (k _ n hn Scr.rf) ?_
        repeat (first | rfl | rw [if_pos (by omega)] | rw [if_neg (by omega)])
  · refine x_throw0 (pc := 7) ct140 dX4_player_7 dX4_player_10 dX4_player_11 dX4_player_14 rfl (by decide) (Nat.le_of_ble_eq_true rfl) (Nat.le_of_ble_eq_true rfl) ?_
    have y0 := b0 c4
    intro n hn
    refine kE2 (k _ n hn Scr.rf) ?_
    repeat (first | rfl | rw [if_pos (by omega)] | rw [if_neg (by omega)])
set_option maxRecDepth 100000 in
theorem sp_X4_shiftTo {g : GG} {lay : Lay} {M : Mem} {K : KK} {b : Nat} {sv : Nat → Option Nat} {T : CT} {x : Int} (gB : GoodB) (hd : DuL lay b sv) (hb0 : g.2.1 ≤ b) (hT : Ct T M (b + 1)) (hW : WfT T) (hx : -20 ≤ x ∧ x ≤ 20) (k : ∀ M2, Frm (b + 31) (b + 32) M M2 → (∀ i, i < 5 → M2 (b + 31) i = shP (tP T) x i) → K (.inl none) lay M2) : X g m_X4_shiftTo 0 0 lay M 0 [(0, vR b), (1, vI x)] [] K := by
  have wP := hW.2.1
  obtain ⟨hS, hP, hN, hm, hK, hL, hOv, hB⟩ := id hT
  have bnd := fun n => shiftF_64 (w := tP T) hx (fun i _ => ⟨(wP i).1, (wP i).2.1⟩) n
  have outer : ∀ (d n : Nat) (y : Int) (M1 : Mem), n + d = 5 → y = n → Frm (b + 31) (b + 32) M M1 → (∀ i, i < 5 → M1 (b + 31) i = shiftF x n (tP T) i) → X g m_X4_shiftTo 0 0 lay M1 31 [(2, vI y), (0, vR b), (1, vI x)] [] K := by
    intro d
    induction d with
    | zero =>
      intro n y M1 hn hy hF hw
      refine x_iload_n (pc := 31) dX4_shiftTo_31 rfl rfl ?_
      refine x_iconst (pc := 32) dX4_shiftTo_32 ?_
      refine x_icmp_ge (pc := 33) (t := 75) dX4_shiftTo_33 (by decide) ⟨by omega, by omega⟩ ⟨by omega, by omega⟩ (fun c33 => ?_) (fun c33 => ?_)
      · refine x_vret (pc := 75) dX4_shiftTo_75 rfl (by decide) (by decide) ?_
        rw [show n = 5 by omega] at hw
        exact k _ hF hw
      · exfalso; omega
    | succ d ih =>
      intro n y M1 hn hy hF hw
      have hb2 := bnd (n + 1) (by omega)
      generalize hwn : shiftF x n (tP T) = w at *
      have hsy : shiftF x (n + 1) (tP T) = syn4 x n w := by simp only [shiftF, hwn]
      rw [hsy] at hb2
      have inner : ∀ (r k1 : Nat) (z : Int) (M2 : Mem), k1 + r = 4 - n → z = 3 - (k1 : Int) → Frm (b + 31) (b + 32) M M2 → (∀ i, i < 5 → M2 (b + 31) i = if 4 - k1 ≤ i then hor x w 4 (4 - i) else w i) → X g m_X4_shiftTo 0 0 lay M2 38 [(3, vI z), (2, vI y), (0, vR b), (1, vI x)] [] K := by
        intro r
        induction r with
        | zero =>
          intro k1 z M2 hkr hz2 hF2 hw2
          refine x_iload_n (pc := 38) dX4_shiftTo_38 rfl rfl ?_
          refine x_iload_n (pc := 39) dX4_shiftTo_39 rfl rfl ?_
          refine x_icmp_lt (pc := 40) (t := 69) dX4_shiftTo_40 (by decide) ⟨by omega, by omega⟩ ⟨by omega, by omega⟩ (fun c40 => ?_) (fun c40 => ?_)
          · refine x_iinc (pc := 69) dX4_shiftTo_69 rfl (by decide) (L' := [(2, _), (3, _), (0, _), (1, _)]) rfl ?_
            refine x_goto (pc := 72) (t := 31) dX4_shiftTo_72 (by decide) ?_
            refine X.loc [0, 2, 3] (L' := [(2, _), (0, _), (1, _)]) rfl ?_
            refine ih (n + 1) _ _ (by omega) (by omega) hF2 (fun i hi => ?_)
            rw [hsy, hw2 i hi]
            unfold syn4
            by_cases e : n ≤ i
            · rw [if_pos (by omega), if_pos (by omega)]
            · rw [if_neg (by omega), if_neg (by omega)]
          · exfalso; omega
        | succ r ihr =>
          intro k1 z M2 hkr hz2 hF2 hw2
          have e8 : z.toNat = 4 - (k1 + 1) := by omega
          have e9 : (z + 1).toNat = 4 - k1 := by omega
          have e10 : M2 (b + 31) (4 - (k1 + 1)) = w (4 - (k1 + 1)) := by rw [hw2 _ (by omega), if_neg (by omega)]
          have e11 : M2 (b + 31) (4 - k1) = hor x w 4 k1 := by rw [hw2 _ (by omega), if_pos (by omega)]; congr 1; omega
          have e12 := hb2 (4 - (k1 + 1)) (by omega)
          unfold syn4 at e12
          rw [if_pos (by omega), show 4 - (4 - (k1 + 1)) = k1 + 1 by omega] at e12
          simp only [hor] at e12
          refine x_iload_n (pc := 38) dX4_shiftTo_38 rfl rfl ?_
          refine x_iload_n (pc := 39) dX4_shiftTo_39 rfl rfl ?_
          refine x_icmp_lt (pc := 40) (t := 69) dX4_shiftTo_40 (by decide) ⟨by omega, by omega⟩ ⟨by omega, by omega⟩ (fun c40 => ?_) (fun c40 => ?_)
          · exfalso; omega
          · refine x_aload_n (pc := 43) dX4_shiftTo_43 rfl rfl ?_
            refine x_getr (pc := 44) (b := b + 31) fX4_48 dX4_shiftTo_44 hd.1 rfl rfl ?_
            refine x_iload_n (pc := 47) dX4_shiftTo_47 rfl rfl ?_
            refine x_dup2 (pc := 48) dX4_shiftTo_48 rfl rfl ?_
            refine x_lald (pc := 49) dX4_shiftTo_49 hd.2.2.2.2.2.2.2.2.1 (by omega) (by omega) (fun r49a r49b => ?_)
            rw [e8, e10]
            refine x_iload_n (pc := 50) dX4_shiftTo_50 rfl rfl ?_
            refine x_i2l (pc := 51) ⟨by omega, by omega⟩ dX4_shiftTo_51 ?_
            refine x_aload_n (pc := 52) dX4_shiftTo_52 rfl rfl ?_
            refine x_getr (pc := 53) (b := b + 31) fX4_48 dX4_shiftTo_53 hd.1 rfl rfl ?_
            refine x_iload_n (pc := 56) dX4_shiftTo_56 rfl rfl ?_
            refine x_iconst (pc := 57) dX4_shiftTo_57 ?_
            refine x_iadd (pc := 58) dX4_shiftTo_58 ?_
            refine x_lald (pc := 59) dX4_shiftTo_59 hd.2.2.2.2.2.2.2.2.1 (by omega) (by omega) (fun r59a r59b => ?_)
            rw [e9, e11]
            refine x_lmul (pc := 60) dX4_shiftTo_60 ?_
            refine x_ladd (pc := 61) dX4_shiftTo_61 ?_
            refine x_last (pc := 62) dX4_shiftTo_62 hd.2.2.2.2.2.2.2.2.1 (by omega) (by omega) (by omega) ⟨by omega, by omega⟩ ?_
            refine x_iinc (pc := 63) dX4_shiftTo_63 rfl (by decide) (L' := [(3, _), (2, _), (0, _), (1, _)]) rfl ?_
            refine x_goto (pc := 66) (t := 38) dX4_shiftTo_66 (by decide) ?_
            refine X.loc [0, 1, 2, 3] (L' := [(3, _), (2, _), (0, _), (1, _)]) rfl ?_
            refine ihr (k1 + 1) _ _ (by omega) (by omega) (hF2.ms (by omega)) (fun i hi => ?_)
            by_cases e : i = 4 - (k1 + 1)
            · rw [e, e8, mset_same, if_pos (by omega), show 4 - (4 - (k1 + 1)) = k1 + 1 by omega]
              simp only [hor]
            · rw [mset_nei (by omega), hw2 i hi]
              by_cases e2 : 4 - k1 ≤ i
              · rw [if_pos e2, if_pos (by omega)]
              · rw [if_neg e2, if_neg (by omega)]
      refine x_iload_n (pc := 31) dX4_shiftTo_31 rfl rfl ?_
      refine x_iconst (pc := 32) dX4_shiftTo_32 ?_
      refine x_icmp_ge (pc := 33) (t := 75) dX4_shiftTo_33 (by decide) ⟨by omega, by omega⟩ ⟨by omega, by omega⟩ (fun c33 => ?_) (fun c33 => ?_)
      · exfalso; omega
      · refine x_iconst (pc := 36) dX4_shiftTo_36 ?_
        refine x_istore_n (pc := 37) dX4_shiftTo_37 rfl (by decide) (L' := [(3, _), (2, _), (0, _), (1, _)]) rfl ?_
        refine X.loc [0, 1, 2, 3] (L' := [(3, _), (2, _), (0, _), (1, _)]) rfl ?_
        refine inner (4 - n) 0 _ _ (by omega) (by omega) hF (fun i hi => ?_)
        by_cases e : 4 - 0 ≤ i
        · have e2 : i = 4 := by omega
          rw [if_pos e, e2]
          exact hw 4 (by decide)
        · rw [if_neg e]
          exact hw i hi
  have copy : ∀ (d j : Nat) (y : Int) (M1 : Mem), j + d = 5 → y = j → Frm (b + 31) (b + 32) M M1 → (∀ i, i < j → M1 (b + 31) i = tP T i) → X g m_X4_shiftTo 0 0 lay M1 2 [(2, vI y), (0, vR b), (1, vI x)] [] K := by
    intro d
    induction d with
    | zero =>
      intro j y M1 hj hy hF hw
      refine x_iload_n (pc := 2) dX4_shiftTo_2 rfl rfl ?_
      refine x_iconst (pc := 3) dX4_shiftTo_3 ?_
      refine x_icmp_ge (pc := 4) (t := 29) dX4_shiftTo_4 (by decide) ⟨by omega, by omega⟩ ⟨by omega, by omega⟩ (fun c4 => ?_) (fun c4 => ?_)
      · refine x_iconst (pc := 29) dX4_shiftTo_29 ?_
        refine x_istore_n (pc := 30) dX4_shiftTo_30 rfl (by decide) (L' := [(2, _), (0, _), (1, _)]) rfl ?_
        refine X.loc [0, 1, 2] (L' := [(2, _), (0, _), (1, _)]) rfl ?_
        exact outer 5 0 _ _ rfl rfl hF (fun i hi => hw i (by omega))
      · exfalso; omega
    | succ d ih =>
      intro j y M1 hj hy hF hw
      subst hy
      have e1 : M1 (b + 1 + 2) j = tP T j := by rw [hF _ _ (by omega)]; exact hP j (by omega)
      have wj := wP j
      refine x_iload_n (pc := 2) dX4_shiftTo_2 rfl rfl ?_
      refine x_iconst (pc := 3) dX4_shiftTo_3 ?_
      refine x_icmp_ge (pc := 4) (t := 29) dX4_shiftTo_4 (by decide) ⟨by omega, by omega⟩ ⟨by omega, by omega⟩ (fun c4 => ?_) (fun c4 => ?_)
      · exfalso; omega
      · refine x_aload_n (pc := 7) dX4_shiftTo_7 rfl rfl ?_
        refine x_getr (pc := 8) (b := b + 31) fX4_48 dX4_shiftTo_8 hd.1 rfl rfl ?_
        refine x_iload_n (pc := 11) dX4_shiftTo_11 rfl rfl ?_
        refine x_aload_n (pc := 12) dX4_shiftTo_12 rfl rfl ?_
        refine x_getr (pc := 13) (b := b + 1) fX4_10 dX4_shiftTo_13 hd.1 rfl rfl ?_
        refine x_getr (pc := 16) (b := b + 1 + 2) fX4_147 dX4_shiftTo_16 hd.2.1.1 rfl rfl ?_
        refine x_iload_n (pc := 19) dX4_shiftTo_19 rfl rfl ?_
        refine x_iald (pc := 20) dX4_shiftTo_20 hd.2.1.2.2.1 (by omega) (by omega) (fun r20a r20b => ?_)
        rw [Int.toNat_natCast, e1] at r20a r20b ⊢
        refine x_i2l (pc := 21) ⟨by omega, by omega⟩ dX4_shiftTo_21 ?_
        refine x_last (pc := 22) dX4_shiftTo_22 hd.2.2.2.2.2.2.2.2.1 (by omega) (by omega) (by omega) ⟨by omega, by omega⟩ ?_
        refine x_iinc (pc := 23) dX4_shiftTo_23 rfl (by decide) (L' := [(2, _), (0, _), (1, _)]) rfl ?_
        refine x_goto (pc := 26) (t := 2) dX4_shiftTo_26 (by decide) ?_
        refine X.loc [0, 1, 2] (L' := [(2, _), (0, _), (1, _)]) rfl ?_
        refine ih (j + 1) _ _ (by omega) (by omega) (hF.ms (by omega)) (fun i hi => ?_)
        by_cases e : i = j
        · rw [e, Int.toNat_natCast, mset_same]
        · rw [mset_nei (by omega)]
          exact hw i (by omega)
  refine x_iconst (pc := 0) dX4_shiftTo_0 ?_
  refine x_istore_n (pc := 1) dX4_shiftTo_1 rfl (by decide) (L' := [(2, _), (0, _), (1, _)]) rfl ?_
  refine X.loc [0, 1, 2] (L' := [(2, _), (0, _), (1, _)]) rfl ?_
  exact copy 5 0 _ _ rfl rfl Frm.rf (fun i hi => by omega)
