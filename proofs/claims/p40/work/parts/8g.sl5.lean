/-! Texts put; sign; values at parts of 64. -/
/-- the byte that stands at a place, blank behind the text -/
def btA (s : List Int) (i : Nat) : Int := if i < s.length then s.getD i 0 else 32
def wvA (s : List Int) (k : Nat) : Nat → Int
  | 0 => 0
  | q + 1 => wvA s k q * 256 + btA s (k + q)
theorem btA_rng {s : List Int} (h : ∀ i, i < s.length → 0 ≤ s.getD i 0 ∧ s.getD i 0 < 128) (i : Nat) : 0 ≤ btA s i ∧ btA s i < 128 := by
  unfold btA
  split
  · exact h i (by assumption)
  · omega
theorem wvA_rng {s : List Int} (h : ∀ i, i < s.length → 0 ≤ s.getD i 0 ∧ s.getD i 0 < 128) (k : Nat) : wvA s k 0 = 0 ∧ (0 ≤ wvA s k 1 ∧ wvA s k 1 < 128) ∧ (0 ≤ wvA s k 2 ∧ wvA s k 2 < 32768) ∧ (0 ≤ wvA s k 3 ∧ wvA s k 3 < 8388608) ∧ (0 ≤ wvA s k 4 ∧ wvA s k 4 < 2147483648) := by
  have a0 := btA_rng h (k + 0)
  have a1 := btA_rng h (k + 1)
  have a2 := btA_rng h (k + 2)
  have a3 := btA_rng h (k + 3)
  have e0 : wvA s k 0 = 0 := rfl
  have e1 : wvA s k 1 = wvA s k 0 * 256 + btA s (k + 0) := rfl
  have e2 : wvA s k 2 = wvA s k 1 * 256 + btA s (k + 1) := rfl
  have e3 : wvA s k 3 = wvA s k 2 * 256 + btA s (k + 2) := rfl
  have e4 : wvA s k 4 = wvA s k 3 * 256 + btA s (k + 3) := rfl
  clear h
  omega
theorem bmodA {y : Int} (h0 : 0 ≤ y % 256) (h : y % 256 < 128) : y.bmod 256 = y % 256 := by
  rw [Int.bmod_def]
  rw [if_pos (by omega)]
  rfl
/-- what the word puts -/
theorem apTxA {s : List Int} (h : ∀ i, i < s.length → 0 ≤ s.getD i 0 ∧ s.getD i 0 < 128) (tx : Nat → Int) (k : Nat) : (∀ i, i < k → apTx (wvA s k 4) 4 tx k i = tx i) ∧ (∀ i, k ≤ i → i < k + 4 → apTx (wvA s k 4) 4 tx k i = btA s i) := by
  have a0 := btA_rng h (k + 0)
  have a1 := btA_rng h (k + 1)
  have a2 := btA_rng h (k + 2)
  have a3 := btA_rng h (k + 3)
  have e : wvA s k 4 = (((0 * 256 + btA s (k + 0)) * 256 + btA s (k + 1)) * 256 + btA s (k + 2)) * 256 + btA s (k + 3) := rfl
  generalize wvA s k 4 = x at *
  have b3 : (x / 2 ^ (8 * 3)).bmod 256 = btA s (k + 0) := by
    rw [show (2 : Int) ^ (8 * 3) = 16777216 from rfl, bmodA (by omega) (by omega)]
    omega
  have b2 : (x / 2 ^ (8 * 2)).bmod 256 = btA s (k + 1) := by
    rw [show (2 : Int) ^ (8 * 2) = 65536 from rfl, bmodA (by omega) (by omega)]
    omega
  have b1 : (x / 2 ^ (8 * 1)).bmod 256 = btA s (k + 2) := by
    rw [show (2 : Int) ^ (8 * 1) = 256 from rfl, bmodA (by omega) (by omega)]
    omega
  have b0 : (x / 2 ^ (8 * 0)).bmod 256 = btA s (k + 3) := by
    rw [show (2 : Int) ^ (8 * 0) = 1 from rfl, bmodA (by omega) (by omega)]
    omega
  simp only [apTx, b0, b1, b2, b3, fup]
  constructor
  · intro i hi
    rw [if_neg (by omega), if_neg (by omega), if_neg (by omega), if_neg (by omega)]
  · intro i h1 h2
    rcases (show i = k ∨ i = k + 1 ∨ i = k + 2 ∨ i = k + 3 by omega) with rfl | rfl | rfl | rfl
    · rw [if_neg (by omega), if_neg (by omega), if_neg (by omega), if_pos rfl]
      rfl
    · rw [if_neg (by omega), if_neg (by omega), if_pos rfl]
    · rw [if_neg (by omega), if_pos (by omega)]
    · rw [if_pos (by omega)]

set_option maxRecDepth 100000 in
theorem sp_L_puts {g : GG} {lay : Lay} {M : Mem} {K : KK} {b n a : Nat} {sv : Nat → Option Nat} {tx v : Nat → Int} {s : List Int} (hd : DuL lay b sv) (hb0 : g.2.1 ≤ b) (hr : Rd tx n v M (b + 25)) (hs : StP lay M a s) (hs9 : s.length ≤ 600) (hb9 : ∀ i, i < s.length → 0 ≤ s.getD i 0 ∧ s.getD i 0 < 128) (ha9 : b + 32 ≤ a) (hav : ∀ v, M a 0 = er v → ¬ (b + 25 ≤ v ∧ v < b + 27)) (k : ∀ M2 tx2 v2, Frm (b + 25) (b + 27) M M2 → Rd tx2 s.length v2 M2 (b + 25) → (∀ i, i < s.length → tx2 i = s.getD i 0) → K (.inl none) lay M2) : X g m_L_puts 0 0 lay M 0 [(0, vR b), (1, vR a)] [] K := by
  have hsE : ∀ M2, Frm (b + 25) (b + 27) M M2 → StP lay M2 a s := fun M2 hF => by
    obtain ⟨h1, h2, v, h3, h4, h5⟩ := hs
    have hv9 := hav v h3
    exact ⟨h1, (hF _ _ (by omega)).trans h2, v, (hF _ _ (by omega)).trans h3, h4, fun i hi => (hF _ _ (by omega)).trans (h5 i hi)⟩
  have loop : ∀ d kk : Nat, (kk + 4 * d = s.length + 3 ∨ kk + 4 * d = s.length + 2 ∨ kk + 4 * d = s.length + 1 ∨ kk + 4 * d = s.length) → kk % 4 = 0 → ∀ (M1 : Mem) (z : Int) (tx1 v1 : Nat → Int) (cn ck : Nat), cn ≤ 1 + kk / 4 → ck ≤ 6 * (1 + kk / 4) → Frm (b + 25) (b + 27) M M1 → Rd tx1 kk v1 M1 (b + 25) → (∀ i, i < kk → i < s.length → tx1 i = s.getD i 0) → X g m_L_puts cn ck lay M1 8 [(3, vI (kk : Nat)), (2, vI z), (0, vR b), (1, vR a)] [] K := by
    intro d
    induction d with
    | zero =>
      intro kk hk hk4 M1 z tx1 v1 cn ck hcn hck hF hr1 ht
      have hs1 := hsE M1 hF
      refine x_iload_n (pc := 8) dL_puts_8 rfl rfl ?_
      refine x_aload_n (pc := 9) dL_puts_9 rfl rfl ?_
      refine x_callV (pc := 10) [] rfl kL_14 dL_puts_10 hs1.1.1 rfl rfl (by decide) (Nat.le_of_ble_eq_true rfl) (Nat.le_of_ble_eq_true rfl) (show _ + 0 ≤ 200 ∧ _ + 0 ≤ 1200 by omega) ?_
      refine sp_J0_length_m hs1 hs9 ?_
      refine ⟨_, rfl, ?_⟩
      refine X.cs (cn' := cn) (ck' := ck) ?_ (Nat.le_refl _) (Nat.le_refl _)
      refine x_icmp_ge (pc := 13) (t := 77) dL_puts_13 (by decide) ⟨by omega, by omega⟩ ⟨by omega, by omega⟩ (fun c13 => ?_) (fun c13 => ?_)
      · refine x_aload_n (pc := 77) dL_puts_77 rfl rfl ?_
        refine x_aload_n (pc := 78) dL_puts_78 rfl rfl ?_
        refine x_callV (pc := 79) [] rfl kL_14 dL_puts_79 hs1.1.1 rfl rfl (by decide) (Nat.le_of_ble_eq_true rfl) (Nat.le_of_ble_eq_true rfl) (show _ + 0 ≤ 200 ∧ _ + 0 ≤ 1200 by omega) ?_
        refine sp_J0_length_m hs1 hs9 ?_
        refine ⟨_, rfl, ?_⟩
        refine X.cs (cn' := cn) (ck' := ck) ?_ (Nat.le_refl _) (Nat.le_refl _)
        refine x_callV (pc := 82) [_] rfl kL_8 dL_puts_82 hd.1 rfl rfl (by decide) (Nat.le_of_ble_eq_true rfl) (Nat.le_of_ble_eq_true rfl) (show _ + 1 ≤ 200 ∧ _ + 6 ≤ 1200 by omega) ?_
        refine sp_X4_truncateText hd hb0 hr1 ⟨by omega, by omega⟩ (fun h => absurd (show (0 : Int) ≤ (s.length : Nat) ∧ ((s.length : Nat) : Int) ≤ (kk : Nat) by omega) h) (fun _ _ M3 hF3 hr3 => ?_)
        refine ⟨_, rfl, ?_⟩
        refine X.cs (cn' := cn + 1) (ck' := ck + 6) ?_ (Nat.le_refl _) (Nat.le_refl _)
        refine x_istore_n (pc := 85) dL_puts_85 rfl (by decide) (L' := [(2, _), (3, _), (0, _), (1, _)]) rfl ?_
        refine X.cs (cn' := 200) (ck' := 1200) ?_ (by omega) (by omega)
        refine x_vret (pc := 86) dL_puts_86 rfl (by decide) (by decide) ?_
        rw [Int.toNat_natCast] at hr3
        exact k M3 tx1 _ (fun x i hx => (hF3 x i (by omega)).trans (hF x i hx)) hr3 (fun i hi => ht i (by omega) hi)
      · exfalso; omega
    | succ d ih =>
      intro kk hk hk4 M1 z tx1 v1 cn ck hcn hck hF hr1 ht
      have hs1 := hsE M1 hF
      have wr := wvA_rng hb9 kk
      have inner : ∀ e q : Nat, q + e = 4 → X g m_L_puts cn ck lay M1 22 [(4, vI (wvA s kk q)), (5, vI (kk + q : Nat)), (3, vI (kk : Nat)), (2, vI z), (0, vR b), (1, vR a)] [] K := by
        intro e
        induction e with
        | zero =>
          intro q hq
          have eq : q = 4 := by omega
          subst eq
          refine x_iload (pc := 22) dL_puts_22 rfl ?_
          refine x_iload_n (pc := 24) dL_puts_24 rfl rfl ?_
          refine x_iconst (pc := 25) dL_puts_25 ?_
          refine x_iadd (pc := 26) dL_puts_26 ?_
          refine x_icmp_ge (pc := 27) (t := 64) dL_puts_27 (by decide) ⟨by omega, by omega⟩ ⟨by omega, by omega⟩ (fun c27 => ?_) (fun c27 => ?_)
          · refine x_aload_n (pc := 64) dL_puts_64 rfl rfl ?_
            refine x_iload (pc := 65) dL_puts_65 rfl ?_
            refine x_callV (pc := 67) [_] rfl kL_24 dL_puts_67 hd.1 rfl rfl (by decide) (Nat.le_of_ble_eq_true rfl) (Nat.le_of_ble_eq_true rfl) (show _ + 1 ≤ 200 ∧ _ + 6 ≤ 1200 by omega) ?_
            refine sp_X4_appendText hd hb0 hr1 ⟨by omega, by omega⟩ (fun h => absurd h (by omega)) (fun _ M3 hF3 hr3 => ?_)
            refine ⟨_, rfl, ?_⟩
            refine X.cs (cn' := cn + 1) (ck' := ck + 6) ?_ (Nat.le_refl _) (Nat.le_refl _)
            refine x_istore_n (pc := 70) dL_puts_70 rfl (by decide) (L' := [(2, _), (4, _), (5, _), (3, _), (0, _), (1, _)]) rfl ?_
            refine x_iinc (pc := 71) dL_puts_71 rfl (by decide) (L' := [(3, _), (2, _), (4, _), (5, _), (0, _), (1, _)]) rfl ?_
            refine x_goto (pc := 74) (t := 8) dL_puts_74 (by decide) ?_
            refine X.loc [0, 1, 4, 5] (L' := [(3, _), (2, _), (0, _), (1, _)]) rfl ?_
            have ap := apTxA hb9 tx1 kk
            have l1 := ih (kk + 4) (by omega) (by omega) M3 (kk + 4 : Nat) _ _ (cn + 1) (ck + 6) (by omega) (by omega) (fun x i hx => (hF3 x i hx).trans (hF x i hx)) hr3 (fun i h1 h2 => ?_)
            · exact l1
            · by_cases c9 : i < kk
              · exact (ap.1 i c9).trans (ht i c9 h2)
              · exact (ap.2 i (by omega) (by omega)).trans (if_pos h2)
          · exfalso; omega
        | succ e ihe =>
          intro q hq
          have bt := btA_rng hb9 (kk + q)
          have wq : 0 ≤ wvA s kk q ∧ wvA s kk q < 8388608 := by
            rcases (show q = 0 ∨ q = 1 ∨ q = 2 ∨ q = 3 by omega) with rfl | rfl | rfl | rfl <;> omega
          have bs : btA s (kk + q) = if kk + q < s.length then s.getD (kk + q) 0 else 32 := rfl
          refine x_iload (pc := 22) dL_puts_22 rfl ?_
          refine x_iload_n (pc := 24) dL_puts_24 rfl rfl ?_
          refine x_iconst (pc := 25) dL_puts_25 ?_
          refine x_iadd (pc := 26) dL_puts_26 ?_
          refine x_icmp_ge (pc := 27) (t := 64) dL_puts_27 (by decide) ⟨by omega, by omega⟩ ⟨by omega, by omega⟩ (fun c27 => ?_) (fun c27 => ?_)
          · exfalso; omega
          · refine x_iload (pc := 30) dL_puts_30 rfl ?_
            refine x_bipush (pc := 32) dL_puts_32 (by decide) ?_
            refine x_ishl (pc := 34) 8 (by decide) rfl dL_puts_34 ?_
            refine x_iload (pc := 35) dL_puts_35 rfl ?_
            refine x_aload_n (pc := 37) dL_puts_37 rfl rfl ?_
            refine x_callV (pc := 38) [] rfl kL_14 dL_puts_38 hs1.1.1 rfl rfl (by decide) (Nat.le_of_ble_eq_true rfl) (Nat.le_of_ble_eq_true rfl) (show _ + 0 ≤ 200 ∧ _ + 0 ≤ 1200 by omega) ?_
            refine sp_J0_length_m hs1 hs9 ?_
            refine ⟨_, rfl, ?_⟩
            refine X.cs (cn' := cn) (ck' := ck) ?_ (Nat.le_refl _) (Nat.le_refl _)
            refine x_icmp_ge (pc := 41) (t := 53) dL_puts_41 (by decide) ⟨by omega, by omega⟩ ⟨by omega, by omega⟩ (fun c41 => ?_) (fun c41 => ?_)
            · refine x_bipush (pc := 53) dL_puts_53 (by decide) ?_
              refine x_iorb (pc := 55) (by omega) (by omega) (by omega) (by omega) dL_puts_55 ?_
              refine x_istore (pc := 56) dL_puts_56 trivial (by decide) (L' := [(4, _), (5, _), (3, _), (2, _), (0, _), (1, _)]) rfl ?_
              refine x_iinc (pc := 58) dL_puts_58 rfl (by decide) (L' := [(5, _), (4, _), (3, _), (2, _), (0, _), (1, _)]) rfl ?_
              refine x_goto (pc := 61) (t := 22) dL_puts_61 (by decide) ?_
              refine X.loc [1, 0, 2, 3, 4, 5] (L' := [(4, _), (5, _), (3, _), (2, _), (0, _), (1, _)]) rfl ?_
              have l1 := ihe (q + 1) (by omega)
              rw [show wvA s kk (q + 1) = wvA s kk q * 256 + btA s (kk + q) from rfl] at l1
              first
              | (rw [bs, if_pos (by omega)] at l1; exact l1)
              | (rw [bs, if_neg (by omega)] at l1; exact l1)
            · refine x_aload_n (pc := 44) dL_puts_44 rfl rfl ?_
              refine x_iload (pc := 45) dL_puts_45 rfl ?_
              refine x_callV (pc := 47) [_] rfl kL_20 dL_puts_47 hs1.1.1 rfl rfl (by decide) (Nat.le_of_ble_eq_true rfl) (Nat.le_of_ble_eq_true rfl) (show _ + 0 ≤ 200 ∧ _ + 0 ≤ 1200 by omega) ?_
              refine sp_J0_charAt_m hs1 hs9 (by omega) (by omega) (by rw [Int.toNat_natCast]; exact hb9 _ (by omega)) ?_
              rw [Int.toNat_natCast]
              refine ⟨_, rfl, ?_⟩
              refine X.cs (cn' := cn) (ck' := ck) ?_ (Nat.le_refl _) (Nat.le_refl _)
              refine x_goto (pc := 50) (t := 55) dL_puts_50 (by decide) ?_
              refine x_iorb (pc := 55) (by omega) (by omega) (by omega) (by omega) dL_puts_55 ?_
              refine x_istore (pc := 56) dL_puts_56 trivial (by decide) (L' := [(4, _), (5, _), (3, _), (2, _), (0, _), (1, _)]) rfl ?_
              refine x_iinc (pc := 58) dL_puts_58 rfl (by decide) (L' := [(5, _), (4, _), (3, _), (2, _), (0, _), (1, _)]) rfl ?_
              refine x_goto (pc := 61) (t := 22) dL_puts_61 (by decide) ?_
              refine X.loc [1, 0, 2, 3, 4, 5] (L' := [(4, _), (5, _), (3, _), (2, _), (0, _), (1, _)]) rfl ?_
              have l1 := ihe (q + 1) (by omega)
              rw [show wvA s kk (q + 1) = wvA s kk q * 256 + btA s (kk + q) from rfl] at l1
              first
              | (rw [bs, if_pos (by omega)] at l1; exact l1)
              | (rw [bs, if_neg (by omega)] at l1; exact l1)
      have i0 := inner 4 0 (by omega)
      refine x_iload_n (pc := 8) dL_puts_8 rfl rfl ?_
      refine x_aload_n (pc := 9) dL_puts_9 rfl rfl ?_
      refine x_callV (pc := 10) [] rfl kL_14 dL_puts_10 hs1.1.1 rfl rfl (by decide) (Nat.le_of_ble_eq_true rfl) (Nat.le_of_ble_eq_true rfl) (show _ + 0 ≤ 200 ∧ _ + 0 ≤ 1200 by omega) ?_
      refine sp_J0_length_m hs1 hs9 ?_
      refine ⟨_, rfl, ?_⟩
      refine X.cs (cn' := cn) (ck' := ck) ?_ (Nat.le_refl _) (Nat.le_refl _)
      refine x_icmp_ge (pc := 13) (t := 77) dL_puts_13 (by decide) ⟨by omega, by omega⟩ ⟨by omega, by omega⟩ (fun c13 => ?_) (fun c13 => ?_)
      · exfalso; omega
      · refine x_iconst (pc := 16) dL_puts_16 ?_
        refine x_istore (pc := 17) dL_puts_17 trivial (by decide) (L' := [(4, _), (3, _), (2, _), (0, _), (1, _)]) rfl ?_
        refine x_iload_n (pc := 19) dL_puts_19 rfl rfl ?_
        refine x_istore (pc := 20) dL_puts_20 trivial (by decide) (L' := [(5, _), (4, _), (3, _), (2, _), (0, _), (1, _)]) rfl ?_
        refine X.loc [1, 0, 2, 3, 4, 5] (L' := [(4, _), (5, _), (3, _), (2, _), (0, _), (1, _)]) rfl ?_
        exact i0
  refine x_aload_n (pc := 0) dL_puts_0 rfl rfl ?_
  refine x_iconst (pc := 1) dL_puts_1 ?_
  refine x_callV (pc := 2) [_] rfl kL_8 dL_puts_2 hd.1 rfl rfl (by decide) (Nat.le_of_ble_eq_true rfl) (Nat.le_of_ble_eq_true rfl) (show _ + 1 ≤ 200 ∧ _ + 6 ≤ 1200 by omega) ?_
  refine sp_X4_truncateText hd hb0 hr ⟨by omega, by omega⟩ (fun h => absurd (show (0 : Int) ≤ 0 ∧ (0 : Int) ≤ (n : Nat) by omega) h) (fun _ _ M1 hF hr1 => ?_)
  refine ⟨_, rfl, ?_⟩
  refine X.cs (cn' := 0 + 1) (ck' := 0 + 6) ?_ (Nat.le_refl _) (Nat.le_refl _)
  refine x_istore_n (pc := 5) dL_puts_5 rfl (by decide) (L' := [(2, _), (0, _), (1, _)]) rfl ?_
  refine x_iconst (pc := 6) dL_puts_6 ?_
  refine x_istore_n (pc := 7) dL_puts_7 rfl (by decide) (L' := [(3, _), (2, _), (0, _), (1, _)]) rfl ?_
  refine X.loc [0, 1, 2, 3] (L' := [(3, _), (2, _), (0, _), (1, _)]) rfl ?_
  exact loop ((s.length + 3) / 4) 0 (by omega) (by omega) M1 _ tx _ _ _ (by omega) (by omega) (fun x i hx => hF x i (by omega)) hr1 (fun i hi => absurd hi (Nat.not_lt_zero i))
set_option maxRecDepth 100000 in
theorem sp_L_sign {g : GG} {lay : Lay} {M : Mem} {K : KK} {v : Int} (hv : -4611686018427387904 < v ∧ v < 4611686018427387904) (k : K (.inl (some (vI (sg v)))) lay M) : X g m_L_sign 0 0 lay M 0 [(0, vJ v)] [] K := by
  refine x_lload_n (pc := 0) dL_sign_0 rfl rfl ?_
  refine x_lconst (pc := 1) (x := 0) dL_sign_1 (by decide) ?_
  refine x_lcmp_le (pc := 2) (t := 10) dL_sign_2 dL_sign_3 (by decide) ⟨by omega, by omega⟩ ⟨by omega, by omega⟩ (fun c2 => ?_) (fun c2 => ?_)
  · refine x_lload_n (pc := 10) dL_sign_10 rfl rfl ?_
    refine x_lconst (pc := 11) (x := 0) dL_sign_11 (by decide) ?_
    refine x_lcmp_ge (pc := 12) (t := 20) dL_sign_12 dL_sign_13 (by decide) ⟨by omega, by omega⟩ ⟨by omega, by omega⟩ (fun c12 => ?_) (fun c12 => ?_)
    · refine x_iconst (pc := 20) dL_sign_20 ?_
      refine x_iret (pc := 21) dL_sign_21 rfl (by decide) (by decide) ?_
      first
      | (rw [sg, if_pos (by omega)] at k; exact k)
      | (rw [sg, if_neg (by omega), if_pos (by omega)] at k; exact k)
      | (rw [sg, if_neg (by omega), if_neg (by omega)] at k; exact k)
    · refine x_iconst (pc := 16) dL_sign_16 ?_
      refine x_goto (pc := 17) (t := 21) dL_sign_17 (by decide) ?_
      refine x_iret (pc := 21) dL_sign_21 rfl (by decide) (by decide) ?_
      first
      | (rw [sg, if_pos (by omega)] at k; exact k)
      | (rw [sg, if_neg (by omega), if_pos (by omega)] at k; exact k)
      | (rw [sg, if_neg (by omega), if_neg (by omega)] at k; exact k)
  · refine x_iconst (pc := 6) dL_sign_6 ?_
    refine x_goto (pc := 7) (t := 21) dL_sign_7 (by decide) ?_
    refine x_iret (pc := 21) dL_sign_21 rfl (by decide) (by decide) ?_
    first
    | (rw [sg, if_pos (by omega)] at k; exact k)
    | (rw [sg, if_neg (by omega), if_pos (by omega)] at k; exact k)
    | (rw [sg, if_neg (by omega), if_neg (by omega)] at k; exact k)
def itsA (x : Int) : Nat → Int
  | 0 => x
  | m + 1 => itsA x m * 64
/-- the value at n parts of 64, times 64 to the degree, from the top -/
def fnA (P : Nat → Int) (top : Nat) (n : Int) : Nat → Int
  | 0 => 0
  | j + 1 => fnA P top n j * n + itsA (P (top - j)) j
set_option maxRecDepth 100000 in
theorem sp_L_fine {g : GG} {lay : Lay} {M : Mem} {K : KK} {c pw : Nat} {S P La : Nat → Int} {tn : Nat} {hp hc ov bt : Int} {n : Int} (hQ : LcQ g lay M c pw S P La tn hp hc ov bt) (hW : LcW pw S P La tn hp hc ov bt) (hn : i32 n) (k : K (.inl (some (vJ (fnA P (pw - 1) n pw)))) lay M) : X g m_L_fine 0 0 lay M 0 [(0, vR c), (1, vI n)] [] K := by
  obtain ⟨⟨hk, hco, hla, wc⟩, ⟨r0, r1, r2⟩, vP, vL, vS, q9, q10, q11, q12, q13⟩ := id hQ
  obtain ⟨w1, ⟨-, s1, s2, s3, s4, s5, s6⟩, wP, wL, w2, w3, w4, w5, w6⟩ := id hW
  obtain ⟨y3, y4, y5, y6, y7, y8⟩ := S1 vS
  obtain ⟨n1, n2⟩ := hn
  have loop : ∀ d j : Nat, j + d = pw → X g m_L_fine 0 0 lay M 15 [(5, vI ((pw : Nat) - 1 - (j : Nat))), (4, vI ((pw : Nat) - 1)), (2, vJ (fnA P (pw - 1) n j)), (0, vR c), (1, vI n)] [] K := by
    intro d
    induction d with
    | zero =>
      intro j hj
      have e6 : j = pw := by omega
      subst e6
      refine x_iload (pc := 15) dL_fine_15 rfl ?_
      refine x_if_lt (pc := 17) (t := 69) dL_fine_17 (by decide) ⟨by omega, by omega⟩ (fun c17 => ?_) (fun c17 => ?_)
      · refine x_lload_n (pc := 69) dL_fine_69 rfl rfl ?_
        refine x_lret (pc := 70) dL_fine_70 rfl (by decide) (by decide) ?_
        exact k
      · exfalso; omega
    | succ d ih =>
      intro j hj
      obtain ⟨q, hq⟩ : ∃ q : Nat, q + j + 1 = pw := ⟨pw - 1 - j, by omega⟩
      have eq9 : ((pw : Nat) : Int) - 1 - (j : Nat) = (q : Nat) := by omega
      have eq8 : pw - 1 - j = q := by omega
      have ef : fnA P (pw - 1) n (j + 1) = fnA P (pw - 1) n j * n + itsA (P (pw - 1 - j)) j := rfl
      rw [eq8] at ef
      have e9 := vP q (by omega)
      have e8 := wP q
      have e7 : ((q : Nat) : Int).toNat = q := Int.toNat_natCast q
      rw [eq9]
      have inner : ∀ e m : Nat, m + e = j → X g m_L_fine 0 0 lay M 34 [(8, vI (q + m : Nat)), (6, vJ (itsA (P q) m)), (5, vI (q : Nat)), (4, vI ((pw : Nat) - 1)), (2, vJ (fnA P (pw - 1) n j)), (0, vR c), (1, vI n)] [] K := by
        intro e
        induction e with
        | zero =>
          intro m hm
          have em : m = j := by omega
          subst em
          refine x_iload (pc := 34) dL_fine_34 rfl ?_
          refine x_iload (pc := 36) dL_fine_36 rfl ?_
          refine x_icmp_ge (pc := 38) (t := 55) dL_fine_38 (by decide) ⟨by omega, by omega⟩ ⟨by omega, by omega⟩ (fun c38 => ?_) (fun c38 => ?_)
          · refine x_lload_n (pc := 55) dL_fine_55 rfl rfl ?_
            refine x_iload_n (pc := 56) dL_fine_56 rfl rfl ?_
            refine x_i2l (pc := 57) ⟨by omega, by omega⟩ dL_fine_57 ?_
            refine x_lmul (pc := 58) dL_fine_58 ?_
            refine x_lload (pc := 59) dL_fine_59 rfl ?_
            refine x_ladd (pc := 61) dL_fine_61 ?_
            refine x_lstore_n (pc := 62) dL_fine_62 rfl (by decide) (L' := [(2, _), (8, _), (6, _), (5, _), (4, _), (0, _), (1, _)]) rfl ?_
            refine x_iinc (pc := 63) dL_fine_63 rfl (by decide) (L' := [(5, _), (2, _), (8, _), (6, _), (4, _), (0, _), (1, _)]) rfl ?_
            refine x_goto (pc := 66) (t := 15) dL_fine_66 (by decide) ?_
            refine X.loc [0, 4, 1, 5, 6] (L' := [(5, _), (4, _), (2, _), (0, _), (1, _)]) rfl ?_
            have l1 := ih (m + 1) (by omega)
            rw [ef, show ((pw : Nat) : Int) - 1 - ((m + 1 : Nat) : Int) = (q : Nat) + -1 by omega] at l1
            exact l1
          · exfalso; omega
        | succ e ihe =>
          intro m hm
          refine x_iload (pc := 34) dL_fine_34 rfl ?_
          refine x_iload (pc := 36) dL_fine_36 rfl ?_
          refine x_icmp_ge (pc := 38) (t := 55) dL_fine_38 (by decide) ⟨by omega, by omega⟩ ⟨by omega, by omega⟩ (fun c38 => ?_) (fun c38 => ?_)
          · exfalso; omega
          · refine x_lload (pc := 41) dL_fine_41 rfl ?_
            refine x_ldc2 (pc := 43) 64 klL_33 (by decide) dL_fine_43 ?_
            refine x_lmul (pc := 46) dL_fine_46 ?_
            refine x_lstore (pc := 47) dL_fine_47 trivial (by decide) (L' := [(6, _), (8, _), (5, _), (4, _), (2, _), (0, _), (1, _)]) rfl ?_
            refine x_iinc (pc := 49) dL_fine_49 rfl (by decide) (L' := [(8, _), (6, _), (5, _), (4, _), (2, _), (0, _), (1, _)]) rfl ?_
            refine x_goto (pc := 52) (t := 34) dL_fine_52 (by decide) ?_
            refine X.loc [0, 1, 2, 3, 4, 5, 6] (L' := [(8, _), (6, _), (5, _), (4, _), (2, _), (0, _), (1, _)]) rfl ?_
            exact ihe (m + 1) (by omega)
      have i0 := inner j 0 (by omega)
      refine x_iload (pc := 15) dL_fine_15 rfl ?_
      refine x_if_lt (pc := 17) (t := 69) dL_fine_17 (by decide) ⟨by omega, by omega⟩ (fun c17 => ?_) (fun c17 => ?_)
      · exfalso; omega
      · refine x_aload_n (pc := 20) dL_fine_20 rfl rfl ?_
        refine x_getrN (pc := 21) (b := (c + 3)) frL_27 dL_fine_21 hk.1 rfl r0 rfl ?_
        refine x_iload (pc := 24) dL_fine_24 rfl ?_
        refine x_iald (pc := 26) dL_fine_26 hco.1 (by omega) (by omega) (fun r26a r26b => ?_)
        rw [e7, e9]
        refine x_i2l (pc := 27) ⟨by omega, by omega⟩ dL_fine_27 ?_
        refine x_lstore (pc := 28) dL_fine_28 trivial (by decide) (L' := [(6, _), (5, _), (4, _), (2, _), (0, _), (1, _)]) rfl ?_
        refine x_iload (pc := 30) dL_fine_30 rfl ?_
        refine x_istore (pc := 32) dL_fine_32 trivial (by decide) (L' := [(8, _), (6, _), (5, _), (4, _), (2, _), (0, _), (1, _)]) rfl ?_
        refine X.loc [0, 1, 2, 3, 4, 5, 6] (L' := [(8, _), (6, _), (5, _), (4, _), (2, _), (0, _), (1, _)]) rfl ?_
        exact i0
  refine x_lconst (pc := 0) (x := 0) dL_fine_0 (by decide) ?_
  refine x_lstore_n (pc := 1) dL_fine_1 rfl (by decide) (L' := [(2, _), (0, _), (1, _)]) rfl ?_
  refine x_aload_n (pc := 2) dL_fine_2 rfl rfl ?_
  refine x_getrN (pc := 3) (b := (c + 3)) frL_27 dL_fine_3 hk.1 rfl r0 rfl ?_
  refine x_alen (pc := 6) dL_fine_6 hco.1 (fun r6a => ?_)
  refine x_iconst (pc := 7) dL_fine_7 ?_
  refine x_isub (pc := 8) dL_fine_8 ?_
  refine x_istore (pc := 9) dL_fine_9 trivial (by decide) (L' := [(4, _), (2, _), (0, _), (1, _)]) rfl ?_
  refine x_iload (pc := 11) dL_fine_11 rfl ?_
  refine x_istore (pc := 13) dL_fine_13 trivial (by decide) (L' := [(5, _), (4, _), (2, _), (0, _), (1, _)]) rfl ?_
  refine X.loc [0, 1, 2, 3, 4] (L' := [(5, _), (4, _), (2, _), (0, _), (1, _)]) rfl ?_
  have l1 := loop pw 0 (by omega)
  rw [show ((pw : Nat) : Int) - 1 - ((0 : Nat) : Int) = (pw : Nat) - 1 by omega] at l1
  exact l1
