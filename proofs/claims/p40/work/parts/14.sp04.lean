/-! Specs of the sign rows' reads. -/
def sg (x : Int) : Int := if 0 < x then 1 else if x < 0 then -1 else 0
theorem mulb {a b A B : Int} (h1 : -A ≤ a) (h2 : a ≤ A) (h3 : -B ≤ b) (h4 : b ≤ B) : -(A * B) ≤ a * b ∧ a * b ≤ A * B := by
  have hA : 0 ≤ A := by omega
  have hB : 0 ≤ B := by omega
  have h5 : 0 ≤ (A - a) * (B + b) := Int.mul_nonneg (by omega) (by omega)
  have h6 : 0 ≤ (A + a) * (B - b) := Int.mul_nonneg (by omega) (by omega)
  have h7 : 0 ≤ (A - a) * (B - b) := Int.mul_nonneg (by omega) (by omega)
  have h8 : 0 ≤ (A + a) * (B + b) := Int.mul_nonneg (by omega) (by omega)
  grind
/-- the rows: how many, their coefficients, their degrees -/
abbrev RS : Type := Nat × (Nat → Nat → Int) × (Nat → Nat)
def Rw (s : RS) (M : Mem) (c : Nat) : Prop := M c 3 = s.1 ∧ (∀ k, k < s.1 → M (c + 7) k = s.2.2 k ∧ ∀ i, i < 5 → M (c + 2 + k) i = s.2.1 k i)
/-- a row that is small enough to be told near a point -/
def okR (f : Nat → Int) (d : Nat) : Prop := d ≤ 4 ∧ (∀ i, d < i → f i = 0) ∧ ∃ B : Int, 0 ≤ B ∧ B * 3125 * 1984 ^ d ≤ 9223372036854775807 ∧ ∀ i, i ≤ d → -B ≤ f i ∧ f i ≤ B
def WfR (s : RS) : Prop := s.1 ≤ 5 ∧ ∀ k, k < s.1 → okR (s.2.1 k) (s.2.2 k)
/-- from the highest coefficient down: the k-th -/
def hor (x : Int) (w : Nat → Int) (d : Nat) : Nat → Int
  | 0 => w d
  | k + 1 => w (d - (k + 1)) + x * hor x w d k
def syn (x : Int) (d low : Nat) (w : Nat → Int) : Nat → Int := fun i => if low ≤ i ∧ i ≤ d then hor x w d (d - i) else w i
def upS (x : Int) (d : Nat) : Nat → Nat → (Nat → Int) → Int
  | 0, _, _ => 0
  | k + 1, low, w => if syn x d low w low ≠ 0 then sg (syn x d low w low) else upS x d k (low + 1) (syn x d low w)
def sgnUp (f : Nat → Int) (d : Nat) (x : Int) (p : Nat) : Int := upS x d (d + 1) 0 (fun i => f i * 2 ^ (p * (d - i)))
def valF (f : Nat → Int) (x : Int) : Nat → Int
  | 0 => 0
  | n + 1 => valF f x n * x + f (4 - n)
/-- changes of sign in a row of signs, none of them 0 -/
def chU (s : Nat → Int) : Nat → Int × Int
  | 0 => (0, 0)
  | n + 1 => (if (chU s n).2 = - s n then (chU s n).1 + 1 else (chU s n).1, s n)
/-- changes of sign, zeros left out -/
def chZ (s : Nat → Int) : Nat → Int × Int
  | 0 => (0, 0)
  | n + 1 => if s n ≠ 0 then (if (chZ s n).2 = - s n then (chZ s n).1 + 1 else (chZ s n).1, s n) else chZ s n
theorem sg_rng (x : Int) : -1 ≤ sg x ∧ sg x ≤ 1 := by unfold sg; split <;> (try split) <;> omega
theorem chU_rng (s : Nat → Int) (h : ∀ k, -1 ≤ s k ∧ s k ≤ 1) : ∀ n : Nat, 0 ≤ (chU s n).1 ∧ (chU s n).1 ≤ n ∧ -1 ≤ (chU s n).2 ∧ (chU s n).2 ≤ 1
  | 0 => by simp [chU]
  | n + 1 => by
    have := chU_rng s h n
    have := h n
    simp only [chU]
    split <;> omega
theorem chZ_rng (s : Nat → Int) (h : ∀ k, -1 ≤ s k ∧ s k ≤ 1) : ∀ n : Nat, 0 ≤ (chZ s n).1 ∧ (chZ s n).1 ≤ n ∧ -1 ≤ (chZ s n).2 ∧ (chZ s n).2 ≤ 1
  | 0 => by simp [chZ]
  | n + 1 => by
    have := chZ_rng s h n
    have := h n
    simp only [chZ]
    split
    · dsimp only
      split <;> omega
    · omega
theorem upS_rng (x : Int) (d : Nat) : ∀ (k low : Nat) (w : Nat → Int), -1 ≤ upS x d k low w ∧ upS x d k low w ≤ 1
  | 0, _, _ => by simp [upS]
  | k + 1, low, w => by
    have := upS_rng x d k (low + 1) (syn x d low w)
    have := sg_rng (syn x d low w low)
    simp only [upS]
    split <;> omega

set_option maxRecDepth 100000 in
theorem sp_J13_compare_74951 {g : GG} {lay : Lay} {M : Mem} {K : KK} {x y : Int} (hx : i64 x) (hy : i64 y) (k : K (.inl (some (vI (if x < y then -1 else if x = y then 0 else 1)))) lay M) : X g m_J13_compare_74951 0 0 lay M 0 [(0, vJ x), (2, vJ y)] [] K := by
  obtain ⟨hx1, hx2⟩ := hx
  obtain ⟨hy1, hy2⟩ := hy
  refine x_lload_n (pc := 0) dJ13_compare_74951_0 rfl rfl ?_
  refine x_lload_n (pc := 1) dJ13_compare_74951_1 rfl rfl ?_
  refine x_lcmp_ge (pc := 2) (t := 10) dJ13_compare_74951_2 dJ13_compare_74951_3 (by decide) ⟨by omega, by omega⟩ ⟨by omega, by omega⟩ (fun c2 => ?_) (fun c2 => ?_)
  · refine x_lload_n (pc := 10) dJ13_compare_74951_10 rfl rfl ?_
    refine x_lload_n (pc := 11) dJ13_compare_74951_11 rfl rfl ?_
    refine x_lcmp_ne (pc := 12) (t := 20) dJ13_compare_74951_12 dJ13_compare_74951_13 (by decide) ⟨by omega, by omega⟩ ⟨by omega, by omega⟩ (fun c12 => ?_) (fun c12 => ?_)
    · refine x_iconst (pc := 20) dJ13_compare_74951_20 ?_
      refine x_iret (pc := 21) dJ13_compare_74951_21 rfl (by decide) (by decide) ?_
      refine kI k ?_
      grind
    · refine x_iconst (pc := 16) dJ13_compare_74951_16 ?_
      refine x_goto (pc := 17) (t := 21) dJ13_compare_74951_17 (by decide) ?_
      refine x_iret (pc := 21) dJ13_compare_74951_21 rfl (by decide) (by decide) ?_
      refine kI k ?_
      grind
  · refine x_iconst (pc := 6) dJ13_compare_74951_6 ?_
    refine x_goto (pc := 7) (t := 21) dJ13_compare_74951_7 (by decide) ?_
    refine x_iret (pc := 21) dJ13_compare_74951_21 rfl (by decide) (by decide) ?_
    refine kI k ?_
    grind
set_option maxRecDepth 100000 in
theorem sp_X3_signOfSum {g : GG} {lay : Lay} {M : Mem} {K : KK} {a m b n : Int} (ha : -68719476736 < a ∧ a < 68719476736) (hm : -2251799813685248 < m ∧ m < 2251799813685248) (hb : -68719476736 < b ∧ b < 68719476736) (hn : -2251799813685248 < n ∧ n < 2251799813685248) (k : K (.inl (some (vI (sg (a * m + b * n))))) lay M) : X g m_X3_signOfSum 0 0 lay M 0 [(0, vJ a), (2, vJ m), (4, vJ b), (6, vJ n)] [] K := by
  have b1 := mulb (a := a) (b := m % 67108864) (A := 68719476735) (B := 67108863) (by omega) (by omega) (by omega) (by omega)
  have b2 := mulb (a := b) (b := n % 67108864) (A := 68719476735) (B := 67108863) (by omega) (by omega) (by omega) (by omega)
  have b3 := mulb (a := a) (b := m / 67108864) (A := 68719476735) (B := 33554432) (by omega) (by omega) (by omega) (by omega)
  have b4 := mulb (a := b) (b := n / 67108864) (A := 68719476735) (B := 33554432) (by omega) (by omega) (by omega) (by omega)
  have e1 : a * m = 67108864 * (a * (m / 67108864)) + a * (m % 67108864) := by
    have : m = 67108864 * (m / 67108864) + m % 67108864 := by omega
    generalize m / 67108864 = q at *
    generalize m % 67108864 = w at *
    subst this
    grind
  have e2 : b * n = 67108864 * (b * (n / 67108864)) + b * (n % 67108864) := by
    have : n = 67108864 * (n / 67108864) + n % 67108864 := by omega
    generalize n / 67108864 = q at *
    generalize n % 67108864 = w at *
    subst this
    grind
  rw [e1, e2] at k
  obtain ⟨p1, hp1⟩ : ∃ z, z = a * (m % 67108864) := ⟨_, rfl⟩
  obtain ⟨p2, hp2⟩ : ∃ z, z = b * (n % 67108864) := ⟨_, rfl⟩
  obtain ⟨p3, hp3⟩ : ∃ z, z = a * (m / 67108864) := ⟨_, rfl⟩
  obtain ⟨p4, hp4⟩ : ∃ z, z = b * (n / 67108864) := ⟨_, rfl⟩
  rw [← hp1, ← hp2, ← hp3, ← hp4] at k
  rw [← hp1] at b1
  rw [← hp2] at b2
  rw [← hp3] at b3
  rw [← hp4] at b4
  clear e1 e2
  refine x_ldc2 (pc := 0) 67108863 klX3_64 (by decide) dX3_signOfSum_0 ?_
  refine x_lstore (pc := 3) dX3_signOfSum_3 trivial (by decide) (L' := [(8, _), (0, _), (2, _), (4, _), (6, _)]) rfl ?_
  refine x_lload_n (pc := 5) dX3_signOfSum_5 rfl rfl ?_
  refine x_lload_n (pc := 6) dX3_signOfSum_6 rfl rfl ?_
  refine x_lload (pc := 7) dX3_signOfSum_7 rfl ?_
  refine x_land26 (pc := 9) dX3_signOfSum_9 ?_
  refine x_lmul (pc := 10) dX3_signOfSum_10 ?_
  refine x_lload (pc := 11) dX3_signOfSum_11 rfl ?_
  refine x_lload (pc := 13) dX3_signOfSum_13 rfl ?_
  refine x_lload (pc := 15) dX3_signOfSum_15 rfl ?_
  refine x_land26 (pc := 17) dX3_signOfSum_17 ?_
  refine x_lmul (pc := 18) dX3_signOfSum_18 ?_
  refine x_ladd (pc := 19) dX3_signOfSum_19 ?_
  rw [← hp1, ← hp2]
  refine x_lstore (pc := 20) dX3_signOfSum_20 trivial (by decide) (L' := [(10, _), (8, _), (0, _), (2, _), (4, _), (6, _)]) rfl ?_
  refine x_lload_n (pc := 22) dX3_signOfSum_22 rfl rfl ?_
  refine x_lload_n (pc := 23) dX3_signOfSum_23 rfl rfl ?_
  refine x_bipush (pc := 24) dX3_signOfSum_24 (by decide) ?_
  refine x_lshr (pc := 26) 26 (by decide) rfl ⟨by omega, by omega⟩ dX3_signOfSum_26 ?_
  refine x_lmul (pc := 27) dX3_signOfSum_27 ?_
  refine x_lload (pc := 28) dX3_signOfSum_28 rfl ?_
  refine x_lload (pc := 30) dX3_signOfSum_30 rfl ?_
  refine x_bipush (pc := 32) dX3_signOfSum_32 (by decide) ?_
  refine x_lshr (pc := 34) 26 (by decide) rfl ⟨by omega, by omega⟩ dX3_signOfSum_34 ?_
  refine x_lmul (pc := 35) dX3_signOfSum_35 ?_
  refine x_ladd (pc := 36) dX3_signOfSum_36 ?_
  refine x_lload (pc := 37) dX3_signOfSum_37 rfl ?_
  refine x_bipush (pc := 39) dX3_signOfSum_39 (by decide) ?_
  refine x_lshr (pc := 41) 26 (by decide) rfl ⟨by omega, by omega⟩ dX3_signOfSum_41 ?_
  refine x_ladd (pc := 42) dX3_signOfSum_42 ?_
  rw [show (2 : Int) ^ 26 = 67108864 from rfl, ← hp3, ← hp4]
  refine x_lstore (pc := 43) dX3_signOfSum_43 trivial (by decide) (L' := [(12, _), (10, _), (8, _), (0, _), (2, _), (4, _), (6, _)]) rfl ?_
  refine x_lload (pc := 45) dX3_signOfSum_45 rfl ?_
  refine x_lconst (pc := 47) (x := 0) dX3_signOfSum_47 (by decide) ?_
  refine x_lcmp_eq (pc := 48) (t := 65) dX3_signOfSum_48 dX3_signOfSum_49 (by decide) ⟨by omega, by omega⟩ ⟨by omega, by omega⟩ (fun c48 => ?_) (fun c48 => ?_)
  · refine x_lload (pc := 65) dX3_signOfSum_65 rfl ?_
    refine x_lload (pc := 67) dX3_signOfSum_67 rfl ?_
    refine x_land26 (pc := 69) dX3_signOfSum_69 ?_
    refine x_lconst (pc := 70) (x := 0) dX3_signOfSum_70 (by decide) ?_
    refine x_lcmp_eq (pc := 71) (t := 79) dX3_signOfSum_71 dX3_signOfSum_72 (by decide) ⟨by omega, by omega⟩ ⟨by omega, by omega⟩ (fun c71 => ?_) (fun c71 => ?_)
    · refine x_iconst (pc := 79) dX3_signOfSum_79 ?_
      refine x_iret (pc := 80) dX3_signOfSum_80 rfl (by decide) (by decide) ?_
      refine kI k ?_
      clear hp1 hp2 hp3 hp4 k
      unfold sg
      grind
    · refine x_iconst (pc := 75) dX3_signOfSum_75 ?_
      refine x_goto (pc := 76) (t := 80) dX3_signOfSum_76 (by decide) ?_
      refine x_iret (pc := 80) dX3_signOfSum_80 rfl (by decide) (by decide) ?_
      refine kI k ?_
      clear hp1 hp2 hp3 hp4 k
      unfold sg
      grind
  · refine x_lload (pc := 52) dX3_signOfSum_52 rfl ?_
    refine x_lconst (pc := 54) (x := 0) dX3_signOfSum_54 (by decide) ?_
    refine x_lcmp_le (pc := 55) (t := 63) dX3_signOfSum_55 dX3_signOfSum_56 (by decide) ⟨by omega, by omega⟩ ⟨by omega, by omega⟩ (fun c55 => ?_) (fun c55 => ?_)
    · refine x_iconst (pc := 63) dX3_signOfSum_63 ?_
      refine x_iret (pc := 64) dX3_signOfSum_64 rfl (by decide) (by decide) ?_
      refine kI k ?_
      clear hp1 hp2 hp3 hp4 k
      unfold sg
      grind
    · refine x_iconst (pc := 59) dX3_signOfSum_59 ?_
      refine x_goto (pc := 60) (t := 64) dX3_signOfSum_60 (by decide) ?_
      refine x_iret (pc := 64) dX3_signOfSum_64 rfl (by decide) (by decide) ?_
      refine kI k ?_
      clear hp1 hp2 hp3 hp4 k
      unfold sg
      grind
theorem okR.val {f : Nat → Int} {d : Nat} (h : okR f d) {x : Int} (h1 : -20 ≤ x) (h2 : x ≤ 20) : i64 (valF f x 5) := by
  obtain ⟨hd, h0, B, hB, hm, hf⟩ := h
  have e : valF f x 5 = (((f 4 * x + f 3) * x + f 2) * x + f 1) * x + f 0 := by simp [valF]
  rw [e]
  have z : ∀ i, i ≤ 4 → -B ≤ f i ∧ f i ≤ B := fun i hi => by
    by_cases q : i ≤ d
    · exact hf i q
    · rw [h0 i (by omega)]; omega
  have e5 : d = 0 ∨ d = 1 ∨ d = 2 ∨ d = 3 ∨ d = 4 := by omega
  have z0 := z 0 (by decide)
  have z1 := z 1 (by decide)
  have z2 := z 2 (by decide)
  have z3 := z 3 (by decide)
  have z4 := z 4 (by decide)
  rcases e5 with rfl | rfl | rfl | rfl | rfl
  · rw [h0 4 (by decide), h0 3 (by decide), h0 2 (by decide), h0 1 (by decide)]
    simp
    omega
  · rw [h0 4 (by decide), h0 3 (by decide), h0 2 (by decide)]
    simp
    have a1 := mulb (a := f 1) (b := x) (A := B) (B := 20) (by omega) (by omega) (by omega) (by omega)
    omega
  · rw [h0 4 (by decide), h0 3 (by decide)]
    simp
    have a1 := mulb (a := f 2) (b := x) (A := B) (B := 20) (by omega) (by omega) (by omega) (by omega)
    have a2 := mulb (a := f 2 * x + f 1) (b := x) (A := B * 21) (B := 20) (by omega) (by omega) (by omega) (by omega)
    omega
  · rw [h0 4 (by decide)]
    simp
    have a1 := mulb (a := f 3) (b := x) (A := B) (B := 20) (by omega) (by omega) (by omega) (by omega)
    have a2 := mulb (a := f 3 * x + f 2) (b := x) (A := B * 21) (B := 20) (by omega) (by omega) (by omega) (by omega)
    have a3 := mulb (a := (f 3 * x + f 2) * x + f 1) (b := x) (A := B * 421) (B := 20) (by omega) (by omega) (by omega) (by omega)
    omega
  · have a1 := mulb (a := f 4) (b := x) (A := B) (B := 20) (by omega) (by omega) (by omega) (by omega)
    have a2 := mulb (a := f 4 * x + f 3) (b := x) (A := B * 21) (B := 20) (by omega) (by omega) (by omega) (by omega)
    have a3 := mulb (a := (f 4 * x + f 3) * x + f 2) (b := x) (A := B * 421) (B := 20) (by omega) (by omega) (by omega) (by omega)
    have a4 := mulb (a := ((f 4 * x + f 3) * x + f 2) * x + f 1) (b := x) (A := B * 8421) (B := 20) (by omega) (by omega) (by omega) (by omega)
    omega

set_option maxRecDepth 100000 in
theorem sp_X3_signAt {g : GG} {lay : Lay} {M : Mem} {K : KK} {c : Nat} {s : RS} {q : Nat} {x : Int} (hs : SrL lay c) (hR : Rw s M c) (hW : WfR s) (hk : q < s.1) (hx : -20 ≤ x ∧ x ≤ 20) (k : K (.inl (some (vI (sg (valF (s.2.1 q) x 5))))) lay M) : X g m_X3_signAt 0 0 lay M 0 [(0, vR c), (1, vI q), (2, vI x)] [] K := by
  have h5 := hW.1
  have hk5 : q < 5 := by omega
  have hv := (hW.2 q hk).val hx.1 hx.2
  have hr := (hR.2 q hk).2
  obtain ⟨hv1, hv2⟩ := hv
  have loop : ∀ (d j : Nat) (y acc : Int), j + d = 5 → y = 4 - j → acc = valF (s.2.1 q) x j → X g m_X3_signAt 0 0 lay M 16 [(5, vI y), (3, vJ acc), (0, vR c), (1, vI q), (2, vI x)] [] K := by
    intro d
    induction d with
    | zero =>
      intro j y acc hj hy ha
      have e5 : j = 5 := by omega
      subst e5
      rw [ha]
      clear ha
      refine x_iload (pc := 16) dX3_signAt_16 rfl ?_
      refine x_if_lt (pc := 18) (t := 42) dX3_signAt_18 (by decide) ⟨by omega, by omega⟩ (fun c18 => ?_) (fun c18 => ?_)
      · refine x_lload_n (pc := 42) dX3_signAt_42 rfl rfl ?_
        refine x_lconst (pc := 43) (x := 0) dX3_signAt_43 (by decide) ?_
        refine x_callS (pc := 44) [_, _] rfl kX3_66 dX3_signAt_44 rfl (by decide) (Nat.le_of_ble_eq_true rfl) (Nat.le_of_ble_eq_true rfl) (by decide) ?_
        refine sp_J13_compare_74951 ⟨by omega, by omega⟩ (by decide) ?_
        refine ⟨_, rfl, ?_⟩
        refine x_iret (pc := 47) dX3_signAt_47 rfl (by decide) (by decide) ?_
        refine kI k ?_
        unfold sg
        grind
      · exfalso; omega
    | succ d ih =>
      intro j y acc hj hy ha
      have e4 : y.toNat = 4 - j := by omega
      have e6 := hr (4 - j) (by omega)
      refine x_iload (pc := 16) dX3_signAt_16 rfl ?_
      refine x_if_lt (pc := 18) (t := 42) dX3_signAt_18 (by decide) ⟨by omega, by omega⟩ (fun c18 => ?_) (fun c18 => ?_)
      · exfalso; omega
      · refine x_lload_n (pc := 21) dX3_signAt_21 rfl rfl ?_
        refine x_iload_n (pc := 22) dX3_signAt_22 rfl rfl ?_
        refine x_i2l (pc := 23) ⟨by omega, by omega⟩ dX3_signAt_23 ?_
        refine x_lmul (pc := 24) dX3_signAt_24 ?_
        refine x_aload_n (pc := 25) dX3_signAt_25 rfl rfl ?_
        refine x_getr (pc := 26) (b := c + 1) fX3_11 dX3_signAt_26 hs.1 rfl rfl ?_
        refine x_iload_n (pc := 29) dX3_signAt_29 rfl rfl ?_
        refine x_aaldR (pc := 30) (c + 2 + q) dX3_signAt_30 hs.2.1 (by omega) (by omega) (by rw [Int.toNat_natCast]) ?_
        refine x_iload (pc := 31) dX3_signAt_31 rfl ?_
        refine x_lald (pc := 33) dX3_signAt_33 (hs.row hk5) (by omega) (by omega) (fun r33a r33b => ?_)
        rw [e4, e6]
        refine x_ladd (pc := 34) dX3_signAt_34 ?_
        refine x_lstore_n (pc := 35) dX3_signAt_35 rfl (by decide) (L' := [(3, _), (5, _), (0, _), (1, _), (2, _)]) rfl ?_
        refine x_iinc (pc := 36) dX3_signAt_36 rfl (by decide) (L' := [(5, _), (3, _), (0, _), (1, _), (2, _)]) rfl ?_
        refine x_goto (pc := 39) (t := 16) dX3_signAt_39 (by decide) ?_
        refine X.loc [0, 1, 2, 3, 4] (L' := [(5, _), (3, _), (0, _), (1, _), (2, _)]) rfl ?_
        refine ih (j + 1) _ _ (by omega) (by omega) ?_
        rw [ha]
        rfl
  refine x_iload_n (pc := 0) dX3_signAt_0 rfl rfl ?_
  refine x_if_lt (pc := 1) (t := 9) dX3_signAt_1 (by decide) ⟨by omega, by omega⟩ (fun c1 => ?_) (fun c1 => ?_)
  · exfalso; omega
  · refine x_iload_n (pc := 4) dX3_signAt_4 rfl rfl ?_
    refine x_iconst (pc := 5) dX3_signAt_5 ?_
    refine x_icmp_lt (pc := 6) (t := 11) dX3_signAt_6 (by decide) ⟨by omega, by omega⟩ ⟨by omega, by omega⟩ (fun c6 => ?_) (fun c6 => ?_)
    · refine x_lconst (pc := 11) (x := 0) dX3_signAt_11 (by decide) ?_
      refine x_lstore_n (pc := 12) dX3_signAt_12 rfl (by decide) (L' := [(3, _), (0, _), (1, _), (2, _)]) rfl ?_
      refine x_iconst (pc := 13) dX3_signAt_13 ?_
      refine x_istore (pc := 14) dX3_signAt_14 trivial (by decide) (L' := [(5, _), (3, _), (0, _), (1, _), (2, _)]) rfl ?_
      refine X.loc [0, 1, 2, 3, 4] (L' := [(5, _), (3, _), (0, _), (1, _), (2, _)]) rfl ?_
      exact loop 5 0 _ _ rfl (by omega) rfl
    · exfalso; omega
set_option maxRecDepth 100000 in
theorem sp_X3_changesAt {g : GG} {lay : Lay} {M : Mem} {K : KK} {c : Nat} {s : RS} {x : Int} (hs : SrL lay c) (hR : Rw s M c) (hW : WfR s) (hx : -20 ≤ x ∧ x ≤ 20) (k : K (.inl (some (vI ((chZ (fun q => sg (valF (s.2.1 q) x 5)) s.1).1)))) lay M) : X g m_X3_changesAt 0 0 lay M 0 [(0, vR c), (1, vI x)] [] K := by
  have h5 := hW.1
  have hn := hR.1
  have hcr := chZ_rng (fun q => sg (valF (s.2.1 q) x 5)) (fun q => sg_rng _)
  have loop : ∀ (d j : Nat) (y acc la : Int), j + d = s.1 → y = j → acc = (chZ (fun q => sg (valF (s.2.1 q) x 5)) j).1 → la = (chZ (fun q => sg (valF (s.2.1 q) x 5)) j).2 → X g m_X3_changesAt 0 0 lay M 7 [(4, vI y), (3, vI la), (2, vI acc), (0, vR c), (1, vI x)] [] K := by
    intro d
    induction d with
    | zero =>
      intro j y acc la hj hy ha hla
      refine x_iload (pc := 7) dX3_changesAt_7 rfl ?_
      refine x_aload_n (pc := 9) dX3_changesAt_9 rfl rfl ?_
      refine x_geti (pc := 10) fX3_24 dX3_changesAt_10 hs.1 rfl (fun r10a r10b => ?_)
      refine x_icmp_ge (pc := 13) (t := 49) dX3_changesAt_13 (by decide) ⟨by omega, by omega⟩ ⟨by omega, by omega⟩ (fun c13 => ?_) (fun c13 => ?_)
      · refine x_iload_n (pc := 49) dX3_changesAt_49 rfl rfl ?_
        refine x_iret (pc := 50) dX3_changesAt_50 rfl (by decide) (by decide) ?_
        refine kI k ?_
        rw [ha, show j = s.1 by omega]
      · exfalso; omega
    | succ d ih =>
      intro j y acc la hj hy ha hla
      subst hy
      have h1 := hcr j
      have h2 := sg_rng (valF (s.2.1 j) x 5)
      refine x_iload (pc := 7) dX3_changesAt_7 rfl ?_
      refine x_aload_n (pc := 9) dX3_changesAt_9 rfl rfl ?_
      refine x_geti (pc := 10) fX3_24 dX3_changesAt_10 hs.1 rfl (fun r10a r10b => ?_)
      refine x_icmp_ge (pc := 13) (t := 49) dX3_changesAt_13 (by decide) ⟨by omega, by omega⟩ ⟨by omega, by omega⟩ (fun c13 => ?_) (fun c13 => ?_)
      · exfalso; omega
      · refine x_aload_n (pc := 16) dX3_changesAt_16 rfl rfl ?_
        refine x_iload (pc := 17) dX3_changesAt_17 rfl ?_
        refine x_iload_n (pc := 19) dX3_changesAt_19 rfl rfl ?_
        refine x_callV (pc := 20) [_, _] rfl kX3_72 dX3_changesAt_20 hs.1 rfl rfl (by decide) (Nat.le_of_ble_eq_true rfl) (Nat.le_of_ble_eq_true rfl) (by decide) ?_
        refine sp_X3_signAt hs hR hW (by omega) hx ?_
        refine ⟨_, rfl, ?_⟩
        refine x_istore (pc := 23) dX3_changesAt_23 trivial (by decide) (L' := [(5, _), (4, _), (3, _), (2, _), (0, _), (1, _)]) rfl ?_
        refine x_iload (pc := 25) dX3_changesAt_25 rfl ?_
        refine x_if_eq (pc := 27) (t := 43) dX3_changesAt_27 (by decide) ⟨by omega, by omega⟩ (fun c27 => ?_) (fun c27 => ?_)
        · refine x_iinc (pc := 43) dX3_changesAt_43 rfl (by decide) (L' := [(4, _), (5, _), (3, _), (2, _), (0, _), (1, _)]) rfl ?_
          refine x_goto (pc := 46) (t := 7) dX3_changesAt_46 (by decide) ?_
          refine X.loc [0, 2, 3, 4, 5] (L' := [(4, _), (3, _), (2, _), (0, _), (1, _)]) rfl ?_
          refine ih (j + 1) _ _ _ (by omega) (by omega) ?_ ?_
          · simp only [chZ]
            grind
          · simp only [chZ]
            grind
        · refine x_iload_n (pc := 30) dX3_changesAt_30 rfl rfl ?_
          refine x_iload (pc := 31) dX3_changesAt_31 rfl ?_
          refine x_ineg (pc := 33) dX3_changesAt_33 ?_
          refine x_icmp_ne (pc := 34) (t := 40) dX3_changesAt_34 (by decide) ⟨by omega, by omega⟩ ⟨by omega, by omega⟩ (fun c34 => ?_) (fun c34 => ?_)
          · refine x_iload (pc := 40) dX3_changesAt_40 rfl ?_
            refine x_istore_n (pc := 42) dX3_changesAt_42 rfl (by decide) (L' := [(3, _), (5, _), (4, _), (2, _), (0, _), (1, _)]) rfl ?_
            refine x_iinc (pc := 43) dX3_changesAt_43 rfl (by decide) (L' := [(4, _), (3, _), (5, _), (2, _), (0, _), (1, _)]) rfl ?_
            refine x_goto (pc := 46) (t := 7) dX3_changesAt_46 (by decide) ?_
            refine X.loc [0, 1, 3, 4, 5] (L' := [(4, _), (3, _), (2, _), (0, _), (1, _)]) rfl ?_
            refine ih (j + 1) _ _ _ (by omega) (by omega) ?_ ?_
            · simp only [chZ]
              grind
            · simp only [chZ]
              grind
          · refine x_iinc (pc := 37) dX3_changesAt_37 rfl (by decide) (L' := [(2, _), (5, _), (4, _), (3, _), (0, _), (1, _)]) rfl ?_
            refine x_iload (pc := 40) dX3_changesAt_40 rfl ?_
            refine x_istore_n (pc := 42) dX3_changesAt_42 rfl (by decide) (L' := [(3, _), (2, _), (5, _), (4, _), (0, _), (1, _)]) rfl ?_
            refine x_iinc (pc := 43) dX3_changesAt_43 rfl (by decide) (L' := [(4, _), (3, _), (2, _), (5, _), (0, _), (1, _)]) rfl ?_
            refine x_goto (pc := 46) (t := 7) dX3_changesAt_46 (by decide) ?_
            refine X.loc [0, 1, 2, 4, 5] (L' := [(4, _), (3, _), (2, _), (0, _), (1, _)]) rfl ?_
            refine ih (j + 1) _ _ _ (by omega) (by omega) ?_ ?_
            · simp only [chZ]
              grind
            · simp only [chZ]
              grind
  refine x_iconst (pc := 0) dX3_changesAt_0 ?_
  refine x_istore_n (pc := 1) dX3_changesAt_1 rfl (by decide) (L' := [(2, _), (0, _), (1, _)]) rfl ?_
  refine x_iconst (pc := 2) dX3_changesAt_2 ?_
  refine x_istore_n (pc := 3) dX3_changesAt_3 rfl (by decide) (L' := [(3, _), (2, _), (0, _), (1, _)]) rfl ?_
  refine x_iconst (pc := 4) dX3_changesAt_4 ?_
  refine x_istore (pc := 5) dX3_changesAt_5 trivial (by decide) (L' := [(4, _), (3, _), (2, _), (0, _), (1, _)]) rfl ?_
  refine X.loc [0, 1, 2, 3, 4] (L' := [(4, _), (3, _), (2, _), (0, _), (1, _)]) rfl ?_
  exact loop s.1 0 _ _ _ (by omega) rfl rfl rfl
