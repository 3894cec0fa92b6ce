/-! The reference: derivatives, changes of the second rule, roots as often as they are ones, roots told near. -/
/-- a coefficient of a derivative -/
def fallF (p : Int) : Nat → Int
  | 0 => 1
  | k + 1 => fallF p k * (p - k)
def derAt (P : Nat → Int) (q : Nat) (x : Int) : Nat → Int
  | 0 => 0
  | n + 1 => if 4 - n < q then derAt P q x n else derAt P q x n * x + P (4 - n) * fallF ((4 - n : Nat) : Int) q
def derV (P : Nat → Int) (q : Nat) (x : Int) : Int := derAt P q x 5
def secF (P : Nat → Int) (x : Int) : Int := (chZ (fun k => sg (derV P k x)) (degF P 5 + 1).toNat).1
theorem fall_b {p : Int} (hp : 0 ≤ p ∧ p ≤ 4) : ∀ k : Nat, (k : Int) ≤ p → 0 ≤ fallF p k ∧ fallF p k ≤ 4 ^ k
  | 0, _ => by simp [fallF]
  | k + 1, h => by
    have h1 := fall_b hp k (by omega)
    have h2 := Int.mul_nonneg h1.1 (show 0 ≤ p - (k : Int) by omega)
    have h3 := Int.mul_le_mul h1.2 (show p - (k : Int) ≤ 4 by omega) (by omega) (by have := pw_pos (n := 4) (by decide) k; omega)
    simp only [fallF]
    rw [Int.pow_succ]
    omega
theorem derAt_b {P : Nat → Int} (h : WfP P) {q : Nat} {x : Int} (hq : q ≤ 4) (hx : -20 ≤ x ∧ x ≤ 20) : ∀ n : Nat, n ≤ 5 → -(7680 * 21 ^ n) ≤ derAt P q x n ∧ derAt P q x n ≤ 7680 * 21 ^ n
  | 0, _ => by simp [derAt]
  | n + 1, hn => by
    have h1 := derAt_b h hq hx n (by omega)
    have h5 : (21 : Int) ^ (n + 1) = 21 * 21 ^ n := by rw [Int.pow_succ, Int.mul_comm]
    have h6 := pw_pos (n := 21) (by decide) n
    simp only [derAt]
    rw [h5]
    split
    · omega
    · next hlt =>
      have h2 := h (4 - n)
      have h3 := fall_b (p := ((4 - n : Nat) : Int)) (by omega) q (by omega)
      have h7 : (4 : Int) ^ q ≤ 256 := pw_le (n := 4) (j := q) (k := 4) (by decide) hq
      have h4 := mulb (a := P (4 - n)) (b := fallF ((4 - n : Nat) : Int) q) (A := 30) (B := 256) (by omega) (by omega) (by omega) (by omega)
      have h8 := mulb (a := derAt P q x n) (b := x) (A := 7680 * 21 ^ n) (B := 20) (by omega) (by omega) (by omega) (by omega)
      omega

set_option maxRecDepth 100000 in
theorem sp_X5_derivativeAt {g : GG} {lay : Lay} {M : Mem} {K : KK} {d : Nat} {T : CT} {q : Nat} {x : Int} (hd : MoL lay d) (hb0 : g.2.1 ≤ d) (hT : RowT T (M (d + 1))) (hW : WfT T) (hq : q ≤ 4) (hx : -20 ≤ x ∧ x ≤ 20) (k : K (.inl (some (vJ (derV (tP T) q x)))) lay M) : X g m_X5_derivativeAt 0 0 lay M 0 [(0, vR d), (1, vI q), (2, vI x)] [] K := by
  have hn := hW.n60
  obtain ⟨wS, wP, wN, wm, wK, wL, wO, wB⟩ := id hW
  obtain ⟨⟨hS, hN, h10, hP, hp3, hL, hK, h99, hm⟩, hO, hBo⟩ := id hT
  have vb := derAt_b wP hq hx
  have loop : ∀ (c j : Nat) (y acc : Int), j + c = 5 - q → y = 4 - (j : Int) → acc = derAt (tP T) q x j → X g m_X5_derivativeAt 0 0 lay M 5 [(5, vI y), (3, vJ acc), (0, vR d), (1, vI q), (2, vI x)] [] K := by
    intro c
    induction c with
    | zero =>
      intro j y acc hj hy ha
      have e5 : derV (tP T) q x = derAt (tP T) q x j := by
        have : ∀ n, j ≤ n → n ≤ 5 → derAt (tP T) q x n = derAt (tP T) q x j := by
          intro n
          induction n with
          | zero => intro h1 h2; rw [show j = 0 by omega]
          | succ n ih =>
            intro h1 h2
            by_cases e : j = n + 1
            · rw [e]
            · simp only [derAt]
              rw [if_pos (by omega)]
              exact ih (by omega) (by omega)
        exact this 5 (by omega) (by omega)
      rw [e5, ← ha] at k
      refine x_iload (pc := 5) dX5_derivativeAt_5 rfl ?_
      refine x_iload_n (pc := 7) dX5_derivativeAt_7 rfl rfl ?_
      refine x_icmp_lt (pc := 8) (t := 64) dX5_derivativeAt_8 (by decide) ⟨by omega, by omega⟩ ⟨by omega, by omega⟩ (fun c8 => ?_) (fun c8 => ?_)
      · refine x_lload_n (pc := 64) dX5_derivativeAt_64 rfl rfl ?_
        refine x_lret (pc := 65) dX5_derivativeAt_65 rfl (by decide) (by decide) ?_
        exact k
      · exfalso; omega
    | succ c ih =>
      intro j y acc hj hy ha
      have e1 := hP (4 - j) (by omega)
      have w1 := wP (4 - j)
      have vj := vb j (by omega)
      have v21 := pw_le (n := 21) (j := j) (k := 4) (by decide) (by omega)
      have vn := vb (j + 1) (by omega)
      have vn2 := pw_le (n := 21) (j := j + 1) (k := 5) (by decide) (by omega)
      have edj : derAt (tP T) q x (j + 1) = derAt (tP T) q x j * x + tP T (4 - j) * fallF ((4 - j : Nat) : Int) q := by
        simp only [derAt]
        rw [if_neg (by omega)]
      have inner : ∀ (e m : Nat) (z its : Int), m + e = q → z = m → its = tP T (4 - j) * fallF ((4 - j : Nat) : Int) m → X g m_X5_derivativeAt 0 0 lay M 27 [(8, vI z), (6, vJ its), (5, vI y), (3, vJ acc), (0, vR d), (1, vI q), (2, vI x)] [] K := by
        intro e
        induction e with
        | zero =>
          intro m z its hm hz hi
          rw [show m = q by omega, hy] at *
          refine x_iload (pc := 27) dX5_derivativeAt_27 rfl ?_
          refine x_iload_n (pc := 29) dX5_derivativeAt_29 rfl rfl ?_
          refine x_icmp_ge (pc := 30) (t := 50) dX5_derivativeAt_30 (by decide) ⟨by omega, by omega⟩ ⟨by omega, by omega⟩ (fun c30 => ?_) (fun c30 => ?_)
          · refine x_lload_n (pc := 50) dX5_derivativeAt_50 rfl rfl ?_
            refine x_iload_n (pc := 51) dX5_derivativeAt_51 rfl rfl ?_
            refine x_i2l (pc := 52) ⟨by omega, by omega⟩ dX5_derivativeAt_52 ?_
            refine x_lmul (pc := 53) dX5_derivativeAt_53 ?_
            refine x_lload (pc := 54) dX5_derivativeAt_54 rfl ?_
            refine x_ladd (pc := 56) dX5_derivativeAt_56 ?_
            refine x_lstore_n (pc := 57) dX5_derivativeAt_57 rfl (by decide) (L' := [(3, _), (8, _), (6, _), (5, _), (0, _), (1, _), (2, _)]) rfl ?_
            refine x_iinc (pc := 58) dX5_derivativeAt_58 rfl (by decide) (L' := [(5, _), (3, _), (8, _), (6, _), (0, _), (1, _), (2, _)]) rfl ?_
            refine x_goto (pc := 61) (t := 5) dX5_derivativeAt_61 (by decide) ?_
            refine X.loc [0, 1, 4, 5, 6] (L' := [(5, _), (3, _), (0, _), (1, _), (2, _)]) rfl ?_
            refine ih (j + 1) _ _ (by omega) (by omega) ?_
            rw [edj, ha, hi]
          · exfalso; omega
        | succ e ihe =>
          intro m z its hm hz hi
          refine x_iload (pc := 27) dX5_derivativeAt_27 rfl ?_
          refine x_iload_n (pc := 29) dX5_derivativeAt_29 rfl rfl ?_
          refine x_icmp_ge (pc := 30) (t := 50) dX5_derivativeAt_30 (by decide) ⟨by omega, by omega⟩ ⟨by omega, by omega⟩ (fun c30 => ?_) (fun c30 => ?_)
          · exfalso; omega
          · refine x_lload (pc := 33) dX5_derivativeAt_33 rfl ?_
            refine x_iload (pc := 35) dX5_derivativeAt_35 rfl ?_
            refine x_iload (pc := 37) dX5_derivativeAt_37 rfl ?_
            refine x_isub (pc := 39) dX5_derivativeAt_39 ?_
            refine x_i2l (pc := 40) ⟨by omega, by omega⟩ dX5_derivativeAt_40 ?_
            refine x_lmul (pc := 41) dX5_derivativeAt_41 ?_
            refine x_lstore (pc := 42) dX5_derivativeAt_42 trivial (by decide) (L' := [(6, _), (8, _), (5, _), (3, _), (0, _), (1, _), (2, _)]) rfl ?_
            refine x_iinc (pc := 44) dX5_derivativeAt_44 rfl (by decide) (L' := [(8, _), (6, _), (5, _), (3, _), (0, _), (1, _), (2, _)]) rfl ?_
            refine x_goto (pc := 47) (t := 27) dX5_derivativeAt_47 (by decide) ?_
            refine X.loc [0, 1, 2, 3, 4, 5, 6] (L' := [(8, _), (6, _), (5, _), (3, _), (0, _), (1, _), (2, _)]) rfl ?_
            refine ihe (m + 1) _ _ (by omega) (by omega) ?_
            rw [hi, hy, hz]
            simp only [fallF]
            rw [show ((4 : Int) - (j : Int)) = ((4 - j : Nat) : Int) by omega, Int.mul_assoc]
      refine x_iload (pc := 5) dX5_derivativeAt_5 rfl ?_
      refine x_iload_n (pc := 7) dX5_derivativeAt_7 rfl rfl ?_
      refine x_icmp_lt (pc := 8) (t := 64) dX5_derivativeAt_8 (by decide) ⟨by omega, by omega⟩ ⟨by omega, by omega⟩ (fun c8 => ?_) (fun c8 => ?_)
      · exfalso; omega
      · refine x_aload_n (pc := 11) dX5_derivativeAt_11 rfl rfl ?_
        refine x_getr (pc := 12) (b := d + 1) fX5_7 dX5_derivativeAt_12 hd.1 rfl rfl ?_
        refine x_bipush (pc := 15) dX5_derivativeAt_15 (by decide) ?_
        refine x_iload (pc := 17) dX5_derivativeAt_17 rfl ?_
        refine x_iadd (pc := 19) dX5_derivativeAt_19 ?_
        refine x_iald (pc := 20) dX5_derivativeAt_20 hd.2.1 (by omega) (by omega) (fun r20a r20b => ?_)
        rw [show (11 + y).toNat = 11 + (4 - j) by omega, e1] at r20a r20b ⊢
        refine x_i2l (pc := 21) ⟨by omega, by omega⟩ dX5_derivativeAt_21 ?_
        refine x_lstore (pc := 22) dX5_derivativeAt_22 trivial (by decide) (L' := [(6, _), (5, _), (3, _), (0, _), (1, _), (2, _)]) rfl ?_
        refine x_iconst (pc := 24) dX5_derivativeAt_24 ?_
        refine x_istore (pc := 25) dX5_derivativeAt_25 trivial (by decide) (L' := [(8, _), (6, _), (5, _), (3, _), (0, _), (1, _), (2, _)]) rfl ?_
        refine X.loc [0, 1, 2, 3, 4, 5, 6] (L' := [(8, _), (6, _), (5, _), (3, _), (0, _), (1, _), (2, _)]) rfl ?_
        refine inner q 0 _ _ (by omega) rfl ?_
        simp [fallF]
  refine x_lconst (pc := 0) (x := 0) dX5_derivativeAt_0 (by decide) ?_
  refine x_lstore_n (pc := 1) dX5_derivativeAt_1 rfl (by decide) (L' := [(3, _), (0, _), (1, _), (2, _)]) rfl ?_
  refine x_iconst (pc := 2) dX5_derivativeAt_2 ?_
  refine x_istore (pc := 3) dX5_derivativeAt_3 trivial (by decide) (L' := [(5, _), (3, _), (0, _), (1, _), (2, _)]) rfl ?_
  refine X.loc [0, 1, 2, 3, 4] (L' := [(5, _), (3, _), (0, _), (1, _), (2, _)]) rfl ?_
  exact loop (5 - q) 0 _ _ (by omega) rfl rfl
set_option maxRecDepth 100000 in
theorem sp_X5_secondChanges {g : GG} {lay : Lay} {M : Mem} {K : KK} {d : Nat} {T : CT} {x : Int} (hd : MoL lay d) (hb0 : g.2.1 ≤ d) (hT : RowT T (M (d + 1))) (hW : WfT T) (hx : -20 ≤ x ∧ x ≤ 20) (k : K (.inl (some (vI (secF (tP T) x)))) lay M) : X g m_X5_secondChanges 0 0 lay M 0 [(0, vR d), (1, vI x)] [] K := by
  have hn := hW.n60
  obtain ⟨wS, wP, wN, wm, wK, wL, wO, wB⟩ := id hW
  obtain ⟨⟨hS, hN, h10, hP, hp3, hL, hK, h99, hm⟩, hO, hBo⟩ := id hT
  have hdr := degF_rng (tP T) 5
  unfold secF at k
  have loop : ∀ (c j : Nat) (z a l : Int), j + c = (degF (tP T) 5 + 1).toNat → z = j → chZ (fun k => sg (derV (tP T) k x)) j = (a, l) → X g m_X5_secondChanges 0 0 lay M 7 [(4, vI z), (3, vI a), (2, vI l), (0, vR d), (1, vI x)] [] K := by
    intro c
    induction c with
    | zero =>
      intro j z a l hj hz hc
      refine x_iload (pc := 7) dX5_secondChanges_7 rfl ?_
      refine x_aload_n (pc := 9) dX5_secondChanges_9 rfl rfl ?_
      refine x_callV (pc := 10) [] rfl kX5_136 dX5_secondChanges_10 hd.1 rfl rfl (by decide) (Nat.le_of_ble_eq_true rfl) (Nat.le_of_ble_eq_true rfl) (by decide) ?_
      refine sp_X5_degreeNow hd hb0 hT hW ?_
      refine ⟨_, rfl, ?_⟩
      refine x_icmp_gt (pc := 13) (t := 83) dX5_secondChanges_13 (by decide) ⟨by omega, by omega⟩ ⟨by omega, by omega⟩ (fun c13 => ?_) (fun c13 => ?_)
      · refine x_iload_n (pc := 83) dX5_secondChanges_83 rfl rfl ?_
        refine x_iret (pc := 84) dX5_secondChanges_84 rfl (by decide) (by decide) ?_
        rw [show (degF (tP T) 5 + 1).toNat = j by omega, hc] at k
        exact k
      · exfalso; omega
    | succ c ih =>
      intro j z a l hj hz hc
      have h3 := chZ_3 (s := fun k => sg (derV (tP T) k x)) (fun q => sg3) j
      have h4 : (fun k => sg (derV (tP T) k x)) j = 1 ∨ _ ∨ _ := sg3 (x := derV (tP T) j x)
      rw [hc] at h3
      dsimp only at h3
      have h7 := chZ_step hc h4 h3.2
      dsimp only at h4 h7
      have vb := derAt_b wP (q := j) (by omega) hx 5 (by omega)
      have h6 := mulb (a := sg (derV (tP T) j x)) (b := l) (A := 1) (B := 1) (by omega) (by omega) (by omega) (by omega)
      have hu1 : sg (derV (tP T) j x) = (if 0 < derV (tP T) j x then 1 else if derV (tP T) j x < 0 then -1 else 0) := rfl
      have vb2 : -(7680 * 21 ^ 5) ≤ derV (tP T) j x ∧ derV (tP T) j x ≤ 7680 * 21 ^ 5 := vb
      have vb3 : (21 : Int) ^ 5 = 4084101 := by decide
      rw [vb3] at vb2
      obtain ⟨u, hu⟩ : ∃ u, u = sg (derV (tP T) j x) := ⟨_, rfl⟩
      rw [← hu] at h4 h6 h7 hu1
      have fin : ∀ v, v = u → X g m_X5_secondChanges 0 0 lay M 48 [(5, vJ (derV (tP T) j x)), (4, vI z), (3, vI a), (2, vI l), (0, vR d), (1, vI x)] [vI v] K := by
        intro v hv
        subst hv
        refine x_istore (pc := 48) dX5_secondChanges_48 trivial (by decide) (L' := [(7, _), (5, _), (4, _), (3, _), (2, _), (0, _), (1, _)]) rfl ?_
        refine x_iload_n (pc := 50) dX5_secondChanges_50 rfl rfl ?_
        refine x_iload (pc := 51) dX5_secondChanges_51 rfl ?_
        refine x_iload_n (pc := 53) dX5_secondChanges_53 rfl rfl ?_
        refine x_imul (pc := 54) dX5_secondChanges_54 ?_
        refine x_if_ge (pc := 55) (t := 62) dX5_secondChanges_55 (by decide) ⟨by omega, by omega⟩ (fun c55 => ?_) (fun c55 => ?_)
        · refine x_iconst (pc := 62) dX5_secondChanges_62 ?_
          refine x_iadd (pc := 63) dX5_secondChanges_63 ?_
          refine x_istore_n (pc := 64) dX5_secondChanges_64 rfl (by decide) (L' := [(3, _), (7, _), (5, _), (4, _), (2, _), (0, _), (1, _)]) rfl ?_
          refine x_iload (pc := 65) dX5_secondChanges_65 rfl ?_
          refine x_if_ne (pc := 67) (t := 74) dX5_secondChanges_67 (by decide) ⟨by omega, by omega⟩ (fun c67 => ?_) (fun c67 => ?_)
          · refine x_iload (pc := 74) dX5_secondChanges_74 rfl ?_
            refine x_istore_n (pc := 76) dX5_secondChanges_76 rfl (by decide) (L' := [(2, _), (3, _), (7, _), (5, _), (4, _), (0, _), (1, _)]) rfl ?_
            refine x_iinc (pc := 77) dX5_secondChanges_77 rfl (by decide) (L' := [(4, _), (2, _), (3, _), (7, _), (5, _), (0, _), (1, _)]) rfl ?_
            refine x_goto (pc := 80) (t := 7) dX5_secondChanges_80 (by decide) ?_
            refine X.loc [0, 2, 1, 5, 6] (L' := [(4, _), (3, _), (2, _), (0, _), (1, _)]) rfl ?_
            refine ih (j + 1) _ _ _ (by omega) (by omega) ?_
            rw [h7]
            first
            | (rw [if_pos (by omega), if_pos (by omega)])
            | (rw [if_pos (by omega), if_neg (by omega)])
            | (rw [if_neg (by omega), if_pos (by omega)])
            | (rw [if_neg (by omega), if_neg (by omega)])
          · refine x_iload_n (pc := 70) dX5_secondChanges_70 rfl rfl ?_
            refine x_goto (pc := 71) (t := 76) dX5_secondChanges_71 (by decide) ?_
            refine x_istore_n (pc := 76) dX5_secondChanges_76 rfl (by decide) (L' := [(2, _), (3, _), (7, _), (5, _), (4, _), (0, _), (1, _)]) rfl ?_
            refine x_iinc (pc := 77) dX5_secondChanges_77 rfl (by decide) (L' := [(4, _), (2, _), (3, _), (7, _), (5, _), (0, _), (1, _)]) rfl ?_
            refine x_goto (pc := 80) (t := 7) dX5_secondChanges_80 (by decide) ?_
            refine X.loc [0, 2, 1, 5, 6] (L' := [(4, _), (3, _), (2, _), (0, _), (1, _)]) rfl ?_
            refine ih (j + 1) _ _ _ (by omega) (by omega) ?_
            rw [h7]
            first
            | (rw [if_pos (by omega), if_pos (by omega)])
            | (rw [if_pos (by omega), if_neg (by omega)])
            | (rw [if_neg (by omega), if_pos (by omega)])
            | (rw [if_neg (by omega), if_neg (by omega)])
        · refine x_iconst (pc := 58) dX5_secondChanges_58 ?_
          refine x_goto (pc := 59) (t := 63) dX5_secondChanges_59 (by decide) ?_
          refine x_iadd (pc := 63) dX5_secondChanges_63 ?_
          refine x_istore_n (pc := 64) dX5_secondChanges_64 rfl (by decide) (L' := [(3, _), (7, _), (5, _), (4, _), (2, _), (0, _), (1, _)]) rfl ?_
          refine x_iload (pc := 65) dX5_secondChanges_65 rfl ?_
          refine x_if_ne (pc := 67) (t := 74) dX5_secondChanges_67 (by decide) ⟨by omega, by omega⟩ (fun c67 => ?_) (fun c67 => ?_)
          · refine x_iload (pc := 74) dX5_secondChanges_74 rfl ?_
            refine x_istore_n (pc := 76) dX5_secondChanges_76 rfl (by decide) (L' := [(2, _), (3, _), (7, _), (5, _), (4, _), (0, _), (1, _)]) rfl ?_
            refine x_iinc (pc := 77) dX5_secondChanges_77 rfl (by decide) (L' := [(4, _), (2, _), (3, _), (7, _), (5, _), (0, _), (1, _)]) rfl ?_
            refine x_goto (pc := 80) (t := 7) dX5_secondChanges_80 (by decide) ?_
            refine X.loc [0, 2, 1, 5, 6] (L' := [(4, _), (3, _), (2, _), (0, _), (1, _)]) rfl ?_
            refine ih (j + 1) _ _ _ (by omega) (by omega) ?_
            rw [h7]
            first
            | (rw [if_pos (by omega), if_pos (by omega)])
            | (rw [if_pos (by omega), if_neg (by omega)])
            | (rw [if_neg (by omega), if_pos (by omega)])
            | (rw [if_neg (by omega), if_neg (by omega)])
          · refine x_iload_n (pc := 70) dX5_secondChanges_70 rfl rfl ?_
            refine x_goto (pc := 71) (t := 76) dX5_secondChanges_71 (by decide) ?_
            refine x_istore_n (pc := 76) dX5_secondChanges_76 rfl (by decide) (L' := [(2, _), (3, _), (7, _), (5, _), (4, _), (0, _), (1, _)]) rfl ?_
            refine x_iinc (pc := 77) dX5_secondChanges_77 rfl (by decide) (L' := [(4, _), (2, _), (3, _), (7, _), (5, _), (0, _), (1, _)]) rfl ?_
            refine x_goto (pc := 80) (t := 7) dX5_secondChanges_80 (by decide) ?_
            refine X.loc [0, 2, 1, 5, 6] (L' := [(4, _), (3, _), (2, _), (0, _), (1, _)]) rfl ?_
            refine ih (j + 1) _ _ _ (by omega) (by omega) ?_
            rw [h7]
            first
            | (rw [if_pos (by omega), if_pos (by omega)])
            | (rw [if_pos (by omega), if_neg (by omega)])
            | (rw [if_neg (by omega), if_pos (by omega)])
            | (rw [if_neg (by omega), if_neg (by omega)])
      refine x_iload (pc := 7) dX5_secondChanges_7 rfl ?_
      refine x_aload_n (pc := 9) dX5_secondChanges_9 rfl rfl ?_
      refine x_callV (pc := 10) [] rfl kX5_136 dX5_secondChanges_10 hd.1 rfl rfl (by decide) (Nat.le_of_ble_eq_true rfl) (Nat.le_of_ble_eq_true rfl) (by decide) ?_
      refine sp_X5_degreeNow hd hb0 hT hW ?_
      refine ⟨_, rfl, ?_⟩
      refine x_icmp_gt (pc := 13) (t := 83) dX5_secondChanges_13 (by decide) ⟨by omega, by omega⟩ ⟨by omega, by omega⟩ (fun c13 => ?_) (fun c13 => ?_)
      · exfalso; omega
      · refine x_aload_n (pc := 16) dX5_secondChanges_16 rfl rfl ?_
        refine x_iload (pc := 17) dX5_secondChanges_17 rfl ?_
        refine x_iload_n (pc := 19) dX5_secondChanges_19 rfl rfl ?_
        refine x_callV (pc := 20) [_, _] rfl kX5_140 dX5_secondChanges_20 hd.1 rfl rfl (by decide) (Nat.le_of_ble_eq_true rfl) (Nat.le_of_ble_eq_true rfl) (by decide) ?_
        rw [hz]
        refine sp_X5_derivativeAt hd hb0 hT hW (by omega) hx ?_
        rw [← hz]
        refine ⟨_, rfl, ?_⟩
        refine x_lstore (pc := 23) dX5_secondChanges_23 trivial (by decide) (L' := [(5, _), (4, _), (3, _), (2, _), (0, _), (1, _)]) rfl ?_
        refine x_lload (pc := 25) dX5_secondChanges_25 rfl ?_
        refine x_lconst (pc := 27) (x := 0) dX5_secondChanges_27 (by decide) ?_
        refine x_lcmp_le (pc := 28) (t := 36) dX5_secondChanges_28 dX5_secondChanges_29 (by decide) ⟨by omega, by omega⟩ ⟨by omega, by omega⟩ (fun c28 => ?_) (fun c28 => ?_)
        · refine x_lload (pc := 36) dX5_secondChanges_36 rfl ?_
          refine x_lconst (pc := 38) (x := 0) dX5_secondChanges_38 (by decide) ?_
          refine x_lcmp_ge (pc := 39) (t := 47) dX5_secondChanges_39 dX5_secondChanges_40 (by decide) ⟨by omega, by omega⟩ ⟨by omega, by omega⟩ (fun c39 => ?_) (fun c39 => ?_)
          · refine x_iconst (pc := 47) dX5_secondChanges_47 ?_
            refine X.loc [0, 1, 2, 3, 4, 5] (L' := [(5, _), (4, _), (3, _), (2, _), (0, _), (1, _)]) rfl ?_
            refine fin _ ?_
            rw [hu1]
            first
            | rw [if_pos (by omega)]
            | rw [if_neg (by omega), if_pos (by omega)]
            | rw [if_neg (by omega), if_neg (by omega)]
          · refine x_iconst (pc := 43) dX5_secondChanges_43 ?_
            refine x_goto (pc := 44) (t := 48) dX5_secondChanges_44 (by decide) ?_
            refine X.loc [0, 1, 2, 3, 4, 5] (L' := [(5, _), (4, _), (3, _), (2, _), (0, _), (1, _)]) rfl ?_
            refine fin _ ?_
            rw [hu1]
            first
            | rw [if_pos (by omega)]
            | rw [if_neg (by omega), if_pos (by omega)]
            | rw [if_neg (by omega), if_neg (by omega)]
        · refine x_iconst (pc := 32) dX5_secondChanges_32 ?_
          refine x_goto (pc := 33) (t := 48) dX5_secondChanges_33 (by decide) ?_
          refine X.loc [0, 1, 2, 3, 4, 5] (L' := [(5, _), (4, _), (3, _), (2, _), (0, _), (1, _)]) rfl ?_
          refine fin _ ?_
          rw [hu1]
          first
          | rw [if_pos (by omega)]
          | rw [if_neg (by omega), if_pos (by omega)]
          | rw [if_neg (by omega), if_neg (by omega)]
  refine x_iconst (pc := 0) dX5_secondChanges_0 ?_
  refine x_istore_n (pc := 1) dX5_secondChanges_1 rfl (by decide) (L' := [(2, _), (0, _), (1, _)]) rfl ?_
  refine x_iconst (pc := 2) dX5_secondChanges_2 ?_
  refine x_istore_n (pc := 3) dX5_secondChanges_3 rfl (by decide) (L' := [(3, _), (2, _), (0, _), (1, _)]) rfl ?_
  refine x_iconst (pc := 4) dX5_secondChanges_4 ?_
  refine x_istore (pc := 5) dX5_secondChanges_5 trivial (by decide) (L' := [(4, _), (3, _), (2, _), (0, _), (1, _)]) rfl ?_
  refine X.loc [0, 1, 2, 3, 4] (L' := [(4, _), (3, _), (2, _), (0, _), (1, _)]) rfl ?_
  exact loop (degF (tP T) 5 + 1).toNat 0 _ _ _ (by omega) rfl rfl
def nearL (f : Int → Int) (i : Int) : Nat → Int → Int → Int
  | 0, lo, _ => lo
  | n + 1, lo, hi => if hi - lo ≤ 1 then lo else if i < f ((lo + hi) / 2) then nearL f i n lo ((lo + hi) / 2) else nearL f i n ((lo + hi) / 2) hi
def mNear (s : RS) (i : Int) (p : Nat) : Int := nearL (fun m => endF s 0 - mCh s m p 1) i 13 (-(32 * 2 ^ p)) (32 * 2 ^ p)
theorem endF_rng (s : RS) (y : Int) : 0 ≤ endF s y ∧ endF s y ≤ s.1 := (chZ_3 (eSg_3 s y) s.1).1
theorem mCh_rng (s : RS) (x : Int) (p : Nat) (y : Int) : 0 ≤ mCh s x p y ∧ mCh s x p y ≤ s.1 := (chZ_3 (mSg_3 s x p y) s.1).1

set_option maxRecDepth 100000 in
theorem sp_X5_nearOf {g : GG} {lay : Lay} {M : Mem} {K : KK} {d : Nat} {p : Nat} {i : Int} {s : RS} (hd : MoL lay d) (hb0 : g.2.1 ≤ d) (hR : Mr s M d) (hW : WfM s) (hp : p ≤ 6) (hi : i32 i) (k : ∀ M2, Frm (d + 7) (d + 8) M M2 → Mr s M2 d → K (.inl (some (vI (mNear s i p)))) lay M2) : X g m_X5_nearOf 0 0 lay M 0 [(0, vR d), (1, vI i), (2, vI p)] [] K := by
  obtain ⟨hi1, hi2⟩ := hi
  have h5 := hW.1
  have hp6 : (1 : Int) ≤ 2 ^ p ∧ (2 : Int) ^ p ≤ 64 := ⟨pw_pos (by decide) p, pw_le (n := 2) (k := 6) (by decide) hp⟩
  have er := endF_rng s 0
  unfold mNear at k
  obtain ⟨B, hB⟩ : ∃ B, B = endF s 0 := ⟨_, rfl⟩
  rw [← hB] at er k
  obtain ⟨U, hU⟩ : ∃ U, U = nearL (fun m => B - mCh s m p 1) i 13 (-(32 * 2 ^ p)) (32 * 2 ^ p) := ⟨_, rfl⟩
  rw [← hU] at k
  have loop : ∀ (n : Nat) (lo hi9 : Int) (M1 : Mem), -2048 ≤ lo → hi9 ≤ 2048 → lo < hi9 → hi9 - lo ≤ 2 ^ n → Frm (d + 7) (d + 8) M M1 → Mr s M1 d → nearL (fun m => B - mCh s m p 1) i (n + 1) lo hi9 = U → X g m_X5_nearOf 0 0 lay M1 18 [(5, vI B), (4, vI hi9), (3, vI lo), (0, vR d), (1, vI i), (2, vI p)] [] K := by
    intro n
    induction n with
    | zero =>
      intro lo hi9 M1 h1 h2 h3 h4 hF hR1 hr
      have h4 : hi9 - lo ≤ 1 := h4
      rw [nearL, if_pos h4] at hr
      refine x_iload (pc := 18) dX5_nearOf_18 rfl ?_
      refine x_iload_n (pc := 20) dX5_nearOf_20 rfl rfl ?_
      refine x_isub (pc := 21) dX5_nearOf_21 ?_
      refine x_iconst (pc := 22) dX5_nearOf_22 ?_
      refine x_icmp_le (pc := 23) (t := 62) dX5_nearOf_23 (by decide) ⟨by omega, by omega⟩ ⟨by omega, by omega⟩ (fun c23 => ?_) (fun c23 => ?_)
      · refine x_iload_n (pc := 62) dX5_nearOf_62 rfl rfl ?_
        refine x_iret (pc := 63) dX5_nearOf_63 rfl (by decide) (by decide) ?_
        rw [← hr] at k
        exact k M1 hF hR1
      · exfalso; omega
    | succ n ih =>
      intro lo hi9 M1 h1 h2 h3 h4 hF hR1 hr
      have mr := mCh_rng s ((lo + hi9) / 2) p 1
      have h4b : hi9 - lo ≤ 2 * 2 ^ n := by rw [Int.pow_succ] at h4; omega
      rw [nearL] at hr
      refine x_iload (pc := 18) dX5_nearOf_18 rfl ?_
      refine x_iload_n (pc := 20) dX5_nearOf_20 rfl rfl ?_
      refine x_isub (pc := 21) dX5_nearOf_21 ?_
      refine x_iconst (pc := 22) dX5_nearOf_22 ?_
      refine x_icmp_le (pc := 23) (t := 62) dX5_nearOf_23 (by decide) ⟨by omega, by omega⟩ ⟨by omega, by omega⟩ (fun c23 => ?_) (fun c23 => ?_)
      · refine x_iload_n (pc := 62) dX5_nearOf_62 rfl rfl ?_
        refine x_iret (pc := 63) dX5_nearOf_63 rfl (by decide) (by decide) ?_
        rw [if_pos (by omega)] at hr
        rw [← hr] at k
        exact k M1 hF hR1
      · refine x_iload_n (pc := 26) dX5_nearOf_26 rfl rfl ?_
        refine x_iload (pc := 27) dX5_nearOf_27 rfl ?_
        refine x_iadd (pc := 29) dX5_nearOf_29 ?_
        refine x_iconst (pc := 30) dX5_nearOf_30 ?_
        refine x_ishr (pc := 31) 1 (by omega) rfl ⟨by omega, by omega⟩ dX5_nearOf_31 ?_
        rw [show (lo + hi9) / 2 ^ 1 = (lo + hi9) / 2 from rfl]
        refine x_istore (pc := 32) dX5_nearOf_32 trivial (by decide) (L' := [(6, _), (5, _), (4, _), (3, _), (0, _), (1, _), (2, _)]) rfl ?_
        refine x_iload (pc := 34) dX5_nearOf_34 rfl ?_
        refine x_aload_n (pc := 36) dX5_nearOf_36 rfl rfl ?_
        refine x_iload (pc := 37) dX5_nearOf_37 rfl ?_
        refine x_iload_n (pc := 39) dX5_nearOf_39 rfl rfl ?_
        refine x_iconst (pc := 40) dX5_nearOf_40 ?_
        refine x_callV (pc := 41) [_, _, _] rfl kX5_122 dX5_nearOf_41 hd.1 rfl rfl (by decide) (Nat.le_of_ble_eq_true rfl) (Nat.le_of_ble_eq_true rfl) (by decide) ?_
        refine sp_X5_changesAt (p9 := p) (y9 := 1) hd hb0 hR1 hW (by omega) hp (by omega) (fun M2 hF2 hR2 => ?_)
        refine ⟨_, rfl, ?_⟩
        refine x_isub (pc := 44) dX5_nearOf_44 ?_
        refine x_iload_n (pc := 45) dX5_nearOf_45 rfl rfl ?_
        refine x_icmp_le (pc := 46) (t := 56) dX5_nearOf_46 (by decide) ⟨by omega, by omega⟩ ⟨by omega, by omega⟩ (fun c46 => ?_) (fun c46 => ?_)
        · refine x_iload (pc := 56) dX5_nearOf_56 rfl ?_
          refine x_istore_n (pc := 58) dX5_nearOf_58 rfl (by decide) (L' := [(3, _), (6, _), (5, _), (4, _), (0, _), (1, _), (2, _)]) rfl ?_
          refine x_goto (pc := 59) (t := 18) dX5_nearOf_59 (by decide) ?_
          refine X.loc [2, 3, 0, 4, 5, 6] (L' := [(5, _), (4, _), (3, _), (0, _), (1, _), (2, _)]) rfl ?_
          rw [if_neg (by omega)] at hr
          first
          | (rw [if_pos (by omega)] at hr
             exact ih _ _ M2 (by omega) (by omega) (by omega) (by omega) (hF.trans hF2) hR2 hr)
          | (rw [if_neg (by omega)] at hr
             exact ih _ _ M2 (by omega) (by omega) (by omega) (by omega) (hF.trans hF2) hR2 hr)
        · refine x_iload (pc := 49) dX5_nearOf_49 rfl ?_
          refine x_istore (pc := 51) dX5_nearOf_51 trivial (by decide) (L' := [(4, _), (6, _), (5, _), (3, _), (0, _), (1, _), (2, _)]) rfl ?_
          refine x_goto (pc := 53) (t := 59) dX5_nearOf_53 (by decide) ?_
          refine x_goto (pc := 59) (t := 18) dX5_nearOf_59 (by decide) ?_
          refine X.loc [2, 0, 3, 4, 5, 6] (L' := [(5, _), (4, _), (3, _), (0, _), (1, _), (2, _)]) rfl ?_
          rw [if_neg (by omega)] at hr
          first
          | (rw [if_pos (by omega)] at hr
             exact ih _ _ M2 (by omega) (by omega) (by omega) (by omega) (hF.trans hF2) hR2 hr)
          | (rw [if_neg (by omega)] at hr
             exact ih _ _ M2 (by omega) (by omega) (by omega) (by omega) (hF.trans hF2) hR2 hr)
  refine x_bipush (pc := 0) dX5_nearOf_0 (by decide) ?_
  refine x_iload_n (pc := 2) dX5_nearOf_2 rfl rfl ?_
  refine x_ishl (pc := 3) p (by omega) rfl dX5_nearOf_3 ?_
  refine x_istore_n (pc := 4) dX5_nearOf_4 rfl (by decide) (L' := [(3, _), (0, _), (1, _), (2, _)]) rfl ?_
  refine x_bipush (pc := 5) dX5_nearOf_5 (by decide) ?_
  refine x_iload_n (pc := 7) dX5_nearOf_7 rfl rfl ?_
  refine x_ishl (pc := 8) p (by omega) rfl dX5_nearOf_8 ?_
  refine x_istore (pc := 9) dX5_nearOf_9 trivial (by decide) (L' := [(4, _), (3, _), (0, _), (1, _), (2, _)]) rfl ?_
  refine x_aload_n (pc := 11) dX5_nearOf_11 rfl rfl ?_
  refine x_iconst (pc := 12) dX5_nearOf_12 ?_
  refine x_callV (pc := 13) [_] rfl kX5_132 dX5_nearOf_13 hd.1 rfl rfl (by decide) (Nat.le_of_ble_eq_true rfl) (Nat.le_of_ble_eq_true rfl) (by decide) ?_
  refine sp_X5_endChanges (y9 := 0) hd hb0 hR hW (by omega) ?_
  rw [← hB]
  refine ⟨_, rfl, ?_⟩
  refine x_istore (pc := 16) dX5_nearOf_16 trivial (by decide) (L' := [(5, _), (4, _), (3, _), (0, _), (1, _), (2, _)]) rfl ?_
  refine X.loc [0, 1, 2, 3, 4, 5] (L' := [(5, _), (4, _), (3, _), (0, _), (1, _), (2, _)]) rfl ?_
  refine loop 12 _ _ M (by omega) (by omega) (by omega) (by rw [show (2 : Int) ^ 12 = 4096 from rfl]; omega) Frm.rf hR ?_
  rw [show (-32 : Int) * 2 ^ p = -(32 * 2 ^ p) by omega, hU]
