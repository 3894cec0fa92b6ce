/-! Roots as often as they count: even and odd. -/
theorem mLoop_ge : ∀ (n : Nat) (s : RS), s.1 ≤ (mLoop n s).1
  | 0, _ => Nat.le_refl _
  | n + 1, s => by
    simp only [mLoop]
    split
    · exact Nat.le_refl _
    · have := mLoop_ge n (mNext s)
      have e : (mNext s).1 = s.1 + 1 := rfl
      omega
/-- the sign just to the right of a place -/
def uR (Q : Nat → Int) (x : Int) : Int := sgnUp Q (topW Q 9 - 1) x 0
theorem top_nz {Q : Nat → Int} (ht : topW Q 9 ≠ 0) : Q (topW Q 9 - 1) ≠ 0 := by
  rcases topW_sp Q 9 with ⟨q, -⟩ | ⟨q1, q2, q3, q4⟩
  · exact absurd q ht
  · exact q3
theorem uR_s {Q : Nat → Int} (ht : topW Q 9 ≠ 0) (x : Int) : uR Q x = 1 ∨ uR Q x = -1 := sgnUp_s (top_nz ht)
theorem cnt_par (a b : Int) : ∀ (m : Nat) (Q : Nat → Int), Zd Q 4 → topW Q 9 ≠ 0 → topW Q 9 ≤ m → (cntF a b m (buildF Q)) % 2 = if uR Q a = uR Q b then 0 else 1
  | 0, Q, _, h, h2 => absurd h2 (by omega)
  | m + 1, Q, hz, ht, hm => by
    have sim := sim_all hz (Pp.rf (f := Q))
    obtain ⟨n, hC, hz2, r0, d0, hf⟩ := mRows_ch hz ht
    have hn : (buildF Q).1 = n + 1 := sim.1.symm.trans hC.1
    have ua := uR_s ht a
    have ub := uR_s ht b
    simp only [cntF]
    by_cases c : (buildF Q).1 ≤ 1
    · rw [if_pos c]
      have n0 : n = 0 := by omega
      subst n0
      have t1 : topW Q 9 = 1 := by
        by_cases t : topW Q 9 = 1
        · exact t
        · have e : mRows Q = mLoop 4 (mTwo Q) := by
            unfold mRows
            rw [if_neg ht, if_neg t]
          have := mLoop_ge 4 (mTwo Q)
          rw [← e, hC.1] at this
          have e2 : (mTwo Q).1 = 2 := rfl
          omega
      have hq := top_nz ht
      have : uR Q a = uR Q b := by
        unfold uR
        rw [t1] at hq ⊢
        exact sgnUp_c hq
      rw [if_pos this]
      rfl
    · rw [if_neg c]
      have n1 : 0 < n := by omega
      -- the last row, and that of the class
      have sl := sim.2 n (by rw [hC.1]; omega)
      obtain ⟨sl1, sl2⟩ := sl
      have zl := hz2 n (Nat.le_refl _)
      have tl := hC.2.1 n (Nat.le_refl _)
      have fall : ∀ i, i ≤ n → (mRows Q).2.2 i + i ≤ (mRows Q).2.2 0 := fun i => by
        induction i with
        | zero => intro _; omega
        | succ i ih =>
          intro hi
          have := ih (by omega)
          have := hf i (by omega)
          omega
      have fn := fall n (Nat.le_refl _)
      have topL : topW ((mRows Q).2.1 n) 9 = (mRows Q).2.2 n + 1 := by
        rcases topW_sp ((mRows Q).2.1 n) 9 with ⟨-, q⟩ | ⟨q1, q2, q3, q4⟩
        · exact absurd (q _ (by omega)) tl
        · by_cases c1 : topW ((mRows Q).2.1 n) 9 - 1 ≤ (mRows Q).2.2 n
          · by_cases c2 : (mRows Q).2.2 n < topW ((mRows Q).2.1 n) 9
            · omega
            · exact absurd (q4 _ (by omega) (by omega)) tl
          · exact absurd (zl.2 _ (by omega)) q3
      have topL2 : topW ((buildF Q).2.1 n) 9 = (mRows Q).2.2 n + 1 := (sl2.top 9).symm.trans topL
      have zl4 : Zd ((mRows Q).2.1 n) 4 := fun i hi => zl.2 i (by omega)
      have ih := cnt_par a b m ((buildF Q).2.1 n) (sl2.zd zl4) (by omega) (by omega)
      rw [show (buildF Q).1 - 1 = n by omega]
      have la := uR_s (Q := (buildF Q).2.1 n) (by omega) a
      have lb := uR_s (Q := (buildF Q).2.1 n) (by omega) b
      have nzr : ∀ x : Int, ∀ i, i ≤ n → upG (mRows Q) x 0 i = 1 ∨ upG (mRows Q) x 0 i = -1 := fun x i hi => sgnUp_s (hC.2.1 i hi)
      have ul : ∀ x : Int, upG (mRows Q) x 0 n = uR ((buildF Q).2.1 n) x := fun x => by
        show sgnUp ((mRows Q).2.1 n) ((mRows Q).2.2 n) x 0 = sgnUp ((buildF Q).2.1 n) (topW ((buildF Q).2.1 n) 9 - 1) x 0
        rw [topL2, Nat.add_sub_cancel]
        exact sgnUp_pp sl2 _ _ _
      have u0 : ∀ x : Int, upG (mRows Q) x 0 0 = uR Q x := fun x => by
        show sgnUp ((mRows Q).2.1 0) ((mRows Q).2.2 0) x 0 = sgnUp Q (topW Q 9 - 1) x 0
        rw [r0, d0]
      have par : ∀ x : Int, cUp (buildF Q) x 0 % 2 = if uR Q x = uR ((buildF Q).2.1 n) x then 0 else 1 := fun x => by
        rw [← sim.cu, ← u0, ← ul]
        show (chU (upG (mRows Q) x 0) (mRows Q).1).1 % 2 = _
        rw [hC.1]
        exact (chU_par n (nzr x)).2
      have pa := par a
      have pb := par b
      have hd : dBet (buildF Q) a b = cUp (buildF Q) a 0 - cUp (buildF Q) b 0 := if_neg (by omega)
      rw [hd]
      generalize uR Q a = qa at *
      generalize uR Q b = qb at *
      generalize uR ((buildF Q).2.1 n) a = ra at *
      generalize uR ((buildF Q).2.1 n) b = rb at *
      generalize cntF a b m (buildF ((buildF Q).2.1 n)) = N at *
      split at ih <;> split at pa <;> split at pb <;> split <;> omega
