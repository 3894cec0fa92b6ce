/-! Roots as often as they are ones; what is left of SameF. -/
theorem rows_two {P : Nat → Int} (hz : Zd P 4) (h : 2 ≤ topW P 9) : 2 ≤ (mRows P).1 := by
  have e : mRows P = mLoop 4 (mTwo P) := by
    unfold mRows
    rw [if_neg (by omega), if_neg (by omega)]
  obtain ⟨h1, -, -⟩ := mTwo_ok hz h
  have d1 : (mTwo P).2.2 1 = topW P 9 - 2 := rfl
  have t5 := (mTwo_ok hz h).2.2
  obtain ⟨n, -, n2, -⟩ := mLoop_ok 4 (mTwo P) 0 h1 (by rw [d1]; omega)
  rw [e, n2.1]
  omega
theorem rows_one {P : Nat → Int} (hz : Zd P 4) (h : (mRows P).1 = 1) : (mRows P).2.2 0 = 0 := by
  by_cases c : topW P 9 = 1
  · unfold mRows
    rw [if_neg (by omega), if_pos c]
  · by_cases c0 : topW P 9 = 0
    · have := rows_zero c0
      omega
    · have := rows_two hz (show 2 ≤ topW P 9 by omega)
      omega
theorem mch_one {s : RS} (h : s.1 = 1) (x : Int) : mCh s x 0 1 = 0 := by
  unfold mCh
  rw [h]
  show (if mSg s x 0 1 0 ≠ 0 then (if (0 : Int) = - mSg s x 0 1 0 then (0 : Int) + 1 else 0, mSg s x 0 1 0) else (0, 0)).1 = 0
  by_cases c : mSg s x 0 1 0 = 0
  · rw [if_neg (fun z => z c)]
  · rw [if_pos c]
    show (if (0 : Int) = - mSg s x 0 1 0 then (0 : Int) + 1 else 0) = 0
    rw [if_neg (by omega)]
theorem cnt_one {a b : Int} {s : RS} (h : s.1 ≤ 1) : ∀ n : Nat, cntF a b n s = 0
  | 0 => rfl
  | n + 1 => by
    show (if s.1 ≤ 1 then 0 else dBet s a b + cntF a b n (buildF (s.2.1 (s.1 - 1)))) = 0
    rw [if_pos h]
/-- the last row, as a polynomial of its own -/
theorem last_row {P Q : Nat → Int} (hz : Zd P 4) (hPQ : Pp P Q) (c : topW P 9 ≠ 0) : Zd ((mRows P).2.1 ((mRows P).1 - 1)) 4 ∧ Pp ((mRows P).2.1 ((mRows P).1 - 1)) ((buildF Q).2.1 ((buildF Q).1 - 1)) ∧ topW ((mRows P).2.1 ((mRows P).1 - 1)) 9 = (mRows P).2.2 ((mRows P).1 - 1) + 1 ∧ 0 < (mRows P).1 := by
  have sim := sim_all hz hPQ
  obtain ⟨n, hC, hd, -⟩ := mRows_ch hz c
  have hs := hC.1
  obtain ⟨d1, d2⟩ := hd ((mRows P).1 - 1) (by omega)
  have l := hC.2.1 ((mRows P).1 - 1) (by omega)
  refine ⟨fun i hi => d2 i (by omega), ?_, ?_, by omega⟩
  · rw [← sim.1]
    exact (sim.2 _ (by omega)).2
  · generalize (mRows P).2.1 ((mRows P).1 - 1) = f at *
    generalize (mRows P).2.2 ((mRows P).1 - 1) = d at *
    rcases topW_sp f 9 with ⟨-, z⟩ | ⟨t1, t2, t3, t4⟩
    · exact absurd (z d (by omega)) l
    · by_cases e1 : topW f 9 - 1 < d
      · exact absurd (t4 d (by omega) (by omega)) l
      · by_cases e2 : d < topW f 9 - 1
        · exact absurd (d2 _ e2) t3
        · omega
theorem times_eq (a b : Int) : ∀ (n : Nat) (P Q : Nat → Int), Zd P 4 → Pp P Q → topW P 9 ≠ 0 → mTimes a b n (mRows P) = cntF a b n (buildF Q)
  | 0, _, _, _, _, _ => rfl
  | n + 1, P, Q, hz, hPQ, c => by
    have sim := sim_all hz hPQ
    obtain ⟨l1, l2, l3, l4⟩ := last_row hz hPQ c
    have e1 : mTimes a b (n + 1) (mRows P) = (mCh (mRows P) a 0 1 - mCh (mRows P) b 0 1) + (if (mRows P).2.2 ((mRows P).1 - 1) = 0 then 0 else mTimes a b n (mRows ((mRows P).2.1 ((mRows P).1 - 1)))) := rfl
    have e2 : cntF a b (n + 1) (buildF Q) = if (buildF Q).1 ≤ 1 then 0 else dBet (buildF Q) a b + cntF a b n (buildF ((buildF Q).2.1 ((buildF Q).1 - 1))) := rfl
    rw [e1, e2]
    by_cases h1 : (mRows P).1 = 1
    · have d0 := rows_one hz h1
      rw [mch_one h1, mch_one h1, if_pos (by rw [h1]; exact d0), if_pos (by rw [← sim.1]; omega)]
      rfl
    · rw [if_neg (show ¬ (buildF Q).1 ≤ 1 by rw [← sim.1]; omega)]
      have dB : dBet (buildF Q) a b = mCh (mRows P) a 0 1 - mCh (mRows P) b 0 1 := by
        unfold dBet
        rw [if_neg (by rw [← sim.1]; omega), mch_cup hz hPQ, mch_cup hz hPQ]
      rw [dB]
      congr 1
      by_cases d0 : (mRows P).2.2 ((mRows P).1 - 1) = 0
      · rw [if_pos d0]
        rw [d0] at l3
        have s2 := sim_all l1 l2
        refine (cnt_one ?_ n).symm
        rw [← s2.1]
        unfold mRows
        rw [if_neg (by unfold mRows at l3; omega), if_pos (by unfold mRows at l3; exact l3)]
        exact Nat.le_refl _
      · rw [if_neg d0]
        exact times_eq a b n _ _ l1 l2 (by omega)
theorem goodF_of (hT : ∀ P, WfP P → 0 < (buildF P).1 → mTimesOK 5 (mRows P)) : GoodF := by
  intro P hP
  have hz := hP.zd
  have sim := sim_all hz Pp.rf
  have e0 := ends_all hP 0
  refine ⟨fun k hk => (sim.2 k (by rw [sim.1]; exact hk)).1, fun k x hk _ _ => row_sg hz Pp.rf hk x, fun x _ _ => ?_, ⟨e0.1, e0.2⟩, fun i p h0 h1 hp => near_all hP h0 h1 hp, fun h => ⟨hT P hP h, fun a b _ _ _ => times_eq a b 5 P P hz Pp.rf (fun c => by have := rows_zero c; have := sim.1; omega)⟩, ?_, fun x _ _ => sec_all P x, fun x _ _ q hq => ?_, fun h => allD_nn hP h, fun x _ _ => deg_sh P x⟩
  · unfold mCh
    rw [sim.1]
    exact congrArg Prod.fst (chZ_cg _ (fun q hq => by
      show (if (0 : Int) = 1 then _ else _) = _
      rw [if_neg (by decide)]
      exact row_sg hz Pp.rf hq x))
  · rw [← sim.1]
    have e := degF_top P 5
    have t := top95 hz
    constructor
    · intro h
      apply Classical.byContradiction
      intro c
      have := (last_row hz Pp.rf (show topW P 9 ≠ 0 by omega)).2.2.2
      omega
    · intro h
      exact rows_zero (by omega)
  · have := der_zero P x q hq
    rw [← sg0, this, sg0]
