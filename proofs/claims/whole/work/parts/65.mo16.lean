/-! The reference: roots as often as they are ones. -/
def mTimesOK : Nat → RS → Prop
  | 0, _ => False
  | n + 1, s => WfM s ∧ 0 < s.1 ∧ (s.2.2 (s.1 - 1) = 0 ∨ (mRowsOK (s.2.1 (s.1 - 1)) ∧ mTimesOK n (mRows (s.2.1 (s.1 - 1)))))
def mTimes (a b : Int) : Nat → RS → Int
  | 0, _ => 0
  | n + 1, s => (mCh s a 0 1 - mCh s b 0 1) + (if s.2.2 (s.1 - 1) = 0 then 0 else mTimes a b n (mRows (s.2.1 (s.1 - 1))))
theorem mTimes_rng (a b : Int) : ∀ (n : Nat) (s : RS), mTimesOK n s → -(5 * (n : Int)) ≤ mTimes a b n s ∧ mTimes a b n s ≤ 5 * n
  | 0, _, h => h.elim
  | n + 1, s, h => by
    have h5 := h.1.1
    have h1 := mCh_rng s a 0 1
    have h2 := mCh_rng s b 0 1
    simp only [mTimes]
    split
    · omega
    · next hne =>
      rcases h.2.2 with h3 | h3
      · exact absurd h3 hne
      · have := mTimes_rng a b n _ h3.2
        omega

set_option maxRecDepth 100000 in
theorem sp_X5_timesFrom {g : GG} {lay : Lay} {M : Mem} {K : KK} {d : Nat} {P : Nat → Int} {a y : Int} (hd : MoL lay d) (hb0 : g.2.1 ≤ d) (hB : ∃ N, Bg N M d) (hP : ∀ p, p < 9 → M (d + 1) (11 + p) = P p) (hPr : ∀ p, p < 9 → -1000 < P p ∧ P p < 1000) (hok : mRowsOK P) (hto : mTimesOK 5 (mRows P)) (ha : -20 ≤ a ∧ a ≤ 20) (hy : -20 ≤ y ∧ y ≤ 20) (k : ∀ M2, FrL d M M2 → (∃ N, Bg N M2 d) → K (.inl (some (vI (mTimes a y 5 (mRows P))))) lay M2) : X g m_X5_timesFrom 0 0 lay M 0 [(0, vR d), (1, vI a), (2, vI y)] [] K := by
  obtain ⟨U, hU⟩ : ∃ U, U = mTimes a y 5 (mRows P) := ⟨_, rfl⟩
  rw [← hU] at k
  have fin : ∀ (u4 u5 acc : Int) (M1 : Mem), acc = U → FrL d M M1 → (∃ N, Bg N M1 d) → u4 = 0 → X g m_X5_timesFrom 0 0 lay M1 120 [(5, vI u5), (4, vI u4), (3, vI acc), (0, vR d), (1, vI a), (2, vI y)] [] K := by
    intro u4 u5 acc M1 he hF hB1 h4
    refine x_goto (pc := 120) (t := 9) dX5_timesFrom_120 (by decide) ?_
    refine x_iload (pc := 9) dX5_timesFrom_9 rfl ?_
    refine x_if_eq (pc := 11) (t := 123) dX5_timesFrom_11 (by decide) ⟨by omega, by omega⟩ (fun c11 => ?_) (fun c11 => ?_)
    · refine x_iload_n (pc := 123) dX5_timesFrom_123 rfl rfl ?_
      refine x_iret (pc := 124) dX5_timesFrom_124 rfl (by decide) (by decide) ?_
      rw [he]
      exact k M1 hF hB1
    · exfalso; omega
  have loop : ∀ (n : Nat) (s : RS) (acc : Int) (M1 : Mem), n ≤ 5 → -(5 * (5 - (n : Int))) ≤ acc → acc ≤ 5 * (5 - (n : Int)) → mTimesOK n s → acc + mTimes a y n s = U → FrL d M M1 → Mr s M1 d → X g m_X5_timesFrom 0 0 lay M1 9 [(4, vI 1), (3, vI acc), (0, vR d), (1, vI a), (2, vI y)] [] K := by
    intro n
    induction n with
    | zero => intro s acc M1 hn h1 h2 ho; exact ho.elim
    | succ n ih =>
      intro s acc M1 hn h1 h2 ho hr hF hR1
      obtain ⟨hWm, hs0, ho⟩ := ho
      have h5 := hWm.1
      have q1 := mCh_rng s a 0 1
      have q2 := mCh_rng s y 0 1
      obtain ⟨hd4, -⟩ := hWm.2 (s.1 - 1) (by omega)
      simp only [mTimes] at hr
      have second : ∀ (c j : Nat) (z acc2 : Int) (N1 : Nat → Int) (M3 : Mem), acc2 = acc + (mCh s a 0 1 - mCh s y 0 1) → s.2.2 (s.1 - 1) ≠ 0 → j + c = 9 → z = j → FrL d M M3 → Bg N1 M3 d → (∀ q, q < 9 → N1 (81 + q) = s.2.1 (s.1 - 1) q) → (∀ q, q < j → N1 q = s.2.1 (s.1 - 1) q) → X g m_X5_timesFrom 0 0 lay M3 88 [(6, vI z), (5, vI ((s.1 - 1 : Nat) : Int)), (4, vI 1), (3, vI acc2), (0, vR d), (1, vI a), (2, vI y)] [] K := by
        intro c
        induction c with
        | zero =>
          intro j z acc2 N1 M3 hacc hne hj hz hF3 hB3 hw hw2
          rcases ho with ho | ho
          · exact absurd ho hne
          rw [if_neg hne] at hr
          refine x_iload (pc := 88) dX5_timesFrom_88 rfl ?_
          refine x_bipush (pc := 90) dX5_timesFrom_90 (by decide) ?_
          refine x_icmp_ge (pc := 92) (t := 116) dX5_timesFrom_92 (by decide) ⟨by omega, by omega⟩ ⟨by omega, by omega⟩ (fun c92 => ?_) (fun c92 => ?_)
          · refine x_aload_n (pc := 116) dX5_timesFrom_116 rfl rfl ?_
            refine x_callV (pc := 117) [] rfl kX5_115 dX5_timesFrom_117 hd.1 rfl rfl (by decide) (Nat.le_of_ble_eq_true rfl) (Nat.le_of_ble_eq_true rfl) (by decide) ?_
            refine sp_X5_laysFrom hd hb0 hB3 (fun q hq => hw2 q (by omega)) ho.1 (fun M4 hF4 hR4 => ?_)
            refine ⟨_, rfl, ?_⟩
            refine x_goto (pc := 120) (t := 9) dX5_timesFrom_120 (by decide) ?_
            refine X.loc [2, 3, 4, 5, 6] (L' := [(4, _), (3, _), (0, _), (1, _), (2, _)]) rfl ?_
            exact ih _ _ M4 (by omega) (by omega) (by omega) ho.2 (by omega) (hF3.tr hF4) hR4
          · exfalso; omega
        | succ c ihc =>
          intro j z acc2 N1 M3 hacc hne hj hz hF3 hB3 hw hw2
          refine x_iload (pc := 88) dX5_timesFrom_88 rfl ?_
          refine x_bipush (pc := 90) dX5_timesFrom_90 (by decide) ?_
          refine x_icmp_ge (pc := 92) (t := 116) dX5_timesFrom_92 (by decide) ⟨by omega, by omega⟩ ⟨by omega, by omega⟩ (fun c92 => ?_) (fun c92 => ?_)
          · exfalso; omega
          · refine x_aload_n (pc := 95) dX5_timesFrom_95 rfl rfl ?_
            refine x_bipush (pc := 96) dX5_timesFrom_96 (by decide) ?_
            refine x_iload (pc := 98) dX5_timesFrom_98 rfl ?_
            refine x_iadd (pc := 100) dX5_timesFrom_100 ?_
            refine x_iconst (pc := 101) dX5_timesFrom_101 ?_
            refine x_iload (pc := 102) dX5_timesFrom_102 rfl ?_
            refine x_callS (pc := 104) [_, _] rfl kX5_87 dX5_timesFrom_104 rfl (by decide) (Nat.le_of_ble_eq_true rfl) (Nat.le_of_ble_eq_true rfl) (by decide) ?_
            refine sp_X5_at ?_
            refine ⟨_, rfl, ?_⟩
            rw [show 81 + z = ((81 + j : Nat) : Int) by omega, show 9 * 0 + z = ((j : Nat) : Int) by omega]
            refine x_callV (pc := 107) [_, _] rfl kX5_76 dX5_timesFrom_107 hd.1 rfl rfl (by decide) (Nat.le_of_ble_eq_true rfl) (Nat.le_of_ble_eq_true rfl) (by decide) ?_
            refine sp_X5_copiesLong hd hb0 hB3 (by omega) (by omega) (fun M4 hF4 hB4 => ?_)
            rw [hw j (by omega)] at hB4
            refine ⟨_, rfl, ?_⟩
            refine x_iinc (pc := 110) dX5_timesFrom_110 rfl (by decide) (L' := [(6, _), (5, _), (4, _), (3, _), (0, _), (1, _), (2, _)]) rfl ?_
            refine x_goto (pc := 113) (t := 88) dX5_timesFrom_113 (by decide) ?_
            refine X.loc [0, 1, 2, 3, 4, 5, 6] (L' := [(6, _), (5, _), (4, _), (3, _), (0, _), (1, _), (2, _)]) rfl ?_
            refine ihc (j + 1) _ _ _ M4 hacc hne (by omega) (by omega) (hF3.fr hF4.frm) hB4 (fun q hq => by rw [fup_ne (by omega)]; exact hw q hq) (fun q hq => ?_)
            by_cases e : q = j
            · rw [e, fup_at]
            · rw [fup_ne e]
              exact hw2 q (by omega)
      have first : ∀ (c j : Nat) (z acc2 : Int) (N1 : Nat → Int) (M3 : Mem), acc2 = acc + (mCh s a 0 1 - mCh s y 0 1) → s.2.2 (s.1 - 1) ≠ 0 → j + c = 9 → z = j → FrL d M M3 → Bg N1 M3 d → (∀ q, q < 9 → N1 (9 * (s.1 - 1) + q) = s.2.1 (s.1 - 1) q) → (∀ q, q < j → N1 (81 + q) = s.2.1 (s.1 - 1) q) → X g m_X5_timesFrom 0 0 lay M3 56 [(6, vI z), (5, vI ((s.1 - 1 : Nat) : Int)), (4, vI 1), (3, vI acc2), (0, vR d), (1, vI a), (2, vI y)] [] K := by
        intro c
        induction c with
        | zero =>
          intro j z acc2 N1 M3 hacc hne hj hz hF3 hB3 hw hw2
          refine x_iload (pc := 56) dX5_timesFrom_56 rfl ?_
          refine x_bipush (pc := 58) dX5_timesFrom_58 (by decide) ?_
          refine x_icmp_ge (pc := 60) (t := 85) dX5_timesFrom_60 (by decide) ⟨by omega, by omega⟩ ⟨by omega, by omega⟩ (fun c60 => ?_) (fun c60 => ?_)
          · refine x_iconst (pc := 85) dX5_timesFrom_85 ?_
            refine x_istore (pc := 86) dX5_timesFrom_86 trivial (by decide) (L' := [(6, _), (5, _), (4, _), (3, _), (0, _), (1, _), (2, _)]) rfl ?_
            refine X.loc [0, 1, 2, 3, 4, 5, 6] (L' := [(6, _), (5, _), (4, _), (3, _), (0, _), (1, _), (2, _)]) rfl ?_
            exact second 9 0 _ _ N1 M3 hacc hne rfl rfl hF3 hB3 (fun q hq => hw2 q (by omega)) (fun q hq => by omega)
          · exfalso; omega
        | succ c ihc =>
          intro j z acc2 N1 M3 hacc hne hj hz hF3 hB3 hw hw2
          refine x_iload (pc := 56) dX5_timesFrom_56 rfl ?_
          refine x_bipush (pc := 58) dX5_timesFrom_58 (by decide) ?_
          refine x_icmp_ge (pc := 60) (t := 85) dX5_timesFrom_60 (by decide) ⟨by omega, by omega⟩ ⟨by omega, by omega⟩ (fun c60 => ?_) (fun c60 => ?_)
          · exfalso; omega
          · refine x_aload_n (pc := 63) dX5_timesFrom_63 rfl rfl ?_
            refine x_iload (pc := 64) dX5_timesFrom_64 rfl ?_
            refine x_iload (pc := 66) dX5_timesFrom_66 rfl ?_
            refine x_callS (pc := 68) [_, _] rfl kX5_87 dX5_timesFrom_68 rfl (by decide) (Nat.le_of_ble_eq_true rfl) (Nat.le_of_ble_eq_true rfl) (by decide) ?_
            refine sp_X5_at ?_
            refine ⟨_, rfl, ?_⟩
            refine x_bipush (pc := 71) dX5_timesFrom_71 (by decide) ?_
            refine x_iload (pc := 73) dX5_timesFrom_73 rfl ?_
            refine x_iadd (pc := 75) dX5_timesFrom_75 ?_
            rw [show 81 + z = ((81 + j : Nat) : Int) by omega, show 9 * ((s.1 - 1 : Nat) : Int) + z = ((9 * (s.1 - 1) + j : Nat) : Int) by omega]
            refine x_callV (pc := 76) [_, _] rfl kX5_76 dX5_timesFrom_76 hd.1 rfl rfl (by decide) (Nat.le_of_ble_eq_true rfl) (Nat.le_of_ble_eq_true rfl) (by decide) ?_
            refine sp_X5_copiesLong hd hb0 hB3 (by omega) (by omega) (fun M4 hF4 hB4 => ?_)
            rw [hw j (by omega)] at hB4
            refine ⟨_, rfl, ?_⟩
            refine x_iinc (pc := 79) dX5_timesFrom_79 rfl (by decide) (L' := [(6, _), (5, _), (4, _), (3, _), (0, _), (1, _), (2, _)]) rfl ?_
            refine x_goto (pc := 82) (t := 56) dX5_timesFrom_82 (by decide) ?_
            refine X.loc [0, 1, 2, 3, 4, 5, 6] (L' := [(6, _), (5, _), (4, _), (3, _), (0, _), (1, _), (2, _)]) rfl ?_
            refine ihc (j + 1) _ _ _ M4 hacc hne (by omega) (by omega) (hF3.fr hF4.frm) hB4 (fun q hq => by rw [fup_ne (by omega)]; exact hw q hq) (fun q hq => ?_)
            by_cases e : q = j
            · rw [e, fup_at]
            · rw [fup_ne (by omega)]
              exact hw2 q (by omega)
      refine x_iload (pc := 9) dX5_timesFrom_9 rfl ?_
      refine x_if_eq (pc := 11) (t := 123) dX5_timesFrom_11 (by decide) ⟨by omega, by omega⟩ (fun c11 => ?_) (fun c11 => ?_)
      · exfalso; omega
      · refine x_iload_n (pc := 14) dX5_timesFrom_14 rfl rfl ?_
        refine x_aload_n (pc := 15) dX5_timesFrom_15 rfl rfl ?_
        refine x_iload_n (pc := 16) dX5_timesFrom_16 rfl rfl ?_
        refine x_iload_n (pc := 17) dX5_timesFrom_17 rfl rfl ?_
        refine x_callV (pc := 18) [_, _] rfl kX5_129 dX5_timesFrom_18 hd.1 rfl rfl (by decide) (Nat.le_of_ble_eq_true rfl) (Nat.le_of_ble_eq_true rfl) (by decide) ?_
        refine sp_X5_rootsFrom hd hb0 hR1 hWm ha hy (fun M2 hF2 hR2 => ?_)
        obtain ⟨N2, hB2, h9, hrow⟩ := id hR2
        obtain ⟨hdg, hwg⟩ := hrow (s.1 - 1) (by omega)
        refine ⟨_, rfl, ?_⟩
        refine x_iadd (pc := 21) dX5_timesFrom_21 ?_
        refine x_istore_n (pc := 22) dX5_timesFrom_22 rfl (by decide) (L' := [(3, _), (4, _), (0, _), (1, _), (2, _)]) rfl ?_
        refine x_aload_n (pc := 23) dX5_timesFrom_23 rfl rfl ?_
        refine x_geti (pc := 24) fX5_106 dX5_timesFrom_24 hd.1 rfl (fun r24a r24b => ?_)
        rw [h9] at r24a r24b ⊢
        refine x_iconst (pc := 27) dX5_timesFrom_27 ?_
        refine x_isub (pc := 28) dX5_timesFrom_28 ?_
        rw [show ((s.1 : Nat) : Int) - 1 = ((s.1 - 1 : Nat) : Int) by omega]
        refine x_istore (pc := 29) dX5_timesFrom_29 trivial (by decide) (L' := [(5, _), (3, _), (4, _), (0, _), (1, _), (2, _)]) rfl ?_
        refine x_aload_n (pc := 31) dX5_timesFrom_31 rfl rfl ?_
        refine x_getr (pc := 32) (b := d + 8) fX5_32 dX5_timesFrom_32 hd.1 rfl rfl ?_
        refine x_iload (pc := 35) dX5_timesFrom_35 rfl ?_
        refine x_iald (pc := 37) dX5_timesFrom_37 hd.2.2.2.2.2.2.2.2.1 (by omega) (by omega) (fun r37a r37b => ?_)
        rw [Int.toNat_natCast, hdg] at r37a r37b ⊢
        refine x_if_le (pc := 38) (t := 45) dX5_timesFrom_38 (by decide) ⟨by omega, by omega⟩ (fun c38 => ?_) (fun c38 => ?_)
        · refine x_iconst (pc := 45) dX5_timesFrom_45 ?_
          refine x_istore (pc := 46) dX5_timesFrom_46 trivial (by decide) (L' := [(4, _), (5, _), (3, _), (0, _), (1, _), (2, _)]) rfl ?_
          refine x_iload (pc := 48) dX5_timesFrom_48 rfl ?_
          refine x_if_eq (pc := 50) (t := 120) dX5_timesFrom_50 (by decide) ⟨by omega, by omega⟩ (fun c50 => ?_) (fun c50 => ?_)
          · refine X.loc [1, 0, 2, 3, 4, 5] (L' := [(5, _), (4, _), (3, _), (0, _), (1, _), (2, _)]) rfl ?_
            first
            | (exfalso; omega)
            | (refine fin _ _ _ M2 ?_ (hF.fr hF2) ⟨N2, hB2⟩ (by omega)
               rw [if_pos (by omega)] at hr
               omega)
          · refine x_iconst (pc := 53) dX5_timesFrom_53 ?_
            refine x_istore (pc := 54) dX5_timesFrom_54 trivial (by decide) (L' := [(6, _), (4, _), (5, _), (3, _), (0, _), (1, _), (2, _)]) rfl ?_
            refine X.loc [0, 2, 1, 3, 4, 5, 6] (L' := [(6, _), (5, _), (4, _), (3, _), (0, _), (1, _), (2, _)]) rfl ?_
            first
            | (exfalso; omega)
            | exact first 9 0 _ _ N2 M2 rfl (by omega) rfl rfl (hF.fr hF2) hB2 hwg (fun q hq => by omega)
        · refine x_iconst (pc := 41) dX5_timesFrom_41 ?_
          refine x_goto (pc := 42) (t := 46) dX5_timesFrom_42 (by decide) ?_
          refine x_istore (pc := 46) dX5_timesFrom_46 trivial (by decide) (L' := [(4, _), (5, _), (3, _), (0, _), (1, _), (2, _)]) rfl ?_
          refine x_iload (pc := 48) dX5_timesFrom_48 rfl ?_
          refine x_if_eq (pc := 50) (t := 120) dX5_timesFrom_50 (by decide) ⟨by omega, by omega⟩ (fun c50 => ?_) (fun c50 => ?_)
          · refine X.loc [1, 0, 2, 3, 4, 5] (L' := [(5, _), (4, _), (3, _), (0, _), (1, _), (2, _)]) rfl ?_
            first
            | (exfalso; omega)
            | (refine fin _ _ _ M2 ?_ (hF.fr hF2) ⟨N2, hB2⟩ (by omega)
               rw [if_pos (by omega)] at hr
               omega)
          · refine x_iconst (pc := 53) dX5_timesFrom_53 ?_
            refine x_istore (pc := 54) dX5_timesFrom_54 trivial (by decide) (L' := [(6, _), (4, _), (5, _), (3, _), (0, _), (1, _), (2, _)]) rfl ?_
            refine X.loc [0, 2, 1, 3, 4, 5, 6] (L' := [(6, _), (5, _), (4, _), (3, _), (0, _), (1, _), (2, _)]) rfl ?_
            first
            | (exfalso; omega)
            | exact first 9 0 _ _ N2 M2 rfl (by omega) rfl rfl (hF.fr hF2) hB2 hwg (fun q hq => by omega)
  refine x_aload_n (pc := 0) dX5_timesFrom_0 rfl rfl ?_
  refine x_callV (pc := 1) [] rfl kX5_126 dX5_timesFrom_1 hd.1 rfl rfl (by decide) (Nat.le_of_ble_eq_true rfl) (Nat.le_of_ble_eq_true rfl) (by decide) ?_
  refine sp_X5_laysRows hd hb0 hB hP hPr hok (fun M2 hF2 hR2 => ?_)
  refine ⟨_, rfl, ?_⟩
  refine x_iconst (pc := 4) dX5_timesFrom_4 ?_
  refine x_istore_n (pc := 5) dX5_timesFrom_5 rfl (by decide) (L' := [(3, _), (0, _), (1, _), (2, _)]) rfl ?_
  refine x_iconst (pc := 6) dX5_timesFrom_6 ?_
  refine x_istore (pc := 7) dX5_timesFrom_7 trivial (by decide) (L' := [(4, _), (3, _), (0, _), (1, _), (2, _)]) rfl ?_
  refine X.loc [0, 1, 2, 3, 4] (L' := [(4, _), (3, _), (0, _), (1, _), (2, _)]) rfl ?_
  exact loop 5 _ _ M2 (by omega) (by omega) (by omega) hto (by omega) hF2 hR2
