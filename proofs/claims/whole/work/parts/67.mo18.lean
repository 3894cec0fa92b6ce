/-! The reference: more calls that tell something. -/
/-- the rest of what the reference's rows and the class's rows tell alike -/
def SameF (P : Nat → Int) : Prop :=
  (∀ k, k < (buildF P).1 → (mRows P).2.2 k = (buildF P).2.2 k) ∧
  (∀ k x, k < (buildF P).1 → -20 ≤ x → x ≤ 20 → sg (hor x (fun i => (mRows P).2.1 k i * 2 ^ (0 * ((mRows P).2.2 k - i))) ((mRows P).2.2 k) ((mRows P).2.2 k)) = sg (valF ((buildF P).2.1 k) x 5)) ∧
  (∀ x, -20 ≤ x → x ≤ 20 → mCh (mRows P) x 0 0 = (chZ (fun q => sg (valF ((buildF P).2.1 q) x 5)) (buildF P).1).1) ∧
  (endF (mRows P) 0 = cUp (buildF P) (-31) 0 ∧ endF (mRows P) 1 = cUp (buildF P) 31 0) ∧
  (∀ i p, 0 ≤ i → i < allD (buildF P) → p ≤ 6 → mNear (mRows P) i p = belowF (buildF P) i p) ∧
  (0 < (buildF P).1 → mTimesOK 5 (mRows P) ∧ ∀ a b, -20 ≤ a → a < b → b ≤ 20 → mTimes a b 5 (mRows P) = cntF a b 5 (buildF P)) ∧
  ((buildF P).1 = 0 ↔ degF P 5 < 0) ∧
  (∀ x, -20 ≤ x → x ≤ 20 → secF P x = (chZ (fun i => sg (shP P x i)) 5).1) ∧
  (∀ x, -20 ≤ x → x ≤ 20 → ∀ q, q < 5 → (derV P q x = 0 ↔ shP P x q = 0)) ∧
  (0 < (buildF P).1 → 0 ≤ allD (buildF P)) ∧
  (∀ x, -20 ≤ x → x ≤ 20 → (degF P 5 < 0 ↔ ∀ q, q < 5 → shP P x q = 0))
def GoodF : Prop := ∀ P, WfP P → SameF P

set_option maxRecDepth 100000 in
theorem sp_X5_account {g : GG} {lay : Lay} {M : Mem} {K : KK} {d : Nat} {T : CT} {x : Int} {A : Nat → Int} (hd : MoL lay d) (hb0 : g.2.1 ≤ d) (hT : RowT T (M (d + 1))) (hW : WfT T) (hB : ∃ N, Bg N M d) (gM : GoodM) (gE : GoodE) (hA : Acm A M d) (hx : i32 x) (k : ∀ (M2 : Mem) (v : Int), FrQ d M M2 → RowT T (M2 (d + 1)) → (∃ N, Bg N M2 d) → M2 d 0 = kOf [nIA] (if 0 ≤ x ∧ x ≤ 8 then oI (A x.toNat) else eIA) → (∀ v9, (if 0 ≤ x ∧ x ≤ 8 then oI (A x.toNat) else eIA) = oI v9 → v = v9) → K (.inl (some (vI v))) lay M2) : X g m_X5_account 0 0 lay M 0 [(0, vR d), (1, vI x)] [] K := by
  have hn := hW.n60
  obtain ⟨wS, wP, wN, wm, wK, wL, wO, wB⟩ := id hW
  obtain ⟨⟨hS, hN, h10, hP, hp3, hL, hK, h99, hm⟩, hO, hBo⟩ := id hT
  have y0 := @b01 (0 ≤ x ∧ x ≤ 8) inferInstance
  have bad : ∀ t : Int, 0 < t → t = kOf [nIA] (if 0 ≤ x ∧ x ≤ 8 then oI (A x.toNat) else eIA) → X g m_X5_account 0 0 lay M 16 [(0, vR d), (1, vI x)] [vI t, vR d] K := by
    intro t ht1 ht2
    have ht3 : t ≤ 4 := by rw [ht2]; exact kOf_le1
    refine x_puti (pc := 16) fnX5_55 dX5_account_16 hd.1 (by omega) rfl ⟨by omega, by omega⟩ ?_
    refine x_nm (fun M1 hM1 => ?_)
    obtain ⟨z1, z2, z3, z4⟩ := mq hM1 hT hB
    refine x_aload_n (pc := 19) dX5_account_19 rfl rfl ?_
    refine x_geti (pc := 20) fX5_55 dX5_account_20 hd.1 rfl (fun r20a r20b => ?_)
    try simp (disch := omega) only [mset_same, mset_nea, mset_nei, mcopy_nea, mcopy_in, mcopy_out, Int.reduceToNat, Int.toNat_natCast, Nat.zero_add, Nat.sub_zero] at r20a r20b ⊢
    rw [z1] at r20a r20b ⊢
    refine x_if_le (pc := 23) (t := 30) dX5_account_23 (by decide) ⟨by omega, by omega⟩ (fun c23 => ?_) (fun c23 => ?_)
    · exfalso; omega
    · refine x_iconst (pc := 26) dX5_account_26 ?_
      refine x_goto (pc := 27) (t := 36) dX5_account_27 (by decide) ?_
      refine x_iret (pc := 36) dX5_account_36 rfl (by decide) (by decide) ?_
      refine k M1 _ z2 z3 z4 (by rw [z1]; exact ht2) (fun v9 hx => ?_)
      rw [hx] at ht2
      have h0 : kOf [nIA] (oI v9) = 0 := rfl
      exfalso
      omega
  have good : 0 ≤ x ∧ x ≤ 8 → X g m_X5_account 0 0 lay M 16 [(0, vR d), (1, vI x)] [vI 0, vR d] K := by
    intro h1
    refine x_puti (pc := 16) fnX5_55 dX5_account_16 hd.1 (by omega) rfl ⟨by omega, by omega⟩ ?_
    refine x_nm (fun M1 hM1 => ?_)
    obtain ⟨z1, z2, z3, z4⟩ := mq hM1 hT hB
    refine x_aload_n (pc := 19) dX5_account_19 rfl rfl ?_
    refine x_geti (pc := 20) fX5_55 dX5_account_20 hd.1 rfl (fun r20a r20b => ?_)
    try simp (disch := omega) only [mset_same, mset_nea, mset_nei, mcopy_nea, mcopy_in, mcopy_out, Int.reduceToNat, Int.toNat_natCast, Nat.zero_add, Nat.sub_zero] at r20a r20b ⊢
    rw [z1] at r20a r20b ⊢
    refine x_if_le (pc := 23) (t := 30) dX5_account_23 (by decide) ⟨by omega, by omega⟩ (fun c23 => ?_) (fun c23 => ?_)
    · refine x_aload_n (pc := 30) dX5_account_30 rfl rfl ?_
      refine x_getr (pc := 31) (b := d + 6) fX5_26 dX5_account_31 hd.1 rfl rfl ?_
      refine x_iload_n (pc := 34) dX5_account_34 rfl rfl ?_
      refine x_iald (pc := 35) dX5_account_35 hd.2.2.2.2.2.2.1 (by omega) (by omega) (fun r35a r35b => ?_)
      try simp (disch := omega) only [mset_same, mset_nea, mset_nei, mcopy_nea, mcopy_in, mcopy_out, Int.reduceToNat, Int.toNat_natCast, Nat.zero_add, Nat.sub_zero] at r35a r35b ⊢
      refine x_iret (pc := 36) dX5_account_36 rfl (by decide) (by decide) ?_
      have hR : (if 0 ≤ x ∧ x ≤ 8 then oI (A x.toNat) else eIA) = oI (A x.toNat) := if_pos h1
      rw [z2 _ _ (by omega) (by omega) (by omega) (by omega) (by omega), hA _ (by omega)]
      exact k M1 _ z2 z3 z4 (by rw [z1, hR]; rfl) (fun v9 hx => oI_inj (hR.symm.trans hx))
    · exfalso; omega
  refine x_aload_n (pc := 0) dX5_account_0 rfl rfl ?_
  refine x_iload_n (pc := 1) dX5_account_1 rfl rfl ?_
  refine x_iconst (pc := 2) dX5_account_2 ?_
  refine x_bipush (pc := 3) dX5_account_3 (by decide) ?_
  refine x_callS (pc := 5) [_, _, _] rfl kX5_144 dX5_account_5 rfl (by decide) (Nat.le_of_ble_eq_true rfl) (Nat.le_of_ble_eq_true rfl) (by decide) ?_
  obtain ⟨hx1, hx2⟩ := hx
  refine sp_X5_in ⟨by omega, by omega⟩ ⟨by omega, by omega⟩ ⟨by omega, by omega⟩ ?_
  refine ⟨_, rfl, ?_⟩
  refine x_if_eq (pc := 8) (t := 15) dX5_account_8 (by decide) ⟨by omega, by omega⟩ (fun c8 => ?_) (fun c8 => ?_)
  · refine x_iconst (pc := 15) dX5_account_15 ?_
    refine X.loc [0, 1] (L' := [(0, _), (1, _)]) rfl ?_
    first
    | exact good (b1 c8)
    | exact bad 1 (by omega) (by rw [if_neg (b0 c8)]; rfl)
  · refine x_iconst (pc := 11) dX5_account_11 ?_
    refine x_goto (pc := 12) (t := 16) dX5_account_12 (by decide) ?_
    refine X.loc [0, 1] (L' := [(0, _), (1, _)]) rfl ?_
    first
    | exact good (b1 c8)
    | exact bad 1 (by omega) (by rw [if_neg (b0 c8)]; rfl)
set_option maxRecDepth 100000 in
theorem sp_X5_power {g : GG} {lay : Lay} {M : Mem} {K : KK} {d : Nat} {T : CT} {p x : Int} (hd : MoL lay d) (hb0 : g.2.1 ≤ d) (hT : RowT T (M (d + 1))) (hW : WfT T) (hB : ∃ N, Bg N M d) (gM : GoodM) (gE : GoodE) (hp : i32 p) (hx : i32 x) (k : ∀ (M2 : Mem) (v : Int), FrQ d M M2 → RowT T (M2 (d + 1)) → (∃ N, Bg N M2 d) → M2 d 0 = kOf [nIO, nIA] (rPower T p x) → (∀ v9, (rPower T p x) = oI v9 → v = v9) → K (.inl (some (vI v))) lay M2) : X g m_X5_power 0 0 lay M 0 [(0, vR d), (1, vI p), (2, vI x)] [] K := by
  have hn := hW.n60
  obtain ⟨wS, wP, wN, wm, wK, wL, wO, wB⟩ := id hW
  obtain ⟨⟨hS, hN, h10, hP, hp3, hL, hK, h99, hm⟩, hO, hBo⟩ := id hT
  have y0 := @b01 (hasP T p) inferInstance
  have y1 := @b01 (0 ≤ x ∧ x ≤ 4) inferInstance
  have w0 := wS.1
  have bad : ∀ t : Int, 0 < t → t = kOf [nIO, nIA] (rPower T p x) → X g m_X5_power 0 0 lay M 27 [(0, vR d), (1, vI p), (2, vI x)] [vI t, vR d] K := by
    intro t ht1 ht2
    have ht3 : t ≤ 4 := by rw [ht2]; exact kOf_le2
    refine x_puti (pc := 27) fnX5_55 dX5_power_27 hd.1 (by omega) rfl ⟨by omega, by omega⟩ ?_
    refine x_nm (fun M1 hM1 => ?_)
    obtain ⟨z1, z2, z3, z4⟩ := mq hM1 hT hB
    refine x_aload_n (pc := 30) dX5_power_30 rfl rfl ?_
    refine x_geti (pc := 31) fX5_55 dX5_power_31 hd.1 rfl (fun r31a r31b => ?_)
    try simp (disch := omega) only [mset_same, mset_nea, mset_nei, mcopy_nea, mcopy_in, mcopy_out, Int.reduceToNat, Int.toNat_natCast, Nat.zero_add, Nat.sub_zero] at r31a r31b ⊢
    rw [z1] at r31a r31b ⊢
    refine x_if_le (pc := 34) (t := 41) dX5_power_34 (by decide) ⟨by omega, by omega⟩ (fun c34 => ?_) (fun c34 => ?_)
    · exfalso; omega
    · refine x_iconst (pc := 37) dX5_power_37 ?_
      refine x_goto (pc := 38) (t := 42) dX5_power_38 (by decide) ?_
      by_cases s42_m1 : (-1) = (-1)
      · refine x_tsw_in (pc := 42) (t := 76) (-1) dX5_power_42 s42_m1 (by decide) (by decide) (by decide) rfl (by decide) ?_
        refine x_iconst (pc := 76) dX5_power_76 ?_
        refine x_iret (pc := 77) dX5_power_77 rfl (by decide) (by decide) ?_
        refine k M1 _ z2 z3 z4 (by rw [z1]; exact ht2) (fun v9 hx => ?_)
        rw [hx] at ht2
        have h0 : kOf [nIO, nIA] (oI v9) = 0 := rfl
        exfalso
        omega
      by_cases s42_0 : (-1) = 0
      · exfalso; omega
      by_cases s42_1 : (-1) = 1
      · exfalso; omega
      by_cases s42_2 : (-1) = 2
      · exfalso; omega
      by_cases s42_3 : (-1) = 3
      · exfalso; omega
      exfalso; omega
  have good : hasP T p → (0 ≤ x ∧ x ≤ 4) → True → X g m_X5_power 0 0 lay M 27 [(0, vR d), (1, vI p), (2, vI x)] [vI 0, vR d] K := by
    intro h1 h2 _
    refine x_puti (pc := 27) fnX5_55 dX5_power_27 hd.1 (by omega) rfl ⟨by omega, by omega⟩ ?_
    refine x_nm (fun M1 hM1 => ?_)
    obtain ⟨z1, z2, z3, z4⟩ := mq hM1 hT hB
    obtain ⟨q, rfl⟩ := Int.eq_ofNat_of_zero_le h1.1
    have hq5 : q < 5 := by omega
    obtain ⟨g1, g2, g3⟩ := z3.1.2.2.2.2.1 q hq5
    refine x_aload_n (pc := 30) dX5_power_30 rfl rfl ?_
    refine x_geti (pc := 31) fX5_55 dX5_power_31 hd.1 rfl (fun r31a r31b => ?_)
    try simp (disch := omega) only [mset_same, mset_nea, mset_nei, mcopy_nea, mcopy_in, mcopy_out, Int.reduceToNat, Int.toNat_natCast, Nat.zero_add, Nat.sub_zero] at r31a r31b ⊢
    rw [z1] at r31a r31b ⊢
    refine x_if_le (pc := 34) (t := 41) dX5_power_34 (by decide) ⟨by omega, by omega⟩ (fun c34 => ?_) (fun c34 => ?_)
    · refine x_iload_n (pc := 41) dX5_power_41 rfl rfl ?_
      by_cases s42_m1 : x = (-1)
      · exfalso; omega
      by_cases s42_0 : x = 0
      · refine x_tsw_in (pc := 42) (t := 78) 0 dX5_power_42 s42_0 (by decide) (by decide) (by decide) rfl (by decide) ?_
        refine x_aload_n (pc := 78) dX5_power_78 rfl rfl ?_
        refine x_getr (pc := 79) (b := d + 1) fX5_7 dX5_power_79 hd.1 rfl rfl ?_
        refine x_bipush (pc := 82) dX5_power_82 (by decide) ?_
        refine x_iload_n (pc := 84) dX5_power_84 rfl rfl ?_
        refine x_iadd (pc := 85) dX5_power_85 ?_
        refine x_iald (pc := 86) dX5_power_86 hd.2.1 (by omega) (by omega) (fun r86a r86b => ?_)
        try simp (disch := omega) only [mset_same, mset_nea, mset_nei, mcopy_nea, mcopy_in, mcopy_out, Int.reduceToNat, Int.toNat_natCast, Nat.zero_add, Nat.sub_zero] at r86a r86b ⊢
        rw [show (11 + (q : Int)).toNat = 11 + q by omega, z3.1.2.2.2.1 q (by omega)] at r86a r86b ⊢
        refine x_iret (pc := 87) dX5_power_87 rfl (by decide) (by decide) ?_
        refine k M1 _ z2 z3 z4 (by rw [z1]; unfold rPower; rw [if_neg (fun z => z h1), if_neg (fun z => z h2)]; rfl) (fun v9 hq => ?_)
        unfold rPower at hq
        rw [if_neg (fun z => z h1), if_neg (fun z => z h2), Int.toNat_natCast] at hq
        have hq := oI_inj hq
        rw [← hq]
        unfold powF
        repeat (first | rw [if_pos (by omega)] | rw [if_neg (by omega)])
        first | done | rfl
      by_cases s42_1 : x = 1
      · refine x_tsw_in (pc := 42) (t := 88) 1 dX5_power_42 s42_1 (by decide) (by decide) (by decide) rfl (by decide) ?_
        refine x_aload_n (pc := 88) dX5_power_88 rfl rfl ?_
        refine x_iload_n (pc := 89) dX5_power_89 rfl rfl ?_
        refine x_callV (pc := 90) [_] rfl kX5_148 dX5_power_90 hd.1 rfl rfl (by decide) (Nat.le_of_ble_eq_true rfl) (Nat.le_of_ble_eq_true rfl) (by decide) ?_
        have hz9 := @b01 (isBar T (q : Int)) inferInstance
        refine sp_X5_isBarred hd hb0 z3.bar wS hn (by omega) ?_
        refine ⟨_, rfl, ?_⟩
        refine x_if_eq (pc := 93) (t := 100) dX5_power_93 (by decide) ⟨by omega, by omega⟩ (fun c93 => ?_) (fun c93 => ?_)
        · refine x_iconst (pc := 100) dX5_power_100 ?_
          refine x_iret (pc := 101) dX5_power_101 rfl (by decide) (by decide) ?_
          refine k M1 _ z2 z3 z4 (by rw [z1]; unfold rPower; rw [if_neg (fun z => z h1), if_neg (fun z => z h2)]; rfl) (fun v9 hq => ?_)
          unfold rPower at hq
          rw [if_neg (fun z => z h1), if_neg (fun z => z h2), Int.toNat_natCast] at hq
          have hq := oI_inj hq
          rw [← hq]
          unfold powF
          first
          | (have c9 := b1 c93
             rw [if_neg (by omega), if_pos (by omega), if_pos c9])
          | (have c9 := b0 c93
             rw [if_neg (by omega), if_pos (by omega), if_neg c9])
        · refine x_iconst (pc := 96) dX5_power_96 ?_
          refine x_goto (pc := 97) (t := 101) dX5_power_97 (by decide) ?_
          refine x_iret (pc := 101) dX5_power_101 rfl (by decide) (by decide) ?_
          refine k M1 _ z2 z3 z4 (by rw [z1]; unfold rPower; rw [if_neg (fun z => z h1), if_neg (fun z => z h2)]; rfl) (fun v9 hq => ?_)
          unfold rPower at hq
          rw [if_neg (fun z => z h1), if_neg (fun z => z h2), Int.toNat_natCast] at hq
          have hq := oI_inj hq
          rw [← hq]
          unfold powF
          first
          | (have c9 := b1 c93
             rw [if_neg (by omega), if_pos (by omega), if_pos c9])
          | (have c9 := b0 c93
             rw [if_neg (by omega), if_pos (by omega), if_neg c9])
      by_cases s42_2 : x = 2
      · refine x_tsw_in (pc := 42) (t := 102) 2 dX5_power_42 s42_2 (by decide) (by decide) (by decide) rfl (by decide) ?_
        refine x_aload_n (pc := 102) dX5_power_102 rfl rfl ?_
        refine x_getr (pc := 103) (b := d + 1) fX5_7 dX5_power_103 hd.1 rfl rfl ?_
        refine x_bipush (pc := 106) dX5_power_106 (by decide) ?_
        refine x_iload_n (pc := 108) dX5_power_108 rfl rfl ?_
        refine x_iadd (pc := 109) dX5_power_109 ?_
        refine x_iald (pc := 110) dX5_power_110 hd.2.1 (by omega) (by omega) (fun r110a r110b => ?_)
        try simp (disch := omega) only [mset_same, mset_nea, mset_nei, mcopy_nea, mcopy_in, mcopy_out, Int.reduceToNat, Int.toNat_natCast, Nat.zero_add, Nat.sub_zero] at r110a r110b ⊢
        rw [show (20 + (q : Int)).toNat = 20 + q by omega, g1] at r110a r110b ⊢
        refine x_iret (pc := 111) dX5_power_111 rfl (by decide) (by decide) ?_
        refine k M1 _ z2 z3 z4 (by rw [z1]; unfold rPower; rw [if_neg (fun z => z h1), if_neg (fun z => z h2)]; rfl) (fun v9 hq => ?_)
        unfold rPower at hq
        rw [if_neg (fun z => z h1), if_neg (fun z => z h2), Int.toNat_natCast] at hq
        have hq := oI_inj hq
        rw [← hq]
        unfold powF
        repeat (first | rw [if_pos (by omega)] | rw [if_neg (by omega)])
        first | done | rfl
      by_cases s42_3 : x = 3
      · refine x_tsw_in (pc := 42) (t := 112) 3 dX5_power_42 s42_3 (by decide) (by decide) (by decide) rfl (by decide) ?_
        refine x_aload_n (pc := 112) dX5_power_112 rfl rfl ?_
        refine x_getr (pc := 113) (b := d + 1) fX5_7 dX5_power_113 hd.1 rfl rfl ?_
        refine x_bipush (pc := 116) dX5_power_116 (by decide) ?_
        refine x_iload_n (pc := 118) dX5_power_118 rfl rfl ?_
        refine x_iadd (pc := 119) dX5_power_119 ?_
        refine x_iald (pc := 120) dX5_power_120 hd.2.1 (by omega) (by omega) (fun r120a r120b => ?_)
        try simp (disch := omega) only [mset_same, mset_nea, mset_nei, mcopy_nea, mcopy_in, mcopy_out, Int.reduceToNat, Int.toNat_natCast, Nat.zero_add, Nat.sub_zero] at r120a r120b ⊢
        rw [show (29 + (q : Int)).toNat = 29 + q by omega, g2] at r120a r120b ⊢
        refine x_iret (pc := 121) dX5_power_121 rfl (by decide) (by decide) ?_
        refine k M1 _ z2 z3 z4 (by rw [z1]; unfold rPower; rw [if_neg (fun z => z h1), if_neg (fun z => z h2)]; rfl) (fun v9 hq => ?_)
        unfold rPower at hq
        rw [if_neg (fun z => z h1), if_neg (fun z => z h2), Int.toNat_natCast] at hq
        have hq := oI_inj hq
        rw [← hq]
        unfold powF
        repeat (first | rw [if_pos (by omega)] | rw [if_neg (by omega)])
        first | done | rfl
      refine x_tsw_out (pc := 42) (t := 122) dX5_power_42 ⟨by omega, by omega⟩ (by omega) (by decide) ?_
      refine x_aload_n (pc := 122) dX5_power_122 rfl rfl ?_
      refine x_getr (pc := 123) (b := d + 1) fX5_7 dX5_power_123 hd.1 rfl rfl ?_
      refine x_bipush (pc := 126) dX5_power_126 (by decide) ?_
      refine x_iload_n (pc := 128) dX5_power_128 rfl rfl ?_
      refine x_iadd (pc := 129) dX5_power_129 ?_
      refine x_iald (pc := 130) dX5_power_130 hd.2.1 (by omega) (by omega) (fun r130a r130b => ?_)
      try simp (disch := omega) only [mset_same, mset_nea, mset_nei, mcopy_nea, mcopy_in, mcopy_out, Int.reduceToNat, Int.toNat_natCast, Nat.zero_add, Nat.sub_zero] at r130a r130b ⊢
      rw [show (38 + (q : Int)).toNat = 38 + q by omega, g3] at r130a r130b ⊢
      refine x_iret (pc := 131) dX5_power_131 rfl (by decide) (by decide) ?_
      refine k M1 _ z2 z3 z4 (by rw [z1]; unfold rPower; rw [if_neg (fun z => z h1), if_neg (fun z => z h2)]; rfl) (fun v9 hq => ?_)
      unfold rPower at hq
      rw [if_neg (fun z => z h1), if_neg (fun z => z h2), Int.toNat_natCast] at hq
      have hq := oI_inj hq
      rw [← hq]
      unfold powF
      repeat (first | rw [if_pos (by omega)] | rw [if_neg (by omega)])
      first | done | rfl
    · exfalso; omega
  refine x_aload_n (pc := 0) dX5_power_0 rfl rfl ?_
  refine x_aload_n (pc := 1) dX5_power_1 rfl rfl ?_
  refine x_iload_n (pc := 2) dX5_power_2 rfl rfl ?_
  refine x_callV (pc := 3) [_] rfl kX5_231 dX5_power_3 hd.1 rfl rfl (by decide) (Nat.le_of_ble_eq_true rfl) (Nat.le_of_ble_eq_true rfl) (by decide) ?_
  refine sp_X5_isPower hd hb0 hT hW hp ?_
  refine ⟨_, rfl, ?_⟩
  refine x_if_ne (pc := 6) (t := 13) dX5_power_6 (by decide) ⟨by omega, by omega⟩ (fun c6 => ?_) (fun c6 => ?_)
  · refine x_iload_n (pc := 13) dX5_power_13 rfl rfl ?_
    refine x_iconst (pc := 14) dX5_power_14 ?_
    refine x_iconst (pc := 15) dX5_power_15 ?_
    refine x_callS (pc := 16) [_, _, _] rfl kX5_144 dX5_power_16 rfl (by decide) (Nat.le_of_ble_eq_true rfl) (Nat.le_of_ble_eq_true rfl) (by decide) ?_
    obtain ⟨hx1, hx2⟩ := hx
    refine sp_X5_in ⟨by omega, by omega⟩ ⟨by omega, by omega⟩ ⟨by omega, by omega⟩ ?_
    refine ⟨_, rfl, ?_⟩
    refine x_if_eq (pc := 19) (t := 26) dX5_power_19 (by decide) ⟨by omega, by omega⟩ (fun c19 => ?_) (fun c19 => ?_)
    · refine x_iconst (pc := 26) dX5_power_26 ?_
      refine X.loc [0, 1, 2] (L' := [(0, _), (1, _), (2, _)]) rfl ?_
      first
      | exact good (b1 c6) (b1 c19) trivial
      | exact bad 1 (by omega) (by unfold rPower; rw [if_pos (b0 c6)]; rfl)
      | exact bad 2 (by omega) (by unfold rPower; rw [if_neg (fun z => z (b1 c6)), if_pos (b0 c19)]; rfl)
    · refine x_iconst (pc := 22) dX5_power_22 ?_
      refine x_goto (pc := 23) (t := 27) dX5_power_23 (by decide) ?_
      refine X.loc [0, 1, 2] (L' := [(0, _), (1, _), (2, _)]) rfl ?_
      first
      | exact good (b1 c6) (b1 c19) trivial
      | exact bad 1 (by omega) (by unfold rPower; rw [if_pos (b0 c6)]; rfl)
      | exact bad 2 (by omega) (by unfold rPower; rw [if_neg (fun z => z (b1 c6)), if_pos (b0 c19)]; rfl)
  · refine x_iconst (pc := 9) dX5_power_9 ?_
    refine x_goto (pc := 10) (t := 27) dX5_power_10 (by decide) ?_
    refine X.loc [0, 1, 2] (L' := [(0, _), (1, _), (2, _)]) rfl ?_
    first
    | exact good (b1 c6) (b1 c19) trivial
    | exact bad 1 (by omega) (by unfold rPower; rw [if_pos (b0 c6)]; rfl)
    | exact bad 2 (by omega) (by unfold rPower; rw [if_neg (fun z => z (b1 c6)), if_pos (b0 c19)]; rfl)
set_option maxRecDepth 100000 in
theorem sp_X5_claimOf {g : GG} {lay : Lay} {M : Mem} {K : KK} {d : Nat} {T : CT} {pl i x : Int} (hd : MoL lay d) (hb0 : g.2.1 ≤ d) (hT : RowT T (M (d + 1))) (hW : WfT T) (hB : ∃ N, Bg N M d) (gM : GoodM) (gE : GoodE) (hp : i32 pl) (hi : i32 i) (hx : i32 x) (k : ∀ (M2 : Mem) (v : Int), FrQ d M M2 → RowT T (M2 (d + 1)) → (∃ N, Bg N M2 d) → M2 d 0 = kOf [nIO, nIA] (rClaimOf T pl i x) → (∀ v9, (rClaimOf T pl i x) = oI v9 → v = v9) → K (.inl (some (vI v))) lay M2) : X g m_X5_claimOf 0 0 lay M 0 [(0, vR d), (1, vI pl), (2, vI i), (3, vI x)] [] K := by
  have hn := hW.n60
  obtain ⟨wS, wP, wN, wm, wK, wL, wO, wB⟩ := id hW
  obtain ⟨⟨hS, hN, h10, hP, hp3, hL, hK, h99, hm⟩, hO, hBo⟩ := id hT
  have y0 := @b01 (pl = 0 ∨ pl = 1) inferInstance
  have y1 := @b01 (0 ≤ x ∧ x ≤ 6) inferInstance
  have bad : ∀ t : Int, 0 < t → t = kOf [nIO, nIA] (rClaimOf T pl i x) → X g m_X5_claimOf 0 0 lay M 31 [(0, vR d), (1, vI pl), (2, vI i), (3, vI x)] [vI t, vR d] K := by
    intro t ht1 ht2
    have ht3 : t ≤ 4 := by rw [ht2]; exact kOf_le2
    refine x_puti (pc := 31) fnX5_55 dX5_claimOf_31 hd.1 (by omega) rfl ⟨by omega, by omega⟩ ?_
    refine x_nm (fun M1 hM1 => ?_)
    obtain ⟨z1, z2, z3, z4⟩ := mq hM1 hT hB
    refine x_aload_n (pc := 34) dX5_claimOf_34 rfl rfl ?_
    refine x_geti (pc := 35) fX5_55 dX5_claimOf_35 hd.1 rfl (fun r35a r35b => ?_)
    try simp (disch := omega) only [mset_same, mset_nea, mset_nei, mcopy_nea, mcopy_in, mcopy_out, Int.reduceToNat, Int.toNat_natCast, Nat.zero_add, Nat.sub_zero] at r35a r35b ⊢
    rw [z1] at r35a r35b ⊢
    refine x_if_le (pc := 38) (t := 43) dX5_claimOf_38 (by decide) ⟨by omega, by omega⟩ (fun c38 => ?_) (fun c38 => ?_)
    · exfalso; omega
    · refine x_iconst (pc := 41) dX5_claimOf_41 ?_
      refine x_iret (pc := 42) dX5_claimOf_42 rfl (by decide) (by decide) ?_
      refine k M1 _ z2 z3 z4 (by rw [z1]; exact ht2) (fun v9 hx => ?_)
      rw [hx] at ht2
      have h0 : kOf [nIO, nIA] (oI v9) = 0 := rfl
      exfalso
      omega
  have good : isPl pl → 0 ≤ i → (0 ≤ x ∧ x ≤ 6) → True → X g m_X5_claimOf 0 0 lay M 31 [(0, vR d), (1, vI pl), (2, vI i), (3, vI x)] [vI 0, vR d] K := by
    intro h1 h2 h3 _
    refine x_puti (pc := 31) fnX5_55 dX5_claimOf_31 hd.1 (by omega) rfl ⟨by omega, by omega⟩ ?_
    refine x_nm (fun M1 hM1 => ?_)
    obtain ⟨z1, z2, z3, z4⟩ := mq hM1 hT hB
    obtain ⟨pl, rfl⟩ := Int.eq_ofNat_of_zero_le (show 0 ≤ pl by omega)
    obtain ⟨i, rfl⟩ := Int.eq_ofNat_of_zero_le h2
    have hpl2 : pl < 2 := by omega
    have wk := wK pl
    refine x_aload_n (pc := 34) dX5_claimOf_34 rfl rfl ?_
    refine x_geti (pc := 35) fX5_55 dX5_claimOf_35 hd.1 rfl (fun r35a r35b => ?_)
    try simp (disch := omega) only [mset_same, mset_nea, mset_nei, mcopy_nea, mcopy_in, mcopy_out, Int.reduceToNat, Int.toNat_natCast, Nat.zero_add, Nat.sub_zero] at r35a r35b ⊢
    rw [z1] at r35a r35b ⊢
    refine x_if_le (pc := 38) (t := 43) dX5_claimOf_38 (by decide) ⟨by omega, by omega⟩ (fun c38 => ?_) (fun c38 => ?_)
    · refine x_iload_n (pc := 43) dX5_claimOf_43 rfl rfl ?_
      refine x_aload_n (pc := 44) dX5_claimOf_44 rfl rfl ?_
      refine x_iload_n (pc := 45) dX5_claimOf_45 rfl rfl ?_
      refine x_callV (pc := 46) [_] rfl kX5_155 dX5_claimOf_46 hd.1 rfl rfl (by decide) (Nat.le_of_ble_eq_true rfl) (Nat.le_of_ble_eq_true rfl) (by decide) ?_
      refine sp_X5_claimsOf hd hb0 z3 hW hpl2 ?_
      refine ⟨_, rfl, ?_⟩
      refine x_icmp_lt (pc := 49) (t := 54) dX5_claimOf_49 (by decide) ⟨by omega, by omega⟩ ⟨by omega, by omega⟩ (fun c49 => ?_) (fun c49 => ?_)
      · refine x_iload_n (pc := 54) dX5_claimOf_54 rfl rfl ?_
        refine x_iload_n (pc := 55) dX5_claimOf_55 rfl rfl ?_
        refine x_callS (pc := 56) [_, _] rfl kX5_158 dX5_claimOf_56 rfl (by decide) (Nat.le_of_ble_eq_true rfl) (Nat.le_of_ble_eq_true rfl) (by decide) ?_
        refine sp_X5_claimAt ?_
        refine ⟨_, rfl, ?_⟩
        refine x_istore (pc := 59) dX5_claimOf_59 trivial (by decide) (L' := [(4, _), (0, _), (1, _), (2, _), (3, _)]) rfl ?_
        refine x_iload_n (pc := 61) dX5_claimOf_61 rfl rfl ?_
        refine x_iconst (pc := 62) dX5_claimOf_62 ?_
        refine x_icmp_ne (pc := 63) (t := 85) dX5_claimOf_63 (by decide) ⟨by omega, by omega⟩ ⟨by omega, by omega⟩ (fun c63 => ?_) (fun c63 => ?_)
        · refine x_aload_n (pc := 85) dX5_claimOf_85 rfl rfl ?_
          refine x_getr (pc := 86) (b := d + 1) fX5_7 dX5_claimOf_86 hd.1 rfl rfl ?_
          refine x_iload (pc := 89) dX5_claimOf_89 rfl ?_
          refine x_iload_n (pc := 91) dX5_claimOf_91 rfl rfl ?_
          refine x_bipush (pc := 92) dX5_claimOf_92 (by decide) ?_
          refine x_icmp_ne (pc := 94) (t := 101) dX5_claimOf_94 (by decide) ⟨by omega, by omega⟩ ⟨by omega, by omega⟩ (fun c94 => ?_) (fun c94 => ?_)
          · refine x_iload_n (pc := 101) dX5_claimOf_101 rfl rfl ?_
            refine x_iadd (pc := 102) dX5_claimOf_102 ?_
            refine x_iald (pc := 103) dX5_claimOf_103 hd.2.1 (by omega) (by omega) (fun r103a r103b => ?_)
            try simp (disch := omega) only [mset_same, mset_nea, mset_nei, mcopy_nea, mcopy_in, mcopy_out, Int.reduceToNat, Int.toNat_natCast, Nat.zero_add, Nat.sub_zero] at r103a r103b ⊢
            have hcl := fun f hf => z3.1.2.2.2.2.2.1 pl i f hpl2 (by omega) hf
            refine x_iret (pc := 104) dX5_claimOf_104 rfl (by decide) (by decide) ?_
            have hR : rClaimOf T pl (i : Nat) x = oI (clmF T pl i x) := by
              unfold rClaimOf
              rw [if_neg (fun z => z ⟨h1, by omega⟩), if_neg (fun z => z h3), Int.toNat_natCast, Int.toNat_natCast]
            first
            | (have e0 : clmF T pl i x = M1 (d + 1) (47 + 24 * (pl : Int) + 6 * (i : Int) + 5).toNat := by
                 unfold clmF
                 rw [if_neg (by omega), if_neg (by omega), if_pos (by omega), show (47 + 24 * (pl : Int) + 6 * (i : Int) + 5).toNat = 47 + 24 * pl + 6 * i + 5 by omega, hcl 5 (by omega)]
               rw [e0] at hR
               exact k M1 _ z2 z3 z4 (by rw [z1, hR]; rfl) (fun v9 hx => oI_inj (hR.symm.trans hx)))
            | (obtain ⟨f, rfl⟩ := Int.eq_ofNat_of_zero_le h3.1
               have e0 : clmF T pl i f = M1 (d + 1) (47 + 24 * (pl : Int) + 6 * (i : Int) + (f : Int)).toNat := by
                 unfold clmF
                 rw [if_neg (by omega), if_neg (by omega), if_neg (by omega), show (47 + 24 * (pl : Int) + 6 * (i : Int) + (f : Int)).toNat = 47 + 24 * pl + 6 * i + f by omega, hcl f (by omega), Int.toNat_natCast]
               rw [e0] at hR
               exact k M1 _ z2 z3 z4 (by rw [z1, hR]; rfl) (fun v9 hx => oI_inj (hR.symm.trans hx)))
          · refine x_iconst (pc := 97) dX5_claimOf_97 ?_
            refine x_goto (pc := 98) (t := 102) dX5_claimOf_98 (by decide) ?_
            refine x_iadd (pc := 102) dX5_claimOf_102 ?_
            refine x_iald (pc := 103) dX5_claimOf_103 hd.2.1 (by omega) (by omega) (fun r103a r103b => ?_)
            try simp (disch := omega) only [mset_same, mset_nea, mset_nei, mcopy_nea, mcopy_in, mcopy_out, Int.reduceToNat, Int.toNat_natCast, Nat.zero_add, Nat.sub_zero] at r103a r103b ⊢
            have hcl := fun f hf => z3.1.2.2.2.2.2.1 pl i f hpl2 (by omega) hf
            refine x_iret (pc := 104) dX5_claimOf_104 rfl (by decide) (by decide) ?_
            have hR : rClaimOf T pl (i : Nat) x = oI (clmF T pl i x) := by
              unfold rClaimOf
              rw [if_neg (fun z => z ⟨h1, by omega⟩), if_neg (fun z => z h3), Int.toNat_natCast, Int.toNat_natCast]
            first
            | (have e0 : clmF T pl i x = M1 (d + 1) (47 + 24 * (pl : Int) + 6 * (i : Int) + 5).toNat := by
                 unfold clmF
                 rw [if_neg (by omega), if_neg (by omega), if_pos (by omega), show (47 + 24 * (pl : Int) + 6 * (i : Int) + 5).toNat = 47 + 24 * pl + 6 * i + 5 by omega, hcl 5 (by omega)]
               rw [e0] at hR
               exact k M1 _ z2 z3 z4 (by rw [z1, hR]; rfl) (fun v9 hx => oI_inj (hR.symm.trans hx)))
            | (obtain ⟨f, rfl⟩ := Int.eq_ofNat_of_zero_le h3.1
               have e0 : clmF T pl i f = M1 (d + 1) (47 + 24 * (pl : Int) + 6 * (i : Int) + (f : Int)).toNat := by
                 unfold clmF
                 rw [if_neg (by omega), if_neg (by omega), if_neg (by omega), show (47 + 24 * (pl : Int) + 6 * (i : Int) + (f : Int)).toNat = 47 + 24 * pl + 6 * i + f by omega, hcl f (by omega), Int.toNat_natCast]
               rw [e0] at hR
               exact k M1 _ z2 z3 z4 (by rw [z1, hR]; rfl) (fun v9 hx => oI_inj (hR.symm.trans hx)))
        · refine x_aload_n (pc := 66) dX5_claimOf_66 rfl rfl ?_
          refine x_callV (pc := 67) [] rfl kX5_126 dX5_claimOf_67 hd.1 rfl rfl (by decide) (Nat.le_of_ble_eq_true rfl) (Nat.le_of_ble_eq_true rfl) (by decide) ?_
          refine sp_X5_laysRows hd hb0 z4 z3.1.2.2.2.1 (fun p _ => by have := wP p; omega) (gM _ wP).1 (fun M2 hF2 hR2 => ?_)
          refine ⟨_, rfl, ?_⟩
          refine x_aload_n (pc := 70) dX5_claimOf_70 rfl rfl ?_
          refine x_iload (pc := 71) dX5_claimOf_71 rfl ?_
          refine x_callV (pc := 73) [_] rfl kX5_161 dX5_claimOf_73 hd.1 rfl rfl (by decide) (Nat.le_of_ble_eq_true rfl) (Nat.le_of_ble_eq_true rfl) (by decide) ?_
          have hz9 := @b01 (rightP (buildF (tP T)) (tL T pl i)) inferInstance
          refine sp_X5_isRight hd hb0 (z3.fr hF2.n) hW hR2 gM gE hpl2 (by omega) (fun M3 hF3 hR3 => ?_)
          refine ⟨_, rfl, ?_⟩
          refine x_if_eq (pc := 76) (t := 83) dX5_claimOf_76 (by decide) ⟨by omega, by omega⟩ (fun c76 => ?_) (fun c76 => ?_)
          · refine x_iconst (pc := 83) dX5_claimOf_83 ?_
            refine x_iret (pc := 84) dX5_claimOf_84 rfl (by decide) (by decide) ?_
            have hR : rClaimOf T pl (i : Nat) x = oI (clmF T pl i x) := by
              unfold rClaimOf
              rw [if_neg (fun z => z ⟨h1, by omega⟩), if_neg (fun z => z h3), Int.toNat_natCast, Int.toNat_natCast]
            have e0 : clmF T pl i x = (if rightP (buildF (tP T)) (tL T pl i) then 1 else 0) := by unfold clmF; rw [if_neg (by omega), if_pos (by omega)]
            first
            | (rw [e0, if_pos (b1 c76)] at hR
               exact k M3 _ ((z2.l hF2).f hF3) ((z3.fr hF2.n).fr hF3.n) hR3.bg (by rw [hF3 _ _ (by omega), hF2 _ _ (by omega) (by omega) (by omega), z1, hR]; rfl) (fun v9 hx => oI_inj (hR.symm.trans hx)))
            | (rw [e0, if_neg (b0 c76)] at hR
               exact k M3 _ ((z2.l hF2).f hF3) ((z3.fr hF2.n).fr hF3.n) hR3.bg (by rw [hF3 _ _ (by omega), hF2 _ _ (by omega) (by omega) (by omega), z1, hR]; rfl) (fun v9 hx => oI_inj (hR.symm.trans hx)))
          · refine x_iconst (pc := 79) dX5_claimOf_79 ?_
            refine x_goto (pc := 80) (t := 84) dX5_claimOf_80 (by decide) ?_
            refine x_iret (pc := 84) dX5_claimOf_84 rfl (by decide) (by decide) ?_
            have hR : rClaimOf T pl (i : Nat) x = oI (clmF T pl i x) := by
              unfold rClaimOf
              rw [if_neg (fun z => z ⟨h1, by omega⟩), if_neg (fun z => z h3), Int.toNat_natCast, Int.toNat_natCast]
            have e0 : clmF T pl i x = (if rightP (buildF (tP T)) (tL T pl i) then 1 else 0) := by unfold clmF; rw [if_neg (by omega), if_pos (by omega)]
            first
            | (rw [e0, if_pos (b1 c76)] at hR
               exact k M3 _ ((z2.l hF2).f hF3) ((z3.fr hF2.n).fr hF3.n) hR3.bg (by rw [hF3 _ _ (by omega), hF2 _ _ (by omega) (by omega) (by omega), z1, hR]; rfl) (fun v9 hx => oI_inj (hR.symm.trans hx)))
            | (rw [e0, if_neg (b0 c76)] at hR
               exact k M3 _ ((z2.l hF2).f hF3) ((z3.fr hF2.n).fr hF3.n) hR3.bg (by rw [hF3 _ _ (by omega), hF2 _ _ (by omega) (by omega) (by omega), z1, hR]; rfl) (fun v9 hx => oI_inj (hR.symm.trans hx)))
      · refine x_iconst (pc := 52) dX5_claimOf_52 ?_
        refine x_iret (pc := 53) dX5_claimOf_53 rfl (by decide) (by decide) ?_
        have hR : rClaimOf T pl (i : Nat) x = oI (clmF T pl i x) := by
          unfold rClaimOf
          rw [if_neg (fun z => z ⟨h1, by omega⟩), if_neg (fun z => z h3), Int.toNat_natCast, Int.toNat_natCast]
        have e0 : clmF T pl i x = -1 := by unfold clmF; rw [if_pos (by omega)]
        rw [e0] at hR
        exact k M1 _ z2 z3 z4 (by rw [z1, hR]; rfl) (fun v9 hx => oI_inj (hR.symm.trans hx))
    · exfalso; omega
  refine x_aload_n (pc := 0) dX5_claimOf_0 rfl rfl ?_
  refine x_iload_n (pc := 1) dX5_claimOf_1 rfl rfl ?_
  refine x_callS (pc := 2) [_] rfl kX5_246 dX5_claimOf_2 rfl (by decide) (Nat.le_of_ble_eq_true rfl) (Nat.le_of_ble_eq_true rfl) (by decide) ?_
  refine sp_X5_isPlayer hp ?_
  refine ⟨_, rfl, ?_⟩
  refine x_if_eq (pc := 5) (t := 12) dX5_claimOf_5 (by decide) ⟨by omega, by omega⟩ (fun c5 => ?_) (fun c5 => ?_)
  · refine x_iconst (pc := 12) dX5_claimOf_12 ?_
    refine x_goto (pc := 13) (t := 31) dX5_claimOf_13 (by decide) ?_
    refine X.loc [0, 1, 2, 3] (L' := [(0, _), (1, _), (2, _), (3, _)]) rfl ?_
    first
    | exact good (b1 c5) (by omega) (b1 c23) trivial
    | exact bad 1 (by omega) (by unfold rClaimOf; rw [if_pos (fun z => b0 c5 z.1)]; rfl)
    | exact bad 1 (by omega) (by unfold rClaimOf; rw [if_pos (fun z => by omega)]; rfl)
    | exact bad 2 (by omega) (by unfold rClaimOf; rw [if_neg (fun z => z ⟨b1 c5, by omega⟩), if_pos (b0 c23)]; rfl)
  · refine x_iload_n (pc := 8) dX5_claimOf_8 rfl rfl ?_
    refine x_if_ge (pc := 9) (t := 16) dX5_claimOf_9 (by decide) ⟨by omega, by omega⟩ (fun c9 => ?_) (fun c9 => ?_)
    · refine x_iload_n (pc := 16) dX5_claimOf_16 rfl rfl ?_
      refine x_iconst (pc := 17) dX5_claimOf_17 ?_
      refine x_bipush (pc := 18) dX5_claimOf_18 (by decide) ?_
      refine x_callS (pc := 20) [_, _, _] rfl kX5_144 dX5_claimOf_20 rfl (by decide) (Nat.le_of_ble_eq_true rfl) (Nat.le_of_ble_eq_true rfl) (by decide) ?_
      obtain ⟨hx1, hx2⟩ := hx
      refine sp_X5_in ⟨by omega, by omega⟩ ⟨by omega, by omega⟩ ⟨by omega, by omega⟩ ?_
      refine ⟨_, rfl, ?_⟩
      refine x_if_eq (pc := 23) (t := 30) dX5_claimOf_23 (by decide) ⟨by omega, by omega⟩ (fun c23 => ?_) (fun c23 => ?_)
      · refine x_iconst (pc := 30) dX5_claimOf_30 ?_
        refine X.loc [0, 1, 2, 3] (L' := [(0, _), (1, _), (2, _), (3, _)]) rfl ?_
        first
        | exact good (b1 c5) (by omega) (b1 c23) trivial
        | exact bad 1 (by omega) (by unfold rClaimOf; rw [if_pos (fun z => b0 c5 z.1)]; rfl)
        | exact bad 1 (by omega) (by unfold rClaimOf; rw [if_pos (fun z => by omega)]; rfl)
        | exact bad 2 (by omega) (by unfold rClaimOf; rw [if_neg (fun z => z ⟨b1 c5, by omega⟩), if_pos (b0 c23)]; rfl)
      · refine x_iconst (pc := 26) dX5_claimOf_26 ?_
        refine x_goto (pc := 27) (t := 31) dX5_claimOf_27 (by decide) ?_
        refine X.loc [0, 1, 2, 3] (L' := [(0, _), (1, _), (2, _), (3, _)]) rfl ?_
        first
        | exact good (b1 c5) (by omega) (b1 c23) trivial
        | exact bad 1 (by omega) (by unfold rClaimOf; rw [if_pos (fun z => b0 c5 z.1)]; rfl)
        | exact bad 1 (by omega) (by unfold rClaimOf; rw [if_pos (fun z => by omega)]; rfl)
        | exact bad 2 (by omega) (by unfold rClaimOf; rw [if_neg (fun z => z ⟨b1 c5, by omega⟩), if_pos (b0 c23)]; rfl)
    · refine x_iconst (pc := 12) dX5_claimOf_12 ?_
      refine x_goto (pc := 13) (t := 31) dX5_claimOf_13 (by decide) ?_
      refine X.loc [0, 1, 2, 3] (L' := [(0, _), (1, _), (2, _), (3, _)]) rfl ?_
      first
      | exact good (b1 c5) (by omega) (b1 c23) trivial
      | exact bad 1 (by omega) (by unfold rClaimOf; rw [if_pos (fun z => b0 c5 z.1)]; rfl)
      | exact bad 1 (by omega) (by unfold rClaimOf; rw [if_pos (fun z => by omega)]; rfl)
      | exact bad 2 (by omega) (by unfold rClaimOf; rw [if_neg (fun z => z ⟨b1 c5, by omega⟩), if_pos (b0 c23)]; rfl)
set_option maxRecDepth 100000 in
theorem sp_X5_player {g : GG} {lay : Lay} {M : Mem} {K : KK} {d : Nat} {T : CT} {pl x : Int} (hd : MoL lay d) (hb0 : g.2.1 ≤ d) (hT : RowT T (M (d + 1))) (hW : WfT T) (hB : ∃ N, Bg N M d) (gM : GoodM) (gE : GoodE) (hp : i32 pl) (hx : i32 x) (k : ∀ (M2 : Mem) (v : Int), FrQ d M M2 → RowT T (M2 (d + 1)) → (∃ N, Bg N M2 d) → M2 d 0 = kOf [nIO, nIA] (rPlayer T pl x) → (∀ v9, (rPlayer T pl x) = oI v9 → v = v9) → K (.inl (some (vI v))) lay M2) : X g m_X5_player 0 0 lay M 0 [(0, vR d), (1, vI pl), (2, vI x)] [] K := by
  have hn := hW.n60
  obtain ⟨wS, wP, wN, wm, wK, wL, wO, wB⟩ := id hW
  obtain ⟨⟨hS, hN, h10, hP, hp3, hL, hK, h99, hm⟩, hO, hBo⟩ := id hT
  have y0 := @b01 (pl = 0 ∨ pl = 1) inferInstance
  have y1 := @b01 (0 ≤ x ∧ x ≤ 7) inferInstance
  have bad : ∀ t : Int, 0 < t → t = kOf [nIO, nIA] (rPlayer T pl x) → X g m_X5_player 0 0 lay M 27 [(0, vR d), (1, vI pl), (2, vI x)] [vI t, vR d] K := by
    intro t ht1 ht2
    have ht3 : t ≤ 4 := by rw [ht2]; exact kOf_le2
    refine x_puti (pc := 27) fnX5_55 dX5_player_27 hd.1 (by omega) rfl ⟨by omega, by omega⟩ ?_
    refine x_nm (fun M1 hM1 => ?_)
    obtain ⟨z1, z2, z3, z4⟩ := mq hM1 hT hB
    refine x_aload_n (pc := 30) dX5_player_30 rfl rfl ?_
    refine x_geti (pc := 31) fX5_55 dX5_player_31 hd.1 rfl (fun r31a r31b => ?_)
    try simp (disch := omega) only [mset_same, mset_nea, mset_nei, mcopy_nea, mcopy_in, mcopy_out, Int.reduceToNat, Int.toNat_natCast, Nat.zero_add, Nat.sub_zero] at r31a r31b ⊢
    rw [z1] at r31a r31b ⊢
    refine x_if_le (pc := 34) (t := 41) dX5_player_34 (by decide) ⟨by omega, by omega⟩ (fun c34 => ?_) (fun c34 => ?_)
    · exfalso; omega
    · refine x_iconst (pc := 37) dX5_player_37 ?_
      refine x_goto (pc := 38) (t := 42) dX5_player_38 (by decide) ?_
      by_cases s42_m1 : (-1) = (-1)
      · refine x_tsw_in (pc := 42) (t := 88) (-1) dX5_player_42 s42_m1 (by decide) (by decide) (by decide) rfl (by decide) ?_
        refine x_iconst (pc := 88) dX5_player_88 ?_
        refine x_iret (pc := 89) dX5_player_89 rfl (by decide) (by decide) ?_
        refine k M1 _ z2 z3 z4 (by rw [z1]; exact ht2) (fun v9 hx => ?_)
        rw [hx] at ht2
        have h0 : kOf [nIO, nIA] (oI v9) = 0 := rfl
        exfalso
        omega
      by_cases s42_0 : (-1) = 0
      · exfalso; omega
      by_cases s42_1 : (-1) = 1
      · exfalso; omega
      by_cases s42_2 : (-1) = 2
      · exfalso; omega
      by_cases s42_3 : (-1) = 3
      · exfalso; omega
      by_cases s42_4 : (-1) = 4
      · exfalso; omega
      by_cases s42_5 : (-1) = 5
      · exfalso; omega
      by_cases s42_6 : (-1) = 6
      · exfalso; omega
      exfalso; omega
  have good : isPl pl → (0 ≤ x ∧ x ≤ 7) → True → X g m_X5_player 0 0 lay M 27 [(0, vR d), (1, vI pl), (2, vI x)] [vI 0, vR d] K := by
    intro h1 h2 _
    refine x_puti (pc := 27) fnX5_55 dX5_player_27 hd.1 (by omega) rfl ⟨by omega, by omega⟩ ?_
    refine x_nm (fun M1 hM1 => ?_)
    obtain ⟨z1, z2, z3, z4⟩ := mq hM1 hT hB
    obtain ⟨pl, rfl⟩ := Int.eq_ofNat_of_zero_le (show 0 ≤ pl by omega)
    have hpl2 : pl < 2 := by omega
    have wk := wK pl
    refine x_aload_n (pc := 30) dX5_player_30 rfl rfl ?_
    refine x_geti (pc := 31) fX5_55 dX5_player_31 hd.1 rfl (fun r31a r31b => ?_)
    try simp (disch := omega) only [mset_same, mset_nea, mset_nei, mcopy_nea, mcopy_in, mcopy_out, Int.reduceToNat, Int.toNat_natCast, Nat.zero_add, Nat.sub_zero] at r31a r31b ⊢
    rw [z1] at r31a r31b ⊢
    refine x_if_le (pc := 34) (t := 41) dX5_player_34 (by decide) ⟨by omega, by omega⟩ (fun c34 => ?_) (fun c34 => ?_)
    · refine x_iload_n (pc := 41) dX5_player_41 rfl rfl ?_
      by_cases s42_m1 : x = (-1)
      · exfalso; omega
      by_cases s42_0 : x = 0
      · refine x_tsw_in (pc := 42) (t := 90) 0 dX5_player_42 s42_0 (by decide) (by decide) (by decide) rfl (by decide) ?_
        refine x_aload_n (pc := 90) dX5_player_90 rfl rfl ?_
        refine x_iload_n (pc := 91) dX5_player_91 rfl rfl ?_
        refine x_callV (pc := 92) [_] rfl kX5_243 dX5_player_92 hd.1 rfl rfl (by decide) (Nat.le_of_ble_eq_true rfl) (Nat.le_of_ble_eq_true rfl) (by decide) ?_
        refine sp_X5_scoreOf hd hb0 z3 hW z4 gM gE hpl2 (fun M2 hF2 hB2 => ?_)
        refine ⟨_, rfl, ?_⟩
        refine x_iret (pc := 95) dX5_player_95 rfl (by decide) (by decide) ?_
        have hR : rPlayer T (pl : Nat) x = oI (plrF T pl x) := by
          unfold rPlayer
          rw [if_neg (fun z => z h1), if_neg (fun z => z h2), Int.toNat_natCast]
        have e0 : plrF T pl x = scoreF T (buildF (tP T)) pl := by
          unfold plrF
          repeat (first | rw [if_pos (by omega)] | rw [if_neg (by omega)])
        rw [e0] at hR
        exact k M2 _ (z2.l hF2) (z3.fr hF2.n) hB2 (by rw [hF2 _ _ (by omega) (by omega) (by omega), z1, hR]; rfl) (fun v9 hx => oI_inj (hR.symm.trans hx))
      by_cases s42_1 : x = 1
      · refine x_tsw_in (pc := 42) (t := 96) 1 dX5_player_42 s42_1 (by decide) (by decide) (by decide) rfl (by decide) ?_
        refine x_aload_n (pc := 96) dX5_player_96 rfl rfl ?_
        refine x_iload_n (pc := 97) dX5_player_97 rfl rfl ?_
        refine x_callV (pc := 98) [_] rfl kX5_168 dX5_player_98 hd.1 rfl rfl (by decide) (Nat.le_of_ble_eq_true rfl) (Nat.le_of_ble_eq_true rfl) (by decide) ?_
        refine sp_X5_signPoints hd hb0 z3 hW hpl2 ?_
        refine ⟨_, rfl, ?_⟩
        refine x_iret (pc := 101) dX5_player_101 rfl (by decide) (by decide) ?_
        have hR : rPlayer T (pl : Nat) x = oI (plrF T pl x) := by
          unfold rPlayer
          rw [if_neg (fun z => z h1), if_neg (fun z => z h2), Int.toNat_natCast]
        have e0 : plrF T pl x = signF T pl := by
          unfold plrF
          repeat (first | rw [if_pos (by omega)] | rw [if_neg (by omega)])
        rw [e0] at hR
        exact k M1 _ z2 z3 z4 (by rw [z1, hR]; rfl) (fun v9 hx => oI_inj (hR.symm.trans hx))
      by_cases s42_2 : x = 2
      · refine x_tsw_in (pc := 42) (t := 102) 2 dX5_player_42 s42_2 (by decide) (by decide) (by decide) rfl (by decide) ?_
        refine x_aload_n (pc := 102) dX5_player_102 rfl rfl ?_
        refine x_iload_n (pc := 103) dX5_player_103 rfl rfl ?_
        refine x_callV (pc := 104) [_] rfl kX5_171 dX5_player_104 hd.1 rfl rfl (by decide) (Nat.le_of_ble_eq_true rfl) (Nat.le_of_ble_eq_true rfl) (by decide) ?_
        refine sp_X5_claimsBring hd hb0 z3 hW z4 gM gE hpl2 (fun M2 hF2 hB2 => ?_)
        refine ⟨_, rfl, ?_⟩
        refine x_iret (pc := 107) dX5_player_107 rfl (by decide) (by decide) ?_
        have hR : rPlayer T (pl : Nat) x = oI (plrF T pl x) := by
          unfold rPlayer
          rw [if_neg (fun z => z h1), if_neg (fun z => z h2), Int.toNat_natCast]
        have e0 : plrF T pl x = claimPt (buildF (tP T)) (tL T pl) (tK T pl) := by
          unfold plrF
          repeat (first | rw [if_pos (by omega)] | rw [if_neg (by omega)])
        rw [e0] at hR
        exact k M2 _ (z2.l hF2) (z3.fr hF2.n) hB2 (by rw [hF2 _ _ (by omega) (by omega) (by omega), z1, hR]; rfl) (fun v9 hx => oI_inj (hR.symm.trans hx))
      by_cases s42_3 : x = 3
      · refine x_tsw_in (pc := 42) (t := 108) 3 dX5_player_42 s42_3 (by decide) (by decide) (by decide) rfl (by decide) ?_
        refine x_aload_n (pc := 108) dX5_player_108 rfl rfl ?_
        refine x_iload_n (pc := 109) dX5_player_109 rfl rfl ?_
        refine x_callV (pc := 110) [_] rfl kX5_174 dX5_player_110 hd.1 rfl rfl (by decide) (Nat.le_of_ble_eq_true rfl) (Nat.le_of_ble_eq_true rfl) (by decide) ?_
        refine sp_X5_bonusOf hd hb0 z3 hW ⟨by omega, by omega⟩ ?_
        refine ⟨_, rfl, ?_⟩
        refine x_iret (pc := 113) dX5_player_113 rfl (by decide) (by decide) ?_
        have hR : rPlayer T (pl : Nat) x = oI (plrF T pl x) := by
          unfold rPlayer
          rw [if_neg (fun z => z h1), if_neg (fun z => z h2), Int.toNat_natCast]
        have e0 : plrF T pl x = bonusF T pl := by
          unfold plrF
          repeat (first | rw [if_pos (by omega)] | rw [if_neg (by omega)])
        rw [e0] at hR
        exact k M1 _ z2 z3 z4 (by rw [z1, hR]; rfl) (fun v9 hx => oI_inj (hR.symm.trans hx))
      by_cases s42_4 : x = 4
      · refine x_tsw_in (pc := 42) (t := 114) 4 dX5_player_42 s42_4 (by decide) (by decide) (by decide) rfl (by decide) ?_
        refine x_aload_n (pc := 114) dX5_player_114 rfl rfl ?_
        refine x_iload_n (pc := 115) dX5_player_115 rfl rfl ?_
        refine x_callV (pc := 116) [_] rfl kX5_155 dX5_player_116 hd.1 rfl rfl (by decide) (Nat.le_of_ble_eq_true rfl) (Nat.le_of_ble_eq_true rfl) (by decide) ?_
        refine sp_X5_claimsOf hd hb0 z3 hW hpl2 ?_
        refine ⟨_, rfl, ?_⟩
        refine x_iret (pc := 119) dX5_player_119 rfl (by decide) (by decide) ?_
        have hR : rPlayer T (pl : Nat) x = oI (plrF T pl x) := by
          unfold rPlayer
          rw [if_neg (fun z => z h1), if_neg (fun z => z h2), Int.toNat_natCast]
        have e0 : plrF T pl x = ((tK T pl : Nat) : Int) := by
          unfold plrF
          repeat (first | rw [if_pos (by omega)] | rw [if_neg (by omega)])
        rw [e0] at hR
        exact k M1 _ z2 z3 z4 (by rw [z1, hR]; rfl) (fun v9 hx => oI_inj (hR.symm.trans hx))
      by_cases s42_5 : x = 5
      · refine x_tsw_in (pc := 42) (t := 120) 5 dX5_player_42 s42_5 (by decide) (by decide) (by decide) rfl (by decide) ?_
        refine x_aload_n (pc := 120) dX5_player_120 rfl rfl ?_
        refine x_iload_n (pc := 121) dX5_player_121 rfl rfl ?_
        refine x_callV (pc := 122) [_] rfl kX5_191 dX5_player_122 hd.1 rfl rfl (by decide) (Nat.le_of_ble_eq_true rfl) (Nat.le_of_ble_eq_true rfl) (by decide) ?_
        refine sp_X5_stakesOf hd hb0 z3 hW hpl2 ?_
        refine ⟨_, rfl, ?_⟩
        refine x_iret (pc := 125) dX5_player_125 rfl (by decide) (by decide) ?_
        have hR : rPlayer T (pl : Nat) x = oI (plrF T pl x) := by
          unfold rPlayer
          rw [if_neg (fun z => z h1), if_neg (fun z => z h2), Int.toNat_natCast]
        have e0 : plrF T pl x = stakesF (tL T pl) (tK T pl) := by
          unfold plrF
          repeat (first | rw [if_pos (by omega)] | rw [if_neg (by omega)])
        rw [e0] at hR
        exact k M1 _ z2 z3 z4 (by rw [z1, hR]; rfl) (fun v9 hx => oI_inj (hR.symm.trans hx))
      by_cases s42_6 : x = 6
      · refine x_tsw_in (pc := 42) (t := 126) 6 dX5_player_42 s42_6 (by decide) (by decide) (by decide) rfl (by decide) ?_
        refine x_aload_n (pc := 126) dX5_player_126 rfl rfl ?_
        refine x_iload_n (pc := 127) dX5_player_127 rfl rfl ?_
        refine x_callV (pc := 128) [_] rfl kX5_249 dX5_player_128 hd.1 rfl rfl (by decide) (Nat.le_of_ble_eq_true rfl) (Nat.le_of_ble_eq_true rfl) (by decide) ?_
        refine sp_X5_rightOnes hd hb0 z3 hW z4 gM gE hpl2 (fun M2 hF2 hB2 => ?_)
        refine ⟨_, rfl, ?_⟩
        refine x_iret (pc := 131) dX5_player_131 rfl (by decide) (by decide) ?_
        have hR : rPlayer T (pl : Nat) x = oI (plrF T pl x) := by
          unfold rPlayer
          rw [if_neg (fun z => z h1), if_neg (fun z => z h2), Int.toNat_natCast]
        have e0 : plrF T pl x = rightN (buildF (tP T)) (tL T pl) (tK T pl) := by
          unfold plrF
          repeat (first | rw [if_pos (by omega)] | rw [if_neg (by omega)])
        rw [e0] at hR
        exact k M2 _ (z2.l hF2) (z3.fr hF2.n) hB2 (by rw [hF2 _ _ (by omega) (by omega) (by omega), z1, hR]; rfl) (fun v9 hx => oI_inj (hR.symm.trans hx))
      refine x_tsw_out (pc := 42) (t := 132) dX5_player_42 ⟨by omega, by omega⟩ (by omega) (by decide) ?_
      refine x_aload_n (pc := 132) dX5_player_132 rfl rfl ?_
      refine x_getr (pc := 133) (b := d + 1) fX5_7 dX5_player_133 hd.1 rfl rfl ?_
      refine x_bipush (pc := 136) dX5_player_136 (by decide) ?_
      refine x_iload_n (pc := 138) dX5_player_138 rfl rfl ?_
      refine x_iadd (pc := 139) dX5_player_139 ?_
      refine x_iald (pc := 140) dX5_player_140 hd.2.1 (by omega) (by omega) (fun r140a r140b => ?_)
      try simp (disch := omega) only [mset_same, mset_nea, mset_nei, mcopy_nea, mcopy_in, mcopy_out, Int.reduceToNat, Int.toNat_natCast, Nat.zero_add, Nat.sub_zero] at r140a r140b ⊢
      rw [show (97 + (pl : Int)).toNat = 97 + pl by omega, (z3.1.2.2.2.2.2.2.1 pl hpl2).2] at r140a r140b ⊢
      refine x_iret (pc := 141) dX5_player_141 rfl (by decide) (by decide) ?_
      have hR : rPlayer T (pl : Nat) x = oI (plrF T pl x) := by
        unfold rPlayer
        rw [if_neg (fun z => z h1), if_neg (fun z => z h2), Int.toNat_natCast]
      have e0 : plrF T pl x = termsOfF (tC T) pl (tN T) := by
        unfold plrF
        repeat (first | rw [if_pos (by omega)] | rw [if_neg (by omega)])
      rw [e0] at hR
      exact k M1 _ z2 z3 z4 (by rw [z1, hR]; rfl) (fun v9 hx => oI_inj (hR.symm.trans hx))
    · exfalso; omega
  refine x_aload_n (pc := 0) dX5_player_0 rfl rfl ?_
  refine x_iload_n (pc := 1) dX5_player_1 rfl rfl ?_
  refine x_callS (pc := 2) [_] rfl kX5_246 dX5_player_2 rfl (by decide) (Nat.le_of_ble_eq_true rfl) (Nat.le_of_ble_eq_true rfl) (by decide) ?_
  refine sp_X5_isPlayer hp ?_
  refine ⟨_, rfl, ?_⟩
  refine x_if_ne (pc := 5) (t := 12) dX5_player_5 (by decide) ⟨by omega, by omega⟩ (fun c5 => ?_) (fun c5 => ?_)
  · refine x_iload_n (pc := 12) dX5_player_12 rfl rfl ?_
    refine x_iconst (pc := 13) dX5_player_13 ?_
    refine x_bipush (pc := 14) dX5_player_14 (by decide) ?_
    refine x_callS (pc := 16) [_, _, _] rfl kX5_144 dX5_player_16 rfl (by decide) (Nat.le_of_ble_eq_true rfl) (Nat.le_of_ble_eq_true rfl) (by decide) ?_
    obtain ⟨hx1, hx2⟩ := hx
    refine sp_X5_in ⟨by omega, by omega⟩ ⟨by omega, by omega⟩ ⟨by omega, by omega⟩ ?_
    refine ⟨_, rfl, ?_⟩
    refine x_if_eq (pc := 19) (t := 26) dX5_player_19 (by decide) ⟨by omega, by omega⟩ (fun c19 => ?_) (fun c19 => ?_)
    · refine x_iconst (pc := 26) dX5_player_26 ?_
      refine X.loc [0, 1, 2] (L' := [(0, _), (1, _), (2, _)]) rfl ?_
      first
      | exact good (b1 c5) (b1 c19) trivial
      | exact bad 1 (by omega) (by unfold rPlayer; rw [if_pos (b0 c5)]; rfl)
      | exact bad 2 (by omega) (by unfold rPlayer; rw [if_neg (fun z => z (b1 c5)), if_pos (b0 c19)]; rfl)
    · refine x_iconst (pc := 22) dX5_player_22 ?_
      refine x_goto (pc := 23) (t := 27) dX5_player_23 (by decide) ?_
      refine X.loc [0, 1, 2] (L' := [(0, _), (1, _), (2, _)]) rfl ?_
      first
      | exact good (b1 c5) (b1 c19) trivial
      | exact bad 1 (by omega) (by unfold rPlayer; rw [if_pos (b0 c5)]; rfl)
      | exact bad 2 (by omega) (by unfold rPlayer; rw [if_neg (fun z => z (b1 c5)), if_pos (b0 c19)]; rfl)
  · refine x_iconst (pc := 8) dX5_player_8 ?_
    refine x_goto (pc := 9) (t := 27) dX5_player_9 (by decide) ?_
    refine X.loc [0, 1, 2] (L' := [(0, _), (1, _), (2, _)]) rfl ?_
    first
    | exact good (b1 c5) (b1 c19) trivial
    | exact bad 1 (by omega) (by unfold rPlayer; rw [if_pos (b0 c5)]; rfl)
    | exact bad 2 (by omega) (by unfold rPlayer; rw [if_neg (fun z => z (b1 c5)), if_pos (b0 c19)]; rfl)
