/-! Specs of the reader: claims, commands, a whole script. -/
theorem kpF5 {cm v w : Nat → Int} {p : Nat} {x : Int} (h : w 5 = v 5) : kpF cm v p x = kpF cm w p x := by unfold kpF; rw [h]
theorem rCl3_01 {tx : Nat → Int} {n : Nat} {u v cm : Nat → Int} : (rCl3 tx n u v cm).1 = 1 ∨ (rCl3 tx n u v cm).1 = 0 := by
  unfold rCl3; split
  · exact Or.inr rfl
  · exact Or.inl rfl
theorem rCl2_01 {tx : Nat → Int} {n : Nat} {u v cm : Nat → Int} : (rCl2 tx n u v cm).1 = 1 ∨ (rCl2 tx n u v cm).1 = 0 := by
  unfold rCl2; split
  · exact Or.inr rfl
  · exact rCl3_01
theorem rCl1_01 {tx : Nat → Int} {n : Nat} {u v cm : Nat → Int} {f : Int} : (rCl1 tx n u v cm f).1 = 1 ∨ (rCl1 tx n u v cm f).1 = 0 := by
  unfold rCl1; split
  · exact Or.inr rfl
  · exact rCl2_01
theorem rCl0_01 {tx : Nat → Int} {n : Nat} {u v cm : Nat → Int} : (rCl0 tx n u v cm).1 = 1 ∨ (rCl0 tx n u v cm).1 = 0 := by
  unfold rCl0; split
  · exact Or.inr rfl
  · exact rCl1_01
theorem rClaimF_01 {tx : Nat → Int} {n : Nat} {v cm : Nat → Int} : (rClaimF tx n v cm).1 = 1 ∨ (rClaimF tx n v cm).1 = 0 := by
  unfold rClaimF; split
  · exact Or.inr rfl
  · exact rCl0_01
theorem rTermF_01 {tx : Nat → Int} {n : Nat} {v cm : Nat → Int} {P : Int} : (rTermF tx n v cm P).1 = 1 ∨ (rTermF tx n v cm P).1 = 0 := by
  unfold rTermF
  generalize (if v 6 = 3 then (-9 : Int) else 1) = lo
  generalize (if v 6 = 3 then (-1 : Int) else 9) = hi
  split
  · exact Or.inr rfl
  · split
    · exact Or.inr rfl
    · exact Or.inl rfl
theorem rCmdF_01 {tx : Nat → Int} {n : Nat} {v cm : Nat → Int} {P : Int} : (rCmdF tx n v cm P).1 = 1 ∨ (rCmdF tx n v cm P).1 = 0 := by
  unfold rCmdF; split
  · exact Or.inr rfl
  · split
    · exact Or.inr rfl
    · split
      · exact rTermF_01
      · split
        · exact Or.inl rfl
        · exact rClaimF_01
theorem rCl_ok {tx : Nat → Int} {n : Nat} {u v cm : Nat → Int} (h : TkOK n v) : (TkOK n (rCl0 tx n u v cm).2.1 ∧ (rCl0 tx n u v cm).2.1 5 = v 5) ∧ (∀ f, TkOK n (rCl1 tx n u v cm f).2.1 ∧ (rCl1 tx n u v cm f).2.1 5 = v 5) ∧ (TkOK n (rCl2 tx n u v cm).2.1 ∧ (rCl2 tx n u v cm).2.1 5 = v 5) ∧ (TkOK n (rCl3 tx n u v cm).2.1 ∧ (rCl3 tx n u v cm).2.1 5 = v 5) := by
  have s3 : ∀ (v cm : Nat → Int), TkOK n v → (TkOK n (rCl3 tx n u v cm).2.1 ∧ (rCl3 tx n u v cm).2.1 5 = v 5) := fun v cm h => by
    unfold rCl3
    split <;> exact ⟨h.num, num_ne (by omega)⟩
  have s2 : ∀ (v cm : Nat → Int), TkOK n v → (TkOK n (rCl2 tx n u v cm).2.1 ∧ (rCl2 tx n u v cm).2.1 5 = v 5) := fun v cm h => by
    unfold rCl2
    split
    · exact ⟨h.num, num_ne (by omega)⟩
    · have := s3 (numRF tx n v 0 4).2 (kpF cm u 3 ((numRF tx n v 0 4).2 10)) h.num
      exact ⟨this.1, this.2.trans (num_ne (by omega))⟩
  have s1 : ∀ (v cm : Nat → Int) (f : Int), TkOK n v → (TkOK n (rCl1 tx n u v cm f).2.1 ∧ (rCl1 tx n u v cm f).2.1 5 = v 5) := fun v cm f h => by
    unfold rCl1
    split
    · exact ⟨h.int, int_ne (by omega)⟩
    · have := s2 (intRF tx n v (f + 1) 20).2 (kpF cm u 2 ((intRF tx n v (f + 1) 20).2 10)) h.int
      exact ⟨this.1, this.2.trans (int_ne (by omega))⟩
  refine ⟨?_, fun f => s1 v cm f h, s2 v cm h, s3 v cm h⟩
  unfold rCl0
  split
  · exact ⟨h.int, int_ne (by omega)⟩
  · have := s1 (intRF tx n v (-20) 19).2 (kpF cm u 1 ((intRF tx n v (-20) 19).2 10)) ((intRF tx n v (-20) 19).2 10) h.int
    exact ⟨this.1, this.2.trans (int_ne (by omega))⟩
theorem rClaim_ok {tx : Nat → Int} {n : Nat} {v cm : Nat → Int} (h : TkOK n v) : TkOK n (rClaimF tx n v cm).2.1 ∧ (rClaimF tx n v cm).2.1 5 = v 5 := by
  unfold rClaimF
  split
  · exact ⟨h.fail, fail_ne (x := 1) (j := 5) (by omega)⟩
  · have := (rCl_ok (u := v) (cm := kpF cm v 4 (if isWordP tx v 10 then 1 else 0)) (h.tok (tx := tx)) (tx := tx)).1
    exact ⟨this.1, this.2.trans (tok_ne (by omega))⟩
theorem rTerm_ok {tx : Nat → Int} {n : Nat} {v cm : Nat → Int} {P : Int} (h : TkOK n v) : TkOK n (rTermF tx n v cm P).2.1 ∧ (rTermF tx n v cm P).2.1 5 = v 5 := by
  unfold rTermF
  generalize (if v 6 = 3 then (-9 : Int) else 1) = lo
  generalize (if v 6 = 3 then (-1 : Int) else 9) = hi
  split
  · exact ⟨h.int, int_ne (by omega)⟩
  · split
    · exact ⟨h.int.num, (num_ne (by omega)).trans (int_ne (by omega))⟩
    · exact ⟨h.int.num, (num_ne (by omega)).trans (int_ne (by omega))⟩
theorem rCmd_ok {tx : Nat → Int} {n : Nat} {v cm : Nat → Int} {P : Int} (h : TkOK n v) : TkOK n (rCmdF tx n v cm P).2.1 ∧ (rCmdF tx n v cm P).2.1 5 = v 5 := by
  unfold rCmdF
  split
  · exact ⟨h.fail, fail_ne (x := 1) (j := 5) (by omega)⟩
  · split
    · exact ⟨h.fail, fail_ne (x := 5) (j := 5) (by omega)⟩
    · split
      · have := rTerm_ok (tx := tx) (cm := kpF cm v 0 (actWF tx v)) (P := P) (h.tok (tx := tx))
        exact ⟨this.1, this.2.trans (tok_ne (by omega))⟩
      · split
        · exact ⟨h.tok, tok_ne (tx := tx) (n := n) (v := v) (j := 5) (by omega)⟩
        · have := rClaim_ok (tx := tx) (cm := kpF cm v 0 (actWF tx v)) (h.tok (tx := tx))
          exact ⟨this.1, this.2.trans (tok_ne (by omega))⟩
def loopC (tx : Nat → Int) (n : Nat) (P : Int) : Nat → (Nat → Int) → (Nat → Int) → SC3
  | 0, v, cm => (1, v, cm)
  | d + 1, v, cm => if v 6 = 0 then (1, v, cm) else if (rCmdF tx n v cm P).1 ≠ 1 then (0, (rCmdF tx n v cm P).2) else if (semF tx n (rCmdF tx n v cm P).2.1).1 ≠ 1 then (0, (semF tx n (rCmdF tx n v cm P).2.1).2, (rCmdF tx n v cm P).2.2) else loopC tx n P d (fup (semF tx n (rCmdF tx n v cm P).2.1).2 5 ((semF tx n (rCmdF tx n v cm P).2.1).2 5 + 1)) (rCmdF tx n v cm P).2.2
def scriptF (tx : Nat → Int) (n : Nat) (P : Int) (v cm : Nat → Int) : SC3 := loopC tx n P 41 (beginF tx n v) cm

set_option maxRecDepth 100000 in
theorem sp_X2_readClaim {g : GG} {lay : Lay} {M : Mem} {K : KK} {c n : Nat} {tx v : Nat → Int} {cm : Nat → Int} (hP : RdL lay c) (hb0 : g.2.1 ≤ c) (hr : Rd tx n v M c) (hk : TkOK n v) (hm : Cm cm M c) (h5 : 0 ≤ v 5 ∧ v 5 < 40) (k : ∀ M2, Frm c (c + 3) M M2 → Rd tx n (rClaimF tx n v cm).2.1 M2 c → Cm (rClaimF tx n v cm).2.2 M2 c → K (.inl (some (vI (rClaimF tx n v cm).1))) lay M2) : X g m_X2_readClaim 0 0 lay M 0 [(0, vR c)] [] K := by
  unfold rClaimF at k
  have e5v := hr.at 5 (by decide) (by decide)
  have z10 := @b01 (isWordP tx v 10) inferInstance
  have z11 := @b01 (isWordP tx v 11) inferInstance
  have p3 : ∀ (w cm3 : Nat → Int) (M1 : Mem) (y x2 : Int), w 5 = v 5 → TkOK n w → Frm c (c + 3) M M1 → Rd tx n w M1 c → Cm cm3 M1 c → (∀ M2, Frm c (c + 3) M M2 → Rd tx n (rCl3 tx n v w cm3).2.1 M2 c → Cm (rCl3 tx n v w cm3).2.2 M2 c → K (.inl (some (vI (rCl3 tx n v w cm3).1))) lay M2) → X g m_X2_readClaim 0 0 lay M1 115 [(2, vI x2), (1, vI y), (0, vR c)] [] K := by
    intro w cm3 M1 y x2 hw5 hkw hF hr1 hm1 k
    unfold rCl3 at k
    have hn1 := num_1 (tx := tx) (n := n) (v := w) (lo := 1) (hi := 9)
    have hn5 : (numRF tx n w 1 9).2 5 = w 5 := num_ne (by omega)
    generalize hQ : numRF tx n w 1 9 = Q at *
    rw [kpF5 (w := Q.2) (by omega)] at k
    refine x_aload_n (pc := 115) dX2_readClaim_115 rfl rfl ?_
    refine x_iconst (pc := 116) dX2_readClaim_116 ?_
    refine x_bipush (pc := 117) dX2_readClaim_117 (by decide) ?_
    refine x_callV (pc := 119) [_, _] rfl kX2_123 dX2_readClaim_119 hP.1 rfl rfl (by decide) (Nat.le_of_ble_eq_true rfl) (Nat.le_of_ble_eq_true rfl) (by decide) ?_
    refine sp_X2_readNumber hP hb0 hr1 hkw (by decide) (by decide) (fun M2 hF2 hr2 => ?_)
    rw [hQ] at hr2 ⊢
    have hm2 := hm1.fr hF2 (by omega)
    have hFF : Frm c (c + 3) M M2 := hF.trans (hF2.wide (by omega) (by omega))
    refine ⟨_, rfl, ?_⟩
    refine x_if_eq (pc := 122) (t := 141) dX2_readClaim_122 (by decide) ⟨by omega, by omega⟩ (fun c122 => ?_) (fun c122 => ?_)
    · refine x_iconst (pc := 141) dX2_readClaim_141 ?_
      refine x_zret (pc := 142) dX2_readClaim_142 rfl ⟨by omega, by omega⟩ (by decide) (by decide) ?_
      first
      | (rw [if_pos (by omega)] at k
         exact k _ hFF hr2 hm2)
      | (rw [if_neg (by omega)] at k
         exact k _ (hFF.trans (hFM3.wide (by omega) (by omega))) hrM3 hmM3)
    · refine x_aload_n (pc := 125) dX2_readClaim_125 rfl rfl ?_
      refine x_iconst (pc := 126) dX2_readClaim_126 ?_
      refine x_aload_n (pc := 127) dX2_readClaim_127 rfl rfl ?_
      refine x_geti (pc := 128) fX2_76 dX2_readClaim_128 hP.1 rfl (fun r128a r128b => ?_)
      refine x_callV (pc := 131) [_, _] rfl kX2_144 dX2_readClaim_131 hP.1 rfl rfl (by decide) (Nat.le_of_ble_eq_true rfl) (Nat.le_of_ble_eq_true rfl) (by decide) ?_
      rw [hr2.at 10 (by decide) (by decide)]
      refine sp_X2_keep (p := 5) hP hb0 hr2 hm2 (by omega) (by decide) ⟨by omega, by omega⟩ (fun M3 hFM3 hrM3 hmM3 => ?_)
      refine ⟨_, rfl, ?_⟩
      refine x_if_eq (pc := 134) (t := 141) dX2_readClaim_134 (by decide) ⟨by omega, by omega⟩ (fun c134 => ?_) (fun c134 => ?_)
      · exfalso; omega
      · refine x_iconst (pc := 137) dX2_readClaim_137 ?_
        refine x_goto (pc := 138) (t := 142) dX2_readClaim_138 (by decide) ?_
        refine x_zret (pc := 142) dX2_readClaim_142 rfl ⟨by omega, by omega⟩ (by decide) (by decide) ?_
        first
        | (rw [if_pos (by omega)] at k
           exact k _ hFF hr2 hm2)
        | (rw [if_neg (by omega)] at k
           exact k _ (hFF.trans (hFM3.wide (by omega) (by omega))) hrM3 hmM3)
  have p2 : ∀ (w cm3 : Nat → Int) (M1 : Mem) (y x2 : Int), w 5 = v 5 → TkOK n w → Frm c (c + 3) M M1 → Rd tx n w M1 c → Cm cm3 M1 c → (∀ M2, Frm c (c + 3) M M2 → Rd tx n (rCl2 tx n v w cm3).2.1 M2 c → Cm (rCl2 tx n v w cm3).2.2 M2 c → K (.inl (some (vI (rCl2 tx n v w cm3).1))) lay M2) → X g m_X2_readClaim 0 0 lay M1 94 [(2, vI x2), (1, vI y), (0, vR c)] [] K := by
    intro w cm3 M1 y x2 hw5 hkw hF hr1 hm1 k
    unfold rCl2 at k
    have hn1 := num_1 (tx := tx) (n := n) (v := w) (lo := 0) (hi := 4)
    have hn5 : (numRF tx n w 0 4).2 5 = w 5 := num_ne (by omega)
    have hkQ : TkOK n (numRF tx n w 0 4).2 := hkw.num
    generalize hQ : numRF tx n w 0 4 = Q at *
    rw [kpF5 (w := Q.2) (by omega)] at k
    refine x_aload_n (pc := 94) dX2_readClaim_94 rfl rfl ?_
    refine x_iconst (pc := 95) dX2_readClaim_95 ?_
    refine x_iconst (pc := 96) dX2_readClaim_96 ?_
    refine x_callV (pc := 97) [_, _] rfl kX2_123 dX2_readClaim_97 hP.1 rfl rfl (by decide) (Nat.le_of_ble_eq_true rfl) (Nat.le_of_ble_eq_true rfl) (by decide) ?_
    refine sp_X2_readNumber hP hb0 hr1 hkw (by decide) (by decide) (fun M2 hF2 hr2 => ?_)
    rw [hQ] at hr2 ⊢
    have hm2 := hm1.fr hF2 (by omega)
    have hFF : Frm c (c + 3) M M2 := hF.trans (hF2.wide (by omega) (by omega))
    refine ⟨_, rfl, ?_⟩
    refine x_if_eq (pc := 100) (t := 141) dX2_readClaim_100 (by decide) ⟨by omega, by omega⟩ (fun c100 => ?_) (fun c100 => ?_)
    · refine x_iconst (pc := 141) dX2_readClaim_141 ?_
      refine x_zret (pc := 142) dX2_readClaim_142 rfl ⟨by omega, by omega⟩ (by decide) (by decide) ?_
      rw [if_pos (by omega)] at k
      exact k _ hFF hr2 hm2
    · refine x_aload_n (pc := 103) dX2_readClaim_103 rfl rfl ?_
      refine x_iconst (pc := 104) dX2_readClaim_104 ?_
      refine x_aload_n (pc := 105) dX2_readClaim_105 rfl rfl ?_
      refine x_geti (pc := 106) fX2_76 dX2_readClaim_106 hP.1 rfl (fun r106a r106b => ?_)
      refine x_callV (pc := 109) [_, _] rfl kX2_144 dX2_readClaim_109 hP.1 rfl rfl (by decide) (Nat.le_of_ble_eq_true rfl) (Nat.le_of_ble_eq_true rfl) (by decide) ?_
      rw [hr2.at 10 (by decide) (by decide)]
      refine sp_X2_keep (p := 3) hP hb0 hr2 hm2 (by omega) (by decide) ⟨by omega, by omega⟩ (fun M3 hFM3 hrM3 hmM3 => ?_)
      refine ⟨_, rfl, ?_⟩
      refine x_if_eq (pc := 112) (t := 141) dX2_readClaim_112 (by decide) ⟨by omega, by omega⟩ (fun c112 => ?_) (fun c112 => ?_)
      · exfalso; omega
      · rw [if_neg (by omega)] at k
        exact p3 _ _ _ _ _ (by omega) hkQ (hFF.trans (hFM3.wide (by omega) (by omega))) hrM3 hmM3 k
  have p1 : ∀ (w cm3 : Nat → Int) (M1 : Mem) (y x2 : Int), -20 ≤ x2 → x2 ≤ 19 → w 5 = v 5 → TkOK n w → Frm c (c + 3) M M1 → Rd tx n w M1 c → Cm cm3 M1 c → (∀ M2, Frm c (c + 3) M M2 → Rd tx n (rCl1 tx n v w cm3 x2).2.1 M2 c → Cm (rCl1 tx n v w cm3 x2).2.2 M2 c → K (.inl (some (vI (rCl1 tx n v w cm3 x2).1))) lay M2) → X g m_X2_readClaim 0 0 lay M1 70 [(2, vI x2), (1, vI y), (0, vR c)] [] K := by
    intro w cm3 M1 y x2 hx1 hx2 hw5 hkw hF hr1 hm1 k
    unfold rCl1 at k
    have hn1 := int_1 (tx := tx) (n := n) (v := w) (lo := x2 + 1) (hi := 20)
    have hn5 : (intRF tx n w (x2 + 1) 20).2 5 = w 5 := int_ne (by omega)
    have hkQ : TkOK n (intRF tx n w (x2 + 1) 20).2 := hkw.int
    generalize hQ : intRF tx n w (x2 + 1) 20 = Q at *
    rw [kpF5 (w := Q.2) (by omega)] at k
    refine x_aload_n (pc := 70) dX2_readClaim_70 rfl rfl ?_
    refine x_iload_n (pc := 71) dX2_readClaim_71 rfl rfl ?_
    refine x_iconst (pc := 72) dX2_readClaim_72 ?_
    refine x_iadd (pc := 73) dX2_readClaim_73 ?_
    refine x_bipush (pc := 74) dX2_readClaim_74 (by decide) ?_
    refine x_callV (pc := 76) [_, _] rfl kX2_132 dX2_readClaim_76 hP.1 rfl rfl (by decide) (Nat.le_of_ble_eq_true rfl) (Nat.le_of_ble_eq_true rfl) (by decide) ?_
    refine sp_X2_readInteger hP hb0 hr1 hkw ⟨by omega, by omega⟩ (by decide) (fun M2 hF2 hr2 => ?_)
    rw [hQ] at hr2 ⊢
    have hm2 := hm1.fr hF2 (by omega)
    have hFF : Frm c (c + 3) M M2 := hF.trans (hF2.wide (by omega) (by omega))
    refine ⟨_, rfl, ?_⟩
    refine x_if_eq (pc := 79) (t := 141) dX2_readClaim_79 (by decide) ⟨by omega, by omega⟩ (fun c79 => ?_) (fun c79 => ?_)
    · refine x_iconst (pc := 141) dX2_readClaim_141 ?_
      refine x_zret (pc := 142) dX2_readClaim_142 rfl ⟨by omega, by omega⟩ (by decide) (by decide) ?_
      rw [if_pos (by omega)] at k
      exact k _ hFF hr2 hm2
    · refine x_aload_n (pc := 82) dX2_readClaim_82 rfl rfl ?_
      refine x_iconst (pc := 83) dX2_readClaim_83 ?_
      refine x_aload_n (pc := 84) dX2_readClaim_84 rfl rfl ?_
      refine x_geti (pc := 85) fX2_76 dX2_readClaim_85 hP.1 rfl (fun r85a r85b => ?_)
      refine x_callV (pc := 88) [_, _] rfl kX2_144 dX2_readClaim_88 hP.1 rfl rfl (by decide) (Nat.le_of_ble_eq_true rfl) (Nat.le_of_ble_eq_true rfl) (by decide) ?_
      rw [hr2.at 10 (by decide) (by decide)]
      refine sp_X2_keep (p := 2) hP hb0 hr2 hm2 (by omega) (by decide) ⟨by omega, by omega⟩ (fun M3 hFM3 hrM3 hmM3 => ?_)
      refine ⟨_, rfl, ?_⟩
      refine x_if_eq (pc := 91) (t := 141) dX2_readClaim_91 (by decide) ⟨by omega, by omega⟩ (fun c91 => ?_) (fun c91 => ?_)
      · exfalso; omega
      · rw [if_neg (by omega)] at k
        exact p2 _ _ _ _ _ (by omega) hkQ (hFF.trans (hFM3.wide (by omega) (by omega))) hrM3 hmM3 k
  have p0 : ∀ (w cm3 : Nat → Int) (M1 : Mem) (y : Int), w 5 = v 5 → TkOK n w → Frm c (c + 3) M M1 → Rd tx n w M1 c → Cm cm3 M1 c → (∀ M2, Frm c (c + 3) M M2 → Rd tx n (rCl0 tx n v w cm3).2.1 M2 c → Cm (rCl0 tx n v w cm3).2.2 M2 c → K (.inl (some (vI (rCl0 tx n v w cm3).1))) lay M2) → X g m_X2_readClaim 0 0 lay M1 45 [(1, vI y), (0, vR c)] [] K := by
    intro w cm3 M1 y hw5 hkw hF hr1 hm1 k
    unfold rCl0 at k
    have hn1 := int_1 (tx := tx) (n := n) (v := w) (lo := -20) (hi := 19)
    have hn5 : (intRF tx n w (-20) 19).2 5 = w 5 := int_ne (by omega)
    have hkQ : TkOK n (intRF tx n w (-20) 19).2 := hkw.int
    generalize hQ : intRF tx n w (-20) 19 = Q at *
    rw [kpF5 (w := Q.2) (by omega)] at k
    refine x_aload_n (pc := 45) dX2_readClaim_45 rfl rfl ?_
    refine x_bipush (pc := 46) dX2_readClaim_46 (by decide) ?_
    refine x_bipush (pc := 48) dX2_readClaim_48 (by decide) ?_
    refine x_callV (pc := 50) [_, _] rfl kX2_132 dX2_readClaim_50 hP.1 rfl rfl (by decide) (Nat.le_of_ble_eq_true rfl) (Nat.le_of_ble_eq_true rfl) (by decide) ?_
    refine sp_X2_readInteger hP hb0 hr1 hkw (by decide) (by decide) (fun M2 hF2 hr2 => ?_)
    rw [hQ] at hr2 ⊢
    have hm2 := hm1.fr hF2 (by omega)
    have hFF : Frm c (c + 3) M M2 := hF.trans (hF2.wide (by omega) (by omega))
    refine ⟨_, rfl, ?_⟩
    refine x_if_ne (pc := 53) (t := 58) dX2_readClaim_53 (by decide) ⟨by omega, by omega⟩ (fun c53 => ?_) (fun c53 => ?_)
    · refine x_aload_n (pc := 58) dX2_readClaim_58 rfl rfl ?_
      refine x_geti (pc := 59) fX2_76 dX2_readClaim_59 hP.1 rfl (fun r59a r59b => ?_)
      rw [hr2.at 10 (by decide) (by decide)]
      refine x_istore_n (pc := 62) dX2_readClaim_62 rfl (by decide) (L' := [(2, _), (1, _), (0, _)]) rfl ?_
      refine x_aload_n (pc := 63) dX2_readClaim_63 rfl rfl ?_
      refine x_iconst (pc := 64) dX2_readClaim_64 ?_
      refine x_iload_n (pc := 65) dX2_readClaim_65 rfl rfl ?_
      refine x_callV (pc := 66) [_, _] rfl kX2_144 dX2_readClaim_66 hP.1 rfl rfl (by decide) (Nat.le_of_ble_eq_true rfl) (Nat.le_of_ble_eq_true rfl) (by decide) ?_
      refine sp_X2_keep (p := 1) hP hb0 hr2 hm2 (by omega) (by decide) ⟨by omega, by omega⟩ (fun M3 hFM3 hrM3 hmM3 => ?_)
      refine ⟨_, rfl, ?_⟩
      refine x_pop (pc := 69) dX2_readClaim_69 rfl ?_
      rw [if_neg (by omega)] at k
      exact p1 _ _ _ _ _ (by omega) (by omega) (by omega) hkQ (hFF.trans (hFM3.wide (by omega) (by omega))) hrM3 hmM3 k
    · refine x_iconst (pc := 56) dX2_readClaim_56 ?_
      refine x_zret (pc := 57) dX2_readClaim_57 rfl ⟨by omega, by omega⟩ (by decide) (by decide) ?_
      rw [if_pos (by omega)] at k
      exact k _ hFF hr2 hm2
  have mid : ∀ y : Int, (y = 1 ∧ isWordP tx v 10 ∨ y = 0 ∧ ¬ isWordP tx v 10) → (isWordP tx v 10 ∨ isWordP tx v 11) → X g m_X2_readClaim 0 0 lay M 26 [(1, vI y), (0, vR c)] [] K := by
    intro y hy h11
    rw [if_neg (fun z => by rcases h11 with q | q; exact z.1 q; exact z.2 q)] at k
    have hy2 : (if isWordP tx v 10 then (1 : Int) else 0) = y := by
      rcases hy with ⟨q1, q2⟩ | ⟨q1, q2⟩
      · rw [if_pos q2, q1]
      · rw [if_neg q2, q1]
    rw [hy2] at k
    have hy3 : y = 0 ∨ y = 1 := by rcases hy with q | q; exact Or.inr q.1; exact Or.inl q.1
    clear hy hy2
    refine x_aload_n (pc := 26) dX2_readClaim_26 rfl rfl ?_
    refine x_iconst (pc := 27) dX2_readClaim_27 ?_
    refine x_iload_n (pc := 28) dX2_readClaim_28 rfl rfl ?_
    refine x_if_eq (pc := 29) (t := 36) dX2_readClaim_29 (by decide) ⟨by omega, by omega⟩ (fun c29 => ?_) (fun c29 => ?_)
    · refine x_iconst (pc := 36) dX2_readClaim_36 ?_
      have hyy : (1 : Int) = y ∨ (0 : Int) = y := by omega
      first
      | rw [show (1 : Int) = y by omega]
      | rw [show (0 : Int) = y by omega]
      refine x_callV (pc := 37) [_, _] rfl kX2_144 dX2_readClaim_37 hP.1 rfl rfl (by decide) (Nat.le_of_ble_eq_true rfl) (Nat.le_of_ble_eq_true rfl) (by decide) ?_
      refine sp_X2_keep (p := 4) hP hb0 hr hm h5 (by decide) ⟨by omega, by omega⟩ (fun M3 hFM3 hrM3 hmM3 => ?_)
      refine ⟨_, rfl, ?_⟩
      refine x_pop (pc := 40) dX2_readClaim_40 rfl ?_
      refine x_aload_n (pc := 41) dX2_readClaim_41 rfl rfl ?_
      refine x_callV (pc := 42) [] rfl kX2_69 dX2_readClaim_42 hP.1 rfl rfl (by decide) (Nat.le_of_ble_eq_true rfl) (Nat.le_of_ble_eq_true rfl) (by decide) ?_
      refine sp_X2_nextToken hP hb0 hrM3 (by unfold TkOK at hk; omega) (fun M4 hF4 hr4 => ?_)
      have hm4 := hmM3.fr hF4 (by omega)
      refine ⟨_, rfl, ?_⟩
      exact p0 _ _ _ _ (tok_ne (by omega)) hk.tok ((hFM3.wide (by omega) (by omega)).trans (hF4.wide (by omega) (by omega))) hr4 hm4 k
    · refine x_iconst (pc := 32) dX2_readClaim_32 ?_
      refine x_goto (pc := 33) (t := 37) dX2_readClaim_33 (by decide) ?_
      have hyy : (1 : Int) = y ∨ (0 : Int) = y := by omega
      first
      | rw [show (1 : Int) = y by omega]
      | rw [show (0 : Int) = y by omega]
      refine x_callV (pc := 37) [_, _] rfl kX2_144 dX2_readClaim_37 hP.1 rfl rfl (by decide) (Nat.le_of_ble_eq_true rfl) (Nat.le_of_ble_eq_true rfl) (by decide) ?_
      refine sp_X2_keep (p := 4) hP hb0 hr hm h5 (by decide) ⟨by omega, by omega⟩ (fun M3 hFM3 hrM3 hmM3 => ?_)
      refine ⟨_, rfl, ?_⟩
      refine x_pop (pc := 40) dX2_readClaim_40 rfl ?_
      refine x_aload_n (pc := 41) dX2_readClaim_41 rfl rfl ?_
      refine x_callV (pc := 42) [] rfl kX2_69 dX2_readClaim_42 hP.1 rfl rfl (by decide) (Nat.le_of_ble_eq_true rfl) (Nat.le_of_ble_eq_true rfl) (by decide) ?_
      refine sp_X2_nextToken hP hb0 hrM3 (by unfold TkOK at hk; omega) (fun M4 hF4 hr4 => ?_)
      have hm4 := hmM3.fr hF4 (by omega)
      refine ⟨_, rfl, ?_⟩
      exact p0 _ _ _ _ (tok_ne (by omega)) hk.tok ((hFM3.wide (by omega) (by omega)).trans (hF4.wide (by omega) (by omega))) hr4 hm4 k
  refine x_aload_n (pc := 0) dX2_readClaim_0 rfl rfl ?_
  refine x_ldcS (pc := 1) (q := 10) (by decide) dX2_readClaim_1 ?_
  refine x_callV (pc := 3) [_] rfl kX2_91 dX2_readClaim_3 hP.1 rfl rfl (by decide) (Nat.le_of_ble_eq_true rfl) (Nat.le_of_ble_eq_true rfl) (by decide) ?_
  refine sp_X2_isWord (q := 10) hP hb0 hr hk (by decide) ?_
  refine ⟨_, rfl, ?_⟩
  refine x_istore_n (pc := 6) dX2_readClaim_6 rfl (by decide) (L' := [(1, _), (0, _)]) rfl ?_
  refine x_iload_n (pc := 7) dX2_readClaim_7 rfl rfl ?_
  refine x_if_ne (pc := 8) (t := 26) dX2_readClaim_8 (by decide) ⟨by omega, by omega⟩ (fun c8 => ?_) (fun c8 => ?_)
  · refine X.loc [0, 1] (L' := [(1, _), (0, _)]) rfl ?_
    refine mid _ ?_ ?_
    · by_cases q : isWordP tx v 10
      · rw [if_pos q]
        exact Or.inl ⟨rfl, q⟩
      · rw [if_neg q]
        exact Or.inr ⟨rfl, q⟩
    · first
      | exact Or.inl (b1 c8)
      | exact Or.inr (b1 c17)
  · refine x_aload_n (pc := 11) dX2_readClaim_11 rfl rfl ?_
    refine x_ldcS (pc := 12) (q := 11) (by decide) dX2_readClaim_12 ?_
    refine x_callV (pc := 14) [_] rfl kX2_91 dX2_readClaim_14 hP.1 rfl rfl (by decide) (Nat.le_of_ble_eq_true rfl) (Nat.le_of_ble_eq_true rfl) (by decide) ?_
    refine sp_X2_isWord (q := 11) hP hb0 hr hk (by decide) ?_
    refine ⟨_, rfl, ?_⟩
    refine x_if_ne (pc := 17) (t := 26) dX2_readClaim_17 (by decide) ⟨by omega, by omega⟩ (fun c17 => ?_) (fun c17 => ?_)
    · refine X.loc [0, 1] (L' := [(1, _), (0, _)]) rfl ?_
      refine mid _ ?_ ?_
      · by_cases q : isWordP tx v 10
        · rw [if_pos q]
          exact Or.inl ⟨rfl, q⟩
        · rw [if_neg q]
          exact Or.inr ⟨rfl, q⟩
      · first
        | exact Or.inl (b1 c8)
        | exact Or.inr (b1 c17)
    · refine x_aload_n (pc := 20) dX2_readClaim_20 rfl rfl ?_
      refine x_iconst (pc := 21) dX2_readClaim_21 ?_
      refine x_callV (pc := 22) [_] rfl kX2_72 dX2_readClaim_22 hP.1 rfl rfl (by decide) (Nat.le_of_ble_eq_true rfl) (Nat.le_of_ble_eq_true rfl) (by decide) ?_
      rw [if_pos ⟨b0 (by omega), b0 c17⟩] at k
      refine sp_X2_fail hP hb0 hr (by decide) (fun M2 hF2 hr2 => ?_)
      refine ⟨_, rfl, ?_⟩
      refine x_zret (pc := 25) dX2_readClaim_25 rfl ⟨by omega, by omega⟩ (by decide) (by decide) ?_
      exact k _ (hF2.wide (by omega) (by omega)) hr2 (hm.fr hF2 (by omega))
