/-! Specs of the reader: statements and setups. -/
theorem setWF_rng (tx v : Nat → Int) : -1 ≤ setWF tx v ∧ setWF tx v ≤ 6 ∧ setWF tx v ≠ 5 := by
  unfold setWF
  repeat' split
  all_goals omega
def rStmtF (tx : Nat → Int) (n : Nat) (v : Nat → Int) (T : CT) : SR3 :=
  if isWordP tx v 0 then rStartF tx n v T
  else if setWF tx v < 0 then (0, (failF v 1).2, T)
  else if (setWF tx v = 0 ∧ v 12 ≠ 0) ∨ bitF (v 11) (setWF tx v).toNat = 1 then (0, (failF v 3).2, T)
  else if (rSetF tx n (tokF tx n (fup v 11 (orF (v 11) (setWF tx v).toNat))) T (setWF tx v).toNat).1 ≠ 1 then (0, (rSetF tx n (tokF tx n (fup v 11 (orF (v 11) (setWF tx v).toNat))) T (setWF tx v).toNat).2)
  else if setWF tx v ≠ 4 then (1, (rSetF tx n (tokF tx n (fup v 11 (orF (v 11) (setWF tx v).toNat))) T (setWF tx v).toNat).2)
  else rSetF tx n (rSetF tx n (tokF tx n (fup v 11 (orF (v 11) (setWF tx v).toNat))) T (setWF tx v).toNat).2.1 (rSetF tx n (tokF tx n (fup v 11 (orF (v 11) (setWF tx v).toNat))) T (setWF tx v).toNat).2.2 5
/-- what holds between statements -/
def SetI (n : Nat) (v : Nat → Int) (T : CT) : Prop := TkOK n v ∧ WfS (tS T) ∧ WfP (tP T) ∧ (0 ≤ v 11 ∧ v 11 < 128) ∧ (0 ≤ v 12 ∧ v 12 < 32)
theorem tab1 : ∀ i, i < 7 → (tabF 1 i = [2, 0, 1, 1, 0, 0, 1].getD i 0 ∧ tabF 2 i = [5, 9, 60, 20, 4, 20, 40].getD i 0) := by decide
theorem WfS.up {S : Nat → Int} {i : Nat} {x : Int} (h : WfS S) (hi : i < 7) (h1 : tabF 1 i ≤ x) (h2 : x ≤ tabF 2 i) : WfS (fup S i x) := by
  have e : i = 0 ∨ i = 1 ∨ i = 2 ∨ i = 3 ∨ i = 4 ∨ i = 5 ∨ i = 6 := by omega
  unfold WfS at *
  rcases e with rfl | rfl | rfl | rfl | rfl | rfl | rfl <;> simp [fup, tabF] at * <;> omega
theorem rSetF_01 {tx : Nat → Int} {n : Nat} {v : Nat → Int} {T : CT} {i : Nat} : (rSetF tx n v T i).1 = 1 ∨ (rSetF tx n v T i).1 = 0 := by
  unfold rSetF
  split
  · exact Or.inl rfl
  · exact Or.inr rfl
theorem rSetF_ok {tx : Nat → Int} {n : Nat} {v : Nat → Int} {T : CT} {i : Nat} (h : SetI n v T) (hi : i < 7) : SetI n (rSetF tx n v T i).2.1 (rSetF tx n v T i).2.2 := by
  obtain ⟨h1, h2, h3, h4, h5⟩ := h
  have hn := num_1 (tx := tx) (n := n) (v := v) (lo := tabF 1 i) (hi := tabF 2 i)
  have a11 : (numRF tx n v (tabF 1 i) (tabF 2 i)).2 11 = v 11 := num_ne (by omega)
  have a12 : (numRF tx n v (tabF 1 i) (tabF 2 i)).2 12 = v 12 := num_ne (by omega)
  have hk : TkOK n (numRF tx n v (tabF 1 i) (tabF 2 i)).2 := h1.num
  unfold rSetF
  split
  · refine ⟨hk, h2.up hi (by omega) (by omega), h3, ?_, ?_⟩
    · dsimp only; omega
    · dsimp only; omega
  · refine ⟨hk, h2, h3, ?_, ?_⟩
    · dsimp only; omega
    · dsimp only; omega
theorem rStartF_01 {tx : Nat → Int} {n : Nat} {v : Nat → Int} {T : CT} : (rStartF tx n v T).1 = 1 ∨ (rStartF tx n v T).1 = 0 := by
  unfold rStartF
  repeat' split
  all_goals first | exact Or.inl rfl | exact Or.inr rfl
theorem rStartF_ok {tx : Nat → Int} {n : Nat} {v : Nat → Int} {T : CT} (h : SetI n v T) : SetI n (rStartF tx n v T).2.1 (rStartF tx n v T).2.2 := by
  obtain ⟨h1, h2, h3, h4, h5⟩ := h
  have hk0 : TkOK n (tokF tx n v) := h1.tok
  have hi1 := int_1 (tx := tx) (n := n) (v := tokF tx n v) (lo := -30) (hi := 30)
  have hi2 : (intRF tx n (tokF tx n v) (-30) 30).2 12 = v 12 := by rw [int_ne (by omega), tok_ne (by omega)]
  have hi3 : (intRF tx n (tokF tx n v) (-30) 30).2 11 = v 11 := by rw [int_ne (by omega), tok_ne (by omega)]
  have hkR : TkOK n (intRF tx n (tokF tx n v) (-30) 30).2 := hk0.int
  unfold rStartF
  generalize hR : intRF tx n (tokF tx n v) (-30) 30 = R at *
  have hn1 := num_1 (tx := tx) (n := n) (v := R.2) (lo := 0) (hi := tS T 0 - 1)
  have hn2 : (numRF tx n R.2 0 (tS T 0 - 1)).2 12 = R.2 12 := num_ne (by omega)
  have hn3 : (numRF tx n R.2 0 (tS T 0 - 1)).2 11 = R.2 11 := num_ne (by omega)
  have hkQ : TkOK n (numRF tx n R.2 0 (tS T 0 - 1)).2 := hkR.num
  generalize hQ : numRF tx n R.2 0 (tS T 0 - 1) = Q at *
  have w0 := h2.1
  split
  · exact ⟨hkR, h2, h3, by dsimp only; omega, by dsimp only; omega⟩
  · split
    · have f1 : (failF R.2 4).2 11 = R.2 11 := fail_ne (by omega)
      have f2 : (failF R.2 4).2 12 = R.2 12 := fail_ne (by omega)
      exact ⟨hkR.fail, h2, h3, by dsimp only; omega, by dsimp only; omega⟩
    · split
      · exact ⟨hkQ, h2, h3, by dsimp only; omega, by dsimp only; omega⟩
      · have ho := orF_32 (a := Q.2 12) (n := (Q.2 10).toNat) (by omega) (by omega)
        refine ⟨hkQ.fup (by omega), h2, h3.up (by omega) (by omega), ?_, ?_⟩
        · dsimp only
          rw [fup_ne (by omega)]
          omega
        · dsimp only
          rw [fup_at]
          exact ho
theorem rStmtF_01 {tx : Nat → Int} {n : Nat} {v : Nat → Int} {T : CT} : (rStmtF tx n v T).1 = 1 ∨ (rStmtF tx n v T).1 = 0 := by
  unfold rStmtF
  split
  · exact rStartF_01
  · split
    · exact Or.inr rfl
    · split
      · exact Or.inr rfl
      · split
        · exact Or.inr rfl
        · split
          · exact Or.inl rfl
          · exact rSetF_01
theorem SetI.f {n : Nat} {v : Nat → Int} {T : CT} {x : Int} (h : SetI n v T) : SetI n (failF v x).2 T := by
  obtain ⟨h1, h2, h3, h4, h5⟩ := h
  refine ⟨h1.fail, h2, h3, ?_, ?_⟩
  · rw [fail_ne (by omega)]; exact h4
  · rw [fail_ne (by omega)]; exact h5
theorem SetI.or {tx : Nat → Int} {n : Nat} {v : Nat → Int} {T : CT} {i : Nat} (h : SetI n v T) (hi : i < 7) : SetI n (tokF tx n (fup v 11 (orF (v 11) i))) T := by
  obtain ⟨h1, h2, h3, h4, h5⟩ := h
  refine ⟨(h1.fup (by omega)).tok, h2, h3, ?_, ?_⟩
  · rw [tok_ne (by omega), fup_at]
    exact orF_128 h4 hi
  · rw [tok_ne (by omega), fup_ne (by omega)]
    exact h5
theorem rStmtF_ok {tx : Nat → Int} {n : Nat} {v : Nat → Int} {T : CT} (h : SetI n v T) : SetI n (rStmtF tx n v T).2.1 (rStmtF tx n v T).2.2 := by
  have hr := setWF_rng tx v
  unfold rStmtF
  split
  · exact rStartF_ok h
  · split
    · exact h.f
    · split
      · exact h.f
      · have h2 := rSetF_ok (tx := tx) (h.or (tx := tx) (i := (setWF tx v).toNat) (by omega)) (show (setWF tx v).toNat < 7 by omega)
        split
        · exact h2
        · split
          · exact h2
          · exact rSetF_ok h2 (by decide)

set_option maxRecDepth 100000 in
theorem sp_X2_readStatement {g : GG} {lay : Lay} {M : Mem} {K : KK} {c n : Nat} {tx v : Nat → Int} {z : Nat} {T : CT} (hP : RdL lay c) (hb0 : g.2.1 ≤ c) (hr : Rd tx n v M c) (hC : CtL lay z) (hz0 : g.2.1 ≤ z) (hT : Ct T M z) (hcz : z + 7 ≤ c ∨ c + 3 ≤ z) (hI : SetI n v T) (k : ∀ M2, FrR c z M M2 → Rd tx n (rStmtF tx n v T).2.1 M2 c → Ct (rStmtF tx n v T).2.2 M2 z → K (.inl (some (vI (rStmtF tx n v T).1))) lay M2) : X g m_X2_readStatement 0 0 lay M 0 [(0, vR c), (1, vR z)] [] K := by
  have hk : TkOK n v := hI.1
  have hsr := setWF_rng tx v
  have b11 := hI.2.2.2.1
  have b12 := hI.2.2.2.2
  have e12 := hr.at 12 (by decide) (by decide)
  have e11 := hr.at 11 (by decide) (by decide)
  unfold rStmtF at k
  refine x_aload_n (pc := 0) dX2_readStatement_0 rfl rfl ?_
  refine x_ldcS (pc := 1) (q := 0) (by decide) dX2_readStatement_1 ?_
  refine x_callV (pc := 3) [_] rfl kX2_91 dX2_readStatement_3 hP.1 rfl rfl (by decide) (Nat.le_of_ble_eq_true rfl) (Nat.le_of_ble_eq_true rfl) (by decide) ?_
  refine sp_X2_isWord (q := 0) hP hb0 hr hk (by decide) ?_
  have hz3 := @b01 (isWordP tx v 0) inferInstance
  refine ⟨_, rfl, ?_⟩
  refine x_if_eq (pc := 6) (t := 15) dX2_readStatement_6 (by decide) ⟨by omega, by omega⟩ (fun c6 => ?_) (fun c6 => ?_)
  · refine x_aload_n (pc := 15) dX2_readStatement_15 rfl rfl ?_
    refine x_callV (pc := 16) [] rfl kX2_98 dX2_readStatement_16 hP.1 rfl rfl (by decide) (Nat.le_of_ble_eq_true rfl) (Nat.le_of_ble_eq_true rfl) (by decide) ?_
    rw [if_neg (b0 c6)] at k
    refine sp_X2_settingOfWord hP hb0 hr hk ?_
    refine ⟨_, rfl, ?_⟩
    refine x_istore_n (pc := 19) dX2_readStatement_19 rfl (by decide) (L' := [(2, _), (0, _), (1, _)]) rfl ?_
    refine x_iload_n (pc := 20) dX2_readStatement_20 rfl rfl ?_
    refine x_if_lt (pc := 21) (t := 30) dX2_readStatement_21 (by decide) ⟨by omega, by omega⟩ (fun c21 => ?_) (fun c21 => ?_)
    · refine x_aload_n (pc := 30) dX2_readStatement_30 rfl rfl ?_
      refine x_iconst (pc := 31) dX2_readStatement_31 ?_
      refine x_callV (pc := 32) [_] rfl kX2_72 dX2_readStatement_32 hP.1 rfl rfl (by decide) (Nat.le_of_ble_eq_true rfl) (Nat.le_of_ble_eq_true rfl) (by decide) ?_
      refine sp_X2_fail hP hb0 hr (by decide) (fun M2 hF2 hr2 => ?_)
      have hT2 := hT.frm hF2 (by omega)
      refine ⟨_, rfl, ?_⟩
      refine x_zret (pc := 35) dX2_readStatement_35 rfl ⟨by omega, by omega⟩ (by decide) (by decide) ?_
      first
      | (exfalso; omega)
      | (rw [if_pos (by omega)] at k
         exact k _ (FrR.of hF2) hr2 hT2)
    · refine x_iload_n (pc := 24) dX2_readStatement_24 rfl rfl ?_
      refine x_bipush (pc := 25) dX2_readStatement_25 (by decide) ?_
      refine x_icmp_lt (pc := 27) (t := 36) dX2_readStatement_27 (by decide) ⟨by omega, by omega⟩ ⟨by omega, by omega⟩ (fun c27 => ?_) (fun c27 => ?_)
      · refine x_iload_n (pc := 36) dX2_readStatement_36 rfl rfl ?_
        refine x_if_ne (pc := 37) (t := 51) dX2_readStatement_37 (by decide) ⟨by omega, by omega⟩ (fun c37 => ?_) (fun c37 => ?_)
        · refine x_iconst (pc := 51) dX2_readStatement_51 ?_
          refine x_istore_n (pc := 52) dX2_readStatement_52 rfl (by decide) (L' := [(3, _), (2, _), (0, _), (1, _)]) rfl ?_
          refine x_iload_n (pc := 53) dX2_readStatement_53 rfl rfl ?_
          refine x_if_ne (pc := 54) (t := 69) dX2_readStatement_54 (by decide) ⟨by omega, by omega⟩ (fun c54 => ?_) (fun c54 => ?_)
          · refine x_aload_n (pc := 69) dX2_readStatement_69 rfl rfl ?_
            refine x_iconst (pc := 70) dX2_readStatement_70 ?_
            refine x_callV (pc := 71) [_] rfl kX2_72 dX2_readStatement_71 hP.1 rfl rfl (by decide) (Nat.le_of_ble_eq_true rfl) (Nat.le_of_ble_eq_true rfl) (by decide) ?_
            refine sp_X2_fail hP hb0 hr (by decide) (fun M2 hF2 hr2 => ?_)
            have hT2 := hT.frm hF2 (by omega)
            refine ⟨_, rfl, ?_⟩
            refine x_zret (pc := 74) dX2_readStatement_74 rfl ⟨by omega, by omega⟩ (by decide) (by decide) ?_
            first
            | (exfalso; omega)
            | (rw [if_neg (by omega), if_pos (by omega)] at k
               exact k _ (FrR.of hF2) hr2 hT2)
          · refine x_aload_n (pc := 57) dX2_readStatement_57 rfl rfl ?_
            refine x_geti (pc := 58) fX2_63 dX2_readStatement_58 hP.1 rfl (fun r58a r58b => ?_)
            rw [e11] at r58a r58b ⊢
            refine x_iload_n (pc := 61) dX2_readStatement_61 rfl rfl ?_
            refine x_ishr (pc := 62) (setWF tx v).toNat (by omega) (by omega) ⟨by omega, by omega⟩ dX2_readStatement_62 ?_
            refine x_iconst (pc := 63) dX2_readStatement_63 ?_
            refine x_iandm (pc := 64) 1 (by decide) (by decide) dX2_readStatement_64 ?_
            rw [show v 11 / 2 ^ (setWF tx v).toNat % 2 ^ 1 = bitF (v 11) (setWF tx v).toNat from rfl]
            have hbr : 0 ≤ bitF (v 11) (setWF tx v).toNat ∧ bitF (v 11) (setWF tx v).toNat ≤ 1 := by unfold bitF; omega
            refine x_iconst (pc := 65) dX2_readStatement_65 ?_
            refine x_icmp_ne (pc := 66) (t := 75) dX2_readStatement_66 (by decide) ⟨by omega, by omega⟩ ⟨by omega, by omega⟩ (fun c66 => ?_) (fun c66 => ?_)
            · refine x_aload_n (pc := 75) dX2_readStatement_75 rfl rfl ?_
              refine x_dup (pc := 76) dX2_readStatement_76 rfl ?_
              refine x_geti (pc := 77) fX2_63 dX2_readStatement_77 hP.1 rfl (fun r77a r77b => ?_)
              rw [e11] at r77a r77b ⊢
              refine x_iconst (pc := 80) dX2_readStatement_80 ?_
              refine x_iload_n (pc := 81) dX2_readStatement_81 rfl rfl ?_
              refine x_ishl (pc := 82) (setWF tx v).toNat (by omega) (by omega) dX2_readStatement_82 ?_
              refine x_ior (pc := 83) (v 11).toNat (setWF tx v).toNat (by omega) (by omega) (by omega) rfl dX2_readStatement_83 ?_
              have ho := orF_128 (a := v 11) (n := (setWF tx v).toNat) (by omega) (by omega)
              rw [show (if ((v 11).toNat / 2 ^ (setWF tx v).toNat) % 2 = 0 then (((v 11).toNat : Nat) : Int) + 2 ^ (setWF tx v).toNat else ((v 11).toNat : Nat)) = orF (v 11) (setWF tx v).toNat from rfl]
              refine x_puti (pc := 84) fnX2_63 dX2_readStatement_84 hP.1 (by omega) rfl ⟨by omega, by omega⟩ ?_
              refine x_aload_n (pc := 87) dX2_readStatement_87 rfl rfl ?_
              refine x_callV (pc := 88) [] rfl kX2_69 dX2_readStatement_88 hP.1 rfl rfl (by decide) (Nat.le_of_ble_eq_true rfl) (Nat.le_of_ble_eq_true rfl) (by decide) ?_
              have hIo := hI.or (tx := tx) (i := (setWF tx v).toNat) (by omega)
              have hko : TkOK n (fup v 11 (orF (v 11) (setWF tx v).toNat)) := hk.fup (by omega)
              refine sp_X2_nextToken hP hb0 (hr.ms (by decide)) (by unfold TkOK at hko; omega) (fun M2 hF2 hr2 => ?_)
              have hF2b : FrR c z M M2 := (FrR.rf.ms (by omega)).tr (FrR.of hF2)
              have hT2 : Ct T M2 z := (hT.gen (fun a j q1 q2 => mset_nea (by omega))).frm hF2 (by omega)
              refine ⟨_, rfl, ?_⟩
              refine x_aload_n (pc := 91) dX2_readStatement_91 rfl rfl ?_
              refine x_aload_n (pc := 92) dX2_readStatement_92 rfl rfl ?_
              refine x_iload_n (pc := 93) dX2_readStatement_93 rfl rfl ?_
              refine x_callV (pc := 94) [_, _] rfl kX2_101 dX2_readStatement_94 hP.1 rfl rfl (by decide) (Nat.le_of_ble_eq_true rfl) (Nat.le_of_ble_eq_true rfl) (by decide) ?_
              rw [show setWF tx v = (((setWF tx v).toNat : Nat) : Int) by omega]
              refine sp_X2_readSetting hP hb0 hr2 hIo.1 hC hz0 hT2 hcz (show (setWF tx v).toNat < 7 by omega) (fun M3 hF3 hr3 hT3 => ?_)
              have hI3 := rSetF_ok (tx := tx) hIo (show (setWF tx v).toNat < 7 by omega)
              have h01 := @rSetF_01 tx n (tokF tx n (fup v 11 (orF (v 11) (setWF tx v).toNat))) T (setWF tx v).toNat
              rw [show (((setWF tx v).toNat : Nat) : Int) = setWF tx v by omega]
              generalize hRR : rSetF tx n (tokF tx n (fup v 11 (orF (v 11) (setWF tx v).toNat))) T (setWF tx v).toNat = RR at *
              refine ⟨_, rfl, ?_⟩
              refine x_if_ne (pc := 97) (t := 102) dX2_readStatement_97 (by decide) ⟨by omega, by omega⟩ (fun c97 => ?_) (fun c97 => ?_)
              · refine x_iload_n (pc := 102) dX2_readStatement_102 rfl rfl ?_
                refine x_iconst (pc := 103) dX2_readStatement_103 ?_
                refine x_icmp_ne (pc := 104) (t := 116) dX2_readStatement_104 (by decide) ⟨by omega, by omega⟩ ⟨by omega, by omega⟩ (fun c104 => ?_) (fun c104 => ?_)
                · refine x_iconst (pc := 116) dX2_readStatement_116 ?_
                  refine x_goto (pc := 117) (t := 121) dX2_readStatement_117 (by decide) ?_
                  refine x_zret (pc := 121) dX2_readStatement_121 rfl ⟨by omega, by omega⟩ (by decide) (by decide) ?_
                  first
                  | (exfalso; omega)
                  | (rw [if_neg (by omega), if_neg (by omega), if_neg (by omega), if_pos (by omega)] at k
                     exact k _ (hF2b.tr hF3) hr3 hT3)
                  | (rw [if_neg (by omega), if_neg (by omega), if_neg (by omega), if_neg (by omega)] at k
                     refine kI (k _ ((hF2b.tr hF3).tr hF4) hr4 hT4) ?_
                     omega)
                · refine x_aload_n (pc := 107) dX2_readStatement_107 rfl rfl ?_
                  refine x_aload_n (pc := 108) dX2_readStatement_108 rfl rfl ?_
                  refine x_iconst (pc := 109) dX2_readStatement_109 ?_
                  refine x_callV (pc := 110) [_, _] rfl kX2_101 dX2_readStatement_110 hP.1 rfl rfl (by decide) (Nat.le_of_ble_eq_true rfl) (Nat.le_of_ble_eq_true rfl) (by decide) ?_
                  refine sp_X2_readSetting (i := 5) hP hb0 hr3 hI3.1 hC hz0 hT3 hcz (by decide) (fun M4 hF4 hr4 hT4 => ?_)
                  have h02 := @rSetF_01 tx n RR.2.1 RR.2.2 5
                  refine ⟨_, rfl, ?_⟩
                  refine x_if_eq (pc := 113) (t := 120) dX2_readStatement_113 (by decide) ⟨by omega, by omega⟩ (fun c113 => ?_) (fun c113 => ?_)
                  · refine x_iconst (pc := 120) dX2_readStatement_120 ?_
                    refine x_zret (pc := 121) dX2_readStatement_121 rfl ⟨by omega, by omega⟩ (by decide) (by decide) ?_
                    first
                    | (exfalso; omega)
                    | (rw [if_neg (by omega), if_neg (by omega), if_neg (by omega), if_pos (by omega)] at k
                       exact k _ (hF2b.tr hF3) hr3 hT3)
                    | (rw [if_neg (by omega), if_neg (by omega), if_neg (by omega), if_neg (by omega)] at k
                       refine kI (k _ ((hF2b.tr hF3).tr hF4) hr4 hT4) ?_
                       omega)
                  · refine x_iconst (pc := 116) dX2_readStatement_116 ?_
                    refine x_goto (pc := 117) (t := 121) dX2_readStatement_117 (by decide) ?_
                    refine x_zret (pc := 121) dX2_readStatement_121 rfl ⟨by omega, by omega⟩ (by decide) (by decide) ?_
                    first
                    | (exfalso; omega)
                    | (rw [if_neg (by omega), if_neg (by omega), if_neg (by omega), if_pos (by omega)] at k
                       exact k _ (hF2b.tr hF3) hr3 hT3)
                    | (rw [if_neg (by omega), if_neg (by omega), if_neg (by omega), if_neg (by omega)] at k
                       refine kI (k _ ((hF2b.tr hF3).tr hF4) hr4 hT4) ?_
                       omega)
              · refine x_iconst (pc := 100) dX2_readStatement_100 ?_
                refine x_zret (pc := 101) dX2_readStatement_101 rfl ⟨by omega, by omega⟩ (by decide) (by decide) ?_
                first
                | (exfalso; omega)
                | (rw [if_neg (by omega), if_neg (by omega), if_pos (by omega)] at k
                   exact k _ (hF2b.tr hF3) hr3 hT3)
            · refine x_aload_n (pc := 69) dX2_readStatement_69 rfl rfl ?_
              refine x_iconst (pc := 70) dX2_readStatement_70 ?_
              refine x_callV (pc := 71) [_] rfl kX2_72 dX2_readStatement_71 hP.1 rfl rfl (by decide) (Nat.le_of_ble_eq_true rfl) (Nat.le_of_ble_eq_true rfl) (by decide) ?_
              refine sp_X2_fail hP hb0 hr (by decide) (fun M2 hF2 hr2 => ?_)
              have hT2 := hT.frm hF2 (by omega)
              refine ⟨_, rfl, ?_⟩
              refine x_zret (pc := 74) dX2_readStatement_74 rfl ⟨by omega, by omega⟩ (by decide) (by decide) ?_
              first
              | (exfalso; omega)
              | (rw [if_neg (by omega), if_pos (by omega)] at k
                 exact k _ (FrR.of hF2) hr2 hT2)
        · refine x_aload_n (pc := 40) dX2_readStatement_40 rfl rfl ?_
          refine x_geti (pc := 41) fX2_66 dX2_readStatement_41 hP.1 rfl (fun r41a r41b => ?_)
          rw [e12] at r41a r41b ⊢
          refine x_if_eq (pc := 44) (t := 51) dX2_readStatement_44 (by decide) ⟨by omega, by omega⟩ (fun c44 => ?_) (fun c44 => ?_)
          · refine x_iconst (pc := 51) dX2_readStatement_51 ?_
            refine x_istore_n (pc := 52) dX2_readStatement_52 rfl (by decide) (L' := [(3, _), (2, _), (0, _), (1, _)]) rfl ?_
            refine x_iload_n (pc := 53) dX2_readStatement_53 rfl rfl ?_
            refine x_if_ne (pc := 54) (t := 69) dX2_readStatement_54 (by decide) ⟨by omega, by omega⟩ (fun c54 => ?_) (fun c54 => ?_)
            · refine x_aload_n (pc := 69) dX2_readStatement_69 rfl rfl ?_
              refine x_iconst (pc := 70) dX2_readStatement_70 ?_
              refine x_callV (pc := 71) [_] rfl kX2_72 dX2_readStatement_71 hP.1 rfl rfl (by decide) (Nat.le_of_ble_eq_true rfl) (Nat.le_of_ble_eq_true rfl) (by decide) ?_
              refine sp_X2_fail hP hb0 hr (by decide) (fun M2 hF2 hr2 => ?_)
              have hT2 := hT.frm hF2 (by omega)
              refine ⟨_, rfl, ?_⟩
              refine x_zret (pc := 74) dX2_readStatement_74 rfl ⟨by omega, by omega⟩ (by decide) (by decide) ?_
              first
              | (exfalso; omega)
              | (rw [if_neg (by omega), if_pos (by omega)] at k
                 exact k _ (FrR.of hF2) hr2 hT2)
            · refine x_aload_n (pc := 57) dX2_readStatement_57 rfl rfl ?_
              refine x_geti (pc := 58) fX2_63 dX2_readStatement_58 hP.1 rfl (fun r58a r58b => ?_)
              rw [e11] at r58a r58b ⊢
              refine x_iload_n (pc := 61) dX2_readStatement_61 rfl rfl ?_
              refine x_ishr (pc := 62) (setWF tx v).toNat (by omega) (by omega) ⟨by omega, by omega⟩ dX2_readStatement_62 ?_
              refine x_iconst (pc := 63) dX2_readStatement_63 ?_
              refine x_iandm (pc := 64) 1 (by decide) (by decide) dX2_readStatement_64 ?_
              rw [show v 11 / 2 ^ (setWF tx v).toNat % 2 ^ 1 = bitF (v 11) (setWF tx v).toNat from rfl]
              have hbr : 0 ≤ bitF (v 11) (setWF tx v).toNat ∧ bitF (v 11) (setWF tx v).toNat ≤ 1 := by unfold bitF; omega
              refine x_iconst (pc := 65) dX2_readStatement_65 ?_
              refine x_icmp_ne (pc := 66) (t := 75) dX2_readStatement_66 (by decide) ⟨by omega, by omega⟩ ⟨by omega, by omega⟩ (fun c66 => ?_) (fun c66 => ?_)
              · refine x_aload_n (pc := 75) dX2_readStatement_75 rfl rfl ?_
                refine x_dup (pc := 76) dX2_readStatement_76 rfl ?_
                refine x_geti (pc := 77) fX2_63 dX2_readStatement_77 hP.1 rfl (fun r77a r77b => ?_)
                rw [e11] at r77a r77b ⊢
                refine x_iconst (pc := 80) dX2_readStatement_80 ?_
                refine x_iload_n (pc := 81) dX2_readStatement_81 rfl rfl ?_
                refine x_ishl (pc := 82) (setWF tx v).toNat (by omega) (by omega) dX2_readStatement_82 ?_
                refine x_ior (pc := 83) (v 11).toNat (setWF tx v).toNat (by omega) (by omega) (by omega) rfl dX2_readStatement_83 ?_
                have ho := orF_128 (a := v 11) (n := (setWF tx v).toNat) (by omega) (by omega)
                rw [show (if ((v 11).toNat / 2 ^ (setWF tx v).toNat) % 2 = 0 then (((v 11).toNat : Nat) : Int) + 2 ^ (setWF tx v).toNat else ((v 11).toNat : Nat)) = orF (v 11) (setWF tx v).toNat from rfl]
                refine x_puti (pc := 84) fnX2_63 dX2_readStatement_84 hP.1 (by omega) rfl ⟨by omega, by omega⟩ ?_
                refine x_aload_n (pc := 87) dX2_readStatement_87 rfl rfl ?_
                refine x_callV (pc := 88) [] rfl kX2_69 dX2_readStatement_88 hP.1 rfl rfl (by decide) (Nat.le_of_ble_eq_true rfl) (Nat.le_of_ble_eq_true rfl) (by decide) ?_
                have hIo := hI.or (tx := tx) (i := (setWF tx v).toNat) (by omega)
                have hko : TkOK n (fup v 11 (orF (v 11) (setWF tx v).toNat)) := hk.fup (by omega)
                refine sp_X2_nextToken hP hb0 (hr.ms (by decide)) (by unfold TkOK at hko; omega) (fun M2 hF2 hr2 => ?_)
                have hF2b : FrR c z M M2 := (FrR.rf.ms (by omega)).tr (FrR.of hF2)
                have hT2 : Ct T M2 z := (hT.gen (fun a j q1 q2 => mset_nea (by omega))).frm hF2 (by omega)
                refine ⟨_, rfl, ?_⟩
                refine x_aload_n (pc := 91) dX2_readStatement_91 rfl rfl ?_
                refine x_aload_n (pc := 92) dX2_readStatement_92 rfl rfl ?_
                refine x_iload_n (pc := 93) dX2_readStatement_93 rfl rfl ?_
                refine x_callV (pc := 94) [_, _] rfl kX2_101 dX2_readStatement_94 hP.1 rfl rfl (by decide) (Nat.le_of_ble_eq_true rfl) (Nat.le_of_ble_eq_true rfl) (by decide) ?_
                rw [show setWF tx v = (((setWF tx v).toNat : Nat) : Int) by omega]
                refine sp_X2_readSetting hP hb0 hr2 hIo.1 hC hz0 hT2 hcz (show (setWF tx v).toNat < 7 by omega) (fun M3 hF3 hr3 hT3 => ?_)
                have hI3 := rSetF_ok (tx := tx) hIo (show (setWF tx v).toNat < 7 by omega)
                have h01 := @rSetF_01 tx n (tokF tx n (fup v 11 (orF (v 11) (setWF tx v).toNat))) T (setWF tx v).toNat
                rw [show (((setWF tx v).toNat : Nat) : Int) = setWF tx v by omega]
                generalize hRR : rSetF tx n (tokF tx n (fup v 11 (orF (v 11) (setWF tx v).toNat))) T (setWF tx v).toNat = RR at *
                refine ⟨_, rfl, ?_⟩
                refine x_if_ne (pc := 97) (t := 102) dX2_readStatement_97 (by decide) ⟨by omega, by omega⟩ (fun c97 => ?_) (fun c97 => ?_)
                · refine x_iload_n (pc := 102) dX2_readStatement_102 rfl rfl ?_
                  refine x_iconst (pc := 103) dX2_readStatement_103 ?_
                  refine x_icmp_ne (pc := 104) (t := 116) dX2_readStatement_104 (by decide) ⟨by omega, by omega⟩ ⟨by omega, by omega⟩ (fun c104 => ?_) (fun c104 => ?_)
                  · refine x_iconst (pc := 116) dX2_readStatement_116 ?_
                    refine x_goto (pc := 117) (t := 121) dX2_readStatement_117 (by decide) ?_
                    refine x_zret (pc := 121) dX2_readStatement_121 rfl ⟨by omega, by omega⟩ (by decide) (by decide) ?_
                    first
                    | (exfalso; omega)
                    | (rw [if_neg (by omega), if_neg (by omega), if_neg (by omega), if_pos (by omega)] at k
                       exact k _ (hF2b.tr hF3) hr3 hT3)
                    | (rw [if_neg (by omega), if_neg (by omega), if_neg (by omega), if_neg (by omega)] at k
                       refine kI (k _ ((hF2b.tr hF3).tr hF4) hr4 hT4) ?_
                       omega)
                  · refine x_aload_n (pc := 107) dX2_readStatement_107 rfl rfl ?_
                    refine x_aload_n (pc := 108) dX2_readStatement_108 rfl rfl ?_
                    refine x_iconst (pc := 109) dX2_readStatement_109 ?_
                    refine x_callV (pc := 110) [_, _] rfl kX2_101 dX2_readStatement_110 hP.1 rfl rfl (by decide) (Nat.le_of_ble_eq_true rfl) (Nat.le_of_ble_eq_true rfl) (by decide) ?_
                    refine sp_X2_readSetting (i := 5) hP hb0 hr3 hI3.1 hC hz0 hT3 hcz (by decide) (fun M4 hF4 hr4 hT4 => ?_)
                    have h02 := @rSetF_01 tx n RR.2.1 RR.2.2 5
                    refine ⟨_, rfl, ?_⟩
                    refine x_if_eq (pc := 113) (t := 120) dX2_readStatement_113 (by decide) ⟨by omega, by omega⟩ (fun c113 => ?_) (fun c113 => ?_)
                    · refine x_iconst (pc := 120) dX2_readStatement_120 ?_
                      refine x_zret (pc := 121) dX2_readStatement_121 rfl ⟨by omega, by omega⟩ (by decide) (by decide) ?_
                      first
                      | (exfalso; omega)
                      | (rw [if_neg (by omega), if_neg (by omega), if_neg (by omega), if_pos (by omega)] at k
                         exact k _ (hF2b.tr hF3) hr3 hT3)
                      | (rw [if_neg (by omega), if_neg (by omega), if_neg (by omega), if_neg (by omega)] at k
                         refine kI (k _ ((hF2b.tr hF3).tr hF4) hr4 hT4) ?_
                         omega)
                    · refine x_iconst (pc := 116) dX2_readStatement_116 ?_
                      refine x_goto (pc := 117) (t := 121) dX2_readStatement_117 (by decide) ?_
                      refine x_zret (pc := 121) dX2_readStatement_121 rfl ⟨by omega, by omega⟩ (by decide) (by decide) ?_
                      first
                      | (exfalso; omega)
                      | (rw [if_neg (by omega), if_neg (by omega), if_neg (by omega), if_pos (by omega)] at k
                         exact k _ (hF2b.tr hF3) hr3 hT3)
                      | (rw [if_neg (by omega), if_neg (by omega), if_neg (by omega), if_neg (by omega)] at k
                         refine kI (k _ ((hF2b.tr hF3).tr hF4) hr4 hT4) ?_
                         omega)
                · refine x_iconst (pc := 100) dX2_readStatement_100 ?_
                  refine x_zret (pc := 101) dX2_readStatement_101 rfl ⟨by omega, by omega⟩ (by decide) (by decide) ?_
                  first
                  | (exfalso; omega)
                  | (rw [if_neg (by omega), if_neg (by omega), if_pos (by omega)] at k
                     exact k _ (hF2b.tr hF3) hr3 hT3)
              · refine x_aload_n (pc := 69) dX2_readStatement_69 rfl rfl ?_
                refine x_iconst (pc := 70) dX2_readStatement_70 ?_
                refine x_callV (pc := 71) [_] rfl kX2_72 dX2_readStatement_71 hP.1 rfl rfl (by decide) (Nat.le_of_ble_eq_true rfl) (Nat.le_of_ble_eq_true rfl) (by decide) ?_
                refine sp_X2_fail hP hb0 hr (by decide) (fun M2 hF2 hr2 => ?_)
                have hT2 := hT.frm hF2 (by omega)
                refine ⟨_, rfl, ?_⟩
                refine x_zret (pc := 74) dX2_readStatement_74 rfl ⟨by omega, by omega⟩ (by decide) (by decide) ?_
                first
                | (exfalso; omega)
                | (rw [if_neg (by omega), if_pos (by omega)] at k
                   exact k _ (FrR.of hF2) hr2 hT2)
          · refine x_iconst (pc := 47) dX2_readStatement_47 ?_
            refine x_goto (pc := 48) (t := 52) dX2_readStatement_48 (by decide) ?_
            refine x_istore_n (pc := 52) dX2_readStatement_52 rfl (by decide) (L' := [(3, _), (2, _), (0, _), (1, _)]) rfl ?_
            refine x_iload_n (pc := 53) dX2_readStatement_53 rfl rfl ?_
            refine x_if_ne (pc := 54) (t := 69) dX2_readStatement_54 (by decide) ⟨by omega, by omega⟩ (fun c54 => ?_) (fun c54 => ?_)
            · refine x_aload_n (pc := 69) dX2_readStatement_69 rfl rfl ?_
              refine x_iconst (pc := 70) dX2_readStatement_70 ?_
              refine x_callV (pc := 71) [_] rfl kX2_72 dX2_readStatement_71 hP.1 rfl rfl (by decide) (Nat.le_of_ble_eq_true rfl) (Nat.le_of_ble_eq_true rfl) (by decide) ?_
              refine sp_X2_fail hP hb0 hr (by decide) (fun M2 hF2 hr2 => ?_)
              have hT2 := hT.frm hF2 (by omega)
              refine ⟨_, rfl, ?_⟩
              refine x_zret (pc := 74) dX2_readStatement_74 rfl ⟨by omega, by omega⟩ (by decide) (by decide) ?_
              first
              | (exfalso; omega)
              | (rw [if_neg (by omega), if_pos (by omega)] at k
                 exact k _ (FrR.of hF2) hr2 hT2)
            · refine x_aload_n (pc := 57) dX2_readStatement_57 rfl rfl ?_
              refine x_geti (pc := 58) fX2_63 dX2_readStatement_58 hP.1 rfl (fun r58a r58b => ?_)
              rw [e11] at r58a r58b ⊢
              refine x_iload_n (pc := 61) dX2_readStatement_61 rfl rfl ?_
              refine x_ishr (pc := 62) (setWF tx v).toNat (by omega) (by omega) ⟨by omega, by omega⟩ dX2_readStatement_62 ?_
              refine x_iconst (pc := 63) dX2_readStatement_63 ?_
              refine x_iandm (pc := 64) 1 (by decide) (by decide) dX2_readStatement_64 ?_
              rw [show v 11 / 2 ^ (setWF tx v).toNat % 2 ^ 1 = bitF (v 11) (setWF tx v).toNat from rfl]
              have hbr : 0 ≤ bitF (v 11) (setWF tx v).toNat ∧ bitF (v 11) (setWF tx v).toNat ≤ 1 := by unfold bitF; omega
              refine x_iconst (pc := 65) dX2_readStatement_65 ?_
              refine x_icmp_ne (pc := 66) (t := 75) dX2_readStatement_66 (by decide) ⟨by omega, by omega⟩ ⟨by omega, by omega⟩ (fun c66 => ?_) (fun c66 => ?_)
              · refine x_aload_n (pc := 75) dX2_readStatement_75 rfl rfl ?_
                refine x_dup (pc := 76) dX2_readStatement_76 rfl ?_
                refine x_geti (pc := 77) fX2_63 dX2_readStatement_77 hP.1 rfl (fun r77a r77b => ?_)
                rw [e11] at r77a r77b ⊢
                refine x_iconst (pc := 80) dX2_readStatement_80 ?_
                refine x_iload_n (pc := 81) dX2_readStatement_81 rfl rfl ?_
                refine x_ishl (pc := 82) (setWF tx v).toNat (by omega) (by omega) dX2_readStatement_82 ?_
                refine x_ior (pc := 83) (v 11).toNat (setWF tx v).toNat (by omega) (by omega) (by omega) rfl dX2_readStatement_83 ?_
                have ho := orF_128 (a := v 11) (n := (setWF tx v).toNat) (by omega) (by omega)
                rw [show (if ((v 11).toNat / 2 ^ (setWF tx v).toNat) % 2 = 0 then (((v 11).toNat : Nat) : Int) + 2 ^ (setWF tx v).toNat else ((v 11).toNat : Nat)) = orF (v 11) (setWF tx v).toNat from rfl]
                refine x_puti (pc := 84) fnX2_63 dX2_readStatement_84 hP.1 (by omega) rfl ⟨by omega, by omega⟩ ?_
                refine x_aload_n (pc := 87) dX2_readStatement_87 rfl rfl ?_
                refine x_callV (pc := 88) [] rfl kX2_69 dX2_readStatement_88 hP.1 rfl rfl (by decide) (Nat.le_of_ble_eq_true rfl) (Nat.le_of_ble_eq_true rfl) (by decide) ?_
                have hIo := hI.or (tx := tx) (i := (setWF tx v).toNat) (by omega)
                have hko : TkOK n (fup v 11 (orF (v 11) (setWF tx v).toNat)) := hk.fup (by omega)
                refine sp_X2_nextToken hP hb0 (hr.ms (by decide)) (by unfold TkOK at hko; omega) (fun M2 hF2 hr2 => ?_)
                have hF2b : FrR c z M M2 := (FrR.rf.ms (by omega)).tr (FrR.of hF2)
                have hT2 : Ct T M2 z := (hT.gen (fun a j q1 q2 => mset_nea (by omega))).frm hF2 (by omega)
                refine ⟨_, rfl, ?_⟩
                refine x_aload_n (pc := 91) dX2_readStatement_91 rfl rfl ?_
                refine x_aload_n (pc := 92) dX2_readStatement_92 rfl rfl ?_
                refine x_iload_n (pc := 93) dX2_readStatement_93 rfl rfl ?_
                refine x_callV (pc := 94) [_, _] rfl kX2_101 dX2_readStatement_94 hP.1 rfl rfl (by decide) (Nat.le_of_ble_eq_true rfl) (Nat.le_of_ble_eq_true rfl) (by decide) ?_
                rw [show setWF tx v = (((setWF tx v).toNat : Nat) : Int) by omega]
                refine sp_X2_readSetting hP hb0 hr2 hIo.1 hC hz0 hT2 hcz (show (setWF tx v).toNat < 7 by omega) (fun M3 hF3 hr3 hT3 => ?_)
                have hI3 := rSetF_ok (tx := tx) hIo (show (setWF tx v).toNat < 7 by omega)
                have h01 := @rSetF_01 tx n (tokF tx n (fup v 11 (orF (v 11) (setWF tx v).toNat))) T (setWF tx v).toNat
                rw [show (((setWF tx v).toNat : Nat) : Int) = setWF tx v by omega]
                generalize hRR : rSetF tx n (tokF tx n (fup v 11 (orF (v 11) (setWF tx v).toNat))) T (setWF tx v).toNat = RR at *
                refine ⟨_, rfl, ?_⟩
                refine x_if_ne (pc := 97) (t := 102) dX2_readStatement_97 (by decide) ⟨by omega, by omega⟩ (fun c97 => ?_) (fun c97 => ?_)
                · refine x_iload_n (pc := 102) dX2_readStatement_102 rfl rfl ?_
                  refine x_iconst (pc := 103) dX2_readStatement_103 ?_
                  refine x_icmp_ne (pc := 104) (t := 116) dX2_readStatement_104 (by decide) ⟨by omega, by omega⟩ ⟨by omega, by omega⟩ (fun c104 => ?_) (fun c104 => ?_)
                  · refine x_iconst (pc := 116) dX2_readStatement_116 ?_
                    refine x_goto (pc := 117) (t := 121) dX2_readStatement_117 (by decide) ?_
                    refine x_zret (pc := 121) dX2_readStatement_121 rfl ⟨by omega, by omega⟩ (by decide) (by decide) ?_
                    first
                    | (exfalso; omega)
                    | (rw [if_neg (by omega), if_neg (by omega), if_neg (by omega), if_pos (by omega)] at k
                       exact k _ (hF2b.tr hF3) hr3 hT3)
                    | (rw [if_neg (by omega), if_neg (by omega), if_neg (by omega), if_neg (by omega)] at k
                       refine kI (k _ ((hF2b.tr hF3).tr hF4) hr4 hT4) ?_
                       omega)
                  · refine x_aload_n (pc := 107) dX2_readStatement_107 rfl rfl ?_
                    refine x_aload_n (pc := 108) dX2_readStatement_108 rfl rfl ?_
                    refine x_iconst (pc := 109) dX2_readStatement_109 ?_
                    refine x_callV (pc := 110) [_, _] rfl kX2_101 dX2_readStatement_110 hP.1 rfl rfl (by decide) (Nat.le_of_ble_eq_true rfl) (Nat.le_of_ble_eq_true rfl) (by decide) ?_
                    refine sp_X2_readSetting (i := 5) hP hb0 hr3 hI3.1 hC hz0 hT3 hcz (by decide) (fun M4 hF4 hr4 hT4 => ?_)
                    have h02 := @rSetF_01 tx n RR.2.1 RR.2.2 5
                    refine ⟨_, rfl, ?_⟩
                    refine x_if_eq (pc := 113) (t := 120) dX2_readStatement_113 (by decide) ⟨by omega, by omega⟩ (fun c113 => ?_) (fun c113 => ?_)
                    · refine x_iconst (pc := 120) dX2_readStatement_120 ?_
                      refine x_zret (pc := 121) dX2_readStatement_121 rfl ⟨by omega, by omega⟩ (by decide) (by decide) ?_
                      first
                      | (exfalso; omega)
                      | (rw [if_neg (by omega), if_neg (by omega), if_neg (by omega), if_pos (by omega)] at k
                         exact k _ (hF2b.tr hF3) hr3 hT3)
                      | (rw [if_neg (by omega), if_neg (by omega), if_neg (by omega), if_neg (by omega)] at k
                         refine kI (k _ ((hF2b.tr hF3).tr hF4) hr4 hT4) ?_
                         omega)
                    · refine x_iconst (pc := 116) dX2_readStatement_116 ?_
                      refine x_goto (pc := 117) (t := 121) dX2_readStatement_117 (by decide) ?_
                      refine x_zret (pc := 121) dX2_readStatement_121 rfl ⟨by omega, by omega⟩ (by decide) (by decide) ?_
                      first
                      | (exfalso; omega)
                      | (rw [if_neg (by omega), if_neg (by omega), if_neg (by omega), if_pos (by omega)] at k
                         exact k _ (hF2b.tr hF3) hr3 hT3)
                      | (rw [if_neg (by omega), if_neg (by omega), if_neg (by omega), if_neg (by omega)] at k
                         refine kI (k _ ((hF2b.tr hF3).tr hF4) hr4 hT4) ?_
                         omega)
                · refine x_iconst (pc := 100) dX2_readStatement_100 ?_
                  refine x_zret (pc := 101) dX2_readStatement_101 rfl ⟨by omega, by omega⟩ (by decide) (by decide) ?_
                  first
                  | (exfalso; omega)
                  | (rw [if_neg (by omega), if_neg (by omega), if_pos (by omega)] at k
                     exact k _ (hF2b.tr hF3) hr3 hT3)
              · refine x_aload_n (pc := 69) dX2_readStatement_69 rfl rfl ?_
                refine x_iconst (pc := 70) dX2_readStatement_70 ?_
                refine x_callV (pc := 71) [_] rfl kX2_72 dX2_readStatement_71 hP.1 rfl rfl (by decide) (Nat.le_of_ble_eq_true rfl) (Nat.le_of_ble_eq_true rfl) (by decide) ?_
                refine sp_X2_fail hP hb0 hr (by decide) (fun M2 hF2 hr2 => ?_)
                have hT2 := hT.frm hF2 (by omega)
                refine ⟨_, rfl, ?_⟩
                refine x_zret (pc := 74) dX2_readStatement_74 rfl ⟨by omega, by omega⟩ (by decide) (by decide) ?_
                first
                | (exfalso; omega)
                | (rw [if_neg (by omega), if_pos (by omega)] at k
                   exact k _ (FrR.of hF2) hr2 hT2)
      · refine x_aload_n (pc := 30) dX2_readStatement_30 rfl rfl ?_
        refine x_iconst (pc := 31) dX2_readStatement_31 ?_
        refine x_callV (pc := 32) [_] rfl kX2_72 dX2_readStatement_32 hP.1 rfl rfl (by decide) (Nat.le_of_ble_eq_true rfl) (Nat.le_of_ble_eq_true rfl) (by decide) ?_
        refine sp_X2_fail hP hb0 hr (by decide) (fun M2 hF2 hr2 => ?_)
        have hT2 := hT.frm hF2 (by omega)
        refine ⟨_, rfl, ?_⟩
        refine x_zret (pc := 35) dX2_readStatement_35 rfl ⟨by omega, by omega⟩ (by decide) (by decide) ?_
        first
        | (exfalso; omega)
        | (rw [if_pos (by omega)] at k
           exact k _ (FrR.of hF2) hr2 hT2)
  · refine x_aload_n (pc := 9) dX2_readStatement_9 rfl rfl ?_
    refine x_aload_n (pc := 10) dX2_readStatement_10 rfl rfl ?_
    refine x_callV (pc := 11) [_] rfl kX2_95 dX2_readStatement_11 hP.1 rfl rfl (by decide) (Nat.le_of_ble_eq_true rfl) (Nat.le_of_ble_eq_true rfl) (by decide) ?_
    rw [if_pos (b1 c6)] at k
    refine sp_X2_readStart hP hb0 hr hk hC hz0 hT hcz hI.2.1.1 b12 (fun M2 hF2 hr2 hT2 => ?_)
    have h01 := @rStartF_01 tx n v T
    refine ⟨_, rfl, ?_⟩
    refine x_zret (pc := 14) dX2_readStatement_14 rfl ⟨by omega, by omega⟩ (by decide) (by decide) ?_
    exact k _ hF2 hr2 hT2
