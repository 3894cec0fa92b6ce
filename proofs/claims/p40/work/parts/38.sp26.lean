/-! Specs of the reader: a whole setup. -/
theorem sem_ne {tx : Nat → Int} {n : Nat} {v : Nat → Int} {j : Nat} (h : j = 5 ∨ 9 < j) : (semF tx n v).2 j = v j := by
  unfold semF
  split
  · exact tok_ne (by omega)
  · exact fail_ne (by omega)
theorem rSet5 {tx : Nat → Int} {n : Nat} {v : Nat → Int} {T : CT} {i : Nat} : (rSetF tx n v T i).2.1 5 = v 5 := by
  unfold rSetF
  split <;> exact num_ne (by omega)
theorem rStart5 {tx : Nat → Int} {n : Nat} {v : Nat → Int} {T : CT} : (rStartF tx n v T).2.1 5 = v 5 := by
  unfold rStartF
  have h1 : (intRF tx n (tokF tx n v) (-30) 30).2 5 = v 5 := by rw [int_ne (by omega), tok_ne (by omega)]
  split
  · exact h1
  · split
    · exact (fail_ne (x := 4) (j := 5) (by omega)).trans h1
    · split
      · exact (num_ne (by omega)).trans h1
      · dsimp only
        rw [fup_ne (by omega)]
        exact (num_ne (by omega)).trans h1
theorem rStmt5 {tx : Nat → Int} {n : Nat} {v : Nat → Int} {T : CT} : (rStmtF tx n v T).2.1 5 = v 5 := by
  have h1 : tokF tx n (fup v 11 (orF (v 11) (setWF tx v).toNat)) 5 = v 5 := by rw [tok_ne (by omega), fup_ne (by omega)]
  unfold rStmtF
  split
  · exact rStart5
  · split
    · exact fail_ne (x := 1) (j := 5) (by omega)
    · split
      · exact fail_ne (x := 3) (j := 5) (by omega)
      · split
        · exact rSet5.trans h1
        · split
          · exact rSet5.trans h1
          · exact rSet5.trans (rSet5.trans h1)
def loopS (tx : Nat → Int) (n : Nat) : Nat → (Nat → Int) → CT → SR3
  | 0, v, T => (1, v, T)
  | d + 1, v, T => if v 6 = 0 then (1, v, T) else if (rStmtF tx n v T).1 ≠ 1 then (0, (rStmtF tx n v T).2) else if (semF tx n (rStmtF tx n v T).2.1).1 ≠ 1 then (0, (semF tx n (rStmtF tx n v T).2.1).2, (rStmtF tx n v T).2.2) else loopS tx n d (fup (semF tx n (rStmtF tx n v T).2.1).2 5 ((semF tx n (rStmtF tx n v T).2.1).2 5 + 1)) (rStmtF tx n v T).2.2
def setupF (tx : Nat → Int) (n : Nat) (v : Nat → Int) (T : CT) : SR3 := loopS tx n 600 (beginF tx n v) T
theorem semF_01 {tx : Nat → Int} {n : Nat} {v : Nat → Int} : (semF tx n v).1 = 1 ∨ (semF tx n v).1 = 0 := by
  unfold semF
  split
  · exact Or.inl rfl
  · exact Or.inr rfl
theorem SetI.s {tx : Nat → Int} {n : Nat} {v : Nat → Int} {T : CT} (h : SetI n v T) : SetI n (semF tx n v).2 T := by
  obtain ⟨h1, h2, h3, h4, h5⟩ := h
  refine ⟨h1.sem, h2, h3, ?_, ?_⟩
  · rw [sem_ne (by omega)]; exact h4
  · rw [sem_ne (by omega)]; exact h5
theorem SetI.p {n : Nat} {v : Nat → Int} {T : CT} {x : Int} (h : SetI n v T) : SetI n (fup v 5 x) T := by
  obtain ⟨h1, h2, h3, h4, h5⟩ := h
  refine ⟨h1.fup (by omega), h2, h3, ?_, ?_⟩
  · rw [fup_ne (by omega)]; exact h4
  · rw [fup_ne (by omega)]; exact h5
theorem loopS_ok {tx : Nat → Int} {n : Nat} : ∀ (d : Nat) (v : Nat → Int) (T : CT), SetI n v T → SetI n (loopS tx n d v T).2.1 (loopS tx n d v T).2.2
  | 0, v, T, h => h
  | d + 1, v, T, h => by
    simp only [loopS]
    split
    · exact h
    · have h2 := rStmtF_ok (tx := tx) h
      split
      · exact h2
      · split
        · exact h2.s
        · exact loopS_ok d _ _ h2.s.p
theorem begin_ok {tx : Nat → Int} {n : Nat} {v : Nat → Int} {T : CT} (hk : TkOK n (beginF tx n v)) (h1 : WfS (tS T)) (h2 : WfP (tP T)) : SetI n (beginF tx n v) T := by
  refine ⟨hk, h1, h2, ?_, ?_⟩
  · unfold beginF
    rw [tok_ne (by omega), fup_ne (by omega), fup_at]
    decide
  · unfold beginF
    rw [tok_ne (by omega), fup_at]
    decide
theorem begin5 {tx : Nat → Int} {n : Nat} {v : Nat → Int} : beginF tx n v 5 = 0 := by
  unfold beginF
  rw [tok_ne (by omega), fup_ne (by omega), fup_ne (by omega), fup_at]

set_option maxRecDepth 100000 in
theorem sp_X2_readSetup {g : GG} {lay : Lay} {M : Mem} {K : KK} {c n : Nat} {tx v : Nat → Int} {z : Nat} {T : CT} (hP : RdL lay c) (hb0 : g.2.1 ≤ c) (hr : Rd tx n v M c) (hC : CtL lay z) (hz0 : g.2.1 ≤ z) (hT : Ct T M z) (hcz : z + 7 ≤ c ∨ c + 3 ≤ z) (hw1 : WfS (tS T)) (hw2 : WfP (tP T)) (k : ∀ M2, FrR c z M M2 → Rd tx n (setupF tx n v T).2.1 M2 c → Ct (setupF tx n v T).2.2 M2 z → K (.inl (some (vI (setupF tx n v T).1))) lay M2) : X g m_X2_readSetup 0 0 lay M 0 [(0, vR c), (1, vR z)] [] K := by
  obtain ⟨U, hU⟩ : ∃ U, U = setupF tx n v T := ⟨_, rfl⟩
  rw [← hU] at k
  unfold setupF at hU
  have loop : ∀ (d : Nat) (v : Nat → Int) (T : CT) (M1 : Mem), v 5 + d = 600 → 0 ≤ v 5 → SetI n v T → FrR c z M M1 → Rd tx n v M1 c → Ct T M1 z → loopS tx n d v T = U → X g m_X2_readSetup 0 0 lay M1 4 [(0, vR c), (1, vR z)] [] K := by
    intro d
    induction d with
    | zero =>
      intro v T M1 h5 h50 hI hF hr hT hu
      simp only [loopS] at hu
      subst hu
      have e6 := hr.at 6 (by decide) (by decide)
      have e5 := hr.at 5 (by decide) (by decide)
      refine x_aload_n (pc := 4) dX2_readSetup_4 rfl rfl ?_
      refine x_geti (pc := 5) fX2_36 dX2_readSetup_5 hP.1 rfl (fun r5a r5b => ?_)
      refine x_if_eq (pc := 8) (t := 51) dX2_readSetup_8 (by decide) ⟨by omega, by omega⟩ (fun c8 => ?_) (fun c8 => ?_)
      · refine x_iconst (pc := 51) dX2_readSetup_51 ?_
        refine x_zret (pc := 52) dX2_readSetup_52 rfl ⟨by omega, by omega⟩ (by decide) (by decide) ?_
        exact k _ hF hr hT
      · refine x_aload_n (pc := 11) dX2_readSetup_11 rfl rfl ?_
        refine x_geti (pc := 12) fX2_60 dX2_readSetup_12 hP.1 rfl (fun r12a r12b => ?_)
        refine x_sipush (pc := 15) dX2_readSetup_15 (by decide) ?_
        refine x_icmp_ge (pc := 18) (t := 51) dX2_readSetup_18 (by decide) ⟨by omega, by omega⟩ ⟨by omega, by omega⟩ (fun c18 => ?_) (fun c18 => ?_)
        · refine x_iconst (pc := 51) dX2_readSetup_51 ?_
          refine x_zret (pc := 52) dX2_readSetup_52 rfl ⟨by omega, by omega⟩ (by decide) (by decide) ?_
          exact k _ hF hr hT
        · exfalso; omega
    | succ d ih =>
      intro v T M1 h5 h50 hI hF hr hT hu
      have e6 := hr.at 6 (by decide) (by decide)
      have e5 := hr.at 5 (by decide) (by decide)
      have hI2 := rStmtF_ok (tx := tx) hI
      have h01 := @rStmtF_01 tx n v T
      have h02 := @semF_01 tx n (rStmtF tx n v T).2.1
      have h55 := @rStmt5 tx n v T
      have h56 : (semF tx n (rStmtF tx n v T).2.1).2 5 = (rStmtF tx n v T).2.1 5 := sem_ne (by omega)
      simp only [loopS] at hu
      generalize hRR : rStmtF tx n v T = RR at *
      generalize hQQ : semF tx n RR.2.1 = QQ at *
      refine x_aload_n (pc := 4) dX2_readSetup_4 rfl rfl ?_
      refine x_geti (pc := 5) fX2_36 dX2_readSetup_5 hP.1 rfl (fun r5a r5b => ?_)
      rw [e6] at r5a r5b ⊢
      refine x_if_eq (pc := 8) (t := 51) dX2_readSetup_8 (by decide) ⟨by omega, by omega⟩ (fun c8 => ?_) (fun c8 => ?_)
      · refine x_iconst (pc := 51) dX2_readSetup_51 ?_
        refine x_zret (pc := 52) dX2_readSetup_52 rfl ⟨by omega, by omega⟩ (by decide) (by decide) ?_
        first
        | (rw [if_pos (by omega)] at hu
           subst hu
           exact k _ hF hr hT)
        | (rw [if_neg (by omega), if_pos (by omega)] at hu
           subst hu
           exact k _ (hF.tr hF2) hr2 hT2)
        | (rw [if_neg (by omega), if_neg (by omega), if_pos (by omega)] at hu
           subst hu
           exact k _ ((hF.tr hF2).tr (FrR.of hF3)) hr3 hT3)
      · refine x_aload_n (pc := 11) dX2_readSetup_11 rfl rfl ?_
        refine x_geti (pc := 12) fX2_60 dX2_readSetup_12 hP.1 rfl (fun r12a r12b => ?_)
        refine x_sipush (pc := 15) dX2_readSetup_15 (by decide) ?_
        refine x_icmp_ge (pc := 18) (t := 51) dX2_readSetup_18 (by decide) ⟨by omega, by omega⟩ ⟨by omega, by omega⟩ (fun c18 => ?_) (fun c18 => ?_)
        · exfalso; omega
        · refine x_aload_n (pc := 21) dX2_readSetup_21 rfl rfl ?_
          refine x_aload_n (pc := 22) dX2_readSetup_22 rfl rfl ?_
          refine x_callV (pc := 23) [_] rfl kX2_82 dX2_readSetup_23 hP.1 rfl rfl (by decide) (Nat.le_of_ble_eq_true rfl) (Nat.le_of_ble_eq_true rfl) (by decide) ?_
          refine sp_X2_readStatement hP hb0 hr hC hz0 hT hcz hI (fun M2 hF2 hr2 hT2 => ?_)
          rw [hRR] at hr2 hT2 ⊢
          refine ⟨_, rfl, ?_⟩
          refine x_if_eq (pc := 26) (t := 36) dX2_readSetup_26 (by decide) ⟨by omega, by omega⟩ (fun c26 => ?_) (fun c26 => ?_)
          · refine x_iconst (pc := 36) dX2_readSetup_36 ?_
            refine x_zret (pc := 37) dX2_readSetup_37 rfl ⟨by omega, by omega⟩ (by decide) (by decide) ?_
            first
            | (rw [if_pos (by omega)] at hu
               subst hu
               exact k _ hF hr hT)
            | (rw [if_neg (by omega), if_pos (by omega)] at hu
               subst hu
               exact k _ (hF.tr hF2) hr2 hT2)
            | (rw [if_neg (by omega), if_neg (by omega), if_pos (by omega)] at hu
               subst hu
               exact k _ ((hF.tr hF2).tr (FrR.of hF3)) hr3 hT3)
          · refine x_aload_n (pc := 29) dX2_readSetup_29 rfl rfl ?_
            refine x_callV (pc := 30) [] rfl kX2_86 dX2_readSetup_30 hP.1 rfl rfl (by decide) (Nat.le_of_ble_eq_true rfl) (Nat.le_of_ble_eq_true rfl) (by decide) ?_
            refine sp_X2_readSemicolon hP hb0 hr2 hI2.1 (fun M3 hF3 hr3 => ?_)
            rw [hQQ] at hr3 ⊢
            have hT3 := hT2.frm hF3 (by omega)
            have hI3 := hI2.s (tx := tx)
            rw [hQQ] at hI3
            refine ⟨_, rfl, ?_⟩
            refine x_if_ne (pc := 33) (t := 38) dX2_readSetup_33 (by decide) ⟨by omega, by omega⟩ (fun c33 => ?_) (fun c33 => ?_)
            · refine x_aload_n (pc := 38) dX2_readSetup_38 rfl rfl ?_
              refine x_dup (pc := 39) dX2_readSetup_39 rfl ?_
              refine x_geti (pc := 40) fX2_60 dX2_readSetup_40 hP.1 rfl (fun r40a r40b => ?_)
              rw [hr3.at 5 (by decide) (by decide)] at r40a r40b ⊢
              refine x_iconst (pc := 43) dX2_readSetup_43 ?_
              refine x_iadd (pc := 44) dX2_readSetup_44 ?_
              refine x_puti (pc := 45) fnX2_60 dX2_readSetup_45 hP.1 (by omega) rfl ⟨by omega, by omega⟩ ?_
              refine x_goto (pc := 48) (t := 4) dX2_readSetup_48 (by decide) ?_
              rw [if_neg (by omega), if_neg (by omega), if_neg (by omega)] at hu
              refine ih _ _ _ ?_ ?_ hI3.p (((hF.tr hF2).tr (FrR.of hF3)).ms (by omega)) (hr3.ms (by decide)) (hT3.gen (fun a j q1 q2 => mset_nea (by omega))) hu
              · rw [fup_at]
                omega
              · rw [fup_at]
                omega
            · refine x_iconst (pc := 36) dX2_readSetup_36 ?_
              refine x_zret (pc := 37) dX2_readSetup_37 rfl ⟨by omega, by omega⟩ (by decide) (by decide) ?_
              first
              | (rw [if_pos (by omega)] at hu
                 subst hu
                 exact k _ hF hr hT)
              | (rw [if_neg (by omega), if_pos (by omega)] at hu
                 subst hu
                 exact k _ (hF.tr hF2) hr2 hT2)
              | (rw [if_neg (by omega), if_neg (by omega), if_pos (by omega)] at hu
                 subst hu
                 exact k _ ((hF.tr hF2).tr (FrR.of hF3)) hr3 hT3)
  refine x_aload_n (pc := 0) dX2_readSetup_0 rfl rfl ?_
  refine x_callV (pc := 1) [] rfl kX2_79 dX2_readSetup_1 hP.1 rfl rfl (by decide) (Nat.le_of_ble_eq_true rfl) (Nat.le_of_ble_eq_true rfl) (by decide) ?_
  refine sp_X2_beginText hP hb0 hr (fun M2 hF2 hr2 hk2 => ?_)
  have hT2 := hT.frm hF2 (by omega)
  refine ⟨_, rfl, ?_⟩
  exact loop 600 _ _ _ (by rw [begin5]; rfl) (by rw [begin5]; decide) (begin_ok hk2 hw1 hw2) (FrR.of hF2) hr2 hT2 hU.symm
