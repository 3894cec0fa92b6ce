/-! Specs of RootDuel: text buffer, load. -/
theorem rSetR {tx : Nat → Int} {n : Nat} {v : Nat → Int} {T : CT} {i : Nat} : (rSetF tx n v T i).2.2.2.2 = T.2.2 := by
  unfold rSetF
  split <;> rfl
theorem rStartR {tx : Nat → Int} {n : Nat} {v : Nat → Int} {T : CT} : (rStartF tx n v T).2.2.2.2 = T.2.2 := by
  unfold rStartF
  split
  · rfl
  · split
    · rfl
    · split <;> rfl
theorem rStmtR {tx : Nat → Int} {n : Nat} {v : Nat → Int} {T : CT} : (rStmtF tx n v T).2.2.2.2 = T.2.2 := by
  unfold rStmtF
  split
  · exact rStartR
  · split
    · rfl
    · split
      · rfl
      · split
        · exact rSetR
        · split
          · exact rSetR
          · exact rSetR.trans rSetR
theorem loopSR {tx : Nat → Int} {n : Nat} : ∀ (d : Nat) (v : Nat → Int) (T : CT), (loopS tx n d v T).2.2.2.2 = T.2.2
  | 0, _, _ => rfl
  | d + 1, v, T => by
    simp only [loopS]
    split
    · rfl
    · split
      · exact rStmtR
      · split
        · exact rStmtR
        · exact (loopSR d _ _).trans rStmtR
theorem tNew_S : WfS (tS tNew) := by
  unfold WfS
  decide
theorem tNew_P : WfP (tP tNew) := fun j => by
  show -30 ≤ (0 : Int) ∧ (0 : Int) ≤ 30 ∧ (5 ≤ j → (0 : Int) = 0)
  omega
theorem setup_wf {tx : Nat → Int} {n : Nat} {v : Nat → Int} (hk : TkOK n (beginF tx n v)) : WfT (setupF tx n v tNew).2.2 := by
  have h1 := loopS_ok (tx := tx) 600 _ _ (begin_ok (T := tNew) hk tNew_S tNew_P)
  have h2 := loopSR (tx := tx) (n := n) 600 (beginF tx n v) tNew
  show WfT (loopS tx n 600 (beginF tx n v) tNew).2.2
  generalize loopS tx n 600 (beginF tx n v) tNew = r at *
  obtain ⟨r1, r2, S, P, rest⟩ := r
  dsimp only at h2
  subst h2
  have w2 := h1.2.1.2.2.1
  refine ⟨h1.2.1, h1.2.2.1, ?_, fun j hj => absurd hj (Nat.not_lt_zero _), fun p => Nat.zero_le _, fun p i hp hi => absurd hi (Nat.not_lt_zero _), Or.inl rfl, Or.inl rfl⟩
  show (0 : Int) ≤ S 2
  have : tS (S, P, tNew.2.2) 2 = S 2 := rfl
  dsimp only at w2
  omega
theorem Rd.z {tx : Nat → Int} {n : Nat} {v : Nat → Int} {M : Mem} {c : Nat} (h : Rd tx n v M c) : Rd tx 0 (fup v 2 0) (mset M c 2 0) c := by
  refine ⟨⟨by decide, fup_at⟩, fun j a b => ?_, fun i hi => absurd hi (Nat.not_lt_zero _)⟩
  by_cases e : j = 2
  · rw [e, fup_at, mset_same]
  · rw [fup_ne e, mset_nei e]
    exact h.2.1 j a b
theorem Rd.cut {tx : Nat → Int} {n m : Nat} {v : Nat → Int} {M : Mem} {c : Nat} (h : Rd tx n v M c) (hm : m ≤ n) : Rd tx m (fup v 2 m) (mset M c 2 m) c := by
  refine ⟨⟨by have := h.1.1; omega, fup_at⟩, fun j a b => ?_, fun i hi => ?_⟩
  · by_cases e : j = 2
    · rw [e, fup_at, mset_same]
    · rw [fup_ne e, mset_nei e]
      exact h.2.1 j a b
  · rw [mset_nea (by omega)]
    exact h.2.2 i (by omega)

set_option maxRecDepth 100000 in
theorem sp_X4_truncateText {g : GG} {lay : Lay} {M : Mem} {K : KK} {b n : Nat} {sv : Nat → Option Nat} {tx v : Nat → Int} {x : Int} (hd : DuL lay b sv) (hb0 : g.2.1 ≤ b) (hr : Rd tx n v M (b + 25)) (hx : i32 x) (kx : ¬ (0 ≤ x ∧ x ≤ n) → ∀ m, lay.2 ≤ m → K eIA (lay.1, m) M) (k : 0 ≤ x → x ≤ n → ∀ M2, Frm (b + 25) (b + 26) M M2 → Rd tx x.toNat (fup v 2 x) M2 (b + 25) → K (oI x) lay M2) : X g m_X4_truncateText 0 0 lay M 0 [(0, vR b), (1, vI x)] [] K := by
  obtain ⟨hx1, hx2⟩ := hx
  have e1 := (hr.at 2 (by decide) (by decide)).trans hr.1.2
  refine x_iload_n (pc := 0) dX4_truncateText_0 rfl rfl ?_
  refine x_if_lt (pc := 1) (t := 15) dX4_truncateText_1 (by decide) ⟨by omega, by omega⟩ (fun c1 => ?_) (fun c1 => ?_)
  · refine x_throw0 (pc := 15) ct67 dX4_truncateText_15 dX4_truncateText_18 dX4_truncateText_19 dX4_truncateText_22 rfl (by decide) (Nat.le_of_ble_eq_true rfl) (Nat.le_of_ble_eq_true rfl) ?_
    exact kx (by omega)
  · refine x_iload_n (pc := 4) dX4_truncateText_4 rfl rfl ?_
    refine x_aload_n (pc := 5) dX4_truncateText_5 rfl rfl ?_
    refine x_getr (pc := 6) (b := b + 25) fX4_33 dX4_truncateText_6 hd.1 rfl rfl ?_
    refine x_geti (pc := 9) fX4_63 dX4_truncateText_9 hd.2.2.2.2.2.1.1 rfl (fun r9a r9b => ?_)
    rw [e1] at r9a r9b ⊢
    refine x_icmp_le (pc := 12) (t := 23) dX4_truncateText_12 (by decide) ⟨by omega, by omega⟩ ⟨by omega, by omega⟩ (fun c12 => ?_) (fun c12 => ?_)
    · refine x_aload_n (pc := 23) dX4_truncateText_23 rfl rfl ?_
      refine x_getr (pc := 24) (b := b + 25) fX4_33 dX4_truncateText_24 hd.1 rfl rfl ?_
      refine x_iload_n (pc := 27) dX4_truncateText_27 rfl rfl ?_
      refine x_puti (pc := 28) fnX4_63 dX4_truncateText_28 hd.2.2.2.2.2.1.1 (by omega) rfl ⟨by omega, by omega⟩ ?_
      refine x_iload_n (pc := 31) dX4_truncateText_31 rfl rfl ?_
      refine x_iret (pc := 32) dX4_truncateText_32 rfl (by decide) (by decide) ?_
      obtain ⟨q, rfl⟩ := Int.eq_ofNat_of_zero_le (show 0 ≤ x by omega)
      rw [Int.toNat_natCast] at k
      exact k (by omega) (by omega) _ (Frm.rf.ms (by omega)) (hr.cut (by omega))
    · refine x_throw0 (pc := 15) ct67 dX4_truncateText_15 dX4_truncateText_18 dX4_truncateText_19 dX4_truncateText_22 rfl (by decide) (Nat.le_of_ble_eq_true rfl) (Nat.le_of_ble_eq_true rfl) ?_
      exact kx (by omega)
set_option maxRecDepth 100000 in
theorem sp_X2_append {g : GG} {lay : Lay} {M : Mem} {K : KK} {c n : Nat} {tx v : Nat → Int} {x : Int} (hP : RdL lay c) (hb0 : g.2.1 ≤ c) (hr : Rd tx n v M c) (hn : n < 600) (hx : -128 ≤ x ∧ x ≤ 127) (k : ∀ M2, Frm c (c + 2) M M2 → Rd (fup tx n x) (n + 1) (fup v 2 (n + 1 : Nat)) M2 c → K (.inl none) lay M2) : X g m_X2_append 0 0 lay M 0 [(0, vR c), (1, vI x)] [] K := by
  have e1 := (hr.at 2 (by decide) (by decide)).trans hr.1.2
  refine x_aload_n (pc := 0) dX2_append_0 rfl rfl ?_
  refine x_geti (pc := 1) fX2_23 dX2_append_1 hP.1 rfl (fun r1a r1b => ?_)
  rw [e1] at r1a r1b ⊢
  refine x_if_lt (pc := 4) (t := 39) dX2_append_4 (by decide) ⟨by omega, by omega⟩ (fun c4 => ?_) (fun c4 => ?_)
  · exfalso; omega
  · refine x_aload_n (pc := 7) dX2_append_7 rfl rfl ?_
    refine x_geti (pc := 8) fX2_23 dX2_append_8 hP.1 rfl (fun r8a r8b => ?_)
    rw [e1] at r8a r8b ⊢
    refine x_aload_n (pc := 11) dX2_append_11 rfl rfl ?_
    refine x_getr (pc := 12) (b := c + 1) fX2_9 dX2_append_12 hP.1 rfl rfl ?_
    refine x_alen (pc := 15) dX2_append_15 hP.2.1 (fun r15a => ?_)
    refine x_icmp_ge (pc := 16) (t := 39) dX2_append_16 (by decide) ⟨by omega, by omega⟩ ⟨by omega, by omega⟩ (fun c16 => ?_) (fun c16 => ?_)
    · exfalso; omega
    · refine x_aload_n (pc := 19) dX2_append_19 rfl rfl ?_
      refine x_getr (pc := 20) (b := c + 1) fX2_9 dX2_append_20 hP.1 rfl rfl ?_
      refine x_aload_n (pc := 23) dX2_append_23 rfl rfl ?_
      refine x_geti (pc := 24) fX2_23 dX2_append_24 hP.1 rfl (fun r24a r24b => ?_)
      rw [e1] at r24a r24b ⊢
      refine x_iload_n (pc := 27) dX2_append_27 rfl rfl ?_
      refine x_bast (pc := 28) dX2_append_28 hP.2.1 (by omega) (by omega) (by omega) ⟨by omega, by omega⟩ ?_
      refine x_aload_n (pc := 29) dX2_append_29 rfl rfl ?_
      refine x_dup (pc := 30) dX2_append_30 rfl ?_
      refine x_geti (pc := 31) fX2_23 dX2_append_31 hP.1 rfl (fun r31a r31b => ?_)
      try simp (disch := omega) only [mset_same, mset_nea, mset_nei, mcopy_nea, mcopy_in, mcopy_out, Int.reduceToNat, Int.toNat_natCast, Nat.zero_add, Nat.sub_zero] at r31a r31b ⊢
      try rw [mset_nea (by omega)]
      rw [e1] at r31a r31b ⊢
      refine x_iconst (pc := 34) dX2_append_34 ?_
      refine x_iadd (pc := 35) dX2_append_35 ?_
      refine x_puti (pc := 36) fnX2_23 dX2_append_36 hP.1 (by omega) rfl ⟨by omega, by omega⟩ ?_
      refine x_vret (pc := 39) dX2_append_39 rfl (by decide) (by decide) ?_
      rw [show ((n : Int) + 1) = ((n + 1 : Nat) : Int) by omega]
      refine k _ ((Frm.rf.ms (by omega)).ms (by omega)) ⟨⟨by omega, fup_at⟩, fun j a b => ?_, fun i hi => ?_⟩
      · by_cases e : j = 2
        · rw [e, fup_at, mset_same]
        · rw [fup_ne e, mset_nei e, mset_nea (by omega)]
          exact hr.2.1 j a b
      · rw [mset_nea (by omega)]
        by_cases e : i = n
        · rw [e, mset_same, fup_at]
        · rw [mset_nei e, fup_ne e]
          exact hr.2.2 i (by omega)
set_option maxRecDepth 100000 in
theorem sp_X2_hasRoom {g : GG} {lay : Lay} {M : Mem} {K : KK} {c n : Nat} {tx v : Nat → Int} {x : Int} (hP : RdL lay c) (hr : Rd tx n v M c) (hx : 0 ≤ x ∧ x ≤ 1000) (k : K (.inl (some (vI (if (n : Int) + x ≤ 600 then 1 else 0)))) lay M) : X g m_X2_hasRoom 0 0 lay M 0 [(0, vR c), (1, vI x)] [] K := by
  have e1 := (hr.at 2 (by decide) (by decide)).trans hr.1.2
  have e2 := hr.1.1
  refine x_aload_n (pc := 0) dX2_hasRoom_0 rfl rfl ?_
  refine x_geti (pc := 1) fX2_23 dX2_hasRoom_1 hP.1 rfl (fun r1a r1b => ?_)
  rw [e1] at r1a r1b ⊢
  refine x_iload_n (pc := 4) dX2_hasRoom_4 rfl rfl ?_
  refine x_iadd (pc := 5) dX2_hasRoom_5 ?_
  refine x_sipush (pc := 6) dX2_hasRoom_6 (by decide) ?_
  refine x_icmp_gt (pc := 9) (t := 16) dX2_hasRoom_9 (by decide) ⟨by omega, by omega⟩ ⟨by omega, by omega⟩ (fun c9 => ?_) (fun c9 => ?_)
  · refine x_iconst (pc := 16) dX2_hasRoom_16 ?_
    refine x_zret (pc := 17) dX2_hasRoom_17 rfl ⟨by omega, by omega⟩ (by decide) (by decide) ?_
    first
    | exact k
    | (rw [if_pos (by omega)] at k; exact k)
    | (rw [if_neg (by omega)] at k; exact k)
  · refine x_iconst (pc := 12) dX2_hasRoom_12 ?_
    refine x_goto (pc := 13) (t := 17) dX2_hasRoom_13 (by decide) ?_
    refine x_zret (pc := 17) dX2_hasRoom_17 rfl ⟨by omega, by omega⟩ (by decide) (by decide) ?_
    first
    | exact k
    | (rw [if_pos (by omega)] at k; exact k)
    | (rw [if_neg (by omega)] at k; exact k)
set_option maxRecDepth 100000 in
theorem sp_X4_load {g : GG} {lay : Lay} {M : Mem} {K : KK} {b n : Nat} {sv : Nat → Option Nat} {tx v : Nat → Int} (hd : DuL lay b sv) (hb0 : g.2.1 ≤ b) (hr : Rd tx n v M (b + 25)) (k : ∀ M2, (∀ a j, ¬ (b ≤ a ∧ a < b + 15) → ¬ a = b + 25 → M2 a j = M a j) → Rd tx 0 (fup (setupF tx n v tNew).2.1 2 0) M2 (b + 25) → ((setupF tx n v tNew).1 = 1 → Ct (setupF tx n v tNew).2.2 M2 (b + 1) ∧ M2 b 8 = 0) → (¬ (setupF tx n v tNew).1 = 1 → (∀ a j, b ≤ a → a < b + 8 → M2 a j = M a j)) → K (oI (if (setupF tx n v tNew).1 = 1 then (setupF tx n v tNew).2.1 5 else -1)) lay M2) : X g m_X4_load 0 0 lay M 0 [(0, vR b)] [] K := by
  have hbk : TkOK n (beginF tx n v) := by
    unfold beginF
    refine tokF_ok _ _ _ ?_
    rw [fup_ne (by omega), fup_ne (by omega), fup_ne (by omega), fup_at]
    omega
  have hWf := setup_wf (tx := tx) (v := v) hbk
  have h5 : 0 ≤ (setupF tx n v tNew).1 ∧ (setupF tx n v tNew).1 ≤ 1 := by
    unfold setupF
    have : ∀ d v T, 0 ≤ (loopS tx n d v T).1 ∧ (loopS tx n d v T).1 ≤ 1 := by
      intro d
      induction d with
      | zero => intro v T; simp [loopS]
      | succ d ih =>
        intro v T
        simp only [loopS]
        repeat' split
        all_goals first | exact ih _ _ | (dsimp only; omega)
    exact this _ _ _
  generalize hU : setupF tx n v tNew = U at *
  refine x_aload_n (pc := 0) dX4_load_0 rfl rfl ?_
  refine x_getr (pc := 1) (b := b + 8) fX4_16 dX4_load_1 hd.1 rfl rfl ?_
  refine x_callV (pc := 4) [] rfl kX4_70 dX4_load_4 hd.2.2.1.1 rfl rfl (by decide) (Nat.le_of_ble_eq_true rfl) (Nat.le_of_ble_eq_true rfl) (by decide) ?_
  refine sp_X0_begin hd.2.2.1 (by omega) (fun M2 hF2 hT2 => ?_)
  refine ⟨_, rfl, ?_⟩
  refine x_aload_n (pc := 7) dX4_load_7 rfl rfl ?_
  refine x_getr (pc := 8) (b := b + 25) fX4_33 dX4_load_8 hd.1 rfl rfl ?_
  refine x_aload_n (pc := 11) dX4_load_11 rfl rfl ?_
  refine x_getr (pc := 12) (b := b + 8) fX4_16 dX4_load_12 hd.1 rfl rfl ?_
  refine x_callV (pc := 15) [_] rfl kX4_73 dX4_load_15 hd.2.2.2.2.2.1.1 rfl rfl (by decide) (Nat.le_of_ble_eq_true rfl) (Nat.le_of_ble_eq_true rfl) (by decide) ?_
  refine sp_X2_readSetup hd.2.2.2.2.2.1 (by omega) (hr.fr hF2 (by omega)) hd.2.2.1 (by omega) hT2 (by omega) tNew_S tNew_P (fun M3 hF3 hr3 hT3 => ?_)
  rw [hU] at hr3 hT3 ⊢
  refine ⟨_, rfl, ?_⟩
  refine x_istore_n (pc := 18) dX4_load_18 rfl (by decide) (L' := [(1, _), (0, _)]) rfl ?_
  refine x_aload_n (pc := 19) dX4_load_19 rfl rfl ?_
  refine x_getr (pc := 20) (b := b + 25) fX4_33 dX4_load_20 hd.1 rfl rfl ?_
  refine x_iconst (pc := 23) dX4_load_23 ?_
  refine x_puti (pc := 24) fnX4_63 dX4_load_24 hd.2.2.2.2.2.1.1 (by omega) rfl ⟨by omega, by omega⟩ ?_
  refine x_iload_n (pc := 27) dX4_load_27 rfl rfl ?_
  refine x_if_ne (pc := 28) (t := 33) dX4_load_28 (by decide) ⟨by omega, by omega⟩ (fun c28 => ?_) (fun c28 => ?_)
  · refine x_aload_n (pc := 33) dX4_load_33 rfl rfl ?_
    refine x_getr (pc := 34) (b := b + 1) fX4_10 dX4_load_34 hd.1 rfl rfl ?_
    refine x_aload_n (pc := 37) dX4_load_37 rfl rfl ?_
    refine x_getr (pc := 38) (b := b + 8) fX4_16 dX4_load_38 hd.1 rfl rfl ?_
    refine x_callV (pc := 41) [_] rfl kX4_77 dX4_load_41 hd.2.1.1 rfl rfl (by decide) (Nat.le_of_ble_eq_true rfl) (Nat.le_of_ble_eq_true rfl) (by decide) ?_
    have hT4 : Ct U.2.2 (mset M3 (b + 25) 2 0) (b + 8) := hT3.gen (fun a j q1 q2 => mset_nea (by omega))
    refine sp_X0_copyFrom hd.2.1 hd.2.2.1 (by omega) (by omega) hT4 hWf (fun M5 hF5 hT5 => ?_)
    have hr5 : Rd tx 0 (fup U.2.1 2 0) M5 (b + 25) := hr3.z.fr hF5 (by omega)
    refine ⟨_, rfl, ?_⟩
    refine x_aload_n (pc := 44) dX4_load_44 rfl rfl ?_
    refine x_iconst (pc := 45) dX4_load_45 ?_
    refine x_puti (pc := 46) fnX4_81 dX4_load_46 hd.1 (by omega) rfl ⟨by omega, by omega⟩ ?_
    refine x_aload_n (pc := 49) dX4_load_49 rfl rfl ?_
    refine x_getr (pc := 50) (b := b + 25) fX4_33 dX4_load_50 hd.1 rfl rfl ?_
    refine x_geti (pc := 53) fX4_84 dX4_load_53 hd.2.2.2.2.2.1.1 rfl (fun r53a r53b => ?_)
    try simp (disch := omega) only [mset_same, mset_nea, mset_nei, mcopy_nea, mcopy_in, mcopy_out, Int.reduceToNat, Int.toNat_natCast, Nat.zero_add, Nat.sub_zero] at r53a r53b ⊢
    rw [hr5.at 5 (by decide) (by decide), fup_ne (by omega)]
    refine x_iret (pc := 56) dX4_load_56 rfl (by decide) (by decide) ?_
    rw [if_pos (by omega)] at k
    refine k _ (fun a j q1 q2 => ?_) (hr5.fr (lo := b) (hi := b + 1) (Frm.rf.ms (by omega)) (by omega)) (fun _ => ⟨hT5.gen (fun a j q1 q2 => mset_nea (by omega)), mset_same⟩) (fun z => absurd (by omega) z)
    rw [mset_nea (by omega), hF5 _ _ (by omega), mset_nea q2, hF3 _ _ q2 (by omega), hF2 _ _ (by omega)]
  · refine x_iconst (pc := 31) dX4_load_31 ?_
    refine x_iret (pc := 32) dX4_load_32 rfl (by decide) (by decide) ?_
    rw [if_neg (by omega)] at k
    refine k _ (fun a j q1 q2 => ?_) hr3.z (fun z => absurd z (by omega)) (fun _ a j q1 q2 => ?_)
    · rw [mset_nea q2, hF3 _ _ q2 (by omega), hF2 _ _ (by omega)]
    · rw [mset_nea (by omega), hF3 _ _ (by omega) (by omega), hF2 _ _ (by omega)]
