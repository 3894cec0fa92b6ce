/-! The reference: changes of sign, roots counted. -/
def mSg (s : RS) (x : Int) (p : Nat) (y : Int) : Nat → Int := fun q => if y = 1 then sgnUp (s.2.1 q) (s.2.2 q) x p else sg (hor x (fun i => s.2.1 q i * 2 ^ (p * (s.2.2 q - i))) (s.2.2 q) (s.2.2 q))
def mCh (s : RS) (x : Int) (p : Nat) (y : Int) : Int := (chZ (mSg s x p y) s.1).1
def eSg (s : RS) (y : Int) : Nat → Int := fun q => sg (s.2.1 q (s.2.2 q)) * (if y = 0 ∧ s.2.2 q % 2 = 1 then -1 else 1)
def endF (s : RS) (y : Int) : Int := (chZ (eSg s y) s.1).1
def mAll (s : RS) : Int := if s.1 = 0 then -1 else endF s 0 - endF s 1
def mBet (s : RS) (a b : Int) : Int := if s.1 = 0 then -1 else mCh s a 0 1 - mCh s b 0 1
theorem upS_3 (x : Int) (d : Nat) : ∀ (k low : Nat) (w : Nat → Int), upS x d k low w = 1 ∨ upS x d k low w = -1 ∨ upS x d k low w = 0
  | 0, _, _ => Or.inr (Or.inr rfl)
  | k + 1, low, w => by
    simp only [upS]
    split
    · exact sg3
    · exact upS_3 x d k _ _
theorem mSg_3 (s : RS) (x : Int) (p : Nat) (y : Int) (q : Nat) : mSg s x p y q = 1 ∨ mSg s x p y q = -1 ∨ mSg s x p y q = 0 := by
  unfold mSg
  split
  · exact upS_3 ..
  · exact sg3
theorem chZ_3 {s : Nat → Int} (h : ∀ q, s q = 1 ∨ s q = -1 ∨ s q = 0) : ∀ n : Nat, (0 ≤ (chZ s n).1 ∧ (chZ s n).1 ≤ n) ∧ ((chZ s n).2 = 1 ∨ (chZ s n).2 = -1 ∨ (chZ s n).2 = 0)
  | 0 => by simp [chZ]
  | n + 1 => by
    have h1 := chZ_3 h n
    have h2 := h n
    simp only [chZ]
    split
    · dsimp only
      refine ⟨?_, h2⟩
      split <;> omega
    · omega
theorem chZ_step {s : Nat → Int} {n : Nat} {c l : Int} (h : chZ s n = (c, l)) (h1 : s n = 1 ∨ s n = -1 ∨ s n = 0) (h2 : l = 1 ∨ l = -1 ∨ l = 0) : chZ s (n + 1) = (c + (if s n * l < 0 then 1 else 0), if s n = 0 then l else s n) := by
  simp only [chZ]
  rw [h]
  rcases h1 with e | e | e <;> rcases h2 with rfl | rfl | rfl <;> simp [e]
theorem eSg_3 (s : RS) (y : Int) (q : Nat) : eSg s y q = 1 ∨ eSg s y q = -1 ∨ eSg s y q = 0 := by
  have := sg3 (x := s.2.1 q (s.2.2 q))
  unfold eSg
  split <;> omega

set_option maxRecDepth 100000 in
theorem sp_X5_changesAt {g : GG} {lay : Lay} {M : Mem} {K : KK} {d : Nat} {p9 : Nat} {x y9 : Int} {s : RS} (hd : MoL lay d) (hb0 : g.2.1 ≤ d) (hR : Mr s M d) (hW : WfM s) (hx : -2048 ≤ x ∧ x ≤ 2048) (hp9 : p9 ≤ 6) (hy9 : y9 = 0 ∨ y9 = 1) (k : ∀ M2, Frm (d + 7) (d + 8) M M2 → Mr s M2 d → K (.inl (some (vI (mCh s x p9 y9)))) lay M2) : X g m_X5_changesAt 0 0 lay M 0 [(0, vR d), (1, vI x), (2, vI p9), (3, vI y9)] [] K := by
  have h5 := hW.1
  unfold mCh at k
  have loop : ∀ (c j : Nat) (z a l : Int) (M1 : Mem), j + c = s.1 → z = j → Frm (d + 7) (d + 8) M M1 → Mr s M1 d → chZ (mSg s x p9 y9) j = (a, l) → X g m_X5_changesAt 0 0 lay M1 9 [(6, vI z), (5, vI a), (4, vI l), (0, vR d), (1, vI x), (2, vI p9), (3, vI y9)] [] K := by
    intro c
    induction c with
    | zero =>
      intro j z a l M1 hj hz hF hR1 hc
      have h9 : M1 d 9 = s.1 := hR1.elim (fun _ h => h.2.1)
      refine x_iload (pc := 9) dX5_changesAt_9 rfl ?_
      refine x_aload_n (pc := 11) dX5_changesAt_11 rfl rfl ?_
      refine x_geti (pc := 12) fX5_106 dX5_changesAt_12 hd.1 rfl (fun r12a r12b => ?_)
      rw [h9] at r12a r12b ⊢
      refine x_icmp_ge (pc := 15) (t := 67) dX5_changesAt_15 (by decide) ⟨by omega, by omega⟩ ⟨by omega, by omega⟩ (fun c15 => ?_) (fun c15 => ?_)
      · refine x_iload (pc := 67) dX5_changesAt_67 rfl ?_
        refine x_iret (pc := 69) dX5_changesAt_69 rfl (by decide) (by decide) ?_
        have k9 := k M1 hF hR1
        rw [show s.1 = j by omega, hc] at k9
        exact k9
      · exfalso; omega
    | succ c ih =>
      intro j z a l M1 hj hz hF hR1 hc
      have h9 : M1 d 9 = s.1 := hR1.elim (fun _ h => h.2.1)
      have h3 := chZ_3 (mSg_3 s x p9 y9) j
      have h4 := mSg_3 s x p9 y9 j
      rw [hc] at h3
      dsimp only at h3
      have h7 := chZ_step hc h4 h3.2
      have h8 : (mSg s x p9 y9 j * l < 0) ∨ 0 ≤ mSg s x p9 y9 j * l := by omega
      have h6 := mulb (a := mSg s x p9 y9 j) (b := l) (A := 1) (B := 1) (by omega) (by omega) (by omega) (by omega)
      obtain ⟨u, hu⟩ : ∃ u, u = mSg s x p9 y9 j := ⟨_, rfl⟩
      rw [← hu] at h4 h6 h7 h8
      refine x_iload (pc := 9) dX5_changesAt_9 rfl ?_
      refine x_aload_n (pc := 11) dX5_changesAt_11 rfl rfl ?_
      refine x_geti (pc := 12) fX5_106 dX5_changesAt_12 hd.1 rfl (fun r12a r12b => ?_)
      rw [h9] at r12a r12b ⊢
      refine x_icmp_ge (pc := 15) (t := 67) dX5_changesAt_15 (by decide) ⟨by omega, by omega⟩ ⟨by omega, by omega⟩ (fun c15 => ?_) (fun c15 => ?_)
      · exfalso; omega
      · refine x_aload_n (pc := 18) dX5_changesAt_18 rfl rfl ?_
        refine x_iload (pc := 19) dX5_changesAt_19 rfl ?_
        refine x_iload_n (pc := 21) dX5_changesAt_21 rfl rfl ?_
        refine x_iload_n (pc := 22) dX5_changesAt_22 rfl rfl ?_
        refine x_iload_n (pc := 23) dX5_changesAt_23 rfl rfl ?_
        refine x_callV (pc := 24) [_, _, _, _] rfl kX5_118 dX5_changesAt_24 hd.1 rfl rfl (by decide) (Nat.le_of_ble_eq_true rfl) (Nat.le_of_ble_eq_true rfl) (by decide) ?_
        rw [hz]
        refine sp_X5_signAt hd hb0 hR1 hW (by omega) hx hp9 hy9 (fun M2 hF2 hR2 => ?_)
        rw [show (if y9 = 1 then sgnUp (s.2.1 j) (s.2.2 j) x p9 else sg (hor x (fun i => s.2.1 j i * 2 ^ (p9 * (s.2.2 j - i))) (s.2.2 j) (s.2.2 j))) = u from hu.symm]
        refine ⟨_, rfl, ?_⟩
        refine x_istore (pc := 27) dX5_changesAt_27 trivial (by decide) (L' := [(7, _), (6, _), (5, _), (4, _), (0, _), (1, _), (2, _), (3, _)]) rfl ?_
        refine x_iload (pc := 29) dX5_changesAt_29 rfl ?_
        refine x_iload (pc := 31) dX5_changesAt_31 rfl ?_
        refine x_iload (pc := 33) dX5_changesAt_33 rfl ?_
        refine x_imul (pc := 35) dX5_changesAt_35 ?_
        refine x_if_ge (pc := 36) (t := 43) dX5_changesAt_36 (by decide) ⟨by omega, by omega⟩ (fun c36 => ?_) (fun c36 => ?_)
        · refine x_iconst (pc := 43) dX5_changesAt_43 ?_
          refine x_iadd (pc := 44) dX5_changesAt_44 ?_
          refine x_istore (pc := 45) dX5_changesAt_45 trivial (by decide) (L' := [(5, _), (7, _), (6, _), (4, _), (0, _), (1, _), (2, _), (3, _)]) rfl ?_
          refine x_iload (pc := 47) dX5_changesAt_47 rfl ?_
          refine x_if_ne (pc := 49) (t := 57) dX5_changesAt_49 (by decide) ⟨by omega, by omega⟩ (fun c49 => ?_) (fun c49 => ?_)
          · refine x_iload (pc := 57) dX5_changesAt_57 rfl ?_
            refine x_istore (pc := 59) dX5_changesAt_59 trivial (by decide) (L' := [(4, _), (5, _), (7, _), (6, _), (0, _), (1, _), (2, _), (3, _)]) rfl ?_
            refine x_iinc (pc := 61) dX5_changesAt_61 rfl (by decide) (L' := [(6, _), (4, _), (5, _), (7, _), (0, _), (1, _), (2, _), (3, _)]) rfl ?_
            refine x_goto (pc := 64) (t := 9) dX5_changesAt_64 (by decide) ?_
            refine X.loc [0, 2, 1, 4, 5, 6, 7] (L' := [(6, _), (5, _), (4, _), (0, _), (1, _), (2, _), (3, _)]) rfl ?_
            refine ih (j + 1) _ _ _ M2 (by omega) (by omega) (hF.trans hF2) hR2 ?_
            rw [h7]
            first
            | (rw [if_pos (by omega), if_pos (by omega)])
            | (rw [if_pos (by omega), if_neg (by omega)])
            | (rw [if_neg (by omega), if_pos (by omega)])
            | (rw [if_neg (by omega), if_neg (by omega)])
          · refine x_iload (pc := 52) dX5_changesAt_52 rfl ?_
            refine x_goto (pc := 54) (t := 59) dX5_changesAt_54 (by decide) ?_
            refine x_istore (pc := 59) dX5_changesAt_59 trivial (by decide) (L' := [(4, _), (5, _), (7, _), (6, _), (0, _), (1, _), (2, _), (3, _)]) rfl ?_
            refine x_iinc (pc := 61) dX5_changesAt_61 rfl (by decide) (L' := [(6, _), (4, _), (5, _), (7, _), (0, _), (1, _), (2, _), (3, _)]) rfl ?_
            refine x_goto (pc := 64) (t := 9) dX5_changesAt_64 (by decide) ?_
            refine X.loc [0, 2, 1, 4, 5, 6, 7] (L' := [(6, _), (5, _), (4, _), (0, _), (1, _), (2, _), (3, _)]) rfl ?_
            refine ih (j + 1) _ _ _ M2 (by omega) (by omega) (hF.trans hF2) hR2 ?_
            rw [h7]
            first
            | (rw [if_pos (by omega), if_pos (by omega)])
            | (rw [if_pos (by omega), if_neg (by omega)])
            | (rw [if_neg (by omega), if_pos (by omega)])
            | (rw [if_neg (by omega), if_neg (by omega)])
        · refine x_iconst (pc := 39) dX5_changesAt_39 ?_
          refine x_goto (pc := 40) (t := 44) dX5_changesAt_40 (by decide) ?_
          refine x_iadd (pc := 44) dX5_changesAt_44 ?_
          refine x_istore (pc := 45) dX5_changesAt_45 trivial (by decide) (L' := [(5, _), (7, _), (6, _), (4, _), (0, _), (1, _), (2, _), (3, _)]) rfl ?_
          refine x_iload (pc := 47) dX5_changesAt_47 rfl ?_
          refine x_if_ne (pc := 49) (t := 57) dX5_changesAt_49 (by decide) ⟨by omega, by omega⟩ (fun c49 => ?_) (fun c49 => ?_)
          · refine x_iload (pc := 57) dX5_changesAt_57 rfl ?_
            refine x_istore (pc := 59) dX5_changesAt_59 trivial (by decide) (L' := [(4, _), (5, _), (7, _), (6, _), (0, _), (1, _), (2, _), (3, _)]) rfl ?_
            refine x_iinc (pc := 61) dX5_changesAt_61 rfl (by decide) (L' := [(6, _), (4, _), (5, _), (7, _), (0, _), (1, _), (2, _), (3, _)]) rfl ?_
            refine x_goto (pc := 64) (t := 9) dX5_changesAt_64 (by decide) ?_
            refine X.loc [0, 2, 1, 4, 5, 6, 7] (L' := [(6, _), (5, _), (4, _), (0, _), (1, _), (2, _), (3, _)]) rfl ?_
            refine ih (j + 1) _ _ _ M2 (by omega) (by omega) (hF.trans hF2) hR2 ?_
            rw [h7]
            first
            | (rw [if_pos (by omega), if_pos (by omega)])
            | (rw [if_pos (by omega), if_neg (by omega)])
            | (rw [if_neg (by omega), if_pos (by omega)])
            | (rw [if_neg (by omega), if_neg (by omega)])
          · refine x_iload (pc := 52) dX5_changesAt_52 rfl ?_
            refine x_goto (pc := 54) (t := 59) dX5_changesAt_54 (by decide) ?_
            refine x_istore (pc := 59) dX5_changesAt_59 trivial (by decide) (L' := [(4, _), (5, _), (7, _), (6, _), (0, _), (1, _), (2, _), (3, _)]) rfl ?_
            refine x_iinc (pc := 61) dX5_changesAt_61 rfl (by decide) (L' := [(6, _), (4, _), (5, _), (7, _), (0, _), (1, _), (2, _), (3, _)]) rfl ?_
            refine x_goto (pc := 64) (t := 9) dX5_changesAt_64 (by decide) ?_
            refine X.loc [0, 2, 1, 4, 5, 6, 7] (L' := [(6, _), (5, _), (4, _), (0, _), (1, _), (2, _), (3, _)]) rfl ?_
            refine ih (j + 1) _ _ _ M2 (by omega) (by omega) (hF.trans hF2) hR2 ?_
            rw [h7]
            first
            | (rw [if_pos (by omega), if_pos (by omega)])
            | (rw [if_pos (by omega), if_neg (by omega)])
            | (rw [if_neg (by omega), if_pos (by omega)])
            | (rw [if_neg (by omega), if_neg (by omega)])
  refine x_iconst (pc := 0) dX5_changesAt_0 ?_
  refine x_istore (pc := 1) dX5_changesAt_1 trivial (by decide) (L' := [(4, _), (0, _), (1, _), (2, _), (3, _)]) rfl ?_
  refine x_iconst (pc := 3) dX5_changesAt_3 ?_
  refine x_istore (pc := 4) dX5_changesAt_4 trivial (by decide) (L' := [(5, _), (4, _), (0, _), (1, _), (2, _), (3, _)]) rfl ?_
  refine x_iconst (pc := 6) dX5_changesAt_6 ?_
  refine x_istore (pc := 7) dX5_changesAt_7 trivial (by decide) (L' := [(6, _), (5, _), (4, _), (0, _), (1, _), (2, _), (3, _)]) rfl ?_
  refine X.loc [0, 1, 2, 3, 4, 5, 6] (L' := [(6, _), (5, _), (4, _), (0, _), (1, _), (2, _), (3, _)]) rfl ?_
  exact loop s.1 0 _ _ _ M (by omega) rfl Frm.rf hR rfl
set_option maxRecDepth 100000 in
theorem sp_X5_endChanges {g : GG} {lay : Lay} {M : Mem} {K : KK} {d : Nat} {y9 : Int} {s : RS} (hd : MoL lay d) (hb0 : g.2.1 ≤ d) (hR : Mr s M d) (hW : WfM s) (hy9 : y9 = 0 ∨ y9 = 1) (k : K (.inl (some (vI (endF s y9)))) lay M) : X g m_X5_endChanges 0 0 lay M 0 [(0, vR d), (1, vI y9)] [] K := by
  have h5 := hW.1
  obtain ⟨N, hB, h9, hrow⟩ := hR
  unfold endF at k
  have loop : ∀ (c j : Nat) (z a l : Int), j + c = s.1 → z = j → chZ (eSg s y9) j = (a, l) → X g m_X5_endChanges 0 0 lay M 7 [(4, vI z), (3, vI a), (2, vI l), (0, vR d), (1, vI y9)] [] K := by
    intro c
    induction c with
    | zero =>
      intro j z a l hj hz hc
      refine x_iload (pc := 7) dX5_endChanges_7 rfl ?_
      refine x_aload_n (pc := 9) dX5_endChanges_9 rfl rfl ?_
      refine x_geti (pc := 10) fX5_106 dX5_endChanges_10 hd.1 rfl (fun r10a r10b => ?_)
      rw [h9] at r10a r10b ⊢
      refine x_icmp_ge (pc := 13) (t := 81) dX5_endChanges_13 (by decide) ⟨by omega, by omega⟩ ⟨by omega, by omega⟩ (fun c13 => ?_) (fun c13 => ?_)
      · refine x_iload_n (pc := 81) dX5_endChanges_81 rfl rfl ?_
        refine x_iret (pc := 82) dX5_endChanges_82 rfl (by decide) (by decide) ?_
        rw [show s.1 = j by omega, hc] at k
        exact k
      · exfalso; omega
    | succ c ih =>
      intro j z a l hj hz hc
      subst hz
      have h3 := chZ_3 (eSg_3 s y9) j
      have h4 := eSg_3 s y9 j
      rw [hc] at h3
      dsimp only at h3
      have h7 := chZ_step hc h4 h3.2
      have h6 := mulb (a := eSg s y9 j) (b := l) (A := 1) (B := 1) (by omega) (by omega) (by omega) (by omega)
      obtain ⟨g4, gne, -⟩ := hW.2 j (by omega)
      obtain ⟨g1, g2⟩ := hrow j (by omega)
      have hsl := hB (9 * j + s.2.2 j) (by omega)
      rw [g2 _ (by omega)] at hsl
      have s3 := sg3 (x := s.2.1 j (s.2.2 j))
      have s0 : sg (s.2.1 j (s.2.2 j)) ≠ 0 := fun z => gne (sg_0.mp z)
      have hu : eSg s y9 j = sg (s.2.1 j (s.2.2 j)) * (if y9 = 0 ∧ s.2.2 j % 2 = 1 then -1 else 1) := rfl
      obtain ⟨u, hu1⟩ : ∃ u, u = eSg s y9 j := ⟨_, rfl⟩
      rw [← hu1] at h4 h6 h7 hu
      have une : u ≠ 0 := by rw [hu]; split <;> omega
      have fin : ∀ v, v = u → X g m_X5_endChanges 0 0 lay M 55 [(4, vI (j : Int)), (3, vI a), (2, vI l), (0, vR d), (1, vI y9)] [vI v] K := by
        intro v hv
        subst hv
        refine x_istore (pc := 55) dX5_endChanges_55 trivial (by decide) (L' := [(5, _), (4, _), (3, _), (2, _), (0, _), (1, _)]) rfl ?_
        refine x_iload_n (pc := 57) dX5_endChanges_57 rfl rfl ?_
        refine x_iload (pc := 58) dX5_endChanges_58 rfl ?_
        refine x_iload_n (pc := 60) dX5_endChanges_60 rfl rfl ?_
        refine x_imul (pc := 61) dX5_endChanges_61 ?_
        refine x_if_ge (pc := 62) (t := 69) dX5_endChanges_62 (by decide) ⟨by omega, by omega⟩ (fun c62 => ?_) (fun c62 => ?_)
        · refine x_iconst (pc := 69) dX5_endChanges_69 ?_
          refine x_iadd (pc := 70) dX5_endChanges_70 ?_
          refine x_istore_n (pc := 71) dX5_endChanges_71 rfl (by decide) (L' := [(3, _), (5, _), (4, _), (2, _), (0, _), (1, _)]) rfl ?_
          refine x_iload (pc := 72) dX5_endChanges_72 rfl ?_
          refine x_istore_n (pc := 74) dX5_endChanges_74 rfl (by decide) (L' := [(2, _), (3, _), (5, _), (4, _), (0, _), (1, _)]) rfl ?_
          refine x_iinc (pc := 75) dX5_endChanges_75 rfl (by decide) (L' := [(4, _), (2, _), (3, _), (5, _), (0, _), (1, _)]) rfl ?_
          refine x_goto (pc := 78) (t := 7) dX5_endChanges_78 (by decide) ?_
          refine X.loc [0, 2, 1, 4, 5] (L' := [(4, _), (3, _), (2, _), (0, _), (1, _)]) rfl ?_
          refine ih (j + 1) _ _ _ (by omega) (by omega) ?_
          rw [h7, if_neg une]
          first
          | (rw [if_pos (by omega)])
          | (rw [if_neg (by omega)])
        · refine x_iconst (pc := 65) dX5_endChanges_65 ?_
          refine x_goto (pc := 66) (t := 70) dX5_endChanges_66 (by decide) ?_
          refine x_iadd (pc := 70) dX5_endChanges_70 ?_
          refine x_istore_n (pc := 71) dX5_endChanges_71 rfl (by decide) (L' := [(3, _), (5, _), (4, _), (2, _), (0, _), (1, _)]) rfl ?_
          refine x_iload (pc := 72) dX5_endChanges_72 rfl ?_
          refine x_istore_n (pc := 74) dX5_endChanges_74 rfl (by decide) (L' := [(2, _), (3, _), (5, _), (4, _), (0, _), (1, _)]) rfl ?_
          refine x_iinc (pc := 75) dX5_endChanges_75 rfl (by decide) (L' := [(4, _), (2, _), (3, _), (5, _), (0, _), (1, _)]) rfl ?_
          refine x_goto (pc := 78) (t := 7) dX5_endChanges_78 (by decide) ?_
          refine X.loc [0, 2, 1, 4, 5] (L' := [(4, _), (3, _), (2, _), (0, _), (1, _)]) rfl ?_
          refine ih (j + 1) _ _ _ (by omega) (by omega) ?_
          rw [h7, if_neg une]
          first
          | (rw [if_pos (by omega)])
          | (rw [if_neg (by omega)])
      refine x_iload (pc := 7) dX5_endChanges_7 rfl ?_
      refine x_aload_n (pc := 9) dX5_endChanges_9 rfl rfl ?_
      refine x_geti (pc := 10) fX5_106 dX5_endChanges_10 hd.1 rfl (fun r10a r10b => ?_)
      rw [h9] at r10a r10b ⊢
      refine x_icmp_ge (pc := 13) (t := 81) dX5_endChanges_13 (by decide) ⟨by omega, by omega⟩ ⟨by omega, by omega⟩ (fun c13 => ?_) (fun c13 => ?_)
      · exfalso; omega
      · refine x_aload_n (pc := 16) dX5_endChanges_16 rfl rfl ?_
        refine x_iload (pc := 17) dX5_endChanges_17 rfl ?_
        refine x_aload_n (pc := 19) dX5_endChanges_19 rfl rfl ?_
        refine x_getr (pc := 20) (b := d + 8) fX5_32 dX5_endChanges_20 hd.1 rfl rfl ?_
        refine x_iload (pc := 23) dX5_endChanges_23 rfl ?_
        refine x_iald (pc := 25) dX5_endChanges_25 hd.2.2.2.2.2.2.2.2.1 (by omega) (by omega) (fun r25a r25b => ?_)
        rw [Int.toNat_natCast, g1] at r25a r25b ⊢
        refine x_callS (pc := 26) [_, _] rfl kX5_87 dX5_endChanges_26 rfl (by decide) (Nat.le_of_ble_eq_true rfl) (Nat.le_of_ble_eq_true rfl) (by decide) ?_
        refine sp_X5_at ?_
        refine ⟨_, rfl, ?_⟩
        rw [show 9 * (j : Int) + ((s.2.2 j : Nat) : Int) = ((9 * j + s.2.2 j : Nat) : Int) by omega]
        refine x_callV (pc := 29) [_] rfl kX5_73 dX5_endChanges_29 hd.1 rfl rfl (by decide) (Nat.le_of_ble_eq_true rfl) (Nat.le_of_ble_eq_true rfl) (by decide) ?_
        refine sp_X5_signOf hd hb0 hsl (by omega) ?_
        refine ⟨_, rfl, ?_⟩
        refine x_iload_n (pc := 32) dX5_endChanges_32 rfl rfl ?_
        refine x_if_ne (pc := 33) (t := 53) dX5_endChanges_33 (by decide) ⟨by omega, by omega⟩ (fun c33 => ?_) (fun c33 => ?_)
        · refine x_iconst (pc := 53) dX5_endChanges_53 ?_
          refine x_imul (pc := 54) dX5_endChanges_54 ?_
          refine X.loc [0, 1, 2, 3, 4] (L' := [(4, _), (3, _), (2, _), (0, _), (1, _)]) rfl ?_
          refine fin _ ?_
          rw [hu]
          first
          | rw [if_pos (by omega)]
          | rw [if_neg (by omega)]
        · refine x_aload_n (pc := 36) dX5_endChanges_36 rfl rfl ?_
          refine x_getr (pc := 37) (b := d + 8) fX5_32 dX5_endChanges_37 hd.1 rfl rfl ?_
          refine x_iload (pc := 40) dX5_endChanges_40 rfl ?_
          refine x_iald (pc := 42) dX5_endChanges_42 hd.2.2.2.2.2.2.2.2.1 (by omega) (by omega) (fun r42a r42b => ?_)
          rw [Int.toNat_natCast, g1] at r42a r42b ⊢
          refine x_iconst (pc := 43) dX5_endChanges_43 ?_
          refine x_irem (pc := 44) dX5_endChanges_44 ⟨by omega, by omega⟩ ⟨by omega, by omega⟩ (by omega) ?_
          rw [tmod2]
          refine x_iconst (pc := 45) dX5_endChanges_45 ?_
          refine x_icmp_ne (pc := 46) (t := 53) dX5_endChanges_46 (by decide) ⟨by omega, by omega⟩ ⟨by omega, by omega⟩ (fun c46 => ?_) (fun c46 => ?_)
          · refine x_iconst (pc := 53) dX5_endChanges_53 ?_
            refine x_imul (pc := 54) dX5_endChanges_54 ?_
            refine X.loc [0, 1, 2, 3, 4] (L' := [(4, _), (3, _), (2, _), (0, _), (1, _)]) rfl ?_
            refine fin _ ?_
            rw [hu]
            first
            | rw [if_pos (by omega)]
            | rw [if_neg (by omega)]
          · refine x_iconst (pc := 49) dX5_endChanges_49 ?_
            refine x_goto (pc := 50) (t := 54) dX5_endChanges_50 (by decide) ?_
            refine x_imul (pc := 54) dX5_endChanges_54 ?_
            refine X.loc [0, 1, 2, 3, 4] (L' := [(4, _), (3, _), (2, _), (0, _), (1, _)]) rfl ?_
            refine fin _ ?_
            rw [hu]
            first
            | rw [if_pos (by omega)]
            | rw [if_neg (by omega)]
  refine x_iconst (pc := 0) dX5_endChanges_0 ?_
  refine x_istore_n (pc := 1) dX5_endChanges_1 rfl (by decide) (L' := [(2, _), (0, _), (1, _)]) rfl ?_
  refine x_iconst (pc := 2) dX5_endChanges_2 ?_
  refine x_istore_n (pc := 3) dX5_endChanges_3 rfl (by decide) (L' := [(3, _), (2, _), (0, _), (1, _)]) rfl ?_
  refine x_iconst (pc := 4) dX5_endChanges_4 ?_
  refine x_istore (pc := 5) dX5_endChanges_5 trivial (by decide) (L' := [(4, _), (3, _), (2, _), (0, _), (1, _)]) rfl ?_
  refine X.loc [0, 1, 2, 3, 4] (L' := [(4, _), (3, _), (2, _), (0, _), (1, _)]) rfl ?_
  exact loop s.1 0 _ _ _ (by omega) rfl rfl
set_option maxRecDepth 100000 in
theorem sp_X5_rootsFrom {g : GG} {lay : Lay} {M : Mem} {K : KK} {d : Nat} {x y : Int} {s : RS} (hd : MoL lay d) (hb0 : g.2.1 ≤ d) (hR : Mr s M d) (hW : WfM s) (hx : -20 ≤ x ∧ x ≤ 20) (hy : -20 ≤ y ∧ y ≤ 20) (k : ∀ M2, Frm (d + 7) (d + 8) M M2 → Mr s M2 d → K (.inl (some (vI (mCh s x 0 1 - mCh s y 0 1)))) lay M2) : X g m_X5_rootsFrom 0 0 lay M 0 [(0, vR d), (1, vI x), (2, vI y)] [] K := by
  refine x_aload_n (pc := 0) dX5_rootsFrom_0 rfl rfl ?_
  refine x_iload_n (pc := 1) dX5_rootsFrom_1 rfl rfl ?_
  refine x_iconst (pc := 2) dX5_rootsFrom_2 ?_
  refine x_iconst (pc := 3) dX5_rootsFrom_3 ?_
  refine x_callV (pc := 4) [_, _, _] rfl kX5_122 dX5_rootsFrom_4 hd.1 rfl rfl (by decide) (Nat.le_of_ble_eq_true rfl) (Nat.le_of_ble_eq_true rfl) (by decide) ?_
  refine sp_X5_changesAt (p9 := 0) (y9 := 1) hd hb0 hR hW (by omega) (by omega) (by omega) (fun M2 hF2 hR2 => ?_)
  refine ⟨_, rfl, ?_⟩
  refine x_aload_n (pc := 7) dX5_rootsFrom_7 rfl rfl ?_
  refine x_iload_n (pc := 8) dX5_rootsFrom_8 rfl rfl ?_
  refine x_iconst (pc := 9) dX5_rootsFrom_9 ?_
  refine x_iconst (pc := 10) dX5_rootsFrom_10 ?_
  refine x_callV (pc := 11) [_, _, _] rfl kX5_122 dX5_rootsFrom_11 hd.1 rfl rfl (by decide) (Nat.le_of_ble_eq_true rfl) (Nat.le_of_ble_eq_true rfl) (by decide) ?_
  refine sp_X5_changesAt (p9 := 0) (y9 := 1) hd hb0 hR2 hW (by omega) (by omega) (by omega) (fun M3 hF3 hR3 => ?_)
  refine ⟨_, rfl, ?_⟩
  refine x_isub (pc := 14) dX5_rootsFrom_14 ?_
  refine x_iret (pc := 15) dX5_rootsFrom_15 rfl (by decide) (by decide) ?_
  exact k M3 (hF2.trans hF3) hR3
/-- all rows can be made, and are such that they can be told near a point -/
def GoodM : Prop := ∀ P, WfP P → mRowsOK P ∧ WfM (mRows P)

set_option maxRecDepth 100000 in
theorem sp_X5_rootsOf {g : GG} {lay : Lay} {M : Mem} {K : KK} {d : Nat} {x y : Int} {P : Nat → Int} (hd : MoL lay d) (hb0 : g.2.1 ≤ d) (hB : ∃ N, Bg N M d) (hP : ∀ p, p < 9 → M (d + 1) (11 + p) = P p) (hPw : WfP P) (gM : GoodM) (hx : -20 ≤ x ∧ x ≤ 20) (hy : -20 ≤ y ∧ y ≤ 20) (k : ∀ M2, FrL d M M2 → Mr (mRows P) M2 d → K (.inl (some (vI (mBet (mRows P) x y)))) lay M2) : X g m_X5_rootsOf 0 0 lay M 0 [(0, vR d), (1, vI x), (2, vI y)] [] K := by
  unfold mBet at k
  refine x_aload_n (pc := 0) dX5_rootsOf_0 rfl rfl ?_
  refine x_callV (pc := 1) [] rfl kX5_126 dX5_rootsOf_1 hd.1 rfl rfl (by decide) (Nat.le_of_ble_eq_true rfl) (Nat.le_of_ble_eq_true rfl) (by decide) ?_
  refine sp_X5_laysRows hd hb0 hB hP (fun p _ => by have := hPw p; omega) (gM _ hPw).1 (fun M2 hF2 hR2 => ?_)
  refine ⟨_, rfl, ?_⟩
  refine x_aload_n (pc := 4) dX5_rootsOf_4 rfl rfl ?_
  refine x_geti (pc := 5) fX5_106 dX5_rootsOf_5 hd.1 rfl (fun r5a r5b => ?_)
  have h9 : M2 d 9 = (mRows P).1 := hR2.elim (fun _ h => h.2.1)
  rw [h9] at r5a r5b ⊢
  refine x_if_ne (pc := 8) (t := 15) dX5_rootsOf_8 (by decide) ⟨by omega, by omega⟩ (fun c8 => ?_) (fun c8 => ?_)
  · refine x_aload_n (pc := 15) dX5_rootsOf_15 rfl rfl ?_
    refine x_iload_n (pc := 16) dX5_rootsOf_16 rfl rfl ?_
    refine x_iload_n (pc := 17) dX5_rootsOf_17 rfl rfl ?_
    refine x_callV (pc := 18) [_, _] rfl kX5_129 dX5_rootsOf_18 hd.1 rfl rfl (by decide) (Nat.le_of_ble_eq_true rfl) (Nat.le_of_ble_eq_true rfl) (by decide) ?_
    refine sp_X5_rootsFrom hd hb0 hR2 (gM _ hPw).2 hx hy (fun M3 hF3 hR3 => ?_)
    refine ⟨_, rfl, ?_⟩
    refine x_iret (pc := 21) dX5_rootsOf_21 rfl (by decide) (by decide) ?_
    first
    | (have k9 := k M3 (hF2.fr hF3) hR3
       rw [if_neg (by omega)] at k9
       exact k9)
    | (have k9 := k M2 hF2 hR2
       rw [if_pos (by omega)] at k9
       exact k9)
  · refine x_iconst (pc := 11) dX5_rootsOf_11 ?_
    refine x_goto (pc := 12) (t := 21) dX5_rootsOf_12 (by decide) ?_
    refine x_iret (pc := 21) dX5_rootsOf_21 rfl (by decide) (by decide) ?_
    first
    | (have k9 := k M3 (hF2.fr hF3) hR3
       rw [if_neg (by omega)] at k9
       exact k9)
    | (have k9 := k M2 hF2 hR2
       rw [if_pos (by omega)] at k9
       exact k9)
set_option maxRecDepth 100000 in
theorem sp_X5_rootsInAll {g : GG} {lay : Lay} {M : Mem} {K : KK} {d : Nat} {P : Nat → Int} (hd : MoL lay d) (hb0 : g.2.1 ≤ d) (hB : ∃ N, Bg N M d) (hP : ∀ p, p < 9 → M (d + 1) (11 + p) = P p) (hPw : WfP P) (gM : GoodM) (k : ∀ M2, FrL d M M2 → Mr (mRows P) M2 d → K (.inl (some (vI (mAll (mRows P))))) lay M2) : X g m_X5_rootsInAll 0 0 lay M 0 [(0, vR d)] [] K := by
  unfold mAll at k
  refine x_aload_n (pc := 0) dX5_rootsInAll_0 rfl rfl ?_
  refine x_callV (pc := 1) [] rfl kX5_126 dX5_rootsInAll_1 hd.1 rfl rfl (by decide) (Nat.le_of_ble_eq_true rfl) (Nat.le_of_ble_eq_true rfl) (by decide) ?_
  refine sp_X5_laysRows hd hb0 hB hP (fun p _ => by have := hPw p; omega) (gM _ hPw).1 (fun M2 hF2 hR2 => ?_)
  refine ⟨_, rfl, ?_⟩
  refine x_aload_n (pc := 4) dX5_rootsInAll_4 rfl rfl ?_
  refine x_geti (pc := 5) fX5_106 dX5_rootsInAll_5 hd.1 rfl (fun r5a r5b => ?_)
  have h9 : M2 d 9 = (mRows P).1 := hR2.elim (fun _ h => h.2.1)
  rw [h9] at r5a r5b ⊢
  refine x_if_ne (pc := 8) (t := 15) dX5_rootsInAll_8 (by decide) ⟨by omega, by omega⟩ (fun c8 => ?_) (fun c8 => ?_)
  · refine x_aload_n (pc := 15) dX5_rootsInAll_15 rfl rfl ?_
    refine x_iconst (pc := 16) dX5_rootsInAll_16 ?_
    refine x_callV (pc := 17) [_] rfl kX5_132 dX5_rootsInAll_17 hd.1 rfl rfl (by decide) (Nat.le_of_ble_eq_true rfl) (Nat.le_of_ble_eq_true rfl) (by decide) ?_
    refine sp_X5_endChanges (y9 := 0) hd hb0 hR2 (gM _ hPw).2 (by omega) ?_
    refine ⟨_, rfl, ?_⟩
    refine x_aload_n (pc := 20) dX5_rootsInAll_20 rfl rfl ?_
    refine x_iconst (pc := 21) dX5_rootsInAll_21 ?_
    refine x_callV (pc := 22) [_] rfl kX5_132 dX5_rootsInAll_22 hd.1 rfl rfl (by decide) (Nat.le_of_ble_eq_true rfl) (Nat.le_of_ble_eq_true rfl) (by decide) ?_
    refine sp_X5_endChanges (y9 := 1) hd hb0 hR2 (gM _ hPw).2 (by omega) ?_
    refine ⟨_, rfl, ?_⟩
    refine x_isub (pc := 25) dX5_rootsInAll_25 ?_
    refine x_iret (pc := 26) dX5_rootsInAll_26 rfl (by decide) (by decide) ?_
    have k9 := k M2 hF2 hR2
    first
    | (rw [if_neg (by omega)] at k9
       exact k9)
    | (rw [if_pos (by omega)] at k9
       exact k9)
  · refine x_iconst (pc := 11) dX5_rootsInAll_11 ?_
    refine x_goto (pc := 12) (t := 26) dX5_rootsInAll_12 (by decide) ?_
    refine x_iret (pc := 26) dX5_rootsInAll_26 rfl (by decide) (by decide) ?_
    have k9 := k M2 hF2 hR2
    first
    | (rw [if_neg (by omega)] at k9
       exact k9)
    | (rw [if_pos (by omega)] at k9
       exact k9)
