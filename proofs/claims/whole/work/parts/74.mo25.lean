/-! The reference's reader: tokens. -/
def mk (k : Int) : Int := if k = 3 then 4 else if k = 4 then 3 else k
def NumR (am nb : Int) : Prop := (am = nb ∧ 0 ≤ nb ∧ nb < 1000) ∨ (1000 ≤ am ∧ am ≤ 200000 ∧ nb = 1000)
def seeF (tx : Nat → Int) (n e : Nat) : Int := if e < n then tx e % 256 else -1
def TxR (tx : Nat → Int) (n : Nat) : Prop := ∀ i, i < n → -128 ≤ tx i ∧ tx i ≤ 127
theorem see_k {tx : Nat → Int} {n e : Nat} (h : TxR tx n) : (-1 ≤ seeF tx n e ∧ seeF tx n e ≤ 255) ∧ ((seeF tx n e = 32 ∨ seeF tx n e = 10) ↔ kindF tx n e = 6) ∧ ((97 ≤ seeF tx n e ∧ seeF tx n e ≤ 122) ↔ kindF tx n e = 1) ∧ ((48 ≤ seeF tx n e ∧ seeF tx n e ≤ 57) ↔ kindF tx n e = 2) ∧ (seeF tx n e = -1 ↔ kindF tx n e = 0) ∧ (seeF tx n e = 59 ↔ kindF tx n e = 4) ∧ (seeF tx n e = 45 ↔ kindF tx n e = 3) ∧ (kindF tx n e = 2 → seeF tx n e = tx e) := by
  unfold seeF kindF
  by_cases he : e < n
  · have hr := h e he
    rw [if_pos he, if_neg (by omega)]
    refine ⟨by omega, ?_, ?_, ?_, ?_, ?_, ?_, ?_⟩ <;> (repeat' split) <;> omega
  · rw [if_neg he, if_pos (by omega)]
    omega
def FrG (d : Nat) (M M' : Mem) : Prop := ∀ a j, ¬ (a = d ∧ 13 ≤ j ∧ j ≤ 16) → M' a j = M a j
theorem FrG.rf {d : Nat} {M : Mem} : FrG d M M := fun _ _ _ => rfl
theorem FrG.tr {d : Nat} {M M' M'' : Mem} (h : FrG d M M') (h2 : FrG d M' M'') : FrG d M M'' := fun a j q => (h2 a j q).trans (h a j q)
theorem FrG.ms {d j : Nat} {M M' : Mem} {v : Int} (h : FrG d M M') (hj : 13 ≤ j ∧ j ≤ 16) : FrG d M (mset M' d j v) := fun a i q => by
  rw [mset_ne (by omega)]
  exact h a i q
theorem Tx.g {tx : Nat → Int} {n : Nat} {M M' : Mem} {d : Nat} (h : Tx tx n M d) (h2 : FrG d M M') : Tx tx n M' d := h.z (h2 _ _ (by omega)) (fun j => h2 _ _ (by omega))
theorem kind_lt {tx : Nat → Int} {n e : Nat} (h : kindF tx n e ≠ 0) : e < n := by
  unfold kindF at h
  split at h
  · exact absurd rfl h
  · omega

set_option maxRecDepth 100000 in
theorem sp_X5_see {g : GG} {lay : Lay} {M : Mem} {K : KK} {d : Nat} {tx : Nat → Int} {n e : Nat} (hd : MoL lay d) (hb0 : g.2.1 ≤ d) (hT : Tx tx n M d) (hR : TxR tx n) (hp : M d 13 = e) (k : K (.inl (some (vI (seeF tx n e)))) lay M) : X g m_X5_see 0 0 lay M 0 [(0, vR d)] [] K := by
  obtain ⟨⟨t1, t2⟩, t3⟩ := hT
  unfold seeF at k
  refine x_aload_n (pc := 0) dX5_see_0 rfl rfl ?_
  refine x_geti (pc := 1) fX5_272 dX5_see_1 hd.1 rfl (fun r1a r1b => ?_)
  rw [hp] at r1a r1b ⊢
  refine x_aload_n (pc := 4) dX5_see_4 rfl rfl ?_
  refine x_geti (pc := 5) fX5_269 dX5_see_5 hd.1 rfl (fun r5a r5b => ?_)
  rw [t2] at r5a r5b ⊢
  refine x_icmp_ge (pc := 8) (t := 27) dX5_see_8 (by decide) ⟨by omega, by omega⟩ ⟨by omega, by omega⟩ (fun c8 => ?_) (fun c8 => ?_)
  · refine x_iconst (pc := 27) dX5_see_27 ?_
    refine x_iret (pc := 28) dX5_see_28 rfl (by decide) (by decide) ?_
    first
    | (rw [if_pos (by omega)] at k; exact k)
    | (rw [if_neg (by omega)] at k; exact k)
  · refine x_aload_n (pc := 11) dX5_see_11 rfl rfl ?_
    refine x_getr (pc := 12) (b := d + 9) fX5_35 dX5_see_12 hd.1 rfl rfl ?_
    refine x_aload_n (pc := 15) dX5_see_15 rfl rfl ?_
    refine x_geti (pc := 16) fX5_272 dX5_see_16 hd.1 rfl (fun r16a r16b => ?_)
    rw [hp] at r16a r16b ⊢
    refine x_bald (pc := 19) dX5_see_19 hd.2.2.2.2.2.2.2.2.2.1 (by omega) (by omega) (fun r19a r19b => ?_)
    rw [Int.toNat_natCast, t3 e (by omega)] at r19a r19b ⊢
    refine x_sipush (pc := 20) dX5_see_20 (by decide) ?_
    refine x_iandm (pc := 23) 8 (by omega) rfl dX5_see_23 ?_
    refine x_goto (pc := 24) (t := 28) dX5_see_24 (by decide) ?_
    refine x_iret (pc := 28) dX5_see_28 rfl (by decide) (by decide) ?_
    first
    | (rw [if_pos (by omega)] at k; exact k)
    | (rw [if_neg (by omega)] at k; exact k)
set_option maxRecDepth 100000 in
theorem sp_X5_isSmall {g : GG} {lay : Lay} {M : Mem} {K : KK} {d : Nat} {tx : Nat → Int} {n e : Nat} (hd : MoL lay d) (hb0 : g.2.1 ≤ d) (hT : Tx tx n M d) (hR : TxR tx n) (hp : M d 13 = e) (k : K (.inl (some (vI (if kindF tx n e = 1 then 1 else 0)))) lay M) : X g m_X5_isSmall 0 0 lay M 0 [(0, vR d)] [] K := by
  obtain ⟨q1, q2, q3, q4, -⟩ := see_k (e := e) hR
  refine x_aload_n (pc := 0) dX5_isSmall_0 rfl rfl ?_
  refine x_callV (pc := 1) [] rfl kX5_275 dX5_isSmall_1 hd.1 rfl rfl (by decide) (Nat.le_of_ble_eq_true rfl) (Nat.le_of_ble_eq_true rfl) (by decide) ?_
  refine sp_X5_see hd hb0 hT hR hp ?_
  refine ⟨_, rfl, ?_⟩
  refine x_bipush (pc := 4) dX5_isSmall_4 (by decide) ?_
  refine x_bipush (pc := 6) dX5_isSmall_6 (by decide) ?_
  refine x_callS (pc := 8) [_, _, _] rfl kX5_144 dX5_isSmall_8 rfl (by decide) (Nat.le_of_ble_eq_true rfl) (Nat.le_of_ble_eq_true rfl) (by decide) ?_
  refine sp_X5_in ⟨by omega, by omega⟩ ⟨by omega, by omega⟩ ⟨by omega, by omega⟩ ?_
  refine ⟨_, rfl, ?_⟩
  refine x_zret (pc := 11) dX5_isSmall_11 rfl ⟨by omega, by omega⟩ (by decide) (by decide) ?_
  refine kI k ?_
  simp only [q3]
set_option maxRecDepth 100000 in
theorem sp_X5_isDigit {g : GG} {lay : Lay} {M : Mem} {K : KK} {d : Nat} {tx : Nat → Int} {n e : Nat} (hd : MoL lay d) (hb0 : g.2.1 ≤ d) (hT : Tx tx n M d) (hR : TxR tx n) (hp : M d 13 = e) (k : K (.inl (some (vI (if kindF tx n e = 2 then 1 else 0)))) lay M) : X g m_X5_isDigit 0 0 lay M 0 [(0, vR d)] [] K := by
  obtain ⟨q1, q2, q3, q4, -⟩ := see_k (e := e) hR
  refine x_aload_n (pc := 0) dX5_isDigit_0 rfl rfl ?_
  refine x_callV (pc := 1) [] rfl kX5_275 dX5_isDigit_1 hd.1 rfl rfl (by decide) (Nat.le_of_ble_eq_true rfl) (Nat.le_of_ble_eq_true rfl) (by decide) ?_
  refine sp_X5_see hd hb0 hT hR hp ?_
  refine ⟨_, rfl, ?_⟩
  refine x_bipush (pc := 4) dX5_isDigit_4 (by decide) ?_
  refine x_bipush (pc := 6) dX5_isDigit_6 (by decide) ?_
  refine x_callS (pc := 8) [_, _, _] rfl kX5_144 dX5_isDigit_8 rfl (by decide) (Nat.le_of_ble_eq_true rfl) (Nat.le_of_ble_eq_true rfl) (by decide) ?_
  refine sp_X5_in ⟨by omega, by omega⟩ ⟨by omega, by omega⟩ ⟨by omega, by omega⟩ ?_
  refine ⟨_, rfl, ?_⟩
  refine x_zret (pc := 11) dX5_isDigit_11 rfl ⟨by omega, by omega⟩ (by decide) (by decide) ?_
  refine kI k ?_
  simp only [q4]
set_option maxRecDepth 100000 in
theorem sp_X5_markOf {g : GG} {lay : Lay} {M : Mem} {K : KK} {x : Int} (hx : i32 x) (k : K (.inl (some (vI (if x = 59 then 3 else if x = 45 then 4 else 5)))) lay M) : X g m_X5_markOf 0 0 lay M 0 [(0, vI x)] [] K := by
  obtain ⟨hx1, hx2⟩ := hx
  refine x_iload_n (pc := 0) dX5_markOf_0 rfl rfl ?_
  refine x_bipush (pc := 1) dX5_markOf_1 (by decide) ?_
  refine x_icmp_ne (pc := 3) (t := 10) dX5_markOf_3 (by decide) ⟨by omega, by omega⟩ ⟨by omega, by omega⟩ (fun c3 => ?_) (fun c3 => ?_)
  · refine x_iload_n (pc := 10) dX5_markOf_10 rfl rfl ?_
    refine x_bipush (pc := 11) dX5_markOf_11 (by decide) ?_
    refine x_icmp_ne (pc := 13) (t := 20) dX5_markOf_13 (by decide) ⟨by omega, by omega⟩ ⟨by omega, by omega⟩ (fun c13 => ?_) (fun c13 => ?_)
    · refine x_iconst (pc := 20) dX5_markOf_20 ?_
      refine x_iret (pc := 21) dX5_markOf_21 rfl (by decide) (by decide) ?_
      refine kI k ?_
      repeat (first | rw [if_pos (by omega)] | rw [if_neg (by omega)])
      first | done | rfl
    · refine x_iconst (pc := 16) dX5_markOf_16 ?_
      refine x_goto (pc := 17) (t := 21) dX5_markOf_17 (by decide) ?_
      refine x_iret (pc := 21) dX5_markOf_21 rfl (by decide) (by decide) ?_
      refine kI k ?_
      repeat (first | rw [if_pos (by omega)] | rw [if_neg (by omega)])
      first | done | rfl
  · refine x_iconst (pc := 6) dX5_markOf_6 ?_
    refine x_goto (pc := 7) (t := 21) dX5_markOf_7 (by decide) ?_
    refine x_iret (pc := 21) dX5_markOf_21 rfl (by decide) (by decide) ?_
    refine kI k ?_
    repeat (first | rw [if_pos (by omega)] | rw [if_neg (by omega)])
    first | done | rfl
set_option maxRecDepth 100000 in
theorem sp_X5_goesOn {g : GG} {lay : Lay} {M : Mem} {K : KK} {d : Nat} {tx : Nat → Int} {n e : Nat} (hd : MoL lay d) (hb0 : g.2.1 ≤ d) (hT : Tx tx n M d) (hR : TxR tx n) (hp : M d 13 = e) (he : e ≤ n) (k : ∀ (M2 : Mem) (am : Int), FrG d M M2 → M2 d 13 = (tokAt tx n e).2.2.1 → M2 d 14 = (tokAt tx n e).2.1 → M2 d 15 = mk (tokAt tx n e).1 → M2 d 16 = am → NumR am (tokAt tx n e).2.2.2 → K (.inl none) lay M2) : X g m_X5_goesOn 0 0 lay M 0 [(0, vR d)] [] K := by
  have h600 := hT.1.1
  obtain ⟨U, hU⟩ : ∃ U, U = tokAt tx n e := ⟨_, rfl⟩
  rw [← hU] at k
  have l4 : ∀ (c e1 : Nat) (s : Nat) (am nb : Int) (M1 : Mem), e1 + c = n → FrG d M M1 → M1 d 13 = e1 → M1 d 14 = s → M1 d 15 = 2 → M1 d 16 = am → NumR am nb → U = (2, s, runF tx n 2 c e1 nb) → X g m_X5_goesOn 0 0 lay M1 139 [(0, vR d)] [] K := by
    intro c
    induction c with
    | zero =>
      intro e1 s am nb M1 hc hF h13 h14 h15 h16 hn hu
      have hT1 := hT.g hF
      have hk0 : kindF tx n e1 = 0 := if_pos (by omega)
      have hz := @b01 (kindF tx n e1 = 2) inferInstance
      simp only [runF] at hu
      subst hu
      refine x_aload_n (pc := 139) dX5_goesOn_139 rfl rfl ?_
      refine x_geti (pc := 140) fX5_290 dX5_goesOn_140 hd.1 rfl (fun r140a r140b => ?_)
      rw [h15] at r140a r140b ⊢
      refine x_iconst (pc := 143) dX5_goesOn_143 ?_
      refine x_icmp_ne (pc := 144) (t := 203) dX5_goesOn_144 (by decide) ⟨by omega, by omega⟩ ⟨by omega, by omega⟩ (fun c144 => ?_) (fun c144 => ?_)
      · exfalso; omega
      · refine x_aload_n (pc := 147) dX5_goesOn_147 rfl rfl ?_
        refine x_callV (pc := 148) [] rfl kX5_284 dX5_goesOn_148 hd.1 rfl rfl (by decide) (Nat.le_of_ble_eq_true rfl) (Nat.le_of_ble_eq_true rfl) (by decide) ?_
        refine sp_X5_isDigit (e := e1) hd hb0 hT1 hR h13 ?_
        refine ⟨_, rfl, ?_⟩
        refine x_if_eq (pc := 151) (t := 203) dX5_goesOn_151 (by decide) ⟨by omega, by omega⟩ (fun c151 => ?_) (fun c151 => ?_)
        · refine x_vret (pc := 203) dX5_goesOn_203 rfl (by decide) (by decide) ?_
          exact k M1 am hF h13 h14 h15 h16 hn
        · exfalso; omega
    | succ c ih =>
      intro e1 s am nb M1 hc hF h13 h14 h15 h16 hn hu
      have hT1 := hT.g hF
      have hz := @b01 (kindF tx n e1 = 2) inferInstance
      obtain ⟨q1, -, -, q4, -, -, -, q8⟩ := see_k (e := e1) hR
      simp only [runF] at hu
      refine x_aload_n (pc := 139) dX5_goesOn_139 rfl rfl ?_
      refine x_geti (pc := 140) fX5_290 dX5_goesOn_140 hd.1 rfl (fun r140a r140b => ?_)
      rw [h15] at r140a r140b ⊢
      refine x_iconst (pc := 143) dX5_goesOn_143 ?_
      refine x_icmp_ne (pc := 144) (t := 203) dX5_goesOn_144 (by decide) ⟨by omega, by omega⟩ ⟨by omega, by omega⟩ (fun c144 => ?_) (fun c144 => ?_)
      · exfalso; omega
      · refine x_aload_n (pc := 147) dX5_goesOn_147 rfl rfl ?_
        refine x_callV (pc := 148) [] rfl kX5_284 dX5_goesOn_148 hd.1 rfl rfl (by decide) (Nat.le_of_ble_eq_true rfl) (Nat.le_of_ble_eq_true rfl) (by decide) ?_
        refine sp_X5_isDigit (e := e1) hd hb0 hT1 hR h13 ?_
        refine ⟨_, rfl, ?_⟩
        refine x_if_eq (pc := 151) (t := 203) dX5_goesOn_151 (by decide) ⟨by omega, by omega⟩ (fun c151 => ?_) (fun c151 => ?_)
        · refine x_vret (pc := 203) dX5_goesOn_203 rfl (by decide) (by decide) ?_
          rw [if_neg (b0 c151)] at hu
          subst hu
          exact k M1 am hF h13 h14 h15 h16 hn
        · refine x_aload_n (pc := 154) dX5_goesOn_154 rfl rfl ?_
          refine x_aload_n (pc := 155) dX5_goesOn_155 rfl rfl ?_
          refine x_geti (pc := 156) fX5_293 dX5_goesOn_156 hd.1 rfl (fun r156a r156b => ?_)
          rw [h16] at r156a r156b ⊢
          refine x_sipush (pc := 159) dX5_goesOn_159 (by decide) ?_
          refine x_icmp_le (pc := 162) (t := 172) dX5_goesOn_162 (by decide) ⟨by omega, by omega⟩ ⟨by omega, by omega⟩ (fun c162 => ?_) (fun c162 => ?_)
          · refine x_bipush (pc := 172) dX5_goesOn_172 (by decide) ?_
            refine x_aload_n (pc := 174) dX5_goesOn_174 rfl rfl ?_
            refine x_geti (pc := 175) fX5_293 dX5_goesOn_175 hd.1 rfl (fun r175a r175b => ?_)
            rw [h16] at r175a r175b ⊢
            refine x_imul (pc := 178) dX5_goesOn_178 ?_
            refine x_aload_n (pc := 179) dX5_goesOn_179 rfl rfl ?_
            refine x_callV (pc := 180) [] rfl kX5_275 dX5_goesOn_180 hd.1 rfl rfl (by decide) (Nat.le_of_ble_eq_true rfl) (Nat.le_of_ble_eq_true rfl) (by decide) ?_
            have hk2 : kindF tx n e1 = 2 := b1 c151
            have hsd := q4.mpr hk2
            have hnr : 0 ≤ am ∧ am ≤ 200000 := by unfold NumR at hn; omega
            refine sp_X5_see (e := e1) hd hb0 hT1 hR h13 ?_
            refine ⟨_, rfl, ?_⟩
            refine x_iadd (pc := 183) dX5_goesOn_183 ?_
            refine x_bipush (pc := 184) dX5_goesOn_184 (by decide) ?_
            refine x_isub (pc := 186) dX5_goesOn_186 ?_
            refine x_puti (pc := 187) fnX5_293 dX5_goesOn_187 hd.1 (by omega) rfl ⟨by omega, by omega⟩ ?_
            refine x_aload_n (pc := 190) dX5_goesOn_190 rfl rfl ?_
            refine x_dup (pc := 191) dX5_goesOn_191 rfl ?_
            refine x_geti (pc := 192) fX5_272 dX5_goesOn_192 hd.1 rfl (fun r192a r192b => ?_)
            try simp (disch := omega) only [mset_same, mset_nea, mset_nei, mcopy_nea, mcopy_in, mcopy_out, Int.reduceToNat, Int.toNat_natCast, Nat.zero_add, Nat.sub_zero] at r192a r192b ⊢
            refine x_iconst (pc := 195) dX5_goesOn_195 ?_
            refine x_iadd (pc := 196) dX5_goesOn_196 ?_
            refine x_puti (pc := 197) fnX5_272 dX5_goesOn_197 hd.1 (by omega) rfl ⟨by omega, by omega⟩ ?_
            refine x_goto (pc := 200) (t := 139) dX5_goesOn_200 (by decide) ?_
            have hk2 : kindF tx n e1 = 2 := b1 c151
            have hsd := q4.mpr hk2
            rw [if_pos hk2] at hu
            first
            | (refine ih (e1 + 1) s am (numT 2 nb (tx e1)) _ (by omega) ((hF.ms (by omega)).ms (by omega)) ?_ ?_ ?_ ?_ ?_ hu
               · rw [mset_same]
                 omega
               · rw [mset_nei (by omega), mset_nei (by omega)]
                 exact h14
               · rw [mset_nei (by omega), mset_nei (by omega)]
                 exact h15
               · rw [mset_nei (by omega), mset_same]
               · have h8 := q8 hk2
                 unfold numT NumR at *
                 rw [if_pos rfl]
                 split <;> omega
               done)
            | (refine ih (e1 + 1) s (10 * am + seeF tx n e1 - 48) (numT 2 nb (tx e1)) _ (by omega) ((hF.ms (by omega)).ms (by omega)) ?_ ?_ ?_ ?_ ?_ hu
               · rw [mset_same]
                 omega
               · rw [mset_nei (by omega), mset_nei (by omega)]
                 exact h14
               · rw [mset_nei (by omega), mset_nei (by omega)]
                 exact h15
               · rw [mset_nei (by omega), mset_same]
               · have h8 := q8 hk2
                 unfold numT NumR at *
                 rw [if_pos rfl]
                 split <;> omega
               done)
          · refine x_aload_n (pc := 165) dX5_goesOn_165 rfl rfl ?_
            refine x_geti (pc := 166) fX5_293 dX5_goesOn_166 hd.1 rfl (fun r166a r166b => ?_)
            rw [h16] at r166a r166b ⊢
            refine x_goto (pc := 169) (t := 187) dX5_goesOn_169 (by decide) ?_
            refine x_puti (pc := 187) fnX5_293 dX5_goesOn_187 hd.1 (by omega) rfl ⟨by omega, by omega⟩ ?_
            refine x_aload_n (pc := 190) dX5_goesOn_190 rfl rfl ?_
            refine x_dup (pc := 191) dX5_goesOn_191 rfl ?_
            refine x_geti (pc := 192) fX5_272 dX5_goesOn_192 hd.1 rfl (fun r192a r192b => ?_)
            try simp (disch := omega) only [mset_same, mset_nea, mset_nei, mcopy_nea, mcopy_in, mcopy_out, Int.reduceToNat, Int.toNat_natCast, Nat.zero_add, Nat.sub_zero] at r192a r192b ⊢
            refine x_iconst (pc := 195) dX5_goesOn_195 ?_
            refine x_iadd (pc := 196) dX5_goesOn_196 ?_
            refine x_puti (pc := 197) fnX5_272 dX5_goesOn_197 hd.1 (by omega) rfl ⟨by omega, by omega⟩ ?_
            refine x_goto (pc := 200) (t := 139) dX5_goesOn_200 (by decide) ?_
            have hk2 : kindF tx n e1 = 2 := b1 c151
            have hsd := q4.mpr hk2
            rw [if_pos hk2] at hu
            first
            | (refine ih (e1 + 1) s am (numT 2 nb (tx e1)) _ (by omega) ((hF.ms (by omega)).ms (by omega)) ?_ ?_ ?_ ?_ ?_ hu
               · rw [mset_same]
                 omega
               · rw [mset_nei (by omega), mset_nei (by omega)]
                 exact h14
               · rw [mset_nei (by omega), mset_nei (by omega)]
                 exact h15
               · rw [mset_nei (by omega), mset_same]
               · have h8 := q8 hk2
                 unfold numT NumR at *
                 rw [if_pos rfl]
                 split <;> omega
               done)
            | (refine ih (e1 + 1) s (10 * am + seeF tx n e1 - 48) (numT 2 nb (tx e1)) _ (by omega) ((hF.ms (by omega)).ms (by omega)) ?_ ?_ ?_ ?_ ?_ hu
               · rw [mset_same]
                 omega
               · rw [mset_nei (by omega), mset_nei (by omega)]
                 exact h14
               · rw [mset_nei (by omega), mset_nei (by omega)]
                 exact h15
               · rw [mset_nei (by omega), mset_same]
               · have h8 := q8 hk2
                 unfold numT NumR at *
                 rw [if_pos rfl]
                 split <;> omega
               done)
  have l3 : ∀ (c e1 : Nat) (s : Nat) (M1 : Mem), e1 + c = n → FrG d M M1 → M1 d 13 = e1 → M1 d 14 = s → M1 d 15 = 1 → M1 d 16 = 0 → U = (1, s, runF tx n 1 c e1 0) → X g m_X5_goesOn 0 0 lay M1 111 [(0, vR d)] [] K := by
    intro c
    induction c with
    | zero =>
      intro e1 s M1 hc hF h13 h14 h15 h16 hu
      have hT1 := hT.g hF
      have hk0 : kindF tx n e1 = 0 := if_pos (by omega)
      have hz := @b01 (kindF tx n e1 = 1) inferInstance
      simp only [runF] at hu
      subst hu
      refine x_aload_n (pc := 111) dX5_goesOn_111 rfl rfl ?_
      refine x_geti (pc := 112) fX5_290 dX5_goesOn_112 hd.1 rfl (fun r112a r112b => ?_)
      rw [h15] at r112a r112b ⊢
      refine x_iconst (pc := 115) dX5_goesOn_115 ?_
      refine x_icmp_ne (pc := 116) (t := 139) dX5_goesOn_116 (by decide) ⟨by omega, by omega⟩ ⟨by omega, by omega⟩ (fun c116 => ?_) (fun c116 => ?_)
      · exfalso; omega
      · refine x_aload_n (pc := 119) dX5_goesOn_119 rfl rfl ?_
        refine x_callV (pc := 120) [] rfl kX5_281 dX5_goesOn_120 hd.1 rfl rfl (by decide) (Nat.le_of_ble_eq_true rfl) (Nat.le_of_ble_eq_true rfl) (by decide) ?_
        refine sp_X5_isSmall (e := e1) hd hb0 hT1 hR h13 ?_
        refine ⟨_, rfl, ?_⟩
        refine x_if_eq (pc := 123) (t := 139) dX5_goesOn_123 (by decide) ⟨by omega, by omega⟩ (fun c123 => ?_) (fun c123 => ?_)
        · refine x_aload_n (pc := 139) dX5_goesOn_139 rfl rfl ?_
          refine x_geti (pc := 140) fX5_290 dX5_goesOn_140 hd.1 rfl (fun r140a r140b => ?_)
          rw [h15] at r140a r140b ⊢
          refine x_iconst (pc := 143) dX5_goesOn_143 ?_
          refine x_icmp_ne (pc := 144) (t := 203) dX5_goesOn_144 (by decide) ⟨by omega, by omega⟩ ⟨by omega, by omega⟩ (fun c144 => ?_) (fun c144 => ?_)
          · refine x_vret (pc := 203) dX5_goesOn_203 rfl (by decide) (by decide) ?_
            exact k M1 0 hF h13 h14 h15 h16 (show NumR 0 0 from Or.inl ⟨rfl, by omega, by omega⟩)
          · exfalso; omega
        · exfalso; omega
    | succ c ih =>
      intro e1 s M1 hc hF h13 h14 h15 h16 hu
      have hT1 := hT.g hF
      have hz := @b01 (kindF tx n e1 = 1) inferInstance
      simp only [runF] at hu
      rw [show numT 1 0 (tx e1) = 0 from if_neg (by omega)] at hu
      refine x_aload_n (pc := 111) dX5_goesOn_111 rfl rfl ?_
      refine x_geti (pc := 112) fX5_290 dX5_goesOn_112 hd.1 rfl (fun r112a r112b => ?_)
      rw [h15] at r112a r112b ⊢
      refine x_iconst (pc := 115) dX5_goesOn_115 ?_
      refine x_icmp_ne (pc := 116) (t := 139) dX5_goesOn_116 (by decide) ⟨by omega, by omega⟩ ⟨by omega, by omega⟩ (fun c116 => ?_) (fun c116 => ?_)
      · exfalso; omega
      · refine x_aload_n (pc := 119) dX5_goesOn_119 rfl rfl ?_
        refine x_callV (pc := 120) [] rfl kX5_281 dX5_goesOn_120 hd.1 rfl rfl (by decide) (Nat.le_of_ble_eq_true rfl) (Nat.le_of_ble_eq_true rfl) (by decide) ?_
        refine sp_X5_isSmall (e := e1) hd hb0 hT1 hR h13 ?_
        refine ⟨_, rfl, ?_⟩
        refine x_if_eq (pc := 123) (t := 139) dX5_goesOn_123 (by decide) ⟨by omega, by omega⟩ (fun c123 => ?_) (fun c123 => ?_)
        · refine x_aload_n (pc := 139) dX5_goesOn_139 rfl rfl ?_
          refine x_geti (pc := 140) fX5_290 dX5_goesOn_140 hd.1 rfl (fun r140a r140b => ?_)
          rw [h15] at r140a r140b ⊢
          refine x_iconst (pc := 143) dX5_goesOn_143 ?_
          refine x_icmp_ne (pc := 144) (t := 203) dX5_goesOn_144 (by decide) ⟨by omega, by omega⟩ ⟨by omega, by omega⟩ (fun c144 => ?_) (fun c144 => ?_)
          · refine x_vret (pc := 203) dX5_goesOn_203 rfl (by decide) (by decide) ?_
            rw [if_neg (b0 c123)] at hu
            subst hu
            exact k M1 0 hF h13 h14 h15 h16 (show NumR 0 0 from Or.inl ⟨rfl, by omega, by omega⟩)
          · exfalso; omega
        · refine x_aload_n (pc := 126) dX5_goesOn_126 rfl rfl ?_
          refine x_dup (pc := 127) dX5_goesOn_127 rfl ?_
          refine x_geti (pc := 128) fX5_272 dX5_goesOn_128 hd.1 rfl (fun r128a r128b => ?_)
          rw [h13] at r128a r128b ⊢
          refine x_iconst (pc := 131) dX5_goesOn_131 ?_
          refine x_iadd (pc := 132) dX5_goesOn_132 ?_
          refine x_puti (pc := 133) fnX5_272 dX5_goesOn_133 hd.1 (by omega) rfl ⟨by omega, by omega⟩ ?_
          refine x_goto (pc := 136) (t := 111) dX5_goesOn_136 (by decide) ?_
          rw [if_pos (b1 c123)] at hu
          refine ih (e1 + 1) s _ (by omega) (hF.ms (by omega)) ?_ ?_ ?_ ?_ hu
          · rw [mset_same]
            omega
          · rw [mset_nei (by omega)]
            exact h14
          · rw [mset_nei (by omega)]
            exact h15
          · rw [mset_nei (by omega)]
            exact h16
  have l2 : ∀ (s : Nat) (k9 : Int) (M1 : Mem), s ≤ n → k9 = kindF tx n s → k9 ≠ 6 → FrG d M M1 → M1 d 13 = (if k9 = 0 ∨ k9 = 1 ∨ k9 = 2 then (s : Int) else s + 1) → M1 d 14 = s → M1 d 15 = mk k9 → M1 d 16 = 0 → U = (if k9 = 1 ∨ k9 = 2 then (k9, s, runF tx n k9 (n - s) s 0) else if k9 = 0 then (k9, s, s, 0) else (k9, s, s + 1, 0)) → X g m_X5_goesOn 0 0 lay M1 111 [(0, vR d)] [] K := by
    intro s k9 M1 hs hk9 hk6 hF h13 h14 h15 h16 hu
    by_cases e1 : k9 = 1
    · rw [if_pos (by omega)] at hu
      rw [if_pos (by omega)] at h13
      rw [e1] at hu h15
      exact l3 (n - s) s s M1 (by omega) hF h13 h14 h15 h16 hu
    · by_cases e2 : k9 = 2
      · rw [if_pos (by omega)] at hu
        rw [if_pos (by omega)] at h13
        rw [e2] at hu h15
        have h15 : M1 d 15 = 2 := h15
        have hgo := l4 (n - s) s s 0 0 M1 (by omega) hF h13 h14 h15 h16 (show NumR 0 0 from Or.inl ⟨rfl, by omega, by omega⟩) hu
        refine x_aload_n (pc := 111) dX5_goesOn_111 rfl rfl ?_
        refine x_geti (pc := 112) fX5_290 dX5_goesOn_112 hd.1 rfl (fun r112a r112b => ?_)
        rw [h15] at r112a r112b ⊢
        refine x_iconst (pc := 115) dX5_goesOn_115 ?_
        refine x_icmp_ne (pc := 116) (t := 139) dX5_goesOn_116 (by decide) ⟨by omega, by omega⟩ ⟨by omega, by omega⟩ (fun c116 => ?_) (fun c116 => ?_)
        · exact hgo
        · exfalso; omega
      · rw [if_neg (by omega)] at hu
        have h15b : M1 d 15 ≠ 1 ∧ M1 d 15 ≠ 2 := by
          rw [h15]
          unfold mk
          split
          · omega
          · split <;> omega
        refine x_aload_n (pc := 111) dX5_goesOn_111 rfl rfl ?_
        refine x_geti (pc := 112) fX5_290 dX5_goesOn_112 hd.1 rfl (fun r112a r112b => ?_)
        refine x_iconst (pc := 115) dX5_goesOn_115 ?_
        refine x_icmp_ne (pc := 116) (t := 139) dX5_goesOn_116 (by decide) ⟨by omega, by omega⟩ ⟨by omega, by omega⟩ (fun c116 => ?_) (fun c116 => ?_)
        · refine x_aload_n (pc := 139) dX5_goesOn_139 rfl rfl ?_
          refine x_geti (pc := 140) fX5_290 dX5_goesOn_140 hd.1 rfl (fun r140a r140b => ?_)
          refine x_iconst (pc := 143) dX5_goesOn_143 ?_
          refine x_icmp_ne (pc := 144) (t := 203) dX5_goesOn_144 (by decide) ⟨by omega, by omega⟩ ⟨by omega, by omega⟩ (fun c144 => ?_) (fun c144 => ?_)
          · refine x_vret (pc := 203) dX5_goesOn_203 rfl (by decide) (by decide) ?_
            by_cases e3 : k9 = 0
            · rw [if_pos e3] at hu
              rw [if_pos (by omega)] at h13
              subst hu
              exact k M1 0 hF h13 h14 h15 h16 (show NumR 0 0 from Or.inl ⟨rfl, by omega, by omega⟩)
            · rw [if_neg e3] at hu
              rw [if_neg (by omega)] at h13
              subst hu
              exact k M1 0 hF (by rw [h13]; show _ = ((s + 1 : Nat) : Int); omega) h14 h15 h16 (show NumR 0 0 from Or.inl ⟨rfl, by omega, by omega⟩)
          · exfalso; omega
        · exfalso; omega
  have l1 : ∀ (s : Nat) (M1 : Mem), s ≤ n → kindF tx n s ≠ 6 → FrG d M M1 → M1 d 13 = s → U = (if kindF tx n s = 1 ∨ kindF tx n s = 2 then (kindF tx n s, s, runF tx n (kindF tx n s) (n - s) s 0) else if kindF tx n s = 0 then (kindF tx n s, s, s, 0) else (kindF tx n s, s, s + 1, 0)) → X g m_X5_goesOn 0 0 lay M1 31 [(0, vR d)] [] K := by
    intro s M1 hs hk6 hF h13 hu
    obtain ⟨q1, q2, q3, q4, q5, q6, q7, q8⟩ := see_k (e := s) hR
    have hkr := kindF_rng tx n s
    have hz1 := @b01 (kindF tx n s = 1) inferInstance
    have hz2 := @b01 (kindF tx n s = 2) inferInstance
    obtain ⟨k9, hk9⟩ : ∃ k9, k9 = kindF tx n s := ⟨_, rfl⟩
    have fin : ∀ t, t = mk k9 → X g m_X5_goesOn 0 0 lay (mset M1 d 14 s) 81 [(0, vR d)] [vI t, vR d] K := by
      intro t ht
      have htr : 0 ≤ t ∧ t ≤ 5 ∧ (3 ≤ t ↔ ¬ (k9 = 0 ∨ k9 = 1 ∨ k9 = 2)) := by
        rw [ht]
        unfold mk
        split
        · omega
        · split <;> omega
      rw [← hk9] at hu hk6
      refine x_puti (pc := 81) fnX5_290 dX5_goesOn_81 hd.1 (by omega) rfl ⟨by omega, by omega⟩ ?_
      refine x_aload_n (pc := 84) dX5_goesOn_84 rfl rfl ?_
      refine x_iconst (pc := 85) dX5_goesOn_85 ?_
      refine x_puti (pc := 86) fnX5_293 dX5_goesOn_86 hd.1 (by omega) rfl ⟨by omega, by omega⟩ ?_
      refine x_aload_n (pc := 89) dX5_goesOn_89 rfl rfl ?_
      refine x_dup (pc := 90) dX5_goesOn_90 rfl ?_
      refine x_geti (pc := 91) fX5_272 dX5_goesOn_91 hd.1 rfl (fun r91a r91b => ?_)
      try simp (disch := omega) only [mset_same, mset_nea, mset_nei, mcopy_nea, mcopy_in, mcopy_out, Int.reduceToNat, Int.toNat_natCast, Nat.zero_add, Nat.sub_zero] at r91a r91b ⊢
      rw [h13] at r91a r91b ⊢
      refine x_aload_n (pc := 94) dX5_goesOn_94 rfl rfl ?_
      refine x_geti (pc := 95) fX5_290 dX5_goesOn_95 hd.1 rfl (fun r95a r95b => ?_)
      try simp (disch := omega) only [mset_same, mset_nea, mset_nei, mcopy_nea, mcopy_in, mcopy_out, Int.reduceToNat, Int.toNat_natCast, Nat.zero_add, Nat.sub_zero] at r95a r95b ⊢
      refine x_iconst (pc := 98) dX5_goesOn_98 ?_
      refine x_icmp_lt (pc := 99) (t := 106) dX5_goesOn_99 (by decide) ⟨by omega, by omega⟩ ⟨by omega, by omega⟩ (fun c99 => ?_) (fun c99 => ?_)
      · refine x_iconst (pc := 106) dX5_goesOn_106 ?_
        refine x_iadd (pc := 107) dX5_goesOn_107 ?_
        refine x_puti (pc := 108) fnX5_272 dX5_goesOn_108 hd.1 (by omega) rfl ⟨by omega, by omega⟩ ?_
        refine l2 s k9 _ hs hk9 hk6 ((((hF.ms (by omega)).ms (by omega)).ms (by omega)).ms (by omega)) ?_ ?_ ?_ ?_ hu
        · rw [mset_same]
          first
          | (rw [if_neg (by omega)])
          | (rw [if_pos (by omega)]
             omega)
        · rw [mset_nei (by omega), mset_nei (by omega), mset_nei (by omega), mset_same]
        · rw [mset_nei (by omega), mset_nei (by omega), mset_same]
          exact ht
        · rw [mset_nei (by omega), mset_same]
      · refine x_iconst (pc := 102) dX5_goesOn_102 ?_
        refine x_goto (pc := 103) (t := 107) dX5_goesOn_103 (by decide) ?_
        refine x_iadd (pc := 107) dX5_goesOn_107 ?_
        refine x_puti (pc := 108) fnX5_272 dX5_goesOn_108 hd.1 (by omega) rfl ⟨by omega, by omega⟩ ?_
        refine l2 s k9 _ hs hk9 hk6 ((((hF.ms (by omega)).ms (by omega)).ms (by omega)).ms (by omega)) ?_ ?_ ?_ ?_ hu
        · rw [mset_same]
          first
          | (rw [if_neg (by omega)])
          | (rw [if_pos (by omega)]
             omega)
        · rw [mset_nei (by omega), mset_nei (by omega), mset_nei (by omega), mset_same]
        · rw [mset_nei (by omega), mset_nei (by omega), mset_same]
          exact ht
        · rw [mset_nei (by omega), mset_same]
    rw [← hk9] at hz1 hz2 q2 q3 q4 q5 q6 q7
    refine x_aload_n (pc := 31) dX5_goesOn_31 rfl rfl ?_
    refine x_aload_n (pc := 32) dX5_goesOn_32 rfl rfl ?_
    refine x_geti (pc := 33) fX5_272 dX5_goesOn_33 hd.1 rfl (fun r33a r33b => ?_)
    rw [h13] at r33a r33b ⊢
    refine x_puti (pc := 36) fnX5_278 dX5_goesOn_36 hd.1 (by omega) rfl ⟨by omega, by omega⟩ ?_
    have hF14 : FrG d M (mset M1 d 14 s) := hF.ms (by omega)
    have hT1 := hT.g hF14
    have h131 : mset M1 d 14 s d 13 = s := by rw [mset_nei (by omega)]; exact h13
    refine x_aload_n (pc := 39) dX5_goesOn_39 rfl rfl ?_
    refine x_aload_n (pc := 40) dX5_goesOn_40 rfl rfl ?_
    refine x_callV (pc := 41) [] rfl kX5_275 dX5_goesOn_41 hd.1 rfl rfl (by decide) (Nat.le_of_ble_eq_true rfl) (Nat.le_of_ble_eq_true rfl) (by decide) ?_
    refine sp_X5_see (e := s) hd hb0 hT1 hR h131 ?_
    refine ⟨_, rfl, ?_⟩
    refine x_iconst (pc := 44) dX5_goesOn_44 ?_
    refine x_icmp_ne (pc := 45) (t := 52) dX5_goesOn_45 (by decide) ⟨by omega, by omega⟩ ⟨by omega, by omega⟩ (fun c45 => ?_) (fun c45 => ?_)
    · refine x_aload_n (pc := 52) dX5_goesOn_52 rfl rfl ?_
      refine x_callV (pc := 53) [] rfl kX5_281 dX5_goesOn_53 hd.1 rfl rfl (by decide) (Nat.le_of_ble_eq_true rfl) (Nat.le_of_ble_eq_true rfl) (by decide) ?_
      refine sp_X5_isSmall (e := s) hd hb0 hT1 hR h131 ?_
      rw [← hk9]
      refine ⟨_, rfl, ?_⟩
      refine x_if_eq (pc := 56) (t := 63) dX5_goesOn_56 (by decide) ⟨by omega, by omega⟩ (fun c56 => ?_) (fun c56 => ?_)
      · refine x_aload_n (pc := 63) dX5_goesOn_63 rfl rfl ?_
        refine x_callV (pc := 64) [] rfl kX5_284 dX5_goesOn_64 hd.1 rfl rfl (by decide) (Nat.le_of_ble_eq_true rfl) (Nat.le_of_ble_eq_true rfl) (by decide) ?_
        refine sp_X5_isDigit (e := s) hd hb0 hT1 hR h131 ?_
        rw [← hk9]
        refine ⟨_, rfl, ?_⟩
        refine x_if_eq (pc := 67) (t := 74) dX5_goesOn_67 (by decide) ⟨by omega, by omega⟩ (fun c67 => ?_) (fun c67 => ?_)
        · refine x_aload_n (pc := 74) dX5_goesOn_74 rfl rfl ?_
          refine x_callV (pc := 75) [] rfl kX5_275 dX5_goesOn_75 hd.1 rfl rfl (by decide) (Nat.le_of_ble_eq_true rfl) (Nat.le_of_ble_eq_true rfl) (by decide) ?_
          refine sp_X5_see (e := s) hd hb0 hT1 hR h131 ?_
          refine ⟨_, rfl, ?_⟩
          refine x_callS (pc := 78) [_] rfl kX5_287 dX5_goesOn_78 rfl (by decide) (Nat.le_of_ble_eq_true rfl) (Nat.le_of_ble_eq_true rfl) (by decide) ?_
          refine sp_X5_markOf ⟨by omega, by omega⟩ ?_
          refine ⟨_, rfl, ?_⟩
          refine fin _ ?_
          unfold mk
          first
          | (rw [q5.mp (by omega), if_neg (by omega), if_neg (by omega)])
          | (have c9 := b1 c56
             rw [c9, if_neg (by omega), if_neg (by omega)])
          | (have c9 := b1 c67
             rw [c9, if_neg (by omega), if_neg (by omega)])
          | (have c8 := b0 c56
             have c9 := b0 c67
             have c7 : k9 ≠ 0 := fun z => by have := q5.mpr z; omega
             by_cases g1 : seeF tx n s = 59
             · rw [if_pos g1, q6.mp g1]
               rfl
             · rw [if_neg g1]
               by_cases g2 : seeF tx n s = 45
               · rw [if_pos g2, q7.mp g2]
                 rfl
               · rw [if_neg g2]
                 have g3 : k9 ≠ 4 := fun z => g1 (q6.mpr z)
                 have g4 : k9 ≠ 3 := fun z => g2 (q7.mpr z)
                 rw [if_neg g4, if_neg g3]
                 omega)
        · refine x_iconst (pc := 70) dX5_goesOn_70 ?_
          refine x_goto (pc := 71) (t := 81) dX5_goesOn_71 (by decide) ?_
          refine fin _ ?_
          unfold mk
          first
          | (rw [q5.mp (by omega), if_neg (by omega), if_neg (by omega)])
          | (have c9 := b1 c56
             rw [c9, if_neg (by omega), if_neg (by omega)])
          | (have c9 := b1 c67
             rw [c9, if_neg (by omega), if_neg (by omega)])
          | (have c8 := b0 c56
             have c9 := b0 c67
             have c7 : k9 ≠ 0 := fun z => by have := q5.mpr z; omega
             by_cases g1 : seeF tx n s = 59
             · rw [if_pos g1, q6.mp g1]
               rfl
             · rw [if_neg g1]
               by_cases g2 : seeF tx n s = 45
               · rw [if_pos g2, q7.mp g2]
                 rfl
               · rw [if_neg g2]
                 have g3 : k9 ≠ 4 := fun z => g1 (q6.mpr z)
                 have g4 : k9 ≠ 3 := fun z => g2 (q7.mpr z)
                 rw [if_neg g4, if_neg g3]
                 omega)
      · refine x_iconst (pc := 59) dX5_goesOn_59 ?_
        refine x_goto (pc := 60) (t := 81) dX5_goesOn_60 (by decide) ?_
        refine fin _ ?_
        unfold mk
        first
        | (rw [q5.mp (by omega), if_neg (by omega), if_neg (by omega)])
        | (have c9 := b1 c56
           rw [c9, if_neg (by omega), if_neg (by omega)])
        | (have c9 := b1 c67
           rw [c9, if_neg (by omega), if_neg (by omega)])
        | (have c8 := b0 c56
           have c9 := b0 c67
           have c7 : k9 ≠ 0 := fun z => by have := q5.mpr z; omega
           by_cases g1 : seeF tx n s = 59
           · rw [if_pos g1, q6.mp g1]
             rfl
           · rw [if_neg g1]
             by_cases g2 : seeF tx n s = 45
             · rw [if_pos g2, q7.mp g2]
               rfl
             · rw [if_neg g2]
               have g3 : k9 ≠ 4 := fun z => g1 (q6.mpr z)
               have g4 : k9 ≠ 3 := fun z => g2 (q7.mpr z)
               rw [if_neg g4, if_neg g3]
               omega)
    · refine x_iconst (pc := 48) dX5_goesOn_48 ?_
      refine x_goto (pc := 49) (t := 81) dX5_goesOn_49 (by decide) ?_
      refine fin _ ?_
      unfold mk
      first
      | (rw [q5.mp (by omega), if_neg (by omega), if_neg (by omega)])
      | (have c9 := b1 c56
         rw [c9, if_neg (by omega), if_neg (by omega)])
      | (have c9 := b1 c67
         rw [c9, if_neg (by omega), if_neg (by omega)])
      | (have c8 := b0 c56
         have c9 := b0 c67
         have c7 : k9 ≠ 0 := fun z => by have := q5.mpr z; omega
         by_cases g1 : seeF tx n s = 59
         · rw [if_pos g1, q6.mp g1]
           rfl
         · rw [if_neg g1]
           by_cases g2 : seeF tx n s = 45
           · rw [if_pos g2, q7.mp g2]
             rfl
           · rw [if_neg g2]
             have g3 : k9 ≠ 4 := fun z => g1 (q6.mpr z)
             have g4 : k9 ≠ 3 := fun z => g2 (q7.mpr z)
             rw [if_neg g4, if_neg g3]
             omega)
  have l0 : ∀ (c s : Nat) (M1 : Mem), s + c = n → FrG d M M1 → M1 d 13 = s → skipF tx n c s = skipF tx n (n - e) e → X g m_X5_goesOn 0 0 lay M1 0 [(0, vR d)] [] K := by
    intro c
    induction c with
    | zero =>
      intro s M1 hc hF h13 hsk
      have hT1 := hT.g hF
      simp only [skipF] at hsk
      have hk0 : kindF tx n s = 0 := if_pos (by omega)
      obtain ⟨q1, q2, -⟩ := see_k (e := s) hR
      have hgo := l1 s M1 (by omega) (by omega) hF h13 (by rw [hU]; unfold tokAt; dsimp only; rw [← hsk])
      refine x_aload_n (pc := 0) dX5_goesOn_0 rfl rfl ?_
      refine x_callV (pc := 1) [] rfl kX5_275 dX5_goesOn_1 hd.1 rfl rfl (by decide) (Nat.le_of_ble_eq_true rfl) (Nat.le_of_ble_eq_true rfl) (by decide) ?_
      refine sp_X5_see (e := s) hd hb0 hT1 hR h13 ?_
      refine ⟨_, rfl, ?_⟩
      refine x_bipush (pc := 4) dX5_goesOn_4 (by decide) ?_
      refine x_icmp_eq (pc := 6) (t := 18) dX5_goesOn_6 (by decide) ⟨by omega, by omega⟩ ⟨by omega, by omega⟩ (fun c6 => ?_) (fun c6 => ?_)
      · exfalso; omega
      · refine x_aload_n (pc := 9) dX5_goesOn_9 rfl rfl ?_
        refine x_callV (pc := 10) [] rfl kX5_275 dX5_goesOn_10 hd.1 rfl rfl (by decide) (Nat.le_of_ble_eq_true rfl) (Nat.le_of_ble_eq_true rfl) (by decide) ?_
        refine sp_X5_see (e := s) hd hb0 hT1 hR h13 ?_
        refine ⟨_, rfl, ?_⟩
        refine x_bipush (pc := 13) dX5_goesOn_13 (by decide) ?_
        refine x_icmp_ne (pc := 15) (t := 31) dX5_goesOn_15 (by decide) ⟨by omega, by omega⟩ ⟨by omega, by omega⟩ (fun c15 => ?_) (fun c15 => ?_)
        · exact hgo
        · exfalso; omega
    | succ c ih =>
      intro s M1 hc hF h13 hsk
      have hT1 := hT.g hF
      rw [skipF] at hsk
      obtain ⟨q1, q2, -⟩ := see_k (e := s) hR
      have hgo : kindF tx n s ≠ 6 → X g m_X5_goesOn 0 0 lay M1 31 [(0, vR d)] [] K := fun h6 => by
        rw [if_neg h6] at hsk
        exact l1 s M1 (by omega) h6 hF h13 (by rw [hU]; unfold tokAt; dsimp only; rw [← hsk])
      refine x_aload_n (pc := 0) dX5_goesOn_0 rfl rfl ?_
      refine x_callV (pc := 1) [] rfl kX5_275 dX5_goesOn_1 hd.1 rfl rfl (by decide) (Nat.le_of_ble_eq_true rfl) (Nat.le_of_ble_eq_true rfl) (by decide) ?_
      refine sp_X5_see (e := s) hd hb0 hT1 hR h13 ?_
      refine ⟨_, rfl, ?_⟩
      refine x_bipush (pc := 4) dX5_goesOn_4 (by decide) ?_
      refine x_icmp_eq (pc := 6) (t := 18) dX5_goesOn_6 (by decide) ⟨by omega, by omega⟩ ⟨by omega, by omega⟩ (fun c6 => ?_) (fun c6 => ?_)
      · refine x_aload_n (pc := 18) dX5_goesOn_18 rfl rfl ?_
        refine x_dup (pc := 19) dX5_goesOn_19 rfl ?_
        refine x_geti (pc := 20) fX5_272 dX5_goesOn_20 hd.1 rfl (fun r20a r20b => ?_)
        rw [h13] at r20a r20b ⊢
        refine x_iconst (pc := 23) dX5_goesOn_23 ?_
        refine x_iadd (pc := 24) dX5_goesOn_24 ?_
        refine x_puti (pc := 25) fnX5_272 dX5_goesOn_25 hd.1 (by omega) rfl ⟨by omega, by omega⟩ ?_
        refine x_goto (pc := 28) (t := 0) dX5_goesOn_28 (by decide) ?_
        rw [if_pos (q2.mp (by omega))] at hsk
        refine ih (s + 1) _ (by omega) (hF.ms (by omega)) ?_ hsk
        rw [mset_same]
        omega
      · refine x_aload_n (pc := 9) dX5_goesOn_9 rfl rfl ?_
        refine x_callV (pc := 10) [] rfl kX5_275 dX5_goesOn_10 hd.1 rfl rfl (by decide) (Nat.le_of_ble_eq_true rfl) (Nat.le_of_ble_eq_true rfl) (by decide) ?_
        refine sp_X5_see (e := s) hd hb0 hT1 hR h13 ?_
        refine ⟨_, rfl, ?_⟩
        refine x_bipush (pc := 13) dX5_goesOn_13 (by decide) ?_
        refine x_icmp_ne (pc := 15) (t := 31) dX5_goesOn_15 (by decide) ⟨by omega, by omega⟩ ⟨by omega, by omega⟩ (fun c15 => ?_) (fun c15 => ?_)
        · exact hgo (fun z => by have := q2.mpr z; omega)
        · refine x_aload_n (pc := 18) dX5_goesOn_18 rfl rfl ?_
          refine x_dup (pc := 19) dX5_goesOn_19 rfl ?_
          refine x_geti (pc := 20) fX5_272 dX5_goesOn_20 hd.1 rfl (fun r20a r20b => ?_)
          rw [h13] at r20a r20b ⊢
          refine x_iconst (pc := 23) dX5_goesOn_23 ?_
          refine x_iadd (pc := 24) dX5_goesOn_24 ?_
          refine x_puti (pc := 25) fnX5_272 dX5_goesOn_25 hd.1 (by omega) rfl ⟨by omega, by omega⟩ ?_
          refine x_goto (pc := 28) (t := 0) dX5_goesOn_28 (by decide) ?_
          rw [if_pos (q2.mp (by omega))] at hsk
          refine ih (s + 1) _ (by omega) (hF.ms (by omega)) ?_ hsk
          rw [mset_same]
          omega
  exact l0 (n - e) e M (by omega) FrG.rf hp rfl
