/-! The reference's long numbers: set, copied, their parts, turned. -/
theorem vl_zs {f : Nat → Int} : ∀ n : Nat, (∀ i, i < n → f i = 0) → vl f n = 0
  | 0, _ => rfl
  | n + 1, h => by
    simp only [vl]
    rw [h n (by omega), vl_zs n (fun i hi => h i (by omega))]
    omega

set_option maxRecDepth 100000 in
theorem sp_X5_setsLong {g : GG} {lay : Lay} {M : Mem} {K : KK} {d : Nat} {k9 : Nat} {v : Int} {N : Nat → Int} (hd : MoL lay d) (hb0 : g.2.1 ≤ d) (hB : Bg N M d) (hk9 : k9 < 94) (hv : -1000000000 < v ∧ v < 1000000000) (k : ∀ M2, FrS d k9 M M2 → Bg (fup N k9 (v)) M2 d → K (.inl none) lay M2) : X g m_X5_setsLong 0 0 lay M 0 [(0, vR d), (1, vI k9), (2, vI v)] [] K := by
  have loop : ∀ (c j : Nat) (x : Int) (M1 : Mem), j + c = 32 → x = j → FrS d k9 M M1 → (∀ i, i < j → M1 (d + 7) (32 * k9 + i) = 0) → X g m_X5_setsLong 0 0 lay M1 8 [(4, vI x), (3, vI (32 * (k9 : Int))), (0, vR d), (1, vI k9), (2, vI v)] [] K := by
    intro c
    induction c with
    | zero =>
      intro j x M1 hj hx hF hz
      refine x_iload (pc := 8) dX5_setsLong_8 rfl ?_
      refine x_bipush (pc := 10) dX5_setsLong_10 (by decide) ?_
      refine x_icmp_ge (pc := 12) (t := 31) dX5_setsLong_12 (by decide) ⟨by omega, by omega⟩ ⟨by omega, by omega⟩ (fun c12 => ?_) (fun c12 => ?_)
      · refine x_aload_n (pc := 31) dX5_setsLong_31 rfl rfl ?_
        refine x_getr (pc := 32) (b := d + 7) fX5_29 dX5_setsLong_32 hd.1 rfl rfl ?_
        refine x_iload_n (pc := 35) dX5_setsLong_35 rfl rfl ?_
        refine x_iload_n (pc := 36) dX5_setsLong_36 rfl rfl ?_
        refine x_if_le (pc := 37) (t := 44) dX5_setsLong_37 (by decide) ⟨by omega, by omega⟩ (fun c37 => ?_) (fun c37 => ?_)
        · refine x_iload_n (pc := 44) dX5_setsLong_44 rfl rfl ?_
          refine x_if_ge (pc := 45) (t := 52) dX5_setsLong_45 (by decide) ⟨by omega, by omega⟩ (fun c45 => ?_) (fun c45 => ?_)
          · refine x_iconst (pc := 52) dX5_setsLong_52 ?_
            refine x_iast (pc := 53) dX5_setsLong_53 hd.2.2.2.2.2.2.2.1 (by omega) (by omega) (by omega) ⟨by omega, by omega⟩ ?_
            refine x_aload_n (pc := 54) dX5_setsLong_54 rfl rfl ?_
            refine x_getr (pc := 55) (b := d + 7) fX5_29 dX5_setsLong_55 hd.1 rfl rfl ?_
            refine x_iload_n (pc := 58) dX5_setsLong_58 rfl rfl ?_
            refine x_iconst (pc := 59) dX5_setsLong_59 ?_
            refine x_iadd (pc := 60) dX5_setsLong_60 ?_
            refine x_iload_n (pc := 61) dX5_setsLong_61 rfl rfl ?_
            refine x_if_ge (pc := 62) (t := 70) dX5_setsLong_62 (by decide) ⟨by omega, by omega⟩ (fun c62 => ?_) (fun c62 => ?_)
            · refine x_iload_n (pc := 70) dX5_setsLong_70 rfl rfl ?_
              refine x_iast (pc := 71) dX5_setsLong_71 hd.2.2.2.2.2.2.2.1 (by omega) (by omega) (by omega) ⟨by omega, by omega⟩ ?_
              refine x_vret (pc := 72) dX5_setsLong_72 rfl (by decide) (by decide) ?_
              rw [show (32 * (k9 : Int)).toNat = 32 * k9 + 0 by omega, show (32 * (k9 : Int) + 1).toNat = 32 * k9 + 1 by omega]
              have hF2 := (hF.ms (i := 32 * k9 + 0) (v := sg v) (by omega)).ms (i := 32 * k9 + 1) (v := ab v) (by omega)
              have k9' := k _ hF2 (hB.up hF2 (Sl_1 hv (by show mset _ _ _ _ (d + 7) (32 * k9 + 0) = _; rw [mset_nei (by omega), mset_same]) (by show mset _ _ _ _ (d + 7) (32 * k9 + 1) = _; rw [mset_same]) (fun i h2 hi => by show mset _ _ _ _ (d + 7) (32 * k9 + i) = _; rw [mset_nei (by omega), mset_nei (by omega)]; exact hz i (by omega))))
              unfold sg ab at k9'
              first
              | (exfalso; omega)
              | (rw [if_pos (by omega), if_pos (by omega)] at k9'; exact k9')
              | (rw [if_neg (by omega), if_pos (by omega), if_neg (by omega)] at k9'; exact k9')
              | (rw [if_neg (by omega), if_neg (by omega), if_neg (by omega), show -v = v by omega] at k9'; exact k9')
            · refine x_iload_n (pc := 65) dX5_setsLong_65 rfl rfl ?_
              refine x_ineg (pc := 66) dX5_setsLong_66 ?_
              refine x_goto (pc := 67) (t := 71) dX5_setsLong_67 (by decide) ?_
              refine x_iast (pc := 71) dX5_setsLong_71 hd.2.2.2.2.2.2.2.1 (by omega) (by omega) (by omega) ⟨by omega, by omega⟩ ?_
              refine x_vret (pc := 72) dX5_setsLong_72 rfl (by decide) (by decide) ?_
              rw [show (32 * (k9 : Int)).toNat = 32 * k9 + 0 by omega, show (32 * (k9 : Int) + 1).toNat = 32 * k9 + 1 by omega]
              have hF2 := (hF.ms (i := 32 * k9 + 0) (v := sg v) (by omega)).ms (i := 32 * k9 + 1) (v := ab v) (by omega)
              have k9' := k _ hF2 (hB.up hF2 (Sl_1 hv (by show mset _ _ _ _ (d + 7) (32 * k9 + 0) = _; rw [mset_nei (by omega), mset_same]) (by show mset _ _ _ _ (d + 7) (32 * k9 + 1) = _; rw [mset_same]) (fun i h2 hi => by show mset _ _ _ _ (d + 7) (32 * k9 + i) = _; rw [mset_nei (by omega), mset_nei (by omega)]; exact hz i (by omega))))
              unfold sg ab at k9'
              first
              | (exfalso; omega)
              | (rw [if_pos (by omega), if_pos (by omega)] at k9'; exact k9')
              | (rw [if_neg (by omega), if_pos (by omega), if_neg (by omega)] at k9'; exact k9')
              | (rw [if_neg (by omega), if_neg (by omega), if_neg (by omega), show -v = v by omega] at k9'; exact k9')
          · refine x_iconst (pc := 48) dX5_setsLong_48 ?_
            refine x_goto (pc := 49) (t := 53) dX5_setsLong_49 (by decide) ?_
            refine x_iast (pc := 53) dX5_setsLong_53 hd.2.2.2.2.2.2.2.1 (by omega) (by omega) (by omega) ⟨by omega, by omega⟩ ?_
            refine x_aload_n (pc := 54) dX5_setsLong_54 rfl rfl ?_
            refine x_getr (pc := 55) (b := d + 7) fX5_29 dX5_setsLong_55 hd.1 rfl rfl ?_
            refine x_iload_n (pc := 58) dX5_setsLong_58 rfl rfl ?_
            refine x_iconst (pc := 59) dX5_setsLong_59 ?_
            refine x_iadd (pc := 60) dX5_setsLong_60 ?_
            refine x_iload_n (pc := 61) dX5_setsLong_61 rfl rfl ?_
            refine x_if_ge (pc := 62) (t := 70) dX5_setsLong_62 (by decide) ⟨by omega, by omega⟩ (fun c62 => ?_) (fun c62 => ?_)
            · refine x_iload_n (pc := 70) dX5_setsLong_70 rfl rfl ?_
              refine x_iast (pc := 71) dX5_setsLong_71 hd.2.2.2.2.2.2.2.1 (by omega) (by omega) (by omega) ⟨by omega, by omega⟩ ?_
              refine x_vret (pc := 72) dX5_setsLong_72 rfl (by decide) (by decide) ?_
              rw [show (32 * (k9 : Int)).toNat = 32 * k9 + 0 by omega, show (32 * (k9 : Int) + 1).toNat = 32 * k9 + 1 by omega]
              have hF2 := (hF.ms (i := 32 * k9 + 0) (v := sg v) (by omega)).ms (i := 32 * k9 + 1) (v := ab v) (by omega)
              have k9' := k _ hF2 (hB.up hF2 (Sl_1 hv (by show mset _ _ _ _ (d + 7) (32 * k9 + 0) = _; rw [mset_nei (by omega), mset_same]) (by show mset _ _ _ _ (d + 7) (32 * k9 + 1) = _; rw [mset_same]) (fun i h2 hi => by show mset _ _ _ _ (d + 7) (32 * k9 + i) = _; rw [mset_nei (by omega), mset_nei (by omega)]; exact hz i (by omega))))
              unfold sg ab at k9'
              first
              | (exfalso; omega)
              | (rw [if_pos (by omega), if_pos (by omega)] at k9'; exact k9')
              | (rw [if_neg (by omega), if_pos (by omega), if_neg (by omega)] at k9'; exact k9')
              | (rw [if_neg (by omega), if_neg (by omega), if_neg (by omega), show -v = v by omega] at k9'; exact k9')
            · refine x_iload_n (pc := 65) dX5_setsLong_65 rfl rfl ?_
              refine x_ineg (pc := 66) dX5_setsLong_66 ?_
              refine x_goto (pc := 67) (t := 71) dX5_setsLong_67 (by decide) ?_
              refine x_iast (pc := 71) dX5_setsLong_71 hd.2.2.2.2.2.2.2.1 (by omega) (by omega) (by omega) ⟨by omega, by omega⟩ ?_
              refine x_vret (pc := 72) dX5_setsLong_72 rfl (by decide) (by decide) ?_
              rw [show (32 * (k9 : Int)).toNat = 32 * k9 + 0 by omega, show (32 * (k9 : Int) + 1).toNat = 32 * k9 + 1 by omega]
              have hF2 := (hF.ms (i := 32 * k9 + 0) (v := sg v) (by omega)).ms (i := 32 * k9 + 1) (v := ab v) (by omega)
              have k9' := k _ hF2 (hB.up hF2 (Sl_1 hv (by show mset _ _ _ _ (d + 7) (32 * k9 + 0) = _; rw [mset_nei (by omega), mset_same]) (by show mset _ _ _ _ (d + 7) (32 * k9 + 1) = _; rw [mset_same]) (fun i h2 hi => by show mset _ _ _ _ (d + 7) (32 * k9 + i) = _; rw [mset_nei (by omega), mset_nei (by omega)]; exact hz i (by omega))))
              unfold sg ab at k9'
              first
              | (exfalso; omega)
              | (rw [if_pos (by omega), if_pos (by omega)] at k9'; exact k9')
              | (rw [if_neg (by omega), if_pos (by omega), if_neg (by omega)] at k9'; exact k9')
              | (rw [if_neg (by omega), if_neg (by omega), if_neg (by omega), show -v = v by omega] at k9'; exact k9')
        · refine x_iconst (pc := 40) dX5_setsLong_40 ?_
          refine x_goto (pc := 41) (t := 53) dX5_setsLong_41 (by decide) ?_
          refine x_iast (pc := 53) dX5_setsLong_53 hd.2.2.2.2.2.2.2.1 (by omega) (by omega) (by omega) ⟨by omega, by omega⟩ ?_
          refine x_aload_n (pc := 54) dX5_setsLong_54 rfl rfl ?_
          refine x_getr (pc := 55) (b := d + 7) fX5_29 dX5_setsLong_55 hd.1 rfl rfl ?_
          refine x_iload_n (pc := 58) dX5_setsLong_58 rfl rfl ?_
          refine x_iconst (pc := 59) dX5_setsLong_59 ?_
          refine x_iadd (pc := 60) dX5_setsLong_60 ?_
          refine x_iload_n (pc := 61) dX5_setsLong_61 rfl rfl ?_
          refine x_if_ge (pc := 62) (t := 70) dX5_setsLong_62 (by decide) ⟨by omega, by omega⟩ (fun c62 => ?_) (fun c62 => ?_)
          · refine x_iload_n (pc := 70) dX5_setsLong_70 rfl rfl ?_
            refine x_iast (pc := 71) dX5_setsLong_71 hd.2.2.2.2.2.2.2.1 (by omega) (by omega) (by omega) ⟨by omega, by omega⟩ ?_
            refine x_vret (pc := 72) dX5_setsLong_72 rfl (by decide) (by decide) ?_
            rw [show (32 * (k9 : Int)).toNat = 32 * k9 + 0 by omega, show (32 * (k9 : Int) + 1).toNat = 32 * k9 + 1 by omega]
            have hF2 := (hF.ms (i := 32 * k9 + 0) (v := sg v) (by omega)).ms (i := 32 * k9 + 1) (v := ab v) (by omega)
            have k9' := k _ hF2 (hB.up hF2 (Sl_1 hv (by show mset _ _ _ _ (d + 7) (32 * k9 + 0) = _; rw [mset_nei (by omega), mset_same]) (by show mset _ _ _ _ (d + 7) (32 * k9 + 1) = _; rw [mset_same]) (fun i h2 hi => by show mset _ _ _ _ (d + 7) (32 * k9 + i) = _; rw [mset_nei (by omega), mset_nei (by omega)]; exact hz i (by omega))))
            unfold sg ab at k9'
            first
            | (exfalso; omega)
            | (rw [if_pos (by omega), if_pos (by omega)] at k9'; exact k9')
            | (rw [if_neg (by omega), if_pos (by omega), if_neg (by omega)] at k9'; exact k9')
            | (rw [if_neg (by omega), if_neg (by omega), if_neg (by omega), show -v = v by omega] at k9'; exact k9')
          · refine x_iload_n (pc := 65) dX5_setsLong_65 rfl rfl ?_
            refine x_ineg (pc := 66) dX5_setsLong_66 ?_
            refine x_goto (pc := 67) (t := 71) dX5_setsLong_67 (by decide) ?_
            refine x_iast (pc := 71) dX5_setsLong_71 hd.2.2.2.2.2.2.2.1 (by omega) (by omega) (by omega) ⟨by omega, by omega⟩ ?_
            refine x_vret (pc := 72) dX5_setsLong_72 rfl (by decide) (by decide) ?_
            rw [show (32 * (k9 : Int)).toNat = 32 * k9 + 0 by omega, show (32 * (k9 : Int) + 1).toNat = 32 * k9 + 1 by omega]
            have hF2 := (hF.ms (i := 32 * k9 + 0) (v := sg v) (by omega)).ms (i := 32 * k9 + 1) (v := ab v) (by omega)
            have k9' := k _ hF2 (hB.up hF2 (Sl_1 hv (by show mset _ _ _ _ (d + 7) (32 * k9 + 0) = _; rw [mset_nei (by omega), mset_same]) (by show mset _ _ _ _ (d + 7) (32 * k9 + 1) = _; rw [mset_same]) (fun i h2 hi => by show mset _ _ _ _ (d + 7) (32 * k9 + i) = _; rw [mset_nei (by omega), mset_nei (by omega)]; exact hz i (by omega))))
            unfold sg ab at k9'
            first
            | (exfalso; omega)
            | (rw [if_pos (by omega), if_pos (by omega)] at k9'; exact k9')
            | (rw [if_neg (by omega), if_pos (by omega), if_neg (by omega)] at k9'; exact k9')
            | (rw [if_neg (by omega), if_neg (by omega), if_neg (by omega), show -v = v by omega] at k9'; exact k9')
      · exfalso; omega
    | succ c ih =>
      intro j x M1 hj hx hF hz
      refine x_iload (pc := 8) dX5_setsLong_8 rfl ?_
      refine x_bipush (pc := 10) dX5_setsLong_10 (by decide) ?_
      refine x_icmp_ge (pc := 12) (t := 31) dX5_setsLong_12 (by decide) ⟨by omega, by omega⟩ ⟨by omega, by omega⟩ (fun c12 => ?_) (fun c12 => ?_)
      · exfalso; omega
      · refine x_aload_n (pc := 15) dX5_setsLong_15 rfl rfl ?_
        refine x_getr (pc := 16) (b := d + 7) fX5_29 dX5_setsLong_16 hd.1 rfl rfl ?_
        refine x_iload_n (pc := 19) dX5_setsLong_19 rfl rfl ?_
        refine x_iload (pc := 20) dX5_setsLong_20 rfl ?_
        refine x_iadd (pc := 22) dX5_setsLong_22 ?_
        refine x_iconst (pc := 23) dX5_setsLong_23 ?_
        refine x_iast (pc := 24) dX5_setsLong_24 hd.2.2.2.2.2.2.2.1 (by omega) (by omega) (by omega) ⟨by omega, by omega⟩ ?_
        refine x_iinc (pc := 25) dX5_setsLong_25 rfl (by decide) (L' := [(4, _), (3, _), (0, _), (1, _), (2, _)]) rfl ?_
        refine x_goto (pc := 28) (t := 8) dX5_setsLong_28 (by decide) ?_
        refine X.loc [0, 1, 2, 3, 4] (L' := [(4, _), (3, _), (0, _), (1, _), (2, _)]) rfl ?_
        rw [show (32 * (k9 : Int) + x).toNat = 32 * k9 + j by omega]
        refine ih (j + 1) _ _ (by omega) (by omega) (hF.ms (by omega)) (fun i hi => ?_)
        by_cases e : i = j
        · rw [e, mset_same]
        · rw [mset_nei (by omega)]
          exact hz i (by omega)
  refine x_iload_n (pc := 0) dX5_setsLong_0 rfl rfl ?_
  refine x_callS (pc := 1) [_] rfl kX5_58 dX5_setsLong_1 rfl (by decide) (Nat.le_of_ble_eq_true rfl) (Nat.le_of_ble_eq_true rfl) (by decide) ?_
  refine sp_X5_slot ?_
  refine ⟨_, rfl, ?_⟩
  refine x_istore_n (pc := 4) dX5_setsLong_4 rfl (by decide) (L' := [(3, _), (0, _), (1, _), (2, _)]) rfl ?_
  refine x_iconst (pc := 5) dX5_setsLong_5 ?_
  refine x_istore (pc := 6) dX5_setsLong_6 trivial (by decide) (L' := [(4, _), (3, _), (0, _), (1, _), (2, _)]) rfl ?_
  refine X.loc [0, 1, 2, 3, 4] (L' := [(4, _), (3, _), (0, _), (1, _), (2, _)]) rfl ?_
  exact loop 32 0 _ _ rfl rfl FrS.rf (fun i hi => by omega)
set_option maxRecDepth 100000 in
theorem sp_X5_copiesLong {g : GG} {lay : Lay} {M : Mem} {K : KK} {d : Nat} {k9 t9 : Nat} {N : Nat → Int} (hd : MoL lay d) (hb0 : g.2.1 ≤ d) (hB : Bg N M d) (hk9 : k9 < 94) (ht9 : t9 < 94) (k : ∀ M2, FrS d t9 M M2 → Bg (fup N t9 (N k9)) M2 d → K (.inl none) lay M2) : X g m_X5_copiesLong 0 0 lay M 0 [(0, vR d), (1, vI k9), (2, vI t9)] [] K := by
  have loop : ∀ (c j : Nat) (x : Int) (M1 : Mem), j + c = 32 → x = j → FrS d t9 M M1 → (∀ i, i < j → M1 (d + 7) (32 * t9 + i) = M (d + 7) (32 * k9 + i)) → (∀ i, j ≤ i → i < 32 → M1 (d + 7) (32 * k9 + i) = M (d + 7) (32 * k9 + i)) → X g m_X5_copiesLong 0 0 lay M1 2 [(3, vI x), (0, vR d), (1, vI k9), (2, vI t9)] [] K := by
    intro c
    induction c with
    | zero =>
      intro j x M1 hj hx hF hz hy
      refine x_iload_n (pc := 2) dX5_copiesLong_2 rfl rfl ?_
      refine x_bipush (pc := 3) dX5_copiesLong_3 (by decide) ?_
      refine x_icmp_ge (pc := 5) (t := 36) dX5_copiesLong_5 (by decide) ⟨by omega, by omega⟩ ⟨by omega, by omega⟩ (fun c5 => ?_) (fun c5 => ?_)
      · refine x_vret (pc := 36) dX5_copiesLong_36 rfl (by decide) (by decide) ?_
        exact k _ hF (hB.up hF ((hB k9 hk9).cong (fun i hi => hz i (by omega))))
      · exfalso; omega
    | succ c ih =>
      intro j x M1 hj hx hF hz hy
      have e1 := hy j (by omega) (by omega)
      refine x_iload_n (pc := 2) dX5_copiesLong_2 rfl rfl ?_
      refine x_bipush (pc := 3) dX5_copiesLong_3 (by decide) ?_
      refine x_icmp_ge (pc := 5) (t := 36) dX5_copiesLong_5 (by decide) ⟨by omega, by omega⟩ ⟨by omega, by omega⟩ (fun c5 => ?_) (fun c5 => ?_)
      · exfalso; omega
      · refine x_aload_n (pc := 8) dX5_copiesLong_8 rfl rfl ?_
        refine x_getr (pc := 9) (b := d + 7) fX5_29 dX5_copiesLong_9 hd.1 rfl rfl ?_
        refine x_iload_n (pc := 12) dX5_copiesLong_12 rfl rfl ?_
        refine x_callS (pc := 13) [_] rfl kX5_58 dX5_copiesLong_13 rfl (by decide) (Nat.le_of_ble_eq_true rfl) (Nat.le_of_ble_eq_true rfl) (by decide) ?_
        refine sp_X5_slot ?_
        refine ⟨_, rfl, ?_⟩
        refine x_iload_n (pc := 16) dX5_copiesLong_16 rfl rfl ?_
        refine x_iadd (pc := 17) dX5_copiesLong_17 ?_
        refine x_aload_n (pc := 18) dX5_copiesLong_18 rfl rfl ?_
        refine x_getr (pc := 19) (b := d + 7) fX5_29 dX5_copiesLong_19 hd.1 rfl rfl ?_
        refine x_iload_n (pc := 22) dX5_copiesLong_22 rfl rfl ?_
        refine x_callS (pc := 23) [_] rfl kX5_58 dX5_copiesLong_23 rfl (by decide) (Nat.le_of_ble_eq_true rfl) (Nat.le_of_ble_eq_true rfl) (by decide) ?_
        refine sp_X5_slot ?_
        refine ⟨_, rfl, ?_⟩
        refine x_iload_n (pc := 26) dX5_copiesLong_26 rfl rfl ?_
        refine x_iadd (pc := 27) dX5_copiesLong_27 ?_
        refine x_iald (pc := 28) dX5_copiesLong_28 hd.2.2.2.2.2.2.2.1 (by omega) (by omega) (fun r28a r28b => ?_)
        rw [show (32 * (k9 : Int) + x).toNat = 32 * k9 + j by omega, e1] at r28a r28b ⊢
        refine x_iast (pc := 29) dX5_copiesLong_29 hd.2.2.2.2.2.2.2.1 (by omega) (by omega) (by omega) ⟨by omega, by omega⟩ ?_
        refine x_iinc (pc := 30) dX5_copiesLong_30 rfl (by decide) (L' := [(3, _), (0, _), (1, _), (2, _)]) rfl ?_
        refine x_goto (pc := 33) (t := 2) dX5_copiesLong_33 (by decide) ?_
        refine X.loc [0, 1, 2, 3] (L' := [(3, _), (0, _), (1, _), (2, _)]) rfl ?_
        rw [show (32 * (t9 : Int) + x).toNat = 32 * t9 + j by omega]
        refine ih (j + 1) _ _ (by omega) (by omega) (hF.ms (by omega)) (fun i hi => ?_) (fun i h1 h2 => ?_)
        · by_cases e : i = j
          · rw [e, mset_same]
          · rw [mset_nei (by omega)]
            exact hz i (by omega)
        · by_cases e : t9 = k9
          · rw [e, mset_nei (by omega)]
            exact hy i (by omega) h2
          · rw [mset_nei (by omega)]
            exact hy i (by omega) h2
  refine x_iconst (pc := 0) dX5_copiesLong_0 ?_
  refine x_istore_n (pc := 1) dX5_copiesLong_1 rfl (by decide) (L' := [(3, _), (0, _), (1, _), (2, _)]) rfl ?_
  refine X.loc [0, 1, 2, 3] (L' := [(3, _), (0, _), (1, _), (2, _)]) rfl ?_
  exact loop 32 0 _ _ rfl rfl FrS.rf (fun i hi => by omega) (fun i _ hi => rfl)
set_option maxRecDepth 100000 in
theorem sp_X5_turns {g : GG} {lay : Lay} {M : Mem} {K : KK} {d : Nat} {k9 : Nat} {N : Nat → Int} (hd : MoL lay d) (hb0 : g.2.1 ≤ d) (hB : Bg N M d) (hk9 : k9 < 94) (k : ∀ M2, FrS d k9 M M2 → Bg (fup N k9 (-N k9)) M2 d → K (.inl none) lay M2) : X g m_X5_turns 0 0 lay M 0 [(0, vR d), (1, vI k9)] [] K := by
  have h0 : M (d + 7) (32 * k9 + 0) = sg (N k9) := (hB k9 hk9).1
  have hsr := sg_rng (N k9)
  refine x_aload_n (pc := 0) dX5_turns_0 rfl rfl ?_
  refine x_getr (pc := 1) (b := d + 7) fX5_29 dX5_turns_1 hd.1 rfl rfl ?_
  refine x_iload_n (pc := 4) dX5_turns_4 rfl rfl ?_
  refine x_callS (pc := 5) [_] rfl kX5_58 dX5_turns_5 rfl (by decide) (Nat.le_of_ble_eq_true rfl) (Nat.le_of_ble_eq_true rfl) (by decide) ?_
  refine sp_X5_slot ?_
  refine ⟨_, rfl, ?_⟩
  refine x_aload_n (pc := 8) dX5_turns_8 rfl rfl ?_
  refine x_getr (pc := 9) (b := d + 7) fX5_29 dX5_turns_9 hd.1 rfl rfl ?_
  refine x_iload_n (pc := 12) dX5_turns_12 rfl rfl ?_
  refine x_callS (pc := 13) [_] rfl kX5_58 dX5_turns_13 rfl (by decide) (Nat.le_of_ble_eq_true rfl) (Nat.le_of_ble_eq_true rfl) (by decide) ?_
  refine sp_X5_slot ?_
  refine ⟨_, rfl, ?_⟩
  refine x_iald (pc := 16) dX5_turns_16 hd.2.2.2.2.2.2.2.1 (by omega) (by omega) (fun r16a r16b => ?_)
  rw [show (32 * (k9 : Int)).toNat = 32 * k9 + 0 by omega, h0] at r16a r16b ⊢
  refine x_ineg (pc := 17) dX5_turns_17 ?_
  refine x_iast (pc := 18) dX5_turns_18 hd.2.2.2.2.2.2.2.1 (by omega) (by omega) (by omega) ⟨by omega, by omega⟩ ?_
  refine x_vret (pc := 19) dX5_turns_19 rfl (by decide) (by decide) ?_
  have hF : FrS d k9 M (mset M (d + 7) (32 * k9 + 0) (-sg (N k9))) := FrS.rf.ms (by omega)
  rw [show (32 * (k9 : Int)).toNat = 32 * k9 + 0 by omega]
  refine k _ hF (hB.up hF ⟨?_, fun i hi => ?_, ?_⟩)
  · show mset _ _ _ _ (d + 7) (32 * k9 + 0) = _
    rw [mset_same, sg_neg]
  · show 0 ≤ mset _ _ _ _ (d + 7) (32 * k9 + (i + 1)) ∧ mset _ _ _ _ (d + 7) (32 * k9 + (i + 1)) < _
    rw [mset_nei (by omega)]
    exact (hB k9 hk9).2.1 i hi
  · rw [ab_neg, ← (hB k9 hk9).2.2]
    refine vl_cong 31 (fun i hi => ?_)
    show mset _ _ _ _ (d + 7) (32 * k9 + (i + 1)) = _
    rw [mset_nei (by omega)]
set_option maxRecDepth 100000 in
theorem sp_X5_partsOf {g : GG} {lay : Lay} {M : Mem} {K : KK} {d : Nat} {k9 : Nat} {v : Int} (hd : MoL lay d) (hb0 : g.2.1 ≤ d) (hv : Sl v (slm M d k9)) (hk9 : k9 < 94) (k : ∀ n : Nat, n ≤ 31 → (∀ i, n ≤ i → i < 31 → slm M d k9 (i + 1) = 0) → (0 < n → 1 ≤ slm M d k9 n) → K (.inl (some (vI n))) lay M) : X g m_X5_partsOf 0 0 lay M 0 [(0, vR d), (1, vI k9)] [] K := by
  have h0 : M (d + 7) (32 * k9 + 0) = sg v := hv.1
  have hsr := sg_rng v
  have loop : ∀ (n : Nat) (y : Int), n ≤ 31 → y = n → (∀ i, n ≤ i → i < 31 → slm M d k9 (i + 1) = 0) → X g m_X5_partsOf 0 0 lay M 21 [(3, vI y), (2, vI (32 * (k9 : Int))), (0, vR d), (1, vI k9)] [] K := by
    intro n
    induction n with
    | zero =>
      intro y hn hy hz
      refine x_iload_n (pc := 21) dX5_partsOf_21 rfl rfl ?_
      refine x_if_le (pc := 22) (t := 42) dX5_partsOf_22 (by decide) ⟨by omega, by omega⟩ (fun c22 => ?_) (fun c22 => ?_)
      · refine x_iload_n (pc := 42) dX5_partsOf_42 rfl rfl ?_
        refine x_iret (pc := 43) dX5_partsOf_43 rfl (by decide) (by decide) ?_
        rw [hy]
        exact k 0 (by omega) hz (fun h => by omega)
      · exfalso; omega
    | succ n ih =>
      intro y hn hy hz
      have e1 : (32 * (k9 : Int) + y).toNat = 32 * k9 + (n + 1) := by omega
      have e2 := hv.2.1 n (by omega)
      refine x_iload_n (pc := 21) dX5_partsOf_21 rfl rfl ?_
      refine x_if_le (pc := 22) (t := 42) dX5_partsOf_22 (by decide) ⟨by omega, by omega⟩ (fun c22 => ?_) (fun c22 => ?_)
      · exfalso; omega
      · refine x_aload_n (pc := 25) dX5_partsOf_25 rfl rfl ?_
        refine x_getr (pc := 26) (b := d + 7) fX5_29 dX5_partsOf_26 hd.1 rfl rfl ?_
        refine x_iload_n (pc := 29) dX5_partsOf_29 rfl rfl ?_
        refine x_iload_n (pc := 30) dX5_partsOf_30 rfl rfl ?_
        refine x_iadd (pc := 31) dX5_partsOf_31 ?_
        refine x_iald (pc := 32) dX5_partsOf_32 hd.2.2.2.2.2.2.2.1 (by omega) (by omega) (fun r32a r32b => ?_)
        rw [e1] at r32a r32b ⊢
        refine x_if_ne (pc := 33) (t := 42) dX5_partsOf_33 (by decide) ⟨by omega, by omega⟩ (fun c33 => ?_) (fun c33 => ?_)
        · refine x_iload_n (pc := 42) dX5_partsOf_42 rfl rfl ?_
          refine x_iret (pc := 43) dX5_partsOf_43 rfl (by decide) (by decide) ?_
          rw [hy]
          refine k (n + 1) (by omega) hz (fun _ => ?_)
          have e3 : slm M d k9 (n + 1) ≠ 0 := c33
          omega
        · refine x_iinc (pc := 36) dX5_partsOf_36 rfl (by decide) (L' := [(3, _), (2, _), (0, _), (1, _)]) rfl ?_
          refine x_goto (pc := 39) (t := 21) dX5_partsOf_39 (by decide) ?_
          refine X.loc [0, 1, 2, 3] (L' := [(3, _), (2, _), (0, _), (1, _)]) rfl ?_
          refine ih _ (by omega) (by omega) (fun i h1 h2 => ?_)
          by_cases e : i = n
          · rw [e]
            exact c33
          · exact hz i (by omega) h2
  refine x_iload_n (pc := 0) dX5_partsOf_0 rfl rfl ?_
  refine x_callS (pc := 1) [_] rfl kX5_58 dX5_partsOf_1 rfl (by decide) (Nat.le_of_ble_eq_true rfl) (Nat.le_of_ble_eq_true rfl) (by decide) ?_
  refine sp_X5_slot ?_
  refine ⟨_, rfl, ?_⟩
  refine x_istore_n (pc := 4) dX5_partsOf_4 rfl (by decide) (L' := [(2, _), (0, _), (1, _)]) rfl ?_
  refine x_aload_n (pc := 5) dX5_partsOf_5 rfl rfl ?_
  refine x_getr (pc := 6) (b := d + 7) fX5_29 dX5_partsOf_6 hd.1 rfl rfl ?_
  refine x_iload_n (pc := 9) dX5_partsOf_9 rfl rfl ?_
  refine x_iald (pc := 10) dX5_partsOf_10 hd.2.2.2.2.2.2.2.1 (by omega) (by omega) (fun r10a r10b => ?_)
  rw [show (32 * (k9 : Int)).toNat = 32 * k9 + 0 by omega, h0] at r10a r10b ⊢
  refine x_if_ne (pc := 11) (t := 18) dX5_partsOf_11 (by decide) ⟨by omega, by omega⟩ (fun c11 => ?_) (fun c11 => ?_)
  · refine x_bipush (pc := 18) dX5_partsOf_18 (by decide) ?_
    refine x_istore_n (pc := 20) dX5_partsOf_20 rfl (by decide) (L' := [(3, _), (2, _), (0, _), (1, _)]) rfl ?_
    refine X.loc [0, 1, 2, 3] (L' := [(3, _), (2, _), (0, _), (1, _)]) rfl ?_
    first
    | exact loop 31 _ (by omega) rfl (fun i h1 h2 => by omega)
    | (refine loop 0 _ (by omega) rfl (fun i _ h2 => ?_)
       have e3 : v = 0 := sg_0.mp c11
       exact vl_z 31 hv.dn (by rw [hv.2.2, e3]; rfl) i h2)
  · refine x_iconst (pc := 14) dX5_partsOf_14 ?_
    refine x_goto (pc := 15) (t := 20) dX5_partsOf_15 (by decide) ?_
    refine x_istore_n (pc := 20) dX5_partsOf_20 rfl (by decide) (L' := [(3, _), (2, _), (0, _), (1, _)]) rfl ?_
    refine X.loc [0, 1, 2, 3] (L' := [(3, _), (2, _), (0, _), (1, _)]) rfl ?_
    first
    | exact loop 31 _ (by omega) rfl (fun i h1 h2 => by omega)
    | (refine loop 0 _ (by omega) rfl (fun i _ h2 => ?_)
       have e3 : v = 0 := sg_0.mp c11
       exact vl_z 31 hv.dn (by rw [hv.2.2, e3]; rfl) i h2)
set_option maxRecDepth 100000 in
theorem sp_X5_comparesAmounts {g : GG} {lay : Lay} {M : Mem} {K : KK} {d : Nat} {k9 t9 : Nat} {v w : Int} (hd : MoL lay d) (hb0 : g.2.1 ≤ d) (hv : Sl v (slm M d k9)) (hk9 : k9 < 94) (hw : Sl w (slm M d t9)) (ht9 : t9 < 94) (k : K (.inl (some (vI (sg (ab v - ab w))))) lay M) : X g m_X5_comparesAmounts 0 0 lay M 0 [(0, vR d), (1, vI k9), (2, vI t9)] [] K := by
  have low : ∀ m : Nat, m < 31 → (∀ i, m < i → i < 31 → slm M d k9 (i + 1) = slm M d t9 (i + 1)) → slm M d t9 (m + 1) < slm M d k9 (m + 1) → ab w < ab v := by
    intro m hm he hl
    have a1 := vl_lt (f := fun i => slm M d t9 (i + 1)) m (fun i hi => hw.2.1 i (by omega))
    have a2 := vl_nn (f := fun i => slm M d k9 (i + 1)) m (fun i hi => (hv.2.1 i (by omega)).1)
    have a3 : ∀ n, m + 1 ≤ n → n ≤ 31 → vl (fun i => slm M d k9 (i + 1)) n - vl (fun i => slm M d t9 (i + 1)) n = vl (fun i => slm M d k9 (i + 1)) (m + 1) - vl (fun i => slm M d t9 (i + 1)) (m + 1) := by
      intro n
      induction n with
      | zero => intro h; omega
      | succ n ih =>
        intro h h2
        by_cases e : m + 1 = n + 1
        · rw [e]
        · have := ih (by omega) (by omega)
          have e3 := he n (by omega) (by omega)
          simp only [vl] at this ⊢
          rw [e3]
          omega
    have a4 := a3 31 (by omega) (by omega)
    rw [hv.2.2, hw.2.2] at a4
    have a5 := Int.mul_le_mul_of_nonneg_right (show slm M d t9 (m + 1) + 1 ≤ slm M d k9 (m + 1) by omega) (show 0 ≤ pB m by have := pB_pos m; omega)
    simp only [vl] at a4
    rw [Int.add_mul] at a5
    omega
  have low2 : ∀ m : Nat, m < 31 → (∀ i, m < i → i < 31 → slm M d k9 (i + 1) = slm M d t9 (i + 1)) → slm M d k9 (m + 1) < slm M d t9 (m + 1) → ab v < ab w := by
    intro m hm he hl
    have a1 := vl_lt (f := fun i => slm M d k9 (i + 1)) m (fun i hi => hv.2.1 i (by omega))
    have a2 := vl_nn (f := fun i => slm M d t9 (i + 1)) m (fun i hi => (hw.2.1 i (by omega)).1)
    have a3 : ∀ n, m + 1 ≤ n → n ≤ 31 → vl (fun i => slm M d t9 (i + 1)) n - vl (fun i => slm M d k9 (i + 1)) n = vl (fun i => slm M d t9 (i + 1)) (m + 1) - vl (fun i => slm M d k9 (i + 1)) (m + 1) := by
      intro n
      induction n with
      | zero => intro h; omega
      | succ n ih =>
        intro h h2
        by_cases e : m + 1 = n + 1
        · rw [e]
        · have := ih (by omega) (by omega)
          have e3 := he n (by omega) (by omega)
          simp only [vl] at this ⊢
          rw [e3]
          omega
    have a4 := a3 31 (by omega) (by omega)
    rw [hv.2.2, hw.2.2] at a4
    have a5 := Int.mul_le_mul_of_nonneg_right (show slm M d k9 (m + 1) + 1 ≤ slm M d t9 (m + 1) by omega) (show 0 ≤ pB m by have := pB_pos m; omega)
    simp only [vl] at a4
    rw [Int.add_mul] at a5
    omega
  have loop : ∀ (n : Nat) (y z : Int), n ≤ 31 → y = n → (∀ i, n ≤ i → i < 31 → slm M d k9 (i + 1) = slm M d t9 (i + 1)) → X g m_X5_comparesAmounts 0 0 lay M 31 [(4, vI z), (3, vI y), (0, vR d), (1, vI k9), (2, vI t9)] [] K := by
    intro n
    induction n with
    | zero =>
      intro y z hn hy hz
      have e9 : ab v = ab w := by
        rw [← hv.2.2, ← hw.2.2]
        exact vl_cong 31 (fun i hi => hz i (by omega) hi)
      rw [e9, Int.sub_self] at k
      refine x_iload_n (pc := 31) dX5_comparesAmounts_31 rfl rfl ?_
      refine x_if_le (pc := 32) (t := 66) dX5_comparesAmounts_32 (by decide) ⟨by omega, by omega⟩ (fun c32 => ?_) (fun c32 => ?_)
      · refine x_iload_n (pc := 66) dX5_comparesAmounts_66 rfl rfl ?_
        refine x_if_ne (pc := 67) (t := 74) dX5_comparesAmounts_67 (by decide) ⟨by omega, by omega⟩ (fun c67 => ?_) (fun c67 => ?_)
        · exfalso; omega
        · refine x_iconst (pc := 70) dX5_comparesAmounts_70 ?_
          refine x_goto (pc := 71) (t := 104) dX5_comparesAmounts_71 (by decide) ?_
          refine x_iret (pc := 104) dX5_comparesAmounts_104 rfl (by decide) (by decide) ?_
          exact k
      · exfalso; omega
    | succ n ih =>
      intro y z hn hy hz
      have e1 : (32 * (k9 : Int) + y).toNat = 32 * k9 + (n + 1) := by omega
      have e2 : (32 * (t9 : Int) + y).toNat = 32 * t9 + (n + 1) := by omega
      have l1 := low n (by omega) (fun i h1 h2 => hz i (by omega) h2)
      have l2 := low2 n (by omega) (fun i h1 h2 => hz i (by omega) h2)
      refine x_iload_n (pc := 31) dX5_comparesAmounts_31 rfl rfl ?_
      refine x_if_le (pc := 32) (t := 66) dX5_comparesAmounts_32 (by decide) ⟨by omega, by omega⟩ (fun c32 => ?_) (fun c32 => ?_)
      · exfalso; omega
      · refine x_aload_n (pc := 35) dX5_comparesAmounts_35 rfl rfl ?_
        refine x_getr (pc := 36) (b := d + 7) fX5_29 dX5_comparesAmounts_36 hd.1 rfl rfl ?_
        refine x_iload_n (pc := 39) dX5_comparesAmounts_39 rfl rfl ?_
        refine x_callS (pc := 40) [_] rfl kX5_58 dX5_comparesAmounts_40 rfl (by decide) (Nat.le_of_ble_eq_true rfl) (Nat.le_of_ble_eq_true rfl) (by decide) ?_
        refine sp_X5_slot ?_
        refine ⟨_, rfl, ?_⟩
        refine x_iload_n (pc := 43) dX5_comparesAmounts_43 rfl rfl ?_
        refine x_iadd (pc := 44) dX5_comparesAmounts_44 ?_
        refine x_iald (pc := 45) dX5_comparesAmounts_45 hd.2.2.2.2.2.2.2.1 (by omega) (by omega) (fun r45a r45b => ?_)
        rw [e1] at r45a r45b ⊢
        refine x_aload_n (pc := 46) dX5_comparesAmounts_46 rfl rfl ?_
        refine x_getr (pc := 47) (b := d + 7) fX5_29 dX5_comparesAmounts_47 hd.1 rfl rfl ?_
        refine x_iload_n (pc := 50) dX5_comparesAmounts_50 rfl rfl ?_
        refine x_callS (pc := 51) [_] rfl kX5_58 dX5_comparesAmounts_51 rfl (by decide) (Nat.le_of_ble_eq_true rfl) (Nat.le_of_ble_eq_true rfl) (by decide) ?_
        refine sp_X5_slot ?_
        refine ⟨_, rfl, ?_⟩
        refine x_iload_n (pc := 54) dX5_comparesAmounts_54 rfl rfl ?_
        refine x_iadd (pc := 55) dX5_comparesAmounts_55 ?_
        refine x_iald (pc := 56) dX5_comparesAmounts_56 hd.2.2.2.2.2.2.2.1 (by omega) (by omega) (fun r56a r56b => ?_)
        rw [e2] at r56a r56b ⊢
        refine x_icmp_ne (pc := 57) (t := 66) dX5_comparesAmounts_57 (by decide) ⟨by omega, by omega⟩ ⟨by omega, by omega⟩ (fun c57 => ?_) (fun c57 => ?_)
        · refine x_iload_n (pc := 66) dX5_comparesAmounts_66 rfl rfl ?_
          refine x_if_ne (pc := 67) (t := 74) dX5_comparesAmounts_67 (by decide) ⟨by omega, by omega⟩ (fun c67 => ?_) (fun c67 => ?_)
          · refine x_aload_n (pc := 74) dX5_comparesAmounts_74 rfl rfl ?_
            refine x_getr (pc := 75) (b := d + 7) fX5_29 dX5_comparesAmounts_75 hd.1 rfl rfl ?_
            refine x_iload_n (pc := 78) dX5_comparesAmounts_78 rfl rfl ?_
            refine x_callS (pc := 79) [_] rfl kX5_58 dX5_comparesAmounts_79 rfl (by decide) (Nat.le_of_ble_eq_true rfl) (Nat.le_of_ble_eq_true rfl) (by decide) ?_
            refine sp_X5_slot ?_
            refine ⟨_, rfl, ?_⟩
            refine x_iload_n (pc := 82) dX5_comparesAmounts_82 rfl rfl ?_
            refine x_iadd (pc := 83) dX5_comparesAmounts_83 ?_
            refine x_iald (pc := 84) dX5_comparesAmounts_84 hd.2.2.2.2.2.2.2.1 (by omega) (by omega) (fun r84a r84b => ?_)
            rw [e1] at r84a r84b ⊢
            refine x_aload_n (pc := 85) dX5_comparesAmounts_85 rfl rfl ?_
            refine x_getr (pc := 86) (b := d + 7) fX5_29 dX5_comparesAmounts_86 hd.1 rfl rfl ?_
            refine x_iload_n (pc := 89) dX5_comparesAmounts_89 rfl rfl ?_
            refine x_callS (pc := 90) [_] rfl kX5_58 dX5_comparesAmounts_90 rfl (by decide) (Nat.le_of_ble_eq_true rfl) (Nat.le_of_ble_eq_true rfl) (by decide) ?_
            refine sp_X5_slot ?_
            refine ⟨_, rfl, ?_⟩
            refine x_iload_n (pc := 93) dX5_comparesAmounts_93 rfl rfl ?_
            refine x_iadd (pc := 94) dX5_comparesAmounts_94 ?_
            refine x_iald (pc := 95) dX5_comparesAmounts_95 hd.2.2.2.2.2.2.2.1 (by omega) (by omega) (fun r95a r95b => ?_)
            rw [e2] at r95a r95b ⊢
            refine x_icmp_le (pc := 96) (t := 103) dX5_comparesAmounts_96 (by decide) ⟨by omega, by omega⟩ ⟨by omega, by omega⟩ (fun c96 => ?_) (fun c96 => ?_)
            · refine x_iconst (pc := 103) dX5_comparesAmounts_103 ?_
              refine x_iret (pc := 104) dX5_comparesAmounts_104 rfl (by decide) (by decide) ?_
              first
              | (have z9 := l1 (by show M (d + 7) (32 * t9 + (n + 1)) < M (d + 7) (32 * k9 + (n + 1)); omega)
                 unfold sg at k
                 rw [if_pos (by omega)] at k
                 exact k)
              | (have z9 := l2 (by show M (d + 7) (32 * k9 + (n + 1)) < M (d + 7) (32 * t9 + (n + 1)); omega)
                 unfold sg at k
                 rw [if_neg (by omega), if_pos (by omega)] at k
                 exact k)
            · refine x_iconst (pc := 99) dX5_comparesAmounts_99 ?_
              refine x_goto (pc := 100) (t := 104) dX5_comparesAmounts_100 (by decide) ?_
              refine x_iret (pc := 104) dX5_comparesAmounts_104 rfl (by decide) (by decide) ?_
              first
              | (have z9 := l1 (by show M (d + 7) (32 * t9 + (n + 1)) < M (d + 7) (32 * k9 + (n + 1)); omega)
                 unfold sg at k
                 rw [if_pos (by omega)] at k
                 exact k)
              | (have z9 := l2 (by show M (d + 7) (32 * k9 + (n + 1)) < M (d + 7) (32 * t9 + (n + 1)); omega)
                 unfold sg at k
                 rw [if_neg (by omega), if_pos (by omega)] at k
                 exact k)
          · exfalso; omega
        · refine x_iinc (pc := 60) dX5_comparesAmounts_60 rfl (by decide) (L' := [(3, _), (4, _), (0, _), (1, _), (2, _)]) rfl ?_
          refine x_goto (pc := 63) (t := 31) dX5_comparesAmounts_63 (by decide) ?_
          refine X.loc [1, 0, 2, 3, 4] (L' := [(4, _), (3, _), (0, _), (1, _), (2, _)]) rfl ?_
          refine ih _ _ (by omega) (by omega) (fun i h1 h2 => ?_)
          by_cases e : i = n
          · rw [e]
            exact c57
          · exact hz i (by omega) h2
  refine x_aload_n (pc := 0) dX5_comparesAmounts_0 rfl rfl ?_
  refine x_iload_n (pc := 1) dX5_comparesAmounts_1 rfl rfl ?_
  refine x_callV (pc := 2) [_] rfl kX5_62 dX5_comparesAmounts_2 hd.1 rfl rfl (by decide) (Nat.le_of_ble_eq_true rfl) (Nat.le_of_ble_eq_true rfl) (by decide) ?_
  refine sp_X5_partsOf hd hb0 hv hk9 (fun m p1 p2 p3 => ?_)
  refine ⟨_, rfl, ?_⟩
  refine x_istore_n (pc := 5) dX5_comparesAmounts_5 rfl (by decide) (L' := [(3, _), (0, _), (1, _), (2, _)]) rfl ?_
  refine x_aload_n (pc := 6) dX5_comparesAmounts_6 rfl rfl ?_
  refine x_iload_n (pc := 7) dX5_comparesAmounts_7 rfl rfl ?_
  refine x_callV (pc := 8) [_] rfl kX5_62 dX5_comparesAmounts_8 hd.1 rfl rfl (by decide) (Nat.le_of_ble_eq_true rfl) (Nat.le_of_ble_eq_true rfl) (by decide) ?_
  refine sp_X5_partsOf hd hb0 hw ht9 (fun n q1 q2 q3 => ?_)
  refine ⟨_, rfl, ?_⟩
  refine x_istore (pc := 11) dX5_comparesAmounts_11 trivial (by decide) (L' := [(4, _), (3, _), (0, _), (1, _), (2, _)]) rfl ?_
  refine x_iload_n (pc := 13) dX5_comparesAmounts_13 rfl rfl ?_
  refine x_iload (pc := 14) dX5_comparesAmounts_14 rfl ?_
  refine x_icmp_eq (pc := 16) (t := 31) dX5_comparesAmounts_16 (by decide) ⟨by omega, by omega⟩ ⟨by omega, by omega⟩ (fun c16 => ?_) (fun c16 => ?_)
  · refine X.loc [0, 1, 2, 3, 4] (L' := [(4, _), (3, _), (0, _), (1, _), (2, _)]) rfl ?_
    exact loop m _ _ p1 rfl (fun i h1 h2 => by rw [p2 i h1 h2, q2 i (by omega) h2])
  · refine x_iload_n (pc := 19) dX5_comparesAmounts_19 rfl rfl ?_
    refine x_iload (pc := 20) dX5_comparesAmounts_20 rfl ?_
    refine x_icmp_le (pc := 22) (t := 29) dX5_comparesAmounts_22 (by decide) ⟨by omega, by omega⟩ ⟨by omega, by omega⟩ (fun c22 => ?_) (fun c22 => ?_)
    · refine x_iconst (pc := 29) dX5_comparesAmounts_29 ?_
      refine x_iret (pc := 30) dX5_comparesAmounts_30 rfl (by decide) (by decide) ?_
      first
      | (have z9 := low (m - 1) (by omega) (fun i h1 h2 => by rw [p2 i (by omega) h2, q2 i (by omega) h2]) (by rw [q2 (m - 1) (by omega) (by omega), show m - 1 + 1 = m by omega]; have := p3 (by omega); omega)
         unfold sg at k
         rw [if_pos (by omega)] at k
         exact k)
      | (have z9 := low2 (n - 1) (by omega) (fun i h1 h2 => by rw [p2 i (by omega) h2, q2 i (by omega) h2]) (by rw [p2 (n - 1) (by omega) (by omega), show n - 1 + 1 = n by omega]; have := q3 (by omega); omega)
         unfold sg at k
         rw [if_neg (by omega), if_pos (by omega)] at k
         exact k)
    · refine x_iconst (pc := 25) dX5_comparesAmounts_25 ?_
      refine x_goto (pc := 26) (t := 30) dX5_comparesAmounts_26 (by decide) ?_
      refine x_iret (pc := 30) dX5_comparesAmounts_30 rfl (by decide) (by decide) ?_
      first
      | (have z9 := low (m - 1) (by omega) (fun i h1 h2 => by rw [p2 i (by omega) h2, q2 i (by omega) h2]) (by rw [q2 (m - 1) (by omega) (by omega), show m - 1 + 1 = m by omega]; have := p3 (by omega); omega)
         unfold sg at k
         rw [if_pos (by omega)] at k
         exact k)
      | (have z9 := low2 (n - 1) (by omega) (fun i h1 h2 => by rw [p2 i (by omega) h2, q2 i (by omega) h2]) (by rw [p2 (n - 1) (by omega) (by omega), show n - 1 + 1 = n by omega]; have := q3 (by omega); omega)
         unfold sg at k
         rw [if_neg (by omega), if_pos (by omega)] at k
         exact k)
