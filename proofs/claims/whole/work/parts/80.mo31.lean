/-! The reference: load. -/
def FrV (d : Nat) (M M' : Mem) : Prop := ∀ a j, ¬ (a = d ∧ ((13 ≤ j ∧ j ≤ 18) ∨ j = 22 ∨ j = 23)) → ¬ a = d + 1 → ¬ a = d + 2 → M' a j = M a j

set_option maxRecDepth 100000 in
theorem sp_X5_load {g : GG} {lay : Lay} {M : Mem} {K : KK} {d : Nat} {T : CT} {tx v : Nat → Int} {n : Nat} (hd : MoL lay d) (hb0 : g.2.1 ≤ d) (hT : RowT T (M (d + 1))) (hW : WfT T) (hX : Tx tx n M d) (hR : TxR tx n) (hD : Wd M d) (k : ∀ M2, (∀ a j, ¬ (a = d ∧ (j = 0 ∨ j = 4 ∨ j = 12 ∨ (13 ≤ j ∧ j ≤ 18) ∨ j = 22 ∨ j = 23)) → ¬ a = d + 1 → ¬ a = d + 2 → M2 a j = M a j) → (M2 d 0 = 0 ∧ M2 d 12 = 0) → (M2 d 17 = (setupF tx n v tNew).2.1 3 ∧ M2 d 18 = (setupF tx n v tNew).2.1 4) → ((setupF tx n v tNew).1 = 1 → RowT (setupF tx n v tNew).2.2 (M2 (d + 1)) ∧ M2 d 4 = 0) → ((setupF tx n v tNew).1 ≠ 1 → RowT T (M2 (d + 1)) ∧ M2 d 4 = M d 4) → K (.inl (some (vI (if (setupF tx n v tNew).1 = 1 then (setupF tx n v tNew).2.1 5 else -1)))) lay M2) : X g m_X5_load 0 0 lay M 0 [(0, vR d)] [] K := by
  have h600 := hX.1.1
  have ne1 : ¬ (0 : Int) = 1 := by decide
  obtain ⟨U, hU⟩ : ∃ U, U = setupF tx n v tNew := ⟨_, rfl⟩
  rw [← hU] at k
  have endG : ∀ (y : Int) (v1 : Nat → Int) (T1 : CT) (M1 : Mem), FrV d M M1 → SetR tx n v1 T1 M1 d → U = (1, v1, T1) → y = v1 5 → -2147483648 ≤ y ∧ y ≤ 2147483647 → X g m_X5_load 0 0 lay M1 106 [(1, vI y), (0, vR d)] [] K := by
    intro y v1 T1 M1 hF hS hu hy hyr
    obtain ⟨hV, hRow, -⟩ := id hS
    obtain ⟨-, ⟨h17, h18, v3, v4⟩, -⟩ := id hV
    refine x_aload_n (pc := 106) dX5_load_106 rfl rfl ?_
    refine x_iconst (pc := 107) dX5_load_107 ?_
    refine x_puti (pc := 108) fnX5_269 dX5_load_108 hd.1 (by omega) rfl ⟨by omega, by omega⟩ ?_
    refine x_aload_n (pc := 111) dX5_load_111 rfl rfl ?_
    refine x_iconst (pc := 112) dX5_load_112 ?_
    refine x_puti (pc := 113) fnX5_55 dX5_load_113 hd.1 (by omega) rfl ⟨by omega, by omega⟩ ?_
    refine x_aload_n (pc := 116) dX5_load_116 rfl rfl ?_
    refine x_geti (pc := 117) fX5_296 dX5_load_117 hd.1 rfl (fun r117a r117b => ?_)
    try simp (disch := omega) only [mset_same, mset_nea, mset_nei, mcopy_nea, mcopy_in, mcopy_out, Int.reduceToNat, Int.toNat_natCast, Nat.zero_add, Nat.sub_zero] at r117a r117b ⊢
    rw [h17] at r117a r117b ⊢
    refine x_if_le (pc := 120) (t := 138) dX5_load_120 (by decide) ⟨by omega, by omega⟩ (fun c120 => ?_) (fun c120 => ?_)
    · refine x_aload_n (pc := 138) dX5_load_138 rfl rfl ?_
      refine x_iconst (pc := 139) dX5_load_139 ?_
      refine x_puti (pc := 140) fnX5_177 dX5_load_140 hd.1 (by omega) rfl ⟨by omega, by omega⟩ ?_
      refine x_iload_n (pc := 143) dX5_load_143 rfl rfl ?_
      refine x_iret (pc := 144) dX5_load_144 rfl (by decide) (by decide) ?_
      rw [hu] at k
      have k9 := k (mset (mset (mset M1 d 12 0) d 0 0) d 4 0) (fun a j q1 q2 q3 => by rw [mset_ne (by omega), mset_ne (by omega), mset_ne (by omega)]; exact hF a j (by omega) q2 q3) ⟨by rw [mset_nei (by omega), mset_same], by rw [mset_nei (by omega), mset_nei (by omega), mset_same]⟩ ⟨by rw [mset_nei (by omega), mset_nei (by omega), mset_nei (by omega), h17]; exact v3.symm, by rw [mset_nei (by omega), mset_nei (by omega), mset_nei (by omega), h18]; exact v4.symm⟩ (fun _ => ⟨?_, mset_same⟩) (fun z => absurd rfl z)
      · rw [if_pos rfl] at k9
        rw [hy]
        exact k9
      · rw [show mset (mset (mset M1 d 12 0) d 0 0) d 4 0 (d + 1) = M1 (d + 1) from funext fun j => by rw [mset_nea (by omega), mset_nea (by omega), mset_nea (by omega)]]
        exact hRow
    · exfalso; omega
  have endB : ∀ (y : Int) (v1 : Nat → Int) (M1 : Mem), FrV d M M1 → (∀ j, j < 280 → M1 (d + 2) j = M (d + 1) j) → BadT tx n v1 M1 d → U.1 ≠ 1 → U.2.1 = v1 → X g m_X5_load 0 0 lay M1 106 [(1, vI y), (0, vR d)] [] K := by
    intro y v1 M1 hF hA hB hu1 hu2
    have hB3 := hB.2.1.2.2.1
    obtain ⟨b17, b18, -⟩ := hB.2.1
    refine x_aload_n (pc := 106) dX5_load_106 rfl rfl ?_
    refine x_iconst (pc := 107) dX5_load_107 ?_
    refine x_puti (pc := 108) fnX5_269 dX5_load_108 hd.1 (by omega) rfl ⟨by omega, by omega⟩ ?_
    refine x_aload_n (pc := 111) dX5_load_111 rfl rfl ?_
    refine x_iconst (pc := 112) dX5_load_112 ?_
    refine x_puti (pc := 113) fnX5_55 dX5_load_113 hd.1 (by omega) rfl ⟨by omega, by omega⟩ ?_
    refine x_aload_n (pc := 116) dX5_load_116 rfl rfl ?_
    refine x_geti (pc := 117) fX5_296 dX5_load_117 hd.1 rfl (fun r117a r117b => ?_)
    try simp (disch := omega) only [mset_same, mset_nea, mset_nei, mcopy_nea, mcopy_in, mcopy_out, Int.reduceToNat, Int.toNat_natCast, Nat.zero_add, Nat.sub_zero] at r117a r117b ⊢
    rw [b17] at r117a r117b ⊢
    refine x_if_le (pc := 120) (t := 138) dX5_load_120 (by decide) ⟨by omega, by omega⟩ (fun c120 => ?_) (fun c120 => ?_)
    · exfalso; omega
    · refine x_aload_n (pc := 123) dX5_load_123 rfl rfl ?_
      refine x_getr (pc := 124) (b := d + 2) fX5_13 dX5_load_124 hd.1 rfl rfl ?_
      refine x_iconst (pc := 127) dX5_load_127 ?_
      refine x_aload_n (pc := 128) dX5_load_128 rfl rfl ?_
      refine x_getr (pc := 129) (b := d + 1) fX5_7 dX5_load_129 hd.1 rfl rfl ?_
      refine x_iconst (pc := 132) dX5_load_132 ?_
      refine x_callS (pc := 133) [_, _, _, _] rfl kX5_180 dX5_load_133 rfl (by decide) (Nat.le_of_ble_eq_true rfl) (Nat.le_of_ble_eq_true rfl) (by decide) ?_
      refine sp_X5_copies (o1 := 0) (o2 := 0) hd.2.2.1 hd.2.1 (by omega) (by omega) (by omega) (by omega) (by omega) (fun M2 hF2 hw2 => ?_)
      refine ⟨_, rfl, ?_⟩
      refine x_iconst (pc := 136) dX5_load_136 ?_
      refine x_iret (pc := 137) dX5_load_137 rfl (by decide) (by decide) ?_
      have k9 := k M2 (fun a j q1 q2 q3 => by rw [hF2 _ _ (by omega), mset_ne (by omega), mset_ne (by omega)]; exact hF a j (by omega) q2 q3) ⟨by rw [hF2 _ _ (by omega), mset_same], by rw [hF2 _ _ (by omega), mset_nei (by omega), mset_same]⟩ ⟨by rw [hF2 _ _ (by omega), mset_nei (by omega), mset_nei (by omega), b17, hu2], by rw [hF2 _ _ (by omega), mset_nei (by omega), mset_nei (by omega), b18, hu2]⟩ (fun z => absurd z hu1) (fun _ => ⟨hT.cong hW (fun j hj => ?_), ?_⟩)
      · rw [if_neg hu1] at k9
        exact k9
      · have h9 := hw2 j hj
        rw [Nat.zero_add] at h9
        rw [h9, mset_nea (by omega), mset_nea (by omega)]
        exact hA j hj
      · rw [hF2 _ _ (by omega), mset_nei (by omega), mset_nei (by omega)]
        exact hF _ _ (by omega) (by omega) (by omega)
  have bad33 : ∀ (y : Int) (v1 : Nat → Int) (M1 : Mem), FrV d M M1 → (∀ j, j < 280 → M1 (d + 2) j = M (d + 1) j) → BadT tx n v1 M1 d → U.1 ≠ 1 → U.2.1 = v1 → X g m_X5_load 0 0 lay M1 33 [(1, vI y), (0, vR d)] [] K := by
    intro y v1 M1 hF hA hB hu1 hu2
    have hB3 := hB.2.1.2.2.1
    refine x_aload_n (pc := 33) dX5_load_33 rfl rfl ?_
    refine x_geti (pc := 34) fX5_296 dX5_load_34 hd.1 rfl (fun r34a r34b => ?_)
    rw [hB.2.1.1] at r34a r34b ⊢
    refine x_if_ne (pc := 37) (t := 106) dX5_load_37 (by decide) ⟨by omega, by omega⟩ (fun c37 => ?_) (fun c37 => ?_)
    · refine X.loc [0, 1] (L' := [(1, _), (0, _)]) rfl ?_
      exact endB _ v1 M1 hF hA hB hu1 hu2
    · exfalso; omega
  have bad96 : ∀ (y z : Int) (v1 : Nat → Int) (M1 : Mem), FrV d M M1 → (∀ j, j < 280 → M1 (d + 2) j = M (d + 1) j) → BadT tx n v1 M1 d → U.1 ≠ 1 → U.2.1 = v1 → X g m_X5_load 0 0 lay M1 96 [(2, vI z), (1, vI y), (0, vR d)] [] K := by
    intro y z v1 M1 hF hA hB hu1 hu2
    refine x_aload_n (pc := 96) dX5_load_96 rfl rfl ?_
    refine x_callV (pc := 97) [] rfl kX5_345 dX5_load_97 hd.1 rfl rfl (by decide) (Nat.le_of_ble_eq_true rfl) (Nat.le_of_ble_eq_true rfl) (by decide) ?_
    refine sp_X5_closesStatementB hd hb0 hB ?_
    refine ⟨_, rfl, ?_⟩
    refine x_iinc (pc := 100) dX5_load_100 rfl (by decide) (L' := [(1, _), (2, _), (0, _)]) rfl ?_
    refine x_goto (pc := 103) (t := 33) dX5_load_103 (by decide) ?_
    refine X.loc [0, 2] (L' := [(1, _), (0, _)]) rfl ?_
    exact bad33 _ v1 M1 hF hA hB hu1 hu2
  have loop : ∀ (c : Nat) (y : Int) (v1 : Nat → Int) (T1 : CT) (M1 : Mem), FrV d M M1 → (∀ j, j < 280 → M1 (d + 2) j = M (d + 1) j) → SetR tx n v1 T1 M1 d → loopS tx n c v1 T1 = U → y = v1 5 → (0 ≤ y ∧ y + c ≤ 600) → (v1 6 ≠ 0 → (n : Int) - v1 8 < c) → X g m_X5_load 0 0 lay M1 33 [(1, vI y), (0, vR d)] [] K := by
    intro c
    induction c with
    | zero =>
      intro y v1 T1 M1 hF hA hS hu hy hyr hm
      obtain ⟨hV, hRow, -⟩ := id hS
      obtain ⟨⟨hTx, hRr, hK⟩, ⟨h17, h18, v3, v4⟩, h13, h14, h15, h16⟩ := id hV
      have h60 : v1 6 = 0 := Decidable.byContradiction fun z => by have := hm z; have := hK.2.2.1.2; omega
      have hmk := (@mk_iff (v1 6)).2.2.2.1
      simp only [loopS] at hu
      refine x_aload_n (pc := 33) dX5_load_33 rfl rfl ?_
      refine x_geti (pc := 34) fX5_296 dX5_load_34 hd.1 rfl (fun r34a r34b => ?_)
      rw [h17] at r34a r34b ⊢
      refine x_if_ne (pc := 37) (t := 106) dX5_load_37 (by decide) ⟨by omega, by omega⟩ (fun c37 => ?_) (fun c37 => ?_)
      · exfalso; omega
      · refine x_aload_n (pc := 40) dX5_load_40 rfl rfl ?_
        refine x_geti (pc := 41) fX5_290 dX5_load_41 hd.1 rfl (fun r41a r41b => ?_)
        rw [h15] at r41a r41b ⊢
        refine x_if_eq (pc := 44) (t := 106) dX5_load_44 (by decide) ⟨by omega, by omega⟩ (fun c44 => ?_) (fun c44 => ?_)
        · refine X.loc [0, 1] (L' := [(1, _), (0, _)]) rfl ?_
          exact endG _ v1 T1 M1 hF hS hu.symm hy (by omega)
        · exfalso; omega
    | succ c ih =>
      intro y v1 T1 M1 hF hA hS hu hy hyr hm
      obtain ⟨hV, hRow, -, -, hWS, hWP⟩ := id hS
      obtain ⟨⟨hTx, hRr, hK⟩, ⟨h17, h18, v3, v4⟩, h13, h14, h15, h16⟩ := id hV
      have hmk := (@mk_iff (v1 6)).2.2.2.1
      have hD1 : Wd M1 d := fun i hi => by rw [hF _ _ (by omega) (by omega) (by omega)]; exact hD i hi
      simp only [loopS] at hu
      have hwr := wordF_rng tx v1
      obtain ⟨W, hWe⟩ : ∃ W, W = wordF tx v1 := ⟨_, rfl⟩
      obtain ⟨S, hSe⟩ : ∃ S, S = rStmtF tx n v1 T1 := ⟨_, rfl⟩
      rw [← hWe] at hwr
      have g96 : v1 6 ≠ 0 → ∀ (z : Int) (M2 : Mem), FrW d M1 M2 → SRel tx n (rStmtF tx n v1 T1) M2 d → X g m_X5_load 0 0 lay M2 96 [(2, vI z), (1, vI y), (0, vR d)] [] K := by
        intro h60 z M2 hF2 hS2
        have hF12 : FrV d M M2 := fun a j q1 q2 q3 => by rw [hF2 a j q1 q2]; exact hF a j q1 q2 q3
        have hA2 : ∀ j, j < 280 → M2 (d + 2) j = M (d + 1) j := fun j hj => by rw [hF2 _ _ (by omega) (by omega)]; exact hA j hj
        rw [if_neg h60] at hu
        by_cases s1 : (rStmtF tx n v1 T1).1 = 1
        · have hadv := rStmt_adv hK s1
          have hok := rStmt_ok hS2 s1
          have h5 := @rStmt5 tx n v1 T1
          rw [if_neg (fun z => z s1)] at hu
          rcases hS2 with ⟨-, hS2⟩ | ⟨hS2, -⟩
          · rw [← hSe] at hS2 hadv hok hu h5
            refine x_aload_n (pc := 96) dX5_load_96 rfl rfl ?_
            refine x_callV (pc := 97) [] rfl kX5_345 dX5_load_97 hd.1 rfl rfl (by decide) (Nat.le_of_ble_eq_true rfl) (Nat.le_of_ble_eq_true rfl) (by decide) ?_
            refine sp_X5_closesStatement hd hb0 hS2.1 (fun M3 hF3 hP3 => ?_)
            refine ⟨_, rfl, ?_⟩
            refine x_iinc (pc := 100) dX5_load_100 rfl (by decide) (L' := [(1, _), (2, _), (0, _)]) rfl ?_
            refine x_goto (pc := 103) (t := 33) dX5_load_103 (by decide) ?_
            refine X.loc [0, 2] (L' := [(1, _), (0, _)]) rfl ?_
            have hF13 : FrV d M M3 := fun a j q1 q2 q3 => by rw [hF3 a j (by omega)]; exact hF12 a j q1 q2 q3
            have hA3 : ∀ j, j < 280 → M3 (d + 2) j = M (d + 1) j := fun j hj => by rw [hF3 _ _ (by omega)]; exact hA2 j hj
            rcases hP3 with ⟨p1, p2⟩ | ⟨p1, p2⟩
            · rw [if_neg (fun z => z p1)] at hu
              have e6 : S.2.1 6 = 4 := Decidable.byContradiction fun z => by unfold semF at p1; rw [if_neg z] at p1; exact absurd p1 ne1
              have eS : semF tx n S.2.1 = (1, tokF tx n S.2.1) := by unfold semF; rw [if_pos e6]
              rw [eS] at p2 hu
              have hta := tok_adv (tx := tx) (n := n) (v := S.2.1) (by have := hok.2.1; have := hok.2.2.1; omega)
              obtain ⟨-, g2, ⟨g3, g4, g5⟩, ⟨g6, g7⟩, g8, g9⟩ := id hS2
              have t5 : tokF tx n S.2.1 5 = S.2.1 5 := tok_ne (by omega)
              have t11 : tokF tx n S.2.1 11 = S.2.1 11 := tok_ne (by omega)
              have t12 : tokF tx n S.2.1 12 = S.2.1 12 := tok_ne (by omega)
              have p3 : RelT tx n (fup (tokF tx n S.2.1) 5 (tokF tx n S.2.1 5 + 1)) M3 d := p2
              refine ih _ _ _ M3 hF13 hA3 ⟨p3, by rw [hF3.n]; exact g2, ⟨fun w hw => ?_, by rw [hF3 _ _ (by omega)]; exact g4, ?_⟩, ⟨?_, ?_⟩, g8, g9⟩ hu ?_ (by omega) (fun h6 => ?_)
              · show bitF _ w = bitF (tokF tx n S.2.1 11) (swW w)
                rw [hF3 _ _ (by omega), t11]
                exact g3 w hw
              · show _ = tokF tx n S.2.1 12
                rw [hF3 _ _ (by omega), t12]
                exact g5
              · show 0 ≤ tokF tx n S.2.1 11 ∧ tokF tx n S.2.1 11 < 128
                rw [t11]; exact g6
              · show 0 ≤ tokF tx n S.2.1 12 ∧ tokF tx n S.2.1 12 < 32
                rw [t12]; exact g7
              · show y + 1 = tokF tx n S.2.1 5 + 1
                rw [t5, h5, hy]
              · have h61 : tokF tx n S.2.1 6 ≠ 0 := h6
                have e8 : fup (tokF tx n S.2.1) 5 (tokF tx n S.2.1 5 + 1) 8 = tokF tx n S.2.1 8 := rfl
                rw [e8]
                have h7 := hm h60
                have h8 := hadv.2 (by omega)
                have h9 := hta.1
                omega
            · rw [if_pos p1] at hu
              exact bad33 _ _ M3 hF13 hA3 p2 (by rw [← hu]; exact ne1) (by rw [← hu])
          · exact absurd s1 hS2
        · rw [if_pos s1] at hu
          rcases hS2 with ⟨hS2, -⟩ | ⟨-, hS2⟩
          · exact absurd hS2 s1
          · exact bad96 y z _ M2 hF12 hA2 hS2 (by rw [← hu]; exact ne1) (by rw [← hu])
      refine x_aload_n (pc := 33) dX5_load_33 rfl rfl ?_
      refine x_geti (pc := 34) fX5_296 dX5_load_34 hd.1 rfl (fun r34a r34b => ?_)
      rw [h17] at r34a r34b ⊢
      refine x_if_ne (pc := 37) (t := 106) dX5_load_37 (by decide) ⟨by omega, by omega⟩ (fun c37 => ?_) (fun c37 => ?_)
      · exfalso; omega
      · refine x_aload_n (pc := 40) dX5_load_40 rfl rfl ?_
        refine x_geti (pc := 41) fX5_290 dX5_load_41 hd.1 rfl (fun r41a r41b => ?_)
        rw [h15] at r41a r41b ⊢
        refine x_if_eq (pc := 44) (t := 106) dX5_load_44 (by decide) ⟨by omega, by omega⟩ (fun c44 => ?_) (fun c44 => ?_)
        · refine X.loc [0, 1] (L' := [(1, _), (0, _)]) rfl ?_
          rw [if_pos (by omega)] at hu
          exact endG _ v1 T1 M1 hF hS hu.symm hy (by omega)
        · refine x_aload_n (pc := 47) dX5_load_47 rfl rfl ?_
          refine x_callV (pc := 48) [] rfl kX5_336 dX5_load_48 hd.1 rfl rfl (by decide) (Nat.le_of_ble_eq_true rfl) (Nat.le_of_ble_eq_true rfl) (by decide) ?_
          refine sp_X5_wordHere hd hb0 hV hD1 ?_
          rw [← hWe]
          refine ⟨_, rfl, ?_⟩
          refine x_istore_n (pc := 51) dX5_load_51 rfl (by decide) (L' := [(2, _), (1, _), (0, _)]) rfl ?_
          have h60 : v1 6 ≠ 0 := by omega
          by_cases hw6 : 0 ≤ W ∧ W ≤ 6
          · have hz9 : (if 0 ≤ W ∧ W ≤ 6 then (1 : Int) else 0) = 1 := if_pos hw6
            refine x_aload_n (pc := 52) dX5_load_52 rfl rfl ?_
            refine x_iload_n (pc := 53) dX5_load_53 rfl rfl ?_
            refine x_iconst (pc := 54) dX5_load_54 ?_
            refine x_bipush (pc := 55) dX5_load_55 (by decide) ?_
            refine x_callS (pc := 57) [_, _, _] rfl kX5_144 dX5_load_57 rfl (by decide) (Nat.le_of_ble_eq_true rfl) (Nat.le_of_ble_eq_true rfl) (by decide) ?_
            refine sp_X5_in ⟨by omega, by omega⟩ ⟨by omega, by omega⟩ ⟨by omega, by omega⟩ ?_
            rw [hz9]
            refine ⟨_, rfl, ?_⟩
            refine x_iconst (pc := 60) dX5_load_60 ?_
            refine x_callV (pc := 61) [_, _] rfl kX5_311 dX5_load_61 hd.1 rfl rfl (by decide) (Nat.le_of_ble_eq_true rfl) (Nat.le_of_ble_eq_true rfl) (by decide) ?_
            refine sp_X5_must1 hd hb0 ?_
            refine ⟨_, rfl, ?_⟩
            refine x_aload_n (pc := 64) dX5_load_64 rfl rfl ?_
            refine x_geti (pc := 65) fX5_296 dX5_load_65 hd.1 rfl (fun r65a r65b => ?_)
            rw [h17] at r65a r65b ⊢
            refine x_if_ne (pc := 68) (t := 84) dX5_load_68 (by decide) ⟨by omega, by omega⟩ (fun c68 => ?_) (fun c68 => ?_)
            · exfalso; omega
            · refine x_iload_n (pc := 71) dX5_load_71 rfl rfl ?_
              refine x_bipush (pc := 72) dX5_load_72 (by decide) ?_
              refine x_icmp_ne (pc := 74) (t := 84) dX5_load_74 (by decide) ⟨by omega, by omega⟩ ⟨by omega, by omega⟩ (fun c74 => ?_) (fun c74 => ?_)
              · refine x_aload_n (pc := 84) dX5_load_84 rfl rfl ?_
                refine x_geti (pc := 85) fX5_296 dX5_load_85 hd.1 rfl (fun r85a r85b => ?_)
                rw [h17] at r85a r85b ⊢
                refine x_if_ne (pc := 88) (t := 96) dX5_load_88 (by decide) ⟨by omega, by omega⟩ (fun c88 => ?_) (fun c88 => ?_)
                · exfalso; omega
                · refine x_aload_n (pc := 91) dX5_load_91 rfl rfl ?_
                  refine x_iload_n (pc := 92) dX5_load_92 rfl rfl ?_
                  refine x_callV (pc := 93) [_] rfl kX5_342 dX5_load_93 hd.1 rfl rfl (by decide) (Nat.le_of_ble_eq_true rfl) (Nat.le_of_ble_eq_true rfl) (by decide) ?_
                  obtain ⟨w, hw⟩ := Int.eq_ofNat_of_zero_le hw6.1
                  have hw5 : w < 6 := by omega
                  obtain ⟨s1, s2⟩ := setWF_eq (tx := tx) (v := v1) hw5 (by rw [← hWe]; exact hw)
                  rw [hw]
                  refine sp_X5_readSetting hd hb0 hS hw5 s1 s2 (fun M2 hF2 hS2 => ?_)
                  refine ⟨_, rfl, ?_⟩
                  refine X.loc [0, 1, 2] (L' := [(2, _), (1, _), (0, _)]) rfl ?_
                  exact g96 h60 _ M2 hF2 hS2
              · refine x_aload_n (pc := 77) dX5_load_77 rfl rfl ?_
                refine x_callV (pc := 78) [] rfl kX5_339 dX5_load_78 hd.1 rfl rfl (by decide) (Nat.le_of_ble_eq_true rfl) (Nat.le_of_ble_eq_true rfl) (by decide) ?_
                have hw0 : isWordP tx v1 0 := (wordF_iff (w := 6) (by omega)).mp (by rw [← hWe]; omega)
                refine sp_X5_readStart hd hb0 hS (fun M2 hF2 hS2 => ?_)
                have eSt : rStmtF tx n v1 T1 = rStartF tx n v1 T1 := by unfold rStmtF; rw [if_pos hw0]
                rw [← eSt] at hS2
                refine ⟨_, rfl, ?_⟩
                refine x_goto (pc := 81) (t := 96) dX5_load_81 (by decide) ?_
                refine X.loc [0, 1, 2] (L' := [(2, _), (1, _), (0, _)]) rfl ?_
                exact g96 h60 _ M2 hF2 hS2
          · have hz9 : (if 0 ≤ W ∧ W ≤ 6 then (1 : Int) else 0) = 0 := if_neg hw6
            obtain ⟨n0, n1⟩ := setWF_no (tx := tx) (v := v1) (by rw [← hWe]; exact hw6)
            have eS0 : rStmtF tx n v1 T1 = (0, (failF v1 1).2, T1) := by unfold rStmtF; rw [if_neg n0, if_pos (by rw [n1]; decide)]
            refine x_aload_n (pc := 52) dX5_load_52 rfl rfl ?_
            refine x_iload_n (pc := 53) dX5_load_53 rfl rfl ?_
            refine x_iconst (pc := 54) dX5_load_54 ?_
            refine x_bipush (pc := 55) dX5_load_55 (by decide) ?_
            refine x_callS (pc := 57) [_, _, _] rfl kX5_144 dX5_load_57 rfl (by decide) (Nat.le_of_ble_eq_true rfl) (Nat.le_of_ble_eq_true rfl) (by decide) ?_
            refine sp_X5_in ⟨by omega, by omega⟩ ⟨by omega, by omega⟩ ⟨by omega, by omega⟩ ?_
            rw [hz9]
            refine ⟨_, rfl, ?_⟩
            refine x_iconst (pc := 60) dX5_load_60 ?_
            refine x_callV (pc := 61) [_, _] rfl kX5_311 dX5_load_61 hd.1 rfl rfl (by decide) (Nat.le_of_ble_eq_true rfl) (Nat.le_of_ble_eq_true rfl) (by decide) ?_
            refine sp_X5_must0 hd hb0 hV (by omega) (fun M2 hF2 hB2 => ?_)
            have hB3 := hB2.2.1.2.2.1
            refine ⟨_, rfl, ?_⟩
            refine x_aload_n (pc := 64) dX5_load_64 rfl rfl ?_
            refine x_geti (pc := 65) fX5_296 dX5_load_65 hd.1 rfl (fun r65a r65b => ?_)
            rw [hB2.2.1.1] at r65a r65b ⊢
            refine x_if_ne (pc := 68) (t := 84) dX5_load_68 (by decide) ⟨by omega, by omega⟩ (fun c68 => ?_) (fun c68 => ?_)
            · refine x_aload_n (pc := 84) dX5_load_84 rfl rfl ?_
              refine x_geti (pc := 85) fX5_296 dX5_load_85 hd.1 rfl (fun r85a r85b => ?_)
              rw [hB2.2.1.1] at r85a r85b ⊢
              refine x_if_ne (pc := 88) (t := 96) dX5_load_88 (by decide) ⟨by omega, by omega⟩ (fun c88 => ?_) (fun c88 => ?_)
              · refine X.loc [0, 1, 2] (L' := [(2, _), (1, _), (0, _)]) rfl ?_
                exact g96 h60 _ M2 (FrW.rf.p hF2) (Or.inr ⟨by rw [eS0]; exact ne1, by rw [eS0]; exact hB2⟩)
              · exfalso; omega
            · exfalso; omega
  refine x_aload_n (pc := 0) dX5_load_0 rfl rfl ?_
  refine x_getr (pc := 1) (b := d + 1) fX5_7 dX5_load_1 hd.1 rfl rfl ?_
  refine x_iconst (pc := 4) dX5_load_4 ?_
  refine x_aload_n (pc := 5) dX5_load_5 rfl rfl ?_
  refine x_getr (pc := 6) (b := d + 2) fX5_13 dX5_load_6 hd.1 rfl rfl ?_
  refine x_iconst (pc := 9) dX5_load_9 ?_
  refine x_callS (pc := 10) [_, _, _, _] rfl kX5_180 dX5_load_10 rfl (by decide) (Nat.le_of_ble_eq_true rfl) (Nat.le_of_ble_eq_true rfl) (by decide) ?_
  refine sp_X5_copies (o1 := 0) (o2 := 0) hd.2.1 hd.2.2.1 (by omega) (by omega) (by omega) (by omega) (by omega) (fun M1 hF1 hw1 => ?_)
  refine ⟨_, rfl, ?_⟩
  refine x_aload_n (pc := 13) dX5_load_13 rfl rfl ?_
  refine x_callV (pc := 14) [] rfl kX5_52 dX5_load_14 hd.1 rfl rfl (by decide) (Nat.le_of_ble_eq_true rfl) (Nat.le_of_ble_eq_true rfl) (by decide) ?_
  refine sp_X5_begins hd hb0 (fun M2 hF2 hN2 => ?_)
  have hX2 : Tx tx n M2 d := hX.z (by rw [hF2 _ _ (by omega), hF1 _ _ (by omega)]) (fun j => by rw [hF2 _ _ (by omega), hF1 _ _ (by omega)])
  refine ⟨_, rfl, ?_⟩
  refine x_aload_n (pc := 17) dX5_load_17 rfl rfl ?_
  refine x_callV (pc := 18) [] rfl kX5_333 dX5_load_18 hd.1 rfl rfl (by decide) (Nat.le_of_ble_eq_true rfl) (Nat.le_of_ble_eq_true rfl) (by decide) ?_
  refine sp_X5_opensText (v := v) hd hb0 hX2 hR (fun M3 hF3 hV3 => ?_)
  refine ⟨_, rfl, ?_⟩
  refine x_aload_n (pc := 21) dX5_load_21 rfl rfl ?_
  refine x_iconst (pc := 22) dX5_load_22 ?_
  refine x_puti (pc := 23) fnX5_315 dX5_load_23 hd.1 (by omega) rfl ⟨by omega, by omega⟩ ?_
  refine x_aload_n (pc := 26) dX5_load_26 rfl rfl ?_
  refine x_iconst (pc := 27) dX5_load_27 ?_
  refine x_puti (pc := 28) fnX5_318 dX5_load_28 hd.1 (by omega) rfl ⟨by omega, by omega⟩ ?_
  refine x_iconst (pc := 31) dX5_load_31 ?_
  refine x_istore_n (pc := 32) dX5_load_32 rfl (by decide) (L' := [(1, _), (0, _)]) rfl ?_
  refine X.loc [0, 1] (L' := [(1, _), (0, _)]) rfl ?_
  have e5 : beginF tx n v 5 = 0 := by unfold beginF; rw [tok_ne (by omega)]; rfl
  have e11 : beginF tx n v 11 = 0 := by unfold beginF; rw [tok_ne (by omega)]; rfl
  have e12 : beginF tx n v 12 = 0 := by unfold beginF; rw [tok_ne (by omega)]; rfl
  have hta := tok_adv (tx := tx) (n := n) (v := fup (fup (fup (fup (fup (fup v 3 0) 4 (-1)) 8 0) 5 0) 11 0) 12 0) (by show 0 ≤ (0 : Int) ∧ (0 : Int) ≤ n; omega)
  refine loop 600 0 (beginF tx n v) tNew _ (fun a j q1 q2 q3 => ?_) (fun j hj => ?_) ⟨(hV3.mf (by omega)).mf (by omega), ?_, ⟨fun w hw => ?_, ?_, ?_⟩, ⟨by rw [e11]; omega, by rw [e12]; omega⟩, ?_, fun j => ?_⟩ hU.symm e5.symm (by omega) (fun h6 => ?_)
  · rw [mset_ne (by omega), mset_ne (by omega), hF3 _ _ (by omega), hF2 _ _ q2, hF1 _ _ (by omega)]
  · rw [mset_nea (by omega), mset_nea (by omega), hF3 _ _ (by omega), hF2 _ _ (by omega)]
    have h9 := hw1 j hj
    rw [Nat.zero_add] at h9
    exact h9
  · rw [show mset (mset M3 d 22 0) d 23 0 (d + 1) = M2 (d + 1) from funext fun j => by rw [mset_nea (by omega), mset_nea (by omega), hF3 _ _ (by omega)]]
    exact hN2
  · rw [mset_nei (by omega), mset_same, e11]
    unfold bitF
    simp
  · rw [mset_nei (by omega), mset_same]
    omega
  · rw [mset_same, e12]
  · refine ⟨?_, ?_, ?_, ?_, ?_, ?_, ?_⟩ <;> decide
  · show -30 ≤ (0 : Int) ∧ (0 : Int) ≤ 30 ∧ (5 ≤ j → (0 : Int) = 0)
    omega
  · have h7 := hta.2 h6
    have e8 : beginF tx n v 8 = tokF tx n (fup (fup (fup (fup (fup (fup v 3 0) 4 (-1)) 8 0) 5 0) 11 0) 12 0) 8 := rfl
    have e80 : fup (fup (fup (fup (fup (fup v 3 0) 4 (-1)) 8 0) 5 0) 11 0) 12 0 8 = 0 := rfl
    rw [e8]
    omega
