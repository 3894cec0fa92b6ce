/-! The reference's sign rows: all of them. -/
def mdivR (s : RS) : Nat → Int := fun p => - mdivL (s.2.1 (s.1 - 1)) (s.2.2 (s.1 - 1)) (s.2.2 (s.1 - 2) + 1 - s.2.2 (s.1 - 1)) (s.2.2 (s.1 - 2)) (s.2.1 (s.1 - 2)) p
def mNext (s : RS) : RS := (s.1 + 1, fun k => if k = s.1 then mdivR s else s.2.1 k, fun k => if k = s.1 then topW (mdivR s) 9 - 1 else s.2.2 k)
def mLoop : Nat → RS → RS
  | 0, s => s
  | n + 1, s => if s.2.2 (s.1 - 1) = 0 ∨ topW (mdivR s) 9 = 0 then s else mLoop n (mNext s)
def mStepOK (s : RS) : Prop := mdivLOK (s.2.1 (s.1 - 1)) (s.2.2 (s.1 - 1)) (s.2.2 (s.1 - 2) + 1 - s.2.2 (s.1 - 1)) (s.2.2 (s.1 - 2)) (s.2.1 (s.1 - 2)) ∧ s.2.2 (s.1 - 1) ≤ s.2.2 (s.1 - 2) ∧ s.2.2 (s.1 - 2) < 9
def mLoopOK : Nat → RS → Prop
  | 0, s => s.2.2 (s.1 - 1) = 0
  | n + 1, s => s.2.2 (s.1 - 1) = 0 ∨ (mStepOK s ∧ (topW (mdivR s) 9 = 0 ∨ mLoopOK n (mNext s)))
def mTwo (f : Nat → Int) : RS := (2, fun k => if k = 0 then f else mder f (topW f 9 - 1), fun k => if k = 0 then topW f 9 - 1 else topW f 9 - 2)
def mRows (f : Nat → Int) : RS := if topW f 9 = 0 then (0, fun _ => f, fun _ => 0) else if topW f 9 = 1 then (1, fun _ => f, fun _ => 0) else mLoop 4 (mTwo f)
def mRowsOK (f : Nat → Int) : Prop := (∀ p, p < 9 → ab (f p) ≤ pB 30) ∧ (1 < topW f 9 → mLoopOK 4 (mTwo f))
/-- the rows that lie there -/
def Mr (s : RS) (M : Mem) (d : Nat) : Prop := ∃ N, Bg N M d ∧ M d 9 = s.1 ∧ ∀ k, k < s.1 → M (d + 8) k = s.2.2 k ∧ ∀ p, p < 9 → N (9 * k + p) = s.2.1 k p
/-- the numbers, the degrees, how many rows: nothing else differs -/
def FrL (d : Nat) (M M' : Mem) : Prop := ∀ a j, ¬ (a = d ∧ j = 9) → ¬ a = d + 7 → ¬ a = d + 8 → M' a j = M a j
theorem FrL.rf {d : Nat} {M : Mem} : FrL d M M := fun _ _ _ _ _ => rfl
theorem FrL.tr {d : Nat} {M M' M'' : Mem} (h : FrL d M M') (h2 : FrL d M' M'') : FrL d M M'' := fun a j q1 q2 q3 => (h2 a j q1 q2 q3).trans (h a j q1 q2 q3)
theorem FrL.fr {d : Nat} {M M' M'' : Mem} (h : FrL d M M') (h2 : Frm (d + 7) (d + 8) M' M'') : FrL d M M'' := fun a j q1 q2 q3 => (h2 a j (by omega)).trans (h a j q1 q2 q3)
theorem FrL.m9 {d : Nat} {M M' : Mem} {v : Int} (h : FrL d M M') : FrL d M (mset M' d 9 v) := fun a j q1 q2 q3 => (mset_ne (fun e => q1 ⟨e.1, e.2⟩)).trans (h a j q1 q2 q3)
theorem FrL.m8 {d i : Nat} {M M' : Mem} {v : Int} (h : FrL d M M') : FrL d M (mset M' (d + 8) i v) := fun a j q1 q2 q3 => (mset_nea q3).trans (h a j q1 q2 q3)
theorem Bg.fr {N : Nat → Int} {M M' : Mem} {d : Nat} (h : Bg N M d) (e : ∀ j, M' (d + 7) j = M (d + 7) j) : Bg N M' d := fun k hk => (h k hk).cong (fun i _ => e _)
theorem mcan_cong {e e' w w' : Nat → Int} {low top : Nat} (he : ∀ p, p < 9 → e p = e' p) (hw : ∀ p, p < 9 → w p = w' p) (hl : low < 9) (ht : top < 9) : ∀ p, p < 9 → mcan e low top w p = mcan e' low top w' p := fun p hp => by
  unfold mcan
  rw [he low hl, hw p hp]
  by_cases h : p < top
  · rw [if_pos h, if_pos h]
    by_cases h2 : top ≤ p + low
    · rw [if_pos h2, if_pos h2, hw top ht, he (p + low - top) (by omega)]
    · rw [if_neg h2, if_neg h2]
  · rw [if_neg h, if_neg h]
theorem mdivL_cong {e e' : Nat → Int} {low : Nat} (he : ∀ p, p < 9 → e p = e' p) (hl : low < 9) : ∀ (k top : Nat) (w w' : Nat → Int), top < 9 → (∀ p, p < 9 → w p = w' p) → ∀ p, p < 9 → mdivL e low k top w p = mdivL e' low k top w' p
  | 0, _, _, _, _, hw, p, hp => hw p hp
  | k + 1, top, w, w', ht, hw, p, hp => mdivL_cong he hl k (top - 1) _ _ (by omega) (mcan_cong he hw hl ht) p hp
theorem mdivLOK_cong {e e' : Nat → Int} {low : Nat} (he : ∀ p, p < 9 → e p = e' p) (hl : low < 9) : ∀ (k top : Nat) (w w' : Nat → Int), top < 9 → (∀ p, p < 9 → w p = w' p) → mdivLOK e low k top w → mdivLOK e' low k top w'
  | 0, _, _, _, _, _, _ => trivial
  | k + 1, top, w, w', ht, hw, h => by
    refine ⟨fun p hp => ?_, mdivLOK_cong he hl k (top - 1) _ _ (by omega) (mcan_cong he hw hl ht) h.2⟩
    have h1 := h.1 p hp
    rw [hw p (by omega), he low hl] at h1
    refine ⟨h1.1, fun h2 => ?_⟩
    have h3 := h1.2 h2
    rw [hw top ht, he (p + low - top) (by omega)] at h3
    exact h3
theorem topW_le9 (w : Nat → Int) : topW w 9 ≤ 9 := topW_le w 9

set_option maxRecDepth 100000 in
theorem sp_X5_laysFrom {g : GG} {lay : Lay} {M : Mem} {K : KK} {d : Nat} {f : Nat → Int} {N : Nat → Int} (hd : MoL lay d) (hb0 : g.2.1 ≤ d) (hB : Bg N M d) (hf : ∀ p, p < 9 → N p = f p) (hok : mRowsOK f) (k : ∀ M2, FrL d M M2 → Mr (mRows f) M2 d → K (.inl none) lay M2) : X g m_X5_laysFrom 0 0 lay M 0 [(0, vR d)] [] K := by
  have et : topW (mRow N 0) 9 = topW f 9 := topW_cong 9 (fun p hp => by rw [show mRow N 0 p = N (9 * 0 + p) from rfl, Nat.mul_zero, Nat.zero_add]; exact hf p hp)
  have ht9 := topW_le9 f
  have loop : ∀ (n : Nat) (y : Int) (s : RS) (N1 : Nat → Int) (M1 : Mem), s.1 + n = 6 → 2 ≤ s.1 → s.2.2 (s.1 - 1) < 9 → y = (if 0 < s.2.2 (s.1 - 1) then 1 else 0) → mLoopOK n s → mLoop n s = mRows f → FrL d M M1 → Bg N1 M1 d → M1 d 9 = s.1 → (∀ k, k < s.1 → M1 (d + 8) k = s.2.2 k ∧ ∀ p, p < 9 → N1 (9 * k + p) = s.2.1 k p) → X g m_X5_laysFrom 0 0 lay M1 82 [(1, vI y), (0, vR d)] [] K := by
    intro n
    induction n with
    | zero =>
      intro y s N1 M1 hn h2 h9 hy ho hr hF hB1 hm hrow
      have h0 : s.2.2 (s.1 - 1) = 0 := ho
      simp only [mLoop] at hr
      rw [if_neg (by omega)] at hy
      refine x_iload_n (pc := 82) dX5_laysFrom_82 rfl rfl ?_
      refine x_if_eq (pc := 83) (t := 133) dX5_laysFrom_83 (by decide) ⟨by omega, by omega⟩ (fun c83 => ?_) (fun c83 => ?_)
      · refine x_vret (pc := 133) dX5_laysFrom_133 rfl (by decide) (by decide) ?_
        refine k M1 hF ?_
        rw [← hr]
        exact ⟨N1, hB1, hm, hrow⟩
      · exfalso; omega
    | succ n ih =>
      intro y s N1 M1 hn h2 h9 hy ho hr hF hB1 hm hrow
      simp only [mLoop] at hr
      by_cases h0 : s.2.2 (s.1 - 1) = 0
      · rw [if_pos (Or.inl h0)] at hr
        rw [if_neg (by omega)] at hy
        refine x_iload_n (pc := 82) dX5_laysFrom_82 rfl rfl ?_
        refine x_if_eq (pc := 83) (t := 133) dX5_laysFrom_83 (by decide) ⟨by omega, by omega⟩ (fun c83 => ?_) (fun c83 => ?_)
        · refine x_vret (pc := 133) dX5_laysFrom_133 rfl (by decide) (by decide) ?_
          refine k M1 hF ?_
          rw [← hr]
          exact ⟨N1, hB1, hm, hrow⟩
        · exfalso; omega
      · rw [if_pos (by omega)] at hy
        rcases ho with ho | ⟨⟨o1, o2, o3⟩, o4⟩
        · exact absurd ho h0
        have e1 := (hrow (s.1 - 1) (by omega)).1
        have e2 := (hrow (s.1 - 2) (by omega)).1
        have g1 := (hrow (s.1 - 1) (by omega)).2
        have g2 := (hrow (s.1 - 2) (by omega)).2
        have o5 := mdivLOK_cong (e' := mRow N1 (s.1 - 1)) (fun p hp => (g1 p hp).symm) h9 _ _ _ (mRow N1 (s.1 - 2)) o3 (fun p hp => (g2 p hp).symm) o1
        have o6 : ∀ p, p < 9 → - mdivL (mRow N1 (s.1 - 1)) (s.2.2 (s.1 - 1)) (s.2.2 (s.1 - 2) + 1 - s.2.2 (s.1 - 1)) (s.2.2 (s.1 - 2)) (mRow N1 (s.1 - 2)) p = mdivR s p := fun p hp => by
          unfold mdivR
          rw [mdivL_cong (e' := mRow N1 (s.1 - 1)) (fun p hp => (g1 p hp).symm) h9 _ _ _ (mRow N1 (s.1 - 2)) o3 (fun p hp => (g2 p hp).symm) p hp]
        have o7 := topW_cong 9 o6
        have o8 := topW_le9 (mdivR s)
        refine x_iload_n (pc := 82) dX5_laysFrom_82 rfl rfl ?_
        refine x_if_eq (pc := 83) (t := 133) dX5_laysFrom_83 (by decide) ⟨by omega, by omega⟩ (fun c83 => ?_) (fun c83 => ?_)
        · exfalso; omega
        · refine x_aload_n (pc := 86) dX5_laysFrom_86 rfl rfl ?_
          refine x_aload_n (pc := 87) dX5_laysFrom_87 rfl rfl ?_
          refine x_geti (pc := 88) fX5_106 dX5_laysFrom_88 hd.1 rfl (fun r88a r88b => ?_)
          rw [hm]
          refine x_callV (pc := 91) [_] rfl kX5_112 dX5_laysFrom_91 hd.1 rfl rfl (by decide) (Nat.le_of_ble_eq_true rfl) (Nat.le_of_ble_eq_true rfl) (by decide) ?_
          refine sp_X5_divides hd hb0 hB1 (by omega) h9 o3 o2 e1 e2 o5 (fun N2 M2 hF2 hB2 hN2 hp2 => ?_)
          have hm2 : M2 d 9 = s.1 := by rw [hF2 _ _ (by omega)]; exact hm
          rw [o7]
          refine ⟨_, rfl, ?_⟩
          refine x_istore_n (pc := 94) dX5_laysFrom_94 rfl (by decide) (L' := [(2, _), (1, _), (0, _)]) rfl ?_
          refine x_iload_n (pc := 95) dX5_laysFrom_95 rfl rfl ?_
          refine x_if_ge (pc := 96) (t := 100) dX5_laysFrom_96 (by decide) ⟨by omega, by omega⟩ (fun c96 => ?_) (fun c96 => ?_)
          · refine x_aload_n (pc := 100) dX5_laysFrom_100 rfl rfl ?_
            refine x_getr (pc := 101) (b := d + 8) fX5_32 dX5_laysFrom_101 hd.1 rfl rfl ?_
            refine x_aload_n (pc := 104) dX5_laysFrom_104 rfl rfl ?_
            refine x_geti (pc := 105) fX5_106 dX5_laysFrom_105 hd.1 rfl (fun r105a r105b => ?_)
            rw [hm2] at r105a r105b ⊢
            refine x_iload_n (pc := 108) dX5_laysFrom_108 rfl rfl ?_
            refine x_iast (pc := 109) dX5_laysFrom_109 hd.2.2.2.2.2.2.2.2.1 (by omega) (by omega) (by omega) ⟨by omega, by omega⟩ ?_
            refine x_aload_n (pc := 110) dX5_laysFrom_110 rfl rfl ?_
            refine x_dup (pc := 111) dX5_laysFrom_111 rfl ?_
            refine x_geti (pc := 112) fX5_106 dX5_laysFrom_112 hd.1 rfl (fun r112a r112b => ?_)
            try simp (disch := omega) only [mset_same, mset_nea, mset_nei, mcopy_nea, mcopy_in, mcopy_out, Int.reduceToNat, Int.toNat_natCast, Nat.zero_add, Nat.sub_zero] at r112a r112b ⊢
            refine x_iconst (pc := 115) dX5_laysFrom_115 ?_
            refine x_iadd (pc := 116) dX5_laysFrom_116 ?_
            refine x_puti (pc := 117) fnX5_106 dX5_laysFrom_117 hd.1 (by omega) rfl ⟨by omega, by omega⟩ ?_
            refine x_iload_n (pc := 120) dX5_laysFrom_120 rfl rfl ?_
            refine x_if_le (pc := 121) (t := 128) dX5_laysFrom_121 (by decide) ⟨by omega, by omega⟩ (fun c121 => ?_) (fun c121 => ?_)
            · refine x_iconst (pc := 128) dX5_laysFrom_128 ?_
              refine x_istore_n (pc := 129) dX5_laysFrom_129 rfl (by decide) (L' := [(1, _), (2, _), (0, _)]) rfl ?_
              refine x_goto (pc := 130) (t := 82) dX5_laysFrom_130 (by decide) ?_
              refine X.loc [0, 2] (L' := [(1, _), (0, _)]) rfl ?_
              rw [if_neg (by omega)] at hr
              rcases o4 with o4 | o4
              · exfalso; omega
              refine ih _ (mNext s) N2 _ (by show s.1 + 1 + n = 6; omega) (by show 2 ≤ s.1 + 1; omega) ?_ ?_ o4 hr ((hF.fr hF2).m8.m9) ?_ ?_ ?_
              · show (if s.1 + 1 - 1 = s.1 then topW (mdivR s) 9 - 1 else _) < 9
                rw [if_pos (by omega)]
                omega
              · show _ = if 0 < (if s.1 + 1 - 1 = s.1 then topW (mdivR s) 9 - 1 else _) then (1 : Int) else 0
                rw [if_pos (show s.1 + 1 - 1 = s.1 by omega)]
                first
                | (rw [if_pos (by omega)])
                | (rw [if_neg (by omega)])
              · exact hB2.fr (fun j => by rw [mset_nea (by omega), mset_nea (by omega)])
              · rw [mset_same]
                show _ = ((s.1 + 1 : Nat) : Int)
                omega
              · intro q hq
                have hq2 : q < s.1 + 1 := hq
                rw [mset_nea (by omega)]
                show mset _ _ _ _ _ _ = ((if q = s.1 then topW (mdivR s) 9 - 1 else s.2.2 q : Nat) : Int) ∧ ∀ p, p < 9 → N2 (9 * q + p) = (if q = s.1 then mdivR s else s.2.1 q) p
                by_cases e : q = s.1
                · subst e
                  rw [if_pos rfl, if_pos rfl]
                  refine ⟨by rw [mset_same]; omega, fun p hp => (hp2 p hp).trans (o6 p hp)⟩
                · rw [if_neg e, if_neg e]
                  refine ⟨by rw [mset_nei (by omega), hF2 _ _ (by omega)]; exact (hrow q (by omega)).1, fun p hp => ?_⟩
                  rw [hN2 _ (by omega) (by omega)]
                  exact (hrow q (by omega)).2 p hp
            · refine x_iconst (pc := 124) dX5_laysFrom_124 ?_
              refine x_goto (pc := 125) (t := 129) dX5_laysFrom_125 (by decide) ?_
              refine x_istore_n (pc := 129) dX5_laysFrom_129 rfl (by decide) (L' := [(1, _), (2, _), (0, _)]) rfl ?_
              refine x_goto (pc := 130) (t := 82) dX5_laysFrom_130 (by decide) ?_
              refine X.loc [0, 2] (L' := [(1, _), (0, _)]) rfl ?_
              rw [if_neg (by omega)] at hr
              rcases o4 with o4 | o4
              · exfalso; omega
              refine ih _ (mNext s) N2 _ (by show s.1 + 1 + n = 6; omega) (by show 2 ≤ s.1 + 1; omega) ?_ ?_ o4 hr ((hF.fr hF2).m8.m9) ?_ ?_ ?_
              · show (if s.1 + 1 - 1 = s.1 then topW (mdivR s) 9 - 1 else _) < 9
                rw [if_pos (by omega)]
                omega
              · show _ = if 0 < (if s.1 + 1 - 1 = s.1 then topW (mdivR s) 9 - 1 else _) then (1 : Int) else 0
                rw [if_pos (show s.1 + 1 - 1 = s.1 by omega)]
                first
                | (rw [if_pos (by omega)])
                | (rw [if_neg (by omega)])
              · exact hB2.fr (fun j => by rw [mset_nea (by omega), mset_nea (by omega)])
              · rw [mset_same]
                show _ = ((s.1 + 1 : Nat) : Int)
                omega
              · intro q hq
                have hq2 : q < s.1 + 1 := hq
                rw [mset_nea (by omega)]
                show mset _ _ _ _ _ _ = ((if q = s.1 then topW (mdivR s) 9 - 1 else s.2.2 q : Nat) : Int) ∧ ∀ p, p < 9 → N2 (9 * q + p) = (if q = s.1 then mdivR s else s.2.1 q) p
                by_cases e : q = s.1
                · subst e
                  rw [if_pos rfl, if_pos rfl]
                  refine ⟨by rw [mset_same]; omega, fun p hp => (hp2 p hp).trans (o6 p hp)⟩
                · rw [if_neg e, if_neg e]
                  refine ⟨by rw [mset_nei (by omega), hF2 _ _ (by omega)]; exact (hrow q (by omega)).1, fun p hp => ?_⟩
                  rw [hN2 _ (by omega) (by omega)]
                  exact (hrow q (by omega)).2 p hp
          · refine x_vret (pc := 99) dX5_laysFrom_99 rfl (by decide) (by decide) ?_
            refine k M2 (hF.fr hF2) ?_
            rw [if_pos (Or.inr (by omega))] at hr
            rw [← hr]
            refine ⟨N2, hB2, by rw [hF2 _ _ (by omega)]; exact hm, fun q hq => ⟨by rw [hF2 _ _ (by omega)]; exact (hrow q hq).1, fun p hp => ?_⟩⟩
            rw [hN2 _ (by omega) (by omega)]
            exact (hrow q hq).2 p hp
  refine x_aload_n (pc := 0) dX5_laysFrom_0 rfl rfl ?_
  refine x_iconst (pc := 1) dX5_laysFrom_1 ?_
  refine x_puti (pc := 2) fnX5_106 dX5_laysFrom_2 hd.1 (by omega) rfl ⟨by omega, by omega⟩ ?_
  refine x_aload_n (pc := 5) dX5_laysFrom_5 rfl rfl ?_
  refine x_getr (pc := 6) (b := d + 8) fX5_32 dX5_laysFrom_6 hd.1 rfl rfl ?_
  refine x_iconst (pc := 9) dX5_laysFrom_9 ?_
  refine x_aload_n (pc := 10) dX5_laysFrom_10 rfl rfl ?_
  refine x_iconst (pc := 11) dX5_laysFrom_11 ?_
  refine x_bipush (pc := 12) dX5_laysFrom_12 (by decide) ?_
  refine x_callV (pc := 14) [_, _] rfl kX5_103 dX5_laysFrom_14 hd.1 rfl rfl (by decide) (Nat.le_of_ble_eq_true rfl) (Nat.le_of_ble_eq_true rfl) (by decide) ?_
  have hB0 : Bg N (mset M d 9 0) d := hB.fr (fun j => mset_nea (by omega))
  refine sp_X5_degreeOf (r9 := 0) (m9 := 8) hd hb0 hB0 (by omega) (by omega) ?_
  rw [et]
  refine ⟨_, rfl, ?_⟩
  refine x_iast (pc := 17) dX5_laysFrom_17 hd.2.2.2.2.2.2.2.2.1 (by omega) (by omega) (by omega) ⟨by omega, by omega⟩ ?_
  refine x_aload_n (pc := 18) dX5_laysFrom_18 rfl rfl ?_
  refine x_getr (pc := 19) (b := d + 8) fX5_32 dX5_laysFrom_19 hd.1 rfl rfl ?_
  refine x_iconst (pc := 22) dX5_laysFrom_22 ?_
  refine x_iald (pc := 23) dX5_laysFrom_23 hd.2.2.2.2.2.2.2.2.1 (by omega) (by omega) (fun r23a r23b => ?_)
  try simp (disch := omega) only [mset_same, mset_nea, mset_nei, mcopy_nea, mcopy_in, mcopy_out, Int.reduceToNat, Int.toNat_natCast, Nat.zero_add, Nat.sub_zero] at r23a r23b ⊢
  refine x_if_ge (pc := 24) (t := 28) dX5_laysFrom_24 (by decide) ⟨by omega, by omega⟩ (fun c24 => ?_) (fun c24 => ?_)
  · refine x_aload_n (pc := 28) dX5_laysFrom_28 rfl rfl ?_
    refine x_iconst (pc := 29) dX5_laysFrom_29 ?_
    refine x_puti (pc := 30) fnX5_106 dX5_laysFrom_30 hd.1 (by omega) rfl ⟨by omega, by omega⟩ ?_
    refine x_aload_n (pc := 33) dX5_laysFrom_33 rfl rfl ?_
    refine x_getr (pc := 34) (b := d + 8) fX5_32 dX5_laysFrom_34 hd.1 rfl rfl ?_
    refine x_iconst (pc := 37) dX5_laysFrom_37 ?_
    refine x_iald (pc := 38) dX5_laysFrom_38 hd.2.2.2.2.2.2.2.2.1 (by omega) (by omega) (fun r38a r38b => ?_)
    try simp (disch := omega) only [mset_same, mset_nea, mset_nei, mcopy_nea, mcopy_in, mcopy_out, Int.reduceToNat, Int.toNat_natCast, Nat.zero_add, Nat.sub_zero] at r38a r38b ⊢
    refine x_if_ne (pc := 39) (t := 43) dX5_laysFrom_39 (by decide) ⟨by omega, by omega⟩ (fun c39 => ?_) (fun c39 => ?_)
    · refine x_aload_n (pc := 43) dX5_laysFrom_43 rfl rfl ?_
      refine x_iconst (pc := 44) dX5_laysFrom_44 ?_
      refine x_callV (pc := 45) [_] rfl kX5_109 dX5_laysFrom_45 hd.1 rfl rfl (by decide) (Nat.le_of_ble_eq_true rfl) (Nat.le_of_ble_eq_true rfl) (by decide) ?_
      obtain ⟨M3, hM3⟩ : ∃ M3, M3 = mset (mset (mset M d 9 0) (d + 8) 0 ((topW f 9 : Int) - 1)) d 9 1 := ⟨_, rfl⟩
      rw [← hM3]
      have hF3 : FrL d M M3 := by rw [hM3]; exact FrL.rf.m9.m8.m9
      have hB3 : Bg N M3 d := hB.fr (fun j => by rw [hM3, mset_nea (by omega), mset_nea (by omega), mset_nea (by omega)])
      have h80 : M3 (d + 8) 0 = ((topW f 9 - 1 : Nat) : Int) := by
        rw [hM3, mset_nea (by omega), mset_same]
        omega
      refine sp_X5_derives (r9 := 0) (n9 := topW f 9 - 1) hd hb0 hB3 (by omega) (by omega) h80 (fun p hp => by rw [Nat.mul_zero, Nat.zero_add, hf p hp]; exact hok.1 p hp) (fun N4 M4 hF4 hB4 hN4 hp4 => ?_)
      have h804 : M4 (d + 8) 0 = ((topW f 9 - 1 : Nat) : Int) := by rw [hF4 _ _ (by omega)]; exact h80
      refine ⟨_, rfl, ?_⟩
      refine x_aload_n (pc := 48) dX5_laysFrom_48 rfl rfl ?_
      refine x_getr (pc := 49) (b := d + 8) fX5_32 dX5_laysFrom_49 hd.1 rfl rfl ?_
      refine x_iconst (pc := 52) dX5_laysFrom_52 ?_
      refine x_aload_n (pc := 53) dX5_laysFrom_53 rfl rfl ?_
      refine x_getr (pc := 54) (b := d + 8) fX5_32 dX5_laysFrom_54 hd.1 rfl rfl ?_
      refine x_iconst (pc := 57) dX5_laysFrom_57 ?_
      refine x_iald (pc := 58) dX5_laysFrom_58 hd.2.2.2.2.2.2.2.2.1 (by omega) (by omega) (fun r58a r58b => ?_)
      try simp (disch := omega) only [mset_same, mset_nea, mset_nei, mcopy_nea, mcopy_in, mcopy_out, Int.reduceToNat, Int.toNat_natCast, Nat.zero_add, Nat.sub_zero] at r58a r58b ⊢
      refine x_iconst (pc := 59) dX5_laysFrom_59 ?_
      refine x_isub (pc := 60) dX5_laysFrom_60 ?_
      refine x_iast (pc := 61) dX5_laysFrom_61 hd.2.2.2.2.2.2.2.2.1 (by omega) (by omega) (by omega) ⟨by omega, by omega⟩ ?_
      refine x_aload_n (pc := 62) dX5_laysFrom_62 rfl rfl ?_
      refine x_iconst (pc := 63) dX5_laysFrom_63 ?_
      refine x_puti (pc := 64) fnX5_106 dX5_laysFrom_64 hd.1 (by omega) rfl ⟨by omega, by omega⟩ ?_
      refine x_aload_n (pc := 67) dX5_laysFrom_67 rfl rfl ?_
      refine x_getr (pc := 68) (b := d + 8) fX5_32 dX5_laysFrom_68 hd.1 rfl rfl ?_
      refine x_iconst (pc := 71) dX5_laysFrom_71 ?_
      refine x_iald (pc := 72) dX5_laysFrom_72 hd.2.2.2.2.2.2.2.2.1 (by omega) (by omega) (fun r72a r72b => ?_)
      try simp (disch := omega) only [mset_same, mset_nea, mset_nei, mcopy_nea, mcopy_in, mcopy_out, Int.reduceToNat, Int.toNat_natCast, Nat.zero_add, Nat.sub_zero] at r72a r72b ⊢
      refine x_if_le (pc := 73) (t := 80) dX5_laysFrom_73 (by decide) ⟨by omega, by omega⟩ (fun c73 => ?_) (fun c73 => ?_)
      · refine x_iconst (pc := 80) dX5_laysFrom_80 ?_
        refine x_istore_n (pc := 81) dX5_laysFrom_81 rfl (by decide) (L' := [(1, _), (0, _)]) rfl ?_
        refine X.loc [0, 1] (L' := [(1, _), (0, _)]) rfl ?_
        have h1 : 1 < topW f 9 := by omega
        refine loop 4 _ (mTwo f) N4 _ rfl (by show 2 ≤ 2; omega) ?_ ?_ (hok.2 h1) ?_ (((hF3.fr hF4).m8).m9) ?_ ?_ ?_
        · show topW f 9 - 2 < 9
          omega
        · show _ = if 0 < topW f 9 - 2 then (1 : Int) else 0
          first
          | (rw [if_pos (by omega)])
          | (rw [if_neg (by omega)])
        · unfold mRows
          rw [if_neg (by omega), if_neg (by omega)]
        · exact hB4.fr (fun j => by rw [mset_nea (by omega), mset_nea (by omega)])
        · rw [mset_same]
          rfl
        · intro q hq
          have hq2 : q < 2 := hq
          rw [mset_nea (by omega)]
          show mset _ _ _ _ _ _ = ((if q = 0 then topW f 9 - 1 else topW f 9 - 2 : Nat) : Int) ∧ ∀ p, p < 9 → N4 (9 * q + p) = (if q = 0 then f else mder f (topW f 9 - 1)) p
          by_cases e : q = 0
          · subst e
            rw [if_pos rfl, if_pos rfl]
            refine ⟨by rw [mset_nei (by omega), hF4 _ _ (by omega)]; exact h80, fun p hp => ?_⟩
            rw [hN4 _ (by omega), Nat.mul_zero, Nat.zero_add]
            exact hf p hp
          · have e1 : q = 1 := by omega
            subst e1
            rw [if_neg e, if_neg e]
            refine ⟨?_, fun p hp => (hp4 p hp).trans ?_⟩
            · rw [mset_same, h804]
              omega
            · unfold mder
              split
              · rw [show mRow N 0 (p + 1) = N (9 * 0 + (p + 1)) from rfl, Nat.mul_zero, Nat.zero_add, hf (p + 1) (by omega)]
              · rfl
      · refine x_iconst (pc := 76) dX5_laysFrom_76 ?_
        refine x_goto (pc := 77) (t := 81) dX5_laysFrom_77 (by decide) ?_
        refine x_istore_n (pc := 81) dX5_laysFrom_81 rfl (by decide) (L' := [(1, _), (0, _)]) rfl ?_
        refine X.loc [0, 1] (L' := [(1, _), (0, _)]) rfl ?_
        have h1 : 1 < topW f 9 := by omega
        refine loop 4 _ (mTwo f) N4 _ rfl (by show 2 ≤ 2; omega) ?_ ?_ (hok.2 h1) ?_ (((hF3.fr hF4).m8).m9) ?_ ?_ ?_
        · show topW f 9 - 2 < 9
          omega
        · show _ = if 0 < topW f 9 - 2 then (1 : Int) else 0
          first
          | (rw [if_pos (by omega)])
          | (rw [if_neg (by omega)])
        · unfold mRows
          rw [if_neg (by omega), if_neg (by omega)]
        · exact hB4.fr (fun j => by rw [mset_nea (by omega), mset_nea (by omega)])
        · rw [mset_same]
          rfl
        · intro q hq
          have hq2 : q < 2 := hq
          rw [mset_nea (by omega)]
          show mset _ _ _ _ _ _ = ((if q = 0 then topW f 9 - 1 else topW f 9 - 2 : Nat) : Int) ∧ ∀ p, p < 9 → N4 (9 * q + p) = (if q = 0 then f else mder f (topW f 9 - 1)) p
          by_cases e : q = 0
          · subst e
            rw [if_pos rfl, if_pos rfl]
            refine ⟨by rw [mset_nei (by omega), hF4 _ _ (by omega)]; exact h80, fun p hp => ?_⟩
            rw [hN4 _ (by omega), Nat.mul_zero, Nat.zero_add]
            exact hf p hp
          · have e1 : q = 1 := by omega
            subst e1
            rw [if_neg e, if_neg e]
            refine ⟨?_, fun p hp => (hp4 p hp).trans ?_⟩
            · rw [mset_same, h804]
              omega
            · unfold mder
              split
              · rw [show mRow N 0 (p + 1) = N (9 * 0 + (p + 1)) from rfl, Nat.mul_zero, Nat.zero_add, hf (p + 1) (by omega)]
              · rfl
    · refine x_vret (pc := 42) dX5_laysFrom_42 rfl (by decide) (by decide) ?_
      refine k _ FrL.rf.m9.m8.m9 ?_
      have h0 : topW f 9 = 1 := by omega
      unfold mRows
      rw [if_neg (by omega), if_pos h0]
      refine ⟨N, hB.fr (fun j => by rw [mset_nea (by omega), mset_nea (by omega), mset_nea (by omega)]), by rw [mset_same]; rfl, fun q hq => ?_⟩
      have e : q = 0 := by have : q < 1 := hq; omega
      subst e
      refine ⟨?_, fun p hp => by rw [Nat.mul_zero, Nat.zero_add]; exact hf p hp⟩
      rw [mset_nea (by omega), mset_same, h0]
      rfl
  · refine x_vret (pc := 27) dX5_laysFrom_27 rfl (by decide) (by decide) ?_
    refine k _ FrL.rf.m9.m8 ?_
    have h0 : topW f 9 = 0 := by omega
    unfold mRows
    rw [if_pos h0]
    exact ⟨N, hB.fr (fun j => by rw [mset_nea (by omega), mset_nea (by omega)]), by rw [mset_nea (by omega), mset_same]; rfl, fun q hq => absurd hq (Nat.not_lt_zero q)⟩
