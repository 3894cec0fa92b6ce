/-! The reference's sign rows: degrees, derivatives, remainders. -/
def mder (f : Nat → Int) (n : Nat) : Nat → Int := fun p => if p < n then f (p + 1) * ((p : Int) + 1) else 0
/-- the top coefficient taken out -/
def mcan (e : Nat → Int) (low top : Nat) (w : Nat → Int) : Nat → Int := fun p =>
  if p < top then w p * ab (e low) + (if top ≤ p + low then (if 0 < e low then - (w top * e (p + low - top)) else w top * e (p + low - top)) else 0) else if p = top then 0 else w p
def mcOK (e : Nat → Int) (low top : Nat) (w : Nat → Int) : Prop := ∀ p, p < top → ab (w p) * ab (e low) < pB 31 ∧ (top ≤ p + low → ab (w top) * ab (e (p + low - top)) < pB 31 ∧ ab (w p) * ab (e low) + ab (w top) * ab (e (p + low - top)) < pB 31)
def mdivL (e : Nat → Int) (low : Nat) : Nat → Nat → (Nat → Int) → Nat → Int
  | 0, _, w => w
  | k + 1, top, w => mdivL e low k (top - 1) (mcan e low top w)
def mdivLOK (e : Nat → Int) (low : Nat) : Nat → Nat → (Nat → Int) → Prop
  | 0, _, _ => True
  | k + 1, top, w => mcOK e low top w ∧ mdivLOK e low k (top - 1) (mcan e low top w)
abbrev mRow (N : Nat → Int) (r : Nat) : Nat → Int := fun p => N (9 * r + p)
theorem topW_cong {f g : Nat → Int} : ∀ n : Nat, (∀ i, i < n → f i = g i) → topW f n = topW g n
  | 0, _ => rfl
  | n + 1, h => by
    simp only [topW]
    rw [h n (by omega), topW_cong n (fun i hi => h i (by omega))]

set_option maxRecDepth 100000 in
theorem sp_X5_at {g : GG} {lay : Lay} {M : Mem} {K : KK} {x y : Int}  (k : K (.inl (some (vI (9 * x + y)))) lay M) : X g m_X5_at 0 0 lay M 0 [(0, vI x), (1, vI y)] [] K := by
  refine x_bipush (pc := 0) dX5_at_0 (by decide) ?_
  refine x_iload_n (pc := 2) dX5_at_2 rfl rfl ?_
  refine x_imul (pc := 3) dX5_at_3 ?_
  refine x_iload_n (pc := 4) dX5_at_4 rfl rfl ?_
  refine x_iadd (pc := 5) dX5_at_5 ?_
  refine x_iret (pc := 6) dX5_at_6 rfl (by decide) (by decide) ?_
  exact k
set_option maxRecDepth 100000 in
theorem sp_X5_degreeOf {g : GG} {lay : Lay} {M : Mem} {K : KK} {d : Nat} {r9 m9 : Nat} {N : Nat → Int} (hd : MoL lay d) (hb0 : g.2.1 ≤ d) (hB : Bg N M d) (hr9 : r9 < 9) (hm9 : m9 < 9) (k : K (.inl (some (vI ((topW (mRow N r9) (m9 + 1) : Int) - 1)))) lay M) : X g m_X5_degreeOf 0 0 lay M 0 [(0, vR d), (1, vI r9), (2, vI m9)] [] K := by
  obtain ⟨T, hT⟩ : ∃ T, T = topW (mRow N r9) (m9 + 1) := ⟨_, rfl⟩
  rw [← hT] at k
  have loop : ∀ (n : Nat) (y : Int), y + 1 = n → n ≤ 9 → topW (mRow N r9) n = T → X g m_X5_degreeOf 0 0 lay M 2 [(3, vI y), (0, vR d), (1, vI r9), (2, vI m9)] [] K := by
    intro n
    induction n with
    | zero =>
      intro y hy hn ht
      simp only [topW] at ht
      refine x_iload_n (pc := 2) dX5_degreeOf_2 rfl rfl ?_
      refine x_if_lt (pc := 3) (t := 24) dX5_degreeOf_3 (by decide) ⟨by omega, by omega⟩ (fun c3 => ?_) (fun c3 => ?_)
      · refine x_iload_n (pc := 24) dX5_degreeOf_24 rfl rfl ?_
        refine x_iret (pc := 25) dX5_degreeOf_25 rfl (by decide) (by decide) ?_
        refine kI k ?_
        omega
      · exfalso; omega
    | succ n ih =>
      intro y hy hn ht
      have hs := hB (9 * r9 + n) (by omega)
      have e0 := @sg_0 (mRow N r9 n)
      have e1 := sg_rng (mRow N r9 n)
      simp only [topW] at ht
      refine x_iload_n (pc := 2) dX5_degreeOf_2 rfl rfl ?_
      refine x_if_lt (pc := 3) (t := 24) dX5_degreeOf_3 (by decide) ⟨by omega, by omega⟩ (fun c3 => ?_) (fun c3 => ?_)
      · exfalso; omega
      · refine x_aload_n (pc := 6) dX5_degreeOf_6 rfl rfl ?_
        refine x_iload_n (pc := 7) dX5_degreeOf_7 rfl rfl ?_
        refine x_iload_n (pc := 8) dX5_degreeOf_8 rfl rfl ?_
        refine x_callS (pc := 9) [_, _] rfl kX5_87 dX5_degreeOf_9 rfl (by decide) (Nat.le_of_ble_eq_true rfl) (Nat.le_of_ble_eq_true rfl) (by decide) ?_
        refine sp_X5_at ?_
        refine ⟨_, rfl, ?_⟩
        refine x_callV (pc := 12) [_] rfl kX5_73 dX5_degreeOf_12 hd.1 rfl rfl (by decide) (Nat.le_of_ble_eq_true rfl) (Nat.le_of_ble_eq_true rfl) (by decide) ?_
        rw [show 9 * (r9 : Int) + y = ((9 * r9 + n : Nat) : Int) by omega]
        refine sp_X5_signOf hd hb0 hs (by omega) ?_
        rw [show N (9 * r9 + n) = mRow N r9 n from rfl]
        refine ⟨_, rfl, ?_⟩
        refine x_if_ne (pc := 15) (t := 24) dX5_degreeOf_15 (by decide) ⟨by omega, by omega⟩ (fun c15 => ?_) (fun c15 => ?_)
        · refine x_iload_n (pc := 24) dX5_degreeOf_24 rfl rfl ?_
          refine x_iret (pc := 25) dX5_degreeOf_25 rfl (by decide) (by decide) ?_
          rw [if_pos (fun z => c15 (e0.mpr z))] at ht
          refine kI k ?_
          omega
        · refine x_iinc (pc := 18) dX5_degreeOf_18 rfl (by decide) (L' := [(3, _), (0, _), (1, _), (2, _)]) rfl ?_
          refine x_goto (pc := 21) (t := 2) dX5_degreeOf_21 (by decide) ?_
          refine X.loc [0, 1, 2, 3] (L' := [(3, _), (0, _), (1, _), (2, _)]) rfl ?_
          rw [if_neg (fun z => z (e0.mp c15))] at ht
          exact ih _ (by omega) (by omega) ht
  refine x_iload_n (pc := 0) dX5_degreeOf_0 rfl rfl ?_
  refine x_istore_n (pc := 1) dX5_degreeOf_1 rfl (by decide) (L' := [(3, _), (0, _), (1, _), (2, _)]) rfl ?_
  refine X.loc [0, 1, 2, 3] (L' := [(3, _), (0, _), (1, _), (2, _)]) rfl ?_
  exact loop (m9 + 1) _ (by omega) (by omega) hT.symm
set_option maxRecDepth 100000 in
theorem sp_X5_derives {g : GG} {lay : Lay} {M : Mem} {K : KK} {d : Nat} {r9 n9 : Nat} {N : Nat → Int} (hd : MoL lay d) (hb0 : g.2.1 ≤ d) (hB : Bg N M d) (hr9 : r9 < 8) (hn9 : n9 < 9) (hg : M (d + 8) r9 = n9) (hov : ∀ p, p < 9 → ab (N (9 * r9 + p)) ≤ pB 30) (k : ∀ N2 M2, Frm (d + 7) (d + 8) M M2 → Bg N2 M2 d → (∀ j, ¬ (9 * (r9 + 1) ≤ j ∧ j < 9 * (r9 + 1) + 9) → N2 j = N j) → (∀ p, p < 9 → N2 (9 * (r9 + 1) + p) = mder (mRow N r9) n9 p) → K (.inl none) lay M2) : X g m_X5_derives 0 0 lay M 0 [(0, vR d), (1, vI r9)] [] K := by
  have loop : ∀ (c j : Nat) (x : Int) (N1 : Nat → Int) (M1 : Mem), j + c = 9 → x = j → Frm (d + 7) (d + 8) M M1 → Bg N1 M1 d → (∀ j, ¬ (9 * (r9 + 1) ≤ j ∧ j < 9 * (r9 + 1) + 9) → N1 j = N j) → (∀ p, p < j → N1 (9 * (r9 + 1) + p) = mder (mRow N r9) n9 p) → X g m_X5_derives 0 0 lay M1 2 [(2, vI x), (0, vR d), (1, vI r9)] [] K := by
    intro c
    induction c with
    | zero =>
      intro j x N1 M1 hj hx hF hB1 hN hp
      refine x_iload_n (pc := 2) dX5_derives_2 rfl rfl ?_
      refine x_bipush (pc := 3) dX5_derives_3 (by decide) ?_
      refine x_icmp_ge (pc := 5) (t := 71) dX5_derives_5 (by decide) ⟨by omega, by omega⟩ ⟨by omega, by omega⟩ (fun c5 => ?_) (fun c5 => ?_)
      · refine x_vret (pc := 71) dX5_derives_71 rfl (by decide) (by decide) ?_
        exact k N1 M1 hF hB1 hN (fun p hp9 => hp p (by omega))
      · exfalso; omega
    | succ c ih =>
      intro j x N1 M1 hj hx hF hB1 hN hp
      have e1 : M1 (d + 8) r9 = n9 := by rw [hF _ _ (by omega)]; exact hg
      refine x_iload_n (pc := 2) dX5_derives_2 rfl rfl ?_
      refine x_bipush (pc := 3) dX5_derives_3 (by decide) ?_
      refine x_icmp_ge (pc := 5) (t := 71) dX5_derives_5 (by decide) ⟨by omega, by omega⟩ ⟨by omega, by omega⟩ (fun c5 => ?_) (fun c5 => ?_)
      · exfalso; omega
      · refine x_iload_n (pc := 8) dX5_derives_8 rfl rfl ?_
        refine x_aload_n (pc := 9) dX5_derives_9 rfl rfl ?_
        refine x_getr (pc := 10) (b := d + 8) fX5_32 dX5_derives_10 hd.1 rfl rfl ?_
        refine x_iload_n (pc := 13) dX5_derives_13 rfl rfl ?_
        refine x_iald (pc := 14) dX5_derives_14 hd.2.2.2.2.2.2.2.2.1 (by omega) (by omega) (fun r14a r14b => ?_)
        rw [Int.toNat_natCast, e1] at r14a r14b ⊢
        refine x_icmp_ge (pc := 15) (t := 53) dX5_derives_15 (by decide) ⟨by omega, by omega⟩ ⟨by omega, by omega⟩ (fun c15 => ?_) (fun c15 => ?_)
        · refine x_aload_n (pc := 53) dX5_derives_53 rfl rfl ?_
          refine x_iload_n (pc := 54) dX5_derives_54 rfl rfl ?_
          refine x_iconst (pc := 55) dX5_derives_55 ?_
          refine x_iadd (pc := 56) dX5_derives_56 ?_
          refine x_iload_n (pc := 57) dX5_derives_57 rfl rfl ?_
          refine x_callS (pc := 58) [_, _] rfl kX5_87 dX5_derives_58 rfl (by decide) (Nat.le_of_ble_eq_true rfl) (Nat.le_of_ble_eq_true rfl) (by decide) ?_
          refine sp_X5_at ?_
          refine ⟨_, rfl, ?_⟩
          refine x_iconst (pc := 61) dX5_derives_61 ?_
          rw [show 9 * ((r9 : Int) + 1) + x = ((9 * (r9 + 1) + j : Nat) : Int) by omega]
          refine x_callV (pc := 62) [_, _] rfl kX5_65 dX5_derives_62 hd.1 rfl rfl (by decide) (Nat.le_of_ble_eq_true rfl) (Nat.le_of_ble_eq_true rfl) (by decide) ?_
          refine sp_X5_setsLong hd hb0 hB1 (by omega) (by omega) (fun M2 hF2 hB2 => ?_)
          refine ⟨_, rfl, ?_⟩
          refine x_iinc (pc := 65) dX5_derives_65 rfl (by decide) (L' := [(2, _), (0, _), (1, _)]) rfl ?_
          refine x_goto (pc := 68) (t := 2) dX5_derives_68 (by decide) ?_
          refine X.loc [0, 1, 2] (L' := [(2, _), (0, _), (1, _)]) rfl ?_
          first
          | (refine ih (j + 1) _ _ _ (by omega) (by omega) ((hF.trans hF2.frm).trans hF3.frm) hB3 (fun i hi => by rw [fup_ne (by omega)]; exact hN i hi) (fun p hp9 => ?_)
             by_cases e : p = j
             · rw [e, fup_at]
               unfold mder
               rw [if_pos (by omega), hx]
               rfl
             · rw [fup_ne (by omega)]
               exact hp p (by omega))
          | (refine ih (j + 1) _ _ _ (by omega) (by omega) (hF.trans hF2.frm) hB2 (fun i hi => by rw [fup_ne (by omega)]; exact hN i hi) (fun p hp9 => ?_)
             by_cases e : p = j
             · rw [e, fup_at]
               unfold mder
               rw [if_neg (by omega)]
             · rw [fup_ne (by omega)]
               exact hp p (by omega))
        · refine x_aload_n (pc := 18) dX5_derives_18 rfl rfl ?_
          refine x_iload_n (pc := 19) dX5_derives_19 rfl rfl ?_
          refine x_iload_n (pc := 20) dX5_derives_20 rfl rfl ?_
          refine x_iconst (pc := 21) dX5_derives_21 ?_
          refine x_iadd (pc := 22) dX5_derives_22 ?_
          refine x_callS (pc := 23) [_, _] rfl kX5_87 dX5_derives_23 rfl (by decide) (Nat.le_of_ble_eq_true rfl) (Nat.le_of_ble_eq_true rfl) (by decide) ?_
          refine sp_X5_at ?_
          refine ⟨_, rfl, ?_⟩
          refine x_iload_n (pc := 26) dX5_derives_26 rfl rfl ?_
          refine x_iconst (pc := 27) dX5_derives_27 ?_
          refine x_iadd (pc := 28) dX5_derives_28 ?_
          refine x_iload_n (pc := 29) dX5_derives_29 rfl rfl ?_
          refine x_callS (pc := 30) [_, _] rfl kX5_87 dX5_derives_30 rfl (by decide) (Nat.le_of_ble_eq_true rfl) (Nat.le_of_ble_eq_true rfl) (by decide) ?_
          refine sp_X5_at ?_
          refine ⟨_, rfl, ?_⟩
          rw [show 9 * (r9 : Int) + (x + 1) = ((9 * r9 + j + 1 : Nat) : Int) by omega, show 9 * ((r9 : Int) + 1) + x = ((9 * (r9 + 1) + j : Nat) : Int) by omega]
          refine x_callV (pc := 33) [_, _] rfl kX5_76 dX5_derives_33 hd.1 rfl rfl (by decide) (Nat.le_of_ble_eq_true rfl) (Nat.le_of_ble_eq_true rfl) (by decide) ?_
          refine sp_X5_copiesLong hd hb0 hB1 (by omega) (by omega) (fun M2 hF2 hB2 => ?_)
          rw [hN (9 * r9 + j + 1) (by omega)] at hB2
          refine ⟨_, rfl, ?_⟩
          refine x_aload_n (pc := 36) dX5_derives_36 rfl rfl ?_
          refine x_iload_n (pc := 37) dX5_derives_37 rfl rfl ?_
          refine x_iconst (pc := 38) dX5_derives_38 ?_
          refine x_iadd (pc := 39) dX5_derives_39 ?_
          refine x_iload_n (pc := 40) dX5_derives_40 rfl rfl ?_
          refine x_callS (pc := 41) [_, _] rfl kX5_87 dX5_derives_41 rfl (by decide) (Nat.le_of_ble_eq_true rfl) (Nat.le_of_ble_eq_true rfl) (by decide) ?_
          refine sp_X5_at ?_
          refine ⟨_, rfl, ?_⟩
          refine x_iload_n (pc := 44) dX5_derives_44 rfl rfl ?_
          refine x_iconst (pc := 45) dX5_derives_45 ?_
          refine x_iadd (pc := 46) dX5_derives_46 ?_
          rw [show 9 * ((r9 : Int) + 1) + x = ((9 * (r9 + 1) + j : Nat) : Int) by omega]
          refine x_callV (pc := 47) [_, _] rfl kX5_90 dX5_derives_47 hd.1 rfl rfl (by decide) (Nat.le_of_ble_eq_true rfl) (Nat.le_of_ble_eq_true rfl) (by decide) ?_
          have a1 : ab (x + 1) ≤ 10 := by unfold ab; split <;> omega
          have a2 := Int.mul_le_mul (hov (j + 1) (by omega)) a1 (ab_nn _) (by have := pB_pos 30; omega)
          have a3 := pB_pos 30
          have a4 : pB 31 = 1000000000 * pB 30 := pB_s 30
          rw [show 9 * r9 + (j + 1) = 9 * r9 + j + 1 by omega] at a2
          refine sp_X5_multipliesBy hd hb0 hB2 (by omega) (by omega) (by rw [fup_at]; omega) (fun M3 hF3 hB3 => ?_)
          rw [fup_at, fup2] at hB3
          refine ⟨_, rfl, ?_⟩
          refine x_goto (pc := 50) (t := 65) dX5_derives_50 (by decide) ?_
          refine x_iinc (pc := 65) dX5_derives_65 rfl (by decide) (L' := [(2, _), (0, _), (1, _)]) rfl ?_
          refine x_goto (pc := 68) (t := 2) dX5_derives_68 (by decide) ?_
          refine X.loc [0, 1, 2] (L' := [(2, _), (0, _), (1, _)]) rfl ?_
          first
          | (refine ih (j + 1) _ _ _ (by omega) (by omega) ((hF.trans hF2.frm).trans hF3.frm) hB3 (fun i hi => by rw [fup_ne (by omega)]; exact hN i hi) (fun p hp9 => ?_)
             by_cases e : p = j
             · rw [e, fup_at]
               unfold mder
               rw [if_pos (by omega), hx]
               rfl
             · rw [fup_ne (by omega)]
               exact hp p (by omega))
          | (refine ih (j + 1) _ _ _ (by omega) (by omega) (hF.trans hF2.frm) hB2 (fun i hi => by rw [fup_ne (by omega)]; exact hN i hi) (fun p hp9 => ?_)
             by_cases e : p = j
             · rw [e, fup_at]
               unfold mder
               rw [if_neg (by omega)]
             · rw [fup_ne (by omega)]
               exact hp p (by omega))
  refine x_iconst (pc := 0) dX5_derives_0 ?_
  refine x_istore_n (pc := 1) dX5_derives_1 rfl (by decide) (L' := [(2, _), (0, _), (1, _)]) rfl ?_
  refine X.loc [0, 1, 2] (L' := [(2, _), (0, _), (1, _)]) rfl ?_
  exact loop 9 0 _ _ _ rfl rfl Frm.rf hB (fun i hi => rfl) (fun p hp => by omega)
