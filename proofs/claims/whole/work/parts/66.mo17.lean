/-! The reference: calls that tell something. -/
def idxI : List String → String → Int
  | [], _ => 0
  | a :: l, E => if E = a then 1 else idxI l E + 1
/-- which exception, counted from 1; 0 for an answer -/
def kOf (l : List String) : Res → Int
  | .inl _ => 0
  | .inr E => idxI l E
abbrev nIO : String := "java/lang/IndexOutOfBoundsException"
abbrev nIA : String := "java/lang/IllegalArgumentException"
abbrev nIS : String := "java/lang/IllegalStateException"
def FrQ (d : Nat) (M M' : Mem) : Prop := ∀ a j, ¬ (a = d ∧ (j = 0 ∨ j = 9)) → ¬ a = d + 1 → ¬ a = d + 2 → ¬ a = d + 7 → ¬ a = d + 8 → M' a j = M a j
theorem FrQ.l {d : Nat} {M M' M'' : Mem} (h : FrQ d M M') (h2 : FrL d M' M'') : FrQ d M M'' := fun a j q1 q2 q3 q4 q5 => (h2 a j (fun z => q1 ⟨z.1, Or.inr z.2⟩) q4 q5).trans (h a j q1 q2 q3 q4 q5)
theorem FrQ.f {d : Nat} {M M' M'' : Mem} (h : FrQ d M M') (h2 : Frm (d + 7) (d + 8) M' M'') : FrQ d M M'' := fun a j q1 q2 q3 q4 q5 => (h2 a j (by omega)).trans (h a j q1 q2 q3 q4 q5)
theorem mq {M M1 : Mem} {d : Nat} {T : CT} {t : Int} (e : M1 = mset M d 0 t) (hT : RowT T (M (d + 1))) (hB : ∃ N, Bg N M d) : M1 d 0 = t ∧ FrQ d M M1 ∧ RowT T (M1 (d + 1)) ∧ ∃ N, Bg N M1 d := by
  subst e
  exact ⟨mset_same, fun a j q1 _ _ _ _ => mset_ne (fun z => q1 ⟨z.1, Or.inl z.2⟩), hT.fr (fun j => mset_nea (by omega)), hB.elim (fun N hN => ⟨N, hN.fr (fun j => mset_nea (by omega))⟩)⟩
theorem x_nm {g : GG} {r : MR} {cn ck : Nat} {lay : Lay} {M : Mem} {pc : Nat} {L : List (Nat × AV)} {st : List AV} {K : KK} (k : ∀ M1, M1 = M → X g r cn ck lay M1 pc L st K) : X g r cn ck lay M pc L st K := k M rfl
theorem oI_inj {a b : Int} (h : oI a = oI b) : a = b := by
  injection h with h
  injection h with h
  injection h with h
theorem kOf_le3 {R : Res} {a b c : String} : kOf [a, b, c] R ≤ 4 := by
  cases R with
  | inl _ => show (0 : Int) ≤ 4; omega
  | inr E =>
    show idxI [a, b, c] E ≤ 4
    simp only [idxI]
    repeat' split <;> (try omega)
theorem kOf_le2 {R : Res} {a b : String} : kOf [a, b] R ≤ 4 := by
  cases R with
  | inl _ => show (0 : Int) ≤ 4; omega
  | inr E =>
    show idxI [a, b] E ≤ 4
    simp only [idxI]
    repeat' split <;> (try omega)
theorem kOf_le1 {R : Res} {a : String} : kOf [a] R ≤ 4 := by
  cases R with
  | inl _ => show (0 : Int) ≤ 4; omega
  | inr E =>
    show idxI [a] E ≤ 4
    simp only [idxI]
    repeat' split <;> (try omega)

set_option maxRecDepth 100000 in
theorem sp_X5_why {g : GG} {lay : Lay} {M : Mem} {K : KK} {d : Nat} {T : CT} {x p : Int} (hd : MoL lay d) (hb0 : g.2.1 ≤ d) (hT : RowT T (M (d + 1))) (hW : WfT T) (hB : ∃ N, Bg N M d) (gM : GoodM) (gE : GoodE) (hx : i32 x) (hp : i32 p) (k : ∀ (M2 : Mem) (v : Int), FrQ d M M2 → RowT T (M2 (d + 1)) → (∃ N, Bg N M2 d) → M2 d 0 = kOf [nIO, nIA] (rWhy T x p) → (∀ v9, (rWhy T x p) = oI v9 → v = v9) → K (.inl (some (vI v))) lay M2) : X g m_X5_why 0 0 lay M 0 [(0, vR d), (1, vI x), (2, vI p)] [] K := by
  have hn := hW.n60
  obtain ⟨wS, wP, wN, wm, wK, wL, wO, wB⟩ := id hW
  obtain ⟨⟨hS, hN, h10, hP, hp3, hL, hK, h99, hm⟩, hO, hBo⟩ := id hT
  have y0 := @b01 (hasP T p) inferInstance
  have y1 := @b01 (layab x) inferInstance
  have bad : ∀ t : Int, 0 < t → t = kOf [nIO, nIA] (rWhy T x p) → X g m_X5_why 0 0 lay M 25 [(0, vR d), (1, vI x), (2, vI p)] [vI t, vR d] K := by
    intro t ht1 ht2
    have ht3 : t ≤ 4 := by rw [ht2]; exact kOf_le2
    refine x_puti (pc := 25) fnX5_55 dX5_why_25 hd.1 (by omega) rfl ⟨by omega, by omega⟩ ?_
    refine x_nm (fun M1 hM1 => ?_)
    obtain ⟨z1, z2, z3, z4⟩ := mq hM1 hT hB
    refine x_aload_n (pc := 28) dX5_why_28 rfl rfl ?_
    refine x_geti (pc := 29) fX5_55 dX5_why_29 hd.1 rfl (fun r29a r29b => ?_)
    try simp (disch := omega) only [mset_same, mset_nea, mset_nei, mcopy_nea, mcopy_in, mcopy_out, Int.reduceToNat, Int.toNat_natCast, Nat.zero_add, Nat.sub_zero] at r29a r29b ⊢
    rw [z1] at r29a r29b ⊢
    refine x_if_le (pc := 32) (t := 39) dX5_why_32 (by decide) ⟨by omega, by omega⟩ (fun c32 => ?_) (fun c32 => ?_)
    · exfalso; omega
    · refine x_iconst (pc := 35) dX5_why_35 ?_
      refine x_goto (pc := 36) (t := 45) dX5_why_36 (by decide) ?_
      refine x_iret (pc := 45) dX5_why_45 rfl (by decide) (by decide) ?_
      refine k M1 _ z2 z3 z4 (by rw [z1]; exact ht2) (fun v9 hx => ?_)
      rw [hx] at ht2
      have h0 : kOf [nIO, nIA] (oI v9) = 0 := rfl
      exfalso
      omega
  have good : hasP T p → layab x → X g m_X5_why 0 0 lay M 25 [(0, vR d), (1, vI x), (2, vI p)] [vI 0, vR d] K := by
    intro h1 h2
    refine x_puti (pc := 25) fnX5_55 dX5_why_25 hd.1 (by omega) rfl ⟨by omega, by omega⟩ ?_
    refine x_nm (fun M1 hM1 => ?_)
    obtain ⟨z1, z2, z3, z4⟩ := mq hM1 hT hB
    refine x_aload_n (pc := 28) dX5_why_28 rfl rfl ?_
    refine x_geti (pc := 29) fX5_55 dX5_why_29 hd.1 rfl (fun r29a r29b => ?_)
    try simp (disch := omega) only [mset_same, mset_nea, mset_nei, mcopy_nea, mcopy_in, mcopy_out, Int.reduceToNat, Int.toNat_natCast, Nat.zero_add, Nat.sub_zero] at r29a r29b ⊢
    rw [z1] at r29a r29b ⊢
    refine x_if_le (pc := 32) (t := 39) dX5_why_32 (by decide) ⟨by omega, by omega⟩ (fun c32 => ?_) (fun c32 => ?_)
    · refine x_aload_n (pc := 39) dX5_why_39 rfl rfl ?_
      refine x_iload_n (pc := 40) dX5_why_40 rfl rfl ?_
      refine x_iload_n (pc := 41) dX5_why_41 rfl rfl ?_
      refine x_callV (pc := 42) [_, _] rfl kX5_225 dX5_why_42 hd.1 rfl rfl (by decide) (Nat.le_of_ble_eq_true rfl) (Nat.le_of_ble_eq_true rfl) (by decide) ?_
      have w0 := wS.1
      obtain ⟨q, rfl⟩ := Int.eq_ofNat_of_zero_le h1.1
      refine sp_X5_whyLay hd hb0 z3 hW (by omega) (by omega) h2.1 ?_
      refine ⟨_, rfl, ?_⟩
      refine x_iret (pc := 45) dX5_why_45 rfl (by decide) (by decide) ?_
      have hR : rWhy T x (q : Int) = oI (whyLayF T x q) := by
        unfold rWhy
        rw [if_neg (fun z => z h1), if_neg (fun z => z h2), Int.toNat_natCast]
      exact k M1 _ z2 z3 z4 (by rw [z1, hR]; rfl) (fun v9 hx => oI_inj (hR.symm.trans hx))
    · exfalso; omega
  refine x_aload_n (pc := 0) dX5_why_0 rfl rfl ?_
  refine x_aload_n (pc := 1) dX5_why_1 rfl rfl ?_
  refine x_iload_n (pc := 2) dX5_why_2 rfl rfl ?_
  refine x_callV (pc := 3) [_] rfl kX5_231 dX5_why_3 hd.1 rfl rfl (by decide) (Nat.le_of_ble_eq_true rfl) (Nat.le_of_ble_eq_true rfl) (by decide) ?_
  refine sp_X5_isPower hd hb0 hT hW hp ?_
  refine ⟨_, rfl, ?_⟩
  refine x_if_ne (pc := 6) (t := 13) dX5_why_6 (by decide) ⟨by omega, by omega⟩ (fun c6 => ?_) (fun c6 => ?_)
  · refine x_iload_n (pc := 13) dX5_why_13 rfl rfl ?_
    refine x_callS (pc := 14) [_] rfl kX5_234 dX5_why_14 rfl (by decide) (Nat.le_of_ble_eq_true rfl) (Nat.le_of_ble_eq_true rfl) (by decide) ?_
    refine sp_X5_isTerm hx ?_
    refine ⟨_, rfl, ?_⟩
    refine x_if_eq (pc := 17) (t := 24) dX5_why_17 (by decide) ⟨by omega, by omega⟩ (fun c17 => ?_) (fun c17 => ?_)
    · refine x_iconst (pc := 24) dX5_why_24 ?_
      refine X.loc [0, 1, 2] (L' := [(0, _), (1, _), (2, _)]) rfl ?_
      first
      | exact good (b1 c6) (b1 c17)
      | exact bad 1 (by omega) (by unfold rWhy; rw [if_pos (b0 c6)]; rfl)
      | exact bad 2 (by omega) (by unfold rWhy; rw [if_neg (fun z => z (b1 c6)), if_pos (b0 c17)]; rfl)
    · refine x_iconst (pc := 20) dX5_why_20 ?_
      refine x_goto (pc := 21) (t := 25) dX5_why_21 (by decide) ?_
      refine X.loc [0, 1, 2] (L' := [(0, _), (1, _), (2, _)]) rfl ?_
      first
      | exact good (b1 c6) (b1 c17)
      | exact bad 1 (by omega) (by unfold rWhy; rw [if_pos (b0 c6)]; rfl)
      | exact bad 2 (by omega) (by unfold rWhy; rw [if_neg (fun z => z (b1 c6)), if_pos (b0 c17)]; rfl)
  · refine x_iconst (pc := 9) dX5_why_9 ?_
    refine x_goto (pc := 10) (t := 25) dX5_why_10 (by decide) ?_
    refine X.loc [0, 1, 2] (L' := [(0, _), (1, _), (2, _)]) rfl ?_
    first
    | exact good (b1 c6) (b1 c17)
    | exact bad 1 (by omega) (by unfold rWhy; rw [if_pos (b0 c6)]; rfl)
    | exact bad 2 (by omega) (by unfold rWhy; rw [if_neg (fun z => z (b1 c6)), if_pos (b0 c17)]; rfl)
set_option maxRecDepth 100000 in
theorem sp_X5_value {g : GG} {lay : Lay} {M : Mem} {K : KK} {d : Nat} {T : CT} {x : Int} (hd : MoL lay d) (hb0 : g.2.1 ≤ d) (hT : RowT T (M (d + 1))) (hW : WfT T) (hB : ∃ N, Bg N M d) (gM : GoodM) (gE : GoodE) (hx : i32 x) (k : ∀ (M2 : Mem) (v : Int), FrQ d M M2 → RowT T (M2 (d + 1)) → (∃ N, Bg N M2 d) → M2 d 0 = kOf [nIA] (rValue T x) → (∀ v9, (rValue T x) = .inl (some (vJ v9)) → v = v9) → K (.inl (some (vJ v))) lay M2) : X g m_X5_value 0 0 lay M 0 [(0, vR d), (1, vI x)] [] K := by
  have hn := hW.n60
  obtain ⟨wS, wP, wN, wm, wK, wL, wO, wB⟩ := id hW
  obtain ⟨⟨hS, hN, h10, hP, hp3, hL, hK, h99, hm⟩, hO, hBo⟩ := id hT
  have y0 := @b01 (placeP x) inferInstance
  have bad : ∀ t : Int, 0 < t → t = kOf [nIA] (rValue T x) → X g m_X5_value 0 0 lay M 13 [(0, vR d), (1, vI x)] [vI t, vR d] K := by
    intro t ht1 ht2
    have ht3 : t ≤ 4 := by rw [ht2]; exact kOf_le1
    refine x_puti (pc := 13) fnX5_55 dX5_value_13 hd.1 (by omega) rfl ⟨by omega, by omega⟩ ?_
    refine x_nm (fun M1 hM1 => ?_)
    obtain ⟨z1, z2, z3, z4⟩ := mq hM1 hT hB
    refine x_aload_n (pc := 16) dX5_value_16 rfl rfl ?_
    refine x_geti (pc := 17) fX5_55 dX5_value_17 hd.1 rfl (fun r17a r17b => ?_)
    try simp (disch := omega) only [mset_same, mset_nea, mset_nei, mcopy_nea, mcopy_in, mcopy_out, Int.reduceToNat, Int.toNat_natCast, Nat.zero_add, Nat.sub_zero] at r17a r17b ⊢
    rw [z1] at r17a r17b ⊢
    refine x_if_le (pc := 20) (t := 27) dX5_value_20 (by decide) ⟨by omega, by omega⟩ (fun c20 => ?_) (fun c20 => ?_)
    · exfalso; omega
    · refine x_lconst (pc := 23) (x := 0) dX5_value_23 (by decide) ?_
      refine x_goto (pc := 24) (t := 32) dX5_value_24 (by decide) ?_
      refine x_lret (pc := 32) dX5_value_32 rfl (by decide) (by decide) ?_
      refine k M1 _ z2 z3 z4 (by rw [z1]; exact ht2) (fun v9 hx => ?_)
      rw [hx] at ht2
      have h0 : kOf [nIA] (.inl (some (vJ v9))) = 0 := rfl
      exfalso
      omega
  have good : placeP x → X g m_X5_value 0 0 lay M 13 [(0, vR d), (1, vI x)] [vI 0, vR d] K := by
    intro h1
    refine x_puti (pc := 13) fnX5_55 dX5_value_13 hd.1 (by omega) rfl ⟨by omega, by omega⟩ ?_
    refine x_nm (fun M1 hM1 => ?_)
    obtain ⟨z1, z2, z3, z4⟩ := mq hM1 hT hB
    refine x_aload_n (pc := 16) dX5_value_16 rfl rfl ?_
    refine x_geti (pc := 17) fX5_55 dX5_value_17 hd.1 rfl (fun r17a r17b => ?_)
    try simp (disch := omega) only [mset_same, mset_nea, mset_nei, mcopy_nea, mcopy_in, mcopy_out, Int.reduceToNat, Int.toNat_natCast, Nat.zero_add, Nat.sub_zero] at r17a r17b ⊢
    rw [z1] at r17a r17b ⊢
    refine x_if_le (pc := 20) (t := 27) dX5_value_20 (by decide) ⟨by omega, by omega⟩ (fun c20 => ?_) (fun c20 => ?_)
    · refine x_aload_n (pc := 27) dX5_value_27 rfl rfl ?_
      refine x_iload_n (pc := 28) dX5_value_28 rfl rfl ?_
      refine x_callV (pc := 29) [_] rfl kX5_164 dX5_value_29 hd.1 rfl rfl (by decide) (Nat.le_of_ble_eq_true rfl) (Nat.le_of_ble_eq_true rfl) (by decide) ?_
      refine sp_X5_valueAt hd hb0 z3 hW h1 ?_
      refine ⟨_, rfl, ?_⟩
      refine x_lret (pc := 32) dX5_value_32 rfl (by decide) (by decide) ?_
      have hR : rValue T x = .inl (some (vJ (valF (tP T) x 5))) := by
        unfold rValue
        rw [if_neg (fun z => z h1)]
      exact k M1 _ z2 z3 z4 (by rw [z1, hR]; rfl) (fun v9 hq => by
        have h9 := hR.symm.trans hq
        injection h9 with h9
        injection h9 with h9
        injection h9 with h9
        injection h9 with h9)
    · exfalso; omega
  refine x_aload_n (pc := 0) dX5_value_0 rfl rfl ?_
  refine x_iload_n (pc := 1) dX5_value_1 rfl rfl ?_
  refine x_callS (pc := 2) [_] rfl kX5_252 dX5_value_2 rfl (by decide) (Nat.le_of_ble_eq_true rfl) (Nat.le_of_ble_eq_true rfl) (by decide) ?_
  refine sp_X5_isPlace hx ?_
  refine ⟨_, rfl, ?_⟩
  refine x_if_eq (pc := 5) (t := 12) dX5_value_5 (by decide) ⟨by omega, by omega⟩ (fun c5 => ?_) (fun c5 => ?_)
  · refine x_iconst (pc := 12) dX5_value_12 ?_
    refine X.loc [0, 1] (L' := [(0, _), (1, _)]) rfl ?_
    first
    | exact good (b1 c5)
    | exact bad 1 (by omega) (by unfold rValue; rw [if_pos (b0 c5)]; rfl)
  · refine x_iconst (pc := 8) dX5_value_8 ?_
    refine x_goto (pc := 9) (t := 13) dX5_value_9 (by decide) ?_
    refine X.loc [0, 1] (L' := [(0, _), (1, _)]) rfl ?_
    first
    | exact good (b1 c5)
    | exact bad 1 (by omega) (by unfold rValue; rw [if_pos (b0 c5)]; rfl)
set_option maxRecDepth 100000 in
theorem sp_X5_roots {g : GG} {lay : Lay} {M : Mem} {K : KK} {d : Nat} {T : CT} {x y : Int} (hd : MoL lay d) (hb0 : g.2.1 ≤ d) (hT : RowT T (M (d + 1))) (hW : WfT T) (hB : ∃ N, Bg N M d) (gM : GoodM) (gE : GoodE) (hx : i32 x) (hy : i32 y) (k : ∀ (M2 : Mem) (v : Int), FrQ d M M2 → RowT T (M2 (d + 1)) → (∃ N, Bg N M2 d) → M2 d 0 = kOf [nIA] (rRoots T x y) → (∀ v9, (rRoots T x y) = oI v9 → v = v9) → K (.inl (some (vI v))) lay M2) : X g m_X5_roots 0 0 lay M 0 [(0, vR d), (1, vI x), (2, vI y)] [] K := by
  have hn := hW.n60
  obtain ⟨wS, wP, wN, wm, wK, wL, wO, wB⟩ := id hW
  obtain ⟨⟨hS, hN, h10, hP, hp3, hL, hK, h99, hm⟩, hO, hBo⟩ := id hT
  have y0 := @b01 (intvP x y) inferInstance
  have bad : ∀ t : Int, 0 < t → t = kOf [nIA] (rRoots T x y) → X g m_X5_roots 0 0 lay M 14 [(0, vR d), (1, vI x), (2, vI y)] [vI t, vR d] K := by
    intro t ht1 ht2
    have ht3 : t ≤ 4 := by rw [ht2]; exact kOf_le1
    refine x_puti (pc := 14) fnX5_55 dX5_roots_14 hd.1 (by omega) rfl ⟨by omega, by omega⟩ ?_
    refine x_nm (fun M1 hM1 => ?_)
    obtain ⟨z1, z2, z3, z4⟩ := mq hM1 hT hB
    refine x_aload_n (pc := 17) dX5_roots_17 rfl rfl ?_
    refine x_geti (pc := 18) fX5_55 dX5_roots_18 hd.1 rfl (fun r18a r18b => ?_)
    try simp (disch := omega) only [mset_same, mset_nea, mset_nei, mcopy_nea, mcopy_in, mcopy_out, Int.reduceToNat, Int.toNat_natCast, Nat.zero_add, Nat.sub_zero] at r18a r18b ⊢
    rw [z1] at r18a r18b ⊢
    refine x_if_le (pc := 21) (t := 28) dX5_roots_21 (by decide) ⟨by omega, by omega⟩ (fun c21 => ?_) (fun c21 => ?_)
    · exfalso; omega
    · refine x_iconst (pc := 24) dX5_roots_24 ?_
      refine x_goto (pc := 25) (t := 34) dX5_roots_25 (by decide) ?_
      refine x_iret (pc := 34) dX5_roots_34 rfl (by decide) (by decide) ?_
      refine k M1 _ z2 z3 z4 (by rw [z1]; exact ht2) (fun v9 hx => ?_)
      rw [hx] at ht2
      have h0 : kOf [nIA] (oI v9) = 0 := rfl
      exfalso
      omega
  have good : intvP x y → X g m_X5_roots 0 0 lay M 14 [(0, vR d), (1, vI x), (2, vI y)] [vI 0, vR d] K := by
    intro h1
    refine x_puti (pc := 14) fnX5_55 dX5_roots_14 hd.1 (by omega) rfl ⟨by omega, by omega⟩ ?_
    refine x_nm (fun M1 hM1 => ?_)
    obtain ⟨z1, z2, z3, z4⟩ := mq hM1 hT hB
    refine x_aload_n (pc := 17) dX5_roots_17 rfl rfl ?_
    refine x_geti (pc := 18) fX5_55 dX5_roots_18 hd.1 rfl (fun r18a r18b => ?_)
    try simp (disch := omega) only [mset_same, mset_nea, mset_nei, mcopy_nea, mcopy_in, mcopy_out, Int.reduceToNat, Int.toNat_natCast, Nat.zero_add, Nat.sub_zero] at r18a r18b ⊢
    rw [z1] at r18a r18b ⊢
    refine x_if_le (pc := 21) (t := 28) dX5_roots_21 (by decide) ⟨by omega, by omega⟩ (fun c21 => ?_) (fun c21 => ?_)
    · refine x_aload_n (pc := 28) dX5_roots_28 rfl rfl ?_
      refine x_iload_n (pc := 29) dX5_roots_29 rfl rfl ?_
      refine x_iload_n (pc := 30) dX5_roots_30 rfl rfl ?_
      refine x_callV (pc := 31) [_, _] rfl kX5_255 dX5_roots_31 hd.1 rfl rfl (by decide) (Nat.le_of_ble_eq_true rfl) (Nat.le_of_ble_eq_true rfl) (by decide) ?_
      refine sp_X5_rootsOf hd hb0 z4 (P := tP T) (fun p hp => z3.1.2.2.2.1 p hp) wP gM h1.1 h1.2.1 (fun M2 hF2 hR2 => ?_)
      refine ⟨_, rfl, ?_⟩
      refine x_iret (pc := 34) dX5_roots_34 rfl (by decide) (by decide) ?_
      have hR : rRoots T x y = oI (mBet (mRows (tP T)) x y) := by
        unfold rRoots mBet dBet
        obtain ⟨E1, E2, -⟩ := gE _ wP
        rw [if_neg (fun z => z h1), E1, E2 x h1.1.1 h1.1.2, E2 y h1.2.1.1 h1.2.1.2]
      exact k M2 _ (z2.l hF2) (z3.fr hF2.n) hR2.bg (by rw [hF2 _ _ (by omega) (by omega) (by omega), z1, hR]; rfl) (fun v9 hx => oI_inj (hR.symm.trans hx))
    · exfalso; omega
  refine x_aload_n (pc := 0) dX5_roots_0 rfl rfl ?_
  refine x_iload_n (pc := 1) dX5_roots_1 rfl rfl ?_
  refine x_iload_n (pc := 2) dX5_roots_2 rfl rfl ?_
  refine x_callS (pc := 3) [_, _] rfl kX5_204 dX5_roots_3 rfl (by decide) (Nat.le_of_ble_eq_true rfl) (Nat.le_of_ble_eq_true rfl) (by decide) ?_
  refine sp_X5_areEnds hx hy ?_
  refine ⟨_, rfl, ?_⟩
  refine x_if_eq (pc := 6) (t := 13) dX5_roots_6 (by decide) ⟨by omega, by omega⟩ (fun c6 => ?_) (fun c6 => ?_)
  · refine x_iconst (pc := 13) dX5_roots_13 ?_
    refine X.loc [0, 1, 2] (L' := [(0, _), (1, _), (2, _)]) rfl ?_
    first
    | exact good (b1 c6)
    | exact bad 1 (by omega) (by unfold rRoots; rw [if_pos (b0 c6)]; rfl)
  · refine x_iconst (pc := 9) dX5_roots_9 ?_
    refine x_goto (pc := 10) (t := 14) dX5_roots_10 (by decide) ?_
    refine X.loc [0, 1, 2] (L' := [(0, _), (1, _), (2, _)]) rfl ?_
    first
    | exact good (b1 c6)
    | exact bad 1 (by omega) (by unfold rRoots; rw [if_pos (b0 c6)]; rfl)
set_option maxRecDepth 100000 in
theorem sp_X5_count {g : GG} {lay : Lay} {M : Mem} {K : KK} {d : Nat} {T : CT} {x : Int} {H : Nat → CT} {u : Nat} (hd : MoL lay d) (hb0 : g.2.1 ≤ d) (hT : RowT T (M (d + 1))) (hW : WfT T) (hB : ∃ N, Bg N M d) (gM : GoodM) (gE : GoodE) (hU : Us H u M d) (hcO : hasClaim T → tO T = 0) (hx : i32 x) (k : ∀ (M2 : Mem) (v : Int), FrQ d M M2 → RowT T (M2 (d + 1)) → (∃ N, Bg N M2 d) → M2 d 0 = kOf [nIA] (rCount T u x) → (∀ v9, (rCount T u x) = oI v9 → v = v9) → K (.inl (some (vI v))) lay M2) : X g m_X5_count 0 0 lay M 0 [(0, vR d), (1, vI x)] [] K := by
  have hn := hW.n60
  obtain ⟨wS, wP, wN, wm, wK, wL, wO, wB⟩ := id hW
  obtain ⟨⟨hS, hN, h10, hP, hp3, hL, hK, h99, hm⟩, hO, hBo⟩ := id hT
  have y0 := @b01 (0 ≤ x ∧ x ≤ 15) inferInstance
  have hu12 := hU.1.2
  have hbr := barredF_rng T (tS T 0).toNat
  have t0 := termsOfF_rng (tC T) 0 (tN T)
  have t1 := termsOfF_rng (tC T) 1 (tN T)
  have bad : ∀ t : Int, 0 < t → t = kOf [nIA] (rCount T u x) → X g m_X5_count 0 0 lay M 16 [(0, vR d), (1, vI x)] [vI t, vR d] K := by
    intro t ht1 ht2
    have ht3 : t ≤ 4 := by rw [ht2]; exact kOf_le1
    refine x_puti (pc := 16) fnX5_55 dX5_count_16 hd.1 (by omega) rfl ⟨by omega, by omega⟩ ?_
    refine x_nm (fun M1 hM1 => ?_)
    obtain ⟨z1, z2, z3, z4⟩ := mq hM1 hT hB
    refine x_aload_n (pc := 19) dX5_count_19 rfl rfl ?_
    refine x_geti (pc := 20) fX5_55 dX5_count_20 hd.1 rfl (fun r20a r20b => ?_)
    try simp (disch := omega) only [mset_same, mset_nea, mset_nei, mcopy_nea, mcopy_in, mcopy_out, Int.reduceToNat, Int.toNat_natCast, Nat.zero_add, Nat.sub_zero] at r20a r20b ⊢
    rw [z1] at r20a r20b ⊢
    refine x_if_le (pc := 23) (t := 30) dX5_count_23 (by decide) ⟨by omega, by omega⟩ (fun c23 => ?_) (fun c23 => ?_)
    · exfalso; omega
    · refine x_iconst (pc := 26) dX5_count_26 ?_
      refine x_goto (pc := 27) (t := 31) dX5_count_27 (by decide) ?_
      by_cases s31_m1 : (-1) = (-1)
      · refine x_tsw_in (pc := 31) (t := 112) (-1) dX5_count_31 s31_m1 (by decide) (by decide) (by decide) rfl (by decide) ?_
        refine x_iconst (pc := 112) dX5_count_112 ?_
        refine x_iret (pc := 113) dX5_count_113 rfl (by decide) (by decide) ?_
        refine k M1 _ z2 z3 z4 (by rw [z1]; exact ht2) (fun v9 hx => ?_)
        rw [hx] at ht2
        have h0 : kOf [nIA] (oI v9) = 0 := rfl
        exfalso
        omega
      by_cases s31_0 : (-1) = 0
      · exfalso; omega
      by_cases s31_1 : (-1) = 1
      · exfalso; omega
      by_cases s31_2 : (-1) = 2
      · exfalso; omega
      by_cases s31_3 : (-1) = 3
      · exfalso; omega
      by_cases s31_4 : (-1) = 4
      · exfalso; omega
      by_cases s31_5 : (-1) = 5
      · exfalso; omega
      by_cases s31_6 : (-1) = 6
      · exfalso; omega
      by_cases s31_7 : (-1) = 7
      · exfalso; omega
      by_cases s31_8 : (-1) = 8
      · exfalso; omega
      by_cases s31_9 : (-1) = 9
      · exfalso; omega
      by_cases s31_10 : (-1) = 10
      · exfalso; omega
      by_cases s31_11 : (-1) = 11
      · exfalso; omega
      by_cases s31_12 : (-1) = 12
      · exfalso; omega
      by_cases s31_13 : (-1) = 13
      · exfalso; omega
      by_cases s31_14 : (-1) = 14
      · exfalso; omega
      by_cases s31_15 : (-1) = 15
      · exfalso; omega
      exfalso; omega
  have good : 0 ≤ x ∧ x ≤ 15 → X g m_X5_count 0 0 lay M 16 [(0, vR d), (1, vI x)] [vI 0, vR d] K := by
    intro h1
    refine x_puti (pc := 16) fnX5_55 dX5_count_16 hd.1 (by omega) rfl ⟨by omega, by omega⟩ ?_
    refine x_nm (fun M1 hM1 => ?_)
    obtain ⟨z1, z2, z3, z4⟩ := mq hM1 hT hB
    refine x_aload_n (pc := 19) dX5_count_19 rfl rfl ?_
    refine x_geti (pc := 20) fX5_55 dX5_count_20 hd.1 rfl (fun r20a r20b => ?_)
    try simp (disch := omega) only [mset_same, mset_nea, mset_nei, mcopy_nea, mcopy_in, mcopy_out, Int.reduceToNat, Int.toNat_natCast, Nat.zero_add, Nat.sub_zero] at r20a r20b ⊢
    rw [z1] at r20a r20b ⊢
    refine x_if_le (pc := 23) (t := 30) dX5_count_23 (by decide) ⟨by omega, by omega⟩ (fun c23 => ?_) (fun c23 => ?_)
    · refine x_iload_n (pc := 30) dX5_count_30 rfl rfl ?_
      by_cases s31_m1 : x = (-1)
      · exfalso; omega
      by_cases s31_0 : x = 0
      · refine x_tsw_in (pc := 31) (t := 197) 0 dX5_count_31 s31_0 (by decide) (by decide) (by decide) rfl (by decide) ?_
        refine x_aload_n (pc := 197) dX5_count_197 rfl rfl ?_
        refine x_getr (pc := 198) (b := d + 1) fX5_7 dX5_count_198 hd.1 rfl rfl ?_
        refine x_iload_n (pc := 201) dX5_count_201 rfl rfl ?_
        refine x_iald (pc := 202) dX5_count_202 hd.2.1 (by omega) (by omega) (fun r202a r202b => ?_)
        try simp (disch := omega) only [mset_same, mset_nea, mset_nei, mcopy_nea, mcopy_in, mcopy_out, Int.reduceToNat, Int.toNat_natCast, Nat.zero_add, Nat.sub_zero] at r202a r202b ⊢
        refine x_iret (pc := 203) dX5_count_203 rfl (by decide) (by decide) ?_
        refine k M1 _ z2 z3 z4 (by rw [z1]; unfold rCount; rw [if_neg (fun z => z h1)]; rfl) (fun v9 hq => ?_)
        unfold rCount at hq
        rw [if_neg (fun z => z h1)] at hq
        have hq := oI_inj hq
        rw [← hq]
        unfold countF
        first
        | (rw [if_pos (by omega)]
           obtain ⟨j, rfl⟩ := Int.eq_ofNat_of_zero_le h1.1
           rw [Int.toNat_natCast]
           exact z3.1.1 j (by omega))
        | (have e7 : x = 7 := by omega
           subst e7
           rw [if_neg (by omega), if_pos rfl]
           exact z3.1.2.1)
      by_cases s31_1 : x = 1
      · refine x_tsw_in (pc := 31) (t := 197) 1 dX5_count_31 s31_1 (by decide) (by decide) (by decide) rfl (by decide) ?_
        refine x_aload_n (pc := 197) dX5_count_197 rfl rfl ?_
        refine x_getr (pc := 198) (b := d + 1) fX5_7 dX5_count_198 hd.1 rfl rfl ?_
        refine x_iload_n (pc := 201) dX5_count_201 rfl rfl ?_
        refine x_iald (pc := 202) dX5_count_202 hd.2.1 (by omega) (by omega) (fun r202a r202b => ?_)
        try simp (disch := omega) only [mset_same, mset_nea, mset_nei, mcopy_nea, mcopy_in, mcopy_out, Int.reduceToNat, Int.toNat_natCast, Nat.zero_add, Nat.sub_zero] at r202a r202b ⊢
        refine x_iret (pc := 203) dX5_count_203 rfl (by decide) (by decide) ?_
        refine k M1 _ z2 z3 z4 (by rw [z1]; unfold rCount; rw [if_neg (fun z => z h1)]; rfl) (fun v9 hq => ?_)
        unfold rCount at hq
        rw [if_neg (fun z => z h1)] at hq
        have hq := oI_inj hq
        rw [← hq]
        unfold countF
        first
        | (rw [if_pos (by omega)]
           obtain ⟨j, rfl⟩ := Int.eq_ofNat_of_zero_le h1.1
           rw [Int.toNat_natCast]
           exact z3.1.1 j (by omega))
        | (have e7 : x = 7 := by omega
           subst e7
           rw [if_neg (by omega), if_pos rfl]
           exact z3.1.2.1)
      by_cases s31_2 : x = 2
      · refine x_tsw_in (pc := 31) (t := 197) 2 dX5_count_31 s31_2 (by decide) (by decide) (by decide) rfl (by decide) ?_
        refine x_aload_n (pc := 197) dX5_count_197 rfl rfl ?_
        refine x_getr (pc := 198) (b := d + 1) fX5_7 dX5_count_198 hd.1 rfl rfl ?_
        refine x_iload_n (pc := 201) dX5_count_201 rfl rfl ?_
        refine x_iald (pc := 202) dX5_count_202 hd.2.1 (by omega) (by omega) (fun r202a r202b => ?_)
        try simp (disch := omega) only [mset_same, mset_nea, mset_nei, mcopy_nea, mcopy_in, mcopy_out, Int.reduceToNat, Int.toNat_natCast, Nat.zero_add, Nat.sub_zero] at r202a r202b ⊢
        refine x_iret (pc := 203) dX5_count_203 rfl (by decide) (by decide) ?_
        refine k M1 _ z2 z3 z4 (by rw [z1]; unfold rCount; rw [if_neg (fun z => z h1)]; rfl) (fun v9 hq => ?_)
        unfold rCount at hq
        rw [if_neg (fun z => z h1)] at hq
        have hq := oI_inj hq
        rw [← hq]
        unfold countF
        first
        | (rw [if_pos (by omega)]
           obtain ⟨j, rfl⟩ := Int.eq_ofNat_of_zero_le h1.1
           rw [Int.toNat_natCast]
           exact z3.1.1 j (by omega))
        | (have e7 : x = 7 := by omega
           subst e7
           rw [if_neg (by omega), if_pos rfl]
           exact z3.1.2.1)
      by_cases s31_3 : x = 3
      · refine x_tsw_in (pc := 31) (t := 197) 3 dX5_count_31 s31_3 (by decide) (by decide) (by decide) rfl (by decide) ?_
        refine x_aload_n (pc := 197) dX5_count_197 rfl rfl ?_
        refine x_getr (pc := 198) (b := d + 1) fX5_7 dX5_count_198 hd.1 rfl rfl ?_
        refine x_iload_n (pc := 201) dX5_count_201 rfl rfl ?_
        refine x_iald (pc := 202) dX5_count_202 hd.2.1 (by omega) (by omega) (fun r202a r202b => ?_)
        try simp (disch := omega) only [mset_same, mset_nea, mset_nei, mcopy_nea, mcopy_in, mcopy_out, Int.reduceToNat, Int.toNat_natCast, Nat.zero_add, Nat.sub_zero] at r202a r202b ⊢
        refine x_iret (pc := 203) dX5_count_203 rfl (by decide) (by decide) ?_
        refine k M1 _ z2 z3 z4 (by rw [z1]; unfold rCount; rw [if_neg (fun z => z h1)]; rfl) (fun v9 hq => ?_)
        unfold rCount at hq
        rw [if_neg (fun z => z h1)] at hq
        have hq := oI_inj hq
        rw [← hq]
        unfold countF
        first
        | (rw [if_pos (by omega)]
           obtain ⟨j, rfl⟩ := Int.eq_ofNat_of_zero_le h1.1
           rw [Int.toNat_natCast]
           exact z3.1.1 j (by omega))
        | (have e7 : x = 7 := by omega
           subst e7
           rw [if_neg (by omega), if_pos rfl]
           exact z3.1.2.1)
      by_cases s31_4 : x = 4
      · refine x_tsw_in (pc := 31) (t := 197) 4 dX5_count_31 s31_4 (by decide) (by decide) (by decide) rfl (by decide) ?_
        refine x_aload_n (pc := 197) dX5_count_197 rfl rfl ?_
        refine x_getr (pc := 198) (b := d + 1) fX5_7 dX5_count_198 hd.1 rfl rfl ?_
        refine x_iload_n (pc := 201) dX5_count_201 rfl rfl ?_
        refine x_iald (pc := 202) dX5_count_202 hd.2.1 (by omega) (by omega) (fun r202a r202b => ?_)
        try simp (disch := omega) only [mset_same, mset_nea, mset_nei, mcopy_nea, mcopy_in, mcopy_out, Int.reduceToNat, Int.toNat_natCast, Nat.zero_add, Nat.sub_zero] at r202a r202b ⊢
        refine x_iret (pc := 203) dX5_count_203 rfl (by decide) (by decide) ?_
        refine k M1 _ z2 z3 z4 (by rw [z1]; unfold rCount; rw [if_neg (fun z => z h1)]; rfl) (fun v9 hq => ?_)
        unfold rCount at hq
        rw [if_neg (fun z => z h1)] at hq
        have hq := oI_inj hq
        rw [← hq]
        unfold countF
        first
        | (rw [if_pos (by omega)]
           obtain ⟨j, rfl⟩ := Int.eq_ofNat_of_zero_le h1.1
           rw [Int.toNat_natCast]
           exact z3.1.1 j (by omega))
        | (have e7 : x = 7 := by omega
           subst e7
           rw [if_neg (by omega), if_pos rfl]
           exact z3.1.2.1)
      by_cases s31_5 : x = 5
      · refine x_tsw_in (pc := 31) (t := 197) 5 dX5_count_31 s31_5 (by decide) (by decide) (by decide) rfl (by decide) ?_
        refine x_aload_n (pc := 197) dX5_count_197 rfl rfl ?_
        refine x_getr (pc := 198) (b := d + 1) fX5_7 dX5_count_198 hd.1 rfl rfl ?_
        refine x_iload_n (pc := 201) dX5_count_201 rfl rfl ?_
        refine x_iald (pc := 202) dX5_count_202 hd.2.1 (by omega) (by omega) (fun r202a r202b => ?_)
        try simp (disch := omega) only [mset_same, mset_nea, mset_nei, mcopy_nea, mcopy_in, mcopy_out, Int.reduceToNat, Int.toNat_natCast, Nat.zero_add, Nat.sub_zero] at r202a r202b ⊢
        refine x_iret (pc := 203) dX5_count_203 rfl (by decide) (by decide) ?_
        refine k M1 _ z2 z3 z4 (by rw [z1]; unfold rCount; rw [if_neg (fun z => z h1)]; rfl) (fun v9 hq => ?_)
        unfold rCount at hq
        rw [if_neg (fun z => z h1)] at hq
        have hq := oI_inj hq
        rw [← hq]
        unfold countF
        first
        | (rw [if_pos (by omega)]
           obtain ⟨j, rfl⟩ := Int.eq_ofNat_of_zero_le h1.1
           rw [Int.toNat_natCast]
           exact z3.1.1 j (by omega))
        | (have e7 : x = 7 := by omega
           subst e7
           rw [if_neg (by omega), if_pos rfl]
           exact z3.1.2.1)
      by_cases s31_6 : x = 6
      · refine x_tsw_in (pc := 31) (t := 197) 6 dX5_count_31 s31_6 (by decide) (by decide) (by decide) rfl (by decide) ?_
        refine x_aload_n (pc := 197) dX5_count_197 rfl rfl ?_
        refine x_getr (pc := 198) (b := d + 1) fX5_7 dX5_count_198 hd.1 rfl rfl ?_
        refine x_iload_n (pc := 201) dX5_count_201 rfl rfl ?_
        refine x_iald (pc := 202) dX5_count_202 hd.2.1 (by omega) (by omega) (fun r202a r202b => ?_)
        try simp (disch := omega) only [mset_same, mset_nea, mset_nei, mcopy_nea, mcopy_in, mcopy_out, Int.reduceToNat, Int.toNat_natCast, Nat.zero_add, Nat.sub_zero] at r202a r202b ⊢
        refine x_iret (pc := 203) dX5_count_203 rfl (by decide) (by decide) ?_
        refine k M1 _ z2 z3 z4 (by rw [z1]; unfold rCount; rw [if_neg (fun z => z h1)]; rfl) (fun v9 hq => ?_)
        unfold rCount at hq
        rw [if_neg (fun z => z h1)] at hq
        have hq := oI_inj hq
        rw [← hq]
        unfold countF
        first
        | (rw [if_pos (by omega)]
           obtain ⟨j, rfl⟩ := Int.eq_ofNat_of_zero_le h1.1
           rw [Int.toNat_natCast]
           exact z3.1.1 j (by omega))
        | (have e7 : x = 7 := by omega
           subst e7
           rw [if_neg (by omega), if_pos rfl]
           exact z3.1.2.1)
      by_cases s31_7 : x = 7
      · refine x_tsw_in (pc := 31) (t := 197) 7 dX5_count_31 s31_7 (by decide) (by decide) (by decide) rfl (by decide) ?_
        refine x_aload_n (pc := 197) dX5_count_197 rfl rfl ?_
        refine x_getr (pc := 198) (b := d + 1) fX5_7 dX5_count_198 hd.1 rfl rfl ?_
        refine x_iload_n (pc := 201) dX5_count_201 rfl rfl ?_
        refine x_iald (pc := 202) dX5_count_202 hd.2.1 (by omega) (by omega) (fun r202a r202b => ?_)
        try simp (disch := omega) only [mset_same, mset_nea, mset_nei, mcopy_nea, mcopy_in, mcopy_out, Int.reduceToNat, Int.toNat_natCast, Nat.zero_add, Nat.sub_zero] at r202a r202b ⊢
        refine x_iret (pc := 203) dX5_count_203 rfl (by decide) (by decide) ?_
        refine k M1 _ z2 z3 z4 (by rw [z1]; unfold rCount; rw [if_neg (fun z => z h1)]; rfl) (fun v9 hq => ?_)
        unfold rCount at hq
        rw [if_neg (fun z => z h1)] at hq
        have hq := oI_inj hq
        rw [← hq]
        unfold countF
        first
        | (rw [if_pos (by omega)]
           obtain ⟨j, rfl⟩ := Int.eq_ofNat_of_zero_le h1.1
           rw [Int.toNat_natCast]
           exact z3.1.1 j (by omega))
        | (have e7 : x = 7 := by omega
           subst e7
           rw [if_neg (by omega), if_pos rfl]
           exact z3.1.2.1)
      by_cases s31_8 : x = 8
      · refine x_tsw_in (pc := 31) (t := 114) 8 dX5_count_31 s31_8 (by decide) (by decide) (by decide) rfl (by decide) ?_
        refine x_aload_n (pc := 114) dX5_count_114 rfl rfl ?_
        refine x_getr (pc := 115) (b := d + 1) fX5_7 dX5_count_115 hd.1 rfl rfl ?_
        refine x_bipush (pc := 118) dX5_count_118 (by decide) ?_
        refine x_iald (pc := 120) dX5_count_120 hd.2.1 (by omega) (by omega) (fun r120a r120b => ?_)
        try simp (disch := omega) only [mset_same, mset_nea, mset_nei, mcopy_nea, mcopy_in, mcopy_out, Int.reduceToNat, Int.toNat_natCast, Nat.zero_add, Nat.sub_zero] at r120a r120b ⊢
        rw [z3.2.1] at r120a r120b ⊢
        refine x_iconst (pc := 121) dX5_count_121 ?_
        refine x_icmp_ne (pc := 122) (t := 129) dX5_count_122 (by decide) ⟨by omega, by omega⟩ ⟨by omega, by omega⟩ (fun c122 => ?_) (fun c122 => ?_)
        · refine x_aload_n (pc := 129) dX5_count_129 rfl rfl ?_
          refine x_callV (pc := 130) [] rfl kX5_152 dX5_count_130 hd.1 rfl rfl (by decide) (Nat.le_of_ble_eq_true rfl) (Nat.le_of_ble_eq_true rfl) (by decide) ?_
          refine sp_X5_whose hd hb0 z3 hW ?_
          refine ⟨_, rfl, ?_⟩
          refine x_iret (pc := 133) dX5_count_133 rfl (by decide) (by decide) ?_
          refine k M1 _ z2 z3 z4 (by rw [z1]; unfold rCount; rw [if_neg (fun z => z h1)]; rfl) (fun v9 hq => ?_)
          unfold rCount at hq
          rw [if_neg (fun z => z h1)] at hq
          have hq := oI_inj hq
          rw [← hq]
          unfold countF
          repeat (first | rw [if_pos (by omega)] | rw [if_neg (by omega)])
          first | done | rfl
        · refine x_iconst (pc := 125) dX5_count_125 ?_
          refine x_goto (pc := 126) (t := 133) dX5_count_126 (by decide) ?_
          refine x_iret (pc := 133) dX5_count_133 rfl (by decide) (by decide) ?_
          refine k M1 _ z2 z3 z4 (by rw [z1]; unfold rCount; rw [if_neg (fun z => z h1)]; rfl) (fun v9 hq => ?_)
          unfold rCount at hq
          rw [if_neg (fun z => z h1)] at hq
          have hq := oI_inj hq
          rw [← hq]
          unfold countF
          repeat (first | rw [if_pos (by omega)] | rw [if_neg (by omega)])
          first | done | rfl
      by_cases s31_9 : x = 9
      · refine x_tsw_in (pc := 31) (t := 134) 9 dX5_count_31 s31_9 (by decide) (by decide) (by decide) rfl (by decide) ?_
        refine x_aload_n (pc := 134) dX5_count_134 rfl rfl ?_
        refine x_getr (pc := 135) (b := d + 1) fX5_7 dX5_count_135 hd.1 rfl rfl ?_
        refine x_bipush (pc := 138) dX5_count_138 (by decide) ?_
        refine x_iald (pc := 140) dX5_count_140 hd.2.1 (by omega) (by omega) (fun r140a r140b => ?_)
        try simp (disch := omega) only [mset_same, mset_nea, mset_nei, mcopy_nea, mcopy_in, mcopy_out, Int.reduceToNat, Int.toNat_natCast, Nat.zero_add, Nat.sub_zero] at r140a r140b ⊢
        rw [z3.2.1] at r140a r140b ⊢
        refine x_iret (pc := 141) dX5_count_141 rfl (by decide) (by decide) ?_
        refine k M1 _ z2 z3 z4 (by rw [z1]; unfold rCount; rw [if_neg (fun z => z h1)]; rfl) (fun v9 hq => ?_)
        unfold rCount at hq
        rw [if_neg (fun z => z h1)] at hq
        have hq := oI_inj hq
        rw [← hq]
        unfold countF
        repeat (first | rw [if_pos (by omega)] | rw [if_neg (by omega)])
        first | done | rfl
      by_cases s31_10 : x = 10
      · refine x_tsw_in (pc := 31) (t := 142) 10 dX5_count_31 s31_10 (by decide) (by decide) (by decide) rfl (by decide) ?_
        refine x_aload_n (pc := 142) dX5_count_142 rfl rfl ?_
        refine x_callV (pc := 143) [] rfl kX5_215 dX5_count_143 hd.1 rfl rfl (by decide) (Nat.le_of_ble_eq_true rfl) (Nat.le_of_ble_eq_true rfl) (by decide) ?_
        refine sp_X5_barred hd hb0 z3.bar wS hn ?_
        refine ⟨_, rfl, ?_⟩
        refine x_iret (pc := 146) dX5_count_146 rfl (by decide) (by decide) ?_
        refine k M1 _ z2 z3 z4 (by rw [z1]; unfold rCount; rw [if_neg (fun z => z h1)]; rfl) (fun v9 hq => ?_)
        unfold rCount at hq
        rw [if_neg (fun z => z h1)] at hq
        have hq := oI_inj hq
        rw [← hq]
        unfold countF
        repeat (first | rw [if_pos (by omega)] | rw [if_neg (by omega)])
        first | done | rfl
      by_cases s31_11 : x = 11
      · refine x_tsw_in (pc := 31) (t := 147) 11 dX5_count_31 s31_11 (by decide) (by decide) (by decide) rfl (by decide) ?_
        refine x_aload_n (pc := 147) dX5_count_147 rfl rfl ?_
        refine x_getr (pc := 148) (b := d + 1) fX5_7 dX5_count_148 hd.1 rfl rfl ?_
        refine x_bipush (pc := 151) dX5_count_151 (by decide) ?_
        refine x_iald (pc := 153) dX5_count_153 hd.2.1 (by omega) (by omega) (fun r153a r153b => ?_)
        try simp (disch := omega) only [mset_same, mset_nea, mset_nei, mcopy_nea, mcopy_in, mcopy_out, Int.reduceToNat, Int.toNat_natCast, Nat.zero_add, Nat.sub_zero] at r153a r153b ⊢
        rw [show M1 (d + 1) 97 = _ from (z3.1.2.2.2.2.2.2.1 0 (by omega)).2] at r153a r153b ⊢
        refine x_aload_n (pc := 154) dX5_count_154 rfl rfl ?_
        refine x_getr (pc := 155) (b := d + 1) fX5_7 dX5_count_155 hd.1 rfl rfl ?_
        refine x_bipush (pc := 158) dX5_count_158 (by decide) ?_
        refine x_iald (pc := 160) dX5_count_160 hd.2.1 (by omega) (by omega) (fun r160a r160b => ?_)
        try simp (disch := omega) only [mset_same, mset_nea, mset_nei, mcopy_nea, mcopy_in, mcopy_out, Int.reduceToNat, Int.toNat_natCast, Nat.zero_add, Nat.sub_zero] at r160a r160b ⊢
        rw [show M1 (d + 1) 98 = _ from (z3.1.2.2.2.2.2.2.1 1 (by omega)).2] at r160a r160b ⊢
        refine x_iadd (pc := 161) dX5_count_161 ?_
        refine x_iret (pc := 162) dX5_count_162 rfl (by decide) (by decide) ?_
        refine k M1 _ z2 z3 z4 (by rw [z1]; unfold rCount; rw [if_neg (fun z => z h1)]; rfl) (fun v9 hq => ?_)
        unfold rCount at hq
        rw [if_neg (fun z => z h1)] at hq
        have hq := oI_inj hq
        rw [← hq]
        unfold countF
        repeat (first | rw [if_pos (by omega)] | rw [if_neg (by omega)])
        first | done | rfl
      by_cases s31_12 : x = 12
      · refine x_tsw_in (pc := 31) (t := 163) 12 dX5_count_31 s31_12 (by decide) (by decide) (by decide) rfl (by decide) ?_
        refine x_aload_n (pc := 163) dX5_count_163 rfl rfl ?_
        refine x_getr (pc := 164) (b := d + 1) fX5_7 dX5_count_164 hd.1 rfl rfl ?_
        refine x_bipush (pc := 167) dX5_count_167 (by decide) ?_
        refine x_iald (pc := 169) dX5_count_169 hd.2.1 (by omega) (by omega) (fun r169a r169b => ?_)
        try simp (disch := omega) only [mset_same, mset_nea, mset_nei, mcopy_nea, mcopy_in, mcopy_out, Int.reduceToNat, Int.toNat_natCast, Nat.zero_add, Nat.sub_zero] at r169a r169b ⊢
        rw [z3.1.2.2.2.2.2.2.2.1] at r169a r169b ⊢
        refine x_iret (pc := 170) dX5_count_170 rfl (by decide) (by decide) ?_
        refine k M1 _ z2 z3 z4 (by rw [z1]; unfold rCount; rw [if_neg (fun z => z h1)]; rfl) (fun v9 hq => ?_)
        unfold rCount at hq
        rw [if_neg (fun z => z h1)] at hq
        have hq := oI_inj hq
        rw [← hq]
        unfold countF
        repeat (first | rw [if_pos (by omega)] | rw [if_neg (by omega)])
        first | done | rfl
      by_cases s31_13 : x = 13
      · refine x_tsw_in (pc := 31) (t := 171) 13 dX5_count_31 s31_13 (by decide) (by decide) (by decide) rfl (by decide) ?_
        refine x_aload_n (pc := 171) dX5_count_171 rfl rfl ?_
        refine x_geti (pc := 172) fX5_177 dX5_count_172 hd.1 rfl (fun r172a r172b => ?_)
        try simp (disch := omega) only [mset_same, mset_nea, mset_nei, mcopy_nea, mcopy_in, mcopy_out, Int.reduceToNat, Int.toNat_natCast, Nat.zero_add, Nat.sub_zero] at r172a r172b ⊢
        rw [z2 _ _ (by omega) (by omega) (by omega) (by omega) (by omega), hU.1.1] at r172a r172b ⊢
        refine x_iret (pc := 175) dX5_count_175 rfl (by decide) (by decide) ?_
        refine k M1 _ z2 z3 z4 (by rw [z1]; unfold rCount; rw [if_neg (fun z => z h1)]; rfl) (fun v9 hq => ?_)
        unfold rCount at hq
        rw [if_neg (fun z => z h1)] at hq
        have hq := oI_inj hq
        rw [← hq]
        unfold countF
        repeat (first | rw [if_pos (by omega)] | rw [if_neg (by omega)])
        first | done | rfl
      by_cases s31_14 : x = 14
      · refine x_tsw_in (pc := 31) (t := 176) 14 dX5_count_31 s31_14 (by decide) (by decide) (by decide) rfl (by decide) ?_
        refine x_aload_n (pc := 176) dX5_count_176 rfl rfl ?_
        refine x_callV (pc := 177) [] rfl kX5_187 dX5_count_177 hd.1 rfl rfl (by decide) (Nat.le_of_ble_eq_true rfl) (Nat.le_of_ble_eq_true rfl) (by decide) ?_
        have hz9 := @b01 (tO T = 0 ∧ hasClaim T) inferInstance
        refine sp_X5_hasClaimed hd hb0 z3 hW ?_
        refine ⟨_, rfl, ?_⟩
        refine x_if_eq (pc := 180) (t := 187) dX5_count_180 (by decide) ⟨by omega, by omega⟩ (fun c180 => ?_) (fun c180 => ?_)
        · refine x_iconst (pc := 187) dX5_count_187 ?_
          refine x_iret (pc := 188) dX5_count_188 rfl (by decide) (by decide) ?_
          refine k M1 _ z2 z3 z4 (by rw [z1]; unfold rCount; rw [if_neg (fun z => z h1)]; rfl) (fun v9 hq => ?_)
          unfold rCount at hq
          rw [if_neg (fun z => z h1)] at hq
          have hq := oI_inj hq
          rw [← hq]
          unfold countF
          rw [if_neg (by omega), if_neg (by omega), if_neg (by omega), if_neg (by omega), if_neg (by omega), if_neg (by omega), if_neg (by omega), if_neg (by omega), if_pos (by omega)]
          have hnc : hasClaim T → tO T = 0 := fun z => hcO z
          first
          | (have c9 := b1 c180
             rw [if_pos c9.2])
          | (have c9 := b0 c180
             rw [if_neg (fun z => c9 ⟨hnc z, z⟩)])
        · refine x_iconst (pc := 183) dX5_count_183 ?_
          refine x_goto (pc := 184) (t := 188) dX5_count_184 (by decide) ?_
          refine x_iret (pc := 188) dX5_count_188 rfl (by decide) (by decide) ?_
          refine k M1 _ z2 z3 z4 (by rw [z1]; unfold rCount; rw [if_neg (fun z => z h1)]; rfl) (fun v9 hq => ?_)
          unfold rCount at hq
          rw [if_neg (fun z => z h1)] at hq
          have hq := oI_inj hq
          rw [← hq]
          unfold countF
          rw [if_neg (by omega), if_neg (by omega), if_neg (by omega), if_neg (by omega), if_neg (by omega), if_neg (by omega), if_neg (by omega), if_neg (by omega), if_pos (by omega)]
          have hnc : hasClaim T → tO T = 0 := fun z => hcO z
          first
          | (have c9 := b1 c180
             rw [if_pos c9.2])
          | (have c9 := b0 c180
             rw [if_neg (fun z => c9 ⟨hnc z, z⟩)])
      by_cases s31_15 : x = 15
      · refine x_tsw_in (pc := 31) (t := 189) 15 dX5_count_31 s31_15 (by decide) (by decide) (by decide) rfl (by decide) ?_
        refine x_aload_n (pc := 189) dX5_count_189 rfl rfl ?_
        refine x_getr (pc := 190) (b := d + 1) fX5_7 dX5_count_190 hd.1 rfl rfl ?_
        refine x_bipush (pc := 193) dX5_count_193 (by decide) ?_
        refine x_iald (pc := 195) dX5_count_195 hd.2.1 (by omega) (by omega) (fun r195a r195b => ?_)
        try simp (disch := omega) only [mset_same, mset_nea, mset_nei, mcopy_nea, mcopy_in, mcopy_out, Int.reduceToNat, Int.toNat_natCast, Nat.zero_add, Nat.sub_zero] at r195a r195b ⊢
        rw [z3.2.2] at r195a r195b ⊢
        refine x_iret (pc := 196) dX5_count_196 rfl (by decide) (by decide) ?_
        refine k M1 _ z2 z3 z4 (by rw [z1]; unfold rCount; rw [if_neg (fun z => z h1)]; rfl) (fun v9 hq => ?_)
        unfold rCount at hq
        rw [if_neg (fun z => z h1)] at hq
        have hq := oI_inj hq
        rw [← hq]
        unfold countF
        repeat (first | rw [if_pos (by omega)] | rw [if_neg (by omega)])
        first | done | rfl
      exfalso; omega
    · exfalso; omega
  refine x_aload_n (pc := 0) dX5_count_0 rfl rfl ?_
  refine x_iload_n (pc := 1) dX5_count_1 rfl rfl ?_
  refine x_iconst (pc := 2) dX5_count_2 ?_
  refine x_bipush (pc := 3) dX5_count_3 (by decide) ?_
  refine x_callS (pc := 5) [_, _, _] rfl kX5_144 dX5_count_5 rfl (by decide) (Nat.le_of_ble_eq_true rfl) (Nat.le_of_ble_eq_true rfl) (by decide) ?_
  obtain ⟨hx1, hx2⟩ := hx
  refine sp_X5_in ⟨by omega, by omega⟩ ⟨by omega, by omega⟩ ⟨by omega, by omega⟩ ?_
  refine ⟨_, rfl, ?_⟩
  refine x_if_eq (pc := 8) (t := 15) dX5_count_8 (by decide) ⟨by omega, by omega⟩ (fun c8 => ?_) (fun c8 => ?_)
  · refine x_iconst (pc := 15) dX5_count_15 ?_
    refine X.loc [0, 1] (L' := [(0, _), (1, _)]) rfl ?_
    first
    | exact good (b1 c8)
    | exact bad 1 (by omega) (by unfold rCount; rw [if_pos (b0 c8)]; rfl)
  · refine x_iconst (pc := 11) dX5_count_11 ?_
    refine x_goto (pc := 12) (t := 16) dX5_count_12 (by decide) ?_
    refine X.loc [0, 1] (L' := [(0, _), (1, _)]) rfl ?_
    first
    | exact good (b1 c8)
    | exact bad 1 (by omega) (by unfold rCount; rw [if_pos (b0 c8)]; rfl)
