/-! Specs of RootDuel: rows, acts, first queries. -/
def w32 (x : Int) : Int := (Int32.ofInt x).toInt
theorem w32_i (x : Int) : i32 (w32 x) := ⟨by have := Int32.le_toInt (Int32.ofInt x); unfold w32; omega, by have := Int32.toInt_lt (Int32.ofInt x); unfold w32; omega⟩
theorem w32_id {x : Int} (h : i32 x) : w32 x = x := n32_toInt h
theorem x_w32 {g : GG} {r : MR} {cn ck : Nat} {lay : Lay} {M : Mem} {pc : Nat} {L : List (Nat × AV)} {st : List AV} {K : KK} {x : Int} (k : X g r cn ck lay M pc L (vI (w32 x) :: st) K) : X g r cn ck lay M pc L (vI x :: st) K := by
  have e : (vI x :: st).map cv = (vI (w32 x) :: st).map cv := by
    simp only [List.map_cons]
    congr 1
    show Value.int (Int32.ofInt x) = Value.int (Int32.ofInt (w32 x))
    unfold w32
    rw [Int32.ofInt_toInt]
  unfold X at *
  rw [e]
  exact k
abbrev Res : Type := Option AV ⊕ String
abbrev oI (x : Int) : Res := .inl (some (vI x))
abbrev eIA : Res := .inr "java/lang/IllegalArgumentException"
abbrev eIS : Res := .inr "java/lang/IllegalStateException"
abbrev eIO : Res := .inr "java/lang/IndexOutOfBoundsException"
theorem kE {K : KK} {lay : Lay} {M : Mem} {a b : Res} (k : K a lay M) (h : b = a) : K b lay M := h ▸ k
theorem kE2 {K : KK} {lay : Lay} {M : Mem} {a b : Res} (k : K a lay M) (h : a = b) : K b lay M := h ▸ k
/-- all but the trial, the rows and the shifted coefficients stays -/
def Scr (b : Nat) (M M' : Mem) : Prop := ∀ a j, ¬ (b + 8 ≤ a ∧ a < b + 15) → ¬ (b + 16 ≤ a ∧ a < b + 25) → ¬ a = b + 31 → M' a j = M a j
theorem Scr.rf {b : Nat} {M : Mem} : Scr b M M := fun _ _ _ _ _ => rfl
theorem Scr.tr {b : Nat} {M M' M'' : Mem} (h : Scr b M M') (h2 : Scr b M' M'') : Scr b M M'' := fun a j q1 q2 q3 => (h2 a j q1 q2 q3).trans (h a j q1 q2 q3)
theorem Scr.fr {b lo hi : Nat} {M M' M'' : Mem} (h : Scr b M M') (h2 : Frm lo hi M' M'') (ha : (b + 8 ≤ lo ∧ hi ≤ b + 15) ∨ (b + 16 ≤ lo ∧ hi ≤ b + 25) ∨ (b + 31 ≤ lo ∧ hi ≤ b + 32)) : Scr b M M'' := fun a j q1 q2 q3 => by
  rw [h2 a j (by omega)]
  exact h a j q1 q2 q3
theorem Scr.ms {b : Nat} {M M' : Mem} {a i : Nat} {v : Int} (h : Scr b M M') (ha : (b + 8 ≤ a ∧ a < b + 15) ∨ (b + 16 ≤ a ∧ a < b + 25) ∨ a = b + 31) : Scr b M (mset M' a i v) := fun c j q1 q2 q3 => by
  rw [mset_nea (by omega)]
  exact h c j q1 q2 q3
theorem Ct.gen {T : CT} {M M' : Mem} {c : Nat} (h : Ct T M c) (hf : ∀ a j, c ≤ a → a < c + 7 → M' a j = M a j) : Ct T M' c := by
  obtain ⟨h1, h2, h3, h4, h5, h6, h7, h8⟩ := h
  refine ⟨fun j hj => ?_, fun j hj => ?_, ?_, fun j hj => ?_, fun j hj => ?_, fun p i f hp hi hf2 => ?_, ?_, ?_⟩
  · rw [hf _ _ (by omega) (by omega)]; exact h1 j hj
  · rw [hf _ _ (by omega) (by omega)]; exact h2 j hj
  · rw [hf _ _ (by omega) (by omega)]; exact h3
  · rw [hf _ _ (by omega) (by omega), hf _ _ (by omega) (by omega)]; exact h4 j hj
  · rw [hf _ _ (by omega) (by omega)]; exact h5 j hj
  · rw [hf _ _ (by omega) (by omega)]; exact h6 p i f hp hi hf2
  · rw [hf _ _ (by omega) (by omega)]; exact h7
  · rw [hf _ _ (by omega) (by omega)]; exact h8
theorem Ct.scr {T : CT} {M M' : Mem} {b : Nat} (h : Ct T M (b + 1)) (hf : Scr b M M') : Ct T M' (b + 1) := h.gen (fun a j q1 q2 => hf a j (by omega) (by omega) (by omega))
/-- all but the contest, the rows, the accounts and the count of acts that can be undone stays -/
def Act (b : Nat) (M M' : Mem) : Prop := ∀ a j, ¬ (b ≤ a ∧ a < b + 8) → ¬ (b + 16 ≤ a ∧ a < b + 25) → ¬ a = b + 30 → M' a j = M a j
/-- accounts, and how many acts can be undone -/
def Dh (A : Nat → Int) (u : Int) (M : Mem) (b : Nat) : Prop := (∀ i, i < 9 → M (b + 30) i = A i) ∧ M b 8 = u
abbrev hasP (T : CT) (p : Int) : Prop := 0 ≤ p ∧ p < tS T 0
abbrev layab (x : Int) : Prop := x ≠ 0 ∧ -9 ≤ x ∧ x ≤ 9
abbrev placeP (x : Int) : Prop := -20 ≤ x ∧ x ≤ 20
abbrev intvP (a b : Int) : Prop := placeP a ∧ placeP b ∧ a < b
def WfO (T : CT) : Prop := tO T = 0 → (tN T : Int) < tS T 2
def accF (A : Nat → Int) (r : Int) : Nat → Int := fup A r.toNat (w32 (A r.toNat + 1))
def undF (u r : Int) : Int := if r = 0 ∧ u < 12 then u + 1 else u
theorem whyLay_rng (T : CT) (x : Int) (p : Nat) : 0 ≤ whyLayF T x p ∧ whyLayF T x p ≤ 8 := by unfold whyLayF; split <;> (try split) <;> (try split) <;> (try split) <;> omega
theorem whyClaim_rng (T : CT) (a b s : Int) : 0 ≤ whyClaimF T a b s ∧ whyClaimF T a b s ≤ 8 := by unfold whyClaimF; split <;> (try split) <;> (try split) <;> (try split) <;> (try split) <;> omega
def actLay (T : CT) (x : Int) (p : Nat) : CT := if whyLayF T x p = 0 then tTerm T x p else T
def actClaim (T : CT) (a b r l s : Int) : CT := if whyClaimF T a b s = 0 then tClaim T a b r l s else T
def actPass (T : CT) : CT := if tO T = 1 then T else tTerm T 0 0

set_option maxRecDepth 100000 in
theorem sp_X4_buildRows {g : GG} {lay : Lay} {M : Mem} {K : KK} {b a : Nat} {sv : Nat → Option Nat} {rf : Nat → Option Nat} {P : Nat → Int} (gB : GoodB) (hd : DuL lay b sv) (hb0 : g.2.1 ≤ b) (ha : lay.1 a = some (1, 5, rf)) (hac : ¬ a = b + 16 + 8) (hP : WfP P) (hw : ∀ i, i < 5 → M a i = P i) (k : ∀ M2, Frm (b + 16) (b + 25) M M2 → Rw (buildF P) M2 (b + 16) → K (.inl none) lay M2) : X g m_X4_buildRows 0 0 lay M 0 [(0, vR b), (1, vR a)] [] K := by
  refine x_aload_n (pc := 0) dX4_buildRows_0 rfl rfl ?_
  refine x_getr (pc := 1) (b := b + 16) fX4_26 dX4_buildRows_1 hd.1 rfl rfl ?_
  refine x_aload_n (pc := 4) dX4_buildRows_4 rfl rfl ?_
  refine x_callV (pc := 5) [_] rfl kX4_279 dX4_buildRows_5 hd.2.2.2.2.1.1 rfl rfl (by decide) (Nat.le_of_ble_eq_true rfl) (Nat.le_of_ble_eq_true rfl) (by decide) ?_
  refine sp_X3_take hd.2.2.2.2.1 (by omega) ha hac hw (fun M2 hF2 hw2 => ?_)
  refine ⟨_, rfl, ?_⟩
  refine x_aload_n (pc := 8) dX4_buildRows_8 rfl rfl ?_
  refine x_getr (pc := 9) (b := b + 16) fX4_26 dX4_buildRows_9 hd.1 rfl rfl ?_
  refine x_callV (pc := 12) [] rfl kX4_282 dX4_buildRows_12 hd.2.2.2.2.1.1 rfl rfl (by decide) (Nat.le_of_ble_eq_true rfl) (Nat.le_of_ble_eq_true rfl) (by decide) ?_
  refine sp_X3_build hd.2.2.2.2.1 (by omega) hw2 (gB P hP).1 (fun M3 hF3 hR3 => ?_)
  refine ⟨_, rfl, ?_⟩
  refine x_vret (pc := 15) dX4_buildRows_15 rfl (by decide) (by decide) ?_
  exact k _ ((hF2.wide (by omega) (by omega)).trans (hF3.wide (by omega) (by omega))) hR3
set_option maxRecDepth 100000 in
theorem sp_X4_settle {g : GG} {lay : Lay} {M : Mem} {K : KK} {b : Nat} {sv : Nat → Option Nat} {A : Nat → Int} {u x : Int} (hd : DuL lay b sv) (hb0 : g.2.1 ≤ b) (hA : Dh A u M b) (hu : 0 ≤ u ∧ u ≤ 12) (hx : 0 ≤ x ∧ x ≤ 8) (k : ∀ M2, (∀ a j, ¬ a = b → ¬ a = b + 30 → M2 a j = M a j) → Dh (accF A x) (undF u x) M2 b → K (.inl (some (vI x))) lay M2) : X g m_X4_settle 0 0 lay M 0 [(0, vR b), (1, vI x)] [] K := by
  obtain ⟨a1, a2⟩ := hA
  have a3 := a1 x.toNat (by omega)
  have fin : ∀ M1 : Mem, (∀ a j, ¬ a = b + 30 → M1 a j = M a j) → (∀ i, i < 9 → M1 (b + 30) i = accF A x i) → X g m_X4_settle 0 0 lay M1 20 [(0, vR b), (1, vI x)] [] K := by
    intro M1 hF hA1
    have a4 : M1 b 8 = u := by rw [hF _ _ (by omega)]; exact a2
    unfold undF at k
    refine x_iload_n (pc := 20) dX4_settle_20 rfl rfl ?_
    refine x_if_ne (pc := 21) (t := 43) dX4_settle_21 (by decide) ⟨by omega, by omega⟩ (fun c21 => ?_) (fun c21 => ?_)
    · refine x_iload_n (pc := 43) dX4_settle_43 rfl rfl ?_
      refine x_iret (pc := 44) dX4_settle_44 rfl (by decide) (by decide) ?_
      first
      | (refine k _ (fun a j q1 q2 => ?_) ⟨fun i hi => ?_, ?_⟩
         · rw [mset_nea q1]
           exact hF a j q2
         · rw [mset_nea (by omega)]
           exact hA1 i hi
         · rw [mset_same, if_pos (by omega)])
      | (refine k _ (fun a j q1 q2 => hF a j q2) ⟨hA1, ?_⟩
         rw [if_neg (by omega)]
         exact a4)
    · refine x_aload_n (pc := 24) dX4_settle_24 rfl rfl ?_
      refine x_geti (pc := 25) fX4_81 dX4_settle_25 hd.1 rfl (fun r25a r25b => ?_)
      rw [a4] at r25a r25b ⊢
      refine x_bipush (pc := 28) dX4_settle_28 (by decide) ?_
      refine x_icmp_ge (pc := 30) (t := 43) dX4_settle_30 (by decide) ⟨by omega, by omega⟩ ⟨by omega, by omega⟩ (fun c30 => ?_) (fun c30 => ?_)
      · refine x_iload_n (pc := 43) dX4_settle_43 rfl rfl ?_
        refine x_iret (pc := 44) dX4_settle_44 rfl (by decide) (by decide) ?_
        first
        | (refine k _ (fun a j q1 q2 => ?_) ⟨fun i hi => ?_, ?_⟩
           · rw [mset_nea q1]
             exact hF a j q2
           · rw [mset_nea (by omega)]
             exact hA1 i hi
           · rw [mset_same, if_pos (by omega)])
        | (refine k _ (fun a j q1 q2 => hF a j q2) ⟨hA1, ?_⟩
           rw [if_neg (by omega)]
           exact a4)
      · refine x_aload_n (pc := 33) dX4_settle_33 rfl rfl ?_
        refine x_dup (pc := 34) dX4_settle_34 rfl ?_
        refine x_geti (pc := 35) fX4_81 dX4_settle_35 hd.1 rfl (fun r35a r35b => ?_)
        rw [a4] at r35a r35b ⊢
        refine x_iconst (pc := 38) dX4_settle_38 ?_
        refine x_iadd (pc := 39) dX4_settle_39 ?_
        refine x_puti (pc := 40) fnX4_81 dX4_settle_40 hd.1 (by omega) rfl ⟨by omega, by omega⟩ ?_
        refine x_iload_n (pc := 43) dX4_settle_43 rfl rfl ?_
        refine x_iret (pc := 44) dX4_settle_44 rfl (by decide) (by decide) ?_
        first
        | (refine k _ (fun a j q1 q2 => ?_) ⟨fun i hi => ?_, ?_⟩
           · rw [mset_nea q1]
             exact hF a j q2
           · rw [mset_nea (by omega)]
             exact hA1 i hi
           · rw [mset_same, if_pos (by omega)])
        | (refine k _ (fun a j q1 q2 => hF a j q2) ⟨hA1, ?_⟩
           rw [if_neg (by omega)]
           exact a4)
  refine x_iload_n (pc := 0) dX4_settle_0 rfl rfl ?_
  refine x_if_lt (pc := 1) (t := 20) dX4_settle_1 (by decide) ⟨by omega, by omega⟩ (fun c1 => ?_) (fun c1 => ?_)
  · exfalso; omega
  · refine x_iload_n (pc := 4) dX4_settle_4 rfl rfl ?_
    refine x_bipush (pc := 5) dX4_settle_5 (by decide) ?_
    refine x_icmp_gt (pc := 7) (t := 20) dX4_settle_7 (by decide) ⟨by omega, by omega⟩ ⟨by omega, by omega⟩ (fun c7 => ?_) (fun c7 => ?_)
    · exfalso; omega
    · refine x_aload_n (pc := 10) dX4_settle_10 rfl rfl ?_
      refine x_getr (pc := 11) (b := b + 30) fX4_44 dX4_settle_11 hd.1 rfl rfl ?_
      refine x_iload_n (pc := 14) dX4_settle_14 rfl rfl ?_
      refine x_dup2 (pc := 15) dX4_settle_15 rfl rfl ?_
      refine x_iald (pc := 16) dX4_settle_16 hd.2.2.2.2.2.2.2.1 (by omega) (by omega) (fun r16a r16b => ?_)
      rw [a3]
      refine x_iconst (pc := 17) dX4_settle_17 ?_
      refine x_iadd (pc := 18) dX4_settle_18 ?_
      refine x_w32 ?_
      have w1 := w32_i (A x.toNat + 1)
      obtain ⟨w2, w3⟩ := w1
      refine x_iast (pc := 19) dX4_settle_19 hd.2.2.2.2.2.2.2.1 (by omega) (by omega) (by omega) ⟨by omega, by omega⟩ ?_
      refine X.loc [0, 1] (L' := [(0, _), (1, _)]) rfl ?_
      refine fin _ (fun a j q => ?_) (fun i hi => ?_)
      · rw [mset_nea q]
      · unfold accF fup
        by_cases e : i = x.toNat
        · rw [if_pos e, e, mset_same]
        · rw [if_neg e, mset_nei e]
          exact a1 i hi
set_option maxRecDepth 100000 in
theorem sp_X4_isPlace {g : GG} {lay : Lay} {M : Mem} {K : KK} {x : Int} (hx : i32 x) (k : K (.inl (some (vI (if placeP x then 1 else 0)))) lay M) : X g m_X4_isPlace 0 0 lay M 0 [(0, vI x)] [] K := by
  obtain ⟨hx1, hx2⟩ := hx
  refine x_iload_n (pc := 0) dX4_isPlace_0 rfl rfl ?_
  refine x_bipush (pc := 1) dX4_isPlace_1 (by decide) ?_
  refine x_icmp_lt (pc := 3) (t := 16) dX4_isPlace_3 (by decide) ⟨by omega, by omega⟩ ⟨by omega, by omega⟩ (fun c3 => ?_) (fun c3 => ?_)
  · refine x_iconst (pc := 16) dX4_isPlace_16 ?_
    refine x_zret (pc := 17) dX4_isPlace_17 rfl ⟨by omega, by omega⟩ (by decide) (by decide) ?_
    first
    | exact k
    | (rw [if_pos (by omega)] at k; exact k)
    | (rw [if_neg (by omega)] at k; exact k)
  · refine x_iload_n (pc := 6) dX4_isPlace_6 rfl rfl ?_
    refine x_bipush (pc := 7) dX4_isPlace_7 (by decide) ?_
    refine x_icmp_gt (pc := 9) (t := 16) dX4_isPlace_9 (by decide) ⟨by omega, by omega⟩ ⟨by omega, by omega⟩ (fun c9 => ?_) (fun c9 => ?_)
    · refine x_iconst (pc := 16) dX4_isPlace_16 ?_
      refine x_zret (pc := 17) dX4_isPlace_17 rfl ⟨by omega, by omega⟩ (by decide) (by decide) ?_
      first
      | exact k
      | (rw [if_pos (by omega)] at k; exact k)
      | (rw [if_neg (by omega)] at k; exact k)
    · refine x_iconst (pc := 12) dX4_isPlace_12 ?_
      refine x_goto (pc := 13) (t := 17) dX4_isPlace_13 (by decide) ?_
      refine x_zret (pc := 17) dX4_isPlace_17 rfl ⟨by omega, by omega⟩ (by decide) (by decide) ?_
      first
      | exact k
      | (rw [if_pos (by omega)] at k; exact k)
      | (rw [if_neg (by omega)] at k; exact k)
set_option maxRecDepth 100000 in
theorem sp_X4_isLayable {g : GG} {lay : Lay} {M : Mem} {K : KK} {x : Int} (hx : i32 x) (k : K (.inl (some (vI (if layab x then 1 else 0)))) lay M) : X g m_X4_isLayable 0 0 lay M 0 [(0, vI x)] [] K := by
  obtain ⟨hx1, hx2⟩ := hx
  refine x_iload_n (pc := 0) dX4_isLayable_0 rfl rfl ?_
  refine x_if_eq (pc := 1) (t := 20) dX4_isLayable_1 (by decide) ⟨by omega, by omega⟩ (fun c1 => ?_) (fun c1 => ?_)
  · refine x_iconst (pc := 20) dX4_isLayable_20 ?_
    refine x_zret (pc := 21) dX4_isLayable_21 rfl ⟨by omega, by omega⟩ (by decide) (by decide) ?_
    first
    | exact k
    | (rw [if_pos (by omega)] at k; exact k)
    | (rw [if_neg (by omega)] at k; exact k)
  · refine x_iload_n (pc := 4) dX4_isLayable_4 rfl rfl ?_
    refine x_bipush (pc := 5) dX4_isLayable_5 (by decide) ?_
    refine x_icmp_lt (pc := 7) (t := 20) dX4_isLayable_7 (by decide) ⟨by omega, by omega⟩ ⟨by omega, by omega⟩ (fun c7 => ?_) (fun c7 => ?_)
    · refine x_iconst (pc := 20) dX4_isLayable_20 ?_
      refine x_zret (pc := 21) dX4_isLayable_21 rfl ⟨by omega, by omega⟩ (by decide) (by decide) ?_
      first
      | exact k
      | (rw [if_pos (by omega)] at k; exact k)
      | (rw [if_neg (by omega)] at k; exact k)
    · refine x_iload_n (pc := 10) dX4_isLayable_10 rfl rfl ?_
      refine x_bipush (pc := 11) dX4_isLayable_11 (by decide) ?_
      refine x_icmp_gt (pc := 13) (t := 20) dX4_isLayable_13 (by decide) ⟨by omega, by omega⟩ ⟨by omega, by omega⟩ (fun c13 => ?_) (fun c13 => ?_)
      · refine x_iconst (pc := 20) dX4_isLayable_20 ?_
        refine x_zret (pc := 21) dX4_isLayable_21 rfl ⟨by omega, by omega⟩ (by decide) (by decide) ?_
        first
        | exact k
        | (rw [if_pos (by omega)] at k; exact k)
        | (rw [if_neg (by omega)] at k; exact k)
      · refine x_iconst (pc := 16) dX4_isLayable_16 ?_
        refine x_goto (pc := 17) (t := 21) dX4_isLayable_17 (by decide) ?_
        refine x_zret (pc := 21) dX4_isLayable_21 rfl ⟨by omega, by omega⟩ (by decide) (by decide) ?_
        first
        | exact k
        | (rw [if_pos (by omega)] at k; exact k)
        | (rw [if_neg (by omega)] at k; exact k)
set_option maxRecDepth 100000 in
theorem sp_X4_isInterval {g : GG} {lay : Lay} {M : Mem} {K : KK} {x y : Int} (hx : i32 x) (hy : i32 y) (k : K (.inl (some (vI (if intvP x y then 1 else 0)))) lay M) : X g m_X4_isInterval 0 0 lay M 0 [(0, vI x), (1, vI y)] [] K := by
  obtain ⟨hx1, hx2⟩ := hx
  obtain ⟨hy1, hy2⟩ := hy
  have z1 := @b01 (placeP x) inferInstance
  have z2 := @b01 (placeP y) inferInstance
  refine x_iload_n (pc := 0) dX4_isInterval_0 rfl rfl ?_
  refine x_callS (pc := 1) [_] rfl kX4_216 dX4_isInterval_1 rfl (by decide) (Nat.le_of_ble_eq_true rfl) (Nat.le_of_ble_eq_true rfl) (by decide) ?_
  refine sp_X4_isPlace ⟨hx1, hx2⟩ ?_
  refine ⟨_, rfl, ?_⟩
  refine x_if_eq (pc := 4) (t := 23) dX4_isInterval_4 (by decide) ⟨by omega, by omega⟩ (fun c4 => ?_) (fun c4 => ?_)
  · refine x_iconst (pc := 23) dX4_isInterval_23 ?_
    refine x_zret (pc := 24) dX4_isInterval_24 rfl ⟨by omega, by omega⟩ (by decide) (by decide) ?_
    refine kI k ?_
    first
    | (rw [if_neg (fun z => (b0 c4) z.1)])
    | (rw [if_neg (fun z => (b0 c11) z.2.1)])
    | (rw [if_pos ⟨b1 c4, b1 c11, by omega⟩])
    | (rw [if_neg (fun z => by omega)])
  · refine x_iload_n (pc := 7) dX4_isInterval_7 rfl rfl ?_
    refine x_callS (pc := 8) [_] rfl kX4_216 dX4_isInterval_8 rfl (by decide) (Nat.le_of_ble_eq_true rfl) (Nat.le_of_ble_eq_true rfl) (by decide) ?_
    refine sp_X4_isPlace ⟨hy1, hy2⟩ ?_
    refine ⟨_, rfl, ?_⟩
    refine x_if_eq (pc := 11) (t := 23) dX4_isInterval_11 (by decide) ⟨by omega, by omega⟩ (fun c11 => ?_) (fun c11 => ?_)
    · refine x_iconst (pc := 23) dX4_isInterval_23 ?_
      refine x_zret (pc := 24) dX4_isInterval_24 rfl ⟨by omega, by omega⟩ (by decide) (by decide) ?_
      refine kI k ?_
      first
      | (rw [if_neg (fun z => (b0 c4) z.1)])
      | (rw [if_neg (fun z => (b0 c11) z.2.1)])
      | (rw [if_pos ⟨b1 c4, b1 c11, by omega⟩])
      | (rw [if_neg (fun z => by omega)])
    · refine x_iload_n (pc := 14) dX4_isInterval_14 rfl rfl ?_
      refine x_iload_n (pc := 15) dX4_isInterval_15 rfl rfl ?_
      refine x_icmp_ge (pc := 16) (t := 23) dX4_isInterval_16 (by decide) ⟨by omega, by omega⟩ ⟨by omega, by omega⟩ (fun c16 => ?_) (fun c16 => ?_)
      · refine x_iconst (pc := 23) dX4_isInterval_23 ?_
        refine x_zret (pc := 24) dX4_isInterval_24 rfl ⟨by omega, by omega⟩ (by decide) (by decide) ?_
        refine kI k ?_
        first
        | (rw [if_neg (fun z => (b0 c4) z.1)])
        | (rw [if_neg (fun z => (b0 c11) z.2.1)])
        | (rw [if_pos ⟨b1 c4, b1 c11, by omega⟩])
        | (rw [if_neg (fun z => by omega)])
      · refine x_iconst (pc := 19) dX4_isInterval_19 ?_
        refine x_goto (pc := 20) (t := 24) dX4_isInterval_20 (by decide) ?_
        refine x_zret (pc := 24) dX4_isInterval_24 rfl ⟨by omega, by omega⟩ (by decide) (by decide) ?_
        refine kI k ?_
        first
        | (rw [if_neg (fun z => (b0 c4) z.1)])
        | (rw [if_neg (fun z => (b0 c11) z.2.1)])
        | (rw [if_pos ⟨b1 c4, b1 c11, by omega⟩])
        | (rw [if_neg (fun z => by omega)])
set_option maxRecDepth 100000 in
theorem sp_X4_layTerm {g : GG} {lay : Lay} {M : Mem} {K : KK} {b : Nat} {sv : Nat → Option Nat} {T : CT} {x : Int} {p : Nat} {A : Nat → Int} {u : Int} (gB : GoodB) (hd : DuL lay b sv) (hb0 : g.2.1 ≤ b) (hT : Ct T M (b + 1)) (hW : WfT T) (hA : Dh A u M b) (hu : 0 ≤ u ∧ u ≤ 12) (hO : WfO T) (hp : (p : Int) < tS T 0) (hx : -9 ≤ x ∧ x ≤ 9) (k : ∀ M2, Act b M M2 → Ct (actLay T x p) M2 (b + 1) → Dh (accF A (whyLayF T x p)) (undF u (whyLayF T x p)) M2 b → K (.inl (some (vI (whyLayF T x p)))) lay M2) : X g m_X4_layTerm 0 0 lay M 0 [(0, vR b), (1, vI x), (2, vI p)] [] K := by
  have w0 := hW.1.1
  have hr := whyLay_rng T x p
  have why0 : whyLayF T x p = 0 → tO T = 0 ∧ -30 ≤ tP T p + x ∧ tP T p + x ≤ 30 := by
    intro z
    have hOO := hW.2.2.2.2.2.2.1
    unfold whyLayF at z
    split at z
    · omega
    · split at z
      · omega
      · split at z <;> omega
  unfold actLay at k
  refine x_aload_n (pc := 0) dX4_layTerm_0 rfl rfl ?_
  refine x_getr (pc := 1) (b := b + 1) fX4_10 dX4_layTerm_1 hd.1 rfl rfl ?_
  refine x_iload_n (pc := 4) dX4_layTerm_4 rfl rfl ?_
  refine x_iload_n (pc := 5) dX4_layTerm_5 rfl rfl ?_
  refine x_callV (pc := 6) [_, _] rfl kX4_203 dX4_layTerm_6 hd.2.1.1 rfl rfl (by decide) (Nat.le_of_ble_eq_true rfl) (Nat.le_of_ble_eq_true rfl) (by decide) ?_
  refine sp_X0_refusalOfTerm hd.2.1 hT hW (by omega) hx ?_
  generalize hwl : whyLayF T x p = why at *
  refine ⟨_, rfl, ?_⟩
  refine x_istore_n (pc := 9) dX4_layTerm_9 rfl (by decide) (L' := [(3, _), (0, _), (1, _), (2, _)]) rfl ?_
  refine x_iload_n (pc := 10) dX4_layTerm_10 rfl rfl ?_
  refine x_if_ne (pc := 11) (t := 27) dX4_layTerm_11 (by decide) ⟨by omega, by omega⟩ (fun c11 => ?_) (fun c11 => ?_)
  · refine x_aload_n (pc := 27) dX4_layTerm_27 rfl rfl ?_
    refine x_iload_n (pc := 28) dX4_layTerm_28 rfl rfl ?_
    refine x_callV (pc := 29) [_] rfl kX4_292 dX4_layTerm_29 hd.1 rfl rfl (by decide) (Nat.le_of_ble_eq_true rfl) (Nat.le_of_ble_eq_true rfl) (by decide) ?_
    first
    | (refine sp_X4_settle (A := A) (u := u) hd hb0 ⟨fun i hi => by rw [hF2 _ _ (by omega) (by omega)]; exact hA.1 i hi, by rw [hF2 _ _ (by omega) (by omega)]; exact hA.2⟩ hu hr (fun M3 hF3 hA3 => ?_)
       skip)
    | refine sp_X4_settle (A := A) (u := u) hd hb0 hA hu hr (fun M3 hF3 hA3 => ?_)
    refine ⟨_, rfl, ?_⟩
    refine x_iret (pc := 32) dX4_layTerm_32 rfl (by decide) (by decide) ?_
    first
    | (rw [if_pos (by omega)] at k
       refine k _ (fun a j q1 q2 q3 => ?_) (hT2.gen (fun a j q1 q2 => hF3 _ _ (by omega) (by omega))) hA3
       rw [hF3 _ _ (by omega) q3]
       exact hF2 _ _ (by omega) (by omega))
    | (rw [if_neg (by omega)] at k
       refine k _ (fun a j q1 q2 q3 => ?_) (hT.gen (fun a j q1 q2 => hF3 _ _ (by omega) (by omega))) hA3
       rw [hF3 _ _ (by omega) q3])
  · refine x_aload_n (pc := 14) dX4_layTerm_14 rfl rfl ?_
    refine x_getr (pc := 15) (b := b + 1) fX4_10 dX4_layTerm_15 hd.1 rfl rfl ?_
    refine x_iload_n (pc := 18) dX4_layTerm_18 rfl rfl ?_
    refine x_iload_n (pc := 19) dX4_layTerm_19 rfl rfl ?_
    refine x_aload_n (pc := 20) dX4_layTerm_20 rfl rfl ?_
    refine x_getr (pc := 21) (b := b + 16) fX4_26 dX4_layTerm_21 hd.1 rfl rfl ?_
    refine x_callV (pc := 24) [_, _, _] rfl kX4_209 dX4_layTerm_24 hd.2.1.1 rfl rfl (by decide) (Nat.le_of_ble_eq_true rfl) (Nat.le_of_ble_eq_true rfl) (by decide) ?_
    obtain ⟨o1, o2⟩ := why0 (by omega)
    refine sp_X0_endTurn gB hd.2.1 hT hW (by omega) hd.2.2.2.2.1 (by omega) (by omega) hx hp o2 (hO o1) (fun M2 hF2 hT2 => ?_)
    refine ⟨_, rfl, ?_⟩
    refine x_aload_n (pc := 27) dX4_layTerm_27 rfl rfl ?_
    refine x_iload_n (pc := 28) dX4_layTerm_28 rfl rfl ?_
    refine x_callV (pc := 29) [_] rfl kX4_292 dX4_layTerm_29 hd.1 rfl rfl (by decide) (Nat.le_of_ble_eq_true rfl) (Nat.le_of_ble_eq_true rfl) (by decide) ?_
    first
    | (refine sp_X4_settle (A := A) (u := u) hd hb0 ⟨fun i hi => by rw [hF2 _ _ (by omega) (by omega)]; exact hA.1 i hi, by rw [hF2 _ _ (by omega) (by omega)]; exact hA.2⟩ hu hr (fun M3 hF3 hA3 => ?_)
       skip)
    | refine sp_X4_settle (A := A) (u := u) hd hb0 hA hu hr (fun M3 hF3 hA3 => ?_)
    refine ⟨_, rfl, ?_⟩
    refine x_iret (pc := 32) dX4_layTerm_32 rfl (by decide) (by decide) ?_
    first
    | (rw [if_pos (by omega)] at k
       refine k _ (fun a j q1 q2 q3 => ?_) (hT2.gen (fun a j q1 q2 => hF3 _ _ (by omega) (by omega))) hA3
       rw [hF3 _ _ (by omega) q3]
       exact hF2 _ _ (by omega) (by omega))
    | (rw [if_neg (by omega)] at k
       refine k _ (fun a j q1 q2 q3 => ?_) (hT.gen (fun a j q1 q2 => hF3 _ _ (by omega) (by omega))) hA3
       rw [hF3 _ _ (by omega) q3])
