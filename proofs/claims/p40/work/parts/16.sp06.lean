/-! Specs of counts by the sign rows. -/
theorem Rw.w {s : RS} {M M2 : Mem} {c lo hi : Nat} (h : Rw s M c) (hn : s.1 ≤ 5) (hF : Frm lo hi M M2) (hd : c + 8 ≤ lo ∨ hi ≤ c) : Rw s M2 c := by
  refine ⟨by rw [hF _ _ (by omega)]; exact h.1, fun k hk => ⟨by rw [hF _ _ (by omega)]; exact (h.2 k hk).1, fun i hi => by rw [hF _ _ (by omega)]; exact (h.2 k hk).2 i hi⟩⟩
def upG (s : RS) (x : Int) (p : Nat) : Nat → Int := fun q => sgnUp (s.2.1 q) (s.2.2 q) x p
/-- changes just above a point -/
def cUp (s : RS) (x : Int) (p : Nat) : Int := (chU (upG s x p) s.1).1
def dBet (s : RS) (a b : Int) : Int := if s.1 = 0 then -1 else cUp s a 0 - cUp s b 0
def allD (s : RS) : Int := if s.1 = 0 then -1 else cUp s (-31) 0 - cUp s 31 0
theorem upG_rng (s : RS) (x : Int) (p q : Nat) : -1 ≤ upG s x p q ∧ upG s x p q ≤ 1 := upS_rng _ _ _ _ _
theorem cUp_rng (s : RS) (x : Int) (p : Nat) : 0 ≤ cUp s x p ∧ cUp s x p ≤ s.1 := by
  have := chU_rng (upG s x p) (fun q => upG_rng s x p q) s.1
  unfold cUp
  omega
/-- the search of the place below a root: from (low, high), so many steps at the most -/
def belF (f : Int → Int) (i : Int) : Nat → Int → Int → Int
  | 0, lo, _ => lo
  | n + 1, lo, hi => if hi - lo ≤ 1 then lo else if f (lo + (hi - lo).tdiv 2) ≤ i then belF f i n (lo + (hi - lo).tdiv 2) hi else belF f i n lo (lo + (hi - lo).tdiv 2)

set_option maxRecDepth 100000 in
theorem sp_X3_changesAbove {g : GG} {lay : Lay} {M : Mem} {K : KK} {c : Nat} {s : RS} {x : Int} {p : Nat} (hs : SrL lay c) (hR : Rw s M c) (hW : WfR s) (hb0 : g.2.1 ≤ c) (hx : -1984 ≤ x ∧ x ≤ 1984) (hp : p ≤ 6) (k : ∀ M2, Frm (c + 8) (c + 9) M M2 → K (.inl (some (vI (cUp s x p)))) lay M2) : X g m_X3_changesAbove 0 0 lay M 0 [(0, vR c), (1, vI x), (2, vI p)] [] K := by
  have h5 := hW.1
  have hcr := chU_rng (upG s x p) (fun q => upG_rng s x p q)
  have loop : ∀ (d j : Nat) (y acc la : Int) (M1 : Mem), j + d = s.1 → y = j → acc = (chU (upG s x p) j).1 → la = (chU (upG s x p) j).2 → Frm (c + 8) (c + 9) M M1 → X g m_X3_changesAbove 0 0 lay M1 8 [(5, vI y), (4, vI la), (3, vI acc), (0, vR c), (1, vI x), (2, vI p)] [] K := by
    intro d
    induction d with
    | zero =>
      intro j y acc la M1 hj hy ha hla hF
      have hn := (hR.w h5 hF (by omega)).1
      refine x_iload (pc := 8) dX3_changesAbove_8 rfl ?_
      refine x_aload_n (pc := 10) dX3_changesAbove_10 rfl rfl ?_
      refine x_geti (pc := 11) fX3_24 dX3_changesAbove_11 hs.1 rfl (fun r11a r11b => ?_)
      refine x_icmp_ge (pc := 14) (t := 48) dX3_changesAbove_14 (by decide) ⟨by omega, by omega⟩ ⟨by omega, by omega⟩ (fun c14 => ?_) (fun c14 => ?_)
      · refine x_iload_n (pc := 48) dX3_changesAbove_48 rfl rfl ?_
        refine x_iret (pc := 49) dX3_changesAbove_49 rfl (by decide) (by decide) ?_
        rw [ha, show j = s.1 by omega]
        exact k _ hF
      · exfalso; omega
    | succ d ih =>
      intro j y acc la M1 hj hy ha hla hF
      subst hy
      have hR1 := hR.w h5 hF (by omega)
      have hn := hR1.1
      have h1 := hcr j
      have h2 := upG_rng s x p j
      refine x_iload (pc := 8) dX3_changesAbove_8 rfl ?_
      refine x_aload_n (pc := 10) dX3_changesAbove_10 rfl rfl ?_
      refine x_geti (pc := 11) fX3_24 dX3_changesAbove_11 hs.1 rfl (fun r11a r11b => ?_)
      refine x_icmp_ge (pc := 14) (t := 48) dX3_changesAbove_14 (by decide) ⟨by omega, by omega⟩ ⟨by omega, by omega⟩ (fun c14 => ?_) (fun c14 => ?_)
      · exfalso; omega
      · refine x_aload_n (pc := 17) dX3_changesAbove_17 rfl rfl ?_
        refine x_iload (pc := 18) dX3_changesAbove_18 rfl ?_
        refine x_iload_n (pc := 20) dX3_changesAbove_20 rfl rfl ?_
        refine x_iload_n (pc := 21) dX3_changesAbove_21 rfl rfl ?_
        refine x_callV (pc := 22) [_, _, _] rfl kX3_76 dX3_changesAbove_22 hs.1 rfl rfl (by decide) (Nat.le_of_ble_eq_true rfl) (Nat.le_of_ble_eq_true rfl) (by decide) ?_
        refine sp_X3_signAbove hs hR1 hW hb0 (by omega) hx hp (fun M2 hF2 => ?_)
        refine ⟨_, rfl, ?_⟩
        rw [show sgnUp (s.2.1 j) (s.2.2 j) x p = upG s x p j from rfl]
        refine x_istore (pc := 25) dX3_changesAbove_25 trivial (by decide) (L' := [(6, _), (5, _), (4, _), (3, _), (0, _), (1, _), (2, _)]) rfl ?_
        refine x_iload (pc := 27) dX3_changesAbove_27 rfl ?_
        refine x_iload (pc := 29) dX3_changesAbove_29 rfl ?_
        refine x_ineg (pc := 31) dX3_changesAbove_31 ?_
        refine x_icmp_ne (pc := 32) (t := 38) dX3_changesAbove_32 (by decide) ⟨by omega, by omega⟩ ⟨by omega, by omega⟩ (fun c32 => ?_) (fun c32 => ?_)
        · refine x_iload (pc := 38) dX3_changesAbove_38 rfl ?_
          refine x_istore (pc := 40) dX3_changesAbove_40 trivial (by decide) (L' := [(4, _), (6, _), (5, _), (3, _), (0, _), (1, _), (2, _)]) rfl ?_
          refine x_iinc (pc := 42) dX3_changesAbove_42 rfl (by decide) (L' := [(5, _), (4, _), (6, _), (3, _), (0, _), (1, _), (2, _)]) rfl ?_
          refine x_goto (pc := 45) (t := 8) dX3_changesAbove_45 (by decide) ?_
          refine X.loc [0, 1, 3, 4, 5, 6] (L' := [(5, _), (4, _), (3, _), (0, _), (1, _), (2, _)]) rfl ?_
          refine ih (j + 1) _ _ _ _ (by omega) (by omega) ?_ ?_ (hF.trans hF2)
          · simp only [chU]
            grind
          · simp only [chU]
        · refine x_iinc (pc := 35) dX3_changesAbove_35 rfl (by decide) (L' := [(3, _), (6, _), (5, _), (4, _), (0, _), (1, _), (2, _)]) rfl ?_
          refine x_iload (pc := 38) dX3_changesAbove_38 rfl ?_
          refine x_istore (pc := 40) dX3_changesAbove_40 trivial (by decide) (L' := [(4, _), (3, _), (6, _), (5, _), (0, _), (1, _), (2, _)]) rfl ?_
          refine x_iinc (pc := 42) dX3_changesAbove_42 rfl (by decide) (L' := [(5, _), (4, _), (3, _), (6, _), (0, _), (1, _), (2, _)]) rfl ?_
          refine x_goto (pc := 45) (t := 8) dX3_changesAbove_45 (by decide) ?_
          refine X.loc [0, 1, 2, 4, 5, 6] (L' := [(5, _), (4, _), (3, _), (0, _), (1, _), (2, _)]) rfl ?_
          refine ih (j + 1) _ _ _ _ (by omega) (by omega) ?_ ?_ (hF.trans hF2)
          · simp only [chU]
            grind
          · simp only [chU]
  refine x_iconst (pc := 0) dX3_changesAbove_0 ?_
  refine x_istore_n (pc := 1) dX3_changesAbove_1 rfl (by decide) (L' := [(3, _), (0, _), (1, _), (2, _)]) rfl ?_
  refine x_iconst (pc := 2) dX3_changesAbove_2 ?_
  refine x_istore (pc := 3) dX3_changesAbove_3 trivial (by decide) (L' := [(4, _), (3, _), (0, _), (1, _), (2, _)]) rfl ?_
  refine x_iconst (pc := 5) dX3_changesAbove_5 ?_
  refine x_istore (pc := 6) dX3_changesAbove_6 trivial (by decide) (L' := [(5, _), (4, _), (3, _), (0, _), (1, _), (2, _)]) rfl ?_
  refine X.loc [0, 1, 2, 3, 4, 5] (L' := [(5, _), (4, _), (3, _), (0, _), (1, _), (2, _)]) rfl ?_
  exact loop s.1 0 _ _ _ _ (by omega) rfl rfl rfl Frm.rf
set_option maxRecDepth 100000 in
theorem sp_X3_distinctBetween {g : GG} {lay : Lay} {M : Mem} {K : KK} {c : Nat} {s : RS} {a b : Int} (hs : SrL lay c) (hR : Rw s M c) (hW : WfR s) (hb0 : g.2.1 ≤ c) (ha : -1984 ≤ a ∧ a ≤ 1984) (hb : -1984 ≤ b ∧ b ≤ 1984) (k : ∀ M2, Frm (c + 8) (c + 9) M M2 → K (.inl (some (vI (dBet s a b)))) lay M2) : X g m_X3_distinctBetween 0 0 lay M 0 [(0, vR c), (1, vI a), (2, vI b)] [] K := by
  have h5 := hW.1
  have hn := hR.1
  unfold dBet at k
  refine x_aload_n (pc := 0) dX3_distinctBetween_0 rfl rfl ?_
  refine x_geti (pc := 1) fX3_24 dX3_distinctBetween_1 hs.1 rfl (fun r1a r1b => ?_)
  refine x_if_ne (pc := 4) (t := 11) dX3_distinctBetween_4 (by decide) ⟨by omega, by omega⟩ (fun c4 => ?_) (fun c4 => ?_)
  · refine x_aload_n (pc := 11) dX3_distinctBetween_11 rfl rfl ?_
    refine x_iload_n (pc := 12) dX3_distinctBetween_12 rfl rfl ?_
    refine x_iconst (pc := 13) dX3_distinctBetween_13 ?_
    refine x_callV (pc := 14) [_, _] rfl kX3_80 dX3_distinctBetween_14 hs.1 rfl rfl (by decide) (Nat.le_of_ble_eq_true rfl) (Nat.le_of_ble_eq_true rfl) (by decide) ?_
    refine sp_X3_changesAbove (p := 0) hs hR hW hb0 ha (by decide) (fun M1 hF1 => ?_)
    refine ⟨_, rfl, ?_⟩
    refine x_aload_n (pc := 17) dX3_distinctBetween_17 rfl rfl ?_
    refine x_iload_n (pc := 18) dX3_distinctBetween_18 rfl rfl ?_
    refine x_iconst (pc := 19) dX3_distinctBetween_19 ?_
    refine x_callV (pc := 20) [_, _] rfl kX3_80 dX3_distinctBetween_20 hs.1 rfl rfl (by decide) (Nat.le_of_ble_eq_true rfl) (Nat.le_of_ble_eq_true rfl) (by decide) ?_
    refine sp_X3_changesAbove (p := 0) hs (hR.w h5 hF1 (by omega)) hW hb0 hb (by decide) (fun M2 hF2 => ?_)
    refine ⟨_, rfl, ?_⟩
    refine x_isub (pc := 23) dX3_distinctBetween_23 ?_
    refine x_iret (pc := 24) dX3_distinctBetween_24 rfl (by decide) (by decide) ?_
    first
    | (have k9 := k _ (hF1.trans hF2)
       rw [if_neg (by omega)] at k9
       exact k9)
    | (have k9 := k _ Frm.rf
       rw [if_pos (by omega)] at k9
       exact k9)
  · refine x_iconst (pc := 7) dX3_distinctBetween_7 ?_
    refine x_goto (pc := 8) (t := 24) dX3_distinctBetween_8 (by decide) ?_
    refine x_iret (pc := 24) dX3_distinctBetween_24 rfl (by decide) (by decide) ?_
    first
    | (have k9 := k _ (hF1.trans hF2)
       rw [if_neg (by omega)] at k9
       exact k9)
    | (have k9 := k _ Frm.rf
       rw [if_pos (by omega)] at k9
       exact k9)
set_option maxRecDepth 100000 in
theorem sp_X3_allDistinct {g : GG} {lay : Lay} {M : Mem} {K : KK} {c : Nat} {s : RS} (hs : SrL lay c) (hR : Rw s M c) (hW : WfR s) (hb0 : g.2.1 ≤ c) (k : ∀ M2, Frm (c + 8) (c + 9) M M2 → K (.inl (some (vI (allD s)))) lay M2) : X g m_X3_allDistinct 0 0 lay M 0 [(0, vR c)] [] K := by
  have h5 := hW.1
  have hn := hR.1
  unfold allD at k
  refine x_aload_n (pc := 0) dX3_allDistinct_0 rfl rfl ?_
  refine x_geti (pc := 1) fX3_24 dX3_allDistinct_1 hs.1 rfl (fun r1a r1b => ?_)
  refine x_if_ne (pc := 4) (t := 11) dX3_allDistinct_4 (by decide) ⟨by omega, by omega⟩ (fun c4 => ?_) (fun c4 => ?_)
  · refine x_aload_n (pc := 11) dX3_allDistinct_11 rfl rfl ?_
    refine x_bipush (pc := 12) dX3_allDistinct_12 (by decide) ?_
    refine x_iconst (pc := 14) dX3_allDistinct_14 ?_
    refine x_callV (pc := 15) [_, _] rfl kX3_80 dX3_allDistinct_15 hs.1 rfl rfl (by decide) (Nat.le_of_ble_eq_true rfl) (Nat.le_of_ble_eq_true rfl) (by decide) ?_
    refine sp_X3_changesAbove (p := 0) hs hR hW hb0 (by decide) (by decide) (fun M1 hF1 => ?_)
    refine ⟨_, rfl, ?_⟩
    refine x_aload_n (pc := 18) dX3_allDistinct_18 rfl rfl ?_
    refine x_bipush (pc := 19) dX3_allDistinct_19 (by decide) ?_
    refine x_iconst (pc := 21) dX3_allDistinct_21 ?_
    refine x_callV (pc := 22) [_, _] rfl kX3_80 dX3_allDistinct_22 hs.1 rfl rfl (by decide) (Nat.le_of_ble_eq_true rfl) (Nat.le_of_ble_eq_true rfl) (by decide) ?_
    refine sp_X3_changesAbove (p := 0) hs (hR.w h5 hF1 (by omega)) hW hb0 (by decide) (by decide) (fun M2 hF2 => ?_)
    refine ⟨_, rfl, ?_⟩
    refine x_isub (pc := 25) dX3_allDistinct_25 ?_
    refine x_iret (pc := 26) dX3_allDistinct_26 rfl (by decide) (by decide) ?_
    first
    | (have k9 := k _ (hF1.trans hF2)
       rw [if_neg (by omega)] at k9
       exact k9)
    | (have k9 := k _ Frm.rf
       rw [if_pos (by omega)] at k9
       exact k9)
  · refine x_iconst (pc := 7) dX3_allDistinct_7 ?_
    refine x_goto (pc := 8) (t := 26) dX3_allDistinct_8 (by decide) ?_
    refine x_iret (pc := 26) dX3_allDistinct_26 rfl (by decide) (by decide) ?_
    first
    | (have k9 := k _ (hF1.trans hF2)
       rw [if_neg (by omega)] at k9
       exact k9)
    | (have k9 := k _ Frm.rf
       rw [if_pos (by omega)] at k9
       exact k9)
set_option maxRecDepth 100000 in
theorem sp_X3_below {g : GG} {lay : Lay} {M : Mem} {K : KK} {c : Nat} {s : RS} {i : Int} {p : Nat} (hs : SrL lay c) (hR : Rw s M c) (hW : WfR s) (hb0 : g.2.1 ≤ c) (hi : i32 i) (hp : p ≤ 6) (k : ∀ M2, Frm (c + 8) (c + 9) M M2 → K (.inl (some (vI (belF (fun n => cUp s (-(31 * 2 ^ p)) p - cUp s n p) i 32 (-(31 * 2 ^ p)) (31 * 2 ^ p))))) lay M2) : X g m_X3_below 0 0 lay M 0 [(0, vR c), (1, vI i), (2, vI p)] [] K := by
  have h5 := hW.1
  obtain ⟨hi1, hi2⟩ := hi
  have h2p : 1 ≤ (2 : Int) ^ p ∧ (2 : Int) ^ p ≤ 64 := by
    have : p = 0 ∨ p = 1 ∨ p = 2 ∨ p = 3 ∨ p = 4 ∨ p = 5 ∨ p = 6 := by omega
    rcases this with rfl | rfl | rfl | rfl | rfl | rfl | rfl <;> decide
  have hc0 := cUp_rng s (-(31 * 2 ^ p)) p
  generalize hgr : belF (fun n => cUp s (-(31 * 2 ^ p)) p - cUp s n p) i 32 (-(31 * 2 ^ p)) (31 * 2 ^ p) = res at k
  have loop : ∀ (d : Nat) (y lo hi un bd : Int) (M1 : Mem), y + d = 32 → 0 ≤ y → -1984 ≤ lo → hi ≤ 1984 → lo < hi → un = cUp s (-(31 * 2 ^ p)) p → Frm (c + 8) (c + 9) M M1 → belF (fun n => cUp s (-(31 * 2 ^ p)) p - cUp s n p) i d lo hi = res → X g m_X3_below 0 0 lay M1 24 [(7, vI y), (6, vI hi), (5, vI lo), (4, vI un), (3, vI bd), (0, vR c), (1, vI i), (2, vI p)] [] K := by
    intro d
    induction d with
    | zero =>
      intro y lo hi un bd M1 hj hy hlo hhi hlh hun hF hres
      refine x_iload (pc := 24) dX3_below_24 rfl ?_
      refine x_bipush (pc := 26) dX3_below_26 (by decide) ?_
      refine x_icmp_ge (pc := 28) (t := 83) dX3_below_28 (by decide) ⟨by omega, by omega⟩ ⟨by omega, by omega⟩ (fun c28 => ?_) (fun c28 => ?_)
      · refine x_iload (pc := 83) dX3_below_83 rfl ?_
        refine x_iret (pc := 85) dX3_below_85 rfl (by decide) (by decide) ?_
        simp only [belF] at hres
        rw [hres]
        exact k _ hF
      · exfalso; omega
    | succ d ih =>
      intro y lo hi un bd M1 hj hy hlo hhi hlh hun hF hres
      have hR1 := hR.w h5 hF (by omega)
      have e2 : (hi - lo).tdiv 2 = (hi - lo) / 2 := Int.tdiv_eq_ediv_of_nonneg (by omega)
      have hc1 := cUp_rng s (lo + (hi - lo).tdiv 2) p
      simp only [belF] at hres
      refine x_iload (pc := 24) dX3_below_24 rfl ?_
      refine x_bipush (pc := 26) dX3_below_26 (by decide) ?_
      refine x_icmp_ge (pc := 28) (t := 83) dX3_below_28 (by decide) ⟨by omega, by omega⟩ ⟨by omega, by omega⟩ (fun c28 => ?_) (fun c28 => ?_)
      · exfalso; omega
      · refine x_iload (pc := 31) dX3_below_31 rfl ?_
        refine x_iload (pc := 33) dX3_below_33 rfl ?_
        refine x_isub (pc := 35) dX3_below_35 ?_
        refine x_iconst (pc := 36) dX3_below_36 ?_
        refine x_icmp_le (pc := 37) (t := 83) dX3_below_37 (by decide) ⟨by omega, by omega⟩ ⟨by omega, by omega⟩ (fun c37 => ?_) (fun c37 => ?_)
        · refine x_iload (pc := 83) dX3_below_83 rfl ?_
          refine x_iret (pc := 85) dX3_below_85 rfl (by decide) (by decide) ?_
          rw [if_pos (by omega)] at hres
          rw [hres]
          exact k _ hF
        · refine x_iload (pc := 40) dX3_below_40 rfl ?_
          refine x_iload (pc := 42) dX3_below_42 rfl ?_
          refine x_iload (pc := 44) dX3_below_44 rfl ?_
          refine x_isub (pc := 46) dX3_below_46 ?_
          refine x_iconst (pc := 47) dX3_below_47 ?_
          refine x_idiv (pc := 48) dX3_below_48 ⟨by omega, by omega⟩ ⟨by omega, by omega⟩ (by omega) ?_
          refine x_iadd (pc := 49) dX3_below_49 ?_
          refine x_istore (pc := 50) dX3_below_50 trivial (by decide) (L' := [(8, _), (7, _), (6, _), (5, _), (4, _), (3, _), (0, _), (1, _), (2, _)]) rfl ?_
          refine x_iload (pc := 52) dX3_below_52 rfl ?_
          refine x_aload_n (pc := 54) dX3_below_54 rfl rfl ?_
          refine x_iload (pc := 55) dX3_below_55 rfl ?_
          refine x_iload_n (pc := 57) dX3_below_57 rfl rfl ?_
          refine x_callV (pc := 58) [_, _] rfl kX3_80 dX3_below_58 hs.1 rfl rfl (by decide) (Nat.le_of_ble_eq_true rfl) (Nat.le_of_ble_eq_true rfl) (by decide) ?_
          refine sp_X3_changesAbove hs hR1 hW hb0 ⟨by omega, by omega⟩ hp (fun M2 hF2 => ?_)
          refine ⟨_, rfl, ?_⟩
          refine x_isub (pc := 61) dX3_below_61 ?_
          refine x_iload_n (pc := 62) dX3_below_62 rfl rfl ?_
          refine x_icmp_gt (pc := 63) (t := 73) dX3_below_63 (by decide) ⟨by omega, by omega⟩ ⟨by omega, by omega⟩ (fun c63 => ?_) (fun c63 => ?_)
          · refine x_iload (pc := 73) dX3_below_73 rfl ?_
            refine x_istore (pc := 75) dX3_below_75 trivial (by decide) (L' := [(6, _), (8, _), (7, _), (5, _), (4, _), (3, _), (0, _), (1, _), (2, _)]) rfl ?_
            refine x_iinc (pc := 77) dX3_below_77 rfl (by decide) (L' := [(7, _), (6, _), (8, _), (5, _), (4, _), (3, _), (0, _), (1, _), (2, _)]) rfl ?_
            refine x_goto (pc := 80) (t := 24) dX3_below_80 (by decide) ?_
            refine X.loc [0, 1, 3, 4, 5, 6, 7, 8] (L' := [(7, _), (6, _), (5, _), (4, _), (3, _), (0, _), (1, _), (2, _)]) rfl ?_
            rw [if_neg (by omega)] at hres
            first
            | (rw [if_pos (by omega)] at hres
               exact ih _ _ _ _ _ _ (by omega) (by omega) (by omega) (by omega) (by omega) hun (hF.trans hF2) hres)
            | (rw [if_neg (by omega)] at hres
               exact ih _ _ _ _ _ _ (by omega) (by omega) (by omega) (by omega) (by omega) hun (hF.trans hF2) hres)
          · refine x_iload (pc := 66) dX3_below_66 rfl ?_
            refine x_istore (pc := 68) dX3_below_68 trivial (by decide) (L' := [(5, _), (8, _), (7, _), (6, _), (4, _), (3, _), (0, _), (1, _), (2, _)]) rfl ?_
            refine x_goto (pc := 70) (t := 77) dX3_below_70 (by decide) ?_
            refine x_iinc (pc := 77) dX3_below_77 rfl (by decide) (L' := [(7, _), (5, _), (8, _), (6, _), (4, _), (3, _), (0, _), (1, _), (2, _)]) rfl ?_
            refine x_goto (pc := 80) (t := 24) dX3_below_80 (by decide) ?_
            refine X.loc [0, 3, 1, 4, 5, 6, 7, 8] (L' := [(7, _), (6, _), (5, _), (4, _), (3, _), (0, _), (1, _), (2, _)]) rfl ?_
            rw [if_neg (by omega)] at hres
            first
            | (rw [if_pos (by omega)] at hres
               exact ih _ _ _ _ _ _ (by omega) (by omega) (by omega) (by omega) (by omega) hun (hF.trans hF2) hres)
            | (rw [if_neg (by omega)] at hres
               exact ih _ _ _ _ _ _ (by omega) (by omega) (by omega) (by omega) (by omega) hun (hF.trans hF2) hres)
  refine x_bipush (pc := 0) dX3_below_0 (by decide) ?_
  refine x_iload_n (pc := 2) dX3_below_2 rfl rfl ?_
  refine x_ishl (pc := 3) p (by omega) rfl dX3_below_3 ?_
  refine x_istore_n (pc := 4) dX3_below_4 rfl (by decide) (L' := [(3, _), (0, _), (1, _), (2, _)]) rfl ?_
  refine x_aload_n (pc := 5) dX3_below_5 rfl rfl ?_
  refine x_iload_n (pc := 6) dX3_below_6 rfl rfl ?_
  refine x_ineg (pc := 7) dX3_below_7 ?_
  refine x_iload_n (pc := 8) dX3_below_8 rfl rfl ?_
  refine x_callV (pc := 9) [_, _] rfl kX3_80 dX3_below_9 hs.1 rfl rfl (by decide) (Nat.le_of_ble_eq_true rfl) (Nat.le_of_ble_eq_true rfl) (by decide) ?_
  refine sp_X3_changesAbove hs hR hW hb0 ⟨by omega, by omega⟩ hp (fun M2 hF2 => ?_)
  refine ⟨_, rfl, ?_⟩
  refine x_istore (pc := 12) dX3_below_12 trivial (by decide) (L' := [(4, _), (3, _), (0, _), (1, _), (2, _)]) rfl ?_
  refine x_iload_n (pc := 14) dX3_below_14 rfl rfl ?_
  refine x_ineg (pc := 15) dX3_below_15 ?_
  refine x_istore (pc := 16) dX3_below_16 trivial (by decide) (L' := [(5, _), (4, _), (3, _), (0, _), (1, _), (2, _)]) rfl ?_
  refine x_iload_n (pc := 18) dX3_below_18 rfl rfl ?_
  refine x_istore (pc := 19) dX3_below_19 trivial (by decide) (L' := [(6, _), (5, _), (4, _), (3, _), (0, _), (1, _), (2, _)]) rfl ?_
  refine x_iconst (pc := 21) dX3_below_21 ?_
  refine x_istore (pc := 22) dX3_below_22 trivial (by decide) (L' := [(7, _), (6, _), (5, _), (4, _), (3, _), (0, _), (1, _), (2, _)]) rfl ?_
  refine X.loc [0, 1, 2, 3, 4, 5, 6, 7] (L' := [(7, _), (6, _), (5, _), (4, _), (3, _), (0, _), (1, _), (2, _)]) rfl ?_
  exact loop 32 _ _ _ _ _ _ rfl (by decide) (by omega) (by omega) (by omega) rfl hF2 hgr
