/-! Spec of RootDuel.root. -/
def rtF (n : Int) : UInt64 := FP.ddiv (FP.i2d (Int32.ofInt (2 * n + 1))) 4638707616191610880
def rtOK (n : Int) : Bool := decide (rtF n &&& 0x7fffffffffffffff ≤ 0x7ff0000000000000)
theorem rt_all : (List.range 3970).all (fun k => rtOK ((k : Int) - 1985)) = true := by decide +kernel
theorem rt_num {n : Int} (h : -1985 ≤ n ∧ n < 1985) : vf_n64 (rtF n) := by
  have h1 := List.all_eq_true.mp rt_all (n + 1985).toNat (List.mem_range.mpr (by omega))
  rw [show (((n + 1985).toNat : Nat) : Int) - 1985 = n by omega] at h1
  have h2 : decide (rtF n &&& 0x7fffffffffffffff ≤ 0x7ff0000000000000) = true := h1
  have h3 : rtF n &&& 0x7fffffffffffffff ≤ 0x7ff0000000000000 := of_decide_eq_true h2
  exact h3
theorem belF_rng (f : Int → Int) (i : Int) : ∀ (n : Nat) (lo hi : Int), lo < hi → lo ≤ belF f i n lo hi ∧ belF f i n lo hi < hi
  | 0, lo, hi, h => by simp only [belF]; omega
  | n + 1, lo, hi, h => by
    have e : (hi - lo).tdiv 2 = (hi - lo) / 2 := Int.tdiv_eq_ediv_of_nonneg (by omega)
    simp only [belF]
    split
    · omega
    · split
      · have := belF_rng f i n (lo + (hi - lo).tdiv 2) hi (by omega)
        omega
      · have := belF_rng f i n lo (lo + (hi - lo).tdiv 2) (by omega)
        omega
theorem x_ldc2d {g : GG} {r : MR} {cn ck : Nat} {lay : Lay} {M : Mem} {pc : Nat} {L : List (Nat × AV)} {st : List AV} {K : KK} {idx : Nat} {v : UInt64} (cw : Cond.constantDouble r.1.cls idx v ∈ wsL_law) (hd : decode r.2.1 pc = .ok (.ldc2_w idx, 3)) (k : X g r cn ck lay M (pc + 3) L (vD v :: st) K) : X g r cn ck lay M pc L st K := by
  intro p l e s m args below meth c H locs ls C G R S hl
  obtain ⟨hx, hb, hml, hre, hlo, hown, hts, htb, hst0, hnm0⟩ := id C
  exact lv_ldc2d hx hb hown (hts _ cw) hd (k p l e s m args below meth c H locs ls C G R S hl)
theorem klX4_236 : Cond.constantDouble "RootDuel" 236 4638707616191610880 ∈ wsL_law := by decide +kernel
def rRoot (T : CT) (i : Int) : Res := if ¬ (0 ≤ i ∧ i < allD (buildF (tP T))) then eIO else .inl (some (vD (rtF (belowF (buildF (tP T)) i 6))))

set_option maxRecDepth 100000 in
theorem sp_X4_root {g : GG} {lay : Lay} {M : Mem} {K : KK} {b : Nat} {sv : Nat → Option Nat} {T : CT} {i : Int} (gB : GoodB) (hd : DuL lay b sv) (hb0 : g.2.1 ≤ b) (hT : Ct T M (b + 1)) (hW : WfT T) (hi : i32 i) (k : ∀ M2 n, lay.2 ≤ n → Scr b M M2 → K (rRoot T i) (lay.1, n) M2) : X g m_X4_root 0 0 lay M 0 [(0, vR b), (1, vI i)] [] K := by
  obtain ⟨hi1, hi2⟩ := hi
  have had := allD_rng (buildF_le (tP T))
  unfold rRoot at k
  refine x_aload_n (pc := 0) dX4_root_0 rfl rfl ?_
  refine x_aload_n (pc := 1) dX4_root_1 rfl rfl ?_
  refine x_getr (pc := 2) (b := b + 1) fX4_10 dX4_root_2 hd.1 rfl rfl ?_
  refine x_getr (pc := 5) (b := b + 1 + 2) fX4_147 dX4_root_5 hd.2.1.1 rfl rfl ?_
  refine x_callV (pc := 8) [_] rfl kX4_162 dX4_root_8 hd.1 rfl rfl (by decide) (Nat.le_of_ble_eq_true rfl) (Nat.le_of_ble_eq_true rfl) (by decide) ?_
  refine sp_X4_buildRows gB hd hb0 hd.2.1.2.2.1 (by omega) hW.2.1 (fun i hi => hT.2.1 i hi) (fun M2 hF2 hR2 => ?_)
  have gW := (gB (tP T) hW.2.1).2
  have hT2 : Ct T M2 (b + 1) := hT.frm hF2 (by omega)
  have hS2 : Scr b M M2 := Scr.rf.fr hF2 (by omega)
  refine ⟨_, rfl, ?_⟩
  refine x_iload_n (pc := 11) dX4_root_11 rfl rfl ?_
  refine x_if_lt (pc := 12) (t := 26) dX4_root_12 (by decide) ⟨by omega, by omega⟩ (fun c12 => ?_) (fun c12 => ?_)
  · refine x_throw0 (pc := 26) ct140 dX4_root_26 dX4_root_29 dX4_root_30 dX4_root_33 rfl (by decide) (Nat.le_of_ble_eq_true rfl) (Nat.le_of_ble_eq_true rfl) ?_
    first
    | (intro n hn
       refine kE2 (k _ n hn hS3) ?_
       repeat (first | rfl | rw [if_pos (by omega)] | rw [if_neg (by omega)]))
    | (intro n hn
       refine kE2 (k _ n hn hS2) ?_
       repeat (first | rfl | rw [if_pos (by omega)] | rw [if_neg (by omega)]))
  · refine x_iload_n (pc := 15) dX4_root_15 rfl rfl ?_
    refine x_aload_n (pc := 16) dX4_root_16 rfl rfl ?_
    refine x_getr (pc := 17) (b := b + 16) fX4_26 dX4_root_17 hd.1 rfl rfl ?_
    refine x_callV (pc := 20) [] rfl kX4_213 dX4_root_20 hd.2.2.2.2.1.1 rfl rfl (by decide) (Nat.le_of_ble_eq_true rfl) (Nat.le_of_ble_eq_true rfl) (by decide) ?_
    refine sp_X3_allDistinct hd.2.2.2.2.1 hR2 gW (by omega) (fun M3 hF3 => ?_)
    have hS3 := hS2.fr hF3 (by omega)
    have hR3 := hR2.w gW.1 hF3 (by omega)
    refine ⟨_, rfl, ?_⟩
    refine x_icmp_lt (pc := 23) (t := 34) dX4_root_23 (by decide) ⟨by omega, by omega⟩ ⟨by omega, by omega⟩ (fun c23 => ?_) (fun c23 => ?_)
    · refine x_aload_n (pc := 34) dX4_root_34 rfl rfl ?_
      refine x_getr (pc := 35) (b := b + 16) fX4_26 dX4_root_35 hd.1 rfl rfl ?_
      refine x_iload_n (pc := 38) dX4_root_38 rfl rfl ?_
      refine x_bipush (pc := 39) dX4_root_39 (by decide) ?_
      refine x_callV (pc := 41) [_, _] rfl kX4_233 dX4_root_41 hd.2.2.2.2.1.1 rfl rfl (by decide) (Nat.le_of_ble_eq_true rfl) (Nat.le_of_ble_eq_true rfl) (by decide) ?_
      refine sp_X3_below (p := 6) hd.2.2.2.2.1 hR3 gW (by omega) ⟨by omega, by omega⟩ (by decide) (fun M4 hF4 => ?_)
      rw [show belF (fun n => cUp (buildF (tP T)) (-(31 * 2 ^ 6)) 6 - cUp (buildF (tP T)) n 6) i 32 (-(31 * 2 ^ 6)) (31 * 2 ^ 6) = belowF (buildF (tP T)) i 6 from rfl]
      have hbr : -1984 ≤ belowF (buildF (tP T)) i 6 ∧ belowF (buildF (tP T)) i 6 < 1984 := belF_rng _ _ _ _ _ (by decide)
      generalize belowF (buildF (tP T)) i 6 = bl at *
      refine ⟨_, rfl, ?_⟩
      refine x_istore_n (pc := 44) dX4_root_44 rfl (by decide) (L' := [(2, _), (0, _), (1, _)]) rfl ?_
      refine x_iconst (pc := 45) dX4_root_45 ?_
      refine x_iload_n (pc := 46) dX4_root_46 rfl rfl ?_
      refine x_imul (pc := 47) dX4_root_47 ?_
      refine x_iconst (pc := 48) dX4_root_48 ?_
      refine x_iadd (pc := 49) dX4_root_49 ?_
      refine x_i2d (pc := 50) dX4_root_50 ?_
      refine x_ldc2d (pc := 51) klX4_236 dX4_root_51 ?_
      refine x_ddiv (pc := 54) (rt_num (n := bl) (by omega)) dX4_root_54 ?_
      refine x_dret (pc := 55) dX4_root_55 rfl (by decide) (by decide) ?_
      refine kE2 (k _ _ (Nat.le_refl _) (hS3.fr hF4 (by omega))) ?_
      rw [if_neg (by omega)]
      rfl
    · refine x_throw0 (pc := 26) ct140 dX4_root_26 dX4_root_29 dX4_root_30 dX4_root_33 rfl (by decide) (Nat.le_of_ble_eq_true rfl) (Nat.le_of_ble_eq_true rfl) ?_
      first
      | (intro n hn
         refine kE2 (k _ n hn hS3) ?_
         repeat (first | rfl | rw [if_pos (by omega)] | rw [if_neg (by omega)]))
      | (intro n hn
         refine kE2 (k _ n hn hS2) ?_
         repeat (first | rfl | rw [if_pos (by omega)] | rw [if_neg (by omega)]))
