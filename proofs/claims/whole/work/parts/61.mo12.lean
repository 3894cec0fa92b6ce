/-! The reference: rows copied, kept; counts; claims made. -/
theorem mset_row {M : Mem} {a i : Nat} {v : Int} : (mset M a i v) a = fup (M a) i v := by
  funext j
  unfold mset fup
  by_cases e : j = i <;> simp [e]
theorem RowC.cong {T : CT} {r r' : Nat → Int} (h : RowC T r) (hn : tN T ≤ 60) (hk : ∀ p, tK T p ≤ 4) (e : ∀ j, j < 280 → j ≠ 8 → j ≠ 9 → r' j = r j) : RowC T r' := by
  obtain ⟨hS, hN, h10, hP, hp3, hL, hK, h99, hm⟩ := h
  refine ⟨fun j hj => ?_, ?_, ?_, fun p hp => ?_, fun p hp => ⟨?_, ?_, ?_⟩, fun pl i f h1 h2 h3 => ?_, fun pl h1 => ⟨?_, ?_⟩, ?_, fun j hj => ⟨?_, ?_, ?_⟩⟩
  · rw [e _ (by omega) (by omega) (by omega)]; exact hS j hj
  · rw [e _ (by omega) (by omega) (by omega)]; exact hN
  · rw [e _ (by omega) (by omega) (by omega)]; exact h10
  · rw [e _ (by omega) (by omega) (by omega)]; exact hP p hp
  · rw [e _ (by omega) (by omega) (by omega)]; exact (hp3 p hp).1
  · rw [e _ (by omega) (by omega) (by omega)]; exact (hp3 p hp).2.1
  · rw [e _ (by omega) (by omega) (by omega)]; exact (hp3 p hp).2.2
  · have := hk pl
    rw [e _ (by omega) (by omega) (by omega)]; exact hL pl i f h1 h2 h3
  · rw [e _ (by omega) (by omega) (by omega)]; exact (hK pl h1).1
  · rw [e _ (by omega) (by omega) (by omega)]; exact (hK pl h1).2
  · rw [e _ (by omega) (by omega) (by omega)]; exact h99
  · rw [e _ (by omega) (by omega) (by omega)]; exact (hm j hj).1
  · rw [e _ (by omega) (by omega) (by omega)]; exact (hm j hj).2.1
  · rw [e _ (by omega) (by omega) (by omega)]; exact (hm j hj).2.2
theorem RowT.cong {T : CT} {r r' : Nat → Int} (h : RowT T r) (hW : WfT T) (e : ∀ j, j < 280 → r' j = r j) : RowT T r' :=
  ⟨h.1.cong hW.n60 hW.2.2.2.2.1 (fun j h1 _ _ => e j h1), by rw [e 8 (by omega)]; exact h.2.1, by rw [e 9 (by omega)]; exact h.2.2⟩
theorem RowT.claim {T : CT} {r : Nat → Int} {a y c l s : Int} (hT : RowT T r) (hW : WfT T) (hk : tK T (tN T % 2) < 4) : RowT (tClaim T a y c l s) (fup (fup (fup (fup (fup (fup (fup r (47 + 24 * (tN T % 2) + 6 * tK T (tN T % 2)) a) (47 + 24 * (tN T % 2) + 6 * tK T (tN T % 2) + 1) y) (47 + 24 * (tN T % 2) + 6 * tK T (tN T % 2) + 2) c) (47 + 24 * (tN T % 2) + 6 * tK T (tN T % 2) + 3) l) (47 + 24 * (tN T % 2) + 6 * tK T (tN T % 2) + 4) s) (47 + 24 * (tN T % 2) + 6 * tK T (tN T % 2) + 5) (tN T)) (95 + tN T % 2) (tK T (tN T % 2) + 1)) := by
  have hn := hW.n60
  have hk4 := hW.2.2.2.2.1
  obtain ⟨⟨hS, hN, h10, hP, hp3, hL, hK, h99, hm⟩, hO, hB⟩ := hT
  have h2 : tN T % 2 < 2 := Nat.mod_lt _ (by decide)
  generalize hpl : tN T % 2 = pl at *
  have e : ∀ j, (j < 47 ∨ 96 < j) → fup (fup (fup (fup (fup (fup (fup r (47 + 24 * pl + 6 * tK T pl) a) (47 + 24 * pl + 6 * tK T pl + 1) y) (47 + 24 * pl + 6 * tK T pl + 2) c) (47 + 24 * pl + 6 * tK T pl + 3) l) (47 + 24 * pl + 6 * tK T pl + 4) s) (47 + 24 * pl + 6 * tK T pl + 5) (tN T)) (95 + pl) (tK T pl + 1) j = r j := by
    intro j hj
    rw [fup_ne (by omega), fup_ne (by omega), fup_ne (by omega), fup_ne (by omega), fup_ne (by omega), fup_ne (by omega), fup_ne (by omega)]
  refine ⟨⟨fun j hj => ?_, ?_, ?_, fun p hp => ?_, fun p hp => ⟨?_, ?_, ?_⟩, fun q i f h1 h2 h3 => ?_, fun q h1 => ⟨?_, ?_⟩, ?_, fun j hj => ⟨?_, ?_, ?_⟩⟩, ?_, ?_⟩
  · rw [e _ (by omega)]; exact hS j hj
  · rw [e _ (by omega)]; exact hN
  · rw [e _ (by omega)]; exact h10
  · rw [e _ (by omega)]; exact hP p hp
  · rw [e _ (by omega)]; exact (hp3 p hp).1
  · rw [e _ (by omega)]; exact (hp3 p hp).2.1
  · rw [e _ (by omega)]; exact (hp3 p hp).2.2
  · show _ = (if q = tN T % 2 ∧ i = tK T q then mkL a y c l s (tN T) else tL T q i) f
    have h2 : i < (if q = tN T % 2 then tK T q + 1 else tK T q) := h2
    rw [hpl] at h2 ⊢
    have k4 := hk4 q
    by_cases e1 : q = pl ∧ i = tK T q
    · obtain ⟨e2, e3⟩ := e1
      subst e2
      subst e3
      rw [if_pos ⟨rfl, rfl⟩]
      have ef : f = 0 ∨ f = 1 ∨ f = 2 ∨ f = 3 ∨ f = 4 ∨ f = 5 := by omega
      rw [fup_ne (by omega)]
      rcases ef with rfl | rfl | rfl | rfl | rfl | rfl
      · rw [fup_ne (by omega), fup_ne (by omega), fup_ne (by omega), fup_ne (by omega), fup_ne (by omega)]; exact fup_at
      · rw [fup_ne (by omega), fup_ne (by omega), fup_ne (by omega), fup_ne (by omega)]; exact fup_at
      · rw [fup_ne (by omega), fup_ne (by omega), fup_ne (by omega)]; exact fup_at
      · rw [fup_ne (by omega), fup_ne (by omega)]; exact fup_at
      · rw [fup_ne (by omega)]; exact fup_at
      · exact fup_at
    · rw [if_neg e1]
      have h4 : i < tK T q := by
        split at h2 <;> omega
      by_cases e2 : q = pl
      · subst e2
        have e3 : i ≠ tK T q := fun z => e1 ⟨rfl, z⟩
        rw [fup_ne (by omega), fup_ne (by omega), fup_ne (by omega), fup_ne (by omega), fup_ne (by omega), fup_ne (by omega), fup_ne (by omega)]
        exact hL q i f h1 h4 h3
      · rw [fup_ne (by omega), fup_ne (by omega), fup_ne (by omega), fup_ne (by omega), fup_ne (by omega), fup_ne (by omega), fup_ne (by omega)]
        exact hL q i f h1 h4 h3
  · show _ = (((if q = tN T % 2 then tK T q + 1 else tK T q) : Nat) : Int)
    rw [hpl]
    by_cases e1 : q = pl
    · subst e1
      rw [if_pos rfl, fup_at]
      omega
    · rw [if_neg e1, fup_ne (by omega)]
      have k4 := hk4 pl
      rw [fup_ne (by omega), fup_ne (by omega), fup_ne (by omega), fup_ne (by omega), fup_ne (by omega), fup_ne (by omega)]
      exact (hK q h1).1
  · rw [e _ (by omega)]; exact (hK q h1).2
  · rw [e _ (by omega)]; exact h99
  · rw [e _ (by omega)]; exact (hm j hj).1
  · rw [e _ (by omega)]; exact (hm j hj).2.1
  · rw [e _ (by omega)]; exact (hm j hj).2.2
  · rw [e _ (by omega)]; exact hO
  · rw [e _ (by omega)]; exact hB
/-- accounts, states that can be gone back to -/
def Acm (A : Nat → Int) (M : Mem) (d : Nat) : Prop := ∀ i, i < 9 → M (d + 6) i = A i
def Us (H : Nat → CT) (u : Nat) (M : Mem) (d : Nat) : Prop := (M d 4 = u ∧ u ≤ 12) ∧ ∀ i, i < u → WfT (H i) ∧ RowT (H i) (fun j => M (d + 3) (280 * i + j))
def pushU (u : Nat) : Nat := if u = 12 then 12 else u + 1
def pushH (H : Nat → CT) (u : Nat) (T : CT) : Nat → CT := fun i => if u = 12 then (if i = 11 then T else H (i + 1)) else if i = u then T else H i
/-- what an act may change -/
def FrA (d : Nat) (M M' : Mem) : Prop := ∀ a j, ¬ (a = d ∧ (j = 4 ∨ j = 9)) → ¬ a = d + 1 → ¬ a = d + 3 → ¬ a = d + 6 → ¬ a = d + 7 → ¬ a = d + 8 → M' a j = M a j
theorem FrA.rf {d : Nat} {M : Mem} : FrA d M M := fun _ _ _ _ _ _ _ _ => rfl
theorem FrA.tr {d : Nat} {M M' M'' : Mem} (h : FrA d M M') (h2 : FrA d M' M'') : FrA d M M'' := fun a j q1 q2 q3 q4 q5 q6 => (h2 a j q1 q2 q3 q4 q5 q6).trans (h a j q1 q2 q3 q4 q5 q6)
theorem FrA.l {d : Nat} {M M' M'' : Mem} (h : FrA d M M') (h2 : FrL d M' M'') : FrA d M M'' := fun a j q1 q2 q3 q4 q5 q6 => (h2 a j (fun q => q1 ⟨q.1, by omega⟩) q5 q6).trans (h a j q1 q2 q3 q4 q5 q6)
theorem FrA.ms {d a i : Nat} {v : Int} {M M' : Mem} (h : FrA d M M') (ha : a = d + 1 ∨ a = d + 3 ∨ a = d + 6 ∨ (a = d ∧ i = 4)) : FrA d M (mset M' a i v) := fun b j q1 q2 q3 q4 q5 q6 => by
  rw [mset_ne (by omega)]
  exact h b j q1 q2 q3 q4 q5 q6

set_option maxRecDepth 100000 in
theorem sp_X5_copies {g : GG} {lay : Lay} {M : Mem} {K : KK} {a1 a2 o1 o2 n1 n2 : Nat} {rf1 rf2 : Nat → Option Nat} (h1 : lay.1 a1 = some (1, n1, rf1)) (h2 : lay.1 a2 = some (1, n2, rf2)) (hb0 : g.2.1 ≤ a2) (hne : a1 ≠ a2) (ho1 : o1 + 280 ≤ n1) (ho2 : o2 + 280 ≤ n2) (hn : n1 < 100000 ∧ n2 < 100000) (k : ∀ M2, (∀ a j, ¬ (a = a2 ∧ o2 ≤ j ∧ j < o2 + 280) → M2 a j = M a j) → (∀ j, j < 280 → M2 a2 (o2 + j) = M a1 (o1 + j)) → K (.inl none) lay M2) : X g m_X5_copies 0 0 lay M 0 [(0, vR a1), (1, vI o1), (2, vR a2), (3, vI o2)] [] K := by
  have loop : ∀ (c j : Nat) (x : Int) (M1 : Mem), j + c = 280 → x = j → (∀ a j, ¬ (a = a2 ∧ o2 ≤ j ∧ j < o2 + 280) → M1 a j = M a j) → (∀ i, i < j → M1 a2 (o2 + i) = M a1 (o1 + i)) → X g m_X5_copies 0 0 lay M1 3 [(4, vI x), (0, vR a1), (1, vI o1), (2, vR a2), (3, vI o2)] [] K := by
    intro c
    induction c with
    | zero =>
      intro j x M1 hj hx hF hw
      refine x_iload (pc := 3) dX5_copies_3 rfl ?_
      refine x_sipush (pc := 5) dX5_copies_5 (by decide) ?_
      refine x_icmp_ge (pc := 8) (t := 29) dX5_copies_8 (by decide) ⟨by omega, by omega⟩ ⟨by omega, by omega⟩ (fun c8 => ?_) (fun c8 => ?_)
      · refine x_vret (pc := 29) dX5_copies_29 rfl (by decide) (by decide) ?_
        exact k M1 hF (fun i hi => hw i (by omega))
      · exfalso; omega
    | succ c ih =>
      intro j x M1 hj hx hF hw
      refine x_iload (pc := 3) dX5_copies_3 rfl ?_
      refine x_sipush (pc := 5) dX5_copies_5 (by decide) ?_
      refine x_icmp_ge (pc := 8) (t := 29) dX5_copies_8 (by decide) ⟨by omega, by omega⟩ ⟨by omega, by omega⟩ (fun c8 => ?_) (fun c8 => ?_)
      · exfalso; omega
      · refine x_aload_n (pc := 11) dX5_copies_11 rfl rfl ?_
        refine x_iload_n (pc := 12) dX5_copies_12 rfl rfl ?_
        refine x_iload (pc := 13) dX5_copies_13 rfl ?_
        refine x_iadd (pc := 15) dX5_copies_15 ?_
        refine x_aload_n (pc := 16) dX5_copies_16 rfl rfl ?_
        refine x_iload_n (pc := 17) dX5_copies_17 rfl rfl ?_
        refine x_iload (pc := 18) dX5_copies_18 rfl ?_
        refine x_iadd (pc := 20) dX5_copies_20 ?_
        refine x_iald (pc := 21) dX5_copies_21 h1 (by omega) (by omega) (fun r21a r21b => ?_)
        rw [show ((o1 : Int) + x).toNat = o1 + j by omega, hF _ _ (by omega)] at r21a r21b ⊢
        refine x_iast (pc := 22) dX5_copies_22 h2 (by omega) (by omega) (by omega) ⟨by omega, by omega⟩ ?_
        refine x_iinc (pc := 23) dX5_copies_23 rfl (by decide) (L' := [(4, _), (0, _), (1, _), (2, _), (3, _)]) rfl ?_
        refine x_goto (pc := 26) (t := 3) dX5_copies_26 (by decide) ?_
        refine X.loc [0, 1, 2, 3, 4] (L' := [(4, _), (0, _), (1, _), (2, _), (3, _)]) rfl ?_
        rw [show ((o2 : Int) + x).toNat = o2 + j by omega]
        refine ih (j + 1) _ _ (by omega) (by omega) (fun a i q => ?_) (fun i hi => ?_)
        · rw [mset_ne (fun e => q ⟨e.1, by omega⟩)]
          exact hF a i q
        · by_cases e : i = j
          · rw [e, mset_same]
          · rw [mset_nei (by omega)]
            exact hw i (by omega)
  refine x_iconst (pc := 0) dX5_copies_0 ?_
  refine x_istore (pc := 1) dX5_copies_1 trivial (by decide) (L' := [(4, _), (0, _), (1, _), (2, _), (3, _)]) rfl ?_
  refine X.loc [0, 1, 2, 3, 4] (L' := [(4, _), (0, _), (1, _), (2, _), (3, _)]) rfl ?_
  exact loop 280 0 _ M rfl rfl (fun a j q => rfl) (fun i hi => by omega)
set_option maxRecDepth 100000 in
theorem sp_X5_refuses {g : GG} {lay : Lay} {M : Mem} {K : KK} {d : Nat} {A : Nat → Int} {q : Int} (hd : MoL lay d) (hb0 : g.2.1 ≤ d) (hA : Acm A M d) (hq : 0 ≤ q ∧ q ≤ 8) (k : ∀ M2, (∀ a j, ¬ a = d + 6 → M2 a j = M a j) → Acm (accF A q) M2 d → K (.inl (some (vI q))) lay M2) : X g m_X5_refuses 0 0 lay M 0 [(0, vR d), (1, vI q)] [] K := by
  have a3 := hA q.toNat (by omega)
  refine x_aload_n (pc := 0) dX5_refuses_0 rfl rfl ?_
  refine x_getr (pc := 1) (b := d + 6) fX5_26 dX5_refuses_1 hd.1 rfl rfl ?_
  refine x_iload_n (pc := 4) dX5_refuses_4 rfl rfl ?_
  refine x_dup2 (pc := 5) dX5_refuses_5 rfl rfl ?_
  refine x_iald (pc := 6) dX5_refuses_6 hd.2.2.2.2.2.2.1 (by omega) (by omega) (fun r6a r6b => ?_)
  rw [a3] at r6a r6b ⊢
  refine x_iconst (pc := 7) dX5_refuses_7 ?_
  refine x_iadd (pc := 8) dX5_refuses_8 ?_
  refine x_w32 ?_
  have w1 := w32_i (A q.toNat + 1)
  obtain ⟨w2, w3⟩ := w1
  refine x_iast (pc := 9) dX5_refuses_9 hd.2.2.2.2.2.2.1 (by omega) (by omega) (by omega) ⟨by omega, by omega⟩ ?_
  refine x_iload_n (pc := 10) dX5_refuses_10 rfl rfl ?_
  refine x_iret (pc := 11) dX5_refuses_11 rfl (by decide) (by decide) ?_
  refine k _ (fun a j q1 => mset_nea q1) (fun i hi => ?_)
  unfold accF fup
  by_cases e : i = q.toNat
  · rw [if_pos e, e, mset_same]
  · rw [if_neg e, mset_nei e]
    exact hA i hi
set_option maxRecDepth 100000 in
theorem sp_X5_keeps {g : GG} {lay : Lay} {M : Mem} {K : KK} {d : Nat} {T : CT} {H : Nat → CT} {u : Nat} (hd : MoL lay d) (hb0 : g.2.1 ≤ d) (hT : RowT T (M (d + 1))) (hW : WfT T) (hU : Us H u M d) (k : ∀ M2, (∀ a j, ¬ (a = d ∧ j = 4) → ¬ a = d + 3 → M2 a j = M a j) → Us (pushH H u T) (pushU u) M2 d → K (.inl none) lay M2) : X g m_X5_keeps 0 0 lay M 0 [(0, vR d)] [] K := by
  obtain ⟨⟨hu4, hu12⟩, hH⟩ := hU
  have fin : ∀ (v : Nat) (G : Nat → CT) (M1 : Mem), v < 12 → (∀ a j, ¬ (a = d ∧ j = 4) → ¬ a = d + 3 → M1 a j = M a j) → M1 d 4 = v → (∀ i, i < v → WfT (G i) ∧ RowT (G i) (fun j => M1 (d + 3) (280 * i + j))) → pushU u = v + 1 → (∀ i, i < v → pushH H u T i = G i) → pushH H u T v = T → X g m_X5_keeps 0 0 lay M1 50 [(0, vR d)] [] K := by
    intro v G M1 hv hF h4 hG e1 e2 e3
    refine x_aload_n (pc := 50) dX5_keeps_50 rfl rfl ?_
    refine x_getr (pc := 51) (b := d + 1) fX5_7 dX5_keeps_51 hd.1 rfl rfl ?_
    refine x_iconst (pc := 54) dX5_keeps_54 ?_
    refine x_aload_n (pc := 55) dX5_keeps_55 rfl rfl ?_
    refine x_getr (pc := 56) (b := d + 3) fX5_16 dX5_keeps_56 hd.1 rfl rfl ?_
    refine x_sipush (pc := 59) dX5_keeps_59 (by decide) ?_
    refine x_aload_n (pc := 62) dX5_keeps_62 rfl rfl ?_
    refine x_geti (pc := 63) fX5_177 dX5_keeps_63 hd.1 rfl (fun r63a r63b => ?_)
    rw [h4] at r63a r63b ⊢
    refine x_imul (pc := 66) dX5_keeps_66 ?_
    rw [show 280 * (v : Int) = ((280 * v : Nat) : Int) by omega]
    refine x_callS (pc := 67) [_, _, _, _] rfl kX5_180 dX5_keeps_67 rfl (by decide) (Nat.le_of_ble_eq_true rfl) (Nat.le_of_ble_eq_true rfl) (by decide) ?_
    refine sp_X5_copies (o1 := 0) (o2 := 280 * v) hd.2.1 hd.2.2.2.1 (by omega) (by omega) (by omega) (by omega) (by omega) (fun M2 hF2 hw2 => ?_)
    have h42 : M2 d 4 = v := by rw [hF2 _ _ (by omega)]; exact h4
    refine ⟨_, rfl, ?_⟩
    refine x_aload_n (pc := 70) dX5_keeps_70 rfl rfl ?_
    refine x_dup (pc := 71) dX5_keeps_71 rfl ?_
    refine x_geti (pc := 72) fX5_177 dX5_keeps_72 hd.1 rfl (fun r72a r72b => ?_)
    refine x_iconst (pc := 75) dX5_keeps_75 ?_
    refine x_iadd (pc := 76) dX5_keeps_76 ?_
    refine x_puti (pc := 77) fnX5_177 dX5_keeps_77 hd.1 (by omega) rfl ⟨by omega, by omega⟩ ?_
    refine x_vret (pc := 80) dX5_keeps_80 rfl (by decide) (by decide) ?_
    refine k _ (fun a j q1 q2 => ?_) ⟨⟨?_, ?_⟩, fun i hi => ?_⟩
    · rw [mset_ne q1, hF2 _ _ (by omega)]
      exact hF a j q1 q2
    · rw [mset_same, e1, h42]
      omega
    · rw [e1]
      omega
    · rw [e1] at hi
      by_cases e : i = v
      · subst e
        rw [e3]
        refine ⟨hW, hT.cong hW (fun j hj => ?_)⟩
        show mset _ _ _ _ (d + 3) (280 * i + j) = _
        rw [mset_nea (by omega), hw2 j hj, Nat.zero_add]
        exact hF _ _ (by omega) (by omega)
      · rw [e2 i (by omega)]
        obtain ⟨g1, g2⟩ := hG i (by omega)
        refine ⟨g1, g2.cong g1 (fun j hj => ?_)⟩
        show mset _ _ _ _ (d + 3) (280 * i + j) = _
        rw [mset_nea (by omega), hF2 _ _ (by omega)]
  have shift : u = 12 → ∀ (c j : Nat) (x : Int) (M1 : Mem), j + c = 3080 → x = j → (∀ a j, ¬ a = d + 3 → M1 a j = M a j) → (∀ i, i < j → M1 (d + 3) i = M (d + 3) (i + 280)) → (∀ i, j ≤ i → M1 (d + 3) i = M (d + 3) i) → X g m_X5_keeps 0 0 lay M1 11 [(1, vI x), (0, vR d)] [] K := by
    intro hu c
    induction c with
    | zero =>
      intro j x M1 hj hx hF hw hw2
      refine x_iload_n (pc := 11) dX5_keeps_11 rfl rfl ?_
      refine x_sipush (pc := 12) dX5_keeps_12 (by decide) ?_
      refine x_icmp_ge (pc := 15) (t := 40) dX5_keeps_15 (by decide) ⟨by omega, by omega⟩ ⟨by omega, by omega⟩ (fun c15 => ?_) (fun c15 => ?_)
      · refine x_aload_n (pc := 40) dX5_keeps_40 rfl rfl ?_
        refine x_dup (pc := 41) dX5_keeps_41 rfl ?_
        refine x_geti (pc := 42) fX5_177 dX5_keeps_42 hd.1 rfl (fun r42a r42b => ?_)
        rw [hF _ _ (by omega), hu4] at r42a r42b ⊢
        refine x_iconst (pc := 45) dX5_keeps_45 ?_
        refine x_isub (pc := 46) dX5_keeps_46 ?_
        refine x_puti (pc := 47) fnX5_177 dX5_keeps_47 hd.1 (by omega) rfl ⟨by omega, by omega⟩ ?_
        refine X.loc [1] (L' := [(0, _)]) rfl ?_
        refine fin 11 (fun i => H (i + 1)) _ (by omega) (fun a i q1 q2 => ?_) ?_ (fun i hi => ?_) ?_ (fun i hi => ?_) ?_
        · rw [mset_ne q1]
          exact hF a i q2
        · rw [mset_same]
          omega
        · obtain ⟨g1, g2⟩ := hH (i + 1) (by omega)
          refine ⟨g1, g2.cong g1 (fun q hq => ?_)⟩
          show mset _ _ _ _ (d + 3) (280 * i + q) = M (d + 3) (280 * (i + 1) + q)
          rw [mset_nea (by omega), hw _ (by omega)]
          congr 1
          omega
        · unfold pushU
          rw [if_pos hu]
        · unfold pushH
          rw [if_pos hu, if_neg (by omega)]
        · unfold pushH
          rw [if_pos hu, if_pos rfl]
      · exfalso; omega
    | succ c ih =>
      intro j x M1 hj hx hF hw hw2
      have e1 := hw2 (j + 280) (by omega)
      refine x_iload_n (pc := 11) dX5_keeps_11 rfl rfl ?_
      refine x_sipush (pc := 12) dX5_keeps_12 (by decide) ?_
      refine x_icmp_ge (pc := 15) (t := 40) dX5_keeps_15 (by decide) ⟨by omega, by omega⟩ ⟨by omega, by omega⟩ (fun c15 => ?_) (fun c15 => ?_)
      · exfalso; omega
      · refine x_aload_n (pc := 18) dX5_keeps_18 rfl rfl ?_
        refine x_getr (pc := 19) (b := d + 3) fX5_16 dX5_keeps_19 hd.1 rfl rfl ?_
        refine x_iload_n (pc := 22) dX5_keeps_22 rfl rfl ?_
        refine x_aload_n (pc := 23) dX5_keeps_23 rfl rfl ?_
        refine x_getr (pc := 24) (b := d + 3) fX5_16 dX5_keeps_24 hd.1 rfl rfl ?_
        refine x_iload_n (pc := 27) dX5_keeps_27 rfl rfl ?_
        refine x_sipush (pc := 28) dX5_keeps_28 (by decide) ?_
        refine x_iadd (pc := 31) dX5_keeps_31 ?_
        refine x_iald (pc := 32) dX5_keeps_32 hd.2.2.2.1 (by omega) (by omega) (fun r32a r32b => ?_)
        rw [show (x + 280).toNat = j + 280 by omega, e1] at r32a r32b ⊢
        refine x_iast (pc := 33) dX5_keeps_33 hd.2.2.2.1 (by omega) (by omega) (by omega) ⟨by omega, by omega⟩ ?_
        refine x_iinc (pc := 34) dX5_keeps_34 rfl (by decide) (L' := [(1, _), (0, _)]) rfl ?_
        refine x_goto (pc := 37) (t := 11) dX5_keeps_37 (by decide) ?_
        refine X.loc [0, 1] (L' := [(1, _), (0, _)]) rfl ?_
        rw [show x.toNat = j by omega]
        refine ih (j + 1) _ _ (by omega) (by omega) (fun a i q => ?_) (fun i hi => ?_) (fun i hi => ?_)
        · rw [mset_nea q]
          exact hF a i q
        · by_cases e : i = j
          · rw [e, mset_same]
          · rw [mset_nei e]
            exact hw i (by omega)
        · rw [mset_nei (by omega)]
          exact hw2 i (by omega)
  refine x_aload_n (pc := 0) dX5_keeps_0 rfl rfl ?_
  refine x_geti (pc := 1) fX5_177 dX5_keeps_1 hd.1 rfl (fun r1a r1b => ?_)
  refine x_bipush (pc := 4) dX5_keeps_4 (by decide) ?_
  rw [hu4] at r1a r1b ⊢
  refine x_icmp_ne (pc := 6) (t := 50) dX5_keeps_6 (by decide) ⟨by omega, by omega⟩ ⟨by omega, by omega⟩ (fun c6 => ?_) (fun c6 => ?_)
  · refine X.loc [0] (L' := [(0, _)]) rfl ?_
    refine fin u H M (by omega) (fun a j q1 q2 => rfl) hu4 hH ?_ (fun i hi => ?_) ?_
    · unfold pushU
      rw [if_neg (by omega)]
    · unfold pushH
      rw [if_neg (by omega), if_neg (by omega)]
    · unfold pushH
      rw [if_neg (by omega), if_pos rfl]
  · refine x_iconst (pc := 9) dX5_keeps_9 ?_
    refine x_istore_n (pc := 10) dX5_keeps_10 rfl (by decide) (L' := [(1, _), (0, _)]) rfl ?_
    refine X.loc [0, 1] (L' := [(1, _), (0, _)]) rfl ?_
    exact shift (by omega) 3080 0 _ M rfl rfl (fun a j q => rfl) (fun i hi => by omega) (fun i hi => rfl)
set_option maxRecDepth 100000 in
theorem sp_X5_does {g : GG} {lay : Lay} {M : Mem} {K : KK} {d : Nat} {T : CT} {H : Nat → CT} {u : Nat} {A : Nat → Int} (hd : MoL lay d) (hb0 : g.2.1 ≤ d) (hT : RowT T (M (d + 1))) (hW : WfT T) (hU : Us H u M d) (hA : Acm A M d) (k : ∀ M2, (∀ a j, ¬ (a = d ∧ j = 4) → ¬ a = d + 3 → ¬ a = d + 6 → M2 a j = M a j) → Us (pushH H u T) (pushU u) M2 d → Acm (accF A 0) M2 d → K (.inl (some (vI 0))) lay M2) : X g m_X5_does 0 0 lay M 0 [(0, vR d)] [] K := by
  refine x_aload_n (pc := 0) dX5_does_0 rfl rfl ?_
  refine x_callV (pc := 1) [] rfl kX5_184 dX5_does_1 hd.1 rfl rfl (by decide) (Nat.le_of_ble_eq_true rfl) (Nat.le_of_ble_eq_true rfl) (by decide) ?_
  refine sp_X5_keeps hd hb0 hT hW hU (fun M2 hF2 hU2 => ?_)
  have a3 : M2 (d + 6) 0 = A 0 := by rw [hF2 _ _ (by omega) (by omega)]; exact hA 0 (by omega)
  refine ⟨_, rfl, ?_⟩
  refine x_aload_n (pc := 4) dX5_does_4 rfl rfl ?_
  refine x_getr (pc := 5) (b := d + 6) fX5_26 dX5_does_5 hd.1 rfl rfl ?_
  refine x_iconst (pc := 8) dX5_does_8 ?_
  refine x_dup2 (pc := 9) dX5_does_9 rfl rfl ?_
  refine x_iald (pc := 10) dX5_does_10 hd.2.2.2.2.2.2.1 (by omega) (by omega) (fun r10a r10b => ?_)
  rw [show (0 : Int).toNat = 0 from rfl, a3] at r10a r10b ⊢
  refine x_iconst (pc := 11) dX5_does_11 ?_
  refine x_iadd (pc := 12) dX5_does_12 ?_
  refine x_w32 ?_
  have w1 := w32_i (A 0 + 1)
  obtain ⟨w2, w3⟩ := w1
  refine x_iast (pc := 13) dX5_does_13 hd.2.2.2.2.2.2.1 (by omega) (by omega) (by omega) ⟨by omega, by omega⟩ ?_
  refine x_iconst (pc := 14) dX5_does_14 ?_
  refine x_iret (pc := 15) dX5_does_15 rfl (by decide) (by decide) ?_
  refine k _ (fun a j q1 q2 q3 => ?_) ⟨⟨?_, hU2.1.2⟩, fun i hi => ?_⟩ (fun i hi => ?_)
  · rw [mset_nea q3]
    exact hF2 a j q1 q2
  · rw [mset_nea (by omega)]
    exact hU2.1.1
  · obtain ⟨g1, g2⟩ := hU2.2 i hi
    refine ⟨g1, g2.cong g1 (fun j hj => ?_)⟩
    show mset _ _ _ _ (d + 3) (280 * i + j) = _
    rw [mset_nea (by omega)]
  · unfold accF fup
    by_cases e : i = (0 : Int).toNat
    · rw [if_pos e, e, mset_same]
      rfl
    · rw [if_neg e, mset_nei e, hF2 _ _ (by omega) (by omega)]
      exact hA i hi
set_option maxRecDepth 100000 in
theorem sp_X5_claims {g : GG} {lay : Lay} {M : Mem} {K : KK} {d : Nat} {T : CT} {H : Nat → CT} {u : Nat} {A : Nat → Int} {a y c l s : Int} (hd : MoL lay d) (hb0 : g.2.1 ≤ d) (hT : RowT T (M (d + 1))) (hW : WfT T) (hU : Us H u M d) (hA : Acm A M d) (ha : -20 ≤ a ∧ a < y ∧ y ≤ 20) (hc : 0 ≤ c ∧ c ≤ 4) (hl : 0 ≤ l ∧ l ≤ 1) (hs : 1 ≤ s ∧ s ≤ 9) (k : ∀ M2, FrA d M M2 → RowT (actClaim T a y c l s) (M2 (d + 1)) → Acm (accF A (whyClaimF T a y s)) M2 d → Us (if whyClaimF T a y s = 0 then pushH H u T else H) (if whyClaimF T a y s = 0 then pushU u else u) M2 d → (∀ j, M2 (d + 7) j = M (d + 7) j) → K (.inl (some (vI (whyClaimF T a y s)))) lay M2) : X g m_X5_claims 0 0 lay M 0 [(0, vR d), (1, vI a), (2, vI y), (3, vI c), (4, vI l), (5, vI s)] [] K := by
  have hn := hW.n60
  obtain ⟨wS, wP, wN, wm, wK, wL, wO, wB⟩ := id hW
  obtain ⟨⟨hS, hN, h10, hP, hp3, hL, hK, h99, hm⟩, hO, hBo⟩ := id hT
  have h2 : tN T % 2 < 2 := Nat.mod_lt _ (by decide)
  have hr := whyClaim_rng T a y s
  have wk := wK (tN T % 2)
  have k4 : whyClaimF T a y s = 0 → tK T (tN T % 2) < 4 := by
    intro z
    unfold whyClaimF at z
    split at z
    · omega
    · split at z
      · omega
      · split at z <;> omega
  unfold actClaim at k
  obtain ⟨wy, hwy⟩ : ∃ wy, wy = whyClaimF T a y s := ⟨_, rfl⟩
  rw [← hwy] at hr k4 k
  refine x_aload_n (pc := 0) dX5_claims_0 rfl rfl ?_
  refine x_iload_n (pc := 1) dX5_claims_1 rfl rfl ?_
  refine x_iload_n (pc := 2) dX5_claims_2 rfl rfl ?_
  refine x_iload (pc := 3) dX5_claims_3 rfl ?_
  refine x_callV (pc := 5) [_, _, _] rfl kX5_194 dX5_claims_5 hd.1 rfl rfl (by decide) (Nat.le_of_ble_eq_true rfl) (Nat.le_of_ble_eq_true rfl) (by decide) ?_
  refine sp_X5_whyClaim hd hb0 hT hW ha hs ?_
  rw [← hwy]
  refine ⟨_, rfl, ?_⟩
  refine x_istore (pc := 8) dX5_claims_8 trivial (by decide) (L' := [(6, _), (0, _), (1, _), (2, _), (3, _), (4, _), (5, _)]) rfl ?_
  refine x_iload (pc := 10) dX5_claims_10 rfl ?_
  refine x_if_le (pc := 12) (t := 22) dX5_claims_12 (by decide) ⟨by omega, by omega⟩ (fun c12 => ?_) (fun c12 => ?_)
  · refine x_aload_n (pc := 22) dX5_claims_22 rfl rfl ?_
    refine x_callV (pc := 23) [] rfl kX5_201 dX5_claims_23 hd.1 rfl rfl (by decide) (Nat.le_of_ble_eq_true rfl) (Nat.le_of_ble_eq_true rfl) (by decide) ?_
    refine sp_X5_does hd hb0 hT hW hU hA (fun M2 hF2 hU2 hA2 => ?_)
    have hw0 : wy = 0 := by omega
    have eN : M2 (d + 1) = M (d + 1) := funext fun j => hF2 _ _ (by omega) (by omega) (by omega)
    have hT2 : RowT T (M2 (d + 1)) := by rw [eN]; exact hT
    have hk4 := k4 hw0
    refine ⟨_, rfl, ?_⟩
    refine x_istore (pc := 26) dX5_claims_26 trivial (by decide) (L' := [(7, _), (6, _), (0, _), (1, _), (2, _), (3, _), (4, _), (5, _)]) rfl ?_
    refine x_aload_n (pc := 28) dX5_claims_28 rfl rfl ?_
    refine x_callV (pc := 29) [] rfl kX5_152 dX5_claims_29 hd.1 rfl rfl (by decide) (Nat.le_of_ble_eq_true rfl) (Nat.le_of_ble_eq_true rfl) (by decide) ?_
    refine sp_X5_whose hd hb0 hT2 hW ?_
    refine ⟨_, rfl, ?_⟩
    refine x_istore (pc := 32) dX5_claims_32 trivial (by decide) (L' := [(8, _), (7, _), (6, _), (0, _), (1, _), (2, _), (3, _), (4, _), (5, _)]) rfl ?_
    refine x_iload (pc := 34) dX5_claims_34 rfl ?_
    refine x_aload_n (pc := 36) dX5_claims_36 rfl rfl ?_
    refine x_iload (pc := 37) dX5_claims_37 rfl ?_
    refine x_callV (pc := 39) [_] rfl kX5_155 dX5_claims_39 hd.1 rfl rfl (by decide) (Nat.le_of_ble_eq_true rfl) (Nat.le_of_ble_eq_true rfl) (by decide) ?_
    refine sp_X5_claimsOf hd hb0 hT2 hW h2 ?_
    refine ⟨_, rfl, ?_⟩
    refine x_callS (pc := 42) [_, _] rfl kX5_158 dX5_claims_42 rfl (by decide) (Nat.le_of_ble_eq_true rfl) (Nat.le_of_ble_eq_true rfl) (by decide) ?_
    refine sp_X5_claimAt ?_
    rw [show 47 + 24 * ((tN T % 2 : Nat) : Int) + 6 * ((tK T (tN T % 2) : Nat) : Int) = ((47 + 24 * (tN T % 2) + 6 * tK T (tN T % 2) : Nat) : Int) by omega]
    obtain ⟨at9, hat9⟩ : ∃ at9, at9 = 47 + 24 * (tN T % 2) + 6 * tK T (tN T % 2) := ⟨_, rfl⟩
    rw [← hat9]
    refine ⟨_, rfl, ?_⟩
    refine x_istore (pc := 45) dX5_claims_45 trivial (by decide) (L' := [(9, _), (8, _), (7, _), (6, _), (0, _), (1, _), (2, _), (3, _), (4, _), (5, _)]) rfl ?_
    refine x_aload_n (pc := 47) dX5_claims_47 rfl rfl ?_
    refine x_getr (pc := 48) (b := d + 1) fX5_7 dX5_claims_48 hd.1 rfl rfl ?_
    refine x_iload (pc := 51) dX5_claims_51 rfl ?_
    refine x_iload_n (pc := 53) dX5_claims_53 rfl rfl ?_
    refine x_iast (pc := 54) dX5_claims_54 hd.2.1 (by omega) (by omega) (by omega) ⟨by omega, by omega⟩ ?_
    refine x_aload_n (pc := 55) dX5_claims_55 rfl rfl ?_
    refine x_getr (pc := 56) (b := d + 1) fX5_7 dX5_claims_56 hd.1 rfl rfl ?_
    refine x_iload (pc := 59) dX5_claims_59 rfl ?_
    refine x_iconst (pc := 61) dX5_claims_61 ?_
    refine x_iadd (pc := 62) dX5_claims_62 ?_
    refine x_iload_n (pc := 63) dX5_claims_63 rfl rfl ?_
    refine x_iast (pc := 64) dX5_claims_64 hd.2.1 (by omega) (by omega) (by omega) ⟨by omega, by omega⟩ ?_
    refine x_aload_n (pc := 65) dX5_claims_65 rfl rfl ?_
    refine x_getr (pc := 66) (b := d + 1) fX5_7 dX5_claims_66 hd.1 rfl rfl ?_
    refine x_iload (pc := 69) dX5_claims_69 rfl ?_
    refine x_iconst (pc := 71) dX5_claims_71 ?_
    refine x_iadd (pc := 72) dX5_claims_72 ?_
    refine x_iload_n (pc := 73) dX5_claims_73 rfl rfl ?_
    refine x_iast (pc := 74) dX5_claims_74 hd.2.1 (by omega) (by omega) (by omega) ⟨by omega, by omega⟩ ?_
    refine x_aload_n (pc := 75) dX5_claims_75 rfl rfl ?_
    refine x_getr (pc := 76) (b := d + 1) fX5_7 dX5_claims_76 hd.1 rfl rfl ?_
    refine x_iload (pc := 79) dX5_claims_79 rfl ?_
    refine x_iconst (pc := 81) dX5_claims_81 ?_
    refine x_iadd (pc := 82) dX5_claims_82 ?_
    refine x_iload (pc := 83) dX5_claims_83 rfl ?_
    refine x_iast (pc := 85) dX5_claims_85 hd.2.1 (by omega) (by omega) (by omega) ⟨by omega, by omega⟩ ?_
    refine x_aload_n (pc := 86) dX5_claims_86 rfl rfl ?_
    refine x_getr (pc := 87) (b := d + 1) fX5_7 dX5_claims_87 hd.1 rfl rfl ?_
    refine x_iload (pc := 90) dX5_claims_90 rfl ?_
    refine x_iconst (pc := 92) dX5_claims_92 ?_
    refine x_iadd (pc := 93) dX5_claims_93 ?_
    refine x_iload (pc := 94) dX5_claims_94 rfl ?_
    refine x_iast (pc := 96) dX5_claims_96 hd.2.1 (by omega) (by omega) (by omega) ⟨by omega, by omega⟩ ?_
    refine x_aload_n (pc := 97) dX5_claims_97 rfl rfl ?_
    refine x_getr (pc := 98) (b := d + 1) fX5_7 dX5_claims_98 hd.1 rfl rfl ?_
    refine x_iload (pc := 101) dX5_claims_101 rfl ?_
    refine x_iconst (pc := 103) dX5_claims_103 ?_
    refine x_iadd (pc := 104) dX5_claims_104 ?_
    refine x_aload_n (pc := 105) dX5_claims_105 rfl rfl ?_
    refine x_getr (pc := 106) (b := d + 1) fX5_7 dX5_claims_106 hd.1 rfl rfl ?_
    refine x_bipush (pc := 109) dX5_claims_109 (by decide) ?_
    refine x_iald (pc := 111) dX5_claims_111 hd.2.1 (by omega) (by omega) (fun r111a r111b => ?_)
    try simp (disch := omega) only [mset_same, mset_nea, mset_nei, mcopy_nea, mcopy_in, mcopy_out, Int.reduceToNat, Int.toNat_natCast, Nat.zero_add, Nat.sub_zero] at r111a r111b ⊢
    rw [eN, hN] at r111a r111b ⊢
    refine x_iast (pc := 112) dX5_claims_112 hd.2.1 (by omega) (by omega) (by omega) ⟨by omega, by omega⟩ ?_
    refine x_aload_n (pc := 113) dX5_claims_113 rfl rfl ?_
    refine x_getr (pc := 114) (b := d + 1) fX5_7 dX5_claims_114 hd.1 rfl rfl ?_
    refine x_bipush (pc := 117) dX5_claims_117 (by decide) ?_
    refine x_iload (pc := 119) dX5_claims_119 rfl ?_
    refine x_iadd (pc := 121) dX5_claims_121 ?_
    refine x_dup2 (pc := 122) dX5_claims_122 rfl rfl ?_
    refine x_iald (pc := 123) dX5_claims_123 hd.2.1 (by omega) (by omega) (fun r123a r123b => ?_)
    try simp (disch := omega) only [mset_same, mset_nea, mset_nei, mcopy_nea, mcopy_in, mcopy_out, Int.reduceToNat, Int.toNat_natCast, Nat.zero_add, Nat.sub_zero] at r123a r123b ⊢
    rw [show (95 + ((tN T % 2 : Nat) : Int)).toNat = 95 + tN T % 2 by omega, eN, (hK (tN T % 2) h2).1] at r123a r123b ⊢
    refine x_iconst (pc := 124) dX5_claims_124 ?_
    refine x_iadd (pc := 125) dX5_claims_125 ?_
    refine x_iast (pc := 126) dX5_claims_126 hd.2.1 (by omega) (by omega) (by omega) ⟨by omega, by omega⟩ ?_
    refine x_iload (pc := 127) dX5_claims_127 rfl ?_
    refine x_iret (pc := 129) dX5_claims_129 rfl (by decide) (by decide) ?_
    rw [show (95 + ((tN T % 2 : Nat) : Int)).toNat = 95 + tN T % 2 by omega, show ((at9 : Int) + 1).toNat = at9 + 1 by omega, show ((at9 : Int) + 2).toNat = at9 + 2 by omega, show ((at9 : Int) + 3).toNat = at9 + 3 by omega, show ((at9 : Int) + 4).toNat = at9 + 4 by omega, show ((at9 : Int) + 5).toNat = at9 + 5 by omega]
    obtain ⟨M3, hM3⟩ : ∃ M3, M3 = mset (mset (mset (mset (mset (mset (mset M2 (d + 1) at9 a) (d + 1) (at9 + 1) y) (d + 1) (at9 + 2) c) (d + 1) (at9 + 3) l) (d + 1) (at9 + 4) s) (d + 1) (at9 + 5) (tN T)) (d + 1) (95 + tN T % 2) (tK T (tN T % 2) + 1) := ⟨_, rfl⟩
    rw [← hM3]
    have hF3 : ∀ b j, ¬ b = d + 1 → M3 b j = M2 b j := fun b j q => by rw [hM3, mset_nea q, mset_nea q, mset_nea q, mset_nea q, mset_nea q, mset_nea q, mset_nea q]
    have k9 := k M3 (fun b j q1 q2 q3 q4 q5 q6 => by rw [hF3 b j q2]; exact hF2 b j (fun z => q1 ⟨z.1, Or.inl z.2⟩) q3 q4)
    rw [if_pos hw0, if_pos hw0, if_pos hw0] at k9
    rw [← hw0]
    refine k9 ?_ (fun i hi => ?_) ⟨⟨?_, hU2.1.2⟩, fun i hi => ?_⟩ (fun j => ?_)
    · have h9 := RowT.claim (a := a) (y := y) (c := c) (l := l) (s := s) hT2 hW hk4
      rw [hM3, mset_row, mset_row, mset_row, mset_row, mset_row, mset_row, mset_row, hat9]
      exact h9
    · rw [hF3 _ _ (by omega), hw0]
      exact hA2 i hi
    · rw [hF3 _ _ (by omega)]
      exact hU2.1.1
    · obtain ⟨g1, g2⟩ := hU2.2 i hi
      exact ⟨g1, g2.cong g1 (fun j hj => hF3 _ _ (by omega))⟩
    · rw [hF3 _ _ (by omega), hF2 _ _ (by omega) (by omega) (by omega)]
  · refine x_aload_n (pc := 15) dX5_claims_15 rfl rfl ?_
    refine x_iload (pc := 16) dX5_claims_16 rfl ?_
    refine x_callV (pc := 18) [_] rfl kX5_198 dX5_claims_18 hd.1 rfl rfl (by decide) (Nat.le_of_ble_eq_true rfl) (Nat.le_of_ble_eq_true rfl) (by decide) ?_
    refine sp_X5_refuses hd hb0 hA (by omega) (fun M2 hF2 hA2 => ?_)
    refine ⟨_, rfl, ?_⟩
    refine x_iret (pc := 21) dX5_claims_21 rfl (by decide) (by decide) ?_
    have k9 := k M2 (fun b j q1 q2 q3 q4 q5 q6 => hF2 b j q4) 
    rw [if_neg (by omega), if_neg (by omega), if_neg (by omega)] at k9
    refine k9 ?_ hA2 ⟨⟨by rw [hF2 _ _ (by omega)]; exact hU.1.1, hU.1.2⟩, fun i hi => ?_⟩ (fun j => hF2 _ _ (by omega))
    · rw [show M2 (d + 1) = M (d + 1) from funext fun j => hF2 _ _ (by omega)]
      exact hT
    · obtain ⟨g1, g2⟩ := hU.2 i hi
      exact ⟨g1, g2.cong g1 (fun j hj => hF2 _ _ (by omega))⟩
