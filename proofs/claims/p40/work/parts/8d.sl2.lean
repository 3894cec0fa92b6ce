/-! The law's draws, its claims, its own contest. -/
def ToP (g : GG) (lay : Lay) (M : Mem) (d n : Nat) : Prop := KN lay d (0, 7, fun _ => none) ∧ g.2.1 ≤ d ∧ (0 ≤ M d 1 ∧ M d 1 ≤ (n : Nat)) ∧ ∃ sa len, M d 0 = er sa ∧ KN lay sa (1, len, fun _ => none)
theorem ToP.ext {g : GG} {lay lay2 : Lay} {M M2 : Mem} {d n : Nat} (h : ToP g lay M d n) (e : Ext lay lay2) (p : ∀ i, M2 d i = M d i) : ToP g lay2 M2 d n := by
  obtain ⟨h1, h2, h3, sa, len, h4, h5⟩ := h
  exact ⟨h1.ext e, h2, by rw [p]; exact h3, sa, len, (p _).trans h4, h5.ext e⟩
theorem ToP.up {g : GG} {lay : Lay} {M : Mem} {d n m : Nat} (h : ToP g lay M d n) (hm : n ≤ m) : ToP g lay M d m := ⟨h.1, h.2.1, ⟨h.2.2.1.1, by have := h.2.2.1.2; omega⟩, h.2.2.2⟩
theorem tmod_r {x m : Int} (h : 0 ≤ x) (hm : 0 < m) : 0 ≤ x.tmod m ∧ x.tmod m < m := ⟨Int.tmod_nonneg _ h, Int.tmod_lt_of_pos _ hm⟩
theorem tmodN (n : Nat) : ((n : Int)).tmod 2 = ((n % 2 : Nat) : Int) := by
  rw [Int.tmod_eq_emod_of_nonneg (by omega)]
  omega
/-- the law's own contest: its arrays and numbers -/
def LcQ (g : GG) (lay : Lay) (M : Mem) (c pw : Nat) (S P La : Nat → Int) (tn : Nat) (hp hc ov bt : Int) : Prop := (KN lay c (0, 6, fun _ => none) ∧ KN lay (c + 3) (1, pw, fun _ => none) ∧ KN lay (c + 4) (1, pw, fun _ => none) ∧ g.2.1 ≤ c) ∧ (M c 0 = er (c + 3) ∧ M c 1 = er (c + 4) ∧ M c 2 = er (c + 2)) ∧ (∀ p, p < pw → M (c + 3) p = P p) ∧ (∀ p, p < pw → M (c + 4) p = La p) ∧ (∀ i, i < 6 → M c (3 + i) = S (1 + i)) ∧ M c 9 = (tn : Nat) ∧ M c 10 = hp ∧ M c 11 = hc ∧ M c 12 = ov ∧ M c 13 = bt
def LcW (pw : Nat) (S P La : Nat → Int) (tn : Nat) (hp hc ov bt : Int) : Prop := (2 ≤ pw ∧ pw ≤ 5) ∧ WfS S ∧ (∀ j, -39 ≤ P j ∧ P j ≤ 39) ∧ (∀ j, -100 ≤ La j ∧ La j ≤ 60) ∧ tn ≤ 60 ∧ (0 ≤ hp ∧ hp ≤ 1) ∧ (0 ≤ hc ∧ hc ≤ 1) ∧ (0 ≤ ov ∧ ov ≤ 1) ∧ (-1 ≤ bt ∧ bt ≤ 1)
/-- .. its lists of claims -/
def LcL (g : GG) (lay : Lay) (M : Mem) (c : Nat) (kk : Nat → Nat) (ll : Nat → Nat → Nat → Int) : Prop := ∃ el : Nat → Nat → Nat, LsP g lay M (c + 2) 2 (fun i => c + 5 + 2 * i) ∧ M (c + 2) 1 = er (c + 6) ∧ (∀ p, p < 2 → LsP g lay M (c + 5 + 2 * p) (kk p) (el p) ∧ kk p ≤ 4 ∧ ∀ i, i < kk p → KN lay (el p i) (0, 5, fun _ => none) ∧ c + 8 ≤ el p i ∧ (∀ f, f < 5 → M (el p i) f = ll p i f) ∧ WfL 100 (ll p i)) ∧ (∀ x0 x1, M (c + 5) 1 = er x0 → M (c + 7) 1 = er x1 → g.2.1 ≤ x0 → x0 ≠ x1) ∧ ∀ p, p < 2 → ∀ x, M (c + 5 + 2 * p) 1 = er x → g.2.1 ≤ x → c + 8 ≤ x ∧ x < lay.2
theorem LcQ.ext {g : GG} {lay lay2 : Lay} {M M2 : Mem} {c pw : Nat} {S P La : Nat → Int} {tn : Nat} {hp hc ov bt : Int} (h : LcQ g lay M c pw S P La tn hp hc ov bt) (e : Ext lay lay2) (p : ∀ y i, c ≤ y → y < c + 5 → M2 y i = M y i) : LcQ g lay2 M2 c pw S P La tn hp hc ov bt := by
  obtain ⟨⟨h1, h2, h3, h4⟩, ⟨h5, h6, h7⟩, h8, h9, h10, h11, h12, h13, h14, h15⟩ := h
  have q : ∀ i, M2 c i = M c i := fun i => p c i (by omega) (by omega)
  exact ⟨⟨h1.ext e, h2.ext e, h3.ext e, h4⟩, ⟨(q _).trans h5, (q _).trans h6, (q _).trans h7⟩, fun j hj => (p _ _ (by omega) (by omega)).trans (h8 j hj), fun j hj => (p _ _ (by omega) (by omega)).trans (h9 j hj), fun i hi => (q _).trans (h10 i hi), (q _).trans h11, (q _).trans h12, (q _).trans h13, (q _).trans h14, (q _).trans h15⟩
theorem LcL.ext {g : GG} {lay lay2 : Lay} {M M2 : Mem} {c : Nat} {kk : Nat → Nat} {ll : Nat → Nat → Nat → Int} (h : LcL g lay M c kk ll) (e : Ext lay lay2) (p : ∀ y i, c < y → y < lay.2 → y ≠ c + 3 → y ≠ c + 4 → M2 y i = M y i) : LcL g lay2 M2 c kk ll := by
  obtain ⟨el, h1, h2, h3, h4, h5⟩ := h
  have b1 := h1.1.2
  have b2 := (h3 0 (by decide)).1.1.2
  have b3 := (h3 1 (by decide)).1.1.2
  have q2 : ∀ i, M2 (c + 2) i = M (c + 2) i := fun i => p _ i (by omega) (by omega) (by omega) (by omega)
  have q5 : ∀ i, M2 (c + 5) i = M (c + 5) i := fun i => p _ i (by omega) (by omega) (by omega) (by omega)
  have q7 : ∀ i, M2 (c + 7) i = M (c + 7) i := fun i => p _ i (by omega) (by omega) (by omega) (by omega)
  have qp : ∀ z i, z < 2 → M2 (c + 5 + 2 * z) i = M (c + 5 + 2 * z) i := fun z i hz => p _ i (by omega) (by omega) (by omega) (by omega)
  refine ⟨el, h1.ext e q2 (fun x i z1 z2 => ?_), (q2 _).trans h2, fun z hz => ?_, fun x0 x1 z1 z2 => h4 x0 x1 ((q5 _).symm.trans z1) ((q7 _).symm.trans z2), fun z hz x z1 z2 => ?_⟩
  · have := er_inj (z1.symm.trans h2)
    subst this
    exact p _ _ (by omega) (by omega) (by omega) (by omega)
  · obtain ⟨g1, g2, g3⟩ := h3 z hz
    refine ⟨g1.ext e (fun i => qp z i hz) (fun x i z1 z2 => ?_), g2, fun i hi => ?_⟩
    · have := h5 z hz x z1 z2
      exact p _ _ (by omega) (by omega) (by omega) (by omega)
    · obtain ⟨k1, k2, k3, k4⟩ := g3 i hi
      have := k1.2
      exact ⟨k1.ext e, k2, fun f hf => (p _ _ (by omega) (by omega) (by omega) (by omega)).trans (k3 f hf), k4⟩
  · have := h5 z hz x ((qp z _ hz).symm.trans z1) z2
    have := e.1
    omega
def barQ (S La : Nat → Int) (tn : Nat) (p : Nat) : Prop := 0 ≤ La p ∧ (S 1 = 0 ∨ (tn : Int) - La p ≤ S 1)
def zerQ (pw : Nat) (P : Nat → Int) (but : Int) : Prop := ∀ j : Nat, j < pw → (j : Int) ≠ but → P j = 0
def allQ (pw : Nat) (S La : Nat → Int) (tn : Nat) : Prop := ∀ p, p < pw → barQ S La tn p
def pwI (x : Int) : Nat → Int
  | 0 => 1
  | n + 1 => pwI x n * x
def valS (P : Nat → Int) (x : Int) : Nat → Int
  | 0 => 0
  | n + 1 => valS P x n + P n * pwI x n
theorem S1 {M : Mem} {c : Nat} {S : Nat → Int} (h : ∀ i, i < 6 → M c (3 + i) = S (1 + i)) : M c 3 = S 1 ∧ M c 4 = S 2 ∧ M c 5 = S 3 ∧ M c 6 = S 4 ∧ M c 7 = S 5 ∧ M c 8 = S 6 := ⟨h 0 (by decide), h 1 (by decide), h 2 (by decide), h 3 (by decide), h 4 (by decide), h 5 (by decide)⟩

set_option maxRecDepth 100000 in
theorem sp_L_pick {g : GG} {lay : Lay} {M : Mem} {K : KK} {sa len : Nat} {x : Int} (hs : KN lay sa (1, len, fun _ => none)) (hx : 0 ≤ x ∧ x ≤ 1000000) (k : ∀ z, 0 ≤ z → z ≤ 2147483647 → K (.inl (some (vI z))) lay M) : X g m_L_pick 0 0 lay M 0 [(0, vR sa), (1, vI x)] [] K := by
  refine x_iload_n (pc := 0) dL_pick_0 rfl rfl ?_
  refine x_aload_n (pc := 1) dL_pick_1 rfl rfl ?_
  refine x_alen (pc := 2) dL_pick_2 hs.1 (fun r2a => ?_)
  refine x_icmp_ge (pc := 3) (t := 12) dL_pick_3 (by decide) ⟨by omega, by omega⟩ ⟨by omega, by omega⟩ (fun c3 => ?_) (fun c3 => ?_)
  · refine x_bipush (pc := 12) dL_pick_12 (by decide) ?_
    refine x_iload_n (pc := 14) dL_pick_14 rfl rfl ?_
    refine x_imul (pc := 15) dL_pick_15 ?_
    refine x_ldcI (pc := 16) 2147483647 kiL_7 (by decide) dL_pick_16 ?_
    refine x_iandm (pc := 18) 31 (by decide) (by decide) dL_pick_18 ?_
    refine x_iret (pc := 19) dL_pick_19 rfl (by decide) (by decide) ?_
    exact k _ (by omega) (by omega)
  · refine x_aload_n (pc := 6) dL_pick_6 rfl rfl ?_
    refine x_iload_n (pc := 7) dL_pick_7 rfl rfl ?_
    refine x_iald (pc := 8) dL_pick_8 hs.1 (by omega) (by omega) (fun r8a r8b => ?_)
    refine x_goto (pc := 9) (t := 16) dL_pick_9 (by decide) ?_
    refine x_ldcI (pc := 16) 2147483647 kiL_7 (by decide) dL_pick_16 ?_
    refine x_iandm (pc := 18) 31 (by decide) (by decide) dL_pick_18 ?_
    refine x_iret (pc := 19) dL_pick_19 rfl (by decide) (by decide) ?_
    exact k _ (by omega) (by omega)
set_option maxRecDepth 100000 in
theorem sp_X7_init {g : GG} {lay : Lay} {M : Mem} {K : KK} {d sa len : Nat} (hd : KN lay d (0, 7, fun _ => none)) (wd : g.2.1 ≤ d) (hz : M d 1 = 0) (hs : KN lay sa (1, len, fun _ => none)) (k : ∀ M2, (∀ y i, y ≠ d → M2 y i = M y i) → ToP g lay M2 d 0 → K (.inl none) lay M2) : X g m_X7_init 0 0 lay M 0 [(0, vR d), (1, vR sa)] [] K := by
  refine x_aload_n (pc := 0) dX7_init_0 rfl rfl ?_
  refine x_super (pc := 1) koX7_1 dX7_init_1 (by decide) ⟨by decide, by decide⟩ ?_
  refine x_aload_n (pc := 4) dX7_init_4 rfl rfl ?_
  refine x_aload_n (pc := 5) dX7_init_5 rfl rfl ?_
  refine x_putFr (pc := 6) ffX7_7 rfl dX7_init_6 hd.1 wd rfl rfl ?_
  refine x_vret (pc := 9) dX7_init_9 rfl (by decide) (by decide) ?_
  refine k _ (fun y i hy => mset_nea hy) ⟨hd, wd, ?_, sa, len, mset_same, hs⟩
  rw [mset_nei (by decide), hz]
  exact ⟨by decide, by decide⟩
set_option maxRecDepth 100000 in
theorem sp_X7_next {g : GG} {lay : Lay} {M : Mem} {K : KK} {d n : Nat} {m : Int} (hT : ToP g lay M d n) (hn : n < 100000) (hm : 1 ≤ m ∧ m ≤ 1000) (k : ∀ z M2, 0 ≤ z → z < m → (∀ y i, y ≠ d → M2 y i = M y i) → ToP g lay M2 d (n + 1) → K (.inl (some (vI z))) lay M2) : X g m_X7_next 0 0 lay M 0 [(0, vR d), (1, vI m)] [] K := by
  obtain ⟨hd, wd, d1, sa, len, d0, hs⟩ := id hT
  refine x_aload_n (pc := 0) dX7_next_0 rfl rfl ?_
  refine x_dup (pc := 1) dX7_next_1 rfl ?_
  refine x_geti (pc := 2) fX7_13 dX7_next_2 hd.1 rfl (fun r2a r2b => ?_)
  refine x_iconst (pc := 5) dX7_next_5 ?_
  refine x_iadd (pc := 6) dX7_next_6 ?_
  refine x_puti (pc := 7) fnX7_13 dX7_next_7 hd.1 wd rfl ⟨by omega, by omega⟩ ?_
  refine x_aload_n (pc := 10) dX7_next_10 rfl rfl ?_
  refine x_getrM (pc := 11) (b := sa) fX7_7 dX7_next_11 hd.1 rfl (by first | exact d0 | (simp (disch := omega) only [mset_same, mset_nea, mset_nei, mcopy_nea, mcopy_in, mcopy_out, Int.reduceToNat, Int.toNat_natCast, Nat.zero_add, Nat.sub_zero]; done) | (simp (disch := omega) only [mset_same, mset_nea, mset_nei, mcopy_nea, mcopy_in, mcopy_out, Int.reduceToNat, Int.toNat_natCast, Nat.zero_add, Nat.sub_zero]; exact d0)) rfl ?_
  refine x_aload_n (pc := 14) dX7_next_14 rfl rfl ?_
  refine x_geti (pc := 15) fX7_13 dX7_next_15 hd.1 rfl (fun r15a r15b => ?_)
  try simp (disch := omega) only [mset_same, mset_nea, mset_nei, mcopy_nea, mcopy_in, mcopy_out, Int.reduceToNat, Int.toNat_natCast, Nat.zero_add, Nat.sub_zero] at r15a r15b ⊢
  refine x_callSN (pc := 18) [_, _] rfl kX7_17 dX7_next_18 rfl (by decide) (Nat.le_of_ble_eq_true rfl) (Nat.le_of_ble_eq_true rfl) (by decide) ?_
  refine sp_L_pick hs ⟨by omega, by omega⟩ (fun z z0 z1 => ?_)
  refine ⟨_, rfl, ?_⟩
  refine x_iload_n (pc := 21) dX7_next_21 rfl rfl ?_
  refine x_irem (pc := 22) dX7_next_22 ⟨by omega, by omega⟩ ⟨by omega, by omega⟩ (by omega) ?_
  refine x_iret (pc := 23) dX7_next_23 rfl (by decide) (by decide) ?_
  have := tmod_r z0 (show 0 < m by omega)
  refine k _ _ this.1 this.2 (fun y i hy => mset_nea hy) ⟨hd, wd, ?_, sa, len, ?_, hs⟩
  · rw [mset_same]
    exact ⟨by omega, by omega⟩
  · rw [mset_nei (by decide)]
    exact d0
set_option maxRecDepth 100000 in
theorem sp_X5_init {g : GG} {lay : Lay} {M : Mem} {K : KK} {q : Nat} {a b r l s : Int} (hq : KN lay q (0, 5, fun _ => none)) (wq : g.2.1 ≤ q) (ha : i32 a) (hb : i32 b) (hr : i32 r) (hl : 0 ≤ l ∧ l ≤ 1) (hs : i32 s) (k : ∀ M2, (∀ y i, y ≠ q → M2 y i = M y i) → (∀ f, f < 5 → M2 q f = mkL a b r l s 0 f) → K (.inl none) lay M2) : X g m_X5_init 0 0 lay M 0 [(0, vR q), (1, vI a), (2, vI b), (3, vI r), (4, vI l), (5, vI s)] [] K := by
  refine x_aload_n (pc := 0) dX5_init_0 rfl rfl ?_
  refine x_super (pc := 1) koX5_1 dX5_init_1 (by decide) ⟨by decide, by decide⟩ ?_
  refine x_aload_n (pc := 4) dX5_init_4 rfl rfl ?_
  refine x_iload_n (pc := 5) dX5_init_5 rfl rfl ?_
  refine x_putFi (pc := 6) ffX5_7 rfl dX5_init_6 hq.1 wq rfl ⟨by omega, by omega⟩ ?_
  refine x_aload_n (pc := 9) dX5_init_9 rfl rfl ?_
  refine x_iload_n (pc := 10) dX5_init_10 rfl rfl ?_
  refine x_putFi (pc := 11) ffX5_13 rfl dX5_init_11 hq.1 wq rfl ⟨by omega, by omega⟩ ?_
  refine x_aload_n (pc := 14) dX5_init_14 rfl rfl ?_
  refine x_iload_n (pc := 15) dX5_init_15 rfl rfl ?_
  refine x_putFi (pc := 16) ffX5_16 rfl dX5_init_16 hq.1 wq rfl ⟨by omega, by omega⟩ ?_
  refine x_aload_n (pc := 19) dX5_init_19 rfl rfl ?_
  refine x_iload (pc := 20) dX5_init_20 rfl ?_
  refine x_putFz (pc := 22) ffX5_19 rfl dX5_init_22 hq.1 wq rfl ⟨by omega, by omega⟩ ?_
  refine x_aload_n (pc := 25) dX5_init_25 rfl rfl ?_
  refine x_iload (pc := 26) dX5_init_26 rfl ?_
  refine x_putFi (pc := 28) ffX5_23 rfl dX5_init_28 hq.1 wq rfl ⟨by omega, by omega⟩ ?_
  refine x_vret (pc := 31) dX5_init_31 rfl (by decide) (by decide) ?_
  refine k _ (fun y i hy => ?_) (fun f hf => ?_)
  · rw [mset_nea hy, mset_nea hy, mset_nea hy, mset_nea hy, mset_nea hy]
  · rcases (show f = 0 ∨ f = 1 ∨ f = 2 ∨ f = 3 ∨ f = 4 by omega) with rfl | rfl | rfl | rfl | rfl
    all_goals simp (disch := omega) only [mset_same, mset_nei]
    all_goals rfl
set_option maxRecDepth 100000 in
theorem sp_X6_whose {g : GG} {lay : Lay} {M : Mem} {K : KK} {c pw : Nat} {S P La : Nat → Int} {tn : Nat} {hp hc ov bt : Int} (hQ : LcQ g lay M c pw S P La tn hp hc ov bt) (hW : LcW pw S P La tn hp hc ov bt) (k : K (.inl (some (vI (((tn % 2 : Nat) : Int))))) lay M) : X g m_X6_whose 0 0 lay M 0 [(0, vR c)] [] K := by
  obtain ⟨⟨hk, hco, hla, wc⟩, ⟨r0, r1, r2⟩, vP, vL, vS, q9, q10, q11, q12, q13⟩ := id hQ
  obtain ⟨w1, ⟨-, s1, s2, s3, s4, s5, s6⟩, wP, wL, w2, w3, w4, w5, w6⟩ := id hW
  obtain ⟨y3, y4, y5, y6, y7, y8⟩ := S1 vS
  refine x_aload_n (pc := 0) dX6_whose_0 rfl rfl ?_
  refine x_geti (pc := 1) fX6_49 dX6_whose_1 hk.1 rfl (fun r1a r1b => ?_)
  refine x_iconst (pc := 4) dX6_whose_4 ?_
  refine x_irem (pc := 5) dX6_whose_5 ⟨by omega, by omega⟩ ⟨by omega, by omega⟩ (by omega) ?_
  refine x_iret (pc := 6) dX6_whose_6 rfl (by decide) (by decide) ?_
  refine kI k ?_
  rw [q9, tmodN]
set_option maxRecDepth 100000 in
theorem sp_X6_isBarred {g : GG} {lay : Lay} {M : Mem} {K : KK} {c pw : Nat} {S P La : Nat → Int} {tn : Nat} {hp hc ov bt : Int} {p : Nat} (hQ : LcQ g lay M c pw S P La tn hp hc ov bt) (hW : LcW pw S P La tn hp hc ov bt) (hp9 : p < pw) (k : K (.inl (some (vI (if 0 ≤ La p ∧ (S 1 = 0 ∨ (tn : Int) - La p ≤ S 1) then 1 else 0)))) lay M) : X g m_X6_isBarred 0 0 lay M 0 [(0, vR c), (1, vI (p : Nat))] [] K := by
  obtain ⟨⟨hk, hco, hla, wc⟩, ⟨r0, r1, r2⟩, vP, vL, vS, q9, q10, q11, q12, q13⟩ := id hQ
  obtain ⟨w1, ⟨-, s1, s2, s3, s4, s5, s6⟩, wP, wL, w2, w3, w4, w5, w6⟩ := id hW
  obtain ⟨y3, y4, y5, y6, y7, y8⟩ := S1 vS
  have e9 := vL p hp9
  have e8 := wL p
  have e7 : ((p : Nat) : Int).toNat = p := Int.toNat_natCast p
  refine x_aload_n (pc := 0) dX6_isBarred_0 rfl rfl ?_
  refine x_getrM (pc := 1) (b := (c + 4)) fX6_24 dX6_isBarred_1 hk.1 rfl r1 rfl ?_
  refine x_iload_n (pc := 4) dX6_isBarred_4 rfl rfl ?_
  refine x_iald (pc := 5) dX6_isBarred_5 hla.1 (by omega) (by omega) (fun r5a r5b => ?_)
  rw [e7, e9]
  refine x_if_lt (pc := 6) (t := 38) dX6_isBarred_6 (by decide) ⟨by omega, by omega⟩ (fun c6 => ?_) (fun c6 => ?_)
  · refine x_iconst (pc := 38) dX6_isBarred_38 ?_
    refine x_zret (pc := 39) dX6_isBarred_39 rfl ⟨by omega, by omega⟩ (by decide) (by decide) ?_
    first
    | (rw [if_pos (by omega)] at k; exact k)
    | (rw [if_neg (by omega)] at k; exact k)
  · refine x_aload_n (pc := 9) dX6_isBarred_9 rfl rfl ?_
    refine x_geti (pc := 10) fX6_27 dX6_isBarred_10 hk.1 rfl (fun r10a r10b => ?_)
    refine x_if_eq (pc := 13) (t := 34) dX6_isBarred_13 (by decide) ⟨by omega, by omega⟩ (fun c13 => ?_) (fun c13 => ?_)
    · refine x_iconst (pc := 34) dX6_isBarred_34 ?_
      refine x_goto (pc := 35) (t := 39) dX6_isBarred_35 (by decide) ?_
      refine x_zret (pc := 39) dX6_isBarred_39 rfl ⟨by omega, by omega⟩ (by decide) (by decide) ?_
      first
      | (rw [if_pos (by omega)] at k; exact k)
      | (rw [if_neg (by omega)] at k; exact k)
    · refine x_aload_n (pc := 16) dX6_isBarred_16 rfl rfl ?_
      refine x_geti (pc := 17) fX6_49 dX6_isBarred_17 hk.1 rfl (fun r17a r17b => ?_)
      refine x_aload_n (pc := 20) dX6_isBarred_20 rfl rfl ?_
      refine x_getrM (pc := 21) (b := (c + 4)) fX6_24 dX6_isBarred_21 hk.1 rfl r1 rfl ?_
      refine x_iload_n (pc := 24) dX6_isBarred_24 rfl rfl ?_
      refine x_iald (pc := 25) dX6_isBarred_25 hla.1 (by omega) (by omega) (fun r25a r25b => ?_)
      rw [e7, e9]
      refine x_isub (pc := 26) dX6_isBarred_26 ?_
      refine x_aload_n (pc := 27) dX6_isBarred_27 rfl rfl ?_
      refine x_geti (pc := 28) fX6_27 dX6_isBarred_28 hk.1 rfl (fun r28a r28b => ?_)
      refine x_icmp_gt (pc := 31) (t := 38) dX6_isBarred_31 (by decide) ⟨by omega, by omega⟩ ⟨by omega, by omega⟩ (fun c31 => ?_) (fun c31 => ?_)
      · refine x_iconst (pc := 38) dX6_isBarred_38 ?_
        refine x_zret (pc := 39) dX6_isBarred_39 rfl ⟨by omega, by omega⟩ (by decide) (by decide) ?_
        first
        | (rw [if_pos (by omega)] at k; exact k)
        | (rw [if_neg (by omega)] at k; exact k)
      · refine x_iconst (pc := 34) dX6_isBarred_34 ?_
        refine x_goto (pc := 35) (t := 39) dX6_isBarred_35 (by decide) ?_
        refine x_zret (pc := 39) dX6_isBarred_39 rfl ⟨by omega, by omega⟩ (by decide) (by decide) ?_
        first
        | (rw [if_pos (by omega)] at k; exact k)
        | (rw [if_neg (by omega)] at k; exact k)
set_option maxRecDepth 100000 in
theorem sp_X6_isZero {g : GG} {lay : Lay} {M : Mem} {K : KK} {c pw : Nat} {S P La : Nat → Int} {tn : Nat} {hp hc ov bt : Int} {x : Int} (hQ : LcQ g lay M c pw S P La tn hp hc ov bt) (hW : LcW pw S P La tn hp hc ov bt) (hx : -1 ≤ x ∧ x < pw) (k : ∀ z : Int, (z = 1 ∧ zerQ pw P x ∨ z = 0 ∧ ¬ zerQ pw P x) → K (.inl (some (vI z))) lay M) : X g m_X6_isZero 0 0 lay M 0 [(0, vR c), (1, vI x)] [] K := by
  obtain ⟨⟨hk, hco, hla, wc⟩, ⟨r0, r1, r2⟩, vP, vL, vS, q9, q10, q11, q12, q13⟩ := id hQ
  obtain ⟨w1, ⟨-, s1, s2, s3, s4, s5, s6⟩, wP, wL, w2, w3, w4, w5, w6⟩ := id hW
  obtain ⟨y3, y4, y5, y6, y7, y8⟩ := S1 vS
  have loop : ∀ d j : Nat, j + d = pw → (∀ i : Nat, i < j → (i : Int) ≠ x → P i = 0) → X g m_X6_isZero 0 0 lay M 2 [(2, vI (j : Nat)), (0, vR c), (1, vI x)] [] K := by
    intro d
    induction d with
    | zero =>
      intro j hj hi
      refine x_iload_n (pc := 2) dX6_isZero_2 rfl rfl ?_
      refine x_aload_n (pc := 3) dX6_isZero_3 rfl rfl ?_
      refine x_getrM (pc := 4) (b := (c + 3)) fX6_20 dX6_isZero_4 hk.1 rfl r0 rfl ?_
      refine x_alen (pc := 7) dX6_isZero_7 hco.1 (fun r7a => ?_)
      refine x_icmp_ge (pc := 8) (t := 33) dX6_isZero_8 (by decide) ⟨by omega, by omega⟩ ⟨by omega, by omega⟩ (fun c8 => ?_) (fun c8 => ?_)
      · refine x_iconst (pc := 33) dX6_isZero_33 ?_
        refine x_zret (pc := 34) dX6_isZero_34 rfl ⟨by omega, by omega⟩ (by decide) (by decide) ?_
        exact k _ (Or.inl ⟨rfl, fun i h1 hn => hi i (by omega) hn⟩)
      · exfalso; omega
    | succ d ih =>
      intro j hj hi
      have e9 := vP j (by omega)
      have e8 := wP j
      have e7 : ((j : Nat) : Int).toNat = j := Int.toNat_natCast j
      refine x_iload_n (pc := 2) dX6_isZero_2 rfl rfl ?_
      refine x_aload_n (pc := 3) dX6_isZero_3 rfl rfl ?_
      refine x_getrM (pc := 4) (b := (c + 3)) fX6_20 dX6_isZero_4 hk.1 rfl r0 rfl ?_
      refine x_alen (pc := 7) dX6_isZero_7 hco.1 (fun r7a => ?_)
      refine x_icmp_ge (pc := 8) (t := 33) dX6_isZero_8 (by decide) ⟨by omega, by omega⟩ ⟨by omega, by omega⟩ (fun c8 => ?_) (fun c8 => ?_)
      · exfalso; omega
      · refine x_iload_n (pc := 11) dX6_isZero_11 rfl rfl ?_
        refine x_iload_n (pc := 12) dX6_isZero_12 rfl rfl ?_
        refine x_icmp_eq (pc := 13) (t := 27) dX6_isZero_13 (by decide) ⟨by omega, by omega⟩ ⟨by omega, by omega⟩ (fun c13 => ?_) (fun c13 => ?_)
        · refine x_iinc (pc := 27) dX6_isZero_27 rfl (by decide) (L' := [(2, _), (0, _), (1, _)]) rfl ?_
          refine x_goto (pc := 30) (t := 2) dX6_isZero_30 (by decide) ?_
          refine X.loc [0, 1, 2] (L' := [(2, _), (0, _), (1, _)]) rfl ?_
          refine X.loc [0, 1, 2] (L' := [(2, vI ((j + 1 : Nat) : Int)), (0, vR c), (1, vI x)]) ?_ ?_
          · rfl
          exact ih (j + 1) (by omega) (fun i h1 hn => by
            by_cases c9 : i = j
            · subst c9
              omega
            · exact hi i (by omega) hn)
        · refine x_aload_n (pc := 16) dX6_isZero_16 rfl rfl ?_
          refine x_getrM (pc := 17) (b := (c + 3)) fX6_20 dX6_isZero_17 hk.1 rfl r0 rfl ?_
          refine x_iload_n (pc := 20) dX6_isZero_20 rfl rfl ?_
          refine x_iald (pc := 21) dX6_isZero_21 hco.1 (by omega) (by omega) (fun r21a r21b => ?_)
          rw [e7, e9]
          refine x_if_eq (pc := 22) (t := 27) dX6_isZero_22 (by decide) ⟨by omega, by omega⟩ (fun c22 => ?_) (fun c22 => ?_)
          · refine x_iinc (pc := 27) dX6_isZero_27 rfl (by decide) (L' := [(2, _), (0, _), (1, _)]) rfl ?_
            refine x_goto (pc := 30) (t := 2) dX6_isZero_30 (by decide) ?_
            refine X.loc [0, 1, 2] (L' := [(2, _), (0, _), (1, _)]) rfl ?_
            refine X.loc [0, 1, 2] (L' := [(2, vI ((j + 1 : Nat) : Int)), (0, vR c), (1, vI x)]) ?_ ?_
            · rfl
            exact ih (j + 1) (by omega) (fun i h1 hn => by
              by_cases c9 : i = j
              · subst c9
                omega
              · exact hi i (by omega) hn)
          · refine x_iconst (pc := 25) dX6_isZero_25 ?_
            refine x_zret (pc := 26) dX6_isZero_26 rfl ⟨by omega, by omega⟩ (by decide) (by decide) ?_
            refine k _ (Or.inr ⟨rfl, fun h => ?_⟩)
            exact absurd (h j (by omega) (by omega)) (by omega)
  refine x_iconst (pc := 0) dX6_isZero_0 ?_
  refine x_istore_n (pc := 1) dX6_isZero_1 rfl (by decide) (L' := [(2, _), (0, _), (1, _)]) rfl ?_
  refine X.loc [0, 1, 2] (L' := [(2, _), (0, _), (1, _)]) rfl ?_
  exact loop pw 0 (by omega) (fun i hi => absurd hi (by omega))
def WhyR (pw : Nat) (S P La : Nat → Int) (tn : Nat) (ov x : Int) (p : Nat) (z : Int) : Prop := (ov = 1 ∧ z = 1) ∨ (ov = 0 ∧ barQ S La tn p ∧ z = 6) ∨ (ov = 0 ∧ ¬ barQ S La tn p ∧ (P p + x < -30 ∨ 30 < P p + x) ∧ z = 7) ∨ (ov = 0 ∧ ¬ barQ S La tn p ∧ (-30 ≤ P p + x ∧ P p + x ≤ 30) ∧ (P p + x = 0 ∧ zerQ pw P (p : Nat)) ∧ z = 8) ∨ (ov = 0 ∧ ¬ barQ S La tn p ∧ (-30 ≤ P p + x ∧ P p + x ≤ 30) ∧ ¬ (P p + x = 0 ∧ zerQ pw P (p : Nat)) ∧ z = 0)
set_option maxRecDepth 100000 in
theorem sp_X6_whyLay {g : GG} {lay : Lay} {M : Mem} {K : KK} {c pw : Nat} {S P La : Nat → Int} {tn : Nat} {hp hc ov bt : Int} {x : Int} {p : Nat} (hQ : LcQ g lay M c pw S P La tn hp hc ov bt) (hW : LcW pw S P La tn hp hc ov bt) (hp9 : p < pw) (hx : -9 ≤ x ∧ x ≤ 9) (k : ∀ z : Int, WhyR pw S P La tn ov x p z → K (.inl (some (vI z))) lay M) : X g m_X6_whyLay 0 0 lay M 0 [(0, vR c), (1, vI x), (2, vI (p : Nat))] [] K := by
  obtain ⟨⟨hk, hco, hla, wc⟩, ⟨r0, r1, r2⟩, vP, vL, vS, q9, q10, q11, q12, q13⟩ := id hQ
  obtain ⟨w1, ⟨-, s1, s2, s3, s4, s5, s6⟩, wP, wL, w2, w3, w4, w5, w6⟩ := id hW
  obtain ⟨y3, y4, y5, y6, y7, y8⟩ := S1 vS
  have e9 := vP p hp9
  have e8 := wP p
  have e7 : ((p : Nat) : Int).toNat = p := Int.toNat_natCast p
  obtain ⟨bb, hbb, hb2⟩ : ∃ bb : Int, bb = (if 0 ≤ La p ∧ (S 1 = 0 ∨ (tn : Int) - La p ≤ S 1) then 1 else 0) ∧ (bb = 1 ∧ barQ S La tn p ∨ bb = 0 ∧ ¬ barQ S La tn p) := ⟨_, rfl, by
    unfold barQ
    split
    · exact Or.inl ⟨rfl, by assumption⟩
    · exact Or.inr ⟨rfl, by assumption⟩⟩
  refine x_aload_n (pc := 0) dX6_whyLay_0 rfl rfl ?_
  refine x_getz (pc := 1) fX6_52 dX6_whyLay_1 hk.1 rfl (fun r1a r1b => ?_)
  refine x_if_eq (pc := 4) (t := 11) dX6_whyLay_4 (by decide) ⟨by omega, by omega⟩ (fun c4 => ?_) (fun c4 => ?_)
  · refine x_aload_n (pc := 11) dX6_whyLay_11 rfl rfl ?_
    refine x_iload_n (pc := 12) dX6_whyLay_12 rfl rfl ?_
    refine x_callV (pc := 13) [_] rfl kX6_56 dX6_whyLay_13 hk.1 rfl rfl (by decide) (Nat.le_of_ble_eq_true rfl) (Nat.le_of_ble_eq_true rfl) (by decide) ?_
    refine sp_X6_isBarred hQ hW hp9 ?_
    rw [← hbb]
    refine ⟨_, rfl, ?_⟩
    refine x_if_eq (pc := 16) (t := 24) dX6_whyLay_16 (by decide) ⟨by omega, by omega⟩ (fun c16 => ?_) (fun c16 => ?_)
    · refine x_aload_n (pc := 24) dX6_whyLay_24 rfl rfl ?_
      refine x_getrM (pc := 25) (b := (c + 3)) fX6_20 dX6_whyLay_25 hk.1 rfl r0 rfl ?_
      refine x_iload_n (pc := 28) dX6_whyLay_28 rfl rfl ?_
      refine x_iald (pc := 29) dX6_whyLay_29 hco.1 (by omega) (by omega) (fun r29a r29b => ?_)
      rw [e7, e9]
      refine x_iload_n (pc := 30) dX6_whyLay_30 rfl rfl ?_
      refine x_iadd (pc := 31) dX6_whyLay_31 ?_
      refine x_mabs (pc := 32) kmX6_60 dX6_whyLay_32 ⟨by omega, by omega⟩ (Nat.le_of_ble_eq_true rfl) (by decide) (by decide) (by decide) ?_
      obtain ⟨y9, hy9, e5, e6⟩ : ∃ y9, y9 = (if 0 ≤ (P p + x) then P p + x else 0 - (P p + x)) ∧ (y9 ≤ 30 ↔ (-30 ≤ P p + x ∧ P p + x ≤ 30)) ∧ (0 ≤ y9 ∧ y9 ≤ 100) := ⟨_, rfl, by split <;> omega, by split <;> omega⟩
      rw [← hy9]
      refine x_bipush (pc := 35) dX6_whyLay_35 (by decide) ?_
      refine x_icmp_le (pc := 37) (t := 45) dX6_whyLay_37 (by decide) ⟨by omega, by omega⟩ ⟨by omega, by omega⟩ (fun c37 => ?_) (fun c37 => ?_)
      · refine x_aload_n (pc := 45) dX6_whyLay_45 rfl rfl ?_
        refine x_getrM (pc := 46) (b := (c + 3)) fX6_20 dX6_whyLay_46 hk.1 rfl r0 rfl ?_
        refine x_iload_n (pc := 49) dX6_whyLay_49 rfl rfl ?_
        refine x_iald (pc := 50) dX6_whyLay_50 hco.1 (by omega) (by omega) (fun r50a r50b => ?_)
        rw [e7, e9]
        refine x_iload_n (pc := 51) dX6_whyLay_51 rfl rfl ?_
        refine x_iadd (pc := 52) dX6_whyLay_52 ?_
        refine x_if_ne (pc := 53) (t := 69) dX6_whyLay_53 (by decide) ⟨by omega, by omega⟩ (fun c53 => ?_) (fun c53 => ?_)
        · refine x_iconst (pc := 69) dX6_whyLay_69 ?_
          refine x_iret (pc := 70) dX6_whyLay_70 rfl (by decide) (by decide) ?_
          first
          | exact k _ (Or.inl ⟨by omega, rfl⟩)
          | exact k _ (Or.inr (Or.inl ⟨by omega, (hb2.resolve_right (fun h => by omega)).2, rfl⟩))
          | exact k _ (Or.inr (Or.inr (Or.inl ⟨by omega, (hb2.resolve_left (fun h => by omega)).2, by omega, rfl⟩)))
          | exact k _ (Or.inr (Or.inr (Or.inr (Or.inl ⟨by omega, (hb2.resolve_left (fun h => by omega)).2, by omega, ⟨by omega, (hz9.resolve_right (fun h => by omega)).2⟩, rfl⟩))))
          | exact k _ (Or.inr (Or.inr (Or.inr (Or.inr ⟨by omega, (hb2.resolve_left (fun h => by omega)).2, by omega, fun h => (hz9.resolve_left (fun h => by omega)).2 h.2, rfl⟩))))
          | exact k _ (Or.inr (Or.inr (Or.inr (Or.inr ⟨by omega, (hb2.resolve_left (fun h => by omega)).2, by omega, fun h => by omega, rfl⟩))))
        · refine x_aload_n (pc := 56) dX6_whyLay_56 rfl rfl ?_
          refine x_iload_n (pc := 57) dX6_whyLay_57 rfl rfl ?_
          refine x_callV (pc := 58) [_] rfl kX6_66 dX6_whyLay_58 hk.1 rfl rfl (by decide) (Nat.le_of_ble_eq_true rfl) (Nat.le_of_ble_eq_true rfl) (by decide) ?_
          refine sp_X6_isZero hQ hW ⟨by omega, by omega⟩ (fun z9 hz9 => ?_)
          refine ⟨_, rfl, ?_⟩
          refine x_if_eq (pc := 61) (t := 69) dX6_whyLay_61 (by decide) ⟨by omega, by omega⟩ (fun c61 => ?_) (fun c61 => ?_)
          · refine x_iconst (pc := 69) dX6_whyLay_69 ?_
            refine x_iret (pc := 70) dX6_whyLay_70 rfl (by decide) (by decide) ?_
            first
            | exact k _ (Or.inl ⟨by omega, rfl⟩)
            | exact k _ (Or.inr (Or.inl ⟨by omega, (hb2.resolve_right (fun h => by omega)).2, rfl⟩))
            | exact k _ (Or.inr (Or.inr (Or.inl ⟨by omega, (hb2.resolve_left (fun h => by omega)).2, by omega, rfl⟩)))
            | exact k _ (Or.inr (Or.inr (Or.inr (Or.inl ⟨by omega, (hb2.resolve_left (fun h => by omega)).2, by omega, ⟨by omega, (hz9.resolve_right (fun h => by omega)).2⟩, rfl⟩))))
            | exact k _ (Or.inr (Or.inr (Or.inr (Or.inr ⟨by omega, (hb2.resolve_left (fun h => by omega)).2, by omega, fun h => (hz9.resolve_left (fun h => by omega)).2 h.2, rfl⟩))))
            | exact k _ (Or.inr (Or.inr (Or.inr (Or.inr ⟨by omega, (hb2.resolve_left (fun h => by omega)).2, by omega, fun h => by omega, rfl⟩))))
          · refine x_bipush (pc := 64) dX6_whyLay_64 (by decide) ?_
            refine x_goto (pc := 66) (t := 70) dX6_whyLay_66 (by decide) ?_
            refine x_iret (pc := 70) dX6_whyLay_70 rfl (by decide) (by decide) ?_
            first
            | exact k _ (Or.inl ⟨by omega, rfl⟩)
            | exact k _ (Or.inr (Or.inl ⟨by omega, (hb2.resolve_right (fun h => by omega)).2, rfl⟩))
            | exact k _ (Or.inr (Or.inr (Or.inl ⟨by omega, (hb2.resolve_left (fun h => by omega)).2, by omega, rfl⟩)))
            | exact k _ (Or.inr (Or.inr (Or.inr (Or.inl ⟨by omega, (hb2.resolve_left (fun h => by omega)).2, by omega, ⟨by omega, (hz9.resolve_right (fun h => by omega)).2⟩, rfl⟩))))
            | exact k _ (Or.inr (Or.inr (Or.inr (Or.inr ⟨by omega, (hb2.resolve_left (fun h => by omega)).2, by omega, fun h => (hz9.resolve_left (fun h => by omega)).2 h.2, rfl⟩))))
            | exact k _ (Or.inr (Or.inr (Or.inr (Or.inr ⟨by omega, (hb2.resolve_left (fun h => by omega)).2, by omega, fun h => by omega, rfl⟩))))
      · refine x_bipush (pc := 40) dX6_whyLay_40 (by decide) ?_
        refine x_goto (pc := 42) (t := 70) dX6_whyLay_42 (by decide) ?_
        refine x_iret (pc := 70) dX6_whyLay_70 rfl (by decide) (by decide) ?_
        first
        | exact k _ (Or.inl ⟨by omega, rfl⟩)
        | exact k _ (Or.inr (Or.inl ⟨by omega, (hb2.resolve_right (fun h => by omega)).2, rfl⟩))
        | exact k _ (Or.inr (Or.inr (Or.inl ⟨by omega, (hb2.resolve_left (fun h => by omega)).2, by omega, rfl⟩)))
        | exact k _ (Or.inr (Or.inr (Or.inr (Or.inl ⟨by omega, (hb2.resolve_left (fun h => by omega)).2, by omega, ⟨by omega, (hz9.resolve_right (fun h => by omega)).2⟩, rfl⟩))))
        | exact k _ (Or.inr (Or.inr (Or.inr (Or.inr ⟨by omega, (hb2.resolve_left (fun h => by omega)).2, by omega, fun h => (hz9.resolve_left (fun h => by omega)).2 h.2, rfl⟩))))
        | exact k _ (Or.inr (Or.inr (Or.inr (Or.inr ⟨by omega, (hb2.resolve_left (fun h => by omega)).2, by omega, fun h => by omega, rfl⟩))))
    · refine x_bipush (pc := 19) dX6_whyLay_19 (by decide) ?_
      refine x_goto (pc := 21) (t := 70) dX6_whyLay_21 (by decide) ?_
      refine x_iret (pc := 70) dX6_whyLay_70 rfl (by decide) (by decide) ?_
      first
      | exact k _ (Or.inl ⟨by omega, rfl⟩)
      | exact k _ (Or.inr (Or.inl ⟨by omega, (hb2.resolve_right (fun h => by omega)).2, rfl⟩))
      | exact k _ (Or.inr (Or.inr (Or.inl ⟨by omega, (hb2.resolve_left (fun h => by omega)).2, by omega, rfl⟩)))
      | exact k _ (Or.inr (Or.inr (Or.inr (Or.inl ⟨by omega, (hb2.resolve_left (fun h => by omega)).2, by omega, ⟨by omega, (hz9.resolve_right (fun h => by omega)).2⟩, rfl⟩))))
      | exact k _ (Or.inr (Or.inr (Or.inr (Or.inr ⟨by omega, (hb2.resolve_left (fun h => by omega)).2, by omega, fun h => (hz9.resolve_left (fun h => by omega)).2 h.2, rfl⟩))))
      | exact k _ (Or.inr (Or.inr (Or.inr (Or.inr ⟨by omega, (hb2.resolve_left (fun h => by omega)).2, by omega, fun h => by omega, rfl⟩))))
  · refine x_iconst (pc := 7) dX6_whyLay_7 ?_
    refine x_goto (pc := 8) (t := 70) dX6_whyLay_8 (by decide) ?_
    refine x_iret (pc := 70) dX6_whyLay_70 rfl (by decide) (by decide) ?_
    first
    | exact k _ (Or.inl ⟨by omega, rfl⟩)
    | exact k _ (Or.inr (Or.inl ⟨by omega, (hb2.resolve_right (fun h => by omega)).2, rfl⟩))
    | exact k _ (Or.inr (Or.inr (Or.inl ⟨by omega, (hb2.resolve_left (fun h => by omega)).2, by omega, rfl⟩)))
    | exact k _ (Or.inr (Or.inr (Or.inr (Or.inl ⟨by omega, (hb2.resolve_left (fun h => by omega)).2, by omega, ⟨by omega, (hz9.resolve_right (fun h => by omega)).2⟩, rfl⟩))))
    | exact k _ (Or.inr (Or.inr (Or.inr (Or.inr ⟨by omega, (hb2.resolve_left (fun h => by omega)).2, by omega, fun h => (hz9.resolve_left (fun h => by omega)).2 h.2, rfl⟩))))
    | exact k _ (Or.inr (Or.inr (Or.inr (Or.inr ⟨by omega, (hb2.resolve_left (fun h => by omega)).2, by omega, fun h => by omega, rfl⟩))))
set_option maxRecDepth 100000 in
theorem sp_X6_value {g : GG} {lay : Lay} {M : Mem} {K : KK} {c pw : Nat} {S P La : Nat → Int} {tn : Nat} {hp hc ov bt x : Int} (hQ : LcQ g lay M c pw S P La tn hp hc ov bt) (hW : LcW pw S P La tn hp hc ov bt) (hx : i32 x) (k : K (.inl (some (vJ (valS P x pw)))) lay M) : X g m_X6_value 0 0 lay M 0 [(0, vR c), (1, vI x)] [] K := by
  obtain ⟨⟨hk, hco, hla, wc⟩, ⟨r0, r1, r2⟩, vP, vL, vS, q9, q10, q11, q12, q13⟩ := id hQ
  obtain ⟨w1, ⟨-, s1, s2, s3, s4, s5, s6⟩, wP, wL, w2, w3, w4, w5, w6⟩ := id hW
  obtain ⟨y3, y4, y5, y6, y7, y8⟩ := S1 vS
  have loop : ∀ d j : Nat, j + d = pw → X g m_X6_value 0 0 lay M 8 [(6, vI (j : Nat)), (4, vJ (pwI x j)), (2, vJ (valS P x j)), (0, vR c), (1, vI x)] [] K := by
    intro d
    induction d with
    | zero =>
      intro j hj
      have e6 : j = pw := by omega
      subst e6
      refine x_iload (pc := 8) dX6_value_8 rfl ?_
      refine x_aload_n (pc := 10) dX6_value_10 rfl rfl ?_
      refine x_getrM (pc := 11) (b := (c + 3)) fX6_20 dX6_value_11 hk.1 rfl r0 rfl ?_
      refine x_alen (pc := 14) dX6_value_14 hco.1 (fun r14a => ?_)
      refine x_icmp_ge (pc := 15) (t := 45) dX6_value_15 (by decide) ⟨by omega, by omega⟩ ⟨by omega, by omega⟩ (fun c15 => ?_) (fun c15 => ?_)
      · refine x_lload_n (pc := 45) dX6_value_45 rfl rfl ?_
        refine x_lret (pc := 46) dX6_value_46 rfl (by decide) (by decide) ?_
        exact k
      · exfalso; omega
    | succ d ih =>
      intro j hj
      have e9 := vP j (by omega)
      have e8 := wP j
      have e7 : ((j : Nat) : Int).toNat = j := Int.toNat_natCast j
      refine x_iload (pc := 8) dX6_value_8 rfl ?_
      refine x_aload_n (pc := 10) dX6_value_10 rfl rfl ?_
      refine x_getrM (pc := 11) (b := (c + 3)) fX6_20 dX6_value_11 hk.1 rfl r0 rfl ?_
      refine x_alen (pc := 14) dX6_value_14 hco.1 (fun r14a => ?_)
      refine x_icmp_ge (pc := 15) (t := 45) dX6_value_15 (by decide) ⟨by omega, by omega⟩ ⟨by omega, by omega⟩ (fun c15 => ?_) (fun c15 => ?_)
      · exfalso; omega
      · refine x_lload_n (pc := 18) dX6_value_18 rfl rfl ?_
        refine x_aload_n (pc := 19) dX6_value_19 rfl rfl ?_
        refine x_getrM (pc := 20) (b := (c + 3)) fX6_20 dX6_value_20 hk.1 rfl r0 rfl ?_
        refine x_iload (pc := 23) dX6_value_23 rfl ?_
        refine x_iald (pc := 25) dX6_value_25 hco.1 (by omega) (by omega) (fun r25a r25b => ?_)
        rw [e7, e9]
        refine x_i2l (pc := 26) ⟨by omega, by omega⟩ dX6_value_26 ?_
        refine x_lload (pc := 27) dX6_value_27 rfl ?_
        refine x_lmul (pc := 29) dX6_value_29 ?_
        refine x_ladd (pc := 30) dX6_value_30 ?_
        refine x_lstore_n (pc := 31) dX6_value_31 rfl (by decide) (L' := [(2, _), (6, _), (4, _), (0, _), (1, _)]) rfl ?_
        refine x_lload (pc := 32) dX6_value_32 rfl ?_
        refine x_iload_n (pc := 34) dX6_value_34 rfl rfl ?_
        refine x_i2l (pc := 35) ⟨by omega, by omega⟩ dX6_value_35 ?_
        refine x_lmul (pc := 36) dX6_value_36 ?_
        refine x_lstore (pc := 37) dX6_value_37 trivial (by decide) (L' := [(4, _), (2, _), (6, _), (0, _), (1, _)]) rfl ?_
        refine x_iinc (pc := 39) dX6_value_39 rfl (by decide) (L' := [(6, _), (4, _), (2, _), (0, _), (1, _)]) rfl ?_
        refine x_goto (pc := 42) (t := 8) dX6_value_42 (by decide) ?_
        refine X.loc [0, 1, 2, 3, 4] (L' := [(6, _), (4, _), (2, _), (0, _), (1, _)]) rfl ?_
        exact ih (j + 1) (by omega)
  refine x_lconst (pc := 0) (x := 0) dX6_value_0 (by decide) ?_
  refine x_lstore_n (pc := 1) dX6_value_1 rfl (by decide) (L' := [(2, _), (0, _), (1, _)]) rfl ?_
  refine x_lconst (pc := 2) (x := 1) dX6_value_2 (by decide) ?_
  refine x_lstore (pc := 3) dX6_value_3 trivial (by decide) (L' := [(4, _), (2, _), (0, _), (1, _)]) rfl ?_
  refine x_iconst (pc := 5) dX6_value_5 ?_
  refine x_istore (pc := 6) dX6_value_6 trivial (by decide) (L' := [(6, _), (4, _), (2, _), (0, _), (1, _)]) rfl ?_
  refine X.loc [0, 1, 2, 3, 4] (L' := [(6, _), (4, _), (2, _), (0, _), (1, _)]) rfl ?_
  exact loop pw 0 (by omega)
set_option maxRecDepth 100000 in
theorem sp_X6_ends {g : GG} {lay : Lay} {M : Mem} {K : KK} {c pw : Nat} {S P La : Nat → Int} {tn : Nat} {hp hc ov bt : Int} {ip : Int} (hQ : LcQ g lay M c pw S P La tn hp hc ov bt) (hW : LcW pw S P La tn hp hc ov bt) (hip : 0 ≤ ip ∧ ip ≤ 1) (htn : tn + 1 ≤ 60) (k : ∀ M2 z, (∀ y i, y ≠ c → M2 y i = M y i) → (z = 1 ∧ ((tn : Int) + 1 = S 2 ∨ (ip = 1 ∧ hp = 1) ∨ allQ pw S La (tn + 1)) ∨ z = 0 ∧ ¬ ((tn : Int) + 1 = S 2 ∨ (ip = 1 ∧ hp = 1) ∨ allQ pw S La (tn + 1))) → LcQ g lay M2 c pw S P La (tn + 1) ip 0 z bt → K (.inl none) lay M2) : X g m_X6_ends 0 0 lay M 0 [(0, vR c), (1, vI ip)] [] K := by
  obtain ⟨⟨hk, hco, hla, wc⟩, ⟨r0, r1, r2⟩, vP, vL, vS, q9, q10, q11, q12, q13⟩ := id hQ
  obtain ⟨w1, ⟨-, s1, s2, s3, s4, s5, s6⟩, wP, wL, w2, w3, w4, w5, w6⟩ := id hW
  obtain ⟨y3, y4, y5, y6, y7, y8⟩ := S1 vS
  have fin : ∀ (M2 : Mem) (o1 a1 : Int), (∀ y i, y ≠ c → M2 y i = M y i) → LcQ g lay M2 c pw S P La (tn + 1) ip 0 o1 bt → (o1 = 1 ∧ ((tn : Int) + 1 = S 2 ∨ (ip = 1 ∧ hp = 1)) ∨ o1 = 0 ∧ ¬ ((tn : Int) + 1 = S 2 ∨ (ip = 1 ∧ hp = 1))) → (a1 = 1 ∧ allQ pw S La (tn + 1) ∨ a1 = 0 ∧ ¬ allQ pw S La (tn + 1)) → X g m_X6_ends 0 0 lay M2 80 [(2, vI a1), (0, vR c)] [] K := by
    intro M2 o1 a1 p1 hQ2 h1 h2
    obtain ⟨⟨hk, hco, hla, wc⟩, ⟨r0, r1, r2⟩, vP, vL, vS, q9, q10, q11, q12, q13⟩ := id hQ2
    refine x_aload_n (pc := 80) dX6_ends_80 rfl rfl ?_
    refine x_dup (pc := 81) dX6_ends_81 rfl ?_
    refine x_getz (pc := 82) fX6_52 dX6_ends_82 hk.1 rfl (fun r82a r82b => ?_)
    refine x_iload_n (pc := 85) dX6_ends_85 rfl rfl ?_
    rw [q12]
    refine x_iorz (pc := 86) ⟨by omega, by omega⟩ ⟨by omega, by omega⟩ dX6_ends_86 ?_
    refine x_putz (pc := 87) fnX6_52 dX6_ends_87 hk.1 wc rfl ⟨by omega, by omega⟩ ?_
    refine x_vret (pc := 90) dX6_ends_90 rfl (by decide) (by decide) ?_
    refine k _ (if o1 = 1 ∨ a1 = 1 then 1 else 0) (fun y i hy => (mset_nea hy).trans (p1 y i hy)) ?_ ⟨⟨hk, hco, hla, wc⟩, ⟨(mset_nei (by omega)).trans r0, (mset_nei (by omega)).trans r1, (mset_nei (by omega)).trans r2⟩, fun p hp9 => (mset_nea (by omega)).trans (vP p hp9), fun p hp9 => (mset_nea (by omega)).trans (vL p hp9), fun i hi => (mset_nei (by omega)).trans (vS i hi), (mset_nei (by omega)).trans q9, (mset_nei (by omega)).trans q10, (mset_nei (by omega)).trans q11, mset_same, (mset_nei (by omega)).trans q13⟩
    by_cases c8 : o1 = 1 ∨ a1 = 1
    · rw [if_pos c8]
      refine Or.inl ⟨rfl, ?_⟩
      rcases c8 with c8 | c8
      · rcases (h1.resolve_right (fun h => by omega)).2 with h | h
        · exact Or.inl h
        · exact Or.inr (Or.inl h)
      · exact Or.inr (Or.inr (h2.resolve_right (fun h => by omega)).2)
    · rw [if_neg c8]
      refine Or.inr ⟨rfl, fun h => ?_⟩
      rcases h with h | h | h
      · exact (h1.resolve_left (fun h => by omega)).2 (Or.inl h)
      · exact (h1.resolve_left (fun h => by omega)).2 (Or.inr h)
      · exact (h2.resolve_left (fun h => by omega)).2 h
  have mid : ∀ (M2 : Mem) (o1 : Int), (∀ y i, y ≠ c → M2 y i = M y i) → LcQ g lay M2 c pw S P La (tn + 1) ip 0 o1 bt → (o1 = 1 ∧ ((tn : Int) + 1 = S 2 ∨ (ip = 1 ∧ hp = 1)) ∨ o1 = 0 ∧ ¬ ((tn : Int) + 1 = S 2 ∨ (ip = 1 ∧ hp = 1))) → X g m_X6_ends 0 0 lay M2 53 [(0, vR c), (1, vI ip)] [] K := by
    intro M2 o1 p1 hQ2 h1
    have hW2 : LcW pw S P La (tn + 1) ip 0 o1 bt := ⟨w1, hW.2.1, wP, wL, htn, hip, ⟨by decide, by decide⟩, by omega, w6⟩
    obtain ⟨⟨hk, hco, hla, wc⟩, ⟨r0, r1, r2⟩, vP, vL, vS, q9, q10, q11, q12, q13⟩ := id hQ2
    have loop : ∀ d j : Nat, j + d = pw → ∀ a1 : Int, (a1 = 1 ∧ (∀ i, i < j → barQ S La (tn + 1) i) ∨ a1 = 0 ∧ ¬ ∀ i, i < j → barQ S La (tn + 1) i) → X g m_X6_ends 0 0 lay M2 57 [(3, vI (j : Nat)), (2, vI a1), (0, vR c)] [] K := by
      intro d
      induction d with
      | zero =>
        intro j hj a1 ha
        have e6 : j = pw := by omega
        subst e6
        refine x_iload_n (pc := 57) dX6_ends_57 rfl rfl ?_
        refine x_aload_n (pc := 58) dX6_ends_58 rfl rfl ?_
        refine x_getrM (pc := 59) (b := (c + 3)) fX6_20 dX6_ends_59 hk.1 rfl r0 rfl ?_
        refine x_alen (pc := 62) dX6_ends_62 hco.1 (fun r62a => ?_)
        refine x_icmp_ge (pc := 63) (t := 80) dX6_ends_63 (by decide) ⟨by omega, by omega⟩ ⟨by omega, by omega⟩ (fun c63 => ?_) (fun c63 => ?_)
        · refine X.loc [1, 2] (L' := [(2, _), (0, _)]) rfl ?_
          exact fin M2 o1 a1 p1 hQ2 h1 ha
        · exfalso; omega
      | succ d ih =>
        intro j hj a1 ha
        obtain ⟨bb, hbb, hb2⟩ : ∃ bb : Int, bb = (if 0 ≤ La j ∧ (S 1 = 0 ∨ (((tn + 1 : Nat) : Nat) : Int) - La j ≤ S 1) then 1 else 0) ∧ (bb = 1 ∧ barQ S La (tn + 1) j ∨ bb = 0 ∧ ¬ barQ S La (tn + 1) j) := ⟨_, rfl, by
          unfold barQ
          split
          · exact Or.inl ⟨rfl, by assumption⟩
          · exact Or.inr ⟨rfl, by assumption⟩⟩
        refine x_iload_n (pc := 57) dX6_ends_57 rfl rfl ?_
        refine x_aload_n (pc := 58) dX6_ends_58 rfl rfl ?_
        refine x_getrM (pc := 59) (b := (c + 3)) fX6_20 dX6_ends_59 hk.1 rfl r0 rfl ?_
        refine x_alen (pc := 62) dX6_ends_62 hco.1 (fun r62a => ?_)
        refine x_icmp_ge (pc := 63) (t := 80) dX6_ends_63 (by decide) ⟨by omega, by omega⟩ ⟨by omega, by omega⟩ (fun c63 => ?_) (fun c63 => ?_)
        · exfalso; omega
        · refine x_iload_n (pc := 66) dX6_ends_66 rfl rfl ?_
          refine x_aload_n (pc := 67) dX6_ends_67 rfl rfl ?_
          refine x_iload_n (pc := 68) dX6_ends_68 rfl rfl ?_
          refine x_callV (pc := 69) [_] rfl kX6_56 dX6_ends_69 hk.1 rfl rfl (by decide) (Nat.le_of_ble_eq_true rfl) (Nat.le_of_ble_eq_true rfl) (by decide) ?_
          refine sp_X6_isBarred hQ2 hW2 (by omega) ?_
          rw [← hbb]
          refine ⟨_, rfl, ?_⟩
          refine x_iandz (pc := 72) ⟨by omega, by omega⟩ ⟨by omega, by omega⟩ dX6_ends_72 ?_
          refine x_istore_n (pc := 73) dX6_ends_73 rfl (by decide) (L' := [(2, _), (3, _), (0, _)]) rfl ?_
          refine x_iinc (pc := 74) dX6_ends_74 rfl (by decide) (L' := [(3, _), (2, _), (0, _)]) rfl ?_
          refine x_goto (pc := 77) (t := 57) dX6_ends_77 (by decide) ?_
          refine X.loc [0, 1, 2] (L' := [(3, _), (2, _), (0, _)]) rfl ?_
          refine ih (j + 1) (by omega) _ ?_
          by_cases c8 : a1 = 1 ∧ bb = 1
          · rw [if_pos c8]
            refine Or.inl ⟨rfl, fun i hi => ?_⟩
            by_cases c9 : i = j
            · subst c9
              exact (hb2.resolve_right (fun h => by omega)).2
            · exact (ha.resolve_right (fun h => by omega)).2 i (by omega)
          · rw [if_neg c8]
            refine Or.inr ⟨rfl, fun h => ?_⟩
            rcases ha with h3 | h3
            · rcases hb2 with h4 | h4
              · exact c8 ⟨h3.1, h4.1⟩
              · exact h4.2 (h j (by omega))
            · exact h3.2 (fun i hi => h i (by omega))
    refine x_iconst (pc := 53) dX6_ends_53 ?_
    refine x_istore_n (pc := 54) dX6_ends_54 rfl (by decide) (L' := [(2, _), (0, _), (1, _)]) rfl ?_
    refine x_iconst (pc := 55) dX6_ends_55 ?_
    refine x_istore_n (pc := 56) dX6_ends_56 rfl (by decide) (L' := [(3, _), (2, _), (0, _), (1, _)]) rfl ?_
    refine X.loc [0, 1, 2] (L' := [(3, _), (2, _), (0, _)]) rfl ?_
    exact loop pw 0 (by omega) 1 (Or.inl ⟨rfl, fun i hi => absurd hi (by omega)⟩)
  refine x_aload_n (pc := 0) dX6_ends_0 rfl rfl ?_
  refine x_aload_n (pc := 1) dX6_ends_1 rfl rfl ?_
  refine x_geti (pc := 2) fX6_49 dX6_ends_2 hk.1 rfl (fun r2a r2b => ?_)
  refine x_iconst (pc := 5) dX6_ends_5 ?_
  refine x_iadd (pc := 6) dX6_ends_6 ?_
  refine x_aload_n (pc := 7) dX6_ends_7 rfl rfl ?_
  refine x_geti (pc := 8) fX6_30 dX6_ends_8 hk.1 rfl (fun r8a r8b => ?_)
  refine x_icmp_eq (pc := 11) (t := 25) dX6_ends_11 (by decide) ⟨by omega, by omega⟩ ⟨by omega, by omega⟩ (fun c11 => ?_) (fun c11 => ?_)
  · refine x_iconst (pc := 25) dX6_ends_25 ?_
    refine x_goto (pc := 26) (t := 30) dX6_ends_26 (by decide) ?_
    refine x_putz (pc := 30) fnX6_52 dX6_ends_30 hk.1 wc rfl ⟨by omega, by omega⟩ ?_
    refine x_aload_n (pc := 33) dX6_ends_33 rfl rfl ?_
    refine x_dup (pc := 34) dX6_ends_34 rfl ?_
    refine x_geti (pc := 35) fX6_49 dX6_ends_35 hk.1 rfl (fun r35a r35b => ?_)
    try simp (disch := omega) only [mset_same, mset_nea, mset_nei, mcopy_nea, mcopy_in, mcopy_out, Int.reduceToNat, Int.toNat_natCast, Nat.zero_add, Nat.sub_zero] at r35a r35b ⊢
    refine x_iconst (pc := 38) dX6_ends_38 ?_
    refine x_iadd (pc := 39) dX6_ends_39 ?_
    refine x_puti (pc := 40) fnX6_49 dX6_ends_40 hk.1 wc rfl ⟨by omega, by omega⟩ ?_
    refine x_aload_n (pc := 43) dX6_ends_43 rfl rfl ?_
    refine x_iload_n (pc := 44) dX6_ends_44 rfl rfl ?_
    refine x_putz (pc := 45) fnX6_115 dX6_ends_45 hk.1 wc rfl ⟨by omega, by omega⟩ ?_
    refine x_aload_n (pc := 48) dX6_ends_48 rfl rfl ?_
    refine x_iconst (pc := 49) dX6_ends_49 ?_
    refine x_putz (pc := 50) fnX6_109 dX6_ends_50 hk.1 wc rfl ⟨by omega, by omega⟩ ?_
    refine X.loc [0, 1] (L' := [(0, _), (1, _)]) rfl ?_
    refine mid _ _ (fun y i hy => ?_) ⟨⟨hk, hco, hla, wc⟩, ⟨?_, ?_, ?_⟩, fun p hp9 => ?_, fun p hp9 => ?_, fun i hi => ?_, ?_, ?_, ?_, rfl, ?_⟩ ?_
    · rw [mset_nea hy, mset_nea hy, mset_nea hy, mset_nea hy]
    · rw [mset_nei (by omega), mset_nei (by omega), mset_nei (by omega), mset_nei (by omega)]
      exact r0
    · rw [mset_nei (by omega), mset_nei (by omega), mset_nei (by omega), mset_nei (by omega)]
      exact r1
    · rw [mset_nei (by omega), mset_nei (by omega), mset_nei (by omega), mset_nei (by omega)]
      exact r2
    · rw [mset_nea (by omega), mset_nea (by omega), mset_nea (by omega), mset_nea (by omega)]
      exact vP p hp9
    · rw [mset_nea (by omega), mset_nea (by omega), mset_nea (by omega), mset_nea (by omega)]
      exact vL p hp9
    · rw [mset_nei (by omega), mset_nei (by omega), mset_nei (by omega), mset_nei (by omega)]
      exact vS i hi
    · rw [mset_nei (by omega), mset_nei (by omega), mset_same]
      omega
    · rw [mset_nei (by omega), mset_same]
    · rw [mset_same]
    · rw [mset_nei (by omega), mset_nei (by omega), mset_nei (by omega), mset_nei (by omega)]
      exact q13
    · first
      | exact Or.inl ⟨by simp (disch := omega) only [mset_same, mset_nei], by omega⟩
      | exact Or.inr ⟨by simp (disch := omega) only [mset_same, mset_nei], by omega⟩
  · refine x_iload_n (pc := 14) dX6_ends_14 rfl rfl ?_
    refine x_if_eq (pc := 15) (t := 29) dX6_ends_15 (by decide) ⟨by omega, by omega⟩ (fun c15 => ?_) (fun c15 => ?_)
    · refine x_iconst (pc := 29) dX6_ends_29 ?_
      refine x_putz (pc := 30) fnX6_52 dX6_ends_30 hk.1 wc rfl ⟨by omega, by omega⟩ ?_
      refine x_aload_n (pc := 33) dX6_ends_33 rfl rfl ?_
      refine x_dup (pc := 34) dX6_ends_34 rfl ?_
      refine x_geti (pc := 35) fX6_49 dX6_ends_35 hk.1 rfl (fun r35a r35b => ?_)
      try simp (disch := omega) only [mset_same, mset_nea, mset_nei, mcopy_nea, mcopy_in, mcopy_out, Int.reduceToNat, Int.toNat_natCast, Nat.zero_add, Nat.sub_zero] at r35a r35b ⊢
      refine x_iconst (pc := 38) dX6_ends_38 ?_
      refine x_iadd (pc := 39) dX6_ends_39 ?_
      refine x_puti (pc := 40) fnX6_49 dX6_ends_40 hk.1 wc rfl ⟨by omega, by omega⟩ ?_
      refine x_aload_n (pc := 43) dX6_ends_43 rfl rfl ?_
      refine x_iload_n (pc := 44) dX6_ends_44 rfl rfl ?_
      refine x_putz (pc := 45) fnX6_115 dX6_ends_45 hk.1 wc rfl ⟨by omega, by omega⟩ ?_
      refine x_aload_n (pc := 48) dX6_ends_48 rfl rfl ?_
      refine x_iconst (pc := 49) dX6_ends_49 ?_
      refine x_putz (pc := 50) fnX6_109 dX6_ends_50 hk.1 wc rfl ⟨by omega, by omega⟩ ?_
      refine X.loc [0, 1] (L' := [(0, _), (1, _)]) rfl ?_
      refine mid _ _ (fun y i hy => ?_) ⟨⟨hk, hco, hla, wc⟩, ⟨?_, ?_, ?_⟩, fun p hp9 => ?_, fun p hp9 => ?_, fun i hi => ?_, ?_, ?_, ?_, rfl, ?_⟩ ?_
      · rw [mset_nea hy, mset_nea hy, mset_nea hy, mset_nea hy]
      · rw [mset_nei (by omega), mset_nei (by omega), mset_nei (by omega), mset_nei (by omega)]
        exact r0
      · rw [mset_nei (by omega), mset_nei (by omega), mset_nei (by omega), mset_nei (by omega)]
        exact r1
      · rw [mset_nei (by omega), mset_nei (by omega), mset_nei (by omega), mset_nei (by omega)]
        exact r2
      · rw [mset_nea (by omega), mset_nea (by omega), mset_nea (by omega), mset_nea (by omega)]
        exact vP p hp9
      · rw [mset_nea (by omega), mset_nea (by omega), mset_nea (by omega), mset_nea (by omega)]
        exact vL p hp9
      · rw [mset_nei (by omega), mset_nei (by omega), mset_nei (by omega), mset_nei (by omega)]
        exact vS i hi
      · rw [mset_nei (by omega), mset_nei (by omega), mset_same]
        omega
      · rw [mset_nei (by omega), mset_same]
      · rw [mset_same]
      · rw [mset_nei (by omega), mset_nei (by omega), mset_nei (by omega), mset_nei (by omega)]
        exact q13
      · first
        | exact Or.inl ⟨by simp (disch := omega) only [mset_same, mset_nei], by omega⟩
        | exact Or.inr ⟨by simp (disch := omega) only [mset_same, mset_nei], by omega⟩
    · refine x_aload_n (pc := 18) dX6_ends_18 rfl rfl ?_
      refine x_getz (pc := 19) fX6_115 dX6_ends_19 hk.1 rfl (fun r19a r19b => ?_)
      refine x_if_eq (pc := 22) (t := 29) dX6_ends_22 (by decide) ⟨by omega, by omega⟩ (fun c22 => ?_) (fun c22 => ?_)
      · refine x_iconst (pc := 29) dX6_ends_29 ?_
        refine x_putz (pc := 30) fnX6_52 dX6_ends_30 hk.1 wc rfl ⟨by omega, by omega⟩ ?_
        refine x_aload_n (pc := 33) dX6_ends_33 rfl rfl ?_
        refine x_dup (pc := 34) dX6_ends_34 rfl ?_
        refine x_geti (pc := 35) fX6_49 dX6_ends_35 hk.1 rfl (fun r35a r35b => ?_)
        try simp (disch := omega) only [mset_same, mset_nea, mset_nei, mcopy_nea, mcopy_in, mcopy_out, Int.reduceToNat, Int.toNat_natCast, Nat.zero_add, Nat.sub_zero] at r35a r35b ⊢
        refine x_iconst (pc := 38) dX6_ends_38 ?_
        refine x_iadd (pc := 39) dX6_ends_39 ?_
        refine x_puti (pc := 40) fnX6_49 dX6_ends_40 hk.1 wc rfl ⟨by omega, by omega⟩ ?_
        refine x_aload_n (pc := 43) dX6_ends_43 rfl rfl ?_
        refine x_iload_n (pc := 44) dX6_ends_44 rfl rfl ?_
        refine x_putz (pc := 45) fnX6_115 dX6_ends_45 hk.1 wc rfl ⟨by omega, by omega⟩ ?_
        refine x_aload_n (pc := 48) dX6_ends_48 rfl rfl ?_
        refine x_iconst (pc := 49) dX6_ends_49 ?_
        refine x_putz (pc := 50) fnX6_109 dX6_ends_50 hk.1 wc rfl ⟨by omega, by omega⟩ ?_
        refine X.loc [0, 1] (L' := [(0, _), (1, _)]) rfl ?_
        refine mid _ _ (fun y i hy => ?_) ⟨⟨hk, hco, hla, wc⟩, ⟨?_, ?_, ?_⟩, fun p hp9 => ?_, fun p hp9 => ?_, fun i hi => ?_, ?_, ?_, ?_, rfl, ?_⟩ ?_
        · rw [mset_nea hy, mset_nea hy, mset_nea hy, mset_nea hy]
        · rw [mset_nei (by omega), mset_nei (by omega), mset_nei (by omega), mset_nei (by omega)]
          exact r0
        · rw [mset_nei (by omega), mset_nei (by omega), mset_nei (by omega), mset_nei (by omega)]
          exact r1
        · rw [mset_nei (by omega), mset_nei (by omega), mset_nei (by omega), mset_nei (by omega)]
          exact r2
        · rw [mset_nea (by omega), mset_nea (by omega), mset_nea (by omega), mset_nea (by omega)]
          exact vP p hp9
        · rw [mset_nea (by omega), mset_nea (by omega), mset_nea (by omega), mset_nea (by omega)]
          exact vL p hp9
        · rw [mset_nei (by omega), mset_nei (by omega), mset_nei (by omega), mset_nei (by omega)]
          exact vS i hi
        · rw [mset_nei (by omega), mset_nei (by omega), mset_same]
          omega
        · rw [mset_nei (by omega), mset_same]
        · rw [mset_same]
        · rw [mset_nei (by omega), mset_nei (by omega), mset_nei (by omega), mset_nei (by omega)]
          exact q13
        · first
          | exact Or.inl ⟨by simp (disch := omega) only [mset_same, mset_nei], by omega⟩
          | exact Or.inr ⟨by simp (disch := omega) only [mset_same, mset_nei], by omega⟩
      · refine x_iconst (pc := 25) dX6_ends_25 ?_
        refine x_goto (pc := 26) (t := 30) dX6_ends_26 (by decide) ?_
        refine x_putz (pc := 30) fnX6_52 dX6_ends_30 hk.1 wc rfl ⟨by omega, by omega⟩ ?_
        refine x_aload_n (pc := 33) dX6_ends_33 rfl rfl ?_
        refine x_dup (pc := 34) dX6_ends_34 rfl ?_
        refine x_geti (pc := 35) fX6_49 dX6_ends_35 hk.1 rfl (fun r35a r35b => ?_)
        try simp (disch := omega) only [mset_same, mset_nea, mset_nei, mcopy_nea, mcopy_in, mcopy_out, Int.reduceToNat, Int.toNat_natCast, Nat.zero_add, Nat.sub_zero] at r35a r35b ⊢
        refine x_iconst (pc := 38) dX6_ends_38 ?_
        refine x_iadd (pc := 39) dX6_ends_39 ?_
        refine x_puti (pc := 40) fnX6_49 dX6_ends_40 hk.1 wc rfl ⟨by omega, by omega⟩ ?_
        refine x_aload_n (pc := 43) dX6_ends_43 rfl rfl ?_
        refine x_iload_n (pc := 44) dX6_ends_44 rfl rfl ?_
        refine x_putz (pc := 45) fnX6_115 dX6_ends_45 hk.1 wc rfl ⟨by omega, by omega⟩ ?_
        refine x_aload_n (pc := 48) dX6_ends_48 rfl rfl ?_
        refine x_iconst (pc := 49) dX6_ends_49 ?_
        refine x_putz (pc := 50) fnX6_109 dX6_ends_50 hk.1 wc rfl ⟨by omega, by omega⟩ ?_
        refine X.loc [0, 1] (L' := [(0, _), (1, _)]) rfl ?_
        refine mid _ _ (fun y i hy => ?_) ⟨⟨hk, hco, hla, wc⟩, ⟨?_, ?_, ?_⟩, fun p hp9 => ?_, fun p hp9 => ?_, fun i hi => ?_, ?_, ?_, ?_, rfl, ?_⟩ ?_
        · rw [mset_nea hy, mset_nea hy, mset_nea hy, mset_nea hy]
        · rw [mset_nei (by omega), mset_nei (by omega), mset_nei (by omega), mset_nei (by omega)]
          exact r0
        · rw [mset_nei (by omega), mset_nei (by omega), mset_nei (by omega), mset_nei (by omega)]
          exact r1
        · rw [mset_nei (by omega), mset_nei (by omega), mset_nei (by omega), mset_nei (by omega)]
          exact r2
        · rw [mset_nea (by omega), mset_nea (by omega), mset_nea (by omega), mset_nea (by omega)]
          exact vP p hp9
        · rw [mset_nea (by omega), mset_nea (by omega), mset_nea (by omega), mset_nea (by omega)]
          exact vL p hp9
        · rw [mset_nei (by omega), mset_nei (by omega), mset_nei (by omega), mset_nei (by omega)]
          exact vS i hi
        · rw [mset_nei (by omega), mset_nei (by omega), mset_same]
          omega
        · rw [mset_nei (by omega), mset_same]
        · rw [mset_same]
        · rw [mset_nei (by omega), mset_nei (by omega), mset_nei (by omega), mset_nei (by omega)]
          exact q13
        · first
          | exact Or.inl ⟨by simp (disch := omega) only [mset_same, mset_nei], by omega⟩
          | exact Or.inr ⟨by simp (disch := omega) only [mset_same, mset_nei], by omega⟩
