/-! The law's contest made; texts put; values at parts of 64. -/
theorem LsP.raw {g : GG} {lay : Lay} {M : Mem} {l : Nat} {el : Nat → Nat} (h : LsP g lay M l 0 el) (g5 : g.2.2.1 5 < g.2.1) (hx : ∀ x, M l 1 = er x → x < g.2.1) : M l 0 = 0 ∧ M l 1 = er (g.2.2.1 5) ∧ M l 2 = 0 := by
  obtain ⟨-, -, h0, h2, -, h4⟩ := h
  rcases h4 with ⟨-, h⟩ | ⟨x, z1, -, z3, -⟩
  · exact ⟨h0, h, h2⟩
  · have := hx x z1
    omega
theorem LsP.of0 {g : GG} {lay : Lay} {M : Mem} {l : Nat} (hk : KN lay l (0, 10, fun _ => none)) (wl : g.2.1 ≤ l) (h : M l 0 = 0 ∧ M l 1 = er (g.2.2.1 5) ∧ M l 2 = 0) (el : Nat → Nat) : LsP g lay M l 0 el := ⟨hk, wl, h.1, h.2.2, by decide, Or.inl ⟨rfl, h.2.1⟩⟩

set_option maxRecDepth 100000 in
theorem sp_X6_init {g : GG} {lay : Lay} {M : Mem} {K : KK} {c pw : Nat} {S : Nat → Int} (hJ : JcP g lay M) (hk : KN lay c (0, 6, fun _ => none)) (wc : g.2.1 ≤ c) (hw : KN lay (c + 1) (1, 7, fun _ => none)) (hl9 : lay.2 = c + 2) (hz : ∀ i, M c i = 0) (hv : ∀ i, i < 7 → M (c + 1) i = S i) (hS : WfS S) (hpw : (pw : Int) = S 0) (k : ∀ lay2 M2, lay2.2 = c + 8 → Ext lay lay2 → (∀ y i, y < lay.2 → y ≠ c → M2 y i = M y i) → LcQ g lay2 M2 c pw S (fun _ => 0) (fun _ => -100) 0 0 0 0 (-1) → (∀ ll, LcL g lay2 M2 c (fun _ => 0) ll) → K (.inl none) lay2 M2) : X g m_X6_init 0 0 lay M 0 [(0, vR c), (1, vR (c + 1))] [] K := by
  have w9 := hS.1
  have g5 := hJ.2.2.1.2
  have hS9 := hS
  unfold WfS at hS
  -- the lists
  have stE : ∀ (lay2 : Lay) (M2 : Mem), lay2.2 = c + 5 → Ext lay lay2 → (∀ y i, y < lay.2 → y ≠ c → M2 y i = M y i) → KN lay2 (c + 2) (0, 10, fun _ => none) → KN lay2 (c + 3) (1, pw, fun _ => none) → KN lay2 (c + 4) (1, pw, fun _ => none) → (M2 (c + 2) 0 = 0 ∧ M2 (c + 2) 1 = er (g.2.2.1 5) ∧ M2 (c + 2) 2 = 0) → (∀ i, i < 6 → M2 c (3 + i) = S (1 + i)) ∧ (M2 c 0 = er (c + 3) ∧ M2 c 1 = er (c + 4) ∧ M2 c 2 = er (c + 2)) ∧ M2 c 9 = 0 ∧ M2 c 10 = 0 ∧ M2 c 11 = 0 ∧ M2 c 12 = 0 ∧ M2 c 13 = -1 → (∀ p, p < pw → M2 (c + 3) p = 0) → (∀ p, p < pw → M2 (c + 4) p = -100) → X g m_X6_init 3 13 lay2 M2 104 [(0, vR c), (1, vR (c + 1))] [] K := by
    intro lay2 M2 z2 E2 hM h2 h3 h4 hraw ⟨f0, ⟨f1, f2, f3⟩, f4, f5, f6, f7, f8⟩ hco hla
    have hk := hk.ext E2
    have hJ2 := hJ.ext E2 (n := c) (fun y i hy => hM y i (by omega) (by omega)) wc
    refine x_aload_n (pc := 104) dX6_init_104 rfl rfl ?_
    refine x_getrM (pc := 105) (b := (c + 2)) fX6_10 dX6_init_105 hk.1 rfl f3 rfl ?_
    refine x_newH (pc := 108) cnX6_7 dX6_init_108 ⟨by decide, by decide⟩ (fun a lay3 M3 e0 e1 E3 hp3 ha z0 => ?_)
    obtain rfl : a = c + 5 := by omega
    have hk := hk.ext E3
    have h2 := h2.ext E3
    refine x_dup (pc := 111) dX6_init_111 rfl ?_
    refine x_callP (pc := 112) [] rfl kpX6_9 dX6_init_112 rfl (by decide) (Nat.le_of_ble_eq_true rfl) (Nat.le_of_ble_eq_true rfl) (by decide) ?_
    refine sp_Ls_init ha (by omega) z0 (fun M4 p4 hLs4 => ?_)
    have hJ4 : JcP g lay3 M4 := hJ2.ext E3 (n := c) (fun y i hy => (p4 _ _ (by omega)).trans (hp3 _ _ (by omega))) wc
    have hout : LsP g lay3 M4 (c + 2) 0 (fun _ => 0) := LsP.of0 h2 (by omega) ⟨by rw [p4 _ _ (by omega), hp3 _ _ (by omega)]; exact hraw.1, by rw [p4 _ _ (by omega), hp3 _ _ (by omega)]; exact hraw.2.1, by rw [p4 _ _ (by omega), hp3 _ _ (by omega)]; exact hraw.2.2⟩ _
    refine ⟨_, rfl, ?_⟩
    refine x_callV (pc := 115) [_] rfl kX6_45 dX6_init_115 h2.1 rfl rfl (by decide) (Nat.le_of_ble_eq_true rfl) (Nat.le_of_ble_eq_true rfl) (by decide) ?_
    refine sp_Ls_add hJ4 hout ha ⟨_, rfl, by decide⟩ (by decide) (fun lay5 M5 E5 p5 hx5 hL5 => ?_)
    have hx5 := hx5.resolve_right (fun h => h.1 (by rw [p4 _ _ (by omega), hp3 _ _ (by omega)]; exact hraw.2.1))
    have hM4e : M4 (c + 2) 1 = er (g.2.2.1 5) := hx5.1
    have g5' : ∀ x, M4 (c + 2) 1 = er x → g.2.1 ≤ x → False := fun x q1 q2 => by
      have := er_inj (q1.symm.trans hM4e)
      omega
    have hk := hk.ext E5
    have h2 := h2.ext E5
    have ha := ha.ext E5
    have hsz5 : lay5.2 = c + 7 := by have := hx5.2.1; omega
    have f3o := f3
    have f3 : M5 c 2 = er (c + 2) := ((p5 _ _ (by omega) (by omega) (fun x q1 q2 => (g5' x q1 q2).elim)).trans ((p4 _ _ (by omega)).trans (hp3 _ _ (by omega)))).trans f3o
    refine ⟨_, rfl, ?_⟩
    refine x_pop (pc := 118) dX6_init_118 rfl ?_
    refine x_aload_n (pc := 119) dX6_init_119 rfl rfl ?_
    refine x_getrM (pc := 120) (b := (c + 2)) fX6_10 dX6_init_120 hk.1 rfl f3 rfl ?_
    refine x_newH (pc := 123) cnX6_7 dX6_init_123 ⟨by decide, by decide⟩ (fun a lay6 M6 e6 e7 E6 hp6 hb z6 => ?_)
    obtain rfl : a = c + 7 := by omega
    have hk := hk.ext E6
    have h2 := h2.ext E6
    refine x_dup (pc := 126) dX6_init_126 rfl ?_
    refine x_callP (pc := 127) [] rfl kpX6_9 dX6_init_127 rfl (by decide) (Nat.le_of_ble_eq_true rfl) (Nat.le_of_ble_eq_true rfl) (by decide) ?_
    refine sp_Ls_init hb (by omega) z6 (fun M7 p7 hLs7 => ?_)
    have q7 : ∀ y i, y < c + 7 → M7 y i = M5 y i := fun y i hy => (p7 _ _ (by omega)).trans (hp6 _ _ (by omega))
    have q5 : ∀ y i, y < c + 6 → y ≠ c + 2 → M5 y i = M4 y i := fun y i h1 h3 => p5 y i (by omega) h3 (fun x q1 q2 => (g5' x q1 q2).elim)
    have q4 : ∀ y i, y < c + 5 → M4 y i = M2 y i := fun y i hy => (p4 _ _ (by omega)).trans (hp3 _ _ (by omega))
    have hJ7 : JcP g lay6 M7 := hJ4.ext (E5.tr E6) (n := c) (fun y i hy => (q7 _ _ (by omega)).trans (q5 _ _ (by omega) (by omega))) wc
    have h65 : M5 (c + 2) 1 = er (c + 6) := by rw [hx5.2.2]; exact congrArg er (by omega)
    have hL7 := hL5.ext (M2 := M7) E6 (fun i => q7 _ i (by omega)) (fun x i z1 z2 => by
      have := er_inj (z1.symm.trans h65)
      exact q7 _ _ (by omega))
    refine ⟨_, rfl, ?_⟩
    refine x_callV (pc := 130) [_] rfl kX6_45 dX6_init_130 h2.1 rfl rfl (by decide) (Nat.le_of_ble_eq_true rfl) (Nat.le_of_ble_eq_true rfl) (by decide) ?_
    refine sp_Ls_add hJ7 hL7 hb ⟨_, rfl, by decide⟩ (by decide) (fun lay8 M8 E8 p8 hx8 hL8 => ?_)
    have h67 : M7 (c + 2) 1 = er (c + 6) := (q7 _ _ (by omega)).trans h65
    have hx8 := hx8.resolve_left (fun h => by
      have := er_inj (h.1.symm.trans h67)
      omega)
    have hlay8 : lay8 = lay6 := hx8.2.1
    subst hlay8
    refine ⟨_, rfl, ?_⟩
    refine x_pop (pc := 133) dX6_init_133 rfl ?_
    refine x_vret (pc := 134) dX6_init_134 rfl (by decide) (by decide) ?_
    have q8 : ∀ y i, y < c + 8 → y ≠ c + 2 → y ≠ c + 6 → M8 y i = M7 y i := fun y i h1 h3 h9 => p8 y i (by omega) h3 (fun x z1 z2 e9 => by
      have := er_inj (z1.symm.trans h67)
      omega)
    have qc : ∀ y i, y < c + 5 → y ≠ c + 2 → M8 y i = M2 y i := fun y i h1 h3 => (q8 y i (by omega) h3 (by omega)).trans ((q7 y i (by omega)).trans ((q5 y i (by omega) h3).trans (q4 y i h1)))
    have h3 := ((h3.ext E3).ext E5).ext E6
    have h4 := ((h4.ext E3).ext E5).ext E6
    have r5 := hLs4
    have r7 := hLs7
    have s5 : ∀ i, M8 (c + 5) i = M4 (c + 5) i := fun i => (q8 _ i (by omega) (by omega) (by omega)).trans ((q7 _ i (by omega)).trans (q5 _ i (by omega) (by omega)))
    have s7 : ∀ i, M8 (c + 7) i = M7 (c + 7) i := fun i => q8 _ i (by omega) (by omega) (by omega)
    have t5 : M8 (c + 5) 0 = 0 ∧ M8 (c + 5) 1 = er (g.2.2.1 5) ∧ M8 (c + 5) 2 = 0 := ⟨(s5 _).trans r5.1, (s5 _).trans r5.2.1, (s5 _).trans r5.2.2⟩
    have t7 : M8 (c + 7) 0 = 0 ∧ M8 (c + 7) 1 = er (g.2.2.1 5) ∧ M8 (c + 7) 2 = 0 := ⟨(s7 _).trans r7.1, (s7 _).trans r7.2.1, (s7 _).trans r7.2.2⟩
    have w8 : M8 (c + 2) 1 = er (c + 6) := hx8.2.2.trans h67
    have ha := ha.ext E6
    refine k lay8 M8 (by omega) (((E2.tr E3).tr E5).tr E6) (fun y i y1 y2 => (qc y i (by omega) (by omega)).trans (hM y i y1 y2)) ⟨⟨hk, h3, h4, wc⟩, ⟨(qc _ _ (by omega) (by omega)).trans f1, (qc _ _ (by omega) (by omega)).trans f2, (qc _ _ (by omega) (by omega)).trans f3o⟩, fun p hp9 => (qc _ _ (by omega) (by omega)).trans (hco p hp9), fun p hp9 => (qc _ _ (by omega) (by omega)).trans (hla p hp9), fun i hi => (qc _ _ (by omega) (by omega)).trans (f0 i hi), (qc _ _ (by omega) (by omega)).trans f4, (qc _ _ (by omega) (by omega)).trans f5, (qc _ _ (by omega) (by omega)).trans f6, (qc _ _ (by omega) (by omega)).trans f7, (qc _ _ (by omega) (by omega)).trans f8⟩ (fun ll => ⟨fun _ _ => 0, ?_, w8, fun p hp9 => ⟨?_, Nat.zero_le _, fun i hi => absurd hi (Nat.not_lt_zero i)⟩, fun x0 x1 z1 z2 z3 => ?_, fun p hp9 x z1 z2 => ?_⟩)
    · obtain ⟨a1, a2, a3, a4, a5, a6⟩ := hL8
      refine ⟨a1, a2, a3, a4, a5, Or.inr ?_⟩
      obtain ⟨x, z1, z2, z3, z4⟩ := a6.resolve_left (fun h => absurd h.1 (by decide))
      refine ⟨x, z1, z2, z3, fun i hi => (z4 i hi).trans ?_⟩
      rcases (show i = 0 ∨ i = 1 by omega) with rfl | rfl
      · rfl
      · rfl
    · rcases (show p = 0 ∨ p = 1 by omega) with rfl | rfl
      · exact LsP.of0 ha (by omega) t5 _
      · exact LsP.of0 hb (by omega) t7 _
    · have := er_inj (z1.symm.trans t5.2.1)
      omega
    · rcases (show p = 0 ∨ p = 1 by omega) with rfl | rfl
      · have := er_inj (z1.symm.trans t5.2.1)
        omega
      · have := er_inj (z1.symm.trans t7.2.1)
        omega
  -- the numbers
  have stD : ∀ (lay2 : Lay) (M2 : Mem), lay2.2 = c + 5 → Ext lay lay2 → (∀ y i, y < lay.2 → y ≠ c → M2 y i = M y i) → KN lay2 (c + 2) (0, 10, fun _ => none) → KN lay2 (c + 3) (1, pw, fun _ => none) → KN lay2 (c + 4) (1, pw, fun _ => none) → (M2 (c + 2) 0 = 0 ∧ M2 (c + 2) 1 = er (g.2.2.1 5) ∧ M2 (c + 2) 2 = 0) → (M2 c 0 = er (c + 3) ∧ M2 c 1 = er (c + 4) ∧ M2 c 2 = er (c + 2)) → M2 c 13 = -1 → (∀ i, 3 ≤ i → i ≠ 13 → M2 c i = 0) → (∀ p, p < pw → M2 (c + 3) p = 0) → (∀ p, p < pw → M2 (c + 4) p = -100) → X g m_X6_init 3 13 lay2 M2 61 [(0, vR c), (1, vR (c + 1))] [] K := by
    intro lay2 M2 z2 E2 hM h2 h3 h4 hraw ⟨f1, f2, f3⟩ f8 f9 hco hla
    have hk := hk.ext E2
    have hw := hw.ext E2
    have u : ∀ i, i < 7 → M2 (c + 1) i = S i := fun i hi => (hM _ _ (by omega) (by omega)).trans (hv i hi)
    have u1 := u 1 (by decide)
    have u2 := u 2 (by decide)
    have u3 := u 3 (by decide)
    have u4 := u 4 (by decide)
    have u5 := u 5 (by decide)
    have u6 := u 6 (by decide)
    refine x_aload_n (pc := 61) dX6_init_61 rfl rfl ?_
    refine x_aload_n (pc := 62) dX6_init_62 rfl rfl ?_
    refine x_iconst (pc := 63) dX6_init_63 ?_
    refine x_iald (pc := 64) dX6_init_64 hw.1 (by omega) (by omega) (fun r64a r64b => ?_)
    rw [show (1 : Int).toNat = 1 from rfl, u1]
    refine x_putFi (pc := 65) ffX6_27 rfl dX6_init_65 hk.1 wc rfl ⟨by omega, by omega⟩ ?_
    refine x_aload_n (pc := 68) dX6_init_68 rfl rfl ?_
    refine x_aload_n (pc := 69) dX6_init_69 rfl rfl ?_
    refine x_iconst (pc := 70) dX6_init_70 ?_
    refine x_iald (pc := 71) dX6_init_71 hw.1 (by omega) (by omega) (fun r71a r71b => ?_)
    try simp (disch := omega) only [mset_same, mset_nea, mset_nei, mcopy_nea, mcopy_in, mcopy_out, Int.reduceToNat, Int.toNat_natCast, Nat.zero_add, Nat.sub_zero] at r71a r71b ⊢
    rw [u2]
    refine x_putFi (pc := 72) ffX6_30 rfl dX6_init_72 hk.1 wc rfl ⟨by omega, by omega⟩ ?_
    refine x_aload_n (pc := 75) dX6_init_75 rfl rfl ?_
    refine x_aload_n (pc := 76) dX6_init_76 rfl rfl ?_
    refine x_iconst (pc := 77) dX6_init_77 ?_
    refine x_iald (pc := 78) dX6_init_78 hw.1 (by omega) (by omega) (fun r78a r78b => ?_)
    try simp (disch := omega) only [mset_same, mset_nea, mset_nei, mcopy_nea, mcopy_in, mcopy_out, Int.reduceToNat, Int.toNat_natCast, Nat.zero_add, Nat.sub_zero] at r78a r78b ⊢
    rw [u3]
    refine x_putFi (pc := 79) ffX6_33 rfl dX6_init_79 hk.1 wc rfl ⟨by omega, by omega⟩ ?_
    refine x_aload_n (pc := 82) dX6_init_82 rfl rfl ?_
    refine x_aload_n (pc := 83) dX6_init_83 rfl rfl ?_
    refine x_iconst (pc := 84) dX6_init_84 ?_
    refine x_iald (pc := 85) dX6_init_85 hw.1 (by omega) (by omega) (fun r85a r85b => ?_)
    try simp (disch := omega) only [mset_same, mset_nea, mset_nei, mcopy_nea, mcopy_in, mcopy_out, Int.reduceToNat, Int.toNat_natCast, Nat.zero_add, Nat.sub_zero] at r85a r85b ⊢
    rw [u4]
    refine x_putFi (pc := 86) ffX6_36 rfl dX6_init_86 hk.1 wc rfl ⟨by omega, by omega⟩ ?_
    refine x_aload_n (pc := 89) dX6_init_89 rfl rfl ?_
    refine x_aload_n (pc := 90) dX6_init_90 rfl rfl ?_
    refine x_iconst (pc := 91) dX6_init_91 ?_
    refine x_iald (pc := 92) dX6_init_92 hw.1 (by omega) (by omega) (fun r92a r92b => ?_)
    try simp (disch := omega) only [mset_same, mset_nea, mset_nei, mcopy_nea, mcopy_in, mcopy_out, Int.reduceToNat, Int.toNat_natCast, Nat.zero_add, Nat.sub_zero] at r92a r92b ⊢
    rw [u5]
    refine x_putFi (pc := 93) ffX6_39 rfl dX6_init_93 hk.1 wc rfl ⟨by omega, by omega⟩ ?_
    refine x_aload_n (pc := 96) dX6_init_96 rfl rfl ?_
    refine x_aload_n (pc := 97) dX6_init_97 rfl rfl ?_
    refine x_bipush (pc := 98) dX6_init_98 (by decide) ?_
    refine x_iald (pc := 100) dX6_init_100 hw.1 (by omega) (by omega) (fun r100a r100b => ?_)
    try simp (disch := omega) only [mset_same, mset_nea, mset_nei, mcopy_nea, mcopy_in, mcopy_out, Int.reduceToNat, Int.toNat_natCast, Nat.zero_add, Nat.sub_zero] at r100a r100b ⊢
    rw [u6]
    refine x_putFi (pc := 101) ffX6_42 rfl dX6_init_101 hk.1 wc rfl ⟨by omega, by omega⟩ ?_
    refine X.loc [0, 1] (L' := [(0, _), (1, _)]) rfl ?_
    refine stE lay2 _ z2 E2 (fun y i y1 y2 => ?_) h2 h3 h4 ⟨?_, ?_, ?_⟩ ⟨fun i hi => ?_, ⟨?_, ?_, ?_⟩, ?_, ?_, ?_, ?_, ?_⟩ (fun p hp9 => ?_) (fun p hp9 => ?_)
    · rw [mset_nea y2, mset_nea y2, mset_nea y2, mset_nea y2, mset_nea y2, mset_nea y2]
      exact hM y i y1 y2
    · rw [mset_nea (by omega), mset_nea (by omega), mset_nea (by omega), mset_nea (by omega), mset_nea (by omega), mset_nea (by omega)]
      exact hraw.1
    · rw [mset_nea (by omega), mset_nea (by omega), mset_nea (by omega), mset_nea (by omega), mset_nea (by omega), mset_nea (by omega)]
      exact hraw.2.1
    · rw [mset_nea (by omega), mset_nea (by omega), mset_nea (by omega), mset_nea (by omega), mset_nea (by omega), mset_nea (by omega)]
      exact hraw.2.2
    · rcases (show i = 0 ∨ i = 1 ∨ i = 2 ∨ i = 3 ∨ i = 4 ∨ i = 5 by omega) with rfl | rfl | rfl | rfl | rfl | rfl
      all_goals simp (disch := omega) only [mset_same, mset_nei]
    · rw [mset_nei (by decide), mset_nei (by decide), mset_nei (by decide), mset_nei (by decide), mset_nei (by decide), mset_nei (by decide)]
      exact f1
    · rw [mset_nei (by decide), mset_nei (by decide), mset_nei (by decide), mset_nei (by decide), mset_nei (by decide), mset_nei (by decide)]
      exact f2
    · rw [mset_nei (by decide), mset_nei (by decide), mset_nei (by decide), mset_nei (by decide), mset_nei (by decide), mset_nei (by decide)]
      exact f3
    · rw [mset_nei (by decide), mset_nei (by decide), mset_nei (by decide), mset_nei (by decide), mset_nei (by decide), mset_nei (by decide)]
      exact (f9 9 (by decide) (by decide))
    · rw [mset_nei (by decide), mset_nei (by decide), mset_nei (by decide), mset_nei (by decide), mset_nei (by decide), mset_nei (by decide)]
      exact (f9 10 (by decide) (by decide))
    · rw [mset_nei (by decide), mset_nei (by decide), mset_nei (by decide), mset_nei (by decide), mset_nei (by decide), mset_nei (by decide)]
      exact (f9 11 (by decide) (by decide))
    · rw [mset_nei (by decide), mset_nei (by decide), mset_nei (by decide), mset_nei (by decide), mset_nei (by decide), mset_nei (by decide)]
      exact (f9 12 (by decide) (by decide))
    · rw [mset_nei (by decide), mset_nei (by decide), mset_nei (by decide), mset_nei (by decide), mset_nei (by decide), mset_nei (by decide)]
      exact f8
    · rw [mset_nea (by omega), mset_nea (by omega), mset_nea (by omega), mset_nea (by omega), mset_nea (by omega), mset_nea (by omega)]
      exact (hco p hp9)
    · rw [mset_nea (by omega), mset_nea (by omega), mset_nea (by omega), mset_nea (by omega), mset_nea (by omega), mset_nea (by omega)]
      exact (hla p hp9)
  -- the row of latest turns
  have stC : ∀ (d j : Nat), j + d = pw → ∀ (lay2 : Lay) (M2 : Mem), lay2.2 = c + 5 → Ext lay lay2 → (∀ y i, y < lay.2 → y ≠ c → M2 y i = M y i) → KN lay2 (c + 2) (0, 10, fun _ => none) → KN lay2 (c + 3) (1, pw, fun _ => none) → KN lay2 (c + 4) (1, pw, fun _ => none) → (M2 (c + 2) 0 = 0 ∧ M2 (c + 2) 1 = er (g.2.2.1 5) ∧ M2 (c + 2) 2 = 0) → (M2 c 0 = er (c + 3) ∧ M2 c 1 = er (c + 4) ∧ M2 c 2 = er (c + 2)) → M2 c 13 = -1 → (∀ i, 3 ≤ i → i ≠ 13 → M2 c i = 0) → (∀ p, p < pw → M2 (c + 3) p = 0) → (∀ p, p < j → M2 (c + 4) p = -100) → X g m_X6_init 3 13 lay2 M2 40 [(2, vI (j : Nat)), (0, vR c), (1, vR (c + 1))] [] K := by
    intro d
    induction d with
    | zero =>
      intro j hj lay2 M2 z2 E2 hM h2 h3 h4 hraw ff f8 f9 hco hla
      have ej : j = pw := by omega
      subst ej
      have hw2 := hw.ext E2
      have u0 : M2 (c + 1) 0 = S 0 := (hM _ _ (by omega) (by omega)).trans (hv 0 (by decide))
      refine x_iload_n (pc := 40) dX6_init_40 rfl rfl ?_
      refine x_aload_n (pc := 41) dX6_init_41 rfl rfl ?_
      refine x_iconst (pc := 42) dX6_init_42 ?_
      refine x_iald (pc := 43) dX6_init_43 hw2.1 (by omega) (by omega) (fun r43a r43b => ?_)
      rw [show (0 : Int).toNat = 0 from rfl, u0]
      refine x_icmp_ge (pc := 44) (t := 61) dX6_init_44 (by decide) ⟨by omega, by omega⟩ ⟨by omega, by omega⟩ (fun c44 => ?_) (fun c44 => ?_)
      · refine X.loc [1, 2] (L' := [(0, _), (1, _)]) rfl ?_
        exact stD lay2 M2 z2 E2 hM h2 h3 h4 hraw ff f8 f9 hco hla
      · exfalso; omega
    | succ d ih =>
      intro j hj lay2 M2 z2 E2 hM h2 h3 h4 hraw ff f8 f9 hco hla
      have hk := hk.ext E2
      have hw2 := hw.ext E2
      have u0 : M2 (c + 1) 0 = S 0 := (hM _ _ (by omega) (by omega)).trans (hv 0 (by decide))
      refine x_iload_n (pc := 40) dX6_init_40 rfl rfl ?_
      refine x_aload_n (pc := 41) dX6_init_41 rfl rfl ?_
      refine x_iconst (pc := 42) dX6_init_42 ?_
      refine x_iald (pc := 43) dX6_init_43 hw2.1 (by omega) (by omega) (fun r43a r43b => ?_)
      rw [show (0 : Int).toNat = 0 from rfl, u0]
      refine x_icmp_ge (pc := 44) (t := 61) dX6_init_44 (by decide) ⟨by omega, by omega⟩ ⟨by omega, by omega⟩ (fun c44 => ?_) (fun c44 => ?_)
      · exfalso; omega
      · refine x_aload_n (pc := 47) dX6_init_47 rfl rfl ?_
        refine x_getrM (pc := 48) (b := (c + 4)) fX6_24 dX6_init_48 hk.1 rfl ff.2.1 rfl ?_
        refine x_iload_n (pc := 51) dX6_init_51 rfl rfl ?_
        refine x_bipush (pc := 52) dX6_init_52 (by decide) ?_
        refine x_iast (pc := 54) dX6_init_54 h4.1 (show g.2.1 ≤ c + 4 by omega) (by omega) (by omega) ⟨by omega, by omega⟩ ?_
        refine x_iinc (pc := 55) dX6_init_55 rfl (by decide) (L' := [(2, _), (0, _), (1, _)]) rfl ?_
        refine x_goto (pc := 58) (t := 40) dX6_init_58 (by decide) ?_
        refine X.loc [0, 1, 2] (L' := [(2, _), (0, _), (1, _)]) rfl ?_
        refine ih (j + 1) (by omega) lay2 _ z2 E2 (fun y i y1 y2 => (mset_nea (by omega)).trans (hM y i y1 y2)) h2 h3 h4 ⟨(mset_nea (by omega)).trans hraw.1, (mset_nea (by omega)).trans hraw.2.1, (mset_nea (by omega)).trans hraw.2.2⟩ ⟨(mset_nea (by omega)).trans ff.1, (mset_nea (by omega)).trans ff.2.1, (mset_nea (by omega)).trans ff.2.2⟩ ((mset_nea (by omega)).trans f8) (fun i i1 i2 => (mset_nea (by omega)).trans (f9 i i1 i2)) (fun p hp9 => (mset_nea (by omega)).trans (hco p hp9)) (fun p hp9 => ?_)
        rw [show ((j : Nat) : Int).toNat = j from Int.toNat_natCast j]
        by_cases c9 : p = j
        · subst c9
          exact mset_same
        · rw [mset_nei c9]
          exact hla p (by omega)
  refine x_aload_n (pc := 0) dX6_init_0 rfl rfl ?_
  refine x_super (pc := 1) koX6_1 dX6_init_1 (by decide) ⟨by decide, by decide⟩ ?_
  refine x_aload_n (pc := 4) dX6_init_4 rfl rfl ?_
  refine x_newH (pc := 5) cnX6_7 dX6_init_5 ⟨by decide, by decide⟩ (fun a lay2 M2 e0 e1 E hp ha z0 => ?_)
  obtain rfl : a = c + 2 := by omega
  have hk := hk.ext E
  have hw := hw.ext E
  have hv2 : ∀ i, i < 7 → M2 (c + 1) i = S i := fun i hi => (hp _ _ (by omega)).trans (hv i hi)
  have hz2 : ∀ i, M2 c i = 0 := fun i => (hp _ _ (by omega)).trans (hz i)
  refine x_dup (pc := 8) dX6_init_8 rfl ?_
  refine x_callP (pc := 9) [] rfl kpX6_9 dX6_init_9 rfl (by decide) (Nat.le_of_ble_eq_true rfl) (Nat.le_of_ble_eq_true rfl) (by decide) ?_
  refine sp_Ls_init ha (by omega) z0 (fun M3 p3 hLs => ?_)
  have hv3 : ∀ i, i < 7 → M3 (c + 1) i = S i := fun i hi => (p3 _ _ (by omega)).trans (hv2 i hi)
  have hz3 : ∀ i, M3 c i = 0 := fun i => (p3 _ _ (by omega)).trans (hz2 i)
  refine ⟨_, rfl, ?_⟩
  refine x_putFr (pc := 12) ffX6_10 rfl dX6_init_12 hk.1 wc rfl rfl ?_
  refine x_aload_n (pc := 15) dX6_init_15 rfl rfl ?_
  refine x_iconst (pc := 16) dX6_init_16 ?_
  refine x_puti (pc := 17) fnX6_16 dX6_init_17 hk.1 wc rfl ⟨by omega, by omega⟩ ?_
  refine x_aload_n (pc := 20) dX6_init_20 rfl rfl ?_
  refine x_aload_n (pc := 21) dX6_init_21 rfl rfl ?_
  refine x_iconst (pc := 22) dX6_init_22 ?_
  refine x_iald (pc := 23) dX6_init_23 hw.1 (by omega) (by omega) (fun r23a r23b => ?_)
  try simp (disch := omega) only [mset_same, mset_nea, mset_nei, mcopy_nea, mcopy_in, mcopy_out, Int.reduceToNat, Int.toNat_natCast, Nat.zero_add, Nat.sub_zero] at r23a r23b ⊢
  rw [hv3 0 (by decide)]
  refine x_newaH (pc := 24) (t := 0) (n := pw) rfl (by decide) na0 dX6_init_24 (by omega) ⟨by decide, by show 0 + 3 + 0 + pw ≤ 69; omega⟩ (by omega) (fun a lay4 M4 e2 e3 E4 hp4 h3 z4 => ?_)
  obtain rfl : a = c + 3 := by omega
  refine X.cs (cn' := 2) (ck' := 8) ?_ (by decide) (by show 0 + 3 + 0 + pw ≤ 8; omega)
  have hk := hk.ext E4
  have hw := hw.ext E4
  have ha := ha.ext E4
  have hv4 : ∀ i, i < 7 → M4 (c + 1) i = S i := fun i hi => (hp4 _ _ (by omega)).trans ((mset_nea (by omega)).trans ((mset_nea (by omega)).trans (hv3 i hi)))
  refine x_putFr (pc := 26) ffX6_20 rfl dX6_init_26 hk.1 wc rfl rfl ?_
  refine x_aload_n (pc := 29) dX6_init_29 rfl rfl ?_
  refine x_aload_n (pc := 30) dX6_init_30 rfl rfl ?_
  refine x_iconst (pc := 31) dX6_init_31 ?_
  refine x_iald (pc := 32) dX6_init_32 hw.1 (by omega) (by omega) (fun r32a r32b => ?_)
  try simp (disch := omega) only [mset_same, mset_nea, mset_nei, mcopy_nea, mcopy_in, mcopy_out, Int.reduceToNat, Int.toNat_natCast, Nat.zero_add, Nat.sub_zero] at r32a r32b ⊢
  rw [hv4 0 (by decide)]
  refine x_newaH (pc := 33) (t := 0) (n := pw) rfl (by decide) na0 dX6_init_33 (by omega) ⟨by decide, by show 8 + pw ≤ 69; omega⟩ (by omega) (fun a lay5 M5 e4 e5 E5 hp5 h4 z5 => ?_)
  obtain rfl : a = c + 4 := by omega
  refine X.cs (cn' := 3) (ck' := 13) ?_ (by decide) (by omega)
  have hk := hk.ext E5
  refine x_putFr (pc := 35) ffX6_24 rfl dX6_init_35 hk.1 wc rfl rfl ?_
  refine x_iconst (pc := 38) dX6_init_38 ?_
  refine x_istore_n (pc := 39) dX6_init_39 rfl (by decide) (L' := [(2, _), (0, _), (1, _)]) rfl ?_
  refine X.loc [0, 1, 2] (L' := [(2, _), (0, _), (1, _)]) rfl ?_
  have hr3 := hLs
  have q2 : ∀ i, mset M5 c 1 (er (c + 4)) (c + 2) i = M3 (c + 2) i := fun i => by
    rw [mset_nea (by omega), hp5 _ _ (by omega), mset_nea (by omega), hp4 _ _ (by omega), mset_nea (by omega), mset_nea (by omega)]
  refine stC pw 0 (by omega) lay5 _ e5 ((E.tr E4).tr E5) (fun y i h1 h2 => ?_) (ha.ext E5) (h3.ext E5) h4 ⟨by rw [q2]; exact hr3.1, by rw [q2]; exact hr3.2.1, by rw [q2]; exact hr3.2.2⟩ ⟨?_, mset_same, ?_⟩ ?_ (fun i h1 h2 => ?_) (fun p hp9 => ?_) (fun p hp9 => absurd hp9 (by omega))
  · rw [mset_nea (by omega), hp5 _ _ (by omega), mset_nea (by omega), hp4 _ _ (by omega), mset_nea (by omega), mset_nea (by omega), p3 _ _ (by omega), hp _ _ (by omega)]
  · rw [mset_nei (by decide), hp5 _ _ (by omega), mset_same]
  · rw [mset_nei (by decide), hp5 _ _ (by omega), mset_nei (by decide), hp4 _ _ (by omega), mset_nei (by decide), mset_same]
  · rw [mset_nei (by decide), hp5 _ _ (by omega), mset_nei (by decide), hp4 _ _ (by omega), mset_same]
  · rw [mset_nei (by omega), hp5 _ _ (by omega), mset_nei (by omega), hp4 _ _ (by omega), mset_nei (by omega), mset_nei (by omega), hz3]
  · rw [mset_nea (by omega), hp5 _ _ (by omega), mset_nea (by omega), z4]
