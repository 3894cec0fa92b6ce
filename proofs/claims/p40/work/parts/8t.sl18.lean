/-! The law's first steps. -/
def LwD (g : GG) (lay : Lay) (M : Mem) (d nn : Nat) : Prop := JcP g lay M ∧ ToP g lay M d nn ∧ Ds g lay M (d + 1) tNew ∧ (∃ A u, Dh A u M (d + 1) ∧ 0 ≤ u ∧ u ≤ 12) ∧ (∃ tx n v cm, Rd tx n v M (d + 1 + 25) ∧ Cm cm M (d + 1 + 25))
theorem LwD.draw {g : GG} {lay : Lay} {M M2 : Mem} {d nn n2 : Nat} (h : LwD g lay M d nn) (p : ∀ y i, y ≠ d → M2 y i = M y i) (hT2 : ToP g lay M2 d n2) : LwD g lay M2 d n2 := by
  obtain ⟨hJ, hT, hD, ⟨A, u, hA, hu⟩, ⟨tx, n, v, cm, hR, hC⟩⟩ := h
  have E : Ext lay lay := Ext.rf
  have bw := hT.2.1
  exact ⟨hJ.ext E (n := g.2.1) (fun y i hy => p y i (by omega)) (Nat.le_refl _), hT2, hD.ext E (fun y i y1 y2 => p y i (by omega)), ⟨A, u, hA.mem (fun i => p _ i (by omega)) (fun i => p _ i (by omega)), hu⟩, ⟨tx, n, v, cm, hR.mem (fun y i y1 y2 => p y i (by omega)), hC.mem (fun i => p _ i (by omega))⟩⟩
theorem LwD.up {g : GG} {lay lay2 : Lay} {M M2 : Mem} {d nn : Nat} (h : LwD g lay M d nn) (E : Ext lay lay2) (p : ∀ y i, y < d + 33 → M2 y i = M y i) : LwD g lay2 M2 d nn := by
  obtain ⟨hJ, hT, hD, ⟨A, u, hA, hu⟩, ⟨tx, n, v, cm, hR, hC⟩⟩ := h
  have bw := hT.2.1
  exact ⟨hJ.ext E (n := g.2.1) (fun y i hy => p y i (by omega)) (Nat.le_refl _), hT.ext E (fun i => p _ i (by omega)), hD.ext E (fun y i y1 y2 => p y i (by omega)), ⟨A, u, hA.mem (fun i => p _ i (by omega)) (fun i => p _ i (by omega)), hu⟩, ⟨tx, n, v, cm, hR.mem (fun y i y1 y2 => p y i (by omega)), hC.mem (fun i => p _ i (by omega))⟩⟩

set_option maxRecDepth 100000 in
theorem law_start {g : GG} {lay : Lay} {M : Mem} {K : KK} {sa len : Nat} (gB : GoodB) (gC : ∀ P, WfP P → cntOK 5 (buildF P)) (gR : GoodRt) (hSet : ∀ v0 v1 v2 v3 v4 v5 v6 : Int, ∀ pw ns : Nat, ∀ co : Nat → Int, WfS (Sd v0 v1 v2 v3 v4 v5 v6) → (pw : Int) = v0 → ns ≤ pw → (∀ i, i < ns → -30 ≤ co i ∧ co i ≤ 30) → SetOK (txS v0 v1 v2 v3 v4 v5 v6 ++ stT co ns) (6 + (ns : Nat)) (mkT (Sd v0 v1 v2 v3 v4 v5 v6) (Pd co ns))) (hPL : ∀ T0 T, WfT T0 → (∃ S2 P2, T0 = mkT S2 P2) → Hist T0 T 22 → PlayOK T0 T) (hJ : JcP g lay M) (hs : KN lay sa (1, len, fun _ => none)) (hg : g.2.1 ≤ lay.2) (k : ∀ lay2 M2, K (.inl (some (vI 1))) lay2 M2) : X g m_L_law 0 0 lay M 0 [(0, vR sa)] [] K := by
  -- the contest made
  have stC : ∀ (pw : Nat) (v1 v2 v3 v4 : Int), 2 ≤ pw → pw ≤ 5 → 0 ≤ v1 → v1 ≤ 9 → 1 ≤ v2 → v2 ≤ 14 → 1 ≤ v3 → v3 ≤ 20 → 0 ≤ v4 → v4 ≤ 4 → ∀ (lay2 : Lay) (M2 : Mem) (nn : Nat), lay2.2 = lay.2 + 33 → LwD g lay2 M2 lay.2 nn → nn ≤ 50 → X g m_L_law 100 5000 lay2 M2 86 [(7, vI v4), (6, vI v3), (5, vI v2), (4, vI v1), (3, vI (pw : Nat)), (1, vR lay.2), (2, vR (lay.2 + 1))] [] K := by
    intro pw v1 v2 v3 v4 g1 g2 g3 g4 g5 g6 g7 g8 g9 g10 lay2 M2 nn hz2 hI hnn
    refine x_aload_n (pc := 86) dL_law_86 rfl rfl ?_
    refine x_bipush (pc := 87) dL_law_87 (by decide) ?_
    refine x_callV (pc := 89) [_] rfl kL_113 dL_law_89 hI.2.1.1.1 rfl rfl (by decide) (Nat.le_of_ble_eq_true rfl) (Nat.le_of_ble_eq_true rfl) (by decide) ?_
    refine sp_X7_next hI.2.1 (by omega) ⟨by omega, by omega⟩ (fun z5 M3 z5a z5b p3 hT3 => ?_)
    have hI := hI.draw p3 hT3
    refine ⟨_, rfl, ?_⟩
    refine x_istore (pc := 92) dL_law_92 trivial (by decide) (L' := [(8, _), (7, _), (6, _), (5, _), (4, _), (3, _), (1, _), (2, _)]) rfl ?_
    refine x_iconst (pc := 94) dL_law_94 ?_
    refine x_aload_n (pc := 95) dL_law_95 rfl rfl ?_
    refine x_bipush (pc := 96) dL_law_96 (by decide) ?_
    refine x_callV (pc := 98) [_] rfl kL_113 dL_law_98 hI.2.1.1.1 rfl rfl (by decide) (Nat.le_of_ble_eq_true rfl) (Nat.le_of_ble_eq_true rfl) (by decide) ?_
    refine sp_X7_next hI.2.1 (by omega) ⟨by omega, by omega⟩ (fun z6 M3 z6a z6b p3 hT3 => ?_)
    have hI := hI.draw p3 hT3
    refine ⟨_, rfl, ?_⟩
    refine x_iadd (pc := 101) dL_law_101 ?_
    refine x_istore (pc := 102) dL_law_102 trivial (by decide) (L' := [(9, _), (8, _), (7, _), (6, _), (5, _), (4, _), (3, _), (1, _), (2, _)]) rfl ?_
    have gw := hI.2.1.2.1
    refine x_newH (pc := 104) cnL_28 dL_law_104 ⟨by decide, by decide⟩ (fun c lay4 M4 e4 e5 EC pc9 hc zc => ?_)
    obtain rfl : c = lay.2 + 33 := by omega
    refine x_dup (pc := 107) dL_law_107 rfl ?_
    refine x_bipush (pc := 108) dL_law_108 (by decide) ?_
    refine x_newaH (pc := 110) (t := 0) (n := 7) rfl (by decide) na0 dL_law_110 (by decide) ⟨by decide, by decide⟩ rfl (fun w lay5 M5 e6 e7 EW pw9 hw zw => ?_)
    obtain rfl : w = lay.2 + 33 + 1 := by omega
    refine x_dup (pc := 112) dL_law_112 rfl ?_
    refine x_iconst (pc := 113) dL_law_113 ?_
    refine x_iload_n (pc := 114) dL_law_114 rfl rfl ?_
    refine x_iast (pc := 115) dL_law_115 hw.1 (show g.2.1 ≤ lay.2 + 33 + 1 by omega) (by omega) (by omega) ⟨by omega, by omega⟩ ?_
    refine x_dup (pc := 116) dL_law_116 rfl ?_
    refine x_iconst (pc := 117) dL_law_117 ?_
    refine x_iload (pc := 118) dL_law_118 rfl ?_
    refine x_iast (pc := 120) dL_law_120 hw.1 (show g.2.1 ≤ lay.2 + 33 + 1 by omega) (by omega) (by omega) ⟨by omega, by omega⟩ ?_
    refine x_dup (pc := 121) dL_law_121 rfl ?_
    refine x_iconst (pc := 122) dL_law_122 ?_
    refine x_iload (pc := 123) dL_law_123 rfl ?_
    refine x_iast (pc := 125) dL_law_125 hw.1 (show g.2.1 ≤ lay.2 + 33 + 1 by omega) (by omega) (by omega) ⟨by omega, by omega⟩ ?_
    refine x_dup (pc := 126) dL_law_126 rfl ?_
    refine x_iconst (pc := 127) dL_law_127 ?_
    refine x_iload (pc := 128) dL_law_128 rfl ?_
    refine x_iast (pc := 130) dL_law_130 hw.1 (show g.2.1 ≤ lay.2 + 33 + 1 by omega) (by omega) (by omega) ⟨by omega, by omega⟩ ?_
    refine x_dup (pc := 131) dL_law_131 rfl ?_
    refine x_iconst (pc := 132) dL_law_132 ?_
    refine x_iload (pc := 133) dL_law_133 rfl ?_
    refine x_iast (pc := 135) dL_law_135 hw.1 (show g.2.1 ≤ lay.2 + 33 + 1 by omega) (by omega) (by omega) ⟨by omega, by omega⟩ ?_
    refine x_dup (pc := 136) dL_law_136 rfl ?_
    refine x_iconst (pc := 137) dL_law_137 ?_
    refine x_iload (pc := 138) dL_law_138 rfl ?_
    refine x_iast (pc := 140) dL_law_140 hw.1 (show g.2.1 ≤ lay.2 + 33 + 1 by omega) (by omega) (by omega) ⟨by omega, by omega⟩ ?_
    refine x_dup (pc := 141) dL_law_141 rfl ?_
    refine x_bipush (pc := 142) dL_law_142 (by decide) ?_
    refine x_iload (pc := 144) dL_law_144 rfl ?_
    refine x_iast (pc := 146) dL_law_146 hw.1 (show g.2.1 ≤ lay.2 + 33 + 1 by omega) (by omega) (by omega) ⟨by omega, by omega⟩ ?_
    refine x_callP (pc := 147) [_] rfl kpL_116 dL_law_147 rfl (by decide) (Nat.le_of_ble_eq_true rfl) (Nat.le_of_ble_eq_true rfl) (by decide) ?_
    have hS : WfS (Sd (pw : Nat) v1 v2 v3 v4 z5 (1 + z6)) := ⟨⟨by show (2 : Int) ≤ (pw : Nat); omega, by show ((pw : Nat) : Int) ≤ 5; omega⟩, ⟨g3, g4⟩, ⟨by show (1 : Int) ≤ v2; omega, by show v2 ≤ 60; omega⟩, ⟨g7, g8⟩, ⟨g9, g10⟩, ⟨by show 0 ≤ z5; omega, by show z5 ≤ 20; omega⟩, ⟨by show 1 ≤ 1 + z6; omega, by show 1 + z6 ≤ 40; omega⟩⟩
    refine sp_X6_init (S := Sd (pw : Nat) v1 v2 v3 v4 z5 (1 + z6)) (hI.up (EC.tr EW) (fun y i hy => ?_)).1 (hc.ext EW) (by omega) hw (by omega) (fun i => ?_) (fun i hi => ?_) hS rfl (fun lay6 M6 h6 E6 p6 hQ hL => ?_)
    · simp (disch := omega) only [mset_nea]
      rw [pw9 _ _ (by omega), pc9 _ _ (by omega)]
    · simp (disch := omega) only [mset_nea]
      rw [pw9 _ _ (by omega)]
      exact zc i
    · rcases (show i = 0 ∨ i = 1 ∨ i = 2 ∨ i = 3 ∨ i = 4 ∨ i = 5 ∨ i = 6 by omega) with rfl | rfl | rfl | rfl | rfl | rfl | rfl <;> (simp (disch := decide) only [Int.reduceToNat, mset_same, mset_nei]; first | done | rfl)
    refine ⟨_, rfl, ?_⟩
    refine x_astore (pc := 150) dL_law_150 trivial (by decide) (L' := [(10, _), (9, _), (8, _), (7, _), (6, _), (5, _), (4, _), (3, _), (1, _), (2, _)]) rfl ?_
    refine X.loc [8, 9, 7, 6, 5, 4, 3, 2, 1, 0] (L' := [(1, _), (2, _), (3, _), (4, _), (5, _), (6, _), (7, _), (8, _), (9, _), (10, _)]) rfl ?_
    refine X.cs (cn' := 200) (ck' := 10000) ?_ (by decide) (by decide)
    have hI6 := hI.up ((EC.tr EW).tr E6) (M2 := M6) (fun y i hy => by
      rw [p6 _ _ (by omega) (by omega)]
      simp (disch := omega) only [mset_nea]
      rw [pw9 _ _ (by omega), pc9 _ _ (by omega)])
    exact law_text gB gC gR hS rfl (fun ns h co hco => hSet _ _ _ _ _ _ _ pw ns co hS rfl h hco) hPL rfl (by omega) (by omega) hI6.1 hI6.2.1 hI6.2.2.1 hI6.2.2.2.1 hI6.2.2.2.2 hQ (hL _) (by omega) k
  have stB : ∀ (pw : Nat) (v1 : Int), 2 ≤ pw → pw ≤ 5 → 0 ≤ v1 → v1 ≤ 9 → ∀ (lay2 : Lay) (M2 : Mem) (nn : Nat), lay2.2 = lay.2 + 33 → LwD g lay2 M2 lay.2 nn → nn ≤ 40 → X g m_L_law 100 5000 lay2 M2 45 [(4, vI v1), (3, vI (pw : Nat)), (1, vR lay.2), (2, vR (lay.2 + 1))] [] K := by
    intro pw v1 g1 g2 g3 g4 lay2 M2 nn hz2 hI hnn
    refine x_iconst (pc := 45) dL_law_45 ?_
    refine x_aload_n (pc := 46) dL_law_46 rfl rfl ?_
    refine x_bipush (pc := 47) dL_law_47 (by decide) ?_
    refine x_callV (pc := 49) [_] rfl kL_113 dL_law_49 hI.2.1.1.1 rfl rfl (by decide) (Nat.le_of_ble_eq_true rfl) (Nat.le_of_ble_eq_true rfl) (by decide) ?_
    refine sp_X7_next hI.2.1 (by omega) ⟨by omega, by omega⟩ (fun z2 M3 z2a z2b p3 hT3 => ?_)
    have hI := hI.draw p3 hT3
    refine ⟨_, rfl, ?_⟩
    refine x_iadd (pc := 52) dL_law_52 ?_
    refine x_istore (pc := 53) dL_law_53 trivial (by decide) (L' := [(5, _), (4, _), (3, _), (1, _), (2, _)]) rfl ?_
    refine x_iconst (pc := 55) dL_law_55 ?_
    refine x_aload_n (pc := 56) dL_law_56 rfl rfl ?_
    refine x_bipush (pc := 57) dL_law_57 (by decide) ?_
    refine x_callV (pc := 59) [_] rfl kL_113 dL_law_59 hI.2.1.1.1 rfl rfl (by decide) (Nat.le_of_ble_eq_true rfl) (Nat.le_of_ble_eq_true rfl) (by decide) ?_
    refine sp_X7_next hI.2.1 (by omega) ⟨by omega, by omega⟩ (fun z3 M3 z3a z3b p3 hT3 => ?_)
    have hI := hI.draw p3 hT3
    refine ⟨_, rfl, ?_⟩
    refine x_iadd (pc := 62) dL_law_62 ?_
    refine x_istore (pc := 63) dL_law_63 trivial (by decide) (L' := [(6, _), (5, _), (4, _), (3, _), (1, _), (2, _)]) rfl ?_
    refine x_aload_n (pc := 65) dL_law_65 rfl rfl ?_
    refine x_iconst (pc := 66) dL_law_66 ?_
    refine x_callV (pc := 67) [_] rfl kL_113 dL_law_67 hI.2.1.1.1 rfl rfl (by decide) (Nat.le_of_ble_eq_true rfl) (Nat.le_of_ble_eq_true rfl) (by decide) ?_
    refine sp_X7_next hI.2.1 (by omega) ⟨by omega, by omega⟩ (fun z4 M3 z4a z4b p3 hT3 => ?_)
    have hI := hI.draw p3 hT3
    refine ⟨_, rfl, ?_⟩
    refine x_if_ne (pc := 70) (t := 83) dL_law_70 (by decide) ⟨by omega, by omega⟩ (fun c70 => ?_) (fun c70 => ?_)
    · refine x_iconst (pc := 83) dL_law_83 ?_
      refine x_istore (pc := 84) dL_law_84 trivial (by decide) (L' := [(7, _), (6, _), (5, _), (4, _), (3, _), (1, _), (2, _)]) rfl ?_
      refine X.loc [0, 1, 2, 3, 4, 5, 6] (L' := [(7, _), (6, _), (5, _), (4, _), (3, _), (1, _), (2, _)]) rfl ?_
      exact stC pw v1 _ _ _ g1 g2 g3 g4 (by omega) (by omega) (by omega) (by omega) (by omega) (by omega) lay2 _ _ hz2 hI (by omega)
    · refine x_iconst (pc := 73) dL_law_73 ?_
      refine x_aload_n (pc := 74) dL_law_74 rfl rfl ?_
      refine x_iconst (pc := 75) dL_law_75 ?_
      refine x_callV (pc := 76) [_] rfl kL_113 dL_law_76 hI.2.1.1.1 rfl rfl (by decide) (Nat.le_of_ble_eq_true rfl) (Nat.le_of_ble_eq_true rfl) (by decide) ?_
      refine sp_X7_next hI.2.1 (by omega) ⟨by omega, by omega⟩ (fun z5 M3 z5a z5b p3 hT3 => ?_)
      have hI := hI.draw p3 hT3
      refine ⟨_, rfl, ?_⟩
      refine x_iadd (pc := 79) dL_law_79 ?_
      refine x_goto (pc := 80) (t := 84) dL_law_80 (by decide) ?_
      refine x_istore (pc := 84) dL_law_84 trivial (by decide) (L' := [(7, _), (6, _), (5, _), (4, _), (3, _), (1, _), (2, _)]) rfl ?_
      refine X.loc [0, 1, 2, 3, 4, 5, 6] (L' := [(7, _), (6, _), (5, _), (4, _), (3, _), (1, _), (2, _)]) rfl ?_
      exact stC pw v1 _ _ _ g1 g2 g3 g4 (by omega) (by omega) (by omega) (by omega) (by omega) (by omega) lay2 _ _ hz2 hI (by omega)
  refine x_newH (pc := 0) cnL_107 dL_law_0 ⟨by decide, by decide⟩ (fun d lay2 M2 e0 e1 E hp hd z0 => ?_)
  subst e0
  have hs := hs.ext E
  have hJ := hJ.ext E hp hg
  refine x_dup (pc := 3) dL_law_3 rfl ?_
  refine x_aload_n (pc := 4) dL_law_4 rfl rfl ?_
  refine x_callP (pc := 5) [_] rfl kpL_109 dL_law_5 rfl (by decide) (Nat.le_of_ble_eq_true rfl) (Nat.le_of_ble_eq_true rfl) (by decide) ?_
  refine sp_X7_init hd hg (z0 1) hs (fun M3 p3 hT => ?_)
  have hJ := hJ.ext (M2 := M3) Ext.rf (n := lay.2) (fun y i hy => p3 y i (by omega)) hg
  refine ⟨_, rfl, ?_⟩
  refine x_astore_n (pc := 8) dL_law_8 rfl (by decide) (L' := [(1, _), (0, _)]) rfl ?_
  refine x_newH (pc := 9) cnL_9 dL_law_9 ⟨by decide, by decide⟩ (fun b lay4 M4 e4 e5 E4 hp4 hb zb => ?_)
  obtain rfl : b = lay.2 + 1 := by omega
  refine x_dup (pc := 12) dL_law_12 rfl ?_
  refine x_callP (pc := 13) [] rfl kpL_112 dL_law_13 rfl (by decide) (Nat.le_of_ble_eq_true rfl) (Nat.le_of_ble_eq_true rfl) (by decide) ?_
  refine sp_X4_init hb.1 (by omega) (by omega) (fun lay5 M5 h5 hBel hDu hCt h50 h530 h525 h528 h529 => ?_)
  have E5 : Ext lay2 lay5 := ⟨by omega, fun x hx => (hBel.1 x (by omega)).trans (E4.2 x hx)⟩
  have hq : ∀ y i, y < lay.2 + 1 → M5 y i = M3 y i := fun y i hy => (hBel.2 y i hy).trans (hp4 y i hy)
  have hI : LwD g lay5 M5 lay.2 0 := ⟨hJ.ext E5 (n := lay.2) (fun y i hy => hq y i (by omega)) hg, hT.ext E5 (fun i => hq _ i (by omega)), ⟨hDu, by omega, by omega, hCt, tNew_wf⟩, ⟨fun _ => 0, 0, ⟨fun i _ => h530 i, (h50 8).trans (zb 8)⟩, by decide, by decide⟩, ⟨fun _ => 0, 0, fun j => if j = 4 then -1 else 0, fun i => M5 (lay.2 + 1 + 25 + 2) i, ⟨⟨by decide, rfl⟩, fun j _ _ => h525 j, fun i hi => absurd hi (Nat.not_lt_zero i)⟩, fun i _ => rfl⟩⟩
  have hd := hd.ext E5
  refine ⟨_, rfl, ?_⟩
  refine x_astore_n (pc := 16) dL_law_16 rfl (by decide) (L' := [(2, _), (1, _), (0, _)]) rfl ?_
  refine x_iconst (pc := 17) dL_law_17 ?_
  refine x_aload_n (pc := 18) dL_law_18 rfl rfl ?_
  refine x_iconst (pc := 19) dL_law_19 ?_
  refine x_callV (pc := 20) [_] rfl kL_113 dL_law_20 hd.1 rfl rfl (by decide) (Nat.le_of_ble_eq_true rfl) (Nat.le_of_ble_eq_true rfl) (by decide) ?_
  refine sp_X7_next hI.2.1 (by omega) ⟨by omega, by omega⟩ (fun z0 M3 z0a z0b p3 hT3 => ?_)
  have hI := hI.draw p3 hT3
  refine ⟨_, rfl, ?_⟩
  refine x_iadd (pc := 23) dL_law_23 ?_
  refine x_istore_n (pc := 24) dL_law_24 rfl (by decide) (L' := [(3, _), (2, _), (1, _), (0, _)]) rfl ?_
  refine x_aload_n (pc := 25) dL_law_25 rfl rfl ?_
  refine x_aload_n (pc := 26) dL_law_26 rfl rfl ?_
  refine x_iconst (pc := 27) dL_law_27 ?_
  refine x_callV (pc := 28) [_] rfl kL_113 dL_law_28 hd.1 rfl rfl (by decide) (Nat.le_of_ble_eq_true rfl) (Nat.le_of_ble_eq_true rfl) (by decide) ?_
  refine sp_X7_next hI.2.1 (by omega) ⟨by omega, by omega⟩ (fun z1 M3 z1a z1b p3 hT3 => ?_)
  have hI := hI.draw p3 hT3
  refine ⟨_, rfl, ?_⟩
  refine x_if_ne (pc := 31) (t := 38) dL_law_31 (by decide) ⟨by omega, by omega⟩ (fun c31 => ?_) (fun c31 => ?_)
  · refine x_bipush (pc := 38) dL_law_38 (by decide) ?_
    refine x_callV (pc := 40) [_] rfl kL_113 dL_law_40 hd.1 rfl rfl (by decide) (Nat.le_of_ble_eq_true rfl) (Nat.le_of_ble_eq_true rfl) (by decide) ?_
    refine sp_X7_next hI.2.1 (by omega) ⟨by omega, by omega⟩ (fun z2 M3 z2a z2b p3 hT3 => ?_)
    have hI := hI.draw p3 hT3
    refine ⟨_, rfl, ?_⟩
    refine x_istore (pc := 43) dL_law_43 trivial (by decide) (L' := [(4, _), (3, _), (2, _), (1, _), (0, _)]) rfl ?_
    refine X.loc [0, 1, 3, 2] (L' := [(4, _), (3, _), (1, _), (2, _)]) rfl ?_
    obtain ⟨pw, hpw⟩ : ∃ pw : Nat, (pw : Int) = 2 + z0 := ⟨(2 + z0).toNat, Int.toNat_of_nonneg (by omega)⟩
    rw [← hpw]
    refine X.cs (cn' := 100) (ck' := 5000) ?_ (by decide) (by decide)
    exact stB pw _ (by omega) (by omega) (by omega) (by omega) lay5 _ _ (by omega) hI (by omega)
  · refine x_iconst (pc := 34) dL_law_34 ?_
    refine x_goto (pc := 35) (t := 40) dL_law_35 (by decide) ?_
    refine x_callV (pc := 40) [_] rfl kL_113 dL_law_40 hd.1 rfl rfl (by decide) (Nat.le_of_ble_eq_true rfl) (Nat.le_of_ble_eq_true rfl) (by decide) ?_
    refine sp_X7_next hI.2.1 (by omega) ⟨by omega, by omega⟩ (fun z2 M3 z2a z2b p3 hT3 => ?_)
    have hI := hI.draw p3 hT3
    refine ⟨_, rfl, ?_⟩
    refine x_istore (pc := 43) dL_law_43 trivial (by decide) (L' := [(4, _), (3, _), (2, _), (1, _), (0, _)]) rfl ?_
    refine X.loc [0, 1, 3, 2] (L' := [(4, _), (3, _), (1, _), (2, _)]) rfl ?_
    obtain ⟨pw, hpw⟩ : ∃ pw : Nat, (pw : Int) = 2 + z0 := ⟨(2 + z0).toNat, Int.toNat_of_nonneg (by omega)⟩
    rw [← hpw]
    refine X.cs (cn' := 100) (ck' := 5000) ?_ (by decide) (by decide)
    exact stB pw _ (by omega) (by omega) (by omega) (by omega) lay5 _ _ (by omega) hI (by omega)
