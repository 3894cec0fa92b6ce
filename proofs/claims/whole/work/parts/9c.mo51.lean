/-! The law: save, restore; the loop. -/
/-- the cells tell the value -/
theorem Ct.uniq {T T' : CT} {M : Mem} {c : Nat} (h : Ct T M c) (g : Ct T' M c) (hW : WfP (tP T)) (gW : WfP (tP T')) : TEq T T' := by
  obtain ⟨h1, h2, h3, h4, h5, h6, h7, h8⟩ := h
  obtain ⟨g1, g2, g3, g4, g5, g6, g7, g8⟩ := g
  have eN : tN T = tN T' := by omega
  have eK : ∀ p, p < 2 → tK T p = tK T' p := fun p hp => by
    have a1 := h5 p hp
    have a2 := g5 p hp
    omega
  refine ⟨fun j hj => (h1 j hj).symm.trans (g1 j hj), fun j => ?_, eN, fun j hj => ⟨(h4 j hj).1.symm.trans (g4 j (by omega)).1, (h4 j hj).2.symm.trans (g4 j (by omega)).2⟩, eK, fun p i f hp hi hf => (h6 p i f hp hi hf).symm.trans (g6 p i f hp (by rw [← eK p hp]; exact hi) hf), h7.symm.trans g7, h8.symm.trans g8⟩
  by_cases hj : j < 5
  · exact (h2 j hj).symm.trans (g2 j hj)
  · rw [(hW j).2.2 (by omega), (gW j).2.2 (by omega)]
set_option maxRecDepth 100000 in
theorem law_save {g : GG} {lay : Lay} {M : Mem} {K : KK} {sa len b : Nat} {i : Int} {cn ck : Nat} (G : GoodA) (hL : LI g sa len b lay M) (hi : 0 ≤ i ∧ i + 6 ≤ (len : Int)) (hc : cn + 7 ≤ 601024 ∧ ck + 191 ≤ 7293034) (k : CK g sa len b i cn ck K) : X g m_L_law cn ck lay M 1818 [(5, vI i), (4, vR (b + 46)), (3, vR (b + 45)), (2, vR (b + 32)), (1, vR b), (0, vR sa)] [] K := by
  obtain ⟨T, A, u, H, tx, n, v, cm, pg, S, sv, hL⟩ := hL
  obtain ⟨⟨hg, hsb, hSc, htop, hMo, hO1, hO2⟩, hD, ⟨cT, cA, cR, cC, cP⟩, hR, hSv, ⟨hW, hO, hB⟩, hH, hX⟩ := id hL
  have hu : 0 ≤ (u : Int) ∧ (u : Int) ≤ 12 := ⟨by omega, by have := hH.1; omega⟩
  have hdg : g.2.1 ≤ b + 32 := by omega
  obtain ⟨gB, gC, gM, gE, gF⟩ := id G
  obtain ⟨p1, e1⟩ : ∃ z, z = M sa (i + 1).toNat := ⟨_, rfl⟩
  have hsv7 : ∀ i a, i < 2 → sv i = some a → a + 7 ≤ lay.2 := fun i a hi ha => by
    rcases hSv.2 i hi with ⟨z, -⟩ | ⟨a2, T', z1, z2, z3, z4, -⟩
    · rw [z] at ha
      cases ha
    · rw [z1] at ha
      cases ha
      exact z4
  by_cases g1 : 0 ≤ p1 ∧ p1 < 2
  · refine x_aload_n (pc := 1818) dL_law_1818 rfl rfl ?_
    refine x_aload_n (pc := 1819) dL_law_1819 rfl rfl ?_
    refine x_iload (pc := 1820) dL_law_1820 rfl ?_
    refine x_iconst (pc := 1822) dL_law_1822 ?_
    refine x_iadd (pc := 1823) dL_law_1823 ?_
    refine x_iald (pc := 1824) dL_law_1824 hSc (by omega) (by omega) (fun a1 b1 => ?_)
    rw [← e1] at a1 b1 ⊢
    have R1 : i32 p1 := ⟨a1, b1⟩
    refine x_callSH (pc := 1825) [_, _] rfl kh_save dL_law_1825 rfl ⟨Nat.le_of_ble_eq_true rfl, Nat.le_of_ble_eq_true rfl⟩ (Nat.le_of_ble_eq_true rfl) (Nat.le_of_ble_eq_true rfl) ⟨by show cn + 7 ≤ 601024; omega, by show ck + 191 ≤ 7293034; omega⟩ ?_
    refine sp_L_save hD.1 (sp_X4_save hD hg R1 cT hW (by omega) hsv7 (fun z => absurd g1 z) (fun l2 M2 sv2 d y0 y1 y2 y3 y4 y5 y6 y7 => Or.inl ⟨rfl, ?_⟩))
    refine ⟨_, rfl, ?_⟩
    have hd47 : b + 47 ≤ d ∧ d + 7 ≤ l2.2 ∧ lay.2 ≤ l2.2 := by
      rcases y3 with ⟨y8, y9⟩ | ⟨y8, y9⟩
      · rcases hSv.2 _ (show p1.toNat < 2 by omega) with ⟨z, -⟩ | ⟨a2, T', z1, z2, z3, z4, -⟩
        · rw [z] at y8
          cases y8
        · rw [z1] at y8
          cases y8
          rw [y9]
          exact ⟨z3, z4, Nat.le_refl _⟩
      · omega
    have eM : ∀ a j, a < b + 47 → M2 a j = M a j := fun a j z => y6 a j (by omega) (by omega)
    have eL : ∀ a, a < b + 47 → a ≠ b + 15 → l2.1 a = lay.1 a := fun a z1 z2 => y5 a z2 (by omega)
    have hMo2 := hMo.tr (l' := l2) (fun a z1 z2 => eL a (by omega) (by omega))
    have hSc2 : l2.1 sa = some (1, len, fun _ => none) := (eL _ (by omega) (by omega)).trans hSc
    have hR2 := hR.fr (M2 := M2) (fun a j z1 z2 => eM a j (by omega))
    obtain ⟨rT, rA, rU, rB, rW, rX, ⟨rE3, rE4⟩, rP, rS⟩ := id hR2
    have hsc2 : ∀ j, M2 sa j = M sa j := fun j => eM _ j (by omega)
    refine x_istore (pc := 1828) dL_law_1828 trivial (by decide) (L' := [(6, _), (5, _), (4, _), (3, _), (2, _), (1, _), (0, _)]) rfl ?_
    refine x_aload_n (pc := 1830) dL_law_1830 rfl rfl ?_
    refine x_aload_n (pc := 1831) dL_law_1831 rfl rfl ?_
    refine x_iload (pc := 1832) dL_law_1832 rfl ?_
    refine x_iconst (pc := 1834) dL_law_1834 ?_
    refine x_iadd (pc := 1835) dL_law_1835 ?_
    refine x_iald (pc := 1836) dL_law_1836 hSc2 (by omega) (by omega) (fun _ _ => ?_)
    rw [show M2 sa (i + 1).toNat = p1 from (hsc2 _).trans e1.symm]
    refine x_callV (pc := 1837) [_] rfl kL_228 dL_law_1837 hMo2.1 rfl rfl ⟨Nat.le_of_ble_eq_true rfl, Nat.le_of_ble_eq_true rfl⟩ (Nat.le_of_ble_eq_true rfl) (Nat.le_of_ble_eq_true rfl) ⟨by show cn + 7 + 0 ≤ 601024; omega, by show ck + 191 + 0 ≤ 7293034; omega⟩ ?_
    have h5 : X g m_X5_save 0 0 l2 M2 0 [(0, vR (b + 32)), (1, vI p1)] [] (fun o l3 M3 => o = .inl none ∧ l3 = l2 ∧ M3 (b + 32) 0 = 0 ∧ (∀ a j, ¬ (a = b + 32 ∧ j = 0) → ¬ a = b + 32 + 4 → ¬ a = b + 32 + 5 → M3 a j = M2 a j) ∧ Sv (fun i => if i = p1.toNat then some T else S i) M3 (b + 32)) := sp_X5_save hMo2 hdg rT hW rS R1 (fun z => absurd z (by omega)) (fun _ M3 z1 z2 z3 => ⟨rfl, rfl, z2, z1, z3⟩)
    refine X.mono h5 (fun o l3 M3 z => ?_)
    obtain ⟨rfl, rfl, z4, w1, w2⟩ := z
    refine ⟨_, rfl, ?_⟩
    refine x_aload_n (pc := 1840) dL_law_1840 rfl rfl ?_
    refine x_callV (pc := 1841) [] rfl kL_101 dL_law_1841 hMo2.1 rfl rfl ⟨Nat.le_of_ble_eq_true rfl, Nat.le_of_ble_eq_true rfl⟩ (Nat.le_of_ble_eq_true rfl) (Nat.le_of_ble_eq_true rfl) ⟨by show cn + 7 + 0 + 0 ≤ 601024; omega, by show ck + 191 + 0 + 0 ≤ 7293034; omega⟩ ?_
    refine sp_X5_thrown hMo2 (fun _ _ => ⟨_, rfl, ?_⟩)
    rw [z4]
    refine x_iload (pc := 1844) dL_law_1844 rfl ?_
    refine x_icmp_eq (pc := 1846) (t := 1851) dL_law_1846 (by decide) ⟨by decide, by decide⟩ ⟨by decide, by decide⟩ (fun _ => ?_) (fun z => absurd rfl z)
    refine x_goto (pc := 1851) (t := 1890) dL_law_1851 (by decide) ?_
    refine X.loc [1, 2, 3, 4, 5, 6] (L' := [(5, _), (4, _), (3, _), (2, _), (1, _), (0, _)]) rfl ?_
    refine k _ _ _ _ (by show cn + 7 + 0 + 0 ≤ cn + 7; omega) (by show ck + 191 + 0 + 0 ≤ ck + 191; omega) ?_
    have e3 : ∀ a j, ¬ (b + 32 ≤ a ∧ a < b + 45) → M3 a j = M2 a j := fun a j q => w1 a j (by omega) (by omega) (by omega)
    refine ⟨T, A, u, H, tx, n, v, cm, pg, _, sv2, ⟨hg, hsb, hSc2, by omega, hMo2, (eL _ (by omega) (by omega)).trans hO1, (eL _ (by omega) (by omega)).trans hO2⟩, y4, (show CIv T A u tx n v cm pg M b from ⟨cT, cA, cR, cC, cP⟩).fr (fun a j q => (e3 a j (by omega)).trans (eM a j (by omega))), ⟨rT.fe (fun j => w1 _ j (by omega) (by omega) (by omega)), rA.fr (fun j => w1 _ j (by omega) (by omega) (by omega)), rU.fr (fun j => w1 _ j (by omega) (by omega) (by omega)) (w1 _ _ (by omega) (by omega) (by omega)), Bg.fr2 rB (fun j => w1 _ j (by omega) (by omega) (by omega)), rW.fr (fun j => w1 _ j (by omega) (by omega) (by omega)), rX.z (w1 _ _ (by omega) (by omega) (by omega)) (fun j => w1 _ j (by omega) (by omega) (by omega)), ⟨(w1 _ _ (by omega) (by omega) (by omega)).trans rE3, (w1 _ _ (by omega) (by omega) (by omega)).trans rE4⟩, rP.fr (w1 _ _ (by omega) (by omega) (by omega)) (fun j => w1 _ j (by omega) (by omega) (by omega)), w2⟩, ⟨fun j hj => (y2 j (by omega)).trans (hSv.1 j hj), fun j hj => ?_⟩, ⟨hW, hO, hB⟩, hH, hX⟩
    by_cases ej : j = p1.toNat
    · rw [ej]
      exact Or.inr ⟨d, T, y1, if_pos rfl, hd47.1, hd47.2.1, y7.gen (fun a j z1 z2 => e3 a j (by omega)), ⟨hW, hO, hB⟩⟩
    · rcases hSv.2 j hj with ⟨z, z0⟩ | ⟨a2, T', z1, z2, z3, z9, z5, z6⟩
      · exact Or.inl ⟨(y2 j ej).trans z, (if_neg ej).trans z0⟩
      · have hdis : a2 + 7 ≤ d ∨ d + 7 ≤ a2 := by
          have f := y4.2.2.2.2.2.2.2.2.2.2
          have q1 : sv2 j = some a2 := (y2 j ej).trans z1
          by_cases j0 : j = 0
          · have p : p1.toNat = 1 := by omega
            rw [j0] at q1
            rw [p] at y1
            exact f _ _ q1 y1
          · have j1 : j = 1 := by omega
            have p : p1.toNat = 0 := by omega
            rw [j1] at q1
            rw [p] at y1
            exact (f _ _ y1 q1).symm
        exact Or.inr ⟨a2, T', (y2 j ej).trans z1, (if_neg ej).trans z2, z3, by omega, z5.gen (fun a j q1 q2 => (e3 a j (by omega)).trans (y6 a j (by omega) (by omega))), z6⟩
  · refine x_aload_n (pc := 1818) dL_law_1818 rfl rfl ?_
    refine x_aload_n (pc := 1819) dL_law_1819 rfl rfl ?_
    refine x_iload (pc := 1820) dL_law_1820 rfl ?_
    refine x_iconst (pc := 1822) dL_law_1822 ?_
    refine x_iadd (pc := 1823) dL_law_1823 ?_
    refine x_iald (pc := 1824) dL_law_1824 hSc (by omega) (by omega) (fun a1 b1 => ?_)
    rw [← e1] at a1 b1 ⊢
    have R1 : i32 p1 := ⟨a1, b1⟩
    refine x_callSH (pc := 1825) [_, _] rfl kh_save dL_law_1825 rfl ⟨Nat.le_of_ble_eq_true rfl, Nat.le_of_ble_eq_true rfl⟩ (Nat.le_of_ble_eq_true rfl) (Nat.le_of_ble_eq_true rfl) ⟨by show cn + 7 ≤ 601024; omega, by show ck + 191 ≤ 7293034; omega⟩ ?_
    refine sp_L_save hD.1 (sp_X4_save hD hg R1 cT hW (by omega) hsv7 (fun _ m hm => Or.inr ⟨rfl, ?_⟩) (fun _ _ _ _ z => absurd z g1))
    refine ⟨_, rfl, ?_⟩
    obtain ⟨l2, hl2⟩ : ∃ l2 : Lay, l2 = (lay.1, m) := ⟨_, rfl⟩
    obtain ⟨M2, hM9⟩ : ∃ M2 : Mem, M2 = M := ⟨_, rfl⟩
    have hl9 : l2.1 = lay.1 := by rw [hl2]
    have hl8 : lay.2 ≤ l2.2 := by rw [hl2]; exact hm
    rw [← hl2, ← hM9]
    have hMo2 := hMo.up hl9
    have hSc2 : l2.1 sa = some (1, len, fun _ => none) := by rw [hl9]; exact hSc
    have hsc2 : ∀ j, M2 sa j = M sa j := fun _ => by rw [hM9]
    have hL2 := hL.c (M2 := M2) (l2 := l2) (M1 := M) hl9 hl8 (fun _ _ _ _ _ => rfl) (fun _ _ _ _ => by rw [hM9])
    obtain ⟨-, -, -, ⟨rT, rA, rU, rB, rW, rX, rE, rP, rS⟩, -⟩ := id hL2
    refine x_istore (pc := 1828) dL_law_1828 trivial (by decide) (L' := [(6, _), (5, _), (4, _), (3, _), (2, _), (1, _), (0, _)]) rfl ?_
    refine x_aload_n (pc := 1830) dL_law_1830 rfl rfl ?_
    refine x_aload_n (pc := 1831) dL_law_1831 rfl rfl ?_
    refine x_iload (pc := 1832) dL_law_1832 rfl ?_
    refine x_iconst (pc := 1834) dL_law_1834 ?_
    refine x_iadd (pc := 1835) dL_law_1835 ?_
    refine x_iald (pc := 1836) dL_law_1836 hSc2 (by omega) (by omega) (fun _ _ => ?_)
    rw [show M2 sa (i + 1).toNat = p1 from (hsc2 _).trans e1.symm]
    refine x_callV (pc := 1837) [_] rfl kL_228 dL_law_1837 hMo2.1 rfl rfl ⟨Nat.le_of_ble_eq_true rfl, Nat.le_of_ble_eq_true rfl⟩ (Nat.le_of_ble_eq_true rfl) (Nat.le_of_ble_eq_true rfl) ⟨by show cn + 7 + 0 ≤ 601024; omega, by show ck + 191 + 0 ≤ 7293034; omega⟩ ?_
    have h5 : X g m_X5_save 0 0 l2 M2 0 [(0, vR (b + 32)), (1, vI p1)] [] (fun o l3 M3 => o = .inl none ∧ l3 = l2 ∧ M3 (b + 32) 0 = 1 ∧ FrZ (b + 32) M2 M3) := sp_X5_save hMo2 hdg rT hW rS R1 (fun _ M3 z1 z2 => ⟨rfl, rfl, z2, z1⟩) (fun z => absurd z (by omega))
    refine X.mono h5 (fun o l3 M3 z => ?_)
    obtain ⟨rfl, rfl, z4, w1⟩ := z
    refine ⟨_, rfl, ?_⟩
    refine x_aload_n (pc := 1840) dL_law_1840 rfl rfl ?_
    refine x_callV (pc := 1841) [] rfl kL_101 dL_law_1841 hMo2.1 rfl rfl ⟨Nat.le_of_ble_eq_true rfl, Nat.le_of_ble_eq_true rfl⟩ (Nat.le_of_ble_eq_true rfl) (Nat.le_of_ble_eq_true rfl) ⟨by show cn + 7 + 0 + 0 ≤ 601024; omega, by show ck + 191 + 0 + 0 ≤ 7293034; omega⟩ ?_
    refine sp_X5_thrown hMo2 (fun _ _ => ⟨_, rfl, ?_⟩)
    rw [z4]
    refine x_iload (pc := 1844) dL_law_1844 rfl ?_
    refine x_icmp_eq (pc := 1846) (t := 1851) dL_law_1846 (by decide) ⟨by decide, by decide⟩ ⟨by decide, by decide⟩ (fun _ => ?_) (fun z => absurd rfl z)
    refine x_goto (pc := 1851) (t := 1890) dL_law_1851 (by decide) ?_
    refine X.loc [1, 2, 3, 4, 5, 6] (L' := [(5, _), (4, _), (3, _), (2, _), (1, _), (0, _)]) rfl ?_
    refine k _ _ _ _ (by show cn + 7 + 0 + 0 ≤ cn + 7; omega) (by show ck + 191 + 0 + 0 ≤ ck + 191; omega) ?_
    exact ⟨T, A, u, H, tx, n, v, cm, pg, S, sv, hL2.z w1⟩
set_option maxRecDepth 100000 in
theorem law_restore {g : GG} {lay : Lay} {M : Mem} {K : KK} {sa len b : Nat} {i : Int} {cn ck : Nat} (G : GoodA) (hL : LI g sa len b lay M) (hi : 0 ≤ i ∧ i + 6 ≤ (len : Int)) (hc : cn + 7 ≤ 601024 ∧ ck + 191 ≤ 7293034) (k : CK g sa len b i cn ck K) : X g m_L_law cn ck lay M 1854 [(5, vI i), (4, vR (b + 46)), (3, vR (b + 45)), (2, vR (b + 32)), (1, vR b), (0, vR sa)] [] K := by
  obtain ⟨T, A, u, H, tx, n, v, cm, pg, S, sv, hL⟩ := hL
  obtain ⟨⟨hg, hsb, hSc, htop, hMo, hO1, hO2⟩, hD, ⟨cT, cA, cR, cC, cP⟩, hR, hSv, ⟨hW, hO, hB⟩, hH, hX⟩ := id hL
  have hu : 0 ≤ (u : Int) ∧ (u : Int) ≤ 12 := ⟨by omega, by have := hH.1; omega⟩
  have hdg : g.2.1 ≤ b + 32 := by omega
  obtain ⟨gB, gC, gM, gE, gF⟩ := id G
  obtain ⟨p1, e1⟩ : ∃ z, z = M sa (i + 1).toNat := ⟨_, rfl⟩
  have hTs : ∀ a, sv p1.toNat = some a → ∃ T, Ct T M a ∧ WfT T := fun a ha => by
    by_cases hp : p1.toNat < 2
    · rcases hSv.2 _ hp with ⟨z, -⟩ | ⟨a2, T', z1, z2, z3, z4, z5, z6⟩
      · rw [z] at ha
        cases ha
      · rw [z1] at ha
        cases ha
        exact ⟨T', z5, z6.1⟩
    · rw [hSv.1 _ (by omega)] at ha
      cases ha
  by_cases g1 : 0 ≤ p1 ∧ p1 < 2
  · rcases hSv.2 _ (show p1.toNat < 2 by omega) with ⟨z0, z00⟩ | ⟨a2, T', z1, z2, z3, z4, z5, z6⟩
    · refine x_aload_n (pc := 1854) dL_law_1854 rfl rfl ?_
      refine x_aload_n (pc := 1855) dL_law_1855 rfl rfl ?_
      refine x_iload (pc := 1856) dL_law_1856 rfl ?_
      refine x_iconst (pc := 1858) dL_law_1858 ?_
      refine x_iadd (pc := 1859) dL_law_1859 ?_
      refine x_iald (pc := 1860) dL_law_1860 hSc (by omega) (by omega) (fun a1 b1 => ?_)
      rw [← e1] at a1 b1 ⊢
      have R1 : i32 p1 := ⟨a1, b1⟩
      refine x_callSH (pc := 1861) [_, _] rfl kh_restore dL_law_1861 rfl ⟨Nat.le_of_ble_eq_true rfl, Nat.le_of_ble_eq_true rfl⟩ (Nat.le_of_ble_eq_true rfl) (Nat.le_of_ble_eq_true rfl) ⟨by show cn + 1 ≤ 601024; omega, by show ck + 6 ≤ 7293034; omega⟩ ?_
      refine sp_L_restore hD.1 (sp_X4_restore hD hg R1 (fun z => absurd g1 z) (fun _ _ m hm => Or.inr (Or.inr ⟨rfl, ?_⟩)) hTs (fun a _ _ _ z => by rw [z0] at z; cases z))
      refine ⟨_, rfl, ?_⟩
      obtain ⟨l2, hl2⟩ : ∃ l2 : Lay, l2 = (lay.1, m) := ⟨_, rfl⟩
      obtain ⟨M2, hM9⟩ : ∃ M2 : Mem, M2 = M := ⟨_, rfl⟩
      have hl9 : l2.1 = lay.1 := by rw [hl2]
      have hl8 : lay.2 ≤ l2.2 := by rw [hl2]; exact hm
      rw [← hl2, ← hM9]
      have hMo2 := hMo.up hl9
      have hSc2 : l2.1 sa = some (1, len, fun _ => none) := by rw [hl9]; exact hSc
      have hsc2 : ∀ j, M2 sa j = M sa j := fun _ => by rw [hM9]
      have hL2 := hL.c (M2 := M2) (l2 := l2) (M1 := M) hl9 hl8 (fun _ _ _ _ _ => rfl) (fun _ _ _ _ => by rw [hM9])
      obtain ⟨-, -, -, ⟨rT, rA, rU, rB, rW, rX, rE, rP, rS⟩, -⟩ := id hL2
      refine x_istore (pc := 1864) dL_law_1864 trivial (by decide) (L' := [(6, _), (5, _), (4, _), (3, _), (2, _), (1, _), (0, _)]) rfl ?_
      refine x_aload_n (pc := 1866) dL_law_1866 rfl rfl ?_
      refine x_aload_n (pc := 1867) dL_law_1867 rfl rfl ?_
      refine x_iload (pc := 1868) dL_law_1868 rfl ?_
      refine x_iconst (pc := 1870) dL_law_1870 ?_
      refine x_iadd (pc := 1871) dL_law_1871 ?_
      refine x_iald (pc := 1872) dL_law_1872 hSc2 (by omega) (by omega) (fun _ _ => ?_)
      rw [show M2 sa (i + 1).toNat = p1 from (hsc2 _).trans e1.symm]
      refine x_callV (pc := 1873) [_] rfl kL_231 dL_law_1873 hMo2.1 rfl rfl ⟨Nat.le_of_ble_eq_true rfl, Nat.le_of_ble_eq_true rfl⟩ (Nat.le_of_ble_eq_true rfl) (Nat.le_of_ble_eq_true rfl) ⟨by show cn + 1 + 0 ≤ 601024; omega, by show ck + 6 + 0 ≤ 7293034; omega⟩ ?_
      have h5 : X g m_X5_restore 0 0 l2 M2 0 [(0, vR (b + 32)), (1, vI p1)] [] (fun o l3 M3 => o = .inl none ∧ l3 = l2 ∧ M3 (b + 32) 0 = 2 ∧ FrZ (b + 32) M2 M3) := sp_X5_restore hMo2 hdg rT hW rS R1 (fun M3 t z9 z1 z2 => ⟨rfl, rfl, by omega, z1⟩) (fun T2 _ z => by rw [z00] at z; cases z)
      refine X.mono h5 (fun o l3 M3 z => ?_)
      obtain ⟨rfl, rfl, z4, w1⟩ := z
      refine ⟨_, rfl, ?_⟩
      refine x_aload_n (pc := 1876) dL_law_1876 rfl rfl ?_
      refine x_callV (pc := 1877) [] rfl kL_101 dL_law_1877 hMo2.1 rfl rfl ⟨Nat.le_of_ble_eq_true rfl, Nat.le_of_ble_eq_true rfl⟩ (Nat.le_of_ble_eq_true rfl) (Nat.le_of_ble_eq_true rfl) ⟨by show cn + 1 + 0 + 0 ≤ 601024; omega, by show ck + 6 + 0 + 0 ≤ 7293034; omega⟩ ?_
      refine sp_X5_thrown hMo2 (fun _ _ => ⟨_, rfl, ?_⟩)
      rw [z4]
      refine x_iload (pc := 1880) dL_law_1880 rfl ?_
      refine x_icmp_eq (pc := 1882) (t := 1887) dL_law_1882 (by decide) ⟨by decide, by decide⟩ ⟨by decide, by decide⟩ (fun _ => ?_) (fun z => absurd rfl z)
      refine x_goto (pc := 1887) (t := 1890) dL_law_1887 (by decide) ?_
      refine X.loc [1, 2, 3, 4, 5, 6] (L' := [(5, _), (4, _), (3, _), (2, _), (1, _), (0, _)]) rfl ?_
      refine k _ _ _ _ (by show cn + 1 + 0 + 0 ≤ cn + 7; omega) (by show ck + 6 + 0 + 0 ≤ ck + 191; omega) ?_
      exact ⟨T, A, u, H, tx, n, v, cm, pg, S, sv, hL2.z w1⟩
    · refine x_aload_n (pc := 1854) dL_law_1854 rfl rfl ?_
      refine x_aload_n (pc := 1855) dL_law_1855 rfl rfl ?_
      refine x_iload (pc := 1856) dL_law_1856 rfl ?_
      refine x_iconst (pc := 1858) dL_law_1858 ?_
      refine x_iadd (pc := 1859) dL_law_1859 ?_
      refine x_iald (pc := 1860) dL_law_1860 hSc (by omega) (by omega) (fun a1 b1 => ?_)
      rw [← e1] at a1 b1 ⊢
      have R1 : i32 p1 := ⟨a1, b1⟩
      refine x_callSH (pc := 1861) [_, _] rfl kh_restore dL_law_1861 rfl ⟨Nat.le_of_ble_eq_true rfl, Nat.le_of_ble_eq_true rfl⟩ (Nat.le_of_ble_eq_true rfl) (Nat.le_of_ble_eq_true rfl) ⟨by show cn + 1 ≤ 601024; omega, by show ck + 6 ≤ 7293034; omega⟩ ?_
      refine sp_L_restore hD.1 (sp_X4_restore hD hg R1 (fun z => absurd g1 z) (fun _ z => by rw [z1] at z; cases z) hTs (fun a9 T9 M2 _ y1 y2 y3 y4 y5 y6 => Or.inl ⟨rfl, ?_⟩))
      refine ⟨_, rfl, ?_⟩
      obtain ⟨l2, hl2⟩ : ∃ l2 : Lay, l2 = lay := ⟨_, rfl⟩
      subst hl2
      rw [z1] at y1
      cases y1
      have y7 : Ct T' M2 (b + 1) := y5.teq (y2.uniq z5 y3.2.1 z6.1.2.1)
      have hMo2 := hMo
      have hSc2 := hSc
      have hR2 := hR.fr (M2 := M2) (fun a j z1 z2 => y4 a j (by omega))
      obtain ⟨rT, rA, rU, rB, rW, rX, ⟨rE3, rE4⟩, rP, rS⟩ := id hR2
      have hsc2 : ∀ j, M2 sa j = M sa j := fun j => y4 _ j (by omega)
      refine x_istore (pc := 1864) dL_law_1864 trivial (by decide) (L' := [(6, _), (5, _), (4, _), (3, _), (2, _), (1, _), (0, _)]) rfl ?_
      refine x_aload_n (pc := 1866) dL_law_1866 rfl rfl ?_
      refine x_aload_n (pc := 1867) dL_law_1867 rfl rfl ?_
      refine x_iload (pc := 1868) dL_law_1868 rfl ?_
      refine x_iconst (pc := 1870) dL_law_1870 ?_
      refine x_iadd (pc := 1871) dL_law_1871 ?_
      refine x_iald (pc := 1872) dL_law_1872 hSc2 (by omega) (by omega) (fun _ _ => ?_)
      rw [show M2 sa (i + 1).toNat = p1 from (hsc2 _).trans e1.symm]
      refine x_callV (pc := 1873) [_] rfl kL_231 dL_law_1873 hMo2.1 rfl rfl ⟨Nat.le_of_ble_eq_true rfl, Nat.le_of_ble_eq_true rfl⟩ (Nat.le_of_ble_eq_true rfl) (Nat.le_of_ble_eq_true rfl) ⟨by show cn + 1 + 0 ≤ 601024; omega, by show ck + 6 + 0 ≤ 7293034; omega⟩ ?_
      have h5 : X g m_X5_restore 0 0 l2 M2 0 [(0, vR (b + 32)), (1, vI p1)] [] (fun o l3 M3 => o = .inl none ∧ l3 = l2 ∧ M3 (b + 32) 0 = 0 ∧ (∀ a j, ¬ (a = b + 32 ∧ (j = 0 ∨ j = 4)) → ¬ a = b + 32 + 1 → M3 a j = M2 a j) ∧ RowT T' (M3 (b + 32 + 1)) ∧ M3 (b + 32) 4 = 0) := sp_X5_restore hMo2 hdg rT hW rS R1 (fun M3 t q _ _ => by rw [z2] at q; exact q.elim (fun q => absurd g1 (by omega)) (fun q => by cases q.2.1)) (fun T2 _ q _ M3 q1 q2 q3 q4 => by rw [z2] at q; cases q; exact ⟨rfl, rfl, q2, q1, q3, q4⟩)
      refine X.mono h5 (fun o l3 M3 z => ?_)
      obtain ⟨rfl, rfl, z4, w1, w2, w3⟩ := z
      refine ⟨_, rfl, ?_⟩
      refine x_aload_n (pc := 1876) dL_law_1876 rfl rfl ?_
      refine x_callV (pc := 1877) [] rfl kL_101 dL_law_1877 hMo2.1 rfl rfl ⟨Nat.le_of_ble_eq_true rfl, Nat.le_of_ble_eq_true rfl⟩ (Nat.le_of_ble_eq_true rfl) (Nat.le_of_ble_eq_true rfl) ⟨by show cn + 1 + 0 + 0 ≤ 601024; omega, by show ck + 6 + 0 + 0 ≤ 7293034; omega⟩ ?_
      refine sp_X5_thrown hMo2 (fun _ _ => ⟨_, rfl, ?_⟩)
      rw [z4]
      refine x_iload (pc := 1880) dL_law_1880 rfl ?_
      refine x_icmp_eq (pc := 1882) (t := 1887) dL_law_1882 (by decide) ⟨by decide, by decide⟩ ⟨by decide, by decide⟩ (fun _ => ?_) (fun z => absurd rfl z)
      refine x_goto (pc := 1887) (t := 1890) dL_law_1887 (by decide) ?_
      refine X.loc [1, 2, 3, 4, 5, 6] (L' := [(5, _), (4, _), (3, _), (2, _), (1, _), (0, _)]) rfl ?_
      refine k _ _ _ _ (by show cn + 1 + 0 + 0 ≤ cn + 7; omega) (by show ck + 6 + 0 + 0 ≤ ck + 191; omega) ?_
      have e3 : ∀ a j, ¬ (b + 32 ≤ a ∧ a < b + 45) → M3 a j = M2 a j := fun a j q => w1 a j (by omega) (by omega)
      have e4 : ∀ a j, ¬ (b ≤ a ∧ a < b + 8) → ¬ (b + 32 ≤ a ∧ a < b + 45) → M3 a j = M a j := fun a j q1 q2 => (e3 a j q2).trans (y4 a j q1)
      exact ⟨T', A, 0, H, tx, n, v, cm, pg, S, sv, ⟨hg, hsb, hSc, htop, hMo, hO1, hO2⟩, hD, ⟨y7.gen (fun a j q1 q2 => e3 a j (by omega)), ⟨fun i hi => by rw [e4 _ _ (by omega) (by omega)]; exact cA.1 i hi, by rw [e3 _ _ (by omega)]; exact y6⟩, ⟨cR.1, fun j q1 q2 => by rw [e4 _ _ (by omega) (by omega)]; exact cR.2.1 j q1 q2, fun i hi => by rw [e4 _ _ (by omega) (by omega)]; exact cR.2.2 i hi⟩, fun i hi => by rw [e4 _ _ (by omega) (by omega)]; exact cC i hi, ⟨by rw [e4 _ _ (by omega) (by omega)]; exact cP.1, cP.2.1, fun i hi => by rw [e4 _ _ (by omega) (by omega)]; exact cP.2.2 i hi⟩⟩, ⟨w2, rA.fr (fun j => w1 _ j (by omega) (by omega)), ⟨⟨w3, by omega⟩, fun i hi => absurd hi (Nat.not_lt_zero i)⟩, Bg.fr2 rB (fun j => w1 _ j (by omega) (by omega)), rW.fr (fun j => w1 _ j (by omega) (by omega)), rX.z (w1 _ _ (by omega) (by omega)) (fun j => w1 _ j (by omega) (by omega)), ⟨(w1 _ _ (by omega) (by omega)).trans rE3, (w1 _ _ (by omega) (by omega)).trans rE4⟩, rP.fr (w1 _ _ (by omega) (by omega)) (fun j => w1 _ j (by omega) (by omega)), rS.fr (fun j => w1 _ j (by omega) (by omega)) (fun j => w1 _ j (by omega) (by omega))⟩, hSv.fr (Nat.le_refl _) (fun a j q1 q2 => e4 a j (by omega) (by omega)), z6, Hs.none, hX⟩
  · refine x_aload_n (pc := 1854) dL_law_1854 rfl rfl ?_
    refine x_aload_n (pc := 1855) dL_law_1855 rfl rfl ?_
    refine x_iload (pc := 1856) dL_law_1856 rfl ?_
    refine x_iconst (pc := 1858) dL_law_1858 ?_
    refine x_iadd (pc := 1859) dL_law_1859 ?_
    refine x_iald (pc := 1860) dL_law_1860 hSc (by omega) (by omega) (fun a1 b1 => ?_)
    rw [← e1] at a1 b1 ⊢
    have R1 : i32 p1 := ⟨a1, b1⟩
    refine x_callSH (pc := 1861) [_, _] rfl kh_restore dL_law_1861 rfl ⟨Nat.le_of_ble_eq_true rfl, Nat.le_of_ble_eq_true rfl⟩ (Nat.le_of_ble_eq_true rfl) (Nat.le_of_ble_eq_true rfl) ⟨by show cn + 1 ≤ 601024; omega, by show ck + 6 ≤ 7293034; omega⟩ ?_
    refine sp_L_restore hD.1 (sp_X4_restore hD hg R1 (fun _ m hm => Or.inr (Or.inl ⟨rfl, ?_⟩)) (fun z => absurd z g1) hTs (fun _ _ _ z => absurd z g1))
    refine ⟨_, rfl, ?_⟩
    obtain ⟨l2, hl2⟩ : ∃ l2 : Lay, l2 = (lay.1, m) := ⟨_, rfl⟩
    obtain ⟨M2, hM9⟩ : ∃ M2 : Mem, M2 = M := ⟨_, rfl⟩
    have hl9 : l2.1 = lay.1 := by rw [hl2]
    have hl8 : lay.2 ≤ l2.2 := by rw [hl2]; exact hm
    rw [← hl2, ← hM9]
    have hMo2 := hMo.up hl9
    have hSc2 : l2.1 sa = some (1, len, fun _ => none) := by rw [hl9]; exact hSc
    have hsc2 : ∀ j, M2 sa j = M sa j := fun _ => by rw [hM9]
    have hL2 := hL.c (M2 := M2) (l2 := l2) (M1 := M) hl9 hl8 (fun _ _ _ _ _ => rfl) (fun _ _ _ _ => by rw [hM9])
    obtain ⟨-, -, -, ⟨rT, rA, rU, rB, rW, rX, rE, rP, rS⟩, -⟩ := id hL2
    refine x_istore (pc := 1864) dL_law_1864 trivial (by decide) (L' := [(6, _), (5, _), (4, _), (3, _), (2, _), (1, _), (0, _)]) rfl ?_
    refine x_aload_n (pc := 1866) dL_law_1866 rfl rfl ?_
    refine x_aload_n (pc := 1867) dL_law_1867 rfl rfl ?_
    refine x_iload (pc := 1868) dL_law_1868 rfl ?_
    refine x_iconst (pc := 1870) dL_law_1870 ?_
    refine x_iadd (pc := 1871) dL_law_1871 ?_
    refine x_iald (pc := 1872) dL_law_1872 hSc2 (by omega) (by omega) (fun _ _ => ?_)
    rw [show M2 sa (i + 1).toNat = p1 from (hsc2 _).trans e1.symm]
    refine x_callV (pc := 1873) [_] rfl kL_231 dL_law_1873 hMo2.1 rfl rfl ⟨Nat.le_of_ble_eq_true rfl, Nat.le_of_ble_eq_true rfl⟩ (Nat.le_of_ble_eq_true rfl) (Nat.le_of_ble_eq_true rfl) ⟨by show cn + 1 + 0 ≤ 601024; omega, by show ck + 6 + 0 ≤ 7293034; omega⟩ ?_
    have h5 : X g m_X5_restore 0 0 l2 M2 0 [(0, vR (b + 32)), (1, vI p1)] [] (fun o l3 M3 => o = .inl none ∧ l3 = l2 ∧ M3 (b + 32) 0 = 1 ∧ FrZ (b + 32) M2 M3) := sp_X5_restore hMo2 hdg rT hW rS R1 (fun M3 t z0 z1 z2 => ⟨rfl, rfl, by omega, z1⟩) (fun T2 z => absurd z (by omega))
    refine X.mono h5 (fun o l3 M3 z => ?_)
    obtain ⟨rfl, rfl, z4, w1⟩ := z
    refine ⟨_, rfl, ?_⟩
    refine x_aload_n (pc := 1876) dL_law_1876 rfl rfl ?_
    refine x_callV (pc := 1877) [] rfl kL_101 dL_law_1877 hMo2.1 rfl rfl ⟨Nat.le_of_ble_eq_true rfl, Nat.le_of_ble_eq_true rfl⟩ (Nat.le_of_ble_eq_true rfl) (Nat.le_of_ble_eq_true rfl) ⟨by show cn + 1 + 0 + 0 ≤ 601024; omega, by show ck + 6 + 0 + 0 ≤ 7293034; omega⟩ ?_
    refine sp_X5_thrown hMo2 (fun _ _ => ⟨_, rfl, ?_⟩)
    rw [z4]
    refine x_iload (pc := 1880) dL_law_1880 rfl ?_
    refine x_icmp_eq (pc := 1882) (t := 1887) dL_law_1882 (by decide) ⟨by decide, by decide⟩ ⟨by decide, by decide⟩ (fun _ => ?_) (fun z => absurd rfl z)
    refine x_goto (pc := 1887) (t := 1890) dL_law_1887 (by decide) ?_
    refine X.loc [1, 2, 3, 4, 5, 6] (L' := [(5, _), (4, _), (3, _), (2, _), (1, _), (0, _)]) rfl ?_
    refine k _ _ _ _ (by show cn + 1 + 0 + 0 ≤ cn + 7; omega) (by show ck + 6 + 0 + 0 ≤ ck + 191; omega) ?_
    exact ⟨T, A, u, H, tx, n, v, cm, pg, S, sv, hL2.z w1⟩
set_option maxRecDepth 100000 in
theorem law_loop {g : GG} {K : KK} {sa len b : Nat} (G : GoodA) (kT : ∀ lay M, K (.inl (some (vI 1))) lay M) : ∀ (d : Nat) (i : Int) (lay : Lay) (M : Mem) (cn ck : Nat), 0 ≤ i → i ≤ (len : Int) + 6 → (len : Int) - i ≤ 6 * d + 5 → cn + 7 * d ≤ 601024 → ck + 191 * d ≤ 7293034 → LI g sa len b lay M → X g m_L_law cn ck lay M 28 [(5, vI i), (4, vR (b + 46)), (3, vR (b + 45)), (2, vR (b + 32)), (1, vR b), (0, vR sa)] [] K := by
  have out : ∀ (i : Int) (lay : Lay) (M : Mem) (cn ck : Nat), cn ≤ 601024 → ck ≤ 7293034 → X g m_L_law cn ck lay M 1896 [(5, vI i), (4, vR (b + 46)), (3, vR (b + 45)), (2, vR (b + 32)), (1, vR b), (0, vR sa)] [] K := by
    intro i lay M cn ck h1 h2
    refine x_iconst (pc := 1896) dL_law_1896 ?_
    exact x_zret (pc := 1897) dL_law_1897 rfl ⟨by decide, by decide⟩ h1 h2 (kT _ _)
  intro d
  induction d with
  | zero =>
    intro i lay M cn ck h0 h6 hd hn hk hL
    obtain ⟨T, A, u, H, tx, n, v, cm, pg, S, sv, ⟨hg, hsb, hSc, -⟩, -⟩ := id hL
    refine x_iload (pc := 28) dL_law_28 rfl ?_
    refine x_aload_n (pc := 30) dL_law_30 rfl rfl ?_
    refine x_alen (pc := 31) dL_law_31 hSc (fun rr => ?_)
    refine x_bipush (pc := 32) dL_law_32 (by decide) ?_
    refine x_isub (pc := 34) dL_law_34 ?_
    refine x_icmp_gt (pc := 35) (t := 1896) dL_law_35 (by decide) ⟨by omega, by omega⟩ ⟨by omega, by omega⟩ (fun z => ?_) (fun z => ?_)
    · exact out i lay M cn ck (by omega) (by omega)
    · exfalso; omega
  | succ d ih =>
    intro i lay M cn ck h0 h6 hd hn hk hL
    obtain ⟨T, A, u, H, tx, n, v, cm, pg, S, sv, ⟨hg, hsb, hSc, -⟩, -⟩ := id hL
    refine x_iload (pc := 28) dL_law_28 rfl ?_
    refine x_aload_n (pc := 30) dL_law_30 rfl rfl ?_
    refine x_alen (pc := 31) dL_law_31 hSc (fun rr => ?_)
    refine x_bipush (pc := 32) dL_law_32 (by decide) ?_
    refine x_isub (pc := 34) dL_law_34 ?_
    refine x_icmp_gt (pc := 35) (t := 1896) dL_law_35 (by decide) ⟨by omega, by omega⟩ ⟨by omega, by omega⟩ (fun z => ?_) (fun z => ?_)
    · exact out i lay M cn ck (by omega) (by omega)
    have hi : 0 ≤ i ∧ i + 6 ≤ (len : Int) := ⟨h0, by omega⟩
    have hc : cn + 7 ≤ 601024 ∧ ck + 191 ≤ 7293034 := ⟨by omega, by omega⟩
    have kk : CK g sa len b i cn ck K := by
      intro l2 M2 cn2 ck2 q1 q2 hL2
      refine x_iinc (pc := 1890) dL_law_1890 rfl (by decide) (L' := [(5, vI (i + 6)), (4, vR (b + 46)), (3, vR (b + 45)), (2, vR (b + 32)), (1, vR b), (0, vR sa)]) rfl ?_
      refine x_goto (pc := 1893) (t := 28) dL_law_1893 (by decide) ?_
      exact ih (i + 6) l2 M2 cn2 ck2 (by omega) (by omega) (by omega) (by omega) (by omega) hL2
    refine x_aload_n (pc := 38) dL_law_38 rfl rfl ?_
    refine x_iload (pc := 39) dL_law_39 rfl ?_
    refine x_iald (pc := 41) dL_law_41 hSc (by omega) (by omega) (fun a1 b1 => ?_)
    refine x_bipush (pc := 42) dL_law_42 (by decide) ?_
    refine x_iandm (pc := 44) 6 (by decide) (by decide) dL_law_44 ?_
    obtain ⟨y, hy⟩ : ∃ y, y = M sa i.toNat % 2 ^ 6 := ⟨_, rfl⟩
    have hy2 : 0 ≤ y ∧ y < 64 := by
      rw [hy]
      exact ⟨Int.emod_nonneg _ (by decide), Int.emod_lt_of_pos _ (by decide)⟩
    rw [← hy]
    by_cases s0 : y = 0
    · exact x_tsw_in (pc := 45) (t := 208) 0 dL_law_45 s0 (by decide) (by decide) (by decide) rfl (by decide) (law_appendText G hL hi hc kk)
    by_cases s1 : y = 1
    · exact x_tsw_in (pc := 45) (t := 264) 1 dL_law_45 s1 (by decide) (by decide) (by decide) rfl (by decide) (law_truncateText G hL hi hc kk)
    by_cases s2 : y = 2
    · exact x_tsw_in (pc := 45) (t := 320) 2 dL_law_45 s2 (by decide) (by decide) (by decide) rfl (by decide) (law_load G hL hi hc kk)
    by_cases s3 : y = 3
    · exact x_tsw_in (pc := 45) (t := 333) 3 dL_law_45 s3 (by decide) (by decide) (by decide) rfl (by decide) (law_play G hL hi hc kk)
    by_cases s4 : y = 4
    · exact x_tsw_in (pc := 45) (t := 346) 4 dL_law_45 s4 (by decide) (by decide) (by decide) rfl (by decide) (law_errorCode G hL hi hc kk)
    by_cases s5 : y = 5
    · exact x_tsw_in (pc := 45) (t := 359) 5 dL_law_45 s5 (by decide) (by decide) (by decide) rfl (by decide) (law_errorPosition G hL hi hc kk)
    by_cases s6 : y = 6
    · exact x_tsw_in (pc := 45) (t := 372) 6 dL_law_45 s6 (by decide) (by decide) (by decide) rfl (by decide) (law_count G hL hi hc kk)
    by_cases s7 : y = 7
    · exact x_tsw_in (pc := 45) (t := 428) 7 dL_law_45 s7 (by decide) (by decide) (by decide) rfl (by decide) (law_power G hL hi hc kk)
    by_cases s8 : y = 8
    · exact x_tsw_in (pc := 45) (t := 496) 8 dL_law_45 s8 (by decide) (by decide) (by decide) rfl (by decide) (law_claimOf G hL hi hc kk)
    by_cases s9 : y = 9
    · exact x_tsw_in (pc := 45) (t := 576) 9 dL_law_45 s9 (by decide) (by decide) (by decide) rfl (by decide) (law_player G hL hi hc kk)
    by_cases s10 : y = 10
    · exact x_tsw_in (pc := 45) (t := 644) 10 dL_law_45 s10 (by decide) (by decide) (by decide) rfl (by decide) (law_winner G hL hi hc kk)
    by_cases s11 : y = 11
    · exact x_tsw_in (pc := 45) (t := 657) 11 dL_law_45 s11 (by decide) (by decide) (by decide) rfl (by decide) (law_account G hL hi hc kk)
    by_cases s12 : y = 12
    · exact x_tsw_in (pc := 45) (t := 713) 12 dL_law_45 s12 (by decide) (by decide) (by decide) rfl (by decide) (law_claim G hL hi hc kk)
    by_cases s13 : y = 13
    · exact x_tsw_in (pc := 45) (t := 833) 13 dL_law_45 s13 (by decide) (by decide) (by decide) rfl (by decide) (law_lay G hL hi hc kk)
    by_cases s14 : y = 14
    · exact x_tsw_in (pc := 45) (t := 901) 14 dL_law_45 s14 (by decide) (by decide) (by decide) rfl (by decide) (law_pass G hL hi hc kk)
    by_cases s15 : y = 15
    · exact x_tsw_in (pc := 45) (t := 914) 15 dL_law_45 s15 (by decide) (by decide) (by decide) rfl (by decide) (law_why G hL hi hc kk)
    by_cases s16 : y = 16
    · exact x_tsw_in (pc := 45) (t := 982) 16 dL_law_45 s16 (by decide) (by decide) (by decide) rfl (by decide) (law_best G hL hi hc kk)
    by_cases s17 : y = 17
    · exact x_tsw_in (pc := 45) (t := 995) 17 dL_law_45 s17 (by decide) (by decide) (by decide) rfl (by decide) (law_behind G hL hi hc kk)
    by_cases s18 : y = 18
    · exact x_tsw_in (pc := 45) (t := 1075) 18 dL_law_45 s18 (by decide) (by decide) (by decide) rfl (by decide) (law_degree G hL hi hc kk)
    by_cases s19 : y = 19
    · exact x_tsw_in (pc := 45) (t := 1088) 19 dL_law_45 s19 (by decide) (by decide) (by decide) rfl (by decide) (law_value G hL hi hc kk)
    by_cases s20 : y = 20
    · exact x_tsw_in (pc := 45) (t := 1143) 20 dL_law_45 s20 (by decide) (by decide) (by decide) rfl (by decide) (law_roots G hL hi hc kk)
    by_cases s21 : y = 21
    · exact x_tsw_in (pc := 45) (t := 1211) 21 dL_law_45 s21 (by decide) (by decide) (by decide) rfl (by decide) (law_allRoots G hL hi hc kk)
    by_cases s22 : y = 22
    · exact x_tsw_in (pc := 45) (t := 1224) 22 dL_law_45 s22 (by decide) (by decide) (by decide) rfl (by decide) (law_rootsOfSign G hL hi hc kk)
    by_cases s23 : y = 23
    · exact x_tsw_in (pc := 45) (t := 1280) 23 dL_law_45 s23 (by decide) (by decide) (by decide) rfl (by decide) (law_multiplicity G hL hi hc kk)
    by_cases s24 : y = 24
    · exact x_tsw_in (pc := 45) (t := 1336) 24 dL_law_45 s24 (by decide) (by decide) (by decide) rfl (by decide) (law_near G hL hi hc kk)
    by_cases s25 : y = 25
    · exact x_tsw_in (pc := 45) (t := 1404) 25 dL_law_45 s25 (by decide) (by decide) (by decide) rfl (by decide) (law_root G hL hi hc kk)
    by_cases s26 : y = 26
    · exact x_tsw_in (pc := 45) (t := 1481) 26 dL_law_45 s26 (by decide) (by decide) (by decide) rfl (by decide) (law_rows G hL hi hc kk)
    by_cases s27 : y = 27
    · exact x_tsw_in (pc := 45) (t := 1494) 27 dL_law_45 s27 (by decide) (by decide) (by decide) rfl (by decide) (law_rowDegree G hL hi hc kk)
    by_cases s28 : y = 28
    · exact x_tsw_in (pc := 45) (t := 1550) 28 dL_law_45 s28 (by decide) (by decide) (by decide) rfl (by decide) (law_rowSign G hL hi hc kk)
    by_cases s29 : y = 29
    · exact x_tsw_in (pc := 45) (t := 1618) 29 dL_law_45 s29 (by decide) (by decide) (by decide) rfl (by decide) (law_changes G hL hi hc kk)
    by_cases s30 : y = 30
    · exact x_tsw_in (pc := 45) (t := 1686) 30 dL_law_45 s30 (by decide) (by decide) (by decide) rfl (by decide) (law_surplus G hL hi hc kk)
    by_cases s31 : y = 31
    · exact x_tsw_in (pc := 45) (t := 1754) 31 dL_law_45 s31 (by decide) (by decide) (by decide) rfl (by decide) (law_write G hL hi hc kk)
    by_cases s32 : y = 32
    · exact x_tsw_in (pc := 45) (t := 1767) 32 dL_law_45 s32 (by decide) (by decide) (by decide) rfl (by decide) (law_writeTurns G hL hi hc kk)
    by_cases s33 : y = 33
    · exact x_tsw_in (pc := 45) (t := 1780) 33 dL_law_45 s33 (by decide) (by decide) (by decide) rfl (by decide) (law_output G hL hi hc kk)
    by_cases s34 : y = 34
    · exact x_tsw_in (pc := 45) (t := 1805) 34 dL_law_45 s34 (by decide) (by decide) (by decide) rfl (by decide) (law_undo G hL hi hc kk)
    by_cases s35 : y = 35
    · exact x_tsw_in (pc := 45) (t := 1818) 35 dL_law_45 s35 (by decide) (by decide) (by decide) rfl (by decide) (law_save G hL hi hc kk)
    by_cases s36 : y = 36
    · exact x_tsw_in (pc := 45) (t := 1854) 36 dL_law_45 s36 (by decide) (by decide) (by decide) rfl (by decide) (law_restore G hL hi hc kk)
    refine x_tsw_out (pc := 45) (t := 1890) dL_law_45 ⟨by omega, by omega⟩ (by omega) (by decide) ?_
    exact kk lay M cn ck (by omega) (by omega) hL
