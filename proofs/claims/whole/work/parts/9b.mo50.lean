/-! The law's calls through helpers that change something; undo. -/
set_option maxRecDepth 100000 in
theorem law_lay {g : GG} {lay : Lay} {M : Mem} {K : KK} {sa len b : Nat} {i : Int} {cn ck : Nat} (G : GoodA) (hL : LI g sa len b lay M) (hi : 0 ≤ i ∧ i + 6 ≤ (len : Int)) (hc : cn + 7 ≤ 601024 ∧ ck + 191 ≤ 7293034) (k : CK g sa len b i cn ck K) : X g m_L_law cn ck lay M 833 [(5, vI i), (4, vR (b + 46)), (3, vR (b + 45)), (2, vR (b + 32)), (1, vR b), (0, vR sa)] [] K := by
  obtain ⟨T, A, u, H, tx, n, v, cm, pg, S, sv, hL⟩ := hL
  obtain ⟨⟨hg, hsb, hSc, htop, hMo, hO1, hO2⟩, hD, ⟨cT, cA, cR, cC, cP⟩, hR, hSv, ⟨hW, hO, hB⟩, hH, hX⟩ := id hL
  have hu : 0 ≤ (u : Int) ∧ (u : Int) ≤ 12 := ⟨by omega, by have := hH.1; omega⟩
  have hdg : g.2.1 ≤ b + 32 := by omega
  obtain ⟨gB, gC, gM, gE, gF⟩ := id G
  obtain ⟨p1, e1⟩ : ∃ z, z = M sa (i + 1).toNat := ⟨_, rfl⟩
  obtain ⟨p2, e2⟩ : ∃ z, z = M sa (i + 2).toNat := ⟨_, rfl⟩
  by_cases g1 : hasP T p2
  · by_cases g2 : layab p1
    · refine x_aload_n (pc := 833) dL_law_833 rfl rfl ?_
      refine x_aload_n (pc := 834) dL_law_834 rfl rfl ?_
      refine x_iload (pc := 835) dL_law_835 rfl ?_
      refine x_iconst (pc := 837) dL_law_837 ?_
      refine x_iadd (pc := 838) dL_law_838 ?_
      refine x_iald (pc := 839) dL_law_839 hSc (by omega) (by omega) (fun a1 b1 => ?_)
      rw [← e1] at a1 b1 ⊢
      have R1 : i32 p1 := ⟨a1, b1⟩
      refine x_aload_n (pc := 840) dL_law_840 rfl rfl ?_
      refine x_iload (pc := 841) dL_law_841 rfl ?_
      refine x_iconst (pc := 843) dL_law_843 ?_
      refine x_iadd (pc := 844) dL_law_844 ?_
      refine x_iald (pc := 845) dL_law_845 hSc (by omega) (by omega) (fun a2 b2 => ?_)
      rw [← e2] at a2 b2 ⊢
      have R2 : i32 p2 := ⟨a2, b2⟩
      refine x_aload_n (pc := 846) dL_law_846 rfl rfl ?_
      refine x_callSH (pc := 847) [_, _, _, _] rfl kh_lay dL_law_847 rfl ⟨Nat.le_of_ble_eq_true rfl, Nat.le_of_ble_eq_true rfl⟩ (Nat.le_of_ble_eq_true rfl) (Nat.le_of_ble_eq_true rfl) ⟨by show cn + 1 ≤ 601024; omega, by show ck + 6 ≤ 7293034; omega⟩ ?_
      refine sp_L_lay hD.1 (by omega) (hx_IOIA (r := oI (whyLayF T p1 p2.toNat)) (P := fun l2 M2 => l2.1 = lay.1 ∧ lay.2 ≤ l2.2 ∧ Act b M M2 ∧ Ct (actLay T p1 p2.toNat) M2 (b + 1) ∧ Dh (accF A (whyLayF T p1 p2.toNat)) (undF u (whyLayF T p1 p2.toNat)) M2 b) (sp_X4_lay gB hD hg cT hW cA hu hO R1 R2 (fun z => absurd g1 z) (fun _ z => absurd g2 z) (fun _ _ M2 z1 z2 z3 => ⟨rfl, rfl, Nat.le_refl _, z1, z2, z3⟩)) (Or.inl ⟨_, rfl⟩) (fun l2 M2 h => by rw [h.1]; exact hO1) (fun l2 M1 hP M2 hF hy => ?_))
      rw [show kOf [nIO, nIA] (oI (whyLayF T p1 p2.toNat)) = 0 from rfl]
      refine ⟨_, rfl, ?_⟩
      obtain ⟨q1, q2, q3, q4, q5⟩ := hP
      have hl9 : l2.1 = lay.1 := q1
      have hMo2 := hMo.up hl9
      have hSc2 : l2.1 sa = some (1, len, fun _ => none) := by rw [hl9]; exact hSc
      have hO12 : l2.1 (b + 45) = some (2, 1, fun _ => none) := by rw [hl9]; exact hO1
      have hR2 := hR.fr (M2 := M2) (fun a j _ _ => (hF a j (by omega)).trans (q3 a j (by omega) (by omega) (by omega)))
      obtain ⟨rT, rA, rU, rB, rW, rX, ⟨rE3, rE4⟩, rP, rS⟩ := id hR2
      have hsc2 : ∀ j, M2 sa j = M sa j := fun j => (hF _ j (by omega)).trans (q3 _ j (by omega) (by omega) (by omega))
      have evp0 := hy _ rfl
      refine x_istore (pc := 850) dL_law_850 trivial (by decide) (L' := [(6, _), (5, _), (4, _), (3, _), (2, _), (1, _), (0, _)]) rfl ?_
      refine x_aload_n (pc := 852) dL_law_852 rfl rfl ?_
      refine x_aload_n (pc := 853) dL_law_853 rfl rfl ?_
      refine x_iload (pc := 854) dL_law_854 rfl ?_
      refine x_iconst (pc := 856) dL_law_856 ?_
      refine x_iadd (pc := 857) dL_law_857 ?_
      refine x_iald (pc := 858) dL_law_858 hSc2 (by omega) (by omega) (fun _ _ => ?_)
      rw [show M2 sa (i + 1).toNat = p1 from (hsc2 _).trans e1.symm]
      refine x_aload_n (pc := 859) dL_law_859 rfl rfl ?_
      refine x_iload (pc := 860) dL_law_860 rfl ?_
      refine x_iconst (pc := 862) dL_law_862 ?_
      refine x_iadd (pc := 863) dL_law_863 ?_
      refine x_iald (pc := 864) dL_law_864 hSc2 (by omega) (by omega) (fun _ _ => ?_)
      rw [show M2 sa (i + 2).toNat = p2 from (hsc2 _).trans e2.symm]
      refine x_callV (pc := 865) [_, _] rfl kL_151 dL_law_865 hMo2.1 rfl rfl ⟨Nat.le_of_ble_eq_true rfl, Nat.le_of_ble_eq_true rfl⟩ (Nat.le_of_ble_eq_true rfl) (Nat.le_of_ble_eq_true rfl) ⟨by show cn + 1 + 0 ≤ 601024; omega, by show ck + 6 + 0 ≤ 7293034; omega⟩ ?_
      have h5 : X g m_X5_lay 0 0 l2 M2 0 [(0, vR (b + 32)), (1, vI p1), (2, vI p2)] [] (fun o l3 M3 => ∃ v5, o = oI v5 ∧ l3 = l2 ∧ M3 (b + 32) 0 = 0 ∧ v5 = whyLayF T p1 p2.toNat ∧ FrX (b + 32) M2 M3 ∧ RowT (actLay T p1 p2.toNat) (M3 (b + 32 + 1)) ∧ Acm (accF A (whyLayF T p1 p2.toNat)) M3 (b + 32) ∧ Us (if (whyLayF T p1 p2.toNat) = 0 then pushH H u T else H) (if (whyLayF T p1 p2.toNat) = 0 then pushU u else u) M3 (b + 32) ∧ (∃ N, Bg N M3 (b + 32))) := sp_X5_lay hMo2 hdg rT hW rB gM gE rU rA hO R1 R2 (fun M3 v5 z1 z2 z3 z4 z5 => by rw [z4, show rWhy T p1 p2 = oI (whyLayF T p1 p2.toNat) from (if_neg (fun z => z g1)).trans (if_neg (fun z => z g2))] at z5; exact absurd z5 (Int.lt_irrefl 0)) (fun _ _ M3 z1 z2 z3 z4 z5 z6 => ⟨_, rfl, rfl, z2, rfl, z1, z3, z4, z5, z6⟩)
      refine X.norm h5 (fun o l3 M3 z => ?_)
      obtain ⟨v5, rfl, rfl, z4, rfl, w1, w2, w3, w6, w7⟩ := z
      refine ⟨_, rfl, ?_⟩
      refine x_istore (pc := 868) dL_law_868 trivial (by decide) (L' := [(7, _), (6, _), (5, _), (4, _), (3, _), (2, _), (1, _), (0, _)]) rfl ?_
      refine x_aload_n (pc := 870) dL_law_870 rfl rfl ?_
      refine x_callV (pc := 871) [] rfl kL_101 dL_law_871 hMo2.1 rfl rfl ⟨Nat.le_of_ble_eq_true rfl, Nat.le_of_ble_eq_true rfl⟩ (Nat.le_of_ble_eq_true rfl) (Nat.le_of_ble_eq_true rfl) ⟨by show cn + 1 + 0 + 0 ≤ 601024; omega, by show ck + 6 + 0 + 0 ≤ 7293034; omega⟩ ?_
      refine sp_X5_thrown hMo2 (fun _ _ => ⟨_, rfl, ?_⟩)
      rw [z4]
      refine x_iload (pc := 874) dL_law_874 rfl ?_
      refine x_icmp_eq (pc := 876) (t := 881) dL_law_876 (by decide) ⟨by decide, by decide⟩ ⟨by decide, by decide⟩ (fun _ => ?_) (fun z => absurd rfl z)
      refine x_iload (pc := 881) dL_law_881 rfl ?_
      refine x_if_ne (pc := 883) (t := 898) dL_law_883 (by decide) ⟨by decide, by decide⟩ (fun z => absurd rfl z) (fun _ => ?_)
      have ev : M3 (b + 45) 0 = nmI (whyLayF T p1 p2.toNat) := (w1 _ _ (by omega) (by omega) (by omega) (by omega) (by omega) (by omega) (by omega)).trans evp0
      refine x_aload_n (pc := 886) dL_law_886 rfl rfl ?_
      refine x_iconst (pc := 887) dL_law_887 ?_
      refine x_lald (pc := 888) dL_law_888 hO12 (by omega) (by omega) (fun _ _ => ?_)
      rw [show M3 (b + 45) (0 : Int).toNat = nmI (whyLayF T p1 p2.toNat) from ev]
      refine x_iload (pc := 889) dL_law_889 rfl ?_
      refine x_i2l (pc := 891) (nmI_rng _) dL_law_891 ?_
      refine x_lcmp_eq (pc := 892) (t := 898) dL_law_892 dL_law_893 (by decide) (by have := nmI_rng (whyLayF T p1 p2.toNat); exact ⟨by omega, by omega⟩) (by have := nmI_rng (whyLayF T p1 p2.toNat); exact ⟨by omega, by omega⟩) (fun _ => ?_) (fun z9 => absurd rfl z9)
      refine x_goto (pc := 898) (t := 1890) dL_law_898 (by decide) ?_
      refine X.loc [2, 3, 4, 5, 6, 7] (L' := [(5, _), (4, _), (3, _), (2, _), (1, _), (0, _)]) rfl ?_
      refine k _ _ _ _ (by show cn + 1 + 0 + 0 ≤ cn + 7; omega) (by show ck + 6 + 0 + 0 ≤ ck + 191; omega) ?_
      have hs := actLay_hs ⟨hW, hO, hB⟩ hH g2 (p := p2.toNat) (by have := g1.1; have := g1.2; omega)
      exact hL.act q1 q2 q3 hF w1 q4 q5 w2 w3 w6 w7 hs.1 hs.2
    · refine x_aload_n (pc := 833) dL_law_833 rfl rfl ?_
      refine x_aload_n (pc := 834) dL_law_834 rfl rfl ?_
      refine x_iload (pc := 835) dL_law_835 rfl ?_
      refine x_iconst (pc := 837) dL_law_837 ?_
      refine x_iadd (pc := 838) dL_law_838 ?_
      refine x_iald (pc := 839) dL_law_839 hSc (by omega) (by omega) (fun a1 b1 => ?_)
      rw [← e1] at a1 b1 ⊢
      have R1 : i32 p1 := ⟨a1, b1⟩
      refine x_aload_n (pc := 840) dL_law_840 rfl rfl ?_
      refine x_iload (pc := 841) dL_law_841 rfl ?_
      refine x_iconst (pc := 843) dL_law_843 ?_
      refine x_iadd (pc := 844) dL_law_844 ?_
      refine x_iald (pc := 845) dL_law_845 hSc (by omega) (by omega) (fun a2 b2 => ?_)
      rw [← e2] at a2 b2 ⊢
      have R2 : i32 p2 := ⟨a2, b2⟩
      refine x_aload_n (pc := 846) dL_law_846 rfl rfl ?_
      refine x_callSH (pc := 847) [_, _, _, _] rfl kh_lay dL_law_847 rfl ⟨Nat.le_of_ble_eq_true rfl, Nat.le_of_ble_eq_true rfl⟩ (Nat.le_of_ble_eq_true rfl) (Nat.le_of_ble_eq_true rfl) ⟨by show cn + 1 ≤ 601024; omega, by show ck + 6 ≤ 7293034; omega⟩ ?_
      refine sp_L_lay hD.1 (by omega) (hx_IOIA (r := (eIA : Res)) (P := fun l2 M2 => l2.1 = lay.1 ∧ lay.2 ≤ l2.2 ∧ Scr b M M2) (sp_X4_lay gB hD hg cT hW cA hu hO R1 R2 (fun z => absurd g1 z) (fun _ _ m hm => ⟨rfl, rfl, hm, fun _ _ _ _ _ => rfl⟩) (fun _ z => absurd z g2)) (Or.inr ⟨_, by simp, rfl⟩) (fun l2 M2 h => by rw [h.1]; exact hO1) (fun l2 M1 hP M2 hF hy => ?_))
      rw [show kOf [nIO, nIA] ((eIA : Res)) = 2 from by decide]
      refine ⟨_, rfl, ?_⟩
      obtain ⟨q1, q2, q3⟩ := hP
      have hL2 := hL.c (M2 := M2) q1 q2 q3 (fun a j z1 z2 => hF a j z1)
      obtain ⟨⟨-, -, hSc2, -, hMo2, hO12, hO22⟩, -, -, ⟨rT, rA, rU, rB, rW, rX, rE, rP, rS⟩, -⟩ := id hL2
      have hsc2 : ∀ j, M2 sa j = M sa j := fun j => (hF _ j (by omega)).trans (q3 _ j (by omega) (by omega) (by omega))
      refine x_istore (pc := 850) dL_law_850 trivial (by decide) (L' := [(6, _), (5, _), (4, _), (3, _), (2, _), (1, _), (0, _)]) rfl ?_
      refine x_aload_n (pc := 852) dL_law_852 rfl rfl ?_
      refine x_aload_n (pc := 853) dL_law_853 rfl rfl ?_
      refine x_iload (pc := 854) dL_law_854 rfl ?_
      refine x_iconst (pc := 856) dL_law_856 ?_
      refine x_iadd (pc := 857) dL_law_857 ?_
      refine x_iald (pc := 858) dL_law_858 hSc2 (by omega) (by omega) (fun _ _ => ?_)
      rw [show M2 sa (i + 1).toNat = p1 from (hsc2 _).trans e1.symm]
      refine x_aload_n (pc := 859) dL_law_859 rfl rfl ?_
      refine x_iload (pc := 860) dL_law_860 rfl ?_
      refine x_iconst (pc := 862) dL_law_862 ?_
      refine x_iadd (pc := 863) dL_law_863 ?_
      refine x_iald (pc := 864) dL_law_864 hSc2 (by omega) (by omega) (fun _ _ => ?_)
      rw [show M2 sa (i + 2).toNat = p2 from (hsc2 _).trans e2.symm]
      refine x_callV (pc := 865) [_, _] rfl kL_151 dL_law_865 hMo2.1 rfl rfl ⟨Nat.le_of_ble_eq_true rfl, Nat.le_of_ble_eq_true rfl⟩ (Nat.le_of_ble_eq_true rfl) (Nat.le_of_ble_eq_true rfl) ⟨by show cn + 1 + 0 ≤ 601024; omega, by show ck + 6 + 0 ≤ 7293034; omega⟩ ?_
      have h5 : X g m_X5_lay 0 0 l2 M2 0 [(0, vR (b + 32)), (1, vI p1), (2, vI p2)] [] (fun o l3 M3 => ∃ v5, o = oI v5 ∧ l3 = l2 ∧ M3 (b + 32) 0 = 2 ∧ FrQ (b + 32) M2 M3 ∧ RowT T (M3 (b + 32 + 1)) ∧ (∃ N, Bg N M3 (b + 32))) := sp_X5_lay hMo2 hdg rT hW rB gM gE rU rA hO R1 R2 (fun M3 v5 z1 z2 z3 z4 z5 => ⟨v5, rfl, rfl, by rw [z4, show rWhy T p1 p2 = eIA from (if_neg (fun z => z g1)).trans (if_pos g2)]; decide, z1, z2, z3⟩) (fun _ z => absurd z g2)
      refine X.norm h5 (fun o l3 M3 z => ?_)
      obtain ⟨v5, rfl, rfl, z4, w1, w2, w3⟩ := z
      refine ⟨_, rfl, ?_⟩
      refine x_istore (pc := 868) dL_law_868 trivial (by decide) (L' := [(7, _), (6, _), (5, _), (4, _), (3, _), (2, _), (1, _), (0, _)]) rfl ?_
      refine x_aload_n (pc := 870) dL_law_870 rfl rfl ?_
      refine x_callV (pc := 871) [] rfl kL_101 dL_law_871 hMo2.1 rfl rfl ⟨Nat.le_of_ble_eq_true rfl, Nat.le_of_ble_eq_true rfl⟩ (Nat.le_of_ble_eq_true rfl) (Nat.le_of_ble_eq_true rfl) ⟨by show cn + 1 + 0 + 0 ≤ 601024; omega, by show ck + 6 + 0 + 0 ≤ 7293034; omega⟩ ?_
      refine sp_X5_thrown hMo2 (fun _ _ => ⟨_, rfl, ?_⟩)
      rw [z4]
      refine x_iload (pc := 874) dL_law_874 rfl ?_
      refine x_icmp_eq (pc := 876) (t := 881) dL_law_876 (by decide) ⟨by decide, by decide⟩ ⟨by decide, by decide⟩ (fun _ => ?_) (fun z => absurd rfl z)
      refine x_iload (pc := 881) dL_law_881 rfl ?_
      refine x_if_ne (pc := 883) (t := 898) dL_law_883 (by decide) ⟨by decide, by decide⟩ (fun _ => ?_) (fun z => absurd z (by decide))
      refine x_goto (pc := 898) (t := 1890) dL_law_898 (by decide) ?_
      refine X.loc [2, 3, 4, 5, 6, 7] (L' := [(5, _), (4, _), (3, _), (2, _), (1, _), (0, _)]) rfl ?_
      refine k _ _ _ _ (by show cn + 1 + 0 + 0 ≤ cn + 7; omega) (by show ck + 6 + 0 + 0 ≤ ck + 191; omega) ?_
      exact ⟨T, A, u, H, tx, n, v, cm, pg, S, sv, hL2.m w1 w2 w3⟩
  · refine x_aload_n (pc := 833) dL_law_833 rfl rfl ?_
    refine x_aload_n (pc := 834) dL_law_834 rfl rfl ?_
    refine x_iload (pc := 835) dL_law_835 rfl ?_
    refine x_iconst (pc := 837) dL_law_837 ?_
    refine x_iadd (pc := 838) dL_law_838 ?_
    refine x_iald (pc := 839) dL_law_839 hSc (by omega) (by omega) (fun a1 b1 => ?_)
    rw [← e1] at a1 b1 ⊢
    have R1 : i32 p1 := ⟨a1, b1⟩
    refine x_aload_n (pc := 840) dL_law_840 rfl rfl ?_
    refine x_iload (pc := 841) dL_law_841 rfl ?_
    refine x_iconst (pc := 843) dL_law_843 ?_
    refine x_iadd (pc := 844) dL_law_844 ?_
    refine x_iald (pc := 845) dL_law_845 hSc (by omega) (by omega) (fun a2 b2 => ?_)
    rw [← e2] at a2 b2 ⊢
    have R2 : i32 p2 := ⟨a2, b2⟩
    refine x_aload_n (pc := 846) dL_law_846 rfl rfl ?_
    refine x_callSH (pc := 847) [_, _, _, _] rfl kh_lay dL_law_847 rfl ⟨Nat.le_of_ble_eq_true rfl, Nat.le_of_ble_eq_true rfl⟩ (Nat.le_of_ble_eq_true rfl) (Nat.le_of_ble_eq_true rfl) ⟨by show cn + 1 ≤ 601024; omega, by show ck + 6 ≤ 7293034; omega⟩ ?_
    refine sp_L_lay hD.1 (by omega) (hx_IOIA (r := (eIO : Res)) (P := fun l2 M2 => l2.1 = lay.1 ∧ lay.2 ≤ l2.2 ∧ Scr b M M2) (sp_X4_lay gB hD hg cT hW cA hu hO R1 R2 (fun _ m hm => ⟨rfl, rfl, hm, fun _ _ _ _ _ => rfl⟩) (fun z => absurd z g1) (fun z => absurd z g1)) (Or.inr ⟨_, by simp, rfl⟩) (fun l2 M2 h => by rw [h.1]; exact hO1) (fun l2 M1 hP M2 hF hy => ?_))
    rw [show kOf [nIO, nIA] ((eIO : Res)) = 1 from by decide]
    refine ⟨_, rfl, ?_⟩
    obtain ⟨q1, q2, q3⟩ := hP
    have hL2 := hL.c (M2 := M2) q1 q2 q3 (fun a j z1 z2 => hF a j z1)
    obtain ⟨⟨-, -, hSc2, -, hMo2, hO12, hO22⟩, -, -, ⟨rT, rA, rU, rB, rW, rX, rE, rP, rS⟩, -⟩ := id hL2
    have hsc2 : ∀ j, M2 sa j = M sa j := fun j => (hF _ j (by omega)).trans (q3 _ j (by omega) (by omega) (by omega))
    refine x_istore (pc := 850) dL_law_850 trivial (by decide) (L' := [(6, _), (5, _), (4, _), (3, _), (2, _), (1, _), (0, _)]) rfl ?_
    refine x_aload_n (pc := 852) dL_law_852 rfl rfl ?_
    refine x_aload_n (pc := 853) dL_law_853 rfl rfl ?_
    refine x_iload (pc := 854) dL_law_854 rfl ?_
    refine x_iconst (pc := 856) dL_law_856 ?_
    refine x_iadd (pc := 857) dL_law_857 ?_
    refine x_iald (pc := 858) dL_law_858 hSc2 (by omega) (by omega) (fun _ _ => ?_)
    rw [show M2 sa (i + 1).toNat = p1 from (hsc2 _).trans e1.symm]
    refine x_aload_n (pc := 859) dL_law_859 rfl rfl ?_
    refine x_iload (pc := 860) dL_law_860 rfl ?_
    refine x_iconst (pc := 862) dL_law_862 ?_
    refine x_iadd (pc := 863) dL_law_863 ?_
    refine x_iald (pc := 864) dL_law_864 hSc2 (by omega) (by omega) (fun _ _ => ?_)
    rw [show M2 sa (i + 2).toNat = p2 from (hsc2 _).trans e2.symm]
    refine x_callV (pc := 865) [_, _] rfl kL_151 dL_law_865 hMo2.1 rfl rfl ⟨Nat.le_of_ble_eq_true rfl, Nat.le_of_ble_eq_true rfl⟩ (Nat.le_of_ble_eq_true rfl) (Nat.le_of_ble_eq_true rfl) ⟨by show cn + 1 + 0 ≤ 601024; omega, by show ck + 6 + 0 ≤ 7293034; omega⟩ ?_
    have h5 : X g m_X5_lay 0 0 l2 M2 0 [(0, vR (b + 32)), (1, vI p1), (2, vI p2)] [] (fun o l3 M3 => ∃ v5, o = oI v5 ∧ l3 = l2 ∧ M3 (b + 32) 0 = 1 ∧ FrQ (b + 32) M2 M3 ∧ RowT T (M3 (b + 32 + 1)) ∧ (∃ N, Bg N M3 (b + 32))) := sp_X5_lay hMo2 hdg rT hW rB gM gE rU rA hO R1 R2 (fun M3 v5 z1 z2 z3 z4 z5 => ⟨v5, rfl, rfl, by rw [z4, show rWhy T p1 p2 = eIO from if_pos g1]; decide, z1, z2, z3⟩) (fun z => absurd z g1)
    refine X.norm h5 (fun o l3 M3 z => ?_)
    obtain ⟨v5, rfl, rfl, z4, w1, w2, w3⟩ := z
    refine ⟨_, rfl, ?_⟩
    refine x_istore (pc := 868) dL_law_868 trivial (by decide) (L' := [(7, _), (6, _), (5, _), (4, _), (3, _), (2, _), (1, _), (0, _)]) rfl ?_
    refine x_aload_n (pc := 870) dL_law_870 rfl rfl ?_
    refine x_callV (pc := 871) [] rfl kL_101 dL_law_871 hMo2.1 rfl rfl ⟨Nat.le_of_ble_eq_true rfl, Nat.le_of_ble_eq_true rfl⟩ (Nat.le_of_ble_eq_true rfl) (Nat.le_of_ble_eq_true rfl) ⟨by show cn + 1 + 0 + 0 ≤ 601024; omega, by show ck + 6 + 0 + 0 ≤ 7293034; omega⟩ ?_
    refine sp_X5_thrown hMo2 (fun _ _ => ⟨_, rfl, ?_⟩)
    rw [z4]
    refine x_iload (pc := 874) dL_law_874 rfl ?_
    refine x_icmp_eq (pc := 876) (t := 881) dL_law_876 (by decide) ⟨by decide, by decide⟩ ⟨by decide, by decide⟩ (fun _ => ?_) (fun z => absurd rfl z)
    refine x_iload (pc := 881) dL_law_881 rfl ?_
    refine x_if_ne (pc := 883) (t := 898) dL_law_883 (by decide) ⟨by decide, by decide⟩ (fun _ => ?_) (fun z => absurd z (by decide))
    refine x_goto (pc := 898) (t := 1890) dL_law_898 (by decide) ?_
    refine X.loc [2, 3, 4, 5, 6, 7] (L' := [(5, _), (4, _), (3, _), (2, _), (1, _), (0, _)]) rfl ?_
    refine k _ _ _ _ (by show cn + 1 + 0 + 0 ≤ cn + 7; omega) (by show ck + 6 + 0 + 0 ≤ ck + 191; omega) ?_
    exact ⟨T, A, u, H, tx, n, v, cm, pg, S, sv, hL2.m w1 w2 w3⟩
set_option maxRecDepth 100000 in
theorem law_claim {g : GG} {lay : Lay} {M : Mem} {K : KK} {sa len b : Nat} {i : Int} {cn ck : Nat} (G : GoodA) (hL : LI g sa len b lay M) (hi : 0 ≤ i ∧ i + 6 ≤ (len : Int)) (hc : cn + 7 ≤ 601024 ∧ ck + 191 ≤ 7293034) (k : CK g sa len b i cn ck K) : X g m_L_law cn ck lay M 713 [(5, vI i), (4, vR (b + 46)), (3, vR (b + 45)), (2, vR (b + 32)), (1, vR b), (0, vR sa)] [] K := by
  obtain ⟨T, A, u, H, tx, n, v, cm, pg, S, sv, hL⟩ := hL
  obtain ⟨⟨hg, hsb, hSc, htop, hMo, hO1, hO2⟩, hD, ⟨cT, cA, cR, cC, cP⟩, hR, hSv, ⟨hW, hO, hB⟩, hH, hX⟩ := id hL
  have hu : 0 ≤ (u : Int) ∧ (u : Int) ≤ 12 := ⟨by omega, by have := hH.1; omega⟩
  have hdg : g.2.1 ≤ b + 32 := by omega
  obtain ⟨gB, gC, gM, gE, gF⟩ := id G
  obtain ⟨p1, e1⟩ : ∃ z, z = M sa (i + 1).toNat := ⟨_, rfl⟩
  obtain ⟨p2, e2⟩ : ∃ z, z = M sa (i + 2).toNat := ⟨_, rfl⟩
  obtain ⟨p3, e3⟩ : ∃ z, z = M sa (i + 3).toNat := ⟨_, rfl⟩
  obtain ⟨p4, e4⟩ : ∃ z, z = M sa (i + 4).toNat := ⟨_, rfl⟩
  obtain ⟨p5, e5⟩ : ∃ z, z = M sa (i + 5).toNat := ⟨_, rfl⟩
  obtain ⟨l4, hl4⟩ : ∃ l4 : Int, l4 = if p4 = 0 then 0 else 1 := ⟨_, rfl⟩
  have hl : l4 = 0 ∨ l4 = 1 := by split at hl4 <;> omega
  by_cases g1 : (intvP p1 p2 ∧ (0 ≤ p3 ∧ p3 ≤ 4) ∧ (1 ≤ p5 ∧ p5 ≤ 9))
  · refine x_aload_n (pc := 713) dL_law_713 rfl rfl ?_
    refine x_aload_n (pc := 714) dL_law_714 rfl rfl ?_
    refine x_iload (pc := 715) dL_law_715 rfl ?_
    refine x_iconst (pc := 717) dL_law_717 ?_
    refine x_iadd (pc := 718) dL_law_718 ?_
    refine x_iald (pc := 719) dL_law_719 hSc (by omega) (by omega) (fun a1 b1 => ?_)
    rw [← e1] at a1 b1 ⊢
    have R1 : i32 p1 := ⟨a1, b1⟩
    refine x_aload_n (pc := 720) dL_law_720 rfl rfl ?_
    refine x_iload (pc := 721) dL_law_721 rfl ?_
    refine x_iconst (pc := 723) dL_law_723 ?_
    refine x_iadd (pc := 724) dL_law_724 ?_
    refine x_iald (pc := 725) dL_law_725 hSc (by omega) (by omega) (fun a2 b2 => ?_)
    rw [← e2] at a2 b2 ⊢
    have R2 : i32 p2 := ⟨a2, b2⟩
    refine x_aload_n (pc := 726) dL_law_726 rfl rfl ?_
    refine x_iload (pc := 727) dL_law_727 rfl ?_
    refine x_iconst (pc := 729) dL_law_729 ?_
    refine x_iadd (pc := 730) dL_law_730 ?_
    refine x_iald (pc := 731) dL_law_731 hSc (by omega) (by omega) (fun a3 b3 => ?_)
    rw [← e3] at a3 b3 ⊢
    have R3 : i32 p3 := ⟨a3, b3⟩
    refine x_aload_n (pc := 732) dL_law_732 rfl rfl ?_
    refine x_iload (pc := 733) dL_law_733 rfl ?_
    refine x_iconst (pc := 735) dL_law_735 ?_
    refine x_iadd (pc := 736) dL_law_736 ?_
    refine x_iald (pc := 737) dL_law_737 hSc (by omega) (by omega) (fun a4 b4 => ?_)
    rw [← e4] at a4 b4 ⊢
    have R4 : i32 p4 := ⟨a4, b4⟩
    suffices rest : X g m_L_law cn ck lay M 746 [(5, vI i), (4, vR (b + 46)), (3, vR (b + 45)), (2, vR (b + 32)), (1, vR b), (0, vR sa)] (vI l4 :: vI p3 :: vI p2 :: vI p1 :: vR b :: []) K by
      refine x_if_eq (pc := 738) (t := 745) dL_law_738 (by decide) ⟨by omega, by omega⟩ (fun z => ?_) (fun z => ?_)
      · refine x_iconst (pc := 745) dL_law_745 ?_
        rw [if_pos z] at hl4
        rw [hl4] at rest
        exact rest
      · refine x_iconst (pc := 741) dL_law_741 ?_
        refine x_goto (pc := 742) (t := 746) dL_law_742 (by decide) ?_
        rw [if_neg z] at hl4
        rw [hl4] at rest
        exact rest
    refine x_aload_n (pc := 746) dL_law_746 rfl rfl ?_
    refine x_iload (pc := 747) dL_law_747 rfl ?_
    refine x_iconst (pc := 749) dL_law_749 ?_
    refine x_iadd (pc := 750) dL_law_750 ?_
    refine x_iald (pc := 751) dL_law_751 hSc (by omega) (by omega) (fun a5 b5 => ?_)
    rw [← e5] at a5 b5 ⊢
    have R5 : i32 p5 := ⟨a5, b5⟩
    refine x_aload_n (pc := 752) dL_law_752 rfl rfl ?_
    refine x_callSH (pc := 753) [_, _, _, _, _, _, _] rfl kh_claim dL_law_753 rfl ⟨Nat.le_of_ble_eq_true rfl, Nat.le_of_ble_eq_true rfl⟩ (Nat.le_of_ble_eq_true rfl) (Nat.le_of_ble_eq_true rfl) ⟨by show cn + 1 ≤ 601024; omega, by show ck + 6 ≤ 7293034; omega⟩ ?_
    refine sp_L_claim hD.1 (by omega) (hx_IA (r := oI (whyClaimF T p1 p2 p5)) (P := fun l2 M2 => l2.1 = lay.1 ∧ lay.2 ≤ l2.2 ∧ Act b M M2 ∧ Ct (actClaim T p1 p2 p3 l4 p5) M2 (b + 1) ∧ Dh (accF A (whyClaimF T p1 p2 p5)) (undF u (whyClaimF T p1 p2 p5)) M2 b) (sp_X4_claim gB hD hg cT hW cA hu hO R1 R2 R3 hl R5 (fun z => absurd g1 z) (fun _ M2 z1 z2 z3 => ⟨rfl, rfl, Nat.le_refl _, z1, z2, z3⟩)) (Or.inl ⟨_, rfl⟩) (fun l2 M2 h => by rw [h.1]; exact hO1) (fun l2 M1 hP M2 hF hy => ?_))
    rw [show kOf [nIA] (oI (whyClaimF T p1 p2 p5)) = 0 from rfl]
    refine ⟨_, rfl, ?_⟩
    obtain ⟨q1, q2, q3, q4, q5⟩ := hP
    have hl9 : l2.1 = lay.1 := q1
    have hMo2 := hMo.up hl9
    have hSc2 : l2.1 sa = some (1, len, fun _ => none) := by rw [hl9]; exact hSc
    have hO12 : l2.1 (b + 45) = some (2, 1, fun _ => none) := by rw [hl9]; exact hO1
    have hR2 := hR.fr (M2 := M2) (fun a j _ _ => (hF a j (by omega)).trans (q3 a j (by omega) (by omega) (by omega)))
    obtain ⟨rT, rA, rU, rB, rW, rX, ⟨rE3, rE4⟩, rP, rS⟩ := id hR2
    have hsc2 : ∀ j, M2 sa j = M sa j := fun j => (hF _ j (by omega)).trans (q3 _ j (by omega) (by omega) (by omega))
    have evp0 := hy _ rfl
    refine x_istore (pc := 756) dL_law_756 trivial (by decide) (L' := [(6, _), (5, _), (4, _), (3, _), (2, _), (1, _), (0, _)]) rfl ?_
    refine x_aload_n (pc := 758) dL_law_758 rfl rfl ?_
    refine x_aload_n (pc := 759) dL_law_759 rfl rfl ?_
    refine x_iload (pc := 760) dL_law_760 rfl ?_
    refine x_iconst (pc := 762) dL_law_762 ?_
    refine x_iadd (pc := 763) dL_law_763 ?_
    refine x_iald (pc := 764) dL_law_764 hSc2 (by omega) (by omega) (fun _ _ => ?_)
    rw [show M2 sa (i + 1).toNat = p1 from (hsc2 _).trans e1.symm]
    refine x_aload_n (pc := 765) dL_law_765 rfl rfl ?_
    refine x_iload (pc := 766) dL_law_766 rfl ?_
    refine x_iconst (pc := 768) dL_law_768 ?_
    refine x_iadd (pc := 769) dL_law_769 ?_
    refine x_iald (pc := 770) dL_law_770 hSc2 (by omega) (by omega) (fun _ _ => ?_)
    rw [show M2 sa (i + 2).toNat = p2 from (hsc2 _).trans e2.symm]
    refine x_aload_n (pc := 771) dL_law_771 rfl rfl ?_
    refine x_iload (pc := 772) dL_law_772 rfl ?_
    refine x_iconst (pc := 774) dL_law_774 ?_
    refine x_iadd (pc := 775) dL_law_775 ?_
    refine x_iald (pc := 776) dL_law_776 hSc2 (by omega) (by omega) (fun _ _ => ?_)
    rw [show M2 sa (i + 3).toNat = p3 from (hsc2 _).trans e3.symm]
    refine x_aload_n (pc := 777) dL_law_777 rfl rfl ?_
    refine x_iload (pc := 778) dL_law_778 rfl ?_
    refine x_iconst (pc := 780) dL_law_780 ?_
    refine x_iadd (pc := 781) dL_law_781 ?_
    refine x_iald (pc := 782) dL_law_782 hSc2 (by omega) (by omega) (fun _ _ => ?_)
    rw [show M2 sa (i + 4).toNat = p4 from (hsc2 _).trans e4.symm]
    suffices rest : X g m_L_law (cn + r_mc m_L_claim) (ck + r_ms m_L_claim) l2 M2 791 [(6, vI 0), (5, vI i), (4, vR (b + 46)), (3, vR (b + 45)), (2, vR (b + 32)), (1, vR b), (0, vR sa)] (vI l4 :: vI p3 :: vI p2 :: vI p1 :: vR (b + 32) :: []) K by
      refine x_if_eq (pc := 783) (t := 790) dL_law_783 (by decide) ⟨by omega, by omega⟩ (fun z => ?_) (fun z => ?_)
      · refine x_iconst (pc := 790) dL_law_790 ?_
        rw [if_pos z] at hl4
        rw [hl4] at rest
        exact rest
      · refine x_iconst (pc := 786) dL_law_786 ?_
        refine x_goto (pc := 787) (t := 791) dL_law_787 (by decide) ?_
        rw [if_neg z] at hl4
        rw [hl4] at rest
        exact rest
    refine x_aload_n (pc := 791) dL_law_791 rfl rfl ?_
    refine x_iload (pc := 792) dL_law_792 rfl ?_
    refine x_iconst (pc := 794) dL_law_794 ?_
    refine x_iadd (pc := 795) dL_law_795 ?_
    refine x_iald (pc := 796) dL_law_796 hSc2 (by omega) (by omega) (fun _ _ => ?_)
    rw [show M2 sa (i + 5).toNat = p5 from (hsc2 _).trans e5.symm]
    refine x_callV (pc := 797) [_, _, _, _, _] rfl kL_148 dL_law_797 hMo2.1 rfl rfl ⟨Nat.le_of_ble_eq_true rfl, Nat.le_of_ble_eq_true rfl⟩ (Nat.le_of_ble_eq_true rfl) (Nat.le_of_ble_eq_true rfl) ⟨by show cn + 1 + 0 ≤ 601024; omega, by show ck + 6 + 0 ≤ 7293034; omega⟩ ?_
    have h5 : X g m_X5_claim 0 0 l2 M2 0 [(0, vR (b + 32)), (1, vI p1), (2, vI p2), (3, vI p3), (4, vI l4), (5, vI p5)] [] (fun o l3 M3 => ∃ v5, o = oI v5 ∧ l3 = l2 ∧ M3 (b + 32) 0 = 0 ∧ v5 = whyClaimF T p1 p2 p5 ∧ FrX (b + 32) M2 M3 ∧ RowT (actClaim T p1 p2 p3 l4 p5) (M3 (b + 32 + 1)) ∧ Acm (accF A (whyClaimF T p1 p2 p5)) M3 (b + 32) ∧ Us (if (whyClaimF T p1 p2 p5) = 0 then pushH H u T else H) (if (whyClaimF T p1 p2 p5) = 0 then pushU u else u) M3 (b + 32) ∧ (∃ N, Bg N M3 (b + 32))) := sp_X5_claim hMo2 hdg rT hW rB gM gE rU rA hO R1 R2 R3 hl R5 (fun M3 v5 z1 z2 z3 z4 z5 => by rw [z4, if_pos g1] at z5; exact absurd z5 (Int.lt_irrefl 0)) (fun _ M3 z1 z2 z3 z4 z5 z6 => ⟨_, rfl, rfl, z2, rfl, z1, z3, z4, z5, z6⟩)
    refine X.norm h5 (fun o l3 M3 z => ?_)
    obtain ⟨v5, rfl, rfl, z4, rfl, w1, w2, w3, w6, w7⟩ := z
    refine ⟨_, rfl, ?_⟩
    refine x_istore (pc := 800) dL_law_800 trivial (by decide) (L' := [(7, _), (6, _), (5, _), (4, _), (3, _), (2, _), (1, _), (0, _)]) rfl ?_
    refine x_aload_n (pc := 802) dL_law_802 rfl rfl ?_
    refine x_callV (pc := 803) [] rfl kL_101 dL_law_803 hMo2.1 rfl rfl ⟨Nat.le_of_ble_eq_true rfl, Nat.le_of_ble_eq_true rfl⟩ (Nat.le_of_ble_eq_true rfl) (Nat.le_of_ble_eq_true rfl) ⟨by show cn + 1 + 0 + 0 ≤ 601024; omega, by show ck + 6 + 0 + 0 ≤ 7293034; omega⟩ ?_
    refine sp_X5_thrown hMo2 (fun _ _ => ⟨_, rfl, ?_⟩)
    rw [z4]
    refine x_iload (pc := 806) dL_law_806 rfl ?_
    refine x_icmp_eq (pc := 808) (t := 813) dL_law_808 (by decide) ⟨by decide, by decide⟩ ⟨by decide, by decide⟩ (fun _ => ?_) (fun z => absurd rfl z)
    refine x_iload (pc := 813) dL_law_813 rfl ?_
    refine x_if_ne (pc := 815) (t := 830) dL_law_815 (by decide) ⟨by decide, by decide⟩ (fun z => absurd rfl z) (fun _ => ?_)
    have ev : M3 (b + 45) 0 = nmI (whyClaimF T p1 p2 p5) := (w1 _ _ (by omega) (by omega) (by omega) (by omega) (by omega) (by omega) (by omega)).trans evp0
    refine x_aload_n (pc := 818) dL_law_818 rfl rfl ?_
    refine x_iconst (pc := 819) dL_law_819 ?_
    refine x_lald (pc := 820) dL_law_820 hO12 (by omega) (by omega) (fun _ _ => ?_)
    rw [show M3 (b + 45) (0 : Int).toNat = nmI (whyClaimF T p1 p2 p5) from ev]
    refine x_iload (pc := 821) dL_law_821 rfl ?_
    refine x_i2l (pc := 823) (nmI_rng _) dL_law_823 ?_
    refine x_lcmp_eq (pc := 824) (t := 830) dL_law_824 dL_law_825 (by decide) (by have := nmI_rng (whyClaimF T p1 p2 p5); exact ⟨by omega, by omega⟩) (by have := nmI_rng (whyClaimF T p1 p2 p5); exact ⟨by omega, by omega⟩) (fun _ => ?_) (fun z9 => absurd rfl z9)
    refine x_goto (pc := 830) (t := 1890) dL_law_830 (by decide) ?_
    refine X.loc [2, 3, 4, 5, 6, 7] (L' := [(5, _), (4, _), (3, _), (2, _), (1, _), (0, _)]) rfl ?_
    refine k _ _ _ _ (by show cn + 1 + 0 + 0 ≤ cn + 7; omega) (by show ck + 6 + 0 + 0 ≤ ck + 191; omega) ?_
    have hs := actClaim_hs (l := l4) ⟨hW, hO, hB⟩ hH g1.1 g1.2.1 (by omega) g1.2.2
    exact hL.act q1 q2 q3 hF w1 q4 q5 w2 w3 w6 w7 hs.1 hs.2
  · refine x_aload_n (pc := 713) dL_law_713 rfl rfl ?_
    refine x_aload_n (pc := 714) dL_law_714 rfl rfl ?_
    refine x_iload (pc := 715) dL_law_715 rfl ?_
    refine x_iconst (pc := 717) dL_law_717 ?_
    refine x_iadd (pc := 718) dL_law_718 ?_
    refine x_iald (pc := 719) dL_law_719 hSc (by omega) (by omega) (fun a1 b1 => ?_)
    rw [← e1] at a1 b1 ⊢
    have R1 : i32 p1 := ⟨a1, b1⟩
    refine x_aload_n (pc := 720) dL_law_720 rfl rfl ?_
    refine x_iload (pc := 721) dL_law_721 rfl ?_
    refine x_iconst (pc := 723) dL_law_723 ?_
    refine x_iadd (pc := 724) dL_law_724 ?_
    refine x_iald (pc := 725) dL_law_725 hSc (by omega) (by omega) (fun a2 b2 => ?_)
    rw [← e2] at a2 b2 ⊢
    have R2 : i32 p2 := ⟨a2, b2⟩
    refine x_aload_n (pc := 726) dL_law_726 rfl rfl ?_
    refine x_iload (pc := 727) dL_law_727 rfl ?_
    refine x_iconst (pc := 729) dL_law_729 ?_
    refine x_iadd (pc := 730) dL_law_730 ?_
    refine x_iald (pc := 731) dL_law_731 hSc (by omega) (by omega) (fun a3 b3 => ?_)
    rw [← e3] at a3 b3 ⊢
    have R3 : i32 p3 := ⟨a3, b3⟩
    refine x_aload_n (pc := 732) dL_law_732 rfl rfl ?_
    refine x_iload (pc := 733) dL_law_733 rfl ?_
    refine x_iconst (pc := 735) dL_law_735 ?_
    refine x_iadd (pc := 736) dL_law_736 ?_
    refine x_iald (pc := 737) dL_law_737 hSc (by omega) (by omega) (fun a4 b4 => ?_)
    rw [← e4] at a4 b4 ⊢
    have R4 : i32 p4 := ⟨a4, b4⟩
    suffices rest : X g m_L_law cn ck lay M 746 [(5, vI i), (4, vR (b + 46)), (3, vR (b + 45)), (2, vR (b + 32)), (1, vR b), (0, vR sa)] (vI l4 :: vI p3 :: vI p2 :: vI p1 :: vR b :: []) K by
      refine x_if_eq (pc := 738) (t := 745) dL_law_738 (by decide) ⟨by omega, by omega⟩ (fun z => ?_) (fun z => ?_)
      · refine x_iconst (pc := 745) dL_law_745 ?_
        rw [if_pos z] at hl4
        rw [hl4] at rest
        exact rest
      · refine x_iconst (pc := 741) dL_law_741 ?_
        refine x_goto (pc := 742) (t := 746) dL_law_742 (by decide) ?_
        rw [if_neg z] at hl4
        rw [hl4] at rest
        exact rest
    refine x_aload_n (pc := 746) dL_law_746 rfl rfl ?_
    refine x_iload (pc := 747) dL_law_747 rfl ?_
    refine x_iconst (pc := 749) dL_law_749 ?_
    refine x_iadd (pc := 750) dL_law_750 ?_
    refine x_iald (pc := 751) dL_law_751 hSc (by omega) (by omega) (fun a5 b5 => ?_)
    rw [← e5] at a5 b5 ⊢
    have R5 : i32 p5 := ⟨a5, b5⟩
    refine x_aload_n (pc := 752) dL_law_752 rfl rfl ?_
    refine x_callSH (pc := 753) [_, _, _, _, _, _, _] rfl kh_claim dL_law_753 rfl ⟨Nat.le_of_ble_eq_true rfl, Nat.le_of_ble_eq_true rfl⟩ (Nat.le_of_ble_eq_true rfl) (Nat.le_of_ble_eq_true rfl) ⟨by show cn + 1 ≤ 601024; omega, by show ck + 6 ≤ 7293034; omega⟩ ?_
    refine sp_L_claim hD.1 (by omega) (hx_IA (r := (eIA : Res)) (P := fun l2 M2 => l2.1 = lay.1 ∧ lay.2 ≤ l2.2 ∧ Scr b M M2) (sp_X4_claim gB hD hg cT hW cA hu hO R1 R2 R3 hl R5 (fun _ m hm => ⟨rfl, rfl, hm, fun _ _ _ _ _ => rfl⟩) (fun z => absurd z g1)) (Or.inr ⟨_, by simp, rfl⟩) (fun l2 M2 h => by rw [h.1]; exact hO1) (fun l2 M1 hP M2 hF hy => ?_))
    rw [show kOf [nIA] ((eIA : Res)) = 1 from by decide]
    refine ⟨_, rfl, ?_⟩
    obtain ⟨q1, q2, q3⟩ := hP
    have hL2 := hL.c (M2 := M2) q1 q2 q3 (fun a j z1 z2 => hF a j z1)
    obtain ⟨⟨-, -, hSc2, -, hMo2, hO12, hO22⟩, -, -, ⟨rT, rA, rU, rB, rW, rX, rE, rP, rS⟩, -⟩ := id hL2
    have hsc2 : ∀ j, M2 sa j = M sa j := fun j => (hF _ j (by omega)).trans (q3 _ j (by omega) (by omega) (by omega))
    refine x_istore (pc := 756) dL_law_756 trivial (by decide) (L' := [(6, _), (5, _), (4, _), (3, _), (2, _), (1, _), (0, _)]) rfl ?_
    refine x_aload_n (pc := 758) dL_law_758 rfl rfl ?_
    refine x_aload_n (pc := 759) dL_law_759 rfl rfl ?_
    refine x_iload (pc := 760) dL_law_760 rfl ?_
    refine x_iconst (pc := 762) dL_law_762 ?_
    refine x_iadd (pc := 763) dL_law_763 ?_
    refine x_iald (pc := 764) dL_law_764 hSc2 (by omega) (by omega) (fun _ _ => ?_)
    rw [show M2 sa (i + 1).toNat = p1 from (hsc2 _).trans e1.symm]
    refine x_aload_n (pc := 765) dL_law_765 rfl rfl ?_
    refine x_iload (pc := 766) dL_law_766 rfl ?_
    refine x_iconst (pc := 768) dL_law_768 ?_
    refine x_iadd (pc := 769) dL_law_769 ?_
    refine x_iald (pc := 770) dL_law_770 hSc2 (by omega) (by omega) (fun _ _ => ?_)
    rw [show M2 sa (i + 2).toNat = p2 from (hsc2 _).trans e2.symm]
    refine x_aload_n (pc := 771) dL_law_771 rfl rfl ?_
    refine x_iload (pc := 772) dL_law_772 rfl ?_
    refine x_iconst (pc := 774) dL_law_774 ?_
    refine x_iadd (pc := 775) dL_law_775 ?_
    refine x_iald (pc := 776) dL_law_776 hSc2 (by omega) (by omega) (fun _ _ => ?_)
    rw [show M2 sa (i + 3).toNat = p3 from (hsc2 _).trans e3.symm]
    refine x_aload_n (pc := 777) dL_law_777 rfl rfl ?_
    refine x_iload (pc := 778) dL_law_778 rfl ?_
    refine x_iconst (pc := 780) dL_law_780 ?_
    refine x_iadd (pc := 781) dL_law_781 ?_
    refine x_iald (pc := 782) dL_law_782 hSc2 (by omega) (by omega) (fun _ _ => ?_)
    rw [show M2 sa (i + 4).toNat = p4 from (hsc2 _).trans e4.symm]
    suffices rest : X g m_L_law (cn + r_mc m_L_claim) (ck + r_ms m_L_claim) l2 M2 791 [(6, vI 1), (5, vI i), (4, vR (b + 46)), (3, vR (b + 45)), (2, vR (b + 32)), (1, vR b), (0, vR sa)] (vI l4 :: vI p3 :: vI p2 :: vI p1 :: vR (b + 32) :: []) K by
      refine x_if_eq (pc := 783) (t := 790) dL_law_783 (by decide) ⟨by omega, by omega⟩ (fun z => ?_) (fun z => ?_)
      · refine x_iconst (pc := 790) dL_law_790 ?_
        rw [if_pos z] at hl4
        rw [hl4] at rest
        exact rest
      · refine x_iconst (pc := 786) dL_law_786 ?_
        refine x_goto (pc := 787) (t := 791) dL_law_787 (by decide) ?_
        rw [if_neg z] at hl4
        rw [hl4] at rest
        exact rest
    refine x_aload_n (pc := 791) dL_law_791 rfl rfl ?_
    refine x_iload (pc := 792) dL_law_792 rfl ?_
    refine x_iconst (pc := 794) dL_law_794 ?_
    refine x_iadd (pc := 795) dL_law_795 ?_
    refine x_iald (pc := 796) dL_law_796 hSc2 (by omega) (by omega) (fun _ _ => ?_)
    rw [show M2 sa (i + 5).toNat = p5 from (hsc2 _).trans e5.symm]
    refine x_callV (pc := 797) [_, _, _, _, _] rfl kL_148 dL_law_797 hMo2.1 rfl rfl ⟨Nat.le_of_ble_eq_true rfl, Nat.le_of_ble_eq_true rfl⟩ (Nat.le_of_ble_eq_true rfl) (Nat.le_of_ble_eq_true rfl) ⟨by show cn + 1 + 0 ≤ 601024; omega, by show ck + 6 + 0 ≤ 7293034; omega⟩ ?_
    have h5 : X g m_X5_claim 0 0 l2 M2 0 [(0, vR (b + 32)), (1, vI p1), (2, vI p2), (3, vI p3), (4, vI l4), (5, vI p5)] [] (fun o l3 M3 => ∃ v5, o = oI v5 ∧ l3 = l2 ∧ M3 (b + 32) 0 = 1 ∧ FrQ (b + 32) M2 M3 ∧ RowT T (M3 (b + 32 + 1)) ∧ (∃ N, Bg N M3 (b + 32))) := sp_X5_claim hMo2 hdg rT hW rB gM gE rU rA hO R1 R2 R3 hl R5 (fun M3 v5 z1 z2 z3 z4 z5 => ⟨v5, rfl, rfl, by rw [z4, if_neg g1]; decide, z1, z2, z3⟩) (fun z => absurd z g1)
    refine X.norm h5 (fun o l3 M3 z => ?_)
    obtain ⟨v5, rfl, rfl, z4, w1, w2, w3⟩ := z
    refine ⟨_, rfl, ?_⟩
    refine x_istore (pc := 800) dL_law_800 trivial (by decide) (L' := [(7, _), (6, _), (5, _), (4, _), (3, _), (2, _), (1, _), (0, _)]) rfl ?_
    refine x_aload_n (pc := 802) dL_law_802 rfl rfl ?_
    refine x_callV (pc := 803) [] rfl kL_101 dL_law_803 hMo2.1 rfl rfl ⟨Nat.le_of_ble_eq_true rfl, Nat.le_of_ble_eq_true rfl⟩ (Nat.le_of_ble_eq_true rfl) (Nat.le_of_ble_eq_true rfl) ⟨by show cn + 1 + 0 + 0 ≤ 601024; omega, by show ck + 6 + 0 + 0 ≤ 7293034; omega⟩ ?_
    refine sp_X5_thrown hMo2 (fun _ _ => ⟨_, rfl, ?_⟩)
    rw [z4]
    refine x_iload (pc := 806) dL_law_806 rfl ?_
    refine x_icmp_eq (pc := 808) (t := 813) dL_law_808 (by decide) ⟨by decide, by decide⟩ ⟨by decide, by decide⟩ (fun _ => ?_) (fun z => absurd rfl z)
    refine x_iload (pc := 813) dL_law_813 rfl ?_
    refine x_if_ne (pc := 815) (t := 830) dL_law_815 (by decide) ⟨by decide, by decide⟩ (fun _ => ?_) (fun z => absurd z (by decide))
    refine x_goto (pc := 830) (t := 1890) dL_law_830 (by decide) ?_
    refine X.loc [2, 3, 4, 5, 6, 7] (L' := [(5, _), (4, _), (3, _), (2, _), (1, _), (0, _)]) rfl ?_
    refine k _ _ _ _ (by show cn + 1 + 0 + 0 ≤ cn + 7; omega) (by show ck + 6 + 0 + 0 ≤ ck + 191; omega) ?_
    exact ⟨T, A, u, H, tx, n, v, cm, pg, S, sv, hL2.m w1 w2 w3⟩
theorem ap_rng {x : Int} : ∀ (d : Nat) (tx : Nat → Int) (n : Nat), TxR tx n → TxR (apTx x d tx n) (n + d)
  | 0, _, _, h => h
  | d + 1, tx, n, h => by
    have h9 := ap_rng (x := x) d (fup tx n ((x / 2 ^ (8 * d)).bmod 256)) (n + 1) (fun i hi => by
      by_cases e : i = n
      · rw [e, fup_at]
        exact bm256 _
      · rw [fup_ne e]
        exact h i (by omega))
    rw [show n + (d + 1) = n + 1 + d by omega]
    exact h9
set_option maxRecDepth 100000 in
theorem law_appendText {g : GG} {lay : Lay} {M : Mem} {K : KK} {sa len b : Nat} {i : Int} {cn ck : Nat} (G : GoodA) (hL : LI g sa len b lay M) (hi : 0 ≤ i ∧ i + 6 ≤ (len : Int)) (hc : cn + 7 ≤ 601024 ∧ ck + 191 ≤ 7293034) (k : CK g sa len b i cn ck K) : X g m_L_law cn ck lay M 208 [(5, vI i), (4, vR (b + 46)), (3, vR (b + 45)), (2, vR (b + 32)), (1, vR b), (0, vR sa)] [] K := by
  obtain ⟨T, A, u, H, tx, n, v, cm, pg, S, sv, hL⟩ := hL
  obtain ⟨⟨hg, hsb, hSc, htop, hMo, hO1, hO2⟩, hD, ⟨cT, cA, cR, cC, cP⟩, hR, hSv, ⟨hW, hO, hB⟩, hH, hX⟩ := id hL
  have hu : 0 ≤ (u : Int) ∧ (u : Int) ≤ 12 := ⟨by omega, by have := hH.1; omega⟩
  have hdg : g.2.1 ≤ b + 32 := by omega
  obtain ⟨gB, gC, gM, gE, gF⟩ := id G
  obtain ⟨p1, e1⟩ : ∃ z, z = M sa (i + 1).toNat := ⟨_, rfl⟩
  obtain ⟨rT0, rA0, rU0, rB0, rW0, rX0, rE0, rP0, rS0⟩ := id hR
  by_cases g1 : 600 < n + 4
  · refine x_aload_n (pc := 208) dL_law_208 rfl rfl ?_
    refine x_aload_n (pc := 209) dL_law_209 rfl rfl ?_
    refine x_iload (pc := 210) dL_law_210 rfl ?_
    refine x_iconst (pc := 212) dL_law_212 ?_
    refine x_iadd (pc := 213) dL_law_213 ?_
    refine x_iald (pc := 214) dL_law_214 hSc (by omega) (by omega) (fun a1 b1 => ?_)
    rw [← e1] at a1 b1 ⊢
    have R1 : i32 p1 := ⟨a1, b1⟩
    refine x_aload_n (pc := 215) dL_law_215 rfl rfl ?_
    refine x_callSH (pc := 216) [_, _, _] rfl kh_appendText dL_law_216 rfl ⟨Nat.le_of_ble_eq_true rfl, Nat.le_of_ble_eq_true rfl⟩ (Nat.le_of_ble_eq_true rfl) (Nat.le_of_ble_eq_true rfl) ⟨by show cn + 1 ≤ 601024; omega, by show ck + 6 ≤ 7293034; omega⟩ ?_
    refine sp_L_appendText hD.1 (by omega) (hx_IS (r := (eIS : Res)) (P := fun l2 M2 => l2.1 = lay.1 ∧ lay.2 ≤ l2.2 ∧ Scr b M M2) (sp_X4_appendText hD hg cR R1 (fun _ m hm => ⟨rfl, rfl, hm, fun _ _ _ _ _ => rfl⟩) (fun z => absurd z (by omega))) (Or.inr ⟨_, by simp, rfl⟩) (fun l2 M2 h => by rw [h.1]; exact hO1) (fun l2 M1 hP M2 hF hy => ?_))
    rw [show kOf [nIS] ((eIS : Res)) = 1 from by decide]
    refine ⟨_, rfl, ?_⟩
    obtain ⟨q1, q2, q3⟩ := hP
    have hL2 := hL.c (M2 := M2) q1 q2 q3 (fun a j z1 z2 => hF a j z1)
    obtain ⟨⟨-, -, hSc2, -, hMo2, hO12, hO22⟩, -, -, ⟨rT, rA, rU, rB, rW, rX, rE, rP, rS⟩, -⟩ := id hL2
    have hsc2 : ∀ j, M2 sa j = M sa j := fun j => (hF _ j (by omega)).trans (q3 _ j (by omega) (by omega) (by omega))
    refine x_istore (pc := 219) dL_law_219 trivial (by decide) (L' := [(6, _), (5, _), (4, _), (3, _), (2, _), (1, _), (0, _)]) rfl ?_
    refine x_aload_n (pc := 221) dL_law_221 rfl rfl ?_
    refine x_aload_n (pc := 222) dL_law_222 rfl rfl ?_
    refine x_iload (pc := 223) dL_law_223 rfl ?_
    refine x_iconst (pc := 225) dL_law_225 ?_
    refine x_iadd (pc := 226) dL_law_226 ?_
    refine x_iald (pc := 227) dL_law_227 hSc2 (by omega) (by omega) (fun _ _ => ?_)
    rw [show M2 sa (i + 1).toNat = p1 from (hsc2 _).trans e1.symm]
    refine x_callV (pc := 228) [_] rfl kL_100 dL_law_228 hMo2.1 rfl rfl ⟨Nat.le_of_ble_eq_true rfl, Nat.le_of_ble_eq_true rfl⟩ (Nat.le_of_ble_eq_true rfl) (Nat.le_of_ble_eq_true rfl) ⟨by show cn + 1 + 0 ≤ 601024; omega, by show ck + 6 + 0 ≤ 7293034; omega⟩ ?_
    have h5 : X g m_X5_appendText 0 0 l2 M2 0 [(0, vR (b + 32)), (1, vI p1)] [] (fun o l3 M3 => ∃ v5, o = oI v5 ∧ l3 = l2 ∧ M3 (b + 32) 0 = 1 ∧ FrZ (b + 32) M2 M3) := sp_X5_appendText hMo2 hdg rX R1 (fun _ M3 v5 z1 z2 => ⟨v5, rfl, rfl, z2, z1⟩) (fun z => absurd z (by omega))
    refine X.norm h5 (fun o l3 M3 z => ?_)
    obtain ⟨v5, rfl, rfl, z4, w1⟩ := z
    refine ⟨_, rfl, ?_⟩
    refine x_istore (pc := 231) dL_law_231 trivial (by decide) (L' := [(7, _), (6, _), (5, _), (4, _), (3, _), (2, _), (1, _), (0, _)]) rfl ?_
    refine x_aload_n (pc := 233) dL_law_233 rfl rfl ?_
    refine x_callV (pc := 234) [] rfl kL_101 dL_law_234 hMo2.1 rfl rfl ⟨Nat.le_of_ble_eq_true rfl, Nat.le_of_ble_eq_true rfl⟩ (Nat.le_of_ble_eq_true rfl) (Nat.le_of_ble_eq_true rfl) ⟨by show cn + 1 + 0 + 0 ≤ 601024; omega, by show ck + 6 + 0 + 0 ≤ 7293034; omega⟩ ?_
    refine sp_X5_thrown hMo2 (fun _ _ => ⟨_, rfl, ?_⟩)
    rw [z4]
    refine x_iload (pc := 237) dL_law_237 rfl ?_
    refine x_icmp_eq (pc := 239) (t := 244) dL_law_239 (by decide) ⟨by decide, by decide⟩ ⟨by decide, by decide⟩ (fun _ => ?_) (fun z => absurd rfl z)
    refine x_iload (pc := 244) dL_law_244 rfl ?_
    refine x_if_ne (pc := 246) (t := 261) dL_law_246 (by decide) ⟨by decide, by decide⟩ (fun _ => ?_) (fun z => absurd z (by decide))
    refine x_goto (pc := 261) (t := 1890) dL_law_261 (by decide) ?_
    refine X.loc [2, 3, 4, 5, 6, 7] (L' := [(5, _), (4, _), (3, _), (2, _), (1, _), (0, _)]) rfl ?_
    refine k _ _ _ _ (by show cn + 1 + 0 + 0 ≤ cn + 7; omega) (by show ck + 6 + 0 + 0 ≤ ck + 191; omega) ?_
    exact ⟨T, A, u, H, tx, n, v, cm, pg, S, sv, hL2.z w1⟩
  · refine x_aload_n (pc := 208) dL_law_208 rfl rfl ?_
    refine x_aload_n (pc := 209) dL_law_209 rfl rfl ?_
    refine x_iload (pc := 210) dL_law_210 rfl ?_
    refine x_iconst (pc := 212) dL_law_212 ?_
    refine x_iadd (pc := 213) dL_law_213 ?_
    refine x_iald (pc := 214) dL_law_214 hSc (by omega) (by omega) (fun a1 b1 => ?_)
    rw [← e1] at a1 b1 ⊢
    have R1 : i32 p1 := ⟨a1, b1⟩
    refine x_aload_n (pc := 215) dL_law_215 rfl rfl ?_
    refine x_callSH (pc := 216) [_, _, _] rfl kh_appendText dL_law_216 rfl ⟨Nat.le_of_ble_eq_true rfl, Nat.le_of_ble_eq_true rfl⟩ (Nat.le_of_ble_eq_true rfl) (Nat.le_of_ble_eq_true rfl) ⟨by show cn + 1 ≤ 601024; omega, by show ck + 6 ≤ 7293034; omega⟩ ?_
    refine sp_L_appendText hD.1 (by omega) (hx_IS (r := oI ((n + 4 : Nat) : Int)) (P := fun l2 M2 => l2.1 = lay.1 ∧ lay.2 ≤ l2.2 ∧ Frm (b + 25) (b + 27) M M2 ∧ Rd (apTx p1 4 tx n) (n + 4) (fup v 2 (n + 4 : Nat)) M2 (b + 25)) (sp_X4_appendText hD hg cR R1 (fun z => absurd z (by omega)) (fun _ M2 z1 z2 => ⟨rfl, rfl, Nat.le_refl _, z1, z2⟩)) (Or.inl ⟨_, rfl⟩) (fun l2 M2 h => by rw [h.1]; exact hO1) (fun l2 M1 hP M2 hF hy => ?_))
    rw [show kOf [nIS] (oI ((n + 4 : Nat) : Int)) = 0 from rfl]
    refine ⟨_, rfl, ?_⟩
    obtain ⟨q1, q2, q3, q4⟩ := hP
    have hl9 : l2.1 = lay.1 := q1
    have hMo2 := hMo.up hl9
    have hSc2 : l2.1 sa = some (1, len, fun _ => none) := by rw [hl9]; exact hSc
    have hO12 : l2.1 (b + 45) = some (2, 1, fun _ => none) := by rw [hl9]; exact hO1
    have hR2 := hR.fr (M2 := M2) (fun a j _ _ => (hF a j (by omega)).trans (q3 a j (by omega)))
    obtain ⟨rT, rA, rU, rB, rW, rX, ⟨rE3, rE4⟩, rP, rS⟩ := id hR2
    have hsc2 : ∀ j, M2 sa j = M sa j := fun j => (hF _ j (by omega)).trans (q3 _ j (by omega))
    have evp0 := hy _ rfl
    refine x_istore (pc := 219) dL_law_219 trivial (by decide) (L' := [(6, _), (5, _), (4, _), (3, _), (2, _), (1, _), (0, _)]) rfl ?_
    refine x_aload_n (pc := 221) dL_law_221 rfl rfl ?_
    refine x_aload_n (pc := 222) dL_law_222 rfl rfl ?_
    refine x_iload (pc := 223) dL_law_223 rfl ?_
    refine x_iconst (pc := 225) dL_law_225 ?_
    refine x_iadd (pc := 226) dL_law_226 ?_
    refine x_iald (pc := 227) dL_law_227 hSc2 (by omega) (by omega) (fun _ _ => ?_)
    rw [show M2 sa (i + 1).toNat = p1 from (hsc2 _).trans e1.symm]
    refine x_callV (pc := 228) [_] rfl kL_100 dL_law_228 hMo2.1 rfl rfl ⟨Nat.le_of_ble_eq_true rfl, Nat.le_of_ble_eq_true rfl⟩ (Nat.le_of_ble_eq_true rfl) (Nat.le_of_ble_eq_true rfl) ⟨by show cn + 1 + 0 ≤ 601024; omega, by show ck + 6 + 0 ≤ 7293034; omega⟩ ?_
    have h5 : X g m_X5_appendText 0 0 l2 M2 0 [(0, vR (b + 32)), (1, vI p1)] [] (fun o l3 M3 => ∃ v5, o = oI v5 ∧ l3 = l2 ∧ M3 (b + 32) 0 = 0 ∧ v5 = ((n + 4 : Nat) : Int) ∧ (∀ a j, ¬ (a = b + 32 ∧ (j = 0 ∨ j = 12)) → ¬ a = b + 32 + 9 → M3 a j = M2 a j) ∧ Tx (apTx p1 4 tx n) (n + 4) M3 (b + 32)) := sp_X5_appendText hMo2 hdg rX R1 (fun z => absurd z (by omega)) (fun _ M3 z1 z2 z3 => ⟨_, rfl, rfl, z2, rfl, z1, z3⟩)
    refine X.norm h5 (fun o l3 M3 z => ?_)
    obtain ⟨v5, rfl, rfl, z4, rfl, w1, w2⟩ := z
    refine ⟨_, rfl, ?_⟩
    refine x_istore (pc := 231) dL_law_231 trivial (by decide) (L' := [(7, _), (6, _), (5, _), (4, _), (3, _), (2, _), (1, _), (0, _)]) rfl ?_
    refine x_aload_n (pc := 233) dL_law_233 rfl rfl ?_
    refine x_callV (pc := 234) [] rfl kL_101 dL_law_234 hMo2.1 rfl rfl ⟨Nat.le_of_ble_eq_true rfl, Nat.le_of_ble_eq_true rfl⟩ (Nat.le_of_ble_eq_true rfl) (Nat.le_of_ble_eq_true rfl) ⟨by show cn + 1 + 0 + 0 ≤ 601024; omega, by show ck + 6 + 0 + 0 ≤ 7293034; omega⟩ ?_
    refine sp_X5_thrown hMo2 (fun _ _ => ⟨_, rfl, ?_⟩)
    rw [z4]
    refine x_iload (pc := 237) dL_law_237 rfl ?_
    refine x_icmp_eq (pc := 239) (t := 244) dL_law_239 (by decide) ⟨by decide, by decide⟩ ⟨by decide, by decide⟩ (fun _ => ?_) (fun z => absurd rfl z)
    refine x_iload (pc := 244) dL_law_244 rfl ?_
    refine x_if_ne (pc := 246) (t := 261) dL_law_246 (by decide) ⟨by decide, by decide⟩ (fun z => absurd rfl z) (fun _ => ?_)
    have ev : M3 (b + 45) 0 = nmI (((n + 4 : Nat) : Int)) := (w1 _ _ (by omega) (by omega)).trans evp0
    refine x_aload_n (pc := 249) dL_law_249 rfl rfl ?_
    refine x_iconst (pc := 250) dL_law_250 ?_
    refine x_lald (pc := 251) dL_law_251 hO12 (by omega) (by omega) (fun _ _ => ?_)
    rw [show M3 (b + 45) (0 : Int).toNat = nmI (((n + 4 : Nat) : Int)) from ev]
    refine x_iload (pc := 252) dL_law_252 rfl ?_
    refine x_i2l (pc := 254) (nmI_rng _) dL_law_254 ?_
    refine x_lcmp_eq (pc := 255) (t := 261) dL_law_255 dL_law_256 (by decide) (by have := nmI_rng (((n + 4 : Nat) : Int)); exact ⟨by omega, by omega⟩) (by have := nmI_rng (((n + 4 : Nat) : Int)); exact ⟨by omega, by omega⟩) (fun _ => ?_) (fun z9 => absurd rfl z9)
    refine x_goto (pc := 261) (t := 1890) dL_law_261 (by decide) ?_
    refine X.loc [2, 3, 4, 5, 6, 7] (L' := [(5, _), (4, _), (3, _), (2, _), (1, _), (0, _)]) rfl ?_
    refine k _ _ _ _ (by show cn + 1 + 0 + 0 ≤ cn + 7; omega) (by show ck + 6 + 0 + 0 ≤ ck + 191; omega) ?_
    have e3 : ∀ a j, ¬ (b + 32 ≤ a ∧ a < b + 46) → M3 a j = M1 a j := fun a j z => (w1 a j (by omega) (by omega)).trans (hF a j (by omega))
    have e4 : ∀ a j, ¬ (b + 25 ≤ a ∧ a < b + 27) → ¬ (b + 32 ≤ a ∧ a < b + 46) → M3 a j = M a j := fun a j z1 z2 => (e3 a j z2).trans (q3 a j (by omega))
    exact ⟨T, A, u, H, apTx p1 4 tx n, n + 4, fup v 2 (n + 4 : Nat), cm, pg, S, sv, (show LB g sa len b lay from ⟨hg, hsb, hSc, htop, hMo, hO1, hO2⟩).up q1 q2, hD.up q1, ⟨cT.gen (fun a j _ _ => e4 a j (by omega) (by omega)), ⟨fun i hi => by rw [e4 _ _ (by omega) (by omega)]; exact cA.1 i hi, by rw [e4 _ _ (by omega) (by omega)]; exact cA.2⟩, ⟨q4.1, fun j y1 y2 => by rw [e3 _ _ (by omega)]; exact q4.2.1 j y1 y2, fun i hi => by rw [e3 _ _ (by omega)]; exact q4.2.2 i hi⟩, fun i hi => by rw [e4 _ _ (by omega) (by omega)]; exact cC i hi, ⟨by rw [e4 _ _ (by omega) (by omega)]; exact cP.1, cP.2.1, fun i hi => by rw [e4 _ _ (by omega) (by omega)]; exact cP.2.2 i hi⟩⟩, ⟨rT.fe (fun j => w1 _ j (by omega) (by omega)), rA.fr (fun j => w1 _ j (by omega) (by omega)), rU.fr (fun j => w1 _ j (by omega) (by omega)) (w1 _ _ (by omega) (by omega)), Bg.fr2 rB (fun j => w1 _ j (by omega) (by omega)), rW.fr (fun j => w1 _ j (by omega) (by omega)), w2, ⟨(w1 _ _ (by omega) (by omega)).trans rE3, (w1 _ _ (by omega) (by omega)).trans rE4⟩, rP.fr (w1 _ _ (by omega) (by omega)) (fun j => w1 _ j (by omega) (by omega)), rS.fr (fun j => w1 _ j (by omega) (by omega)) (fun j => w1 _ j (by omega) (by omega))⟩, hSv.fr q2 (fun a j _ _ => e4 a j (by omega) (by omega)), ⟨hW, hO, hB⟩, hH, ap_rng 4 tx n hX⟩
set_option maxRecDepth 100000 in
theorem law_truncateText {g : GG} {lay : Lay} {M : Mem} {K : KK} {sa len b : Nat} {i : Int} {cn ck : Nat} (G : GoodA) (hL : LI g sa len b lay M) (hi : 0 ≤ i ∧ i + 6 ≤ (len : Int)) (hc : cn + 7 ≤ 601024 ∧ ck + 191 ≤ 7293034) (k : CK g sa len b i cn ck K) : X g m_L_law cn ck lay M 264 [(5, vI i), (4, vR (b + 46)), (3, vR (b + 45)), (2, vR (b + 32)), (1, vR b), (0, vR sa)] [] K := by
  obtain ⟨T, A, u, H, tx, n, v, cm, pg, S, sv, hL⟩ := hL
  obtain ⟨⟨hg, hsb, hSc, htop, hMo, hO1, hO2⟩, hD, ⟨cT, cA, cR, cC, cP⟩, hR, hSv, ⟨hW, hO, hB⟩, hH, hX⟩ := id hL
  have hu : 0 ≤ (u : Int) ∧ (u : Int) ≤ 12 := ⟨by omega, by have := hH.1; omega⟩
  have hdg : g.2.1 ≤ b + 32 := by omega
  obtain ⟨gB, gC, gM, gE, gF⟩ := id G
  obtain ⟨p1, e1⟩ : ∃ z, z = M sa (i + 1).toNat := ⟨_, rfl⟩
  by_cases g1 : 0 ≤ p1 ∧ p1 ≤ (n : Int)
  · refine x_aload_n (pc := 264) dL_law_264 rfl rfl ?_
    refine x_aload_n (pc := 265) dL_law_265 rfl rfl ?_
    refine x_iload (pc := 266) dL_law_266 rfl ?_
    refine x_iconst (pc := 268) dL_law_268 ?_
    refine x_iadd (pc := 269) dL_law_269 ?_
    refine x_iald (pc := 270) dL_law_270 hSc (by omega) (by omega) (fun a1 b1 => ?_)
    rw [← e1] at a1 b1 ⊢
    have R1 : i32 p1 := ⟨a1, b1⟩
    refine x_aload_n (pc := 271) dL_law_271 rfl rfl ?_
    refine x_callSH (pc := 272) [_, _, _] rfl kh_truncateText dL_law_272 rfl ⟨Nat.le_of_ble_eq_true rfl, Nat.le_of_ble_eq_true rfl⟩ (Nat.le_of_ble_eq_true rfl) (Nat.le_of_ble_eq_true rfl) ⟨by show cn + 1 ≤ 601024; omega, by show ck + 6 ≤ 7293034; omega⟩ ?_
    refine sp_L_truncateText hD.1 (by omega) (hx_IA (r := oI p1) (P := fun l2 M2 => l2.1 = lay.1 ∧ lay.2 ≤ l2.2 ∧ Frm (b + 25) (b + 26) M M2 ∧ Rd tx p1.toNat (fup v 2 p1) M2 (b + 25)) (sp_X4_truncateText hD hg cR R1 (fun z => absurd g1 z) (fun _ _ M2 z1 z2 => ⟨rfl, rfl, Nat.le_refl _, z1, z2⟩)) (Or.inl ⟨_, rfl⟩) (fun l2 M2 h => by rw [h.1]; exact hO1) (fun l2 M1 hP M2 hF hy => ?_))
    rw [show kOf [nIA] (oI p1) = 0 from rfl]
    refine ⟨_, rfl, ?_⟩
    obtain ⟨q1, q2, q3, q4⟩ := hP
    have hl9 : l2.1 = lay.1 := q1
    have hMo2 := hMo.up hl9
    have hSc2 : l2.1 sa = some (1, len, fun _ => none) := by rw [hl9]; exact hSc
    have hO12 : l2.1 (b + 45) = some (2, 1, fun _ => none) := by rw [hl9]; exact hO1
    have hR2 := hR.fr (M2 := M2) (fun a j _ _ => (hF a j (by omega)).trans (q3 a j (by omega)))
    obtain ⟨rT, rA, rU, rB, rW, rX, ⟨rE3, rE4⟩, rP, rS⟩ := id hR2
    have hsc2 : ∀ j, M2 sa j = M sa j := fun j => (hF _ j (by omega)).trans (q3 _ j (by omega))
    have evp0 := hy _ rfl
    refine x_istore (pc := 275) dL_law_275 trivial (by decide) (L' := [(6, _), (5, _), (4, _), (3, _), (2, _), (1, _), (0, _)]) rfl ?_
    refine x_aload_n (pc := 277) dL_law_277 rfl rfl ?_
    refine x_aload_n (pc := 278) dL_law_278 rfl rfl ?_
    refine x_iload (pc := 279) dL_law_279 rfl ?_
    refine x_iconst (pc := 281) dL_law_281 ?_
    refine x_iadd (pc := 282) dL_law_282 ?_
    refine x_iald (pc := 283) dL_law_283 hSc2 (by omega) (by omega) (fun _ _ => ?_)
    rw [show M2 sa (i + 1).toNat = p1 from (hsc2 _).trans e1.symm]
    refine x_callV (pc := 284) [_] rfl kL_107 dL_law_284 hMo2.1 rfl rfl ⟨Nat.le_of_ble_eq_true rfl, Nat.le_of_ble_eq_true rfl⟩ (Nat.le_of_ble_eq_true rfl) (Nat.le_of_ble_eq_true rfl) ⟨by show cn + 1 + 0 ≤ 601024; omega, by show ck + 6 + 0 ≤ 7293034; omega⟩ ?_
    have h5 : X g m_X5_truncateText 0 0 l2 M2 0 [(0, vR (b + 32)), (1, vI p1)] [] (fun o l3 M3 => ∃ v5, o = oI v5 ∧ l3 = l2 ∧ M3 (b + 32) 0 = 0 ∧ v5 = p1 ∧ (∀ a j, ¬ (a = b + 32 ∧ (j = 0 ∨ j = 12)) → M3 a j = M2 a j) ∧ Tx tx p1.toNat M3 (b + 32)) := sp_X5_truncateText hMo2 hdg rX R1 (fun z => absurd g1 z) (fun _ M3 z1 z2 z3 => ⟨_, rfl, rfl, z2, rfl, z1, z3⟩)
    refine X.norm h5 (fun o l3 M3 z => ?_)
    obtain ⟨v5, rfl, rfl, z4, hv5, w1, w2⟩ := z
    rw [hv5]
    refine ⟨_, rfl, ?_⟩
    refine x_istore (pc := 287) dL_law_287 trivial (by decide) (L' := [(7, _), (6, _), (5, _), (4, _), (3, _), (2, _), (1, _), (0, _)]) rfl ?_
    refine x_aload_n (pc := 289) dL_law_289 rfl rfl ?_
    refine x_callV (pc := 290) [] rfl kL_101 dL_law_290 hMo2.1 rfl rfl ⟨Nat.le_of_ble_eq_true rfl, Nat.le_of_ble_eq_true rfl⟩ (Nat.le_of_ble_eq_true rfl) (Nat.le_of_ble_eq_true rfl) ⟨by show cn + 1 + 0 + 0 ≤ 601024; omega, by show ck + 6 + 0 + 0 ≤ 7293034; omega⟩ ?_
    refine sp_X5_thrown hMo2 (fun _ _ => ⟨_, rfl, ?_⟩)
    rw [z4]
    refine x_iload (pc := 293) dL_law_293 rfl ?_
    refine x_icmp_eq (pc := 295) (t := 300) dL_law_295 (by decide) ⟨by decide, by decide⟩ ⟨by decide, by decide⟩ (fun _ => ?_) (fun z => absurd rfl z)
    refine x_iload (pc := 300) dL_law_300 rfl ?_
    refine x_if_ne (pc := 302) (t := 317) dL_law_302 (by decide) ⟨by decide, by decide⟩ (fun z => absurd rfl z) (fun _ => ?_)
    have ev : M3 (b + 45) 0 = nmI (p1) := (w1 _ _ (by omega)).trans evp0
    refine x_aload_n (pc := 305) dL_law_305 rfl rfl ?_
    refine x_iconst (pc := 306) dL_law_306 ?_
    refine x_lald (pc := 307) dL_law_307 hO12 (by omega) (by omega) (fun _ _ => ?_)
    rw [show M3 (b + 45) (0 : Int).toNat = nmI (p1) from ev]
    refine x_iload (pc := 308) dL_law_308 rfl ?_
    refine x_i2l (pc := 310) (nmI_rng _) dL_law_310 ?_
    refine x_lcmp_eq (pc := 311) (t := 317) dL_law_311 dL_law_312 (by decide) (by have := nmI_rng (p1); exact ⟨by omega, by omega⟩) (by have := nmI_rng (p1); exact ⟨by omega, by omega⟩) (fun _ => ?_) (fun z9 => absurd rfl z9)
    refine x_goto (pc := 317) (t := 1890) dL_law_317 (by decide) ?_
    refine X.loc [2, 3, 4, 5, 6, 7] (L' := [(5, _), (4, _), (3, _), (2, _), (1, _), (0, _)]) rfl ?_
    refine k _ _ _ _ (by show cn + 1 + 0 + 0 ≤ cn + 7; omega) (by show ck + 6 + 0 + 0 ≤ ck + 191; omega) ?_
    have e3 : ∀ a j, ¬ (b + 32 ≤ a ∧ a < b + 46) → M3 a j = M1 a j := fun a j z => (w1 a j (by omega)).trans (hF a j (by omega))
    have e4 : ∀ a j, ¬ (b + 25 ≤ a ∧ a < b + 27) → ¬ (b + 32 ≤ a ∧ a < b + 46) → M3 a j = M a j := fun a j z1 z2 => (e3 a j z2).trans (q3 a j (by omega))
    exact ⟨T, A, u, H, tx, p1.toNat, fup v 2 p1, cm, pg, S, sv, (show LB g sa len b lay from ⟨hg, hsb, hSc, htop, hMo, hO1, hO2⟩).up q1 q2, hD.up q1, ⟨cT.gen (fun a j _ _ => e4 a j (by omega) (by omega)), ⟨fun i hi => by rw [e4 _ _ (by omega) (by omega)]; exact cA.1 i hi, by rw [e4 _ _ (by omega) (by omega)]; exact cA.2⟩, ⟨q4.1, fun j y1 y2 => by rw [e3 _ _ (by omega)]; exact q4.2.1 j y1 y2, fun i hi => by rw [e3 _ _ (by omega)]; exact q4.2.2 i hi⟩, fun i hi => by rw [e4 _ _ (by omega) (by omega)]; exact cC i hi, ⟨by rw [e4 _ _ (by omega) (by omega)]; exact cP.1, cP.2.1, fun i hi => by rw [e4 _ _ (by omega) (by omega)]; exact cP.2.2 i hi⟩⟩, ⟨rT.fe (fun j => w1 _ j (by omega)), rA.fr (fun j => w1 _ j (by omega)), rU.fr (fun j => w1 _ j (by omega)) (w1 _ _ (by omega)), Bg.fr2 rB (fun j => w1 _ j (by omega)), rW.fr (fun j => w1 _ j (by omega)), w2, ⟨(w1 _ _ (by omega)).trans rE3, (w1 _ _ (by omega)).trans rE4⟩, rP.fr (w1 _ _ (by omega)) (fun j => w1 _ j (by omega)), rS.fr (fun j => w1 _ j (by omega)) (fun j => w1 _ j (by omega))⟩, hSv.fr q2 (fun a j _ _ => e4 a j (by omega) (by omega)), ⟨hW, hO, hB⟩, hH, fun i hi => hX i (by omega)⟩
  · refine x_aload_n (pc := 264) dL_law_264 rfl rfl ?_
    refine x_aload_n (pc := 265) dL_law_265 rfl rfl ?_
    refine x_iload (pc := 266) dL_law_266 rfl ?_
    refine x_iconst (pc := 268) dL_law_268 ?_
    refine x_iadd (pc := 269) dL_law_269 ?_
    refine x_iald (pc := 270) dL_law_270 hSc (by omega) (by omega) (fun a1 b1 => ?_)
    rw [← e1] at a1 b1 ⊢
    have R1 : i32 p1 := ⟨a1, b1⟩
    refine x_aload_n (pc := 271) dL_law_271 rfl rfl ?_
    refine x_callSH (pc := 272) [_, _, _] rfl kh_truncateText dL_law_272 rfl ⟨Nat.le_of_ble_eq_true rfl, Nat.le_of_ble_eq_true rfl⟩ (Nat.le_of_ble_eq_true rfl) (Nat.le_of_ble_eq_true rfl) ⟨by show cn + 1 ≤ 601024; omega, by show ck + 6 ≤ 7293034; omega⟩ ?_
    refine sp_L_truncateText hD.1 (by omega) (hx_IA (r := (eIA : Res)) (P := fun l2 M2 => l2.1 = lay.1 ∧ lay.2 ≤ l2.2 ∧ Scr b M M2) (sp_X4_truncateText hD hg cR R1 (fun _ m hm => ⟨rfl, rfl, hm, fun _ _ _ _ _ => rfl⟩) (fun z y => absurd ⟨z, y⟩ g1)) (Or.inr ⟨_, by simp, rfl⟩) (fun l2 M2 h => by rw [h.1]; exact hO1) (fun l2 M1 hP M2 hF hy => ?_))
    rw [show kOf [nIA] ((eIA : Res)) = 1 from by decide]
    refine ⟨_, rfl, ?_⟩
    obtain ⟨q1, q2, q3⟩ := hP
    have hL2 := hL.c (M2 := M2) q1 q2 q3 (fun a j z1 z2 => hF a j z1)
    obtain ⟨⟨-, -, hSc2, -, hMo2, hO12, hO22⟩, -, -, ⟨rT, rA, rU, rB, rW, rX, rE, rP, rS⟩, -⟩ := id hL2
    have hsc2 : ∀ j, M2 sa j = M sa j := fun j => (hF _ j (by omega)).trans (q3 _ j (by omega) (by omega) (by omega))
    refine x_istore (pc := 275) dL_law_275 trivial (by decide) (L' := [(6, _), (5, _), (4, _), (3, _), (2, _), (1, _), (0, _)]) rfl ?_
    refine x_aload_n (pc := 277) dL_law_277 rfl rfl ?_
    refine x_aload_n (pc := 278) dL_law_278 rfl rfl ?_
    refine x_iload (pc := 279) dL_law_279 rfl ?_
    refine x_iconst (pc := 281) dL_law_281 ?_
    refine x_iadd (pc := 282) dL_law_282 ?_
    refine x_iald (pc := 283) dL_law_283 hSc2 (by omega) (by omega) (fun _ _ => ?_)
    rw [show M2 sa (i + 1).toNat = p1 from (hsc2 _).trans e1.symm]
    refine x_callV (pc := 284) [_] rfl kL_107 dL_law_284 hMo2.1 rfl rfl ⟨Nat.le_of_ble_eq_true rfl, Nat.le_of_ble_eq_true rfl⟩ (Nat.le_of_ble_eq_true rfl) (Nat.le_of_ble_eq_true rfl) ⟨by show cn + 1 + 0 ≤ 601024; omega, by show ck + 6 + 0 ≤ 7293034; omega⟩ ?_
    have h5 : X g m_X5_truncateText 0 0 l2 M2 0 [(0, vR (b + 32)), (1, vI p1)] [] (fun o l3 M3 => ∃ v5, o = oI v5 ∧ l3 = l2 ∧ M3 (b + 32) 0 = 1 ∧ FrZ (b + 32) M2 M3) := sp_X5_truncateText hMo2 hdg rX R1 (fun _ M3 v5 z1 z2 => ⟨v5, rfl, rfl, z2, z1⟩) (fun z => absurd z g1)
    refine X.norm h5 (fun o l3 M3 z => ?_)
    obtain ⟨v5, rfl, rfl, z4, w1⟩ := z
    refine ⟨_, rfl, ?_⟩
    refine x_istore (pc := 287) dL_law_287 trivial (by decide) (L' := [(7, _), (6, _), (5, _), (4, _), (3, _), (2, _), (1, _), (0, _)]) rfl ?_
    refine x_aload_n (pc := 289) dL_law_289 rfl rfl ?_
    refine x_callV (pc := 290) [] rfl kL_101 dL_law_290 hMo2.1 rfl rfl ⟨Nat.le_of_ble_eq_true rfl, Nat.le_of_ble_eq_true rfl⟩ (Nat.le_of_ble_eq_true rfl) (Nat.le_of_ble_eq_true rfl) ⟨by show cn + 1 + 0 + 0 ≤ 601024; omega, by show ck + 6 + 0 + 0 ≤ 7293034; omega⟩ ?_
    refine sp_X5_thrown hMo2 (fun _ _ => ⟨_, rfl, ?_⟩)
    rw [z4]
    refine x_iload (pc := 293) dL_law_293 rfl ?_
    refine x_icmp_eq (pc := 295) (t := 300) dL_law_295 (by decide) ⟨by decide, by decide⟩ ⟨by decide, by decide⟩ (fun _ => ?_) (fun z => absurd rfl z)
    refine x_iload (pc := 300) dL_law_300 rfl ?_
    refine x_if_ne (pc := 302) (t := 317) dL_law_302 (by decide) ⟨by decide, by decide⟩ (fun _ => ?_) (fun z => absurd z (by decide))
    refine x_goto (pc := 317) (t := 1890) dL_law_317 (by decide) ?_
    refine X.loc [2, 3, 4, 5, 6, 7] (L' := [(5, _), (4, _), (3, _), (2, _), (1, _), (0, _)]) rfl ?_
    refine k _ _ _ _ (by show cn + 1 + 0 + 0 ≤ cn + 7; omega) (by show ck + 6 + 0 + 0 ≤ ck + 191; omega) ?_
    exact ⟨T, A, u, H, tx, n, v, cm, pg, S, sv, hL2.z w1⟩
set_option maxRecDepth 100000 in
theorem law_undo {g : GG} {lay : Lay} {M : Mem} {K : KK} {sa len b : Nat} {i : Int} {cn ck : Nat} (G : GoodA) (hL : LI g sa len b lay M) (hi : 0 ≤ i ∧ i + 6 ≤ (len : Int)) (hc : cn + 7 ≤ 601024 ∧ ck + 191 ≤ 7293034) (k : CK g sa len b i cn ck K) : X g m_L_law cn ck lay M 1805 [(5, vI i), (4, vR (b + 46)), (3, vR (b + 45)), (2, vR (b + 32)), (1, vR b), (0, vR sa)] [] K := by
  obtain ⟨T, A, u, H, tx, n, v, cm, pg, S, sv, hL⟩ := hL
  obtain ⟨⟨hg, hsb, hSc, htop, hMo, hO1, hO2⟩, hD, ⟨cT, cA, cR, cC, cP⟩, hR, hSv, ⟨hW, hO, hB⟩, hH, hX⟩ := id hL
  have hu : 0 ≤ (u : Int) ∧ (u : Int) ≤ 12 := ⟨by omega, by have := hH.1; omega⟩
  have hdg : g.2.1 ≤ b + 32 := by omega
  obtain ⟨gB, gC, gM, gE, gF⟩ := id G
  have hbk : 0 < (u : Int) → hasClaim T ∨ 0 < tN T := fun z => (hH.pop (by omega)).1.2.1
  by_cases g1 : u = 0
  · refine x_aload_n (pc := 1805) dL_law_1805 rfl rfl ?_
    refine x_callV (pc := 1806) [] rfl kL_221 dL_law_1806 hD.1 rfl rfl ⟨Nat.le_of_ble_eq_true rfl, Nat.le_of_ble_eq_true rfl⟩ (Nat.le_of_ble_eq_true rfl) (Nat.le_of_ble_eq_true rfl) ⟨by show cn + 0 ≤ 601024; omega, by show ck + 0 ≤ 7293034; omega⟩ ?_
    have h4 : X g m_X4_undo 0 0 lay M 0 [(0, vR b)] [] (fun o l2 M2 => o = oI (-1) ∧ l2 = lay ∧ (∀ a j, ¬ (b ≤ a ∧ a < b + 8) → M2 a j = M a j) ∧ Ct T M2 (b + 1) ∧ M2 b 8 = ((u : Nat) : Int)) := sp_X4_undo gB hD hg cT hW cA.2 hu hbk (fun M2 z1 z2 z3 => ⟨by rw [if_neg (by omega)], rfl, z1, by rw [if_neg (by omega)] at z2; exact z2, by rw [if_neg (by omega)] at z3; exact z3⟩)
    refine X.norm h4 (fun o l2 M2 z => ?_)
    obtain ⟨rfl, rfl, z1, z2, z3⟩ := z
    refine ⟨_, rfl, ?_⟩
    have hR2 := hR.fr (M2 := M2) (fun a j _ _ => z1 a j (by omega))
    obtain ⟨rT, rA, rU, rB, rW, rX, ⟨rE3, rE4⟩, rP, rS⟩ := id hR2
    refine x_aload_n (pc := 1809) dL_law_1809 rfl rfl ?_
    refine x_callV (pc := 1810) [] rfl kL_224 dL_law_1810 hMo.1 rfl rfl ⟨Nat.le_of_ble_eq_true rfl, Nat.le_of_ble_eq_true rfl⟩ (Nat.le_of_ble_eq_true rfl) (Nat.le_of_ble_eq_true rfl) ⟨by show cn + 0 + 0 ≤ 601024; omega, by show ck + 0 + 0 ≤ 7293034; omega⟩ ?_
    have h5 : X g m_X5_undo 0 0 l2 M2 0 [(0, vR (b + 32))] [] (fun o l3 M3 => o = oI (-1) ∧ l3 = l2 ∧ FrZ (b + 32) M2 M3) := sp_X5_undo hMo hdg rT hW rU (fun _ M3 z => ⟨rfl, rfl, z⟩) (fun z => absurd z (by omega))
    refine X.norm h5 (fun o l3 M3 z => ?_)
    obtain ⟨rfl, rfl, w1⟩ := z
    refine ⟨_, rfl, ?_⟩
    refine x_icmp_eq (pc := 1813) (t := 1890) dL_law_1813 (by decide) (nmI_rng _) (nmI_rng _) (fun _ => ?_) (fun z => absurd rfl z)
    refine k _ _ _ _ (by show cn + 0 + 0 ≤ cn + 7; omega) (by show ck + 0 + 0 ≤ ck + 191; omega) ?_
    have e3 : ∀ a j, ¬ (a = b + 32) → M3 a j = M2 a j := fun a j q => w1 a j (by omega)
    exact ⟨T, A, u, H, tx, n, v, cm, pg, S, sv, ⟨hg, hsb, hSc, htop, hMo, hO1, hO2⟩, hD, ⟨z2.gen (fun a j q1 q2 => e3 a j (by omega)), ⟨fun i hi => by rw [e3 _ _ (by omega), z1 _ _ (by omega)]; exact cA.1 i hi, by rw [e3 _ _ (by omega)]; exact z3⟩, ⟨cR.1, fun j q1 q2 => by rw [e3 _ _ (by omega), z1 _ _ (by omega)]; exact cR.2.1 j q1 q2, fun i hi => by rw [e3 _ _ (by omega), z1 _ _ (by omega)]; exact cR.2.2 i hi⟩, fun i hi => by rw [e3 _ _ (by omega), z1 _ _ (by omega)]; exact cC i hi, ⟨by rw [e3 _ _ (by omega), z1 _ _ (by omega)]; exact cP.1, cP.2.1, fun i hi => by rw [e3 _ _ (by omega), z1 _ _ (by omega)]; exact cP.2.2 i hi⟩⟩, hR2.z w1, hSv.fr (Nat.le_refl _) (fun a j q1 q2 => (e3 a j (by omega)).trans (z1 a j (by omega))), ⟨hW, hO, hB⟩, hH, hX⟩
  · obtain ⟨⟨hI9, hb9, ht9⟩, hH9⟩ := hH.pop (show 0 < u by omega)
    refine x_aload_n (pc := 1805) dL_law_1805 rfl rfl ?_
    refine x_callV (pc := 1806) [] rfl kL_221 dL_law_1806 hD.1 rfl rfl ⟨Nat.le_of_ble_eq_true rfl, Nat.le_of_ble_eq_true rfl⟩ (Nat.le_of_ble_eq_true rfl) (Nat.le_of_ble_eq_true rfl) ⟨by show cn + 0 ≤ 601024; omega, by show ck + 0 ≤ 7293034; omega⟩ ?_
    have h4 : X g m_X4_undo 0 0 lay M 0 [(0, vR b)] [] (fun o l2 M2 => o = oI (((u - 1 : Nat) : Int)) ∧ l2 = lay ∧ (∀ a j, ¬ (b ≤ a ∧ a < b + 8) → M2 a j = M a j) ∧ Ct (H (u - 1)) M2 (b + 1) ∧ M2 b 8 = ((u - 1 : Nat) : Int)) := sp_X4_undo gB hD hg cT hW cA.2 hu hbk (fun M2 z1 z2 z3 => ⟨by rw [if_pos (by omega), show (u : Int) - 1 = ((u - 1 : Nat) : Int) by omega], rfl, z1, by rw [if_pos (by omega)] at z2; exact z2.teq ht9, by rw [if_pos (by omega)] at z3; omega⟩)
    refine X.norm h4 (fun o l2 M2 z => ?_)
    obtain ⟨rfl, rfl, z1, z2, z3⟩ := z
    refine ⟨_, rfl, ?_⟩
    have hR2 := hR.fr (M2 := M2) (fun a j _ _ => z1 a j (by omega))
    obtain ⟨rT, rA, rU, rB, rW, rX, ⟨rE3, rE4⟩, rP, rS⟩ := id hR2
    refine x_aload_n (pc := 1809) dL_law_1809 rfl rfl ?_
    refine x_callV (pc := 1810) [] rfl kL_224 dL_law_1810 hMo.1 rfl rfl ⟨Nat.le_of_ble_eq_true rfl, Nat.le_of_ble_eq_true rfl⟩ (Nat.le_of_ble_eq_true rfl) (Nat.le_of_ble_eq_true rfl) ⟨by show cn + 0 + 0 ≤ 601024; omega, by show ck + 0 + 0 ≤ 7293034; omega⟩ ?_
    have h5 : X g m_X5_undo 0 0 l2 M2 0 [(0, vR (b + 32))] [] (fun o l3 M3 => o = oI (((u - 1 : Nat) : Int)) ∧ l3 = l2 ∧ (∀ a j, ¬ (a = b + 32 ∧ (j = 0 ∨ j = 4)) → ¬ a = b + 32 + 1 → M3 a j = M2 a j) ∧ RowT (H (u - 1)) (M3 (b + 32 + 1)) ∧ Us H (u - 1) M3 (b + 32)) := sp_X5_undo hMo hdg rT hW rU (fun z => absurd z (by omega)) (fun _ M3 z1 z2 z3 => ⟨rfl, rfl, z1, z2, z3⟩)
    refine X.norm h5 (fun o l3 M3 z => ?_)
    obtain ⟨rfl, rfl, w1, w2, w3⟩ := z
    refine ⟨_, rfl, ?_⟩
    refine x_icmp_eq (pc := 1813) (t := 1890) dL_law_1813 (by decide) (nmI_rng _) (nmI_rng _) (fun _ => ?_) (fun z => absurd rfl z)
    refine k _ _ _ _ (by show cn + 0 + 0 ≤ cn + 7; omega) (by show ck + 0 + 0 ≤ ck + 191; omega) ?_
    have e3 : ∀ a j, ¬ (b + 32 ≤ a ∧ a < b + 34) → M3 a j = M2 a j := fun a j q => w1 a j (by omega) (by omega)
    exact ⟨H (u - 1), A, u - 1, H, tx, n, v, cm, pg, S, sv, ⟨hg, hsb, hSc, htop, hMo, hO1, hO2⟩, hD, ⟨z2.gen (fun a j q1 q2 => e3 a j (by omega)), ⟨fun i hi => by rw [e3 _ _ (by omega), z1 _ _ (by omega)]; exact cA.1 i hi, by rw [e3 _ _ (by omega)]; exact z3⟩, ⟨cR.1, fun j q1 q2 => by rw [e3 _ _ (by omega), z1 _ _ (by omega)]; exact cR.2.1 j q1 q2, fun i hi => by rw [e3 _ _ (by omega), z1 _ _ (by omega)]; exact cR.2.2 i hi⟩, fun i hi => by rw [e3 _ _ (by omega), z1 _ _ (by omega)]; exact cC i hi, ⟨by rw [e3 _ _ (by omega), z1 _ _ (by omega)]; exact cP.1, cP.2.1, fun i hi => by rw [e3 _ _ (by omega), z1 _ _ (by omega)]; exact cP.2.2 i hi⟩⟩, ⟨w2, rA.fr (fun j => w1 _ j (by omega) (by omega)), w3, Bg.fr2 rB (fun j => w1 _ j (by omega) (by omega)), rW.fr (fun j => w1 _ j (by omega) (by omega)), rX.z (w1 _ _ (by omega) (by omega)) (fun j => w1 _ j (by omega) (by omega)), ⟨(w1 _ _ (by omega) (by omega)).trans rE3, (w1 _ _ (by omega) (by omega)).trans rE4⟩, rP.fr (w1 _ _ (by omega) (by omega)) (fun j => w1 _ j (by omega) (by omega)), rS.fr (fun j => w1 _ j (by omega) (by omega)) (fun j => w1 _ j (by omega) (by omega))⟩, hSv.fr (Nat.le_refl _) (fun a j q1 q2 => (e3 a j (by omega)).trans (z1 a j (by omega))), hI9, hH9, hX⟩
