/-! What the law checks after each act. -/
/-- what holds of a contest between two acts -/
def LInv (T : CT) (pw : Nat) (hc : Int) : Prop := WfO T ∧ (tO T = 0 → tB T = -1) ∧ (tO T = 1 → ¬ hasClaim T) ∧ HcR T hc ∧ PwR T pw
theorem bar_I {T : CT} {p : Nat} : (if 0 ≤ laF T p ∧ (tS T 1 = 0 ∨ (tN T : Int) - laF T p ≤ tS T 1) then (1 : Int) else 0) = if isBar T (p : Nat) then 1 else 0 := by
  by_cases h : isBar T (p : Nat)
  · rw [if_pos h]
    exact if_pos (bar_iff.mpr h)
  · rw [if_neg h]
    exact if_neg (fun q => h (bar_iff.mp q))

set_option maxRecDepth 100000 in
theorem law_check {g : GG} {lay : Lay} {M : Mem} {K : KK} {cn ck : Nat} {kx : Int} {d b c t pw nn : Nat} {hc st : Int} {sx : List Int} {T : CT} (gB : GoodB) (hI : LwI g lay M d b c t pw nn hc sx T) (hV : LInv T pw hc) (hcn : cn ≤ 90000) (hck : ck ≤ 3900000) (k : ∀ lay2 M2 cn2 ck2, cn2 ≤ cn + 40 → ck2 ≤ ck + 400 → LwI g lay2 M2 d b c t pw nn hc sx T → X g m_L_law cn2 ck2 lay2 M2 994 [(13, vI kx), (1, vR d), (2, vR b), (3, vI (pw : Nat)), (7, vI (tS T 4)), (10, vR c), (11, vR t), (12, vI (st - 6))] [] K) : X g m_L_law cn ck lay M 730 [(13, vI kx), (1, vR d), (2, vR b), (3, vI (pw : Nat)), (7, vI (tS T 4)), (10, vR c), (11, vR t), (12, vI (st - 6))] [] K := by
  have hWf : WfT T := hI.2.2.2.1.2.2.2.2
  obtain ⟨hO, hB, hNc, hh, hP⟩ := id hV
  have hWl := LcW.of hWf hP hh
  have ha1 := hI.1
  have w1 := hWl.1
  have hPw := hP.1
  have n60 := hWf.n60
  have oo := hWf.2.2.2.2.2.2.1
  have bb9 := hWf.2.2.2.2.2.2.2
  have loop : ∀ dd j : Nat, j + dd = pw → ∀ (lay2 : Lay) (M2 : Mem) (cn2 ck2 : Nat), cn2 ≤ cn + 2 * j → ck2 ≤ ck + 12 * j → LwI g lay2 M2 d b c t pw nn hc sx T → X g m_L_law cn2 ck2 lay2 M2 736 [(16, vI (j : Nat)), (15, vI (barredF T j)), (13, vI kx), (1, vR d), (2, vR b), (3, vI (pw : Nat)), (7, vI (tS T 4)), (10, vR c), (11, vR t), (12, vI (st - 6))] [] K := by
    intro dd
    induction dd with
    | zero =>
      intro j hj lay2 M2 cn2 ck2 hcn2 hck2 hI
      have ej : j = pw := by omega
      subst ej
      obtain ⟨A, u, hA, hu0, hu1⟩ := hI.2.2.2.2.1
      have br := barredF_rng T j
      have cb : barredF T (tS T 0).toNat = barredF T j := by rw [← hPw, Int.toNat_natCast]
      have c8 : ∀ h : Int, h = 0 ∨ h = 1 → True := fun _ _ => trivial
      obtain ⟨ov, hov, hov2⟩ : ∃ ov : Int, ov = (if tO T = 1 then -1 else ((tN T % 2 : Nat) : Int)) ∧ (tO T = 1 ∧ ov = -1 ∨ tO T = 0 ∧ ov = ((tN T % 2 : Nat) : Int)) := ⟨_, rfl, by
        rcases oo with h | h
        · exact Or.inr ⟨h, if_neg (by omega)⟩
        · exact Or.inl ⟨h, if_pos h⟩⟩
      obtain ⟨hq, hhq, hhq2⟩ : ∃ hq : Int, hq = (if hasClaim T then 1 else 0) ∧ (hq = 1 ∧ tO T = 0 ∧ hc = 1 ∨ hq = 0 ∧ (tO T = 1 ∨ hc = 0)) := ⟨_, rfl, by
        have h1 := hh.1
        have h2 := hh.2
        by_cases q : hasClaim T
        · rcases oo with h | h
          · exact Or.inl ⟨if_pos q, h, (h2 h).mpr q⟩
          · exact absurd q (hNc h)
        · refine Or.inr ⟨if_neg q, ?_⟩
          rcases oo with h | h
          · refine Or.inr (h1.resolve_right (fun h3 => q ((h2 h).mp h3)))
          · exact Or.inl h⟩
      obtain ⟨s0, hs0⟩ : ∃ s0, s0 = scoreF T (buildF (tP T)) 0 := ⟨_, rfl⟩
      obtain ⟨s1, hs1⟩ : ∃ s1, s1 = scoreF T (buildF (tP T)) 1 := ⟨_, rfl⟩
      have r0 := scoreF_rng hWf (buildF (tP T)) (pl := 0) (by decide)
      have r1 := scoreF_rng hWf (buildF (tP T)) (pl := 1) (by decide)
      rw [← hs0] at r0
      rw [← hs1] at r1
      obtain ⟨wn, hwn, hwn2⟩ : ∃ wn, wn = winF T ∧ (tO T = 0 ∧ wn = -1 ∨ tO T = 1 ∧ (s0 = s1 ∧ wn = 2 ∨ s1 < s0 ∧ wn = 0 ∨ s0 < s1 ∧ wn = 1)) := ⟨_, rfl, by
        unfold winF
        rw [← hs0, ← hs1]
        rcases oo with h | h
        · exact Or.inl ⟨h, if_pos h⟩
        · refine Or.inr ⟨h, ?_⟩
          rw [if_neg (by omega)]
          by_cases q : s0 = s1
          · exact Or.inl ⟨q, if_pos q⟩
          · rw [if_neg q]
            by_cases q2 : s1 < s0
            · exact Or.inr (Or.inl ⟨q2, if_pos q2⟩)
            · exact Or.inr (Or.inr ⟨by omega, if_neg q2⟩)⟩
      refine x_iload (pc := 736) dL_law_736 rfl ?_
      refine x_iload_n (pc := 738) dL_law_738 rfl rfl ?_
      refine x_icmp_ge (pc := 739) (t := 813) dL_law_739 (by decide) ⟨by omega, by omega⟩ ⟨by omega, by omega⟩ (fun c739 => ?_) (fun c739 => ?_)
      · refine x_aload_n (pc := 813) dL_law_813 rfl rfl ?_
        refine x_bipush (pc := 814) dL_law_814 (by decide) ?_
        refine x_callV (pc := 816) [_] rfl kL_240 dL_law_816 hI.2.2.2.1.1.1 rfl rfl (by decide) (Nat.le_of_ble_eq_true rfl) (Nat.le_of_ble_eq_true rfl) (show _ + 1 ≤ 600086 ∧ _ + 6 ≤ 7301442 by omega) ?_
        refine sp_X4_count gB hI.2.2.2.1.1 hI.2.2.2.1.2.1 hI.2.2.2.1.2.2.2.1 hI.2.2.2.1.2.2.2.2 hA ⟨hu0, hu1⟩ ⟨by omega, by omega⟩ (fun M3 n3 hn3 hS3 => ?_)
        have hA := hA.mem (M' := M3) (fun i => hS3 _ _ (by omega) (by omega) (by omega)) (fun i => hS3 _ _ (by omega) (by omega) (by omega))
        have hI := hI.scr (Ext.up (lay2 := (_, n3)) rfl hn3) (fun y i _ h => hS3 y i (by omega) (by omega) (by omega))
        rw [show rCount T u 7 = oI ((tN T : Nat)) from if_neg (fun h => h ⟨by decide, by decide⟩)]
        refine ⟨_, rfl, ?_⟩
        refine X.cs (cn' := cn2 + 1) (ck' := ck2 + 6) ?_ (Nat.le_refl _) (Nat.le_refl _)
        refine x_aload (pc := 819) dL_law_819 rfl ?_
        refine x_getiN (pc := 821) frL_228 dL_law_821 hI.2.2.2.2.2.2.1.1.1.1 rfl (fun r821a r821b => ?_)
        have q9 := hI.2.2.2.2.2.2.1.2.2.2.2.2.1
        have q11 := hI.2.2.2.2.2.2.1.2.2.2.2.2.2.2.1
        have q12 := hI.2.2.2.2.2.2.1.2.2.2.2.2.2.2.2.1
        have q13 := hI.2.2.2.2.2.2.1.2.2.2.2.2.2.2.2.2
        refine x_icmp_ne (pc := 824) (t := 908) dL_law_824 (by decide) ⟨by omega, by omega⟩ ⟨by omega, by omega⟩ (fun c824 => ?_) (fun c824 => ?_)
        · exfalso; omega
        · refine x_aload_n (pc := 827) dL_law_827 rfl rfl ?_
          refine x_bipush (pc := 828) dL_law_828 (by decide) ?_
          refine x_callV (pc := 830) [_] rfl kL_240 dL_law_830 hI.2.2.2.1.1.1 rfl rfl (by decide) (Nat.le_of_ble_eq_true rfl) (Nat.le_of_ble_eq_true rfl) (show _ + 1 ≤ 600086 ∧ _ + 6 ≤ 7301442 by omega) ?_
          refine sp_X4_count gB hI.2.2.2.1.1 hI.2.2.2.1.2.1 hI.2.2.2.1.2.2.2.1 hI.2.2.2.1.2.2.2.2 hA ⟨hu0, hu1⟩ ⟨by omega, by omega⟩ (fun M3 n3 hn3 hS3 => ?_)
          have hA := hA.mem (M' := M3) (fun i => hS3 _ _ (by omega) (by omega) (by omega)) (fun i => hS3 _ _ (by omega) (by omega) (by omega))
          have hI := hI.scr (Ext.up (lay2 := (_, n3)) rfl hn3) (fun y i _ h => hS3 y i (by omega) (by omega) (by omega))
          rw [show rCount T u 8 = oI (if tO T = 1 then -1 else ((tN T % 2 : Nat) : Int)) from if_neg (fun h => h ⟨by decide, by decide⟩)]
          rw [← hov]
          refine ⟨_, rfl, ?_⟩
          refine X.cs (cn' := cn2 + 2) (ck' := ck2 + 12) ?_ (Nat.le_refl _) (Nat.le_refl _)
          refine x_aload (pc := 833) dL_law_833 rfl ?_
          refine x_getzN (pc := 835) frL_215 dL_law_835 hI.2.2.2.2.2.2.1.1.1.1 rfl (fun r835a r835b => ?_)
          have q9 := hI.2.2.2.2.2.2.1.2.2.2.2.2.1
          have q11 := hI.2.2.2.2.2.2.1.2.2.2.2.2.2.2.1
          have q12 := hI.2.2.2.2.2.2.1.2.2.2.2.2.2.2.2.1
          have q13 := hI.2.2.2.2.2.2.1.2.2.2.2.2.2.2.2.2
          refine x_if_eq (pc := 838) (t := 845) dL_law_838 (by decide) ⟨by omega, by omega⟩ (fun c838 => ?_) (fun c838 => ?_)
          · refine x_aload (pc := 845) dL_law_845 rfl ?_
            refine x_callV (pc := 847) [] rfl kL_91 dL_law_847 hI.2.2.2.2.2.2.1.1.1.1 rfl rfl (by decide) (Nat.le_of_ble_eq_true rfl) (Nat.le_of_ble_eq_true rfl) (show _ + 0 ≤ 600086 ∧ _ + 0 ≤ 7301442 by omega) ?_
            refine sp_X6_whose hI.2.2.2.2.2.2.1 hWl ?_
            refine ⟨_, rfl, ?_⟩
            refine X.cs (cn' := cn2 + 2) (ck' := ck2 + 12) ?_ (Nat.le_refl _) (Nat.le_refl _)
            refine x_icmp_ne (pc := 850) (t := 908) dL_law_850 (by decide) ⟨by omega, by omega⟩ ⟨by omega, by omega⟩ (fun c850 => ?_) (fun c850 => ?_)
            · exfalso; omega
            · refine x_aload_n (pc := 853) dL_law_853 rfl rfl ?_
              refine x_bipush (pc := 854) dL_law_854 (by decide) ?_
              refine x_callV (pc := 856) [_] rfl kL_240 dL_law_856 hI.2.2.2.1.1.1 rfl rfl (by decide) (Nat.le_of_ble_eq_true rfl) (Nat.le_of_ble_eq_true rfl) (show _ + 1 ≤ 600086 ∧ _ + 6 ≤ 7301442 by omega) ?_
              refine sp_X4_count gB hI.2.2.2.1.1 hI.2.2.2.1.2.1 hI.2.2.2.1.2.2.2.1 hI.2.2.2.1.2.2.2.2 hA ⟨hu0, hu1⟩ ⟨by omega, by omega⟩ (fun M3 n3 hn3 hS3 => ?_)
              have hA := hA.mem (M' := M3) (fun i => hS3 _ _ (by omega) (by omega) (by omega)) (fun i => hS3 _ _ (by omega) (by omega) (by omega))
              have hI := hI.scr (Ext.up (lay2 := (_, n3)) rfl hn3) (fun y i _ h => hS3 y i (by omega) (by omega) (by omega))
              rw [show rCount T u 10 = oI (barredF T (tS T 0).toNat) from if_neg (fun h => h ⟨by decide, by decide⟩)]
              rw [cb]
              refine ⟨_, rfl, ?_⟩
              refine X.cs (cn' := cn2 + 3) (ck' := ck2 + 18) ?_ (Nat.le_refl _) (Nat.le_refl _)
              refine x_iload (pc := 859) dL_law_859 rfl ?_
              refine x_icmp_ne (pc := 861) (t := 908) dL_law_861 (by decide) ⟨by omega, by omega⟩ ⟨by omega, by omega⟩ (fun c861 => ?_) (fun c861 => ?_)
              · exfalso; omega
              · refine x_aload_n (pc := 864) dL_law_864 rfl rfl ?_
                refine x_bipush (pc := 865) dL_law_865 (by decide) ?_
                refine x_callV (pc := 867) [_] rfl kL_240 dL_law_867 hI.2.2.2.1.1.1 rfl rfl (by decide) (Nat.le_of_ble_eq_true rfl) (Nat.le_of_ble_eq_true rfl) (show _ + 1 ≤ 600086 ∧ _ + 6 ≤ 7301442 by omega) ?_
                refine sp_X4_count gB hI.2.2.2.1.1 hI.2.2.2.1.2.1 hI.2.2.2.1.2.2.2.1 hI.2.2.2.1.2.2.2.2 hA ⟨hu0, hu1⟩ ⟨by omega, by omega⟩ (fun M3 n3 hn3 hS3 => ?_)
                have hA := hA.mem (M' := M3) (fun i => hS3 _ _ (by omega) (by omega) (by omega)) (fun i => hS3 _ _ (by omega) (by omega) (by omega))
                have hI := hI.scr (Ext.up (lay2 := (_, n3)) rfl hn3) (fun y i _ h => hS3 y i (by omega) (by omega) (by omega))
                rw [show rCount T u 14 = oI (if hasClaim T then 1 else 0) from if_neg (fun h => h ⟨by decide, by decide⟩)]
                rw [← hhq]
                refine ⟨_, rfl, ?_⟩
                refine X.cs (cn' := cn2 + 4) (ck' := ck2 + 24) ?_ (Nat.le_refl _) (Nat.le_refl _)
                refine x_aload (pc := 870) dL_law_870 rfl ?_
                refine x_getzN (pc := 872) frL_209 dL_law_872 hI.2.2.2.2.2.2.1.1.1.1 rfl (fun r872a r872b => ?_)
                have q9 := hI.2.2.2.2.2.2.1.2.2.2.2.2.1
                have q11 := hI.2.2.2.2.2.2.1.2.2.2.2.2.2.2.1
                have q12 := hI.2.2.2.2.2.2.1.2.2.2.2.2.2.2.2.1
                have q13 := hI.2.2.2.2.2.2.1.2.2.2.2.2.2.2.2.2
                refine x_if_eq (pc := 875) (t := 890) dL_law_875 (by decide) ⟨by omega, by omega⟩ (fun c875 => ?_) (fun c875 => ?_)
                · refine x_iconst (pc := 890) dL_law_890 ?_
                  refine x_icmp_ne (pc := 891) (t := 908) dL_law_891 (by decide) ⟨by omega, by omega⟩ ⟨by omega, by omega⟩ (fun c891 => ?_) (fun c891 => ?_)
                  · exfalso; omega
                  · refine x_aload_n (pc := 894) dL_law_894 rfl rfl ?_
                    refine x_bipush (pc := 895) dL_law_895 (by decide) ?_
                    refine x_callV (pc := 897) [_] rfl kL_240 dL_law_897 hI.2.2.2.1.1.1 rfl rfl (by decide) (Nat.le_of_ble_eq_true rfl) (Nat.le_of_ble_eq_true rfl) (show _ + 1 ≤ 600086 ∧ _ + 6 ≤ 7301442 by omega) ?_
                    refine sp_X4_count gB hI.2.2.2.1.1 hI.2.2.2.1.2.1 hI.2.2.2.1.2.2.2.1 hI.2.2.2.1.2.2.2.2 hA ⟨hu0, hu1⟩ ⟨by omega, by omega⟩ (fun M3 n3 hn3 hS3 => ?_)
                    have hA := hA.mem (M' := M3) (fun i => hS3 _ _ (by omega) (by omega) (by omega)) (fun i => hS3 _ _ (by omega) (by omega) (by omega))
                    have hI := hI.scr (Ext.up (lay2 := (_, n3)) rfl hn3) (fun y i _ h => hS3 y i (by omega) (by omega) (by omega))
                    rw [show rCount T u 15 = oI (tB T) from if_neg (fun h => h ⟨by decide, by decide⟩)]
                    refine ⟨_, rfl, ?_⟩
                    refine X.cs (cn' := cn2 + 5) (ck' := ck2 + 30) ?_ (Nat.le_refl _) (Nat.le_refl _)
                    refine x_aload (pc := 900) dL_law_900 rfl ?_
                    refine x_getiN (pc := 902) frL_231 dL_law_902 hI.2.2.2.2.2.2.1.1.1.1 rfl (fun r902a r902b => ?_)
                    have q9 := hI.2.2.2.2.2.2.1.2.2.2.2.2.1
                    have q11 := hI.2.2.2.2.2.2.1.2.2.2.2.2.2.2.1
                    have q12 := hI.2.2.2.2.2.2.1.2.2.2.2.2.2.2.2.1
                    have q13 := hI.2.2.2.2.2.2.1.2.2.2.2.2.2.2.2.2
                    refine x_icmp_eq (pc := 905) (t := 910) dL_law_905 (by decide) ⟨by omega, by omega⟩ ⟨by omega, by omega⟩ (fun c905 => ?_) (fun c905 => ?_)
                    · refine x_aload (pc := 910) dL_law_910 rfl ?_
                      refine x_aload_n (pc := 912) dL_law_912 rfl rfl ?_
                      refine x_iconst (pc := 913) dL_law_913 ?_
                      refine x_callV (pc := 914) [_, _] rfl kL_243 dL_law_914 hI.2.2.2.2.2.2.1.1.1.1 rfl rfl (by decide) (Nat.le_of_ble_eq_true rfl) (Nat.le_of_ble_eq_true rfl) (show _ + 5 ≤ 600086 ∧ _ + 28 ≤ 7301442 by omega) ?_
                      refine sp_X6_score (P := tP T) (pl := 0) gB hI.2.2.2.2.2.2.1 hWl hPw hV.2.2.2.2.2 hI.2.1 hI.2.2.2.2.2.2.2.1 hI.2.2.2.1 (by omega) (by decide) (fun lay3 M3 E3 p3 hD3 => ?_)
                      have hI := hI.scr E3 p3
                      rw [← hs0]
                      refine ⟨_, rfl, ?_⟩
                      refine X.cs (cn' := cn2 + 10) (ck' := ck2 + 58) ?_ (Nat.le_refl _) (Nat.le_refl _)
                      refine x_istore (pc := 917) dL_law_917 trivial (by decide) (L' := [(16, _), (15, _), (13, _), (1, _), (2, _), (3, _), (7, _), (10, _), (11, _), (12, _)]) rfl ?_
                      refine x_aload (pc := 919) dL_law_919 rfl ?_
                      refine x_aload_n (pc := 921) dL_law_921 rfl rfl ?_
                      refine x_iconst (pc := 922) dL_law_922 ?_
                      refine x_callV (pc := 923) [_, _] rfl kL_243 dL_law_923 hI.2.2.2.2.2.2.1.1.1.1 rfl rfl (by decide) (Nat.le_of_ble_eq_true rfl) (Nat.le_of_ble_eq_true rfl) (show _ + 5 ≤ 600086 ∧ _ + 28 ≤ 7301442 by omega) ?_
                      refine sp_X6_score (P := tP T) (pl := 1) gB hI.2.2.2.2.2.2.1 hWl hPw hV.2.2.2.2.2 hI.2.1 hI.2.2.2.2.2.2.2.1 hI.2.2.2.1 (by omega) (by decide) (fun lay3 M3 E3 p3 hD3 => ?_)
                      have hI := hI.scr E3 p3
                      rw [← hs1]
                      refine ⟨_, rfl, ?_⟩
                      refine X.cs (cn' := cn2 + 15) (ck' := ck2 + 86) ?_ (Nat.le_refl _) (Nat.le_refl _)
                      refine x_istore (pc := 926) dL_law_926 trivial (by decide) (L' := [(17, _), (16, _), (15, _), (13, _), (1, _), (2, _), (3, _), (7, _), (10, _), (11, _), (12, _)]) rfl ?_
                      refine x_aload_n (pc := 928) dL_law_928 rfl rfl ?_
                      refine x_iconst (pc := 929) dL_law_929 ?_
                      refine x_iconst (pc := 930) dL_law_930 ?_
                      refine x_callV (pc := 931) [_, _] rfl kL_247 dL_law_931 hI.2.2.2.1.1.1 rfl rfl (by decide) (Nat.le_of_ble_eq_true rfl) (Nat.le_of_ble_eq_true rfl) (show _ + 1 ≤ 600086 ∧ _ + 6 ≤ 7301442 by omega) ?_
                      refine sp_X4_player gB hI.2.2.2.1.1 hI.2.2.2.1.2.1 hI.2.2.2.1.2.2.2.1 hI.2.2.2.1.2.2.2.2 ⟨by omega, by omega⟩ ⟨by omega, by omega⟩ (fun M3 n3 hn3 hS3 => ?_)
                      have hI := hI.scr (Ext.up (lay2 := (_, n3)) rfl hn3) (fun y i _ h => hS3 y i (by omega) (by omega) (by omega))
                      rw [show rPlayer T 0 0 = oI (s0) from (if_neg (fun h => h (by decide))).trans ((if_neg (fun h => h ⟨by decide, by decide⟩)).trans (by rw [hs0]; rfl))]
                      refine ⟨_, rfl, ?_⟩
                      refine X.cs (cn' := cn2 + 16) (ck' := ck2 + 92) ?_ (Nat.le_refl _) (Nat.le_refl _)
                      refine x_iload (pc := 934) dL_law_934 rfl ?_
                      refine x_icmp_ne (pc := 936) (t := 992) dL_law_936 (by decide) ⟨by omega, by omega⟩ ⟨by omega, by omega⟩ (fun c936 => ?_) (fun c936 => ?_)
                      · exfalso; omega
                      · refine x_aload_n (pc := 939) dL_law_939 rfl rfl ?_
                        refine x_iconst (pc := 940) dL_law_940 ?_
                        refine x_iconst (pc := 941) dL_law_941 ?_
                        refine x_callV (pc := 942) [_, _] rfl kL_247 dL_law_942 hI.2.2.2.1.1.1 rfl rfl (by decide) (Nat.le_of_ble_eq_true rfl) (Nat.le_of_ble_eq_true rfl) (show _ + 1 ≤ 600086 ∧ _ + 6 ≤ 7301442 by omega) ?_
                        refine sp_X4_player gB hI.2.2.2.1.1 hI.2.2.2.1.2.1 hI.2.2.2.1.2.2.2.1 hI.2.2.2.1.2.2.2.2 ⟨by omega, by omega⟩ ⟨by omega, by omega⟩ (fun M3 n3 hn3 hS3 => ?_)
                        have hI := hI.scr (Ext.up (lay2 := (_, n3)) rfl hn3) (fun y i _ h => hS3 y i (by omega) (by omega) (by omega))
                        rw [show rPlayer T 1 0 = oI (s1) from (if_neg (fun h => h (by decide))).trans ((if_neg (fun h => h ⟨by decide, by decide⟩)).trans (by rw [hs1]; rfl))]
                        refine ⟨_, rfl, ?_⟩
                        refine X.cs (cn' := cn2 + 17) (ck' := ck2 + 98) ?_ (Nat.le_refl _) (Nat.le_refl _)
                        refine x_iload (pc := 945) dL_law_945 rfl ?_
                        refine x_icmp_ne (pc := 947) (t := 992) dL_law_947 (by decide) ⟨by omega, by omega⟩ ⟨by omega, by omega⟩ (fun c947 => ?_) (fun c947 => ?_)
                        · exfalso; omega
                        · refine x_aload_n (pc := 950) dL_law_950 rfl rfl ?_
                          refine x_callV (pc := 951) [] rfl kL_250 dL_law_951 hI.2.2.2.1.1.1 rfl rfl (by decide) (Nat.le_of_ble_eq_true rfl) (Nat.le_of_ble_eq_true rfl) (show _ + 0 ≤ 600086 ∧ _ + 0 ≤ 7301442 by omega) ?_
                          refine sp_X4_winner gB hI.2.2.2.1.1 hI.2.2.2.1.2.1 hI.2.2.2.1.2.2.2.1 hI.2.2.2.1.2.2.2.2  (fun M3 n3 hn3 hS3 => ?_)
                          have hI := hI.scr (Ext.up (lay2 := (_, n3)) rfl hn3) (fun y i _ h => hS3 y i (by omega) (by omega) (by omega))
                          rw [← hwn]
                          refine ⟨_, rfl, ?_⟩
                          refine X.cs (cn' := cn2 + 17) (ck' := ck2 + 98) ?_ (Nat.le_refl _) (Nat.le_refl _)
                          refine x_aload (pc := 954) dL_law_954 rfl ?_
                          refine x_getzN (pc := 956) frL_215 dL_law_956 hI.2.2.2.2.2.2.1.1.1.1 rfl (fun r956a r956b => ?_)
                          have q9 := hI.2.2.2.2.2.2.1.2.2.2.2.2.1
                          have q11 := hI.2.2.2.2.2.2.1.2.2.2.2.2.2.2.1
                          have q12 := hI.2.2.2.2.2.2.1.2.2.2.2.2.2.2.2.1
                          have q13 := hI.2.2.2.2.2.2.1.2.2.2.2.2.2.2.2.2
                          refine x_if_ne (pc := 959) (t := 966) dL_law_959 (by decide) ⟨by omega, by omega⟩ (fun c959 => ?_) (fun c959 => ?_)
                          · refine x_iload (pc := 966) dL_law_966 rfl ?_
                            refine x_iload (pc := 968) dL_law_968 rfl ?_
                            refine x_icmp_le (pc := 970) (t := 977) dL_law_970 (by decide) ⟨by omega, by omega⟩ ⟨by omega, by omega⟩ (fun c970 => ?_) (fun c970 => ?_)
                            · refine x_iload (pc := 977) dL_law_977 rfl ?_
                              refine x_iload (pc := 979) dL_law_979 rfl ?_
                              refine x_icmp_ge (pc := 981) (t := 988) dL_law_981 (by decide) ⟨by omega, by omega⟩ ⟨by omega, by omega⟩ (fun c981 => ?_) (fun c981 => ?_)
                              · refine x_iconst (pc := 988) dL_law_988 ?_
                                refine x_icmp_eq (pc := 989) (t := 994) dL_law_989 (by decide) ⟨by omega, by omega⟩ ⟨by omega, by omega⟩ (fun c989 => ?_) (fun c989 => ?_)
                                · refine X.loc [3, 4, 5, 6, 7, 8, 9, 10] (L' := [(13, _), (1, _), (2, _), (3, _), (7, _), (10, _), (11, _), (12, _)]) rfl ?_
                                  exact k _ _ _ _ (by omega) (by omega) hI
                                · exfalso; omega
                              · refine x_iconst (pc := 984) dL_law_984 ?_
                                refine x_goto (pc := 985) (t := 989) dL_law_985 (by decide) ?_
                                refine x_icmp_eq (pc := 989) (t := 994) dL_law_989 (by decide) ⟨by omega, by omega⟩ ⟨by omega, by omega⟩ (fun c989 => ?_) (fun c989 => ?_)
                                · refine X.loc [3, 4, 5, 6, 7, 8, 9, 10] (L' := [(13, _), (1, _), (2, _), (3, _), (7, _), (10, _), (11, _), (12, _)]) rfl ?_
                                  exact k _ _ _ _ (by omega) (by omega) hI
                                · exfalso; omega
                            · refine x_iconst (pc := 973) dL_law_973 ?_
                              refine x_goto (pc := 974) (t := 989) dL_law_974 (by decide) ?_
                              refine x_icmp_eq (pc := 989) (t := 994) dL_law_989 (by decide) ⟨by omega, by omega⟩ ⟨by omega, by omega⟩ (fun c989 => ?_) (fun c989 => ?_)
                              · refine X.loc [3, 4, 5, 6, 7, 8, 9, 10] (L' := [(13, _), (1, _), (2, _), (3, _), (7, _), (10, _), (11, _), (12, _)]) rfl ?_
                                exact k _ _ _ _ (by omega) (by omega) hI
                              · exfalso; omega
                          · refine x_iconst (pc := 962) dL_law_962 ?_
                            refine x_goto (pc := 963) (t := 989) dL_law_963 (by decide) ?_
                            refine x_icmp_eq (pc := 989) (t := 994) dL_law_989 (by decide) ⟨by omega, by omega⟩ ⟨by omega, by omega⟩ (fun c989 => ?_) (fun c989 => ?_)
                            · refine X.loc [3, 4, 5, 6, 7, 8, 9, 10] (L' := [(13, _), (1, _), (2, _), (3, _), (7, _), (10, _), (11, _), (12, _)]) rfl ?_
                              exact k _ _ _ _ (by omega) (by omega) hI
                            · exfalso; omega
                    · exfalso; omega
                · refine x_aload (pc := 878) dL_law_878 rfl ?_
                  refine x_getzN (pc := 880) frL_215 dL_law_880 hI.2.2.2.2.2.2.1.1.1.1 rfl (fun r880a r880b => ?_)
                  have q9 := hI.2.2.2.2.2.2.1.2.2.2.2.2.1
                  have q11 := hI.2.2.2.2.2.2.1.2.2.2.2.2.2.2.1
                  have q12 := hI.2.2.2.2.2.2.1.2.2.2.2.2.2.2.2.1
                  have q13 := hI.2.2.2.2.2.2.1.2.2.2.2.2.2.2.2.2
                  refine x_if_ne (pc := 883) (t := 890) dL_law_883 (by decide) ⟨by omega, by omega⟩ (fun c883 => ?_) (fun c883 => ?_)
                  · refine x_iconst (pc := 890) dL_law_890 ?_
                    refine x_icmp_ne (pc := 891) (t := 908) dL_law_891 (by decide) ⟨by omega, by omega⟩ ⟨by omega, by omega⟩ (fun c891 => ?_) (fun c891 => ?_)
                    · exfalso; omega
                    · refine x_aload_n (pc := 894) dL_law_894 rfl rfl ?_
                      refine x_bipush (pc := 895) dL_law_895 (by decide) ?_
                      refine x_callV (pc := 897) [_] rfl kL_240 dL_law_897 hI.2.2.2.1.1.1 rfl rfl (by decide) (Nat.le_of_ble_eq_true rfl) (Nat.le_of_ble_eq_true rfl) (show _ + 1 ≤ 600086 ∧ _ + 6 ≤ 7301442 by omega) ?_
                      refine sp_X4_count gB hI.2.2.2.1.1 hI.2.2.2.1.2.1 hI.2.2.2.1.2.2.2.1 hI.2.2.2.1.2.2.2.2 hA ⟨hu0, hu1⟩ ⟨by omega, by omega⟩ (fun M3 n3 hn3 hS3 => ?_)
                      have hA := hA.mem (M' := M3) (fun i => hS3 _ _ (by omega) (by omega) (by omega)) (fun i => hS3 _ _ (by omega) (by omega) (by omega))
                      have hI := hI.scr (Ext.up (lay2 := (_, n3)) rfl hn3) (fun y i _ h => hS3 y i (by omega) (by omega) (by omega))
                      rw [show rCount T u 15 = oI (tB T) from if_neg (fun h => h ⟨by decide, by decide⟩)]
                      refine ⟨_, rfl, ?_⟩
                      refine X.cs (cn' := cn2 + 5) (ck' := ck2 + 30) ?_ (Nat.le_refl _) (Nat.le_refl _)
                      refine x_aload (pc := 900) dL_law_900 rfl ?_
                      refine x_getiN (pc := 902) frL_231 dL_law_902 hI.2.2.2.2.2.2.1.1.1.1 rfl (fun r902a r902b => ?_)
                      have q9 := hI.2.2.2.2.2.2.1.2.2.2.2.2.1
                      have q11 := hI.2.2.2.2.2.2.1.2.2.2.2.2.2.2.1
                      have q12 := hI.2.2.2.2.2.2.1.2.2.2.2.2.2.2.2.1
                      have q13 := hI.2.2.2.2.2.2.1.2.2.2.2.2.2.2.2.2
                      refine x_icmp_eq (pc := 905) (t := 910) dL_law_905 (by decide) ⟨by omega, by omega⟩ ⟨by omega, by omega⟩ (fun c905 => ?_) (fun c905 => ?_)
                      · refine x_aload (pc := 910) dL_law_910 rfl ?_
                        refine x_aload_n (pc := 912) dL_law_912 rfl rfl ?_
                        refine x_iconst (pc := 913) dL_law_913 ?_
                        refine x_callV (pc := 914) [_, _] rfl kL_243 dL_law_914 hI.2.2.2.2.2.2.1.1.1.1 rfl rfl (by decide) (Nat.le_of_ble_eq_true rfl) (Nat.le_of_ble_eq_true rfl) (show _ + 5 ≤ 600086 ∧ _ + 28 ≤ 7301442 by omega) ?_
                        refine sp_X6_score (P := tP T) (pl := 0) gB hI.2.2.2.2.2.2.1 hWl hPw hV.2.2.2.2.2 hI.2.1 hI.2.2.2.2.2.2.2.1 hI.2.2.2.1 (by omega) (by decide) (fun lay3 M3 E3 p3 hD3 => ?_)
                        have hI := hI.scr E3 p3
                        rw [← hs0]
                        refine ⟨_, rfl, ?_⟩
                        refine X.cs (cn' := cn2 + 10) (ck' := ck2 + 58) ?_ (Nat.le_refl _) (Nat.le_refl _)
                        refine x_istore (pc := 917) dL_law_917 trivial (by decide) (L' := [(16, _), (15, _), (13, _), (1, _), (2, _), (3, _), (7, _), (10, _), (11, _), (12, _)]) rfl ?_
                        refine x_aload (pc := 919) dL_law_919 rfl ?_
                        refine x_aload_n (pc := 921) dL_law_921 rfl rfl ?_
                        refine x_iconst (pc := 922) dL_law_922 ?_
                        refine x_callV (pc := 923) [_, _] rfl kL_243 dL_law_923 hI.2.2.2.2.2.2.1.1.1.1 rfl rfl (by decide) (Nat.le_of_ble_eq_true rfl) (Nat.le_of_ble_eq_true rfl) (show _ + 5 ≤ 600086 ∧ _ + 28 ≤ 7301442 by omega) ?_
                        refine sp_X6_score (P := tP T) (pl := 1) gB hI.2.2.2.2.2.2.1 hWl hPw hV.2.2.2.2.2 hI.2.1 hI.2.2.2.2.2.2.2.1 hI.2.2.2.1 (by omega) (by decide) (fun lay3 M3 E3 p3 hD3 => ?_)
                        have hI := hI.scr E3 p3
                        rw [← hs1]
                        refine ⟨_, rfl, ?_⟩
                        refine X.cs (cn' := cn2 + 15) (ck' := ck2 + 86) ?_ (Nat.le_refl _) (Nat.le_refl _)
                        refine x_istore (pc := 926) dL_law_926 trivial (by decide) (L' := [(17, _), (16, _), (15, _), (13, _), (1, _), (2, _), (3, _), (7, _), (10, _), (11, _), (12, _)]) rfl ?_
                        refine x_aload_n (pc := 928) dL_law_928 rfl rfl ?_
                        refine x_iconst (pc := 929) dL_law_929 ?_
                        refine x_iconst (pc := 930) dL_law_930 ?_
                        refine x_callV (pc := 931) [_, _] rfl kL_247 dL_law_931 hI.2.2.2.1.1.1 rfl rfl (by decide) (Nat.le_of_ble_eq_true rfl) (Nat.le_of_ble_eq_true rfl) (show _ + 1 ≤ 600086 ∧ _ + 6 ≤ 7301442 by omega) ?_
                        refine sp_X4_player gB hI.2.2.2.1.1 hI.2.2.2.1.2.1 hI.2.2.2.1.2.2.2.1 hI.2.2.2.1.2.2.2.2 ⟨by omega, by omega⟩ ⟨by omega, by omega⟩ (fun M3 n3 hn3 hS3 => ?_)
                        have hI := hI.scr (Ext.up (lay2 := (_, n3)) rfl hn3) (fun y i _ h => hS3 y i (by omega) (by omega) (by omega))
                        rw [show rPlayer T 0 0 = oI (s0) from (if_neg (fun h => h (by decide))).trans ((if_neg (fun h => h ⟨by decide, by decide⟩)).trans (by rw [hs0]; rfl))]
                        refine ⟨_, rfl, ?_⟩
                        refine X.cs (cn' := cn2 + 16) (ck' := ck2 + 92) ?_ (Nat.le_refl _) (Nat.le_refl _)
                        refine x_iload (pc := 934) dL_law_934 rfl ?_
                        refine x_icmp_ne (pc := 936) (t := 992) dL_law_936 (by decide) ⟨by omega, by omega⟩ ⟨by omega, by omega⟩ (fun c936 => ?_) (fun c936 => ?_)
                        · exfalso; omega
                        · refine x_aload_n (pc := 939) dL_law_939 rfl rfl ?_
                          refine x_iconst (pc := 940) dL_law_940 ?_
                          refine x_iconst (pc := 941) dL_law_941 ?_
                          refine x_callV (pc := 942) [_, _] rfl kL_247 dL_law_942 hI.2.2.2.1.1.1 rfl rfl (by decide) (Nat.le_of_ble_eq_true rfl) (Nat.le_of_ble_eq_true rfl) (show _ + 1 ≤ 600086 ∧ _ + 6 ≤ 7301442 by omega) ?_
                          refine sp_X4_player gB hI.2.2.2.1.1 hI.2.2.2.1.2.1 hI.2.2.2.1.2.2.2.1 hI.2.2.2.1.2.2.2.2 ⟨by omega, by omega⟩ ⟨by omega, by omega⟩ (fun M3 n3 hn3 hS3 => ?_)
                          have hI := hI.scr (Ext.up (lay2 := (_, n3)) rfl hn3) (fun y i _ h => hS3 y i (by omega) (by omega) (by omega))
                          rw [show rPlayer T 1 0 = oI (s1) from (if_neg (fun h => h (by decide))).trans ((if_neg (fun h => h ⟨by decide, by decide⟩)).trans (by rw [hs1]; rfl))]
                          refine ⟨_, rfl, ?_⟩
                          refine X.cs (cn' := cn2 + 17) (ck' := ck2 + 98) ?_ (Nat.le_refl _) (Nat.le_refl _)
                          refine x_iload (pc := 945) dL_law_945 rfl ?_
                          refine x_icmp_ne (pc := 947) (t := 992) dL_law_947 (by decide) ⟨by omega, by omega⟩ ⟨by omega, by omega⟩ (fun c947 => ?_) (fun c947 => ?_)
                          · exfalso; omega
                          · refine x_aload_n (pc := 950) dL_law_950 rfl rfl ?_
                            refine x_callV (pc := 951) [] rfl kL_250 dL_law_951 hI.2.2.2.1.1.1 rfl rfl (by decide) (Nat.le_of_ble_eq_true rfl) (Nat.le_of_ble_eq_true rfl) (show _ + 0 ≤ 600086 ∧ _ + 0 ≤ 7301442 by omega) ?_
                            refine sp_X4_winner gB hI.2.2.2.1.1 hI.2.2.2.1.2.1 hI.2.2.2.1.2.2.2.1 hI.2.2.2.1.2.2.2.2  (fun M3 n3 hn3 hS3 => ?_)
                            have hI := hI.scr (Ext.up (lay2 := (_, n3)) rfl hn3) (fun y i _ h => hS3 y i (by omega) (by omega) (by omega))
                            rw [← hwn]
                            refine ⟨_, rfl, ?_⟩
                            refine X.cs (cn' := cn2 + 17) (ck' := ck2 + 98) ?_ (Nat.le_refl _) (Nat.le_refl _)
                            refine x_aload (pc := 954) dL_law_954 rfl ?_
                            refine x_getzN (pc := 956) frL_215 dL_law_956 hI.2.2.2.2.2.2.1.1.1.1 rfl (fun r956a r956b => ?_)
                            have q9 := hI.2.2.2.2.2.2.1.2.2.2.2.2.1
                            have q11 := hI.2.2.2.2.2.2.1.2.2.2.2.2.2.2.1
                            have q12 := hI.2.2.2.2.2.2.1.2.2.2.2.2.2.2.2.1
                            have q13 := hI.2.2.2.2.2.2.1.2.2.2.2.2.2.2.2.2
                            refine x_if_ne (pc := 959) (t := 966) dL_law_959 (by decide) ⟨by omega, by omega⟩ (fun c959 => ?_) (fun c959 => ?_)
                            · refine x_iload (pc := 966) dL_law_966 rfl ?_
                              refine x_iload (pc := 968) dL_law_968 rfl ?_
                              refine x_icmp_le (pc := 970) (t := 977) dL_law_970 (by decide) ⟨by omega, by omega⟩ ⟨by omega, by omega⟩ (fun c970 => ?_) (fun c970 => ?_)
                              · refine x_iload (pc := 977) dL_law_977 rfl ?_
                                refine x_iload (pc := 979) dL_law_979 rfl ?_
                                refine x_icmp_ge (pc := 981) (t := 988) dL_law_981 (by decide) ⟨by omega, by omega⟩ ⟨by omega, by omega⟩ (fun c981 => ?_) (fun c981 => ?_)
                                · refine x_iconst (pc := 988) dL_law_988 ?_
                                  refine x_icmp_eq (pc := 989) (t := 994) dL_law_989 (by decide) ⟨by omega, by omega⟩ ⟨by omega, by omega⟩ (fun c989 => ?_) (fun c989 => ?_)
                                  · refine X.loc [3, 4, 5, 6, 7, 8, 9, 10] (L' := [(13, _), (1, _), (2, _), (3, _), (7, _), (10, _), (11, _), (12, _)]) rfl ?_
                                    exact k _ _ _ _ (by omega) (by omega) hI
                                  · exfalso; omega
                                · refine x_iconst (pc := 984) dL_law_984 ?_
                                  refine x_goto (pc := 985) (t := 989) dL_law_985 (by decide) ?_
                                  refine x_icmp_eq (pc := 989) (t := 994) dL_law_989 (by decide) ⟨by omega, by omega⟩ ⟨by omega, by omega⟩ (fun c989 => ?_) (fun c989 => ?_)
                                  · refine X.loc [3, 4, 5, 6, 7, 8, 9, 10] (L' := [(13, _), (1, _), (2, _), (3, _), (7, _), (10, _), (11, _), (12, _)]) rfl ?_
                                    exact k _ _ _ _ (by omega) (by omega) hI
                                  · exfalso; omega
                              · refine x_iconst (pc := 973) dL_law_973 ?_
                                refine x_goto (pc := 974) (t := 989) dL_law_974 (by decide) ?_
                                refine x_icmp_eq (pc := 989) (t := 994) dL_law_989 (by decide) ⟨by omega, by omega⟩ ⟨by omega, by omega⟩ (fun c989 => ?_) (fun c989 => ?_)
                                · refine X.loc [3, 4, 5, 6, 7, 8, 9, 10] (L' := [(13, _), (1, _), (2, _), (3, _), (7, _), (10, _), (11, _), (12, _)]) rfl ?_
                                  exact k _ _ _ _ (by omega) (by omega) hI
                                · exfalso; omega
                            · refine x_iconst (pc := 962) dL_law_962 ?_
                              refine x_goto (pc := 963) (t := 989) dL_law_963 (by decide) ?_
                              refine x_icmp_eq (pc := 989) (t := 994) dL_law_989 (by decide) ⟨by omega, by omega⟩ ⟨by omega, by omega⟩ (fun c989 => ?_) (fun c989 => ?_)
                              · refine X.loc [3, 4, 5, 6, 7, 8, 9, 10] (L' := [(13, _), (1, _), (2, _), (3, _), (7, _), (10, _), (11, _), (12, _)]) rfl ?_
                                exact k _ _ _ _ (by omega) (by omega) hI
                              · exfalso; omega
                      · exfalso; omega
                  · refine x_iconst (pc := 886) dL_law_886 ?_
                    refine x_goto (pc := 887) (t := 891) dL_law_887 (by decide) ?_
                    refine x_icmp_ne (pc := 891) (t := 908) dL_law_891 (by decide) ⟨by omega, by omega⟩ ⟨by omega, by omega⟩ (fun c891 => ?_) (fun c891 => ?_)
                    · exfalso; omega
                    · refine x_aload_n (pc := 894) dL_law_894 rfl rfl ?_
                      refine x_bipush (pc := 895) dL_law_895 (by decide) ?_
                      refine x_callV (pc := 897) [_] rfl kL_240 dL_law_897 hI.2.2.2.1.1.1 rfl rfl (by decide) (Nat.le_of_ble_eq_true rfl) (Nat.le_of_ble_eq_true rfl) (show _ + 1 ≤ 600086 ∧ _ + 6 ≤ 7301442 by omega) ?_
                      refine sp_X4_count gB hI.2.2.2.1.1 hI.2.2.2.1.2.1 hI.2.2.2.1.2.2.2.1 hI.2.2.2.1.2.2.2.2 hA ⟨hu0, hu1⟩ ⟨by omega, by omega⟩ (fun M3 n3 hn3 hS3 => ?_)
                      have hA := hA.mem (M' := M3) (fun i => hS3 _ _ (by omega) (by omega) (by omega)) (fun i => hS3 _ _ (by omega) (by omega) (by omega))
                      have hI := hI.scr (Ext.up (lay2 := (_, n3)) rfl hn3) (fun y i _ h => hS3 y i (by omega) (by omega) (by omega))
                      rw [show rCount T u 15 = oI (tB T) from if_neg (fun h => h ⟨by decide, by decide⟩)]
                      refine ⟨_, rfl, ?_⟩
                      refine X.cs (cn' := cn2 + 5) (ck' := ck2 + 30) ?_ (Nat.le_refl _) (Nat.le_refl _)
                      refine x_aload (pc := 900) dL_law_900 rfl ?_
                      refine x_getiN (pc := 902) frL_231 dL_law_902 hI.2.2.2.2.2.2.1.1.1.1 rfl (fun r902a r902b => ?_)
                      have q9 := hI.2.2.2.2.2.2.1.2.2.2.2.2.1
                      have q11 := hI.2.2.2.2.2.2.1.2.2.2.2.2.2.2.1
                      have q12 := hI.2.2.2.2.2.2.1.2.2.2.2.2.2.2.2.1
                      have q13 := hI.2.2.2.2.2.2.1.2.2.2.2.2.2.2.2.2
                      refine x_icmp_eq (pc := 905) (t := 910) dL_law_905 (by decide) ⟨by omega, by omega⟩ ⟨by omega, by omega⟩ (fun c905 => ?_) (fun c905 => ?_)
                      · refine x_aload (pc := 910) dL_law_910 rfl ?_
                        refine x_aload_n (pc := 912) dL_law_912 rfl rfl ?_
                        refine x_iconst (pc := 913) dL_law_913 ?_
                        refine x_callV (pc := 914) [_, _] rfl kL_243 dL_law_914 hI.2.2.2.2.2.2.1.1.1.1 rfl rfl (by decide) (Nat.le_of_ble_eq_true rfl) (Nat.le_of_ble_eq_true rfl) (show _ + 5 ≤ 600086 ∧ _ + 28 ≤ 7301442 by omega) ?_
                        refine sp_X6_score (P := tP T) (pl := 0) gB hI.2.2.2.2.2.2.1 hWl hPw hV.2.2.2.2.2 hI.2.1 hI.2.2.2.2.2.2.2.1 hI.2.2.2.1 (by omega) (by decide) (fun lay3 M3 E3 p3 hD3 => ?_)
                        have hI := hI.scr E3 p3
                        rw [← hs0]
                        refine ⟨_, rfl, ?_⟩
                        refine X.cs (cn' := cn2 + 10) (ck' := ck2 + 58) ?_ (Nat.le_refl _) (Nat.le_refl _)
                        refine x_istore (pc := 917) dL_law_917 trivial (by decide) (L' := [(16, _), (15, _), (13, _), (1, _), (2, _), (3, _), (7, _), (10, _), (11, _), (12, _)]) rfl ?_
                        refine x_aload (pc := 919) dL_law_919 rfl ?_
                        refine x_aload_n (pc := 921) dL_law_921 rfl rfl ?_
                        refine x_iconst (pc := 922) dL_law_922 ?_
                        refine x_callV (pc := 923) [_, _] rfl kL_243 dL_law_923 hI.2.2.2.2.2.2.1.1.1.1 rfl rfl (by decide) (Nat.le_of_ble_eq_true rfl) (Nat.le_of_ble_eq_true rfl) (show _ + 5 ≤ 600086 ∧ _ + 28 ≤ 7301442 by omega) ?_
                        refine sp_X6_score (P := tP T) (pl := 1) gB hI.2.2.2.2.2.2.1 hWl hPw hV.2.2.2.2.2 hI.2.1 hI.2.2.2.2.2.2.2.1 hI.2.2.2.1 (by omega) (by decide) (fun lay3 M3 E3 p3 hD3 => ?_)
                        have hI := hI.scr E3 p3
                        rw [← hs1]
                        refine ⟨_, rfl, ?_⟩
                        refine X.cs (cn' := cn2 + 15) (ck' := ck2 + 86) ?_ (Nat.le_refl _) (Nat.le_refl _)
                        refine x_istore (pc := 926) dL_law_926 trivial (by decide) (L' := [(17, _), (16, _), (15, _), (13, _), (1, _), (2, _), (3, _), (7, _), (10, _), (11, _), (12, _)]) rfl ?_
                        refine x_aload_n (pc := 928) dL_law_928 rfl rfl ?_
                        refine x_iconst (pc := 929) dL_law_929 ?_
                        refine x_iconst (pc := 930) dL_law_930 ?_
                        refine x_callV (pc := 931) [_, _] rfl kL_247 dL_law_931 hI.2.2.2.1.1.1 rfl rfl (by decide) (Nat.le_of_ble_eq_true rfl) (Nat.le_of_ble_eq_true rfl) (show _ + 1 ≤ 600086 ∧ _ + 6 ≤ 7301442 by omega) ?_
                        refine sp_X4_player gB hI.2.2.2.1.1 hI.2.2.2.1.2.1 hI.2.2.2.1.2.2.2.1 hI.2.2.2.1.2.2.2.2 ⟨by omega, by omega⟩ ⟨by omega, by omega⟩ (fun M3 n3 hn3 hS3 => ?_)
                        have hI := hI.scr (Ext.up (lay2 := (_, n3)) rfl hn3) (fun y i _ h => hS3 y i (by omega) (by omega) (by omega))
                        rw [show rPlayer T 0 0 = oI (s0) from (if_neg (fun h => h (by decide))).trans ((if_neg (fun h => h ⟨by decide, by decide⟩)).trans (by rw [hs0]; rfl))]
                        refine ⟨_, rfl, ?_⟩
                        refine X.cs (cn' := cn2 + 16) (ck' := ck2 + 92) ?_ (Nat.le_refl _) (Nat.le_refl _)
                        refine x_iload (pc := 934) dL_law_934 rfl ?_
                        refine x_icmp_ne (pc := 936) (t := 992) dL_law_936 (by decide) ⟨by omega, by omega⟩ ⟨by omega, by omega⟩ (fun c936 => ?_) (fun c936 => ?_)
                        · exfalso; omega
                        · refine x_aload_n (pc := 939) dL_law_939 rfl rfl ?_
                          refine x_iconst (pc := 940) dL_law_940 ?_
                          refine x_iconst (pc := 941) dL_law_941 ?_
                          refine x_callV (pc := 942) [_, _] rfl kL_247 dL_law_942 hI.2.2.2.1.1.1 rfl rfl (by decide) (Nat.le_of_ble_eq_true rfl) (Nat.le_of_ble_eq_true rfl) (show _ + 1 ≤ 600086 ∧ _ + 6 ≤ 7301442 by omega) ?_
                          refine sp_X4_player gB hI.2.2.2.1.1 hI.2.2.2.1.2.1 hI.2.2.2.1.2.2.2.1 hI.2.2.2.1.2.2.2.2 ⟨by omega, by omega⟩ ⟨by omega, by omega⟩ (fun M3 n3 hn3 hS3 => ?_)
                          have hI := hI.scr (Ext.up (lay2 := (_, n3)) rfl hn3) (fun y i _ h => hS3 y i (by omega) (by omega) (by omega))
                          rw [show rPlayer T 1 0 = oI (s1) from (if_neg (fun h => h (by decide))).trans ((if_neg (fun h => h ⟨by decide, by decide⟩)).trans (by rw [hs1]; rfl))]
                          refine ⟨_, rfl, ?_⟩
                          refine X.cs (cn' := cn2 + 17) (ck' := ck2 + 98) ?_ (Nat.le_refl _) (Nat.le_refl _)
                          refine x_iload (pc := 945) dL_law_945 rfl ?_
                          refine x_icmp_ne (pc := 947) (t := 992) dL_law_947 (by decide) ⟨by omega, by omega⟩ ⟨by omega, by omega⟩ (fun c947 => ?_) (fun c947 => ?_)
                          · exfalso; omega
                          · refine x_aload_n (pc := 950) dL_law_950 rfl rfl ?_
                            refine x_callV (pc := 951) [] rfl kL_250 dL_law_951 hI.2.2.2.1.1.1 rfl rfl (by decide) (Nat.le_of_ble_eq_true rfl) (Nat.le_of_ble_eq_true rfl) (show _ + 0 ≤ 600086 ∧ _ + 0 ≤ 7301442 by omega) ?_
                            refine sp_X4_winner gB hI.2.2.2.1.1 hI.2.2.2.1.2.1 hI.2.2.2.1.2.2.2.1 hI.2.2.2.1.2.2.2.2  (fun M3 n3 hn3 hS3 => ?_)
                            have hI := hI.scr (Ext.up (lay2 := (_, n3)) rfl hn3) (fun y i _ h => hS3 y i (by omega) (by omega) (by omega))
                            rw [← hwn]
                            refine ⟨_, rfl, ?_⟩
                            refine X.cs (cn' := cn2 + 17) (ck' := ck2 + 98) ?_ (Nat.le_refl _) (Nat.le_refl _)
                            refine x_aload (pc := 954) dL_law_954 rfl ?_
                            refine x_getzN (pc := 956) frL_215 dL_law_956 hI.2.2.2.2.2.2.1.1.1.1 rfl (fun r956a r956b => ?_)
                            have q9 := hI.2.2.2.2.2.2.1.2.2.2.2.2.1
                            have q11 := hI.2.2.2.2.2.2.1.2.2.2.2.2.2.2.1
                            have q12 := hI.2.2.2.2.2.2.1.2.2.2.2.2.2.2.2.1
                            have q13 := hI.2.2.2.2.2.2.1.2.2.2.2.2.2.2.2.2
                            refine x_if_ne (pc := 959) (t := 966) dL_law_959 (by decide) ⟨by omega, by omega⟩ (fun c959 => ?_) (fun c959 => ?_)
                            · refine x_iload (pc := 966) dL_law_966 rfl ?_
                              refine x_iload (pc := 968) dL_law_968 rfl ?_
                              refine x_icmp_le (pc := 970) (t := 977) dL_law_970 (by decide) ⟨by omega, by omega⟩ ⟨by omega, by omega⟩ (fun c970 => ?_) (fun c970 => ?_)
                              · refine x_iload (pc := 977) dL_law_977 rfl ?_
                                refine x_iload (pc := 979) dL_law_979 rfl ?_
                                refine x_icmp_ge (pc := 981) (t := 988) dL_law_981 (by decide) ⟨by omega, by omega⟩ ⟨by omega, by omega⟩ (fun c981 => ?_) (fun c981 => ?_)
                                · refine x_iconst (pc := 988) dL_law_988 ?_
                                  refine x_icmp_eq (pc := 989) (t := 994) dL_law_989 (by decide) ⟨by omega, by omega⟩ ⟨by omega, by omega⟩ (fun c989 => ?_) (fun c989 => ?_)
                                  · refine X.loc [3, 4, 5, 6, 7, 8, 9, 10] (L' := [(13, _), (1, _), (2, _), (3, _), (7, _), (10, _), (11, _), (12, _)]) rfl ?_
                                    exact k _ _ _ _ (by omega) (by omega) hI
                                  · exfalso; omega
                                · refine x_iconst (pc := 984) dL_law_984 ?_
                                  refine x_goto (pc := 985) (t := 989) dL_law_985 (by decide) ?_
                                  refine x_icmp_eq (pc := 989) (t := 994) dL_law_989 (by decide) ⟨by omega, by omega⟩ ⟨by omega, by omega⟩ (fun c989 => ?_) (fun c989 => ?_)
                                  · refine X.loc [3, 4, 5, 6, 7, 8, 9, 10] (L' := [(13, _), (1, _), (2, _), (3, _), (7, _), (10, _), (11, _), (12, _)]) rfl ?_
                                    exact k _ _ _ _ (by omega) (by omega) hI
                                  · exfalso; omega
                              · refine x_iconst (pc := 973) dL_law_973 ?_
                                refine x_goto (pc := 974) (t := 989) dL_law_974 (by decide) ?_
                                refine x_icmp_eq (pc := 989) (t := 994) dL_law_989 (by decide) ⟨by omega, by omega⟩ ⟨by omega, by omega⟩ (fun c989 => ?_) (fun c989 => ?_)
                                · refine X.loc [3, 4, 5, 6, 7, 8, 9, 10] (L' := [(13, _), (1, _), (2, _), (3, _), (7, _), (10, _), (11, _), (12, _)]) rfl ?_
                                  exact k _ _ _ _ (by omega) (by omega) hI
                                · exfalso; omega
                            · refine x_iconst (pc := 962) dL_law_962 ?_
                              refine x_goto (pc := 963) (t := 989) dL_law_963 (by decide) ?_
                              refine x_icmp_eq (pc := 989) (t := 994) dL_law_989 (by decide) ⟨by omega, by omega⟩ ⟨by omega, by omega⟩ (fun c989 => ?_) (fun c989 => ?_)
                              · refine X.loc [3, 4, 5, 6, 7, 8, 9, 10] (L' := [(13, _), (1, _), (2, _), (3, _), (7, _), (10, _), (11, _), (12, _)]) rfl ?_
                                exact k _ _ _ _ (by omega) (by omega) hI
                              · exfalso; omega
                      · exfalso; omega
          · refine x_iconst (pc := 841) dL_law_841 ?_
            refine x_goto (pc := 842) (t := 850) dL_law_842 (by decide) ?_
            refine x_icmp_ne (pc := 850) (t := 908) dL_law_850 (by decide) ⟨by omega, by omega⟩ ⟨by omega, by omega⟩ (fun c850 => ?_) (fun c850 => ?_)
            · exfalso; omega
            · refine x_aload_n (pc := 853) dL_law_853 rfl rfl ?_
              refine x_bipush (pc := 854) dL_law_854 (by decide) ?_
              refine x_callV (pc := 856) [_] rfl kL_240 dL_law_856 hI.2.2.2.1.1.1 rfl rfl (by decide) (Nat.le_of_ble_eq_true rfl) (Nat.le_of_ble_eq_true rfl) (show _ + 1 ≤ 600086 ∧ _ + 6 ≤ 7301442 by omega) ?_
              refine sp_X4_count gB hI.2.2.2.1.1 hI.2.2.2.1.2.1 hI.2.2.2.1.2.2.2.1 hI.2.2.2.1.2.2.2.2 hA ⟨hu0, hu1⟩ ⟨by omega, by omega⟩ (fun M3 n3 hn3 hS3 => ?_)
              have hA := hA.mem (M' := M3) (fun i => hS3 _ _ (by omega) (by omega) (by omega)) (fun i => hS3 _ _ (by omega) (by omega) (by omega))
              have hI := hI.scr (Ext.up (lay2 := (_, n3)) rfl hn3) (fun y i _ h => hS3 y i (by omega) (by omega) (by omega))
              rw [show rCount T u 10 = oI (barredF T (tS T 0).toNat) from if_neg (fun h => h ⟨by decide, by decide⟩)]
              rw [cb]
              refine ⟨_, rfl, ?_⟩
              refine X.cs (cn' := cn2 + 3) (ck' := ck2 + 18) ?_ (Nat.le_refl _) (Nat.le_refl _)
              refine x_iload (pc := 859) dL_law_859 rfl ?_
              refine x_icmp_ne (pc := 861) (t := 908) dL_law_861 (by decide) ⟨by omega, by omega⟩ ⟨by omega, by omega⟩ (fun c861 => ?_) (fun c861 => ?_)
              · exfalso; omega
              · refine x_aload_n (pc := 864) dL_law_864 rfl rfl ?_
                refine x_bipush (pc := 865) dL_law_865 (by decide) ?_
                refine x_callV (pc := 867) [_] rfl kL_240 dL_law_867 hI.2.2.2.1.1.1 rfl rfl (by decide) (Nat.le_of_ble_eq_true rfl) (Nat.le_of_ble_eq_true rfl) (show _ + 1 ≤ 600086 ∧ _ + 6 ≤ 7301442 by omega) ?_
                refine sp_X4_count gB hI.2.2.2.1.1 hI.2.2.2.1.2.1 hI.2.2.2.1.2.2.2.1 hI.2.2.2.1.2.2.2.2 hA ⟨hu0, hu1⟩ ⟨by omega, by omega⟩ (fun M3 n3 hn3 hS3 => ?_)
                have hA := hA.mem (M' := M3) (fun i => hS3 _ _ (by omega) (by omega) (by omega)) (fun i => hS3 _ _ (by omega) (by omega) (by omega))
                have hI := hI.scr (Ext.up (lay2 := (_, n3)) rfl hn3) (fun y i _ h => hS3 y i (by omega) (by omega) (by omega))
                rw [show rCount T u 14 = oI (if hasClaim T then 1 else 0) from if_neg (fun h => h ⟨by decide, by decide⟩)]
                rw [← hhq]
                refine ⟨_, rfl, ?_⟩
                refine X.cs (cn' := cn2 + 4) (ck' := ck2 + 24) ?_ (Nat.le_refl _) (Nat.le_refl _)
                refine x_aload (pc := 870) dL_law_870 rfl ?_
                refine x_getzN (pc := 872) frL_209 dL_law_872 hI.2.2.2.2.2.2.1.1.1.1 rfl (fun r872a r872b => ?_)
                have q9 := hI.2.2.2.2.2.2.1.2.2.2.2.2.1
                have q11 := hI.2.2.2.2.2.2.1.2.2.2.2.2.2.2.1
                have q12 := hI.2.2.2.2.2.2.1.2.2.2.2.2.2.2.2.1
                have q13 := hI.2.2.2.2.2.2.1.2.2.2.2.2.2.2.2.2
                refine x_if_eq (pc := 875) (t := 890) dL_law_875 (by decide) ⟨by omega, by omega⟩ (fun c875 => ?_) (fun c875 => ?_)
                · refine x_iconst (pc := 890) dL_law_890 ?_
                  refine x_icmp_ne (pc := 891) (t := 908) dL_law_891 (by decide) ⟨by omega, by omega⟩ ⟨by omega, by omega⟩ (fun c891 => ?_) (fun c891 => ?_)
                  · exfalso; omega
                  · refine x_aload_n (pc := 894) dL_law_894 rfl rfl ?_
                    refine x_bipush (pc := 895) dL_law_895 (by decide) ?_
                    refine x_callV (pc := 897) [_] rfl kL_240 dL_law_897 hI.2.2.2.1.1.1 rfl rfl (by decide) (Nat.le_of_ble_eq_true rfl) (Nat.le_of_ble_eq_true rfl) (show _ + 1 ≤ 600086 ∧ _ + 6 ≤ 7301442 by omega) ?_
                    refine sp_X4_count gB hI.2.2.2.1.1 hI.2.2.2.1.2.1 hI.2.2.2.1.2.2.2.1 hI.2.2.2.1.2.2.2.2 hA ⟨hu0, hu1⟩ ⟨by omega, by omega⟩ (fun M3 n3 hn3 hS3 => ?_)
                    have hA := hA.mem (M' := M3) (fun i => hS3 _ _ (by omega) (by omega) (by omega)) (fun i => hS3 _ _ (by omega) (by omega) (by omega))
                    have hI := hI.scr (Ext.up (lay2 := (_, n3)) rfl hn3) (fun y i _ h => hS3 y i (by omega) (by omega) (by omega))
                    rw [show rCount T u 15 = oI (tB T) from if_neg (fun h => h ⟨by decide, by decide⟩)]
                    refine ⟨_, rfl, ?_⟩
                    refine X.cs (cn' := cn2 + 5) (ck' := ck2 + 30) ?_ (Nat.le_refl _) (Nat.le_refl _)
                    refine x_aload (pc := 900) dL_law_900 rfl ?_
                    refine x_getiN (pc := 902) frL_231 dL_law_902 hI.2.2.2.2.2.2.1.1.1.1 rfl (fun r902a r902b => ?_)
                    have q9 := hI.2.2.2.2.2.2.1.2.2.2.2.2.1
                    have q11 := hI.2.2.2.2.2.2.1.2.2.2.2.2.2.2.1
                    have q12 := hI.2.2.2.2.2.2.1.2.2.2.2.2.2.2.2.1
                    have q13 := hI.2.2.2.2.2.2.1.2.2.2.2.2.2.2.2.2
                    refine x_icmp_eq (pc := 905) (t := 910) dL_law_905 (by decide) ⟨by omega, by omega⟩ ⟨by omega, by omega⟩ (fun c905 => ?_) (fun c905 => ?_)
                    · refine x_aload (pc := 910) dL_law_910 rfl ?_
                      refine x_aload_n (pc := 912) dL_law_912 rfl rfl ?_
                      refine x_iconst (pc := 913) dL_law_913 ?_
                      refine x_callV (pc := 914) [_, _] rfl kL_243 dL_law_914 hI.2.2.2.2.2.2.1.1.1.1 rfl rfl (by decide) (Nat.le_of_ble_eq_true rfl) (Nat.le_of_ble_eq_true rfl) (show _ + 5 ≤ 600086 ∧ _ + 28 ≤ 7301442 by omega) ?_
                      refine sp_X6_score (P := tP T) (pl := 0) gB hI.2.2.2.2.2.2.1 hWl hPw hV.2.2.2.2.2 hI.2.1 hI.2.2.2.2.2.2.2.1 hI.2.2.2.1 (by omega) (by decide) (fun lay3 M3 E3 p3 hD3 => ?_)
                      have hI := hI.scr E3 p3
                      rw [← hs0]
                      refine ⟨_, rfl, ?_⟩
                      refine X.cs (cn' := cn2 + 10) (ck' := ck2 + 58) ?_ (Nat.le_refl _) (Nat.le_refl _)
                      refine x_istore (pc := 917) dL_law_917 trivial (by decide) (L' := [(16, _), (15, _), (13, _), (1, _), (2, _), (3, _), (7, _), (10, _), (11, _), (12, _)]) rfl ?_
                      refine x_aload (pc := 919) dL_law_919 rfl ?_
                      refine x_aload_n (pc := 921) dL_law_921 rfl rfl ?_
                      refine x_iconst (pc := 922) dL_law_922 ?_
                      refine x_callV (pc := 923) [_, _] rfl kL_243 dL_law_923 hI.2.2.2.2.2.2.1.1.1.1 rfl rfl (by decide) (Nat.le_of_ble_eq_true rfl) (Nat.le_of_ble_eq_true rfl) (show _ + 5 ≤ 600086 ∧ _ + 28 ≤ 7301442 by omega) ?_
                      refine sp_X6_score (P := tP T) (pl := 1) gB hI.2.2.2.2.2.2.1 hWl hPw hV.2.2.2.2.2 hI.2.1 hI.2.2.2.2.2.2.2.1 hI.2.2.2.1 (by omega) (by decide) (fun lay3 M3 E3 p3 hD3 => ?_)
                      have hI := hI.scr E3 p3
                      rw [← hs1]
                      refine ⟨_, rfl, ?_⟩
                      refine X.cs (cn' := cn2 + 15) (ck' := ck2 + 86) ?_ (Nat.le_refl _) (Nat.le_refl _)
                      refine x_istore (pc := 926) dL_law_926 trivial (by decide) (L' := [(17, _), (16, _), (15, _), (13, _), (1, _), (2, _), (3, _), (7, _), (10, _), (11, _), (12, _)]) rfl ?_
                      refine x_aload_n (pc := 928) dL_law_928 rfl rfl ?_
                      refine x_iconst (pc := 929) dL_law_929 ?_
                      refine x_iconst (pc := 930) dL_law_930 ?_
                      refine x_callV (pc := 931) [_, _] rfl kL_247 dL_law_931 hI.2.2.2.1.1.1 rfl rfl (by decide) (Nat.le_of_ble_eq_true rfl) (Nat.le_of_ble_eq_true rfl) (show _ + 1 ≤ 600086 ∧ _ + 6 ≤ 7301442 by omega) ?_
                      refine sp_X4_player gB hI.2.2.2.1.1 hI.2.2.2.1.2.1 hI.2.2.2.1.2.2.2.1 hI.2.2.2.1.2.2.2.2 ⟨by omega, by omega⟩ ⟨by omega, by omega⟩ (fun M3 n3 hn3 hS3 => ?_)
                      have hI := hI.scr (Ext.up (lay2 := (_, n3)) rfl hn3) (fun y i _ h => hS3 y i (by omega) (by omega) (by omega))
                      rw [show rPlayer T 0 0 = oI (s0) from (if_neg (fun h => h (by decide))).trans ((if_neg (fun h => h ⟨by decide, by decide⟩)).trans (by rw [hs0]; rfl))]
                      refine ⟨_, rfl, ?_⟩
                      refine X.cs (cn' := cn2 + 16) (ck' := ck2 + 92) ?_ (Nat.le_refl _) (Nat.le_refl _)
                      refine x_iload (pc := 934) dL_law_934 rfl ?_
                      refine x_icmp_ne (pc := 936) (t := 992) dL_law_936 (by decide) ⟨by omega, by omega⟩ ⟨by omega, by omega⟩ (fun c936 => ?_) (fun c936 => ?_)
                      · exfalso; omega
                      · refine x_aload_n (pc := 939) dL_law_939 rfl rfl ?_
                        refine x_iconst (pc := 940) dL_law_940 ?_
                        refine x_iconst (pc := 941) dL_law_941 ?_
                        refine x_callV (pc := 942) [_, _] rfl kL_247 dL_law_942 hI.2.2.2.1.1.1 rfl rfl (by decide) (Nat.le_of_ble_eq_true rfl) (Nat.le_of_ble_eq_true rfl) (show _ + 1 ≤ 600086 ∧ _ + 6 ≤ 7301442 by omega) ?_
                        refine sp_X4_player gB hI.2.2.2.1.1 hI.2.2.2.1.2.1 hI.2.2.2.1.2.2.2.1 hI.2.2.2.1.2.2.2.2 ⟨by omega, by omega⟩ ⟨by omega, by omega⟩ (fun M3 n3 hn3 hS3 => ?_)
                        have hI := hI.scr (Ext.up (lay2 := (_, n3)) rfl hn3) (fun y i _ h => hS3 y i (by omega) (by omega) (by omega))
                        rw [show rPlayer T 1 0 = oI (s1) from (if_neg (fun h => h (by decide))).trans ((if_neg (fun h => h ⟨by decide, by decide⟩)).trans (by rw [hs1]; rfl))]
                        refine ⟨_, rfl, ?_⟩
                        refine X.cs (cn' := cn2 + 17) (ck' := ck2 + 98) ?_ (Nat.le_refl _) (Nat.le_refl _)
                        refine x_iload (pc := 945) dL_law_945 rfl ?_
                        refine x_icmp_ne (pc := 947) (t := 992) dL_law_947 (by decide) ⟨by omega, by omega⟩ ⟨by omega, by omega⟩ (fun c947 => ?_) (fun c947 => ?_)
                        · exfalso; omega
                        · refine x_aload_n (pc := 950) dL_law_950 rfl rfl ?_
                          refine x_callV (pc := 951) [] rfl kL_250 dL_law_951 hI.2.2.2.1.1.1 rfl rfl (by decide) (Nat.le_of_ble_eq_true rfl) (Nat.le_of_ble_eq_true rfl) (show _ + 0 ≤ 600086 ∧ _ + 0 ≤ 7301442 by omega) ?_
                          refine sp_X4_winner gB hI.2.2.2.1.1 hI.2.2.2.1.2.1 hI.2.2.2.1.2.2.2.1 hI.2.2.2.1.2.2.2.2  (fun M3 n3 hn3 hS3 => ?_)
                          have hI := hI.scr (Ext.up (lay2 := (_, n3)) rfl hn3) (fun y i _ h => hS3 y i (by omega) (by omega) (by omega))
                          rw [← hwn]
                          refine ⟨_, rfl, ?_⟩
                          refine X.cs (cn' := cn2 + 17) (ck' := ck2 + 98) ?_ (Nat.le_refl _) (Nat.le_refl _)
                          refine x_aload (pc := 954) dL_law_954 rfl ?_
                          refine x_getzN (pc := 956) frL_215 dL_law_956 hI.2.2.2.2.2.2.1.1.1.1 rfl (fun r956a r956b => ?_)
                          have q9 := hI.2.2.2.2.2.2.1.2.2.2.2.2.1
                          have q11 := hI.2.2.2.2.2.2.1.2.2.2.2.2.2.2.1
                          have q12 := hI.2.2.2.2.2.2.1.2.2.2.2.2.2.2.2.1
                          have q13 := hI.2.2.2.2.2.2.1.2.2.2.2.2.2.2.2.2
                          refine x_if_ne (pc := 959) (t := 966) dL_law_959 (by decide) ⟨by omega, by omega⟩ (fun c959 => ?_) (fun c959 => ?_)
                          · refine x_iload (pc := 966) dL_law_966 rfl ?_
                            refine x_iload (pc := 968) dL_law_968 rfl ?_
                            refine x_icmp_le (pc := 970) (t := 977) dL_law_970 (by decide) ⟨by omega, by omega⟩ ⟨by omega, by omega⟩ (fun c970 => ?_) (fun c970 => ?_)
                            · refine x_iload (pc := 977) dL_law_977 rfl ?_
                              refine x_iload (pc := 979) dL_law_979 rfl ?_
                              refine x_icmp_ge (pc := 981) (t := 988) dL_law_981 (by decide) ⟨by omega, by omega⟩ ⟨by omega, by omega⟩ (fun c981 => ?_) (fun c981 => ?_)
                              · refine x_iconst (pc := 988) dL_law_988 ?_
                                refine x_icmp_eq (pc := 989) (t := 994) dL_law_989 (by decide) ⟨by omega, by omega⟩ ⟨by omega, by omega⟩ (fun c989 => ?_) (fun c989 => ?_)
                                · refine X.loc [3, 4, 5, 6, 7, 8, 9, 10] (L' := [(13, _), (1, _), (2, _), (3, _), (7, _), (10, _), (11, _), (12, _)]) rfl ?_
                                  exact k _ _ _ _ (by omega) (by omega) hI
                                · exfalso; omega
                              · refine x_iconst (pc := 984) dL_law_984 ?_
                                refine x_goto (pc := 985) (t := 989) dL_law_985 (by decide) ?_
                                refine x_icmp_eq (pc := 989) (t := 994) dL_law_989 (by decide) ⟨by omega, by omega⟩ ⟨by omega, by omega⟩ (fun c989 => ?_) (fun c989 => ?_)
                                · refine X.loc [3, 4, 5, 6, 7, 8, 9, 10] (L' := [(13, _), (1, _), (2, _), (3, _), (7, _), (10, _), (11, _), (12, _)]) rfl ?_
                                  exact k _ _ _ _ (by omega) (by omega) hI
                                · exfalso; omega
                            · refine x_iconst (pc := 973) dL_law_973 ?_
                              refine x_goto (pc := 974) (t := 989) dL_law_974 (by decide) ?_
                              refine x_icmp_eq (pc := 989) (t := 994) dL_law_989 (by decide) ⟨by omega, by omega⟩ ⟨by omega, by omega⟩ (fun c989 => ?_) (fun c989 => ?_)
                              · refine X.loc [3, 4, 5, 6, 7, 8, 9, 10] (L' := [(13, _), (1, _), (2, _), (3, _), (7, _), (10, _), (11, _), (12, _)]) rfl ?_
                                exact k _ _ _ _ (by omega) (by omega) hI
                              · exfalso; omega
                          · refine x_iconst (pc := 962) dL_law_962 ?_
                            refine x_goto (pc := 963) (t := 989) dL_law_963 (by decide) ?_
                            refine x_icmp_eq (pc := 989) (t := 994) dL_law_989 (by decide) ⟨by omega, by omega⟩ ⟨by omega, by omega⟩ (fun c989 => ?_) (fun c989 => ?_)
                            · refine X.loc [3, 4, 5, 6, 7, 8, 9, 10] (L' := [(13, _), (1, _), (2, _), (3, _), (7, _), (10, _), (11, _), (12, _)]) rfl ?_
                              exact k _ _ _ _ (by omega) (by omega) hI
                            · exfalso; omega
                    · exfalso; omega
                · refine x_aload (pc := 878) dL_law_878 rfl ?_
                  refine x_getzN (pc := 880) frL_215 dL_law_880 hI.2.2.2.2.2.2.1.1.1.1 rfl (fun r880a r880b => ?_)
                  have q9 := hI.2.2.2.2.2.2.1.2.2.2.2.2.1
                  have q11 := hI.2.2.2.2.2.2.1.2.2.2.2.2.2.2.1
                  have q12 := hI.2.2.2.2.2.2.1.2.2.2.2.2.2.2.2.1
                  have q13 := hI.2.2.2.2.2.2.1.2.2.2.2.2.2.2.2.2
                  refine x_if_ne (pc := 883) (t := 890) dL_law_883 (by decide) ⟨by omega, by omega⟩ (fun c883 => ?_) (fun c883 => ?_)
                  · refine x_iconst (pc := 890) dL_law_890 ?_
                    refine x_icmp_ne (pc := 891) (t := 908) dL_law_891 (by decide) ⟨by omega, by omega⟩ ⟨by omega, by omega⟩ (fun c891 => ?_) (fun c891 => ?_)
                    · exfalso; omega
                    · refine x_aload_n (pc := 894) dL_law_894 rfl rfl ?_
                      refine x_bipush (pc := 895) dL_law_895 (by decide) ?_
                      refine x_callV (pc := 897) [_] rfl kL_240 dL_law_897 hI.2.2.2.1.1.1 rfl rfl (by decide) (Nat.le_of_ble_eq_true rfl) (Nat.le_of_ble_eq_true rfl) (show _ + 1 ≤ 600086 ∧ _ + 6 ≤ 7301442 by omega) ?_
                      refine sp_X4_count gB hI.2.2.2.1.1 hI.2.2.2.1.2.1 hI.2.2.2.1.2.2.2.1 hI.2.2.2.1.2.2.2.2 hA ⟨hu0, hu1⟩ ⟨by omega, by omega⟩ (fun M3 n3 hn3 hS3 => ?_)
                      have hA := hA.mem (M' := M3) (fun i => hS3 _ _ (by omega) (by omega) (by omega)) (fun i => hS3 _ _ (by omega) (by omega) (by omega))
                      have hI := hI.scr (Ext.up (lay2 := (_, n3)) rfl hn3) (fun y i _ h => hS3 y i (by omega) (by omega) (by omega))
                      rw [show rCount T u 15 = oI (tB T) from if_neg (fun h => h ⟨by decide, by decide⟩)]
                      refine ⟨_, rfl, ?_⟩
                      refine X.cs (cn' := cn2 + 5) (ck' := ck2 + 30) ?_ (Nat.le_refl _) (Nat.le_refl _)
                      refine x_aload (pc := 900) dL_law_900 rfl ?_
                      refine x_getiN (pc := 902) frL_231 dL_law_902 hI.2.2.2.2.2.2.1.1.1.1 rfl (fun r902a r902b => ?_)
                      have q9 := hI.2.2.2.2.2.2.1.2.2.2.2.2.1
                      have q11 := hI.2.2.2.2.2.2.1.2.2.2.2.2.2.2.1
                      have q12 := hI.2.2.2.2.2.2.1.2.2.2.2.2.2.2.2.1
                      have q13 := hI.2.2.2.2.2.2.1.2.2.2.2.2.2.2.2.2
                      refine x_icmp_eq (pc := 905) (t := 910) dL_law_905 (by decide) ⟨by omega, by omega⟩ ⟨by omega, by omega⟩ (fun c905 => ?_) (fun c905 => ?_)
                      · refine x_aload (pc := 910) dL_law_910 rfl ?_
                        refine x_aload_n (pc := 912) dL_law_912 rfl rfl ?_
                        refine x_iconst (pc := 913) dL_law_913 ?_
                        refine x_callV (pc := 914) [_, _] rfl kL_243 dL_law_914 hI.2.2.2.2.2.2.1.1.1.1 rfl rfl (by decide) (Nat.le_of_ble_eq_true rfl) (Nat.le_of_ble_eq_true rfl) (show _ + 5 ≤ 600086 ∧ _ + 28 ≤ 7301442 by omega) ?_
                        refine sp_X6_score (P := tP T) (pl := 0) gB hI.2.2.2.2.2.2.1 hWl hPw hV.2.2.2.2.2 hI.2.1 hI.2.2.2.2.2.2.2.1 hI.2.2.2.1 (by omega) (by decide) (fun lay3 M3 E3 p3 hD3 => ?_)
                        have hI := hI.scr E3 p3
                        rw [← hs0]
                        refine ⟨_, rfl, ?_⟩
                        refine X.cs (cn' := cn2 + 10) (ck' := ck2 + 58) ?_ (Nat.le_refl _) (Nat.le_refl _)
                        refine x_istore (pc := 917) dL_law_917 trivial (by decide) (L' := [(16, _), (15, _), (13, _), (1, _), (2, _), (3, _), (7, _), (10, _), (11, _), (12, _)]) rfl ?_
                        refine x_aload (pc := 919) dL_law_919 rfl ?_
                        refine x_aload_n (pc := 921) dL_law_921 rfl rfl ?_
                        refine x_iconst (pc := 922) dL_law_922 ?_
                        refine x_callV (pc := 923) [_, _] rfl kL_243 dL_law_923 hI.2.2.2.2.2.2.1.1.1.1 rfl rfl (by decide) (Nat.le_of_ble_eq_true rfl) (Nat.le_of_ble_eq_true rfl) (show _ + 5 ≤ 600086 ∧ _ + 28 ≤ 7301442 by omega) ?_
                        refine sp_X6_score (P := tP T) (pl := 1) gB hI.2.2.2.2.2.2.1 hWl hPw hV.2.2.2.2.2 hI.2.1 hI.2.2.2.2.2.2.2.1 hI.2.2.2.1 (by omega) (by decide) (fun lay3 M3 E3 p3 hD3 => ?_)
                        have hI := hI.scr E3 p3
                        rw [← hs1]
                        refine ⟨_, rfl, ?_⟩
                        refine X.cs (cn' := cn2 + 15) (ck' := ck2 + 86) ?_ (Nat.le_refl _) (Nat.le_refl _)
                        refine x_istore (pc := 926) dL_law_926 trivial (by decide) (L' := [(17, _), (16, _), (15, _), (13, _), (1, _), (2, _), (3, _), (7, _), (10, _), (11, _), (12, _)]) rfl ?_
                        refine x_aload_n (pc := 928) dL_law_928 rfl rfl ?_
                        refine x_iconst (pc := 929) dL_law_929 ?_
                        refine x_iconst (pc := 930) dL_law_930 ?_
                        refine x_callV (pc := 931) [_, _] rfl kL_247 dL_law_931 hI.2.2.2.1.1.1 rfl rfl (by decide) (Nat.le_of_ble_eq_true rfl) (Nat.le_of_ble_eq_true rfl) (show _ + 1 ≤ 600086 ∧ _ + 6 ≤ 7301442 by omega) ?_
                        refine sp_X4_player gB hI.2.2.2.1.1 hI.2.2.2.1.2.1 hI.2.2.2.1.2.2.2.1 hI.2.2.2.1.2.2.2.2 ⟨by omega, by omega⟩ ⟨by omega, by omega⟩ (fun M3 n3 hn3 hS3 => ?_)
                        have hI := hI.scr (Ext.up (lay2 := (_, n3)) rfl hn3) (fun y i _ h => hS3 y i (by omega) (by omega) (by omega))
                        rw [show rPlayer T 0 0 = oI (s0) from (if_neg (fun h => h (by decide))).trans ((if_neg (fun h => h ⟨by decide, by decide⟩)).trans (by rw [hs0]; rfl))]
                        refine ⟨_, rfl, ?_⟩
                        refine X.cs (cn' := cn2 + 16) (ck' := ck2 + 92) ?_ (Nat.le_refl _) (Nat.le_refl _)
                        refine x_iload (pc := 934) dL_law_934 rfl ?_
                        refine x_icmp_ne (pc := 936) (t := 992) dL_law_936 (by decide) ⟨by omega, by omega⟩ ⟨by omega, by omega⟩ (fun c936 => ?_) (fun c936 => ?_)
                        · exfalso; omega
                        · refine x_aload_n (pc := 939) dL_law_939 rfl rfl ?_
                          refine x_iconst (pc := 940) dL_law_940 ?_
                          refine x_iconst (pc := 941) dL_law_941 ?_
                          refine x_callV (pc := 942) [_, _] rfl kL_247 dL_law_942 hI.2.2.2.1.1.1 rfl rfl (by decide) (Nat.le_of_ble_eq_true rfl) (Nat.le_of_ble_eq_true rfl) (show _ + 1 ≤ 600086 ∧ _ + 6 ≤ 7301442 by omega) ?_
                          refine sp_X4_player gB hI.2.2.2.1.1 hI.2.2.2.1.2.1 hI.2.2.2.1.2.2.2.1 hI.2.2.2.1.2.2.2.2 ⟨by omega, by omega⟩ ⟨by omega, by omega⟩ (fun M3 n3 hn3 hS3 => ?_)
                          have hI := hI.scr (Ext.up (lay2 := (_, n3)) rfl hn3) (fun y i _ h => hS3 y i (by omega) (by omega) (by omega))
                          rw [show rPlayer T 1 0 = oI (s1) from (if_neg (fun h => h (by decide))).trans ((if_neg (fun h => h ⟨by decide, by decide⟩)).trans (by rw [hs1]; rfl))]
                          refine ⟨_, rfl, ?_⟩
                          refine X.cs (cn' := cn2 + 17) (ck' := ck2 + 98) ?_ (Nat.le_refl _) (Nat.le_refl _)
                          refine x_iload (pc := 945) dL_law_945 rfl ?_
                          refine x_icmp_ne (pc := 947) (t := 992) dL_law_947 (by decide) ⟨by omega, by omega⟩ ⟨by omega, by omega⟩ (fun c947 => ?_) (fun c947 => ?_)
                          · exfalso; omega
                          · refine x_aload_n (pc := 950) dL_law_950 rfl rfl ?_
                            refine x_callV (pc := 951) [] rfl kL_250 dL_law_951 hI.2.2.2.1.1.1 rfl rfl (by decide) (Nat.le_of_ble_eq_true rfl) (Nat.le_of_ble_eq_true rfl) (show _ + 0 ≤ 600086 ∧ _ + 0 ≤ 7301442 by omega) ?_
                            refine sp_X4_winner gB hI.2.2.2.1.1 hI.2.2.2.1.2.1 hI.2.2.2.1.2.2.2.1 hI.2.2.2.1.2.2.2.2  (fun M3 n3 hn3 hS3 => ?_)
                            have hI := hI.scr (Ext.up (lay2 := (_, n3)) rfl hn3) (fun y i _ h => hS3 y i (by omega) (by omega) (by omega))
                            rw [← hwn]
                            refine ⟨_, rfl, ?_⟩
                            refine X.cs (cn' := cn2 + 17) (ck' := ck2 + 98) ?_ (Nat.le_refl _) (Nat.le_refl _)
                            refine x_aload (pc := 954) dL_law_954 rfl ?_
                            refine x_getzN (pc := 956) frL_215 dL_law_956 hI.2.2.2.2.2.2.1.1.1.1 rfl (fun r956a r956b => ?_)
                            have q9 := hI.2.2.2.2.2.2.1.2.2.2.2.2.1
                            have q11 := hI.2.2.2.2.2.2.1.2.2.2.2.2.2.2.1
                            have q12 := hI.2.2.2.2.2.2.1.2.2.2.2.2.2.2.2.1
                            have q13 := hI.2.2.2.2.2.2.1.2.2.2.2.2.2.2.2.2
                            refine x_if_ne (pc := 959) (t := 966) dL_law_959 (by decide) ⟨by omega, by omega⟩ (fun c959 => ?_) (fun c959 => ?_)
                            · refine x_iload (pc := 966) dL_law_966 rfl ?_
                              refine x_iload (pc := 968) dL_law_968 rfl ?_
                              refine x_icmp_le (pc := 970) (t := 977) dL_law_970 (by decide) ⟨by omega, by omega⟩ ⟨by omega, by omega⟩ (fun c970 => ?_) (fun c970 => ?_)
                              · refine x_iload (pc := 977) dL_law_977 rfl ?_
                                refine x_iload (pc := 979) dL_law_979 rfl ?_
                                refine x_icmp_ge (pc := 981) (t := 988) dL_law_981 (by decide) ⟨by omega, by omega⟩ ⟨by omega, by omega⟩ (fun c981 => ?_) (fun c981 => ?_)
                                · refine x_iconst (pc := 988) dL_law_988 ?_
                                  refine x_icmp_eq (pc := 989) (t := 994) dL_law_989 (by decide) ⟨by omega, by omega⟩ ⟨by omega, by omega⟩ (fun c989 => ?_) (fun c989 => ?_)
                                  · refine X.loc [3, 4, 5, 6, 7, 8, 9, 10] (L' := [(13, _), (1, _), (2, _), (3, _), (7, _), (10, _), (11, _), (12, _)]) rfl ?_
                                    exact k _ _ _ _ (by omega) (by omega) hI
                                  · exfalso; omega
                                · refine x_iconst (pc := 984) dL_law_984 ?_
                                  refine x_goto (pc := 985) (t := 989) dL_law_985 (by decide) ?_
                                  refine x_icmp_eq (pc := 989) (t := 994) dL_law_989 (by decide) ⟨by omega, by omega⟩ ⟨by omega, by omega⟩ (fun c989 => ?_) (fun c989 => ?_)
                                  · refine X.loc [3, 4, 5, 6, 7, 8, 9, 10] (L' := [(13, _), (1, _), (2, _), (3, _), (7, _), (10, _), (11, _), (12, _)]) rfl ?_
                                    exact k _ _ _ _ (by omega) (by omega) hI
                                  · exfalso; omega
                              · refine x_iconst (pc := 973) dL_law_973 ?_
                                refine x_goto (pc := 974) (t := 989) dL_law_974 (by decide) ?_
                                refine x_icmp_eq (pc := 989) (t := 994) dL_law_989 (by decide) ⟨by omega, by omega⟩ ⟨by omega, by omega⟩ (fun c989 => ?_) (fun c989 => ?_)
                                · refine X.loc [3, 4, 5, 6, 7, 8, 9, 10] (L' := [(13, _), (1, _), (2, _), (3, _), (7, _), (10, _), (11, _), (12, _)]) rfl ?_
                                  exact k _ _ _ _ (by omega) (by omega) hI
                                · exfalso; omega
                            · refine x_iconst (pc := 962) dL_law_962 ?_
                              refine x_goto (pc := 963) (t := 989) dL_law_963 (by decide) ?_
                              refine x_icmp_eq (pc := 989) (t := 994) dL_law_989 (by decide) ⟨by omega, by omega⟩ ⟨by omega, by omega⟩ (fun c989 => ?_) (fun c989 => ?_)
                              · refine X.loc [3, 4, 5, 6, 7, 8, 9, 10] (L' := [(13, _), (1, _), (2, _), (3, _), (7, _), (10, _), (11, _), (12, _)]) rfl ?_
                                exact k _ _ _ _ (by omega) (by omega) hI
                              · exfalso; omega
                      · exfalso; omega
                  · refine x_iconst (pc := 886) dL_law_886 ?_
                    refine x_goto (pc := 887) (t := 891) dL_law_887 (by decide) ?_
                    refine x_icmp_ne (pc := 891) (t := 908) dL_law_891 (by decide) ⟨by omega, by omega⟩ ⟨by omega, by omega⟩ (fun c891 => ?_) (fun c891 => ?_)
                    · exfalso; omega
                    · refine x_aload_n (pc := 894) dL_law_894 rfl rfl ?_
                      refine x_bipush (pc := 895) dL_law_895 (by decide) ?_
                      refine x_callV (pc := 897) [_] rfl kL_240 dL_law_897 hI.2.2.2.1.1.1 rfl rfl (by decide) (Nat.le_of_ble_eq_true rfl) (Nat.le_of_ble_eq_true rfl) (show _ + 1 ≤ 600086 ∧ _ + 6 ≤ 7301442 by omega) ?_
                      refine sp_X4_count gB hI.2.2.2.1.1 hI.2.2.2.1.2.1 hI.2.2.2.1.2.2.2.1 hI.2.2.2.1.2.2.2.2 hA ⟨hu0, hu1⟩ ⟨by omega, by omega⟩ (fun M3 n3 hn3 hS3 => ?_)
                      have hA := hA.mem (M' := M3) (fun i => hS3 _ _ (by omega) (by omega) (by omega)) (fun i => hS3 _ _ (by omega) (by omega) (by omega))
                      have hI := hI.scr (Ext.up (lay2 := (_, n3)) rfl hn3) (fun y i _ h => hS3 y i (by omega) (by omega) (by omega))
                      rw [show rCount T u 15 = oI (tB T) from if_neg (fun h => h ⟨by decide, by decide⟩)]
                      refine ⟨_, rfl, ?_⟩
                      refine X.cs (cn' := cn2 + 5) (ck' := ck2 + 30) ?_ (Nat.le_refl _) (Nat.le_refl _)
                      refine x_aload (pc := 900) dL_law_900 rfl ?_
                      refine x_getiN (pc := 902) frL_231 dL_law_902 hI.2.2.2.2.2.2.1.1.1.1 rfl (fun r902a r902b => ?_)
                      have q9 := hI.2.2.2.2.2.2.1.2.2.2.2.2.1
                      have q11 := hI.2.2.2.2.2.2.1.2.2.2.2.2.2.2.1
                      have q12 := hI.2.2.2.2.2.2.1.2.2.2.2.2.2.2.2.1
                      have q13 := hI.2.2.2.2.2.2.1.2.2.2.2.2.2.2.2.2
                      refine x_icmp_eq (pc := 905) (t := 910) dL_law_905 (by decide) ⟨by omega, by omega⟩ ⟨by omega, by omega⟩ (fun c905 => ?_) (fun c905 => ?_)
                      · refine x_aload (pc := 910) dL_law_910 rfl ?_
                        refine x_aload_n (pc := 912) dL_law_912 rfl rfl ?_
                        refine x_iconst (pc := 913) dL_law_913 ?_
                        refine x_callV (pc := 914) [_, _] rfl kL_243 dL_law_914 hI.2.2.2.2.2.2.1.1.1.1 rfl rfl (by decide) (Nat.le_of_ble_eq_true rfl) (Nat.le_of_ble_eq_true rfl) (show _ + 5 ≤ 600086 ∧ _ + 28 ≤ 7301442 by omega) ?_
                        refine sp_X6_score (P := tP T) (pl := 0) gB hI.2.2.2.2.2.2.1 hWl hPw hV.2.2.2.2.2 hI.2.1 hI.2.2.2.2.2.2.2.1 hI.2.2.2.1 (by omega) (by decide) (fun lay3 M3 E3 p3 hD3 => ?_)
                        have hI := hI.scr E3 p3
                        rw [← hs0]
                        refine ⟨_, rfl, ?_⟩
                        refine X.cs (cn' := cn2 + 10) (ck' := ck2 + 58) ?_ (Nat.le_refl _) (Nat.le_refl _)
                        refine x_istore (pc := 917) dL_law_917 trivial (by decide) (L' := [(16, _), (15, _), (13, _), (1, _), (2, _), (3, _), (7, _), (10, _), (11, _), (12, _)]) rfl ?_
                        refine x_aload (pc := 919) dL_law_919 rfl ?_
                        refine x_aload_n (pc := 921) dL_law_921 rfl rfl ?_
                        refine x_iconst (pc := 922) dL_law_922 ?_
                        refine x_callV (pc := 923) [_, _] rfl kL_243 dL_law_923 hI.2.2.2.2.2.2.1.1.1.1 rfl rfl (by decide) (Nat.le_of_ble_eq_true rfl) (Nat.le_of_ble_eq_true rfl) (show _ + 5 ≤ 600086 ∧ _ + 28 ≤ 7301442 by omega) ?_
                        refine sp_X6_score (P := tP T) (pl := 1) gB hI.2.2.2.2.2.2.1 hWl hPw hV.2.2.2.2.2 hI.2.1 hI.2.2.2.2.2.2.2.1 hI.2.2.2.1 (by omega) (by decide) (fun lay3 M3 E3 p3 hD3 => ?_)
                        have hI := hI.scr E3 p3
                        rw [← hs1]
                        refine ⟨_, rfl, ?_⟩
                        refine X.cs (cn' := cn2 + 15) (ck' := ck2 + 86) ?_ (Nat.le_refl _) (Nat.le_refl _)
                        refine x_istore (pc := 926) dL_law_926 trivial (by decide) (L' := [(17, _), (16, _), (15, _), (13, _), (1, _), (2, _), (3, _), (7, _), (10, _), (11, _), (12, _)]) rfl ?_
                        refine x_aload_n (pc := 928) dL_law_928 rfl rfl ?_
                        refine x_iconst (pc := 929) dL_law_929 ?_
                        refine x_iconst (pc := 930) dL_law_930 ?_
                        refine x_callV (pc := 931) [_, _] rfl kL_247 dL_law_931 hI.2.2.2.1.1.1 rfl rfl (by decide) (Nat.le_of_ble_eq_true rfl) (Nat.le_of_ble_eq_true rfl) (show _ + 1 ≤ 600086 ∧ _ + 6 ≤ 7301442 by omega) ?_
                        refine sp_X4_player gB hI.2.2.2.1.1 hI.2.2.2.1.2.1 hI.2.2.2.1.2.2.2.1 hI.2.2.2.1.2.2.2.2 ⟨by omega, by omega⟩ ⟨by omega, by omega⟩ (fun M3 n3 hn3 hS3 => ?_)
                        have hI := hI.scr (Ext.up (lay2 := (_, n3)) rfl hn3) (fun y i _ h => hS3 y i (by omega) (by omega) (by omega))
                        rw [show rPlayer T 0 0 = oI (s0) from (if_neg (fun h => h (by decide))).trans ((if_neg (fun h => h ⟨by decide, by decide⟩)).trans (by rw [hs0]; rfl))]
                        refine ⟨_, rfl, ?_⟩
                        refine X.cs (cn' := cn2 + 16) (ck' := ck2 + 92) ?_ (Nat.le_refl _) (Nat.le_refl _)
                        refine x_iload (pc := 934) dL_law_934 rfl ?_
                        refine x_icmp_ne (pc := 936) (t := 992) dL_law_936 (by decide) ⟨by omega, by omega⟩ ⟨by omega, by omega⟩ (fun c936 => ?_) (fun c936 => ?_)
                        · exfalso; omega
                        · refine x_aload_n (pc := 939) dL_law_939 rfl rfl ?_
                          refine x_iconst (pc := 940) dL_law_940 ?_
                          refine x_iconst (pc := 941) dL_law_941 ?_
                          refine x_callV (pc := 942) [_, _] rfl kL_247 dL_law_942 hI.2.2.2.1.1.1 rfl rfl (by decide) (Nat.le_of_ble_eq_true rfl) (Nat.le_of_ble_eq_true rfl) (show _ + 1 ≤ 600086 ∧ _ + 6 ≤ 7301442 by omega) ?_
                          refine sp_X4_player gB hI.2.2.2.1.1 hI.2.2.2.1.2.1 hI.2.2.2.1.2.2.2.1 hI.2.2.2.1.2.2.2.2 ⟨by omega, by omega⟩ ⟨by omega, by omega⟩ (fun M3 n3 hn3 hS3 => ?_)
                          have hI := hI.scr (Ext.up (lay2 := (_, n3)) rfl hn3) (fun y i _ h => hS3 y i (by omega) (by omega) (by omega))
                          rw [show rPlayer T 1 0 = oI (s1) from (if_neg (fun h => h (by decide))).trans ((if_neg (fun h => h ⟨by decide, by decide⟩)).trans (by rw [hs1]; rfl))]
                          refine ⟨_, rfl, ?_⟩
                          refine X.cs (cn' := cn2 + 17) (ck' := ck2 + 98) ?_ (Nat.le_refl _) (Nat.le_refl _)
                          refine x_iload (pc := 945) dL_law_945 rfl ?_
                          refine x_icmp_ne (pc := 947) (t := 992) dL_law_947 (by decide) ⟨by omega, by omega⟩ ⟨by omega, by omega⟩ (fun c947 => ?_) (fun c947 => ?_)
                          · exfalso; omega
                          · refine x_aload_n (pc := 950) dL_law_950 rfl rfl ?_
                            refine x_callV (pc := 951) [] rfl kL_250 dL_law_951 hI.2.2.2.1.1.1 rfl rfl (by decide) (Nat.le_of_ble_eq_true rfl) (Nat.le_of_ble_eq_true rfl) (show _ + 0 ≤ 600086 ∧ _ + 0 ≤ 7301442 by omega) ?_
                            refine sp_X4_winner gB hI.2.2.2.1.1 hI.2.2.2.1.2.1 hI.2.2.2.1.2.2.2.1 hI.2.2.2.1.2.2.2.2  (fun M3 n3 hn3 hS3 => ?_)
                            have hI := hI.scr (Ext.up (lay2 := (_, n3)) rfl hn3) (fun y i _ h => hS3 y i (by omega) (by omega) (by omega))
                            rw [← hwn]
                            refine ⟨_, rfl, ?_⟩
                            refine X.cs (cn' := cn2 + 17) (ck' := ck2 + 98) ?_ (Nat.le_refl _) (Nat.le_refl _)
                            refine x_aload (pc := 954) dL_law_954 rfl ?_
                            refine x_getzN (pc := 956) frL_215 dL_law_956 hI.2.2.2.2.2.2.1.1.1.1 rfl (fun r956a r956b => ?_)
                            have q9 := hI.2.2.2.2.2.2.1.2.2.2.2.2.1
                            have q11 := hI.2.2.2.2.2.2.1.2.2.2.2.2.2.2.1
                            have q12 := hI.2.2.2.2.2.2.1.2.2.2.2.2.2.2.2.1
                            have q13 := hI.2.2.2.2.2.2.1.2.2.2.2.2.2.2.2.2
                            refine x_if_ne (pc := 959) (t := 966) dL_law_959 (by decide) ⟨by omega, by omega⟩ (fun c959 => ?_) (fun c959 => ?_)
                            · refine x_iload (pc := 966) dL_law_966 rfl ?_
                              refine x_iload (pc := 968) dL_law_968 rfl ?_
                              refine x_icmp_le (pc := 970) (t := 977) dL_law_970 (by decide) ⟨by omega, by omega⟩ ⟨by omega, by omega⟩ (fun c970 => ?_) (fun c970 => ?_)
                              · refine x_iload (pc := 977) dL_law_977 rfl ?_
                                refine x_iload (pc := 979) dL_law_979 rfl ?_
                                refine x_icmp_ge (pc := 981) (t := 988) dL_law_981 (by decide) ⟨by omega, by omega⟩ ⟨by omega, by omega⟩ (fun c981 => ?_) (fun c981 => ?_)
                                · refine x_iconst (pc := 988) dL_law_988 ?_
                                  refine x_icmp_eq (pc := 989) (t := 994) dL_law_989 (by decide) ⟨by omega, by omega⟩ ⟨by omega, by omega⟩ (fun c989 => ?_) (fun c989 => ?_)
                                  · refine X.loc [3, 4, 5, 6, 7, 8, 9, 10] (L' := [(13, _), (1, _), (2, _), (3, _), (7, _), (10, _), (11, _), (12, _)]) rfl ?_
                                    exact k _ _ _ _ (by omega) (by omega) hI
                                  · exfalso; omega
                                · refine x_iconst (pc := 984) dL_law_984 ?_
                                  refine x_goto (pc := 985) (t := 989) dL_law_985 (by decide) ?_
                                  refine x_icmp_eq (pc := 989) (t := 994) dL_law_989 (by decide) ⟨by omega, by omega⟩ ⟨by omega, by omega⟩ (fun c989 => ?_) (fun c989 => ?_)
                                  · refine X.loc [3, 4, 5, 6, 7, 8, 9, 10] (L' := [(13, _), (1, _), (2, _), (3, _), (7, _), (10, _), (11, _), (12, _)]) rfl ?_
                                    exact k _ _ _ _ (by omega) (by omega) hI
                                  · exfalso; omega
                              · refine x_iconst (pc := 973) dL_law_973 ?_
                                refine x_goto (pc := 974) (t := 989) dL_law_974 (by decide) ?_
                                refine x_icmp_eq (pc := 989) (t := 994) dL_law_989 (by decide) ⟨by omega, by omega⟩ ⟨by omega, by omega⟩ (fun c989 => ?_) (fun c989 => ?_)
                                · refine X.loc [3, 4, 5, 6, 7, 8, 9, 10] (L' := [(13, _), (1, _), (2, _), (3, _), (7, _), (10, _), (11, _), (12, _)]) rfl ?_
                                  exact k _ _ _ _ (by omega) (by omega) hI
                                · exfalso; omega
                            · refine x_iconst (pc := 962) dL_law_962 ?_
                              refine x_goto (pc := 963) (t := 989) dL_law_963 (by decide) ?_
                              refine x_icmp_eq (pc := 989) (t := 994) dL_law_989 (by decide) ⟨by omega, by omega⟩ ⟨by omega, by omega⟩ (fun c989 => ?_) (fun c989 => ?_)
                              · refine X.loc [3, 4, 5, 6, 7, 8, 9, 10] (L' := [(13, _), (1, _), (2, _), (3, _), (7, _), (10, _), (11, _), (12, _)]) rfl ?_
                                exact k _ _ _ _ (by omega) (by omega) hI
                              · exfalso; omega
                      · exfalso; omega
      · exfalso; omega
    | succ dd ih =>
      intro j hj lay2 M2 cn2 ck2 hcn2 hck2 hI
      have br := barredF_rng T j
      have bs : barredF T (j + 1) = if isBar T j then barredF T j + 1 else barredF T j := rfl
      obtain ⟨bb, hbb, hbb2⟩ : ∃ bb : Int, bb = (if isBar T (j : Nat) then 1 else 0) ∧ (bb = 1 ∧ barredF T (j + 1) = barredF T j + 1 ∨ bb = 0 ∧ barredF T (j + 1) = barredF T j) := ⟨_, rfl, by
        rw [bs]
        split
        · exact Or.inl ⟨rfl, rfl⟩
        · exact Or.inr ⟨rfl, rfl⟩⟩
      have e7 : ((j : Nat) : Int).toNat = j := Int.toNat_natCast j
      have wP := hWf.2.1 j
      refine x_iload (pc := 736) dL_law_736 rfl ?_
      refine x_iload_n (pc := 738) dL_law_738 rfl rfl ?_
      refine x_icmp_ge (pc := 739) (t := 813) dL_law_739 (by decide) ⟨by omega, by omega⟩ ⟨by omega, by omega⟩ (fun c739 => ?_) (fun c739 => ?_)
      · exfalso; omega
      · refine x_aload_n (pc := 742) dL_law_742 rfl rfl ?_
        refine x_iload (pc := 743) dL_law_743 rfl ?_
        refine x_iconst (pc := 745) dL_law_745 ?_
        refine x_callV (pc := 746) [_, _] rfl kL_234 dL_law_746 hI.2.2.2.1.1.1 rfl rfl (by decide) (Nat.le_of_ble_eq_true rfl) (Nat.le_of_ble_eq_true rfl) (show _ + 1 ≤ 600086 ∧ _ + 6 ≤ 7301442 by omega) ?_
        refine sp_X4_power gB hI.2.2.2.1.1 hI.2.2.2.1.2.1 hI.2.2.2.1.2.2.2.1 hI.2.2.2.1.2.2.2.2 ⟨by omega, by omega⟩ ⟨by omega, by omega⟩ (fun M3 n3 hn3 hS3 => ?_)
        have hI := hI.scr (Ext.up (lay2 := (_, n3)) rfl hn3) (fun y i _ h => hS3 y i (by omega) (by omega) (by omega))
        rw [show rPower T (j : Nat) 0 = oI (tP T j) from (if_neg (fun h => h ⟨by omega, by omega⟩)).trans (if_neg (fun h => h ⟨by decide, by decide⟩))]
        refine ⟨_, rfl, ?_⟩
        refine X.cs (cn' := cn2 + 1) (ck' := ck2 + 6) ?_ (Nat.le_refl _) (Nat.le_refl _)
        refine x_aload (pc := 749) dL_law_749 rfl ?_
        refine x_getrN (pc := 751) (b := (c + 3)) frL_27 dL_law_751 hI.2.2.2.2.2.2.1.1.1.1 rfl hI.2.2.2.2.2.2.1.2.1.1 rfl ?_
        refine x_iload (pc := 754) dL_law_754 rfl ?_
        refine x_iald (pc := 756) dL_law_756 hI.2.2.2.2.2.2.1.1.2.1.1 (by omega) (by omega) (fun r756a r756b => ?_)
        have e9 := hI.2.2.2.2.2.2.1.2.2.1 j (by omega)
        rw [e7] at *
        refine x_icmp_ne (pc := 757) (t := 785) dL_law_757 (by decide) ⟨by omega, by omega⟩ ⟨by omega, by omega⟩ (fun c757 => ?_) (fun c757 => ?_)
        · exfalso; omega
        · refine x_aload_n (pc := 760) dL_law_760 rfl rfl ?_
          refine x_iload (pc := 761) dL_law_761 rfl ?_
          refine x_iconst (pc := 763) dL_law_763 ?_
          refine x_callV (pc := 764) [_, _] rfl kL_234 dL_law_764 hI.2.2.2.1.1.1 rfl rfl (by decide) (Nat.le_of_ble_eq_true rfl) (Nat.le_of_ble_eq_true rfl) (show _ + 1 ≤ 600086 ∧ _ + 6 ≤ 7301442 by omega) ?_
          refine sp_X4_power gB hI.2.2.2.1.1 hI.2.2.2.1.2.1 hI.2.2.2.1.2.2.2.1 hI.2.2.2.1.2.2.2.2 ⟨by omega, by omega⟩ ⟨by omega, by omega⟩ (fun M3 n3 hn3 hS3 => ?_)
          have hI := hI.scr (Ext.up (lay2 := (_, n3)) rfl hn3) (fun y i _ h => hS3 y i (by omega) (by omega) (by omega))
          rw [show rPower T (j : Nat) 1 = oI (if isBar T (j : Nat) then 1 else 0) from (if_neg (fun h => h ⟨by omega, by omega⟩)).trans (if_neg (fun h => h ⟨by decide, by decide⟩))]
          rw [← hbb]
          refine ⟨_, rfl, ?_⟩
          refine X.cs (cn' := cn2 + 2) (ck' := ck2 + 12) ?_ (Nat.le_refl _) (Nat.le_refl _)
          refine x_aload (pc := 767) dL_law_767 rfl ?_
          refine x_iload (pc := 769) dL_law_769 rfl ?_
          refine x_callV (pc := 771) [_] rfl kL_237 dL_law_771 hI.2.2.2.2.2.2.1.1.1.1 rfl rfl (by decide) (Nat.le_of_ble_eq_true rfl) (Nat.le_of_ble_eq_true rfl) (show _ + 0 ≤ 600086 ∧ _ + 0 ≤ 7301442 by omega) ?_
          refine sp_X6_isBarred hI.2.2.2.2.2.2.1 hWl (by omega) ?_
          rw [bar_I, ← hbb]
          refine ⟨_, rfl, ?_⟩
          refine X.cs (cn' := cn2 + 2) (ck' := ck2 + 12) ?_ (Nat.le_refl _) (Nat.le_refl _)
          refine x_if_eq (pc := 774) (t := 781) dL_law_774 (by decide) ⟨by omega, by omega⟩ (fun c774 => ?_) (fun c774 => ?_)
          · refine x_iconst (pc := 781) dL_law_781 ?_
            refine x_icmp_eq (pc := 782) (t := 787) dL_law_782 (by decide) ⟨by omega, by omega⟩ ⟨by omega, by omega⟩ (fun c782 => ?_) (fun c782 => ?_)
            · refine x_iload (pc := 787) dL_law_787 rfl ?_
              refine x_aload (pc := 789) dL_law_789 rfl ?_
              refine x_iload (pc := 791) dL_law_791 rfl ?_
              refine x_callV (pc := 793) [_] rfl kL_237 dL_law_793 hI.2.2.2.2.2.2.1.1.1.1 rfl rfl (by decide) (Nat.le_of_ble_eq_true rfl) (Nat.le_of_ble_eq_true rfl) (show _ + 0 ≤ 600086 ∧ _ + 0 ≤ 7301442 by omega) ?_
              refine sp_X6_isBarred hI.2.2.2.2.2.2.1 hWl (by omega) ?_
              rw [bar_I, ← hbb]
              refine ⟨_, rfl, ?_⟩
              refine X.cs (cn' := cn2 + 2) (ck' := ck2 + 12) ?_ (Nat.le_refl _) (Nat.le_refl _)
              refine x_if_eq (pc := 796) (t := 803) dL_law_796 (by decide) ⟨by omega, by omega⟩ (fun c796 => ?_) (fun c796 => ?_)
              · refine x_iconst (pc := 803) dL_law_803 ?_
                refine x_iadd (pc := 804) dL_law_804 ?_
                refine x_istore (pc := 805) dL_law_805 trivial (by decide) (L' := [(15, _), (16, _), (13, _), (1, _), (2, _), (3, _), (7, _), (10, _), (11, _), (12, _)]) rfl ?_
                refine x_iinc (pc := 807) dL_law_807 rfl (by decide) (L' := [(16, _), (15, _), (13, _), (1, _), (2, _), (3, _), (7, _), (10, _), (11, _), (12, _)]) rfl ?_
                refine x_goto (pc := 810) (t := 736) dL_law_810 (by decide) ?_
                refine X.loc [0, 1, 2, 3, 4, 5, 6, 7, 8, 9] (L' := [(16, _), (15, _), (13, _), (1, _), (2, _), (3, _), (7, _), (10, _), (11, _), (12, _)]) rfl ?_
                have l1 := ih (j + 1) (by omega)
                first
                | (rw [show barredF T (j + 1) = barredF T j + 1 by omega] at l1; exact l1 _ _ _ _ (by omega) (by omega) hI)
                | (rw [show barredF T (j + 1) = barredF T j + 0 by omega] at l1; exact l1 _ _ _ _ (by omega) (by omega) hI)
              · refine x_iconst (pc := 799) dL_law_799 ?_
                refine x_goto (pc := 800) (t := 804) dL_law_800 (by decide) ?_
                refine x_iadd (pc := 804) dL_law_804 ?_
                refine x_istore (pc := 805) dL_law_805 trivial (by decide) (L' := [(15, _), (16, _), (13, _), (1, _), (2, _), (3, _), (7, _), (10, _), (11, _), (12, _)]) rfl ?_
                refine x_iinc (pc := 807) dL_law_807 rfl (by decide) (L' := [(16, _), (15, _), (13, _), (1, _), (2, _), (3, _), (7, _), (10, _), (11, _), (12, _)]) rfl ?_
                refine x_goto (pc := 810) (t := 736) dL_law_810 (by decide) ?_
                refine X.loc [0, 1, 2, 3, 4, 5, 6, 7, 8, 9] (L' := [(16, _), (15, _), (13, _), (1, _), (2, _), (3, _), (7, _), (10, _), (11, _), (12, _)]) rfl ?_
                have l1 := ih (j + 1) (by omega)
                first
                | (rw [show barredF T (j + 1) = barredF T j + 1 by omega] at l1; exact l1 _ _ _ _ (by omega) (by omega) hI)
                | (rw [show barredF T (j + 1) = barredF T j + 0 by omega] at l1; exact l1 _ _ _ _ (by omega) (by omega) hI)
            · exfalso; omega
          · refine x_iconst (pc := 777) dL_law_777 ?_
            refine x_goto (pc := 778) (t := 782) dL_law_778 (by decide) ?_
            refine x_icmp_eq (pc := 782) (t := 787) dL_law_782 (by decide) ⟨by omega, by omega⟩ ⟨by omega, by omega⟩ (fun c782 => ?_) (fun c782 => ?_)
            · refine x_iload (pc := 787) dL_law_787 rfl ?_
              refine x_aload (pc := 789) dL_law_789 rfl ?_
              refine x_iload (pc := 791) dL_law_791 rfl ?_
              refine x_callV (pc := 793) [_] rfl kL_237 dL_law_793 hI.2.2.2.2.2.2.1.1.1.1 rfl rfl (by decide) (Nat.le_of_ble_eq_true rfl) (Nat.le_of_ble_eq_true rfl) (show _ + 0 ≤ 600086 ∧ _ + 0 ≤ 7301442 by omega) ?_
              refine sp_X6_isBarred hI.2.2.2.2.2.2.1 hWl (by omega) ?_
              rw [bar_I, ← hbb]
              refine ⟨_, rfl, ?_⟩
              refine X.cs (cn' := cn2 + 2) (ck' := ck2 + 12) ?_ (Nat.le_refl _) (Nat.le_refl _)
              refine x_if_eq (pc := 796) (t := 803) dL_law_796 (by decide) ⟨by omega, by omega⟩ (fun c796 => ?_) (fun c796 => ?_)
              · refine x_iconst (pc := 803) dL_law_803 ?_
                refine x_iadd (pc := 804) dL_law_804 ?_
                refine x_istore (pc := 805) dL_law_805 trivial (by decide) (L' := [(15, _), (16, _), (13, _), (1, _), (2, _), (3, _), (7, _), (10, _), (11, _), (12, _)]) rfl ?_
                refine x_iinc (pc := 807) dL_law_807 rfl (by decide) (L' := [(16, _), (15, _), (13, _), (1, _), (2, _), (3, _), (7, _), (10, _), (11, _), (12, _)]) rfl ?_
                refine x_goto (pc := 810) (t := 736) dL_law_810 (by decide) ?_
                refine X.loc [0, 1, 2, 3, 4, 5, 6, 7, 8, 9] (L' := [(16, _), (15, _), (13, _), (1, _), (2, _), (3, _), (7, _), (10, _), (11, _), (12, _)]) rfl ?_
                have l1 := ih (j + 1) (by omega)
                first
                | (rw [show barredF T (j + 1) = barredF T j + 1 by omega] at l1; exact l1 _ _ _ _ (by omega) (by omega) hI)
                | (rw [show barredF T (j + 1) = barredF T j + 0 by omega] at l1; exact l1 _ _ _ _ (by omega) (by omega) hI)
              · refine x_iconst (pc := 799) dL_law_799 ?_
                refine x_goto (pc := 800) (t := 804) dL_law_800 (by decide) ?_
                refine x_iadd (pc := 804) dL_law_804 ?_
                refine x_istore (pc := 805) dL_law_805 trivial (by decide) (L' := [(15, _), (16, _), (13, _), (1, _), (2, _), (3, _), (7, _), (10, _), (11, _), (12, _)]) rfl ?_
                refine x_iinc (pc := 807) dL_law_807 rfl (by decide) (L' := [(16, _), (15, _), (13, _), (1, _), (2, _), (3, _), (7, _), (10, _), (11, _), (12, _)]) rfl ?_
                refine x_goto (pc := 810) (t := 736) dL_law_810 (by decide) ?_
                refine X.loc [0, 1, 2, 3, 4, 5, 6, 7, 8, 9] (L' := [(16, _), (15, _), (13, _), (1, _), (2, _), (3, _), (7, _), (10, _), (11, _), (12, _)]) rfl ?_
                have l1 := ih (j + 1) (by omega)
                first
                | (rw [show barredF T (j + 1) = barredF T j + 1 by omega] at l1; exact l1 _ _ _ _ (by omega) (by omega) hI)
                | (rw [show barredF T (j + 1) = barredF T j + 0 by omega] at l1; exact l1 _ _ _ _ (by omega) (by omega) hI)
            · exfalso; omega
  refine x_iconst (pc := 730) dL_law_730 ?_
  refine x_istore (pc := 731) dL_law_731 trivial (by decide) (L' := [(15, _), (13, _), (1, _), (2, _), (3, _), (7, _), (10, _), (11, _), (12, _)]) rfl ?_
  refine x_iconst (pc := 733) dL_law_733 ?_
  refine x_istore (pc := 734) dL_law_734 trivial (by decide) (L' := [(16, _), (15, _), (13, _), (1, _), (2, _), (3, _), (7, _), (10, _), (11, _), (12, _)]) rfl ?_
  refine X.loc [0, 1, 2, 3, 4, 5, 6, 7, 8, 9] (L' := [(16, _), (15, _), (13, _), (1, _), (2, _), (3, _), (7, _), (10, _), (11, _), (12, _)]) rfl ?_
  exact loop pw 0 (by omega) lay M cn ck (by omega) (by omega) hI
