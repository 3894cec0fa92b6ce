/-! The end of a turn. -/
def tLay (T : CT) (x : Int) (p : Nat) : CT := (tS T, fup (tP T) p (tP T p + x), tN T + 1, fup (tC T) (tN T) x, fup (tQ T) (tN T) p, tK T, tL T, tO T, tB T)
abbrev reachP (T : CT) (x : Int) : Prop := x ≠ 0 ∧ 0 < tS T 4 ∧ tS T 4 ≤ allD (buildF (tP T))
abbrev endP (T : CT) (x : Int) : Prop := reachP T x ∨ tS T 2 ≤ (tN T : Int) ∨ (2 ≤ tN T ∧ tC T (tN T - 1) = 0 ∧ tC T (tN T - 2) = 0) ∨ barredF T (tS T 0).toNat = tS T 0
def setB (T : CT) (b : Int) : CT := (tS T, tP T, tN T, tC T, tQ T, tK T, tL T, tO T, b)
def setO (T : CT) (o : Int) : CT := (tS T, tP T, tN T, tC T, tQ T, tK T, tL T, o, tB T)
def tTerm (T : CT) (x : Int) (p : Nat) : CT := setO (setB (tLay T x p) (if reachP (tLay T x p) x then ((tN T % 2 : Nat) : Int) else tB T)) (if endP (tLay T x p) x then 1 else 0)
theorem Ct.setB {T : CT} {M : Mem} {c : Nat} {b : Int} (h : Ct T M c) : Ct (setB T b) (mset M c 8 b) c := by
  obtain ⟨h1, h2, h3, h4, h5, h6, h7, h8⟩ := h
  refine ⟨fun j hj => ?_, fun j hj => ?_, ?_, fun j hj => ?_, fun j hj => ?_, fun p i f hp hi hf2 => ?_, ?_, ?_⟩
  · rw [mset_nea (by omega)]; exact h1 j hj
  · rw [mset_nea (by omega)]; exact h2 j hj
  · rw [mset_nei (by omega)]; exact h3
  · rw [mset_nea (by omega), mset_nea (by omega)]; exact h4 j hj
  · rw [mset_nea (by omega)]; exact h5 j hj
  · rw [mset_nea (by omega)]; exact h6 p i f hp hi hf2
  · rw [mset_nei (by omega)]; exact h7
  · rw [mset_same]; rfl
theorem Ct.setO {T : CT} {M : Mem} {c : Nat} {b : Int} (h : Ct T M c) : Ct (setO T b) (mset M c 7 b) c := by
  obtain ⟨h1, h2, h3, h4, h5, h6, h7, h8⟩ := h
  refine ⟨fun j hj => ?_, fun j hj => ?_, ?_, fun j hj => ?_, fun j hj => ?_, fun p i f hp hi hf2 => ?_, ?_, ?_⟩
  · rw [mset_nea (by omega)]; exact h1 j hj
  · rw [mset_nea (by omega)]; exact h2 j hj
  · rw [mset_nei (by omega)]; exact h3
  · rw [mset_nea (by omega), mset_nea (by omega)]; exact h4 j hj
  · rw [mset_nea (by omega)]; exact h5 j hj
  · rw [mset_nea (by omega)]; exact h6 p i f hp hi hf2
  · rw [mset_same]; rfl
  · rw [mset_nei (by omega)]; exact h8
def Fr2 (c d : Nat) (M M' : Mem) : Prop := ∀ a j, ¬ (c ≤ a ∧ a < c + 7) → ¬ (d ≤ a ∧ a < d + 9) → M' a j = M a j
theorem Fr2.rf {c d : Nat} {M : Mem} : Fr2 c d M M := fun _ _ _ _ => rfl
theorem Fr2.ms {c d : Nat} {M M' : Mem} {a i : Nat} {v : Int} (h : Fr2 c d M M') (ha : (c ≤ a ∧ a < c + 7) ∨ (d ≤ a ∧ a < d + 9)) : Fr2 c d M (mset M' a i v) := fun b j h1 h2 => by
  rw [mset_nea (by rintro rfl; rcases ha with q | q; exact h1 q; exact h2 q)]
  exact h b j h1 h2
theorem Fr2.fr {c d lo hi : Nat} {M M' M'' : Mem} (h : Fr2 c d M M') (h2 : Frm lo hi M' M'') (ha : (c ≤ lo ∧ hi ≤ c + 7) ∨ (d ≤ lo ∧ hi ≤ d + 9)) : Fr2 c d M M'' := fun b j q1 q2 => by
  rw [h2 b j (by omega)]
  exact h b j q1 q2
theorem Fr2.tr {c d : Nat} {M M' M'' : Mem} (h : Fr2 c d M M') (h2 : Fr2 c d M' M'') : Fr2 c d M M'' := fun b j q1 q2 => (h2 b j q1 q2).trans (h b j q1 q2)
/-- the rows of all P that there can be are in their ranges -/
def GoodB : Prop := ∀ P, WfP P → buildOK P ∧ WfR (buildF P)
theorem WfT.lay {T : CT} {x : Int} {p : Nat} (h : WfT T) (hx : -9 ≤ x ∧ x ≤ 9) (hp : (p : Int) < tS T 0) (hs : -30 ≤ tP T p + x ∧ tP T p + x ≤ 30) (hN : (tN T : Int) < tS T 2) : WfT (tLay T x p) := by
  obtain ⟨w1, w2, w3, w4, w5, w6, w7, w8⟩ := h
  have w10 := w1.1
  refine ⟨w1, fun j => ?_, ?_, fun j hj => ?_, w5, fun q i hq hi => ?_, w7, w8⟩
  · have := w2 j
    show -30 ≤ fup (tP T) p (tP T p + x) j ∧ fup (tP T) p (tP T p + x) j ≤ 30 ∧ (5 ≤ j → fup (tP T) p (tP T p + x) j = 0)
    unfold fup
    split <;> omega
  · show ((tN T + 1 : Nat) : Int) ≤ tS T 2
    omega
  · have hj2 : j < tN T + 1 := hj
    show -9 ≤ fup (tC T) (tN T) x j ∧ fup (tC T) (tN T) x j ≤ 9 ∧ 0 ≤ fup (tQ T) (tN T) p j ∧ fup (tQ T) (tN T) p j < tS T 0
    unfold fup
    have := w4 j
    split <;> omega
  · have := w6 q i hq hi
    show WfL (tN T + 1) (tL T q i)
    unfold WfL at *
    omega
theorem WfT.b {T : CT} {b : Int} (h : WfT T) (hb : b = -1 ∨ b = 0 ∨ b = 1) : WfT (setB T b) := ⟨h.1, h.2.1, h.2.2.1, h.2.2.2.1, h.2.2.2.2.1, h.2.2.2.2.2.1, h.2.2.2.2.2.2.1, hb⟩
theorem WfT.o {T : CT} {b : Int} (h : WfT T) (hb : b = 0 ∨ b = 1) : WfT (setO T b) := ⟨h.1, h.2.1, h.2.2.1, h.2.2.2.1, h.2.2.2.2.1, h.2.2.2.2.2.1, hb, h.2.2.2.2.2.2.2⟩
theorem WfT.term {T : CT} {x : Int} {p : Nat} (h : WfT T) (hx : -9 ≤ x ∧ x ≤ 9) (hp : (p : Int) < tS T 0) (hs : -30 ≤ tP T p + x ∧ tP T p + x ≤ 30) (hN : (tN T : Int) < tS T 2) : WfT (tTerm T x p) := by
  refine ((h.lay hx hp hs hN).b ?_).o ?_
  · have := h.2.2.2.2.2.2.2
    split <;> omega
  · split <;> omega

set_option maxRecDepth 100000 in
theorem sp_X0_endTurn {g : GG} {lay : Lay} {M : Mem} {K : KK} {c d p : Nat} {x : Int} {T : CT} (gB : GoodB) (hC : CtL lay c) (hT : Ct T M c) (hW : WfT T) (hb0 : g.2.1 ≤ c) (hs : SrL lay d) (hb1 : g.2.1 ≤ d) (hcd : c + 7 ≤ d ∨ d + 9 ≤ c) (hx : -9 ≤ x ∧ x ≤ 9) (hp : (p : Int) < tS T 0) (hsum : -30 ≤ tP T p + x ∧ tP T p + x ≤ 30) (hNS : (tN T : Int) < tS T 2) (k : ∀ M2, Fr2 c d M M2 → Ct (tTerm T x p) M2 c → K (.inl none) lay M2) : X g m_X0_endTurn 0 0 lay M 0 [(0, vR c), (1, vI x), (2, vI p), (3, vR d)] [] K := by
  have hn := hW.n60
  obtain ⟨hS, hP, hN, hm, hK, hL, hO, hB⟩ := id hT
  obtain ⟨wS, wP, wN, wm, wK, wL, wO, wB⟩ := id hW
  have w0 := wS.1
  have e9 := hP p (by omega)
  have hWl := hW.lay hx hp hsum hNS
  obtain ⟨T1, hT1⟩ : ∃ T1, T1 = tLay T x p := ⟨_, rfl⟩
  have n1 : tN T1 = tN T + 1 := by rw [hT1]; rfl
  have s1 : tS T1 = tS T := by rw [hT1]; rfl
  have o1 : tO T1 = tO T := by rw [hT1]; rfl
  have tb1 : tB T1 = tB T := by rw [hT1]; rfl
  have w2 := wS.2.2.1
  have w4 := wS.2.2.2.2.1
  have s14 : tS T1 4 = tS T 4 := by rw [s1]
  rw [← hT1] at hWl
  unfold tTerm at k
  rw [← hT1] at k
  have fin : ∀ (r : Int) (T2 : CT) (M6 : Mem), (r = 1 ∧ reachP T1 x ∨ r = 0 ∧ ¬ reachP T1 x) → T2 = setB T1 (if reachP T1 x then ((tN T % 2 : Nat) : Int) else tB T) → Ct T2 M6 c → Fr2 c d M M6 → X g m_X0_endTurn 0 0 lay M6 118 [(5, vI r), (4, vI ((tN T % 2 : Nat) : Int)), (0, vR c), (1, vI x), (2, vI p), (3, vR d)] [] K := by
    intro r T2 M6 hr hT2 hC2 hF
    have hW2 : WfT T2 := by
      rw [hT2]
      refine hWl.b ?_
      split <;> omega
    have n2 : tN T2 = tN T + 1 := by rw [hT2]; exact n1
    have s2 : tS T2 = tS T := by rw [hT2]; exact s1
    have hb2 := barredF_rng T2 (tS T2 0).toNat
    have s20 : tS T2 0 = tS T 0 := by rw [s2]
    have g1 := hC2.2.2.1
    have g2 := hC2.1 2 (by decide)
    have g0 := hC2.1 0 (by decide)
    rw [n2] at g1
    rw [s2] at g2 g0
    have eP : endP T1 x ↔ (r = 1 ∨ tS T 2 ≤ (tN T + 1 : Int) ∨ (2 ≤ tN T2 ∧ tC T2 (tN T2 - 1) = 0 ∧ tC T2 (tN T2 - 2) = 0) ∨ barredF T2 (tS T2 0).toNat = tS T 0) := by
      have c1 : tC T2 = tC T1 := by rw [hT2]; rfl
      have c2 : barredF T2 = barredF T1 := by
        rw [hT2]
        funext n
        induction n with
        | zero => rfl
        | succ n ih => simp only [barredF]; rw [ih]; rfl
      have c3 : tN T2 = tN T1 := by rw [hT2]; rfl
      have c4 : tS T2 = tS T1 := by rw [hT2]; rfl
      unfold endP
      rw [c1, c2, c3, c4, s1, n1]
      have c5 : reachP T1 x ↔ r = 1 := by
        rcases hr with ⟨q1, q2⟩ | ⟨q1, q2⟩
        · exact ⟨fun _ => q1, fun _ => q2⟩
        · exact ⟨fun z => absurd z q2, fun z => by omega⟩
      rw [c5]
      simp only [Int.natCast_add, Int.natCast_one]
    have done : ∀ M7 : Mem, (∃ v : Int, M7 = mset M6 c 7 v ∧ (v = 1 ∧ endP T1 x ∨ v = 0 ∧ ¬ endP T1 x)) → K (.inl none) lay M7 := by
      rintro M7 ⟨v, rfl, hv⟩
      refine k _ (hF.ms (by omega)) ?_
      have := hC2.setO (b := v)
      rw [hT2] at this
      rcases hv with ⟨q1, q2⟩ | ⟨q1, q2⟩
      · subst q1; rw [if_pos q2]; exact this
      · subst q1; rw [if_neg q2]; exact this
    have hr01 : r = 1 ∨ r = 0 := by rcases hr with q | q; exact Or.inl q.1; exact Or.inr q.1
    clear hr k hT2
    refine x_aload_n (pc := 118) dX0_endTurn_118 rfl rfl ?_
    refine x_iload (pc := 119) dX0_endTurn_119 rfl ?_
    refine x_if_ne (pc := 121) (t := 157) dX0_endTurn_121 (by decide) ⟨by omega, by omega⟩ (fun c121 => ?_) (fun c121 => ?_)
    · refine x_iconst (pc := 157) dX0_endTurn_157 ?_
      refine x_goto (pc := 158) (t := 162) dX0_endTurn_158 (by decide) ?_
      refine x_putz (pc := 162) fnX0_46 dX0_endTurn_162 hC.1 (by omega) rfl ⟨by omega, by omega⟩ ?_
      refine x_vret (pc := 165) dX0_endTurn_165 rfl (by decide) (by decide) ?_
      refine done _ ⟨_, rfl, ?_⟩
      first
      | exact Or.inl ⟨rfl, eP.mpr (Or.inl (by omega))⟩
      | exact Or.inl ⟨rfl, eP.mpr (Or.inr (Or.inl (by omega)))⟩
      | exact Or.inl ⟨rfl, eP.mpr (Or.inr (Or.inr (Or.inl (b1 c141))))⟩
      | exact Or.inl ⟨rfl, eP.mpr (Or.inr (Or.inr (Or.inr (by omega))))⟩
      | exact Or.inr ⟨rfl, fun z => by rcases eP.mp z with q | q | q | q; omega; omega; exact b0 c141 q; omega⟩
    · refine x_aload_n (pc := 124) dX0_endTurn_124 rfl rfl ?_
      refine x_geti (pc := 125) fX0_42 dX0_endTurn_125 hC.1 rfl (fun r125a r125b => ?_)
      refine x_aload_n (pc := 128) dX0_endTurn_128 rfl rfl ?_
      refine x_getr (pc := 129) (b := c + 1) fX0_9 dX0_endTurn_129 hC.1 rfl rfl ?_
      refine x_iconst (pc := 132) dX0_endTurn_132 ?_
      refine x_iald (pc := 133) dX0_endTurn_133 hC.2.1 (by omega) (by omega) (fun r133a r133b => ?_)
      rw [show (2 : Int).toNat = 2 from rfl, g2]
      refine x_icmp_ge (pc := 134) (t := 157) dX0_endTurn_134 (by decide) ⟨by omega, by omega⟩ ⟨by omega, by omega⟩ (fun c134 => ?_) (fun c134 => ?_)
      · refine x_iconst (pc := 157) dX0_endTurn_157 ?_
        refine x_goto (pc := 158) (t := 162) dX0_endTurn_158 (by decide) ?_
        refine x_putz (pc := 162) fnX0_46 dX0_endTurn_162 hC.1 (by omega) rfl ⟨by omega, by omega⟩ ?_
        refine x_vret (pc := 165) dX0_endTurn_165 rfl (by decide) (by decide) ?_
        refine done _ ⟨_, rfl, ?_⟩
        first
        | exact Or.inl ⟨rfl, eP.mpr (Or.inl (by omega))⟩
        | exact Or.inl ⟨rfl, eP.mpr (Or.inr (Or.inl (by omega)))⟩
        | exact Or.inl ⟨rfl, eP.mpr (Or.inr (Or.inr (Or.inl (b1 c141))))⟩
        | exact Or.inl ⟨rfl, eP.mpr (Or.inr (Or.inr (Or.inr (by omega))))⟩
        | exact Or.inr ⟨rfl, fun z => by rcases eP.mp z with q | q | q | q; omega; omega; exact b0 c141 q; omega⟩
      · refine x_aload_n (pc := 137) dX0_endTurn_137 rfl rfl ?_
        refine x_callV (pc := 138) [] rfl kX0_93 dX0_endTurn_138 hC.1 rfl rfl (by decide) (Nat.le_of_ble_eq_true rfl) (Nat.le_of_ble_eq_true rfl) (by decide) ?_
        refine sp_X0_endsWithTwoPasses hC hC2 hW2 ?_
        refine ⟨_, rfl, ?_⟩
        refine x_if_ne (pc := 141) (t := 157) dX0_endTurn_141 (by decide) ⟨by omega, by omega⟩ (fun c141 => ?_) (fun c141 => ?_)
        · refine x_iconst (pc := 157) dX0_endTurn_157 ?_
          refine x_goto (pc := 158) (t := 162) dX0_endTurn_158 (by decide) ?_
          refine x_putz (pc := 162) fnX0_46 dX0_endTurn_162 hC.1 (by omega) rfl ⟨by omega, by omega⟩ ?_
          refine x_vret (pc := 165) dX0_endTurn_165 rfl (by decide) (by decide) ?_
          refine done _ ⟨_, rfl, ?_⟩
          first
          | exact Or.inl ⟨rfl, eP.mpr (Or.inl (by omega))⟩
          | exact Or.inl ⟨rfl, eP.mpr (Or.inr (Or.inl (by omega)))⟩
          | exact Or.inl ⟨rfl, eP.mpr (Or.inr (Or.inr (Or.inl (b1 c141))))⟩
          | exact Or.inl ⟨rfl, eP.mpr (Or.inr (Or.inr (Or.inr (by omega))))⟩
          | exact Or.inr ⟨rfl, fun z => by rcases eP.mp z with q | q | q | q; omega; omega; exact b0 c141 q; omega⟩
        · refine x_aload_n (pc := 144) dX0_endTurn_144 rfl rfl ?_
          refine x_callV (pc := 145) [] rfl kX0_97 dX0_endTurn_145 hC.1 rfl rfl (by decide) (Nat.le_of_ble_eq_true rfl) (Nat.le_of_ble_eq_true rfl) (by decide) ?_
          refine sp_X0_barredPowers hC hC2 hW2 ?_
          refine ⟨_, rfl, ?_⟩
          refine x_aload_n (pc := 148) dX0_endTurn_148 rfl rfl ?_
          refine x_getr (pc := 149) (b := c + 1) fX0_9 dX0_endTurn_149 hC.1 rfl rfl ?_
          refine x_iconst (pc := 152) dX0_endTurn_152 ?_
          refine x_iald (pc := 153) dX0_endTurn_153 hC.2.1 (by omega) (by omega) (fun r153a r153b => ?_)
          rw [show (0 : Int).toNat = 0 from rfl, g0]
          refine x_icmp_ne (pc := 154) (t := 161) dX0_endTurn_154 (by decide) ⟨by omega, by omega⟩ ⟨by omega, by omega⟩ (fun c154 => ?_) (fun c154 => ?_)
          · refine x_iconst (pc := 161) dX0_endTurn_161 ?_
            refine x_putz (pc := 162) fnX0_46 dX0_endTurn_162 hC.1 (by omega) rfl ⟨by omega, by omega⟩ ?_
            refine x_vret (pc := 165) dX0_endTurn_165 rfl (by decide) (by decide) ?_
            refine done _ ⟨_, rfl, ?_⟩
            first
            | exact Or.inl ⟨rfl, eP.mpr (Or.inl (by omega))⟩
            | exact Or.inl ⟨rfl, eP.mpr (Or.inr (Or.inl (by omega)))⟩
            | exact Or.inl ⟨rfl, eP.mpr (Or.inr (Or.inr (Or.inl (b1 c141))))⟩
            | exact Or.inl ⟨rfl, eP.mpr (Or.inr (Or.inr (Or.inr (by omega))))⟩
            | exact Or.inr ⟨rfl, fun z => by rcases eP.mp z with q | q | q | q; omega; omega; exact b0 c141 q; omega⟩
          · refine x_iconst (pc := 157) dX0_endTurn_157 ?_
            refine x_goto (pc := 158) (t := 162) dX0_endTurn_158 (by decide) ?_
            refine x_putz (pc := 162) fnX0_46 dX0_endTurn_162 hC.1 (by omega) rfl ⟨by omega, by omega⟩ ?_
            refine x_vret (pc := 165) dX0_endTurn_165 rfl (by decide) (by decide) ?_
            refine done _ ⟨_, rfl, ?_⟩
            first
            | exact Or.inl ⟨rfl, eP.mpr (Or.inl (by omega))⟩
            | exact Or.inl ⟨rfl, eP.mpr (Or.inr (Or.inl (by omega)))⟩
            | exact Or.inl ⟨rfl, eP.mpr (Or.inr (Or.inr (Or.inl (b1 c141))))⟩
            | exact Or.inl ⟨rfl, eP.mpr (Or.inr (Or.inr (Or.inr (by omega))))⟩
            | exact Or.inr ⟨rfl, fun z => by rcases eP.mp z with q | q | q | q; omega; omega; exact b0 c141 q; omega⟩
  have mid : ∀ (r : Int) (M5 : Mem), (r = 1 ∧ reachP T1 x ∨ r = 0 ∧ ¬ reachP T1 x) → Ct T1 M5 c → Fr2 c d M M5 → X g m_X0_endTurn 0 0 lay M5 107 [(5, vI r), (4, vI ((tN T % 2 : Nat) : Int)), (0, vR c), (1, vI x), (2, vI p), (3, vR d)] [] K := by
    intro r M5 hr hC5 hF
    have hr01 : r = 1 ∨ r = 0 := by rcases hr with q | q; exact Or.inl q.1; exact Or.inr q.1
    refine x_iload (pc := 107) dX0_endTurn_107 rfl ?_
    refine x_if_eq (pc := 109) (t := 118) dX0_endTurn_109 (by decide) ⟨by omega, by omega⟩ (fun c109 => ?_) (fun c109 => ?_)
    · refine X.loc [0, 1, 2, 3, 4, 5] (L' := [(5, _), (4, _), (0, _), (1, _), (2, _), (3, _)]) rfl ?_
      first
      | (refine fin r _ _ hr rfl ?_ (hF.ms (by omega))
         have hq : reachP T1 x := by rcases hr with q | q; exact q.2; omega
         rw [if_pos hq]
         exact hC5.setB)
      | (refine fin r _ _ hr rfl ?_ hF
         have hq : ¬ reachP T1 x := by rcases hr with q | q; omega; exact q.2
         rw [if_neg hq, ← tb1]
         exact hC5)
    · refine x_aload_n (pc := 112) dX0_endTurn_112 rfl rfl ?_
      refine x_iload (pc := 113) dX0_endTurn_113 rfl ?_
      refine x_puti (pc := 115) fnX0_50 dX0_endTurn_115 hC.1 (by omega) rfl ⟨by omega, by omega⟩ ?_
      refine X.loc [0, 1, 2, 3, 4, 5] (L' := [(5, _), (4, _), (0, _), (1, _), (2, _), (3, _)]) rfl ?_
      first
      | (refine fin r _ _ hr rfl ?_ (hF.ms (by omega))
         have hq : reachP T1 x := by rcases hr with q | q; exact q.2; omega
         rw [if_pos hq]
         exact hC5.setB)
      | (refine fin r _ _ hr rfl ?_ hF
         have hq : ¬ reachP T1 x := by rcases hr with q | q; omega; exact q.2
         rw [if_neg hq, ← tb1]
         exact hC5)
  have start : ∀ M1 : Mem, Ct T1 M1 c → Fr2 c d M M1 → X g m_X0_endTurn 0 0 lay M1 72 [(4, vI ((tN T % 2 : Nat) : Int)), (0, vR c), (1, vI x), (2, vI p), (3, vR d)] [] K := by
    intro M1 hC1 hF
    have g4 := hC1.1 4 (by decide)
    obtain ⟨gB1, gB2⟩ := gB (tP T1) hWl.2.1
    refine x_iconst (pc := 72) dX0_endTurn_72 ?_
    refine x_istore (pc := 73) dX0_endTurn_73 trivial (by decide) (L' := [(5, _), (4, _), (0, _), (1, _), (2, _), (3, _)]) rfl ?_
    refine x_iload_n (pc := 75) dX0_endTurn_75 rfl rfl ?_
    refine x_if_eq (pc := 76) (t := 107) dX0_endTurn_76 (by decide) ⟨by omega, by omega⟩ (fun c76 => ?_) (fun c76 => ?_)
    · refine X.loc [0, 1, 2, 3, 4, 5] (L' := [(5, _), (4, _), (0, _), (1, _), (2, _), (3, _)]) rfl ?_
      first
      | (refine mid _ _ ?_ (hC3.r hF4 hcd) (((hF.fr hF2 (by omega)).fr hF3 (by omega)).fr hF4 (by omega))
         by_cases hq : 0 < tS T1 4 ∧ tS T1 4 ≤ allD (buildF (tP T1))
         · rw [if_pos hq]
           exact Or.inl ⟨rfl, by omega, hq⟩
         · rw [if_neg hq]
           exact Or.inr ⟨rfl, fun z => hq z.2⟩)
      | (refine mid _ _ (Or.inr ⟨rfl, fun z => ?_⟩) hC1 hF
         obtain ⟨z1, z2, z3⟩ := z
         omega)
    · refine x_aload_n (pc := 79) dX0_endTurn_79 rfl rfl ?_
      refine x_getr (pc := 80) (b := c + 1) fX0_9 dX0_endTurn_80 hC.1 rfl rfl ?_
      refine x_iconst (pc := 83) dX0_endTurn_83 ?_
      refine x_iald (pc := 84) dX0_endTurn_84 hC.2.1 (by omega) (by omega) (fun r84a r84b => ?_)
      rw [show (4 : Int).toNat = 4 from rfl, g4]
      refine x_if_le (pc := 85) (t := 107) dX0_endTurn_85 (by decide) ⟨by omega, by omega⟩ (fun c85 => ?_) (fun c85 => ?_)
      · refine X.loc [0, 1, 2, 3, 4, 5] (L' := [(5, _), (4, _), (0, _), (1, _), (2, _), (3, _)]) rfl ?_
        first
        | (refine mid _ _ ?_ (hC3.r hF4 hcd) (((hF.fr hF2 (by omega)).fr hF3 (by omega)).fr hF4 (by omega))
           by_cases hq : 0 < tS T1 4 ∧ tS T1 4 ≤ allD (buildF (tP T1))
           · rw [if_pos hq]
             exact Or.inl ⟨rfl, by omega, hq⟩
           · rw [if_neg hq]
             exact Or.inr ⟨rfl, fun z => hq z.2⟩)
        | (refine mid _ _ (Or.inr ⟨rfl, fun z => ?_⟩) hC1 hF
           obtain ⟨z1, z2, z3⟩ := z
           omega)
      · refine x_aload_n (pc := 88) dX0_endTurn_88 rfl rfl ?_
        refine x_aload_n (pc := 89) dX0_endTurn_89 rfl rfl ?_
        refine x_getr (pc := 90) (b := c + 2) fX0_15 dX0_endTurn_90 hC.1 rfl rfl ?_
        refine x_callV (pc := 93) [_] rfl kX0_80 dX0_endTurn_93 hs.1 rfl rfl (by decide) (Nat.le_of_ble_eq_true rfl) (Nat.le_of_ble_eq_true rfl) (by decide) ?_
        refine sp_X3_take hs hb1 hC.2.2.1 (by omega) (fun i hi => hC1.2.1 i hi) (fun M2 hF2 hw2 => ?_)
        refine ⟨_, rfl, ?_⟩
        refine x_aload_n (pc := 96) dX0_endTurn_96 rfl rfl ?_
        refine x_callV (pc := 97) [] rfl kX0_86 dX0_endTurn_97 hs.1 rfl rfl (by decide) (Nat.le_of_ble_eq_true rfl) (Nat.le_of_ble_eq_true rfl) (by decide) ?_
        refine sp_X3_build hs hb1 hw2 gB1 (fun M3 hF3 hR3 => ?_)
        refine ⟨_, rfl, ?_⟩
        refine x_aload_n (pc := 100) dX0_endTurn_100 rfl rfl ?_
        refine x_aload_n (pc := 101) dX0_endTurn_101 rfl rfl ?_
        refine x_callV (pc := 102) [_] rfl kX0_89 dX0_endTurn_102 hC.1 rfl rfl (by decide) (Nat.le_of_ble_eq_true rfl) (Nat.le_of_ble_eq_true rfl) (by decide) ?_
        have hC3 := (hC1.r hF2 hcd).frm hF3 (by omega)
        refine sp_X0_isGoalReached hC hC3 hWl hs hR3 gB2 hb1 hcd (fun M4 hF4 => ?_)
        refine ⟨_, rfl, ?_⟩
        have hz : 0 ≤ (if 0 < tS T1 4 ∧ tS T1 4 ≤ allD (buildF (tP T1)) then (1 : Int) else 0) ∧ (if 0 < tS T1 4 ∧ tS T1 4 ≤ allD (buildF (tP T1)) then (1 : Int) else 0) ≤ 1 := by split <;> decide
        refine x_istore (pc := 105) dX0_endTurn_105 trivial (by decide) (L' := [(5, _), (4, _), (0, _), (1, _), (2, _), (3, _)]) rfl ?_
        refine X.loc [0, 1, 2, 3, 4, 5] (L' := [(5, _), (4, _), (0, _), (1, _), (2, _), (3, _)]) rfl ?_
        first
        | (refine mid _ _ ?_ (hC3.r hF4 hcd) (((hF.fr hF2 (by omega)).fr hF3 (by omega)).fr hF4 (by omega))
           by_cases hq : 0 < tS T1 4 ∧ tS T1 4 ≤ allD (buildF (tP T1))
           · rw [if_pos hq]
             exact Or.inl ⟨rfl, by omega, hq⟩
           · rw [if_neg hq]
             exact Or.inr ⟨rfl, fun z => hq z.2⟩)
        | (refine mid _ _ (Or.inr ⟨rfl, fun z => ?_⟩) hC1 hF
           obtain ⟨z1, z2, z3⟩ := z
           omega)
  refine x_iload_n (pc := 0) dX0_endTurn_0 rfl rfl ?_
  refine x_if_lt (pc := 1) (t := 25) dX0_endTurn_1 (by decide) ⟨by omega, by omega⟩ (fun c1 => ?_) (fun c1 => ?_)
  · exfalso; omega
  · refine x_iload_n (pc := 4) dX0_endTurn_4 rfl rfl ?_
    refine x_iconst (pc := 5) dX0_endTurn_5 ?_
    refine x_icmp_ge (pc := 6) (t := 25) dX0_endTurn_6 (by decide) ⟨by omega, by omega⟩ ⟨by omega, by omega⟩ (fun c6 => ?_) (fun c6 => ?_)
    · exfalso; omega
    · refine x_aload_n (pc := 9) dX0_endTurn_9 rfl rfl ?_
      refine x_geti (pc := 10) fX0_42 dX0_endTurn_10 hC.1 rfl (fun r10a r10b => ?_)
      refine x_if_lt (pc := 13) (t := 25) dX0_endTurn_13 (by decide) ⟨by omega, by omega⟩ (fun c13 => ?_) (fun c13 => ?_)
      · exfalso; omega
      · refine x_aload_n (pc := 16) dX0_endTurn_16 rfl rfl ?_
        refine x_geti (pc := 17) fX0_42 dX0_endTurn_17 hC.1 rfl (fun r17a r17b => ?_)
        refine x_bipush (pc := 20) dX0_endTurn_20 (by decide) ?_
        refine x_icmp_lt (pc := 22) (t := 26) dX0_endTurn_22 (by decide) ⟨by omega, by omega⟩ ⟨by omega, by omega⟩ (fun c22 => ?_) (fun c22 => ?_)
        · refine x_aload_n (pc := 26) dX0_endTurn_26 rfl rfl ?_
          refine x_callV (pc := 27) [] rfl kX0_76 dX0_endTurn_27 hC.1 rfl rfl (by decide) (Nat.le_of_ble_eq_true rfl) (Nat.le_of_ble_eq_true rfl) (by decide) ?_
          refine sp_X0_mover hC hT hW ?_
          refine ⟨_, rfl, ?_⟩
          refine x_istore (pc := 30) dX0_endTurn_30 trivial (by decide) (L' := [(4, _), (0, _), (1, _), (2, _), (3, _)]) rfl ?_
          refine x_aload_n (pc := 32) dX0_endTurn_32 rfl rfl ?_
          refine x_getr (pc := 33) (b := c + 3) fX0_18 dX0_endTurn_33 hC.1 rfl rfl ?_
          refine x_aload_n (pc := 36) dX0_endTurn_36 rfl rfl ?_
          refine x_geti (pc := 37) fX0_42 dX0_endTurn_37 hC.1 rfl (fun r37a r37b => ?_)
          rw [hN]
          refine x_iload_n (pc := 40) dX0_endTurn_40 rfl rfl ?_
          refine x_iast (pc := 41) dX0_endTurn_41 hC.2.2.2.1 (by omega) (by omega) (by omega) ⟨by omega, by omega⟩ ?_
          refine x_aload_n (pc := 42) dX0_endTurn_42 rfl rfl ?_
          refine x_getr (pc := 43) (b := c + 4) fX0_21 dX0_endTurn_43 hC.1 rfl rfl ?_
          refine x_aload_n (pc := 46) dX0_endTurn_46 rfl rfl ?_
          refine x_geti (pc := 47) fX0_42 dX0_endTurn_47 hC.1 rfl (fun r47a r47b => ?_)
          try simp (disch := omega) only [mset_same, mset_nea, mset_nei, mcopy_nea, mcopy_in, mcopy_out, Int.reduceToNat, Int.toNat_natCast, Nat.zero_add, Nat.sub_zero] at r47a r47b ⊢
          try rw [hN]
          refine x_iload_n (pc := 50) dX0_endTurn_50 rfl rfl ?_
          refine x_iast (pc := 51) dX0_endTurn_51 hC.2.2.2.2.1 (by omega) (by omega) (by omega) ⟨by omega, by omega⟩ ?_
          refine x_aload_n (pc := 52) dX0_endTurn_52 rfl rfl ?_
          refine x_getr (pc := 53) (b := c + 2) fX0_15 dX0_endTurn_53 hC.1 rfl rfl ?_
          refine x_iload_n (pc := 56) dX0_endTurn_56 rfl rfl ?_
          refine x_dup2 (pc := 57) dX0_endTurn_57 rfl rfl ?_
          refine x_iald (pc := 58) dX0_endTurn_58 hC.2.2.1 (by omega) (by omega) (fun r58a r58b => ?_)
          try simp (disch := omega) only [mset_same, mset_nea, mset_nei, mcopy_nea, mcopy_in, mcopy_out, Int.reduceToNat, Int.toNat_natCast, Nat.zero_add, Nat.sub_zero] at r58a r58b ⊢
          rw [e9]
          refine x_iload_n (pc := 59) dX0_endTurn_59 rfl rfl ?_
          refine x_iadd (pc := 60) dX0_endTurn_60 ?_
          refine x_iast (pc := 61) dX0_endTurn_61 hC.2.2.1 (by omega) (by omega) (by omega) ⟨by omega, by omega⟩ ?_
          refine x_aload_n (pc := 62) dX0_endTurn_62 rfl rfl ?_
          refine x_dup (pc := 63) dX0_endTurn_63 rfl ?_
          refine x_geti (pc := 64) fX0_42 dX0_endTurn_64 hC.1 rfl (fun r64a r64b => ?_)
          try simp (disch := omega) only [mset_same, mset_nea, mset_nei, mcopy_nea, mcopy_in, mcopy_out, Int.reduceToNat, Int.toNat_natCast, Nat.zero_add, Nat.sub_zero] at r64a r64b ⊢
          refine x_iconst (pc := 67) dX0_endTurn_67 ?_
          refine x_iadd (pc := 68) dX0_endTurn_68 ?_
          refine x_puti (pc := 69) fnX0_42 dX0_endTurn_69 hC.1 (by omega) rfl ⟨by omega, by omega⟩ ?_
          refine X.loc [0, 1, 2, 3, 4] (L' := [(4, _), (0, _), (1, _), (2, _), (3, _)]) rfl ?_
          refine start _ ?_ ((((Fr2.rf.ms (by omega)).ms (by omega)).ms (by omega)).ms (by omega))
          rw [hT1]
          clear start mid fin k hT1
          refine ⟨fun j hj => ?_, fun j hj => ?_, ?_, fun j hj => ?_, fun j hj => ?_, fun q i f hq hi hf2 => ?_, ?_, ?_⟩
          · rw [mset_nea (by omega), mset_nea (by omega), mset_nea (by omega), mset_nea (by omega)]
            exact hS j hj
          · show _ = fup (tP T) p (tP T p + x) j
            unfold fup
            by_cases e : j = p
            · rw [if_pos e, e, mset_nea (by omega), mset_same]
            · rw [if_neg e, mset_nea (by omega), mset_nei e, mset_nea (by omega), mset_nea (by omega)]
              exact hP j hj
          · rw [mset_same, hN]
            show _ = ((tN T + 1 : Nat) : Int)
            omega
          · have hj2 : j < tN T + 1 := hj
            show _ = fup (tC T) (tN T) x j ∧ _ = fup (tQ T) (tN T) p j
            unfold fup
            have hm2 := hm j
            refine ⟨?_, ?_⟩
            · rw [mset_nea (by omega), mset_nea (by omega), mset_nea (by omega)]
              by_cases e : j = tN T
              · rw [if_pos e, e, mset_same]
              · rw [if_neg e, mset_nei e]
                exact (hm2 (by omega)).1
            · rw [mset_nea (by omega), mset_nea (by omega)]
              by_cases e : j = tN T
              · rw [if_pos e, e, mset_same]
              · rw [if_neg e, mset_nei e, mset_nea (by omega)]
                exact (hm2 (by omega)).2
          · rw [mset_nea (by omega), mset_nea (by omega), mset_nea (by omega), mset_nea (by omega)]
            exact hK j hj
          · rw [mset_nea (by omega), mset_nea (by omega), mset_nea (by omega), mset_nea (by omega)]
            exact hL q i f hq hi hf2
          · rw [mset_nei (by omega), mset_nea (by omega), mset_nea (by omega), mset_nea (by omega)]
            exact hO
          · rw [mset_nei (by omega), mset_nea (by omega), mset_nea (by omega), mset_nea (by omega)]
            exact hB
        · exfalso; omega
