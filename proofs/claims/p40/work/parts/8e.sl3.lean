/-! The law's contest beside the class's object: reasons of claims, scores. -/
/-- the class's object, that is in the contest T -/
def Ds (g : GG) (lay : Lay) (M : Mem) (b : Nat) (T : CT) : Prop := DuL lay b (fun _ => none) ∧ g.2.1 ≤ b ∧ b + 32 ≤ lay.2 ∧ Ct T M (b + 1) ∧ WfT T
theorem DuL.up {l l' : Lay} {b : Nat} {sv : Nat → Option Nat} (h : DuL l b sv) (e : l'.1 = l.1) : DuL l' b sv := by
  unfold DuL CtL SrL RdL PgL at h ⊢
  rw [e]
  exact h
theorem DuL.tr {l l' : Lay} {b : Nat} (h : DuL l b (fun _ => none)) (e : ∀ x, b ≤ x → x < b + 32 → l'.1 x = l.1 x) : DuL l' b (fun _ => none) := by
  obtain ⟨d1, dC, dT, dS, dR, dRd, dP, dA, dH, dv1, dv2⟩ := h
  exact ⟨(e _ (by omega) (by omega)).trans d1, dC.tr (fun x h1 h2 => e x (by omega) (by omega)), dT.tr (fun x h1 h2 => e x (by omega) (by omega)), (e _ (by omega) (by omega)).trans dS, dR.tr (fun x h1 h2 => e x (by omega) (by omega)), dRd.tr (fun x h1 h2 => e x (by omega) (by omega)), dP.tr (fun x h1 h2 => e x (by omega) (by omega)), (e _ (by omega) (by omega)).trans dA, (e _ (by omega) (by omega)).trans dH, fun i a _ h => (by cases h), fun a a2 h => (by cases h)⟩
theorem Ds.ext {g : GG} {lay lay2 : Lay} {M M2 : Mem} {b : Nat} {T : CT} (h : Ds g lay M b T) (e : Ext lay lay2) (p : ∀ y i, b ≤ y → y < b + 8 → M2 y i = M y i) : Ds g lay2 M2 b T :=
  ⟨DuL.tr h.1 (fun x x1 x2 => e.2 x (by have := h.2.2.1; omega)), h.2.1, Nat.le_trans h.2.2.1 e.1, h.2.2.2.1.gen (fun a j q1 q2 => p a j (by omega) (by omega)), h.2.2.2.2⟩
theorem Ds.scr {g : GG} {lay : Lay} {M M2 : Mem} {b n : Nat} {T : CT} (h : Ds g lay M b T) (hn : lay.2 ≤ n) (p : Scr b M M2) : Ds g (lay.1, n) M2 b T :=
  h.ext (Ext.up rfl hn) (fun y i h1 h2 => p y i (by omega) (by omega) (by omega))
theorem LsP.ar {g : GG} {lay : Lay} {M : Mem} {l n x : Nat} {el : Nat → Nat} (h : LsP g lay M l n el) (h1 : M l 1 = er x) (h2 : g.2.1 ≤ x) (g5 : g.2.2.1 5 < g.2.1) : KN lay x (8, 10, fun _ => none) := by
  obtain ⟨-, -, -, -, -, l4⟩ := h
  rcases l4 with ⟨z1, z2⟩ | ⟨x2, z1, z2, z3, z4⟩
  · have := er_inj (h1.symm.trans z2)
    omega
  · have := er_inj (h1.symm.trans z1)
    subst this
    exact z2
theorem ItP.ext {g : GG} {lay lay2 : Lay} {M M2 : Mem} {a l n c : Nat} (h : ItP g lay M a l n c) (e : Ext lay lay2) (p : ∀ j, M2 a j = M a j) : ItP g lay2 M2 a l n c := ⟨h.1.ext e, h.2.1, (p _).trans h.2.2.1, (p _).trans h.2.2.2.1, (p _).trans h.2.2.2.2⟩
theorem sg_want {v : Int} {pl : Nat} (h : pl < 2) : sg v = wantF pl ↔ (pl = 0 ∧ 0 < v ∨ pl = 1 ∧ v < 0) := by
  rw [show sg v = (if 0 < v then 1 else if v < 0 then -1 else 0) from rfl, show wantF pl = (if pl = 0 then 1 else -1) from rfl]
  by_cases a : 0 < v
  · rw [if_pos a]
    by_cases c : pl = 0
    · rw [if_pos c]; omega
    · rw [if_neg c]; omega
  · rw [if_neg a]
    by_cases b : v < 0
    · rw [if_pos b]
      by_cases c : pl = 0
      · rw [if_pos c]; omega
      · rw [if_neg c]; omega
    · rw [if_neg b]
      by_cases c : pl = 0
      · rw [if_pos c]; omega
      · rw [if_neg c]; omega
theorem valS_F {P : Nat → Int} (hP : WfP P) {pw : Nat} (hw : 2 ≤ pw ∧ pw ≤ 5) (hz : ∀ j, pw ≤ j → P j = 0) (x : Int) : valS P x pw = valF P x 5 := by
  have e : valS P x 5 = valF P x 5 := by
    simp only [valS, valF, pwI]
    grind
  have z2 := hz 2
  have z3 := hz 3
  have z4 := hz 4
  rcases (show pw = 2 ∨ pw = 3 ∨ pw = 4 ∨ pw = 5 by omega) with rfl | rfl | rfl | rfl
  · rw [← e]
    simp only [valS]
    rw [z2 (by omega), z3 (by omega), z4 (by omega)]
    omega
  · rw [← e]
    simp only [valS]
    rw [z3 (by omega), z4 (by omega)]
    omega
  · rw [← e]
    simp only [valS]
    rw [z4 (by omega)]
    omega
  · exact e
theorem valF_b {P : Nat → Int} (h : WfP P) {x : Int} (hx : -20 ≤ x ∧ x ≤ 20) : -122523030 ≤ valF P x 5 ∧ valF P x 5 ≤ 122523030 := by
  have := valP_b h hx 5 (Nat.le_refl _)
  omega

def WclR (S : Nat → Int) (n : Nat) (l : Nat → Nat → Int) (ov hc a1 b1 s1 z : Int) : Prop := (ov = 1 ∧ z = 1) ∨ (ov = 0 ∧ hc = 1 ∧ z = 2) ∨ (ov = 0 ∧ hc = 0 ∧ n = 4 ∧ z = 3) ∨ (ov = 0 ∧ hc = 0 ∧ n ≠ 4 ∧ (∃ j, j < n ∧ a1 < l j 1 ∧ l j 0 < b1) ∧ z = 4) ∨ (ov = 0 ∧ hc = 0 ∧ n ≠ 4 ∧ (¬ ∃ j, j < n ∧ a1 < l j 1 ∧ l j 0 < b1) ∧ S 6 < s1 + stakesF l n ∧ z = 5) ∨ (ov = 0 ∧ hc = 0 ∧ n ≠ 4 ∧ (¬ ∃ j, j < n ∧ a1 < l j 1 ∧ l j 0 < b1) ∧ s1 + stakesF l n ≤ S 6 ∧ z = 0)
set_option maxRecDepth 100000 in
theorem sp_X6_whyClaim {g : GG} {lay : Lay} {M : Mem} {K : KK} {c pw : Nat} {S P La : Nat → Int} {tn : Nat} {hp hc ov bt : Int} {kk : Nat → Nat} {ll : Nat → Nat → Nat → Int} {q : Nat} {a1 b1 sk : Int} (hQ : LcQ g lay M c pw S P La tn hp hc ov bt) (hW : LcW pw S P La tn hp hc ov bt) (hJ : JcP g lay M) (hL : LcL g lay M c kk ll) (hq : KN lay q (0, 5, fun _ => none)) (hqc : c < q) (f0 : M q 0 = a1) (f1 : M q 1 = b1) (f4 : M q 4 = sk) (hab : -20 ≤ a1 ∧ a1 < b1 ∧ b1 ≤ 20) (hs1 : 1 ≤ sk ∧ sk ≤ 9) (k : ∀ z lay2 M2, Ext lay lay2 → Kp lay.2 M M2 → WclR S (kk (tn % 2)) (ll (tn % 2)) ov hc a1 b1 sk z → K (.inl (some (vI z))) lay2 M2) : X g m_X6_whyClaim 0 0 lay M 0 [(0, vR c), (1, vR q)] [] K := by
  obtain ⟨⟨hk, hco, hla, wc⟩, ⟨r0, r1, r2⟩, vP, vL, vS, q9, q10, q11, q12, q13⟩ := id hQ
  obtain ⟨w1, ⟨-, s1, s2, s3, s4, s5, s6⟩, wP, wL, w2, w3, w4, w5, w6⟩ := id hW
  obtain ⟨y3, y4, y5, y6, y7, y8⟩ := S1 vS
  obtain ⟨el, hout, ho1, hin, -, hx9⟩ := id hL
  have hp2 : tn % 2 < 2 := Nat.mod_lt _ (by decide)
  obtain ⟨hl, hn4, hcl⟩ := hin (tn % 2) hp2
  obtain ⟨p9, hp9⟩ : ∃ p9, p9 = tn % 2 := ⟨_, rfl⟩
  rw [← hp9] at hl hn4 hcl hp2 k
  have g5 := hJ.2.2.1.2
  have rest : ∀ (a : Nat) (lay2 : Lay) (M2 : Mem), lay.2 = a → Ext lay lay2 → Kp lay.2 M M2 → ItP g lay2 M2 a (c + 5 + 2 * p9) (kk p9) 0 → LsP g lay2 M2 (c + 5 + 2 * p9) (kk p9) (el p9) → X g m_X6_whyClaim 1 4 lay2 M2 29 [(5, vR a), (4, vI 0), (3, vI sk), (2, vR (c + 5 + 2 * p9)), (0, vR c), (1, vR q)] [] K := by
    intro a lay2 M2 ea E hp hI hl2
    have hQ2 := hQ.ext E (fun y i y1 y2 => hp y i (by have := hla.2; omega))
    have lq := hq.2
    have hq := hq.ext E
    have f0 := (hp q 0 lq).trans f0
    have f1 := (hp q 1 lq).trans f1
    have f4 := (hp q 4 lq).trans f4
    have hcl2 : ∀ i, i < kk p9 → KN lay2 (el p9 i) (0, 5, fun _ => none) ∧ el p9 i < a ∧ (∀ f, f < 5 → M2 (el p9 i) f = ll p9 i f) ∧ WfL 100 (ll p9 i) := fun i hi => by
      obtain ⟨k1, k2, k3, k4⟩ := hcl i hi
      exact ⟨k1.ext E, by have := k1.2; omega, fun f hf => (hp _ _ k1.2).trans (k3 f hf), k4⟩
    obtain ⟨⟨hk, hco, hla, wc⟩, ⟨r0, r1, r2⟩, vP, vL, vS, q9, q10, q11, q12, q13⟩ := id hQ2
    obtain ⟨y3, y4, y5, y6, y7, y8⟩ := S1 vS
    have lc : c < a := by
      have := hout.1.2
      omega
    have st : ∀ i, i ≤ kk p9 → 0 ≤ stakesF (ll p9) i ∧ stakesF (ll p9) i ≤ 9 * i := by
      intro i
      induction i with
      | zero => intro _; exact ⟨Int.le_refl _, Int.le_refl _⟩
      | succ i ih =>
        intro hi
        obtain ⟨-, -, -, k4⟩ := hcl i (by omega)
        have := ih (by omega)
        unfold WfL at k4
        show 0 ≤ stakesF (ll p9) i + ll p9 i 4 ∧ stakesF (ll p9) i + ll p9 i 4 ≤ _
        omega
    have loop : ∀ d i : Nat, i + d = kk p9 → ∀ (M3 : Mem) (ovl : Int), (∀ y j, y ≠ a → M3 y j = M2 y j) → ItP g lay2 M3 a (c + 5 + 2 * p9) (kk p9) i → (ovl = 1 ∧ (∃ j, j < i ∧ a1 < ll p9 j 1 ∧ ll p9 j 0 < b1) ∨ ovl = 0 ∧ ¬ ∃ j, j < i ∧ a1 < ll p9 j 1 ∧ ll p9 j 0 < b1) → X g m_X6_whyClaim 1 4 lay2 M3 29 [(5, vR a), (4, vI ovl), (3, vI (sk + stakesF (ll p9) i)), (2, vR (c + 5 + 2 * p9)), (0, vR c), (1, vR q)] [] K := by
      intro d
      induction d with
      | zero =>
        intro i hi M3 ovl hM hI hov
        have ei : i = kk p9 := by omega
        subst ei
        have hl3 := hl2.ext (M2 := M3) Ext.rf (fun j => hM _ _ (by have := hl.1.2; omega)) (fun x j z1 z2 => hM _ _ (by
          intro e9
          exact (hl2.ar z1 z2 g5).ne hI.1 (Or.inl (show (8 : Nat) ≠ 0 by decide)) e9))
        have hia := hI.1
        have e12 := hM c 12 (by omega)
        have e11 := hM c 11 (by omega)
        have e8 := hM c 8 (by omega)
        have stk := st _ (Nat.le_refl _)
        have fin : Kp lay.2 M M3 := fun y j hy => (hM y j (by omega)).trans (hp y j hy)
        refine x_aload (pc := 29) dX6_whyClaim_29 rfl ?_
        refine x_callF (pc := 31) kfX6_86 StJ.it_hasNext dX6_whyClaim_31 hia.1 (by decide) (Nat.le_of_ble_eq_true rfl) (Nat.le_of_ble_eq_true rfl) (by decide) ?_
        refine sp_It_hasNext hI hl3 ?_
        rw [if_pos rfl]
        refine ⟨_, rfl, ?_⟩
        refine x_if_eq (pc := 36) (t := 99) dX6_whyClaim_36 (by decide) ⟨by omega, by omega⟩ (fun c36 => ?_) (fun c36 => ?_)
        · refine x_aload_n (pc := 99) dX6_whyClaim_99 rfl rfl ?_
          refine x_getz (pc := 100) fX6_52 dX6_whyClaim_100 hk.1 rfl (fun r100a r100b => ?_)
          refine x_if_eq (pc := 103) (t := 110) dX6_whyClaim_103 (by decide) ⟨by omega, by omega⟩ (fun c103 => ?_) (fun c103 => ?_)
          · refine x_aload_n (pc := 110) dX6_whyClaim_110 rfl rfl ?_
            refine x_getz (pc := 111) fX6_109 dX6_whyClaim_111 hk.1 rfl (fun r111a r111b => ?_)
            refine x_if_eq (pc := 114) (t := 121) dX6_whyClaim_114 (by decide) ⟨by omega, by omega⟩ (fun c114 => ?_) (fun c114 => ?_)
            · refine x_aload_n (pc := 121) dX6_whyClaim_121 rfl rfl ?_
              refine x_callV (pc := 122) [] rfl kX6_112 dX6_whyClaim_122 hl3.1.1 rfl rfl (by decide) (Nat.le_of_ble_eq_true rfl) (Nat.le_of_ble_eq_true rfl) (by decide) ?_
              refine sp_Ls_size hl3 ?_
              refine ⟨_, rfl, ?_⟩
              refine x_iconst (pc := 125) dX6_whyClaim_125 ?_
              refine x_icmp_ne (pc := 126) (t := 133) dX6_whyClaim_126 (by decide) ⟨by omega, by omega⟩ ⟨by omega, by omega⟩ (fun c126 => ?_) (fun c126 => ?_)
              · refine x_iload (pc := 133) dX6_whyClaim_133 rfl ?_
                refine x_if_eq (pc := 135) (t := 142) dX6_whyClaim_135 (by decide) ⟨by omega, by omega⟩ (fun c135 => ?_) (fun c135 => ?_)
                · refine x_iload_n (pc := 142) dX6_whyClaim_142 rfl rfl ?_
                  refine x_aload_n (pc := 143) dX6_whyClaim_143 rfl rfl ?_
                  refine x_geti (pc := 144) fX6_42 dX6_whyClaim_144 hk.1 rfl (fun r144a r144b => ?_)
                  refine x_icmp_le (pc := 147) (t := 154) dX6_whyClaim_147 (by decide) ⟨by omega, by omega⟩ ⟨by omega, by omega⟩ (fun c147 => ?_) (fun c147 => ?_)
                  · refine x_iconst (pc := 154) dX6_whyClaim_154 ?_
                    refine x_iret (pc := 155) dX6_whyClaim_155 rfl (by decide) (by decide) ?_
                    first
                    | exact k _ _ _ E fin (Or.inl ⟨by omega, rfl⟩)
                    | exact k _ _ _ E fin (Or.inr (Or.inl ⟨by omega, by omega, rfl⟩))
                    | exact k _ _ _ E fin (Or.inr (Or.inr (Or.inl ⟨by omega, by omega, by omega, rfl⟩)))
                    | exact k _ _ _ E fin (Or.inr (Or.inr (Or.inr (Or.inl ⟨by omega, by omega, by omega, (hov.resolve_right (fun h => by omega)).2, rfl⟩))))
                    | exact k _ _ _ E fin (Or.inr (Or.inr (Or.inr (Or.inr (Or.inl ⟨by omega, by omega, by omega, (hov.resolve_left (fun h => by omega)).2, by omega, rfl⟩)))))
                    | exact k _ _ _ E fin (Or.inr (Or.inr (Or.inr (Or.inr (Or.inr ⟨by omega, by omega, by omega, (hov.resolve_left (fun h => by omega)).2, by omega, rfl⟩)))))
                  · refine x_iconst (pc := 150) dX6_whyClaim_150 ?_
                    refine x_goto (pc := 151) (t := 155) dX6_whyClaim_151 (by decide) ?_
                    refine x_iret (pc := 155) dX6_whyClaim_155 rfl (by decide) (by decide) ?_
                    first
                    | exact k _ _ _ E fin (Or.inl ⟨by omega, rfl⟩)
                    | exact k _ _ _ E fin (Or.inr (Or.inl ⟨by omega, by omega, rfl⟩))
                    | exact k _ _ _ E fin (Or.inr (Or.inr (Or.inl ⟨by omega, by omega, by omega, rfl⟩)))
                    | exact k _ _ _ E fin (Or.inr (Or.inr (Or.inr (Or.inl ⟨by omega, by omega, by omega, (hov.resolve_right (fun h => by omega)).2, rfl⟩))))
                    | exact k _ _ _ E fin (Or.inr (Or.inr (Or.inr (Or.inr (Or.inl ⟨by omega, by omega, by omega, (hov.resolve_left (fun h => by omega)).2, by omega, rfl⟩)))))
                    | exact k _ _ _ E fin (Or.inr (Or.inr (Or.inr (Or.inr (Or.inr ⟨by omega, by omega, by omega, (hov.resolve_left (fun h => by omega)).2, by omega, rfl⟩)))))
                · refine x_iconst (pc := 138) dX6_whyClaim_138 ?_
                  refine x_goto (pc := 139) (t := 155) dX6_whyClaim_139 (by decide) ?_
                  refine x_iret (pc := 155) dX6_whyClaim_155 rfl (by decide) (by decide) ?_
                  first
                  | exact k _ _ _ E fin (Or.inl ⟨by omega, rfl⟩)
                  | exact k _ _ _ E fin (Or.inr (Or.inl ⟨by omega, by omega, rfl⟩))
                  | exact k _ _ _ E fin (Or.inr (Or.inr (Or.inl ⟨by omega, by omega, by omega, rfl⟩)))
                  | exact k _ _ _ E fin (Or.inr (Or.inr (Or.inr (Or.inl ⟨by omega, by omega, by omega, (hov.resolve_right (fun h => by omega)).2, rfl⟩))))
                  | exact k _ _ _ E fin (Or.inr (Or.inr (Or.inr (Or.inr (Or.inl ⟨by omega, by omega, by omega, (hov.resolve_left (fun h => by omega)).2, by omega, rfl⟩)))))
                  | exact k _ _ _ E fin (Or.inr (Or.inr (Or.inr (Or.inr (Or.inr ⟨by omega, by omega, by omega, (hov.resolve_left (fun h => by omega)).2, by omega, rfl⟩)))))
              · refine x_iconst (pc := 129) dX6_whyClaim_129 ?_
                refine x_goto (pc := 130) (t := 155) dX6_whyClaim_130 (by decide) ?_
                refine x_iret (pc := 155) dX6_whyClaim_155 rfl (by decide) (by decide) ?_
                first
                | exact k _ _ _ E fin (Or.inl ⟨by omega, rfl⟩)
                | exact k _ _ _ E fin (Or.inr (Or.inl ⟨by omega, by omega, rfl⟩))
                | exact k _ _ _ E fin (Or.inr (Or.inr (Or.inl ⟨by omega, by omega, by omega, rfl⟩)))
                | exact k _ _ _ E fin (Or.inr (Or.inr (Or.inr (Or.inl ⟨by omega, by omega, by omega, (hov.resolve_right (fun h => by omega)).2, rfl⟩))))
                | exact k _ _ _ E fin (Or.inr (Or.inr (Or.inr (Or.inr (Or.inl ⟨by omega, by omega, by omega, (hov.resolve_left (fun h => by omega)).2, by omega, rfl⟩)))))
                | exact k _ _ _ E fin (Or.inr (Or.inr (Or.inr (Or.inr (Or.inr ⟨by omega, by omega, by omega, (hov.resolve_left (fun h => by omega)).2, by omega, rfl⟩)))))
            · refine x_iconst (pc := 117) dX6_whyClaim_117 ?_
              refine x_goto (pc := 118) (t := 155) dX6_whyClaim_118 (by decide) ?_
              refine x_iret (pc := 155) dX6_whyClaim_155 rfl (by decide) (by decide) ?_
              first
              | exact k _ _ _ E fin (Or.inl ⟨by omega, rfl⟩)
              | exact k _ _ _ E fin (Or.inr (Or.inl ⟨by omega, by omega, rfl⟩))
              | exact k _ _ _ E fin (Or.inr (Or.inr (Or.inl ⟨by omega, by omega, by omega, rfl⟩)))
              | exact k _ _ _ E fin (Or.inr (Or.inr (Or.inr (Or.inl ⟨by omega, by omega, by omega, (hov.resolve_right (fun h => by omega)).2, rfl⟩))))
              | exact k _ _ _ E fin (Or.inr (Or.inr (Or.inr (Or.inr (Or.inl ⟨by omega, by omega, by omega, (hov.resolve_left (fun h => by omega)).2, by omega, rfl⟩)))))
              | exact k _ _ _ E fin (Or.inr (Or.inr (Or.inr (Or.inr (Or.inr ⟨by omega, by omega, by omega, (hov.resolve_left (fun h => by omega)).2, by omega, rfl⟩)))))
          · refine x_iconst (pc := 106) dX6_whyClaim_106 ?_
            refine x_goto (pc := 107) (t := 155) dX6_whyClaim_107 (by decide) ?_
            refine x_iret (pc := 155) dX6_whyClaim_155 rfl (by decide) (by decide) ?_
            first
            | exact k _ _ _ E fin (Or.inl ⟨by omega, rfl⟩)
            | exact k _ _ _ E fin (Or.inr (Or.inl ⟨by omega, by omega, rfl⟩))
            | exact k _ _ _ E fin (Or.inr (Or.inr (Or.inl ⟨by omega, by omega, by omega, rfl⟩)))
            | exact k _ _ _ E fin (Or.inr (Or.inr (Or.inr (Or.inl ⟨by omega, by omega, by omega, (hov.resolve_right (fun h => by omega)).2, rfl⟩))))
            | exact k _ _ _ E fin (Or.inr (Or.inr (Or.inr (Or.inr (Or.inl ⟨by omega, by omega, by omega, (hov.resolve_left (fun h => by omega)).2, by omega, rfl⟩)))))
            | exact k _ _ _ E fin (Or.inr (Or.inr (Or.inr (Or.inr (Or.inr ⟨by omega, by omega, by omega, (hov.resolve_left (fun h => by omega)).2, by omega, rfl⟩)))))
        · exfalso; omega
      | succ d ih =>
        intro i hi M3 ovl hM hI hov
        have hl3 := hl2.ext (M2 := M3) Ext.rf (fun j => hM _ _ (by have := hl.1.2; omega)) (fun x j z1 z2 => hM _ _ (by
          intro e9
          exact (hl2.ar z1 z2 g5).ne hI.1 (Or.inl (show (8 : Nat) ≠ 0 by decide)) e9))
        have hia := hI.1
        obtain ⟨k1, k2, k3, k4⟩ := hcl2 i (by omega)
        have v0 := k3 0 (by decide)
        have v1 := k3 1 (by decide)
        have v4 := k3 4 (by decide)
        unfold WfL at k4
        have stk := st i (by omega)
        refine x_aload (pc := 29) dX6_whyClaim_29 rfl ?_
        refine x_callF (pc := 31) kfX6_86 StJ.it_hasNext dX6_whyClaim_31 hia.1 (by decide) (Nat.le_of_ble_eq_true rfl) (Nat.le_of_ble_eq_true rfl) (by decide) ?_
        refine sp_It_hasNext hI hl3 ?_
        rw [if_neg (by omega)]
        refine ⟨_, rfl, ?_⟩
        refine x_if_eq (pc := 36) (t := 99) dX6_whyClaim_36 (by decide) ⟨by omega, by omega⟩ (fun c36 => ?_) (fun c36 => ?_)
        · exfalso; omega
        · refine x_aload (pc := 39) dX6_whyClaim_39 rfl ?_
          refine x_callF (pc := 41) kfX6_92 StJ.it_next dX6_whyClaim_41 hia.1 (by decide) (Nat.le_of_ble_eq_true rfl) (Nat.le_of_ble_eq_true rfl) (by decide) ?_
          refine sp_It_next hI hl3 (by omega) (fun M4 p4 hI4 => ?_)
          have w0 := (p4 (el p9 i) 0 (by omega)).trans (hM (el p9 i) 0 (by omega))
          have w1 := (p4 (el p9 i) 1 (by omega)).trans (hM (el p9 i) 1 (by omega))
          have w4 := (p4 (el p9 i) 4 (by omega)).trans (hM (el p9 i) 4 (by omega))
          have u0 := (p4 q 0 (by omega)).trans (hM q 0 (by omega))
          have u1 := (p4 q 1 (by omega)).trans (hM q 1 (by omega))
          refine ⟨_, rfl, ?_⟩
          refine x_castC (pc := 46) clX6_78 dX6_whyClaim_46 k1.1 rfl ?_
          refine x_astore (pc := 49) dX6_whyClaim_49 trivial (by decide) (L' := [(6, _), (5, _), (4, _), (3, _), (2, _), (0, _), (1, _)]) rfl ?_
          refine x_iload_n (pc := 51) dX6_whyClaim_51 rfl rfl ?_
          refine x_aload (pc := 52) dX6_whyClaim_52 rfl ?_
          refine x_getiN (pc := 54) frX6_77 dX6_whyClaim_54 k1.1 rfl (fun r54a r54b => ?_)
          rw [w4, v4]
          refine x_iadd (pc := 57) dX6_whyClaim_57 ?_
          refine x_istore_n (pc := 58) dX6_whyClaim_58 rfl (by decide) (L' := [(3, _), (6, _), (5, _), (4, _), (2, _), (0, _), (1, _)]) rfl ?_
          refine x_iload (pc := 59) dX6_whyClaim_59 rfl ?_
          refine x_aload (pc := 61) dX6_whyClaim_61 rfl ?_
          refine x_getiN (pc := 63) frX6_96 dX6_whyClaim_63 k1.1 rfl (fun r63a r63b => ?_)
          refine x_aload_n (pc := 66) dX6_whyClaim_66 rfl rfl ?_
          refine x_getiN (pc := 67) frX6_96 dX6_whyClaim_67 hq.1 rfl (fun r67a r67b => ?_)
          rw [w0, v0, u0, f0]
          refine x_mmax (pc := 70) kmX6_99 dX6_whyClaim_70 ⟨by omega, by omega⟩ ⟨by omega, by omega⟩ (Nat.le_of_ble_eq_true rfl) (by decide) (by decide) (by decide) ?_
          refine x_aload (pc := 73) dX6_whyClaim_73 rfl ?_
          refine x_getiN (pc := 75) frX6_103 dX6_whyClaim_75 k1.1 rfl (fun r75a r75b => ?_)
          refine x_aload_n (pc := 78) dX6_whyClaim_78 rfl rfl ?_
          refine x_getiN (pc := 79) frX6_103 dX6_whyClaim_79 hq.1 rfl (fun r79a r79b => ?_)
          rw [w1, v1, u1, f1]
          refine x_mmin (pc := 82) kmX6_106 dX6_whyClaim_82 ⟨by omega, by omega⟩ ⟨by omega, by omega⟩ (Nat.le_of_ble_eq_true rfl) (by decide) (by decide) (by decide) ?_
          obtain ⟨mx, hmx, hmx2⟩ : ∃ mx, mx = (if ll p9 i 0 < a1 then a1 else ll p9 i 0) ∧ ((ll p9 i 0 ≤ mx ∧ a1 ≤ mx ∧ (mx = a1 ∨ mx = ll p9 i 0))) := ⟨_, rfl, by split <;> omega⟩
          obtain ⟨mn, hmn, hmn2⟩ : ∃ mn, mn = (if b1 < ll p9 i 1 then b1 else ll p9 i 1) ∧ ((mn ≤ ll p9 i 1 ∧ mn ≤ b1 ∧ (mn = b1 ∨ mn = ll p9 i 1))) := ⟨_, rfl, by split <;> omega⟩
          rw [← hmx, ← hmn]
          refine x_icmp_ge (pc := 85) (t := 92) dX6_whyClaim_85 (by decide) ⟨by omega, by omega⟩ ⟨by omega, by omega⟩ (fun c85 => ?_) (fun c85 => ?_)
          · refine x_iconst (pc := 92) dX6_whyClaim_92 ?_
            refine x_iorz (pc := 93) ⟨by omega, by omega⟩ ⟨by omega, by omega⟩ dX6_whyClaim_93 ?_
            refine x_istore (pc := 94) dX6_whyClaim_94 trivial (by decide) (L' := [(4, _), (3, _), (6, _), (5, _), (2, _), (0, _), (1, _)]) rfl ?_
            refine x_goto (pc := 96) (t := 29) dX6_whyClaim_96 (by decide) ?_
            refine X.loc [3, 0, 1, 4, 5, 6] (L' := [(5, _), (4, _), (3, _), (2, _), (0, _), (1, _)]) rfl ?_
            rw [show sk + stakesF (ll p9) i + ll p9 i 4 = sk + stakesF (ll p9) (i + 1) from Int.add_assoc _ _ _]
            refine ih (i + 1) (by omega) M4 _ (fun y j hy => (p4 y j hy).trans (hM y j hy)) hI4 ?_
            rcases hov with ⟨h1, j, hj, h2⟩ | ⟨h1, h2⟩
            · exact Or.inl ⟨by rw [if_pos (by omega)], j, by omega, h2⟩
            · by_cases c9 : a1 < ll p9 i 1 ∧ ll p9 i 0 < b1
              · exact Or.inl ⟨by rw [if_pos (by omega)], i, by omega, c9⟩
              · refine Or.inr ⟨by rw [if_neg (by omega)], fun ⟨j, hj, h3⟩ => ?_⟩
                by_cases c8 : j = i
                · subst c8
                  exact c9 h3
                · exact h2 ⟨j, by omega, h3⟩
          · refine x_iconst (pc := 88) dX6_whyClaim_88 ?_
            refine x_goto (pc := 89) (t := 93) dX6_whyClaim_89 (by decide) ?_
            refine x_iorz (pc := 93) ⟨by omega, by omega⟩ ⟨by omega, by omega⟩ dX6_whyClaim_93 ?_
            refine x_istore (pc := 94) dX6_whyClaim_94 trivial (by decide) (L' := [(4, _), (3, _), (6, _), (5, _), (2, _), (0, _), (1, _)]) rfl ?_
            refine x_goto (pc := 96) (t := 29) dX6_whyClaim_96 (by decide) ?_
            refine X.loc [3, 0, 1, 4, 5, 6] (L' := [(5, _), (4, _), (3, _), (2, _), (0, _), (1, _)]) rfl ?_
            rw [show sk + stakesF (ll p9) i + ll p9 i 4 = sk + stakesF (ll p9) (i + 1) from Int.add_assoc _ _ _]
            refine ih (i + 1) (by omega) M4 _ (fun y j hy => (p4 y j hy).trans (hM y j hy)) hI4 ?_
            rcases hov with ⟨h1, j, hj, h2⟩ | ⟨h1, h2⟩
            · exact Or.inl ⟨by rw [if_pos (by omega)], j, by omega, h2⟩
            · by_cases c9 : a1 < ll p9 i 1 ∧ ll p9 i 0 < b1
              · exact Or.inl ⟨by rw [if_pos (by omega)], i, by omega, c9⟩
              · refine Or.inr ⟨by rw [if_neg (by omega)], fun ⟨j, hj, h3⟩ => ?_⟩
                by_cases c8 : j = i
                · subst c8
                  exact c9 h3
                · exact h2 ⟨j, by omega, h3⟩
    have l0 := loop (kk p9) 0 (by omega) M2 0 (fun _ _ _ => rfl) hI (Or.inr ⟨rfl, fun ⟨j, hj, _⟩ => absurd hj (by omega)⟩)
    rw [show sk + stakesF (ll p9) 0 = sk from Int.add_zero _] at l0
    exact l0
  refine x_aload_n (pc := 0) dX6_whyClaim_0 rfl rfl ?_
  refine x_getrM (pc := 1) (b := (c + 2)) fX6_10 dX6_whyClaim_1 hk.1 rfl r2 rfl ?_
  refine x_aload_n (pc := 4) dX6_whyClaim_4 rfl rfl ?_
  refine x_callV (pc := 5) [] rfl kX6_69 dX6_whyClaim_5 hk.1 rfl rfl (by decide) (Nat.le_of_ble_eq_true rfl) (Nat.le_of_ble_eq_true rfl) (by decide) ?_
  refine sp_X6_whose hQ hW ?_
  rw [← hp9]
  refine ⟨_, rfl, ?_⟩
  refine x_callV (pc := 8) [_] rfl kX6_73 dX6_whyClaim_8 hout.1.1 rfl rfl (by decide) (Nat.le_of_ble_eq_true rfl) (Nat.le_of_ble_eq_true rfl) (by decide) ?_
  refine sp_Ls_get hout hp2 ?_
  refine ⟨_, rfl, ?_⟩
  refine x_castC (pc := 11) clX6_7 dX6_whyClaim_11 hl.1.1 rfl ?_
  refine x_astore_n (pc := 14) dX6_whyClaim_14 rfl (by decide) (L' := [(2, _), (0, _), (1, _)]) rfl ?_
  refine x_aload_n (pc := 15) dX6_whyClaim_15 rfl rfl ?_
  refine x_getiN (pc := 16) frX6_77 dX6_whyClaim_16 hq.1 rfl (fun r16a r16b => ?_)
  rw [f4]
  refine x_istore_n (pc := 19) dX6_whyClaim_19 rfl (by decide) (L' := [(3, _), (2, _), (0, _), (1, _)]) rfl ?_
  refine x_iconst (pc := 20) dX6_whyClaim_20 ?_
  refine x_istore (pc := 21) dX6_whyClaim_21 trivial (by decide) (L' := [(4, _), (3, _), (2, _), (0, _), (1, _)]) rfl ?_
  refine x_aload_n (pc := 23) dX6_whyClaim_23 rfl rfl ?_
  refine x_callV (pc := 24) [] rfl kX6_82 dX6_whyClaim_24 hl.1.1 rfl rfl (by decide) (Nat.le_of_ble_eq_true rfl) (Nat.le_of_ble_eq_true rfl) (by decide) ?_
  refine sp_Ls_iterator hJ hl (fun a lay2 M2 ea E hp hI hl2 => ?_)
  refine ⟨_, rfl, ?_⟩
  refine x_astore (pc := 27) dX6_whyClaim_27 trivial (by decide) (L' := [(5, _), (4, _), (3, _), (2, _), (0, _), (1, _)]) rfl ?_
  refine X.loc [0, 1, 2, 3, 4, 5] (L' := [(5, _), (4, _), (3, _), (2, _), (0, _), (1, _)]) rfl ?_
  exact rest a lay2 M2 ea E hp hI hl2
set_option maxRecDepth 100000 in
theorem sp_X6_score {g : GG} {lay : Lay} {M : Mem} {K : KK} {c b pw : Nat} {P La : Nat → Int} {T : CT} {tn pl : Nat} {hp hc ov : Int} (gB : GoodB) (hQ : LcQ g lay M c pw (tS T) (tP T) La tn hp hc ov (tB T)) (hW : LcW pw (tS T) (tP T) La tn hp hc ov (tB T)) (hpw : (pw : Int) = tS T 0) (hPz : ∀ j, pw ≤ j → tP T j = 0) (hJ : JcP g lay M) (hL : LcL g lay M c (tK T) (tL T)) (hD : Ds g lay M b T) (hbc : b + 32 ≤ c) (hpl : pl < 2) (k : ∀ lay2 M2, Ext lay lay2 → (∀ y i, y < lay.2 → ¬ (b + 8 ≤ y ∧ y < b + 15 ∨ b + 16 ≤ y ∧ y < b + 25 ∨ y = b + 31) → M2 y i = M y i) → Ds g lay2 M2 b T → K (.inl (some (vI (scoreF T (buildF (tP T)) pl)))) lay2 M2) : X g m_X6_score 0 0 lay M 0 [(0, vR c), (1, vR b), (2, vI (pl : Nat))] [] K := by
  obtain ⟨⟨hk, hco, hla, wc⟩, ⟨r0, r1, r2⟩, vP, vL, vS, q9, q10, q11, q12, q13⟩ := id hQ
  obtain ⟨w1, ⟨-, s1, s2, s3, s4, s5, s6⟩, wP, wL, w2, w3, w4, w5, w6⟩ := id hW
  obtain ⟨y3, y4, y5, y6, y7, y8⟩ := S1 vS
  obtain ⟨el, hout, ho1, hin, -, hx9⟩ := id hL
  obtain ⟨hl, hn4, hcl⟩ := hin pl hpl
  have g5 := hJ.2.2.1.2
  have hWfT := hD.2.2.2.2
  have hWP : WfP (tP T) := hWfT.2.1
  have hbw := hD.2.1
  have bn0 : bonusF T (pl : Nat) = (if tB T = (pl : Nat) then tS T 5 else 0) := rfl
  have bnr : 0 ≤ bonusF T (pl : Nat) ∧ bonusF T (pl : Nat) ≤ 20 := by
    rw [bn0]
    split <;> omega
  have vv : ∀ x : Int, -20 ≤ x → x ≤ 20 → valS (tP T) x pw = valF (tP T) x 5 ∧ (-122523030 ≤ valF (tP T) x 5 ∧ valF (tP T) x 5 ≤ 122523030) := fun x x0 x1 => ⟨valS_F hWP w1 hPz x, valF_b hWP ⟨x0, x1⟩⟩
  have cr := claimPt_rng (buildF (tP T)) (tL T pl) (tK T pl) (fun i hi => by
    obtain ⟨-, -, -, k4⟩ := hcl i hi
    unfold WfL at k4
    omega)
  -- the claims
  have rest : ∀ (a : Nat) (lay2 : Lay) (M2 : Mem) (sum : Int), lay.2 = a → Ext lay lay2 → Kp lay.2 M M2 → ItP g lay2 M2 a (c + 5 + 2 * pl) (tK T pl) 0 → LsP g lay2 M2 (c + 5 + 2 * pl) (tK T pl) (el pl) → sum = signF T pl + bonusF T (pl : Nat) → X g m_X6_score 1 4 lay2 M2 94 [(4, vR a), (3, vI sum), (0, vR c), (1, vR b), (2, vI (pl : Nat))] [] K := by
    intro a lay2 M2 sum ea E hp hI hl2 hsum
    have sr : 0 ≤ sum ∧ sum ≤ 100 := by
      have := signPt_rng (tP T) (wantF pl) (-(tS T 3)) (2 * (tS T 3).toNat + 1)
      unfold signF at hsum
      omega
    have hD2 : Ds g lay2 M2 b T := hD.ext E (fun y i y1 y2 => hp y i (by have := hD.2.2.1; omega))
    have hcl2 : ∀ i, i < tK T pl → KN lay2 (el pl i) (0, 5, fun _ => none) ∧ el pl i < a ∧ c + 8 ≤ el pl i ∧ (∀ f, f < 5 → M2 (el pl i) f = tL T pl i f) ∧ WfL 100 (tL T pl i) := fun i hi => by
      obtain ⟨k1, k2, k3, k4⟩ := hcl i hi
      exact ⟨k1.ext E, by have := k1.2; omega, k2, fun f hf => (hp _ _ k1.2).trans (k3 f hf), k4⟩
    have lb : b + 32 ≤ a := by have := hD.2.2.1; omega
    have ll9 := hl.1.2
    have hI0 := hI
    have loop : ∀ d i : Nat, i + d = tK T pl → ∀ (lay3 : Lay) (M3 : Mem) (cn ck : Nat), cn ≤ 1 + i → ck ≤ 4 + 6 * i → Ext lay2 lay3 → (∀ y j, y ≠ a → ¬ (b + 8 ≤ y ∧ y < b + 15 ∨ b + 16 ≤ y ∧ y < b + 25 ∨ y = b + 31) → y < lay2.2 → M3 y j = M2 y j) → Ds g lay3 M3 b T → ItP g lay3 M3 a (c + 5 + 2 * pl) (tK T pl) i → X g m_X6_score cn ck lay3 M3 94 [(4, vR a), (3, vI (sum + claimPt (buildF (tP T)) (tL T pl) i)), (0, vR c), (1, vR b), (2, vI (pl : Nat))] [] K := by
      intro d
      induction d with
      | zero =>
        intro i hi lay3 M3 cn ck hcn hck E3 hM hD3 hI
        have ei : i = tK T pl := by omega
        subst ei
        have hl3 := hl2.ext (M2 := M3) E3 (fun j => hM _ _ (by omega) (by omega) hl2.1.2) (fun x j z1 z2 => hM _ _ (fun e9 => (hl2.ar z1 z2 g5).ne hI0.1 (Or.inl (show (8 : Nat) ≠ 0 by decide)) e9) (by have := hx9 pl hpl x ((hp _ _ ll9).symm.trans z1) z2; omega) (hl2.ar z1 z2 g5).2)
        have hia := hI.1
        have cr9 := cr _ (Nat.le_refl _)
        refine x_aload (pc := 94) dX6_score_94 rfl ?_
        refine x_callF (pc := 96) kfX6_86 StJ.it_hasNext dX6_score_96 hia.1 (by decide) (Nat.le_of_ble_eq_true rfl) (Nat.le_of_ble_eq_true rfl) (show _ + 0 ≤ 5 ∧ _ + 0 ≤ 28 by omega) ?_
        refine sp_It_hasNext hI hl3 ?_
        rw [if_pos rfl]
        refine ⟨_, rfl, ?_⟩
        refine X.cs (cn' := cn) (ck' := ck) ?_ (Nat.le_refl _) (Nat.le_refl _)
        refine x_if_eq (pc := 101) (t := 200) dX6_score_101 (by decide) ⟨by omega, by omega⟩ (fun c101 => ?_) (fun c101 => ?_)
        · refine x_iload_n (pc := 200) dX6_score_200 rfl rfl ?_
          refine X.cs (cn' := 5) (ck' := 28) ?_ (by omega) (by omega)
          refine x_iret (pc := 201) dX6_score_201 rfl (by decide) (by decide) ?_
          refine kI (k lay3 M3 (E.tr E3) (fun y j h1 h2 => ?_) hD3) ?_
          · exact (hM y j (by omega) h2 (by have := E.1; omega)).trans (hp y j h1)
          · show signF T pl + claimPt (buildF (tP T)) (tL T pl) (tK T pl) + bonusF T (pl : Nat) = sum + _
            omega
        · exfalso; omega
      | succ d ih =>
        intro i hi lay3 M3 cn ck hcn hck E3 hM hD3 hI
        have hl3 := hl2.ext (M2 := M3) E3 (fun j => hM _ _ (by omega) (by omega) hl2.1.2) (fun x j z1 z2 => hM _ _ (fun e9 => (hl2.ar z1 z2 g5).ne hI0.1 (Or.inl (show (8 : Nat) ≠ 0 by decide)) e9) (by have := hx9 pl hpl x ((hp _ _ ll9).symm.trans z1) z2; omega) (hl2.ar z1 z2 g5).2)
        have hia := hI.1
        obtain ⟨k1, k2, k5, k3, k4⟩ := hcl2 i (by omega)
        have lk1 := k1.2
        have k1 := k1.ext E3
        have v0 := k3 0 (by decide)
        have v1 := k3 1 (by decide)
        have v2 := k3 2 (by decide)
        have v3 := k3 3 (by decide)
        have v4 := k3 4 (by decide)
        unfold WfL at k4
        have cr9 := cr i (by omega)
        have crs : claimPt (buildF (tP T)) (tL T pl) (i + 1) = claimPt (buildF (tP T)) (tL T pl) i + (if rightP (buildF (tP T)) (tL T pl i) then tL T pl i 4 else - tL T pl i 4) := rfl
        refine x_aload (pc := 94) dX6_score_94 rfl ?_
        refine x_callF (pc := 96) kfX6_86 StJ.it_hasNext dX6_score_96 hia.1 (by decide) (Nat.le_of_ble_eq_true rfl) (Nat.le_of_ble_eq_true rfl) (show _ + 0 ≤ 5 ∧ _ + 0 ≤ 28 by omega) ?_
        refine sp_It_hasNext hI hl3 ?_
        rw [if_neg (by omega)]
        refine ⟨_, rfl, ?_⟩
        refine X.cs (cn' := cn) (ck' := ck) ?_ (Nat.le_refl _) (Nat.le_refl _)
        refine x_if_eq (pc := 101) (t := 200) dX6_score_101 (by decide) ⟨by omega, by omega⟩ (fun c101 => ?_) (fun c101 => ?_)
        · exfalso; omega
        · refine x_aload (pc := 104) dX6_score_104 rfl ?_
          refine x_callF (pc := 106) kfX6_92 StJ.it_next dX6_score_106 hia.1 (by decide) (Nat.le_of_ble_eq_true rfl) (Nat.le_of_ble_eq_true rfl) (show _ + 0 ≤ 5 ∧ _ + 0 ≤ 28 by omega) ?_
          refine sp_It_next hI hl3 (by omega) (fun M4 p4 hI4 => ?_)
          have gg : ∀ f, M4 (el pl i) f = M2 (el pl i) f := fun f => (p4 _ _ (by omega)).trans (hM _ _ (by omega) (by omega) (by have := hcl2; have := ea; have := E.1; omega))
          have w0 := (gg 0).trans v0
          have w1 := (gg 1).trans v1
          have hD4 : Ds g lay3 M4 b T := hD3.ext Ext.rf (fun y j y1 y2 => p4 y j (by omega))
          refine ⟨_, rfl, ?_⟩
          refine X.cs (cn' := cn) (ck' := ck) ?_ (Nat.le_refl _) (Nat.le_refl _)
          refine x_castC (pc := 111) clX6_78 dX6_score_111 k1.1 rfl ?_
          refine x_astore (pc := 114) dX6_score_114 trivial (by decide) (L' := [(5, _), (4, _), (3, _), (0, _), (1, _), (2, _)]) rfl ?_
          refine x_aload_n (pc := 116) dX6_score_116 rfl rfl ?_
          refine x_aload (pc := 117) dX6_score_117 rfl ?_
          refine x_getiN (pc := 119) frX6_96 dX6_score_119 k1.1 rfl (fun r119a r119b => ?_)
          refine x_aload (pc := 122) dX6_score_122 rfl ?_
          rw [w0]
          refine x_getiN (pc := 124) frX6_103 dX6_score_124 k1.1 rfl (fun r124a r124b => ?_)
          rw [w1]
          refine x_callV (pc := 127) [_, _] rfl kX6_122 dX6_score_127 hD4.1.1 rfl rfl (by decide) (Nat.le_of_ble_eq_true rfl) (Nat.le_of_ble_eq_true rfl) (show _ + 1 ≤ 5 ∧ _ + 6 ≤ 28 by omega) ?_
          refine sp_X4_roots gB hD4.1 hbw hD4.2.2.2.1 hWfT ⟨by omega, by omega⟩ ⟨by omega, by omega⟩ (fun M5 n5 hn5 hS5 => ?_)
          rw [show rRoots T (tL T pl i 0) (tL T pl i 1) = oI (dBet (buildF (tP T)) (tL T pl i 0) (tL T pl i 1)) from if_neg (fun h => h ⟨⟨by omega, by omega⟩, ⟨by omega, by omega⟩, by omega⟩)]
          obtain ⟨D, hDe, hDr, hD0⟩ : ∃ D, D = dBet (buildF (tP T)) (tL T pl i 0) (tL T pl i 1) ∧ (-5 ≤ D ∧ D ≤ 5) ∧ (((buildF (tP T)).1 = 0 ∧ D = -1) ∨ ((buildF (tP T)).1 ≠ 0 ∧ D = cUp (buildF (tP T)) (tL T pl i 0) 0 - cUp (buildF (tP T)) (tL T pl i 1) 0)) := ⟨_, rfl, dBet_rng _ _ _ (gB _ hWP).2.1, by
            unfold dBet
            split
            · exact Or.inl ⟨by assumption, rfl⟩
            · exact Or.inr ⟨by assumption, rfl⟩⟩
          rw [← hDe]
          have k1 : KN (lay3.1, n5) (el pl i) (0, 5, fun _ => none) := k1.ext (Ext.up rfl hn5)
          have hg : ∀ f, M5 (el pl i) f = M2 (el pl i) f := fun f => (hS5 _ _ (by omega) (by omega) (by omega)).trans (gg f)
          have g2 := (hg 2).trans v2
          have g3 := (hg 3).trans v3
          have g4 := (hg 4).trans v4
          have hD5 := hD4.scr hn5 hS5
          have hI5 : ItP g (lay3.1, n5) M5 a (c + 5 + 2 * pl) (tK T pl) (i + 1) := hI4.ext (Ext.up rfl hn5) (fun j => hS5 _ _ (by omega) (by omega) (by omega))
          have hM5 : ∀ y j, y ≠ a → ¬ (b + 8 ≤ y ∧ y < b + 15 ∨ b + 16 ≤ y ∧ y < b + 25 ∨ y = b + 31) → y < lay2.2 → M5 y j = M2 y j := fun y j h1 h2 h3 => (hS5 y j (by omega) (by omega) (by omega)).trans ((p4 y j h1).trans (hM y j h1 h2 h3))
          have E5 : Ext lay2 (lay3.1, n5) := E3.tr (Ext.up rfl hn5)
          refine ⟨_, rfl, ?_⟩
          refine X.cs (cn' := cn + 1) (ck' := ck + 6) ?_ (Nat.le_refl _) (Nat.le_refl _)
          refine x_istore (pc := 130) dX6_score_130 trivial (by decide) (L' := [(6, _), (5, _), (4, _), (3, _), (0, _), (1, _), (2, _)]) rfl ?_
          refine x_iload (pc := 132) dX6_score_132 rfl ?_
          refine x_if_lt (pc := 134) (t := 172) dX6_score_134 (by decide) ⟨by omega, by omega⟩ (fun c134 => ?_) (fun c134 => ?_)
          · refine x_iconst (pc := 172) dX6_score_172 ?_
            refine x_istore (pc := 173) dX6_score_173 trivial (by decide) (L' := [(7, _), (6, _), (5, _), (4, _), (3, _), (0, _), (1, _), (2, _)]) rfl ?_
            refine x_iload_n (pc := 175) dX6_score_175 rfl rfl ?_
            refine x_iload (pc := 176) dX6_score_176 rfl ?_
            refine x_if_eq (pc := 178) (t := 189) dX6_score_178 (by decide) ⟨by omega, by omega⟩ (fun c178 => ?_) (fun c178 => ?_)
            · refine x_aload (pc := 189) dX6_score_189 rfl ?_
              refine x_getiN (pc := 191) frX6_77 dX6_score_191 k1.1 rfl (fun r191a r191b => ?_)
              rw [g4]
              refine x_ineg (pc := 194) dX6_score_194 ?_
              refine x_iadd (pc := 195) dX6_score_195 ?_
              refine x_istore_n (pc := 196) dX6_score_196 rfl (by decide) (L' := [(3, _), (7, _), (6, _), (5, _), (4, _), (0, _), (1, _), (2, _)]) rfl ?_
              refine x_goto (pc := 197) (t := 94) dX6_score_197 (by decide) ?_
              refine X.loc [4, 0, 5, 6, 7] (L' := [(4, _), (3, _), (0, _), (1, _), (2, _)]) rfl ?_
              have l1 := ih (i + 1) (by omega) (lay3.1, n5) M5 (cn + 1) (ck + 6) (by omega) (by omega) E5 hM5 hD5 hI5
              rw [crs] at l1
              first
              | (rw [if_pos (show (buildF (tP T)).1 ≠ 0 ∧ (cUp (buildF (tP T)) (tL T pl i 0) 0 - cUp (buildF (tP T)) (tL T pl i 1) 0 = tL T pl i 2 ∨ (tL T pl i 2 < cUp (buildF (tP T)) (tL T pl i 0) 0 - cUp (buildF (tP T)) (tL T pl i 1) 0 ∧ tL T pl i 3 = 1)) by omega), ← Int.add_assoc] at l1; exact l1)
              | (rw [if_neg (show ¬ ((buildF (tP T)).1 ≠ 0 ∧ (cUp (buildF (tP T)) (tL T pl i 0) 0 - cUp (buildF (tP T)) (tL T pl i 1) 0 = tL T pl i 2 ∨ (tL T pl i 2 < cUp (buildF (tP T)) (tL T pl i 0) 0 - cUp (buildF (tP T)) (tL T pl i 1) 0 ∧ tL T pl i 3 = 1))) by omega), ← Int.add_assoc] at l1; exact l1)
            · refine x_aload (pc := 181) dX6_score_181 rfl ?_
              refine x_getiN (pc := 183) frX6_77 dX6_score_183 k1.1 rfl (fun r183a r183b => ?_)
              rw [g4]
              refine x_goto (pc := 186) (t := 195) dX6_score_186 (by decide) ?_
              refine x_iadd (pc := 195) dX6_score_195 ?_
              refine x_istore_n (pc := 196) dX6_score_196 rfl (by decide) (L' := [(3, _), (7, _), (6, _), (5, _), (4, _), (0, _), (1, _), (2, _)]) rfl ?_
              refine x_goto (pc := 197) (t := 94) dX6_score_197 (by decide) ?_
              refine X.loc [4, 0, 5, 6, 7] (L' := [(4, _), (3, _), (0, _), (1, _), (2, _)]) rfl ?_
              have l1 := ih (i + 1) (by omega) (lay3.1, n5) M5 (cn + 1) (ck + 6) (by omega) (by omega) E5 hM5 hD5 hI5
              rw [crs] at l1
              first
              | (rw [if_pos (show (buildF (tP T)).1 ≠ 0 ∧ (cUp (buildF (tP T)) (tL T pl i 0) 0 - cUp (buildF (tP T)) (tL T pl i 1) 0 = tL T pl i 2 ∨ (tL T pl i 2 < cUp (buildF (tP T)) (tL T pl i 0) 0 - cUp (buildF (tP T)) (tL T pl i 1) 0 ∧ tL T pl i 3 = 1)) by omega), ← Int.add_assoc] at l1; exact l1)
              | (rw [if_neg (show ¬ ((buildF (tP T)).1 ≠ 0 ∧ (cUp (buildF (tP T)) (tL T pl i 0) 0 - cUp (buildF (tP T)) (tL T pl i 1) 0 = tL T pl i 2 ∨ (tL T pl i 2 < cUp (buildF (tP T)) (tL T pl i 0) 0 - cUp (buildF (tP T)) (tL T pl i 1) 0 ∧ tL T pl i 3 = 1))) by omega), ← Int.add_assoc] at l1; exact l1)
          · refine x_aload (pc := 137) dX6_score_137 rfl ?_
            try rw [g3]
            refine x_getzN (pc := 139) frX6_127 dX6_score_139 k1.1 rfl (fun r139a r139b => ?_)
            refine x_if_eq (pc := 142) (t := 158) dX6_score_142 (by decide) ⟨by omega, by omega⟩ (fun c142 => ?_) (fun c142 => ?_)
            · refine x_iload (pc := 158) dX6_score_158 rfl ?_
              refine x_aload (pc := 160) dX6_score_160 rfl ?_
              refine x_getiN (pc := 162) frX6_130 dX6_score_162 k1.1 rfl (fun r162a r162b => ?_)
              rw [g2]
              refine x_icmp_ne (pc := 165) (t := 172) dX6_score_165 (by decide) ⟨by omega, by omega⟩ ⟨by omega, by omega⟩ (fun c165 => ?_) (fun c165 => ?_)
              · refine x_iconst (pc := 172) dX6_score_172 ?_
                refine x_istore (pc := 173) dX6_score_173 trivial (by decide) (L' := [(7, _), (6, _), (5, _), (4, _), (3, _), (0, _), (1, _), (2, _)]) rfl ?_
                refine x_iload_n (pc := 175) dX6_score_175 rfl rfl ?_
                refine x_iload (pc := 176) dX6_score_176 rfl ?_
                refine x_if_eq (pc := 178) (t := 189) dX6_score_178 (by decide) ⟨by omega, by omega⟩ (fun c178 => ?_) (fun c178 => ?_)
                · refine x_aload (pc := 189) dX6_score_189 rfl ?_
                  refine x_getiN (pc := 191) frX6_77 dX6_score_191 k1.1 rfl (fun r191a r191b => ?_)
                  rw [g4]
                  refine x_ineg (pc := 194) dX6_score_194 ?_
                  refine x_iadd (pc := 195) dX6_score_195 ?_
                  refine x_istore_n (pc := 196) dX6_score_196 rfl (by decide) (L' := [(3, _), (7, _), (6, _), (5, _), (4, _), (0, _), (1, _), (2, _)]) rfl ?_
                  refine x_goto (pc := 197) (t := 94) dX6_score_197 (by decide) ?_
                  refine X.loc [4, 0, 5, 6, 7] (L' := [(4, _), (3, _), (0, _), (1, _), (2, _)]) rfl ?_
                  have l1 := ih (i + 1) (by omega) (lay3.1, n5) M5 (cn + 1) (ck + 6) (by omega) (by omega) E5 hM5 hD5 hI5
                  rw [crs] at l1
                  first
                  | (rw [if_pos (show (buildF (tP T)).1 ≠ 0 ∧ (cUp (buildF (tP T)) (tL T pl i 0) 0 - cUp (buildF (tP T)) (tL T pl i 1) 0 = tL T pl i 2 ∨ (tL T pl i 2 < cUp (buildF (tP T)) (tL T pl i 0) 0 - cUp (buildF (tP T)) (tL T pl i 1) 0 ∧ tL T pl i 3 = 1)) by omega), ← Int.add_assoc] at l1; exact l1)
                  | (rw [if_neg (show ¬ ((buildF (tP T)).1 ≠ 0 ∧ (cUp (buildF (tP T)) (tL T pl i 0) 0 - cUp (buildF (tP T)) (tL T pl i 1) 0 = tL T pl i 2 ∨ (tL T pl i 2 < cUp (buildF (tP T)) (tL T pl i 0) 0 - cUp (buildF (tP T)) (tL T pl i 1) 0 ∧ tL T pl i 3 = 1))) by omega), ← Int.add_assoc] at l1; exact l1)
                · refine x_aload (pc := 181) dX6_score_181 rfl ?_
                  refine x_getiN (pc := 183) frX6_77 dX6_score_183 k1.1 rfl (fun r183a r183b => ?_)
                  rw [g4]
                  refine x_goto (pc := 186) (t := 195) dX6_score_186 (by decide) ?_
                  refine x_iadd (pc := 195) dX6_score_195 ?_
                  refine x_istore_n (pc := 196) dX6_score_196 rfl (by decide) (L' := [(3, _), (7, _), (6, _), (5, _), (4, _), (0, _), (1, _), (2, _)]) rfl ?_
                  refine x_goto (pc := 197) (t := 94) dX6_score_197 (by decide) ?_
                  refine X.loc [4, 0, 5, 6, 7] (L' := [(4, _), (3, _), (0, _), (1, _), (2, _)]) rfl ?_
                  have l1 := ih (i + 1) (by omega) (lay3.1, n5) M5 (cn + 1) (ck + 6) (by omega) (by omega) E5 hM5 hD5 hI5
                  rw [crs] at l1
                  first
                  | (rw [if_pos (show (buildF (tP T)).1 ≠ 0 ∧ (cUp (buildF (tP T)) (tL T pl i 0) 0 - cUp (buildF (tP T)) (tL T pl i 1) 0 = tL T pl i 2 ∨ (tL T pl i 2 < cUp (buildF (tP T)) (tL T pl i 0) 0 - cUp (buildF (tP T)) (tL T pl i 1) 0 ∧ tL T pl i 3 = 1)) by omega), ← Int.add_assoc] at l1; exact l1)
                  | (rw [if_neg (show ¬ ((buildF (tP T)).1 ≠ 0 ∧ (cUp (buildF (tP T)) (tL T pl i 0) 0 - cUp (buildF (tP T)) (tL T pl i 1) 0 = tL T pl i 2 ∨ (tL T pl i 2 < cUp (buildF (tP T)) (tL T pl i 0) 0 - cUp (buildF (tP T)) (tL T pl i 1) 0 ∧ tL T pl i 3 = 1))) by omega), ← Int.add_assoc] at l1; exact l1)
              · refine x_iconst (pc := 168) dX6_score_168 ?_
                refine x_goto (pc := 169) (t := 173) dX6_score_169 (by decide) ?_
                refine x_istore (pc := 173) dX6_score_173 trivial (by decide) (L' := [(7, _), (6, _), (5, _), (4, _), (3, _), (0, _), (1, _), (2, _)]) rfl ?_
                refine x_iload_n (pc := 175) dX6_score_175 rfl rfl ?_
                refine x_iload (pc := 176) dX6_score_176 rfl ?_
                refine x_if_eq (pc := 178) (t := 189) dX6_score_178 (by decide) ⟨by omega, by omega⟩ (fun c178 => ?_) (fun c178 => ?_)
                · refine x_aload (pc := 189) dX6_score_189 rfl ?_
                  refine x_getiN (pc := 191) frX6_77 dX6_score_191 k1.1 rfl (fun r191a r191b => ?_)
                  rw [g4]
                  refine x_ineg (pc := 194) dX6_score_194 ?_
                  refine x_iadd (pc := 195) dX6_score_195 ?_
                  refine x_istore_n (pc := 196) dX6_score_196 rfl (by decide) (L' := [(3, _), (7, _), (6, _), (5, _), (4, _), (0, _), (1, _), (2, _)]) rfl ?_
                  refine x_goto (pc := 197) (t := 94) dX6_score_197 (by decide) ?_
                  refine X.loc [4, 0, 5, 6, 7] (L' := [(4, _), (3, _), (0, _), (1, _), (2, _)]) rfl ?_
                  have l1 := ih (i + 1) (by omega) (lay3.1, n5) M5 (cn + 1) (ck + 6) (by omega) (by omega) E5 hM5 hD5 hI5
                  rw [crs] at l1
                  first
                  | (rw [if_pos (show (buildF (tP T)).1 ≠ 0 ∧ (cUp (buildF (tP T)) (tL T pl i 0) 0 - cUp (buildF (tP T)) (tL T pl i 1) 0 = tL T pl i 2 ∨ (tL T pl i 2 < cUp (buildF (tP T)) (tL T pl i 0) 0 - cUp (buildF (tP T)) (tL T pl i 1) 0 ∧ tL T pl i 3 = 1)) by omega), ← Int.add_assoc] at l1; exact l1)
                  | (rw [if_neg (show ¬ ((buildF (tP T)).1 ≠ 0 ∧ (cUp (buildF (tP T)) (tL T pl i 0) 0 - cUp (buildF (tP T)) (tL T pl i 1) 0 = tL T pl i 2 ∨ (tL T pl i 2 < cUp (buildF (tP T)) (tL T pl i 0) 0 - cUp (buildF (tP T)) (tL T pl i 1) 0 ∧ tL T pl i 3 = 1))) by omega), ← Int.add_assoc] at l1; exact l1)
                · refine x_aload (pc := 181) dX6_score_181 rfl ?_
                  refine x_getiN (pc := 183) frX6_77 dX6_score_183 k1.1 rfl (fun r183a r183b => ?_)
                  rw [g4]
                  refine x_goto (pc := 186) (t := 195) dX6_score_186 (by decide) ?_
                  refine x_iadd (pc := 195) dX6_score_195 ?_
                  refine x_istore_n (pc := 196) dX6_score_196 rfl (by decide) (L' := [(3, _), (7, _), (6, _), (5, _), (4, _), (0, _), (1, _), (2, _)]) rfl ?_
                  refine x_goto (pc := 197) (t := 94) dX6_score_197 (by decide) ?_
                  refine X.loc [4, 0, 5, 6, 7] (L' := [(4, _), (3, _), (0, _), (1, _), (2, _)]) rfl ?_
                  have l1 := ih (i + 1) (by omega) (lay3.1, n5) M5 (cn + 1) (ck + 6) (by omega) (by omega) E5 hM5 hD5 hI5
                  rw [crs] at l1
                  first
                  | (rw [if_pos (show (buildF (tP T)).1 ≠ 0 ∧ (cUp (buildF (tP T)) (tL T pl i 0) 0 - cUp (buildF (tP T)) (tL T pl i 1) 0 = tL T pl i 2 ∨ (tL T pl i 2 < cUp (buildF (tP T)) (tL T pl i 0) 0 - cUp (buildF (tP T)) (tL T pl i 1) 0 ∧ tL T pl i 3 = 1)) by omega), ← Int.add_assoc] at l1; exact l1)
                  | (rw [if_neg (show ¬ ((buildF (tP T)).1 ≠ 0 ∧ (cUp (buildF (tP T)) (tL T pl i 0) 0 - cUp (buildF (tP T)) (tL T pl i 1) 0 = tL T pl i 2 ∨ (tL T pl i 2 < cUp (buildF (tP T)) (tL T pl i 0) 0 - cUp (buildF (tP T)) (tL T pl i 1) 0 ∧ tL T pl i 3 = 1))) by omega), ← Int.add_assoc] at l1; exact l1)
            · refine x_iload (pc := 145) dX6_score_145 rfl ?_
              refine x_aload (pc := 147) dX6_score_147 rfl ?_
              refine x_getiN (pc := 149) frX6_130 dX6_score_149 k1.1 rfl (fun r149a r149b => ?_)
              rw [g2]
              refine x_icmp_lt (pc := 152) (t := 172) dX6_score_152 (by decide) ⟨by omega, by omega⟩ ⟨by omega, by omega⟩ (fun c152 => ?_) (fun c152 => ?_)
              · refine x_iconst (pc := 172) dX6_score_172 ?_
                refine x_istore (pc := 173) dX6_score_173 trivial (by decide) (L' := [(7, _), (6, _), (5, _), (4, _), (3, _), (0, _), (1, _), (2, _)]) rfl ?_
                refine x_iload_n (pc := 175) dX6_score_175 rfl rfl ?_
                refine x_iload (pc := 176) dX6_score_176 rfl ?_
                refine x_if_eq (pc := 178) (t := 189) dX6_score_178 (by decide) ⟨by omega, by omega⟩ (fun c178 => ?_) (fun c178 => ?_)
                · refine x_aload (pc := 189) dX6_score_189 rfl ?_
                  refine x_getiN (pc := 191) frX6_77 dX6_score_191 k1.1 rfl (fun r191a r191b => ?_)
                  rw [g4]
                  refine x_ineg (pc := 194) dX6_score_194 ?_
                  refine x_iadd (pc := 195) dX6_score_195 ?_
                  refine x_istore_n (pc := 196) dX6_score_196 rfl (by decide) (L' := [(3, _), (7, _), (6, _), (5, _), (4, _), (0, _), (1, _), (2, _)]) rfl ?_
                  refine x_goto (pc := 197) (t := 94) dX6_score_197 (by decide) ?_
                  refine X.loc [4, 0, 5, 6, 7] (L' := [(4, _), (3, _), (0, _), (1, _), (2, _)]) rfl ?_
                  have l1 := ih (i + 1) (by omega) (lay3.1, n5) M5 (cn + 1) (ck + 6) (by omega) (by omega) E5 hM5 hD5 hI5
                  rw [crs] at l1
                  first
                  | (rw [if_pos (show (buildF (tP T)).1 ≠ 0 ∧ (cUp (buildF (tP T)) (tL T pl i 0) 0 - cUp (buildF (tP T)) (tL T pl i 1) 0 = tL T pl i 2 ∨ (tL T pl i 2 < cUp (buildF (tP T)) (tL T pl i 0) 0 - cUp (buildF (tP T)) (tL T pl i 1) 0 ∧ tL T pl i 3 = 1)) by omega), ← Int.add_assoc] at l1; exact l1)
                  | (rw [if_neg (show ¬ ((buildF (tP T)).1 ≠ 0 ∧ (cUp (buildF (tP T)) (tL T pl i 0) 0 - cUp (buildF (tP T)) (tL T pl i 1) 0 = tL T pl i 2 ∨ (tL T pl i 2 < cUp (buildF (tP T)) (tL T pl i 0) 0 - cUp (buildF (tP T)) (tL T pl i 1) 0 ∧ tL T pl i 3 = 1))) by omega), ← Int.add_assoc] at l1; exact l1)
                · refine x_aload (pc := 181) dX6_score_181 rfl ?_
                  refine x_getiN (pc := 183) frX6_77 dX6_score_183 k1.1 rfl (fun r183a r183b => ?_)
                  rw [g4]
                  refine x_goto (pc := 186) (t := 195) dX6_score_186 (by decide) ?_
                  refine x_iadd (pc := 195) dX6_score_195 ?_
                  refine x_istore_n (pc := 196) dX6_score_196 rfl (by decide) (L' := [(3, _), (7, _), (6, _), (5, _), (4, _), (0, _), (1, _), (2, _)]) rfl ?_
                  refine x_goto (pc := 197) (t := 94) dX6_score_197 (by decide) ?_
                  refine X.loc [4, 0, 5, 6, 7] (L' := [(4, _), (3, _), (0, _), (1, _), (2, _)]) rfl ?_
                  have l1 := ih (i + 1) (by omega) (lay3.1, n5) M5 (cn + 1) (ck + 6) (by omega) (by omega) E5 hM5 hD5 hI5
                  rw [crs] at l1
                  first
                  | (rw [if_pos (show (buildF (tP T)).1 ≠ 0 ∧ (cUp (buildF (tP T)) (tL T pl i 0) 0 - cUp (buildF (tP T)) (tL T pl i 1) 0 = tL T pl i 2 ∨ (tL T pl i 2 < cUp (buildF (tP T)) (tL T pl i 0) 0 - cUp (buildF (tP T)) (tL T pl i 1) 0 ∧ tL T pl i 3 = 1)) by omega), ← Int.add_assoc] at l1; exact l1)
                  | (rw [if_neg (show ¬ ((buildF (tP T)).1 ≠ 0 ∧ (cUp (buildF (tP T)) (tL T pl i 0) 0 - cUp (buildF (tP T)) (tL T pl i 1) 0 = tL T pl i 2 ∨ (tL T pl i 2 < cUp (buildF (tP T)) (tL T pl i 0) 0 - cUp (buildF (tP T)) (tL T pl i 1) 0 ∧ tL T pl i 3 = 1))) by omega), ← Int.add_assoc] at l1; exact l1)
              · refine x_goto (pc := 155) (t := 168) dX6_score_155 (by decide) ?_
                refine x_iconst (pc := 168) dX6_score_168 ?_
                refine x_goto (pc := 169) (t := 173) dX6_score_169 (by decide) ?_
                refine x_istore (pc := 173) dX6_score_173 trivial (by decide) (L' := [(7, _), (6, _), (5, _), (4, _), (3, _), (0, _), (1, _), (2, _)]) rfl ?_
                refine x_iload_n (pc := 175) dX6_score_175 rfl rfl ?_
                refine x_iload (pc := 176) dX6_score_176 rfl ?_
                refine x_if_eq (pc := 178) (t := 189) dX6_score_178 (by decide) ⟨by omega, by omega⟩ (fun c178 => ?_) (fun c178 => ?_)
                · refine x_aload (pc := 189) dX6_score_189 rfl ?_
                  refine x_getiN (pc := 191) frX6_77 dX6_score_191 k1.1 rfl (fun r191a r191b => ?_)
                  rw [g4]
                  refine x_ineg (pc := 194) dX6_score_194 ?_
                  refine x_iadd (pc := 195) dX6_score_195 ?_
                  refine x_istore_n (pc := 196) dX6_score_196 rfl (by decide) (L' := [(3, _), (7, _), (6, _), (5, _), (4, _), (0, _), (1, _), (2, _)]) rfl ?_
                  refine x_goto (pc := 197) (t := 94) dX6_score_197 (by decide) ?_
                  refine X.loc [4, 0, 5, 6, 7] (L' := [(4, _), (3, _), (0, _), (1, _), (2, _)]) rfl ?_
                  have l1 := ih (i + 1) (by omega) (lay3.1, n5) M5 (cn + 1) (ck + 6) (by omega) (by omega) E5 hM5 hD5 hI5
                  rw [crs] at l1
                  first
                  | (rw [if_pos (show (buildF (tP T)).1 ≠ 0 ∧ (cUp (buildF (tP T)) (tL T pl i 0) 0 - cUp (buildF (tP T)) (tL T pl i 1) 0 = tL T pl i 2 ∨ (tL T pl i 2 < cUp (buildF (tP T)) (tL T pl i 0) 0 - cUp (buildF (tP T)) (tL T pl i 1) 0 ∧ tL T pl i 3 = 1)) by omega), ← Int.add_assoc] at l1; exact l1)
                  | (rw [if_neg (show ¬ ((buildF (tP T)).1 ≠ 0 ∧ (cUp (buildF (tP T)) (tL T pl i 0) 0 - cUp (buildF (tP T)) (tL T pl i 1) 0 = tL T pl i 2 ∨ (tL T pl i 2 < cUp (buildF (tP T)) (tL T pl i 0) 0 - cUp (buildF (tP T)) (tL T pl i 1) 0 ∧ tL T pl i 3 = 1))) by omega), ← Int.add_assoc] at l1; exact l1)
                · refine x_aload (pc := 181) dX6_score_181 rfl ?_
                  refine x_getiN (pc := 183) frX6_77 dX6_score_183 k1.1 rfl (fun r183a r183b => ?_)
                  rw [g4]
                  refine x_goto (pc := 186) (t := 195) dX6_score_186 (by decide) ?_
                  refine x_iadd (pc := 195) dX6_score_195 ?_
                  refine x_istore_n (pc := 196) dX6_score_196 rfl (by decide) (L' := [(3, _), (7, _), (6, _), (5, _), (4, _), (0, _), (1, _), (2, _)]) rfl ?_
                  refine x_goto (pc := 197) (t := 94) dX6_score_197 (by decide) ?_
                  refine X.loc [4, 0, 5, 6, 7] (L' := [(4, _), (3, _), (0, _), (1, _), (2, _)]) rfl ?_
                  have l1 := ih (i + 1) (by omega) (lay3.1, n5) M5 (cn + 1) (ck + 6) (by omega) (by omega) E5 hM5 hD5 hI5
                  rw [crs] at l1
                  first
                  | (rw [if_pos (show (buildF (tP T)).1 ≠ 0 ∧ (cUp (buildF (tP T)) (tL T pl i 0) 0 - cUp (buildF (tP T)) (tL T pl i 1) 0 = tL T pl i 2 ∨ (tL T pl i 2 < cUp (buildF (tP T)) (tL T pl i 0) 0 - cUp (buildF (tP T)) (tL T pl i 1) 0 ∧ tL T pl i 3 = 1)) by omega), ← Int.add_assoc] at l1; exact l1)
                  | (rw [if_neg (show ¬ ((buildF (tP T)).1 ≠ 0 ∧ (cUp (buildF (tP T)) (tL T pl i 0) 0 - cUp (buildF (tP T)) (tL T pl i 1) 0 = tL T pl i 2 ∨ (tL T pl i 2 < cUp (buildF (tP T)) (tL T pl i 0) 0 - cUp (buildF (tP T)) (tL T pl i 1) 0 ∧ tL T pl i 3 = 1))) by omega), ← Int.add_assoc] at l1; exact l1)
    have l0 := loop (tK T pl) 0 (by omega) lay2 M2 1 4 (by omega) (by omega) Ext.rf (fun _ _ _ _ _ => rfl) hD2 hI
    rw [show sum + claimPt (buildF (tP T)) (tL T pl) 0 = sum from Int.add_zero _] at l0
    exact l0
  -- the signs
  have loop1 : ∀ d j : Nat, j + d = 2 * (tS T 3).toNat + 1 → X g m_X6_score 0 0 lay M 24 [(4, vI (-(tS T 3) + (j : Nat))), (3, vI (bonusF T (pl : Nat) + signPt (tP T) (wantF pl) (-(tS T 3)) j)), (0, vR c), (1, vR b), (2, vI (pl : Nat))] [] K := by
    intro d
    induction d with
    | zero =>
      intro j hj
      subst hj
      have sg9 := signPt_rng (tP T) (wantF pl) (-(tS T 3)) (2 * (tS T 3).toNat + 1)
      refine x_iload (pc := 24) dX6_score_24 rfl ?_
      refine x_aload_n (pc := 26) dX6_score_26 rfl rfl ?_
      refine x_geti (pc := 27) fX6_33 dX6_score_27 hk.1 rfl (fun r27a r27b => ?_)
      refine x_icmp_gt (pc := 30) (t := 78) dX6_score_30 (by decide) ⟨by omega, by omega⟩ ⟨by omega, by omega⟩ (fun c30 => ?_) (fun c30 => ?_)
      · refine x_aload_n (pc := 78) dX6_score_78 rfl rfl ?_
        refine x_getrM (pc := 79) (b := (c + 2)) fX6_10 dX6_score_79 hk.1 rfl r2 rfl ?_
        refine x_iload_n (pc := 82) dX6_score_82 rfl rfl ?_
        refine x_callV (pc := 83) [_] rfl kX6_73 dX6_score_83 hout.1.1 rfl rfl (by decide) (Nat.le_of_ble_eq_true rfl) (Nat.le_of_ble_eq_true rfl) (by decide) ?_
        refine sp_Ls_get hout hpl ?_
        refine ⟨_, rfl, ?_⟩
        refine x_castC (pc := 86) clX6_7 dX6_score_86 hl.1.1 rfl ?_
        refine x_callV (pc := 89) [] rfl kX6_82 dX6_score_89 hl.1.1 rfl rfl (by decide) (Nat.le_of_ble_eq_true rfl) (Nat.le_of_ble_eq_true rfl) (by decide) ?_
        refine sp_Ls_iterator hJ hl (fun a lay2 M2 ea E hp hI hl2 => ?_)
        refine ⟨_, rfl, ?_⟩
        refine x_astore (pc := 92) dX6_score_92 trivial (by decide) (L' := [(4, _), (3, _), (0, _), (1, _), (2, _)]) rfl ?_
        refine X.loc [0, 1, 2, 3, 4] (L' := [(4, _), (3, _), (0, _), (1, _), (2, _)]) rfl ?_
        exact rest a lay2 M2 _ ea E hp hI hl2 (Int.add_comm _ _)
      · exfalso; omega
    | succ d ih =>
      intro j hj
      obtain ⟨u1, u2, u3⟩ := vv (-(tS T 3) + (j : Nat)) (by omega) (by omega)
      have sg9 := signPt_rng (tP T) (wantF pl) (-(tS T 3)) j
      have sgw := sg_want (v := valF (tP T) (-(tS T 3) + (j : Nat)) 5) hpl
      have sgs : signPt (tP T) (wantF pl) (-(tS T 3)) (j + 1) = signPt (tP T) (wantF pl) (-(tS T 3)) j + (if sg (valF (tP T) (-(tS T 3) + (j : Nat)) 5) = wantF pl then 1 else 0) := rfl
      refine x_iload (pc := 24) dX6_score_24 rfl ?_
      refine x_aload_n (pc := 26) dX6_score_26 rfl rfl ?_
      refine x_geti (pc := 27) fX6_33 dX6_score_27 hk.1 rfl (fun r27a r27b => ?_)
      refine x_icmp_gt (pc := 30) (t := 78) dX6_score_30 (by decide) ⟨by omega, by omega⟩ ⟨by omega, by omega⟩ (fun c30 => ?_) (fun c30 => ?_)
      · exfalso; omega
      · refine x_iload_n (pc := 33) dX6_score_33 rfl rfl ?_
        refine x_iload_n (pc := 34) dX6_score_34 rfl rfl ?_
        refine x_if_ne (pc := 35) (t := 49) dX6_score_35 (by decide) ⟨by omega, by omega⟩ (fun c35 => ?_) (fun c35 => ?_)
        · refine x_iload_n (pc := 49) dX6_score_49 rfl rfl ?_
          refine x_iconst (pc := 50) dX6_score_50 ?_
          refine x_icmp_ne (pc := 51) (t := 69) dX6_score_51 (by decide) ⟨by omega, by omega⟩ ⟨by omega, by omega⟩ (fun c51 => ?_) (fun c51 => ?_)
          · refine x_iconst (pc := 69) dX6_score_69 ?_
            refine x_iadd (pc := 70) dX6_score_70 ?_
            refine x_istore_n (pc := 71) dX6_score_71 rfl (by decide) (L' := [(3, _), (4, _), (0, _), (1, _), (2, _)]) rfl ?_
            refine x_iinc (pc := 72) dX6_score_72 rfl (by decide) (L' := [(4, _), (3, _), (0, _), (1, _), (2, _)]) rfl ?_
            refine x_goto (pc := 75) (t := 24) dX6_score_75 (by decide) ?_
            refine X.loc [0, 1, 2, 3, 4] (L' := [(4, _), (3, _), (0, _), (1, _), (2, _)]) rfl ?_
            have l1 := ih (j + 1) (by omega)
            rw [sgs, show -(tS T 3) + ((j + 1 : Nat) : Int) = -(tS T 3) + (j : Nat) + 1 by omega] at l1
            first
            | (rw [if_pos (sgw.mpr (by omega)), ← Int.add_assoc] at l1; exact l1)
            | (rw [if_neg (fun h => by have := sgw.mp h; omega), ← Int.add_assoc] at l1; exact l1)
          · refine x_aload_n (pc := 54) dX6_score_54 rfl rfl ?_
            refine x_iload (pc := 55) dX6_score_55 rfl ?_
            refine x_callV (pc := 57) [_] rfl kX6_118 dX6_score_57 hk.1 rfl rfl (by decide) (Nat.le_of_ble_eq_true rfl) (Nat.le_of_ble_eq_true rfl) (by decide) ?_
            refine sp_X6_value hQ hW ⟨by omega, by omega⟩ ?_
            refine ⟨_, rfl, ?_⟩
            rw [u1]
            refine x_lconst (pc := 60) (x := 0) dX6_score_60 (by decide) ?_
            refine x_lcmp_ge (pc := 61) (t := 69) dX6_score_61 dX6_score_62 (by decide) ⟨by omega, by omega⟩ ⟨by omega, by omega⟩ (fun c61 => ?_) (fun c61 => ?_)
            · refine x_iconst (pc := 69) dX6_score_69 ?_
              refine x_iadd (pc := 70) dX6_score_70 ?_
              refine x_istore_n (pc := 71) dX6_score_71 rfl (by decide) (L' := [(3, _), (4, _), (0, _), (1, _), (2, _)]) rfl ?_
              refine x_iinc (pc := 72) dX6_score_72 rfl (by decide) (L' := [(4, _), (3, _), (0, _), (1, _), (2, _)]) rfl ?_
              refine x_goto (pc := 75) (t := 24) dX6_score_75 (by decide) ?_
              refine X.loc [0, 1, 2, 3, 4] (L' := [(4, _), (3, _), (0, _), (1, _), (2, _)]) rfl ?_
              have l1 := ih (j + 1) (by omega)
              rw [sgs, show -(tS T 3) + ((j + 1 : Nat) : Int) = -(tS T 3) + (j : Nat) + 1 by omega] at l1
              first
              | (rw [if_pos (sgw.mpr (by omega)), ← Int.add_assoc] at l1; exact l1)
              | (rw [if_neg (fun h => by have := sgw.mp h; omega), ← Int.add_assoc] at l1; exact l1)
            · refine x_iconst (pc := 65) dX6_score_65 ?_
              refine x_goto (pc := 66) (t := 70) dX6_score_66 (by decide) ?_
              refine x_iadd (pc := 70) dX6_score_70 ?_
              refine x_istore_n (pc := 71) dX6_score_71 rfl (by decide) (L' := [(3, _), (4, _), (0, _), (1, _), (2, _)]) rfl ?_
              refine x_iinc (pc := 72) dX6_score_72 rfl (by decide) (L' := [(4, _), (3, _), (0, _), (1, _), (2, _)]) rfl ?_
              refine x_goto (pc := 75) (t := 24) dX6_score_75 (by decide) ?_
              refine X.loc [0, 1, 2, 3, 4] (L' := [(4, _), (3, _), (0, _), (1, _), (2, _)]) rfl ?_
              have l1 := ih (j + 1) (by omega)
              rw [sgs, show -(tS T 3) + ((j + 1 : Nat) : Int) = -(tS T 3) + (j : Nat) + 1 by omega] at l1
              first
              | (rw [if_pos (sgw.mpr (by omega)), ← Int.add_assoc] at l1; exact l1)
              | (rw [if_neg (fun h => by have := sgw.mp h; omega), ← Int.add_assoc] at l1; exact l1)
        · refine x_aload_n (pc := 38) dX6_score_38 rfl rfl ?_
          refine x_iload (pc := 39) dX6_score_39 rfl ?_
          refine x_callV (pc := 41) [_] rfl kX6_118 dX6_score_41 hk.1 rfl rfl (by decide) (Nat.le_of_ble_eq_true rfl) (Nat.le_of_ble_eq_true rfl) (by decide) ?_
          refine sp_X6_value hQ hW ⟨by omega, by omega⟩ ?_
          refine ⟨_, rfl, ?_⟩
          rw [u1]
          refine x_lconst (pc := 44) (x := 0) dX6_score_44 (by decide) ?_
          refine x_lcmp_gt (pc := 45) (t := 65) dX6_score_45 dX6_score_46 (by decide) ⟨by omega, by omega⟩ ⟨by omega, by omega⟩ (fun c45 => ?_) (fun c45 => ?_)
          · refine x_iconst (pc := 65) dX6_score_65 ?_
            refine x_goto (pc := 66) (t := 70) dX6_score_66 (by decide) ?_
            refine x_iadd (pc := 70) dX6_score_70 ?_
            refine x_istore_n (pc := 71) dX6_score_71 rfl (by decide) (L' := [(3, _), (4, _), (0, _), (1, _), (2, _)]) rfl ?_
            refine x_iinc (pc := 72) dX6_score_72 rfl (by decide) (L' := [(4, _), (3, _), (0, _), (1, _), (2, _)]) rfl ?_
            refine x_goto (pc := 75) (t := 24) dX6_score_75 (by decide) ?_
            refine X.loc [0, 1, 2, 3, 4] (L' := [(4, _), (3, _), (0, _), (1, _), (2, _)]) rfl ?_
            have l1 := ih (j + 1) (by omega)
            rw [sgs, show -(tS T 3) + ((j + 1 : Nat) : Int) = -(tS T 3) + (j : Nat) + 1 by omega] at l1
            first
            | (rw [if_pos (sgw.mpr (by omega)), ← Int.add_assoc] at l1; exact l1)
            | (rw [if_neg (fun h => by have := sgw.mp h; omega), ← Int.add_assoc] at l1; exact l1)
          · refine x_iload_n (pc := 49) dX6_score_49 rfl rfl ?_
            refine x_iconst (pc := 50) dX6_score_50 ?_
            refine x_icmp_ne (pc := 51) (t := 69) dX6_score_51 (by decide) ⟨by omega, by omega⟩ ⟨by omega, by omega⟩ (fun c51 => ?_) (fun c51 => ?_)
            · refine x_iconst (pc := 69) dX6_score_69 ?_
              refine x_iadd (pc := 70) dX6_score_70 ?_
              refine x_istore_n (pc := 71) dX6_score_71 rfl (by decide) (L' := [(3, _), (4, _), (0, _), (1, _), (2, _)]) rfl ?_
              refine x_iinc (pc := 72) dX6_score_72 rfl (by decide) (L' := [(4, _), (3, _), (0, _), (1, _), (2, _)]) rfl ?_
              refine x_goto (pc := 75) (t := 24) dX6_score_75 (by decide) ?_
              refine X.loc [0, 1, 2, 3, 4] (L' := [(4, _), (3, _), (0, _), (1, _), (2, _)]) rfl ?_
              have l1 := ih (j + 1) (by omega)
              rw [sgs, show -(tS T 3) + ((j + 1 : Nat) : Int) = -(tS T 3) + (j : Nat) + 1 by omega] at l1
              first
              | (rw [if_pos (sgw.mpr (by omega)), ← Int.add_assoc] at l1; exact l1)
              | (rw [if_neg (fun h => by have := sgw.mp h; omega), ← Int.add_assoc] at l1; exact l1)
            · refine x_aload_n (pc := 54) dX6_score_54 rfl rfl ?_
              refine x_iload (pc := 55) dX6_score_55 rfl ?_
              refine x_callV (pc := 57) [_] rfl kX6_118 dX6_score_57 hk.1 rfl rfl (by decide) (Nat.le_of_ble_eq_true rfl) (Nat.le_of_ble_eq_true rfl) (by decide) ?_
              refine sp_X6_value hQ hW ⟨by omega, by omega⟩ ?_
              refine ⟨_, rfl, ?_⟩
              rw [u1]
              refine x_lconst (pc := 60) (x := 0) dX6_score_60 (by decide) ?_
              refine x_lcmp_ge (pc := 61) (t := 69) dX6_score_61 dX6_score_62 (by decide) ⟨by omega, by omega⟩ ⟨by omega, by omega⟩ (fun c61 => ?_) (fun c61 => ?_)
              · refine x_iconst (pc := 69) dX6_score_69 ?_
                refine x_iadd (pc := 70) dX6_score_70 ?_
                refine x_istore_n (pc := 71) dX6_score_71 rfl (by decide) (L' := [(3, _), (4, _), (0, _), (1, _), (2, _)]) rfl ?_
                refine x_iinc (pc := 72) dX6_score_72 rfl (by decide) (L' := [(4, _), (3, _), (0, _), (1, _), (2, _)]) rfl ?_
                refine x_goto (pc := 75) (t := 24) dX6_score_75 (by decide) ?_
                refine X.loc [0, 1, 2, 3, 4] (L' := [(4, _), (3, _), (0, _), (1, _), (2, _)]) rfl ?_
                have l1 := ih (j + 1) (by omega)
                rw [sgs, show -(tS T 3) + ((j + 1 : Nat) : Int) = -(tS T 3) + (j : Nat) + 1 by omega] at l1
                first
                | (rw [if_pos (sgw.mpr (by omega)), ← Int.add_assoc] at l1; exact l1)
                | (rw [if_neg (fun h => by have := sgw.mp h; omega), ← Int.add_assoc] at l1; exact l1)
              · refine x_iconst (pc := 65) dX6_score_65 ?_
                refine x_goto (pc := 66) (t := 70) dX6_score_66 (by decide) ?_
                refine x_iadd (pc := 70) dX6_score_70 ?_
                refine x_istore_n (pc := 71) dX6_score_71 rfl (by decide) (L' := [(3, _), (4, _), (0, _), (1, _), (2, _)]) rfl ?_
                refine x_iinc (pc := 72) dX6_score_72 rfl (by decide) (L' := [(4, _), (3, _), (0, _), (1, _), (2, _)]) rfl ?_
                refine x_goto (pc := 75) (t := 24) dX6_score_75 (by decide) ?_
                refine X.loc [0, 1, 2, 3, 4] (L' := [(4, _), (3, _), (0, _), (1, _), (2, _)]) rfl ?_
                have l1 := ih (j + 1) (by omega)
                rw [sgs, show -(tS T 3) + ((j + 1 : Nat) : Int) = -(tS T 3) + (j : Nat) + 1 by omega] at l1
                first
                | (rw [if_pos (sgw.mpr (by omega)), ← Int.add_assoc] at l1; exact l1)
                | (rw [if_neg (fun h => by have := sgw.mp h; omega), ← Int.add_assoc] at l1; exact l1)
  refine x_aload_n (pc := 0) dX6_score_0 rfl rfl ?_
  refine x_geti (pc := 1) fX6_16 dX6_score_1 hk.1 rfl (fun r1a r1b => ?_)
  refine x_iload_n (pc := 4) dX6_score_4 rfl rfl ?_
  refine x_icmp_ne (pc := 5) (t := 15) dX6_score_5 (by decide) ⟨by omega, by omega⟩ ⟨by omega, by omega⟩ (fun c5 => ?_) (fun c5 => ?_)
  · refine x_iconst (pc := 15) dX6_score_15 ?_
    refine x_istore_n (pc := 16) dX6_score_16 rfl (by decide) (L' := [(3, _), (0, _), (1, _), (2, _)]) rfl ?_
    refine x_aload_n (pc := 17) dX6_score_17 rfl rfl ?_
    refine x_geti (pc := 18) fX6_33 dX6_score_18 hk.1 rfl (fun r18a r18b => ?_)
    refine x_ineg (pc := 21) dX6_score_21 ?_
    refine x_istore (pc := 22) dX6_score_22 trivial (by decide) (L' := [(4, _), (3, _), (0, _), (1, _), (2, _)]) rfl ?_
    refine X.loc [0, 1, 2, 3, 4] (L' := [(4, _), (3, _), (0, _), (1, _), (2, _)]) rfl ?_
    have l1 := loop1 (2 * (tS T 3).toNat + 1) 0 (by omega)
    rw [show bonusF T (pl : Nat) + signPt (tP T) (wantF pl) (-(tS T 3)) 0 = bonusF T (pl : Nat) from Int.add_zero _, show -(tS T 3) + ((0 : Nat) : Int) = -(tS T 3) by omega, bn0] at l1
    first
    | (rw [if_pos (by omega), ← y7, ← y5] at l1; exact l1)
    | (rw [if_neg (by omega), ← y5] at l1; exact l1)
  · refine x_aload_n (pc := 8) dX6_score_8 rfl rfl ?_
    refine x_geti (pc := 9) fX6_39 dX6_score_9 hk.1 rfl (fun r9a r9b => ?_)
    refine x_goto (pc := 12) (t := 16) dX6_score_12 (by decide) ?_
    refine x_istore_n (pc := 16) dX6_score_16 rfl (by decide) (L' := [(3, _), (0, _), (1, _), (2, _)]) rfl ?_
    refine x_aload_n (pc := 17) dX6_score_17 rfl rfl ?_
    refine x_geti (pc := 18) fX6_33 dX6_score_18 hk.1 rfl (fun r18a r18b => ?_)
    refine x_ineg (pc := 21) dX6_score_21 ?_
    refine x_istore (pc := 22) dX6_score_22 trivial (by decide) (L' := [(4, _), (3, _), (0, _), (1, _), (2, _)]) rfl ?_
    refine X.loc [0, 1, 2, 3, 4] (L' := [(4, _), (3, _), (0, _), (1, _), (2, _)]) rfl ?_
    have l1 := loop1 (2 * (tS T 3).toNat + 1) 0 (by omega)
    rw [show bonusF T (pl : Nat) + signPt (tP T) (wantF pl) (-(tS T 3)) 0 = bonusF T (pl : Nat) from Int.add_zero _, show -(tS T 3) + ((0 : Nat) : Int) = -(tS T 3) by omega, bn0] at l1
    first
    | (rw [if_pos (by omega), ← y7, ← y5] at l1; exact l1)
    | (rw [if_neg (by omega), ← y5] at l1; exact l1)
