/-! The starts drawn and told. -/
def mkT (S P : Nat → Int) : CT := (S, P, 0, fun _ => 0, fun _ => 0, fun _ => 0, fun _ _ _ => 0, 0, -1)
def Pd (co : Nat → Int) : Nat → Nat → Int
  | 0 => fun _ => 0
  | n + 1 => fup (Pd co n) n (co n)
def stT (co : Nat → Int) : Nat → List Int
  | 0 => []
  | n + 1 => stT co n ++ stB 23 ++ numF (co n) ++ [32] ++ numF (n : Nat) ++ [59]
theorem Pd_cong {co co2 : Nat → Int} : ∀ n : Nat, (∀ i, i < n → co i = co2 i) → Pd co n = Pd co2 n
  | 0, _ => rfl
  | n + 1, h => by
    simp only [Pd]
    rw [Pd_cong n (fun i hi => h i (by omega)), h n (by omega)]
theorem stT_cong {co co2 : Nat → Int} : ∀ n : Nat, (∀ i, i < n → co i = co2 i) → stT co n = stT co2 n
  | 0, _ => rfl
  | n + 1, h => by
    simp only [stT]
    rw [stT_cong n (fun i hi => h i (by omega)), h n (by omega)]
theorem Pd_at (co : Nat → Int) : ∀ n j : Nat, Pd co n j = if j < n then co j else 0
  | 0, j => by simp [Pd]
  | n + 1, j => by
    simp only [Pd, fup]
    rw [Pd_at co n j]
    by_cases h : j = n
    · rw [if_pos h, if_pos (by omega), h]
    · rw [if_neg h]
      by_cases h2 : j < n
      · rw [if_pos h2, if_pos (by omega)]
      · rw [if_neg h2, if_neg (by omega)]
theorem numF_l3 (x : Int) : (numF x).length ≤ 3 := by
  unfold numF
  split <;> split <;> simp
theorem stT_len (co : Nat → Int) : ∀ n : Nat, (stT co n).length ≤ 14 * n
  | 0 => by simp [stT]
  | n + 1 => by
    have h1 := stT_len co n
    have h2 := numF_l3 (co n)
    have h3 := numF_l3 (n : Nat)
    have h4 : (stB 23).length = 6 := rfl
    simp only [stT, List.length_append, List.length_cons, List.length_nil]
    omega
theorem mkT_wf {S : Nat → Int} {co : Nat → Int} {n : Nat} (hS : WfS S) (hn : n ≤ 5) (hc : ∀ i, i < n → -30 ≤ co i ∧ co i ≤ 30) : WfT (mkT S (Pd co n)) := by
  refine ⟨hS, fun j => ?_, ?_, fun j hj => absurd hj (Nat.not_lt_zero j), fun p => Nat.zero_le _, fun p i hp hi => absurd hi (Nat.not_lt_zero i), Or.inl rfl, Or.inl rfl⟩
  · show -30 ≤ Pd co n j ∧ Pd co n j ≤ 30 ∧ (5 ≤ j → Pd co n j = 0)
    rw [Pd_at]
    split
    · have := hc j (by assumption)
      omega
    · omega
  · unfold WfS at hS
    show ((0 : Nat) : Int) ≤ S 2
    omega
theorem mkT_inv {S : Nat → Int} {co : Nat → Int} {n pw : Nat} (hS : WfS S) (hn : n ≤ pw) (hp : (pw : Int) = S 0) : LInv (mkT S (Pd co n)) pw 0 := by
  have hnc : ¬ hasClaim (mkT S (Pd co n)) := fun h => absurd h.1 (Nat.not_lt_zero _)
  refine ⟨fun _ => ?_, fun _ => rfl, fun _ => hnc, ⟨Or.inl rfl, fun _ => ⟨fun h => absurd h (by decide), fun h => absurd h hnc⟩⟩, hp, fun j hj => ?_⟩
  · unfold WfS at hS
    show ((0 : Nat) : Int) < S 2
    omega
  · show Pd co n j = 0
    rw [Pd_at, if_neg (by omega)]
/-- before the settings are loaded -/
def LwK (g : GG) (lay : Lay) (M : Mem) (d b c t pw nn : Nat) (sx : List Int) (S P : Nat → Int) : Prop := (d + 1 = b ∧ b + 32 = c ∧ c + 8 ≤ t) ∧ JcP g lay M ∧ ToP g lay M d nn ∧ Ds g lay M b tNew ∧ (∃ A u, Dh A u M b ∧ 0 ≤ u ∧ u ≤ 12) ∧ (∃ tx n v cm, Rd tx n v M (b + 25) ∧ Cm cm M (b + 25)) ∧ LcQ g lay M c pw S P (fun _ => -100) 0 0 0 0 (-1) ∧ (∃ layB : Lay, Ext layB lay ∧ layB.2 ≤ t ∧ LcL g layB M c (fun _ => 0) (fun _ _ _ => 0)) ∧ SbP g lay M t sx
theorem LwK.j {g : GG} {lay : Lay} {M : Mem} {d b c t pw nn : Nat} {sx : List Int} {S P : Nat → Int} (h : LwK g lay M d b c t pw nn sx S P) : LwJ g lay M d b c t pw nn sx tNew S P (fun _ => -100) 0 0 0 0 (-1) (fun _ => 0) (fun _ _ _ => 0) := by
  obtain ⟨h1, hJ, hT, hD, hA, hR, hQ, ⟨layB, hE, -, hL⟩, hS⟩ := h
  exact ⟨h1, hJ, hT, hD, hA, hR, hQ, hL.ext hE (fun _ _ _ _ _ _ => rfl), hS⟩
theorem LwK.app {g : GG} {lay lay2 : Lay} {M M2 : Mem} {d b c t pw nn : Nat} {sx sx2 : List Int} {S P : Nat → Int} (h : LwK g lay M d b c t pw nn sx S P) (E : Ext lay lay2) (p : Kp t M M2) (hS2 : SbP g lay2 M2 t sx2) : LwK g lay2 M2 d b c t pw nn sx2 S P := by
  obtain ⟨⟨h1, h2, h2b⟩, hJ, hT, hD, ⟨A, u, hA, hu⟩, ⟨tx, n, v, cm, hR, hC⟩, hQ, ⟨layB, hE, hB, hL⟩, hS⟩ := h
  have bw := hT.2.1
  exact ⟨⟨h1, h2, h2b⟩, hJ.ext E (n := g.2.1) (fun y i hy => p y i (by omega)) (Nat.le_refl _), hT.ext E (fun i => p _ i (by omega)), hD.ext E (fun y i y1 y2 => p y i (by omega)), ⟨A, u, hA.mem (fun i => p _ i (by omega)) (fun i => p _ i (by omega)), hu⟩, ⟨tx, n, v, cm, hR.mem (fun y i y1 y2 => p y i (by omega)), hC.mem (fun i => p _ i (by omega))⟩, hQ.ext E (fun y i y1 y2 => p y i (by omega)), ⟨layB, hE.tr E, hB, hL.ext Ext.rf (fun y i y1 y2 _ _ => p y i (by omega))⟩, hS2⟩
theorem LwK.draw {g : GG} {lay : Lay} {M M2 : Mem} {d b c t pw nn n2 : Nat} {sx : List Int} {S P : Nat → Int} (h : LwK g lay M d b c t pw nn sx S P) (p : ∀ y i, y ≠ d → M2 y i = M y i) (hT2 : ToP g lay M2 d n2) : LwK g lay M2 d b c t pw n2 sx S P := by
  obtain ⟨⟨h1, h2, h2b⟩, hJ, hT, hD, ⟨A, u, hA, hu⟩, ⟨tx, n, v, cm, hR, hC⟩, hQ, ⟨layB, hE, hB, hL⟩, hS⟩ := h
  have E : Ext lay lay := Ext.rf
  have bw := hT.2.1
  exact ⟨⟨h1, h2, h2b⟩, hJ.ext E (n := g.2.1) (fun y i hy => p y i (by omega)) (Nat.le_refl _), hT2, hD.ext E (fun y i y1 y2 => p y i (by omega)), ⟨A, u, hA.mem (fun i => p _ i (by omega)) (fun i => p _ i (by omega)), hu⟩, ⟨tx, n, v, cm, hR.mem (fun y i y1 y2 => p y i (by omega)), hC.mem (fun i => p _ i (by omega))⟩, hQ.ext E (fun y i y1 y2 => p y i (by omega)), ⟨layB, hE, hB, hL.ext Ext.rf (fun y i y1 y2 _ _ => p y i (by omega))⟩, hS.fr E (fun i => p _ i (by omega)) (fun v cap hv hv2 i => p _ i (by omega))⟩
theorem LwK.co {g : GG} {lay : Lay} {M : Mem} {d b c t pw nn : Nat} {sx : List Int} {S P : Nat → Int} (h : LwK g lay M d b c t pw nn sx S P) (p : Nat) (x : Int) : LwK g lay (mset M (c + 3) p x) d b c t pw nn sx S (fup P p x) := by
  obtain ⟨⟨h1, h2, h2b⟩, hJ, hT, hD, ⟨A, u, hA, hu⟩, ⟨tx, n, v, cm, hR, hC⟩, hQ, ⟨layB, hE, hB, hL⟩, hS⟩ := h
  have E : Ext lay lay := Ext.rf
  have bw := hT.2.1
  have q : ∀ y i, y ≠ c + 3 → mset M (c + 3) p x y i = M y i := fun y i hy => mset_nea hy
  refine ⟨⟨h1, h2, h2b⟩, hJ.ext E (n := g.2.1) (fun y i hy => q y i (by omega)) (Nat.le_refl _), hT.ext E (fun i => q _ i (by omega)), hD.ext E (fun y i y1 y2 => q y i (by omega)), ⟨A, u, hA.mem (fun i => q _ i (by omega)) (fun i => q _ i (by omega)), hu⟩, ⟨tx, n, v, cm, hR.mem (fun y i y1 y2 => q y i (by omega)), hC.mem (fun i => q _ i (by omega))⟩, ?_, ⟨layB, hE, hB, hL.ext Ext.rf (fun y i y1 y2 y3 y4 => q y i y3)⟩, hS.fr E (fun i => q _ i (by omega)) (fun v cap hv hv2 i => q _ i (by omega))⟩
  obtain ⟨q1, ⟨q5, q6, q7⟩, q8, q9, q10, q11, q12, q13, q14, q15⟩ := hQ
  refine ⟨q1, ⟨(q _ _ (by omega)).trans q5, (q _ _ (by omega)).trans q6, (q _ _ (by omega)).trans q7⟩, fun j hj => ?_, fun j hj => (q _ _ (by omega)).trans (q9 j hj), fun i hi => (q _ _ (by omega)).trans (q10 i hi), (q _ _ (by omega)).trans q11, (q _ _ (by omega)).trans q12, (q _ _ (by omega)).trans q13, (q _ _ (by omega)).trans q14, (q _ _ (by omega)).trans q15⟩
  by_cases e : j = p
  · subst e
    rw [mset_same, fup_s9]
  · rw [mset_nei e, fup_n9 _ _ e]
    exact q8 j hj

set_option maxRecDepth 100000 in
theorem law_starts {g : GG} {K : KK} {d b c t pw ns : Nat} {tx0 : List Int} {S : Nat → Int} (gB : GoodB) (gC : ∀ P, WfP P → cntOK 5 (buildF P)) (gR : GoodRt) (hS : WfS S) (hpw : (pw : Int) = S 0) (hns : ns ≤ pw) (hSet : ∀ co, (∀ i, i < ns → -30 ≤ co i ∧ co i ≤ 30) → SetOK (tx0 ++ stT co ns) (6 + (ns : Nat)) (mkT S (Pd co ns))) (hPL : ∀ T0 T, WfT T0 → (∃ S2 P2, T0 = mkT S2 P2) → Hist T0 T 22 → PlayOK T0 T) (h0 : tx0.length ≤ 100) (k : ∀ lay2 M2, K (.inl (some (vI 1))) lay2 M2) : ∀ (dd p : Nat), p + dd = ns → ∀ (lay : Lay) (M : Mem) (cn ck nn : Nat) (co : Nat → Int), cn ≤ 1000 + 5 * p → ck ≤ 100000 + 10240 * p → nn ≤ 100 + p → (∀ i, i < p → -30 ≤ co i ∧ co i ≤ 30) → LwK g lay M d b c t pw nn (tx0 ++ stT co p) S (Pd co p) → X g m_L_law cn ck lay M 257 [(13, vI (p : Nat)), (1, vR d), (2, vR b), (3, vI (pw : Nat)), (7, vI (S 4)), (10, vR c), (11, vR t), (12, vI (ns : Nat))] [] K := by
  have hS9 := hS
  unfold WfS at hS9
  intro dd
  induction dd with
  | zero =>
    intro p hp lay M cn ck nn co hcn hck hnn hco hK
    have ep : p = ns := by omega
    subst ep
    refine x_iload (pc := 257) dL_law_257 rfl ?_
    refine x_iload (pc := 259) dL_law_259 rfl ?_
    refine x_icmp_ge (pc := 261) (t := 321) dL_law_261 (by decide) ⟨by omega, by omega⟩ ⟨by omega, by omega⟩ (fun c261 => ?_) (fun c261 => ?_)
    · refine X.loc [1, 2, 3, 4, 5, 6, 7] (L' := [(1, _), (2, _), (3, _), (7, _), (10, _), (11, _), (12, _)]) rfl ?_
      have el : laF (mkT S (Pd co p)) = fun _ => -100 := funext fun q => if_pos rfl
      have hW0 := mkT_wf hS (show p ≤ 5 by omega) hco
      have hJ : LwJ g lay M d b c t pw nn (tx0 ++ stT co p) tNew (tS (mkT S (Pd co p))) (tP (mkT S (Pd co p))) (laF (mkT S (Pd co p))) (tN (mkT S (Pd co p))) (hpF (mkT S (Pd co p))) 0 (tO (mkT S (Pd co p))) (tB (mkT S (Pd co p))) (tK (mkT S (Pd co p))) (tL (mkT S (Pd co p))) := by
        rw [el]
        exact hK.j
      have l1 := law_load gB gC gR (hSet co hco) (by omega) hW0 (mkT_inv hS hns hpw) (fun T hT => hPL _ T hW0 ⟨_, _, rfl⟩ hT) hJ (show cn ≤ 10000 by omega) (show ck ≤ 1000000 by omega) (by omega) k
      rw [show (6 : Int) + (p : Nat) - 6 = (p : Nat) by omega] at l1
      exact l1
    · exfalso; omega
  | succ dd ih =>
    intro p hp lay M cn ck nn co hcn hck hnn hco hK
    have e7 : ((p : Nat) : Int).toNat = p := Int.toNat_natCast p
    have lst := stT_len co p
    have ha1 := hK.1
    have gw := hK.2.2.2.1.2.1
    have h23 : (stB 23).length = 6 := rfl
    have lnp := numF_l3 (p : Nat)
    have hl0 : (tx0 ++ stT co p).length ≤ 200 := by
      rw [List.length_append]
      omega
    refine x_iload (pc := 257) dL_law_257 rfl ?_
    refine x_iload (pc := 259) dL_law_259 rfl ?_
    refine x_icmp_ge (pc := 261) (t := 321) dL_law_261 (by decide) ⟨by omega, by omega⟩ ⟨by omega, by omega⟩ (fun c261 => ?_) (fun c261 => ?_)
    · exfalso; omega
    · refine x_aload (pc := 264) dL_law_264 rfl ?_
      refine x_getrN (pc := 266) (b := (c + 3)) frL_27 dL_law_266 hK.2.2.2.2.2.2.1.1.1.1 rfl hK.2.2.2.2.2.2.1.2.1.1 rfl ?_
      refine x_iload (pc := 269) dL_law_269 rfl ?_
      refine x_aload_n (pc := 271) dL_law_271 rfl rfl ?_
      refine x_bipush (pc := 272) dL_law_272 (by decide) ?_
      refine x_callV (pc := 274) [_] rfl kL_113 dL_law_274 hK.2.2.1.1.1 rfl rfl (by decide) (Nat.le_of_ble_eq_true rfl) (Nat.le_of_ble_eq_true rfl) (show _ + 0 ≤ 600086 ∧ _ + 0 ≤ 7301442 by omega) ?_
      refine sp_X7_next hK.2.2.1 (by omega) ⟨by omega, by omega⟩ (fun z M3 za zb p3 hT3 => ?_)
      have hK := hK.draw p3 hT3
      refine ⟨_, rfl, ?_⟩
      refine X.cs (cn' := cn) (ck' := ck) ?_ (Nat.le_refl _) (Nat.le_refl _)
      refine x_bipush (pc := 277) dL_law_277 (by decide) ?_
      refine x_isub (pc := 279) dL_law_279 ?_
      refine x_iast (pc := 280) dL_law_280 hK.2.2.2.2.2.2.1.1.2.1.1 (show g.2.1 ≤ c + 3 by omega) (by omega) (by omega) ⟨by omega, by omega⟩ ?_
      rw [e7]
      have hK := hK.co p (z - 30)
      have lz := numF_l3 (z - 30)
      refine x_aload (pc := 281) dL_law_281 rfl ?_
      refine x_ldcS (pc := 283) (q := 23) (by decide) dL_law_283 ?_
      refine x_callV (pc := 285) [_] rfl kL_122 dL_law_285 hK.2.2.2.2.2.2.2.2.kn.1 rfl rfl (by decide) (Nat.le_of_ble_eq_true rfl) (Nat.le_of_ble_eq_true rfl) (show _ + 1 ≤ 600086 ∧ _ + 2048 ≤ 7301442 by omega) ?_
      refine sp_J4_appendS_c hK.2.2.2.2.2.2.2.2 (by decide) (by simp only [List.length_append, List.length_cons, List.length_nil]; omega) (fun lay3 M3 E3 p3 hS3 => ?_)
      have hK := hK.app E3 p3 hS3
      refine ⟨_, rfl, ?_⟩
      refine X.cs (cn' := cn + 1) (ck' := ck + 2048) ?_ (Nat.le_refl _) (Nat.le_refl _)
      refine x_aload (pc := 288) dL_law_288 rfl ?_
      refine x_getrN (pc := 290) (b := (c + 3)) frL_27 dL_law_290 hK.2.2.2.2.2.2.1.1.1.1 rfl hK.2.2.2.2.2.2.1.2.1.1 rfl ?_
      refine x_iload (pc := 293) dL_law_293 rfl ?_
      refine x_iald (pc := 295) dL_law_295 hK.2.2.2.2.2.2.1.1.2.1.1 (by omega) (by omega) (fun r295a r295b => ?_)
      rw [e7, hK.2.2.2.2.2.2.1.2.2.1 p (by omega), fup_s9]
      refine x_callV (pc := 296) [_] rfl kL_126 dL_law_296 hK.2.2.2.2.2.2.2.2.kn.1 rfl rfl (by decide) (Nat.le_of_ble_eq_true rfl) (Nat.le_of_ble_eq_true rfl) (show _ + 1 ≤ 600086 ∧ _ + 2048 ≤ 7301442 by omega) ?_
      refine sp_J4_appendI hK.2.1 hK.2.2.2.2.2.2.2.2 ⟨by omega, by omega⟩ (by simp only [List.length_append, List.length_cons, List.length_nil]; omega) (fun lay3 M3 E3 p3 hS3 => ?_)
      have hK := hK.app E3 p3 hS3
      refine ⟨_, rfl, ?_⟩
      refine X.cs (cn' := cn + 2) (ck' := ck + 4096) ?_ (Nat.le_refl _) (Nat.le_refl _)
      refine x_bipush (pc := 299) dL_law_299 (by decide) ?_
      refine x_callV (pc := 301) [_] rfl kL_152 dL_law_301 hK.2.2.2.2.2.2.2.2.kn.1 rfl rfl (by decide) (Nat.le_of_ble_eq_true rfl) (Nat.le_of_ble_eq_true rfl) (show _ + 1 ≤ 600086 ∧ _ + 2048 ≤ 7301442 by omega) ?_
      refine sp_J4_appendC hK.2.2.2.2.2.2.2.2 ⟨by decide, by decide⟩ (by simp only [List.length_append, List.length_cons, List.length_nil]; omega) (fun lay3 M3 E3 p3 hS3 => ?_)
      have hK := hK.app E3 p3 hS3
      refine ⟨_, rfl, ?_⟩
      refine X.cs (cn' := cn + 3) (ck' := ck + 6144) ?_ (Nat.le_refl _) (Nat.le_refl _)
      refine x_iload (pc := 304) dL_law_304 rfl ?_
      refine x_callV (pc := 306) [_] rfl kL_126 dL_law_306 hK.2.2.2.2.2.2.2.2.kn.1 rfl rfl (by decide) (Nat.le_of_ble_eq_true rfl) (Nat.le_of_ble_eq_true rfl) (show _ + 1 ≤ 600086 ∧ _ + 2048 ≤ 7301442 by omega) ?_
      refine sp_J4_appendI hK.2.1 hK.2.2.2.2.2.2.2.2 ⟨by omega, by omega⟩ (by simp only [List.length_append, List.length_cons, List.length_nil]; omega) (fun lay3 M3 E3 p3 hS3 => ?_)
      have hK := hK.app E3 p3 hS3
      refine ⟨_, rfl, ?_⟩
      refine X.cs (cn' := cn + 4) (ck' := ck + 8192) ?_ (Nat.le_refl _) (Nat.le_refl _)
      refine x_bipush (pc := 309) dL_law_309 (by decide) ?_
      refine x_callV (pc := 311) [_] rfl kL_152 dL_law_311 hK.2.2.2.2.2.2.2.2.kn.1 rfl rfl (by decide) (Nat.le_of_ble_eq_true rfl) (Nat.le_of_ble_eq_true rfl) (show _ + 1 ≤ 600086 ∧ _ + 2048 ≤ 7301442 by omega) ?_
      refine sp_J4_appendC hK.2.2.2.2.2.2.2.2 ⟨by decide, by decide⟩ (by simp only [List.length_append, List.length_cons, List.length_nil]; omega) (fun lay3 M3 E3 p3 hS3 => ?_)
      have hK := hK.app E3 p3 hS3
      refine ⟨_, rfl, ?_⟩
      refine X.cs (cn' := cn + 5) (ck' := ck + 10240) ?_ (Nat.le_refl _) (Nat.le_refl _)
      refine x_pop (pc := 314) dL_law_314 rfl ?_
      refine x_iinc (pc := 315) dL_law_315 rfl (by decide) (L' := [(13, _), (1, _), (2, _), (3, _), (7, _), (10, _), (11, _), (12, _)]) rfl ?_
      refine x_goto (pc := 318) (t := 257) dL_law_318 (by decide) ?_
      refine X.loc [0, 1, 2, 3, 4, 5, 6, 7] (L' := [(13, _), (1, _), (2, _), (3, _), (7, _), (10, _), (11, _), (12, _)]) rfl ?_
      have ec : ∀ i, i < p → fup co p (z - 30) i = co i := fun i hi => fup_n9 _ _ (by omega)
      refine ih (p + 1) (by omega) _ _ _ _ (nn + 1) (fup co p (z - 30)) ?_ ?_ (by omega) (fun i hi => ?_) ?_
      · omega
      · omega
      · by_cases c9 : i = p
        · subst c9
          rw [fup_s9]
          omega
        · rw [fup_n9 _ _ c9]
          exact hco i (by omega)
      · simp only [stT, Pd]
        rw [stT_cong p ec, Pd_cong p ec, fup_s9]
        simp only [← List.append_assoc]
        exact hK
