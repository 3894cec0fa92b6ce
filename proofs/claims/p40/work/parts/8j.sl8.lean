/-! The law's end: the best term; the turns written and played anew. -/
def LwI (g : GG) (lay : Lay) (M : Mem) (d b c t pw nn : Nat) (hc : Int) (sx : List Int) (T : CT) : Prop := (d + 1 = b ∧ b + 32 = c ∧ c + 8 ≤ t) ∧ JcP g lay M ∧ ToP g lay M d nn ∧ Ds g lay M b T ∧ (∃ A u, Dh A u M b ∧ 0 ≤ u ∧ u ≤ 12) ∧ (∃ tx n v cm, Rd tx n v M (b + 25) ∧ Cm cm M (b + 25)) ∧ LcQ g lay M c pw (tS T) (tP T) (laF T) (tN T) (hpF T) hc (tO T) (tB T) ∧ LcL g lay M c (tK T) (tL T) ∧ SbP g lay M t sx
theorem SbP.fr {g : GG} {lay lay2 : Lay} {M M2 : Mem} {t : Nat} {s : List Int} (h : SbP g lay M t s) (e : Ext lay lay2) (p1 : ∀ i, M2 t i = M t i) (p2 : ∀ v cap, KN lay v (3, cap, fun _ => none) → t < v → ∀ i, M2 v i = M v i) : SbP g lay2 M2 t s := by
  obtain ⟨v, cap, hb, wb, bv, hv, m0, m1, m3, lc, lc2, mt⟩ := h
  exact ⟨v, cap, hb.ext e, wb, bv, hv.ext e, (p1 _).trans m0, (p1 _).trans m1, (p1 _).trans m3, lc, lc2, fun i hi => (p2 v cap hv bv _).trans (mt i hi)⟩
theorem SbP.lt {g : GG} {lay : Lay} {M : Mem} {t : Nat} {s : List Int} (h : SbP g lay M t s) : t < lay.2 := by
  obtain ⟨v, cap, hb, -⟩ := h
  exact hb.2
theorem Rd.mem {tx : Nat → Int} {n : Nat} {v : Nat → Int} {M M' : Mem} {c : Nat} (h : Rd tx n v M c) (p : ∀ y i, c ≤ y → y < c + 2 → M' y i = M y i) : Rd tx n v M' c := ⟨h.1, fun j a b => (p _ _ (by omega) (by omega)).trans (h.2.1 j a b), fun i hi => (p _ _ (by omega) (by omega)).trans (h.2.2 i hi)⟩
theorem Cm.mem {cm : Nat → Int} {M M' : Mem} {c : Nat} (h : Cm cm M c) (p : ∀ i, M' (c + 2) i = M (c + 2) i) : Cm cm M' c := fun i hi => (p i).trans (h i hi)
theorem Dh.mem {A : Nat → Int} {u : Int} {M M' : Mem} {b : Nat} (h : Dh A u M b) (p1 : ∀ i, M' b i = M b i) (p2 : ∀ i, M' (b + 30) i = M (b + 30) i) : Dh A u M' b := ⟨fun i hi => (p2 i).trans (h.1 i hi), (p1 _).trans h.2⟩
theorem StP.fr {lay lay2 : Lay} {M M2 : Mem} {a : Nat} {s : List Int} (h : StP lay M a s) (e : Ext lay lay2) (p1 : ∀ i, M2 a i = M a i) (p2 : ∀ v, M a 0 = er v → KN lay v (3, s.length, fun _ => none) → ∀ i, M2 v i = M v i) : StP lay2 M2 a s := by
  obtain ⟨h1, h2, v, h3, h4, h5⟩ := h
  exact ⟨h1.ext e, (p1 _).trans h2, v, (p1 _).trans h3, h4.ext e, fun i hi => (p2 v h3 h4 _).trans (h5 i hi)⟩
/-- what the class keeps while it answers, and what the law keeps -/
theorem LwI.scr {g : GG} {lay lay2 : Lay} {M M2 : Mem} {d b c t pw nn : Nat} {hc : Int} {sx : List Int} {T : CT} (h : LwI g lay M d b c t pw nn hc sx T) (E : Ext lay lay2) (p : ∀ y i, y < lay.2 → ¬ (b + 8 ≤ y ∧ y < b + 15 ∨ b + 16 ≤ y ∧ y < b + 25 ∨ y = b + 31) → M2 y i = M y i) : LwI g lay2 M2 d b c t pw nn hc sx T := by
  obtain ⟨⟨h1, h2, h2b⟩, hJ, hT, hD, ⟨A, u, hA, hu⟩, ⟨tx, n, v, cm, hR, hC⟩, hQ, hL, hS⟩ := h
  have b1 := hS.lt
  have bw := hD.2.1
  have td := hT.1.2
  refine ⟨⟨h1, h2, h2b⟩, hJ.ext E (n := g.2.1) (fun y i hy => p y i (by omega) (by omega)) (Nat.le_refl _), hT.ext E (fun i => p _ i (by omega) (by omega)), hD.ext E (fun y i y1 y2 => p y i (by omega) (by omega)), ⟨A, u, hA.mem (fun i => p _ i (by omega) (by omega)) (fun i => p _ i (by omega) (by omega)), hu⟩, ⟨tx, n, v, cm, hR.mem (fun y i y1 y2 => p y i (by omega) (by omega)), hC.mem (fun i => p _ i (by omega) (by omega))⟩, hQ.ext E (fun y i y1 y2 => p y i (by omega) (by omega)), hL.ext E (fun y i y1 y2 _ _ => p y i (by omega) (by omega)), hS.fr E (fun i => p _ i (by omega) (by omega)) (fun v cap hv hv2 i => p _ i hv.2 (by omega))⟩
theorem LwI.ar {g : GG} {lay : Lay} {M : Mem} {d b c t pw nn : Nat} {hc : Int} {sx : List Int} {T : CT} (h : LwI g lay M d b c t pw nn hc sx T) : ArI g lay M lay M b c pw T (laF T) (tN T) (hpF T) hc (tO T) := ⟨⟨Ext.rf, fun _ _ _ => rfl⟩, h.2.2.2.1, h.2.2.2.2.2.2.1⟩
theorem Pg.mem {pg : List Int} {M M' : Mem} {c : Nat} (h : Pg pg M c) (p : ∀ y i, c ≤ y → y < c + 2 → M' y i = M y i) : Pg pg M' c := ⟨(p _ _ (by omega) (by omega)).trans h.1, h.2.1, fun i hi => (p _ _ (by omega) (by omega)).trans (h.2.2 i hi)⟩
def GoodRt : Prop := ∀ T pw, WfT T → PwR T pw → (zerQ pw (tP T) (-1) → RtZ T) ∧ (¬ zerQ pw (tP T) (-1) → RtF T pw)
/-- how many semicolons stand in the first places -/
def c59 (l : List Int) : Nat → Int
  | 0 => 0
  | n + 1 => c59 l n + (if l.getD n 0 = 59 then 1 else 0)
theorem c59_rng (l : List Int) : ∀ n : Nat, 0 ≤ c59 l n ∧ c59 l n ≤ n
  | 0 => by simp [c59]
  | n + 1 => by
    have := c59_rng l n
    simp only [c59]
    split <;> omega
/-- the settings told as a text are read to T0, with so many statements -/
def SetOK (sx : List Int) (st : Int) (T0 : CT) : Prop := (sx.length < 600 ∧ ∀ i, i < sx.length → 0 ≤ sx.getD i 0 ∧ sx.getD i 0 < 128) ∧ ∀ tx v, (∀ i, i < sx.length → tx i = sx.getD i 0) → (setupF tx sx.length v tNew).1 = 1 ∧ (setupF tx sx.length v tNew).2.1 5 = st ∧ (setupF tx sx.length v tNew).2.2 = T0
/-- the turns written are played to T -/
def PlayOK (T0 T : CT) : Prop := ((writeT T).length < 600 ∧ ∀ i, i < (writeT T).length → 0 ≤ (writeT T).getD i 0 ∧ (writeT T).getD i 0 < 128) ∧ ∀ tx v cm A u, (∀ i, i < (writeT T).length → tx i = (writeT T).getD i 0) → (playF (scriptF tx (writeT T).length (tS T0 0) v cm) T0 A u).1 = c59 (writeT T) (writeT T).length ∧ (playF (scriptF tx (writeT T).length (tS T0 0) v cm) T0 A u).2.1 = T
theorem undF_u {u r : Int} (h : 0 ≤ u ∧ u ≤ 12) : 0 ≤ undF u r ∧ undF u r ≤ 12 := by
  unfold undF
  split <;> omega
theorem loopP_u (cm : Nat → Int) : ∀ (d j : Nat) (T : CT) (A : Nat → Int) (u : Int), 0 ≤ u ∧ u ≤ 12 → 0 ≤ (loopP cm d j T A u).2.2.2 ∧ (loopP cm d j T A u).2.2.2 ≤ 12
  | 0, _, _, _, _, h => h
  | d + 1, j, T, A, u, h => by
    unfold loopP
    split
    · exact undF_u h
    · exact loopP_u cm d (j + 1) _ _ _ (undF_u h)
theorem playF_u (U : SC3) (T : CT) (A : Nat → Int) {u : Int} (h : 0 ≤ u ∧ u ≤ 12) : 0 ≤ (playF U T A u).2.2.2 ∧ (playF U T A u).2.2.2 ≤ 12 := by
  unfold playF
  split
  · exact h
  · exact loopP_u _ _ _ _ _ _ h
theorem StP.nb {lay : Lay} {M : Mem} {a b : Nat} {sv : Nat → Option Nat} {s : List Int} (h : StP lay M a s) (hd : DuL lay b sv) (hl : s.length < 600) : ∀ v, M a 0 = er v → ¬ (b + 25 ≤ v ∧ v < b + 27) := fun v hv hn => by
  obtain ⟨h1, h2, v2, h3, h4, h5⟩ := h
  have e := er_inj (hv.symm.trans h3)
  subst e
  have g0 := hd.2.2.2.2.2.1.1
  have g1 := hd.2.2.2.2.2.1.2.1
  rcases (show v = b + 25 ∨ v = b + 25 + 1 by omega) with rfl | rfl
  · have := h4.1.symm.trans g0
    injection this with q
    injection q with q1 q2
    exact absurd q1 (by decide)
  · have := h4.1.symm.trans g1
    injection this with q
    injection q with q1 q2
    injection q2 with q3 q4
    omega

theorem SbP.kn {g : GG} {lay : Lay} {M : Mem} {t : Nat} {s : List Int} (h : SbP g lay M t s) : KN lay t (0, 8, fun _ => none) := by
  obtain ⟨v, cap, hb, -⟩ := h
  exact hb
theorem tk_app (l : List Int) {k : Nat} (h : k < l.length) : l.take k ++ [l.getD k 0] = l.take (k + 1) := by
  rw [List.take_succ, List.getD_eq_getElem?_getD, List.getElem?_eq_getElem h]
  rfl
theorem LwI.pg {g : GG} {lay : Lay} {M M2 : Mem} {d b c t pw nn : Nat} {hc : Int} {sx : List Int} {T : CT} (h : LwI g lay M d b c t pw nn hc sx T) (p : Frm (b + 28) (b + 30) M M2) : LwI g lay M2 d b c t pw nn hc sx T := by
  obtain ⟨⟨h1, h2, h2b⟩, hJ, hT, hD, ⟨A, u, hA, hu⟩, ⟨tx, n, v, cm, hR, hC⟩, hQ, hL, hS⟩ := h
  have E : Ext lay lay := Ext.rf
  have bw := hD.2.1
  have td := hT.1.2
  refine ⟨⟨h1, h2, h2b⟩, hJ.ext E (n := g.2.1) (fun y i hy => p y i (by omega)) (Nat.le_refl _), hT.ext E (fun i => p _ i (by omega)), hD.ext E (fun y i y1 y2 => p y i (by omega)), ⟨A, u, hA.mem (fun i => p _ i (by omega)) (fun i => p _ i (by omega)), hu⟩, ⟨tx, n, v, cm, hR.mem (fun y i y1 y2 => p y i (by omega)), hC.mem (fun i => p _ i (by omega))⟩, hQ.ext E (fun y i y1 y2 => p y i (by omega)), hL.ext E (fun y i y1 y2 _ _ => p y i (by omega)), hS.fr E (fun i => p _ i (by omega)) (fun v cap hv hv2 i => p _ i (by omega))⟩

set_option maxRecDepth 100000 in
theorem law_fin {g : GG} {lay : Lay} {M : Mem} {K : KK} {d b c t pw nn a3 : Nat} {hc st : Int} {sx : List Int} {T T0 : CT} (gB : GoodB) (hI : LwI g lay M d b c t pw nn hc sx T) (hSet : SetOK sx st T0) (hst : 0 ≤ st ∧ st ≤ 20) (hW0 : WfT T0) (hO0 : WfO T0) (hWf : WfT T) (scr : -200 ≤ scoreF T (buildF (tP T)) 0 ∧ scoreF T (buildF (tP T)) 0 ≤ 200) (hT3 : StP lay M a3 (writeT T)) (hta : t < a3) (hv3 : ∀ v, M a3 0 = er v → c < v) (hPl : PlayOK T0 T) (k : ∀ lay2 M2, K (.inl (some (vI 1))) lay2 M2) : X g m_L_law 300000 6000000 lay M 1141 [(17, vR a3), (18, vI (c59 (writeT T) (writeT T).length)), (16, vI (tN T : Nat)), (15, vI (scoreF T (buildF (tP T)) 0)), (2, vR b), (11, vR t), (12, vI (st - 6))] [] K := by
  obtain ⟨⟨wl, wc⟩, wp⟩ := hPl
  obtain ⟨⟨sl, sc⟩, sp⟩ := hSet
  have ha1 := hI.1
  have n60 := hWf.n60
  have cr := c59_rng (writeT T) (writeT T).length
  have hbw := hI.2.2.2.1.2.1
  have hbl := hI.2.2.2.1.2.2.1
  obtain ⟨A, u, hA, hu0, hu1⟩ := hI.2.2.2.2.1
  obtain ⟨tx, n, v, cm, hR, hC⟩ := hI.2.2.2.2.2.1
  have hd := hI.2.2.2.1.1
  have htl := hI.2.2.2.2.2.2.2.2.lt
  have hS := hI.2.2.2.2.2.2.2.2
  refine x_aload_n (pc := 1141) dL_law_1141 rfl rfl ?_
  refine x_aload (pc := 1142) dL_law_1142 rfl ?_
  refine x_callV (pc := 1144) [] rfl kL_143 dL_law_1144 hS.kn.1 rfl rfl (by decide) (Nat.le_of_ble_eq_true rfl) (Nat.le_of_ble_eq_true rfl) (by decide) ?_
  refine sp_J4_toString_0e30d hS (by omega) (fun a4 lay4 M4 e4 E4 p4 hT4 hv4 => ?_)
  have l3 := hT3.1.2
  have hT3 := hT3.ext E4 p4 (Nat.le_refl _)
  have hv3 : ∀ v, M4 a3 0 = er v → c < v := fun v h => hv3 v ((p4 _ _ (by omega)).symm.trans h)
  have hA := hA.mem (M' := M4) (fun i => p4 _ i (by omega)) (fun i => p4 _ i (by omega))
  have hR := hR.mem (M' := M4) (fun y i y1 y2 => p4 _ i (by omega))
  have hC := hC.mem (M' := M4) (fun i => p4 _ i (by omega))
  have hd := (Ds.ext hI.2.2.2.1 E4 (fun y i y1 y2 => p4 y i (by omega))).1
  refine ⟨_, rfl, ?_⟩
  refine x_callS (pc := 1147) [_, _] rfl kL_155 dL_law_1147 rfl (by decide) (Nat.le_of_ble_eq_true rfl) (Nat.le_of_ble_eq_true rfl) (by decide) ?_
  refine sp_L_puts hd hbw hR hT4 (by omega) sc (by omega) (fun v h => by have := hv4 v h; omega) (fun M5 tx5 v5 hF5 hR5 htx5 => ?_)
  obtain ⟨s1, s2, s3⟩ := sp tx5 v5 htx5
  refine ⟨_, rfl, ?_⟩
  refine x_aload_n (pc := 1150) dL_law_1150 rfl rfl ?_
  refine x_callV (pc := 1151) [] rfl kL_159 dL_law_1151 hd.1 rfl rfl (by decide) (Nat.le_of_ble_eq_true rfl) (Nat.le_of_ble_eq_true rfl) (by decide) ?_
  refine sp_X4_load hd hbw hR5 (fun M6 hF6 hR6 h61 h60 => ?_)
  rw [if_pos s1, s2]
  obtain ⟨hCt, hu6⟩ := h61 s1
  rw [s3] at hCt
  have hA6 : Dh A 0 M6 b := ⟨fun i hi => (hF6 _ _ (by omega) (by omega)).trans ((hF5 _ _ (by omega)).trans (hA.1 i hi)), hu6⟩
  have hC6 := hC.mem (M' := M6) (fun i => (hF6 _ _ (by omega) (by omega)).trans (hF5 _ _ (by omega)))
  have hq : ∀ y i, c ≤ y → M6 y i = M4 y i := fun y i hy => (hF6 _ _ (by omega) (by omega)).trans (hF5 _ _ (by omega))
  have hT6 := hT3.fr (M2 := M6) Ext.rf (fun i => hq _ i (by omega)) (fun v h _ i => hq _ i (by have := hv3 v h; omega))
  refine ⟨_, rfl, ?_⟩
  refine x_bipush (pc := 1154) dL_law_1154 (by decide) ?_
  refine x_iload (pc := 1156) dL_law_1156 rfl ?_
  refine x_iadd (pc := 1158) dL_law_1158 ?_
  refine x_icmp_eq (pc := 1159) (t := 1164) dL_law_1159 (by decide) ⟨by omega, by omega⟩ ⟨by omega, by omega⟩ (fun c1159 => ?_) (fun c1159 => ?_)
  · refine x_aload_n (pc := 1164) dL_law_1164 rfl rfl ?_
    refine x_aload (pc := 1165) dL_law_1165 rfl ?_
    refine x_callS (pc := 1167) [_, _] rfl kL_155 dL_law_1167 rfl (by decide) (Nat.le_of_ble_eq_true rfl) (Nat.le_of_ble_eq_true rfl) (by decide) ?_
    refine sp_L_puts hd hbw hR6 hT6 (by omega) wc (by omega) (fun v h => by have := hv3 v ((hq _ _ (by omega)).symm.trans h); omega) (fun M7 tx7 v7 hF7 hR7 htx7 => ?_)
    obtain ⟨p1, p2⟩ := wp tx7 v7 cm A 0 htx7
    have hC7 := hC6.mem (M' := M7) (fun i => hF7 _ _ (by omega))
    have hA7 := hA6.mem (M' := M7) (fun i => hF7 _ _ (by omega)) (fun i => hF7 _ _ (by omega))
    have hCt7 : Ct T0 M7 (b + 1) := hCt.gen (fun a j q1 q2 => hF7 a j (by omega))
    refine ⟨_, rfl, ?_⟩
    refine x_aload_n (pc := 1170) dL_law_1170 rfl rfl ?_
    refine x_callV (pc := 1171) [] rfl kL_262 dL_law_1171 hd.1 rfl rfl (by decide) (Nat.le_of_ble_eq_true rfl) (Nat.le_of_ble_eq_true rfl) (by decide) ?_
    refine sp_X4_play gB hd hbw hCt7 hW0 hA7 ⟨by decide, by decide⟩ hO0 hR7 hC7 (fun M8 hF8 hR8 hC8 hCt8 hA8 => ?_)
    rw [p1]
    rw [p2] at hCt8
    have hu8 := playF_u (scriptF tx7 (writeT T).length (tS T0 0) v7 cm) T0 A (u := 0) (by decide)
    generalize (playF (scriptF tx7 (writeT T).length (tS T0 0) v7 cm) T0 A 0).2.2.2 = u8 at hA8 hu8
    refine ⟨_, rfl, ?_⟩
    refine x_iload (pc := 1174) dL_law_1174 rfl ?_
    refine x_icmp_ne (pc := 1176) (t := 1205) dL_law_1176 (by decide) ⟨by omega, by omega⟩ ⟨by omega, by omega⟩ (fun c1176 => ?_) (fun c1176 => ?_)
    · exfalso; omega
    · refine x_aload_n (pc := 1179) dL_law_1179 rfl rfl ?_
      refine x_iconst (pc := 1180) dL_law_1180 ?_
      refine x_iconst (pc := 1181) dL_law_1181 ?_
      refine x_callV (pc := 1182) [_, _] rfl kL_247 dL_law_1182 hd.1 rfl rfl (by decide) (Nat.le_of_ble_eq_true rfl) (Nat.le_of_ble_eq_true rfl) (by decide) ?_
      refine sp_X4_player gB hd hbw hCt8 hWf ⟨by omega, by omega⟩ ⟨by omega, by omega⟩ (fun M9 n9 hn9 hS9 => ?_)
      rw [show rPlayer T 0 0 = oI (scoreF T (buildF (tP T)) 0) from (if_neg (fun h => h (Or.inl rfl))).trans (if_neg (fun h => h ⟨by decide, by decide⟩))]
      have hCt9 : Ct T M9 (b + 1) := hCt8.gen (fun a j q1 q2 => hS9 a j (by omega) (by omega) (by omega))
      have hA9 := hA8.mem (M' := M9) (fun i => hS9 _ _ (by omega) (by omega) (by omega)) (fun i => hS9 _ _ (by omega) (by omega) (by omega))
      have hd := hd.up (l' := (lay4.1, n9)) rfl
      refine ⟨_, rfl, ?_⟩
      refine x_iload (pc := 1185) dL_law_1185 rfl ?_
      refine x_icmp_ne (pc := 1187) (t := 1205) dL_law_1187 (by decide) ⟨by omega, by omega⟩ ⟨by omega, by omega⟩ (fun c1187 => ?_) (fun c1187 => ?_)
      · exfalso; omega
      · refine x_aload_n (pc := 1190) dL_law_1190 rfl rfl ?_
        refine x_bipush (pc := 1191) dL_law_1191 (by decide) ?_
        refine x_callV (pc := 1193) [_] rfl kL_240 dL_law_1193 hd.1 rfl rfl (by decide) (Nat.le_of_ble_eq_true rfl) (Nat.le_of_ble_eq_true rfl) (by decide) ?_
        refine sp_X4_count gB hd hbw hCt9 hWf hA9 hu8 ⟨by omega, by omega⟩ (fun M3 n3 hn3 hS3 => ?_)
        rw [show rCount T u8 7 = oI (tN T : Nat) from if_neg (fun h => h ⟨by decide, by decide⟩)]
        refine ⟨_, rfl, ?_⟩
        refine x_iload (pc := 1196) dL_law_1196 rfl ?_
        refine x_icmp_ne (pc := 1198) (t := 1205) dL_law_1198 (by decide) ⟨by omega, by omega⟩ ⟨by omega, by omega⟩ (fun c1198 => ?_) (fun c1198 => ?_)
        · exfalso; omega
        · refine x_iconst (pc := 1201) dL_law_1201 ?_
          refine x_goto (pc := 1202) (t := 1206) dL_law_1202 (by decide) ?_
          refine x_zret (pc := 1206) dL_law_1206 rfl ⟨by omega, by omega⟩ (by decide) (by decide) ?_
          exact k _ _
  · exfalso; omega
set_option maxRecDepth 100000 in
theorem law_end {g : GG} {lay : Lay} {M : Mem} {K : KK} {d b c t pw nn cn ck : Nat} {hc st : Int} {sx : List Int} {T T0 : CT} (gB : GoodB) (gC : ∀ P, WfP P → cntOK 5 (buildF P)) (gR : GoodRt) (hI : LwI g lay M d b c t pw nn hc sx T) (hP : PwR T pw) (hh : HcR T hc) (hO : WfO T) (hB : tO T = 0 → tB T = -1) (hSet : SetOK sx st T0) (hst : 0 ≤ st ∧ st ≤ 20) (hW0 : WfT T0) (hO0 : WfO T0) (hPl : PlayOK T0 T) (hcn : cn ≤ 100000) (hck : ck ≤ 4000000) (k : ∀ lay2 M2, K (.inl (some (vI 1))) lay2 M2) : X g m_L_law cn ck lay M 1000 [(2, vR b), (10, vR c), (11, vR t), (12, vI (st - 6))] [] K := by
  have hWf : WfT T := hI.2.2.2.1.2.2.2.2
  have hWl := LcW.of hWf hP hh
  have ha1 := hI.1
  obtain ⟨⟨wl, wc⟩, wp⟩ := hPl
  have scr := scoreF_rng hWf (buildF (tP T)) (pl := 0) (by decide)
  have n60 := hWf.n60
  -- semicolons counted, all played anew
  have stC : ∀ (a3 dd kk : Nat), kk + dd = (writeT T).length → ∀ (lay2 : Lay) (M2 : Mem), LwI g lay2 M2 d b c t pw nn hc sx T → StP lay2 M2 a3 (writeT T) → t < a3 → (∀ v, M2 a3 0 = er v → c < v) → X g m_L_law 300000 6000000 lay2 M2 1106 [(19, vI (kk : Nat)), (18, vI (c59 (writeT T) kk)), (17, vR a3), (16, vI (tN T : Nat)), (15, vI (scoreF T (buildF (tP T)) 0)), (13, vI ((writeT T).length : Nat)), (2, vR b), (10, vR c), (11, vR t), (12, vI (st - 6))] [] K := by
    intro a3 dd
    induction dd with
    | zero =>
      intro kk hk lay2 M2 hI hT3 hta hv3
      have ek : kk = (writeT T).length := by omega
      subst ek
      refine x_iload (pc := 1106) dL_law_1106 rfl ?_
      refine x_iload (pc := 1108) dL_law_1108 rfl ?_
      refine x_icmp_ge (pc := 1110) (t := 1141) dL_law_1110 (by decide) ⟨by omega, by omega⟩ ⟨by omega, by omega⟩ (fun c1110 => ?_) (fun c1110 => ?_)
      · refine X.loc [2, 1, 3, 4, 6, 8, 9] (L' := [(17, _), (18, _), (16, _), (15, _), (2, _), (11, _), (12, _)]) rfl ?_
        exact law_fin gB hI hSet hst hW0 hO0 hWf scr hT3 hta hv3 ⟨⟨wl, wc⟩, wp⟩ k
      · exfalso; omega
    | succ dd ih =>
      intro kk hk lay2 M2 hI hT3 hta hv3
      have w9 := wc kk (by omega)
      have cr := c59_rng (writeT T) kk
      have c9 : c59 (writeT T) (kk + 1) = c59 (writeT T) kk + (if (writeT T).getD kk 0 = 59 then 1 else 0) := rfl
      refine x_iload (pc := 1106) dL_law_1106 rfl ?_
      refine x_iload (pc := 1108) dL_law_1108 rfl ?_
      refine x_icmp_ge (pc := 1110) (t := 1141) dL_law_1110 (by decide) ⟨by omega, by omega⟩ ⟨by omega, by omega⟩ (fun c1110 => ?_) (fun c1110 => ?_)
      · exfalso; omega
      · refine x_iload (pc := 1113) dL_law_1113 rfl ?_
        refine x_aload (pc := 1115) dL_law_1115 rfl ?_
        refine x_iload (pc := 1117) dL_law_1117 rfl ?_
        refine x_callV (pc := 1119) [_] rfl kL_20 dL_law_1119 hT3.1.1 rfl rfl (by decide) (Nat.le_of_ble_eq_true rfl) (Nat.le_of_ble_eq_true rfl) (by decide) ?_
        refine sp_J0_charAt_m hT3 (by omega) (by omega) (by omega) (by rw [Int.toNat_natCast]; exact w9) ?_
        rw [Int.toNat_natCast]
        refine ⟨_, rfl, ?_⟩
        refine x_bipush (pc := 1122) dL_law_1122 (by decide) ?_
        refine x_icmp_ne (pc := 1124) (t := 1131) dL_law_1124 (by decide) ⟨by omega, by omega⟩ ⟨by omega, by omega⟩ (fun c1124 => ?_) (fun c1124 => ?_)
        · refine x_iconst (pc := 1131) dL_law_1131 ?_
          refine x_iadd (pc := 1132) dL_law_1132 ?_
          refine x_istore (pc := 1133) dL_law_1133 trivial (by decide) (L' := [(18, _), (19, _), (17, _), (16, _), (15, _), (13, _), (2, _), (10, _), (11, _), (12, _)]) rfl ?_
          refine x_iinc (pc := 1135) dL_law_1135 rfl (by decide) (L' := [(19, _), (18, _), (17, _), (16, _), (15, _), (13, _), (2, _), (10, _), (11, _), (12, _)]) rfl ?_
          refine x_goto (pc := 1138) (t := 1106) dL_law_1138 (by decide) ?_
          refine X.loc [0, 1, 2, 3, 4, 5, 6, 7, 8, 9] (L' := [(19, _), (18, _), (17, _), (16, _), (15, _), (13, _), (2, _), (10, _), (11, _), (12, _)]) rfl ?_
          have l1 := ih (kk + 1) (by omega) lay2 M2 hI hT3 hta hv3
          rw [c9] at l1
          first
          | (rw [if_pos (by assumption)] at l1; exact l1)
          | (rw [if_neg (by assumption)] at l1; exact l1)
        · refine x_iconst (pc := 1127) dL_law_1127 ?_
          refine x_goto (pc := 1128) (t := 1132) dL_law_1128 (by decide) ?_
          refine x_iadd (pc := 1132) dL_law_1132 ?_
          refine x_istore (pc := 1133) dL_law_1133 trivial (by decide) (L' := [(18, _), (19, _), (17, _), (16, _), (15, _), (13, _), (2, _), (10, _), (11, _), (12, _)]) rfl ?_
          refine x_iinc (pc := 1135) dL_law_1135 rfl (by decide) (L' := [(19, _), (18, _), (17, _), (16, _), (15, _), (13, _), (2, _), (10, _), (11, _), (12, _)]) rfl ?_
          refine x_goto (pc := 1138) (t := 1106) dL_law_1138 (by decide) ?_
          refine X.loc [0, 1, 2, 3, 4, 5, 6, 7, 8, 9] (L' := [(19, _), (18, _), (17, _), (16, _), (15, _), (13, _), (2, _), (10, _), (11, _), (12, _)]) rfl ?_
          have l1 := ih (kk + 1) (by omega) lay2 M2 hI hT3 hta hv3
          rw [c9] at l1
          first
          | (rw [if_pos (by assumption)] at l1; exact l1)
          | (rw [if_neg (by assumption)] at l1; exact l1)
  -- the turns told
  have stB : ∀ (t2 : Nat) (layB : Lay) (MB : Mem), LwI g layB MB d b c t pw nn hc sx T → Pg (writeT T) MB (b + 28) → layB.2 ≤ t2 → ∀ (dd kk : Nat), kk + dd = (writeT T).length → ∀ (lay2 : Lay) (M2 : Mem) (cn ck : Nat), cn ≤ 101000 + kk → ck ≤ 4010000 + 2048 * kk → Ext layB lay2 → (∀ y i, y < layB.2 → M2 y i = MB y i) → SbP g lay2 M2 t2 ((writeT T).take kk) → X g m_L_law cn ck lay2 M2 1038 [(15, vI (kk : Nat)), (14, vR t2), (13, vI ((writeT T).length : Nat)), (2, vR b), (10, vR c), (11, vR t), (12, vI (st - 6))] [] K := by
    intro t2 layB MB hIB hpgB htB dd
    have hbB := hIB.2.2.2.2.2.2.2.2.lt
    have had := hIB.1
    have hdB := hIB.2.2.2.1.2.2.1
    induction dd with
    | zero =>
      intro kk hk lay2 M2 cn ck hcn hck EB pB hS2
      have hI := hIB.scr EB (fun y i h _ => pB y i h)
      have ek : kk = (writeT T).length := by omega
      subst ek
      rw [List.take_length] at hS2
      obtain ⟨A, u, hA, hu0, hu1⟩ := hI.2.2.2.2.1
      refine X.cs (cn' := 102000) (ck' := 5300000) ?_ (by omega) (by omega)
      refine x_iload (pc := 1038) dL_law_1038 rfl ?_
      refine x_iload (pc := 1040) dL_law_1040 rfl ?_
      refine x_icmp_ge (pc := 1042) (t := 1064) dL_law_1042 (by decide) ⟨by omega, by omega⟩ ⟨by omega, by omega⟩ (fun c1042 => ?_) (fun c1042 => ?_)
      · refine x_aload_n (pc := 1064) dL_law_1064 rfl rfl ?_
        refine x_iconst (pc := 1065) dL_law_1065 ?_
        refine x_iconst (pc := 1066) dL_law_1066 ?_
        refine x_callV (pc := 1067) [_, _] rfl kL_247 dL_law_1067 hI.2.2.2.1.1.1 rfl rfl (by decide) (Nat.le_of_ble_eq_true rfl) (Nat.le_of_ble_eq_true rfl) (by decide) ?_
        refine sp_X4_player gB hI.2.2.2.1.1 hI.2.2.2.1.2.1 hI.2.2.2.1.2.2.2.1 hI.2.2.2.1.2.2.2.2 ⟨by omega, by omega⟩ ⟨by omega, by omega⟩ (fun M3 n3 hn3 hS3 => ?_)
        have hS2 := hS2.fr (Ext.up (lay2 := (_, n3)) rfl hn3) (fun i => hS3 _ _ (by omega) (by omega) (by omega)) (fun v cap hv hv2 i => hS3 _ _ (by omega) (by omega) (by omega))
        have hI := hI.scr (Ext.up (lay2 := (_, n3)) rfl hn3) (fun y i _ h => hS3 y i (by omega) (by omega) (by omega))
        rw [show rPlayer T 0 0 = oI (scoreF T (buildF (tP T)) 0) from (if_neg (fun h => h (Or.inl rfl))).trans (if_neg (fun h => h ⟨by decide, by decide⟩))]
        refine ⟨_, rfl, ?_⟩
        refine x_istore (pc := 1070) dL_law_1070 trivial (by decide) (L' := [(15, _), (14, _), (13, _), (2, _), (10, _), (11, _), (12, _)]) rfl ?_
        refine x_aload_n (pc := 1072) dL_law_1072 rfl rfl ?_
        refine x_bipush (pc := 1073) dL_law_1073 (by decide) ?_
        refine x_callV (pc := 1075) [_] rfl kL_240 dL_law_1075 hI.2.2.2.1.1.1 rfl rfl (by decide) (Nat.le_of_ble_eq_true rfl) (Nat.le_of_ble_eq_true rfl) (by decide) ?_
        refine sp_X4_count gB hI.2.2.2.1.1 hI.2.2.2.1.2.1 hI.2.2.2.1.2.2.2.1 hI.2.2.2.1.2.2.2.2 (hA.mem (fun i => hS3 _ _ (by omega) (by omega) (by omega)) (fun i => hS3 _ _ (by omega) (by omega) (by omega))) ⟨hu0, hu1⟩ ⟨by omega, by omega⟩ (fun M3 n3 hn3 hS3 => ?_)
        have hS2 := hS2.fr (Ext.up (lay2 := (_, n3)) rfl hn3) (fun i => hS3 _ _ (by omega) (by omega) (by omega)) (fun v cap hv hv2 i => hS3 _ _ (by omega) (by omega) (by omega))
        have hI := hI.scr (Ext.up (lay2 := (_, n3)) rfl hn3) (fun y i _ h => hS3 y i (by omega) (by omega) (by omega))
        rw [show rCount T u 7 = oI (tN T : Nat) from if_neg (fun h => h ⟨by decide, by decide⟩)]
        refine ⟨_, rfl, ?_⟩
        refine x_istore (pc := 1078) dL_law_1078 trivial (by decide) (L' := [(16, _), (15, _), (14, _), (13, _), (2, _), (10, _), (11, _), (12, _)]) rfl ?_
        refine x_aload (pc := 1080) dL_law_1080 rfl ?_
        refine x_callV (pc := 1082) [] rfl kL_143 dL_law_1082 hS2.kn.1 rfl rfl (by decide) (Nat.le_of_ble_eq_true rfl) (Nat.le_of_ble_eq_true rfl) (by decide) ?_
        refine sp_J4_toString_0e30d hS2 (by omega) (fun a3 lay4 M4 e4 E4 p4 hT3 hv3 => ?_)
        have htl := hS2.lt
        have hI := hI.scr E4 (fun y i h1 h2 => p4 y i h1)
        refine ⟨_, rfl, ?_⟩
        refine x_astore (pc := 1085) dL_law_1085 trivial (by decide) (L' := [(17, _), (16, _), (15, _), (14, _), (13, _), (2, _), (10, _), (11, _), (12, _)]) rfl ?_
        refine x_aload (pc := 1087) dL_law_1087 rfl ?_
        refine x_callV (pc := 1089) [] rfl kL_14 dL_law_1089 hT3.1.1 rfl rfl (by decide) (Nat.le_of_ble_eq_true rfl) (Nat.le_of_ble_eq_true rfl) (by decide) ?_
        refine sp_J0_length_m hT3 (by omega) ?_
        refine ⟨_, rfl, ?_⟩
        refine x_sipush (pc := 1092) dL_law_1092 (by decide) ?_
        refine x_icmp_le (pc := 1095) (t := 1100) dL_law_1095 (by decide) ⟨by omega, by omega⟩ ⟨by omega, by omega⟩ (fun c1095 => ?_) (fun c1095 => ?_)
        · refine x_iconst (pc := 1100) dL_law_1100 ?_
          refine x_istore (pc := 1101) dL_law_1101 trivial (by decide) (L' := [(18, _), (17, _), (16, _), (15, _), (14, _), (13, _), (2, _), (10, _), (11, _), (12, _)]) rfl ?_
          refine x_iconst (pc := 1103) dL_law_1103 ?_
          refine x_istore (pc := 1104) dL_law_1104 trivial (by decide) (L' := [(19, _), (18, _), (17, _), (16, _), (15, _), (14, _), (13, _), (2, _), (10, _), (11, _), (12, _)]) rfl ?_
          refine X.loc [0, 1, 2, 3, 4, 6, 7, 8, 9, 10] (L' := [(19, _), (18, _), (17, _), (16, _), (15, _), (13, _), (2, _), (10, _), (11, _), (12, _)]) rfl ?_
          refine X.cs (cn' := 300000) (ck' := 6000000) ?_ (by decide) (by decide)
          exact stC a3 (writeT T).length 0 (by omega) lay4 M4 hI hT3 (by omega) (fun v h => by have := hv3 v h; omega)
        · exfalso; omega
      · exfalso; omega
    | succ dd ih =>
      intro kk hk lay2 M2 cn ck hcn hck EB pB hS2
      have hI := hIB.scr EB (fun y i h _ => pB y i h)
      have hpg := hpgB.mem (M' := M2) (fun y i y1 y2 => pB y i (by omega))
      have w9 := wc kk (by omega)
      refine x_iload (pc := 1038) dL_law_1038 rfl ?_
      refine x_iload (pc := 1040) dL_law_1040 rfl ?_
      refine x_icmp_ge (pc := 1042) (t := 1064) dL_law_1042 (by decide) ⟨by omega, by omega⟩ ⟨by omega, by omega⟩ (fun c1042 => ?_) (fun c1042 => ?_)
      · exfalso; omega
      · refine x_aload (pc := 1045) dL_law_1045 rfl ?_
        refine x_aload_n (pc := 1047) dL_law_1047 rfl rfl ?_
        refine x_iload (pc := 1048) dL_law_1048 rfl ?_
        refine x_callV (pc := 1050) [_] rfl kL_259 dL_law_1050 hI.2.2.2.1.1.1 rfl rfl (by decide) (Nat.le_of_ble_eq_true rfl) (Nat.le_of_ble_eq_true rfl) (show _ + 0 ≤ 600086 ∧ _ + 0 ≤ 7301442 by omega) ?_
        refine sp_X4_output hI.2.2.2.1.1 hI.2.2.2.1.2.1 hpg ⟨by omega, by omega⟩ ?_
        rw [if_pos (by omega), Int.toNat_natCast]
        refine ⟨_, rfl, ?_⟩
        refine X.cs (cn' := cn) (ck' := ck) ?_ (Nat.le_refl _) (Nat.le_refl _)
        refine x_i2c (pc := 1053) (by omega) (by omega) dL_law_1053 ?_
        refine x_callV (pc := 1054) [_] rfl kL_152 dL_law_1054 hS2.kn.1 rfl rfl (by decide) (Nat.le_of_ble_eq_true rfl) (Nat.le_of_ble_eq_true rfl) (show _ + 1 ≤ 600086 ∧ _ + 2048 ≤ 7301442 by omega) ?_
        refine sp_J4_appendC hS2 w9 (by rw [List.length_take]; omega) (fun lay3 M3 E3 p3 hS2 => ?_)
        rw [tk_app _ (by omega)] at hS2
        refine ⟨_, rfl, ?_⟩
        refine X.cs (cn' := cn + 1) (ck' := ck + 2048) ?_ (Nat.le_refl _) (Nat.le_refl _)
        refine x_pop (pc := 1057) dL_law_1057 rfl ?_
        refine x_iinc (pc := 1058) dL_law_1058 rfl (by decide) (L' := [(15, _), (14, _), (13, _), (2, _), (10, _), (11, _), (12, _)]) rfl ?_
        refine x_goto (pc := 1061) (t := 1038) dL_law_1061 (by decide) ?_
        refine X.loc [0, 1, 2, 3, 4, 5, 6] (L' := [(15, _), (14, _), (13, _), (2, _), (10, _), (11, _), (12, _)]) rfl ?_
        exact ih (kk + 1) (by omega) lay3 M3 _ _ (by omega) (by omega) (EB.tr E3) (fun y i h => (p3 _ _ (by omega)).trans (pB _ _ h)) hS2
  refine X.cs (cn' := 100000) (ck' := 4000000) ?_ hcn hck
  refine x_aload_n (pc := 1000) dL_law_1000 rfl rfl ?_
  refine x_aload (pc := 1001) dL_law_1001 rfl ?_
  refine x_callS (pc := 1003) [_, _] rfl kL_162 dL_law_1003 rfl (by decide) (Nat.le_of_ble_eq_true rfl) (Nat.le_of_ble_eq_true rfl) (by decide) ?_
  refine sp_L_areRoots gB gC hI.ar hWl (by omega) hP.2 (gR T pw hWf hP).1 (gR T pw hWf hP).2 (fun lay3 M3 E3 p3 hD3 => ?_)
  have hI := hI.scr E3 (fun y i _ h => p3 y i h)
  refine ⟨_, rfl, ?_⟩
  refine x_if_eq (pc := 1006) (t := 1018) dL_law_1006 (by decide) ⟨by omega, by omega⟩ (fun c1006 => ?_) (fun c1006 => ?_)
  · exfalso; omega
  · refine x_aload_n (pc := 1009) dL_law_1009 rfl rfl ?_
    refine x_aload (pc := 1010) dL_law_1010 rfl ?_
    refine x_callS (pc := 1012) [_, _] rfl kL_253 dL_law_1012 rfl (by decide) (Nat.le_of_ble_eq_true rfl) (Nat.le_of_ble_eq_true rfl) (by decide) ?_
    refine sp_L_isBest gB hI.ar hP hh hO hB (by omega) (fun lay3 M3 E3 p3 hD3 => ?_)
    have hI := hI.scr E3 (fun y i _ h => p3 y i h)
    refine ⟨_, rfl, ?_⟩
    refine x_if_ne (pc := 1015) (t := 1020) dL_law_1015 (by decide) ⟨by omega, by omega⟩ (fun c1015 => ?_) (fun c1015 => ?_)
    · refine x_aload_n (pc := 1020) dL_law_1020 rfl rfl ?_
      refine x_callV (pc := 1021) [] rfl kL_256 dL_law_1021 hI.2.2.2.1.1.1 rfl rfl (by decide) (Nat.le_of_ble_eq_true rfl) (Nat.le_of_ble_eq_true rfl) (by decide) ?_
      refine sp_X4_writeTurns gB hI.2.2.2.1.1 hI.2.2.2.1.2.1 hI.2.2.2.1.2.2.2.1 hI.2.2.2.1.2.2.2.2 (fun M4 hF4 hpg => ?_)
      have hI := hI.pg hF4
      have hbl := hI.2.2.2.2.2.2.2.2.lt
      refine ⟨_, rfl, ?_⟩
      refine x_istore (pc := 1024) dL_law_1024 trivial (by decide) (L' := [(13, _), (2, _), (10, _), (11, _), (12, _)]) rfl ?_
      refine x_newH (pc := 1026) cnL_117 dL_law_1026 ⟨by decide, by decide⟩ (fun t2 lay2 M2 e0 e1 E hp ha z0 => ?_)
      refine x_dup (pc := 1029) dL_law_1029 rfl ?_
      refine x_callP (pc := 1030) [] rfl kpL_119 dL_law_1030 rfl (by decide) (Nat.le_of_ble_eq_true rfl) (Nat.le_of_ble_eq_true rfl) (by decide) ?_
      refine sp_J4_init_da8c8 ha (by have := hI.2.2.2.1.2.1; omega) (z0 3) (fun lay5 M5 E5 p5 hS2 => ?_)
      refine ⟨_, rfl, ?_⟩
      refine x_astore (pc := 1033) dL_law_1033 trivial (by decide) (L' := [(14, _), (13, _), (2, _), (10, _), (11, _), (12, _)]) rfl ?_
      refine x_iconst (pc := 1035) dL_law_1035 ?_
      refine x_istore (pc := 1036) dL_law_1036 trivial (by decide) (L' := [(15, _), (14, _), (13, _), (2, _), (10, _), (11, _), (12, _)]) rfl ?_
      refine X.loc [0, 1, 2, 3, 4, 5, 6] (L' := [(15, _), (14, _), (13, _), (2, _), (10, _), (11, _), (12, _)]) rfl ?_
      exact stB t2 _ _ hI hpg (by omega) (writeT T).length 0 (by omega) lay5 M5 _ _ (by decide) (by decide) (E.tr E5) (fun y i h => (p5 _ _ (by omega)).trans (hp _ _ (by omega))) hS2
    · exfalso; omega
