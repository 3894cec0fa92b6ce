/-! X: exceptions caught; calls of methods that have handlers. -/
/-- the handler that takes an exception of class E thrown at pc -/
def catchF (own : String) (pc : Nat) (E : String) (hpc : Nat) : List (Nat × Nat × Nat × Nat) → Prop
  | [] => False
  | h :: hs => (covers ⟨h.1, h.2.1, h.2.2.1, h.2.2.2⟩ pc = true ∧ h.2.2.1 = hpc ∧ h.2.2.2 ≠ 0 ∧ ∃ nm : String, Cond.classLink own h.2.2.2 nm ∈ wsL_law ∧ Cond.castable E nm ∈ nestW) ∨ ((covers ⟨h.1, h.2.1, h.2.2.1, h.2.2.2⟩ pc = false ∨ (h.2.2.2 ≠ 0 ∧ ∃ nm : String, Cond.classLink own h.2.2.2 nm ∈ wsL_law ∧ (E, nm) ∈ ncL)) ∧ catchF own pc E hpc hs)
theorem catch_split {own : String} {pc : Nat} {E : String} {hpc : Nat} : ∀ hh : List (Nat × Nat × Nat × Nat), catchF own pc E hpc hh → ∃ (pre : List ExceptionTableEntry) (x : ExceptionTableEntry) (suf : List ExceptionTableEntry), tableOf hh = pre ++ x :: suf ∧ (∀ z ∈ pre, covers z pc = false ∨ (z.catchType ≠ 0 ∧ ∃ nm : String, Cond.classLink own z.catchType nm ∈ wsL_law ∧ (E, nm) ∈ ncL)) ∧ covers x pc = true ∧ x.handlerPc = hpc ∧ x.catchType ≠ 0 ∧ ∃ nm : String, Cond.classLink own x.catchType nm ∈ wsL_law ∧ Cond.castable E nm ∈ nestW
  | [], h => h.elim
  | q :: hs, h => by
    rcases h with ⟨h1, h2, h3, h4⟩ | ⟨h1, h2⟩
    · exact ⟨[], _, tableOf hs, rfl, fun z hz => (List.not_mem_nil hz).elim, h1, h2, h3, h4⟩
    · obtain ⟨pre, x, suf, e1, e2, e3⟩ := catch_split hs h2
      refine ⟨⟨q.1, q.2.1, q.2.2.1, q.2.2.2⟩ :: pre, x, suf, ?_, fun z hz => ?_, e3⟩
      · show _ :: tableOf hs = _ :: (pre ++ x :: suf)
        rw [e1]
      · rcases List.mem_cons.mp hz with rfl | hz
        · exact h1
        · exact e2 z hz
theorem GF.nc {g : GG} {s : State} {H : Heap} {a b : String} (h : GF g s H) (hw : (a, b) ∈ ncL) : va_Nc a b s := h.2.2.2.2.2.2.2.2.2.2.2.2.2 _ hw
section XL
variable {g : GG} {r : MR} {cn ck : Nat} {lay : Lay} {M : Mem} {pc : Nat} {L L' : List (Nat × AV)} {st stk : List AV} {K : KK}
/-- behind a call whose exceptions are caught here -/
def kX (g : GG) (r : MR) (cn ck pc0 : Nat) (L : List (Nat × AV)) (st : List AV) (K : KK) : KK := fun o lay M => (∃ v : Option AV, o = .inl v ∧ X g r cn ck lay M (pc0 + 3) L (v.toList ++ st) K) ∨ ∃ (E : String) (hpc : Nat), o = .inr E ∧ catchF r.1.cls pc0 E hpc (r_hh r) ∧ ∀ q : Nat, X g r cn ck lay M hpc L [vR q] K
theorem x_afterX {rc : MR} {p : Program} {l : Launch} {e : Env} {s : State} {m : MethodId} {args : Array Value} {below : List Frame} {meth : Method} {c : Code} {H : Heap} {locs : List Loc} {ls : Array Slot} {a : Array Value} {stk0 : List Value}
    (C : Cx r p l s m args meth c) (G : GF g s s.heap) (S : va_S (gA g) s.heap H locs) (hl : lv_has ls r.2.2.1 (L.map (fun q => (q.1, cv q.2))))
    (hr : vx_Run p l e (rmOf r) s m args below meth c H locs cn ck (r_mc rc) (r_ms rc) (F0 m pc ls stk0) (st.map cv) (Qk g (kX g r (cn + r_mc rc) (ck + r_ms rc) pc L st K) a) (Xk g (kX g r (cn + r_mc rc) (ck + r_ms rc) pc L st K)) (gA g)) : W p l e (rmOf r) s m args below meth c H locs cn ck (vx_MQ below (Qk g K) (Xk g K) args s (rmOf r).cells (rmOf r).slots (gA g)) (F0 m pc ls stk0) := by
  obtain ⟨hx, hb, hml, hre, hlo, hown, hts, htb, hst0, hnm0⟩ := id C
  intro T hT X0
  rcases hr T hT X0 with ⟨v, st₀, t, T', Lc, h0, X', hL, e1, e2, ⟨⟨v', lay', M', ho, hk', hR'⟩, hF⟩, stp⟩ | ⟨q, st₀, t, T', Lc, E, ce, h0, X', hL, e1, e2, ⟨⟨lay', M', hk', hR'⟩, hF⟩, hce, hcv, hcl, stp⟩
  · rcases hk' with ⟨z, hz, k⟩ | ⟨E, hpc, hz, -⟩
    · have hz2 : v' = z := by cases hz; rfl
      subst hz2
      have hv : v = v'.map cv := by cases ho; rfl
      subst hv
      obtain ⟨k1, k2, k3⟩ := vx_keep h0 e1 S (fun _ _ h => h) (fun _ h => h) hL hF
      have hal : s.vm.Alike t.vm := by rw [← e2]; exact X'.warmed.alike
      obtain ⟨t2, a1, b1⟩ := k p l e s m args below meth c T'.heap (locs ++ Lc) ls C G (by rw [e1]; exact hR'.moved hal.symm) k3 hl T' rfl X'
      refine ⟨t2, stp t2 ?_, b1⟩
      have e9 : (v'.toList ++ st).map cv = (v'.map cv).toList ++ st.map cv := by cases v' <;> rfl
      rw [e9] at a1
      exact a1
    · cases hz
  · rcases hk' with ⟨z, hz, -⟩ | ⟨E2, hpc, hz, hc, k⟩
    · cases hz
    · cases hz
      obtain ⟨pre, x, suf, s1, s2, s3, s4, s5, nm, s6, s7⟩ := catch_split _ hc
      obtain ⟨k1, k2, k3⟩ := vx_keep h0 e1 S (fun _ _ h => h) (fun _ h => h) hL hF
      have hal : s.vm.Alike t.vm := by rw [← e2]; exact X'.warmed.alike
      have kk := k q p l e s m args below meth c T'.heap (locs ++ Lc) ls C G (by rw [e1]; exact hR'.moved hal.symm) k3 hl
      rw [← s4] at kk
      obtain ⟨t2, a1, b1⟩ := vx_catch (rest := st.map cv) hown pre x suf (by rw [htb]; exact s1) (fun z hz => (s2 z hz).imp id (fun h => ⟨h.1, h.2.choose, hts _ h.2.choose_spec.1, G.nc h.2.choose_spec.2⟩)) s3 s5 (hts _ s6) (va_Nw.use (A := args) rfl (G.nest s7)) (by rw [e1]; exact hce) hcv hcl kk T' rfl X'
      exact ⟨t2, stp.trans a1, b1⟩
theorem x_callVX {idx ci np : Nat} {rc : MR} {rf : Nat → Option Nat} {a : Nat} (As : List AV) (hs : stk = As.reverse ++ vR a :: st) (cw : CV r.1.cls idx rc np) (hd : decode r.2.1 pc = .ok (.invokevirtual idx, 3)) (hk : lay.1 a = some (0, ci, rf)) (hcl : (vwCl[ci]?).map (fun q => q.1) = some rc.1.cls) (hn0 : As.length = np) (hR : r_fr rc + 1 ≤ r_fr r ∧ 8 + (rc.2.2.1 + 11) + r_lo rc ≤ r_lo r) (hlen : cats (vR a :: As) ≤ rc.2.2.1) (hst : cats st ≤ 8) (hcc : cn + r_mc rc ≤ r_mc r ∧ ck + r_ms rc ≤ r_ms r)
    (hX : X g rc 0 0 lay M 0 (lvA 0 (vR a :: As)) [] (kX g r (cn + r_mc rc) (ck + r_ms rc) pc L st K)) : X g r cn ck lay M pc L stk K := by
  subst hs
  obtain ⟨hn, ⟨c1, c2, c3, c4, c5⟩, c6, c7, c8, c9⟩ := cw
  rw [← hn0] at hn
  intro p l e s m args below meth c H locs ls C G R S hl
  obtain ⟨hx, hb, hml, hre, hlo, hown, hts, htb, hst0, hnm0⟩ := id C
  have hM := met_of c6 c7 l hst0 (by rw [cats_sl]; exact hlen) hX
  have hcb := cwV (R := rmOf r) (s := s) (args := args) (own := r.1.cls) (C := rc.1.cls) (index := idx) (y := rc.1) (bytes := rc.2.1) (maxL := rc.2.2.1) (ret := rc.2.2.2.1) (ws := wsOf rc) (ws' := wsL_law) (rm := rmOf rc) (mc := (rmOf rc).cells) (ms := (rmOf rc).slots) (Ts := wsL_law) As.length hts (fun w hw => by
    rcases List.mem_append.mp (show w ∈ ([.methodLink r.1.cls idx rc.1, .instanceMethod rc.1, .selects rc.1.cls rc.1 rc.1, .initialized rc.1.cls] : List Cond) ++ wsOf rc from hw) with h | h
    · simp only [List.mem_cons, List.not_mem_nil, or_false] at h
      rcases h with rfl | rfl | rfl | rfl
      · exact good_mem c1
      · exact good_mem c2
      · exact good_mem c3
      · exact good_mem c4
    · rcases List.mem_cons.mp h with rfl | h
      · exact good_mem c5
      · exact good_mem h) rfl rfl rfl ⟨rfl, c8, c9, hn⟩ hR
  obtain ⟨q', g1, ⟨cell, q1, q2, q3, q4⟩, g3⟩ := R.2 a _ hk
  have hq1 : q'.1 = rc.1.cls := by rw [g1] at hcl; exact Option.some.inj hcl
  have hrun := vx_runV (p := p) (l := l) (e := e) (R := rmOf r) (s := s) (m := m) (args := args) (below := below) (meth := meth) (c := c) (H := H) (locs := locs) (cells := cn) (slots := ck) (nL := r.2.2.1) (cc := r.2.1) (Ts := wsL_law) (own := r.1.cls) (C := rc.1.cls) (b := a) (As := As.map cv) (rest := st.map cv) (g := F0 m pc ls ((As.reverse ++ vR a :: st).map cv)) ⟨hx, hb, hml, hown, hts⟩ hM hcb
    ⟨PcOf.blind, ⟨cell, q1, by rw [q3]; rfl, by rw [q2, ← hq1]; exact (G.1.1 _ _ g1).2.1⟩, fun U hU hW => ⟨rfl, by rw [hU]; exact G.next (WW.of hW) S.1 S.2.1, by rw [hU]; exact R.moved hW.alike⟩⟩
    rfl (by simp) hl.1 (by simp [cv, va_rf]) (lv_room (by rw [cats_eq]; exact hst)) hd hcc
  exact x_afterX C G S hl hrun
def CSH (own : String) (idx : Nat) (rc : MR) (np : Nat) : Prop := (parseMethodDescriptor rc.1.desc).map (fun d => d.parameters.length) = some np ∧ (Cond.methodLink own idx rc.1 ∈ wsL_law ∧ Cond.static rc.1 ∈ wsL_law ∧ Cond.initialized rc.1.cls ∈ wsL_law ∧ Cond.codeWith rc.1 rc.2.1 rc.2.2.1 rc.2.2.2.1 (r_hh rc) ∈ wsL_law) ∧ plainName rc.1.cls = true ∧ rc.1.cls ≠ "java/lang/invoke/MethodHandle" ∧ rc.1.cls ≠ "java/lang/invoke/VarHandle"
theorem x_callSH {idx np : Nat} {rc : MR} (As : List AV) (hs : stk = As.reverse ++ st) (cw : CSH r.1.cls idx rc np) (hd : decode r.2.1 pc = .ok (.invokestatic idx, 3)) (hn0 : As.length = np) (hR : r_fr rc + 1 ≤ r_fr r ∧ 8 + (rc.2.2.1 + 11) + r_lo rc ≤ r_lo r) (hlen : cats As ≤ rc.2.2.1) (hst : cats st ≤ 8) (hcc : cn + r_mc rc ≤ r_mc r ∧ ck + r_ms rc ≤ r_ms r)
    (hX : X g rc 0 0 lay M 0 (lvA 0 As) [] (kR g r (cn + r_mc rc) (ck + r_ms rc) (pc + 3) L st K)) : X g r cn ck lay M pc L stk K := by
  subst hs
  obtain ⟨hn, ⟨c1, c2, c4, c5⟩, c7, c8, c9⟩ := cw
  rw [← hn0] at hn
  intro p l e s m args below meth c H locs ls C G R S hl
  obtain ⟨hx, hb, hml, hre, hlo, hown, hts, htb, hst0, hnm0⟩ := id C
  have hM := metW_of c7 l hst0 (by rw [cats_sl]; exact hlen) hX
  have hcb := vx_cwSW (R := rmOf r) (s := s) (args := args) (own := r.1.cls) (index := idx) (y := rc.1) (bytes := rc.2.1) (maxL := rc.2.2.1) (ret := rc.2.2.2.1) (hh := r_hh rc) (ws := wsOfW rc) (ws' := wsL_law) (rm := rmOf rc) (mc := (rmOf rc).cells) (ms := (rmOf rc).slots) (Ts := wsL_law) As.length hts (fun w hw => by
    rcases List.mem_append.mp (show w ∈ ([.methodLink r.1.cls idx rc.1, .static rc.1, .initialized rc.1.cls] : List Cond) ++ wsOfW rc from hw) with h | h
    · simp only [List.mem_cons, List.not_mem_nil, or_false] at h
      rcases h with rfl | rfl | rfl
      · exact good_mem c1
      · exact good_mem c2
      · exact good_mem c4
    · rcases List.mem_cons.mp h with rfl | h
      · exact good_mem c5
      · exact good_mem h) rfl rfl rfl ⟨c8, c9, hn⟩ hR
  have hrun := vx_runSX (p := p) (l := l) (e := e) (R := rmOf r) (s := s) (m := m) (args := args) (below := below) (meth := meth) (c := c) (H := H) (locs := locs) (cells := cn) (slots := ck) (nL := r.2.2.1) (cc := r.2.1) (Ts := wsL_law) (own := r.1.cls) (As := As.map cv) (rest := st.map cv) (g := F0 m pc ls ((As.reverse ++ st).map cv)) ⟨hx, hb, hml, hown, hts⟩ hM hcb
    ⟨PcOf.blind, fun U hU hW => ⟨rfl, by rw [hU]; exact G.next (WW.of hW) S.1 S.2.1, by rw [hU]; exact R.moved hW.alike⟩⟩
    rfl (by simp) hl.1 (by simp) (lv_room (by rw [cats_eq]; exact hst)) hd hcc
  exact x_after C G S hl hrun
end XL
