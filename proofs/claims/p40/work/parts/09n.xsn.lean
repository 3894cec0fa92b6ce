/-! X: calls of a nest mate's static method. -/
section XSN
variable {g : GG} {r : MR} {cn ck : Nat} {lay : Lay} {M : Mem} {pc : Nat} {L : List (Nat × AV)} {st stk : List AV} {K : KK}
theorem met_ret {l : Launch} {y : MethodName} {ws : List Cond} {rm : Room} {Pc : Array Value → State → Prop} {Qc : Array Value → State → Outcome → State → Prop} {XC : String → State → State → Prop} {mc ms : Nat} {free : Addr → Prop} (hM : vx_Met l y ws rm Pc Qc XC mc ms free) (h : ∀ E st t, ¬ XC E st t) : Met l y ws rm Pc Qc mc ms free :=
  MetFree.mono hM (fun _ _ h => h) (fun _ _ _ _ _ h => h) (fun a s o t _ q => by
    rcases q with q | ⟨q, -, E, ce, L, hx, -⟩
    · exact q
    · exact (h _ _ _ hx).elim)
theorem xk_no {cn ck pc : Nat} {E : String} {st2 t : State} (h : Xk g (kR g r cn ck pc L st K) E st2 t) : False := by
  obtain ⟨⟨lay', M', ⟨z, hz, -⟩, -⟩, -⟩ := h
  cases hz
theorem good_of {rc : MR} (c5 : Cond.code rc.1 rc.2.1 rc.2.2.1 rc.2.2.2.1 ∈ wsL_law) : GoodIn wsL_law (wsOf rc) := fun w hw => by
  rcases List.mem_cons.mp hw with rfl | h
  · exact good_mem c5
  · exact good_mem h
def CSN (own : String) (idx : Nat) (rc : MR) (np : Nat) (host : String) : Prop := (parseMethodDescriptor rc.1.desc).map (fun d => d.parameters.length) = some np ∧ (Cond.methodLinkNest own idx rc.1 host ∈ nestW ∧ Cond.static rc.1 ∈ wsL_law ∧ Cond.initialized rc.1.cls ∈ wsL_law ∧ Cond.code rc.1 rc.2.1 rc.2.2.1 rc.2.2.2.1 ∈ wsL_law) ∧ r_hh rc = [] ∧ plainName rc.1.cls = true ∧ rc.1.cls ≠ "java/lang/invoke/MethodHandle" ∧ rc.1.cls ≠ "java/lang/invoke/VarHandle"
theorem x_callSN {idx np : Nat} {rc : MR} {host : String} (As : List AV) (hs : stk = As.reverse ++ st) (cw : CSN r.1.cls idx rc np host) (hd : decode r.2.1 pc = .ok (.invokestatic idx, 3)) (hn0 : As.length = np) (hR : r_fr rc + 1 ≤ r_fr r ∧ 8 + (rc.2.2.1 + 11) + r_lo rc ≤ r_lo r) (hlen : cats As ≤ rc.2.2.1) (hst : cats st ≤ 8) (hcc : cn + r_mc rc ≤ r_mc r ∧ ck + r_ms rc ≤ r_ms r)
    (hX : X g rc 0 0 lay M 0 (lvA 0 As) [] (kR g r (cn + r_mc rc) (ck + r_ms rc) (pc + 3) L st K)) : X g r cn ck lay M pc L stk K := by
  subst hs
  obtain ⟨hn, ⟨c1, c2, c4, c5⟩, c6, c7, c8, c9⟩ := cw
  rw [← hn0] at hn
  intro p l e s m args below meth c H locs ls C G R S hl
  obtain ⟨hx, hb, hml, hre, hlo, hown, hts, htb, hst0, hnm0⟩ := id C
  have hM := met_ret (met_of c6 c7 l hst0 (by rw [cats_sl]; exact hlen) hX) (fun E st t q => xk_no q)
  have hcb := va_cnB (R := rmOf r) (s := s) (args := args) (own := r.1.cls) (host := host) (index := idx) (y := rc.1) (bytes := rc.2.1) (maxL := rc.2.2.1) (ret := rc.2.2.2.1) (ws := wsOf rc) (ws' := wsL_law) (rm := rmOf rc) (mc := (rmOf rc).cells) (ms := (rmOf rc).slots) (Ts := wsL_law) As.length hts (good_of c5) rfl rfl rfl (G.nest c1) (hts _ c4) ⟨c8, c9, hn⟩ hR
  have hrun := va_runSN (p := p) (l := l) (e := e) (R := rmOf r) (s := s) (m := m) (args := args) (below := below) (meth := meth) (c := c) (H := H) (locs := locs) (cells := cn) (slots := ck) (nL := r.2.2.1) (cc := r.2.1) (Ts := wsL_law) (own := r.1.cls) (As := As.map cv) (rest := st.map cv) (g := F0 m pc ls ((As.reverse ++ st).map cv)) ⟨hx, hb, hml, hown, hts⟩ hM ⟨hcb, hts _ c2, trivial⟩
    ⟨PcOf.blind, fun U hU hW => ⟨rfl, by rw [hU]; exact G.next (WW.of hW) S.1 S.2.1, by rw [hU]; exact R.moved hW.alike⟩⟩
    rfl (by simp) hl.1 (by simp) (lv_room (by rw [cats_eq]; exact hst)) hd hcc
  exact x_after C G S hl (fun T hT X0 => Or.inl (hrun T hT X0))
end XSN
theorem kX0_103 : CSN RX0 103 m_X4_isPlayer 1 "RootDuel" := ⟨by decide +kernel, ⟨by decide +kernel, by decide +kernel, by decide +kernel, by decide +kernel⟩, rfl, by decide, by decide, by decide⟩
