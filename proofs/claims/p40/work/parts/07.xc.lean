/-! X: ends, calls, throws, new cells. -/
def lvA : Nat → List AV → List (Nat × AV)
  | _, [] => []
  | i, v :: vs => (i, v) :: lvA (if (cv v).category = 2 then i + 2 else i + 1) vs
theorem lvA_map (vs : List AV) : ∀ i : Nat, lv_args i (vs.map cv) = (lvA i vs).map (fun q => (q.1, cv q.2)) := by
  induction vs with
  | nil => intro i; rfl
  | cons v vs ih =>
    intro i
    show (i, cv v) :: lv_args _ (vs.map cv) = (i, cv v) :: _
    rw [ih]
def cat1 : AV → Nat
  | .inl _ => 1
  | .inr (.inl _) => 2
  | .inr (.inr (.inl _)) => 1
  | .inr (.inr (.inr _)) => 2
def cats : List AV → Nat
  | [] => 0
  | v :: vs => cat1 v + cats vs
theorem cat1_eq (v : AV) : (cv v).category = cat1 v := by
  rcases v with x | x | r | x
  · rfl
  · rfl
  · cases r <;> rfl
  · rfl
theorem cats_eq : ∀ st : List AV, ((st.map cv).map fun v => v.category).sum = cats st
  | [] => rfl
  | v :: vs => by
    show (cv v).category + ((vs.map cv).map fun v => v.category).sum = _
    rw [cat1_eq, cats_eq vs]
    rfl
theorem cats_sl : ∀ st : List AV, (lg_sl (st.map cv)).length = cats st
  | [] => rfl
  | v :: vs => by
    have h := cats_sl vs
    have h2 := cat1_eq v
    have h3 : cat1 v = 1 ∨ cat1 v = 2 := by rcases v with x | x | r | x <;> simp [cat1]
    rw [List.map_cons]
    show (lg_sl (cv v :: vs.map cv)).length = cat1 v + cats vs
    rw [← h]
    unfold lg_sl
    rw [List.flatMap_cons, List.length_append]
    rcases h3 with h3 | h3 <;> simp [h2, h3]
def PcOf (g : GG) (lay : Lay) (M : Mem) (As : List AV) : Array Value → State → Prop := fun a U => a = (As.map cv).toArray ∧ GF g U U.heap ∧ Rep g U lay M U.heap
theorem PcOf.blind {g : GG} {lay : Lay} {M : Mem} {As : List AV} : FrameBlind (PcOf g lay M As) := fun a U f mk q => ⟨q.1, q.2.1.next (u := U.calling f mk a) (H1 := U.heap) (WW.same rfl) (Nat.le_refl _) (fun _ _ _ => rfl), q.2.2.moved (u := U.calling f mk a) (Vm.Alike.refl U.vm)⟩
theorem met_of {g : GG} {r : MR} {lay : Lay} {M : Mem} {As : List AV} {K : KK} (hh : r_hh r = []) (hy : plainName r.1.cls = true) (l : Launch) (hl : l.stackTraces = false) (hn : (lg_sl (As.map cv)).length ≤ r.2.2.1) (hX : X g r 0 0 lay M 0 (lvA 0 As) [] K) : vx_Met l r.1 (wsOf r) (rmOf r) (PcOf g lay M As) (Qk g K) (Xk g K) (rmOf r).cells (rmOf r).slots (gA g) := by
  refine vx_ofW (cc := r.2.1) (maxL := r.2.2.1) (ret := r.2.2.2.1) (ws' := wsL_law) hy rfl ?_
  intro p e s m args below meth c s₁ B hml hnt hP
  obtain ⟨rfl, G, R⟩ := hP
  rw [lg_entry_eq]
  have ht : c.exceptionTable.toList = [] := by
    cases h : c.exceptionTable.toList with
    | nil => rfl
    | cons x xs => exact (hnt x (by rw [h]; exact List.mem_cons_self)).elim
  refine hX p l e s m _ below meth c s.heap [] _ ⟨B.exec, B.bytes, hml, B.returns, B.notSynchronized, findClass_of_methodNamed B.named, fun w hw => atoms_spec (ws := wsOf r) B.pre w (List.mem_cons_of_mem _ hw), by rw [hh, ht]; rfl, hl, (name_of_methodNamed B.named B.method).1⟩ G R va_S.rf ?_
  have h := lv_entry (As.map cv) hn
  rw [lvA_map] at h
  exact h
theorem metW_of {g : GG} {r : MR} {lay : Lay} {M : Mem} {As : List AV} {K : KK} (hy : plainName r.1.cls = true) (l : Launch) (hl : l.stackTraces = false) (hn : (lg_sl (As.map cv)).length ≤ r.2.2.1) (hX : X g r 0 0 lay M 0 (lvA 0 As) [] K) : vx_Met l r.1 (wsOfW r) (rmOf r) (PcOf g lay M As) (Qk g K) (Xk g K) (rmOf r).cells (rmOf r).slots (gA g) := by
  refine vx_ofWH (cc := r.2.1) (maxL := r.2.2.1) (ret := r.2.2.2.1) (hh := r_hh r) (ws' := wsL_law) hy rfl ?_
  intro p e s m args below meth c s₁ B hml hP
  obtain ⟨rfl, G, R⟩ := hP
  rw [lg_entry_eq]
  have ht : c.exceptionTable.toList = tableOf (r_hh r) := vx_table (x := r.1) B (atoms_spec (ws := wsOfW r) B.pre _ List.mem_cons_self)
  refine hX p l e s m _ below meth c s.heap [] _ ⟨B.exec, B.bytes, hml, B.returns, B.notSynchronized, findClass_of_methodNamed B.named, fun w hw => atoms_spec (ws := wsOfW r) B.pre w (List.mem_cons_of_mem _ hw), ht, hl, (name_of_methodNamed B.named B.method).1⟩ G R va_S.rf ?_
  have h := lv_entry (As.map cv) hn
  rw [lvA_map] at h
  exact h
/-- what a call of rc by the constant idx of the class own needs of the tables -/
def CV (own : String) (idx : Nat) (rc : MR) (np : Nat) : Prop := (parseMethodDescriptor rc.1.desc).map (fun d => d.parameters.length) = some np ∧ (Cond.methodLink own idx rc.1 ∈ wsL_law ∧ Cond.instanceMethod rc.1 ∈ wsL_law ∧ Cond.selects rc.1.cls rc.1 rc.1 ∈ wsL_law ∧ Cond.initialized rc.1.cls ∈ wsL_law ∧ Cond.code rc.1 rc.2.1 rc.2.2.1 rc.2.2.2.1 ∈ wsL_law) ∧ r_hh rc = [] ∧ plainName rc.1.cls = true ∧ rc.1.cls ≠ "java/lang/invoke/MethodHandle" ∧ rc.1.cls ≠ "java/lang/invoke/VarHandle"
def CS (own : String) (idx : Nat) (rc : MR) (np : Nat) : Prop := (parseMethodDescriptor rc.1.desc).map (fun d => d.parameters.length) = some np ∧ (Cond.methodLink own idx rc.1 ∈ wsL_law ∧ Cond.static rc.1 ∈ wsL_law ∧ Cond.initialized rc.1.cls ∈ wsL_law ∧ Cond.code rc.1 rc.2.1 rc.2.2.1 rc.2.2.2.1 ∈ wsL_law) ∧ r_hh rc = [] ∧ plainName rc.1.cls = true ∧ rc.1.cls ≠ "java/lang/invoke/MethodHandle" ∧ rc.1.cls ≠ "java/lang/invoke/VarHandle"
theorem good_mem {w : Cond} (h : w ∈ wsL_law) : w ∈ wsL_law ∧ ((w.onTables && w.keeps) = true ∨ ∃ ty, w = .arrayClass ty) := wsL_GoodIn w h
section XC
variable {g : GG} {r : MR} {cn ck : Nat} {lay : Lay} {M : Mem} {pc : Nat} {L L' : List (Nat × AV)} {st stk : List AV} {K : KK}
theorem x_ret0 {v : Option AV} (hc : cn ≤ r_mc r) (hs : ck ≤ r_ms r) (k : K (.inl v) lay M)
    (h : ∀ {p : Program} {l : Launch} {e : Env} {s : State} {m : MethodId} {args : Array Value} {below : List Frame} {meth : Method} {c : Code} {H : Heap} {locs : List Loc} {ls : Array Slot}, Cx r p l s m args meth c → (∀ t : State, t.heap = H → s.WarmedH t.vm → Qk g K args s (.returned (v.map cv)) t) → (∀ q ∈ locs, gA g q.base) → W p l e (rmOf r) s m args below meth c H locs (rmOf r).cells (rmOf r).slots (MQ below (Qk g K) args s (rmOf r).cells (rmOf r).slots (gA g)) (F0 m pc ls (v.toList.map cv))) : X g r cn ck lay M pc L v.toList K := by
  intro p l e s m args below meth c H locs ls C G R S hl
  exact W.widen (k := (rmOf r).cells) (n := (rmOf r).slots) hc hs (vx_ret (h C (fun t ht hW => ⟨⟨v, lay, M, rfl, k, by rw [ht]; exact R.moved hW.alike⟩, S.F ht⟩) S.2.2))
theorem x_iret {x : Int} (hd : decode r.2.1 pc = .ok (.ireturn, 1)) (hr : r.2.2.2.1 = some .int) (hc : cn ≤ r_mc r) (hs : ck ≤ r_ms r) (k : K (.inl (some (vI x))) lay M) : X g r cn ck lay M pc L [vI x] K :=
  x_ret0 (v := some (vI x)) hc hs k (fun C hq hf => W.iret C.1 C.2.1 (C.2.2.2.1.trans hr) hq hf hd C.2.2.2.2.1)
theorem x_zret {x : Int} (hd : decode r.2.1 pc = .ok (.ireturn, 1)) (hr : r.2.2.2.1 = some .boolean) (hx : 0 ≤ x ∧ x ≤ 1) (hc : cn ≤ r_mc r) (hs : ck ≤ r_ms r) (k : K (.inl (some (vI x))) lay M) : X g r cn ck lay M pc L [vI x] K :=
  x_ret0 (v := some (vI x)) hc hs k (fun C hq hf => W.zret C.1 C.2.1 (C.2.2.2.1.trans hr) (n_nz hx) hq hf hd C.2.2.2.2.1)
theorem n_nc {x : Int} (h0 : 0 ≤ x) (h1 : x < 65536) : narrow .char (.int (Int32.ofInt x)) = .int (Int32.ofInt x) := by
  have e : (Int32.ofInt x) = nI x.toNat := by
    show Int32.ofInt x = Int32.ofNat x.toNat
    rw [← Int32.ofInt_eq_ofNat, Int.toNat_of_nonneg h0]
  rw [e]
  exact (pk_charN (by omega)).1
theorem x_cret {x : Int} (hd : decode r.2.1 pc = .ok (.ireturn, 1)) (hr : r.2.2.2.1 = some .char) (h0 : 0 ≤ x) (h1 : x < 65536) (hc : cn ≤ r_mc r) (hs : ck ≤ r_ms r) (k : K (.inl (some (vI x))) lay M) : X g r cn ck lay M pc L [vI x] K :=
  x_ret0 (v := some (vI x)) hc hs k (fun C hq hf => W.zret C.1 C.2.1 (C.2.2.2.1.trans hr) (n_nc h0 h1) hq hf hd C.2.2.2.2.1)
theorem x_bret {x : Int} (hd : decode r.2.1 pc = .ok (.ireturn, 1)) (hr : r.2.2.2.1 = some .byte) (hx : -128 ≤ x ∧ x ≤ 127) (hc : cn ≤ r_mc r) (hs : ck ≤ r_ms r) (k : K (.inl (some (vI x))) lay M) : X g r cn ck lay M pc L [vI x] K :=
  x_ret0 (v := some (vI x)) hc hs k (fun C hq hf => W.zret C.1 C.2.1 (C.2.2.2.1.trans hr) (n_nb hx) hq hf hd C.2.2.2.2.1)
theorem x_lret {x : Int} (hd : decode r.2.1 pc = .ok (.lreturn, 1)) (hr : r.2.2.2.1 = some .long) (hc : cn ≤ r_mc r) (hs : ck ≤ r_ms r) (k : K (.inl (some (vJ x))) lay M) : X g r cn ck lay M pc L [vJ x] K :=
  x_ret0 (v := some (vJ x)) hc hs k (fun C hq hf => W.lret C.1 C.2.1 (C.2.2.2.1.trans hr) hq hf hd C.2.2.2.2.1)
theorem x_dret {x : UInt64} (hd : decode r.2.1 pc = .ok (.dreturn, 1)) (hr : r.2.2.2.1 = some .double) (hc : cn ≤ r_mc r) (hs : ck ≤ r_ms r) (k : K (.inl (some (vD x))) lay M) : X g r cn ck lay M pc L [vD x] K :=
  x_ret0 (v := some (vD x)) hc hs k (fun C hq hf => W.dret C.1 C.2.1 (C.2.2.2.1.trans hr) hq hf hd C.2.2.2.2.1)
theorem x_vret (hd : decode r.2.1 pc = .ok (.return_, 1)) (hr : r.2.2.2.1 = none) (hc : cn ≤ r_mc r) (hs : ck ≤ r_ms r) (k : K (.inl none) lay M) : X g r cn ck lay M pc L [] K :=
  x_ret0 (v := none) hc hs k (fun C hq hf => W.vret C.1 C.2.1 (C.2.2.2.1.trans hr) hq hf hd C.2.2.2.2.1)
/-- behind a call: the caller goes on with what came back -/
def kR (g : GG) (r : MR) (cn ck pc : Nat) (L : List (Nat × AV)) (st : List AV) (K : KK) : KK := fun o lay M => ∃ v : Option AV, o = .inl v ∧ X g r cn ck lay M pc L (v.toList ++ st) K
theorem cv_some {v v' : Option AV} (h : v.map cv = v'.map cv) : v.toList.map cv = v'.toList.map cv := by
  cases v <;> cases v' <;> simp_all
/-- what a run of a callee gives the caller -/
theorem x_after {rc : MR} {p : Program} {l : Launch} {e : Env} {s : State} {m : MethodId} {args : Array Value} {below : List Frame} {meth : Method} {c : Code} {H : Heap} {locs : List Loc} {ls : Array Slot} {a : Array Value} {stk0 : List Value}
    (C : Cx r p l s m args meth c) (G : GF g s s.heap) (S : va_S (gA g) s.heap H locs) (hl : lv_has ls r.2.2.1 (L.map (fun q => (q.1, cv q.2))))
    (hr : vx_Run p l e (rmOf r) s m args below meth c H locs cn ck (r_mc rc) (r_ms rc) (F0 m pc ls stk0) (st.map cv) (Qk g (kR g r (cn + r_mc rc) (ck + r_ms rc) (pc + 3) L st K) a) (Xk g (kR g r (cn + r_mc rc) (ck + r_ms rc) (pc + 3) L st K)) (gA g)) : W p l e (rmOf r) s m args below meth c H locs cn ck (vx_MQ below (Qk g K) (Xk g K) args s (rmOf r).cells (rmOf r).slots (gA g)) (F0 m pc ls stk0) := by
  intro T hT X0
  rcases hr T hT X0 with ⟨v, st₀, t, T', Lc, h0, X', hL, e1, e2, ⟨⟨v', lay', M', ho, hk', hR'⟩, hF⟩, stp⟩ | ⟨q, st₀, t, T', Lc, E, ce, h0, X', hL, e1, e2, ⟨⟨lay', M', hk', hR'⟩, hF⟩, hrest⟩
  · obtain ⟨z, hz, k⟩ := hk'
    have hz2 : v' = z := by cases hz; rfl
    subst hz2
    have hv : v = v'.map cv := by cases ho; rfl
    subst hv
    obtain ⟨k1, k2, k3⟩ := vx_keep h0 e1 S (fun _ _ h => h) (fun _ h => h) hL hF
    have hal : s.vm.Alike t.vm := by rw [← e2]; exact X'.warmed.alike
    obtain ⟨t2, a1, b1⟩ := k p l e s m args below meth c T'.heap (locs ++ Lc) ls C G (by rw [e1]; exact hR'.moved hal.symm) k3 hl T' rfl X'
    refine ⟨t2, stp t2 ?_, b1⟩
    have e9 : (v'.toList ++ st).map cv = (v'.map cv).toList ++ st.map cv := by cases v' <;> rfl
    rw [e9] at a1
    exact a1
  · obtain ⟨z, hz, -⟩ := hk'
    cases hz
theorem x_callV {idx ci np : Nat} {rc : MR} {rf : Nat → Option Nat} {a : Nat} (As : List AV) (hs : stk = As.reverse ++ vR a :: st) (cw : CV r.1.cls idx rc np) (hd : decode r.2.1 pc = .ok (.invokevirtual idx, 3)) (hk : lay.1 a = some (0, ci, rf)) (hcl : (vwCl[ci]?).map (fun q => q.1) = some rc.1.cls) (hn0 : As.length = np) (hR : r_fr rc + 1 ≤ r_fr r ∧ 8 + (rc.2.2.1 + 11) + r_lo rc ≤ r_lo r) (hlen : cats (vR a :: As) ≤ rc.2.2.1) (hst : cats st ≤ 8) (hcc : cn + r_mc rc ≤ r_mc r ∧ ck + r_ms rc ≤ r_ms r)
    (hX : X g rc 0 0 lay M 0 (lvA 0 (vR a :: As)) [] (kR g r (cn + r_mc rc) (ck + r_ms rc) (pc + 3) L st K)) : X g r cn ck lay M pc L stk K := by
  subst hs
  obtain ⟨hn, ⟨c1, c2, c3, c4, c5⟩, c6, c7, c8, c9⟩ := cw
  rw [← hn0] at hn
  intro p l e s m args below meth c H locs ls C G R S hl
  obtain ⟨hx, hb, hml, hre, hlo, hown, hts, htb, hst0, hnm0⟩ := id C
  have hM := met_of c6 c7 l hst0 (by rw [cats_sl]; exact hlen) hX
  have hcb := cwV (R := rmOf r) (s := s) (args := args) (own := r.1.cls) (C := rc.1.cls) (index := idx) (y := rc.1) (bytes := rc.2.1) (maxL := rc.2.2.1) (ret := rc.2.2.2.1) (ws := wsOf rc) (ws' := wsL_law) (rm := rmOf rc) (mc := (rmOf rc).cells) (ms := (rmOf rc).slots) (Ts := wsL_law) As.length hts (fun w hw => by
    rcases List.mem_append.mp (show w ∈ ([.methodLink r.1.cls idx rc.1, .instanceMethod rc.1, .selects rc.1.cls rc.1 rc.1, .initialized rc.1.cls] : List Cond) ++ wsOf rc from hw) with h | h
    · simp only [List.mem_cons, List.not_mem_nil, or_false] at h
      rcases h with rfl | rfl | rfl | rfl
      · exact good_mem c1
      · exact good_mem c2
      · exact good_mem c3
      · exact good_mem c4
    · rcases List.mem_cons.mp h with rfl | h
      · exact good_mem c5
      · exact good_mem h) rfl rfl rfl ⟨rfl, c8, c9, hn⟩ hR
  obtain ⟨q', g1, ⟨cell, q1, q2, q3, q4⟩, g3⟩ := R.2 a _ hk
  have hq1 : q'.1 = rc.1.cls := by rw [g1] at hcl; exact Option.some.inj hcl
  have hrun := vx_runV (p := p) (l := l) (e := e) (R := rmOf r) (s := s) (m := m) (args := args) (below := below) (meth := meth) (c := c) (H := H) (locs := locs) (cells := cn) (slots := ck) (nL := r.2.2.1) (cc := r.2.1) (Ts := wsL_law) (own := r.1.cls) (C := rc.1.cls) (b := a) (As := As.map cv) (rest := st.map cv) (g := F0 m pc ls ((As.reverse ++ vR a :: st).map cv)) ⟨hx, hb, hml, hown, hts⟩ hM hcb
    ⟨PcOf.blind, ⟨cell, q1, by rw [q3]; rfl, by rw [q2, ← hq1]; exact (G.1.1 _ _ g1).2.1⟩, fun U hU hW => ⟨rfl, by rw [hU]; exact G.next (WW.of hW) S.1 S.2.1, by rw [hU]; exact R.moved hW.alike⟩⟩
    rfl (by simp) hl.1 (by simp [cv, va_rf]) (lv_room (by rw [cats_eq]; exact hst)) hd hcc
  exact x_after C G S hl hrun
theorem x_callS {idx np : Nat} {rc : MR} (As : List AV) (hs : stk = As.reverse ++ st) (cw : CS r.1.cls idx rc np) (hd : decode r.2.1 pc = .ok (.invokestatic idx, 3)) (hn0 : As.length = np) (hR : r_fr rc + 1 ≤ r_fr r ∧ 8 + (rc.2.2.1 + 11) + r_lo rc ≤ r_lo r) (hlen : cats As ≤ rc.2.2.1) (hst : cats st ≤ 8) (hcc : cn + r_mc rc ≤ r_mc r ∧ ck + r_ms rc ≤ r_ms r)
    (hX : X g rc 0 0 lay M 0 (lvA 0 As) [] (kR g r (cn + r_mc rc) (ck + r_ms rc) (pc + 3) L st K)) : X g r cn ck lay M pc L stk K := by
  subst hs
  obtain ⟨hn, ⟨c1, c2, c4, c5⟩, c6, c7, c8, c9⟩ := cw
  rw [← hn0] at hn
  intro p l e s m args below meth c H locs ls C G R S hl
  obtain ⟨hx, hb, hml, hre, hlo, hown, hts, htb, hst0, hnm0⟩ := id C
  have hM := met_of c6 c7 l hst0 (by rw [cats_sl]; exact hlen) hX
  have hcb := va_cwS (R := rmOf r) (s := s) (args := args) (own := r.1.cls) (index := idx) (y := rc.1) (bytes := rc.2.1) (maxL := rc.2.2.1) (ret := rc.2.2.2.1) (ws := wsOf rc) (ws' := wsL_law) (rm := rmOf rc) (mc := (rmOf rc).cells) (ms := (rmOf rc).slots) (Ts := wsL_law) As.length hts (fun w hw => by
    rcases List.mem_append.mp (show w ∈ ([.methodLink r.1.cls idx rc.1, .static rc.1, .initialized rc.1.cls] : List Cond) ++ wsOf rc from hw) with h | h
    · simp only [List.mem_cons, List.not_mem_nil, or_false] at h
      rcases h with rfl | rfl | rfl
      · exact good_mem c1
      · exact good_mem c2
      · exact good_mem c4
    · rcases List.mem_cons.mp h with rfl | h
      · exact good_mem c5
      · exact good_mem h) rfl rfl rfl ⟨c8, c9, hn⟩ hR
  have hrun := vx_runS (p := p) (l := l) (e := e) (R := rmOf r) (s := s) (m := m) (args := args) (below := below) (meth := meth) (c := c) (H := H) (locs := locs) (cells := cn) (slots := ck) (nL := r.2.2.1) (cc := r.2.1) (Ts := wsL_law) (own := r.1.cls) (As := As.map cv) (rest := st.map cv) (g := F0 m pc ls ((As.reverse ++ st).map cv)) ⟨hx, hb, hml, hown, hts⟩ hM hcb
    ⟨PcOf.blind, fun U hU hW => ⟨rfl, by rw [hU]; exact G.next (WW.of hW) S.1 S.2.1, by rw [hU]; exact R.moved hW.alike⟩⟩
    rfl (by simp) hl.1 (by simp) (lv_room (by rw [cats_eq]; exact hst)) hd hcc
  exact x_after C G S hl hrun
end XC
