/-! X: new cells, references kept, constructors. -/
def mnew (M : Mem) (a : Nat) : Mem := fun b j => if b = a then 0 else M b j
theorem mnew_at {M : Mem} {a j : Nat} : mnew M a a j = 0 := if_pos rfl
theorem mnew_ne {M : Mem} {a b j : Nat} (h : ¬ b = a) : mnew M a b j = M b j := if_neg h
def lnew (lay : Lay) (k : Kd) : Lay := (fun a => if a = lay.2 then some k else lay.1 a, lay.2 + 1)
def lput (lay : Lay) (a : Nat) (k : Kd) : Lay := (fun x => if x = a then some k else lay.1 x, lay.2)
theorem lnew_at {lay : Lay} {k : Kd} : (lnew lay k).1 lay.2 = some k := if_pos rfl
theorem lnew_ne {lay : Lay} {k : Kd} {a : Nat} (h : ¬ a = lay.2) : (lnew lay k).1 a = lay.1 a := if_neg h
theorem lput_at {lay : Lay} {k : Kd} {a : Nat} : (lput lay a k).1 a = some k := if_pos rfl
theorem lput_ne {lay : Lay} {k : Kd} {a b : Nat} (h : ¬ b = a) : (lput lay a k).1 b = lay.1 b := if_neg h
theorem Rep.new {g : GG} {s : State} {lay : Lay} {M : Mem} {H H1 : Heap} {k : Kd} (R : Rep g s lay M H) (hz : H1.size = H.size + 1) (hq : ∀ q : Nat, q < H.size → H1[q]? = H[q]?) (hc : cellIs g s k (fun _ => 0) lay.2 H1) : Rep g s (lnew lay k) (mnew M lay.2) H1 := by
  refine ⟨by rw [hz, R.1]; rfl, fun a k2 h => ?_⟩
  by_cases e : a = lay.2
  · subst e
    have e2 : k2 = k := (Option.some.inj (lnew_at.symm.trans h)).symm
    have e3 : mnew M lay.2 lay.2 = fun _ => 0 := funext fun j => mnew_at
    rw [e2, e3]
    exact hc
  · have hl : lay.1 a = some k2 := (lnew_ne e).symm.trans h
    have e3 : mnew M lay.2 a = M a := funext fun j => mnew_ne e
    rw [e3]
    exact (R.2 a k2 hl).kept (hq a (R.2 a k2 hl).lt)
theorem va_S.new {A : Nat → Prop} {H0 H H1 : Heap} {locs : List Loc} (S : va_S A H0 H locs) (hz : H1.size = H.size + 1) (hq : ∀ q : Nat, q < H.size → H1[q]? = H[q]?) : va_S A H0 H1 locs := ⟨Nat.le_trans S.1 (by omega), fun x h1 h2 => (hq x (Nat.lt_of_lt_of_le h1 S.1)).trans (S.2.1 x h1 h2), S.2.2⟩
theorem aval0 : ∀ t : Nat, t < 5 → defaultValue (aty t) = aval t none 0 ∧ arng t 0
  | 0, _ => ⟨rfl, by show i32 0; exact ⟨by decide, by decide⟩⟩
  | 1, _ => ⟨rfl, by show i64 0; exact ⟨by decide, by decide⟩⟩
  | 2, _ => ⟨rfl, by show (-128 : Int) ≤ 0 ∧ (0 : Int) ≤ 127; exact ⟨by decide, by decide⟩⟩
  | 3, _ => ⟨rfl, by show (0 : Int) ≤ 0 ∧ (0 : Int) ≤ 1; exact ⟨by decide, by decide⟩⟩
  | 4, _ => ⟨rfl, trivial⟩
  | t + 5, h => absurd h (by omega)
/-- a new array's cell is what the layout says of it -/
theorem arr_new {s : State} {t n : Nat} {cA : ClassId} (ht : t < 5) (hn : n < 1000000) (hAr : ArrOfT s cA (aty t)) (hfc : s.vm.findClass ("[" ++ (aty t).toString) = some cA) : arrIs s t n (fun _ => none) (fun _ => 0) (arrV cA n (fun _ => defaultValue (aty t))) := by
  obtain ⟨e1, e2⟩ := aval0 t ht
  refine ⟨hAr n _, (fun h => by cases h), arrV_size _ _ _, hn, fun e => ?_, fun j hj => ⟨?_, e2⟩⟩
  · rcases e with rfl | rfl | rfl
    · exact hfc
    · exact absurd ht (by decide)
    · exact absurd ht (by decide)
  · rw [arrV_read _ _ hj, e1]
theorem cmp_small {t n : Nat} (ht : t < 5) (hn : n < 1000000) : n * componentBytes (aty t) ≤ 536870912 := by
  have h : componentBytes (aty t) ≤ 8 := by
    have : ∀ t : Nat, t < 5 → componentBytes (aty t) ≤ 8 := by decide
    exact this t ht
  have := Nat.mul_le_mul_left n h
  omega
def fvok : FieldType → Bool
  | .object _ => true
  | .array _ => true
  | .int => true
  | .boolean => true
  | .byte => true
  | _ => false
theorem fv0 {ty : FieldType} (h : fvok ty = true) : defaultValue ty = fval ty none 0 ∧ frng ty 0 := by
  cases ty <;> first
    | exact absurd h (by decide)
    | exact ⟨rfl, trivial⟩
    | exact ⟨rfl, by show (0 : Int) ≤ 0 ∧ (0 : Int) ≤ 1; exact ⟨by decide, by decide⟩⟩
    | exact ⟨rfl, by show (-128 : Int) ≤ 0 ∧ (0 : Int) ≤ 127; exact ⟨by decide, by decide⟩⟩
    | exact ⟨rfl, by show i32 0; exact ⟨by decide, by decide⟩⟩
theorem vwCl_ok : ∀ (ci : Nat) (q : vw_C), vwCl[ci]? = some q → ∀ j, j < q.2.2 → fvok (ftys ci j) = true := by
  intro ci q h
  match ci, h with
  | 0, h => cases h; decide
  | 1, h => cases h; decide
  | 2, h => cases h; decide
  | 3, h => cases h; decide
  | 4, h => cases h; decide
  | 5, h => cases h; decide
  | 6, h => cases h; decide
  | 7, h => cases h; decide
  | 8, h => cases h; decide
  | 9, h => cases h; decide
  | 10, h => cases h; decide
  | 11, h => cases h; decide
  | ci + 12, h => simp [vwCl] at h
theorem fval_ref {ty : FieldType} {b : Nat} {x : Int} (h : ty.isReference = true) : fval ty (some b) x = .ref b := by
  cases ty <;> first | rfl | cases h
def CN (own : String) (idx ci nf : Nat) : Prop := ∃ q : vw_C, vwCl[ci]? = some q ∧ q.2.2 = nf ∧ Cond.classLink own idx q.1 ∈ wsL_law ∧ Cond.instantiable q.1 q.2.2 ∈ wsL_law ∧ Cond.initialized q.1 ∈ wsL_law
section XN
variable {g : GG} {r : MR} {cn ck : Nat} {lay : Lay} {M : Mem} {pc : Nat} {L : List (Nat × AV)} {st stk : List AV} {K : KK}
theorem x_newa {t n : Nat} {at9 : ArrayType} (hty : newarray.typeOf at9 = aty t) (ht : t < 5) (ha : Cond.arrayClass (aty t) ∈ wsL_law) (hd : decode r.2.1 pc = .ok (.newarray at9, 2)) (hn : n < 100000) (hcc : cn + 1 ≤ r_mc r ∧ ck + n ≤ r_ms r) (k : X g r (cn + 1) (ck + n) (lnew lay (t + 1, n, fun _ => none)) (mnew M lay.2) (pc + 2) L (vR lay.2 :: st) K) : X g r cn ck lay M pc L (vI n :: st) K := by
  intro p l e s m args below meth c H locs ls C G R S hl
  obtain ⟨hx, hb, hml, hre, hlo, hown, hts, htb, hst, hnm0⟩ := id C
  obtain ⟨d1, d2, d3, d4⟩ := n_aidx (i := (n : Int)) (n := n + 1) (by omega) (by omega) (by omega)
  refine va_newaK hx hb (by rw [hty]; exact hts _ ha) rfl hd rfl (n := Int32.ofInt n) (N := n) (fun z => d2 (Or.inl z)) (by rw [d3]; exact Int.toNat_natCast n) (by rw [hty]; exact cmp_small ht (by omega)) hcc.1 hcc.2 R.1 fun H1 cA e1 z1 o1 hAr hfc => ?_
  rw [hty] at e1 hAr hfc
  rw [← R.1] at z1 o1
  exact k p l e s m args below meth c H1 locs ls C G (R.new z1 o1 ⟨_, e1, arr_new ht (Nat.lt_trans hn (by decide)) hAr hfc⟩) (S.new z1 o1) hl
theorem x_new {ci idx nf : Nat} (cw : CN r.1.cls idx ci nf) (hd : decode r.2.1 pc = .ok (.new idx, 3)) (hcc : cn + 1 ≤ r_mc r ∧ ck + nf ≤ r_ms r) (k : X g r (cn + 1) (ck + nf) (lnew lay (0, ci, fun _ => none)) (mnew M lay.2) (pc + 3) L (vR lay.2 :: st) K) : X g r cn ck lay M pc L st K := by
  obtain ⟨q, f1, rfl, f3, f4, f5⟩ := cw
  intro p l e s m args below meth c H locs ls C G R S hl
  obtain ⟨hx, hb, hml, hre, hlo, hown, hts, htb, hst, hnm0⟩ := id C
  obtain ⟨w1, w2, w3⟩ := vwCl_is ci q f1
  have hKn := G.1.1 ci _ f1
  refine W.newcK hx hb hown (hts _ f3) (hts _ f4) (hts _ f5) rfl hd hcc.1 hcc.2 hKn.2.1 R.1 fun H1 kC hkC e1 z1 o1 => ?_
  rw [← R.1] at z1 o1
  have hok := vwCl_ok ci q f1
  exact k p l e s m args below meth c H1 locs ls C G (R.new z1 o1 ⟨q, f1, (u_born (ftys ci) hts w1 hKn hkC e1 w2).to (fun j hj => (fv0 (hok j hj)).1), fun j hj => (fv0 (hok j hj)).2⟩) (S.new z1 o1) hl
theorem x_putr {ci j a b idx : Nat} {rf : Nat → Option Nat} (F : FKf r.1.cls idx ci j) (hin : r.1.name = "<init>") (hd : decode r.2.1 pc = .ok (.putfield idx, 3)) (hk : lay.1 a = some (0, ci, rf)) (hw : g.2.1 ≤ a) (ht : (ftys ci j).isReference = true) (k : X g r cn ck (lput lay a (0, ci, fun i => if i = j then some b else rf i)) M (pc + 3) L st K) : X g r cn ck lay M pc L (vR b :: vR a :: st) K := by
  obtain ⟨q, f1, f2, f3, f4, f5⟩ := F
  intro p l e s m args below meth c H locs ls C G R S hl
  obtain ⟨hx, hb, hml, hre, hlo, hown, hts, htb, hst, hnm0⟩ := id C
  obtain ⟨q', g1, ⟨cell, q1, q2, q3, q4⟩, g3⟩ := R.2 a _ hk
  cases f1.symm.trans g1
  obtain ⟨w1, w2, w3⟩ := vwCl_is ci q f1
  have hap := va_apart (own := r.1.cls) hts w1 (ftys ci) w2 w3 G.1 f1
  obtain ⟨hS, hfc, kC, hkC, hkind⟩ := G.1.1 ci _ f1
  obtain ⟨cf, kf, fi, f, hi, hsl⟩ := hS j f2
  have hlay := hts _ (w1 _ (u_in_lay f2))
  unfold u_lay at hlay
  rw [if_pos f5] at hlay
  have hst2 := (u_facts hfc hkC (u_lays hts w1 f2) hi).1
  have hcf : m.cls = cf := by
    obtain ⟨_, _, c', _, _, _, -, -, hf', -, -, -, hown2, -⟩ := Cond.laysFinal_spec hlay
    have e1 : c' = cf := by have := hi.symm.trans hf'; simp at this; exact this.1.symm
    rw [f4] at hown2
    rw [← e1]
    exact Option.some.inj (hown.symm.trans hown2)
  have h6 := u_fits hfc hkC hkind (Or.inr hlay) hi (w2 j f2) (v := .ref b) (by cases h : ftys ci j <;> rw [h] at ht <;> first | rfl | cases ht) (by cases h : ftys ci j <;> rw [h] at ht <;> first | rfl | cases ht)
  refine W.putFinK hx hb hown (hts _ f3) hi hst2 hcf (hnm0.trans hin) (by rw [q2]; exact h6) q1 q3 (by rw [hsl]; exact k2_hasslot (q4 j f2)) rfl rfl hd fun H' e1 e2 e3 => ?_
  rw [hsl] at e1 ⊢
  refine k p l e s m args below meth c H' _ ls C G ⟨e2.trans R.1, fun b2 kb hb2 => ?_⟩ (S.put e2 e3 hw) hl
  by_cases e : b2 = a
  · subst e
    have e9 : kb = (0, ci, fun i => if i = j then some b else rf i) := (Option.some.inj (lput_at.symm.trans hb2)).symm
    subst e9
    refine ⟨q, f1, t_OB.put q2 q3 q4 hap f2 e1 (fun z hz => ?_), g3⟩
    by_cases e4 : z = j
    · subst e4
      rw [if_pos rfl]
      show fval (ftys ci z) (if z = z then some b else rf z) _ = _
      rw [if_pos rfl]
      exact fval_ref ht
    · rw [if_neg e4]
      show fval (ftys ci z) (if z = j then some b else rf z) _ = _
      rw [if_neg e4]
  · exact (R.2 b2 kb ((lput_ne e).symm.trans hb2)).kept (e3 b2 e)
def CI (own : String) (idx : Nat) (rc : MR) : Prop := (parseMethodDescriptor rc.1.desc).map (fun d => d.parameters.length) = some 0 ∧ (Cond.methodLink own idx rc.1 ∈ wsL_law ∧ Cond.instanceMethod rc.1 ∈ wsL_law ∧ Cond.initialized rc.1.cls ∈ wsL_law ∧ Cond.code rc.1 rc.2.1 rc.2.2.1 rc.2.2.2.1 ∈ wsL_law) ∧ (r_hh rc = [] ∧ plainName rc.1.cls = true ∧ rc.1.cls ≠ "java/lang/invoke/MethodHandle" ∧ rc.1.cls ≠ "java/lang/invoke/VarHandle") ∧ rc.1.name = "<init>" ∧ rc.2.2.2.1 = none
def CIN (own : String) (idx : Nat) (rc : MR) (host : String) : Prop := (parseMethodDescriptor rc.1.desc).map (fun d => d.parameters.length) = some 0 ∧ (Cond.methodLinkNest own idx rc.1 host ∈ nestW ∧ Cond.instanceMethod rc.1 ∈ wsL_law ∧ Cond.initialized rc.1.cls ∈ wsL_law ∧ Cond.code rc.1 rc.2.1 rc.2.2.1 rc.2.2.2.1 ∈ wsL_law) ∧ (r_hh rc = [] ∧ plainName rc.1.cls = true ∧ rc.1.cls ≠ "java/lang/invoke/MethodHandle" ∧ rc.1.cls ≠ "java/lang/invoke/VarHandle") ∧ rc.1.name = "<init>" ∧ rc.2.2.2.1 = none
theorem x_callI {idx a : Nat} {rc : MR} (cw : CI r.1.cls idx rc) (hd : decode r.2.1 pc = .ok (.invokespecial idx, 3)) (hR : r_fr rc + 1 ≤ r_fr r ∧ 8 + (rc.2.2.1 + 11) + r_lo rc ≤ r_lo r) (hlen : 1 ≤ rc.2.2.1) (hst : cats st ≤ 8) (hcc : cn + r_mc rc ≤ r_mc r ∧ ck + r_ms rc ≤ r_ms r)
    (hX : X g rc 0 0 lay M 0 [(0, vR a)] [] (kR g r (cn + r_mc rc) (ck + r_ms rc) (pc + 3) L st K)) : X g r cn ck lay M pc L (vR a :: st) K := by
  obtain ⟨hn, ⟨c1, c2, c4, c5⟩, ⟨c6, c7, c8, c9⟩, c10, c11⟩ := cw
  intro p l e s m args below meth c H locs ls C G R S hl
  obtain ⟨hx, hb, hml, hre, hlo, hown, hts, htb, hst0, hnm0⟩ := id C
  have hM := met_ret (met_of (As := [vR a]) c6 c7 l hst0 (by rw [cats_sl]; exact hlen) hX) (fun E st t q => xk_no q)
  have hcb := callB_of (R := rmOf r) (s := s) (args := args) (own := r.1.cls) (index := idx) (y := rc.1) (bytes := rc.2.1) (maxL := rc.2.2.1) (ret := rc.2.2.2.1) (ws := wsOf rc) (ws' := wsL_law) (rm := rmOf rc) (mc := (rmOf rc).cells) (ms := (rmOf rc).slots) (Ts := wsL_law) 0 hts (good_of c5) rfl rfl rfl (hts _ c4) (hts _ c1) ⟨c8, c9, hn⟩ hR
  rw [c11] at hcb
  have hrun := va_runI (p := p) (l := l) (e := e) (R := rmOf r) (s := s) (m := m) (args := args) (below := below) (meth := meth) (c := c) (H := H) (locs := locs) (cells := cn) (slots := ck) (nL := r.2.2.1) (cc := r.2.1) (Ts := wsL_law) (own := r.1.cls) (b := a) (As := []) (rest := st.map cv) (g := F0 m pc ls ((vR a :: st).map cv)) ⟨hx, hb, hml, hown, hts⟩ hM ⟨hcb, c10, hts _ c2⟩
    ⟨PcOf.blind, fun U hU hW => ⟨rfl, by rw [hU]; exact G.next (WW.of hW) S.1 S.2.1, by rw [hU]; exact R.moved hW.alike⟩⟩
    rfl rfl hl.1 rfl (lv_room (by rw [cats_eq]; exact hst)) hd hcc
  exact x_after C G S hl (fun T hT X0 => Or.inl (hrun T hT X0))
theorem x_callIN {idx a : Nat} {rc : MR} {host : String} (cw : CIN r.1.cls idx rc host) (hd : decode r.2.1 pc = .ok (.invokespecial idx, 3)) (hR : r_fr rc + 1 ≤ r_fr r ∧ 8 + (rc.2.2.1 + 11) + r_lo rc ≤ r_lo r) (hlen : 1 ≤ rc.2.2.1) (hst : cats st ≤ 8) (hcc : cn + r_mc rc ≤ r_mc r ∧ ck + r_ms rc ≤ r_ms r)
    (hX : X g rc 0 0 lay M 0 [(0, vR a)] [] (kR g r (cn + r_mc rc) (ck + r_ms rc) (pc + 3) L st K)) : X g r cn ck lay M pc L (vR a :: st) K := by
  obtain ⟨hn, ⟨c1, c2, c4, c5⟩, ⟨c6, c7, c8, c9⟩, c10, c11⟩ := cw
  intro p l e s m args below meth c H locs ls C G R S hl
  obtain ⟨hx, hb, hml, hre, hlo, hown, hts, htb, hst0, hnm0⟩ := id C
  have hM := met_ret (met_of (As := [vR a]) c6 c7 l hst0 (by rw [cats_sl]; exact hlen) hX) (fun E st t q => xk_no q)
  have hcb := va_cnB (R := rmOf r) (s := s) (args := args) (own := r.1.cls) (host := host) (index := idx) (y := rc.1) (bytes := rc.2.1) (maxL := rc.2.2.1) (ret := rc.2.2.2.1) (ws := wsOf rc) (ws' := wsL_law) (rm := rmOf rc) (mc := (rmOf rc).cells) (ms := (rmOf rc).slots) (Ts := wsL_law) 0 hts (good_of c5) rfl rfl rfl (G.nest c1) (hts _ c4) ⟨c8, c9, hn⟩ hR
  rw [c11] at hcb
  have hrun := va_runIN (p := p) (l := l) (e := e) (R := rmOf r) (s := s) (m := m) (args := args) (below := below) (meth := meth) (c := c) (H := H) (locs := locs) (cells := cn) (slots := ck) (nL := r.2.2.1) (cc := r.2.1) (Ts := wsL_law) (own := r.1.cls) (b := a) (As := []) (rest := st.map cv) (g := F0 m pc ls ((vR a :: st).map cv)) ⟨hx, hb, hml, hown, hts⟩ hM ⟨hcb, c10, hts _ c2⟩
    ⟨PcOf.blind, fun U hU hW => ⟨rfl, by rw [hU]; exact G.next (WW.of hW) S.1 S.2.1, by rw [hU]; exact R.moved hW.alike⟩⟩
    rfl rfl hl.1 rfl (lv_room (by rw [cats_eq]; exact hst)) hd hcc
  exact x_after C G S hl (fun T hT X0 => Or.inl (hrun T hT X0))
end XN
/-- two descriptions of a cell that say the same of it -/
def kdSim (k k' : Kd) : Prop := k'.1 = k.1 ∧ k'.2.1 = k.2.1 ∧ (k.1 = 0 → ∀ j, (ftys k.2.1 j).isReference = true → k'.2.2 j = k.2.2 j) ∧ (k.1 ≠ 0 → ∀ j, j < k.2.1 → k'.2.2 j = k.2.2 j)
theorem fval_sim {ty : FieldType} {r1 r2 : Option Nat} {x : Int} (h : ty.isReference = true → r2 = r1) : fval ty r2 x = fval ty r1 x := by
  cases ty <;> first | rfl | (rw [h rfl])
theorem cellIs.sim {g : GG} {s : State} {k k' : Kd} {mem : Nat → Int} {a : Nat} {H : Heap} (h : cellIs g s k mem a H) (hs : kdSim k k') : cellIs g s k' mem a H := by
  obtain ⟨t, n, rf⟩ := k
  obtain ⟨t', n', rf'⟩ := k'
  obtain ⟨e1, e2, e3, e4⟩ := hs
  dsimp only at e1 e2 e3 e4
  subst e1 e2
  cases t' with
  | zero =>
    obtain ⟨q, h1, ⟨cell, q1, q2, q3, q4⟩, h3⟩ := h
    refine ⟨q, h1, ⟨cell, q1, q2, q3, fun j hj => ?_⟩, h3⟩
    rw [q4 j hj]
    exact congrArg some (fval_sim (fun hr => e3 rfl j hr)).symm
  | succ t =>
    obtain ⟨cell, h2, c2, c3, c4, c5, c6, c7⟩ := h
    refine ⟨cell, h2, c2, c3, c4, c5, c6, fun j hj => ?_⟩
    have e9 := e4 (by omega) j hj
    show cell.slots[j]? = some (aval t (rf' j) (mem j)) ∧ arng t (mem j)
    rw [e9]
    exact c7 j hj
theorem X.re {g : GG} {r : MR} {cn ck : Nat} {lay : Lay} {M : Mem} {pc : Nat} {L : List (Nat × AV)} {st : List AV} {K : KK} {a : Nat} {k k' : Kd} (hk : lay.1 a = some k) (hs : kdSim k k') (h : X g r cn ck (lput lay a k') M pc L st K) : X g r cn ck lay M pc L st K := by
  intro p l e s m args below meth c H locs ls C G R S hl
  refine h p l e s m args below meth c H locs ls C G ⟨R.1, fun b kb hb => ?_⟩ S hl
  by_cases e : b = a
  · subst e
    have e2 : kb = k' := (Option.some.inj (lput_at.symm.trans hb)).symm
    rw [e2]
    exact (R.2 b k hk).sim hs
  · exact R.2 b kb ((lput_ne e).symm.trans hb)
section XN2
variable {g : GG} {r : MR} {cn ck : Nat} {lay : Lay} {M : Mem} {pc : Nat} {L : List (Nat × AV)} {st stk : List AV} {K : KK}
/-- a new array, put into a field -/
theorem x_arrf {ci j a idx n t : Nat} {at9 : ArrayType} {rf : Nat → Option Nat} (F : FKf r.1.cls idx ci j) (hin : r.1.name = "<init>") (hty : newarray.typeOf at9 = aty t) (ht : t < 5) (ha : Cond.arrayClass (aty t) ∈ wsL_law) (hd : decode r.2.1 pc = .ok (.newarray at9, 2)) (hd2 : decode r.2.1 (pc + 2) = .ok (.putfield idx, 3)) (hk : lay.1 a = some (0, ci, rf)) (hw : g.2.1 ≤ a) (hlt : a < lay.2) (hn : n < 100000) (hcc : cn + 1 ≤ r_mc r ∧ ck + n ≤ r_ms r) (hr : (ftys ci j).isReference = true)
    (k : ∀ (lay2 : Lay) (M2 : Mem), lay2.2 = lay.2 + 1 → (∀ x, x ≠ a → x ≠ lay.2 → lay2.1 x = lay.1 x) → lay2.1 lay.2 = some (t + 1, n, fun _ => none) → lay2.1 a = some (0, ci, fun i => if i = j then some lay.2 else rf i) → (∀ x i, x ≠ lay.2 → M2 x i = M x i) → (∀ i, M2 lay.2 i = 0) → X g r (cn + 1) (ck + n) lay2 M2 (pc + 2 + 3) L st K) : X g r cn ck lay M pc L (vI n :: vR a :: st) K :=
  x_newa hty ht ha hd hn hcc (x_putr F hin hd2 ((lnew_ne (by omega)).trans hk) hw hr (k _ _ rfl (fun x h1 h2 => (lput_ne h1).trans (lnew_ne h2)) ((lput_ne (by omega)).trans lnew_at) lput_at (fun x i h => mnew_ne h) (fun i => mnew_at)))
/-- a byte of a table that is being filled -/
theorem x_bastW {W : Nat → Int} {a i n : Nat} {x : Int} {rf : Nat → Option Nat} (hd : decode r.2.1 pc = .ok (.bastore, 1)) (hk : lay.1 a = some (3, n, rf)) (hw : g.2.1 ≤ a) (hi : i < n) (hx : -128 ≤ x ∧ x ≤ 127) (h : ∀ j, j < i → M a j = W j) (hW : W i = x) (k : ∀ M2 : Mem, (∀ y j, y ≠ a → M2 y j = M y j) → (∀ j, j < i + 1 → M2 a j = W j) → X g r cn ck lay M2 (pc + 1) L st K) : X g r cn ck lay M pc L (vI x :: vI i :: vR a :: st) K :=
  x_bast hd hk hw (by omega) (by omega) hx (k _ (fun y j e => mset_nea e) (fun j hj => by
    rw [Int.toNat_natCast]
    by_cases e : j = i
    · subst e
      rw [mset_same, hW]
    · rw [mset_nei e]
      exact h j (by omega)))
theorem assignable_aux (vm : Vm) (c : ClassId) (n : Nat) : vm.assignableAux (n + 1) c c = true := by
  rw [Vm.assignableAux]
  simp
theorem assignable_same (vm : Vm) (c : ClassId) : vm.assignable c c = true := assignable_aux vm c 255
/-- a new array of contests -/
theorem x_newq {idx n : Nat} (hd : decode r.2.1 pc = .ok (.anewarray idx, 3)) (hc : Cond.classLink r.1.cls idx "RootDuel$Contest" ∈ wsL_law) (hn : n < 100000) (hcc : cn + 1 ≤ r_mc r ∧ ck + n ≤ r_ms r) (k : X g r (cn + 1) (ck + n) (lnew lay (7, n, fun _ => none)) (mnew M lay.2) (pc + 3) L (vR lay.2 :: st) K) : X g r cn ck lay M pc L (vI n :: st) K := by
  intro p l e s m args below meth c H locs ls C G R S hl
  obtain ⟨hx, hb, hml, hre, hlo, hown, hts, htb, hst, hnm0⟩ := id C
  obtain ⟨d1, d2, d3, d4⟩ := n_aidx (i := (n : Int)) (n := n + 1) (by omega) (by omega) (by omega)
  have d5 : (Int32.ofInt (n : Int)).toNatClampNeg = n := by rw [d3]; exact Int.toNat_natCast n
  refine W.anew hx hb hown (hts _ hc) (va_AO.use (show va_AO "RootDuel$Contest" s from G.nest (w := .arrayOver (.object "RootDuel$Contest")) (by decide))) rfl hd rfl (fun z => d2 (Or.inl z)) (by rw [d5]; omega) hcc.1 (by rw [d5]; exact hcc.2) fun cA kA comp f1 f2 f3 f4 => ?_
  rw [d5]
  generalize hH1 : H.push ({ cls := cA, slots := Array.replicate n .null, vm := .none } : Cell) = H1
  have z1 : H1.size = H.size + 1 := by rw [← hH1, Array.size_push]
  have e1 : H1[lay.2]? = some (arrV cA n (fun _ => .null)) := by rw [← R.1, ← hH1, Array.getElem?_push_size, ← arrV_new]
  have o1 : ∀ q : Nat, q < H.size → H1[q]? = H[q]? := fun q hq => by rw [← hH1, Array.getElem?_push, if_neg (Nat.ne_of_lt hq)]
  have k9 := k p l e s m args below meth c H1 locs ls C G (R.new z1 o1 ⟨_, e1, ⟨(fun k h => by cases h), kA, f2, comp, f3⟩, (fun h => by cases h), arrV_size _ _ _, Nat.lt_trans hn (by decide), fun _ => ⟨kA, comp, f2, f3, f4, f1⟩, fun j hj => ⟨arrV_read _ _ hj, trivial⟩⟩) (S.new z1 o1) hl
  rw [← R.1] at k9
  exact k9
def lmna (lay : Lay) (n w : Nat) : Lay := (fun a => if a = lay.2 then some (6, n, fun i => if i < n then some (lay.2 + 1 + i) else none) else if lay.2 < a ∧ a < lay.2 + 1 + n then some (2, w, fun _ => none) else lay.1 a, lay.2 + 1 + n)
def mmna (M : Mem) (a : Nat) : Mem := fun b j => if a ≤ b then 0 else M b j
/-- an array of n arrays of w long words -/
theorem x_mna {idx n w : Nat} (hd : decode r.2.1 pc = .ok (.multianewarray idx 2, 4)) (hc : Cond.classLink r.1.cls idx ("[" ++ (FieldType.array .long).toString) ∈ wsL_law) (ha : Cond.arrayClass .long ∈ wsL_law) (hn : n < 1000) (hw : w < 1000) (hcc : cn + (1 + n) ≤ r_mc r ∧ ck + (n + n * w) ≤ r_ms r) (k : X g r (cn + 1 + n) (ck + n + n * w) (lmna lay n w) (mmna M lay.2) (pc + 4) L (vR lay.2 :: st) K) : X g r cn ck lay M pc L (vI w :: vI n :: st) K := by
  intro p l e s m args below meth c H locs ls C G R S hl
  obtain ⟨hx, hb, hml, hre, hlo, hown, hts, htb, hst, hnm0⟩ := id C
  obtain ⟨-, d2, d3, -⟩ := n_aidx (i := (n : Int)) (n := n + 1) (by omega) (by omega) (by omega)
  obtain ⟨-, e2, e3, -⟩ := n_aidx (i := (w : Int)) (n := w + 1) (by omega) (by omega) (by omega)
  have d5 : (Int32.ofInt (n : Int)).toNatClampNeg = n := by rw [d3]; exact Int.toNat_natCast n
  have e5 : (Int32.ofInt (w : Int)).toNatClampNeg = w := by rw [e3]; exact Int.toNat_natCast w
  intro T hT Xs
  obtain ⟨vm₁, cA, comp, -, fA, fC, hO, hI, X', step⟩ := Xs.multianewarray2F hx hown (hts _ hc) (show (Cond.arrayOver (.array .long)).before #[] s = true from G.nest (w := .arrayOver (.array .long)) (by decide)) (hts _ ha) (g := F0 m pc ls (.int (Int32.ofInt w) :: .int (Int32.ofInt n) :: st.map cv)) rfl (by rw [hb]; exact hd) rfl (fun z => d2 (Or.inl z)) (fun z => e2 (Or.inl z)) (by rw [d5]; omega) (by rw [e5]; show w * 8 ≤ _; omega) (by rw [e5]; omega) rfl rfl (by rw [d5]; exact hcc.1) (by rw [d5, e5]; exact hcc.2)
  rw [d5, e5] at X' step
  generalize hF : Jvm.Free.Multi.fill (T.setVm vm₁) cA comp n w (defaultValue .long) n = F at X' step
  have hTh : (T.setVm vm₁).heap = H := hT
  obtain ⟨f1, f2, -, -⟩ := Jvm.Free.Multi.fill_facts (T.setVm vm₁) cA comp n w (defaultValue .long) n
  rw [hF, hTh] at f1 f2
  have hold : ∀ x : Nat, x < H.size → F.heap[x]? = H[x]? := fun x hx => by
    have := Jvm.Free.Multi.fill_old (T.setVm vm₁) cA comp n w (defaultValue .long) (a := x) (by rw [hTh]; exact hx) n
    rw [hF, hTh] at this
    exact this
  have hrow : ∀ j : Nat, j < n → F.heap[H.size + 1 + j]? = some (Jvm.Free.Multi.innerC comp w (defaultValue .long)) := fun j hj => by
    have := Jvm.Free.Multi.fill_inner (T.setVm vm₁) cA comp n w (defaultValue .long) n j hj
    rw [hF, hTh] at this
    exact this
  rw [vr_outer] at f2
  have hzero : ∀ a : Nat, lay.2 ≤ a → mmna M lay.2 a = fun _ => 0 := fun a h => funext fun j => if_pos h
  have hrep : ∀ a kd, (lmna lay n w).1 a = some kd → cellIs g s kd (mmna M lay.2 a) a F.heap := by
    intro a kd hk
    by_cases h1 : a = lay.2
    · subst h1
      have e9 : kd = (6, n, fun i => if i < n then some (lay.2 + 1 + i) else none) := (Option.some.inj ((if_pos rfl).symm.trans hk)).symm
      subst e9
      rw [hzero _ (Nat.le_refl _)]
      rw [R.1] at f2
      refine ⟨_, f2, ?_, (fun h => by cases h), arrV_size _ _ _, Nat.lt_trans hn (by decide), fun z => absurd z (by decide), fun j hj => ⟨?_, trivial⟩⟩
      · have := (hO n lay.2 n).1
        rw [vr_outer] at this
        exact this
      · rw [arrV_read _ _ hj]
        show some (va_rf (if j < n then some (lay.2 + 1 + j) else none)) = some (va_rf (dr (if j < n then some (lay.2 + 1 + j) else none) 0))
        rw [if_pos hj]
        rfl
    · by_cases h2 : lay.2 < a ∧ a < lay.2 + 1 + n
      · have e9 : kd = (2, w, fun _ => none) := (Option.some.inj (((if_neg h1).trans (if_pos h2)).symm.trans hk)).symm
        subst e9
        rw [hzero _ (by omega)]
        have h3 := hrow (a - lay.2 - 1) (by omega)
        rw [R.1, show lay.2 + 1 + (a - lay.2 - 1) = a by omega] at h3
        have hi9 := (hI w (defaultValue .long)).1
        have ei : Jvm.Free.Multi.innerC comp w (defaultValue .long) = arrV comp w (fun _ => defaultValue .long) := arrV_new _ _ _
        rw [ei] at h3 hi9
        exact ⟨_, h3, hi9, (fun h => by cases h), arrV_size _ _ _, Nat.lt_trans hw (by decide), fun z => absurd z (by decide), fun j hj => ⟨arrV_read _ _ hj, by show i64 0; exact ⟨by decide, by decide⟩⟩⟩
      · have hk9 : lay.1 a = some kd := ((if_neg h1).trans (if_neg h2)).symm.trans hk
        have hlt := (R.2 a kd hk9).lt
        have e3 : mmna M lay.2 a = M a := funext fun j => if_neg (by rw [← R.1]; omega)
        rw [e3]
        exact (R.2 a kd hk9).kept (hold a hlt)
  obtain ⟨t, a1, b1⟩ := k p l e s m args below meth c F.heap locs ls C G ⟨by rw [f1, R.1]; rfl, hrep⟩ ⟨by rw [f1]; have := S.1; omega, fun x h1 h2 => (hold x (Nat.lt_of_lt_of_le h1 S.1)).trans (S.2.1 x h1 h2), S.2.2⟩ hl F rfl X'
  refine ⟨t, step t ?_, b1⟩
  have e : T.heap.size = lay.2 := by rw [hT, R.1]
  rw [e]
  exact a1
theorem x_newaG {t n : Nat} {at9 : ArrayType} (hty : newarray.typeOf at9 = aty t) (ht : t < 5) (ha : Cond.arrayClass (aty t) ∈ wsL_law) (hd : decode r.2.1 pc = .ok (.newarray at9, 2)) (hn : n < 100000) (hcc : cn + 1 ≤ r_mc r ∧ ck + n ≤ r_ms r) (k : ∀ (lay2 : Lay) (M2 : Mem), lay2.2 = lay.2 + 1 → (∀ x, x ≠ lay.2 → lay2.1 x = lay.1 x) → lay2.1 lay.2 = some (t + 1, n, fun _ => none) → (∀ x i, x ≠ lay.2 → M2 x i = M x i) → (∀ i, M2 lay.2 i = 0) → X g r (cn + 1) (ck + n) lay2 M2 (pc + 2) L (vR lay.2 :: st) K) : X g r cn ck lay M pc L (vI n :: st) K :=
  x_newa hty ht ha hd hn hcc (k _ _ rfl (fun x h => lnew_ne h) lnew_at (fun x i h => mnew_ne h) (fun i => mnew_at))
theorem x_newG {ci idx nf : Nat} (cw : CN r.1.cls idx ci nf) (hd : decode r.2.1 pc = .ok (.new idx, 3)) (hcc : cn + 1 ≤ r_mc r ∧ ck + nf ≤ r_ms r) (k : ∀ (lay2 : Lay) (M2 : Mem), lay2.2 = lay.2 + 1 → (∀ x, x ≠ lay.2 → lay2.1 x = lay.1 x) → lay2.1 lay.2 = some (0, ci, fun _ => none) → (∀ x i, x ≠ lay.2 → M2 x i = M x i) → (∀ i, M2 lay.2 i = 0) → X g r (cn + 1) (ck + nf) lay2 M2 (pc + 3) L (vR lay.2 :: st) K) : X g r cn ck lay M pc L st K :=
  x_new cw hd hcc (k _ _ rfl (fun x h => lnew_ne h) lnew_at (fun x i h => mnew_ne h) (fun i => mnew_at))
theorem x_newqG {idx n : Nat} (hd : decode r.2.1 pc = .ok (.anewarray idx, 3)) (hc : Cond.classLink r.1.cls idx "RootDuel$Contest" ∈ wsL_law) (hn : n < 100000) (hcc : cn + 1 ≤ r_mc r ∧ ck + n ≤ r_ms r) (k : ∀ (lay2 : Lay) (M2 : Mem), lay2.2 = lay.2 + 1 → (∀ x, x ≠ lay.2 → lay2.1 x = lay.1 x) → lay2.1 lay.2 = some (7, n, fun _ => none) → (∀ x i, x ≠ lay.2 → M2 x i = M x i) → (∀ i, M2 lay.2 i = 0) → X g r (cn + 1) (ck + n) lay2 M2 (pc + 3) L (vR lay.2 :: st) K) : X g r cn ck lay M pc L (vI n :: st) K :=
  x_newq hd hc hn hcc (k _ _ rfl (fun x h => lnew_ne h) lnew_at (fun x i h => mnew_ne h) (fun i => mnew_at))
theorem x_putrG {ci j a b idx : Nat} {rf : Nat → Option Nat} (F : FKf r.1.cls idx ci j) (hin : r.1.name = "<init>") (hd : decode r.2.1 pc = .ok (.putfield idx, 3)) (hk : lay.1 a = some (0, ci, rf)) (hw : g.2.1 ≤ a) (ht : (ftys ci j).isReference = true) (k : ∀ (lay2 : Lay), lay2.2 = lay.2 → (∀ x, x ≠ a → lay2.1 x = lay.1 x) → lay2.1 a = some (0, ci, fun i => if i = j then some b else rf i) → X g r cn ck lay2 M (pc + 3) L st K) : X g r cn ck lay M pc L (vR b :: vR a :: st) K :=
  x_putr F hin hd hk hw ht (k _ rfl (fun x h => lput_ne h) lput_at)
theorem x_mnaG {idx n w : Nat} (hd : decode r.2.1 pc = .ok (.multianewarray idx 2, 4)) (hc : Cond.classLink r.1.cls idx ("[" ++ (FieldType.array .long).toString) ∈ wsL_law) (ha : Cond.arrayClass .long ∈ wsL_law) (hn : n < 1000) (hw : w < 1000) (hcc : cn + (1 + n) ≤ r_mc r ∧ ck + (n + n * w) ≤ r_ms r) (k : ∀ (lay2 : Lay) (M2 : Mem), lay2.2 = lay.2 + 1 + n → (∀ x, x < lay.2 → lay2.1 x = lay.1 x) → lay2.1 lay.2 = some (6, n, fun i => if i < n then some (lay.2 + 1 + i) else none) → (∀ i, i < n → lay2.1 (lay.2 + 1 + i) = some (2, w, fun _ => none)) → (∀ x i, x < lay.2 → M2 x i = M x i) → (∀ x i, lay.2 ≤ x → M2 x i = 0) → X g r (cn + 1 + n) (ck + n + n * w) lay2 M2 (pc + 4) L (vR lay.2 :: st) K) : X g r cn ck lay M pc L (vI w :: vI n :: st) K :=
  x_mna hd hc ha hn hw hcc (k _ _ rfl (fun x h => (if_neg (by omega)).trans (if_neg (by omega))) (if_pos rfl) (fun i h => (if_neg (by omega)).trans (if_pos (by omega))) (fun x i h => if_neg (by omega)) (fun x i h => if_pos h))
end XN2
/-- the call of Object's constructor -/
def CO (own : String) (idx : Nat) : Prop := Cond.methodLink own idx Lib.objectInit ∈ wsL_law ∧ Cond.instanceMethod Lib.objectInit ∈ wsL_law ∧ Cond.code Lib.objectInit ⟨#[0xb1]⟩ 1 none ∈ wsL_law
theorem x_super {g : GG} {r : MR} {cn ck : Nat} {lay : Lay} {M : Mem} {pc : Nat} {L : List (Nat × AV)} {st : List AV} {K : KK} {idx a : Nat} (cw : CO r.1.cls idx) (hd : decode r.2.1 pc = .ok (.invokespecial idx, 3)) (hst : cats st ≤ 8) (hR : 1 ≤ r_fr r ∧ 20 ≤ r_lo r) (k : X g r cn ck lay M (pc + 3) L st K) : X g r cn ck lay M pc L (vR a :: st) K := by
  obtain ⟨c1, c2, c3⟩ := cw
  intro p l e s m args below meth c H locs ls C G R S hl
  obtain ⟨hx, hb, hml, hre, hlo, hown, hts, htb, hst0, hnm0⟩ := id C
  have hroom : 2 * (F0 m pc ls ((vR a :: st).map cv)).monitorRoom + ((st.map cv).map fun v => v.category).sum ≤ 8 := lv_room (by rw [cats_eq]; exact hst)
  exact W.objInit hx hb hown (hts _ c1) (hts _ c2) (hts _ c3) rfl (hl.1.trans hml.symm) rfl hd hR.1 (by have h9 : 20 ≤ (rmOf r).locals := hR.2; omega) (k p l e s m args below meth c H locs ls C G R S hl)
theorem kiO0 : CO RX0 3 := ⟨by decide +kernel, by decide +kernel, by decide +kernel⟩
theorem kiO1 : CO RX1 3 := ⟨by decide +kernel, by decide +kernel, by decide +kernel⟩
theorem kiO2 : CO RX2 3 := ⟨by decide +kernel, by decide +kernel, by decide +kernel⟩
theorem kiO3 : CO RX3 3 := ⟨by decide +kernel, by decide +kernel, by decide +kernel⟩
theorem kiO4 : CO RX4 1 := ⟨by decide +kernel, by decide +kernel, by decide +kernel⟩
theorem kiO5 : CO RX5 1 := ⟨by decide +kernel, by decide +kernel, by decide +kernel⟩
theorem kiC : CI RX4 9 m_X0_init := ⟨by decide +kernel, ⟨by decide +kernel, by decide +kernel, by decide +kernel, by decide +kernel⟩, ⟨rfl, by decide, by decide, by decide⟩, rfl, rfl⟩
theorem kiS : CIN RX4 25 m_X3_init RX4 := ⟨by decide +kernel, ⟨by decide, by decide +kernel, by decide +kernel, by decide +kernel⟩, ⟨rfl, by decide, by decide, by decide⟩, rfl, rfl⟩
theorem kiR : CIN RX4 32 m_X2_init RX4 := ⟨by decide +kernel, ⟨by decide, by decide +kernel, by decide +kernel, by decide +kernel⟩, ⟨rfl, by decide, by decide, by decide⟩, rfl, rfl⟩
theorem kiP : CIN RX4 39 m_X1_init RX4 := ⟨by decide +kernel, ⟨by decide, by decide +kernel, by decide +kernel, by decide +kernel⟩, ⟨rfl, by decide, by decide, by decide⟩, rfl, rfl⟩
theorem cn7 : CN RX4 7 0 9 := ⟨_, rfl, rfl, by decide +kernel, by decide +kernel, by decide +kernel⟩
theorem cn23 : CN RX4 23 3 4 := ⟨_, rfl, rfl, by decide +kernel, by decide +kernel, by decide +kernel⟩
theorem cn30 : CN RX4 30 2 13 := ⟨_, rfl, rfl, by decide +kernel, by decide +kernel, by decide +kernel⟩
theorem cn37 : CN RX4 37 1 2 := ⟨_, rfl, rfl, by decide +kernel, by decide +kernel, by decide +kernel⟩
theorem cl7 : Cond.classLink RX4 7 "RootDuel$Contest" ∈ wsL_law := by decide +kernel
theorem cl9 : Cond.classLink RX3 9 ("[" ++ (FieldType.array .long).toString) ∈ wsL_law := by decide +kernel
theorem na0 : Cond.arrayClass (aty 0) ∈ wsL_law := by decide +kernel
theorem na1 : Cond.arrayClass (aty 1) ∈ wsL_law := by decide +kernel
theorem na2 : Cond.arrayClass (aty 2) ∈ wsL_law := by decide +kernel
