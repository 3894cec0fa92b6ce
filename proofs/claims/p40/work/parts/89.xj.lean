/-! X: inherited methods, constructors with arguments, interfaces, nest mates' fields, arrays of objects, casts, clone. -/
theorem n32_orb {x b : Int} (h0 : 0 ≤ x) (h1 : x < 8388608) (b0 : 0 ≤ b) (b1 : b < 256) : Int32.ofInt (x * 256) ||| Int32.ofInt b = Int32.ofInt (x * 256 + b) := by
  apply Int32.toBitVec_inj.mp
  show BitVec.ofInt 32 (x * 256) ||| BitVec.ofInt 32 b = BitVec.ofInt 32 (x * 256 + b)
  apply BitVec.eq_of_toNat_eq
  rw [BitVec.toNat_or, BitVec.toNat_ofInt, BitVec.toNat_ofInt, BitVec.toNat_ofInt]
  have e1 : (x * 256 % ((2 ^ 32 : Nat) : Int)).toNat = x.toNat * 256 := by
    show (x * 256 % 4294967296).toNat = _
    omega
  have e2 : (b % ((2 ^ 32 : Nat) : Int)).toNat = b.toNat := by
    show (b % 4294967296).toNat = _
    omega
  have e3 : ((x * 256 + b) % ((2 ^ 32 : Nat) : Int)).toNat = x.toNat * 256 + b.toNat := by
    show ((x * 256 + b) % 4294967296).toNat = _
    omega
  rw [e1, e2, e3]
  have e4 := Nat.shiftLeft_add_eq_or_of_lt (show b.toNat < 2 ^ 8 by omega) x.toNat
  rw [Nat.shiftLeft_eq] at e4
  exact e4.symm
theorem n32_orz : ∀ a : Nat, a < 2 → ∀ b : Nat, b < 2 → Int32.ofInt (a : Int) ||| Int32.ofInt (b : Int) = Int32.ofInt ((if a = 1 ∨ b = 1 then 1 else 0 : Nat) : Int) ∧ Int32.ofInt (a : Int) &&& Int32.ofInt (b : Int) = Int32.ofInt ((if a = 1 ∧ b = 1 then 1 else 0 : Nat) : Int) := by decide +kernel
section XJ
variable {g : GG} {r : MR} {cn ck : Nat} {lay : Lay} {M : Mem} {pc : Nat} {L L' : List (Nat × AV)} {st stk : List AV} {K : KK}
theorem x_iorb {x b : Int} (h0 : 0 ≤ x) (h1 : x < 8388608) (b0 : 0 ≤ b) (b1 : b < 256) (hd : decode r.2.1 pc = .ok (.ior, 1)) (k : X g r cn ck lay M (pc + 1) L (vI (x * 256 + b) :: st) K) : X g r cn ck lay M pc L (vI b :: vI (x * 2 ^ 8) :: st) K := X.lift (fun hx hb w => lv_ior hx hb hd (by rw [show x * 2 ^ 8 = x * 256 by omega, n32_orb h0 h1 b0 b1]; exact w)) k
theorem x_iorz {x y : Int} (hx : 0 ≤ x ∧ x ≤ 1) (hy : 0 ≤ y ∧ y ≤ 1) (hd : decode r.2.1 pc = .ok (.ior, 1)) (k : X g r cn ck lay M (pc + 1) L (vI (if x = 1 ∨ y = 1 then 1 else 0) :: st) K) : X g r cn ck lay M pc L (vI y :: vI x :: st) K := X.lift (fun hx0 hb w => lv_ior hx0 hb hd (by
  have e := (n32_orz x.toNat (by omega) y.toNat (by omega)).1
  rw [Int.toNat_of_nonneg hx.1, Int.toNat_of_nonneg hy.1] at e
  rw [e, show ((if x.toNat = 1 ∨ y.toNat = 1 then 1 else 0 : Nat) : Int) = (if x = 1 ∨ y = 1 then 1 else 0) by split <;> split <;> omega]
  exact w)) k
theorem x_iandz {x y : Int} (hx : 0 ≤ x ∧ x ≤ 1) (hy : 0 ≤ y ∧ y ≤ 1) (hd : decode r.2.1 pc = .ok (.iand, 1)) (k : X g r cn ck lay M (pc + 1) L (vI (if x = 1 ∧ y = 1 then 1 else 0) :: st) K) : X g r cn ck lay M pc L (vI y :: vI x :: st) K := X.lift (fun hx0 hb w => lv_iand hx0 hb hd (by
  have e := (n32_orz x.toNat (by omega) y.toNat (by omega)).2
  rw [Int.toNat_of_nonneg hx.1, Int.toNat_of_nonneg hy.1] at e
  rw [e, show ((if x.toNat = 1 ∧ y.toNat = 1 then 1 else 0 : Nat) : Int) = (if x = 1 ∧ y = 1 then 1 else 0) by split <;> split <;> omega]
  exact w)) k
theorem x_dupx1 {v u : AV} (hd : decode r.2.1 pc = .ok (.dup_x1, 1)) (hc : (cv v).category = 1) (hu : (cv u).category = 1) (k : X g r cn ck lay M (pc + 1) L (v :: u :: v :: st) K) : X g r cn ck lay M pc L (v :: u :: st) K := X.lift (fun hx hb w => lv_dup_x1 hx hb hd hc hu w) k
theorem x_acmpeq {a b : Nat} {off : Int} {t : Nat} (hd : decode r.2.1 pc = .ok (.if_acmp .eq off, 3)) (ht : (pc : Int) + off = (t : Int)) (h : a = b) (k : X g r cn ck lay M t L st K) : X g r cn ck lay M pc L (vR b :: vR a :: st) K := by
  intro p l e s m args below meth c H locs ls C G R S hl
  exact lv_acmp_eq (rx := some a) (ry := some b) C.1 C.2.1 hd ht (fun _ => k p l e s m args below meth c H locs ls C G R S hl) (fun q => (q (congrArg some h)).elim)
theorem x_ldcI {idx : Nat} {v : Int32} (x : Int) (cw : Cond.constant r.1.cls idx v ∈ wsL_law) (hv : v = Int32.ofInt x) (hd : decode r.2.1 pc = .ok (.ldc idx, 2)) (k : X g r cn ck lay M (pc + 2) L (vI x :: st) K) : X g r cn ck lay M pc L st K := by
  subst hv
  intro p l e s m args below meth c H locs ls C G R S hl
  exact lv_ldc C.1 C.2.1 C.2.2.2.2.2.1 (C.2.2.2.2.2.2.1 _ cw) hd (k p l e s m args below meth c H locs ls C G R S hl)
theorem x_dcmp {x y : UInt64} {op : CmpOp} (hd : decode r.2.1 pc = .ok (.dcmp op, 1)) (k : X g r cn ck lay M (pc + 1) L (vI (Op.cmpValue (FP.dcmp x y) op).toInt :: st) K) : X g r cn ck lay M pc L (vD y :: vD x :: st) K := by
  have e : Int32.ofInt (Op.cmpValue (FP.dcmp x y) op).toInt = Op.cmpValue (FP.dcmp x y) op := Int32.ofInt_toInt _
  exact X.lift (fun hx hb w => lv_dcmp hx hb hd (by rw [← e]; exact w)) k
theorem x_aret {a : Nat} {rt : FieldType} (hd : decode r.2.1 pc = .ok (.areturn, 1)) (hr : r.2.2.2.1 = some rt) (hrt : rt.isReference = true) (hc : cn ≤ r_mc r) (hs : ck ≤ r_ms r) (k : K (.inl (some (vR a))) lay M) : X g r cn ck lay M pc L [vR a] K :=
  x_ret0 (v := some (vR a)) hc hs k (fun C hq hf => W.aret C.1 C.2.1 (C.2.2.2.1.trans hr) (by cases rt <;> first | exact Or.inl ⟨_, rfl⟩ | exact Or.inr ⟨_, rfl⟩ | cases hrt) (Or.inr ⟨a, rfl⟩) hq hf hd C.2.2.2.2.1)
/-- a field of a nest mate -/
def FKN (own : String) (idx ci j : Nat) (host : String) : Prop := ∃ q : vw_C, vwCl[ci]? = some q ∧ j < q.2.2 ∧ Cond.fieldLinkNest own idx (q.2.1 j).1 (q.2.1 j).2.1 (q.2.1 j).2.2.1 host ∈ nestW ∧ (q.2.1 j).2.2.2 = false
def FKNr (own : String) (idx ci j : Nat) (host : String) : Prop := ∃ q : vw_C, vwCl[ci]? = some q ∧ j < q.2.2 ∧ Cond.fieldLinkNest own idx (q.2.1 j).1 (q.2.1 j).2.1 (q.2.1 j).2.2.1 host ∈ nestW
theorem x_getfN {ci j a idx : Nat} {host : String} {rf : Nat → Option Nat} {v : AV} (F : FKNr r.1.cls idx ci j host) (hd : decode r.2.1 pc = .ok (.getfield idx, 3)) (hk : lay.1 a = some (0, ci, rf)) (hv : cv v = fval (ftys ci j) (rf j) (M a j)) (k : frng (ftys ci j) (M a j) → X g r cn ck lay M (pc + 3) L (v :: st) K) : X g r cn ck lay M pc L (vR a :: st) K := by
  obtain ⟨q, f1, f2, f3⟩ := F
  intro p l e s m args below meth c H locs ls C G R S hl
  obtain ⟨hx, hb, hml, hr, hlo, hown, hts, hnt, hst, hnm0⟩ := id C
  obtain ⟨q', g1, ⟨cell, q1, q2, q3, q4⟩, g3⟩ := R.2 a _ hk
  cases f1.symm.trans g1
  obtain ⟨w1, w2, w3⟩ := vwCl_is ci q f1
  obtain ⟨hS, hfc, kC, hkC, hkind⟩ := G.1.1 ci _ f1
  obtain ⟨cf, kf, fi, f, hi, hsl⟩ := hS j f2
  have k9 := k (g3 j f2) p l e s m args below meth c H locs ls C G R S hl
  refine va_Wgetf hx hb hown (va_Nw.use rfl (G.nest f3)) hi (u_facts hfc hkC (u_lays hts w1 f2) hi).1 q1 (by rw [q3]; exact fun h => by cases h) (v := cv v) ?_ rfl rfl hd k9
  rw [hsl, q4 j f2, hv]
theorem x_getiN {ci j a idx : Nat} {host : String} {rf : Nat → Option Nat} (F : FKNr r.1.cls idx ci j host) (hd : decode r.2.1 pc = .ok (.getfield idx, 3)) (hk : lay.1 a = some (0, ci, rf)) (ht : ftys ci j = .int) (k : -2147483648 ≤ M a j → M a j ≤ 2147483647 → X g r cn ck lay M (pc + 3) L (vI (M a j) :: st) K) : X g r cn ck lay M pc L (vR a :: st) K :=
  x_getfN F hd hk (v := vI (M a j)) (by rw [ht]; rfl) (fun h => by rw [ht] at h; exact k h.1 h.2)
theorem x_getzN {ci j a idx : Nat} {host : String} {rf : Nat → Option Nat} (F : FKNr r.1.cls idx ci j host) (hd : decode r.2.1 pc = .ok (.getfield idx, 3)) (hk : lay.1 a = some (0, ci, rf)) (ht : ftys ci j = .boolean) (k : 0 ≤ M a j → M a j ≤ 1 → X g r cn ck lay M (pc + 3) L (vI (M a j) :: st) K) : X g r cn ck lay M pc L (vR a :: st) K :=
  x_getfN F hd hk (v := vI (M a j)) (by rw [ht]; rfl) (fun h => by rw [ht] at h; exact k h.1 h.2)
theorem x_getrN {ci j a b idx : Nat} {host : String} {rf : Nat → Option Nat} (F : FKNr r.1.cls idx ci j host) (hd : decode r.2.1 pc = .ok (.getfield idx, 3)) (hk : lay.1 a = some (0, ci, rf)) (hb : rf j = none) (hm : M a j = er b) (ht : (ftys ci j).isReference = true) (k : X g r cn ck lay M (pc + 3) L (vR b :: st) K) : X g r cn ck lay M pc L (vR a :: st) K :=
  x_getfN F hd hk (v := vR b) (by rw [hb, hm]; cases h : ftys ci j <;> rw [h] at ht <;> first | exact congrArg va_rf (dr_er b).symm | cases ht) (fun _ => k)
theorem x_putvN {ci j a idx : Nat} {host : String} {rf : Nat → Option Nat} {x : Int} (F : FKN r.1.cls idx ci j host) (hd : decode r.2.1 pc = .ok (.putfield idx, 3)) (hk : lay.1 a = some (0, ci, rf)) (hw : g.2.1 ≤ a) (hv : fval (ftys ci j) (rf j) x = .int (Int32.ofInt x)) (hn : narrow (ftys ci j) (.int (Int32.ofInt x)) = .int (Int32.ofInt x)) (hfit : fits (ftys ci j) (.int (Int32.ofInt x)) = true) (hr : frng (ftys ci j) x) (k : X g r cn ck lay (mset M a j x) (pc + 3) L st K) : X g r cn ck lay M pc L (vI x :: vR a :: st) K := by
  obtain ⟨q, f1, f2, f3, f4⟩ := F
  intro p l e s m args below meth c H locs ls C G R S hl
  obtain ⟨hx, hb, hml, hre, hlo, hown, hts, hnt, hst, hnm0⟩ := id C
  obtain ⟨q', g1, ⟨cell, q1, q2, q3, q4⟩, g3⟩ := R.2 a _ hk
  cases f1.symm.trans g1
  obtain ⟨w1, w2, w3⟩ := vwCl_is ci q f1
  have hap := va_apart (own := r.1.cls) hts w1 (ftys ci) w2 w3 G.1 f1
  obtain ⟨hS, hfc, kC, hkC, hkind⟩ := G.1.1 ci _ f1
  obtain ⟨cf, kf, fi, f, hi, hsl⟩ := hS j f2
  have hlay := hts _ (w1 _ (u_in_lay f2))
  unfold u_lay at hlay
  rw [if_neg (by rw [f4]; decide)] at hlay
  have hst := (u_facts hfc hkC (u_lays hts w1 f2) hi).1
  have h6 := u_store hfc hkC hkind hlay hi (w2 j f2) hn hfit
  refine va_WputK hx hb (f := f) hown (va_Nw.use rfl (G.nest f3)) hi hst (by rw [q2]; exact h6) q1 q3 (by rw [hsl]; exact k2_hasslot (q4 j f2)) rfl rfl hd fun H' e1 e2 e3 => ?_
  rw [hsl] at e1 ⊢
  refine k p l e s m args below meth c H' _ ls C G ⟨e2.trans R.1, ?_⟩ (S.put e2 e3 hw) hl
  refine Rep.set1 R.2 hk ⟨q, f1, t_OB.put q2 q3 q4 hap f2 e1 (fun z hz => ?_), fun z hz => ?_⟩ e3
  · rw [mset_a]
    by_cases e : z = j
    · subst e
      simp [hv]
      rfl
    · simp [e]
  · rw [mset_a]
    by_cases e : z = j
    · subst e
      simpa using hr
    · simpa [e] using g3 z hz
theorem x_putiN {ci j a idx : Nat} {host : String} {rf : Nat → Option Nat} {x : Int} (F : FKN r.1.cls idx ci j host) (hd : decode r.2.1 pc = .ok (.putfield idx, 3)) (hk : lay.1 a = some (0, ci, rf)) (hw : g.2.1 ≤ a) (ht : ftys ci j = .int) (hr : i32 x) (k : X g r cn ck lay (mset M a j x) (pc + 3) L st K) : X g r cn ck lay M pc L (vI x :: vR a :: st) K :=
  x_putvN F hd hk hw (by rw [ht]; rfl) (by rw [ht]; rfl) (by rw [ht]; rfl) (by rw [ht]; exact hr) k
theorem x_putzN {ci j a idx : Nat} {host : String} {rf : Nat → Option Nat} {x : Int} (F : FKN r.1.cls idx ci j host) (hd : decode r.2.1 pc = .ok (.putfield idx, 3)) (hk : lay.1 a = some (0, ci, rf)) (hw : g.2.1 ≤ a) (ht : ftys ci j = .boolean) (hr : 0 ≤ x ∧ x ≤ 1) (k : X g r cn ck lay (mset M a j x) (pc + 3) L st K) : X g r cn ck lay M pc L (vI x :: vR a :: st) K :=
  x_putvN F hd hk hw (by rw [ht]; rfl) (by rw [ht]; exact n_nz hr) (by rw [ht]; exact n_fz hr) (by rw [ht]; exact hr) k
/-- an inherited field under a subclass's name -/
def FKU (own : String) (idx ci j : Nat) (ref : String) : Prop := ∃ q : vw_C, vwCl[ci]? = some q ∧ j < q.2.2 ∧ Cond.fieldLink own idx ref (q.2.1 j).2.1 (q.2.1 j).2.2.1 ∈ wsL_law ∧ Cond.sameField ref (q.2.1 j).1 (q.2.1 j).2.1 (q.2.1 j).2.2.1 ∈ wsL_law ∧ (q.2.1 j).2.2.2 = false
theorem x_getiU {ci j a idx : Nat} {ref : String} {rf : Nat → Option Nat} (F : FKU r.1.cls idx ci j ref) (hd : decode r.2.1 pc = .ok (.getfield idx, 3)) (hk : lay.1 a = some (0, ci, rf)) (ht : ftys ci j = .int) (k : -2147483648 ≤ M a j → M a j ≤ 2147483647 → X g r cn ck lay M (pc + 3) L (vI (M a j) :: st) K) : X g r cn ck lay M pc L (vR a :: st) K := by
  obtain ⟨q, f1, f2, f3, f5, -⟩ := F
  intro p l e s m args below meth c H locs ls C G R S hl
  obtain ⟨hx, hb, hml, hr, hlo, hown, hts, hnt, hst, hnm0⟩ := id C
  obtain ⟨q', g1, ⟨cell, q1, q2, q3, q4⟩, g3⟩ := R.2 a _ hk
  cases f1.symm.trans g1
  obtain ⟨w1, w2, w3⟩ := vwCl_is ci q f1
  obtain ⟨hS, hfc, kC, hkC, hkind⟩ := G.1.1 ci _ f1
  obtain ⟨cf, kf, fi, f, hi, hsl⟩ := hS j f2
  have g4 := g3 j f2
  rw [ht] at g4
  have k9 := k g4.1 g4.2 p l e s m args below meth c H locs ls C G R S hl
  refine W.getf hx hb hown (hts _ f3) (u_same (hts _ f5) _ hi) (u_facts hfc hkC (u_lays hts w1 f2) hi).1 q1 (by rw [q3]; exact fun h => by cases h) (v := cv (vI (M a j))) ?_ rfl rfl hd k9
  rw [hsl, q4 j f2]
  show some (fval (ftys ci j) (rf j) (M a j)) = _
  rw [ht]
  rfl
theorem x_putiU {ci j a idx : Nat} {ref : String} {rf : Nat → Option Nat} {x : Int} (F : FKU r.1.cls idx ci j ref) (hd : decode r.2.1 pc = .ok (.putfield idx, 3)) (hk : lay.1 a = some (0, ci, rf)) (hw : g.2.1 ≤ a) (ht : ftys ci j = .int) (hr : i32 x) (k : X g r cn ck lay (mset M a j x) (pc + 3) L st K) : X g r cn ck lay M pc L (vI x :: vR a :: st) K := by
  obtain ⟨q, f1, f2, f3, f5, f4⟩ := F
  intro p l e s m args below meth c H locs ls C G R S hl
  obtain ⟨hx, hb, hml, hre, hlo, hown, hts, hnt, hst, hnm0⟩ := id C
  obtain ⟨q', g1, ⟨cell, q1, q2, q3, q4⟩, g3⟩ := R.2 a _ hk
  cases f1.symm.trans g1
  obtain ⟨w1, w2, w3⟩ := vwCl_is ci q f1
  have hap := va_apart (own := r.1.cls) hts w1 (ftys ci) w2 w3 G.1 f1
  obtain ⟨hS, hfc, kC, hkC, hkind⟩ := G.1.1 ci _ f1
  obtain ⟨cf, kf, fi, f, hi, hsl⟩ := hS j f2
  have hlay := hts _ (w1 _ (u_in_lay f2))
  unfold u_lay at hlay
  rw [if_neg (by rw [f4]; decide)] at hlay
  have hst := (u_facts hfc hkC (u_lays hts w1 f2) hi).1
  have h6 := u_store hfc hkC hkind hlay hi (w2 j f2) (v := .int (Int32.ofInt x)) (by rw [ht]; rfl) (by rw [ht]; rfl)
  refine W.putK hx hb (f := f) ⟨hown, hts _ f3, ⟨_, _, _, u_same (hts _ f5) _ hi⟩, hst⟩ (by rw [q2]; exact h6) q1 q3 (by rw [hsl]; exact k2_hasslot (q4 j f2)) rfl rfl hd fun H' e1 e2 e3 => ?_
  rw [hsl] at e1 ⊢
  refine k p l e s m args below meth c H' _ ls C G ⟨e2.trans R.1, ?_⟩ (S.put e2 e3 hw) hl
  refine Rep.set1 R.2 hk ⟨q, f1, t_OB.put q2 q3 q4 hap f2 e1 (fun z hz => ?_), fun z hz => ?_⟩ e3
  · rw [mset_a]
    by_cases e : z = j
    · subst e
      simp [ht]
      rfl
    · simp [e]
  · rw [mset_a]
    by_cases e : z = j
    · subst e
      show frng (ftys ci z) (if z = z then x else M a z)
      rw [if_pos rfl, ht]
      exact hr
    · simpa [e] using g3 z hz

def CIp (own : String) (idx : Nat) (rc : MR) (np : Nat) : Prop := (parseMethodDescriptor rc.1.desc).map (fun d => d.parameters.length) = some np ∧ (Cond.methodLink own idx rc.1 ∈ wsL_law ∧ Cond.instanceMethod rc.1 ∈ wsL_law ∧ Cond.initialized rc.1.cls ∈ wsL_law ∧ Cond.code rc.1 rc.2.1 rc.2.2.1 rc.2.2.2.1 ∈ wsL_law) ∧ (r_hh rc = [] ∧ plainName rc.1.cls = true ∧ rc.1.cls ≠ "java/lang/invoke/MethodHandle" ∧ rc.1.cls ≠ "java/lang/invoke/VarHandle") ∧ rc.1.name = "<init>" ∧ rc.2.2.2.1 = none
theorem x_callP {idx a np : Nat} {rc : MR} (As : List AV) (hs : stk = As.reverse ++ vR a :: st) (cw : CIp r.1.cls idx rc np) (hd : decode r.2.1 pc = .ok (.invokespecial idx, 3)) (hn0 : As.length = np) (hR : r_fr rc + 1 ≤ r_fr r ∧ 8 + (rc.2.2.1 + 11) + r_lo rc ≤ r_lo r) (hlen : cats (vR a :: As) ≤ rc.2.2.1) (hst : cats st ≤ 8) (hcc : cn + r_mc rc ≤ r_mc r ∧ ck + r_ms rc ≤ r_ms r)
    (hX : X g rc 0 0 lay M 0 (lvA 0 (vR a :: As)) [] (kR g r (cn + r_mc rc) (ck + r_ms rc) (pc + 3) L st K)) : X g r cn ck lay M pc L stk K := by
  subst hs
  obtain ⟨hn, ⟨c1, c2, c4, c5⟩, ⟨c6, c7, c8, c9⟩, c10, c11⟩ := cw
  rw [← hn0] at hn
  intro p l e s m args below meth c H locs ls C G R S hl
  obtain ⟨hx, hb, hml, hre, hlo, hown, hts, htb, hst0, hnm0⟩ := id C
  have hM := met_ret (met_of (As := vR a :: As) c6 c7 l hst0 (by rw [cats_sl]; exact hlen) hX) (fun E st t q => xk_no q)
  have hcb := callB_of (R := rmOf r) (s := s) (args := args) (own := r.1.cls) (index := idx) (y := rc.1) (bytes := rc.2.1) (maxL := rc.2.2.1) (ret := rc.2.2.2.1) (ws := wsOf rc) (ws' := wsL_law) (rm := rmOf rc) (mc := (rmOf rc).cells) (ms := (rmOf rc).slots) (Ts := wsL_law) As.length hts (good_of c5) rfl rfl rfl (hts _ c4) (hts _ c1) ⟨c8, c9, hn⟩ hR
  rw [c11] at hcb
  have hrun := va_runI (p := p) (l := l) (e := e) (R := rmOf r) (s := s) (m := m) (args := args) (below := below) (meth := meth) (c := c) (H := H) (locs := locs) (cells := cn) (slots := ck) (nL := r.2.2.1) (cc := r.2.1) (Ts := wsL_law) (own := r.1.cls) (b := a) (As := As.map cv) (rest := st.map cv) (g := F0 m pc ls ((As.reverse ++ vR a :: st).map cv)) ⟨hx, hb, hml, hown, hts⟩ hM ⟨hcb, c10, hts _ c2⟩
    ⟨PcOf.blind, fun U hU hW => ⟨rfl, by rw [hU]; exact G.next (WW.of hW) S.1 S.2.1, by rw [hU]; exact R.moved hW.alike⟩⟩
    rfl (by simp) hl.1 (by simp [cv, va_rf]) (lv_room (by rw [cats_eq]; exact hst)) hd hcc
  exact x_after C G S hl (fun T hT X0 => Or.inl (hrun T hT X0))
/-- a superclass's method -/
def CSP (own : String) (idx : Nat) (rc : MR) (np : Nat) : Prop := (parseMethodDescriptor rc.1.desc).map (fun d => d.parameters.length) = some np ∧ (Cond.methodLink own idx rc.1 ∈ wsL_law ∧ Cond.sameMethod rc.1.cls rc.1.cls rc.1.name rc.1.desc ∈ wsL_law ∧ Cond.superclass own rc.1.cls ∈ wsL_law ∧ Cond.instanceMethod rc.1 ∈ wsL_law ∧ Cond.initialized rc.1.cls ∈ wsL_law ∧ Cond.code rc.1 rc.2.1 rc.2.2.1 rc.2.2.2.1 ∈ wsL_law) ∧ r_hh rc = [] ∧ plainName rc.1.cls = true ∧ rc.1.name ≠ "<init>"
theorem x_callSP {idx a np ci : Nat} {rc : MR} {rf : Nat → Option Nat} (As : List AV) (hs : stk = As.reverse ++ vR a :: st) (cw : CSP r.1.cls idx rc np) (hd : decode r.2.1 pc = .ok (.invokespecial idx, 3)) (hk : lay.1 a = some (0, ci, rf)) (hn0 : As.length = np) (hR : r_fr rc + 1 ≤ r_fr r ∧ 8 + (rc.2.2.1 + 11) + r_lo rc ≤ r_lo r) (hlen : cats (vR a :: As) ≤ rc.2.2.1) (hst : cats st ≤ 8) (hcc : cn + r_mc rc ≤ r_mc r ∧ ck + r_ms rc ≤ r_ms r)
    (hX : X g rc 0 0 lay M 0 (lvA 0 (vR a :: As)) [] (kR g r (cn + r_mc rc) (ck + r_ms rc) (pc + 3) L st K)) : X g r cn ck lay M pc L stk K := by
  subst hs
  obtain ⟨hn, ⟨c1, c2, c3, c4, c5, c6⟩, c7, c8, c9⟩ := cw
  rw [← hn0] at hn
  intro p l e s m args below meth c H locs ls C G R S hl
  obtain ⟨hx, hb, hml, hre, hlo, hown, hts, htb, hst0, hnm0⟩ := id C
  have hM := met_ret (met_of (As := vR a :: As) c7 c8 l hst0 (by rw [cats_sl]; exact hlen) hX) (fun E st t q => xk_no q)
  have hcb := va_cwSU (R := rmOf r) (s := s) (args := args) (own := r.1.cls) (index := idx) (y := rc.1) (bytes := rc.2.1) (maxL := rc.2.2.1) (ret := rc.2.2.2.1) (ws := wsOf rc) (ws' := wsL_law) (rm := rmOf rc) (mc := (rmOf rc).cells) (ms := (rmOf rc).slots) (Ts := wsL_law) As.length hts (fun w hw => by
    rcases List.mem_append.mp (show w ∈ ([.methodLink r.1.cls idx rc.1, .sameMethod rc.1.cls rc.1.cls rc.1.name rc.1.desc, .superclass r.1.cls rc.1.cls, .instanceMethod rc.1, .initialized rc.1.cls] : List Cond) ++ wsOf rc from hw) with h | h
    · simp only [List.mem_cons, List.not_mem_nil, or_false] at h
      rcases h with rfl | rfl | rfl | rfl | rfl
      · exact good_mem c1
      · exact good_mem c2
      · exact good_mem c3
      · exact good_mem c4
      · exact good_mem c5
    · exact good_of c6 w h) rfl rfl rfl ⟨c9, hn⟩ hR
  obtain ⟨q', g1, ⟨cell, q1, q2, q3, q4⟩, g3⟩ := R.2 a _ hk
  obtain ⟨hSl, hfc, kC, hkC, hkind⟩ := G.1.1 ci _ g1
  have hrun := va_runSU (p := p) (l := l) (e := e) (R := rmOf r) (s := s) (m := m) (args := args) (below := below) (meth := meth) (c := c) (H := H) (locs := locs) (cells := cn) (slots := ck) (nL := r.2.2.1) (cc := r.2.1) (Ts := wsL_law) (own := r.1.cls) (C := q'.1) (b := a) (As := As.map cv) (rest := st.map cv) (g := F0 m pc ls ((As.reverse ++ vR a :: st).map cv)) ⟨hfc, kC, hkC, hkind⟩ ⟨hx, hb, hml, hown, hts⟩ hM hcb
    ⟨PcOf.blind, ⟨cell, q1, by rw [q3]; rfl, by rw [q2]; exact hfc⟩, fun U hU hW => ⟨rfl, by rw [hU]; exact G.next (WW.of hW) S.1 S.2.1, by rw [hU]; exact R.moved hW.alike⟩⟩
    rfl (by simp) hl.1 (by simp [cv, va_rf]) (lv_room (by rw [cats_eq]; exact hst)) hd hcc
  exact x_after C G S hl (fun T hT X0 => Or.inl (hrun T hT X0))
/-- an inherited method (y is its own declaration) -/
def CU (own : String) (idx : Nat) (rc : MR) (np ci : Nat) : Prop := (parseMethodDescriptor rc.1.desc).map (fun d => d.parameters.length) = some np ∧ (∃ q : vw_C, vwCl[ci]? = some q ∧ Cond.selects q.1 rc.1 rc.1 ∈ wsL_law) ∧ (Cond.methodLink own idx rc.1 ∈ wsL_law ∧ Cond.sameMethod rc.1.cls rc.1.cls rc.1.name rc.1.desc ∈ wsL_law ∧ Cond.instanceMethod rc.1 ∈ wsL_law ∧ Cond.initialized rc.1.cls ∈ wsL_law ∧ Cond.code rc.1 rc.2.1 rc.2.2.1 rc.2.2.2.1 ∈ wsL_law) ∧ r_hh rc = [] ∧ plainName rc.1.cls = true ∧ rc.1.cls ≠ "java/lang/invoke/MethodHandle" ∧ rc.1.cls ≠ "java/lang/invoke/VarHandle"
theorem x_callU {idx a np ci : Nat} {rc : MR} {rf : Nat → Option Nat} (As : List AV) (hs : stk = As.reverse ++ vR a :: st) (cw : CU r.1.cls idx rc np ci) (hd : decode r.2.1 pc = .ok (.invokevirtual idx, 3)) (hk : lay.1 a = some (0, ci, rf)) (hn0 : As.length = np) (hR : r_fr rc + 1 ≤ r_fr r ∧ 8 + (rc.2.2.1 + 11) + r_lo rc ≤ r_lo r) (hlen : cats (vR a :: As) ≤ rc.2.2.1) (hst : cats st ≤ 8) (hcc : cn + r_mc rc ≤ r_mc r ∧ ck + r_ms rc ≤ r_ms r)
    (hX : X g rc 0 0 lay M 0 (lvA 0 (vR a :: As)) [] (kR g r (cn + r_mc rc) (ck + r_ms rc) (pc + 3) L st K)) : X g r cn ck lay M pc L stk K := by
  subst hs
  obtain ⟨hn, ⟨q', f1, c3⟩, ⟨c1, c2, c4, c5, c6⟩, c7, c8, c9, c10⟩ := cw
  rw [← hn0] at hn
  intro p l e s m args below meth c H locs ls C G R S hl
  obtain ⟨hx, hb, hml, hre, hlo, hown, hts, htb, hst0, hnm0⟩ := id C
  have hM := met_ret (met_of (As := vR a :: As) c7 c8 l hst0 (by rw [cats_sl]; exact hlen) hX) (fun E st t q => xk_no q)
  have hcb := va_cwU (R := rmOf r) (s := s) (args := args) (own := r.1.cls) (C := q'.1) (owner := rc.1.cls) (index := idx) (x := rc.1) (y := rc.1) (bytes := rc.2.1) (maxL := rc.2.2.1) (ret := rc.2.2.2.1) (ws := wsOf rc) (ws' := wsL_law) (rm := rmOf rc) (mc := (rmOf rc).cells) (ms := (rmOf rc).slots) (Ts := wsL_law) As.length hts (fun w hw => by
    rcases List.mem_append.mp (show w ∈ ([.methodLink r.1.cls idx rc.1, .sameMethod rc.1.cls rc.1.cls rc.1.name rc.1.desc, .selects q'.1 rc.1 rc.1, .instanceMethod rc.1, .initialized rc.1.cls] : List Cond) ++ wsOf rc from hw) with h | h
    · simp only [List.mem_cons, List.not_mem_nil, or_false] at h
      rcases h with rfl | rfl | rfl | rfl | rfl
      · exact good_mem c1
      · exact good_mem c2
      · exact good_mem c3
      · exact good_mem c4
      · exact good_mem c5
    · exact good_of c6 w h) rfl rfl rfl rfl ⟨c9, c10, hn⟩ hR
  obtain ⟨q2', g1, ⟨cell, q1, q2, q3, q4⟩, g3⟩ := R.2 a _ hk
  cases f1.symm.trans g1
  have hrun := va_runU (p := p) (l := l) (e := e) (R := rmOf r) (s := s) (m := m) (args := args) (below := below) (meth := meth) (c := c) (H := H) (locs := locs) (cells := cn) (slots := ck) (nL := r.2.2.1) (cc := r.2.1) (Ts := wsL_law) (own := r.1.cls) (C := q'.1) (b := a) (As := As.map cv) (rest := st.map cv) (g := F0 m pc ls ((As.reverse ++ vR a :: st).map cv)) ⟨hx, hb, hml, hown, hts⟩ hM hcb
    ⟨PcOf.blind, ⟨cell, q1, by rw [q3]; rfl, by rw [q2]; exact (G.1.1 _ _ g1).2.1⟩, fun U hU hW => ⟨rfl, by rw [hU]; exact G.next (WW.of hW) S.1 S.2.1, by rw [hU]; exact R.moved hW.alike⟩⟩
    rfl (by simp) hl.1 (by simp [cv, va_rf]) (lv_room (by rw [cats_eq]; exact hst)) hd hcc
  exact x_after C G S hl (fun T hT X0 => Or.inl (hrun T hT X0))
/-- a method that overrides the one that is named -/
def CO2 (own : String) (idx : Nat) (x : MethodName) (rc : MR) (np ci : Nat) : Prop := (parseMethodDescriptor x.desc).map (fun d => d.parameters.length) = some np ∧ (∃ q : vw_C, vwCl[ci]? = some q ∧ Cond.selects q.1 x rc.1 ∈ wsL_law) ∧ (Cond.methodLink own idx x ∈ wsL_law ∧ Cond.sameMethod x.cls x.cls x.name x.desc ∈ wsL_law ∧ Cond.instanceMethod x ∈ wsL_law ∧ (∃ b0 m0 r0, Cond.code x b0 m0 r0 ∈ wsL_law) ∧ Cond.instanceMethod rc.1 ∈ wsL_law ∧ Cond.initialized rc.1.cls ∈ wsL_law ∧ Cond.code rc.1 rc.2.1 rc.2.2.1 rc.2.2.2.1 ∈ wsL_law) ∧ r_hh rc = [] ∧ plainName rc.1.cls = true ∧ x.cls ≠ "java/lang/invoke/MethodHandle" ∧ x.cls ≠ "java/lang/invoke/VarHandle"
theorem x_callO {idx a np ci : Nat} {x : MethodName} {rc : MR} {rf : Nat → Option Nat} (As : List AV) (hs : stk = As.reverse ++ vR a :: st) (cw : CO2 r.1.cls idx x rc np ci) (hd : decode r.2.1 pc = .ok (.invokevirtual idx, 3)) (hk : lay.1 a = some (0, ci, rf)) (hn0 : As.length = np) (hR : r_fr rc + 1 ≤ r_fr r ∧ 8 + (rc.2.2.1 + 11) + r_lo rc ≤ r_lo r) (hlen : cats (vR a :: As) ≤ rc.2.2.1) (hst : cats st ≤ 8) (hcc : cn + r_mc rc ≤ r_mc r ∧ ck + r_ms rc ≤ r_ms r)
    (hX : X g rc 0 0 lay M 0 (lvA 0 (vR a :: As)) [] (kR g r (cn + r_mc rc) (ck + r_ms rc) (pc + 3) L st K)) : X g r cn ck lay M pc L stk K := by
  subst hs
  obtain ⟨hn, ⟨q', f1, c3⟩, ⟨c1, c2, c0, ⟨b0, m0, r0, ch⟩, c4, c5, c6⟩, c7, c8, c9, c10⟩ := cw
  rw [← hn0] at hn
  intro p l e s m args below meth c H locs ls C G R S hl
  obtain ⟨hx, hb, hml, hre, hlo, hown, hts, htb, hst0, hnm0⟩ := id C
  have hM := met_ret (met_of (As := vR a :: As) c7 c8 l hst0 (by rw [cats_sl]; exact hlen) hX) (fun E st t q => xk_no q)
  have hcb := va_cwO (R := rmOf r) (s := s) (args := args) (own := r.1.cls) (C := q'.1) (owner := x.cls) (index := idx) (x := x) (y := rc.1) (bytes := rc.2.1) (maxL := rc.2.2.1) (ret := rc.2.2.2.1) (ws := wsOf rc) (ws' := wsL_law) (rm := rmOf rc) (mc := (rmOf rc).cells) (ms := (rmOf rc).slots) (Ts := wsL_law) As.length hts (fun w hw => by
    rcases List.mem_append.mp (show w ∈ ([.methodLink r.1.cls idx x, .sameMethod x.cls x.cls x.name x.desc, .instanceMethod x, .selects q'.1 x rc.1, .instanceMethod rc.1, .initialized rc.1.cls] : List Cond) ++ wsOf rc from hw) with h | h
    · simp only [List.mem_cons, List.not_mem_nil, or_false] at h
      rcases h with rfl | rfl | rfl | rfl | rfl | rfl
      · exact good_mem c1
      · exact good_mem c2
      · exact good_mem c0
      · exact good_mem c3
      · exact good_mem c4
      · exact good_mem c5
    · exact good_of c6 w h) rfl rfl rfl ch ⟨c9, c10, hn⟩ hR
  obtain ⟨q2', g1, ⟨cell, q1, q2, q3, q4⟩, g3⟩ := R.2 a _ hk
  cases f1.symm.trans g1
  have hrun := va_runU (p := p) (l := l) (e := e) (R := rmOf r) (s := s) (m := m) (args := args) (below := below) (meth := meth) (c := c) (H := H) (locs := locs) (cells := cn) (slots := ck) (nL := r.2.2.1) (cc := r.2.1) (Ts := wsL_law) (own := r.1.cls) (C := q'.1) (b := a) (As := As.map cv) (rest := st.map cv) (g := F0 m pc ls ((As.reverse ++ vR a :: st).map cv)) ⟨hx, hb, hml, hown, hts⟩ hM hcb
    ⟨PcOf.blind, ⟨cell, q1, by rw [q3]; rfl, by rw [q2]; exact (G.1.1 _ _ g1).2.1⟩, fun U hU hW => ⟨rfl, by rw [hU]; exact G.next (WW.of hW) S.1 S.2.1, by rw [hU]; exact R.moved hW.alike⟩⟩
    rfl (by simp) hl.1 (by simp [cv, va_rf]) (lv_room (by rw [cats_eq]; exact hst)) hd hcc
  exact x_after C G S hl (fun T hT X0 => Or.inl (hrun T hT X0))
theorem GF.j {s : State} {H : Heap} (h : GF g s H) : StJ g s H := h.2.2.2.2.2.2.2.2.2.2.2.2.2.2
/-- what a run through an interface gives the caller -/
theorem x_after5 {rc : MR} {p : Program} {l : Launch} {e : Env} {s : State} {m : MethodId} {args : Array Value} {below : List Frame} {meth : Method} {c : Code} {H : Heap} {locs : List Loc} {ls : Array Slot} {a : Array Value} {stk0 : List Value}
    (C : Cx r p l s m args meth c) (G : GF g s s.heap) (S : va_S (gA g) s.heap H locs) (hl : lv_has ls r.2.2.1 (L.map (fun q => (q.1, cv q.2))))
    (hr : va_Run5 p l e (rmOf r) s m args below meth c H locs cn ck (r_mc rc) (r_ms rc) (F0 m pc ls stk0) (st.map cv) (Qk g (kR g r (cn + r_mc rc) (ck + r_ms rc) (pc + 5) L st K) a) (gA g)) : W p l e (rmOf r) s m args below meth c H locs cn ck (vx_MQ below (Qk g K) (Xk g K) args s (rmOf r).cells (rmOf r).slots (gA g)) (F0 m pc ls stk0) := by
  intro T hT X0
  obtain ⟨v, st₀, t, T', Lc, h0, X', hL, e1, e2, ⟨⟨v', lay', M', ho, hk', hR'⟩, hF⟩, stp⟩ := hr T hT X0
  obtain ⟨z, hz, k⟩ := hk'
  have hz2 : v' = z := by cases hz; rfl
  subst hz2
  have hv : v = v'.map cv := by cases ho; rfl
  subst hv
  obtain ⟨k1, k2, k3⟩ := vx_keep h0 e1 S (fun _ _ h => h) (fun _ h => h) hL hF
  have hal : s.vm.Alike t.vm := by rw [← e2]; exact X'.warmed.alike
  obtain ⟨t2, a1, b1⟩ := k p l e s m args below meth c T'.heap (locs ++ Lc) ls C G (by rw [e1]; exact hR'.moved hal.symm) k3 hl T' rfl X'
  refine ⟨t2, stp t2 ?_, b1⟩
  have e9 : (v'.toList ++ st).map cv = (v'.map cv).toList ++ st.map cv := by cases v' <;> rfl
  rw [e9] at a1
  exact a1
/-- a call through the interface Iterator, on an ArrayList's iterator -/
def CF (own : String) (idx : Nat) (x : MethodName) (rc : MR) : Prop := (parseMethodDescriptor x.desc).map (fun d => d.parameters.length) = some 0 ∧ (Cond.methodLink own idx x ∈ wsL_law ∧ Cond.selects "java/util/ArrayList$Itr" x rc.1 ∈ wsL_law ∧ Cond.instanceMethod rc.1 ∈ wsL_law ∧ Cond.initialized rc.1.cls ∈ wsL_law ∧ Cond.code rc.1 rc.2.1 rc.2.2.1 rc.2.2.2.1 ∈ wsL_law) ∧ r_hh rc = [] ∧ plainName rc.1.cls = true ∧ x.cls ≠ "java/lang/invoke/MethodHandle" ∧ x.cls ≠ "java/lang/invoke/VarHandle"
theorem x_callF {idx cnt a : Nat} {x : MethodName} {rc : MR} {rf : Nat → Option Nat} (cw : CF r.1.cls idx x rc) (hF : ∀ {s : State} {H : Heap}, StJ g s H → va_Fw "java/util/ArrayList$Itr" x rc.1 s) (hd : decode r.2.1 pc = .ok (.invokeinterface idx cnt, 5)) (hk : lay.1 a = some (0, 11, rf)) (hR : r_fr rc + 1 ≤ r_fr r ∧ 8 + (rc.2.2.1 + 11) + r_lo rc ≤ r_lo r) (hlen : 1 ≤ rc.2.2.1) (hst : cats st ≤ 8) (hcc : cn + r_mc rc ≤ r_mc r ∧ ck + r_ms rc ≤ r_ms r)
    (hX : X g rc 0 0 lay M 0 [(0, vR a)] [] (kR g r (cn + r_mc rc) (ck + r_ms rc) (pc + 5) L st K)) : X g r cn ck lay M pc L (vR a :: st) K := by
  obtain ⟨hn, ⟨c1, c3, c4, c5, c6⟩, c7, c8, c9, c10⟩ := cw
  intro p l e s m args below meth c H locs ls C G R S hl
  obtain ⟨hx, hb, hml, hre, hlo, hown, hts, htb, hst0, hnm0⟩ := id C
  have hM := met_ret (met_of (As := [vR a]) c7 c8 l hst0 (by rw [cats_sl]; exact hlen) hX) (fun E st t q => by
    obtain ⟨⟨lay', M', ⟨z, hz, -⟩, -⟩, -⟩ := q
    cases hz)
  have hcb := va_cwF (R := rmOf r) (s := s) (args := args) (own := r.1.cls) (C := "java/util/ArrayList$Itr") (index := idx) (x := x) (y := rc.1) (bytes := rc.2.1) (maxL := rc.2.2.1) (ret := rc.2.2.2.1) (ws := wsOf rc) (ws' := wsL_law) (rm := rmOf rc) (mc := (rmOf rc).cells) (ms := (rmOf rc).slots) (Ts := wsL_law) 0 hts (fun w hw => by
    rcases List.mem_append.mp (show w ∈ ([.methodLink r.1.cls idx x, .selects "java/util/ArrayList$Itr" x rc.1, .instanceMethod rc.1, .initialized rc.1.cls] : List Cond) ++ wsOf rc from hw) with h | h
    · simp only [List.mem_cons, List.not_mem_nil, or_false] at h
      rcases h with rfl | rfl | rfl | rfl
      · exact good_mem c1
      · exact good_mem c3
      · exact good_mem c4
      · exact good_mem c5
    · exact good_of c6 w h) rfl rfl rfl (hF G.j) ⟨c9, c10, hn⟩ hR
  obtain ⟨q', g1, ⟨cell, q1, q2, q3, q4⟩, g3⟩ := R.2 a _ hk
  obtain ⟨hSl, hfc, kC, hkC, hkind⟩ := G.1.1 11 _ g1
  have en : q'.1 = "java/util/ArrayList$Itr" := by cases g1; rfl
  rw [en] at hfc
  have hrun := va_runF (p := p) (l := l) (e := e) (R := rmOf r) (s := s) (m := m) (args := args) (below := below) (meth := meth) (c := c) (H := H) (locs := locs) (cells := cn) (slots := ck) (nL := r.2.2.1) (cc := r.2.1) (count := cnt) (Ts := wsL_law) (own := r.1.cls) (C := "java/util/ArrayList$Itr") (b := a) (As := []) (rest := st.map cv) (g := F0 m pc ls ((vR a :: st).map cv)) ⟨hfc, kC, hkC, hkind⟩ ⟨hx, hb, hml, hown, hts⟩ hM hcb
    ⟨PcOf.blind, ⟨cell, q1, by rw [q3]; rfl, by rw [q2]; exact hfc⟩, fun U hU hW => ⟨rfl, by rw [hU]; exact G.next (WW.of hW) S.1 S.2.1, by rw [hU]; exact R.moved hW.alike⟩⟩
    rfl rfl hl.1 rfl (lv_room (by rw [cats_eq]; exact hst)) hd hcc
  exact x_after5 C G S hl hrun
/-- a cast to the object's own class -/
theorem x_castC {idx a ci : Nat} {nm : String} {rf : Nat → Option Nat} (cw : Cond.classLink r.1.cls idx nm ∈ wsL_law) (hd : decode r.2.1 pc = .ok (.checkcast idx, 3)) (hk : lay.1 a = some (0, ci, rf)) (hcl : (vwCl[ci]?).map (fun q => q.1) = some nm) (k : X g r cn ck lay M (pc + 3) L (vR a :: st) K) : X g r cn ck lay M pc L (vR a :: st) K := by
  intro p l e s m args below meth c H locs ls C G R S hl
  obtain ⟨hx, hb, hml, hre, hlo, hown, hts, htb, hst0, hnm0⟩ := id C
  obtain ⟨q', g1, ⟨cell, q1, q2, q3, q4⟩, g3⟩ := R.2 a _ hk
  obtain ⟨hSl, hfc, kC, hkC, hkind⟩ := G.1.1 ci _ g1
  have en : q'.1 = nm := by rw [g1] at hcl; exact Option.some.inj hcl
  rw [en] at hfc
  exact va_castS (cC := g.1.1 ci) hx hb hown (hts _ cw) ⟨hfc, kC, hkC, hkind⟩ ⟨cell, q1, by rw [q3]; rfl, by rw [q2]; exact hfc⟩ hd (k p l e s m args below meth c H locs ls C G R S hl)
/-- a cast of an array of bytes -/
theorem x_castB {idx a n : Nat} {rf : Nat → Option Nat} (cw : Cond.classLink r.1.cls idx "[B" ∈ wsL_law) (hd : decode r.2.1 pc = .ok (.checkcast idx, 3)) (hk : lay.1 a = some (3, n, rf)) (k : X g r cn ck lay M (pc + 3) L (vR a :: st) K) : X g r cn ck lay M pc L (vR a :: st) K := by
  intro p l e s m args below meth c H locs ls C G R S hl
  obtain ⟨hx, hb, hml, hre, hlo, hown, hts, htb, hst0, hnm0⟩ := id C
  obtain ⟨cell, c1, c2, c3, c4, c5, c8, c6⟩ := x_arr R hk
  have hfc : s.vm.findClass "[B" = some cell.cls := c8 (Or.inl rfl)
  intro T hT X0
  obtain ⟨vm', X', stp⟩ := X0.checkcastYes hx hown (hts _ cw) (a := a) (cell := cell) (by rw [hT]; exact c1) (by
    cases h : cell.vm with
    | statics z => exact (c2.1 z h).elim
    | _ => rfl) hfc (va_asg _ _) (g := F0 m pc ls ((vR a :: st).map cv)) rfl rfl (by rw [hb]; exact hd)
  obtain ⟨t, a1, b1⟩ := k p l e s m args below meth c H locs ls C G R S hl (T.setVm vm') hT X'
  exact ⟨t, stp t a1, b1⟩
/-- an object put into an array of objects -/
theorem x_aastO {a v n ci : Nat} {rf rv : Nat → Option Nat} {i : Int} (hca : ∃ q : vw_C, vwCl[ci]? = some q ∧ Cond.castable q.1 "java/lang/Object" ∈ nestW) (hd : decode r.2.1 pc = .ok (.aastore, 1)) (hk : lay.1 a = some (8, n, rf)) (hv : lay.1 v = some (0, ci, rv)) (hw : g.2.1 ≤ a) (h0 : 0 ≤ i) (h1 : i < n) (hrf : rf i.toNat = none) (k : X g r cn ck lay (mset M a i.toNat (er v)) (pc + 1) L st K) : X g r cn ck lay M pc L (vR v :: vI i :: vR a :: st) K := by
  obtain ⟨q, f1, f2⟩ := hca
  intro p l e s m args below meth c H locs ls C G R S hl
  obtain ⟨hx, hb, hml, hre, hlo, hown, hts, htb, hst, hnm0⟩ := id C
  obtain ⟨cell, c1, A⟩ := x_arr R hk
  obtain ⟨c2, c3, c4, c5, c8, c6⟩ := id A
  obtain ⟨q', g1, ⟨cellV, q1, q2, q3, q4⟩, g3⟩ := R.2 v _ hv
  cases f1.symm.trans g1
  obtain ⟨hS, hfc, kC, hkC, hkind⟩ := G.1.1 ci _ f1
  obtain ⟨kA, comp, k1, k2, k3, -⟩ := c8 (Or.inr (Or.inr rfl))
  obtain ⟨kE, hkE, -⟩ := Vm.findClass_spec k3
  obtain ⟨c0, t1, z1, z2, z3⟩ := Cond.castable_spec (va_Nw.use (A := args) rfl (G.nest f2))
  cases hfc.symm.trans z1
  cases k3.symm.trans z2
  obtain ⟨d1, d2, d3, d4⟩ := n_aidx h0 h1 c5
  refine W.aast hx hb c1 (fun q h => c2.1 q h) c3 k1 k2 rfl hkE (j := Int32.ofInt i) ⟨fun z => d2 (Or.inl z), by rw [d3, c4]; exact d4⟩ q1 (fun q h => by rw [q3] at h; cases h) (by rw [q2]; exact hkC) (by rw [q2]; exact z3) rfl rfl hd fun H1 e1 zz1 oq => ?_
  rw [d3] at e1 ⊢
  refine k p l e s m args below meth c H1 _ ls C G ⟨zz1.trans R.1, Rep.set1 R.2 hk ⟨_, e1, ?_⟩ oq⟩ (S.put zz1 oq hw) hl
  rw [mset_a]
  exact A.set d4 (by rw [hrf]; exact congrArg va_rf (dr_er v)) trivial
/-- a reference read out of an array that the memory keeps -/
theorem x_aaldM {a n : Nat} {rf : Nat → Option Nat} {i : Int} (b : Nat) (hd : decode r.2.1 pc = .ok (.aaload, 1)) (hk : lay.1 a = some (8, n, rf)) (h0 : 0 ≤ i) (h1 : i < n) (hb : rf i.toNat = none) (hm : M a i.toNat = er b) (k : X g r cn ck lay M (pc + 1) L (vR b :: st) K) : X g r cn ck lay M pc L (vI i :: vR a :: st) K :=
  x_aald (t := 2) hd hk h0 h1 (by rw [hb, hm, dr_er]; exact k)
/-- a new array of objects -/
theorem x_newO {idx n : Nat} (hd : decode r.2.1 pc = .ok (.anewarray idx, 3)) (hc : Cond.classLink r.1.cls idx "java/lang/Object" ∈ wsL_law) (hn : n < 100000) (hcc : cn + 1 ≤ r_mc r ∧ ck + n ≤ r_ms r) (k : ∀ (lay2 : Lay) (M2 : Mem), lay2.2 = lay.2 + 1 → (∀ x, x ≠ lay.2 → lay2.1 x = lay.1 x) → lay2.1 lay.2 = some (8, n, fun _ => none) → (∀ x i, x ≠ lay.2 → M2 x i = M x i) → (∀ i, M2 lay.2 i = 0) → X g r (cn + 1) (ck + n) lay2 M2 (pc + 3) L (vR lay.2 :: st) K) : X g r cn ck lay M pc L (vI n :: st) K := by
  intro p l e s m args below meth c H locs ls C G R S hl
  obtain ⟨hx, hb, hml, hre, hlo, hown, hts, htb, hst, hnm0⟩ := id C
  obtain ⟨d1, d2, d3, d4⟩ := n_aidx (i := (n : Int)) (n := n + 1) (by omega) (by omega) (by omega)
  have d5 : (Int32.ofInt (n : Int)).toNatClampNeg = n := by rw [d3]; exact Int.toNat_natCast n
  refine W.anew hx hb hown (hts _ hc) (va_AO.use (show va_AO "java/lang/Object" s from G.nest (w := .arrayOver (.object "java/lang/Object")) (by decide))) rfl hd rfl (fun z => d2 (Or.inl z)) (by rw [d5]; omega) hcc.1 (by rw [d5]; exact hcc.2) fun cA kA comp f1 f2 f3 f4 => ?_
  rw [d5]
  generalize hH1 : H.push ({ cls := cA, slots := Array.replicate n .null, vm := .none } : Cell) = H1
  have z1 : H1.size = H.size + 1 := by rw [← hH1, Array.size_push]
  have e1 : H1[lay.2]? = some (arrV cA n (fun _ => .null)) := by rw [← R.1, ← hH1, Array.getElem?_push_size, ← arrV_new]
  have o1 : ∀ q : Nat, q < H.size → H1[q]? = H[q]? := fun q hq => by rw [← hH1, Array.getElem?_push, if_neg (Nat.ne_of_lt hq)]
  have k9 := k _ _ rfl (fun x h => lnew_ne h) lnew_at (fun x i h => mnew_ne h) (fun i => mnew_at) p l e s m args below meth c H1 locs ls C G (R.new z1 o1 ⟨_, e1, ⟨(fun k h => by cases h), kA, f2, comp, f3⟩, (fun h => by cases h), arrV_size _ _ _, Nat.lt_trans hn (by decide), fun _ => ⟨kA, comp, f2, f3, f4, f1⟩, fun j hj => ⟨arrV_read _ _ hj, trivial⟩⟩) (S.new z1 o1) hl
  rw [← R.1] at k9
  exact k9
/-- a copy of an array of bytes -/
def CCl (own : String) (idx : Nat) : Prop := Cond.methodLink own idx ⟨"[B", "clone", "()Ljava/lang/Object;"⟩ ∈ wsL_law ∧ Cond.sameMethod "[B" "java/lang/Object" "clone" "()Ljava/lang/Object;" ∈ wsL_law ∧ Cond.native ⟨"java/lang/Object", "clone", "()Ljava/lang/Object;"⟩ ∈ wsL_law ∧ Cond.instanceMethod ⟨"java/lang/Object", "clone", "()Ljava/lang/Object;"⟩ ∈ wsL_law ∧ Cond.selects "[B" ⟨"[B", "clone", "()Ljava/lang/Object;"⟩ ⟨"java/lang/Object", "clone", "()Ljava/lang/Object;"⟩ ∈ wsL_law
theorem Rep.newM {s : State} {lay lay2 : Lay} {M M2 : Mem} {H H1 : Heap} {k : Kd} (R : Rep g s lay M H) (hz : H1.size = H.size + 1) (hq : ∀ q : Nat, q < H.size → H1[q]? = H[q]?) (l2 : lay2.2 = lay.2 + 1) (l1 : ∀ x, x ≠ lay.2 → lay2.1 x = lay.1 x) (l0 : lay2.1 lay.2 = some k) (m1 : ∀ x i, x ≠ lay.2 → M2 x i = M x i) (hc : cellIs g s k (M2 lay.2) lay.2 H1) : Rep g s lay2 M2 H1 := by
  refine ⟨by rw [hz, R.1, l2], fun a k2 h => ?_⟩
  by_cases e : a = lay.2
  · subst e
    cases l0.symm.trans h
    exact hc
  · have hl : lay.1 a = some k2 := (l1 a e).symm.trans h
    have e3 : M2 a = M a := funext fun j => m1 a j e
    rw [e3]
    exact (R.2 a k2 hl).kept (hq a (R.2 a k2 hl).lt)
theorem x_clone {idx a n : Nat} {rf : Nat → Option Nat} (cw : CCl r.1.cls idx) (hd : decode r.2.1 pc = .ok (.invokevirtual idx, 3)) (hk : lay.1 a = some (3, n, rf)) (hst : cats st ≤ 8) (hR : 1 ≤ r_fr r ∧ 40 ≤ r_lo r) (hcc : cn + 1 ≤ r_mc r ∧ ck + n ≤ r_ms r) (k : ∀ (lay2 : Lay) (M2 : Mem), lay2.2 = lay.2 + 1 → (∀ x, x ≠ lay.2 → lay2.1 x = lay.1 x) → lay2.1 lay.2 = some (3, n, fun _ => none) → (∀ x i, x ≠ lay.2 → M2 x i = M x i) → (∀ i, M2 lay.2 i = M a i) → X g r (cn + 1) (ck + n) lay2 M2 (pc + 3) L (vR lay.2 :: st) K) : X g r cn ck lay M pc L (vR a :: st) K := by
  obtain ⟨w1, w2, w3, w4, w5⟩ := cw
  intro p l e s m args below meth c H locs ls C G R S hl
  obtain ⟨hx, hb, hml, hre, hlo, hown, hts, htb, hst0, hnm0⟩ := id C
  obtain ⟨cell, c1, A⟩ := x_arr R hk
  obtain ⟨c2, c3, c4, c5, c8, c6⟩ := id A
  have hfc : s.vm.findClass "[B" = some cell.cls := c8 (Or.inl rfl)
  obtain ⟨c0, t0', f1, f2, f3⟩ := Cond.castable_spec (va_Nw.use (A := args) rfl (G.nest (w := .castable "[B" "java/lang/Cloneable") (by decide)))
  cases hfc.symm.trans f1
  have e8 : ((st.map cv).map fun v => v.category).sum + 14 ≤ (rmOf r).locals := by
    rw [cats_eq st]
    have : (rmOf r).locals = r_lo r := rfl
    omega
  intro T hT X0
  have hcellT : T.heap[a]? = some cell := by rw [hT]; exact c1
  obtain ⟨-, kA, hkA, comp, hkind⟩ := State.isArrayOf_alike X0.warmed.alike c2
  obtain ⟨-, kS, hkS, compS, hkindS⟩ := id c2
  obtain ⟨vm', X', stp⟩ := X0.cloneArray hx hown (hts _ w1) (hts _ w2) (hts _ w3) (hts _ w4) (hts _ w5) (a := a) (cell := cell) hcellT (fun z h => c2.1 z h) c3 hfc f2 f3
    (fun i v hv => by
      have hk' : T.vm.classes[cell.cls]? = some kA := hkA
      have hi : i < n := by rw [← c4]; exact (Array.getElem?_eq_some_iff.mp hv).1
      obtain ⟨e1, e2⟩ := c6 i hi
      cases hv.symm.trans e1
      simpa [State.fitsSlot, State.slotType?, hk', hkind] using (show fits (aty 2) (aval 2 (rf i) (M a i)) = true from n_fb e2))
    (g := F0 m pc ls ((vR a :: st).map cv)) rfl (hl.1.trans hml.symm) rfl (by rw [hb]; exact hd) hR.1 (by show 2 * 0 + _ + 14 ≤ _; omega) hcc.1 (by rw [c4]; exact hcc.2) (hloader := Vm.clonesLoader_of_array hkS hkindS)
  rw [c4] at X'
  generalize hH1 : H.push ({ cls := cell.cls, slots := cell.slots } : Cell) = H1
  have z1 : H1.size = H.size + 1 := by rw [← hH1, Array.size_push]
  have e1 : H1[lay.2]? = some ({ cls := cell.cls, slots := cell.slots } : Cell) := by rw [← R.1, ← hH1, Array.getElem?_push_size]
  have o1 : ∀ q : Nat, q < H.size → H1[q]? = H[q]? := fun q hq => by rw [← hH1, Array.getElem?_push, if_neg (Nat.ne_of_lt hq)]
  have hM2 : ∀ i, (fun b j => if b = lay.2 then M a j else M b j : Mem) lay.2 i = M a i := fun i => if_pos rfl
  obtain ⟨t, a1, b1⟩ := k (lnew lay (3, n, fun _ => none)) (fun b j => if b = lay.2 then M a j else M b j) rfl (fun x h => lnew_ne h) lnew_at (fun x i h => if_neg h) hM2 p l e s m args below meth c H1 locs ls C G
    (R.newM z1 o1 rfl (fun x h => lnew_ne h) lnew_at (fun x i h => if_neg h) ⟨_, e1, ⟨(fun z h => by cases h), c2.2⟩, (fun h => by cases h), c4, c5, c8, fun j hj => by
      show cell.slots[j]? = some (aval 2 (rf j) (if lay.2 = lay.2 then M a j else M lay.2 j)) ∧ arng 2 (if lay.2 = lay.2 then M a j else M lay.2 j)
      rw [if_pos rfl]
      exact c6 j hj⟩) (S.new z1 o1) hl _ (by rw [← hH1, ← hT]; rfl) X'
  refine ⟨t, stp t ?_, b1⟩
  have e : T.heap.size = lay.2 := by rw [hT, R.1]
  rw [e]
  exact a1
end XJ

