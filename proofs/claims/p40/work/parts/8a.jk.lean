/-! Cells that are made along the way: what is known stays known. The names of the library's and the law's constants. -/
def Ext (lay lay2 : Lay) : Prop := lay.2 ≤ lay2.2 ∧ ∀ x, x < lay.2 → lay2.1 x = lay.1 x
/-- a cell that is known, and where it lies -/
def KN (lay : Lay) (a : Nat) (k : Kd) : Prop := lay.1 a = some k ∧ a < lay.2
/-- the memory below n is as it was -/
def Kp (n : Nat) (M M2 : Mem) : Prop := ∀ x i, x < n → M2 x i = M x i
theorem Ext.rf {lay : Lay} : Ext lay lay := ⟨Nat.le_refl _, fun _ _ => rfl⟩
theorem Ext.up {lay lay2 : Lay} (h : lay2.1 = lay.1) (h2 : lay.2 ≤ lay2.2) : Ext lay lay2 := ⟨h2, fun x _ => by rw [h]⟩
theorem Ext.tr {a b c : Lay} (h : Ext a b) (h2 : Ext b c) : Ext a c := ⟨Nat.le_trans h.1 h2.1, fun x hx => (h2.2 x (Nat.lt_of_lt_of_le hx h.1)).trans (h.2 x hx)⟩
theorem KN.ext {lay lay2 : Lay} {a : Nat} {k : Kd} (h : KN lay a k) (e : Ext lay lay2) : KN lay2 a k := ⟨(e.2 a h.2).trans h.1, Nat.lt_of_lt_of_le h.2 e.1⟩
theorem KN.ne {lay : Lay} {a b : Nat} {k k2 : Kd} (h : KN lay a k) (h2 : KN lay b k2) (hk : k.1 ≠ k2.1 ∨ k.2.1 ≠ k2.2.1) : a ≠ b := fun e => by
  subst e
  have := Option.some.inj (h.1.symm.trans h2.1)
  subst this
  simp at hk
theorem Kp.rf {n : Nat} {M : Mem} : Kp n M M := fun _ _ _ => rfl
theorem Kp.tr {n m : Nat} {M M2 M3 : Mem} (h : Kp n M M2) (h2 : Kp m M2 M3) (hm : n ≤ m) : Kp n M M3 := fun x i hx => (h2 x i (by omega)).trans (h x i hx)
section XH2
variable {g : GG} {r : MR} {cn ck : Nat} {lay : Lay} {M : Mem} {pc : Nat} {L L' : List (Nat × AV)} {st stk : List AV} {K : KK}
theorem ext_of {lay2 : Lay} (z : lay2.2 = lay.2 + 1) (e : ∀ x, x ≠ lay.2 → lay2.1 x = lay.1 x) : Ext lay lay2 := ⟨by omega, fun x hx => e x (by omega)⟩
theorem x_newH {ci idx nf : Nat} (cw : CN r.1.cls idx ci nf) (hd : decode r.2.1 pc = .ok (.new idx, 3)) (hcc : cn + 1 ≤ r_mc r ∧ ck + nf ≤ r_ms r) (k : ∀ (a : Nat) (lay2 : Lay) (M2 : Mem), lay.2 = a → lay2.2 = a + 1 → Ext lay lay2 → Kp a M M2 → KN lay2 a (0, ci, fun _ => none) → (∀ i, M2 a i = 0) → X g r (cn + 1) (ck + nf) lay2 M2 (pc + 3) L (vR a :: st) K) : X g r cn ck lay M pc L st K :=
  x_newG cw hd hcc (fun lay2 M2 z e h m w => k _ lay2 M2 rfl z (ext_of z e) (fun x i hx => m x i (by omega)) ⟨h, by omega⟩ w)
theorem x_newaH {t n : Nat} {at9 : ArrayType} (hty : newarray.typeOf at9 = aty t) (ht : t < 5) (ha : Cond.arrayClass (aty t) ∈ wsL_law) (hd : decode r.2.1 pc = .ok (.newarray at9, 2)) (hn : n < 100000) (hcc : cn + 1 ≤ r_mc r ∧ ck + n ≤ r_ms r) {v : Int} (hv : v = (n : Int)) (k : ∀ (a : Nat) (lay2 : Lay) (M2 : Mem), lay.2 = a → lay2.2 = a + 1 → Ext lay lay2 → Kp a M M2 → KN lay2 a (t + 1, n, fun _ => none) → (∀ i, M2 a i = 0) → X g r (cn + 1) (ck + n) lay2 M2 (pc + 2) L (vR a :: st) K) : X g r cn ck lay M pc L (vI v :: st) K := by
  subst hv
  exact x_newaG hty ht ha hd hn hcc (fun lay2 M2 z e h m w => k _ lay2 M2 rfl z (ext_of z e) (fun x i hx => m x i (by omega)) ⟨h, by omega⟩ w)
theorem x_newOH {idx n : Nat} (hd : decode r.2.1 pc = .ok (.anewarray idx, 3)) (hc : Cond.classLink r.1.cls idx "java/lang/Object" ∈ wsL_law) (hn : n < 100000) (hcc : cn + 1 ≤ r_mc r ∧ ck + n ≤ r_ms r) {v : Int} (hv : v = (n : Int)) (k : ∀ (a : Nat) (lay2 : Lay) (M2 : Mem), lay.2 = a → lay2.2 = a + 1 → Ext lay lay2 → Kp a M M2 → KN lay2 a (8, n, fun _ => none) → (∀ i, M2 a i = 0) → X g r (cn + 1) (ck + n) lay2 M2 (pc + 3) L (vR a :: st) K) : X g r cn ck lay M pc L (vI v :: st) K := by
  subst hv
  exact x_newO hd hc hn hcc (fun lay2 M2 z e h m w => k _ lay2 M2 rfl z (ext_of z e) (fun x i hx => m x i (by omega)) ⟨h, by omega⟩ w)
theorem x_cloneH {idx a n : Nat} {rf : Nat → Option Nat} (cw : CCl r.1.cls idx) (hd : decode r.2.1 pc = .ok (.invokevirtual idx, 3)) (hk : lay.1 a = some (3, n, rf)) (hst : cats st ≤ 8) (hR : 1 ≤ r_fr r ∧ 40 ≤ r_lo r) (hcc : cn + 1 ≤ r_mc r ∧ ck + n ≤ r_ms r) (k : ∀ (a2 : Nat) (lay2 : Lay) (M2 : Mem), lay.2 = a2 → lay2.2 = a2 + 1 → Ext lay lay2 → Kp a2 M M2 → KN lay2 a2 (3, n, fun _ => none) → (∀ i, M2 a2 i = M a i) → X g r (cn + 1) (ck + n) lay2 M2 (pc + 3) L (vR a2 :: st) K) : X g r cn ck lay M pc L (vR a :: st) K :=
  x_clone cw hd hk hst hR hcc (fun lay2 M2 z e h m w => k _ lay2 M2 rfl z (ext_of z e) (fun x i hx => m x i (by omega)) ⟨h, by omega⟩ w)
theorem x_bald9 {a n : Nat} {rf : Nat → Option Nat} {i : Int} (hd : decode r.2.1 pc = .ok (.baload, 1)) (hk : lay.1 a = some (10, n, rf)) (h0 : 0 ≤ i) (h1 : i < n) (k : -128 ≤ M a i.toNat → M a i.toNat ≤ 127 → X g r cn ck lay M (pc + 1) L (vI (M a i.toNat) :: st) K) : X g r cn ck lay M pc L (vI i :: vR a :: st) K := by
  intro p l e s m args below meth c H locs ls C G R S hl
  obtain ⟨cell, c1, c2, c3, c4, c5, -, c6⟩ := x_arr R hk
  obtain ⟨d1, d2, d3, d4⟩ := n_aidx h0 h1 c5
  obtain ⟨e1, e2⟩ := c6 i.toNat d4
  exact W.bald C.1 C.2.1 c1 c2 c3 (by rw [c4]; exact d2) (by rw [d3]; exact e1) rfl rfl hd (k e2.1 e2.2 p l e s m args below meth c H locs ls C G R S hl)
theorem x_gst3 {idx : Nat} (cw : Cond.fieldLink r.1.cls idx "java/lang/Integer" "DigitOnes" "[B" ∈ wsL_law) (hd : decode r.2.1 pc = .ok (.getstatic idx, 3)) (k : X g r cn ck lay M (pc + 3) L (vR (g.2.2.1 3) :: st) K) : X g r cn ck lay M pc L st K := by
  intro p l e s m args below meth c H locs ls C G R S hl
  obtain ⟨hx, hb, hml, hre, hlo, hown, hts, htb, hst0, hnm0⟩ := id C
  exact va_gets hx hb G.j.1 S hown (hts _ cw) (fun _ h => h) hd (k p l e s m args below meth c H locs ls C G R S hl)
theorem x_gst4 {idx : Nat} (cw : Cond.fieldLink r.1.cls idx "java/lang/Integer" "DigitTens" "[B" ∈ wsL_law) (hd : decode r.2.1 pc = .ok (.getstatic idx, 3)) (k : X g r cn ck lay M (pc + 3) L (vR (g.2.2.1 4) :: st) K) : X g r cn ck lay M pc L st K := by
  intro p l e s m args below meth c H locs ls C G R S hl
  obtain ⟨hx, hb, hml, hre, hlo, hown, hts, htb, hst0, hnm0⟩ := id C
  exact va_gets hx hb G.j.2.1 S hown (hts _ cw) (fun _ h => h) hd (k p l e s m args below meth c H locs ls C G R S hl)
theorem x_gst5 {idx : Nat} (cw : Cond.fieldLink r.1.cls idx "java/util/ArrayList" "DEFAULTCAPACITY_EMPTY_ELEMENTDATA" "[Ljava/lang/Object;" ∈ wsL_law) (hd : decode r.2.1 pc = .ok (.getstatic idx, 3)) (k : X g r cn ck lay M (pc + 3) L (vR (g.2.2.1 5) :: st) K) : X g r cn ck lay M pc L st K := by
  intro p l e s m args below meth c H locs ls C G R S hl
  obtain ⟨hx, hb, hml, hre, hlo, hown, hts, htb, hst0, hnm0⟩ := id C
  exact va_gets hx hb G.j.2.2.1 S hown (hts _ cw) (fun _ h => h) hd (k p l e s m args below meth c H locs ls C G R S hl)
theorem StJ.it_hasNext {g : GG} {s : State} {H : Heap} (h : StJ g s H) : va_Fw "java/util/ArrayList$Itr" ⟨"java/util/Iterator", "hasNext", "()Z"⟩ yJx35411_hasNext_aae02 s := h.2.2.2.1
theorem StJ.it_next {g : GG} {s : State} {H : Heap} (h : StJ g s H) : va_Fw "java/util/ArrayList$Itr" ⟨"java/util/Iterator", "next", "()Ljava/lang/Object;"⟩ yJx35411_next_0502b s := h.2.2.2.2
theorem x_copy2 {idx a b n0 n1 : Nat} {rf : Nat → Option Nat} {sp dp n : Int} {f : Nat → Int} (cw : CAC r.1.cls idx) (hd : decode r.2.1 pc = .ok (.invokestatic idx, 3)) (hkb : lay.1 b = some (3, n1, rf)) (hw : g.2.1 ≤ b) (h0 : 0 ≤ sp) (h1 : 0 ≤ dp) (h2 : 0 ≤ n) (h3 : sp + n ≤ n0) (h4 : dp + n ≤ n1) (hn0 : n0 < 1000000)
    (hsrc : ∀ {s : State} {H : Heap} {locs : List Loc}, GF g s s.heap → Rep g s lay M H → va_S (gA g) s.heap H locs → ∃ cell : Cell, H[a]? = some cell ∧ s.isArrayOf cell (aty 2) ∧ (∀ k, cell.vm ≠ .statics k) ∧ cell.vm ≠ .unknown ∧ n0 ≤ cell.slots.size ∧ ∀ j : Nat, j < n0 → cell.slots[j]? = some (aval 2 none (f j)) ∧ arng 2 (f j))
    (hst : cats st ≤ 8) (hR : 1 ≤ r_fr r ∧ 48 ≤ r_lo r)
    (k : X g r cn ck lay (fun q j => if q = b ∧ dp.toNat ≤ j ∧ j < dp.toNat + n.toNat then f (sp.toNat + (j - dp.toNat)) else M q j) (pc + 3) L st K) : X g r cn ck lay M pc L (vI n :: vI dp :: vR b :: vI sp :: vR a :: st) K := by
  intro p l e s m args below meth c H locs ls C G R S hl
  obtain ⟨hx, hb, hml, hre, hlo, hown, hts, htb, hst0, hnm0⟩ := id C
  obtain ⟨cs, s1, s2, s3, s4, s5, s6⟩ := hsrc G R S
  obtain ⟨cd, d1, d2, d3, d4, d5, d6, d7⟩ := x_arr R hkb
  obtain ⟨-, ks, hks, sc, hsk⟩ := s2
  obtain ⟨-, kd, hkd, dc, hdk⟩ := id d2
  have isp : i32 sp := ⟨by omega, by omega⟩
  have idp : i32 dp := ⟨by omega, by omega⟩
  have inn : i32 n := ⟨by omega, by omega⟩
  have eneg : ∀ x : Int, i32 x → 0 ≤ x → ¬ Int32.ofInt x < 0 := fun x hx h q => by
    have := (n32_lt hx i32_0).mp q
    omega
  have hprim : refKind (aty 2) = false := rfl
  have hav : ∀ (q : Option Nat) (x : Int), aval 2 q x = aval 2 none x := fun q x => rfl
  have e8 : 2 * (F0 m pc ls ((vI n :: vI dp :: vR b :: vI sp :: vR a :: st).map cv)).monitorRoom + ((st.map cv).map fun v => v.category).sum + (nativeFrameWords "java/lang/System" "arraycopy" 5 + 11) ≤ (rmOf r).locals := by
    have e9 : nativeFrameWords "java/lang/System" "arraycopy" 5 + 11 ≤ 40 := by decide
    rw [cats_eq st]
    show 2 * 0 + _ + (nativeFrameWords "java/lang/System" "arraycopy" 5 + 11) ≤ r_lo r
    omega
  intro T hT X0
  obtain ⟨vm', X', step⟩ := X0.arraycopy hx hown (hts _ cw.1) (hts _ cw.2.1) (hts _ cw.2.2.1) (hts _ cw.2.2.2) (src := a) (dst := b) (cs := cs) (cd := cd) (srcPos := Int32.ofInt sp) (destPos := Int32.ofInt dp) (n := Int32.ofInt n) (by rw [hT]; exact s1) (by rw [hT]; exact d1)
    s3 (fun q h => d2.1 q h) s4 d3 hks hkd hsk hdk (by rw [hprim]; simp) (eneg _ isp h0) (eneg _ idp h1) (eneg _ inn h2)
    (by rw [n32_toInt isp, n32_toInt inn]; omega) (by rw [n32_toInt idp, n32_toInt inn, d4]; omega)
    (fun vm₁ _ i hi => by
      rw [n32_cl inn] at hi
      rw [n32_cl isp]
      obtain ⟨e1, e2⟩ := s6 (sp.toNat + i) (by omega)
      have e3 : cs.slots.getD (sp.toNat + i) .null = aval 2 none (f (sp.toNat + i)) := by rw [Array.getD_eq_getD_getElem?, e1]; rfl
      rw [e3]
      exact ⟨n_fb e2, trivial⟩)
    (g := F0 m pc ls ((vI n :: vI dp :: vR b :: vI sp :: vR a :: st).map cv)) rfl (by rw [hml]; exact hl.1) (rest := st.map cv) rfl (by rw [hb]; exact hd) hR.1 e8
  have hlb : b < H.size := (Array.getElem?_eq_some_iff.mp d1).1
  have hheap : ((T.setVm vm').setCell b (copied cs cd (Int32.ofInt sp) (Int32.ofInt dp) (Int32.ofInt n))).heap = H.setIfInBounds b (copied cs cd (Int32.ofInt sp) (Int32.ofInt dp) (Int32.ofInt n)) := by rw [← hT]; rfl
  have oq : ∀ q : Nat, q ≠ b → (H.setIfInBounds b (copied cs cd (Int32.ofInt sp) (Int32.ofInt dp) (Int32.ofInt n)))[q]? = H[q]? := fun q hq => by simp [Array.getElem?_setIfInBounds, Ne.symm hq]
  have hrep : ∀ (q : Nat) (kq : Kd), lay.1 q = some kq → cellIs g s kq (fun j => if q = b ∧ dp.toNat ≤ j ∧ j < dp.toNat + n.toNat then f (sp.toNat + (j - dp.toNat)) else M q j) q (H.setIfInBounds b (copied cs cd (Int32.ofInt sp) (Int32.ofInt dp) (Int32.ofInt n))) := by
    intro q kq hq
    by_cases e : q = b
    · subst e
      cases hkb.symm.trans hq
      refine ⟨_, show (H.setIfInBounds q _)[q]? = some _ by simp [Array.getElem?_setIfInBounds, hlb]; rfl, ?_⟩
      have f1 : (copied cs cd (Int32.ofInt sp) (Int32.ofInt dp) (Int32.ofInt n)).cls = cd.cls := (Cell.storeRun_facts _ _ _).1
      have f2 : (copied cs cd (Int32.ofInt sp) (Int32.ofInt dp) (Int32.ofInt n)).vm = cd.vm := (Cell.storeRun_facts _ _ _).2.1
      refine ⟨⟨fun q => by rw [f2]; exact d2.1 q, by rw [f1]; exact d2.2⟩, by rw [f2]; exact d3, ?_, d5, by rw [f1]; exact d6, fun j hj => ?_⟩
      · rw [x_copied_size]
        exact d4
      · rw [x_copied_at (by rw [n32_cl inn, n32_cl isp]; omega) (by rw [n32_cl inn, n32_cl idp, d4]; omega), n32_cl inn, n32_cl idp, n32_cl isp]
        by_cases hin : dp.toNat ≤ j ∧ j < dp.toNat + n.toNat
        · rw [if_pos hin]
          obtain ⟨e1, e2⟩ := s6 (sp.toNat + (j - dp.toNat)) (by omega)
          rw [e1]
          simp only [true_and, hin, and_self, if_true]
          exact ⟨by rw [hav (rf j)], e2⟩
        · rw [if_neg hin]
          simp only [true_and, hin, if_false]
          exact d7 j hj
    · have e2 : (fun j => if q = b ∧ dp.toNat ≤ j ∧ j < dp.toNat + n.toNat then f (sp.toNat + (j - dp.toNat)) else M q j) = M q := funext fun j => if_neg (fun z => e z.1)
      show cellIs g s kq (fun j => if q = b ∧ dp.toNat ≤ j ∧ j < dp.toNat + n.toNat then f (sp.toNat + (j - dp.toNat)) else M q j) q _
      rw [e2]
      exact (R.2 q kq hq).kept (oq q e)
  obtain ⟨t2, a1, b1⟩ := k p l e s m args below meth c _ _ ls C G ⟨by simp; exact R.1, hrep⟩ ⟨by simp; exact S.1, fun q g1 g2 => by
      rw [oq q (fun e => g2 (by rw [e]; exact hw))]
      exact S.2.1 q g1 g2, fun q hq => by
      rcases List.mem_append.mp hq with h | h
      · exact S.2.2 q h
      · obtain ⟨z, -, hz⟩ := List.mem_map.mp h
        rw [← hz]
        exact hw⟩ hl _ hheap X'
  exact ⟨t2, step t2 a1, b1⟩
/-- arraycopy of bytes between two cells of ours -/
theorem x_copyB {idx a b n0 n1 : Nat} {rf rf0 : Nat → Option Nat} {sp dp n : Int} (cw : CAC r.1.cls idx) (hd : decode r.2.1 pc = .ok (.invokestatic idx, 3)) (hka : lay.1 a = some (3, n0, rf0)) (hkb : lay.1 b = some (3, n1, rf)) (hw : g.2.1 ≤ b) (h0 : 0 ≤ sp) (h1 : 0 ≤ dp) (h2 : 0 ≤ n) (h3 : sp + n ≤ n0) (h4 : dp + n ≤ n1) (hn0 : n0 < 1000000) (hst : cats st ≤ 8) (hR : 1 ≤ r_fr r ∧ 48 ≤ r_lo r)
    (k : X g r cn ck lay (mcopy M a sp.toNat b dp.toNat n.toNat) (pc + 3) L st K) : X g r cn ck lay M pc L (vI n :: vI dp :: vR b :: vI sp :: vR a :: st) K :=
  x_copy2 (f := M a) cw hd hkb hw h0 h1 h2 h3 h4 hn0 (fun {s H locs} G R S => by
    obtain ⟨cell, c1, c2, c3, c4, c5, c6, c7⟩ := x_arr R hka
    exact ⟨cell, c1, c2, fun q h => c2.1 q h, c3, by omega, fun j hj => c7 j hj⟩) hst hR k
/-- arraycopy out of a constant text -/
theorem x_copyS {idx b n1 q : Nat} {rf : Nat → Option Nat} {sp dp n : Int} (cw : CAC r.1.cls idx) (hd : decode r.2.1 pc = .ok (.invokestatic idx, 3)) (hq : q < 24) (hkb : lay.1 b = some (3, n1, rf)) (hw : g.2.1 ≤ b) (h0 : 0 ≤ sp) (h1 : 0 ≤ dp) (h2 : 0 ≤ n) (h3 : sp + n ≤ (stN q : Nat)) (h4 : dp + n ≤ n1) (hst : cats st ≤ 8) (hR : 1 ≤ r_fr r ∧ 48 ≤ r_lo r)
    (k : X g r cn ck lay (fun z j => if z = b ∧ dp.toNat ≤ j ∧ j < dp.toNat + n.toNat then (stB q).getD (sp.toNat + (j - dp.toNat)) 0 else M z j) (pc + 3) L st K) : X g r cn ck lay M pc L (vI n :: vI dp :: vR b :: vI sp :: vR (g.2.2.2.2 q) :: st) K :=
  x_copy2 (n0 := stN q) (f := fun j => (stB q).getD j 0) cw hd hkb hw h0 h1 h2 h3 h4 (by have := stN_rng q hq; omega) (fun {s H locs} G R S => by
    obtain ⟨cell, c1, c2, c3, c4, c5, c6, c7⟩ := ((G.str).1 q hq).2.2.2.kept S.2.1
    refine ⟨cell, c1, c2, c2.1, c3, c4, fun j hj => ?_⟩
    have hr := stB_rng q hq j hj
    refine ⟨?_, by show -128 ≤ _ ∧ _ ≤ 127; omega⟩
    rw [c6 j hj]
    show some (Value.int ((strI.getD q []).getD j 0)) = _
    rw [stI_at q hq j hj]
    rfl) hst hR k
end XH2

theorem flJx4a65c_39 : Cond.fieldLink "java/util/ArrayList" 39 "java/util/ArrayList" "DEFAULTCAPACITY_EMPTY_ELEMENTDATA" "[Ljava/lang/Object;" ∈ wsL_law := bg4 96 rfl rfl
theorem fuJx35411_17 : FKU RJx35411 17 10 0 "java/util/ArrayList" := ⟨_, rfl, by decide, (bg4 103 rfl rfl), (bg4 104 rfl rfl), rfl⟩
theorem fuJx4a65c_63 : FKU RJx4a65c 63 10 0 "java/util/ArrayList" := ⟨_, rfl, by decide, (bg4 105 rfl rfl), (bg4 104 rfl rfl), rfl⟩
theorem flJ5_18 : Cond.fieldLink "java/lang/AbstractStringBuilder" 18 "java/lang/String" "COMPACT_STRINGS" "Z" ∈ wsL_law := bg5 239 rfl rfl
theorem flJ6_83 : Cond.fieldLink "java/lang/Integer" 83 "java/lang/Integer" "DigitOnes" "[B" ∈ wsL_law := bg6 145 rfl rfl
theorem flJ6_87 : Cond.fieldLink "java/lang/Integer" 87 "java/lang/Integer" "DigitTens" "[B" ∈ wsL_law := bg6 147 rfl rfl
theorem frX6_96 : FKNr RX6 96 5 0 "RootDuelLaw" := ⟨_, rfl, by decide, by decide⟩
theorem frL_175 : FKNr RL 175 5 0 "RootDuelLaw" := ⟨_, rfl, by decide, by decide⟩
theorem frX6_103 : FKNr RX6 103 5 1 "RootDuelLaw" := ⟨_, rfl, by decide, by decide⟩
theorem frL_179 : FKNr RL 179 5 1 "RootDuelLaw" := ⟨_, rfl, by decide, by decide⟩
theorem frL_182 : FKNr RL 182 5 2 "RootDuelLaw" := ⟨_, rfl, by decide, by decide⟩
theorem frX6_130 : FKNr RX6 130 5 2 "RootDuelLaw" := ⟨_, rfl, by decide, by decide⟩
theorem frL_184 : FKNr RL 184 5 3 "RootDuelLaw" := ⟨_, rfl, by decide, by decide⟩
theorem frX6_127 : FKNr RX6 127 5 3 "RootDuelLaw" := ⟨_, rfl, by decide, by decide⟩
theorem frX6_77 : FKNr RX6 77 5 4 "RootDuelLaw" := ⟨_, rfl, by decide, by decide⟩
theorem frL_188 : FKNr RL 188 5 4 "RootDuelLaw" := ⟨_, rfl, by decide, by decide⟩
theorem frJx35411_28 : FKNr RJx35411 28 10 2 "java/util/ArrayList" := ⟨_, rfl, by decide, by decide⟩
theorem fwJx35411_28 : FKN RJx35411 28 10 2 "java/util/ArrayList" := ⟨_, rfl, by decide, by decide, rfl⟩
theorem frL_27 : FKNr RL 27 6 0 "RootDuelLaw" := ⟨_, rfl, by decide, by decide⟩
theorem frL_225 : FKNr RL 225 6 1 "RootDuelLaw" := ⟨_, rfl, by decide, by decide⟩
theorem frL_195 : FKNr RL 195 6 2 "RootDuelLaw" := ⟨_, rfl, by decide, by decide⟩
theorem frL_228 : FKNr RL 228 6 9 "RootDuelLaw" := ⟨_, rfl, by decide, by decide⟩
theorem fwL_228 : FKN RL 228 6 9 "RootDuelLaw" := ⟨_, rfl, by decide, by decide, rfl⟩
theorem frL_209 : FKNr RL 209 6 11 "RootDuelLaw" := ⟨_, rfl, by decide, by decide⟩
theorem fwL_209 : FKN RL 209 6 11 "RootDuelLaw" := ⟨_, rfl, by decide, by decide, rfl⟩
theorem frL_215 : FKNr RL 215 6 12 "RootDuelLaw" := ⟨_, rfl, by decide, by decide⟩
theorem fwL_215 : FKN RL 215 6 12 "RootDuelLaw" := ⟨_, rfl, by decide, by decide, rfl⟩
theorem frL_231 : FKNr RL 231 6 13 "RootDuelLaw" := ⟨_, rfl, by decide, by decide⟩
theorem fwL_231 : FKN RL 231 6 13 "RootDuelLaw" := ⟨_, rfl, by decide, by decide, rfl⟩
theorem kiJ8_200 : Cond.constant RJ8 200 (2147483639) ∈ wsL_law := bg4 133 rfl rfl
theorem kiL_7 : Cond.constant RL 7 (2147483647) ∈ wsL_law := bg5 107 rfl rfl
theorem kiL_66 : Cond.constant RL 66 (-2147483648) ∈ wsL_law := bg5 186 rfl rfl
theorem kiJ2_20 : Cond.constant RJ2 20 (1073741823) ∈ wsL_law := bg6 6 rfl rfl
theorem kiJ5_38 : Cond.constant RJ5 38 (2147483631) ∈ wsL_law := bg6 27 rfl rfl
theorem kiJ5_39 : Cond.constant RJ5 39 (2147483647) ∈ wsL_law := bg6 28 rfl rfl
theorem kdX4_236 : Cond.constantDouble RX4 236 4638707616191610880 ∈ wsL_law := bg5 199 rfl rfl
theorem kdL_74 : Cond.constantDouble RL 74 4638707616191610880 ∈ wsL_law := bg5 200 rfl rfl
theorem clL_9 : Cond.classLink RL 9 "RootDuel" ∈ wsL_law := bg1 33 rfl rfl
theorem clL_166 : Cond.classLink RL 166 "RootDuelLaw$Claim" ∈ wsL_law := bg4 46 rfl rfl
theorem clL_28 : Cond.classLink RL 28 "RootDuelLaw$Contest" ∈ wsL_law := bg4 78 rfl rfl
theorem clX6_7 : Cond.classLink RX6 7 "java/util/ArrayList" ∈ wsL_law := bg4 84 rfl rfl
theorem clJ7_110 : Cond.classLink RJ7 110 "[Ljava/lang/Object;" ∈ wsL_law := bg4 162 rfl rfl
theorem clJ7_2 : Cond.classLink RJ7 2 "java/lang/Object" ∈ wsL_law := bg4 164 rfl rfl
theorem clJx4a65c_7 : Cond.classLink RJx4a65c 7 "java/lang/Object" ∈ wsL_law := bg4 168 rfl rfl
theorem clJx4a65c_267 : Cond.classLink RJx4a65c 267 "java/util/ArrayList$Itr" ∈ wsL_law := bg5 18 rfl rfl
theorem clX6_78 : Cond.classLink RX6 78 "RootDuelLaw$Claim" ∈ wsL_law := bg5 60 rfl rfl
theorem clL_107 : Cond.classLink RL 107 "RootDuelLaw$Told" ∈ wsL_law := bg5 87 rfl rfl
theorem clL_117 : Cond.classLink RL 117 "java/lang/StringBuilder" ∈ wsL_law := bg5 230 rfl rfl
theorem clJ7_311 : Cond.classLink RJ7 311 "[B" ∈ wsL_law := bg6 64 rfl rfl
theorem clJ4_18 : Cond.classLink RJ4 18 "java/lang/String" ∈ wsL_law := bg6 161 rfl rfl
theorem clL_200 : Cond.classLink RL 200 "java/util/ArrayList" ∈ wsL_law := bg6 225 rfl rfl
theorem kpL_112 : CIp RL 112 m_X4_init 0 := ⟨by decide +kernel, ⟨(bg1 35 rfl rfl), (bg1 36 rfl rfl), (bg1 2 rfl rfl), (bg1 37 rfl rfl)⟩, ⟨rfl, by decide, by decide, by decide⟩, rfl, rfl⟩
theorem koX4_1 : CO RX4 1 := ⟨(bg1 38 rfl rfl), by decide +kernel, by decide +kernel⟩
theorem kpX4_9 : CIp RX4 9 m_X0_init 0 := ⟨by decide +kernel, ⟨(bg1 43 rfl rfl), (bg1 44 rfl rfl), (bg1 3 rfl rfl), (bg1 45 rfl rfl)⟩, ⟨rfl, by decide, by decide, by decide⟩, rfl, rfl⟩
theorem koX0_3 : CO RX0 3 := ⟨(bg1 46 rfl rfl), by decide +kernel, by decide +kernel⟩
theorem koX3_3 : CO RX3 3 := ⟨(bg1 100 rfl rfl), by decide +kernel, by decide +kernel⟩
theorem koX2_3 : CO RX2 3 := ⟨(bg1 124 rfl rfl), by decide +kernel, by decide +kernel⟩
theorem koX1_3 : CO RX1 3 := ⟨(bg1 173 rfl rfl), by decide +kernel, by decide +kernel⟩
theorem kpL_168 : CIp RL 168 m_X5_init 5 := ⟨by decide +kernel, ⟨(bg4 48 rfl rfl), (bg4 49 rfl rfl), (bg1 30 rfl rfl), (bg4 50 rfl rfl)⟩, ⟨rfl, by decide, by decide, by decide⟩, rfl, rfl⟩
theorem koX5_1 : CO RX5 1 := ⟨(bg4 51 rfl rfl), by decide +kernel, by decide +kernel⟩
theorem kpL_116 : CIp RL 116 m_X6_init 1 := ⟨by decide +kernel, ⟨(bg4 80 rfl rfl), (bg4 81 rfl rfl), (bg1 8 rfl rfl), (bg4 82 rfl rfl)⟩, ⟨rfl, by decide, by decide, by decide⟩, rfl, rfl⟩
theorem koX6_1 : CO RX6 1 := ⟨(bg4 83 rfl rfl), by decide +kernel, by decide +kernel⟩
theorem kpX6_9 : CIp RX6 9 m_Jx4a65c_init_da8c8 0 := ⟨by decide +kernel, ⟨(bg4 86 rfl rfl), (bg4 87 rfl rfl), (bg1 11 rfl rfl), (bg4 88 rfl rfl)⟩, ⟨rfl, by decide, by decide, by decide⟩, rfl, rfl⟩
theorem kpJx4a65c_1 : CIp RJx4a65c 1 m_Jxc12de_init_da8c8 0 := ⟨by decide +kernel, ⟨(bg4 89 rfl rfl), (bg4 90 rfl rfl), (bg1 10 rfl rfl), (bg4 91 rfl rfl)⟩, ⟨rfl, by decide, by decide, by decide⟩, rfl, rfl⟩
theorem kpJxc12de_1 : CIp RJxc12de 1 m_Jxa1e45_init_da8c8 0 := ⟨by decide +kernel, ⟨(bg4 92 rfl rfl), (bg4 93 rfl rfl), (bg1 9 rfl rfl), (bg4 94 rfl rfl)⟩, ⟨rfl, by decide, by decide, by decide⟩, rfl, rfl⟩
theorem koJxa1e45_1 : CO RJxa1e45 1 := ⟨(bg4 95 rfl rfl), by decide +kernel, by decide +kernel⟩
theorem kpJx4a65c_269 : CIp RJx4a65c 269 m_Jx35411_init_45d68 1 := ⟨by decide +kernel, ⟨(bg5 20 rfl rfl), (bg5 21 rfl rfl), (bg1 32 rfl rfl), (bg5 22 rfl rfl)⟩, ⟨rfl, by decide, by decide, by decide⟩, rfl, rfl⟩
theorem koJx35411_7 : CO RJx35411 7 := ⟨(bg5 23 rfl rfl), by decide +kernel, by decide +kernel⟩
theorem kfX6_86 : CF RX6 86 ⟨"java/util/Iterator", "hasNext", "()Z"⟩ m_Jx35411_hasNext_aae02 := ⟨by decide +kernel, ⟨(bg5 38 rfl rfl), (bg5 42 rfl rfl), (bg5 44 rfl rfl), (bg1 32 rfl rfl), (bg5 46 rfl rfl)⟩, rfl, by decide, by decide, by decide⟩
theorem kfX6_92 : CF RX6 92 ⟨"java/util/Iterator", "next", "()Ljava/lang/Object;"⟩ m_Jx35411_next_0502b := ⟨by decide +kernel, ⟨(bg5 48 rfl rfl), (bg5 51 rfl rfl), (bg5 53 rfl rfl), (bg1 32 rfl rfl), (bg5 55 rfl rfl)⟩, rfl, by decide, by decide, by decide⟩
theorem kpL_109 : CIp RL 109 m_X7_init 1 := ⟨by decide +kernel, ⟨(bg5 89 rfl rfl), (bg5 90 rfl rfl), (bg1 1 rfl rfl), (bg5 91 rfl rfl)⟩, ⟨rfl, by decide, by decide, by decide⟩, rfl, rfl⟩
theorem koX7_1 : CO RX7 1 := ⟨(bg5 92 rfl rfl), by decide +kernel, by decide +kernel⟩
theorem kpL_119 : CIp RL 119 m_J4_init_da8c8 0 := ⟨by decide +kernel, ⟨(bg5 232 rfl rfl), (bg5 233 rfl rfl), (bg1 16 rfl rfl), (bg5 234 rfl rfl)⟩, ⟨rfl, by decide, by decide, by decide⟩, rfl, rfl⟩
theorem kpJ4_1 : CIp RJ4 1 m_J5_init_d00df 1 := ⟨by decide +kernel, ⟨(bg5 235 rfl rfl), (bg5 236 rfl rfl), (bg1 15 rfl rfl), (bg5 237 rfl rfl)⟩, ⟨rfl, by decide, by decide, by decide⟩, rfl, rfl⟩
theorem koJ5_3 : CO RJ5 3 := ⟨(bg5 238 rfl rfl), by decide +kernel, by decide +kernel⟩
theorem kpL_147 : CIp RL 147 m_J4_init_a7421 1 := ⟨by decide +kernel, ⟨(bg6 20 rfl rfl), (bg6 21 rfl rfl), (bg1 16 rfl rfl), (bg6 22 rfl rfl)⟩, ⟨rfl, by decide, by decide, by decide⟩, rfl, rfl⟩
theorem kpJ4_7 : CIp RJ4 7 m_J5_init_a7421 1 := ⟨by decide +kernel, ⟨(bg6 23 rfl rfl), (bg6 24 rfl rfl), (bg1 15 rfl rfl), (bg6 25 rfl rfl)⟩, ⟨rfl, by decide, by decide, by decide⟩, rfl, rfl⟩
theorem kvJ5_43 : CO2 RJ5 43 ⟨"java/lang/AbstractStringBuilder", "append", "(Ljava/lang/String;)Ljava/lang/AbstractStringBuilder;"⟩ m_J4_append_cf1ce 1 8 := ⟨by decide +kernel, ⟨_, rfl, (bg6 33 rfl rfl)⟩, ⟨(bg6 30 rfl rfl), (bg6 32 rfl rfl), (bg6 31 rfl rfl), ⟨_, _, _, (bg6 41 rfl rfl)⟩, (bg6 34 rfl rfl), (bg1 16 rfl rfl), (bg6 35 rfl rfl)⟩, rfl, by decide, by decide, by decide⟩
theorem ksJ4_29 : CSP RJ4 29 m_J5_append_cf1ce 1 := ⟨by decide +kernel, ⟨(bg6 40 rfl rfl), (bg6 32 rfl rfl), by decide +kernel, (bg6 31 rfl rfl), (bg1 15 rfl rfl), (bg6 41 rfl rfl)⟩, rfl, by decide, by decide⟩
theorem kuJ5_100 : CU RJ5 100 m_J5_ensureCapacityInternal_d00df 1 8 := ⟨by decide +kernel, ⟨_, rfl, by decide +kernel⟩, ⟨(bg6 46 rfl rfl), (bg6 228 rfl rfl), (bg6 48 rfl rfl), (bg1 15 rfl rfl), (bg6 49 rfl rfl)⟩, rfl, by decide, by decide, by decide⟩
theorem kuJ5_104 : CU RJ5 104 m_J5_newCapacity_0f7a4 1 8 := ⟨by decide +kernel, ⟨_, rfl, by decide +kernel⟩, ⟨(bg6 50 rfl rfl), (bg6 229 rfl rfl), (bg6 52 rfl rfl), (bg1 15 rfl rfl), (bg6 53 rfl rfl)⟩, rfl, by decide, by decide, by decide⟩
theorem klJ7_310 : CCl RJ7 310 := ⟨(bg6 58 rfl rfl), by decide +kernel, by decide +kernel, by decide +kernel, by decide +kernel⟩
theorem kuJ5_83 : CU RJ5 83 m_J5_isLatin1_aae02 0 8 := ⟨by decide +kernel, ⟨_, rfl, (bg6 68 rfl rfl)⟩, ⟨(bg6 65 rfl rfl), (bg6 67 rfl rfl), (bg6 66 rfl rfl), (bg1 15 rfl rfl), (bg6 69 rfl rfl)⟩, rfl, by decide, by decide, by decide⟩
theorem kuJ5_208 : CU RJ5 208 m_J5_putStringAt_47b60 2 8 := ⟨by decide +kernel, ⟨_, rfl, by decide +kernel⟩, ⟨(bg6 85 rfl rfl), (bg6 230 rfl rfl), (bg6 87 rfl rfl), (bg1 15 rfl rfl), (bg6 88 rfl rfl)⟩, rfl, by decide, by decide, by decide⟩
theorem kuJ5_397 : CU RJ5 397 m_J5_inflateIfNeededFor_a7421 1 8 := ⟨by decide +kernel, ⟨_, rfl, by decide +kernel⟩, ⟨(bg6 89 rfl rfl), (bg6 231 rfl rfl), (bg6 91 rfl rfl), (bg1 15 rfl rfl), (bg6 92 rfl rfl)⟩, rfl, by decide, by decide, by decide⟩
theorem ksJ4_50 : CSP RJ4 50 m_J5_append_3fe6f 1 := ⟨by decide +kernel, ⟨(bg6 123 rfl rfl), (bg6 233 rfl rfl), by decide +kernel, (bg6 124 rfl rfl), (bg1 15 rfl rfl), (bg6 125 rfl rfl)⟩, rfl, by decide, by decide⟩
theorem ksJ4_53 : CSP RJ4 53 m_J5_append_c97b9 1 := ⟨by decide +kernel, ⟨(bg6 136 rfl rfl), (bg6 234 rfl rfl), by decide +kernel, (bg6 137 rfl rfl), (bg1 15 rfl rfl), (bg6 138 rfl rfl)⟩, rfl, by decide, by decide⟩
theorem kpJ4_137 : CIp RJ4 137 m_J0_init_81219 1 := ⟨by decide +kernel, ⟨(bg6 163 rfl rfl), (bg6 164 rfl rfl), (bg1 17 rfl rfl), (bg6 165 rfl rfl)⟩, ⟨rfl, by decide, by decide, by decide⟩, rfl, rfl⟩
theorem kpJ0_489 : CIp RJ0 489 m_J0_init_db425 2 := ⟨by decide +kernel, ⟨(bg6 166 rfl rfl), (bg6 167 rfl rfl), (bg1 17 rfl rfl), (bg6 168 rfl rfl)⟩, ⟨rfl, by decide, by decide, by decide⟩, rfl, rfl⟩
theorem koJ0_1 : CO RJ0 1 := ⟨(bg6 169 rfl rfl), by decide +kernel, by decide +kernel⟩
theorem kuJ0_552 : CU RJ0 552 m_J5_getValue_6d5f1 0 8 := ⟨by decide +kernel, ⟨_, rfl, (bg6 173 rfl rfl)⟩, ⟨(bg6 170 rfl rfl), (bg6 172 rfl rfl), (bg6 171 rfl rfl), (bg1 15 rfl rfl), (bg6 174 rfl rfl)⟩, rfl, by decide, by decide, by decide⟩
theorem kvJ0_549 : CO2 RJ0 549 ⟨"java/lang/AbstractStringBuilder", "length", "()I"⟩ m_J4_length_8abf5 0 8 := ⟨by decide +kernel, ⟨_, rfl, (bg6 178 rfl rfl)⟩, ⟨(bg6 175 rfl rfl), (bg6 177 rfl rfl), (bg6 176 rfl rfl), ⟨_, _, _, (bg6 182 rfl rfl)⟩, (bg6 179 rfl rfl), (bg1 16 rfl rfl), (bg6 180 rfl rfl)⟩, rfl, by decide, by decide, by decide⟩
theorem ksJ4_343 : CSP RJ4 343 m_J5_length_8abf5 0 := ⟨by decide +kernel, ⟨(bg6 181 rfl rfl), (bg6 177 rfl rfl), by decide +kernel, (bg6 176 rfl rfl), (bg1 15 rfl rfl), (bg6 182 rfl rfl)⟩, rfl, by decide, by decide⟩
theorem kuJ0_1047 : CU RJ0 1047 m_J5_isLatin1_aae02 0 8 := ⟨by decide +kernel, ⟨_, rfl, (bg6 68 rfl rfl)⟩, ⟨(bg6 183 rfl rfl), (bg6 67 rfl rfl), (bg6 66 rfl rfl), (bg1 15 rfl rfl), (bg6 69 rfl rfl)⟩, rfl, by decide, by decide, by decide⟩
theorem cnL_9 : CN RL 9 4 9 := ⟨_, rfl, rfl, (bg1 33 rfl rfl), (bg1 34 rfl rfl), (bg1 2 rfl rfl)⟩
theorem cnL_166 : CN RL 166 5 5 := ⟨_, rfl, rfl, (bg4 46 rfl rfl), (bg4 47 rfl rfl), (bg1 30 rfl rfl)⟩
theorem cnX6_78 : CN RX6 78 5 5 := ⟨_, rfl, rfl, (bg5 60 rfl rfl), (bg4 47 rfl rfl), (bg1 30 rfl rfl)⟩
theorem cnL_28 : CN RL 28 6 14 := ⟨_, rfl, rfl, (bg4 78 rfl rfl), (bg4 79 rfl rfl), (bg1 8 rfl rfl)⟩
theorem cnL_107 : CN RL 107 7 2 := ⟨_, rfl, rfl, (bg5 87 rfl rfl), (bg5 88 rfl rfl), (bg1 1 rfl rfl)⟩
theorem cnL_117 : CN RL 117 8 4 := ⟨_, rfl, rfl, (bg5 230 rfl rfl), (bg5 231 rfl rfl), (bg1 16 rfl rfl)⟩
theorem cnJ4_18 : CN RJ4 18 9 4 := ⟨_, rfl, rfl, (bg6 161 rfl rfl), (bg6 162 rfl rfl), (bg1 17 rfl rfl)⟩
theorem cnX6_7 : CN RX6 7 10 3 := ⟨_, rfl, rfl, (bg4 84 rfl rfl), (bg4 85 rfl rfl), (bg1 11 rfl rfl)⟩
theorem cnL_200 : CN RL 200 10 3 := ⟨_, rfl, rfl, (bg6 225 rfl rfl), (bg4 85 rfl rfl), (bg1 11 rfl rfl)⟩
theorem cnJx4a65c_267 : CN RJx4a65c 267 11 4 := ⟨_, rfl, rfl, (bg5 18 rfl rfl), (bg5 19 rfl rfl), (bg1 32 rfl rfl)⟩
theorem kX7_17 : CSN RX7 17 m_L_pick 2 "RootDuelLaw" := ⟨by decide +kernel, ⟨by decide +kernel, by decide +kernel, by decide +kernel, by decide +kernel⟩, rfl, by decide, by decide, by decide⟩
