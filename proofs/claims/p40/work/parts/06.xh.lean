/-! X: fields, arrays, new cells, ends, calls. -/
theorem vwCl_is : ∀ (ci : Nat) (q : vw_C), vwCl[ci]? = some q → (∀ w ∈ u_ws q.1 q.2.1 q.2.2, w ∈ wsL_law) ∧ (∀ k, k < q.2.2 → parseFieldDescriptor (q.2.1 k).2.2.1 = some (ftys ci k)) ∧ (∀ a, a < q.2.2 → ∀ b, b < q.2.2 → a ≠ b → (q.2.1 a).2.1 ≠ (q.2.1 b).2.1) := by
  intro ci q h
  match ci, h with
  | 0, h => cases h; exact ⟨inX0, tyX0_ok, nmX0⟩
  | 1, h => cases h; exact ⟨inX1, tyX1_ok, nmX1⟩
  | 2, h => cases h; exact ⟨inX2, tyX2_ok, nmX2⟩
  | 3, h => cases h; exact ⟨inX3, tyX3_ok, nmX3⟩
  | 4, h => cases h; exact ⟨inX4, tyX4_ok, nmX4⟩
  | 5, h => cases h; exact ⟨inX5, tyX5_ok, nmX5⟩
  | 6, h => cases h; exact ⟨inX6, tyX6_ok, nmX6⟩
  | 7, h => cases h; exact ⟨inX7, tyX7_ok, nmX7⟩
  | 8, h => cases h; exact ⟨inJ4, tyJ4_ok, nmJ4⟩
  | 9, h => cases h; exact ⟨inJ0, tyJ0_ok, nmJ0⟩
  | 10, h => cases h; exact ⟨inJx4a65c, tyJx4a65c_ok, nmJx4a65c⟩
  | 11, h => cases h; exact ⟨inJx35411, tyJx35411_ok, nmJx35411⟩
  | ci + 12, h => simp [vwCl] at h
/-- the field j of the class ci is what the constant idx of the class own names -/
def FK (own : String) (idx ci j : Nat) : Prop := ∃ q : vw_C, vwCl[ci]? = some q ∧ j < q.2.2 ∧ Cond.fieldLink own idx (q.2.1 j).1 (q.2.1 j).2.1 (q.2.1 j).2.2.1 ∈ wsL_law ∧ True
/-- as FK, of a final field of one's own -/
def FKf (own : String) (idx ci j : Nat) : Prop := ∃ q : vw_C, vwCl[ci]? = some q ∧ j < q.2.2 ∧ Cond.fieldLink own idx (q.2.1 j).1 (q.2.1 j).2.1 (q.2.1 j).2.2.1 ∈ wsL_law ∧ (q.2.1 j).1 = own ∧ (q.2.1 j).2.2.2 = true
def FKn (own : String) (idx ci j : Nat) : Prop := ∃ q : vw_C, vwCl[ci]? = some q ∧ j < q.2.2 ∧ Cond.fieldLink own idx (q.2.1 j).1 (q.2.1 j).2.1 (q.2.1 j).2.2.1 ∈ wsL_law ∧ (q.2.1 j).2.2.2 = false
theorem n_aidx {i : Int} {n : Nat} (h0 : 0 ≤ i) (h1 : i < n) (hn : n < 1000000) : i32 i ∧ ¬ (Int32.ofInt i < 0 ∨ n ≤ (Int32.ofInt i).toNatClampNeg) ∧ (Int32.ofInt i).toNatClampNeg = i.toNat ∧ i.toNat < n := by
  have h : i32 i := ⟨by omega, by omega⟩
  exact ⟨h, n32_in h h0 h1, n32_cl h, by omega⟩
theorem mset_a {M : Mem} {a i : Nat} {v : Int} : mset M a i v a = fun j => if j = i then v else M a j := funext fun j => by simp [mset]
theorem arrIs.set {s : State} {t n : Nat} {rf : Nat → Option Nat} {mem : Nat → Int} {cell : Cell} (h : arrIs s t n rf mem cell) {i : Nat} {x : Int} {v : Value} (hi : i < n) (hv : aval t (rf i) x = v) (hr : arng t x) : arrIs s t n rf (fun j => if j = i then x else mem j) (cell.setSlot i v) := by
  obtain ⟨h1, h2, h3, h4, h5, h6⟩ := h
  refine ⟨h1, h2, ?_, h4, h5, fun j hj => ?_⟩
  · show (cell.slots.setIfInBounds i v).size = n
    simp [h3]
  · by_cases e : j = i
    · subst e
      refine ⟨?_, by simpa using hr⟩
      show (cell.slots.setIfInBounds j v)[j]? = some (aval t (rf j) (if j = j then x else mem j))
      rw [if_pos rfl, hv]
      simp [h3, hj]
    · obtain ⟨g1, g2⟩ := h6 j hj
      refine ⟨?_, by simpa [e] using g2⟩
      show (cell.slots.setIfInBounds i v)[j]? = some (aval t (rf j) (if j = i then x else mem j))
      rw [Array.getElem?_setIfInBounds_ne (fun q => e q.symm), if_neg e]
      exact g1
theorem n_nb {x : Int} (h : -128 ≤ x ∧ x ≤ 127) : narrow .byte (.int (Int32.ofInt x)) = .int (Int32.ofInt x) := by
  have e : ∀ n : Nat, n < 256 → narrow .byte (.int (Int32.ofInt ((n : Int) - 128))) = .int (Int32.ofInt ((n : Int) - 128)) := by decide +kernel
  have h2 := e (x + 128).toNat (by omega)
  rw [show (((x + 128).toNat : Nat) : Int) - 128 = x by omega] at h2
  exact h2
theorem n_fb {x : Int} (h : -128 ≤ x ∧ x ≤ 127) : fits .byte (.int (Int32.ofInt x)) = true := by
  have e : ∀ n : Nat, n < 256 → fits .byte (.int (Int32.ofInt ((n : Int) - 128))) = true := by decide +kernel
  have h2 := e (x + 128).toNat (by omega)
  rw [show (((x + 128).toNat : Nat) : Int) - 128 = x by omega] at h2
  exact h2
theorem n_fz {x : Int} (h : 0 ≤ x ∧ x ≤ 1) : fits .boolean (.int (Int32.ofInt x)) = true := by
  rcases (show x = 0 ∨ x = 1 by omega) with rfl | rfl <;> decide
theorem n_nz {x : Int} (h : 0 ≤ x ∧ x ≤ 1) : narrow .boolean (.int (Int32.ofInt x)) = .int (Int32.ofInt x) := by
  rcases (show x = 0 ∨ x = 1 by omega) with rfl | rfl <;> decide
section XH
variable {g : GG} {r : MR} {cn ck : Nat} {lay : Lay} {M : Mem} {pc : Nat} {L L' : List (Nat × AV)} {st : List AV} {K : KK}
theorem x_getfv {ci j a idx : Nat} {rf : Nat → Option Nat} {v : AV} (F : FK r.1.cls idx ci j) (hd : decode r.2.1 pc = .ok (.getfield idx, 3)) (hk : lay.1 a = some (0, ci, rf)) (hv : cv v = fval (ftys ci j) (rf j) (M a j)) (k : frng (ftys ci j) (M a j) → X g r cn ck lay M (pc + 3) L (v :: st) K) : X g r cn ck lay M pc L (vR a :: st) K := by
  obtain ⟨q, f1, f2, f3, -⟩ := F
  intro p l e s m args below meth c H locs ls C G R S hl
  obtain ⟨hx, hb, hml, hr, hlo, hown, hts, hnt, hst, hnm0⟩ := id C
  obtain ⟨q', g1, ⟨cell, q1, q2, q3, q4⟩, g3⟩ := R.2 a _ hk
  cases f1.symm.trans g1
  obtain ⟨w1, w2, w3⟩ := vwCl_is ci q f1
  obtain ⟨hS, hfc, kC, hkC, hkind⟩ := G.1.1 ci _ f1
  obtain ⟨cf, kf, fi, f, hi, hsl⟩ := hS j f2
  have k9 := k (g3 j f2) p l e s m args below meth c H locs ls C G R S hl
  refine W.getf hx hb hown (hts _ f3) hi (u_facts hfc hkC (u_lays hts w1 f2) hi).1 q1 (by rw [q3]; exact fun h => by cases h) (v := cv v) ?_ rfl rfl hd k9
  rw [hsl, q4 j f2, hv]
theorem x_geti {ci j a idx : Nat} {rf : Nat → Option Nat} (F : FK r.1.cls idx ci j) (hd : decode r.2.1 pc = .ok (.getfield idx, 3)) (hk : lay.1 a = some (0, ci, rf)) (ht : ftys ci j = .int) (k : -2147483648 ≤ M a j → M a j ≤ 2147483647 → X g r cn ck lay M (pc + 3) L (vI (M a j) :: st) K) : X g r cn ck lay M pc L (vR a :: st) K :=
  x_getfv F hd hk (v := vI (M a j)) (by rw [ht]; rfl) (fun h => by rw [ht] at h; exact k h.1 h.2)
theorem x_getz {ci j a idx : Nat} {rf : Nat → Option Nat} (F : FK r.1.cls idx ci j) (hd : decode r.2.1 pc = .ok (.getfield idx, 3)) (hk : lay.1 a = some (0, ci, rf)) (ht : ftys ci j = .boolean) (k : 0 ≤ M a j → M a j ≤ 1 → X g r cn ck lay M (pc + 3) L (vI (M a j) :: st) K) : X g r cn ck lay M pc L (vR a :: st) K :=
  x_getfv F hd hk (v := vI (M a j)) (by rw [ht]; rfl) (fun h => by rw [ht] at h; exact k h.1 h.2)
theorem x_getr {ci j a b idx : Nat} {rf : Nat → Option Nat} (F : FK r.1.cls idx ci j) (hd : decode r.2.1 pc = .ok (.getfield idx, 3)) (hk : lay.1 a = some (0, ci, rf)) (hb : rf j = some b) (ht : (ftys ci j).isReference = true) (k : X g r cn ck lay M (pc + 3) L (vR b :: st) K) : X g r cn ck lay M pc L (vR a :: st) K :=
  x_getfv F hd hk (v := vR b) (by rw [hb]; cases h : ftys ci j <;> rw [h] at ht <;> first | rfl | cases ht) (fun _ => k)
theorem t_OB.put {a : Nat} {cC : ClassId} {N j : Nat} {iS : Nat → Nat} {H1 : Heap} {V V' : Nat → Value} {cell : Cell} {v : Value} (h2 : cell.cls = cC) (h3 : cell.vm = .none) (h4 : ∀ k, k < N → cell.slots[iS k]? = some (V k)) (hap : ∀ x y, x < N → y < N → x ≠ y → iS x ≠ iS y) (hj : j < N) (he : H1[a]? = some (cell.setSlot (iS j) v)) (hV : ∀ k, k < N → V' k = if k = j then v else V k) : t_OB a cC N iS H1 V' := by
  refine ⟨_, he, h2, h3, fun k hk => ?_⟩
  show (cell.slots.setIfInBounds (iS j) v)[iS k]? = _
  rw [hV k hk]
  by_cases e : k = j
  · subst e
    have hl := (Array.getElem?_eq_some_iff.mp (h4 k hk)).1
    rw [if_pos rfl]
    simp [hl]
  · rw [if_neg e, Array.getElem?_setIfInBounds_ne (hap j k hj hk (fun q => e q.symm))]
    exact h4 k hk
theorem x_putv {ci j a idx : Nat} {rf : Nat → Option Nat} {x : Int} (F : FKn r.1.cls idx ci j) (hd : decode r.2.1 pc = .ok (.putfield idx, 3)) (hk : lay.1 a = some (0, ci, rf)) (hw : g.2.1 ≤ a) (hv : fval (ftys ci j) (rf j) x = .int (Int32.ofInt x)) (hn : narrow (ftys ci j) (.int (Int32.ofInt x)) = .int (Int32.ofInt x)) (hfit : fits (ftys ci j) (.int (Int32.ofInt x)) = true) (hr : frng (ftys ci j) x) (k : X g r cn ck lay (mset M a j x) (pc + 3) L st K) : X g r cn ck lay M pc L (vI x :: vR a :: st) K := by
  obtain ⟨q, f1, f2, f3, f4⟩ := F
  intro p l e s m args below meth c H locs ls C G R S hl
  obtain ⟨hx, hb, hml, hre, hlo, hown, hts, hnt, hst, hnm0⟩ := id C
  obtain ⟨q', g1, ⟨cell, q1, q2, q3, q4⟩, g3⟩ := R.2 a _ hk
  cases f1.symm.trans g1
  obtain ⟨w1, w2, w3⟩ := vwCl_is ci q f1
  have hap := va_apart (own := r.1.cls) hts w1 (ftys ci) w2 w3 G.1 f1
  obtain ⟨hS, hfc, kC, hkC, hkind⟩ := G.1.1 ci _ f1
  obtain ⟨cf, kf, fi, f, hi, hsl⟩ := hS j f2
  have hlay := hts _ (w1 _ (u_in_lay f2))
  unfold u_lay at hlay
  rw [if_neg (by rw [f4]; decide)] at hlay
  have hst := (u_facts hfc hkC (u_lays hts w1 f2) hi).1
  have h6 := u_store hfc hkC hkind hlay hi (w2 j f2) hn hfit
  refine W.putK hx hb (f := f) ⟨hown, hts _ f3, ⟨_, _, _, hi⟩, hst⟩ (by rw [q2]; exact h6) q1 q3 (by rw [hsl]; exact k2_hasslot (q4 j f2)) rfl rfl hd fun H' e1 e2 e3 => ?_
  rw [hsl] at e1 ⊢
  refine k p l e s m args below meth c H' _ ls C G ⟨e2.trans R.1, ?_⟩ (S.put e2 e3 hw) hl
  refine Rep.set1 R.2 hk ⟨q, f1, t_OB.put q2 q3 q4 hap f2 e1 (fun z hz => ?_), fun z hz => ?_⟩ e3
  · rw [mset_a]
    by_cases e : z = j
    · subst e
      simp [hv]
      rfl
    · simp [e]
  · rw [mset_a]
    by_cases e : z = j
    · subst e
      simpa using hr
    · simpa [e] using g3 z hz
theorem x_puti {ci j a idx : Nat} {rf : Nat → Option Nat} {x : Int} (F : FKn r.1.cls idx ci j) (hd : decode r.2.1 pc = .ok (.putfield idx, 3)) (hk : lay.1 a = some (0, ci, rf)) (hw : g.2.1 ≤ a) (ht : ftys ci j = .int) (hr : i32 x) (k : X g r cn ck lay (mset M a j x) (pc + 3) L st K) : X g r cn ck lay M pc L (vI x :: vR a :: st) K :=
  x_putv F hd hk hw (by rw [ht]; rfl) (by rw [ht]; rfl) (by rw [ht]; rfl) (by rw [ht]; exact hr) k
theorem x_putb {ci j a idx : Nat} {rf : Nat → Option Nat} {x : Int} (F : FKn r.1.cls idx ci j) (hd : decode r.2.1 pc = .ok (.putfield idx, 3)) (hk : lay.1 a = some (0, ci, rf)) (hw : g.2.1 ≤ a) (ht : ftys ci j = .byte) (hr : -128 ≤ x ∧ x ≤ 127) (k : X g r cn ck lay (mset M a j x) (pc + 3) L st K) : X g r cn ck lay M pc L (vI x :: vR a :: st) K :=
  x_putv F hd hk hw (by rw [ht]; rfl) (by rw [ht]; exact n_nb hr) (by rw [ht]; exact n_fb hr) (by rw [ht]; exact hr) k
theorem x_getb {ci j a idx : Nat} {rf : Nat → Option Nat} (F : FK r.1.cls idx ci j) (hd : decode r.2.1 pc = .ok (.getfield idx, 3)) (hk : lay.1 a = some (0, ci, rf)) (ht : ftys ci j = .byte) (k : -128 ≤ M a j → M a j ≤ 127 → X g r cn ck lay M (pc + 3) L (vI (M a j) :: st) K) : X g r cn ck lay M pc L (vR a :: st) K :=
  x_getfv F hd hk (v := vI (M a j)) (by rw [ht]; rfl) (fun h => by rw [ht] at h; exact k h.1 h.2)
/-- a reference that the memory keeps -/
theorem x_getrM {ci j a b idx : Nat} {rf : Nat → Option Nat} (F : FK r.1.cls idx ci j) (hd : decode r.2.1 pc = .ok (.getfield idx, 3)) (hk : lay.1 a = some (0, ci, rf)) (hb : rf j = none) (hm : M a j = er b) (ht : (ftys ci j).isReference = true) (k : X g r cn ck lay M (pc + 3) L (vR b :: st) K) : X g r cn ck lay M pc L (vR a :: st) K :=
  x_getfv F hd hk (v := vR b) (by rw [hb, hm]; cases h : ftys ci j <;> rw [h] at ht <;> first | exact congrArg va_rf (dr_er b).symm | cases ht) (fun _ => k)
/-- a reference put into a field that the memory keeps -/
theorem x_putrM {ci j a b idx : Nat} {rf : Nat → Option Nat} (F : FKn r.1.cls idx ci j) (hd : decode r.2.1 pc = .ok (.putfield idx, 3)) (hk : lay.1 a = some (0, ci, rf)) (hw : g.2.1 ≤ a) (hrf : rf j = none) (ht : (ftys ci j).isReference = true) (k : X g r cn ck lay (mset M a j (er b)) (pc + 3) L st K) : X g r cn ck lay M pc L (vR b :: vR a :: st) K := by
  obtain ⟨q, f1, f2, f3, f4⟩ := F
  intro p l e s m args below meth c H locs ls C G R S hl
  obtain ⟨hx, hb, hml, hre, hlo, hown, hts, hnt, hst, hnm0⟩ := id C
  obtain ⟨q', g1, ⟨cell, q1, q2, q3, q4⟩, g3⟩ := R.2 a _ hk
  cases f1.symm.trans g1
  obtain ⟨w1, w2, w3⟩ := vwCl_is ci q f1
  have hap := va_apart (own := r.1.cls) hts w1 (ftys ci) w2 w3 G.1 f1
  obtain ⟨hS, hfc, kC, hkC, hkind⟩ := G.1.1 ci _ f1
  obtain ⟨cf, kf, fi, f, hi, hsl⟩ := hS j f2
  have hlay := hts _ (w1 _ (u_in_lay f2))
  unfold u_lay at hlay
  rw [if_neg (by rw [f4]; decide)] at hlay
  have hst := (u_facts hfc hkC (u_lays hts w1 f2) hi).1
  have hfv : fval (ftys ci j) (rf j) (er b) = .ref b := by rw [hrf]; cases h : ftys ci j <;> rw [h] at ht <;> first | exact congrArg va_rf (dr_er b) | cases ht
  have hfr : ∀ y : Int, frng (ftys ci j) y := by cases h : ftys ci j <;> rw [h] at ht <;> first | exact fun _ => trivial | cases ht
  have h6 := u_store hfc hkC hkind hlay hi (w2 j f2) (v := .ref b) (by cases h : ftys ci j <;> rw [h] at ht <;> first | rfl | cases ht) (by cases h : ftys ci j <;> rw [h] at ht <;> first | rfl | cases ht)
  refine W.putK hx hb (f := f) ⟨hown, hts _ f3, ⟨_, _, _, hi⟩, hst⟩ (by rw [q2]; exact h6) q1 q3 (by rw [hsl]; exact k2_hasslot (q4 j f2)) rfl rfl hd fun H' e1 e2 e3 => ?_
  rw [hsl] at e1 ⊢
  refine k p l e s m args below meth c H' _ ls C G ⟨e2.trans R.1, ?_⟩ (S.put e2 e3 hw) hl
  refine Rep.set1 R.2 hk ⟨q, f1, t_OB.put q2 q3 q4 hap f2 e1 (fun z hz => ?_), fun z hz => ?_⟩ e3
  · rw [mset_a]
    by_cases e : z = j
    · subst e
      simp [hfv]
      rfl
    · simp [e]
  · rw [mset_a]
    by_cases e : z = j
    · subst e
      simpa using hfr _
    · simpa [e] using g3 z hz
/-- a final field of a constructor's own object: whole numbers (told by their value) and references that the memory keeps -/
theorem x_putF {ci j a idx : Nat} {rf : Nat → Option Nat} {v : AV} {x : Int} (F : FKf r.1.cls idx ci j) (hin : r.1.name = "<init>") (hd : decode r.2.1 pc = .ok (.putfield idx, 3)) (hk : lay.1 a = some (0, ci, rf)) (hw : g.2.1 ≤ a) (hv : fval (ftys ci j) (rf j) x = cv v) (hn : narrow (ftys ci j) (cv v) = cv v) (hfit : fits (ftys ci j) (cv v) = true) (hr : frng (ftys ci j) x) (k : X g r cn ck lay (mset M a j x) (pc + 3) L st K) : X g r cn ck lay M pc L (v :: vR a :: st) K := by
  obtain ⟨q, f1, f2, f3, f4, f5⟩ := F
  intro p l e s m args below meth c H locs ls C G R S hl
  obtain ⟨hx, hb, hml, hre, hlo, hown, hts, htb, hst, hnm0⟩ := id C
  obtain ⟨q', g1, ⟨cell, q1, q2, q3, q4⟩, g3⟩ := R.2 a _ hk
  cases f1.symm.trans g1
  obtain ⟨w1, w2, w3⟩ := vwCl_is ci q f1
  have hap := va_apart (own := r.1.cls) hts w1 (ftys ci) w2 w3 G.1 f1
  obtain ⟨hS, hfc, kC, hkC, hkind⟩ := G.1.1 ci _ f1
  obtain ⟨cf, kf, fi, f, hi, hsl⟩ := hS j f2
  have hlay := hts _ (w1 _ (u_in_lay f2))
  unfold u_lay at hlay
  rw [if_pos f5] at hlay
  have hst2 := (u_facts hfc hkC (u_lays hts w1 f2) hi).1
  have hcf : m.cls = cf := by
    obtain ⟨_, _, c', _, _, _, -, -, hf', -, -, -, hown2, -⟩ := Cond.laysFinal_spec hlay
    have e1 : c' = cf := by have := hi.symm.trans hf'; simp at this; exact this.1.symm
    rw [f4] at hown2
    rw [← e1]
    exact Option.some.inj (hown.symm.trans hown2)
  have h6 := u_fits hfc hkC hkind (Or.inr hlay) hi (w2 j f2) (v := cv v) hn hfit
  refine W.putFinK hx hb hown (hts _ f3) hi hst2 hcf (hnm0.trans hin) (by rw [q2]; exact h6) q1 q3 (by rw [hsl]; exact k2_hasslot (q4 j f2)) rfl rfl hd fun H' e1 e2 e3 => ?_
  rw [hsl] at e1 ⊢
  refine k p l e s m args below meth c H' _ ls C G ⟨e2.trans R.1, ?_⟩ (S.put e2 e3 hw) hl
  refine Rep.set1 R.2 hk ⟨q, f1, t_OB.put q2 q3 q4 hap f2 e1 (fun z hz => ?_), fun z hz => ?_⟩ e3
  · rw [mset_a]
    by_cases e : z = j
    · subst e
      simp [hv]
    · simp [e]
  · rw [mset_a]
    by_cases e : z = j
    · subst e
      simpa using hr
    · simpa [e] using g3 z hz
theorem x_putFi {ci j a idx : Nat} {rf : Nat → Option Nat} {x : Int} (F : FKf r.1.cls idx ci j) (hin : r.1.name = "<init>") (hd : decode r.2.1 pc = .ok (.putfield idx, 3)) (hk : lay.1 a = some (0, ci, rf)) (hw : g.2.1 ≤ a) (ht : ftys ci j = .int) (hr : i32 x) (k : X g r cn ck lay (mset M a j x) (pc + 3) L st K) : X g r cn ck lay M pc L (vI x :: vR a :: st) K :=
  x_putF F hin hd hk hw (by rw [ht]; rfl) (by rw [ht]; rfl) (by rw [ht]; rfl) (by rw [ht]; exact hr) k
theorem x_putFz {ci j a idx : Nat} {rf : Nat → Option Nat} {x : Int} (F : FKf r.1.cls idx ci j) (hin : r.1.name = "<init>") (hd : decode r.2.1 pc = .ok (.putfield idx, 3)) (hk : lay.1 a = some (0, ci, rf)) (hw : g.2.1 ≤ a) (ht : ftys ci j = .boolean) (hr : 0 ≤ x ∧ x ≤ 1) (k : X g r cn ck lay (mset M a j x) (pc + 3) L st K) : X g r cn ck lay M pc L (vI x :: vR a :: st) K :=
  x_putF F hin hd hk hw (by rw [ht]; rfl) (by rw [ht]; exact n_nz hr) (by rw [ht]; exact n_fz hr) (by rw [ht]; exact hr) k
theorem x_putFb {ci j a idx : Nat} {rf : Nat → Option Nat} {x : Int} (F : FKf r.1.cls idx ci j) (hin : r.1.name = "<init>") (hd : decode r.2.1 pc = .ok (.putfield idx, 3)) (hk : lay.1 a = some (0, ci, rf)) (hw : g.2.1 ≤ a) (ht : ftys ci j = .byte) (hr : -128 ≤ x ∧ x ≤ 127) (k : X g r cn ck lay (mset M a j x) (pc + 3) L st K) : X g r cn ck lay M pc L (vI x :: vR a :: st) K :=
  x_putF F hin hd hk hw (by rw [ht]; rfl) (by rw [ht]; exact n_nb hr) (by rw [ht]; exact n_fb hr) (by rw [ht]; exact hr) k
theorem x_putFr {ci j a b idx : Nat} {rf : Nat → Option Nat} (F : FKf r.1.cls idx ci j) (hin : r.1.name = "<init>") (hd : decode r.2.1 pc = .ok (.putfield idx, 3)) (hk : lay.1 a = some (0, ci, rf)) (hw : g.2.1 ≤ a) (hrf : rf j = none) (ht : (ftys ci j).isReference = true) (k : X g r cn ck lay (mset M a j (er b)) (pc + 3) L st K) : X g r cn ck lay M pc L (vR b :: vR a :: st) K :=
  x_putF (v := vR b) F hin hd hk hw (by rw [hrf]; cases h : ftys ci j <;> rw [h] at ht <;> first | exact congrArg va_rf (dr_er b) | cases ht) (by cases h : ftys ci j <;> rw [h] at ht <;> first | rfl | cases ht) (by cases h : ftys ci j <;> rw [h] at ht <;> first | rfl | cases ht) (by cases h : ftys ci j <;> rw [h] at ht <;> first | trivial | cases ht) k
theorem x_putz {ci j a idx : Nat} {rf : Nat → Option Nat} {x : Int} (F : FKn r.1.cls idx ci j) (hd : decode r.2.1 pc = .ok (.putfield idx, 3)) (hk : lay.1 a = some (0, ci, rf)) (hw : g.2.1 ≤ a) (ht : ftys ci j = .boolean) (hr : 0 ≤ x ∧ x ≤ 1) (k : X g r cn ck lay (mset M a j x) (pc + 3) L st K) : X g r cn ck lay M pc L (vI x :: vR a :: st) K := by
  have hx : x = 0 ∨ x = 1 := by omega
  exact x_putv F hd hk hw (by rw [ht]; rfl) (by rw [ht]; rcases hx with rfl | rfl <;> decide) (by rw [ht]; rcases hx with rfl | rfl <;> decide) (by rw [ht]; exact hr) k
/-- an array's cell, read -/
theorem x_arr {s : State} {H : Heap} {a t n : Nat} {rf : Nat → Option Nat} (R : Rep g s lay M H) (hk : lay.1 a = some (t + 1, n, rf)) : ∃ cell : Cell, H[a]? = some cell ∧ arrIs s t n rf (M a) cell := R.2 a _ hk
theorem x_iald {a n : Nat} {rf : Nat → Option Nat} {i : Int} (hd : decode r.2.1 pc = .ok (.iaload, 1)) (hk : lay.1 a = some (1, n, rf)) (h0 : 0 ≤ i) (h1 : i < n) (k : -2147483648 ≤ M a i.toNat → M a i.toNat ≤ 2147483647 → X g r cn ck lay M (pc + 1) L (vI (M a i.toNat) :: st) K) : X g r cn ck lay M pc L (vI i :: vR a :: st) K := by
  intro p l e s m args below meth c H locs ls C G R S hl
  obtain ⟨cell, c1, c2, c3, c4, c5, -, c6⟩ := x_arr R hk
  obtain ⟨d1, d2, d3, d4⟩ := n_aidx h0 h1 c5
  obtain ⟨e1, e2⟩ := c6 i.toNat d4
  exact W.iald C.1 C.2.1 c1 c2 c3 (by rw [c4]; exact d2) (by rw [d3]; exact e1) rfl rfl hd (k e2.1 e2.2 p l e s m args below meth c H locs ls C G R S hl)
theorem x_lald {a n : Nat} {rf : Nat → Option Nat} {i : Int} (hd : decode r.2.1 pc = .ok (.laload, 1)) (hk : lay.1 a = some (2, n, rf)) (h0 : 0 ≤ i) (h1 : i < n) (k : -9223372036854775808 ≤ M a i.toNat → M a i.toNat ≤ 9223372036854775807 → X g r cn ck lay M (pc + 1) L (vJ (M a i.toNat) :: st) K) : X g r cn ck lay M pc L (vI i :: vR a :: st) K := by
  intro p l e s m args below meth c H locs ls C G R S hl
  obtain ⟨cell, c1, c2, c3, c4, c5, -, c6⟩ := x_arr R hk
  obtain ⟨d1, d2, d3, d4⟩ := n_aidx h0 h1 c5
  obtain ⟨e1, e2⟩ := c6 i.toNat d4
  exact W.lald C.1 C.2.1 c1 c2 c3 (by rw [c4]; exact d2) (by rw [d3]; exact e1) rfl rfl hd (k e2.1 e2.2 p l e s m args below meth c H locs ls C G R S hl)
theorem x_bald {a n : Nat} {rf : Nat → Option Nat} {i : Int} (hd : decode r.2.1 pc = .ok (.baload, 1)) (hk : lay.1 a = some (3, n, rf)) (h0 : 0 ≤ i) (h1 : i < n) (k : -128 ≤ M a i.toNat → M a i.toNat ≤ 127 → X g r cn ck lay M (pc + 1) L (vI (M a i.toNat) :: st) K) : X g r cn ck lay M pc L (vI i :: vR a :: st) K := by
  intro p l e s m args below meth c H locs ls C G R S hl
  obtain ⟨cell, c1, c2, c3, c4, c5, -, c6⟩ := x_arr R hk
  obtain ⟨d1, d2, d3, d4⟩ := n_aidx h0 h1 c5
  obtain ⟨e1, e2⟩ := c6 i.toNat d4
  exact W.bald C.1 C.2.1 c1 c2 c3 (by rw [c4]; exact d2) (by rw [d3]; exact e1) rfl rfl hd (k e2.1 e2.2 p l e s m args below meth c H locs ls C G R S hl)
theorem x_zald {a n : Nat} {rf : Nat → Option Nat} {i : Int} (hd : decode r.2.1 pc = .ok (.baload, 1)) (hk : lay.1 a = some (4, n, rf)) (h0 : 0 ≤ i) (h1 : i < n) (k : 0 ≤ M a i.toNat → M a i.toNat ≤ 1 → X g r cn ck lay M (pc + 1) L (vI (M a i.toNat) :: st) K) : X g r cn ck lay M pc L (vI i :: vR a :: st) K := by
  intro p l e s m args below meth c H locs ls C G R S hl
  obtain ⟨cell, c1, c2, c3, c4, c5, -, c6⟩ := x_arr R hk
  obtain ⟨d1, d2, d3, d4⟩ := n_aidx h0 h1 c5
  obtain ⟨e1, e2⟩ := c6 i.toNat d4
  exact W.zald C.1 C.2.1 c1 c2 c3 (by rw [c4]; exact d2) (by rw [d3]; exact e1) rfl rfl hd (k e2.1 e2.2 p l e s m args below meth c H locs ls C G R S hl)
theorem x_dald {a n : Nat} {rf : Nat → Option Nat} {i : Int} (hd : decode r.2.1 pc = .ok (.daload, 1)) (hk : lay.1 a = some (5, n, rf)) (h0 : 0 ≤ i) (h1 : i < n) (k : True → X g r cn ck lay M (pc + 1) L (vD (UInt64.ofNat (M a i.toNat).toNat) :: st) K) : X g r cn ck lay M pc L (vI i :: vR a :: st) K := by
  intro p l e s m args below meth c H locs ls C G R S hl
  obtain ⟨cell, c1, c2, c3, c4, c5, -, c6⟩ := x_arr R hk
  obtain ⟨d1, d2, d3, d4⟩ := n_aidx h0 h1 c5
  obtain ⟨e1, e2⟩ := c6 i.toNat d4
  exact W.dald C.1 C.2.1 c1 c2 c3 (by rw [c4]; exact d2) (by rw [d3]; exact e1) rfl rfl hd (k e2 p l e s m args below meth c H locs ls C G R S hl)
theorem x_aald {a n t : Nat} {rf : Nat → Option Nat} {i : Int} (hd : decode r.2.1 pc = .ok (.aaload, 1)) (hk : lay.1 a = some (t + 6, n, rf)) (h0 : 0 ≤ i) (h1 : i < n) (k : X g r cn ck lay M (pc + 1) L (vA (dr (rf i.toNat) (M a i.toNat)) :: st) K) (ht4 : t < 4 := by decide) : X g r cn ck lay M pc L (vI i :: vR a :: st) K := by
  intro p l e s m args below meth c H locs ls C G R S hl
  obtain ⟨cell, c1, c2, c3, c4, c5, -, c6⟩ := x_arr (t := t + 5) R hk
  obtain ⟨d1, d2, d3, d4⟩ := n_aidx h0 h1 c5
  obtain ⟨e1, e2⟩ := c6 i.toNat d4
  have ht : (aty (t + 5)).isReference = true := by
    have : t = 0 ∨ t = 1 ∨ t = 2 ∨ t = 3 := by omega
    rcases this with rfl | rfl | rfl | rfl <;> rfl
  have e9 : aval (t + 5) (rf i.toNat) (M a i.toNat) = va_rf (dr (rf i.toNat) (M a i.toNat)) := by
    have : t = 0 ∨ t = 1 ∨ t = 2 ∨ t = 3 := by omega
    rcases this with rfl | rfl | rfl | rfl <;> rfl
  exact W.aald C.1 C.2.1 c1 c2 ht c3 (by rw [c4]; exact d2) (by rw [d3, e1, e9]; rfl) rfl rfl hd (k p l e s m args below meth c H locs ls C G R S hl)
theorem x_iast {a n : Nat} {rf : Nat → Option Nat} {i : Int} {x : Int} (hd : decode r.2.1 pc = .ok (.iastore, 1)) (hk : lay.1 a = some (1, n, rf)) (hw : g.2.1 ≤ a) (h0 : 0 ≤ i) (h1 : i < n) (hx : i32 x) (k : X g r cn ck lay (mset M a i.toNat x) (pc + 1) L st K) : X g r cn ck lay M pc L (vI x :: vI i :: vR a :: st) K := by
  intro p l e s m args below meth c H locs ls C G R S hl
  obtain ⟨cell, c1, A⟩ := x_arr R hk
  obtain ⟨c2, c3, c4, c5, -, c6⟩ := id A
  obtain ⟨d1, d2, d3, d4⟩ := n_aidx h0 h1 c5
  refine W.iast C.1 C.2.1 c1 c2 c3 (by rw [c4]; exact d2) rfl rfl hd (fun H' e1 e2 e3 => ?_)
  rw [d3] at e1 ⊢
  refine k p l e s m args below meth c H' _ ls C G ⟨e2.trans R.1, Rep.set1 R.2 hk ⟨_, e1, ?_⟩ e3⟩ (S.put e2 e3 hw) hl
  rw [mset_a]
  exact A.set d4 (rfl) (hx)
theorem x_last {a n : Nat} {rf : Nat → Option Nat} {i : Int} {x : Int} (hd : decode r.2.1 pc = .ok (.lastore, 1)) (hk : lay.1 a = some (2, n, rf)) (hw : g.2.1 ≤ a) (h0 : 0 ≤ i) (h1 : i < n) (hx : i64 x) (k : X g r cn ck lay (mset M a i.toNat x) (pc + 1) L st K) : X g r cn ck lay M pc L (vJ x :: vI i :: vR a :: st) K := by
  intro p l e s m args below meth c H locs ls C G R S hl
  obtain ⟨cell, c1, A⟩ := x_arr R hk
  obtain ⟨c2, c3, c4, c5, -, c6⟩ := id A
  obtain ⟨d1, d2, d3, d4⟩ := n_aidx h0 h1 c5
  refine W.last C.1 C.2.1 c1 c2 c3 (by rw [c4]; exact d2) rfl rfl hd (fun H' e1 e2 e3 => ?_)
  rw [d3] at e1 ⊢
  refine k p l e s m args below meth c H' _ ls C G ⟨e2.trans R.1, Rep.set1 R.2 hk ⟨_, e1, ?_⟩ e3⟩ (S.put e2 e3 hw) hl
  rw [mset_a]
  exact A.set d4 (rfl) (hx)
theorem x_bast {a n : Nat} {rf : Nat → Option Nat} {i : Int} {x : Int} (hd : decode r.2.1 pc = .ok (.bastore, 1)) (hk : lay.1 a = some (3, n, rf)) (hw : g.2.1 ≤ a) (h0 : 0 ≤ i) (h1 : i < n) (hx : -128 ≤ x ∧ x ≤ 127) (k : X g r cn ck lay (mset M a i.toNat x) (pc + 1) L st K) : X g r cn ck lay M pc L (vI x :: vI i :: vR a :: st) K := by
  intro p l e s m args below meth c H locs ls C G R S hl
  obtain ⟨cell, c1, A⟩ := x_arr R hk
  obtain ⟨c2, c3, c4, c5, -, c6⟩ := id A
  obtain ⟨d1, d2, d3, d4⟩ := n_aidx h0 h1 c5
  refine W.bast C.1 C.2.1 c1 c2 c3 (by rw [c4]; exact d2) rfl rfl hd (fun H' e1 e2 e3 => ?_)
  rw [d3] at e1 ⊢
  refine k p l e s m args below meth c H' _ ls C G ⟨e2.trans R.1, Rep.set1 R.2 hk ⟨_, e1, ?_⟩ e3⟩ (S.put e2 e3 hw) hl
  rw [mset_a]
  exact A.set d4 ((n_nb hx).symm) (hx)
theorem x_zast {a n : Nat} {rf : Nat → Option Nat} {i : Int} {x : Int} (hd : decode r.2.1 pc = .ok (.bastore, 1)) (hk : lay.1 a = some (4, n, rf)) (hw : g.2.1 ≤ a) (h0 : 0 ≤ i) (h1 : i < n) (hx : 0 ≤ x ∧ x ≤ 1) (k : X g r cn ck lay (mset M a i.toNat x) (pc + 1) L st K) : X g r cn ck lay M pc L (vI x :: vI i :: vR a :: st) K := by
  intro p l e s m args below meth c H locs ls C G R S hl
  obtain ⟨cell, c1, A⟩ := x_arr R hk
  obtain ⟨c2, c3, c4, c5, -, c6⟩ := id A
  obtain ⟨d1, d2, d3, d4⟩ := n_aidx h0 h1 c5
  refine W.zast C.1 C.2.1 c1 c2 c3 (by rw [c4]; exact d2) rfl rfl hd (fun H' e1 e2 e3 => ?_)
  rw [d3] at e1 ⊢
  refine k p l e s m args below meth c H' _ ls C G ⟨e2.trans R.1, Rep.set1 R.2 hk ⟨_, e1, ?_⟩ e3⟩ (S.put e2 e3 hw) hl
  rw [mset_a]
  exact A.set d4 ((n_nz hx).symm) (hx)
theorem x_dast {a n : Nat} {rf : Nat → Option Nat} {i : Int} {x : UInt64} (hd : decode r.2.1 pc = .ok (.dastore, 1)) (hk : lay.1 a = some (5, n, rf)) (hw : g.2.1 ≤ a) (h0 : 0 ≤ i) (h1 : i < n)  (k : X g r cn ck lay (mset M a i.toNat (x.toNat : Int)) (pc + 1) L st K) : X g r cn ck lay M pc L (vD x :: vI i :: vR a :: st) K := by
  intro p l e s m args below meth c H locs ls C G R S hl
  obtain ⟨cell, c1, A⟩ := x_arr R hk
  obtain ⟨c2, c3, c4, c5, -, c6⟩ := id A
  obtain ⟨d1, d2, d3, d4⟩ := n_aidx h0 h1 c5
  refine W.dast C.1 C.2.1 c1 c2 c3 (by rw [c4]; exact d2) rfl rfl hd (fun H' e1 e2 e3 => ?_)
  rw [d3] at e1 ⊢
  refine k p l e s m args below meth c H' _ ls C G ⟨e2.trans R.1, Rep.set1 R.2 hk ⟨_, e1, ?_⟩ e3⟩ (S.put e2 e3 hw) hl
  rw [mset_a]
  exact A.set d4 (by simp [aval]) (trivial)
theorem x_alen {a n t : Nat} {rf : Nat → Option Nat} (hd : decode r.2.1 pc = .ok (.arraylength, 1)) (hk : lay.1 a = some (t + 1, n, rf)) (k : n < 1000000 → X g r cn ck lay M (pc + 1) L (vI n :: st) K) : X g r cn ck lay M pc L (vR a :: st) K := by
  intro p l e s m args below meth c H locs ls C G R S hl
  obtain ⟨cell, c1, c2, c3, c4, c5, -, c6⟩ := x_arr R hk
  have e9 : cell.slots.size.toInt32 = Int32.ofInt (n : Int) := by rw [c4, Int32.ofInt_eq_ofNat]
  exact W.alen C.1 C.2.1 c1 c2 e9 rfl rfl hd (k c5 p l e s m args below meth c H locs ls C G R S hl)
end XH
