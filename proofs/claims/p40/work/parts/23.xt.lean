/-! A throw of a class of the library without a text; the layout of a RootDuel. -/
theorem cellIs.lt {g : GG} {s : State} {k : Kd} {mem : Nat → Int} {a : Nat} {H : Heap} (h : cellIs g s k mem a H) : a < H.size := by
  obtain ⟨t, n, rf⟩ := k
  cases t with
  | zero =>
    obtain ⟨q, h1, ⟨cell, h2, -⟩, -⟩ := h
    exact (Array.getElem?_eq_some_iff.mp h2).1
  | succ t =>
    obtain ⟨cell, h2, -⟩ := h
    exact (Array.getElem?_eq_some_iff.mp h2).1
theorem Rep.grow {g : GG} {s t : State} {lay : Lay} {M : Mem} {H : Heap} (R : Rep g s lay M H) (hv : s.vm.Alike t.vm) (hq : ∀ q : Nat, q < H.size → t.heap[q]? = H[q]?) : Rep g t (lay.1, t.heap.size) M t.heap :=
  ⟨rfl, fun a k h => ((R.2 a k h).moved hv).kept (hq a (R.2 a k h).lt)⟩
def nm3 : List String := ["java/lang/RuntimeException", "java/lang/Exception"]
def CT0 (own : String) (ik ic : Nat) (E : String) : Prop := Bundle.fit E = true ∧ Cond.classLink own ik E ∈ wsL_law ∧ Cond.initialized E ∈ wsL_law ∧ (vx_at0 own ic E nm3).all (fun w => (decide (w ∈ wsL_law) || decide (w ∈ nestW)) && vx_ot w) = true ∧ (vx_ot (Cond.classLink own ik E) && vx_ot (Cond.initialized E)) = true
theorem x_throw0 {g : GG} {r : MR} {cn ck : Nat} {lay : Lay} {M : Mem} {pc : Nat} {L : List (Nat × AV)} {K : KK} {ik ic : Nat} {E : String} (cw : CT0 r.1.cls ik ic E) (d0 : decode r.2.1 pc = .ok (.new ik, 3)) (d3 : decode r.2.1 (pc + 3) = .ok (.dup, 1)) (d4 : decode r.2.1 (pc + 4) = .ok (.invokespecial ic, 3)) (d7 : decode r.2.1 (pc + 7) = .ok (.athrow, 1)) (hh : r_hh r = []) (hR : 5 < r_fr r ∧ 81 ≤ r_lo r) (hc : cn + 1 ≤ r_mc r) (hs : ck + 6 ≤ r_ms r)
    (k : ∀ n, lay.2 ≤ n → K (.inr E) (lay.1, n) M) : X g r cn ck lay M pc L [] K := by
  intro p l e s m args below meth c H locs ls C G R S hl
  obtain ⟨hx, hb, hml, hre, hlo, hown, hts, htb, hst0, hnm0⟩ := id C
  have hall := List.all_eq_true.mp cw.2.2.2.1
  have hot := cw.2.2.2.2
  simp only [Bool.and_eq_true] at hot
  refine vx_throw0 (names := nm3) (A := gA g) hx hb hst0 hown cw.1 (by decide) (hts _ cw.2.1) (hts _ cw.2.2.1) (fun w hw => ?_) (fun w hw => ?_) G.2.2.2.2.2.2.1 G.2.2.2.2.2.2.2.1 S (hl.1.trans hml.symm) d0 d3 d4 d7 (fun x hx9 => ?_) hR.1 hR.2 hc hs hlo (fun t a b c2 => ?_) (fun z hz => S.2.2 z hz) hc hs
  · have h1 := hall w hw
    simp only [Bool.and_eq_true, Bool.or_eq_true, decide_eq_true_eq] at h1
    rcases h1.1 with h2 | h2
    · exact hts _ h2
    · have h3 := G.nest h2
      have h4 : w.onTables = true := by
        simp only [nestW, List.mem_cons, List.not_mem_nil, or_false] at h2
        rcases h2 with rfl | rfl | rfl | rfl | rfl | rfl | rfl | rfl | rfl | rfl | rfl | rfl | rfl | rfl | rfl | rfl | rfl | rfl | rfl | rfl | rfl | rfl | rfl | rfl | rfl | rfl | rfl | rfl | rfl | rfl | rfl | rfl | rfl | rfl | rfl | rfl | rfl | rfl <;> first | rfl | exact absurd h1.2 (by decide)
      exact va_Nw.use h4 h3
  · rcases List.mem_cons.mp hw with rfl | hw
    · exact hot.1
    · rcases List.mem_cons.mp hw with rfl | hw
      · exact hot.2
      · have h1 := hall w hw
        simp only [Bool.and_eq_true] at h1
        exact h1.2
  · rw [htb, hh] at hx9
    exact absurd hx9 (by simp [tableOf])
  · refine ⟨⟨(lay.1, t.heap.size), M, k _ (by rw [← R.1]; exact b), R.grow a c2⟩, Nat.le_trans S.1 b, fun q h1 h2 => ?_⟩
    rw [c2 q (Nat.lt_of_lt_of_le h1 S.1)]
    exact S.2.1 q h1 h2
theorem ct67 : CT0 "RootDuel" 67 69 "java/lang/IllegalArgumentException" := ⟨by decide, by decide +kernel, by decide +kernel, by decide +kernel, by decide +kernel⟩
theorem ct56 : CT0 "RootDuel" 56 58 "java/lang/IllegalStateException" := ⟨by decide, by decide +kernel, by decide +kernel, by decide +kernel, by decide +kernel⟩
theorem ct140 : CT0 "RootDuel" 140 142 "java/lang/IndexOutOfBoundsException" := ⟨by decide, by decide +kernel, by decide +kernel, by decide +kernel, by decide +kernel⟩
/-- a RootDuel at b and all that it holds; the saved contests at sv -/
def DuL (lay : Lay) (b : Nat) (sv : Nat → Option Nat) : Prop := lay.1 b = some (0, 4, fun j => match j with | 0 => some (b + 1) | 1 => some (b + 8) | 2 => some (b + 15) | 3 => some (b + 16) | 4 => some (b + 25) | 5 => some (b + 28) | 6 => some (b + 30) | _ => some (b + 31)) ∧ CtL lay (b + 1) ∧ CtL lay (b + 8) ∧ lay.1 (b + 15) = some (7, 2, sv) ∧ SrL lay (b + 16) ∧ RdL lay (b + 25) ∧ PgL lay (b + 28) ∧ lay.1 (b + 30) = some (1, 9, fun _ => none) ∧ lay.1 (b + 31) = some (2, 5, fun _ => none) ∧
  (∀ i a, i < 2 → sv i = some a → b + 32 ≤ a ∧ CtL lay a) ∧ (∀ a a2, sv 0 = some a → sv 1 = some a2 → a + 7 ≤ a2 ∨ a2 + 7 ≤ a)
