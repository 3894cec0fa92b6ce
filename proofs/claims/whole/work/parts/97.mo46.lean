/-! Values as the machine keeps them; what a helper of the law gives. -/
def nmI (x : Int) : Int := (Int32.ofInt x).toInt
def nmJ (x : Int) : Int := (Int64.ofInt x).toInt
theorem nmI_rng (x : Int) : i32 (nmI x) := ⟨by have := Int32.le_toInt (Int32.ofInt x); unfold nmI; omega, by have := Int32.toInt_lt (Int32.ofInt x); unfold nmI; omega⟩
theorem nmJ_rng (x : Int) : i64 (nmJ x) := ⟨by have := Int64.le_toInt (Int64.ofInt x); unfold nmJ; omega, by have := Int64.toInt_lt (Int64.ofInt x); unfold nmJ; omega⟩
def nAV : AV → AV
  | .inl x => vI (nmI x)
  | .inr (.inl x) => vJ (nmJ x)
  | .inr (.inr z) => .inr (.inr z)
theorem nAV_cv : ∀ v : AV, cv (nAV v) = cv v
  | .inl x => by show Value.int (Int32.ofInt (Int32.ofInt x).toInt) = Value.int (Int32.ofInt x); rw [Int32.ofInt_toInt]
  | .inr (.inl x) => by show Value.long (Int64.ofInt (Int64.ofInt x).toInt) = Value.long (Int64.ofInt x); rw [Int64.ofInt_toInt]
  | .inr (.inr _) => rfl
def nrm : Res → Res
  | .inl v => .inl (v.map nAV)
  | .inr E => .inr E
theorem X.norm {g : GG} {r : MR} {cn ck : Nat} {lay : Lay} {M : Mem} {pc : Nat} {L : List (Nat × AV)} {st : List AV} {K K' : KK} (h : X g r cn ck lay M pc L st K') (hk : ∀ o lay M, K' o lay M → K (nrm o) lay M) : X g r cn ck lay M pc L st K := by
  intro p l e s m args below meth c H locs ls C G R S hl T hT Xs
  obtain ⟨t, a1, o, b1, b2, b3⟩ := h p l e s m args below meth c H locs ls C G R S hl T hT Xs
  refine ⟨t, a1, o, b1, b2, ?_⟩
  rcases b3 with ⟨⟨⟨v, l2, M2, e1, e2, e3⟩, e4⟩, e5⟩ | ⟨q, e1, E, ce, L, ⟨⟨l2, M2, e2, e3⟩, e4⟩, e5⟩
  · refine Or.inl ⟨⟨⟨v.map nAV, l2, M2, ?_, hk _ _ _ e2, e3⟩, e4⟩, e5⟩
    rw [e1, Option.map_map]
    congr 1
    cases v with
    | none => rfl
    | some v => exact congrArg some (nAV_cv v).symm
  · exact Or.inr ⟨q, e1, E, ce, L, ⟨⟨l2, M2, hk _ _ _ e2, e3⟩, e4⟩, e5⟩
/-- an answer, or one of these exceptions -/
def RC (l : List String) (r : Res) : Prop := (∃ y, r = oI y) ∨ ∃ e, e ∈ l ∧ r = .inr e
def RCJ (l : List String) (r : Res) : Prop := (∃ y, r = .inl (some (vJ y))) ∨ ∃ e, e ∈ l ∧ r = .inr e
def RCD (l : List String) (r : Res) : Prop := (∃ y, r = .inl (some (vD y))) ∨ ∃ e, e ∈ l ∧ r = .inr e
theorem idxI_pos : ∀ (l : List String) (e : String), e ∈ l → 0 < idxI l e
  | [], _, h => absurd h List.not_mem_nil
  | a :: l, e, h => by
    simp only [idxI]
    split
    · decide
    · next hne =>
      rcases List.mem_cons.mp h with rfl | h
      · exact absurd rfl hne
      · have := idxI_pos l e h
        omega
theorem idxI_rng : ∀ (l : List String) (e : String), 0 ≤ idxI l e ∧ idxI l e ≤ l.length
  | [], _ => ⟨Int.le_refl 0, Int.le_refl 0⟩
  | a :: l, e => by
    have := idxI_rng l e
    simp only [idxI, List.length_cons]
    split <;> omega
theorem kOf_rng (l : List String) (r : Res) : 0 ≤ kOf l r ∧ kOf l r ≤ l.length := by
  cases r with
  | inl v => exact ⟨Int.le_refl 0, Int.natCast_nonneg _⟩
  | inr e => exact idxI_rng l e
theorem RC.zero {l : List String} {r : Res} (h : RC l r) (z : kOf l r = 0) : ∃ y, r = oI y := by
  rcases h with h | ⟨e, he, rfl⟩
  · exact h
  · have := idxI_pos l e he
    have z2 : idxI l e = 0 := z
    omega
theorem RCJ.zero {l : List String} {r : Res} (h : RCJ l r) (z : kOf l r = 0) : ∃ y, r = .inl (some (vJ y)) := by
  rcases h with h | ⟨e, he, rfl⟩
  · exact h
  · have := idxI_pos l e he
    have z2 : idxI l e = 0 := z
    omega
theorem RCD.zero {l : List String} {r : Res} (h : RCD l r) (z : kOf l r = 0) : ∃ y, r = .inl (some (vD y)) := by
  rcases h with h | ⟨e, he, rfl⟩
  · exact h
  · have := idxI_pos l e he
    have z2 : idxI l e = 0 := z
    omega
section HX
variable {g : GG} {m : MR} {cn ck : Nat} {lay : Lay} {M : Mem} {pc : Nat} {L : List (Nat × AV)} {st : List AV} {K : KK} {P : Lay → Mem → Prop} {r : Res} {o : Nat}

theorem hx_IA (h : X g m cn ck lay M pc L st (fun o2 l2 M2 => o2 = r ∧ P l2 M2)) (hr : RC [nIA] r) (ho : ∀ l2 M2, P l2 M2 → l2.1 o = some (2, 1, fun _ => none)) (k : ∀ l2 M2, P l2 M2 → ∀ M3, (∀ a j, a ≠ o → M3 a j = M2 a j) → (∀ y, r = oI y → M3 o 0 = nmI y) → K (.inl (some (vI (kOf [nIA] r)))) l2 M3) : X g m cn ck lay M pc L st (fun o2 lay2 M2 => (∃ y, o2 = .inl (some (vI y)) ∧ i32 y ∧ lay2.1 o = some (2, 1, fun _ => none) ∧ K (.inl (some (vI 0))) lay2 (mset M2 o 0 y)) ∨ (o2 = eIA ∧ K (.inl (some (vI 1))) lay2 M2)) := by
  refine X.norm h (fun o2 l2 M2 hp => ?_)
  obtain ⟨e, hP⟩ := hp
  subst e
  rcases hr with ⟨y, rfl⟩ | ⟨e, he, rfl⟩
  · exact Or.inl ⟨nmI y, rfl, nmI_rng y, ho _ _ hP, k _ _ hP _ (fun a j n => mset_nea n) (fun y2 e => by cases e; exact mset_same)⟩
  · simp only [List.mem_cons, List.not_mem_nil, or_false] at he
    subst he
    exact Or.inr (⟨rfl, by have k9 := k _ _ hP M2 (fun _ _ _ => rfl) (fun y e => by cases e); rw [show kOf [nIA] eIA = 1 by decide] at k9; exact k9⟩)
theorem hx_IO (h : X g m cn ck lay M pc L st (fun o2 l2 M2 => o2 = r ∧ P l2 M2)) (hr : RC [nIO] r) (ho : ∀ l2 M2, P l2 M2 → l2.1 o = some (2, 1, fun _ => none)) (k : ∀ l2 M2, P l2 M2 → ∀ M3, (∀ a j, a ≠ o → M3 a j = M2 a j) → (∀ y, r = oI y → M3 o 0 = nmI y) → K (.inl (some (vI (kOf [nIO] r)))) l2 M3) : X g m cn ck lay M pc L st (fun o2 lay2 M2 => (∃ y, o2 = .inl (some (vI y)) ∧ i32 y ∧ lay2.1 o = some (2, 1, fun _ => none) ∧ K (.inl (some (vI 0))) lay2 (mset M2 o 0 y)) ∨ (o2 = eIO ∧ K (.inl (some (vI 1))) lay2 M2)) := by
  refine X.norm h (fun o2 l2 M2 hp => ?_)
  obtain ⟨e, hP⟩ := hp
  subst e
  rcases hr with ⟨y, rfl⟩ | ⟨e, he, rfl⟩
  · exact Or.inl ⟨nmI y, rfl, nmI_rng y, ho _ _ hP, k _ _ hP _ (fun a j n => mset_nea n) (fun y2 e => by cases e; exact mset_same)⟩
  · simp only [List.mem_cons, List.not_mem_nil, or_false] at he
    subst he
    exact Or.inr (⟨rfl, by have k9 := k _ _ hP M2 (fun _ _ _ => rfl) (fun y e => by cases e); rw [show kOf [nIO] eIO = 1 by decide] at k9; exact k9⟩)
theorem hx_IS (h : X g m cn ck lay M pc L st (fun o2 l2 M2 => o2 = r ∧ P l2 M2)) (hr : RC [nIS] r) (ho : ∀ l2 M2, P l2 M2 → l2.1 o = some (2, 1, fun _ => none)) (k : ∀ l2 M2, P l2 M2 → ∀ M3, (∀ a j, a ≠ o → M3 a j = M2 a j) → (∀ y, r = oI y → M3 o 0 = nmI y) → K (.inl (some (vI (kOf [nIS] r)))) l2 M3) : X g m cn ck lay M pc L st (fun o2 lay2 M2 => (∃ y, o2 = .inl (some (vI y)) ∧ i32 y ∧ lay2.1 o = some (2, 1, fun _ => none) ∧ K (.inl (some (vI 0))) lay2 (mset M2 o 0 y)) ∨ (o2 = eIS ∧ K (.inl (some (vI 1))) lay2 M2)) := by
  refine X.norm h (fun o2 l2 M2 hp => ?_)
  obtain ⟨e, hP⟩ := hp
  subst e
  rcases hr with ⟨y, rfl⟩ | ⟨e, he, rfl⟩
  · exact Or.inl ⟨nmI y, rfl, nmI_rng y, ho _ _ hP, k _ _ hP _ (fun a j n => mset_nea n) (fun y2 e => by cases e; exact mset_same)⟩
  · simp only [List.mem_cons, List.not_mem_nil, or_false] at he
    subst he
    exact Or.inr (⟨rfl, by have k9 := k _ _ hP M2 (fun _ _ _ => rfl) (fun y e => by cases e); rw [show kOf [nIS] eIS = 1 by decide] at k9; exact k9⟩)
theorem hx_IOIA (h : X g m cn ck lay M pc L st (fun o2 l2 M2 => o2 = r ∧ P l2 M2)) (hr : RC [nIO, nIA] r) (ho : ∀ l2 M2, P l2 M2 → l2.1 o = some (2, 1, fun _ => none)) (k : ∀ l2 M2, P l2 M2 → ∀ M3, (∀ a j, a ≠ o → M3 a j = M2 a j) → (∀ y, r = oI y → M3 o 0 = nmI y) → K (.inl (some (vI (kOf [nIO, nIA] r)))) l2 M3) : X g m cn ck lay M pc L st (fun o2 lay2 M2 => (∃ y, o2 = .inl (some (vI y)) ∧ i32 y ∧ lay2.1 o = some (2, 1, fun _ => none) ∧ K (.inl (some (vI 0))) lay2 (mset M2 o 0 y)) ∨ (o2 = eIO ∧ K (.inl (some (vI 1))) lay2 M2) ∨ (o2 = eIA ∧ K (.inl (some (vI 2))) lay2 M2)) := by
  refine X.norm h (fun o2 l2 M2 hp => ?_)
  obtain ⟨e, hP⟩ := hp
  subst e
  rcases hr with ⟨y, rfl⟩ | ⟨e, he, rfl⟩
  · exact Or.inl ⟨nmI y, rfl, nmI_rng y, ho _ _ hP, k _ _ hP _ (fun a j n => mset_nea n) (fun y2 e => by cases e; exact mset_same)⟩
  · simp only [List.mem_cons, List.not_mem_nil, or_false] at he
    rcases he with rfl | rfl
    · exact Or.inr (Or.inl ⟨rfl, by have k9 := k _ _ hP M2 (fun _ _ _ => rfl) (fun y e => by cases e); rw [show kOf [nIO, nIA] eIO = 1 by decide] at k9; exact k9⟩)
    · exact Or.inr (Or.inr (⟨rfl, by have k9 := k _ _ hP M2 (fun _ _ _ => rfl) (fun y e => by cases e); rw [show kOf [nIO, nIA] eIA = 2 by decide] at k9; exact k9⟩))
theorem hx_IOIAIS (h : X g m cn ck lay M pc L st (fun o2 l2 M2 => o2 = r ∧ P l2 M2)) (hr : RC [nIO, nIA, nIS] r) (ho : ∀ l2 M2, P l2 M2 → l2.1 o = some (2, 1, fun _ => none)) (k : ∀ l2 M2, P l2 M2 → ∀ M3, (∀ a j, a ≠ o → M3 a j = M2 a j) → (∀ y, r = oI y → M3 o 0 = nmI y) → K (.inl (some (vI (kOf [nIO, nIA, nIS] r)))) l2 M3) : X g m cn ck lay M pc L st (fun o2 lay2 M2 => (∃ y, o2 = .inl (some (vI y)) ∧ i32 y ∧ lay2.1 o = some (2, 1, fun _ => none) ∧ K (.inl (some (vI 0))) lay2 (mset M2 o 0 y)) ∨ (o2 = eIO ∧ K (.inl (some (vI 1))) lay2 M2) ∨ (o2 = eIA ∧ K (.inl (some (vI 2))) lay2 M2) ∨ (o2 = eIS ∧ K (.inl (some (vI 3))) lay2 M2)) := by
  refine X.norm h (fun o2 l2 M2 hp => ?_)
  obtain ⟨e, hP⟩ := hp
  subst e
  rcases hr with ⟨y, rfl⟩ | ⟨e, he, rfl⟩
  · exact Or.inl ⟨nmI y, rfl, nmI_rng y, ho _ _ hP, k _ _ hP _ (fun a j n => mset_nea n) (fun y2 e => by cases e; exact mset_same)⟩
  · simp only [List.mem_cons, List.not_mem_nil, or_false] at he
    rcases he with rfl | rfl | rfl
    · exact Or.inr (Or.inl ⟨rfl, by have k9 := k _ _ hP M2 (fun _ _ _ => rfl) (fun y e => by cases e); rw [show kOf [nIO, nIA, nIS] eIO = 1 by decide] at k9; exact k9⟩)
    · exact Or.inr (Or.inr (Or.inl ⟨rfl, by have k9 := k _ _ hP M2 (fun _ _ _ => rfl) (fun y e => by cases e); rw [show kOf [nIO, nIA, nIS] eIA = 2 by decide] at k9; exact k9⟩))
    · exact Or.inr (Or.inr (Or.inr (⟨rfl, by have k9 := k _ _ hP M2 (fun _ _ _ => rfl) (fun y e => by cases e); rw [show kOf [nIO, nIA, nIS] eIS = 3 by decide] at k9; exact k9⟩)))
theorem hxJ_IA (h : X g m cn ck lay M pc L st (fun o2 l2 M2 => o2 = r ∧ P l2 M2)) (hr : RCJ [nIA] r) (ho : ∀ l2 M2, P l2 M2 → l2.1 o = some (2, 1, fun _ => none)) (k : ∀ l2 M2, P l2 M2 → ∀ M3, (∀ a j, a ≠ o → M3 a j = M2 a j) → (∀ y, r = .inl (some (vJ y)) → M3 o 0 = nmJ y) → K (.inl (some (vI (kOf [nIA] r)))) l2 M3) : X g m cn ck lay M pc L st (fun o2 lay2 M2 => (∃ y, o2 = .inl (some (vJ y)) ∧ i64 y ∧ lay2.1 o = some (2, 1, fun _ => none) ∧ K (.inl (some (vI 0))) lay2 (mset M2 o 0 y)) ∨ (o2 = eIA ∧ K (.inl (some (vI 1))) lay2 M2)) := by
  refine X.norm h (fun o2 l2 M2 hp => ?_)
  obtain ⟨e, hP⟩ := hp
  subst e
  rcases hr with ⟨y, rfl⟩ | ⟨e, he, rfl⟩
  · exact Or.inl ⟨nmJ y, rfl, nmJ_rng y, ho _ _ hP, k _ _ hP _ (fun a j n => mset_nea n) (fun y2 e => by cases e; exact mset_same)⟩
  · simp only [List.mem_cons, List.not_mem_nil, or_false] at he
    subst he
    exact Or.inr (⟨rfl, by have k9 := k _ _ hP M2 (fun _ _ _ => rfl) (fun y e => by cases e); rw [show kOf [nIA] eIA = 1 by decide] at k9; exact k9⟩)
theorem hxD_IO (h : X g m cn ck lay M pc L st (fun o2 l2 M2 => o2 = r ∧ P l2 M2)) (hr : RCD [nIO] r) (ho : ∀ l2 M2, P l2 M2 → l2.1 o = some (5, 1, fun _ => none)) (k : ∀ l2 M2, P l2 M2 → ∀ M3, (∀ a j, a ≠ o → M3 a j = M2 a j) → (∀ y : UInt64, r = .inl (some (vD y)) → M3 o 0 = (y.toNat : Int)) → K (.inl (some (vI (kOf [nIO] r)))) l2 M3) : X g m cn ck lay M pc L st (fun o2 lay2 M2 => (∃ y : UInt64, o2 = .inl (some (vD y)) ∧ lay2.1 o = some (5, 1, fun _ => none) ∧ K (.inl (some (vI 0))) lay2 (mset M2 o 0 (y.toNat : Int))) ∨ (o2 = eIO ∧ K (.inl (some (vI 1))) lay2 M2)) := by
  refine X.norm h (fun o2 l2 M2 hp => ?_)
  obtain ⟨e, hP⟩ := hp
  subst e
  rcases hr with ⟨y, rfl⟩ | ⟨e, he, rfl⟩
  · exact Or.inl ⟨y, rfl, ho _ _ hP, k _ _ hP _ (fun a j n => mset_nea n) (fun y2 e => by cases e; exact mset_same)⟩
  · simp only [List.mem_cons, List.not_mem_nil, or_false] at he
    subst he
    exact Or.inr (⟨rfl, by have k9 := k _ _ hP M2 (fun _ _ _ => rfl) (fun y e => by cases e); rw [show kOf [nIO] eIO = 1 by decide] at k9; exact k9⟩)
end HX
theorem rc_rCount {T : CT} {u x : Int} : RC [nIA] (rCount T u x) := by
  unfold rCount
  repeat' split
  all_goals first | exact Or.inl ⟨_, rfl⟩ | exact Or.inr ⟨_, by simp, rfl⟩
theorem rc_rPower {T : CT} {p x : Int} : RC [nIO, nIA] (rPower T p x) := by
  unfold rPower
  repeat' split
  all_goals first | exact Or.inl ⟨_, rfl⟩ | exact Or.inr ⟨_, by simp, rfl⟩
theorem rc_rClaimOf {T : CT} {p i x : Int} : RC [nIO, nIA] (rClaimOf T p i x) := by
  unfold rClaimOf
  repeat' split
  all_goals first | exact Or.inl ⟨_, rfl⟩ | exact Or.inr ⟨_, by simp, rfl⟩
theorem rc_rPlayer {T : CT} {p x : Int} : RC [nIO, nIA] (rPlayer T p x) := by
  unfold rPlayer
  repeat' split
  all_goals first | exact Or.inl ⟨_, rfl⟩ | exact Or.inr ⟨_, by simp, rfl⟩
theorem rc_rOfSgn {T : CT} {x : Int} : RC [nIA] (rOfSgn T x) := by
  unfold rOfSgn
  repeat' split
  all_goals first | exact Or.inl ⟨_, rfl⟩ | exact Or.inr ⟨_, by simp, rfl⟩
theorem rc_rNear {T : CT} {i p : Int} : RC [nIO, nIA] (rNear T i p) := by
  unfold rNear
  repeat' split
  all_goals first | exact Or.inl ⟨_, rfl⟩ | exact Or.inr ⟨_, by simp, rfl⟩
theorem rc_rRowDeg {T : CT} {i : Int} : RC [nIO] (rRowDeg T i) := by
  unfold rRowDeg
  repeat' split
  all_goals first | exact Or.inl ⟨_, rfl⟩ | exact Or.inr ⟨_, by simp, rfl⟩
theorem rc_rRowSign {T : CT} {i x : Int} : RC [nIO, nIA] (rRowSign T i x) := by
  unfold rRowSign
  repeat' split
  all_goals first | exact Or.inl ⟨_, rfl⟩ | exact Or.inr ⟨_, by simp, rfl⟩
theorem rc_rMul {T : CT} {x : Int} : RC [nIA] (rMul T x) := by
  unfold rMul
  repeat' split
  all_goals first | exact Or.inl ⟨_, rfl⟩ | exact Or.inr ⟨_, by simp, rfl⟩
theorem rc_rChanges {T : CT} {i x : Int} : RC [nIA] (rChanges T i x) := by
  unfold rChanges
  repeat' split
  all_goals first | exact Or.inl ⟨_, rfl⟩ | exact Or.inr ⟨_, by simp, rfl⟩
theorem rc_rSur {T : CT} {a b : Int} : RC [nIA] (rSur T a b) := by
  unfold rSur
  repeat' split
  all_goals first | exact Or.inl ⟨_, rfl⟩ | exact Or.inr ⟨_, by simp, rfl⟩
theorem rc_rBehind {T : CT} {x p w : Int} : RC [nIO, nIA, nIS] (rBehind T x p w) := by
  unfold rBehind
  repeat' split
  all_goals first | exact Or.inl ⟨_, rfl⟩ | exact Or.inr ⟨_, by simp, rfl⟩
theorem rc_rWhy {T : CT} {x p : Int} : RC [nIO, nIA] (rWhy T x p) := by
  unfold rWhy
  repeat' split
  all_goals first | exact Or.inl ⟨_, rfl⟩ | exact Or.inr ⟨_, by simp, rfl⟩
theorem rc_rRoots {T : CT} {a b : Int} : RC [nIA] (rRoots T a b) := by
  unfold rRoots
  repeat' split
  all_goals first | exact Or.inl ⟨_, rfl⟩ | exact Or.inr ⟨_, by simp, rfl⟩
theorem rc_rValue {T : CT} {x : Int} : RCJ [nIA] (rValue T x) := by
  unfold rValue
  split
  all_goals first | exact Or.inl ⟨_, rfl⟩ | exact Or.inr ⟨_, by simp, rfl⟩
theorem rc_rRoot {T : CT} {i : Int} : RCD [nIO] (rRoot T i) := by
  unfold rRoot
  split
  all_goals first | exact Or.inl ⟨_, rfl⟩ | exact Or.inr ⟨_, by simp, rfl⟩
theorem rc_acc {A : Nat → Int} {x : Int} : RC [nIA] (if 0 ≤ x ∧ x ≤ 8 then oI (A x.toNat) else eIA) := by
  split
  all_goals first | exact Or.inl ⟨_, rfl⟩ | exact Or.inr ⟨_, by simp, rfl⟩
