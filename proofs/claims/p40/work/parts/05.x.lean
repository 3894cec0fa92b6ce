/-! A method's run over a memory of whole numbers: values, memory, what a heap holds of it, the judgement X, its rows. -/
abbrev AV : Type := Int ⊕ (Int ⊕ (Option Nat ⊕ UInt64))
abbrev vI (x : Int) : AV := .inl x
abbrev vJ (x : Int) : AV := .inr (.inl x)
abbrev vA (r : Option Nat) : AV := .inr (.inr (.inl r))
abbrev vR (a : Nat) : AV := .inr (.inr (.inl (some a)))
abbrev vN : AV := .inr (.inr (.inl none))
abbrev vD (b : UInt64) : AV := .inr (.inr (.inr b))
def cv : AV → Value
  | .inl x => .int (Int32.ofInt x)
  | .inr (.inl x) => .long (Int64.ofInt x)
  | .inr (.inr (.inl r)) => va_rf r
  | .inr (.inr (.inr b)) => .double b
abbrev Kd : Type := Nat × Nat × (Nat → Option Nat)
/-- what cells there are, and how large the heap is -/
abbrev Lay : Type := (Nat → Option Kd) × Nat
abbrev Mem : Type := Nat → Nat → Int
def mset (M : Mem) (a i : Nat) (v : Int) : Mem := fun b j => if b = a ∧ j = i then v else M b j
theorem mset_same {M : Mem} {a i : Nat} {v : Int} : mset M a i v a i = v := if_pos ⟨rfl, rfl⟩
theorem mset_ne {M : Mem} {a i b j : Nat} {v : Int} (h : ¬ (b = a ∧ j = i)) : mset M a i v b j = M b j := if_neg h
theorem mset_nea {M : Mem} {a i b j : Nat} {v : Int} (h : ¬ b = a) : mset M a i v b j = M b j := if_neg (fun q => h q.1)
theorem mset_nei {M : Mem} {a i b j : Nat} {v : Int} (h : ¬ j = i) : mset M a i v b j = M b j := if_neg (fun q => h q.2)
/-- global places: the classes' numbers; where the own cells begin; the static tables; the String constants and their bytes -/
abbrev GG : Type := va_G × Nat × (Nat → Nat) × (Nat → Nat) × (Nat → Nat)
abbrev gA (g : GG) : Nat → Prop := fun q => g.2.1 ≤ q
def ftys : Nat → Nat → FieldType
  | 0 => tyX0
  | 1 => tyX1
  | 2 => tyX2
  | 3 => tyX3
  | 4 => tyX4
  | 5 => tyX5
  | 6 => tyX6
  | 7 => tyX7
  | 8 => tyJ4
  | 9 => tyJ0
  | 10 => tyJx4a65c
  | _ => tyJx35411
/-- a reference: told by the layout, or else by the memory -/
def dr (r : Option Nat) (x : Int) : Option Nat := match r with
  | some b => some b
  | none => if x ≤ 0 then none else some (x.toNat - 1)
def er (b : Nat) : Int := (b : Int) + 1
theorem dr_er (b : Nat) : dr none (er b) = some b := by
  unfold dr er
  rw [if_neg (by omega)]
  exact congrArg some (by omega)
theorem dr_0 : dr none 0 = none := by
  unfold dr
  exact if_pos (Int.le_refl 0)
def fval (ty : FieldType) (r : Option Nat) (x : Int) : Value := match ty with
  | .object _ => va_rf (dr r x)
  | .array _ => va_rf (dr r x)
  | _ => .int (Int32.ofInt x)
def frng (ty : FieldType) (x : Int) : Prop := match ty with
  | .object _ => True
  | .array _ => True
  | .boolean => 0 ≤ x ∧ x ≤ 1
  | .byte => -128 ≤ x ∧ x ≤ 127
  | _ => i32 x
def aty : Nat → FieldType
  | 0 => .int
  | 1 => .long
  | 2 => .byte
  | 3 => .boolean
  | 4 => .double
  | 5 => .array .long
  | 6 => .object "RootDuel$Contest"
  | 9 => .byte
  | _ => .object "java/lang/Object"
def aval (t : Nat) (r : Option Nat) (x : Int) : Value := match t with
  | 0 => .int (Int32.ofInt x)
  | 1 => .long (Int64.ofInt x)
  | 2 => .int (Int32.ofInt x)
  | 3 => .int (Int32.ofInt x)
  | 4 => .double (UInt64.ofNat x.toNat)
  | 9 => .int (Int32.ofInt x)
  | _ => va_rf (dr r x)
def arng (t : Nat) (x : Int) : Prop := match t with
  | 0 => i32 x
  | 1 => i64 x
  | 2 => -128 ≤ x ∧ x ≤ 127
  | 3 => 0 ≤ x ∧ x ≤ 1
  | 9 => -128 ≤ x ∧ x ≤ 127
  | _ => True
/-- an array's cell: its kind t, its length n -/
def arrIs (s : State) (t n : Nat) (rf : Nat → Option Nat) (mem : Nat → Int) (cell : Cell) : Prop :=
  s.isArrayOf cell (aty t) ∧ cell.vm ≠ .unknown ∧ cell.slots.size = n ∧ n < 1000000 ∧ (t = 2 ∨ t = 6 ∨ t = 7 → va_RA s cell.cls (aty t)) ∧ ∀ j : Nat, j < n → cell.slots[j]? = some (aval t (rf j) (mem j)) ∧ arng t (mem j)
def cellIs (g : GG) (s : State) (k : Kd) (mem : Nat → Int) (a : Nat) (H : Heap) : Prop := match k.1 with
  | 0 => ∃ q : vw_C, vwCl[k.2.1]? = some q ∧ t_OB a (g.1.1 k.2.1) q.2.2 (g.1.2 k.2.1) H (fun j => fval (ftys k.2.1 j) (k.2.2 j) (mem j)) ∧ ∀ j : Nat, j < q.2.2 → frng (ftys k.2.1 j) (mem j)
  | t + 1 => ∃ cell : Cell, H[a]? = some cell ∧ arrIs s t k.2.1 k.2.2 mem cell
def Rep (g : GG) (s : State) (lay : Lay) (M : Mem) (H : Heap) : Prop := H.size = lay.2 ∧ ∀ (a : Nat) (k : Kd), lay.1 a = some k → cellIs g s k (M a) a H
theorem arrIs.moved {s u : State} {t n : Nat} {rf : Nat → Option Nat} {mem : Nat → Int} {cell : Cell} (hv : s.vm.Alike u.vm) (h : arrIs s t n rf mem cell) : arrIs u t n rf mem cell := ⟨State.isArrayOf_alike hv h.1, h.2.1, h.2.2.1, h.2.2.2.1, fun e => (h.2.2.2.2.1 e).moved hv, h.2.2.2.2.2⟩
theorem cellIs.moved {g : GG} {s u : State} {k : Kd} {mem : Nat → Int} {a : Nat} {H : Heap} (hv : s.vm.Alike u.vm) (h : cellIs g s k mem a H) : cellIs g u k mem a H := by
  obtain ⟨t, n, rf⟩ := k
  cases t with
  | zero => exact h
  | succ t =>
    obtain ⟨cell, h1, h2⟩ := h
    exact ⟨cell, h1, h2.moved hv⟩
theorem cellIs.kept {g : GG} {s : State} {k : Kd} {mem : Nat → Int} {a : Nat} {H H1 : Heap} (h : cellIs g s k mem a H) (hq : H1[a]? = H[a]?) : cellIs g s k mem a H1 := by
  obtain ⟨t, n, rf⟩ := k
  cases t with
  | zero =>
    obtain ⟨q, h1, h2, h3⟩ := h
    exact ⟨q, h1, h2.kept hq, h3⟩
  | succ t =>
    obtain ⟨cell, h1, h2⟩ := h
    exact ⟨cell, by rw [hq]; exact h1, h2⟩
theorem Rep.moved {g : GG} {s u : State} {lay : Lay} {M : Mem} {H : Heap} (hv : s.vm.Alike u.vm) (h : Rep g s lay M H) : Rep g u lay M H := ⟨h.1, fun a k hk => (h.2 a k hk).moved hv⟩
theorem Rep.set1 {g : GG} {s : State} {lay : Lay} {M : Mem} {H H1 : Heap} {a i : Nat} {v : Int} {k : Kd} (h : ∀ (a : Nat) (k : Kd), lay.1 a = some k → cellIs g s k (M a) a H) (hk : lay.1 a = some k) (he : cellIs g s k (mset M a i v a) a H1) (oq : ∀ q : Nat, q ≠ a → H1[q]? = H[q]?) : ∀ (b : Nat) (k : Kd), lay.1 b = some k → cellIs g s k (mset M a i v b) b H1 := by

  intro b kb hb
  by_cases e : b = a
  · subst e
    cases hk.symm.trans hb
    exact he
  · have e2 : mset M a i v b = M b := funext fun j => mset_nea e
    rw [e2]
    exact (h b kb hb).kept (oq b e)
/-- the static tables, the String constants, the statics of Throwable -/
def strLen : List Nat := [3, 5, 4, 5, 7, 6, 3, 5, 5, 4, 5]
def tabF (k j : Nat) : Int := match k with
  | 0 => [5, 2, 12, 5, 0, 0, 12].getD j 0
  | 1 => [2, 0, 1, 1, 0, 0, 1].getD j 0
  | _ => [5, 9, 60, 20, 4, 20, 40].getD j 0
/-- words that hold along a run, though they don't stand among wsL_law -/
def nestW : List Cond := [.fieldLinkNest "RootDuel$Contest" 33 "RootDuel" "FIRST_SETTINGS" "[I" "RootDuel", .fieldLinkNest "RootDuel$Reader" 117 "RootDuel" "LEAST_SETTINGS" "[I" "RootDuel", .fieldLinkNest "RootDuel$Reader" 120 "RootDuel" "MOST_SETTINGS" "[I" "RootDuel", .methodLinkNest "RootDuel" 25 ⟨"RootDuel$SignRows", "<init>", "()V"⟩ "RootDuel", .methodLinkNest "RootDuel" 32 ⟨"RootDuel$Reader", "<init>", "()V"⟩ "RootDuel", .methodLinkNest "RootDuel" 39 ⟨"RootDuel$Page", "<init>", "()V"⟩ "RootDuel", .castable "java/lang/IllegalStateException" "java/lang/IllegalStateException", .castable "java/lang/IllegalArgumentException" "java/lang/IllegalArgumentException", .castable "java/lang/IndexOutOfBoundsException" "java/lang/IndexOutOfBoundsException", .arrayOver (.object "RootDuel$Contest"), .arrayOver (.array .long), .declares ⟨"java/lang/RuntimeException", "<init>", "()V"⟩, .declares ⟨"java/lang/Exception", "<init>", "()V"⟩, .declares ⟨"java/lang/Throwable", "<init>", "()V"⟩, .methodLinkNest "RootDuel$Contest" 103 ⟨"RootDuel", "isPlayer", "(I)Z"⟩ "RootDuel", .fieldLinkNest "RootDuelLaw$Contest" 96 "RootDuelLaw$Claim" "a" "I" "RootDuelLaw", .fieldLinkNest "RootDuelLaw" 175 "RootDuelLaw$Claim" "a" "I" "RootDuelLaw", .fieldLinkNest "RootDuelLaw$Contest" 103 "RootDuelLaw$Claim" "b" "I" "RootDuelLaw", .fieldLinkNest "RootDuelLaw" 179 "RootDuelLaw$Claim" "b" "I" "RootDuelLaw", .fieldLinkNest "RootDuelLaw" 182 "RootDuelLaw$Claim" "roots" "I" "RootDuelLaw", .fieldLinkNest "RootDuelLaw$Contest" 130 "RootDuelLaw$Claim" "roots" "I" "RootDuelLaw", .fieldLinkNest "RootDuelLaw" 184 "RootDuelLaw$Claim" "least" "Z" "RootDuelLaw", .fieldLinkNest "RootDuelLaw$Contest" 127 "RootDuelLaw$Claim" "least" "Z" "RootDuelLaw", .fieldLinkNest "RootDuelLaw$Contest" 77 "RootDuelLaw$Claim" "stake" "I" "RootDuelLaw", .fieldLinkNest "RootDuelLaw" 188 "RootDuelLaw$Claim" "stake" "I" "RootDuelLaw", .fieldLinkNest "java/util/ArrayList$Itr" 28 "java/util/ArrayList" "size" "I" "java/util/ArrayList", .fieldLinkNest "RootDuelLaw" 27 "RootDuelLaw$Contest" "co" "[I" "RootDuelLaw", .fieldLinkNest "RootDuelLaw" 225 "RootDuelLaw$Contest" "latest" "[I" "RootDuelLaw", .fieldLinkNest "RootDuelLaw" 195 "RootDuelLaw$Contest" "claims" "Ljava/util/ArrayList;" "RootDuelLaw", .fieldLinkNest "RootDuelLaw" 228 "RootDuelLaw$Contest" "turn" "I" "RootDuelLaw", .fieldLinkNest "RootDuelLaw" 209 "RootDuelLaw$Contest" "hasClaimed" "Z" "RootDuelLaw", .fieldLinkNest "RootDuelLaw" 215 "RootDuelLaw$Contest" "isOver" "Z" "RootDuelLaw", .fieldLinkNest "RootDuelLaw" 231 "RootDuelLaw$Contest" "bonusTo" "I" "RootDuelLaw", .methodLinkNest "RootDuelLaw$Told" 17 ⟨"RootDuelLaw", "pick", "([II)I"⟩ "RootDuelLaw", .castable "RootDuelLaw$Claim" "java/lang/Object", .castable "java/util/ArrayList" "java/lang/Object", .arrayOver (.object "java/lang/Object"), .castable "[B" "java/lang/Cloneable"]
def ncL : List (String × String) := []
def strT : List String := ["start", "powers", "bar", "turns", "reach", "goal", "purse", "lay", "claim", "pass", "least", "exactly", "claim least", "claim exactly", "pass;", "powers ", ";bar ", ";turns ", ";reach ", ";goal ", " ", ";purse ", ";", "start "]
def strB : List (List Int) := [[115, 116, 97, 114, 116], [112, 111, 119, 101, 114, 115], [98, 97, 114], [116, 117, 114, 110, 115], [114, 101, 97, 99, 104], [103, 111, 97, 108], [112, 117, 114, 115, 101], [108, 97, 121], [99, 108, 97, 105, 109], [112, 97, 115, 115], [108, 101, 97, 115, 116], [101, 120, 97, 99, 116, 108, 121], [99, 108, 97, 105, 109, 32, 108, 101, 97, 115, 116], [99, 108, 97, 105, 109, 32, 101, 120, 97, 99, 116, 108, 121], [112, 97, 115, 115, 59], [112, 111, 119, 101, 114, 115, 32], [59, 98, 97, 114, 32], [59, 116, 117, 114, 110, 115, 32], [59, 114, 101, 97, 99, 104, 32], [59, 103, 111, 97, 108, 32], [32], [59, 112, 117, 114, 115, 101, 32], [59], [115, 116, 97, 114, 116, 32]]
def strI : List (List Int32) := strB.map (fun l => l.map Int32.ofInt)
def strN : List Nat := strB.map List.length
def strK : List (String × Nat × Nat) := [("RootDuel$Reader", 90, 0), ("RootDuel$Reader", 105, 1), ("RootDuel$Reader", 107, 2), ("RootDuel$Reader", 109, 3), ("RootDuel$Reader", 111, 4), ("RootDuel$Reader", 113, 5), ("RootDuel$Reader", 115, 6), ("RootDuel$Reader", 153, 7), ("RootDuel$Reader", 155, 8), ("RootDuel$Reader", 157, 9), ("RootDuel$Reader", 159, 10), ("RootDuel$Reader", 161, 11), ("RootDuel$Page", 70, 12), ("RootDuel$Page", 72, 13), ("RootDuel$Page", 46, 14), ("RootDuel$Page", 52, 7), ("RootDuelLaw", 120, 15), ("RootDuelLaw", 129, 16), ("RootDuelLaw", 131, 17), ("RootDuelLaw", 133, 18), ("RootDuelLaw", 135, 19), ("RootDuelLaw", 137, 20), ("RootDuelLaw", 139, 21), ("RootDuelLaw", 141, 22), ("RootDuelLaw", 150, 23)]
def WW (s u : State) : Prop := s.vm.Alike u.vm ∧ (∀ (own tx : String) (k a : Nat), vk_R own k tx a s → vk_R own k tx a u) ∧ ∀ w ∈ nestW, va_Nw w s → va_Nw w u
theorem ao_same {ty : FieldType} {u U : State} (h : U.vm = u.vm) (z : va_Nw (.arrayOver ty) u) : va_Nw (.arrayOver ty) U := by
  unfold va_Nw Cond.before Cond.holds at *
  simp only [Cond.value] at *
  rw [h]
  exact z
theorem ao_moved {ty : FieldType} {u U : State} (h : u.vm.Alike U.vm) (z : va_Nw (.arrayOver ty) u) : va_Nw (.arrayOver ty) U := by
  refine ao_same (u := u.setVm U.vm) rfl ?_
  unfold va_Nw
  rw [Cond.arrayOver_setVmC h]
  exact z
theorem WW.of {s u : State} (h : s.WarmedH u.vm) : WW s u := by
  refine ⟨h.alike, fun _ _ _ _ q => q.warm h, fun w hw q => ?_⟩
  simp only [nestW, List.mem_cons, List.not_mem_nil, or_false] at hw
  rcases hw with rfl | rfl | rfl | rfl | rfl | rfl | rfl | rfl | rfl | rfl | rfl | rfl | rfl | rfl | rfl | rfl | rfl | rfl | rfl | rfl | rfl | rfl | rfl | rfl | rfl | rfl | rfl | rfl | rfl | rfl | rfl | rfl | rfl | rfl | rfl | rfl | rfl | rfl
  · exact va_Nw.warmF h q
  · exact va_Nw.warmF h q
  · exact va_Nw.warmF h q
  · exact va_Nw.warmM h q
  · exact va_Nw.warmM h q
  · exact va_Nw.warmM h q
  · exact va_Nw.warmC h q
  · exact va_Nw.warmC h q
  · exact va_Nw.warmC h q
  · exact ao_moved h.alike q
  · exact ao_moved h.alike q
  · exact va_Nw.warmD h q
  · exact va_Nw.warmD h q
  · exact va_Nw.warmD h q
  · exact va_Nw.warmM h q
  · exact va_Nw.warmF h q
  · exact va_Nw.warmF h q
  · exact va_Nw.warmF h q
  · exact va_Nw.warmF h q
  · exact va_Nw.warmF h q
  · exact va_Nw.warmF h q
  · exact va_Nw.warmF h q
  · exact va_Nw.warmF h q
  · exact va_Nw.warmF h q
  · exact va_Nw.warmF h q
  · exact va_Nw.warmF h q
  · exact va_Nw.warmF h q
  · exact va_Nw.warmF h q
  · exact va_Nw.warmF h q
  · exact va_Nw.warmF h q
  · exact va_Nw.warmF h q
  · exact va_Nw.warmF h q
  · exact va_Nw.warmF h q
  · exact va_Nw.warmM h q
  · exact va_Nw.warmC h q
  · exact va_Nw.warmC h q
  · exact ao_moved h.alike q
  · exact va_Nw.warmC h q
theorem WW.same {s u : State} (h : u.vm = s.vm) : WW s u := by
  refine ⟨by rw [h]; exact Vm.Alike.refl _, fun _ _ _ _ q => vk_R.same h q, fun w hw q => ?_⟩
  simp only [nestW, List.mem_cons, List.not_mem_nil, or_false] at hw
  rcases hw with rfl | rfl | rfl | rfl | rfl | rfl | rfl | rfl | rfl | rfl | rfl | rfl | rfl | rfl | rfl | rfl | rfl | rfl | rfl | rfl | rfl | rfl | rfl | rfl | rfl | rfl | rfl | rfl | rfl | rfl | rfl | rfl | rfl | rfl | rfl | rfl | rfl | rfl
  all_goals first | exact va_Nw.same rfl h.symm q | exact ao_same h q
def StJ (g : GG) (s : State) (H : Heap) : Prop :=
  va_Z "java/lang/Integer" "DigitOnes" "[B" (.ref (g.2.2.1 3)) (gA g) s H ∧ va_Z "java/lang/Integer" "DigitTens" "[B" (.ref (g.2.2.1 4)) (gA g) s H ∧ va_Z "java/util/ArrayList" "DEFAULTCAPACITY_EMPTY_ELEMENTDATA" "[Ljava/lang/Object;" (.ref (g.2.2.1 5)) (gA g) s H ∧
  va_Fw "java/util/ArrayList$Itr" ⟨"java/util/Iterator", "hasNext", "()Z"⟩ ⟨"java/util/ArrayList$Itr", "hasNext", "()Z"⟩ s ∧ va_Fw "java/util/ArrayList$Itr" ⟨"java/util/Iterator", "next", "()Ljava/lang/Object;"⟩ ⟨"java/util/ArrayList$Itr", "next", "()Ljava/lang/Object;"⟩ s
theorem StJ.next {g : GG} {s u : State} {H H1 : Heap} (h : StJ g s H) (hW : WW s u) (hq : ∀ a : Nat, a < H.size → ¬ gA g a → H1[a]? = H[a]?) : StJ g u H1 := by
  obtain ⟨h1, h2, h3, h4, h5⟩ := h
  have hv := hW.1
  exact ⟨(va_Z.moved hv h1).kept hq, (va_Z.moved hv h2).kept hq, (va_Z.moved hv h3).kept hq, va_Fw.moved ⟨by decide, by decide⟩ hv h4, va_Fw.moved ⟨by decide, by decide⟩ hv h5⟩
def StF (g : GG) (s : State) (H : Heap) : Prop :=
  va_Z "RootDuel" "FIRST_SETTINGS" "[I" (.ref (g.2.2.1 0)) (gA g) s H ∧ va_Z "RootDuel" "LEAST_SETTINGS" "[I" (.ref (g.2.2.1 1)) (gA g) s H ∧ va_Z "RootDuel" "MOST_SETTINGS" "[I" (.ref (g.2.2.1 2)) (gA g) s H ∧
  (∀ k : Nat, k < 3 → va_T .int (g.2.2.1 k) 7 (fun j => .int (Int32.ofInt (tabF k j))) (gA g) s H) ∧
  vx_Zq Bundle.tN "UNASSIGNED_STACK" Bundle.steD (gA g) s H ∧ vx_Zq Bundle.tN "SUPPRESSED_SENTINEL" Bundle.listD (gA g) s H ∧
  va_Z "java/lang/String" "COMPACT_STRINGS" "Z" (.int 1) (gA g) s H ∧ va_Zq "jdk/internal/util/Preconditions" "SIOOBE_FORMATTER" "Ljava/util/function/BiFunction;" (gA g) s H ∧
  vk_S 24 strN strI g.2.2.2.1 g.2.2.2.2 (gA g) s H ∧ (∀ q ∈ strK, vk_R q.1 q.2.1 (strT.getD q.2.2 "") (g.2.2.2.1 q.2.2) s) ∧
  (∀ w ∈ nestW, va_Nw w s) ∧ (∀ q ∈ ncL, va_Nc q.1 q.2 s) ∧ StJ g s H
theorem StF.next {g : GG} {s u : State} {H H1 : Heap} (h : StF g s H) (hW : WW s u) (hq : ∀ a : Nat, a < H.size → ¬ gA g a → H1[a]? = H[a]?) : StF g u H1 := by
  obtain ⟨h1, h2, h3, h4, h5, h6, h7, h8, h9, h10, h11, h12, h13⟩ := h
  have hv := hW.1
  exact ⟨(va_Z.moved hv h1).kept hq, (va_Z.moved hv h2).kept hq, (va_Z.moved hv h3).kept hq, fun k hk => (va_T.moved hv (h4 k hk)).kept hq, (vx_Zq.moved hv h5).kept hq, (vx_Zq.moved hv h6).kept hq, (va_Z.moved hv h7).kept hq, (va_Zq.moved hv h8).kept hq, (vk_S.moved hv h9).kept hq, fun q hq2 => hW.2.1 _ _ _ _ (h10 q hq2), fun w hw => hW.2.2 w hw (h11 w hw), fun q hq2 => va_Nc.moved hv (h12 q hq2), h13.next hW hq⟩
def GF (g : GG) (s : State) (H : Heap) : Prop := va_K g.1 vwCl [] s ∧ g.2.1 ≤ H.size ∧ StF g s H
theorem GF.next {g : GG} {s u : State} {H H1 : Heap} (h : GF g s H) (hW : WW s u) (hz : H.size ≤ H1.size) (hq : ∀ a : Nat, a < H.size → ¬ gA g a → H1[a]? = H[a]?) : GF g u H1 := ⟨va_K.moved hW.1 h.1, Nat.le_trans h.2.1 hz, h.2.2.next hW hq⟩
/-- a method: its name, code, locals, type of answer; frames, words of locals, cells, slots that it may need -/
abbrev MR : Type := MethodName × ByteArray × Nat × Option FieldType × Nat × Nat × Nat × Nat × List (Nat × Nat × Nat × Nat)
abbrev r_fr (r : MR) : Nat := r.2.2.2.2.1
abbrev r_lo (r : MR) : Nat := r.2.2.2.2.2.1
abbrev r_mc (r : MR) : Nat := r.2.2.2.2.2.2.1
abbrev r_ms (r : MR) : Nat := r.2.2.2.2.2.2.2.1
abbrev r_hh (r : MR) : List (Nat × Nat × Nat × Nat) := r.2.2.2.2.2.2.2.2
def rmOf (r : MR) : Room := { frames := r_fr r, cells := r_mc r, slots := r_ms r, locals := r_lo r }
def wsOf (r : MR) : List Cond := .code r.1 r.2.1 r.2.2.1 r.2.2.2.1 :: wsL_law
def wsOfW (r : MR) : List Cond := .codeWith r.1 r.2.1 r.2.2.1 r.2.2.2.1 (r_hh r) :: wsL_law
abbrev KK : Type := (Option AV ⊕ String) → Lay → Mem → Prop
def Qk (g : GG) (K : KK) : Array Value → State → Outcome → State → Prop := fun _ st o t => (∃ (v : Option AV) (lay : Lay) (M : Mem), o = .returned (v.map cv) ∧ K (.inl v) lay M ∧ Rep g t lay M t.heap) ∧ va_F (gA g) st t
def Xk (g : GG) (K : KK) : String → State → State → Prop := fun E st t => (∃ (lay : Lay) (M : Mem), K (.inr E) lay M ∧ Rep g t lay M t.heap) ∧ va_F (gA g) st t
def Cx (r : MR) (p : Program) (l : Launch) (s : State) (m : MethodId) (args : Array Value) (meth : Method) (c : Code) : Prop :=
  p.tables.exec = Jvm.exec ∧ c.code = r.2.1 ∧ c.maxLocals = r.2.2.1 ∧ meth.sig.returnType = r.2.2.2.1 ∧ meth.locks = false ∧ s.vm.findClass r.1.cls = some m.cls ∧ (∀ w ∈ wsL_law, w.before args s = true) ∧ c.exceptionTable.toList = tableOf (r_hh r) ∧ l.stackTraces = false ∧ meth.name = r.1.name
def X (g : GG) (r : MR) (cn ck : Nat) (lay : Lay) (M : Mem) (pc : Nat) (L : List (Nat × AV)) (st : List AV) (K : KK) : Prop :=
  ∀ (p : Program) (l : Launch) (e : Env) (s : State) (m : MethodId) (args : Array Value) (below : List Frame) (meth : Method) (c : Code) (H : Heap) (locs : List Loc) (ls : Array Slot),
    Cx r p l s m args meth c → GF g s s.heap → Rep g s lay M H → va_S (gA g) s.heap H locs → lv_has ls r.2.2.1 (L.map (fun q => (q.1, cv q.2))) →
    W p l e (rmOf r) s m args below meth c H locs cn ck (vx_MQ below (Qk g K) (Xk g K) args s (rmOf r).cells (rmOf r).slots (gA g)) (F0 m pc ls (st.map cv))
def lk (L : List (Nat × AV)) (i : Nat) : Option AV := (L.find? (fun q => q.1 == i)).map (fun q => q.2)
theorem lk_at {ls : Array Slot} {nL : Nat} {L : List (Nat × AV)} {i : Nat} {v : AV} (h : lv_has ls nL (L.map (fun q => (q.1, cv q.2)))) (hk : lk L i = some v) : ls[i]? = some (.val (cv v)) := by
  unfold lk at hk
  obtain ⟨q, h1, h2⟩ := Option.map_eq_some_iff.mp hk
  have h3 := List.find?_some h1
  have h4 := List.mem_of_find?_eq_some h1
  have h5 := h.2.2 (q.1, cv q.2) (List.mem_map.mpr ⟨q, h4, rfl⟩)
  have h6 : q.1 = i := by simpa using h3
  rw [h6, h2] at h5
  exact h5
def sto1 (L : List (Nat × AV)) (i : Nat) (v : AV) : List (Nat × AV) := (i, v) :: L.filter (fun q => !(q.1 == i) && !(q.1 + 1 == i && (cv q.2).category == 2))
def sto2 (L : List (Nat × AV)) (i : Nat) (v : AV) : List (Nat × AV) := (i, v) :: L.filter (fun q => !(q.1 == i) && (!(q.1 == i + 1) && !(q.1 + 1 == i && (cv q.2).category == 2)))
theorem sto1_map (L : List (Nat × AV)) (i : Nat) (v : AV) : (i, cv v) :: (L.map (fun q => (q.1, cv q.2))).filter (fun q => !(q.1 == i) && !(q.1 + 1 == i && q.2.category == 2)) = (sto1 L i v).map (fun q => (q.1, cv q.2)) := by
  unfold sto1
  rw [List.map_cons, List.filter_map]
  rfl
theorem sto2_map (L : List (Nat × AV)) (i : Nat) (v : AV) : (i, cv v) :: (L.map (fun q => (q.1, cv q.2))).filter (fun q => !(q.1 == i) && (!(q.1 == i + 1) && !(q.1 + 1 == i && q.2.category == 2))) = (sto2 L i v).map (fun q => (q.1, cv q.2)) := by
  unfold sto2
  rw [List.map_cons, List.filter_map]
  rfl
theorem X.sub {g : GG} {r : MR} {cn ck : Nat} {lay : Lay} {M : Mem} {pc : Nat} {L L' : List (Nat × AV)} {st : List AV} {K : KK} (k : X g r cn ck lay M pc L' st K) (hL : ∀ q ∈ L', q ∈ L) : X g r cn ck lay M pc L st K := by
  intro p l e s m args below meth c H locs ls C G R S hl
  refine k p l e s m args below meth c H locs ls C G R S ⟨hl.1, hl.2.1, fun q hq => ?_⟩
  obtain ⟨z, hz, e⟩ := List.mem_map.mp hq
  exact hl.2.2 q (List.mem_map.mpr ⟨z, hL z hz, e⟩)
/-- fewer locals, in an order of one's own: by their places -/
theorem X.loc {g : GG} {r : MR} {cn ck : Nat} {lay : Lay} {M : Mem} {pc : Nat} {L L' : List (Nat × AV)} {st : List AV} {K : KK} (ks : List Nat) (hL : ks.filterMap (fun k => L[k]?) = L') (k : X g r cn ck lay M pc L' st K) : X g r cn ck lay M pc L st K :=
  k.sub (fun q hq => by
    rw [← hL] at hq
    obtain ⟨i, -, hi⟩ := List.mem_filterMap.mp hq
    exact List.mem_of_getElem? hi)
theorem X.cs {g : GG} {r : MR} {cn ck cn' ck' : Nat} {lay : Lay} {M : Mem} {pc : Nat} {L : List (Nat × AV)} {st : List AV} {K : KK} (k : X g r cn' ck' lay M pc L st K) (h1 : cn ≤ cn') (h2 : ck ≤ ck') : X g r cn ck lay M pc L st K := by
  intro p l e s m args below meth c H locs ls C G R S hl
  exact W.widen h1 h2 (k p l e s m args below meth c H locs ls C G R S hl)
section XR
variable {g : GG} {r : MR} {cn ck : Nat} {lay : Lay} {M : Mem} {pc : Nat} {L L' : List (Nat × AV)} {st : List AV} {K : KK}
/-- a row that touches neither heap nor locals -/
theorem X.lift {pc' : Nat} {st' : List AV} (h : ∀ {p : Program} {l : Launch} {e : Env} {R : Room} {s : State} {m : MethodId} {args : Array Value} {below : List Frame} {meth : Method} {c : Code} {H : Heap} {locs : List Loc} {cells slots : Nat} {Q : State → Prop} {ls : Array Slot}, p.tables.exec = Jvm.exec → c.code = r.2.1 → W p l e R s m args below meth c H locs cells slots Q (F0 m pc' ls (st'.map cv)) → W p l e R s m args below meth c H locs cells slots Q (F0 m pc ls (st.map cv))) (k : X g r cn ck lay M pc' L st' K) : X g r cn ck lay M pc L st K := by
  intro p l e s m args below meth c H locs ls C G R S hl
  exact h C.1 C.2.1 (k p l e s m args below meth c H locs ls C G R S hl)
theorem x_iconst {n : Int} (hd : decode r.2.1 pc = .ok (.iconst n, 1)) (k : X g r cn ck lay M (pc + 1) L (vI n :: st) K) : X g r cn ck lay M pc L st K := X.lift (fun hx hb w => lv_iconst hx hb hd rfl w) k
theorem x_bipush {n : Int} (hd : decode r.2.1 pc = .ok (.bipush n, 2)) (hn : (Int8.ofInt n).toInt32 = Int32.ofInt n) (k : X g r cn ck lay M (pc + 2) L (vI n :: st) K) : X g r cn ck lay M pc L st K := X.lift (fun hx hb w => lv_bipush hx hb hd hn w) k
theorem x_sipush {n : Int} (hd : decode r.2.1 pc = .ok (.sipush n, 3)) (hn : (Int16.ofInt n).toInt32 = Int32.ofInt n) (k : X g r cn ck lay M (pc + 3) L (vI n :: st) K) : X g r cn ck lay M pc L st K := X.lift (fun hx hb w => lv_sipush hx hb hd hn w) k
theorem x_lconst {n : Fin 2} {x : Int} (hd : decode r.2.1 pc = .ok (.lconst n, 1)) (hn : Int64.ofNat (n : Nat) = Int64.ofInt x) (k : X g r cn ck lay M (pc + 1) L (vJ x :: st) K) : X g r cn ck lay M pc L st K := X.lift (fun hx hb w => lv_lconst hx hb hd hn w) k
theorem x_null (hd : decode r.2.1 pc = .ok (.aconst_null, 1)) (k : X g r cn ck lay M (pc + 1) L (vN :: st) K) : X g r cn ck lay M pc L st K := X.lift (fun hx hb w => lv_null hx hb hd w) k
theorem x_iadd {x y : Int} (hd : decode r.2.1 pc = .ok (.iadd, 1)) (k : X g r cn ck lay M (pc + 1) L (vI (x + y) :: st) K) : X g r cn ck lay M pc L (vI y :: vI x :: st) K := X.lift (fun hx hb w => lv_iadd hx hb hd (by rw [← Int32.ofInt_add]; exact w)) k
theorem x_isub {x y : Int} (hd : decode r.2.1 pc = .ok (.isub, 1)) (k : X g r cn ck lay M (pc + 1) L (vI (x - y) :: st) K) : X g r cn ck lay M pc L (vI y :: vI x :: st) K := X.lift (fun hx hb w => lv_isub hx hb hd (by rw [← Int32.ofInt_sub]; exact w)) k
theorem x_imul {x y : Int} (hd : decode r.2.1 pc = .ok (.imul, 1)) (k : X g r cn ck lay M (pc + 1) L (vI (x * y) :: st) K) : X g r cn ck lay M pc L (vI y :: vI x :: st) K := X.lift (fun hx hb w => lv_imul hx hb hd (by rw [← Int32.ofInt_mul]; exact w)) k
theorem x_ladd {x y : Int} (hd : decode r.2.1 pc = .ok (.ladd, 1)) (k : X g r cn ck lay M (pc + 1) L (vJ (x + y) :: st) K) : X g r cn ck lay M pc L (vJ y :: vJ x :: st) K := X.lift (fun hx hb w => lv_ladd hx hb hd (by rw [← Int64.ofInt_add]; exact w)) k
theorem x_lsub {x y : Int} (hd : decode r.2.1 pc = .ok (.lsub, 1)) (k : X g r cn ck lay M (pc + 1) L (vJ (x - y) :: st) K) : X g r cn ck lay M pc L (vJ y :: vJ x :: st) K := X.lift (fun hx hb w => lv_lsub hx hb hd (by rw [← Int64.ofInt_sub]; exact w)) k
theorem x_lmul {x y : Int} (hd : decode r.2.1 pc = .ok (.lmul, 1)) (k : X g r cn ck lay M (pc + 1) L (vJ (x * y) :: st) K) : X g r cn ck lay M pc L (vJ y :: vJ x :: st) K := X.lift (fun hx hb w => lv_lmul hx hb hd (by rw [← Int64.ofInt_mul]; exact w)) k
theorem x_ineg {x : Int} (hd : decode r.2.1 pc = .ok (.ineg, 1)) (k : X g r cn ck lay M (pc + 1) L (vI (-x) :: st) K) : X g r cn ck lay M pc L (vI x :: st) K := X.lift (fun hx hb w => lv_ineg hx hb hd (by have w := w; rw [List.map_cons, show cv (vI (-x)) = .int (Int32.ofInt (-x)) from rfl, Int32.ofInt_neg] at w; simpa using w)) k
theorem x_lneg {x : Int} (hd : decode r.2.1 pc = .ok (.lneg, 1)) (k : X g r cn ck lay M (pc + 1) L (vJ (-x) :: st) K) : X g r cn ck lay M pc L (vJ x :: st) K := X.lift (fun hx hb w => lv_lneg hx hb hd (by have w := w; rw [List.map_cons, show cv (vJ (-x)) = .long (Int64.ofInt (-x)) from rfl, Int64.ofInt_neg] at w; simpa using w)) k
theorem x_idiv {x y : Int} (hd : decode r.2.1 pc = .ok (.idiv, 1)) (hx0 : i32 x) (hy0 : i32 y) (hy : ¬ y = 0) (k : X g r cn ck lay M (pc + 1) L (vI (x.tdiv y) :: st) K) : X g r cn ck lay M pc L (vI y :: vI x :: st) K := X.lift (fun hx hb w => lv_idiv hx hb hd (fun q => hy ((n32_eq hy0 i32_0).mp q)) (by rw [n32_div hx0 hy0]; exact w)) k
theorem x_irem {x y : Int} (hd : decode r.2.1 pc = .ok (.irem, 1)) (hx0 : i32 x) (hy0 : i32 y) (hy : ¬ y = 0) (k : X g r cn ck lay M (pc + 1) L (vI (x.tmod y) :: st) K) : X g r cn ck lay M pc L (vI y :: vI x :: st) K := X.lift (fun hx hb w => lv_irem hx hb hd (fun q => hy ((n32_eq hy0 i32_0).mp q)) (by rw [n32_rem hx0 hy0]; exact w)) k
theorem x_ldiv {x y : Int} (hd : decode r.2.1 pc = .ok (.ldiv, 1)) (hx0 : i64 x) (hy0 : i64 y) (hy : ¬ y = 0) (k : X g r cn ck lay M (pc + 1) L (vJ (x.tdiv y) :: st) K) : X g r cn ck lay M pc L (vJ y :: vJ x :: st) K := X.lift (fun hx hb w => lv_ldiv hx hb hd (fun q => hy ((n64_eq hy0 (by decide)).mp q)) (by rw [n64_div hx0 hy0]; exact w)) k
theorem x_lrem {x y : Int} (hd : decode r.2.1 pc = .ok (.lrem, 1)) (hx0 : i64 x) (hy0 : i64 y) (hy : ¬ y = 0) (k : X g r cn ck lay M (pc + 1) L (vJ (x.tmod y) :: st) K) : X g r cn ck lay M pc L (vJ y :: vJ x :: st) K := X.lift (fun hx hb w => lv_lrem hx hb hd (fun q => hy ((n64_eq hy0 (by decide)).mp q)) (by rw [n64_rem hx0 hy0]; exact w)) k
theorem x_ishl {x : Int} (n : Nat) (hn : n < 32) {y : Int} (hy : y = (n : Int)) (hd : decode r.2.1 pc = .ok (.ishl, 1)) (k : X g r cn ck lay M (pc + 1) L (vI (x * 2 ^ n) :: st) K) : X g r cn ck lay M pc L (vI y :: vI x :: st) K := X.lift (fun hx hb w => lv_ishl hx hb hd (by rw [hy, n32_shl x hn]; exact w)) k
theorem x_ishr {x : Int} (n : Nat) (hn : n < 32) {y : Int} (hy : y = (n : Int)) (hx0 : i32 x) (hd : decode r.2.1 pc = .ok (.ishr, 1)) (k : X g r cn ck lay M (pc + 1) L (vI (x / 2 ^ n) :: st) K) : X g r cn ck lay M pc L (vI y :: vI x :: st) K := X.lift (fun hx hb w => lv_ishr hx hb hd (by rw [hy, n32_shr hx0 hn]; exact w)) k
theorem x_lshl {x : Int} (n : Nat) (hn : n < 64) {y : Int} (hy : y = (n : Int)) (hd : decode r.2.1 pc = .ok (.lshl, 1)) (k : X g r cn ck lay M (pc + 1) L (vJ (x * 2 ^ n) :: st) K) : X g r cn ck lay M pc L (vI y :: vJ x :: st) K := X.lift (fun hx hb w => lv_lshl hx hb hd (by rw [hy]; exact n64_shl x hn) w) k
theorem x_lshr {x : Int} (n : Nat) (hn : n < 64) {y : Int} (hy : y = (n : Int)) (hx0 : i64 x) (hd : decode r.2.1 pc = .ok (.lshr, 1)) (k : X g r cn ck lay M (pc + 1) L (vJ (x / 2 ^ n) :: st) K) : X g r cn ck lay M pc L (vI y :: vJ x :: st) K := X.lift (fun hx hb w => lv_lshr hx hb hd (by rw [hy]; exact n64_shr hx0 hn) w) k
theorem x_iandm {x y : Int} (n : Nat) (hn : n ≤ 31) (hy : y = 2 ^ n - 1) (hd : decode r.2.1 pc = .ok (.iand, 1)) (k : X g r cn ck lay M (pc + 1) L (vI (x % 2 ^ n) :: st) K) : X g r cn ck lay M pc L (vI y :: vI x :: st) K := X.lift (fun hx hb w => lv_iand hx hb hd (by rw [hy, n32_and x n hn]; exact w)) k
theorem x_land26 {x : Int} (hd : decode r.2.1 pc = .ok (.land, 1)) (k : X g r cn ck lay M (pc + 1) L (vJ (x % 67108864) :: st) K) : X g r cn ck lay M pc L (vJ 67108863 :: vJ x :: st) K := X.lift (fun hx hb w => lv_land hx hb hd (by rw [n64_and26 x]; exact w)) k
theorem x_ior {x y : Int} (a n : Nat) (ha : a < 128) (hn : n < 7) (hx1 : x = (a : Int)) (hy1 : y = 1 * 2 ^ n) (hd : decode r.2.1 pc = .ok (.ior, 1)) (k : X g r cn ck lay M (pc + 1) L (vI (if (a / 2 ^ n) % 2 = 0 then (a : Int) + 2 ^ n else a) :: st) K) : X g r cn ck lay M pc L (vI y :: vI x :: st) K := X.lift (fun hx hb w => lv_ior hx hb hd (by rw [hx1, hy1, n32_or a ha n hn]; exact w)) k
theorem x_i2l {x : Int} (hx0 : i32 x) (hd : decode r.2.1 pc = .ok (.i2l, 1)) (k : X g r cn ck lay M (pc + 1) L (vJ x :: st) K) : X g r cn ck lay M pc L (vI x :: st) K := X.lift (fun hx hb w => lv_i2l hx hb hd (n_i2l hx0) w) k
theorem x_l2i {x : Int} (hd : decode r.2.1 pc = .ok (.l2i, 1)) (k : X g r cn ck lay M (pc + 1) L (vI x :: st) K) : X g r cn ck lay M pc L (vJ x :: st) K := X.lift (fun hx hb w => lv_l2i hx hb hd (n_l2i x) w) k
theorem x_i2b {x : Int} (hd : decode r.2.1 pc = .ok (.i2b, 1)) (k : X g r cn ck lay M (pc + 1) L (vI (x.bmod 256) :: st) K) : X g r cn ck lay M pc L (vI x :: st) K := X.lift (fun hx hb w => lv_i2b hx hb hd (n_i2b x) w) k
theorem x_i2c {x : Int} (h0 : 0 ≤ x) (h1 : x < 65536) (hd : decode r.2.1 pc = .ok (.i2c, 1)) (k : X g r cn ck lay M (pc + 1) L (vI x :: st) K) : X g r cn ck lay M pc L (vI x :: st) K := X.lift (fun hx hb w => lv_i2c hx hb hd (n_i2c h0 h1) w) k
theorem x_dup {v : AV} (hd : decode r.2.1 pc = .ok (.dup, 1)) (hc : (cv v).category = 1) (k : X g r cn ck lay M (pc + 1) L (v :: v :: st) K) : X g r cn ck lay M pc L (v :: st) K := X.lift (fun hx hb w => lv_dup hx hb hd hc w) k
theorem x_pop {v : AV} (hd : decode r.2.1 pc = .ok (.pop, 1)) (hc : (cv v).category = 1) (k : X g r cn ck lay M (pc + 1) L st K) : X g r cn ck lay M pc L (v :: st) K := X.lift (fun hx hb w => lv_pop hx hb hd hc w) k
theorem x_dup2 {v u : AV} (hd : decode r.2.1 pc = .ok (.dup2, 1)) (hc : (cv v).category = 1) (hu : (cv u).category = 1) (k : X g r cn ck lay M (pc + 1) L (v :: u :: v :: u :: st) K) : X g r cn ck lay M pc L (v :: u :: st) K := X.lift (fun hx hb w => lv_dup2_11 hx hb hd hc hu w) k
theorem x_goto {off : Int} {t : Nat} (hd : decode r.2.1 pc = .ok (.goto off, 3)) (ht : (pc : Int) + off = (t : Int)) (k : X g r cn ck lay M t L st K) : X g r cn ck lay M pc L st K := X.lift (fun hx hb w => lv_goto hx hb hd ht w) k
theorem x_i2d {x : Int} (hd : decode r.2.1 pc = .ok (.i2d, 1)) (k : X g r cn ck lay M (pc + 1) L (vD (FP.i2d (Int32.ofInt x)) :: st) K) : X g r cn ck lay M pc L (vI x :: st) K := X.lift (fun hx hb w => lv_i2d hx hb hd w) k
theorem x_ddiv {x y : UInt64} (hne : vf_n64 (FP.ddiv x y)) (hd : decode r.2.1 pc = .ok (.ddiv, 1)) (k : X g r cn ck lay M (pc + 1) L (vD (FP.ddiv x y) :: st) K) : X g r cn ck lay M pc L (vD y :: vD x :: st) K := X.lift (fun hx hb w => lv_ddiv hx hb hd hne w) k
theorem x_ifnonnull {a : Nat} {off : Int} {t : Nat} (hd : decode r.2.1 pc = .ok (.ifnonnull off, 3)) (ht : (pc : Int) + off = (t : Int)) (k : X g r cn ck lay M t L st K) : X g r cn ck lay M pc L (vR a :: st) K := X.lift (fun hx hb w => lv_ifnonnull hx hb hd ht w) k
theorem x_ifnonnullN {off : Int} (hd : decode r.2.1 pc = .ok (.ifnonnull off, 3)) (k : X g r cn ck lay M (pc + 3) L st K) : X g r cn ck lay M pc L (vN :: st) K := X.lift (fun hx hb w => lv_ifnonnullN hx hb hd w) k
theorem x_if_eq {x : Int} {off : Int} {t : Nat} (hd : decode r.2.1 pc = .ok (.ifCond .eq off, 3)) (ht : (pc : Int) + off = (t : Int)) (hx0 : i32 x)  (kt : x = 0 → X g r cn ck lay M t L st K) (kf : ¬ x = 0 → X g r cn ck lay M (pc + 3) L st K) : X g r cn ck lay M pc L (vI x :: st) K := by
  have key : (Int32.ofInt x = Int32.ofInt 0) ↔ (x = 0) := n32_eq hx0 i32_0
  intro p l e s m args below meth c H locs ls C G R S hl
  exact lv_if_eq C.1 C.2.1 hd ht (fun q => kt (key.mp q) p l e s m args below meth c H locs ls C G R S hl) (fun q => kf (by have n := not_congr key |>.mp q; exact n) p l e s m args below meth c H locs ls C G R S hl)
theorem x_icmp_eq {x y : Int} {off : Int} {t : Nat} (hd : decode r.2.1 pc = .ok (.if_icmp .eq off, 3)) (ht : (pc : Int) + off = (t : Int)) (hx0 : i32 x) (hy0 : i32 y) (kt : x = y → X g r cn ck lay M t L st K) (kf : ¬ x = y → X g r cn ck lay M (pc + 3) L st K) : X g r cn ck lay M pc L (vI y :: vI x :: st) K := by
  have key : (Int32.ofInt x = Int32.ofInt y) ↔ (x = y) := n32_eq hx0 hy0
  intro p l e s m args below meth c H locs ls C G R S hl
  exact lv_icmp_eq C.1 C.2.1 hd ht (fun q => kt (key.mp q) p l e s m args below meth c H locs ls C G R S hl) (fun q => kf (by have n := not_congr key |>.mp q; exact n) p l e s m args below meth c H locs ls C G R S hl)
theorem x_if_ne {x : Int} {off : Int} {t : Nat} (hd : decode r.2.1 pc = .ok (.ifCond .ne off, 3)) (ht : (pc : Int) + off = (t : Int)) (hx0 : i32 x)  (kt : ¬ x = 0 → X g r cn ck lay M t L st K) (kf : x = 0 → X g r cn ck lay M (pc + 3) L st K) : X g r cn ck lay M pc L (vI x :: st) K := by
  have key : (Int32.ofInt x ≠ Int32.ofInt 0) ↔ (¬ x = 0) := not_congr (n32_eq hx0 i32_0)
  intro p l e s m args below meth c H locs ls C G R S hl
  exact lv_if_ne C.1 C.2.1 hd ht (fun q => kt (key.mp q) p l e s m args below meth c H locs ls C G R S hl) (fun q => kf ((n32_eq hx0 i32_0).mp q) p l e s m args below meth c H locs ls C G R S hl)
theorem x_icmp_ne {x y : Int} {off : Int} {t : Nat} (hd : decode r.2.1 pc = .ok (.if_icmp .ne off, 3)) (ht : (pc : Int) + off = (t : Int)) (hx0 : i32 x) (hy0 : i32 y) (kt : ¬ x = y → X g r cn ck lay M t L st K) (kf : x = y → X g r cn ck lay M (pc + 3) L st K) : X g r cn ck lay M pc L (vI y :: vI x :: st) K := by
  have key : (Int32.ofInt x ≠ Int32.ofInt y) ↔ (¬ x = y) := not_congr (n32_eq hx0 hy0)
  intro p l e s m args below meth c H locs ls C G R S hl
  exact lv_icmp_ne C.1 C.2.1 hd ht (fun q => kt (key.mp q) p l e s m args below meth c H locs ls C G R S hl) (fun q => kf ((n32_eq hx0 hy0).mp q) p l e s m args below meth c H locs ls C G R S hl)
theorem x_if_lt {x : Int} {off : Int} {t : Nat} (hd : decode r.2.1 pc = .ok (.ifCond .lt off, 3)) (ht : (pc : Int) + off = (t : Int)) (hx0 : i32 x)  (kt : x < 0 → X g r cn ck lay M t L st K) (kf : 0 ≤ x → X g r cn ck lay M (pc + 3) L st K) : X g r cn ck lay M pc L (vI x :: st) K := by
  have key : (Int32.ofInt x < Int32.ofInt 0) ↔ (x < 0) := n32_lt hx0 i32_0
  intro p l e s m args below meth c H locs ls C G R S hl
  exact lv_if_lt C.1 C.2.1 hd ht (fun q => kt (key.mp q) p l e s m args below meth c H locs ls C G R S hl) (fun q => kf (by have n := not_congr key |>.mp q; exact Int.not_lt.mp n) p l e s m args below meth c H locs ls C G R S hl)
theorem x_icmp_lt {x y : Int} {off : Int} {t : Nat} (hd : decode r.2.1 pc = .ok (.if_icmp .lt off, 3)) (ht : (pc : Int) + off = (t : Int)) (hx0 : i32 x) (hy0 : i32 y) (kt : x < y → X g r cn ck lay M t L st K) (kf : y ≤ x → X g r cn ck lay M (pc + 3) L st K) : X g r cn ck lay M pc L (vI y :: vI x :: st) K := by
  have key : (Int32.ofInt x < Int32.ofInt y) ↔ (x < y) := n32_lt hx0 hy0
  intro p l e s m args below meth c H locs ls C G R S hl
  exact lv_icmp_lt C.1 C.2.1 hd ht (fun q => kt (key.mp q) p l e s m args below meth c H locs ls C G R S hl) (fun q => kf (by have n := not_congr key |>.mp q; exact Int.not_lt.mp n) p l e s m args below meth c H locs ls C G R S hl)
theorem x_if_le {x : Int} {off : Int} {t : Nat} (hd : decode r.2.1 pc = .ok (.ifCond .le off, 3)) (ht : (pc : Int) + off = (t : Int)) (hx0 : i32 x)  (kt : x ≤ 0 → X g r cn ck lay M t L st K) (kf : 0 < x → X g r cn ck lay M (pc + 3) L st K) : X g r cn ck lay M pc L (vI x :: st) K := by
  have key : (Int32.ofInt x ≤ Int32.ofInt 0) ↔ (x ≤ 0) := n32_le hx0 i32_0
  intro p l e s m args below meth c H locs ls C G R S hl
  exact lv_if_le C.1 C.2.1 hd ht (fun q => kt (key.mp q) p l e s m args below meth c H locs ls C G R S hl) (fun q => kf (by have n := not_congr key |>.mp q; exact Int.not_le.mp n) p l e s m args below meth c H locs ls C G R S hl)
theorem x_icmp_le {x y : Int} {off : Int} {t : Nat} (hd : decode r.2.1 pc = .ok (.if_icmp .le off, 3)) (ht : (pc : Int) + off = (t : Int)) (hx0 : i32 x) (hy0 : i32 y) (kt : x ≤ y → X g r cn ck lay M t L st K) (kf : y < x → X g r cn ck lay M (pc + 3) L st K) : X g r cn ck lay M pc L (vI y :: vI x :: st) K := by
  have key : (Int32.ofInt x ≤ Int32.ofInt y) ↔ (x ≤ y) := n32_le hx0 hy0
  intro p l e s m args below meth c H locs ls C G R S hl
  exact lv_icmp_le C.1 C.2.1 hd ht (fun q => kt (key.mp q) p l e s m args below meth c H locs ls C G R S hl) (fun q => kf (by have n := not_congr key |>.mp q; exact Int.not_le.mp n) p l e s m args below meth c H locs ls C G R S hl)
theorem x_if_gt {x : Int} {off : Int} {t : Nat} (hd : decode r.2.1 pc = .ok (.ifCond .gt off, 3)) (ht : (pc : Int) + off = (t : Int)) (hx0 : i32 x)  (kt : 0 < x → X g r cn ck lay M t L st K) (kf : x ≤ 0 → X g r cn ck lay M (pc + 3) L st K) : X g r cn ck lay M pc L (vI x :: st) K := by
  have key : (Int32.ofInt x > Int32.ofInt 0) ↔ (0 < x) := n32_lt i32_0 hx0
  intro p l e s m args below meth c H locs ls C G R S hl
  exact lv_if_gt C.1 C.2.1 hd ht (fun q => kt (key.mp q) p l e s m args below meth c H locs ls C G R S hl) (fun q => kf (by have n := not_congr key |>.mp q; exact Int.not_lt.mp n) p l e s m args below meth c H locs ls C G R S hl)
theorem x_icmp_gt {x y : Int} {off : Int} {t : Nat} (hd : decode r.2.1 pc = .ok (.if_icmp .gt off, 3)) (ht : (pc : Int) + off = (t : Int)) (hx0 : i32 x) (hy0 : i32 y) (kt : y < x → X g r cn ck lay M t L st K) (kf : x ≤ y → X g r cn ck lay M (pc + 3) L st K) : X g r cn ck lay M pc L (vI y :: vI x :: st) K := by
  have key : (Int32.ofInt x > Int32.ofInt y) ↔ (y < x) := n32_lt hy0 hx0
  intro p l e s m args below meth c H locs ls C G R S hl
  exact lv_icmp_gt C.1 C.2.1 hd ht (fun q => kt (key.mp q) p l e s m args below meth c H locs ls C G R S hl) (fun q => kf (by have n := not_congr key |>.mp q; exact Int.not_lt.mp n) p l e s m args below meth c H locs ls C G R S hl)
theorem x_if_ge {x : Int} {off : Int} {t : Nat} (hd : decode r.2.1 pc = .ok (.ifCond .ge off, 3)) (ht : (pc : Int) + off = (t : Int)) (hx0 : i32 x)  (kt : 0 ≤ x → X g r cn ck lay M t L st K) (kf : x < 0 → X g r cn ck lay M (pc + 3) L st K) : X g r cn ck lay M pc L (vI x :: st) K := by
  have key : (Int32.ofInt x ≥ Int32.ofInt 0) ↔ (0 ≤ x) := n32_le i32_0 hx0
  intro p l e s m args below meth c H locs ls C G R S hl
  exact lv_if_ge C.1 C.2.1 hd ht (fun q => kt (key.mp q) p l e s m args below meth c H locs ls C G R S hl) (fun q => kf (by have n := not_congr key |>.mp q; exact Int.not_le.mp n) p l e s m args below meth c H locs ls C G R S hl)
theorem x_icmp_ge {x y : Int} {off : Int} {t : Nat} (hd : decode r.2.1 pc = .ok (.if_icmp .ge off, 3)) (ht : (pc : Int) + off = (t : Int)) (hx0 : i32 x) (hy0 : i32 y) (kt : y ≤ x → X g r cn ck lay M t L st K) (kf : x < y → X g r cn ck lay M (pc + 3) L st K) : X g r cn ck lay M pc L (vI y :: vI x :: st) K := by
  have key : (Int32.ofInt x ≥ Int32.ofInt y) ↔ (y ≤ x) := n32_le hy0 hx0
  intro p l e s m args below meth c H locs ls C G R S hl
  exact lv_icmp_ge C.1 C.2.1 hd ht (fun q => kt (key.mp q) p l e s m args below meth c H locs ls C G R S hl) (fun q => kf (by have n := not_congr key |>.mp q; exact Int.not_le.mp n) p l e s m args below meth c H locs ls C G R S hl)
theorem x_lcmp_eq {x y : Int} {off : Int} {t : Nat} (hd : decode r.2.1 pc = .ok (.lcmp, 1)) (hd2 : decode r.2.1 (pc + 1) = .ok (.ifCond .eq off, 3)) (ht : ((pc + 1 : Nat) : Int) + off = (t : Int)) (hx0 : i64 x) (hy0 : i64 y) (kt : x = y → X g r cn ck lay M t L st K) (kf : ¬ x = y → X g r cn ck lay M (pc + 4) L st K) : X g r cn ck lay M pc L (vJ y :: vJ x :: st) K := by
  have k2 : X g r cn ck lay M (pc + 1) L (vI (if x < y then -1 else if x = y then 0 else 1) :: st) K := by
    refine x_if_eq hd2 ht (by split <;> (try split) <;> decide) (fun q => kt ?_) (fun q => kf ?_)
    · split at q <;> (try split at q) <;> omega
    · split at q <;> (try split at q) <;> omega
  exact X.lift (fun hx hb w => W.lcmp hx hb hd (by rw [n_cmp hx0 hy0]; exact w)) k2
theorem x_lcmp_ne {x y : Int} {off : Int} {t : Nat} (hd : decode r.2.1 pc = .ok (.lcmp, 1)) (hd2 : decode r.2.1 (pc + 1) = .ok (.ifCond .ne off, 3)) (ht : ((pc + 1 : Nat) : Int) + off = (t : Int)) (hx0 : i64 x) (hy0 : i64 y) (kt : ¬ x = y → X g r cn ck lay M t L st K) (kf : x = y → X g r cn ck lay M (pc + 4) L st K) : X g r cn ck lay M pc L (vJ y :: vJ x :: st) K := by
  have k2 : X g r cn ck lay M (pc + 1) L (vI (if x < y then -1 else if x = y then 0 else 1) :: st) K := by
    refine x_if_ne hd2 ht (by split <;> (try split) <;> decide) (fun q => kt ?_) (fun q => kf ?_)
    · split at q <;> (try split at q) <;> omega
    · split at q <;> (try split at q) <;> omega
  exact X.lift (fun hx hb w => W.lcmp hx hb hd (by rw [n_cmp hx0 hy0]; exact w)) k2
theorem x_lcmp_lt {x y : Int} {off : Int} {t : Nat} (hd : decode r.2.1 pc = .ok (.lcmp, 1)) (hd2 : decode r.2.1 (pc + 1) = .ok (.ifCond .lt off, 3)) (ht : ((pc + 1 : Nat) : Int) + off = (t : Int)) (hx0 : i64 x) (hy0 : i64 y) (kt : x < y → X g r cn ck lay M t L st K) (kf : y ≤ x → X g r cn ck lay M (pc + 4) L st K) : X g r cn ck lay M pc L (vJ y :: vJ x :: st) K := by
  have k2 : X g r cn ck lay M (pc + 1) L (vI (if x < y then -1 else if x = y then 0 else 1) :: st) K := by
    refine x_if_lt hd2 ht (by split <;> (try split) <;> decide) (fun q => kt ?_) (fun q => kf ?_)
    · split at q <;> (try split at q) <;> omega
    · split at q <;> (try split at q) <;> omega
  exact X.lift (fun hx hb w => W.lcmp hx hb hd (by rw [n_cmp hx0 hy0]; exact w)) k2
theorem x_lcmp_le {x y : Int} {off : Int} {t : Nat} (hd : decode r.2.1 pc = .ok (.lcmp, 1)) (hd2 : decode r.2.1 (pc + 1) = .ok (.ifCond .le off, 3)) (ht : ((pc + 1 : Nat) : Int) + off = (t : Int)) (hx0 : i64 x) (hy0 : i64 y) (kt : x ≤ y → X g r cn ck lay M t L st K) (kf : y < x → X g r cn ck lay M (pc + 4) L st K) : X g r cn ck lay M pc L (vJ y :: vJ x :: st) K := by
  have k2 : X g r cn ck lay M (pc + 1) L (vI (if x < y then -1 else if x = y then 0 else 1) :: st) K := by
    refine x_if_le hd2 ht (by split <;> (try split) <;> decide) (fun q => kt ?_) (fun q => kf ?_)
    · split at q <;> (try split at q) <;> omega
    · split at q <;> (try split at q) <;> omega
  exact X.lift (fun hx hb w => W.lcmp hx hb hd (by rw [n_cmp hx0 hy0]; exact w)) k2
theorem x_lcmp_gt {x y : Int} {off : Int} {t : Nat} (hd : decode r.2.1 pc = .ok (.lcmp, 1)) (hd2 : decode r.2.1 (pc + 1) = .ok (.ifCond .gt off, 3)) (ht : ((pc + 1 : Nat) : Int) + off = (t : Int)) (hx0 : i64 x) (hy0 : i64 y) (kt : y < x → X g r cn ck lay M t L st K) (kf : x ≤ y → X g r cn ck lay M (pc + 4) L st K) : X g r cn ck lay M pc L (vJ y :: vJ x :: st) K := by
  have k2 : X g r cn ck lay M (pc + 1) L (vI (if x < y then -1 else if x = y then 0 else 1) :: st) K := by
    refine x_if_gt hd2 ht (by split <;> (try split) <;> decide) (fun q => kt ?_) (fun q => kf ?_)
    · split at q <;> (try split at q) <;> omega
    · split at q <;> (try split at q) <;> omega
  exact X.lift (fun hx hb w => W.lcmp hx hb hd (by rw [n_cmp hx0 hy0]; exact w)) k2
theorem x_lcmp_ge {x y : Int} {off : Int} {t : Nat} (hd : decode r.2.1 pc = .ok (.lcmp, 1)) (hd2 : decode r.2.1 (pc + 1) = .ok (.ifCond .ge off, 3)) (ht : ((pc + 1 : Nat) : Int) + off = (t : Int)) (hx0 : i64 x) (hy0 : i64 y) (kt : y ≤ x → X g r cn ck lay M t L st K) (kf : x < y → X g r cn ck lay M (pc + 4) L st K) : X g r cn ck lay M pc L (vJ y :: vJ x :: st) K := by
  have k2 : X g r cn ck lay M (pc + 1) L (vI (if x < y then -1 else if x = y then 0 else 1) :: st) K := by
    refine x_if_ge hd2 ht (by split <;> (try split) <;> decide) (fun q => kt ?_) (fun q => kf ?_)
    · split at q <;> (try split at q) <;> omega
    · split at q <;> (try split at q) <;> omega
  exact X.lift (fun hx hb w => W.lcmp hx hb hd (by rw [n_cmp hx0 hy0]; exact w)) k2
theorem x_iload {i : Nat} {x : Int} (hd : decode r.2.1 pc = .ok (.iload i, 2)) (hl0 : lk L i = some (vI x)) (k : X g r cn ck lay M (pc + 2) L ((vI x) :: st) K) : X g r cn ck lay M pc L st K := by
  intro p l e s m args below meth c H locs ls C G R S hl
  exact lv_iload C.1 C.2.1 hd (lk_at hl hl0) (k p l e s m args below meth c H locs ls C G R S hl)
theorem x_iload_n {q : Fin 4} {i : Nat} {x : Int} (hd : decode r.2.1 pc = .ok (.iload_n q, 1)) (hi : (q : Nat) = i) (hl0 : lk L i = some (vI x)) (k : X g r cn ck lay M (pc + 1) L ((vI x) :: st) K) : X g r cn ck lay M pc L st K := by
  intro p l e s m args below meth c H locs ls C G R S hl
  exact lv_iload_n C.1 C.2.1 hd hi (lk_at hl hl0) (k p l e s m args below meth c H locs ls C G R S hl)
theorem x_lload {i : Nat} {x : Int} (hd : decode r.2.1 pc = .ok (.lload i, 2)) (hl0 : lk L i = some (vJ x)) (k : X g r cn ck lay M (pc + 2) L ((vJ x) :: st) K) : X g r cn ck lay M pc L st K := by
  intro p l e s m args below meth c H locs ls C G R S hl
  exact lv_lload C.1 C.2.1 hd (lk_at hl hl0) (k p l e s m args below meth c H locs ls C G R S hl)
theorem x_lload_n {q : Fin 4} {i : Nat} {x : Int} (hd : decode r.2.1 pc = .ok (.lload_n q, 1)) (hi : (q : Nat) = i) (hl0 : lk L i = some (vJ x)) (k : X g r cn ck lay M (pc + 1) L ((vJ x) :: st) K) : X g r cn ck lay M pc L st K := by
  intro p l e s m args below meth c H locs ls C G R S hl
  exact lv_lload_n C.1 C.2.1 hd hi (lk_at hl hl0) (k p l e s m args below meth c H locs ls C G R S hl)
theorem x_aload {i : Nat} {x : Nat} (hd : decode r.2.1 pc = .ok (.aload i, 2)) (hl0 : lk L i = some (vR x)) (k : X g r cn ck lay M (pc + 2) L ((vR x) :: st) K) : X g r cn ck lay M pc L st K := by
  intro p l e s m args below meth c H locs ls C G R S hl
  exact lv_aload C.1 C.2.1 hd (lk_at hl hl0) (k p l e s m args below meth c H locs ls C G R S hl)
theorem x_aload_n {q : Fin 4} {i : Nat} {x : Nat} (hd : decode r.2.1 pc = .ok (.aload_n q, 1)) (hi : (q : Nat) = i) (hl0 : lk L i = some (vR x)) (k : X g r cn ck lay M (pc + 1) L ((vR x) :: st) K) : X g r cn ck lay M pc L st K := by
  intro p l e s m args below meth c H locs ls C G R S hl
  exact lv_aload_n C.1 C.2.1 hd hi (lk_at hl hl0) (k p l e s m args below meth c H locs ls C G R S hl)
theorem x_dload {i : Nat} {x : UInt64} (hd : decode r.2.1 pc = .ok (.dload i, 2)) (hl0 : lk L i = some (vD x)) (k : X g r cn ck lay M (pc + 2) L ((vD x) :: st) K) : X g r cn ck lay M pc L st K := by
  intro p l e s m args below meth c H locs ls C G R S hl
  exact lv_dload C.1 C.2.1 hd (lk_at hl hl0) (k p l e s m args below meth c H locs ls C G R S hl)
theorem x_aload_nN {q : Fin 4} {i : Nat} (hd : decode r.2.1 pc = .ok (.aload_n q, 1)) (hi : (q : Nat) = i) (hl0 : lk L i = some vN) (k : X g r cn ck lay M (pc + 1) L (vN :: st) K) : X g r cn ck lay M pc L st K := by
  intro p l e s m args below meth c H locs ls C G R S hl
  exact lv_aload_nN C.1 C.2.1 hd hi (lk_at hl hl0) (k p l e s m args below meth c H locs ls C G R S hl)
theorem x_istore {i : Nat} {x : Int} (hd : decode r.2.1 pc = .ok (.istore i, 2)) (hi : True) (hn : i < r.2.2.1) (hL : sto1 L i (vI x) = L') (k : X g r cn ck lay M (pc + 2) L' st K) : X g r cn ck lay M pc L ((vI x) :: st) K := by
  subst hL
  intro p l e s m args below meth c H locs ls C G R S hl
  exact lv_istore C.1 C.2.1 hd hl hn (sto1_map L i (vI x)) (fun ls' hl' => k p l e s m args below meth c H locs ls' C G R S hl')
theorem x_istore_n {q : Fin 4} {i : Nat} {x : Int} (hd : decode r.2.1 pc = .ok (.istore_n q, 1)) (hi : (q : Nat) = i) (hn : i < r.2.2.1) (hL : sto1 L i (vI x) = L') (k : X g r cn ck lay M (pc + 1) L' st K) : X g r cn ck lay M pc L ((vI x) :: st) K := by
  subst hL
  intro p l e s m args below meth c H locs ls C G R S hl
  exact lv_istore_n C.1 C.2.1 hd hi hl hn (sto1_map L i (vI x)) (fun ls' hl' => k p l e s m args below meth c H locs ls' C G R S hl')
theorem x_lstore {i : Nat} {x : Int} (hd : decode r.2.1 pc = .ok (.lstore i, 2)) (hi : True) (hn : i + 1 < r.2.2.1) (hL : sto2 L i (vJ x) = L') (k : X g r cn ck lay M (pc + 2) L' st K) : X g r cn ck lay M pc L ((vJ x) :: st) K := by
  subst hL
  intro p l e s m args below meth c H locs ls C G R S hl
  exact lv_lstore C.1 C.2.1 hd hl hn (sto2_map L i (vJ x)) (fun ls' hl' => k p l e s m args below meth c H locs ls' C G R S hl')
theorem x_lstore_n {q : Fin 4} {i : Nat} {x : Int} (hd : decode r.2.1 pc = .ok (.lstore_n q, 1)) (hi : (q : Nat) = i) (hn : i + 1 < r.2.2.1) (hL : sto2 L i (vJ x) = L') (k : X g r cn ck lay M (pc + 1) L' st K) : X g r cn ck lay M pc L ((vJ x) :: st) K := by
  subst hL
  intro p l e s m args below meth c H locs ls C G R S hl
  exact lv_lstore_n C.1 C.2.1 hd hi hl hn (sto2_map L i (vJ x)) (fun ls' hl' => k p l e s m args below meth c H locs ls' C G R S hl')
theorem x_astore {i : Nat} {x : Nat} (hd : decode r.2.1 pc = .ok (.astore i, 2)) (hi : True) (hn : i < r.2.2.1) (hL : sto1 L i (vR x) = L') (k : X g r cn ck lay M (pc + 2) L' st K) : X g r cn ck lay M pc L ((vR x) :: st) K := by
  subst hL
  intro p l e s m args below meth c H locs ls C G R S hl
  exact lv_astore C.1 C.2.1 hd hl hn (sto1_map L i (vR x)) (fun ls' hl' => k p l e s m args below meth c H locs ls' C G R S hl')
theorem x_astore_n {q : Fin 4} {i : Nat} {x : Nat} (hd : decode r.2.1 pc = .ok (.astore_n q, 1)) (hi : (q : Nat) = i) (hn : i < r.2.2.1) (hL : sto1 L i (vR x) = L') (k : X g r cn ck lay M (pc + 1) L' st K) : X g r cn ck lay M pc L ((vR x) :: st) K := by
  subst hL
  intro p l e s m args below meth c H locs ls C G R S hl
  exact lv_astore_n C.1 C.2.1 hd hi hl hn (sto1_map L i (vR x)) (fun ls' hl' => k p l e s m args below meth c H locs ls' C G R S hl')
theorem x_dstore {i : Nat} {x : UInt64} (hd : decode r.2.1 pc = .ok (.dstore i, 2)) (hi : True) (hn : i + 1 < r.2.2.1) (hL : sto2 L i (vD x) = L') (k : X g r cn ck lay M (pc + 2) L' st K) : X g r cn ck lay M pc L ((vD x) :: st) K := by
  subst hL
  intro p l e s m args below meth c H locs ls C G R S hl
  exact lv_dstore C.1 C.2.1 hd hl hn (sto2_map L i (vD x)) (fun ls' hl' => k p l e s m args below meth c H locs ls' C G R S hl')
theorem x_iinc {i : Nat} {x n : Int} (hd : decode r.2.1 pc = .ok (.iinc i n, 3)) (hl0 : lk L i = some (vI x)) (hn : i < r.2.2.1) (hL : sto1 L i (vI (x + n)) = L') (k : X g r cn ck lay M (pc + 3) L' st K) : X g r cn ck lay M pc L st K := by
  subst hL
  intro p l e s m args below meth c H locs ls C G R S hl
  unfold lk at hl0
  obtain ⟨q, h1, h2⟩ := Option.map_eq_some_iff.mp hl0
  have h3 := List.find?_some h1
  obtain ⟨z, hz⟩ := List.getElem?_of_mem (List.mem_of_find?_eq_some h1)
  have h6 : q.1 = i := by simpa using h3
  have hk : (L.map (fun q => (q.1, cv q.2)))[z]? = some (i, .int (Int32.ofInt x)) := by
    rw [List.getElem?_map, hz, Option.map_some, h6, h2]
    rfl
  exact lv_iinc C.1 C.2.1 hd hl hk (v := Int32.ofInt (x + n)) (by rw [Int32.ofInt_add]) hn (sto1_map L i (vI (x + n))) (fun ls' hl' => k p l e s m args below meth c H locs ls' C G R S hl')
end XR
