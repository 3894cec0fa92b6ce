/-! Where the cells lie: a contest, sign rows, a reader, a page, the whole object; the reference. -/
def CtL (lay : Lay) (c : Nat) : Prop := lay.1 c = some (0, 0, fun j => some (c + 1 + j)) ∧ lay.1 (c + 1) = some (1, 7, fun _ => none) ∧ lay.1 (c + 2) = some (1, 5, fun _ => none) ∧ lay.1 (c + 3) = some (1, 60, fun _ => none) ∧ lay.1 (c + 4) = some (1, 60, fun _ => none) ∧ lay.1 (c + 5) = some (1, 48, fun _ => none) ∧ lay.1 (c + 6) = some (1, 2, fun _ => none)
def SrL (lay : Lay) (c : Nat) : Prop := lay.1 c = some (0, 3, fun j => match j with | 0 => some (c + 1) | 1 => some (c + 7) | _ => some (c + 8)) ∧ lay.1 (c + 1) = some (6, 5, fun j => some (c + 2 + j)) ∧ lay.1 (c + 2) = some (2, 5, fun _ => none) ∧ lay.1 (c + 3) = some (2, 5, fun _ => none) ∧ lay.1 (c + 4) = some (2, 5, fun _ => none) ∧ lay.1 (c + 5) = some (2, 5, fun _ => none) ∧ lay.1 (c + 6) = some (2, 5, fun _ => none) ∧ lay.1 (c + 7) = some (1, 5, fun _ => none) ∧ lay.1 (c + 8) = some (2, 5, fun _ => none)
def RdL (lay : Lay) (c : Nat) : Prop := lay.1 c = some (0, 2, fun j => some (c + 1 + j)) ∧ lay.1 (c + 1) = some (3, 600, fun _ => none) ∧ lay.1 (c + 2) = some (1, 240, fun _ => none)
def PgL (lay : Lay) (c : Nat) : Prop := lay.1 c = some (0, 1, fun j => some (c + 1 + j)) ∧ lay.1 (c + 1) = some (3, 1024, fun _ => none)
theorem x_aaldR {g : GG} {r : MR} {cn ck : Nat} {lay : Lay} {M : Mem} {pc : Nat} {L : List (Nat × AV)} {st : List AV} {K : KK} {a n t : Nat} {rf : Nat → Option Nat} {i : Int} (b : Nat) (hd : decode r.2.1 pc = .ok (.aaload, 1)) (hk : lay.1 a = some (t + 6, n, rf)) (h0 : 0 ≤ i) (h1 : i < n) (hb : rf i.toNat = some b) (k : X g r cn ck lay M (pc + 1) L (vR b :: st) K) (ht4 : t < 4 := by decide) : X g r cn ck lay M pc L (vI i :: vR a :: st) K :=
  x_aald hd hk h0 h1 (by rw [hb]; exact k) ht4
theorem SrL.row {lay : Lay} {c k : Nat} (h : SrL lay c) (hk : k < 5) : lay.1 (c + 2 + k) = some (2, 5, fun _ => none) := by
  obtain ⟨-, -, h1, h2, h3, h4, h5, -⟩ := h
  have e : k = 0 ∨ k = 1 ∨ k = 2 ∨ k = 3 ∨ k = 4 := by omega
  rcases e with rfl | rfl | rfl | rfl | rfl
  · exact h1
  · exact h2
  · exact h3
  · exact h4
  · exact h5
