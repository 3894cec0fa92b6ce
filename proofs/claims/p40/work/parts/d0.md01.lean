/-! Texts read piece by piece. -/
/-- from e to the end n the text holds l -/
def Sfx (tx : Nat → Int) (n e : Nat) (l : List Int) : Prop := e + l.length = n ∧ ∀ k, k < l.length → tx (e + k) = l.getD k 0
def kK (x : Int) : Int := if 97 ≤ x ∧ x ≤ 122 then 1 else if 48 ≤ x ∧ x ≤ 57 then 2 else if x = 10 ∨ x = 32 then 6 else if x = 45 then 3 else if x = 59 then 4 else 5
def kH : List Int → Int
  | [] => 0
  | x :: _ => kK x
theorem Sfx.tail {tx : Nat → Int} {n e : Nat} {x : Int} {l : List Int} (h : Sfx tx n e (x :: l)) : tx e = x ∧ Sfx tx n (e + 1) l := by
  obtain ⟨h1, h2⟩ := h
  simp only [List.length_cons] at h1 h2
  refine ⟨?_, by omega, fun k hk => ?_⟩
  · have := h2 0 (by omega)
    simpa using this
  · have := h2 (k + 1) (by omega)
    rw [show e + 1 + k = e + (k + 1) by omega, this]
    rfl
theorem Sfx.kind {tx : Nat → Int} {n e : Nat} {l : List Int} (h : Sfx tx n e l) : kindF tx n e = kH l := by
  unfold kindF
  cases l with
  | nil =>
    have h1 : e + 0 = n := h.1
    rw [if_pos (by omega)]
    rfl
  | cons x l =>
    have h1 := h.1
    simp only [List.length_cons] at h1
    rw [if_neg (by omega), h.tail.1]
    rfl
theorem Sfx.app {tx : Nat → Int} {n e : Nat} : ∀ {w r : List Int}, Sfx tx n e (w ++ r) → Sfx tx n (e + w.length) r
  | [], r, h => h
  | x :: w, r, h => by
    have := Sfx.app (w := w) (r := r) (e := e + 1) h.tail.2
    rw [List.length_cons, show e + (w.length + 1) = e + 1 + w.length by omega]
    exact this
/-- a run of signs of one kind -/
def numL (k : Int) : Int → List Int → Int
  | nb, [] => nb
  | nb, x :: w => numL k (numT k nb x) w
theorem Sfx.run {tx : Nat → Int} {n : Nat} {k : Int} {r : List Int} (hr : kH r ≠ k) : ∀ (w : List Int) (e : Nat) (nb : Int) (d : Nat), Sfx tx n e (w ++ r) → (∀ x, x ∈ w → kK x = k) → w.length ≤ d → runF tx n k d e nb = (e + w.length, numL k nb w)
  | [], e, nb, d, h, _, _ => by
    cases d with
    | zero => rfl
    | succ d =>
      simp only [runF]
      rw [Sfx.kind (l := r) h, if_neg hr]
      rfl
  | x :: w, e, nb, d, h, hw, hd => by
    cases d with
    | zero => simp at hd
    | succ d =>
      obtain ⟨t1, t2⟩ := Sfx.tail (l := w ++ r) h
      have hk : kindF tx n e = k := by
        rw [Sfx.kind (l := x :: (w ++ r)) h]
        exact hw x (List.mem_cons_self ..)
      simp only [runF]
      rw [if_pos hk, t1, Sfx.run hr w (e + 1) _ d t2 (fun y hy => hw y (List.mem_cons_of_mem _ hy)) (by simp only [List.length_cons] at hd; omega)]
      simp only [List.length_cons, numL]
      rw [show e + 1 + w.length = e + (w.length + 1) by omega]
/-- blanks left out -/
theorem Sfx.skip {tx : Nat → Int} {n e : Nat} {l : List Int} (h : Sfx tx n e l) (hk : kH l ≠ 6) (d : Nat) : skipF tx n d e = e := by
  cases d with
  | zero => rfl
  | succ d =>
    simp only [skipF]
    rw [h.kind, if_neg hk]
theorem Sfx.skip1 {tx : Nat → Int} {n e : Nat} {l : List Int} (h : Sfx tx n e (32 :: l)) (hk : kH l ≠ 6) : skipF tx n (n - e) e = e + 1 := by
  have h1 := h.1
  simp only [List.length_cons] at h1
  obtain ⟨d, hd⟩ : ∃ d, n - e = d + 1 := ⟨n - e - 1, by omega⟩
  rw [hd]
  simp only [skipF]
  rw [h.kind, if_pos (show kH (32 :: l) = 6 from rfl), h.tail.2.skip hk]
/-- a token: a word or a number -/
theorem Sfx.tokW {tx : Nat → Int} {n e s : Nat} {k x : Int} {w r : List Int} (hs : skipF tx n (n - e) e = s) (h : Sfx tx n s ((x :: w) ++ r)) (hk : k = 1 ∨ k = 2) (hw : ∀ y, y ∈ x :: w → kK y = k) (hr : kH r ≠ k) : tokAt tx n e = (k, s, s + (x :: w).length, numL k 0 (x :: w)) := by
  have h1 := h.1
  have e1 : kindF tx n s = k := by
    rw [h.kind]
    exact hw x (List.mem_cons_self ..)
  unfold tokAt
  simp only [hs, e1]
  rw [if_pos hk, Sfx.run hr (x :: w) s 0 (n - s) h hw (by simp only [List.length_append] at h1; omega)]
theorem Sfx.tokS {tx : Nat → Int} {n e s : Nat} {x : Int} {r : List Int} (hs : skipF tx n (n - e) e = s) (h : Sfx tx n s (x :: r)) (hk : kK x = 3 ∨ kK x = 4) : tokAt tx n e = (kK x, s, s + 1, 0) := by
  have e1 : kindF tx n s = kK x := h.kind
  unfold tokAt
  simp only [hs, e1]
  rw [if_neg (by omega), if_neg (by omega)]
theorem Sfx.tok0 {tx : Nat → Int} {n e : Nat} (h : Sfx tx n e []) : tokAt tx n e = (0, e, e, 0) := by
  have h1 : e + 0 = n := h.1
  have e1 : kindF tx n e = 0 := h.kind
  unfold tokAt
  rw [show n - e = 0 by omega]
  simp only [skipF, e1]
  rw [if_neg (by decide)]
  simp
