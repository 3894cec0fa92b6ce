/-! Commands played; semicolons counted. -/
theorem loop_run {cm cm2 : Nat → Int} {T0 : CT} {n : Nat} (h : ∀ i, i < n → cmdR (runC cm T0 i) cm2 i = 0 ∧ cmdT (runC cm T0 i) cm2 i = runC cm T0 (i + 1)) : ∀ (d j : Nat) (A : Nat → Int) (u : Int), j + d = n → (loopP cm2 d j (runC cm T0 j) A u).1 = (n : Nat) ∧ (loopP cm2 d j (runC cm T0 j) A u).2.1 = runC cm T0 n
  | 0, j, A, u, hj => by
    have e : j = n := by omega
    subst e
    exact ⟨rfl, rfl⟩
  | d + 1, j, A, u, hj => by
    obtain ⟨h1, h2⟩ := h j (by omega)
    have e : loopP cm2 (d + 1) j (runC cm T0 j) A u = loopP cm2 d (j + 1) (cmdT (runC cm T0 j) cm2 j) (accF A (cmdR (runC cm T0 j) cm2 j)) (undF u (cmdR (runC cm T0 j) cm2 j)) := if_neg (fun q => q h1)
    rw [e, h2]
    exact loop_run h d (j + 1) _ _ (by omega)
def cN : List Int → Int
  | [] => 0
  | x :: l => (if x = 59 then 1 else 0) + cN l
theorem cN_app : ∀ l l2 : List Int, cN (l ++ l2) = cN l + cN l2
  | [], l2 => by
    show cN l2 = 0 + cN l2
    omega
  | x :: l, l2 => by
    show (if x = 59 then (1 : Int) else 0) + cN (l ++ l2) = (if x = 59 then 1 else 0) + cN l + cN l2
    rw [cN_app l l2]
    omega
theorem c59_cN (l : List Int) : ∀ n : Nat, n ≤ l.length → c59 l n = cN (l.take n)
  | 0, _ => rfl
  | n + 1, h => by
    simp only [c59]
    rw [c59_cN l n (by omega), ← tk_app l (by omega), cN_app]
    show _ = cN (l.take n) + ((if l.getD n 0 = 59 then 1 else 0) + 0)
    omega
theorem cN_num {x : Int} (hx : -99 ≤ x ∧ x ≤ 99) : cN (numF x) = 0 := by
  unfold numF
  rw [cN_app, cN_app]
  have h1 : cN (if x < 0 then [45] else []) = 0 := by split <;> rfl
  have h2 : cN (if 10 ≤ x.natAbs then [48 + ((x.natAbs / 10 : Nat) : Int)] else []) = 0 := by
    split
    · show (if 48 + ((x.natAbs / 10 : Nat) : Int) = 59 then (1 : Int) else 0) + 0 = 0
      rw [if_neg (by omega)]
      rfl
    · rfl
  have h3 : cN [48 + ((x.natAbs % 10 : Nat) : Int)] = 0 := by
    show (if 48 + ((x.natAbs % 10 : Nat) : Int) = 59 then (1 : Int) else 0) + 0 = 0
    rw [if_neg (by omega)]
    rfl
  rw [h1, h2, h3]
  rfl
theorem cN_c {y : Int} {l : List Int} (h : y ≠ 59) : cN (y :: l) = cN l := by
  show (if y = 59 then (1 : Int) else 0) + cN l = cN l
  rw [if_neg h]
  omega
theorem cN_ctx {cm : Nat → Int} {j : Nat} {P : Int} (hP : P ≤ 5) (hc : CmdOK P cm j) : cN (ctx cm j) = 1 := by
  have s7 : cN (stB 7) = 0 := by decide
  have s12 : cN (stB 12) = 0 := by decide
  have s13 : cN (stB 13) = 0 := by decide
  have e59 : cN [59] = 1 := by decide
  unfold ctx
  rcases hc with ⟨h0, h1, h2⟩ | ⟨h0, h1, h2, h3, h4⟩ | h0
  · rw [if_pos h0]
    unfold termF
    rw [if_neg h1.1, cN_app, List.cons_append, cN_c (by decide), cN_app, List.cons_append, cN_c (by decide), cN_app, s7, cN_num (by omega), cN_num (by omega), e59]
    rfl
  · rw [if_neg (by omega), if_pos h0]
    unfold clmT
    simp only [mkL]
    rw [cN_app, List.cons_append, cN_c (by decide), cN_app, List.cons_append, cN_c (by decide), cN_app, List.cons_append, cN_c (by decide), cN_app, List.cons_append, cN_c (by decide), cN_app, cN_num (by omega), cN_num (by omega), cN_num (by omega), cN_num (by omega), e59]
    split
    · rw [s12]
      rfl
    · rw [s13]
      rfl
  · rw [if_neg (by omega), if_neg (by omega)]
    decide
theorem cN_ctxs {cm : Nat → Int} {P : Int} (hP : P ≤ 5) : ∀ n : Nat, (∀ j, j < n → CmdOK P cm j) → cN (ctxs cm n) = (n : Nat)
  | 0, _ => rfl
  | n + 1, h => by
    simp only [ctxs]
    rw [cN_app, cN_ctxs hP n (fun j hj => h j (by omega)), cN_ctx hP (h n (by omega))]
    omega
