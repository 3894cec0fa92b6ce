/-! What is written of a contest that was played from its start. -/
theorem runC_wf {cm : Nat → Int} {T0 : CT} (hW : WfT T0) (hO : WfO T0) {n : Nat} (h : ∀ j, j < n → CmdOK (tS T0 0) cm j) : ∀ j : Nat, j ≤ n → WfT (runC cm T0 j) ∧ WfO (runC cm T0 j) ∧ tS (runC cm T0 j) = tS T0
  | 0, _ => ⟨hW, hO, rfl⟩
  | j + 1, hj => by
    obtain ⟨h1, h2, h3⟩ := runC_wf hW hO h j (by omega)
    obtain ⟨g1, g2, g3⟩ := cmd_wf h1 h2 (by rw [h3]; exact h j (by omega))
    exact ⟨g1, g2, g3.trans h3⟩
theorem runC_text {cm : Nat → Int} {T0 : CT} (hW : WfT T0) (hO : WfO T0) (h0 : wT T0 = []) {n : Nat} (h : ∀ j, j < n → CmdOK (tS T0 0) cm j ∧ cmdR (runC cm T0 j) cm j = 0) : ∀ j : Nat, j ≤ n → wT (runC cm T0 j) = ctxs cm j
  | 0, _ => h0
  | j + 1, hj => by
    simp only [runC, ctxs]
    rw [wT_cmd (runC_wf hW hO (fun j hj => (h j hj).1) j (by omega)).1 (h j (by omega)).1 (h j (by omega)).2, runC_text hW hO h0 h j (by omega)]
theorem ctx_len {cm : Nat → Int} {j : Nat} {P : Int} (hP : P ≤ 5) (hc : CmdOK P cm j) : (ctx cm j).length ≤ 26 := by
  have l7 : (stB 7).length = 3 := by decide
  have l12 : (stB 12).length = 11 := by decide
  have l13 : (stB 13).length = 13 := by decide
  have l14 : (stB 14).length = 5 := by decide
  unfold ctx
  rcases hc with ⟨h0, h1, h2⟩ | ⟨h0, h1, h2, h3, h4⟩ | h0
  · rw [if_pos h0]
    unfold termF
    rw [if_neg h1.1]
    have a1 := numF_l3 (cm (6 * j + 1))
    have a2 := numF_l3 (cm (6 * j + 2))
    simp only [List.length_append, List.length_cons, List.length_nil]
    omega
  · rw [if_neg (by omega), if_pos h0]
    unfold clmT
    have a1 := numF_l3 (cm (6 * j + 1))
    have a2 := numF_l3 (cm (6 * j + 2))
    have a3 : (numF (cm (6 * j + 3))).length = 1 := by
      rw [numF_len _ (by omega), if_neg (by omega), if_neg (by omega)]
    have a4 : (numF (cm (6 * j + 5))).length = 1 := by
      rw [numF_len _ (by omega), if_neg (by omega), if_neg (by omega)]
    simp only [mkL]
    split <;> simp only [List.length_append, List.length_cons, List.length_nil] <;> omega
  · rw [if_neg (by omega), if_neg (by omega)]
    omega
theorem ctxs_len {cm : Nat → Int} {P : Int} (hP : P ≤ 5) : ∀ n : Nat, (∀ j, j < n → CmdOK P cm j) → (ctxs cm n).length ≤ 26 * n
  | 0, _ => by simp [ctxs]
  | n + 1, h => by
    have h1 := ctxs_len hP n (fun j hj => h j (by omega))
    have h2 := ctx_len hP (h n (by omega))
    simp only [ctxs, List.length_append]
    omega
def okB (l : List Int) : Prop := ∀ x, x ∈ l → 0 ≤ x ∧ x < 128
theorem okB.app {l l2 : List Int} (h : okB l) (h2 : okB l2) : okB (l ++ l2) := fun x hx => (List.mem_append.mp hx).elim (h x) (h2 x)
theorem okB.cons {l : List Int} {y : Int} (h : 0 ≤ y ∧ y < 128) (h2 : okB l) : okB (y :: l) := fun x hx => by
  rcases List.mem_cons.mp hx with e | e
  · rw [e]
    exact h
  · exact h2 x e
theorem okB.nil : okB [] := fun x hx => absurd hx List.not_mem_nil
theorem okB.st (q : Nat) (hq : q < 24) : okB (stB q) := by
  have h : ∀ q, q < 24 → (stB q).all (fun x => decide (0 ≤ x ∧ x < 128)) = true := by decide
  exact fun x hx => of_decide_eq_true (List.all_eq_true.mp (h q hq) x hx)
theorem okB.num {x : Int} (h : -99 ≤ x ∧ x ≤ 99) : okB (numF x) := by
  unfold numF
  refine okB.app ?_ (okB.app ?_ (okB.cons (by omega) okB.nil))
  · split
    · exact okB.cons (by decide) okB.nil
    · exact okB.nil
  · split
    · exact okB.cons (by omega) okB.nil
    · exact okB.nil
theorem okB.at {l : List Int} (h : okB l) (i : Nat) (hi : i < l.length) : 0 ≤ l.getD i 0 ∧ l.getD i 0 < 128 := by
  rw [List.getD_eq_getElem?_getD, List.getElem?_eq_getElem hi]
  exact h _ (List.getElem_mem hi)
theorem ctx_ok {cm : Nat → Int} {j : Nat} {P : Int} (hP : P ≤ 5) (hc : CmdOK P cm j) : okB (ctx cm j) := by
  unfold ctx
  rcases hc with ⟨h0, h1, h2⟩ | ⟨h0, h1, h2, h3, h4⟩ | h0
  · rw [if_pos h0]
    unfold termF
    rw [if_neg h1.1]
    exact (okB.st 7 (by decide)).app (okB.cons (by decide) ((okB.num (by omega)).app (okB.cons (by decide) ((okB.num (by omega)).app (okB.cons (by decide) okB.nil)))))
  · rw [if_neg (by omega), if_pos h0]
    unfold clmT
    simp only [mkL]
    refine okB.app ?_ (okB.cons (by decide) ((okB.num (by omega)).app (okB.cons (by decide) ((okB.num (by omega)).app (okB.cons (by decide) ((okB.num (by omega)).app (okB.cons (by decide) ((okB.num (by omega)).app (okB.cons (by decide) okB.nil)))))))))
    split
    · exact okB.st 12 (by decide)
    · exact okB.st 13 (by decide)
  · rw [if_neg (by omega), if_neg (by omega)]
    exact okB.st 14 (by decide)
theorem ctxs_ok {cm : Nat → Int} {P : Int} (hP : P ≤ 5) : ∀ n : Nat, (∀ j, j < n → CmdOK P cm j) → okB (ctxs cm n)
  | 0, _ => okB.nil
  | n + 1, h => (ctxs_ok hP n (fun j hj => h j (by omega))).app (ctx_ok hP (h n (by omega)))
/-- the text of a history -/
theorem hist_text {S P : Nat → Int} {T : CT} (hW : WfT (mkT S P)) (h : Hist (mkT S P) T 22) : ∃ cm n, n ≤ 22 ∧ (∀ j, j < n → CmdOK (S 0) cm j ∧ cmdR (runC cm (mkT S P) j) cm j = 0) ∧ T = runC cm (mkT S P) n ∧ writeT T = ctxs cm n ∧ (writeT T).length < 600 ∧ ∀ i, i < (writeT T).length → 0 ≤ (writeT T).getD i 0 ∧ (writeT T).getD i 0 < 128 := by
  obtain ⟨cm, n, h1, h2, h3⟩ := h
  have hS := hW.1
  unfold WfS at hS
  have hS0 : tS (mkT S P) 0 ≤ 5 := by omega
  have hO : WfO (mkT S P) := fun _ => by
    show ((0 : Nat) : Int) < S 2
    have : 1 ≤ S 2 := hS.2.2.1.1
    omega
  have e := runC_text hW hO (by rfl) h2 n (Nat.le_refl _)
  have l := ctxs_len hS0 n (fun j hj => (h2 j hj).1)
  have ew : writeT T = ctxs cm n := by
    show apps [] (wT T) = _
    rw [h3, e]
    exact apps_all _ [] (by simp only [List.length_nil]; omega)
  refine ⟨cm, n, h1, h2, h3, ew, by rw [ew]; omega, fun i hi => ?_⟩
  rw [ew] at hi ⊢
  exact (ctxs_ok hS0 n (fun j hj => (h2 j hj).1)).at i hi
