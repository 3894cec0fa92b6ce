/-! Tokens of a text that is told piece by piece. -/
/-- the token read is the first of l, a text that goes to the end -/
def Nx (tx : Nat → Int) (n : Nat) (v : Nat → Int) (l : List Int) : Prop := ∃ e, Sfx tx n e l ∧ v 6 = (tokAt tx n e).1 ∧ v 7 = ((tokAt tx n e).2.1 : Nat) ∧ v 8 = ((tokAt tx n e).2.2.1 : Nat) ∧ v 9 = (tokAt tx n e).2.2.2
/-- behind the token read stands l -/
def Bh (tx : Nat → Int) (n : Nat) (v : Nat → Int) (l : List Int) : Prop := ∃ e : Nat, Sfx tx n e l ∧ v 8 = e
theorem Nx.ne {tx v w : Nat → Int} {n : Nat} {l : List Int} (h : Nx tx n v l) (e : ∀ j, 6 ≤ j → j ≤ 9 → w j = v j) : Nx tx n w l := by
  obtain ⟨e0, h1, h2⟩ := h
  refine ⟨e0, h1, ?_⟩
  rw [e 6 (by decide) (by decide), e 7 (by decide) (by decide), e 8 (by decide) (by decide), e 9 (by decide) (by decide)]
  exact h2
theorem Bh.ne {tx v w : Nat → Int} {n : Nat} {l : List Int} (h : Bh tx n v l) (e : w 8 = v 8) : Bh tx n w l := by
  obtain ⟨e0, h1, h2⟩ := h
  exact ⟨e0, h1, e.trans h2⟩
theorem Bh.tok {tx v : Nat → Int} {n : Nat} {l : List Int} (h : Bh tx n v l) : Nx tx n (tokF tx n v) l ∧ ∀ j, j ≠ 6 → j ≠ 7 → j ≠ 8 → j ≠ 9 → tokF tx n v j = v j := by
  obtain ⟨e, h1, h2⟩ := h
  obtain ⟨⟨a, b, c, d⟩, f⟩ := tokF_at (tx := tx) (n := n) (v := v) (e := e) (k := (tokAt tx n e).1) (s := (tokAt tx n e).2.1) (e2 := (tokAt tx n e).2.2.1) (nb := (tokAt tx n e).2.2.2) h2 rfl
  exact ⟨⟨e, h1, a, b, c, d⟩, f⟩
theorem Nx.blank {tx v : Nat → Int} {n : Nat} {l : List Int} (h : Nx tx n v (32 :: l)) (hk : kH l ≠ 6) : Nx tx n v l := by
  obtain ⟨e, h1, h2⟩ := h
  have s1 := h1.skip1 hk
  have s2 := h1.tail.2.skip hk (n - (e + 1))
  have e1 : tokAt tx n e = tokAt tx n (e + 1) := by
    unfold tokAt
    simp only [s1, s2]
  rw [e1] at h2
  exact ⟨e + 1, h1.tail.2, h2⟩
theorem Nx.num {tx v : Nat → Int} {n : Nat} {x : Int} {r : List Int} (h : Nx tx n v (numF x ++ r)) (hx : 0 ≤ x ∧ x ≤ 99) (hr : kH r ≠ 2) : v 6 = 2 ∧ v 9 = x ∧ Bh tx n v r := by
  obtain ⟨e, h1, h2⟩ := h
  have hk : kH (numF x ++ r) ≠ 6 := by
    rw [kH_num (by omega), if_neg (by omega)]
    decide
  have t := Sfx.tokN (h1.skip hk (n - e)) h1 hx hr
  rw [t] at h2
  exact ⟨h2.1, h2.2.2.2, _, h1.app, h2.2.2.1⟩
theorem Nx.min {tx v : Nat → Int} {n : Nat} {x : Int} {r : List Int} (h : Nx tx n v (numF x ++ r)) (hx : -99 ≤ x ∧ x < 0) : v 6 = 3 ∧ Bh tx n v (numF (-x) ++ r) := by
  obtain ⟨e, h1, h2⟩ := h
  rw [numF_neg hx.2, List.cons_append] at h1
  have hk : kK 45 ≠ 6 := by decide
  have t := Sfx.tokS (h1.skip hk (n - e)) h1 (Or.inl rfl)
  rw [t] at h2
  exact ⟨h2.1, _, h1.tail.2, h2.2.2.1⟩
theorem Nx.semi {tx v : Nat → Int} {n : Nat} {r : List Int} (h : Nx tx n v (59 :: r)) : v 6 = 4 ∧ Bh tx n v r := by
  obtain ⟨e, h1, h2⟩ := h
  have hk : kK 59 ≠ 6 := by decide
  have t := Sfx.tokS (h1.skip hk (n - e)) h1 (Or.inr rfl)
  rw [t] at h2
  exact ⟨h2.1, _, h1.tail.2, h2.2.2.1⟩
theorem Nx.fin {tx v : Nat → Int} {n : Nat} (h : Nx tx n v []) : v 6 = 0 := by
  obtain ⟨e, h1, h2⟩ := h
  rw [h1.tok0] at h2
  exact h2.1
/-- the token read is the word w -/
def WdI (tx v : Nat → Int) (w : List Int) : Prop := v 6 = 1 ∧ v 8 - v 7 = (w.length : Nat) ∧ ∀ i, i < w.length → tx ((v 7).toNat + i) = w.getD i 0
theorem getD_app {w r : List Int} {i : Nat} (hi : i < w.length) : (w ++ r).getD i 0 = w.getD i 0 := by
  rw [List.getD_eq_getElem?_getD, List.getElem?_append_left hi, ← List.getD_eq_getElem?_getD]
theorem Nx.word {tx v : Nat → Int} {n : Nat} {x : Int} {w r : List Int} (h : Nx tx n v ((x :: w) ++ r)) (hw : ∀ y, y ∈ x :: w → kK y = 1) (hr : kH r ≠ 1) : WdI tx v (x :: w) ∧ Bh tx n v r := by
  obtain ⟨e, h1, h2⟩ := h
  have hk : kH ((x :: w) ++ r) ≠ 6 := by
    show kK x ≠ 6
    rw [hw x (List.mem_cons_self ..)]
    decide
  have t := Sfx.tokW (h1.skip hk (n - e)) h1 (Or.inl rfl) hw hr
  rw [t] at h2
  obtain ⟨a, b, c, d⟩ := h2
  refine ⟨⟨a, ?_, fun i hi => ?_⟩, _, h1.app, c⟩
  · simp only [b, c]
    omega
  · simp only [b]
    rw [Int.toNat_natCast, h1.2 i (by simp only [List.length_append]; omega), getD_app hi]
/-- the reader's twelve words are words, and differ -/
theorem wd_all : ∀ q, q < 12 → (∀ y, y ∈ stB q → kK y = 1) ∧ ∀ q2, q2 < 12 → (((stB q).length = stN q2 ∧ ∀ i, i < stN q2 → (stB q2).getD i 0 = (stB q).getD i 0) ↔ q = q2) := by decide +kernel
theorem Nx.wd {tx v : Nat → Int} {n q : Nat} {r : List Int} (hq : q < 12) (h : Nx tx n v (stB q ++ r)) (hr : kH r ≠ 1) : (v 6 = 1 ∧ ∀ q2, q2 < 12 → (isWordP tx v q2 ↔ q = q2)) ∧ Bh tx n v r := by
  obtain ⟨h1, h2⟩ := wd_all q hq
  have hl : 0 < (stB q).length := by
    rw [stB_len q (by omega)]
    have := stN_rng q (by omega)
    omega
  obtain ⟨x, w, e⟩ : ∃ x w, stB q = x :: w := by
    cases h0 : stB q with
    | nil =>
      rw [h0] at hl
      exact absurd hl (Nat.lt_irrefl 0)
    | cons x w => exact ⟨x, w, rfl⟩
  rw [e] at h h1 h2
  obtain ⟨⟨a, b, c⟩, d⟩ := h.word h1 hr
  refine ⟨⟨a, fun q2 hq2 => ?_⟩, d⟩
  refine Iff.trans ?_ (h2 q2 hq2)
  unfold isWordP
  constructor
  · rintro ⟨-, b2, c2⟩
    have hl2 : (x :: w).length = stN q2 := by omega
    exact ⟨hl2, fun i hi => (c2 i hi).symm.trans (c i (by omega))⟩
  · rintro ⟨b2, c2⟩
    exact ⟨a, by omega, fun i hi => (c i (by omega)).trans (c2 i hi).symm⟩
theorem Nx.kd {tx v : Nat → Int} {n : Nat} {x : Int} {r : List Int} (h : Nx tx n v (numF x ++ r)) (hx : -99 ≤ x ∧ x ≤ 99) (hr : kH r ≠ 2) : v 6 = if x < 0 then 3 else 2 := by
  by_cases c : x < 0
  · rw [if_pos c]
    exact (h.min ⟨hx.1, c⟩).1
  · rw [if_neg c]
    exact (h.num (by omega) hr).1
theorem Nx.numR {tx v : Nat → Int} {n : Nat} {x lo hi : Int} {r : List Int} (h : Nx tx n v (numF x ++ r)) (hx : 0 ≤ x ∧ x ≤ 99) (hr : kH r ≠ 2) (hl : lo ≤ x ∧ x ≤ hi) : ∃ w, numRF tx n v lo hi = (1, w) ∧ w 10 = x ∧ Nx tx n w r ∧ ∀ j, j ≠ 6 → j ≠ 7 → j ≠ 8 → j ≠ 9 → j ≠ 10 → w j = v j := by
  obtain ⟨a, b, c⟩ := h.num hx hr
  have c2 : Bh tx n (fup v 10 (v 9)) r := c.ne (fup_ne (by decide))
  obtain ⟨d, f⟩ := c2.tok
  refine ⟨_, numR_ok a (by omega), ?_, d, fun j h1 h2 h3 h4 h5 => ?_⟩
  · rw [f 10 (by decide) (by decide) (by decide) (by decide), fup_at, b]
  · rw [f j h1 h2 h3 h4, fup_ne h5]
theorem Nx.intR {tx v : Nat → Int} {n : Nat} {x lo hi : Int} {r : List Int} (h : Nx tx n v (numF x ++ r)) (hx : -99 ≤ x ∧ x ≤ 99) (hr : kH r ≠ 2) (hl : lo ≤ x ∧ x ≤ hi) : ∃ w, intRF tx n v lo hi = (1, w) ∧ w 10 = x ∧ Nx tx n w r ∧ ∀ j, j ≠ 6 → j ≠ 7 → j ≠ 8 → j ≠ 9 → j ≠ 10 → w j = v j := by
  by_cases hn : x < 0
  · obtain ⟨a, e, s1, s2⟩ := h.min ⟨hx.1, hn⟩
    have hk : kH (numF (-x) ++ r) ≠ 6 := by
      rw [kH_num (by omega), if_neg (by omega)]
      decide
    have t := Sfx.tokN (s1.skip hk (n - e)) s1 (by omega) hr
    obtain ⟨d, f⟩ := Bh.tok (v := v) ⟨e, s1, s2⟩
    obtain ⟨-, -, c⟩ := d.num (by omega) hr
    have c2 : Bh tx n (fup (tokF tx n v) 10 (- -x)) r := c.ne (fup_ne (by decide))
    obtain ⟨d2, f2⟩ := c2.tok
    refine ⟨_, intR_neg a s2 t (by omega), ?_, d2, fun j h1 h2 h3 h4 h5 => ?_⟩
    · rw [f2 10 (by decide) (by decide) (by decide) (by decide), fup_at]
      omega
    · rw [f2 j h1 h2 h3 h4, fup_ne h5, f j h1 h2 h3 h4]
  · obtain ⟨a, b, c⟩ := h.num (by omega) hr
    have c2 : Bh tx n (fup v 10 (v 9)) r := c.ne (fup_ne (by decide))
    obtain ⟨d, f⟩ := c2.tok
    refine ⟨_, intR_pos a (by omega), ?_, d, fun j h1 h2 h3 h4 h5 => ?_⟩
    · rw [f 10 (by decide) (by decide) (by decide) (by decide), fup_at, b]
    · rw [f j h1 h2 h3 h4, fup_ne h5]
theorem Nx.sem {tx v : Nat → Int} {n : Nat} {r : List Int} (h : Nx tx n v (59 :: r)) : semF tx n v = (1, tokF tx n v) ∧ Nx tx n (tokF tx n v) r ∧ ∀ j, j ≠ 6 → j ≠ 7 → j ≠ 8 → j ≠ 9 → tokF tx n v j = v j := by
  obtain ⟨a, b⟩ := h.semi
  obtain ⟨c, d⟩ := b.tok
  exact ⟨semF_ok a, c, d⟩
theorem begin_nx {tx v : Nat → Int} {l : List Int} (h : ∀ i, i < l.length → tx i = l.getD i 0) : Nx tx l.length (beginF tx l.length v) l ∧ beginF tx l.length v 5 = 0 ∧ beginF tx l.length v 11 = 0 ∧ beginF tx l.length v 12 = 0 := by
  have b : Bh tx l.length (fup (fup (fup (fup (fup (fup v 3 0) 4 (-1)) 8 0) 5 0) 11 0) 12 0) l := ⟨0, ⟨Nat.zero_add _, fun k hk => by rw [Nat.zero_add]; exact h k hk⟩, rfl⟩
  obtain ⟨c, d⟩ := b.tok
  exact ⟨c, d 5 (by decide) (by decide) (by decide) (by decide), d 11 (by decide) (by decide) (by decide) (by decide), d 12 (by decide) (by decide) (by decide) (by decide)⟩
