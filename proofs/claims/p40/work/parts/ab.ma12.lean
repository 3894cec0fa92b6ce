/-! The reference's numbers stay small. -/
def Cb (f : Nat → Int) (B : Int) : Prop := ∀ i, -B ≤ f i ∧ f i ≤ B
theorem Cb.up {f : Nat → Int} {B C : Int} (h : Cb f B) (hb : B ≤ C) : Cb f C := fun i => by have := h i; omega
theorem ab_n0 (x : Int) : 0 ≤ ab x := by unfold ab; split <;> omega
theorem ab_b {x B : Int} (h : -B ≤ x ∧ x ≤ B) : ab x ≤ B := by unfold ab; split <;> omega
theorem mcan_b {e w : Nat → Int} {low top : Nat} {W E : Int} (hw : Cb w W) (he : Cb e E) (hE : 1 ≤ E) (hW : 0 ≤ W) : Cb (mcan e low top w) (W * (2 * E)) ∧ (W * (2 * E) < pB 31 → mcOK e low top w) := by
  have WE : 0 ≤ W * E := Int.mul_nonneg hW (by omega)
  have we : W * (2 * E) = 2 * (W * E) := by grind
  have pr : ∀ i j, ab (w i) * ab (e j) ≤ W * E := fun i j => Int.mul_le_mul (ab_b (hw i)) (ab_b (he j)) (ab_n0 _) hW
  have W1 : W ≤ W * E := by
    have := Int.mul_le_mul_of_nonneg_left hE hW
    omega
  rw [we]
  refine ⟨fun p => ?_, fun h p hp => ⟨?_, fun _ => ⟨?_, ?_⟩⟩⟩
  · have x1 := mulb (hw p).1 (hw p).2 (show -E ≤ ab (e low) by have := ab_n0 (e low); omega) (ab_b (he low))
    have x2 := mulb (hw top).1 (hw top).2 (he (p + low - top)).1 (he (p + low - top)).2
    have x3 := hw p
    unfold mcan
    split
    · split
      · split <;> omega
      · omega
    · split <;> omega
  · have := pr p low
    omega
  · have := pr top (p + low - top)
    omega
  · have := pr p low
    have := pr top (p + low - top)
    omega
theorem pw1 {n : Int} (h : 1 ≤ n) (k : Nat) : 1 ≤ n ^ k := pw_pos h k
theorem mdiv_b {e : Nat → Int} {low : Nat} {E : Int} (he : Cb e E) (hE : 1 ≤ E) : ∀ (k top : Nat) (w : Nat → Int) (W : Int), 0 ≤ W → Cb w W → Cb (mdivL e low k top w) (W * (2 * E) ^ k) ∧ (W * (2 * E) ^ k < pB 31 → mdivLOK e low k top w)
  | 0, _, w, W, _, hw => by
    rw [Int.pow_zero, Int.mul_one]
    exact ⟨hw, fun _ => trivial⟩
  | k + 1, top, w, W, hW, hw => by
    obtain ⟨c1, c2⟩ := mcan_b (low := low) (top := top) hw he hE hW
    have w2 : 0 ≤ W * (2 * E) := Int.mul_nonneg hW (by omega)
    obtain ⟨i1, i2⟩ := mdiv_b he hE k (top - 1) _ _ w2 c1
    have e1 : W * (2 * E) ^ (k + 1) = W * (2 * E) * (2 * E) ^ k := by rw [Int.pow_succ]; grind
    rw [e1]
    refine ⟨i1, fun h => ⟨c2 ?_, i2 h⟩⟩
    have := Int.mul_le_mul_of_nonneg_left (pw1 (n := 2 * E) (by omega) k) w2
    omega
theorem mstep_b {s : RS} {m K : Nat} {W E : Int} (h : MI s m) (hw : Cb (s.2.1 m) W) (he : Cb (s.2.1 (m + 1)) E) (hW : 0 ≤ W) (hE : 1 ≤ E) (hK : s.2.2 m + 1 ≤ s.2.2 (m + 1) + K) (hb : W * (2 * E) ^ K < pB 31) : mStepOK s ∧ Cb (mdivR s) (W * (2 * E) ^ K) := by
  obtain ⟨h1, h2, h3, -⟩ := h
  have e1 : s.1 - 1 = m + 1 := by omega
  have e2 : s.1 - 2 = m := by omega
  have hp : (2 * E) ^ (s.2.2 m + 1 - s.2.2 (m + 1)) ≤ (2 * E) ^ K := pw_le (by omega) (by omega)
  have hm := Int.mul_le_mul_of_nonneg_left hp hW
  obtain ⟨b1, b2⟩ := mdiv_b (low := s.2.2 (m + 1)) he hE (s.2.2 m + 1 - s.2.2 (m + 1)) (s.2.2 m) (s.2.1 m) W hW hw
  have d := h3 m (Nat.le_refl _)
  have d4 := (h2 m (by omega)).1
  refine ⟨?_, fun i => ?_⟩
  · unfold mStepOK
    rw [e1, e2]
    exact ⟨b2 (by omega), by omega, by omega⟩
  · have := b1 i
    unfold mdivR
    rw [e1, e2]
    omega
theorem lb {Bs : Nat → Int} (hB : ∀ k, 1 ≤ Bs k) (hS : ∀ m, m ≤ 2 → Bs m * (2 * Bs (m + 1)) ^ (if m = 1 then 3 else 2) ≤ Bs (m + 2) ∧ Bs (m + 2) < pB 31) : ∀ (j : Nat) (s : RS) (m : Nat), m + j = 4 → MI s m → (m = 0 → s.2.2 0 ≤ s.2.2 1 + 1) → (∀ k, k ≤ m + 1 → Cb (s.2.1 k) (Bs k)) → mLoopOK j s ∧ ∀ k, k < (mLoop j s).1 → Cb ((mLoop j s).2.1 k) (Bs k)
  | 0, s, m, hj, h, _, _ => by
    have := h.small (m + 1) (Nat.le_refl _)
    omega
  | j + 1, s, m, hj, h, h0, hb => by
    have e1 : s.1 - 1 = m + 1 := by have := h.1; omega
    have sm := h.small (m + 1) (Nat.le_refl _)
    have em : mLoop (j + 1) s = if s.2.2 (m + 1) = 0 ∨ topW (mdivR s) 9 = 0 then s else mLoop j (mNext s) := by
      show (if s.2.2 (s.1 - 1) = 0 ∨ topW (mdivR s) 9 = 0 then s else mLoop j (mNext s)) = _
      rw [e1]
    have eo : mLoopOK (j + 1) s ↔ (s.2.2 (m + 1) = 0 ∨ (mStepOK s ∧ (topW (mdivR s) 9 = 0 ∨ mLoopOK j (mNext s)))) := by
      show (s.2.2 (s.1 - 1) = 0 ∨ _) ↔ _
      rw [e1]
    rw [em, eo]
    by_cases c : s.2.2 (m + 1) = 0
    · rw [if_pos (Or.inl c)]
      exact ⟨Or.inl c, fun k hk => hb k (by have := h.1; omega)⟩
    · have m2 : m ≤ 2 := by omega
      obtain ⟨q1, q2⟩ := hS m m2
      have sm0 := h.small m (by omega)
      have hK : s.2.2 m + 1 ≤ s.2.2 (m + 1) + (if m = 1 then 3 else 2) := by
        by_cases c1 : m = 1
        · rw [if_pos c1]
          omega
        · rw [if_neg c1]
          by_cases c0 : m = 0
          · subst c0
            have := h0 rfl
            show s.2.2 0 + 1 ≤ s.2.2 1 + 2
            omega
          · omega
      have B0 := hB m
      obtain ⟨s1, s2⟩ := mstep_b h (hb m (by omega)) (hb (m + 1) (Nat.le_refl _)) (by omega) (hB _) hK (by omega)
      by_cases c2 : topW (mdivR s) 9 = 0
      · rw [if_pos (Or.inr c2)]
        exact ⟨Or.inr ⟨s1, Or.inl c2⟩, fun k hk => hb k (by have := h.1; omega)⟩
      · rw [if_neg (fun z => z.elim c c2)]
        have h1 := h.1
        obtain ⟨i1, i2⟩ := lb hB hS j (mNext s) (m + 1) (by omega) (h.next c2) (by omega) (fun k hk => by
          show Cb (if k = s.1 then mdivR s else s.2.1 k) (Bs k)
          by_cases ck : k = s.1
          · rw [if_pos ck, show k = m + 2 by omega]
            exact s2.up q1
          · rw [if_neg ck]
            exact hb k (by omega))
        exact ⟨Or.inr ⟨s1, Or.inr i1⟩, i2⟩
def Bf (B : Int) : Nat → Int
  | 0 => B
  | 1 => 4 * B
  | 2 => B * (2 * (4 * B)) ^ 2
  | 3 => 4 * B * (2 * (B * (2 * (4 * B)) ^ 2)) ^ 3
  | _ => B * (2 * (4 * B)) ^ 2 * (2 * (4 * B * (2 * (B * (2 * (4 * B)) ^ 2)) ^ 3)) ^ 2
def bd (t : Nat) : Int := if t = 5 then 30 else if t = 4 then 120 else if t = 3 then 1728000 else 10000000000000000000000
def GB (P : Nat → Int) : Prop := Zd P 4 ∧ topW P 9 ≠ 0 ∧ Cb P (bd (topW P 9))
theorem mder_b {P : Nat → Int} {B : Int} (hz : Zd P 4) (h : Cb P B) (n : Nat) : Cb (mder P n) (4 * B) := fun p => by
  have hB : 0 ≤ B := by have := h 0; omega
  unfold mder
  by_cases c : p < n
  · rw [if_pos c]
    by_cases c4 : p < 4
    · have := mulb (h (p + 1)).1 (h (p + 1)).2 (show -4 ≤ (p : Int) + 1 by omega) (show (p : Int) + 1 ≤ 4 by omega)
      omega
    · rw [hz (p + 1) (by omega)]
      omega
  · rw [if_neg c]
    omega
/-- what is asked of a chain of rows, from its bounds -/
theorem wfM_of {P : Nat → Int} {B : Int} (hz : Zd P 4) (c : topW P 9 ≠ 0) (hB : 0 ≤ B) (hb : ∀ k, k < (mRows P).1 → Cb ((mRows P).2.1 k) B) (big : B * 3125 * 2048 ^ 4 < pB 31) : WfM (mRows P) := by
  obtain ⟨n, hC, hd, -, -, dec⟩ := mRows_ch hz c
  have hs := hC.1
  have sm : ∀ i, i ≤ n → (mRows P).2.2 i + i ≤ 4 := by
    intro i
    induction i with
    | zero => intro _; have := (hd 0 (by omega)).1; omega
    | succ i ih => intro hi; have := ih (by omega); have := dec i (by omega); omega
  have := sm n (Nat.le_refl _)
  refine ⟨by omega, fun k hk => ?_⟩
  obtain ⟨d1, d2⟩ := hd k (by omega)
  refine ⟨d1, hC.2.1 k (by omega), B, hB, ?_, fun i _ => hb k hk i⟩
  have p1 : (2048 : Int) ^ (mRows P).2.2 k ≤ 2048 ^ 4 := pw_le (by decide) d1
  have b1 : 0 ≤ B * 3125 := by omega
  have := Int.mul_le_mul_of_nonneg_left p1 b1
  omega
theorem gb_big {P : Nat → Int} {B : Int} (hz : Zd P 4) (ht : 2 ≤ topW P 9) (h0 : Cb P B) (hB : ∀ k, 1 ≤ Bf B k) (hS : ∀ m, m ≤ 2 → Bf B m * (2 * Bf B (m + 1)) ^ (if m = 1 then 3 else 2) ≤ Bf B (m + 2) ∧ Bf B (m + 2) < pB 31) (hmx : ∀ k, Bf B k ≤ Bf B 4) (b30 : B ≤ pB 30) (big : Bf B 4 * 3125 * 2048 ^ 4 < pB 31) : mRowsOK P ∧ WfM (mRows P) ∧ ∀ k, k < (mRows P).1 → Cb ((mRows P).2.1 k) (Bf B k) := by
  obtain ⟨h1, -, t5⟩ := mTwo_ok hz ht
  have e : mRows P = mLoop 4 (mTwo P) := by
    unfold mRows
    rw [if_neg (by omega), if_neg (by omega)]
  have key := lb hB hS 4 (mTwo P) 0 rfl h1 (fun _ => by show topW P 9 - 1 ≤ topW P 9 - 2 + 1; omega) (fun k hk => by
    rcases (show k = 0 ∨ k = 1 by omega) with rfl | rfl
    · exact h0
    · exact mder_b hz h0 _)
  rw [← e] at key
  refine ⟨⟨fun p _ => ?_, fun _ => key.1⟩, wfM_of hz (by omega) (by have := hB 4; omega) (fun k hk => (key.2 k hk).up (hmx k)) big, key.2⟩
  have := ab_b (h0 p)
  omega
theorem bd_anti {a b : Nat} (h : a ≤ b) (hb : b ≤ 4) : bd b ≤ bd a := by
  rcases (show b = 0 ∨ b = 1 ∨ b = 2 ∨ b = 3 ∨ b = 4 by omega) with rfl | rfl | rfl | rfl | rfl <;> rcases (show a = 0 ∨ a = 1 ∨ a = 2 ∨ a = 3 ∨ a = 4 by omega) with rfl | rfl | rfl | rfl | rfl <;> first | decide | omega
theorem k2 (Q : Nat → Prop) (h : Q 0 ∧ Q 1 ∧ Q 2) : ∀ m, m ≤ 2 → Q m := fun m hm => by
  rcases (show m = 0 ∨ m = 1 ∨ m = 2 by omega) with rfl | rfl | rfl
  · exact h.1
  · exact h.2.1
  · exact h.2.2
theorem k4 (Q : Int → Prop) (B : Int) (h : Q (Bf B 0) ∧ Q (Bf B 1) ∧ Q (Bf B 2) ∧ Q (Bf B 3) ∧ Q (Bf B 4)) : ∀ k, Q (Bf B k)
  | 0 => h.1
  | 1 => h.2.1
  | 2 => h.2.2.1
  | 3 => h.2.2.2.1
  | _ + 4 => h.2.2.2.2
theorem gb_facts {B : Int} (h : B = 30 ∨ B = 120 ∨ B = 1728000) : (∀ k, 1 ≤ Bf B k) ∧ (∀ m, m ≤ 2 → Bf B m * (2 * Bf B (m + 1)) ^ (if m = 1 then 3 else 2) ≤ Bf B (m + 2) ∧ Bf B (m + 2) < pB 31) ∧ (∀ k, Bf B k ≤ Bf B 4) ∧ B ≤ pB 30 ∧ Bf B 4 * 3125 * 2048 ^ 4 < pB 31 := by
  rcases h with rfl | rfl | rfl
  · exact ⟨k4 (fun x => 1 ≤ x) _ (by decide +kernel), k2 (fun m => Bf 30 m * (2 * Bf 30 (m + 1)) ^ (if m = 1 then 3 else 2) ≤ Bf 30 (m + 2) ∧ Bf 30 (m + 2) < pB 31) (by decide +kernel), k4 (fun x => x ≤ Bf 30 4) _ (by decide +kernel), by decide +kernel, by decide +kernel⟩
  · exact ⟨k4 (fun x => 1 ≤ x) _ (by decide +kernel), k2 (fun m => Bf 120 m * (2 * Bf 120 (m + 1)) ^ (if m = 1 then 3 else 2) ≤ Bf 120 (m + 2) ∧ Bf 120 (m + 2) < pB 31) (by decide +kernel), k4 (fun x => x ≤ Bf 120 4) _ (by decide +kernel), by decide +kernel, by decide +kernel⟩
  · exact ⟨k4 (fun x => 1 ≤ x) _ (by decide +kernel), k2 (fun m => Bf 1728000 m * (2 * Bf 1728000 (m + 1)) ^ (if m = 1 then 3 else 2) ≤ Bf 1728000 (m + 2) ∧ Bf 1728000 (m + 2) < pB 31) (by decide +kernel), k4 (fun x => x ≤ Bf 1728000 4) _ (by decide +kernel), by decide +kernel, by decide +kernel⟩
theorem bd_row {t j : Nat} (h : t = 3 ∨ t = 4 ∨ t = 5) (hj : 1 ≤ j) (hj2 : j + 2 ≤ t) : Bf (bd t) j ≤ bd (t - j) := by
  rcases h with rfl | rfl | rfl
  · rw [show j = 1 by omega]
    decide +kernel
  · rcases (show j = 1 ∨ j = 2 by omega) with rfl | rfl <;> decide +kernel
  · rcases (show j = 1 ∨ j = 2 ∨ j = 3 by omega) with rfl | rfl | rfl <;> decide +kernel
theorem gb_ok {P : Nat → Int} (h : GB P) : mRowsOK P ∧ WfM (mRows P) ∧ ((mRows P).2.2 ((mRows P).1 - 1) = 0 ∨ (GB ((mRows P).2.1 ((mRows P).1 - 1)) ∧ topW ((mRows P).2.1 ((mRows P).1 - 1)) 9 < topW P 9)) := by
  obtain ⟨hz, c, hb⟩ := h
  have t5 : topW P 9 ≤ 5 := by
    rcases topW_sp P 9 with ⟨q, -⟩ | ⟨-, -, q, -⟩
    · omega
    · apply Classical.byContradiction
      intro d
      exact q (hz _ (by omega))
  obtain ⟨l1, -, l3, l4⟩ := last_row hz Pp.rf c
  by_cases c3 : 3 ≤ topW P 9
  · have bb : bd (topW P 9) = 30 ∨ bd (topW P 9) = 120 ∨ bd (topW P 9) = 1728000 := by
      rcases (show topW P 9 = 3 ∨ topW P 9 = 4 ∨ topW P 9 = 5 by omega) with e | e | e <;> rw [e] <;> decide
    obtain ⟨f1, f2, f3, f4, f5⟩ := gb_facts bb
    obtain ⟨g1, g2, g3⟩ := gb_big hz (by omega) hb f1 f2 f3 f4 f5
    refine ⟨g1, g2, ?_⟩
    by_cases d0 : (mRows P).2.2 ((mRows P).1 - 1) = 0
    · exact Or.inl d0
    · have r2 := rows_two hz (show 2 ≤ topW P 9 by omega)
      obtain ⟨n, hC, hd, r0, dg0, dec⟩ := mRows_ch hz c
      have hs := hC.1
      have sm : ∀ i, i ≤ n → (mRows P).2.2 i + i + 1 ≤ topW P 9 := by
        intro i
        induction i with
        | zero => intro _; omega
        | succ i ih => intro hi; have := ih (by omega); have := dec i (by omega); omega
      have sl := sm ((mRows P).1 - 1) (by omega)
      refine Or.inr ⟨⟨l1, by omega, (g3 _ (by omega)).up (Int.le_trans (bd_row (j := (mRows P).1 - 1) (by omega) (by omega) (by omega)) ?_)⟩, by omega⟩
      rw [l3]
      exact bd_anti (by omega) (by omega)
  · have e22 : bd (topW P 9) = 10000000000000000000000 := by
      unfold bd
      rw [if_neg (by omega), if_neg (by omega), if_neg (by omega)]
    rw [e22] at hb
    have p30 : (10000000000000000000000 : Int) ≤ pB 30 := by decide +kernel
    have big : (40000000000000000000000 : Int) * 3125 * 2048 ^ 4 < pB 31 := by decide +kernel
    have ok30 : ∀ p, p < 9 → ab (P p) ≤ pB 30 := fun p _ => by have := ab_b (hb p); omega
    by_cases c1 : topW P 9 = 1
    · have e : mRows P = (1, fun _ => P, fun _ => 0) := by
        unfold mRows
        rw [if_neg c, if_pos c1]
      refine ⟨⟨ok30, fun z => by omega⟩, wfM_of hz c (by decide) (fun k hk => ?_) big, Or.inl (by rw [e])⟩
      rw [e]
      exact hb.up (by decide)
    · have e : mRows P = mLoop 4 (mTwo P) := by
        unfold mRows
        rw [if_neg c, if_neg c1]
      have d1 : (mTwo P).2.2 ((mTwo P).1 - 1) = 0 := by show topW P 9 - 2 = 0; omega
      have e2 : mLoop 4 (mTwo P) = mTwo P := by
        show (if (mTwo P).2.2 ((mTwo P).1 - 1) = 0 ∨ topW (mdivR (mTwo P)) 9 = 0 then mTwo P else mLoop 3 (mNext (mTwo P))) = mTwo P
        rw [if_pos (Or.inl d1)]
      rw [e2] at e
      refine ⟨⟨ok30, fun z => Or.inl d1⟩, wfM_of hz c (by decide) (fun k hk => ?_) big, Or.inl (by rw [e]; exact d1)⟩
      rw [e] at hk ⊢
      have hk2 : k < 2 := hk
      rcases (show k = 0 ∨ k = 1 by omega) with rfl | rfl
      · exact hb.up (by decide)
      · exact mder_b hz hb _
theorem times_ok : ∀ (n : Nat) (P : Nat → Int), GB P → topW P 9 ≤ n → mTimesOK n (mRows P)
  | 0, P, h, hn => absurd h.2.1 (by omega)
  | n + 1, P, h, hn => by
    obtain ⟨g1, g2, g3⟩ := gb_ok h
    refine ⟨g2, (last_row h.1 Pp.rf h.2.1).2.2.2, ?_⟩
    rcases g3 with g3 | ⟨g3, g4⟩
    · exact Or.inl g3
    · exact Or.inr ⟨(gb_ok g3).1, times_ok n _ g3 (by omega)⟩
theorem gb_P {P : Nat → Int} (hP : WfP P) (c : topW P 9 ≠ 0) : GB P := by
  refine ⟨hP.zd, c, fun i => ?_⟩
  have h1 : (30 : Int) ≤ bd (topW P 9) := by
    unfold bd
    split
    · decide
    · split
      · decide
      · split <;> decide
  have := hP i
  omega
theorem goodM : GoodM := by
  intro P hP
  by_cases c : topW P 9 = 0
  · have z := rows_zero c
    refine ⟨⟨fun p _ => ?_, fun h => by omega⟩, by rw [z]; omega, fun k hk => by rw [z] at hk; omega⟩
    have := ab_b (B := 30) ⟨(hP p).1, (hP p).2.1⟩
    have : (30 : Int) ≤ pB 30 := by decide +kernel
    omega
  · have := gb_ok (gb_P hP c)
    exact ⟨this.1, this.2.1⟩
theorem goodF : GoodF := goodF_of (fun P hP h => by
  have sim := sim_all hP.zd Pp.rf
  have c : topW P 9 ≠ 0 := fun c => by have := rows_zero c; have := sim.1; omega
  refine times_ok 5 P (gb_P hP c) ?_
  have t := top95 hP.zd
  rcases topW_sp P 5 with ⟨q, -⟩ | ⟨-, q, -⟩ <;> omega)
