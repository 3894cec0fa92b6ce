/-! Settings and starts read as they are written. -/
theorem set_at {tx v : Nat → Int} {q : Nat} (h : ∀ q2, q2 < 12 → (isWordP tx v q2 ↔ q = q2)) (hq : 1 ≤ q ∧ q ≤ 6) : ¬ isWordP tx v 0 ∧ setWF tx v = if q = 6 then 6 else (q : Int) - 1 := by
  refine ⟨fun g => by have := (h 0 (by decide)).mp g; omega, ?_⟩
  unfold setWF
  have n : ∀ q2, q2 < 12 → ¬ q = q2 → ¬ isWordP tx v q2 := fun q2 h1 h2 g => h2 ((h q2 h1).mp g)
  rcases (show q = 1 ∨ q = 2 ∨ q = 3 ∨ q = 4 ∨ q = 5 ∨ q = 6 by omega) with e | e | e | e | e | e
  · rw [if_pos ((h 1 (by decide)).mpr e), e]
    rfl
  · rw [if_neg (n 1 (by decide) (by omega)), if_pos ((h 2 (by decide)).mpr e), e]
    rfl
  · rw [if_neg (n 1 (by decide) (by omega)), if_neg (n 2 (by decide) (by omega)), if_pos ((h 3 (by decide)).mpr e), e]
    rfl
  · rw [if_neg (n 1 (by decide) (by omega)), if_neg (n 2 (by decide) (by omega)), if_neg (n 3 (by decide) (by omega)), if_pos ((h 4 (by decide)).mpr e), e]
    rfl
  · rw [if_neg (n 1 (by decide) (by omega)), if_neg (n 2 (by decide) (by omega)), if_neg (n 3 (by decide) (by omega)), if_neg (n 4 (by decide) (by omega)), if_pos ((h 5 (by decide)).mpr e), e]
    rfl
  · rw [if_neg (n 1 (by decide) (by omega)), if_neg (n 2 (by decide) (by omega)), if_neg (n 3 (by decide) (by omega)), if_neg (n 4 (by decide) (by omega)), if_neg (n 5 (by decide) (by omega)), if_pos ((h 6 (by decide)).mpr e), e]
    rfl
theorem rSet_rd {tx v : Nat → Int} {n i : Nat} {x : Int} {T : CT} {r : List Int} (h : Nx tx n v (numF x ++ r)) (hx : 0 ≤ x ∧ x ≤ 99) (hr : kH r ≠ 2) (hl : tabF 1 i ≤ x ∧ x ≤ tabF 2 i) : ∃ w, rSetF tx n v T i = (1, w, setS T i x) ∧ Nx tx n w r ∧ ∀ j, j ≠ 6 → j ≠ 7 → j ≠ 8 → j ≠ 9 → j ≠ 10 → w j = v j := by
  obtain ⟨w, e1, e2, e3, e4⟩ := h.numR hx hr hl
  refine ⟨w, ?_, e3, e4⟩
  unfold rSetF
  rw [e1]
  dsimp only
  rw [if_pos rfl, e2]
theorem loopS_go {tx v w : Nat → Int} {n : Nat} {T T2 : CT} {r : List Int} (h6 : v 6 ≠ 0) (e1 : rStmtF tx n v T = (1, w, T2)) (e2 : Nx tx n w (59 :: r)) : ∃ u, (∀ D, loopS tx n (D + 1) v T = loopS tx n D u T2) ∧ Nx tx n u r ∧ u 5 = w 5 + 1 ∧ u 11 = w 11 ∧ u 12 = w 12 := by
  obtain ⟨s1, s2, s3⟩ := e2.sem
  refine ⟨fup (tokF tx n w) 5 (tokF tx n w 5 + 1), fun D => ?_, s2.ne (fun i h1 h2 => fup_ne (by omega)), ?_, ?_, ?_⟩
  · simp only [loopS]
    rw [if_neg h6, e1]
    dsimp only
    rw [if_neg (fun q => q rfl), s1]
    dsimp only
    rw [if_neg (fun q => q rfl)]
  · rw [fup_at, s3 5 (by decide) (by decide) (by decide) (by decide)]
  · rw [fup_ne (by decide), s3 11 (by decide) (by decide) (by decide) (by decide)]
  · rw [fup_ne (by decide), s3 12 (by decide) (by decide) (by decide) (by decide)]
theorem set_step {tx v : Nat → Int} {n q i : Nat} {x : Int} {T : CT} {r : List Int} (h : Nx tx n v (stB q ++ 32 :: (numF x ++ 59 :: r))) (hq : 1 ≤ q ∧ q ≤ 6 ∧ q ≠ 5) (hi : i = if q = 6 then 6 else q - 1) (hx : 0 ≤ x ∧ x ≤ 99) (hl : tabF 1 i ≤ x ∧ x ≤ tabF 2 i) (h12 : v 12 = 0) (hb : bitF (v 11) i ≠ 1) : ∃ u, (∀ D, loopS tx n (D + 1) v T = loopS tx n D u (setS T i x)) ∧ Nx tx n u r ∧ u 5 = v 5 + 1 ∧ u 11 = orF (v 11) i ∧ u 12 = 0 := by
  have kw : ∀ L, kH (32 :: L) ≠ 1 := fun L => by
    show kK 32 ≠ 1
    decide
  have k2 : kH (59 :: r) ≠ 2 := by
    show kK 59 ≠ 2
    decide
  have k6 : kH (numF x ++ 59 :: r) ≠ 6 := by
    rw [kH_num (by omega), if_neg (by omega)]
    decide
  obtain ⟨⟨h6, hw⟩, hB⟩ := h.wd (by omega) (kw _)
  obtain ⟨n0, es⟩ := set_at hw (by omega)
  have ei : setWF tx v = (i : Nat) := by
    rw [es, hi]
    split <;> omega
  have hB2 : Bh tx n (fup v 11 (orF (v 11) i)) (32 :: (numF x ++ 59 :: r)) := hB.ne (fup_ne (by decide))
  obtain ⟨t1, t2⟩ := hB2.tok
  obtain ⟨w, e1, e2, e3⟩ := rSet_rd (T := T) (t1.blank k6) hx k2 hl
  have i4 : i ≠ 4 := by
    rw [hi]
    split <;> omega
  have e : rStmtF tx n v T = (1, w, setS T i x) := by
    unfold rStmtF
    rw [if_neg n0, ei, Int.toNat_natCast, if_neg (by omega), if_neg (fun g => by
      rcases g with ⟨-, g⟩ | g
      · exact g h12
      · exact hb g), e1]
    dsimp only
    rw [if_neg (fun q => q rfl), if_pos (by omega)]
  obtain ⟨u, g1, g2, g3, g4, g5⟩ := loopS_go (by rw [h6]; decide) e e2
  refine ⟨u, g1, g2, ?_, ?_, ?_⟩
  · rw [g3, e3 5 (by decide) (by decide) (by decide) (by decide) (by decide), t2 5 (by decide) (by decide) (by decide) (by decide), fup_ne (by decide)]
  · rw [g4, e3 11 (by decide) (by decide) (by decide) (by decide) (by decide), t2 11 (by decide) (by decide) (by decide) (by decide), fup_at]
  · rw [g5, e3 12 (by decide) (by decide) (by decide) (by decide) (by decide), t2 12 (by decide) (by decide) (by decide) (by decide), fup_ne (by decide), h12]
theorem goal_step {tx v : Nat → Int} {n : Nat} {x y : Int} {T : CT} {r : List Int} (h : Nx tx n v (stB 5 ++ 32 :: (numF x ++ 32 :: (numF y ++ 59 :: r)))) (hx : 0 ≤ x ∧ x ≤ 4) (hy : 0 ≤ y ∧ y ≤ 20) (h12 : v 12 = 0) (hb : bitF (v 11) 4 ≠ 1) : ∃ u, (∀ D, loopS tx n (D + 1) v T = loopS tx n D u (setS (setS T 4 x) 5 y)) ∧ Nx tx n u r ∧ u 5 = v 5 + 1 ∧ u 11 = orF (v 11) 4 ∧ u 12 = 0 := by
  have kw : ∀ L, kH (32 :: L) ≠ 1 := fun L => by
    show kK 32 ≠ 1
    decide
  have kb : ∀ L, kH (32 :: L) ≠ 2 := fun L => by
    show kK 32 ≠ 2
    decide
  have k2 : kH (59 :: r) ≠ 2 := by
    show kK 59 ≠ 2
    decide
  have k6 : ∀ (z : Int) L, 0 ≤ z ∧ z ≤ 99 → kH (numF z ++ L) ≠ 6 := fun z L hz => by
    rw [kH_num (by omega), if_neg (by omega)]
    decide
  obtain ⟨⟨h6, hw⟩, hB⟩ := h.wd (q := 5) (by decide) (kw _)
  obtain ⟨n0, es⟩ := set_at hw (by decide)
  have ei : setWF tx v = (4 : Nat) := es
  have hB2 : Bh tx n (fup v 11 (orF (v 11) 4)) (32 :: (numF x ++ 32 :: (numF y ++ 59 :: r))) := hB.ne (fup_ne (by decide))
  obtain ⟨t1, t2⟩ := hB2.tok
  have l4 : tabF 1 4 ≤ x ∧ x ≤ tabF 2 4 := hx
  have l5 : tabF 1 5 ≤ y ∧ y ≤ tabF 2 5 := hy
  obtain ⟨w, e1, e2, e3⟩ := rSet_rd (T := T) (t1.blank (k6 x _ (by omega))) (by omega) (kb _) l4
  obtain ⟨w2, f1, f2, f3⟩ := rSet_rd (T := setS T 4 x) (e2.blank (k6 y _ (by omega))) (by omega) k2 l5
  have e : rStmtF tx n v T = (1, w2, setS (setS T 4 x) 5 y) := by
    unfold rStmtF
    rw [if_neg n0, ei, Int.toNat_natCast, if_neg (by decide), if_neg (fun g => by
      rcases g with ⟨g, -⟩ | g
      · exact absurd g (by decide)
      · exact hb g), e1]
    dsimp only
    rw [if_neg (fun q => q rfl), if_neg (fun q => q rfl), f1]
  obtain ⟨u, g1, g2, g3, g4, g5⟩ := loopS_go (by rw [h6]; decide) e f2
  refine ⟨u, g1, g2, ?_, ?_, ?_⟩
  · rw [g3, f3 5 (by decide) (by decide) (by decide) (by decide) (by decide), e3 5 (by decide) (by decide) (by decide) (by decide) (by decide), t2 5 (by decide) (by decide) (by decide) (by decide), fup_ne (by decide)]
  · rw [g4, f3 11 (by decide) (by decide) (by decide) (by decide) (by decide), e3 11 (by decide) (by decide) (by decide) (by decide) (by decide), t2 11 (by decide) (by decide) (by decide) (by decide), fup_at]
  · rw [g5, f3 12 (by decide) (by decide) (by decide) (by decide) (by decide), e3 12 (by decide) (by decide) (by decide) (by decide) (by decide), t2 12 (by decide) (by decide) (by decide) (by decide), fup_ne (by decide), h12]
/-- the starts so far, as bits -/
theorem pw_bits : ∀ p : Nat, p < 5 → bitF ((2 : Int) ^ p - 1) p = 0 ∧ orF ((2 : Int) ^ p - 1) p = (2 : Int) ^ (p + 1) - 1 := by decide
theorem start_step {tx v : Nat → Int} {n p : Nat} {x : Int} {T : CT} {r : List Int} (h : Nx tx n v (stB 0 ++ 32 :: (numF x ++ 32 :: (numF (p : Nat) ++ 59 :: r)))) (hx : -30 ≤ x ∧ x ≤ 30) (hp : (p : Int) < tS T 0) (hS : tS T 0 ≤ 5) (h12 : v 12 = (2 : Int) ^ p - 1) : ∃ u, (∀ D, loopS tx n (D + 1) v T = loopS tx n D u (setP T (fup (tP T) p x))) ∧ Nx tx n u r ∧ u 5 = v 5 + 1 ∧ u 12 = (2 : Int) ^ (p + 1) - 1 := by
  have kw : ∀ L, kH (32 :: L) ≠ 1 := fun L => by
    show kK 32 ≠ 1
    decide
  have kb : ∀ L, kH (32 :: L) ≠ 2 := fun L => by
    show kK 32 ≠ 2
    decide
  have k2 : kH (59 :: r) ≠ 2 := by
    show kK 59 ≠ 2
    decide
  have k6 : ∀ (z : Int) L, -99 ≤ z ∧ z ≤ 99 → kH (numF z ++ L) ≠ 6 := fun z L hz => by
    rw [kH_num hz]
    split <;> decide
  obtain ⟨pb, po⟩ := pw_bits p (by omega)
  obtain ⟨⟨h6, hw⟩, hB⟩ := h.wd (q := 0) (by decide) (kw _)
  have n0 : isWordP tx v 0 := (hw 0 (by decide)).mpr rfl
  obtain ⟨t1, t2⟩ := hB.tok
  obtain ⟨w, e1, e2, e3, e4⟩ := (t1.blank (k6 x _ (by omega))).intR (lo := -30) (hi := 30) (by omega) (kb _) (by omega)
  have e3b := e3.blank (k6 (p : Nat) _ (by omega))
  obtain ⟨w6, w9, -⟩ := e3b.num (by omega) k2
  have w12 : w 12 = (2 : Int) ^ p - 1 := by rw [e4 12 (by decide) (by decide) (by decide) (by decide) (by decide), t2 12 (by decide) (by decide) (by decide) (by decide), h12]
  obtain ⟨w2, f1, f2, f3, f4⟩ := e3b.numR (lo := 0) (hi := tS T 0 - 1) (by omega) k2 (by omega)
  have f12 : w2 12 = (2 : Int) ^ p - 1 := by rw [f4 12 (by decide) (by decide) (by decide) (by decide) (by decide), w12]
  have e : rStmtF tx n v T = (1, fup w2 12 ((2 : Int) ^ (p + 1) - 1), setP T (fup (tP T) p x)) := by
    unfold rStmtF
    rw [if_pos n0]
    unfold rStartF
    rw [e1]
    dsimp only
    rw [if_neg (fun q => q rfl), if_neg (fun g => by
      have := g.2.2
      rw [w9, w12, Int.toNat_natCast, pb] at this
      exact absurd this (by decide)), f1]
    dsimp only
    rw [if_neg (fun q => q rfl), f12, f2, Int.toNat_natCast, po, e2]
  obtain ⟨u, g1, g2, g3, g4, g5⟩ := loopS_go (by rw [h6]; decide) e (f3.ne (fun i h1 h2 => fup_ne (by omega)))
  refine ⟨u, g1, g2, ?_, ?_⟩
  · rw [g3, fup_ne (by decide), f4 5 (by decide) (by decide) (by decide) (by decide) (by decide), e4 5 (by decide) (by decide) (by decide) (by decide) (by decide), t2 5 (by decide) (by decide) (by decide) (by decide)]
  · rw [g5, fup_at]
def stR (co : Nat → Int) : Nat → Nat → List Int
  | 0, _ => []
  | d + 1, p => stB 0 ++ 32 :: (numF (co p) ++ 32 :: (numF (p : Nat) ++ 59 :: stR co d (p + 1)))
theorem stR_all {co : Nat → Int} : ∀ (d p : Nat), stT co p ++ stR co d p = stT co (p + d)
  | 0, p => List.append_nil _
  | d + 1, p => by
    have := stR_all (co := co) d (p + 1)
    rw [show p + (d + 1) = p + 1 + d by omega, ← this]
    simp only [stR, stT]
    rw [show stB 23 = stB 0 ++ [32] by decide]
    simp only [List.append_assoc, List.cons_append, List.nil_append]
theorem starts_rd {tx co : Nat → Int} {n ns : Nat} {S : Nat → Int} (hS : S 0 ≤ 5) (hns : (ns : Int) ≤ S 0) (hco : ∀ i, i < ns → -30 ≤ co i ∧ co i ≤ 30) : ∀ (d p D : Nat) (v : Nat → Int), p + d = ns → d < D → v 5 = 6 + (p : Nat) → v 12 = (2 : Int) ^ p - 1 → Nx tx n v (stR co d p) → (loopS tx n D v (mkT S (Pd co p))).1 = 1 ∧ (loopS tx n D v (mkT S (Pd co p))).2.1 5 = 6 + (ns : Nat) ∧ (loopS tx n D v (mkT S (Pd co p))).2.2 = mkT S (Pd co ns)
  | 0, p, D, v, hp, hD, h5, h12, h => by
    obtain ⟨D, rfl⟩ : ∃ D0, D = D0 + 1 := ⟨D - 1, by omega⟩
    have e : loopS tx n (D + 1) v (mkT S (Pd co p)) = (1, v, mkT S (Pd co p)) := if_pos h.fin
    obtain rfl : p = ns := by omega
    rw [e]
    exact ⟨rfl, h5, rfl⟩
  | d + 1, p, D, v, hp, hD, h5, h12, h => by
    obtain ⟨D, rfl⟩ : ∃ D0, D = D0 + 1 := ⟨D - 1, by omega⟩
    obtain ⟨u, g1, g2, g3, g4⟩ := start_step (T := mkT S (Pd co p)) h (hco p (by omega)) (show (p : Int) < S 0 by omega) hS h12
    rw [g1 D]
    exact starts_rd hS hns hco d (p + 1) D u (by omega) (by omega) (by rw [g3, h5]; omega) g4 g2
theorem tx_nice (v0 v1 v2 v3 v4 v5 v6 : Int) (co : Nat → Int) (ns : Nat) : txS v0 v1 v2 v3 v4 v5 v6 ++ stT co ns = stB 1 ++ 32 :: (numF v0 ++ 59 :: (stB 2 ++ 32 :: (numF v1 ++ 59 :: (stB 3 ++ 32 :: (numF v2 ++ 59 :: (stB 4 ++ 32 :: (numF v3 ++ 59 :: (stB 5 ++ 32 :: (numF v4 ++ 32 :: (numF v5 ++ 59 :: (stB 6 ++ 32 :: (numF v6 ++ 59 :: stR co ns 0)))))))))))) := by
  have e := stR_all (co := co) ns 0
  rw [Nat.zero_add] at e
  rw [← e]
  unfold txS
  rw [show stB 15 = stB 1 ++ [32] by decide, show stB 16 = 59 :: (stB 2 ++ [32]) by decide, show stB 17 = 59 :: (stB 3 ++ [32]) by decide, show stB 18 = 59 :: (stB 4 ++ [32]) by decide, show stB 19 = 59 :: (stB 5 ++ [32]) by decide, show stB 20 = [32] by decide, show stB 21 = 59 :: (stB 6 ++ [32]) by decide, show stB 22 = [59] by decide]
  simp only [List.append_assoc, List.cons_append, List.nil_append, stT]
theorem stT_len2 {co : Nat → Int} : ∀ n : Nat, (stT co n).length ≤ 14 * n
  | 0 => Nat.le_refl 0
  | n + 1 => by
    have := stT_len2 (co := co) n
    have a1 := numF_l3 (co n)
    have a2 := numF_l3 (n : Nat)
    have b : (stB 23).length = 6 := by decide
    simp only [stT, List.length_append, List.length_cons, List.length_nil]
    omega
theorem stT_ok {co : Nat → Int} : ∀ n : Nat, n ≤ 5 → (∀ i, i < n → -30 ≤ co i ∧ co i ≤ 30) → okB (stT co n)
  | 0, _, _ => okB.nil
  | n + 1, hn, h => by
    have := h n (by omega)
    exact (((((stT_ok n (by omega) (fun i hi => h i (by omega))).app (okB.st 23 (by decide))).app (okB.num (by omega))).app (okB.cons (by decide) okB.nil)).app (okB.num (by omega))).app (okB.cons (by decide) okB.nil)
theorem setOK_all : ∀ v0 v1 v2 v3 v4 v5 v6 : Int, ∀ pw ns : Nat, ∀ co : Nat → Int, WfS (Sd v0 v1 v2 v3 v4 v5 v6) → (pw : Int) = v0 → ns ≤ pw → (∀ i, i < ns → -30 ≤ co i ∧ co i ≤ 30) → SetOK (txS v0 v1 v2 v3 v4 v5 v6 ++ stT co ns) (6 + (ns : Nat)) (mkT (Sd v0 v1 v2 v3 v4 v5 v6) (Pd co ns)) := by
  intro v0 v1 v2 v3 v4 v5 v6 pw ns co hS hpw hns hco
  have hS9 := hS
  unfold WfS at hS9
  obtain ⟨d0, d1, d2, d3, d4, d5, d6⟩ := Sd_at v0 v1 v2 v3 v4 v5 v6
  rw [d0, d1, d2, d3, d4, d5, d6] at hS9
  have l1 := txS_len v0 v1 v2 v3 v4 v5 v6
  have l2 := stT_len2 (co := co) ns
  have ob : okB (txS v0 v1 v2 v3 v4 v5 v6 ++ stT co ns) := by
    refine okB.app ?_ (stT_ok ns (by omega) hco)
    unfold txS
    exact (((((((((((((((okB.st 15 (by decide)).app (okB.num (by omega))).app (okB.st 16 (by decide))).app (okB.num (by omega))).app (okB.st 17 (by decide))).app (okB.num (by omega))).app (okB.st 18 (by decide))).app (okB.num (by omega))).app (okB.st 19 (by decide))).app (okB.num (by omega))).app (okB.st 20 (by decide))).app (okB.num (by omega))).app (okB.st 21 (by decide))).app (okB.num (by omega))).app (okB.st 22 (by decide)))
  refine ⟨⟨by simp only [List.length_append]; omega, fun i hi => ob.at i hi⟩, fun tx v htx => ?_⟩
  obtain ⟨b1, b2, b3, b4⟩ := begin_nx (v := v) htx
  unfold setupF
  generalize (txS v0 v1 v2 v3 v4 v5 v6 ++ stT co ns).length = n at *
  generalize beginF tx n v = u0 at *
  rw [tx_nice] at b1
  obtain ⟨u1, g1, b1, c1, f1, b4⟩ := set_step (T := tNew) (i := 0) b1 (by decide) rfl (by omega) (by show (2 : Int) ≤ v0 ∧ v0 ≤ 5; omega) b4 (by rw [b3]; decide)
  obtain ⟨u2, g2, b1, c2, f2, b4⟩ := set_step (T := setS tNew 0 v0) (i := 1) b1 (by decide) rfl (by omega) (by show (0 : Int) ≤ v1 ∧ v1 ≤ 9; omega) b4 (by rw [f1, b3]; decide)
  obtain ⟨u3, g3, b1, c3, f3, b4⟩ := set_step (T := setS (setS tNew 0 v0) 1 v1) (i := 2) b1 (by decide) rfl (by omega) (by show (1 : Int) ≤ v2 ∧ v2 ≤ 60; omega) b4 (by rw [f2, f1, b3]; decide)
  obtain ⟨u4, g4, b1, c4, f4, b4⟩ := set_step (T := setS (setS (setS tNew 0 v0) 1 v1) 2 v2) (i := 3) b1 (by decide) rfl (by omega) (by show (1 : Int) ≤ v3 ∧ v3 ≤ 20; omega) b4 (by rw [f3, f2, f1, b3]; decide)
  obtain ⟨u5, g5, b1, c5, f5, b4⟩ := goal_step (T := setS (setS (setS (setS tNew 0 v0) 1 v1) 2 v2) 3 v3) b1 (by omega) (by omega) b4 (by rw [f4, f3, f2, f1, b3]; decide)
  obtain ⟨u6, g6, b1, c6, f6, b4⟩ := set_step (T := setS (setS (setS (setS (setS (setS tNew 0 v0) 1 v1) 2 v2) 3 v3) 4 v4) 5 v5) (i := 6) b1 (by decide) rfl (by omega) (by show (1 : Int) ≤ v6 ∧ v6 ≤ 40; omega) b4 (by rw [f5, f4, f3, f2, f1, b3]; decide)
  have hv5 : u6 5 = 6 + ((0 : Nat) : Int) := by
    rw [c6, c5, c4, c3, c2, c1, b2]
    rfl
  have eT : setS (setS (setS (setS (setS (setS (setS tNew 0 v0) 1 v1) 2 v2) 3 v3) 4 v4) 5 v5) 6 v6 = mkT (Sd v0 v1 v2 v3 v4 v5 v6) (Pd co 0) := rfl
  have e : loopS tx n 600 u0 tNew = loopS tx n 594 u6 (mkT (Sd v0 v1 v2 v3 v4 v5 v6) (Pd co 0)) := by
    rw [g1 599, g2 598, g3 597, g4 596, g5 595, g6 594, eT]
  rw [e]
  exact starts_rd (S := Sd v0 v1 v2 v3 v4 v5 v6) (by rw [d0]; omega) (by rw [d0]; omega) hco ns 0 594 u6 (Nat.zero_add _) (by omega) hv5 b4 b1
