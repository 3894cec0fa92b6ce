/-! Contest values that say the same; acts taken back. -/
def TEq (T T' : CT) : Prop := (∀ j, j < 7 → tS T j = tS T' j) ∧ (∀ j, tP T j = tP T' j) ∧ tN T = tN T' ∧ (∀ j, j < tN T → tC T j = tC T' j ∧ tQ T j = tQ T' j) ∧ (∀ p, p < 2 → tK T p = tK T' p) ∧ (∀ p i f, p < 2 → i < tK T p → f < 6 → tL T p i f = tL T' p i f) ∧ tO T = tO T' ∧ tB T = tB T'
theorem TEq.rf {T : CT} : TEq T T := ⟨fun _ _ => rfl, fun _ => rfl, rfl, fun _ _ => ⟨rfl, rfl⟩, fun _ _ => rfl, fun _ _ _ _ _ _ => rfl, rfl, rfl⟩
theorem TEq.symm {T T' : CT} (h : TEq T T') : TEq T' T := by
  obtain ⟨h1, h2, h3, h4, h5, h6, h7, h8⟩ := h
  exact ⟨fun j hj => (h1 j hj).symm, fun j => (h2 j).symm, h3.symm, fun j hj => ⟨(h4 j (by omega)).1.symm, (h4 j (by omega)).2.symm⟩, fun p hp => (h5 p hp).symm, fun p i f hp hi hf => (h6 p i f hp (by rw [h5 p hp]; exact hi) hf).symm, h7.symm, h8.symm⟩
theorem TEq.trans {T T' T2 : CT} (h : TEq T T') (g : TEq T' T2) : TEq T T2 := by
  obtain ⟨h1, h2, h3, h4, h5, h6, h7, h8⟩ := h
  obtain ⟨g1, g2, g3, g4, g5, g6, g7, g8⟩ := g
  exact ⟨fun j hj => (h1 j hj).trans (g1 j hj), fun j => (h2 j).trans (g2 j), h3.trans g3, fun j hj => ⟨(h4 j hj).1.trans (g4 j (by omega)).1, (h4 j hj).2.trans (g4 j (by omega)).2⟩, fun p hp => (h5 p hp).trans (g5 p hp), fun p i f hp hi hf => (h6 p i f hp hi hf).trans (g6 p i f hp (by rw [← h5 p hp]; exact hi) hf), h7.trans g7, h8.trans g8⟩
theorem Ct.teq {T T' : CT} {M : Mem} {c : Nat} (h : Ct T M c) (e : TEq T T') : Ct T' M c := by
  obtain ⟨h1, h2, h3, h4, h5, h6, h7, h8⟩ := h
  obtain ⟨e1, e2, e3, e4, e5, e6, e7, e8⟩ := e
  exact ⟨fun j hj => (h1 j hj).trans (e1 j hj), fun j hj => (h2 j hj).trans (e2 j), by rw [h3, e3], fun j hj => ⟨(h4 j (by omega)).1.trans (e4 j (by omega)).1, (h4 j (by omega)).2.trans (e4 j (by omega)).2⟩, fun p hp => by rw [h5 p hp, e5 p hp], fun p i f hp hi hf => (h6 p i f hp (by rw [e5 p hp]; exact hi) hf).trans (e6 p i f hp (by rw [e5 p hp]; exact hi) hf), h7.trans e7, h8.trans e8⟩
theorem termsOf_cong2 {a b : Nat → Int} {p : Int} {n : Nat} (h : ∀ j, j < n → a j = b j) : termsOfF a p n = termsOfF b p n := termsOf_cong n h
theorem RowT.teq {T T' : CT} {r : Nat → Int} (h : RowT T r) (e : TEq T T') : RowT T' r := by
  obtain ⟨⟨hS, hN, h10, hP, hp3, hL, hK, h99, hm⟩, h8, h9⟩ := h
  obtain ⟨e1, e2, e3, e4, e5, e6, e7, e8⟩ := e
  have on : ∀ p, termsOnF (tC T) (tQ T) p (tN T) = termsOnF (tC T') (tQ T') p (tN T') := fun p => by
    rw [← e3]
    exact termsOn_cong _ e4
  have la : ∀ p, lastF T p = lastF T' p := fun p => by
    show lastT (tC T) (tQ T) p (tN T) = lastT (tC T') (tQ T') p (tN T')
    rw [← e3]
    exact lastT_cong _ e4
  have of9 : ∀ p, termsOfF (tC T) p (tN T) = termsOfF (tC T') p (tN T') := fun p => by
    rw [← e3]
    exact termsOf_cong _ (fun j hj => (e4 j hj).1)
  have by9 : ∀ p, byF T p = byF T' p := fun p => by
    unfold byF
    rw [la p]
  have pa : pasF T = pasF T' := by
    unfold pasF
    rw [← e3]
    by_cases hn : 0 < tN T
    · rw [(e4 (tN T - 1) (by omega)).1]
    · rw [if_neg (fun z => hn z.1), if_neg (fun z => hn z.1)]
  refine ⟨⟨fun j hj => (hS j hj).trans (e1 j hj), by rw [hN, e3], h10.trans pa, fun p hp => (hP p hp).trans (e2 p), fun p hp => ⟨(hp3 p hp).1.trans (on p), (hp3 p hp).2.1.trans (la p), (hp3 p hp).2.2.trans (by9 p)⟩, fun pl i f h1 h2 h3 => (hL pl i f h1 (by rw [e5 pl h1]; exact h2) h3).trans (e6 pl i f h1 (by rw [e5 pl h1]; exact h2) h3), fun pl h1 => ⟨by rw [(hK pl h1).1, e5 pl h1], (hK pl h1).2.trans (of9 pl)⟩, by rw [h99, of9, of9, e3], fun j hj => ?_⟩, h8.trans e7, h9.trans e8⟩
  obtain ⟨c1, c2⟩ := e4 j (by omega)
  obtain ⟨m1, m2, m3⟩ := hm j (by omega)
  rw [← c1, ← c2]
  exact ⟨m1, m2, m3⟩
theorem TEq.hc {T T' : CT} (e : TEq T T') (h : hasClaim T) : hasClaim T' := by
  obtain ⟨e1, e2, e3, e4, e5, e6, e7, e8⟩ := e
  obtain ⟨h1, h2⟩ := h
  have hm : tN T % 2 < 2 := Nat.mod_lt _ (by decide)
  have hk := e5 _ hm
  refine ⟨by rw [← e3, ← hk]; exact h1, ?_⟩
  rw [← e3, ← hk, ← e6 _ _ 5 hm (by omega) (by omega)]
  exact h2
/-- taking back respects it -/
theorem TEq.back {T T' : CT} (e : TEq T T') (hb : hasClaim T ∨ 0 < tN T) : TEq (tBack T) (tBack T') := by
  have hce := e.hc
  have hce2 := e.symm.hc
  obtain ⟨e1, e2, e3, e4, e5, e6, e7, e8⟩ := id e
  unfold tBack
  by_cases hc : hasClaim T
  · rw [if_pos hc, if_pos (hce hc)]
    refine ⟨e1, e2, e3, e4, fun p hp => ?_, fun p i f hp hi hf => ?_, e7, e8⟩
    · show (if p = tN T % 2 then tK T p - 1 else tK T p) = (if p = tN T' % 2 then tK T' p - 1 else tK T' p)
      rw [← e3, e5 p hp]
    · have hi2 : i < tK T p := by
        have h9 : i < (if p = tN T % 2 then tK T p - 1 else tK T p) := hi
        by_cases e9 : p = tN T % 2
        · rw [if_pos e9] at h9
          omega
        · rw [if_neg e9] at h9
          exact h9
      show (if p = tN T % 2 ∧ i = tK T p - 1 then (fun _ => (0 : Int)) else tL T p i) f = (if p = tN T' % 2 ∧ i = tK T' p - 1 then (fun _ => (0 : Int)) else tL T' p i) f
      rw [← e3, ← e5 p hp]
      by_cases e9 : p = tN T % 2 ∧ i = tK T p - 1
      · rw [if_pos e9, if_pos e9]
      · rw [if_neg e9, if_neg e9]
        exact e6 p i f hp hi2 hf
  · have hn : 0 < tN T := hb.resolve_left hc
    rw [if_neg hc, if_neg (fun z => hc (hce2 z))]
    obtain ⟨c1, c2⟩ := e4 (tN T - 1) (by omega)
    refine ⟨e1, fun j => ?_, ?_, fun j hj => ?_, e5, e6, rfl, rfl⟩
    · show fup (tP T) (tQ T (tN T - 1)).toNat (tP T (tQ T (tN T - 1)).toNat - tC T (tN T - 1)) j = fup (tP T') (tQ T' (tN T' - 1)).toNat (tP T' (tQ T' (tN T' - 1)).toNat - tC T' (tN T' - 1)) j
      rw [← e3, ← c1, ← c2, ← e2]
      unfold fup
      rw [e2 j]
    · show tN T - 1 = tN T' - 1
      rw [e3]
    · have hj2 : j < tN T - 1 := hj
      show fup (tC T) (tN T - 1) 0 j = fup (tC T') (tN T' - 1) 0 j ∧ fup (tQ T) (tN T - 1) 0 j = fup (tQ T') (tN T' - 1) 0 j
      rw [← e3, fup_ne (by omega), fup_ne (by omega), fup_ne (by omega), fup_ne (by omega)]
      exact e4 j (by omega)
theorem term_noclaim {T : CT} {x : Int} {p : Nat} (hW : WfT T) : ¬ hasClaim (tTerm T x p) := by
  intro h
  obtain ⟨h1, h2⟩ := h
  have h3 : 0 < tK T ((tN T + 1) % 2) := h1
  have h4 : tL T ((tN T + 1) % 2) (tK T ((tN T + 1) % 2) - 1) 5 = ((tN T + 1 : Nat) : Int) := h2
  have hl := hW.2.2.2.2.2.1 ((tN T + 1) % 2) (tK T ((tN T + 1) % 2) - 1) (Nat.mod_lt _ (by decide)) (by omega)
  have := hl.2.2.2.2.2.2.2.2.2
  omega
/-- a term or a pass, taken back -/
theorem back_term {T : CT} {x : Int} {p : Nat} (hW : WfT T) (hO : tO T = 0) (hB : tB T = -1) : TEq (tBack (tTerm T x p)) T := by
  unfold tBack
  rw [if_neg (term_noclaim hW)]
  have q1 : tQ (tTerm T x p) (tN (tTerm T x p) - 1) = (p : Int) := fup_at
  have q2 : tC (tTerm T x p) (tN (tTerm T x p) - 1) = x := fup_at
  rw [q1, q2, Int.toNat_natCast]
  refine ⟨fun _ _ => rfl, fun j => ?_, rfl, fun j hj => ?_, fun _ _ => rfl, fun _ _ _ _ _ _ => rfl, hO.symm, hB.symm⟩
  · show fup (fup (tP T) p (tP T p + x)) p (fup (tP T) p (tP T p + x) p - x) j = tP T j
    by_cases e : j = p
    · subst e
      rw [fup_at, fup_at]
      omega
    · rw [fup_ne e, fup_ne e]
  · have hj2 : j < tN T := hj
    show fup (fup (tC T) (tN T) x) (tN T) 0 j = tC T j ∧ fup (fup (tQ T) (tN T) p) (tN T) 0 j = tQ T j
    rw [fup_ne (by omega), fup_ne (by omega), fup_ne (by omega), fup_ne (by omega)]
    exact ⟨rfl, rfl⟩
/-- a claim, taken back -/
theorem back_claim {T : CT} {a b r l s : Int} : hasClaim (tClaim T a b r l s) ∧ TEq (tBack (tClaim T a b r l s)) T := by
  have kk : tK (tClaim T a b r l s) (tN T % 2) = tK T (tN T % 2) + 1 := if_pos rfl
  have hc : hasClaim (tClaim T a b r l s) := by
    refine ⟨by show 0 < tK (tClaim T a b r l s) (tN T % 2); omega, ?_⟩
    show tL (tClaim T a b r l s) (tN T % 2) (tK (tClaim T a b r l s) (tN T % 2) - 1) 5 = (tN T : Int)
    rw [kk, Nat.add_sub_cancel]
    show (if tN T % 2 = tN T % 2 ∧ tK T (tN T % 2) = tK T (tN T % 2) then mkL a b r l s (tN T) else tL T (tN T % 2) (tK T (tN T % 2))) 5 = (tN T : Int)
    rw [if_pos ⟨rfl, rfl⟩]
    rfl
  refine ⟨hc, ?_⟩
  unfold tBack
  rw [if_pos hc]
  refine ⟨fun _ _ => rfl, fun _ => rfl, rfl, fun _ _ => ⟨rfl, rfl⟩, fun p hp => ?_, fun p i f hp hi hf => ?_, rfl, rfl⟩
  · show (if p = tN T % 2 then (if p = tN T % 2 then tK T p + 1 else tK T p) - 1 else (if p = tN T % 2 then tK T p + 1 else tK T p)) = tK T p
    by_cases e : p = tN T % 2
    · rw [if_pos e, if_pos e]
      omega
    · rw [if_neg e, if_neg e]
  · have hi9 : i < (if p = tN T % 2 then (if p = tN T % 2 then tK T p + 1 else tK T p) - 1 else (if p = tN T % 2 then tK T p + 1 else tK T p)) := hi
    show (if p = tN T % 2 ∧ i = (if p = tN T % 2 then tK T p + 1 else tK T p) - 1 then (fun _ => (0 : Int)) else (if p = tN T % 2 ∧ i = tK T p then mkL a b r l s (tN T) else tL T p i)) f = tL T p i f
    by_cases e : p = tN T % 2
    · rw [if_pos e, if_pos e] at hi9
      rw [if_neg (fun z => by rw [if_pos e] at z; omega), if_neg (fun z => by omega)]
    · rw [if_neg (fun z => e z.1), if_neg (fun z => e z.1)]
