/-! What a term, a pass, a claim make of the picture. -/
theorem fup_s9 (f : Nat → Int) (n : Nat) (x : Int) : fup f n x n = x := by unfold fup; rw [if_pos rfl]
theorem fup_n9 (f : Nat → Int) {n m : Nat} (x : Int) (h : m ≠ n) : fup f n x m = f m := by unfold fup; rw [if_neg h]
theorem lastT_fup (mc mp : Nat → Int) (n : Nat) (x y p : Int) : ∀ m : Nat, m ≤ n → lastT (fup mc n x) (fup mp n y) p m = lastT mc mp p m
  | 0, _ => rfl
  | m + 1, h => by
    simp only [lastT]
    rw [lastT_fup mc mp n x y p m (by omega), fup_n9 _ _ (by omega), fup_n9 _ _ (by omega)]
theorem lastF_term {T : CT} {x : Int} {p q : Nat} : lastF (tTerm T x p) (q : Nat) = if x ≠ 0 ∧ p = q then (tN T : Int) else lastF T (q : Nat) := by
  show lastT (fup (tC T) (tN T) x) (fup (tQ T) (tN T) (p : Nat)) (q : Nat) (tN T + 1) = _
  simp only [lastT]
  rw [lastT_fup _ _ _ _ _ _ _ (Nat.le_refl _), fup_s9, fup_s9]
  by_cases h : x ≠ 0 ∧ p = q
  · rw [if_pos h, if_pos ⟨h.1, by omega⟩]
  · rw [if_neg h, if_neg (fun k => h ⟨k.1, by omega⟩)]
theorem laF_term {T : CT} {x : Int} {p q : Nat} : laF (tTerm T x p) q = if x ≠ 0 ∧ p = q then (tN T : Int) else laF T q := by
  unfold laF
  rw [lastF_term]
  by_cases h : x ≠ 0 ∧ p = q
  · rw [if_pos h, if_pos h, if_neg (by omega)]
  · rw [if_neg h, if_neg h]
theorem barredF_all (T : CT) : ∀ n : Nat, barredF T n = n ↔ ∀ p, p < n → isBar T (p : Nat)
  | 0 => by simp [barredF]
  | n + 1 => by
    have h1 := barredF_rng T n
    have h2 := barredF_all T n
    simp only [barredF]
    constructor
    · intro h p hp
      split at h
      · rename_i hb
        by_cases c : p = n
        · subst c
          exact hb
        · exact h2.mp (by omega) p (by omega)
      · omega
    · intro h
      rw [if_pos (h n (by omega))]
      have := h2.mpr (fun p hp => h p (by omega))
      omega
theorem end_iff {T : CT} {pw p : Nat} {x : Int} (hP : PwR T pw) (hN : (tN T : Int) < tS T 2) : endP (tLay T x p) x ↔ (reachP (tLay T x p) x ∨ (tN T : Int) + 1 = tS T 2 ∨ (x = 0 ∧ hpF T = 1) ∨ allQ pw (tS T) (laF (tTerm T x p)) (tN T + 1)) := by
  have e1 : (tS T 2 ≤ ((tN T + 1 : Nat) : Int)) ↔ (tN T : Int) + 1 = tS T 2 := by omega
  have e2 : (2 ≤ tN T + 1 ∧ fup (tC T) (tN T) x (tN T + 1 - 1) = 0 ∧ fup (tC T) (tN T) x (tN T + 1 - 2) = 0) ↔ (x = 0 ∧ hpF T = 1) := by
    unfold hpF
    constructor
    · intro ⟨h1, h2, h3⟩
      rw [show tN T + 1 - 1 = tN T by omega, fup_s9] at h2
      rw [show tN T + 1 - 2 = tN T - 1 by omega, fup_n9 _ _ (by omega)] at h3
      exact ⟨h2, if_pos ⟨by omega, h3⟩⟩
    · intro ⟨h1, h2⟩
      split at h2
      · rename_i h3
        refine ⟨by omega, ?_, ?_⟩
        · rw [show tN T + 1 - 1 = tN T by omega, fup_s9]
          exact h1
        · rw [show tN T + 1 - 2 = tN T - 1 by omega, fup_n9 _ _ (by omega)]
          exact h3.2
      · omega
  have e3 : (barredF (tLay T x p) (tS T 0).toNat = tS T 0) ↔ allQ pw (tS T) (laF (tTerm T x p)) (tN T + 1) := by
    rw [← hP.1, Int.toNat_natCast, barredF_all]
    unfold allQ
    constructor
    · intro h q hq
      exact bar_iff (T := tLay T x p).mpr (h q hq)
    · intro h q hq
      exact bar_iff (T := tLay T x p).mp (h q hq)
  show (reachP (tLay T x p) x ∨ tS T 2 ≤ ((tN T + 1 : Nat) : Int) ∨ (2 ≤ tN T + 1 ∧ fup (tC T) (tN T) x (tN T + 1 - 1) = 0 ∧ fup (tC T) (tN T) x (tN T + 1 - 2) = 0) ∨ barredF (tLay T x p) (tS T 0).toNat = tS T 0) ↔ _
  rw [e1, e2, e3]
theorem hpF_term {T : CT} {x : Int} {p : Nat} : hpF (tTerm T x p) = if x = 0 then 1 else 0 := by
  show (if 0 < tN T + 1 ∧ fup (tC T) (tN T) x (tN T + 1 - 1) = 0 then (1 : Int) else 0) = _
  rw [show tN T + 1 - 1 = tN T by omega, fup_s9]
  by_cases h : x = 0
  · rw [if_pos h, if_pos ⟨by omega, h⟩]
  · rw [if_neg h, if_neg (fun q => h q.2)]
theorem noClaim_term {T : CT} {x : Int} {p : Nat} (hW : WfT T) : ¬ hasClaim (tTerm T x p) := by
  intro h
  obtain ⟨h1, h2⟩ := h
  change 0 < tK T ((tN T + 1) % 2) at h1
  change tL T ((tN T + 1) % 2) (tK T ((tN T + 1) % 2) - 1) 5 = ((tN T + 1 : Nat) : Int) at h2
  have h3 := hW.2.2.2.2.2.1 ((tN T + 1) % 2) (tK T ((tN T + 1) % 2) - 1) (by omega) (by omega)
  unfold WfL at h3
  omega
theorem LInv.term {T : CT} {pw p : Nat} {x hc : Int} (hW : WfT T) (hV : LInv T pw hc) (h0 : tO T = 0) (hp : p < pw) (hO2 : WfO (tTerm T x p)) : LInv (tTerm T x p) pw 0 := by
  obtain ⟨hO, hB, hNc, hh, hP⟩ := hV
  refine ⟨hO2, fun h => ?_, fun _ => noClaim_term hW, ⟨Or.inl rfl, fun _ => ⟨fun h => absurd h (by decide), fun h => absurd h (noClaim_term hW)⟩⟩, hP.1, fun j hj => ?_⟩
  · have hn : ¬ endP (tLay T x p) x := fun q => by
      have : tO (tTerm T x p) = 1 := if_pos q
      omega
    show (if reachP (tLay T x p) x then ((tN T % 2 : Nat) : Int) else tB T) = -1
    rw [if_neg (fun q => hn (Or.inl q))]
    exact hB h0
  · show fup (tP T) p (tP T p + x) j = 0
    rw [fup_n9 _ _ (by omega)]
    exact hP.2 j hj
/-- runs of commands, each done -/
def runC (cm : Nat → Int) (T0 : CT) : Nat → CT
  | 0 => T0
  | n + 1 => cmdT (runC cm T0 n) cm n
def Hist (T0 T : CT) (m : Nat) : Prop := ∃ cm n, n ≤ m ∧ (∀ j, j < n → CmdOK (tS T0 0) cm j ∧ cmdR (runC cm T0 j) cm j = 0) ∧ T = runC cm T0 n
theorem Hist.up {T0 T : CT} {m m2 : Nat} (h : Hist T0 T m) (hm : m ≤ m2) : Hist T0 T m2 := by
  obtain ⟨cm, n, h1, h2, h3⟩ := h
  exact ⟨cm, n, by omega, h2, h3⟩

