/-! The turns written grow at their end. -/
theorem apps_all : ∀ (l pg : List Int), pg.length + l.length ≤ 1024 → apps pg l = pg ++ l
  | [], pg, _ => (List.append_nil pg).symm
  | x :: l, pg, h => by
    simp only [List.length_cons] at h
    show apps (app pg x) l = _
    have e : app pg x = pg ++ [x] := if_pos (by omega)
    rw [e, apps_all l (pg ++ [x]) (by simp only [List.length_append, List.length_cons, List.length_nil]; omega), List.append_assoc]
    rfl
def wT (T : CT) : List Int := turnsT T (tN T) ++ clmsT (tL T (tN T % 2)) (tN T) (tK T (tN T % 2))
theorem clms_none {l : Nat → Nat → Int} {t : Int} : ∀ n : Nat, (∀ i, i < n → l i 5 ≠ t) → clmsT l t n = []
  | 0, _ => rfl
  | n + 1, h => by
    simp only [clmsT]
    rw [clms_none n (fun i hi => h i (by omega)), if_neg (h n (by omega))]
    rfl
theorem clms_cong {l l2 : Nat → Nat → Int} {t : Int} : ∀ n : Nat, (∀ i, i < n → l i = l2 i) → clmsT l t n = clmsT l2 t n
  | 0, _ => rfl
  | n + 1, h => by
    simp only [clmsT]
    rw [clms_cong n (fun i hi => h i (by omega)), h n (by omega)]
theorem turns_cong {T T2 : CT} : ∀ n : Nat, (∀ j, j < n → clmsT (tL T (j % 2)) j (tK T (j % 2)) = clmsT (tL T2 (j % 2)) j (tK T2 (j % 2)) ∧ tC T j = tC T2 j ∧ tQ T j = tQ T2 j) → turnsT T n = turnsT T2 n
  | 0, _ => rfl
  | n + 1, h => by
    obtain ⟨h1, h2, h3⟩ := h n (by omega)
    simp only [turnsT]
    rw [turns_cong n (fun j hj => h j (by omega)), h1, h2, h3]
theorem wT_term {T : CT} {x : Int} {p : Nat} (hW : WfT T) : wT (tTerm T x p) = wT T ++ termF x p := by
  have e1 : clmsT (tL T ((tN T + 1) % 2)) ((tN T + 1 : Nat) : Int) (tK T ((tN T + 1) % 2)) = [] := clms_none _ (fun i hi => by
    have := hW.2.2.2.2.2.1 ((tN T + 1) % 2) i (by omega) hi
    unfold WfL at this
    omega)
  have e2 : turnsT (tTerm T x p) (tN T) = turnsT T (tN T) := turns_cong _ (fun j hj => ⟨rfl, fup_n9 _ _ (by omega), fup_n9 _ _ (by omega)⟩)
  show turnsT (tTerm T x p) (tN T) ++ (clmsT (tL T (tN T % 2)) (tN T) (tK T (tN T % 2)) ++ termF (fup (tC T) (tN T) x (tN T)) (fup (tQ T) (tN T) (p : Nat) (tN T))) ++ clmsT (tL T ((tN T + 1) % 2)) ((tN T + 1 : Nat) : Int) (tK T ((tN T + 1) % 2)) = turnsT T (tN T) ++ clmsT (tL T (tN T % 2)) (tN T) (tK T (tN T % 2)) ++ termF x p
  rw [e1, e2, fup_s9, fup_s9, List.append_nil, List.append_assoc]
theorem wT_claim {T : CT} {a b r l s : Int} : wT (tClaim T a b r l s) = wT T ++ clmT (mkL a b r l s 0) := by
  have eK : ∀ q, tK (tClaim T a b r l s) q = if q = tN T % 2 then tK T q + 1 else tK T q := fun _ => rfl
  have eL : ∀ q i, tL (tClaim T a b r l s) q i = if q = tN T % 2 ∧ i = tK T q then mkL a b r l s (tN T) else tL T q i := fun _ _ => rfl
  have g : ∀ j : Nat, clmsT (tL (tClaim T a b r l s) (tN T % 2)) j (tK (tClaim T a b r l s) (tN T % 2)) = clmsT (tL T (tN T % 2)) j (tK T (tN T % 2)) ++ (if ((tN T : Nat) : Int) = (j : Nat) then clmT (mkL a b r l s 0) else []) := fun j => by
    have e3 : tL (tClaim T a b r l s) (tN T % 2) (tK T (tN T % 2)) = mkL a b r l s (tN T) := by
      rw [eL]
      exact if_pos ⟨rfl, rfl⟩
    rw [eK, if_pos rfl]
    simp only [clmsT]
    rw [clms_cong (l2 := tL T (tN T % 2)) _ (fun i hi => by rw [eL, if_neg (by omega)]), e3]
    rfl
  have e2 : turnsT (tClaim T a b r l s) (tN T) = turnsT T (tN T) := turns_cong _ (fun j hj => ⟨by
    by_cases c : j % 2 = tN T % 2
    · rw [c, g j, if_neg (by omega), List.append_nil]
    · rw [eK, if_neg c]
      exact clms_cong _ (fun i hi => by rw [eL, if_neg (fun h => c h.1)]), rfl, rfl⟩)
  show turnsT (tClaim T a b r l s) (tN T) ++ clmsT (tL (tClaim T a b r l s) (tN T % 2)) (tN T) (tK (tClaim T a b r l s) (tN T % 2)) = _
  rw [e2, g (tN T), if_pos rfl, ← List.append_assoc]
  rfl
/-- a command's text -/
def ctx (cm : Nat → Int) (j : Nat) : List Int := if cm (6 * j) = 0 then termF (cm (6 * j + 1)) (cm (6 * j + 2)) else if cm (6 * j) = 1 then clmT (mkL (cm (6 * j + 1)) (cm (6 * j + 2)) (cm (6 * j + 3)) (cm (6 * j + 4)) (cm (6 * j + 5)) 0) else stB 14
def ctxs (cm : Nat → Int) : Nat → List Int
  | 0 => []
  | n + 1 => ctxs cm n ++ ctx cm n
theorem wT_cmd {T : CT} {cm : Nat → Int} {j : Nat} {P : Int} (hW : WfT T) (hc : CmdOK P cm j) (hr : cmdR T cm j = 0) : wT (cmdT T cm j) = wT T ++ ctx cm j := by
  unfold cmdR at hr
  unfold cmdT ctx
  by_cases c0 : cm (6 * j) = 0
  · rw [if_pos c0] at hr ⊢
    rw [if_pos c0]
    have hp : 0 ≤ cm (6 * j + 2) := by
      rcases hc with h | h | h
      · exact h.2.2.1
      · omega
      · omega
    rw [show actLay T (cm (6 * j + 1)) (cm (6 * j + 2)).toNat = tTerm T (cm (6 * j + 1)) (cm (6 * j + 2)).toNat from if_pos hr, wT_term hW, Int.toNat_of_nonneg hp]
  · rw [if_neg c0] at hr ⊢
    rw [if_neg c0]
    by_cases c1 : cm (6 * j) = 1
    · rw [if_pos c1] at hr ⊢
      rw [if_pos c1, show actClaim T (cm (6 * j + 1)) (cm (6 * j + 2)) (cm (6 * j + 3)) (cm (6 * j + 4)) (cm (6 * j + 5)) = tClaim T (cm (6 * j + 1)) (cm (6 * j + 2)) (cm (6 * j + 3)) (cm (6 * j + 4)) (cm (6 * j + 5)) from if_pos hr]
      exact wT_claim
    · rw [if_neg c1] at hr ⊢
      rw [if_neg c1]
      have ho : ¬ tO T = 1 := fun h => by
        rw [if_pos h] at hr
        exact absurd hr (by decide)
      rw [show actPass T = tTerm T 0 0 from if_neg ho, wT_term hW]
      rfl
