/-! The undo stack of the reference against the class's value. -/
def InvT (T : CT) : Prop := WfT T ∧ WfO T ∧ WfB T
/-- what stands above entry i -/
def nxH (H : Nat → CT) (u : Nat) (T : CT) (i : Nat) : CT := if i + 1 = u then T else H (i + 1)
def Hs (H : Nat → CT) (u : Nat) (T : CT) : Prop := u ≤ 12 ∧ ∀ i, i < u → InvT (H i) ∧ (hasClaim (nxH H u T i) ∨ 0 < tN (nxH H u T i)) ∧ TEq (tBack (nxH H u T i)) (H i)
theorem Hs.none {H : Nat → CT} {T : CT} : Hs H 0 T := ⟨by omega, fun i hi => absurd hi (by omega)⟩
theorem Hs.push {H : Nat → CT} {u : Nat} {T T2 : CT} (h : Hs H u T) (hI : InvT T) (h1 : hasClaim T2 ∨ 0 < tN T2) (h2 : TEq (tBack T2) T) : Hs (pushH H u T) (pushU u) T2 := by
  obtain ⟨hu, hs⟩ := h
  unfold pushU
  by_cases e : u = 12
  · rw [if_pos e]
    refine ⟨by omega, fun i hi => ?_⟩
    have pv : ∀ j, pushH H u T j = if j = 11 then T else H (j + 1) := fun j => by unfold pushH; rw [if_pos e]
    by_cases e1 : i = 11
    · have n1 : nxH (pushH H u T) 12 T2 i = T2 := by unfold nxH; rw [if_pos (by omega)]
      rw [n1, pv, if_pos e1]
      exact ⟨hI, h1, h2⟩
    · have n1 : nxH (pushH H u T) 12 T2 i = nxH H u T (i + 1) := by
        unfold nxH
        rw [if_neg (by omega), pv]
        by_cases e2 : i + 1 = 11
        · rw [if_pos e2, if_pos (by omega)]
        · rw [if_neg e2, if_neg (by omega)]
      rw [n1, pv, if_neg e1]
      exact hs (i + 1) (by omega)
  · rw [if_neg e]
    refine ⟨by omega, fun i hi => ?_⟩
    have pv : ∀ j, pushH H u T j = if j = u then T else H j := fun j => by unfold pushH; rw [if_neg e]
    by_cases e1 : i = u
    · have n1 : nxH (pushH H u T) (u + 1) T2 i = T2 := by unfold nxH; rw [if_pos (by omega)]
      rw [n1, pv, if_pos e1]
      exact ⟨hI, h1, h2⟩
    · have n1 : nxH (pushH H u T) (u + 1) T2 i = nxH H u T i := by
        unfold nxH
        rw [if_neg (by omega), pv]
      rw [n1, pv, if_neg e1]
      exact hs i (by omega)
theorem Hs.pop {H : Nat → CT} {u : Nat} {T : CT} (h : Hs H u T) (h0 : 0 < u) : (InvT (H (u - 1)) ∧ (hasClaim T ∨ 0 < tN T) ∧ TEq (tBack T) (H (u - 1))) ∧ Hs H (u - 1) (H (u - 1)) := by
  obtain ⟨hu, hs⟩ := h
  refine ⟨?_, by omega, fun i hi => ?_⟩
  · have h9 := hs (u - 1) (by omega)
    have n1 : nxH H u T (u - 1) = T := by unfold nxH; rw [if_pos (by omega)]
    rw [n1] at h9
    exact h9
  · have h9 := hs i (by omega)
    have n1 : nxH H (u - 1) (H (u - 1)) i = nxH H u T i := by
      unfold nxH
      rw [if_neg (show ¬ i + 1 = u by omega)]
      by_cases e : i + 1 = u - 1
      · rw [if_pos e, e]
      · rw [if_neg e]
    rw [n1]
    exact h9
/-- the value may be put in another's place that says the same -/
theorem Hs.teq {H : Nat → CT} {u : Nat} {T T2 : CT} (h : Hs H u T) (e : TEq T2 T) : Hs H u T2 := by
  obtain ⟨hu, hs⟩ := h
  refine ⟨hu, fun i hi => ?_⟩
  obtain ⟨a1, a2, a3⟩ := hs i hi
  unfold nxH at a2 a3 ⊢
  by_cases e1 : i + 1 = u
  · rw [if_pos e1] at a2 a3 ⊢
    have b2 : hasClaim T2 ∨ 0 < tN T2 := a2.imp (fun z => e.symm.hc z) (fun z => by rw [e.2.2.1]; exact z)
    exact ⟨a1, b2, (e.back b2).trans a3⟩
  · rw [if_neg e1] at a2 a3 ⊢
    exact ⟨a1, a2, a3⟩
theorem term_inv {T : CT} {x : Int} {p : Nat} (hW : WfT T) (hO : tO T = 0) (hB : WfB T) : WfB (tTerm T x p) := by
  refine ⟨fun h => ?_, fun h => absurd h (term_noclaim hW)⟩
  have h9 : (if endP (tLay T x p) x then (1 : Int) else 0) = 0 := h
  show (if reachP (tLay T x p) x then ((tN T % 2 : Nat) : Int) else tB T) = -1
  by_cases e : reachP (tLay T x p) x
  · rw [if_pos (Or.inl e)] at h9
    exact absurd h9 (by decide)
  · rw [if_neg e]
    exact hB.1 hO
theorem whyLay_ok {T : CT} {x : Int} {p : Nat} (h : WfT T) (z : whyLayF T x p = 0) : tO T = 0 := (why00 h z).1
theorem whyClaim_ok {T : CT} {a b s : Int} (h : WfT T) (z : whyClaimF T a b s = 0) : tO T = 0 := by
  unfold whyClaimF at z
  have h9 := h.2.2.2.2.2.2.1
  by_cases e : tO T = 1
  · rw [if_pos e] at z
    exact absurd z (by decide)
  · omega
theorem actLay_hs {T : CT} {H : Nat → CT} {u p : Nat} {x : Int} (hI : InvT T) (hH : Hs H u T) (hx : layab x) (hp : (p : Int) < tS T 0) : InvT (actLay T x p) ∧ Hs (if whyLayF T x p = 0 then pushH H u T else H) (if whyLayF T x p = 0 then pushU u else u) (actLay T x p) := by
  obtain ⟨hW, hO, hB⟩ := id hI
  have hw := actLay_wf hW hO hx hp
  by_cases z : whyLayF T x p = 0
  · have h0 := whyLay_ok hW z
    have ea : actLay T x p = tTerm T x p := if_pos z
    rw [if_pos z, if_pos z]
    refine ⟨⟨hw.1, hw.2.1, ?_⟩, hH.push hI ?_ ?_⟩
    · rw [ea]; exact term_inv hW h0 hB
    · rw [ea]; exact Or.inr (by show 0 < tN T + 1; omega)
    · rw [ea]; exact back_term hW h0 (hB.1 h0)
  · have ea : actLay T x p = T := if_neg z
    rw [if_neg z, if_neg z, ea]
    exact ⟨hI, hH⟩
theorem actPass_hs {T : CT} {H : Nat → CT} {u : Nat} (hI : InvT T) (hH : Hs H u T) : InvT (actPass T) ∧ Hs (if (if tO T = 1 then 1 else 0 : Int) = 0 then pushH H u T else H) (if (if tO T = 1 then 1 else 0 : Int) = 0 then pushU u else u) (actPass T) := by
  obtain ⟨hW, hO, hB⟩ := id hI
  have hw := actPass_wf hW hO
  have h9 := hW.2.2.2.2.2.2.1
  by_cases z : tO T = 1
  · have ea : actPass T = T := if_pos z
    have e1 : ¬ (if tO T = 1 then 1 else 0 : Int) = 0 := by rw [if_pos z]; decide
    rw [if_neg e1, if_neg e1, ea]
    exact ⟨hI, hH⟩
  · have h0 : tO T = 0 := by omega
    have ea : actPass T = tTerm T 0 0 := if_neg z
    have e1 : (if tO T = 1 then 1 else 0 : Int) = 0 := if_neg z
    rw [if_pos e1, if_pos e1]
    refine ⟨⟨hw.1, hw.2.1, ?_⟩, hH.push hI ?_ ?_⟩
    · rw [ea]; exact term_inv hW h0 hB
    · rw [ea]; exact Or.inr (by show 0 < tN T + 1; omega)
    · rw [ea]; exact back_term hW h0 (hB.1 h0)
theorem actClaim_hs {T : CT} {H : Nat → CT} {u : Nat} {a b r l s : Int} (hI : InvT T) (hH : Hs H u T) (hi : intvP a b) (hr : 0 ≤ r ∧ r ≤ 4) (hl : 0 ≤ l ∧ l ≤ 1) (hs : 1 ≤ s ∧ s ≤ 9) : InvT (actClaim T a b r l s) ∧ Hs (if whyClaimF T a b s = 0 then pushH H u T else H) (if whyClaimF T a b s = 0 then pushU u else u) (actClaim T a b r l s) := by
  obtain ⟨hW, hO, hB⟩ := id hI
  have hw := actClaim_wf hW hO hi hr hl hs
  by_cases z : whyClaimF T a b s = 0
  · have h0 := whyClaim_ok hW z
    have ea : actClaim T a b r l s = tClaim T a b r l s := if_pos z
    rw [if_pos z, if_pos z]
    obtain ⟨c1, c2⟩ := @back_claim T a b r l s
    refine ⟨⟨hw.1, hw.2.1, ?_⟩, hH.push hI ?_ ?_⟩
    · rw [ea]; exact ⟨fun h => hB.1 h, fun _ => h0⟩
    · rw [ea]; exact Or.inl c1
    · rw [ea]; exact c2
  · have ea : actClaim T a b r l s = T := if_neg z
    rw [if_neg z, if_neg z, ea]
    exact ⟨hI, hH⟩
theorem cmd_hs {T : CT} {H : Nat → CT} {u j : Nat} {cm : Nat → Int} (hI : InvT T) (hH : Hs H u T) (hc : CmdOK (tS T 0) cm j) : InvT (cmdT T cm j) ∧ Hs (if cmdR T cm j = 0 then pushH H u T else H) (if cmdR T cm j = 0 then pushU u else u) (cmdT T cm j) := by
  unfold cmdR cmdT
  rcases hc with ⟨c0, c1, c2, c3⟩ | ⟨c0, c1, c2, c3, c4⟩ | c0
  · rw [if_pos c0, if_pos c0]
    exact actLay_hs hI hH c1 (by omega)
  · have n0 : ¬ cm (6 * j) = 0 := by omega
    simp only [if_neg n0, if_pos c0]
    exact actClaim_hs hI hH c1 c2 c3 c4
  · have n0 : ¬ cm (6 * j) = 0 := by omega
    have n1 : ¬ cm (6 * j) = 1 := by omega
    simp only [if_neg n0, if_neg n1]
    exact actPass_hs hI hH
/-- a script done keeps both counts and the stack -/
theorem loop_hs {cm : Nat → Int} : ∀ (c j : Nat) (T : CT) (A : Nat → Int) (H : Nat → CT) (u : Nat), InvT T → Hs H u T → (∀ i, j ≤ i → i < j + c → CmdOK (tS T 0) cm i) → InvT (loopP cm c j T A u).2.1 ∧ Hs (loopH cm c j T H u).1 (loopH cm c j T H u).2 (loopP cm c j T A u).2.1 ∧ ((loopH cm c j T H u).2 : Int) = (loopP cm c j T A u).2.2.2
  | 0, j, T, A, H, u, hI, hH, _ => ⟨hI, hH, rfl⟩
  | c + 1, j, T, A, H, u, hI, hH, hc => by
    have h1 := cmd_hs hI hH (hc j (by omega) (by omega))
    simp only [loopP, loopH]
    by_cases z : cmdR T cm j = 0
    · rw [if_neg (fun q => q z), if_neg (fun q => q z)]
      rw [if_pos z, if_pos z] at h1
      have hwf := cmd_wf hI.1 hI.2.1 (hc j (by omega) (by omega))
      have eu : undF (u : Int) (cmdR T cm j) = ((pushU u : Nat) : Int) := by
        have hu := hH.1
        unfold undF pushU
        by_cases e : u = 12
        · rw [if_neg (by omega), if_pos e]
          omega
        · rw [if_pos ⟨z, by omega⟩, if_neg e]
          omega
      rw [eu]
      exact loop_hs c (j + 1) (cmdT T cm j) _ _ _ h1.1 h1.2 (fun i a b => by rw [hwf.2.2]; exact hc i (by omega) (by omega))
    · rw [if_pos z, if_pos z]
      rw [if_neg z, if_neg z] at h1
      exact ⟨h1.1, h1.2, by show (u : Int) = undF (u : Int) (cmdR T cm j); unfold undF; rw [if_neg (fun q => z q.1)]⟩
