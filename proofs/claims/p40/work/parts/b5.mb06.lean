/-! The surplus is even. -/
theorem sh_at {P : Nat → Int} {d : Nat} (hd : d ≤ 4) (hz : ∀ i, d < i → P i = 0) (x : Int) : shP P x d = P d := by
  obtain ⟨-, e0, e1, e2, e3, e4⟩ := der_sh P x
  rcases (show d = 0 ∨ d = 1 ∨ d = 2 ∨ d = 3 ∨ d = 4 by omega) with rfl | rfl | rfl | rfl | rfl
  · rw [e0, hz 1 (by decide), hz 2 (by decide), hz 3 (by decide), hz 4 (by decide)]
    simp
  · rw [e1, hz 2 (by decide), hz 3 (by decide), hz 4 (by decide)]
    simp
  · rw [e2, hz 3 (by decide), hz 4 (by decide)]
    simp
  · rw [e3, hz 4 (by decide)]
    simp
  · exact e4
theorem der_par {P : Nat → Int} (hP : WfP P) (ht : topW P 9 ≠ 0) (x : Int) : (chZ (fun i => sg (shP P x i)) 5).1 % 2 = if uR P x = sg (P (topW P 9 - 1)) then 0 else 1 := by
  have t5 := topW_95 (fun j hj => (hP j).2.2 hj)
  have tle := topW_le P 5
  have tn := top_nz ht
  have zd : ∀ i, topW P 9 - 1 < i → P i = 0 := fun i hi => topW_zd hP.zd i hi
  obtain ⟨d, hd⟩ : ∃ d, topW P 9 = d + 1 := ⟨topW P 9 - 1, by omega⟩
  rw [hd, Nat.add_sub_cancel] at tn zd
  have d4 : d ≤ 4 := by omega
  have e1 : fz (fun i => sg (shP P x i)) 5 = uR P x := by
    rw [fz_up]
    unfold uR sgnUp
    rw [hd, Nat.add_sub_cancel]
    have := upS_4 (x := x) d4 (d + 1) 0 P (by omega) zd
    rw [show d + 1 + (4 - d) = 5 by omega] at this
    rw [this]
    congr 1
    funext i
    simp
  have s3 : ∀ i, sg (shP P x i) = 1 ∨ sg (shP P x i) = -1 ∨ sg (shP P x i) = 0 := fun i => sg3
  have snz : sg (P d) ≠ 0 := fun h => tn (by
    unfold sg at h
    split at h
    · omega
    · split at h <;> omega)
  have e2 : (chZ (fun i => sg (shP P x i)) 5).2 = sg (P d) := by
    rw [chZ_tail (s := fun i => sg (shP P x i)) (t := d + 1) 5 (by omega) (fun i h1 h2 => by
      show sg (shP P x i) = 0
      rw [sh_top x (by omega) h2]
      rfl)]
    have e : chZ (fun i => sg (shP P x i)) (d + 1) = if sg (shP P x d) ≠ 0 then (if (chZ (fun i => sg (shP P x i)) d).2 = - sg (shP P x d) then (chZ (fun i => sg (shP P x i)) d).1 + 1 else (chZ (fun i => sg (shP P x i)) d).1, sg (shP P x d)) else chZ (fun i => sg (shP P x i)) d := rfl
    rw [e, sh_at d4 zd, if_pos snz]
  have us := uR_s ht x
  rw [hd, Nat.add_sub_cancel]
  rcases chZ_par s3 5 with ⟨h1, -, -⟩ | ⟨h1, h2, h3⟩
  · rw [e1] at h1
    omega
  · rw [e1, e2] at h3
    exact h3
theorem sur_even {T : CT} (hW : WfT T) (ht : topW (tP T) 9 ≠ 0) (a b : Int) : (surF T a b).tmod 2 = 0 := by
  have hB := rowB hW.2.1 ht
  have p1 := der_par hW.2.1 ht a
  have p2 := der_par hW.2.1 ht b
  have t5 := topW_95 (fun j hj => (hW.2.1 j).2.2 hj)
  have tle := topW_le (tP T) 5
  have p3 := cnt_par a b 5 (tP T) hW.2.1.zd ht (by omega)
  have ua := uR_s ht a
  have ub := uR_s ht b
  have sp : sg (tP T (topW (tP T) 9 - 1)) = 1 ∨ sg (tP T (topW (tP T) 9 - 1)) = -1 := by
    have tn := top_nz ht
    unfold sg
    split
    · exact Or.inl rfl
    · split
      · exact Or.inr rfl
      · omega
  have e : surF T a b = derCh T a - derCh T b - cntF a b 5 (buildF (tP T)) := if_neg hB.1
  have h2 : surF T a b % 2 = 0 := by
    rw [e]
    unfold derCh
    generalize (chZ (fun i => sg (shP (tP T) a i)) 5).1 = A at *
    generalize (chZ (fun i => sg (shP (tP T) b i)) 5).1 = B at *
    generalize cntF a b 5 (buildF (tP T)) = N at *
    generalize uR (tP T) a = qa at *
    generalize uR (tP T) b = qb at *
    generalize sg (tP T (topW (tP T) 9 - 1)) = L at *
    split at p1 <;> split at p2 <;> split at p3 <;> omega
  exact Int.tmod_eq_zero_of_dvd (Int.dvd_of_emod_eq_zero h2)
/-- what is left of the roots: the surplus is not below 0 -/
def SurNN : Prop := ∀ P : Nat → Int, WfP P → topW P 9 ≠ 0 → cntF (-4) 7 5 (buildF P) ≤ (chZ (fun i => sg (shP P (-4) i)) 5).1 - (chZ (fun i => sg (shP P 7 i)) 5).1
theorem goodRt_of (h : SurNN) : GoodRt := fun T pw hW hP => ⟨fun hz => rtZ hP hz, fun hz => by
  have hw5 : pw ≤ 5 := by
    have h1 := hP.1
    have h2 := hW.1.1
    omega
  have ht := nz_top hP hz hw5
  have hB := rowB hW.2.1 ht
  refine rtF_of hW hP hz (fun k k0 k1 => alone_F hW hP hz k k0 k1) ⟨?_, sur_even hW ht _ _⟩
  have e : surF T (-4) 7 = derCh T (-4) - derCh T 7 - cntF (-4) 7 5 (buildF (tP T)) := if_neg hB.1
  have := h (tP T) hW.2.1 ht
  rw [e]
  unfold derCh
  omega⟩
