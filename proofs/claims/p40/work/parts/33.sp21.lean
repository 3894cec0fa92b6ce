/-! Specs of the reader: tokens. -/
/-- the reader at c has a text of n bytes, and these whole numbers in its fields -/
def Rd (tx : Nat → Int) (n : Nat) (v : Nat → Int) (M : Mem) (c : Nat) : Prop := (n ≤ 600 ∧ v 2 = n) ∧ (∀ j, 2 ≤ j → j ≤ 12 → M c j = v j) ∧ (∀ i, i < n → M (c + 1) i = tx i)
theorem Rd.ms {tx : Nat → Int} {n : Nat} {v : Nat → Int} {M : Mem} {c j : Nat} {x : Int} (h : Rd tx n v M c) (h1 : 3 ≤ j) : Rd tx n (fup v j x) (mset M c j x) c := by
  refine ⟨⟨h.1.1, ?_⟩, fun i a b => ?_, fun i hi => ?_⟩
  · unfold fup
    rw [if_neg (by omega)]
    exact h.1.2
  · unfold fup
    by_cases e : i = j
    · rw [if_pos e, e, mset_same]
    · rw [if_neg e, mset_nei e]
      exact h.2.1 i a b
  · rw [mset_nea (by omega)]
    exact h.2.2 i hi
theorem Rd.fr {tx : Nat → Int} {n : Nat} {v : Nat → Int} {M M' : Mem} {c lo hi : Nat} (h : Rd tx n v M c) (hF : Frm lo hi M M') (hd : c + 2 ≤ lo ∨ hi ≤ c) : Rd tx n v M' c := ⟨h.1, fun j a b => by rw [hF _ _ (by omega)]; exact h.2.1 j a b, fun i hi => by rw [hF _ _ (by omega)]; exact h.2.2 i hi⟩
theorem Rd.to {tx : Nat → Int} {n : Nat} {v v' : Nat → Int} {M : Mem} {c : Nat} (h : Rd tx n v M c) (e : ∀ j, v j = v' j) : Rd tx n v' M c := by rw [show v' = v from funext fun j => (e j).symm]; exact h
def kindF (tx : Nat → Int) (n i : Nat) : Int := if n ≤ i then 0 else if 97 ≤ tx i ∧ tx i ≤ 122 then 1 else if 48 ≤ tx i ∧ tx i ≤ 57 then 2 else if tx i = 10 ∨ tx i = 32 then 6 else if tx i = 45 then 3 else if tx i = 59 then 4 else 5
theorem kindF_rng (tx : Nat → Int) (n i : Nat) : 0 ≤ kindF tx n i ∧ kindF tx n i ≤ 6 := by
  unfold kindF
  repeat' split
  all_goals omega
def skipF (tx : Nat → Int) (n : Nat) : Nat → Nat → Nat
  | 0, s => s
  | d + 1, s => if kindF tx n s = 6 then skipF tx n d (s + 1) else s
def numT (k nb x : Int) : Int := if k = 2 then (if nb * 10 + x - 48 < 1000 then nb * 10 + x - 48 else 1000) else 0
def runF (tx : Nat → Int) (n : Nat) (k : Int) : Nat → Nat → Int → Nat × Int
  | 0, e, nb => (e, nb)
  | d + 1, e, nb => if kindF tx n e = k then runF tx n k d (e + 1) (numT k nb (tx e)) else (e, nb)
def tset (v : Nat → Int) (k s e nb : Int) : Nat → Int := fun j => if j = 6 then k else if j = 7 then s else if j = 8 then e else if j = 9 then nb else v j
/-- the token behind the place e -/
def tokAt (tx : Nat → Int) (n e : Nat) : Int × Nat × Nat × Int :=
  let s := skipF tx n (n - e) e
  let k := kindF tx n s
  if k = 1 ∨ k = 2 then (k, s, runF tx n k (n - s) s 0) else if k = 0 then (k, s, s, 0) else (k, s, s + 1, 0)
def tokF (tx : Nat → Int) (n : Nat) (v : Nat → Int) : Nat → Int := tset v (tokAt tx n (v 8).toNat).1 (tokAt tx n (v 8).toNat).2.1 (tokAt tx n (v 8).toNat).2.2.1 (tokAt tx n (v 8).toNat).2.2.2
theorem skipF_le (tx : Nat → Int) (n : Nat) : ∀ d s, s + d = n → s ≤ skipF tx n d s ∧ skipF tx n d s ≤ n
  | 0, s, h => by simp only [skipF]; omega
  | d + 1, s, h => by
    simp only [skipF]
    split
    · have := skipF_le tx n d (s + 1) (by omega)
      omega
    · omega
theorem runF_le (tx : Nat → Int) (n : Nat) (k : Int) : ∀ d e nb, e + d = n → 0 ≤ nb → nb ≤ 1000 → (k = 2 → ∀ i, kindF tx n i = 2 → 48 ≤ tx i) → e ≤ (runF tx n k d e nb).1 ∧ (runF tx n k d e nb).1 ≤ n ∧ 0 ≤ (runF tx n k d e nb).2 ∧ (runF tx n k d e nb).2 ≤ 1000
  | 0, e, nb, h, h1, h2, h3 => by simp only [runF]; omega
  | d + 1, e, nb, h, h1, h2, h3 => by
    simp only [runF]
    split
    · next hk =>
      have hq : 0 ≤ numT k nb (tx e) ∧ numT k nb (tx e) ≤ 1000 := by
        unfold numT
        split
        · next h9 =>
          have := h3 h9 e (by omega)
          split <;> omega
        · omega
      have := runF_le tx n k d (e + 1) _ (by omega) hq.1 hq.2 h3
      omega
    · omega
theorem kind2 (tx : Nat → Int) (n i : Nat) (h : kindF tx n i = 2) : i < n ∧ 48 ≤ tx i ∧ tx i ≤ 57 := by
  unfold kindF at h
  repeat' split at h
  all_goals omega
theorem kind0 (tx : Nat → Int) (n i : Nat) : kindF tx n i = 0 ↔ n ≤ i := by
  unfold kindF
  constructor
  · intro h
    repeat' split at h
    all_goals omega
  · intro h
    rw [if_pos h]
/-- what holds of the fields behind a token -/
def TkOK (n : Nat) (v : Nat → Int) : Prop := (0 ≤ v 6 ∧ v 6 ≤ 5) ∧ (0 ≤ v 7 ∧ v 7 ≤ n) ∧ (v 7 ≤ v 8 ∧ v 8 ≤ n) ∧ (0 ≤ v 9 ∧ v 9 ≤ 1000)
theorem skip6 (tx : Nat → Int) (n : Nat) : ∀ d s, s + d = n → kindF tx n (skipF tx n d s) ≠ 6
  | 0, s, h => by
    simp only [skipF]
    have := (kind0 tx n s).mpr (by omega)
    omega
  | d + 1, s, h => by
    simp only [skipF]
    split
    · exact skip6 tx n d (s + 1) (by omega)
    · assumption
theorem tokF_ok (tx : Nat → Int) (n : Nat) (v : Nat → Int) (h : 0 ≤ v 8 ∧ v 8 ≤ n) : TkOK n (tokF tx n v) := by
  have h1 := skipF_le tx n (n - (v 8).toNat) (v 8).toNat (by omega)
  have h6 := skip6 tx n (n - (v 8).toNat) (v 8).toNat (by omega)
  generalize hs : skipF tx n (n - (v 8).toNat) (v 8).toNat = s at *
  have h2 := kindF_rng tx n s
  have h3 := kind0 tx n s
  have h4 := runF_le tx n (kindF tx n s) (n - s) s 0 (by omega) (by decide) (by decide) (fun _ i hi => (kind2 tx n i hi).2.1)
  have e : tokAt tx n (v 8).toNat = if kindF tx n s = 1 ∨ kindF tx n s = 2 then (kindF tx n s, s, runF tx n (kindF tx n s) (n - s) s 0) else if kindF tx n s = 0 then (kindF tx n s, s, s, 0) else (kindF tx n s, s, s + 1, 0) := by
    unfold tokAt
    rw [hs]
  unfold TkOK tokF tset
  simp
  rw [e]
  split
  · dsimp only
    omega
  · split
    · dsimp only
      omega
    · dsimp only
      omega

set_option maxRecDepth 100000 in
theorem sp_X2_kindAt {g : GG} {lay : Lay} {M : Mem} {K : KK} {c n : Nat} {tx v : Nat → Int} {i : Int} (hP : RdL lay c) (hb0 : g.2.1 ≤ c) (hr : Rd tx n v M c) (hi : 0 ≤ i ∧ i < 1000) (k : K (.inl (some (vI (kindF tx n i.toNat)))) lay M) : X g m_X2_kindAt 0 0 lay M 0 [(0, vR c), (1, vI i)] [] K := by
  obtain ⟨⟨n6, v2⟩, hv, ht⟩ := hr
  have e2 := hv 2 (by decide) (by decide)
  unfold kindF at k
  refine x_iload_n (pc := 0) dX2_kindAt_0 rfl rfl ?_
  refine x_if_lt (pc := 1) (t := 21) dX2_kindAt_1 (by decide) ⟨by omega, by omega⟩ (fun c1 => ?_) (fun c1 => ?_)
  · refine x_iconst (pc := 21) dX2_kindAt_21 ?_
    refine x_iret (pc := 22) dX2_kindAt_22 rfl (by decide) (by decide) ?_
    first
    | (exfalso; omega)
    | (refine kI k ?_
       repeat (first | rfl | rw [if_pos (by omega)] | rw [if_neg (by omega)]))
  · refine x_iload_n (pc := 4) dX2_kindAt_4 rfl rfl ?_
    refine x_aload_n (pc := 5) dX2_kindAt_5 rfl rfl ?_
    refine x_geti (pc := 6) fX2_23 dX2_kindAt_6 hP.1 rfl (fun r6a r6b => ?_)
    rw [e2, v2] at r6a r6b ⊢
    refine x_icmp_ge (pc := 9) (t := 21) dX2_kindAt_9 (by decide) ⟨by omega, by omega⟩ ⟨by omega, by omega⟩ (fun c9 => ?_) (fun c9 => ?_)
    · refine x_iconst (pc := 21) dX2_kindAt_21 ?_
      refine x_iret (pc := 22) dX2_kindAt_22 rfl (by decide) (by decide) ?_
      first
      | (exfalso; omega)
      | (refine kI k ?_
         repeat (first | rfl | rw [if_pos (by omega)] | rw [if_neg (by omega)]))
    · refine x_iload_n (pc := 12) dX2_kindAt_12 rfl rfl ?_
      refine x_aload_n (pc := 13) dX2_kindAt_13 rfl rfl ?_
      refine x_getr (pc := 14) (b := c + 1) fX2_9 dX2_kindAt_14 hP.1 rfl rfl ?_
      refine x_alen (pc := 17) dX2_kindAt_17 hP.2.1 (fun r17a => ?_)
      refine x_icmp_lt (pc := 18) (t := 23) dX2_kindAt_18 (by decide) ⟨by omega, by omega⟩ ⟨by omega, by omega⟩ (fun c18 => ?_) (fun c18 => ?_)
      · refine x_aload_n (pc := 23) dX2_kindAt_23 rfl rfl ?_
        refine x_getr (pc := 24) (b := c + 1) fX2_9 dX2_kindAt_24 hP.1 rfl rfl ?_
        refine x_iload_n (pc := 27) dX2_kindAt_27 rfl rfl ?_
        refine x_bald (pc := 28) dX2_kindAt_28 hP.2.1 (by omega) (by omega) (fun r28a r28b => ?_)
        rw [ht i.toNat (by omega)] at r28a r28b ⊢
        refine x_istore_n (pc := 29) dX2_kindAt_29 rfl (by decide) (L' := [(2, _), (0, _), (1, _)]) rfl ?_
        refine x_iload_n (pc := 30) dX2_kindAt_30 rfl rfl ?_
        refine x_bipush (pc := 31) dX2_kindAt_31 (by decide) ?_
        refine x_icmp_lt (pc := 33) (t := 44) dX2_kindAt_33 (by decide) ⟨by omega, by omega⟩ ⟨by omega, by omega⟩ (fun c33 => ?_) (fun c33 => ?_)
        · refine x_iload_n (pc := 44) dX2_kindAt_44 rfl rfl ?_
          refine x_bipush (pc := 45) dX2_kindAt_45 (by decide) ?_
          refine x_icmp_lt (pc := 47) (t := 58) dX2_kindAt_47 (by decide) ⟨by omega, by omega⟩ ⟨by omega, by omega⟩ (fun c47 => ?_) (fun c47 => ?_)
          · refine x_iload_n (pc := 58) dX2_kindAt_58 rfl rfl ?_
            by_cases s59_10 : tx i.toNat = 10
            · refine x_lsw (pc := 59) (t := 100) dX2_kindAt_59 ⟨by omega, by omega⟩ rfl (by rw [s59_10] <;> rfl) (by decide) ?_
              refine x_bipush (pc := 100) dX2_kindAt_100 (by decide) ?_
              refine x_iret (pc := 102) dX2_kindAt_102 rfl (by decide) (by decide) ?_
              first
              | (exfalso; omega)
              | (refine kI k ?_
                 repeat (first | rfl | rw [if_pos (by omega)] | rw [if_neg (by omega)]))
            by_cases s59_32 : tx i.toNat = 32
            · refine x_lsw (pc := 59) (t := 100) dX2_kindAt_59 ⟨by omega, by omega⟩ rfl (by rw [s59_32] <;> rfl) (by decide) ?_
              refine x_bipush (pc := 100) dX2_kindAt_100 (by decide) ?_
              refine x_iret (pc := 102) dX2_kindAt_102 rfl (by decide) (by decide) ?_
              first
              | (exfalso; omega)
              | (refine kI k ?_
                 repeat (first | rfl | rw [if_pos (by omega)] | rw [if_neg (by omega)]))
            by_cases s59_45 : tx i.toNat = 45
            · refine x_lsw (pc := 59) (t := 103) dX2_kindAt_59 ⟨by omega, by omega⟩ rfl (by rw [s59_45] <;> rfl) (by decide) ?_
              refine x_iconst (pc := 103) dX2_kindAt_103 ?_
              refine x_iret (pc := 104) dX2_kindAt_104 rfl (by decide) (by decide) ?_
              first
              | (exfalso; omega)
              | (refine kI k ?_
                 repeat (first | rfl | rw [if_pos (by omega)] | rw [if_neg (by omega)]))
            by_cases s59_59 : tx i.toNat = 59
            · refine x_lsw (pc := 59) (t := 105) dX2_kindAt_59 ⟨by omega, by omega⟩ rfl (by rw [s59_59] <;> rfl) (by decide) ?_
              refine x_iconst (pc := 105) dX2_kindAt_105 ?_
              refine x_iret (pc := 106) dX2_kindAt_106 rfl (by decide) (by decide) ?_
              first
              | (exfalso; omega)
              | (refine kI k ?_
                 repeat (first | rfl | rw [if_pos (by omega)] | rw [if_neg (by omega)]))
            refine x_lsw (pc := 59) (t := 107) dX2_kindAt_59 ⟨by omega, by omega⟩ rfl (by show Op.lookupswitch.offset [(10, 41), (32, 41), (45, 44), (59, 46)] 48 (tx i.toNat) = 48; rw [Op.lookupswitch.offset_cons, if_neg (by omega), Op.lookupswitch.offset_cons, if_neg (by omega), Op.lookupswitch.offset_cons, if_neg (by omega), Op.lookupswitch.offset_cons, if_neg (by omega)] <;> rfl) (by decide) ?_
            refine x_iconst (pc := 107) dX2_kindAt_107 ?_
            refine x_iret (pc := 108) dX2_kindAt_108 rfl (by decide) (by decide) ?_
            first
            | (exfalso; omega)
            | (refine kI k ?_
               repeat (first | rfl | rw [if_pos (by omega)] | rw [if_neg (by omega)]))
          · refine x_iload_n (pc := 50) dX2_kindAt_50 rfl rfl ?_
            refine x_bipush (pc := 51) dX2_kindAt_51 (by decide) ?_
            refine x_icmp_gt (pc := 53) (t := 58) dX2_kindAt_53 (by decide) ⟨by omega, by omega⟩ ⟨by omega, by omega⟩ (fun c53 => ?_) (fun c53 => ?_)
            · refine x_iload_n (pc := 58) dX2_kindAt_58 rfl rfl ?_
              by_cases s59_10 : tx i.toNat = 10
              · refine x_lsw (pc := 59) (t := 100) dX2_kindAt_59 ⟨by omega, by omega⟩ rfl (by rw [s59_10] <;> rfl) (by decide) ?_
                refine x_bipush (pc := 100) dX2_kindAt_100 (by decide) ?_
                refine x_iret (pc := 102) dX2_kindAt_102 rfl (by decide) (by decide) ?_
                first
                | (exfalso; omega)
                | (refine kI k ?_
                   repeat (first | rfl | rw [if_pos (by omega)] | rw [if_neg (by omega)]))
              by_cases s59_32 : tx i.toNat = 32
              · refine x_lsw (pc := 59) (t := 100) dX2_kindAt_59 ⟨by omega, by omega⟩ rfl (by rw [s59_32] <;> rfl) (by decide) ?_
                refine x_bipush (pc := 100) dX2_kindAt_100 (by decide) ?_
                refine x_iret (pc := 102) dX2_kindAt_102 rfl (by decide) (by decide) ?_
                first
                | (exfalso; omega)
                | (refine kI k ?_
                   repeat (first | rfl | rw [if_pos (by omega)] | rw [if_neg (by omega)]))
              by_cases s59_45 : tx i.toNat = 45
              · refine x_lsw (pc := 59) (t := 103) dX2_kindAt_59 ⟨by omega, by omega⟩ rfl (by rw [s59_45] <;> rfl) (by decide) ?_
                refine x_iconst (pc := 103) dX2_kindAt_103 ?_
                refine x_iret (pc := 104) dX2_kindAt_104 rfl (by decide) (by decide) ?_
                first
                | (exfalso; omega)
                | (refine kI k ?_
                   repeat (first | rfl | rw [if_pos (by omega)] | rw [if_neg (by omega)]))
              by_cases s59_59 : tx i.toNat = 59
              · refine x_lsw (pc := 59) (t := 105) dX2_kindAt_59 ⟨by omega, by omega⟩ rfl (by rw [s59_59] <;> rfl) (by decide) ?_
                refine x_iconst (pc := 105) dX2_kindAt_105 ?_
                refine x_iret (pc := 106) dX2_kindAt_106 rfl (by decide) (by decide) ?_
                first
                | (exfalso; omega)
                | (refine kI k ?_
                   repeat (first | rfl | rw [if_pos (by omega)] | rw [if_neg (by omega)]))
              refine x_lsw (pc := 59) (t := 107) dX2_kindAt_59 ⟨by omega, by omega⟩ rfl (by show Op.lookupswitch.offset [(10, 41), (32, 41), (45, 44), (59, 46)] 48 (tx i.toNat) = 48; rw [Op.lookupswitch.offset_cons, if_neg (by omega), Op.lookupswitch.offset_cons, if_neg (by omega), Op.lookupswitch.offset_cons, if_neg (by omega), Op.lookupswitch.offset_cons, if_neg (by omega)] <;> rfl) (by decide) ?_
              refine x_iconst (pc := 107) dX2_kindAt_107 ?_
              refine x_iret (pc := 108) dX2_kindAt_108 rfl (by decide) (by decide) ?_
              first
              | (exfalso; omega)
              | (refine kI k ?_
                 repeat (first | rfl | rw [if_pos (by omega)] | rw [if_neg (by omega)]))
            · refine x_iconst (pc := 56) dX2_kindAt_56 ?_
              refine x_iret (pc := 57) dX2_kindAt_57 rfl (by decide) (by decide) ?_
              first
              | (exfalso; omega)
              | (refine kI k ?_
                 repeat (first | rfl | rw [if_pos (by omega)] | rw [if_neg (by omega)]))
        · refine x_iload_n (pc := 36) dX2_kindAt_36 rfl rfl ?_
          refine x_bipush (pc := 37) dX2_kindAt_37 (by decide) ?_
          refine x_icmp_gt (pc := 39) (t := 44) dX2_kindAt_39 (by decide) ⟨by omega, by omega⟩ ⟨by omega, by omega⟩ (fun c39 => ?_) (fun c39 => ?_)
          · refine x_iload_n (pc := 44) dX2_kindAt_44 rfl rfl ?_
            refine x_bipush (pc := 45) dX2_kindAt_45 (by decide) ?_
            refine x_icmp_lt (pc := 47) (t := 58) dX2_kindAt_47 (by decide) ⟨by omega, by omega⟩ ⟨by omega, by omega⟩ (fun c47 => ?_) (fun c47 => ?_)
            · refine x_iload_n (pc := 58) dX2_kindAt_58 rfl rfl ?_
              by_cases s59_10 : tx i.toNat = 10
              · refine x_lsw (pc := 59) (t := 100) dX2_kindAt_59 ⟨by omega, by omega⟩ rfl (by rw [s59_10] <;> rfl) (by decide) ?_
                refine x_bipush (pc := 100) dX2_kindAt_100 (by decide) ?_
                refine x_iret (pc := 102) dX2_kindAt_102 rfl (by decide) (by decide) ?_
                first
                | (exfalso; omega)
                | (refine kI k ?_
                   repeat (first | rfl | rw [if_pos (by omega)] | rw [if_neg (by omega)]))
              by_cases s59_32 : tx i.toNat = 32
              · refine x_lsw (pc := 59) (t := 100) dX2_kindAt_59 ⟨by omega, by omega⟩ rfl (by rw [s59_32] <;> rfl) (by decide) ?_
                refine x_bipush (pc := 100) dX2_kindAt_100 (by decide) ?_
                refine x_iret (pc := 102) dX2_kindAt_102 rfl (by decide) (by decide) ?_
                first
                | (exfalso; omega)
                | (refine kI k ?_
                   repeat (first | rfl | rw [if_pos (by omega)] | rw [if_neg (by omega)]))
              by_cases s59_45 : tx i.toNat = 45
              · refine x_lsw (pc := 59) (t := 103) dX2_kindAt_59 ⟨by omega, by omega⟩ rfl (by rw [s59_45] <;> rfl) (by decide) ?_
                refine x_iconst (pc := 103) dX2_kindAt_103 ?_
                refine x_iret (pc := 104) dX2_kindAt_104 rfl (by decide) (by decide) ?_
                first
                | (exfalso; omega)
                | (refine kI k ?_
                   repeat (first | rfl | rw [if_pos (by omega)] | rw [if_neg (by omega)]))
              by_cases s59_59 : tx i.toNat = 59
              · refine x_lsw (pc := 59) (t := 105) dX2_kindAt_59 ⟨by omega, by omega⟩ rfl (by rw [s59_59] <;> rfl) (by decide) ?_
                refine x_iconst (pc := 105) dX2_kindAt_105 ?_
                refine x_iret (pc := 106) dX2_kindAt_106 rfl (by decide) (by decide) ?_
                first
                | (exfalso; omega)
                | (refine kI k ?_
                   repeat (first | rfl | rw [if_pos (by omega)] | rw [if_neg (by omega)]))
              refine x_lsw (pc := 59) (t := 107) dX2_kindAt_59 ⟨by omega, by omega⟩ rfl (by show Op.lookupswitch.offset [(10, 41), (32, 41), (45, 44), (59, 46)] 48 (tx i.toNat) = 48; rw [Op.lookupswitch.offset_cons, if_neg (by omega), Op.lookupswitch.offset_cons, if_neg (by omega), Op.lookupswitch.offset_cons, if_neg (by omega), Op.lookupswitch.offset_cons, if_neg (by omega)] <;> rfl) (by decide) ?_
              refine x_iconst (pc := 107) dX2_kindAt_107 ?_
              refine x_iret (pc := 108) dX2_kindAt_108 rfl (by decide) (by decide) ?_
              first
              | (exfalso; omega)
              | (refine kI k ?_
                 repeat (first | rfl | rw [if_pos (by omega)] | rw [if_neg (by omega)]))
            · refine x_iload_n (pc := 50) dX2_kindAt_50 rfl rfl ?_
              refine x_bipush (pc := 51) dX2_kindAt_51 (by decide) ?_
              refine x_icmp_gt (pc := 53) (t := 58) dX2_kindAt_53 (by decide) ⟨by omega, by omega⟩ ⟨by omega, by omega⟩ (fun c53 => ?_) (fun c53 => ?_)
              · refine x_iload_n (pc := 58) dX2_kindAt_58 rfl rfl ?_
                by_cases s59_10 : tx i.toNat = 10
                · refine x_lsw (pc := 59) (t := 100) dX2_kindAt_59 ⟨by omega, by omega⟩ rfl (by rw [s59_10] <;> rfl) (by decide) ?_
                  refine x_bipush (pc := 100) dX2_kindAt_100 (by decide) ?_
                  refine x_iret (pc := 102) dX2_kindAt_102 rfl (by decide) (by decide) ?_
                  first
                  | (exfalso; omega)
                  | (refine kI k ?_
                     repeat (first | rfl | rw [if_pos (by omega)] | rw [if_neg (by omega)]))
                by_cases s59_32 : tx i.toNat = 32
                · refine x_lsw (pc := 59) (t := 100) dX2_kindAt_59 ⟨by omega, by omega⟩ rfl (by rw [s59_32] <;> rfl) (by decide) ?_
                  refine x_bipush (pc := 100) dX2_kindAt_100 (by decide) ?_
                  refine x_iret (pc := 102) dX2_kindAt_102 rfl (by decide) (by decide) ?_
                  first
                  | (exfalso; omega)
                  | (refine kI k ?_
                     repeat (first | rfl | rw [if_pos (by omega)] | rw [if_neg (by omega)]))
                by_cases s59_45 : tx i.toNat = 45
                · refine x_lsw (pc := 59) (t := 103) dX2_kindAt_59 ⟨by omega, by omega⟩ rfl (by rw [s59_45] <;> rfl) (by decide) ?_
                  refine x_iconst (pc := 103) dX2_kindAt_103 ?_
                  refine x_iret (pc := 104) dX2_kindAt_104 rfl (by decide) (by decide) ?_
                  first
                  | (exfalso; omega)
                  | (refine kI k ?_
                     repeat (first | rfl | rw [if_pos (by omega)] | rw [if_neg (by omega)]))
                by_cases s59_59 : tx i.toNat = 59
                · refine x_lsw (pc := 59) (t := 105) dX2_kindAt_59 ⟨by omega, by omega⟩ rfl (by rw [s59_59] <;> rfl) (by decide) ?_
                  refine x_iconst (pc := 105) dX2_kindAt_105 ?_
                  refine x_iret (pc := 106) dX2_kindAt_106 rfl (by decide) (by decide) ?_
                  first
                  | (exfalso; omega)
                  | (refine kI k ?_
                     repeat (first | rfl | rw [if_pos (by omega)] | rw [if_neg (by omega)]))
                refine x_lsw (pc := 59) (t := 107) dX2_kindAt_59 ⟨by omega, by omega⟩ rfl (by show Op.lookupswitch.offset [(10, 41), (32, 41), (45, 44), (59, 46)] 48 (tx i.toNat) = 48; rw [Op.lookupswitch.offset_cons, if_neg (by omega), Op.lookupswitch.offset_cons, if_neg (by omega), Op.lookupswitch.offset_cons, if_neg (by omega), Op.lookupswitch.offset_cons, if_neg (by omega)] <;> rfl) (by decide) ?_
                refine x_iconst (pc := 107) dX2_kindAt_107 ?_
                refine x_iret (pc := 108) dX2_kindAt_108 rfl (by decide) (by decide) ?_
                first
                | (exfalso; omega)
                | (refine kI k ?_
                   repeat (first | rfl | rw [if_pos (by omega)] | rw [if_neg (by omega)]))
              · refine x_iconst (pc := 56) dX2_kindAt_56 ?_
                refine x_iret (pc := 57) dX2_kindAt_57 rfl (by decide) (by decide) ?_
                first
                | (exfalso; omega)
                | (refine kI k ?_
                   repeat (first | rfl | rw [if_pos (by omega)] | rw [if_neg (by omega)]))
          · refine x_iconst (pc := 42) dX2_kindAt_42 ?_
            refine x_iret (pc := 43) dX2_kindAt_43 rfl (by decide) (by decide) ?_
            first
            | (exfalso; omega)
            | (refine kI k ?_
               repeat (first | rfl | rw [if_pos (by omega)] | rw [if_neg (by omega)]))
      · refine x_iconst (pc := 21) dX2_kindAt_21 ?_
        refine x_iret (pc := 22) dX2_kindAt_22 rfl (by decide) (by decide) ?_
        first
        | (exfalso; omega)
        | (refine kI k ?_
           repeat (first | rfl | rw [if_pos (by omega)] | rw [if_neg (by omega)]))
