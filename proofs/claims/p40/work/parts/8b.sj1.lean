/-! StringBuilder and String: what their cells hold, their methods. -/
/-- a String made along the way -/
def StP (lay : Lay) (M : Mem) (a : Nat) (t : List Int) : Prop := KN lay a (0, 9, fun _ => none) ∧ M a 1 = 0 ∧ ∃ v, M a 0 = er v ∧ KN lay v (3, t.length, fun _ => none) ∧ ∀ i, i < t.length → M v i = t.getD i 0
def SbQ (g : GG) (lay : Lay) (M : Mem) (b v cap : Nat) (t : List Int) : Prop := KN lay b (0, 8, fun _ => none) ∧ g.2.1 ≤ b ∧ b < v ∧ KN lay v (3, cap, fun _ => none) ∧ M b 0 = er v ∧ M b 1 = 0 ∧ M b 3 = (t.length : Nat) ∧ t.length ≤ cap ∧ cap ≤ 1300 ∧ ∀ i, i < t.length → M v i = t.getD i 0
def SbP (g : GG) (lay : Lay) (M : Mem) (b : Nat) (t : List Int) : Prop := ∃ v cap, SbQ g lay M b v cap t
/-- the library's own tables -/
def JcP (g : GG) (lay : Lay) (M : Mem) : Prop := (KN lay (g.2.2.1 3) (10, 100, fun _ => none) ∧ g.2.2.1 3 < g.2.1) ∧ (KN lay (g.2.2.1 4) (10, 100, fun _ => none) ∧ g.2.2.1 4 < g.2.1) ∧ (KN lay (g.2.2.1 5) (9, 0, fun _ => none) ∧ g.2.2.1 5 < g.2.1) ∧ (∀ k : Nat, k < 100 → M (g.2.2.1 3) k = 48 + ((k % 10 : Nat) : Int)) ∧ (∀ k : Nat, k < 100 → M (g.2.2.1 4) k = 48 + ((k / 10 : Nat) : Int))
theorem JcP.ext {g : GG} {lay lay2 : Lay} {M M2 : Mem} {n : Nat} (h : JcP g lay M) (e : Ext lay lay2) (p : Kp n M M2) (hn : g.2.1 ≤ n) : JcP g lay2 M2 := by
  obtain ⟨⟨h1, h2⟩, ⟨h3, h4⟩, ⟨h5, h6⟩, h7, h8⟩ := h
  exact ⟨⟨h1.ext e, h2⟩, ⟨h3.ext e, h4⟩, ⟨h5.ext e, h6⟩, fun k hk => (p _ _ (by omega)).trans (h7 k hk), fun k hk => (p _ _ (by omega)).trans (h8 k hk)⟩
theorem StP.ext {lay lay2 : Lay} {M M2 : Mem} {n a : Nat} {t : List Int} (h : StP lay M a t) (e : Ext lay lay2) (p : Kp n M M2) (hn : lay.2 ≤ n) : StP lay2 M2 a t := by
  obtain ⟨h1, h2, v, h3, h4, h5⟩ := h
  exact ⟨h1.ext e, (p _ _ (by have := h1.2; omega)).trans h2, v, (p _ _ (by have := h1.2; omega)).trans h3, h4.ext e, fun i hi => (p _ _ (by have := h4.2; omega)).trans (h5 i hi)⟩
theorem SbQ.ext {g : GG} {lay lay2 : Lay} {M M2 : Mem} {n b v cap : Nat} {t : List Int} (h : SbQ g lay M b v cap t) (e : Ext lay lay2) (p : Kp n M M2) (hn : lay.2 ≤ n) : SbQ g lay2 M2 b v cap t := by
  obtain ⟨hb, wb, bv, hv, m0, m1, m3, lc, lc2, mt⟩ := h
  exact ⟨hb.ext e, wb, bv, hv.ext e, (p _ _ (by have := hb.2; omega)).trans m0, (p _ _ (by have := hb.2; omega)).trans m1, (p _ _ (by have := hb.2; omega)).trans m3, lc, lc2, fun i hi => (p _ _ (by have := hv.2; omega)).trans (mt i hi)⟩
theorem SbP.ext {g : GG} {lay lay2 : Lay} {M M2 : Mem} {n b : Nat} {t : List Int} (h : SbP g lay M b t) (e : Ext lay lay2) (p : Kp n M M2) (hn : lay.2 ≤ n) : SbP g lay2 M2 b t := by
  obtain ⟨v, cap, h⟩ := h
  exact ⟨v, cap, h.ext e p hn⟩
theorem gd_l {t s : List Int} {i : Nat} (h : i < t.length) : (t ++ s).getD i 0 = t.getD i 0 := by simp [List.getD_eq_getElem?_getD, List.getElem?_append_left h]
theorem gd_r {t s : List Int} {i : Nat} (h : t.length ≤ i) : (t ++ s).getD i 0 = s.getD (i - t.length) 0 := by simp [List.getD_eq_getElem?_getD, List.getElem?_append_right h]
section
variable {g : GG} {r : MR} {cn ck : Nat} {lay : Lay} {M : Mem} {pc : Nat} {L L' : List (Nat × AV)} {st stk : List AV} {K : KK}
theorem x_ishl0 {x y : Int} (hy : y = 0) (hd : decode r.2.1 pc = .ok (.ishl, 1)) (k : X g r cn ck lay M (pc + 1) L (vI x :: st) K) : X g r cn ck lay M pc L (vI y :: vI x :: st) K := x_ishl 0 (by decide) (by rw [hy]; rfl) hd (by rw [show x * 2 ^ 0 = x by omega]; exact k)
theorem x_ishr0 {x y : Int} (hy : y = 0) (hx : i32 x) (hd : decode r.2.1 pc = .ok (.ishr, 1)) (k : X g r cn ck lay M (pc + 1) L (vI x :: st) K) : X g r cn ck lay M pc L (vI y :: vI x :: st) K := x_ishr 0 (by decide) (by rw [hy]; rfl) hx hd (by rw [show x / 2 ^ 0 = x by omega]; exact k)
end

set_option maxRecDepth 100000 in
theorem sp_J5_isLatin1_aae02 {g : GG} {lay : Lay} {M : Mem} {K : KK} {b v cap : Nat} {t : List Int} (hQ : SbQ g lay M b v cap t) (k : K (.inl (some (vI (1)))) lay M) : X g m_J5_isLatin1_aae02 0 0 lay M 0 [(0, vR b)] [] K := by
  obtain ⟨hb, wb, bv, hv, m0, m1, m3, lc, lc2, mt⟩ := id hQ
  refine x_gcs (pc := 0) flJ5_18 dJ5_isLatin1_aae02_0 ?_
  refine x_if_eq (pc := 3) (t := 17) dJ5_isLatin1_aae02_3 (by decide) ⟨by omega, by omega⟩ (fun c3 => ?_) (fun c3 => ?_)
  · exfalso; omega
  · refine x_aload_n (pc := 6) dJ5_isLatin1_aae02_6 rfl rfl ?_
    refine x_getb (pc := 7) fJ5_22 dJ5_isLatin1_aae02_7 hb.1 rfl (fun r7a r7b => ?_)
    refine x_if_ne (pc := 10) (t := 17) dJ5_isLatin1_aae02_10 (by decide) ⟨by omega, by omega⟩ (fun c10 => ?_) (fun c10 => ?_)
    · exfalso; omega
    · refine x_iconst (pc := 13) dJ5_isLatin1_aae02_13 ?_
      refine x_goto (pc := 14) (t := 18) dJ5_isLatin1_aae02_14 (by decide) ?_
      refine x_zret (pc := 18) dJ5_isLatin1_aae02_18 rfl ⟨by omega, by omega⟩ (by decide) (by decide) ?_
      exact k
set_option maxRecDepth 100000 in
theorem sp_J5_length_8abf5 {g : GG} {lay : Lay} {M : Mem} {K : KK} {b v cap : Nat} {t : List Int} (hQ : SbQ g lay M b v cap t) (k : K (.inl (some (vI ((t.length : Nat))))) lay M) : X g m_J5_length_8abf5 0 0 lay M 0 [(0, vR b)] [] K := by
  obtain ⟨hb, wb, bv, hv, m0, m1, m3, lc, lc2, mt⟩ := id hQ
  refine x_aload_n (pc := 0) dJ5_length_8abf5_0 rfl rfl ?_
  refine x_geti (pc := 1) fJ5_79 dJ5_length_8abf5_1 hb.1 rfl (fun r1a r1b => ?_)
  refine x_iret (pc := 4) dJ5_length_8abf5_4 rfl (by decide) (by decide) ?_
  rw [m3]
  exact k
set_option maxRecDepth 100000 in
theorem sp_J5_getValue_6d5f1 {g : GG} {lay : Lay} {M : Mem} {K : KK} {b v cap : Nat} {t : List Int} (hQ : SbQ g lay M b v cap t) (k : K (.inl (some (vR v))) lay M) : X g m_J5_getValue_6d5f1 0 0 lay M 0 [(0, vR b)] [] K := by
  obtain ⟨hb, wb, bv, hv, m0, m1, m3, lc, lc2, mt⟩ := id hQ
  refine x_aload_n (pc := 0) dJ5_getValue_6d5f1_0 rfl rfl ?_
  refine x_getrM (pc := 1) (b := v) fJ5_15 dJ5_getValue_6d5f1_1 hb.1 rfl m0 rfl ?_
  refine x_aret (pc := 4) dJ5_getValue_6d5f1_4 rfl rfl (by decide) (by decide) ?_
  exact k
set_option maxRecDepth 100000 in
theorem sp_J8_newLength_cabcc {g : GG} {lay : Lay} {M : Mem} {K : KK} {p q s : Int} (hp : 0 ≤ p ∧ p ≤ 10000) (hq : 0 ≤ q ∧ q ≤ 10000) (hs : 0 < s ∧ s ≤ 10000) (k : K (.inl (some (vI (p + (if q < s then s else q))))) lay M) : X g m_J8_newLength_cabcc 0 0 lay M 0 [(0, vI p), (1, vI q), (2, vI s)] [] K := by
  have e9 : 0 < (if q < s then s else q) ∧ (if q < s then s else q) ≤ 10000 := by split <;> omega
  refine x_iload_n (pc := 0) dJ8_newLength_cabcc_0 rfl rfl ?_
  refine x_iload_n (pc := 1) dJ8_newLength_cabcc_1 rfl rfl ?_
  refine x_iload_n (pc := 2) dJ8_newLength_cabcc_2 rfl rfl ?_
  refine x_mmax (pc := 3) kmJ8_194 dJ8_newLength_cabcc_3 ⟨by omega, by omega⟩ ⟨by omega, by omega⟩ (Nat.le_of_ble_eq_true rfl) (by decide) (by decide) (by decide) ?_
  generalize (if q < s then s else q) = z at e9 k ⊢
  refine x_iadd (pc := 6) dJ8_newLength_cabcc_6 ?_
  refine x_istore_n (pc := 7) dJ8_newLength_cabcc_7 rfl (by decide) (L' := [(3, _), (0, _), (1, _), (2, _)]) rfl ?_
  refine x_iconst (pc := 8) dJ8_newLength_cabcc_8 ?_
  refine x_iload_n (pc := 9) dJ8_newLength_cabcc_9 rfl rfl ?_
  refine x_icmp_ge (pc := 10) (t := 21) dJ8_newLength_cabcc_10 (by decide) ⟨by omega, by omega⟩ ⟨by omega, by omega⟩ (fun c10 => ?_) (fun c10 => ?_)
  · exfalso; omega
  · refine x_iload_n (pc := 13) dJ8_newLength_cabcc_13 rfl rfl ?_
    refine x_ldcI (pc := 14) 2147483639 kiJ8_200 (by decide) dJ8_newLength_cabcc_14 ?_
    refine x_icmp_gt (pc := 16) (t := 21) dJ8_newLength_cabcc_16 (by decide) ⟨by omega, by omega⟩ ⟨by omega, by omega⟩ (fun c16 => ?_) (fun c16 => ?_)
    · exfalso; omega
    · refine x_iload_n (pc := 19) dJ8_newLength_cabcc_19 rfl rfl ?_
      refine x_iret (pc := 20) dJ8_newLength_cabcc_20 rfl (by decide) (by decide) ?_
      refine kI k ?_
      omega
set_option maxRecDepth 100000 in
theorem sp_J5_newCapacity_0f7a4 {g : GG} {lay : Lay} {M : Mem} {K : KK} {b v cap : Nat} {t : List Int} {q : Int} (hQ : SbQ g lay M b v cap t) (hq : 0 ≤ q ∧ q ≤ 1300) (hc : (cap : Int) < q) (k : K (.inl (some (vI ((cap : Int) + (if q - (cap : Int) < (cap : Int) + 2 then (cap : Int) + 2 else q - (cap : Int)))))) lay M) : X g m_J5_newCapacity_0f7a4 0 0 lay M 0 [(0, vR b), (1, vI q)] [] K := by
  obtain ⟨hb, wb, bv, hv, m0, m1, m3, lc, lc2, mt⟩ := id hQ
  have e9 : 0 < (if q - (cap : Int) < (cap : Int) + 2 then (cap : Int) + 2 else q - (cap : Int)) ∧ (if q - (cap : Int) < (cap : Int) + 2 then (cap : Int) + 2 else q - (cap : Int)) ≤ 5000 := by split <;> omega
  refine x_aload_n (pc := 0) dJ5_newCapacity_0f7a4_0 rfl rfl ?_
  refine x_getrM (pc := 1) (b := v) fJ5_15 dJ5_newCapacity_0f7a4_1 hb.1 rfl m0 rfl ?_
  refine x_alen (pc := 4) dJ5_newCapacity_0f7a4_4 hv.1 (fun r4a => ?_)
  refine x_istore_n (pc := 5) dJ5_newCapacity_0f7a4_5 rfl (by decide) (L' := [(2, _), (0, _), (1, _)]) rfl ?_
  refine x_iload_n (pc := 6) dJ5_newCapacity_0f7a4_6 rfl rfl ?_
  refine x_aload_n (pc := 7) dJ5_newCapacity_0f7a4_7 rfl rfl ?_
  refine x_getb (pc := 8) fJ5_22 dJ5_newCapacity_0f7a4_8 hb.1 rfl (fun r8a r8b => ?_)
  refine x_ishl0 (pc := 11) (by omega) dJ5_newCapacity_0f7a4_11 ?_
  refine x_istore_n (pc := 12) dJ5_newCapacity_0f7a4_12 rfl (by decide) (L' := [(3, _), (2, _), (0, _), (1, _)]) rfl ?_
  refine x_iload_n (pc := 13) dJ5_newCapacity_0f7a4_13 rfl rfl ?_
  refine x_iload_n (pc := 14) dJ5_newCapacity_0f7a4_14 rfl rfl ?_
  refine x_isub (pc := 15) dJ5_newCapacity_0f7a4_15 ?_
  refine x_istore (pc := 16) dJ5_newCapacity_0f7a4_16 trivial (by decide) (L' := [(4, _), (3, _), (2, _), (0, _), (1, _)]) rfl ?_
  refine x_iload_n (pc := 18) dJ5_newCapacity_0f7a4_18 rfl rfl ?_
  refine x_iload (pc := 19) dJ5_newCapacity_0f7a4_19 rfl ?_
  refine x_iload_n (pc := 21) dJ5_newCapacity_0f7a4_21 rfl rfl ?_
  refine x_iconst (pc := 22) dJ5_newCapacity_0f7a4_22 ?_
  refine x_aload_n (pc := 23) dJ5_newCapacity_0f7a4_23 rfl rfl ?_
  refine x_getb (pc := 24) fJ5_22 dJ5_newCapacity_0f7a4_24 hb.1 rfl (fun r24a r24b => ?_)
  refine x_ishl0 (pc := 27) (by omega) dJ5_newCapacity_0f7a4_27 ?_
  refine x_iadd (pc := 28) dJ5_newCapacity_0f7a4_28 ?_
  refine x_callS (pc := 29) [_, _, _] rfl kJ5_114 dJ5_newCapacity_0f7a4_29 rfl (by decide) (Nat.le_of_ble_eq_true rfl) (Nat.le_of_ble_eq_true rfl) (by decide) ?_
  refine sp_J8_newLength_cabcc ⟨by omega, by omega⟩ ⟨by omega, by omega⟩ ⟨by omega, by omega⟩ ?_
  refine ⟨_, rfl, ?_⟩
  generalize (if q - (cap : Int) < (cap : Int) + 2 then (cap : Int) + 2 else q - (cap : Int)) = z at e9 k ⊢
  refine x_istore (pc := 32) dJ5_newCapacity_0f7a4_32 trivial (by decide) (L' := [(5, _), (4, _), (3, _), (2, _), (0, _), (1, _)]) rfl ?_
  refine x_iload (pc := 34) dJ5_newCapacity_0f7a4_34 rfl ?_
  refine x_ldcI (pc := 36) 2147483647 kiJ5_39 (by decide) dJ5_newCapacity_0f7a4_36 ?_
  refine x_icmp_ne (pc := 38) (t := 51) dJ5_newCapacity_0f7a4_38 (by decide) ⟨by omega, by omega⟩ ⟨by omega, by omega⟩ (fun c38 => ?_) (fun c38 => ?_)
  · refine x_iload (pc := 51) dJ5_newCapacity_0f7a4_51 rfl ?_
    refine x_aload_n (pc := 53) dJ5_newCapacity_0f7a4_53 rfl rfl ?_
    refine x_getb (pc := 54) fJ5_22 dJ5_newCapacity_0f7a4_54 hb.1 rfl (fun r54a r54b => ?_)
    refine x_ishr0 (pc := 57) (by omega) ⟨by omega, by omega⟩ dJ5_newCapacity_0f7a4_57 ?_
    refine x_iret (pc := 58) dJ5_newCapacity_0f7a4_58 rfl (by decide) (by decide) ?_
    exact k
  · exfalso; omega
set_option maxRecDepth 100000 in
theorem sp_J7_copyOf_9075b {g : GG} {lay : Lay} {M : Mem} {K : KK} {v cap n : Nat} {q : Int} (hv : KN lay v (3, cap, fun _ => none)) (wv : g.2.1 ≤ v) (hcap : cap ≤ 1300) (hn : n ≤ 2048) (hq : q = (n : Int)) (hc : cap < n) (k : ∀ w lay2 M2, lay.2 = w → lay2.2 = w + 1 → Ext lay lay2 → Kp w M M2 → KN lay2 w (3, n, fun _ => none) → (∀ i, i < cap → M2 w i = M v i) → K (.inl (some (vR w))) lay2 M2) : X g m_J7_copyOf_9075b 0 0 lay M 0 [(0, vR v), (1, vI q)] [] K := by
  subst hq
  refine x_iload_n (pc := 0) dJ7_copyOf_9075b_0 rfl rfl ?_
  refine x_aload_n (pc := 1) dJ7_copyOf_9075b_1 rfl rfl ?_
  refine x_alen (pc := 2) dJ7_copyOf_9075b_2 hv.1 (fun r2a => ?_)
  refine x_icmp_ne (pc := 3) (t := 14) dJ7_copyOf_9075b_3 (by decide) ⟨by omega, by omega⟩ ⟨by omega, by omega⟩ (fun c3 => ?_) (fun c3 => ?_)
  · refine x_iload_n (pc := 14) dJ7_copyOf_9075b_14 rfl rfl ?_
    refine x_newaH (pc := 15) (t := 2) (n := n) rfl (by decide) na2 dJ7_copyOf_9075b_15 (by omega) ⟨by decide, by show 0 + n ≤ 2048; omega⟩ rfl (fun w lay2 M2 e0 e1 E hp hw z0 => ?_)
    refine X.cs (cn' := 1) (ck' := 2048) ?_ (by decide) (by omega)
    have lv : v < w := by have := hv.2; omega
    have hv := hv.ext E
    refine x_astore_n (pc := 17) dJ7_copyOf_9075b_17 rfl (by decide) (L' := [(2, _), (0, _), (1, _)]) rfl ?_
    refine x_aload_n (pc := 18) dJ7_copyOf_9075b_18 rfl rfl ?_
    refine x_iconst (pc := 19) dJ7_copyOf_9075b_19 ?_
    refine x_aload_n (pc := 20) dJ7_copyOf_9075b_20 rfl rfl ?_
    refine x_iconst (pc := 21) dJ7_copyOf_9075b_21 ?_
    refine x_aload_n (pc := 22) dJ7_copyOf_9075b_22 rfl rfl ?_
    refine x_alen (pc := 23) dJ7_copyOf_9075b_23 hv.1 (fun r23a => ?_)
    refine x_iload_n (pc := 24) dJ7_copyOf_9075b_24 rfl rfl ?_
    refine x_mmin (pc := 25) kmJ7_304 dJ7_copyOf_9075b_25 ⟨by omega, by omega⟩ ⟨by omega, by omega⟩ (Nat.le_of_ble_eq_true rfl) (by decide) (by decide) (by decide) ?_
    rw [if_neg (show ¬ (n : Int) < (cap : Int) by omega)]
    refine x_copyB (pc := 28) kcJ7_150 dJ7_copyOf_9075b_28 hv.1 hw.1 (show g.2.1 ≤ w by omega) (by omega) (by omega) (by omega) (by omega) (by omega) (by omega) (Nat.le_of_ble_eq_true rfl) ⟨by decide, by decide⟩ ?_
    refine x_aload_n (pc := 31) dJ7_copyOf_9075b_31 rfl rfl ?_
    refine x_aret (pc := 32) dJ7_copyOf_9075b_32 rfl rfl (by decide) (by decide) ?_
    refine k w lay2 _ e0 e1 E (fun x i hx => ?_) hw (fun i hi => ?_)
    · rw [mcopy_nea (by omega)]
      exact hp x i hx
    · rw [mcopy_in (by simp) (by simp; omega)]
      simpa using hp v i lv
  · exfalso; omega
set_option maxRecDepth 100000 in
theorem sp_J5_ensureCapacityInternal_d00df {g : GG} {lay : Lay} {M : Mem} {K : KK} {b v cap : Nat} {t : List Int} {q : Int} (hQ : SbQ g lay M b v cap t) (hq : t.length ≤ q ∧ q ≤ 600) (k : ∀ v2 cap2 lay2 M2, Ext lay lay2 → (∀ x i, x < lay.2 → x ≠ b → M2 x i = M x i) → SbQ g lay2 M2 b v2 cap2 t → q ≤ cap2 → (cap2 = cap ∨ (cap2 : Int) ≤ 2 * q + 34) → K (.inl none) lay2 M2) : X g m_J5_ensureCapacityInternal_d00df 0 0 lay M 0 [(0, vR b), (1, vI q)] [] K := by
  obtain ⟨hb, wb, bv, hv, m0, m1, m3, lc, lc2, mt⟩ := id hQ
  refine x_aload_n (pc := 0) dJ5_ensureCapacityInternal_d00df_0 rfl rfl ?_
  refine x_getrM (pc := 1) (b := v) fJ5_15 dJ5_ensureCapacityInternal_d00df_1 hb.1 rfl m0 rfl ?_
  refine x_alen (pc := 4) dJ5_ensureCapacityInternal_d00df_4 hv.1 (fun r4a => ?_)
  refine x_aload_n (pc := 5) dJ5_ensureCapacityInternal_d00df_5 rfl rfl ?_
  refine x_getb (pc := 6) fJ5_22 dJ5_ensureCapacityInternal_d00df_6 hb.1 rfl (fun r6a r6b => ?_)
  refine x_ishr0 (pc := 9) (by omega) ⟨by omega, by omega⟩ dJ5_ensureCapacityInternal_d00df_9 ?_
  refine x_istore_n (pc := 10) dJ5_ensureCapacityInternal_d00df_10 rfl (by decide) (L' := [(2, _), (0, _), (1, _)]) rfl ?_
  refine x_iload_n (pc := 11) dJ5_ensureCapacityInternal_d00df_11 rfl rfl ?_
  refine x_iload_n (pc := 12) dJ5_ensureCapacityInternal_d00df_12 rfl rfl ?_
  refine x_isub (pc := 13) dJ5_ensureCapacityInternal_d00df_13 ?_
  refine x_if_le (pc := 14) (t := 38) dJ5_ensureCapacityInternal_d00df_14 (by decide) ⟨by omega, by omega⟩ (fun c14 => ?_) (fun c14 => ?_)
  · refine x_vret (pc := 38) dJ5_ensureCapacityInternal_d00df_38 rfl (by decide) (by decide) ?_
    first
    | exact k v cap lay M Ext.rf (fun _ _ _ _ => rfl) hQ (by omega) (Or.inl rfl)
    | exact k w z lay2 _ E (fun x i hx hx2 => (mset_nea hx2).trans (hp x i (by omega))) ⟨hb, wb, by omega, hw, mset_same, (mset_nei (by decide)).trans ((hp _ _ lb).trans m1), (mset_nei (by decide)).trans ((hp _ _ lb).trans m3), by omega, by omega, fun i hi => (mset_nea (by omega)).trans ((z0 i (by omega)).trans (mt i hi))⟩ e8.2.2.1 (Or.inr e8.2.2.2)
  · refine x_aload_n (pc := 17) dJ5_ensureCapacityInternal_d00df_17 rfl rfl ?_
    refine x_aload_n (pc := 18) dJ5_ensureCapacityInternal_d00df_18 rfl rfl ?_
    refine x_getrM (pc := 19) (b := v) fJ5_15 dJ5_ensureCapacityInternal_d00df_19 hb.1 rfl m0 rfl ?_
    refine x_aload_n (pc := 22) dJ5_ensureCapacityInternal_d00df_22 rfl rfl ?_
    refine x_iload_n (pc := 23) dJ5_ensureCapacityInternal_d00df_23 rfl rfl ?_
    refine x_callU (pc := 24) [_] rfl kuJ5_104 dJ5_ensureCapacityInternal_d00df_24 hb.1 rfl (by decide) (Nat.le_of_ble_eq_true rfl) (Nat.le_of_ble_eq_true rfl) (by decide) ?_
    refine sp_J5_newCapacity_0f7a4 hQ ⟨by omega, by omega⟩ (by omega) ?_
    refine ⟨_, rfl, ?_⟩
    refine x_aload_n (pc := 27) dJ5_ensureCapacityInternal_d00df_27 rfl rfl ?_
    refine x_getb (pc := 28) fJ5_22 dJ5_ensureCapacityInternal_d00df_28 hb.1 rfl (fun r28a r28b => ?_)
    refine x_ishl0 (pc := 31) (by omega) dJ5_ensureCapacityInternal_d00df_31 ?_
    have e9 : (cap : Int) + (if q - (cap : Int) < (cap : Int) + 2 then (cap : Int) + 2 else q - (cap : Int)) = (((cap : Int) + (if q - (cap : Int) < (cap : Int) + 2 then (cap : Int) + 2 else q - (cap : Int))).toNat : Nat) := by
      split <;> omega
    have e8 : ((cap : Int) + (if q - (cap : Int) < (cap : Int) + 2 then (cap : Int) + 2 else q - (cap : Int))).toNat ≤ 2048 ∧ cap < ((cap : Int) + (if q - (cap : Int) < (cap : Int) + 2 then (cap : Int) + 2 else q - (cap : Int))).toNat ∧ q ≤ (((cap : Int) + (if q - (cap : Int) < (cap : Int) + 2 then (cap : Int) + 2 else q - (cap : Int))).toNat : Int) ∧ (((cap : Int) + (if q - (cap : Int) < (cap : Int) + 2 then (cap : Int) + 2 else q - (cap : Int))).toNat : Int) ≤ 2 * q + 34 := by
      split <;> omega
    generalize ((cap : Int) + (if q - (cap : Int) < (cap : Int) + 2 then (cap : Int) + 2 else q - (cap : Int))).toNat = z at e8 e9
    refine x_callS (pc := 32) [_, _] rfl kJ5_108 dJ5_ensureCapacityInternal_d00df_32 rfl (by decide) (Nat.le_of_ble_eq_true rfl) (Nat.le_of_ble_eq_true rfl) (by decide) ?_
    refine sp_J7_copyOf_9075b hv (by omega) (by omega) e8.1 e9 e8.2.1 (fun w lay2 M2 e0 e1 E hp hw z0 => ?_)
    refine ⟨_, rfl, ?_⟩
    have lb : b < w := by have := hb.2; omega
    have hb := hb.ext E
    refine x_putrM (pc := 35) fnJ5_15 dJ5_ensureCapacityInternal_d00df_35 hb.1 wb rfl rfl ?_
    refine x_vret (pc := 38) dJ5_ensureCapacityInternal_d00df_38 rfl (by decide) (by decide) ?_
    first
    | exact k v cap lay M Ext.rf (fun _ _ _ _ => rfl) hQ (by omega) (Or.inl rfl)
    | exact k w z lay2 _ E (fun x i hx hx2 => (mset_nea hx2).trans (hp x i (by omega))) ⟨hb, wb, by omega, hw, mset_same, (mset_nei (by decide)).trans ((hp _ _ lb).trans m1), (mset_nei (by decide)).trans ((hp _ _ lb).trans m3), by omega, by omega, fun i hi => (mset_nea (by omega)).trans ((z0 i (by omega)).trans (mt i hi))⟩ e8.2.2.1 (Or.inr e8.2.2.2)
set_option maxRecDepth 100000 in
theorem sp_J0_coder_m {g : GG} {lay : Lay} {M : Mem} {K : KK} {a : Nat} {s : List Int} (hs : StP lay M a s) (hs9 : s.length ≤ 600) (k : K (.inl (some (vI (0)))) lay M) : X g m_J0_coder_7d493 0 0 lay M 0 [(0, vR a)] [] K := by
  obtain ⟨ha, s1, sv, s0, hsv, sm⟩ := id hs
  refine x_gcs (pc := 0) flJ0_38 dJ0_coder_7d493_0 ?_
  refine x_if_eq (pc := 3) (t := 13) dJ0_coder_7d493_3 (by decide) ⟨by omega, by omega⟩ (fun c3 => ?_) (fun c3 => ?_)
  · exfalso; omega
  · refine x_aload_n (pc := 6) dJ0_coder_7d493_6 rfl rfl ?_
    refine x_getb (pc := 7) fJ0_15 dJ0_coder_7d493_7 ha.1 rfl (fun r7a r7b => ?_)
    refine x_goto (pc := 10) (t := 14) dJ0_coder_7d493_10 (by decide) ?_
    refine x_bret (pc := 14) dJ0_coder_7d493_14 rfl ⟨by omega, by omega⟩ (by decide) (by decide) ?_
    rw [s1]
    exact k
set_option maxRecDepth 100000 in
theorem sp_J0_length_m {g : GG} {lay : Lay} {M : Mem} {K : KK} {a : Nat} {s : List Int} (hs : StP lay M a s) (hs9 : s.length ≤ 600) (k : K (.inl (some (vI ((s.length : Nat))))) lay M) : X g m_J0_length_8abf5 0 0 lay M 0 [(0, vR a)] [] K := by
  obtain ⟨ha, s1, sv, s0, hsv, sm⟩ := id hs
  refine x_aload_n (pc := 0) dJ0_length_8abf5_0 rfl rfl ?_
  refine x_getrM (pc := 1) (b := sv) fJ0_9 dJ0_length_8abf5_1 ha.1 rfl s0 rfl ?_
  refine x_alen (pc := 4) dJ0_length_8abf5_4 hsv.1 (fun r4a => ?_)
  refine x_aload_n (pc := 5) dJ0_length_8abf5_5 rfl rfl ?_
  refine x_callV (pc := 6) [] rfl kJ0_335 dJ0_length_8abf5_6 ha.1 rfl rfl (by decide) (Nat.le_of_ble_eq_true rfl) (Nat.le_of_ble_eq_true rfl) (by decide) ?_
  refine sp_J0_coder_m hs hs9 ?_
  refine ⟨_, rfl, ?_⟩
  refine x_ishr0 (pc := 9) (by omega) ⟨by omega, by omega⟩ dJ0_length_8abf5_9 ?_
  refine x_iret (pc := 10) dJ0_length_8abf5_10 rfl (by decide) (by decide) ?_
  exact k
set_option maxRecDepth 100000 in
theorem sp_J0_getBytes_c {g : GG} {lay : Lay} {M : Mem} {K : KK} {q : Nat} {v cap d : Nat} {cd : Int} (hq : q < 24) (hv : KN lay v (3, cap, fun _ => none)) (wv : g.2.1 ≤ v) (hcap : cap ≤ 1300) (hd : d + (stB q).length ≤ cap) (hcd : cd = 0) (k : ∀ M2, (∀ x i, ¬ (x = v ∧ d ≤ i ∧ i < d + (stB q).length) → M2 x i = M x i) → (∀ i, i < (stB q).length → M2 v (d + i) = (stB q).getD i 0) → K (.inl none) lay M2) : X g m_J0_getBytes_840e7 0 0 lay M 0 [(0, vR (g.2.2.2.1 q)), (1, vR v), (2, vI d), (3, vI cd)] [] K := by
  have hn := stN_rng q hq
  have hl := stB_len q hq
  refine x_aload_n (pc := 0) dJ0_getBytes_840e7_0 rfl rfl ?_
  refine x_callVs (pc := 1) [] rfl kJ0_335 dJ0_getBytes_840e7_1 hq rfl rfl (by decide) (Nat.le_of_ble_eq_true rfl) (Nat.le_of_ble_eq_true rfl) (by decide) ?_
  refine sp_J0_coder_7d493 hq ?_
  refine ⟨_, rfl, ?_⟩
  refine x_iload_n (pc := 4) dJ0_getBytes_840e7_4 rfl rfl ?_
  refine x_icmp_ne (pc := 5) (t := 28) dJ0_getBytes_840e7_5 (by decide) ⟨by omega, by omega⟩ ⟨by omega, by omega⟩ (fun c5 => ?_) (fun c5 => ?_)
  · exfalso; omega
  · refine x_aload_n (pc := 8) dJ0_getBytes_840e7_8 rfl rfl ?_
    refine x_getSv (pc := 9) (i := q) flJ0_9 hq dJ0_getBytes_840e7_9 ?_
    refine x_iconst (pc := 12) dJ0_getBytes_840e7_12 ?_
    refine x_aload_n (pc := 13) dJ0_getBytes_840e7_13 rfl rfl ?_
    refine x_iload_n (pc := 14) dJ0_getBytes_840e7_14 rfl rfl ?_
    refine x_iload_n (pc := 15) dJ0_getBytes_840e7_15 rfl rfl ?_
    refine x_ishl0 (pc := 16) (by omega) dJ0_getBytes_840e7_16 ?_
    refine x_aload_n (pc := 17) dJ0_getBytes_840e7_17 rfl rfl ?_
    refine x_getSv (pc := 18) (i := q) flJ0_9 hq dJ0_getBytes_840e7_18 ?_
    refine x_lenS (pc := 21) (i := q) hq dJ0_getBytes_840e7_21 ?_
    refine x_copyS (pc := 22) kcJ0_212 dJ0_getBytes_840e7_22 hq hv.1 wv (by omega) (by omega) (by omega) (by omega) (by omega) (Nat.le_of_ble_eq_true rfl) ⟨by decide, by decide⟩ ?_
    refine x_goto (pc := 25) (t := 43) dJ0_getBytes_840e7_25 (by decide) ?_
    refine x_vret (pc := 43) dJ0_getBytes_840e7_43 rfl (by decide) (by decide) ?_
    refine k _ (fun x i hx => ?_) (fun i hi => ?_)
    · exact if_neg (fun e => hx ⟨e.1, by have := e.2.1; omega, by have := e.2.2; omega⟩)
    · refine (if_pos ⟨rfl, by omega, by omega⟩).trans ?_
      rw [show (0 : Int).toNat + (d + i - (d : Int).toNat) = i by omega]
set_option maxRecDepth 100000 in
theorem sp_J5_inflateIf_c {g : GG} {lay : Lay} {M : Mem} {K : KK} {b v cap : Nat} {t : List Int} {q : Nat} (hQ : SbQ g lay M b v cap t) (hq : q < 24) (k : K (.inl none) lay M) : X g m_J5_inflateIfNeededFor_a7421 0 0 lay M 0 [(0, vR b), (1, vR (g.2.2.2.1 q))] [] K := by
  obtain ⟨hb, wb, bv, hv, m0, m1, m3, lc, lc2, mt⟩ := id hQ
  have hn := stN_rng q hq
  have hl := stB_len q hq
  refine x_gcs (pc := 0) flJ5_18 dJ5_inflateIfNeededFor_a7421_0 ?_
  refine x_if_eq (pc := 3) (t := 21) dJ5_inflateIfNeededFor_a7421_3 (by decide) ⟨by omega, by omega⟩ (fun c3 => ?_) (fun c3 => ?_)
  · exfalso; omega
  · refine x_aload_n (pc := 6) dJ5_inflateIfNeededFor_a7421_6 rfl rfl ?_
    refine x_getb (pc := 7) fJ5_22 dJ5_inflateIfNeededFor_a7421_7 hb.1 rfl (fun r7a r7b => ?_)
    refine x_aload_n (pc := 10) dJ5_inflateIfNeededFor_a7421_10 rfl rfl ?_
    refine x_callVs (pc := 11) [] rfl kJ5_40 dJ5_inflateIfNeededFor_a7421_11 hq rfl rfl (by decide) (Nat.le_of_ble_eq_true rfl) (Nat.le_of_ble_eq_true rfl) (by decide) ?_
    refine sp_J0_coder_7d493 hq ?_
    refine ⟨_, rfl, ?_⟩
    refine x_icmp_eq (pc := 14) (t := 21) dJ5_inflateIfNeededFor_a7421_14 (by decide) ⟨by omega, by omega⟩ ⟨by omega, by omega⟩ (fun c14 => ?_) (fun c14 => ?_)
    · refine x_vret (pc := 21) dJ5_inflateIfNeededFor_a7421_21 rfl (by decide) (by decide) ?_
      exact k
    · exfalso; omega
set_option maxRecDepth 100000 in
theorem sp_J5_putStringAt_c {g : GG} {lay : Lay} {M : Mem} {K : KK} {b v cap : Nat} {t : List Int} {q : Nat} (hQ : SbQ g lay M b v cap t) (hq : q < 24) (hd : t.length + (stB q).length ≤ cap) (k : ∀ M2, (∀ x i, ¬ (x = v ∧ t.length ≤ i ∧ i < t.length + (stB q).length) → M2 x i = M x i) → (∀ i, i < (stB q).length → M2 v (t.length + i) = (stB q).getD i 0) → K (.inl none) lay M2) : X g m_J5_putStringAt_47b60 0 0 lay M 0 [(0, vR b), (1, vI (t.length : Nat)), (2, vR (g.2.2.2.1 q))] [] K := by
  obtain ⟨hb, wb, bv, hv, m0, m1, m3, lc, lc2, mt⟩ := id hQ
  have hn := stN_rng q hq
  have hl := stB_len q hq
  refine x_aload_n (pc := 0) dJ5_putStringAt_47b60_0 rfl rfl ?_
  refine x_aload_n (pc := 1) dJ5_putStringAt_47b60_1 rfl rfl ?_
  refine x_callU (pc := 2) [_] rfl kuJ5_397 dJ5_putStringAt_47b60_2 hb.1 rfl (by decide) (Nat.le_of_ble_eq_true rfl) (Nat.le_of_ble_eq_true rfl) (by decide) ?_
  refine sp_J5_inflateIf_c hQ hq ?_
  refine ⟨_, rfl, ?_⟩
  refine x_aload_n (pc := 5) dJ5_putStringAt_47b60_5 rfl rfl ?_
  refine x_aload_n (pc := 6) dJ5_putStringAt_47b60_6 rfl rfl ?_
  refine x_getrM (pc := 7) (b := v) fJ5_15 dJ5_putStringAt_47b60_7 hb.1 rfl m0 rfl ?_
  refine x_iload_n (pc := 10) dJ5_putStringAt_47b60_10 rfl rfl ?_
  refine x_aload_n (pc := 11) dJ5_putStringAt_47b60_11 rfl rfl ?_
  refine x_getb (pc := 12) fJ5_22 dJ5_putStringAt_47b60_12 hb.1 rfl (fun r12a r12b => ?_)
  refine x_callVs (pc := 15) [_, _, _] rfl kJ5_399 dJ5_putStringAt_47b60_15 hq rfl rfl (by decide) (Nat.le_of_ble_eq_true rfl) (Nat.le_of_ble_eq_true rfl) (by decide) ?_
  refine sp_J0_getBytes_c hq hv (by omega) (by omega) hd m1 (fun M2 p1 p2 => ?_)
  refine ⟨_, rfl, ?_⟩
  refine x_vret (pc := 18) dJ5_putStringAt_47b60_18 rfl (by decide) (by decide) ?_
  exact k M2 p1 p2
set_option maxRecDepth 100000 in
theorem sp_J5_appendS_c {g : GG} {lay : Lay} {M : Mem} {K : KK} {b : Nat} {t : List Int} {q : Nat} (hS : SbP g lay M b t) (hq : q < 24) (hl9 : t.length + (stB q).length ≤ 600) (k : ∀ lay2 M2, Ext lay lay2 → Kp b M M2 → SbP g lay2 M2 b (t ++ (stB q)) → K (.inl (some (vR b))) lay2 M2) : X g m_J5_append_cf1ce 0 0 lay M 0 [(0, vR b), (1, vR (g.2.2.2.1 q))] [] K := by
  obtain ⟨v, cap, hQ⟩ := hS
  obtain ⟨hb, wb, bv, hv, m0, m1, m3, lc, lc2, mt⟩ := id hQ
  have hb0 := hb
  have lb0 := hb.2
  have hn := stN_rng q hq
  have hl := stB_len q hq
  refine x_aload_n (pc := 0) dJ5_append_cf1ce_0 rfl rfl ?_
  refine x_ifnonnull (pc := 1) (t := 9) dJ5_append_cf1ce_1 (by decide) ?_
  refine x_aload_n (pc := 9) dJ5_append_cf1ce_9 rfl rfl ?_
  refine x_callVs (pc := 10) [] rfl kJ5_32 dJ5_append_cf1ce_10 hq rfl rfl (by decide) (Nat.le_of_ble_eq_true rfl) (Nat.le_of_ble_eq_true rfl) (by decide) ?_
  refine sp_J0_length_8abf5 hq ?_
  rw [← hl]
  refine ⟨_, rfl, ?_⟩
  refine x_istore_n (pc := 13) dJ5_append_cf1ce_13 rfl (by decide) (L' := [(2, _), (0, _), (1, _)]) rfl ?_
  refine x_aload_n (pc := 14) dJ5_append_cf1ce_14 rfl rfl ?_
  refine x_aload_n (pc := 15) dJ5_append_cf1ce_15 rfl rfl ?_
  refine x_geti (pc := 16) fJ5_79 dJ5_append_cf1ce_16 hb.1 rfl (fun r16a r16b => ?_)
  refine x_iload_n (pc := 19) dJ5_append_cf1ce_19 rfl rfl ?_
  refine x_iadd (pc := 20) dJ5_append_cf1ce_20 ?_
  refine x_callU (pc := 21) [_] rfl kuJ5_100 dJ5_append_cf1ce_21 hb.1 rfl (by decide) (Nat.le_of_ble_eq_true rfl) (Nat.le_of_ble_eq_true rfl) (by decide) ?_
  refine sp_J5_ensureCapacityInternal_d00df hQ ⟨by omega, by omega⟩ (fun v cap lay2 M2 E hp hQ hc1 hc2 => ?_)
  obtain ⟨hb, wb, bv, hv, m0, m1, m3, lc, lc2, mt⟩ := id hQ
  refine ⟨_, rfl, ?_⟩
  refine x_aload_n (pc := 24) dJ5_append_cf1ce_24 rfl rfl ?_
  refine x_aload_n (pc := 25) dJ5_append_cf1ce_25 rfl rfl ?_
  refine x_geti (pc := 26) fJ5_79 dJ5_append_cf1ce_26 hb.1 rfl (fun r26a r26b => ?_)
  refine x_aload_n (pc := 29) dJ5_append_cf1ce_29 rfl rfl ?_
  refine x_callU (pc := 30) [_, _] rfl kuJ5_208 dJ5_append_cf1ce_30 hb.1 rfl (by decide) (Nat.le_of_ble_eq_true rfl) (Nat.le_of_ble_eq_true rfl) (by decide) ?_
  rw [m3]
  refine sp_J5_putStringAt_c hQ hq (by omega) (fun M3 p1 p2 => ?_)
  refine ⟨_, rfl, ?_⟩
  refine x_aload_n (pc := 33) dJ5_append_cf1ce_33 rfl rfl ?_
  refine x_dup (pc := 34) dJ5_append_cf1ce_34 rfl ?_
  refine x_geti (pc := 35) fJ5_79 dJ5_append_cf1ce_35 hb.1 rfl (fun r35a r35b => ?_)
  refine x_iload_n (pc := 38) dJ5_append_cf1ce_38 rfl rfl ?_
  refine x_iadd (pc := 39) dJ5_append_cf1ce_39 ?_
  rw [p1 _ _ (by omega), m3]
  refine x_puti (pc := 40) fnJ5_79 dJ5_append_cf1ce_40 hb.1 wb rfl ⟨by omega, by omega⟩ ?_
  refine x_aload_n (pc := 43) dJ5_append_cf1ce_43 rfl rfl ?_
  refine x_aret (pc := 44) dJ5_append_cf1ce_44 rfl rfl (by decide) (by decide) ?_
  refine k lay2 _ E (fun x i hx => ?_) ⟨v, cap, hb, wb, bv, hv, ?_, ?_, ?_, ?_, lc2, ?_⟩
  · rw [mset_nea (by omega), p1 _ _ (by omega)]
    exact hp x i (by omega) (by omega)
  · rw [mset_nei (by decide), p1 _ _ (by omega)]
    exact m0
  · rw [mset_nei (by decide), p1 _ _ (by omega)]
    exact m1
  · rw [mset_same, List.length_append]
    omega
  · rw [List.length_append]
    omega
  · exact fun i hi => by
      rw [List.length_append] at hi
      rw [mset_nea (by omega)]
      by_cases c : i < t.length
      · rw [p1 _ _ (by omega), mt i c, gd_l c]
      · have := p2 (i - t.length) (by omega)
        rw [show t.length + (i - t.length) = i by omega] at this
        rw [this, gd_r (by omega)]
set_option maxRecDepth 100000 in
theorem sp_J4_appendS_c {g : GG} {lay : Lay} {M : Mem} {K : KK} {b : Nat} {t : List Int} {q : Nat} (hS : SbP g lay M b t) (hq : q < 24) (hl9 : t.length + (stB q).length ≤ 600) (k : ∀ lay2 M2, Ext lay lay2 → Kp b M M2 → SbP g lay2 M2 b (t ++ (stB q)) → K (.inl (some (vR b))) lay2 M2) : X g m_J4_append_15ec4 0 0 lay M 0 [(0, vR b), (1, vR (g.2.2.2.1 q))] [] K := by
  have hb : KN lay b (0, 8, fun _ => none) := by
    obtain ⟨v, cap, hQ⟩ := hS
    exact hQ.1
  refine x_aload_n (pc := 0) dJ4_append_15ec4_0 rfl rfl ?_
  refine x_aload_n (pc := 1) dJ4_append_15ec4_1 rfl rfl ?_
  refine x_callSP (pc := 2) [_] rfl ksJ4_29 dJ4_append_15ec4_2 hb.1 rfl (by decide) (Nat.le_of_ble_eq_true rfl) (Nat.le_of_ble_eq_true rfl) (by decide) ?_
  refine sp_J5_appendS_c hS hq hl9 (fun lay2 M2 E hp hS2 => ?_)
  refine ⟨_, rfl, ?_⟩
  refine x_pop (pc := 5) dJ4_append_15ec4_5 rfl ?_
  refine x_aload_n (pc := 6) dJ4_append_15ec4_6 rfl rfl ?_
  refine x_aret (pc := 7) dJ4_append_15ec4_7 rfl rfl (by decide) (by decide) ?_
  exact k lay2 M2 E hp hS2
set_option maxRecDepth 100000 in
theorem sp_J0_getBytes_m {g : GG} {lay : Lay} {M : Mem} {K : KK} {a : Nat} {s : List Int} {v cap d : Nat} {cd : Int} (hs : StP lay M a s) (hs9 : s.length ≤ 600) (hv : KN lay v (3, cap, fun _ => none)) (wv : g.2.1 ≤ v) (hcap : cap ≤ 1300) (hd : d + s.length ≤ cap) (hcd : cd = 0) (k : ∀ M2, (∀ x i, ¬ (x = v ∧ d ≤ i ∧ i < d + s.length) → M2 x i = M x i) → (∀ i, i < s.length → M2 v (d + i) = s.getD i 0) → K (.inl none) lay M2) : X g m_J0_getBytes_840e7 0 0 lay M 0 [(0, vR a), (1, vR v), (2, vI d), (3, vI cd)] [] K := by
  obtain ⟨ha, s1, sv, s0, hsv, sm⟩ := id hs
  refine x_aload_n (pc := 0) dJ0_getBytes_840e7_0 rfl rfl ?_
  refine x_callV (pc := 1) [] rfl kJ0_335 dJ0_getBytes_840e7_1 ha.1 rfl rfl (by decide) (Nat.le_of_ble_eq_true rfl) (Nat.le_of_ble_eq_true rfl) (by decide) ?_
  refine sp_J0_coder_m hs hs9 ?_
  refine ⟨_, rfl, ?_⟩
  refine x_iload_n (pc := 4) dJ0_getBytes_840e7_4 rfl rfl ?_
  refine x_icmp_ne (pc := 5) (t := 28) dJ0_getBytes_840e7_5 (by decide) ⟨by omega, by omega⟩ ⟨by omega, by omega⟩ (fun c5 => ?_) (fun c5 => ?_)
  · exfalso; omega
  · refine x_aload_n (pc := 8) dJ0_getBytes_840e7_8 rfl rfl ?_
    refine x_getrM (pc := 9) (b := sv) fJ0_9 dJ0_getBytes_840e7_9 ha.1 rfl s0 rfl ?_
    refine x_iconst (pc := 12) dJ0_getBytes_840e7_12 ?_
    refine x_aload_n (pc := 13) dJ0_getBytes_840e7_13 rfl rfl ?_
    refine x_iload_n (pc := 14) dJ0_getBytes_840e7_14 rfl rfl ?_
    refine x_iload_n (pc := 15) dJ0_getBytes_840e7_15 rfl rfl ?_
    refine x_ishl0 (pc := 16) (by omega) dJ0_getBytes_840e7_16 ?_
    refine x_aload_n (pc := 17) dJ0_getBytes_840e7_17 rfl rfl ?_
    refine x_getrM (pc := 18) (b := sv) fJ0_9 dJ0_getBytes_840e7_18 ha.1 rfl s0 rfl ?_
    refine x_alen (pc := 21) dJ0_getBytes_840e7_21 hsv.1 (fun r21a => ?_)
    refine x_copyB (pc := 22) kcJ0_212 dJ0_getBytes_840e7_22 hsv.1 hv.1 wv (by omega) (by omega) (by omega) (by omega) (by omega) (by omega) (Nat.le_of_ble_eq_true rfl) ⟨by decide, by decide⟩ ?_
    refine x_goto (pc := 25) (t := 43) dJ0_getBytes_840e7_25 (by decide) ?_
    refine x_vret (pc := 43) dJ0_getBytes_840e7_43 rfl (by decide) (by decide) ?_
    refine k _ (fun x i hx => ?_) (fun i hi => ?_)
    · exact if_neg (fun e => hx ⟨e.1, by have := e.2.1; omega, by have := e.2.2; omega⟩)
    · refine (if_pos ⟨rfl, by omega, by omega⟩).trans ?_
      rw [show (0 : Int).toNat + (d + i - (d : Int).toNat) = i by omega]
      exact sm i hi
set_option maxRecDepth 100000 in
theorem sp_J5_inflateIf_m {g : GG} {lay : Lay} {M : Mem} {K : KK} {b v cap : Nat} {t : List Int} {a : Nat} {s : List Int} (hQ : SbQ g lay M b v cap t) (hs : StP lay M a s) (hs9 : s.length ≤ 600) (k : K (.inl none) lay M) : X g m_J5_inflateIfNeededFor_a7421 0 0 lay M 0 [(0, vR b), (1, vR a)] [] K := by
  obtain ⟨hb, wb, bv, hv, m0, m1, m3, lc, lc2, mt⟩ := id hQ
  obtain ⟨ha, s1, sv, s0, hsv, sm⟩ := id hs
  refine x_gcs (pc := 0) flJ5_18 dJ5_inflateIfNeededFor_a7421_0 ?_
  refine x_if_eq (pc := 3) (t := 21) dJ5_inflateIfNeededFor_a7421_3 (by decide) ⟨by omega, by omega⟩ (fun c3 => ?_) (fun c3 => ?_)
  · exfalso; omega
  · refine x_aload_n (pc := 6) dJ5_inflateIfNeededFor_a7421_6 rfl rfl ?_
    refine x_getb (pc := 7) fJ5_22 dJ5_inflateIfNeededFor_a7421_7 hb.1 rfl (fun r7a r7b => ?_)
    refine x_aload_n (pc := 10) dJ5_inflateIfNeededFor_a7421_10 rfl rfl ?_
    refine x_callV (pc := 11) [] rfl kJ5_40 dJ5_inflateIfNeededFor_a7421_11 ha.1 rfl rfl (by decide) (Nat.le_of_ble_eq_true rfl) (Nat.le_of_ble_eq_true rfl) (by decide) ?_
    refine sp_J0_coder_m hs hs9 ?_
    refine ⟨_, rfl, ?_⟩
    refine x_icmp_eq (pc := 14) (t := 21) dJ5_inflateIfNeededFor_a7421_14 (by decide) ⟨by omega, by omega⟩ ⟨by omega, by omega⟩ (fun c14 => ?_) (fun c14 => ?_)
    · refine x_vret (pc := 21) dJ5_inflateIfNeededFor_a7421_21 rfl (by decide) (by decide) ?_
      exact k
    · exfalso; omega
set_option maxRecDepth 100000 in
theorem sp_J5_putStringAt_m {g : GG} {lay : Lay} {M : Mem} {K : KK} {b v cap : Nat} {t : List Int} {a : Nat} {s : List Int} (hQ : SbQ g lay M b v cap t) (hs : StP lay M a s) (hs9 : s.length ≤ 600) (hd : t.length + s.length ≤ cap) (k : ∀ M2, (∀ x i, ¬ (x = v ∧ t.length ≤ i ∧ i < t.length + s.length) → M2 x i = M x i) → (∀ i, i < s.length → M2 v (t.length + i) = s.getD i 0) → K (.inl none) lay M2) : X g m_J5_putStringAt_47b60 0 0 lay M 0 [(0, vR b), (1, vI (t.length : Nat)), (2, vR a)] [] K := by
  obtain ⟨hb, wb, bv, hv, m0, m1, m3, lc, lc2, mt⟩ := id hQ
  obtain ⟨ha, s1, sv, s0, hsv, sm⟩ := id hs
  refine x_aload_n (pc := 0) dJ5_putStringAt_47b60_0 rfl rfl ?_
  refine x_aload_n (pc := 1) dJ5_putStringAt_47b60_1 rfl rfl ?_
  refine x_callU (pc := 2) [_] rfl kuJ5_397 dJ5_putStringAt_47b60_2 hb.1 rfl (by decide) (Nat.le_of_ble_eq_true rfl) (Nat.le_of_ble_eq_true rfl) (by decide) ?_
  refine sp_J5_inflateIf_m hQ hs hs9 ?_
  refine ⟨_, rfl, ?_⟩
  refine x_aload_n (pc := 5) dJ5_putStringAt_47b60_5 rfl rfl ?_
  refine x_aload_n (pc := 6) dJ5_putStringAt_47b60_6 rfl rfl ?_
  refine x_getrM (pc := 7) (b := v) fJ5_15 dJ5_putStringAt_47b60_7 hb.1 rfl m0 rfl ?_
  refine x_iload_n (pc := 10) dJ5_putStringAt_47b60_10 rfl rfl ?_
  refine x_aload_n (pc := 11) dJ5_putStringAt_47b60_11 rfl rfl ?_
  refine x_getb (pc := 12) fJ5_22 dJ5_putStringAt_47b60_12 hb.1 rfl (fun r12a r12b => ?_)
  refine x_callV (pc := 15) [_, _, _] rfl kJ5_399 dJ5_putStringAt_47b60_15 ha.1 rfl rfl (by decide) (Nat.le_of_ble_eq_true rfl) (Nat.le_of_ble_eq_true rfl) (by decide) ?_
  refine sp_J0_getBytes_m hs hs9 hv (by omega) (by omega) hd m1 (fun M2 p1 p2 => ?_)
  refine ⟨_, rfl, ?_⟩
  refine x_vret (pc := 18) dJ5_putStringAt_47b60_18 rfl (by decide) (by decide) ?_
  exact k M2 p1 p2
set_option maxRecDepth 100000 in
theorem sp_J5_appendS_m {g : GG} {lay : Lay} {M : Mem} {K : KK} {b : Nat} {t : List Int} {a : Nat} {s : List Int} (hS : SbP g lay M b t) (hs : StP lay M a s) (hs9 : s.length ≤ 600) (hl9 : t.length + s.length ≤ 600) (k : ∀ lay2 M2, Ext lay lay2 → Kp b M M2 → SbP g lay2 M2 b (t ++ s) → K (.inl (some (vR b))) lay2 M2) : X g m_J5_append_cf1ce 0 0 lay M 0 [(0, vR b), (1, vR a)] [] K := by
  obtain ⟨v, cap, hQ⟩ := hS
  obtain ⟨hb, wb, bv, hv, m0, m1, m3, lc, lc2, mt⟩ := id hQ
  have hb0 := hb
  have lb0 := hb.2
  obtain ⟨ha, s1, sv, s0, hsv, sm⟩ := id hs
  refine x_aload_n (pc := 0) dJ5_append_cf1ce_0 rfl rfl ?_
  refine x_ifnonnull (pc := 1) (t := 9) dJ5_append_cf1ce_1 (by decide) ?_
  refine x_aload_n (pc := 9) dJ5_append_cf1ce_9 rfl rfl ?_
  refine x_callV (pc := 10) [] rfl kJ5_32 dJ5_append_cf1ce_10 ha.1 rfl rfl (by decide) (Nat.le_of_ble_eq_true rfl) (Nat.le_of_ble_eq_true rfl) (by decide) ?_
  refine sp_J0_length_m hs hs9 ?_
  refine ⟨_, rfl, ?_⟩
  refine x_istore_n (pc := 13) dJ5_append_cf1ce_13 rfl (by decide) (L' := [(2, _), (0, _), (1, _)]) rfl ?_
  refine x_aload_n (pc := 14) dJ5_append_cf1ce_14 rfl rfl ?_
  refine x_aload_n (pc := 15) dJ5_append_cf1ce_15 rfl rfl ?_
  refine x_geti (pc := 16) fJ5_79 dJ5_append_cf1ce_16 hb.1 rfl (fun r16a r16b => ?_)
  refine x_iload_n (pc := 19) dJ5_append_cf1ce_19 rfl rfl ?_
  refine x_iadd (pc := 20) dJ5_append_cf1ce_20 ?_
  refine x_callU (pc := 21) [_] rfl kuJ5_100 dJ5_append_cf1ce_21 hb.1 rfl (by decide) (Nat.le_of_ble_eq_true rfl) (Nat.le_of_ble_eq_true rfl) (by decide) ?_
  refine sp_J5_ensureCapacityInternal_d00df hQ ⟨by omega, by omega⟩ (fun v cap lay2 M2 E hp hQ hc1 hc2 => ?_)
  have hab : a ≠ b := ha.ne hb0 (Or.inr (by decide))
  have hvb : sv ≠ b := hsv.ne hb0 (Or.inl (show (3 : Nat) ≠ 0 by decide))
  have hs : StP lay2 M2 a s := ⟨ha.ext E, (hp _ _ ha.2 hab).trans s1, sv, (hp _ _ ha.2 hab).trans s0, hsv.ext E, fun i hi => (hp _ _ hsv.2 hvb).trans (sm i hi)⟩
  obtain ⟨ha, s1, sv, s0, hsv, sm⟩ := id hs
  obtain ⟨hb, wb, bv, hv, m0, m1, m3, lc, lc2, mt⟩ := id hQ
  refine ⟨_, rfl, ?_⟩
  refine x_aload_n (pc := 24) dJ5_append_cf1ce_24 rfl rfl ?_
  refine x_aload_n (pc := 25) dJ5_append_cf1ce_25 rfl rfl ?_
  refine x_geti (pc := 26) fJ5_79 dJ5_append_cf1ce_26 hb.1 rfl (fun r26a r26b => ?_)
  refine x_aload_n (pc := 29) dJ5_append_cf1ce_29 rfl rfl ?_
  refine x_callU (pc := 30) [_, _] rfl kuJ5_208 dJ5_append_cf1ce_30 hb.1 rfl (by decide) (Nat.le_of_ble_eq_true rfl) (Nat.le_of_ble_eq_true rfl) (by decide) ?_
  rw [m3]
  refine sp_J5_putStringAt_m hQ hs hs9 (by omega) (fun M3 p1 p2 => ?_)
  refine ⟨_, rfl, ?_⟩
  refine x_aload_n (pc := 33) dJ5_append_cf1ce_33 rfl rfl ?_
  refine x_dup (pc := 34) dJ5_append_cf1ce_34 rfl ?_
  refine x_geti (pc := 35) fJ5_79 dJ5_append_cf1ce_35 hb.1 rfl (fun r35a r35b => ?_)
  refine x_iload_n (pc := 38) dJ5_append_cf1ce_38 rfl rfl ?_
  refine x_iadd (pc := 39) dJ5_append_cf1ce_39 ?_
  rw [p1 _ _ (by omega), m3]
  refine x_puti (pc := 40) fnJ5_79 dJ5_append_cf1ce_40 hb.1 wb rfl ⟨by omega, by omega⟩ ?_
  refine x_aload_n (pc := 43) dJ5_append_cf1ce_43 rfl rfl ?_
  refine x_aret (pc := 44) dJ5_append_cf1ce_44 rfl rfl (by decide) (by decide) ?_
  refine k lay2 _ E (fun x i hx => ?_) ⟨v, cap, hb, wb, bv, hv, ?_, ?_, ?_, ?_, lc2, ?_⟩
  · rw [mset_nea (by omega), p1 _ _ (by omega)]
    exact hp x i (by omega) (by omega)
  · rw [mset_nei (by decide), p1 _ _ (by omega)]
    exact m0
  · rw [mset_nei (by decide), p1 _ _ (by omega)]
    exact m1
  · rw [mset_same, List.length_append]
    omega
  · rw [List.length_append]
    omega
  · exact fun i hi => by
      rw [List.length_append] at hi
      rw [mset_nea (by omega)]
      by_cases c : i < t.length
      · rw [p1 _ _ (by omega), mt i c, gd_l c]
      · have := p2 (i - t.length) (by omega)
        rw [show t.length + (i - t.length) = i by omega] at this
        rw [this, gd_r (by omega)]
set_option maxRecDepth 100000 in
theorem sp_J4_appendS_m {g : GG} {lay : Lay} {M : Mem} {K : KK} {b : Nat} {t : List Int} {a : Nat} {s : List Int} (hS : SbP g lay M b t) (hs : StP lay M a s) (hs9 : s.length ≤ 600) (hl9 : t.length + s.length ≤ 600) (k : ∀ lay2 M2, Ext lay lay2 → Kp b M M2 → SbP g lay2 M2 b (t ++ s) → K (.inl (some (vR b))) lay2 M2) : X g m_J4_append_15ec4 0 0 lay M 0 [(0, vR b), (1, vR a)] [] K := by
  have hb : KN lay b (0, 8, fun _ => none) := by
    obtain ⟨v, cap, hQ⟩ := hS
    exact hQ.1
  refine x_aload_n (pc := 0) dJ4_append_15ec4_0 rfl rfl ?_
  refine x_aload_n (pc := 1) dJ4_append_15ec4_1 rfl rfl ?_
  refine x_callSP (pc := 2) [_] rfl ksJ4_29 dJ4_append_15ec4_2 hb.1 rfl (by decide) (Nat.le_of_ble_eq_true rfl) (Nat.le_of_ble_eq_true rfl) (by decide) ?_
  refine sp_J5_appendS_m hS hs hs9 hl9 (fun lay2 M2 E hp hS2 => ?_)
  refine ⟨_, rfl, ?_⟩
  refine x_pop (pc := 5) dJ4_append_15ec4_5 rfl ?_
  refine x_aload_n (pc := 6) dJ4_append_15ec4_6 rfl rfl ?_
  refine x_aret (pc := 7) dJ4_append_15ec4_7 rfl rfl (by decide) (by decide) ?_
  exact k lay2 M2 E hp hS2
set_option maxRecDepth 100000 in
theorem sp_J4_bridge {g : GG} {lay : Lay} {M : Mem} {K : KK} {b : Nat} {t : List Int} {a : Nat} {s : List Int} (hS : SbP g lay M b t) (hs : StP lay M a s) (hs9 : s.length ≤ 600) (hl9 : t.length + s.length ≤ 600) (k : ∀ lay2 M2, Ext lay lay2 → Kp b M M2 → SbP g lay2 M2 b (t ++ s) → K (.inl (some (vR b))) lay2 M2) : X g m_J4_append_cf1ce 0 0 lay M 0 [(0, vR b), (1, vR a)] [] K := by
  have hb : KN lay b (0, 8, fun _ => none) := by
    obtain ⟨v, cap, hQ⟩ := hS
    exact hQ.1
  refine x_aload_n (pc := 0) dJ4_append_cf1ce_0 rfl rfl ?_
  refine x_aload_n (pc := 1) dJ4_append_cf1ce_1 rfl rfl ?_
  refine x_callV (pc := 2) [_] rfl kJ4_23 dJ4_append_cf1ce_2 hb.1 rfl rfl (by decide) (Nat.le_of_ble_eq_true rfl) (Nat.le_of_ble_eq_true rfl) (by decide) ?_
  refine sp_J4_appendS_m hS hs hs9 hl9 (fun lay2 M2 E hp hS2 => ?_)
  refine ⟨_, rfl, ?_⟩
  refine x_aret (pc := 5) dJ4_append_cf1ce_5 rfl rfl (by decide) (by decide) ?_
  exact k lay2 M2 E hp hS2
set_option maxRecDepth 100000 in
theorem sp_J5_init_d00df {g : GG} {lay : Lay} {M : Mem} {K : KK} {b : Nat} (hb : KN lay b (0, 8, fun _ => none)) (wb : g.2.1 ≤ b) (hz : M b 3 = 0) (k : ∀ lay2 M2, Ext lay lay2 → Kp b M M2 → SbP g lay2 M2 b [] → K (.inl none) lay2 M2) : X g m_J5_init_d00df 0 0 lay M 0 [(0, vR b), (1, vI 16)] [] K := by
  refine x_aload_n (pc := 0) dJ5_init_d00df_0 rfl rfl ?_
  refine x_super (pc := 1) koJ5_3 dJ5_init_d00df_1 (by decide) ⟨by decide, by decide⟩ ?_
  refine x_gcs (pc := 4) flJ5_18 dJ5_init_d00df_4 ?_
  refine x_if_eq (pc := 7) (t := 25) dJ5_init_d00df_7 (by decide) ⟨by omega, by omega⟩ (fun c7 => ?_) (fun c7 => ?_)
  · exfalso; omega
  · refine x_aload_n (pc := 10) dJ5_init_d00df_10 rfl rfl ?_
    refine x_iload_n (pc := 11) dJ5_init_d00df_11 rfl rfl ?_
    refine x_newaH (pc := 12) (t := 2) (n := 16) rfl (by decide) na2 dJ5_init_d00df_12 (by omega) ⟨by decide, by show 0 + _ ≤ 16; omega⟩ rfl (fun w lay2 M2 e0 e1 E hp hw z0 => ?_)
    refine X.cs (cn' := 1) (ck' := 16) ?_ (by decide) (by omega)
    have lb : b < w := by have := hb.2; omega
    have hb := hb.ext E
    refine x_putrM (pc := 14) fnJ5_15 dJ5_init_d00df_14 hb.1 wb rfl rfl ?_
    refine x_aload_n (pc := 17) dJ5_init_d00df_17 rfl rfl ?_
    refine x_iconst (pc := 18) dJ5_init_d00df_18 ?_
    refine x_putb (pc := 19) fnJ5_22 dJ5_init_d00df_19 hb.1 wb rfl ⟨by omega, by omega⟩ ?_
    refine x_goto (pc := 22) (t := 38) dJ5_init_d00df_22 (by decide) ?_
    refine x_vret (pc := 38) dJ5_init_d00df_38 rfl (by decide) (by decide) ?_
    refine k lay2 _ E (fun x i hx => ?_) ⟨w, 16, hb, wb, lb, hw, ?_, ?_, ?_, by decide, by decide, fun i hi => absurd hi (by simp)⟩
    · rw [mset_nea (by omega), mset_nea (by omega)]
      exact hp x i (by omega)
    · rw [mset_nei (by decide), mset_same]
    · rw [mset_same]
    · rw [mset_nei (by decide), mset_nei (by decide), hp _ _ lb, hz]
      rfl
set_option maxRecDepth 100000 in
theorem sp_J4_init_da8c8 {g : GG} {lay : Lay} {M : Mem} {K : KK} {b : Nat} (hb : KN lay b (0, 8, fun _ => none)) (wb : g.2.1 ≤ b) (hz : M b 3 = 0) (k : ∀ lay2 M2, Ext lay lay2 → Kp b M M2 → SbP g lay2 M2 b [] → K (.inl none) lay2 M2) : X g m_J4_init_da8c8 0 0 lay M 0 [(0, vR b)] [] K := by
  refine x_aload_n (pc := 0) dJ4_init_da8c8_0 rfl rfl ?_
  refine x_bipush (pc := 1) dJ4_init_da8c8_1 (by decide) ?_
  refine x_callP (pc := 3) [_] rfl kpJ4_1 dJ4_init_da8c8_3 rfl (by decide) (Nat.le_of_ble_eq_true rfl) (Nat.le_of_ble_eq_true rfl) (by decide) ?_
  refine sp_J5_init_d00df hb wb hz (fun lay2 M2 E hp hS => ?_)
  refine ⟨_, rfl, ?_⟩
  refine x_vret (pc := 6) dJ4_init_da8c8_6 rfl (by decide) (by decide) ?_
  exact k lay2 M2 E hp hS
set_option maxRecDepth 100000 in
theorem sp_J5_init_a7421 {g : GG} {lay : Lay} {M : Mem} {K : KK} {b : Nat} {a : Nat} {s : List Int} (hb : KN lay b (0, 8, fun _ => none)) (wb : g.2.1 ≤ b) (hz : M b 3 = 0) (hs : StP lay M a s) (hs9 : s.length ≤ 600) (k : ∀ lay2 M2, Ext lay lay2 → Kp b M M2 → SbP g lay2 M2 b s → K (.inl none) lay2 M2) : X g m_J5_init_a7421 0 0 lay M 0 [(0, vR b), (1, vR a)] [] K := by
  obtain ⟨ha, s1, sv, s0, hsv, sm⟩ := id hs
  have hbo := hb
  refine x_aload_n (pc := 0) dJ5_init_a7421_0 rfl rfl ?_
  refine x_super (pc := 1) koJ5_3 dJ5_init_a7421_1 (by decide) ⟨by decide, by decide⟩ ?_
  refine x_aload_n (pc := 4) dJ5_init_a7421_4 rfl rfl ?_
  refine x_callV (pc := 5) [] rfl kJ5_32 dJ5_init_a7421_5 ha.1 rfl rfl (by decide) (Nat.le_of_ble_eq_true rfl) (Nat.le_of_ble_eq_true rfl) (by decide) ?_
  refine sp_J0_length_m hs hs9 ?_
  refine ⟨_, rfl, ?_⟩
  refine x_istore_n (pc := 8) dJ5_init_a7421_8 rfl (by decide) (L' := [(2, _), (0, _), (1, _)]) rfl ?_
  refine x_iload_n (pc := 9) dJ5_init_a7421_9 rfl rfl ?_
  refine x_ldcI (pc := 10) 2147483631 kiJ5_38 (by decide) dJ5_init_a7421_10 ?_
  refine x_icmp_ge (pc := 12) (t := 22) dJ5_init_a7421_12 (by decide) ⟨by omega, by omega⟩ ⟨by omega, by omega⟩ (fun c12 => ?_) (fun c12 => ?_)
  · exfalso; omega
  · refine x_iload_n (pc := 15) dJ5_init_a7421_15 rfl rfl ?_
    refine x_bipush (pc := 16) dJ5_init_a7421_16 (by decide) ?_
    refine x_iadd (pc := 18) dJ5_init_a7421_18 ?_
    refine x_goto (pc := 19) (t := 24) dJ5_init_a7421_19 (by decide) ?_
    refine x_istore_n (pc := 24) dJ5_init_a7421_24 rfl (by decide) (L' := [(3, _), (2, _), (0, _), (1, _)]) rfl ?_
    refine x_aload_n (pc := 25) dJ5_init_a7421_25 rfl rfl ?_
    refine x_callV (pc := 26) [] rfl kJ5_40 dJ5_init_a7421_26 ha.1 rfl rfl (by decide) (Nat.le_of_ble_eq_true rfl) (Nat.le_of_ble_eq_true rfl) (by decide) ?_
    refine sp_J0_coder_m hs hs9 ?_
    refine ⟨_, rfl, ?_⟩
    refine x_istore (pc := 29) dJ5_init_a7421_29 trivial (by decide) (L' := [(4, _), (3, _), (2, _), (0, _), (1, _)]) rfl ?_
    refine x_aload_n (pc := 31) dJ5_init_a7421_31 rfl rfl ?_
    refine x_iload (pc := 32) dJ5_init_a7421_32 rfl ?_
    refine x_putb (pc := 34) fnJ5_22 dJ5_init_a7421_34 hb.1 wb rfl ⟨by omega, by omega⟩ ?_
    refine x_aload_n (pc := 37) dJ5_init_a7421_37 rfl rfl ?_
    refine x_iload (pc := 38) dJ5_init_a7421_38 rfl ?_
    refine x_if_ne (pc := 40) (t := 49) dJ5_init_a7421_40 (by decide) ⟨by omega, by omega⟩ (fun c40 => ?_) (fun c40 => ?_)
    · exfalso; omega
    · refine x_iload_n (pc := 43) dJ5_init_a7421_43 rfl rfl ?_
      refine x_newaH (pc := 44) (t := 2) (n := s.length + 16) rfl (by decide) na2 dJ5_init_a7421_44 (by omega) ⟨by decide, by show 0 + 0 + 0 + (s.length + 16) ≤ 2800; omega⟩ (by omega) (fun w lay2 M2 e0 e1 E hp hw z0 => ?_)
      refine X.cs (cn' := 1) (ck' := 750) ?_ (by decide) (by show 0 + 0 + 0 + (s.length + 16) ≤ 750; omega)
      have lb : b < w := by have := hb.2; omega
      have hb := hb.ext E
      have wa : a ≠ b := ha.ne hbo (Or.inr (by decide))
      have wsv : sv ≠ b := hsv.ne hbo (Or.inl (show (3 : Nat) ≠ 0 by decide))
      have la := ha.2
      have lsv := hsv.2
      have hs2 : StP lay2 (mset M2 b 0 (er w)) a s := ⟨ha.ext E, by rw [mset_nea wa, hp _ _ (by omega), mset_nea wa]; exact s1, sv, by rw [mset_nea wa, hp _ _ (by omega), mset_nea wa]; exact s0, hsv.ext E, fun i hi => by rw [mset_nea wsv, hp _ _ (by omega), mset_nea wsv]; exact sm i hi⟩
      have hQ : SbP g lay2 (mset M2 b 0 (er w)) b [] := ⟨w, s.length + 16, hb, wb, lb, hw, mset_same, by rw [mset_nei (by decide), hp _ _ lb, mset_same], by rw [mset_nei (by decide), hp _ _ lb, mset_nei (by decide), hz]; rfl, Nat.zero_le _, by omega, fun i hi => absurd hi (by simp)⟩
      refine x_goto (pc := 46) (t := 53) dJ5_init_a7421_46 (by decide) ?_
      refine x_putrM (pc := 53) fnJ5_15 dJ5_init_a7421_53 hb.1 wb rfl rfl ?_
      refine x_aload_n (pc := 56) dJ5_init_a7421_56 rfl rfl ?_
      refine x_aload_n (pc := 57) dJ5_init_a7421_57 rfl rfl ?_
      refine x_callO (pc := 58) [_] rfl kvJ5_43 dJ5_init_a7421_58 hb.1 rfl (by decide) (Nat.le_of_ble_eq_true rfl) (Nat.le_of_ble_eq_true rfl) (by decide) ?_
      refine sp_J4_bridge hQ hs2 hs9 (by simp; omega) (fun lay3 M3 E3 hp3 hS3 => ?_)
      refine ⟨_, rfl, ?_⟩
      refine x_pop (pc := 61) dJ5_init_a7421_61 rfl ?_
      refine x_vret (pc := 62) dJ5_init_a7421_62 rfl (by decide) (by decide) ?_
      refine k lay3 M3 (E.tr E3) (fun x i hx => ?_) hS3
      rw [hp3 x i hx, mset_nea (by omega), hp x i (by omega), mset_nea (by omega)]
set_option maxRecDepth 100000 in
theorem sp_J4_init_a7421 {g : GG} {lay : Lay} {M : Mem} {K : KK} {b : Nat} {a : Nat} {s : List Int} (hb : KN lay b (0, 8, fun _ => none)) (wb : g.2.1 ≤ b) (hz : M b 3 = 0) (hs : StP lay M a s) (hs9 : s.length ≤ 600) (k : ∀ lay2 M2, Ext lay lay2 → Kp b M M2 → SbP g lay2 M2 b s → K (.inl none) lay2 M2) : X g m_J4_init_a7421 0 0 lay M 0 [(0, vR b), (1, vR a)] [] K := by
  refine x_aload_n (pc := 0) dJ4_init_a7421_0 rfl rfl ?_
  refine x_aload_n (pc := 1) dJ4_init_a7421_1 rfl rfl ?_
  refine x_callP (pc := 2) [_] rfl kpJ4_7 dJ4_init_a7421_2 rfl (by decide) (Nat.le_of_ble_eq_true rfl) (Nat.le_of_ble_eq_true rfl) (by decide) ?_
  refine sp_J5_init_a7421 hb wb hz hs hs9 (fun lay2 M2 E hp hS => ?_)
  refine ⟨_, rfl, ?_⟩
  refine x_vret (pc := 5) dJ4_init_a7421_5 rfl (by decide) (by decide) ?_
  exact k lay2 M2 E hp hS
set_option maxRecDepth 100000 in
theorem sp_J1_canEncode_fc78d {g : GG} {lay : Lay} {M : Mem} {K : KK} {x : Int} (hx : 0 ≤ x ∧ x < 128) (k : K (.inl (some (vI (1)))) lay M) : X g m_J1_canEncode_fc78d 0 0 lay M 0 [(0, vI x)] [] K := by
  refine x_iload_n (pc := 0) dJ1_canEncode_fc78d_0 rfl rfl ?_
  refine x_sipush (pc := 1) dJ1_canEncode_fc78d_1 (by decide) ?_
  refine x_icmp_gt (pc := 4) (t := 11) dJ1_canEncode_fc78d_4 (by decide) ⟨by omega, by omega⟩ ⟨by omega, by omega⟩ (fun c4 => ?_) (fun c4 => ?_)
  · exfalso; omega
  · refine x_iconst (pc := 7) dJ1_canEncode_fc78d_7 ?_
    refine x_goto (pc := 8) (t := 12) dJ1_canEncode_fc78d_8 (by decide) ?_
    refine x_zret (pc := 12) dJ1_canEncode_fc78d_12 rfl ⟨by omega, by omega⟩ (by decide) (by decide) ?_
    exact k
set_option maxRecDepth 100000 in
theorem sp_J5_appendC {g : GG} {lay : Lay} {M : Mem} {K : KK} {b : Nat} {t : List Int} {x : Int} (hS : SbP g lay M b t) (hx : 0 ≤ x ∧ x < 128) (hl9 : t.length + 1 ≤ 600) (k : ∀ lay2 M2, Ext lay lay2 → Kp b M M2 → SbP g lay2 M2 b (t ++ [x]) → K (.inl (some (vR b))) lay2 M2) : X g m_J5_append_3fe6f 0 0 lay M 0 [(0, vR b), (1, vI x)] [] K := by
  obtain ⟨v, cap, hQ⟩ := hS
  obtain ⟨hb, wb, bv, hv, m0, m1, m3, lc, lc2, mt⟩ := id hQ
  have lb0 := hb.2
  have e9 : x.bmod 256 = x := by
    rw [Int.bmod_def]
    omega
  refine x_aload_n (pc := 0) dJ5_append_3fe6f_0 rfl rfl ?_
  refine x_aload_n (pc := 1) dJ5_append_3fe6f_1 rfl rfl ?_
  refine x_geti (pc := 2) fJ5_79 dJ5_append_3fe6f_2 hb.1 rfl (fun r2a r2b => ?_)
  refine x_iconst (pc := 5) dJ5_append_3fe6f_5 ?_
  refine x_iadd (pc := 6) dJ5_append_3fe6f_6 ?_
  refine x_callU (pc := 7) [_] rfl kuJ5_100 dJ5_append_3fe6f_7 hb.1 rfl (by decide) (Nat.le_of_ble_eq_true rfl) (Nat.le_of_ble_eq_true rfl) (by decide) ?_
  refine sp_J5_ensureCapacityInternal_d00df hQ ⟨by omega, by omega⟩ (fun v cap lay2 M2 E hp hQ hc1 hc2 => ?_)
  obtain ⟨hb, wb, bv, hv, m0, m1, m3, lc, lc2, mt⟩ := id hQ
  refine ⟨_, rfl, ?_⟩
  refine x_aload_n (pc := 10) dJ5_append_3fe6f_10 rfl rfl ?_
  refine x_callU (pc := 11) [] rfl kuJ5_83 dJ5_append_3fe6f_11 hb.1 rfl (by decide) (Nat.le_of_ble_eq_true rfl) (Nat.le_of_ble_eq_true rfl) (by decide) ?_
  refine sp_J5_isLatin1_aae02 hQ ?_
  refine ⟨_, rfl, ?_⟩
  refine x_if_eq (pc := 14) (t := 45) dJ5_append_3fe6f_14 (by decide) ⟨by omega, by omega⟩ (fun c14 => ?_) (fun c14 => ?_)
  · exfalso; omega
  · refine x_iload_n (pc := 17) dJ5_append_3fe6f_17 rfl rfl ?_
    refine x_callS (pc := 18) [_] rfl kJ5_191 dJ5_append_3fe6f_18 rfl (by decide) (Nat.le_of_ble_eq_true rfl) (Nat.le_of_ble_eq_true rfl) (by decide) ?_
    refine sp_J1_canEncode_fc78d hx ?_
    refine ⟨_, rfl, ?_⟩
    refine x_if_eq (pc := 21) (t := 45) dJ5_append_3fe6f_21 (by decide) ⟨by omega, by omega⟩ (fun c21 => ?_) (fun c21 => ?_)
    · exfalso; omega
    · refine x_aload_n (pc := 24) dJ5_append_3fe6f_24 rfl rfl ?_
      refine x_getrM (pc := 25) (b := v) fJ5_15 dJ5_append_3fe6f_25 hb.1 rfl m0 rfl ?_
      refine x_aload_n (pc := 28) dJ5_append_3fe6f_28 rfl rfl ?_
      refine x_dup (pc := 29) dJ5_append_3fe6f_29 rfl ?_
      refine x_geti (pc := 30) fJ5_79 dJ5_append_3fe6f_30 hb.1 rfl (fun r30a r30b => ?_)
      refine x_dupx1 (pc := 33) dJ5_append_3fe6f_33 rfl rfl ?_
      refine x_iconst (pc := 34) dJ5_append_3fe6f_34 ?_
      refine x_iadd (pc := 35) dJ5_append_3fe6f_35 ?_
      refine x_puti (pc := 36) fnJ5_79 dJ5_append_3fe6f_36 hb.1 wb rfl ⟨by omega, by omega⟩ ?_
      refine x_iload_n (pc := 39) dJ5_append_3fe6f_39 rfl rfl ?_
      refine x_i2b (pc := 40) dJ5_append_3fe6f_40 ?_
      rw [e9]
      refine x_bast (pc := 41) dJ5_append_3fe6f_41 hv.1 (show g.2.1 ≤ v by omega) (by omega) (by omega) ⟨by omega, by omega⟩ ?_
      refine x_goto (pc := 42) (t := 75) dJ5_append_3fe6f_42 (by decide) ?_
      refine x_aload_n (pc := 75) dJ5_append_3fe6f_75 rfl rfl ?_
      refine x_aret (pc := 76) dJ5_append_3fe6f_76 rfl rfl (by decide) (by decide) ?_
      have tn : (M2 b 3).toNat = t.length := by rw [m3]; exact Int.toNat_natCast _
      rw [tn]
      refine k lay2 _ E (fun y i hy => ?_) ⟨v, cap, hb, wb, bv, hv, ?_, ?_, ?_, ?_, lc2, fun i hi => ?_⟩
      · rw [mset_nea (by omega), mset_nea (by omega)]
        exact hp y i (by omega) (by omega)
      · rw [mset_nea (by omega), mset_nei (by decide)]
        exact m0
      · rw [mset_nea (by omega), mset_nei (by decide)]
        exact m1
      · rw [mset_nea (by omega), mset_same, m3, List.length_append]
        rfl
      · rw [List.length_append]
        show t.length + 1 ≤ cap
        omega
      · rw [List.length_append] at hi
        have hi2 : i < t.length + 1 := hi
        by_cases c : i = t.length
        · subst c
          rw [mset_same, gd_r (Nat.le_refl _), Nat.sub_self]
          rfl
        · rw [mset_nei c, mset_nea (by omega), mt i (by omega), gd_l (by omega)]
set_option maxRecDepth 100000 in
theorem sp_J4_appendC {g : GG} {lay : Lay} {M : Mem} {K : KK} {b : Nat} {t : List Int} {x : Int} (hS : SbP g lay M b t) (hx : 0 ≤ x ∧ x < 128) (hl9 : t.length + 1 ≤ 600) (k : ∀ lay2 M2, Ext lay lay2 → Kp b M M2 → SbP g lay2 M2 b (t ++ [x]) → K (.inl (some (vR b))) lay2 M2) : X g m_J4_append_cf468 0 0 lay M 0 [(0, vR b), (1, vI x)] [] K := by
  have hb : KN lay b (0, 8, fun _ => none) := by
    obtain ⟨v, cap, hQ⟩ := hS
    exact hQ.1
  refine x_aload_n (pc := 0) dJ4_append_cf468_0 rfl rfl ?_
  refine x_iload_n (pc := 1) dJ4_append_cf468_1 rfl rfl ?_
  refine x_callSP (pc := 2) [_] rfl ksJ4_50 dJ4_append_cf468_2 hb.1 rfl (by decide) (Nat.le_of_ble_eq_true rfl) (Nat.le_of_ble_eq_true rfl) (by decide) ?_
  refine sp_J5_appendC hS hx hl9 (fun lay2 M2 E hp hS2 => ?_)
  refine ⟨_, rfl, ?_⟩
  refine x_pop (pc := 5) dJ4_append_cf468_5 rfl ?_
  refine x_aload_n (pc := 6) dJ4_append_cf468_6 rfl rfl ?_
  refine x_aret (pc := 7) dJ4_append_cf468_7 rfl rfl (by decide) (by decide) ?_
  exact k lay2 M2 E hp hS2
theorem numF_len (x : Int) (hx : -99 ≤ x ∧ x ≤ 99) : (numF x).length = (if x < 0 then 1 else 0) + (if 10 ≤ x.natAbs then 2 else 1) := by
  unfold numF
  by_cases c : x < 0 <;> by_cases d : 10 ≤ x.natAbs <;> simp [c, d]
theorem numF_le (x : Int) (hx : -99 ≤ x ∧ x ≤ 99) : 1 ≤ (numF x).length ∧ (numF x).length ≤ 3 := by
  rw [numF_len x hx]
  split <;> split <;> omega
set_option maxRecDepth 100000 in
theorem sp_J6_stringSize_0f7a4 {g : GG} {lay : Lay} {M : Mem} {K : KK} {x : Int} (hx : -99 ≤ x ∧ x ≤ 99) (k : K (.inl (some (vI (((numF x).length : Nat))))) lay M) : X g m_J6_stringSize_0f7a4 0 0 lay M 0 [(0, vI x)] [] K := by
  have hL := numF_len x hx
  have loop2 : ∀ (y d : Int), d = (if x < 0 then 1 else 0) → y = -(x.natAbs : Int) → 10 ≤ x.natAbs → X g m_J6_stringSize_0f7a4 0 0 lay M 16 [(3, vI 2), (2, vI (-100)), (1, vI d), (0, vI y)] [] K := by
    intro y d hd hy h9
    have hd0 : 0 ≤ d ∧ d ≤ 1 := by rw [hd]; split <;> omega
    refine x_iload_n (pc := 16) dJ6_stringSize_0f7a4_16 rfl rfl ?_
    refine x_bipush (pc := 17) dJ6_stringSize_0f7a4_17 (by decide) ?_
    refine x_icmp_ge (pc := 19) (t := 42) dJ6_stringSize_0f7a4_19 (by decide) ⟨by omega, by omega⟩ ⟨by omega, by omega⟩ (fun c19 => ?_) (fun c19 => ?_)
    · exfalso; omega
    · refine x_iload_n (pc := 22) dJ6_stringSize_0f7a4_22 rfl rfl ?_
      refine x_iload_n (pc := 23) dJ6_stringSize_0f7a4_23 rfl rfl ?_
      refine x_icmp_le (pc := 24) (t := 31) dJ6_stringSize_0f7a4_24 (by decide) ⟨by omega, by omega⟩ ⟨by omega, by omega⟩ (fun c24 => ?_) (fun c24 => ?_)
      · exfalso; omega
      · refine x_iload_n (pc := 27) dJ6_stringSize_0f7a4_27 rfl rfl ?_
        refine x_iload_n (pc := 28) dJ6_stringSize_0f7a4_28 rfl rfl ?_
        refine x_iadd (pc := 29) dJ6_stringSize_0f7a4_29 ?_
        refine x_iret (pc := 30) dJ6_stringSize_0f7a4_30 rfl (by decide) (by decide) ?_
        refine kI k ?_
        rw [hL, hd]
        first
        | (split <;> split <;> omega)
        | (split <;> omega)
  have loop : ∀ (y d : Int) , d = (if x < 0 then 1 else 0) → y = -(x.natAbs : Int) → X g m_J6_stringSize_0f7a4 0 0 lay M 16 [(3, vI 1), (2, vI (-10)), (1, vI d), (0, vI y)] [] K := by
    intro y d hd hy
    have hd0 : 0 ≤ d ∧ d ≤ 1 := by rw [hd]; split <;> omega
    refine x_iload_n (pc := 16) dJ6_stringSize_0f7a4_16 rfl rfl ?_
    refine x_bipush (pc := 17) dJ6_stringSize_0f7a4_17 (by decide) ?_
    refine x_icmp_ge (pc := 19) (t := 42) dJ6_stringSize_0f7a4_19 (by decide) ⟨by omega, by omega⟩ ⟨by omega, by omega⟩ (fun c19 => ?_) (fun c19 => ?_)
    · exfalso; omega
    · refine x_iload_n (pc := 22) dJ6_stringSize_0f7a4_22 rfl rfl ?_
      refine x_iload_n (pc := 23) dJ6_stringSize_0f7a4_23 rfl rfl ?_
      refine x_icmp_le (pc := 24) (t := 31) dJ6_stringSize_0f7a4_24 (by decide) ⟨by omega, by omega⟩ ⟨by omega, by omega⟩ (fun c24 => ?_) (fun c24 => ?_)
      · refine x_bipush (pc := 31) dJ6_stringSize_0f7a4_31 (by decide) ?_
        refine x_iload_n (pc := 33) dJ6_stringSize_0f7a4_33 rfl rfl ?_
        refine x_imul (pc := 34) dJ6_stringSize_0f7a4_34 ?_
        refine x_istore_n (pc := 35) dJ6_stringSize_0f7a4_35 rfl (by decide) (L' := [(2, _), (3, _), (1, _), (0, _)]) rfl ?_
        refine x_iinc (pc := 36) dJ6_stringSize_0f7a4_36 rfl (by decide) (L' := [(3, _), (2, _), (1, _), (0, _)]) rfl ?_
        refine x_goto (pc := 39) (t := 16) dJ6_stringSize_0f7a4_39 (by decide) ?_
        refine X.loc [0, 1, 2, 3] (L' := [(3, _), (2, _), (1, _), (0, _)]) rfl ?_
        exact loop2 _ _ hd hy (by omega)
      · refine x_iload_n (pc := 27) dJ6_stringSize_0f7a4_27 rfl rfl ?_
        refine x_iload_n (pc := 28) dJ6_stringSize_0f7a4_28 rfl rfl ?_
        refine x_iadd (pc := 29) dJ6_stringSize_0f7a4_29 ?_
        refine x_iret (pc := 30) dJ6_stringSize_0f7a4_30 rfl (by decide) (by decide) ?_
        refine kI k ?_
        rw [hL, hd]
        split <;> split <;> omega
  refine x_iconst (pc := 0) dJ6_stringSize_0f7a4_0 ?_
  refine x_istore_n (pc := 1) dJ6_stringSize_0f7a4_1 rfl (by decide) (L' := [(1, _), (0, _)]) rfl ?_
  refine x_iload_n (pc := 2) dJ6_stringSize_0f7a4_2 rfl rfl ?_
  refine x_if_lt (pc := 3) (t := 11) dJ6_stringSize_0f7a4_3 (by decide) ⟨by omega, by omega⟩ (fun c3 => ?_) (fun c3 => ?_)
  · refine x_bipush (pc := 11) dJ6_stringSize_0f7a4_11 (by decide) ?_
    refine x_istore_n (pc := 13) dJ6_stringSize_0f7a4_13 rfl (by decide) (L' := [(2, _), (1, _), (0, _)]) rfl ?_
    refine x_iconst (pc := 14) dJ6_stringSize_0f7a4_14 ?_
    refine x_istore_n (pc := 15) dJ6_stringSize_0f7a4_15 rfl (by decide) (L' := [(3, _), (2, _), (1, _), (0, _)]) rfl ?_
    refine X.loc [0, 1, 2, 3] (L' := [(3, _), (2, _), (1, _), (0, _)]) rfl ?_
    refine loop _ _ ?_ ?_
    · split <;> omega
    · omega
  · refine x_iconst (pc := 6) dJ6_stringSize_0f7a4_6 ?_
    refine x_istore_n (pc := 7) dJ6_stringSize_0f7a4_7 rfl (by decide) (L' := [(1, _), (0, _)]) rfl ?_
    refine x_iload_n (pc := 8) dJ6_stringSize_0f7a4_8 rfl rfl ?_
    refine x_ineg (pc := 9) dJ6_stringSize_0f7a4_9 ?_
    refine x_istore_n (pc := 10) dJ6_stringSize_0f7a4_10 rfl (by decide) (L' := [(0, _), (1, _)]) rfl ?_
    refine x_bipush (pc := 11) dJ6_stringSize_0f7a4_11 (by decide) ?_
    refine x_istore_n (pc := 13) dJ6_stringSize_0f7a4_13 rfl (by decide) (L' := [(2, _), (0, _), (1, _)]) rfl ?_
    refine x_iconst (pc := 14) dJ6_stringSize_0f7a4_14 ?_
    refine x_istore_n (pc := 15) dJ6_stringSize_0f7a4_15 rfl (by decide) (L' := [(3, _), (2, _), (0, _), (1, _)]) rfl ?_
    refine X.loc [0, 1, 3, 2] (L' := [(3, _), (2, _), (1, _), (0, _)]) rfl ?_
    refine loop _ _ ?_ ?_
    · split <;> omega
    · omega
theorem numF_A {x : Int} (h : 0 ≤ x ∧ x < 10) : numF x = [48 + x] := by
  unfold numF
  rw [if_neg (by omega), if_neg (by omega)]
  show [48 + ((x.natAbs % 10 : Nat) : Int)] = _
  congr 1
  omega
theorem numF_B {x : Int} (h : 10 ≤ x ∧ x < 100) : numF x = [48 + x / 10, 48 + x % 10] := by
  unfold numF
  rw [if_neg (by omega), if_pos (by omega)]
  show [48 + ((x.natAbs / 10 : Nat) : Int), 48 + ((x.natAbs % 10 : Nat) : Int)] = _
  rw [show ((x.natAbs / 10 : Nat) : Int) = x / 10 by omega, show ((x.natAbs % 10 : Nat) : Int) = x % 10 by omega]
theorem numF_C {x : Int} (h : -10 < x ∧ x < 0) : numF x = [45, 48 - x] := by
  unfold numF
  rw [if_pos h.2, if_neg (by omega)]
  show [45, 48 + ((x.natAbs % 10 : Nat) : Int)] = _
  rw [show 48 + ((x.natAbs % 10 : Nat) : Int) = 48 - x by omega]
theorem numF_D {x : Int} (h : -100 < x ∧ x ≤ -10) : numF x = [45, 48 + (-x) / 10, 48 + (-x) % 10] := by
  unfold numF
  rw [if_pos (by omega), if_pos (by omega)]
  show [45, 48 + ((x.natAbs / 10 : Nat) : Int), 48 + ((x.natAbs % 10 : Nat) : Int)] = _
  rw [show ((x.natAbs / 10 : Nat) : Int) = (-x) / 10 by omega, show ((x.natAbs % 10 : Nat) : Int) = (-x) % 10 by omega]
set_option maxRecDepth 100000 in
theorem sp_J6_getCharsA {g : GG} {lay : Lay} {M : Mem} {K : KK} {v cap d : Nat} {x q : Int} (hJ : JcP g lay M) (hx : 0 ≤ x ∧ x < 10) (hv : KN lay v (3, cap, fun _ => none)) (wv : g.2.1 ≤ v) (hcap : cap ≤ 1300) (hq : q = (d : Int) + 1) (hd : d + 1 ≤ cap) (k : ∀ M2, (∀ y i, ¬ (y = v ∧ d ≤ i ∧ i < d + (numF x).length) → M2 y i = M y i) → (∀ i, i < (numF x).length → M2 v (d + i) = (numF x).getD i 0) → K (.inl (some (vI d))) lay M2) : X g m_J6_getChars_ba4f3 0 0 lay M 0 [(0, vI x), (1, vI q), (2, vR v)] [] K := by
  obtain ⟨⟨j3, g3⟩, ⟨j4, g4⟩, -, d3, d4⟩ := hJ
  have n3 : g.2.2.1 3 ≠ v := by omega
  have n4 : g.2.2.1 4 ≠ v := by omega
  rw [numF_A (by omega)] at k
  refine x_iload_n (pc := 0) dJ6_getChars_ba4f3_0 rfl rfl ?_
  refine x_istore (pc := 1) dJ6_getChars_ba4f3_1 trivial (by decide) (L' := [(5, _), (0, _), (1, _), (2, _)]) rfl ?_
  refine x_iload_n (pc := 3) dJ6_getChars_ba4f3_3 rfl rfl ?_
  refine x_if_ge (pc := 4) (t := 11) dJ6_getChars_ba4f3_4 (by decide) ⟨by omega, by omega⟩ (fun c4 => ?_) (fun c4 => ?_)
  · refine x_iconst (pc := 11) dJ6_getChars_ba4f3_11 ?_
    refine x_istore (pc := 12) dJ6_getChars_ba4f3_12 trivial (by decide) (L' := [(6, _), (5, _), (0, _), (1, _), (2, _)]) rfl ?_
    refine x_iload (pc := 14) dJ6_getChars_ba4f3_14 rfl ?_
    refine x_if_ne (pc := 16) (t := 22) dJ6_getChars_ba4f3_16 (by decide) ⟨by omega, by omega⟩ (fun c16 => ?_) (fun c16 => ?_)
    · exfalso; omega
    · refine x_iload_n (pc := 19) dJ6_getChars_ba4f3_19 rfl rfl ?_
      refine x_ineg (pc := 20) dJ6_getChars_ba4f3_20 ?_
      refine x_istore_n (pc := 21) dJ6_getChars_ba4f3_21 rfl (by decide) (L' := [(0, _), (6, _), (5, _), (1, _), (2, _)]) rfl ?_
      refine x_iload_n (pc := 22) dJ6_getChars_ba4f3_22 rfl rfl ?_
      refine x_bipush (pc := 23) dJ6_getChars_ba4f3_23 (by decide) ?_
      refine x_icmp_gt (pc := 25) (t := 72) dJ6_getChars_ba4f3_25 (by decide) ⟨by omega, by omega⟩ ⟨by omega, by omega⟩ (fun c25 => ?_) (fun c25 => ?_)
      · refine x_aload_n (pc := 72) dJ6_getChars_ba4f3_72 rfl rfl ?_
        refine x_iinc (pc := 73) dJ6_getChars_ba4f3_73 rfl (by decide) (L' := [(5, _), (0, _), (6, _), (1, _), (2, _)]) rfl ?_
        refine x_iload (pc := 76) dJ6_getChars_ba4f3_76 rfl ?_
        refine x_gst3 (pc := 78) flJ6_83 dJ6_getChars_ba4f3_78 ?_
        refine x_iload_n (pc := 81) dJ6_getChars_ba4f3_81 rfl rfl ?_
        refine x_ineg (pc := 82) dJ6_getChars_ba4f3_82 ?_
        refine x_bald9 (pc := 83) dJ6_getChars_ba4f3_83 j3.1 (by omega) (by omega) (fun r83a r83b => ?_)
        refine x_bast (pc := 84) dJ6_getChars_ba4f3_84 hv.1 wv (by omega) (by omega) ⟨by omega, by omega⟩ ?_
        refine x_iload_n (pc := 85) dJ6_getChars_ba4f3_85 rfl rfl ?_
        refine x_bipush (pc := 86) dJ6_getChars_ba4f3_86 (by decide) ?_
        refine x_icmp_ge (pc := 88) (t := 104) dJ6_getChars_ba4f3_88 (by decide) ⟨by omega, by omega⟩ ⟨by omega, by omega⟩ (fun c88 => ?_) (fun c88 => ?_)
        · refine x_iload (pc := 104) dJ6_getChars_ba4f3_104 rfl ?_
          refine x_if_eq (pc := 106) (t := 118) dJ6_getChars_ba4f3_106 (by decide) ⟨by omega, by omega⟩ (fun c106 => ?_) (fun c106 => ?_)
          · refine x_iload (pc := 118) dJ6_getChars_ba4f3_118 rfl ?_
            refine x_iret (pc := 120) dJ6_getChars_ba4f3_120 rfl (by decide) (by decide) ?_
            rw [d3 (- -x).toNat (by omega)]
            refine kI (k _ (fun y i hy => ?_) (fun i hi => ?_)) (by omega)
            · simp only [List.length_cons, List.length_nil] at hy
              rw [mset_ne (fun e => hy ⟨e.1, by have := e.2; omega, by have := e.2; omega⟩)]
            · simp only [List.length_cons, List.length_nil] at hi
              rcases (show i = 0 by omega) with rfl
              · skip
                rw [show d + 0 = (q + -1).toNat by omega, mset_same]
                simp only [List.getD_cons_zero, List.getD_cons_succ]
                omega
          · exfalso; omega
        · exfalso; omega
      · exfalso; omega
  · exfalso; omega
set_option maxRecDepth 100000 in
theorem sp_J6_getCharsB {g : GG} {lay : Lay} {M : Mem} {K : KK} {v cap d : Nat} {x q : Int} (hJ : JcP g lay M) (hx : 10 ≤ x ∧ x < 100) (hv : KN lay v (3, cap, fun _ => none)) (wv : g.2.1 ≤ v) (hcap : cap ≤ 1300) (hq : q = (d : Int) + 2) (hd : d + 2 ≤ cap) (k : ∀ M2, (∀ y i, ¬ (y = v ∧ d ≤ i ∧ i < d + (numF x).length) → M2 y i = M y i) → (∀ i, i < (numF x).length → M2 v (d + i) = (numF x).getD i 0) → K (.inl (some (vI d))) lay M2) : X g m_J6_getChars_ba4f3 0 0 lay M 0 [(0, vI x), (1, vI q), (2, vR v)] [] K := by
  obtain ⟨⟨j3, g3⟩, ⟨j4, g4⟩, -, d3, d4⟩ := hJ
  have n3 : g.2.2.1 3 ≠ v := by omega
  have n4 : g.2.2.1 4 ≠ v := by omega
  rw [numF_B (by omega)] at k
  refine x_iload_n (pc := 0) dJ6_getChars_ba4f3_0 rfl rfl ?_
  refine x_istore (pc := 1) dJ6_getChars_ba4f3_1 trivial (by decide) (L' := [(5, _), (0, _), (1, _), (2, _)]) rfl ?_
  refine x_iload_n (pc := 3) dJ6_getChars_ba4f3_3 rfl rfl ?_
  refine x_if_ge (pc := 4) (t := 11) dJ6_getChars_ba4f3_4 (by decide) ⟨by omega, by omega⟩ (fun c4 => ?_) (fun c4 => ?_)
  · refine x_iconst (pc := 11) dJ6_getChars_ba4f3_11 ?_
    refine x_istore (pc := 12) dJ6_getChars_ba4f3_12 trivial (by decide) (L' := [(6, _), (5, _), (0, _), (1, _), (2, _)]) rfl ?_
    refine x_iload (pc := 14) dJ6_getChars_ba4f3_14 rfl ?_
    refine x_if_ne (pc := 16) (t := 22) dJ6_getChars_ba4f3_16 (by decide) ⟨by omega, by omega⟩ (fun c16 => ?_) (fun c16 => ?_)
    · exfalso; omega
    · refine x_iload_n (pc := 19) dJ6_getChars_ba4f3_19 rfl rfl ?_
      refine x_ineg (pc := 20) dJ6_getChars_ba4f3_20 ?_
      refine x_istore_n (pc := 21) dJ6_getChars_ba4f3_21 rfl (by decide) (L' := [(0, _), (6, _), (5, _), (1, _), (2, _)]) rfl ?_
      refine x_iload_n (pc := 22) dJ6_getChars_ba4f3_22 rfl rfl ?_
      refine x_bipush (pc := 23) dJ6_getChars_ba4f3_23 (by decide) ?_
      refine x_icmp_gt (pc := 25) (t := 72) dJ6_getChars_ba4f3_25 (by decide) ⟨by omega, by omega⟩ ⟨by omega, by omega⟩ (fun c25 => ?_) (fun c25 => ?_)
      · refine x_aload_n (pc := 72) dJ6_getChars_ba4f3_72 rfl rfl ?_
        refine x_iinc (pc := 73) dJ6_getChars_ba4f3_73 rfl (by decide) (L' := [(5, _), (0, _), (6, _), (1, _), (2, _)]) rfl ?_
        refine x_iload (pc := 76) dJ6_getChars_ba4f3_76 rfl ?_
        refine x_gst3 (pc := 78) flJ6_83 dJ6_getChars_ba4f3_78 ?_
        refine x_iload_n (pc := 81) dJ6_getChars_ba4f3_81 rfl rfl ?_
        refine x_ineg (pc := 82) dJ6_getChars_ba4f3_82 ?_
        refine x_bald9 (pc := 83) dJ6_getChars_ba4f3_83 j3.1 (by omega) (by omega) (fun r83a r83b => ?_)
        refine x_bast (pc := 84) dJ6_getChars_ba4f3_84 hv.1 wv (by omega) (by omega) ⟨by omega, by omega⟩ ?_
        refine x_iload_n (pc := 85) dJ6_getChars_ba4f3_85 rfl rfl ?_
        refine x_bipush (pc := 86) dJ6_getChars_ba4f3_86 (by decide) ?_
        refine x_icmp_ge (pc := 88) (t := 104) dJ6_getChars_ba4f3_88 (by decide) ⟨by omega, by omega⟩ ⟨by omega, by omega⟩ (fun c88 => ?_) (fun c88 => ?_)
        · exfalso; omega
        · refine x_aload_n (pc := 91) dJ6_getChars_ba4f3_91 rfl rfl ?_
          refine x_iinc (pc := 92) dJ6_getChars_ba4f3_92 rfl (by decide) (L' := [(5, _), (0, _), (6, _), (1, _), (2, _)]) rfl ?_
          refine x_iload (pc := 95) dJ6_getChars_ba4f3_95 rfl ?_
          refine x_gst4 (pc := 97) flJ6_87 dJ6_getChars_ba4f3_97 ?_
          refine x_iload_n (pc := 100) dJ6_getChars_ba4f3_100 rfl rfl ?_
          refine x_ineg (pc := 101) dJ6_getChars_ba4f3_101 ?_
          refine x_bald9 (pc := 102) dJ6_getChars_ba4f3_102 j4.1 (by omega) (by omega) (fun r102a r102b => ?_)
          try simp (disch := omega) only [mset_same, mset_nea, mset_nei, mcopy_nea, mcopy_in, mcopy_out, Int.reduceToNat, Int.toNat_natCast, Nat.zero_add, Nat.sub_zero] at r102a r102b ⊢
          refine x_bast (pc := 103) dJ6_getChars_ba4f3_103 hv.1 wv (by omega) (by omega) ⟨by omega, by omega⟩ ?_
          refine x_iload (pc := 104) dJ6_getChars_ba4f3_104 rfl ?_
          refine x_if_eq (pc := 106) (t := 118) dJ6_getChars_ba4f3_106 (by decide) ⟨by omega, by omega⟩ (fun c106 => ?_) (fun c106 => ?_)
          · refine x_iload (pc := 118) dJ6_getChars_ba4f3_118 rfl ?_
            refine x_iret (pc := 120) dJ6_getChars_ba4f3_120 rfl (by decide) (by decide) ?_
            rw [d3 (- -x).toNat (by omega), d4 (- -x).toNat (by omega)]
            refine kI (k _ (fun y i hy => ?_) (fun i hi => ?_)) (by omega)
            · simp only [List.length_cons, List.length_nil] at hy
              rw [mset_ne (fun e => hy ⟨e.1, by have := e.2; omega, by have := e.2; omega⟩), mset_ne (fun e => hy ⟨e.1, by have := e.2; omega, by have := e.2; omega⟩)]
            · simp only [List.length_cons, List.length_nil] at hi
              rcases (show i = 0 ∨ i = 1 by omega) with rfl | rfl
              · skip
                rw [show d + 0 = (q + -1 + -1).toNat by omega, mset_same]
                simp only [List.getD_cons_zero, List.getD_cons_succ]
                omega
              · rw [mset_nei (by omega)]
                rw [show d + 1 = (q + -1).toNat by omega, mset_same]
                simp only [List.getD_cons_zero, List.getD_cons_succ]
                omega
          · exfalso; omega
      · exfalso; omega
  · exfalso; omega
set_option maxRecDepth 100000 in
theorem sp_J6_getCharsC {g : GG} {lay : Lay} {M : Mem} {K : KK} {v cap d : Nat} {x q : Int} (hJ : JcP g lay M) (hx : -10 < x ∧ x < 0) (hv : KN lay v (3, cap, fun _ => none)) (wv : g.2.1 ≤ v) (hcap : cap ≤ 1300) (hq : q = (d : Int) + 2) (hd : d + 2 ≤ cap) (k : ∀ M2, (∀ y i, ¬ (y = v ∧ d ≤ i ∧ i < d + (numF x).length) → M2 y i = M y i) → (∀ i, i < (numF x).length → M2 v (d + i) = (numF x).getD i 0) → K (.inl (some (vI d))) lay M2) : X g m_J6_getChars_ba4f3 0 0 lay M 0 [(0, vI x), (1, vI q), (2, vR v)] [] K := by
  obtain ⟨⟨j3, g3⟩, ⟨j4, g4⟩, -, d3, d4⟩ := hJ
  have n3 : g.2.2.1 3 ≠ v := by omega
  have n4 : g.2.2.1 4 ≠ v := by omega
  rw [numF_C (by omega)] at k
  refine x_iload_n (pc := 0) dJ6_getChars_ba4f3_0 rfl rfl ?_
  refine x_istore (pc := 1) dJ6_getChars_ba4f3_1 trivial (by decide) (L' := [(5, _), (0, _), (1, _), (2, _)]) rfl ?_
  refine x_iload_n (pc := 3) dJ6_getChars_ba4f3_3 rfl rfl ?_
  refine x_if_ge (pc := 4) (t := 11) dJ6_getChars_ba4f3_4 (by decide) ⟨by omega, by omega⟩ (fun c4 => ?_) (fun c4 => ?_)
  · exfalso; omega
  · refine x_iconst (pc := 7) dJ6_getChars_ba4f3_7 ?_
    refine x_goto (pc := 8) (t := 12) dJ6_getChars_ba4f3_8 (by decide) ?_
    refine x_istore (pc := 12) dJ6_getChars_ba4f3_12 trivial (by decide) (L' := [(6, _), (5, _), (0, _), (1, _), (2, _)]) rfl ?_
    refine x_iload (pc := 14) dJ6_getChars_ba4f3_14 rfl ?_
    refine x_if_ne (pc := 16) (t := 22) dJ6_getChars_ba4f3_16 (by decide) ⟨by omega, by omega⟩ (fun c16 => ?_) (fun c16 => ?_)
    · refine x_iload_n (pc := 22) dJ6_getChars_ba4f3_22 rfl rfl ?_
      refine x_bipush (pc := 23) dJ6_getChars_ba4f3_23 (by decide) ?_
      refine x_icmp_gt (pc := 25) (t := 72) dJ6_getChars_ba4f3_25 (by decide) ⟨by omega, by omega⟩ ⟨by omega, by omega⟩ (fun c25 => ?_) (fun c25 => ?_)
      · refine x_aload_n (pc := 72) dJ6_getChars_ba4f3_72 rfl rfl ?_
        refine x_iinc (pc := 73) dJ6_getChars_ba4f3_73 rfl (by decide) (L' := [(5, _), (6, _), (0, _), (1, _), (2, _)]) rfl ?_
        refine x_iload (pc := 76) dJ6_getChars_ba4f3_76 rfl ?_
        refine x_gst3 (pc := 78) flJ6_83 dJ6_getChars_ba4f3_78 ?_
        refine x_iload_n (pc := 81) dJ6_getChars_ba4f3_81 rfl rfl ?_
        refine x_ineg (pc := 82) dJ6_getChars_ba4f3_82 ?_
        refine x_bald9 (pc := 83) dJ6_getChars_ba4f3_83 j3.1 (by omega) (by omega) (fun r83a r83b => ?_)
        refine x_bast (pc := 84) dJ6_getChars_ba4f3_84 hv.1 wv (by omega) (by omega) ⟨by omega, by omega⟩ ?_
        refine x_iload_n (pc := 85) dJ6_getChars_ba4f3_85 rfl rfl ?_
        refine x_bipush (pc := 86) dJ6_getChars_ba4f3_86 (by decide) ?_
        refine x_icmp_ge (pc := 88) (t := 104) dJ6_getChars_ba4f3_88 (by decide) ⟨by omega, by omega⟩ ⟨by omega, by omega⟩ (fun c88 => ?_) (fun c88 => ?_)
        · refine x_iload (pc := 104) dJ6_getChars_ba4f3_104 rfl ?_
          refine x_if_eq (pc := 106) (t := 118) dJ6_getChars_ba4f3_106 (by decide) ⟨by omega, by omega⟩ (fun c106 => ?_) (fun c106 => ?_)
          · exfalso; omega
          · refine x_aload_n (pc := 109) dJ6_getChars_ba4f3_109 rfl rfl ?_
            refine x_iinc (pc := 110) dJ6_getChars_ba4f3_110 rfl (by decide) (L' := [(5, _), (6, _), (0, _), (1, _), (2, _)]) rfl ?_
            refine x_iload (pc := 113) dJ6_getChars_ba4f3_113 rfl ?_
            refine x_bipush (pc := 115) dJ6_getChars_ba4f3_115 (by decide) ?_
            refine x_bast (pc := 117) dJ6_getChars_ba4f3_117 hv.1 wv (by omega) (by omega) ⟨by omega, by omega⟩ ?_
            refine x_iload (pc := 118) dJ6_getChars_ba4f3_118 rfl ?_
            refine x_iret (pc := 120) dJ6_getChars_ba4f3_120 rfl (by decide) (by decide) ?_
            rw [d3 (-x).toNat (by omega)]
            refine kI (k _ (fun y i hy => ?_) (fun i hi => ?_)) (by omega)
            · simp only [List.length_cons, List.length_nil] at hy
              rw [mset_ne (fun e => hy ⟨e.1, by have := e.2; omega, by have := e.2; omega⟩), mset_ne (fun e => hy ⟨e.1, by have := e.2; omega, by have := e.2; omega⟩)]
            · simp only [List.length_cons, List.length_nil] at hi
              rcases (show i = 0 ∨ i = 1 by omega) with rfl | rfl
              · skip
                rw [show d + 0 = (q + -1 + -1).toNat by omega, mset_same]
                simp only [List.getD_cons_zero, List.getD_cons_succ]
              · rw [mset_nei (by omega)]
                rw [show d + 1 = (q + -1).toNat by omega, mset_same]
                simp only [List.getD_cons_zero, List.getD_cons_succ]
                omega
        · exfalso; omega
      · exfalso; omega
    · exfalso; omega
set_option maxRecDepth 100000 in
theorem sp_J6_getCharsD {g : GG} {lay : Lay} {M : Mem} {K : KK} {v cap d : Nat} {x q : Int} (hJ : JcP g lay M) (hx : -100 < x ∧ x ≤ -10) (hv : KN lay v (3, cap, fun _ => none)) (wv : g.2.1 ≤ v) (hcap : cap ≤ 1300) (hq : q = (d : Int) + 3) (hd : d + 3 ≤ cap) (k : ∀ M2, (∀ y i, ¬ (y = v ∧ d ≤ i ∧ i < d + (numF x).length) → M2 y i = M y i) → (∀ i, i < (numF x).length → M2 v (d + i) = (numF x).getD i 0) → K (.inl (some (vI d))) lay M2) : X g m_J6_getChars_ba4f3 0 0 lay M 0 [(0, vI x), (1, vI q), (2, vR v)] [] K := by
  obtain ⟨⟨j3, g3⟩, ⟨j4, g4⟩, -, d3, d4⟩ := hJ
  have n3 : g.2.2.1 3 ≠ v := by omega
  have n4 : g.2.2.1 4 ≠ v := by omega
  rw [numF_D (by omega)] at k
  refine x_iload_n (pc := 0) dJ6_getChars_ba4f3_0 rfl rfl ?_
  refine x_istore (pc := 1) dJ6_getChars_ba4f3_1 trivial (by decide) (L' := [(5, _), (0, _), (1, _), (2, _)]) rfl ?_
  refine x_iload_n (pc := 3) dJ6_getChars_ba4f3_3 rfl rfl ?_
  refine x_if_ge (pc := 4) (t := 11) dJ6_getChars_ba4f3_4 (by decide) ⟨by omega, by omega⟩ (fun c4 => ?_) (fun c4 => ?_)
  · exfalso; omega
  · refine x_iconst (pc := 7) dJ6_getChars_ba4f3_7 ?_
    refine x_goto (pc := 8) (t := 12) dJ6_getChars_ba4f3_8 (by decide) ?_
    refine x_istore (pc := 12) dJ6_getChars_ba4f3_12 trivial (by decide) (L' := [(6, _), (5, _), (0, _), (1, _), (2, _)]) rfl ?_
    refine x_iload (pc := 14) dJ6_getChars_ba4f3_14 rfl ?_
    refine x_if_ne (pc := 16) (t := 22) dJ6_getChars_ba4f3_16 (by decide) ⟨by omega, by omega⟩ (fun c16 => ?_) (fun c16 => ?_)
    · refine x_iload_n (pc := 22) dJ6_getChars_ba4f3_22 rfl rfl ?_
      refine x_bipush (pc := 23) dJ6_getChars_ba4f3_23 (by decide) ?_
      refine x_icmp_gt (pc := 25) (t := 72) dJ6_getChars_ba4f3_25 (by decide) ⟨by omega, by omega⟩ ⟨by omega, by omega⟩ (fun c25 => ?_) (fun c25 => ?_)
      · refine x_aload_n (pc := 72) dJ6_getChars_ba4f3_72 rfl rfl ?_
        refine x_iinc (pc := 73) dJ6_getChars_ba4f3_73 rfl (by decide) (L' := [(5, _), (6, _), (0, _), (1, _), (2, _)]) rfl ?_
        refine x_iload (pc := 76) dJ6_getChars_ba4f3_76 rfl ?_
        refine x_gst3 (pc := 78) flJ6_83 dJ6_getChars_ba4f3_78 ?_
        refine x_iload_n (pc := 81) dJ6_getChars_ba4f3_81 rfl rfl ?_
        refine x_ineg (pc := 82) dJ6_getChars_ba4f3_82 ?_
        refine x_bald9 (pc := 83) dJ6_getChars_ba4f3_83 j3.1 (by omega) (by omega) (fun r83a r83b => ?_)
        refine x_bast (pc := 84) dJ6_getChars_ba4f3_84 hv.1 wv (by omega) (by omega) ⟨by omega, by omega⟩ ?_
        refine x_iload_n (pc := 85) dJ6_getChars_ba4f3_85 rfl rfl ?_
        refine x_bipush (pc := 86) dJ6_getChars_ba4f3_86 (by decide) ?_
        refine x_icmp_ge (pc := 88) (t := 104) dJ6_getChars_ba4f3_88 (by decide) ⟨by omega, by omega⟩ ⟨by omega, by omega⟩ (fun c88 => ?_) (fun c88 => ?_)
        · exfalso; omega
        · refine x_aload_n (pc := 91) dJ6_getChars_ba4f3_91 rfl rfl ?_
          refine x_iinc (pc := 92) dJ6_getChars_ba4f3_92 rfl (by decide) (L' := [(5, _), (6, _), (0, _), (1, _), (2, _)]) rfl ?_
          refine x_iload (pc := 95) dJ6_getChars_ba4f3_95 rfl ?_
          refine x_gst4 (pc := 97) flJ6_87 dJ6_getChars_ba4f3_97 ?_
          refine x_iload_n (pc := 100) dJ6_getChars_ba4f3_100 rfl rfl ?_
          refine x_ineg (pc := 101) dJ6_getChars_ba4f3_101 ?_
          refine x_bald9 (pc := 102) dJ6_getChars_ba4f3_102 j4.1 (by omega) (by omega) (fun r102a r102b => ?_)
          try simp (disch := omega) only [mset_same, mset_nea, mset_nei, mcopy_nea, mcopy_in, mcopy_out, Int.reduceToNat, Int.toNat_natCast, Nat.zero_add, Nat.sub_zero] at r102a r102b ⊢
          refine x_bast (pc := 103) dJ6_getChars_ba4f3_103 hv.1 wv (by omega) (by omega) ⟨by omega, by omega⟩ ?_
          refine x_iload (pc := 104) dJ6_getChars_ba4f3_104 rfl ?_
          refine x_if_eq (pc := 106) (t := 118) dJ6_getChars_ba4f3_106 (by decide) ⟨by omega, by omega⟩ (fun c106 => ?_) (fun c106 => ?_)
          · exfalso; omega
          · refine x_aload_n (pc := 109) dJ6_getChars_ba4f3_109 rfl rfl ?_
            refine x_iinc (pc := 110) dJ6_getChars_ba4f3_110 rfl (by decide) (L' := [(5, _), (6, _), (0, _), (1, _), (2, _)]) rfl ?_
            refine x_iload (pc := 113) dJ6_getChars_ba4f3_113 rfl ?_
            refine x_bipush (pc := 115) dJ6_getChars_ba4f3_115 (by decide) ?_
            refine x_bast (pc := 117) dJ6_getChars_ba4f3_117 hv.1 wv (by omega) (by omega) ⟨by omega, by omega⟩ ?_
            refine x_iload (pc := 118) dJ6_getChars_ba4f3_118 rfl ?_
            refine x_iret (pc := 120) dJ6_getChars_ba4f3_120 rfl (by decide) (by decide) ?_
            rw [d3 (-x).toNat (by omega), d4 (-x).toNat (by omega)]
            refine kI (k _ (fun y i hy => ?_) (fun i hi => ?_)) (by omega)
            · simp only [List.length_cons, List.length_nil] at hy
              rw [mset_ne (fun e => hy ⟨e.1, by have := e.2; omega, by have := e.2; omega⟩), mset_ne (fun e => hy ⟨e.1, by have := e.2; omega, by have := e.2; omega⟩), mset_ne (fun e => hy ⟨e.1, by have := e.2; omega, by have := e.2; omega⟩)]
            · simp only [List.length_cons, List.length_nil] at hi
              rcases (show i = 0 ∨ i = 1 ∨ i = 2 by omega) with rfl | rfl | rfl
              · skip
                rw [show d + 0 = (q + -1 + -1 + -1).toNat by omega, mset_same]
                simp only [List.getD_cons_zero, List.getD_cons_succ]
              · rw [mset_nei (by omega)]
                rw [show d + 1 = (q + -1 + -1).toNat by omega, mset_same]
                simp only [List.getD_cons_zero, List.getD_cons_succ]
                omega
              · rw [mset_nei (by omega), mset_nei (by omega)]
                rw [show d + 2 = (q + -1).toNat by omega, mset_same]
                simp only [List.getD_cons_zero, List.getD_cons_succ]
                omega
      · exfalso; omega
    · exfalso; omega
set_option maxRecDepth 100000 in
theorem sp_J6_getChars {g : GG} {lay : Lay} {M : Mem} {K : KK} {v cap d : Nat} {x q : Int} (hJ : JcP g lay M) (hx : -99 ≤ x ∧ x ≤ 99) (hv : KN lay v (3, cap, fun _ => none)) (wv : g.2.1 ≤ v) (hcap : cap ≤ 1300) (hq : q = (d : Int) + ((numF x).length : Nat)) (hd : d + (numF x).length ≤ cap) (k : ∀ M2, (∀ y i, ¬ (y = v ∧ d ≤ i ∧ i < d + (numF x).length) → M2 y i = M y i) → (∀ i, i < (numF x).length → M2 v (d + i) = (numF x).getD i 0) → K (.inl (some (vI d))) lay M2) : X g m_J6_getChars_ba4f3 0 0 lay M 0 [(0, vI x), (1, vI q), (2, vR v)] [] K := by
  by_cases c : x < 0
  · by_cases e : -10 < x
    · rw [numF_C ⟨e, c⟩] at hq hd
      exact sp_J6_getCharsC hJ ⟨e, c⟩ hv wv hcap hq hd k
    · rw [numF_D ⟨by omega, by omega⟩] at hq hd
      exact sp_J6_getCharsD hJ ⟨by omega, by omega⟩ hv wv hcap hq hd k
  · by_cases e : x < 10
    · rw [numF_A ⟨by omega, e⟩] at hq hd
      exact sp_J6_getCharsA hJ ⟨by omega, e⟩ hv wv hcap hq hd k
    · rw [numF_B ⟨by omega, by omega⟩] at hq hd
      exact sp_J6_getCharsB hJ ⟨by omega, by omega⟩ hv wv hcap hq hd k
set_option maxRecDepth 100000 in
theorem sp_J5_appendI {g : GG} {lay : Lay} {M : Mem} {K : KK} {b : Nat} {t : List Int} {x : Int} (hJ : JcP g lay M) (hS : SbP g lay M b t) (hx : -99 ≤ x ∧ x ≤ 99) (hl9 : t.length + 3 ≤ 600) (k : ∀ lay2 M2, Ext lay lay2 → Kp b M M2 → SbP g lay2 M2 b (t ++ numF x) → K (.inl (some (vR b))) lay2 M2) : X g m_J5_append_c97b9 0 0 lay M 0 [(0, vR b), (1, vI x)] [] K := by
  obtain ⟨v, cap, hQ⟩ := hS
  obtain ⟨hb, wb, bv, hv, m0, m1, m3, lc, lc2, mt⟩ := id hQ
  have lb0 := hb.2
  have hn := numF_le x hx
  refine x_aload_n (pc := 0) dJ5_append_c97b9_0 rfl rfl ?_
  refine x_geti (pc := 1) fJ5_79 dJ5_append_c97b9_1 hb.1 rfl (fun r1a r1b => ?_)
  refine x_istore_n (pc := 4) dJ5_append_c97b9_4 rfl (by decide) (L' := [(2, _), (0, _), (1, _)]) rfl ?_
  rw [m3]
  refine x_iload_n (pc := 5) dJ5_append_c97b9_5 rfl rfl ?_
  refine x_iload_n (pc := 6) dJ5_append_c97b9_6 rfl rfl ?_
  refine x_callS (pc := 7) [_] rfl kJ5_245 dJ5_append_c97b9_7 rfl (by decide) (Nat.le_of_ble_eq_true rfl) (Nat.le_of_ble_eq_true rfl) (by decide) ?_
  refine sp_J6_stringSize_0f7a4 hx ?_
  refine ⟨_, rfl, ?_⟩
  refine x_iadd (pc := 10) dJ5_append_c97b9_10 ?_
  refine x_istore_n (pc := 11) dJ5_append_c97b9_11 rfl (by decide) (L' := [(3, _), (2, _), (0, _), (1, _)]) rfl ?_
  refine x_aload_n (pc := 12) dJ5_append_c97b9_12 rfl rfl ?_
  refine x_iload_n (pc := 13) dJ5_append_c97b9_13 rfl rfl ?_
  refine x_callU (pc := 14) [_] rfl kuJ5_100 dJ5_append_c97b9_14 hb.1 rfl (by decide) (Nat.le_of_ble_eq_true rfl) (Nat.le_of_ble_eq_true rfl) (by decide) ?_
  refine sp_J5_ensureCapacityInternal_d00df hQ ⟨by omega, by omega⟩ (fun v cap lay2 M2 E hp hQ hc1 hc2 => ?_)
  have hJ : JcP g lay2 M2 := hJ.ext E (n := b) (fun y i hy => hp y i (by omega) (by omega)) wb
  obtain ⟨hb, wb, bv, hv, m0, m1, m3, lc, lc2, mt⟩ := id hQ
  refine ⟨_, rfl, ?_⟩
  refine x_aload_n (pc := 17) dJ5_append_c97b9_17 rfl rfl ?_
  refine x_callU (pc := 18) [] rfl kuJ5_83 dJ5_append_c97b9_18 hb.1 rfl (by decide) (Nat.le_of_ble_eq_true rfl) (Nat.le_of_ble_eq_true rfl) (by decide) ?_
  refine sp_J5_isLatin1_aae02 hQ ?_
  refine ⟨_, rfl, ?_⟩
  refine x_if_eq (pc := 21) (t := 37) dJ5_append_c97b9_21 (by decide) ⟨by omega, by omega⟩ (fun c21 => ?_) (fun c21 => ?_)
  · exfalso; omega
  · refine x_iload_n (pc := 24) dJ5_append_c97b9_24 rfl rfl ?_
    refine x_iload_n (pc := 25) dJ5_append_c97b9_25 rfl rfl ?_
    refine x_aload_n (pc := 26) dJ5_append_c97b9_26 rfl rfl ?_
    refine x_getrM (pc := 27) (b := v) fJ5_15 dJ5_append_c97b9_27 hb.1 rfl m0 rfl ?_
    refine x_callS (pc := 30) [_, _, _] rfl kJ5_248 dJ5_append_c97b9_30 rfl (by decide) (Nat.le_of_ble_eq_true rfl) (Nat.le_of_ble_eq_true rfl) (by decide) ?_
    refine sp_J6_getChars hJ hx hv (by omega) lc2 (d := t.length) rfl (by omega) (fun M3 p1 p2 => ?_)
    refine ⟨_, rfl, ?_⟩
    refine x_pop (pc := 33) dJ5_append_c97b9_33 rfl ?_
    refine x_goto (pc := 34) (t := 48) dJ5_append_c97b9_34 (by decide) ?_
    refine x_aload_n (pc := 48) dJ5_append_c97b9_48 rfl rfl ?_
    refine x_iload_n (pc := 49) dJ5_append_c97b9_49 rfl rfl ?_
    refine x_puti (pc := 50) fnJ5_79 dJ5_append_c97b9_50 hb.1 wb rfl ⟨by omega, by omega⟩ ?_
    refine x_aload_n (pc := 53) dJ5_append_c97b9_53 rfl rfl ?_
    refine x_aret (pc := 54) dJ5_append_c97b9_54 rfl rfl (by decide) (by decide) ?_
    refine k lay2 _ E (fun y i hy => ?_) ⟨v, cap, hb, wb, bv, hv, ?_, ?_, ?_, ?_, lc2, fun i hi => ?_⟩
    · rw [mset_nea (by omega), p1 _ _ (by omega)]
      exact hp y i (by omega) (by omega)
    · rw [mset_nei (by decide), p1 _ _ (by omega)]
      exact m0
    · rw [mset_nei (by decide), p1 _ _ (by omega)]
      exact m1
    · rw [mset_same, List.length_append]
      omega
    · rw [List.length_append]
      omega
    · rw [List.length_append] at hi
      rw [mset_nea (by omega)]
      by_cases c : i < t.length
      · rw [p1 _ _ (by omega), mt i c, gd_l c]
      · have := p2 (i - t.length) (by omega)
        rw [show t.length + (i - t.length) = i by omega] at this
        rw [this, gd_r (by omega)]
set_option maxRecDepth 100000 in
theorem sp_J4_appendI {g : GG} {lay : Lay} {M : Mem} {K : KK} {b : Nat} {t : List Int} {x : Int} (hJ : JcP g lay M) (hS : SbP g lay M b t) (hx : -99 ≤ x ∧ x ≤ 99) (hl9 : t.length + 3 ≤ 600) (k : ∀ lay2 M2, Ext lay lay2 → Kp b M M2 → SbP g lay2 M2 b (t ++ numF x) → K (.inl (some (vR b))) lay2 M2) : X g m_J4_append_bf812 0 0 lay M 0 [(0, vR b), (1, vI x)] [] K := by
  have hb : KN lay b (0, 8, fun _ => none) := by
    obtain ⟨v, cap, hQ⟩ := hS
    exact hQ.1
  refine x_aload_n (pc := 0) dJ4_append_bf812_0 rfl rfl ?_
  refine x_iload_n (pc := 1) dJ4_append_bf812_1 rfl rfl ?_
  refine x_callSP (pc := 2) [_] rfl ksJ4_53 dJ4_append_bf812_2 hb.1 rfl (by decide) (Nat.le_of_ble_eq_true rfl) (Nat.le_of_ble_eq_true rfl) (by decide) ?_
  refine sp_J5_appendI hJ hS hx hl9 (fun lay2 M2 E hp hS2 => ?_)
  refine ⟨_, rfl, ?_⟩
  refine x_pop (pc := 5) dJ4_append_bf812_5 rfl ?_
  refine x_aload_n (pc := 6) dJ4_append_bf812_6 rfl rfl ?_
  refine x_aret (pc := 7) dJ4_append_bf812_7 rfl rfl (by decide) (by decide) ?_
  exact k lay2 M2 E hp hS2
set_option maxRecDepth 100000 in
theorem sp_J4_length_8abf5 {g : GG} {lay : Lay} {M : Mem} {K : KK} {b : Nat} {t : List Int} (hS : SbP g lay M b t) (k : K (.inl (some (vI ((t.length : Nat))))) lay M) : X g m_J4_length_8abf5 0 0 lay M 0 [(0, vR b)] [] K := by
  obtain ⟨v, cap, hQ⟩ := hS
  have hb := hQ.1
  refine x_aload_n (pc := 0) dJ4_length_8abf5_0 rfl rfl ?_
  refine x_callSP (pc := 1) [] rfl ksJ4_343 dJ4_length_8abf5_1 hb.1 rfl (by decide) (Nat.le_of_ble_eq_true rfl) (Nat.le_of_ble_eq_true rfl) (by decide) ?_
  refine sp_J5_length_8abf5 hQ ?_
  refine ⟨_, rfl, ?_⟩
  refine x_iret (pc := 4) dJ4_length_8abf5_4 rfl (by decide) (by decide) ?_
  exact k
set_option maxRecDepth 100000 in
theorem sp_J7_checkLength_df160 {g : GG} {lay : Lay} {M : Mem} {K : KK} {p q : Int} (h : p ≤ q) (hp : 0 ≤ p) (hq : q ≤ 1000) (k : K (.inl none) lay M) : X g m_J7_checkLength_df160 0 0 lay M 0 [(0, vI p), (1, vI q)] [] K := by
  refine x_iload_n (pc := 0) dJ7_checkLength_df160_0 rfl rfl ?_
  refine x_iload_n (pc := 1) dJ7_checkLength_df160_1 rfl rfl ?_
  refine x_icmp_ge (pc := 2) (t := 37) dJ7_checkLength_df160_2 (by decide) ⟨by omega, by omega⟩ ⟨by omega, by omega⟩ (fun c2 => ?_) (fun c2 => ?_)
  · refine x_vret (pc := 37) dJ7_checkLength_df160_37 rfl (by decide) (by decide) ?_
    exact k
  · exfalso; omega
set_option maxRecDepth 100000 in
theorem sp_J7_copyOfRangeByte_39247 {g : GG} {lay : Lay} {M : Mem} {K : KK} {v cap n : Nat} (hv : KN lay v (3, cap, fun _ => none)) (wv : g.2.1 ≤ v) (hcap : cap ≤ 1300) (hn : n ≤ 600) (hc : n ≤ cap) (k : ∀ w lay2 M2, lay.2 = w → lay2.2 = w + 1 → Ext lay lay2 → Kp w M M2 → KN lay2 w (3, n, fun _ => none) → (∀ i, i < n → M2 w i = M v i) → K (.inl (some (vR w))) lay2 M2) : X g m_J7_copyOfRangeByte_39247 0 0 lay M 0 [(0, vR v), (1, vI 0), (2, vI (n : Nat))] [] K := by
  refine x_iload_n (pc := 0) dJ7_copyOfRangeByte_39247_0 rfl rfl ?_
  refine x_iload_n (pc := 1) dJ7_copyOfRangeByte_39247_1 rfl rfl ?_
  refine x_callS (pc := 2) [_, _] rfl kJ7_343 dJ7_copyOfRangeByte_39247_2 rfl (by decide) (Nat.le_of_ble_eq_true rfl) (Nat.le_of_ble_eq_true rfl) (by decide) ?_
  refine sp_J7_checkLength_df160 (by omega) (by omega) (by omega) ?_
  refine ⟨_, rfl, ?_⟩
  refine x_iload_n (pc := 5) dJ7_copyOfRangeByte_39247_5 rfl rfl ?_
  refine x_iload_n (pc := 6) dJ7_copyOfRangeByte_39247_6 rfl rfl ?_
  refine x_isub (pc := 7) dJ7_copyOfRangeByte_39247_7 ?_
  refine x_istore_n (pc := 8) dJ7_copyOfRangeByte_39247_8 rfl (by decide) (L' := [(3, _), (0, _), (1, _), (2, _)]) rfl ?_
  refine x_iload_n (pc := 9) dJ7_copyOfRangeByte_39247_9 rfl rfl ?_
  refine x_newaH (pc := 10) (t := 2) (n := n) rfl (by decide) na2 dJ7_copyOfRangeByte_39247_10 (by omega) ⟨by decide, by show 0 + 0 + n ≤ 700; omega⟩ (by omega) (fun w lay2 M2 e0 e1 E hp hw z0 => ?_)
  refine X.cs (cn' := 1) (ck' := 700) ?_ (by decide) (by show 0 + 0 + n ≤ 700; omega)
  have lv : v < w := by have := hv.2; omega
  have hv := hv.ext E
  refine x_astore (pc := 12) dJ7_copyOfRangeByte_39247_12 trivial (by decide) (L' := [(4, _), (3, _), (0, _), (1, _), (2, _)]) rfl ?_
  refine x_aload_n (pc := 14) dJ7_copyOfRangeByte_39247_14 rfl rfl ?_
  refine x_iload_n (pc := 15) dJ7_copyOfRangeByte_39247_15 rfl rfl ?_
  refine x_aload (pc := 16) dJ7_copyOfRangeByte_39247_16 rfl ?_
  refine x_iconst (pc := 18) dJ7_copyOfRangeByte_39247_18 ?_
  refine x_aload_n (pc := 19) dJ7_copyOfRangeByte_39247_19 rfl rfl ?_
  refine x_alen (pc := 20) dJ7_copyOfRangeByte_39247_20 hv.1 (fun r20a => ?_)
  refine x_iload_n (pc := 21) dJ7_copyOfRangeByte_39247_21 rfl rfl ?_
  refine x_isub (pc := 22) dJ7_copyOfRangeByte_39247_22 ?_
  refine x_iload_n (pc := 23) dJ7_copyOfRangeByte_39247_23 rfl rfl ?_
  refine x_mmin (pc := 24) kmJ7_304 dJ7_copyOfRangeByte_39247_24 ⟨by omega, by omega⟩ ⟨by omega, by omega⟩ (Nat.le_of_ble_eq_true rfl) (by decide) (by decide) (by decide) ?_
  rw [show (if (n : Int) - 0 < (cap : Int) - 0 then (n : Int) - 0 else (cap : Int) - 0) = (n : Int) by split <;> omega]
  refine x_copyB (pc := 27) kcJ7_150 dJ7_copyOfRangeByte_39247_27 hv.1 hw.1 (show g.2.1 ≤ w by omega) (by omega) (by omega) (by omega) (by omega) (by omega) (by omega) (Nat.le_of_ble_eq_true rfl) ⟨by decide, by decide⟩ ?_
  refine x_aload (pc := 30) dJ7_copyOfRangeByte_39247_30 rfl ?_
  refine x_aret (pc := 32) dJ7_copyOfRangeByte_39247_32 rfl rfl (by decide) (by decide) ?_
  refine k w lay2 _ e0 e1 E (fun x i hx => ?_) hw (fun i hi => ?_)
  · rw [mcopy_nea (by omega)]
    exact hp x i hx
  · rw [mcopy_in (by simp) (by simp; omega)]
    simpa using hp v i lv
set_option maxRecDepth 100000 in
theorem sp_J7_copyOfRange_39247 {g : GG} {lay : Lay} {M : Mem} {K : KK} {v cap n : Nat} (hv : KN lay v (3, cap, fun _ => none)) (wv : g.2.1 ≤ v) (hcap : cap ≤ 1300) (hn : n ≤ 600) (hc : n ≤ cap) (k : ∀ w lay2 M2, lay.2 = w → lay2.2 = w + 1 → Ext lay lay2 → Kp w M M2 → KN lay2 w (3, n, fun _ => none) → (∀ i, i < n → M2 w i = M v i) → K (.inl (some (vR w))) lay2 M2) : X g m_J7_copyOfRange_39247 0 0 lay M 0 [(0, vR v), (1, vI 0), (2, vI (n : Nat))] [] K := by
  refine x_iload_n (pc := 0) dJ7_copyOfRange_39247_0 rfl rfl ?_
  refine x_if_ne (pc := 1) (t := 10) dJ7_copyOfRange_39247_1 (by decide) ⟨by omega, by omega⟩ (fun c1 => ?_) (fun c1 => ?_)
  · exfalso; omega
  · refine x_iload_n (pc := 4) dJ7_copyOfRange_39247_4 rfl rfl ?_
    refine x_aload_n (pc := 5) dJ7_copyOfRange_39247_5 rfl rfl ?_
    refine x_alen (pc := 6) dJ7_copyOfRange_39247_6 hv.1 (fun r6a => ?_)
    refine x_icmp_eq (pc := 7) (t := 17) dJ7_copyOfRange_39247_7 (by decide) ⟨by omega, by omega⟩ ⟨by omega, by omega⟩ (fun c7 => ?_) (fun c7 => ?_)
    · refine x_aload_n (pc := 17) dJ7_copyOfRange_39247_17 rfl rfl ?_
      have e9 : cap = n := by omega
      subst e9
      refine x_cloneH (pc := 18) klJ7_310 dJ7_copyOfRange_39247_18 hv.1 (by decide) ⟨by decide, by decide⟩ ⟨by decide, by show 0 + cap ≤ 700; omega⟩ (fun w lay2 M2 e0 e1 E hp hw z0 => ?_)
      refine X.cs (cn' := 1) (ck' := 700) ?_ (by decide) (by omega)
      refine x_castB (pc := 21) clJ7_311 dJ7_copyOfRange_39247_21 hw.1 ?_
      refine x_aret (pc := 24) dJ7_copyOfRange_39247_24 rfl rfl (by decide) (by decide) ?_
      first
      | exact k w lay2 M2 e0 e1 E hp hw z0
      | exact k w lay2 M2 e0 e1 E hp hw (fun i _ => z0 i)
    · refine x_aload_n (pc := 10) dJ7_copyOfRange_39247_10 rfl rfl ?_
      refine x_iload_n (pc := 11) dJ7_copyOfRange_39247_11 rfl rfl ?_
      refine x_iload_n (pc := 12) dJ7_copyOfRange_39247_12 rfl rfl ?_
      refine x_callS (pc := 13) [_, _, _] rfl kJ7_339 dJ7_copyOfRange_39247_13 rfl (by decide) (Nat.le_of_ble_eq_true rfl) (Nat.le_of_ble_eq_true rfl) (by decide) ?_
      refine sp_J7_copyOfRangeByte_39247 hv wv hcap hn hc (fun w lay2 M2 e0 e1 E hp hw z0 => ?_)
      refine ⟨_, rfl, ?_⟩
      refine x_aret (pc := 16) dJ7_copyOfRange_39247_16 rfl rfl (by decide) (by decide) ?_
      first
      | exact k w lay2 M2 e0 e1 E hp hw z0
      | exact k w lay2 M2 e0 e1 E hp hw (fun i _ => z0 i)
set_option maxRecDepth 100000 in
theorem sp_J0_init_db425 {g : GG} {lay : Lay} {M : Mem} {K : KK} {b a : Nat} {t : List Int} (hS : SbP g lay M b t) (hA : KN lay a (0, 9, fun _ => none)) (wa : g.2.1 ≤ a) (hba : b < a) (hl9 : t.length ≤ 600) (k : ∀ lay2 M2, Ext lay lay2 → (∀ x i, x < lay.2 → x ≠ a → M2 x i = M x i) → StP lay2 M2 a t → (∀ v, M2 a 0 = er v → lay.2 ≤ v) → K (.inl none) lay2 M2) : X g m_J0_init_db425 0 0 lay M 0 [(0, vR a), (1, vR b), (2, vN)] [] K := by
  obtain ⟨v, cap, hQ⟩ := hS
  obtain ⟨hb, wb, bv, hv, m0, m1, m3, lc, lc2, mt⟩ := id hQ
  have hab : a ≠ b := by omega
  have hav : a ≠ v := hA.ne hv (Or.inl (show (0 : Nat) ≠ 3 by decide))
  have la := hA.2
  refine x_aload_n (pc := 0) dJ0_init_db425_0 rfl rfl ?_
  refine x_super (pc := 1) koJ0_1 dJ0_init_db425_1 (by decide) ⟨by decide, by decide⟩ ?_
  refine x_aload_n (pc := 4) dJ0_init_db425_4 rfl rfl ?_
  refine x_callU (pc := 5) [] rfl kuJ0_552 dJ0_init_db425_5 hb.1 rfl (by decide) (Nat.le_of_ble_eq_true rfl) (Nat.le_of_ble_eq_true rfl) (by decide) ?_
  refine sp_J5_getValue_6d5f1 hQ ?_
  refine ⟨_, rfl, ?_⟩
  refine x_astore_n (pc := 8) dJ0_init_db425_8 rfl (by decide) (L' := [(3, _), (0, _), (1, _), (2, _)]) rfl ?_
  refine x_aload_n (pc := 9) dJ0_init_db425_9 rfl rfl ?_
  refine x_callO (pc := 10) [] rfl kvJ0_549 dJ0_init_db425_10 hb.1 rfl (by decide) (Nat.le_of_ble_eq_true rfl) (Nat.le_of_ble_eq_true rfl) (by decide) ?_
  refine sp_J4_length_8abf5 ⟨v, cap, hQ⟩ ?_
  refine ⟨_, rfl, ?_⟩
  refine x_istore (pc := 13) dJ0_init_db425_13 trivial (by decide) (L' := [(4, _), (3, _), (0, _), (1, _), (2, _)]) rfl ?_
  refine x_aload_n (pc := 15) dJ0_init_db425_15 rfl rfl ?_
  refine x_callU (pc := 16) [] rfl kuJ0_1047 dJ0_init_db425_16 hb.1 rfl (by decide) (Nat.le_of_ble_eq_true rfl) (Nat.le_of_ble_eq_true rfl) (by decide) ?_
  refine sp_J5_isLatin1_aae02 hQ ?_
  refine ⟨_, rfl, ?_⟩
  refine x_if_eq (pc := 19) (t := 41) dJ0_init_db425_19 (by decide) ⟨by omega, by omega⟩ (fun c19 => ?_) (fun c19 => ?_)
  · exfalso; omega
  · refine x_aload_n (pc := 22) dJ0_init_db425_22 rfl rfl ?_
    refine x_iconst (pc := 23) dJ0_init_db425_23 ?_
    refine x_putFb (pc := 24) ffJ0_15 rfl dJ0_init_db425_24 hA.1 wa rfl ⟨by omega, by omega⟩ ?_
    refine x_aload_n (pc := 27) dJ0_init_db425_27 rfl rfl ?_
    refine x_aload_n (pc := 28) dJ0_init_db425_28 rfl rfl ?_
    refine x_iconst (pc := 29) dJ0_init_db425_29 ?_
    refine x_iload (pc := 30) dJ0_init_db425_30 rfl ?_
    refine x_callS (pc := 32) [_, _, _] rfl kJ0_54 dJ0_init_db425_32 rfl (by decide) (Nat.le_of_ble_eq_true rfl) (Nat.le_of_ble_eq_true rfl) (by decide) ?_
    refine sp_J7_copyOfRange_39247 hv (by omega) lc2 hl9 lc (fun w lay2 M2 e0 e1 E hp hw z0 => ?_)
    have hA := hA.ext E
    refine ⟨_, rfl, ?_⟩
    refine x_putFr (pc := 35) ffJ0_9 rfl dJ0_init_db425_35 hA.1 wa rfl rfl ?_
    refine x_goto (pc := 38) (t := 97) dJ0_init_db425_38 (by decide) ?_
    refine x_vret (pc := 97) dJ0_init_db425_97 rfl (by decide) (by decide) ?_
    refine k lay2 _ E (fun y i hy hy2 => ?_) ⟨hA, ?_, w, mset_same, hw, fun i hi => ?_⟩ (fun v9 hv9 => ?_)
    · rw [mset_nea hy2, hp _ _ (by omega), mset_nea hy2]
    · rw [mset_nei (by decide), hp _ _ (by omega), mset_same]
    · rw [mset_nea (by omega), z0 i hi, mset_nea (by omega)]
      exact mt i hi
    · have e9 := mset_same.symm.trans hv9
      unfold er at e9
      omega
set_option maxRecDepth 100000 in
theorem sp_J0_init_81219 {g : GG} {lay : Lay} {M : Mem} {K : KK} {b a : Nat} {t : List Int} (hS : SbP g lay M b t) (hA : KN lay a (0, 9, fun _ => none)) (wa : g.2.1 ≤ a) (hba : b < a) (hl9 : t.length ≤ 600) (k : ∀ lay2 M2, Ext lay lay2 → (∀ x i, x < lay.2 → x ≠ a → M2 x i = M x i) → StP lay2 M2 a t → (∀ v, M2 a 0 = er v → lay.2 ≤ v) → K (.inl none) lay2 M2) : X g m_J0_init_81219 0 0 lay M 0 [(0, vR a), (1, vR b)] [] K := by
  refine x_aload_n (pc := 0) dJ0_init_81219_0 rfl rfl ?_
  refine x_aload_n (pc := 1) dJ0_init_81219_1 rfl rfl ?_
  refine x_null (pc := 2) dJ0_init_81219_2 ?_
  refine x_callP (pc := 3) [_, _] rfl kpJ0_489 dJ0_init_81219_3 rfl (by decide) (Nat.le_of_ble_eq_true rfl) (Nat.le_of_ble_eq_true rfl) (by decide) ?_
  refine sp_J0_init_db425 hS hA wa hba hl9 (fun lay2 M2 E hp hT hv9 => ?_)
  refine ⟨_, rfl, ?_⟩
  refine x_vret (pc := 6) dJ0_init_81219_6 rfl (by decide) (by decide) ?_
  exact k lay2 M2 E hp hT hv9
set_option maxRecDepth 100000 in
theorem sp_J4_toString_0e30d {g : GG} {lay : Lay} {M : Mem} {K : KK} {b : Nat} {t : List Int} (hS : SbP g lay M b t) (hl9 : t.length ≤ 600) (k : ∀ a lay2 M2, lay.2 ≤ a → Ext lay lay2 → Kp lay.2 M M2 → StP lay2 M2 a t → (∀ v, M2 a 0 = er v → lay.2 ≤ v) → K (.inl (some (vR a))) lay2 M2) : X g m_J4_toString_0e30d 0 0 lay M 0 [(0, vR b)] [] K := by
  have lb : b < lay.2 := by
    obtain ⟨v, cap, hQ⟩ := hS
    exact hQ.1.2
  have wb : g.2.1 ≤ b := by
    obtain ⟨v, cap, hQ⟩ := hS
    exact hQ.2.1
  refine x_newH (pc := 0) cnJ4_18 dJ4_toString_0e30d_0 ⟨by decide, by decide⟩ (fun a lay2 M2 e0 e1 E hp hA z0 => ?_)
  have hS := hS.ext E hp (by omega)
  refine x_dup (pc := 3) dJ4_toString_0e30d_3 rfl ?_
  refine x_aload_n (pc := 4) dJ4_toString_0e30d_4 rfl rfl ?_
  refine x_callP (pc := 5) [_] rfl kpJ4_137 dJ4_toString_0e30d_5 rfl (by decide) (Nat.le_of_ble_eq_true rfl) (Nat.le_of_ble_eq_true rfl) (by decide) ?_
  refine sp_J0_init_81219 hS hA (by omega) (by omega) hl9 (fun lay3 M3 E3 hp3 hT hv9 => ?_)
  refine ⟨_, rfl, ?_⟩
  refine x_aret (pc := 8) dJ4_toString_0e30d_8 rfl rfl (by decide) (by decide) ?_
  refine k a lay3 M3 (by omega) (E.tr E3) (fun y i hy => ?_) hT (fun v h => ?_)
  · rw [hp3 y i (by omega) (by omega)]
    exact hp y i (by omega)
  · have := hv9 v h
    omega
set_option maxRecDepth 100000 in
theorem sp_J0_isLatin1_m {g : GG} {lay : Lay} {M : Mem} {K : KK} {a : Nat} {s : List Int} (hs : StP lay M a s) (hs9 : s.length ≤ 600) (k : K (.inl (some (vI (1)))) lay M) : X g m_J0_isLatin1_aae02 0 0 lay M 0 [(0, vR a)] [] K := by
  obtain ⟨ha, s1, sv, s0, hsv, sm⟩ := id hs
  refine x_gcs (pc := 0) flJ0_38 dJ0_isLatin1_aae02_0 ?_
  refine x_if_eq (pc := 3) (t := 17) dJ0_isLatin1_aae02_3 (by decide) ⟨by omega, by omega⟩ (fun c3 => ?_) (fun c3 => ?_)
  · exfalso; omega
  · refine x_aload_n (pc := 6) dJ0_isLatin1_aae02_6 rfl rfl ?_
    refine x_getb (pc := 7) fJ0_15 dJ0_isLatin1_aae02_7 ha.1 rfl (fun r7a r7b => ?_)
    refine x_if_ne (pc := 10) (t := 17) dJ0_isLatin1_aae02_10 (by decide) ⟨by omega, by omega⟩ (fun c10 => ?_) (fun c10 => ?_)
    · exfalso; omega
    · refine x_iconst (pc := 13) dJ0_isLatin1_aae02_13 ?_
      refine x_goto (pc := 14) (t := 18) dJ0_isLatin1_aae02_14 (by decide) ?_
      refine x_zret (pc := 18) dJ0_isLatin1_aae02_18 rfl ⟨by omega, by omega⟩ (by decide) (by decide) ?_
      exact k
set_option maxRecDepth 100000 in
theorem sp_J1_charAt_m {g : GG} {lay : Lay} {M : Mem} {K : KK} {sv n : Nat} {i : Int} (hsv : KN lay sv (3, n, fun _ => none)) (hn : n ≤ 600) (h0 : 0 ≤ i) (h1 : i < n) (hb9 : 0 ≤ M sv i.toNat ∧ M sv i.toNat < 128) (k : K (.inl (some (vI (M sv i.toNat)))) lay M) : X g m_J1_charAt_3b067 0 0 lay M 0 [(0, vR sv), (1, vI i)] [] K := by
  refine x_iload_n (pc := 0) dJ1_charAt_3b067_0 rfl rfl ?_
  refine x_aload_n (pc := 1) dJ1_charAt_3b067_1 rfl rfl ?_
  refine x_alen (pc := 2) dJ1_charAt_3b067_2 hsv.1 (fun r2a => ?_)
  refine x_callS (pc := 3) [_, _] rfl kJ1_9 dJ1_charAt_3b067_3 rfl (by decide) (Nat.le_of_ble_eq_true rfl) (Nat.le_of_ble_eq_true rfl) (by decide) ?_
  refine sp_J0_checkIndex_df160 h0 h1 (by omega) ?_
  refine ⟨_, rfl, ?_⟩
  refine x_aload_n (pc := 6) dJ1_charAt_3b067_6 rfl rfl ?_
  refine x_iload_n (pc := 7) dJ1_charAt_3b067_7 rfl rfl ?_
  refine x_bald (pc := 8) dJ1_charAt_3b067_8 hsv.1 (by omega) (by omega) (fun r8a r8b => ?_)
  refine x_sipush (pc := 9) dJ1_charAt_3b067_9 (by decide) ?_
  refine x_iandm (pc := 12) 8 (by decide) (by decide) dJ1_charAt_3b067_12 ?_
  rw [show M sv i.toNat % 2 ^ 8 = M sv i.toNat by omega]
  refine x_i2c (pc := 13) (by omega) (by omega) dJ1_charAt_3b067_13 ?_
  refine x_cret (pc := 14) dJ1_charAt_3b067_14 rfl (by omega) (by omega) (by decide) (by decide) ?_
  exact k
set_option maxRecDepth 100000 in
theorem sp_J0_charAt_m {g : GG} {lay : Lay} {M : Mem} {K : KK} {a : Nat} {s : List Int} {i : Int} (hs : StP lay M a s) (hs9 : s.length ≤ 600) (h0 : 0 ≤ i) (h1 : i < (s.length : Nat)) (hb9 : 0 ≤ s.getD i.toNat 0 ∧ s.getD i.toNat 0 < 128) (k : K (.inl (some (vI (s.getD i.toNat 0)))) lay M) : X g m_J0_charAt_5068e 0 0 lay M 0 [(0, vR a), (1, vI i)] [] K := by
  obtain ⟨ha, s1, sv, s0, hsv, sm⟩ := id hs
  have e9 := sm i.toNat (by omega)
  refine x_aload_n (pc := 0) dJ0_charAt_5068e_0 rfl rfl ?_
  refine x_callV (pc := 1) [] rfl kJ0_492 dJ0_charAt_5068e_1 ha.1 rfl rfl (by decide) (Nat.le_of_ble_eq_true rfl) (Nat.le_of_ble_eq_true rfl) (by decide) ?_
  refine sp_J0_isLatin1_m hs hs9 ?_
  refine ⟨_, rfl, ?_⟩
  refine x_if_eq (pc := 4) (t := 16) dJ0_charAt_5068e_4 (by decide) ⟨by omega, by omega⟩ (fun c4 => ?_) (fun c4 => ?_)
  · exfalso; omega
  · refine x_aload_n (pc := 7) dJ0_charAt_5068e_7 rfl rfl ?_
    refine x_getrM (pc := 8) (b := sv) fJ0_9 dJ0_charAt_5068e_8 ha.1 rfl s0 rfl ?_
    refine x_iload_n (pc := 11) dJ0_charAt_5068e_11 rfl rfl ?_
    refine x_callS (pc := 12) [_, _] rfl kJ0_495 dJ0_charAt_5068e_12 rfl (by decide) (Nat.le_of_ble_eq_true rfl) (Nat.le_of_ble_eq_true rfl) (by decide) ?_
    refine sp_J1_charAt_m hsv hs9 h0 h1 (by rw [e9]; exact hb9) ?_
    refine ⟨_, rfl, ?_⟩
    refine x_cret (pc := 15) dJ0_charAt_5068e_15 rfl (by omega) (by omega) (by decide) (by decide) ?_
    rw [e9]
    exact k
