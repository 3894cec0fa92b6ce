/-! Lists, iterators, draws, claims. -/
/-- a list with n elements -/
def LsP (g : GG) (lay : Lay) (M : Mem) (l n : Nat) (el : Nat → Nat) : Prop := KN lay l (0, 10, fun _ => none) ∧ g.2.1 ≤ l ∧ M l 0 = (n : Nat) ∧ M l 2 = (n : Nat) ∧ n ≤ 10 ∧ ((n = 0 ∧ M l 1 = er (g.2.2.1 5)) ∨ ∃ x, M l 1 = er x ∧ KN lay x (8, 10, fun _ => none) ∧ g.2.1 ≤ x ∧ ∀ i, i < n → M x i = er (el i))
theorem er_inj {a b : Nat} (h : er a = er b) : a = b := by unfold er at h; omega
theorem LsP.ext {g : GG} {lay lay2 : Lay} {M M2 : Mem} {l n : Nat} {el : Nat → Nat} (h : LsP g lay M l n el) (e : Ext lay lay2) (p1 : ∀ i, M2 l i = M l i) (p2 : ∀ x i, M l 1 = er x → g.2.1 ≤ x → M2 x i = M x i) : LsP g lay2 M2 l n el := by
  obtain ⟨h1, h2, h3, h4, h5, h6⟩ := h
  refine ⟨h1.ext e, h2, (p1 _).trans h3, (p1 _).trans h4, h5, ?_⟩
  rcases h6 with ⟨z1, z2⟩ | ⟨x, z1, z2, z3, z4⟩
  · exact Or.inl ⟨z1, (p1 _).trans z2⟩
  · exact Or.inr ⟨x, (p1 _).trans z1, z2.ext e, z3, fun i hi => (p2 _ _ z1 z3).trans (z4 i hi)⟩

set_option maxRecDepth 100000 in
theorem sp_AC_init {g : GG} {lay : Lay} {M : Mem} {K : KK} {l : Nat} (hl : KN lay l (0, 10, fun _ => none)) (k : K (.inl none) lay M) : X g m_Jxa1e45_init_da8c8 0 0 lay M 0 [(0, vR l)] [] K := by
  refine x_aload_n (pc := 0) dJxa1e45_init_da8c8_0 rfl rfl ?_
  refine x_super (pc := 1) koJxa1e45_1 dJxa1e45_init_da8c8_1 (by decide) ⟨by decide, by decide⟩ ?_
  refine x_vret (pc := 4) dJxa1e45_init_da8c8_4 rfl (by decide) (by decide) ?_
  exact k
set_option maxRecDepth 100000 in
theorem sp_AL_init {g : GG} {lay : Lay} {M : Mem} {K : KK} {l : Nat} (hl : KN lay l (0, 10, fun _ => none)) (wl : g.2.1 ≤ l) (k : K (.inl none) lay (mset M l 0 0)) : X g m_Jxc12de_init_da8c8 0 0 lay M 0 [(0, vR l)] [] K := by
  refine x_aload_n (pc := 0) dJxc12de_init_da8c8_0 rfl rfl ?_
  refine x_callP (pc := 1) [] rfl kpJxc12de_1 dJxc12de_init_da8c8_1 rfl (by decide) (Nat.le_of_ble_eq_true rfl) (Nat.le_of_ble_eq_true rfl) (by decide) ?_
  refine sp_AC_init hl ?_
  refine ⟨_, rfl, ?_⟩
  refine x_aload_n (pc := 4) dJxc12de_init_da8c8_4 rfl rfl ?_
  refine x_iconst (pc := 5) dJxc12de_init_da8c8_5 ?_
  refine x_puti (pc := 6) fnJxc12de_7 dJxc12de_init_da8c8_6 hl.1 wl rfl ⟨by omega, by omega⟩ ?_
  refine x_vret (pc := 9) dJxc12de_init_da8c8_9 rfl (by decide) (by decide) ?_
  exact k
set_option maxRecDepth 100000 in
theorem sp_Ls_init {g : GG} {lay : Lay} {M : Mem} {K : KK} {l : Nat} (hl : KN lay l (0, 10, fun _ => none)) (wl : g.2.1 ≤ l) (hz : ∀ i, M l i = 0) (k : ∀ M2, (∀ y i, y ≠ l → M2 y i = M y i) → (M2 l 0 = 0 ∧ M2 l 1 = er (g.2.2.1 5) ∧ M2 l 2 = 0) → K (.inl none) lay M2) : X g m_Jx4a65c_init_da8c8 0 0 lay M 0 [(0, vR l)] [] K := by
  refine x_aload_n (pc := 0) dJx4a65c_init_da8c8_0 rfl rfl ?_
  refine x_callP (pc := 1) [] rfl kpJx4a65c_1 dJx4a65c_init_da8c8_1 rfl (by decide) (Nat.le_of_ble_eq_true rfl) (Nat.le_of_ble_eq_true rfl) (by decide) ?_
  refine sp_AL_init hl wl ?_
  refine ⟨_, rfl, ?_⟩
  refine x_aload_n (pc := 4) dJx4a65c_init_da8c8_4 rfl rfl ?_
  refine x_gst5 (pc := 5) flJx4a65c_39 dJx4a65c_init_da8c8_5 ?_
  refine x_putrM (pc := 8) fnJx4a65c_9 dJx4a65c_init_da8c8_8 hl.1 wl rfl rfl ?_
  refine x_vret (pc := 11) dJx4a65c_init_da8c8_11 rfl (by decide) (by decide) ?_
  refine k _ (fun y i hy => ?_) ⟨?_, mset_same, ?_⟩
  · rw [mset_nea hy, mset_nea hy]
  · rw [mset_nei (by decide), mset_same]
  · rw [mset_nei (by decide), mset_nei (by decide), hz]
set_option maxRecDepth 100000 in
theorem sp_Ls_grow1 {g : GG} {lay : Lay} {M : Mem} {K : KK} {l : Nat} (hJ : JcP g lay M) (hl : KN lay l (0, 10, fun _ => none)) (wl : g.2.1 ≤ l) (h1 : M l 1 = er (g.2.2.1 5)) (k : ∀ x lay2 M2, lay.2 = x → lay2.2 = x + 1 → Ext lay lay2 → (∀ y i, y < lay.2 → ¬ (y = l ∧ i = 1) → M2 y i = M y i) → KN lay2 x (8, 10, fun _ => none) → M2 l 1 = er x → K (.inl (some (vR x))) lay2 M2) : X g m_Jx4a65c_grow_92f84 0 0 lay M 0 [(0, vR l), (1, vI 1)] [] K := by
  obtain ⟨-, -, ⟨j5, g5⟩, -, -⟩ := id hJ
  have ll := hl.2
  refine x_aload_n (pc := 0) dJx4a65c_grow_92f84_0 rfl rfl ?_
  refine x_getrM (pc := 1) (b := (g.2.2.1 5)) fJx4a65c_9 dJx4a65c_grow_92f84_1 hl.1 rfl h1 rfl ?_
  refine x_alen (pc := 4) dJx4a65c_grow_92f84_4 j5.1 (fun r4a => ?_)
  refine x_istore_n (pc := 5) dJx4a65c_grow_92f84_5 rfl (by decide) (L' := [(2, _), (0, _), (1, _)]) rfl ?_
  refine x_iload_n (pc := 6) dJx4a65c_grow_92f84_6 rfl rfl ?_
  refine x_if_gt (pc := 7) (t := 20) dJx4a65c_grow_92f84_7 (by decide) ⟨by omega, by omega⟩ (fun c7 => ?_) (fun c7 => ?_)
  · exfalso; omega
  · refine x_aload_n (pc := 10) dJx4a65c_grow_92f84_10 rfl rfl ?_
    refine x_getrM (pc := 11) (b := (g.2.2.1 5)) fJx4a65c_9 dJx4a65c_grow_92f84_11 hl.1 rfl h1 rfl ?_
    refine x_gst5 (pc := 14) flJx4a65c_39 dJx4a65c_grow_92f84_14 ?_
    refine x_acmpeq (pc := 17) (t := 45) dJx4a65c_grow_92f84_17 (by decide) rfl ?_
    refine x_aload_n (pc := 45) dJx4a65c_grow_92f84_45 rfl rfl ?_
    refine x_bipush (pc := 46) dJx4a65c_grow_92f84_46 (by decide) ?_
    refine x_iload_n (pc := 48) dJx4a65c_grow_92f84_48 rfl rfl ?_
    refine x_mmax (pc := 49) kmJx4a65c_79 dJx4a65c_grow_92f84_49 ⟨by omega, by omega⟩ ⟨by omega, by omega⟩ (Nat.le_of_ble_eq_true rfl) (by decide) (by decide) (by decide) ?_
    refine x_newOH (pc := 52) (n := 10) dJx4a65c_grow_92f84_52 clJx4a65c_7 (by decide) ⟨by decide, by decide⟩ rfl (fun x lay2 M2 e0 e1 E hp hx z0 => ?_)
    have hl := hl.ext E
    refine x_dupx1 (pc := 55) dJx4a65c_grow_92f84_55 rfl rfl ?_
    refine x_putrM (pc := 56) fnJx4a65c_9 dJx4a65c_grow_92f84_56 hl.1 wl rfl rfl ?_
    refine x_aret (pc := 59) dJx4a65c_grow_92f84_59 rfl rfl (by decide) (by decide) ?_
    refine k x lay2 _ e0 e1 E (fun y i hy hy2 => ?_) hx mset_same
    rw [mset_ne (fun e => hy2 e)]
    exact hp y i (by omega)
set_option maxRecDepth 100000 in
theorem sp_Ls_grow {g : GG} {lay : Lay} {M : Mem} {K : KK} {l : Nat} (hJ : JcP g lay M) (hl : KN lay l (0, 10, fun _ => none)) (wl : g.2.1 ≤ l) (h1 : M l 1 = er (g.2.2.1 5)) (h2 : M l 2 = 0) (k : ∀ x lay2 M2, lay.2 = x → lay2.2 = x + 1 → Ext lay lay2 → (∀ y i, y < lay.2 → ¬ (y = l ∧ i = 1) → M2 y i = M y i) → KN lay2 x (8, 10, fun _ => none) → M2 l 1 = er x → K (.inl (some (vR x))) lay2 M2) : X g m_Jx4a65c_grow_d5877 0 0 lay M 0 [(0, vR l)] [] K := by
  refine x_aload_n (pc := 0) dJx4a65c_grow_d5877_0 rfl rfl ?_
  refine x_aload_n (pc := 1) dJx4a65c_grow_d5877_1 rfl rfl ?_
  refine x_geti (pc := 2) fJx4a65c_48 dJx4a65c_grow_d5877_2 hl.1 rfl (fun r2a r2b => ?_)
  rw [h2]
  refine x_iconst (pc := 5) dJx4a65c_grow_d5877_5 ?_
  refine x_iadd (pc := 6) dJx4a65c_grow_d5877_6 ?_
  refine x_callV (pc := 7) [_] rfl kJx4a65c_69 dJx4a65c_grow_d5877_7 hl.1 rfl rfl (by decide) (Nat.le_of_ble_eq_true rfl) (Nat.le_of_ble_eq_true rfl) (by decide) ?_
  refine sp_Ls_grow1 hJ hl wl h1 (fun x lay2 M2 e0 e1 E hp hx z0 => ?_)
  refine ⟨_, rfl, ?_⟩
  refine x_aret (pc := 10) dJx4a65c_grow_d5877_10 rfl rfl (by decide) (by decide) ?_
  exact k x lay2 M2 e0 e1 E hp hx z0
set_option maxRecDepth 100000 in
theorem sp_Ls_add3 {g : GG} {lay : Lay} {M : Mem} {K : KK} {l n e ce a : Nat} {re : Nat → Option Nat} {el : Nat → Nat} {M0 : Mem} (hJ : JcP g lay M) (hL : LsP g lay M0 l n el) (hM : M = mset M0 l 0 ((n : Nat) + 1)) (he : KN lay e (0, ce, re)) (hca : ∃ q : vw_C, vwCl[ce]? = some q ∧ Cond.castable q.1 "java/lang/Object" ∈ nestW) (hn : n < 10) (ha : M0 l 1 = er a) (k : ∀ lay2 M2, Ext lay lay2 → (∀ y i, y < lay.2 → y ≠ l → (∀ x, M0 l 1 = er x → g.2.1 ≤ x → y ≠ x) → M2 y i = M0 y i) → ((M0 l 1 = er (g.2.2.1 5) ∧ lay2.2 = lay.2 + 1 ∧ M2 l 1 = er lay.2) ∨ (M0 l 1 ≠ er (g.2.2.1 5) ∧ lay2 = lay ∧ M2 l 1 = M0 l 1)) → LsP g lay2 M2 l (n + 1) (fun i => if i = n then e else el i) → K (.inl none) lay2 M2) : X g m_Jx4a65c_add_72be8 0 0 lay M 0 [(0, vR l), (1, vR e), (2, vR a), (3, vI (n : Nat))] [] K := by
  obtain ⟨hl, wl, l0, l2, l3, l4⟩ := id hL
  have ll := hl.2
  obtain ⟨-, -, ⟨j5, g5⟩, -, -⟩ := id hJ
  rcases l4 with ⟨z1, z2⟩ | ⟨x, z1, z2, z3, z4⟩
  · have ea : a = g.2.2.1 5 := er_inj (ha.symm.trans z2)
    subst ea z1
    have h1 : M l 1 = er (g.2.2.1 5) := by rw [hM, mset_nei (by decide)]; exact z2
    have h2 : M l 2 = 0 := by rw [hM, mset_nei (by decide), l2]; rfl
    refine x_iload_n (pc := 0) dJx4a65c_add_72be8_0 rfl rfl ?_
    refine x_aload_n (pc := 1) dJx4a65c_add_72be8_1 rfl rfl ?_
    refine x_alen (pc := 2) dJx4a65c_add_72be8_2 j5.1 (fun r2a => ?_)
    refine x_icmp_ne (pc := 3) (t := 11) dJx4a65c_add_72be8_3 (by decide) ⟨by omega, by omega⟩ ⟨by omega, by omega⟩ (fun c3 => ?_) (fun c3 => ?_)
    · exfalso; omega
    · refine x_aload_n (pc := 6) dJx4a65c_add_72be8_6 rfl rfl ?_
      refine x_callV (pc := 7) [] rfl kJx4a65c_129 dJx4a65c_add_72be8_7 hl.1 rfl rfl (by decide) (Nat.le_of_ble_eq_true rfl) (Nat.le_of_ble_eq_true rfl) (by decide) ?_
      refine sp_Ls_grow hJ hl wl h1 h2 (fun x lay2 M2 e0 e1 E hp hx z0 => ?_)
      have hl := hl.ext E
      have he := he.ext E
      refine ⟨_, rfl, ?_⟩
      refine x_astore_n (pc := 10) dJx4a65c_add_72be8_10 rfl (by decide) (L' := [(2, _), (0, _), (1, _), (3, _)]) rfl ?_
      refine x_aload_n (pc := 11) dJx4a65c_add_72be8_11 rfl rfl ?_
      refine x_iload_n (pc := 12) dJx4a65c_add_72be8_12 rfl rfl ?_
      refine x_aload_n (pc := 13) dJx4a65c_add_72be8_13 rfl rfl ?_
      refine x_aastO (pc := 14) hca dJx4a65c_add_72be8_14 hx.1 he.1 (show g.2.1 ≤ x by omega) (by omega) (by omega) rfl ?_
      refine x_aload_n (pc := 15) dJx4a65c_add_72be8_15 rfl rfl ?_
      refine x_iload_n (pc := 16) dJx4a65c_add_72be8_16 rfl rfl ?_
      refine x_iconst (pc := 17) dJx4a65c_add_72be8_17 ?_
      refine x_iadd (pc := 18) dJx4a65c_add_72be8_18 ?_
      refine x_puti (pc := 19) fnJx4a65c_48 dJx4a65c_add_72be8_19 hl.1 wl rfl ⟨by omega, by omega⟩ ?_
      refine x_vret (pc := 22) dJx4a65c_add_72be8_22 rfl (by decide) (by decide) ?_
      refine k lay2 _ E (fun y i y1 y2 y3 => ?_) (Or.inl ⟨z2, by omega, ?_⟩) ⟨hl, wl, ?_, ?_, by decide, Or.inr ⟨x, ?_, hx, by omega, fun i hi => ?_⟩⟩
      · rw [mset_nea y2, mset_nea (by omega), hp y i y1 (fun q => y2 q.1), hM, mset_nea y2]
      · rw [mset_nei (by decide), mset_nea (by omega), z0, e0]
      · rw [mset_nei (by decide), mset_nea (by omega), hp _ _ ll (fun q => absurd q.2 (by decide)), hM, mset_same]
        rfl
      · rw [mset_same]
        rfl
      · rw [mset_nei (by decide), mset_nea (by omega)]
        exact z0
      · have : i = 0 := by omega
        subst this
        rw [mset_nea (by omega)]
        exact mset_same
  · have ea : a = x := er_inj (ha.symm.trans z1)
    subst ea
    have h1 : M l 1 = er a := by rw [hM, mset_nei (by decide)]; exact z1
    have hax : l ≠ a := hl.ne z2 (Or.inl (show (0 : Nat) ≠ 8 by decide))
    subst hM
    refine x_iload_n (pc := 0) dJx4a65c_add_72be8_0 rfl rfl ?_
    refine x_aload_n (pc := 1) dJx4a65c_add_72be8_1 rfl rfl ?_
    refine x_alen (pc := 2) dJx4a65c_add_72be8_2 z2.1 (fun r2a => ?_)
    refine x_icmp_ne (pc := 3) (t := 11) dJx4a65c_add_72be8_3 (by decide) ⟨by omega, by omega⟩ ⟨by omega, by omega⟩ (fun c3 => ?_) (fun c3 => ?_)
    · refine x_aload_n (pc := 11) dJx4a65c_add_72be8_11 rfl rfl ?_
      refine x_iload_n (pc := 12) dJx4a65c_add_72be8_12 rfl rfl ?_
      refine x_aload_n (pc := 13) dJx4a65c_add_72be8_13 rfl rfl ?_
      refine x_aastO (pc := 14) hca dJx4a65c_add_72be8_14 z2.1 he.1 z3 (by omega) (by omega) rfl ?_
      refine x_aload_n (pc := 15) dJx4a65c_add_72be8_15 rfl rfl ?_
      refine x_iload_n (pc := 16) dJx4a65c_add_72be8_16 rfl rfl ?_
      refine x_iconst (pc := 17) dJx4a65c_add_72be8_17 ?_
      refine x_iadd (pc := 18) dJx4a65c_add_72be8_18 ?_
      refine x_puti (pc := 19) fnJx4a65c_48 dJx4a65c_add_72be8_19 hl.1 wl rfl ⟨by omega, by omega⟩ ?_
      refine x_vret (pc := 22) dJx4a65c_add_72be8_22 rfl (by decide) (by decide) ?_
      refine k lay _ Ext.rf (fun y i y1 y2 y3 => ?_) (Or.inr ⟨fun h => ?_, rfl, ?_⟩) ⟨hl, wl, ?_, ?_, by omega, Or.inr ⟨a, ?_, z2, z3, fun i hi => ?_⟩⟩
      · rw [mset_nea y2, mset_nea (y3 a z1 z3), mset_nea y2]
      · have := er_inj (h.symm.trans z1)
        omega
      · rw [mset_nei (by decide), mset_nea hax, mset_nei (by decide)]
      · rw [mset_nei (by decide), mset_nea hax, mset_same]
        rfl
      · rw [mset_same]
        rfl
      · rw [mset_nei (by decide), mset_nea hax]
        exact h1
      · rw [mset_nea (Ne.symm hax), show ((n : Nat) : Int).toNat = n from Int.toNat_natCast n]
        by_cases c : i = n
        · subst c
          show _ = er (if i = i then e else el i)
          rw [mset_same, if_pos rfl]
        · show _ = er (if i = n then e else el i)
          rw [mset_nei c, mset_nea (Ne.symm hax), if_neg c]
          exact z4 i (by omega)
    · exfalso; omega
set_option maxRecDepth 100000 in
theorem sp_Ls_add {g : GG} {lay : Lay} {M : Mem} {K : KK} {l n e ce : Nat} {re : Nat → Option Nat} {el : Nat → Nat} (hJ : JcP g lay M) (hL : LsP g lay M l n el) (he : KN lay e (0, ce, re)) (hca : ∃ q : vw_C, vwCl[ce]? = some q ∧ Cond.castable q.1 "java/lang/Object" ∈ nestW) (hn : n < 10) (k : ∀ lay2 M2, Ext lay lay2 → (∀ y i, y < lay.2 → y ≠ l → (∀ x, M l 1 = er x → g.2.1 ≤ x → y ≠ x) → M2 y i = M y i) → ((M l 1 = er (g.2.2.1 5) ∧ lay2.2 = lay.2 + 1 ∧ M2 l 1 = er lay.2) ∨ (M l 1 ≠ er (g.2.2.1 5) ∧ lay2 = lay ∧ M2 l 1 = M l 1)) → LsP g lay2 M2 l (n + 1) (fun i => if i = n then e else el i) → K (.inl (some (vI 1))) lay2 M2) : X g m_Jx4a65c_add_9ea2d 0 0 lay M 0 [(0, vR l), (1, vR e)] [] K := by
  obtain ⟨hl, wl, l0, l2, l3, l4⟩ := id hL
  obtain ⟨a, ha⟩ : ∃ a, M l 1 = er a := by
    rcases l4 with ⟨z1, z2⟩ | ⟨x, z1, -⟩
    · exact ⟨_, z2⟩
    · exact ⟨_, z1⟩
  have hJ2 : JcP g lay (mset M l 0 ((n : Nat) + 1)) := hJ.ext Ext.rf (n := l) (fun y i hy => mset_nea (by omega)) wl
  refine x_aload_n (pc := 0) dJx4a65c_add_9ea2d_0 rfl rfl ?_
  refine x_dup (pc := 1) dJx4a65c_add_9ea2d_1 rfl ?_
  refine x_getiU (pc := 2) fuJx4a65c_63 dJx4a65c_add_9ea2d_2 hl.1 rfl (fun r2a r2b => ?_)
  refine x_iconst (pc := 5) dJx4a65c_add_9ea2d_5 ?_
  refine x_iadd (pc := 6) dJx4a65c_add_9ea2d_6 ?_
  rw [l0]
  refine x_putiU (pc := 7) fuJx4a65c_63 dJx4a65c_add_9ea2d_7 hl.1 wl rfl ⟨by omega, by omega⟩ ?_
  refine x_aload_n (pc := 10) dJx4a65c_add_9ea2d_10 rfl rfl ?_
  refine x_aload_n (pc := 11) dJx4a65c_add_9ea2d_11 rfl rfl ?_
  refine x_aload_n (pc := 12) dJx4a65c_add_9ea2d_12 rfl rfl ?_
  refine x_getrM (pc := 13) (b := a) fJx4a65c_9 dJx4a65c_add_9ea2d_13 hl.1 rfl (by first | exact ha | (simp (disch := omega) only [mset_same, mset_nea, mset_nei, mcopy_nea, mcopy_in, mcopy_out, Int.reduceToNat, Int.toNat_natCast, Nat.zero_add, Nat.sub_zero]; done) | (simp (disch := omega) only [mset_same, mset_nea, mset_nei, mcopy_nea, mcopy_in, mcopy_out, Int.reduceToNat, Int.toNat_natCast, Nat.zero_add, Nat.sub_zero]; exact ha)) rfl ?_
  refine x_aload_n (pc := 16) dJx4a65c_add_9ea2d_16 rfl rfl ?_
  refine x_geti (pc := 17) fJx4a65c_48 dJx4a65c_add_9ea2d_17 hl.1 rfl (fun r17a r17b => ?_)
  try simp (disch := omega) only [mset_same, mset_nea, mset_nei, mcopy_nea, mcopy_in, mcopy_out, Int.reduceToNat, Int.toNat_natCast, Nat.zero_add, Nat.sub_zero] at r17a r17b ⊢
  try rw [l2]
  refine x_callV (pc := 20) [_, _, _] rfl kJx4a65c_131 dJx4a65c_add_9ea2d_20 hl.1 rfl rfl (by decide) (Nat.le_of_ble_eq_true rfl) (Nat.le_of_ble_eq_true rfl) (by decide) ?_
  refine sp_Ls_add3 hJ2 hL rfl he hca hn ha (fun lay2 M2 E p1 p2 p3 => ?_)
  refine ⟨_, rfl, ?_⟩
  refine x_iconst (pc := 23) dJx4a65c_add_9ea2d_23 ?_
  refine x_zret (pc := 24) dJx4a65c_add_9ea2d_24 rfl ⟨by omega, by omega⟩ (by decide) (by decide) ?_
  exact k lay2 M2 E p1 p2 p3
set_option maxRecDepth 100000 in
theorem sp_Ob_checkIndex {g : GG} {lay : Lay} {M : Mem} {K : KK} {i n : Int} (h0 : 0 ≤ i) (h1 : i < n) (h2 : n < 1000) (k : K (.inl (some (vI (i)))) lay M) : X g m_J15_checkIndex_7cf53 0 0 lay M 0 [(0, vI i), (1, vI n)] [] K := by
  refine x_iload_n (pc := 0) dJ15_checkIndex_7cf53_0 rfl rfl ?_
  refine x_iload_n (pc := 1) dJ15_checkIndex_7cf53_1 rfl rfl ?_
  refine x_null (pc := 2) dJ15_checkIndex_7cf53_2 ?_
  refine x_callS (pc := 3) [_, _, _] rfl kJ15_105 dJ15_checkIndex_7cf53_3 rfl (by decide) (Nat.le_of_ble_eq_true rfl) (Nat.le_of_ble_eq_true rfl) (by decide) ?_
  refine sp_J3_checkIndex_8e157 h0 h1 h2 ?_
  refine ⟨_, rfl, ?_⟩
  refine x_iret (pc := 6) dJ15_checkIndex_7cf53_6 rfl (by decide) (by decide) ?_
  exact k
set_option maxRecDepth 100000 in
theorem sp_Ls_elem {g : GG} {lay : Lay} {M : Mem} {K : KK} {l n i : Nat} {el : Nat → Nat} (hL : LsP g lay M l n el) (hi : i < n) (k : K (.inl (some (vR (el i)))) lay M) : X g m_Jx4a65c_elementData_915e3 0 0 lay M 0 [(0, vR l), (1, vI (i : Nat))] [] K := by
  obtain ⟨hl, wl, l0, l2, l3, l4⟩ := id hL
  obtain ⟨x, z1, z2, z3, z4⟩ := l4.resolve_left (fun q => by omega)
  refine x_aload_n (pc := 0) dJx4a65c_elementData_915e3_0 rfl rfl ?_
  refine x_getrM (pc := 1) (b := x) fJx4a65c_9 dJx4a65c_elementData_915e3_1 hl.1 rfl z1 rfl ?_
  refine x_iload_n (pc := 4) dJx4a65c_elementData_915e3_4 rfl rfl ?_
  refine x_aaldM (pc := 5) (el i) dJx4a65c_elementData_915e3_5 z2.1 (by omega) (by omega) rfl (by rw [Int.toNat_natCast]; exact z4 i hi) ?_
  refine x_aret (pc := 6) dJx4a65c_elementData_915e3_6 rfl rfl (by decide) (by decide) ?_
  exact k
set_option maxRecDepth 100000 in
theorem sp_Ls_get {g : GG} {lay : Lay} {M : Mem} {K : KK} {l n i : Nat} {el : Nat → Nat} (hL : LsP g lay M l n el) (hi : i < n) (k : K (.inl (some (vR (el i)))) lay M) : X g m_Jx4a65c_get_915e3 0 0 lay M 0 [(0, vR l), (1, vI (i : Nat))] [] K := by
  obtain ⟨hl, wl, l0, l2, l3, l4⟩ := id hL
  obtain ⟨x, z1, z2, z3, z4⟩ := l4.resolve_left (fun q => by omega)
  refine x_iload_n (pc := 0) dJx4a65c_get_915e3_0 rfl rfl ?_
  refine x_aload_n (pc := 1) dJx4a65c_get_915e3_1 rfl rfl ?_
  refine x_geti (pc := 2) fJx4a65c_48 dJx4a65c_get_915e3_2 hl.1 rfl (fun r2a r2b => ?_)
  rw [l2]
  refine x_callS (pc := 5) [_, _] rfl kJx4a65c_118 dJx4a65c_get_915e3_5 rfl (by decide) (Nat.le_of_ble_eq_true rfl) (Nat.le_of_ble_eq_true rfl) (by decide) ?_
  refine sp_Ob_checkIndex (by omega) (by omega) (by omega) ?_
  refine ⟨_, rfl, ?_⟩
  refine x_pop (pc := 8) dJx4a65c_get_915e3_8 rfl ?_
  refine x_aload_n (pc := 9) dJx4a65c_get_915e3_9 rfl rfl ?_
  refine x_iload_n (pc := 10) dJx4a65c_get_915e3_10 rfl rfl ?_
  refine x_callV (pc := 11) [_] rfl kJx4a65c_123 dJx4a65c_get_915e3_11 hl.1 rfl rfl (by decide) (Nat.le_of_ble_eq_true rfl) (Nat.le_of_ble_eq_true rfl) (by decide) ?_
  refine sp_Ls_elem hL hi ?_
  refine ⟨_, rfl, ?_⟩
  refine x_aret (pc := 14) dJx4a65c_get_915e3_14 rfl rfl (by decide) (by decide) ?_
  exact k
set_option maxRecDepth 100000 in
theorem sp_Ls_size {g : GG} {lay : Lay} {M : Mem} {K : KK} {l n : Nat} {el : Nat → Nat} (hL : LsP g lay M l n el) (k : K (.inl (some (vI ((n : Nat))))) lay M) : X g m_Jx4a65c_size_8abf5 0 0 lay M 0 [(0, vR l)] [] K := by
  obtain ⟨hl, wl, l0, l2, l3, l4⟩ := id hL
  refine x_aload_n (pc := 0) dJx4a65c_size_8abf5_0 rfl rfl ?_
  refine x_geti (pc := 1) fJx4a65c_48 dJx4a65c_size_8abf5_1 hl.1 rfl (fun r1a r1b => ?_)
  refine x_iret (pc := 4) dJx4a65c_size_8abf5_4 rfl (by decide) (by decide) ?_
  rw [l2]
  exact k
/-- an iterator that stands at c, of the list l with n elements -/
def ItP (g : GG) (lay : Lay) (M : Mem) (a l n c : Nat) : Prop := KN lay a (0, 11, fun _ => none) ∧ g.2.1 ≤ a ∧ M a 0 = (c : Nat) ∧ M a 2 = (n : Nat) ∧ M a 3 = er l
set_option maxRecDepth 100000 in
theorem sp_It_init {g : GG} {lay : Lay} {M : Mem} {K : KK} {a l n : Nat} {el : Nat → Nat} (ha : KN lay a (0, 11, fun _ => none)) (wa : g.2.1 ≤ a) (hz : ∀ i, M a i = 0) (hL : LsP g lay M l n el) (k : ∀ M2, (∀ y i, y ≠ a → M2 y i = M y i) → ItP g lay M2 a l n 0 → K (.inl none) lay M2) : X g m_Jx35411_init_45d68 0 0 lay M 0 [(0, vR a), (1, vR l)] [] K := by
  obtain ⟨hl, wl, l0, l2, l3, l4⟩ := id hL
  have hal : a ≠ l := ha.ne hl (Or.inr (show (11 : Nat) ≠ 10 by decide))
  refine x_aload_n (pc := 0) dJx35411_init_45d68_0 rfl rfl ?_
  refine x_aload_n (pc := 1) dJx35411_init_45d68_1 rfl rfl ?_
  refine x_putFr (pc := 2) ffJx35411_1 rfl dJx35411_init_45d68_2 ha.1 wa rfl rfl ?_
  refine x_aload_n (pc := 5) dJx35411_init_45d68_5 rfl rfl ?_
  refine x_super (pc := 6) koJx35411_7 dJx35411_init_45d68_6 (by decide) ⟨by decide, by decide⟩ ?_
  refine x_aload_n (pc := 9) dJx35411_init_45d68_9 rfl rfl ?_
  refine x_iconst (pc := 10) dJx35411_init_45d68_10 ?_
  refine x_puti (pc := 11) fnJx35411_13 dJx35411_init_45d68_11 ha.1 wa rfl ⟨by omega, by omega⟩ ?_
  refine x_aload_n (pc := 14) dJx35411_init_45d68_14 rfl rfl ?_
  refine x_aload_n (pc := 15) dJx35411_init_45d68_15 rfl rfl ?_
  refine x_getrM (pc := 16) (b := l) fJx35411_1 dJx35411_init_45d68_16 ha.1 rfl (by first | exact mset_same | (simp (disch := omega) only [mset_same, mset_nea, mset_nei, mcopy_nea, mcopy_in, mcopy_out, Int.reduceToNat, Int.toNat_natCast, Nat.zero_add, Nat.sub_zero]; done) | (simp (disch := omega) only [mset_same, mset_nea, mset_nei, mcopy_nea, mcopy_in, mcopy_out, Int.reduceToNat, Int.toNat_natCast, Nat.zero_add, Nat.sub_zero]; exact mset_same)) rfl ?_
  refine x_getiU (pc := 19) fuJx35411_17 dJx35411_init_45d68_19 hl.1 rfl (fun r19a r19b => ?_)
  try simp (disch := omega) only [mset_same, mset_nea, mset_nei, mcopy_nea, mcopy_in, mcopy_out, Int.reduceToNat, Int.toNat_natCast, Nat.zero_add, Nat.sub_zero] at r19a r19b ⊢
  refine x_puti (pc := 22) fnJx35411_22 dJx35411_init_45d68_22 ha.1 wa rfl ⟨by omega, by omega⟩ ?_
  refine x_vret (pc := 25) dJx35411_init_45d68_25 rfl (by decide) (by decide) ?_
  refine k _ (fun y i hy => ?_) ⟨ha, wa, ?_, ?_, ?_⟩
  · rw [mset_nea hy, mset_nea hy, mset_nea hy]
  · rw [mset_nei (by decide), mset_nei (by decide), mset_nei (by decide), hz]
    rfl
  · rw [mset_same]
    first | exact l0 | (simp (disch := omega) only [mset_nea]; exact l0)
  · rw [mset_nei (by decide), mset_nei (by decide), mset_same]
set_option maxRecDepth 100000 in
theorem sp_Ls_iterator {g : GG} {lay : Lay} {M : Mem} {K : KK} {l n : Nat} {el : Nat → Nat} (hJ : JcP g lay M) (hL : LsP g lay M l n el) (k : ∀ a lay2 M2, lay.2 = a → Ext lay lay2 → Kp lay.2 M M2 → ItP g lay2 M2 a l n 0 → LsP g lay2 M2 l n el → K (.inl (some (vR a))) lay2 M2) : X g m_Jx4a65c_iterator_32c93 0 0 lay M 0 [(0, vR l)] [] K := by
  have g5 := hJ.2.2.1.2
  have ll := hL.1.2
  have wl := hL.2.1
  refine x_newH (pc := 0) cnJx4a65c_267 dJx4a65c_iterator_32c93_0 ⟨by decide, by decide⟩ (fun a lay2 M2 e0 e1 E hp ha z0 => ?_)
  have hxl : ∀ x, M l 1 = er x → g.2.1 ≤ x → x < lay.2 := fun x q1 q2 => by
    obtain ⟨-, -, -, -, -, l4⟩ := hL
    rcases l4 with ⟨z1, z2⟩ | ⟨x2, z1, z2, z3, z4⟩
    · have := er_inj (q1.symm.trans z2)
      subst this
      omega
    · have := er_inj (q1.symm.trans z1)
      subst this
      exact z2.2
  have hL2 := hL.ext E (fun i => hp _ i (by omega)) (fun x i q1 q2 => hp _ i (by have := hxl x q1 q2; omega))
  refine x_dup (pc := 3) dJx4a65c_iterator_32c93_3 rfl ?_
  refine x_aload_n (pc := 4) dJx4a65c_iterator_32c93_4 rfl rfl ?_
  refine x_callP (pc := 5) [_] rfl kpJx4a65c_269 dJx4a65c_iterator_32c93_5 rfl (by decide) (Nat.le_of_ble_eq_true rfl) (Nat.le_of_ble_eq_true rfl) (by decide) ?_
  refine sp_It_init ha (by omega) z0 hL2 (fun M3 p1 p2 => ?_)
  refine ⟨_, rfl, ?_⟩
  refine x_aret (pc := 8) dJx4a65c_iterator_32c93_8 rfl rfl (by decide) (by decide) ?_
  refine k a lay2 M3 e0 E (fun y i hy => (p1 _ _ (by omega)).trans (hp _ _ (by omega))) p2 (hL2.ext Ext.rf (fun i => p1 _ i (by omega)) (fun x i q1 q2 => p1 _ i ?_))
  rw [hp _ _ (by omega)] at q1
  have := hxl x q1 q2
  omega
set_option maxRecDepth 100000 in
theorem sp_It_hasNext {g : GG} {lay : Lay} {M : Mem} {K : KK} {a l n c : Nat} {el : Nat → Nat} (hI : ItP g lay M a l n c) (hL : LsP g lay M l n el) (k : K (.inl (some (vI (if c = n then 0 else 1)))) lay M) : X g m_Jx35411_hasNext_aae02 0 0 lay M 0 [(0, vR a)] [] K := by
  obtain ⟨ha, wa, a0, a2, a3⟩ := id hI
  obtain ⟨hl, wl, l0, l2, l3, l4⟩ := id hL
  have hal : a ≠ l := ha.ne hl (Or.inr (show (11 : Nat) ≠ 10 by decide))
  refine x_aload_n (pc := 0) dJx35411_hasNext_aae02_0 rfl rfl ?_
  refine x_geti (pc := 1) fJx35411_25 dJx35411_hasNext_aae02_1 ha.1 rfl (fun r1a r1b => ?_)
  refine x_aload_n (pc := 4) dJx35411_hasNext_aae02_4 rfl rfl ?_
  refine x_getrM (pc := 5) (b := l) fJx35411_1 dJx35411_hasNext_aae02_5 ha.1 rfl a3 rfl ?_
  refine x_getiN (pc := 8) frJx35411_28 dJx35411_hasNext_aae02_8 hl.1 rfl (fun r8a r8b => ?_)
  refine x_icmp_eq (pc := 11) (t := 18) dJx35411_hasNext_aae02_11 (by decide) ⟨by omega, by omega⟩ ⟨by omega, by omega⟩ (fun c11 => ?_) (fun c11 => ?_)
  · refine x_iconst (pc := 18) dJx35411_hasNext_aae02_18 ?_
    refine x_zret (pc := 19) dJx35411_hasNext_aae02_19 rfl ⟨by omega, by omega⟩ (by decide) (by decide) ?_
    refine kI k ?_
    split <;> omega
  · refine x_iconst (pc := 14) dJx35411_hasNext_aae02_14 ?_
    refine x_goto (pc := 15) (t := 19) dJx35411_hasNext_aae02_15 (by decide) ?_
    refine x_zret (pc := 19) dJx35411_hasNext_aae02_19 rfl ⟨by omega, by omega⟩ (by decide) (by decide) ?_
    refine kI k ?_
    split <;> omega
set_option maxRecDepth 100000 in
theorem sp_It_check {g : GG} {lay : Lay} {M : Mem} {K : KK} {a l n c : Nat} {el : Nat → Nat} (hI : ItP g lay M a l n c) (hL : LsP g lay M l n el) (k : K (.inl none) lay M) : X g m_Jx35411_checkForComodification_da8c8 0 0 lay M 0 [(0, vR a)] [] K := by
  obtain ⟨ha, wa, a0, a2, a3⟩ := id hI
  obtain ⟨hl, wl, l0, l2, l3, l4⟩ := id hL
  have hal : a ≠ l := ha.ne hl (Or.inr (show (11 : Nat) ≠ 10 by decide))
  refine x_aload_n (pc := 0) dJx35411_checkForComodification_da8c8_0 rfl rfl ?_
  refine x_getrM (pc := 1) (b := l) fJx35411_1 dJx35411_checkForComodification_da8c8_1 ha.1 rfl a3 rfl ?_
  refine x_getiU (pc := 4) fuJx35411_17 dJx35411_checkForComodification_da8c8_4 hl.1 rfl (fun r4a r4b => ?_)
  refine x_aload_n (pc := 7) dJx35411_checkForComodification_da8c8_7 rfl rfl ?_
  refine x_geti (pc := 8) fJx35411_22 dJx35411_checkForComodification_da8c8_8 ha.1 rfl (fun r8a r8b => ?_)
  refine x_icmp_eq (pc := 11) (t := 22) dJx35411_checkForComodification_da8c8_11 (by decide) ⟨by omega, by omega⟩ ⟨by omega, by omega⟩ (fun c11 => ?_) (fun c11 => ?_)
  · refine x_vret (pc := 22) dJx35411_checkForComodification_da8c8_22 rfl (by decide) (by decide) ?_
    exact k
  · exfalso; omega
set_option maxRecDepth 100000 in
theorem sp_It_next {g : GG} {lay : Lay} {M : Mem} {K : KK} {a l n c : Nat} {el : Nat → Nat} (hI : ItP g lay M a l n c) (hL : LsP g lay M l n el) (hc : c < n) (k : ∀ M2, (∀ y i, y ≠ a → M2 y i = M y i) → ItP g lay M2 a l n (c + 1) → K (.inl (some (vR (el c)))) lay M2) : X g m_Jx35411_next_0502b 0 0 lay M 0 [(0, vR a)] [] K := by
  obtain ⟨ha, wa, a0, a2, a3⟩ := id hI
  obtain ⟨hl, wl, l0, l2, l3, l4⟩ := id hL
  have hal : a ≠ l := ha.ne hl (Or.inr (show (11 : Nat) ≠ 10 by decide))
  obtain ⟨x, z1, z2, z3, z4⟩ := l4.resolve_left (fun q => by omega)
  have hax : a ≠ x := ha.ne z2 (Or.inl (show (0 : Nat) ≠ 8 by decide))
  refine x_aload_n (pc := 0) dJx35411_next_0502b_0 rfl rfl ?_
  refine x_callV (pc := 1) [] rfl kJx35411_31 dJx35411_next_0502b_1 ha.1 rfl rfl (by decide) (Nat.le_of_ble_eq_true rfl) (Nat.le_of_ble_eq_true rfl) (by decide) ?_
  refine sp_It_check hI hL ?_
  refine ⟨_, rfl, ?_⟩
  refine x_aload_n (pc := 4) dJx35411_next_0502b_4 rfl rfl ?_
  refine x_geti (pc := 5) fJx35411_25 dJx35411_next_0502b_5 ha.1 rfl (fun r5a r5b => ?_)
  rw [a0]
  refine x_istore_n (pc := 8) dJx35411_next_0502b_8 rfl (by decide) (L' := [(1, _), (0, _)]) rfl ?_
  refine x_iload_n (pc := 9) dJx35411_next_0502b_9 rfl rfl ?_
  refine x_aload_n (pc := 10) dJx35411_next_0502b_10 rfl rfl ?_
  refine x_getrM (pc := 11) (b := l) fJx35411_1 dJx35411_next_0502b_11 ha.1 rfl a3 rfl ?_
  refine x_getiN (pc := 14) frJx35411_28 dJx35411_next_0502b_14 hl.1 rfl (fun r14a r14b => ?_)
  refine x_icmp_lt (pc := 17) (t := 28) dJx35411_next_0502b_17 (by decide) ⟨by omega, by omega⟩ ⟨by omega, by omega⟩ (fun c17 => ?_) (fun c17 => ?_)
  · refine x_aload_n (pc := 28) dJx35411_next_0502b_28 rfl rfl ?_
    refine x_getrM (pc := 29) (b := l) fJx35411_1 dJx35411_next_0502b_29 ha.1 rfl a3 rfl ?_
    refine x_getrM (pc := 32) (b := x) fJx35411_37 dJx35411_next_0502b_32 hl.1 rfl z1 rfl ?_
    refine x_astore_n (pc := 35) dJx35411_next_0502b_35 rfl (by decide) (L' := [(2, _), (1, _), (0, _)]) rfl ?_
    refine x_iload_n (pc := 36) dJx35411_next_0502b_36 rfl rfl ?_
    refine x_aload_n (pc := 37) dJx35411_next_0502b_37 rfl rfl ?_
    refine x_alen (pc := 38) dJx35411_next_0502b_38 z2.1 (fun r38a => ?_)
    refine x_icmp_lt (pc := 39) (t := 50) dJx35411_next_0502b_39 (by decide) ⟨by omega, by omega⟩ ⟨by omega, by omega⟩ (fun c39 => ?_) (fun c39 => ?_)
    · refine x_aload_n (pc := 50) dJx35411_next_0502b_50 rfl rfl ?_
      refine x_iload_n (pc := 51) dJx35411_next_0502b_51 rfl rfl ?_
      refine x_iconst (pc := 52) dJx35411_next_0502b_52 ?_
      refine x_iadd (pc := 53) dJx35411_next_0502b_53 ?_
      refine x_puti (pc := 54) fnJx35411_25 dJx35411_next_0502b_54 ha.1 wa rfl ⟨by omega, by omega⟩ ?_
      refine x_aload_n (pc := 57) dJx35411_next_0502b_57 rfl rfl ?_
      refine x_aload_n (pc := 58) dJx35411_next_0502b_58 rfl rfl ?_
      refine x_iload_n (pc := 59) dJx35411_next_0502b_59 rfl rfl ?_
      refine x_dupx1 (pc := 60) dJx35411_next_0502b_60 rfl rfl ?_
      refine x_puti (pc := 61) fnJx35411_13 dJx35411_next_0502b_61 ha.1 wa rfl ⟨by omega, by omega⟩ ?_
      refine x_aaldM (pc := 64) (el c) dJx35411_next_0502b_64 z2.1 (by omega) (by omega) rfl (by rw [Int.toNat_natCast, mset_nea (Ne.symm hax), mset_nea (Ne.symm hax)]; exact z4 c hc) ?_
      refine x_aret (pc := 65) dJx35411_next_0502b_65 rfl rfl (by decide) (by decide) ?_
      refine k _ (fun y i hy => ?_) ⟨ha, wa, ?_, ?_, ?_⟩
      · rw [mset_nea hy, mset_nea hy]
      · rw [mset_nei (by decide), mset_same]
        rfl
      · rw [mset_nei (by decide), mset_nei (by decide)]
        exact a2
      · rw [mset_nei (by decide), mset_nei (by decide)]
        exact a3
    · exfalso; omega
  · exfalso; omega
