/-! The law from its first step. -/
def Sd (v0 v1 v2 v3 v4 v5 v6 : Int) : Nat → Int := fup (fup (fup (fup (fup (fup (fup (tabF 0) 0 v0) 1 v1) 2 v2) 3 v3) 4 v4) 5 v5) 6 v6
def txS (v0 v1 v2 v3 v4 v5 v6 : Int) : List Int := stB 15 ++ numF v0 ++ stB 16 ++ numF v1 ++ stB 17 ++ numF v2 ++ stB 18 ++ numF v3 ++ stB 19 ++ numF v4 ++ stB 20 ++ numF v5 ++ stB 21 ++ numF v6 ++ stB 22
theorem Sd_at (v0 v1 v2 v3 v4 v5 v6 : Int) : Sd v0 v1 v2 v3 v4 v5 v6 0 = v0 ∧ Sd v0 v1 v2 v3 v4 v5 v6 1 = v1 ∧ Sd v0 v1 v2 v3 v4 v5 v6 2 = v2 ∧ Sd v0 v1 v2 v3 v4 v5 v6 3 = v3 ∧ Sd v0 v1 v2 v3 v4 v5 v6 4 = v4 ∧ Sd v0 v1 v2 v3 v4 v5 v6 5 = v5 ∧ Sd v0 v1 v2 v3 v4 v5 v6 6 = v6 := ⟨rfl, rfl, rfl, rfl, rfl, rfl, rfl⟩
theorem txS_len (v0 v1 v2 v3 v4 v5 v6 : Int) : (txS v0 v1 v2 v3 v4 v5 v6).length ≤ 100 := by
  have a0 := numF_l3 v0
  have a1 := numF_l3 v1
  have a2 := numF_l3 v2
  have a3 := numF_l3 v3
  have a4 := numF_l3 v4
  have a5 := numF_l3 v5
  have a6 := numF_l3 v6
  have b : (stB 15).length = 7 ∧ (stB 16).length = 5 ∧ (stB 17).length = 7 ∧ (stB 18).length = 7 ∧ (stB 19).length = 6 ∧ (stB 20).length = 1 ∧ (stB 21).length = 7 ∧ (stB 22).length = 1 := by decide
  unfold txS
  simp only [List.length_append]
  omega
theorem tNew_wf : WfT tNew := by
  refine ⟨?_, fun j => ⟨by show (-30 : Int) ≤ 0; decide, by show (0 : Int) ≤ 30; decide, fun _ => rfl⟩, ?_, fun j hj => absurd hj (Nat.not_lt_zero j), fun p => Nat.zero_le _, fun p i hp hi => absurd hi (Nat.not_lt_zero i), Or.inl rfl, Or.inl rfl⟩
  · show WfS (tabF 0)
    unfold WfS
    decide
  · show ((0 : Nat) : Int) ≤ tabF 0 2
    decide

set_option maxRecDepth 100000 in
theorem law_text {g : GG} {lay : Lay} {M : Mem} {K : KK} {d b c pw nn : Nat} {v0 v1 v2 v3 v4 v5 v6 : Int} (gB : GoodB) (gC : ∀ P, WfP P → cntOK 5 (buildF P)) (gR : GoodRt) (hS0 : WfS (Sd v0 v1 v2 v3 v4 v5 v6)) (hpw : (pw : Int) = v0) (hSet : ∀ ns, ns ≤ pw → ∀ co, (∀ i, i < ns → -30 ≤ co i ∧ co i ≤ 30) → SetOK (txS v0 v1 v2 v3 v4 v5 v6 ++ stT co ns) (6 + (ns : Nat)) (mkT (Sd v0 v1 v2 v3 v4 v5 v6) (Pd co ns))) (hPL : ∀ T0 T, WfT T0 → (∃ S2 P2, T0 = mkT S2 P2) → Hist T0 T 22 → PlayOK T0 T) (h1 : d + 1 = b) (h2 : b + 32 = c) (h3 : c + 8 < lay.2 + 1) (hJ : JcP g lay M) (hT : ToP g lay M d nn) (hD : Ds g lay M b tNew) (hA9 : ∃ A u, Dh A u M b ∧ 0 ≤ u ∧ u ≤ 12) (hR9 : ∃ tx n v cm, Rd tx n v M (b + 25) ∧ Cm cm M (b + 25)) (hQ : LcQ g lay M c pw (Sd v0 v1 v2 v3 v4 v5 v6) (fun _ => 0) (fun _ => -100) 0 0 0 0 (-1)) (hL : LcL g lay M c (fun _ => 0) (fun _ _ _ => 0)) (hnn : nn ≤ 90) (k : ∀ lay2 M2, K (.inl (some (vI 1))) lay2 M2) : X g m_L_law 200 10000 lay M 152 [(1, vR d), (2, vR b), (3, vI (pw : Nat)), (4, vI v1), (5, vI v2), (6, vI v3), (7, vI v4), (8, vI v5), (9, vI v6), (10, vR c)] [] K := by
  have hS9 := hS0
  unfold WfS at hS9
  obtain ⟨d0, d1, d2, d3, d4, d5, d6⟩ := Sd_at v0 v1 v2 v3 v4 v5 v6
  rw [d0, d1, d2, d3, d4, d5, d6] at hS9
  obtain ⟨A, u, hA, hu⟩ := hA9
  obtain ⟨tx, n, v, cm, hR, hC⟩ := hR9
  have hJ0 := hJ
  have bw := hT.2.1
  have a0 := numF_l3 v0
  have a1 := numF_l3 v1
  have a2 := numF_l3 v2
  have a3 := numF_l3 v3
  have a4 := numF_l3 v4
  have a5 := numF_l3 v5
  have a6 := numF_l3 v6
  have bl : (stB 15).length = 7 ∧ (stB 16).length = 5 ∧ (stB 17).length = 7 ∧ (stB 18).length = 7 ∧ (stB 19).length = 6 ∧ (stB 20).length = 1 ∧ (stB 21).length = 7 ∧ (stB 22).length = 1 := by decide
  subst hpw
  refine x_newH (pc := 152) cnL_117 dL_law_152 ⟨by decide, by decide⟩ (fun t lay2 M2 e0 e1 E hpt hkt zt => ?_)
  subst e0
  have hJ := hJ.ext E hpt (by omega)
  refine x_dup (pc := 155) dL_law_155 rfl ?_
  refine x_newH (pc := 156) cnL_117 dL_law_156 ⟨by decide, by decide⟩ (fun t2 lay3 M3 e2 e3 E2 hp2 ha z0 => ?_)
  obtain rfl : t2 = lay.2 + 1 := by omega
  have hJ := hJ.ext E2 hp2 (by omega)
  have EE := E.tr E2
  have hp := fun y i (h : y < lay.2 + 1) => hp2 y i h
  have hkt := hkt.ext E2
  refine x_dup (pc := 159) dL_law_159 rfl ?_
  refine x_callP (pc := 160) [] rfl kpL_119 dL_law_160 rfl (by decide) (Nat.le_of_ble_eq_true rfl) (Nat.le_of_ble_eq_true rfl) (by decide) ?_
  refine sp_J4_init_da8c8 ha (by omega) (z0 3) (fun lay3 M3 E3 p3 hS => ?_)
  have hJ := hJ.ext E3 p3 (by omega)
  have EE := EE.tr E3
  have hp := fun y i (h : y < lay.2 + 1) => (p3 y i (by omega)).trans (hp y i h)
  have hkt := hkt.ext E3
  refine ⟨_, rfl, ?_⟩
  refine x_ldcS (pc := 163) (q := 15) (by decide) dL_law_163 ?_
  refine x_callV (pc := 165) [_] rfl kL_122 dL_law_165 hS.kn.1 rfl rfl (by decide) (Nat.le_of_ble_eq_true rfl) (Nat.le_of_ble_eq_true rfl) (by decide) ?_
  refine sp_J4_appendS_c hS (by decide) (by simp only [List.length_append, List.length_nil]; omega) (fun lay3 M3 E3 p3 hS => ?_)
  have hJ := hJ.ext E3 p3 (by omega)
  have EE := EE.tr E3
  have hp := fun y i (h : y < lay.2 + 1) => (p3 y i (by omega)).trans (hp y i h)
  have hkt := hkt.ext E3
  refine ⟨_, rfl, ?_⟩
  refine x_iload_n (pc := 168) dL_law_168 rfl rfl ?_
  refine x_callV (pc := 169) [_] rfl kL_126 dL_law_169 hS.kn.1 rfl rfl (by decide) (Nat.le_of_ble_eq_true rfl) (Nat.le_of_ble_eq_true rfl) (by decide) ?_
  refine sp_J4_appendI hJ hS ⟨by omega, by omega⟩ (by simp only [List.length_append, List.length_nil]; omega) (fun lay3 M3 E3 p3 hS => ?_)
  have hJ := hJ.ext E3 p3 (by omega)
  have EE := EE.tr E3
  have hp := fun y i (h : y < lay.2 + 1) => (p3 y i (by omega)).trans (hp y i h)
  have hkt := hkt.ext E3
  refine ⟨_, rfl, ?_⟩
  refine x_ldcS (pc := 172) (q := 16) (by decide) dL_law_172 ?_
  refine x_callV (pc := 174) [_] rfl kL_122 dL_law_174 hS.kn.1 rfl rfl (by decide) (Nat.le_of_ble_eq_true rfl) (Nat.le_of_ble_eq_true rfl) (by decide) ?_
  refine sp_J4_appendS_c hS (by decide) (by simp only [List.length_append, List.length_nil]; omega) (fun lay3 M3 E3 p3 hS => ?_)
  have hJ := hJ.ext E3 p3 (by omega)
  have EE := EE.tr E3
  have hp := fun y i (h : y < lay.2 + 1) => (p3 y i (by omega)).trans (hp y i h)
  have hkt := hkt.ext E3
  refine ⟨_, rfl, ?_⟩
  refine x_iload (pc := 177) dL_law_177 rfl ?_
  refine x_callV (pc := 179) [_] rfl kL_126 dL_law_179 hS.kn.1 rfl rfl (by decide) (Nat.le_of_ble_eq_true rfl) (Nat.le_of_ble_eq_true rfl) (by decide) ?_
  refine sp_J4_appendI hJ hS ⟨by omega, by omega⟩ (by simp only [List.length_append, List.length_nil]; omega) (fun lay3 M3 E3 p3 hS => ?_)
  have hJ := hJ.ext E3 p3 (by omega)
  have EE := EE.tr E3
  have hp := fun y i (h : y < lay.2 + 1) => (p3 y i (by omega)).trans (hp y i h)
  have hkt := hkt.ext E3
  refine ⟨_, rfl, ?_⟩
  refine x_ldcS (pc := 182) (q := 17) (by decide) dL_law_182 ?_
  refine x_callV (pc := 184) [_] rfl kL_122 dL_law_184 hS.kn.1 rfl rfl (by decide) (Nat.le_of_ble_eq_true rfl) (Nat.le_of_ble_eq_true rfl) (by decide) ?_
  refine sp_J4_appendS_c hS (by decide) (by simp only [List.length_append, List.length_nil]; omega) (fun lay3 M3 E3 p3 hS => ?_)
  have hJ := hJ.ext E3 p3 (by omega)
  have EE := EE.tr E3
  have hp := fun y i (h : y < lay.2 + 1) => (p3 y i (by omega)).trans (hp y i h)
  have hkt := hkt.ext E3
  refine ⟨_, rfl, ?_⟩
  refine x_iload (pc := 187) dL_law_187 rfl ?_
  refine x_callV (pc := 189) [_] rfl kL_126 dL_law_189 hS.kn.1 rfl rfl (by decide) (Nat.le_of_ble_eq_true rfl) (Nat.le_of_ble_eq_true rfl) (by decide) ?_
  refine sp_J4_appendI hJ hS ⟨by omega, by omega⟩ (by simp only [List.length_append, List.length_nil]; omega) (fun lay3 M3 E3 p3 hS => ?_)
  have hJ := hJ.ext E3 p3 (by omega)
  have EE := EE.tr E3
  have hp := fun y i (h : y < lay.2 + 1) => (p3 y i (by omega)).trans (hp y i h)
  have hkt := hkt.ext E3
  refine ⟨_, rfl, ?_⟩
  refine x_ldcS (pc := 192) (q := 18) (by decide) dL_law_192 ?_
  refine x_callV (pc := 194) [_] rfl kL_122 dL_law_194 hS.kn.1 rfl rfl (by decide) (Nat.le_of_ble_eq_true rfl) (Nat.le_of_ble_eq_true rfl) (by decide) ?_
  refine sp_J4_appendS_c hS (by decide) (by simp only [List.length_append, List.length_nil]; omega) (fun lay3 M3 E3 p3 hS => ?_)
  have hJ := hJ.ext E3 p3 (by omega)
  have EE := EE.tr E3
  have hp := fun y i (h : y < lay.2 + 1) => (p3 y i (by omega)).trans (hp y i h)
  have hkt := hkt.ext E3
  refine ⟨_, rfl, ?_⟩
  refine x_iload (pc := 197) dL_law_197 rfl ?_
  refine x_callV (pc := 199) [_] rfl kL_126 dL_law_199 hS.kn.1 rfl rfl (by decide) (Nat.le_of_ble_eq_true rfl) (Nat.le_of_ble_eq_true rfl) (by decide) ?_
  refine sp_J4_appendI hJ hS ⟨by omega, by omega⟩ (by simp only [List.length_append, List.length_nil]; omega) (fun lay3 M3 E3 p3 hS => ?_)
  have hJ := hJ.ext E3 p3 (by omega)
  have EE := EE.tr E3
  have hp := fun y i (h : y < lay.2 + 1) => (p3 y i (by omega)).trans (hp y i h)
  have hkt := hkt.ext E3
  refine ⟨_, rfl, ?_⟩
  refine x_ldcS (pc := 202) (q := 19) (by decide) dL_law_202 ?_
  refine x_callV (pc := 204) [_] rfl kL_122 dL_law_204 hS.kn.1 rfl rfl (by decide) (Nat.le_of_ble_eq_true rfl) (Nat.le_of_ble_eq_true rfl) (by decide) ?_
  refine sp_J4_appendS_c hS (by decide) (by simp only [List.length_append, List.length_nil]; omega) (fun lay3 M3 E3 p3 hS => ?_)
  have hJ := hJ.ext E3 p3 (by omega)
  have EE := EE.tr E3
  have hp := fun y i (h : y < lay.2 + 1) => (p3 y i (by omega)).trans (hp y i h)
  have hkt := hkt.ext E3
  refine ⟨_, rfl, ?_⟩
  refine x_iload (pc := 207) dL_law_207 rfl ?_
  refine x_callV (pc := 209) [_] rfl kL_126 dL_law_209 hS.kn.1 rfl rfl (by decide) (Nat.le_of_ble_eq_true rfl) (Nat.le_of_ble_eq_true rfl) (by decide) ?_
  refine sp_J4_appendI hJ hS ⟨by omega, by omega⟩ (by simp only [List.length_append, List.length_nil]; omega) (fun lay3 M3 E3 p3 hS => ?_)
  have hJ := hJ.ext E3 p3 (by omega)
  have EE := EE.tr E3
  have hp := fun y i (h : y < lay.2 + 1) => (p3 y i (by omega)).trans (hp y i h)
  have hkt := hkt.ext E3
  refine ⟨_, rfl, ?_⟩
  refine x_ldcS (pc := 212) (q := 20) (by decide) dL_law_212 ?_
  refine x_callV (pc := 214) [_] rfl kL_122 dL_law_214 hS.kn.1 rfl rfl (by decide) (Nat.le_of_ble_eq_true rfl) (Nat.le_of_ble_eq_true rfl) (by decide) ?_
  refine sp_J4_appendS_c hS (by decide) (by simp only [List.length_append, List.length_nil]; omega) (fun lay3 M3 E3 p3 hS => ?_)
  have hJ := hJ.ext E3 p3 (by omega)
  have EE := EE.tr E3
  have hp := fun y i (h : y < lay.2 + 1) => (p3 y i (by omega)).trans (hp y i h)
  have hkt := hkt.ext E3
  refine ⟨_, rfl, ?_⟩
  refine x_iload (pc := 217) dL_law_217 rfl ?_
  refine x_callV (pc := 219) [_] rfl kL_126 dL_law_219 hS.kn.1 rfl rfl (by decide) (Nat.le_of_ble_eq_true rfl) (Nat.le_of_ble_eq_true rfl) (by decide) ?_
  refine sp_J4_appendI hJ hS ⟨by omega, by omega⟩ (by simp only [List.length_append, List.length_nil]; omega) (fun lay3 M3 E3 p3 hS => ?_)
  have hJ := hJ.ext E3 p3 (by omega)
  have EE := EE.tr E3
  have hp := fun y i (h : y < lay.2 + 1) => (p3 y i (by omega)).trans (hp y i h)
  have hkt := hkt.ext E3
  refine ⟨_, rfl, ?_⟩
  refine x_ldcS (pc := 222) (q := 21) (by decide) dL_law_222 ?_
  refine x_callV (pc := 224) [_] rfl kL_122 dL_law_224 hS.kn.1 rfl rfl (by decide) (Nat.le_of_ble_eq_true rfl) (Nat.le_of_ble_eq_true rfl) (by decide) ?_
  refine sp_J4_appendS_c hS (by decide) (by simp only [List.length_append, List.length_nil]; omega) (fun lay3 M3 E3 p3 hS => ?_)
  have hJ := hJ.ext E3 p3 (by omega)
  have EE := EE.tr E3
  have hp := fun y i (h : y < lay.2 + 1) => (p3 y i (by omega)).trans (hp y i h)
  have hkt := hkt.ext E3
  refine ⟨_, rfl, ?_⟩
  refine x_iload (pc := 227) dL_law_227 rfl ?_
  refine x_callV (pc := 229) [_] rfl kL_126 dL_law_229 hS.kn.1 rfl rfl (by decide) (Nat.le_of_ble_eq_true rfl) (Nat.le_of_ble_eq_true rfl) (by decide) ?_
  refine sp_J4_appendI hJ hS ⟨by omega, by omega⟩ (by simp only [List.length_append, List.length_nil]; omega) (fun lay3 M3 E3 p3 hS => ?_)
  have hJ := hJ.ext E3 p3 (by omega)
  have EE := EE.tr E3
  have hp := fun y i (h : y < lay.2 + 1) => (p3 y i (by omega)).trans (hp y i h)
  have hkt := hkt.ext E3
  refine ⟨_, rfl, ?_⟩
  refine x_ldcS (pc := 232) (q := 22) (by decide) dL_law_232 ?_
  refine x_callV (pc := 234) [_] rfl kL_122 dL_law_234 hS.kn.1 rfl rfl (by decide) (Nat.le_of_ble_eq_true rfl) (Nat.le_of_ble_eq_true rfl) (by decide) ?_
  refine sp_J4_appendS_c hS (by decide) (by simp only [List.length_append, List.length_nil]; omega) (fun lay3 M3 E3 p3 hS => ?_)
  have hJ := hJ.ext E3 p3 (by omega)
  have EE := EE.tr E3
  have hp := fun y i (h : y < lay.2 + 1) => (p3 y i (by omega)).trans (hp y i h)
  have hkt := hkt.ext E3
  refine ⟨_, rfl, ?_⟩
  refine x_callV (pc := 237) [] rfl kL_143 dL_law_237 hS.kn.1 rfl rfl (by decide) (Nat.le_of_ble_eq_true rfl) (Nat.le_of_ble_eq_true rfl) (by decide) ?_
  refine sp_J4_toString_0e30d hS (by have := txS_len pw v1 v2 v3 v4 v5 v6; exact Nat.le_trans this (by decide)) (fun a4 lay4 M4 e4 E4 p4 hT4 hv4 => ?_)
  have hl9 := hkt.2
  have hJ := hJ.ext E4 p4 (by omega)
  have EE := EE.tr E4
  have hp := fun y i (h : y < lay.2 + 1) => (p4 y i (by omega)).trans (hp y i h)
  have hkt := hkt.ext E4
  refine ⟨_, rfl, ?_⟩
  refine x_callP (pc := 240) [_] rfl kpL_147 dL_law_240 rfl (by decide) (Nat.le_of_ble_eq_true rfl) (Nat.le_of_ble_eq_true rfl) (by decide) ?_
  refine sp_J4_init_a7421 hkt (by omega) ((hp _ _ (by omega)).trans (zt 3)) hT4 (by have := txS_len pw v1 v2 v3 v4 v5 v6; exact Nat.le_trans this (by decide)) (fun lay5 M5 E5 p5 hS5 => ?_)
  have EE := EE.tr E5
  have hq : ∀ y i, y < lay.2 → M5 y i = M y i := fun y i h => (p5 y i h).trans ((hp y i (by omega)).trans (hpt y i h))
  have hK : LwK g lay5 M5 d b c lay.2 pw nn (txS pw v1 v2 v3 v4 v5 v6) (Sd pw v1 v2 v3 v4 v5 v6) (fun _ => 0) := ⟨⟨h1, h2, by omega⟩, hJ0.ext EE (n := lay.2) (fun y i h => hq y i h) (by omega), hT.ext EE (fun i => hq _ i (by omega)), hD.ext EE (fun y i y1 y2 => hq y i (by omega)), ⟨A, u, hA.mem (fun i => hq _ i (by omega)) (fun i => hq _ i (by omega)), hu⟩, ⟨tx, n, v, cm, hR.mem (fun y i y1 y2 => hq y i (by omega)), hC.mem (fun i => hq _ i (by omega))⟩, hQ.ext EE (fun y i y1 y2 => hq y i (by omega)), ⟨lay, EE, Nat.le_refl _, hL.ext Ext.rf (fun y i y1 y2 _ _ => hq y i y2)⟩, hS5⟩
  have hdk := hK.2.2.1.1
  refine ⟨_, rfl, ?_⟩
  refine x_astore (pc := 243) dL_law_243 trivial (by decide) (L' := [(11, _), (1, _), (2, _), (3, _), (4, _), (5, _), (6, _), (7, _), (8, _), (9, _), (10, _)]) rfl ?_
  refine x_aload_n (pc := 245) dL_law_245 rfl rfl ?_
  refine x_iload_n (pc := 246) dL_law_246 rfl rfl ?_
  refine x_iconst (pc := 247) dL_law_247 ?_
  refine x_iadd (pc := 248) dL_law_248 ?_
  refine x_callV (pc := 249) [_] rfl kL_113 dL_law_249 hdk.1 rfl rfl (by decide) (Nat.le_of_ble_eq_true rfl) (Nat.le_of_ble_eq_true rfl) (by decide) ?_
  refine sp_X7_next hK.2.2.1 (by omega) ⟨by omega, by omega⟩ (fun z M6 za zb p6 hT6 => ?_)
  have hK := hK.draw p6 hT6
  refine ⟨_, rfl, ?_⟩
  refine x_istore (pc := 252) dL_law_252 trivial (by decide) (L' := [(12, _), (11, _), (1, _), (2, _), (3, _), (4, _), (5, _), (6, _), (7, _), (8, _), (9, _), (10, _)]) rfl ?_
  refine x_iconst (pc := 254) dL_law_254 ?_
  refine x_istore (pc := 255) dL_law_255 trivial (by decide) (L' := [(13, _), (12, _), (11, _), (1, _), (2, _), (3, _), (4, _), (5, _), (6, _), (7, _), (8, _), (9, _), (10, _)]) rfl ?_
  refine X.loc [0, 3, 4, 5, 9, 12, 2, 1] (L' := [(13, _), (1, _), (2, _), (3, _), (7, _), (10, _), (11, _), (12, _)]) rfl ?_
  obtain ⟨ns, hns⟩ : ∃ ns : Nat, (ns : Int) = z := ⟨z.toNat, Int.toNat_of_nonneg za⟩
  rw [← hns]
  refine law_starts (ns := ns) (tx0 := txS pw v1 v2 v3 v4 v5 v6) gB gC gR hS0 rfl (by omega) (hSet ns (by omega)) hPL (txS_len _ _ _ _ _ _ _) k ns 0 (by omega) lay5 M6 _ _ (nn + 1) (fun _ => 0) (by decide) (by decide) (by omega) (fun i hi => absurd hi (Nat.not_lt_zero i)) ?_
  show LwK g lay5 M6 d b c lay.2 pw (nn + 1) (txS pw v1 v2 v3 v4 v5 v6 ++ []) (Sd pw v1 v2 v3 v4 v5 v6) (fun _ => 0)
  rw [List.append_nil]
  exact hK
