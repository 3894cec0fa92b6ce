/-! The reference's sign rows: the remainder. -/
theorem Bg.eq {N N' : Nat → Int} {M : Mem} {d : Nat} (h : Bg N M d) (e : ∀ j, j < 94 → N' j = N j) : Bg N' M d := fun k hk => by rw [e k hk]; exact h k hk

set_option maxRecDepth 100000 in
theorem sp_X5_divides {g : GG} {lay : Lay} {M : Mem} {K : KK} {d : Nat} {r9 low top : Nat} {N : Nat → Int} (hd : MoL lay d) (hb0 : g.2.1 ≤ d) (hB : Bg N M d) (hr9 : 2 ≤ r9 ∧ r9 < 9) (hlow : low < 9) (htop : top < 9) (hlt : low ≤ top) (hg : M (d + 8) (r9 - 1) = low) (hf : M (d + 8) (r9 - 2) = top) (hov : mdivLOK (mRow N (r9 - 1)) low (top + 1 - low) top (mRow N (r9 - 2))) (k : ∀ N2 M2, Frm (d + 7) (d + 8) M M2 → Bg N2 M2 d → (∀ j, j < 81 → ¬ (9 * r9 ≤ j ∧ j < 9 * r9 + 9) → N2 j = N j) → (∀ p, p < 9 → N2 (9 * r9 + p) = - mdivL (mRow N (r9 - 1)) low (top + 1 - low) top (mRow N (r9 - 2)) p) → K (.inl (some (vI ((topW (fun p => - mdivL (mRow N (r9 - 1)) low (top + 1 - low) top (mRow N (r9 - 2)) p) 9 : Int) - 1)))) lay M2) : X g m_X5_divides 0 0 lay M 0 [(0, vR d), (1, vI r9)] [] K := by
  have egs : ∀ N1 : Nat → Int, (∀ j, j < 81 → N1 j = N j) → ∀ p, p < 9 → N1 (9 * (r9 - 1) + p) = mRow N (r9 - 1) p := fun N1 h p hp => h _ (by omega)
  have third : ∀ (w : Nat → Int), (∀ N2 M2, Frm (d + 7) (d + 8) M M2 → Bg N2 M2 d → (∀ j, j < 81 → ¬ (9 * r9 ≤ j ∧ j < 9 * r9 + 9) → N2 j = N j) → (∀ p, p < 9 → N2 (9 * r9 + p) = - w p) → K (.inl (some (vI ((topW (fun p => - w p) 9 : Int) - 1)))) lay M2) → ∀ (c j : Nat) (x : Int) (N1 : Nat → Int) (M1 : Mem), j + c = 9 → x = j → Frm (d + 7) (d + 8) M M1 → Bg N1 M1 d → (∀ j, j < 81 → ¬ (9 * r9 ≤ j ∧ j < 9 * r9 + 9) → N1 j = N j) → (∀ p, p < 9 → N1 (81 + p) = w p) → (∀ p, p < j → N1 (9 * r9 + p) = - w p) → X g m_X5_divides 0 0 lay M1 215 [(7, vI x), (6, vI ((9 * (r9 - 1) + low : Nat) : Int)), (5, vI top), (4, vI low), (3, vI ((r9 : Int) - 1)), (2, vI ((r9 : Int) - 2)), (0, vR d), (1, vI r9)] [] K := by
    intro w kw c
    induction c with
    | zero =>
      intro j x N1 M1 hj hx hF hB1 hN hw hp
      refine x_iload (pc := 215) dX5_divides_215 rfl ?_
      refine x_bipush (pc := 217) dX5_divides_217 (by decide) ?_
      refine x_icmp_ge (pc := 219) (t := 253) dX5_divides_219 (by decide) ⟨by omega, by omega⟩ ⟨by omega, by omega⟩ (fun c219 => ?_) (fun c219 => ?_)
      · refine x_aload_n (pc := 253) dX5_divides_253 rfl rfl ?_
        refine x_iload_n (pc := 254) dX5_divides_254 rfl rfl ?_
        refine x_bipush (pc := 255) dX5_divides_255 (by decide) ?_
        refine x_callV (pc := 257) [_, _] rfl kX5_103 dX5_divides_257 hd.1 rfl rfl (by decide) (Nat.le_of_ble_eq_true rfl) (Nat.le_of_ble_eq_true rfl) (by decide) ?_
        refine sp_X5_degreeOf (m9 := 8) hd hb0 hB1 (by omega) (by omega) ?_
        rw [topW_cong (f := mRow N1 r9) (g := fun p => - w p) (8 + 1) (fun p hp9 => hp p (by omega))]
        refine ⟨_, rfl, ?_⟩
        refine x_iret (pc := 260) dX5_divides_260 rfl (by decide) (by decide) ?_
        exact kw N1 M1 hF hB1 hN (fun p hp9 => hp p (by omega))
      · exfalso; omega
    | succ c ih =>
      intro j x N1 M1 hj hx hF hB1 hN hw hp
      refine x_iload (pc := 215) dX5_divides_215 rfl ?_
      refine x_bipush (pc := 217) dX5_divides_217 (by decide) ?_
      refine x_icmp_ge (pc := 219) (t := 253) dX5_divides_219 (by decide) ⟨by omega, by omega⟩ ⟨by omega, by omega⟩ (fun c219 => ?_) (fun c219 => ?_)
      · exfalso; omega
      · refine x_aload_n (pc := 222) dX5_divides_222 rfl rfl ?_
        refine x_bipush (pc := 223) dX5_divides_223 (by decide) ?_
        refine x_iload (pc := 225) dX5_divides_225 rfl ?_
        refine x_iadd (pc := 227) dX5_divides_227 ?_
        refine x_iload_n (pc := 228) dX5_divides_228 rfl rfl ?_
        refine x_iload (pc := 229) dX5_divides_229 rfl ?_
        refine x_callS (pc := 231) [_, _] rfl kX5_87 dX5_divides_231 rfl (by decide) (Nat.le_of_ble_eq_true rfl) (Nat.le_of_ble_eq_true rfl) (by decide) ?_
        refine sp_X5_at ?_
        refine ⟨_, rfl, ?_⟩
        rw [show 9 * (r9 : Int) + x = ((9 * r9 + j : Nat) : Int) by omega]
        rw [show 81 + x = ((81 + j : Nat) : Int) by omega]
        refine x_callV (pc := 234) [_, _] rfl kX5_76 dX5_divides_234 hd.1 rfl rfl (by decide) (Nat.le_of_ble_eq_true rfl) (Nat.le_of_ble_eq_true rfl) (by decide) ?_
        refine sp_X5_copiesLong hd hb0 hB1 (by omega) (by omega) (fun M2 hF2 hB2 => ?_)
        rw [hw j (by omega)] at hB2
        refine ⟨_, rfl, ?_⟩
        refine x_aload_n (pc := 237) dX5_divides_237 rfl rfl ?_
        refine x_iload_n (pc := 238) dX5_divides_238 rfl rfl ?_
        refine x_iload (pc := 239) dX5_divides_239 rfl ?_
        refine x_callS (pc := 241) [_, _] rfl kX5_87 dX5_divides_241 rfl (by decide) (Nat.le_of_ble_eq_true rfl) (Nat.le_of_ble_eq_true rfl) (by decide) ?_
        refine sp_X5_at ?_
        refine ⟨_, rfl, ?_⟩
        rw [show 9 * (r9 : Int) + x = ((9 * r9 + j : Nat) : Int) by omega]
        refine x_callV (pc := 244) [_] rfl kX5_96 dX5_divides_244 hd.1 rfl rfl (by decide) (Nat.le_of_ble_eq_true rfl) (Nat.le_of_ble_eq_true rfl) (by decide) ?_
        refine sp_X5_turns hd hb0 hB2 (by omega) (fun M3 hF3 hB3 => ?_)
        rw [fup_at, fup2] at hB3
        refine ⟨_, rfl, ?_⟩
        refine x_iinc (pc := 247) dX5_divides_247 rfl (by decide) (L' := [(7, _), (6, _), (5, _), (4, _), (3, _), (2, _), (0, _), (1, _)]) rfl ?_
        refine x_goto (pc := 250) (t := 215) dX5_divides_250 (by decide) ?_
        refine X.loc [0, 1, 2, 3, 4, 5, 6, 7] (L' := [(7, _), (6, _), (5, _), (4, _), (3, _), (2, _), (0, _), (1, _)]) rfl ?_
        refine ih (j + 1) _ _ _ (by omega) (by omega) ((hF.trans hF2.frm).trans hF3.frm) hB3 (fun i h1 h2 => by rw [fup_ne (by omega)]; exact hN i h1 h2) (fun p hp9 => by rw [fup_ne (by omega)]; exact hw p hp9) (fun p hp9 => ?_)
        by_cases e : p = j
        · rw [e, fup_at]
        · rw [fup_ne (by omega)]
          exact hp p (by omega)
  have inner : ∀ (w : Nat → Int) (dd : Nat), dd < 9 → low ≤ dd → mcOK (mRow N (r9 - 1)) low dd w → (∀ N1 M1, Frm (d + 7) (d + 8) M M1 → Bg N1 M1 d → (∀ j, j < 81 → N1 j = N j) → (∀ q, q < 9 → N1 (81 + q) = mcan (mRow N (r9 - 1)) low dd w q) → X g m_X5_divides 0 0 lay M1 67 [(7, vI ((dd : Int) - 1)), (6, vI ((9 * (r9 - 1) + low : Nat) : Int)), (5, vI top), (4, vI low), (3, vI ((r9 : Int) - 1)), (2, vI ((r9 : Int) - 2)), (0, vR d), (1, vI r9)] [] K) → ∀ (c j : Nat) (x : Int) (N1 : Nat → Int) (M1 : Mem), j + c = dd → x = j → Frm (d + 7) (d + 8) M M1 → Bg N1 M1 d → (∀ j, j < 81 → N1 j = N j) → N1 92 = w dd → (∀ q, q < 9 → N1 (81 + q) = if q < j then mcan (mRow N (r9 - 1)) low dd w q else w q) → X g m_X5_divides 0 0 lay M1 88 [(8, vI x), (7, vI dd), (6, vI ((9 * (r9 - 1) + low : Nat) : Int)), (5, vI top), (4, vI low), (3, vI ((r9 : Int) - 1)), (2, vI ((r9 : Int) - 2)), (0, vR d), (1, vI r9)] [] K := by
    intro w dd hdd hld hok cont c
    induction c with
    | zero =>
      intro j x N1 M1 hj hx hF hB1 hN h92 hw
      refine x_iload (pc := 88) dX5_divides_88 rfl ?_
      refine x_iload (pc := 90) dX5_divides_90 rfl ?_
      refine x_icmp_ge (pc := 92) (t := 196) dX5_divides_92 (by decide) ⟨by omega, by omega⟩ ⟨by omega, by omega⟩ (fun c92 => ?_) (fun c92 => ?_)
      · refine x_aload_n (pc := 196) dX5_divides_196 rfl rfl ?_
        refine x_bipush (pc := 197) dX5_divides_197 (by decide) ?_
        refine x_iload (pc := 199) dX5_divides_199 rfl ?_
        refine x_iadd (pc := 201) dX5_divides_201 ?_
        refine x_iconst (pc := 202) dX5_divides_202 ?_
        rw [show 81 + (dd : Int) = ((81 + dd : Nat) : Int) by omega]
        refine x_callV (pc := 203) [_, _] rfl kX5_65 dX5_divides_203 hd.1 rfl rfl (by decide) (Nat.le_of_ble_eq_true rfl) (Nat.le_of_ble_eq_true rfl) (by decide) ?_
        refine sp_X5_setsLong (v := 0) hd hb0 hB1 (by omega) (by omega) (fun M2 hF2 hB2 => ?_)
        refine ⟨_, rfl, ?_⟩
        refine x_iinc (pc := 206) dX5_divides_206 rfl (by decide) (L' := [(7, _), (8, _), (6, _), (5, _), (4, _), (3, _), (2, _), (0, _), (1, _)]) rfl ?_
        refine x_goto (pc := 209) (t := 67) dX5_divides_209 (by decide) ?_
        refine X.loc [0, 2, 3, 4, 5, 6, 7, 8] (L' := [(7, _), (6, _), (5, _), (4, _), (3, _), (2, _), (0, _), (1, _)]) rfl ?_
        refine cont _ _ (hF.trans hF2.frm) hB2 (fun i h1 => by rw [fup_ne (by omega)]; exact hN i h1) (fun q hq => ?_)
        by_cases e : q = dd
        · rw [e, fup_at]
          unfold mcan
          rw [if_neg (by omega), if_pos rfl]
        · rw [fup_ne (by omega), hw q hq]
          by_cases e2 : q < j
          · rw [if_pos e2]
          · rw [if_neg e2]
            unfold mcan
            rw [if_neg (by omega), if_neg e]
      · exfalso; omega
    | succ c ih =>
      intro j x N1 M1 hj hx hF hB1 hN h92 hw
      have eg := egs N1 hN
      have ewj := hw j (by omega)
      rw [if_neg (by omega)] at ewj
      obtain ⟨o1, o2⟩ := hok j (by omega)
      have hld2 := eg low hlow
      have hsg3 := sg3 (x := mRow N (r9 - 1) low)
      have sC : ∀ N4 M4, Frm (d + 7) (d + 8) M M4 → Bg N4 M4 d → (∀ j, j < 81 → N4 j = N j) → N4 92 = w dd → (∀ q, q < 9 → N4 (81 + q) = if q = j then mcan (mRow N (r9 - 1)) low dd w j else N1 (81 + q)) → X g m_X5_divides 0 0 lay M4 190 [(8, vI x), (7, vI dd), (6, vI ((9 * (r9 - 1) + low : Nat) : Int)), (5, vI top), (4, vI low), (3, vI ((r9 : Int) - 1)), (2, vI ((r9 : Int) - 2)), (0, vR d), (1, vI r9)] [] K := by
        intro N4 M4 hF4 hB4 hN4 h924 hw4
        refine x_iinc (pc := 190) dX5_divides_190 rfl (by decide) (L' := [(8, _), (7, _), (6, _), (5, _), (4, _), (3, _), (2, _), (0, _), (1, _)]) rfl ?_
        refine x_goto (pc := 193) (t := 88) dX5_divides_193 (by decide) ?_
        refine X.loc [0, 1, 2, 3, 4, 5, 6, 7, 8] (L' := [(8, _), (7, _), (6, _), (5, _), (4, _), (3, _), (2, _), (0, _), (1, _)]) rfl ?_
        refine ih (j + 1) _ N4 M4 (by omega) (by omega) hF4 hB4 hN4 h924 (fun q hq => ?_)
        rw [hw4 q hq]
        by_cases e : q = j
        · rw [if_pos e, if_pos (by omega), e]
        · rw [if_neg e, hw q hq]
          by_cases e2 : q < j
          · rw [if_pos e2, if_pos (by omega)]
          · rw [if_neg e2, if_neg (by omega)]
      have sB : ∀ N3 M3, Frm (d + 7) (d + 8) M M3 → Bg N3 M3 d → (∀ j, j < 81 → N3 j = N j) → N3 92 = w dd → (∀ q, q < 9 → N3 (81 + q) = if q = j then w j * ab (mRow N (r9 - 1) low) else N1 (81 + q)) → dd ≤ j + low → N3 91 = (if 0 < mRow N (r9 - 1) low then -(w dd * mRow N (r9 - 1) (j + low - dd)) else w dd * mRow N (r9 - 1) (j + low - dd)) → X g m_X5_divides 0 0 lay M3 179 [(8, vI x), (7, vI dd), (6, vI ((9 * (r9 - 1) + low : Nat) : Int)), (5, vI top), (4, vI low), (3, vI ((r9 : Int) - 1)), (2, vI ((r9 : Int) - 2)), (0, vR d), (1, vI r9)] [] K := by
        intro N3 M3 hF3 hB3 hN3 h923 hw3 hdl h91
        have e7 := hw3 j (by omega)
        rw [if_pos rfl] at e7
        have e8 : ab (N3 (81 + j)) + ab (N3 91) < pB 31 := by
          rw [e7, h91, ab_mul]
          have z1 : ab (ab (mRow N (r9 - 1) low)) = ab (mRow N (r9 - 1) low) := by have := ab_nn (mRow N (r9 - 1) low); unfold ab at *; split <;> omega
          have z2 : ab (if 0 < mRow N (r9 - 1) low then -(w dd * mRow N (r9 - 1) (j + low - dd)) else w dd * mRow N (r9 - 1) (j + low - dd)) = ab (w dd) * ab (mRow N (r9 - 1) (j + low - dd)) := by
            split
            · rw [ab_neg, ab_mul]
            · rw [ab_mul]
          rw [z1, z2]
          exact (o2 hdl).2
        refine x_aload_n (pc := 179) dX5_divides_179 rfl rfl ?_
        refine x_bipush (pc := 180) dX5_divides_180 (by decide) ?_
        refine x_iload (pc := 182) dX5_divides_182 rfl ?_
        refine x_iadd (pc := 184) dX5_divides_184 ?_
        refine x_bipush (pc := 185) dX5_divides_185 (by decide) ?_
        rw [show 81 + x = ((81 + j : Nat) : Int) by omega]
        refine x_callV (pc := 187) [_, _] rfl kX5_100 dX5_divides_187 hd.1 rfl rfl (by decide) (Nat.le_of_ble_eq_true rfl) (Nat.le_of_ble_eq_true rfl) (by decide) ?_
        refine sp_X5_addsLong (t9 := 91) hd hb0 hB3 (by omega) (by omega) (by omega) e8 (fun u9 M4 hF4 hB4 => ?_)
        refine ⟨_, rfl, ?_⟩
        refine X.loc [0, 1, 2, 3, 4, 5, 6, 7, 8] (L' := [(8, _), (7, _), (6, _), (5, _), (4, _), (3, _), (2, _), (0, _), (1, _)]) rfl ?_
        refine sC _ M4 (hF3.trans hF4) hB4 (fun i h1 => ?_) ?_ (fun q hq => ?_)
        · rw [fup_ne (by omega), fup_ne (by omega)]
          exact hN3 i h1
        · rw [fup_ne (by omega), fup_ne (by omega)]
          exact h923
        · by_cases e : q = j
          · rw [if_pos e, e, fup_at, e7, h91]
            unfold mcan
            rw [if_pos (show j < dd by omega), if_pos hdl]
          · rw [fup_ne (by omega), fup_ne (by omega), hw3 q hq, if_neg e, if_neg e]
      have sA : ∀ N2 M2, Frm (d + 7) (d + 8) M M2 → Bg N2 M2 d → (∀ j, j < 81 → N2 j = N j) → N2 92 = w dd → (∀ q, q < 9 → N2 (81 + q) = N1 (81 + q)) → N2 90 = w j * ab (mRow N (r9 - 1) low) → X g m_X5_divides 0 0 lay M2 123 [(8, vI x), (7, vI dd), (6, vI ((9 * (r9 - 1) + low : Nat) : Int)), (5, vI top), (4, vI low), (3, vI ((r9 : Int) - 1)), (2, vI ((r9 : Int) - 2)), (0, vR d), (1, vI r9)] [] K := by
        intro N2 M2 hF2 hB2 hN2 h922 hw2 h90
        refine x_aload_n (pc := 123) dX5_divides_123 rfl rfl ?_
        refine x_bipush (pc := 124) dX5_divides_124 (by decide) ?_
        refine x_bipush (pc := 126) dX5_divides_126 (by decide) ?_
        refine x_iload (pc := 128) dX5_divides_128 rfl ?_
        refine x_iadd (pc := 130) dX5_divides_130 ?_
        rw [show 81 + x = ((81 + j : Nat) : Int) by omega]
        refine x_callV (pc := 131) [_, _] rfl kX5_76 dX5_divides_131 hd.1 rfl rfl (by decide) (Nat.le_of_ble_eq_true rfl) (Nat.le_of_ble_eq_true rfl) (by decide) ?_
        refine sp_X5_copiesLong (k9 := 90) hd hb0 hB2 (by omega) (by omega) (fun M3 hF3 hB3 => ?_)
        rw [h90] at hB3
        have hN3 : ∀ i, i < 81 → fup N2 (81 + j) (w j * ab (mRow N (r9 - 1) low)) i = N i := fun i h1 => by rw [fup_ne (by omega)]; exact hN2 i h1
        have hw3 : ∀ q, q < 9 → fup N2 (81 + j) (w j * ab (mRow N (r9 - 1) low)) (81 + q) = if q = j then w j * ab (mRow N (r9 - 1) low) else N1 (81 + q) := fun q hq => by
          by_cases e : q = j
          · rw [e, fup_at, if_pos rfl]
          · rw [fup_ne (by omega), if_neg e]
            exact hw2 q hq
        have h923 : fup N2 (81 + j) (w j * ab (mRow N (r9 - 1) low)) 92 = w dd := by rw [fup_ne (by omega)]; exact h922
        obtain ⟨N3, hN9⟩ : ∃ N3, N3 = fup N2 (81 + j) (w j * ab (mRow N (r9 - 1) low)) := ⟨_, rfl⟩
        rw [← hN9] at hB3 hN3 hw3 h923
        refine ⟨_, rfl, ?_⟩
        refine x_iload (pc := 134) dX5_divides_134 rfl ?_
        refine x_iload (pc := 136) dX5_divides_136 rfl ?_
        refine x_iload (pc := 138) dX5_divides_138 rfl ?_
        refine x_isub (pc := 140) dX5_divides_140 ?_
        refine x_icmp_lt (pc := 141) (t := 190) dX5_divides_141 (by decide) ⟨by omega, by omega⟩ ⟨by omega, by omega⟩ (fun c141 => ?_) (fun c141 => ?_)
        · refine X.loc [0, 1, 2, 3, 4, 5, 6, 7, 8] (L' := [(8, _), (7, _), (6, _), (5, _), (4, _), (3, _), (2, _), (0, _), (1, _)]) rfl ?_
          refine sC N3 M3 (hF2.trans hF3.frm) hB3 hN3 h923 (fun q hq => ?_)
          rw [hw3 q hq]
          by_cases e : q = j
          · rw [if_pos e, if_pos e]
            unfold mcan
            rw [if_pos (by omega), if_neg (by omega), Int.add_zero]
          · rw [if_neg e, if_neg e]
        · refine x_aload_n (pc := 144) dX5_divides_144 rfl rfl ?_
          refine x_bipush (pc := 145) dX5_divides_145 (by decide) ?_
          refine x_iload_n (pc := 147) dX5_divides_147 rfl rfl ?_
          refine x_iload (pc := 148) dX5_divides_148 rfl ?_
          refine x_iload (pc := 150) dX5_divides_150 rfl ?_
          refine x_isub (pc := 152) dX5_divides_152 ?_
          refine x_iload (pc := 153) dX5_divides_153 rfl ?_
          refine x_iadd (pc := 155) dX5_divides_155 ?_
          refine x_callS (pc := 156) [_, _] rfl kX5_87 dX5_divides_156 rfl (by decide) (Nat.le_of_ble_eq_true rfl) (Nat.le_of_ble_eq_true rfl) (by decide) ?_
          refine sp_X5_at ?_
          refine ⟨_, rfl, ?_⟩
          refine x_bipush (pc := 159) dX5_divides_159 (by decide) ?_
          rw [show 9 * ((r9 : Int) - 1) + (x - (dd : Int) + (low : Int)) = ((9 * (r9 - 1) + (j + low - dd) : Nat) : Int) by omega]
          refine x_callV (pc := 161) [_, _, _] rfl kX5_93 dX5_divides_161 hd.1 rfl rfl (by decide) (Nat.le_of_ble_eq_true rfl) (Nat.le_of_ble_eq_true rfl) (by decide) ?_
          have hdl : dd ≤ j + low := by omega
          have eg3 := egs N3 hN3 (j + low - dd) (by omega)
          refine sp_X5_multiplies (k9 := 92) (z9 := 91) hd hb0 hB3 (by omega) (by omega) (by omega) (by omega) (by rw [h923, eg3]; exact (o2 hdl).1) (fun M4 hF4 hB4 => ?_)
          rw [h923, eg3] at hB4
          have hs4 := hB4 (9 * (r9 - 1) + low) (by omega)
          rw [fup_ne (by omega), egs N3 hN3 low hlow] at hs4
          refine ⟨_, rfl, ?_⟩
          refine x_aload_n (pc := 164) dX5_divides_164 rfl rfl ?_
          refine x_iload (pc := 165) dX5_divides_165 rfl ?_
          refine x_callV (pc := 167) [_] rfl kX5_73 dX5_divides_167 hd.1 rfl rfl (by decide) (Nat.le_of_ble_eq_true rfl) (Nat.le_of_ble_eq_true rfl) (by decide) ?_
          refine sp_X5_signOf hd hb0 hs4 (by omega) ?_
          refine ⟨_, rfl, ?_⟩
          refine x_if_le (pc := 170) (t := 179) dX5_divides_170 (by decide) ⟨by omega, by omega⟩ (fun c170 => ?_) (fun c170 => ?_)
          · refine X.loc [0, 1, 2, 3, 4, 5, 6, 7, 8] (L' := [(8, _), (7, _), (6, _), (5, _), (4, _), (3, _), (2, _), (0, _), (1, _)]) rfl ?_
            first
            | (refine sB _ M5 (((hF2.trans hF3.frm).trans hF4.frm).trans hF5.frm) hB5 (fun i h1 => by rw [fup_ne (by omega)]; exact hN3 i h1) (by rw [fup_ne (by omega)]; exact h923) (fun q hq => by rw [fup_ne (by omega)]; exact hw3 q hq) hdl ?_
               rw [fup_at, if_pos (by unfold sg at *; grind)])
            | (refine sB _ M4 ((hF2.trans hF3.frm).trans hF4.frm) hB4 (fun i h1 => by rw [fup_ne (by omega)]; exact hN3 i h1) (by rw [fup_ne (by omega)]; exact h923) (fun q hq => by rw [fup_ne (by omega)]; exact hw3 q hq) hdl ?_
               rw [fup_at, if_neg (by unfold sg at *; grind)])
          · refine x_aload_n (pc := 173) dX5_divides_173 rfl rfl ?_
            refine x_bipush (pc := 174) dX5_divides_174 (by decide) ?_
            refine x_callV (pc := 176) [_] rfl kX5_96 dX5_divides_176 hd.1 rfl rfl (by decide) (Nat.le_of_ble_eq_true rfl) (Nat.le_of_ble_eq_true rfl) (by decide) ?_
            refine sp_X5_turns (k9 := 91) hd hb0 hB4 (by omega) (fun M5 hF5 hB5 => ?_)
            rw [fup_at, fup2] at hB5
            refine ⟨_, rfl, ?_⟩
            refine X.loc [0, 1, 2, 3, 4, 5, 6, 7, 8] (L' := [(8, _), (7, _), (6, _), (5, _), (4, _), (3, _), (2, _), (0, _), (1, _)]) rfl ?_
            first
            | (refine sB _ M5 (((hF2.trans hF3.frm).trans hF4.frm).trans hF5.frm) hB5 (fun i h1 => by rw [fup_ne (by omega)]; exact hN3 i h1) (by rw [fup_ne (by omega)]; exact h923) (fun q hq => by rw [fup_ne (by omega)]; exact hw3 q hq) hdl ?_
               rw [fup_at, if_pos (by unfold sg at *; grind)])
            | (refine sB _ M4 ((hF2.trans hF3.frm).trans hF4.frm) hB4 (fun i h1 => by rw [fup_ne (by omega)]; exact hN3 i h1) (by rw [fup_ne (by omega)]; exact h923) (fun q hq => by rw [fup_ne (by omega)]; exact hw3 q hq) hdl ?_
               rw [fup_at, if_neg (by unfold sg at *; grind)])
      have hsl := hB1 (9 * (r9 - 1) + low) (by omega)
      refine x_iload (pc := 88) dX5_divides_88 rfl ?_
      refine x_iload (pc := 90) dX5_divides_90 rfl ?_
      refine x_icmp_ge (pc := 92) (t := 196) dX5_divides_92 (by decide) ⟨by omega, by omega⟩ ⟨by omega, by omega⟩ (fun c92 => ?_) (fun c92 => ?_)
      · exfalso; omega
      · refine x_aload_n (pc := 95) dX5_divides_95 rfl rfl ?_
        refine x_bipush (pc := 96) dX5_divides_96 (by decide) ?_
        refine x_iload (pc := 98) dX5_divides_98 rfl ?_
        refine x_iadd (pc := 100) dX5_divides_100 ?_
        refine x_iload (pc := 101) dX5_divides_101 rfl ?_
        refine x_bipush (pc := 103) dX5_divides_103 (by decide) ?_
        rw [show 81 + x = ((81 + j : Nat) : Int) by omega]
        refine x_callV (pc := 105) [_, _, _] rfl kX5_93 dX5_divides_105 hd.1 rfl rfl (by decide) (Nat.le_of_ble_eq_true rfl) (Nat.le_of_ble_eq_true rfl) (by decide) ?_
        refine sp_X5_multiplies (z9 := 90) hd hb0 hB1 (by omega) (by omega) (by omega) (by omega) (by rw [ewj, hld2]; exact o1) (fun M2 hF2 hB2 => ?_)
        rw [ewj, hld2] at hB2
        have hs2 := hB2 (9 * (r9 - 1) + low) (by omega)
        rw [fup_ne (by omega), hld2] at hs2
        refine ⟨_, rfl, ?_⟩
        refine x_aload_n (pc := 108) dX5_divides_108 rfl rfl ?_
        refine x_iload (pc := 109) dX5_divides_109 rfl ?_
        refine x_callV (pc := 111) [_] rfl kX5_73 dX5_divides_111 hd.1 rfl rfl (by decide) (Nat.le_of_ble_eq_true rfl) (Nat.le_of_ble_eq_true rfl) (by decide) ?_
        refine sp_X5_signOf hd hb0 hs2 (by omega) ?_
        refine ⟨_, rfl, ?_⟩
        refine x_if_ge (pc := 114) (t := 123) dX5_divides_114 (by decide) ⟨by omega, by omega⟩ (fun c114 => ?_) (fun c114 => ?_)
        · refine X.loc [0, 1, 2, 3, 4, 5, 6, 7, 8] (L' := [(8, _), (7, _), (6, _), (5, _), (4, _), (3, _), (2, _), (0, _), (1, _)]) rfl ?_
          first
          | (refine sA _ M3 ((hF.trans hF2.frm).trans hF3.frm) hB3 (fun i h1 => by rw [fup_ne (by omega)]; exact hN i h1) (by rw [fup_ne (by omega)]; exact h92) (fun q hq => by rw [fup_ne (by omega)]) ?_
             rw [fup_at, show ab (mRow N (r9 - 1) low) = - mRow N (r9 - 1) low by unfold sg ab at *; grind, Int.mul_neg])
          | (refine sA _ M2 (hF.trans hF2.frm) hB2 (fun i h1 => by rw [fup_ne (by omega)]; exact hN i h1) (by rw [fup_ne (by omega)]; exact h92) (fun q hq => by rw [fup_ne (by omega)]) ?_
             rw [fup_at, show ab (mRow N (r9 - 1) low) = mRow N (r9 - 1) low by unfold sg ab at *; grind])
        · refine x_aload_n (pc := 117) dX5_divides_117 rfl rfl ?_
          refine x_bipush (pc := 118) dX5_divides_118 (by decide) ?_
          refine x_callV (pc := 120) [_] rfl kX5_96 dX5_divides_120 hd.1 rfl rfl (by decide) (Nat.le_of_ble_eq_true rfl) (Nat.le_of_ble_eq_true rfl) (by decide) ?_
          refine sp_X5_turns (k9 := 90) hd hb0 hB2 (by omega) (fun M3 hF3 hB3 => ?_)
          rw [fup_at, fup2] at hB3
          refine ⟨_, rfl, ?_⟩
          refine X.loc [0, 1, 2, 3, 4, 5, 6, 7, 8] (L' := [(8, _), (7, _), (6, _), (5, _), (4, _), (3, _), (2, _), (0, _), (1, _)]) rfl ?_
          first
          | (refine sA _ M3 ((hF.trans hF2.frm).trans hF3.frm) hB3 (fun i h1 => by rw [fup_ne (by omega)]; exact hN i h1) (by rw [fup_ne (by omega)]; exact h92) (fun q hq => by rw [fup_ne (by omega)]) ?_
             rw [fup_at, show ab (mRow N (r9 - 1) low) = - mRow N (r9 - 1) low by unfold sg ab at *; grind, Int.mul_neg])
          | (refine sA _ M2 (hF.trans hF2.frm) hB2 (fun i h1 => by rw [fup_ne (by omega)]; exact hN i h1) (by rw [fup_ne (by omega)]; exact h92) (fun q hq => by rw [fup_ne (by omega)]) ?_
             rw [fup_at, show ab (mRow N (r9 - 1) low) = mRow N (r9 - 1) low by unfold sg ab at *; grind])
  have second : ∀ (c dd : Nat) (x : Int) (w : Nat → Int) (N1 : Nat → Int) (M1 : Mem), x + 1 = (low : Int) + c → dd < 9 → (0 < c → x = (dd : Int)) → mdivLOK (mRow N (r9 - 1)) low c dd w → mdivL (mRow N (r9 - 1)) low c dd w = mdivL (mRow N (r9 - 1)) low (top + 1 - low) top (mRow N (r9 - 2)) → Frm (d + 7) (d + 8) M M1 → Bg N1 M1 d → (∀ j, j < 81 → N1 j = N j) → (∀ q, q < 9 → N1 (81 + q) = w q) → X g m_X5_divides 0 0 lay M1 67 [(7, vI x), (6, vI ((9 * (r9 - 1) + low : Nat) : Int)), (5, vI top), (4, vI low), (3, vI ((r9 : Int) - 1)), (2, vI ((r9 : Int) - 2)), (0, vR d), (1, vI r9)] [] K := by
    intro c
    induction c with
    | zero =>
      intro dd x w N1 M1 hc hdd hx2 hok hres hF hB1 hN hw
      simp only [mdivL] at hres
      rw [← hres] at k
      refine x_iload (pc := 67) dX5_divides_67 rfl ?_
      refine x_iload (pc := 69) dX5_divides_69 rfl ?_
      refine x_icmp_lt (pc := 71) (t := 212) dX5_divides_71 (by decide) ⟨by omega, by omega⟩ ⟨by omega, by omega⟩ (fun c71 => ?_) (fun c71 => ?_)
      · refine x_iconst (pc := 212) dX5_divides_212 ?_
        refine x_istore (pc := 213) dX5_divides_213 trivial (by decide) (L' := [(7, _), (6, _), (5, _), (4, _), (3, _), (2, _), (0, _), (1, _)]) rfl ?_
        refine X.loc [0, 1, 2, 3, 4, 5, 6, 7] (L' := [(7, _), (6, _), (5, _), (4, _), (3, _), (2, _), (0, _), (1, _)]) rfl ?_
        exact third w k 9 0 _ N1 M1 rfl rfl hF hB1 (fun i h1 h2 => hN i h1) hw (fun p hp => by omega)
      · exfalso; omega
    | succ c ih =>
      intro dd x w N1 M1 hc hdd hx2 hok hres hF hB1 hN hw
      have hx := hx2 (by omega)
      simp only [mdivL] at hres
      simp only [mdivLOK] at hok
      have ew := hw dd hdd
      refine x_iload (pc := 67) dX5_divides_67 rfl ?_
      refine x_iload (pc := 69) dX5_divides_69 rfl ?_
      refine x_icmp_lt (pc := 71) (t := 212) dX5_divides_71 (by decide) ⟨by omega, by omega⟩ ⟨by omega, by omega⟩ (fun c71 => ?_) (fun c71 => ?_)
      · exfalso; omega
      · refine x_aload_n (pc := 74) dX5_divides_74 rfl rfl ?_
        refine x_bipush (pc := 75) dX5_divides_75 (by decide) ?_
        refine x_iload (pc := 77) dX5_divides_77 rfl ?_
        refine x_iadd (pc := 79) dX5_divides_79 ?_
        refine x_bipush (pc := 80) dX5_divides_80 (by decide) ?_
        rw [hx]
        rw [show 81 + (dd : Int) = ((81 + dd : Nat) : Int) by omega]
        refine x_callV (pc := 82) [_, _] rfl kX5_76 dX5_divides_82 hd.1 rfl rfl (by decide) (Nat.le_of_ble_eq_true rfl) (Nat.le_of_ble_eq_true rfl) (by decide) ?_
        refine sp_X5_copiesLong (t9 := 92) hd hb0 hB1 (by omega) (by omega) (fun M2 hF2 hB2 => ?_)
        rw [ew] at hB2
        refine ⟨_, rfl, ?_⟩
        refine x_iconst (pc := 85) dX5_divides_85 ?_
        refine x_istore (pc := 86) dX5_divides_86 trivial (by decide) (L' := [(8, _), (7, _), (6, _), (5, _), (4, _), (3, _), (2, _), (0, _), (1, _)]) rfl ?_
        refine X.loc [0, 1, 2, 3, 4, 5, 6, 7, 8] (L' := [(8, _), (7, _), (6, _), (5, _), (4, _), (3, _), (2, _), (0, _), (1, _)]) rfl ?_
        refine inner w dd hdd (by omega) hok.1 (fun N3 M3 hF3 hB3 hN3 hw3 => ?_) dd 0 _ _ M2 (by omega) rfl (hF.trans hF2.frm) hB2 (fun i h1 => by rw [fup_ne (by omega)]; exact hN i h1) fup_at (fun q hq => by rw [fup_ne (by omega), if_neg (by omega)]; exact hw q hq)
        exact ih (dd - 1) _ _ N3 M3 (by omega) (by omega) (fun _ => by omega) hok.2 hres hF3 hB3 hN3 hw3
  have first : ∀ (c j : Nat) (x : Int) (N1 : Nat → Int) (M1 : Mem), j + c = 9 → x = j → Frm (d + 7) (d + 8) M M1 → Bg N1 M1 d → (∀ j, j < 81 → N1 j = N j) → (∀ q, q < j → N1 (81 + q) = mRow N (r9 - 2) q) → X g m_X5_divides 0 0 lay M1 35 [(7, vI x), (6, vI ((9 * (r9 - 1) + low : Nat) : Int)), (5, vI top), (4, vI low), (3, vI ((r9 : Int) - 1)), (2, vI ((r9 : Int) - 2)), (0, vR d), (1, vI r9)] [] K := by
    intro c
    induction c with
    | zero =>
      intro j x N1 M1 hj hx hF hB1 hN hw
      refine x_iload (pc := 35) dX5_divides_35 rfl ?_
      refine x_bipush (pc := 37) dX5_divides_37 (by decide) ?_
      refine x_icmp_ge (pc := 39) (t := 63) dX5_divides_39 (by decide) ⟨by omega, by omega⟩ ⟨by omega, by omega⟩ (fun c39 => ?_) (fun c39 => ?_)
      · refine x_iload (pc := 63) dX5_divides_63 rfl ?_
        refine x_istore (pc := 65) dX5_divides_65 trivial (by decide) (L' := [(7, _), (6, _), (5, _), (4, _), (3, _), (2, _), (0, _), (1, _)]) rfl ?_
        refine X.loc [0, 1, 2, 3, 4, 5, 6, 7] (L' := [(7, _), (6, _), (5, _), (4, _), (3, _), (2, _), (0, _), (1, _)]) rfl ?_
        exact second (top + 1 - low) top _ _ N1 M1 (by omega) htop (fun _ => rfl) hov rfl hF hB1 hN (fun q hq => hw q (by omega))
      · exfalso; omega
    | succ c ih =>
      intro j x N1 M1 hj hx hF hB1 hN hw
      refine x_iload (pc := 35) dX5_divides_35 rfl ?_
      refine x_bipush (pc := 37) dX5_divides_37 (by decide) ?_
      refine x_icmp_ge (pc := 39) (t := 63) dX5_divides_39 (by decide) ⟨by omega, by omega⟩ ⟨by omega, by omega⟩ (fun c39 => ?_) (fun c39 => ?_)
      · exfalso; omega
      · refine x_aload_n (pc := 42) dX5_divides_42 rfl rfl ?_
        refine x_iload_n (pc := 43) dX5_divides_43 rfl rfl ?_
        refine x_iload (pc := 44) dX5_divides_44 rfl ?_
        refine x_callS (pc := 46) [_, _] rfl kX5_87 dX5_divides_46 rfl (by decide) (Nat.le_of_ble_eq_true rfl) (Nat.le_of_ble_eq_true rfl) (by decide) ?_
        refine sp_X5_at ?_
        refine ⟨_, rfl, ?_⟩
        refine x_bipush (pc := 49) dX5_divides_49 (by decide) ?_
        refine x_iload (pc := 51) dX5_divides_51 rfl ?_
        refine x_iadd (pc := 53) dX5_divides_53 ?_
        rw [show 9 * ((r9 : Int) - 2) + x = ((9 * (r9 - 2) + j : Nat) : Int) by omega]
        rw [show 81 + x = ((81 + j : Nat) : Int) by omega]
        refine x_callV (pc := 54) [_, _] rfl kX5_76 dX5_divides_54 hd.1 rfl rfl (by decide) (Nat.le_of_ble_eq_true rfl) (Nat.le_of_ble_eq_true rfl) (by decide) ?_
        refine sp_X5_copiesLong hd hb0 hB1 (by omega) (by omega) (fun M2 hF2 hB2 => ?_)
        rw [hN _ (by omega)] at hB2
        refine ⟨_, rfl, ?_⟩
        refine x_iinc (pc := 57) dX5_divides_57 rfl (by decide) (L' := [(7, _), (6, _), (5, _), (4, _), (3, _), (2, _), (0, _), (1, _)]) rfl ?_
        refine x_goto (pc := 60) (t := 35) dX5_divides_60 (by decide) ?_
        refine X.loc [0, 1, 2, 3, 4, 5, 6, 7] (L' := [(7, _), (6, _), (5, _), (4, _), (3, _), (2, _), (0, _), (1, _)]) rfl ?_
        refine ih (j + 1) _ _ _ (by omega) (by omega) (hF.trans hF2.frm) hB2 (fun i h1 => by rw [fup_ne (by omega)]; exact hN i h1) (fun q hq => ?_)
        by_cases e : q = j
        · rw [e, fup_at]
        · rw [fup_ne (by omega)]
          exact hw q (by omega)
  refine x_iload_n (pc := 0) dX5_divides_0 rfl rfl ?_
  refine x_iconst (pc := 1) dX5_divides_1 ?_
  refine x_isub (pc := 2) dX5_divides_2 ?_
  refine x_istore_n (pc := 3) dX5_divides_3 rfl (by decide) (L' := [(2, _), (0, _), (1, _)]) rfl ?_
  refine x_iload_n (pc := 4) dX5_divides_4 rfl rfl ?_
  refine x_iconst (pc := 5) dX5_divides_5 ?_
  refine x_isub (pc := 6) dX5_divides_6 ?_
  refine x_istore_n (pc := 7) dX5_divides_7 rfl (by decide) (L' := [(3, _), (2, _), (0, _), (1, _)]) rfl ?_
  refine x_aload_n (pc := 8) dX5_divides_8 rfl rfl ?_
  refine x_getr (pc := 9) (b := d + 8) fX5_32 dX5_divides_9 hd.1 rfl rfl ?_
  refine x_iload_n (pc := 12) dX5_divides_12 rfl rfl ?_
  refine x_iald (pc := 13) dX5_divides_13 hd.2.2.2.2.2.2.2.2.1 (by omega) (by omega) (fun r13a r13b => ?_)
  rw [show ((r9 : Int) - 1).toNat = r9 - 1 by omega, hg] at r13a r13b ⊢
  refine x_istore (pc := 14) dX5_divides_14 trivial (by decide) (L' := [(4, _), (3, _), (2, _), (0, _), (1, _)]) rfl ?_
  refine x_aload_n (pc := 16) dX5_divides_16 rfl rfl ?_
  refine x_getr (pc := 17) (b := d + 8) fX5_32 dX5_divides_17 hd.1 rfl rfl ?_
  refine x_iload_n (pc := 20) dX5_divides_20 rfl rfl ?_
  refine x_iald (pc := 21) dX5_divides_21 hd.2.2.2.2.2.2.2.2.1 (by omega) (by omega) (fun r21a r21b => ?_)
  rw [show ((r9 : Int) - 2).toNat = r9 - 2 by omega, hf] at r21a r21b ⊢
  refine x_istore (pc := 22) dX5_divides_22 trivial (by decide) (L' := [(5, _), (4, _), (3, _), (2, _), (0, _), (1, _)]) rfl ?_
  refine x_iload_n (pc := 24) dX5_divides_24 rfl rfl ?_
  refine x_iload (pc := 25) dX5_divides_25 rfl ?_
  refine x_callS (pc := 27) [_, _] rfl kX5_87 dX5_divides_27 rfl (by decide) (Nat.le_of_ble_eq_true rfl) (Nat.le_of_ble_eq_true rfl) (by decide) ?_
  refine sp_X5_at ?_
  refine ⟨_, rfl, ?_⟩
  rw [show 9 * ((r9 : Int) - 1) + (low : Int) = ((9 * (r9 - 1) + low : Nat) : Int) by omega]
  refine x_istore (pc := 30) dX5_divides_30 trivial (by decide) (L' := [(6, _), (5, _), (4, _), (3, _), (2, _), (0, _), (1, _)]) rfl ?_
  refine x_iconst (pc := 32) dX5_divides_32 ?_
  refine x_istore (pc := 33) dX5_divides_33 trivial (by decide) (L' := [(7, _), (6, _), (5, _), (4, _), (3, _), (2, _), (0, _), (1, _)]) rfl ?_
  refine X.loc [0, 1, 2, 3, 4, 5, 6, 7] (L' := [(7, _), (6, _), (5, _), (4, _), (3, _), (2, _), (0, _), (1, _)]) rfl ?_
  exact first 9 0 _ N M rfl rfl Frm.rf hB (fun i h1 => rfl) (fun q hq => by omega)
