/-! The law's invariant. -/
/-- the class's cells -/
def CIv (T : CT) (A : Nat → Int) (u : Nat) (tx : Nat → Int) (n : Nat) (v cm : Nat → Int) (pg : List Int) (M : Mem) (b : Nat) : Prop := Ct T M (b + 1) ∧ Dh A (u : Int) M b ∧ Rd tx n v M (b + 25) ∧ Cm cm M (b + 25) ∧ Pg pg M (b + 28)
/-- the reference's cells -/
def RIv (T : CT) (A : Nat → Int) (u : Nat) (H : Nat → CT) (tx : Nat → Int) (n : Nat) (q3 q4 : Int) (pg : List Int) (S : Nat → Option CT) (M : Mem) (d : Nat) : Prop := RowT T (M (d + 1)) ∧ Acm A M d ∧ Us H u M d ∧ (∃ N, Bg N M d) ∧ Wd M d ∧ Tx tx n M d ∧ (M d 17 = q3 ∧ M d 18 = q4) ∧ Po pg M d ∧ Sv S M d
/-- the saved contests -/
def SvC (S : Nat → Option CT) (sv : Nat → Option Nat) (M : Mem) (b top : Nat) : Prop := (∀ i, 2 ≤ i → sv i = none) ∧ ∀ i, i < 2 → (sv i = none ∧ S i = none) ∨ ∃ a T', sv i = some a ∧ S i = some T' ∧ b + 47 ≤ a ∧ a + 7 ≤ top ∧ Ct T' M a ∧ InvT T'
def LB (g : GG) (sa len b : Nat) (lay : Lay) : Prop := g.2.1 ≤ b ∧ sa < b ∧ lay.1 sa = some (1, len, fun _ => none) ∧ b + 47 ≤ lay.2 ∧ MoL lay (b + 32) ∧ lay.1 (b + 45) = some (2, 1, fun _ => none) ∧ lay.1 (b + 46) = some (5, 1, fun _ => none)
def LV (T : CT) (A : Nat → Int) (u : Nat) (H : Nat → CT) (tx : Nat → Int) (n : Nat) (v cm : Nat → Int) (pg : List Int) (S : Nat → Option CT) (sv : Nat → Option Nat) (g : GG) (sa len b : Nat) (lay : Lay) (M : Mem) : Prop := LB g sa len b lay ∧ DuL lay b sv ∧ CIv T A u tx n v cm pg M b ∧ RIv T A u H tx n (v 3) (v 4) pg S M (b + 32) ∧ SvC S sv M b lay.2 ∧ InvT T ∧ Hs H u T ∧ TxR tx n
def LI (g : GG) (sa len b : Nat) (lay : Lay) (M : Mem) : Prop := ∃ T A u H tx n v cm pg S sv, LV T A u H tx n v cm pg S sv g sa len b lay M
theorem DuL.up {l l' : Lay} {b : Nat} {sv : Nat → Option Nat} (h : DuL l b sv) (e : l'.1 = l.1) : DuL l' b sv := by
  unfold DuL CtL SrL RdL PgL at h ⊢
  rw [e]
  exact h
theorem MoL.up {l l' : Lay} {d : Nat} (h : MoL l d) (e : l'.1 = l.1) : MoL l' d := by
  unfold MoL at h ⊢
  rw [e]
  exact h
theorem LB.up {g : GG} {sa len b : Nat} {l l' : Lay} (h : LB g sa len b l) (e : l'.1 = l.1) (e2 : l.2 ≤ l'.2) : LB g sa len b l' := by
  obtain ⟨h1, h2, h3, h4, h5, h6, h7⟩ := h
  exact ⟨h1, h2, by rw [e]; exact h3, by omega, h5.up e, by rw [e]; exact h6, by rw [e]; exact h7⟩
theorem CIv.fr {T : CT} {A : Nat → Int} {u : Nat} {tx : Nat → Int} {n : Nat} {v cm : Nat → Int} {pg : List Int} {M M2 : Mem} {b : Nat} (h : CIv T A u tx n v cm pg M b) (e : ∀ a j, (b ≤ a ∧ a < b + 8) ∨ (b + 25 ≤ a ∧ a < b + 31) → M2 a j = M a j) : CIv T A u tx n v cm pg M2 b := by
  obtain ⟨h1, ⟨h2, h22⟩, ⟨h3, h32, h33⟩, h4, ⟨h5, h52, h53⟩⟩ := h
  exact ⟨h1.gen (fun a j _ _ => e a j (by omega)), ⟨fun i hi => by rw [e _ _ (by omega)]; exact h2 i hi, by rw [e _ _ (by omega)]; exact h22⟩, ⟨h3, fun j q1 q2 => by rw [e _ _ (by omega)]; exact h32 j q1 q2, fun i hi => by rw [e _ _ (by omega)]; exact h33 i hi⟩, fun i hi => by rw [e _ _ (by omega)]; exact h4 i hi, ⟨by rw [e _ _ (by omega)]; exact h5, h52, fun i hi => by rw [e _ _ (by omega)]; exact h53 i hi⟩⟩
theorem RowT.fe {T : CT} {M M2 : Mem} {d : Nat} (h : RowT T (M d)) (e : ∀ j, M2 d j = M d j) : RowT T (M2 d) := by
  rw [show M2 d = M d from funext e]
  exact h
theorem Sv.fr {S : Nat → Option CT} {M M2 : Mem} {d : Nat} (h : Sv S M d) (e4 : ∀ j, M2 (d + 4) j = M (d + 4) j) (e5 : ∀ j, M2 (d + 5) j = M (d + 5) j) : Sv S M2 d := by
  intro i hi
  have h9 := h i hi
  cases hS : S i with
  | none =>
    rw [hS] at h9
    show M2 (d + 5) i = 0
    rw [e5]
    exact h9
  | some T =>
    rw [hS] at h9
    show M2 (d + 5) i = 1 ∧ (WfT T ∧ RowT T (fun j => M2 (d + 4) (280 * i + j)))
    rw [e5, show (fun j => M2 (d + 4) (280 * i + j)) = fun j => M (d + 4) (280 * i + j) from funext fun j => e4 _]
    exact h9
theorem Wd.fr {M M2 : Mem} {d : Nat} (h : Wd M d) (e : ∀ j, M2 (d + 10) j = M (d + 10) j) : Wd M2 d := fun i hi => by rw [e]; exact h i hi
theorem Po.fr {pg : List Int} {M M2 : Mem} {d : Nat} (h : Po pg M d) (e : M2 d 25 = M d 25) (e2 : ∀ j, M2 (d + 12) j = M (d + 12) j) : Po pg M2 d := ⟨by rw [e]; exact h.1, h.2.1, fun i hi => by rw [e2]; exact h.2.2 i hi⟩
/-- all of the reference's cells but some that calls change -/
theorem RIv.part {T : CT} {A : Nat → Int} {u : Nat} {H : Nat → CT} {tx : Nat → Int} {n : Nat} {q3 q4 : Int} {pg : List Int} {S : Nat → Option CT} {M M2 : Mem} {d : Nat} (h : RIv T A u H tx n q3 q4 pg S M d) (hT : RowT T (M2 (d + 1))) (hB : ∃ N, Bg N M2 d) (e0 : ∀ j, j = 4 ∨ j = 12 ∨ j = 17 ∨ j = 18 ∨ j = 25 → M2 d j = M d j) (e : ∀ a j, a = d + 3 ∨ a = d + 4 ∨ a = d + 5 ∨ a = d + 6 ∨ a = d + 9 ∨ a = d + 10 ∨ a = d + 12 → M2 a j = M a j) : RIv T A u H tx n q3 q4 pg S M2 d := by
  obtain ⟨h1, h2, h3, h4, h5, h6, ⟨h7, h72⟩, h8, h9⟩ := h
  exact ⟨hT, h2.fr (fun j => e _ j (by omega)), h3.fr (fun j => e _ j (by omega)) (e0 _ (by omega)), hB, h5.fr (fun j => e _ j (by omega)), h6.z (e0 _ (by omega)) (fun j => e _ j (by omega)), ⟨by rw [e0 _ (by omega)]; exact h7, by rw [e0 _ (by omega)]; exact h72⟩, h8.fr (e0 _ (by omega)) (fun j => e _ j (by omega)), h9.fr (fun j => e _ j (by omega)) (fun j => e _ j (by omega))⟩
theorem RIv.fr {T : CT} {A : Nat → Int} {u : Nat} {H : Nat → CT} {tx : Nat → Int} {n : Nat} {q3 q4 : Int} {pg : List Int} {S : Nat → Option CT} {M M2 : Mem} {d : Nat} (h : RIv T A u H tx n q3 q4 pg S M d) (e : ∀ a j, d ≤ a → a < d + 13 → M2 a j = M a j) : RIv T A u H tx n q3 q4 pg S M2 d :=
  h.part (h.1.fe (fun j => e _ j (by omega) (by omega))) (Bg.fr2 h.2.2.2.1 (fun j => e _ j (by omega) (by omega))) (fun j _ => e _ j (by omega) (by omega)) (fun a j _ => e a j (by omega) (by omega))
theorem RIv.q {T : CT} {A : Nat → Int} {u : Nat} {H : Nat → CT} {tx : Nat → Int} {n : Nat} {q3 q4 : Int} {pg : List Int} {S : Nat → Option CT} {M M2 : Mem} {d : Nat} (h : RIv T A u H tx n q3 q4 pg S M d) (hQ : FrQ d M M2) (hT : RowT T (M2 (d + 1))) (hB : ∃ N, Bg N M2 d) : RIv T A u H tx n q3 q4 pg S M2 d :=
  h.part hT hB (fun j _ => hQ _ j (by omega) (by omega) (by omega) (by omega) (by omega)) (fun a j _ => hQ a j (by omega) (by omega) (by omega) (by omega) (by omega))
theorem RIv.z {T : CT} {A : Nat → Int} {u : Nat} {H : Nat → CT} {tx : Nat → Int} {n : Nat} {q3 q4 : Int} {pg : List Int} {S : Nat → Option CT} {M M2 : Mem} {d : Nat} (h : RIv T A u H tx n q3 q4 pg S M d) (hQ : FrZ d M M2) : RIv T A u H tx n q3 q4 pg S M2 d :=
  h.part (h.1.fe (fun j => hQ _ j (by omega))) (Bg.fr2 h.2.2.2.1 (fun j => hQ _ j (by omega))) (fun j _ => hQ _ j (by omega)) (fun a j _ => hQ a j (by omega))
theorem SvC.fr {S : Nat → Option CT} {sv : Nat → Option Nat} {M M2 : Mem} {b top top2 : Nat} (h : SvC S sv M b top) (ht : top ≤ top2) (e : ∀ a j, b + 47 ≤ a → a < top → M2 a j = M a j) : SvC S sv M2 b top2 := by
  refine ⟨h.1, fun i hi => ?_⟩
  rcases h.2 i hi with h | ⟨a, T', h1, h2, h3, h4, h5, h6⟩
  · exact Or.inl h
  · exact Or.inr ⟨a, T', h1, h2, h3, by omega, h5.gen (fun x j q1 q2 => e x j (by omega) (by omega)), h6⟩
section LVS
variable {T : CT} {A : Nat → Int} {u : Nat} {H : Nat → CT} {tx : Nat → Int} {n : Nat} {v cm : Nat → Int} {pg : List Int} {S : Nat → Option CT} {sv : Nat → Option Nat} {g : GG} {sa len b : Nat} {lay l2 : Lay} {M M1 M2 M3 : Mem}
/-- behind a call of the class that tells something -/
theorem LV.c (h : LV T A u H tx n v cm pg S sv g sa len b lay M) (e1 : l2.1 = lay.1) (e2 : lay.2 ≤ l2.2) (hS : Scr b M M1) (ho : ∀ a j, a ≠ b + 45 → a ≠ b + 46 → M2 a j = M1 a j) : LV T A u H tx n v cm pg S sv g sa len b l2 M2 := by
  obtain ⟨h1, h2, h3, h4, h5, h6⟩ := h
  have e : ∀ a j, ¬ (b + 8 ≤ a ∧ a < b + 15) → ¬ (b + 16 ≤ a ∧ a < b + 25) → ¬ a = b + 31 → a ≠ b + 45 → a ≠ b + 46 → M2 a j = M a j := fun a j q1 q2 q3 q4 q5 => (ho a j q4 q5).trans (hS a j q1 q2 q3)
  exact ⟨h1.up e1 e2, h2.up e1, h3.fr (fun a j q => e a j (by omega) (by omega) (by omega) (by omega) (by omega)), h4.fr (fun a j q1 q2 => e a j (by omega) (by omega) (by omega) (by omega) (by omega)), h5.fr e2 (fun a j q1 q2 => e a j (by omega) (by omega) (by omega) (by omega) (by omega)), h6⟩
/-- behind a call of the reference that tells something -/
theorem LV.m (h : LV T A u H tx n v cm pg S sv g sa len b lay M) (hQ : FrQ (b + 32) M M2) (hT : RowT T (M2 (b + 32 + 1))) (hB : ∃ N, Bg N M2 (b + 32)) : LV T A u H tx n v cm pg S sv g sa len b lay M2 := by
  obtain ⟨h1, h2, h3, h4, h5, h6⟩ := h
  have e : ∀ a j, ¬ (b + 32 ≤ a ∧ a < b + 45) → M2 a j = M a j := fun a j q => hQ a j (by omega) (by omega) (by omega) (by omega) (by omega)
  exact ⟨h1, h2, h3.fr (fun a j q => e a j (by omega)), h4.q hQ hT hB, h5.fr (Nat.le_refl _) (fun a j q1 q2 => e a j (by omega)), h6⟩
theorem LV.z (h : LV T A u H tx n v cm pg S sv g sa len b lay M) (hQ : FrZ (b + 32) M M2) : LV T A u H tx n v cm pg S sv g sa len b lay M2 := by
  obtain ⟨h1, h2, h3, h4, h5, h6⟩ := h
  exact ⟨h1, h2, h3.fr (fun a j q => hQ a j (by omega)), h4.z hQ, h5.fr (Nat.le_refl _) (fun a j q1 q2 => hQ a j (by omega)), h6⟩
end LVS
/-- all that is left to be shown of polynomials -/
def GoodA : Prop := GoodB ∧ (∀ P, WfP P → cntOK 5 (buildF P)) ∧ GoodM ∧ GoodE ∧ GoodF
/-- the rest of a turn of the law's loop -/
def CK (g : GG) (sa len b : Nat) (i : Int) (cn ck : Nat) (K : KK) : Prop := ∀ (l2 : Lay) (M2 : Mem) (cn2 ck2 : Nat), cn2 ≤ cn + 7 → ck2 ≤ ck + 191 → LI g sa len b l2 M2 → X g m_L_law cn2 ck2 l2 M2 1890 [(5, vI i), (4, vR (b + 46)), (3, vR (b + 45)), (2, vR (b + 32)), (1, vR b), (0, vR sa)] [] K
theorem x_dcmp {g : GG} {r : MR} {cn ck : Nat} {lay : Lay} {M : Mem} {pc : Nat} {L : List (Nat × AV)} {st : List AV} {K : KK} {x y : UInt64} {op : CmpOp} (hd : decode r.2.1 pc = .ok (.dcmp op, 1)) (k : X g r cn ck lay M (pc + 1) L (vI (Op.cmpValue (FP.dcmp x y) op).toInt :: st) K) : X g r cn ck lay M pc L (vD y :: vD x :: st) K := by
  have e : Int32.ofInt (Op.cmpValue (FP.dcmp x y) op).toInt = Op.cmpValue (FP.dcmp x y) op := Int32.ofInt_toInt _
  exact X.lift (fun hx hb w => lv_dcmp hx hb hd (by rw [← e]; exact w)) k
