/-! Rows of the reference: definitions alone. -/
def pB (n : Nat) : Int := 1000000000 ^ n
theorem sg3 {x : Int} : sg x = 1 ∨ sg x = -1 ∨ sg x = 0 := by unfold sg; split <;> (try split) <;> omega

def mder (f : Nat → Int) (n : Nat) : Nat → Int := fun p => if p < n then f (p + 1) * ((p : Int) + 1) else 0
/-- the top coefficient taken out -/
def mcan (e : Nat → Int) (low top : Nat) (w : Nat → Int) : Nat → Int := fun p =>
  if p < top then w p * ab (e low) + (if top ≤ p + low then (if 0 < e low then - (w top * e (p + low - top)) else w top * e (p + low - top)) else 0) else if p = top then 0 else w p
def mcOK (e : Nat → Int) (low top : Nat) (w : Nat → Int) : Prop := ∀ p, p < top → ab (w p) * ab (e low) < pB 31 ∧ (top ≤ p + low → ab (w top) * ab (e (p + low - top)) < pB 31 ∧ ab (w p) * ab (e low) + ab (w top) * ab (e (p + low - top)) < pB 31)
def mdivL (e : Nat → Int) (low : Nat) : Nat → Nat → (Nat → Int) → Nat → Int
  | 0, _, w => w
  | k + 1, top, w => mdivL e low k (top - 1) (mcan e low top w)
def mdivLOK (e : Nat → Int) (low : Nat) : Nat → Nat → (Nat → Int) → Prop
  | 0, _, _ => True
  | k + 1, top, w => mcOK e low top w ∧ mdivLOK e low k (top - 1) (mcan e low top w)
def mdivR (s : RS) : Nat → Int := fun p => - mdivL (s.2.1 (s.1 - 1)) (s.2.2 (s.1 - 1)) (s.2.2 (s.1 - 2) + 1 - s.2.2 (s.1 - 1)) (s.2.2 (s.1 - 2)) (s.2.1 (s.1 - 2)) p
def mNext (s : RS) : RS := (s.1 + 1, fun k => if k = s.1 then mdivR s else s.2.1 k, fun k => if k = s.1 then topW (mdivR s) 9 - 1 else s.2.2 k)
def mLoop : Nat → RS → RS
  | 0, s => s
  | n + 1, s => if s.2.2 (s.1 - 1) = 0 ∨ topW (mdivR s) 9 = 0 then s else mLoop n (mNext s)
def mStepOK (s : RS) : Prop := mdivLOK (s.2.1 (s.1 - 1)) (s.2.2 (s.1 - 1)) (s.2.2 (s.1 - 2) + 1 - s.2.2 (s.1 - 1)) (s.2.2 (s.1 - 2)) (s.2.1 (s.1 - 2)) ∧ s.2.2 (s.1 - 1) ≤ s.2.2 (s.1 - 2) ∧ s.2.2 (s.1 - 2) < 9
def mLoopOK : Nat → RS → Prop
  | 0, s => s.2.2 (s.1 - 1) = 0
  | n + 1, s => s.2.2 (s.1 - 1) = 0 ∨ (mStepOK s ∧ (topW (mdivR s) 9 = 0 ∨ mLoopOK n (mNext s)))
def mTwo (f : Nat → Int) : RS := (2, fun k => if k = 0 then f else mder f (topW f 9 - 1), fun k => if k = 0 then topW f 9 - 1 else topW f 9 - 2)
def mRows (f : Nat → Int) : RS := if topW f 9 = 0 then (0, fun _ => f, fun _ => 0) else if topW f 9 = 1 then (1, fun _ => f, fun _ => 0) else mLoop 4 (mTwo f)
def mRowsOK (f : Nat → Int) : Prop := (∀ p, p < 9 → ab (f p) ≤ pB 30) ∧ (1 < topW f 9 → mLoopOK 4 (mTwo f))
/-- a row that can be told near a point; its top coefficient is not 0 -/
def okM (f : Nat → Int) (d : Nat) : Prop := d ≤ 4 ∧ f d ≠ 0 ∧ ∃ B : Int, 0 ≤ B ∧ B * 3125 * 2048 ^ d < pB 31 ∧ ∀ i, i ≤ d → -B ≤ f i ∧ f i ≤ B
def WfM (s : RS) : Prop := s.1 ≤ 5 ∧ ∀ k, k < s.1 → okM (s.2.1 k) (s.2.2 k)
theorem pw_pos {n : Int} (hn : 1 ≤ n) (k : Nat) : (1 : Int) ≤ n ^ k := by
  induction k with
  | zero => simp
  | succ k ih =>
    rw [Int.pow_succ]
    have := Int.mul_le_mul_of_nonneg_right ih (show 0 ≤ n by omega)
    omega
theorem pw_le {n : Int} (hn : 1 ≤ n) {j k : Nat} (h : j ≤ k) : n ^ j ≤ n ^ k := by
  obtain ⟨m, rfl⟩ := Nat.exists_eq_add_of_le h
  rw [Int.pow_add]
  have h1 := pw_pos hn j
  have h2 := Int.mul_le_mul_of_nonneg_left (pw_pos hn m) (show 0 ≤ n ^ j by omega)
  omega
def mSg (s : RS) (x : Int) (p : Nat) (y : Int) : Nat → Int := fun q => if y = 1 then sgnUp (s.2.1 q) (s.2.2 q) x p else sg (hor x (fun i => s.2.1 q i * 2 ^ (p * (s.2.2 q - i))) (s.2.2 q) (s.2.2 q))
def mCh (s : RS) (x : Int) (p : Nat) (y : Int) : Int := (chZ (mSg s x p y) s.1).1
def eSg (s : RS) (y : Int) : Nat → Int := fun q => sg (s.2.1 q (s.2.2 q)) * (if y = 0 ∧ s.2.2 q % 2 = 1 then -1 else 1)
def endF (s : RS) (y : Int) : Int := (chZ (eSg s y) s.1).1
def mAll (s : RS) : Int := if s.1 = 0 then -1 else endF s 0 - endF s 1
theorem upS_3 (x : Int) (d : Nat) : ∀ (k low : Nat) (w : Nat → Int), upS x d k low w = 1 ∨ upS x d k low w = -1 ∨ upS x d k low w = 0
  | 0, _, _ => Or.inr (Or.inr rfl)
  | k + 1, low, w => by
    simp only [upS]
    split
    · exact sg3
    · exact upS_3 x d k _ _
/-- all rows can be made, and are such that they can be told near a point -/
def GoodM : Prop := ∀ P, WfP P → mRowsOK P ∧ WfM (mRows P)

/-- the reference's rows tell what the class's rows tell -/
def SameQ (s t : RS) : Prop := s.1 = t.1 ∧ (∀ x, -20 ≤ x → x ≤ 20 → mCh s x 0 1 = cUp t x 0) ∧ mAll s = allD t
def GoodE : Prop := ∀ P, WfP P → SameQ (mRows P) (buildF P)
/-- a coefficient of a derivative -/
def fallF (p : Int) : Nat → Int
  | 0 => 1
  | k + 1 => fallF p k * (p - k)
def derAt (P : Nat → Int) (q : Nat) (x : Int) : Nat → Int
  | 0 => 0
  | n + 1 => if 4 - n < q then derAt P q x n else derAt P q x n * x + P (4 - n) * fallF ((4 - n : Nat) : Int) q
def derV (P : Nat → Int) (q : Nat) (x : Int) : Int := derAt P q x 5
def secF (P : Nat → Int) (x : Int) : Int := (chZ (fun k => sg (derV P k x)) (degF P 5 + 1).toNat).1
def nearL (f : Int → Int) (i : Int) : Nat → Int → Int → Int
  | 0, lo, _ => lo
  | n + 1, lo, hi => if hi - lo ≤ 1 then lo else if i < f ((lo + hi) / 2) then nearL f i n lo ((lo + hi) / 2) else nearL f i n ((lo + hi) / 2) hi
def mNear (s : RS) (i : Int) (p : Nat) : Int := nearL (fun m => endF s 0 - mCh s m p 1) i 13 (-(32 * 2 ^ p)) (32 * 2 ^ p)
def mTimesOK : Nat → RS → Prop
  | 0, _ => False
  | n + 1, s => WfM s ∧ 0 < s.1 ∧ (s.2.2 (s.1 - 1) = 0 ∨ (mRowsOK (s.2.1 (s.1 - 1)) ∧ mTimesOK n (mRows (s.2.1 (s.1 - 1)))))
def mTimes (a b : Int) : Nat → RS → Int
  | 0, _ => 0
  | n + 1, s => (mCh s a 0 1 - mCh s b 0 1) + (if s.2.2 (s.1 - 1) = 0 then 0 else mTimes a b n (mRows (s.2.1 (s.1 - 1))))
/-- the rest of what the reference's rows and the class's rows tell alike -/
def SameF (P : Nat → Int) : Prop :=
  (∀ k, k < (buildF P).1 → (mRows P).2.2 k = (buildF P).2.2 k) ∧
  (∀ k x, k < (buildF P).1 → -20 ≤ x → x ≤ 20 → sg (hor x (fun i => (mRows P).2.1 k i * 2 ^ (0 * ((mRows P).2.2 k - i))) ((mRows P).2.2 k) ((mRows P).2.2 k)) = sg (valF ((buildF P).2.1 k) x 5)) ∧
  (∀ x, -20 ≤ x → x ≤ 20 → mCh (mRows P) x 0 0 = (chZ (fun q => sg (valF ((buildF P).2.1 q) x 5)) (buildF P).1).1) ∧
  (endF (mRows P) 0 = cUp (buildF P) (-31) 0 ∧ endF (mRows P) 1 = cUp (buildF P) 31 0) ∧
  (∀ i p, 0 ≤ i → i < allD (buildF P) → p ≤ 6 → mNear (mRows P) i p = belowF (buildF P) i p) ∧
  (0 < (buildF P).1 → mTimesOK 5 (mRows P) ∧ ∀ a b, -20 ≤ a → a < b → b ≤ 20 → mTimes a b 5 (mRows P) = cntF a b 5 (buildF P)) ∧
  ((buildF P).1 = 0 ↔ degF P 5 < 0) ∧
  (∀ x, -20 ≤ x → x ≤ 20 → secF P x = (chZ (fun i => sg (shP P x i)) 5).1) ∧
  (∀ x, -20 ≤ x → x ≤ 20 → ∀ q, q < 5 → (derV P q x = 0 ↔ shP P x q = 0)) ∧
  (0 < (buildF P).1 → 0 ≤ allD (buildF P)) ∧
  (∀ x, -20 ≤ x → x ≤ 20 → (degF P 5 < 0 ↔ ∀ q, q < 5 → shP P x q = 0))
def GoodF : Prop := ∀ P, WfP P → SameF P

/-- all that is left to be shown of polynomials -/
def GoodA : Prop := GoodB ∧ (∀ P, WfP P → cntOK 5 (buildF P)) ∧ GoodM ∧ GoodE ∧ GoodF
