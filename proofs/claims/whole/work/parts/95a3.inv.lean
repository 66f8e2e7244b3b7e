/-! the state of the two objects as mathematics: the text, the kinds (parts and text), the row, the sets, the sentence -/
abbrev Ab : Type := List Nat × (Nat → List Nd × List Nat) × List (List Nd) × (Nat → Nat) × List Nat
def mc (s : Nat) : Int := if s = 8 then 47 else if s = 9 then 92 else if s = 10 then 42 else (s : Int)
/-- the model's copy i of a KIND's parts -/
def MK (σ : Sg) (i : Nat) (N : List Nd) : Prop := σ.2.1 70 i = (N.length : Int) ∧ ∀ k, k < N.length → σ.2.1 71 (23 * i + k) = mc (nd N k).1 ∧ σ.2.1 72 (23 * i + k) = ((nd N k).2.1 : Int) ∧ σ.2.1 73 (23 * i + k) = ((nd N k).2.2 : Int)
/-- a KIND's text and letters there -/
def MX (σ : Sg) (i : Nat) (q : List Nd × List Nat) : Prop := σ.2.1 69 i = (q.2.length : Int) ∧ (∀ k, k < q.2.length → σ.2.1 68 (80 * i + k) = (q.2.getD k 0 : Int)) ∧ σ.2.1 75 i = ((ltr q.1).length : Int) ∧ ∀ k, k < (ltr q.1).length → σ.2.1 74 (12 * i + k) = (ltr q.1).getD k 0
def MT (σ : Sg) (t : List Nat) : Prop := σ.2.1 60 2 = (t.length : Int) ∧ ∀ k, k < t.length → σ.2.1 61 k = (t.getD k 0 : Int)
/-- the table of what was asked, as 'begins' finds it: places not among the used ones hold NONE -/
def MB (σ : Sg) : Prop := ∃ n : Nat, n ≤ 20000 ∧ σ.2.1 60 33 = (n : Int) ∧ (∀ k, k < n → 0 ≤ σ.2.1 93 k ∧ σ.2.1 93 k < 65536) ∧ ∀ h : Nat, h < 65536 → (∀ k, k < n → σ.2.1 93 k ≠ (h : Int)) → σ.2.1 92 h = -9
def MP (σ : Sg) (f : Nat → List Nd × List Nat) : Prop := ∀ i, i < 12 → MK σ i (f i).1 ∧ MX σ i (f i)
def MR (σ : Sg) (R : List (List Nd)) : Prop := σ.2.1 60 17 = (R.length : Int) ∧ ∀ p, p < R.length → MK σ (12 + p) (R.getD p [])
def MS (σ : Sg) (f : Nat → Nat) : Prop := ∀ w, w < 4 → σ.2.1 77 w = (f w : Int)
def ML (σ : Sg) (L : List Nat) : Prop := σ.2.1 60 22 = (L.length : Int) ∧ ∀ k, k < L.length → σ.2.1 78 k = (L.getD k 0 : Int)
def MInv (σ : Sg) (S : Ab) : Prop := MT σ S.1 ∧ MP σ S.2.1 ∧ MR σ S.2.2.1 ∧ MS σ S.2.2.2.1 ∧ ML σ S.2.2.2.2 ∧ MB σ
/-- a set's KINDS -/
def ones12 (s : Nat) : Nat := sm 12 (fun k => s / 2 ^ k % 2)
def SInv (S : Ab) : Prop := S.1.length ≤ 80 ∧ (∀ c ∈ S.1, c < 256) ∧ (∀ i, i < 12 → WN (S.2.1 i).1 ∧ (S.2.1 i).2.length ≤ 80 ∧ (S.2.1 i).2 = prt (S.2.1 i).1 ((S.2.1 i).1.length - 1)) ∧ (S.2.2.1.length ≤ 8 ∧ ∀ N ∈ S.2.2.1, WN N) ∧ (∀ w, w < 4 → S.2.2.2.1 w < 4096 ∧ ones12 (S.2.2.2.1 w) ≤ 3) ∧ S.2.2.2.2.length ≤ 6 ∧ ∀ w ∈ S.2.2.2.2, w < 4
