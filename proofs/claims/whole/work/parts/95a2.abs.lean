/-! what a KIND is here: the list of its parts in the order of the text, parts ahead of their whole; (0 .. 7, 0, 0) an atom, (8 / 9 / 10, left part, right part) the signs / \ * -/
abbrev Nd : Type := Nat × Nat × Nat
def nd (N : List Nd) (k : Nat) : Nd := N.getD k (0, 0, 0)
/-- a value of part k, by the values of its parts -/
def evf {α : Type} (N : List Nd) (at0 : Nat → α) (op : Nat → α → α → α) : Nat → Nat → α
  | 0, _ => at0 0
  | f + 1, k => if (nd N k).1 < 8 then at0 (nd N k).1 else op (nd N k).1 (evf N at0 op f (nd N k).2.1) (evf N at0 op f (nd N k).2.2)
def ev {α : Type} (N : List Nd) (at0 : Nat → α) (op : Nat → α → α → α) (k : Nat) : α := evf N at0 op (k + 1) k
/-- how many parts a part has, itself too -/
def szN (N : List Nd) (k : Nat) : Nat := ev N (fun _ => 1) (fun _ a b => a + b + 1) k
/-- a whole KIND: each part is an atom, or a sign whose right part stands just ahead of it and whose left part just ahead of that one's parts; the last part is all of it; 12 atoms at most -/
def WN (N : List Nd) : Prop := N ≠ [] ∧ (∀ k, k < N.length → ((nd N k).1 < 8 ∧ (nd N k).2 = (0, 0)) ∨ ((8 ≤ (nd N k).1 ∧ (nd N k).1 ≤ 10) ∧ (nd N k).2.2 + 1 = k ∧ (nd N k).2.1 + 1 + szN N (nd N k).2.2 = k)) ∧ szN N (N.length - 1) = N.length ∧ N.length ≤ 23
theorem evf_up {α : Type} {N : List Nd} {at0 : Nat → α} {op : Nat → α → α → α} (h : ∀ k, k < N.length → (nd N k).1 < 8 ∨ ((nd N k).2.1 < k ∧ (nd N k).2.2 < k)) : ∀ (f k : Nat), k < N.length → k < f → evf N at0 op f k = ev N at0 op k := by
  intro f k
  induction k using Nat.strongRecOn generalizing f with
  | ind k ih =>
    intro hk hf
    unfold ev
    match f, hf with
    | f + 1, hf =>
      show (if _ then _ else _) = (if _ then _ else _)
      by_cases h8 : (nd N k).1 < 8
      · rw [if_pos h8, if_pos h8]
      · rw [if_neg h8, if_neg h8]
        rcases h k hk with h1 | ⟨h1, h2⟩
        · exact absurd h1 h8
        · rw [ih _ h1 f (by omega) (by omega), ih _ h2 f (by omega) (by omega), ih _ h1 k (by omega) (by omega), ih _ h2 k (by omega) (by omega)]
theorem WN.lt {N : List Nd} (h : WN N) : ∀ k, k < N.length → (nd N k).1 < 8 ∨ ((nd N k).2.1 < k ∧ (nd N k).2.2 < k) := by
  intro k hk
  rcases h.2.1 k hk with h1 | ⟨-, h2, h3⟩
  · exact Or.inl h1.1
  · exact Or.inr ⟨by omega, by omega⟩
theorem ev_at {α : Type} {N : List Nd} {at0 : Nat → α} {op : Nat → α → α → α} {k : Nat} (h8 : (nd N k).1 < 8) : ev N at0 op k = at0 (nd N k).1 := by
  unfold ev
  show (if _ then _ else _) = _
  rw [if_pos h8]
theorem ev_op {α : Type} {N : List Nd} {at0 : Nat → α} {op : Nat → α → α → α} {k : Nat} (h : ∀ k, k < N.length → (nd N k).1 < 8 ∨ ((nd N k).2.1 < k ∧ (nd N k).2.2 < k)) (hk : k < N.length) (h8 : ¬ (nd N k).1 < 8) : ev N at0 op k = op (nd N k).1 (ev N at0 op (nd N k).2.1) (ev N at0 op (nd N k).2.2) := by
  rcases h k hk with h1 | ⟨h1, h2⟩
  · exact absurd h1 h8
  · conv => lhs; unfold ev
    show (if _ then _ else _) = _
    rw [if_neg h8, evf_up h k _ (by omega) (by omega), evf_up h k _ (by omega) (by omega)]
/-- numbers read off a KIND's part -/
def atN (N : List Nd) (k : Nat) : Nat := ev N (fun _ => 1) (fun _ a b => a + b) k
def sgN (N : List Nd) (k : Nat) : Nat := ev N (fun _ => 0) (fun _ a b => a + b + 1) k
def ordN (N : List Nd) (k : Nat) : Nat := ev N (fun _ => 0) (fun s a b => if s = 8 then max a (b + 1) else if s = 9 then max (a + 1) b else max a b) k
def starN (N : List Nd) (k : Nat) : Bool := ev N (fun _ => false) (fun s a b => decide (s = 10) || a || b) k
def goalN (N : List Nd) (k : Nat) : Nat := ev N (fun s => s) (fun s a b => if s = 9 then b else a) k
def balN (N : List Nd) (t : Nat) (k : Nat) : Int := ev N (fun s => if s = t then 1 else 0) (fun s a b => if s = 8 then a - b else if s = 9 then b - a else a + b) k
/-- letters, the last one first; a letter beside itself undone goes with it -/
def addL (x : Int) : List Int → List Int
  | [] => [x]
  | y :: t => if y = -x then t else x :: y :: t
def spl (N : List Nd) : Nat → Nat → Bool → List Int → List Int
  | 0, _, _, acc => acc
  | f + 1, k, und, acc =>
    if (nd N k).1 < 8 then addL (if und then -1 - ((nd N k).1 : Int) else 1 + ((nd N k).1 : Int)) acc
    else if und then spl N f (nd N k).2.1 (!decide ((nd N k).1 = 9)) (spl N f (nd N k).2.2 (!decide ((nd N k).1 = 8)) acc)
    else spl N f (nd N k).2.2 (decide ((nd N k).1 = 8)) (spl N f (nd N k).2.1 (decide ((nd N k).1 = 9)) acc)
def ltr (N : List Nd) : List Int := (spl N 24 (N.length - 1) false []).reverse
/-- the text of a part -/
def mcn (s : Nat) : Nat := if s = 8 then 47 else if s = 9 then 92 else 42
def prt (N : List Nd) (k : Nat) : List Nat := ev N (fun s => [97 + s]) (fun s a b => 40 :: (a ++ (mcn s :: (b ++ [41])))) k
