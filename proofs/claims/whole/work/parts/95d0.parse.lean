/-! reading a text, as both objects do it: the parts by now, what is open (sign by now or 0, first part), whether a KIND is wanted -/
abbrev Pz : Type := List Nd × List (Nat × Nat) × Bool
def atoms (N : List Nd) : Nat := (N.filter (fun q => decide (q.1 < 8))).length
def sgnOf (c : Nat) : Nat := if c = 47 then 8 else if c = 92 then 9 else if c = 42 then 10 else 0
def stepP (c : Nat) (z : Pz) : Option Pz :=
  if z.2.2 = true then
    if c = 40 then (if z.2.1.length < 6 then some (z.1, (0, 0) :: z.2.1, true) else none)
    else if 97 ≤ c ∧ c < 105 ∧ atoms z.1 < 12 then some (z.1 ++ [(c - 97, 0, 0)], z.2.1, false) else none
  else match z.2.1 with
    | [] => none
    | (s, f) :: O =>
      if s = 0 then (if sgnOf c = 0 then none else some (z.1, (sgnOf c, z.1.length - 1) :: O, true))
      else if c = 41 then some (z.1 ++ [(s, f, z.1.length - 1)], O, false) else none
/-- the FAULT's place and, where there is none, the parts -/
def runP : List Nat → Nat → Pz → Nat × Option (List Nd)
  | [], p, z => (p, if z.2.2 = true ∨ z.2.1 ≠ [] then none else some z.1)
  | c :: t, p, z => match stepP c z with
    | none => (p, none)
    | some z2 => runP t (p + 1) z2
def readP (t : List Nat) : Nat × Option (List Nd) := runP t 0 ([], [], true)
