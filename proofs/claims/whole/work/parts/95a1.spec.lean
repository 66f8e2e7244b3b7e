/-! what is counted: the proofs of a row (pf), the meanings of a row (mf, us), over any table of parts (sg: 0 .. 7 an atom, 8 X / Y, 9 Y \ X, 10 X * Y; lf, rt: the parts as they stand in the text) -/
def sm : Nat → (Nat → Nat) → Nat
  | 0, _ => 0
  | n + 1, f => sm n f + f n
theorem sm_congr {f g : Nat → Nat} : ∀ {n : Nat}, (∀ k, k < n → f k = g k) → sm n f = sm n g
  | 0, _ => rfl
  | n + 1, h => by
    show sm n f + f n = sm n g + g n
    rw [sm_congr (fun k hk => h k (by omega)), h n (by omega)]
theorem sm_zero {f : Nat → Nat} {n : Nat} (h : ∀ k, k < n → f k = 0) : sm n f = 0 := by
  rw [sm_congr (g := fun _ => 0) h]
  induction n with
  | zero => rfl
  | succ n ih =>
    show sm n _ + 0 = 0
    rw [ih (fun k hk => h k (by omega))]
theorem sm_pos {f : Nat → Nat} : ∀ {n : Nat}, 0 < sm n f ↔ ∃ k, k < n ∧ 0 < f k
  | 0 => ⟨fun h => absurd h (Nat.lt_irrefl 0), fun ⟨k, hk, _⟩ => absurd hk (by omega)⟩
  | n + 1 => by
    show 0 < sm n f + f n ↔ _
    have ih := sm_pos (f := f) (n := n)
    constructor
    · intro h
      by_cases h1 : 0 < f n
      · exact ⟨n, by omega, h1⟩
      · obtain ⟨k, hk, h2⟩ := ih.mp (by omega)
        exact ⟨k, by omega, h2⟩
    · rintro ⟨k, hk, h2⟩
      by_cases e : k = n
      · subst e; omega
      · have := ih.mpr ⟨k, by omega, h2⟩
        omega
section SPEC
variable (sg lf rt : Nat → Nat) (full : Bool)
def pf : Nat → List Nat → Nat → Nat
  | 0, _, _ => 0
  | f + 1, Γ, g => if full = true ∧ Γ = [] then 0 else
      (if sg g = 8 then pf f (Γ ++ [rt g]) (lf g)
        else if sg g = 9 then pf f (lf g :: Γ) (rt g)
        else if sg g = 10 then sm (Γ.length + 1) (fun k => pf f (Γ.take k) (lf g) * pf f (Γ.drop k) (rt g))
        else if Γ.length = 1 ∧ sg (Γ.getD 0 0) = sg g then 1 else 0)
      + sm Γ.length (fun p =>
          if sg (Γ.getD p 0) = 8 then sm (Γ.length - p) (fun d => pf f ((Γ.drop (p + 1)).take d) (rt (Γ.getD p 0)) * pf f (Γ.take p ++ lf (Γ.getD p 0) :: Γ.drop (p + 1 + d)) g)
          else if sg (Γ.getD p 0) = 9 then sm (p + 1) (fun d => pf f ((Γ.take p).drop (p - d)) (lf (Γ.getD p 0)) * pf f (Γ.take (p - d) ++ rt (Γ.getD p 0) :: Γ.drop (p + 1)) g)
          else if sg (Γ.getD p 0) = 10 then pf f (Γ.take p ++ lf (Γ.getD p 0) :: rt (Γ.getD p 0) :: Γ.drop (p + 1)) g
          else 0)
/-- the atom left at the end -/
def gl : Nat → Nat → Nat
  | 0, a => sg a
  | f + 1, a => if sg a = 8 then gl f (lf a) else if sg a = 9 then gl f (rt a) else sg a
/-- a head, used up: the ways from node, which has from .. to by now, with 'm' the ways of what is wanted -/
def us (m : List Nat → Nat → Nat) : Nat → List Nat → Nat → Nat → Nat → Nat
  | 0, _, _, _, _ => 0
  | f + 1, Γ, a, i, j =>
    if sg a = 8 then sm (Γ.length + 1 - j) (fun d => m ((Γ.drop j).take d) (rt a) * us m f Γ (lf a) i (j + d))
    else if sg a = 9 then sm (i + 1) (fun d => m ((Γ.take i).drop (i - d)) (lf a) * us m f Γ (rt a) (i - d) j)
    else if i = 0 ∧ j = Γ.length then 1 else 0
def mf (gt : Nat → Nat) : Nat → List Nat → Nat → Nat
  | 0, _, _ => 0
  | f + 1, Γ, g => if full = true ∧ Γ = [] then 0 else
      if sg g = 8 then mf gt f (Γ ++ [rt g]) (lf g)
      else if sg g = 9 then mf gt f (lf g :: Γ) (rt g)
      else sm Γ.length (fun h => if gt (Γ.getD h 0) = sg g then us sg lf rt (mf gt f) (f + 1) Γ (Γ.getD h 0) h (h + 1) else 0)
end SPEC
