/-! the other object: a KIND object's cells, and the whole -/
/-- the model's cells -/
def PM (a _k : Nat) : Prop := 60 ≤ a ∧ a < 102
/-- a KIND's balances in one long, a byte an atom -/
def hs (f : Nat → Int) : Nat → Nat → Int
  | 0, _ => 0
  | n + 1, k => f k + 256 * hs f n (k + 1)
def balJ (N : List Nd) (k : Nat) : Int64 := Int64.ofInt (hs (fun t => balN N t k) 8 0)
/-- the class's goal of a part: -9 where a * stands in it -/
def clG (N : List Nd) (k : Nat) : Int := if starN N k then -9 else (goalN N k : Int)
/-- a KIND object at a (its cells a .. a + 7) holds N -/
def KN (σ : Sg) (a : Nat) (N : List Nd) : Prop := (a = 16 ∨ 102 ≤ a) ∧ (σ.2.1 a 5 = (N.length : Int) ∧ σ.2.1 a 6 = (atN N (N.length - 1) : Int) ∧ σ.2.1 a 7 = (ordN N (N.length - 1) : Int) ∧ σ.2.1 a 8 = clG N (N.length - 1) ∧ σ.2.2.1 a 9 = balJ N (N.length - 1) ∧ σ.2.1 a 11 = ((ltr N).length : Int)) ∧ (∀ k, k < N.length → σ.2.1 (a + 4) k = ((nd N k).1 : Int) ∧ σ.2.1 (a + 5) k = (if (nd N k).1 = 9 then ((nd N k).2.2 : Int) else ((nd N k).2.1 : Int)) ∧ σ.2.1 (a + 6) k = (if (nd N k).1 = 9 then ((nd N k).2.1 : Int) else ((nd N k).2.2 : Int)) ∧ σ.2.1 (a + 1) k = clG N k ∧ σ.2.2.1 (a + 2) k = balJ N k) ∧ ∀ k, k < (ltr N).length → σ.2.1 (a + 3) k = (ltr N).getD k 0
/-- the class's cells and the mathematics -/
def XT (σ : Sg) (t : List Nat) : Prop := σ.2.1 2 1 = (t.length : Int) ∧ ∀ k, k < t.length → σ.2.1 3 k = (t.getD k 0 : Int)
def XP (σ : Sg) (f : Nat → List Nd × List Nat) : Prop := ∀ i, i < 12 → KN σ (kq σ 9 i) (f i).1
def XR (σ : Sg) (R : List (List Nd)) : Prop := σ.2.1 1 3 = (R.length : Int) ∧ ∀ p, p < R.length → KN σ (kq σ 10 p) (R.getD p [])
/-- the sets; and ahead of all that is chosen the BALANCE is 0 -/
def XS (σ : Sg) (f : Nat → Nat) : Prop := (∀ w, w < 4 → σ.2.1 11 w = (f w : Int)) ∧ σ.2.2.1 47 0 = 0
def XL (σ : Sg) (L : List Nat) : Prop := σ.2.1 1 6 = (L.length : Int) ∧ ∀ k, k < L.length → σ.2.1 12 k = (L.getD k 0 : Int)
def XInv (σ : Sg) (S : Ab) : Prop := XT σ S.1 ∧ XP σ S.2.1 ∧ XR σ S.2.2.1 ∧ XS σ S.2.2.2.1 ∧ XL σ S.2.2.2.2
/-- a KIND object's cells -/
def PK (a : Nat) : Prop := (16 ≤ a ∧ a < 24) ∨ 102 ≤ a
theorem KN.eq {σ σ' : Sg} {a : Nat} {N : List Nd} (h : KN σ a N) (h1 : ∀ b k, PK b → σ'.2.1 b k = σ.2.1 b k) (h2 : ∀ b k, PK b → σ'.2.2.1 b k = σ.2.2.1 b k) : KN σ' a N := by
  have hp : ∀ j, j < 8 → PK (a + j) := fun j hj => by
    unfold PK
    rcases h.1 with e | e
    · left; omega
    · right; omega
  refine ⟨h.1, ?_, ?_, ?_⟩
  · rw [h1 a 5 (hp 0 (by omega)), h1 a 6 (hp 0 (by omega)), h1 a 7 (hp 0 (by omega)), h1 a 8 (hp 0 (by omega)), h2 a 9 (hp 0 (by omega)), h1 a 11 (hp 0 (by omega))]
    exact h.2.1
  · intro k hk
    rw [h1 (a + 4) k (hp 4 (by omega)), h1 (a + 5) k (hp 5 (by omega)), h1 (a + 6) k (hp 6 (by omega)), h1 (a + 1) k (hp 1 (by omega)), h2 (a + 2) k (hp 2 (by omega))]
    exact h.2.2.1 k hk
  · intro k hk
    rw [h1 (a + 3) k (hp 3 (by omega))]
    exact h.2.2.2 k hk
theorem XT.keep {σ σ' : Sg} {t : List Nat} (h : XT σ t) (h1 : σ'.2.1 2 1 = σ.2.1 2 1) (h2 : ∀ k, σ'.2.1 3 k = σ.2.1 3 k) : XT σ' t := ⟨by rw [h1]; exact h.1, fun k q => by rw [h2]; exact h.2 k q⟩
theorem XP.keep {σ σ' : Sg} {f : Nat → List Nd × List Nat} (h : XP σ f) (h0 : ∀ k, σ'.2.2.2 9 k = σ.2.2.2 9 k) (h1 : ∀ b k, PK b → σ'.2.1 b k = σ.2.1 b k) (h2 : ∀ b k, PK b → σ'.2.2.1 b k = σ.2.2.1 b k) : XP σ' f := fun i hi => by
  have e : kq σ' 9 i = kq σ 9 i := by unfold kq; rw [h0]
  rw [e]
  exact (h i hi).eq h1 h2
theorem XR.keep {σ σ' : Sg} {R : List (List Nd)} (h : XR σ R) (h0 : ∀ k, σ'.2.2.2 10 k = σ.2.2.2 10 k) (h3 : σ'.2.1 1 3 = σ.2.1 1 3) (h1 : ∀ b k, PK b → σ'.2.1 b k = σ.2.1 b k) (h2 : ∀ b k, PK b → σ'.2.2.1 b k = σ.2.2.1 b k) : XR σ' R := ⟨by rw [h3]; exact h.1, fun i hi => by
  have e : kq σ' 10 i = kq σ 10 i := by unfold kq; rw [h0]
  rw [e]
  exact (h.2 i hi).eq h1 h2⟩
theorem XS.keep {σ σ' : Sg} {f : Nat → Nat} (h : XS σ f) (h1 : ∀ k, σ'.2.1 11 k = σ.2.1 11 k) (h2 : σ'.2.2.1 47 0 = σ.2.2.1 47 0 := by rfl) : XS σ' f := ⟨fun k q => by rw [h1]; exact h.1 k q, h2.trans h.2⟩
theorem XL.keep {σ σ' : Sg} {t : List Nat} (h : XL σ t) (h1 : σ'.2.1 1 6 = σ.2.1 1 6) (h2 : ∀ k, σ'.2.1 12 k = σ.2.1 12 k) : XL σ' t := ⟨by rw [h1]; exact h.1, fun k q => by rw [h2]; exact h.2 k q⟩
theorem XInv.fr {σ σ' : Sg} {S : Ab} (h : XInv σ S) (f : Fr PM σ σ') : XInv σ' S := by
  have hi : ∀ a k, ¬ PM a k → σ'.2.1 a k = σ.2.1 a k := f.2.2.1
  have hk : ∀ b k, PK b → σ'.2.1 b k = σ.2.1 b k := fun b k hb => hi b k (fun g => by unfold PK at hb; unfold PM at g; omega)
  have hj : ∀ b k, PK b → σ'.2.2.1 b k = σ.2.2.1 b k := fun b k hb => f.2.2.2 b k (fun g => by unfold PK at hb; unfold PM at g; omega)
  have n : ∀ a k, a < 60 → σ'.2.1 a k = σ.2.1 a k := fun a k ha => hi a k (fun g => by unfold PM at g; omega)
  have hq : ∀ a k, σ'.2.2.2 a k = σ.2.2.2 a k := fun a k => by rw [f.2.1]
  exact ⟨h.1.keep (n _ _ (by omega)) (fun k => n _ _ (by omega)), h.2.1.keep (hq 9) hk hj, h.2.2.1.keep (hq 10) (n _ _ (by omega)) hk hj, h.2.2.2.1.keep (fun k => n _ _ (by omega)) (f.2.2.2 47 0 (fun g => by unfold PM at g; omega)), h.2.2.2.2.keep (n _ _ (by omega)) (fun k => n _ _ (by omega))⟩
/-- the model's cells that the mathematics looks at -/
def PC (a k : Nat) : Prop := (a = 60 ∧ (k = 2 ∨ k = 17 ∨ k = 22 ∨ k = 33)) ∨ a = 61 ∨ (68 ≤ a ∧ a ≤ 75) ∨ a = 77 ∨ a = 78 ∨ a = 92 ∨ a = 93
theorem MT.keep {σ σ' : Sg} {t : List Nat} (h : MT σ t) (h1 : σ'.2.1 60 2 = σ.2.1 60 2) (h2 : ∀ k, σ'.2.1 61 k = σ.2.1 61 k) : MT σ' t := ⟨by rw [h1]; exact h.1, fun k q => by rw [h2]; exact h.2 k q⟩
theorem MK.keep {σ σ' : Sg} {i : Nat} {N : List Nd} (h : MK σ i N) (h1 : ∀ a k, (70 ≤ a ∧ a ≤ 73) → σ'.2.1 a k = σ.2.1 a k) : MK σ' i N := by
  refine ⟨?_, fun k hk => ?_⟩
  · rw [h1 70 i (by omega)]; exact h.1
  · rw [h1 71 _ (by omega), h1 72 _ (by omega), h1 73 _ (by omega)]; exact h.2 k hk
theorem MP.keep {σ σ' : Sg} {f : Nat → List Nd × List Nat} (h : MP σ f) (h1 : ∀ a k, (68 ≤ a ∧ a ≤ 75) → σ'.2.1 a k = σ.2.1 a k) : MP σ' f := fun i hi => ⟨(h i hi).1.keep (fun a k q => h1 a k (by omega)), by
  have h2 := (h i hi).2
  refine ⟨?_, fun k hk => ?_, ?_, fun k hk => ?_⟩
  · rw [h1 69 i (by omega)]; exact h2.1
  · rw [h1 68 _ (by omega)]; exact h2.2.1 k hk
  · rw [h1 75 i (by omega)]; exact h2.2.2.1
  · rw [h1 74 _ (by omega)]; exact h2.2.2.2 k hk⟩
theorem MR.keep {σ σ' : Sg} {R : List (List Nd)} (h : MR σ R) (h0 : σ'.2.1 60 17 = σ.2.1 60 17) (h1 : ∀ a k, (70 ≤ a ∧ a ≤ 73) → σ'.2.1 a k = σ.2.1 a k) : MR σ' R := ⟨by rw [h0]; exact h.1, fun p q => (h.2 p q).keep h1⟩
theorem MS.keep {σ σ' : Sg} {f : Nat → Nat} (h : MS σ f) (h1 : ∀ k, σ'.2.1 77 k = σ.2.1 77 k) : MS σ' f := fun k q => by rw [h1]; exact h k q
theorem ML.keep {σ σ' : Sg} {t : List Nat} (h : ML σ t) (h1 : σ'.2.1 60 22 = σ.2.1 60 22) (h2 : ∀ k, σ'.2.1 78 k = σ.2.1 78 k) : ML σ' t := ⟨by rw [h1]; exact h.1, fun k q => by rw [h2]; exact h.2 k q⟩
theorem MB.keep {σ σ' : Sg} (h : MB σ) (h0 : σ'.2.1 60 33 = σ.2.1 60 33) (h1 : ∀ k, σ'.2.1 93 k = σ.2.1 93 k) (h2 : ∀ k, σ'.2.1 92 k = σ.2.1 92 k) : MB σ' := by
  obtain ⟨n, e1, e2, e3, e4⟩ := h
  refine ⟨n, e1, ?_, fun k hk => ?_, fun z hz hn => ?_⟩
  · rw [h0]; exact e2
  · rw [h1]; exact e3 k hk
  · rw [h2]
    exact e4 z hz (fun k hk => by have := hn k hk; rwa [h1] at this)
theorem MInv.eq {σ σ' : Sg} {S : Ab} (h : MInv σ S) (h1 : ∀ a k, PC a k → σ'.2.1 a k = σ.2.1 a k) : MInv σ' S :=
  ⟨h.1.keep (h1 _ _ (by unfold PC; omega)) (fun k => h1 _ _ (by unfold PC; omega)), h.2.1.keep (fun a k q => h1 a k (by unfold PC; omega)), h.2.2.1.keep (h1 _ _ (by unfold PC; omega)) (fun a k q => h1 a k (by unfold PC; omega)), h.2.2.2.1.keep (fun k => h1 _ _ (by unfold PC; omega)), h.2.2.2.2.1.keep (h1 _ _ (by unfold PC; omega)) (fun k => h1 _ _ (by unfold PC; omega)), h.2.2.2.2.2.keep (h1 _ _ (by unfold PC; omega)) (fun k => h1 _ _ (by unfold PC; omega)) (fun k => h1 _ _ (by unfold PC; omega))⟩
theorem PC.pm {a k : Nat} (h : PC a k) : PM a k := by
  unfold PC at h
  unfold PM
  omega
/-- the cells that no call but a search touches, and the model's -/
def PU (a : Nat) : Prop := 31 ≤ a ∧ a < 102
theorem PM.pu {a k : Nat} (h : PM a k) : PU a := by
  unfold PM at h
  unfold PU
  omega
/-- the numbers of the questions by now: each call asks less than 200000 -/
def QNo (n : Nat) (σ : Sg) : Prop := ∃ q : Nat, σ.2.1 31 3 = (q : Int) ∧ q ≤ n * 200000 ∧ ∀ s, s < 1024 → 0 ≤ σ.2.1 34 s ∧ σ.2.1 34 s ≤ (q : Int)
theorem QNo.keep {n m : Nat} {σ σ' : Sg} (h : QNo n σ) (hm : n ≤ m) (h1 : σ'.2.1 31 3 = σ.2.1 31 3) (h2 : ∀ s, σ'.2.1 34 s = σ.2.1 34 s) : QNo m σ' := by
  obtain ⟨q, e1, e2, e3⟩ := h
  exact ⟨q, by rw [h1]; exact e1, Nat.le_trans e2 (Nat.mul_le_mul_right _ hm), fun s hs => by rw [h2]; exact e3 s hs⟩
/-- one step of either side: the abstract step op with the answer v, where pre holds -/
def SX (CX : Sg → (Int → Sg → Prop) → Prop) (op : Ab → Ab) (v : Ab → Int) : Prop := ∀ (σ : Sg) (S : Ab) (Q : Int → Sg → Prop), XInv σ S → SInv S → (∀ (r : Int) (σ1 : Sg), wr r = wr (v S) → XInv σ1 (op S) → (∀ a k, PU a → σ1.2.1 a k = σ.2.1 a k) → Q r σ1) → CX σ Q
def SM (CM : Sg → (Int → Sg → Prop) → Prop) (op : Ab → Ab) (v : Ab → Int) : Prop := ∀ (σ : Sg) (S : Ab) (Q : Int → Sg → Prop), MInv σ S → SInv S → (∀ (r : Int) (σ1 : Sg), wr r = wr (v S) → MInv σ1 (op S) → Fr PM σ σ1 → Q r σ1) → CM σ Q
def SXq (CX : Sg → (Int → Sg → Prop) → Prop) (op : Ab → Ab) (v : Ab → Int) : Prop := ∀ (n : Nat) (σ : Sg) (S : Ab) (Q : Int → Sg → Prop), n < 512 → XInv σ S → SInv S → QNo n σ → (∀ (r : Int) (σ1 : Sg), wr r = wr (v S) → XInv σ1 (op S) → QNo (n + 1) σ1 → (∀ a k, PM a k → σ1.2.1 a k = σ.2.1 a k) → Q r σ1) → CX σ Q
def Inv2 (n : Nat) (σ : Sg) : Prop := (∃ S : Ab, SInv S ∧ XInv σ S ∧ MInv σ S) ∧ QNo n σ
theorem Inv2.mono (n : Nat) (σ : Sg) (h : Inv2 n σ) : Inv2 (n + 1) σ := ⟨h.1, h.2.keep (Nat.le_succ n) rfl (fun _ => rfl)⟩
theorem Pair.of {CX CM : Sg → (Int → Sg → Prop) → Prop} {op : Ab → Ab} {v : Ab → Int} (hx : SX CX op v) (hm : SM CM op v) (hs : ∀ S, SInv S → SInv (op S)) : Pair Inv2 CX CM := by
  rintro n σ Q hn ⟨⟨S, hS, hX, hM⟩, hq⟩ k
  exact hx σ S Q hX hS (fun r σ1 e1 hX1 f1 => k r σ1 (fun Q2 k2 => hm σ1 S Q2 (hM.eq (fun a j h => f1 a j h.pm.pu)) hS (fun r2 σ2 e2 hM2 f2 => k2 r2 σ2 (e1.trans e2.symm) ⟨⟨op S, hs S hS, hX1.fr f2, hM2⟩, hq.keep (Nat.le_succ n) (by rw [f2.2.2.1 31 3 (by unfold PM; omega), f1 31 3 (by unfold PU; omega)]) (fun s => by rw [f2.2.2.1 34 s (by unfold PM; omega), f1 34 s (by unfold PU; omega)])⟩)))
theorem Pair.ofq {CX CM : Sg → (Int → Sg → Prop) → Prop} {op : Ab → Ab} {v : Ab → Int} (hx : SXq CX op v) (hm : SM CM op v) (hs : ∀ S, SInv S → SInv (op S)) : Pair Inv2 CX CM := by
  rintro n σ Q hn ⟨⟨S, hS, hX, hM⟩, hq⟩ k
  exact hx n σ S Q hn hX hS hq (fun r σ1 e1 hX1 hq1 f1 => k r σ1 (fun Q2 k2 => hm σ1 S Q2 (hM.eq (fun a j h => f1 a j h.pm)) hS (fun r2 σ2 e2 hM2 f2 => k2 r2 σ2 (e1.trans e2.symm) ⟨⟨op S, hs S hS, hX1.fr f2, hM2⟩, hq1.keep (Nat.le_refl _) (f2.2.2.1 31 3 (by unfold PM; omega)) (fun s => f2.2.2.1 34 s (by unfold PM; omega))⟩)))
