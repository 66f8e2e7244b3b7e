/-! how many meanings there can be: fewer than the modulus -/
def SBl : List Nat := [1, 1, 3, 14, 85, 621, 5236, 49680]
def SB (n : Nat) : Nat := SBl.getD n 0
def wB (n : Nat) : Nat := n * SB (n - 1)
theorem SB_sum {r : Nat} (h : r ≤ 7) : sm (r + 1) (fun t => wB t * SB (r - t)) ≤ SB r := by
  have : ∀ r, r < 8 → sm (r + 1) (fun t => wB t * SB (r - t)) ≤ SB r := by decide +kernel
  exact this r (by omega)
theorem wB_lt {n : Nat} (h : n ≤ 8) : wB n < 1000000007 := by
  have : ∀ n, n < 9 → wB n < 1000000007 := by decide +kernel
  exact this n (by omega)
/-- a sum over rising places -/
theorem sm_sub {T e : Nat → Nat} : ∀ n E, (∀ d d', d < d' → d' < n → e d < e d') → (∀ d, d < n → e d < E) → sm n (fun d => T (e d)) ≤ sm E T
  | 0, E, _, _ => Nat.zero_le _
  | n + 1, E, h1, h2 => by
    show sm n (fun d => T (e d)) + T (e n) ≤ _
    have a := sm_sub (T := T) n (e n) (fun d d' q q2 => h1 d d' q (by omega)) (fun d q => h1 d n q (by omega))
    have b : sm (e n + 1) T ≤ sm E T := sm_mono (h2 n (by omega))
    have c : sm (e n + 1) T = sm (e n) T + T (e n) := rfl
    omega
theorem sm_le {f g : Nat → Nat} : ∀ {n}, (∀ k, k < n → f k ≤ g k) → sm n f ≤ sm n g
  | 0, _ => Nat.le_refl 0
  | n + 1, h => Nat.add_le_add (sm_le (fun k hk => h k (by omega))) (h n (by omega))
theorem sm_mulc {f : Nat → Nat} {c : Nat} : ∀ n, (∀ k, k < n → f k ≤ c) → sm n f ≤ n * c
  | 0, _ => Nat.zero_le _
  | n + 1, h => by
    have := sm_mulc n (fun k hk => h k (by omega))
    have h2 := h n (by omega)
    show sm n f + f n ≤ (n + 1) * c
    rw [Nat.succ_mul]
    omega
section BOUND
variable {sg lf rt gt sgs p q : Nat → Nat} {few : Nat} {Dm : Nat → Prop}
/-- atoms of a part that stand as it does (p), and the other way (q) -/
def WP (sg lf rt sgs p q : Nat → Nat) (Dm : Nat → Prop) : Prop := ∀ a, Dm a → (1 ≤ p a ∧ p a + q a = sgs a + 1) ∧ (sg a < 8 → p a = 1 ∧ q a = 0) ∧ (sg a = 8 → p a = p (lf a) + q (rt a) ∧ q a = q (lf a) + p (rt a)) ∧ (sg a = 9 → p a = p (rt a) + q (lf a) ∧ q a = q (rt a) + p (lf a))
theorem uz_bound (hD : WD sg lf rt Dm sgs) (hP : WP sg lf rt sgs p q Dm) {m : Ky → Nat} {Γ : List Nat} (hm : ∀ κ, Vk Dm κ → ls p κ.1 + q κ.2 ≤ 7 → m κ ≤ wB (ls p κ.1 + q κ.2)) (hΓ : ∀ x ∈ Γ, Dm x) : ∀ (f a i j r : Nat), Dm a → i ≤ Γ.length → r ≤ 7 → ls p (Γ.take i) + p a + ls p (Γ.drop j) = r + 1 → uz sg lf rt m f Γ a i j ≤ SB r
  | 0, a, i, j, r, _, _, _, _ => Nat.zero_le _
  | f + 1, a, i, j, r, ha, hi, hr, e => by
    have da := hD a ha
    obtain ⟨w0, w1, w8, w9⟩ := hP a ha
    have hp1 : ∀ x ∈ Γ, 1 ≤ p x := fun x hx => (hP x (hΓ x hx)).1.1
    show (if _ then _ else _) ≤ _
    by_cases h8 : sg a = 8
    · obtain ⟨d1, d2, d3⟩ := da.2 (by omega)
      obtain ⟨v1, v2⟩ := w8 h8
      have hl1 := (hP _ d1).1.1
      rw [if_pos h8]
      have key : ∀ d, ls p ((Γ.drop j).take d) + ls p (Γ.drop (j + d)) = ls p (Γ.drop j) := fun d => st8
      refine Nat.le_trans (sm_le (g := fun d => (fun t => wB t * SB (r - t)) (ls p ((Γ.drop j).take d) + q (rt a))) (fun d hd => ?_)) (Nat.le_trans (sm_sub (T := fun t => wB t * SB (r - t)) (e := fun d => ls p ((Γ.drop j).take d) + q (rt a)) _ (r + 1) (fun d d' l1 l2 => ?_) (fun d hd => ?_)) (SB_sum hr))
      · have k := key d
        refine Nat.mul_le_mul (hm _ (Vk.part hΓ d2 (fun x hx => mem_dt hx)) (by dsimp only; omega)) (uz_bound hD hP hm hΓ f (lf a) i (j + d) _ d1 hi (by omega) ?_)
        omega
      · have := ls_take_lt (f := p) (L := Γ.drop j) (fun x hx => hp1 x (List.mem_of_mem_drop hx)) l1 (by rw [List.length_drop]; omega)
        omega
      · have k := key d
        omega
    · rw [if_neg h8]
      by_cases h9 : sg a = 9
      · obtain ⟨d1, d2, d3⟩ := da.2 (by omega)
        obtain ⟨v1, v2⟩ := w9 h9
        have hl1 := (hP _ d2).1.1
        rw [if_pos h9, ← sm_rev]
        have key : ∀ s, s ≤ i → ls p (Γ.take s) + ls p ((Γ.take i).drop s) = ls p (Γ.take i) := fun s hs => st9 hs
        refine Nat.le_trans (sm_le (g := fun d => (fun t => wB t * SB (r - t)) (ls p ((Γ.take i).drop (i - d)) + q (lf a))) (fun d hd => ?_)) (Nat.le_trans (sm_sub (T := fun t => wB t * SB (r - t)) (e := fun d => ls p ((Γ.take i).drop (i - d)) + q (lf a)) _ (r + 1) (fun d d' l1 l2 => ?_) (fun d hd => ?_)) (SB_sum hr))
        · have k := key (i - d) (by omega)
          refine Nat.mul_le_mul (hm _ (Vk.part hΓ d1 (fun x hx => mem_td hx)) (by dsimp only; omega)) (uz_bound hD hP hm hΓ f (rt a) (i - d) j _ d2 (by omega) (by omega) ?_)
          omega
        · have k := key (i - d) (by omega)
          have k2 := key (i - d') (by omega)
          have := ls_take_lt (f := p) (L := Γ) hp1 (show i - d' < i - d by omega) (by omega)
          omega
        · have k := key (i - d) (by omega)
          omega
      · rw [if_neg h9]
        have hS : 1 ≤ SB r := by
          have : ∀ r, r < 8 → 1 ≤ SB r := by decide +kernel
          exact this r (by omega)
        split <;> omega
theorem mz_bound (hD : WD sg lf rt Dm sgs) (hG : GW sg lf rt gt Dm) (hP : WP sg lf rt sgs p q Dm) : ∀ (f : Nat) (κ : Ky), Vk Dm κ → ls p κ.1 + q κ.2 ≤ 8 → mz sg lf rt gt few f κ ≤ wB (ls p κ.1 + q κ.2)
  | 0, κ, _, _ => Nat.zero_le _
  | f + 1, (Γ, g), hv, h => by
    have n9 := (hG g hv.2).1
    obtain ⟨w0, w1, w8, w9⟩ := hP g hv.2
    have hp1 : ∀ x ∈ Γ, 1 ≤ p x := fun x hx => (hP x (hv.1 x hx)).1.1
    dsimp only at h ⊢
    show (if Γ.length < few then 0 else if sg g = 8 then mz sg lf rt gt few f (Γ ++ [rt g], lf g) else if sg g = 9 then mz sg lf rt gt few f (lf g :: Γ, rt g) else sm Γ.length (fun h => if gt (Γ.getD h 0) = sg g then uz sg lf rt (mz sg lf rt gt few f) (f + 1) Γ (Γ.getD h 0) h (h + 1) else 0)) ≤ _
    by_cases hl : Γ.length < few
    · rw [if_pos hl]; exact Nat.zero_le _
    · rw [if_neg hl]
      by_cases h8 : sg g = 8
      · rw [if_pos h8]
        obtain ⟨v1, v2⟩ := w8 h8
        have e : ls p (Γ ++ [rt g]) + q (lf g) = ls p Γ + q g := by rw [ls_append, ls_cons, ls_nil]; omega
        have := mz_bound hD hG hP f _ (mz_goal8 hD hv h8).1 (by dsimp only; omega)
        dsimp only at this
        rwa [e] at this
      · rw [if_neg h8]
        by_cases h9 : sg g = 9
        · rw [if_pos h9]
          obtain ⟨v1, v2⟩ := w9 h9
          have e : ls p (lf g :: Γ) + q (rt g) = ls p Γ + q g := by rw [ls_cons]; omega
          have := mz_bound hD hG hP f _ (mz_goal9 hD hv h9).1 (by dsimp only; omega)
          dsimp only at this
          rwa [e] at this
        · rw [if_neg h9]
          have hq0 := (w1 (by omega)).2
          have hlen := ls_len hp1
          obtain ⟨M, eM⟩ : ∃ M, M = ls p Γ + q g := ⟨_, rfl⟩
          rw [← eM] at h ⊢
          refine Nat.le_trans (sm_mulc (c := SB (M - 1)) _ (fun k hk => ?_)) (Nat.mul_le_mul_right _ (by omega))
          split
          · have e := ls_at (f := p) hk
            exact uz_bound hD hP (Γ := Γ) (fun κ' v' l' => mz_bound hD hG hP f κ' v' (by omega)) hv.1 (f + 1) (Γ.getD k 0) k (k + 1) (M - 1) (hv.1 _ (getD_mem hk)) (by omega) (by omega) (by omega)
          · exact Nat.zero_le _
theorem li_pq {p q : Nat → Nat} : ∀ {Γ : List Nat}, li (fun x => (p x : Int) - (q x : Int)) Γ = (ls p Γ : Int) - (ls q Γ : Int)
  | [] => rfl
  | a :: Γ => by
    rw [li_cons, ls_cons, ls_cons, li_pq]
    omega
theorem ls_pq : ∀ {Γ : List Nat}, (∀ x ∈ Γ, p x + q x = sgs x + 1) → ls p Γ + ls q Γ = ls sgs Γ + Γ.length
  | [], _ => rfl
  | a :: Γ, h => by
    rw [ls_cons, ls_cons, ls_cons, List.length_cons]
    have h1 := h a (by simp)
    have h2 := ls_pq (fun x hx => h x (by simp [hx]) : ∀ x ∈ Γ, p x + q x = sgs x + 1)
    omega
theorem WP.bal (hG : GW sg lf rt gt Dm) (hP : WP sg lf rt sgs p q Dm) : WB sg lf rt Dm (fun x => (p x : Int) - (q x : Int)) := by
  refine ⟨fun a b ha hb h8 e => ?_, fun a ha h8 => ?_⟩
  · have h1 := (hP a ha).2.1 h8
    have h2 := (hP b hb).2.1 (by omega)
    dsimp only
    rw [h1.1, h1.2, h2.1, h2.2]
  · have n9 := (hG a ha).1
    obtain ⟨w0, w1, w8, w9⟩ := hP a ha
    dsimp only
    by_cases e8 : sg a = 8
    · rw [if_pos e8]
      have := w8 e8
      omega
    · have e9 : sg a = 9 := by omega
      rw [if_neg e8, if_pos e9]
      have := w9 e9
      omega
/-- where there is a meaning: its row is short, the meanings few -/
theorem mz_small (hD : WD sg lf rt Dm sgs) (hG : GW sg lf rt gt Dm) (hP : WP sg lf rt sgs p q Dm) {f : Nat} {κ : Ky} (hv : Vk Dm κ) (h16 : κ.1.length + mk sgs κ ≤ 15) (nz : mz sg lf rt gt few f κ ≠ 0) : κ.1.length ≤ 8 ∧ mz sg lf rt gt few f κ < 1000000007 := by
  obtain ⟨Γ, g⟩ := κ
  have b := mz_bal hD hG (hP.bal hG) f (Γ, g) hv nz
  dsimp only at b h16 ⊢
  rw [li_pq] at b
  have t := ls_pq (p := p) (q := q) (sgs := sgs) (Γ := Γ) (fun x hx => (hP x (hv.1 x hx)).1.2)
  have tg := (hP g hv.2).1.2
  have em : mk sgs (Γ, g) = ls sgs Γ + sgs g := rfl
  have hlen := ls_len (f := p) (L := Γ) (fun x hx => (hP x (hv.1 x hx)).1.1)
  have h8 : ls p Γ + q g ≤ 8 := by omega
  exact ⟨by omega, Nat.lt_of_le_of_lt (mz_bound hD hG hP f (Γ, g) hv h8) (wB_lt h8)⟩
theorem mz_lt (hD : WD sg lf rt Dm sgs) (hG : GW sg lf rt gt Dm) (hP : WP sg lf rt sgs p q Dm) {f : Nat} {κ : Ky} (hv : Vk Dm κ) (h16 : κ.1.length + mk sgs κ ≤ 15) : mz sg lf rt gt few f κ < 1000000007 := by
  by_cases nz : mz sg lf rt gt few f κ = 0
  · rw [nz]; decide
  · exact (mz_small hD hG hP hv h16 nz).2
end BOUND
