/-! what the constructors leave: a good state, and the first of both sides -/
def S0 : Ab := ([], fun _ => (N1, [97]), [], fun _ => 0, [])
theorem S0_s : SInv S0 := by
  have a1 : [97] = prt N1 (N1.length - 1) := by decide
  have a2 : ones12 0 ≤ 3 := by decide
  exact ⟨Nat.zero_le _, fun c hc => absurd hc List.not_mem_nil, fun i hi => ⟨N1_wn, show 1 ≤ 80 by omega, a1⟩, ⟨Nat.zero_le _, fun N hN => absurd hN List.not_mem_nil⟩, fun w hw => ⟨show 0 < 4096 by omega, a2⟩, Nat.zero_le _, fun w hw => absurd hw List.not_mem_nil⟩
theorem first_good {I8 I1 I2 I : Nat → Nat → Int} {J8 J : Nat → Nat → Int64} {R8 R : Nat → Nat → Option Nat} (p : P8 I8 J8 R8) (q : P9m I8 J8 R8 I1 J R) : Gd (102, I, J, R) := by
  obtain ⟨p1, p2, p3, p4, p5, p6, p7, p8, p9, p10, p11⟩ := p
  obtain ⟨q1, q2⟩ := q
  have f1 : PF FFX R := p1.lk q1 (by decide)
  have k16 : KR 16 R := by
    have := p3.1
    unfold KR at this ⊢
    rw [(q1 16 (by omega)).2.2, (q1 16 (by omega)).2.2, (q1 16 (by omega)).2.2, (q1 16 (by omega)).2.2, (q1 16 (by omega)).2.2, (q1 16 (by omega)).2.2]
    exact this
  have k50 : KR 52 R := by
    have := p4
    unfold KR at this ⊢
    rw [(q1 52 (by omega)).2.2, (q1 52 (by omega)).2.2, (q1 52 (by omega)).2.2, (q1 52 (by omega)).2.2, (q1 52 (by omega)).2.2, (q1 52 (by omega)).2.2]
    exact this
  have h16 : Kd 102 16 := ⟨Or.inl rfl, by omega⟩
  have h50 : Kd 102 52 := ⟨Or.inr (Or.inl rfl), by omega⟩
  refine ⟨Nat.le_refl _, rfl, fun t ht => ?_, fun a ha t ht => ?_, fun a k hs => ?_⟩
  · have m : ∀ t ∈ finT, t ∈ FFX ++ F9 := by decide +kernel
    exact (f1.app q2) t (m t ht)
  · show R a t.1 = _
    have aux : ∀ a, KR a R → ∀ t ∈ kOff, R a t.1 = some (a + t.2) := by
      intro a kr t ht
      obtain ⟨r0, r1, r2, r3, r4, r10⟩ := kr
      simp only [kOff, List.mem_cons, List.not_mem_nil, or_false] at ht
      rcases ht with rfl | rfl | rfl | rfl | rfl | rfl <;> assumption
    have hl : a + 8 ≤ 102 := ha.2
    rcases ha.1 with rfl | rfl | ⟨g, _⟩
    · exact aux 16 k16 t ht
    · exact aux 52 k50 t ht
    · omega
  · show ∃ r, R a k = some r ∧ Kd 102 r
    rcases hs with ⟨rfl, hk⟩ | ⟨rfl, hk⟩ | ⟨rfl, hk⟩ | ⟨rfl, hk⟩ | ⟨rfl, rfl⟩
    · exact ⟨16, ((q1 9 (by omega)).2.2 k).trans (p5 k hk), h16⟩
    · exact ⟨16, ((q1 10 (by omega)).2.2 k).trans (p6 k hk), h16⟩
    · exact ⟨52, ((q1 38 (by omega)).2.2 k).trans (p7 k hk), h50⟩
    · exact ⟨52, ((q1 46 (by omega)).2.2 k).trans (p8 k hk), h50⟩
    · exact ⟨52, f1 (37, 8, 52) (by decide), h50⟩
theorem first_kn {I : Nat → Nat → Int} {J : Nat → Nat → Int64} {R : Nat → Nat → Option Nat} (k : K1 16 I J R) : KN (102, I, J, R) 16 N1 := by
  obtain ⟨_, ⟨a1, a2, a3, a4, a5, a6⟩, ⟨b1, b2, b3, b4, b5⟩, c⟩ := k
  have e : ltr N1 = [1] := by decide
  refine ⟨Or.inl rfl, ⟨a1, a2, a3, a4, a5, by rw [e]; exact a6⟩, fun k hk => ?_, fun k hk => ?_⟩
  · have : k = 0 := by simp [N1] at hk; exact hk
    subst this
    exact ⟨b1, b2, b3, b4, b5⟩
  · rw [e] at hk ⊢
    have : k = 0 := by simp at hk; exact hk
    subst this
    exact c
theorem first_inv {I8 I1 I2 I : Nat → Nat → Int} {J8 J : Nat → Nat → Int64} {R8 R : Nat → Nat → Option Nat} (p : P8 I8 J8 R8) (q : P9m I8 J8 R8 I1 J R) (z : ∀ b, 60 ≤ b → b < 102 → ∀ k, I1 b k = 0) (l2 : L9a 12 I1 I2) (l3 : L9b 65536 I2 I) : Inv2 0 (102, I, J, R) := by
  obtain ⟨p1, p2, p3, p4, p5, p6, p7, p8, p9, p10, p11⟩ := p
  obtain ⟨q1, q2⟩ := q
  have hb : ∀ b, b < 60 → ∀ k, I b k = I8 b k := fun b hb k => by
    rw [l3.1 b (by omega), l2.1 b (by omega) (by omega) (by omega) (by omega) (by omega), (q1 b hb).1]
  have hm : ∀ b, 60 ≤ b → b < 92 → b ≠ 68 → b ≠ 69 → b ≠ 70 → b ≠ 74 → b ≠ 75 → ∀ k, I b k = 0 := fun b h1 h2 g1 g2 g3 g4 g5 k => by
    rw [l3.1 b (by omega), l2.1 b g1 g2 g3 g4 g5, z b h1 (by omega)]
  have kk : K1 16 I J R := p3.keep (c := 0) (fun b _ h2 => ⟨hb b (by omega), (q1 b (by omega)).2.1, (q1 b (by omega)).2.2⟩)
  have hkn := first_kn kk
  have zz : Z0 I := p2.keep (c := 60) hb (by omega)
  refine ⟨⟨S0, S0_s, ⟨⟨zz.2.2.1, fun k hk => absurd hk (Nat.not_lt_zero k)⟩, fun i hi => ?_, ⟨zz.1, fun k hk => absurd hk (Nat.not_lt_zero k)⟩, ⟨fun w hw => zz.2.2.2 w, ((q1 47 (by omega)).2.1 0).trans p11⟩, ⟨zz.2.1, fun k hk => absurd hk (Nat.not_lt_zero k)⟩⟩, ⟨hm 60 (by omega) (by omega) (by omega) (by omega) (by omega) (by omega) (by omega) 2, fun k hk => absurd hk (Nat.not_lt_zero k)⟩, fun i hi => ?_, ⟨hm 60 (by omega) (by omega) (by omega) (by omega) (by omega) (by omega) (by omega) 17, fun k hk => absurd hk (Nat.not_lt_zero k)⟩, fun w hw => hm 77 (by omega) (by omega) (by omega) (by omega) (by omega) (by omega) (by omega) w, ⟨hm 60 (by omega) (by omega) (by omega) (by omega) (by omega) (by omega) (by omega) 22, fun k hk => absurd hk (Nat.not_lt_zero k)⟩, 0, by omega, hm 60 (by omega) (by omega) (by omega) (by omega) (by omega) (by omega) (by omega) 33, fun k hk => absurd hk (Nat.not_lt_zero k), fun h hh _ => l3.2 h hh⟩, 0, (hb 31 (by omega) 3).trans p9, by omega, fun s hs => ?_⟩
  · have e : kq (102, I, J, R) 9 i = 16 := by
      unfold kq
      rw [show (102, I, J, R).2.2.2 9 i = some 16 from ((q1 9 (by omega)).2.2 i).trans (p5 i hi)]
      rfl
    rw [e]
    exact hkn
  · have t := l2.2 i hi
    have e66 : I 68 (80 * i) = 97 := (l3.1 68 (by omega) _).trans t.1
    have e67 : I 69 i = 1 := (l3.1 69 (by omega) _).trans t.2.1
    have e68 : I 70 i = 1 := (l3.1 70 (by omega) _).trans t.2.2.1
    have e73 : I 75 i = 1 := (l3.1 75 (by omega) _).trans t.2.2.2.1
    have e72 : I 74 (12 * i) = 1 := (l3.1 74 (by omega) _).trans t.2.2.2.2
    have e : ltr N1 = [1] := by decide
    refine ⟨⟨e68, fun k hk => ?_⟩, e67, fun k hk => ?_, by show I 75 i = ((ltr N1).length : Int); rw [e]; exact e73, fun k hk => ?_⟩
    · have : k = 0 := by simp [S0, N1] at hk; exact hk
      subst this
      exact ⟨hm 71 (by omega) (by omega) (by omega) (by omega) (by omega) (by omega) (by omega) _, hm 72 (by omega) (by omega) (by omega) (by omega) (by omega) (by omega) (by omega) _, hm 73 (by omega) (by omega) (by omega) (by omega) (by omega) (by omega) (by omega) _⟩
    · have : k = 0 := by simp [S0] at hk; exact hk
      subst this
      exact e66
    · have hk : k < (ltr N1).length := hk
      show I 74 (12 * i + k) = (ltr N1).getD k 0
      rw [e] at hk ⊢
      have : k = 0 := by simp at hk; exact hk
      subst this
      exact e72
  · have : I 34 s = 0 := (hb 34 (by omega) s).trans (p10 s)
    show 0 ≤ I 34 s ∧ I 34 s ≤ _
    rw [this]
    exact ⟨by omega, by omega⟩
