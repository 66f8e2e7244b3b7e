/-! good states: what the final references of the two objects hold, which places hold a KIND -/
def finT : List (Nat × Nat × Nat) := [(1, 0, 2), (1, 1, 9), (1, 2, 10), (1, 4, 11), (1, 5, 12), (1, 7, 35), (1, 8, 36), (1, 9, 37), (2, 0, 3), (2, 2, 4), (2, 3, 5), (2, 4, 6), (2, 7, 7), (2, 8, 8), (24, 0, 25), (24, 1, 26), (24, 2, 27), (24, 3, 28), (24, 4, 29), (24, 5, 30), (31, 0, 32), (31, 1, 33), (31, 2, 34), (35, 0, 24), (35, 1, 31), (36, 0, 24), (36, 1, 31), (37, 0, 36), (37, 1, 38), (37, 2, 39), (37, 3, 44), (37, 4, 45), (37, 5, 46), (37, 6, 47), (37, 7, 48), (39, 0, 40), (39, 1, 41), (39, 2, 42), (39, 3, 43), (60, 1, 61), (60, 5, 62), (60, 6, 63), (60, 7, 64), (60, 8, 65), (60, 9, 66), (60, 10, 67), (60, 11, 68), (60, 12, 69), (60, 13, 70), (60, 14, 71), (60, 15, 72), (60, 16, 73), (60, 18, 74), (60, 19, 75), (60, 20, 76), (60, 21, 77), (60, 23, 78), (60, 25, 79), (60, 26, 80), (60, 27, 81), (60, 28, 82), (60, 29, 83), (60, 30, 84), (60, 31, 85), (60, 32, 86), (60, 34, 87), (60, 35, 88), (60, 36, 89), (60, 37, 90), (60, 38, 91), (60, 39, 92), (60, 40, 93), (60, 41, 94), (60, 42, 95), (60, 43, 96), (60, 44, 97), (60, 45, 98), (60, 49, 99), (60, 50, 100), (60, 51, 101)]
def kOff : List (Nat × Nat) := [(0, 4), (1, 5), (2, 6), (3, 1), (4, 2), (10, 3)]
def isK (a : Nat) : Prop := a = 16 ∨ a = 52 ∨ (102 ≤ a ∧ (a - 102) % 8 = 0)
def Kd (n a : Nat) : Prop := isK a ∧ a + 8 ≤ n
def kSlot (a k : Nat) : Prop := (a = 9 ∧ k < 12) ∨ (a = 10 ∧ k < 8) ∨ (a = 38 ∧ k < 12) ∨ (a = 46 ∧ k < 6) ∨ (a = 37 ∧ k = 8)
def Gd (σ : Sg) : Prop := 102 ≤ σ.1 ∧ (σ.1 - 102) % 8 = 0 ∧ (∀ q ∈ finT, σ.2.2.2 q.1 q.2.1 = some q.2.2) ∧ (∀ a, Kd σ.1 a → ∀ q ∈ kOff, σ.2.2.2 a q.1 = some (a + q.2)) ∧ (∀ a k, kSlot a k → ∃ r, σ.2.2.2 a k = some r ∧ Kd σ.1 r)
def kq (σ : Sg) (a k : Nat) : Nat := (σ.2.2.2 a k).getD 0
def KAr (a n : Nat) : Prop := (a = 9 ∧ n = 12) ∨ (a = 10 ∧ n = 8) ∨ (a = 38 ∧ n = 12) ∨ (a = 46 ∧ n = 6)
def Ar (m a t n : Nat) : Prop := shp a = .inr (t, n) ∧ 1 ≤ a ∧ a < m
theorem Gd.l {σ : Sg} (h : Gd σ) {a : Nat} (ha : a < 102) : a < σ.1 := Nat.lt_of_lt_of_le ha h.1
theorem Gd.f {σ : Sg} (h : Gd σ) {a k r : Nat} (hm : (a, k, r) ∈ finT) : σ.2.2.2 a k = some r := h.2.2.1 _ hm
theorem Kd.mono {n m a : Nat} (h : Kd n a) (hm : n ≤ m) : Kd m a := ⟨h.1, Nat.le_trans h.2 hm⟩
theorem Ar.mono {n m a t l : Nat} (h : Ar n a t l) (hm : n ≤ m) : Ar m a t l := ⟨h.1, h.2.1, Nat.lt_of_lt_of_le h.2.2 hm⟩
theorem isK_sh {a : Nat} (h : isK a) : shp a = .inl 0 ∧ shp (a + 1) = .inr (0, 32) ∧ shp (a + 2) = .inr (1, 32) ∧ shp (a + 3) = .inr (0, 12) ∧ shp (a + 4) = .inr (0, 32) ∧ shp (a + 5) = .inr (0, 32) ∧ shp (a + 6) = .inr (0, 32) ∧ shp (a + 7) = .inr (0, 32) := by
  rcases h with rfl | rfl | ⟨h1, h2⟩
  · exact ⟨rfl, rfl, rfl, rfl, rfl, rfl, rfl, rfl⟩
  · exact ⟨rfl, rfl, rfl, rfl, rfl, rfl, rfl, rfl⟩
  · have k : ∀ i, i < 8 → shp (a + i) = shpK.getD i (.inr (9, 0)) := fun i hi => by
      unfold shp
      rw [if_neg (by omega), show (a + i - 102) % 8 = i by omega]
    refine ⟨k 0 (by omega), k 1 (by omega), k 2 (by omega), k 3 (by omega), k 4 (by omega), k 5 (by omega), k 6 (by omega), k 7 (by omega)⟩
theorem isK.pos {a : Nat} (h : isK a) : 1 ≤ a := by rcases h with rfl | rfl | ⟨h1, h2⟩ <;> omega
theorem Kd.o {n a : Nat} (h : Kd n a) : shp a = .inl 0 := (isK_sh h.1).1
theorem Kd.p {n a : Nat} (h : Kd n a) : 1 ≤ a := h.1.pos
theorem Kd.l {n a : Nat} (h : Kd n a) : a < n := by have := h.2; omega
theorem Kd.A1 {n a : Nat} (h : Kd n a) : Ar n (a + 1) 0 32 := ⟨(isK_sh h.1).2.1, by omega, by have := h.2; omega⟩
theorem Kd.A2 {n a : Nat} (h : Kd n a) : Ar n (a + 2) 1 32 := ⟨(isK_sh h.1).2.2.1, by omega, by have := h.2; omega⟩
theorem Kd.A3 {n a : Nat} (h : Kd n a) : Ar n (a + 3) 0 12 := ⟨(isK_sh h.1).2.2.2.1, by omega, by have := h.2; omega⟩
theorem Kd.A4 {n a : Nat} (h : Kd n a) : Ar n (a + 4) 0 32 := ⟨(isK_sh h.1).2.2.2.2.1, by omega, by have := h.2; omega⟩
theorem Kd.A5 {n a : Nat} (h : Kd n a) : Ar n (a + 5) 0 32 := ⟨(isK_sh h.1).2.2.2.2.2.1, by omega, by have := h.2; omega⟩
theorem Kd.A6 {n a : Nat} (h : Kd n a) : Ar n (a + 6) 0 32 := ⟨(isK_sh h.1).2.2.2.2.2.2.1, by omega, by have := h.2; omega⟩
theorem Gd.k {σ : Sg} (h : Gd σ) {a : Nat} (ha : Kd σ.1 a) {k o : Nat} (hm : (k, o) ∈ kOff) : σ.2.2.2 a k = some (a + o) := h.2.2.2.1 a ha _ hm
theorem Gd.q {σ : Sg} (h : Gd σ) {a k : Nat} (hs : kSlot a k) : σ.2.2.2 a k = some (kq σ a k) := by
  obtain ⟨r, h1, h2⟩ := h.2.2.2.2 a k hs
  unfold kq
  rw [h1]
  rfl
theorem Gd.qk {σ : Sg} (h : Gd σ) {a k : Nat} (hs : kSlot a k) : Kd σ.1 (kq σ a k) := by
  obtain ⟨r, h1, h2⟩ := h.2.2.2.2 a k hs
  unfold kq
  rw [h1]
  exact h2
theorem KAr.A {a n m : Nat} (h : KAr a n) (hm : 102 ≤ m) : Ar m a 3 n := by
  rcases h with ⟨rfl, rfl⟩ | ⟨rfl, rfl⟩ | ⟨rfl, rfl⟩ | ⟨rfl, rfl⟩ <;> exact ⟨rfl, by omega, by omega⟩
theorem KAr.S {a n k : Nat} (h : KAr a n) (hk : k < n) : kSlot a k := by
  rcases h with ⟨rfl, rfl⟩ | ⟨rfl, rfl⟩ | ⟨rfl, rfl⟩ | ⟨rfl, rfl⟩
  · exact Or.inl ⟨rfl, hk⟩
  · exact Or.inr (Or.inl ⟨rfl, hk⟩)
  · exact Or.inr (Or.inr (Or.inl ⟨rfl, hk⟩))
  · exact Or.inr (Or.inr (Or.inr (Or.inl ⟨rfl, hk⟩)))
theorem kSlot_fin {a k : Nat} (h : kSlot a k) : ∀ q ∈ finT, ¬ (q.1 = a ∧ q.2.1 = k) := by
  have e : finT.all (fun q => !(q.1 == 9 || q.1 == 10 || q.1 == 38 || q.1 == 46) && !(q.1 == 37 && q.2.1 == 8)) = true := by decide +kernel
  intro q hq ⟨e1, e2⟩
  have e3 := List.all_eq_true.mp e q hq
  rcases h with ⟨h1, h2⟩ | ⟨h1, h2⟩ | ⟨h1, h2⟩ | ⟨h1, h2⟩ | ⟨h1, h2⟩ <;> simp [e1, e2, h1, h2] at e3
theorem Gd.setQ {σ : Sg} (h : Gd σ) {a k r : Nat} (hs : kSlot a k) (hr : Kd σ.1 r) : Gd (setQ σ a k (some r)) := by
  refine ⟨h.1, h.2.1, fun q hq => ?_, fun b hb q hq => ?_, fun b j hb => ?_⟩
  · have e := kSlot_fin hs q hq
    show up2 σ.2.2.2 a k (some r) q.1 q.2.1 = _
    unfold up2
    by_cases e1 : q.1 = a
    · rw [if_pos e1, if_neg (fun e2 => e ⟨e1, e2⟩)]
      exact h.2.2.1 q hq
    · rw [if_neg e1]
      exact h.2.2.1 q hq
  · show up2 σ.2.2.2 a k (some r) b q.1 = _
    have hne : b ≠ a := by
      rintro rfl
      have hk := hb.1
      rcases hs with ⟨h1, h2⟩ | ⟨h1, h2⟩ | ⟨h1, h2⟩ | ⟨h1, h2⟩ | ⟨h1, h2⟩ <;> rcases hk with h3 | h3 | ⟨h3, h4⟩ <;> omega
    rw [up2_ne hne]
    exact h.2.2.2.1 b hb q hq
  · show ∃ r', up2 σ.2.2.2 a k (some r) b j = some r' ∧ Kd σ.1 r'
    unfold up2
    by_cases e1 : b = a
    · rw [if_pos e1]
      by_cases e2 : j = k
      · rw [if_pos e2]; exact ⟨r, rfl, hr⟩
      · rw [if_neg e2]; exact h.2.2.2.2 b j hb
    · rw [if_neg e1]
      exact h.2.2.2.2 b j hb
theorem ix_lt {e : Int} {n : Nat} (h : inb e n) : ix e < n := by
  unfold ix
  obtain ⟨h1, h2⟩ := h
  omega
/-- answers: an int, a truth (0 or 1), a long, a reference, none -/
def qI (Q : Int → Sg → Prop) : Option Value → Sg → Prop := fun v σ => Gd σ ∧ ∃ r : Int, v = some (.int (iI r)) ∧ Q r σ
def qZ (Q : Int → Sg → Prop) : Option Value → Sg → Prop := fun v σ => Gd σ ∧ ∃ r : Int, v = some (.int (iI r)) ∧ (r = 0 ∨ r = 1) ∧ Q r σ
def qJ (Q : Int64 → Sg → Prop) : Option Value → Sg → Prop := fun v σ => Gd σ ∧ ∃ r : Int64, v = some (.long r) ∧ Q r σ
def qR (Q : Nat → Sg → Prop) : Option Value → Sg → Prop := fun v σ => Gd σ ∧ ∃ r : Nat, v = some (.ref r) ∧ Q r σ
def qV (Q : Sg → Prop) : Option Value → Sg → Prop := fun v σ => Gd σ ∧ v = none ∧ Q σ
theorem app1 (v : Value) (st : List Value) : (some v).toList ++ st = v :: st := rfl
theorem app0 (st : List Value) : (none : Option Value).toList ++ st = st := rfl
theorem nzB {v : Int} (h : v = 0 ∨ v = 1) : narrow .boolean (.int (iI v)) = .int (iI v) := by rcases h with h | h <;> subst h <;> rfl
theorem fv_fin {σ : Sg} (h : Gd σ) {a k r c : Nat} (hm : (a, k, r) ∈ finT) (ht : (∃ n, clTy c k = .object n) ∨ ∃ t, clTy c k = .array t) : fvA σ a (clTy c k) k = .ref r := by
  have e := h.f hm
  rcases ht with ⟨n, ht⟩ | ⟨n, ht⟩ <;> rw [ht] <;> simp [fvA, e, va_rf]
theorem fv_kd {σ : Sg} (h : Gd σ) {a k o : Nat} (ha : Kd σ.1 a) (hm : (k, o) ∈ kOff) (ht : (∃ n, clTy 0 k = .object n) ∨ ∃ t, clTy 0 k = .array t) : fvA σ a (clTy 0 k) k = .ref (a + o) := by
  have e := h.k ha hm
  rcases ht with ⟨n, ht⟩ | ⟨n, ht⟩ <;> rw [ht] <;> simp [fvA, e, va_rf]
theorem fv_goal {σ : Sg} (h : Gd σ) : fvA σ 37 (clTy 6 8) 8 = .ref (kq σ 37 8) := by
  have e := h.q (a := 37) (k := 8) (Or.inr (Or.inr (Or.inr (Or.inr ⟨rfl, rfl⟩))))
  show va_rf (σ.2.2.2 37 8) = _
  rw [e]
  rfl
theorem sp_1 : shp 1 = .inl 7 := rfl
theorem sp_2 : shp 2 = .inl 1 := rfl
theorem sp_3 : shp 3 = .inr (0, 80) := rfl
theorem sp_4 : shp 4 = .inr (0, 32) := rfl
theorem sp_5 : shp 5 = .inr (0, 32) := rfl
theorem sp_6 : shp 6 = .inr (0, 32) := rfl
theorem sp_7 : shp 7 = .inr (0, 6) := rfl
theorem sp_8 : shp 8 = .inr (0, 6) := rfl
theorem sp_9 : shp 9 = .inr (3, 12) := rfl
theorem sp_10 : shp 10 = .inr (3, 8) := rfl
theorem sp_11 : shp 11 = .inr (0, 4) := rfl
theorem sp_12 : shp 12 = .inr (0, 6) := rfl
theorem sp_13 : shp 13 = .inr (0, 32) := rfl
theorem sp_14 : shp 14 = .inr (0, 32) := rfl
theorem sp_15 : shp 15 = .inr (0, 32) := rfl
theorem sp_16 : shp 16 = .inl 0 := rfl
theorem sp_17 : shp 17 = .inr (0, 32) := rfl
theorem sp_18 : shp 18 = .inr (1, 32) := rfl
theorem sp_19 : shp 19 = .inr (0, 12) := rfl
theorem sp_20 : shp 20 = .inr (0, 32) := rfl
theorem sp_21 : shp 21 = .inr (0, 32) := rfl
theorem sp_22 : shp 22 = .inr (0, 32) := rfl
theorem sp_23 : shp 23 = .inr (0, 32) := rfl
theorem sp_24 : shp 24 = .inl 4 := rfl
theorem sp_25 : shp 25 = .inr (0, 32) := rfl
theorem sp_26 : shp 26 = .inr (0, 32) := rfl
theorem sp_27 : shp 27 = .inr (0, 32) := rfl
theorem sp_28 : shp 28 = .inr (0, 32) := rfl
theorem sp_29 : shp 29 = .inr (1, 32) := rfl
theorem sp_30 : shp 30 = .inr (0, 32) := rfl
theorem sp_31 : shp 31 = .inl 3 := rfl
theorem sp_32 : shp 32 = .inr (1, 1024) := rfl
theorem sp_33 : shp 33 = .inr (0, 1024) := rfl
theorem sp_34 : shp 34 = .inr (0, 1024) := rfl
theorem sp_35 : shp 35 = .inl 5 := rfl
theorem sp_36 : shp 36 = .inl 2 := rfl
theorem sp_37 : shp 37 = .inl 6 := rfl
theorem sp_38 : shp 38 = .inr (3, 12) := rfl
theorem sp_39 : shp 39 = .inr (4, 4) := rfl
theorem sp_40 : shp 40 = .inr (0, 3) := rfl
theorem sp_41 : shp 41 = .inr (0, 3) := rfl
theorem sp_42 : shp 42 = .inr (0, 3) := rfl
theorem sp_43 : shp 43 = .inr (0, 3) := rfl
theorem sp_44 : shp 44 = .inr (0, 4) := rfl
theorem sp_45 : shp 45 = .inr (0, 6) := rfl
theorem sp_46 : shp 46 = .inr (3, 6) := rfl
theorem sp_47 : shp 47 = .inr (1, 7) := rfl
theorem sp_48 : shp 48 = .inr (0, 4) := rfl
theorem sp_49 : shp 49 = .inr (0, 32) := rfl
theorem sp_50 : shp 50 = .inr (0, 32) := rfl
theorem sp_51 : shp 51 = .inr (0, 32) := rfl
theorem sp_52 : shp 52 = .inl 0 := rfl
theorem sp_53 : shp 53 = .inr (0, 32) := rfl
theorem sp_54 : shp 54 = .inr (1, 32) := rfl
theorem sp_55 : shp 55 = .inr (0, 12) := rfl
theorem sp_56 : shp 56 = .inr (0, 32) := rfl
theorem sp_57 : shp 57 = .inr (0, 32) := rfl
theorem sp_58 : shp 58 = .inr (0, 32) := rfl
theorem sp_59 : shp 59 = .inr (0, 32) := rfl
theorem sp_60 : shp 60 = .inl 8 := rfl
theorem sp_61 : shp 61 = .inr (0, 80) := rfl
theorem sp_62 : shp 62 = .inr (0, 23) := rfl
theorem sp_63 : shp 63 = .inr (0, 23) := rfl
theorem sp_64 : shp 64 = .inr (0, 23) := rfl
theorem sp_65 : shp 65 = .inr (0, 6) := rfl
theorem sp_66 : shp 66 = .inr (0, 6) := rfl
theorem sp_67 : shp 67 = .inr (0, 6) := rfl
theorem sp_68 : shp 68 = .inr (0, 1600) := rfl
theorem sp_69 : shp 69 = .inr (0, 20) := rfl
theorem sp_70 : shp 70 = .inr (0, 20) := rfl
theorem sp_71 : shp 71 = .inr (0, 460) := rfl
theorem sp_72 : shp 72 = .inr (0, 460) := rfl
theorem sp_73 : shp 73 = .inr (0, 460) := rfl
theorem sp_74 : shp 74 = .inr (0, 240) := rfl
theorem sp_75 : shp 75 = .inr (0, 20) := rfl
theorem sp_76 : shp 76 = .inr (0, 60) := rfl
theorem sp_77 : shp 77 = .inr (0, 4) := rfl
theorem sp_78 : shp 78 = .inr (0, 6) := rfl
theorem sp_79 : shp 79 = .inr (0, 230) := rfl
theorem sp_80 : shp 80 = .inr (0, 230) := rfl
theorem sp_81 : shp 81 = .inr (0, 230) := rfl
theorem sp_82 : shp 82 = .inr (0, 230) := rfl
theorem sp_83 : shp 83 = .inr (0, 230) := rfl
theorem sp_84 : shp 84 = .inr (0, 230) := rfl
theorem sp_85 : shp 85 = .inr (2, 230) := rfl
theorem sp_86 : shp 86 = .inr (0, 230) := rfl
theorem sp_87 : shp 87 = .inr (0, 360000) := rfl
theorem sp_88 : shp 88 = .inr (1, 20000) := rfl
theorem sp_89 : shp 89 = .inr (2, 20000) := rfl
theorem sp_90 : shp 90 = .inr (0, 20000) := rfl
theorem sp_91 : shp 91 = .inr (0, 20000) := rfl
theorem sp_92 : shp 92 = .inr (0, 65536) := rfl
theorem sp_93 : shp 93 = .inr (0, 20000) := rfl
theorem sp_94 : shp 94 = .inr (0, 18) := rfl
theorem sp_95 : shp 95 = .inr (1, 400) := rfl
theorem sp_96 : shp 96 = .inr (2, 400) := rfl
theorem sp_97 : shp 97 = .inr (1, 400) := rfl
theorem sp_98 : shp 98 = .inr (2, 400) := rfl
theorem sp_99 : shp 99 = .inr (0, 6) := rfl
theorem sp_100 : shp 100 = .inr (0, 6) := rfl
theorem sp_101 : shp 101 = .inr (0, 6) := rfl
theorem ff_1_0 {σ : Sg} (h : Gd σ) : fvA σ 1 (clTy 7 0) 0 = .ref 2 := fv_fin h (by decide) (Or.inl ⟨_, rfl⟩)
theorem ff_1_1 {σ : Sg} (h : Gd σ) : fvA σ 1 (clTy 7 1) 1 = .ref 9 := fv_fin h (by decide) (Or.inr ⟨_, rfl⟩)
theorem ff_1_2 {σ : Sg} (h : Gd σ) : fvA σ 1 (clTy 7 2) 2 = .ref 10 := fv_fin h (by decide) (Or.inr ⟨_, rfl⟩)
theorem ff_1_4 {σ : Sg} (h : Gd σ) : fvA σ 1 (clTy 7 4) 4 = .ref 11 := fv_fin h (by decide) (Or.inr ⟨_, rfl⟩)
theorem ff_1_5 {σ : Sg} (h : Gd σ) : fvA σ 1 (clTy 7 5) 5 = .ref 12 := fv_fin h (by decide) (Or.inr ⟨_, rfl⟩)
theorem ff_1_7 {σ : Sg} (h : Gd σ) : fvA σ 1 (clTy 7 7) 7 = .ref 35 := fv_fin h (by decide) (Or.inl ⟨_, rfl⟩)
theorem ff_1_8 {σ : Sg} (h : Gd σ) : fvA σ 1 (clTy 7 8) 8 = .ref 36 := fv_fin h (by decide) (Or.inl ⟨_, rfl⟩)
theorem ff_1_9 {σ : Sg} (h : Gd σ) : fvA σ 1 (clTy 7 9) 9 = .ref 37 := fv_fin h (by decide) (Or.inl ⟨_, rfl⟩)
theorem ff_2_0 {σ : Sg} (h : Gd σ) : fvA σ 2 (clTy 1 0) 0 = .ref 3 := fv_fin h (by decide) (Or.inr ⟨_, rfl⟩)
theorem ff_2_2 {σ : Sg} (h : Gd σ) : fvA σ 2 (clTy 1 2) 2 = .ref 4 := fv_fin h (by decide) (Or.inr ⟨_, rfl⟩)
theorem ff_2_3 {σ : Sg} (h : Gd σ) : fvA σ 2 (clTy 1 3) 3 = .ref 5 := fv_fin h (by decide) (Or.inr ⟨_, rfl⟩)
theorem ff_2_4 {σ : Sg} (h : Gd σ) : fvA σ 2 (clTy 1 4) 4 = .ref 6 := fv_fin h (by decide) (Or.inr ⟨_, rfl⟩)
theorem ff_2_7 {σ : Sg} (h : Gd σ) : fvA σ 2 (clTy 1 7) 7 = .ref 7 := fv_fin h (by decide) (Or.inr ⟨_, rfl⟩)
theorem ff_2_8 {σ : Sg} (h : Gd σ) : fvA σ 2 (clTy 1 8) 8 = .ref 8 := fv_fin h (by decide) (Or.inr ⟨_, rfl⟩)
theorem ff_24_0 {σ : Sg} (h : Gd σ) : fvA σ 24 (clTy 4 0) 0 = .ref 25 := fv_fin h (by decide) (Or.inr ⟨_, rfl⟩)
theorem ff_24_1 {σ : Sg} (h : Gd σ) : fvA σ 24 (clTy 4 1) 1 = .ref 26 := fv_fin h (by decide) (Or.inr ⟨_, rfl⟩)
theorem ff_24_2 {σ : Sg} (h : Gd σ) : fvA σ 24 (clTy 4 2) 2 = .ref 27 := fv_fin h (by decide) (Or.inr ⟨_, rfl⟩)
theorem ff_24_3 {σ : Sg} (h : Gd σ) : fvA σ 24 (clTy 4 3) 3 = .ref 28 := fv_fin h (by decide) (Or.inr ⟨_, rfl⟩)
theorem ff_24_4 {σ : Sg} (h : Gd σ) : fvA σ 24 (clTy 4 4) 4 = .ref 29 := fv_fin h (by decide) (Or.inr ⟨_, rfl⟩)
theorem ff_24_5 {σ : Sg} (h : Gd σ) : fvA σ 24 (clTy 4 5) 5 = .ref 30 := fv_fin h (by decide) (Or.inr ⟨_, rfl⟩)
theorem ff_31_0 {σ : Sg} (h : Gd σ) : fvA σ 31 (clTy 3 0) 0 = .ref 32 := fv_fin h (by decide) (Or.inr ⟨_, rfl⟩)
theorem ff_31_1 {σ : Sg} (h : Gd σ) : fvA σ 31 (clTy 3 1) 1 = .ref 33 := fv_fin h (by decide) (Or.inr ⟨_, rfl⟩)
theorem ff_31_2 {σ : Sg} (h : Gd σ) : fvA σ 31 (clTy 3 2) 2 = .ref 34 := fv_fin h (by decide) (Or.inr ⟨_, rfl⟩)
theorem ff_35_0 {σ : Sg} (h : Gd σ) : fvA σ 35 (clTy 5 0) 0 = .ref 24 := fv_fin h (by decide) (Or.inl ⟨_, rfl⟩)
theorem ff_35_1 {σ : Sg} (h : Gd σ) : fvA σ 35 (clTy 5 1) 1 = .ref 31 := fv_fin h (by decide) (Or.inl ⟨_, rfl⟩)
theorem ff_36_0 {σ : Sg} (h : Gd σ) : fvA σ 36 (clTy 2 0) 0 = .ref 24 := fv_fin h (by decide) (Or.inl ⟨_, rfl⟩)
theorem ff_36_1 {σ : Sg} (h : Gd σ) : fvA σ 36 (clTy 2 1) 1 = .ref 31 := fv_fin h (by decide) (Or.inl ⟨_, rfl⟩)
theorem ff_37_0 {σ : Sg} (h : Gd σ) : fvA σ 37 (clTy 6 0) 0 = .ref 36 := fv_fin h (by decide) (Or.inl ⟨_, rfl⟩)
theorem ff_37_1 {σ : Sg} (h : Gd σ) : fvA σ 37 (clTy 6 1) 1 = .ref 38 := fv_fin h (by decide) (Or.inr ⟨_, rfl⟩)
theorem ff_37_2 {σ : Sg} (h : Gd σ) : fvA σ 37 (clTy 6 2) 2 = .ref 39 := fv_fin h (by decide) (Or.inr ⟨_, rfl⟩)
theorem ff_37_3 {σ : Sg} (h : Gd σ) : fvA σ 37 (clTy 6 3) 3 = .ref 44 := fv_fin h (by decide) (Or.inr ⟨_, rfl⟩)
theorem ff_37_4 {σ : Sg} (h : Gd σ) : fvA σ 37 (clTy 6 4) 4 = .ref 45 := fv_fin h (by decide) (Or.inr ⟨_, rfl⟩)
theorem ff_37_5 {σ : Sg} (h : Gd σ) : fvA σ 37 (clTy 6 5) 5 = .ref 46 := fv_fin h (by decide) (Or.inr ⟨_, rfl⟩)
theorem ff_37_6 {σ : Sg} (h : Gd σ) : fvA σ 37 (clTy 6 6) 6 = .ref 47 := fv_fin h (by decide) (Or.inr ⟨_, rfl⟩)
theorem ff_37_7 {σ : Sg} (h : Gd σ) : fvA σ 37 (clTy 6 7) 7 = .ref 48 := fv_fin h (by decide) (Or.inr ⟨_, rfl⟩)
theorem ff_39_0 {σ : Sg} (h : Gd σ) : σ.2.2.2 39 0 = some 40 := h.f (by decide)
theorem ff_39_1 {σ : Sg} (h : Gd σ) : σ.2.2.2 39 1 = some 41 := h.f (by decide)
theorem ff_39_2 {σ : Sg} (h : Gd σ) : σ.2.2.2 39 2 = some 42 := h.f (by decide)
theorem ff_39_3 {σ : Sg} (h : Gd σ) : σ.2.2.2 39 3 = some 43 := h.f (by decide)
theorem ff_60_1 {σ : Sg} (h : Gd σ) : fvA σ 60 (clTy 8 1) 1 = .ref 61 := fv_fin h (by decide) (Or.inr ⟨_, rfl⟩)
theorem ff_60_5 {σ : Sg} (h : Gd σ) : fvA σ 60 (clTy 8 5) 5 = .ref 62 := fv_fin h (by decide) (Or.inr ⟨_, rfl⟩)
theorem ff_60_6 {σ : Sg} (h : Gd σ) : fvA σ 60 (clTy 8 6) 6 = .ref 63 := fv_fin h (by decide) (Or.inr ⟨_, rfl⟩)
theorem ff_60_7 {σ : Sg} (h : Gd σ) : fvA σ 60 (clTy 8 7) 7 = .ref 64 := fv_fin h (by decide) (Or.inr ⟨_, rfl⟩)
theorem ff_60_8 {σ : Sg} (h : Gd σ) : fvA σ 60 (clTy 8 8) 8 = .ref 65 := fv_fin h (by decide) (Or.inr ⟨_, rfl⟩)
theorem ff_60_9 {σ : Sg} (h : Gd σ) : fvA σ 60 (clTy 8 9) 9 = .ref 66 := fv_fin h (by decide) (Or.inr ⟨_, rfl⟩)
theorem ff_60_10 {σ : Sg} (h : Gd σ) : fvA σ 60 (clTy 8 10) 10 = .ref 67 := fv_fin h (by decide) (Or.inr ⟨_, rfl⟩)
theorem ff_60_11 {σ : Sg} (h : Gd σ) : fvA σ 60 (clTy 8 11) 11 = .ref 68 := fv_fin h (by decide) (Or.inr ⟨_, rfl⟩)
theorem ff_60_12 {σ : Sg} (h : Gd σ) : fvA σ 60 (clTy 8 12) 12 = .ref 69 := fv_fin h (by decide) (Or.inr ⟨_, rfl⟩)
theorem ff_60_13 {σ : Sg} (h : Gd σ) : fvA σ 60 (clTy 8 13) 13 = .ref 70 := fv_fin h (by decide) (Or.inr ⟨_, rfl⟩)
theorem ff_60_14 {σ : Sg} (h : Gd σ) : fvA σ 60 (clTy 8 14) 14 = .ref 71 := fv_fin h (by decide) (Or.inr ⟨_, rfl⟩)
theorem ff_60_15 {σ : Sg} (h : Gd σ) : fvA σ 60 (clTy 8 15) 15 = .ref 72 := fv_fin h (by decide) (Or.inr ⟨_, rfl⟩)
theorem ff_60_16 {σ : Sg} (h : Gd σ) : fvA σ 60 (clTy 8 16) 16 = .ref 73 := fv_fin h (by decide) (Or.inr ⟨_, rfl⟩)
theorem ff_60_18 {σ : Sg} (h : Gd σ) : fvA σ 60 (clTy 8 18) 18 = .ref 74 := fv_fin h (by decide) (Or.inr ⟨_, rfl⟩)
theorem ff_60_19 {σ : Sg} (h : Gd σ) : fvA σ 60 (clTy 8 19) 19 = .ref 75 := fv_fin h (by decide) (Or.inr ⟨_, rfl⟩)
theorem ff_60_20 {σ : Sg} (h : Gd σ) : fvA σ 60 (clTy 8 20) 20 = .ref 76 := fv_fin h (by decide) (Or.inr ⟨_, rfl⟩)
theorem ff_60_21 {σ : Sg} (h : Gd σ) : fvA σ 60 (clTy 8 21) 21 = .ref 77 := fv_fin h (by decide) (Or.inr ⟨_, rfl⟩)
theorem ff_60_23 {σ : Sg} (h : Gd σ) : fvA σ 60 (clTy 8 23) 23 = .ref 78 := fv_fin h (by decide) (Or.inr ⟨_, rfl⟩)
theorem ff_60_25 {σ : Sg} (h : Gd σ) : fvA σ 60 (clTy 8 25) 25 = .ref 79 := fv_fin h (by decide) (Or.inr ⟨_, rfl⟩)
theorem ff_60_26 {σ : Sg} (h : Gd σ) : fvA σ 60 (clTy 8 26) 26 = .ref 80 := fv_fin h (by decide) (Or.inr ⟨_, rfl⟩)
theorem ff_60_27 {σ : Sg} (h : Gd σ) : fvA σ 60 (clTy 8 27) 27 = .ref 81 := fv_fin h (by decide) (Or.inr ⟨_, rfl⟩)
theorem ff_60_28 {σ : Sg} (h : Gd σ) : fvA σ 60 (clTy 8 28) 28 = .ref 82 := fv_fin h (by decide) (Or.inr ⟨_, rfl⟩)
theorem ff_60_29 {σ : Sg} (h : Gd σ) : fvA σ 60 (clTy 8 29) 29 = .ref 83 := fv_fin h (by decide) (Or.inr ⟨_, rfl⟩)
theorem ff_60_30 {σ : Sg} (h : Gd σ) : fvA σ 60 (clTy 8 30) 30 = .ref 84 := fv_fin h (by decide) (Or.inr ⟨_, rfl⟩)
theorem ff_60_31 {σ : Sg} (h : Gd σ) : fvA σ 60 (clTy 8 31) 31 = .ref 85 := fv_fin h (by decide) (Or.inr ⟨_, rfl⟩)
theorem ff_60_32 {σ : Sg} (h : Gd σ) : fvA σ 60 (clTy 8 32) 32 = .ref 86 := fv_fin h (by decide) (Or.inr ⟨_, rfl⟩)
theorem ff_60_34 {σ : Sg} (h : Gd σ) : fvA σ 60 (clTy 8 34) 34 = .ref 87 := fv_fin h (by decide) (Or.inr ⟨_, rfl⟩)
theorem ff_60_35 {σ : Sg} (h : Gd σ) : fvA σ 60 (clTy 8 35) 35 = .ref 88 := fv_fin h (by decide) (Or.inr ⟨_, rfl⟩)
theorem ff_60_36 {σ : Sg} (h : Gd σ) : fvA σ 60 (clTy 8 36) 36 = .ref 89 := fv_fin h (by decide) (Or.inr ⟨_, rfl⟩)
theorem ff_60_37 {σ : Sg} (h : Gd σ) : fvA σ 60 (clTy 8 37) 37 = .ref 90 := fv_fin h (by decide) (Or.inr ⟨_, rfl⟩)
theorem ff_60_38 {σ : Sg} (h : Gd σ) : fvA σ 60 (clTy 8 38) 38 = .ref 91 := fv_fin h (by decide) (Or.inr ⟨_, rfl⟩)
theorem ff_60_39 {σ : Sg} (h : Gd σ) : fvA σ 60 (clTy 8 39) 39 = .ref 92 := fv_fin h (by decide) (Or.inr ⟨_, rfl⟩)
theorem ff_60_40 {σ : Sg} (h : Gd σ) : fvA σ 60 (clTy 8 40) 40 = .ref 93 := fv_fin h (by decide) (Or.inr ⟨_, rfl⟩)
theorem ff_60_41 {σ : Sg} (h : Gd σ) : fvA σ 60 (clTy 8 41) 41 = .ref 94 := fv_fin h (by decide) (Or.inr ⟨_, rfl⟩)
theorem ff_60_42 {σ : Sg} (h : Gd σ) : fvA σ 60 (clTy 8 42) 42 = .ref 95 := fv_fin h (by decide) (Or.inr ⟨_, rfl⟩)
theorem ff_60_43 {σ : Sg} (h : Gd σ) : fvA σ 60 (clTy 8 43) 43 = .ref 96 := fv_fin h (by decide) (Or.inr ⟨_, rfl⟩)
theorem ff_60_44 {σ : Sg} (h : Gd σ) : fvA σ 60 (clTy 8 44) 44 = .ref 97 := fv_fin h (by decide) (Or.inr ⟨_, rfl⟩)
theorem ff_60_45 {σ : Sg} (h : Gd σ) : fvA σ 60 (clTy 8 45) 45 = .ref 98 := fv_fin h (by decide) (Or.inr ⟨_, rfl⟩)
theorem ff_60_49 {σ : Sg} (h : Gd σ) : fvA σ 60 (clTy 8 49) 49 = .ref 99 := fv_fin h (by decide) (Or.inr ⟨_, rfl⟩)
theorem ff_60_50 {σ : Sg} (h : Gd σ) : fvA σ 60 (clTy 8 50) 50 = .ref 100 := fv_fin h (by decide) (Or.inr ⟨_, rfl⟩)
theorem ff_60_51 {σ : Sg} (h : Gd σ) : fvA σ 60 (clTy 8 51) 51 = .ref 101 := fv_fin h (by decide) (Or.inr ⟨_, rfl⟩)
theorem fk_0 {σ : Sg} (h : Gd σ) {a : Nat} (ha : Kd σ.1 a) : fvA σ a (clTy 0 0) 0 = .ref (a + 4) := fv_kd h ha (by decide) (Or.inr ⟨_, rfl⟩)
theorem fk_1 {σ : Sg} (h : Gd σ) {a : Nat} (ha : Kd σ.1 a) : fvA σ a (clTy 0 1) 1 = .ref (a + 5) := fv_kd h ha (by decide) (Or.inr ⟨_, rfl⟩)
theorem fk_2 {σ : Sg} (h : Gd σ) {a : Nat} (ha : Kd σ.1 a) : fvA σ a (clTy 0 2) 2 = .ref (a + 6) := fv_kd h ha (by decide) (Or.inr ⟨_, rfl⟩)
theorem fk_3 {σ : Sg} (h : Gd σ) {a : Nat} (ha : Kd σ.1 a) : fvA σ a (clTy 0 3) 3 = .ref (a + 1) := fv_kd h ha (by decide) (Or.inr ⟨_, rfl⟩)
theorem fk_4 {σ : Sg} (h : Gd σ) {a : Nat} (ha : Kd σ.1 a) : fvA σ a (clTy 0 4) 4 = .ref (a + 2) := fv_kd h ha (by decide) (Or.inr ⟨_, rfl⟩)
theorem fk_10 {σ : Sg} (h : Gd σ) {a : Nat} (ha : Kd σ.1 a) : fvA σ a (clTy 0 10) 10 = .ref (a + 3) := fv_kd h ha (by decide) (Or.inr ⟨_, rfl⟩)
theorem inr4 {e : Int} (h : inb e 4) : Ar 102 (40 + ix e) 0 3 := by
  have hk := ix_lt h
  generalize ix e = k at hk ⊢
  match k, hk with
  | 0, _ => exact ⟨rfl, by omega, by omega⟩
  | 1, _ => exact ⟨rfl, by omega, by omega⟩
  | 2, _ => exact ⟨rfl, by omega, by omega⟩
  | 3, _ => exact ⟨rfl, by omega, by omega⟩
theorem in4q {σ : Sg} (hg : Gd σ) {e : Int} (h : inb e 4) : σ.2.2.2 39 (ix e) = some (40 + ix e) := by
  have hk := ix_lt h
  generalize ix e = k at hk ⊢
  match k, hk with
  | 0, _ => exact ff_39_0 hg
  | 1, _ => exact ff_39_1 hg
  | 2, _ => exact ff_39_2 hg
  | 3, _ => exact ff_39_3 hg
