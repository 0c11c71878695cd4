/-! THE RELATION of the class's variables and the reference's -/
def bd_ (x : Int32) (lo hi : Int) : Prop := lo ≤ x.toInt ∧ x.toInt ≤ hi
def be6_ (x : Int64) (lo hi : Int) : Prop := lo ≤ x.toInt ∧ x.toInt ≤ hi
def Rc_ (k n : Nat) (a : St_) : Prop := k ≤ 8 ∧ n ≤ 6 ∧ gi_ a 0 0 0 = nI k ∧ gi_ a 21 0 0 = nI k ∧ gi_ a 1 0 0 = nI n ∧ gi_ a 22 0 0 = nI n
def Rt_ (T : Nat) (a : St_) : Prop := ∃ t, t ≤ T ∧ gi_ a 2 0 0 = nI t ∧ gl_ a 24 0 0 = lN t
def Rm_ (a : St_) : Prop := ∀ m, m < 8 → gl_ a 2 m 0 = gl_ a 20 0 m ∧ gl_ a 3 m 0 = gl_ a 21 0 m ∧ gi_ a 3 m 0 = gi_ a 23 0 m ∧ be6_ (gl_ a 2 m 0) (-1000000000000000) 1000000000000000 ∧ be6_ (gl_ a 3 m 0) 0 1000000000000
def Rp_ (a : St_) : Prop := ∀ m, m < 8 → ∀ j, j < 6 → gi_ a 4 m j = gi_ a 24 0 (6 * m + j) ∧ gi_ a 5 m j = gi_ a 25 0 (6 * m + j) ∧ gi_ a 9 m j = gi_ a 29 0 (6 * m + j) ∧ bd_ (gi_ a 4 m j) (-1000000) 1000000 ∧ bd_ (gi_ a 5 m j) 0 1000000 ∧ bd_ (gi_ a 9 m j) (-1000000) 1000000
def Ri_ (a : St_) : Prop := ∀ j, j < 6 → gi_ a 6 j 0 = gi_ a 26 0 j ∧ gi_ a 7 j 0 = gi_ a 27 0 j ∧ gi_ a 8 j 0 = gi_ a 28 0 j ∧ bd_ (gi_ a 6 j 0) 0 1000000 ∧ bd_ (gi_ a 7 j 0) 0 1000000 ∧ bd_ (gi_ a 8 j 0) 0 1000000
def Rg_ (a : St_) : Prop := gl_ a 0 0 0 = gl_ a 22 0 0 ∧ gl_ a 1 0 0 = gl_ a 23 0 0 ∧ be6_ (gl_ a 0 0 0) 0 1000000000000000 ∧ be6_ (gl_ a 1 0 0) 0 1000000000000000 ∧ ∀ j, j < 5 → gl_ a 4 0 j = gl_ a 25 0 j
def Rz_ (k n : Nat) (a : St_) : Prop := (∀ m, m < 8 → ∀ j, j < 6 → (k ≤ m ∨ n ≤ j) → gi_ a 4 m j = 0) ∧ ∀ m, m < 8 → k ≤ m → gl_ a 10 0 m = 0
def Rk_ (T k n : Nat) (a : St_) : Prop := Rc_ k n a ∧ Rt_ T a ∧ Rm_ a ∧ Rp_ a ∧ Ri_ a ∧ Rg_ a ∧ Rz_ k n a
def Rl_ (T : Nat) (a : St_) : Prop := ∃ k n, Rk_ T k n a
theorem Rt_up {T : Nat} {a : St_} (h : Rt_ T a) : Rt_ (T + 1) a := by
  obtain ⟨t, h1, h2⟩ := h
  exact ⟨t, by omega, h2⟩
theorem Rk_up {T k n : Nat} {a : St_} (h : Rk_ T k n a) : Rk_ (T + 1) k n a := ⟨h.1, Rt_up h.2.1, h.2.2⟩
theorem Rk_th {T k n : Nat} {a : St_} (c : Int32) (h : Rk_ T k n a) : Rk_ (T + 1) k n (th_ a c) := ⟨h.1, Rt_up h.2.1, h.2.2.1, h.2.2.2.1, h.2.2.2.2.1, h.2.2.2.2.2.1, h.2.2.2.2.2.2⟩
theorem Rk_ot {T k n : Nat} {a : St_} (c : Int32) (r : Int64) (h : Rk_ T k n a) : Rk_ (T + 1) k n (th_ (sl_ a 40 0 0 r) c) := ⟨h.1, Rt_up h.2.1, h.2.2.1, h.2.2.2.1, h.2.2.2.2.1, h.2.2.2.2.2.1, h.2.2.2.2.2.2⟩
theorem jw_ {c c' x : Int32} {k : Nat} (hk : c = nI k) (hk' : c' = nI k) (hk8 : k < 1000) : wi_ x.toInt64 0 (c - 1).toInt64 ↔ jm_ x c' := by
  constructor
  · intro h
    obtain ⟨m, hm, rfl⟩ := im_out hk hk8 h
    exact jm_in hk' hk8 hm
  · intro h
    obtain ⟨m, hm, rfl⟩ := jm_out hk' hk8 h
    exact im_in hk hk8 hm
theorem wb_ {x : Int64} {lo hi : Int64} {l h : Int} (hl : lo.toInt = l) (hh : hi.toInt = h) : wi_ x lo hi ↔ be6_ x l h := by rw [wi_iff, hl, hh]; rfl
theorem wc6_ {x : Int32} {lo hi : Int64} {l h : Int} (hl : lo.toInt = l) (hh : hi.toInt = h) : wi_ x.toInt64 lo hi ↔ bd_ x l h := by rw [wi_iff, hl, hh, t64]; rfl
theorem tm_b {x : Int64} : tm_ x ↔ be6_ x (-1000000000000000) 1000000000000000 := wb_ (by decide +kernel) (by decide +kernel)
theorem tn_b {x : Int32} : tn_ x ↔ bd_ x (-1000000) 1000000 := wc6_ (by decide +kernel) (by decide +kernel)
/-- a new number in one place of a table -/
theorem upM_ {P : Nat → Prop} {a b : Nat → Int64} {i : Nat} {x : Int64} (hb : ∀ m, b m = if m = i then x else a m) (m : Nat) : (m = i ∧ b m = x) ∨ (m ≠ i ∧ b m = a m) := by
  by_cases h : m = i
  · exact Or.inl ⟨h, by rw [hb, if_pos h]⟩
  · exact Or.inr ⟨h, by rw [hb, if_neg h]⟩
