/-! THE STATE: numbers by (variable, i, j); the cells that hold them; which cell holds which variable. -/
abbrev St_ : Type := (Nat → Nat → Nat → Int32) × (Nat → Nat → Nat → Int64)
def gi_ (a : St_) (v i j : Nat) : Int32 := a.1 v i j
def gl_ (a : St_) (v i j : Nat) : Int64 := a.2 v i j
def si_ (a : St_) (v i j : Nat) (x : Int32) : St_ := (fun v' i' j' => if v' = v ∧ i' = i ∧ j' = j then x else a.1 v' i' j', a.2)
def sl_ (a : St_) (v i j : Nat) (x : Int64) : St_ := (a.1, fun v' i' j' => if v' = v ∧ i' = i ∧ j' = j then x else a.2 v' i' j')
theorem gi_si (a : St_) (v i j v' i' j' : Nat) (x : Int32) : gi_ (si_ a v i j x) v' i' j' = if v' = v ∧ i' = i ∧ j' = j then x else gi_ a v' i' j' := rfl
theorem gi_sl (a : St_) (v i j v' i' j' : Nat) (x : Int64) : gi_ (sl_ a v i j x) v' i' j' = gi_ a v' i' j' := rfl
theorem gl_sl (a : St_) (v i j v' i' j' : Nat) (x : Int64) : gl_ (sl_ a v i j x) v' i' j' = if v' = v ∧ i' = i ∧ j' = j then x else gl_ a v' i' j' := rfl
theorem gl_si (a : St_) (v i j v' i' j' : Nat) (x : Int32) : gl_ (si_ a v i j x) v' i' j' = gl_ a v' i' j' := rfl
/-- the ghosts of a run: the tables' numbers, the addresses of the cells by (kind, number), the array classes, the first address that is ours -/
abbrev Gh_ : Type := va_G × (Nat → Nat → Nat) × (Nat → ClassId) × Nat
def ad_ (w : Gh_) (k i : Nat) : Nat := w.2.1 k i
def ca_ (w : Gh_) (k : Nat) : ClassId := w.2.2.1 k
def lo_ (w : Gh_) : Nat := w.2.2.2
def en_ (w : Gh_) (a : St_) (k i : Nat) : va_E := match k with
  | 0 => .inr (4, [.ref (ad_ w 1 i), .ref (ad_ w 2 i), .ref (ad_ w 3 i), .ref (ad_ w 4 i), .ref (ad_ w 5 i), .int (gi_ a 0 i 0), .int (gi_ a 1 i 0), .int (gi_ a 2 i 0), .long (gl_ a 0 i 0), .long (gl_ a 1 i 0)])
  | 1 => .inl (ca_ w 2, 8, .inr (.inr (.inr (.inr (fun j => some (ad_ w 6 j))))))
  | 2 => .inl (ca_ w 3, 6, .inr (.inr (.inr (.inr (fun j => some (ad_ w 9 j))))))
  | 3 => .inl (ca_ w 4, 8, .inr (.inr (.inr (.inr (fun j => some (ad_ w 10 j))))))
  | 4 => .inl (ca_ w 1, 5, .inr (.inl (fun j => gl_ a 4 i j)))
  | 5 => .inr (2, [.ref (ad_ w 11 i), .ref (ad_ w 12 i), .ref (ad_ w 13 i), .ref (ad_ w 14 i), .ref (ad_ w 15 i), .long (gl_ a 8 i 0), .long (gl_ a 9 i 0)])
  | 6 => .inr (1, [.ref (ad_ w 7 i), .ref (ad_ w 8 i), .int (gi_ a 3 i 0), .long (gl_ a 2 i 0), .long (gl_ a 3 i 0)])
  | 7 => .inl (ca_ w 0, 6, .inl (fun j => gi_ a 4 i j))
  | 8 => .inl (ca_ w 0, 6, .inl (fun j => gi_ a 5 i j))
  | 9 => .inr (0, [.int (gi_ a 6 i 0), .int (gi_ a 7 i 0), .int (gi_ a 8 i 0)])
  | 10 => .inl (ca_ w 0, 6, .inl (fun j => gi_ a 9 i j))
  | 11 => .inl (ca_ w 0, 6, .inl (fun j => gi_ a 10 i j))
  | 12 => .inl (ca_ w 1, 8, .inr (.inl (fun j => gl_ a 5 i j)))
  | 13 => .inl (ca_ w 1, 8, .inr (.inl (fun j => gl_ a 6 i j)))
  | 14 => .inl (ca_ w 1, 5, .inr (.inl (fun j => gl_ a 7 i j)))
  | 15 => .inr (3, [.ref (ad_ w 16 i), .ref (ad_ w 17 i), .ref (ad_ w 18 i)])
  | 16 => .inl (ca_ w 1, 8, .inr (.inl (fun j => gl_ a 10 i j)))
  | 17 => .inl (ca_ w 1, 8, .inr (.inl (fun j => gl_ a 11 i j)))
  | 18 => .inl (ca_ w 1, 8, .inr (.inl (fun j => gl_ a 12 i j)))
  | 20 => .inr (5, [.int (gi_ a 20 i 0), .int (gi_ a 21 i 0), .int (gi_ a 22 i 0), .ref (ad_ w 21 i), .ref (ad_ w 22 i), .ref (ad_ w 23 i), .ref (ad_ w 24 i), .ref (ad_ w 25 i), .ref (ad_ w 26 i), .ref (ad_ w 27 i), .ref (ad_ w 28 i), .ref (ad_ w 29 i), .long (gl_ a 22 i 0), .long (gl_ a 23 i 0), .long (gl_ a 24 i 0), .ref (ad_ w 30 i), .ref (ad_ w 31 i), .ref (ad_ w 32 i), .ref (ad_ w 33 i), .ref (ad_ w 34 i), .ref (ad_ w 35 i), .ref (ad_ w 36 i), .ref (ad_ w 37 i), .int (gi_ a 31 i 0)])
  | 21 => .inl (ca_ w 1, 8, .inr (.inl (fun j => gl_ a 20 i j)))
  | 22 => .inl (ca_ w 1, 8, .inr (.inl (fun j => gl_ a 21 i j)))
  | 23 => .inl (ca_ w 0, 8, .inl (fun j => gi_ a 23 i j))
  | 24 => .inl (ca_ w 0, 48, .inl (fun j => gi_ a 24 i j))
  | 25 => .inl (ca_ w 0, 48, .inl (fun j => gi_ a 25 i j))
  | 26 => .inl (ca_ w 0, 6, .inl (fun j => gi_ a 26 i j))
  | 27 => .inl (ca_ w 0, 6, .inl (fun j => gi_ a 27 i j))
  | 28 => .inl (ca_ w 0, 6, .inl (fun j => gi_ a 28 i j))
  | 29 => .inl (ca_ w 0, 48, .inl (fun j => gi_ a 29 i j))
  | 30 => .inl (ca_ w 1, 5, .inr (.inl (fun j => gl_ a 25 i j)))
  | 31 => .inl (ca_ w 1, 8, .inr (.inl (fun j => gl_ a 26 i j)))
  | 32 => .inl (ca_ w 1, 8, .inr (.inl (fun j => gl_ a 27 i j)))
  | 33 => .inl (ca_ w 0, 48, .inl (fun j => gi_ a 30 i j))
  | 34 => .inl (ca_ w 1, 5, .inr (.inl (fun j => gl_ a 28 i j)))
  | 35 => .inl (ca_ w 1, 8, .inr (.inl (fun j => gl_ a 29 i j)))
  | 36 => .inl (ca_ w 1, 8, .inr (.inl (fun j => gl_ a 30 i j)))
  | 37 => .inl (ca_ w 1, 8, .inr (.inl (fun j => gl_ a 31 i j)))
  | 40 => .inl (ca_ w 1, 1, .inr (.inl (fun j => gl_ a 40 i j)))
  | _ => .inr (0, [])
def cn_ (k : Nat) : Nat := match k with
  | 0 => 1
  | 1 => 1
  | 2 => 1
  | 3 => 1
  | 4 => 1
  | 5 => 1
  | 6 => 8
  | 7 => 8
  | 8 => 8
  | 9 => 6
  | 10 => 8
  | 11 => 1
  | 12 => 1
  | 13 => 1
  | 14 => 1
  | 15 => 1
  | 16 => 1
  | 17 => 1
  | 18 => 1
  | 20 => 1
  | 21 => 1
  | 22 => 1
  | 23 => 1
  | 24 => 1
  | 25 => 1
  | 26 => 1
  | 27 => 1
  | 28 => 1
  | 29 => 1
  | 30 => 1
  | 31 => 1
  | 32 => 1
  | 33 => 1
  | 34 => 1
  | 35 => 1
  | 36 => 1
  | 37 => 1
  | 40 => 1
  | _ => 0
def kI_ (v : Nat) : Nat := match v with
  | 0 => 0
  | 1 => 0
  | 2 => 0
  | 3 => 6
  | 4 => 7
  | 5 => 8
  | 6 => 9
  | 7 => 9
  | 8 => 9
  | 9 => 10
  | 10 => 11
  | 20 => 20
  | 21 => 20
  | 22 => 20
  | 23 => 23
  | 24 => 24
  | 25 => 25
  | 26 => 26
  | 27 => 27
  | 28 => 28
  | 29 => 29
  | 30 => 33
  | 31 => 20
  | _ => 99
def kL_ (v : Nat) : Nat := match v with
  | 0 => 0
  | 1 => 0
  | 2 => 6
  | 3 => 6
  | 4 => 4
  | 5 => 12
  | 6 => 13
  | 7 => 14
  | 8 => 5
  | 9 => 5
  | 10 => 16
  | 11 => 17
  | 12 => 18
  | 20 => 21
  | 21 => 22
  | 22 => 20
  | 23 => 20
  | 24 => 20
  | 25 => 30
  | 26 => 31
  | 27 => 32
  | 28 => 34
  | 29 => 35
  | 30 => 36
  | 31 => 37
  | 40 => 40
  | _ => 99
theorem en_congr (w : Gh_) {a a' : St_} {k i : Nat} (hI : ∀ v j, kI_ v = k → gi_ a' v i j = gi_ a v i j) (hL : ∀ v j, kL_ v = k → gl_ a' v i j = gl_ a v i j) : en_ w a' k i = en_ w a k i := by
  match k, hI, hL with
  | 0, hI, hL => simp only [en_, hI 0 0 rfl, hI 1 0 rfl, hI 2 0 rfl, hL 0 0 rfl, hL 1 0 rfl]
  | 1, hI, hL => rfl
  | 2, hI, hL => rfl
  | 3, hI, hL => rfl
  | 4, hI, hL =>
    have e : (fun j => gl_ a' 4 i j) = (fun j => gl_ a 4 i j) := funext fun j => hL 4 j rfl
    show (.inl (ca_ w 1, 5, .inr (.inl (fun j => gl_ a' 4 i j))) : va_E) = .inl (ca_ w 1, 5, .inr (.inl (fun j => gl_ a 4 i j)))
    rw [e]
  | 5, hI, hL => simp only [en_, hL 8 0 rfl, hL 9 0 rfl]
  | 6, hI, hL => simp only [en_, hI 3 0 rfl, hL 2 0 rfl, hL 3 0 rfl]
  | 7, hI, hL =>
    have e : (fun j => gi_ a' 4 i j) = (fun j => gi_ a 4 i j) := funext fun j => hI 4 j rfl
    show (.inl (ca_ w 0, 6, .inl (fun j => gi_ a' 4 i j)) : va_E) = .inl (ca_ w 0, 6, .inl (fun j => gi_ a 4 i j))
    rw [e]
  | 8, hI, hL =>
    have e : (fun j => gi_ a' 5 i j) = (fun j => gi_ a 5 i j) := funext fun j => hI 5 j rfl
    show (.inl (ca_ w 0, 6, .inl (fun j => gi_ a' 5 i j)) : va_E) = .inl (ca_ w 0, 6, .inl (fun j => gi_ a 5 i j))
    rw [e]
  | 9, hI, hL => simp only [en_, hI 6 0 rfl, hI 7 0 rfl, hI 8 0 rfl]
  | 10, hI, hL =>
    have e : (fun j => gi_ a' 9 i j) = (fun j => gi_ a 9 i j) := funext fun j => hI 9 j rfl
    show (.inl (ca_ w 0, 6, .inl (fun j => gi_ a' 9 i j)) : va_E) = .inl (ca_ w 0, 6, .inl (fun j => gi_ a 9 i j))
    rw [e]
  | 11, hI, hL =>
    have e : (fun j => gi_ a' 10 i j) = (fun j => gi_ a 10 i j) := funext fun j => hI 10 j rfl
    show (.inl (ca_ w 0, 6, .inl (fun j => gi_ a' 10 i j)) : va_E) = .inl (ca_ w 0, 6, .inl (fun j => gi_ a 10 i j))
    rw [e]
  | 12, hI, hL =>
    have e : (fun j => gl_ a' 5 i j) = (fun j => gl_ a 5 i j) := funext fun j => hL 5 j rfl
    show (.inl (ca_ w 1, 8, .inr (.inl (fun j => gl_ a' 5 i j))) : va_E) = .inl (ca_ w 1, 8, .inr (.inl (fun j => gl_ a 5 i j)))
    rw [e]
  | 13, hI, hL =>
    have e : (fun j => gl_ a' 6 i j) = (fun j => gl_ a 6 i j) := funext fun j => hL 6 j rfl
    show (.inl (ca_ w 1, 8, .inr (.inl (fun j => gl_ a' 6 i j))) : va_E) = .inl (ca_ w 1, 8, .inr (.inl (fun j => gl_ a 6 i j)))
    rw [e]
  | 14, hI, hL =>
    have e : (fun j => gl_ a' 7 i j) = (fun j => gl_ a 7 i j) := funext fun j => hL 7 j rfl
    show (.inl (ca_ w 1, 5, .inr (.inl (fun j => gl_ a' 7 i j))) : va_E) = .inl (ca_ w 1, 5, .inr (.inl (fun j => gl_ a 7 i j)))
    rw [e]
  | 15, hI, hL => rfl
  | 16, hI, hL =>
    have e : (fun j => gl_ a' 10 i j) = (fun j => gl_ a 10 i j) := funext fun j => hL 10 j rfl
    show (.inl (ca_ w 1, 8, .inr (.inl (fun j => gl_ a' 10 i j))) : va_E) = .inl (ca_ w 1, 8, .inr (.inl (fun j => gl_ a 10 i j)))
    rw [e]
  | 17, hI, hL =>
    have e : (fun j => gl_ a' 11 i j) = (fun j => gl_ a 11 i j) := funext fun j => hL 11 j rfl
    show (.inl (ca_ w 1, 8, .inr (.inl (fun j => gl_ a' 11 i j))) : va_E) = .inl (ca_ w 1, 8, .inr (.inl (fun j => gl_ a 11 i j)))
    rw [e]
  | 18, hI, hL =>
    have e : (fun j => gl_ a' 12 i j) = (fun j => gl_ a 12 i j) := funext fun j => hL 12 j rfl
    show (.inl (ca_ w 1, 8, .inr (.inl (fun j => gl_ a' 12 i j))) : va_E) = .inl (ca_ w 1, 8, .inr (.inl (fun j => gl_ a 12 i j)))
    rw [e]
  | 20, hI, hL => simp only [en_, hI 20 0 rfl, hI 21 0 rfl, hI 22 0 rfl, hL 22 0 rfl, hL 23 0 rfl, hL 24 0 rfl, hI 31 0 rfl]
  | 21, hI, hL =>
    have e : (fun j => gl_ a' 20 i j) = (fun j => gl_ a 20 i j) := funext fun j => hL 20 j rfl
    show (.inl (ca_ w 1, 8, .inr (.inl (fun j => gl_ a' 20 i j))) : va_E) = .inl (ca_ w 1, 8, .inr (.inl (fun j => gl_ a 20 i j)))
    rw [e]
  | 22, hI, hL =>
    have e : (fun j => gl_ a' 21 i j) = (fun j => gl_ a 21 i j) := funext fun j => hL 21 j rfl
    show (.inl (ca_ w 1, 8, .inr (.inl (fun j => gl_ a' 21 i j))) : va_E) = .inl (ca_ w 1, 8, .inr (.inl (fun j => gl_ a 21 i j)))
    rw [e]
  | 23, hI, hL =>
    have e : (fun j => gi_ a' 23 i j) = (fun j => gi_ a 23 i j) := funext fun j => hI 23 j rfl
    show (.inl (ca_ w 0, 8, .inl (fun j => gi_ a' 23 i j)) : va_E) = .inl (ca_ w 0, 8, .inl (fun j => gi_ a 23 i j))
    rw [e]
  | 24, hI, hL =>
    have e : (fun j => gi_ a' 24 i j) = (fun j => gi_ a 24 i j) := funext fun j => hI 24 j rfl
    show (.inl (ca_ w 0, 48, .inl (fun j => gi_ a' 24 i j)) : va_E) = .inl (ca_ w 0, 48, .inl (fun j => gi_ a 24 i j))
    rw [e]
  | 25, hI, hL =>
    have e : (fun j => gi_ a' 25 i j) = (fun j => gi_ a 25 i j) := funext fun j => hI 25 j rfl
    show (.inl (ca_ w 0, 48, .inl (fun j => gi_ a' 25 i j)) : va_E) = .inl (ca_ w 0, 48, .inl (fun j => gi_ a 25 i j))
    rw [e]
  | 26, hI, hL =>
    have e : (fun j => gi_ a' 26 i j) = (fun j => gi_ a 26 i j) := funext fun j => hI 26 j rfl
    show (.inl (ca_ w 0, 6, .inl (fun j => gi_ a' 26 i j)) : va_E) = .inl (ca_ w 0, 6, .inl (fun j => gi_ a 26 i j))
    rw [e]
  | 27, hI, hL =>
    have e : (fun j => gi_ a' 27 i j) = (fun j => gi_ a 27 i j) := funext fun j => hI 27 j rfl
    show (.inl (ca_ w 0, 6, .inl (fun j => gi_ a' 27 i j)) : va_E) = .inl (ca_ w 0, 6, .inl (fun j => gi_ a 27 i j))
    rw [e]
  | 28, hI, hL =>
    have e : (fun j => gi_ a' 28 i j) = (fun j => gi_ a 28 i j) := funext fun j => hI 28 j rfl
    show (.inl (ca_ w 0, 6, .inl (fun j => gi_ a' 28 i j)) : va_E) = .inl (ca_ w 0, 6, .inl (fun j => gi_ a 28 i j))
    rw [e]
  | 29, hI, hL =>
    have e : (fun j => gi_ a' 29 i j) = (fun j => gi_ a 29 i j) := funext fun j => hI 29 j rfl
    show (.inl (ca_ w 0, 48, .inl (fun j => gi_ a' 29 i j)) : va_E) = .inl (ca_ w 0, 48, .inl (fun j => gi_ a 29 i j))
    rw [e]
  | 30, hI, hL =>
    have e : (fun j => gl_ a' 25 i j) = (fun j => gl_ a 25 i j) := funext fun j => hL 25 j rfl
    show (.inl (ca_ w 1, 5, .inr (.inl (fun j => gl_ a' 25 i j))) : va_E) = .inl (ca_ w 1, 5, .inr (.inl (fun j => gl_ a 25 i j)))
    rw [e]
  | 31, hI, hL =>
    have e : (fun j => gl_ a' 26 i j) = (fun j => gl_ a 26 i j) := funext fun j => hL 26 j rfl
    show (.inl (ca_ w 1, 8, .inr (.inl (fun j => gl_ a' 26 i j))) : va_E) = .inl (ca_ w 1, 8, .inr (.inl (fun j => gl_ a 26 i j)))
    rw [e]
  | 32, hI, hL =>
    have e : (fun j => gl_ a' 27 i j) = (fun j => gl_ a 27 i j) := funext fun j => hL 27 j rfl
    show (.inl (ca_ w 1, 8, .inr (.inl (fun j => gl_ a' 27 i j))) : va_E) = .inl (ca_ w 1, 8, .inr (.inl (fun j => gl_ a 27 i j)))
    rw [e]
  | 33, hI, hL =>
    have e : (fun j => gi_ a' 30 i j) = (fun j => gi_ a 30 i j) := funext fun j => hI 30 j rfl
    show (.inl (ca_ w 0, 48, .inl (fun j => gi_ a' 30 i j)) : va_E) = .inl (ca_ w 0, 48, .inl (fun j => gi_ a 30 i j))
    rw [e]
  | 34, hI, hL =>
    have e : (fun j => gl_ a' 28 i j) = (fun j => gl_ a 28 i j) := funext fun j => hL 28 j rfl
    show (.inl (ca_ w 1, 5, .inr (.inl (fun j => gl_ a' 28 i j))) : va_E) = .inl (ca_ w 1, 5, .inr (.inl (fun j => gl_ a 28 i j)))
    rw [e]
  | 35, hI, hL =>
    have e : (fun j => gl_ a' 29 i j) = (fun j => gl_ a 29 i j) := funext fun j => hL 29 j rfl
    show (.inl (ca_ w 1, 8, .inr (.inl (fun j => gl_ a' 29 i j))) : va_E) = .inl (ca_ w 1, 8, .inr (.inl (fun j => gl_ a 29 i j)))
    rw [e]
  | 36, hI, hL =>
    have e : (fun j => gl_ a' 30 i j) = (fun j => gl_ a 30 i j) := funext fun j => hL 30 j rfl
    show (.inl (ca_ w 1, 8, .inr (.inl (fun j => gl_ a' 30 i j))) : va_E) = .inl (ca_ w 1, 8, .inr (.inl (fun j => gl_ a 30 i j)))
    rw [e]
  | 37, hI, hL =>
    have e : (fun j => gl_ a' 31 i j) = (fun j => gl_ a 31 i j) := funext fun j => hL 31 j rfl
    show (.inl (ca_ w 1, 8, .inr (.inl (fun j => gl_ a' 31 i j))) : va_E) = .inl (ca_ w 1, 8, .inr (.inl (fun j => gl_ a 31 i j)))
    rw [e]
  | 40, hI, hL =>
    have e : (fun j => gl_ a' 40 i j) = (fun j => gl_ a 40 i j) := funext fun j => hL 40 j rfl
    show (.inl (ca_ w 1, 1, .inr (.inl (fun j => gl_ a' 40 i j))) : va_E) = .inl (ca_ w 1, 1, .inr (.inl (fun j => gl_ a 40 i j)))
    rw [e]
  | 19, hI, hL => rfl
  | 38, hI, hL => rfl
  | 39, hI, hL => rfl
  | k + 41, hI, hL => rfl
theorem en_si (w : Gh_) (a : St_) (v i j : Nat) (x : Int32) (k' i' : Nat) (h : ¬ (k' = kI_ v ∧ i' = i)) : en_ w (si_ a v i j x) k' i' = en_ w a k' i' := by
  refine en_congr w (fun v' j' hv => ?_) (fun v' j' hv => rfl)
  rw [gi_si, if_neg]
  rintro ⟨rfl, rfl, rfl⟩
  exact h ⟨hv.symm, rfl⟩
theorem en_sl (w : Gh_) (a : St_) (v i j : Nat) (x : Int64) (k' i' : Nat) (h : ¬ (k' = kL_ v ∧ i' = i)) : en_ w (sl_ a v i j x) k' i' = en_ w a k' i' := by
  refine en_congr w (fun v' j' hv => rfl) (fun v' j' hv => ?_)
  rw [gl_sl, if_neg]
  rintro ⟨rfl, rfl, rfl⟩
  exact h ⟨hv.symm, rfl⟩
