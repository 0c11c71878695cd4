/-! The layers, on both sides: numbers and loops -/
theorem loop1 {a : St_} {G : Nat → St_} {V : Nat} {E : Nat → Int64} (h0 : G 0 = a) (hs : ∀ i, G (i + 1) = sl_ (G i) V 0 i (E i)) : ∀ i v x y, gl_ (G i) v x y = if v = V ∧ x = 0 ∧ y < i then E y else gl_ a v x y
  | 0, v, x, y => by rw [if_neg (by omega), h0]
  | i + 1, v, x, y => by
    rw [hs, gl_sl, loop1 h0 hs i v x y]
    by_cases e : v = V ∧ x = 0 ∧ y = i
    · rw [if_pos e, if_pos (by omega), e.2.2]
    · rw [if_neg e]
      by_cases e2 : v = V ∧ x = 0 ∧ y < i
      · rw [if_pos e2, if_pos (by omega)]
      · rw [if_neg e2, if_neg (by omega)]
theorem loop2 {a : St_} {G : Nat → St_} {V U : Nat} {E F : Nat → Int64} (h0 : G 0 = a) (hs : ∀ i, G (i + 1) = sl_ (sl_ (G i) V 0 i (E i)) U 0 i (F i)) (hVU : V ≠ U) : ∀ i v x y, gl_ (G i) v x y = if v = V ∧ x = 0 ∧ y < i then E y else if v = U ∧ x = 0 ∧ y < i then F y else gl_ a v x y
  | 0, v, x, y => by rw [if_neg (by omega), if_neg (by omega), h0]
  | i + 1, v, x, y => by
    rw [hs, gl_sl, gl_sl, loop2 h0 hs hVU i v x y]
    by_cases e2 : v = U ∧ x = 0 ∧ y = i
    · rw [if_pos e2, if_neg (show ¬ (v = V ∧ x = 0 ∧ y < i + 1) by omega), if_pos (show v = U ∧ x = 0 ∧ y < i + 1 by omega), e2.2.2]
    · rw [if_neg e2]
      by_cases e1 : v = V ∧ x = 0 ∧ y = i
      · rw [if_pos e1, if_pos (show v = V ∧ x = 0 ∧ y < i + 1 by omega), e1.2.2]
      · rw [if_neg e1]
        by_cases q1 : v = V ∧ x = 0 ∧ y < i
        · rw [if_pos q1, if_pos (show v = V ∧ x = 0 ∧ y < i + 1 by omega)]
        · rw [if_neg q1, if_neg (show ¬ (v = V ∧ x = 0 ∧ y < i + 1) by omega)]
          by_cases q2 : v = U ∧ x = 0 ∧ y < i
          · rw [if_pos q2, if_pos (show v = U ∧ x = 0 ∧ y < i + 1 by omega)]
          · rw [if_neg q2, if_neg (show ¬ (v = U ∧ x = 0 ∧ y < i + 1) by omega)]
theorem np_N {c : Int64} : np_ c = lN c.toInt.toNat := by
  unfold np_
  by_cases h : 0 ≤ c
  · rw [if_pos h]
    exact (lN_of (Kit.i64_nonneg.mp h)).1
  · rw [if_neg h, show c.toInt.toNat = 0 by have : ¬ 0 ≤ c.toInt := fun z => h (Kit.i64_nonneg.mpr z); omega]
    decide +kernel
theorem mx_N {c : Int64} : mx_ 0 c = lN c.toInt.toNat := by
  rw [← np_N]
  unfold mx_ np_
  by_cases h : 0 ≤ c
  · rw [if_pos h, if_neg (Int64.not_lt.mpr h)]
  · rw [if_neg h, if_pos (Int64.not_le.mp h)]
theorem na_N {c : Int64} (hc : be6_ c (-1000000000000000) 1000000000000000) : na_ c = lN (-c.toInt).toNat := by
  unfold na_
  unfold be6_ at hc
  by_cases h : 0 ≤ c
  · have := Kit.i64_nonneg.mp h
    rw [if_pos h, show (-c.toInt).toNat = 0 by omega]
    decide +kernel
  · have h2 : ¬ 0 ≤ c.toInt := fun z => h (Kit.i64_nonneg.mpr z)
    rw [if_neg h]
    refine Int64.toInt_inj.mp ?_
    rw [Kit.i64_neg (by omega), lN_I (by omega)]
    omega
theorem mxn_N {c : Int64} (hc : be6_ c (-1000000000000000) 1000000000000000) : mx_ 0 (-c) = lN (-c.toInt).toNat := by
  rw [mx_N]
  unfold be6_ at hc
  rw [Kit.i64_neg (by omega)]
theorem mn_N {a b : Nat} (ha : a < 2 ^ 63) (hb : b < 2 ^ 63) : mn_ (lN a) (lN b) = lN (min a b) := by
  unfold mn_
  by_cases h : b < a
  · rw [if_pos ((lN_lt6 hb ha).mpr h), Nat.min_eq_right (by omega)]
  · rw [if_neg (fun z => h ((lN_lt6 hb ha).mp z)), Nat.min_eq_left (by omega)]
theorem ni_N {a b : Nat} (ha : a < 2 ^ 63) (hb : b < 2 ^ 63) : ni_ (lN a) (lN b) = lN (min a b) := by
  unfold ni_
  by_cases h : b ≤ a
  · rw [if_pos ((lN_le6 hb ha).mpr h), Nat.min_eq_right (by omega)]
  · rw [if_neg (fun z => h ((lN_le6 hb ha).mp z)), Nat.min_eq_left (by omega)]
theorem be_l (a : St_) (j : Nat) (X : Int64) (v x y : Nat) : gl_ (be_ a j X) v x y = if v = 9 ∧ x = 0 ∧ y = 0 then gl_ a 9 0 0 - X else if v = 7 ∧ x = 0 ∧ y = j then gl_ a 7 0 j + X else gl_ a v x y := by
  rw [be_, gl_sl, gl_sl, gl_sl, if_neg (show ¬ (9 = 7 ∧ 0 = 0 ∧ 0 = j) by omega)]
theorem sy_l (a : St_) (q v x y : Nat) : gl_ (sy_ a q) v x y = if v = 5 ∧ x = 0 ∧ y = q then gl_ a 5 0 q + mx_ 0 (-(gl_ a 5 0 q)) else if v = 9 ∧ x = 0 ∧ y = 0 then mx_ 0 (-(gl_ a 5 0 q)) else gl_ a v x y := by
  rw [sy_, gl_sl, gl_sl, gl_sl, gl_sl, if_neg (show ¬ (5 = 9 ∧ 0 = 0 ∧ q = 0) by omega), if_pos (show 9 = 9 ∧ 0 = 0 ∧ 0 = 0 from ⟨rfl, rfl, rfl⟩)]
theorem bo_l (a : St_) (q v x y : Nat) : gl_ (bo_ a q) v x y = if v = 9 ∧ x = 0 ∧ y = 0 then gl_ a 9 0 0 - mn_ (gl_ a 9 0 0) (gl_ a 6 0 q) else if v = 7 ∧ x = 0 ∧ y = 0 then gl_ a 7 0 0 + mn_ (gl_ a 9 0 0) (gl_ a 6 0 q) else if v = 6 ∧ x = 0 ∧ y = q then gl_ a 6 0 q - mn_ (gl_ a 9 0 0) (gl_ a 6 0 q) else gl_ a v x y := by
  rw [bo_, be_l, gl_sl, gl_sl, gl_sl, if_neg (show ¬ (9 = 6 ∧ 0 = 0 ∧ 0 = q) by omega), if_neg (show ¬ (7 = 6 ∧ 0 = 0 ∧ 0 = q) by omega)]
theorem bp_l (a : St_) (v x y : Nat) : gl_ (bp_ a) v x y = if v = 9 ∧ x = 0 ∧ y = 0 then gl_ a 9 0 0 - mn_ (gl_ a 9 0 0) (gl_ a 8 0 0) else if v = 7 ∧ x = 0 ∧ y = 1 then gl_ a 7 0 1 + mn_ (gl_ a 9 0 0) (gl_ a 8 0 0) else if v = 8 ∧ x = 0 ∧ y = 0 then gl_ a 8 0 0 - mn_ (gl_ a 9 0 0) (gl_ a 8 0 0) else gl_ a v x y := by
  rw [bp_, be_l, gl_sl, gl_sl, gl_sl, if_neg (show ¬ (9 = 8 ∧ 0 = 0 ∧ 0 = 0) by omega), if_neg (show ¬ (7 = 8 ∧ 0 = 0 ∧ 1 = 0) by omega)]
theorem zl_1 (a : St_) : ∀ i, (zl_ a i).1 = a.1
  | 0 => rfl
  | i + 1 => zl_1 a i
theorem zl_i (a : St_) (i v x y : Nat) : gi_ (zl_ a i) v x y = gi_ a v x y := by
  unfold gi_
  rw [zl_1]
theorem zl_l (a : St_) (i v x y : Nat) : gl_ (zl_ a i) v x y = if v = 7 ∧ x = 0 ∧ y < i then 0 else gl_ a v x y := loop1 (a := a) (G := zl_ a) (V := 7) (E := fun _ => 0) rfl (fun _ => rfl) i v x y
theorem sp_1 (a : St_) : ∀ i, (sp_ a i).1 = a.1
  | 0 => rfl
  | i + 1 => sp_1 a i
theorem sp_i (a : St_) (i v x y : Nat) : gi_ (sp_ a i) v x y = gi_ a v x y := by
  unfold gi_
  rw [sp_1]
theorem sp_l (a : St_) (i v x y : Nat) : gl_ (sp_ a i) v x y = if v = 5 ∧ x = 0 ∧ y < i then gl_ a 2 y 0 else if v = 6 ∧ x = 0 ∧ y < i then gl_ a 3 y 0 else gl_ a v x y := by
  have h := loop2 (a := a) (G := sp_ a) (V := 5) (U := 6) (E := fun i => gl_ (sp_ a i) 2 i 0) (F := fun i => gl_ (sl_ (sp_ a i) 5 0 i (gl_ (sp_ a i) 2 i 0)) 3 i 0) rfl (fun _ => rfl) (by decide)
  rw [h]
  by_cases e : v = 5 ∧ x = 0 ∧ y < i
  · rw [if_pos e, if_pos e]
    rw [h, if_neg (by omega), if_neg (by omega)]
  · rw [if_neg e, if_neg e]
    by_cases e2 : v = 6 ∧ x = 0 ∧ y < i
    · rw [if_pos e2, if_pos e2]
      rw [gl_sl, if_neg (by omega), h, if_neg (by omega), if_neg (by omega)]
    · rw [if_neg e2, if_neg e2]
theorem wc_1 (a : St_) : ∀ i, (wc_ a i).1 = a.1
  | 0 => rfl
  | i + 1 => wc_1 a i
theorem wc_i (a : St_) (i v x y : Nat) : gi_ (wc_ a i) v x y = gi_ a v x y := by
  unfold gi_
  rw [wc_1]
theorem wc_l (a : St_) (i v x y : Nat) : gl_ (wc_ a i) v x y = if v = 10 ∧ x = 0 ∧ y < i then (if gi_ a 3 y 0 = 0 then gl_ a 3 y 0 else 0) else gl_ a v x y := by
  have h := loop1 (a := a) (G := wc_ a) (V := 10) (E := fun i => if gi_ (wc_ a i) 3 i 0 = 0 then gl_ (wc_ a i) 3 i 0 else 0) rfl (fun _ => rfl)
  rw [h]
  by_cases e : v = 10 ∧ x = 0 ∧ y < i
  · rw [if_pos e, if_pos e]
    rw [wc_i, h, if_neg (show ¬ (3 = 10 ∧ y = 0 ∧ 0 < y) by omega)]
  · rw [if_neg e, if_neg e]
theorem wl_1 (a : St_) : ∀ i, (wl_ a i).1 = a.1
  | 0 => rfl
  | i + 1 => wl_1 a i
theorem wl_i (a : St_) (i v x y : Nat) : gi_ (wl_ a i) v x y = gi_ a v x y := by
  unfold gi_
  rw [wl_1]
theorem wl_l (a : St_) (i v x y : Nat) : gl_ (wl_ a i) v x y = if v = 10 ∧ x = 0 ∧ y < i then (if gi_ a 3 y 0 = 0 then mn_ (gl_ a 3 y 0) (mx_ 0 (gl_ a 5 0 y)) else 0) else gl_ a v x y := by
  have h := loop1 (a := a) (G := wl_ a) (V := 10) (E := fun i => if gi_ (wl_ a i) 3 i 0 = 0 then mn_ (gl_ (wl_ a i) 3 i 0) (mx_ 0 (gl_ (wl_ a i) 5 0 i)) else 0) rfl (fun _ => rfl)
  rw [h]
  by_cases e : v = 10 ∧ x = 0 ∧ y < i
  · rw [if_pos e, if_pos e]
    rw [wl_i, h, if_neg (show ¬ (3 = 10 ∧ y = 0 ∧ 0 < y) by omega), h, if_neg (show ¬ (5 = 10 ∧ 0 = 0 ∧ y < y) by omega)]
  · rw [if_neg e, if_neg e]
theorem cq_1 (a : St_) : ∀ i, (cq_ a i).1 = a.1
  | 0 => rfl
  | i + 1 => cq_1 a i
theorem cq_i (a : St_) (i v x y : Nat) : gi_ (cq_ a i) v x y = gi_ a v x y := by
  unfold gi_
  rw [cq_1]
theorem cq_l (a : St_) (i v x y : Nat) : gl_ (cq_ a i) v x y = if v = 4 ∧ x = 0 ∧ y < i then gl_ a 7 0 y else gl_ a v x y := by
  have h := loop1 (a := a) (G := cq_ a) (V := 4) (E := fun i => gl_ (cq_ a i) 7 0 i) rfl (fun _ => rfl)
  rw [h]
  by_cases e : v = 4 ∧ x = 0 ∧ y < i
  · rw [if_pos e, if_pos e]
    rw [h, if_neg (by omega)]
  · rw [if_neg e, if_neg e]
theorem ea_1 (a : St_) : ∀ i, (ea_ a i).1 = a.1
  | 0 => rfl
  | i + 1 => ea_1 a i
theorem ea_i (a : St_) (i v x y : Nat) : gi_ (ea_ a i) v x y = gi_ a v x y := by
  unfold gi_
  rw [ea_1]
theorem ea_l (a : St_) (i v x y : Nat) : gl_ (ea_ a i) v x y = if v = 26 ∧ x = 0 ∧ y < i then gl_ a 20 0 y else gl_ a v x y := by
  have h := loop1 (a := a) (G := ea_ a) (V := 26) (E := fun i => gl_ (ea_ a i) 20 0 i) rfl (fun _ => rfl)
  rw [h]
  by_cases e : v = 26 ∧ x = 0 ∧ y < i
  · rw [if_pos e, if_pos e]
    rw [h, if_neg (by omega)]
  · rw [if_neg e, if_neg e]
theorem er_1 (a : St_) : ∀ i, (er_ a i).1 = a.1
  | 0 => rfl
  | i + 1 => er_1 a i
theorem er_i (a : St_) (i v x y : Nat) : gi_ (er_ a i) v x y = gi_ a v x y := by
  unfold gi_
  rw [er_1]
theorem er_l (a : St_) (i v x y : Nat) : gl_ (er_ a i) v x y = if v = 20 ∧ x = 0 ∧ y < i then gl_ a 26 0 y else gl_ a v x y := by
  have h := loop1 (a := a) (G := er_ a) (V := 20) (E := fun i => gl_ (er_ a i) 26 0 i) rfl (fun _ => rfl)
  rw [h]
  by_cases e : v = 20 ∧ x = 0 ∧ y < i
  · rw [if_pos e, if_pos e]
    rw [h, if_neg (by omega)]
  · rw [if_neg e, if_neg e]
theorem fb_1 (a : St_) : ∀ i, (fb_ a i).1 = a.1
  | 0 => rfl
  | i + 1 => fb_1 a i
theorem fb_i (a : St_) (i v x y : Nat) : gi_ (fb_ a i) v x y = gi_ a v x y := by
  unfold gi_
  rw [fb_1]
theorem fb_l (a : St_) (i v x y : Nat) : gl_ (fb_ a i) v x y = if v = 21 ∧ x = 0 ∧ y < i then gl_ a 21 0 y - gl_ a 30 0 y else gl_ a v x y := by
  have h := loop1 (a := a) (G := fb_ a) (V := 21) (E := fun i => gl_ (fb_ a i) 21 0 i - gl_ (fb_ a i) 30 0 i) rfl (fun _ => rfl)
  rw [h]
  by_cases e : v = 21 ∧ x = 0 ∧ y < i
  · rw [if_pos e, if_pos e]
    rw [h, if_neg (by omega), h, if_neg (by omega)]
  · rw [if_neg e, if_neg e]
theorem fc_1 (a : St_) : ∀ i, (fc_ a i).1 = a.1
  | 0 => rfl
  | i + 1 => fc_1 a i
theorem fc_i (a : St_) (i v x y : Nat) : gi_ (fc_ a i) v x y = gi_ a v x y := by
  unfold gi_
  rw [fc_1]
theorem fc_l (a : St_) (i v x y : Nat) : gl_ (fc_ a i) v x y = if v = 29 ∧ x = 0 ∧ y < i then ni_ (gl_ a 27 0 y) (np_ (gl_ a 20 0 y)) else gl_ a v x y := by
  have h := loop1 (a := a) (G := fc_ a) (V := 29) (E := fun i => ni_ (gl_ (fc_ a i) 27 0 i) (np_ (gl_ (fc_ a i) 20 0 i))) rfl (fun _ => rfl)
  rw [h]
  by_cases e : v = 29 ∧ x = 0 ∧ y < i
  · rw [if_pos e, if_pos e]
    rw [h, if_neg (by omega), h, if_neg (by omega)]
  · rw [if_neg e, if_neg e]
theorem fd_1 (a : St_) : ∀ i, (fd_ a i).1 = a.1
  | 0 => rfl
  | i + 1 => fd_1 a i
theorem fd_i (a : St_) (i v x y : Nat) : gi_ (fd_ a i) v x y = gi_ a v x y := by
  unfold gi_
  rw [fd_1]
theorem fd_l (a : St_) (i v x y : Nat) : gl_ (fd_ a i) v x y = if v = 20 ∧ x = 0 ∧ y < i then gl_ a 20 0 y - gl_ a 30 0 y else gl_ a v x y := by
  have h := loop1 (a := a) (G := fd_ a) (V := 20) (E := fun i => gl_ (fd_ a i) 20 0 i - gl_ (fd_ a i) 30 0 i) rfl (fun _ => rfl)
  rw [h]
  by_cases e : v = 20 ∧ x = 0 ∧ y < i
  · rw [if_pos e, if_pos e]
    rw [h, if_neg (by omega), h, if_neg (by omega)]
  · rw [if_neg e, if_neg e]
theorem ex_1 (a : St_) : ∀ i, (ex_ a i).1 = a.1
  | 0 => rfl
  | i + 1 => ex_1 a i
theorem ex_i (a : St_) (i v x y : Nat) : gi_ (ex_ a i) v x y = gi_ a v x y := by
  unfold gi_
  rw [ex_1]
theorem ex_l (a : St_) (i v x y : Nat) : gl_ (ex_ a i) v x y = if v = 25 ∧ x = 0 ∧ y < i then gl_ a 28 0 y else gl_ a v x y := by
  have h := loop1 (a := a) (G := ex_ a) (V := 25) (E := fun i => gl_ (ex_ a i) 28 0 i) rfl (fun _ => rfl)
  rw [h]
  by_cases e : v = 25 ∧ x = 0 ∧ y < i
  · rw [if_pos e, if_pos e]
    rw [h, if_neg (by omega)]
  · rw [if_neg e, if_neg e]
theorem fa_1 (a : St_) (k : Nat) : ∀ i, (fa_ a k i).1 = a.1
  | 0 => rfl
  | i + 1 => fa_1 a k i
theorem fa_i (a : St_) (k : Nat) (i v x y : Nat) : gi_ (fa_ a k i) v x y = gi_ a v x y := by
  unfold gi_
  rw [fa_1]
theorem fa_l (a : St_) (k : Nat) (i v x y : Nat) : gl_ (fa_ a k i) v x y = if v = 29 ∧ x = 0 ∧ y < i then fv_ a k y else if v = 27 ∧ x = 0 ∧ y < i then fv_ a k y else gl_ a v x y := by
  have h := loop2 (a := a) (G := fa_ a k) (V := 29) (U := 27) (E := fun i => fv_ (fa_ a k i) k i) (F := fun i => gl_ (sl_ (fa_ a k i) 29 0 i (fv_ (fa_ a k i) k i)) 29 0 i) rfl (fun _ => rfl) (by decide)
  rw [h]
  by_cases e : v = 29 ∧ x = 0 ∧ y < i
  · rw [if_pos e, if_pos e]
    rw [fv_, fv_, fa_i, h, if_neg (show ¬ (21 = 29 ∧ 0 = 0 ∧ y < y) by omega), if_neg (show ¬ (21 = 27 ∧ 0 = 0 ∧ y < y) by omega)]
  · rw [if_neg e, if_neg e]
    by_cases e2 : v = 27 ∧ x = 0 ∧ y < i
    · rw [if_pos e2, if_pos e2]
      rw [gl_sl, if_pos (show 29 = 29 ∧ 0 = 0 ∧ y = y from ⟨rfl, rfl, rfl⟩), fv_, fv_, fa_i, h, if_neg (show ¬ (21 = 29 ∧ 0 = 0 ∧ y < y) by omega), if_neg (show ¬ (21 = 27 ∧ 0 = 0 ∧ y < y) by omega)]
    · rw [if_neg e2, if_neg e2]
theorem cp_1 (a : St_) : ∀ i, (cp_ a i).1 = a.1
  | 0 => rfl
  | i + 1 => cp_1 a i
theorem cp_i (a : St_) (i v x y : Nat) : gi_ (cp_ a i) v x y = gi_ a v x y := by
  unfold gi_
  rw [cp_1]
theorem cp_l (a : St_) : ∀ i v x y, gl_ (cp_ a i) v x y = if v = 2 ∧ x < i ∧ y = 0 then gl_ a 5 0 x else if v = 3 ∧ x < i ∧ y = 0 then gl_ a 6 0 x else gl_ a v x y
  | 0, v, x, y => by rw [if_neg (by omega), if_neg (by omega)]; rfl
  | i + 1, v, x, y => by
    have ih := cp_l a i
    have e6 : gl_ (sl_ (cp_ a i) 2 i 0 (gl_ (cp_ a i) 5 0 i)) 6 0 i = gl_ a 6 0 i := by rw [gl_sl, if_neg (by omega), ih, if_neg (by omega), if_neg (by omega)]
    rw [cp_, e6, gl_sl, gl_sl, ih v x y]
    by_cases e2 : v = 3 ∧ x = i ∧ y = 0
    · obtain ⟨rfl, rfl, rfl⟩ := e2
      rw [if_pos ⟨rfl, rfl, rfl⟩, if_neg (by omega), if_pos ⟨rfl, by omega, rfl⟩]
    · rw [if_neg e2]
      by_cases e1 : v = 2 ∧ x = i ∧ y = 0
      · obtain ⟨rfl, rfl, rfl⟩ := e1
        rw [if_pos ⟨rfl, rfl, rfl⟩, if_pos ⟨rfl, by omega, rfl⟩, ih, if_neg (by omega), if_neg (by omega)]
      · rw [if_neg e1]
        by_cases q1 : v = 2 ∧ x < i ∧ y = 0
        · rw [if_pos q1, if_pos (by omega)]
        · rw [if_neg q1, if_neg (show ¬ (v = 2 ∧ x < i + 1 ∧ y = 0) by omega)]
          by_cases q2 : v = 3 ∧ x < i ∧ y = 0
          · rw [if_pos q2, if_pos (by omega)]
          · rw [if_neg q2, if_neg (by omega)]
theorem bc_1 (v j : Nat) (a : St_) : ∀ i, (bc_ v j a i).1 = a.1
  | 0 => rfl
  | i + 1 => bc_1 v j a i
theorem bc_l (w j : Nat) (hw : w = 5 ∨ w = 6) (a : St_) : ∀ i v x y, gl_ (bc_ w j a i) v x y = if v = 9 ∧ x = 0 ∧ y = 0 then gl_ a 9 0 0 - ps_ (fun m => gl_ a 11 0 m) i else if v = 7 ∧ x = 0 ∧ y = j then gl_ a 7 0 j + ps_ (fun m => gl_ a 11 0 m) i else if v = w ∧ x = 0 ∧ y < i then gl_ a w 0 y - gl_ a 11 0 y else gl_ a v x y
  | 0, v, x, y => by
    rw [ps_, Int64.sub_zero, Int64.add_zero, if_neg (show ¬ (v = w ∧ x = 0 ∧ y < 0) by omega)]
    by_cases e9 : v = 9 ∧ x = 0 ∧ y = 0
    · rw [if_pos e9]; obtain ⟨rfl, rfl, rfl⟩ := e9; rfl
    · rw [if_neg e9]
      by_cases e7 : v = 7 ∧ x = 0 ∧ y = j
      · rw [if_pos e7]; obtain ⟨rfl, rfl, rfl⟩ := e7; rfl
      · rw [if_neg e7]; rfl
  | i + 1, v, x, y => by
    have ih := bc_l w j hw a i
    have e11 : gl_ (bc_ w j a i) 11 0 i = gl_ a 11 0 i := by rw [ih, if_neg (by omega), if_neg (by omega), if_neg (by omega)]
    have ew : gl_ (bc_ w j a i) w 0 i = gl_ a w 0 i := by rw [ih, if_neg (by omega), if_neg (by omega), if_neg (by omega)]
    have e9' : gl_ (bc_ w j a i) 9 0 0 = gl_ a 9 0 0 - ps_ (fun m => gl_ a 11 0 m) i := by rw [ih, if_pos ⟨rfl, rfl, rfl⟩]
    have e7' : gl_ (bc_ w j a i) 7 0 j = gl_ a 7 0 j + ps_ (fun m => gl_ a 11 0 m) i := by rw [ih, if_neg (by omega), if_pos ⟨rfl, rfl, rfl⟩]
    rw [bc_, be_l, gl_sl, gl_sl, gl_sl, gl_sl, if_neg (show ¬ (9 = w ∧ 0 = 0 ∧ 0 = i) by omega), if_neg (show ¬ (7 = w ∧ 0 = 0 ∧ j = i) by omega), if_neg (show ¬ (11 = w ∧ 0 = 0 ∧ i = i) by omega), e11, ew, e9', e7', ps_]
    by_cases c9 : v = 9 ∧ x = 0 ∧ y = 0
    · rw [if_pos c9, if_pos c9, sub_add6]
    · rw [if_neg c9, if_neg c9]
      by_cases c7 : v = 7 ∧ x = 0 ∧ y = j
      · rw [if_pos c7, if_pos c7, Int64.add_assoc]
      · rw [if_neg c7, if_neg c7]
        by_cases cw : v = w ∧ x = 0 ∧ y = i
        · obtain ⟨rfl, rfl, rfl⟩ := cw
          rw [if_pos ⟨rfl, rfl, rfl⟩, if_pos ⟨rfl, rfl, by omega⟩]
        · rw [if_neg cw, ih, if_neg c9, if_neg c7]
          by_cases c2 : v = w ∧ x = 0 ∧ y < i
          · rw [if_pos c2, if_pos (by omega)]
          · rw [if_neg c2, if_neg (by omega)]
theorem eb_2 (a : St_) : ∀ i, (eb_ a i).2 = a.2
  | 0 => rfl
  | i + 1 => eb_2 a i
theorem eb_l (a : St_) (i v x y : Nat) : gl_ (eb_ a i) v x y = gl_ a v x y := by
  unfold gl_
  rw [eb_2]
theorem eb_i (a : St_) : ∀ i v x y, gi_ (eb_ a i) v x y = if v = 30 ∧ x = 0 ∧ y < i then gi_ a 24 0 y else gi_ a v x y
  | 0, v, x, y => by rw [if_neg (by omega)]; rfl
  | i + 1, v, x, y => by
    have ih := eb_i a i
    rw [eb_, gi_si, ih v x y]
    by_cases e : v = 30 ∧ x = 0 ∧ y = i
    · obtain ⟨rfl, rfl, rfl⟩ := e
      rw [if_pos ⟨rfl, rfl, rfl⟩, if_pos ⟨rfl, rfl, by omega⟩, ih, if_neg (by omega)]
    · rw [if_neg e]
      by_cases e2 : v = 30 ∧ x = 0 ∧ y < i
      · rw [if_pos e2, if_pos (by omega)]
      · rw [if_neg e2, if_neg (by omega)]
theorem es_2 (a : St_) : ∀ i, (es_ a i).2 = a.2
  | 0 => rfl
  | i + 1 => es_2 a i
theorem es_l (a : St_) (i v x y : Nat) : gl_ (es_ a i) v x y = gl_ a v x y := by
  unfold gl_
  rw [es_2]
theorem es_i (a : St_) : ∀ i v x y, gi_ (es_ a i) v x y = if v = 24 ∧ x = 0 ∧ y < i then gi_ a 30 0 y else gi_ a v x y
  | 0, v, x, y => by rw [if_neg (by omega)]; rfl
  | i + 1, v, x, y => by
    have ih := es_i a i
    rw [es_, gi_si, ih v x y]
    by_cases e : v = 24 ∧ x = 0 ∧ y = i
    · obtain ⟨rfl, rfl, rfl⟩ := e
      rw [if_pos ⟨rfl, rfl, rfl⟩, if_pos ⟨rfl, rfl, by omega⟩, ih, if_neg (by omega)]
    · rw [if_neg e]
      by_cases e2 : v = 24 ∧ x = 0 ∧ y < i
      · rw [if_pos e2, if_pos (by omega)]
      · rw [if_neg e2, if_neg (by omega)]
