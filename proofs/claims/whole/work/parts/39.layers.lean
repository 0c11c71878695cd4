/-! The layers, on both sides -/
def Lr_ (c b : St_) (q k : Nat) : Prop := (k ≤ 8 ∧ q < k) ∧ (∀ m, m < k → gl_ c 5 0 m = gl_ b 20 0 m ∧ be6_ (gl_ c 5 0 m) (-1000000000000000) 1000000000000000) ∧ (∀ m, m < 8 → gl_ c 3 m 0 = gl_ b 21 0 m ∧ be6_ (gl_ c 3 m 0) 0 1000000000000) ∧ (∀ m, m < k → gl_ c 6 0 m = gl_ c 3 m 0) ∧ (gl_ c 8 0 0 = gl_ b 22 0 0 ∧ be6_ (gl_ c 8 0 0) 0 1000000000000000) ∧ (∀ m, m < 8 → gi_ c 3 m 0 = gi_ b 23 0 m) ∧ gi_ c 3 q 0 = 1 ∧ ∀ m, m < 8 → k ≤ m → gl_ c 10 0 m = 0
def yy_ (X W : Nat) : Nat := if X < W then X else W
theorem layer_ {A B : St_} {w : Nat → Nat} {X v j : Nat} (hv : v = 5 ∨ v = 6) (hw : Wn_ w A 10) (hwB : Wn_ w B 29) (hb : ∀ m, m < 8 → w m ≤ 1000000000000) (hX : X < 2 ^ 60) (h9 : gl_ A 9 0 0 = lN X) : ∃ p : Nat → Nat, hc_ B (lN X) ∧ shv_ B (lN X) = lN (yy_ X (sn_ w 8)) ∧ (∀ m, m < 8 → p m ≤ w m) ∧ (∀ m, m < 8 → gl_ (shs_ B (lN X)) 30 0 m = lN (p m)) ∧
    gl_ (bc_ v j (sq_ A (gl_ A 9 0 0)) 8) 9 0 0 = lN (X - yy_ X (sn_ w 8)) ∧ gl_ (bc_ v j (sq_ A (gl_ A 9 0 0)) 8) 7 0 j = gl_ A 7 0 j + lN (yy_ X (sn_ w 8)) ∧ (∀ m, m < 8 → gl_ (bc_ v j (sq_ A (gl_ A 9 0 0)) 8) v 0 m = gl_ A v 0 m - lN (p m)) ∧
    (∀ u x y, u ≠ v → u ≠ 9 → u ≠ 11 → u ≠ 12 → ¬ (u = 7 ∧ x = 0 ∧ y = j) → gl_ (bc_ v j (sq_ A (gl_ A 9 0 0)) 8) u x y = gl_ A u x y) ∧ (bc_ v j (sq_ A (gl_ A 9 0 0)) 8).1 = A.1 := by
  rw [h9]
  obtain ⟨s1, s2, p, s3, s4, s5, s6⟩ := split_sim hw hwB hb hX
  have hY : yy_ X (sn_ w 8) ≤ X := by unfold yy_; split <;> omega
  have eps : ps_ (fun m => gl_ (sq_ A (lN X)) 11 0 m) 8 = lN (yy_ X (sn_ w 8)) := by
    rw [ps_congr (g := fun m => lN (p m)) 8 s3, ps_N, s6]
    rfl
  refine ⟨p, s1, s2, s5, s4, ?_, ?_, fun m hm => ?_, fun u x y h1 h2 h3 h4 h5 => ?_, ?_⟩
  · rw [bc_l v j hv, if_pos ⟨rfl, rfl, rfl⟩, eps, sq_o _ _ _ _ _ (by decide) (by decide), h9, lN_sub hY]
  · rw [bc_l v j hv, if_neg (by omega), if_pos ⟨rfl, rfl, rfl⟩, eps, sq_o _ _ _ _ _ (by decide) (by decide)]
  · rw [bc_l v j hv, if_neg (by omega), if_neg (by omega), if_pos ⟨rfl, rfl, hm⟩, s3 m hm, sq_o _ _ _ _ _ (by omega) (by omega)]
  · rw [bc_l v j hv, if_neg (fun z => h2 z.1), if_neg h5, if_neg (fun z => h1 z.1), sq_o _ _ _ _ _ h3 h4]
  · rw [bc_1, sq_1]
theorem sl_1 (a : St_) (v i j : Nat) (x : Int64) : (sl_ a v i j x).1 = a.1 := rfl
theorem be_1 (a : St_) (j : Nat) (X : Int64) : (be_ a j X).1 = a.1 := by rw [be_, sl_1, sl_1]
theorem bo_1 (a : St_) (q : Nat) : (bo_ a q).1 = a.1 := by rw [bo_, be_1, sl_1]
theorem bp_1 (a : St_) : (bp_ a).1 = a.1 := by rw [bp_, be_1, sl_1]
theorem sy_1 (a : St_) (q : Nat) : (sy_ a q).1 = a.1 := by rw [sy_, sl_1, sl_1]
theorem np_add {c : Int64} (hc : be6_ c (-1000000000000000) 1000000000000000) : c + mx_ 0 (-c) = np_ c := by
  rw [mxn_N hc, np_N]
  unfold be6_ at hc
  refine Int64.toInt_inj.mp ?_
  have e1 := lN_I (n := (-c.toInt).toNat) (by omega)
  have e2 := lN_I (n := c.toInt.toNat) (by omega)
  rw [Kit.i64_add, e1, e2] <;> (try rw [e1]) <;> omega
/-- the first two layers, the class's side -/
theorem l1_sim {c : St_} {q X0 F C : Nat} (hq : be6_ (gl_ c 5 0 q) (-1000000000000000) 1000000000000000) (hX0 : X0 = (-(gl_ c 5 0 q).toInt).toNat) (hF : gl_ c 6 0 q = lN F) (hF1 : F < 2 ^ 60) (hC : gl_ c 8 0 0 = lN C) (hC1 : C < 2 ^ 60) :
    gl_ (l1_ c q) 9 0 0 = lN (X0 - min X0 F - min (X0 - min X0 F) C) ∧ gl_ (l1_ c q) 7 0 0 = lN (min X0 F) ∧ gl_ (l1_ c q) 7 0 1 = lN (min (X0 - min X0 F) C) ∧ (∀ j, j < 5 → 2 ≤ j → gl_ (l1_ c q) 7 0 j = 0) ∧ gl_ (l1_ c q) 8 0 0 = lN C - lN (min (X0 - min X0 F) C) ∧ (∀ m, gl_ (l1_ c q) 6 0 m = if m = q then lN F - lN (min X0 F) else gl_ c 6 0 m) ∧ (∀ m, gl_ (l1_ c q) 5 0 m = if m = q then np_ (gl_ c 5 0 q) else gl_ c 5 0 m) ∧
    (∀ v x y, (v < 5 ∨ 9 < v) → gl_ (l1_ c q) v x y = gl_ c v x y) ∧ (l1_ c q).1 = c.1 := by
  have hq2 := hq
  unfold be6_ at hq2
  have hXb : X0 < 2 ^ 60 := by omega
  have z9 : gl_ (zl_ (sy_ c q) 5) 9 0 0 = lN X0 := by rw [zl_l, if_neg (by omega), sy_l, if_neg (by omega), if_pos ⟨rfl, rfl, rfl⟩, mxn_N hq, hX0]
  have z6 : ∀ m, gl_ (zl_ (sy_ c q) 5) 6 0 m = gl_ c 6 0 m := fun m => by rw [zl_l, if_neg (by omega), sy_l, if_neg (by omega), if_neg (by omega)]
  have z8 : gl_ (zl_ (sy_ c q) 5) 8 0 0 = lN C := by rw [zl_l, if_neg (by omega), sy_l, if_neg (by omega), if_neg (by omega), hC]
  have z7 : ∀ j, j < 5 → gl_ (zl_ (sy_ c q) 5) 7 0 j = 0 := fun j hj => by rw [zl_l, if_pos ⟨rfl, rfl, hj⟩]
  have z5 : ∀ m, gl_ (zl_ (sy_ c q) 5) 5 0 m = if m = q then np_ (gl_ c 5 0 q) else gl_ c 5 0 m := fun m => by
    rw [zl_l, if_neg (by omega), sy_l]
    by_cases e : m = q
    · rw [if_pos ⟨rfl, rfl, e⟩, if_pos e, np_add hq]
    · rw [if_neg (fun z => e z.2.2), if_neg (by omega), if_neg e]
  have zo : ∀ v x y, (v < 5 ∨ 9 < v) → gl_ (zl_ (sy_ c q) 5) v x y = gl_ c v x y := fun v x y h => by rw [zl_l, if_neg (by omega), sy_l, if_neg (by omega), if_neg (by omega)]
  have zf : (zl_ (sy_ c q) 5).1 = c.1 := by rw [zl_1, sy_1]
  rw [l1_]
  generalize zl_ (sy_ c q) 5 = Z at *
  have b9 : gl_ (bo_ Z q) 9 0 0 = lN (X0 - min X0 F) := by rw [bo_l, if_pos ⟨rfl, rfl, rfl⟩, z9, z6, hF, mn_N (by omega) (by omega), lN_sub (Nat.min_le_left _ _)]
  have b7 : ∀ j, j < 5 → gl_ (bo_ Z q) 7 0 j = if j = 0 then lN (min X0 F) else 0 := fun j hj => by
    rw [bo_l, if_neg (by omega)]
    by_cases e : j = 0
    · rw [if_pos ⟨rfl, rfl, e⟩, if_pos e, z7 0 (by omega), z9, z6, hF, mn_N (by omega) (by omega), Int64.zero_add]
    · rw [if_neg (fun z => e z.2.2), if_neg e, if_neg (by omega), z7 j hj]
  have b6 : ∀ m, gl_ (bo_ Z q) 6 0 m = if m = q then lN F - lN (min X0 F) else gl_ c 6 0 m := fun m => by
    rw [bo_l, if_neg (by omega), if_neg (by omega)]
    by_cases e : m = q
    · rw [if_pos ⟨rfl, rfl, e⟩, if_pos e, z6, hF, z9, mn_N (by omega) (by omega)]
    · rw [if_neg (fun z => e z.2.2), if_neg e, z6]
  have b8 : gl_ (bo_ Z q) 8 0 0 = lN C := by rw [bo_l, if_neg (by omega), if_neg (by omega), if_neg (by omega), z8]
  have b5 : ∀ m, gl_ (bo_ Z q) 5 0 m = if m = q then np_ (gl_ c 5 0 q) else gl_ c 5 0 m := fun m => by rw [bo_l, if_neg (by omega), if_neg (by omega), if_neg (by omega), z5]
  have bo : ∀ v x y, (v < 5 ∨ 9 < v) → gl_ (bo_ Z q) v x y = gl_ c v x y := fun v x y h => by rw [bo_l, if_neg (by omega), if_neg (by omega), if_neg (by omega), zo v x y h]
  have bf : (bo_ Z q).1 = c.1 := by rw [bo_1, zf]
  generalize bo_ Z q = Y at *
  refine ⟨?_, ?_, ?_, fun j hj h2 => ?_, ?_, fun m => ?_, fun m => ?_, fun v x y h => ?_, by rw [bp_1, bf]⟩
  · rw [bp_l, if_pos ⟨rfl, rfl, rfl⟩, b9, b8, mn_N (by omega) (by omega), lN_sub (Nat.min_le_left _ _)]
  · rw [bp_l, if_neg (by omega), if_neg (by omega), if_neg (by omega), b7 0 (by omega), if_pos rfl]
  · rw [bp_l, if_neg (by omega), if_pos ⟨rfl, rfl, rfl⟩, b7 1 (by omega), if_neg (by omega), b9, b8, mn_N (by omega) (by omega), Int64.zero_add]
  · rw [bp_l, if_neg (by omega), if_neg (by omega), if_neg (by omega), b7 j hj, if_neg (by omega)]
  · rw [bp_l, if_neg (by omega), if_neg (by omega), if_pos ⟨rfl, rfl, rfl⟩, b9, b8, mn_N (by omega) (by omega)]
  · rw [bp_l, if_neg (by omega), if_neg (by omega), if_neg (by omega), b6]
  · rw [bp_l, if_neg (by omega), if_neg (by omega), if_neg (by omega), b5]
  · rw [bp_l, if_neg (by omega), if_neg (by omega), if_neg (by omega), bo v x y h]
/-- the first two layers, the reference's side -/
theorem b4_sim {b : St_} {q X0 F C : Nat} (hq : be6_ (gl_ b 20 0 q) (-1000000000000000) 1000000000000000) (hX0 : X0 = (-(gl_ b 20 0 q).toInt).toNat) (hF : gl_ b 21 0 q = lN F) (hF1 : F < 2 ^ 60) (hC : gl_ b 22 0 0 = lN C) (hC1 : C < 2 ^ 60) :
    x2_ b q = lN (X0 - min X0 F - min (X0 - min X0 F) C) ∧ gl_ (b4_ b q) 28 0 0 = lN (min X0 F) ∧ gl_ (b4_ b q) 28 0 1 = lN (min (X0 - min X0 F) C) ∧ (∀ m, gl_ (b4_ b q) 21 0 m = if m = q then lN F - lN (min X0 F) else gl_ b 21 0 m) ∧ (∀ m, gl_ (b4_ b q) 20 0 m = if m = q then np_ (gl_ b 20 0 q) else gl_ b 20 0 m) ∧
    (∀ v x y, v ≠ 20 → v ≠ 21 → v ≠ 28 → gl_ (b4_ b q) v x y = gl_ b v x y) ∧ (b4_ b q).1 = b.1 := by
  have hq2 := hq
  unfold be6_ at hq2
  have hXb : X0 < 2 ^ 60 := by omega
  have e0 : x0_ b q = lN X0 := by rw [x0_, na_N hq, hX0]
  have f0 : y0_ b q = lN (min X0 F) := by rw [y0_, e0, hF, ni_N (by omega) (by omega)]
  have e1 : x1_ b q = lN (X0 - min X0 F) := by rw [x1_, e0, f0, lN_sub (Nat.min_le_left _ _)]
  have f1 : y1_ b q = lN (min (X0 - min X0 F) C) := by rw [y1_, e1, hC, ni_N (by omega) (by omega)]
  have e2 : x2_ b q = lN (X0 - min X0 F - min (X0 - min X0 F) C) := by rw [x2_, e1, f1, lN_sub (Nat.min_le_left _ _)]
  refine ⟨e2, ?_, ?_, fun m => ?_, fun m => ?_, fun v x y h1 h2 h3 => ?_, rfl⟩
  · rw [b4_, gl_sl, if_neg (by omega), b3_, gl_sl, if_neg (by omega), b2_, gl_sl, if_pos ⟨rfl, rfl, rfl⟩, f0]
  · rw [b4_, gl_sl, if_pos ⟨rfl, rfl, rfl⟩, f1]
  · rw [b4_, gl_sl, if_neg (by omega), b3_, gl_sl]
    by_cases e : m = q
    · rw [if_pos ⟨rfl, rfl, e⟩, if_pos e, b2_, gl_sl, if_neg (by omega), b1_, gl_sl, if_neg (by omega), hF, gl_sl, if_pos ⟨rfl, rfl, rfl⟩, f0]
    · rw [if_neg (fun z => e z.2.2), if_neg e, b2_, gl_sl, if_neg (by omega), b1_, gl_sl, if_neg (by omega)]
  · rw [b4_, gl_sl, if_neg (by omega), b3_, gl_sl, if_neg (by omega), b2_, gl_sl, if_neg (by omega), b1_, gl_sl]
    by_cases e : m = q
    · rw [if_pos ⟨rfl, rfl, e⟩, if_pos e]
    · rw [if_neg (fun z => e z.2.2), if_neg e]
  · rw [b4_, gl_sl, if_neg (fun z => h3 z.1), b3_, gl_sl, if_neg (fun z => h2 z.1), b2_, gl_sl, if_neg (fun z => h3 z.1), b1_, gl_sl, if_neg (fun z => h1 z.1)]
