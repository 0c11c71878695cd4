/-! All layers, on both sides -/
def fn_ (b : St_) (m : Nat) : Nat := (gl_ b 21 0 m).toInt.toNat
def w2_ (b : St_) (k m : Nat) : Nat := if m < k ∧ gi_ b 23 0 m = 0 then fn_ b m else 0
def w3_ (b : St_) (k m : Nat) : Nat := if m < k ∧ gi_ b 23 0 m = 0 then min (fn_ b m) (gl_ b 20 0 m).toInt.toNat else 0
def nc_ (b : St_) (q : Nat) (p : Nat → Nat) (m : Nat) : Int64 := (if m = q then np_ (gl_ b 20 0 q) else gl_ b 20 0 m) - lN (p m)
def nf_ (b : St_) (q Y : Nat) (p : Nat → Nat) (m : Nat) : Int64 := (if m = q then gl_ b 21 0 q - lN Y else gl_ b 21 0 m) - lN (p m)
def La_ (c b : St_) (q k : Nat) (Y0 Y1 Y2 Y3 X4 : Nat) (p2 p3 : Nat → Nat) (D : St_) : Prop := (gl_ D 7 0 0 = lN Y0 ∧ gl_ D 7 0 1 = lN Y1 ∧ gl_ D 7 0 2 = lN Y2 ∧ gl_ D 7 0 3 = lN Y3 ∧ gl_ D 7 0 4 = lN X4) ∧ (∀ m, m < k → gl_ D 5 0 m = nc_ b q p3 m) ∧ (∀ m, m < k → gl_ D 6 0 m = nf_ b q Y0 p2 m) ∧ gl_ D 8 0 0 = gl_ b 22 0 0 - lN Y1 ∧ (∀ v x y, v < 5 → gl_ D v x y = gl_ c v x y) ∧ (∀ m, m < 8 → k ≤ m → gl_ D 10 0 m = 0) ∧ D.1 = c.1 ∧ ∀ v x y, 12 < v → gl_ D v x y = gl_ c v x y
def Lb_ (b : St_) (q : Nat) (Y0 Y1 Y2 Y3 X4 : Nat) (p2 p3 : Nat → Nat) (E : St_) : Prop := (gl_ E 28 0 0 = lN Y0 ∧ gl_ E 28 0 1 = lN Y1 ∧ gl_ E 28 0 2 = lN Y2 ∧ gl_ E 28 0 3 = lN Y3 ∧ gl_ E 28 0 4 = lN X4) ∧ (∀ m, m < 8 → gl_ E 20 0 m = nc_ b q p3 m) ∧ (∀ m, m < 8 → gl_ E 21 0 m = nf_ b q Y0 p2 m) ∧ (∀ v x y, v ≠ 20 → v ≠ 21 → (v < 27 ∨ 31 < v) → gl_ E v x y = gl_ b v x y) ∧ E.1 = b.1
theorem gi_1 {a b : St_} (h : a.1 = b.1) (v x y : Nat) : gi_ a v x y = gi_ b v x y := by unfold gi_; rw [h]
set_option maxHeartbeats 4000000 in
theorem lay_sim {c b : St_} {q k : Nat} (h : Lr_ c b q k) : ∃ (Y0 Y1 Y2 Y3 X4 : Nat) (p2 p3 : Nat → Nat), La_ c b q k Y0 Y1 Y2 Y3 X4 p2 p3 (l4_ c q k) ∧ Lb_ b q Y0 Y1 Y2 Y3 X4 p2 p3 (p8_ b q k) ∧ hc_ (p2_ b q k) (x2_ b q) ∧ hc_ (p5_ b q k) (x3_ b q k) ∧ x4_ b q k = lN X4 ∧
    (∀ m, m < 8 → p2 m ≤ w2_ b k m ∧ p3 m ≤ w3_ b k m) ∧ (∃ X0 C, X0 = (-(gl_ b 20 0 q).toInt).toNat ∧ gl_ b 22 0 0 = lN C ∧ C ≤ 1000000000000000 ∧ gl_ b 21 0 q = lN (fn_ b q) ∧ Y0 = min X0 (fn_ b q) ∧ Y1 = min (X0 - Y0) C ∧ Y2 = yy_ (X0 - Y0 - Y1) (sn_ (w2_ b k) 8) ∧ Y3 = yy_ (X0 - Y0 - Y1 - Y2) (sn_ (w3_ b k) 8) ∧ X4 = X0 - Y0 - Y1 - Y2 - Y3) := by
  obtain ⟨⟨hk8, hqk⟩, h5, h3, h6, ⟨h8, h8b⟩, hs, hsq, h10⟩ := h
  have hq8 : q < 8 := by omega
  obtain ⟨cq1, cq2⟩ := h5 q hqk
  have hN : ∀ m, m < 8 → gl_ b 21 0 m = lN (fn_ b m) ∧ fn_ b m ≤ 1000000000000 := fun m hm => by
    obtain ⟨f1, f2⟩ := h3 m hm
    rw [f1] at f2
    unfold be6_ at f2
    obtain ⟨g1, g2⟩ := lN_of (x := gl_ b 21 0 m) f2.1
    exact ⟨g1, by unfold fn_; omega⟩
  obtain ⟨C, hC, hCb⟩ : ∃ C, gl_ b 22 0 0 = lN C ∧ C ≤ 1000000000000000 := by
    rw [h8] at h8b
    unfold be6_ at h8b
    exact ⟨_, (lN_of h8b.1).1, by omega⟩
  have hcqb : be6_ (gl_ b 20 0 q) (-1000000000000000) 1000000000000000 := by rw [← cq1]; exact cq2
  have hcq2 := hcqb
  unfold be6_ at hcq2
  obtain ⟨X0, hX0⟩ : ∃ X0, X0 = (-(gl_ b 20 0 q).toInt).toNat := ⟨_, rfl⟩
  have hX0b : X0 ≤ 1000000000000000 := by omega
  obtain ⟨hFq, hFqb⟩ := hN q hq8
  obtain ⟨a9, a70, a71, a7, a8, a6, a5, ao, a1⟩ := l1_sim (c := c) (q := q) (X0 := X0) (F := fn_ b q) (C := C) cq2 (by rw [cq1]; exact hX0) (by rw [h6 q hqk, (h3 q hq8).1]; exact hFq) (by omega) (by rw [h8]; exact hC) (by omega)
  obtain ⟨m9, m280, m281, m21, m20, mo, m1⟩ := b4_sim (b := b) (q := q) (X0 := X0) (F := fn_ b q) (C := C) hcqb hX0 hFq (by omega) hC (by omega)
  have hsqb : ¬ gi_ b 23 0 q = 0 := by rw [← hs q hq8, hsq]; decide
  have z0 : lN 0 = 0 := by decide +kernel
  -- weights of the third layer
  have W2c : Wn_ (w2_ b k) (wc_ (l1_ c q) k) 10 := fun m hm => by
    rw [wc_l]
    by_cases e : m < k
    · rw [if_pos ⟨rfl, rfl, e⟩, gi_1 a1, ao 3 m 0 (by omega), hs m hm, w2_, (h3 m hm).1]
      by_cases e2 : gi_ b 23 0 m = 0
      · rw [if_pos e2, if_pos ⟨e, e2⟩, (hN m hm).1]
      · rw [if_neg e2, if_neg (fun z => e2 z.2), z0]
    · rw [if_neg (fun z => e z.2.2), ao 10 0 m (by omega), h10 m hm (by omega), w2_, if_neg (fun z => e z.1), z0]
  have fv2 : ∀ m, m < 8 → fv_ (b4_ b q) k m = lN (w2_ b k m) := fun m hm => by
    rw [fv_, w2_, gi_1 m1]
    by_cases e : m < k ∧ gi_ b 23 0 m = 0
    · have hmq : m ≠ q := fun z => hsqb (by rw [← z]; exact e.2)
      rw [if_pos e, if_pos e, m21, if_neg hmq, (hN m hm).1]
    · rw [if_neg e, if_neg e, z0]
  have W2m : Wn_ (w2_ b k) (p2_ b q k) 29 := fun m hm => by rw [p2_, fa_l, if_pos ⟨rfl, rfl, hm⟩, fv2 m hm]
  have W27 : ∀ m, m < 8 → gl_ (p2_ b q k) 27 0 m = lN (w2_ b k m) := fun m hm => by rw [p2_, fa_l, if_neg (by omega), if_pos ⟨rfl, rfl, hm⟩, fv2 m hm]
  have w2b : ∀ m, m < 8 → w2_ b k m ≤ 1000000000000 := fun m hm => by
    have := (hN m hm).2
    unfold w2_
    split <;> omega
  have w3b : ∀ m, m < 8 → w3_ b k m ≤ 1000000000000 := fun m hm => by
    have := (hN m hm).2
    unfold w3_
    split <;> omega
  obtain ⟨Y0, hY0⟩ : ∃ Y0, Y0 = min X0 (fn_ b q) := ⟨_, rfl⟩
  obtain ⟨Y1, hY1⟩ : ∃ Y1, Y1 = min (X0 - Y0) C := ⟨_, rfl⟩
  rw [← hY0, ← hY1] at a9 a71 a8 m9 m281
  rw [← hY0] at a70 a6 m280 m21
  have c9 : gl_ (wc_ (l1_ c q) k) 9 0 0 = lN (X0 - Y0 - Y1) := by rw [wc_l, if_neg (by omega), a9]
  obtain ⟨p2, u1, u2, u3, u4, u5, u6, u7, u8, u9⟩ := layer_ (v := 6) (j := 2) (Or.inr rfl) W2c W2m w2b (show X0 - Y0 - Y1 < 2 ^ 60 by omega) c9
  have co : ∀ v x y, v ≠ 10 → gl_ (wc_ (l1_ c q) k) v x y = gl_ (l1_ c q) v x y := fun v x y hv => by rw [wc_l, if_neg (fun z => hv z.1)]
  obtain ⟨Y2, hY2⟩ : ∃ Y2, Y2 = yy_ (X0 - Y0 - Y1) (sn_ (w2_ b k) 8) := ⟨_, rfl⟩
  rw [← hY2] at u2 u5 u6
  have hL2 : l2_ c q k = bc_ 6 2 (sq_ (wc_ (l1_ c q) k) (gl_ (wc_ (l1_ c q) k) 9 0 0)) 8 := rfl
  rw [← hL2] at u5 u6 u7 u8 u9
  have L21 : (l2_ c q k).1 = c.1 := by rw [u9, wc_1, a1]
  have L2o : ∀ v x y, (v < 5 ∨ 12 < v) → gl_ (l2_ c q k) v x y = gl_ c v x y := fun v x y hv => by rw [u8 v x y (by omega) (by omega) (by omega) (by omega) (by omega), co v x y (by omega), ao v x y (by omega)]
  have L25 : ∀ m, gl_ (l2_ c q k) 5 0 m = if m = q then np_ (gl_ c 5 0 q) else gl_ c 5 0 m := fun m => by rw [u8 5 0 m (by omega) (by omega) (by omega) (by omega) (by omega), co 5 0 m (by omega), a5]
  have L210 : ∀ m, m < 8 → k ≤ m → gl_ (l2_ c q k) 10 0 m = 0 := fun m hm hk => by rw [u8 10 0 m (by omega) (by omega) (by omega) (by omega) (by omega), W2c m hm, w2_, if_neg (by omega), z0]
  have L28 : gl_ (l2_ c q k) 8 0 0 = gl_ b 22 0 0 - lN Y1 := by rw [u8 8 0 0 (by omega) (by omega) (by omega) (by omega) (by omega), co 8 0 0 (by omega), a8, hC]
  have L27 : ∀ j, j < 5 → j ≠ 2 → gl_ (l2_ c q k) 7 0 j = gl_ (l1_ c q) 7 0 j := fun j hj hj2 => by rw [u8 7 0 j (by omega) (by omega) (by omega) (by omega) (by omega), co 7 0 j (by omega)]
  have L272 : gl_ (l2_ c q k) 7 0 2 = lN Y2 := by rw [u6, co 7 0 2 (by omega), a7 2 (by omega) (by omega), Int64.zero_add]
  have L26 : ∀ m, m < k → gl_ (l2_ c q k) 6 0 m = nf_ b q Y0 p2 m := fun m hm => by
    rw [u7 m (by omega), co 6 0 m (by omega), a6, nf_, h6 m hm, (h3 m (by omega)).1, hFq]
  -- the reference behind the third layer
  have y2 : y2_ b q k = lN Y2 := by rw [y2_, m9, u2]
  have x3 : x3_ b q k = lN (X0 - Y0 - Y1 - Y2) := by
    have : Y2 ≤ X0 - Y0 - Y1 := by rw [hY2]; unfold yy_; split <;> omega
    rw [x3_, m9, y2, lN_sub this]
  have P2o : ∀ v x y, v ≠ 29 → v ≠ 27 → gl_ (p2_ b q k) v x y = gl_ (b4_ b q) v x y := fun v x y h1 h2 => by rw [p2_, fa_l, if_neg (fun z => h1 z.1), if_neg (fun z => h2 z.1)]
  have P3o : ∀ v x y, v ≠ 30 → v ≠ 31 → ¬ (v = 28 ∧ x = 0 ∧ y = 2) → gl_ (p3_ b q k) v x y = gl_ (p2_ b q k) v x y := fun v x y h1 h2 h3 => by rw [p3_, gl_sl, if_neg h3, shs_o _ _ _ _ _ h1 h2]
  have P4o : ∀ v x y, v ≠ 21 → gl_ (p4_ b q k) v x y = gl_ (p3_ b q k) v x y := fun v x y h1 => by rw [p4_, fb_l, if_neg (fun z => h1 z.1)]
  have P421 : ∀ m, m < 8 → gl_ (p4_ b q k) 21 0 m = nf_ b q Y0 p2 m := fun m hm => by
    rw [p4_, fb_l, if_pos ⟨rfl, rfl, hm⟩, P3o 21 0 m (by omega) (by omega) (by omega), P2o 21 0 m (by omega) (by omega), m21, nf_]
    have e30 : gl_ (p3_ b q k) 30 0 m = lN (p2 m) := by rw [p3_, gl_sl, if_neg (by omega), m9, u4 m hm]
    rw [e30, hFq]
  have P420 : ∀ m, gl_ (p4_ b q k) 20 0 m = if m = q then np_ (gl_ b 20 0 q) else gl_ b 20 0 m := fun m => by rw [P4o 20 0 m (by omega), P3o 20 0 m (by omega) (by omega) (by omega), P2o 20 0 m (by omega) (by omega), m20]
  have P427 : ∀ m, m < 8 → gl_ (p4_ b q k) 27 0 m = lN (w2_ b k m) := fun m hm => by rw [P4o 27 0 m (by omega), P3o 27 0 m (by omega) (by omega) (by omega), W27 m hm]
  have P41 : (p4_ b q k).1 = b.1 := by rw [p4_, fb_1, p3_, sl_1, shs_1, p2_, fa_1, m1]
  -- weights of the fourth layer
  have W3c : Wn_ (w3_ b k) (wl_ (l2_ c q k) k) 10 := fun m hm => by
    rw [wl_l]
    by_cases e : m < k
    · rw [if_pos ⟨rfl, rfl, e⟩, gi_1 L21, hs m hm, w3_]
      by_cases e2 : gi_ b 23 0 m = 0
      · have hmq : m ≠ q := fun z => hsqb (by rw [← z]; exact e2)
        have b5 := h5 m e
        have b5b := b5.2
        unfold be6_ at b5b
        rw [b5.1] at b5b
        rw [if_pos e2, if_pos ⟨e, e2⟩, L2o 3 m 0 (by omega), (h3 m hm).1, (hN m hm).1, L25, if_neg hmq, b5.1, mx_N, mn_N (by have := (hN m hm).2; omega) (by omega)]
      · rw [if_neg e2, if_neg (fun z => e2 z.2), z0]
    · rw [if_neg (fun z => e z.2.2), L210 m hm (by omega), w3_, if_neg (fun z => e z.1), z0]
  have W3m : Wn_ (w3_ b k) (p5_ b q k) 29 := fun m hm => by
    rw [p5_, fc_l, if_pos ⟨rfl, rfl, hm⟩, P427 m hm, P420]
    have hw := w2b m hm
    by_cases e : m < k ∧ gi_ b 23 0 m = 0
    · have hmq : m ≠ q := fun z => hsqb (by rw [← z]; exact e.2)
      have b5b := (h5 m e.1).2
      unfold be6_ at b5b
      rw [(h5 m e.1).1] at b5b
      rw [if_neg hmq, np_N, ni_N (by omega) (by omega), w3_, if_pos e, w2_, if_pos e]
    · have e0 : w2_ b k m = 0 := by unfold w2_; rw [if_neg e]
      rw [e0, w3_, if_neg e, np_N]
      have hb63 : ∀ x : Int64, x.toInt.toNat < 2 ^ 63 := fun x => by have := x.toInt_lt; omega
      rw [ni_N (by omega) (hb63 _), Nat.zero_min]
  have d9 : gl_ (wl_ (l2_ c q k) k) 9 0 0 = lN (X0 - Y0 - Y1 - Y2) := by rw [wl_l, if_neg (by omega), u5]
  obtain ⟨p3, v1, v2, v3, v4, v5, v6, v7, v8, v9⟩ := layer_ (v := 5) (j := 3) (Or.inl rfl) W3c W3m w3b (show X0 - Y0 - Y1 - Y2 < 2 ^ 60 by omega) d9
  have do_ : ∀ v x y, v ≠ 10 → gl_ (wl_ (l2_ c q k) k) v x y = gl_ (l2_ c q k) v x y := fun v x y hv => by rw [wl_l, if_neg (fun z => hv z.1)]
  obtain ⟨Y3, hY3⟩ : ∃ Y3, Y3 = yy_ (X0 - Y0 - Y1 - Y2) (sn_ (w3_ b k) 8) := ⟨_, rfl⟩
  rw [← hY3] at v2 v5 v6
  have hL3 : l3_ c q k = bc_ 5 3 (sq_ (wl_ (l2_ c q k) k) (gl_ (wl_ (l2_ c q k) k) 9 0 0)) 8 := rfl
  rw [← hL3] at v5 v6 v7 v8 v9
  obtain ⟨X4, hX4⟩ : ∃ X4, X4 = X0 - Y0 - Y1 - Y2 - Y3 := ⟨_, rfl⟩
  rw [← hX4] at v5
  have L3o : ∀ v x y, v ≠ 5 → v ≠ 9 → v ≠ 11 → v ≠ 12 → v ≠ 10 → ¬ (v = 7 ∧ x = 0 ∧ y = 3) → gl_ (l3_ c q k) v x y = gl_ (l2_ c q k) v x y := fun v x y g1 g2 g3 g4 g5 g6 => by rw [v8 v x y g1 g2 g3 g4 g6, do_ v x y g5]
  have L4o : ∀ v x y, v ≠ 9 → ¬ (v = 7 ∧ x = 0 ∧ y = 4) → gl_ (l4_ c q k) v x y = gl_ (l3_ c q k) v x y := fun v x y g1 g2 => by rw [l4_, bl_, be_l, if_neg (fun z => g1 z.1), if_neg g2]
  have y3 : y3_ b q k = lN Y3 := by rw [y3_, x3, v2]
  have x4 : x4_ b q k = lN X4 := by
    have : Y3 ≤ X0 - Y0 - Y1 - Y2 := by rw [hY3]; unfold yy_; split <;> omega
    rw [x4_, x3, y3, lN_sub this, hX4]
  have P5o : ∀ v x y, v ≠ 29 → gl_ (p5_ b q k) v x y = gl_ (p4_ b q k) v x y := fun v x y h1 => by rw [p5_, fc_l, if_neg (fun z => h1 z.1)]
  have P6o : ∀ v x y, v ≠ 30 → v ≠ 31 → ¬ (v = 28 ∧ x = 0 ∧ y = 3) → gl_ (p6_ b q k) v x y = gl_ (p5_ b q k) v x y := fun v x y h1 h2 h3 => by rw [p6_, gl_sl, if_neg h3, shs_o _ _ _ _ _ h1 h2]
  have P7o : ∀ v x y, v ≠ 20 → gl_ (p7_ b q k) v x y = gl_ (p6_ b q k) v x y := fun v x y h1 => by rw [p7_, fd_l, if_neg (fun z => h1 z.1)]
  have P8o : ∀ v x y, ¬ (v = 28 ∧ x = 0 ∧ y = 4) → gl_ (p8_ b q k) v x y = gl_ (p7_ b q k) v x y := fun v x y h1 => by rw [p8_, gl_sl, if_neg h1]
  have P8p : ∀ v x y, v ≠ 20 → v ≠ 21 → v ≠ 27 → v ≠ 29 → v ≠ 30 → v ≠ 31 → ¬ (v = 28 ∧ x = 0 ∧ 2 ≤ y) → gl_ (p8_ b q k) v x y = gl_ (b4_ b q) v x y := fun v x y g1 g2 g3 g4 g5 g6 g7 => by
    rw [P8o v x y (by omega), P7o v x y g1, P6o v x y g5 g6 (by omega), P5o v x y g4, P4o v x y g2, P3o v x y g5 g6 (by omega), P2o v x y g4 g3]
  refine ⟨Y0, Y1, Y2, Y3, X4, p2, p3, ⟨⟨?_, ?_, ?_, ?_, ?_⟩, fun m hm => ?_, fun m hm => ?_, ?_, fun v x y hv => ?_, fun m hm hk => ?_, ?_, fun v x y hv => ?_⟩, ⟨⟨?_, ?_, ?_, ?_, ?_⟩, fun m hm => ?_, fun m hm => ?_, fun v x y g1 g2 g3 => ?_, ?_⟩, by rw [m9]; exact u1, by rw [x3]; exact v1, x4, fun m hm => ⟨u3 m hm, v3 m hm⟩, X0, C, hX0, hC, hCb, hFq, hY0, hY1, hY2, hY3, hX4⟩
  · rw [L4o 7 0 0 (by omega) (by omega), L3o 7 0 0 (by omega) (by omega) (by omega) (by omega) (by omega) (by omega), L27 0 (by omega) (by omega), a70]
  · rw [L4o 7 0 1 (by omega) (by omega), L3o 7 0 1 (by omega) (by omega) (by omega) (by omega) (by omega) (by omega), L27 1 (by omega) (by omega), a71]
  · rw [L4o 7 0 2 (by omega) (by omega), L3o 7 0 2 (by omega) (by omega) (by omega) (by omega) (by omega) (by omega), L272]
  · rw [L4o 7 0 3 (by omega) (by omega), v6, do_ 7 0 3 (by omega), L27 3 (by omega) (by omega), a7 3 (by omega) (by omega), Int64.zero_add]
  · rw [l4_, bl_, be_l, if_neg (by omega), if_pos ⟨rfl, rfl, rfl⟩, v5, L3o 7 0 4 (by omega) (by omega) (by omega) (by omega) (by omega) (by omega), L27 4 (by omega) (by omega), a7 4 (by omega) (by omega), Int64.zero_add]
  · rw [L4o 5 0 m (by omega) (by omega), v7 m (by omega), do_ 5 0 m (by omega), L25, nc_, cq1, (h5 m hm).1]
  · rw [L4o 6 0 m (by omega) (by omega), L3o 6 0 m (by omega) (by omega) (by omega) (by omega) (by omega) (by omega), L26 m hm]
  · rw [L4o 8 0 0 (by omega) (by omega), L3o 8 0 0 (by omega) (by omega) (by omega) (by omega) (by omega) (by omega), L28]
  · rw [L4o v x y (by omega) (by omega), L3o v x y (by omega) (by omega) (by omega) (by omega) (by omega) (by omega), L2o v x y (by omega)]
  · rw [L4o 10 0 m (by omega) (by omega), v8 10 0 m (by omega) (by omega) (by omega) (by omega) (by omega), W3c m hm, w3_, if_neg (by omega), z0]
  · rw [l4_, bl_, be_1, v9, wl_1, L21]
  · rw [L4o v x y (by omega) (by omega), L3o v x y (by omega) (by omega) (by omega) (by omega) (by omega) (by omega), L2o v x y (by omega)]
  · rw [P8p 28 0 0 (by omega) (by omega) (by omega) (by omega) (by omega) (by omega) (by omega), m280]
  · rw [P8p 28 0 1 (by omega) (by omega) (by omega) (by omega) (by omega) (by omega) (by omega), m281]
  · rw [P8o 28 0 2 (by omega), P7o 28 0 2 (by omega), P6o 28 0 2 (by omega) (by omega) (by omega), P5o 28 0 2 (by omega), P4o 28 0 2 (by omega), p3_, gl_sl, if_pos ⟨rfl, rfl, rfl⟩, y2]
  · rw [P8o 28 0 3 (by omega), P7o 28 0 3 (by omega), p6_, gl_sl, if_pos ⟨rfl, rfl, rfl⟩, y3]
  · rw [p8_, gl_sl, if_pos ⟨rfl, rfl, rfl⟩, x4]
  · rw [P8o 20 0 m (by omega), p7_, fd_l, if_pos ⟨rfl, rfl, hm⟩, P6o 20 0 m (by omega) (by omega) (by omega), P5o 20 0 m (by omega), P420, nc_]
    have e30 : gl_ (p6_ b q k) 30 0 m = lN (p3 m) := by rw [p6_, gl_sl, if_neg (by omega), x3, v4 m hm]
    rw [e30]
  · rw [P8o 21 0 m (by omega), P7o 21 0 m (by omega), P6o 21 0 m (by omega) (by omega) (by omega), P5o 21 0 m (by omega), P421 m hm]
  · rw [P8p v x y g1 g2 (by omega) (by omega) (by omega) (by omega) (by omega), mo v x y g1 g2 (by omega)]
  · rw [p8_, sl_1, p7_, fd_1, p6_, sl_1, shs_1, p5_, fc_1, P41]
