/-! closeOut, on both sides -/
def Ma_ (A a : St_) : Prop := (∀ v x y, 20 ≤ v → v < 40 → gi_ A v x y = gi_ a v x y) ∧ ∀ v x y, 20 ≤ v → v < 40 → gl_ A v x y = gl_ a v x y
theorem ec_i (A : St_) (v x y : Nat) (h1 : v ≠ 31) (h2 : v ≠ 30) (h3 : v ≠ 20) : gi_ (ec_ A) v x y = gi_ A v x y := by
  rw [ec_, gi_si, if_neg (fun z => h1 z.1), eb_i, if_neg (fun z => h2 z.1), ea_i, th_, gi_si, if_neg (fun z => h3 z.1)]
theorem ec_30 (A : St_) {y : Nat} (h : y < 48) : gi_ (ec_ A) 30 0 y = gi_ A 24 0 y := by
  rw [ec_, gi_si, if_neg (by omega), eb_i, if_pos ⟨rfl, rfl, h⟩, ea_i, th_, gi_si, if_neg (by omega)]
theorem ec_20 (A : St_) : gi_ (ec_ A) 20 0 0 = 0 := by
  rw [ec_, gi_si, if_neg (by omega), eb_i, if_neg (by omega), ea_i, th_, gi_si, if_pos ⟨rfl, rfl, rfl⟩]
theorem ec_31 (A : St_) : gi_ (ec_ A) 31 0 0 = 0 := by rw [ec_, gi_si, if_pos ⟨rfl, rfl, rfl⟩]
theorem ec_l (A : St_) (v x y : Nat) (h1 : v ≠ 26) : gl_ (ec_ A) v x y = gl_ A v x y := by
  rw [ec_, gl_si, eb_l, ea_l, if_neg (fun z => h1 z.1)]
  rfl
theorem ec_26 (A : St_) {y : Nat} (h : y < 8) : gl_ (ec_ A) 26 0 y = gl_ A 20 0 y := by
  rw [ec_, gl_si, eb_l, ea_l, if_pos ⟨rfl, rfl, h⟩]
  rfl
theorem sz_i (a : St_) (k v x y : Nat) : gi_ (sz_ a k) v x y = gi_ a v x y := by rw [sz_, gi_sl, sp_i]
theorem sz_l (a : St_) (k v x y : Nat) (h5 : v ≠ 5) (h6 : v ≠ 6) (h8 : v ≠ 8) : gl_ (sz_ a k) v x y = gl_ a v x y := by rw [sz_, gl_sl, if_neg (fun z => h8 z.1), sp_l, if_neg (fun z => h5 z.1), if_neg (fun z => h6 z.1)]
theorem sz_5 (a : St_) {k m : Nat} (h : m < k) : gl_ (sz_ a k) 5 0 m = gl_ a 2 m 0 := by rw [sz_, gl_sl, if_neg (by omega), sp_l, if_pos ⟨rfl, rfl, h⟩]
theorem sz_6 (a : St_) {k m : Nat} (h : m < k) : gl_ (sz_ a k) 6 0 m = gl_ a 3 m 0 := by rw [sz_, gl_sl, if_neg (by omega), sp_l, if_neg (by omega), if_pos ⟨rfl, rfl, h⟩]
theorem sz_8 (a : St_) (k : Nat) : gl_ (sz_ a k) 8 0 0 = gl_ a 0 0 0 := by rw [sz_, gl_sl, if_pos ⟨rfl, rfl, rfl⟩, sp_l, if_neg (by omega), if_neg (by omega)]
theorem cl_S0 {T k n q : Nat} {a A : St_} (hR : Rk_ T k n a) (hA : Ma_ A a) (hq : q < k) (hs : gi_ a 3 q 0 = 1) : S0_ a (ec_ A) q k ∧ Sg_ a (ec_ A) q k 0 (sz_ a k) (ec_ A) := by
  obtain ⟨⟨hk8, hn6, hck, hmk, hcn, hmn⟩, hT, hM, hP, hN, hG, hZ⟩ := hR
  refine ⟨⟨⟨hk8, hq, hs⟩, fun m hm => ?_, fun m hm j hj => ⟨?_, (hP m hm j hj).2.2.2.1⟩⟩, fun v x y hv => sz_i a k v x y, ⟨fun _ _ _ _ _ => rfl, fun _ _ _ _ => rfl⟩, ec_31 A, fun m hm => ?_, fun m hm => rfl, fun m hm j hj _ => ?_, fun j hj => absurd hj (Nat.not_lt_zero _)⟩
  · rw [ec_i A 23 0 m (by decide) (by decide) (by decide), hA.1 23 0 m (by decide) (by decide)]
    exact (hM m hm).2.2.1
  · rw [ec_i A 25 0 _ (by decide) (by decide) (by decide), hA.1 25 0 _ (by decide) (by decide)]
    exact (hP m hm j hj).2.1
  · rw [sz_5 a hm, ec_l A 20 0 m (by decide), hA.2 20 0 m (by decide) (by decide)]
    exact ⟨(hM m (by omega)).1, (hM m (by omega)).2.2.2.1⟩
  · rw [ec_i A 24 0 _ (by decide) (by decide) (by decide), hA.1 24 0 _ (by decide) (by decide)]
    exact (hP m hm j hj).1.symm
theorem kp_f (a : St_) (q k n : Nat) : Pf_ (sz_ a k) (kp_ a q k n).2 := ptF_ q k n 0 (sz_ a k)
theorem cl_Lr {T k n q : Nat} {a A : St_} (hR : Rk_ T k n a) (hA : Ma_ A a) (hq : q < k) (hs : gi_ a 3 q 0 = 1) (hS : Sg_ a (ec_ A) q k n (kp_ a q k n).2 (eh_ A q k n)) : Lr_ (kp_ a q k n).2 (eh_ A q k n) q k := by
  obtain ⟨⟨hk8, hn6, hck, hmk, hcn, hmn⟩, hT, hM, hP, hN, hG, hZ⟩ := hR
  obtain ⟨s1, s2, s3, s4, s5, s6, s7⟩ := hS
  obtain ⟨f1, f2⟩ := kp_f a q k n
  have g2 : ∀ v x y, v ≠ 20 → v ≠ 26 → 20 ≤ v → v < 40 → gl_ (eh_ A q k n) v x y = gl_ a v x y := fun v x y h1 h2 h3 h4 => by rw [s2.2 v x y h1, ec_l A v x y h2, hA.2 v x y h3 h4]
  refine ⟨⟨hk8, hq⟩, s4, fun m hm => ?_, fun m hm => ?_, ⟨?_, ?_⟩, fun m hm => ?_, ?_, fun m hm hk => ?_⟩
  · rw [f2 3 m 0 (by decide), sz_l a k 3 m 0 (by decide) (by decide) (by decide), g2 21 0 m (by decide) (by decide) (by decide) (by decide)]
    exact ⟨(hM m hm).2.1, (hM m hm).2.2.2.2⟩
  · rw [f2 6 0 m (by decide), sz_6 a hm, f2 3 m 0 (by decide), sz_l a k 3 m 0 (by decide) (by decide) (by decide)]
  · rw [f2 8 0 0 (by decide), sz_8, g2 22 0 0 (by decide) (by decide) (by decide) (by decide)]
    exact hG.1
  · rw [f2 8 0 0 (by decide), sz_8]
    exact hG.2.2.1
  · rw [s1 3 m 0 (by decide), s2.1 23 0 m (by decide) (by decide), ec_i A 23 0 m (by decide) (by decide) (by decide), hA.1 23 0 m (by decide) (by decide)]
    exact (hM m hm).2.2.1
  · rw [s1 3 q 0 (by decide)]
    exact hs
  · rw [f2 10 0 m (by decide), sz_l a k 10 0 m (by decide) (by decide) (by decide)]
    exact hZ.2 m hm hk
/-- what is left where nothing is carried out -/
def Ca_ (A a : St_) (k : Nat) : Prop := (∀ v x y, v < 10 → gi_ A v x y = gi_ a v x y) ∧ (∀ v x y, v < 5 → gl_ A v x y = gl_ a v x y) ∧ ∀ m, m < 8 → k ≤ m → gl_ A 10 0 m = 0
theorem et_i (b : St_) (v x y : Nat) (h : v ≠ 24) : gi_ (et_ b) v x y = gi_ b v x y := by rw [et_, es_i, if_neg (fun z => h z.1), er_i]
theorem et_24 (b : St_) {y : Nat} (h : y < 48) : gi_ (et_ b) 24 0 y = gi_ b 30 0 y := by rw [et_, es_i, if_pos ⟨rfl, rfl, h⟩, er_i]
theorem et_l (b : St_) (v x y : Nat) (h : v ≠ 20) : gl_ (et_ b) v x y = gl_ b v x y := by rw [et_, es_l, er_l, if_neg (fun z => h z.1)]
theorem et_20 (b : St_) {y : Nat} (h : y < 8) : gl_ (et_ b) 20 0 y = gl_ b 26 0 y := by rw [et_, es_l, er_l, if_pos ⟨rfl, rfl, h⟩]
theorem rest_ {T k n q : Nat} {a A : St_} (hR : Rk_ T k n a) (hA : Ma_ A a) (hC : Ca_ A a k) : Rk_ (T + 1) k n (et_ (eh_ A q k n)) ∧ gi_ (et_ (eh_ A q k n)) 20 0 0 = 0 ∧ gl_ (et_ (eh_ A q k n)) 40 0 0 = gl_ A 40 0 0 := by
  obtain ⟨⟨hk8, hn6, hck, hmk, hcn, hmn⟩, hT, hM, hP, hN, hG, hZ⟩ := hR
  obtain ⟨s1, s2⟩ := eg_f q k n 0 (ec_ A)
  have e : eh_ A q k n = eg_ q k n 0 (ec_ A) := rfl
  rw [← e] at s1 s2
  generalize eh_ A q k n = b at *
  have gi1 : ∀ v x y, v < 10 → gi_ (et_ b) v x y = gi_ a v x y := fun v x y h => by rw [et_i b v x y (by omega), s1 v x y (by omega) (by omega), ec_i A v x y (by omega) (by omega) (by omega), hC.1 v x y h]
  have gi2 : ∀ v x y, 20 < v → v < 30 → v ≠ 24 → gi_ (et_ b) v x y = gi_ a v x y := fun v x y h h2 h3 => by rw [et_i b v x y h3, s1 v x y h3 (by omega), ec_i A v x y (by omega) (by omega) (by omega), hA.1 v x y (by omega) (by omega)]
  have gi3 : ∀ y, y < 48 → gi_ (et_ b) 24 0 y = gi_ a 24 0 y := fun y h => by rw [et_24 b h, s1 30 0 y (by decide) (by decide), ec_30 A h, hA.1 24 0 y (by decide) (by decide)]
  have gl1 : ∀ v x y, v < 5 → gl_ (et_ b) v x y = gl_ a v x y := fun v x y h => by rw [et_l b v x y (by omega), s2 v x y (by omega), ec_l A v x y (by omega), hC.2.1 v x y h]
  have gl2 : ∀ v x y, 20 < v → v < 26 → gl_ (et_ b) v x y = gl_ a v x y := fun v x y h h2 => by rw [et_l b v x y (by omega), s2 v x y (by omega), ec_l A v x y (by omega), hA.2 v x y (by omega) (by omega)]
  have gl3 : ∀ y, y < 8 → gl_ (et_ b) 20 0 y = gl_ a 20 0 y := fun y h => by rw [et_20 b h, s2 26 0 y (by decide), ec_26 A h, hA.2 20 0 y (by decide) (by decide)]
  have gl4 : ∀ v x y, v ≠ 20 → v ≠ 26 → gl_ (et_ b) v x y = gl_ A v x y := fun v x y h h2 => by rw [et_l b v x y h, s2 v x y h, ec_l A v x y h2]
  refine ⟨⟨⟨hk8, hn6, ?_, ?_, ?_, ?_⟩, ?_, fun m hm => ?_, fun m hm j hj => ?_, fun j hj => ?_, ?_, fun m hm j hj q => ?_, fun m hm q => ?_⟩, ?_, ?_⟩
  · rw [gi1 _ _ _ (by decide)]; exact hck
  · rw [gi2 _ _ _ (by decide) (by decide) (by decide)]; exact hmk
  · rw [gi1 _ _ _ (by decide)]; exact hcn
  · rw [gi2 _ _ _ (by decide) (by decide) (by decide)]; exact hmn
  · obtain ⟨t, t1, t2, t3⟩ := hT
    exact ⟨t, by omega, by rw [gi1 _ _ _ (by decide)]; exact t2, by rw [gl2 _ _ _ (by decide) (by decide)]; exact t3⟩
  · rw [gl1 2 _ _ (by decide), gl3 m hm, gl1 3 _ _ (by decide), gl2 21 _ _ (by decide) (by decide), gi1 3 _ _ (by decide), gi2 23 _ _ (by decide) (by decide) (by decide)]
    exact hM m hm
  · rw [gi1 4 _ _ (by decide), gi1 5 _ _ (by decide), gi1 9 _ _ (by decide), gi3 _ (by omega), gi2 25 _ _ (by decide) (by decide) (by decide), gi2 29 _ _ (by decide) (by decide) (by decide)]
    exact hP m hm j hj
  · rw [gi1 6 _ _ (by decide), gi1 7 _ _ (by decide), gi1 8 _ _ (by decide), gi2 26 _ _ (by decide) (by decide) (by decide), gi2 27 _ _ (by decide) (by decide) (by decide), gi2 28 _ _ (by decide) (by decide) (by decide)]
    exact hN j hj
  · unfold Rg_
    rw [gl1 0 _ _ (by decide), gl1 1 _ _ (by decide), gl2 22 _ _ (by decide) (by decide), gl2 23 _ _ (by decide) (by decide)]
    exact ⟨hG.1, hG.2.1, hG.2.2.1, hG.2.2.2.1, fun j hj => by rw [gl1 4 _ _ (by decide), gl2 25 _ _ (by decide) (by decide)]; exact hG.2.2.2.2 j hj⟩
  · rw [gi1 4 _ _ (by decide)]
    exact hZ.1 m hm j hj q
  · rw [gl4 10 _ _ (by decide) (by decide)]
    exact hC.2.2 m hm q
  · rw [et_i b _ _ _ (by decide), s1 _ _ _ (by decide) (by decide), ec_20]
  · exact gl4 40 0 0 (by decide) (by decide)
