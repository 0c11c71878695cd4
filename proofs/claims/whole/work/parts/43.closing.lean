/-! closeOut, carried out on both sides -/
theorem cr_l' (D : St_) (q k n v x y : Nat) : gl_ (cr_ D q k n) v x y = if v = 4 ∧ x = 0 ∧ y < 5 then gl_ D 7 0 y else if v = 2 ∧ x < k ∧ y = 0 then gl_ D 5 0 x else if v = 3 ∧ x < k ∧ y = 0 then gl_ D 6 0 x else gl_ D v x y := by
  have e : ∀ v x y, gl_ (co_ D q n) v x y = gl_ D v x y := fun v x y => by unfold gl_; rw [coS_2]
  rw [cr_, cq_l]
  by_cases e4 : v = 4 ∧ x = 0 ∧ y < 5
  · rw [if_pos e4, if_pos e4, cp_l, if_neg (by omega), if_neg (by omega), e]
  · rw [if_neg e4, if_neg e4, cp_l, e, e, e]
theorem ct_l (D : St_) (q k n v x y : Nat) : gl_ (ct_ D q k n) v x y = if v = 1 ∧ x = 0 ∧ y = 0 then gl_ D 1 0 0 + gl_ D 7 0 4 else if v = 0 ∧ x = 0 ∧ y = 0 then gl_ D 8 0 0 else if v = 4 ∧ x = 0 ∧ y < 5 then gl_ D 7 0 y else if v = 2 ∧ x < k ∧ y = 0 then gl_ D 5 0 x else if v = 3 ∧ x < k ∧ y = 0 then gl_ D 6 0 x else gl_ D v x y := by
  have e1 : gl_ (cs_ D q k n) 1 0 0 = gl_ D 1 0 0 := by rw [cs_, gl_sl, if_neg (by omega), cr_l', if_neg (by omega), if_neg (by omega), if_neg (by omega)]
  have e7 : gl_ (cs_ D q k n) 7 0 4 = gl_ D 7 0 4 := by rw [cs_, gl_sl, if_neg (by omega), cr_l', if_neg (by omega), if_neg (by omega), if_neg (by omega)]
  have e8 : gl_ (cr_ D q k n) 8 0 0 = gl_ D 8 0 0 := by rw [cr_l', if_neg (by omega), if_neg (by omega), if_neg (by omega)]
  rw [ct_, gl_si, gl_sl, e1, e7, cs_, gl_sl, e8, cr_l']
theorem ct_i (D : St_) (q k n v x y : Nat) : gi_ (ct_ D q k n) v x y = if v = 3 ∧ x = q ∧ y = 0 then 2 else gi_ (co_ D q n) v x y := by
  rw [ct_, gi_si, gi_sl, cs_, gi_sl, cr_, cq_i, cp_i]
theorem ey_l (b : St_) (q k v x y : Nat) : gl_ (ey_ b q k) v x y = if v = 25 ∧ x = 0 ∧ y < 5 then gl_ (p8_ b q k) 28 0 y else if v = 23 ∧ x = 0 ∧ y = 0 then gl_ (p8_ b q k) 23 0 0 + x4_ b q k else if v = 22 ∧ x = 0 ∧ y = 0 then gl_ (p8_ b q k) 22 0 0 - gl_ (p8_ b q k) 28 0 1 else gl_ (p8_ b q k) v x y := by
  have e23 : gl_ (eu_ b q k) 23 0 0 = gl_ (p8_ b q k) 23 0 0 := by rw [eu_, gl_sl, if_neg (by omega)]
  have e28 : ∀ y, gl_ (ew_ b q k) 28 0 y = gl_ (p8_ b q k) 28 0 y := fun y => by rw [ew_, gl_si, gl_sl, if_neg (by omega), eu_, gl_sl, if_neg (by omega)]
  rw [ey_, ex_l, e28, ew_, gl_si, gl_sl, e23, eu_, gl_sl]
theorem ey_i (b : St_) (q k v x y : Nat) : gi_ (ey_ b q k) v x y = if v = 23 ∧ x = 0 ∧ y = q then 2 else gi_ (p8_ b q k) v x y := by
  rw [ey_, ex_i, ew_, gi_si, gi_sl, eu_, gi_sl]
theorem nc_b {b : St_} {q k m : Nat} {p : Nat → Nat} (hq : ¬ gi_ b 23 0 q = 0) (hm : m < k) (hb : be6_ (gl_ b 20 0 m) (-1000000000000000) 1000000000000000) (hp : p m ≤ w3_ b k m) : be6_ (nc_ b q p m) (-1000000000000000) 1000000000000000 := by
  unfold be6_ at hb ⊢
  unfold nc_
  by_cases e : m = q
  · have hz : p m = 0 := by
      have : w3_ b k m = 0 := by unfold w3_; rw [if_neg (fun z => hq (by rw [← e]; exact z.2))]
      omega
    rw [if_pos e, hz, show lN 0 = 0 by decide +kernel, Int64.sub_zero, ← e, np_N, lN_I (by omega)]
    omega
  · have hw : w3_ b k m ≤ (gl_ b 20 0 m).toInt.toNat := by unfold w3_; split <;> omega
    rw [if_neg e]
    have f := lN_I (n := p m) (by omega)
    have g : (gl_ b 20 0 m - lN (p m)).toInt = (gl_ b 20 0 m).toInt - (p m : Int) := by rw [Kit.i64_sub, f] <;> rw [f] <;> omega
    rw [g]
    omega
theorem nf_b {b : St_} {q k m Y : Nat} {p : Nat → Nat} (hq : ¬ gi_ b 23 0 q = 0) (hN : gl_ b 21 0 m = lN (fn_ b m)) (hF : fn_ b m ≤ 1000000000000) (hY : Y ≤ fn_ b q) (hp : p m ≤ w2_ b k m) : be6_ (nf_ b q Y p m) 0 1000000000000 := by
  unfold nf_
  by_cases e : m = q
  · have hz : p m = 0 := by
      have : w2_ b k m = 0 := by unfold w2_; rw [if_neg (fun z => hq (by rw [← e]; exact z.2))]
      omega
    rw [if_pos e, hz, ← e, hN, show lN 0 = 0 by decide +kernel, Int64.sub_zero, lN_sub (by rw [e]; exact hY)]
    unfold be6_
    rw [lN_I (by omega)]
    omega
  · have hw : w2_ b k m ≤ fn_ b m := by unfold w2_; split <;> omega
    rw [if_neg e, hN, lN_sub (by omega)]
    unfold be6_
    rw [lN_I (by omega)]
    omega
set_option maxHeartbeats 4000000 in
theorem cl_all {T k n q : Nat} {a A : St_} (hR : Rk_ T k n a) (hA : Ma_ A a) (hq : q < k) (hs : gi_ a 3 q 0 = 1) (hp : (kp_ a q k n).1 = true) : ∃ (Y0 Y1 Y2 Y3 X4 : Nat) (p2 p3 : Nat → Nat), La_ (kp_ a q k n).2 (eh_ A q k n) q k Y0 Y1 Y2 Y3 X4 p2 p3 (kl_ a q k n) ∧ Lb_ (eh_ A q k n) q Y0 Y1 Y2 Y3 X4 p2 p3 (p8_ (eh_ A q k n) q k) ∧ hc_ (p2_ (eh_ A q k n) q k) (x2_ (eh_ A q k n) q) ∧ hc_ (p5_ (eh_ A q k n) q k) (x3_ (eh_ A q k n) q k) ∧ x4_ (eh_ A q k n) q k = lN X4 ∧
    Sg_ a (ec_ A) q k n (kp_ a q k n).2 (eh_ A q k n) ∧ X4 ≤ 1000000000000000 ∧ (uc_ (eh_ A q k n) q k ≤ 1000000000000000 ↔ tm_ (gl_ a 1 0 0 + lN X4)) ∧ (∀ m, m < k → be6_ (nc_ (eh_ A q k n) q p3 m) (-1000000000000000) 1000000000000000) ∧ (∀ m, m < 8 → be6_ (nf_ (eh_ A q k n) q Y0 p2 m) 0 1000000000000) ∧ be6_ (gl_ (eh_ A q k n) 22 0 0 - lN Y1) 0 1000000000000000 ∧ (∀ m, m < 8 → k ≤ m → p2 m = 0 ∧ p3 m = 0) := by
  obtain ⟨h0, hS0⟩ := cl_S0 hR hA hq hs
  have hn6 : n ≤ 6 := hR.1.2.1
  have hk8 : k ≤ 8 := hR.1.1
  rcases tk_sim h0 n 0 (sz_ a k) (ec_ A) (by omega) hS0 with ⟨t1, t2⟩ | ⟨t1, -⟩
  · rw [Nat.zero_add] at t2
    have hS : Sg_ a (ec_ A) q k n (kp_ a q k n).2 (eh_ A q k n) := t2
    have hL := cl_Lr hR hA hq hs hS
    obtain ⟨Y0, Y1, Y2, Y3, X4, p2, p3, r1, r2, r3, r4, r5, r6, X0, C, c1, c2, c3, c4, c5, c6, c7, c8, c9⟩ := lay_sim hL
    have hN : ∀ m, m < 8 → gl_ (eh_ A q k n) 21 0 m = lN (fn_ (eh_ A q k n) m) ∧ fn_ (eh_ A q k n) m ≤ 1000000000000 := fun m hm => by
      obtain ⟨f1, f2⟩ := hL.2.2.1 m hm
      rw [f1] at f2
      unfold be6_ at f2
      exact ⟨(lN_of f2.1).1, by unfold fn_; omega⟩
    have h5 : ∀ m, m < k → be6_ (gl_ (eh_ A q k n) 20 0 m) (-1000000000000000) 1000000000000000 := fun m hm => by
      obtain ⟨f1, f2⟩ := hL.2.1 m hm
      rw [← f1]
      exact f2
    have h23 : gl_ (eh_ A q k n) 23 0 0 = gl_ a 1 0 0 := by
      rw [hS.2.1.2 23 0 0 (by decide), ec_l A 23 0 0 (by decide), hA.2 23 0 0 (by decide) (by decide)]
      exact hR.2.2.2.2.2.1.2.1.symm
    have hqb : ¬ gi_ (eh_ A q k n) 23 0 q = 0 := by
      rw [← hL.2.2.2.2.2.1 q (by omega), hL.2.2.2.2.2.2.1]
      decide
    obtain ⟨u1, u2⟩ := uc_sim hk8 hq hN h5 (by rw [h23]; exact hR.2.2.2.2.2.1.2.2.2.1) c1 c2 c3 c5 c6 c7 c8 c9
    rw [h23] at u2
    refine ⟨Y0, Y1, Y2, Y3, X4, p2, p3, r1, r2, r3, r4, r5, hS, u1, u2, fun m hm => nc_b hqb hm (h5 m hm) (r6 m (by omega)).2, fun m hm => nf_b hqb (hN m hm).1 (hN m hm).2 (by rw [c5]; exact Nat.min_le_right _ _) (r6 m hm).1, ?_, fun m hm hk => ?_⟩
    · rw [c2, lN_sub (by omega)]
      unfold be6_
      rw [lN_I (by omega)]
      omega
    · have h1 := (r6 m hm).1
      have h2 := (r6 m hm).2
      rw [w2_0 _ hk] at h1
      rw [w3_0 _ hk] at h2
      omega
  · have : (kp_ a q k n).1 = false := t1
    rw [hp] at this
    cases this
theorem cl_no {T k n q : Nat} {a A : St_} (hR : Rk_ T k n a) (hA : Ma_ A a) (hq : q < k) (hs : gi_ a 3 q 0 = 1) (hp : ¬ (kp_ a q k n).1 = true) : ¬ gi_ (eh_ A q k n) 31 0 0 = 0 := by
  obtain ⟨h0, hS0⟩ := cl_S0 hR hA hq hs
  have hn6 : n ≤ 6 := hR.1.2.1
  rcases tk_sim h0 n 0 (sz_ a k) (ec_ A) (by omega) hS0 with ⟨t1, -⟩ | ⟨-, t2⟩
  · exact absurd t1 hp
  · exact t2
theorem kp_i (a : St_) (q k n v x y : Nat) (h : v ≠ 10) : gi_ (kp_ a q k n).2 v x y = gi_ a v x y := by rw [(kp_f a q k n).1 v x y h, sz_i]
theorem kp_l (a : St_) (q k n v x y : Nat) (h : v < 5 ∨ 8 < v) : gl_ (kp_ a q k n).2 v x y = gl_ a v x y := by rw [(kp_f a q k n).2 v x y (by omega), sz_l a k v x y (by omega) (by omega) (by omega)]
theorem o40_i (a : St_) (r : Int64) (v x y : Nat) : gi_ (sl_ a 40 0 0 r) v x y = gi_ a v x y := gi_sl a 40 0 0 v x y r
theorem o40_l (a : St_) (r : Int64) (v x y : Nat) (h : v ≠ 40) : gl_ (sl_ a 40 0 0 r) v x y = gl_ a v x y := by rw [gl_sl, if_neg (fun z => h z.1)]
set_option maxHeartbeats 4000000 in
/-- carried out: the relation again -/
theorem cl_ok {T k n q : Nat} {a A : St_} (hR : Rk_ T k n a) (hA : Ma_ A a) (hq : q < k) (hs : gi_ a 3 q 0 = 1) (hp : (kp_ a q k n).1 = true) (ht : tm_ (gl_ (kl_ a q k n) 1 0 0 + gl_ (kl_ a q k n) 7 0 4)) (hAi : ∀ v x y, v < 20 → gi_ A v x y = gi_ (kc_ a q k n) v x y) (hAl : ∀ v x y, v < 20 → gl_ A v x y = gl_ (kc_ a q k n) v x y) :
    Rk_ (T + 1) k n (ey_ (eh_ A q k n) q k) ∧ gi_ (ey_ (eh_ A q k n) q k) 20 0 0 = 0 ∧ gl_ (ey_ (eh_ A q k n) q k) 40 0 0 = gl_ A 40 0 0 ∧ x4_ (eh_ A q k n) q k = gl_ (kc_ a q k n) 4 0 4 ∧ gi_ (eh_ A q k n) 31 0 0 = 0 ∧ uc_ (eh_ A q k n) q k ≤ 1000000000000000 ∧ hc_ (p2_ (eh_ A q k n) q k) (x2_ (eh_ A q k n) q) ∧ hc_ (p5_ (eh_ A q k n) q k) (x3_ (eh_ A q k n) q k) := by
  obtain ⟨Y0, Y1, Y2, Y3, X4, p2, p3, ⟨⟨a0, a1, a2, a3, a4⟩, a5, a6, a8, al, a10, af, am⟩, ⟨⟨b0, b1, b2, b3, b4⟩, b20, b21, bl, bf⟩, c1, c2, c3, hS, hX4, huc, hnc, hnf, hcp, hz⟩ := cl_all hR hA hq hs hp
  obtain ⟨⟨hk8, hn6, hck, hmk, hcn, hmn⟩, hT, hM, hP, hN, hG, hZ⟩ := id hR
  obtain ⟨s1, s2, s3, s4, s5, s6, s7⟩ := hS
  have d1 : gl_ (kl_ a q k n) 1 0 0 = gl_ a 1 0 0 := by rw [al 1 0 0 (by decide), kp_l _ _ _ _ _ _ _ (by decide)]
  rw [d1, a4] at ht
  -- the class's end
  have Di : ∀ v x y, v ≠ 10 → gi_ (kl_ a q k n) v x y = gi_ a v x y := fun v x y h => by rw [gi_1 af, kp_i _ _ _ _ _ _ _ h]
  have D10 : ∀ j, gi_ (kl_ a q k n) 10 0 j = gi_ (kp_ a q k n).2 10 0 j := fun j => gi_1 af 10 0 j
  have hTk : Tk_ (kl_ a q k n) q n := fun j hj => by
    rw [D10]
    rcases s7 j hj (by omega) with ⟨r1, -⟩ | ⟨t, t1, t2, t3, -⟩
    · exact Or.inl r1
    · exact Or.inr ⟨t, by omega, t2, t3⟩
  obtain ⟨o1, o2, o3⟩ := co_sim n hTk
  have kci : ∀ v x y, v ≠ 3 → v ≠ 4 → v ≠ 10 → gi_ (kc_ a q k n) v x y = gi_ a v x y := fun v x y h1 h2 h3 => by rw [kc_, ct_i, if_neg (fun z => h1 z.1), o1 v x y h2, Di v x y h3]
  have kc3 : ∀ m, gi_ (kc_ a q k n) 3 m 0 = if m = q then 2 else gi_ a 3 m 0 := fun m => by
    rw [kc_, ct_i]
    by_cases e : m = q
    · rw [if_pos ⟨rfl, e, rfl⟩, if_pos e]
    · rw [if_neg (fun z => e z.2.1), if_neg e, o1 3 m 0 (by decide), Di 3 m 0 (by decide)]
  have kc4 : ∀ m j, gi_ (kc_ a q k n) 4 m j = gi_ (co_ (kl_ a q k n) q n) 4 m j := fun m j => by rw [kc_, ct_i, if_neg (by omega)]
  have kc2l : ∀ m, m < 8 → gl_ (kc_ a q k n) 2 m 0 = if m < k then nc_ (eh_ A q k n) q p3 m else gl_ a 2 m 0 := fun m hm => by
    rw [kc_, ct_l, if_neg (by omega), if_neg (by omega), if_neg (by omega)]
    by_cases e : m < k
    · rw [if_pos ⟨rfl, e, rfl⟩, if_pos e, a5 m e]
    · rw [if_neg (fun z => e z.2.1), if_neg (by omega), if_neg e, al 2 m 0 (by decide), kp_l _ _ _ _ _ _ _ (by decide)]
  have kc3l : ∀ m, m < 8 → gl_ (kc_ a q k n) 3 m 0 = if m < k then nf_ (eh_ A q k n) q Y0 p2 m else gl_ a 3 m 0 := fun m hm => by
    rw [kc_, ct_l, if_neg (by omega), if_neg (by omega), if_neg (by omega), if_neg (by omega)]
    by_cases e : m < k
    · rw [if_pos ⟨rfl, e, rfl⟩, if_pos e, a6 m e]
    · rw [if_neg (fun z => e z.2.1), if_neg e, al 3 m 0 (by decide), kp_l _ _ _ _ _ _ _ (by decide)]
  have kc4l : ∀ j, j < 5 → gl_ (kc_ a q k n) 4 0 j = gl_ (kl_ a q k n) 7 0 j := fun j hj => by rw [kc_, ct_l, if_neg (by omega), if_neg (by omega), if_pos ⟨rfl, rfl, hj⟩]
  have kc0l : gl_ (kc_ a q k n) 0 0 0 = gl_ (eh_ A q k n) 22 0 0 - lN Y1 := by rw [kc_, ct_l, if_neg (by omega), if_pos ⟨rfl, rfl, rfl⟩, a8]
  have kc1l : gl_ (kc_ a q k n) 1 0 0 = gl_ a 1 0 0 + lN X4 := by rw [kc_, ct_l, if_pos ⟨rfl, rfl, rfl⟩, d1, a4]
  have kc10 : ∀ m, gl_ (kc_ a q k n) 10 0 m = gl_ (kl_ a q k n) 10 0 m := fun m => by rw [kc_, ct_l, if_neg (by omega), if_neg (by omega), if_neg (by omega), if_neg (by omega), if_neg (by omega)]
  -- the reference's end
  have Ei : ∀ v x y, v ≠ 24 → v ≠ 31 → v ≠ 30 → v ≠ 20 → v ≠ 23 → gi_ (ey_ (eh_ A q k n) q k) v x y = gi_ A v x y := fun v x y h1 h2 h3 h4 h5 => by rw [ey_i, if_neg (fun z => h5 z.1), gi_1 bf, s2.1 v x y h1 h2, ec_i A v x y h2 h3 h4]
  have E23 : ∀ m, gi_ (ey_ (eh_ A q k n) q k) 23 0 m = if m = q then 2 else gi_ a 23 0 m := fun m => by
    rw [ey_i]
    by_cases e : m = q
    · rw [if_pos ⟨rfl, rfl, e⟩, if_pos e]
    · rw [if_neg (fun z => e z.2.2), if_neg e, gi_1 bf, s2.1 23 0 m (by decide) (by decide), ec_i A 23 0 m (by decide) (by decide) (by decide), hA.1 23 0 m (by decide) (by decide)]
  have E24 : ∀ y, gi_ (ey_ (eh_ A q k n) q k) 24 0 y = gi_ (eh_ A q k n) 24 0 y := fun y => by rw [ey_i, if_neg (by omega), gi_1 bf]
  have El : ∀ v x y, v ≠ 20 → v ≠ 21 → v ≠ 22 → v ≠ 23 → v ≠ 25 → v ≠ 26 → (v < 27 ∨ 31 < v) → gl_ (ey_ (eh_ A q k n) q k) v x y = gl_ A v x y := fun v x y h1 h2 h3 h4 h5 h6 h7 => by
    rw [ey_l, if_neg (fun z => h5 z.1), if_neg (fun z => h4 z.1), if_neg (fun z => h3 z.1), bl v x y h1 h2 h7, s2.2 v x y h1, ec_l A v x y h6]
  have E20 : ∀ m, m < 8 → gl_ (ey_ (eh_ A q k n) q k) 20 0 m = nc_ (eh_ A q k n) q p3 m := fun m hm => by rw [ey_l, if_neg (by omega), if_neg (by omega), if_neg (by omega), b20 m hm]
  have E21 : ∀ m, m < 8 → gl_ (ey_ (eh_ A q k n) q k) 21 0 m = nf_ (eh_ A q k n) q Y0 p2 m := fun m hm => by rw [ey_l, if_neg (by omega), if_neg (by omega), if_neg (by omega), b21 m hm]
  have E22 : gl_ (ey_ (eh_ A q k n) q k) 22 0 0 = gl_ (eh_ A q k n) 22 0 0 - lN Y1 := by rw [ey_l, if_neg (by omega), if_neg (by omega), if_pos ⟨rfl, rfl, rfl⟩, b1, bl 22 0 0 (by decide) (by decide) (by decide)]
  have h23 : gl_ (eh_ A q k n) 23 0 0 = gl_ a 1 0 0 := by
    rw [s2.2 23 0 0 (by decide), ec_l A 23 0 0 (by decide), hA.2 23 0 0 (by decide) (by decide)]
    exact hG.2.1.symm
  have E23l : gl_ (ey_ (eh_ A q k n) q k) 23 0 0 = gl_ a 1 0 0 + lN X4 := by rw [ey_l, if_neg (by omega), if_pos ⟨rfl, rfl, rfl⟩, bl 23 0 0 (by decide) (by decide) (by decide), h23, c3]
  have E25 : ∀ j, j < 5 → gl_ (ey_ (eh_ A q k n) q k) 25 0 j = gl_ (p8_ (eh_ A q k n) q k) 28 0 j := fun j hj => by rw [ey_l, if_pos ⟨rfl, rfl, hj⟩]
  have hbore : ∀ j, j < 5 → gl_ (kl_ a q k n) 7 0 j = gl_ (p8_ (eh_ A q k n) q k) 28 0 j := fun j hj => by
    have : j = 0 ∨ j = 1 ∨ j = 2 ∨ j = 3 ∨ j = 4 := by omega
    rcases this with rfl | rfl | rfl | rfl | rfl
    · rw [a0, b0]
    · rw [a1, b1]
    · rw [a2, b2]
    · rw [a3, b3]
    · rw [a4, b4]
  have hncz : ∀ m, m < 8 → k ≤ m → nc_ (eh_ A q k n) q p3 m = gl_ a 20 0 m := fun m hm hk => by
    rw [nc_, if_neg (by omega), (hz m hm hk).2, show lN 0 = 0 by decide +kernel, Int64.sub_zero, s5 m hk, ec_l A 20 0 m (by decide), hA.2 20 0 m (by decide) (by decide)]
  have hnfz : ∀ m, m < 8 → k ≤ m → nf_ (eh_ A q k n) q Y0 p2 m = gl_ a 21 0 m := fun m hm hk => by
    rw [nf_, if_neg (by omega), (hz m hm hk).1, show lN 0 = 0 by decide +kernel, Int64.sub_zero, s2.2 21 0 m (by decide), ec_l A 21 0 m (by decide), hA.2 21 0 m (by decide) (by decide)]
  have hpos : ∀ m, m < 8 → ∀ j, j < 6 → gi_ (kc_ a q k n) 4 m j = gi_ (eh_ A q k n) 24 0 (6 * m + j) ∧ bd_ (gi_ (kc_ a q k n) 4 m j) (-1000000) 1000000 ∧ ((k ≤ m ∨ n ≤ j) → gi_ (kc_ a q k n) 4 m j = gi_ a 4 m j) := fun m hm j hj => by
    rw [kc4]
    by_cases ej : j < n
    · rcases s7 j ej hj with ⟨r1, r2⟩ | ⟨t, t1, t2, t3, t4, t5⟩
      · rw [(o3 j ej).1 (by rw [D10]; exact r1) m, Di 4 m j (by decide), r2 m hm]
        exact ⟨rfl, (hP m hm j hj).2.2.2.1, fun _ => rfl⟩
      · rw [(o3 j ej).2 t (by omega) t2 (by rw [D10]; exact t3) m, Di 4 m j (by decide), Di 4 t j (by decide), Di 4 q j (by decide), t5 m hm]
        refine ⟨rfl, ?_, fun z => ?_⟩
        · split
          · unfold bd_
            have : (0 : Int32).toInt = 0 := by decide
            omega
          · split
            · exact t4
            · exact (hP m hm j hj).2.2.2.1
        · rw [if_neg (by omega), if_neg (by omega)]
    · rw [o2 m j (by omega), Di 4 m j (by decide), s6 m hm j hj (by omega)]
      exact ⟨rfl, (hP m hm j hj).2.2.2.1, fun _ => rfl⟩
  refine ⟨⟨⟨hk8, hn6, ?_, ?_, ?_, ?_⟩, ?_, fun m hm => ?_, fun m hm j hj => ?_, fun j hj => ?_, ⟨?_, ?_, ?_, ?_, fun j hj => ?_⟩, fun m hm j hj z => ?_, fun m hm z => ?_⟩, ?_, ?_, ?_, s3, huc.mpr ht, c1, c2⟩
  · rw [Ei 0 _ _ (by decide) (by decide) (by decide) (by decide) (by decide), hAi 0 _ _ (by decide), kci 0 _ _ (by decide) (by decide) (by decide)]; exact hck
  · rw [Ei 21 _ _ (by decide) (by decide) (by decide) (by decide) (by decide), hA.1 21 _ _ (by decide) (by decide)]; exact hmk
  · rw [Ei 1 _ _ (by decide) (by decide) (by decide) (by decide) (by decide), hAi 1 _ _ (by decide), kci 1 _ _ (by decide) (by decide) (by decide)]; exact hcn
  · rw [Ei 22 _ _ (by decide) (by decide) (by decide) (by decide) (by decide), hA.1 22 _ _ (by decide) (by decide)]; exact hmn
  · obtain ⟨t, t1, t2, t3⟩ := hT
    exact ⟨t, by omega, by rw [Ei 2 _ _ (by decide) (by decide) (by decide) (by decide) (by decide), hAi 2 _ _ (by decide), kci 2 _ _ (by decide) (by decide) (by decide)]; exact t2, by rw [El 24 _ _ (by decide) (by decide) (by decide) (by decide) (by decide) (by decide) (by decide), hA.2 24 _ _ (by decide) (by decide)]; exact t3⟩
  · obtain ⟨q1, q2, q3, q4, q5⟩ := hM m hm
    rw [El 2 _ _ (by decide) (by decide) (by decide) (by decide) (by decide) (by decide) (by decide), El 3 _ _ (by decide) (by decide) (by decide) (by decide) (by decide) (by decide) (by decide), Ei 3 _ _ (by decide) (by decide) (by decide) (by decide) (by decide), hAl 2 _ _ (by decide), hAl 3 _ _ (by decide), hAi 3 _ _ (by decide), kc2l m hm, kc3l m hm, kc3 m, E20 m hm, E21 m hm, E23 m]
    by_cases e : m < k
    · rw [if_pos e, if_pos e]
      exact ⟨rfl, rfl, by rw [q3], hnc m e, hnf m hm⟩
    · rw [if_neg e, if_neg e, hncz m hm (by omega), hnfz m hm (by omega)]
      exact ⟨q1, q2, by rw [q3], q4, q5⟩
  · obtain ⟨q1, q2, q3, q4, q5, q6⟩ := hP m hm j hj
    obtain ⟨z1, z2, -⟩ := hpos m hm j hj
    rw [Ei 4 _ _ (by decide) (by decide) (by decide) (by decide) (by decide), Ei 5 _ _ (by decide) (by decide) (by decide) (by decide) (by decide), Ei 9 _ _ (by decide) (by decide) (by decide) (by decide) (by decide), Ei 25 _ _ (by decide) (by decide) (by decide) (by decide) (by decide), Ei 29 _ _ (by decide) (by decide) (by decide) (by decide) (by decide), E24, hAi 4 _ _ (by decide), hAi 5 _ _ (by decide), hAi 9 _ _ (by decide), kci 5 _ _ (by decide) (by decide) (by decide), kci 9 _ _ (by decide) (by decide) (by decide), hA.1 25 _ _ (by decide) (by decide), hA.1 29 _ _ (by decide) (by decide)]
    exact ⟨z1, q2, q3, z2, q5, q6⟩
  · rw [Ei 6 _ _ (by decide) (by decide) (by decide) (by decide) (by decide), Ei 7 _ _ (by decide) (by decide) (by decide) (by decide) (by decide), Ei 8 _ _ (by decide) (by decide) (by decide) (by decide) (by decide), Ei 26 _ _ (by decide) (by decide) (by decide) (by decide) (by decide), Ei 27 _ _ (by decide) (by decide) (by decide) (by decide) (by decide), Ei 28 _ _ (by decide) (by decide) (by decide) (by decide) (by decide), hAi 6 _ _ (by decide), hAi 7 _ _ (by decide), hAi 8 _ _ (by decide), kci 6 _ _ (by decide) (by decide) (by decide), kci 7 _ _ (by decide) (by decide) (by decide), kci 8 _ _ (by decide) (by decide) (by decide), hA.1 26 _ _ (by decide) (by decide), hA.1 27 _ _ (by decide) (by decide), hA.1 28 _ _ (by decide) (by decide)]
    exact hN j hj
  · rw [El 0 _ _ (by decide) (by decide) (by decide) (by decide) (by decide) (by decide) (by decide), hAl 0 _ _ (by decide), kc0l, E22]
  · rw [El 1 _ _ (by decide) (by decide) (by decide) (by decide) (by decide) (by decide) (by decide), hAl 1 _ _ (by decide), kc1l, E23l]
  · rw [El 0 _ _ (by decide) (by decide) (by decide) (by decide) (by decide) (by decide) (by decide), hAl 0 _ _ (by decide), kc0l]
    exact hcp
  · rw [El 1 _ _ (by decide) (by decide) (by decide) (by decide) (by decide) (by decide) (by decide), hAl 1 _ _ (by decide), kc1l]
    have h1 := tm_b.mp ht
    have h2 := hG.2.2.2.1
    unfold be6_ at h1 h2 ⊢
    have f := lN_I (n := X4) (by omega)
    have g : (gl_ a 1 0 0 + lN X4).toInt = (gl_ a 1 0 0).toInt + (X4 : Int) := by rw [Kit.i64_add, f] <;> rw [f] <;> omega
    omega
  · rw [El 4 _ _ (by decide) (by decide) (by decide) (by decide) (by decide) (by decide) (by decide), hAl 4 _ _ (by decide), kc4l j hj, E25 j hj, hbore j hj]
  · rw [Ei 4 _ _ (by decide) (by decide) (by decide) (by decide) (by decide), hAi 4 _ _ (by decide), (hpos m hm j hj).2.2 z]
    exact hZ.1 m hm j hj z
  · rw [El 10 _ _ (by decide) (by decide) (by decide) (by decide) (by decide) (by decide) (by decide), hAl 10 _ _ (by decide), kc10]
    exact a10 m hm z
  · rw [ey_i, if_neg (by omega), gi_1 bf, s2.1 20 0 0 (by decide) (by decide), ec_20]
  · exact El 40 0 0 (by decide) (by decide) (by decide) (by decide) (by decide) (by decide) (by decide)
  · rw [c3, kc4l 4 (by decide), a4]
