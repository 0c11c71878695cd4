/-! closeOut: the call on both sides -/
theorem co_fr (A : St_) (q v x y : Nat) (h : v ≠ 4) : ∀ i, gi_ (co_ A q i) v x y = gi_ A v x y
  | 0 => rfl
  | i + 1 => by
    rw [co_]
    split
    · exact co_fr A q v x y h i
    · rw [gi_si, if_neg (fun z => h z.1), gi_si, if_neg (fun z => h z.1), co_fr A q v x y h i]
set_option maxHeartbeats 4000000 in
theorem pr_closeOut (l : Launch) (hst : l.stackTraces = false) {w : Gh_} (hI : In_ w) {a : St_} {T : Nat} (hR : Rl_ T a) (x : Int32) : ∃ (kc : Int32) (r : Int64) (a1 a2 : St_), Fn_ l w yL_closeOut (.codeWith yL_closeOut cL_closeOut 4 (some .int) [(0, 8, 11, 13), (0, 8, 14, 34)]) { frames := 8, cells := 1, slots := 6, locals := 149 } 1 6 [.ref (ad_ w 0 0), .int x, .ref (ad_ w 40 0)] a (.inl (some (.int kc))) a1 ∧ Fn_ l w yX5_closeOut (.code yX5_closeOut cX5_closeOut 5 (some .long)) { frames := 3, cells := 0, slots := 0, locals := 84 } 0 0 [.ref (ad_ w 20 0), .int x] a1 (.inl (some (.long r))) a2 ∧ gi_ a2 20 0 0 = kc ∧ (kc = 0 → gl_ a2 40 0 0 = r) ∧ Rl_ (T + 1) a2 := by
  obtain ⟨k, n, hR⟩ := hR
  obtain ⟨⟨hk8, hn6, hck, hmk, hcn, hmn⟩, hT, hM, hP, hN, hG, hZ⟩ := id hR
  by_cases h : wi_ x.toInt64 0 (gi_ a 0 0 0 - 1).toInt64
  · obtain ⟨q, hq, rfl⟩ := im_out hck (by omega) h
    by_cases hs : gi_ a 3 q 0 = 1
    · have hs' : gi_ a 23 0 q = 1 := (hM q (by omega)).2.2.1.symm.trans hs
      by_cases hp : (kp_ a q k n).1 = true
      · obtain ⟨Y0, Y1, Y2, Y3, X4, p2, p3, ⟨⟨a0, a1, a2, a3, a4⟩, a5, a6, a8, al, a10, af, am⟩, -⟩ := cl_all (A := a) hR ⟨fun _ _ _ _ _ => rfl, fun _ _ _ _ _ => rfl⟩ hq hs hp
        have Di : ∀ v x y, v ≠ 10 → gi_ (kl_ a q k n) v x y = gi_ a v x y := fun v x y hv => by rw [gi_1 af, kp_i _ _ _ _ _ _ _ hv]
        have Dl : ∀ v x y, (v < 5 ∨ 12 < v) → gl_ (kl_ a q k n) v x y = gl_ a v x y := fun v x y hv => by
          rcases hv with e | e
          · rw [al v x y e, kp_l _ _ _ _ _ _ _ (by omega)]
          · rw [am v x y e, kp_l _ _ _ _ _ _ _ (by omega)]
        by_cases ht : tm_ (gl_ (kl_ a q k n) 1 0 0 + gl_ (kl_ a q k n) 7 0 4)
        · have hMa : Ma_ (sl_ (kc_ a q k n) 40 0 0 (gl_ (kc_ a q k n) 4 0 4)) a := ⟨fun v x y h1 h2 => by rw [o40_i, kc_, ct_i, if_neg (by omega), co_fr _ _ _ _ _ (by omega), Di v x y (by omega)], fun v x y h1 h2 => by rw [o40_l _ _ _ _ _ (by omega), kc_, ct_l, if_neg (by omega), if_neg (by omega), if_neg (by omega), if_neg (by omega), if_neg (by omega), Dl v x y (by omega)]⟩
          obtain ⟨r1, r2, r3, r4, r5, r6, r7, r8⟩ := cl_ok hR hMa hq hs hp ht (fun v x y hv => o40_i _ _ v x y) (fun v x y hv => o40_l _ _ v x y (by omega))
          have hm2 := c_X5_closeOut_ok l hI (sl_ (kc_ a q k n) 40 0 0 (gl_ (kc_ a q k n) 4 0 4)) k ((hMa.1 21 0 0 (by decide) (by decide)).trans hmk) hk8 n ((hMa.1 22 0 0 (by decide) (by decide)).trans hmn) hn6 q hq ((hMa.1 23 0 q (by decide) (by decide)).trans hs') r5 r6 r7 r8
          rw [r4] at hm2
          exact ⟨0, gl_ (kc_ a q k n) 4 0 4, _, _, c_L_closeOut_r l hI a _ (nI q) _ (c_X4_closeOut_ok l hI hst a k hck hk8 n hcn hn6 q hq hs hp ht), hm2, r2, fun _ => by rw [r3, gl_sl, if_pos ⟨rfl, rfl, rfl⟩], k, n, r1⟩
        · have hMa : Ma_ (sl_ (kl_ a q k n) 40 0 0 (-1)) a := ⟨fun v x y h1 h2 => by rw [o40_i, Di v x y (by omega)], fun v x y h1 h2 => by rw [o40_l _ _ _ _ _ (by omega), Dl v x y (by omega)]⟩
          have hCa : Ca_ (sl_ (kl_ a q k n) 40 0 0 (-1)) a k := ⟨fun v x y hv => by rw [o40_i, Di v x y (by omega)], fun v x y hv => by rw [o40_l _ _ _ _ _ (by omega), Dl v x y (by omega)], fun m hm hk => by rw [o40_l _ _ _ _ _ (by omega), a10 m hm hk]⟩
          obtain ⟨Z0, Z1, Z2, Z3, V4, u2, u3, ⟨⟨-, -, -, -, e4⟩, -⟩, -, -, -, -, hS, -, huc, -⟩ := cl_all hR hMa hq hs hp
          have hu : ¬ uc_ (eh_ (sl_ (kl_ a q k n) 40 0 0 (-1)) q k n) q k ≤ 1000000000000000 := fun z => ht (by rw [e4, Dl 1 0 0 (by omega)]; exact huc.mp z)
          obtain ⟨r1, r2, r3⟩ := rest_ (q := q) hR hMa hCa
          have hm2 := c_X5_closeOut_no2 l hI (sl_ (kl_ a q k n) 40 0 0 (-1)) k ((hMa.1 21 0 0 (by decide) (by decide)).trans hmk) hk8 n ((hMa.1 22 0 0 (by decide) (by decide)).trans hmn) hn6 q hq ((hMa.1 23 0 q (by decide) (by decide)).trans hs') hS.2.2.1 hu
          exact ⟨0, -1, _, _, c_L_closeOut_r l hI a _ (nI q) (-1) (c_X4_closeOut_no2 l hI hst a k hck hk8 n hcn hn6 q hq hs hp ht), hm2, r2, fun _ => by rw [r3, gl_sl, if_pos ⟨rfl, rfl, rfl⟩], k, n, r1⟩
      · have hMa : Ma_ (sl_ (kp_ a q k n).2 40 0 0 (-1)) a := ⟨fun v x y h1 h2 => by rw [o40_i, kp_i _ _ _ _ _ _ _ (by omega)], fun v x y h1 h2 => by rw [o40_l _ _ _ _ _ (by omega), kp_l _ _ _ _ _ _ _ (by omega)]⟩
        have hCa : Ca_ (sl_ (kp_ a q k n).2 40 0 0 (-1)) a k := ⟨fun v x y hv => by rw [o40_i, kp_i _ _ _ _ _ _ _ (by omega)], fun v x y hv => by rw [o40_l _ _ _ _ _ (by omega), kp_l _ _ _ _ _ _ _ (by omega)], fun m hm hk => by rw [o40_l _ _ _ _ _ (by omega), kp_l _ _ _ _ _ _ _ (by omega)]; exact hZ.2 m hm hk⟩
        obtain ⟨r1, r2, r3⟩ := rest_ (q := q) hR hMa hCa
        have hm2 := c_X5_closeOut_no1 l hI (sl_ (kp_ a q k n).2 40 0 0 (-1)) k ((hMa.1 21 0 0 (by decide) (by decide)).trans hmk) hk8 n ((hMa.1 22 0 0 (by decide) (by decide)).trans hmn) hn6 q hq ((hMa.1 23 0 q (by decide) (by decide)).trans hs') (cl_no hR hMa hq hs hp)
        exact ⟨0, -1, _, _, c_L_closeOut_r l hI a _ (nI q) (-1) (c_X4_closeOut_no1 l hI hst a k hck hk8 n hcn hn6 q hq hs hp), hm2, r2, fun _ => by rw [r3, gl_sl, if_pos ⟨rfl, rfl, rfl⟩], k, n, r1⟩
    · have hs' : ¬ gi_ a 23 0 q = 1 := fun z => hs ((hM q (by omega)).2.2.1.trans z)
      exact ⟨2, 0, a, _, c_L_closeOut_s l hI a (nI q) (c_X4_closeOut_is l hI hst a k hck hk8 q hq hs), c_X5_closeOut_is l hI a k hmk hk8 q hq hs', rfl, (fun q => absurd q (by decide)), k, n, Rk_th 2 hR⟩
  · have h' : ¬ jm_ x (gi_ a 21 0 0) := fun z => h ((jw_ hck hmk (by omega)).mpr z)
    exact ⟨1, 0, a, _, c_L_closeOut_a l hI a x (c_X4_closeOut_ia l hI hst a x h), c_X5_closeOut_ia l hI a x h', rfl, (fun q => absurd q (by decide)), k, n, Rk_th 1 hR⟩
