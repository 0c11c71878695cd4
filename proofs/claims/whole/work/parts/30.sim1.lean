/-! Each call, on both sides: the same answer, and the relation again -/
set_option maxHeartbeats 4000000 in
theorem pr_member (l : Launch) (hst : l.stackTraces = false) {w : Gh_} (hI : In_ w) {a : St_} {T : Nat} (hR : Rl_ T a) (x : Int64) : ∃ (kc : Int32) (r : Int32) (a1 a2 : St_), Fn_ l w yL_member (.codeWith yL_member cL_member 5 (some .int) [(0, 9, 12, 13)]) { frames := 8, cells := 1, slots := 6, locals := 132 } 1 6 [.ref (ad_ w 0 0), .long x, .ref (ad_ w 40 0)] a (.inl (some (.int kc))) a1 ∧ Fn_ l w yX5_member (.code yX5_member cX5_member 3 (some .int)) { frames := 1, cells := 0, slots := 0, locals := 25 } 0 0 [.ref (ad_ w 20 0), .long x] a1 (.inl (some (.int r))) a2 ∧ gi_ a2 20 0 0 = kc ∧ (kc = 0 → gl_ a2 40 0 0 = r.toInt64) ∧ Rl_ (T + 1) a2 := by
  obtain ⟨k, n, hR⟩ := hR
  obtain ⟨⟨hk8, hn6, hck, hmk, hcn, hmn⟩, hT, hM, hP, hN, hG, hZ⟩ := id hR
  by_cases h : wi_ x 0 1000000000000
  · by_cases hk : k = 8
    · subst hk
      exact ⟨0, -1, sl_ a 40 0 0 (-1 : Int32).toInt64, _, c_L_member_r l hI a a x (-1) (c_X4_member_full l hI hst a x h (hck.trans (by decide +kernel))), c_X5_member_full l hI (sl_ a 40 0 0 (-1 : Int32).toInt64) x h (hmk.trans (by decide +kernel)), rfl, fun _ => rfl, 8, n, Rk_ot 0 _ hR⟩
    · have hk7 : k < 8 := by omega
      refine ⟨0, nI k, sl_ (si_ (sl_ a 3 k 0 x) 0 0 0 (nI (k + 1))) 40 0 0 (nI k).toInt64, _, c_L_member_r l hI a _ x (nI k) (c_X4_member_ok l hI hst a k hck hk8 x h hk7), c_X5_member_ok l hI (sl_ (si_ (sl_ a 3 k 0 x) 0 0 0 (nI (k + 1))) 40 0 0 (nI k).toInt64) k hmk hk8 x h hk7, rfl, fun _ => rfl, k + 1, n, ⟨by omega, hn6, rfl, rfl, hcn, hmn⟩, Rt_up hT, fun m hm => ?_, hP, hN, hG, fun m hm j hj q => hZ.1 m hm j hj (by omega), fun m hm q => hZ.2 m hm (by omega)⟩
      obtain ⟨h1, h2, h3, h4, h5⟩ := hM m hm
      refine ⟨h1, ?_, h3, h4, ?_⟩
      · by_cases e : m = k
        · subst e
          simp [gl_sl, gl_si, th_]
        · simp [gl_sl, gl_si, th_, e]
          exact h2
      · by_cases e : m = k
        · subst e
          simp [gl_sl, gl_si, th_]
          exact (wb_ (by decide +kernel) (by decide +kernel)).mp h
        · simp [gl_sl, gl_si, th_, e]
          exact h5
  · exact ⟨1, 0, a, _, c_L_member_a l hI a x (c_X4_member_ia l hI hst a x h), c_X5_member_ia l hI a x h, rfl, (fun q => absurd q (by decide)), k, n, Rk_th 1 hR⟩
set_option maxHeartbeats 4000000 in
theorem pr_instrument (l : Launch) (hst : l.stackTraces = false) {w : Gh_} (hI : In_ w) {a : St_} {T : Nat} (hR : Rl_ T a) (x : Int32) (y : Int32) (z : Int32) : ∃ (kc : Int32) (r : Int32) (a1 a2 : St_), Fn_ l w yL_instrument (.codeWith yL_instrument cL_instrument 6 (some .int) [(0, 12, 15, 13)]) { frames := 8, cells := 1, slots := 6, locals := 134 } 1 6 [.ref (ad_ w 0 0), .int x, .int y, .int z, .ref (ad_ w 40 0)] a (.inl (some (.int kc))) a1 ∧ Fn_ l w yX5_instrument (.code yX5_instrument cX5_instrument 4 (some .int)) { frames := 1, cells := 0, slots := 0, locals := 25 } 0 0 [.ref (ad_ w 20 0), .int x, .int y, .int z] a1 (.inl (some (.int r))) a2 ∧ gi_ a2 20 0 0 = kc ∧ (kc = 0 → gl_ a2 40 0 0 = r.toInt64) ∧ Rl_ (T + 1) a2 := by
  obtain ⟨k, n, hR⟩ := hR
  obtain ⟨⟨hk8, hn6, hck, hmk, hcn, hmn⟩, hT, hM, hP, hN, hG, hZ⟩ := id hR
  by_cases h : wi_ x.toInt64 0 1000000 ∧ wi_ y.toInt64 0 1000000 ∧ wi_ z.toInt64 0 1000000
  · by_cases hn : n = 6
    · subst hn
      exact ⟨0, -1, sl_ a 40 0 0 (-1 : Int32).toInt64, _, c_L_instrument_r l hI a a x y z (-1) (c_X4_instrument_full l hI hst a x y z h (hcn.trans (by decide +kernel))), c_X5_instrument_full l hI (sl_ a 40 0 0 (-1 : Int32).toInt64) x y z h (hmn.trans (by decide +kernel)), rfl, fun _ => rfl, k, 6, Rk_ot 0 _ hR⟩
    · have hn5 : n < 6 := by omega
      refine ⟨0, nI n, sl_ (si_ (si_ (si_ (si_ a 6 n 0 x) 7 n 0 y) 8 n 0 z) 1 0 0 (nI (n + 1))) 40 0 0 (nI n).toInt64, _, c_L_instrument_r l hI a _ x y z (nI n) (c_X4_instrument_ok l hI hst a n hcn hn6 x y z h hn5), c_X5_instrument_ok l hI (sl_ (si_ (si_ (si_ (si_ a 6 n 0 x) 7 n 0 y) 8 n 0 z) 1 0 0 (nI (n + 1))) 40 0 0 (nI n).toInt64) n hmn hn6 x y z h hn5, rfl, fun _ => rfl, k, n + 1, ⟨hk8, by omega, hck, hmk, rfl, rfl⟩, Rt_up hT, hM, hP, fun j hj => ?_, hG, fun m hm j hj q => hZ.1 m hm j hj (by omega), hZ.2⟩
      by_cases e : j = n
      · subst e
        simp [gi_sl, gi_si, th_]
        exact ⟨(wc6_ (by decide +kernel) (by decide +kernel)).mp h.1, (wc6_ (by decide +kernel) (by decide +kernel)).mp h.2.1, (wc6_ (by decide +kernel) (by decide +kernel)).mp h.2.2⟩
      · simp [gi_sl, gi_si, th_, e]
        exact hN j hj
  · exact ⟨1, 0, a, _, c_L_instrument_a l hI a x y z (c_X4_instrument_ia l hI hst a x y z h), c_X5_instrument_ia l hI a x y z h, rfl, (fun q => absurd q (by decide)), k, n, Rk_th 1 hR⟩
set_option maxHeartbeats 4000000 in
theorem pr_capital (l : Launch) (hst : l.stackTraces = false) {w : Gh_} (hI : In_ w) {a : St_} {T : Nat} (hR : Rl_ T a) (x : Int64) : ∃ (kc : Int32) (r : Int64) (a1 a2 : St_), Fn_ l w yL_capital (.codeWith yL_capital cL_capital 5 (some .int) [(0, 8, 11, 13)]) { frames := 8, cells := 1, slots := 6, locals := 132 } 1 6 [.ref (ad_ w 0 0), .long x, .ref (ad_ w 40 0)] a (.inl (some (.int kc))) a1 ∧ Fn_ l w yX5_capital (.code yX5_capital cX5_capital 3 (some .long)) { frames := 1, cells := 0, slots := 0, locals := 25 } 0 0 [.ref (ad_ w 20 0), .long x] a1 (.inl (some (.long r))) a2 ∧ gi_ a2 20 0 0 = kc ∧ (kc = 0 → gl_ a2 40 0 0 = r) ∧ Rl_ (T + 1) a2 := by
  obtain ⟨k, n, hR⟩ := hR
  obtain ⟨⟨hk8, hn6, hck, hmk, hcn, hmn⟩, hT, hM, hP, hN, hG, hZ⟩ := id hR
  by_cases h : wi_ x 0 1000000000000
  · by_cases h2 : tm_ (gl_ a 0 0 0 + x)
    · have h2' : tm_ (gl_ a 22 0 0 + x) := by rw [← hG.1]; exact h2
      have hm2 := c_X5_capital_ok l hI (sl_ (sl_ a 0 0 0 (gl_ a 0 0 0 + x)) 40 0 0 (gl_ a 0 0 0 + x)) x h h2'
      rw [show gl_ (sl_ (sl_ a 0 0 0 (gl_ a 0 0 0 + x)) 40 0 0 (gl_ a 0 0 0 + x)) 22 0 0 = gl_ a 0 0 0 from hG.1.symm] at hm2
      refine ⟨0, gl_ a 0 0 0 + x, _, _, c_L_capital_r l hI a _ x _ (c_X4_capital_ok l hI hst a x h h2), hm2, rfl, fun _ => rfl, k, n, hR.1, Rt_up hT, hM, hP, hN, ⟨?_, hG.2.1, ?_, hG.2.2.2⟩, hZ⟩
      · rfl
      · show be6_ (gl_ a 0 0 0 + x) _ _
        have b1 := tm_b.mp h2
        have b2 := (wb_ (l := 0) (h := 1000000000000) (by decide +kernel) (by decide +kernel)).mp h
        have b3 := hG.2.2.1
        unfold be6_ at b1 b2 b3 ⊢
        have e := Kit.i64_add (x := gl_ a 0 0 0) (y := x) (by omega) (by omega)
        omega
    · have h2' : ¬ tm_ (gl_ a 22 0 0 + x) := by rw [← hG.1]; exact h2
      exact ⟨0, -1, sl_ a 40 0 0 (-1), _, c_L_capital_r l hI a a x (-1) (c_X4_capital_none l hI hst a x h h2), c_X5_capital_none l hI (sl_ a 40 0 0 (-1)) x h h2', rfl, fun _ => rfl, k, n, Rk_ot 0 _ hR⟩
  · exact ⟨1, 0, a, _, c_L_capital_a l hI a x (c_X4_capital_ia l hI hst a x h), c_X5_capital_ia l hI a x h, rfl, (fun q => absurd q (by decide)), k, n, Rk_th 1 hR⟩
set_option maxHeartbeats 4000000 in
theorem pr_move (l : Launch) (hst : l.stackTraces = false) {w : Gh_} (hI : In_ w) {a : St_} {T : Nat} (hR : Rl_ T a) (x : Int32) (y : Int32) (z : Int32) : ∃ (kc : Int32) (a1 a2 : St_), Fn_ l w yL_move (.codeWith yL_move cL_move 5 (some .int) [(0, 7, 10, 13)]) { frames := 8, cells := 1, slots := 6, locals := 133 } 1 6 [.ref (ad_ w 0 0), .int x, .int y, .int z] a (.inl (some (.int kc))) a1 ∧ Fn_ l w yX5_move (.code yX5_move cX5_move 4 none) { frames := 1, cells := 0, slots := 0, locals := 25 } 0 0 [.ref (ad_ w 20 0), .int x, .int y, .int z] a1 (.inl none) a2 ∧ gi_ a2 20 0 0 = kc ∧ Rl_ (T + 1) a2 := by
  obtain ⟨k, n, hR⟩ := hR
  obtain ⟨⟨hk8, hn6, hck, hmk, hcn, hmn⟩, hT, hM, hP, hN, hG, hZ⟩ := id hR
  by_cases h : wi_ x.toInt64 0 7 ∧ wi_ y.toInt64 0 (gi_ a 1 0 0 - 1).toInt64 ∧ wi_ z.toInt64 (-1000000) 1000000
  · obtain ⟨h1, h2, h3⟩ := h
    obtain ⟨v, hv, rfl⟩ := iw_out (z := 7) (by decide +kernel) (by decide) h1
    obtain ⟨j, hj, rfl⟩ := im_out hcn (by omega) h2
    have hv : v < 8 := by omega
    refine ⟨0, si_ a 9 v j z, _, c_L_move_r l hI a _ (nI v) (nI j) z (c_X4_move_ok l hI hst a n hcn hn6 v j hv hj z h3), c_X5_move_ok l hI (si_ a 9 v j z) n hmn hn6 v j hv hj z h3, rfl, k, n, hR.1, Rt_up hT, hM, fun m hm i hi => ?_, hN, hG, hZ⟩
    obtain ⟨q1, q2, q3, q4, q5, q6⟩ := hP m hm i hi
    refine ⟨q1, q2, ?_, q4, q5, ?_⟩
    · by_cases e : m = v ∧ i = j
      · obtain ⟨rfl, rfl⟩ := e
        simp [gi_si, th_]
      · have e2 : ¬ (6 * m + i = 6 * v + j) := by omega
        simp [gi_si, th_, e, e2]
        exact q3
    · by_cases e : m = v ∧ i = j
      · obtain ⟨rfl, rfl⟩ := e
        simp [gi_si, th_]
        exact (wc6_ (by decide +kernel) (by decide +kernel)).mp h3
      · simp [gi_si, th_, e]
        exact q6
  · have h' : ¬ ((¬ x < 0 ∧ ¬ 7 < x) ∧ jm_ y (gi_ a 22 0 0) ∧ wi_ z.toInt64 (-1000000) 1000000) := by
      rintro ⟨⟨q1, q2⟩, q3, q4⟩
      refine h ⟨?_, (jw_ hcn hmn (by omega)).mpr q3, q4⟩
      refine (wc6_ (l := 0) (h := 7) (by decide +kernel) (by decide +kernel)).mpr ?_
      rw [Int32.lt_iff_toInt_lt] at q1 q2
      have e0 : (0 : Int32).toInt = 0 := by decide
      have e7 : (7 : Int32).toInt = 7 := by decide
      exact ⟨by omega, by omega⟩
    exact ⟨1, a, _, c_L_move_a l hI a x y z (c_X4_move_ia l hI hst a x y z h), c_X5_move_ia l hI a x y z h', rfl, k, n, Rk_th 1 hR⟩
set_option maxHeartbeats 4000000 in
theorem pr_bid (l : Launch) (hst : l.stackTraces = false) {w : Gh_} (hI : In_ w) {a : St_} {T : Nat} (hR : Rl_ T a) (x : Int32) (y : Int32) (z : Int32) : ∃ (kc : Int32) (a1 a2 : St_), Fn_ l w yL_bid (.codeWith yL_bid cL_bid 5 (some .int) [(0, 7, 10, 13)]) { frames := 8, cells := 1, slots := 6, locals := 133 } 1 6 [.ref (ad_ w 0 0), .int x, .int y, .int z] a (.inl (some (.int kc))) a1 ∧ Fn_ l w yX5_bid (.code yX5_bid cX5_bid 4 none) { frames := 1, cells := 0, slots := 0, locals := 25 } 0 0 [.ref (ad_ w 20 0), .int x, .int y, .int z] a1 (.inl none) a2 ∧ gi_ a2 20 0 0 = kc ∧ Rl_ (T + 1) a2 := by
  obtain ⟨k, n, hR⟩ := hR
  obtain ⟨⟨hk8, hn6, hck, hmk, hcn, hmn⟩, hT, hM, hP, hN, hG, hZ⟩ := id hR
  by_cases h : wi_ x.toInt64 0 (gi_ a 0 0 0 - 1).toInt64 ∧ wi_ y.toInt64 0 (gi_ a 1 0 0 - 1).toInt64 ∧ wi_ z.toInt64 0 1000000
  · obtain ⟨h1, h2, h3⟩ := h
    obtain ⟨v, hv, rfl⟩ := im_out hck (by omega) h1
    obtain ⟨j, hj, rfl⟩ := im_out hcn (by omega) h2
    refine ⟨0, si_ a 5 v j z, _, c_L_bid_r l hI a _ (nI v) (nI j) z (c_X4_bid_ok l hI hst a k hck hk8 n hcn hn6 v j hv hj z h3), c_X5_bid_ok l hI (si_ a 5 v j z) k hmk hk8 n hmn hn6 v j hv hj z h3, rfl, k, n, hR.1, Rt_up hT, hM, fun m hm i hi => ?_, hN, hG, hZ⟩
    obtain ⟨q1, q2, q3, q4, q5, q6⟩ := hP m hm i hi
    refine ⟨q1, ?_, q3, q4, ?_, q6⟩
    · by_cases e : m = v ∧ i = j
      · obtain ⟨rfl, rfl⟩ := e
        simp [gi_si, th_]
      · have e2 : ¬ (6 * m + i = 6 * v + j) := by omega
        simp [gi_si, th_, e, e2]
        exact q2
    · by_cases e : m = v ∧ i = j
      · obtain ⟨rfl, rfl⟩ := e
        simp [gi_si, th_]
        exact (wc6_ (by decide +kernel) (by decide +kernel)).mp h3
      · simp [gi_si, th_, e]
        exact q5
  · have h' : ¬ (jm_ x (gi_ a 21 0 0) ∧ jm_ y (gi_ a 22 0 0) ∧ wi_ z.toInt64 0 1000000) := fun q => h ⟨(jw_ hck hmk (by omega)).mpr q.1, (jw_ hcn hmn (by omega)).mpr q.2.1, q.2.2⟩
    exact ⟨1, a, _, c_L_bid_a l hI a x y z (c_X4_bid_ia l hI hst a x y z h), c_X5_bid_ia l hI a x y z h', rfl, k, n, Rk_th 1 hR⟩
set_option maxHeartbeats 4000000 in
theorem pr_deposit (l : Launch) (hst : l.stackTraces = false) {w : Gh_} (hI : In_ w) {a : St_} {T : Nat} (hR : Rl_ T a) (x : Int32) (y : Int64) : ∃ (kc : Int32) (r : Int64) (a1 a2 : St_), Fn_ l w yL_deposit (.codeWith yL_deposit cL_deposit 6 (some .int) [(0, 10, 13, 13), (0, 10, 17, 34)]) { frames := 8, cells := 1, slots := 6, locals := 135 } 1 6 [.ref (ad_ w 0 0), .int x, .long y, .ref (ad_ w 40 0)] a (.inl (some (.int kc))) a1 ∧ Fn_ l w yX5_deposit (.code yX5_deposit cX5_deposit 4 (some .long)) { frames := 1, cells := 0, slots := 0, locals := 25 } 0 0 [.ref (ad_ w 20 0), .int x, .long y] a1 (.inl (some (.long r))) a2 ∧ gi_ a2 20 0 0 = kc ∧ (kc = 0 → gl_ a2 40 0 0 = r) ∧ Rl_ (T + 1) a2 := by
  obtain ⟨k, n, hR⟩ := hR
  obtain ⟨⟨hk8, hn6, hck, hmk, hcn, hmn⟩, hT, hM, hP, hN, hG, hZ⟩ := id hR
  by_cases h : wi_ x.toInt64 0 (gi_ a 0 0 0 - 1).toInt64 ∧ wi_ y 1 1000000000000
  · obtain ⟨h1, h2⟩ := h
    obtain ⟨m, hm, rfl⟩ := im_out hck (by omega) h1
    have hm8 : m < 8 := by omega
    obtain ⟨q1, q2, q3, q4, q5⟩ := hM m hm8
    by_cases hs : gi_ a 3 m 0 = 0
    · have hs' : gi_ a 23 0 m = 0 := q3.symm.trans hs
      by_cases h3 : tm_ (gl_ a 2 m 0 + y)
      · have h3' : tm_ (gl_ a 20 0 m + y) := by rw [← q1]; exact h3
        have hm2 := c_X5_deposit_ok l hI (sl_ (sl_ a 2 m 0 (gl_ a 2 m 0 + y)) 40 0 0 (gl_ a 2 m 0 + y)) k hmk hk8 m hm y h2 hs' h3'
        rw [show gl_ (sl_ (sl_ a 2 m 0 (gl_ a 2 m 0 + y)) 40 0 0 (gl_ a 2 m 0 + y)) 20 0 m = gl_ a 2 m 0 from q1.symm] at hm2
        refine ⟨0, gl_ a 2 m 0 + y, _, _, c_L_deposit_r l hI a _ (nI m) y _ (c_X4_deposit_ok l hI hst a k hck hk8 m hm y h2 hs h3), hm2, rfl, fun _ => rfl, k, n, hR.1, Rt_up hT, fun i hi => ?_, hP, hN, hG, hZ⟩
        obtain ⟨r1, r2, r3, r4, r5⟩ := hM i hi
        by_cases e : i = m
        · subst e
          refine ⟨?_, r2, r3, ?_, r5⟩
          · simp [gl_sl, gl_si, th_]
          · simp [gl_sl, gl_si, th_]
            exact tm_b.mp h3
        · refine ⟨?_, r2, r3, ?_, r5⟩
          · simp [gl_sl, gl_si, th_, e]
            exact r1
          · simp [gl_sl, gl_si, th_, e]
            exact r4
      · have h3' : ¬ tm_ (gl_ a 20 0 m + y) := by rw [← q1]; exact h3
        exact ⟨0, -1, sl_ a 40 0 0 (-1), _, c_L_deposit_r l hI a a (nI m) y (-1) (c_X4_deposit_none l hI hst a k hck hk8 m hm y h2 hs h3), c_X5_deposit_none l hI (sl_ a 40 0 0 (-1)) k hmk hk8 m hm y h2 hs' h3', rfl, fun _ => rfl, k, n, Rk_ot 0 _ hR⟩
    · have hs' : ¬ gi_ a 23 0 m = 0 := fun q => hs (q3.trans q)
      exact ⟨2, 0, a, _, c_L_deposit_s l hI a (nI m) y (c_X4_deposit_is l hI hst a k hck hk8 m hm y h2 hs), c_X5_deposit_is l hI a k hmk hk8 m hm y h2 hs', rfl, (fun q => absurd q (by decide)), k, n, Rk_th 2 hR⟩
  · have h' : ¬ (jm_ x (gi_ a 21 0 0) ∧ wi_ y 1 1000000000000) := fun q => h ⟨(jw_ hck hmk (by omega)).mpr q.1, q.2⟩
    exact ⟨1, 0, a, _, c_L_deposit_a l hI a x y (c_X4_deposit_ia l hI hst a x y h), c_X5_deposit_ia l hI a x y h', rfl, (fun q => absurd q (by decide)), k, n, Rk_th 1 hR⟩
set_option maxHeartbeats 4000000 in
theorem pr_position (l : Launch) (hst : l.stackTraces = false) {w : Gh_} (hI : In_ w) {a : St_} {T : Nat} (hR : Rl_ T a) (x : Int32) (y : Int32) : ∃ (kc : Int32) (r : Int32) (a1 a2 : St_), Fn_ l w yL_position (.codeWith yL_position cL_position 5 (some .int) [(0, 10, 13, 13)]) { frames := 8, cells := 1, slots := 6, locals := 132 } 1 6 [.ref (ad_ w 0 0), .int x, .int y, .ref (ad_ w 40 0)] a (.inl (some (.int kc))) a1 ∧ Fn_ l w yX5_position (.code yX5_position cX5_position 3 (some .int)) { frames := 1, cells := 0, slots := 0, locals := 21 } 0 0 [.ref (ad_ w 20 0), .int x, .int y] a1 (.inl (some (.int r))) a2 ∧ gi_ a2 20 0 0 = kc ∧ (kc = 0 → gl_ a2 40 0 0 = r.toInt64) ∧ Rl_ (T + 1) a2 := by
  obtain ⟨k, n, hR⟩ := hR
  obtain ⟨⟨hk8, hn6, hck, hmk, hcn, hmn⟩, hT, hM, hP, hN, hG, hZ⟩ := id hR
  by_cases h : wi_ x.toInt64 0 (gi_ a 0 0 0 - 1).toInt64 ∧ wi_ y.toInt64 0 (gi_ a 1 0 0 - 1).toInt64
  · obtain ⟨h1, h2⟩ := h
    obtain ⟨m, hm, rfl⟩ := im_out hck (by omega) h1
    obtain ⟨j, hj, rfl⟩ := im_out hcn (by omega) h2
    have hm2 := c_X5_position_ok l hI (sl_ a 40 0 0 (gi_ a 4 m j).toInt64) k hmk hk8 n hmn hn6 m j hm hj
    rw [show gi_ (sl_ a 40 0 0 (gi_ a 4 m j).toInt64) 24 0 (6 * m + j) = gi_ a 4 m j from (hP m (by omega) j (by omega)).1.symm] at hm2
    refine ⟨0, gi_ a 4 m j, _, _, c_L_position_r l hI a a (nI m) (nI j) _ (c_X4_position_ok l hI hst a k hck hk8 n hcn hn6 m j hm hj), hm2, rfl, fun _ => rfl, k, n, Rk_ot 0 _ hR⟩
  · have h' : ¬ (jm_ x (gi_ a 21 0 0) ∧ jm_ y (gi_ a 22 0 0)) := fun q => h ⟨(jw_ hck hmk (by omega)).mpr q.1, (jw_ hcn hmn (by omega)).mpr q.2⟩
    exact ⟨1, 0, a, _, c_L_position_a l hI a x y (c_X4_position_ia l hI hst a x y h), c_X5_position_ia l hI a x y h', rfl, (fun q => absurd q (by decide)), k, n, Rk_th 1 hR⟩
set_option maxHeartbeats 4000000 in
theorem pr_bore (l : Launch) (hst : l.stackTraces = false) {w : Gh_} (hI : In_ w) {a : St_} {T : Nat} (hR : Rl_ T a) (x : Int32) : ∃ (kc : Int32) (r : Int64) (a1 a2 : St_), Fn_ l w yL_bore (.codeWith yL_bore cL_bore 4 (some .int) [(0, 8, 11, 13)]) { frames := 8, cells := 1, slots := 6, locals := 131 } 1 6 [.ref (ad_ w 0 0), .int x, .ref (ad_ w 40 0)] a (.inl (some (.int kc))) a1 ∧ Fn_ l w yX5_bore (.code yX5_bore cX5_bore 2 (some .long)) { frames := 0, cells := 0, slots := 0, locals := 0 } 0 0 [.ref (ad_ w 20 0), .int x] a1 (.inl (some (.long r))) a2 ∧ gi_ a2 20 0 0 = kc ∧ (kc = 0 → gl_ a2 40 0 0 = r) ∧ Rl_ (T + 1) a2 := by
  obtain ⟨k, n, hR⟩ := hR
  obtain ⟨⟨hk8, hn6, hck, hmk, hcn, hmn⟩, hT, hM, hP, hN, hG, hZ⟩ := id hR
  by_cases h : wi_ x.toInt64 0 4
  · obtain ⟨j, hj, rfl⟩ := iw_out (z := 4) (by decide +kernel) (by decide) h
    have hj : j < 5 := by omega
    have hm2 := c_X5_bore_ok l hI (sl_ a 40 0 0 (gl_ a 4 0 j)) j hj
    rw [show gl_ (sl_ a 40 0 0 (gl_ a 4 0 j)) 25 0 j = gl_ a 4 0 j from (hG.2.2.2.2 j hj).symm] at hm2
    refine ⟨0, gl_ a 4 0 j, _, _, c_L_bore_r l hI a a (nI j) _ (c_X4_bore_ok l hI hst a j hj), hm2, rfl, fun _ => rfl, k, n, Rk_ot 0 _ hR⟩
  · have h' : ¬ (¬ x < 0 ∧ x ≤ 4) := by
      rintro ⟨q1, q2⟩
      refine h ((wc6_ (l := 0) (h := 4) (by decide +kernel) (by decide +kernel)).mpr ?_)
      rw [Int32.lt_iff_toInt_lt] at q1
      rw [Int32.le_iff_toInt_le] at q2
      have e0 : (0 : Int32).toInt = 0 := by decide
      have e4 : (4 : Int32).toInt = 4 := by decide
      exact ⟨by omega, by omega⟩
    exact ⟨1, 0, a, _, c_L_bore_a l hI a x (c_X4_bore_ia l hI hst a x h), c_X5_bore_ia l hI a x h', rfl, (fun q => absurd q (by decide)), k, n, Rk_th 1 hR⟩
set_option maxHeartbeats 4000000 in
theorem pr_told (l : Launch) (hst : l.stackTraces = false) {w : Gh_} (hI : In_ w) {a : St_} {T : Nat} (hR : Rl_ T a) (x : Int32) (y : Int32) : ∃ (kc : Int32) (r : Int64) (a1 a2 : St_), Fn_ l w yL_told (.codeWith yL_told cL_told 5 (some .int) [(0, 9, 12, 13)]) { frames := 8, cells := 1, slots := 6, locals := 132 } 1 6 [.ref (ad_ w 0 0), .int x, .int y, .ref (ad_ w 40 0)] a (.inl (some (.int kc))) a1 ∧ Fn_ l w yX5_told (.code yX5_told cX5_told 3 (some .long)) { frames := 1, cells := 0, slots := 0, locals := 21 } 0 0 [.ref (ad_ w 20 0), .int x, .int y] a1 (.inl (some (.long r))) a2 ∧ gi_ a2 20 0 0 = kc ∧ (kc = 0 → gl_ a2 40 0 0 = r) ∧ Rl_ (T + 1) a2 := by
  obtain ⟨k, n, hR⟩ := hR
  obtain ⟨⟨hk8, hn6, hck, hmk, hcn, hmn⟩, hT, hM, hP, hN, hG, hZ⟩ := id hR
  by_cases h : wi_ x.toInt64 0 (gi_ a 0 0 0 - 1).toInt64 ∧ wi_ y.toInt64 0 2
  · obtain ⟨h1, h2⟩ := h
    obtain ⟨m, hm, rfl⟩ := im_out hck (by omega) h1
    obtain ⟨j, hj, rfl⟩ := iw_out (z := 2) (by decide +kernel) (by decide) h2
    obtain ⟨q1, q2, q3, q4, q5⟩ := hM m (by omega)
    have hj : j = 0 ∨ j = 1 ∨ j = 2 := by omega
    rcases hj with rfl | rfl | rfl
    · rw [show nI 0 = 0 by decide +kernel]
      have hm2 := c_X5_told_0 l hI (sl_ a 40 0 0 (gi_ a 3 m 0).toInt64) k hmk hk8 m hm
      rw [show gi_ (sl_ a 40 0 0 (gi_ a 3 m 0).toInt64) 23 0 m = gi_ a 3 m 0 from q3.symm] at hm2
      refine ⟨0, (gi_ a 3 m 0).toInt64, _, _, c_L_told_r l hI a a (nI m) 0 _ (c_X4_told_0 l hI hst a k hck hk8 m hm), hm2, rfl, fun _ => rfl, k, n, Rk_ot 0 _ hR⟩
    · rw [show nI 1 = 1 by decide +kernel]
      have hm2 := c_X5_told_1 l hI (sl_ a 40 0 0 (gl_ a 2 m 0)) k hmk hk8 m hm
      rw [show gl_ (sl_ a 40 0 0 (gl_ a 2 m 0)) 20 0 m = gl_ a 2 m 0 from q1.symm] at hm2
      refine ⟨0, gl_ a 2 m 0, _, _, c_L_told_r l hI a a (nI m) 1 _ (c_X4_told_1 l hI hst a k hck hk8 m hm), hm2, rfl, fun _ => rfl, k, n, Rk_ot 0 _ hR⟩
    · rw [show nI 2 = 2 by decide +kernel]
      have hm2 := c_X5_told_2 l hI (sl_ a 40 0 0 (gl_ a 3 m 0)) k hmk hk8 m hm
      rw [show gl_ (sl_ a 40 0 0 (gl_ a 3 m 0)) 21 0 m = gl_ a 3 m 0 from q2.symm] at hm2
      refine ⟨0, gl_ a 3 m 0, _, _, c_L_told_r l hI a a (nI m) 2 _ (c_X4_told_2 l hI hst a k hck hk8 m hm), hm2, rfl, fun _ => rfl, k, n, Rk_ot 0 _ hR⟩
  · have h' : ¬ (jm_ x (gi_ a 21 0 0) ∧ ¬ y < 0 ∧ y ≤ 2) := by
      rintro ⟨q0, q1, q2⟩
      refine h ⟨(jw_ hck hmk (by omega)).mpr q0, (wc6_ (l := 0) (h := 2) (by decide +kernel) (by decide +kernel)).mpr ?_⟩
      rw [Int32.lt_iff_toInt_lt] at q1
      rw [Int32.le_iff_toInt_le] at q2
      have e0 : (0 : Int32).toInt = 0 := by decide
      have e4 : (2 : Int32).toInt = 2 := by decide
      exact ⟨by omega, by omega⟩
    exact ⟨1, 0, a, _, c_L_told_a l hI a x y (c_X4_told_ia l hI hst a x y h), c_X5_told_ia l hI a x y h', rfl, (fun q => absurd q (by decide)), k, n, Rk_th 1 hR⟩
