/-! Calls that read the margin; sums; declare -/
theorem sm_qa {a b : St_} {v u : Nat} (h : ∀ m, m < 8 → gl_ a v m 0 = gl_ b u 0 m) : ∀ i, i ≤ 8 → sm_ a v i = qa_ b u i
  | 0, _ => rfl
  | i + 1, hi => by rw [sm_, qa_, sm_qa h i (by omega), h i (by omega)]
theorem qz_0 : ∀ i, qz_ i = 0
  | 0 => rfl
  | i + 1 => by rw [qz_, qz_0 i]; rfl
theorem su_t (p : Int32) : (if p ≤ 0 then 0 else p) = (if (0 : Int32) < p then p else 0) := by
  by_cases h : p ≤ 0
  · rw [if_pos h, if_neg (Int32.not_lt.mpr h)]
  · rw [if_neg h, if_pos (Int32.not_le.mp h)]
theorem su_q {a b : St_} {m n : Nat} (z : Int64) (hm : m < 8) (hn : n ≤ 6) (h : ∀ j, j < 6 → gi_ a 4 m j = gi_ b 24 0 (6 * m + j)) (h0 : ∀ j, j < 6 → n ≤ j → gi_ a 4 m j = 0) : ∀ j, j ≤ 6 → qo_ b z (6 * m + j) = su_ a m (qo_ b z (6 * m)) (if j ≤ n then j else n)
  | 0, _ => by rw [if_pos (Nat.zero_le _)]; rfl
  | j + 1, hj => by
    have ih := su_q z hm hn h h0 j (by omega)
    rw [show 6 * m + (j + 1) = (6 * m + j) + 1 by omega, qo_, ih, ← h j (by omega), su_t]
    by_cases q : j + 1 ≤ n
    · rw [if_pos (by omega), if_pos q, su_]
    · rw [if_neg q, h0 j (by omega) (by omega)]
      have e : (if j ≤ n then j else n) = n := by split <;> omega
      rw [e, show (if (0 : Int32) < 0 then 0 else 0 : Int32).toInt64 = 0 by decide +kernel, Int64.add_zero]
theorem su_0 (a : St_) (m : Nat) (x : Int64) (h0 : ∀ j, j < 6 → gi_ a 4 m j = 0) : ∀ j, j ≤ 6 → su_ a m x j = x
  | 0, _ => rfl
  | j + 1, hj => by
    rw [su_, su_0 a m x h0 j (by omega), h0 j (by omega), show (if (0 : Int32) < 0 then 0 else 0 : Int32).toInt64 = 0 by decide +kernel, Int64.add_zero]
theorem so_q {a b : St_} {k n : Nat} (hk : k ≤ 8) (hn : n ≤ 6) (h : ∀ m, m < 8 → ∀ j, j < 6 → gi_ a 4 m j = gi_ b 24 0 (6 * m + j)) (h0 : ∀ m, m < 8 → ∀ j, j < 6 → (k ≤ m ∨ n ≤ j) → gi_ a 4 m j = 0) : ∀ m, m ≤ 8 → qo_ b 0 (6 * m) = so_ a n (if m ≤ k then m else k)
  | 0, _ => by rw [if_pos (Nat.zero_le _)]; rfl
  | m + 1, hm => by
    have ih := so_q hk hn h h0 m (by omega)
    have e := su_q (a := a) (b := b) (n := n) 0 (show m < 8 by omega) hn (h m (by omega)) (fun j hj q => h0 m (by omega) j hj (Or.inr q)) 6 (by omega)
    rw [show 6 * (m + 1) = 6 * m + 6 by omega, e, ih, show (if 6 ≤ n then 6 else n) = n by split <;> omega]
    by_cases q : m + 1 ≤ k
    · rw [if_pos (by omega), if_pos q, so_]
    · have e2 : (if m ≤ k then m else k) = k := by split <;> omega
      rw [if_neg q, e2, su_0 a m _ (fun j hj => h0 m (by omega) j hj (Or.inl (by omega))) n hn]
def Dq_ (a b d e : St_) : Prop := (∀ m, m < 8 → gi_ d 3 m 0 = gi_ e 23 0 m) ∧ (∀ v x y, v ≠ 3 → gi_ d v x y = gi_ a v x y) ∧ (∀ v x y, gl_ d v x y = gl_ a v x y) ∧ (∀ v x y, v ≠ 23 → gi_ e v x y = gi_ b v x y) ∧ ∀ v x y, gl_ e v x y = gl_ b v x y
theorem dq_sim {a b : St_} {n : Nat} (hn : n ≤ 6) (hv : ∀ m, m < 8 → Mv_ a b m) (hs : ∀ m, m < 8 → gi_ a 3 m 0 = gi_ b 23 0 m) (hc : ∀ m, m < 8 → gl_ a 2 m 0 = gl_ b 20 0 m) : ∀ i, i ≤ 8 → (dc_ a n i).2 = (qd_ b n i).2 ∧ Dq_ a b (dc_ a n i).1 (qd_ b n i).1
  | 0, _ => ⟨rfl, hs, fun _ _ _ _ => rfl, fun _ _ _ => rfl, fun _ _ _ _ => rfl, fun _ _ _ => rfl⟩
  | i + 1, hi => by
    obtain ⟨h1, h2, h3, h4, h5, h6⟩ := dq_sim hn hv hs hc i (by omega)
    have hMv : Mv_ (dc_ a n i).1 (qd_ b n i).1 i := by
      obtain ⟨g1, g2, g3⟩ := hv i (by omega)
      refine ⟨fun j hj => ?_, fun v hv j hj => ?_, fun j hj => ?_⟩
      · rw [h3 4 i j (by decide), h5 24 _ _ (by decide)]
        exact g1 j hj
      · rw [h3 9 v j (by decide), h5 29 _ _ (by decide)]
        exact g2 v hv j hj
      · rw [h3 7 j 0 (by decide), h3 8 j 0 (by decide), h5 27 _ _ (by decide), h5 28 _ _ (by decide)]
        exact g3 j hj
    have e : qc_ (qd_ b n i).1 i n = sf_ (dc_ a n i).1 i n := mv_sf hMv hn (h2 i (by omega)) (by rw [h4, h6]; exact hc i (by omega))
    rw [dc_, qd_, e]
    by_cases q : sf_ (dc_ a n i).1 i n ≤ 0
    · rw [if_pos q, if_pos q]
      exact ⟨h1, h2, h3, h4, h5, h6⟩
    · rw [if_neg q, if_neg q]
      refine ⟨by rw [h1], fun m hm => ?_, fun v x y hv => ?_, h4, fun v x y hv => ?_, h6⟩
      · by_cases em : m = i
        · subst em
          simp [gi_si]
        · simp [gi_si, em]
          exact h2 m hm
      · simp [gi_si, hv]
        exact h3 v x y hv
      · simp [gi_si, hv]
        exact h5 v x y hv
set_option maxHeartbeats 4000000 in
theorem pr_margin (l : Launch) (hst : l.stackTraces = false) {w : Gh_} (hI : In_ w) {a : St_} {T : Nat} (hR : Rl_ T a) (x : Int32) : ∃ (kc : Int32) (r : Int64) (a1 a2 : St_), Fn_ l w yL_margin (.codeWith yL_margin cL_margin 4 (some .int) [(0, 8, 11, 13)]) { frames := 8, cells := 1, slots := 6, locals := 131 } 1 6 [.ref (ad_ w 0 0), .int x, .ref (ad_ w 40 0)] a (.inl (some (.int kc))) a1 ∧ Fn_ l w yX5_margin (.code yX5_margin cX5_margin 2 (some .long)) { frames := 1, cells := 0, slots := 0, locals := 27 } 0 0 [.ref (ad_ w 20 0), .int x] a1 (.inl (some (.long r))) a2 ∧ gi_ a2 20 0 0 = kc ∧ (kc = 0 → gl_ a2 40 0 0 = r) ∧ Rl_ (T + 1) a2 := by
  obtain ⟨k, n, hR⟩ := hR
  obtain ⟨⟨hk8, hn6, hck, hmk, hcn, hmn⟩, hT, hM, hP, hN, hG, hZ⟩ := id hR
  by_cases h : wi_ x.toInt64 0 (gi_ a 0 0 0 - 1).toInt64
  · obtain ⟨m, hm, rfl⟩ := im_out hck (by omega) h
    have hm2 := c_X5_margin_ok l hI (sl_ a 40 0 0 (mg_ a m n)) k hmk hk8 n hmn hn6 m hm
    rw [mv_mg (Mv_of (b := th_ (sl_ a 40 0 0 (mg_ a m n)) 0) hP hN (by omega) (fun _ _ => rfl) (fun _ => rfl) (fun _ => rfl) (fun _ => rfl)) hn6] at hm2
    exact ⟨0, mg_ a m n, _, _, c_L_margin_r l hI a a (nI m) _ (c_X4_margin_ok l hI hst a k hck hk8 n hcn hn6 m hm), hm2, rfl, fun _ => rfl, k, n, Rk_ot 0 _ hR⟩
  · have h' : ¬ jm_ x (gi_ a 21 0 0) := fun q => h ((jw_ hck hmk (by omega)).mpr q)
    exact ⟨1, 0, a, _, c_L_margin_a l hI a x (c_X4_margin_ia l hI hst a x h), c_X5_margin_ia l hI a x h', rfl, (fun q => absurd q (by decide)), k, n, Rk_th 1 hR⟩
set_option maxHeartbeats 4000000 in
theorem pr_called (l : Launch) (hst : l.stackTraces = false) {w : Gh_} (hI : In_ w) {a : St_} {T : Nat} (hR : Rl_ T a) (x : Int32) : ∃ (kc : Int32) (r : Int64) (a1 a2 : St_), Fn_ l w yL_called (.codeWith yL_called cL_called 4 (some .int) [(0, 8, 11, 13)]) { frames := 8, cells := 1, slots := 6, locals := 131 } 1 6 [.ref (ad_ w 0 0), .int x, .ref (ad_ w 40 0)] a (.inl (some (.int kc))) a1 ∧ Fn_ l w yX5_called (.code yX5_called cX5_called 2 (some .long)) { frames := 2, cells := 0, slots := 0, locals := 50 } 0 0 [.ref (ad_ w 20 0), .int x] a1 (.inl (some (.long r))) a2 ∧ gi_ a2 20 0 0 = kc ∧ (kc = 0 → gl_ a2 40 0 0 = r) ∧ Rl_ (T + 1) a2 := by
  obtain ⟨k, n, hR⟩ := hR
  obtain ⟨⟨hk8, hn6, hck, hmk, hcn, hmn⟩, hT, hM, hP, hN, hG, hZ⟩ := id hR
  by_cases h : wi_ x.toInt64 0 (gi_ a 0 0 0 - 1).toInt64
  · obtain ⟨m, hm, rfl⟩ := im_out hck (by omega) h
    obtain ⟨q1, q2, q3, q4, q5⟩ := hM m (by omega)
    have hm2 := c_X5_called_ok l hI (sl_ a 40 0 0 (sf_ a m n)) k hmk hk8 n hmn hn6 m hm
    rw [mv_sf (Mv_of (b := th_ (sl_ a 40 0 0 (sf_ a m n)) 0) hP hN (by omega) (fun _ _ => rfl) (fun _ => rfl) (fun _ => rfl) (fun _ => rfl)) hn6 q3 q1] at hm2
    exact ⟨0, sf_ a m n, _, _, c_L_called_r l hI a a (nI m) _ (c_X4_called_ok l hI hst a k hck hk8 n hcn hn6 m hm), hm2, rfl, fun _ => rfl, k, n, Rk_ot 0 _ hR⟩
  · have h' : ¬ jm_ x (gi_ a 21 0 0) := fun q => h ((jw_ hck hmk (by omega)).mpr q)
    exact ⟨1, 0, a, _, c_L_called_a l hI a x (c_X4_called_ia l hI hst a x h), c_X5_called_ia l hI a x h', rfl, (fun q => absurd q (by decide)), k, n, Rk_th 1 hR⟩
set_option maxHeartbeats 4000000 in
theorem pr_withdraw (l : Launch) (hst : l.stackTraces = false) {w : Gh_} (hI : In_ w) {a : St_} {T : Nat} (hR : Rl_ T a) (x : Int32) (y : Int64) : ∃ (kc : Int32) (r : Int64) (a1 a2 : St_), Fn_ l w yL_withdraw (.codeWith yL_withdraw cL_withdraw 6 (some .int) [(0, 10, 13, 13), (0, 10, 17, 34)]) { frames := 8, cells := 1, slots := 6, locals := 135 } 1 6 [.ref (ad_ w 0 0), .int x, .long y, .ref (ad_ w 40 0)] a (.inl (some (.int kc))) a1 ∧ Fn_ l w yX5_withdraw (.code yX5_withdraw cX5_withdraw 4 (some .long)) { frames := 1, cells := 0, slots := 0, locals := 27 } 0 0 [.ref (ad_ w 20 0), .int x, .long y] a1 (.inl (some (.long r))) a2 ∧ gi_ a2 20 0 0 = kc ∧ (kc = 0 → gl_ a2 40 0 0 = r) ∧ Rl_ (T + 1) a2 := by
  obtain ⟨k, n, hR⟩ := hR
  obtain ⟨⟨hk8, hn6, hck, hmk, hcn, hmn⟩, hT, hM, hP, hN, hG, hZ⟩ := id hR
  by_cases h : wi_ x.toInt64 0 (gi_ a 0 0 0 - 1).toInt64 ∧ wi_ y 1 1000000000000
  · obtain ⟨h1, h2⟩ := h
    obtain ⟨m, hm, rfl⟩ := im_out hck (by omega) h1
    have hm8 : m < 8 := by omega
    obtain ⟨q1, q2, q3, q4, q5⟩ := hM m hm8
    by_cases hs : gi_ a 3 m 0 = 0
    · have hs' : gi_ a 23 0 m = 0 := q3.symm.trans hs
      by_cases h3 : mg_ a m n ≤ gl_ a 2 m 0 - y
      · have hv := Mv_of (m := m) (b := th_ (sl_ (sl_ a 2 m 0 (gl_ a 2 m 0 - y)) 40 0 0 (gl_ a 2 m 0 - y)) 0) hP hN (by omega) (fun _ _ => rfl) (fun _ => rfl) (fun _ => rfl) (fun _ => rfl)
        have hb := mg_b (n := n) hv hn6
        have ht : tm_ (gl_ a 2 m 0 - y) := by
          have b2 := (wb_ (l := 1) (h := 1000000000000) (by decide +kernel) (by decide +kernel)).mp h2
          rw [tm_b]
          rw [Int64.le_iff_toInt_le] at h3
          unfold be6_ at q4 b2 ⊢
          have e := Kit.i64_sub (x := gl_ a 2 m 0) (y := y) (by omega) (by omega)
          omega
        have hn2 : ¬ gl_ a 20 0 m - y < qg_ (th_ (sl_ (sl_ a 2 m 0 (gl_ a 2 m 0 - y)) 40 0 0 (gl_ a 2 m 0 - y)) 0) m n := by
          rw [mv_mg hv hn6, ← q1]
          exact Int64.not_lt.mpr h3
        have ht' : tm_ (gl_ a 20 0 m - y) := by rw [← q1]; exact ht
        have hm2 := c_X5_withdraw_ok l hI (sl_ (sl_ a 2 m 0 (gl_ a 2 m 0 - y)) 40 0 0 (gl_ a 2 m 0 - y)) k hmk hk8 n hmn hn6 m hm y h2 hs' hn2 ht'
        rw [show gl_ (sl_ (sl_ a 2 m 0 (gl_ a 2 m 0 - y)) 40 0 0 (gl_ a 2 m 0 - y)) 20 0 m = gl_ a 2 m 0 from q1.symm] at hm2
        refine ⟨0, gl_ a 2 m 0 - y, _, _, c_L_withdraw_r l hI a _ (nI m) y _ (c_X4_withdraw_ok l hI hst a k hck hk8 n hcn hn6 m hm y h2 hs h3), hm2, rfl, fun _ => rfl, k, n, hR.1, Rt_up hT, fun i hi => ?_, hP, hN, hG, hZ⟩
        obtain ⟨r1, r2, r3, r4, r5⟩ := hM i hi
        by_cases e : i = m
        · subst e
          refine ⟨?_, r2, r3, ?_, r5⟩
          · simp [gl_sl, gl_si, th_]
          · simp [gl_sl, gl_si, th_]
            exact tm_b.mp ht
        · refine ⟨?_, r2, r3, ?_, r5⟩
          · simp [gl_sl, gl_si, th_, e]
            exact r1
          · simp [gl_sl, gl_si, th_, e]
            exact r4
      · have hv := Mv_of (m := m) (b := th_ (sl_ a 40 0 0 (-1)) 0) hP hN (by omega) (fun _ _ => rfl) (fun _ => rfl) (fun _ => rfl) (fun _ => rfl)
        have hn2 : gl_ a 20 0 m - y < qg_ (th_ (sl_ a 40 0 0 (-1)) 0) m n := by
          rw [mv_mg hv hn6, ← q1]
          exact Int64.not_le.mp h3
        exact ⟨0, -1, sl_ a 40 0 0 (-1), _, c_L_withdraw_r l hI a a (nI m) y (-1) (c_X4_withdraw_none l hI hst a k hck hk8 n hcn hn6 m hm y h2 hs h3), c_X5_withdraw_no1 l hI (sl_ a 40 0 0 (-1)) k hmk hk8 n hmn hn6 m hm y h2 hs' hn2, rfl, fun _ => rfl, k, n, Rk_ot 0 _ hR⟩
    · have hs' : ¬ gi_ a 23 0 m = 0 := fun q => hs (q3.trans q)
      exact ⟨2, 0, a, _, c_L_withdraw_s l hI a (nI m) y (c_X4_withdraw_is l hI hst a k hck hk8 m hm y h2 hs), c_X5_withdraw_is l hI a k hmk hk8 m hm y h2 hs', rfl, (fun q => absurd q (by decide)), k, n, Rk_th 2 hR⟩
  · have h' : ¬ (jm_ x (gi_ a 21 0 0) ∧ wi_ y 1 1000000000000) := fun q => h ⟨(jw_ hck hmk (by omega)).mpr q.1, q.2⟩
    exact ⟨1, 0, a, _, c_L_withdraw_a l hI a x y (c_X4_withdraw_ia l hI hst a x y h), c_X5_withdraw_ia l hI a x y h', rfl, (fun q => absurd q (by decide)), k, n, Rk_th 1 hR⟩
set_option maxHeartbeats 4000000 in
theorem pr_all (l : Launch) (hst : l.stackTraces = false) {w : Gh_} (hI : In_ w) {a : St_} {T : Nat} (hR : Rl_ T a) (hT9 : T < 1000) (x : Int32) : ∃ (kc : Int32) (r : Int64) (a1 a2 : St_), Fn_ l w yL_all (.codeWith yL_all cL_all 4 (some .int) [(0, 8, 11, 13)]) { frames := 8, cells := 1, slots := 6, locals := 131 } 1 6 [.ref (ad_ w 0 0), .int x, .ref (ad_ w 40 0)] a (.inl (some (.int kc))) a1 ∧ Fn_ l w yX5_all (.code yX5_all cX5_all 5 (some .long)) { frames := 0, cells := 0, slots := 0, locals := 0 } 0 0 [.ref (ad_ w 20 0), .int x] a1 (.inl (some (.long r))) a2 ∧ gi_ a2 20 0 0 = kc ∧ (kc = 0 → gl_ a2 40 0 0 = r) ∧ Rl_ (T + 1) a2 := by
  obtain ⟨k, n, hR⟩ := hR
  obtain ⟨⟨hk8, hn6, hck, hmk, hcn, hmn⟩, hT, hM, hP, hN, hG, hZ⟩ := id hR
  by_cases h : wi_ x.toInt64 0 5
  · obtain ⟨j, hj, rfl⟩ := iw_out (z := 5) (by decide +kernel) (by decide) h
    have hj : j = 0 ∨ j = 1 ∨ j = 2 ∨ j = 3 ∨ j = 4 ∨ j = 5 := by omega
    obtain ⟨t, ht, ht1, ht2⟩ := hT
    have hT : Rt_ T a := ⟨t, ht, ht1, ht2⟩
    rcases hj with rfl | rfl | rfl | rfl | rfl | rfl
    · rw [show nI 0 = 0 by decide +kernel]
      have hm2 := c_X5_all_0 l hI (sl_ a 40 0 0 (gl_ a 0 0 0)) k hmk hk8
      rw [show gl_ (sl_ a 40 0 0 (gl_ a 0 0 0)) 22 0 0 = gl_ a 0 0 0 from hG.1.symm] at hm2
      exact ⟨0, gl_ a 0 0 0, _, _, c_L_all_r l hI a a 0 _ (c_X4_all_0 l hI hst a k hck hk8 n hcn hn6), hm2, rfl, fun _ => rfl, k, n, Rk_ot 0 _ hR⟩
    · rw [show nI 1 = 1 by decide +kernel]
      have hm2 := c_X5_all_1 l hI (sl_ a 40 0 0 (gl_ a 1 0 0)) k hmk hk8
      rw [show gl_ (sl_ a 40 0 0 (gl_ a 1 0 0)) 23 0 0 = gl_ a 1 0 0 from hG.2.1.symm] at hm2
      exact ⟨0, gl_ a 1 0 0, _, _, c_L_all_r l hI a a 1 _ (c_X4_all_1 l hI hst a k hck hk8 n hcn hn6), hm2, rfl, fun _ => rfl, k, n, Rk_ot 0 _ hR⟩
    · rw [show nI 2 = 2 by decide +kernel]
      have hm2 := c_X5_all_2 l hI (sl_ a 40 0 0 (sm_ a 2 k)) k hmk hk8
      rw [show qa_ (th_ (sl_ a 40 0 0 (sm_ a 2 k)) 0) 20 k = sm_ a 2 k from (sm_qa (b := th_ (sl_ a 40 0 0 (sm_ a 2 k)) 0) (fun m hm => (hM m hm).1) k hk8).symm] at hm2
      exact ⟨0, sm_ a 2 k, _, _, c_L_all_r l hI a a 2 _ (c_X4_all_2 l hI hst a k hck hk8 n hcn hn6), hm2, rfl, fun _ => rfl, k, n, Rk_ot 0 _ hR⟩
    · rw [show nI 3 = 3 by decide +kernel]
      have hm2 := c_X5_all_3 l hI (sl_ a 40 0 0 (sm_ a 3 k)) k hmk hk8
      rw [show qa_ (th_ (sl_ a 40 0 0 (sm_ a 3 k)) 0) 21 k = sm_ a 3 k from (sm_qa (b := th_ (sl_ a 40 0 0 (sm_ a 3 k)) 0) (fun m hm => (hM m hm).2.1) k hk8).symm] at hm2
      exact ⟨0, sm_ a 3 k, _, _, c_L_all_r l hI a a 3 _ (c_X4_all_3 l hI hst a k hck hk8 n hcn hn6), hm2, rfl, fun _ => rfl, k, n, Rk_ot 0 _ hR⟩
    · rw [show nI 4 = 4 by decide +kernel]
      have hm2 := c_X5_all_4 l hI (sl_ a 40 0 0 (gi_ a 2 0 0).toInt64) k hmk hk8
      rw [show gl_ (sl_ a 40 0 0 (gi_ a 2 0 0).toInt64) 24 0 0 = (gi_ a 2 0 0).toInt64 from (by show gl_ a 24 0 0 = _; rw [ht1, ht2, nI_l (show t < 2 ^ 31 by omega)])] at hm2
      exact ⟨0, (gi_ a 2 0 0).toInt64, _, _, c_L_all_r l hI a a 4 _ (c_X4_all_4 l hI hst a k hck hk8 n hcn hn6), hm2, rfl, fun _ => rfl, k, n, Rk_ot 0 _ hR⟩
    · rw [show nI 5 = 5 by decide +kernel]
      have hm2 := c_X5_all_5 l hI (sl_ a 40 0 0 (so_ a n k)) k hmk hk8
      rw [show qo_ (th_ (sl_ a 40 0 0 (so_ a n k)) 0) (qz_ k) 48 = so_ a n k from (by rw [qz_0, show 48 = 6 * 8 by decide, so_q (a := a) (b := th_ (sl_ a 40 0 0 (so_ a n k)) 0) hk8 hn6 (fun m hm j hj => (hP m hm j hj).1) hZ.1 8 (by omega), show (if 8 ≤ k then 8 else k) = k by split <;> omega])] at hm2
      exact ⟨0, so_ a n k, _, _, c_L_all_r l hI a a 5 _ (c_X4_all_5 l hI hst a k hck hk8 n hcn hn6), hm2, rfl, fun _ => rfl, k, n, Rk_ot 0 _ hR⟩
  · have h' : ¬ (¬ x < 0 ∧ x ≤ 5) := by
      rintro ⟨q1, q2⟩
      refine h ((wc6_ (l := 0) (h := 5) (by decide +kernel) (by decide +kernel)).mpr ?_)
      rw [Int32.lt_iff_toInt_lt] at q1
      rw [Int32.le_iff_toInt_le] at q2
      have e0 : (0 : Int32).toInt = 0 := by decide
      have e4 : (5 : Int32).toInt = 5 := by decide
      exact ⟨by omega, by omega⟩
    exact ⟨1, 0, a, _, c_L_all_a l hI a x (c_X4_all_ia l hI hst a x h), c_X5_all_ia l hI a x h', rfl, (fun q => absurd q (by decide)), k, n, Rk_th 1 hR⟩
set_option maxHeartbeats 4000000 in
theorem pr_declare (l : Launch) {w : Gh_} (hI : In_ w) {a : St_} {T : Nat} (hR : Rl_ T a) : ∃ (r : Int32) (a1 a2 : St_), Fn_ l w yX4_declare (.code yX4_declare cX4_declare 3 (some .int)) { frames := 4, cells := 0, slots := 0, locals := 93 } 0 0 [.ref (ad_ w 0 0)] a (.inl (some (.int r))) a1 ∧ Fn_ l w yX5_declare (.code yX5_declare cX5_declare 3 (some .int)) { frames := 2, cells := 0, slots := 0, locals := 50 } 0 0 [.ref (ad_ w 20 0)] a1 (.inl (some (.int r))) a2 ∧ Rl_ (T + 1) a2 := by
  obtain ⟨k, n, hR⟩ := hR
  obtain ⟨⟨hk8, hn6, hck, hmk, hcn, hmn⟩, hT, hM, hP, hN, hG, hZ⟩ := id hR
  obtain ⟨d, hd⟩ : ∃ d, d = (dc_ a n k).1 := ⟨_, rfl⟩
  have base := dq_sim (a := a) (b := a) hn6 (fun m hm => Mv_of hP hN hm (fun _ _ => rfl) (fun _ => rfl) (fun _ => rfl) (fun _ => rfl)) (fun m hm => (hM m hm).2.2.1) (fun m hm => (hM m hm).1) k hk8
  obtain ⟨-, -, f1, f2, -, -⟩ := base
  rw [← hd] at f1 f2
  have g1 : ∀ v x y, v ≠ 3 → v ≠ 20 → gi_ (th_ d 0) v x y = gi_ a v x y := fun v x y h h2 => by
    rw [th_, gi_si, if_neg (fun q => h2 q.1)]
    exact f1 v x y h
  have g2 : ∀ v x y, gl_ (th_ d 0) v x y = gl_ a v x y := fun v x y => f2 v x y
  have sim := dq_sim (a := a) (b := th_ d 0) hn6 (fun m hm => Mv_of hP hN hm (fun _ _ => g1 _ _ _ (by decide) (by decide)) (fun _ => g1 _ _ _ (by decide) (by decide)) (fun _ => g1 _ _ _ (by decide) (by decide)) (fun _ => g1 _ _ _ (by decide) (by decide))) (fun m hm => by rw [g1 23 _ _ (by decide) (by decide)]; exact (hM m hm).2.2.1) (fun m hm => by rw [g2]; exact (hM m hm).1) k hk8
  obtain ⟨s1, s2, s3, s4, s5, s6⟩ := sim
  have hC := c_X4_declare l hI a k hck hk8 n hcn hn6
  have hMo := c_X5_declare l hI d k (by rw [f1 _ _ _ (by decide)]; exact hmk) hk8 n (by rw [f1 _ _ _ (by decide)]; exact hmn) hn6
  rw [← hd] at hC
  rw [← s1] at hMo
  rw [← hd] at s2
  generalize (qd_ (th_ d 0) n k).1 = e at *
  have e1 : ∀ v x y, v ≠ 3 → v ≠ 20 → v ≠ 23 → gi_ e v x y = gi_ a v x y := fun v x y h1 h2 h3 => by rw [s5 v x y h3, g1 v x y h1 h2]
  have e2 : ∀ v x y, gl_ e v x y = gl_ a v x y := fun v x y => by rw [s6, g2]
  have e3 : ∀ m, gi_ e 3 m 0 = gi_ d 3 m 0 := fun m => by rw [s5 3 _ _ (by decide), th_, gi_si, if_neg (by omega)]
  refine ⟨_, _, _, hC, hMo, k, n, ⟨hk8, hn6, ?_, ?_, ?_, ?_⟩, ?_, fun m hm => ?_, fun m hm j hj => ?_, fun j hj => ?_, ?_, fun m hm j hj q => ?_, fun m hm q => ?_⟩
  · rw [e1 _ _ _ (by decide) (by decide) (by decide)]; exact hck
  · rw [e1 _ _ _ (by decide) (by decide) (by decide)]; exact hmk
  · rw [e1 _ _ _ (by decide) (by decide) (by decide)]; exact hcn
  · rw [e1 _ _ _ (by decide) (by decide) (by decide)]; exact hmn
  · obtain ⟨t, t1, t2, t3⟩ := hT
    exact ⟨t, by omega, by rw [e1 _ _ _ (by decide) (by decide) (by decide)]; exact t2, by rw [e2]; exact t3⟩
  · obtain ⟨q1, q2, q3, q4, q5⟩ := hM m hm
    rw [e2, e2, e2, e2, e3]
    exact ⟨q1, q2, s2 m hm, q4, q5⟩
  · rw [e1 4 _ _ (by decide) (by decide) (by decide), e1 5 _ _ (by decide) (by decide) (by decide), e1 9 _ _ (by decide) (by decide) (by decide), e1 24 _ _ (by decide) (by decide) (by decide), e1 25 _ _ (by decide) (by decide) (by decide), e1 29 _ _ (by decide) (by decide) (by decide)]
    exact hP m hm j hj
  · rw [e1 6 _ _ (by decide) (by decide) (by decide), e1 7 _ _ (by decide) (by decide) (by decide), e1 8 _ _ (by decide) (by decide) (by decide), e1 26 _ _ (by decide) (by decide) (by decide), e1 27 _ _ (by decide) (by decide) (by decide), e1 28 _ _ (by decide) (by decide) (by decide)]
    exact hN j hj
  · unfold Rg_
    rw [e2, e2, e2, e2]
    exact ⟨hG.1, hG.2.1, hG.2.2.1, hG.2.2.2.1, fun j hj => by rw [e2, e2]; exact hG.2.2.2.2 j hj⟩
  · rw [e1 4 _ _ (by decide) (by decide) (by decide)]
    exact hZ.1 m hm j hj q
  · rw [e2]
    exact hZ.2 m hm q
