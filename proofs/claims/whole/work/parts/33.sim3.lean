/-! trade and mark -/
theorem tr_ur {a : St_} {p q j : Nat} {u v : Int32} (hM : Rm_ a) (hP : Rp_ a) (hN : Ri_ a) (hp : p < 8) (hq : q < 8) (hj : j < 6) (hu : wi_ u.toInt64 1 100000) : tr_ a p q j u v ↔ ur_ a p q j u v := by
  have b1 := (wc6_ (l := 1) (h := 100000) (by decide +kernel) (by decide +kernel)).mp hu
  obtain ⟨p1, -, -, p4, -, -⟩ := hP p hp j hj
  obtain ⟨q1, -, -, q4, -, -⟩ := hP q hq j hj
  have eg : tg_ a j u v = ug_ a j u v := by rw [tg_, ug_, (hN j hj).1]
  unfold tr_ ur_
  rw [tn_b, tn_b, eg, ← p1, ← q1, ← (hM p hp).1, ← (hM q hq).1]
  unfold bd_ at b1 p4 q4 ⊢
  have e1 := Kit.i32_add (x := gi_ a 4 p j) (y := u) (by omega) (by omega)
  have e2 := Kit.i32_sub (x := gi_ a 4 q j) (y := u) (by omega) (by omega)
  rw [Int32.lt_iff_toInt_lt, Int32.lt_iff_toInt_lt, e1, e2, show (1000000 : Int32).toInt = 1000000 by decide +kernel, show (-1000000 : Int32).toInt = -1000000 by decide +kernel]
  constructor
  · rintro ⟨h1, h2, h3, h4⟩
    exact ⟨by omega, by omega, h1, h2⟩
  · rintro ⟨h1, h2, h3, h4⟩
    exact ⟨h3, h4, ⟨by omega, by omega⟩, ⟨by omega, by omega⟩⟩
set_option maxHeartbeats 4000000 in
theorem pr_trade (l : Launch) (hst : l.stackTraces = false) {w : Gh_} (hI : In_ w) {a : St_} {T : Nat} (hR : Rl_ T a) (x : Int32) (y : Int32) (z : Int32) (u : Int32) (v : Int32) : ∃ (kc : Int32) (r : Int32) (a1 a2 : St_), Fn_ l w yL_trade (.codeWith yL_trade cL_trade 8 (some .int) [(0, 16, 19, 13), (0, 16, 23, 34)]) { frames := 8, cells := 1, slots := 6, locals := 140 } 1 6 [.ref (ad_ w 0 0), .int x, .int y, .int z, .int u, .int v, .ref (ad_ w 40 0)] a (.inl (some (.int kc))) a1 ∧ Fn_ l w yX5_trade (.code yX5_trade cX5_trade 11 (some .int)) { frames := 1, cells := 0, slots := 0, locals := 25 } 0 0 [.ref (ad_ w 20 0), .int x, .int y, .int z, .int u, .int v] a1 (.inl (some (.int r))) a2 ∧ gi_ a2 20 0 0 = kc ∧ (kc = 0 → gl_ a2 40 0 0 = r.toInt64) ∧ Rl_ (T + 1) a2 := by
  obtain ⟨k, n, hR⟩ := hR
  obtain ⟨⟨hk8, hn6, hck, hmk, hcn, hmn⟩, hT, hM, hP, hN, hG, hZ⟩ := id hR
  by_cases h : (wi_ x.toInt64 0 (gi_ a 0 0 0 - 1).toInt64 ∧ wi_ y.toInt64 0 (gi_ a 0 0 0 - 1).toInt64 ∧ ¬ x = y ∧ wi_ z.toInt64 0 (gi_ a 1 0 0 - 1).toInt64) ∧ wi_ u.toInt64 1 100000 ∧ wi_ v.toInt64 0 1000000
  · obtain ⟨⟨h1, h2, h3, h4⟩, hu, hv⟩ := h
    obtain ⟨p, hp, rfl⟩ := im_out hck (by omega) h1
    obtain ⟨q, hq, rfl⟩ := im_out hck (by omega) h2
    obtain ⟨j, hj, rfl⟩ := im_out hcn (by omega) h4
    have hpq : p ≠ q := fun e => h3 (by rw [e])
    have hp8 : p < 8 := by omega
    have hq8 : q < 8 := by omega
    have hj6 : j < 6 := by omega
    obtain ⟨p1, p2, p3, p4, p5⟩ := hM p hp8
    obtain ⟨q1, q2, q3, q4, q5⟩ := hM q hq8
    by_cases hs : gi_ a 3 p 0 = 0
    · have hs' : gi_ a 23 0 p = 0 := p3.symm.trans hs
      by_cases hs2 : gi_ a 3 q 0 = 0
      · have hs2' : gi_ a 23 0 q = 0 := q3.symm.trans hs2
        have hiff := tr_ur (v := v) hM hP hN hp8 hq8 hj6 hu
        by_cases hr0 : tr_ a p q j u v
        · have hm2 := c_X5_trade_ok l hI (sl_ (ts_ a p q j u v) 40 0 0 (gi_ a 2 0 0 + 1).toInt64) k hmk hk8 n hmn hn6 p q j hp hq hpq hj u v hu hv hs' hs2' (hiff.mp hr0)
          obtain ⟨t, t1, t2, t3⟩ := hT
          have et : (gl_ (sl_ (ts_ a p q j u v) 40 0 0 (gi_ a 2 0 0 + 1).toInt64) 24 0 0 + 1).toInt32 = gi_ a 2 0 0 + 1 := by
            rw [show gl_ (sl_ (ts_ a p q j u v) 40 0 0 (gi_ a 2 0 0 + 1).toInt64) 24 0 0 = lN t from t3, t2, lN_1, lN_i, nI_1]
          rw [et] at hm2
          refine ⟨0, gi_ a 2 0 0 + 1, _, _, c_L_trade_r l hI a _ (nI p) (nI q) (nI j) u v _ (c_X4_trade_ok l hI hst a k hck hk8 n hcn hn6 p q j hp hq hpq hj u v hu hv hs hs2 hr0), hm2, rfl, fun _ => rfl, k, n, hR.1, ⟨t + 1, by omega, ?_, ?_⟩, fun m hm => ?_, fun m hm i hi => ?_, hN, hG, fun m hm i hi e => ?_, hZ.2⟩
          · show gi_ a 2 0 0 + 1 = _
            rw [t2, nI_1]
          · show gl_ a 24 0 0 + 1 = _
            rw [t3, lN_1]
          · obtain ⟨r1, r2, r3, r4, r5⟩ := hM m hm
            have eg : tg_ a j u v = ug_ a j u v := by rw [tg_, ug_, (hN j hj6).1]
            by_cases em : m = p
            · subst em
              refine ⟨?_, r2, r3, ?_, r5⟩
              · simp [gl_sl, gl_si, th_, us_, ts_, hpq]
                rw [r1, eg]
                rfl
              · simp [gl_sl, gl_si, th_, us_, ts_, hpq]
                exact tm_b.mp hr0.1
            · by_cases en : m = q
              · subst en
                refine ⟨?_, r2, r3, ?_, r5⟩
                · simp [gl_sl, gl_si, th_, us_, ts_]
                  rw [r1, eg]
                  rfl
                · simp [gl_sl, gl_si, th_, us_, ts_]
                  exact tm_b.mp hr0.2.1
              · refine ⟨?_, r2, r3, ?_, r5⟩
                · simp [gl_sl, gl_si, th_, us_, ts_, em, en]
                  exact r1
                · simp [gl_sl, gl_si, th_, us_, ts_, em, en]
                  exact r4
          · obtain ⟨r1, r2, r3, r4, r5, r6⟩ := hP m hm i hi
            by_cases em : m = p ∧ i = j
            · obtain ⟨rfl, rfl⟩ := em
              have e2 : ¬ (6 * m + i = 6 * q + i) := by omega
              refine ⟨?_, r2, r3, ?_, r5, r6⟩
              · simp [gi_sl, gi_si, th_, us_, ts_, hpq, e2, r1]
                intro z
                omega
              · simp [gi_sl, gi_si, th_, us_, ts_, hpq]
                exact tn_b.mp hr0.2.2.1
            · by_cases en : m = q ∧ i = j
              · obtain ⟨rfl, rfl⟩ := en
                refine ⟨?_, r2, r3, ?_, r5, r6⟩
                · simp [gi_sl, gi_si, th_, us_, ts_, r1]
                · simp [gi_sl, gi_si, th_, us_, ts_]
                  exact tn_b.mp hr0.2.2.2
              · have e1 : ¬ (6 * m + i = 6 * p + j) := by omega
                have e2 : ¬ (6 * m + i = 6 * q + j) := by omega
                refine ⟨?_, r2, r3, ?_, r5, r6⟩
                · simp [gi_sl, gi_si, th_, us_, ts_, em, en, e1, e2]
                  exact r1
                · simp [gi_sl, gi_si, th_, us_, ts_, em, en]
                  exact r4
          · have em : ¬ (m = p ∧ i = j) := by omega
            have en : ¬ (m = q ∧ i = j) := by omega
            simp [gi_sl, gi_si, th_, us_, ts_, em, en]
            exact hZ.1 m hm i hi e
        · exact ⟨0, -1, sl_ a 40 0 0 (-1 : Int32).toInt64, _, c_L_trade_r l hI a a (nI p) (nI q) (nI j) u v (-1) (c_X4_trade_none l hI hst a k hck hk8 n hcn hn6 p q j hp hq hpq hj u v hu hv hs hs2 hr0), c_X5_trade_none l hI (sl_ a 40 0 0 (-1 : Int32).toInt64) k hmk hk8 n hmn hn6 p q j hp hq hpq hj u v hu hv hs' hs2' (fun e => hr0 (hiff.mpr e)), rfl, fun _ => rfl, k, n, Rk_ot 0 _ hR⟩
      · have hs2' : ¬ gi_ a 23 0 q = 0 := fun e => hs2 (q3.trans e)
        exact ⟨2, 0, a, _, c_L_trade_s l hI a (nI p) (nI q) (nI j) u v (c_X4_trade_is2 l hI hst a k hck hk8 n hcn hn6 p q j hp hq hpq hj u v hu hv hs hs2), c_X5_trade_is2 l hI a k hmk hk8 n hmn hn6 p q j hp hq hpq hj u v hu hv hs' hs2', rfl, (fun q => absurd q (by decide)), k, n, Rk_th 2 hR⟩
    · have hs' : ¬ gi_ a 23 0 p = 0 := fun e => hs (p3.trans e)
      exact ⟨2, 0, a, _, c_L_trade_s l hI a (nI p) (nI q) (nI j) u v (c_X4_trade_is1 l hI hst a k hck hk8 n hcn hn6 p q j hp hq hpq hj u v hu hv hs), c_X5_trade_is1 l hI a k hmk hk8 n hmn hn6 p q j hp hq hpq hj u v hu hv hs', rfl, (fun q => absurd q (by decide)), k, n, Rk_th 2 hR⟩
  · have h' : ¬ ((jm_ x (gi_ a 21 0 0) ∧ jm_ y (gi_ a 21 0 0) ∧ ¬ x = y ∧ jm_ z (gi_ a 22 0 0)) ∧ wi_ u.toInt64 1 100000 ∧ wi_ v.toInt64 0 1000000) := fun e => h ⟨⟨(jw_ hck hmk (by omega)).mpr e.1.1, (jw_ hck hmk (by omega)).mpr e.1.2.1, e.1.2.2.1, (jw_ hcn hmn (by omega)).mpr e.1.2.2.2⟩, e.2⟩
    exact ⟨1, 0, a, _, c_L_trade_a l hI a x y z u v (c_X4_trade_ia l hI hst a x y z u v h), c_X5_trade_ia l hI a x y z u v h', rfl, (fun q => absurd q (by decide)), k, n, Rk_th 1 hR⟩
theorem ma_1 (a : St_) (j : Nat) (r : Int64) : ∀ i, (ma_ a j r i).1 = a.1
  | 0 => rfl
  | i + 1 => ma_1 a j r i
theorem ma_i (a : St_) (j : Nat) (r : Int64) (i v x y : Nat) : gi_ (ma_ a j r i) v x y = gi_ a v x y := by
  unfold gi_
  rw [ma_1]
theorem ma_l (a : St_) (j : Nat) (r : Int64) : ∀ i v x y, gl_ (ma_ a j r i) v x y = if v = 2 ∧ x < i ∧ y = 0 then gl_ a 2 x 0 + r * (gi_ a 4 x j).toInt64 else gl_ a v x y
  | 0, v, x, y => by rw [if_neg (by omega)]; rfl
  | i + 1, v, x, y => by
    rw [ma_, gl_sl, ma_i, ma_l a j r i v x y, ma_l a j r i 2 i 0]
    by_cases e : v = 2 ∧ x = i ∧ y = 0
    · obtain ⟨rfl, rfl, rfl⟩ := e
      rw [if_pos ⟨rfl, rfl, rfl⟩, if_neg (by omega), if_pos ⟨rfl, by omega, rfl⟩]
    · rw [if_neg e]
      by_cases e2 : v = 2 ∧ x < i ∧ y = 0
      · rw [if_pos e2, if_pos (by omega)]
      · rw [if_neg e2, if_neg (by omega)]
theorem nm_1 (a : St_) (j : Nat) (r : Int64) : ∀ i, (nm_ a j r i).1 = a.1
  | 0 => rfl
  | i + 1 => nm_1 a j r i
theorem nm_i (a : St_) (j : Nat) (r : Int64) (i v x y : Nat) : gi_ (nm_ a j r i) v x y = gi_ a v x y := by
  unfold gi_
  rw [nm_1]
theorem nm_l (a : St_) (j : Nat) (r : Int64) : ∀ i v x y, gl_ (nm_ a j r i) v x y = if v = 20 ∧ x = 0 ∧ y < i then gl_ a 20 0 y + r * (gi_ a 24 0 (6 * y + j)).toInt64 else gl_ a v x y
  | 0, v, x, y => by rw [if_neg (by omega)]; rfl
  | i + 1, v, x, y => by
    rw [nm_, gl_sl, nm_i, nm_l a j r i v x y, nm_l a j r i 20 0 i]
    by_cases e : v = 20 ∧ x = 0 ∧ y = i
    · obtain ⟨rfl, rfl, rfl⟩ := e
      rw [if_pos ⟨rfl, rfl, rfl⟩, if_neg (by omega), if_pos ⟨rfl, rfl, by omega⟩]
    · rw [if_neg e]
      by_cases e2 : v = 20 ∧ x = 0 ∧ y < i
      · rw [if_pos e2, if_pos (by omega)]
      · rw [if_neg e2, if_neg (by omega)]
theorem cb_nb {a b : St_} {j k : Nat} {r : Int64} {v : Int32} (hk : k ≤ 8) (hs : ∀ m, m < 8 → gi_ a 3 m 0 = gi_ b 23 0 m) (hc : ∀ m, m < 8 → gl_ a 2 m 0 = gl_ b 20 0 m) (hp : ∀ m, m < 8 → gi_ a 4 m j = gi_ b 24 0 (6 * m + j)) : ∀ i, i ≤ k → cb_ (si_ (ma_ a j r k) 6 j 0 v) i = nb_ b j r i
  | 0, _ => rfl
  | i + 1, hi => by
    have e1 : gl_ (nm_ b j r (i + 1)) 20 0 i = gl_ b 20 0 i + r * (gi_ b 24 0 (6 * i + j)).toInt64 := by rw [nm_l, if_pos ⟨rfl, rfl, by omega⟩]
    have e2 : gl_ (si_ (ma_ a j r k) 6 j 0 v) 2 i 0 = gl_ b 20 0 i + r * (gi_ b 24 0 (6 * i + j)).toInt64 := by rw [gl_si, ma_l, if_pos ⟨rfl, by omega, rfl⟩, hc i (by omega), hp i (by omega)]
    have e3 : gi_ (si_ (ma_ a j r k) 6 j 0 v) 3 i 0 = gi_ b 23 0 i := by rw [gi_si, if_neg (by omega), ma_i, hs i (by omega)]
    rw [cb_, nb_, cb_nb hk hs hc hp i (by omega), nm_i, e1, e2, e3]
set_option maxHeartbeats 4000000 in
theorem pr_mark (l : Launch) (hst : l.stackTraces = false) {w : Gh_} (hI : In_ w) {a : St_} {T : Nat} (hR : Rl_ T a) (x : Int32) (y : Int32) : ∃ (kc : Int32) (r : Int32) (a1 a2 : St_), Fn_ l w yL_mark (.codeWith yL_mark cL_mark 5 (some .int) [(0, 10, 13, 13)]) { frames := 8, cells := 1, slots := 6, locals := 135 } 1 6 [.ref (ad_ w 0 0), .int x, .int y, .ref (ad_ w 40 0)] a (.inl (some (.int kc))) a1 ∧ Fn_ l w yX5_mark (.code yX5_mark cX5_mark 7 (some .int)) { frames := 1, cells := 0, slots := 0, locals := 25 } 0 0 [.ref (ad_ w 20 0), .int x, .int y] a1 (.inl (some (.int r))) a2 ∧ gi_ a2 20 0 0 = kc ∧ (kc = 0 → gl_ a2 40 0 0 = r.toInt64) ∧ Rl_ (T + 1) a2 := by
  obtain ⟨k, n, hR⟩ := hR
  obtain ⟨⟨hk8, hn6, hck, hmk, hcn, hmn⟩, hT, hM, hP, hN, hG, hZ⟩ := id hR
  obtain ⟨v, rfl⟩ : ∃ v, v = y := ⟨_, rfl⟩
  by_cases h : wi_ x.toInt64 0 (gi_ a 1 0 0 - 1).toInt64 ∧ wi_ v.toInt64 0 1000000
  · obtain ⟨h1, hv⟩ := h
    obtain ⟨j, hj, rfl⟩ := im_out hcn (by omega) h1
    have hj6 : j < 6 := by omega
    have er : mr_ a j v = nr_ a j v := by rw [mr_, nr_, (hN j hj6).1]
    have hmn1 : ∀ m, m < 8 → (mk_ a j v m ↔ nk_ a j v m) := fun m hm => by
      unfold mk_ nk_
      rw [er, (hM m hm).1, (hP m hm j hj6).1]
    by_cases he : ∀ m, m < k → mk_ a j v m
    · have f1 : ∀ w x y, w ≠ 6 → w ≠ 20 → gi_ (th_ (sl_ (mz_ a j k v) 40 0 0 (cb_ (mz_ a j k v) k).toInt64) 0) w x y = gi_ a w x y := fun w x y e1 e2 => by
        rw [th_, gi_si, if_neg (fun q => e2 q.1), gi_sl, mz_, gi_si, if_neg (fun q => e1 q.1), ma_i]
      have f2 : ∀ w x y, w ≠ 2 → w ≠ 40 → gl_ (th_ (sl_ (mz_ a j k v) 40 0 0 (cb_ (mz_ a j k v) k).toInt64) 0) w x y = gl_ a w x y := fun w x y e1 e2 => by
        rw [th_, gl_si, gl_sl, if_neg (fun q => e2 q.1), mz_, gl_si, ma_l, if_neg (fun q => e1 q.1)]
      have f3 : nr_ (th_ (sl_ (mz_ a j k v) 40 0 0 (cb_ (mz_ a j k v) k).toInt64) 0) j v = mr_ a j v := by
        rw [nr_, f1 26 _ _ (by decide) (by decide), er]
        rfl
      have g1 : ∀ w x y, w ≠ 6 → gi_ (sl_ (mz_ a j k v) 40 0 0 (cb_ (mz_ a j k v) k).toInt64) w x y = gi_ a w x y := fun w x y e1 => by
        rw [gi_sl, mz_, gi_si, if_neg (fun q => e1 q.1), ma_i]
      have hm2 := c_X5_mark_ok l hI (sl_ (mz_ a j k v) 40 0 0 (cb_ (mz_ a j k v) k).toInt64) k (by rw [g1 _ _ _ (by decide)]; exact hmk) hk8 n (by rw [g1 _ _ _ (by decide)]; exact hmn) hn6 j hj v hv (fun m hm => by
        have q := (hmn1 m (by omega)).mp (he m hm)
        unfold nk_ at q ⊢
        rw [f3, f2 _ _ _ (by decide) (by decide), f1 _ _ _ (by decide) (by decide), er]
        exact q)
      rw [f3] at hm2
      have ec : nb_ (th_ (sl_ (mz_ a j k v) 40 0 0 (cb_ (mz_ a j k v) k).toInt64) 0) j (mr_ a j v) k = cb_ (mz_ a j k v) k := (cb_nb hk8 (fun m hm => by rw [f1 _ _ _ (by decide) (by decide)]; exact (hM m hm).2.2.1) (fun m hm => by rw [f2 _ _ _ (by decide) (by decide)]; exact (hM m hm).1) (fun m hm => by rw [f1 _ _ _ (by decide) (by decide)]; exact (hP m hm j hj6).1) k (Nat.le_refl _)).symm
      rw [ec] at hm2
      have ez : nz_ (th_ (sl_ (mz_ a j k v) 40 0 0 (cb_ (mz_ a j k v) k).toInt64) 0) j k v = si_ (nm_ (th_ (sl_ (mz_ a j k v) 40 0 0 (cb_ (mz_ a j k v) k).toInt64) 0) j (mr_ a j v) k) 26 0 j v := by rw [nz_, f3]
      have i1 : ∀ w x y, w ≠ 6 → w ≠ 20 → w ≠ 26 → gi_ (nz_ (th_ (sl_ (mz_ a j k v) 40 0 0 (cb_ (mz_ a j k v) k).toInt64) 0) j k v) w x y = gi_ a w x y := fun w x y e1 e2 e3 => by
        rw [ez, gi_si, if_neg (fun q => e3 q.1), nm_i, f1 w x y e1 e2]
      have i2 : ∀ w x y, w ≠ 2 → w ≠ 40 → w ≠ 20 → gl_ (nz_ (th_ (sl_ (mz_ a j k v) 40 0 0 (cb_ (mz_ a j k v) k).toInt64) 0) j k v) w x y = gl_ a w x y := fun w x y e1 e2 e3 => by
        rw [ez, gl_si, nm_l, if_neg (fun q => e3 q.1), f2 w x y e1 e2]
      have i3 : ∀ m, gl_ (nz_ (th_ (sl_ (mz_ a j k v) 40 0 0 (cb_ (mz_ a j k v) k).toInt64) 0) j k v) 2 m 0 = if m < k then gl_ a 2 m 0 + mr_ a j v * (gi_ a 4 m j).toInt64 else gl_ a 2 m 0 := fun m => by
        rw [ez, gl_si, nm_l, if_neg (by omega), th_, gl_si, gl_sl, if_neg (by omega), mz_, gl_si, ma_l]
        by_cases e : m < k
        · rw [if_pos ⟨rfl, e, rfl⟩, if_pos e]
        · rw [if_neg (by omega), if_neg e]
      have i4 : ∀ m, gl_ (nz_ (th_ (sl_ (mz_ a j k v) 40 0 0 (cb_ (mz_ a j k v) k).toInt64) 0) j k v) 20 0 m = if m < k then gl_ a 20 0 m + mr_ a j v * (gi_ a 24 0 (6 * m + j)).toInt64 else gl_ a 20 0 m := fun m => by
        rw [ez, gl_si, nm_l, f2 _ _ _ (by decide) (by decide), f1 _ _ _ (by decide) (by decide)]
        by_cases e : m < k
        · rw [if_pos ⟨rfl, rfl, e⟩, if_pos e]
        · rw [if_neg (by omega), if_neg e]
      have i5 : ∀ i, gi_ (nz_ (th_ (sl_ (mz_ a j k v) 40 0 0 (cb_ (mz_ a j k v) k).toInt64) 0) j k v) 6 i 0 = if i = j then v else gi_ a 6 i 0 := fun i => by
        rw [ez, gi_si, if_neg (by omega), nm_i, th_, gi_si, if_neg (by omega), gi_sl, mz_, gi_si, ma_i]
        by_cases e : i = j
        · rw [if_pos ⟨rfl, e, rfl⟩, if_pos e]
        · rw [if_neg (by omega), if_neg e]
      have i6 : ∀ i, gi_ (nz_ (th_ (sl_ (mz_ a j k v) 40 0 0 (cb_ (mz_ a j k v) k).toInt64) 0) j k v) 26 0 i = if i = j then v else gi_ a 26 0 i := fun i => by
        rw [ez, gi_si, nm_i, f1 _ _ _ (by decide) (by decide)]
        by_cases e : i = j
        · rw [if_pos ⟨rfl, rfl, e⟩, if_pos e]
        · rw [if_neg (by omega), if_neg e]
      have i7 : gl_ (nz_ (th_ (sl_ (mz_ a j k v) 40 0 0 (cb_ (mz_ a j k v) k).toInt64) 0) j k v) 40 0 0 = (cb_ (mz_ a j k v) k).toInt64 := by
        rw [ez, gl_si, nm_l, if_neg (by omega), th_, gl_si, gl_sl, if_pos ⟨rfl, rfl, rfl⟩]
      have i8 : gi_ (nz_ (th_ (sl_ (mz_ a j k v) 40 0 0 (cb_ (mz_ a j k v) k).toInt64) 0) j k v) 20 0 0 = 0 := by
        rw [ez, gi_si, if_neg (by omega), nm_i, th_, gi_si, if_pos ⟨rfl, rfl, rfl⟩]
      generalize nz_ (th_ (sl_ (mz_ a j k v) 40 0 0 (cb_ (mz_ a j k v) k).toInt64) 0) j k v = e at *
      refine ⟨0, cb_ (mz_ a j k v) k, _, _, c_L_mark_r l hI a _ (nI j) v _ (c_X4_mark_ok l hI hst a k hck hk8 n hcn hn6 j hj v hv he), hm2, i8, fun _ => i7, k, n, ⟨hk8, hn6, ?_, ?_, ?_, ?_⟩, ?_, fun m hm => ?_, fun m hm i hi => ?_, fun i hi => ?_, ?_, fun m hm i hi q => ?_, fun m hm q => ?_⟩
      · rw [i1 _ _ _ (by decide) (by decide) (by decide)]; exact hck
      · rw [i1 _ _ _ (by decide) (by decide) (by decide)]; exact hmk
      · rw [i1 _ _ _ (by decide) (by decide) (by decide)]; exact hcn
      · rw [i1 _ _ _ (by decide) (by decide) (by decide)]; exact hmn
      · obtain ⟨t, t1, t2, t3⟩ := hT
        exact ⟨t, by omega, by rw [i1 _ _ _ (by decide) (by decide) (by decide)]; exact t2, by rw [i2 _ _ _ (by decide) (by decide) (by decide)]; exact t3⟩
      · obtain ⟨q1, q2, q3, q4, q5⟩ := hM m hm
        rw [i3, i4, i2 3 _ _ (by decide) (by decide) (by decide), i2 21 _ _ (by decide) (by decide) (by decide), i1 3 _ _ (by decide) (by decide) (by decide), i1 23 _ _ (by decide) (by decide) (by decide)]
        refine ⟨?_, q2, q3, ?_, q5⟩
        · rw [q1, (hP m hm j hj6).1]
        · by_cases e : m < k
          · rw [if_pos e]
            exact tm_b.mp (he m e)
          · rw [if_neg e]
            exact q4
      · rw [i1 4 _ _ (by decide) (by decide) (by decide), i1 5 _ _ (by decide) (by decide) (by decide), i1 9 _ _ (by decide) (by decide) (by decide), i1 24 _ _ (by decide) (by decide) (by decide), i1 25 _ _ (by decide) (by decide) (by decide), i1 29 _ _ (by decide) (by decide) (by decide)]
        exact hP m hm i hi
      · obtain ⟨q1, q2, q3, q4, q5, q6⟩ := hN i hi
        rw [i5, i6, i1 7 _ _ (by decide) (by decide) (by decide), i1 8 _ _ (by decide) (by decide) (by decide), i1 27 _ _ (by decide) (by decide) (by decide), i1 28 _ _ (by decide) (by decide) (by decide)]
        refine ⟨by rw [q1], q2, q3, ?_, q5, q6⟩
        by_cases e : i = j
        · rw [if_pos e]
          exact (wc6_ (by decide +kernel) (by decide +kernel)).mp hv
        · rw [if_neg e]
          exact q4
      · unfold Rg_
        rw [i2 0 _ _ (by decide) (by decide) (by decide), i2 22 _ _ (by decide) (by decide) (by decide), i2 1 _ _ (by decide) (by decide) (by decide), i2 23 _ _ (by decide) (by decide) (by decide)]
        exact ⟨hG.1, hG.2.1, hG.2.2.1, hG.2.2.2.1, fun i hi => by rw [i2 4 _ _ (by decide) (by decide) (by decide), i2 25 _ _ (by decide) (by decide) (by decide)]; exact hG.2.2.2.2 i hi⟩
      · rw [i1 4 _ _ (by decide) (by decide) (by decide)]
        exact hZ.1 m hm i hi q
      · rw [i2 10 _ _ (by decide) (by decide) (by decide)]
        exact hZ.2 m hm q
    · have he2 : ∃ m, m < k ∧ ¬ mk_ a j v m := Classical.byContradiction fun q => he fun m hm => Classical.byContradiction fun q2 => q ⟨m, hm, q2⟩
      obtain ⟨m0, hm0, hq0⟩ := he2
      exact ⟨0, -1, sl_ a 40 0 0 (-1 : Int32).toInt64, _, c_L_mark_r l hI a a (nI j) v (-1) (c_X4_mark_none l hI hst a k hck hk8 n hcn hn6 j hj v hv ⟨m0, hm0, hq0⟩), c_X5_mark_none l hI (sl_ a 40 0 0 (-1 : Int32).toInt64) k hmk hk8 n hmn hn6 j hj v hv ⟨m0, hm0, fun q => hq0 ((hmn1 m0 (by omega)).mpr q)⟩, rfl, fun _ => rfl, k, n, Rk_ot 0 _ hR⟩
  · have h' : ¬ (jm_ x (gi_ a 22 0 0) ∧ wi_ v.toInt64 0 1000000) := fun e => h ⟨(jw_ hcn hmn (by omega)).mpr e.1, e.2⟩
    exact ⟨1, 0, a, _, c_L_mark_a l hI a x v (c_X4_mark_ia l hI hst a x v h), c_X5_mark_ia l hI a x v h', rfl, (fun q => absurd q (by decide)), k, n, Rk_th 1 hR⟩
