/-! MarginHouse: its face, case by case -/
theorem bz_t {P : Prop} [Decidable P] (h : P) : ¬ (if P then (1 : Int32) else 0) = 0 := by rw [if_pos h]; decide
theorem bz_f {P : Prop} [Decidable P] (h : ¬ P) : (if P then (1 : Int32) else 0) = 0 := if_neg h
theorem wi_iff {x lo hi : Int64} : wi_ x lo hi ↔ lo.toInt ≤ x.toInt ∧ x.toInt ≤ hi.toInt := by
  simp only [wi_, Int64.lt_iff_toInt_lt]
  omega
theorem t64 (x : Int32) : x.toInt64.toInt = x.toInt := by simp
theorem nI_64 {m : Nat} (h : m < 2 ^ 31) : (nI m).toInt64.toInt = m := by rw [t64, nI_toInt h]
theorem im_in {c : Int32} {k m : Nat} (hk : c = nI k) (hk8 : k < 1000) (hm : m < k) : wi_ (nI m).toInt64 0 (c - 1).toInt64 := by
  obtain ⟨z, rfl⟩ : ∃ z, k = z + 1 := ⟨k - 1, by omega⟩
  rw [wi_iff, hk, nI_pred, nI_64 (by omega), nI_64 (by omega)]
  have : (0 : Int64).toInt = 0 := by decide
  omega
theorem im_out {c x : Int32} {k : Nat} (hk : c = nI k) (hk8 : k < 1000) (h : wi_ x.toInt64 0 (c - 1).toInt64) : ∃ m, m < k ∧ x = nI m := by
  rw [wi_iff, t64, hk] at h
  have h0 : (0 : Int64).toInt = 0 := by decide
  cases k with
  | zero =>
    have h1 : (nI 0 - 1).toInt64.toInt = -1 := by decide +kernel
    omega
  | succ z =>
    rw [nI_pred, nI_64 (by omega)] at h
    obtain ⟨j, hj, rfl⟩ := nI_of (x := x) (fun q => by rw [Int32.lt_iff_toInt_lt] at q; have : (0 : Int32).toInt = 0 := by decide
                                                       omega)
    rw [nI_toInt hj] at h
    exact ⟨j, by omega, rfl⟩
theorem iw_in {m : Nat} {hi : Int64} {z : Nat} (hz : hi.toInt = z) (hm : m ≤ z) (h : m < 2 ^ 31) : wi_ (nI m).toInt64 0 hi := by
  rw [wi_iff, nI_64 h, hz]
  have : (0 : Int64).toInt = 0 := by decide
  omega
theorem iw_out {x : Int32} {hi : Int64} {z : Nat} (hz : hi.toInt = z) (hm : z < 1000) (h : wi_ x.toInt64 0 hi) : ∃ m, m ≤ z ∧ x = nI m := by
  rw [wi_iff, t64, hz] at h
  have h0 : (0 : Int64).toInt = 0 := by decide
  obtain ⟨j, hj, rfl⟩ := nI_of (x := x) (fun q => by rw [Int32.lt_iff_toInt_lt] at q; have : (0 : Int32).toInt = 0 := by decide
                                                     omega)
  rw [nI_toInt hj] at h
  exact ⟨j, by omega, rfl⟩
theorem nI_nec {k z : Nat} {c : Int32} (hc : c = nI z) (h : k ≠ z) (hk : k < 1000) (hz : z < 1000) : ¬ nI k = c := fun q => h ((nI_eq (by omega) (by omega)).mp (q.trans hc))
set_option maxHeartbeats 4000000 in
set_option maxRecDepth 100000 in
theorem c_X4_member_ia (l : Launch) {w : Gh_} (hI : In_ w) (hst : l.stackTraces = false) (a : St_) (y : Int64) (h : ¬ wi_ y 0 1000000000000) : Fn_ l w yX4_member (.code yX4_member cX4_member 3 (some .int)) { frames := 7, cells := 1, slots := 6, locals := 110 } 1 6 [.ref (ad_ w 0 0), .long y] a (.inr IA_) a := by
  refine Fn_of hI (by decide +kernel) (Nat.le_of_ble_eq_true rfl) ?_
  intro zp ze zs zm zb zt zc ls cx hr hlk hno hW hS hl
  replace cx : Cx_ zp zs zm zc _ cX4_member 3 "MarginHouse" w := cx
  replace hl : lv_has ls 3 [(0, .ref (ad_ w 0 0)), (1, .long y)] := hl
  obtain ⟨H, hH⟩ : ∃ H, zs.heap = H := ⟨_, rfl⟩
  rw [hH] at hW
  have hS : Fr_ w zs.heap H [] := by rw [← hH]; exact hS
  obtain ⟨locs, hlocs⟩ : ∃ x : List Loc, x = [] := ⟨_, rfl⟩
  rw [← hlocs] at hS ⊢
  rw [show W zp l ze _ zs zm _ zb zt zc zs.heap locs 0 0 _ (F0 zm 0 ls []) ↔ W zp l ze _ zs zm _ zb zt zc H locs 0 0 _ (F0 zm 0 ls []) from by rw [hH]]
  refine lv_lload_n cx.1 cx.2.1 dX4_member_0 rfl (lv_at hl 1 rfl) ?_
  refine lv_lconst (v := 0) cx.1 cx.2.1 dX4_member_1 (by decide) ?_
  refine lv_ldc2 (own := "MarginHouse") (v := 1000000000000) cx.1 cx.2.1 cx.2.2.2.1 (cx.2.2.2.2.1 _ nw_118) dX4_member_2 ?_
  refine ck_S (v := some (.int (if wi_ y 0 1000000000000 then 1 else 0))) (As := [.long y, .long 0, .long 1000000000000]) (rest := []) cx hW hS hl (c_X4_within l hI a y 0 1000000000000) cw_X4_within nw_120 nw_119 rfl rfl (Nat.le_of_ble_eq_true rfl) rfl rfl ⟨Nat.le_of_ble_eq_true rfl, Nat.le_of_ble_eq_true rfl⟩ ⟨Nat.le_of_ble_eq_true rfl, Nat.le_of_ble_eq_true rfl⟩ dX4_member_5 (fun H locs hW hS => ?_)
  refine W.eq (g2 := F0 zm 8 ls [.int (if wi_ y 0 1000000000000 then 1 else 0)]) rfl ?_
  refine tp_i (y := 0) (if_neg h) ?_
  exact ct_S (As := [.int 0]) (rest := []) cx hlk hno hW hS hl (c_X4_need_bad l hI hst a) cw_X4_need nw_123 nw_122 rfl rfl (Nat.le_of_ble_eq_true rfl) rfl rfl ⟨Nat.le_of_ble_eq_true rfl, Nat.le_of_ble_eq_true rfl⟩ ⟨Nat.le_of_ble_eq_true rfl, Nat.le_of_ble_eq_true rfl⟩ dX4_member_8 (Nat.le_of_ble_eq_true rfl) (Nat.le_of_ble_eq_true rfl) rfl rfl
set_option maxHeartbeats 4000000 in
set_option maxRecDepth 100000 in
theorem c_X4_member_full (l : Launch) {w : Gh_} (hI : In_ w) (hst : l.stackTraces = false) (a : St_) (y : Int64) (h : wi_ y 0 1000000000000) (hk : gi_ a 0 0 0 = 8) : Fn_ l w yX4_member (.code yX4_member cX4_member 3 (some .int)) { frames := 7, cells := 1, slots := 6, locals := 110 } 1 6 [.ref (ad_ w 0 0), .long y] a (.inl (some (.int (-1)))) a := by
  refine Fn_of hI (by decide +kernel) (Nat.le_of_ble_eq_true rfl) ?_
  intro zp ze zs zm zb zt zc ls cx hr hlk hno hW hS hl
  replace cx : Cx_ zp zs zm zc _ cX4_member 3 "MarginHouse" w := cx
  replace hl : lv_has ls 3 [(0, .ref (ad_ w 0 0)), (1, .long y)] := hl
  obtain ⟨H, hH⟩ : ∃ H, zs.heap = H := ⟨_, rfl⟩
  rw [hH] at hW
  have hS : Fr_ w zs.heap H [] := by rw [← hH]; exact hS
  obtain ⟨locs, hlocs⟩ : ∃ x : List Loc, x = [] := ⟨_, rfl⟩
  rw [← hlocs] at hS ⊢
  rw [show W zp l ze _ zs zm _ zb zt zc zs.heap locs 0 0 _ (F0 zm 0 ls []) ↔ W zp l ze _ zs zm _ zb zt zc H locs 0 0 _ (F0 zm 0 ls []) from by rw [hH]]
  refine lv_lload_n cx.1 cx.2.1 dX4_member_0 rfl (lv_at hl 1 rfl) ?_
  refine lv_lconst (v := 0) cx.1 cx.2.1 dX4_member_1 (by decide) ?_
  refine lv_ldc2 (own := "MarginHouse") (v := 1000000000000) cx.1 cx.2.1 cx.2.2.2.1 (cx.2.2.2.2.1 _ nw_118) dX4_member_2 ?_
  refine ck_S (v := some (.int (if wi_ y 0 1000000000000 then 1 else 0))) (As := [.long y, .long 0, .long 1000000000000]) (rest := []) cx hW hS hl (c_X4_within l hI a y 0 1000000000000) cw_X4_within nw_120 nw_119 rfl rfl (Nat.le_of_ble_eq_true rfl) rfl rfl ⟨Nat.le_of_ble_eq_true rfl, Nat.le_of_ble_eq_true rfl⟩ ⟨Nat.le_of_ble_eq_true rfl, Nat.le_of_ble_eq_true rfl⟩ dX4_member_5 (fun H locs hW hS => ?_)
  refine W.eq (g2 := F0 zm 8 ls [.int (if wi_ y 0 1000000000000 then 1 else 0)]) rfl ?_
  refine tp_i (y := 1) (if_pos h) ?_
  refine ck_S (v := none) (As := [.int 1]) (rest := []) cx hW hS hl (c_X4_need_ok l hI a) cw_X4_need nw_123 nw_122 rfl rfl (Nat.le_of_ble_eq_true rfl) rfl rfl ⟨Nat.le_of_ble_eq_true rfl, Nat.le_of_ble_eq_true rfl⟩ ⟨Nat.le_of_ble_eq_true rfl, Nat.le_of_ble_eq_true rfl⟩ dX4_member_8 (fun H locs hW hS => ?_)
  refine W.eq (g2 := F0 zm 11 ls []) rfl ?_
  refine lv_aload_n cx.1 cx.2.1 dX4_member_11 rfl (lv_at hl 0 rfl) ?_
  refine gf_X4_37 cx hW (by decide) dX4_member_12 ?_
  refine lv_bipush (v := 8) cx.1 cx.2.1 dX4_member_15 (by decide) ?_
  refine lv_icmp_ne (tgt := 22) cx.1 cx.2.1 dX4_member_17 (by decide) (fun zz => absurd hk zz) (fun h17 => ?_)
  refine lv_iconst (v := -1) cx.1 cx.2.1 dX4_member_20 (by decide) ?_
  exact cr_i cx hr hlk hW hS (Nat.le_of_ble_eq_true rfl) (Nat.le_of_ble_eq_true rfl) dX4_member_21 rfl rfl
set_option maxHeartbeats 4000000 in
set_option maxRecDepth 100000 in
theorem c_X4_member_ok (l : Launch) {w : Gh_} (hI : In_ w) (hst : l.stackTraces = false) (a : St_) (k : Nat) (hk : gi_ a 0 0 0 = nI k) (hk8 : k ≤ 8) (y : Int64) (h : wi_ y 0 1000000000000) (hk7 : k < 8) : Fn_ l w yX4_member (.code yX4_member cX4_member 3 (some .int)) { frames := 7, cells := 1, slots := 6, locals := 110 } 1 6 [.ref (ad_ w 0 0), .long y] a (.inl (some (.int (nI k)))) (si_ (sl_ a 3 k 0 y) 0 0 0 (nI (k + 1))) := by
  refine Fn_of hI (by decide +kernel) (Nat.le_of_ble_eq_true rfl) ?_
  intro zp ze zs zm zb zt zc ls cx hr hlk hno hW hS hl
  replace cx : Cx_ zp zs zm zc _ cX4_member 3 "MarginHouse" w := cx
  replace hl : lv_has ls 3 [(0, .ref (ad_ w 0 0)), (1, .long y)] := hl
  obtain ⟨H, hH⟩ : ∃ H, zs.heap = H := ⟨_, rfl⟩
  rw [hH] at hW
  have hS : Fr_ w zs.heap H [] := by rw [← hH]; exact hS
  obtain ⟨locs, hlocs⟩ : ∃ x : List Loc, x = [] := ⟨_, rfl⟩
  rw [← hlocs] at hS ⊢
  rw [show W zp l ze _ zs zm _ zb zt zc zs.heap locs 0 0 _ (F0 zm 0 ls []) ↔ W zp l ze _ zs zm _ zb zt zc H locs 0 0 _ (F0 zm 0 ls []) from by rw [hH]]
  refine lv_lload_n cx.1 cx.2.1 dX4_member_0 rfl (lv_at hl 1 rfl) ?_
  refine lv_lconst (v := 0) cx.1 cx.2.1 dX4_member_1 (by decide) ?_
  refine lv_ldc2 (own := "MarginHouse") (v := 1000000000000) cx.1 cx.2.1 cx.2.2.2.1 (cx.2.2.2.2.1 _ nw_118) dX4_member_2 ?_
  refine ck_S (v := some (.int (if wi_ y 0 1000000000000 then 1 else 0))) (As := [.long y, .long 0, .long 1000000000000]) (rest := []) cx hW hS hl (c_X4_within l hI a y 0 1000000000000) cw_X4_within nw_120 nw_119 rfl rfl (Nat.le_of_ble_eq_true rfl) rfl rfl ⟨Nat.le_of_ble_eq_true rfl, Nat.le_of_ble_eq_true rfl⟩ ⟨Nat.le_of_ble_eq_true rfl, Nat.le_of_ble_eq_true rfl⟩ dX4_member_5 (fun H locs hW hS => ?_)
  refine W.eq (g2 := F0 zm 8 ls [.int (if wi_ y 0 1000000000000 then 1 else 0)]) rfl ?_
  refine tp_i (y := 1) (if_pos h) ?_
  refine ck_S (v := none) (As := [.int 1]) (rest := []) cx hW hS hl (c_X4_need_ok l hI a) cw_X4_need nw_123 nw_122 rfl rfl (Nat.le_of_ble_eq_true rfl) rfl rfl ⟨Nat.le_of_ble_eq_true rfl, Nat.le_of_ble_eq_true rfl⟩ ⟨Nat.le_of_ble_eq_true rfl, Nat.le_of_ble_eq_true rfl⟩ dX4_member_8 (fun H locs hW hS => ?_)
  refine W.eq (g2 := F0 zm 11 ls []) rfl ?_
  refine lv_aload_n cx.1 cx.2.1 dX4_member_11 rfl (lv_at hl 0 rfl) ?_
  refine gf_X4_37 cx hW (by decide) dX4_member_12 ?_
  refine tp_i (y := nI k) hk ?_
  refine lv_bipush (v := 8) cx.1 cx.2.1 dX4_member_15 (by decide) ?_
  refine lv_icmp_ne (tgt := 22) cx.1 cx.2.1 dX4_member_17 (by decide) (fun h17 => ?_) (fun zz => absurd zz (nI_nec (z := 8) (by decide +kernel) (by omega) (by omega) (by omega)))
  refine lv_aload_n cx.1 cx.2.1 dX4_member_22 rfl (lv_at hl 0 rfl) ?_
  refine gf_X4_11 cx hW (by decide) dX4_member_23 ?_
  refine lv_aload_n cx.1 cx.2.1 dX4_member_26 rfl (lv_at hl 0 rfl) ?_
  refine gf_X4_37 cx hW (by decide) dX4_member_27 ?_
  refine tp_i (y := nI k) hk ?_
  refine al_1 (j := k) cx hW (by decide) rfl (by omega) dX4_member_30 ?_
  refine lv_lload_n cx.1 cx.2.1 dX4_member_31 rfl (lv_at hl 1 rfl) ?_
  refine pf_X4_66 cx hW hS (by omega) dX4_member_32 (fun H locs hW hS => ?_)
  refine lv_aload_n cx.1 cx.2.1 dX4_member_35 rfl (lv_at hl 0 rfl) ?_
  refine lv_dup cx.1 cx.2.1 dX4_member_36 rfl ?_
  refine gf_X4_37 cx hW (by decide) dX4_member_37 ?_
  refine tp_i (y := nI k) hk ?_
  refine lv_iconst (v := 1) cx.1 cx.2.1 dX4_member_40 (by decide) ?_
  refine lv_iadd cx.1 cx.2.1 dX4_member_41 ?_
  refine tp_i (y := nI (k + 1)) (nI_1 k) ?_
  refine pf_X4_37 cx hW hS (by decide) dX4_member_42 (fun H locs hW hS => ?_)
  refine lv_aload_n cx.1 cx.2.1 dX4_member_45 rfl (lv_at hl 0 rfl) ?_
  refine gf_X4_37 cx hW (by decide) dX4_member_46 ?_
  refine tp_i (y := nI (k + 1)) (by rw [gi_si]; exact if_pos ⟨rfl, rfl, rfl⟩) ?_
  refine lv_iconst (v := 1) cx.1 cx.2.1 dX4_member_49 (by decide) ?_
  refine lv_isub cx.1 cx.2.1 dX4_member_50 ?_
  refine tp_i (y := nI k) (nI_pred k) ?_
  exact cr_i cx hr hlk hW hS (Nat.le_of_ble_eq_true rfl) (Nat.le_of_ble_eq_true rfl) dX4_member_51 rfl rfl
set_option maxHeartbeats 4000000 in
set_option maxRecDepth 100000 in
theorem c_X4_instrument_ia (l : Launch) {w : Gh_} (hI : In_ w) (hst : l.stackTraces = false) (a : St_) (x y z : Int32) (h : ¬ (wi_ x.toInt64 0 1000000 ∧ wi_ y.toInt64 0 1000000 ∧ wi_ z.toInt64 0 1000000)) : Fn_ l w yX4_instrument (.code yX4_instrument cX4_instrument 5 (some .int)) { frames := 7, cells := 1, slots := 6, locals := 110 } 1 6 [.ref (ad_ w 0 0), .int x, .int y, .int z] a (.inr IA_) a := by
  refine Fn_of hI (by decide +kernel) (Nat.le_of_ble_eq_true rfl) ?_
  intro zp ze zs zm zb zt zc ls cx hr hlk hno hW hS hl
  replace cx : Cx_ zp zs zm zc _ cX4_instrument 5 "MarginHouse" w := cx
  replace hl : lv_has ls 5 [(0, .ref (ad_ w 0 0)), (1, .int x), (2, .int y), (3, .int z)] := hl
  obtain ⟨H, hH⟩ : ∃ H, zs.heap = H := ⟨_, rfl⟩
  rw [hH] at hW
  have hS : Fr_ w zs.heap H [] := by rw [← hH]; exact hS
  obtain ⟨locs, hlocs⟩ : ∃ x : List Loc, x = [] := ⟨_, rfl⟩
  rw [← hlocs] at hS ⊢
  rw [show W zp l ze _ zs zm _ zb zt zc zs.heap locs 0 0 _ (F0 zm 0 ls []) ↔ W zp l ze _ zs zm _ zb zt zc H locs 0 0 _ (F0 zm 0 ls []) from by rw [hH]]
  refine lv_iload_n cx.1 cx.2.1 dX4_instrument_0 rfl (lv_at hl 1 rfl) ?_
  refine lv_i2l (v := x.toInt64) cx.1 cx.2.1 dX4_instrument_1 rfl ?_
  refine lv_lconst (v := 0) cx.1 cx.2.1 dX4_instrument_2 (by decide) ?_
  refine lv_ldc2 (own := "MarginHouse") (v := 1000000) cx.1 cx.2.1 cx.2.2.2.1 (cx.2.2.2.2.1 _ nw_148) dX4_instrument_3 ?_
  refine ck_S (v := some (.int (if wi_ x.toInt64 0 1000000 then 1 else 0))) (As := [.long x.toInt64, .long 0, .long 1000000]) (rest := []) cx hW hS hl (c_X4_within l hI a x.toInt64 0 1000000) cw_X4_within nw_120 nw_119 rfl rfl (Nat.le_of_ble_eq_true rfl) rfl rfl ⟨Nat.le_of_ble_eq_true rfl, Nat.le_of_ble_eq_true rfl⟩ ⟨Nat.le_of_ble_eq_true rfl, Nat.le_of_ble_eq_true rfl⟩ dX4_instrument_6 (fun H locs hW hS => ?_)
  refine W.eq (g2 := F0 zm 9 ls [.int (if wi_ x.toInt64 0 1000000 then 1 else 0)]) rfl ?_
  refine lv_if_eq (tgt := 40) cx.1 cx.2.1 dX4_instrument_9 (by decide) (fun h9 => ?_) (fun h9 => ?_)
  · skip
    have h9 := bz_0 h9
    refine lv_iconst (v := 0) cx.1 cx.2.1 dX4_instrument_40 (by decide) ?_
    exact ct_S (As := [.int 0]) (rest := []) cx hlk hno hW hS hl (c_X4_need_bad l hI hst a) cw_X4_need nw_123 nw_122 rfl rfl (Nat.le_of_ble_eq_true rfl) rfl rfl ⟨Nat.le_of_ble_eq_true rfl, Nat.le_of_ble_eq_true rfl⟩ ⟨Nat.le_of_ble_eq_true rfl, Nat.le_of_ble_eq_true rfl⟩ dX4_instrument_41 (Nat.le_of_ble_eq_true rfl) (Nat.le_of_ble_eq_true rfl) rfl rfl
  · skip
    have h9 := bz_1 h9
    refine lv_iload_n cx.1 cx.2.1 dX4_instrument_12 rfl (lv_at hl 2 rfl) ?_
    refine lv_i2l (v := y.toInt64) cx.1 cx.2.1 dX4_instrument_13 rfl ?_
    refine lv_lconst (v := 0) cx.1 cx.2.1 dX4_instrument_14 (by decide) ?_
    refine lv_ldc2 (own := "MarginHouse") (v := 1000000) cx.1 cx.2.1 cx.2.2.2.1 (cx.2.2.2.2.1 _ nw_148) dX4_instrument_15 ?_
    refine ck_S (v := some (.int (if wi_ y.toInt64 0 1000000 then 1 else 0))) (As := [.long y.toInt64, .long 0, .long 1000000]) (rest := []) cx hW hS hl (c_X4_within l hI a y.toInt64 0 1000000) cw_X4_within nw_120 nw_119 rfl rfl (Nat.le_of_ble_eq_true rfl) rfl rfl ⟨Nat.le_of_ble_eq_true rfl, Nat.le_of_ble_eq_true rfl⟩ ⟨Nat.le_of_ble_eq_true rfl, Nat.le_of_ble_eq_true rfl⟩ dX4_instrument_18 (fun H locs hW hS => ?_)
    refine W.eq (g2 := F0 zm 21 ls [.int (if wi_ y.toInt64 0 1000000 then 1 else 0)]) rfl ?_
    refine lv_if_eq (tgt := 40) cx.1 cx.2.1 dX4_instrument_21 (by decide) (fun h21 => ?_) (fun h21 => ?_)
    · skip
      have h21 := bz_0 h21
      refine lv_iconst (v := 0) cx.1 cx.2.1 dX4_instrument_40 (by decide) ?_
      exact ct_S (As := [.int 0]) (rest := []) cx hlk hno hW hS hl (c_X4_need_bad l hI hst a) cw_X4_need nw_123 nw_122 rfl rfl (Nat.le_of_ble_eq_true rfl) rfl rfl ⟨Nat.le_of_ble_eq_true rfl, Nat.le_of_ble_eq_true rfl⟩ ⟨Nat.le_of_ble_eq_true rfl, Nat.le_of_ble_eq_true rfl⟩ dX4_instrument_41 (Nat.le_of_ble_eq_true rfl) (Nat.le_of_ble_eq_true rfl) rfl rfl
    · skip
      have h21 := bz_1 h21
      refine lv_iload_n cx.1 cx.2.1 dX4_instrument_24 rfl (lv_at hl 3 rfl) ?_
      refine lv_i2l (v := z.toInt64) cx.1 cx.2.1 dX4_instrument_25 rfl ?_
      refine lv_lconst (v := 0) cx.1 cx.2.1 dX4_instrument_26 (by decide) ?_
      refine lv_ldc2 (own := "MarginHouse") (v := 1000000) cx.1 cx.2.1 cx.2.2.2.1 (cx.2.2.2.2.1 _ nw_148) dX4_instrument_27 ?_
      refine ck_S (v := some (.int (if wi_ z.toInt64 0 1000000 then 1 else 0))) (As := [.long z.toInt64, .long 0, .long 1000000]) (rest := []) cx hW hS hl (c_X4_within l hI a z.toInt64 0 1000000) cw_X4_within nw_120 nw_119 rfl rfl (Nat.le_of_ble_eq_true rfl) rfl rfl ⟨Nat.le_of_ble_eq_true rfl, Nat.le_of_ble_eq_true rfl⟩ ⟨Nat.le_of_ble_eq_true rfl, Nat.le_of_ble_eq_true rfl⟩ dX4_instrument_30 (fun H locs hW hS => ?_)
      refine W.eq (g2 := F0 zm 33 ls [.int (if wi_ z.toInt64 0 1000000 then 1 else 0)]) rfl ?_
      refine lv_if_eq (tgt := 40) cx.1 cx.2.1 dX4_instrument_33 (by decide) (fun h33 => ?_) (fun h33 => ?_)
      · skip
        have h33 := bz_0 h33
        refine lv_iconst (v := 0) cx.1 cx.2.1 dX4_instrument_40 (by decide) ?_
        exact ct_S (As := [.int 0]) (rest := []) cx hlk hno hW hS hl (c_X4_need_bad l hI hst a) cw_X4_need nw_123 nw_122 rfl rfl (Nat.le_of_ble_eq_true rfl) rfl rfl ⟨Nat.le_of_ble_eq_true rfl, Nat.le_of_ble_eq_true rfl⟩ ⟨Nat.le_of_ble_eq_true rfl, Nat.le_of_ble_eq_true rfl⟩ dX4_instrument_41 (Nat.le_of_ble_eq_true rfl) (Nat.le_of_ble_eq_true rfl) rfl rfl
      · skip
        have h33 := bz_1 h33
        exact absurd ⟨h9, h21, h33⟩ h
set_option maxHeartbeats 4000000 in
set_option maxRecDepth 100000 in
theorem c_X4_instrument_full (l : Launch) {w : Gh_} (hI : In_ w) (hst : l.stackTraces = false) (a : St_) (x y z : Int32) (h : wi_ x.toInt64 0 1000000 ∧ wi_ y.toInt64 0 1000000 ∧ wi_ z.toInt64 0 1000000) (hn : gi_ a 1 0 0 = 6) : Fn_ l w yX4_instrument (.code yX4_instrument cX4_instrument 5 (some .int)) { frames := 7, cells := 1, slots := 6, locals := 110 } 1 6 [.ref (ad_ w 0 0), .int x, .int y, .int z] a (.inl (some (.int (-1)))) a := by
  refine Fn_of hI (by decide +kernel) (Nat.le_of_ble_eq_true rfl) ?_
  intro zp ze zs zm zb zt zc ls cx hr hlk hno hW hS hl
  replace cx : Cx_ zp zs zm zc _ cX4_instrument 5 "MarginHouse" w := cx
  replace hl : lv_has ls 5 [(0, .ref (ad_ w 0 0)), (1, .int x), (2, .int y), (3, .int z)] := hl
  obtain ⟨H, hH⟩ : ∃ H, zs.heap = H := ⟨_, rfl⟩
  rw [hH] at hW
  have hS : Fr_ w zs.heap H [] := by rw [← hH]; exact hS
  obtain ⟨locs, hlocs⟩ : ∃ x : List Loc, x = [] := ⟨_, rfl⟩
  rw [← hlocs] at hS ⊢
  rw [show W zp l ze _ zs zm _ zb zt zc zs.heap locs 0 0 _ (F0 zm 0 ls []) ↔ W zp l ze _ zs zm _ zb zt zc H locs 0 0 _ (F0 zm 0 ls []) from by rw [hH]]
  refine lv_iload_n cx.1 cx.2.1 dX4_instrument_0 rfl (lv_at hl 1 rfl) ?_
  refine lv_i2l (v := x.toInt64) cx.1 cx.2.1 dX4_instrument_1 rfl ?_
  refine lv_lconst (v := 0) cx.1 cx.2.1 dX4_instrument_2 (by decide) ?_
  refine lv_ldc2 (own := "MarginHouse") (v := 1000000) cx.1 cx.2.1 cx.2.2.2.1 (cx.2.2.2.2.1 _ nw_148) dX4_instrument_3 ?_
  refine ck_S (v := some (.int (if wi_ x.toInt64 0 1000000 then 1 else 0))) (As := [.long x.toInt64, .long 0, .long 1000000]) (rest := []) cx hW hS hl (c_X4_within l hI a x.toInt64 0 1000000) cw_X4_within nw_120 nw_119 rfl rfl (Nat.le_of_ble_eq_true rfl) rfl rfl ⟨Nat.le_of_ble_eq_true rfl, Nat.le_of_ble_eq_true rfl⟩ ⟨Nat.le_of_ble_eq_true rfl, Nat.le_of_ble_eq_true rfl⟩ dX4_instrument_6 (fun H locs hW hS => ?_)
  refine W.eq (g2 := F0 zm 9 ls [.int (if wi_ x.toInt64 0 1000000 then 1 else 0)]) rfl ?_
  refine lv_if_eq (tgt := 40) cx.1 cx.2.1 dX4_instrument_9 (by decide) (fun zz => absurd zz (bz_t h.1)) (fun h9 => ?_)
  refine lv_iload_n cx.1 cx.2.1 dX4_instrument_12 rfl (lv_at hl 2 rfl) ?_
  refine lv_i2l (v := y.toInt64) cx.1 cx.2.1 dX4_instrument_13 rfl ?_
  refine lv_lconst (v := 0) cx.1 cx.2.1 dX4_instrument_14 (by decide) ?_
  refine lv_ldc2 (own := "MarginHouse") (v := 1000000) cx.1 cx.2.1 cx.2.2.2.1 (cx.2.2.2.2.1 _ nw_148) dX4_instrument_15 ?_
  refine ck_S (v := some (.int (if wi_ y.toInt64 0 1000000 then 1 else 0))) (As := [.long y.toInt64, .long 0, .long 1000000]) (rest := []) cx hW hS hl (c_X4_within l hI a y.toInt64 0 1000000) cw_X4_within nw_120 nw_119 rfl rfl (Nat.le_of_ble_eq_true rfl) rfl rfl ⟨Nat.le_of_ble_eq_true rfl, Nat.le_of_ble_eq_true rfl⟩ ⟨Nat.le_of_ble_eq_true rfl, Nat.le_of_ble_eq_true rfl⟩ dX4_instrument_18 (fun H locs hW hS => ?_)
  refine W.eq (g2 := F0 zm 21 ls [.int (if wi_ y.toInt64 0 1000000 then 1 else 0)]) rfl ?_
  refine lv_if_eq (tgt := 40) cx.1 cx.2.1 dX4_instrument_21 (by decide) (fun zz => absurd zz (bz_t h.2.1)) (fun h21 => ?_)
  refine lv_iload_n cx.1 cx.2.1 dX4_instrument_24 rfl (lv_at hl 3 rfl) ?_
  refine lv_i2l (v := z.toInt64) cx.1 cx.2.1 dX4_instrument_25 rfl ?_
  refine lv_lconst (v := 0) cx.1 cx.2.1 dX4_instrument_26 (by decide) ?_
  refine lv_ldc2 (own := "MarginHouse") (v := 1000000) cx.1 cx.2.1 cx.2.2.2.1 (cx.2.2.2.2.1 _ nw_148) dX4_instrument_27 ?_
  refine ck_S (v := some (.int (if wi_ z.toInt64 0 1000000 then 1 else 0))) (As := [.long z.toInt64, .long 0, .long 1000000]) (rest := []) cx hW hS hl (c_X4_within l hI a z.toInt64 0 1000000) cw_X4_within nw_120 nw_119 rfl rfl (Nat.le_of_ble_eq_true rfl) rfl rfl ⟨Nat.le_of_ble_eq_true rfl, Nat.le_of_ble_eq_true rfl⟩ ⟨Nat.le_of_ble_eq_true rfl, Nat.le_of_ble_eq_true rfl⟩ dX4_instrument_30 (fun H locs hW hS => ?_)
  refine W.eq (g2 := F0 zm 33 ls [.int (if wi_ z.toInt64 0 1000000 then 1 else 0)]) rfl ?_
  refine lv_if_eq (tgt := 40) cx.1 cx.2.1 dX4_instrument_33 (by decide) (fun zz => absurd zz (bz_t h.2.2)) (fun h33 => ?_)
  refine lv_iconst (v := 1) cx.1 cx.2.1 dX4_instrument_36 (by decide) ?_
  refine lv_goto (tgt := 41) cx.1 cx.2.1 dX4_instrument_37 (by decide) ?_
  refine ck_S (v := none) (As := [.int 1]) (rest := []) cx hW hS hl (c_X4_need_ok l hI a) cw_X4_need nw_123 nw_122 rfl rfl (Nat.le_of_ble_eq_true rfl) rfl rfl ⟨Nat.le_of_ble_eq_true rfl, Nat.le_of_ble_eq_true rfl⟩ ⟨Nat.le_of_ble_eq_true rfl, Nat.le_of_ble_eq_true rfl⟩ dX4_instrument_41 (fun H locs hW hS => ?_)
  refine W.eq (g2 := F0 zm 44 ls []) rfl ?_
  refine lv_aload_n cx.1 cx.2.1 dX4_instrument_44 rfl (lv_at hl 0 rfl) ?_
  refine gf_X4_41 cx hW (by decide) dX4_instrument_45 ?_
  refine lv_bipush (v := 6) cx.1 cx.2.1 dX4_instrument_48 (by decide) ?_
  refine lv_icmp_ne (tgt := 55) cx.1 cx.2.1 dX4_instrument_50 (by decide) (fun zz => absurd hn zz) (fun h50 => ?_)
  refine lv_iconst (v := -1) cx.1 cx.2.1 dX4_instrument_53 (by decide) ?_
  exact cr_i cx hr hlk hW hS (Nat.le_of_ble_eq_true rfl) (Nat.le_of_ble_eq_true rfl) dX4_instrument_54 rfl rfl
set_option maxHeartbeats 4000000 in
set_option maxRecDepth 100000 in
theorem c_X4_instrument_ok (l : Launch) {w : Gh_} (hI : In_ w) (hst : l.stackTraces = false) (a : St_) (n : Nat) (hn : gi_ a 1 0 0 = nI n) (hn6 : n ≤ 6) (x y z : Int32) (h : wi_ x.toInt64 0 1000000 ∧ wi_ y.toInt64 0 1000000 ∧ wi_ z.toInt64 0 1000000) (hn5 : n < 6) : Fn_ l w yX4_instrument (.code yX4_instrument cX4_instrument 5 (some .int)) { frames := 7, cells := 1, slots := 6, locals := 110 } 1 6 [.ref (ad_ w 0 0), .int x, .int y, .int z] a (.inl (some (.int (nI n)))) (si_ (si_ (si_ (si_ a 6 n 0 x) 7 n 0 y) 8 n 0 z) 1 0 0 (nI (n + 1))) := by
  refine Fn_of hI (by decide +kernel) (Nat.le_of_ble_eq_true rfl) ?_
  intro zp ze zs zm zb zt zc ls cx hr hlk hno hW hS hl
  replace cx : Cx_ zp zs zm zc _ cX4_instrument 5 "MarginHouse" w := cx
  replace hl : lv_has ls 5 [(0, .ref (ad_ w 0 0)), (1, .int x), (2, .int y), (3, .int z)] := hl
  obtain ⟨H, hH⟩ : ∃ H, zs.heap = H := ⟨_, rfl⟩
  rw [hH] at hW
  have hS : Fr_ w zs.heap H [] := by rw [← hH]; exact hS
  obtain ⟨locs, hlocs⟩ : ∃ x : List Loc, x = [] := ⟨_, rfl⟩
  rw [← hlocs] at hS ⊢
  rw [show W zp l ze _ zs zm _ zb zt zc zs.heap locs 0 0 _ (F0 zm 0 ls []) ↔ W zp l ze _ zs zm _ zb zt zc H locs 0 0 _ (F0 zm 0 ls []) from by rw [hH]]
  refine lv_iload_n cx.1 cx.2.1 dX4_instrument_0 rfl (lv_at hl 1 rfl) ?_
  refine lv_i2l (v := x.toInt64) cx.1 cx.2.1 dX4_instrument_1 rfl ?_
  refine lv_lconst (v := 0) cx.1 cx.2.1 dX4_instrument_2 (by decide) ?_
  refine lv_ldc2 (own := "MarginHouse") (v := 1000000) cx.1 cx.2.1 cx.2.2.2.1 (cx.2.2.2.2.1 _ nw_148) dX4_instrument_3 ?_
  refine ck_S (v := some (.int (if wi_ x.toInt64 0 1000000 then 1 else 0))) (As := [.long x.toInt64, .long 0, .long 1000000]) (rest := []) cx hW hS hl (c_X4_within l hI a x.toInt64 0 1000000) cw_X4_within nw_120 nw_119 rfl rfl (Nat.le_of_ble_eq_true rfl) rfl rfl ⟨Nat.le_of_ble_eq_true rfl, Nat.le_of_ble_eq_true rfl⟩ ⟨Nat.le_of_ble_eq_true rfl, Nat.le_of_ble_eq_true rfl⟩ dX4_instrument_6 (fun H locs hW hS => ?_)
  refine W.eq (g2 := F0 zm 9 ls [.int (if wi_ x.toInt64 0 1000000 then 1 else 0)]) rfl ?_
  refine lv_if_eq (tgt := 40) cx.1 cx.2.1 dX4_instrument_9 (by decide) (fun zz => absurd zz (bz_t h.1)) (fun h9 => ?_)
  refine lv_iload_n cx.1 cx.2.1 dX4_instrument_12 rfl (lv_at hl 2 rfl) ?_
  refine lv_i2l (v := y.toInt64) cx.1 cx.2.1 dX4_instrument_13 rfl ?_
  refine lv_lconst (v := 0) cx.1 cx.2.1 dX4_instrument_14 (by decide) ?_
  refine lv_ldc2 (own := "MarginHouse") (v := 1000000) cx.1 cx.2.1 cx.2.2.2.1 (cx.2.2.2.2.1 _ nw_148) dX4_instrument_15 ?_
  refine ck_S (v := some (.int (if wi_ y.toInt64 0 1000000 then 1 else 0))) (As := [.long y.toInt64, .long 0, .long 1000000]) (rest := []) cx hW hS hl (c_X4_within l hI a y.toInt64 0 1000000) cw_X4_within nw_120 nw_119 rfl rfl (Nat.le_of_ble_eq_true rfl) rfl rfl ⟨Nat.le_of_ble_eq_true rfl, Nat.le_of_ble_eq_true rfl⟩ ⟨Nat.le_of_ble_eq_true rfl, Nat.le_of_ble_eq_true rfl⟩ dX4_instrument_18 (fun H locs hW hS => ?_)
  refine W.eq (g2 := F0 zm 21 ls [.int (if wi_ y.toInt64 0 1000000 then 1 else 0)]) rfl ?_
  refine lv_if_eq (tgt := 40) cx.1 cx.2.1 dX4_instrument_21 (by decide) (fun zz => absurd zz (bz_t h.2.1)) (fun h21 => ?_)
  refine lv_iload_n cx.1 cx.2.1 dX4_instrument_24 rfl (lv_at hl 3 rfl) ?_
  refine lv_i2l (v := z.toInt64) cx.1 cx.2.1 dX4_instrument_25 rfl ?_
  refine lv_lconst (v := 0) cx.1 cx.2.1 dX4_instrument_26 (by decide) ?_
  refine lv_ldc2 (own := "MarginHouse") (v := 1000000) cx.1 cx.2.1 cx.2.2.2.1 (cx.2.2.2.2.1 _ nw_148) dX4_instrument_27 ?_
  refine ck_S (v := some (.int (if wi_ z.toInt64 0 1000000 then 1 else 0))) (As := [.long z.toInt64, .long 0, .long 1000000]) (rest := []) cx hW hS hl (c_X4_within l hI a z.toInt64 0 1000000) cw_X4_within nw_120 nw_119 rfl rfl (Nat.le_of_ble_eq_true rfl) rfl rfl ⟨Nat.le_of_ble_eq_true rfl, Nat.le_of_ble_eq_true rfl⟩ ⟨Nat.le_of_ble_eq_true rfl, Nat.le_of_ble_eq_true rfl⟩ dX4_instrument_30 (fun H locs hW hS => ?_)
  refine W.eq (g2 := F0 zm 33 ls [.int (if wi_ z.toInt64 0 1000000 then 1 else 0)]) rfl ?_
  refine lv_if_eq (tgt := 40) cx.1 cx.2.1 dX4_instrument_33 (by decide) (fun zz => absurd zz (bz_t h.2.2)) (fun h33 => ?_)
  refine lv_iconst (v := 1) cx.1 cx.2.1 dX4_instrument_36 (by decide) ?_
  refine lv_goto (tgt := 41) cx.1 cx.2.1 dX4_instrument_37 (by decide) ?_
  refine ck_S (v := none) (As := [.int 1]) (rest := []) cx hW hS hl (c_X4_need_ok l hI a) cw_X4_need nw_123 nw_122 rfl rfl (Nat.le_of_ble_eq_true rfl) rfl rfl ⟨Nat.le_of_ble_eq_true rfl, Nat.le_of_ble_eq_true rfl⟩ ⟨Nat.le_of_ble_eq_true rfl, Nat.le_of_ble_eq_true rfl⟩ dX4_instrument_41 (fun H locs hW hS => ?_)
  refine W.eq (g2 := F0 zm 44 ls []) rfl ?_
  refine lv_aload_n cx.1 cx.2.1 dX4_instrument_44 rfl (lv_at hl 0 rfl) ?_
  refine gf_X4_41 cx hW (by decide) dX4_instrument_45 ?_
  refine tp_i (y := nI n) hn ?_
  refine lv_bipush (v := 6) cx.1 cx.2.1 dX4_instrument_48 (by decide) ?_
  refine lv_icmp_ne (tgt := 55) cx.1 cx.2.1 dX4_instrument_50 (by decide) (fun h50 => ?_) (fun zz => absurd zz (nI_nec (z := 6) (by decide +kernel) (by omega) (by omega) (by omega)))
  refine lv_aload_n cx.1 cx.2.1 dX4_instrument_55 rfl (lv_at hl 0 rfl) ?_
  refine gf_X4_17 cx hW (by decide) dX4_instrument_56 ?_
  refine lv_aload_n cx.1 cx.2.1 dX4_instrument_59 rfl (lv_at hl 0 rfl) ?_
  refine gf_X4_41 cx hW (by decide) dX4_instrument_60 ?_
  refine tp_i (y := nI n) hn ?_
  refine al_2 (j := n) cx hW (by decide) rfl (by omega) dX4_instrument_63 ?_
  refine lv_astore (lv' := [(4, .ref (ad_ w 9 n)), (0, .ref (ad_ w 0 0)), (1, .int x), (2, .int y), (3, .int z)]) cx.1 cx.2.1 dX4_instrument_64 hl (by decide) rfl (fun ls hl => ?_)
  refine lv_aload cx.1 cx.2.1 dX4_instrument_66 (lv_at hl 0 rfl) ?_
  refine lv_iload_n cx.1 cx.2.1 dX4_instrument_68 rfl (lv_at hl 2 rfl) ?_
  refine pf_X4_71 cx hW hS (by omega) dX4_instrument_69 (fun H locs hW hS => ?_)
  refine lv_aload cx.1 cx.2.1 dX4_instrument_72 (lv_at hl 0 rfl) ?_
  refine lv_iload_n cx.1 cx.2.1 dX4_instrument_74 rfl (lv_at hl 3 rfl) ?_
  refine pf_X4_74 cx hW hS (by omega) dX4_instrument_75 (fun H locs hW hS => ?_)
  refine lv_aload cx.1 cx.2.1 dX4_instrument_78 (lv_at hl 0 rfl) ?_
  refine lv_iload_n cx.1 cx.2.1 dX4_instrument_80 rfl (lv_at hl 4 rfl) ?_
  refine pf_X4_77 cx hW hS (by omega) dX4_instrument_81 (fun H locs hW hS => ?_)
  refine lv_aload_n cx.1 cx.2.1 dX4_instrument_84 rfl (lv_at hl 1 rfl) ?_
  refine lv_dup cx.1 cx.2.1 dX4_instrument_85 rfl ?_
  refine gf_X4_41 cx hW (by decide) dX4_instrument_86 ?_
  refine tp_i (y := nI n) (by simp only [gi_si]; simp; exact hn) ?_
  refine lv_iconst (v := 1) cx.1 cx.2.1 dX4_instrument_89 (by decide) ?_
  refine lv_iadd cx.1 cx.2.1 dX4_instrument_90 ?_
  refine tp_i (y := nI (n + 1)) (nI_1 n) ?_
  refine pf_X4_41 cx hW hS (by decide) dX4_instrument_91 (fun H locs hW hS => ?_)
  refine lv_aload_n cx.1 cx.2.1 dX4_instrument_94 rfl (lv_at hl 1 rfl) ?_
  refine gf_X4_41 cx hW (by decide) dX4_instrument_95 ?_
  refine tp_i (y := nI (n + 1)) (by rw [gi_si]; exact if_pos ⟨rfl, rfl, rfl⟩) ?_
  refine lv_iconst (v := 1) cx.1 cx.2.1 dX4_instrument_98 (by decide) ?_
  refine lv_isub cx.1 cx.2.1 dX4_instrument_99 ?_
  refine tp_i (y := nI n) (nI_pred n) ?_
  exact cr_i cx hr hlk hW hS (Nat.le_of_ble_eq_true rfl) (Nat.le_of_ble_eq_true rfl) dX4_instrument_100 rfl rfl
set_option maxHeartbeats 4000000 in
set_option maxRecDepth 100000 in
theorem c_X4_capital_ia (l : Launch) {w : Gh_} (hI : In_ w) (hst : l.stackTraces = false) (a : St_) (y : Int64) (h : ¬ wi_ y 0 1000000000000) : Fn_ l w yX4_capital (.code yX4_capital cX4_capital 3 (some .long)) { frames := 7, cells := 1, slots := 6, locals := 110 } 1 6 [.ref (ad_ w 0 0), .long y] a (.inr IA_) a := by
  refine Fn_of hI (by decide +kernel) (Nat.le_of_ble_eq_true rfl) ?_
  intro zp ze zs zm zb zt zc ls cx hr hlk hno hW hS hl
  replace cx : Cx_ zp zs zm zc _ cX4_capital 3 "MarginHouse" w := cx
  replace hl : lv_has ls 3 [(0, .ref (ad_ w 0 0)), (1, .long y)] := hl
  obtain ⟨H, hH⟩ : ∃ H, zs.heap = H := ⟨_, rfl⟩
  rw [hH] at hW
  have hS : Fr_ w zs.heap H [] := by rw [← hH]; exact hS
  obtain ⟨locs, hlocs⟩ : ∃ x : List Loc, x = [] := ⟨_, rfl⟩
  rw [← hlocs] at hS ⊢
  rw [show W zp l ze _ zs zm _ zb zt zc zs.heap locs 0 0 _ (F0 zm 0 ls []) ↔ W zp l ze _ zs zm _ zb zt zc H locs 0 0 _ (F0 zm 0 ls []) from by rw [hH]]
  refine lv_lload_n cx.1 cx.2.1 dX4_capital_0 rfl (lv_at hl 1 rfl) ?_
  refine lv_lconst (v := 0) cx.1 cx.2.1 dX4_capital_1 (by decide) ?_
  refine lv_ldc2 (own := "MarginHouse") (v := 1000000000000) cx.1 cx.2.1 cx.2.2.2.1 (cx.2.2.2.2.1 _ nw_118) dX4_capital_2 ?_
  refine ck_S (v := some (.int (if wi_ y 0 1000000000000 then 1 else 0))) (As := [.long y, .long 0, .long 1000000000000]) (rest := []) cx hW hS hl (c_X4_within l hI a y 0 1000000000000) cw_X4_within nw_120 nw_119 rfl rfl (Nat.le_of_ble_eq_true rfl) rfl rfl ⟨Nat.le_of_ble_eq_true rfl, Nat.le_of_ble_eq_true rfl⟩ ⟨Nat.le_of_ble_eq_true rfl, Nat.le_of_ble_eq_true rfl⟩ dX4_capital_5 (fun H locs hW hS => ?_)
  refine W.eq (g2 := F0 zm 8 ls [.int (if wi_ y 0 1000000000000 then 1 else 0)]) rfl ?_
  refine tp_i (y := 0) (if_neg h) ?_
  exact ct_S (As := [.int 0]) (rest := []) cx hlk hno hW hS hl (c_X4_need_bad l hI hst a) cw_X4_need nw_123 nw_122 rfl rfl (Nat.le_of_ble_eq_true rfl) rfl rfl ⟨Nat.le_of_ble_eq_true rfl, Nat.le_of_ble_eq_true rfl⟩ ⟨Nat.le_of_ble_eq_true rfl, Nat.le_of_ble_eq_true rfl⟩ dX4_capital_8 (Nat.le_of_ble_eq_true rfl) (Nat.le_of_ble_eq_true rfl) rfl rfl
set_option maxHeartbeats 4000000 in
set_option maxRecDepth 100000 in
theorem c_X4_capital_none (l : Launch) {w : Gh_} (hI : In_ w) (hst : l.stackTraces = false) (a : St_) (y : Int64) (h : wi_ y 0 1000000000000) (h2 : ¬ tm_ (gl_ a 0 0 0 + y)) : Fn_ l w yX4_capital (.code yX4_capital cX4_capital 3 (some .long)) { frames := 7, cells := 1, slots := 6, locals := 110 } 1 6 [.ref (ad_ w 0 0), .long y] a (.inl (some (.long (-1)))) a := by
  refine Fn_of hI (by decide +kernel) (Nat.le_of_ble_eq_true rfl) ?_
  intro zp ze zs zm zb zt zc ls cx hr hlk hno hW hS hl
  replace cx : Cx_ zp zs zm zc _ cX4_capital 3 "MarginHouse" w := cx
  replace hl : lv_has ls 3 [(0, .ref (ad_ w 0 0)), (1, .long y)] := hl
  obtain ⟨H, hH⟩ : ∃ H, zs.heap = H := ⟨_, rfl⟩
  rw [hH] at hW
  have hS : Fr_ w zs.heap H [] := by rw [← hH]; exact hS
  obtain ⟨locs, hlocs⟩ : ∃ x : List Loc, x = [] := ⟨_, rfl⟩
  rw [← hlocs] at hS ⊢
  rw [show W zp l ze _ zs zm _ zb zt zc zs.heap locs 0 0 _ (F0 zm 0 ls []) ↔ W zp l ze _ zs zm _ zb zt zc H locs 0 0 _ (F0 zm 0 ls []) from by rw [hH]]
  refine lv_lload_n cx.1 cx.2.1 dX4_capital_0 rfl (lv_at hl 1 rfl) ?_
  refine lv_lconst (v := 0) cx.1 cx.2.1 dX4_capital_1 (by decide) ?_
  refine lv_ldc2 (own := "MarginHouse") (v := 1000000000000) cx.1 cx.2.1 cx.2.2.2.1 (cx.2.2.2.2.1 _ nw_118) dX4_capital_2 ?_
  refine ck_S (v := some (.int (if wi_ y 0 1000000000000 then 1 else 0))) (As := [.long y, .long 0, .long 1000000000000]) (rest := []) cx hW hS hl (c_X4_within l hI a y 0 1000000000000) cw_X4_within nw_120 nw_119 rfl rfl (Nat.le_of_ble_eq_true rfl) rfl rfl ⟨Nat.le_of_ble_eq_true rfl, Nat.le_of_ble_eq_true rfl⟩ ⟨Nat.le_of_ble_eq_true rfl, Nat.le_of_ble_eq_true rfl⟩ dX4_capital_5 (fun H locs hW hS => ?_)
  refine W.eq (g2 := F0 zm 8 ls [.int (if wi_ y 0 1000000000000 then 1 else 0)]) rfl ?_
  refine tp_i (y := 1) (if_pos h) ?_
  refine ck_S (v := none) (As := [.int 1]) (rest := []) cx hW hS hl (c_X4_need_ok l hI a) cw_X4_need nw_123 nw_122 rfl rfl (Nat.le_of_ble_eq_true rfl) rfl rfl ⟨Nat.le_of_ble_eq_true rfl, Nat.le_of_ble_eq_true rfl⟩ ⟨Nat.le_of_ble_eq_true rfl, Nat.le_of_ble_eq_true rfl⟩ dX4_capital_8 (fun H locs hW hS => ?_)
  refine W.eq (g2 := F0 zm 11 ls []) rfl ?_
  refine lv_aload_n cx.1 cx.2.1 dX4_capital_11 rfl (lv_at hl 0 rfl) ?_
  refine gf_X4_47 cx hW (by decide) dX4_capital_12 ?_
  refine lv_lload_n cx.1 cx.2.1 dX4_capital_15 rfl (lv_at hl 1 rfl) ?_
  refine lv_ladd cx.1 cx.2.1 dX4_capital_16 ?_
  refine ck_S (v := some (.int (if ¬ wi_ ((gl_ a 0 0 0) + y) (-1000000000000000) 1000000000000000 then 1 else 0))) (As := [.long ((gl_ a 0 0 0) + y)]) (rest := []) cx hW hS hl (c_X4_isTooMuch l hI a ((gl_ a 0 0 0) + y)) cw_X4_isTooMuch nw_157 nw_156 rfl rfl (Nat.le_of_ble_eq_true rfl) rfl rfl ⟨Nat.le_of_ble_eq_true rfl, Nat.le_of_ble_eq_true rfl⟩ ⟨Nat.le_of_ble_eq_true rfl, Nat.le_of_ble_eq_true rfl⟩ dX4_capital_17 (fun H locs hW hS => ?_)
  refine W.eq (g2 := F0 zm 20 ls [.int (if ¬ wi_ ((gl_ a 0 0 0) + y) (-1000000000000000) 1000000000000000 then 1 else 0)]) rfl ?_
  refine lv_if_eq (tgt := 27) cx.1 cx.2.1 dX4_capital_20 (by decide) (fun zz => absurd zz (bz_t h2)) (fun h20 => ?_)
  refine lv_ldc2 (own := "MarginHouse") (v := -1) cx.1 cx.2.1 cx.2.2.2.1 (cx.2.2.2.2.1 _ nw_161) dX4_capital_23 ?_
  exact cr_l cx hr hlk hW hS (Nat.le_of_ble_eq_true rfl) (Nat.le_of_ble_eq_true rfl) dX4_capital_26 rfl rfl
set_option maxHeartbeats 4000000 in
set_option maxRecDepth 100000 in
theorem c_X4_capital_ok (l : Launch) {w : Gh_} (hI : In_ w) (hst : l.stackTraces = false) (a : St_) (y : Int64) (h : wi_ y 0 1000000000000) (h2 : tm_ (gl_ a 0 0 0 + y)) : Fn_ l w yX4_capital (.code yX4_capital cX4_capital 3 (some .long)) { frames := 7, cells := 1, slots := 6, locals := 110 } 1 6 [.ref (ad_ w 0 0), .long y] a (.inl (some (.long (gl_ a 0 0 0 + y)))) (sl_ a 0 0 0 (gl_ a 0 0 0 + y)) := by
  refine Fn_of hI (by decide +kernel) (Nat.le_of_ble_eq_true rfl) ?_
  intro zp ze zs zm zb zt zc ls cx hr hlk hno hW hS hl
  replace cx : Cx_ zp zs zm zc _ cX4_capital 3 "MarginHouse" w := cx
  replace hl : lv_has ls 3 [(0, .ref (ad_ w 0 0)), (1, .long y)] := hl
  obtain ⟨H, hH⟩ : ∃ H, zs.heap = H := ⟨_, rfl⟩
  rw [hH] at hW
  have hS : Fr_ w zs.heap H [] := by rw [← hH]; exact hS
  obtain ⟨locs, hlocs⟩ : ∃ x : List Loc, x = [] := ⟨_, rfl⟩
  rw [← hlocs] at hS ⊢
  rw [show W zp l ze _ zs zm _ zb zt zc zs.heap locs 0 0 _ (F0 zm 0 ls []) ↔ W zp l ze _ zs zm _ zb zt zc H locs 0 0 _ (F0 zm 0 ls []) from by rw [hH]]
  refine lv_lload_n cx.1 cx.2.1 dX4_capital_0 rfl (lv_at hl 1 rfl) ?_
  refine lv_lconst (v := 0) cx.1 cx.2.1 dX4_capital_1 (by decide) ?_
  refine lv_ldc2 (own := "MarginHouse") (v := 1000000000000) cx.1 cx.2.1 cx.2.2.2.1 (cx.2.2.2.2.1 _ nw_118) dX4_capital_2 ?_
  refine ck_S (v := some (.int (if wi_ y 0 1000000000000 then 1 else 0))) (As := [.long y, .long 0, .long 1000000000000]) (rest := []) cx hW hS hl (c_X4_within l hI a y 0 1000000000000) cw_X4_within nw_120 nw_119 rfl rfl (Nat.le_of_ble_eq_true rfl) rfl rfl ⟨Nat.le_of_ble_eq_true rfl, Nat.le_of_ble_eq_true rfl⟩ ⟨Nat.le_of_ble_eq_true rfl, Nat.le_of_ble_eq_true rfl⟩ dX4_capital_5 (fun H locs hW hS => ?_)
  refine W.eq (g2 := F0 zm 8 ls [.int (if wi_ y 0 1000000000000 then 1 else 0)]) rfl ?_
  refine tp_i (y := 1) (if_pos h) ?_
  refine ck_S (v := none) (As := [.int 1]) (rest := []) cx hW hS hl (c_X4_need_ok l hI a) cw_X4_need nw_123 nw_122 rfl rfl (Nat.le_of_ble_eq_true rfl) rfl rfl ⟨Nat.le_of_ble_eq_true rfl, Nat.le_of_ble_eq_true rfl⟩ ⟨Nat.le_of_ble_eq_true rfl, Nat.le_of_ble_eq_true rfl⟩ dX4_capital_8 (fun H locs hW hS => ?_)
  refine W.eq (g2 := F0 zm 11 ls []) rfl ?_
  refine lv_aload_n cx.1 cx.2.1 dX4_capital_11 rfl (lv_at hl 0 rfl) ?_
  refine gf_X4_47 cx hW (by decide) dX4_capital_12 ?_
  refine lv_lload_n cx.1 cx.2.1 dX4_capital_15 rfl (lv_at hl 1 rfl) ?_
  refine lv_ladd cx.1 cx.2.1 dX4_capital_16 ?_
  refine ck_S (v := some (.int (if ¬ wi_ ((gl_ a 0 0 0) + y) (-1000000000000000) 1000000000000000 then 1 else 0))) (As := [.long ((gl_ a 0 0 0) + y)]) (rest := []) cx hW hS hl (c_X4_isTooMuch l hI a ((gl_ a 0 0 0) + y)) cw_X4_isTooMuch nw_157 nw_156 rfl rfl (Nat.le_of_ble_eq_true rfl) rfl rfl ⟨Nat.le_of_ble_eq_true rfl, Nat.le_of_ble_eq_true rfl⟩ ⟨Nat.le_of_ble_eq_true rfl, Nat.le_of_ble_eq_true rfl⟩ dX4_capital_17 (fun H locs hW hS => ?_)
  refine W.eq (g2 := F0 zm 20 ls [.int (if ¬ wi_ ((gl_ a 0 0 0) + y) (-1000000000000000) 1000000000000000 then 1 else 0)]) rfl ?_
  refine lv_if_eq (tgt := 27) cx.1 cx.2.1 dX4_capital_20 (by decide) (fun h20 => ?_) (fun zz => absurd (bz_f (fun z => z h2)) zz)
  refine lv_aload_n cx.1 cx.2.1 dX4_capital_27 rfl (lv_at hl 0 rfl) ?_
  refine lv_dup cx.1 cx.2.1 dX4_capital_28 rfl ?_
  refine gf_X4_47 cx hW (by decide) dX4_capital_29 ?_
  refine lv_lload_n cx.1 cx.2.1 dX4_capital_32 rfl (lv_at hl 1 rfl) ?_
  refine lv_ladd cx.1 cx.2.1 dX4_capital_33 ?_
  refine pf_X4_47 cx hW hS (by decide) dX4_capital_34 (fun H locs hW hS => ?_)
  refine lv_aload_n cx.1 cx.2.1 dX4_capital_37 rfl (lv_at hl 0 rfl) ?_
  refine gf_X4_47 cx hW (by decide) dX4_capital_38 ?_
  refine tp_j (y := gl_ a 0 0 0 + y) (by rw [gl_sl]; exact if_pos ⟨rfl, rfl, rfl⟩) ?_
  exact cr_l cx hr hlk hW hS (Nat.le_of_ble_eq_true rfl) (Nat.le_of_ble_eq_true rfl) dX4_capital_41 rfl rfl
set_option maxHeartbeats 4000000 in
set_option maxRecDepth 100000 in
theorem c_X4_move_ia (l : Launch) {w : Gh_} (hI : In_ w) (hst : l.stackTraces = false) (a : St_) (x y z : Int32) (h : ¬ (wi_ x.toInt64 0 7 ∧ wi_ y.toInt64 0 (gi_ a 1 0 0 - 1).toInt64 ∧ wi_ z.toInt64 (-1000000) 1000000)) : Fn_ l w yX4_move (.code yX4_move cX4_move 4 none) { frames := 7, cells := 1, slots := 6, locals := 110 } 1 6 [.ref (ad_ w 0 0), .int x, .int y, .int z] a (.inr IA_) a := by
  refine Fn_of hI (by decide +kernel) (Nat.le_of_ble_eq_true rfl) ?_
  intro zp ze zs zm zb zt zc ls cx hr hlk hno hW hS hl
  replace cx : Cx_ zp zs zm zc _ cX4_move 4 "MarginHouse" w := cx
  replace hl : lv_has ls 4 [(0, .ref (ad_ w 0 0)), (1, .int x), (2, .int y), (3, .int z)] := hl
  obtain ⟨H, hH⟩ : ∃ H, zs.heap = H := ⟨_, rfl⟩
  rw [hH] at hW
  have hS : Fr_ w zs.heap H [] := by rw [← hH]; exact hS
  obtain ⟨locs, hlocs⟩ : ∃ x : List Loc, x = [] := ⟨_, rfl⟩
  rw [← hlocs] at hS ⊢
  rw [show W zp l ze _ zs zm _ zb zt zc zs.heap locs 0 0 _ (F0 zm 0 ls []) ↔ W zp l ze _ zs zm _ zb zt zc H locs 0 0 _ (F0 zm 0 ls []) from by rw [hH]]
  refine lv_iload_n cx.1 cx.2.1 dX4_move_0 rfl (lv_at hl 1 rfl) ?_
  refine lv_i2l (v := x.toInt64) cx.1 cx.2.1 dX4_move_1 rfl ?_
  refine lv_lconst (v := 0) cx.1 cx.2.1 dX4_move_2 (by decide) ?_
  refine lv_ldc2 (own := "MarginHouse") (v := 7) cx.1 cx.2.1 cx.2.2.2.1 (cx.2.2.2.2.1 _ nw_169) dX4_move_3 ?_
  refine ck_S (v := some (.int (if wi_ x.toInt64 0 7 then 1 else 0))) (As := [.long x.toInt64, .long 0, .long 7]) (rest := []) cx hW hS hl (c_X4_within l hI a x.toInt64 0 7) cw_X4_within nw_120 nw_119 rfl rfl (Nat.le_of_ble_eq_true rfl) rfl rfl ⟨Nat.le_of_ble_eq_true rfl, Nat.le_of_ble_eq_true rfl⟩ ⟨Nat.le_of_ble_eq_true rfl, Nat.le_of_ble_eq_true rfl⟩ dX4_move_6 (fun H locs hW hS => ?_)
  refine W.eq (g2 := F0 zm 9 ls [.int (if wi_ x.toInt64 0 7 then 1 else 0)]) rfl ?_
  refine lv_if_eq (tgt := 38) cx.1 cx.2.1 dX4_move_9 (by decide) (fun h9 => ?_) (fun h9 => ?_)
  · skip
    have h9 := bz_0 h9
    refine lv_iconst (v := 0) cx.1 cx.2.1 dX4_move_38 (by decide) ?_
    exact ct_S (As := [.int 0]) (rest := []) cx hlk hno hW hS hl (c_X4_need_bad l hI hst a) cw_X4_need nw_123 nw_122 rfl rfl (Nat.le_of_ble_eq_true rfl) rfl rfl ⟨Nat.le_of_ble_eq_true rfl, Nat.le_of_ble_eq_true rfl⟩ ⟨Nat.le_of_ble_eq_true rfl, Nat.le_of_ble_eq_true rfl⟩ dX4_move_39 (Nat.le_of_ble_eq_true rfl) (Nat.le_of_ble_eq_true rfl) rfl rfl
  · skip
    have h9 := bz_1 h9
    refine lv_aload_n cx.1 cx.2.1 dX4_move_12 rfl (lv_at hl 0 rfl) ?_
    refine lv_iload_n cx.1 cx.2.1 dX4_move_13 rfl (lv_at hl 2 rfl) ?_
    refine ck_V (v := some (.int (if wi_ y.toInt64 0 (gi_ a 1 0 0 - 1).toInt64 then 1 else 0))) (As := [.int y]) (rest := []) (k := 0) (i := 0) (T := TX4) cx hW hS hl (by decide) rfl rfl (c_X4_isInstrument l hI a y) cw_X4_isInstrument nw_171 nw_522 nw_170 rfl rfl (Nat.le_of_ble_eq_true rfl) rfl rfl ⟨Nat.le_of_ble_eq_true rfl, Nat.le_of_ble_eq_true rfl⟩ ⟨Nat.le_of_ble_eq_true rfl, Nat.le_of_ble_eq_true rfl⟩ dX4_move_14 (fun H locs hW hS => ?_)
    refine W.eq (g2 := F0 zm 17 ls [.int (if wi_ y.toInt64 0 (gi_ a 1 0 0 - 1).toInt64 then 1 else 0)]) rfl ?_
    refine lv_if_eq (tgt := 38) cx.1 cx.2.1 dX4_move_17 (by decide) (fun h17 => ?_) (fun h17 => ?_)
    · skip
      have h17 := bz_0 h17
      refine lv_iconst (v := 0) cx.1 cx.2.1 dX4_move_38 (by decide) ?_
      exact ct_S (As := [.int 0]) (rest := []) cx hlk hno hW hS hl (c_X4_need_bad l hI hst a) cw_X4_need nw_123 nw_122 rfl rfl (Nat.le_of_ble_eq_true rfl) rfl rfl ⟨Nat.le_of_ble_eq_true rfl, Nat.le_of_ble_eq_true rfl⟩ ⟨Nat.le_of_ble_eq_true rfl, Nat.le_of_ble_eq_true rfl⟩ dX4_move_39 (Nat.le_of_ble_eq_true rfl) (Nat.le_of_ble_eq_true rfl) rfl rfl
    · skip
      have h17 := bz_1 h17
      refine lv_iload_n cx.1 cx.2.1 dX4_move_20 rfl (lv_at hl 3 rfl) ?_
      refine lv_i2l (v := z.toInt64) cx.1 cx.2.1 dX4_move_21 rfl ?_
      refine lv_ldc2 (own := "MarginHouse") (v := -1000000) cx.1 cx.2.1 cx.2.2.2.1 (cx.2.2.2.2.1 _ nw_173) dX4_move_22 ?_
      refine lv_ldc2 (own := "MarginHouse") (v := 1000000) cx.1 cx.2.1 cx.2.2.2.1 (cx.2.2.2.2.1 _ nw_148) dX4_move_25 ?_
      refine ck_S (v := some (.int (if wi_ z.toInt64 (-1000000) 1000000 then 1 else 0))) (As := [.long z.toInt64, .long (-1000000), .long 1000000]) (rest := []) cx hW hS hl (c_X4_within l hI a z.toInt64 (-1000000) 1000000) cw_X4_within nw_120 nw_119 rfl rfl (Nat.le_of_ble_eq_true rfl) rfl rfl ⟨Nat.le_of_ble_eq_true rfl, Nat.le_of_ble_eq_true rfl⟩ ⟨Nat.le_of_ble_eq_true rfl, Nat.le_of_ble_eq_true rfl⟩ dX4_move_28 (fun H locs hW hS => ?_)
      refine W.eq (g2 := F0 zm 31 ls [.int (if wi_ z.toInt64 (-1000000) 1000000 then 1 else 0)]) rfl ?_
      refine lv_if_eq (tgt := 38) cx.1 cx.2.1 dX4_move_31 (by decide) (fun h31 => ?_) (fun h31 => ?_)
      · skip
        have h31 := bz_0 h31
        refine lv_iconst (v := 0) cx.1 cx.2.1 dX4_move_38 (by decide) ?_
        exact ct_S (As := [.int 0]) (rest := []) cx hlk hno hW hS hl (c_X4_need_bad l hI hst a) cw_X4_need nw_123 nw_122 rfl rfl (Nat.le_of_ble_eq_true rfl) rfl rfl ⟨Nat.le_of_ble_eq_true rfl, Nat.le_of_ble_eq_true rfl⟩ ⟨Nat.le_of_ble_eq_true rfl, Nat.le_of_ble_eq_true rfl⟩ dX4_move_39 (Nat.le_of_ble_eq_true rfl) (Nat.le_of_ble_eq_true rfl) rfl rfl
      · skip
        have h31 := bz_1 h31
        exact absurd ⟨h9, h17, h31⟩ h
set_option maxHeartbeats 4000000 in
set_option maxRecDepth 100000 in
theorem c_X4_move_ok (l : Launch) {w : Gh_} (hI : In_ w) (hst : l.stackTraces = false) (a : St_) (n : Nat) (hn : gi_ a 1 0 0 = nI n) (hn6 : n ≤ 6) (v j : Nat) (hv : v < 8) (hj : j < n) (z : Int32) (h : wi_ z.toInt64 (-1000000) 1000000) : Fn_ l w yX4_move (.code yX4_move cX4_move 4 none) { frames := 7, cells := 1, slots := 6, locals := 110 } 1 6 [.ref (ad_ w 0 0), .int (nI v), .int (nI j), .int z] a (.inl none) (si_ a 9 v j z) := by
  refine Fn_of hI (by decide +kernel) (Nat.le_of_ble_eq_true rfl) ?_
  intro zp ze zs zm zb zt zc ls cx hr hlk hno hW hS hl
  replace cx : Cx_ zp zs zm zc _ cX4_move 4 "MarginHouse" w := cx
  replace hl : lv_has ls 4 [(0, .ref (ad_ w 0 0)), (1, .int (nI v)), (2, .int (nI j)), (3, .int z)] := hl
  obtain ⟨H, hH⟩ : ∃ H, zs.heap = H := ⟨_, rfl⟩
  rw [hH] at hW
  have hS : Fr_ w zs.heap H [] := by rw [← hH]; exact hS
  obtain ⟨locs, hlocs⟩ : ∃ x : List Loc, x = [] := ⟨_, rfl⟩
  rw [← hlocs] at hS ⊢
  rw [show W zp l ze _ zs zm _ zb zt zc zs.heap locs 0 0 _ (F0 zm 0 ls []) ↔ W zp l ze _ zs zm _ zb zt zc H locs 0 0 _ (F0 zm 0 ls []) from by rw [hH]]
  refine lv_iload_n cx.1 cx.2.1 dX4_move_0 rfl (lv_at hl 1 rfl) ?_
  refine lv_i2l (v := (nI v).toInt64) cx.1 cx.2.1 dX4_move_1 rfl ?_
  refine lv_lconst (v := 0) cx.1 cx.2.1 dX4_move_2 (by decide) ?_
  refine lv_ldc2 (own := "MarginHouse") (v := 7) cx.1 cx.2.1 cx.2.2.2.1 (cx.2.2.2.2.1 _ nw_169) dX4_move_3 ?_
  refine ck_S (v := some (.int (if wi_ ((nI v).toInt64) 0 7 then 1 else 0))) (As := [.long ((nI v).toInt64), .long 0, .long 7]) (rest := []) cx hW hS hl (c_X4_within l hI a ((nI v).toInt64) 0 7) cw_X4_within nw_120 nw_119 rfl rfl (Nat.le_of_ble_eq_true rfl) rfl rfl ⟨Nat.le_of_ble_eq_true rfl, Nat.le_of_ble_eq_true rfl⟩ ⟨Nat.le_of_ble_eq_true rfl, Nat.le_of_ble_eq_true rfl⟩ dX4_move_6 (fun H locs hW hS => ?_)
  refine W.eq (g2 := F0 zm 9 ls [.int (if wi_ ((nI v).toInt64) 0 7 then 1 else 0)]) rfl ?_
  refine lv_if_eq (tgt := 38) cx.1 cx.2.1 dX4_move_9 (by decide) (fun zz => absurd zz (bz_t (iw_in (z := 7) (by decide) (by omega) (by omega)))) (fun h9 => ?_)
  refine lv_aload_n cx.1 cx.2.1 dX4_move_12 rfl (lv_at hl 0 rfl) ?_
  refine lv_iload_n cx.1 cx.2.1 dX4_move_13 rfl (lv_at hl 2 rfl) ?_
  refine ck_V (v := some (.int (if wi_ (nI j).toInt64 0 (gi_ a 1 0 0 - 1).toInt64 then 1 else 0))) (As := [.int (nI j)]) (rest := []) (k := 0) (i := 0) (T := TX4) cx hW hS hl (by decide) rfl rfl (c_X4_isInstrument l hI a (nI j)) cw_X4_isInstrument nw_171 nw_522 nw_170 rfl rfl (Nat.le_of_ble_eq_true rfl) rfl rfl ⟨Nat.le_of_ble_eq_true rfl, Nat.le_of_ble_eq_true rfl⟩ ⟨Nat.le_of_ble_eq_true rfl, Nat.le_of_ble_eq_true rfl⟩ dX4_move_14 (fun H locs hW hS => ?_)
  refine W.eq (g2 := F0 zm 17 ls [.int (if wi_ (nI j).toInt64 0 (gi_ a 1 0 0 - 1).toInt64 then 1 else 0)]) rfl ?_
  refine lv_if_eq (tgt := 38) cx.1 cx.2.1 dX4_move_17 (by decide) (fun zz => absurd zz (bz_t (im_in hn (by omega) hj))) (fun h17 => ?_)
  refine lv_iload_n cx.1 cx.2.1 dX4_move_20 rfl (lv_at hl 3 rfl) ?_
  refine lv_i2l (v := z.toInt64) cx.1 cx.2.1 dX4_move_21 rfl ?_
  refine lv_ldc2 (own := "MarginHouse") (v := -1000000) cx.1 cx.2.1 cx.2.2.2.1 (cx.2.2.2.2.1 _ nw_173) dX4_move_22 ?_
  refine lv_ldc2 (own := "MarginHouse") (v := 1000000) cx.1 cx.2.1 cx.2.2.2.1 (cx.2.2.2.2.1 _ nw_148) dX4_move_25 ?_
  refine ck_S (v := some (.int (if wi_ z.toInt64 (-1000000) 1000000 then 1 else 0))) (As := [.long z.toInt64, .long (-1000000), .long 1000000]) (rest := []) cx hW hS hl (c_X4_within l hI a z.toInt64 (-1000000) 1000000) cw_X4_within nw_120 nw_119 rfl rfl (Nat.le_of_ble_eq_true rfl) rfl rfl ⟨Nat.le_of_ble_eq_true rfl, Nat.le_of_ble_eq_true rfl⟩ ⟨Nat.le_of_ble_eq_true rfl, Nat.le_of_ble_eq_true rfl⟩ dX4_move_28 (fun H locs hW hS => ?_)
  refine W.eq (g2 := F0 zm 31 ls [.int (if wi_ z.toInt64 (-1000000) 1000000 then 1 else 0)]) rfl ?_
  refine lv_if_eq (tgt := 38) cx.1 cx.2.1 dX4_move_31 (by decide) (fun zz => absurd zz (bz_t h)) (fun h31 => ?_)
  refine lv_iconst (v := 1) cx.1 cx.2.1 dX4_move_34 (by decide) ?_
  refine lv_goto (tgt := 39) cx.1 cx.2.1 dX4_move_35 (by decide) ?_
  refine ck_S (v := none) (As := [.int 1]) (rest := []) cx hW hS hl (c_X4_need_ok l hI a) cw_X4_need nw_123 nw_122 rfl rfl (Nat.le_of_ble_eq_true rfl) rfl rfl ⟨Nat.le_of_ble_eq_true rfl, Nat.le_of_ble_eq_true rfl⟩ ⟨Nat.le_of_ble_eq_true rfl, Nat.le_of_ble_eq_true rfl⟩ dX4_move_39 (fun H locs hW hS => ?_)
  refine W.eq (g2 := F0 zm 42 ls []) rfl ?_
  refine lv_aload_n cx.1 cx.2.1 dX4_move_42 rfl (lv_at hl 0 rfl) ?_
  refine gf_X4_23 cx hW (by decide) dX4_move_43 ?_
  refine lv_iload_n cx.1 cx.2.1 dX4_move_46 rfl (lv_at hl 1 rfl) ?_
  refine al_3 (j := v) cx hW (by decide) rfl (by omega) dX4_move_47 ?_
  refine lv_iload_n cx.1 cx.2.1 dX4_move_48 rfl (lv_at hl 2 rfl) ?_
  refine lv_iload_n cx.1 cx.2.1 dX4_move_49 rfl (lv_at hl 3 rfl) ?_
  refine as_10 (j := j) cx hW hS (by omega) rfl (by omega) dX4_move_50 (fun H locs hW hS => ?_)
  exact cr_v cx hr hlk hW hS (Nat.le_of_ble_eq_true rfl) (Nat.le_of_ble_eq_true rfl) dX4_move_51 rfl rfl
set_option maxHeartbeats 4000000 in
set_option maxRecDepth 100000 in
theorem c_X4_bid_ia (l : Launch) {w : Gh_} (hI : In_ w) (hst : l.stackTraces = false) (a : St_) (x y z : Int32) (h : ¬ (wi_ x.toInt64 0 (gi_ a 0 0 0 - 1).toInt64 ∧ wi_ y.toInt64 0 (gi_ a 1 0 0 - 1).toInt64 ∧ wi_ z.toInt64 0 1000000)) : Fn_ l w yX4_bid (.code yX4_bid cX4_bid 4 none) { frames := 7, cells := 1, slots := 6, locals := 110 } 1 6 [.ref (ad_ w 0 0), .int x, .int y, .int z] a (.inr IA_) a := by
  refine Fn_of hI (by decide +kernel) (Nat.le_of_ble_eq_true rfl) ?_
  intro zp ze zs zm zb zt zc ls cx hr hlk hno hW hS hl
  replace cx : Cx_ zp zs zm zc _ cX4_bid 4 "MarginHouse" w := cx
  replace hl : lv_has ls 4 [(0, .ref (ad_ w 0 0)), (1, .int x), (2, .int y), (3, .int z)] := hl
  obtain ⟨H, hH⟩ : ∃ H, zs.heap = H := ⟨_, rfl⟩
  rw [hH] at hW
  have hS : Fr_ w zs.heap H [] := by rw [← hH]; exact hS
  obtain ⟨locs, hlocs⟩ : ∃ x : List Loc, x = [] := ⟨_, rfl⟩
  rw [← hlocs] at hS ⊢
  rw [show W zp l ze _ zs zm _ zb zt zc zs.heap locs 0 0 _ (F0 zm 0 ls []) ↔ W zp l ze _ zs zm _ zb zt zc H locs 0 0 _ (F0 zm 0 ls []) from by rw [hH]]
  refine lv_aload_n cx.1 cx.2.1 dX4_bid_0 rfl (lv_at hl 0 rfl) ?_
  refine lv_iload_n cx.1 cx.2.1 dX4_bid_1 rfl (lv_at hl 1 rfl) ?_
  refine ck_V (v := some (.int (if wi_ x.toInt64 0 (gi_ a 0 0 0 - 1).toInt64 then 1 else 0))) (As := [.int x]) (rest := []) (k := 0) (i := 0) (T := TX4) cx hW hS hl (by decide) rfl rfl (c_X4_isMember l hI a x) cw_X4_isMember nw_182 nw_523 nw_181 rfl rfl (Nat.le_of_ble_eq_true rfl) rfl rfl ⟨Nat.le_of_ble_eq_true rfl, Nat.le_of_ble_eq_true rfl⟩ ⟨Nat.le_of_ble_eq_true rfl, Nat.le_of_ble_eq_true rfl⟩ dX4_bid_2 (fun H locs hW hS => ?_)
  refine W.eq (g2 := F0 zm 5 ls [.int (if wi_ x.toInt64 0 (gi_ a 0 0 0 - 1).toInt64 then 1 else 0)]) rfl ?_
  refine lv_if_eq (tgt := 32) cx.1 cx.2.1 dX4_bid_5 (by decide) (fun h5 => ?_) (fun h5 => ?_)
  · skip
    have h5 := bz_0 h5
    refine lv_iconst (v := 0) cx.1 cx.2.1 dX4_bid_32 (by decide) ?_
    exact ct_S (As := [.int 0]) (rest := []) cx hlk hno hW hS hl (c_X4_need_bad l hI hst a) cw_X4_need nw_123 nw_122 rfl rfl (Nat.le_of_ble_eq_true rfl) rfl rfl ⟨Nat.le_of_ble_eq_true rfl, Nat.le_of_ble_eq_true rfl⟩ ⟨Nat.le_of_ble_eq_true rfl, Nat.le_of_ble_eq_true rfl⟩ dX4_bid_33 (Nat.le_of_ble_eq_true rfl) (Nat.le_of_ble_eq_true rfl) rfl rfl
  · skip
    have h5 := bz_1 h5
    refine lv_aload_n cx.1 cx.2.1 dX4_bid_8 rfl (lv_at hl 0 rfl) ?_
    refine lv_iload_n cx.1 cx.2.1 dX4_bid_9 rfl (lv_at hl 2 rfl) ?_
    refine ck_V (v := some (.int (if wi_ y.toInt64 0 (gi_ a 1 0 0 - 1).toInt64 then 1 else 0))) (As := [.int y]) (rest := []) (k := 0) (i := 0) (T := TX4) cx hW hS hl (by decide) rfl rfl (c_X4_isInstrument l hI a y) cw_X4_isInstrument nw_171 nw_522 nw_170 rfl rfl (Nat.le_of_ble_eq_true rfl) rfl rfl ⟨Nat.le_of_ble_eq_true rfl, Nat.le_of_ble_eq_true rfl⟩ ⟨Nat.le_of_ble_eq_true rfl, Nat.le_of_ble_eq_true rfl⟩ dX4_bid_10 (fun H locs hW hS => ?_)
    refine W.eq (g2 := F0 zm 13 ls [.int (if wi_ y.toInt64 0 (gi_ a 1 0 0 - 1).toInt64 then 1 else 0)]) rfl ?_
    refine lv_if_eq (tgt := 32) cx.1 cx.2.1 dX4_bid_13 (by decide) (fun h13 => ?_) (fun h13 => ?_)
    · skip
      have h13 := bz_0 h13
      refine lv_iconst (v := 0) cx.1 cx.2.1 dX4_bid_32 (by decide) ?_
      exact ct_S (As := [.int 0]) (rest := []) cx hlk hno hW hS hl (c_X4_need_bad l hI hst a) cw_X4_need nw_123 nw_122 rfl rfl (Nat.le_of_ble_eq_true rfl) rfl rfl ⟨Nat.le_of_ble_eq_true rfl, Nat.le_of_ble_eq_true rfl⟩ ⟨Nat.le_of_ble_eq_true rfl, Nat.le_of_ble_eq_true rfl⟩ dX4_bid_33 (Nat.le_of_ble_eq_true rfl) (Nat.le_of_ble_eq_true rfl) rfl rfl
    · skip
      have h13 := bz_1 h13
      refine lv_iload_n cx.1 cx.2.1 dX4_bid_16 rfl (lv_at hl 3 rfl) ?_
      refine lv_i2l (v := z.toInt64) cx.1 cx.2.1 dX4_bid_17 rfl ?_
      refine lv_lconst (v := 0) cx.1 cx.2.1 dX4_bid_18 (by decide) ?_
      refine lv_ldc2 (own := "MarginHouse") (v := 1000000) cx.1 cx.2.1 cx.2.2.2.1 (cx.2.2.2.2.1 _ nw_148) dX4_bid_19 ?_
      refine ck_S (v := some (.int (if wi_ z.toInt64 0 1000000 then 1 else 0))) (As := [.long z.toInt64, .long 0, .long 1000000]) (rest := []) cx hW hS hl (c_X4_within l hI a z.toInt64 0 1000000) cw_X4_within nw_120 nw_119 rfl rfl (Nat.le_of_ble_eq_true rfl) rfl rfl ⟨Nat.le_of_ble_eq_true rfl, Nat.le_of_ble_eq_true rfl⟩ ⟨Nat.le_of_ble_eq_true rfl, Nat.le_of_ble_eq_true rfl⟩ dX4_bid_22 (fun H locs hW hS => ?_)
      refine W.eq (g2 := F0 zm 25 ls [.int (if wi_ z.toInt64 0 1000000 then 1 else 0)]) rfl ?_
      refine lv_if_eq (tgt := 32) cx.1 cx.2.1 dX4_bid_25 (by decide) (fun h25 => ?_) (fun h25 => ?_)
      · skip
        have h25 := bz_0 h25
        refine lv_iconst (v := 0) cx.1 cx.2.1 dX4_bid_32 (by decide) ?_
        exact ct_S (As := [.int 0]) (rest := []) cx hlk hno hW hS hl (c_X4_need_bad l hI hst a) cw_X4_need nw_123 nw_122 rfl rfl (Nat.le_of_ble_eq_true rfl) rfl rfl ⟨Nat.le_of_ble_eq_true rfl, Nat.le_of_ble_eq_true rfl⟩ ⟨Nat.le_of_ble_eq_true rfl, Nat.le_of_ble_eq_true rfl⟩ dX4_bid_33 (Nat.le_of_ble_eq_true rfl) (Nat.le_of_ble_eq_true rfl) rfl rfl
      · skip
        have h25 := bz_1 h25
        exact absurd ⟨h5, h13, h25⟩ h
set_option maxHeartbeats 4000000 in
set_option maxRecDepth 100000 in
theorem c_X4_bid_ok (l : Launch) {w : Gh_} (hI : In_ w) (hst : l.stackTraces = false) (a : St_) (k : Nat) (hk : gi_ a 0 0 0 = nI k) (hk8 : k ≤ 8) (n : Nat) (hn : gi_ a 1 0 0 = nI n) (hn6 : n ≤ 6) (m j : Nat) (hm : m < k) (hj : j < n) (z : Int32) (h : wi_ z.toInt64 0 1000000) : Fn_ l w yX4_bid (.code yX4_bid cX4_bid 4 none) { frames := 7, cells := 1, slots := 6, locals := 110 } 1 6 [.ref (ad_ w 0 0), .int (nI m), .int (nI j), .int z] a (.inl none) (si_ a 5 m j z) := by
  refine Fn_of hI (by decide +kernel) (Nat.le_of_ble_eq_true rfl) ?_
  intro zp ze zs zm zb zt zc ls cx hr hlk hno hW hS hl
  replace cx : Cx_ zp zs zm zc _ cX4_bid 4 "MarginHouse" w := cx
  replace hl : lv_has ls 4 [(0, .ref (ad_ w 0 0)), (1, .int (nI m)), (2, .int (nI j)), (3, .int z)] := hl
  obtain ⟨H, hH⟩ : ∃ H, zs.heap = H := ⟨_, rfl⟩
  rw [hH] at hW
  have hS : Fr_ w zs.heap H [] := by rw [← hH]; exact hS
  obtain ⟨locs, hlocs⟩ : ∃ x : List Loc, x = [] := ⟨_, rfl⟩
  rw [← hlocs] at hS ⊢
  rw [show W zp l ze _ zs zm _ zb zt zc zs.heap locs 0 0 _ (F0 zm 0 ls []) ↔ W zp l ze _ zs zm _ zb zt zc H locs 0 0 _ (F0 zm 0 ls []) from by rw [hH]]
  refine lv_aload_n cx.1 cx.2.1 dX4_bid_0 rfl (lv_at hl 0 rfl) ?_
  refine lv_iload_n cx.1 cx.2.1 dX4_bid_1 rfl (lv_at hl 1 rfl) ?_
  refine ck_V (v := some (.int (if wi_ (nI m).toInt64 0 (gi_ a 0 0 0 - 1).toInt64 then 1 else 0))) (As := [.int (nI m)]) (rest := []) (k := 0) (i := 0) (T := TX4) cx hW hS hl (by decide) rfl rfl (c_X4_isMember l hI a (nI m)) cw_X4_isMember nw_182 nw_523 nw_181 rfl rfl (Nat.le_of_ble_eq_true rfl) rfl rfl ⟨Nat.le_of_ble_eq_true rfl, Nat.le_of_ble_eq_true rfl⟩ ⟨Nat.le_of_ble_eq_true rfl, Nat.le_of_ble_eq_true rfl⟩ dX4_bid_2 (fun H locs hW hS => ?_)
  refine W.eq (g2 := F0 zm 5 ls [.int (if wi_ (nI m).toInt64 0 (gi_ a 0 0 0 - 1).toInt64 then 1 else 0)]) rfl ?_
  refine lv_if_eq (tgt := 32) cx.1 cx.2.1 dX4_bid_5 (by decide) (fun zz => absurd zz (bz_t (im_in hk (by omega) hm))) (fun h5 => ?_)
  refine lv_aload_n cx.1 cx.2.1 dX4_bid_8 rfl (lv_at hl 0 rfl) ?_
  refine lv_iload_n cx.1 cx.2.1 dX4_bid_9 rfl (lv_at hl 2 rfl) ?_
  refine ck_V (v := some (.int (if wi_ (nI j).toInt64 0 (gi_ a 1 0 0 - 1).toInt64 then 1 else 0))) (As := [.int (nI j)]) (rest := []) (k := 0) (i := 0) (T := TX4) cx hW hS hl (by decide) rfl rfl (c_X4_isInstrument l hI a (nI j)) cw_X4_isInstrument nw_171 nw_522 nw_170 rfl rfl (Nat.le_of_ble_eq_true rfl) rfl rfl ⟨Nat.le_of_ble_eq_true rfl, Nat.le_of_ble_eq_true rfl⟩ ⟨Nat.le_of_ble_eq_true rfl, Nat.le_of_ble_eq_true rfl⟩ dX4_bid_10 (fun H locs hW hS => ?_)
  refine W.eq (g2 := F0 zm 13 ls [.int (if wi_ (nI j).toInt64 0 (gi_ a 1 0 0 - 1).toInt64 then 1 else 0)]) rfl ?_
  refine lv_if_eq (tgt := 32) cx.1 cx.2.1 dX4_bid_13 (by decide) (fun zz => absurd zz (bz_t (im_in hn (by omega) hj))) (fun h13 => ?_)
  refine lv_iload_n cx.1 cx.2.1 dX4_bid_16 rfl (lv_at hl 3 rfl) ?_
  refine lv_i2l (v := z.toInt64) cx.1 cx.2.1 dX4_bid_17 rfl ?_
  refine lv_lconst (v := 0) cx.1 cx.2.1 dX4_bid_18 (by decide) ?_
  refine lv_ldc2 (own := "MarginHouse") (v := 1000000) cx.1 cx.2.1 cx.2.2.2.1 (cx.2.2.2.2.1 _ nw_148) dX4_bid_19 ?_
  refine ck_S (v := some (.int (if wi_ z.toInt64 0 1000000 then 1 else 0))) (As := [.long z.toInt64, .long 0, .long 1000000]) (rest := []) cx hW hS hl (c_X4_within l hI a z.toInt64 0 1000000) cw_X4_within nw_120 nw_119 rfl rfl (Nat.le_of_ble_eq_true rfl) rfl rfl ⟨Nat.le_of_ble_eq_true rfl, Nat.le_of_ble_eq_true rfl⟩ ⟨Nat.le_of_ble_eq_true rfl, Nat.le_of_ble_eq_true rfl⟩ dX4_bid_22 (fun H locs hW hS => ?_)
  refine W.eq (g2 := F0 zm 25 ls [.int (if wi_ z.toInt64 0 1000000 then 1 else 0)]) rfl ?_
  refine lv_if_eq (tgt := 32) cx.1 cx.2.1 dX4_bid_25 (by decide) (fun zz => absurd zz (bz_t h)) (fun h25 => ?_)
  refine lv_iconst (v := 1) cx.1 cx.2.1 dX4_bid_28 (by decide) ?_
  refine lv_goto (tgt := 33) cx.1 cx.2.1 dX4_bid_29 (by decide) ?_
  refine ck_S (v := none) (As := [.int 1]) (rest := []) cx hW hS hl (c_X4_need_ok l hI a) cw_X4_need nw_123 nw_122 rfl rfl (Nat.le_of_ble_eq_true rfl) rfl rfl ⟨Nat.le_of_ble_eq_true rfl, Nat.le_of_ble_eq_true rfl⟩ ⟨Nat.le_of_ble_eq_true rfl, Nat.le_of_ble_eq_true rfl⟩ dX4_bid_33 (fun H locs hW hS => ?_)
  refine W.eq (g2 := F0 zm 36 ls []) rfl ?_
  refine lv_aload_n cx.1 cx.2.1 dX4_bid_36 rfl (lv_at hl 0 rfl) ?_
  refine gf_X4_11 cx hW (by decide) dX4_bid_37 ?_
  refine lv_iload_n cx.1 cx.2.1 dX4_bid_40 rfl (lv_at hl 1 rfl) ?_
  refine al_1 (j := m) cx hW (by decide) rfl (by omega) dX4_bid_41 ?_
  refine gf_X4_97 cx hW (by omega) dX4_bid_42 ?_
  refine lv_iload_n cx.1 cx.2.1 dX4_bid_45 rfl (lv_at hl 2 rfl) ?_
  refine lv_iload_n cx.1 cx.2.1 dX4_bid_46 rfl (lv_at hl 3 rfl) ?_
  refine as_8 (j := j) cx hW hS (by omega) rfl (by omega) dX4_bid_47 (fun H locs hW hS => ?_)
  exact cr_v cx hr hlk hW hS (Nat.le_of_ble_eq_true rfl) (Nat.le_of_ble_eq_true rfl) dX4_bid_48 rfl rfl
set_option maxHeartbeats 4000000 in
set_option maxRecDepth 100000 in
theorem c_X4_deposit_ia (l : Launch) {w : Gh_} (hI : In_ w) (hst : l.stackTraces = false) (a : St_) (x : Int32) (y : Int64) (h : ¬ (wi_ x.toInt64 0 (gi_ a 0 0 0 - 1).toInt64 ∧ wi_ y 1 1000000000000)) : Fn_ l w yX4_deposit (.code yX4_deposit cX4_deposit 5 (some .long)) { frames := 7, cells := 1, slots := 6, locals := 111 } 1 6 [.ref (ad_ w 0 0), .int x, .long y] a (.inr IA_) a := by
  refine Fn_of hI (by decide +kernel) (Nat.le_of_ble_eq_true rfl) ?_
  intro zp ze zs zm zb zt zc ls cx hr hlk hno hW hS hl
  replace cx : Cx_ zp zs zm zc _ cX4_deposit 5 "MarginHouse" w := cx
  replace hl : lv_has ls 5 [(0, .ref (ad_ w 0 0)), (1, .int x), (2, .long y)] := hl
  obtain ⟨H, hH⟩ : ∃ H, zs.heap = H := ⟨_, rfl⟩
  rw [hH] at hW
  have hS : Fr_ w zs.heap H [] := by rw [← hH]; exact hS
  obtain ⟨locs, hlocs⟩ : ∃ x : List Loc, x = [] := ⟨_, rfl⟩
  rw [← hlocs] at hS ⊢
  rw [show W zp l ze _ zs zm _ zb zt zc zs.heap locs 0 0 _ (F0 zm 0 ls []) ↔ W zp l ze _ zs zm _ zb zt zc H locs 0 0 _ (F0 zm 0 ls []) from by rw [hH]]
  refine lv_aload_n cx.1 cx.2.1 dX4_deposit_0 rfl (lv_at hl 0 rfl) ?_
  refine lv_iload_n cx.1 cx.2.1 dX4_deposit_1 rfl (lv_at hl 1 rfl) ?_
  refine ck_V (v := some (.int (if wi_ x.toInt64 0 (gi_ a 0 0 0 - 1).toInt64 then 1 else 0))) (As := [.int x]) (rest := []) (k := 0) (i := 0) (T := TX4) cx hW hS hl (by decide) rfl rfl (c_X4_isMember l hI a x) cw_X4_isMember nw_182 nw_523 nw_181 rfl rfl (Nat.le_of_ble_eq_true rfl) rfl rfl ⟨Nat.le_of_ble_eq_true rfl, Nat.le_of_ble_eq_true rfl⟩ ⟨Nat.le_of_ble_eq_true rfl, Nat.le_of_ble_eq_true rfl⟩ dX4_deposit_2 (fun H locs hW hS => ?_)
  refine W.eq (g2 := F0 zm 5 ls [.int (if wi_ x.toInt64 0 (gi_ a 0 0 0 - 1).toInt64 then 1 else 0)]) rfl ?_
  refine lv_if_eq (tgt := 23) cx.1 cx.2.1 dX4_deposit_5 (by decide) (fun h5 => ?_) (fun h5 => ?_)
  · skip
    have h5 := bz_0 h5
    refine lv_iconst (v := 0) cx.1 cx.2.1 dX4_deposit_23 (by decide) ?_
    exact ct_S (As := [.int 0]) (rest := []) cx hlk hno hW hS hl (c_X4_need_bad l hI hst a) cw_X4_need nw_123 nw_122 rfl rfl (Nat.le_of_ble_eq_true rfl) rfl rfl ⟨Nat.le_of_ble_eq_true rfl, Nat.le_of_ble_eq_true rfl⟩ ⟨Nat.le_of_ble_eq_true rfl, Nat.le_of_ble_eq_true rfl⟩ dX4_deposit_24 (Nat.le_of_ble_eq_true rfl) (Nat.le_of_ble_eq_true rfl) rfl rfl
  · skip
    have h5 := bz_1 h5
    refine lv_lload_n cx.1 cx.2.1 dX4_deposit_8 rfl (lv_at hl 2 rfl) ?_
    refine lv_lconst (v := 1) cx.1 cx.2.1 dX4_deposit_9 (by decide) ?_
    refine lv_ldc2 (own := "MarginHouse") (v := 1000000000000) cx.1 cx.2.1 cx.2.2.2.1 (cx.2.2.2.2.1 _ nw_118) dX4_deposit_10 ?_
    refine ck_S (v := some (.int (if wi_ y 1 1000000000000 then 1 else 0))) (As := [.long y, .long 1, .long 1000000000000]) (rest := []) cx hW hS hl (c_X4_within l hI a y 1 1000000000000) cw_X4_within nw_120 nw_119 rfl rfl (Nat.le_of_ble_eq_true rfl) rfl rfl ⟨Nat.le_of_ble_eq_true rfl, Nat.le_of_ble_eq_true rfl⟩ ⟨Nat.le_of_ble_eq_true rfl, Nat.le_of_ble_eq_true rfl⟩ dX4_deposit_13 (fun H locs hW hS => ?_)
    refine W.eq (g2 := F0 zm 16 ls [.int (if wi_ y 1 1000000000000 then 1 else 0)]) rfl ?_
    refine lv_if_eq (tgt := 23) cx.1 cx.2.1 dX4_deposit_16 (by decide) (fun h16 => ?_) (fun h16 => ?_)
    · skip
      have h16 := bz_0 h16
      refine lv_iconst (v := 0) cx.1 cx.2.1 dX4_deposit_23 (by decide) ?_
      exact ct_S (As := [.int 0]) (rest := []) cx hlk hno hW hS hl (c_X4_need_bad l hI hst a) cw_X4_need nw_123 nw_122 rfl rfl (Nat.le_of_ble_eq_true rfl) rfl rfl ⟨Nat.le_of_ble_eq_true rfl, Nat.le_of_ble_eq_true rfl⟩ ⟨Nat.le_of_ble_eq_true rfl, Nat.le_of_ble_eq_true rfl⟩ dX4_deposit_24 (Nat.le_of_ble_eq_true rfl) (Nat.le_of_ble_eq_true rfl) rfl rfl
    · skip
      have h16 := bz_1 h16
      exact absurd ⟨h5, h16⟩ h
set_option maxHeartbeats 4000000 in
set_option maxRecDepth 100000 in
theorem c_X4_deposit_is (l : Launch) {w : Gh_} (hI : In_ w) (hst : l.stackTraces = false) (a : St_) (k : Nat) (hk : gi_ a 0 0 0 = nI k) (hk8 : k ≤ 8) (m : Nat) (hm : m < k) (y : Int64) (h : wi_ y 1 1000000000000) (hs : ¬ gi_ a 3 m 0 = 0) : Fn_ l w yX4_deposit (.code yX4_deposit cX4_deposit 5 (some .long)) { frames := 7, cells := 1, slots := 6, locals := 111 } 1 6 [.ref (ad_ w 0 0), .int (nI m), .long y] a (.inr IS_) a := by
  refine Fn_of hI (by decide +kernel) (Nat.le_of_ble_eq_true rfl) ?_
  intro zp ze zs zm zb zt zc ls cx hr hlk hno hW hS hl
  replace cx : Cx_ zp zs zm zc _ cX4_deposit 5 "MarginHouse" w := cx
  replace hl : lv_has ls 5 [(0, .ref (ad_ w 0 0)), (1, .int (nI m)), (2, .long y)] := hl
  obtain ⟨H, hH⟩ : ∃ H, zs.heap = H := ⟨_, rfl⟩
  rw [hH] at hW
  have hS : Fr_ w zs.heap H [] := by rw [← hH]; exact hS
  obtain ⟨locs, hlocs⟩ : ∃ x : List Loc, x = [] := ⟨_, rfl⟩
  rw [← hlocs] at hS ⊢
  rw [show W zp l ze _ zs zm _ zb zt zc zs.heap locs 0 0 _ (F0 zm 0 ls []) ↔ W zp l ze _ zs zm _ zb zt zc H locs 0 0 _ (F0 zm 0 ls []) from by rw [hH]]
  refine lv_aload_n cx.1 cx.2.1 dX4_deposit_0 rfl (lv_at hl 0 rfl) ?_
  refine lv_iload_n cx.1 cx.2.1 dX4_deposit_1 rfl (lv_at hl 1 rfl) ?_
  refine ck_V (v := some (.int (if wi_ (nI m).toInt64 0 (gi_ a 0 0 0 - 1).toInt64 then 1 else 0))) (As := [.int (nI m)]) (rest := []) (k := 0) (i := 0) (T := TX4) cx hW hS hl (by decide) rfl rfl (c_X4_isMember l hI a (nI m)) cw_X4_isMember nw_182 nw_523 nw_181 rfl rfl (Nat.le_of_ble_eq_true rfl) rfl rfl ⟨Nat.le_of_ble_eq_true rfl, Nat.le_of_ble_eq_true rfl⟩ ⟨Nat.le_of_ble_eq_true rfl, Nat.le_of_ble_eq_true rfl⟩ dX4_deposit_2 (fun H locs hW hS => ?_)
  refine W.eq (g2 := F0 zm 5 ls [.int (if wi_ (nI m).toInt64 0 (gi_ a 0 0 0 - 1).toInt64 then 1 else 0)]) rfl ?_
  refine lv_if_eq (tgt := 23) cx.1 cx.2.1 dX4_deposit_5 (by decide) (fun zz => absurd zz (bz_t (im_in hk (by omega) hm))) (fun h5 => ?_)
  refine lv_lload_n cx.1 cx.2.1 dX4_deposit_8 rfl (lv_at hl 2 rfl) ?_
  refine lv_lconst (v := 1) cx.1 cx.2.1 dX4_deposit_9 (by decide) ?_
  refine lv_ldc2 (own := "MarginHouse") (v := 1000000000000) cx.1 cx.2.1 cx.2.2.2.1 (cx.2.2.2.2.1 _ nw_118) dX4_deposit_10 ?_
  refine ck_S (v := some (.int (if wi_ y 1 1000000000000 then 1 else 0))) (As := [.long y, .long 1, .long 1000000000000]) (rest := []) cx hW hS hl (c_X4_within l hI a y 1 1000000000000) cw_X4_within nw_120 nw_119 rfl rfl (Nat.le_of_ble_eq_true rfl) rfl rfl ⟨Nat.le_of_ble_eq_true rfl, Nat.le_of_ble_eq_true rfl⟩ ⟨Nat.le_of_ble_eq_true rfl, Nat.le_of_ble_eq_true rfl⟩ dX4_deposit_13 (fun H locs hW hS => ?_)
  refine W.eq (g2 := F0 zm 16 ls [.int (if wi_ y 1 1000000000000 then 1 else 0)]) rfl ?_
  refine lv_if_eq (tgt := 23) cx.1 cx.2.1 dX4_deposit_16 (by decide) (fun zz => absurd zz (bz_t h)) (fun h16 => ?_)
  refine lv_iconst (v := 1) cx.1 cx.2.1 dX4_deposit_19 (by decide) ?_
  refine lv_goto (tgt := 24) cx.1 cx.2.1 dX4_deposit_20 (by decide) ?_
  refine ck_S (v := none) (As := [.int 1]) (rest := []) cx hW hS hl (c_X4_need_ok l hI a) cw_X4_need nw_123 nw_122 rfl rfl (Nat.le_of_ble_eq_true rfl) rfl rfl ⟨Nat.le_of_ble_eq_true rfl, Nat.le_of_ble_eq_true rfl⟩ ⟨Nat.le_of_ble_eq_true rfl, Nat.le_of_ble_eq_true rfl⟩ dX4_deposit_24 (fun H locs hW hS => ?_)
  refine W.eq (g2 := F0 zm 27 ls []) rfl ?_
  refine lv_aload_n cx.1 cx.2.1 dX4_deposit_27 rfl (lv_at hl 0 rfl) ?_
  refine gf_X4_11 cx hW (by decide) dX4_deposit_28 ?_
  refine lv_iload_n cx.1 cx.2.1 dX4_deposit_31 rfl (lv_at hl 1 rfl) ?_
  refine al_1 (j := m) cx hW (by decide) rfl (by omega) dX4_deposit_32 ?_
  refine lv_astore (lv' := [(4, .ref (ad_ w 6 m)), (0, .ref (ad_ w 0 0)), (1, .int (nI m)), (2, .long y)]) cx.1 cx.2.1 dX4_deposit_33 hl (by decide) rfl (fun ls hl => ?_)
  refine lv_aload cx.1 cx.2.1 dX4_deposit_35 (lv_at hl 0 rfl) ?_
  refine lv_iconst (v := 0) cx.1 cx.2.1 dX4_deposit_37 (by decide) ?_
  exact ct_S (As := [.ref (ad_ w 6 m), .int 0]) (rest := []) cx hlk hno hW hS hl (c_X4_needStanding_bad l hI hst a m (by omega) 0 hs) cw_X4_needStanding nw_193 nw_192 rfl rfl (Nat.le_of_ble_eq_true rfl) rfl rfl ⟨Nat.le_of_ble_eq_true rfl, Nat.le_of_ble_eq_true rfl⟩ ⟨Nat.le_of_ble_eq_true rfl, Nat.le_of_ble_eq_true rfl⟩ dX4_deposit_38 (Nat.le_of_ble_eq_true rfl) (Nat.le_of_ble_eq_true rfl) rfl rfl
set_option maxHeartbeats 4000000 in
set_option maxRecDepth 100000 in
theorem c_X4_deposit_none (l : Launch) {w : Gh_} (hI : In_ w) (hst : l.stackTraces = false) (a : St_) (k : Nat) (hk : gi_ a 0 0 0 = nI k) (hk8 : k ≤ 8) (m : Nat) (hm : m < k) (y : Int64) (h : wi_ y 1 1000000000000) (hs : gi_ a 3 m 0 = 0) (h2 : ¬ tm_ (gl_ a 2 m 0 + y)) : Fn_ l w yX4_deposit (.code yX4_deposit cX4_deposit 5 (some .long)) { frames := 7, cells := 1, slots := 6, locals := 111 } 1 6 [.ref (ad_ w 0 0), .int (nI m), .long y] a (.inl (some (.long (-1)))) a := by
  refine Fn_of hI (by decide +kernel) (Nat.le_of_ble_eq_true rfl) ?_
  intro zp ze zs zm zb zt zc ls cx hr hlk hno hW hS hl
  replace cx : Cx_ zp zs zm zc _ cX4_deposit 5 "MarginHouse" w := cx
  replace hl : lv_has ls 5 [(0, .ref (ad_ w 0 0)), (1, .int (nI m)), (2, .long y)] := hl
  obtain ⟨H, hH⟩ : ∃ H, zs.heap = H := ⟨_, rfl⟩
  rw [hH] at hW
  have hS : Fr_ w zs.heap H [] := by rw [← hH]; exact hS
  obtain ⟨locs, hlocs⟩ : ∃ x : List Loc, x = [] := ⟨_, rfl⟩
  rw [← hlocs] at hS ⊢
  rw [show W zp l ze _ zs zm _ zb zt zc zs.heap locs 0 0 _ (F0 zm 0 ls []) ↔ W zp l ze _ zs zm _ zb zt zc H locs 0 0 _ (F0 zm 0 ls []) from by rw [hH]]
  refine lv_aload_n cx.1 cx.2.1 dX4_deposit_0 rfl (lv_at hl 0 rfl) ?_
  refine lv_iload_n cx.1 cx.2.1 dX4_deposit_1 rfl (lv_at hl 1 rfl) ?_
  refine ck_V (v := some (.int (if wi_ (nI m).toInt64 0 (gi_ a 0 0 0 - 1).toInt64 then 1 else 0))) (As := [.int (nI m)]) (rest := []) (k := 0) (i := 0) (T := TX4) cx hW hS hl (by decide) rfl rfl (c_X4_isMember l hI a (nI m)) cw_X4_isMember nw_182 nw_523 nw_181 rfl rfl (Nat.le_of_ble_eq_true rfl) rfl rfl ⟨Nat.le_of_ble_eq_true rfl, Nat.le_of_ble_eq_true rfl⟩ ⟨Nat.le_of_ble_eq_true rfl, Nat.le_of_ble_eq_true rfl⟩ dX4_deposit_2 (fun H locs hW hS => ?_)
  refine W.eq (g2 := F0 zm 5 ls [.int (if wi_ (nI m).toInt64 0 (gi_ a 0 0 0 - 1).toInt64 then 1 else 0)]) rfl ?_
  refine lv_if_eq (tgt := 23) cx.1 cx.2.1 dX4_deposit_5 (by decide) (fun zz => absurd zz (bz_t (im_in hk (by omega) hm))) (fun h5 => ?_)
  refine lv_lload_n cx.1 cx.2.1 dX4_deposit_8 rfl (lv_at hl 2 rfl) ?_
  refine lv_lconst (v := 1) cx.1 cx.2.1 dX4_deposit_9 (by decide) ?_
  refine lv_ldc2 (own := "MarginHouse") (v := 1000000000000) cx.1 cx.2.1 cx.2.2.2.1 (cx.2.2.2.2.1 _ nw_118) dX4_deposit_10 ?_
  refine ck_S (v := some (.int (if wi_ y 1 1000000000000 then 1 else 0))) (As := [.long y, .long 1, .long 1000000000000]) (rest := []) cx hW hS hl (c_X4_within l hI a y 1 1000000000000) cw_X4_within nw_120 nw_119 rfl rfl (Nat.le_of_ble_eq_true rfl) rfl rfl ⟨Nat.le_of_ble_eq_true rfl, Nat.le_of_ble_eq_true rfl⟩ ⟨Nat.le_of_ble_eq_true rfl, Nat.le_of_ble_eq_true rfl⟩ dX4_deposit_13 (fun H locs hW hS => ?_)
  refine W.eq (g2 := F0 zm 16 ls [.int (if wi_ y 1 1000000000000 then 1 else 0)]) rfl ?_
  refine lv_if_eq (tgt := 23) cx.1 cx.2.1 dX4_deposit_16 (by decide) (fun zz => absurd zz (bz_t h)) (fun h16 => ?_)
  refine lv_iconst (v := 1) cx.1 cx.2.1 dX4_deposit_19 (by decide) ?_
  refine lv_goto (tgt := 24) cx.1 cx.2.1 dX4_deposit_20 (by decide) ?_
  refine ck_S (v := none) (As := [.int 1]) (rest := []) cx hW hS hl (c_X4_need_ok l hI a) cw_X4_need nw_123 nw_122 rfl rfl (Nat.le_of_ble_eq_true rfl) rfl rfl ⟨Nat.le_of_ble_eq_true rfl, Nat.le_of_ble_eq_true rfl⟩ ⟨Nat.le_of_ble_eq_true rfl, Nat.le_of_ble_eq_true rfl⟩ dX4_deposit_24 (fun H locs hW hS => ?_)
  refine W.eq (g2 := F0 zm 27 ls []) rfl ?_
  refine lv_aload_n cx.1 cx.2.1 dX4_deposit_27 rfl (lv_at hl 0 rfl) ?_
  refine gf_X4_11 cx hW (by decide) dX4_deposit_28 ?_
  refine lv_iload_n cx.1 cx.2.1 dX4_deposit_31 rfl (lv_at hl 1 rfl) ?_
  refine al_1 (j := m) cx hW (by decide) rfl (by omega) dX4_deposit_32 ?_
  refine lv_astore (lv' := [(4, .ref (ad_ w 6 m)), (0, .ref (ad_ w 0 0)), (1, .int (nI m)), (2, .long y)]) cx.1 cx.2.1 dX4_deposit_33 hl (by decide) rfl (fun ls hl => ?_)
  refine lv_aload cx.1 cx.2.1 dX4_deposit_35 (lv_at hl 0 rfl) ?_
  refine lv_iconst (v := 0) cx.1 cx.2.1 dX4_deposit_37 (by decide) ?_
  refine ck_S (v := none) (As := [.ref (ad_ w 6 m), .int 0]) (rest := []) cx hW hS hl (c_X4_needStanding_ok l hI a m (by omega) 0 hs) cw_X4_needStanding nw_193 nw_192 rfl rfl (Nat.le_of_ble_eq_true rfl) rfl rfl ⟨Nat.le_of_ble_eq_true rfl, Nat.le_of_ble_eq_true rfl⟩ ⟨Nat.le_of_ble_eq_true rfl, Nat.le_of_ble_eq_true rfl⟩ dX4_deposit_38 (fun H locs hW hS => ?_)
  refine W.eq (g2 := F0 zm 41 ls []) rfl ?_
  refine lv_aload cx.1 cx.2.1 dX4_deposit_41 (lv_at hl 0 rfl) ?_
  refine gf_X4_105 cx hW (by omega) dX4_deposit_43 ?_
  refine lv_lload_n cx.1 cx.2.1 dX4_deposit_46 rfl (lv_at hl 3 rfl) ?_
  refine lv_ladd cx.1 cx.2.1 dX4_deposit_47 ?_
  refine ck_S (v := some (.int (if ¬ wi_ ((gl_ a 2 m 0) + y) (-1000000000000000) 1000000000000000 then 1 else 0))) (As := [.long ((gl_ a 2 m 0) + y)]) (rest := []) cx hW hS hl (c_X4_isTooMuch l hI a ((gl_ a 2 m 0) + y)) cw_X4_isTooMuch nw_157 nw_156 rfl rfl (Nat.le_of_ble_eq_true rfl) rfl rfl ⟨Nat.le_of_ble_eq_true rfl, Nat.le_of_ble_eq_true rfl⟩ ⟨Nat.le_of_ble_eq_true rfl, Nat.le_of_ble_eq_true rfl⟩ dX4_deposit_48 (fun H locs hW hS => ?_)
  refine W.eq (g2 := F0 zm 51 ls [.int (if ¬ wi_ ((gl_ a 2 m 0) + y) (-1000000000000000) 1000000000000000 then 1 else 0)]) rfl ?_
  refine lv_if_eq (tgt := 58) cx.1 cx.2.1 dX4_deposit_51 (by decide) (fun zz => absurd zz (bz_t h2)) (fun h51 => ?_)
  refine lv_ldc2 (own := "MarginHouse") (v := -1) cx.1 cx.2.1 cx.2.2.2.1 (cx.2.2.2.2.1 _ nw_161) dX4_deposit_54 ?_
  exact cr_l cx hr hlk hW hS (Nat.le_of_ble_eq_true rfl) (Nat.le_of_ble_eq_true rfl) dX4_deposit_57 rfl rfl
set_option maxHeartbeats 4000000 in
set_option maxRecDepth 100000 in
theorem c_X4_deposit_ok (l : Launch) {w : Gh_} (hI : In_ w) (hst : l.stackTraces = false) (a : St_) (k : Nat) (hk : gi_ a 0 0 0 = nI k) (hk8 : k ≤ 8) (m : Nat) (hm : m < k) (y : Int64) (h : wi_ y 1 1000000000000) (hs : gi_ a 3 m 0 = 0) (h2 : tm_ (gl_ a 2 m 0 + y)) : Fn_ l w yX4_deposit (.code yX4_deposit cX4_deposit 5 (some .long)) { frames := 7, cells := 1, slots := 6, locals := 111 } 1 6 [.ref (ad_ w 0 0), .int (nI m), .long y] a (.inl (some (.long (gl_ a 2 m 0 + y)))) (sl_ a 2 m 0 (gl_ a 2 m 0 + y)) := by
  refine Fn_of hI (by decide +kernel) (Nat.le_of_ble_eq_true rfl) ?_
  intro zp ze zs zm zb zt zc ls cx hr hlk hno hW hS hl
  replace cx : Cx_ zp zs zm zc _ cX4_deposit 5 "MarginHouse" w := cx
  replace hl : lv_has ls 5 [(0, .ref (ad_ w 0 0)), (1, .int (nI m)), (2, .long y)] := hl
  obtain ⟨H, hH⟩ : ∃ H, zs.heap = H := ⟨_, rfl⟩
  rw [hH] at hW
  have hS : Fr_ w zs.heap H [] := by rw [← hH]; exact hS
  obtain ⟨locs, hlocs⟩ : ∃ x : List Loc, x = [] := ⟨_, rfl⟩
  rw [← hlocs] at hS ⊢
  rw [show W zp l ze _ zs zm _ zb zt zc zs.heap locs 0 0 _ (F0 zm 0 ls []) ↔ W zp l ze _ zs zm _ zb zt zc H locs 0 0 _ (F0 zm 0 ls []) from by rw [hH]]
  refine lv_aload_n cx.1 cx.2.1 dX4_deposit_0 rfl (lv_at hl 0 rfl) ?_
  refine lv_iload_n cx.1 cx.2.1 dX4_deposit_1 rfl (lv_at hl 1 rfl) ?_
  refine ck_V (v := some (.int (if wi_ (nI m).toInt64 0 (gi_ a 0 0 0 - 1).toInt64 then 1 else 0))) (As := [.int (nI m)]) (rest := []) (k := 0) (i := 0) (T := TX4) cx hW hS hl (by decide) rfl rfl (c_X4_isMember l hI a (nI m)) cw_X4_isMember nw_182 nw_523 nw_181 rfl rfl (Nat.le_of_ble_eq_true rfl) rfl rfl ⟨Nat.le_of_ble_eq_true rfl, Nat.le_of_ble_eq_true rfl⟩ ⟨Nat.le_of_ble_eq_true rfl, Nat.le_of_ble_eq_true rfl⟩ dX4_deposit_2 (fun H locs hW hS => ?_)
  refine W.eq (g2 := F0 zm 5 ls [.int (if wi_ (nI m).toInt64 0 (gi_ a 0 0 0 - 1).toInt64 then 1 else 0)]) rfl ?_
  refine lv_if_eq (tgt := 23) cx.1 cx.2.1 dX4_deposit_5 (by decide) (fun zz => absurd zz (bz_t (im_in hk (by omega) hm))) (fun h5 => ?_)
  refine lv_lload_n cx.1 cx.2.1 dX4_deposit_8 rfl (lv_at hl 2 rfl) ?_
  refine lv_lconst (v := 1) cx.1 cx.2.1 dX4_deposit_9 (by decide) ?_
  refine lv_ldc2 (own := "MarginHouse") (v := 1000000000000) cx.1 cx.2.1 cx.2.2.2.1 (cx.2.2.2.2.1 _ nw_118) dX4_deposit_10 ?_
  refine ck_S (v := some (.int (if wi_ y 1 1000000000000 then 1 else 0))) (As := [.long y, .long 1, .long 1000000000000]) (rest := []) cx hW hS hl (c_X4_within l hI a y 1 1000000000000) cw_X4_within nw_120 nw_119 rfl rfl (Nat.le_of_ble_eq_true rfl) rfl rfl ⟨Nat.le_of_ble_eq_true rfl, Nat.le_of_ble_eq_true rfl⟩ ⟨Nat.le_of_ble_eq_true rfl, Nat.le_of_ble_eq_true rfl⟩ dX4_deposit_13 (fun H locs hW hS => ?_)
  refine W.eq (g2 := F0 zm 16 ls [.int (if wi_ y 1 1000000000000 then 1 else 0)]) rfl ?_
  refine lv_if_eq (tgt := 23) cx.1 cx.2.1 dX4_deposit_16 (by decide) (fun zz => absurd zz (bz_t h)) (fun h16 => ?_)
  refine lv_iconst (v := 1) cx.1 cx.2.1 dX4_deposit_19 (by decide) ?_
  refine lv_goto (tgt := 24) cx.1 cx.2.1 dX4_deposit_20 (by decide) ?_
  refine ck_S (v := none) (As := [.int 1]) (rest := []) cx hW hS hl (c_X4_need_ok l hI a) cw_X4_need nw_123 nw_122 rfl rfl (Nat.le_of_ble_eq_true rfl) rfl rfl ⟨Nat.le_of_ble_eq_true rfl, Nat.le_of_ble_eq_true rfl⟩ ⟨Nat.le_of_ble_eq_true rfl, Nat.le_of_ble_eq_true rfl⟩ dX4_deposit_24 (fun H locs hW hS => ?_)
  refine W.eq (g2 := F0 zm 27 ls []) rfl ?_
  refine lv_aload_n cx.1 cx.2.1 dX4_deposit_27 rfl (lv_at hl 0 rfl) ?_
  refine gf_X4_11 cx hW (by decide) dX4_deposit_28 ?_
  refine lv_iload_n cx.1 cx.2.1 dX4_deposit_31 rfl (lv_at hl 1 rfl) ?_
  refine al_1 (j := m) cx hW (by decide) rfl (by omega) dX4_deposit_32 ?_
  refine lv_astore (lv' := [(4, .ref (ad_ w 6 m)), (0, .ref (ad_ w 0 0)), (1, .int (nI m)), (2, .long y)]) cx.1 cx.2.1 dX4_deposit_33 hl (by decide) rfl (fun ls hl => ?_)
  refine lv_aload cx.1 cx.2.1 dX4_deposit_35 (lv_at hl 0 rfl) ?_
  refine lv_iconst (v := 0) cx.1 cx.2.1 dX4_deposit_37 (by decide) ?_
  refine ck_S (v := none) (As := [.ref (ad_ w 6 m), .int 0]) (rest := []) cx hW hS hl (c_X4_needStanding_ok l hI a m (by omega) 0 hs) cw_X4_needStanding nw_193 nw_192 rfl rfl (Nat.le_of_ble_eq_true rfl) rfl rfl ⟨Nat.le_of_ble_eq_true rfl, Nat.le_of_ble_eq_true rfl⟩ ⟨Nat.le_of_ble_eq_true rfl, Nat.le_of_ble_eq_true rfl⟩ dX4_deposit_38 (fun H locs hW hS => ?_)
  refine W.eq (g2 := F0 zm 41 ls []) rfl ?_
  refine lv_aload cx.1 cx.2.1 dX4_deposit_41 (lv_at hl 0 rfl) ?_
  refine gf_X4_105 cx hW (by omega) dX4_deposit_43 ?_
  refine lv_lload_n cx.1 cx.2.1 dX4_deposit_46 rfl (lv_at hl 3 rfl) ?_
  refine lv_ladd cx.1 cx.2.1 dX4_deposit_47 ?_
  refine ck_S (v := some (.int (if ¬ wi_ ((gl_ a 2 m 0) + y) (-1000000000000000) 1000000000000000 then 1 else 0))) (As := [.long ((gl_ a 2 m 0) + y)]) (rest := []) cx hW hS hl (c_X4_isTooMuch l hI a ((gl_ a 2 m 0) + y)) cw_X4_isTooMuch nw_157 nw_156 rfl rfl (Nat.le_of_ble_eq_true rfl) rfl rfl ⟨Nat.le_of_ble_eq_true rfl, Nat.le_of_ble_eq_true rfl⟩ ⟨Nat.le_of_ble_eq_true rfl, Nat.le_of_ble_eq_true rfl⟩ dX4_deposit_48 (fun H locs hW hS => ?_)
  refine W.eq (g2 := F0 zm 51 ls [.int (if ¬ wi_ ((gl_ a 2 m 0) + y) (-1000000000000000) 1000000000000000 then 1 else 0)]) rfl ?_
  refine lv_if_eq (tgt := 58) cx.1 cx.2.1 dX4_deposit_51 (by decide) (fun h51 => ?_) (fun zz => absurd (bz_f (fun z => z h2)) zz)
  refine lv_aload cx.1 cx.2.1 dX4_deposit_58 (lv_at hl 0 rfl) ?_
  refine lv_dup cx.1 cx.2.1 dX4_deposit_60 rfl ?_
  refine gf_X4_105 cx hW (by omega) dX4_deposit_61 ?_
  refine lv_lload_n cx.1 cx.2.1 dX4_deposit_64 rfl (lv_at hl 3 rfl) ?_
  refine lv_ladd cx.1 cx.2.1 dX4_deposit_65 ?_
  refine pf_X4_105 cx hW hS (by omega) dX4_deposit_66 (fun H locs hW hS => ?_)
  refine lv_aload cx.1 cx.2.1 dX4_deposit_69 (lv_at hl 0 rfl) ?_
  refine gf_X4_105 cx hW (by omega) dX4_deposit_71 ?_
  refine tp_j (y := gl_ a 2 m 0 + y) (by rw [gl_sl]; exact if_pos ⟨rfl, rfl, rfl⟩) ?_
  exact cr_l cx hr hlk hW hS (Nat.le_of_ble_eq_true rfl) (Nat.le_of_ble_eq_true rfl) dX4_deposit_74 rfl rfl
set_option maxHeartbeats 4000000 in
set_option maxRecDepth 100000 in
theorem c_X4_withdraw_ia (l : Launch) {w : Gh_} (hI : In_ w) (hst : l.stackTraces = false) (a : St_) (x : Int32) (y : Int64) (h : ¬ (wi_ x.toInt64 0 (gi_ a 0 0 0 - 1).toInt64 ∧ wi_ y 1 1000000000000)) : Fn_ l w yX4_withdraw (.code yX4_withdraw cX4_withdraw 5 (some .long)) { frames := 7, cells := 1, slots := 6, locals := 111 } 1 6 [.ref (ad_ w 0 0), .int x, .long y] a (.inr IA_) a := by
  refine Fn_of hI (by decide +kernel) (Nat.le_of_ble_eq_true rfl) ?_
  intro zp ze zs zm zb zt zc ls cx hr hlk hno hW hS hl
  replace cx : Cx_ zp zs zm zc _ cX4_withdraw 5 "MarginHouse" w := cx
  replace hl : lv_has ls 5 [(0, .ref (ad_ w 0 0)), (1, .int x), (2, .long y)] := hl
  obtain ⟨H, hH⟩ : ∃ H, zs.heap = H := ⟨_, rfl⟩
  rw [hH] at hW
  have hS : Fr_ w zs.heap H [] := by rw [← hH]; exact hS
  obtain ⟨locs, hlocs⟩ : ∃ x : List Loc, x = [] := ⟨_, rfl⟩
  rw [← hlocs] at hS ⊢
  rw [show W zp l ze _ zs zm _ zb zt zc zs.heap locs 0 0 _ (F0 zm 0 ls []) ↔ W zp l ze _ zs zm _ zb zt zc H locs 0 0 _ (F0 zm 0 ls []) from by rw [hH]]
  refine lv_aload_n cx.1 cx.2.1 dX4_withdraw_0 rfl (lv_at hl 0 rfl) ?_
  refine lv_iload_n cx.1 cx.2.1 dX4_withdraw_1 rfl (lv_at hl 1 rfl) ?_
  refine ck_V (v := some (.int (if wi_ x.toInt64 0 (gi_ a 0 0 0 - 1).toInt64 then 1 else 0))) (As := [.int x]) (rest := []) (k := 0) (i := 0) (T := TX4) cx hW hS hl (by decide) rfl rfl (c_X4_isMember l hI a x) cw_X4_isMember nw_182 nw_523 nw_181 rfl rfl (Nat.le_of_ble_eq_true rfl) rfl rfl ⟨Nat.le_of_ble_eq_true rfl, Nat.le_of_ble_eq_true rfl⟩ ⟨Nat.le_of_ble_eq_true rfl, Nat.le_of_ble_eq_true rfl⟩ dX4_withdraw_2 (fun H locs hW hS => ?_)
  refine W.eq (g2 := F0 zm 5 ls [.int (if wi_ x.toInt64 0 (gi_ a 0 0 0 - 1).toInt64 then 1 else 0)]) rfl ?_
  refine lv_if_eq (tgt := 23) cx.1 cx.2.1 dX4_withdraw_5 (by decide) (fun h5 => ?_) (fun h5 => ?_)
  · skip
    have h5 := bz_0 h5
    refine lv_iconst (v := 0) cx.1 cx.2.1 dX4_withdraw_23 (by decide) ?_
    exact ct_S (As := [.int 0]) (rest := []) cx hlk hno hW hS hl (c_X4_need_bad l hI hst a) cw_X4_need nw_123 nw_122 rfl rfl (Nat.le_of_ble_eq_true rfl) rfl rfl ⟨Nat.le_of_ble_eq_true rfl, Nat.le_of_ble_eq_true rfl⟩ ⟨Nat.le_of_ble_eq_true rfl, Nat.le_of_ble_eq_true rfl⟩ dX4_withdraw_24 (Nat.le_of_ble_eq_true rfl) (Nat.le_of_ble_eq_true rfl) rfl rfl
  · skip
    have h5 := bz_1 h5
    refine lv_lload_n cx.1 cx.2.1 dX4_withdraw_8 rfl (lv_at hl 2 rfl) ?_
    refine lv_lconst (v := 1) cx.1 cx.2.1 dX4_withdraw_9 (by decide) ?_
    refine lv_ldc2 (own := "MarginHouse") (v := 1000000000000) cx.1 cx.2.1 cx.2.2.2.1 (cx.2.2.2.2.1 _ nw_118) dX4_withdraw_10 ?_
    refine ck_S (v := some (.int (if wi_ y 1 1000000000000 then 1 else 0))) (As := [.long y, .long 1, .long 1000000000000]) (rest := []) cx hW hS hl (c_X4_within l hI a y 1 1000000000000) cw_X4_within nw_120 nw_119 rfl rfl (Nat.le_of_ble_eq_true rfl) rfl rfl ⟨Nat.le_of_ble_eq_true rfl, Nat.le_of_ble_eq_true rfl⟩ ⟨Nat.le_of_ble_eq_true rfl, Nat.le_of_ble_eq_true rfl⟩ dX4_withdraw_13 (fun H locs hW hS => ?_)
    refine W.eq (g2 := F0 zm 16 ls [.int (if wi_ y 1 1000000000000 then 1 else 0)]) rfl ?_
    refine lv_if_eq (tgt := 23) cx.1 cx.2.1 dX4_withdraw_16 (by decide) (fun h16 => ?_) (fun h16 => ?_)
    · skip
      have h16 := bz_0 h16
      refine lv_iconst (v := 0) cx.1 cx.2.1 dX4_withdraw_23 (by decide) ?_
      exact ct_S (As := [.int 0]) (rest := []) cx hlk hno hW hS hl (c_X4_need_bad l hI hst a) cw_X4_need nw_123 nw_122 rfl rfl (Nat.le_of_ble_eq_true rfl) rfl rfl ⟨Nat.le_of_ble_eq_true rfl, Nat.le_of_ble_eq_true rfl⟩ ⟨Nat.le_of_ble_eq_true rfl, Nat.le_of_ble_eq_true rfl⟩ dX4_withdraw_24 (Nat.le_of_ble_eq_true rfl) (Nat.le_of_ble_eq_true rfl) rfl rfl
    · skip
      have h16 := bz_1 h16
      exact absurd ⟨h5, h16⟩ h
set_option maxHeartbeats 4000000 in
set_option maxRecDepth 100000 in
theorem c_X4_withdraw_is (l : Launch) {w : Gh_} (hI : In_ w) (hst : l.stackTraces = false) (a : St_) (k : Nat) (hk : gi_ a 0 0 0 = nI k) (hk8 : k ≤ 8) (m : Nat) (hm : m < k) (y : Int64) (h : wi_ y 1 1000000000000) (hs : ¬ gi_ a 3 m 0 = 0) : Fn_ l w yX4_withdraw (.code yX4_withdraw cX4_withdraw 5 (some .long)) { frames := 7, cells := 1, slots := 6, locals := 111 } 1 6 [.ref (ad_ w 0 0), .int (nI m), .long y] a (.inr IS_) a := by
  refine Fn_of hI (by decide +kernel) (Nat.le_of_ble_eq_true rfl) ?_
  intro zp ze zs zm zb zt zc ls cx hr hlk hno hW hS hl
  replace cx : Cx_ zp zs zm zc _ cX4_withdraw 5 "MarginHouse" w := cx
  replace hl : lv_has ls 5 [(0, .ref (ad_ w 0 0)), (1, .int (nI m)), (2, .long y)] := hl
  obtain ⟨H, hH⟩ : ∃ H, zs.heap = H := ⟨_, rfl⟩
  rw [hH] at hW
  have hS : Fr_ w zs.heap H [] := by rw [← hH]; exact hS
  obtain ⟨locs, hlocs⟩ : ∃ x : List Loc, x = [] := ⟨_, rfl⟩
  rw [← hlocs] at hS ⊢
  rw [show W zp l ze _ zs zm _ zb zt zc zs.heap locs 0 0 _ (F0 zm 0 ls []) ↔ W zp l ze _ zs zm _ zb zt zc H locs 0 0 _ (F0 zm 0 ls []) from by rw [hH]]
  refine lv_aload_n cx.1 cx.2.1 dX4_withdraw_0 rfl (lv_at hl 0 rfl) ?_
  refine lv_iload_n cx.1 cx.2.1 dX4_withdraw_1 rfl (lv_at hl 1 rfl) ?_
  refine ck_V (v := some (.int (if wi_ (nI m).toInt64 0 (gi_ a 0 0 0 - 1).toInt64 then 1 else 0))) (As := [.int (nI m)]) (rest := []) (k := 0) (i := 0) (T := TX4) cx hW hS hl (by decide) rfl rfl (c_X4_isMember l hI a (nI m)) cw_X4_isMember nw_182 nw_523 nw_181 rfl rfl (Nat.le_of_ble_eq_true rfl) rfl rfl ⟨Nat.le_of_ble_eq_true rfl, Nat.le_of_ble_eq_true rfl⟩ ⟨Nat.le_of_ble_eq_true rfl, Nat.le_of_ble_eq_true rfl⟩ dX4_withdraw_2 (fun H locs hW hS => ?_)
  refine W.eq (g2 := F0 zm 5 ls [.int (if wi_ (nI m).toInt64 0 (gi_ a 0 0 0 - 1).toInt64 then 1 else 0)]) rfl ?_
  refine lv_if_eq (tgt := 23) cx.1 cx.2.1 dX4_withdraw_5 (by decide) (fun zz => absurd zz (bz_t (im_in hk (by omega) hm))) (fun h5 => ?_)
  refine lv_lload_n cx.1 cx.2.1 dX4_withdraw_8 rfl (lv_at hl 2 rfl) ?_
  refine lv_lconst (v := 1) cx.1 cx.2.1 dX4_withdraw_9 (by decide) ?_
  refine lv_ldc2 (own := "MarginHouse") (v := 1000000000000) cx.1 cx.2.1 cx.2.2.2.1 (cx.2.2.2.2.1 _ nw_118) dX4_withdraw_10 ?_
  refine ck_S (v := some (.int (if wi_ y 1 1000000000000 then 1 else 0))) (As := [.long y, .long 1, .long 1000000000000]) (rest := []) cx hW hS hl (c_X4_within l hI a y 1 1000000000000) cw_X4_within nw_120 nw_119 rfl rfl (Nat.le_of_ble_eq_true rfl) rfl rfl ⟨Nat.le_of_ble_eq_true rfl, Nat.le_of_ble_eq_true rfl⟩ ⟨Nat.le_of_ble_eq_true rfl, Nat.le_of_ble_eq_true rfl⟩ dX4_withdraw_13 (fun H locs hW hS => ?_)
  refine W.eq (g2 := F0 zm 16 ls [.int (if wi_ y 1 1000000000000 then 1 else 0)]) rfl ?_
  refine lv_if_eq (tgt := 23) cx.1 cx.2.1 dX4_withdraw_16 (by decide) (fun zz => absurd zz (bz_t h)) (fun h16 => ?_)
  refine lv_iconst (v := 1) cx.1 cx.2.1 dX4_withdraw_19 (by decide) ?_
  refine lv_goto (tgt := 24) cx.1 cx.2.1 dX4_withdraw_20 (by decide) ?_
  refine ck_S (v := none) (As := [.int 1]) (rest := []) cx hW hS hl (c_X4_need_ok l hI a) cw_X4_need nw_123 nw_122 rfl rfl (Nat.le_of_ble_eq_true rfl) rfl rfl ⟨Nat.le_of_ble_eq_true rfl, Nat.le_of_ble_eq_true rfl⟩ ⟨Nat.le_of_ble_eq_true rfl, Nat.le_of_ble_eq_true rfl⟩ dX4_withdraw_24 (fun H locs hW hS => ?_)
  refine W.eq (g2 := F0 zm 27 ls []) rfl ?_
  refine lv_aload_n cx.1 cx.2.1 dX4_withdraw_27 rfl (lv_at hl 0 rfl) ?_
  refine gf_X4_11 cx hW (by decide) dX4_withdraw_28 ?_
  refine lv_iload_n cx.1 cx.2.1 dX4_withdraw_31 rfl (lv_at hl 1 rfl) ?_
  refine al_1 (j := m) cx hW (by decide) rfl (by omega) dX4_withdraw_32 ?_
  refine lv_astore (lv' := [(4, .ref (ad_ w 6 m)), (0, .ref (ad_ w 0 0)), (1, .int (nI m)), (2, .long y)]) cx.1 cx.2.1 dX4_withdraw_33 hl (by decide) rfl (fun ls hl => ?_)
  refine lv_aload cx.1 cx.2.1 dX4_withdraw_35 (lv_at hl 0 rfl) ?_
  refine lv_iconst (v := 0) cx.1 cx.2.1 dX4_withdraw_37 (by decide) ?_
  exact ct_S (As := [.ref (ad_ w 6 m), .int 0]) (rest := []) cx hlk hno hW hS hl (c_X4_needStanding_bad l hI hst a m (by omega) 0 hs) cw_X4_needStanding nw_193 nw_192 rfl rfl (Nat.le_of_ble_eq_true rfl) rfl rfl ⟨Nat.le_of_ble_eq_true rfl, Nat.le_of_ble_eq_true rfl⟩ ⟨Nat.le_of_ble_eq_true rfl, Nat.le_of_ble_eq_true rfl⟩ dX4_withdraw_38 (Nat.le_of_ble_eq_true rfl) (Nat.le_of_ble_eq_true rfl) rfl rfl
set_option maxHeartbeats 4000000 in
set_option maxRecDepth 100000 in
theorem c_X4_withdraw_none (l : Launch) {w : Gh_} (hI : In_ w) (hst : l.stackTraces = false) (a : St_) (k : Nat) (hk : gi_ a 0 0 0 = nI k) (hk8 : k ≤ 8) (n : Nat) (hn : gi_ a 1 0 0 = nI n) (hn6 : n ≤ 6) (m : Nat) (hm : m < k) (y : Int64) (h : wi_ y 1 1000000000000) (hs : gi_ a 3 m 0 = 0) (h2 : ¬ mg_ a m n ≤ gl_ a 2 m 0 - y) : Fn_ l w yX4_withdraw (.code yX4_withdraw cX4_withdraw 5 (some .long)) { frames := 7, cells := 1, slots := 6, locals := 111 } 1 6 [.ref (ad_ w 0 0), .int (nI m), .long y] a (.inl (some (.long (-1)))) a := by
  refine Fn_of hI (by decide +kernel) (Nat.le_of_ble_eq_true rfl) ?_
  intro zp ze zs zm zb zt zc ls cx hr hlk hno hW hS hl
  replace cx : Cx_ zp zs zm zc _ cX4_withdraw 5 "MarginHouse" w := cx
  replace hl : lv_has ls 5 [(0, .ref (ad_ w 0 0)), (1, .int (nI m)), (2, .long y)] := hl
  obtain ⟨H, hH⟩ : ∃ H, zs.heap = H := ⟨_, rfl⟩
  rw [hH] at hW
  have hS : Fr_ w zs.heap H [] := by rw [← hH]; exact hS
  obtain ⟨locs, hlocs⟩ : ∃ x : List Loc, x = [] := ⟨_, rfl⟩
  rw [← hlocs] at hS ⊢
  rw [show W zp l ze _ zs zm _ zb zt zc zs.heap locs 0 0 _ (F0 zm 0 ls []) ↔ W zp l ze _ zs zm _ zb zt zc H locs 0 0 _ (F0 zm 0 ls []) from by rw [hH]]
  refine lv_aload_n cx.1 cx.2.1 dX4_withdraw_0 rfl (lv_at hl 0 rfl) ?_
  refine lv_iload_n cx.1 cx.2.1 dX4_withdraw_1 rfl (lv_at hl 1 rfl) ?_
  refine ck_V (v := some (.int (if wi_ (nI m).toInt64 0 (gi_ a 0 0 0 - 1).toInt64 then 1 else 0))) (As := [.int (nI m)]) (rest := []) (k := 0) (i := 0) (T := TX4) cx hW hS hl (by decide) rfl rfl (c_X4_isMember l hI a (nI m)) cw_X4_isMember nw_182 nw_523 nw_181 rfl rfl (Nat.le_of_ble_eq_true rfl) rfl rfl ⟨Nat.le_of_ble_eq_true rfl, Nat.le_of_ble_eq_true rfl⟩ ⟨Nat.le_of_ble_eq_true rfl, Nat.le_of_ble_eq_true rfl⟩ dX4_withdraw_2 (fun H locs hW hS => ?_)
  refine W.eq (g2 := F0 zm 5 ls [.int (if wi_ (nI m).toInt64 0 (gi_ a 0 0 0 - 1).toInt64 then 1 else 0)]) rfl ?_
  refine lv_if_eq (tgt := 23) cx.1 cx.2.1 dX4_withdraw_5 (by decide) (fun zz => absurd zz (bz_t (im_in hk (by omega) hm))) (fun h5 => ?_)
  refine lv_lload_n cx.1 cx.2.1 dX4_withdraw_8 rfl (lv_at hl 2 rfl) ?_
  refine lv_lconst (v := 1) cx.1 cx.2.1 dX4_withdraw_9 (by decide) ?_
  refine lv_ldc2 (own := "MarginHouse") (v := 1000000000000) cx.1 cx.2.1 cx.2.2.2.1 (cx.2.2.2.2.1 _ nw_118) dX4_withdraw_10 ?_
  refine ck_S (v := some (.int (if wi_ y 1 1000000000000 then 1 else 0))) (As := [.long y, .long 1, .long 1000000000000]) (rest := []) cx hW hS hl (c_X4_within l hI a y 1 1000000000000) cw_X4_within nw_120 nw_119 rfl rfl (Nat.le_of_ble_eq_true rfl) rfl rfl ⟨Nat.le_of_ble_eq_true rfl, Nat.le_of_ble_eq_true rfl⟩ ⟨Nat.le_of_ble_eq_true rfl, Nat.le_of_ble_eq_true rfl⟩ dX4_withdraw_13 (fun H locs hW hS => ?_)
  refine W.eq (g2 := F0 zm 16 ls [.int (if wi_ y 1 1000000000000 then 1 else 0)]) rfl ?_
  refine lv_if_eq (tgt := 23) cx.1 cx.2.1 dX4_withdraw_16 (by decide) (fun zz => absurd zz (bz_t h)) (fun h16 => ?_)
  refine lv_iconst (v := 1) cx.1 cx.2.1 dX4_withdraw_19 (by decide) ?_
  refine lv_goto (tgt := 24) cx.1 cx.2.1 dX4_withdraw_20 (by decide) ?_
  refine ck_S (v := none) (As := [.int 1]) (rest := []) cx hW hS hl (c_X4_need_ok l hI a) cw_X4_need nw_123 nw_122 rfl rfl (Nat.le_of_ble_eq_true rfl) rfl rfl ⟨Nat.le_of_ble_eq_true rfl, Nat.le_of_ble_eq_true rfl⟩ ⟨Nat.le_of_ble_eq_true rfl, Nat.le_of_ble_eq_true rfl⟩ dX4_withdraw_24 (fun H locs hW hS => ?_)
  refine W.eq (g2 := F0 zm 27 ls []) rfl ?_
  refine lv_aload_n cx.1 cx.2.1 dX4_withdraw_27 rfl (lv_at hl 0 rfl) ?_
  refine gf_X4_11 cx hW (by decide) dX4_withdraw_28 ?_
  refine lv_iload_n cx.1 cx.2.1 dX4_withdraw_31 rfl (lv_at hl 1 rfl) ?_
  refine al_1 (j := m) cx hW (by decide) rfl (by omega) dX4_withdraw_32 ?_
  refine lv_astore (lv' := [(4, .ref (ad_ w 6 m)), (0, .ref (ad_ w 0 0)), (1, .int (nI m)), (2, .long y)]) cx.1 cx.2.1 dX4_withdraw_33 hl (by decide) rfl (fun ls hl => ?_)
  refine lv_aload cx.1 cx.2.1 dX4_withdraw_35 (lv_at hl 0 rfl) ?_
  refine lv_iconst (v := 0) cx.1 cx.2.1 dX4_withdraw_37 (by decide) ?_
  refine ck_S (v := none) (As := [.ref (ad_ w 6 m), .int 0]) (rest := []) cx hW hS hl (c_X4_needStanding_ok l hI a m (by omega) 0 hs) cw_X4_needStanding nw_193 nw_192 rfl rfl (Nat.le_of_ble_eq_true rfl) rfl rfl ⟨Nat.le_of_ble_eq_true rfl, Nat.le_of_ble_eq_true rfl⟩ ⟨Nat.le_of_ble_eq_true rfl, Nat.le_of_ble_eq_true rfl⟩ dX4_withdraw_38 (fun H locs hW hS => ?_)
  refine W.eq (g2 := F0 zm 41 ls []) rfl ?_
  refine lv_aload cx.1 cx.2.1 dX4_withdraw_41 (lv_at hl 0 rfl) ?_
  refine gf_X4_105 cx hW (by omega) dX4_withdraw_43 ?_
  refine lv_lload_n cx.1 cx.2.1 dX4_withdraw_46 rfl (lv_at hl 3 rfl) ?_
  refine lv_lsub cx.1 cx.2.1 dX4_withdraw_47 ?_
  refine lv_aload_n cx.1 cx.2.1 dX4_withdraw_48 rfl (lv_at hl 1 rfl) ?_
  refine lv_aload cx.1 cx.2.1 dX4_withdraw_49 (lv_at hl 0 rfl) ?_
  refine ck_V (v := some (.long (mg_ a m n))) (As := [.ref (ad_ w 6 m)]) (rest := [.long ((gl_ a 2 m 0) - y)]) (k := 0) (i := 0) (T := TX4) cx hW hS hl (by decide) rfl rfl (c_X4_marginOf l hI a n hn hn6 m (by omega)) cw_X4_marginOf nw_96 nw_519 nw_95 rfl rfl (Nat.le_of_ble_eq_true rfl) rfl rfl ⟨Nat.le_of_ble_eq_true rfl, Nat.le_of_ble_eq_true rfl⟩ ⟨Nat.le_of_ble_eq_true rfl, Nat.le_of_ble_eq_true rfl⟩ dX4_withdraw_51 (fun H locs hW hS => ?_)
  refine W.eq (g2 := F0 zm 54 ls [.long (mg_ a m n), .long ((gl_ a 2 m 0) - y)]) rfl ?_
  refine lc_ge (tgt := 62) cx.1 cx.2.1 dX4_withdraw_54 dX4_withdraw_55 (by decide) (fun zz => absurd zz h2) (fun h54 => ?_)
  refine lv_ldc2 (own := "MarginHouse") (v := -1) cx.1 cx.2.1 cx.2.2.2.1 (cx.2.2.2.2.1 _ nw_161) dX4_withdraw_58 ?_
  exact cr_l cx hr hlk hW hS (Nat.le_of_ble_eq_true rfl) (Nat.le_of_ble_eq_true rfl) dX4_withdraw_61 rfl rfl
set_option maxHeartbeats 4000000 in
set_option maxRecDepth 100000 in
theorem c_X4_withdraw_ok (l : Launch) {w : Gh_} (hI : In_ w) (hst : l.stackTraces = false) (a : St_) (k : Nat) (hk : gi_ a 0 0 0 = nI k) (hk8 : k ≤ 8) (n : Nat) (hn : gi_ a 1 0 0 = nI n) (hn6 : n ≤ 6) (m : Nat) (hm : m < k) (y : Int64) (h : wi_ y 1 1000000000000) (hs : gi_ a 3 m 0 = 0) (h2 : mg_ a m n ≤ gl_ a 2 m 0 - y) : Fn_ l w yX4_withdraw (.code yX4_withdraw cX4_withdraw 5 (some .long)) { frames := 7, cells := 1, slots := 6, locals := 111 } 1 6 [.ref (ad_ w 0 0), .int (nI m), .long y] a (.inl (some (.long (gl_ a 2 m 0 - y)))) (sl_ a 2 m 0 (gl_ a 2 m 0 - y)) := by
  refine Fn_of hI (by decide +kernel) (Nat.le_of_ble_eq_true rfl) ?_
  intro zp ze zs zm zb zt zc ls cx hr hlk hno hW hS hl
  replace cx : Cx_ zp zs zm zc _ cX4_withdraw 5 "MarginHouse" w := cx
  replace hl : lv_has ls 5 [(0, .ref (ad_ w 0 0)), (1, .int (nI m)), (2, .long y)] := hl
  obtain ⟨H, hH⟩ : ∃ H, zs.heap = H := ⟨_, rfl⟩
  rw [hH] at hW
  have hS : Fr_ w zs.heap H [] := by rw [← hH]; exact hS
  obtain ⟨locs, hlocs⟩ : ∃ x : List Loc, x = [] := ⟨_, rfl⟩
  rw [← hlocs] at hS ⊢
  rw [show W zp l ze _ zs zm _ zb zt zc zs.heap locs 0 0 _ (F0 zm 0 ls []) ↔ W zp l ze _ zs zm _ zb zt zc H locs 0 0 _ (F0 zm 0 ls []) from by rw [hH]]
  refine lv_aload_n cx.1 cx.2.1 dX4_withdraw_0 rfl (lv_at hl 0 rfl) ?_
  refine lv_iload_n cx.1 cx.2.1 dX4_withdraw_1 rfl (lv_at hl 1 rfl) ?_
  refine ck_V (v := some (.int (if wi_ (nI m).toInt64 0 (gi_ a 0 0 0 - 1).toInt64 then 1 else 0))) (As := [.int (nI m)]) (rest := []) (k := 0) (i := 0) (T := TX4) cx hW hS hl (by decide) rfl rfl (c_X4_isMember l hI a (nI m)) cw_X4_isMember nw_182 nw_523 nw_181 rfl rfl (Nat.le_of_ble_eq_true rfl) rfl rfl ⟨Nat.le_of_ble_eq_true rfl, Nat.le_of_ble_eq_true rfl⟩ ⟨Nat.le_of_ble_eq_true rfl, Nat.le_of_ble_eq_true rfl⟩ dX4_withdraw_2 (fun H locs hW hS => ?_)
  refine W.eq (g2 := F0 zm 5 ls [.int (if wi_ (nI m).toInt64 0 (gi_ a 0 0 0 - 1).toInt64 then 1 else 0)]) rfl ?_
  refine lv_if_eq (tgt := 23) cx.1 cx.2.1 dX4_withdraw_5 (by decide) (fun zz => absurd zz (bz_t (im_in hk (by omega) hm))) (fun h5 => ?_)
  refine lv_lload_n cx.1 cx.2.1 dX4_withdraw_8 rfl (lv_at hl 2 rfl) ?_
  refine lv_lconst (v := 1) cx.1 cx.2.1 dX4_withdraw_9 (by decide) ?_
  refine lv_ldc2 (own := "MarginHouse") (v := 1000000000000) cx.1 cx.2.1 cx.2.2.2.1 (cx.2.2.2.2.1 _ nw_118) dX4_withdraw_10 ?_
  refine ck_S (v := some (.int (if wi_ y 1 1000000000000 then 1 else 0))) (As := [.long y, .long 1, .long 1000000000000]) (rest := []) cx hW hS hl (c_X4_within l hI a y 1 1000000000000) cw_X4_within nw_120 nw_119 rfl rfl (Nat.le_of_ble_eq_true rfl) rfl rfl ⟨Nat.le_of_ble_eq_true rfl, Nat.le_of_ble_eq_true rfl⟩ ⟨Nat.le_of_ble_eq_true rfl, Nat.le_of_ble_eq_true rfl⟩ dX4_withdraw_13 (fun H locs hW hS => ?_)
  refine W.eq (g2 := F0 zm 16 ls [.int (if wi_ y 1 1000000000000 then 1 else 0)]) rfl ?_
  refine lv_if_eq (tgt := 23) cx.1 cx.2.1 dX4_withdraw_16 (by decide) (fun zz => absurd zz (bz_t h)) (fun h16 => ?_)
  refine lv_iconst (v := 1) cx.1 cx.2.1 dX4_withdraw_19 (by decide) ?_
  refine lv_goto (tgt := 24) cx.1 cx.2.1 dX4_withdraw_20 (by decide) ?_
  refine ck_S (v := none) (As := [.int 1]) (rest := []) cx hW hS hl (c_X4_need_ok l hI a) cw_X4_need nw_123 nw_122 rfl rfl (Nat.le_of_ble_eq_true rfl) rfl rfl ⟨Nat.le_of_ble_eq_true rfl, Nat.le_of_ble_eq_true rfl⟩ ⟨Nat.le_of_ble_eq_true rfl, Nat.le_of_ble_eq_true rfl⟩ dX4_withdraw_24 (fun H locs hW hS => ?_)
  refine W.eq (g2 := F0 zm 27 ls []) rfl ?_
  refine lv_aload_n cx.1 cx.2.1 dX4_withdraw_27 rfl (lv_at hl 0 rfl) ?_
  refine gf_X4_11 cx hW (by decide) dX4_withdraw_28 ?_
  refine lv_iload_n cx.1 cx.2.1 dX4_withdraw_31 rfl (lv_at hl 1 rfl) ?_
  refine al_1 (j := m) cx hW (by decide) rfl (by omega) dX4_withdraw_32 ?_
  refine lv_astore (lv' := [(4, .ref (ad_ w 6 m)), (0, .ref (ad_ w 0 0)), (1, .int (nI m)), (2, .long y)]) cx.1 cx.2.1 dX4_withdraw_33 hl (by decide) rfl (fun ls hl => ?_)
  refine lv_aload cx.1 cx.2.1 dX4_withdraw_35 (lv_at hl 0 rfl) ?_
  refine lv_iconst (v := 0) cx.1 cx.2.1 dX4_withdraw_37 (by decide) ?_
  refine ck_S (v := none) (As := [.ref (ad_ w 6 m), .int 0]) (rest := []) cx hW hS hl (c_X4_needStanding_ok l hI a m (by omega) 0 hs) cw_X4_needStanding nw_193 nw_192 rfl rfl (Nat.le_of_ble_eq_true rfl) rfl rfl ⟨Nat.le_of_ble_eq_true rfl, Nat.le_of_ble_eq_true rfl⟩ ⟨Nat.le_of_ble_eq_true rfl, Nat.le_of_ble_eq_true rfl⟩ dX4_withdraw_38 (fun H locs hW hS => ?_)
  refine W.eq (g2 := F0 zm 41 ls []) rfl ?_
  refine lv_aload cx.1 cx.2.1 dX4_withdraw_41 (lv_at hl 0 rfl) ?_
  refine gf_X4_105 cx hW (by omega) dX4_withdraw_43 ?_
  refine lv_lload_n cx.1 cx.2.1 dX4_withdraw_46 rfl (lv_at hl 3 rfl) ?_
  refine lv_lsub cx.1 cx.2.1 dX4_withdraw_47 ?_
  refine lv_aload_n cx.1 cx.2.1 dX4_withdraw_48 rfl (lv_at hl 1 rfl) ?_
  refine lv_aload cx.1 cx.2.1 dX4_withdraw_49 (lv_at hl 0 rfl) ?_
  refine ck_V (v := some (.long (mg_ a m n))) (As := [.ref (ad_ w 6 m)]) (rest := [.long ((gl_ a 2 m 0) - y)]) (k := 0) (i := 0) (T := TX4) cx hW hS hl (by decide) rfl rfl (c_X4_marginOf l hI a n hn hn6 m (by omega)) cw_X4_marginOf nw_96 nw_519 nw_95 rfl rfl (Nat.le_of_ble_eq_true rfl) rfl rfl ⟨Nat.le_of_ble_eq_true rfl, Nat.le_of_ble_eq_true rfl⟩ ⟨Nat.le_of_ble_eq_true rfl, Nat.le_of_ble_eq_true rfl⟩ dX4_withdraw_51 (fun H locs hW hS => ?_)
  refine W.eq (g2 := F0 zm 54 ls [.long (mg_ a m n), .long ((gl_ a 2 m 0) - y)]) rfl ?_
  refine lc_ge (tgt := 62) cx.1 cx.2.1 dX4_withdraw_54 dX4_withdraw_55 (by decide) (fun h54 => ?_) (fun zz => absurd h2 zz)
  refine lv_aload cx.1 cx.2.1 dX4_withdraw_62 (lv_at hl 0 rfl) ?_
  refine lv_dup cx.1 cx.2.1 dX4_withdraw_64 rfl ?_
  refine gf_X4_105 cx hW (by omega) dX4_withdraw_65 ?_
  refine lv_lload_n cx.1 cx.2.1 dX4_withdraw_68 rfl (lv_at hl 3 rfl) ?_
  refine lv_lsub cx.1 cx.2.1 dX4_withdraw_69 ?_
  refine pf_X4_105 cx hW hS (by omega) dX4_withdraw_70 (fun H locs hW hS => ?_)
  refine lv_aload cx.1 cx.2.1 dX4_withdraw_73 (lv_at hl 0 rfl) ?_
  refine gf_X4_105 cx hW (by omega) dX4_withdraw_75 ?_
  refine tp_j (y := gl_ a 2 m 0 - y) (by rw [gl_sl]; exact if_pos ⟨rfl, rfl, rfl⟩) ?_
  exact cr_l cx hr hlk hW hS (Nat.le_of_ble_eq_true rfl) (Nat.le_of_ble_eq_true rfl) dX4_withdraw_78 rfl rfl
set_option maxHeartbeats 4000000 in
set_option maxRecDepth 100000 in
theorem c_X4_margin_ia (l : Launch) {w : Gh_} (hI : In_ w) (hst : l.stackTraces = false) (a : St_) (x : Int32) (h : ¬ wi_ x.toInt64 0 (gi_ a 0 0 0 - 1).toInt64) : Fn_ l w yX4_margin (.code yX4_margin cX4_margin 2 (some .long)) { frames := 7, cells := 1, slots := 6, locals := 110 } 1 6 [.ref (ad_ w 0 0), .int x] a (.inr IA_) a := by
  refine Fn_of hI (by decide +kernel) (Nat.le_of_ble_eq_true rfl) ?_
  intro zp ze zs zm zb zt zc ls cx hr hlk hno hW hS hl
  replace cx : Cx_ zp zs zm zc _ cX4_margin 2 "MarginHouse" w := cx
  replace hl : lv_has ls 2 [(0, .ref (ad_ w 0 0)), (1, .int x)] := hl
  obtain ⟨H, hH⟩ : ∃ H, zs.heap = H := ⟨_, rfl⟩
  rw [hH] at hW
  have hS : Fr_ w zs.heap H [] := by rw [← hH]; exact hS
  obtain ⟨locs, hlocs⟩ : ∃ x : List Loc, x = [] := ⟨_, rfl⟩
  rw [← hlocs] at hS ⊢
  rw [show W zp l ze _ zs zm _ zb zt zc zs.heap locs 0 0 _ (F0 zm 0 ls []) ↔ W zp l ze _ zs zm _ zb zt zc H locs 0 0 _ (F0 zm 0 ls []) from by rw [hH]]
  refine lv_aload_n cx.1 cx.2.1 dX4_margin_0 rfl (lv_at hl 0 rfl) ?_
  refine lv_iload_n cx.1 cx.2.1 dX4_margin_1 rfl (lv_at hl 1 rfl) ?_
  refine ck_V (v := some (.int (if wi_ x.toInt64 0 (gi_ a 0 0 0 - 1).toInt64 then 1 else 0))) (As := [.int x]) (rest := []) (k := 0) (i := 0) (T := TX4) cx hW hS hl (by decide) rfl rfl (c_X4_isMember l hI a x) cw_X4_isMember nw_182 nw_523 nw_181 rfl rfl (Nat.le_of_ble_eq_true rfl) rfl rfl ⟨Nat.le_of_ble_eq_true rfl, Nat.le_of_ble_eq_true rfl⟩ ⟨Nat.le_of_ble_eq_true rfl, Nat.le_of_ble_eq_true rfl⟩ dX4_margin_2 (fun H locs hW hS => ?_)
  refine W.eq (g2 := F0 zm 5 ls [.int (if wi_ x.toInt64 0 (gi_ a 0 0 0 - 1).toInt64 then 1 else 0)]) rfl ?_
  refine tp_i (y := 0) (if_neg h) ?_
  exact ct_S (As := [.int 0]) (rest := []) cx hlk hno hW hS hl (c_X4_need_bad l hI hst a) cw_X4_need nw_123 nw_122 rfl rfl (Nat.le_of_ble_eq_true rfl) rfl rfl ⟨Nat.le_of_ble_eq_true rfl, Nat.le_of_ble_eq_true rfl⟩ ⟨Nat.le_of_ble_eq_true rfl, Nat.le_of_ble_eq_true rfl⟩ dX4_margin_5 (Nat.le_of_ble_eq_true rfl) (Nat.le_of_ble_eq_true rfl) rfl rfl
set_option maxHeartbeats 4000000 in
set_option maxRecDepth 100000 in
theorem c_X4_margin_ok (l : Launch) {w : Gh_} (hI : In_ w) (hst : l.stackTraces = false) (a : St_) (k : Nat) (hk : gi_ a 0 0 0 = nI k) (hk8 : k ≤ 8) (n : Nat) (hn : gi_ a 1 0 0 = nI n) (hn6 : n ≤ 6) (m : Nat) (hm : m < k) : Fn_ l w yX4_margin (.code yX4_margin cX4_margin 2 (some .long)) { frames := 7, cells := 1, slots := 6, locals := 110 } 1 6 [.ref (ad_ w 0 0), .int (nI m)] a (.inl (some (.long (mg_ a m n)))) a := by
  refine Fn_of hI (by decide +kernel) (Nat.le_of_ble_eq_true rfl) ?_
  intro zp ze zs zm zb zt zc ls cx hr hlk hno hW hS hl
  replace cx : Cx_ zp zs zm zc _ cX4_margin 2 "MarginHouse" w := cx
  replace hl : lv_has ls 2 [(0, .ref (ad_ w 0 0)), (1, .int (nI m))] := hl
  obtain ⟨H, hH⟩ : ∃ H, zs.heap = H := ⟨_, rfl⟩
  rw [hH] at hW
  have hS : Fr_ w zs.heap H [] := by rw [← hH]; exact hS
  obtain ⟨locs, hlocs⟩ : ∃ x : List Loc, x = [] := ⟨_, rfl⟩
  rw [← hlocs] at hS ⊢
  rw [show W zp l ze _ zs zm _ zb zt zc zs.heap locs 0 0 _ (F0 zm 0 ls []) ↔ W zp l ze _ zs zm _ zb zt zc H locs 0 0 _ (F0 zm 0 ls []) from by rw [hH]]
  refine lv_aload_n cx.1 cx.2.1 dX4_margin_0 rfl (lv_at hl 0 rfl) ?_
  refine lv_iload_n cx.1 cx.2.1 dX4_margin_1 rfl (lv_at hl 1 rfl) ?_
  refine ck_V (v := some (.int (if wi_ (nI m).toInt64 0 (gi_ a 0 0 0 - 1).toInt64 then 1 else 0))) (As := [.int (nI m)]) (rest := []) (k := 0) (i := 0) (T := TX4) cx hW hS hl (by decide) rfl rfl (c_X4_isMember l hI a (nI m)) cw_X4_isMember nw_182 nw_523 nw_181 rfl rfl (Nat.le_of_ble_eq_true rfl) rfl rfl ⟨Nat.le_of_ble_eq_true rfl, Nat.le_of_ble_eq_true rfl⟩ ⟨Nat.le_of_ble_eq_true rfl, Nat.le_of_ble_eq_true rfl⟩ dX4_margin_2 (fun H locs hW hS => ?_)
  refine W.eq (g2 := F0 zm 5 ls [.int (if wi_ (nI m).toInt64 0 (gi_ a 0 0 0 - 1).toInt64 then 1 else 0)]) rfl ?_
  refine tp_i (y := 1) (if_pos (im_in hk (by omega) hm)) ?_
  refine ck_S (v := none) (As := [.int 1]) (rest := []) cx hW hS hl (c_X4_need_ok l hI a) cw_X4_need nw_123 nw_122 rfl rfl (Nat.le_of_ble_eq_true rfl) rfl rfl ⟨Nat.le_of_ble_eq_true rfl, Nat.le_of_ble_eq_true rfl⟩ ⟨Nat.le_of_ble_eq_true rfl, Nat.le_of_ble_eq_true rfl⟩ dX4_margin_5 (fun H locs hW hS => ?_)
  refine W.eq (g2 := F0 zm 8 ls []) rfl ?_
  refine lv_aload_n cx.1 cx.2.1 dX4_margin_8 rfl (lv_at hl 0 rfl) ?_
  refine lv_aload_n cx.1 cx.2.1 dX4_margin_9 rfl (lv_at hl 0 rfl) ?_
  refine gf_X4_11 cx hW (by decide) dX4_margin_10 ?_
  refine lv_iload_n cx.1 cx.2.1 dX4_margin_13 rfl (lv_at hl 1 rfl) ?_
  refine al_1 (j := m) cx hW (by decide) rfl (by omega) dX4_margin_14 ?_
  refine ck_V (v := some (.long (mg_ a m n))) (As := [.ref (ad_ w 6 m)]) (rest := []) (k := 0) (i := 0) (T := TX4) cx hW hS hl (by decide) rfl rfl (c_X4_marginOf l hI a n hn hn6 m (by omega)) cw_X4_marginOf nw_96 nw_519 nw_95 rfl rfl (Nat.le_of_ble_eq_true rfl) rfl rfl ⟨Nat.le_of_ble_eq_true rfl, Nat.le_of_ble_eq_true rfl⟩ ⟨Nat.le_of_ble_eq_true rfl, Nat.le_of_ble_eq_true rfl⟩ dX4_margin_15 (fun H locs hW hS => ?_)
  refine W.eq (g2 := F0 zm 18 ls [.long (mg_ a m n)]) rfl ?_
  exact cr_l cx hr hlk hW hS (Nat.le_of_ble_eq_true rfl) (Nat.le_of_ble_eq_true rfl) dX4_margin_18 rfl rfl
set_option maxHeartbeats 4000000 in
set_option maxRecDepth 100000 in
theorem c_X4_called_ia (l : Launch) {w : Gh_} (hI : In_ w) (hst : l.stackTraces = false) (a : St_) (x : Int32) (h : ¬ wi_ x.toInt64 0 (gi_ a 0 0 0 - 1).toInt64) : Fn_ l w yX4_called (.code yX4_called cX4_called 2 (some .long)) { frames := 7, cells := 1, slots := 6, locals := 110 } 1 6 [.ref (ad_ w 0 0), .int x] a (.inr IA_) a := by
  refine Fn_of hI (by decide +kernel) (Nat.le_of_ble_eq_true rfl) ?_
  intro zp ze zs zm zb zt zc ls cx hr hlk hno hW hS hl
  replace cx : Cx_ zp zs zm zc _ cX4_called 2 "MarginHouse" w := cx
  replace hl : lv_has ls 2 [(0, .ref (ad_ w 0 0)), (1, .int x)] := hl
  obtain ⟨H, hH⟩ : ∃ H, zs.heap = H := ⟨_, rfl⟩
  rw [hH] at hW
  have hS : Fr_ w zs.heap H [] := by rw [← hH]; exact hS
  obtain ⟨locs, hlocs⟩ : ∃ x : List Loc, x = [] := ⟨_, rfl⟩
  rw [← hlocs] at hS ⊢
  rw [show W zp l ze _ zs zm _ zb zt zc zs.heap locs 0 0 _ (F0 zm 0 ls []) ↔ W zp l ze _ zs zm _ zb zt zc H locs 0 0 _ (F0 zm 0 ls []) from by rw [hH]]
  refine lv_aload_n cx.1 cx.2.1 dX4_called_0 rfl (lv_at hl 0 rfl) ?_
  refine lv_iload_n cx.1 cx.2.1 dX4_called_1 rfl (lv_at hl 1 rfl) ?_
  refine ck_V (v := some (.int (if wi_ x.toInt64 0 (gi_ a 0 0 0 - 1).toInt64 then 1 else 0))) (As := [.int x]) (rest := []) (k := 0) (i := 0) (T := TX4) cx hW hS hl (by decide) rfl rfl (c_X4_isMember l hI a x) cw_X4_isMember nw_182 nw_523 nw_181 rfl rfl (Nat.le_of_ble_eq_true rfl) rfl rfl ⟨Nat.le_of_ble_eq_true rfl, Nat.le_of_ble_eq_true rfl⟩ ⟨Nat.le_of_ble_eq_true rfl, Nat.le_of_ble_eq_true rfl⟩ dX4_called_2 (fun H locs hW hS => ?_)
  refine W.eq (g2 := F0 zm 5 ls [.int (if wi_ x.toInt64 0 (gi_ a 0 0 0 - 1).toInt64 then 1 else 0)]) rfl ?_
  refine tp_i (y := 0) (if_neg h) ?_
  exact ct_S (As := [.int 0]) (rest := []) cx hlk hno hW hS hl (c_X4_need_bad l hI hst a) cw_X4_need nw_123 nw_122 rfl rfl (Nat.le_of_ble_eq_true rfl) rfl rfl ⟨Nat.le_of_ble_eq_true rfl, Nat.le_of_ble_eq_true rfl⟩ ⟨Nat.le_of_ble_eq_true rfl, Nat.le_of_ble_eq_true rfl⟩ dX4_called_5 (Nat.le_of_ble_eq_true rfl) (Nat.le_of_ble_eq_true rfl) rfl rfl
set_option maxHeartbeats 4000000 in
set_option maxRecDepth 100000 in
theorem c_X4_called_ok (l : Launch) {w : Gh_} (hI : In_ w) (hst : l.stackTraces = false) (a : St_) (k : Nat) (hk : gi_ a 0 0 0 = nI k) (hk8 : k ≤ 8) (n : Nat) (hn : gi_ a 1 0 0 = nI n) (hn6 : n ≤ 6) (m : Nat) (hm : m < k) : Fn_ l w yX4_called (.code yX4_called cX4_called 2 (some .long)) { frames := 7, cells := 1, slots := 6, locals := 110 } 1 6 [.ref (ad_ w 0 0), .int (nI m)] a (.inl (some (.long (sf_ a m n)))) a := by
  refine Fn_of hI (by decide +kernel) (Nat.le_of_ble_eq_true rfl) ?_
  intro zp ze zs zm zb zt zc ls cx hr hlk hno hW hS hl
  replace cx : Cx_ zp zs zm zc _ cX4_called 2 "MarginHouse" w := cx
  replace hl : lv_has ls 2 [(0, .ref (ad_ w 0 0)), (1, .int (nI m))] := hl
  obtain ⟨H, hH⟩ : ∃ H, zs.heap = H := ⟨_, rfl⟩
  rw [hH] at hW
  have hS : Fr_ w zs.heap H [] := by rw [← hH]; exact hS
  obtain ⟨locs, hlocs⟩ : ∃ x : List Loc, x = [] := ⟨_, rfl⟩
  rw [← hlocs] at hS ⊢
  rw [show W zp l ze _ zs zm _ zb zt zc zs.heap locs 0 0 _ (F0 zm 0 ls []) ↔ W zp l ze _ zs zm _ zb zt zc H locs 0 0 _ (F0 zm 0 ls []) from by rw [hH]]
  refine lv_aload_n cx.1 cx.2.1 dX4_called_0 rfl (lv_at hl 0 rfl) ?_
  refine lv_iload_n cx.1 cx.2.1 dX4_called_1 rfl (lv_at hl 1 rfl) ?_
  refine ck_V (v := some (.int (if wi_ (nI m).toInt64 0 (gi_ a 0 0 0 - 1).toInt64 then 1 else 0))) (As := [.int (nI m)]) (rest := []) (k := 0) (i := 0) (T := TX4) cx hW hS hl (by decide) rfl rfl (c_X4_isMember l hI a (nI m)) cw_X4_isMember nw_182 nw_523 nw_181 rfl rfl (Nat.le_of_ble_eq_true rfl) rfl rfl ⟨Nat.le_of_ble_eq_true rfl, Nat.le_of_ble_eq_true rfl⟩ ⟨Nat.le_of_ble_eq_true rfl, Nat.le_of_ble_eq_true rfl⟩ dX4_called_2 (fun H locs hW hS => ?_)
  refine W.eq (g2 := F0 zm 5 ls [.int (if wi_ (nI m).toInt64 0 (gi_ a 0 0 0 - 1).toInt64 then 1 else 0)]) rfl ?_
  refine tp_i (y := 1) (if_pos (im_in hk (by omega) hm)) ?_
  refine ck_S (v := none) (As := [.int 1]) (rest := []) cx hW hS hl (c_X4_need_ok l hI a) cw_X4_need nw_123 nw_122 rfl rfl (Nat.le_of_ble_eq_true rfl) rfl rfl ⟨Nat.le_of_ble_eq_true rfl, Nat.le_of_ble_eq_true rfl⟩ ⟨Nat.le_of_ble_eq_true rfl, Nat.le_of_ble_eq_true rfl⟩ dX4_called_5 (fun H locs hW hS => ?_)
  refine W.eq (g2 := F0 zm 8 ls []) rfl ?_
  refine lv_aload_n cx.1 cx.2.1 dX4_called_8 rfl (lv_at hl 0 rfl) ?_
  refine lv_aload_n cx.1 cx.2.1 dX4_called_9 rfl (lv_at hl 0 rfl) ?_
  refine gf_X4_11 cx hW (by decide) dX4_called_10 ?_
  refine lv_iload_n cx.1 cx.2.1 dX4_called_13 rfl (lv_at hl 1 rfl) ?_
  refine al_1 (j := m) cx hW (by decide) rfl (by omega) dX4_called_14 ?_
  refine ck_V (v := some (.long (sf_ a m n))) (As := [.ref (ad_ w 6 m)]) (rest := []) (k := 0) (i := 0) (T := TX4) cx hW hS hl (by decide) rfl rfl (c_X4_shortfallOf l hI a n hn hn6 m (by omega)) cw_X4_shortfallOf nw_93 nw_518 nw_92 rfl rfl (Nat.le_of_ble_eq_true rfl) rfl rfl ⟨Nat.le_of_ble_eq_true rfl, Nat.le_of_ble_eq_true rfl⟩ ⟨Nat.le_of_ble_eq_true rfl, Nat.le_of_ble_eq_true rfl⟩ dX4_called_15 (fun H locs hW hS => ?_)
  refine W.eq (g2 := F0 zm 18 ls [.long (sf_ a m n)]) rfl ?_
  exact cr_l cx hr hlk hW hS (Nat.le_of_ble_eq_true rfl) (Nat.le_of_ble_eq_true rfl) dX4_called_18 rfl rfl
set_option maxHeartbeats 4000000 in
set_option maxRecDepth 100000 in
theorem c_X4_told_ia (l : Launch) {w : Gh_} (hI : In_ w) (hst : l.stackTraces = false) (a : St_) (x y : Int32) (h : ¬ (wi_ x.toInt64 0 (gi_ a 0 0 0 - 1).toInt64 ∧ wi_ y.toInt64 0 2)) : Fn_ l w yX4_told (.code yX4_told cX4_told 3 (some .long)) { frames := 7, cells := 1, slots := 6, locals := 110 } 1 6 [.ref (ad_ w 0 0), .int x, .int y] a (.inr IA_) a := by
  refine Fn_of hI (by decide +kernel) (Nat.le_of_ble_eq_true rfl) ?_
  intro zp ze zs zm zb zt zc ls cx hr hlk hno hW hS hl
  replace cx : Cx_ zp zs zm zc _ cX4_told 3 "MarginHouse" w := cx
  replace hl : lv_has ls 3 [(0, .ref (ad_ w 0 0)), (1, .int x), (2, .int y)] := hl
  obtain ⟨H, hH⟩ : ∃ H, zs.heap = H := ⟨_, rfl⟩
  rw [hH] at hW
  have hS : Fr_ w zs.heap H [] := by rw [← hH]; exact hS
  obtain ⟨locs, hlocs⟩ : ∃ x : List Loc, x = [] := ⟨_, rfl⟩
  rw [← hlocs] at hS ⊢
  rw [show W zp l ze _ zs zm _ zb zt zc zs.heap locs 0 0 _ (F0 zm 0 ls []) ↔ W zp l ze _ zs zm _ zb zt zc H locs 0 0 _ (F0 zm 0 ls []) from by rw [hH]]
  refine lv_aload_n cx.1 cx.2.1 dX4_told_0 rfl (lv_at hl 0 rfl) ?_
  refine lv_iload_n cx.1 cx.2.1 dX4_told_1 rfl (lv_at hl 1 rfl) ?_
  refine ck_V (v := some (.int (if wi_ x.toInt64 0 (gi_ a 0 0 0 - 1).toInt64 then 1 else 0))) (As := [.int x]) (rest := []) (k := 0) (i := 0) (T := TX4) cx hW hS hl (by decide) rfl rfl (c_X4_isMember l hI a x) cw_X4_isMember nw_182 nw_523 nw_181 rfl rfl (Nat.le_of_ble_eq_true rfl) rfl rfl ⟨Nat.le_of_ble_eq_true rfl, Nat.le_of_ble_eq_true rfl⟩ ⟨Nat.le_of_ble_eq_true rfl, Nat.le_of_ble_eq_true rfl⟩ dX4_told_2 (fun H locs hW hS => ?_)
  refine W.eq (g2 := F0 zm 5 ls [.int (if wi_ x.toInt64 0 (gi_ a 0 0 0 - 1).toInt64 then 1 else 0)]) rfl ?_
  refine lv_if_eq (tgt := 24) cx.1 cx.2.1 dX4_told_5 (by decide) (fun h5 => ?_) (fun h5 => ?_)
  · skip
    have h5 := bz_0 h5
    refine lv_iconst (v := 0) cx.1 cx.2.1 dX4_told_24 (by decide) ?_
    exact ct_S (As := [.int 0]) (rest := []) cx hlk hno hW hS hl (c_X4_need_bad l hI hst a) cw_X4_need nw_123 nw_122 rfl rfl (Nat.le_of_ble_eq_true rfl) rfl rfl ⟨Nat.le_of_ble_eq_true rfl, Nat.le_of_ble_eq_true rfl⟩ ⟨Nat.le_of_ble_eq_true rfl, Nat.le_of_ble_eq_true rfl⟩ dX4_told_25 (Nat.le_of_ble_eq_true rfl) (Nat.le_of_ble_eq_true rfl) rfl rfl
  · skip
    have h5 := bz_1 h5
    refine lv_iload_n cx.1 cx.2.1 dX4_told_8 rfl (lv_at hl 2 rfl) ?_
    refine lv_i2l (v := y.toInt64) cx.1 cx.2.1 dX4_told_9 rfl ?_
    refine lv_lconst (v := 0) cx.1 cx.2.1 dX4_told_10 (by decide) ?_
    refine lv_ldc2 (own := "MarginHouse") (v := 2) cx.1 cx.2.1 cx.2.2.2.1 (cx.2.2.2.2.1 _ nw_330) dX4_told_11 ?_
    refine ck_S (v := some (.int (if wi_ y.toInt64 0 2 then 1 else 0))) (As := [.long y.toInt64, .long 0, .long 2]) (rest := []) cx hW hS hl (c_X4_within l hI a y.toInt64 0 2) cw_X4_within nw_120 nw_119 rfl rfl (Nat.le_of_ble_eq_true rfl) rfl rfl ⟨Nat.le_of_ble_eq_true rfl, Nat.le_of_ble_eq_true rfl⟩ ⟨Nat.le_of_ble_eq_true rfl, Nat.le_of_ble_eq_true rfl⟩ dX4_told_14 (fun H locs hW hS => ?_)
    refine W.eq (g2 := F0 zm 17 ls [.int (if wi_ y.toInt64 0 2 then 1 else 0)]) rfl ?_
    refine lv_if_eq (tgt := 24) cx.1 cx.2.1 dX4_told_17 (by decide) (fun h17 => ?_) (fun h17 => ?_)
    · skip
      have h17 := bz_0 h17
      refine lv_iconst (v := 0) cx.1 cx.2.1 dX4_told_24 (by decide) ?_
      exact ct_S (As := [.int 0]) (rest := []) cx hlk hno hW hS hl (c_X4_need_bad l hI hst a) cw_X4_need nw_123 nw_122 rfl rfl (Nat.le_of_ble_eq_true rfl) rfl rfl ⟨Nat.le_of_ble_eq_true rfl, Nat.le_of_ble_eq_true rfl⟩ ⟨Nat.le_of_ble_eq_true rfl, Nat.le_of_ble_eq_true rfl⟩ dX4_told_25 (Nat.le_of_ble_eq_true rfl) (Nat.le_of_ble_eq_true rfl) rfl rfl
    · skip
      have h17 := bz_1 h17
      exact absurd ⟨h5, h17⟩ h
set_option maxHeartbeats 4000000 in
set_option maxRecDepth 100000 in
theorem c_X4_told_0 (l : Launch) {w : Gh_} (hI : In_ w) (hst : l.stackTraces = false) (a : St_) (k : Nat) (hk : gi_ a 0 0 0 = nI k) (hk8 : k ≤ 8) (m : Nat) (hm : m < k) : Fn_ l w yX4_told (.code yX4_told cX4_told 3 (some .long)) { frames := 7, cells := 1, slots := 6, locals := 110 } 1 6 [.ref (ad_ w 0 0), .int (nI m), .int 0] a (.inl (some (.long ((gi_ a 3 m 0).toInt64)))) a := by
  refine Fn_of hI (by decide +kernel) (Nat.le_of_ble_eq_true rfl) ?_
  intro zp ze zs zm zb zt zc ls cx hr hlk hno hW hS hl
  replace cx : Cx_ zp zs zm zc _ cX4_told 3 "MarginHouse" w := cx
  replace hl : lv_has ls 3 [(0, .ref (ad_ w 0 0)), (1, .int (nI m)), (2, .int 0)] := hl
  obtain ⟨H, hH⟩ : ∃ H, zs.heap = H := ⟨_, rfl⟩
  rw [hH] at hW
  have hS : Fr_ w zs.heap H [] := by rw [← hH]; exact hS
  obtain ⟨locs, hlocs⟩ : ∃ x : List Loc, x = [] := ⟨_, rfl⟩
  rw [← hlocs] at hS ⊢
  rw [show W zp l ze _ zs zm _ zb zt zc zs.heap locs 0 0 _ (F0 zm 0 ls []) ↔ W zp l ze _ zs zm _ zb zt zc H locs 0 0 _ (F0 zm 0 ls []) from by rw [hH]]
  refine lv_aload_n cx.1 cx.2.1 dX4_told_0 rfl (lv_at hl 0 rfl) ?_
  refine lv_iload_n cx.1 cx.2.1 dX4_told_1 rfl (lv_at hl 1 rfl) ?_
  refine ck_V (v := some (.int (if wi_ (nI m).toInt64 0 (gi_ a 0 0 0 - 1).toInt64 then 1 else 0))) (As := [.int (nI m)]) (rest := []) (k := 0) (i := 0) (T := TX4) cx hW hS hl (by decide) rfl rfl (c_X4_isMember l hI a (nI m)) cw_X4_isMember nw_182 nw_523 nw_181 rfl rfl (Nat.le_of_ble_eq_true rfl) rfl rfl ⟨Nat.le_of_ble_eq_true rfl, Nat.le_of_ble_eq_true rfl⟩ ⟨Nat.le_of_ble_eq_true rfl, Nat.le_of_ble_eq_true rfl⟩ dX4_told_2 (fun H locs hW hS => ?_)
  refine W.eq (g2 := F0 zm 5 ls [.int (if wi_ (nI m).toInt64 0 (gi_ a 0 0 0 - 1).toInt64 then 1 else 0)]) rfl ?_
  refine lv_if_eq (tgt := 24) cx.1 cx.2.1 dX4_told_5 (by decide) (fun zz => absurd zz (bz_t (im_in hk (by omega) hm))) (fun h5 => ?_)
  refine lv_iload_n cx.1 cx.2.1 dX4_told_8 rfl (lv_at hl 2 rfl) ?_
  refine lv_i2l (v := (0 : Int32).toInt64) cx.1 cx.2.1 dX4_told_9 rfl ?_
  refine lv_lconst (v := 0) cx.1 cx.2.1 dX4_told_10 (by decide) ?_
  refine lv_ldc2 (own := "MarginHouse") (v := 2) cx.1 cx.2.1 cx.2.2.2.1 (cx.2.2.2.2.1 _ nw_330) dX4_told_11 ?_
  refine ck_S (v := some (.int (if wi_ ((0 : Int32).toInt64) 0 2 then 1 else 0))) (As := [.long ((0 : Int32).toInt64), .long 0, .long 2]) (rest := []) cx hW hS hl (c_X4_within l hI a ((0 : Int32).toInt64) 0 2) cw_X4_within nw_120 nw_119 rfl rfl (Nat.le_of_ble_eq_true rfl) rfl rfl ⟨Nat.le_of_ble_eq_true rfl, Nat.le_of_ble_eq_true rfl⟩ ⟨Nat.le_of_ble_eq_true rfl, Nat.le_of_ble_eq_true rfl⟩ dX4_told_14 (fun H locs hW hS => ?_)
  refine W.eq (g2 := F0 zm 17 ls [.int (if wi_ ((0 : Int32).toInt64) 0 2 then 1 else 0)]) rfl ?_
  refine lv_if_eq (tgt := 24) cx.1 cx.2.1 dX4_told_17 (by decide) (fun zz => absurd zz (bz_t (by decide))) (fun h17 => ?_)
  refine lv_iconst (v := 1) cx.1 cx.2.1 dX4_told_20 (by decide) ?_
  refine lv_goto (tgt := 25) cx.1 cx.2.1 dX4_told_21 (by decide) ?_
  refine ck_S (v := none) (As := [.int 1]) (rest := []) cx hW hS hl (c_X4_need_ok l hI a) cw_X4_need nw_123 nw_122 rfl rfl (Nat.le_of_ble_eq_true rfl) rfl rfl ⟨Nat.le_of_ble_eq_true rfl, Nat.le_of_ble_eq_true rfl⟩ ⟨Nat.le_of_ble_eq_true rfl, Nat.le_of_ble_eq_true rfl⟩ dX4_told_25 (fun H locs hW hS => ?_)
  refine W.eq (g2 := F0 zm 28 ls []) rfl ?_
  refine lv_iload_n cx.1 cx.2.1 dX4_told_28 rfl (lv_at hl 2 rfl) ?_
  refine lv_lookup (off := 27) (tgt := 56) cx.1 cx.2.1 dX4_told_29 (by decide) (by decide) (by decide) ?_
  refine lv_aload_n cx.1 cx.2.1 dX4_told_56 rfl (lv_at hl 0 rfl) ?_
  refine gf_X4_11 cx hW (by decide) dX4_told_57 ?_
  refine lv_iload_n cx.1 cx.2.1 dX4_told_60 rfl (lv_at hl 1 rfl) ?_
  refine al_1 (j := m) cx hW (by decide) rfl (by omega) dX4_told_61 ?_
  refine gf_X4_127 cx hW (by omega) dX4_told_62 ?_
  refine lv_i2l (v := (gi_ a 3 m 0).toInt64) cx.1 cx.2.1 dX4_told_65 rfl ?_
  exact cr_l cx hr hlk hW hS (Nat.le_of_ble_eq_true rfl) (Nat.le_of_ble_eq_true rfl) dX4_told_66 rfl rfl
set_option maxHeartbeats 4000000 in
set_option maxRecDepth 100000 in
theorem c_X4_told_1 (l : Launch) {w : Gh_} (hI : In_ w) (hst : l.stackTraces = false) (a : St_) (k : Nat) (hk : gi_ a 0 0 0 = nI k) (hk8 : k ≤ 8) (m : Nat) (hm : m < k) : Fn_ l w yX4_told (.code yX4_told cX4_told 3 (some .long)) { frames := 7, cells := 1, slots := 6, locals := 110 } 1 6 [.ref (ad_ w 0 0), .int (nI m), .int 1] a (.inl (some (.long (gl_ a 2 m 0)))) a := by
  refine Fn_of hI (by decide +kernel) (Nat.le_of_ble_eq_true rfl) ?_
  intro zp ze zs zm zb zt zc ls cx hr hlk hno hW hS hl
  replace cx : Cx_ zp zs zm zc _ cX4_told 3 "MarginHouse" w := cx
  replace hl : lv_has ls 3 [(0, .ref (ad_ w 0 0)), (1, .int (nI m)), (2, .int 1)] := hl
  obtain ⟨H, hH⟩ : ∃ H, zs.heap = H := ⟨_, rfl⟩
  rw [hH] at hW
  have hS : Fr_ w zs.heap H [] := by rw [← hH]; exact hS
  obtain ⟨locs, hlocs⟩ : ∃ x : List Loc, x = [] := ⟨_, rfl⟩
  rw [← hlocs] at hS ⊢
  rw [show W zp l ze _ zs zm _ zb zt zc zs.heap locs 0 0 _ (F0 zm 0 ls []) ↔ W zp l ze _ zs zm _ zb zt zc H locs 0 0 _ (F0 zm 0 ls []) from by rw [hH]]
  refine lv_aload_n cx.1 cx.2.1 dX4_told_0 rfl (lv_at hl 0 rfl) ?_
  refine lv_iload_n cx.1 cx.2.1 dX4_told_1 rfl (lv_at hl 1 rfl) ?_
  refine ck_V (v := some (.int (if wi_ (nI m).toInt64 0 (gi_ a 0 0 0 - 1).toInt64 then 1 else 0))) (As := [.int (nI m)]) (rest := []) (k := 0) (i := 0) (T := TX4) cx hW hS hl (by decide) rfl rfl (c_X4_isMember l hI a (nI m)) cw_X4_isMember nw_182 nw_523 nw_181 rfl rfl (Nat.le_of_ble_eq_true rfl) rfl rfl ⟨Nat.le_of_ble_eq_true rfl, Nat.le_of_ble_eq_true rfl⟩ ⟨Nat.le_of_ble_eq_true rfl, Nat.le_of_ble_eq_true rfl⟩ dX4_told_2 (fun H locs hW hS => ?_)
  refine W.eq (g2 := F0 zm 5 ls [.int (if wi_ (nI m).toInt64 0 (gi_ a 0 0 0 - 1).toInt64 then 1 else 0)]) rfl ?_
  refine lv_if_eq (tgt := 24) cx.1 cx.2.1 dX4_told_5 (by decide) (fun zz => absurd zz (bz_t (im_in hk (by omega) hm))) (fun h5 => ?_)
  refine lv_iload_n cx.1 cx.2.1 dX4_told_8 rfl (lv_at hl 2 rfl) ?_
  refine lv_i2l (v := (1 : Int32).toInt64) cx.1 cx.2.1 dX4_told_9 rfl ?_
  refine lv_lconst (v := 0) cx.1 cx.2.1 dX4_told_10 (by decide) ?_
  refine lv_ldc2 (own := "MarginHouse") (v := 2) cx.1 cx.2.1 cx.2.2.2.1 (cx.2.2.2.2.1 _ nw_330) dX4_told_11 ?_
  refine ck_S (v := some (.int (if wi_ ((1 : Int32).toInt64) 0 2 then 1 else 0))) (As := [.long ((1 : Int32).toInt64), .long 0, .long 2]) (rest := []) cx hW hS hl (c_X4_within l hI a ((1 : Int32).toInt64) 0 2) cw_X4_within nw_120 nw_119 rfl rfl (Nat.le_of_ble_eq_true rfl) rfl rfl ⟨Nat.le_of_ble_eq_true rfl, Nat.le_of_ble_eq_true rfl⟩ ⟨Nat.le_of_ble_eq_true rfl, Nat.le_of_ble_eq_true rfl⟩ dX4_told_14 (fun H locs hW hS => ?_)
  refine W.eq (g2 := F0 zm 17 ls [.int (if wi_ ((1 : Int32).toInt64) 0 2 then 1 else 0)]) rfl ?_
  refine lv_if_eq (tgt := 24) cx.1 cx.2.1 dX4_told_17 (by decide) (fun zz => absurd zz (bz_t (by decide))) (fun h17 => ?_)
  refine lv_iconst (v := 1) cx.1 cx.2.1 dX4_told_20 (by decide) ?_
  refine lv_goto (tgt := 25) cx.1 cx.2.1 dX4_told_21 (by decide) ?_
  refine ck_S (v := none) (As := [.int 1]) (rest := []) cx hW hS hl (c_X4_need_ok l hI a) cw_X4_need nw_123 nw_122 rfl rfl (Nat.le_of_ble_eq_true rfl) rfl rfl ⟨Nat.le_of_ble_eq_true rfl, Nat.le_of_ble_eq_true rfl⟩ ⟨Nat.le_of_ble_eq_true rfl, Nat.le_of_ble_eq_true rfl⟩ dX4_told_25 (fun H locs hW hS => ?_)
  refine W.eq (g2 := F0 zm 28 ls []) rfl ?_
  refine lv_iload_n cx.1 cx.2.1 dX4_told_28 rfl (lv_at hl 2 rfl) ?_
  refine lv_lookup (off := 38) (tgt := 67) cx.1 cx.2.1 dX4_told_29 (by decide) (by decide) (by decide) ?_
  refine lv_aload_n cx.1 cx.2.1 dX4_told_67 rfl (lv_at hl 0 rfl) ?_
  refine gf_X4_11 cx hW (by decide) dX4_told_68 ?_
  refine lv_iload_n cx.1 cx.2.1 dX4_told_71 rfl (lv_at hl 1 rfl) ?_
  refine al_1 (j := m) cx hW (by decide) rfl (by omega) dX4_told_72 ?_
  refine gf_X4_105 cx hW (by omega) dX4_told_73 ?_
  exact cr_l cx hr hlk hW hS (Nat.le_of_ble_eq_true rfl) (Nat.le_of_ble_eq_true rfl) dX4_told_76 rfl rfl
set_option maxHeartbeats 4000000 in
set_option maxRecDepth 100000 in
theorem c_X4_told_2 (l : Launch) {w : Gh_} (hI : In_ w) (hst : l.stackTraces = false) (a : St_) (k : Nat) (hk : gi_ a 0 0 0 = nI k) (hk8 : k ≤ 8) (m : Nat) (hm : m < k) : Fn_ l w yX4_told (.code yX4_told cX4_told 3 (some .long)) { frames := 7, cells := 1, slots := 6, locals := 110 } 1 6 [.ref (ad_ w 0 0), .int (nI m), .int 2] a (.inl (some (.long (gl_ a 3 m 0)))) a := by
  refine Fn_of hI (by decide +kernel) (Nat.le_of_ble_eq_true rfl) ?_
  intro zp ze zs zm zb zt zc ls cx hr hlk hno hW hS hl
  replace cx : Cx_ zp zs zm zc _ cX4_told 3 "MarginHouse" w := cx
  replace hl : lv_has ls 3 [(0, .ref (ad_ w 0 0)), (1, .int (nI m)), (2, .int 2)] := hl
  obtain ⟨H, hH⟩ : ∃ H, zs.heap = H := ⟨_, rfl⟩
  rw [hH] at hW
  have hS : Fr_ w zs.heap H [] := by rw [← hH]; exact hS
  obtain ⟨locs, hlocs⟩ : ∃ x : List Loc, x = [] := ⟨_, rfl⟩
  rw [← hlocs] at hS ⊢
  rw [show W zp l ze _ zs zm _ zb zt zc zs.heap locs 0 0 _ (F0 zm 0 ls []) ↔ W zp l ze _ zs zm _ zb zt zc H locs 0 0 _ (F0 zm 0 ls []) from by rw [hH]]
  refine lv_aload_n cx.1 cx.2.1 dX4_told_0 rfl (lv_at hl 0 rfl) ?_
  refine lv_iload_n cx.1 cx.2.1 dX4_told_1 rfl (lv_at hl 1 rfl) ?_
  refine ck_V (v := some (.int (if wi_ (nI m).toInt64 0 (gi_ a 0 0 0 - 1).toInt64 then 1 else 0))) (As := [.int (nI m)]) (rest := []) (k := 0) (i := 0) (T := TX4) cx hW hS hl (by decide) rfl rfl (c_X4_isMember l hI a (nI m)) cw_X4_isMember nw_182 nw_523 nw_181 rfl rfl (Nat.le_of_ble_eq_true rfl) rfl rfl ⟨Nat.le_of_ble_eq_true rfl, Nat.le_of_ble_eq_true rfl⟩ ⟨Nat.le_of_ble_eq_true rfl, Nat.le_of_ble_eq_true rfl⟩ dX4_told_2 (fun H locs hW hS => ?_)
  refine W.eq (g2 := F0 zm 5 ls [.int (if wi_ (nI m).toInt64 0 (gi_ a 0 0 0 - 1).toInt64 then 1 else 0)]) rfl ?_
  refine lv_if_eq (tgt := 24) cx.1 cx.2.1 dX4_told_5 (by decide) (fun zz => absurd zz (bz_t (im_in hk (by omega) hm))) (fun h5 => ?_)
  refine lv_iload_n cx.1 cx.2.1 dX4_told_8 rfl (lv_at hl 2 rfl) ?_
  refine lv_i2l (v := (2 : Int32).toInt64) cx.1 cx.2.1 dX4_told_9 rfl ?_
  refine lv_lconst (v := 0) cx.1 cx.2.1 dX4_told_10 (by decide) ?_
  refine lv_ldc2 (own := "MarginHouse") (v := 2) cx.1 cx.2.1 cx.2.2.2.1 (cx.2.2.2.2.1 _ nw_330) dX4_told_11 ?_
  refine ck_S (v := some (.int (if wi_ ((2 : Int32).toInt64) 0 2 then 1 else 0))) (As := [.long ((2 : Int32).toInt64), .long 0, .long 2]) (rest := []) cx hW hS hl (c_X4_within l hI a ((2 : Int32).toInt64) 0 2) cw_X4_within nw_120 nw_119 rfl rfl (Nat.le_of_ble_eq_true rfl) rfl rfl ⟨Nat.le_of_ble_eq_true rfl, Nat.le_of_ble_eq_true rfl⟩ ⟨Nat.le_of_ble_eq_true rfl, Nat.le_of_ble_eq_true rfl⟩ dX4_told_14 (fun H locs hW hS => ?_)
  refine W.eq (g2 := F0 zm 17 ls [.int (if wi_ ((2 : Int32).toInt64) 0 2 then 1 else 0)]) rfl ?_
  refine lv_if_eq (tgt := 24) cx.1 cx.2.1 dX4_told_17 (by decide) (fun zz => absurd zz (bz_t (by decide))) (fun h17 => ?_)
  refine lv_iconst (v := 1) cx.1 cx.2.1 dX4_told_20 (by decide) ?_
  refine lv_goto (tgt := 25) cx.1 cx.2.1 dX4_told_21 (by decide) ?_
  refine ck_S (v := none) (As := [.int 1]) (rest := []) cx hW hS hl (c_X4_need_ok l hI a) cw_X4_need nw_123 nw_122 rfl rfl (Nat.le_of_ble_eq_true rfl) rfl rfl ⟨Nat.le_of_ble_eq_true rfl, Nat.le_of_ble_eq_true rfl⟩ ⟨Nat.le_of_ble_eq_true rfl, Nat.le_of_ble_eq_true rfl⟩ dX4_told_25 (fun H locs hW hS => ?_)
  refine W.eq (g2 := F0 zm 28 ls []) rfl ?_
  refine lv_iload_n cx.1 cx.2.1 dX4_told_28 rfl (lv_at hl 2 rfl) ?_
  refine lv_lookup (off := 48) (tgt := 77) cx.1 cx.2.1 dX4_told_29 (by decide) (by decide) (by decide) ?_
  refine lv_aload_n cx.1 cx.2.1 dX4_told_77 rfl (lv_at hl 0 rfl) ?_
  refine gf_X4_11 cx hW (by decide) dX4_told_78 ?_
  refine lv_iload_n cx.1 cx.2.1 dX4_told_81 rfl (lv_at hl 1 rfl) ?_
  refine al_1 (j := m) cx hW (by decide) rfl (by omega) dX4_told_82 ?_
  refine gf_X4_66 cx hW (by omega) dX4_told_83 ?_
  exact cr_l cx hr hlk hW hS (Nat.le_of_ble_eq_true rfl) (Nat.le_of_ble_eq_true rfl) dX4_told_86 rfl rfl
set_option maxHeartbeats 4000000 in
set_option maxRecDepth 100000 in
theorem c_X4_position_ia (l : Launch) {w : Gh_} (hI : In_ w) (hst : l.stackTraces = false) (a : St_) (x y : Int32) (h : ¬ (wi_ x.toInt64 0 (gi_ a 0 0 0 - 1).toInt64 ∧ wi_ y.toInt64 0 (gi_ a 1 0 0 - 1).toInt64)) : Fn_ l w yX4_position (.code yX4_position cX4_position 3 (some .int)) { frames := 7, cells := 1, slots := 6, locals := 110 } 1 6 [.ref (ad_ w 0 0), .int x, .int y] a (.inr IA_) a := by
  refine Fn_of hI (by decide +kernel) (Nat.le_of_ble_eq_true rfl) ?_
  intro zp ze zs zm zb zt zc ls cx hr hlk hno hW hS hl
  replace cx : Cx_ zp zs zm zc _ cX4_position 3 "MarginHouse" w := cx
  replace hl : lv_has ls 3 [(0, .ref (ad_ w 0 0)), (1, .int x), (2, .int y)] := hl
  obtain ⟨H, hH⟩ : ∃ H, zs.heap = H := ⟨_, rfl⟩
  rw [hH] at hW
  have hS : Fr_ w zs.heap H [] := by rw [← hH]; exact hS
  obtain ⟨locs, hlocs⟩ : ∃ x : List Loc, x = [] := ⟨_, rfl⟩
  rw [← hlocs] at hS ⊢
  rw [show W zp l ze _ zs zm _ zb zt zc zs.heap locs 0 0 _ (F0 zm 0 ls []) ↔ W zp l ze _ zs zm _ zb zt zc H locs 0 0 _ (F0 zm 0 ls []) from by rw [hH]]
  refine lv_aload_n cx.1 cx.2.1 dX4_position_0 rfl (lv_at hl 0 rfl) ?_
  refine lv_iload_n cx.1 cx.2.1 dX4_position_1 rfl (lv_at hl 1 rfl) ?_
  refine ck_V (v := some (.int (if wi_ x.toInt64 0 (gi_ a 0 0 0 - 1).toInt64 then 1 else 0))) (As := [.int x]) (rest := []) (k := 0) (i := 0) (T := TX4) cx hW hS hl (by decide) rfl rfl (c_X4_isMember l hI a x) cw_X4_isMember nw_182 nw_523 nw_181 rfl rfl (Nat.le_of_ble_eq_true rfl) rfl rfl ⟨Nat.le_of_ble_eq_true rfl, Nat.le_of_ble_eq_true rfl⟩ ⟨Nat.le_of_ble_eq_true rfl, Nat.le_of_ble_eq_true rfl⟩ dX4_position_2 (fun H locs hW hS => ?_)
  refine W.eq (g2 := F0 zm 5 ls [.int (if wi_ x.toInt64 0 (gi_ a 0 0 0 - 1).toInt64 then 1 else 0)]) rfl ?_
  refine lv_if_eq (tgt := 20) cx.1 cx.2.1 dX4_position_5 (by decide) (fun h5 => ?_) (fun h5 => ?_)
  · skip
    have h5 := bz_0 h5
    refine lv_iconst (v := 0) cx.1 cx.2.1 dX4_position_20 (by decide) ?_
    exact ct_S (As := [.int 0]) (rest := []) cx hlk hno hW hS hl (c_X4_need_bad l hI hst a) cw_X4_need nw_123 nw_122 rfl rfl (Nat.le_of_ble_eq_true rfl) rfl rfl ⟨Nat.le_of_ble_eq_true rfl, Nat.le_of_ble_eq_true rfl⟩ ⟨Nat.le_of_ble_eq_true rfl, Nat.le_of_ble_eq_true rfl⟩ dX4_position_21 (Nat.le_of_ble_eq_true rfl) (Nat.le_of_ble_eq_true rfl) rfl rfl
  · skip
    have h5 := bz_1 h5
    refine lv_aload_n cx.1 cx.2.1 dX4_position_8 rfl (lv_at hl 0 rfl) ?_
    refine lv_iload_n cx.1 cx.2.1 dX4_position_9 rfl (lv_at hl 2 rfl) ?_
    refine ck_V (v := some (.int (if wi_ y.toInt64 0 (gi_ a 1 0 0 - 1).toInt64 then 1 else 0))) (As := [.int y]) (rest := []) (k := 0) (i := 0) (T := TX4) cx hW hS hl (by decide) rfl rfl (c_X4_isInstrument l hI a y) cw_X4_isInstrument nw_171 nw_522 nw_170 rfl rfl (Nat.le_of_ble_eq_true rfl) rfl rfl ⟨Nat.le_of_ble_eq_true rfl, Nat.le_of_ble_eq_true rfl⟩ ⟨Nat.le_of_ble_eq_true rfl, Nat.le_of_ble_eq_true rfl⟩ dX4_position_10 (fun H locs hW hS => ?_)
    refine W.eq (g2 := F0 zm 13 ls [.int (if wi_ y.toInt64 0 (gi_ a 1 0 0 - 1).toInt64 then 1 else 0)]) rfl ?_
    refine lv_if_eq (tgt := 20) cx.1 cx.2.1 dX4_position_13 (by decide) (fun h13 => ?_) (fun h13 => ?_)
    · skip
      have h13 := bz_0 h13
      refine lv_iconst (v := 0) cx.1 cx.2.1 dX4_position_20 (by decide) ?_
      exact ct_S (As := [.int 0]) (rest := []) cx hlk hno hW hS hl (c_X4_need_bad l hI hst a) cw_X4_need nw_123 nw_122 rfl rfl (Nat.le_of_ble_eq_true rfl) rfl rfl ⟨Nat.le_of_ble_eq_true rfl, Nat.le_of_ble_eq_true rfl⟩ ⟨Nat.le_of_ble_eq_true rfl, Nat.le_of_ble_eq_true rfl⟩ dX4_position_21 (Nat.le_of_ble_eq_true rfl) (Nat.le_of_ble_eq_true rfl) rfl rfl
    · skip
      have h13 := bz_1 h13
      exact absurd ⟨h5, h13⟩ h
set_option maxHeartbeats 4000000 in
set_option maxRecDepth 100000 in
theorem c_X4_position_ok (l : Launch) {w : Gh_} (hI : In_ w) (hst : l.stackTraces = false) (a : St_) (k : Nat) (hk : gi_ a 0 0 0 = nI k) (hk8 : k ≤ 8) (n : Nat) (hn : gi_ a 1 0 0 = nI n) (hn6 : n ≤ 6) (m j : Nat) (hm : m < k) (hj : j < n) : Fn_ l w yX4_position (.code yX4_position cX4_position 3 (some .int)) { frames := 7, cells := 1, slots := 6, locals := 110 } 1 6 [.ref (ad_ w 0 0), .int (nI m), .int (nI j)] a (.inl (some (.int (gi_ a 4 m j)))) a := by
  refine Fn_of hI (by decide +kernel) (Nat.le_of_ble_eq_true rfl) ?_
  intro zp ze zs zm zb zt zc ls cx hr hlk hno hW hS hl
  replace cx : Cx_ zp zs zm zc _ cX4_position 3 "MarginHouse" w := cx
  replace hl : lv_has ls 3 [(0, .ref (ad_ w 0 0)), (1, .int (nI m)), (2, .int (nI j))] := hl
  obtain ⟨H, hH⟩ : ∃ H, zs.heap = H := ⟨_, rfl⟩
  rw [hH] at hW
  have hS : Fr_ w zs.heap H [] := by rw [← hH]; exact hS
  obtain ⟨locs, hlocs⟩ : ∃ x : List Loc, x = [] := ⟨_, rfl⟩
  rw [← hlocs] at hS ⊢
  rw [show W zp l ze _ zs zm _ zb zt zc zs.heap locs 0 0 _ (F0 zm 0 ls []) ↔ W zp l ze _ zs zm _ zb zt zc H locs 0 0 _ (F0 zm 0 ls []) from by rw [hH]]
  refine lv_aload_n cx.1 cx.2.1 dX4_position_0 rfl (lv_at hl 0 rfl) ?_
  refine lv_iload_n cx.1 cx.2.1 dX4_position_1 rfl (lv_at hl 1 rfl) ?_
  refine ck_V (v := some (.int (if wi_ (nI m).toInt64 0 (gi_ a 0 0 0 - 1).toInt64 then 1 else 0))) (As := [.int (nI m)]) (rest := []) (k := 0) (i := 0) (T := TX4) cx hW hS hl (by decide) rfl rfl (c_X4_isMember l hI a (nI m)) cw_X4_isMember nw_182 nw_523 nw_181 rfl rfl (Nat.le_of_ble_eq_true rfl) rfl rfl ⟨Nat.le_of_ble_eq_true rfl, Nat.le_of_ble_eq_true rfl⟩ ⟨Nat.le_of_ble_eq_true rfl, Nat.le_of_ble_eq_true rfl⟩ dX4_position_2 (fun H locs hW hS => ?_)
  refine W.eq (g2 := F0 zm 5 ls [.int (if wi_ (nI m).toInt64 0 (gi_ a 0 0 0 - 1).toInt64 then 1 else 0)]) rfl ?_
  refine lv_if_eq (tgt := 20) cx.1 cx.2.1 dX4_position_5 (by decide) (fun zz => absurd zz (bz_t (im_in hk (by omega) hm))) (fun h5 => ?_)
  refine lv_aload_n cx.1 cx.2.1 dX4_position_8 rfl (lv_at hl 0 rfl) ?_
  refine lv_iload_n cx.1 cx.2.1 dX4_position_9 rfl (lv_at hl 2 rfl) ?_
  refine ck_V (v := some (.int (if wi_ (nI j).toInt64 0 (gi_ a 1 0 0 - 1).toInt64 then 1 else 0))) (As := [.int (nI j)]) (rest := []) (k := 0) (i := 0) (T := TX4) cx hW hS hl (by decide) rfl rfl (c_X4_isInstrument l hI a (nI j)) cw_X4_isInstrument nw_171 nw_522 nw_170 rfl rfl (Nat.le_of_ble_eq_true rfl) rfl rfl ⟨Nat.le_of_ble_eq_true rfl, Nat.le_of_ble_eq_true rfl⟩ ⟨Nat.le_of_ble_eq_true rfl, Nat.le_of_ble_eq_true rfl⟩ dX4_position_10 (fun H locs hW hS => ?_)
  refine W.eq (g2 := F0 zm 13 ls [.int (if wi_ (nI j).toInt64 0 (gi_ a 1 0 0 - 1).toInt64 then 1 else 0)]) rfl ?_
  refine lv_if_eq (tgt := 20) cx.1 cx.2.1 dX4_position_13 (by decide) (fun zz => absurd zz (bz_t (im_in hn (by omega) hj))) (fun h13 => ?_)
  refine lv_iconst (v := 1) cx.1 cx.2.1 dX4_position_16 (by decide) ?_
  refine lv_goto (tgt := 21) cx.1 cx.2.1 dX4_position_17 (by decide) ?_
  refine ck_S (v := none) (As := [.int 1]) (rest := []) cx hW hS hl (c_X4_need_ok l hI a) cw_X4_need nw_123 nw_122 rfl rfl (Nat.le_of_ble_eq_true rfl) rfl rfl ⟨Nat.le_of_ble_eq_true rfl, Nat.le_of_ble_eq_true rfl⟩ ⟨Nat.le_of_ble_eq_true rfl, Nat.le_of_ble_eq_true rfl⟩ dX4_position_21 (fun H locs hW hS => ?_)
  refine W.eq (g2 := F0 zm 24 ls []) rfl ?_
  refine lv_aload_n cx.1 cx.2.1 dX4_position_24 rfl (lv_at hl 0 rfl) ?_
  refine gf_X4_11 cx hW (by decide) dX4_position_25 ?_
  refine lv_iload_n cx.1 cx.2.1 dX4_position_28 rfl (lv_at hl 1 rfl) ?_
  refine al_1 (j := m) cx hW (by decide) rfl (by omega) dX4_position_29 ?_
  refine gf_X4_114 cx hW (by omega) dX4_position_30 ?_
  refine lv_iload_n cx.1 cx.2.1 dX4_position_33 rfl (lv_at hl 2 rfl) ?_
  refine al_7 (j := j) cx hW (by omega) rfl (by omega) dX4_position_34 ?_
  exact cr_i cx hr hlk hW hS (Nat.le_of_ble_eq_true rfl) (Nat.le_of_ble_eq_true rfl) dX4_position_35 rfl rfl
set_option maxHeartbeats 4000000 in
set_option maxRecDepth 100000 in
theorem c_X4_bore_ia (l : Launch) {w : Gh_} (hI : In_ w) (hst : l.stackTraces = false) (a : St_) (x : Int32) (h : ¬ wi_ x.toInt64 0 4) : Fn_ l w yX4_bore (.code yX4_bore cX4_bore 2 (some .long)) { frames := 7, cells := 1, slots := 6, locals := 110 } 1 6 [.ref (ad_ w 0 0), .int x] a (.inr IA_) a := by
  refine Fn_of hI (by decide +kernel) (Nat.le_of_ble_eq_true rfl) ?_
  intro zp ze zs zm zb zt zc ls cx hr hlk hno hW hS hl
  replace cx : Cx_ zp zs zm zc _ cX4_bore 2 "MarginHouse" w := cx
  replace hl : lv_has ls 2 [(0, .ref (ad_ w 0 0)), (1, .int x)] := hl
  obtain ⟨H, hH⟩ : ∃ H, zs.heap = H := ⟨_, rfl⟩
  rw [hH] at hW
  have hS : Fr_ w zs.heap H [] := by rw [← hH]; exact hS
  obtain ⟨locs, hlocs⟩ : ∃ x : List Loc, x = [] := ⟨_, rfl⟩
  rw [← hlocs] at hS ⊢
  rw [show W zp l ze _ zs zm _ zb zt zc zs.heap locs 0 0 _ (F0 zm 0 ls []) ↔ W zp l ze _ zs zm _ zb zt zc H locs 0 0 _ (F0 zm 0 ls []) from by rw [hH]]
  refine lv_iload_n cx.1 cx.2.1 dX4_bore_0 rfl (lv_at hl 1 rfl) ?_
  refine lv_i2l (v := x.toInt64) cx.1 cx.2.1 dX4_bore_1 rfl ?_
  refine lv_lconst (v := 0) cx.1 cx.2.1 dX4_bore_2 (by decide) ?_
  refine lv_ldc2 (own := "MarginHouse") (v := 4) cx.1 cx.2.1 cx.2.2.2.1 (cx.2.2.2.2.1 _ nw_345) dX4_bore_3 ?_
  refine ck_S (v := some (.int (if wi_ x.toInt64 0 4 then 1 else 0))) (As := [.long x.toInt64, .long 0, .long 4]) (rest := []) cx hW hS hl (c_X4_within l hI a x.toInt64 0 4) cw_X4_within nw_120 nw_119 rfl rfl (Nat.le_of_ble_eq_true rfl) rfl rfl ⟨Nat.le_of_ble_eq_true rfl, Nat.le_of_ble_eq_true rfl⟩ ⟨Nat.le_of_ble_eq_true rfl, Nat.le_of_ble_eq_true rfl⟩ dX4_bore_6 (fun H locs hW hS => ?_)
  refine W.eq (g2 := F0 zm 9 ls [.int (if wi_ x.toInt64 0 4 then 1 else 0)]) rfl ?_
  refine tp_i (y := 0) (if_neg h) ?_
  exact ct_S (As := [.int 0]) (rest := []) cx hlk hno hW hS hl (c_X4_need_bad l hI hst a) cw_X4_need nw_123 nw_122 rfl rfl (Nat.le_of_ble_eq_true rfl) rfl rfl ⟨Nat.le_of_ble_eq_true rfl, Nat.le_of_ble_eq_true rfl⟩ ⟨Nat.le_of_ble_eq_true rfl, Nat.le_of_ble_eq_true rfl⟩ dX4_bore_9 (Nat.le_of_ble_eq_true rfl) (Nat.le_of_ble_eq_true rfl) rfl rfl
set_option maxHeartbeats 4000000 in
set_option maxRecDepth 100000 in
theorem c_X4_bore_ok (l : Launch) {w : Gh_} (hI : In_ w) (hst : l.stackTraces = false) (a : St_) (j : Nat) (hj : j < 5) : Fn_ l w yX4_bore (.code yX4_bore cX4_bore 2 (some .long)) { frames := 7, cells := 1, slots := 6, locals := 110 } 1 6 [.ref (ad_ w 0 0), .int (nI j)] a (.inl (some (.long (gl_ a 4 0 j)))) a := by
  refine Fn_of hI (by decide +kernel) (Nat.le_of_ble_eq_true rfl) ?_
  intro zp ze zs zm zb zt zc ls cx hr hlk hno hW hS hl
  replace cx : Cx_ zp zs zm zc _ cX4_bore 2 "MarginHouse" w := cx
  replace hl : lv_has ls 2 [(0, .ref (ad_ w 0 0)), (1, .int (nI j))] := hl
  obtain ⟨H, hH⟩ : ∃ H, zs.heap = H := ⟨_, rfl⟩
  rw [hH] at hW
  have hS : Fr_ w zs.heap H [] := by rw [← hH]; exact hS
  obtain ⟨locs, hlocs⟩ : ∃ x : List Loc, x = [] := ⟨_, rfl⟩
  rw [← hlocs] at hS ⊢
  rw [show W zp l ze _ zs zm _ zb zt zc zs.heap locs 0 0 _ (F0 zm 0 ls []) ↔ W zp l ze _ zs zm _ zb zt zc H locs 0 0 _ (F0 zm 0 ls []) from by rw [hH]]
  refine lv_iload_n cx.1 cx.2.1 dX4_bore_0 rfl (lv_at hl 1 rfl) ?_
  refine lv_i2l (v := (nI j).toInt64) cx.1 cx.2.1 dX4_bore_1 rfl ?_
  refine lv_lconst (v := 0) cx.1 cx.2.1 dX4_bore_2 (by decide) ?_
  refine lv_ldc2 (own := "MarginHouse") (v := 4) cx.1 cx.2.1 cx.2.2.2.1 (cx.2.2.2.2.1 _ nw_345) dX4_bore_3 ?_
  refine ck_S (v := some (.int (if wi_ ((nI j).toInt64) 0 4 then 1 else 0))) (As := [.long ((nI j).toInt64), .long 0, .long 4]) (rest := []) cx hW hS hl (c_X4_within l hI a ((nI j).toInt64) 0 4) cw_X4_within nw_120 nw_119 rfl rfl (Nat.le_of_ble_eq_true rfl) rfl rfl ⟨Nat.le_of_ble_eq_true rfl, Nat.le_of_ble_eq_true rfl⟩ ⟨Nat.le_of_ble_eq_true rfl, Nat.le_of_ble_eq_true rfl⟩ dX4_bore_6 (fun H locs hW hS => ?_)
  refine W.eq (g2 := F0 zm 9 ls [.int (if wi_ ((nI j).toInt64) 0 4 then 1 else 0)]) rfl ?_
  refine tp_i (y := 1) (if_pos (iw_in (z := 4) (by decide) (by omega) (by omega))) ?_
  refine ck_S (v := none) (As := [.int 1]) (rest := []) cx hW hS hl (c_X4_need_ok l hI a) cw_X4_need nw_123 nw_122 rfl rfl (Nat.le_of_ble_eq_true rfl) rfl rfl ⟨Nat.le_of_ble_eq_true rfl, Nat.le_of_ble_eq_true rfl⟩ ⟨Nat.le_of_ble_eq_true rfl, Nat.le_of_ble_eq_true rfl⟩ dX4_bore_9 (fun H locs hW hS => ?_)
  refine W.eq (g2 := F0 zm 12 ls []) rfl ?_
  refine lv_aload_n cx.1 cx.2.1 dX4_bore_12 rfl (lv_at hl 0 rfl) ?_
  refine gf_X4_26 cx hW (by decide) dX4_bore_13 ?_
  refine lv_iload_n cx.1 cx.2.1 dX4_bore_16 rfl (lv_at hl 1 rfl) ?_
  refine al_4 (j := j) cx hW (by decide) rfl (by omega) dX4_bore_17 ?_
  exact cr_l cx hr hlk hW hS (Nat.le_of_ble_eq_true rfl) (Nat.le_of_ble_eq_true rfl) dX4_bore_18 rfl rfl
set_option maxHeartbeats 4000000 in
set_option maxRecDepth 100000 in
theorem c_X4_all_ia (l : Launch) {w : Gh_} (hI : In_ w) (hst : l.stackTraces = false) (a : St_) (x : Int32) (h : ¬ wi_ x.toInt64 0 5) : Fn_ l w yX4_all (.code yX4_all cX4_all 2 (some .long)) { frames := 7, cells := 1, slots := 6, locals := 110 } 1 6 [.ref (ad_ w 0 0), .int x] a (.inr IA_) a := by
  refine Fn_of hI (by decide +kernel) (Nat.le_of_ble_eq_true rfl) ?_
  intro zp ze zs zm zb zt zc ls cx hr hlk hno hW hS hl
  replace cx : Cx_ zp zs zm zc _ cX4_all 2 "MarginHouse" w := cx
  replace hl : lv_has ls 2 [(0, .ref (ad_ w 0 0)), (1, .int x)] := hl
  obtain ⟨H, hH⟩ : ∃ H, zs.heap = H := ⟨_, rfl⟩
  rw [hH] at hW
  have hS : Fr_ w zs.heap H [] := by rw [← hH]; exact hS
  obtain ⟨locs, hlocs⟩ : ∃ x : List Loc, x = [] := ⟨_, rfl⟩
  rw [← hlocs] at hS ⊢
  rw [show W zp l ze _ zs zm _ zb zt zc zs.heap locs 0 0 _ (F0 zm 0 ls []) ↔ W zp l ze _ zs zm _ zb zt zc H locs 0 0 _ (F0 zm 0 ls []) from by rw [hH]]
  refine lv_iload_n cx.1 cx.2.1 dX4_all_0 rfl (lv_at hl 1 rfl) ?_
  refine lv_i2l (v := x.toInt64) cx.1 cx.2.1 dX4_all_1 rfl ?_
  refine lv_lconst (v := 0) cx.1 cx.2.1 dX4_all_2 (by decide) ?_
  refine lv_ldc2 (own := "MarginHouse") (v := 5) cx.1 cx.2.1 cx.2.2.2.1 (cx.2.2.2.2.1 _ nw_353) dX4_all_3 ?_
  refine ck_S (v := some (.int (if wi_ x.toInt64 0 5 then 1 else 0))) (As := [.long x.toInt64, .long 0, .long 5]) (rest := []) cx hW hS hl (c_X4_within l hI a x.toInt64 0 5) cw_X4_within nw_120 nw_119 rfl rfl (Nat.le_of_ble_eq_true rfl) rfl rfl ⟨Nat.le_of_ble_eq_true rfl, Nat.le_of_ble_eq_true rfl⟩ ⟨Nat.le_of_ble_eq_true rfl, Nat.le_of_ble_eq_true rfl⟩ dX4_all_6 (fun H locs hW hS => ?_)
  refine W.eq (g2 := F0 zm 9 ls [.int (if wi_ x.toInt64 0 5 then 1 else 0)]) rfl ?_
  refine tp_i (y := 0) (if_neg h) ?_
  exact ct_S (As := [.int 0]) (rest := []) cx hlk hno hW hS hl (c_X4_need_bad l hI hst a) cw_X4_need nw_123 nw_122 rfl rfl (Nat.le_of_ble_eq_true rfl) rfl rfl ⟨Nat.le_of_ble_eq_true rfl, Nat.le_of_ble_eq_true rfl⟩ ⟨Nat.le_of_ble_eq_true rfl, Nat.le_of_ble_eq_true rfl⟩ dX4_all_9 (Nat.le_of_ble_eq_true rfl) (Nat.le_of_ble_eq_true rfl) rfl rfl
set_option maxHeartbeats 4000000 in
set_option maxRecDepth 100000 in
theorem c_X4_all_0 (l : Launch) {w : Gh_} (hI : In_ w) (hst : l.stackTraces = false) (a : St_) (k : Nat) (hk : gi_ a 0 0 0 = nI k) (hk8 : k ≤ 8) (n : Nat) (hn : gi_ a 1 0 0 = nI n) (hn6 : n ≤ 6) : Fn_ l w yX4_all (.code yX4_all cX4_all 2 (some .long)) { frames := 7, cells := 1, slots := 6, locals := 110 } 1 6 [.ref (ad_ w 0 0), .int 0] a (.inl (some (.long (gl_ a 0 0 0)))) a := by
  refine Fn_of hI (by decide +kernel) (Nat.le_of_ble_eq_true rfl) ?_
  intro zp ze zs zm zb zt zc ls cx hr hlk hno hW hS hl
  replace cx : Cx_ zp zs zm zc _ cX4_all 2 "MarginHouse" w := cx
  replace hl : lv_has ls 2 [(0, .ref (ad_ w 0 0)), (1, .int 0)] := hl
  obtain ⟨H, hH⟩ : ∃ H, zs.heap = H := ⟨_, rfl⟩
  rw [hH] at hW
  have hS : Fr_ w zs.heap H [] := by rw [← hH]; exact hS
  obtain ⟨locs, hlocs⟩ : ∃ x : List Loc, x = [] := ⟨_, rfl⟩
  rw [← hlocs] at hS ⊢
  rw [show W zp l ze _ zs zm _ zb zt zc zs.heap locs 0 0 _ (F0 zm 0 ls []) ↔ W zp l ze _ zs zm _ zb zt zc H locs 0 0 _ (F0 zm 0 ls []) from by rw [hH]]
  refine lv_iload_n cx.1 cx.2.1 dX4_all_0 rfl (lv_at hl 1 rfl) ?_
  refine lv_i2l (v := (0 : Int32).toInt64) cx.1 cx.2.1 dX4_all_1 rfl ?_
  refine lv_lconst (v := 0) cx.1 cx.2.1 dX4_all_2 (by decide) ?_
  refine lv_ldc2 (own := "MarginHouse") (v := 5) cx.1 cx.2.1 cx.2.2.2.1 (cx.2.2.2.2.1 _ nw_353) dX4_all_3 ?_
  refine ck_S (v := some (.int (if wi_ ((0 : Int32).toInt64) 0 5 then 1 else 0))) (As := [.long ((0 : Int32).toInt64), .long 0, .long 5]) (rest := []) cx hW hS hl (c_X4_within l hI a ((0 : Int32).toInt64) 0 5) cw_X4_within nw_120 nw_119 rfl rfl (Nat.le_of_ble_eq_true rfl) rfl rfl ⟨Nat.le_of_ble_eq_true rfl, Nat.le_of_ble_eq_true rfl⟩ ⟨Nat.le_of_ble_eq_true rfl, Nat.le_of_ble_eq_true rfl⟩ dX4_all_6 (fun H locs hW hS => ?_)
  refine W.eq (g2 := F0 zm 9 ls [.int (if wi_ ((0 : Int32).toInt64) 0 5 then 1 else 0)]) rfl ?_
  refine tp_i (y := 1) (if_pos (by decide)) ?_
  refine ck_S (v := none) (As := [.int 1]) (rest := []) cx hW hS hl (c_X4_need_ok l hI a) cw_X4_need nw_123 nw_122 rfl rfl (Nat.le_of_ble_eq_true rfl) rfl rfl ⟨Nat.le_of_ble_eq_true rfl, Nat.le_of_ble_eq_true rfl⟩ ⟨Nat.le_of_ble_eq_true rfl, Nat.le_of_ble_eq_true rfl⟩ dX4_all_9 (fun H locs hW hS => ?_)
  refine W.eq (g2 := F0 zm 12 ls []) rfl ?_
  refine lv_iload_n cx.1 cx.2.1 dX4_all_12 rfl (lv_at hl 1 rfl) ?_
  refine lv_tableIn (off := 35) (tgt := 48) cx.1 cx.2.1 dX4_all_13 (by decide) (by decide) (by decide) (by decide) ?_
  refine lv_aload_n cx.1 cx.2.1 dX4_all_48 rfl (lv_at hl 0 rfl) ?_
  refine gf_X4_47 cx hW (by decide) dX4_all_49 ?_
  exact cr_l cx hr hlk hW hS (Nat.le_of_ble_eq_true rfl) (Nat.le_of_ble_eq_true rfl) dX4_all_52 rfl rfl
set_option maxHeartbeats 4000000 in
set_option maxRecDepth 100000 in
theorem c_X4_all_1 (l : Launch) {w : Gh_} (hI : In_ w) (hst : l.stackTraces = false) (a : St_) (k : Nat) (hk : gi_ a 0 0 0 = nI k) (hk8 : k ≤ 8) (n : Nat) (hn : gi_ a 1 0 0 = nI n) (hn6 : n ≤ 6) : Fn_ l w yX4_all (.code yX4_all cX4_all 2 (some .long)) { frames := 7, cells := 1, slots := 6, locals := 110 } 1 6 [.ref (ad_ w 0 0), .int 1] a (.inl (some (.long (gl_ a 1 0 0)))) a := by
  refine Fn_of hI (by decide +kernel) (Nat.le_of_ble_eq_true rfl) ?_
  intro zp ze zs zm zb zt zc ls cx hr hlk hno hW hS hl
  replace cx : Cx_ zp zs zm zc _ cX4_all 2 "MarginHouse" w := cx
  replace hl : lv_has ls 2 [(0, .ref (ad_ w 0 0)), (1, .int 1)] := hl
  obtain ⟨H, hH⟩ : ∃ H, zs.heap = H := ⟨_, rfl⟩
  rw [hH] at hW
  have hS : Fr_ w zs.heap H [] := by rw [← hH]; exact hS
  obtain ⟨locs, hlocs⟩ : ∃ x : List Loc, x = [] := ⟨_, rfl⟩
  rw [← hlocs] at hS ⊢
  rw [show W zp l ze _ zs zm _ zb zt zc zs.heap locs 0 0 _ (F0 zm 0 ls []) ↔ W zp l ze _ zs zm _ zb zt zc H locs 0 0 _ (F0 zm 0 ls []) from by rw [hH]]
  refine lv_iload_n cx.1 cx.2.1 dX4_all_0 rfl (lv_at hl 1 rfl) ?_
  refine lv_i2l (v := (1 : Int32).toInt64) cx.1 cx.2.1 dX4_all_1 rfl ?_
  refine lv_lconst (v := 0) cx.1 cx.2.1 dX4_all_2 (by decide) ?_
  refine lv_ldc2 (own := "MarginHouse") (v := 5) cx.1 cx.2.1 cx.2.2.2.1 (cx.2.2.2.2.1 _ nw_353) dX4_all_3 ?_
  refine ck_S (v := some (.int (if wi_ ((1 : Int32).toInt64) 0 5 then 1 else 0))) (As := [.long ((1 : Int32).toInt64), .long 0, .long 5]) (rest := []) cx hW hS hl (c_X4_within l hI a ((1 : Int32).toInt64) 0 5) cw_X4_within nw_120 nw_119 rfl rfl (Nat.le_of_ble_eq_true rfl) rfl rfl ⟨Nat.le_of_ble_eq_true rfl, Nat.le_of_ble_eq_true rfl⟩ ⟨Nat.le_of_ble_eq_true rfl, Nat.le_of_ble_eq_true rfl⟩ dX4_all_6 (fun H locs hW hS => ?_)
  refine W.eq (g2 := F0 zm 9 ls [.int (if wi_ ((1 : Int32).toInt64) 0 5 then 1 else 0)]) rfl ?_
  refine tp_i (y := 1) (if_pos (by decide)) ?_
  refine ck_S (v := none) (As := [.int 1]) (rest := []) cx hW hS hl (c_X4_need_ok l hI a) cw_X4_need nw_123 nw_122 rfl rfl (Nat.le_of_ble_eq_true rfl) rfl rfl ⟨Nat.le_of_ble_eq_true rfl, Nat.le_of_ble_eq_true rfl⟩ ⟨Nat.le_of_ble_eq_true rfl, Nat.le_of_ble_eq_true rfl⟩ dX4_all_9 (fun H locs hW hS => ?_)
  refine W.eq (g2 := F0 zm 12 ls []) rfl ?_
  refine lv_iload_n cx.1 cx.2.1 dX4_all_12 rfl (lv_at hl 1 rfl) ?_
  refine lv_tableIn (off := 40) (tgt := 53) cx.1 cx.2.1 dX4_all_13 (by decide) (by decide) (by decide) (by decide) ?_
  refine lv_aload_n cx.1 cx.2.1 dX4_all_53 rfl (lv_at hl 0 rfl) ?_
  refine gf_X4_51 cx hW (by decide) dX4_all_54 ?_
  exact cr_l cx hr hlk hW hS (Nat.le_of_ble_eq_true rfl) (Nat.le_of_ble_eq_true rfl) dX4_all_57 rfl rfl
set_option maxHeartbeats 4000000 in
set_option maxRecDepth 100000 in
theorem c_X4_all_2 (l : Launch) {w : Gh_} (hI : In_ w) (hst : l.stackTraces = false) (a : St_) (k : Nat) (hk : gi_ a 0 0 0 = nI k) (hk8 : k ≤ 8) (n : Nat) (hn : gi_ a 1 0 0 = nI n) (hn6 : n ≤ 6) : Fn_ l w yX4_all (.code yX4_all cX4_all 2 (some .long)) { frames := 7, cells := 1, slots := 6, locals := 110 } 1 6 [.ref (ad_ w 0 0), .int 2] a (.inl (some (.long (sm_ a 2 k)))) a := by
  refine Fn_of hI (by decide +kernel) (Nat.le_of_ble_eq_true rfl) ?_
  intro zp ze zs zm zb zt zc ls cx hr hlk hno hW hS hl
  replace cx : Cx_ zp zs zm zc _ cX4_all 2 "MarginHouse" w := cx
  replace hl : lv_has ls 2 [(0, .ref (ad_ w 0 0)), (1, .int 2)] := hl
  obtain ⟨H, hH⟩ : ∃ H, zs.heap = H := ⟨_, rfl⟩
  rw [hH] at hW
  have hS : Fr_ w zs.heap H [] := by rw [← hH]; exact hS
  obtain ⟨locs, hlocs⟩ : ∃ x : List Loc, x = [] := ⟨_, rfl⟩
  rw [← hlocs] at hS ⊢
  rw [show W zp l ze _ zs zm _ zb zt zc zs.heap locs 0 0 _ (F0 zm 0 ls []) ↔ W zp l ze _ zs zm _ zb zt zc H locs 0 0 _ (F0 zm 0 ls []) from by rw [hH]]
  refine lv_iload_n cx.1 cx.2.1 dX4_all_0 rfl (lv_at hl 1 rfl) ?_
  refine lv_i2l (v := (2 : Int32).toInt64) cx.1 cx.2.1 dX4_all_1 rfl ?_
  refine lv_lconst (v := 0) cx.1 cx.2.1 dX4_all_2 (by decide) ?_
  refine lv_ldc2 (own := "MarginHouse") (v := 5) cx.1 cx.2.1 cx.2.2.2.1 (cx.2.2.2.2.1 _ nw_353) dX4_all_3 ?_
  refine ck_S (v := some (.int (if wi_ ((2 : Int32).toInt64) 0 5 then 1 else 0))) (As := [.long ((2 : Int32).toInt64), .long 0, .long 5]) (rest := []) cx hW hS hl (c_X4_within l hI a ((2 : Int32).toInt64) 0 5) cw_X4_within nw_120 nw_119 rfl rfl (Nat.le_of_ble_eq_true rfl) rfl rfl ⟨Nat.le_of_ble_eq_true rfl, Nat.le_of_ble_eq_true rfl⟩ ⟨Nat.le_of_ble_eq_true rfl, Nat.le_of_ble_eq_true rfl⟩ dX4_all_6 (fun H locs hW hS => ?_)
  refine W.eq (g2 := F0 zm 9 ls [.int (if wi_ ((2 : Int32).toInt64) 0 5 then 1 else 0)]) rfl ?_
  refine tp_i (y := 1) (if_pos (by decide)) ?_
  refine ck_S (v := none) (As := [.int 1]) (rest := []) cx hW hS hl (c_X4_need_ok l hI a) cw_X4_need nw_123 nw_122 rfl rfl (Nat.le_of_ble_eq_true rfl) rfl rfl ⟨Nat.le_of_ble_eq_true rfl, Nat.le_of_ble_eq_true rfl⟩ ⟨Nat.le_of_ble_eq_true rfl, Nat.le_of_ble_eq_true rfl⟩ dX4_all_9 (fun H locs hW hS => ?_)
  refine W.eq (g2 := F0 zm 12 ls []) rfl ?_
  refine lv_iload_n cx.1 cx.2.1 dX4_all_12 rfl (lv_at hl 1 rfl) ?_
  refine lv_tableIn (off := 45) (tgt := 58) cx.1 cx.2.1 dX4_all_13 (by decide) (by decide) (by decide) (by decide) ?_
  refine lv_aload_n cx.1 cx.2.1 dX4_all_58 rfl (lv_at hl 0 rfl) ?_
  refine ck_V (v := some (.long (sm_ a 2 k))) (As := []) (rest := []) (k := 0) (i := 0) (T := TX4) cx hW hS hl (by decide) rfl rfl (c_X4_sumCash l hI a k hk hk8) cw_X4_sumCash nw_355 nw_538 nw_354 rfl rfl (Nat.le_of_ble_eq_true rfl) rfl rfl ⟨Nat.le_of_ble_eq_true rfl, Nat.le_of_ble_eq_true rfl⟩ ⟨Nat.le_of_ble_eq_true rfl, Nat.le_of_ble_eq_true rfl⟩ dX4_all_59 (fun H locs hW hS => ?_)
  refine W.eq (g2 := F0 zm 62 ls [.long (sm_ a 2 k)]) rfl ?_
  exact cr_l cx hr hlk hW hS (Nat.le_of_ble_eq_true rfl) (Nat.le_of_ble_eq_true rfl) dX4_all_62 rfl rfl
set_option maxHeartbeats 4000000 in
set_option maxRecDepth 100000 in
theorem c_X4_all_3 (l : Launch) {w : Gh_} (hI : In_ w) (hst : l.stackTraces = false) (a : St_) (k : Nat) (hk : gi_ a 0 0 0 = nI k) (hk8 : k ≤ 8) (n : Nat) (hn : gi_ a 1 0 0 = nI n) (hn6 : n ≤ 6) : Fn_ l w yX4_all (.code yX4_all cX4_all 2 (some .long)) { frames := 7, cells := 1, slots := 6, locals := 110 } 1 6 [.ref (ad_ w 0 0), .int 3] a (.inl (some (.long (sm_ a 3 k)))) a := by
  refine Fn_of hI (by decide +kernel) (Nat.le_of_ble_eq_true rfl) ?_
  intro zp ze zs zm zb zt zc ls cx hr hlk hno hW hS hl
  replace cx : Cx_ zp zs zm zc _ cX4_all 2 "MarginHouse" w := cx
  replace hl : lv_has ls 2 [(0, .ref (ad_ w 0 0)), (1, .int 3)] := hl
  obtain ⟨H, hH⟩ : ∃ H, zs.heap = H := ⟨_, rfl⟩
  rw [hH] at hW
  have hS : Fr_ w zs.heap H [] := by rw [← hH]; exact hS
  obtain ⟨locs, hlocs⟩ : ∃ x : List Loc, x = [] := ⟨_, rfl⟩
  rw [← hlocs] at hS ⊢
  rw [show W zp l ze _ zs zm _ zb zt zc zs.heap locs 0 0 _ (F0 zm 0 ls []) ↔ W zp l ze _ zs zm _ zb zt zc H locs 0 0 _ (F0 zm 0 ls []) from by rw [hH]]
  refine lv_iload_n cx.1 cx.2.1 dX4_all_0 rfl (lv_at hl 1 rfl) ?_
  refine lv_i2l (v := (3 : Int32).toInt64) cx.1 cx.2.1 dX4_all_1 rfl ?_
  refine lv_lconst (v := 0) cx.1 cx.2.1 dX4_all_2 (by decide) ?_
  refine lv_ldc2 (own := "MarginHouse") (v := 5) cx.1 cx.2.1 cx.2.2.2.1 (cx.2.2.2.2.1 _ nw_353) dX4_all_3 ?_
  refine ck_S (v := some (.int (if wi_ ((3 : Int32).toInt64) 0 5 then 1 else 0))) (As := [.long ((3 : Int32).toInt64), .long 0, .long 5]) (rest := []) cx hW hS hl (c_X4_within l hI a ((3 : Int32).toInt64) 0 5) cw_X4_within nw_120 nw_119 rfl rfl (Nat.le_of_ble_eq_true rfl) rfl rfl ⟨Nat.le_of_ble_eq_true rfl, Nat.le_of_ble_eq_true rfl⟩ ⟨Nat.le_of_ble_eq_true rfl, Nat.le_of_ble_eq_true rfl⟩ dX4_all_6 (fun H locs hW hS => ?_)
  refine W.eq (g2 := F0 zm 9 ls [.int (if wi_ ((3 : Int32).toInt64) 0 5 then 1 else 0)]) rfl ?_
  refine tp_i (y := 1) (if_pos (by decide)) ?_
  refine ck_S (v := none) (As := [.int 1]) (rest := []) cx hW hS hl (c_X4_need_ok l hI a) cw_X4_need nw_123 nw_122 rfl rfl (Nat.le_of_ble_eq_true rfl) rfl rfl ⟨Nat.le_of_ble_eq_true rfl, Nat.le_of_ble_eq_true rfl⟩ ⟨Nat.le_of_ble_eq_true rfl, Nat.le_of_ble_eq_true rfl⟩ dX4_all_9 (fun H locs hW hS => ?_)
  refine W.eq (g2 := F0 zm 12 ls []) rfl ?_
  refine lv_iload_n cx.1 cx.2.1 dX4_all_12 rfl (lv_at hl 1 rfl) ?_
  refine lv_tableIn (off := 50) (tgt := 63) cx.1 cx.2.1 dX4_all_13 (by decide) (by decide) (by decide) (by decide) ?_
  refine lv_aload_n cx.1 cx.2.1 dX4_all_63 rfl (lv_at hl 0 rfl) ?_
  refine ck_V (v := some (.long (sm_ a 3 k))) (As := []) (rest := []) (k := 0) (i := 0) (T := TX4) cx hW hS hl (by decide) rfl rfl (c_X4_sumContributions l hI a k hk hk8) cw_X4_sumContributions nw_358 nw_539 nw_357 rfl rfl (Nat.le_of_ble_eq_true rfl) rfl rfl ⟨Nat.le_of_ble_eq_true rfl, Nat.le_of_ble_eq_true rfl⟩ ⟨Nat.le_of_ble_eq_true rfl, Nat.le_of_ble_eq_true rfl⟩ dX4_all_64 (fun H locs hW hS => ?_)
  refine W.eq (g2 := F0 zm 67 ls [.long (sm_ a 3 k)]) rfl ?_
  exact cr_l cx hr hlk hW hS (Nat.le_of_ble_eq_true rfl) (Nat.le_of_ble_eq_true rfl) dX4_all_67 rfl rfl
set_option maxHeartbeats 4000000 in
set_option maxRecDepth 100000 in
theorem c_X4_all_4 (l : Launch) {w : Gh_} (hI : In_ w) (hst : l.stackTraces = false) (a : St_) (k : Nat) (hk : gi_ a 0 0 0 = nI k) (hk8 : k ≤ 8) (n : Nat) (hn : gi_ a 1 0 0 = nI n) (hn6 : n ≤ 6) : Fn_ l w yX4_all (.code yX4_all cX4_all 2 (some .long)) { frames := 7, cells := 1, slots := 6, locals := 110 } 1 6 [.ref (ad_ w 0 0), .int 4] a (.inl (some (.long ((gi_ a 2 0 0).toInt64)))) a := by
  refine Fn_of hI (by decide +kernel) (Nat.le_of_ble_eq_true rfl) ?_
  intro zp ze zs zm zb zt zc ls cx hr hlk hno hW hS hl
  replace cx : Cx_ zp zs zm zc _ cX4_all 2 "MarginHouse" w := cx
  replace hl : lv_has ls 2 [(0, .ref (ad_ w 0 0)), (1, .int 4)] := hl
  obtain ⟨H, hH⟩ : ∃ H, zs.heap = H := ⟨_, rfl⟩
  rw [hH] at hW
  have hS : Fr_ w zs.heap H [] := by rw [← hH]; exact hS
  obtain ⟨locs, hlocs⟩ : ∃ x : List Loc, x = [] := ⟨_, rfl⟩
  rw [← hlocs] at hS ⊢
  rw [show W zp l ze _ zs zm _ zb zt zc zs.heap locs 0 0 _ (F0 zm 0 ls []) ↔ W zp l ze _ zs zm _ zb zt zc H locs 0 0 _ (F0 zm 0 ls []) from by rw [hH]]
  refine lv_iload_n cx.1 cx.2.1 dX4_all_0 rfl (lv_at hl 1 rfl) ?_
  refine lv_i2l (v := (4 : Int32).toInt64) cx.1 cx.2.1 dX4_all_1 rfl ?_
  refine lv_lconst (v := 0) cx.1 cx.2.1 dX4_all_2 (by decide) ?_
  refine lv_ldc2 (own := "MarginHouse") (v := 5) cx.1 cx.2.1 cx.2.2.2.1 (cx.2.2.2.2.1 _ nw_353) dX4_all_3 ?_
  refine ck_S (v := some (.int (if wi_ ((4 : Int32).toInt64) 0 5 then 1 else 0))) (As := [.long ((4 : Int32).toInt64), .long 0, .long 5]) (rest := []) cx hW hS hl (c_X4_within l hI a ((4 : Int32).toInt64) 0 5) cw_X4_within nw_120 nw_119 rfl rfl (Nat.le_of_ble_eq_true rfl) rfl rfl ⟨Nat.le_of_ble_eq_true rfl, Nat.le_of_ble_eq_true rfl⟩ ⟨Nat.le_of_ble_eq_true rfl, Nat.le_of_ble_eq_true rfl⟩ dX4_all_6 (fun H locs hW hS => ?_)
  refine W.eq (g2 := F0 zm 9 ls [.int (if wi_ ((4 : Int32).toInt64) 0 5 then 1 else 0)]) rfl ?_
  refine tp_i (y := 1) (if_pos (by decide)) ?_
  refine ck_S (v := none) (As := [.int 1]) (rest := []) cx hW hS hl (c_X4_need_ok l hI a) cw_X4_need nw_123 nw_122 rfl rfl (Nat.le_of_ble_eq_true rfl) rfl rfl ⟨Nat.le_of_ble_eq_true rfl, Nat.le_of_ble_eq_true rfl⟩ ⟨Nat.le_of_ble_eq_true rfl, Nat.le_of_ble_eq_true rfl⟩ dX4_all_9 (fun H locs hW hS => ?_)
  refine W.eq (g2 := F0 zm 12 ls []) rfl ?_
  refine lv_iload_n cx.1 cx.2.1 dX4_all_12 rfl (lv_at hl 1 rfl) ?_
  refine lv_tableIn (off := 55) (tgt := 68) cx.1 cx.2.1 dX4_all_13 (by decide) (by decide) (by decide) (by decide) ?_
  refine lv_aload_n cx.1 cx.2.1 dX4_all_68 rfl (lv_at hl 0 rfl) ?_
  refine gf_X4_44 cx hW (by decide) dX4_all_69 ?_
  refine lv_i2l (v := (gi_ a 2 0 0).toInt64) cx.1 cx.2.1 dX4_all_72 rfl ?_
  exact cr_l cx hr hlk hW hS (Nat.le_of_ble_eq_true rfl) (Nat.le_of_ble_eq_true rfl) dX4_all_73 rfl rfl
set_option maxHeartbeats 4000000 in
set_option maxRecDepth 100000 in
theorem c_X4_all_5 (l : Launch) {w : Gh_} (hI : In_ w) (hst : l.stackTraces = false) (a : St_) (k : Nat) (hk : gi_ a 0 0 0 = nI k) (hk8 : k ≤ 8) (n : Nat) (hn : gi_ a 1 0 0 = nI n) (hn6 : n ≤ 6) : Fn_ l w yX4_all (.code yX4_all cX4_all 2 (some .long)) { frames := 7, cells := 1, slots := 6, locals := 110 } 1 6 [.ref (ad_ w 0 0), .int 5] a (.inl (some (.long (so_ a n k)))) a := by
  refine Fn_of hI (by decide +kernel) (Nat.le_of_ble_eq_true rfl) ?_
  intro zp ze zs zm zb zt zc ls cx hr hlk hno hW hS hl
  replace cx : Cx_ zp zs zm zc _ cX4_all 2 "MarginHouse" w := cx
  replace hl : lv_has ls 2 [(0, .ref (ad_ w 0 0)), (1, .int 5)] := hl
  obtain ⟨H, hH⟩ : ∃ H, zs.heap = H := ⟨_, rfl⟩
  rw [hH] at hW
  have hS : Fr_ w zs.heap H [] := by rw [← hH]; exact hS
  obtain ⟨locs, hlocs⟩ : ∃ x : List Loc, x = [] := ⟨_, rfl⟩
  rw [← hlocs] at hS ⊢
  rw [show W zp l ze _ zs zm _ zb zt zc zs.heap locs 0 0 _ (F0 zm 0 ls []) ↔ W zp l ze _ zs zm _ zb zt zc H locs 0 0 _ (F0 zm 0 ls []) from by rw [hH]]
  refine lv_iload_n cx.1 cx.2.1 dX4_all_0 rfl (lv_at hl 1 rfl) ?_
  refine lv_i2l (v := (5 : Int32).toInt64) cx.1 cx.2.1 dX4_all_1 rfl ?_
  refine lv_lconst (v := 0) cx.1 cx.2.1 dX4_all_2 (by decide) ?_
  refine lv_ldc2 (own := "MarginHouse") (v := 5) cx.1 cx.2.1 cx.2.2.2.1 (cx.2.2.2.2.1 _ nw_353) dX4_all_3 ?_
  refine ck_S (v := some (.int (if wi_ ((5 : Int32).toInt64) 0 5 then 1 else 0))) (As := [.long ((5 : Int32).toInt64), .long 0, .long 5]) (rest := []) cx hW hS hl (c_X4_within l hI a ((5 : Int32).toInt64) 0 5) cw_X4_within nw_120 nw_119 rfl rfl (Nat.le_of_ble_eq_true rfl) rfl rfl ⟨Nat.le_of_ble_eq_true rfl, Nat.le_of_ble_eq_true rfl⟩ ⟨Nat.le_of_ble_eq_true rfl, Nat.le_of_ble_eq_true rfl⟩ dX4_all_6 (fun H locs hW hS => ?_)
  refine W.eq (g2 := F0 zm 9 ls [.int (if wi_ ((5 : Int32).toInt64) 0 5 then 1 else 0)]) rfl ?_
  refine tp_i (y := 1) (if_pos (by decide)) ?_
  refine ck_S (v := none) (As := [.int 1]) (rest := []) cx hW hS hl (c_X4_need_ok l hI a) cw_X4_need nw_123 nw_122 rfl rfl (Nat.le_of_ble_eq_true rfl) rfl rfl ⟨Nat.le_of_ble_eq_true rfl, Nat.le_of_ble_eq_true rfl⟩ ⟨Nat.le_of_ble_eq_true rfl, Nat.le_of_ble_eq_true rfl⟩ dX4_all_9 (fun H locs hW hS => ?_)
  refine W.eq (g2 := F0 zm 12 ls []) rfl ?_
  refine lv_iload_n cx.1 cx.2.1 dX4_all_12 rfl (lv_at hl 1 rfl) ?_
  refine lv_tableOut (tgt := 74) cx.1 cx.2.1 dX4_all_13 (Or.inr (by decide)) (by decide) ?_
  refine lv_aload_n cx.1 cx.2.1 dX4_all_74 rfl (lv_at hl 0 rfl) ?_
  refine ck_V (v := some (.long (so_ a n k))) (As := []) (rest := []) (k := 0) (i := 0) (T := TX4) cx hW hS hl (by decide) rfl rfl (c_X4_sumUnitsOpen l hI a k hk hk8 n hn hn6) cw_X4_sumUnitsOpen nw_361 nw_540 nw_360 rfl rfl (Nat.le_of_ble_eq_true rfl) rfl rfl ⟨Nat.le_of_ble_eq_true rfl, Nat.le_of_ble_eq_true rfl⟩ ⟨Nat.le_of_ble_eq_true rfl, Nat.le_of_ble_eq_true rfl⟩ dX4_all_75 (fun H locs hW hS => ?_)
  refine W.eq (g2 := F0 zm 78 ls [.long (so_ a n k)]) rfl ?_
  exact cr_l cx hr hlk hW hS (Nat.le_of_ble_eq_true rfl) (Nat.le_of_ble_eq_true rfl) dX4_all_78 rfl rfl
