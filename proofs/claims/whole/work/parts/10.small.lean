/-! MarginHouse: the small questions, the throws -/
abbrev wi_ (x lo hi : Int64) : Prop := ¬ x < lo ∧ ¬ hi < x
set_option maxHeartbeats 4000000 in
set_option maxRecDepth 100000 in
theorem c_X4_within (l : Launch) {w : Gh_} (hI : In_ w) (a : St_) (x lo hi : Int64) : Fn_ l w yX4_within (.code yX4_within cX4_within 6 (some .boolean)) { frames := 0, cells := 0, slots := 0, locals := 0 } 0 0 [.long x, .long lo, .long hi] a (.inl (some (.int (if wi_ x lo hi then 1 else 0)))) a := by
  refine Fn_of hI (by decide +kernel) (Nat.le_of_ble_eq_true rfl) ?_
  intro zp ze zs zm zb zt zc ls cx hr hlk hno hW hS hl
  replace cx : Cx_ zp zs zm zc _ cX4_within 6 "MarginHouse" w := cx
  replace hl : lv_has ls 6 [(0, .long x), (2, .long lo), (4, .long hi)] := hl
  obtain ⟨H, hH⟩ : ∃ H, zs.heap = H := ⟨_, rfl⟩
  rw [hH] at hW
  have hS : Fr_ w zs.heap H [] := by rw [← hH]; exact hS
  obtain ⟨locs, hlocs⟩ : ∃ x : List Loc, x = [] := ⟨_, rfl⟩
  rw [← hlocs] at hS ⊢
  rw [show W zp l ze _ zs zm _ zb zt zc zs.heap locs 0 0 _ (F0 zm 0 ls []) ↔ W zp l ze _ zs zm _ zb zt zc H locs 0 0 _ (F0 zm 0 ls []) from by rw [hH]]
  refine lv_lload_n cx.1 cx.2.1 dX4_within_0 rfl (lv_at hl 0 rfl) ?_
  refine lv_lload_n cx.1 cx.2.1 dX4_within_1 rfl (lv_at hl 1 rfl) ?_
  refine lc_lt (tgt := 17) cx.1 cx.2.1 dX4_within_2 dX4_within_3 (by decide) (fun h2 => ?_) (fun h2 => ?_)
  · skip
    refine lv_iconst (v := 0) cx.1 cx.2.1 dX4_within_17 (by decide) ?_
    exact cr_z cx hr hlk (by decide) hW hS (Nat.le_of_ble_eq_true rfl) (Nat.le_of_ble_eq_true rfl) dX4_within_18 (by simp [h2]) rfl
  · skip
    refine lv_lload_n cx.1 cx.2.1 dX4_within_6 rfl (lv_at hl 0 rfl) ?_
    refine lv_lload cx.1 cx.2.1 dX4_within_7 (lv_at hl 2 rfl) ?_
    refine lc_gt (tgt := 17) cx.1 cx.2.1 dX4_within_9 dX4_within_10 (by decide) (fun h9 => ?_) (fun h9 => ?_)
    · skip
      refine lv_iconst (v := 0) cx.1 cx.2.1 dX4_within_17 (by decide) ?_
      exact cr_z cx hr hlk (by decide) hW hS (Nat.le_of_ble_eq_true rfl) (Nat.le_of_ble_eq_true rfl) dX4_within_18 (by simp [h2, h9]) rfl
    · skip
      refine lv_iconst (v := 1) cx.1 cx.2.1 dX4_within_13 (by decide) ?_
      refine lv_goto (tgt := 18) cx.1 cx.2.1 dX4_within_14 (by decide) ?_
      exact cr_z cx hr hlk (by decide) hW hS (Nat.le_of_ble_eq_true rfl) (Nat.le_of_ble_eq_true rfl) dX4_within_18 (by simp [h2, h9]) rfl
set_option maxHeartbeats 4000000 in
set_option maxRecDepth 100000 in
theorem c_X5_within (l : Launch) {w : Gh_} (hI : In_ w) (a : St_) (x lo hi : Int64) : Fn_ l w yX5_within (.code yX5_within cX5_within 6 (some .boolean)) { frames := 0, cells := 0, slots := 0, locals := 0 } 0 0 [.long x, .long lo, .long hi] a (.inl (some (.int (if wi_ x lo hi then 1 else 0)))) a := by
  refine Fn_of hI (by decide +kernel) (Nat.le_of_ble_eq_true rfl) ?_
  intro zp ze zs zm zb zt zc ls cx hr hlk hno hW hS hl
  replace cx : Cx_ zp zs zm zc _ cX5_within 6 "MarginHouseModel" w := cx
  replace hl : lv_has ls 6 [(0, .long x), (2, .long lo), (4, .long hi)] := hl
  obtain ⟨H, hH⟩ : ∃ H, zs.heap = H := ⟨_, rfl⟩
  rw [hH] at hW
  have hS : Fr_ w zs.heap H [] := by rw [← hH]; exact hS
  obtain ⟨locs, hlocs⟩ : ∃ x : List Loc, x = [] := ⟨_, rfl⟩
  rw [← hlocs] at hS ⊢
  rw [show W zp l ze _ zs zm _ zb zt zc zs.heap locs 0 0 _ (F0 zm 0 ls []) ↔ W zp l ze _ zs zm _ zb zt zc H locs 0 0 _ (F0 zm 0 ls []) from by rw [hH]]
  refine lv_lload_n cx.1 cx.2.1 dX5_within_0 rfl (lv_at hl 0 rfl) ?_
  refine lv_lload_n cx.1 cx.2.1 dX5_within_1 rfl (lv_at hl 1 rfl) ?_
  refine lc_lt (tgt := 17) cx.1 cx.2.1 dX5_within_2 dX5_within_3 (by decide) (fun h2 => ?_) (fun h2 => ?_)
  · skip
    refine lv_iconst (v := 0) cx.1 cx.2.1 dX5_within_17 (by decide) ?_
    exact cr_z cx hr hlk (by decide) hW hS (Nat.le_of_ble_eq_true rfl) (Nat.le_of_ble_eq_true rfl) dX5_within_18 (by simp [h2]) rfl
  · skip
    refine lv_lload_n cx.1 cx.2.1 dX5_within_6 rfl (lv_at hl 0 rfl) ?_
    refine lv_lload cx.1 cx.2.1 dX5_within_7 (lv_at hl 2 rfl) ?_
    refine lc_gt (tgt := 17) cx.1 cx.2.1 dX5_within_9 dX5_within_10 (by decide) (fun h9 => ?_) (fun h9 => ?_)
    · skip
      refine lv_iconst (v := 0) cx.1 cx.2.1 dX5_within_17 (by decide) ?_
      exact cr_z cx hr hlk (by decide) hW hS (Nat.le_of_ble_eq_true rfl) (Nat.le_of_ble_eq_true rfl) dX5_within_18 (by simp [h2, h9]) rfl
    · skip
      refine lv_iconst (v := 1) cx.1 cx.2.1 dX5_within_13 (by decide) ?_
      refine lv_goto (tgt := 18) cx.1 cx.2.1 dX5_within_14 (by decide) ?_
      exact cr_z cx hr hlk (by decide) hW hS (Nat.le_of_ble_eq_true rfl) (Nat.le_of_ble_eq_true rfl) dX5_within_18 (by simp [h2, h9]) rfl
set_option maxHeartbeats 4000000 in
set_option maxRecDepth 100000 in
theorem c_X4_isTooMuch (l : Launch) {w : Gh_} (hI : In_ w) (a : St_) (x : Int64) : Fn_ l w yX4_isTooMuch (.code yX4_isTooMuch cX4_isTooMuch 2 (some .boolean)) { frames := 1, cells := 0, slots := 0, locals := 25 } 0 0 [.long x] a (.inl (some (.int (if ¬ wi_ x (-1000000000000000) 1000000000000000 then 1 else 0)))) a := by
  refine Fn_of hI (by decide +kernel) (Nat.le_of_ble_eq_true rfl) ?_
  intro zp ze zs zm zb zt zc ls cx hr hlk hno hW hS hl
  replace cx : Cx_ zp zs zm zc _ cX4_isTooMuch 2 "MarginHouse" w := cx
  replace hl : lv_has ls 2 [(0, .long x)] := hl
  obtain ⟨H, hH⟩ : ∃ H, zs.heap = H := ⟨_, rfl⟩
  rw [hH] at hW
  have hS : Fr_ w zs.heap H [] := by rw [← hH]; exact hS
  obtain ⟨locs, hlocs⟩ : ∃ x : List Loc, x = [] := ⟨_, rfl⟩
  rw [← hlocs] at hS ⊢
  rw [show W zp l ze _ zs zm _ zb zt zc zs.heap locs 0 0 _ (F0 zm 0 ls []) ↔ W zp l ze _ zs zm _ zb zt zc H locs 0 0 _ (F0 zm 0 ls []) from by rw [hH]]
  refine lv_lload_n cx.1 cx.2.1 dX4_isTooMuch_0 rfl (lv_at hl 0 rfl) ?_
  refine lv_ldc2 (own := "MarginHouse") (v := -1000000000000000) cx.1 cx.2.1 cx.2.2.2.1 (cx.2.2.2.2.1 _ nw_159) dX4_isTooMuch_1 ?_
  refine lv_ldc2 (own := "MarginHouse") (v := 1000000000000000) cx.1 cx.2.1 cx.2.2.2.1 (cx.2.2.2.2.1 _ nw_160) dX4_isTooMuch_4 ?_
  refine ck_S (v := some (.int (if wi_ x (-1000000000000000) 1000000000000000 then 1 else 0))) (As := [.long x, .long (-1000000000000000), .long 1000000000000000]) (rest := []) cx hW hS hl (c_X4_within l hI a x (-1000000000000000) 1000000000000000) cw_X4_within nw_120 nw_119 rfl rfl (Nat.le_of_ble_eq_true rfl) rfl rfl ⟨Nat.le_of_ble_eq_true rfl, Nat.le_of_ble_eq_true rfl⟩ ⟨Nat.le_of_ble_eq_true rfl, Nat.le_of_ble_eq_true rfl⟩ dX4_isTooMuch_7 (fun H locs hW hS => ?_)
  refine W.eq (g2 := F0 zm 10 ls [.int (if wi_ x (-1000000000000000) 1000000000000000 then 1 else 0)]) rfl ?_
  refine lv_if_ne (tgt := 17) cx.1 cx.2.1 dX4_isTooMuch_10 (by decide) (fun h10 => ?_) (fun h10 => ?_)
  · skip
    have h10 := bz_1 h10
    refine lv_iconst (v := 0) cx.1 cx.2.1 dX4_isTooMuch_17 (by decide) ?_
    exact cr_z cx hr hlk (by decide) hW hS (Nat.le_of_ble_eq_true rfl) (Nat.le_of_ble_eq_true rfl) dX4_isTooMuch_18 (by simp [h10]) rfl
  · skip
    have h10 := bz_0 h10
    refine lv_iconst (v := 1) cx.1 cx.2.1 dX4_isTooMuch_13 (by decide) ?_
    refine lv_goto (tgt := 18) cx.1 cx.2.1 dX4_isTooMuch_14 (by decide) ?_
    exact cr_z cx hr hlk (by decide) hW hS (Nat.le_of_ble_eq_true rfl) (Nat.le_of_ble_eq_true rfl) dX4_isTooMuch_18 (by simp [h10]) rfl
set_option maxHeartbeats 4000000 in
set_option maxRecDepth 100000 in
theorem c_X4_isTooMany (l : Launch) {w : Gh_} (hI : In_ w) (a : St_) (x : Int32) : Fn_ l w yX4_isTooMany (.code yX4_isTooMany cX4_isTooMany 1 (some .boolean)) { frames := 1, cells := 0, slots := 0, locals := 25 } 0 0 [.int x] a (.inl (some (.int (if ¬ wi_ x.toInt64 (-1000000) 1000000 then 1 else 0)))) a := by
  refine Fn_of hI (by decide +kernel) (Nat.le_of_ble_eq_true rfl) ?_
  intro zp ze zs zm zb zt zc ls cx hr hlk hno hW hS hl
  replace cx : Cx_ zp zs zm zc _ cX4_isTooMany 1 "MarginHouse" w := cx
  replace hl : lv_has ls 1 [(0, .int x)] := hl
  obtain ⟨H, hH⟩ : ∃ H, zs.heap = H := ⟨_, rfl⟩
  rw [hH] at hW
  have hS : Fr_ w zs.heap H [] := by rw [← hH]; exact hS
  obtain ⟨locs, hlocs⟩ : ∃ x : List Loc, x = [] := ⟨_, rfl⟩
  rw [← hlocs] at hS ⊢
  rw [show W zp l ze _ zs zm _ zb zt zc zs.heap locs 0 0 _ (F0 zm 0 ls []) ↔ W zp l ze _ zs zm _ zb zt zc H locs 0 0 _ (F0 zm 0 ls []) from by rw [hH]]
  refine lv_iload_n cx.1 cx.2.1 dX4_isTooMany_0 rfl (lv_at hl 0 rfl) ?_
  refine lv_i2l (v := x.toInt64) cx.1 cx.2.1 dX4_isTooMany_1 rfl ?_
  refine lv_ldc2 (own := "MarginHouse") (v := -1000000) cx.1 cx.2.1 cx.2.2.2.1 (cx.2.2.2.2.1 _ nw_173) dX4_isTooMany_2 ?_
  refine lv_ldc2 (own := "MarginHouse") (v := 1000000) cx.1 cx.2.1 cx.2.2.2.1 (cx.2.2.2.2.1 _ nw_148) dX4_isTooMany_5 ?_
  refine ck_S (v := some (.int (if wi_ x.toInt64 (-1000000) 1000000 then 1 else 0))) (As := [.long x.toInt64, .long (-1000000), .long 1000000]) (rest := []) cx hW hS hl (c_X4_within l hI a x.toInt64 (-1000000) 1000000) cw_X4_within nw_120 nw_119 rfl rfl (Nat.le_of_ble_eq_true rfl) rfl rfl ⟨Nat.le_of_ble_eq_true rfl, Nat.le_of_ble_eq_true rfl⟩ ⟨Nat.le_of_ble_eq_true rfl, Nat.le_of_ble_eq_true rfl⟩ dX4_isTooMany_8 (fun H locs hW hS => ?_)
  refine W.eq (g2 := F0 zm 11 ls [.int (if wi_ x.toInt64 (-1000000) 1000000 then 1 else 0)]) rfl ?_
  refine lv_if_ne (tgt := 18) cx.1 cx.2.1 dX4_isTooMany_11 (by decide) (fun h11 => ?_) (fun h11 => ?_)
  · skip
    have h11 := bz_1 h11
    refine lv_iconst (v := 0) cx.1 cx.2.1 dX4_isTooMany_18 (by decide) ?_
    exact cr_z cx hr hlk (by decide) hW hS (Nat.le_of_ble_eq_true rfl) (Nat.le_of_ble_eq_true rfl) dX4_isTooMany_19 (by simp [h11]) rfl
  · skip
    have h11 := bz_0 h11
    refine lv_iconst (v := 1) cx.1 cx.2.1 dX4_isTooMany_14 (by decide) ?_
    refine lv_goto (tgt := 19) cx.1 cx.2.1 dX4_isTooMany_15 (by decide) ?_
    exact cr_z cx hr hlk (by decide) hW hS (Nat.le_of_ble_eq_true rfl) (Nat.le_of_ble_eq_true rfl) dX4_isTooMany_19 (by simp [h11]) rfl
set_option maxHeartbeats 4000000 in
set_option maxRecDepth 100000 in
theorem c_X4_isMember (l : Launch) {w : Gh_} (hI : In_ w) (a : St_) (x : Int32) : Fn_ l w yX4_isMember (.code yX4_isMember cX4_isMember 2 (some .boolean)) { frames := 1, cells := 0, slots := 0, locals := 25 } 0 0 [.ref (ad_ w 0 0), .int x] a (.inl (some (.int (if wi_ x.toInt64 0 (gi_ a 0 0 0 - 1).toInt64 then 1 else 0)))) a := by
  refine Fn_of hI (by decide +kernel) (Nat.le_of_ble_eq_true rfl) ?_
  intro zp ze zs zm zb zt zc ls cx hr hlk hno hW hS hl
  replace cx : Cx_ zp zs zm zc _ cX4_isMember 2 "MarginHouse" w := cx
  replace hl : lv_has ls 2 [(0, .ref (ad_ w 0 0)), (1, .int x)] := hl
  obtain ⟨H, hH⟩ : ∃ H, zs.heap = H := ⟨_, rfl⟩
  rw [hH] at hW
  have hS : Fr_ w zs.heap H [] := by rw [← hH]; exact hS
  obtain ⟨locs, hlocs⟩ : ∃ x : List Loc, x = [] := ⟨_, rfl⟩
  rw [← hlocs] at hS ⊢
  rw [show W zp l ze _ zs zm _ zb zt zc zs.heap locs 0 0 _ (F0 zm 0 ls []) ↔ W zp l ze _ zs zm _ zb zt zc H locs 0 0 _ (F0 zm 0 ls []) from by rw [hH]]
  refine lv_iload_n cx.1 cx.2.1 dX4_isMember_0 rfl (lv_at hl 1 rfl) ?_
  refine lv_i2l (v := x.toInt64) cx.1 cx.2.1 dX4_isMember_1 rfl ?_
  refine lv_lconst (v := 0) cx.1 cx.2.1 dX4_isMember_2 (by decide) ?_
  refine lv_aload_n cx.1 cx.2.1 dX4_isMember_3 rfl (lv_at hl 0 rfl) ?_
  refine gf_X4_37 cx hW (by decide) dX4_isMember_4 ?_
  refine lv_iconst (v := 1) cx.1 cx.2.1 dX4_isMember_7 (by decide) ?_
  refine lv_isub cx.1 cx.2.1 dX4_isMember_8 ?_
  refine lv_i2l (v := ((gi_ a 0 0 0) - 1).toInt64) cx.1 cx.2.1 dX4_isMember_9 rfl ?_
  refine ck_S (v := some (.int (if wi_ x.toInt64 0 (((gi_ a 0 0 0) - 1).toInt64) then 1 else 0))) (As := [.long x.toInt64, .long 0, .long (((gi_ a 0 0 0) - 1).toInt64)]) (rest := []) cx hW hS hl (c_X4_within l hI a x.toInt64 0 (((gi_ a 0 0 0) - 1).toInt64)) cw_X4_within nw_120 nw_119 rfl rfl (Nat.le_of_ble_eq_true rfl) rfl rfl ⟨Nat.le_of_ble_eq_true rfl, Nat.le_of_ble_eq_true rfl⟩ ⟨Nat.le_of_ble_eq_true rfl, Nat.le_of_ble_eq_true rfl⟩ dX4_isMember_10 (fun H locs hW hS => ?_)
  refine W.eq (g2 := F0 zm 13 ls [.int (if wi_ x.toInt64 0 (((gi_ a 0 0 0) - 1).toInt64) then 1 else 0)]) rfl ?_
  exact cr_z cx hr hlk bz_b hW hS (Nat.le_of_ble_eq_true rfl) (Nat.le_of_ble_eq_true rfl) dX4_isMember_13 rfl rfl
set_option maxHeartbeats 4000000 in
set_option maxRecDepth 100000 in
theorem c_X4_isInstrument (l : Launch) {w : Gh_} (hI : In_ w) (a : St_) (x : Int32) : Fn_ l w yX4_isInstrument (.code yX4_isInstrument cX4_isInstrument 2 (some .boolean)) { frames := 1, cells := 0, slots := 0, locals := 25 } 0 0 [.ref (ad_ w 0 0), .int x] a (.inl (some (.int (if wi_ x.toInt64 0 (gi_ a 1 0 0 - 1).toInt64 then 1 else 0)))) a := by
  refine Fn_of hI (by decide +kernel) (Nat.le_of_ble_eq_true rfl) ?_
  intro zp ze zs zm zb zt zc ls cx hr hlk hno hW hS hl
  replace cx : Cx_ zp zs zm zc _ cX4_isInstrument 2 "MarginHouse" w := cx
  replace hl : lv_has ls 2 [(0, .ref (ad_ w 0 0)), (1, .int x)] := hl
  obtain ⟨H, hH⟩ : ∃ H, zs.heap = H := ⟨_, rfl⟩
  rw [hH] at hW
  have hS : Fr_ w zs.heap H [] := by rw [← hH]; exact hS
  obtain ⟨locs, hlocs⟩ : ∃ x : List Loc, x = [] := ⟨_, rfl⟩
  rw [← hlocs] at hS ⊢
  rw [show W zp l ze _ zs zm _ zb zt zc zs.heap locs 0 0 _ (F0 zm 0 ls []) ↔ W zp l ze _ zs zm _ zb zt zc H locs 0 0 _ (F0 zm 0 ls []) from by rw [hH]]
  refine lv_iload_n cx.1 cx.2.1 dX4_isInstrument_0 rfl (lv_at hl 1 rfl) ?_
  refine lv_i2l (v := x.toInt64) cx.1 cx.2.1 dX4_isInstrument_1 rfl ?_
  refine lv_lconst (v := 0) cx.1 cx.2.1 dX4_isInstrument_2 (by decide) ?_
  refine lv_aload_n cx.1 cx.2.1 dX4_isInstrument_3 rfl (lv_at hl 0 rfl) ?_
  refine gf_X4_41 cx hW (by decide) dX4_isInstrument_4 ?_
  refine lv_iconst (v := 1) cx.1 cx.2.1 dX4_isInstrument_7 (by decide) ?_
  refine lv_isub cx.1 cx.2.1 dX4_isInstrument_8 ?_
  refine lv_i2l (v := ((gi_ a 1 0 0) - 1).toInt64) cx.1 cx.2.1 dX4_isInstrument_9 rfl ?_
  refine ck_S (v := some (.int (if wi_ x.toInt64 0 (((gi_ a 1 0 0) - 1).toInt64) then 1 else 0))) (As := [.long x.toInt64, .long 0, .long (((gi_ a 1 0 0) - 1).toInt64)]) (rest := []) cx hW hS hl (c_X4_within l hI a x.toInt64 0 (((gi_ a 1 0 0) - 1).toInt64)) cw_X4_within nw_120 nw_119 rfl rfl (Nat.le_of_ble_eq_true rfl) rfl rfl ⟨Nat.le_of_ble_eq_true rfl, Nat.le_of_ble_eq_true rfl⟩ ⟨Nat.le_of_ble_eq_true rfl, Nat.le_of_ble_eq_true rfl⟩ dX4_isInstrument_10 (fun H locs hW hS => ?_)
  refine W.eq (g2 := F0 zm 13 ls [.int (if wi_ x.toInt64 0 (((gi_ a 1 0 0) - 1).toInt64) then 1 else 0)]) rfl ?_
  exact cr_z cx hr hlk bz_b hW hS (Nat.le_of_ble_eq_true rfl) (Nat.le_of_ble_eq_true rfl) dX4_isInstrument_13 rfl rfl
set_option maxHeartbeats 4000000 in
set_option maxRecDepth 100000 in
theorem c_X4_need_ok (l : Launch) {w : Gh_} (hI : In_ w) (a : St_) : Fn_ l w yX4_need (.code yX4_need cX4_need 1 none) { frames := 6, cells := 0, slots := 0, locals := 90 } 0 0 [.int 1] a (.inl none) a := by
  refine Fn_of hI (by decide +kernel) (Nat.le_of_ble_eq_true rfl) ?_
  intro zp ze zs zm zb zt zc ls cx hr hlk hno hW hS hl
  replace cx : Cx_ zp zs zm zc _ cX4_need 1 "MarginHouse" w := cx
  replace hl : lv_has ls 1 [(0, .int 1)] := hl
  obtain ⟨H, hH⟩ : ∃ H, zs.heap = H := ⟨_, rfl⟩
  rw [hH] at hW
  have hS : Fr_ w zs.heap H [] := by rw [← hH]; exact hS
  obtain ⟨locs, hlocs⟩ : ∃ x : List Loc, x = [] := ⟨_, rfl⟩
  rw [← hlocs] at hS ⊢
  rw [show W zp l ze _ zs zm _ zb zt zc zs.heap locs 0 0 _ (F0 zm 0 ls []) ↔ W zp l ze _ zs zm _ zb zt zc H locs 0 0 _ (F0 zm 0 ls []) from by rw [hH]]
  refine lv_iload_n cx.1 cx.2.1 dX4_need_0 rfl (lv_at hl 0 rfl) ?_
  refine lv_if_ne (tgt := 12) cx.1 cx.2.1 dX4_need_1 (by decide) (fun h1 => ?_) (fun zz => absurd zz (by decide))
  exact cr_v cx hr hlk hW hS (Nat.le_of_ble_eq_true rfl) (Nat.le_of_ble_eq_true rfl) dX4_need_12 rfl rfl
theorem tw_need : ∀ w ∈ (vx_at0 "MarginHouse" 162 IA_ ["java/lang/RuntimeException", "java/lang/Exception"]).filter goodWord, w ∈ nd_ := fun w h => List.mem_filter.mpr ⟨List.mem_append_right _ ((show ∀ w ∈ (vx_at0 "MarginHouse" 162 IA_ ["java/lang/RuntimeException", "java/lang/Exception"]).filter goodWord, w ∈ tables_1 by decide +kernel) w h), (List.mem_filter.mp h).2⟩
theorem tw_needStanding : ∀ w ∈ (vx_at0 "MarginHouse" 165 IS_ ["java/lang/RuntimeException", "java/lang/Exception"]).filter goodWord, w ∈ nd_ := fun w h => List.mem_filter.mpr ⟨List.mem_append_right _ ((show ∀ w ∈ (vx_at0 "MarginHouse" 165 IS_ ["java/lang/RuntimeException", "java/lang/Exception"]).filter goodWord, w ∈ tables_1 by decide +kernel) w h), (List.mem_filter.mp h).2⟩
set_option maxHeartbeats 4000000 in
set_option maxRecDepth 100000 in
theorem c_X4_need_bad (l : Launch) {w : Gh_} (hI : In_ w) (hst : l.stackTraces = false) (a : St_) : Fn_ l w yX4_need (.code yX4_need cX4_need 1 none) { frames := 6, cells := 1, slots := 6, locals := 90 } 1 6 [.int 0] a (.inr IA_) a := by
  refine Fn_of hI (by decide +kernel) (Nat.le_of_ble_eq_true rfl) ?_
  intro zp ze zs zm zb zt zc ls cx hr hlk hno hW hS hl
  replace cx : Cx_ zp zs zm zc _ cX4_need 1 "MarginHouse" w := cx
  replace hl : lv_has ls 1 [(0, .int 0)] := hl
  obtain ⟨H, hH⟩ : ∃ H, zs.heap = H := ⟨_, rfl⟩
  rw [hH] at hW
  have hS : Fr_ w zs.heap H [] := by rw [← hH]; exact hS
  obtain ⟨locs, hlocs⟩ : ∃ x : List Loc, x = [] := ⟨_, rfl⟩
  rw [← hlocs] at hS ⊢
  rw [show W zp l ze _ zs zm _ zb zt zc zs.heap locs 0 0 _ (F0 zm 0 ls []) ↔ W zp l ze _ zs zm _ zb zt zc H locs 0 0 _ (F0 zm 0 ls []) from by rw [hH]]
  refine lv_iload_n cx.1 cx.2.1 dX4_need_0 rfl (lv_at hl 0 rfl) ?_
  refine lv_if_ne (tgt := 12) cx.1 cx.2.1 dX4_need_1 (by decide) (fun zz => absurd rfl zz) (fun h1 => ?_)
  exact vx_throw0 (own := "MarginHouse") (cls := IA_) (names := ["java/lang/RuntimeException", "java/lang/Exception"]) (A := fun q => lo_ w ≤ q) cx.1 cx.2.1 hst cx.2.2.2.1 (by decide +kernel) (by decide +kernel) (cx.2.2.2.2.1 _ nw_125) (cx.2.2.2.2.1 _ nw_10) (vx_hat (B := xb_) (fun w h => cx.2.2.2.2.1 _ (tw_need w h)) (by decide +kernel) (fun x hx => va_Nw.use (xb_tab x hx) (cx.2.2.2.2.2.2.2.1.1 x hx))) (by decide +kernel) cx.2.2.2.2.2.2.2.1.2.2.1 cx.2.2.2.2.2.2.2.1.2.2.2 hS (hl.1.trans cx.2.2.1.symm) dX4_need_4 dX4_need_7 dX4_need_8 dX4_need_11 (fun x hx => (hno x hx).elim) (by decide) (by decide) (by decide) (by decide) hlk (fun t _ hsz hk => ⟨rfl, Hd_kept hW hk, Nat.le_trans hS.1 hsz, fun q hq hn => (hk q (Nat.lt_of_lt_of_le hq hS.1)).trans (hS.2.1 q hq hn)⟩) hS.2.2 (by decide) (by decide)
set_option maxHeartbeats 4000000 in
set_option maxRecDepth 100000 in
theorem c_X4_needStanding_ok (l : Launch) {w : Gh_} (hI : In_ w) (a : St_) (i : Nat) (hi : i < 8) (x : Int32) (hx : gi_ a 3 i 0 = x) : Fn_ l w yX4_needStanding (.code yX4_needStanding cX4_needStanding 2 none) { frames := 6, cells := 0, slots := 0, locals := 90 } 0 0 [.ref (ad_ w 6 i), .int x] a (.inl none) a := by
  refine Fn_of hI (by decide +kernel) (Nat.le_of_ble_eq_true rfl) ?_
  intro zp ze zs zm zb zt zc ls cx hr hlk hno hW hS hl
  replace cx : Cx_ zp zs zm zc _ cX4_needStanding 2 "MarginHouse" w := cx
  replace hl : lv_has ls 2 [(0, .ref (ad_ w 6 i)), (1, .int x)] := hl
  obtain ⟨H, hH⟩ : ∃ H, zs.heap = H := ⟨_, rfl⟩
  rw [hH] at hW
  have hS : Fr_ w zs.heap H [] := by rw [← hH]; exact hS
  obtain ⟨locs, hlocs⟩ : ∃ x : List Loc, x = [] := ⟨_, rfl⟩
  rw [← hlocs] at hS ⊢
  rw [show W zp l ze _ zs zm _ zb zt zc zs.heap locs 0 0 _ (F0 zm 0 ls []) ↔ W zp l ze _ zs zm _ zb zt zc H locs 0 0 _ (F0 zm 0 ls []) from by rw [hH]]
  refine lv_aload_n cx.1 cx.2.1 dX4_needStanding_0 rfl (lv_at hl 0 rfl) ?_
  refine gf_X4_127 cx hW (by omega) dX4_needStanding_1 ?_
  refine lv_iload_n cx.1 cx.2.1 dX4_needStanding_4 rfl (lv_at hl 1 rfl) ?_
  refine lv_icmp_eq (tgt := 16) cx.1 cx.2.1 dX4_needStanding_5 (by decide) (fun h5 => ?_) (fun zz => absurd hx zz)
  exact cr_v cx hr hlk hW hS (Nat.le_of_ble_eq_true rfl) (Nat.le_of_ble_eq_true rfl) dX4_needStanding_16 rfl rfl
set_option maxHeartbeats 4000000 in
set_option maxRecDepth 100000 in
theorem c_X4_needStanding_bad (l : Launch) {w : Gh_} (hI : In_ w) (hst : l.stackTraces = false) (a : St_) (i : Nat) (hi : i < 8) (x : Int32) (hx : ¬ gi_ a 3 i 0 = x) : Fn_ l w yX4_needStanding (.code yX4_needStanding cX4_needStanding 2 none) { frames := 6, cells := 1, slots := 6, locals := 90 } 1 6 [.ref (ad_ w 6 i), .int x] a (.inr IS_) a := by
  refine Fn_of hI (by decide +kernel) (Nat.le_of_ble_eq_true rfl) ?_
  intro zp ze zs zm zb zt zc ls cx hr hlk hno hW hS hl
  replace cx : Cx_ zp zs zm zc _ cX4_needStanding 2 "MarginHouse" w := cx
  replace hl : lv_has ls 2 [(0, .ref (ad_ w 6 i)), (1, .int x)] := hl
  obtain ⟨H, hH⟩ : ∃ H, zs.heap = H := ⟨_, rfl⟩
  rw [hH] at hW
  have hS : Fr_ w zs.heap H [] := by rw [← hH]; exact hS
  obtain ⟨locs, hlocs⟩ : ∃ x : List Loc, x = [] := ⟨_, rfl⟩
  rw [← hlocs] at hS ⊢
  rw [show W zp l ze _ zs zm _ zb zt zc zs.heap locs 0 0 _ (F0 zm 0 ls []) ↔ W zp l ze _ zs zm _ zb zt zc H locs 0 0 _ (F0 zm 0 ls []) from by rw [hH]]
  refine lv_aload_n cx.1 cx.2.1 dX4_needStanding_0 rfl (lv_at hl 0 rfl) ?_
  refine gf_X4_127 cx hW (by omega) dX4_needStanding_1 ?_
  refine lv_iload_n cx.1 cx.2.1 dX4_needStanding_4 rfl (lv_at hl 1 rfl) ?_
  refine lv_icmp_eq (tgt := 16) cx.1 cx.2.1 dX4_needStanding_5 (by decide) (fun zz => absurd zz hx) (fun h5 => ?_)
  exact vx_throw0 (own := "MarginHouse") (cls := IS_) (names := ["java/lang/RuntimeException", "java/lang/Exception"]) (A := fun q => lo_ w ≤ q) cx.1 cx.2.1 hst cx.2.2.2.1 (by decide +kernel) (by decide +kernel) (cx.2.2.2.2.1 _ nw_195) (cx.2.2.2.2.1 _ nw_11) (vx_hat (B := xb_) (fun w h => cx.2.2.2.2.1 _ (tw_needStanding w h)) (by decide +kernel) (fun x hx => va_Nw.use (xb_tab x hx) (cx.2.2.2.2.2.2.2.1.1 x hx))) (by decide +kernel) cx.2.2.2.2.2.2.2.1.2.2.1 cx.2.2.2.2.2.2.2.1.2.2.2 hS (hl.1.trans cx.2.2.1.symm) dX4_needStanding_8 dX4_needStanding_11 dX4_needStanding_12 dX4_needStanding_15 (fun x hx => (hno x hx).elim) (by decide) (by decide) (by decide) (by decide) hlk (fun t _ hsz hk => ⟨rfl, Hd_kept hW hk, Nat.le_trans hS.1 hsz, fun q hq hn => (hk q (Nat.lt_of_lt_of_le hq hS.1)).trans (hS.2.1 q hq hn)⟩) hS.2.2 (by decide) (by decide)
