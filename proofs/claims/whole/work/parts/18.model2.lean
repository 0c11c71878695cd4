/-! MarginHouseModel: its face, case by case -/
set_option maxHeartbeats 4000000 in
set_option maxRecDepth 100000 in
theorem c_X5_member_ia (l : Launch) {w : Gh_} (hI : In_ w) (a : St_) (y : Int64) (h : ¬ wi_ y 0 1000000000000) : Fn_ l w yX5_member (.code yX5_member cX5_member 3 (some .int)) { frames := 1, cells := 0, slots := 0, locals := 25 } 0 0 [.ref (ad_ w 20 0), .long y] a (.inl (some (.int 0))) (th_ a 1) := by
  refine Fn_of hI (by decide +kernel) (Nat.le_of_ble_eq_true rfl) ?_
  intro zp ze zs zm zb zt zc ls cx hr hlk hno hW hS hl
  replace cx : Cx_ zp zs zm zc _ cX5_member 3 "MarginHouseModel" w := cx
  replace hl : lv_has ls 3 [(0, .ref (ad_ w 20 0)), (1, .long y)] := hl
  obtain ⟨H, hH⟩ : ∃ H, zs.heap = H := ⟨_, rfl⟩
  rw [hH] at hW
  have hS : Fr_ w zs.heap H [] := by rw [← hH]; exact hS
  obtain ⟨locs, hlocs⟩ : ∃ x : List Loc, x = [] := ⟨_, rfl⟩
  rw [← hlocs] at hS ⊢
  rw [show W zp l ze _ zs zm _ zb zt zc zs.heap locs 0 0 _ (F0 zm 0 ls []) ↔ W zp l ze _ zs zm _ zb zt zc H locs 0 0 _ (F0 zm 0 ls []) from by rw [hH]]
  refine lv_aload_n cx.1 cx.2.1 dX5_member_0 rfl (lv_at hl 0 rfl) ?_
  refine lv_lload_n cx.1 cx.2.1 dX5_member_1 rfl (lv_at hl 1 rfl) ?_
  refine lv_lconst (v := 0) cx.1 cx.2.1 dX5_member_2 (by decide) ?_
  refine lv_ldc2 (own := "MarginHouseModel") (v := 1000000000000) cx.1 cx.2.1 cx.2.2.2.1 (cx.2.2.2.2.1 _ nw_404) dX5_member_3 ?_
  refine ck_S (v := some (.int (if wi_ y 0 1000000000000 then 1 else 0))) (As := [.long y, .long 0, .long 1000000000000]) (rest := [.ref (ad_ w 20 0)]) cx hW hS hl (c_X5_within l hI a y 0 1000000000000) cw_X5_within nw_406 nw_405 rfl rfl (Nat.le_of_ble_eq_true rfl) rfl rfl ⟨Nat.le_of_ble_eq_true rfl, Nat.le_of_ble_eq_true rfl⟩ ⟨Nat.le_of_ble_eq_true rfl, Nat.le_of_ble_eq_true rfl⟩ dX5_member_6 (fun H locs hW hS => ?_)
  refine W.eq (g2 := F0 zm 9 ls [.int (if wi_ y 0 1000000000000 then 1 else 0), .ref (ad_ w 20 0)]) rfl ?_
  refine lv_if_eq (tgt := 16) cx.1 cx.2.1 dX5_member_9 (by decide) (fun h9 => ?_) (fun zz => absurd (bz_f h) zz)
  refine lv_iconst (v := 1) cx.1 cx.2.1 dX5_member_16 (by decide) ?_
  refine pf_X5_62 cx hW hS (by decide) dX5_member_17 (fun H locs hW hS => ?_)
  replace hW : Hd_ w (th_ a 1) H := hW
  refine lv_aload_n cx.1 cx.2.1 dX5_member_20 rfl (lv_at hl 0 rfl) ?_
  refine gf_X5_62 cx hW (by decide) dX5_member_21 ?_
  refine tp_i (y := 1) (th_20 a _) ?_
  refine lv_if_le (tgt := 29) cx.1 cx.2.1 dX5_member_24 (by decide) (fun zz => absurd zz (by decide)) (fun h24 => ?_)
  refine lv_iconst (v := 0) cx.1 cx.2.1 dX5_member_27 (by decide) ?_
  exact cr_i cx hr hlk hW hS (Nat.le_of_ble_eq_true rfl) (Nat.le_of_ble_eq_true rfl) dX5_member_28 rfl rfl
set_option maxHeartbeats 4000000 in
set_option maxRecDepth 100000 in
theorem c_X5_member_full (l : Launch) {w : Gh_} (hI : In_ w) (a : St_) (y : Int64) (h : wi_ y 0 1000000000000) (hk : gi_ a 21 0 0 = 8) : Fn_ l w yX5_member (.code yX5_member cX5_member 3 (some .int)) { frames := 1, cells := 0, slots := 0, locals := 25 } 0 0 [.ref (ad_ w 20 0), .long y] a (.inl (some (.int (-1)))) (th_ a 0) := by
  refine Fn_of hI (by decide +kernel) (Nat.le_of_ble_eq_true rfl) ?_
  intro zp ze zs zm zb zt zc ls cx hr hlk hno hW hS hl
  replace cx : Cx_ zp zs zm zc _ cX5_member 3 "MarginHouseModel" w := cx
  replace hl : lv_has ls 3 [(0, .ref (ad_ w 20 0)), (1, .long y)] := hl
  obtain ⟨H, hH⟩ : ∃ H, zs.heap = H := ⟨_, rfl⟩
  rw [hH] at hW
  have hS : Fr_ w zs.heap H [] := by rw [← hH]; exact hS
  obtain ⟨locs, hlocs⟩ : ∃ x : List Loc, x = [] := ⟨_, rfl⟩
  rw [← hlocs] at hS ⊢
  rw [show W zp l ze _ zs zm _ zb zt zc zs.heap locs 0 0 _ (F0 zm 0 ls []) ↔ W zp l ze _ zs zm _ zb zt zc H locs 0 0 _ (F0 zm 0 ls []) from by rw [hH]]
  refine lv_aload_n cx.1 cx.2.1 dX5_member_0 rfl (lv_at hl 0 rfl) ?_
  refine lv_lload_n cx.1 cx.2.1 dX5_member_1 rfl (lv_at hl 1 rfl) ?_
  refine lv_lconst (v := 0) cx.1 cx.2.1 dX5_member_2 (by decide) ?_
  refine lv_ldc2 (own := "MarginHouseModel") (v := 1000000000000) cx.1 cx.2.1 cx.2.2.2.1 (cx.2.2.2.2.1 _ nw_404) dX5_member_3 ?_
  refine ck_S (v := some (.int (if wi_ y 0 1000000000000 then 1 else 0))) (As := [.long y, .long 0, .long 1000000000000]) (rest := [.ref (ad_ w 20 0)]) cx hW hS hl (c_X5_within l hI a y 0 1000000000000) cw_X5_within nw_406 nw_405 rfl rfl (Nat.le_of_ble_eq_true rfl) rfl rfl ⟨Nat.le_of_ble_eq_true rfl, Nat.le_of_ble_eq_true rfl⟩ ⟨Nat.le_of_ble_eq_true rfl, Nat.le_of_ble_eq_true rfl⟩ dX5_member_6 (fun H locs hW hS => ?_)
  refine W.eq (g2 := F0 zm 9 ls [.int (if wi_ y 0 1000000000000 then 1 else 0), .ref (ad_ w 20 0)]) rfl ?_
  refine lv_if_eq (tgt := 16) cx.1 cx.2.1 dX5_member_9 (by decide) (fun zz => absurd zz (bz_t h)) (fun h9 => ?_)
  refine lv_iconst (v := 0) cx.1 cx.2.1 dX5_member_12 (by decide) ?_
  refine lv_goto (tgt := 17) cx.1 cx.2.1 dX5_member_13 (by decide) ?_
  refine pf_X5_62 cx hW hS (by decide) dX5_member_17 (fun H locs hW hS => ?_)
  replace hW : Hd_ w (th_ a 0) H := hW
  refine lv_aload_n cx.1 cx.2.1 dX5_member_20 rfl (lv_at hl 0 rfl) ?_
  refine gf_X5_62 cx hW (by decide) dX5_member_21 ?_
  refine tp_i (y := 0) (th_20 a _) ?_
  refine lv_if_le (tgt := 29) cx.1 cx.2.1 dX5_member_24 (by decide) (fun h24 => ?_) (fun zz => absurd (by decide) zz)
  refine lv_aload_n cx.1 cx.2.1 dX5_member_29 rfl (lv_at hl 0 rfl) ?_
  refine gf_X5_66 cx hW (by decide) dX5_member_30 ?_
  refine lv_bipush (v := 8) cx.1 cx.2.1 dX5_member_33 (by decide) ?_
  refine lv_icmp_ne (tgt := 40) cx.1 cx.2.1 dX5_member_35 (by decide) (fun zz => absurd (by rw [th_gi _ _ _ _ _ (by decide)]; exact hk) zz) (fun h35 => ?_)
  refine lv_iconst (v := -1) cx.1 cx.2.1 dX5_member_38 (by decide) ?_
  exact cr_i cx hr hlk hW hS (Nat.le_of_ble_eq_true rfl) (Nat.le_of_ble_eq_true rfl) dX5_member_39 rfl rfl
set_option maxHeartbeats 4000000 in
set_option maxRecDepth 100000 in
theorem c_X5_member_ok (l : Launch) {w : Gh_} (hI : In_ w) (a : St_) (k : Nat) (hk : gi_ a 21 0 0 = nI k) (hk8 : k ≤ 8) (y : Int64) (h : wi_ y 0 1000000000000) (hk7 : k < 8) : Fn_ l w yX5_member (.code yX5_member cX5_member 3 (some .int)) { frames := 1, cells := 0, slots := 0, locals := 25 } 0 0 [.ref (ad_ w 20 0), .long y] a (.inl (some (.int (nI k)))) (si_ (sl_ (th_ a 0) 21 0 k y) 21 0 0 (nI (k + 1))) := by
  refine Fn_of hI (by decide +kernel) (Nat.le_of_ble_eq_true rfl) ?_
  intro zp ze zs zm zb zt zc ls cx hr hlk hno hW hS hl
  replace cx : Cx_ zp zs zm zc _ cX5_member 3 "MarginHouseModel" w := cx
  replace hl : lv_has ls 3 [(0, .ref (ad_ w 20 0)), (1, .long y)] := hl
  obtain ⟨H, hH⟩ : ∃ H, zs.heap = H := ⟨_, rfl⟩
  rw [hH] at hW
  have hS : Fr_ w zs.heap H [] := by rw [← hH]; exact hS
  obtain ⟨locs, hlocs⟩ : ∃ x : List Loc, x = [] := ⟨_, rfl⟩
  rw [← hlocs] at hS ⊢
  rw [show W zp l ze _ zs zm _ zb zt zc zs.heap locs 0 0 _ (F0 zm 0 ls []) ↔ W zp l ze _ zs zm _ zb zt zc H locs 0 0 _ (F0 zm 0 ls []) from by rw [hH]]
  refine lv_aload_n cx.1 cx.2.1 dX5_member_0 rfl (lv_at hl 0 rfl) ?_
  refine lv_lload_n cx.1 cx.2.1 dX5_member_1 rfl (lv_at hl 1 rfl) ?_
  refine lv_lconst (v := 0) cx.1 cx.2.1 dX5_member_2 (by decide) ?_
  refine lv_ldc2 (own := "MarginHouseModel") (v := 1000000000000) cx.1 cx.2.1 cx.2.2.2.1 (cx.2.2.2.2.1 _ nw_404) dX5_member_3 ?_
  refine ck_S (v := some (.int (if wi_ y 0 1000000000000 then 1 else 0))) (As := [.long y, .long 0, .long 1000000000000]) (rest := [.ref (ad_ w 20 0)]) cx hW hS hl (c_X5_within l hI a y 0 1000000000000) cw_X5_within nw_406 nw_405 rfl rfl (Nat.le_of_ble_eq_true rfl) rfl rfl ⟨Nat.le_of_ble_eq_true rfl, Nat.le_of_ble_eq_true rfl⟩ ⟨Nat.le_of_ble_eq_true rfl, Nat.le_of_ble_eq_true rfl⟩ dX5_member_6 (fun H locs hW hS => ?_)
  refine W.eq (g2 := F0 zm 9 ls [.int (if wi_ y 0 1000000000000 then 1 else 0), .ref (ad_ w 20 0)]) rfl ?_
  refine lv_if_eq (tgt := 16) cx.1 cx.2.1 dX5_member_9 (by decide) (fun zz => absurd zz (bz_t h)) (fun h9 => ?_)
  refine lv_iconst (v := 0) cx.1 cx.2.1 dX5_member_12 (by decide) ?_
  refine lv_goto (tgt := 17) cx.1 cx.2.1 dX5_member_13 (by decide) ?_
  refine pf_X5_62 cx hW hS (by decide) dX5_member_17 (fun H locs hW hS => ?_)
  replace hW : Hd_ w (th_ a 0) H := hW
  refine lv_aload_n cx.1 cx.2.1 dX5_member_20 rfl (lv_at hl 0 rfl) ?_
  refine gf_X5_62 cx hW (by decide) dX5_member_21 ?_
  refine tp_i (y := 0) (th_20 a _) ?_
  refine lv_if_le (tgt := 29) cx.1 cx.2.1 dX5_member_24 (by decide) (fun h24 => ?_) (fun zz => absurd (by decide) zz)
  refine lv_aload_n cx.1 cx.2.1 dX5_member_29 rfl (lv_at hl 0 rfl) ?_
  refine gf_X5_66 cx hW (by decide) dX5_member_30 ?_
  refine tp_i (y := nI k) (by rw [th_gi _ _ _ _ _ (by decide)]; exact hk) ?_
  refine lv_bipush (v := 8) cx.1 cx.2.1 dX5_member_33 (by decide) ?_
  refine lv_icmp_ne (tgt := 40) cx.1 cx.2.1 dX5_member_35 (by decide) (fun h35 => ?_) (fun zz => absurd zz (nI_nec (z := 8) (by decide +kernel) (by omega) (by omega) (by omega)))
  refine lv_aload_n cx.1 cx.2.1 dX5_member_40 rfl (lv_at hl 0 rfl) ?_
  refine gf_X5_13 cx hW (by decide) dX5_member_41 ?_
  refine lv_aload_n cx.1 cx.2.1 dX5_member_44 rfl (lv_at hl 0 rfl) ?_
  refine gf_X5_66 cx hW (by decide) dX5_member_45 ?_
  refine tp_i (y := nI k) (by rw [th_gi _ _ _ _ _ (by decide)]; exact hk) ?_
  refine lv_lload_n cx.1 cx.2.1 dX5_member_48 rfl (lv_at hl 1 rfl) ?_
  refine as_22 (j := k) cx hW hS (by decide) rfl (by omega) dX5_member_49 (fun H locs hW hS => ?_)
  refine lv_aload_n cx.1 cx.2.1 dX5_member_50 rfl (lv_at hl 0 rfl) ?_
  refine lv_dup cx.1 cx.2.1 dX5_member_51 rfl ?_
  refine gf_X5_66 cx hW (by decide) dX5_member_52 ?_
  refine tp_i (y := nI k) (by rw [gi_sl]; exact (by rw [th_gi _ _ _ _ _ (by decide)]; exact hk)) ?_
  refine lv_iconst (v := 1) cx.1 cx.2.1 dX5_member_55 (by decide) ?_
  refine lv_iadd cx.1 cx.2.1 dX5_member_56 ?_
  refine tp_i (y := nI (k + 1)) (nI_1 k) ?_
  refine pf_X5_66 cx hW hS (by decide) dX5_member_57 (fun H locs hW hS => ?_)
  refine lv_aload_n cx.1 cx.2.1 dX5_member_60 rfl (lv_at hl 0 rfl) ?_
  refine gf_X5_66 cx hW (by decide) dX5_member_61 ?_
  refine tp_i (y := nI (k + 1)) (by rw [gi_si]; exact if_pos ⟨rfl, rfl, rfl⟩) ?_
  refine lv_iconst (v := 1) cx.1 cx.2.1 dX5_member_64 (by decide) ?_
  refine lv_isub cx.1 cx.2.1 dX5_member_65 ?_
  refine tp_i (y := nI k) (nI_pred k) ?_
  exact cr_i cx hr hlk hW hS (Nat.le_of_ble_eq_true rfl) (Nat.le_of_ble_eq_true rfl) dX5_member_66 rfl rfl
set_option maxHeartbeats 4000000 in
set_option maxRecDepth 100000 in
theorem c_X5_instrument_ia (l : Launch) {w : Gh_} (hI : In_ w) (a : St_) (x y z : Int32) (h : ¬ (wi_ x.toInt64 0 1000000 ∧ wi_ y.toInt64 0 1000000 ∧ wi_ z.toInt64 0 1000000)) : Fn_ l w yX5_instrument (.code yX5_instrument cX5_instrument 4 (some .int)) { frames := 1, cells := 0, slots := 0, locals := 25 } 0 0 [.ref (ad_ w 20 0), .int x, .int y, .int z] a (.inl (some (.int 0))) (th_ a 1) := by
  refine Fn_of hI (by decide +kernel) (Nat.le_of_ble_eq_true rfl) ?_
  intro zp ze zs zm zb zt zc ls cx hr hlk hno hW hS hl
  replace cx : Cx_ zp zs zm zc _ cX5_instrument 4 "MarginHouseModel" w := cx
  replace hl : lv_has ls 4 [(0, .ref (ad_ w 20 0)), (1, .int x), (2, .int y), (3, .int z)] := hl
  obtain ⟨H, hH⟩ : ∃ H, zs.heap = H := ⟨_, rfl⟩
  rw [hH] at hW
  have hS : Fr_ w zs.heap H [] := by rw [← hH]; exact hS
  obtain ⟨locs, hlocs⟩ : ∃ x : List Loc, x = [] := ⟨_, rfl⟩
  rw [← hlocs] at hS ⊢
  rw [show W zp l ze _ zs zm _ zb zt zc zs.heap locs 0 0 _ (F0 zm 0 ls []) ↔ W zp l ze _ zs zm _ zb zt zc H locs 0 0 _ (F0 zm 0 ls []) from by rw [hH]]
  refine lv_aload_n cx.1 cx.2.1 dX5_instrument_0 rfl (lv_at hl 0 rfl) ?_
  refine lv_iload_n cx.1 cx.2.1 dX5_instrument_1 rfl (lv_at hl 1 rfl) ?_
  refine lv_i2l (v := x.toInt64) cx.1 cx.2.1 dX5_instrument_2 rfl ?_
  refine lv_lconst (v := 0) cx.1 cx.2.1 dX5_instrument_3 (by decide) ?_
  refine lv_ldc2 (own := "MarginHouseModel") (v := 1000000) cx.1 cx.2.1 cx.2.2.2.1 (cx.2.2.2.2.1 _ nw_412) dX5_instrument_4 ?_
  refine ck_S (v := some (.int (if wi_ x.toInt64 0 1000000 then 1 else 0))) (As := [.long x.toInt64, .long 0, .long 1000000]) (rest := [.ref (ad_ w 20 0)]) cx hW hS hl (c_X5_within l hI a x.toInt64 0 1000000) cw_X5_within nw_406 nw_405 rfl rfl (Nat.le_of_ble_eq_true rfl) rfl rfl ⟨Nat.le_of_ble_eq_true rfl, Nat.le_of_ble_eq_true rfl⟩ ⟨Nat.le_of_ble_eq_true rfl, Nat.le_of_ble_eq_true rfl⟩ dX5_instrument_7 (fun H locs hW hS => ?_)
  refine W.eq (g2 := F0 zm 10 ls [.int (if wi_ x.toInt64 0 1000000 then 1 else 0), .ref (ad_ w 20 0)]) rfl ?_
  refine lv_if_eq (tgt := 41) cx.1 cx.2.1 dX5_instrument_10 (by decide) (fun h10 => ?_) (fun h10 => ?_)
  · skip
    have h10 := bz_0 h10
    refine lv_iconst (v := 1) cx.1 cx.2.1 dX5_instrument_41 (by decide) ?_
    refine pf_X5_62 cx hW hS (by decide) dX5_instrument_42 (fun H locs hW hS => ?_)
    replace hW : Hd_ w (th_ a 1) H := hW
    refine lv_aload_n cx.1 cx.2.1 dX5_instrument_45 rfl (lv_at hl 0 rfl) ?_
    refine gf_X5_62 cx hW (by decide) dX5_instrument_46 ?_
    refine tp_i (y := 1) (th_20 a _) ?_
    refine lv_if_le (tgt := 54) cx.1 cx.2.1 dX5_instrument_49 (by decide) (fun zz => absurd zz (by decide)) (fun h49 => ?_)
    refine lv_iconst (v := 0) cx.1 cx.2.1 dX5_instrument_52 (by decide) ?_
    exact cr_i cx hr hlk hW hS (Nat.le_of_ble_eq_true rfl) (Nat.le_of_ble_eq_true rfl) dX5_instrument_53 rfl rfl
  · skip
    have h10 := bz_1 h10
    refine lv_iload_n cx.1 cx.2.1 dX5_instrument_13 rfl (lv_at hl 2 rfl) ?_
    refine lv_i2l (v := y.toInt64) cx.1 cx.2.1 dX5_instrument_14 rfl ?_
    refine lv_lconst (v := 0) cx.1 cx.2.1 dX5_instrument_15 (by decide) ?_
    refine lv_ldc2 (own := "MarginHouseModel") (v := 1000000) cx.1 cx.2.1 cx.2.2.2.1 (cx.2.2.2.2.1 _ nw_412) dX5_instrument_16 ?_
    refine ck_S (v := some (.int (if wi_ y.toInt64 0 1000000 then 1 else 0))) (As := [.long y.toInt64, .long 0, .long 1000000]) (rest := [.ref (ad_ w 20 0)]) cx hW hS hl (c_X5_within l hI a y.toInt64 0 1000000) cw_X5_within nw_406 nw_405 rfl rfl (Nat.le_of_ble_eq_true rfl) rfl rfl ⟨Nat.le_of_ble_eq_true rfl, Nat.le_of_ble_eq_true rfl⟩ ⟨Nat.le_of_ble_eq_true rfl, Nat.le_of_ble_eq_true rfl⟩ dX5_instrument_19 (fun H locs hW hS => ?_)
    refine W.eq (g2 := F0 zm 22 ls [.int (if wi_ y.toInt64 0 1000000 then 1 else 0), .ref (ad_ w 20 0)]) rfl ?_
    refine lv_if_eq (tgt := 41) cx.1 cx.2.1 dX5_instrument_22 (by decide) (fun h22 => ?_) (fun h22 => ?_)
    · skip
      have h22 := bz_0 h22
      refine lv_iconst (v := 1) cx.1 cx.2.1 dX5_instrument_41 (by decide) ?_
      refine pf_X5_62 cx hW hS (by decide) dX5_instrument_42 (fun H locs hW hS => ?_)
      replace hW : Hd_ w (th_ a 1) H := hW
      refine lv_aload_n cx.1 cx.2.1 dX5_instrument_45 rfl (lv_at hl 0 rfl) ?_
      refine gf_X5_62 cx hW (by decide) dX5_instrument_46 ?_
      refine tp_i (y := 1) (th_20 a _) ?_
      refine lv_if_le (tgt := 54) cx.1 cx.2.1 dX5_instrument_49 (by decide) (fun zz => absurd zz (by decide)) (fun h49 => ?_)
      refine lv_iconst (v := 0) cx.1 cx.2.1 dX5_instrument_52 (by decide) ?_
      exact cr_i cx hr hlk hW hS (Nat.le_of_ble_eq_true rfl) (Nat.le_of_ble_eq_true rfl) dX5_instrument_53 rfl rfl
    · skip
      have h22 := bz_1 h22
      refine lv_iload_n cx.1 cx.2.1 dX5_instrument_25 rfl (lv_at hl 3 rfl) ?_
      refine lv_i2l (v := z.toInt64) cx.1 cx.2.1 dX5_instrument_26 rfl ?_
      refine lv_lconst (v := 0) cx.1 cx.2.1 dX5_instrument_27 (by decide) ?_
      refine lv_ldc2 (own := "MarginHouseModel") (v := 1000000) cx.1 cx.2.1 cx.2.2.2.1 (cx.2.2.2.2.1 _ nw_412) dX5_instrument_28 ?_
      refine ck_S (v := some (.int (if wi_ z.toInt64 0 1000000 then 1 else 0))) (As := [.long z.toInt64, .long 0, .long 1000000]) (rest := [.ref (ad_ w 20 0)]) cx hW hS hl (c_X5_within l hI a z.toInt64 0 1000000) cw_X5_within nw_406 nw_405 rfl rfl (Nat.le_of_ble_eq_true rfl) rfl rfl ⟨Nat.le_of_ble_eq_true rfl, Nat.le_of_ble_eq_true rfl⟩ ⟨Nat.le_of_ble_eq_true rfl, Nat.le_of_ble_eq_true rfl⟩ dX5_instrument_31 (fun H locs hW hS => ?_)
      refine W.eq (g2 := F0 zm 34 ls [.int (if wi_ z.toInt64 0 1000000 then 1 else 0), .ref (ad_ w 20 0)]) rfl ?_
      refine lv_if_eq (tgt := 41) cx.1 cx.2.1 dX5_instrument_34 (by decide) (fun h34 => ?_) (fun h34 => ?_)
      · skip
        have h34 := bz_0 h34
        refine lv_iconst (v := 1) cx.1 cx.2.1 dX5_instrument_41 (by decide) ?_
        refine pf_X5_62 cx hW hS (by decide) dX5_instrument_42 (fun H locs hW hS => ?_)
        replace hW : Hd_ w (th_ a 1) H := hW
        refine lv_aload_n cx.1 cx.2.1 dX5_instrument_45 rfl (lv_at hl 0 rfl) ?_
        refine gf_X5_62 cx hW (by decide) dX5_instrument_46 ?_
        refine tp_i (y := 1) (th_20 a _) ?_
        refine lv_if_le (tgt := 54) cx.1 cx.2.1 dX5_instrument_49 (by decide) (fun zz => absurd zz (by decide)) (fun h49 => ?_)
        refine lv_iconst (v := 0) cx.1 cx.2.1 dX5_instrument_52 (by decide) ?_
        exact cr_i cx hr hlk hW hS (Nat.le_of_ble_eq_true rfl) (Nat.le_of_ble_eq_true rfl) dX5_instrument_53 rfl rfl
      · skip
        have h34 := bz_1 h34
        exact absurd ⟨h10, h22, h34⟩ h
set_option maxHeartbeats 4000000 in
set_option maxRecDepth 100000 in
theorem c_X5_instrument_full (l : Launch) {w : Gh_} (hI : In_ w) (a : St_) (x y z : Int32) (h : wi_ x.toInt64 0 1000000 ∧ wi_ y.toInt64 0 1000000 ∧ wi_ z.toInt64 0 1000000) (hn : gi_ a 22 0 0 = 6) : Fn_ l w yX5_instrument (.code yX5_instrument cX5_instrument 4 (some .int)) { frames := 1, cells := 0, slots := 0, locals := 25 } 0 0 [.ref (ad_ w 20 0), .int x, .int y, .int z] a (.inl (some (.int (-1)))) (th_ a 0) := by
  refine Fn_of hI (by decide +kernel) (Nat.le_of_ble_eq_true rfl) ?_
  intro zp ze zs zm zb zt zc ls cx hr hlk hno hW hS hl
  replace cx : Cx_ zp zs zm zc _ cX5_instrument 4 "MarginHouseModel" w := cx
  replace hl : lv_has ls 4 [(0, .ref (ad_ w 20 0)), (1, .int x), (2, .int y), (3, .int z)] := hl
  obtain ⟨H, hH⟩ : ∃ H, zs.heap = H := ⟨_, rfl⟩
  rw [hH] at hW
  have hS : Fr_ w zs.heap H [] := by rw [← hH]; exact hS
  obtain ⟨locs, hlocs⟩ : ∃ x : List Loc, x = [] := ⟨_, rfl⟩
  rw [← hlocs] at hS ⊢
  rw [show W zp l ze _ zs zm _ zb zt zc zs.heap locs 0 0 _ (F0 zm 0 ls []) ↔ W zp l ze _ zs zm _ zb zt zc H locs 0 0 _ (F0 zm 0 ls []) from by rw [hH]]
  refine lv_aload_n cx.1 cx.2.1 dX5_instrument_0 rfl (lv_at hl 0 rfl) ?_
  refine lv_iload_n cx.1 cx.2.1 dX5_instrument_1 rfl (lv_at hl 1 rfl) ?_
  refine lv_i2l (v := x.toInt64) cx.1 cx.2.1 dX5_instrument_2 rfl ?_
  refine lv_lconst (v := 0) cx.1 cx.2.1 dX5_instrument_3 (by decide) ?_
  refine lv_ldc2 (own := "MarginHouseModel") (v := 1000000) cx.1 cx.2.1 cx.2.2.2.1 (cx.2.2.2.2.1 _ nw_412) dX5_instrument_4 ?_
  refine ck_S (v := some (.int (if wi_ x.toInt64 0 1000000 then 1 else 0))) (As := [.long x.toInt64, .long 0, .long 1000000]) (rest := [.ref (ad_ w 20 0)]) cx hW hS hl (c_X5_within l hI a x.toInt64 0 1000000) cw_X5_within nw_406 nw_405 rfl rfl (Nat.le_of_ble_eq_true rfl) rfl rfl ⟨Nat.le_of_ble_eq_true rfl, Nat.le_of_ble_eq_true rfl⟩ ⟨Nat.le_of_ble_eq_true rfl, Nat.le_of_ble_eq_true rfl⟩ dX5_instrument_7 (fun H locs hW hS => ?_)
  refine W.eq (g2 := F0 zm 10 ls [.int (if wi_ x.toInt64 0 1000000 then 1 else 0), .ref (ad_ w 20 0)]) rfl ?_
  refine lv_if_eq (tgt := 41) cx.1 cx.2.1 dX5_instrument_10 (by decide) (fun zz => absurd zz (bz_t h.1)) (fun h10 => ?_)
  refine lv_iload_n cx.1 cx.2.1 dX5_instrument_13 rfl (lv_at hl 2 rfl) ?_
  refine lv_i2l (v := y.toInt64) cx.1 cx.2.1 dX5_instrument_14 rfl ?_
  refine lv_lconst (v := 0) cx.1 cx.2.1 dX5_instrument_15 (by decide) ?_
  refine lv_ldc2 (own := "MarginHouseModel") (v := 1000000) cx.1 cx.2.1 cx.2.2.2.1 (cx.2.2.2.2.1 _ nw_412) dX5_instrument_16 ?_
  refine ck_S (v := some (.int (if wi_ y.toInt64 0 1000000 then 1 else 0))) (As := [.long y.toInt64, .long 0, .long 1000000]) (rest := [.ref (ad_ w 20 0)]) cx hW hS hl (c_X5_within l hI a y.toInt64 0 1000000) cw_X5_within nw_406 nw_405 rfl rfl (Nat.le_of_ble_eq_true rfl) rfl rfl ⟨Nat.le_of_ble_eq_true rfl, Nat.le_of_ble_eq_true rfl⟩ ⟨Nat.le_of_ble_eq_true rfl, Nat.le_of_ble_eq_true rfl⟩ dX5_instrument_19 (fun H locs hW hS => ?_)
  refine W.eq (g2 := F0 zm 22 ls [.int (if wi_ y.toInt64 0 1000000 then 1 else 0), .ref (ad_ w 20 0)]) rfl ?_
  refine lv_if_eq (tgt := 41) cx.1 cx.2.1 dX5_instrument_22 (by decide) (fun zz => absurd zz (bz_t h.2.1)) (fun h22 => ?_)
  refine lv_iload_n cx.1 cx.2.1 dX5_instrument_25 rfl (lv_at hl 3 rfl) ?_
  refine lv_i2l (v := z.toInt64) cx.1 cx.2.1 dX5_instrument_26 rfl ?_
  refine lv_lconst (v := 0) cx.1 cx.2.1 dX5_instrument_27 (by decide) ?_
  refine lv_ldc2 (own := "MarginHouseModel") (v := 1000000) cx.1 cx.2.1 cx.2.2.2.1 (cx.2.2.2.2.1 _ nw_412) dX5_instrument_28 ?_
  refine ck_S (v := some (.int (if wi_ z.toInt64 0 1000000 then 1 else 0))) (As := [.long z.toInt64, .long 0, .long 1000000]) (rest := [.ref (ad_ w 20 0)]) cx hW hS hl (c_X5_within l hI a z.toInt64 0 1000000) cw_X5_within nw_406 nw_405 rfl rfl (Nat.le_of_ble_eq_true rfl) rfl rfl ⟨Nat.le_of_ble_eq_true rfl, Nat.le_of_ble_eq_true rfl⟩ ⟨Nat.le_of_ble_eq_true rfl, Nat.le_of_ble_eq_true rfl⟩ dX5_instrument_31 (fun H locs hW hS => ?_)
  refine W.eq (g2 := F0 zm 34 ls [.int (if wi_ z.toInt64 0 1000000 then 1 else 0), .ref (ad_ w 20 0)]) rfl ?_
  refine lv_if_eq (tgt := 41) cx.1 cx.2.1 dX5_instrument_34 (by decide) (fun zz => absurd zz (bz_t h.2.2)) (fun h34 => ?_)
  refine lv_iconst (v := 0) cx.1 cx.2.1 dX5_instrument_37 (by decide) ?_
  refine lv_goto (tgt := 42) cx.1 cx.2.1 dX5_instrument_38 (by decide) ?_
  refine pf_X5_62 cx hW hS (by decide) dX5_instrument_42 (fun H locs hW hS => ?_)
  replace hW : Hd_ w (th_ a 0) H := hW
  refine lv_aload_n cx.1 cx.2.1 dX5_instrument_45 rfl (lv_at hl 0 rfl) ?_
  refine gf_X5_62 cx hW (by decide) dX5_instrument_46 ?_
  refine tp_i (y := 0) (th_20 a _) ?_
  refine lv_if_le (tgt := 54) cx.1 cx.2.1 dX5_instrument_49 (by decide) (fun h49 => ?_) (fun zz => absurd (by decide) zz)
  refine lv_aload_n cx.1 cx.2.1 dX5_instrument_54 rfl (lv_at hl 0 rfl) ?_
  refine gf_X5_69 cx hW (by decide) dX5_instrument_55 ?_
  refine lv_bipush (v := 6) cx.1 cx.2.1 dX5_instrument_58 (by decide) ?_
  refine lv_icmp_ne (tgt := 65) cx.1 cx.2.1 dX5_instrument_60 (by decide) (fun zz => absurd (by rw [th_gi _ _ _ _ _ (by decide)]; exact hn) zz) (fun h60 => ?_)
  refine lv_iconst (v := -1) cx.1 cx.2.1 dX5_instrument_63 (by decide) ?_
  exact cr_i cx hr hlk hW hS (Nat.le_of_ble_eq_true rfl) (Nat.le_of_ble_eq_true rfl) dX5_instrument_64 rfl rfl
set_option maxHeartbeats 4000000 in
set_option maxRecDepth 100000 in
theorem c_X5_instrument_ok (l : Launch) {w : Gh_} (hI : In_ w) (a : St_) (n : Nat) (hn : gi_ a 22 0 0 = nI n) (hn6 : n ≤ 6) (x y z : Int32) (h : wi_ x.toInt64 0 1000000 ∧ wi_ y.toInt64 0 1000000 ∧ wi_ z.toInt64 0 1000000) (hn5 : n < 6) : Fn_ l w yX5_instrument (.code yX5_instrument cX5_instrument 4 (some .int)) { frames := 1, cells := 0, slots := 0, locals := 25 } 0 0 [.ref (ad_ w 20 0), .int x, .int y, .int z] a (.inl (some (.int (nI n)))) (si_ (si_ (si_ (si_ (th_ a 0) 26 0 n x) 27 0 n y) 28 0 n z) 22 0 0 (nI (n + 1))) := by
  refine Fn_of hI (by decide +kernel) (Nat.le_of_ble_eq_true rfl) ?_
  intro zp ze zs zm zb zt zc ls cx hr hlk hno hW hS hl
  replace cx : Cx_ zp zs zm zc _ cX5_instrument 4 "MarginHouseModel" w := cx
  replace hl : lv_has ls 4 [(0, .ref (ad_ w 20 0)), (1, .int x), (2, .int y), (3, .int z)] := hl
  obtain ⟨H, hH⟩ : ∃ H, zs.heap = H := ⟨_, rfl⟩
  rw [hH] at hW
  have hS : Fr_ w zs.heap H [] := by rw [← hH]; exact hS
  obtain ⟨locs, hlocs⟩ : ∃ x : List Loc, x = [] := ⟨_, rfl⟩
  rw [← hlocs] at hS ⊢
  rw [show W zp l ze _ zs zm _ zb zt zc zs.heap locs 0 0 _ (F0 zm 0 ls []) ↔ W zp l ze _ zs zm _ zb zt zc H locs 0 0 _ (F0 zm 0 ls []) from by rw [hH]]
  refine lv_aload_n cx.1 cx.2.1 dX5_instrument_0 rfl (lv_at hl 0 rfl) ?_
  refine lv_iload_n cx.1 cx.2.1 dX5_instrument_1 rfl (lv_at hl 1 rfl) ?_
  refine lv_i2l (v := x.toInt64) cx.1 cx.2.1 dX5_instrument_2 rfl ?_
  refine lv_lconst (v := 0) cx.1 cx.2.1 dX5_instrument_3 (by decide) ?_
  refine lv_ldc2 (own := "MarginHouseModel") (v := 1000000) cx.1 cx.2.1 cx.2.2.2.1 (cx.2.2.2.2.1 _ nw_412) dX5_instrument_4 ?_
  refine ck_S (v := some (.int (if wi_ x.toInt64 0 1000000 then 1 else 0))) (As := [.long x.toInt64, .long 0, .long 1000000]) (rest := [.ref (ad_ w 20 0)]) cx hW hS hl (c_X5_within l hI a x.toInt64 0 1000000) cw_X5_within nw_406 nw_405 rfl rfl (Nat.le_of_ble_eq_true rfl) rfl rfl ⟨Nat.le_of_ble_eq_true rfl, Nat.le_of_ble_eq_true rfl⟩ ⟨Nat.le_of_ble_eq_true rfl, Nat.le_of_ble_eq_true rfl⟩ dX5_instrument_7 (fun H locs hW hS => ?_)
  refine W.eq (g2 := F0 zm 10 ls [.int (if wi_ x.toInt64 0 1000000 then 1 else 0), .ref (ad_ w 20 0)]) rfl ?_
  refine lv_if_eq (tgt := 41) cx.1 cx.2.1 dX5_instrument_10 (by decide) (fun zz => absurd zz (bz_t h.1)) (fun h10 => ?_)
  refine lv_iload_n cx.1 cx.2.1 dX5_instrument_13 rfl (lv_at hl 2 rfl) ?_
  refine lv_i2l (v := y.toInt64) cx.1 cx.2.1 dX5_instrument_14 rfl ?_
  refine lv_lconst (v := 0) cx.1 cx.2.1 dX5_instrument_15 (by decide) ?_
  refine lv_ldc2 (own := "MarginHouseModel") (v := 1000000) cx.1 cx.2.1 cx.2.2.2.1 (cx.2.2.2.2.1 _ nw_412) dX5_instrument_16 ?_
  refine ck_S (v := some (.int (if wi_ y.toInt64 0 1000000 then 1 else 0))) (As := [.long y.toInt64, .long 0, .long 1000000]) (rest := [.ref (ad_ w 20 0)]) cx hW hS hl (c_X5_within l hI a y.toInt64 0 1000000) cw_X5_within nw_406 nw_405 rfl rfl (Nat.le_of_ble_eq_true rfl) rfl rfl ⟨Nat.le_of_ble_eq_true rfl, Nat.le_of_ble_eq_true rfl⟩ ⟨Nat.le_of_ble_eq_true rfl, Nat.le_of_ble_eq_true rfl⟩ dX5_instrument_19 (fun H locs hW hS => ?_)
  refine W.eq (g2 := F0 zm 22 ls [.int (if wi_ y.toInt64 0 1000000 then 1 else 0), .ref (ad_ w 20 0)]) rfl ?_
  refine lv_if_eq (tgt := 41) cx.1 cx.2.1 dX5_instrument_22 (by decide) (fun zz => absurd zz (bz_t h.2.1)) (fun h22 => ?_)
  refine lv_iload_n cx.1 cx.2.1 dX5_instrument_25 rfl (lv_at hl 3 rfl) ?_
  refine lv_i2l (v := z.toInt64) cx.1 cx.2.1 dX5_instrument_26 rfl ?_
  refine lv_lconst (v := 0) cx.1 cx.2.1 dX5_instrument_27 (by decide) ?_
  refine lv_ldc2 (own := "MarginHouseModel") (v := 1000000) cx.1 cx.2.1 cx.2.2.2.1 (cx.2.2.2.2.1 _ nw_412) dX5_instrument_28 ?_
  refine ck_S (v := some (.int (if wi_ z.toInt64 0 1000000 then 1 else 0))) (As := [.long z.toInt64, .long 0, .long 1000000]) (rest := [.ref (ad_ w 20 0)]) cx hW hS hl (c_X5_within l hI a z.toInt64 0 1000000) cw_X5_within nw_406 nw_405 rfl rfl (Nat.le_of_ble_eq_true rfl) rfl rfl ⟨Nat.le_of_ble_eq_true rfl, Nat.le_of_ble_eq_true rfl⟩ ⟨Nat.le_of_ble_eq_true rfl, Nat.le_of_ble_eq_true rfl⟩ dX5_instrument_31 (fun H locs hW hS => ?_)
  refine W.eq (g2 := F0 zm 34 ls [.int (if wi_ z.toInt64 0 1000000 then 1 else 0), .ref (ad_ w 20 0)]) rfl ?_
  refine lv_if_eq (tgt := 41) cx.1 cx.2.1 dX5_instrument_34 (by decide) (fun zz => absurd zz (bz_t h.2.2)) (fun h34 => ?_)
  refine lv_iconst (v := 0) cx.1 cx.2.1 dX5_instrument_37 (by decide) ?_
  refine lv_goto (tgt := 42) cx.1 cx.2.1 dX5_instrument_38 (by decide) ?_
  refine pf_X5_62 cx hW hS (by decide) dX5_instrument_42 (fun H locs hW hS => ?_)
  replace hW : Hd_ w (th_ a 0) H := hW
  refine lv_aload_n cx.1 cx.2.1 dX5_instrument_45 rfl (lv_at hl 0 rfl) ?_
  refine gf_X5_62 cx hW (by decide) dX5_instrument_46 ?_
  refine tp_i (y := 0) (th_20 a _) ?_
  refine lv_if_le (tgt := 54) cx.1 cx.2.1 dX5_instrument_49 (by decide) (fun h49 => ?_) (fun zz => absurd (by decide) zz)
  refine lv_aload_n cx.1 cx.2.1 dX5_instrument_54 rfl (lv_at hl 0 rfl) ?_
  refine gf_X5_69 cx hW (by decide) dX5_instrument_55 ?_
  refine tp_i (y := nI n) (by rw [th_gi _ _ _ _ _ (by decide)]; exact hn) ?_
  refine lv_bipush (v := 6) cx.1 cx.2.1 dX5_instrument_58 (by decide) ?_
  refine lv_icmp_ne (tgt := 65) cx.1 cx.2.1 dX5_instrument_60 (by decide) (fun h60 => ?_) (fun zz => absurd zz (nI_nec (z := 6) (by decide +kernel) (by omega) (by omega) (by omega)))
  refine lv_aload_n cx.1 cx.2.1 dX5_instrument_65 rfl (lv_at hl 0 rfl) ?_
  refine gf_X5_26 cx hW (by decide) dX5_instrument_66 ?_
  refine lv_aload_n cx.1 cx.2.1 dX5_instrument_69 rfl (lv_at hl 0 rfl) ?_
  refine gf_X5_69 cx hW (by decide) dX5_instrument_70 ?_
  refine tp_i (y := nI n) (by rw [th_gi _ _ _ _ _ (by decide)]; exact hn) ?_
  refine lv_iload_n cx.1 cx.2.1 dX5_instrument_73 rfl (lv_at hl 1 rfl) ?_
  refine as_26 (j := n) cx hW hS (by decide) rfl (by omega) dX5_instrument_74 (fun H locs hW hS => ?_)
  refine lv_aload_n cx.1 cx.2.1 dX5_instrument_75 rfl (lv_at hl 0 rfl) ?_
  refine gf_X5_29 cx hW (by decide) dX5_instrument_76 ?_
  refine lv_aload_n cx.1 cx.2.1 dX5_instrument_79 rfl (lv_at hl 0 rfl) ?_
  refine gf_X5_69 cx hW (by decide) dX5_instrument_80 ?_
  refine tp_i (y := nI n) (by simp only [gi_si]; simp; exact (by rw [th_gi _ _ _ _ _ (by decide)]; exact hn)) ?_
  refine lv_iload_n cx.1 cx.2.1 dX5_instrument_83 rfl (lv_at hl 2 rfl) ?_
  refine as_27 (j := n) cx hW hS (by decide) rfl (by omega) dX5_instrument_84 (fun H locs hW hS => ?_)
  refine lv_aload_n cx.1 cx.2.1 dX5_instrument_85 rfl (lv_at hl 0 rfl) ?_
  refine gf_X5_32 cx hW (by decide) dX5_instrument_86 ?_
  refine lv_aload_n cx.1 cx.2.1 dX5_instrument_89 rfl (lv_at hl 0 rfl) ?_
  refine gf_X5_69 cx hW (by decide) dX5_instrument_90 ?_
  refine tp_i (y := nI n) (by simp only [gi_si]; simp; exact (by rw [th_gi _ _ _ _ _ (by decide)]; exact hn)) ?_
  refine lv_iload_n cx.1 cx.2.1 dX5_instrument_93 rfl (lv_at hl 3 rfl) ?_
  refine as_28 (j := n) cx hW hS (by decide) rfl (by omega) dX5_instrument_94 (fun H locs hW hS => ?_)
  refine lv_aload_n cx.1 cx.2.1 dX5_instrument_95 rfl (lv_at hl 0 rfl) ?_
  refine lv_dup cx.1 cx.2.1 dX5_instrument_96 rfl ?_
  refine gf_X5_69 cx hW (by decide) dX5_instrument_97 ?_
  refine tp_i (y := nI n) (by simp only [gi_si]; simp; exact (by rw [th_gi _ _ _ _ _ (by decide)]; exact hn)) ?_
  refine lv_iconst (v := 1) cx.1 cx.2.1 dX5_instrument_100 (by decide) ?_
  refine lv_iadd cx.1 cx.2.1 dX5_instrument_101 ?_
  refine tp_i (y := nI (n + 1)) (nI_1 n) ?_
  refine pf_X5_69 cx hW hS (by decide) dX5_instrument_102 (fun H locs hW hS => ?_)
  refine lv_aload_n cx.1 cx.2.1 dX5_instrument_105 rfl (lv_at hl 0 rfl) ?_
  refine gf_X5_69 cx hW (by decide) dX5_instrument_106 ?_
  refine tp_i (y := nI (n + 1)) (by rw [gi_si]; exact if_pos ⟨rfl, rfl, rfl⟩) ?_
  refine lv_iconst (v := 1) cx.1 cx.2.1 dX5_instrument_109 (by decide) ?_
  refine lv_isub cx.1 cx.2.1 dX5_instrument_110 ?_
  refine tp_i (y := nI n) (nI_pred n) ?_
  exact cr_i cx hr hlk hW hS (Nat.le_of_ble_eq_true rfl) (Nat.le_of_ble_eq_true rfl) dX5_instrument_111 rfl rfl
set_option maxHeartbeats 4000000 in
set_option maxRecDepth 100000 in
theorem c_X5_capital_ia (l : Launch) {w : Gh_} (hI : In_ w) (a : St_) (y : Int64) (h : ¬ wi_ y 0 1000000000000) : Fn_ l w yX5_capital (.code yX5_capital cX5_capital 3 (some .long)) { frames := 1, cells := 0, slots := 0, locals := 25 } 0 0 [.ref (ad_ w 20 0), .long y] a (.inl (some (.long 0))) (th_ a 1) := by
  refine Fn_of hI (by decide +kernel) (Nat.le_of_ble_eq_true rfl) ?_
  intro zp ze zs zm zb zt zc ls cx hr hlk hno hW hS hl
  replace cx : Cx_ zp zs zm zc _ cX5_capital 3 "MarginHouseModel" w := cx
  replace hl : lv_has ls 3 [(0, .ref (ad_ w 20 0)), (1, .long y)] := hl
  obtain ⟨H, hH⟩ : ∃ H, zs.heap = H := ⟨_, rfl⟩
  rw [hH] at hW
  have hS : Fr_ w zs.heap H [] := by rw [← hH]; exact hS
  obtain ⟨locs, hlocs⟩ : ∃ x : List Loc, x = [] := ⟨_, rfl⟩
  rw [← hlocs] at hS ⊢
  rw [show W zp l ze _ zs zm _ zb zt zc zs.heap locs 0 0 _ (F0 zm 0 ls []) ↔ W zp l ze _ zs zm _ zb zt zc H locs 0 0 _ (F0 zm 0 ls []) from by rw [hH]]
  refine lv_aload_n cx.1 cx.2.1 dX5_capital_0 rfl (lv_at hl 0 rfl) ?_
  refine lv_lload_n cx.1 cx.2.1 dX5_capital_1 rfl (lv_at hl 1 rfl) ?_
  refine lv_lconst (v := 0) cx.1 cx.2.1 dX5_capital_2 (by decide) ?_
  refine lv_ldc2 (own := "MarginHouseModel") (v := 1000000000000) cx.1 cx.2.1 cx.2.2.2.1 (cx.2.2.2.2.1 _ nw_404) dX5_capital_3 ?_
  refine ck_S (v := some (.int (if wi_ y 0 1000000000000 then 1 else 0))) (As := [.long y, .long 0, .long 1000000000000]) (rest := [.ref (ad_ w 20 0)]) cx hW hS hl (c_X5_within l hI a y 0 1000000000000) cw_X5_within nw_406 nw_405 rfl rfl (Nat.le_of_ble_eq_true rfl) rfl rfl ⟨Nat.le_of_ble_eq_true rfl, Nat.le_of_ble_eq_true rfl⟩ ⟨Nat.le_of_ble_eq_true rfl, Nat.le_of_ble_eq_true rfl⟩ dX5_capital_6 (fun H locs hW hS => ?_)
  refine W.eq (g2 := F0 zm 9 ls [.int (if wi_ y 0 1000000000000 then 1 else 0), .ref (ad_ w 20 0)]) rfl ?_
  refine lv_if_eq (tgt := 16) cx.1 cx.2.1 dX5_capital_9 (by decide) (fun h9 => ?_) (fun zz => absurd (bz_f h) zz)
  refine lv_iconst (v := 1) cx.1 cx.2.1 dX5_capital_16 (by decide) ?_
  refine pf_X5_62 cx hW hS (by decide) dX5_capital_17 (fun H locs hW hS => ?_)
  replace hW : Hd_ w (th_ a 1) H := hW
  refine lv_aload_n cx.1 cx.2.1 dX5_capital_20 rfl (lv_at hl 0 rfl) ?_
  refine gf_X5_62 cx hW (by decide) dX5_capital_21 ?_
  refine tp_i (y := 1) (th_20 a _) ?_
  refine lv_if_le (tgt := 29) cx.1 cx.2.1 dX5_capital_24 (by decide) (fun zz => absurd zz (by decide)) (fun h24 => ?_)
  refine lv_lconst (v := 0) cx.1 cx.2.1 dX5_capital_27 (by decide) ?_
  exact cr_l cx hr hlk hW hS (Nat.le_of_ble_eq_true rfl) (Nat.le_of_ble_eq_true rfl) dX5_capital_28 rfl rfl
set_option maxHeartbeats 4000000 in
set_option maxRecDepth 100000 in
theorem c_X5_capital_none (l : Launch) {w : Gh_} (hI : In_ w) (a : St_) (y : Int64) (h : wi_ y 0 1000000000000) (h2 : ¬ tm_ (gl_ a 22 0 0 + y)) : Fn_ l w yX5_capital (.code yX5_capital cX5_capital 3 (some .long)) { frames := 1, cells := 0, slots := 0, locals := 25 } 0 0 [.ref (ad_ w 20 0), .long y] a (.inl (some (.long (-1)))) (th_ a 0) := by
  refine Fn_of hI (by decide +kernel) (Nat.le_of_ble_eq_true rfl) ?_
  intro zp ze zs zm zb zt zc ls cx hr hlk hno hW hS hl
  replace cx : Cx_ zp zs zm zc _ cX5_capital 3 "MarginHouseModel" w := cx
  replace hl : lv_has ls 3 [(0, .ref (ad_ w 20 0)), (1, .long y)] := hl
  obtain ⟨H, hH⟩ : ∃ H, zs.heap = H := ⟨_, rfl⟩
  rw [hH] at hW
  have hS : Fr_ w zs.heap H [] := by rw [← hH]; exact hS
  obtain ⟨locs, hlocs⟩ : ∃ x : List Loc, x = [] := ⟨_, rfl⟩
  rw [← hlocs] at hS ⊢
  rw [show W zp l ze _ zs zm _ zb zt zc zs.heap locs 0 0 _ (F0 zm 0 ls []) ↔ W zp l ze _ zs zm _ zb zt zc H locs 0 0 _ (F0 zm 0 ls []) from by rw [hH]]
  refine lv_aload_n cx.1 cx.2.1 dX5_capital_0 rfl (lv_at hl 0 rfl) ?_
  refine lv_lload_n cx.1 cx.2.1 dX5_capital_1 rfl (lv_at hl 1 rfl) ?_
  refine lv_lconst (v := 0) cx.1 cx.2.1 dX5_capital_2 (by decide) ?_
  refine lv_ldc2 (own := "MarginHouseModel") (v := 1000000000000) cx.1 cx.2.1 cx.2.2.2.1 (cx.2.2.2.2.1 _ nw_404) dX5_capital_3 ?_
  refine ck_S (v := some (.int (if wi_ y 0 1000000000000 then 1 else 0))) (As := [.long y, .long 0, .long 1000000000000]) (rest := [.ref (ad_ w 20 0)]) cx hW hS hl (c_X5_within l hI a y 0 1000000000000) cw_X5_within nw_406 nw_405 rfl rfl (Nat.le_of_ble_eq_true rfl) rfl rfl ⟨Nat.le_of_ble_eq_true rfl, Nat.le_of_ble_eq_true rfl⟩ ⟨Nat.le_of_ble_eq_true rfl, Nat.le_of_ble_eq_true rfl⟩ dX5_capital_6 (fun H locs hW hS => ?_)
  refine W.eq (g2 := F0 zm 9 ls [.int (if wi_ y 0 1000000000000 then 1 else 0), .ref (ad_ w 20 0)]) rfl ?_
  refine lv_if_eq (tgt := 16) cx.1 cx.2.1 dX5_capital_9 (by decide) (fun zz => absurd zz (bz_t h)) (fun h9 => ?_)
  refine lv_iconst (v := 0) cx.1 cx.2.1 dX5_capital_12 (by decide) ?_
  refine lv_goto (tgt := 17) cx.1 cx.2.1 dX5_capital_13 (by decide) ?_
  refine pf_X5_62 cx hW hS (by decide) dX5_capital_17 (fun H locs hW hS => ?_)
  replace hW : Hd_ w (th_ a 0) H := hW
  refine lv_aload_n cx.1 cx.2.1 dX5_capital_20 rfl (lv_at hl 0 rfl) ?_
  refine gf_X5_62 cx hW (by decide) dX5_capital_21 ?_
  refine tp_i (y := 0) (th_20 a _) ?_
  refine lv_if_le (tgt := 29) cx.1 cx.2.1 dX5_capital_24 (by decide) (fun h24 => ?_) (fun zz => absurd (by decide) zz)
  refine lv_aload_n cx.1 cx.2.1 dX5_capital_29 rfl (lv_at hl 0 rfl) ?_
  refine gf_X5_84 cx hW (by decide) dX5_capital_30 ?_
  refine lv_lload_n cx.1 cx.2.1 dX5_capital_33 rfl (lv_at hl 1 rfl) ?_
  refine lv_ladd cx.1 cx.2.1 dX5_capital_34 ?_
  refine ck_S (v := some (.int (if ¬ tm_ ((gl_ (th_ a 0) 22 0 0) + y) then 1 else 0))) (As := [.long ((gl_ (th_ a 0) 22 0 0) + y)]) (rest := []) cx hW hS hl (c_X5_isFar l hI (th_ a 0) ((gl_ (th_ a 0) 22 0 0) + y)) cw_X5_isFar nw_418 nw_417 rfl rfl (Nat.le_of_ble_eq_true rfl) rfl rfl ⟨Nat.le_of_ble_eq_true rfl, Nat.le_of_ble_eq_true rfl⟩ ⟨Nat.le_of_ble_eq_true rfl, Nat.le_of_ble_eq_true rfl⟩ dX5_capital_35 (fun H locs hW hS => ?_)
  refine W.eq (g2 := F0 zm 38 ls [.int (if ¬ tm_ ((gl_ (th_ a 0) 22 0 0) + y) then 1 else 0)]) rfl ?_
  refine lv_if_eq (tgt := 45) cx.1 cx.2.1 dX5_capital_38 (by decide) (fun zz => absurd zz (bz_t h2)) (fun h38 => ?_)
  refine lv_ldc2 (own := "MarginHouseModel") (v := -1) cx.1 cx.2.1 cx.2.2.2.1 (cx.2.2.2.2.1 _ nw_422) dX5_capital_41 ?_
  exact cr_l cx hr hlk hW hS (Nat.le_of_ble_eq_true rfl) (Nat.le_of_ble_eq_true rfl) dX5_capital_44 rfl rfl
set_option maxHeartbeats 4000000 in
set_option maxRecDepth 100000 in
theorem c_X5_capital_ok (l : Launch) {w : Gh_} (hI : In_ w) (a : St_) (y : Int64) (h : wi_ y 0 1000000000000) (h2 : tm_ (gl_ a 22 0 0 + y)) : Fn_ l w yX5_capital (.code yX5_capital cX5_capital 3 (some .long)) { frames := 1, cells := 0, slots := 0, locals := 25 } 0 0 [.ref (ad_ w 20 0), .long y] a (.inl (some (.long (gl_ a 22 0 0 + y)))) (sl_ (th_ a 0) 22 0 0 (gl_ a 22 0 0 + y)) := by
  refine Fn_of hI (by decide +kernel) (Nat.le_of_ble_eq_true rfl) ?_
  intro zp ze zs zm zb zt zc ls cx hr hlk hno hW hS hl
  replace cx : Cx_ zp zs zm zc _ cX5_capital 3 "MarginHouseModel" w := cx
  replace hl : lv_has ls 3 [(0, .ref (ad_ w 20 0)), (1, .long y)] := hl
  obtain ⟨H, hH⟩ : ∃ H, zs.heap = H := ⟨_, rfl⟩
  rw [hH] at hW
  have hS : Fr_ w zs.heap H [] := by rw [← hH]; exact hS
  obtain ⟨locs, hlocs⟩ : ∃ x : List Loc, x = [] := ⟨_, rfl⟩
  rw [← hlocs] at hS ⊢
  rw [show W zp l ze _ zs zm _ zb zt zc zs.heap locs 0 0 _ (F0 zm 0 ls []) ↔ W zp l ze _ zs zm _ zb zt zc H locs 0 0 _ (F0 zm 0 ls []) from by rw [hH]]
  refine lv_aload_n cx.1 cx.2.1 dX5_capital_0 rfl (lv_at hl 0 rfl) ?_
  refine lv_lload_n cx.1 cx.2.1 dX5_capital_1 rfl (lv_at hl 1 rfl) ?_
  refine lv_lconst (v := 0) cx.1 cx.2.1 dX5_capital_2 (by decide) ?_
  refine lv_ldc2 (own := "MarginHouseModel") (v := 1000000000000) cx.1 cx.2.1 cx.2.2.2.1 (cx.2.2.2.2.1 _ nw_404) dX5_capital_3 ?_
  refine ck_S (v := some (.int (if wi_ y 0 1000000000000 then 1 else 0))) (As := [.long y, .long 0, .long 1000000000000]) (rest := [.ref (ad_ w 20 0)]) cx hW hS hl (c_X5_within l hI a y 0 1000000000000) cw_X5_within nw_406 nw_405 rfl rfl (Nat.le_of_ble_eq_true rfl) rfl rfl ⟨Nat.le_of_ble_eq_true rfl, Nat.le_of_ble_eq_true rfl⟩ ⟨Nat.le_of_ble_eq_true rfl, Nat.le_of_ble_eq_true rfl⟩ dX5_capital_6 (fun H locs hW hS => ?_)
  refine W.eq (g2 := F0 zm 9 ls [.int (if wi_ y 0 1000000000000 then 1 else 0), .ref (ad_ w 20 0)]) rfl ?_
  refine lv_if_eq (tgt := 16) cx.1 cx.2.1 dX5_capital_9 (by decide) (fun zz => absurd zz (bz_t h)) (fun h9 => ?_)
  refine lv_iconst (v := 0) cx.1 cx.2.1 dX5_capital_12 (by decide) ?_
  refine lv_goto (tgt := 17) cx.1 cx.2.1 dX5_capital_13 (by decide) ?_
  refine pf_X5_62 cx hW hS (by decide) dX5_capital_17 (fun H locs hW hS => ?_)
  replace hW : Hd_ w (th_ a 0) H := hW
  refine lv_aload_n cx.1 cx.2.1 dX5_capital_20 rfl (lv_at hl 0 rfl) ?_
  refine gf_X5_62 cx hW (by decide) dX5_capital_21 ?_
  refine tp_i (y := 0) (th_20 a _) ?_
  refine lv_if_le (tgt := 29) cx.1 cx.2.1 dX5_capital_24 (by decide) (fun h24 => ?_) (fun zz => absurd (by decide) zz)
  refine lv_aload_n cx.1 cx.2.1 dX5_capital_29 rfl (lv_at hl 0 rfl) ?_
  refine gf_X5_84 cx hW (by decide) dX5_capital_30 ?_
  refine lv_lload_n cx.1 cx.2.1 dX5_capital_33 rfl (lv_at hl 1 rfl) ?_
  refine lv_ladd cx.1 cx.2.1 dX5_capital_34 ?_
  refine ck_S (v := some (.int (if ¬ tm_ ((gl_ (th_ a 0) 22 0 0) + y) then 1 else 0))) (As := [.long ((gl_ (th_ a 0) 22 0 0) + y)]) (rest := []) cx hW hS hl (c_X5_isFar l hI (th_ a 0) ((gl_ (th_ a 0) 22 0 0) + y)) cw_X5_isFar nw_418 nw_417 rfl rfl (Nat.le_of_ble_eq_true rfl) rfl rfl ⟨Nat.le_of_ble_eq_true rfl, Nat.le_of_ble_eq_true rfl⟩ ⟨Nat.le_of_ble_eq_true rfl, Nat.le_of_ble_eq_true rfl⟩ dX5_capital_35 (fun H locs hW hS => ?_)
  refine W.eq (g2 := F0 zm 38 ls [.int (if ¬ tm_ ((gl_ (th_ a 0) 22 0 0) + y) then 1 else 0)]) rfl ?_
  refine lv_if_eq (tgt := 45) cx.1 cx.2.1 dX5_capital_38 (by decide) (fun h38 => ?_) (fun zz => absurd (bz_f (fun z => z h2)) zz)
  refine lv_aload_n cx.1 cx.2.1 dX5_capital_45 rfl (lv_at hl 0 rfl) ?_
  refine lv_aload_n cx.1 cx.2.1 dX5_capital_46 rfl (lv_at hl 0 rfl) ?_
  refine gf_X5_84 cx hW (by decide) dX5_capital_47 ?_
  refine lv_lload_n cx.1 cx.2.1 dX5_capital_50 rfl (lv_at hl 1 rfl) ?_
  refine lv_ladd cx.1 cx.2.1 dX5_capital_51 ?_
  refine pf_X5_84 cx hW hS (by decide) dX5_capital_52 (fun H locs hW hS => ?_)
  refine lv_aload_n cx.1 cx.2.1 dX5_capital_55 rfl (lv_at hl 0 rfl) ?_
  refine gf_X5_84 cx hW (by decide) dX5_capital_56 ?_
  refine tp_j (y := gl_ a 22 0 0 + y) (by rw [gl_sl]; exact if_pos ⟨rfl, rfl, rfl⟩) ?_
  exact cr_l cx hr hlk hW hS (Nat.le_of_ble_eq_true rfl) (Nat.le_of_ble_eq_true rfl) dX5_capital_59 rfl rfl
set_option maxHeartbeats 4000000 in
set_option maxRecDepth 100000 in
theorem c_X5_move_ia (l : Launch) {w : Gh_} (hI : In_ w) (a : St_) (x y z : Int32) (h : ¬ ((¬ x < 0 ∧ ¬ 7 < x) ∧ jm_ y (gi_ a 22 0 0) ∧ wi_ z.toInt64 (-1000000) 1000000)) : Fn_ l w yX5_move (.code yX5_move cX5_move 4 none) { frames := 1, cells := 0, slots := 0, locals := 25 } 0 0 [.ref (ad_ w 20 0), .int x, .int y, .int z] a (.inl none) (th_ a 1) := by
  refine Fn_of hI (by decide +kernel) (Nat.le_of_ble_eq_true rfl) ?_
  intro zp ze zs zm zb zt zc ls cx hr hlk hno hW hS hl
  replace cx : Cx_ zp zs zm zc _ cX5_move 4 "MarginHouseModel" w := cx
  replace hl : lv_has ls 4 [(0, .ref (ad_ w 20 0)), (1, .int x), (2, .int y), (3, .int z)] := hl
  obtain ⟨H, hH⟩ : ∃ H, zs.heap = H := ⟨_, rfl⟩
  rw [hH] at hW
  have hS : Fr_ w zs.heap H [] := by rw [← hH]; exact hS
  obtain ⟨locs, hlocs⟩ : ∃ x : List Loc, x = [] := ⟨_, rfl⟩
  rw [← hlocs] at hS ⊢
  rw [show W zp l ze _ zs zm _ zb zt zc zs.heap locs 0 0 _ (F0 zm 0 ls []) ↔ W zp l ze _ zs zm _ zb zt zc H locs 0 0 _ (F0 zm 0 ls []) from by rw [hH]]
  refine lv_aload_n cx.1 cx.2.1 dX5_move_0 rfl (lv_at hl 0 rfl) ?_
  refine lv_iload_n cx.1 cx.2.1 dX5_move_1 rfl (lv_at hl 1 rfl) ?_
  refine lv_if_lt (tgt := 33) cx.1 cx.2.1 dX5_move_2 (by decide) (fun h2 => ?_) (fun h2 => ?_)
  · skip
    refine lv_iconst (v := 1) cx.1 cx.2.1 dX5_move_33 (by decide) ?_
    refine lv_goto (tgt := 38) cx.1 cx.2.1 dX5_move_34 (by decide) ?_
    refine pf_X5_62 cx hW hS (by decide) dX5_move_38 (fun H locs hW hS => ?_)
    replace hW : Hd_ w (th_ a 1) H := hW
    refine lv_aload_n cx.1 cx.2.1 dX5_move_41 rfl (lv_at hl 0 rfl) ?_
    refine gf_X5_62 cx hW (by decide) dX5_move_42 ?_
    refine tp_i (y := 1) (th_20 a _) ?_
    refine lv_if_ne (tgt := 60) cx.1 cx.2.1 dX5_move_45 (by decide) (fun h45 => ?_) (fun zz => absurd zz (by decide))
    exact cr_v cx hr hlk hW hS (Nat.le_of_ble_eq_true rfl) (Nat.le_of_ble_eq_true rfl) dX5_move_60 rfl rfl
  · skip
    refine lv_iload_n cx.1 cx.2.1 dX5_move_5 rfl (lv_at hl 1 rfl) ?_
    refine lv_bipush (v := 7) cx.1 cx.2.1 dX5_move_6 (by decide) ?_
    refine lv_icmp_gt (tgt := 33) cx.1 cx.2.1 dX5_move_8 (by decide) (fun h8 => ?_) (fun h8 => ?_)
    · skip
      refine lv_iconst (v := 1) cx.1 cx.2.1 dX5_move_33 (by decide) ?_
      refine lv_goto (tgt := 38) cx.1 cx.2.1 dX5_move_34 (by decide) ?_
      refine pf_X5_62 cx hW hS (by decide) dX5_move_38 (fun H locs hW hS => ?_)
      replace hW : Hd_ w (th_ a 1) H := hW
      refine lv_aload_n cx.1 cx.2.1 dX5_move_41 rfl (lv_at hl 0 rfl) ?_
      refine gf_X5_62 cx hW (by decide) dX5_move_42 ?_
      refine tp_i (y := 1) (th_20 a _) ?_
      refine lv_if_ne (tgt := 60) cx.1 cx.2.1 dX5_move_45 (by decide) (fun h45 => ?_) (fun zz => absurd zz (by decide))
      exact cr_v cx hr hlk hW hS (Nat.le_of_ble_eq_true rfl) (Nat.le_of_ble_eq_true rfl) dX5_move_60 rfl rfl
    · skip
      refine lv_aload_n cx.1 cx.2.1 dX5_move_11 rfl (lv_at hl 0 rfl) ?_
      refine lv_iload_n cx.1 cx.2.1 dX5_move_12 rfl (lv_at hl 2 rfl) ?_
      refine ck_V (v := some (.int (if jm_ y (gi_ a 22 0 0) then 1 else 0))) (As := [.int y]) (rest := [.ref (ad_ w 20 0)]) (k := 20) (i := 0) (T := TX5) cx hW hS hl (by decide) rfl rfl (c_X5_isInstrument l hI a y) cw_X5_isInstrument nw_428 nw_541 nw_427 rfl rfl (Nat.le_of_ble_eq_true rfl) rfl rfl ⟨Nat.le_of_ble_eq_true rfl, Nat.le_of_ble_eq_true rfl⟩ ⟨Nat.le_of_ble_eq_true rfl, Nat.le_of_ble_eq_true rfl⟩ dX5_move_13 (fun H locs hW hS => ?_)
      refine W.eq (g2 := F0 zm 16 ls [.int (if jm_ y (gi_ a 22 0 0) then 1 else 0), .ref (ad_ w 20 0)]) rfl ?_
      refine lv_if_eq (tgt := 33) cx.1 cx.2.1 dX5_move_16 (by decide) (fun h16 => ?_) (fun h16 => ?_)
      · skip
        have h16 := bz_0 h16
        refine lv_iconst (v := 1) cx.1 cx.2.1 dX5_move_33 (by decide) ?_
        refine lv_goto (tgt := 38) cx.1 cx.2.1 dX5_move_34 (by decide) ?_
        refine pf_X5_62 cx hW hS (by decide) dX5_move_38 (fun H locs hW hS => ?_)
        replace hW : Hd_ w (th_ a 1) H := hW
        refine lv_aload_n cx.1 cx.2.1 dX5_move_41 rfl (lv_at hl 0 rfl) ?_
        refine gf_X5_62 cx hW (by decide) dX5_move_42 ?_
        refine tp_i (y := 1) (th_20 a _) ?_
        refine lv_if_ne (tgt := 60) cx.1 cx.2.1 dX5_move_45 (by decide) (fun h45 => ?_) (fun zz => absurd zz (by decide))
        exact cr_v cx hr hlk hW hS (Nat.le_of_ble_eq_true rfl) (Nat.le_of_ble_eq_true rfl) dX5_move_60 rfl rfl
      · skip
        have h16 := bz_1 h16
        refine lv_iload_n cx.1 cx.2.1 dX5_move_19 rfl (lv_at hl 3 rfl) ?_
        refine lv_i2l (v := z.toInt64) cx.1 cx.2.1 dX5_move_20 rfl ?_
        refine lv_ldc2 (own := "MarginHouseModel") (v := -1000000) cx.1 cx.2.1 cx.2.2.2.1 (cx.2.2.2.2.1 _ nw_430) dX5_move_21 ?_
        refine lv_ldc2 (own := "MarginHouseModel") (v := 1000000) cx.1 cx.2.1 cx.2.2.2.1 (cx.2.2.2.2.1 _ nw_412) dX5_move_24 ?_
        refine ck_S (v := some (.int (if wi_ z.toInt64 (-1000000) 1000000 then 1 else 0))) (As := [.long z.toInt64, .long (-1000000), .long 1000000]) (rest := [.ref (ad_ w 20 0)]) cx hW hS hl (c_X5_within l hI a z.toInt64 (-1000000) 1000000) cw_X5_within nw_406 nw_405 rfl rfl (Nat.le_of_ble_eq_true rfl) rfl rfl ⟨Nat.le_of_ble_eq_true rfl, Nat.le_of_ble_eq_true rfl⟩ ⟨Nat.le_of_ble_eq_true rfl, Nat.le_of_ble_eq_true rfl⟩ dX5_move_27 (fun H locs hW hS => ?_)
        refine W.eq (g2 := F0 zm 30 ls [.int (if wi_ z.toInt64 (-1000000) 1000000 then 1 else 0), .ref (ad_ w 20 0)]) rfl ?_
        refine lv_if_ne (tgt := 37) cx.1 cx.2.1 dX5_move_30 (by decide) (fun h30 => ?_) (fun h30 => ?_)
        · skip
          have h30 := bz_1 h30
          exact absurd ⟨⟨h2, h8⟩, h16, h30⟩ h
        · skip
          have h30 := bz_0 h30
          refine lv_iconst (v := 1) cx.1 cx.2.1 dX5_move_33 (by decide) ?_
          refine lv_goto (tgt := 38) cx.1 cx.2.1 dX5_move_34 (by decide) ?_
          refine pf_X5_62 cx hW hS (by decide) dX5_move_38 (fun H locs hW hS => ?_)
          replace hW : Hd_ w (th_ a 1) H := hW
          refine lv_aload_n cx.1 cx.2.1 dX5_move_41 rfl (lv_at hl 0 rfl) ?_
          refine gf_X5_62 cx hW (by decide) dX5_move_42 ?_
          refine tp_i (y := 1) (th_20 a _) ?_
          refine lv_if_ne (tgt := 60) cx.1 cx.2.1 dX5_move_45 (by decide) (fun h45 => ?_) (fun zz => absurd zz (by decide))
          exact cr_v cx hr hlk hW hS (Nat.le_of_ble_eq_true rfl) (Nat.le_of_ble_eq_true rfl) dX5_move_60 rfl rfl
set_option maxHeartbeats 4000000 in
set_option maxRecDepth 100000 in
theorem c_X5_move_ok (l : Launch) {w : Gh_} (hI : In_ w) (a : St_) (n : Nat) (hn : gi_ a 22 0 0 = nI n) (hn6 : n ≤ 6) (v j : Nat) (hv : v < 8) (hj : j < n) (z : Int32) (h : wi_ z.toInt64 (-1000000) 1000000) : Fn_ l w yX5_move (.code yX5_move cX5_move 4 none) { frames := 1, cells := 0, slots := 0, locals := 25 } 0 0 [.ref (ad_ w 20 0), .int (nI v), .int (nI j), .int z] a (.inl none) (si_ (th_ a 0) 29 0 (6 * v + j) z) := by
  refine Fn_of hI (by decide +kernel) (Nat.le_of_ble_eq_true rfl) ?_
  intro zp ze zs zm zb zt zc ls cx hr hlk hno hW hS hl
  replace cx : Cx_ zp zs zm zc _ cX5_move 4 "MarginHouseModel" w := cx
  replace hl : lv_has ls 4 [(0, .ref (ad_ w 20 0)), (1, .int (nI v)), (2, .int (nI j)), (3, .int z)] := hl
  obtain ⟨H, hH⟩ : ∃ H, zs.heap = H := ⟨_, rfl⟩
  rw [hH] at hW
  have hS : Fr_ w zs.heap H [] := by rw [← hH]; exact hS
  obtain ⟨locs, hlocs⟩ : ∃ x : List Loc, x = [] := ⟨_, rfl⟩
  rw [← hlocs] at hS ⊢
  rw [show W zp l ze _ zs zm _ zb zt zc zs.heap locs 0 0 _ (F0 zm 0 ls []) ↔ W zp l ze _ zs zm _ zb zt zc H locs 0 0 _ (F0 zm 0 ls []) from by rw [hH]]
  refine lv_aload_n cx.1 cx.2.1 dX5_move_0 rfl (lv_at hl 0 rfl) ?_
  refine lv_iload_n cx.1 cx.2.1 dX5_move_1 rfl (lv_at hl 1 rfl) ?_
  refine lv_if_lt (tgt := 33) cx.1 cx.2.1 dX5_move_2 (by decide) (fun zz => absurd zz (nI_pos (by omega))) (fun h2 => ?_)
  refine lv_iload_n cx.1 cx.2.1 dX5_move_5 rfl (lv_at hl 1 rfl) ?_
  refine lv_bipush (v := 7) cx.1 cx.2.1 dX5_move_6 (by decide) ?_
  refine lv_icmp_gt (tgt := 33) cx.1 cx.2.1 dX5_move_8 (by decide) (fun zz => absurd zz (by rw [show (7 : Int32) = nI 7 by decide +kernel]; exact nI_nlt (by omega) (by omega))) (fun h8 => ?_)
  refine lv_aload_n cx.1 cx.2.1 dX5_move_11 rfl (lv_at hl 0 rfl) ?_
  refine lv_iload_n cx.1 cx.2.1 dX5_move_12 rfl (lv_at hl 2 rfl) ?_
  refine ck_V (v := some (.int (if jm_ (nI j) (gi_ a 22 0 0) then 1 else 0))) (As := [.int (nI j)]) (rest := [.ref (ad_ w 20 0)]) (k := 20) (i := 0) (T := TX5) cx hW hS hl (by decide) rfl rfl (c_X5_isInstrument l hI a (nI j)) cw_X5_isInstrument nw_428 nw_541 nw_427 rfl rfl (Nat.le_of_ble_eq_true rfl) rfl rfl ⟨Nat.le_of_ble_eq_true rfl, Nat.le_of_ble_eq_true rfl⟩ ⟨Nat.le_of_ble_eq_true rfl, Nat.le_of_ble_eq_true rfl⟩ dX5_move_13 (fun H locs hW hS => ?_)
  refine W.eq (g2 := F0 zm 16 ls [.int (if jm_ (nI j) (gi_ a 22 0 0) then 1 else 0), .ref (ad_ w 20 0)]) rfl ?_
  refine lv_if_eq (tgt := 33) cx.1 cx.2.1 dX5_move_16 (by decide) (fun zz => absurd zz (bz_t (jm_in hn (by omega) hj))) (fun h16 => ?_)
  refine lv_iload_n cx.1 cx.2.1 dX5_move_19 rfl (lv_at hl 3 rfl) ?_
  refine lv_i2l (v := z.toInt64) cx.1 cx.2.1 dX5_move_20 rfl ?_
  refine lv_ldc2 (own := "MarginHouseModel") (v := -1000000) cx.1 cx.2.1 cx.2.2.2.1 (cx.2.2.2.2.1 _ nw_430) dX5_move_21 ?_
  refine lv_ldc2 (own := "MarginHouseModel") (v := 1000000) cx.1 cx.2.1 cx.2.2.2.1 (cx.2.2.2.2.1 _ nw_412) dX5_move_24 ?_
  refine ck_S (v := some (.int (if wi_ z.toInt64 (-1000000) 1000000 then 1 else 0))) (As := [.long z.toInt64, .long (-1000000), .long 1000000]) (rest := [.ref (ad_ w 20 0)]) cx hW hS hl (c_X5_within l hI a z.toInt64 (-1000000) 1000000) cw_X5_within nw_406 nw_405 rfl rfl (Nat.le_of_ble_eq_true rfl) rfl rfl ⟨Nat.le_of_ble_eq_true rfl, Nat.le_of_ble_eq_true rfl⟩ ⟨Nat.le_of_ble_eq_true rfl, Nat.le_of_ble_eq_true rfl⟩ dX5_move_27 (fun H locs hW hS => ?_)
  refine W.eq (g2 := F0 zm 30 ls [.int (if wi_ z.toInt64 (-1000000) 1000000 then 1 else 0), .ref (ad_ w 20 0)]) rfl ?_
  refine lv_if_ne (tgt := 37) cx.1 cx.2.1 dX5_move_30 (by decide) (fun h30 => ?_) (fun zz => absurd zz (bz_t h))
  refine lv_iconst (v := 0) cx.1 cx.2.1 dX5_move_37 (by decide) ?_
  refine pf_X5_62 cx hW hS (by decide) dX5_move_38 (fun H locs hW hS => ?_)
  replace hW : Hd_ w (th_ a 0) H := hW
  refine lv_aload_n cx.1 cx.2.1 dX5_move_41 rfl (lv_at hl 0 rfl) ?_
  refine gf_X5_62 cx hW (by decide) dX5_move_42 ?_
  refine tp_i (y := 0) (th_20 a _) ?_
  refine lv_if_ne (tgt := 60) cx.1 cx.2.1 dX5_move_45 (by decide) (fun zz => absurd rfl zz) (fun h45 => ?_)
  refine lv_aload_n cx.1 cx.2.1 dX5_move_48 rfl (lv_at hl 0 rfl) ?_
  refine gf_X5_35 cx hW (by decide) dX5_move_49 ?_
  refine lv_bipush (v := 6) cx.1 cx.2.1 dX5_move_52 (by decide) ?_
  refine lv_iload_n cx.1 cx.2.1 dX5_move_54 rfl (lv_at hl 1 rfl) ?_
  refine lv_imul cx.1 cx.2.1 dX5_move_55 ?_
  refine lv_iload_n cx.1 cx.2.1 dX5_move_56 rfl (lv_at hl 2 rfl) ?_
  refine lv_iadd cx.1 cx.2.1 dX5_move_57 ?_
  refine lv_iload_n cx.1 cx.2.1 dX5_move_58 rfl (lv_at hl 3 rfl) ?_
  refine as_29 (j := 6 * v + j) cx hW hS (by decide) (n6_ v j) (by omega) dX5_move_59 (fun H locs hW hS => ?_)
  exact cr_v cx hr hlk hW hS (Nat.le_of_ble_eq_true rfl) (Nat.le_of_ble_eq_true rfl) dX5_move_60 rfl rfl
set_option maxHeartbeats 4000000 in
set_option maxRecDepth 100000 in
theorem c_X5_bid_ia (l : Launch) {w : Gh_} (hI : In_ w) (a : St_) (x y z : Int32) (h : ¬ (jm_ x (gi_ a 21 0 0) ∧ jm_ y (gi_ a 22 0 0) ∧ wi_ z.toInt64 0 1000000)) : Fn_ l w yX5_bid (.code yX5_bid cX5_bid 4 none) { frames := 1, cells := 0, slots := 0, locals := 25 } 0 0 [.ref (ad_ w 20 0), .int x, .int y, .int z] a (.inl none) (th_ a 1) := by
  refine Fn_of hI (by decide +kernel) (Nat.le_of_ble_eq_true rfl) ?_
  intro zp ze zs zm zb zt zc ls cx hr hlk hno hW hS hl
  replace cx : Cx_ zp zs zm zc _ cX5_bid 4 "MarginHouseModel" w := cx
  replace hl : lv_has ls 4 [(0, .ref (ad_ w 20 0)), (1, .int x), (2, .int y), (3, .int z)] := hl
  obtain ⟨H, hH⟩ : ∃ H, zs.heap = H := ⟨_, rfl⟩
  rw [hH] at hW
  have hS : Fr_ w zs.heap H [] := by rw [← hH]; exact hS
  obtain ⟨locs, hlocs⟩ : ∃ x : List Loc, x = [] := ⟨_, rfl⟩
  rw [← hlocs] at hS ⊢
  rw [show W zp l ze _ zs zm _ zb zt zc zs.heap locs 0 0 _ (F0 zm 0 ls []) ↔ W zp l ze _ zs zm _ zb zt zc H locs 0 0 _ (F0 zm 0 ls []) from by rw [hH]]
  refine lv_aload_n cx.1 cx.2.1 dX5_bid_0 rfl (lv_at hl 0 rfl) ?_
  refine lv_aload_n cx.1 cx.2.1 dX5_bid_1 rfl (lv_at hl 0 rfl) ?_
  refine lv_iload_n cx.1 cx.2.1 dX5_bid_2 rfl (lv_at hl 1 rfl) ?_
  refine ck_V (v := some (.int (if jm_ x (gi_ a 21 0 0) then 1 else 0))) (As := [.int x]) (rest := [.ref (ad_ w 20 0)]) (k := 20) (i := 0) (T := TX5) cx hW hS hl (by decide) rfl rfl (c_X5_isMember l hI a x) cw_X5_isMember nw_436 nw_542 nw_435 rfl rfl (Nat.le_of_ble_eq_true rfl) rfl rfl ⟨Nat.le_of_ble_eq_true rfl, Nat.le_of_ble_eq_true rfl⟩ ⟨Nat.le_of_ble_eq_true rfl, Nat.le_of_ble_eq_true rfl⟩ dX5_bid_3 (fun H locs hW hS => ?_)
  refine W.eq (g2 := F0 zm 6 ls [.int (if jm_ x (gi_ a 21 0 0) then 1 else 0), .ref (ad_ w 20 0)]) rfl ?_
  refine lv_if_eq (tgt := 29) cx.1 cx.2.1 dX5_bid_6 (by decide) (fun h6 => ?_) (fun h6 => ?_)
  · skip
    have h6 := bz_0 h6
    refine lv_iconst (v := 1) cx.1 cx.2.1 dX5_bid_29 (by decide) ?_
    refine lv_goto (tgt := 34) cx.1 cx.2.1 dX5_bid_30 (by decide) ?_
    refine pf_X5_62 cx hW hS (by decide) dX5_bid_34 (fun H locs hW hS => ?_)
    replace hW : Hd_ w (th_ a 1) H := hW
    refine lv_aload_n cx.1 cx.2.1 dX5_bid_37 rfl (lv_at hl 0 rfl) ?_
    refine gf_X5_62 cx hW (by decide) dX5_bid_38 ?_
    refine tp_i (y := 1) (th_20 a _) ?_
    refine lv_if_ne (tgt := 56) cx.1 cx.2.1 dX5_bid_41 (by decide) (fun h41 => ?_) (fun zz => absurd zz (by decide))
    exact cr_v cx hr hlk hW hS (Nat.le_of_ble_eq_true rfl) (Nat.le_of_ble_eq_true rfl) dX5_bid_56 rfl rfl
  · skip
    have h6 := bz_1 h6
    refine lv_aload_n cx.1 cx.2.1 dX5_bid_9 rfl (lv_at hl 0 rfl) ?_
    refine lv_iload_n cx.1 cx.2.1 dX5_bid_10 rfl (lv_at hl 2 rfl) ?_
    refine ck_V (v := some (.int (if jm_ y (gi_ a 22 0 0) then 1 else 0))) (As := [.int y]) (rest := [.ref (ad_ w 20 0)]) (k := 20) (i := 0) (T := TX5) cx hW hS hl (by decide) rfl rfl (c_X5_isInstrument l hI a y) cw_X5_isInstrument nw_428 nw_541 nw_427 rfl rfl (Nat.le_of_ble_eq_true rfl) rfl rfl ⟨Nat.le_of_ble_eq_true rfl, Nat.le_of_ble_eq_true rfl⟩ ⟨Nat.le_of_ble_eq_true rfl, Nat.le_of_ble_eq_true rfl⟩ dX5_bid_11 (fun H locs hW hS => ?_)
    refine W.eq (g2 := F0 zm 14 ls [.int (if jm_ y (gi_ a 22 0 0) then 1 else 0), .ref (ad_ w 20 0)]) rfl ?_
    refine lv_if_eq (tgt := 29) cx.1 cx.2.1 dX5_bid_14 (by decide) (fun h14 => ?_) (fun h14 => ?_)
    · skip
      have h14 := bz_0 h14
      refine lv_iconst (v := 1) cx.1 cx.2.1 dX5_bid_29 (by decide) ?_
      refine lv_goto (tgt := 34) cx.1 cx.2.1 dX5_bid_30 (by decide) ?_
      refine pf_X5_62 cx hW hS (by decide) dX5_bid_34 (fun H locs hW hS => ?_)
      replace hW : Hd_ w (th_ a 1) H := hW
      refine lv_aload_n cx.1 cx.2.1 dX5_bid_37 rfl (lv_at hl 0 rfl) ?_
      refine gf_X5_62 cx hW (by decide) dX5_bid_38 ?_
      refine tp_i (y := 1) (th_20 a _) ?_
      refine lv_if_ne (tgt := 56) cx.1 cx.2.1 dX5_bid_41 (by decide) (fun h41 => ?_) (fun zz => absurd zz (by decide))
      exact cr_v cx hr hlk hW hS (Nat.le_of_ble_eq_true rfl) (Nat.le_of_ble_eq_true rfl) dX5_bid_56 rfl rfl
    · skip
      have h14 := bz_1 h14
      refine lv_iload_n cx.1 cx.2.1 dX5_bid_17 rfl (lv_at hl 3 rfl) ?_
      refine lv_i2l (v := z.toInt64) cx.1 cx.2.1 dX5_bid_18 rfl ?_
      refine lv_lconst (v := 0) cx.1 cx.2.1 dX5_bid_19 (by decide) ?_
      refine lv_ldc2 (own := "MarginHouseModel") (v := 1000000) cx.1 cx.2.1 cx.2.2.2.1 (cx.2.2.2.2.1 _ nw_412) dX5_bid_20 ?_
      refine ck_S (v := some (.int (if wi_ z.toInt64 0 1000000 then 1 else 0))) (As := [.long z.toInt64, .long 0, .long 1000000]) (rest := [.ref (ad_ w 20 0)]) cx hW hS hl (c_X5_within l hI a z.toInt64 0 1000000) cw_X5_within nw_406 nw_405 rfl rfl (Nat.le_of_ble_eq_true rfl) rfl rfl ⟨Nat.le_of_ble_eq_true rfl, Nat.le_of_ble_eq_true rfl⟩ ⟨Nat.le_of_ble_eq_true rfl, Nat.le_of_ble_eq_true rfl⟩ dX5_bid_23 (fun H locs hW hS => ?_)
      refine W.eq (g2 := F0 zm 26 ls [.int (if wi_ z.toInt64 0 1000000 then 1 else 0), .ref (ad_ w 20 0)]) rfl ?_
      refine lv_if_ne (tgt := 33) cx.1 cx.2.1 dX5_bid_26 (by decide) (fun h26 => ?_) (fun h26 => ?_)
      · skip
        have h26 := bz_1 h26
        exact absurd ⟨h6, h14, h26⟩ h
      · skip
        have h26 := bz_0 h26
        refine lv_iconst (v := 1) cx.1 cx.2.1 dX5_bid_29 (by decide) ?_
        refine lv_goto (tgt := 34) cx.1 cx.2.1 dX5_bid_30 (by decide) ?_
        refine pf_X5_62 cx hW hS (by decide) dX5_bid_34 (fun H locs hW hS => ?_)
        replace hW : Hd_ w (th_ a 1) H := hW
        refine lv_aload_n cx.1 cx.2.1 dX5_bid_37 rfl (lv_at hl 0 rfl) ?_
        refine gf_X5_62 cx hW (by decide) dX5_bid_38 ?_
        refine tp_i (y := 1) (th_20 a _) ?_
        refine lv_if_ne (tgt := 56) cx.1 cx.2.1 dX5_bid_41 (by decide) (fun h41 => ?_) (fun zz => absurd zz (by decide))
        exact cr_v cx hr hlk hW hS (Nat.le_of_ble_eq_true rfl) (Nat.le_of_ble_eq_true rfl) dX5_bid_56 rfl rfl
set_option maxHeartbeats 4000000 in
set_option maxRecDepth 100000 in
theorem c_X5_bid_ok (l : Launch) {w : Gh_} (hI : In_ w) (a : St_) (k : Nat) (hk : gi_ a 21 0 0 = nI k) (hk8 : k ≤ 8) (n : Nat) (hn : gi_ a 22 0 0 = nI n) (hn6 : n ≤ 6) (m j : Nat) (hm : m < k) (hj : j < n) (z : Int32) (h : wi_ z.toInt64 0 1000000) : Fn_ l w yX5_bid (.code yX5_bid cX5_bid 4 none) { frames := 1, cells := 0, slots := 0, locals := 25 } 0 0 [.ref (ad_ w 20 0), .int (nI m), .int (nI j), .int z] a (.inl none) (si_ (th_ a 0) 25 0 (6 * m + j) z) := by
  refine Fn_of hI (by decide +kernel) (Nat.le_of_ble_eq_true rfl) ?_
  intro zp ze zs zm zb zt zc ls cx hr hlk hno hW hS hl
  replace cx : Cx_ zp zs zm zc _ cX5_bid 4 "MarginHouseModel" w := cx
  replace hl : lv_has ls 4 [(0, .ref (ad_ w 20 0)), (1, .int (nI m)), (2, .int (nI j)), (3, .int z)] := hl
  obtain ⟨H, hH⟩ : ∃ H, zs.heap = H := ⟨_, rfl⟩
  rw [hH] at hW
  have hS : Fr_ w zs.heap H [] := by rw [← hH]; exact hS
  obtain ⟨locs, hlocs⟩ : ∃ x : List Loc, x = [] := ⟨_, rfl⟩
  rw [← hlocs] at hS ⊢
  rw [show W zp l ze _ zs zm _ zb zt zc zs.heap locs 0 0 _ (F0 zm 0 ls []) ↔ W zp l ze _ zs zm _ zb zt zc H locs 0 0 _ (F0 zm 0 ls []) from by rw [hH]]
  refine lv_aload_n cx.1 cx.2.1 dX5_bid_0 rfl (lv_at hl 0 rfl) ?_
  refine lv_aload_n cx.1 cx.2.1 dX5_bid_1 rfl (lv_at hl 0 rfl) ?_
  refine lv_iload_n cx.1 cx.2.1 dX5_bid_2 rfl (lv_at hl 1 rfl) ?_
  refine ck_V (v := some (.int (if jm_ (nI m) (gi_ a 21 0 0) then 1 else 0))) (As := [.int (nI m)]) (rest := [.ref (ad_ w 20 0)]) (k := 20) (i := 0) (T := TX5) cx hW hS hl (by decide) rfl rfl (c_X5_isMember l hI a (nI m)) cw_X5_isMember nw_436 nw_542 nw_435 rfl rfl (Nat.le_of_ble_eq_true rfl) rfl rfl ⟨Nat.le_of_ble_eq_true rfl, Nat.le_of_ble_eq_true rfl⟩ ⟨Nat.le_of_ble_eq_true rfl, Nat.le_of_ble_eq_true rfl⟩ dX5_bid_3 (fun H locs hW hS => ?_)
  refine W.eq (g2 := F0 zm 6 ls [.int (if jm_ (nI m) (gi_ a 21 0 0) then 1 else 0), .ref (ad_ w 20 0)]) rfl ?_
  refine lv_if_eq (tgt := 29) cx.1 cx.2.1 dX5_bid_6 (by decide) (fun zz => absurd zz (bz_t (jm_in hk (by omega) hm))) (fun h6 => ?_)
  refine lv_aload_n cx.1 cx.2.1 dX5_bid_9 rfl (lv_at hl 0 rfl) ?_
  refine lv_iload_n cx.1 cx.2.1 dX5_bid_10 rfl (lv_at hl 2 rfl) ?_
  refine ck_V (v := some (.int (if jm_ (nI j) (gi_ a 22 0 0) then 1 else 0))) (As := [.int (nI j)]) (rest := [.ref (ad_ w 20 0)]) (k := 20) (i := 0) (T := TX5) cx hW hS hl (by decide) rfl rfl (c_X5_isInstrument l hI a (nI j)) cw_X5_isInstrument nw_428 nw_541 nw_427 rfl rfl (Nat.le_of_ble_eq_true rfl) rfl rfl ⟨Nat.le_of_ble_eq_true rfl, Nat.le_of_ble_eq_true rfl⟩ ⟨Nat.le_of_ble_eq_true rfl, Nat.le_of_ble_eq_true rfl⟩ dX5_bid_11 (fun H locs hW hS => ?_)
  refine W.eq (g2 := F0 zm 14 ls [.int (if jm_ (nI j) (gi_ a 22 0 0) then 1 else 0), .ref (ad_ w 20 0)]) rfl ?_
  refine lv_if_eq (tgt := 29) cx.1 cx.2.1 dX5_bid_14 (by decide) (fun zz => absurd zz (bz_t (jm_in hn (by omega) hj))) (fun h14 => ?_)
  refine lv_iload_n cx.1 cx.2.1 dX5_bid_17 rfl (lv_at hl 3 rfl) ?_
  refine lv_i2l (v := z.toInt64) cx.1 cx.2.1 dX5_bid_18 rfl ?_
  refine lv_lconst (v := 0) cx.1 cx.2.1 dX5_bid_19 (by decide) ?_
  refine lv_ldc2 (own := "MarginHouseModel") (v := 1000000) cx.1 cx.2.1 cx.2.2.2.1 (cx.2.2.2.2.1 _ nw_412) dX5_bid_20 ?_
  refine ck_S (v := some (.int (if wi_ z.toInt64 0 1000000 then 1 else 0))) (As := [.long z.toInt64, .long 0, .long 1000000]) (rest := [.ref (ad_ w 20 0)]) cx hW hS hl (c_X5_within l hI a z.toInt64 0 1000000) cw_X5_within nw_406 nw_405 rfl rfl (Nat.le_of_ble_eq_true rfl) rfl rfl ⟨Nat.le_of_ble_eq_true rfl, Nat.le_of_ble_eq_true rfl⟩ ⟨Nat.le_of_ble_eq_true rfl, Nat.le_of_ble_eq_true rfl⟩ dX5_bid_23 (fun H locs hW hS => ?_)
  refine W.eq (g2 := F0 zm 26 ls [.int (if wi_ z.toInt64 0 1000000 then 1 else 0), .ref (ad_ w 20 0)]) rfl ?_
  refine lv_if_ne (tgt := 33) cx.1 cx.2.1 dX5_bid_26 (by decide) (fun h26 => ?_) (fun zz => absurd zz (bz_t h))
  refine lv_iconst (v := 0) cx.1 cx.2.1 dX5_bid_33 (by decide) ?_
  refine pf_X5_62 cx hW hS (by decide) dX5_bid_34 (fun H locs hW hS => ?_)
  replace hW : Hd_ w (th_ a 0) H := hW
  refine lv_aload_n cx.1 cx.2.1 dX5_bid_37 rfl (lv_at hl 0 rfl) ?_
  refine gf_X5_62 cx hW (by decide) dX5_bid_38 ?_
  refine tp_i (y := 0) (th_20 a _) ?_
  refine lv_if_ne (tgt := 56) cx.1 cx.2.1 dX5_bid_41 (by decide) (fun zz => absurd rfl zz) (fun h41 => ?_)
  refine lv_aload_n cx.1 cx.2.1 dX5_bid_44 rfl (lv_at hl 0 rfl) ?_
  refine gf_X5_23 cx hW (by decide) dX5_bid_45 ?_
  refine lv_bipush (v := 6) cx.1 cx.2.1 dX5_bid_48 (by decide) ?_
  refine lv_iload_n cx.1 cx.2.1 dX5_bid_50 rfl (lv_at hl 1 rfl) ?_
  refine lv_imul cx.1 cx.2.1 dX5_bid_51 ?_
  refine lv_iload_n cx.1 cx.2.1 dX5_bid_52 rfl (lv_at hl 2 rfl) ?_
  refine lv_iadd cx.1 cx.2.1 dX5_bid_53 ?_
  refine lv_iload_n cx.1 cx.2.1 dX5_bid_54 rfl (lv_at hl 3 rfl) ?_
  refine as_25 (j := 6 * m + j) cx hW hS (by decide) (n6_ m j) (by omega) dX5_bid_55 (fun H locs hW hS => ?_)
  exact cr_v cx hr hlk hW hS (Nat.le_of_ble_eq_true rfl) (Nat.le_of_ble_eq_true rfl) dX5_bid_56 rfl rfl
set_option maxHeartbeats 4000000 in
set_option maxRecDepth 100000 in
theorem c_X5_deposit_ia (l : Launch) {w : Gh_} (hI : In_ w) (a : St_) (x : Int32) (y : Int64) (h : ¬ (jm_ x (gi_ a 21 0 0) ∧ wi_ y 1 1000000000000)) : Fn_ l w yX5_deposit (.code yX5_deposit cX5_deposit 4 (some .long)) { frames := 1, cells := 0, slots := 0, locals := 25 } 0 0 [.ref (ad_ w 20 0), .int x, .long y] a (.inl (some (.long 0))) (th_ a 1) := by
  refine Fn_of hI (by decide +kernel) (Nat.le_of_ble_eq_true rfl) ?_
  intro zp ze zs zm zb zt zc ls cx hr hlk hno hW hS hl
  replace cx : Cx_ zp zs zm zc _ cX5_deposit 4 "MarginHouseModel" w := cx
  replace hl : lv_has ls 4 [(0, .ref (ad_ w 20 0)), (1, .int x), (2, .long y)] := hl
  obtain ⟨H, hH⟩ : ∃ H, zs.heap = H := ⟨_, rfl⟩
  rw [hH] at hW
  have hS : Fr_ w zs.heap H [] := by rw [← hH]; exact hS
  obtain ⟨locs, hlocs⟩ : ∃ x : List Loc, x = [] := ⟨_, rfl⟩
  rw [← hlocs] at hS ⊢
  rw [show W zp l ze _ zs zm _ zb zt zc zs.heap locs 0 0 _ (F0 zm 0 ls []) ↔ W zp l ze _ zs zm _ zb zt zc H locs 0 0 _ (F0 zm 0 ls []) from by rw [hH]]
  refine lv_aload_n cx.1 cx.2.1 dX5_deposit_0 rfl (lv_at hl 0 rfl) ?_
  refine lv_aload_n cx.1 cx.2.1 dX5_deposit_1 rfl (lv_at hl 0 rfl) ?_
  refine lv_iload_n cx.1 cx.2.1 dX5_deposit_2 rfl (lv_at hl 1 rfl) ?_
  refine ck_V (v := some (.int (if jm_ x (gi_ a 21 0 0) then 1 else 0))) (As := [.int x]) (rest := [.ref (ad_ w 20 0)]) (k := 20) (i := 0) (T := TX5) cx hW hS hl (by decide) rfl rfl (c_X5_isMember l hI a x) cw_X5_isMember nw_436 nw_542 nw_435 rfl rfl (Nat.le_of_ble_eq_true rfl) rfl rfl ⟨Nat.le_of_ble_eq_true rfl, Nat.le_of_ble_eq_true rfl⟩ ⟨Nat.le_of_ble_eq_true rfl, Nat.le_of_ble_eq_true rfl⟩ dX5_deposit_3 (fun H locs hW hS => ?_)
  refine W.eq (g2 := F0 zm 6 ls [.int (if jm_ x (gi_ a 21 0 0) then 1 else 0), .ref (ad_ w 20 0)]) rfl ?_
  refine lv_if_eq (tgt := 20) cx.1 cx.2.1 dX5_deposit_6 (by decide) (fun h6 => ?_) (fun h6 => ?_)
  · skip
    have h6 := bz_0 h6
    refine lv_iconst (v := 1) cx.1 cx.2.1 dX5_deposit_20 (by decide) ?_
    refine lv_goto (tgt := 38) cx.1 cx.2.1 dX5_deposit_21 (by decide) ?_
    refine pf_X5_62 cx hW hS (by decide) dX5_deposit_38 (fun H locs hW hS => ?_)
    replace hW : Hd_ w (th_ a 1) H := hW
    refine lv_aload_n cx.1 cx.2.1 dX5_deposit_41 rfl (lv_at hl 0 rfl) ?_
    refine gf_X5_62 cx hW (by decide) dX5_deposit_42 ?_
    refine tp_i (y := 1) (th_20 a _) ?_
    refine lv_if_le (tgt := 50) cx.1 cx.2.1 dX5_deposit_45 (by decide) (fun zz => absurd zz (by decide)) (fun h45 => ?_)
    refine lv_lconst (v := 0) cx.1 cx.2.1 dX5_deposit_48 (by decide) ?_
    exact cr_l cx hr hlk hW hS (Nat.le_of_ble_eq_true rfl) (Nat.le_of_ble_eq_true rfl) dX5_deposit_49 rfl rfl
  · skip
    have h6 := bz_1 h6
    refine lv_lload_n cx.1 cx.2.1 dX5_deposit_9 rfl (lv_at hl 2 rfl) ?_
    refine lv_lconst (v := 1) cx.1 cx.2.1 dX5_deposit_10 (by decide) ?_
    refine lv_ldc2 (own := "MarginHouseModel") (v := 1000000000000) cx.1 cx.2.1 cx.2.2.2.1 (cx.2.2.2.2.1 _ nw_404) dX5_deposit_11 ?_
    refine ck_S (v := some (.int (if wi_ y 1 1000000000000 then 1 else 0))) (As := [.long y, .long 1, .long 1000000000000]) (rest := [.ref (ad_ w 20 0)]) cx hW hS hl (c_X5_within l hI a y 1 1000000000000) cw_X5_within nw_406 nw_405 rfl rfl (Nat.le_of_ble_eq_true rfl) rfl rfl ⟨Nat.le_of_ble_eq_true rfl, Nat.le_of_ble_eq_true rfl⟩ ⟨Nat.le_of_ble_eq_true rfl, Nat.le_of_ble_eq_true rfl⟩ dX5_deposit_14 (fun H locs hW hS => ?_)
    refine W.eq (g2 := F0 zm 17 ls [.int (if wi_ y 1 1000000000000 then 1 else 0), .ref (ad_ w 20 0)]) rfl ?_
    refine lv_if_ne (tgt := 24) cx.1 cx.2.1 dX5_deposit_17 (by decide) (fun h17 => ?_) (fun h17 => ?_)
    · skip
      have h17 := bz_1 h17
      exact absurd ⟨h6, h17⟩ h
    · skip
      have h17 := bz_0 h17
      refine lv_iconst (v := 1) cx.1 cx.2.1 dX5_deposit_20 (by decide) ?_
      refine lv_goto (tgt := 38) cx.1 cx.2.1 dX5_deposit_21 (by decide) ?_
      refine pf_X5_62 cx hW hS (by decide) dX5_deposit_38 (fun H locs hW hS => ?_)
      replace hW : Hd_ w (th_ a 1) H := hW
      refine lv_aload_n cx.1 cx.2.1 dX5_deposit_41 rfl (lv_at hl 0 rfl) ?_
      refine gf_X5_62 cx hW (by decide) dX5_deposit_42 ?_
      refine tp_i (y := 1) (th_20 a _) ?_
      refine lv_if_le (tgt := 50) cx.1 cx.2.1 dX5_deposit_45 (by decide) (fun zz => absurd zz (by decide)) (fun h45 => ?_)
      refine lv_lconst (v := 0) cx.1 cx.2.1 dX5_deposit_48 (by decide) ?_
      exact cr_l cx hr hlk hW hS (Nat.le_of_ble_eq_true rfl) (Nat.le_of_ble_eq_true rfl) dX5_deposit_49 rfl rfl
set_option maxHeartbeats 4000000 in
set_option maxRecDepth 100000 in
theorem c_X5_deposit_is (l : Launch) {w : Gh_} (hI : In_ w) (a : St_) (k : Nat) (hk : gi_ a 21 0 0 = nI k) (hk8 : k ≤ 8) (m : Nat) (hm : m < k) (y : Int64) (h : wi_ y 1 1000000000000) (hs : ¬ gi_ a 23 0 m = 0) : Fn_ l w yX5_deposit (.code yX5_deposit cX5_deposit 4 (some .long)) { frames := 1, cells := 0, slots := 0, locals := 25 } 0 0 [.ref (ad_ w 20 0), .int (nI m), .long y] a (.inl (some (.long 0))) (th_ a 2) := by
  refine Fn_of hI (by decide +kernel) (Nat.le_of_ble_eq_true rfl) ?_
  intro zp ze zs zm zb zt zc ls cx hr hlk hno hW hS hl
  replace cx : Cx_ zp zs zm zc _ cX5_deposit 4 "MarginHouseModel" w := cx
  replace hl : lv_has ls 4 [(0, .ref (ad_ w 20 0)), (1, .int (nI m)), (2, .long y)] := hl
  obtain ⟨H, hH⟩ : ∃ H, zs.heap = H := ⟨_, rfl⟩
  rw [hH] at hW
  have hS : Fr_ w zs.heap H [] := by rw [← hH]; exact hS
  obtain ⟨locs, hlocs⟩ : ∃ x : List Loc, x = [] := ⟨_, rfl⟩
  rw [← hlocs] at hS ⊢
  rw [show W zp l ze _ zs zm _ zb zt zc zs.heap locs 0 0 _ (F0 zm 0 ls []) ↔ W zp l ze _ zs zm _ zb zt zc H locs 0 0 _ (F0 zm 0 ls []) from by rw [hH]]
  refine lv_aload_n cx.1 cx.2.1 dX5_deposit_0 rfl (lv_at hl 0 rfl) ?_
  refine lv_aload_n cx.1 cx.2.1 dX5_deposit_1 rfl (lv_at hl 0 rfl) ?_
  refine lv_iload_n cx.1 cx.2.1 dX5_deposit_2 rfl (lv_at hl 1 rfl) ?_
  refine ck_V (v := some (.int (if jm_ (nI m) (gi_ a 21 0 0) then 1 else 0))) (As := [.int (nI m)]) (rest := [.ref (ad_ w 20 0)]) (k := 20) (i := 0) (T := TX5) cx hW hS hl (by decide) rfl rfl (c_X5_isMember l hI a (nI m)) cw_X5_isMember nw_436 nw_542 nw_435 rfl rfl (Nat.le_of_ble_eq_true rfl) rfl rfl ⟨Nat.le_of_ble_eq_true rfl, Nat.le_of_ble_eq_true rfl⟩ ⟨Nat.le_of_ble_eq_true rfl, Nat.le_of_ble_eq_true rfl⟩ dX5_deposit_3 (fun H locs hW hS => ?_)
  refine W.eq (g2 := F0 zm 6 ls [.int (if jm_ (nI m) (gi_ a 21 0 0) then 1 else 0), .ref (ad_ w 20 0)]) rfl ?_
  refine lv_if_eq (tgt := 20) cx.1 cx.2.1 dX5_deposit_6 (by decide) (fun zz => absurd zz (bz_t (jm_in hk (by omega) hm))) (fun h6 => ?_)
  refine lv_lload_n cx.1 cx.2.1 dX5_deposit_9 rfl (lv_at hl 2 rfl) ?_
  refine lv_lconst (v := 1) cx.1 cx.2.1 dX5_deposit_10 (by decide) ?_
  refine lv_ldc2 (own := "MarginHouseModel") (v := 1000000000000) cx.1 cx.2.1 cx.2.2.2.1 (cx.2.2.2.2.1 _ nw_404) dX5_deposit_11 ?_
  refine ck_S (v := some (.int (if wi_ y 1 1000000000000 then 1 else 0))) (As := [.long y, .long 1, .long 1000000000000]) (rest := [.ref (ad_ w 20 0)]) cx hW hS hl (c_X5_within l hI a y 1 1000000000000) cw_X5_within nw_406 nw_405 rfl rfl (Nat.le_of_ble_eq_true rfl) rfl rfl ⟨Nat.le_of_ble_eq_true rfl, Nat.le_of_ble_eq_true rfl⟩ ⟨Nat.le_of_ble_eq_true rfl, Nat.le_of_ble_eq_true rfl⟩ dX5_deposit_14 (fun H locs hW hS => ?_)
  refine W.eq (g2 := F0 zm 17 ls [.int (if wi_ y 1 1000000000000 then 1 else 0), .ref (ad_ w 20 0)]) rfl ?_
  refine lv_if_ne (tgt := 24) cx.1 cx.2.1 dX5_deposit_17 (by decide) (fun h17 => ?_) (fun zz => absurd zz (bz_t h))
  refine lv_aload_n cx.1 cx.2.1 dX5_deposit_24 rfl (lv_at hl 0 rfl) ?_
  refine gf_X5_16 cx hW (by decide) dX5_deposit_25 ?_
  refine lv_iload_n cx.1 cx.2.1 dX5_deposit_28 rfl (lv_at hl 1 rfl) ?_
  refine al_23 (j := m) cx hW (by decide) rfl (by omega) dX5_deposit_29 ?_
  refine lv_if_eq (tgt := 37) cx.1 cx.2.1 dX5_deposit_30 (by decide) (fun zz => absurd zz hs) (fun h30 => ?_)
  refine lv_iconst (v := 2) cx.1 cx.2.1 dX5_deposit_33 (by decide) ?_
  refine lv_goto (tgt := 38) cx.1 cx.2.1 dX5_deposit_34 (by decide) ?_
  refine pf_X5_62 cx hW hS (by decide) dX5_deposit_38 (fun H locs hW hS => ?_)
  replace hW : Hd_ w (th_ a 2) H := hW
  refine lv_aload_n cx.1 cx.2.1 dX5_deposit_41 rfl (lv_at hl 0 rfl) ?_
  refine gf_X5_62 cx hW (by decide) dX5_deposit_42 ?_
  refine tp_i (y := 2) (th_20 a _) ?_
  refine lv_if_le (tgt := 50) cx.1 cx.2.1 dX5_deposit_45 (by decide) (fun zz => absurd zz (by decide)) (fun h45 => ?_)
  refine lv_lconst (v := 0) cx.1 cx.2.1 dX5_deposit_48 (by decide) ?_
  exact cr_l cx hr hlk hW hS (Nat.le_of_ble_eq_true rfl) (Nat.le_of_ble_eq_true rfl) dX5_deposit_49 rfl rfl
set_option maxHeartbeats 4000000 in
set_option maxRecDepth 100000 in
theorem c_X5_deposit_none (l : Launch) {w : Gh_} (hI : In_ w) (a : St_) (k : Nat) (hk : gi_ a 21 0 0 = nI k) (hk8 : k ≤ 8) (m : Nat) (hm : m < k) (y : Int64) (h : wi_ y 1 1000000000000) (hs : gi_ a 23 0 m = 0) (h2 : ¬ tm_ (gl_ a 20 0 m + y)) : Fn_ l w yX5_deposit (.code yX5_deposit cX5_deposit 4 (some .long)) { frames := 1, cells := 0, slots := 0, locals := 25 } 0 0 [.ref (ad_ w 20 0), .int (nI m), .long y] a (.inl (some (.long (-1)))) (th_ a 0) := by
  refine Fn_of hI (by decide +kernel) (Nat.le_of_ble_eq_true rfl) ?_
  intro zp ze zs zm zb zt zc ls cx hr hlk hno hW hS hl
  replace cx : Cx_ zp zs zm zc _ cX5_deposit 4 "MarginHouseModel" w := cx
  replace hl : lv_has ls 4 [(0, .ref (ad_ w 20 0)), (1, .int (nI m)), (2, .long y)] := hl
  obtain ⟨H, hH⟩ : ∃ H, zs.heap = H := ⟨_, rfl⟩
  rw [hH] at hW
  have hS : Fr_ w zs.heap H [] := by rw [← hH]; exact hS
  obtain ⟨locs, hlocs⟩ : ∃ x : List Loc, x = [] := ⟨_, rfl⟩
  rw [← hlocs] at hS ⊢
  rw [show W zp l ze _ zs zm _ zb zt zc zs.heap locs 0 0 _ (F0 zm 0 ls []) ↔ W zp l ze _ zs zm _ zb zt zc H locs 0 0 _ (F0 zm 0 ls []) from by rw [hH]]
  refine lv_aload_n cx.1 cx.2.1 dX5_deposit_0 rfl (lv_at hl 0 rfl) ?_
  refine lv_aload_n cx.1 cx.2.1 dX5_deposit_1 rfl (lv_at hl 0 rfl) ?_
  refine lv_iload_n cx.1 cx.2.1 dX5_deposit_2 rfl (lv_at hl 1 rfl) ?_
  refine ck_V (v := some (.int (if jm_ (nI m) (gi_ a 21 0 0) then 1 else 0))) (As := [.int (nI m)]) (rest := [.ref (ad_ w 20 0)]) (k := 20) (i := 0) (T := TX5) cx hW hS hl (by decide) rfl rfl (c_X5_isMember l hI a (nI m)) cw_X5_isMember nw_436 nw_542 nw_435 rfl rfl (Nat.le_of_ble_eq_true rfl) rfl rfl ⟨Nat.le_of_ble_eq_true rfl, Nat.le_of_ble_eq_true rfl⟩ ⟨Nat.le_of_ble_eq_true rfl, Nat.le_of_ble_eq_true rfl⟩ dX5_deposit_3 (fun H locs hW hS => ?_)
  refine W.eq (g2 := F0 zm 6 ls [.int (if jm_ (nI m) (gi_ a 21 0 0) then 1 else 0), .ref (ad_ w 20 0)]) rfl ?_
  refine lv_if_eq (tgt := 20) cx.1 cx.2.1 dX5_deposit_6 (by decide) (fun zz => absurd zz (bz_t (jm_in hk (by omega) hm))) (fun h6 => ?_)
  refine lv_lload_n cx.1 cx.2.1 dX5_deposit_9 rfl (lv_at hl 2 rfl) ?_
  refine lv_lconst (v := 1) cx.1 cx.2.1 dX5_deposit_10 (by decide) ?_
  refine lv_ldc2 (own := "MarginHouseModel") (v := 1000000000000) cx.1 cx.2.1 cx.2.2.2.1 (cx.2.2.2.2.1 _ nw_404) dX5_deposit_11 ?_
  refine ck_S (v := some (.int (if wi_ y 1 1000000000000 then 1 else 0))) (As := [.long y, .long 1, .long 1000000000000]) (rest := [.ref (ad_ w 20 0)]) cx hW hS hl (c_X5_within l hI a y 1 1000000000000) cw_X5_within nw_406 nw_405 rfl rfl (Nat.le_of_ble_eq_true rfl) rfl rfl ⟨Nat.le_of_ble_eq_true rfl, Nat.le_of_ble_eq_true rfl⟩ ⟨Nat.le_of_ble_eq_true rfl, Nat.le_of_ble_eq_true rfl⟩ dX5_deposit_14 (fun H locs hW hS => ?_)
  refine W.eq (g2 := F0 zm 17 ls [.int (if wi_ y 1 1000000000000 then 1 else 0), .ref (ad_ w 20 0)]) rfl ?_
  refine lv_if_ne (tgt := 24) cx.1 cx.2.1 dX5_deposit_17 (by decide) (fun h17 => ?_) (fun zz => absurd zz (bz_t h))
  refine lv_aload_n cx.1 cx.2.1 dX5_deposit_24 rfl (lv_at hl 0 rfl) ?_
  refine gf_X5_16 cx hW (by decide) dX5_deposit_25 ?_
  refine lv_iload_n cx.1 cx.2.1 dX5_deposit_28 rfl (lv_at hl 1 rfl) ?_
  refine al_23 (j := m) cx hW (by decide) rfl (by omega) dX5_deposit_29 ?_
  refine lv_if_eq (tgt := 37) cx.1 cx.2.1 dX5_deposit_30 (by decide) (fun h30 => ?_) (fun zz => absurd hs zz)
  refine lv_iconst (v := 0) cx.1 cx.2.1 dX5_deposit_37 (by decide) ?_
  refine pf_X5_62 cx hW hS (by decide) dX5_deposit_38 (fun H locs hW hS => ?_)
  replace hW : Hd_ w (th_ a 0) H := hW
  refine lv_aload_n cx.1 cx.2.1 dX5_deposit_41 rfl (lv_at hl 0 rfl) ?_
  refine gf_X5_62 cx hW (by decide) dX5_deposit_42 ?_
  refine tp_i (y := 0) (th_20 a _) ?_
  refine lv_if_le (tgt := 50) cx.1 cx.2.1 dX5_deposit_45 (by decide) (fun h45 => ?_) (fun zz => absurd (by decide) zz)
  refine lv_aload_n cx.1 cx.2.1 dX5_deposit_50 rfl (lv_at hl 0 rfl) ?_
  refine gf_X5_7 cx hW (by decide) dX5_deposit_51 ?_
  refine lv_iload_n cx.1 cx.2.1 dX5_deposit_54 rfl (lv_at hl 1 rfl) ?_
  refine al_21 (j := m) cx hW (by decide) rfl (by omega) dX5_deposit_55 ?_
  refine lv_lload_n cx.1 cx.2.1 dX5_deposit_56 rfl (lv_at hl 2 rfl) ?_
  refine lv_ladd cx.1 cx.2.1 dX5_deposit_57 ?_
  refine ck_S (v := some (.int (if ¬ tm_ ((gl_ (th_ a 0) 20 0 m) + y) then 1 else 0))) (As := [.long ((gl_ (th_ a 0) 20 0 m) + y)]) (rest := []) cx hW hS hl (c_X5_isFar l hI (th_ a 0) ((gl_ (th_ a 0) 20 0 m) + y)) cw_X5_isFar nw_418 nw_417 rfl rfl (Nat.le_of_ble_eq_true rfl) rfl rfl ⟨Nat.le_of_ble_eq_true rfl, Nat.le_of_ble_eq_true rfl⟩ ⟨Nat.le_of_ble_eq_true rfl, Nat.le_of_ble_eq_true rfl⟩ dX5_deposit_58 (fun H locs hW hS => ?_)
  refine W.eq (g2 := F0 zm 61 ls [.int (if ¬ tm_ ((gl_ (th_ a 0) 20 0 m) + y) then 1 else 0)]) rfl ?_
  refine lv_if_eq (tgt := 68) cx.1 cx.2.1 dX5_deposit_61 (by decide) (fun zz => absurd zz (bz_t h2)) (fun h61 => ?_)
  refine lv_ldc2 (own := "MarginHouseModel") (v := -1) cx.1 cx.2.1 cx.2.2.2.1 (cx.2.2.2.2.1 _ nw_422) dX5_deposit_64 ?_
  exact cr_l cx hr hlk hW hS (Nat.le_of_ble_eq_true rfl) (Nat.le_of_ble_eq_true rfl) dX5_deposit_67 rfl rfl
set_option maxHeartbeats 4000000 in
set_option maxRecDepth 100000 in
theorem c_X5_deposit_ok (l : Launch) {w : Gh_} (hI : In_ w) (a : St_) (k : Nat) (hk : gi_ a 21 0 0 = nI k) (hk8 : k ≤ 8) (m : Nat) (hm : m < k) (y : Int64) (h : wi_ y 1 1000000000000) (hs : gi_ a 23 0 m = 0) (h2 : tm_ (gl_ a 20 0 m + y)) : Fn_ l w yX5_deposit (.code yX5_deposit cX5_deposit 4 (some .long)) { frames := 1, cells := 0, slots := 0, locals := 25 } 0 0 [.ref (ad_ w 20 0), .int (nI m), .long y] a (.inl (some (.long (gl_ a 20 0 m + y)))) (sl_ (th_ a 0) 20 0 m (gl_ a 20 0 m + y)) := by
  refine Fn_of hI (by decide +kernel) (Nat.le_of_ble_eq_true rfl) ?_
  intro zp ze zs zm zb zt zc ls cx hr hlk hno hW hS hl
  replace cx : Cx_ zp zs zm zc _ cX5_deposit 4 "MarginHouseModel" w := cx
  replace hl : lv_has ls 4 [(0, .ref (ad_ w 20 0)), (1, .int (nI m)), (2, .long y)] := hl
  obtain ⟨H, hH⟩ : ∃ H, zs.heap = H := ⟨_, rfl⟩
  rw [hH] at hW
  have hS : Fr_ w zs.heap H [] := by rw [← hH]; exact hS
  obtain ⟨locs, hlocs⟩ : ∃ x : List Loc, x = [] := ⟨_, rfl⟩
  rw [← hlocs] at hS ⊢
  rw [show W zp l ze _ zs zm _ zb zt zc zs.heap locs 0 0 _ (F0 zm 0 ls []) ↔ W zp l ze _ zs zm _ zb zt zc H locs 0 0 _ (F0 zm 0 ls []) from by rw [hH]]
  refine lv_aload_n cx.1 cx.2.1 dX5_deposit_0 rfl (lv_at hl 0 rfl) ?_
  refine lv_aload_n cx.1 cx.2.1 dX5_deposit_1 rfl (lv_at hl 0 rfl) ?_
  refine lv_iload_n cx.1 cx.2.1 dX5_deposit_2 rfl (lv_at hl 1 rfl) ?_
  refine ck_V (v := some (.int (if jm_ (nI m) (gi_ a 21 0 0) then 1 else 0))) (As := [.int (nI m)]) (rest := [.ref (ad_ w 20 0)]) (k := 20) (i := 0) (T := TX5) cx hW hS hl (by decide) rfl rfl (c_X5_isMember l hI a (nI m)) cw_X5_isMember nw_436 nw_542 nw_435 rfl rfl (Nat.le_of_ble_eq_true rfl) rfl rfl ⟨Nat.le_of_ble_eq_true rfl, Nat.le_of_ble_eq_true rfl⟩ ⟨Nat.le_of_ble_eq_true rfl, Nat.le_of_ble_eq_true rfl⟩ dX5_deposit_3 (fun H locs hW hS => ?_)
  refine W.eq (g2 := F0 zm 6 ls [.int (if jm_ (nI m) (gi_ a 21 0 0) then 1 else 0), .ref (ad_ w 20 0)]) rfl ?_
  refine lv_if_eq (tgt := 20) cx.1 cx.2.1 dX5_deposit_6 (by decide) (fun zz => absurd zz (bz_t (jm_in hk (by omega) hm))) (fun h6 => ?_)
  refine lv_lload_n cx.1 cx.2.1 dX5_deposit_9 rfl (lv_at hl 2 rfl) ?_
  refine lv_lconst (v := 1) cx.1 cx.2.1 dX5_deposit_10 (by decide) ?_
  refine lv_ldc2 (own := "MarginHouseModel") (v := 1000000000000) cx.1 cx.2.1 cx.2.2.2.1 (cx.2.2.2.2.1 _ nw_404) dX5_deposit_11 ?_
  refine ck_S (v := some (.int (if wi_ y 1 1000000000000 then 1 else 0))) (As := [.long y, .long 1, .long 1000000000000]) (rest := [.ref (ad_ w 20 0)]) cx hW hS hl (c_X5_within l hI a y 1 1000000000000) cw_X5_within nw_406 nw_405 rfl rfl (Nat.le_of_ble_eq_true rfl) rfl rfl ⟨Nat.le_of_ble_eq_true rfl, Nat.le_of_ble_eq_true rfl⟩ ⟨Nat.le_of_ble_eq_true rfl, Nat.le_of_ble_eq_true rfl⟩ dX5_deposit_14 (fun H locs hW hS => ?_)
  refine W.eq (g2 := F0 zm 17 ls [.int (if wi_ y 1 1000000000000 then 1 else 0), .ref (ad_ w 20 0)]) rfl ?_
  refine lv_if_ne (tgt := 24) cx.1 cx.2.1 dX5_deposit_17 (by decide) (fun h17 => ?_) (fun zz => absurd zz (bz_t h))
  refine lv_aload_n cx.1 cx.2.1 dX5_deposit_24 rfl (lv_at hl 0 rfl) ?_
  refine gf_X5_16 cx hW (by decide) dX5_deposit_25 ?_
  refine lv_iload_n cx.1 cx.2.1 dX5_deposit_28 rfl (lv_at hl 1 rfl) ?_
  refine al_23 (j := m) cx hW (by decide) rfl (by omega) dX5_deposit_29 ?_
  refine lv_if_eq (tgt := 37) cx.1 cx.2.1 dX5_deposit_30 (by decide) (fun h30 => ?_) (fun zz => absurd hs zz)
  refine lv_iconst (v := 0) cx.1 cx.2.1 dX5_deposit_37 (by decide) ?_
  refine pf_X5_62 cx hW hS (by decide) dX5_deposit_38 (fun H locs hW hS => ?_)
  replace hW : Hd_ w (th_ a 0) H := hW
  refine lv_aload_n cx.1 cx.2.1 dX5_deposit_41 rfl (lv_at hl 0 rfl) ?_
  refine gf_X5_62 cx hW (by decide) dX5_deposit_42 ?_
  refine tp_i (y := 0) (th_20 a _) ?_
  refine lv_if_le (tgt := 50) cx.1 cx.2.1 dX5_deposit_45 (by decide) (fun h45 => ?_) (fun zz => absurd (by decide) zz)
  refine lv_aload_n cx.1 cx.2.1 dX5_deposit_50 rfl (lv_at hl 0 rfl) ?_
  refine gf_X5_7 cx hW (by decide) dX5_deposit_51 ?_
  refine lv_iload_n cx.1 cx.2.1 dX5_deposit_54 rfl (lv_at hl 1 rfl) ?_
  refine al_21 (j := m) cx hW (by decide) rfl (by omega) dX5_deposit_55 ?_
  refine lv_lload_n cx.1 cx.2.1 dX5_deposit_56 rfl (lv_at hl 2 rfl) ?_
  refine lv_ladd cx.1 cx.2.1 dX5_deposit_57 ?_
  refine ck_S (v := some (.int (if ¬ tm_ ((gl_ (th_ a 0) 20 0 m) + y) then 1 else 0))) (As := [.long ((gl_ (th_ a 0) 20 0 m) + y)]) (rest := []) cx hW hS hl (c_X5_isFar l hI (th_ a 0) ((gl_ (th_ a 0) 20 0 m) + y)) cw_X5_isFar nw_418 nw_417 rfl rfl (Nat.le_of_ble_eq_true rfl) rfl rfl ⟨Nat.le_of_ble_eq_true rfl, Nat.le_of_ble_eq_true rfl⟩ ⟨Nat.le_of_ble_eq_true rfl, Nat.le_of_ble_eq_true rfl⟩ dX5_deposit_58 (fun H locs hW hS => ?_)
  refine W.eq (g2 := F0 zm 61 ls [.int (if ¬ tm_ ((gl_ (th_ a 0) 20 0 m) + y) then 1 else 0)]) rfl ?_
  refine lv_if_eq (tgt := 68) cx.1 cx.2.1 dX5_deposit_61 (by decide) (fun h61 => ?_) (fun zz => absurd (bz_f (fun z => z h2)) zz)
  refine lv_aload_n cx.1 cx.2.1 dX5_deposit_68 rfl (lv_at hl 0 rfl) ?_
  refine gf_X5_7 cx hW (by decide) dX5_deposit_69 ?_
  refine lv_iload_n cx.1 cx.2.1 dX5_deposit_72 rfl (lv_at hl 1 rfl) ?_
  refine lv_aload_n cx.1 cx.2.1 dX5_deposit_73 rfl (lv_at hl 0 rfl) ?_
  refine gf_X5_7 cx hW (by decide) dX5_deposit_74 ?_
  refine lv_iload_n cx.1 cx.2.1 dX5_deposit_77 rfl (lv_at hl 1 rfl) ?_
  refine al_21 (j := m) cx hW (by decide) rfl (by omega) dX5_deposit_78 ?_
  refine lv_lload_n cx.1 cx.2.1 dX5_deposit_79 rfl (lv_at hl 2 rfl) ?_
  refine lv_ladd cx.1 cx.2.1 dX5_deposit_80 ?_
  refine as_21 (j := m) cx hW hS (by decide) rfl (by omega) dX5_deposit_81 (fun H locs hW hS => ?_)
  refine lv_aload_n cx.1 cx.2.1 dX5_deposit_82 rfl (lv_at hl 0 rfl) ?_
  refine gf_X5_7 cx hW (by decide) dX5_deposit_83 ?_
  refine lv_iload_n cx.1 cx.2.1 dX5_deposit_86 rfl (lv_at hl 1 rfl) ?_
  refine al_21 (j := m) cx hW (by decide) rfl (by omega) dX5_deposit_87 ?_
  refine tp_j (y := gl_ a 20 0 m + y) (by rw [gl_sl]; exact if_pos ⟨rfl, rfl, rfl⟩) ?_
  exact cr_l cx hr hlk hW hS (Nat.le_of_ble_eq_true rfl) (Nat.le_of_ble_eq_true rfl) dX5_deposit_88 rfl rfl
set_option maxHeartbeats 4000000 in
set_option maxRecDepth 100000 in
theorem c_X5_withdraw_ia (l : Launch) {w : Gh_} (hI : In_ w) (a : St_) (x : Int32) (y : Int64) (h : ¬ (jm_ x (gi_ a 21 0 0) ∧ wi_ y 1 1000000000000)) : Fn_ l w yX5_withdraw (.code yX5_withdraw cX5_withdraw 4 (some .long)) { frames := 1, cells := 0, slots := 0, locals := 27 } 0 0 [.ref (ad_ w 20 0), .int x, .long y] a (.inl (some (.long 0))) (th_ a 1) := by
  refine Fn_of hI (by decide +kernel) (Nat.le_of_ble_eq_true rfl) ?_
  intro zp ze zs zm zb zt zc ls cx hr hlk hno hW hS hl
  replace cx : Cx_ zp zs zm zc _ cX5_withdraw 4 "MarginHouseModel" w := cx
  replace hl : lv_has ls 4 [(0, .ref (ad_ w 20 0)), (1, .int x), (2, .long y)] := hl
  obtain ⟨H, hH⟩ : ∃ H, zs.heap = H := ⟨_, rfl⟩
  rw [hH] at hW
  have hS : Fr_ w zs.heap H [] := by rw [← hH]; exact hS
  obtain ⟨locs, hlocs⟩ : ∃ x : List Loc, x = [] := ⟨_, rfl⟩
  rw [← hlocs] at hS ⊢
  rw [show W zp l ze _ zs zm _ zb zt zc zs.heap locs 0 0 _ (F0 zm 0 ls []) ↔ W zp l ze _ zs zm _ zb zt zc H locs 0 0 _ (F0 zm 0 ls []) from by rw [hH]]
  refine lv_aload_n cx.1 cx.2.1 dX5_withdraw_0 rfl (lv_at hl 0 rfl) ?_
  refine lv_aload_n cx.1 cx.2.1 dX5_withdraw_1 rfl (lv_at hl 0 rfl) ?_
  refine lv_iload_n cx.1 cx.2.1 dX5_withdraw_2 rfl (lv_at hl 1 rfl) ?_
  refine ck_V (v := some (.int (if jm_ x (gi_ a 21 0 0) then 1 else 0))) (As := [.int x]) (rest := [.ref (ad_ w 20 0)]) (k := 20) (i := 0) (T := TX5) cx hW hS hl (by decide) rfl rfl (c_X5_isMember l hI a x) cw_X5_isMember nw_436 nw_542 nw_435 rfl rfl (Nat.le_of_ble_eq_true rfl) rfl rfl ⟨Nat.le_of_ble_eq_true rfl, Nat.le_of_ble_eq_true rfl⟩ ⟨Nat.le_of_ble_eq_true rfl, Nat.le_of_ble_eq_true rfl⟩ dX5_withdraw_3 (fun H locs hW hS => ?_)
  refine W.eq (g2 := F0 zm 6 ls [.int (if jm_ x (gi_ a 21 0 0) then 1 else 0), .ref (ad_ w 20 0)]) rfl ?_
  refine lv_if_eq (tgt := 20) cx.1 cx.2.1 dX5_withdraw_6 (by decide) (fun h6 => ?_) (fun h6 => ?_)
  · skip
    have h6 := bz_0 h6
    refine lv_iconst (v := 1) cx.1 cx.2.1 dX5_withdraw_20 (by decide) ?_
    refine lv_goto (tgt := 38) cx.1 cx.2.1 dX5_withdraw_21 (by decide) ?_
    refine pf_X5_62 cx hW hS (by decide) dX5_withdraw_38 (fun H locs hW hS => ?_)
    replace hW : Hd_ w (th_ a 1) H := hW
    refine lv_aload_n cx.1 cx.2.1 dX5_withdraw_41 rfl (lv_at hl 0 rfl) ?_
    refine gf_X5_62 cx hW (by decide) dX5_withdraw_42 ?_
    refine tp_i (y := 1) (th_20 a _) ?_
    refine lv_if_le (tgt := 50) cx.1 cx.2.1 dX5_withdraw_45 (by decide) (fun zz => absurd zz (by decide)) (fun h45 => ?_)
    refine lv_lconst (v := 0) cx.1 cx.2.1 dX5_withdraw_48 (by decide) ?_
    exact cr_l cx hr hlk hW hS (Nat.le_of_ble_eq_true rfl) (Nat.le_of_ble_eq_true rfl) dX5_withdraw_49 rfl rfl
  · skip
    have h6 := bz_1 h6
    refine lv_lload_n cx.1 cx.2.1 dX5_withdraw_9 rfl (lv_at hl 2 rfl) ?_
    refine lv_lconst (v := 1) cx.1 cx.2.1 dX5_withdraw_10 (by decide) ?_
    refine lv_ldc2 (own := "MarginHouseModel") (v := 1000000000000) cx.1 cx.2.1 cx.2.2.2.1 (cx.2.2.2.2.1 _ nw_404) dX5_withdraw_11 ?_
    refine ck_S (v := some (.int (if wi_ y 1 1000000000000 then 1 else 0))) (As := [.long y, .long 1, .long 1000000000000]) (rest := [.ref (ad_ w 20 0)]) cx hW hS hl (c_X5_within l hI a y 1 1000000000000) cw_X5_within nw_406 nw_405 rfl rfl (Nat.le_of_ble_eq_true rfl) rfl rfl ⟨Nat.le_of_ble_eq_true rfl, Nat.le_of_ble_eq_true rfl⟩ ⟨Nat.le_of_ble_eq_true rfl, Nat.le_of_ble_eq_true rfl⟩ dX5_withdraw_14 (fun H locs hW hS => ?_)
    refine W.eq (g2 := F0 zm 17 ls [.int (if wi_ y 1 1000000000000 then 1 else 0), .ref (ad_ w 20 0)]) rfl ?_
    refine lv_if_ne (tgt := 24) cx.1 cx.2.1 dX5_withdraw_17 (by decide) (fun h17 => ?_) (fun h17 => ?_)
    · skip
      have h17 := bz_1 h17
      exact absurd ⟨h6, h17⟩ h
    · skip
      have h17 := bz_0 h17
      refine lv_iconst (v := 1) cx.1 cx.2.1 dX5_withdraw_20 (by decide) ?_
      refine lv_goto (tgt := 38) cx.1 cx.2.1 dX5_withdraw_21 (by decide) ?_
      refine pf_X5_62 cx hW hS (by decide) dX5_withdraw_38 (fun H locs hW hS => ?_)
      replace hW : Hd_ w (th_ a 1) H := hW
      refine lv_aload_n cx.1 cx.2.1 dX5_withdraw_41 rfl (lv_at hl 0 rfl) ?_
      refine gf_X5_62 cx hW (by decide) dX5_withdraw_42 ?_
      refine tp_i (y := 1) (th_20 a _) ?_
      refine lv_if_le (tgt := 50) cx.1 cx.2.1 dX5_withdraw_45 (by decide) (fun zz => absurd zz (by decide)) (fun h45 => ?_)
      refine lv_lconst (v := 0) cx.1 cx.2.1 dX5_withdraw_48 (by decide) ?_
      exact cr_l cx hr hlk hW hS (Nat.le_of_ble_eq_true rfl) (Nat.le_of_ble_eq_true rfl) dX5_withdraw_49 rfl rfl
set_option maxHeartbeats 4000000 in
set_option maxRecDepth 100000 in
theorem c_X5_withdraw_is (l : Launch) {w : Gh_} (hI : In_ w) (a : St_) (k : Nat) (hk : gi_ a 21 0 0 = nI k) (hk8 : k ≤ 8) (m : Nat) (hm : m < k) (y : Int64) (h : wi_ y 1 1000000000000) (hs : ¬ gi_ a 23 0 m = 0) : Fn_ l w yX5_withdraw (.code yX5_withdraw cX5_withdraw 4 (some .long)) { frames := 1, cells := 0, slots := 0, locals := 27 } 0 0 [.ref (ad_ w 20 0), .int (nI m), .long y] a (.inl (some (.long 0))) (th_ a 2) := by
  refine Fn_of hI (by decide +kernel) (Nat.le_of_ble_eq_true rfl) ?_
  intro zp ze zs zm zb zt zc ls cx hr hlk hno hW hS hl
  replace cx : Cx_ zp zs zm zc _ cX5_withdraw 4 "MarginHouseModel" w := cx
  replace hl : lv_has ls 4 [(0, .ref (ad_ w 20 0)), (1, .int (nI m)), (2, .long y)] := hl
  obtain ⟨H, hH⟩ : ∃ H, zs.heap = H := ⟨_, rfl⟩
  rw [hH] at hW
  have hS : Fr_ w zs.heap H [] := by rw [← hH]; exact hS
  obtain ⟨locs, hlocs⟩ : ∃ x : List Loc, x = [] := ⟨_, rfl⟩
  rw [← hlocs] at hS ⊢
  rw [show W zp l ze _ zs zm _ zb zt zc zs.heap locs 0 0 _ (F0 zm 0 ls []) ↔ W zp l ze _ zs zm _ zb zt zc H locs 0 0 _ (F0 zm 0 ls []) from by rw [hH]]
  refine lv_aload_n cx.1 cx.2.1 dX5_withdraw_0 rfl (lv_at hl 0 rfl) ?_
  refine lv_aload_n cx.1 cx.2.1 dX5_withdraw_1 rfl (lv_at hl 0 rfl) ?_
  refine lv_iload_n cx.1 cx.2.1 dX5_withdraw_2 rfl (lv_at hl 1 rfl) ?_
  refine ck_V (v := some (.int (if jm_ (nI m) (gi_ a 21 0 0) then 1 else 0))) (As := [.int (nI m)]) (rest := [.ref (ad_ w 20 0)]) (k := 20) (i := 0) (T := TX5) cx hW hS hl (by decide) rfl rfl (c_X5_isMember l hI a (nI m)) cw_X5_isMember nw_436 nw_542 nw_435 rfl rfl (Nat.le_of_ble_eq_true rfl) rfl rfl ⟨Nat.le_of_ble_eq_true rfl, Nat.le_of_ble_eq_true rfl⟩ ⟨Nat.le_of_ble_eq_true rfl, Nat.le_of_ble_eq_true rfl⟩ dX5_withdraw_3 (fun H locs hW hS => ?_)
  refine W.eq (g2 := F0 zm 6 ls [.int (if jm_ (nI m) (gi_ a 21 0 0) then 1 else 0), .ref (ad_ w 20 0)]) rfl ?_
  refine lv_if_eq (tgt := 20) cx.1 cx.2.1 dX5_withdraw_6 (by decide) (fun zz => absurd zz (bz_t (jm_in hk (by omega) hm))) (fun h6 => ?_)
  refine lv_lload_n cx.1 cx.2.1 dX5_withdraw_9 rfl (lv_at hl 2 rfl) ?_
  refine lv_lconst (v := 1) cx.1 cx.2.1 dX5_withdraw_10 (by decide) ?_
  refine lv_ldc2 (own := "MarginHouseModel") (v := 1000000000000) cx.1 cx.2.1 cx.2.2.2.1 (cx.2.2.2.2.1 _ nw_404) dX5_withdraw_11 ?_
  refine ck_S (v := some (.int (if wi_ y 1 1000000000000 then 1 else 0))) (As := [.long y, .long 1, .long 1000000000000]) (rest := [.ref (ad_ w 20 0)]) cx hW hS hl (c_X5_within l hI a y 1 1000000000000) cw_X5_within nw_406 nw_405 rfl rfl (Nat.le_of_ble_eq_true rfl) rfl rfl ⟨Nat.le_of_ble_eq_true rfl, Nat.le_of_ble_eq_true rfl⟩ ⟨Nat.le_of_ble_eq_true rfl, Nat.le_of_ble_eq_true rfl⟩ dX5_withdraw_14 (fun H locs hW hS => ?_)
  refine W.eq (g2 := F0 zm 17 ls [.int (if wi_ y 1 1000000000000 then 1 else 0), .ref (ad_ w 20 0)]) rfl ?_
  refine lv_if_ne (tgt := 24) cx.1 cx.2.1 dX5_withdraw_17 (by decide) (fun h17 => ?_) (fun zz => absurd zz (bz_t h))
  refine lv_aload_n cx.1 cx.2.1 dX5_withdraw_24 rfl (lv_at hl 0 rfl) ?_
  refine gf_X5_16 cx hW (by decide) dX5_withdraw_25 ?_
  refine lv_iload_n cx.1 cx.2.1 dX5_withdraw_28 rfl (lv_at hl 1 rfl) ?_
  refine al_23 (j := m) cx hW (by decide) rfl (by omega) dX5_withdraw_29 ?_
  refine lv_if_eq (tgt := 37) cx.1 cx.2.1 dX5_withdraw_30 (by decide) (fun zz => absurd zz hs) (fun h30 => ?_)
  refine lv_iconst (v := 2) cx.1 cx.2.1 dX5_withdraw_33 (by decide) ?_
  refine lv_goto (tgt := 38) cx.1 cx.2.1 dX5_withdraw_34 (by decide) ?_
  refine pf_X5_62 cx hW hS (by decide) dX5_withdraw_38 (fun H locs hW hS => ?_)
  replace hW : Hd_ w (th_ a 2) H := hW
  refine lv_aload_n cx.1 cx.2.1 dX5_withdraw_41 rfl (lv_at hl 0 rfl) ?_
  refine gf_X5_62 cx hW (by decide) dX5_withdraw_42 ?_
  refine tp_i (y := 2) (th_20 a _) ?_
  refine lv_if_le (tgt := 50) cx.1 cx.2.1 dX5_withdraw_45 (by decide) (fun zz => absurd zz (by decide)) (fun h45 => ?_)
  refine lv_lconst (v := 0) cx.1 cx.2.1 dX5_withdraw_48 (by decide) ?_
  exact cr_l cx hr hlk hW hS (Nat.le_of_ble_eq_true rfl) (Nat.le_of_ble_eq_true rfl) dX5_withdraw_49 rfl rfl
set_option maxHeartbeats 4000000 in
set_option maxRecDepth 100000 in
theorem c_X5_withdraw_no1 (l : Launch) {w : Gh_} (hI : In_ w) (a : St_) (k : Nat) (hk : gi_ a 21 0 0 = nI k) (hk8 : k ≤ 8) (n : Nat) (hn : gi_ a 22 0 0 = nI n) (hn6 : n ≤ 6) (m : Nat) (hm : m < k) (y : Int64) (h : wi_ y 1 1000000000000) (hs : gi_ a 23 0 m = 0) (h2 : gl_ a 20 0 m - y < qg_ (th_ a 0) m n) : Fn_ l w yX5_withdraw (.code yX5_withdraw cX5_withdraw 4 (some .long)) { frames := 1, cells := 0, slots := 0, locals := 27 } 0 0 [.ref (ad_ w 20 0), .int (nI m), .long y] a (.inl (some (.long (-1)))) (th_ a 0) := by
  refine Fn_of hI (by decide +kernel) (Nat.le_of_ble_eq_true rfl) ?_
  intro zp ze zs zm zb zt zc ls cx hr hlk hno hW hS hl
  replace cx : Cx_ zp zs zm zc _ cX5_withdraw 4 "MarginHouseModel" w := cx
  replace hl : lv_has ls 4 [(0, .ref (ad_ w 20 0)), (1, .int (nI m)), (2, .long y)] := hl
  obtain ⟨H, hH⟩ : ∃ H, zs.heap = H := ⟨_, rfl⟩
  rw [hH] at hW
  have hS : Fr_ w zs.heap H [] := by rw [← hH]; exact hS
  obtain ⟨locs, hlocs⟩ : ∃ x : List Loc, x = [] := ⟨_, rfl⟩
  rw [← hlocs] at hS ⊢
  rw [show W zp l ze _ zs zm _ zb zt zc zs.heap locs 0 0 _ (F0 zm 0 ls []) ↔ W zp l ze _ zs zm _ zb zt zc H locs 0 0 _ (F0 zm 0 ls []) from by rw [hH]]
  refine lv_aload_n cx.1 cx.2.1 dX5_withdraw_0 rfl (lv_at hl 0 rfl) ?_
  refine lv_aload_n cx.1 cx.2.1 dX5_withdraw_1 rfl (lv_at hl 0 rfl) ?_
  refine lv_iload_n cx.1 cx.2.1 dX5_withdraw_2 rfl (lv_at hl 1 rfl) ?_
  refine ck_V (v := some (.int (if jm_ (nI m) (gi_ a 21 0 0) then 1 else 0))) (As := [.int (nI m)]) (rest := [.ref (ad_ w 20 0)]) (k := 20) (i := 0) (T := TX5) cx hW hS hl (by decide) rfl rfl (c_X5_isMember l hI a (nI m)) cw_X5_isMember nw_436 nw_542 nw_435 rfl rfl (Nat.le_of_ble_eq_true rfl) rfl rfl ⟨Nat.le_of_ble_eq_true rfl, Nat.le_of_ble_eq_true rfl⟩ ⟨Nat.le_of_ble_eq_true rfl, Nat.le_of_ble_eq_true rfl⟩ dX5_withdraw_3 (fun H locs hW hS => ?_)
  refine W.eq (g2 := F0 zm 6 ls [.int (if jm_ (nI m) (gi_ a 21 0 0) then 1 else 0), .ref (ad_ w 20 0)]) rfl ?_
  refine lv_if_eq (tgt := 20) cx.1 cx.2.1 dX5_withdraw_6 (by decide) (fun zz => absurd zz (bz_t (jm_in hk (by omega) hm))) (fun h6 => ?_)
  refine lv_lload_n cx.1 cx.2.1 dX5_withdraw_9 rfl (lv_at hl 2 rfl) ?_
  refine lv_lconst (v := 1) cx.1 cx.2.1 dX5_withdraw_10 (by decide) ?_
  refine lv_ldc2 (own := "MarginHouseModel") (v := 1000000000000) cx.1 cx.2.1 cx.2.2.2.1 (cx.2.2.2.2.1 _ nw_404) dX5_withdraw_11 ?_
  refine ck_S (v := some (.int (if wi_ y 1 1000000000000 then 1 else 0))) (As := [.long y, .long 1, .long 1000000000000]) (rest := [.ref (ad_ w 20 0)]) cx hW hS hl (c_X5_within l hI a y 1 1000000000000) cw_X5_within nw_406 nw_405 rfl rfl (Nat.le_of_ble_eq_true rfl) rfl rfl ⟨Nat.le_of_ble_eq_true rfl, Nat.le_of_ble_eq_true rfl⟩ ⟨Nat.le_of_ble_eq_true rfl, Nat.le_of_ble_eq_true rfl⟩ dX5_withdraw_14 (fun H locs hW hS => ?_)
  refine W.eq (g2 := F0 zm 17 ls [.int (if wi_ y 1 1000000000000 then 1 else 0), .ref (ad_ w 20 0)]) rfl ?_
  refine lv_if_ne (tgt := 24) cx.1 cx.2.1 dX5_withdraw_17 (by decide) (fun h17 => ?_) (fun zz => absurd zz (bz_t h))
  refine lv_aload_n cx.1 cx.2.1 dX5_withdraw_24 rfl (lv_at hl 0 rfl) ?_
  refine gf_X5_16 cx hW (by decide) dX5_withdraw_25 ?_
  refine lv_iload_n cx.1 cx.2.1 dX5_withdraw_28 rfl (lv_at hl 1 rfl) ?_
  refine al_23 (j := m) cx hW (by decide) rfl (by omega) dX5_withdraw_29 ?_
  refine lv_if_eq (tgt := 37) cx.1 cx.2.1 dX5_withdraw_30 (by decide) (fun h30 => ?_) (fun zz => absurd hs zz)
  refine lv_iconst (v := 0) cx.1 cx.2.1 dX5_withdraw_37 (by decide) ?_
  refine pf_X5_62 cx hW hS (by decide) dX5_withdraw_38 (fun H locs hW hS => ?_)
  replace hW : Hd_ w (th_ a 0) H := hW
  refine lv_aload_n cx.1 cx.2.1 dX5_withdraw_41 rfl (lv_at hl 0 rfl) ?_
  refine gf_X5_62 cx hW (by decide) dX5_withdraw_42 ?_
  refine tp_i (y := 0) (th_20 a _) ?_
  refine lv_if_le (tgt := 50) cx.1 cx.2.1 dX5_withdraw_45 (by decide) (fun h45 => ?_) (fun zz => absurd (by decide) zz)
  refine lv_aload_n cx.1 cx.2.1 dX5_withdraw_50 rfl (lv_at hl 0 rfl) ?_
  refine gf_X5_7 cx hW (by decide) dX5_withdraw_51 ?_
  refine lv_iload_n cx.1 cx.2.1 dX5_withdraw_54 rfl (lv_at hl 1 rfl) ?_
  refine al_21 (j := m) cx hW (by decide) rfl (by omega) dX5_withdraw_55 ?_
  refine lv_lload_n cx.1 cx.2.1 dX5_withdraw_56 rfl (lv_at hl 2 rfl) ?_
  refine lv_lsub cx.1 cx.2.1 dX5_withdraw_57 ?_
  refine lv_aload_n cx.1 cx.2.1 dX5_withdraw_58 rfl (lv_at hl 0 rfl) ?_
  refine lv_iload_n cx.1 cx.2.1 dX5_withdraw_59 rfl (lv_at hl 1 rfl) ?_
  refine ck_V (v := some (.long (qg_ (th_ a 0) m n))) (As := [.int (nI m)]) (rest := [.long ((gl_ (th_ a 0) 20 0 m) - y)]) (k := 20) (i := 0) (T := TX5) cx hW hS hl (by decide) rfl rfl (c_X5_marginOf l hI (th_ a 0) n (by rw [th_gi _ _ _ _ _ (by decide)]; exact hn) hn6 m (by omega)) cw_X5_marginOf nw_447 nw_543 nw_446 rfl rfl (Nat.le_of_ble_eq_true rfl) rfl rfl ⟨Nat.le_of_ble_eq_true rfl, Nat.le_of_ble_eq_true rfl⟩ ⟨Nat.le_of_ble_eq_true rfl, Nat.le_of_ble_eq_true rfl⟩ dX5_withdraw_60 (fun H locs hW hS => ?_)
  refine W.eq (g2 := F0 zm 63 ls [.long (qg_ (th_ a 0) m n), .long ((gl_ (th_ a 0) 20 0 m) - y)]) rfl ?_
  refine lc_lt (tgt := 81) cx.1 cx.2.1 dX5_withdraw_63 dX5_withdraw_64 (by decide) (fun h63 => ?_) (fun zz => absurd h2 zz)
  refine lv_ldc2 (own := "MarginHouseModel") (v := -1) cx.1 cx.2.1 cx.2.2.2.1 (cx.2.2.2.2.1 _ nw_422) dX5_withdraw_81 ?_
  exact cr_l cx hr hlk hW hS (Nat.le_of_ble_eq_true rfl) (Nat.le_of_ble_eq_true rfl) dX5_withdraw_84 rfl rfl
set_option maxHeartbeats 4000000 in
set_option maxRecDepth 100000 in
theorem c_X5_withdraw_no2 (l : Launch) {w : Gh_} (hI : In_ w) (a : St_) (k : Nat) (hk : gi_ a 21 0 0 = nI k) (hk8 : k ≤ 8) (n : Nat) (hn : gi_ a 22 0 0 = nI n) (hn6 : n ≤ 6) (m : Nat) (hm : m < k) (y : Int64) (h : wi_ y 1 1000000000000) (hs : gi_ a 23 0 m = 0) (h2 : ¬ gl_ a 20 0 m - y < qg_ (th_ a 0) m n) (h3 : ¬ tm_ (gl_ a 20 0 m - y)) : Fn_ l w yX5_withdraw (.code yX5_withdraw cX5_withdraw 4 (some .long)) { frames := 1, cells := 0, slots := 0, locals := 27 } 0 0 [.ref (ad_ w 20 0), .int (nI m), .long y] a (.inl (some (.long (-1)))) (th_ a 0) := by
  refine Fn_of hI (by decide +kernel) (Nat.le_of_ble_eq_true rfl) ?_
  intro zp ze zs zm zb zt zc ls cx hr hlk hno hW hS hl
  replace cx : Cx_ zp zs zm zc _ cX5_withdraw 4 "MarginHouseModel" w := cx
  replace hl : lv_has ls 4 [(0, .ref (ad_ w 20 0)), (1, .int (nI m)), (2, .long y)] := hl
  obtain ⟨H, hH⟩ : ∃ H, zs.heap = H := ⟨_, rfl⟩
  rw [hH] at hW
  have hS : Fr_ w zs.heap H [] := by rw [← hH]; exact hS
  obtain ⟨locs, hlocs⟩ : ∃ x : List Loc, x = [] := ⟨_, rfl⟩
  rw [← hlocs] at hS ⊢
  rw [show W zp l ze _ zs zm _ zb zt zc zs.heap locs 0 0 _ (F0 zm 0 ls []) ↔ W zp l ze _ zs zm _ zb zt zc H locs 0 0 _ (F0 zm 0 ls []) from by rw [hH]]
  refine lv_aload_n cx.1 cx.2.1 dX5_withdraw_0 rfl (lv_at hl 0 rfl) ?_
  refine lv_aload_n cx.1 cx.2.1 dX5_withdraw_1 rfl (lv_at hl 0 rfl) ?_
  refine lv_iload_n cx.1 cx.2.1 dX5_withdraw_2 rfl (lv_at hl 1 rfl) ?_
  refine ck_V (v := some (.int (if jm_ (nI m) (gi_ a 21 0 0) then 1 else 0))) (As := [.int (nI m)]) (rest := [.ref (ad_ w 20 0)]) (k := 20) (i := 0) (T := TX5) cx hW hS hl (by decide) rfl rfl (c_X5_isMember l hI a (nI m)) cw_X5_isMember nw_436 nw_542 nw_435 rfl rfl (Nat.le_of_ble_eq_true rfl) rfl rfl ⟨Nat.le_of_ble_eq_true rfl, Nat.le_of_ble_eq_true rfl⟩ ⟨Nat.le_of_ble_eq_true rfl, Nat.le_of_ble_eq_true rfl⟩ dX5_withdraw_3 (fun H locs hW hS => ?_)
  refine W.eq (g2 := F0 zm 6 ls [.int (if jm_ (nI m) (gi_ a 21 0 0) then 1 else 0), .ref (ad_ w 20 0)]) rfl ?_
  refine lv_if_eq (tgt := 20) cx.1 cx.2.1 dX5_withdraw_6 (by decide) (fun zz => absurd zz (bz_t (jm_in hk (by omega) hm))) (fun h6 => ?_)
  refine lv_lload_n cx.1 cx.2.1 dX5_withdraw_9 rfl (lv_at hl 2 rfl) ?_
  refine lv_lconst (v := 1) cx.1 cx.2.1 dX5_withdraw_10 (by decide) ?_
  refine lv_ldc2 (own := "MarginHouseModel") (v := 1000000000000) cx.1 cx.2.1 cx.2.2.2.1 (cx.2.2.2.2.1 _ nw_404) dX5_withdraw_11 ?_
  refine ck_S (v := some (.int (if wi_ y 1 1000000000000 then 1 else 0))) (As := [.long y, .long 1, .long 1000000000000]) (rest := [.ref (ad_ w 20 0)]) cx hW hS hl (c_X5_within l hI a y 1 1000000000000) cw_X5_within nw_406 nw_405 rfl rfl (Nat.le_of_ble_eq_true rfl) rfl rfl ⟨Nat.le_of_ble_eq_true rfl, Nat.le_of_ble_eq_true rfl⟩ ⟨Nat.le_of_ble_eq_true rfl, Nat.le_of_ble_eq_true rfl⟩ dX5_withdraw_14 (fun H locs hW hS => ?_)
  refine W.eq (g2 := F0 zm 17 ls [.int (if wi_ y 1 1000000000000 then 1 else 0), .ref (ad_ w 20 0)]) rfl ?_
  refine lv_if_ne (tgt := 24) cx.1 cx.2.1 dX5_withdraw_17 (by decide) (fun h17 => ?_) (fun zz => absurd zz (bz_t h))
  refine lv_aload_n cx.1 cx.2.1 dX5_withdraw_24 rfl (lv_at hl 0 rfl) ?_
  refine gf_X5_16 cx hW (by decide) dX5_withdraw_25 ?_
  refine lv_iload_n cx.1 cx.2.1 dX5_withdraw_28 rfl (lv_at hl 1 rfl) ?_
  refine al_23 (j := m) cx hW (by decide) rfl (by omega) dX5_withdraw_29 ?_
  refine lv_if_eq (tgt := 37) cx.1 cx.2.1 dX5_withdraw_30 (by decide) (fun h30 => ?_) (fun zz => absurd hs zz)
  refine lv_iconst (v := 0) cx.1 cx.2.1 dX5_withdraw_37 (by decide) ?_
  refine pf_X5_62 cx hW hS (by decide) dX5_withdraw_38 (fun H locs hW hS => ?_)
  replace hW : Hd_ w (th_ a 0) H := hW
  refine lv_aload_n cx.1 cx.2.1 dX5_withdraw_41 rfl (lv_at hl 0 rfl) ?_
  refine gf_X5_62 cx hW (by decide) dX5_withdraw_42 ?_
  refine tp_i (y := 0) (th_20 a _) ?_
  refine lv_if_le (tgt := 50) cx.1 cx.2.1 dX5_withdraw_45 (by decide) (fun h45 => ?_) (fun zz => absurd (by decide) zz)
  refine lv_aload_n cx.1 cx.2.1 dX5_withdraw_50 rfl (lv_at hl 0 rfl) ?_
  refine gf_X5_7 cx hW (by decide) dX5_withdraw_51 ?_
  refine lv_iload_n cx.1 cx.2.1 dX5_withdraw_54 rfl (lv_at hl 1 rfl) ?_
  refine al_21 (j := m) cx hW (by decide) rfl (by omega) dX5_withdraw_55 ?_
  refine lv_lload_n cx.1 cx.2.1 dX5_withdraw_56 rfl (lv_at hl 2 rfl) ?_
  refine lv_lsub cx.1 cx.2.1 dX5_withdraw_57 ?_
  refine lv_aload_n cx.1 cx.2.1 dX5_withdraw_58 rfl (lv_at hl 0 rfl) ?_
  refine lv_iload_n cx.1 cx.2.1 dX5_withdraw_59 rfl (lv_at hl 1 rfl) ?_
  refine ck_V (v := some (.long (qg_ (th_ a 0) m n))) (As := [.int (nI m)]) (rest := [.long ((gl_ (th_ a 0) 20 0 m) - y)]) (k := 20) (i := 0) (T := TX5) cx hW hS hl (by decide) rfl rfl (c_X5_marginOf l hI (th_ a 0) n (by rw [th_gi _ _ _ _ _ (by decide)]; exact hn) hn6 m (by omega)) cw_X5_marginOf nw_447 nw_543 nw_446 rfl rfl (Nat.le_of_ble_eq_true rfl) rfl rfl ⟨Nat.le_of_ble_eq_true rfl, Nat.le_of_ble_eq_true rfl⟩ ⟨Nat.le_of_ble_eq_true rfl, Nat.le_of_ble_eq_true rfl⟩ dX5_withdraw_60 (fun H locs hW hS => ?_)
  refine W.eq (g2 := F0 zm 63 ls [.long (qg_ (th_ a 0) m n), .long ((gl_ (th_ a 0) 20 0 m) - y)]) rfl ?_
  refine lc_lt (tgt := 81) cx.1 cx.2.1 dX5_withdraw_63 dX5_withdraw_64 (by decide) (fun zz => absurd zz h2) (fun h63 => ?_)
  refine lv_aload_n cx.1 cx.2.1 dX5_withdraw_67 rfl (lv_at hl 0 rfl) ?_
  refine gf_X5_7 cx hW (by decide) dX5_withdraw_68 ?_
  refine lv_iload_n cx.1 cx.2.1 dX5_withdraw_71 rfl (lv_at hl 1 rfl) ?_
  refine al_21 (j := m) cx hW (by decide) rfl (by omega) dX5_withdraw_72 ?_
  refine lv_lload_n cx.1 cx.2.1 dX5_withdraw_73 rfl (lv_at hl 2 rfl) ?_
  refine lv_lsub cx.1 cx.2.1 dX5_withdraw_74 ?_
  refine ck_S (v := some (.int (if ¬ tm_ ((gl_ (th_ a 0) 20 0 m) - y) then 1 else 0))) (As := [.long ((gl_ (th_ a 0) 20 0 m) - y)]) (rest := []) cx hW hS hl (c_X5_isFar l hI (th_ a 0) ((gl_ (th_ a 0) 20 0 m) - y)) cw_X5_isFar nw_418 nw_417 rfl rfl (Nat.le_of_ble_eq_true rfl) rfl rfl ⟨Nat.le_of_ble_eq_true rfl, Nat.le_of_ble_eq_true rfl⟩ ⟨Nat.le_of_ble_eq_true rfl, Nat.le_of_ble_eq_true rfl⟩ dX5_withdraw_75 (fun H locs hW hS => ?_)
  refine W.eq (g2 := F0 zm 78 ls [.int (if ¬ tm_ ((gl_ (th_ a 0) 20 0 m) - y) then 1 else 0)]) rfl ?_
  refine lv_if_eq (tgt := 85) cx.1 cx.2.1 dX5_withdraw_78 (by decide) (fun zz => absurd zz (bz_t h3)) (fun h78 => ?_)
  refine lv_ldc2 (own := "MarginHouseModel") (v := -1) cx.1 cx.2.1 cx.2.2.2.1 (cx.2.2.2.2.1 _ nw_422) dX5_withdraw_81 ?_
  exact cr_l cx hr hlk hW hS (Nat.le_of_ble_eq_true rfl) (Nat.le_of_ble_eq_true rfl) dX5_withdraw_84 rfl rfl
set_option maxHeartbeats 4000000 in
set_option maxRecDepth 100000 in
theorem c_X5_withdraw_ok (l : Launch) {w : Gh_} (hI : In_ w) (a : St_) (k : Nat) (hk : gi_ a 21 0 0 = nI k) (hk8 : k ≤ 8) (n : Nat) (hn : gi_ a 22 0 0 = nI n) (hn6 : n ≤ 6) (m : Nat) (hm : m < k) (y : Int64) (h : wi_ y 1 1000000000000) (hs : gi_ a 23 0 m = 0) (h2 : ¬ gl_ a 20 0 m - y < qg_ (th_ a 0) m n) (h3 : tm_ (gl_ a 20 0 m - y)) : Fn_ l w yX5_withdraw (.code yX5_withdraw cX5_withdraw 4 (some .long)) { frames := 1, cells := 0, slots := 0, locals := 27 } 0 0 [.ref (ad_ w 20 0), .int (nI m), .long y] a (.inl (some (.long (gl_ a 20 0 m - y)))) (sl_ (th_ a 0) 20 0 m (gl_ a 20 0 m - y)) := by
  refine Fn_of hI (by decide +kernel) (Nat.le_of_ble_eq_true rfl) ?_
  intro zp ze zs zm zb zt zc ls cx hr hlk hno hW hS hl
  replace cx : Cx_ zp zs zm zc _ cX5_withdraw 4 "MarginHouseModel" w := cx
  replace hl : lv_has ls 4 [(0, .ref (ad_ w 20 0)), (1, .int (nI m)), (2, .long y)] := hl
  obtain ⟨H, hH⟩ : ∃ H, zs.heap = H := ⟨_, rfl⟩
  rw [hH] at hW
  have hS : Fr_ w zs.heap H [] := by rw [← hH]; exact hS
  obtain ⟨locs, hlocs⟩ : ∃ x : List Loc, x = [] := ⟨_, rfl⟩
  rw [← hlocs] at hS ⊢
  rw [show W zp l ze _ zs zm _ zb zt zc zs.heap locs 0 0 _ (F0 zm 0 ls []) ↔ W zp l ze _ zs zm _ zb zt zc H locs 0 0 _ (F0 zm 0 ls []) from by rw [hH]]
  refine lv_aload_n cx.1 cx.2.1 dX5_withdraw_0 rfl (lv_at hl 0 rfl) ?_
  refine lv_aload_n cx.1 cx.2.1 dX5_withdraw_1 rfl (lv_at hl 0 rfl) ?_
  refine lv_iload_n cx.1 cx.2.1 dX5_withdraw_2 rfl (lv_at hl 1 rfl) ?_
  refine ck_V (v := some (.int (if jm_ (nI m) (gi_ a 21 0 0) then 1 else 0))) (As := [.int (nI m)]) (rest := [.ref (ad_ w 20 0)]) (k := 20) (i := 0) (T := TX5) cx hW hS hl (by decide) rfl rfl (c_X5_isMember l hI a (nI m)) cw_X5_isMember nw_436 nw_542 nw_435 rfl rfl (Nat.le_of_ble_eq_true rfl) rfl rfl ⟨Nat.le_of_ble_eq_true rfl, Nat.le_of_ble_eq_true rfl⟩ ⟨Nat.le_of_ble_eq_true rfl, Nat.le_of_ble_eq_true rfl⟩ dX5_withdraw_3 (fun H locs hW hS => ?_)
  refine W.eq (g2 := F0 zm 6 ls [.int (if jm_ (nI m) (gi_ a 21 0 0) then 1 else 0), .ref (ad_ w 20 0)]) rfl ?_
  refine lv_if_eq (tgt := 20) cx.1 cx.2.1 dX5_withdraw_6 (by decide) (fun zz => absurd zz (bz_t (jm_in hk (by omega) hm))) (fun h6 => ?_)
  refine lv_lload_n cx.1 cx.2.1 dX5_withdraw_9 rfl (lv_at hl 2 rfl) ?_
  refine lv_lconst (v := 1) cx.1 cx.2.1 dX5_withdraw_10 (by decide) ?_
  refine lv_ldc2 (own := "MarginHouseModel") (v := 1000000000000) cx.1 cx.2.1 cx.2.2.2.1 (cx.2.2.2.2.1 _ nw_404) dX5_withdraw_11 ?_
  refine ck_S (v := some (.int (if wi_ y 1 1000000000000 then 1 else 0))) (As := [.long y, .long 1, .long 1000000000000]) (rest := [.ref (ad_ w 20 0)]) cx hW hS hl (c_X5_within l hI a y 1 1000000000000) cw_X5_within nw_406 nw_405 rfl rfl (Nat.le_of_ble_eq_true rfl) rfl rfl ⟨Nat.le_of_ble_eq_true rfl, Nat.le_of_ble_eq_true rfl⟩ ⟨Nat.le_of_ble_eq_true rfl, Nat.le_of_ble_eq_true rfl⟩ dX5_withdraw_14 (fun H locs hW hS => ?_)
  refine W.eq (g2 := F0 zm 17 ls [.int (if wi_ y 1 1000000000000 then 1 else 0), .ref (ad_ w 20 0)]) rfl ?_
  refine lv_if_ne (tgt := 24) cx.1 cx.2.1 dX5_withdraw_17 (by decide) (fun h17 => ?_) (fun zz => absurd zz (bz_t h))
  refine lv_aload_n cx.1 cx.2.1 dX5_withdraw_24 rfl (lv_at hl 0 rfl) ?_
  refine gf_X5_16 cx hW (by decide) dX5_withdraw_25 ?_
  refine lv_iload_n cx.1 cx.2.1 dX5_withdraw_28 rfl (lv_at hl 1 rfl) ?_
  refine al_23 (j := m) cx hW (by decide) rfl (by omega) dX5_withdraw_29 ?_
  refine lv_if_eq (tgt := 37) cx.1 cx.2.1 dX5_withdraw_30 (by decide) (fun h30 => ?_) (fun zz => absurd hs zz)
  refine lv_iconst (v := 0) cx.1 cx.2.1 dX5_withdraw_37 (by decide) ?_
  refine pf_X5_62 cx hW hS (by decide) dX5_withdraw_38 (fun H locs hW hS => ?_)
  replace hW : Hd_ w (th_ a 0) H := hW
  refine lv_aload_n cx.1 cx.2.1 dX5_withdraw_41 rfl (lv_at hl 0 rfl) ?_
  refine gf_X5_62 cx hW (by decide) dX5_withdraw_42 ?_
  refine tp_i (y := 0) (th_20 a _) ?_
  refine lv_if_le (tgt := 50) cx.1 cx.2.1 dX5_withdraw_45 (by decide) (fun h45 => ?_) (fun zz => absurd (by decide) zz)
  refine lv_aload_n cx.1 cx.2.1 dX5_withdraw_50 rfl (lv_at hl 0 rfl) ?_
  refine gf_X5_7 cx hW (by decide) dX5_withdraw_51 ?_
  refine lv_iload_n cx.1 cx.2.1 dX5_withdraw_54 rfl (lv_at hl 1 rfl) ?_
  refine al_21 (j := m) cx hW (by decide) rfl (by omega) dX5_withdraw_55 ?_
  refine lv_lload_n cx.1 cx.2.1 dX5_withdraw_56 rfl (lv_at hl 2 rfl) ?_
  refine lv_lsub cx.1 cx.2.1 dX5_withdraw_57 ?_
  refine lv_aload_n cx.1 cx.2.1 dX5_withdraw_58 rfl (lv_at hl 0 rfl) ?_
  refine lv_iload_n cx.1 cx.2.1 dX5_withdraw_59 rfl (lv_at hl 1 rfl) ?_
  refine ck_V (v := some (.long (qg_ (th_ a 0) m n))) (As := [.int (nI m)]) (rest := [.long ((gl_ (th_ a 0) 20 0 m) - y)]) (k := 20) (i := 0) (T := TX5) cx hW hS hl (by decide) rfl rfl (c_X5_marginOf l hI (th_ a 0) n (by rw [th_gi _ _ _ _ _ (by decide)]; exact hn) hn6 m (by omega)) cw_X5_marginOf nw_447 nw_543 nw_446 rfl rfl (Nat.le_of_ble_eq_true rfl) rfl rfl ⟨Nat.le_of_ble_eq_true rfl, Nat.le_of_ble_eq_true rfl⟩ ⟨Nat.le_of_ble_eq_true rfl, Nat.le_of_ble_eq_true rfl⟩ dX5_withdraw_60 (fun H locs hW hS => ?_)
  refine W.eq (g2 := F0 zm 63 ls [.long (qg_ (th_ a 0) m n), .long ((gl_ (th_ a 0) 20 0 m) - y)]) rfl ?_
  refine lc_lt (tgt := 81) cx.1 cx.2.1 dX5_withdraw_63 dX5_withdraw_64 (by decide) (fun zz => absurd zz h2) (fun h63 => ?_)
  refine lv_aload_n cx.1 cx.2.1 dX5_withdraw_67 rfl (lv_at hl 0 rfl) ?_
  refine gf_X5_7 cx hW (by decide) dX5_withdraw_68 ?_
  refine lv_iload_n cx.1 cx.2.1 dX5_withdraw_71 rfl (lv_at hl 1 rfl) ?_
  refine al_21 (j := m) cx hW (by decide) rfl (by omega) dX5_withdraw_72 ?_
  refine lv_lload_n cx.1 cx.2.1 dX5_withdraw_73 rfl (lv_at hl 2 rfl) ?_
  refine lv_lsub cx.1 cx.2.1 dX5_withdraw_74 ?_
  refine ck_S (v := some (.int (if ¬ tm_ ((gl_ (th_ a 0) 20 0 m) - y) then 1 else 0))) (As := [.long ((gl_ (th_ a 0) 20 0 m) - y)]) (rest := []) cx hW hS hl (c_X5_isFar l hI (th_ a 0) ((gl_ (th_ a 0) 20 0 m) - y)) cw_X5_isFar nw_418 nw_417 rfl rfl (Nat.le_of_ble_eq_true rfl) rfl rfl ⟨Nat.le_of_ble_eq_true rfl, Nat.le_of_ble_eq_true rfl⟩ ⟨Nat.le_of_ble_eq_true rfl, Nat.le_of_ble_eq_true rfl⟩ dX5_withdraw_75 (fun H locs hW hS => ?_)
  refine W.eq (g2 := F0 zm 78 ls [.int (if ¬ tm_ ((gl_ (th_ a 0) 20 0 m) - y) then 1 else 0)]) rfl ?_
  refine lv_if_eq (tgt := 85) cx.1 cx.2.1 dX5_withdraw_78 (by decide) (fun h78 => ?_) (fun zz => absurd (bz_f (fun z => z h3)) zz)
  refine lv_aload_n cx.1 cx.2.1 dX5_withdraw_85 rfl (lv_at hl 0 rfl) ?_
  refine gf_X5_7 cx hW (by decide) dX5_withdraw_86 ?_
  refine lv_iload_n cx.1 cx.2.1 dX5_withdraw_89 rfl (lv_at hl 1 rfl) ?_
  refine lv_aload_n cx.1 cx.2.1 dX5_withdraw_90 rfl (lv_at hl 0 rfl) ?_
  refine gf_X5_7 cx hW (by decide) dX5_withdraw_91 ?_
  refine lv_iload_n cx.1 cx.2.1 dX5_withdraw_94 rfl (lv_at hl 1 rfl) ?_
  refine al_21 (j := m) cx hW (by decide) rfl (by omega) dX5_withdraw_95 ?_
  refine lv_lload_n cx.1 cx.2.1 dX5_withdraw_96 rfl (lv_at hl 2 rfl) ?_
  refine lv_lsub cx.1 cx.2.1 dX5_withdraw_97 ?_
  refine as_21 (j := m) cx hW hS (by decide) rfl (by omega) dX5_withdraw_98 (fun H locs hW hS => ?_)
  refine lv_aload_n cx.1 cx.2.1 dX5_withdraw_99 rfl (lv_at hl 0 rfl) ?_
  refine gf_X5_7 cx hW (by decide) dX5_withdraw_100 ?_
  refine lv_iload_n cx.1 cx.2.1 dX5_withdraw_103 rfl (lv_at hl 1 rfl) ?_
  refine al_21 (j := m) cx hW (by decide) rfl (by omega) dX5_withdraw_104 ?_
  refine tp_j (y := gl_ a 20 0 m - y) (by rw [gl_sl]; exact if_pos ⟨rfl, rfl, rfl⟩) ?_
  exact cr_l cx hr hlk hW hS (Nat.le_of_ble_eq_true rfl) (Nat.le_of_ble_eq_true rfl) dX5_withdraw_105 rfl rfl
set_option maxHeartbeats 4000000 in
set_option maxRecDepth 100000 in
theorem c_X5_margin_ia (l : Launch) {w : Gh_} (hI : In_ w) (a : St_) (x : Int32) (h : ¬ jm_ x (gi_ a 21 0 0)) : Fn_ l w yX5_margin (.code yX5_margin cX5_margin 2 (some .long)) { frames := 1, cells := 0, slots := 0, locals := 27 } 0 0 [.ref (ad_ w 20 0), .int x] a (.inl (some (.long 0))) (th_ a 1) := by
  refine Fn_of hI (by decide +kernel) (Nat.le_of_ble_eq_true rfl) ?_
  intro zp ze zs zm zb zt zc ls cx hr hlk hno hW hS hl
  replace cx : Cx_ zp zs zm zc _ cX5_margin 2 "MarginHouseModel" w := cx
  replace hl : lv_has ls 2 [(0, .ref (ad_ w 20 0)), (1, .int x)] := hl
  obtain ⟨H, hH⟩ : ∃ H, zs.heap = H := ⟨_, rfl⟩
  rw [hH] at hW
  have hS : Fr_ w zs.heap H [] := by rw [← hH]; exact hS
  obtain ⟨locs, hlocs⟩ : ∃ x : List Loc, x = [] := ⟨_, rfl⟩
  rw [← hlocs] at hS ⊢
  rw [show W zp l ze _ zs zm _ zb zt zc zs.heap locs 0 0 _ (F0 zm 0 ls []) ↔ W zp l ze _ zs zm _ zb zt zc H locs 0 0 _ (F0 zm 0 ls []) from by rw [hH]]
  refine lv_aload_n cx.1 cx.2.1 dX5_margin_0 rfl (lv_at hl 0 rfl) ?_
  refine lv_aload_n cx.1 cx.2.1 dX5_margin_1 rfl (lv_at hl 0 rfl) ?_
  refine lv_iload_n cx.1 cx.2.1 dX5_margin_2 rfl (lv_at hl 1 rfl) ?_
  refine ck_V (v := some (.int (if jm_ x (gi_ a 21 0 0) then 1 else 0))) (As := [.int x]) (rest := [.ref (ad_ w 20 0)]) (k := 20) (i := 0) (T := TX5) cx hW hS hl (by decide) rfl rfl (c_X5_isMember l hI a x) cw_X5_isMember nw_436 nw_542 nw_435 rfl rfl (Nat.le_of_ble_eq_true rfl) rfl rfl ⟨Nat.le_of_ble_eq_true rfl, Nat.le_of_ble_eq_true rfl⟩ ⟨Nat.le_of_ble_eq_true rfl, Nat.le_of_ble_eq_true rfl⟩ dX5_margin_3 (fun H locs hW hS => ?_)
  refine W.eq (g2 := F0 zm 6 ls [.int (if jm_ x (gi_ a 21 0 0) then 1 else 0), .ref (ad_ w 20 0)]) rfl ?_
  refine lv_if_eq (tgt := 13) cx.1 cx.2.1 dX5_margin_6 (by decide) (fun h6 => ?_) (fun zz => absurd (bz_f h) zz)
  refine lv_iconst (v := 1) cx.1 cx.2.1 dX5_margin_13 (by decide) ?_
  refine pf_X5_62 cx hW hS (by decide) dX5_margin_14 (fun H locs hW hS => ?_)
  replace hW : Hd_ w (th_ a 1) H := hW
  refine lv_aload_n cx.1 cx.2.1 dX5_margin_17 rfl (lv_at hl 0 rfl) ?_
  refine gf_X5_62 cx hW (by decide) dX5_margin_18 ?_
  refine tp_i (y := 1) (th_20 a _) ?_
  refine lv_if_le (tgt := 28) cx.1 cx.2.1 dX5_margin_21 (by decide) (fun zz => absurd zz (by decide)) (fun h21 => ?_)
  refine lv_lconst (v := 0) cx.1 cx.2.1 dX5_margin_24 (by decide) ?_
  refine lv_goto (tgt := 33) cx.1 cx.2.1 dX5_margin_25 (by decide) ?_
  exact cr_l cx hr hlk hW hS (Nat.le_of_ble_eq_true rfl) (Nat.le_of_ble_eq_true rfl) dX5_margin_33 rfl rfl
set_option maxHeartbeats 4000000 in
set_option maxRecDepth 100000 in
theorem c_X5_margin_ok (l : Launch) {w : Gh_} (hI : In_ w) (a : St_) (k : Nat) (hk : gi_ a 21 0 0 = nI k) (hk8 : k ≤ 8) (n : Nat) (hn : gi_ a 22 0 0 = nI n) (hn6 : n ≤ 6) (m : Nat) (hm : m < k) : Fn_ l w yX5_margin (.code yX5_margin cX5_margin 2 (some .long)) { frames := 1, cells := 0, slots := 0, locals := 27 } 0 0 [.ref (ad_ w 20 0), .int (nI m)] a (.inl (some (.long (qg_ (th_ a 0) m n)))) (th_ a 0) := by
  refine Fn_of hI (by decide +kernel) (Nat.le_of_ble_eq_true rfl) ?_
  intro zp ze zs zm zb zt zc ls cx hr hlk hno hW hS hl
  replace cx : Cx_ zp zs zm zc _ cX5_margin 2 "MarginHouseModel" w := cx
  replace hl : lv_has ls 2 [(0, .ref (ad_ w 20 0)), (1, .int (nI m))] := hl
  obtain ⟨H, hH⟩ : ∃ H, zs.heap = H := ⟨_, rfl⟩
  rw [hH] at hW
  have hS : Fr_ w zs.heap H [] := by rw [← hH]; exact hS
  obtain ⟨locs, hlocs⟩ : ∃ x : List Loc, x = [] := ⟨_, rfl⟩
  rw [← hlocs] at hS ⊢
  rw [show W zp l ze _ zs zm _ zb zt zc zs.heap locs 0 0 _ (F0 zm 0 ls []) ↔ W zp l ze _ zs zm _ zb zt zc H locs 0 0 _ (F0 zm 0 ls []) from by rw [hH]]
  refine lv_aload_n cx.1 cx.2.1 dX5_margin_0 rfl (lv_at hl 0 rfl) ?_
  refine lv_aload_n cx.1 cx.2.1 dX5_margin_1 rfl (lv_at hl 0 rfl) ?_
  refine lv_iload_n cx.1 cx.2.1 dX5_margin_2 rfl (lv_at hl 1 rfl) ?_
  refine ck_V (v := some (.int (if jm_ (nI m) (gi_ a 21 0 0) then 1 else 0))) (As := [.int (nI m)]) (rest := [.ref (ad_ w 20 0)]) (k := 20) (i := 0) (T := TX5) cx hW hS hl (by decide) rfl rfl (c_X5_isMember l hI a (nI m)) cw_X5_isMember nw_436 nw_542 nw_435 rfl rfl (Nat.le_of_ble_eq_true rfl) rfl rfl ⟨Nat.le_of_ble_eq_true rfl, Nat.le_of_ble_eq_true rfl⟩ ⟨Nat.le_of_ble_eq_true rfl, Nat.le_of_ble_eq_true rfl⟩ dX5_margin_3 (fun H locs hW hS => ?_)
  refine W.eq (g2 := F0 zm 6 ls [.int (if jm_ (nI m) (gi_ a 21 0 0) then 1 else 0), .ref (ad_ w 20 0)]) rfl ?_
  refine lv_if_eq (tgt := 13) cx.1 cx.2.1 dX5_margin_6 (by decide) (fun zz => absurd zz (bz_t (jm_in hk (by omega) hm))) (fun h6 => ?_)
  refine lv_iconst (v := 0) cx.1 cx.2.1 dX5_margin_9 (by decide) ?_
  refine lv_goto (tgt := 14) cx.1 cx.2.1 dX5_margin_10 (by decide) ?_
  refine pf_X5_62 cx hW hS (by decide) dX5_margin_14 (fun H locs hW hS => ?_)
  replace hW : Hd_ w (th_ a 0) H := hW
  refine lv_aload_n cx.1 cx.2.1 dX5_margin_17 rfl (lv_at hl 0 rfl) ?_
  refine gf_X5_62 cx hW (by decide) dX5_margin_18 ?_
  refine tp_i (y := 0) (th_20 a _) ?_
  refine lv_if_le (tgt := 28) cx.1 cx.2.1 dX5_margin_21 (by decide) (fun h21 => ?_) (fun zz => absurd (by decide) zz)
  refine lv_aload_n cx.1 cx.2.1 dX5_margin_28 rfl (lv_at hl 0 rfl) ?_
  refine lv_iload_n cx.1 cx.2.1 dX5_margin_29 rfl (lv_at hl 1 rfl) ?_
  refine ck_V (v := some (.long (qg_ (th_ a 0) m n))) (As := [.int (nI m)]) (rest := []) (k := 20) (i := 0) (T := TX5) cx hW hS hl (by decide) rfl rfl (c_X5_marginOf l hI (th_ a 0) n (by rw [th_gi _ _ _ _ _ (by decide)]; exact hn) hn6 m (by omega)) cw_X5_marginOf nw_447 nw_543 nw_446 rfl rfl (Nat.le_of_ble_eq_true rfl) rfl rfl ⟨Nat.le_of_ble_eq_true rfl, Nat.le_of_ble_eq_true rfl⟩ ⟨Nat.le_of_ble_eq_true rfl, Nat.le_of_ble_eq_true rfl⟩ dX5_margin_30 (fun H locs hW hS => ?_)
  refine W.eq (g2 := F0 zm 33 ls [.long (qg_ (th_ a 0) m n)]) rfl ?_
  exact cr_l cx hr hlk hW hS (Nat.le_of_ble_eq_true rfl) (Nat.le_of_ble_eq_true rfl) dX5_margin_33 rfl rfl
set_option maxHeartbeats 4000000 in
set_option maxRecDepth 100000 in
theorem c_X5_called_ia (l : Launch) {w : Gh_} (hI : In_ w) (a : St_) (x : Int32) (h : ¬ jm_ x (gi_ a 21 0 0)) : Fn_ l w yX5_called (.code yX5_called cX5_called 2 (some .long)) { frames := 2, cells := 0, slots := 0, locals := 50 } 0 0 [.ref (ad_ w 20 0), .int x] a (.inl (some (.long 0))) (th_ a 1) := by
  refine Fn_of hI (by decide +kernel) (Nat.le_of_ble_eq_true rfl) ?_
  intro zp ze zs zm zb zt zc ls cx hr hlk hno hW hS hl
  replace cx : Cx_ zp zs zm zc _ cX5_called 2 "MarginHouseModel" w := cx
  replace hl : lv_has ls 2 [(0, .ref (ad_ w 20 0)), (1, .int x)] := hl
  obtain ⟨H, hH⟩ : ∃ H, zs.heap = H := ⟨_, rfl⟩
  rw [hH] at hW
  have hS : Fr_ w zs.heap H [] := by rw [← hH]; exact hS
  obtain ⟨locs, hlocs⟩ : ∃ x : List Loc, x = [] := ⟨_, rfl⟩
  rw [← hlocs] at hS ⊢
  rw [show W zp l ze _ zs zm _ zb zt zc zs.heap locs 0 0 _ (F0 zm 0 ls []) ↔ W zp l ze _ zs zm _ zb zt zc H locs 0 0 _ (F0 zm 0 ls []) from by rw [hH]]
  refine lv_aload_n cx.1 cx.2.1 dX5_called_0 rfl (lv_at hl 0 rfl) ?_
  refine lv_aload_n cx.1 cx.2.1 dX5_called_1 rfl (lv_at hl 0 rfl) ?_
  refine lv_iload_n cx.1 cx.2.1 dX5_called_2 rfl (lv_at hl 1 rfl) ?_
  refine ck_V (v := some (.int (if jm_ x (gi_ a 21 0 0) then 1 else 0))) (As := [.int x]) (rest := [.ref (ad_ w 20 0)]) (k := 20) (i := 0) (T := TX5) cx hW hS hl (by decide) rfl rfl (c_X5_isMember l hI a x) cw_X5_isMember nw_436 nw_542 nw_435 rfl rfl (Nat.le_of_ble_eq_true rfl) rfl rfl ⟨Nat.le_of_ble_eq_true rfl, Nat.le_of_ble_eq_true rfl⟩ ⟨Nat.le_of_ble_eq_true rfl, Nat.le_of_ble_eq_true rfl⟩ dX5_called_3 (fun H locs hW hS => ?_)
  refine W.eq (g2 := F0 zm 6 ls [.int (if jm_ x (gi_ a 21 0 0) then 1 else 0), .ref (ad_ w 20 0)]) rfl ?_
  refine lv_if_eq (tgt := 13) cx.1 cx.2.1 dX5_called_6 (by decide) (fun h6 => ?_) (fun zz => absurd (bz_f h) zz)
  refine lv_iconst (v := 1) cx.1 cx.2.1 dX5_called_13 (by decide) ?_
  refine pf_X5_62 cx hW hS (by decide) dX5_called_14 (fun H locs hW hS => ?_)
  replace hW : Hd_ w (th_ a 1) H := hW
  refine lv_aload_n cx.1 cx.2.1 dX5_called_17 rfl (lv_at hl 0 rfl) ?_
  refine gf_X5_62 cx hW (by decide) dX5_called_18 ?_
  refine tp_i (y := 1) (th_20 a _) ?_
  refine lv_if_le (tgt := 28) cx.1 cx.2.1 dX5_called_21 (by decide) (fun zz => absurd zz (by decide)) (fun h21 => ?_)
  refine lv_lconst (v := 0) cx.1 cx.2.1 dX5_called_24 (by decide) ?_
  refine lv_goto (tgt := 33) cx.1 cx.2.1 dX5_called_25 (by decide) ?_
  exact cr_l cx hr hlk hW hS (Nat.le_of_ble_eq_true rfl) (Nat.le_of_ble_eq_true rfl) dX5_called_33 rfl rfl
set_option maxHeartbeats 4000000 in
set_option maxRecDepth 100000 in
theorem c_X5_called_ok (l : Launch) {w : Gh_} (hI : In_ w) (a : St_) (k : Nat) (hk : gi_ a 21 0 0 = nI k) (hk8 : k ≤ 8) (n : Nat) (hn : gi_ a 22 0 0 = nI n) (hn6 : n ≤ 6) (m : Nat) (hm : m < k) : Fn_ l w yX5_called (.code yX5_called cX5_called 2 (some .long)) { frames := 2, cells := 0, slots := 0, locals := 50 } 0 0 [.ref (ad_ w 20 0), .int (nI m)] a (.inl (some (.long (qc_ (th_ a 0) m n)))) (th_ a 0) := by
  refine Fn_of hI (by decide +kernel) (Nat.le_of_ble_eq_true rfl) ?_
  intro zp ze zs zm zb zt zc ls cx hr hlk hno hW hS hl
  replace cx : Cx_ zp zs zm zc _ cX5_called 2 "MarginHouseModel" w := cx
  replace hl : lv_has ls 2 [(0, .ref (ad_ w 20 0)), (1, .int (nI m))] := hl
  obtain ⟨H, hH⟩ : ∃ H, zs.heap = H := ⟨_, rfl⟩
  rw [hH] at hW
  have hS : Fr_ w zs.heap H [] := by rw [← hH]; exact hS
  obtain ⟨locs, hlocs⟩ : ∃ x : List Loc, x = [] := ⟨_, rfl⟩
  rw [← hlocs] at hS ⊢
  rw [show W zp l ze _ zs zm _ zb zt zc zs.heap locs 0 0 _ (F0 zm 0 ls []) ↔ W zp l ze _ zs zm _ zb zt zc H locs 0 0 _ (F0 zm 0 ls []) from by rw [hH]]
  refine lv_aload_n cx.1 cx.2.1 dX5_called_0 rfl (lv_at hl 0 rfl) ?_
  refine lv_aload_n cx.1 cx.2.1 dX5_called_1 rfl (lv_at hl 0 rfl) ?_
  refine lv_iload_n cx.1 cx.2.1 dX5_called_2 rfl (lv_at hl 1 rfl) ?_
  refine ck_V (v := some (.int (if jm_ (nI m) (gi_ a 21 0 0) then 1 else 0))) (As := [.int (nI m)]) (rest := [.ref (ad_ w 20 0)]) (k := 20) (i := 0) (T := TX5) cx hW hS hl (by decide) rfl rfl (c_X5_isMember l hI a (nI m)) cw_X5_isMember nw_436 nw_542 nw_435 rfl rfl (Nat.le_of_ble_eq_true rfl) rfl rfl ⟨Nat.le_of_ble_eq_true rfl, Nat.le_of_ble_eq_true rfl⟩ ⟨Nat.le_of_ble_eq_true rfl, Nat.le_of_ble_eq_true rfl⟩ dX5_called_3 (fun H locs hW hS => ?_)
  refine W.eq (g2 := F0 zm 6 ls [.int (if jm_ (nI m) (gi_ a 21 0 0) then 1 else 0), .ref (ad_ w 20 0)]) rfl ?_
  refine lv_if_eq (tgt := 13) cx.1 cx.2.1 dX5_called_6 (by decide) (fun zz => absurd zz (bz_t (jm_in hk (by omega) hm))) (fun h6 => ?_)
  refine lv_iconst (v := 0) cx.1 cx.2.1 dX5_called_9 (by decide) ?_
  refine lv_goto (tgt := 14) cx.1 cx.2.1 dX5_called_10 (by decide) ?_
  refine pf_X5_62 cx hW hS (by decide) dX5_called_14 (fun H locs hW hS => ?_)
  replace hW : Hd_ w (th_ a 0) H := hW
  refine lv_aload_n cx.1 cx.2.1 dX5_called_17 rfl (lv_at hl 0 rfl) ?_
  refine gf_X5_62 cx hW (by decide) dX5_called_18 ?_
  refine tp_i (y := 0) (th_20 a _) ?_
  refine lv_if_le (tgt := 28) cx.1 cx.2.1 dX5_called_21 (by decide) (fun h21 => ?_) (fun zz => absurd (by decide) zz)
  refine lv_aload_n cx.1 cx.2.1 dX5_called_28 rfl (lv_at hl 0 rfl) ?_
  refine lv_iload_n cx.1 cx.2.1 dX5_called_29 rfl (lv_at hl 1 rfl) ?_
  refine ck_V (v := some (.long (qc_ (th_ a 0) m n))) (As := [.int (nI m)]) (rest := []) (k := 20) (i := 0) (T := TX5) cx hW hS hl (by decide) rfl rfl (c_X5_callOf l hI (th_ a 0) n (by rw [th_gi _ _ _ _ _ (by decide)]; exact hn) hn6 m (by omega)) cw_X5_callOf nw_469 nw_544 nw_468 rfl rfl (Nat.le_of_ble_eq_true rfl) rfl rfl ⟨Nat.le_of_ble_eq_true rfl, Nat.le_of_ble_eq_true rfl⟩ ⟨Nat.le_of_ble_eq_true rfl, Nat.le_of_ble_eq_true rfl⟩ dX5_called_30 (fun H locs hW hS => ?_)
  refine W.eq (g2 := F0 zm 33 ls [.long (qc_ (th_ a 0) m n)]) rfl ?_
  exact cr_l cx hr hlk hW hS (Nat.le_of_ble_eq_true rfl) (Nat.le_of_ble_eq_true rfl) dX5_called_33 rfl rfl
def qd_ (a : St_) (n : Nat) : Nat → St_ × Int32
  | 0 => (a, 0)
  | i + 1 => if qc_ (qd_ a n i).1 i n ≤ 0 then qd_ a n i else (si_ (qd_ a n i).1 23 0 i 1, (qd_ a n i).2 + 1)
theorem qd_gi (a : St_) (n v x y : Nat) (hv : v ≠ 23) : ∀ i, gi_ (qd_ a n i).1 v x y = gi_ a v x y
  | 0 => rfl
  | i + 1 => by
    have ih := qd_gi a n v x y hv i
    rw [qd_]
    split
    · exact ih
    · show gi_ (si_ _ _ _ _ _) v x y = _
      rw [gi_si, if_neg (fun h => hv h.1), ih]
set_option maxHeartbeats 4000000 in
set_option maxRecDepth 100000 in
theorem c_X5_declare (l : Launch) {w : Gh_} (hI : In_ w) (a : St_) (k : Nat) (hk : gi_ a 21 0 0 = nI k) (hk8 : k ≤ 8) (n : Nat) (hn : gi_ a 22 0 0 = nI n) (hn6 : n ≤ 6) : Fn_ l w yX5_declare (.code yX5_declare cX5_declare 3 (some .int)) { frames := 2, cells := 0, slots := 0, locals := 50 } 0 0 [.ref (ad_ w 20 0)] a (.inl (some (.int ((qd_ (th_ a 0) n k).2)))) ((qd_ (th_ a 0) n k).1) := by
  refine Fn_of hI (by decide +kernel) (Nat.le_of_ble_eq_true rfl) ?_
  intro zp ze zs zm zb zt zc ls cx hr hlk hno hW hS hl
  replace cx : Cx_ zp zs zm zc _ cX5_declare 3 "MarginHouseModel" w := cx
  replace hl : lv_has ls 3 [(0, .ref (ad_ w 20 0))] := hl
  obtain ⟨H, hH⟩ : ∃ H, zs.heap = H := ⟨_, rfl⟩
  rw [hH] at hW
  have hS : Fr_ w zs.heap H [] := by rw [← hH]; exact hS
  obtain ⟨locs, hlocs⟩ : ∃ x : List Loc, x = [] := ⟨_, rfl⟩
  rw [← hlocs] at hS ⊢
  rw [show W zp l ze _ zs zm _ zb zt zc zs.heap locs 0 0 _ (F0 zm 0 ls []) ↔ W zp l ze _ zs zm _ zb zt zc H locs 0 0 _ (F0 zm 0 ls []) from by rw [hH]]
  refine lv_aload_n cx.1 cx.2.1 dX5_declare_0 rfl (lv_at hl 0 rfl) ?_
  refine lv_iconst (v := 0) cx.1 cx.2.1 dX5_declare_1 (by decide) ?_
  refine pf_X5_62 cx hW hS (by decide) dX5_declare_2 (fun H locs hW hS => ?_)
  replace hW : Hd_ w (th_ a 0) H := hW
  refine lv_iconst (v := 0) cx.1 cx.2.1 dX5_declare_5 (by decide) ?_
  refine lv_istore_n (lv' := [(1, .int 0), (0, .ref (ad_ w 20 0))]) cx.1 cx.2.1 dX5_declare_6 rfl hl (by decide) rfl (fun ls hl => ?_)
  refine lv_iconst (v := 0) cx.1 cx.2.1 dX5_declare_7 (by decide) ?_
  refine lv_istore_n (lv' := [(2, .int 0), (1, .int 0), (0, .ref (ad_ w 20 0))]) cx.1 cx.2.1 dX5_declare_8 rfl hl (by decide) rfl (fun ls hl => ?_)
  have L9 : ∀ (d i : Nat), i ≤ k → k - i < d → ∀ (H : Heap) (locs : List Loc) (ls : Array Slot), Hd_ w ((qd_ (th_ a 0) n i).1) H → Fr_ w zs.heap H locs → lv_has ls 3 [(0, .ref (ad_ w 20 0)), (1, .int ((qd_ (th_ a 0) n i).2)), (2, .int (nI i))] → W zp l ze { frames := 2, cells := 0, slots := 0, locals := 50 } zs zm ([.ref (ad_ w 20 0)] : List Value).toArray zb zt zc H locs 0 0 (vx_MQ zb (Qc_ w (.inl (some (.int ((qd_ (th_ a 0) n k).2)))) ((qd_ (th_ a 0) n k).1)) (XC_ w (.inl (some (.int ((qd_ (th_ a 0) n k).2)))) ((qd_ (th_ a 0) n k).1)) ([.ref (ad_ w 20 0)] : List Value).toArray zs 0 0 (fun q => lo_ w ≤ q)) (F0 zm 9 ls []) := by
    intro d
    induction d with
    | zero => intro i _ hd; exact absurd hd (Nat.not_lt_zero _)
    | succ d ih9 =>
      intro i hi hdi  H locs ls hW hS hl
      refine lv_iload_n cx.1 cx.2.1 dX5_declare_9 rfl (lv_at hl 2 rfl) ?_
      refine lv_aload_n cx.1 cx.2.1 dX5_declare_10 rfl (lv_at hl 0 rfl) ?_
      refine gf_X5_66 cx hW (by decide) dX5_declare_11 ?_
      refine tp_i (y := nI k) (by rw [qd_gi _ _ _ _ _ (by decide)]; exact (by rw [th_gi _ _ _ _ _ (by decide)]; exact hk)) ?_
      refine lv_icmp_ge (tgt := 43) cx.1 cx.2.1 dX5_declare_14 (by decide) (fun h14 => ?_) (fun h14 => ?_)
      · skip
        have h14 : k ≤ i := (nI_leI (by omega) (by omega)).mp h14
        have e9 : i = k := by omega
        try rw [e9] at hl
        try rw [e9] at hW
        refine lv_iload_n cx.1 cx.2.1 dX5_declare_43 rfl (lv_at hl 1 rfl) ?_
        exact cr_i cx hr hlk hW hS (Nat.le_of_ble_eq_true rfl) (Nat.le_of_ble_eq_true rfl) dX5_declare_44 rfl rfl
      · skip
        have h14 : i < k := Nat.not_le.mp (fun q => h14 ((nI_leI (by omega) (by omega)).mpr q))
        refine lv_aload_n cx.1 cx.2.1 dX5_declare_17 rfl (lv_at hl 0 rfl) ?_
        refine lv_iload_n cx.1 cx.2.1 dX5_declare_18 rfl (lv_at hl 2 rfl) ?_
        refine ck_V (v := some (.long (qc_ (qd_ (th_ a 0) n i).1 i n))) (As := [.int (nI i)]) (rest := []) (k := 20) (i := 0) (T := TX5) cx hW hS hl (by decide) rfl rfl (c_X5_callOf l hI (qd_ (th_ a 0) n i).1 n (by rw [qd_gi _ _ _ _ _ (by decide)]; exact (by rw [th_gi _ _ _ _ _ (by decide)]; exact hn)) hn6 i (by omega)) cw_X5_callOf nw_469 nw_544 nw_468 rfl rfl (Nat.le_of_ble_eq_true rfl) rfl rfl ⟨Nat.le_of_ble_eq_true rfl, Nat.le_of_ble_eq_true rfl⟩ ⟨Nat.le_of_ble_eq_true rfl, Nat.le_of_ble_eq_true rfl⟩ dX5_declare_19 (fun H locs hW hS => ?_)
        refine W.eq (g2 := F0 zm 22 ls [.long (qc_ (qd_ (th_ a 0) n i).1 i n)]) rfl ?_
        refine lv_lconst (v := 0) cx.1 cx.2.1 dX5_declare_22 (by decide) ?_
        refine lc_le (tgt := 37) cx.1 cx.2.1 dX5_declare_23 dX5_declare_24 (by decide) (fun h23 => ?_) (fun h23 => ?_)
        · skip
          have hE : qd_ (th_ a 0) n (i + 1) = qd_ (th_ a 0) n i := by rw [qd_, if_pos h23]
          refine lv_iinc (v := nI (i + 1)) (lv' := [(2, .int (nI (i + 1))), (0, .ref (ad_ w 20 0)), (1, .int ((qd_ (th_ a 0) n i).2))]) cx.1 cx.2.1 dX5_declare_37 hl (k := 2) rfl (nI_inc i) (by decide) rfl (fun ls hl => ?_)
          refine lv_goto (tgt := 9) cx.1 cx.2.1 dX5_declare_40 (by decide) ?_
          exact ih9 (i + 1) (by omega) (by omega)  H locs ls (by rw [hE]; exact hW) hS (lv_sub (l' := [(0, .ref (ad_ w 20 0)), (1, .int ((qd_ (th_ a 0) n (i + 1)).2)), (2, .int (nI (i + 1)))]) hl [1, 2, 0] (by rw [hE]; rfl))
        · skip
          have hE : qd_ (th_ a 0) n (i + 1) = (si_ (qd_ (th_ a 0) n i).1 23 0 i 1, (qd_ (th_ a 0) n i).2 + 1) := by rw [qd_, if_neg h23]
          refine lv_aload_n cx.1 cx.2.1 dX5_declare_27 rfl (lv_at hl 0 rfl) ?_
          refine gf_X5_16 cx hW (by decide) dX5_declare_28 ?_
          refine lv_iload_n cx.1 cx.2.1 dX5_declare_31 rfl (lv_at hl 2 rfl) ?_
          refine lv_iconst (v := 1) cx.1 cx.2.1 dX5_declare_32 (by decide) ?_
          refine as_23 (j := i) cx hW hS (by decide) rfl (by omega) dX5_declare_33 (fun H locs hW hS => ?_)
          refine lv_iinc (v := ((qd_ (th_ a 0) n i).2) + 1) (lv' := [(1, .int (((qd_ (th_ a 0) n i).2) + 1)), (0, .ref (ad_ w 20 0)), (2, .int (nI i))]) cx.1 cx.2.1 dX5_declare_34 hl (k := 1) rfl (by rw [lit1]) (by decide) rfl (fun ls hl => ?_)
          refine lv_iinc (v := nI (i + 1)) (lv' := [(2, .int (nI (i + 1))), (1, .int (((qd_ (th_ a 0) n i).2) + 1)), (0, .ref (ad_ w 20 0))]) cx.1 cx.2.1 dX5_declare_37 hl (k := 2) rfl (nI_inc i) (by decide) rfl (fun ls hl => ?_)
          refine lv_goto (tgt := 9) cx.1 cx.2.1 dX5_declare_40 (by decide) ?_
          exact ih9 (i + 1) (by omega) (by omega)  H locs ls (by rw [hE]; exact hW) hS (lv_sub (l' := [(0, .ref (ad_ w 20 0)), (1, .int ((qd_ (th_ a 0) n (i + 1)).2)), (2, .int (nI (i + 1)))]) hl [2, 1, 0] (by rw [hE]; rfl))
  exact L9 (k - 0 + 1) 0 (by omega) (by omega)  H locs ls hW hS (lv_sub hl [2, 1, 0] rfl)
set_option maxHeartbeats 4000000 in
set_option maxRecDepth 100000 in
theorem c_X5_told_ia (l : Launch) {w : Gh_} (hI : In_ w) (a : St_) (x y : Int32) (h : ¬ (jm_ x (gi_ a 21 0 0) ∧ ¬ y < 0 ∧ y ≤ 2)) : Fn_ l w yX5_told (.code yX5_told cX5_told 3 (some .long)) { frames := 1, cells := 0, slots := 0, locals := 21 } 0 0 [.ref (ad_ w 20 0), .int x, .int y] a (.inl (some (.long 0))) (th_ a 1) := by
  refine Fn_of hI (by decide +kernel) (Nat.le_of_ble_eq_true rfl) ?_
  intro zp ze zs zm zb zt zc ls cx hr hlk hno hW hS hl
  replace cx : Cx_ zp zs zm zc _ cX5_told 3 "MarginHouseModel" w := cx
  replace hl : lv_has ls 3 [(0, .ref (ad_ w 20 0)), (1, .int x), (2, .int y)] := hl
  obtain ⟨H, hH⟩ : ∃ H, zs.heap = H := ⟨_, rfl⟩
  rw [hH] at hW
  have hS : Fr_ w zs.heap H [] := by rw [← hH]; exact hS
  obtain ⟨locs, hlocs⟩ : ∃ x : List Loc, x = [] := ⟨_, rfl⟩
  rw [← hlocs] at hS ⊢
  rw [show W zp l ze _ zs zm _ zb zt zc zs.heap locs 0 0 _ (F0 zm 0 ls []) ↔ W zp l ze _ zs zm _ zb zt zc H locs 0 0 _ (F0 zm 0 ls []) from by rw [hH]]
  refine lv_aload_n cx.1 cx.2.1 dX5_told_0 rfl (lv_at hl 0 rfl) ?_
  refine lv_aload_n cx.1 cx.2.1 dX5_told_1 rfl (lv_at hl 0 rfl) ?_
  refine lv_iload_n cx.1 cx.2.1 dX5_told_2 rfl (lv_at hl 1 rfl) ?_
  refine ck_V (v := some (.int (if jm_ x (gi_ a 21 0 0) then 1 else 0))) (As := [.int x]) (rest := [.ref (ad_ w 20 0)]) (k := 20) (i := 0) (T := TX5) cx hW hS hl (by decide) rfl rfl (c_X5_isMember l hI a x) cw_X5_isMember nw_436 nw_542 nw_435 rfl rfl (Nat.le_of_ble_eq_true rfl) rfl rfl ⟨Nat.le_of_ble_eq_true rfl, Nat.le_of_ble_eq_true rfl⟩ ⟨Nat.le_of_ble_eq_true rfl, Nat.le_of_ble_eq_true rfl⟩ dX5_told_3 (fun H locs hW hS => ?_)
  refine W.eq (g2 := F0 zm 6 ls [.int (if jm_ x (gi_ a 21 0 0) then 1 else 0), .ref (ad_ w 20 0)]) rfl ?_
  refine lv_if_eq (tgt := 18) cx.1 cx.2.1 dX5_told_6 (by decide) (fun h6 => ?_) (fun h6 => ?_)
  · skip
    have h6 := bz_0 h6
    refine lv_iconst (v := 1) cx.1 cx.2.1 dX5_told_18 (by decide) ?_
    refine lv_goto (tgt := 23) cx.1 cx.2.1 dX5_told_19 (by decide) ?_
    refine pf_X5_62 cx hW hS (by decide) dX5_told_23 (fun H locs hW hS => ?_)
    replace hW : Hd_ w (th_ a 1) H := hW
    refine lv_aload_n cx.1 cx.2.1 dX5_told_26 rfl (lv_at hl 0 rfl) ?_
    refine gf_X5_62 cx hW (by decide) dX5_told_27 ?_
    refine tp_i (y := 1) (th_20 a _) ?_
    refine lv_if_le (tgt := 35) cx.1 cx.2.1 dX5_told_30 (by decide) (fun zz => absurd zz (by decide)) (fun h30 => ?_)
    refine lv_lconst (v := 0) cx.1 cx.2.1 dX5_told_33 (by decide) ?_
    exact cr_l cx hr hlk hW hS (Nat.le_of_ble_eq_true rfl) (Nat.le_of_ble_eq_true rfl) dX5_told_34 rfl rfl
  · skip
    have h6 := bz_1 h6
    refine lv_iload_n cx.1 cx.2.1 dX5_told_9 rfl (lv_at hl 2 rfl) ?_
    refine lv_if_lt (tgt := 18) cx.1 cx.2.1 dX5_told_10 (by decide) (fun h10 => ?_) (fun h10 => ?_)
    · skip
      refine lv_iconst (v := 1) cx.1 cx.2.1 dX5_told_18 (by decide) ?_
      refine lv_goto (tgt := 23) cx.1 cx.2.1 dX5_told_19 (by decide) ?_
      refine pf_X5_62 cx hW hS (by decide) dX5_told_23 (fun H locs hW hS => ?_)
      replace hW : Hd_ w (th_ a 1) H := hW
      refine lv_aload_n cx.1 cx.2.1 dX5_told_26 rfl (lv_at hl 0 rfl) ?_
      refine gf_X5_62 cx hW (by decide) dX5_told_27 ?_
      refine tp_i (y := 1) (th_20 a _) ?_
      refine lv_if_le (tgt := 35) cx.1 cx.2.1 dX5_told_30 (by decide) (fun zz => absurd zz (by decide)) (fun h30 => ?_)
      refine lv_lconst (v := 0) cx.1 cx.2.1 dX5_told_33 (by decide) ?_
      exact cr_l cx hr hlk hW hS (Nat.le_of_ble_eq_true rfl) (Nat.le_of_ble_eq_true rfl) dX5_told_34 rfl rfl
    · skip
      refine lv_iload_n cx.1 cx.2.1 dX5_told_13 rfl (lv_at hl 2 rfl) ?_
      refine lv_iconst (v := 2) cx.1 cx.2.1 dX5_told_14 (by decide) ?_
      refine lv_icmp_le (tgt := 22) cx.1 cx.2.1 dX5_told_15 (by decide) (fun h15 => ?_) (fun h15 => ?_)
      · skip
        exact absurd ⟨h6, h10, h15⟩ h
      · skip
        refine lv_iconst (v := 1) cx.1 cx.2.1 dX5_told_18 (by decide) ?_
        refine lv_goto (tgt := 23) cx.1 cx.2.1 dX5_told_19 (by decide) ?_
        refine pf_X5_62 cx hW hS (by decide) dX5_told_23 (fun H locs hW hS => ?_)
        replace hW : Hd_ w (th_ a 1) H := hW
        refine lv_aload_n cx.1 cx.2.1 dX5_told_26 rfl (lv_at hl 0 rfl) ?_
        refine gf_X5_62 cx hW (by decide) dX5_told_27 ?_
        refine tp_i (y := 1) (th_20 a _) ?_
        refine lv_if_le (tgt := 35) cx.1 cx.2.1 dX5_told_30 (by decide) (fun zz => absurd zz (by decide)) (fun h30 => ?_)
        refine lv_lconst (v := 0) cx.1 cx.2.1 dX5_told_33 (by decide) ?_
        exact cr_l cx hr hlk hW hS (Nat.le_of_ble_eq_true rfl) (Nat.le_of_ble_eq_true rfl) dX5_told_34 rfl rfl
set_option maxHeartbeats 4000000 in
set_option maxRecDepth 100000 in
theorem c_X5_told_0 (l : Launch) {w : Gh_} (hI : In_ w) (a : St_) (k : Nat) (hk : gi_ a 21 0 0 = nI k) (hk8 : k ≤ 8) (m : Nat) (hm : m < k) : Fn_ l w yX5_told (.code yX5_told cX5_told 3 (some .long)) { frames := 1, cells := 0, slots := 0, locals := 21 } 0 0 [.ref (ad_ w 20 0), .int (nI m), .int 0] a (.inl (some (.long ((gi_ a 23 0 m).toInt64)))) (th_ a 0) := by
  refine Fn_of hI (by decide +kernel) (Nat.le_of_ble_eq_true rfl) ?_
  intro zp ze zs zm zb zt zc ls cx hr hlk hno hW hS hl
  replace cx : Cx_ zp zs zm zc _ cX5_told 3 "MarginHouseModel" w := cx
  replace hl : lv_has ls 3 [(0, .ref (ad_ w 20 0)), (1, .int (nI m)), (2, .int 0)] := hl
  obtain ⟨H, hH⟩ : ∃ H, zs.heap = H := ⟨_, rfl⟩
  rw [hH] at hW
  have hS : Fr_ w zs.heap H [] := by rw [← hH]; exact hS
  obtain ⟨locs, hlocs⟩ : ∃ x : List Loc, x = [] := ⟨_, rfl⟩
  rw [← hlocs] at hS ⊢
  rw [show W zp l ze _ zs zm _ zb zt zc zs.heap locs 0 0 _ (F0 zm 0 ls []) ↔ W zp l ze _ zs zm _ zb zt zc H locs 0 0 _ (F0 zm 0 ls []) from by rw [hH]]
  refine lv_aload_n cx.1 cx.2.1 dX5_told_0 rfl (lv_at hl 0 rfl) ?_
  refine lv_aload_n cx.1 cx.2.1 dX5_told_1 rfl (lv_at hl 0 rfl) ?_
  refine lv_iload_n cx.1 cx.2.1 dX5_told_2 rfl (lv_at hl 1 rfl) ?_
  refine ck_V (v := some (.int (if jm_ (nI m) (gi_ a 21 0 0) then 1 else 0))) (As := [.int (nI m)]) (rest := [.ref (ad_ w 20 0)]) (k := 20) (i := 0) (T := TX5) cx hW hS hl (by decide) rfl rfl (c_X5_isMember l hI a (nI m)) cw_X5_isMember nw_436 nw_542 nw_435 rfl rfl (Nat.le_of_ble_eq_true rfl) rfl rfl ⟨Nat.le_of_ble_eq_true rfl, Nat.le_of_ble_eq_true rfl⟩ ⟨Nat.le_of_ble_eq_true rfl, Nat.le_of_ble_eq_true rfl⟩ dX5_told_3 (fun H locs hW hS => ?_)
  refine W.eq (g2 := F0 zm 6 ls [.int (if jm_ (nI m) (gi_ a 21 0 0) then 1 else 0), .ref (ad_ w 20 0)]) rfl ?_
  refine lv_if_eq (tgt := 18) cx.1 cx.2.1 dX5_told_6 (by decide) (fun zz => absurd zz (bz_t (jm_in hk (by omega) hm))) (fun h6 => ?_)
  refine lv_iload_n cx.1 cx.2.1 dX5_told_9 rfl (lv_at hl 2 rfl) ?_
  refine lv_if_lt (tgt := 18) cx.1 cx.2.1 dX5_told_10 (by decide) (fun zz => absurd zz (by decide)) (fun h10 => ?_)
  refine lv_iload_n cx.1 cx.2.1 dX5_told_13 rfl (lv_at hl 2 rfl) ?_
  refine lv_iconst (v := 2) cx.1 cx.2.1 dX5_told_14 (by decide) ?_
  refine lv_icmp_le (tgt := 22) cx.1 cx.2.1 dX5_told_15 (by decide) (fun h15 => ?_) (fun zz => absurd (by decide) zz)
  refine lv_iconst (v := 0) cx.1 cx.2.1 dX5_told_22 (by decide) ?_
  refine pf_X5_62 cx hW hS (by decide) dX5_told_23 (fun H locs hW hS => ?_)
  replace hW : Hd_ w (th_ a 0) H := hW
  refine lv_aload_n cx.1 cx.2.1 dX5_told_26 rfl (lv_at hl 0 rfl) ?_
  refine gf_X5_62 cx hW (by decide) dX5_told_27 ?_
  refine tp_i (y := 0) (th_20 a _) ?_
  refine lv_if_le (tgt := 35) cx.1 cx.2.1 dX5_told_30 (by decide) (fun h30 => ?_) (fun zz => absurd (by decide) zz)
  refine lv_iload_n cx.1 cx.2.1 dX5_told_35 rfl (lv_at hl 2 rfl) ?_
  refine lv_if_ne (tgt := 49) cx.1 cx.2.1 dX5_told_36 (by decide) (fun zz => absurd rfl zz) (fun h36 => ?_)
  refine lv_aload_n cx.1 cx.2.1 dX5_told_39 rfl (lv_at hl 0 rfl) ?_
  refine gf_X5_16 cx hW (by decide) dX5_told_40 ?_
  refine lv_iload_n cx.1 cx.2.1 dX5_told_43 rfl (lv_at hl 1 rfl) ?_
  refine al_23 (j := m) cx hW (by decide) rfl (by omega) dX5_told_44 ?_
  refine lv_i2l (v := (gi_ (th_ a 0) 23 0 m).toInt64) cx.1 cx.2.1 dX5_told_45 rfl ?_
  refine lv_goto (tgt := 69) cx.1 cx.2.1 dX5_told_46 (by decide) ?_
  exact cr_l cx hr hlk hW hS (Nat.le_of_ble_eq_true rfl) (Nat.le_of_ble_eq_true rfl) dX5_told_69 rfl rfl
set_option maxHeartbeats 4000000 in
set_option maxRecDepth 100000 in
theorem c_X5_told_1 (l : Launch) {w : Gh_} (hI : In_ w) (a : St_) (k : Nat) (hk : gi_ a 21 0 0 = nI k) (hk8 : k ≤ 8) (m : Nat) (hm : m < k) : Fn_ l w yX5_told (.code yX5_told cX5_told 3 (some .long)) { frames := 1, cells := 0, slots := 0, locals := 21 } 0 0 [.ref (ad_ w 20 0), .int (nI m), .int 1] a (.inl (some (.long (gl_ a 20 0 m)))) (th_ a 0) := by
  refine Fn_of hI (by decide +kernel) (Nat.le_of_ble_eq_true rfl) ?_
  intro zp ze zs zm zb zt zc ls cx hr hlk hno hW hS hl
  replace cx : Cx_ zp zs zm zc _ cX5_told 3 "MarginHouseModel" w := cx
  replace hl : lv_has ls 3 [(0, .ref (ad_ w 20 0)), (1, .int (nI m)), (2, .int 1)] := hl
  obtain ⟨H, hH⟩ : ∃ H, zs.heap = H := ⟨_, rfl⟩
  rw [hH] at hW
  have hS : Fr_ w zs.heap H [] := by rw [← hH]; exact hS
  obtain ⟨locs, hlocs⟩ : ∃ x : List Loc, x = [] := ⟨_, rfl⟩
  rw [← hlocs] at hS ⊢
  rw [show W zp l ze _ zs zm _ zb zt zc zs.heap locs 0 0 _ (F0 zm 0 ls []) ↔ W zp l ze _ zs zm _ zb zt zc H locs 0 0 _ (F0 zm 0 ls []) from by rw [hH]]
  refine lv_aload_n cx.1 cx.2.1 dX5_told_0 rfl (lv_at hl 0 rfl) ?_
  refine lv_aload_n cx.1 cx.2.1 dX5_told_1 rfl (lv_at hl 0 rfl) ?_
  refine lv_iload_n cx.1 cx.2.1 dX5_told_2 rfl (lv_at hl 1 rfl) ?_
  refine ck_V (v := some (.int (if jm_ (nI m) (gi_ a 21 0 0) then 1 else 0))) (As := [.int (nI m)]) (rest := [.ref (ad_ w 20 0)]) (k := 20) (i := 0) (T := TX5) cx hW hS hl (by decide) rfl rfl (c_X5_isMember l hI a (nI m)) cw_X5_isMember nw_436 nw_542 nw_435 rfl rfl (Nat.le_of_ble_eq_true rfl) rfl rfl ⟨Nat.le_of_ble_eq_true rfl, Nat.le_of_ble_eq_true rfl⟩ ⟨Nat.le_of_ble_eq_true rfl, Nat.le_of_ble_eq_true rfl⟩ dX5_told_3 (fun H locs hW hS => ?_)
  refine W.eq (g2 := F0 zm 6 ls [.int (if jm_ (nI m) (gi_ a 21 0 0) then 1 else 0), .ref (ad_ w 20 0)]) rfl ?_
  refine lv_if_eq (tgt := 18) cx.1 cx.2.1 dX5_told_6 (by decide) (fun zz => absurd zz (bz_t (jm_in hk (by omega) hm))) (fun h6 => ?_)
  refine lv_iload_n cx.1 cx.2.1 dX5_told_9 rfl (lv_at hl 2 rfl) ?_
  refine lv_if_lt (tgt := 18) cx.1 cx.2.1 dX5_told_10 (by decide) (fun zz => absurd zz (by decide)) (fun h10 => ?_)
  refine lv_iload_n cx.1 cx.2.1 dX5_told_13 rfl (lv_at hl 2 rfl) ?_
  refine lv_iconst (v := 2) cx.1 cx.2.1 dX5_told_14 (by decide) ?_
  refine lv_icmp_le (tgt := 22) cx.1 cx.2.1 dX5_told_15 (by decide) (fun h15 => ?_) (fun zz => absurd (by decide) zz)
  refine lv_iconst (v := 0) cx.1 cx.2.1 dX5_told_22 (by decide) ?_
  refine pf_X5_62 cx hW hS (by decide) dX5_told_23 (fun H locs hW hS => ?_)
  replace hW : Hd_ w (th_ a 0) H := hW
  refine lv_aload_n cx.1 cx.2.1 dX5_told_26 rfl (lv_at hl 0 rfl) ?_
  refine gf_X5_62 cx hW (by decide) dX5_told_27 ?_
  refine tp_i (y := 0) (th_20 a _) ?_
  refine lv_if_le (tgt := 35) cx.1 cx.2.1 dX5_told_30 (by decide) (fun h30 => ?_) (fun zz => absurd (by decide) zz)
  refine lv_iload_n cx.1 cx.2.1 dX5_told_35 rfl (lv_at hl 2 rfl) ?_
  refine lv_if_ne (tgt := 49) cx.1 cx.2.1 dX5_told_36 (by decide) (fun h36 => ?_) (fun zz => absurd zz (by decide))
  refine lv_iload_n cx.1 cx.2.1 dX5_told_49 rfl (lv_at hl 2 rfl) ?_
  refine lv_iconst (v := 1) cx.1 cx.2.1 dX5_told_50 (by decide) ?_
  refine lv_icmp_ne (tgt := 63) cx.1 cx.2.1 dX5_told_51 (by decide) (fun zz => absurd rfl zz) (fun h51 => ?_)
  refine lv_aload_n cx.1 cx.2.1 dX5_told_54 rfl (lv_at hl 0 rfl) ?_
  refine gf_X5_7 cx hW (by decide) dX5_told_55 ?_
  refine lv_iload_n cx.1 cx.2.1 dX5_told_58 rfl (lv_at hl 1 rfl) ?_
  refine al_21 (j := m) cx hW (by decide) rfl (by omega) dX5_told_59 ?_
  refine lv_goto (tgt := 69) cx.1 cx.2.1 dX5_told_60 (by decide) ?_
  exact cr_l cx hr hlk hW hS (Nat.le_of_ble_eq_true rfl) (Nat.le_of_ble_eq_true rfl) dX5_told_69 rfl rfl
set_option maxHeartbeats 4000000 in
set_option maxRecDepth 100000 in
theorem c_X5_told_2 (l : Launch) {w : Gh_} (hI : In_ w) (a : St_) (k : Nat) (hk : gi_ a 21 0 0 = nI k) (hk8 : k ≤ 8) (m : Nat) (hm : m < k) : Fn_ l w yX5_told (.code yX5_told cX5_told 3 (some .long)) { frames := 1, cells := 0, slots := 0, locals := 21 } 0 0 [.ref (ad_ w 20 0), .int (nI m), .int 2] a (.inl (some (.long (gl_ a 21 0 m)))) (th_ a 0) := by
  refine Fn_of hI (by decide +kernel) (Nat.le_of_ble_eq_true rfl) ?_
  intro zp ze zs zm zb zt zc ls cx hr hlk hno hW hS hl
  replace cx : Cx_ zp zs zm zc _ cX5_told 3 "MarginHouseModel" w := cx
  replace hl : lv_has ls 3 [(0, .ref (ad_ w 20 0)), (1, .int (nI m)), (2, .int 2)] := hl
  obtain ⟨H, hH⟩ : ∃ H, zs.heap = H := ⟨_, rfl⟩
  rw [hH] at hW
  have hS : Fr_ w zs.heap H [] := by rw [← hH]; exact hS
  obtain ⟨locs, hlocs⟩ : ∃ x : List Loc, x = [] := ⟨_, rfl⟩
  rw [← hlocs] at hS ⊢
  rw [show W zp l ze _ zs zm _ zb zt zc zs.heap locs 0 0 _ (F0 zm 0 ls []) ↔ W zp l ze _ zs zm _ zb zt zc H locs 0 0 _ (F0 zm 0 ls []) from by rw [hH]]
  refine lv_aload_n cx.1 cx.2.1 dX5_told_0 rfl (lv_at hl 0 rfl) ?_
  refine lv_aload_n cx.1 cx.2.1 dX5_told_1 rfl (lv_at hl 0 rfl) ?_
  refine lv_iload_n cx.1 cx.2.1 dX5_told_2 rfl (lv_at hl 1 rfl) ?_
  refine ck_V (v := some (.int (if jm_ (nI m) (gi_ a 21 0 0) then 1 else 0))) (As := [.int (nI m)]) (rest := [.ref (ad_ w 20 0)]) (k := 20) (i := 0) (T := TX5) cx hW hS hl (by decide) rfl rfl (c_X5_isMember l hI a (nI m)) cw_X5_isMember nw_436 nw_542 nw_435 rfl rfl (Nat.le_of_ble_eq_true rfl) rfl rfl ⟨Nat.le_of_ble_eq_true rfl, Nat.le_of_ble_eq_true rfl⟩ ⟨Nat.le_of_ble_eq_true rfl, Nat.le_of_ble_eq_true rfl⟩ dX5_told_3 (fun H locs hW hS => ?_)
  refine W.eq (g2 := F0 zm 6 ls [.int (if jm_ (nI m) (gi_ a 21 0 0) then 1 else 0), .ref (ad_ w 20 0)]) rfl ?_
  refine lv_if_eq (tgt := 18) cx.1 cx.2.1 dX5_told_6 (by decide) (fun zz => absurd zz (bz_t (jm_in hk (by omega) hm))) (fun h6 => ?_)
  refine lv_iload_n cx.1 cx.2.1 dX5_told_9 rfl (lv_at hl 2 rfl) ?_
  refine lv_if_lt (tgt := 18) cx.1 cx.2.1 dX5_told_10 (by decide) (fun zz => absurd zz (by decide)) (fun h10 => ?_)
  refine lv_iload_n cx.1 cx.2.1 dX5_told_13 rfl (lv_at hl 2 rfl) ?_
  refine lv_iconst (v := 2) cx.1 cx.2.1 dX5_told_14 (by decide) ?_
  refine lv_icmp_le (tgt := 22) cx.1 cx.2.1 dX5_told_15 (by decide) (fun h15 => ?_) (fun zz => absurd (by decide) zz)
  refine lv_iconst (v := 0) cx.1 cx.2.1 dX5_told_22 (by decide) ?_
  refine pf_X5_62 cx hW hS (by decide) dX5_told_23 (fun H locs hW hS => ?_)
  replace hW : Hd_ w (th_ a 0) H := hW
  refine lv_aload_n cx.1 cx.2.1 dX5_told_26 rfl (lv_at hl 0 rfl) ?_
  refine gf_X5_62 cx hW (by decide) dX5_told_27 ?_
  refine tp_i (y := 0) (th_20 a _) ?_
  refine lv_if_le (tgt := 35) cx.1 cx.2.1 dX5_told_30 (by decide) (fun h30 => ?_) (fun zz => absurd (by decide) zz)
  refine lv_iload_n cx.1 cx.2.1 dX5_told_35 rfl (lv_at hl 2 rfl) ?_
  refine lv_if_ne (tgt := 49) cx.1 cx.2.1 dX5_told_36 (by decide) (fun h36 => ?_) (fun zz => absurd zz (by decide))
  refine lv_iload_n cx.1 cx.2.1 dX5_told_49 rfl (lv_at hl 2 rfl) ?_
  refine lv_iconst (v := 1) cx.1 cx.2.1 dX5_told_50 (by decide) ?_
  refine lv_icmp_ne (tgt := 63) cx.1 cx.2.1 dX5_told_51 (by decide) (fun h51 => ?_) (fun zz => absurd zz (by decide))
  refine lv_aload_n cx.1 cx.2.1 dX5_told_63 rfl (lv_at hl 0 rfl) ?_
  refine gf_X5_13 cx hW (by decide) dX5_told_64 ?_
  refine lv_iload_n cx.1 cx.2.1 dX5_told_67 rfl (lv_at hl 1 rfl) ?_
  refine al_22 (j := m) cx hW (by decide) rfl (by omega) dX5_told_68 ?_
  exact cr_l cx hr hlk hW hS (Nat.le_of_ble_eq_true rfl) (Nat.le_of_ble_eq_true rfl) dX5_told_69 rfl rfl
set_option maxHeartbeats 4000000 in
set_option maxRecDepth 100000 in
theorem c_X5_position_ia (l : Launch) {w : Gh_} (hI : In_ w) (a : St_) (x y : Int32) (h : ¬ (jm_ x (gi_ a 21 0 0) ∧ jm_ y (gi_ a 22 0 0))) : Fn_ l w yX5_position (.code yX5_position cX5_position 3 (some .int)) { frames := 1, cells := 0, slots := 0, locals := 21 } 0 0 [.ref (ad_ w 20 0), .int x, .int y] a (.inl (some (.int 0))) (th_ a 1) := by
  refine Fn_of hI (by decide +kernel) (Nat.le_of_ble_eq_true rfl) ?_
  intro zp ze zs zm zb zt zc ls cx hr hlk hno hW hS hl
  replace cx : Cx_ zp zs zm zc _ cX5_position 3 "MarginHouseModel" w := cx
  replace hl : lv_has ls 3 [(0, .ref (ad_ w 20 0)), (1, .int x), (2, .int y)] := hl
  obtain ⟨H, hH⟩ : ∃ H, zs.heap = H := ⟨_, rfl⟩
  rw [hH] at hW
  have hS : Fr_ w zs.heap H [] := by rw [← hH]; exact hS
  obtain ⟨locs, hlocs⟩ : ∃ x : List Loc, x = [] := ⟨_, rfl⟩
  rw [← hlocs] at hS ⊢
  rw [show W zp l ze _ zs zm _ zb zt zc zs.heap locs 0 0 _ (F0 zm 0 ls []) ↔ W zp l ze _ zs zm _ zb zt zc H locs 0 0 _ (F0 zm 0 ls []) from by rw [hH]]
  refine lv_aload_n cx.1 cx.2.1 dX5_position_0 rfl (lv_at hl 0 rfl) ?_
  refine lv_aload_n cx.1 cx.2.1 dX5_position_1 rfl (lv_at hl 0 rfl) ?_
  refine lv_iload_n cx.1 cx.2.1 dX5_position_2 rfl (lv_at hl 1 rfl) ?_
  refine ck_V (v := some (.int (if jm_ x (gi_ a 21 0 0) then 1 else 0))) (As := [.int x]) (rest := [.ref (ad_ w 20 0)]) (k := 20) (i := 0) (T := TX5) cx hW hS hl (by decide) rfl rfl (c_X5_isMember l hI a x) cw_X5_isMember nw_436 nw_542 nw_435 rfl rfl (Nat.le_of_ble_eq_true rfl) rfl rfl ⟨Nat.le_of_ble_eq_true rfl, Nat.le_of_ble_eq_true rfl⟩ ⟨Nat.le_of_ble_eq_true rfl, Nat.le_of_ble_eq_true rfl⟩ dX5_position_3 (fun H locs hW hS => ?_)
  refine W.eq (g2 := F0 zm 6 ls [.int (if jm_ x (gi_ a 21 0 0) then 1 else 0), .ref (ad_ w 20 0)]) rfl ?_
  refine lv_if_eq (tgt := 17) cx.1 cx.2.1 dX5_position_6 (by decide) (fun h6 => ?_) (fun h6 => ?_)
  · skip
    have h6 := bz_0 h6
    refine lv_iconst (v := 1) cx.1 cx.2.1 dX5_position_17 (by decide) ?_
    refine lv_goto (tgt := 22) cx.1 cx.2.1 dX5_position_18 (by decide) ?_
    refine pf_X5_62 cx hW hS (by decide) dX5_position_22 (fun H locs hW hS => ?_)
    replace hW : Hd_ w (th_ a 1) H := hW
    refine lv_aload_n cx.1 cx.2.1 dX5_position_25 rfl (lv_at hl 0 rfl) ?_
    refine gf_X5_62 cx hW (by decide) dX5_position_26 ?_
    refine tp_i (y := 1) (th_20 a _) ?_
    refine lv_if_le (tgt := 36) cx.1 cx.2.1 dX5_position_29 (by decide) (fun zz => absurd zz (by decide)) (fun h29 => ?_)
    refine lv_iconst (v := 0) cx.1 cx.2.1 dX5_position_32 (by decide) ?_
    refine lv_goto (tgt := 47) cx.1 cx.2.1 dX5_position_33 (by decide) ?_
    exact cr_i cx hr hlk hW hS (Nat.le_of_ble_eq_true rfl) (Nat.le_of_ble_eq_true rfl) dX5_position_47 rfl rfl
  · skip
    have h6 := bz_1 h6
    refine lv_aload_n cx.1 cx.2.1 dX5_position_9 rfl (lv_at hl 0 rfl) ?_
    refine lv_iload_n cx.1 cx.2.1 dX5_position_10 rfl (lv_at hl 2 rfl) ?_
    refine ck_V (v := some (.int (if jm_ y (gi_ a 22 0 0) then 1 else 0))) (As := [.int y]) (rest := [.ref (ad_ w 20 0)]) (k := 20) (i := 0) (T := TX5) cx hW hS hl (by decide) rfl rfl (c_X5_isInstrument l hI a y) cw_X5_isInstrument nw_428 nw_541 nw_427 rfl rfl (Nat.le_of_ble_eq_true rfl) rfl rfl ⟨Nat.le_of_ble_eq_true rfl, Nat.le_of_ble_eq_true rfl⟩ ⟨Nat.le_of_ble_eq_true rfl, Nat.le_of_ble_eq_true rfl⟩ dX5_position_11 (fun H locs hW hS => ?_)
    refine W.eq (g2 := F0 zm 14 ls [.int (if jm_ y (gi_ a 22 0 0) then 1 else 0), .ref (ad_ w 20 0)]) rfl ?_
    refine lv_if_ne (tgt := 21) cx.1 cx.2.1 dX5_position_14 (by decide) (fun h14 => ?_) (fun h14 => ?_)
    · skip
      have h14 := bz_1 h14
      exact absurd ⟨h6, h14⟩ h
    · skip
      have h14 := bz_0 h14
      refine lv_iconst (v := 1) cx.1 cx.2.1 dX5_position_17 (by decide) ?_
      refine lv_goto (tgt := 22) cx.1 cx.2.1 dX5_position_18 (by decide) ?_
      refine pf_X5_62 cx hW hS (by decide) dX5_position_22 (fun H locs hW hS => ?_)
      replace hW : Hd_ w (th_ a 1) H := hW
      refine lv_aload_n cx.1 cx.2.1 dX5_position_25 rfl (lv_at hl 0 rfl) ?_
      refine gf_X5_62 cx hW (by decide) dX5_position_26 ?_
      refine tp_i (y := 1) (th_20 a _) ?_
      refine lv_if_le (tgt := 36) cx.1 cx.2.1 dX5_position_29 (by decide) (fun zz => absurd zz (by decide)) (fun h29 => ?_)
      refine lv_iconst (v := 0) cx.1 cx.2.1 dX5_position_32 (by decide) ?_
      refine lv_goto (tgt := 47) cx.1 cx.2.1 dX5_position_33 (by decide) ?_
      exact cr_i cx hr hlk hW hS (Nat.le_of_ble_eq_true rfl) (Nat.le_of_ble_eq_true rfl) dX5_position_47 rfl rfl
set_option maxHeartbeats 4000000 in
set_option maxRecDepth 100000 in
theorem c_X5_position_ok (l : Launch) {w : Gh_} (hI : In_ w) (a : St_) (k : Nat) (hk : gi_ a 21 0 0 = nI k) (hk8 : k ≤ 8) (n : Nat) (hn : gi_ a 22 0 0 = nI n) (hn6 : n ≤ 6) (m j : Nat) (hm : m < k) (hj : j < n) : Fn_ l w yX5_position (.code yX5_position cX5_position 3 (some .int)) { frames := 1, cells := 0, slots := 0, locals := 21 } 0 0 [.ref (ad_ w 20 0), .int (nI m), .int (nI j)] a (.inl (some (.int (gi_ a 24 0 (6 * m + j))))) (th_ a 0) := by
  refine Fn_of hI (by decide +kernel) (Nat.le_of_ble_eq_true rfl) ?_
  intro zp ze zs zm zb zt zc ls cx hr hlk hno hW hS hl
  replace cx : Cx_ zp zs zm zc _ cX5_position 3 "MarginHouseModel" w := cx
  replace hl : lv_has ls 3 [(0, .ref (ad_ w 20 0)), (1, .int (nI m)), (2, .int (nI j))] := hl
  obtain ⟨H, hH⟩ : ∃ H, zs.heap = H := ⟨_, rfl⟩
  rw [hH] at hW
  have hS : Fr_ w zs.heap H [] := by rw [← hH]; exact hS
  obtain ⟨locs, hlocs⟩ : ∃ x : List Loc, x = [] := ⟨_, rfl⟩
  rw [← hlocs] at hS ⊢
  rw [show W zp l ze _ zs zm _ zb zt zc zs.heap locs 0 0 _ (F0 zm 0 ls []) ↔ W zp l ze _ zs zm _ zb zt zc H locs 0 0 _ (F0 zm 0 ls []) from by rw [hH]]
  refine lv_aload_n cx.1 cx.2.1 dX5_position_0 rfl (lv_at hl 0 rfl) ?_
  refine lv_aload_n cx.1 cx.2.1 dX5_position_1 rfl (lv_at hl 0 rfl) ?_
  refine lv_iload_n cx.1 cx.2.1 dX5_position_2 rfl (lv_at hl 1 rfl) ?_
  refine ck_V (v := some (.int (if jm_ (nI m) (gi_ a 21 0 0) then 1 else 0))) (As := [.int (nI m)]) (rest := [.ref (ad_ w 20 0)]) (k := 20) (i := 0) (T := TX5) cx hW hS hl (by decide) rfl rfl (c_X5_isMember l hI a (nI m)) cw_X5_isMember nw_436 nw_542 nw_435 rfl rfl (Nat.le_of_ble_eq_true rfl) rfl rfl ⟨Nat.le_of_ble_eq_true rfl, Nat.le_of_ble_eq_true rfl⟩ ⟨Nat.le_of_ble_eq_true rfl, Nat.le_of_ble_eq_true rfl⟩ dX5_position_3 (fun H locs hW hS => ?_)
  refine W.eq (g2 := F0 zm 6 ls [.int (if jm_ (nI m) (gi_ a 21 0 0) then 1 else 0), .ref (ad_ w 20 0)]) rfl ?_
  refine lv_if_eq (tgt := 17) cx.1 cx.2.1 dX5_position_6 (by decide) (fun zz => absurd zz (bz_t (jm_in hk (by omega) hm))) (fun h6 => ?_)
  refine lv_aload_n cx.1 cx.2.1 dX5_position_9 rfl (lv_at hl 0 rfl) ?_
  refine lv_iload_n cx.1 cx.2.1 dX5_position_10 rfl (lv_at hl 2 rfl) ?_
  refine ck_V (v := some (.int (if jm_ (nI j) (gi_ a 22 0 0) then 1 else 0))) (As := [.int (nI j)]) (rest := [.ref (ad_ w 20 0)]) (k := 20) (i := 0) (T := TX5) cx hW hS hl (by decide) rfl rfl (c_X5_isInstrument l hI a (nI j)) cw_X5_isInstrument nw_428 nw_541 nw_427 rfl rfl (Nat.le_of_ble_eq_true rfl) rfl rfl ⟨Nat.le_of_ble_eq_true rfl, Nat.le_of_ble_eq_true rfl⟩ ⟨Nat.le_of_ble_eq_true rfl, Nat.le_of_ble_eq_true rfl⟩ dX5_position_11 (fun H locs hW hS => ?_)
  refine W.eq (g2 := F0 zm 14 ls [.int (if jm_ (nI j) (gi_ a 22 0 0) then 1 else 0), .ref (ad_ w 20 0)]) rfl ?_
  refine lv_if_ne (tgt := 21) cx.1 cx.2.1 dX5_position_14 (by decide) (fun h14 => ?_) (fun zz => absurd zz (bz_t (jm_in hn (by omega) hj)))
  refine lv_iconst (v := 0) cx.1 cx.2.1 dX5_position_21 (by decide) ?_
  refine pf_X5_62 cx hW hS (by decide) dX5_position_22 (fun H locs hW hS => ?_)
  replace hW : Hd_ w (th_ a 0) H := hW
  refine lv_aload_n cx.1 cx.2.1 dX5_position_25 rfl (lv_at hl 0 rfl) ?_
  refine gf_X5_62 cx hW (by decide) dX5_position_26 ?_
  refine tp_i (y := 0) (th_20 a _) ?_
  refine lv_if_le (tgt := 36) cx.1 cx.2.1 dX5_position_29 (by decide) (fun h29 => ?_) (fun zz => absurd (by decide) zz)
  refine lv_aload_n cx.1 cx.2.1 dX5_position_36 rfl (lv_at hl 0 rfl) ?_
  refine gf_X5_20 cx hW (by decide) dX5_position_37 ?_
  refine lv_bipush (v := 6) cx.1 cx.2.1 dX5_position_40 (by decide) ?_
  refine lv_iload_n cx.1 cx.2.1 dX5_position_42 rfl (lv_at hl 1 rfl) ?_
  refine lv_imul cx.1 cx.2.1 dX5_position_43 ?_
  refine lv_iload_n cx.1 cx.2.1 dX5_position_44 rfl (lv_at hl 2 rfl) ?_
  refine lv_iadd cx.1 cx.2.1 dX5_position_45 ?_
  refine al_24 (j := 6 * m + j) cx hW (by decide) (n6_ m j) (by omega) dX5_position_46 ?_
  exact cr_i cx hr hlk hW hS (Nat.le_of_ble_eq_true rfl) (Nat.le_of_ble_eq_true rfl) dX5_position_47 rfl rfl
set_option maxHeartbeats 4000000 in
set_option maxRecDepth 100000 in
theorem c_X5_bore_ia (l : Launch) {w : Gh_} (hI : In_ w) (a : St_) (x : Int32) (h : ¬ (¬ x < 0 ∧ x ≤ 4)) : Fn_ l w yX5_bore (.code yX5_bore cX5_bore 2 (some .long)) { frames := 0, cells := 0, slots := 0, locals := 0 } 0 0 [.ref (ad_ w 20 0), .int x] a (.inl (some (.long 0))) (th_ a 1) := by
  refine Fn_of hI (by decide +kernel) (Nat.le_of_ble_eq_true rfl) ?_
  intro zp ze zs zm zb zt zc ls cx hr hlk hno hW hS hl
  replace cx : Cx_ zp zs zm zc _ cX5_bore 2 "MarginHouseModel" w := cx
  replace hl : lv_has ls 2 [(0, .ref (ad_ w 20 0)), (1, .int x)] := hl
  obtain ⟨H, hH⟩ : ∃ H, zs.heap = H := ⟨_, rfl⟩
  rw [hH] at hW
  have hS : Fr_ w zs.heap H [] := by rw [← hH]; exact hS
  obtain ⟨locs, hlocs⟩ : ∃ x : List Loc, x = [] := ⟨_, rfl⟩
  rw [← hlocs] at hS ⊢
  rw [show W zp l ze _ zs zm _ zb zt zc zs.heap locs 0 0 _ (F0 zm 0 ls []) ↔ W zp l ze _ zs zm _ zb zt zc H locs 0 0 _ (F0 zm 0 ls []) from by rw [hH]]
  refine lv_aload_n cx.1 cx.2.1 dX5_bore_0 rfl (lv_at hl 0 rfl) ?_
  refine lv_iload_n cx.1 cx.2.1 dX5_bore_1 rfl (lv_at hl 1 rfl) ?_
  refine lv_if_lt (tgt := 10) cx.1 cx.2.1 dX5_bore_2 (by decide) (fun h2 => ?_) (fun h2 => ?_)
  · skip
    refine lv_iconst (v := 1) cx.1 cx.2.1 dX5_bore_10 (by decide) ?_
    refine lv_goto (tgt := 15) cx.1 cx.2.1 dX5_bore_11 (by decide) ?_
    refine pf_X5_62 cx hW hS (by decide) dX5_bore_15 (fun H locs hW hS => ?_)
    replace hW : Hd_ w (th_ a 1) H := hW
    refine lv_aload_n cx.1 cx.2.1 dX5_bore_18 rfl (lv_at hl 0 rfl) ?_
    refine gf_X5_62 cx hW (by decide) dX5_bore_19 ?_
    refine tp_i (y := 1) (th_20 a _) ?_
    refine lv_if_le (tgt := 29) cx.1 cx.2.1 dX5_bore_22 (by decide) (fun zz => absurd zz (by decide)) (fun h22 => ?_)
    refine lv_lconst (v := 0) cx.1 cx.2.1 dX5_bore_25 (by decide) ?_
    refine lv_goto (tgt := 35) cx.1 cx.2.1 dX5_bore_26 (by decide) ?_
    exact cr_l cx hr hlk hW hS (Nat.le_of_ble_eq_true rfl) (Nat.le_of_ble_eq_true rfl) dX5_bore_35 rfl rfl
  · skip
    refine lv_iload_n cx.1 cx.2.1 dX5_bore_5 rfl (lv_at hl 1 rfl) ?_
    refine lv_iconst (v := 4) cx.1 cx.2.1 dX5_bore_6 (by decide) ?_
    refine lv_icmp_le (tgt := 14) cx.1 cx.2.1 dX5_bore_7 (by decide) (fun h7 => ?_) (fun h7 => ?_)
    · skip
      exact absurd ⟨h2, h7⟩ h
    · skip
      refine lv_iconst (v := 1) cx.1 cx.2.1 dX5_bore_10 (by decide) ?_
      refine lv_goto (tgt := 15) cx.1 cx.2.1 dX5_bore_11 (by decide) ?_
      refine pf_X5_62 cx hW hS (by decide) dX5_bore_15 (fun H locs hW hS => ?_)
      replace hW : Hd_ w (th_ a 1) H := hW
      refine lv_aload_n cx.1 cx.2.1 dX5_bore_18 rfl (lv_at hl 0 rfl) ?_
      refine gf_X5_62 cx hW (by decide) dX5_bore_19 ?_
      refine tp_i (y := 1) (th_20 a _) ?_
      refine lv_if_le (tgt := 29) cx.1 cx.2.1 dX5_bore_22 (by decide) (fun zz => absurd zz (by decide)) (fun h22 => ?_)
      refine lv_lconst (v := 0) cx.1 cx.2.1 dX5_bore_25 (by decide) ?_
      refine lv_goto (tgt := 35) cx.1 cx.2.1 dX5_bore_26 (by decide) ?_
      exact cr_l cx hr hlk hW hS (Nat.le_of_ble_eq_true rfl) (Nat.le_of_ble_eq_true rfl) dX5_bore_35 rfl rfl
set_option maxHeartbeats 4000000 in
set_option maxRecDepth 100000 in
theorem c_X5_bore_ok (l : Launch) {w : Gh_} (hI : In_ w) (a : St_) (j : Nat) (hj : j < 5) : Fn_ l w yX5_bore (.code yX5_bore cX5_bore 2 (some .long)) { frames := 0, cells := 0, slots := 0, locals := 0 } 0 0 [.ref (ad_ w 20 0), .int (nI j)] a (.inl (some (.long (gl_ a 25 0 j)))) (th_ a 0) := by
  refine Fn_of hI (by decide +kernel) (Nat.le_of_ble_eq_true rfl) ?_
  intro zp ze zs zm zb zt zc ls cx hr hlk hno hW hS hl
  replace cx : Cx_ zp zs zm zc _ cX5_bore 2 "MarginHouseModel" w := cx
  replace hl : lv_has ls 2 [(0, .ref (ad_ w 20 0)), (1, .int (nI j))] := hl
  obtain ⟨H, hH⟩ : ∃ H, zs.heap = H := ⟨_, rfl⟩
  rw [hH] at hW
  have hS : Fr_ w zs.heap H [] := by rw [← hH]; exact hS
  obtain ⟨locs, hlocs⟩ : ∃ x : List Loc, x = [] := ⟨_, rfl⟩
  rw [← hlocs] at hS ⊢
  rw [show W zp l ze _ zs zm _ zb zt zc zs.heap locs 0 0 _ (F0 zm 0 ls []) ↔ W zp l ze _ zs zm _ zb zt zc H locs 0 0 _ (F0 zm 0 ls []) from by rw [hH]]
  refine lv_aload_n cx.1 cx.2.1 dX5_bore_0 rfl (lv_at hl 0 rfl) ?_
  refine lv_iload_n cx.1 cx.2.1 dX5_bore_1 rfl (lv_at hl 1 rfl) ?_
  refine lv_if_lt (tgt := 10) cx.1 cx.2.1 dX5_bore_2 (by decide) (fun zz => absurd zz (nI_pos (by omega))) (fun h2 => ?_)
  refine lv_iload_n cx.1 cx.2.1 dX5_bore_5 rfl (lv_at hl 1 rfl) ?_
  refine lv_iconst (v := 4) cx.1 cx.2.1 dX5_bore_6 (by decide) ?_
  refine lv_icmp_le (tgt := 14) cx.1 cx.2.1 dX5_bore_7 (by decide) (fun h7 => ?_) (fun zz => absurd (by rw [show (4 : Int32) = nI 4 by decide +kernel]; exact nI_le (by omega) (by omega)) zz)
  refine lv_iconst (v := 0) cx.1 cx.2.1 dX5_bore_14 (by decide) ?_
  refine pf_X5_62 cx hW hS (by decide) dX5_bore_15 (fun H locs hW hS => ?_)
  replace hW : Hd_ w (th_ a 0) H := hW
  refine lv_aload_n cx.1 cx.2.1 dX5_bore_18 rfl (lv_at hl 0 rfl) ?_
  refine gf_X5_62 cx hW (by decide) dX5_bore_19 ?_
  refine tp_i (y := 0) (th_20 a _) ?_
  refine lv_if_le (tgt := 29) cx.1 cx.2.1 dX5_bore_22 (by decide) (fun h22 => ?_) (fun zz => absurd (by decide) zz)
  refine lv_aload_n cx.1 cx.2.1 dX5_bore_29 rfl (lv_at hl 0 rfl) ?_
  refine gf_X5_38 cx hW (by decide) dX5_bore_30 ?_
  refine lv_iload_n cx.1 cx.2.1 dX5_bore_33 rfl (lv_at hl 1 rfl) ?_
  refine al_30 (j := j) cx hW (by decide) rfl (by omega) dX5_bore_34 ?_
  exact cr_l cx hr hlk hW hS (Nat.le_of_ble_eq_true rfl) (Nat.le_of_ble_eq_true rfl) dX5_bore_35 rfl rfl
set_option maxHeartbeats 4000000 in
set_option maxRecDepth 100000 in
theorem c_X5_all_ia (l : Launch) {w : Gh_} (hI : In_ w) (a : St_) (x : Int32) (h : ¬ (¬ x < 0 ∧ x ≤ 5)) : Fn_ l w yX5_all (.code yX5_all cX5_all 5 (some .long)) { frames := 0, cells := 0, slots := 0, locals := 0 } 0 0 [.ref (ad_ w 20 0), .int x] a (.inl (some (.long 0))) (th_ a 1) := by
  refine Fn_of hI (by decide +kernel) (Nat.le_of_ble_eq_true rfl) ?_
  intro zp ze zs zm zb zt zc ls cx hr hlk hno hW hS hl
  replace cx : Cx_ zp zs zm zc _ cX5_all 5 "MarginHouseModel" w := cx
  replace hl : lv_has ls 5 [(0, .ref (ad_ w 20 0)), (1, .int x)] := hl
  obtain ⟨H, hH⟩ : ∃ H, zs.heap = H := ⟨_, rfl⟩
  rw [hH] at hW
  have hS : Fr_ w zs.heap H [] := by rw [← hH]; exact hS
  obtain ⟨locs, hlocs⟩ : ∃ x : List Loc, x = [] := ⟨_, rfl⟩
  rw [← hlocs] at hS ⊢
  rw [show W zp l ze _ zs zm _ zb zt zc zs.heap locs 0 0 _ (F0 zm 0 ls []) ↔ W zp l ze _ zs zm _ zb zt zc H locs 0 0 _ (F0 zm 0 ls []) from by rw [hH]]
  refine lv_aload_n cx.1 cx.2.1 dX5_all_0 rfl (lv_at hl 0 rfl) ?_
  refine lv_iload_n cx.1 cx.2.1 dX5_all_1 rfl (lv_at hl 1 rfl) ?_
  refine lv_if_lt (tgt := 10) cx.1 cx.2.1 dX5_all_2 (by decide) (fun h2 => ?_) (fun h2 => ?_)
  · skip
    refine lv_iconst (v := 1) cx.1 cx.2.1 dX5_all_10 (by decide) ?_
    refine lv_goto (tgt := 15) cx.1 cx.2.1 dX5_all_11 (by decide) ?_
    refine pf_X5_62 cx hW hS (by decide) dX5_all_15 (fun H locs hW hS => ?_)
    replace hW : Hd_ w (th_ a 1) H := hW
    refine lv_aload_n cx.1 cx.2.1 dX5_all_18 rfl (lv_at hl 0 rfl) ?_
    refine gf_X5_62 cx hW (by decide) dX5_all_19 ?_
    refine tp_i (y := 1) (th_20 a _) ?_
    refine lv_if_le (tgt := 27) cx.1 cx.2.1 dX5_all_22 (by decide) (fun zz => absurd zz (by decide)) (fun h22 => ?_)
    refine lv_lconst (v := 0) cx.1 cx.2.1 dX5_all_25 (by decide) ?_
    exact cr_l cx hr hlk hW hS (Nat.le_of_ble_eq_true rfl) (Nat.le_of_ble_eq_true rfl) dX5_all_26 rfl rfl
  · skip
    refine lv_iload_n cx.1 cx.2.1 dX5_all_5 rfl (lv_at hl 1 rfl) ?_
    refine lv_iconst (v := 5) cx.1 cx.2.1 dX5_all_6 (by decide) ?_
    refine lv_icmp_le (tgt := 14) cx.1 cx.2.1 dX5_all_7 (by decide) (fun h7 => ?_) (fun h7 => ?_)
    · skip
      exact absurd ⟨h2, h7⟩ h
    · skip
      refine lv_iconst (v := 1) cx.1 cx.2.1 dX5_all_10 (by decide) ?_
      refine lv_goto (tgt := 15) cx.1 cx.2.1 dX5_all_11 (by decide) ?_
      refine pf_X5_62 cx hW hS (by decide) dX5_all_15 (fun H locs hW hS => ?_)
      replace hW : Hd_ w (th_ a 1) H := hW
      refine lv_aload_n cx.1 cx.2.1 dX5_all_18 rfl (lv_at hl 0 rfl) ?_
      refine gf_X5_62 cx hW (by decide) dX5_all_19 ?_
      refine tp_i (y := 1) (th_20 a _) ?_
      refine lv_if_le (tgt := 27) cx.1 cx.2.1 dX5_all_22 (by decide) (fun zz => absurd zz (by decide)) (fun h22 => ?_)
      refine lv_lconst (v := 0) cx.1 cx.2.1 dX5_all_25 (by decide) ?_
      exact cr_l cx hr hlk hW hS (Nat.le_of_ble_eq_true rfl) (Nat.le_of_ble_eq_true rfl) dX5_all_26 rfl rfl
def qa_ (a : St_) (v : Nat) : Nat → Int64
  | 0 => 0
  | i + 1 => qa_ a v i + gl_ a v 0 i
def qz_ : Nat → Int64
  | 0 => 0
  | i + 1 => qz_ i + 0
def qo_ (a : St_) (z : Int64) : Nat → Int64
  | 0 => z
  | i + 1 => qo_ a z i + (if gi_ a 24 0 i ≤ 0 then 0 else gi_ a 24 0 i).toInt64
set_option maxHeartbeats 4000000 in
set_option maxRecDepth 100000 in
theorem c_X5_all_0 (l : Launch) {w : Gh_} (hI : In_ w) (a : St_) (k : Nat) (hk : gi_ a 21 0 0 = nI k) (hk8 : k ≤ 8) : Fn_ l w yX5_all (.code yX5_all cX5_all 5 (some .long)) { frames := 0, cells := 0, slots := 0, locals := 0 } 0 0 [.ref (ad_ w 20 0), .int 0] a (.inl (some (.long (gl_ a 22 0 0)))) (th_ a 0) := by
  refine Fn_of hI (by decide +kernel) (Nat.le_of_ble_eq_true rfl) ?_
  intro zp ze zs zm zb zt zc ls cx hr hlk hno hW hS hl
  replace cx : Cx_ zp zs zm zc _ cX5_all 5 "MarginHouseModel" w := cx
  replace hl : lv_has ls 5 [(0, .ref (ad_ w 20 0)), (1, .int 0)] := hl
  obtain ⟨H, hH⟩ : ∃ H, zs.heap = H := ⟨_, rfl⟩
  rw [hH] at hW
  have hS : Fr_ w zs.heap H [] := by rw [← hH]; exact hS
  obtain ⟨locs, hlocs⟩ : ∃ x : List Loc, x = [] := ⟨_, rfl⟩
  rw [← hlocs] at hS ⊢
  rw [show W zp l ze _ zs zm _ zb zt zc zs.heap locs 0 0 _ (F0 zm 0 ls []) ↔ W zp l ze _ zs zm _ zb zt zc H locs 0 0 _ (F0 zm 0 ls []) from by rw [hH]]
  refine lv_aload_n cx.1 cx.2.1 dX5_all_0 rfl (lv_at hl 0 rfl) ?_
  refine lv_iload_n cx.1 cx.2.1 dX5_all_1 rfl (lv_at hl 1 rfl) ?_
  refine lv_if_lt (tgt := 10) cx.1 cx.2.1 dX5_all_2 (by decide) (fun zz => absurd zz (by decide)) (fun h2 => ?_)
  refine lv_iload_n cx.1 cx.2.1 dX5_all_5 rfl (lv_at hl 1 rfl) ?_
  refine lv_iconst (v := 5) cx.1 cx.2.1 dX5_all_6 (by decide) ?_
  refine lv_icmp_le (tgt := 14) cx.1 cx.2.1 dX5_all_7 (by decide) (fun h7 => ?_) (fun zz => absurd (by decide) zz)
  refine lv_iconst (v := 0) cx.1 cx.2.1 dX5_all_14 (by decide) ?_
  refine pf_X5_62 cx hW hS (by decide) dX5_all_15 (fun H locs hW hS => ?_)
  replace hW : Hd_ w (th_ a 0) H := hW
  refine lv_aload_n cx.1 cx.2.1 dX5_all_18 rfl (lv_at hl 0 rfl) ?_
  refine gf_X5_62 cx hW (by decide) dX5_all_19 ?_
  refine tp_i (y := 0) (th_20 a _) ?_
  refine lv_if_le (tgt := 27) cx.1 cx.2.1 dX5_all_22 (by decide) (fun h22 => ?_) (fun zz => absurd (by decide) zz)
  refine lv_lconst (v := 0) cx.1 cx.2.1 dX5_all_27 (by decide) ?_
  refine lv_lstore_n (lv' := [(2, .long 0), (0, .ref (ad_ w 20 0)), (1, .int 0)]) cx.1 cx.2.1 dX5_all_28 rfl hl (by decide) rfl (fun ls hl => ?_)
  refine lv_iconst (v := 0) cx.1 cx.2.1 dX5_all_29 (by decide) ?_
  refine lv_istore (lv' := [(4, .int 0), (2, .long 0), (0, .ref (ad_ w 20 0)), (1, .int 0)]) cx.1 cx.2.1 dX5_all_30 hl (by decide) rfl (fun ls hl => ?_)
  have L32 : ∀ (d i : Nat), i ≤ k → k - i < d → ∀ (H : Heap) (locs : List Loc) (ls : Array Slot), Hd_ w (th_ a 0) H → Fr_ w zs.heap H locs → lv_has ls 5 [(0, .ref (ad_ w 20 0)), (1, .int 0), (2, .long (qz_ i)), (4, .int (nI i))] → W zp l ze { frames := 0, cells := 0, slots := 0, locals := 0 } zs zm ([.ref (ad_ w 20 0), .int 0] : List Value).toArray zb zt zc H locs 0 0 (vx_MQ zb (Qc_ w (.inl (some (.long (gl_ a 22 0 0)))) (th_ a 0)) (XC_ w (.inl (some (.long (gl_ a 22 0 0)))) (th_ a 0)) ([.ref (ad_ w 20 0), .int 0] : List Value).toArray zs 0 0 (fun q => lo_ w ≤ q)) (F0 zm 32 ls []) := by
    intro d
    induction d with
    | zero => intro i _ hd; exact absurd hd (Nat.not_lt_zero _)
    | succ d ih32 =>
      intro i hi hdi  H locs ls hW hS hl
      refine lv_iload cx.1 cx.2.1 dX5_all_32 (lv_at hl 3 rfl) ?_
      refine lv_aload_n cx.1 cx.2.1 dX5_all_34 rfl (lv_at hl 0 rfl) ?_
      refine gf_X5_66 cx hW (by decide) dX5_all_35 ?_
      refine tp_i (y := nI k) (by rw [th_gi _ _ _ _ _ (by decide)]; exact hk) ?_
      refine lv_icmp_ge (tgt := 81) cx.1 cx.2.1 dX5_all_38 (by decide) (fun h38 => ?_) (fun h38 => ?_)
      · skip
        have h38 : k ≤ i := (nI_leI (by omega) (by omega)).mp h38
        have e32 : i = k := by omega
        try rw [e32] at hl
        try rw [e32] at hW
        refine lv_iconst (v := 0) cx.1 cx.2.1 dX5_all_81 (by decide) ?_
        refine lv_istore (lv' := [(4, .int 0), (0, .ref (ad_ w 20 0)), (1, .int 0), (2, .long (qz_ k))]) cx.1 cx.2.1 dX5_all_82 hl (by decide) rfl (fun ls hl => ?_)
        refine lv_iload cx.1 cx.2.1 dX5_all_84 (lv_at hl 0 rfl) ?_
        refine tp_i (y := nI 0) nI_0.symm ?_
        refine lv_bipush (v := 48) cx.1 cx.2.1 dX5_all_86 (by decide) ?_
        refine tp_i (y := nI 48) (by decide +kernel) ?_
        refine lv_icmp_ge (tgt := 127) cx.1 cx.2.1 dX5_all_88 (by decide) (fun zz => absurd zz (nI_ge (by decide) (by decide))) (fun h88 => ?_)
        refine lv_iload_n cx.1 cx.2.1 dX5_all_91 rfl (lv_at hl 2 rfl) ?_
        refine lv_iconst (v := 5) cx.1 cx.2.1 dX5_all_92 (by decide) ?_
        refine lv_icmp_ne (tgt := 127) cx.1 cx.2.1 dX5_all_93 (by decide) (fun h93 => ?_) (fun zz => absurd zz (by decide))
        refine lv_iload_n cx.1 cx.2.1 dX5_all_127 rfl (lv_at hl 2 rfl) ?_
        refine lv_if_ne (tgt := 138) cx.1 cx.2.1 dX5_all_128 (by decide) (fun zz => absurd rfl zz) (fun h128 => ?_)
        refine lv_aload_n cx.1 cx.2.1 dX5_all_131 rfl (lv_at hl 1 rfl) ?_
        refine gf_X5_84 cx hW (by decide) dX5_all_132 ?_
        refine lv_goto (tgt := 163) cx.1 cx.2.1 dX5_all_135 (by decide) ?_
        exact cr_l cx hr hlk hW hS (Nat.le_of_ble_eq_true rfl) (Nat.le_of_ble_eq_true rfl) dX5_all_163 rfl rfl
      · skip
        have h38 : i < k := Nat.not_le.mp (fun q => h38 ((nI_leI (by omega) (by omega)).mpr q))
        refine lv_lload_n cx.1 cx.2.1 dX5_all_41 rfl (lv_at hl 2 rfl) ?_
        refine lv_iload_n cx.1 cx.2.1 dX5_all_42 rfl (lv_at hl 1 rfl) ?_
        refine lv_iconst (v := 2) cx.1 cx.2.1 dX5_all_43 (by decide) ?_
        refine lv_icmp_ne (tgt := 57) cx.1 cx.2.1 dX5_all_44 (by decide) (fun h44 => ?_) (fun zz => absurd zz (by decide))
        refine lv_iload_n cx.1 cx.2.1 dX5_all_57 rfl (lv_at hl 1 rfl) ?_
        refine lv_iconst (v := 3) cx.1 cx.2.1 dX5_all_58 (by decide) ?_
        refine lv_icmp_ne (tgt := 72) cx.1 cx.2.1 dX5_all_59 (by decide) (fun h59 => ?_) (fun zz => absurd zz (by decide))
        refine lv_lconst (v := 0) cx.1 cx.2.1 dX5_all_72 (by decide) ?_
        refine lv_ladd cx.1 cx.2.1 dX5_all_73 ?_
        refine lv_lstore_n (lv' := [(2, .long ((qz_ i) + 0)), (0, .ref (ad_ w 20 0)), (1, .int 0), (4, .int (nI i))]) cx.1 cx.2.1 dX5_all_74 rfl hl (by decide) rfl (fun ls hl => ?_)
        refine lv_iinc (v := nI (i + 1)) (lv' := [(4, .int (nI (i + 1))), (2, .long ((qz_ i) + 0)), (0, .ref (ad_ w 20 0)), (1, .int 0)]) cx.1 cx.2.1 dX5_all_75 hl (k := 3) rfl (nI_inc i) (by decide) rfl (fun ls hl => ?_)
        refine lv_goto (tgt := 32) cx.1 cx.2.1 dX5_all_78 (by decide) ?_
        exact ih32 (i + 1) (by omega) (by omega)  H locs ls hW hS (lv_sub (l' := [(0, .ref (ad_ w 20 0)), (1, .int 0), (2, .long (qz_ (i + 1))), (4, .int (nI (i + 1)))]) hl [2, 3, 1, 0] rfl)
  exact L32 (k - 0 + 1) 0 (by omega) (by omega)  H locs ls hW hS (lv_sub hl [2, 3, 1, 0] rfl)
set_option maxHeartbeats 4000000 in
set_option maxRecDepth 100000 in
theorem c_X5_all_1 (l : Launch) {w : Gh_} (hI : In_ w) (a : St_) (k : Nat) (hk : gi_ a 21 0 0 = nI k) (hk8 : k ≤ 8) : Fn_ l w yX5_all (.code yX5_all cX5_all 5 (some .long)) { frames := 0, cells := 0, slots := 0, locals := 0 } 0 0 [.ref (ad_ w 20 0), .int 1] a (.inl (some (.long (gl_ a 23 0 0)))) (th_ a 0) := by
  refine Fn_of hI (by decide +kernel) (Nat.le_of_ble_eq_true rfl) ?_
  intro zp ze zs zm zb zt zc ls cx hr hlk hno hW hS hl
  replace cx : Cx_ zp zs zm zc _ cX5_all 5 "MarginHouseModel" w := cx
  replace hl : lv_has ls 5 [(0, .ref (ad_ w 20 0)), (1, .int 1)] := hl
  obtain ⟨H, hH⟩ : ∃ H, zs.heap = H := ⟨_, rfl⟩
  rw [hH] at hW
  have hS : Fr_ w zs.heap H [] := by rw [← hH]; exact hS
  obtain ⟨locs, hlocs⟩ : ∃ x : List Loc, x = [] := ⟨_, rfl⟩
  rw [← hlocs] at hS ⊢
  rw [show W zp l ze _ zs zm _ zb zt zc zs.heap locs 0 0 _ (F0 zm 0 ls []) ↔ W zp l ze _ zs zm _ zb zt zc H locs 0 0 _ (F0 zm 0 ls []) from by rw [hH]]
  refine lv_aload_n cx.1 cx.2.1 dX5_all_0 rfl (lv_at hl 0 rfl) ?_
  refine lv_iload_n cx.1 cx.2.1 dX5_all_1 rfl (lv_at hl 1 rfl) ?_
  refine lv_if_lt (tgt := 10) cx.1 cx.2.1 dX5_all_2 (by decide) (fun zz => absurd zz (by decide)) (fun h2 => ?_)
  refine lv_iload_n cx.1 cx.2.1 dX5_all_5 rfl (lv_at hl 1 rfl) ?_
  refine lv_iconst (v := 5) cx.1 cx.2.1 dX5_all_6 (by decide) ?_
  refine lv_icmp_le (tgt := 14) cx.1 cx.2.1 dX5_all_7 (by decide) (fun h7 => ?_) (fun zz => absurd (by decide) zz)
  refine lv_iconst (v := 0) cx.1 cx.2.1 dX5_all_14 (by decide) ?_
  refine pf_X5_62 cx hW hS (by decide) dX5_all_15 (fun H locs hW hS => ?_)
  replace hW : Hd_ w (th_ a 0) H := hW
  refine lv_aload_n cx.1 cx.2.1 dX5_all_18 rfl (lv_at hl 0 rfl) ?_
  refine gf_X5_62 cx hW (by decide) dX5_all_19 ?_
  refine tp_i (y := 0) (th_20 a _) ?_
  refine lv_if_le (tgt := 27) cx.1 cx.2.1 dX5_all_22 (by decide) (fun h22 => ?_) (fun zz => absurd (by decide) zz)
  refine lv_lconst (v := 0) cx.1 cx.2.1 dX5_all_27 (by decide) ?_
  refine lv_lstore_n (lv' := [(2, .long 0), (0, .ref (ad_ w 20 0)), (1, .int 1)]) cx.1 cx.2.1 dX5_all_28 rfl hl (by decide) rfl (fun ls hl => ?_)
  refine lv_iconst (v := 0) cx.1 cx.2.1 dX5_all_29 (by decide) ?_
  refine lv_istore (lv' := [(4, .int 0), (2, .long 0), (0, .ref (ad_ w 20 0)), (1, .int 1)]) cx.1 cx.2.1 dX5_all_30 hl (by decide) rfl (fun ls hl => ?_)
  have L32 : ∀ (d i : Nat), i ≤ k → k - i < d → ∀ (H : Heap) (locs : List Loc) (ls : Array Slot), Hd_ w (th_ a 0) H → Fr_ w zs.heap H locs → lv_has ls 5 [(0, .ref (ad_ w 20 0)), (1, .int 1), (2, .long (qz_ i)), (4, .int (nI i))] → W zp l ze { frames := 0, cells := 0, slots := 0, locals := 0 } zs zm ([.ref (ad_ w 20 0), .int 1] : List Value).toArray zb zt zc H locs 0 0 (vx_MQ zb (Qc_ w (.inl (some (.long (gl_ a 23 0 0)))) (th_ a 0)) (XC_ w (.inl (some (.long (gl_ a 23 0 0)))) (th_ a 0)) ([.ref (ad_ w 20 0), .int 1] : List Value).toArray zs 0 0 (fun q => lo_ w ≤ q)) (F0 zm 32 ls []) := by
    intro d
    induction d with
    | zero => intro i _ hd; exact absurd hd (Nat.not_lt_zero _)
    | succ d ih32 =>
      intro i hi hdi  H locs ls hW hS hl
      refine lv_iload cx.1 cx.2.1 dX5_all_32 (lv_at hl 3 rfl) ?_
      refine lv_aload_n cx.1 cx.2.1 dX5_all_34 rfl (lv_at hl 0 rfl) ?_
      refine gf_X5_66 cx hW (by decide) dX5_all_35 ?_
      refine tp_i (y := nI k) (by rw [th_gi _ _ _ _ _ (by decide)]; exact hk) ?_
      refine lv_icmp_ge (tgt := 81) cx.1 cx.2.1 dX5_all_38 (by decide) (fun h38 => ?_) (fun h38 => ?_)
      · skip
        have h38 : k ≤ i := (nI_leI (by omega) (by omega)).mp h38
        have e32 : i = k := by omega
        try rw [e32] at hl
        try rw [e32] at hW
        refine lv_iconst (v := 0) cx.1 cx.2.1 dX5_all_81 (by decide) ?_
        refine lv_istore (lv' := [(4, .int 0), (0, .ref (ad_ w 20 0)), (1, .int 1), (2, .long (qz_ k))]) cx.1 cx.2.1 dX5_all_82 hl (by decide) rfl (fun ls hl => ?_)
        refine lv_iload cx.1 cx.2.1 dX5_all_84 (lv_at hl 0 rfl) ?_
        refine tp_i (y := nI 0) nI_0.symm ?_
        refine lv_bipush (v := 48) cx.1 cx.2.1 dX5_all_86 (by decide) ?_
        refine tp_i (y := nI 48) (by decide +kernel) ?_
        refine lv_icmp_ge (tgt := 127) cx.1 cx.2.1 dX5_all_88 (by decide) (fun zz => absurd zz (nI_ge (by decide) (by decide))) (fun h88 => ?_)
        refine lv_iload_n cx.1 cx.2.1 dX5_all_91 rfl (lv_at hl 2 rfl) ?_
        refine lv_iconst (v := 5) cx.1 cx.2.1 dX5_all_92 (by decide) ?_
        refine lv_icmp_ne (tgt := 127) cx.1 cx.2.1 dX5_all_93 (by decide) (fun h93 => ?_) (fun zz => absurd zz (by decide))
        refine lv_iload_n cx.1 cx.2.1 dX5_all_127 rfl (lv_at hl 2 rfl) ?_
        refine lv_if_ne (tgt := 138) cx.1 cx.2.1 dX5_all_128 (by decide) (fun h128 => ?_) (fun zz => absurd zz (by decide))
        refine lv_iload_n cx.1 cx.2.1 dX5_all_138 rfl (lv_at hl 2 rfl) ?_
        refine lv_iconst (v := 1) cx.1 cx.2.1 dX5_all_139 (by decide) ?_
        refine lv_icmp_ne (tgt := 150) cx.1 cx.2.1 dX5_all_140 (by decide) (fun zz => absurd rfl zz) (fun h140 => ?_)
        refine lv_aload_n cx.1 cx.2.1 dX5_all_143 rfl (lv_at hl 1 rfl) ?_
        refine gf_X5_149 cx hW (by decide) dX5_all_144 ?_
        refine lv_goto (tgt := 163) cx.1 cx.2.1 dX5_all_147 (by decide) ?_
        exact cr_l cx hr hlk hW hS (Nat.le_of_ble_eq_true rfl) (Nat.le_of_ble_eq_true rfl) dX5_all_163 rfl rfl
      · skip
        have h38 : i < k := Nat.not_le.mp (fun q => h38 ((nI_leI (by omega) (by omega)).mpr q))
        refine lv_lload_n cx.1 cx.2.1 dX5_all_41 rfl (lv_at hl 2 rfl) ?_
        refine lv_iload_n cx.1 cx.2.1 dX5_all_42 rfl (lv_at hl 1 rfl) ?_
        refine lv_iconst (v := 2) cx.1 cx.2.1 dX5_all_43 (by decide) ?_
        refine lv_icmp_ne (tgt := 57) cx.1 cx.2.1 dX5_all_44 (by decide) (fun h44 => ?_) (fun zz => absurd zz (by decide))
        refine lv_iload_n cx.1 cx.2.1 dX5_all_57 rfl (lv_at hl 1 rfl) ?_
        refine lv_iconst (v := 3) cx.1 cx.2.1 dX5_all_58 (by decide) ?_
        refine lv_icmp_ne (tgt := 72) cx.1 cx.2.1 dX5_all_59 (by decide) (fun h59 => ?_) (fun zz => absurd zz (by decide))
        refine lv_lconst (v := 0) cx.1 cx.2.1 dX5_all_72 (by decide) ?_
        refine lv_ladd cx.1 cx.2.1 dX5_all_73 ?_
        refine lv_lstore_n (lv' := [(2, .long ((qz_ i) + 0)), (0, .ref (ad_ w 20 0)), (1, .int 1), (4, .int (nI i))]) cx.1 cx.2.1 dX5_all_74 rfl hl (by decide) rfl (fun ls hl => ?_)
        refine lv_iinc (v := nI (i + 1)) (lv' := [(4, .int (nI (i + 1))), (2, .long ((qz_ i) + 0)), (0, .ref (ad_ w 20 0)), (1, .int 1)]) cx.1 cx.2.1 dX5_all_75 hl (k := 3) rfl (nI_inc i) (by decide) rfl (fun ls hl => ?_)
        refine lv_goto (tgt := 32) cx.1 cx.2.1 dX5_all_78 (by decide) ?_
        exact ih32 (i + 1) (by omega) (by omega)  H locs ls hW hS (lv_sub (l' := [(0, .ref (ad_ w 20 0)), (1, .int 1), (2, .long (qz_ (i + 1))), (4, .int (nI (i + 1)))]) hl [2, 3, 1, 0] rfl)
  exact L32 (k - 0 + 1) 0 (by omega) (by omega)  H locs ls hW hS (lv_sub hl [2, 3, 1, 0] rfl)
set_option maxHeartbeats 4000000 in
set_option maxRecDepth 100000 in
theorem c_X5_all_2 (l : Launch) {w : Gh_} (hI : In_ w) (a : St_) (k : Nat) (hk : gi_ a 21 0 0 = nI k) (hk8 : k ≤ 8) : Fn_ l w yX5_all (.code yX5_all cX5_all 5 (some .long)) { frames := 0, cells := 0, slots := 0, locals := 0 } 0 0 [.ref (ad_ w 20 0), .int 2] a (.inl (some (.long (qa_ (th_ a 0) 20 k)))) (th_ a 0) := by
  refine Fn_of hI (by decide +kernel) (Nat.le_of_ble_eq_true rfl) ?_
  intro zp ze zs zm zb zt zc ls cx hr hlk hno hW hS hl
  replace cx : Cx_ zp zs zm zc _ cX5_all 5 "MarginHouseModel" w := cx
  replace hl : lv_has ls 5 [(0, .ref (ad_ w 20 0)), (1, .int 2)] := hl
  obtain ⟨H, hH⟩ : ∃ H, zs.heap = H := ⟨_, rfl⟩
  rw [hH] at hW
  have hS : Fr_ w zs.heap H [] := by rw [← hH]; exact hS
  obtain ⟨locs, hlocs⟩ : ∃ x : List Loc, x = [] := ⟨_, rfl⟩
  rw [← hlocs] at hS ⊢
  rw [show W zp l ze _ zs zm _ zb zt zc zs.heap locs 0 0 _ (F0 zm 0 ls []) ↔ W zp l ze _ zs zm _ zb zt zc H locs 0 0 _ (F0 zm 0 ls []) from by rw [hH]]
  refine lv_aload_n cx.1 cx.2.1 dX5_all_0 rfl (lv_at hl 0 rfl) ?_
  refine lv_iload_n cx.1 cx.2.1 dX5_all_1 rfl (lv_at hl 1 rfl) ?_
  refine lv_if_lt (tgt := 10) cx.1 cx.2.1 dX5_all_2 (by decide) (fun zz => absurd zz (by decide)) (fun h2 => ?_)
  refine lv_iload_n cx.1 cx.2.1 dX5_all_5 rfl (lv_at hl 1 rfl) ?_
  refine lv_iconst (v := 5) cx.1 cx.2.1 dX5_all_6 (by decide) ?_
  refine lv_icmp_le (tgt := 14) cx.1 cx.2.1 dX5_all_7 (by decide) (fun h7 => ?_) (fun zz => absurd (by decide) zz)
  refine lv_iconst (v := 0) cx.1 cx.2.1 dX5_all_14 (by decide) ?_
  refine pf_X5_62 cx hW hS (by decide) dX5_all_15 (fun H locs hW hS => ?_)
  replace hW : Hd_ w (th_ a 0) H := hW
  refine lv_aload_n cx.1 cx.2.1 dX5_all_18 rfl (lv_at hl 0 rfl) ?_
  refine gf_X5_62 cx hW (by decide) dX5_all_19 ?_
  refine tp_i (y := 0) (th_20 a _) ?_
  refine lv_if_le (tgt := 27) cx.1 cx.2.1 dX5_all_22 (by decide) (fun h22 => ?_) (fun zz => absurd (by decide) zz)
  refine lv_lconst (v := 0) cx.1 cx.2.1 dX5_all_27 (by decide) ?_
  refine lv_lstore_n (lv' := [(2, .long 0), (0, .ref (ad_ w 20 0)), (1, .int 2)]) cx.1 cx.2.1 dX5_all_28 rfl hl (by decide) rfl (fun ls hl => ?_)
  refine lv_iconst (v := 0) cx.1 cx.2.1 dX5_all_29 (by decide) ?_
  refine lv_istore (lv' := [(4, .int 0), (2, .long 0), (0, .ref (ad_ w 20 0)), (1, .int 2)]) cx.1 cx.2.1 dX5_all_30 hl (by decide) rfl (fun ls hl => ?_)
  have L32 : ∀ (d i : Nat), i ≤ k → k - i < d → ∀ (H : Heap) (locs : List Loc) (ls : Array Slot), Hd_ w (th_ a 0) H → Fr_ w zs.heap H locs → lv_has ls 5 [(0, .ref (ad_ w 20 0)), (1, .int 2), (2, .long (qa_ (th_ a 0) 20 i)), (4, .int (nI i))] → W zp l ze { frames := 0, cells := 0, slots := 0, locals := 0 } zs zm ([.ref (ad_ w 20 0), .int 2] : List Value).toArray zb zt zc H locs 0 0 (vx_MQ zb (Qc_ w (.inl (some (.long (qa_ (th_ a 0) 20 k)))) (th_ a 0)) (XC_ w (.inl (some (.long (qa_ (th_ a 0) 20 k)))) (th_ a 0)) ([.ref (ad_ w 20 0), .int 2] : List Value).toArray zs 0 0 (fun q => lo_ w ≤ q)) (F0 zm 32 ls []) := by
    intro d
    induction d with
    | zero => intro i _ hd; exact absurd hd (Nat.not_lt_zero _)
    | succ d ih32 =>
      intro i hi hdi  H locs ls hW hS hl
      refine lv_iload cx.1 cx.2.1 dX5_all_32 (lv_at hl 3 rfl) ?_
      refine lv_aload_n cx.1 cx.2.1 dX5_all_34 rfl (lv_at hl 0 rfl) ?_
      refine gf_X5_66 cx hW (by decide) dX5_all_35 ?_
      refine tp_i (y := nI k) (by rw [th_gi _ _ _ _ _ (by decide)]; exact hk) ?_
      refine lv_icmp_ge (tgt := 81) cx.1 cx.2.1 dX5_all_38 (by decide) (fun h38 => ?_) (fun h38 => ?_)
      · skip
        have h38 : k ≤ i := (nI_leI (by omega) (by omega)).mp h38
        have e32 : i = k := by omega
        try rw [e32] at hl
        try rw [e32] at hW
        refine lv_iconst (v := 0) cx.1 cx.2.1 dX5_all_81 (by decide) ?_
        refine lv_istore (lv' := [(4, .int 0), (0, .ref (ad_ w 20 0)), (1, .int 2), (2, .long (qa_ (th_ a 0) 20 k))]) cx.1 cx.2.1 dX5_all_82 hl (by decide) rfl (fun ls hl => ?_)
        refine lv_iload cx.1 cx.2.1 dX5_all_84 (lv_at hl 0 rfl) ?_
        refine tp_i (y := nI 0) nI_0.symm ?_
        refine lv_bipush (v := 48) cx.1 cx.2.1 dX5_all_86 (by decide) ?_
        refine tp_i (y := nI 48) (by decide +kernel) ?_
        refine lv_icmp_ge (tgt := 127) cx.1 cx.2.1 dX5_all_88 (by decide) (fun zz => absurd zz (nI_ge (by decide) (by decide))) (fun h88 => ?_)
        refine lv_iload_n cx.1 cx.2.1 dX5_all_91 rfl (lv_at hl 2 rfl) ?_
        refine lv_iconst (v := 5) cx.1 cx.2.1 dX5_all_92 (by decide) ?_
        refine lv_icmp_ne (tgt := 127) cx.1 cx.2.1 dX5_all_93 (by decide) (fun h93 => ?_) (fun zz => absurd zz (by decide))
        refine lv_iload_n cx.1 cx.2.1 dX5_all_127 rfl (lv_at hl 2 rfl) ?_
        refine lv_if_ne (tgt := 138) cx.1 cx.2.1 dX5_all_128 (by decide) (fun h128 => ?_) (fun zz => absurd zz (by decide))
        refine lv_iload_n cx.1 cx.2.1 dX5_all_138 rfl (lv_at hl 2 rfl) ?_
        refine lv_iconst (v := 1) cx.1 cx.2.1 dX5_all_139 (by decide) ?_
        refine lv_icmp_ne (tgt := 150) cx.1 cx.2.1 dX5_all_140 (by decide) (fun h140 => ?_) (fun zz => absurd zz (by decide))
        refine lv_iload_n cx.1 cx.2.1 dX5_all_150 rfl (lv_at hl 2 rfl) ?_
        refine lv_iconst (v := 4) cx.1 cx.2.1 dX5_all_151 (by decide) ?_
        refine lv_icmp_ne (tgt := 162) cx.1 cx.2.1 dX5_all_152 (by decide) (fun h152 => ?_) (fun zz => absurd zz (by decide))
        refine lv_lload_n cx.1 cx.2.1 dX5_all_162 rfl (lv_at hl 3 rfl) ?_
        exact cr_l cx hr hlk hW hS (Nat.le_of_ble_eq_true rfl) (Nat.le_of_ble_eq_true rfl) dX5_all_163 rfl rfl
      · skip
        have h38 : i < k := Nat.not_le.mp (fun q => h38 ((nI_leI (by omega) (by omega)).mpr q))
        refine lv_lload_n cx.1 cx.2.1 dX5_all_41 rfl (lv_at hl 2 rfl) ?_
        refine lv_iload_n cx.1 cx.2.1 dX5_all_42 rfl (lv_at hl 1 rfl) ?_
        refine lv_iconst (v := 2) cx.1 cx.2.1 dX5_all_43 (by decide) ?_
        refine lv_icmp_ne (tgt := 57) cx.1 cx.2.1 dX5_all_44 (by decide) (fun zz => absurd rfl zz) (fun h44 => ?_)
        refine lv_aload_n cx.1 cx.2.1 dX5_all_47 rfl (lv_at hl 0 rfl) ?_
        refine gf_X5_7 cx hW (by decide) dX5_all_48 ?_
        refine lv_iload cx.1 cx.2.1 dX5_all_51 (lv_at hl 3 rfl) ?_
        refine al_21 (j := i) cx hW (by decide) rfl (by omega) dX5_all_53 ?_
        refine lv_goto (tgt := 73) cx.1 cx.2.1 dX5_all_54 (by decide) ?_
        refine lv_ladd cx.1 cx.2.1 dX5_all_73 ?_
        refine lv_lstore_n (lv' := [(2, .long ((qa_ (th_ a 0) 20 i) + (gl_ (th_ a 0) 20 0 i))), (0, .ref (ad_ w 20 0)), (1, .int 2), (4, .int (nI i))]) cx.1 cx.2.1 dX5_all_74 rfl hl (by decide) rfl (fun ls hl => ?_)
        refine lv_iinc (v := nI (i + 1)) (lv' := [(4, .int (nI (i + 1))), (2, .long ((qa_ (th_ a 0) 20 i) + (gl_ (th_ a 0) 20 0 i))), (0, .ref (ad_ w 20 0)), (1, .int 2)]) cx.1 cx.2.1 dX5_all_75 hl (k := 3) rfl (nI_inc i) (by decide) rfl (fun ls hl => ?_)
        refine lv_goto (tgt := 32) cx.1 cx.2.1 dX5_all_78 (by decide) ?_
        exact ih32 (i + 1) (by omega) (by omega)  H locs ls hW hS (lv_sub (l' := [(0, .ref (ad_ w 20 0)), (1, .int 2), (2, .long (qa_ (th_ a 0) 20 (i + 1))), (4, .int (nI (i + 1)))]) hl [2, 3, 1, 0] rfl)
  exact L32 (k - 0 + 1) 0 (by omega) (by omega)  H locs ls hW hS (lv_sub hl [2, 3, 1, 0] rfl)
set_option maxHeartbeats 4000000 in
set_option maxRecDepth 100000 in
theorem c_X5_all_3 (l : Launch) {w : Gh_} (hI : In_ w) (a : St_) (k : Nat) (hk : gi_ a 21 0 0 = nI k) (hk8 : k ≤ 8) : Fn_ l w yX5_all (.code yX5_all cX5_all 5 (some .long)) { frames := 0, cells := 0, slots := 0, locals := 0 } 0 0 [.ref (ad_ w 20 0), .int 3] a (.inl (some (.long (qa_ (th_ a 0) 21 k)))) (th_ a 0) := by
  refine Fn_of hI (by decide +kernel) (Nat.le_of_ble_eq_true rfl) ?_
  intro zp ze zs zm zb zt zc ls cx hr hlk hno hW hS hl
  replace cx : Cx_ zp zs zm zc _ cX5_all 5 "MarginHouseModel" w := cx
  replace hl : lv_has ls 5 [(0, .ref (ad_ w 20 0)), (1, .int 3)] := hl
  obtain ⟨H, hH⟩ : ∃ H, zs.heap = H := ⟨_, rfl⟩
  rw [hH] at hW
  have hS : Fr_ w zs.heap H [] := by rw [← hH]; exact hS
  obtain ⟨locs, hlocs⟩ : ∃ x : List Loc, x = [] := ⟨_, rfl⟩
  rw [← hlocs] at hS ⊢
  rw [show W zp l ze _ zs zm _ zb zt zc zs.heap locs 0 0 _ (F0 zm 0 ls []) ↔ W zp l ze _ zs zm _ zb zt zc H locs 0 0 _ (F0 zm 0 ls []) from by rw [hH]]
  refine lv_aload_n cx.1 cx.2.1 dX5_all_0 rfl (lv_at hl 0 rfl) ?_
  refine lv_iload_n cx.1 cx.2.1 dX5_all_1 rfl (lv_at hl 1 rfl) ?_
  refine lv_if_lt (tgt := 10) cx.1 cx.2.1 dX5_all_2 (by decide) (fun zz => absurd zz (by decide)) (fun h2 => ?_)
  refine lv_iload_n cx.1 cx.2.1 dX5_all_5 rfl (lv_at hl 1 rfl) ?_
  refine lv_iconst (v := 5) cx.1 cx.2.1 dX5_all_6 (by decide) ?_
  refine lv_icmp_le (tgt := 14) cx.1 cx.2.1 dX5_all_7 (by decide) (fun h7 => ?_) (fun zz => absurd (by decide) zz)
  refine lv_iconst (v := 0) cx.1 cx.2.1 dX5_all_14 (by decide) ?_
  refine pf_X5_62 cx hW hS (by decide) dX5_all_15 (fun H locs hW hS => ?_)
  replace hW : Hd_ w (th_ a 0) H := hW
  refine lv_aload_n cx.1 cx.2.1 dX5_all_18 rfl (lv_at hl 0 rfl) ?_
  refine gf_X5_62 cx hW (by decide) dX5_all_19 ?_
  refine tp_i (y := 0) (th_20 a _) ?_
  refine lv_if_le (tgt := 27) cx.1 cx.2.1 dX5_all_22 (by decide) (fun h22 => ?_) (fun zz => absurd (by decide) zz)
  refine lv_lconst (v := 0) cx.1 cx.2.1 dX5_all_27 (by decide) ?_
  refine lv_lstore_n (lv' := [(2, .long 0), (0, .ref (ad_ w 20 0)), (1, .int 3)]) cx.1 cx.2.1 dX5_all_28 rfl hl (by decide) rfl (fun ls hl => ?_)
  refine lv_iconst (v := 0) cx.1 cx.2.1 dX5_all_29 (by decide) ?_
  refine lv_istore (lv' := [(4, .int 0), (2, .long 0), (0, .ref (ad_ w 20 0)), (1, .int 3)]) cx.1 cx.2.1 dX5_all_30 hl (by decide) rfl (fun ls hl => ?_)
  have L32 : ∀ (d i : Nat), i ≤ k → k - i < d → ∀ (H : Heap) (locs : List Loc) (ls : Array Slot), Hd_ w (th_ a 0) H → Fr_ w zs.heap H locs → lv_has ls 5 [(0, .ref (ad_ w 20 0)), (1, .int 3), (2, .long (qa_ (th_ a 0) 21 i)), (4, .int (nI i))] → W zp l ze { frames := 0, cells := 0, slots := 0, locals := 0 } zs zm ([.ref (ad_ w 20 0), .int 3] : List Value).toArray zb zt zc H locs 0 0 (vx_MQ zb (Qc_ w (.inl (some (.long (qa_ (th_ a 0) 21 k)))) (th_ a 0)) (XC_ w (.inl (some (.long (qa_ (th_ a 0) 21 k)))) (th_ a 0)) ([.ref (ad_ w 20 0), .int 3] : List Value).toArray zs 0 0 (fun q => lo_ w ≤ q)) (F0 zm 32 ls []) := by
    intro d
    induction d with
    | zero => intro i _ hd; exact absurd hd (Nat.not_lt_zero _)
    | succ d ih32 =>
      intro i hi hdi  H locs ls hW hS hl
      refine lv_iload cx.1 cx.2.1 dX5_all_32 (lv_at hl 3 rfl) ?_
      refine lv_aload_n cx.1 cx.2.1 dX5_all_34 rfl (lv_at hl 0 rfl) ?_
      refine gf_X5_66 cx hW (by decide) dX5_all_35 ?_
      refine tp_i (y := nI k) (by rw [th_gi _ _ _ _ _ (by decide)]; exact hk) ?_
      refine lv_icmp_ge (tgt := 81) cx.1 cx.2.1 dX5_all_38 (by decide) (fun h38 => ?_) (fun h38 => ?_)
      · skip
        have h38 : k ≤ i := (nI_leI (by omega) (by omega)).mp h38
        have e32 : i = k := by omega
        try rw [e32] at hl
        try rw [e32] at hW
        refine lv_iconst (v := 0) cx.1 cx.2.1 dX5_all_81 (by decide) ?_
        refine lv_istore (lv' := [(4, .int 0), (0, .ref (ad_ w 20 0)), (1, .int 3), (2, .long (qa_ (th_ a 0) 21 k))]) cx.1 cx.2.1 dX5_all_82 hl (by decide) rfl (fun ls hl => ?_)
        refine lv_iload cx.1 cx.2.1 dX5_all_84 (lv_at hl 0 rfl) ?_
        refine tp_i (y := nI 0) nI_0.symm ?_
        refine lv_bipush (v := 48) cx.1 cx.2.1 dX5_all_86 (by decide) ?_
        refine tp_i (y := nI 48) (by decide +kernel) ?_
        refine lv_icmp_ge (tgt := 127) cx.1 cx.2.1 dX5_all_88 (by decide) (fun zz => absurd zz (nI_ge (by decide) (by decide))) (fun h88 => ?_)
        refine lv_iload_n cx.1 cx.2.1 dX5_all_91 rfl (lv_at hl 2 rfl) ?_
        refine lv_iconst (v := 5) cx.1 cx.2.1 dX5_all_92 (by decide) ?_
        refine lv_icmp_ne (tgt := 127) cx.1 cx.2.1 dX5_all_93 (by decide) (fun h93 => ?_) (fun zz => absurd zz (by decide))
        refine lv_iload_n cx.1 cx.2.1 dX5_all_127 rfl (lv_at hl 2 rfl) ?_
        refine lv_if_ne (tgt := 138) cx.1 cx.2.1 dX5_all_128 (by decide) (fun h128 => ?_) (fun zz => absurd zz (by decide))
        refine lv_iload_n cx.1 cx.2.1 dX5_all_138 rfl (lv_at hl 2 rfl) ?_
        refine lv_iconst (v := 1) cx.1 cx.2.1 dX5_all_139 (by decide) ?_
        refine lv_icmp_ne (tgt := 150) cx.1 cx.2.1 dX5_all_140 (by decide) (fun h140 => ?_) (fun zz => absurd zz (by decide))
        refine lv_iload_n cx.1 cx.2.1 dX5_all_150 rfl (lv_at hl 2 rfl) ?_
        refine lv_iconst (v := 4) cx.1 cx.2.1 dX5_all_151 (by decide) ?_
        refine lv_icmp_ne (tgt := 162) cx.1 cx.2.1 dX5_all_152 (by decide) (fun h152 => ?_) (fun zz => absurd zz (by decide))
        refine lv_lload_n cx.1 cx.2.1 dX5_all_162 rfl (lv_at hl 3 rfl) ?_
        exact cr_l cx hr hlk hW hS (Nat.le_of_ble_eq_true rfl) (Nat.le_of_ble_eq_true rfl) dX5_all_163 rfl rfl
      · skip
        have h38 : i < k := Nat.not_le.mp (fun q => h38 ((nI_leI (by omega) (by omega)).mpr q))
        refine lv_lload_n cx.1 cx.2.1 dX5_all_41 rfl (lv_at hl 2 rfl) ?_
        refine lv_iload_n cx.1 cx.2.1 dX5_all_42 rfl (lv_at hl 1 rfl) ?_
        refine lv_iconst (v := 2) cx.1 cx.2.1 dX5_all_43 (by decide) ?_
        refine lv_icmp_ne (tgt := 57) cx.1 cx.2.1 dX5_all_44 (by decide) (fun h44 => ?_) (fun zz => absurd zz (by decide))
        refine lv_iload_n cx.1 cx.2.1 dX5_all_57 rfl (lv_at hl 1 rfl) ?_
        refine lv_iconst (v := 3) cx.1 cx.2.1 dX5_all_58 (by decide) ?_
        refine lv_icmp_ne (tgt := 72) cx.1 cx.2.1 dX5_all_59 (by decide) (fun zz => absurd rfl zz) (fun h59 => ?_)
        refine lv_aload_n cx.1 cx.2.1 dX5_all_62 rfl (lv_at hl 0 rfl) ?_
        refine gf_X5_13 cx hW (by decide) dX5_all_63 ?_
        refine lv_iload cx.1 cx.2.1 dX5_all_66 (lv_at hl 3 rfl) ?_
        refine al_22 (j := i) cx hW (by decide) rfl (by omega) dX5_all_68 ?_
        refine lv_goto (tgt := 73) cx.1 cx.2.1 dX5_all_69 (by decide) ?_
        refine lv_ladd cx.1 cx.2.1 dX5_all_73 ?_
        refine lv_lstore_n (lv' := [(2, .long ((qa_ (th_ a 0) 21 i) + (gl_ (th_ a 0) 21 0 i))), (0, .ref (ad_ w 20 0)), (1, .int 3), (4, .int (nI i))]) cx.1 cx.2.1 dX5_all_74 rfl hl (by decide) rfl (fun ls hl => ?_)
        refine lv_iinc (v := nI (i + 1)) (lv' := [(4, .int (nI (i + 1))), (2, .long ((qa_ (th_ a 0) 21 i) + (gl_ (th_ a 0) 21 0 i))), (0, .ref (ad_ w 20 0)), (1, .int 3)]) cx.1 cx.2.1 dX5_all_75 hl (k := 3) rfl (nI_inc i) (by decide) rfl (fun ls hl => ?_)
        refine lv_goto (tgt := 32) cx.1 cx.2.1 dX5_all_78 (by decide) ?_
        exact ih32 (i + 1) (by omega) (by omega)  H locs ls hW hS (lv_sub (l' := [(0, .ref (ad_ w 20 0)), (1, .int 3), (2, .long (qa_ (th_ a 0) 21 (i + 1))), (4, .int (nI (i + 1)))]) hl [2, 3, 1, 0] rfl)
  exact L32 (k - 0 + 1) 0 (by omega) (by omega)  H locs ls hW hS (lv_sub hl [2, 3, 1, 0] rfl)
set_option maxHeartbeats 4000000 in
set_option maxRecDepth 100000 in
theorem c_X5_all_4 (l : Launch) {w : Gh_} (hI : In_ w) (a : St_) (k : Nat) (hk : gi_ a 21 0 0 = nI k) (hk8 : k ≤ 8) : Fn_ l w yX5_all (.code yX5_all cX5_all 5 (some .long)) { frames := 0, cells := 0, slots := 0, locals := 0 } 0 0 [.ref (ad_ w 20 0), .int 4] a (.inl (some (.long (gl_ a 24 0 0)))) (th_ a 0) := by
  refine Fn_of hI (by decide +kernel) (Nat.le_of_ble_eq_true rfl) ?_
  intro zp ze zs zm zb zt zc ls cx hr hlk hno hW hS hl
  replace cx : Cx_ zp zs zm zc _ cX5_all 5 "MarginHouseModel" w := cx
  replace hl : lv_has ls 5 [(0, .ref (ad_ w 20 0)), (1, .int 4)] := hl
  obtain ⟨H, hH⟩ : ∃ H, zs.heap = H := ⟨_, rfl⟩
  rw [hH] at hW
  have hS : Fr_ w zs.heap H [] := by rw [← hH]; exact hS
  obtain ⟨locs, hlocs⟩ : ∃ x : List Loc, x = [] := ⟨_, rfl⟩
  rw [← hlocs] at hS ⊢
  rw [show W zp l ze _ zs zm _ zb zt zc zs.heap locs 0 0 _ (F0 zm 0 ls []) ↔ W zp l ze _ zs zm _ zb zt zc H locs 0 0 _ (F0 zm 0 ls []) from by rw [hH]]
  refine lv_aload_n cx.1 cx.2.1 dX5_all_0 rfl (lv_at hl 0 rfl) ?_
  refine lv_iload_n cx.1 cx.2.1 dX5_all_1 rfl (lv_at hl 1 rfl) ?_
  refine lv_if_lt (tgt := 10) cx.1 cx.2.1 dX5_all_2 (by decide) (fun zz => absurd zz (by decide)) (fun h2 => ?_)
  refine lv_iload_n cx.1 cx.2.1 dX5_all_5 rfl (lv_at hl 1 rfl) ?_
  refine lv_iconst (v := 5) cx.1 cx.2.1 dX5_all_6 (by decide) ?_
  refine lv_icmp_le (tgt := 14) cx.1 cx.2.1 dX5_all_7 (by decide) (fun h7 => ?_) (fun zz => absurd (by decide) zz)
  refine lv_iconst (v := 0) cx.1 cx.2.1 dX5_all_14 (by decide) ?_
  refine pf_X5_62 cx hW hS (by decide) dX5_all_15 (fun H locs hW hS => ?_)
  replace hW : Hd_ w (th_ a 0) H := hW
  refine lv_aload_n cx.1 cx.2.1 dX5_all_18 rfl (lv_at hl 0 rfl) ?_
  refine gf_X5_62 cx hW (by decide) dX5_all_19 ?_
  refine tp_i (y := 0) (th_20 a _) ?_
  refine lv_if_le (tgt := 27) cx.1 cx.2.1 dX5_all_22 (by decide) (fun h22 => ?_) (fun zz => absurd (by decide) zz)
  refine lv_lconst (v := 0) cx.1 cx.2.1 dX5_all_27 (by decide) ?_
  refine lv_lstore_n (lv' := [(2, .long 0), (0, .ref (ad_ w 20 0)), (1, .int 4)]) cx.1 cx.2.1 dX5_all_28 rfl hl (by decide) rfl (fun ls hl => ?_)
  refine lv_iconst (v := 0) cx.1 cx.2.1 dX5_all_29 (by decide) ?_
  refine lv_istore (lv' := [(4, .int 0), (2, .long 0), (0, .ref (ad_ w 20 0)), (1, .int 4)]) cx.1 cx.2.1 dX5_all_30 hl (by decide) rfl (fun ls hl => ?_)
  have L32 : ∀ (d i : Nat), i ≤ k → k - i < d → ∀ (H : Heap) (locs : List Loc) (ls : Array Slot), Hd_ w (th_ a 0) H → Fr_ w zs.heap H locs → lv_has ls 5 [(0, .ref (ad_ w 20 0)), (1, .int 4), (2, .long (qz_ i)), (4, .int (nI i))] → W zp l ze { frames := 0, cells := 0, slots := 0, locals := 0 } zs zm ([.ref (ad_ w 20 0), .int 4] : List Value).toArray zb zt zc H locs 0 0 (vx_MQ zb (Qc_ w (.inl (some (.long (gl_ a 24 0 0)))) (th_ a 0)) (XC_ w (.inl (some (.long (gl_ a 24 0 0)))) (th_ a 0)) ([.ref (ad_ w 20 0), .int 4] : List Value).toArray zs 0 0 (fun q => lo_ w ≤ q)) (F0 zm 32 ls []) := by
    intro d
    induction d with
    | zero => intro i _ hd; exact absurd hd (Nat.not_lt_zero _)
    | succ d ih32 =>
      intro i hi hdi  H locs ls hW hS hl
      refine lv_iload cx.1 cx.2.1 dX5_all_32 (lv_at hl 3 rfl) ?_
      refine lv_aload_n cx.1 cx.2.1 dX5_all_34 rfl (lv_at hl 0 rfl) ?_
      refine gf_X5_66 cx hW (by decide) dX5_all_35 ?_
      refine tp_i (y := nI k) (by rw [th_gi _ _ _ _ _ (by decide)]; exact hk) ?_
      refine lv_icmp_ge (tgt := 81) cx.1 cx.2.1 dX5_all_38 (by decide) (fun h38 => ?_) (fun h38 => ?_)
      · skip
        have h38 : k ≤ i := (nI_leI (by omega) (by omega)).mp h38
        have e32 : i = k := by omega
        try rw [e32] at hl
        try rw [e32] at hW
        refine lv_iconst (v := 0) cx.1 cx.2.1 dX5_all_81 (by decide) ?_
        refine lv_istore (lv' := [(4, .int 0), (0, .ref (ad_ w 20 0)), (1, .int 4), (2, .long (qz_ k))]) cx.1 cx.2.1 dX5_all_82 hl (by decide) rfl (fun ls hl => ?_)
        refine lv_iload cx.1 cx.2.1 dX5_all_84 (lv_at hl 0 rfl) ?_
        refine tp_i (y := nI 0) nI_0.symm ?_
        refine lv_bipush (v := 48) cx.1 cx.2.1 dX5_all_86 (by decide) ?_
        refine tp_i (y := nI 48) (by decide +kernel) ?_
        refine lv_icmp_ge (tgt := 127) cx.1 cx.2.1 dX5_all_88 (by decide) (fun zz => absurd zz (nI_ge (by decide) (by decide))) (fun h88 => ?_)
        refine lv_iload_n cx.1 cx.2.1 dX5_all_91 rfl (lv_at hl 2 rfl) ?_
        refine lv_iconst (v := 5) cx.1 cx.2.1 dX5_all_92 (by decide) ?_
        refine lv_icmp_ne (tgt := 127) cx.1 cx.2.1 dX5_all_93 (by decide) (fun h93 => ?_) (fun zz => absurd zz (by decide))
        refine lv_iload_n cx.1 cx.2.1 dX5_all_127 rfl (lv_at hl 2 rfl) ?_
        refine lv_if_ne (tgt := 138) cx.1 cx.2.1 dX5_all_128 (by decide) (fun h128 => ?_) (fun zz => absurd zz (by decide))
        refine lv_iload_n cx.1 cx.2.1 dX5_all_138 rfl (lv_at hl 2 rfl) ?_
        refine lv_iconst (v := 1) cx.1 cx.2.1 dX5_all_139 (by decide) ?_
        refine lv_icmp_ne (tgt := 150) cx.1 cx.2.1 dX5_all_140 (by decide) (fun h140 => ?_) (fun zz => absurd zz (by decide))
        refine lv_iload_n cx.1 cx.2.1 dX5_all_150 rfl (lv_at hl 2 rfl) ?_
        refine lv_iconst (v := 4) cx.1 cx.2.1 dX5_all_151 (by decide) ?_
        refine lv_icmp_ne (tgt := 162) cx.1 cx.2.1 dX5_all_152 (by decide) (fun zz => absurd rfl zz) (fun h152 => ?_)
        refine lv_aload_n cx.1 cx.2.1 dX5_all_155 rfl (lv_at hl 1 rfl) ?_
        refine gf_X5_111 cx hW (by decide) dX5_all_156 ?_
        refine lv_goto (tgt := 163) cx.1 cx.2.1 dX5_all_159 (by decide) ?_
        exact cr_l cx hr hlk hW hS (Nat.le_of_ble_eq_true rfl) (Nat.le_of_ble_eq_true rfl) dX5_all_163 rfl rfl
      · skip
        have h38 : i < k := Nat.not_le.mp (fun q => h38 ((nI_leI (by omega) (by omega)).mpr q))
        refine lv_lload_n cx.1 cx.2.1 dX5_all_41 rfl (lv_at hl 2 rfl) ?_
        refine lv_iload_n cx.1 cx.2.1 dX5_all_42 rfl (lv_at hl 1 rfl) ?_
        refine lv_iconst (v := 2) cx.1 cx.2.1 dX5_all_43 (by decide) ?_
        refine lv_icmp_ne (tgt := 57) cx.1 cx.2.1 dX5_all_44 (by decide) (fun h44 => ?_) (fun zz => absurd zz (by decide))
        refine lv_iload_n cx.1 cx.2.1 dX5_all_57 rfl (lv_at hl 1 rfl) ?_
        refine lv_iconst (v := 3) cx.1 cx.2.1 dX5_all_58 (by decide) ?_
        refine lv_icmp_ne (tgt := 72) cx.1 cx.2.1 dX5_all_59 (by decide) (fun h59 => ?_) (fun zz => absurd zz (by decide))
        refine lv_lconst (v := 0) cx.1 cx.2.1 dX5_all_72 (by decide) ?_
        refine lv_ladd cx.1 cx.2.1 dX5_all_73 ?_
        refine lv_lstore_n (lv' := [(2, .long ((qz_ i) + 0)), (0, .ref (ad_ w 20 0)), (1, .int 4), (4, .int (nI i))]) cx.1 cx.2.1 dX5_all_74 rfl hl (by decide) rfl (fun ls hl => ?_)
        refine lv_iinc (v := nI (i + 1)) (lv' := [(4, .int (nI (i + 1))), (2, .long ((qz_ i) + 0)), (0, .ref (ad_ w 20 0)), (1, .int 4)]) cx.1 cx.2.1 dX5_all_75 hl (k := 3) rfl (nI_inc i) (by decide) rfl (fun ls hl => ?_)
        refine lv_goto (tgt := 32) cx.1 cx.2.1 dX5_all_78 (by decide) ?_
        exact ih32 (i + 1) (by omega) (by omega)  H locs ls hW hS (lv_sub (l' := [(0, .ref (ad_ w 20 0)), (1, .int 4), (2, .long (qz_ (i + 1))), (4, .int (nI (i + 1)))]) hl [2, 3, 1, 0] rfl)
  exact L32 (k - 0 + 1) 0 (by omega) (by omega)  H locs ls hW hS (lv_sub hl [2, 3, 1, 0] rfl)
set_option maxHeartbeats 4000000 in
set_option maxRecDepth 100000 in
theorem c_X5_all_5 (l : Launch) {w : Gh_} (hI : In_ w) (a : St_) (k : Nat) (hk : gi_ a 21 0 0 = nI k) (hk8 : k ≤ 8) : Fn_ l w yX5_all (.code yX5_all cX5_all 5 (some .long)) { frames := 0, cells := 0, slots := 0, locals := 0 } 0 0 [.ref (ad_ w 20 0), .int 5] a (.inl (some (.long (qo_ (th_ a 0) (qz_ k) 48)))) (th_ a 0) := by
  refine Fn_of hI (by decide +kernel) (Nat.le_of_ble_eq_true rfl) ?_
  intro zp ze zs zm zb zt zc ls cx hr hlk hno hW hS hl
  replace cx : Cx_ zp zs zm zc _ cX5_all 5 "MarginHouseModel" w := cx
  replace hl : lv_has ls 5 [(0, .ref (ad_ w 20 0)), (1, .int 5)] := hl
  obtain ⟨H, hH⟩ : ∃ H, zs.heap = H := ⟨_, rfl⟩
  rw [hH] at hW
  have hS : Fr_ w zs.heap H [] := by rw [← hH]; exact hS
  obtain ⟨locs, hlocs⟩ : ∃ x : List Loc, x = [] := ⟨_, rfl⟩
  rw [← hlocs] at hS ⊢
  rw [show W zp l ze _ zs zm _ zb zt zc zs.heap locs 0 0 _ (F0 zm 0 ls []) ↔ W zp l ze _ zs zm _ zb zt zc H locs 0 0 _ (F0 zm 0 ls []) from by rw [hH]]
  refine lv_aload_n cx.1 cx.2.1 dX5_all_0 rfl (lv_at hl 0 rfl) ?_
  refine lv_iload_n cx.1 cx.2.1 dX5_all_1 rfl (lv_at hl 1 rfl) ?_
  refine lv_if_lt (tgt := 10) cx.1 cx.2.1 dX5_all_2 (by decide) (fun zz => absurd zz (by decide)) (fun h2 => ?_)
  refine lv_iload_n cx.1 cx.2.1 dX5_all_5 rfl (lv_at hl 1 rfl) ?_
  refine lv_iconst (v := 5) cx.1 cx.2.1 dX5_all_6 (by decide) ?_
  refine lv_icmp_le (tgt := 14) cx.1 cx.2.1 dX5_all_7 (by decide) (fun h7 => ?_) (fun zz => absurd (by decide) zz)
  refine lv_iconst (v := 0) cx.1 cx.2.1 dX5_all_14 (by decide) ?_
  refine pf_X5_62 cx hW hS (by decide) dX5_all_15 (fun H locs hW hS => ?_)
  replace hW : Hd_ w (th_ a 0) H := hW
  refine lv_aload_n cx.1 cx.2.1 dX5_all_18 rfl (lv_at hl 0 rfl) ?_
  refine gf_X5_62 cx hW (by decide) dX5_all_19 ?_
  refine tp_i (y := 0) (th_20 a _) ?_
  refine lv_if_le (tgt := 27) cx.1 cx.2.1 dX5_all_22 (by decide) (fun h22 => ?_) (fun zz => absurd (by decide) zz)
  refine lv_lconst (v := 0) cx.1 cx.2.1 dX5_all_27 (by decide) ?_
  refine lv_lstore_n (lv' := [(2, .long 0), (0, .ref (ad_ w 20 0)), (1, .int 5)]) cx.1 cx.2.1 dX5_all_28 rfl hl (by decide) rfl (fun ls hl => ?_)
  refine lv_iconst (v := 0) cx.1 cx.2.1 dX5_all_29 (by decide) ?_
  refine lv_istore (lv' := [(4, .int 0), (2, .long 0), (0, .ref (ad_ w 20 0)), (1, .int 5)]) cx.1 cx.2.1 dX5_all_30 hl (by decide) rfl (fun ls hl => ?_)
  have L32 : ∀ (d i : Nat), i ≤ k → k - i < d → ∀ (H : Heap) (locs : List Loc) (ls : Array Slot), Hd_ w (th_ a 0) H → Fr_ w zs.heap H locs → lv_has ls 5 [(0, .ref (ad_ w 20 0)), (1, .int 5), (2, .long (qz_ i)), (4, .int (nI i))] → W zp l ze { frames := 0, cells := 0, slots := 0, locals := 0 } zs zm ([.ref (ad_ w 20 0), .int 5] : List Value).toArray zb zt zc H locs 0 0 (vx_MQ zb (Qc_ w (.inl (some (.long (qo_ (th_ a 0) (qz_ k) 48)))) (th_ a 0)) (XC_ w (.inl (some (.long (qo_ (th_ a 0) (qz_ k) 48)))) (th_ a 0)) ([.ref (ad_ w 20 0), .int 5] : List Value).toArray zs 0 0 (fun q => lo_ w ≤ q)) (F0 zm 32 ls []) := by
    intro d
    induction d with
    | zero => intro i _ hd; exact absurd hd (Nat.not_lt_zero _)
    | succ d ih32 =>
      intro i hi hdi  H locs ls hW hS hl
      refine lv_iload cx.1 cx.2.1 dX5_all_32 (lv_at hl 3 rfl) ?_
      refine lv_aload_n cx.1 cx.2.1 dX5_all_34 rfl (lv_at hl 0 rfl) ?_
      refine gf_X5_66 cx hW (by decide) dX5_all_35 ?_
      refine tp_i (y := nI k) (by rw [th_gi _ _ _ _ _ (by decide)]; exact hk) ?_
      refine lv_icmp_ge (tgt := 81) cx.1 cx.2.1 dX5_all_38 (by decide) (fun h38 => ?_) (fun h38 => ?_)
      · skip
        have h38 : k ≤ i := (nI_leI (by omega) (by omega)).mp h38
        have e32 : i = k := by omega
        try rw [e32] at hl
        try rw [e32] at hW
        refine lv_iconst (v := 0) cx.1 cx.2.1 dX5_all_81 (by decide) ?_
        refine lv_istore (lv' := [(4, .int 0), (0, .ref (ad_ w 20 0)), (1, .int 5), (2, .long (qz_ k))]) cx.1 cx.2.1 dX5_all_82 hl (by decide) rfl (fun ls hl => ?_)
        have L84 : ∀ (d i : Nat), i ≤ 48 → 48 - i < d → ∀ (H : Heap) (locs : List Loc) (ls : Array Slot), Hd_ w (th_ a 0) H → Fr_ w zs.heap H locs → lv_has ls 5 [(0, .ref (ad_ w 20 0)), (1, .int 5), (2, .long (qo_ (th_ a 0) (qz_ k) i)), (4, .int (nI i))] → W zp l ze { frames := 0, cells := 0, slots := 0, locals := 0 } zs zm ([.ref (ad_ w 20 0), .int 5] : List Value).toArray zb zt zc H locs 0 0 (vx_MQ zb (Qc_ w (.inl (some (.long (qo_ (th_ a 0) (qz_ k) 48)))) (th_ a 0)) (XC_ w (.inl (some (.long (qo_ (th_ a 0) (qz_ k) 48)))) (th_ a 0)) ([.ref (ad_ w 20 0), .int 5] : List Value).toArray zs 0 0 (fun q => lo_ w ≤ q)) (F0 zm 84 ls []) := by
          intro d
          induction d with
          | zero => intro i _ hd; exact absurd hd (Nat.not_lt_zero _)
          | succ d ih84 =>
            intro i hi hdi  H locs ls hW hS hl
            refine lv_iload cx.1 cx.2.1 dX5_all_84 (lv_at hl 3 rfl) ?_
            refine lv_bipush (v := 48) cx.1 cx.2.1 dX5_all_86 (by decide) ?_
            refine tp_i (y := nI 48) (by decide +kernel) ?_
            refine lv_icmp_ge (tgt := 127) cx.1 cx.2.1 dX5_all_88 (by decide) (fun h88 => ?_) (fun h88 => ?_)
            · skip
              have h88 : 48 ≤ i := (nI_leI (by omega) (by omega)).mp h88
              have e84 : i = 48 := by omega
              try rw [e84] at hl
              try rw [e84] at hW
              refine lv_iload_n cx.1 cx.2.1 dX5_all_127 rfl (lv_at hl 1 rfl) ?_
              refine lv_if_ne (tgt := 138) cx.1 cx.2.1 dX5_all_128 (by decide) (fun h128 => ?_) (fun zz => absurd zz (by decide))
              refine lv_iload_n cx.1 cx.2.1 dX5_all_138 rfl (lv_at hl 1 rfl) ?_
              refine lv_iconst (v := 1) cx.1 cx.2.1 dX5_all_139 (by decide) ?_
              refine lv_icmp_ne (tgt := 150) cx.1 cx.2.1 dX5_all_140 (by decide) (fun h140 => ?_) (fun zz => absurd zz (by decide))
              refine lv_iload_n cx.1 cx.2.1 dX5_all_150 rfl (lv_at hl 1 rfl) ?_
              refine lv_iconst (v := 4) cx.1 cx.2.1 dX5_all_151 (by decide) ?_
              refine lv_icmp_ne (tgt := 162) cx.1 cx.2.1 dX5_all_152 (by decide) (fun h152 => ?_) (fun zz => absurd zz (by decide))
              refine lv_lload_n cx.1 cx.2.1 dX5_all_162 rfl (lv_at hl 2 rfl) ?_
              exact cr_l cx hr hlk hW hS (Nat.le_of_ble_eq_true rfl) (Nat.le_of_ble_eq_true rfl) dX5_all_163 rfl rfl
            · skip
              have h88 : i < 48 := Nat.not_le.mp (fun q => h88 ((nI_leI (by omega) (by omega)).mpr q))
              refine lv_iload_n cx.1 cx.2.1 dX5_all_91 rfl (lv_at hl 1 rfl) ?_
              refine lv_iconst (v := 5) cx.1 cx.2.1 dX5_all_92 (by decide) ?_
              refine lv_icmp_ne (tgt := 127) cx.1 cx.2.1 dX5_all_93 (by decide) (fun zz => absurd rfl zz) (fun h93 => ?_)
              refine lv_lload_n cx.1 cx.2.1 dX5_all_96 rfl (lv_at hl 2 rfl) ?_
              refine lv_aload_n cx.1 cx.2.1 dX5_all_97 rfl (lv_at hl 0 rfl) ?_
              refine gf_X5_20 cx hW (by decide) dX5_all_98 ?_
              refine lv_iload cx.1 cx.2.1 dX5_all_101 (lv_at hl 3 rfl) ?_
              refine al_24 (j := i) cx hW (by decide) rfl (by omega) dX5_all_103 ?_
              refine lv_if_le (tgt := 117) cx.1 cx.2.1 dX5_all_104 (by decide) (fun h104 => ?_) (fun h104 => ?_)
              · skip
                skip
                refine lv_iconst (v := 0) cx.1 cx.2.1 dX5_all_117 (by decide) ?_
                refine tp_i (y := if gi_ (th_ a 0) 24 0 i ≤ 0 then 0 else gi_ (th_ a 0) 24 0 i) (by rw [if_pos h104]) ?_
                refine lv_i2l (v := (if gi_ (th_ a 0) 24 0 i ≤ 0 then 0 else gi_ (th_ a 0) 24 0 i).toInt64) cx.1 cx.2.1 dX5_all_118 rfl ?_
                refine lv_ladd cx.1 cx.2.1 dX5_all_119 ?_
                refine lv_lstore_n (lv' := [(2, .long ((qo_ (th_ a 0) (qz_ k) i) + ((if gi_ (th_ a 0) 24 0 i ≤ 0 then 0 else gi_ (th_ a 0) 24 0 i).toInt64))), (0, .ref (ad_ w 20 0)), (1, .int 5), (4, .int (nI i))]) cx.1 cx.2.1 dX5_all_120 rfl hl (by decide) rfl (fun ls hl => ?_)
                refine lv_iinc (v := nI (i + 1)) (lv' := [(4, .int (nI (i + 1))), (2, .long ((qo_ (th_ a 0) (qz_ k) i) + ((if gi_ (th_ a 0) 24 0 i ≤ 0 then 0 else gi_ (th_ a 0) 24 0 i).toInt64))), (0, .ref (ad_ w 20 0)), (1, .int 5)]) cx.1 cx.2.1 dX5_all_121 hl (k := 3) rfl (nI_inc i) (by decide) rfl (fun ls hl => ?_)
                refine lv_goto (tgt := 84) cx.1 cx.2.1 dX5_all_124 (by decide) ?_
                exact ih84 (i + 1) (by omega) (by omega)  H locs ls hW hS (lv_sub (l' := [(0, .ref (ad_ w 20 0)), (1, .int 5), (2, .long (qo_ (th_ a 0) (qz_ k) (i + 1))), (4, .int (nI (i + 1)))]) hl [2, 3, 1, 0] rfl)
              · skip
                skip
                refine lv_aload_n cx.1 cx.2.1 dX5_all_107 rfl (lv_at hl 0 rfl) ?_
                refine gf_X5_20 cx hW (by decide) dX5_all_108 ?_
                refine lv_iload cx.1 cx.2.1 dX5_all_111 (lv_at hl 3 rfl) ?_
                refine al_24 (j := i) cx hW (by decide) rfl (by omega) dX5_all_113 ?_
                refine lv_goto (tgt := 118) cx.1 cx.2.1 dX5_all_114 (by decide) ?_
                refine tp_i (y := if gi_ (th_ a 0) 24 0 i ≤ 0 then 0 else gi_ (th_ a 0) 24 0 i) (by rw [if_neg h104]) ?_
                refine lv_i2l (v := (if gi_ (th_ a 0) 24 0 i ≤ 0 then 0 else gi_ (th_ a 0) 24 0 i).toInt64) cx.1 cx.2.1 dX5_all_118 rfl ?_
                refine lv_ladd cx.1 cx.2.1 dX5_all_119 ?_
                refine lv_lstore_n (lv' := [(2, .long ((qo_ (th_ a 0) (qz_ k) i) + ((if gi_ (th_ a 0) 24 0 i ≤ 0 then 0 else gi_ (th_ a 0) 24 0 i).toInt64))), (0, .ref (ad_ w 20 0)), (1, .int 5), (4, .int (nI i))]) cx.1 cx.2.1 dX5_all_120 rfl hl (by decide) rfl (fun ls hl => ?_)
                refine lv_iinc (v := nI (i + 1)) (lv' := [(4, .int (nI (i + 1))), (2, .long ((qo_ (th_ a 0) (qz_ k) i) + ((if gi_ (th_ a 0) 24 0 i ≤ 0 then 0 else gi_ (th_ a 0) 24 0 i).toInt64))), (0, .ref (ad_ w 20 0)), (1, .int 5)]) cx.1 cx.2.1 dX5_all_121 hl (k := 3) rfl (nI_inc i) (by decide) rfl (fun ls hl => ?_)
                refine lv_goto (tgt := 84) cx.1 cx.2.1 dX5_all_124 (by decide) ?_
                exact ih84 (i + 1) (by omega) (by omega)  H locs ls hW hS (lv_sub (l' := [(0, .ref (ad_ w 20 0)), (1, .int 5), (2, .long (qo_ (th_ a 0) (qz_ k) (i + 1))), (4, .int (nI (i + 1)))]) hl [2, 3, 1, 0] rfl)
        exact L84 (48 - 0 + 1) 0 (by omega) (by omega)  H locs ls hW hS (lv_sub hl [1, 2, 3, 0] rfl)
      · skip
        have h38 : i < k := Nat.not_le.mp (fun q => h38 ((nI_leI (by omega) (by omega)).mpr q))
        refine lv_lload_n cx.1 cx.2.1 dX5_all_41 rfl (lv_at hl 2 rfl) ?_
        refine lv_iload_n cx.1 cx.2.1 dX5_all_42 rfl (lv_at hl 1 rfl) ?_
        refine lv_iconst (v := 2) cx.1 cx.2.1 dX5_all_43 (by decide) ?_
        refine lv_icmp_ne (tgt := 57) cx.1 cx.2.1 dX5_all_44 (by decide) (fun h44 => ?_) (fun zz => absurd zz (by decide))
        refine lv_iload_n cx.1 cx.2.1 dX5_all_57 rfl (lv_at hl 1 rfl) ?_
        refine lv_iconst (v := 3) cx.1 cx.2.1 dX5_all_58 (by decide) ?_
        refine lv_icmp_ne (tgt := 72) cx.1 cx.2.1 dX5_all_59 (by decide) (fun h59 => ?_) (fun zz => absurd zz (by decide))
        refine lv_lconst (v := 0) cx.1 cx.2.1 dX5_all_72 (by decide) ?_
        refine lv_ladd cx.1 cx.2.1 dX5_all_73 ?_
        refine lv_lstore_n (lv' := [(2, .long ((qz_ i) + 0)), (0, .ref (ad_ w 20 0)), (1, .int 5), (4, .int (nI i))]) cx.1 cx.2.1 dX5_all_74 rfl hl (by decide) rfl (fun ls hl => ?_)
        refine lv_iinc (v := nI (i + 1)) (lv' := [(4, .int (nI (i + 1))), (2, .long ((qz_ i) + 0)), (0, .ref (ad_ w 20 0)), (1, .int 5)]) cx.1 cx.2.1 dX5_all_75 hl (k := 3) rfl (nI_inc i) (by decide) rfl (fun ls hl => ?_)
        refine lv_goto (tgt := 32) cx.1 cx.2.1 dX5_all_78 (by decide) ?_
        exact ih32 (i + 1) (by omega) (by omega)  H locs ls hW hS (lv_sub (l' := [(0, .ref (ad_ w 20 0)), (1, .int 5), (2, .long (qz_ (i + 1))), (4, .int (nI (i + 1)))]) hl [2, 3, 1, 0] rfl)
  exact L32 (k - 0 + 1) 0 (by omega) (by omega)  H locs ls hW hS (lv_sub hl [2, 3, 1, 0] rfl)
