/-! MarginHouse: trade, mark, declare, closeOut -/
set_option maxHeartbeats 4000000 in
set_option maxRecDepth 100000 in
theorem c_X4_trade_ia (l : Launch) {w : Gh_} (hI : In_ w) (hst : l.stackTraces = false) (a : St_) (x y z u v : Int32) (h : ¬ ((wi_ x.toInt64 0 (gi_ a 0 0 0 - 1).toInt64 ∧ wi_ y.toInt64 0 (gi_ a 0 0 0 - 1).toInt64 ∧ ¬ x = y ∧ wi_ z.toInt64 0 (gi_ a 1 0 0 - 1).toInt64) ∧ wi_ u.toInt64 1 100000 ∧ wi_ v.toInt64 0 1000000)) : Fn_ l w yX4_trade (.code yX4_trade cX4_trade 10 (some .int)) { frames := 7, cells := 1, slots := 6, locals := 111 } 1 6 [.ref (ad_ w 0 0), .int x, .int y, .int z, .int u, .int v] a (.inr IA_) a := by
  refine Fn_of hI (by decide +kernel) (Nat.le_of_ble_eq_true rfl) ?_
  intro zp ze zs zm zb zt zc ls cx hr hlk hno hW hS hl
  replace cx : Cx_ zp zs zm zc _ cX4_trade 10 "MarginHouse" w := cx
  replace hl : lv_has ls 10 [(0, .ref (ad_ w 0 0)), (1, .int x), (2, .int y), (3, .int z), (4, .int u), (5, .int v)] := hl
  obtain ⟨H, hH⟩ : ∃ H, zs.heap = H := ⟨_, rfl⟩
  rw [hH] at hW
  have hS : Fr_ w zs.heap H [] := by rw [← hH]; exact hS
  obtain ⟨locs, hlocs⟩ : ∃ x : List Loc, x = [] := ⟨_, rfl⟩
  rw [← hlocs] at hS ⊢
  rw [show W zp l ze _ zs zm _ zb zt zc zs.heap locs 0 0 _ (F0 zm 0 ls []) ↔ W zp l ze _ zs zm _ zb zt zc H locs 0 0 _ (F0 zm 0 ls []) from by rw [hH]]
  refine lv_aload_n cx.1 cx.2.1 dX4_trade_0 rfl (lv_at hl 0 rfl) ?_
  refine lv_iload_n cx.1 cx.2.1 dX4_trade_1 rfl (lv_at hl 1 rfl) ?_
  refine ck_V (v := some (.int (if wi_ x.toInt64 0 (gi_ a 0 0 0 - 1).toInt64 then 1 else 0))) (As := [.int x]) (rest := []) (k := 0) (i := 0) (T := TX4) cx hW hS hl (by decide) rfl rfl (c_X4_isMember l hI a x) cw_X4_isMember nw_182 nw_523 nw_181 rfl rfl (Nat.le_of_ble_eq_true rfl) rfl rfl ⟨Nat.le_of_ble_eq_true rfl, Nat.le_of_ble_eq_true rfl⟩ ⟨Nat.le_of_ble_eq_true rfl, Nat.le_of_ble_eq_true rfl⟩ dX4_trade_2 (fun H locs hW hS => ?_)
  refine W.eq (g2 := F0 zm 5 ls [.int (if wi_ x.toInt64 0 (gi_ a 0 0 0 - 1).toInt64 then 1 else 0)]) rfl ?_
  refine lv_if_eq (tgt := 33) cx.1 cx.2.1 dX4_trade_5 (by decide) (fun h5 => ?_) (fun h5 => ?_)
  · skip
    have h5 := bz_0 h5
    refine lv_iconst (v := 0) cx.1 cx.2.1 dX4_trade_33 (by decide) ?_
    exact ct_S (As := [.int 0]) (rest := []) cx hlk hno hW hS hl (c_X4_need_bad l hI hst a) cw_X4_need nw_123 nw_122 rfl rfl (Nat.le_of_ble_eq_true rfl) rfl rfl ⟨Nat.le_of_ble_eq_true rfl, Nat.le_of_ble_eq_true rfl⟩ ⟨Nat.le_of_ble_eq_true rfl, Nat.le_of_ble_eq_true rfl⟩ dX4_trade_34 (Nat.le_of_ble_eq_true rfl) (Nat.le_of_ble_eq_true rfl) rfl rfl
  · skip
    have h5 := bz_1 h5
    refine lv_aload_n cx.1 cx.2.1 dX4_trade_8 rfl (lv_at hl 0 rfl) ?_
    refine lv_iload_n cx.1 cx.2.1 dX4_trade_9 rfl (lv_at hl 2 rfl) ?_
    refine ck_V (v := some (.int (if wi_ y.toInt64 0 (gi_ a 0 0 0 - 1).toInt64 then 1 else 0))) (As := [.int y]) (rest := []) (k := 0) (i := 0) (T := TX4) cx hW hS hl (by decide) rfl rfl (c_X4_isMember l hI a y) cw_X4_isMember nw_182 nw_523 nw_181 rfl rfl (Nat.le_of_ble_eq_true rfl) rfl rfl ⟨Nat.le_of_ble_eq_true rfl, Nat.le_of_ble_eq_true rfl⟩ ⟨Nat.le_of_ble_eq_true rfl, Nat.le_of_ble_eq_true rfl⟩ dX4_trade_10 (fun H locs hW hS => ?_)
    refine W.eq (g2 := F0 zm 13 ls [.int (if wi_ y.toInt64 0 (gi_ a 0 0 0 - 1).toInt64 then 1 else 0)]) rfl ?_
    refine lv_if_eq (tgt := 33) cx.1 cx.2.1 dX4_trade_13 (by decide) (fun h13 => ?_) (fun h13 => ?_)
    · skip
      have h13 := bz_0 h13
      refine lv_iconst (v := 0) cx.1 cx.2.1 dX4_trade_33 (by decide) ?_
      exact ct_S (As := [.int 0]) (rest := []) cx hlk hno hW hS hl (c_X4_need_bad l hI hst a) cw_X4_need nw_123 nw_122 rfl rfl (Nat.le_of_ble_eq_true rfl) rfl rfl ⟨Nat.le_of_ble_eq_true rfl, Nat.le_of_ble_eq_true rfl⟩ ⟨Nat.le_of_ble_eq_true rfl, Nat.le_of_ble_eq_true rfl⟩ dX4_trade_34 (Nat.le_of_ble_eq_true rfl) (Nat.le_of_ble_eq_true rfl) rfl rfl
    · skip
      have h13 := bz_1 h13
      refine lv_iload_n cx.1 cx.2.1 dX4_trade_16 rfl (lv_at hl 1 rfl) ?_
      refine lv_iload_n cx.1 cx.2.1 dX4_trade_17 rfl (lv_at hl 2 rfl) ?_
      refine lv_icmp_eq (tgt := 33) cx.1 cx.2.1 dX4_trade_18 (by decide) (fun h18 => ?_) (fun h18 => ?_)
      · skip
        refine lv_iconst (v := 0) cx.1 cx.2.1 dX4_trade_33 (by decide) ?_
        exact ct_S (As := [.int 0]) (rest := []) cx hlk hno hW hS hl (c_X4_need_bad l hI hst a) cw_X4_need nw_123 nw_122 rfl rfl (Nat.le_of_ble_eq_true rfl) rfl rfl ⟨Nat.le_of_ble_eq_true rfl, Nat.le_of_ble_eq_true rfl⟩ ⟨Nat.le_of_ble_eq_true rfl, Nat.le_of_ble_eq_true rfl⟩ dX4_trade_34 (Nat.le_of_ble_eq_true rfl) (Nat.le_of_ble_eq_true rfl) rfl rfl
      · skip
        refine lv_aload_n cx.1 cx.2.1 dX4_trade_21 rfl (lv_at hl 0 rfl) ?_
        refine lv_iload_n cx.1 cx.2.1 dX4_trade_22 rfl (lv_at hl 3 rfl) ?_
        refine ck_V (v := some (.int (if wi_ z.toInt64 0 (gi_ a 1 0 0 - 1).toInt64 then 1 else 0))) (As := [.int z]) (rest := []) (k := 0) (i := 0) (T := TX4) cx hW hS hl (by decide) rfl rfl (c_X4_isInstrument l hI a z) cw_X4_isInstrument nw_171 nw_522 nw_170 rfl rfl (Nat.le_of_ble_eq_true rfl) rfl rfl ⟨Nat.le_of_ble_eq_true rfl, Nat.le_of_ble_eq_true rfl⟩ ⟨Nat.le_of_ble_eq_true rfl, Nat.le_of_ble_eq_true rfl⟩ dX4_trade_23 (fun H locs hW hS => ?_)
        refine W.eq (g2 := F0 zm 26 ls [.int (if wi_ z.toInt64 0 (gi_ a 1 0 0 - 1).toInt64 then 1 else 0)]) rfl ?_
        refine lv_if_eq (tgt := 33) cx.1 cx.2.1 dX4_trade_26 (by decide) (fun h26 => ?_) (fun h26 => ?_)
        · skip
          have h26 := bz_0 h26
          refine lv_iconst (v := 0) cx.1 cx.2.1 dX4_trade_33 (by decide) ?_
          exact ct_S (As := [.int 0]) (rest := []) cx hlk hno hW hS hl (c_X4_need_bad l hI hst a) cw_X4_need nw_123 nw_122 rfl rfl (Nat.le_of_ble_eq_true rfl) rfl rfl ⟨Nat.le_of_ble_eq_true rfl, Nat.le_of_ble_eq_true rfl⟩ ⟨Nat.le_of_ble_eq_true rfl, Nat.le_of_ble_eq_true rfl⟩ dX4_trade_34 (Nat.le_of_ble_eq_true rfl) (Nat.le_of_ble_eq_true rfl) rfl rfl
        · skip
          have h26 := bz_1 h26
          refine lv_iconst (v := 1) cx.1 cx.2.1 dX4_trade_29 (by decide) ?_
          refine lv_goto (tgt := 34) cx.1 cx.2.1 dX4_trade_30 (by decide) ?_
          refine ck_S (v := none) (As := [.int 1]) (rest := []) cx hW hS hl (c_X4_need_ok l hI a) cw_X4_need nw_123 nw_122 rfl rfl (Nat.le_of_ble_eq_true rfl) rfl rfl ⟨Nat.le_of_ble_eq_true rfl, Nat.le_of_ble_eq_true rfl⟩ ⟨Nat.le_of_ble_eq_true rfl, Nat.le_of_ble_eq_true rfl⟩ dX4_trade_34 (fun H locs hW hS => ?_)
          refine W.eq (g2 := F0 zm 37 ls []) rfl ?_
          refine lv_iload cx.1 cx.2.1 dX4_trade_37 (lv_at hl 4 rfl) ?_
          refine lv_i2l (v := u.toInt64) cx.1 cx.2.1 dX4_trade_39 rfl ?_
          refine lv_lconst (v := 1) cx.1 cx.2.1 dX4_trade_40 (by decide) ?_
          refine lv_ldc2 (own := "MarginHouse") (v := 100000) cx.1 cx.2.1 cx.2.2.2.1 (cx.2.2.2.2.1 _ nw_214) dX4_trade_41 ?_
          refine ck_S (v := some (.int (if wi_ u.toInt64 1 100000 then 1 else 0))) (As := [.long u.toInt64, .long 1, .long 100000]) (rest := []) cx hW hS hl (c_X4_within l hI a u.toInt64 1 100000) cw_X4_within nw_120 nw_119 rfl rfl (Nat.le_of_ble_eq_true rfl) rfl rfl ⟨Nat.le_of_ble_eq_true rfl, Nat.le_of_ble_eq_true rfl⟩ ⟨Nat.le_of_ble_eq_true rfl, Nat.le_of_ble_eq_true rfl⟩ dX4_trade_44 (fun H locs hW hS => ?_)
          refine W.eq (g2 := F0 zm 47 ls [.int (if wi_ u.toInt64 1 100000 then 1 else 0)]) rfl ?_
          refine lv_if_eq (tgt := 67) cx.1 cx.2.1 dX4_trade_47 (by decide) (fun h47 => ?_) (fun h47 => ?_)
          · skip
            have h47 := bz_0 h47
            refine lv_iconst (v := 0) cx.1 cx.2.1 dX4_trade_67 (by decide) ?_
            exact ct_S (As := [.int 0]) (rest := []) cx hlk hno hW hS hl (c_X4_need_bad l hI hst a) cw_X4_need nw_123 nw_122 rfl rfl (Nat.le_of_ble_eq_true rfl) rfl rfl ⟨Nat.le_of_ble_eq_true rfl, Nat.le_of_ble_eq_true rfl⟩ ⟨Nat.le_of_ble_eq_true rfl, Nat.le_of_ble_eq_true rfl⟩ dX4_trade_68 (Nat.le_of_ble_eq_true rfl) (Nat.le_of_ble_eq_true rfl) rfl rfl
          · skip
            have h47 := bz_1 h47
            refine lv_iload cx.1 cx.2.1 dX4_trade_50 (lv_at hl 5 rfl) ?_
            refine lv_i2l (v := v.toInt64) cx.1 cx.2.1 dX4_trade_52 rfl ?_
            refine lv_lconst (v := 0) cx.1 cx.2.1 dX4_trade_53 (by decide) ?_
            refine lv_ldc2 (own := "MarginHouse") (v := 1000000) cx.1 cx.2.1 cx.2.2.2.1 (cx.2.2.2.2.1 _ nw_148) dX4_trade_54 ?_
            refine ck_S (v := some (.int (if wi_ v.toInt64 0 1000000 then 1 else 0))) (As := [.long v.toInt64, .long 0, .long 1000000]) (rest := []) cx hW hS hl (c_X4_within l hI a v.toInt64 0 1000000) cw_X4_within nw_120 nw_119 rfl rfl (Nat.le_of_ble_eq_true rfl) rfl rfl ⟨Nat.le_of_ble_eq_true rfl, Nat.le_of_ble_eq_true rfl⟩ ⟨Nat.le_of_ble_eq_true rfl, Nat.le_of_ble_eq_true rfl⟩ dX4_trade_57 (fun H locs hW hS => ?_)
            refine W.eq (g2 := F0 zm 60 ls [.int (if wi_ v.toInt64 0 1000000 then 1 else 0)]) rfl ?_
            refine lv_if_eq (tgt := 67) cx.1 cx.2.1 dX4_trade_60 (by decide) (fun h60 => ?_) (fun h60 => ?_)
            · skip
              have h60 := bz_0 h60
              refine lv_iconst (v := 0) cx.1 cx.2.1 dX4_trade_67 (by decide) ?_
              exact ct_S (As := [.int 0]) (rest := []) cx hlk hno hW hS hl (c_X4_need_bad l hI hst a) cw_X4_need nw_123 nw_122 rfl rfl (Nat.le_of_ble_eq_true rfl) rfl rfl ⟨Nat.le_of_ble_eq_true rfl, Nat.le_of_ble_eq_true rfl⟩ ⟨Nat.le_of_ble_eq_true rfl, Nat.le_of_ble_eq_true rfl⟩ dX4_trade_68 (Nat.le_of_ble_eq_true rfl) (Nat.le_of_ble_eq_true rfl) rfl rfl
            · skip
              have h60 := bz_1 h60
              exact absurd ⟨⟨h5, h13, h18, h26⟩, h47, h60⟩ h
set_option maxHeartbeats 4000000 in
set_option maxRecDepth 100000 in
theorem c_X4_trade_is1 (l : Launch) {w : Gh_} (hI : In_ w) (hst : l.stackTraces = false) (a : St_) (k : Nat) (hk : gi_ a 0 0 0 = nI k) (hk8 : k ≤ 8) (n : Nat) (hn : gi_ a 1 0 0 = nI n) (hn6 : n ≤ 6) (p q j : Nat) (hp : p < k) (hq : q < k) (hpq : p ≠ q) (hj : j < n) (u v : Int32) (hu : wi_ u.toInt64 1 100000) (hv : wi_ v.toInt64 0 1000000) (hs : ¬ gi_ a 3 p 0 = 0) : Fn_ l w yX4_trade (.code yX4_trade cX4_trade 10 (some .int)) { frames := 7, cells := 1, slots := 6, locals := 111 } 1 6 [.ref (ad_ w 0 0), .int (nI p), .int (nI q), .int (nI j), .int u, .int v] a (.inr IS_) a := by
  refine Fn_of hI (by decide +kernel) (Nat.le_of_ble_eq_true rfl) ?_
  intro zp ze zs zm zb zt zc ls cx hr hlk hno hW hS hl
  replace cx : Cx_ zp zs zm zc _ cX4_trade 10 "MarginHouse" w := cx
  replace hl : lv_has ls 10 [(0, .ref (ad_ w 0 0)), (1, .int (nI p)), (2, .int (nI q)), (3, .int (nI j)), (4, .int u), (5, .int v)] := hl
  obtain ⟨H, hH⟩ : ∃ H, zs.heap = H := ⟨_, rfl⟩
  rw [hH] at hW
  have hS : Fr_ w zs.heap H [] := by rw [← hH]; exact hS
  obtain ⟨locs, hlocs⟩ : ∃ x : List Loc, x = [] := ⟨_, rfl⟩
  rw [← hlocs] at hS ⊢
  rw [show W zp l ze _ zs zm _ zb zt zc zs.heap locs 0 0 _ (F0 zm 0 ls []) ↔ W zp l ze _ zs zm _ zb zt zc H locs 0 0 _ (F0 zm 0 ls []) from by rw [hH]]
  refine lv_aload_n cx.1 cx.2.1 dX4_trade_0 rfl (lv_at hl 0 rfl) ?_
  refine lv_iload_n cx.1 cx.2.1 dX4_trade_1 rfl (lv_at hl 1 rfl) ?_
  refine ck_V (v := some (.int (if wi_ (nI p).toInt64 0 (gi_ a 0 0 0 - 1).toInt64 then 1 else 0))) (As := [.int (nI p)]) (rest := []) (k := 0) (i := 0) (T := TX4) cx hW hS hl (by decide) rfl rfl (c_X4_isMember l hI a (nI p)) cw_X4_isMember nw_182 nw_523 nw_181 rfl rfl (Nat.le_of_ble_eq_true rfl) rfl rfl ⟨Nat.le_of_ble_eq_true rfl, Nat.le_of_ble_eq_true rfl⟩ ⟨Nat.le_of_ble_eq_true rfl, Nat.le_of_ble_eq_true rfl⟩ dX4_trade_2 (fun H locs hW hS => ?_)
  refine W.eq (g2 := F0 zm 5 ls [.int (if wi_ (nI p).toInt64 0 (gi_ a 0 0 0 - 1).toInt64 then 1 else 0)]) rfl ?_
  refine lv_if_eq (tgt := 33) cx.1 cx.2.1 dX4_trade_5 (by decide) (fun zz => absurd zz (bz_t (im_in hk (by omega) hp))) (fun h5 => ?_)
  refine lv_aload_n cx.1 cx.2.1 dX4_trade_8 rfl (lv_at hl 0 rfl) ?_
  refine lv_iload_n cx.1 cx.2.1 dX4_trade_9 rfl (lv_at hl 2 rfl) ?_
  refine ck_V (v := some (.int (if wi_ (nI q).toInt64 0 (gi_ a 0 0 0 - 1).toInt64 then 1 else 0))) (As := [.int (nI q)]) (rest := []) (k := 0) (i := 0) (T := TX4) cx hW hS hl (by decide) rfl rfl (c_X4_isMember l hI a (nI q)) cw_X4_isMember nw_182 nw_523 nw_181 rfl rfl (Nat.le_of_ble_eq_true rfl) rfl rfl ⟨Nat.le_of_ble_eq_true rfl, Nat.le_of_ble_eq_true rfl⟩ ⟨Nat.le_of_ble_eq_true rfl, Nat.le_of_ble_eq_true rfl⟩ dX4_trade_10 (fun H locs hW hS => ?_)
  refine W.eq (g2 := F0 zm 13 ls [.int (if wi_ (nI q).toInt64 0 (gi_ a 0 0 0 - 1).toInt64 then 1 else 0)]) rfl ?_
  refine lv_if_eq (tgt := 33) cx.1 cx.2.1 dX4_trade_13 (by decide) (fun zz => absurd zz (bz_t (im_in hk (by omega) hq))) (fun h13 => ?_)
  refine lv_iload_n cx.1 cx.2.1 dX4_trade_16 rfl (lv_at hl 1 rfl) ?_
  refine lv_iload_n cx.1 cx.2.1 dX4_trade_17 rfl (lv_at hl 2 rfl) ?_
  refine lv_icmp_eq (tgt := 33) cx.1 cx.2.1 dX4_trade_18 (by decide) (fun zz => absurd zz (fun z => hpq ((nI_eq (by omega) (by omega)).mp z))) (fun h18 => ?_)
  refine lv_aload_n cx.1 cx.2.1 dX4_trade_21 rfl (lv_at hl 0 rfl) ?_
  refine lv_iload_n cx.1 cx.2.1 dX4_trade_22 rfl (lv_at hl 3 rfl) ?_
  refine ck_V (v := some (.int (if wi_ (nI j).toInt64 0 (gi_ a 1 0 0 - 1).toInt64 then 1 else 0))) (As := [.int (nI j)]) (rest := []) (k := 0) (i := 0) (T := TX4) cx hW hS hl (by decide) rfl rfl (c_X4_isInstrument l hI a (nI j)) cw_X4_isInstrument nw_171 nw_522 nw_170 rfl rfl (Nat.le_of_ble_eq_true rfl) rfl rfl ⟨Nat.le_of_ble_eq_true rfl, Nat.le_of_ble_eq_true rfl⟩ ⟨Nat.le_of_ble_eq_true rfl, Nat.le_of_ble_eq_true rfl⟩ dX4_trade_23 (fun H locs hW hS => ?_)
  refine W.eq (g2 := F0 zm 26 ls [.int (if wi_ (nI j).toInt64 0 (gi_ a 1 0 0 - 1).toInt64 then 1 else 0)]) rfl ?_
  refine lv_if_eq (tgt := 33) cx.1 cx.2.1 dX4_trade_26 (by decide) (fun zz => absurd zz (bz_t (im_in hn (by omega) hj))) (fun h26 => ?_)
  refine lv_iconst (v := 1) cx.1 cx.2.1 dX4_trade_29 (by decide) ?_
  refine lv_goto (tgt := 34) cx.1 cx.2.1 dX4_trade_30 (by decide) ?_
  refine ck_S (v := none) (As := [.int 1]) (rest := []) cx hW hS hl (c_X4_need_ok l hI a) cw_X4_need nw_123 nw_122 rfl rfl (Nat.le_of_ble_eq_true rfl) rfl rfl ⟨Nat.le_of_ble_eq_true rfl, Nat.le_of_ble_eq_true rfl⟩ ⟨Nat.le_of_ble_eq_true rfl, Nat.le_of_ble_eq_true rfl⟩ dX4_trade_34 (fun H locs hW hS => ?_)
  refine W.eq (g2 := F0 zm 37 ls []) rfl ?_
  refine lv_iload cx.1 cx.2.1 dX4_trade_37 (lv_at hl 4 rfl) ?_
  refine lv_i2l (v := u.toInt64) cx.1 cx.2.1 dX4_trade_39 rfl ?_
  refine lv_lconst (v := 1) cx.1 cx.2.1 dX4_trade_40 (by decide) ?_
  refine lv_ldc2 (own := "MarginHouse") (v := 100000) cx.1 cx.2.1 cx.2.2.2.1 (cx.2.2.2.2.1 _ nw_214) dX4_trade_41 ?_
  refine ck_S (v := some (.int (if wi_ u.toInt64 1 100000 then 1 else 0))) (As := [.long u.toInt64, .long 1, .long 100000]) (rest := []) cx hW hS hl (c_X4_within l hI a u.toInt64 1 100000) cw_X4_within nw_120 nw_119 rfl rfl (Nat.le_of_ble_eq_true rfl) rfl rfl ⟨Nat.le_of_ble_eq_true rfl, Nat.le_of_ble_eq_true rfl⟩ ⟨Nat.le_of_ble_eq_true rfl, Nat.le_of_ble_eq_true rfl⟩ dX4_trade_44 (fun H locs hW hS => ?_)
  refine W.eq (g2 := F0 zm 47 ls [.int (if wi_ u.toInt64 1 100000 then 1 else 0)]) rfl ?_
  refine lv_if_eq (tgt := 67) cx.1 cx.2.1 dX4_trade_47 (by decide) (fun zz => absurd zz (bz_t hu)) (fun h47 => ?_)
  refine lv_iload cx.1 cx.2.1 dX4_trade_50 (lv_at hl 5 rfl) ?_
  refine lv_i2l (v := v.toInt64) cx.1 cx.2.1 dX4_trade_52 rfl ?_
  refine lv_lconst (v := 0) cx.1 cx.2.1 dX4_trade_53 (by decide) ?_
  refine lv_ldc2 (own := "MarginHouse") (v := 1000000) cx.1 cx.2.1 cx.2.2.2.1 (cx.2.2.2.2.1 _ nw_148) dX4_trade_54 ?_
  refine ck_S (v := some (.int (if wi_ v.toInt64 0 1000000 then 1 else 0))) (As := [.long v.toInt64, .long 0, .long 1000000]) (rest := []) cx hW hS hl (c_X4_within l hI a v.toInt64 0 1000000) cw_X4_within nw_120 nw_119 rfl rfl (Nat.le_of_ble_eq_true rfl) rfl rfl ⟨Nat.le_of_ble_eq_true rfl, Nat.le_of_ble_eq_true rfl⟩ ⟨Nat.le_of_ble_eq_true rfl, Nat.le_of_ble_eq_true rfl⟩ dX4_trade_57 (fun H locs hW hS => ?_)
  refine W.eq (g2 := F0 zm 60 ls [.int (if wi_ v.toInt64 0 1000000 then 1 else 0)]) rfl ?_
  refine lv_if_eq (tgt := 67) cx.1 cx.2.1 dX4_trade_60 (by decide) (fun zz => absurd zz (bz_t hv)) (fun h60 => ?_)
  refine lv_iconst (v := 1) cx.1 cx.2.1 dX4_trade_63 (by decide) ?_
  refine lv_goto (tgt := 68) cx.1 cx.2.1 dX4_trade_64 (by decide) ?_
  refine ck_S (v := none) (As := [.int 1]) (rest := []) cx hW hS hl (c_X4_need_ok l hI a) cw_X4_need nw_123 nw_122 rfl rfl (Nat.le_of_ble_eq_true rfl) rfl rfl ⟨Nat.le_of_ble_eq_true rfl, Nat.le_of_ble_eq_true rfl⟩ ⟨Nat.le_of_ble_eq_true rfl, Nat.le_of_ble_eq_true rfl⟩ dX4_trade_68 (fun H locs hW hS => ?_)
  refine W.eq (g2 := F0 zm 71 ls []) rfl ?_
  refine lv_aload_n cx.1 cx.2.1 dX4_trade_71 rfl (lv_at hl 0 rfl) ?_
  refine gf_X4_11 cx hW (by decide) dX4_trade_72 ?_
  refine lv_iload_n cx.1 cx.2.1 dX4_trade_75 rfl (lv_at hl 1 rfl) ?_
  refine al_1 (j := p) cx hW (by decide) rfl (by omega) dX4_trade_76 ?_
  refine lv_astore (lv' := [(6, .ref (ad_ w 6 p)), (0, .ref (ad_ w 0 0)), (1, .int (nI p)), (2, .int (nI q)), (3, .int (nI j)), (4, .int u), (5, .int v)]) cx.1 cx.2.1 dX4_trade_77 hl (by decide) rfl (fun ls hl => ?_)
  refine lv_aload_n cx.1 cx.2.1 dX4_trade_79 rfl (lv_at hl 1 rfl) ?_
  refine gf_X4_11 cx hW (by decide) dX4_trade_80 ?_
  refine lv_iload_n cx.1 cx.2.1 dX4_trade_83 rfl (lv_at hl 3 rfl) ?_
  refine al_1 (j := q) cx hW (by decide) rfl (by omega) dX4_trade_84 ?_
  refine lv_astore (lv' := [(7, .ref (ad_ w 6 q)), (6, .ref (ad_ w 6 p)), (0, .ref (ad_ w 0 0)), (1, .int (nI p)), (2, .int (nI q)), (3, .int (nI j)), (4, .int u), (5, .int v)]) cx.1 cx.2.1 dX4_trade_85 hl (by decide) rfl (fun ls hl => ?_)
  refine lv_aload cx.1 cx.2.1 dX4_trade_87 (lv_at hl 1 rfl) ?_
  refine lv_iconst (v := 0) cx.1 cx.2.1 dX4_trade_89 (by decide) ?_
  exact ct_S (As := [.ref (ad_ w 6 p), .int 0]) (rest := []) cx hlk hno hW hS hl (c_X4_needStanding_bad l hI hst a p (by omega) 0 hs) cw_X4_needStanding nw_193 nw_192 rfl rfl (Nat.le_of_ble_eq_true rfl) rfl rfl ⟨Nat.le_of_ble_eq_true rfl, Nat.le_of_ble_eq_true rfl⟩ ⟨Nat.le_of_ble_eq_true rfl, Nat.le_of_ble_eq_true rfl⟩ dX4_trade_90 (Nat.le_of_ble_eq_true rfl) (Nat.le_of_ble_eq_true rfl) rfl rfl
set_option maxHeartbeats 4000000 in
set_option maxRecDepth 100000 in
theorem c_X4_trade_is2 (l : Launch) {w : Gh_} (hI : In_ w) (hst : l.stackTraces = false) (a : St_) (k : Nat) (hk : gi_ a 0 0 0 = nI k) (hk8 : k ≤ 8) (n : Nat) (hn : gi_ a 1 0 0 = nI n) (hn6 : n ≤ 6) (p q j : Nat) (hp : p < k) (hq : q < k) (hpq : p ≠ q) (hj : j < n) (u v : Int32) (hu : wi_ u.toInt64 1 100000) (hv : wi_ v.toInt64 0 1000000) (hs : gi_ a 3 p 0 = 0) (hs2 : ¬ gi_ a 3 q 0 = 0) : Fn_ l w yX4_trade (.code yX4_trade cX4_trade 10 (some .int)) { frames := 7, cells := 1, slots := 6, locals := 111 } 1 6 [.ref (ad_ w 0 0), .int (nI p), .int (nI q), .int (nI j), .int u, .int v] a (.inr IS_) a := by
  refine Fn_of hI (by decide +kernel) (Nat.le_of_ble_eq_true rfl) ?_
  intro zp ze zs zm zb zt zc ls cx hr hlk hno hW hS hl
  replace cx : Cx_ zp zs zm zc _ cX4_trade 10 "MarginHouse" w := cx
  replace hl : lv_has ls 10 [(0, .ref (ad_ w 0 0)), (1, .int (nI p)), (2, .int (nI q)), (3, .int (nI j)), (4, .int u), (5, .int v)] := hl
  obtain ⟨H, hH⟩ : ∃ H, zs.heap = H := ⟨_, rfl⟩
  rw [hH] at hW
  have hS : Fr_ w zs.heap H [] := by rw [← hH]; exact hS
  obtain ⟨locs, hlocs⟩ : ∃ x : List Loc, x = [] := ⟨_, rfl⟩
  rw [← hlocs] at hS ⊢
  rw [show W zp l ze _ zs zm _ zb zt zc zs.heap locs 0 0 _ (F0 zm 0 ls []) ↔ W zp l ze _ zs zm _ zb zt zc H locs 0 0 _ (F0 zm 0 ls []) from by rw [hH]]
  refine lv_aload_n cx.1 cx.2.1 dX4_trade_0 rfl (lv_at hl 0 rfl) ?_
  refine lv_iload_n cx.1 cx.2.1 dX4_trade_1 rfl (lv_at hl 1 rfl) ?_
  refine ck_V (v := some (.int (if wi_ (nI p).toInt64 0 (gi_ a 0 0 0 - 1).toInt64 then 1 else 0))) (As := [.int (nI p)]) (rest := []) (k := 0) (i := 0) (T := TX4) cx hW hS hl (by decide) rfl rfl (c_X4_isMember l hI a (nI p)) cw_X4_isMember nw_182 nw_523 nw_181 rfl rfl (Nat.le_of_ble_eq_true rfl) rfl rfl ⟨Nat.le_of_ble_eq_true rfl, Nat.le_of_ble_eq_true rfl⟩ ⟨Nat.le_of_ble_eq_true rfl, Nat.le_of_ble_eq_true rfl⟩ dX4_trade_2 (fun H locs hW hS => ?_)
  refine W.eq (g2 := F0 zm 5 ls [.int (if wi_ (nI p).toInt64 0 (gi_ a 0 0 0 - 1).toInt64 then 1 else 0)]) rfl ?_
  refine lv_if_eq (tgt := 33) cx.1 cx.2.1 dX4_trade_5 (by decide) (fun zz => absurd zz (bz_t (im_in hk (by omega) hp))) (fun h5 => ?_)
  refine lv_aload_n cx.1 cx.2.1 dX4_trade_8 rfl (lv_at hl 0 rfl) ?_
  refine lv_iload_n cx.1 cx.2.1 dX4_trade_9 rfl (lv_at hl 2 rfl) ?_
  refine ck_V (v := some (.int (if wi_ (nI q).toInt64 0 (gi_ a 0 0 0 - 1).toInt64 then 1 else 0))) (As := [.int (nI q)]) (rest := []) (k := 0) (i := 0) (T := TX4) cx hW hS hl (by decide) rfl rfl (c_X4_isMember l hI a (nI q)) cw_X4_isMember nw_182 nw_523 nw_181 rfl rfl (Nat.le_of_ble_eq_true rfl) rfl rfl ⟨Nat.le_of_ble_eq_true rfl, Nat.le_of_ble_eq_true rfl⟩ ⟨Nat.le_of_ble_eq_true rfl, Nat.le_of_ble_eq_true rfl⟩ dX4_trade_10 (fun H locs hW hS => ?_)
  refine W.eq (g2 := F0 zm 13 ls [.int (if wi_ (nI q).toInt64 0 (gi_ a 0 0 0 - 1).toInt64 then 1 else 0)]) rfl ?_
  refine lv_if_eq (tgt := 33) cx.1 cx.2.1 dX4_trade_13 (by decide) (fun zz => absurd zz (bz_t (im_in hk (by omega) hq))) (fun h13 => ?_)
  refine lv_iload_n cx.1 cx.2.1 dX4_trade_16 rfl (lv_at hl 1 rfl) ?_
  refine lv_iload_n cx.1 cx.2.1 dX4_trade_17 rfl (lv_at hl 2 rfl) ?_
  refine lv_icmp_eq (tgt := 33) cx.1 cx.2.1 dX4_trade_18 (by decide) (fun zz => absurd zz (fun z => hpq ((nI_eq (by omega) (by omega)).mp z))) (fun h18 => ?_)
  refine lv_aload_n cx.1 cx.2.1 dX4_trade_21 rfl (lv_at hl 0 rfl) ?_
  refine lv_iload_n cx.1 cx.2.1 dX4_trade_22 rfl (lv_at hl 3 rfl) ?_
  refine ck_V (v := some (.int (if wi_ (nI j).toInt64 0 (gi_ a 1 0 0 - 1).toInt64 then 1 else 0))) (As := [.int (nI j)]) (rest := []) (k := 0) (i := 0) (T := TX4) cx hW hS hl (by decide) rfl rfl (c_X4_isInstrument l hI a (nI j)) cw_X4_isInstrument nw_171 nw_522 nw_170 rfl rfl (Nat.le_of_ble_eq_true rfl) rfl rfl ⟨Nat.le_of_ble_eq_true rfl, Nat.le_of_ble_eq_true rfl⟩ ⟨Nat.le_of_ble_eq_true rfl, Nat.le_of_ble_eq_true rfl⟩ dX4_trade_23 (fun H locs hW hS => ?_)
  refine W.eq (g2 := F0 zm 26 ls [.int (if wi_ (nI j).toInt64 0 (gi_ a 1 0 0 - 1).toInt64 then 1 else 0)]) rfl ?_
  refine lv_if_eq (tgt := 33) cx.1 cx.2.1 dX4_trade_26 (by decide) (fun zz => absurd zz (bz_t (im_in hn (by omega) hj))) (fun h26 => ?_)
  refine lv_iconst (v := 1) cx.1 cx.2.1 dX4_trade_29 (by decide) ?_
  refine lv_goto (tgt := 34) cx.1 cx.2.1 dX4_trade_30 (by decide) ?_
  refine ck_S (v := none) (As := [.int 1]) (rest := []) cx hW hS hl (c_X4_need_ok l hI a) cw_X4_need nw_123 nw_122 rfl rfl (Nat.le_of_ble_eq_true rfl) rfl rfl ⟨Nat.le_of_ble_eq_true rfl, Nat.le_of_ble_eq_true rfl⟩ ⟨Nat.le_of_ble_eq_true rfl, Nat.le_of_ble_eq_true rfl⟩ dX4_trade_34 (fun H locs hW hS => ?_)
  refine W.eq (g2 := F0 zm 37 ls []) rfl ?_
  refine lv_iload cx.1 cx.2.1 dX4_trade_37 (lv_at hl 4 rfl) ?_
  refine lv_i2l (v := u.toInt64) cx.1 cx.2.1 dX4_trade_39 rfl ?_
  refine lv_lconst (v := 1) cx.1 cx.2.1 dX4_trade_40 (by decide) ?_
  refine lv_ldc2 (own := "MarginHouse") (v := 100000) cx.1 cx.2.1 cx.2.2.2.1 (cx.2.2.2.2.1 _ nw_214) dX4_trade_41 ?_
  refine ck_S (v := some (.int (if wi_ u.toInt64 1 100000 then 1 else 0))) (As := [.long u.toInt64, .long 1, .long 100000]) (rest := []) cx hW hS hl (c_X4_within l hI a u.toInt64 1 100000) cw_X4_within nw_120 nw_119 rfl rfl (Nat.le_of_ble_eq_true rfl) rfl rfl ⟨Nat.le_of_ble_eq_true rfl, Nat.le_of_ble_eq_true rfl⟩ ⟨Nat.le_of_ble_eq_true rfl, Nat.le_of_ble_eq_true rfl⟩ dX4_trade_44 (fun H locs hW hS => ?_)
  refine W.eq (g2 := F0 zm 47 ls [.int (if wi_ u.toInt64 1 100000 then 1 else 0)]) rfl ?_
  refine lv_if_eq (tgt := 67) cx.1 cx.2.1 dX4_trade_47 (by decide) (fun zz => absurd zz (bz_t hu)) (fun h47 => ?_)
  refine lv_iload cx.1 cx.2.1 dX4_trade_50 (lv_at hl 5 rfl) ?_
  refine lv_i2l (v := v.toInt64) cx.1 cx.2.1 dX4_trade_52 rfl ?_
  refine lv_lconst (v := 0) cx.1 cx.2.1 dX4_trade_53 (by decide) ?_
  refine lv_ldc2 (own := "MarginHouse") (v := 1000000) cx.1 cx.2.1 cx.2.2.2.1 (cx.2.2.2.2.1 _ nw_148) dX4_trade_54 ?_
  refine ck_S (v := some (.int (if wi_ v.toInt64 0 1000000 then 1 else 0))) (As := [.long v.toInt64, .long 0, .long 1000000]) (rest := []) cx hW hS hl (c_X4_within l hI a v.toInt64 0 1000000) cw_X4_within nw_120 nw_119 rfl rfl (Nat.le_of_ble_eq_true rfl) rfl rfl ⟨Nat.le_of_ble_eq_true rfl, Nat.le_of_ble_eq_true rfl⟩ ⟨Nat.le_of_ble_eq_true rfl, Nat.le_of_ble_eq_true rfl⟩ dX4_trade_57 (fun H locs hW hS => ?_)
  refine W.eq (g2 := F0 zm 60 ls [.int (if wi_ v.toInt64 0 1000000 then 1 else 0)]) rfl ?_
  refine lv_if_eq (tgt := 67) cx.1 cx.2.1 dX4_trade_60 (by decide) (fun zz => absurd zz (bz_t hv)) (fun h60 => ?_)
  refine lv_iconst (v := 1) cx.1 cx.2.1 dX4_trade_63 (by decide) ?_
  refine lv_goto (tgt := 68) cx.1 cx.2.1 dX4_trade_64 (by decide) ?_
  refine ck_S (v := none) (As := [.int 1]) (rest := []) cx hW hS hl (c_X4_need_ok l hI a) cw_X4_need nw_123 nw_122 rfl rfl (Nat.le_of_ble_eq_true rfl) rfl rfl ⟨Nat.le_of_ble_eq_true rfl, Nat.le_of_ble_eq_true rfl⟩ ⟨Nat.le_of_ble_eq_true rfl, Nat.le_of_ble_eq_true rfl⟩ dX4_trade_68 (fun H locs hW hS => ?_)
  refine W.eq (g2 := F0 zm 71 ls []) rfl ?_
  refine lv_aload_n cx.1 cx.2.1 dX4_trade_71 rfl (lv_at hl 0 rfl) ?_
  refine gf_X4_11 cx hW (by decide) dX4_trade_72 ?_
  refine lv_iload_n cx.1 cx.2.1 dX4_trade_75 rfl (lv_at hl 1 rfl) ?_
  refine al_1 (j := p) cx hW (by decide) rfl (by omega) dX4_trade_76 ?_
  refine lv_astore (lv' := [(6, .ref (ad_ w 6 p)), (0, .ref (ad_ w 0 0)), (1, .int (nI p)), (2, .int (nI q)), (3, .int (nI j)), (4, .int u), (5, .int v)]) cx.1 cx.2.1 dX4_trade_77 hl (by decide) rfl (fun ls hl => ?_)
  refine lv_aload_n cx.1 cx.2.1 dX4_trade_79 rfl (lv_at hl 1 rfl) ?_
  refine gf_X4_11 cx hW (by decide) dX4_trade_80 ?_
  refine lv_iload_n cx.1 cx.2.1 dX4_trade_83 rfl (lv_at hl 3 rfl) ?_
  refine al_1 (j := q) cx hW (by decide) rfl (by omega) dX4_trade_84 ?_
  refine lv_astore (lv' := [(7, .ref (ad_ w 6 q)), (6, .ref (ad_ w 6 p)), (0, .ref (ad_ w 0 0)), (1, .int (nI p)), (2, .int (nI q)), (3, .int (nI j)), (4, .int u), (5, .int v)]) cx.1 cx.2.1 dX4_trade_85 hl (by decide) rfl (fun ls hl => ?_)
  refine lv_aload cx.1 cx.2.1 dX4_trade_87 (lv_at hl 1 rfl) ?_
  refine lv_iconst (v := 0) cx.1 cx.2.1 dX4_trade_89 (by decide) ?_
  refine ck_S (v := none) (As := [.ref (ad_ w 6 p), .int 0]) (rest := []) cx hW hS hl (c_X4_needStanding_ok l hI a p (by omega) 0 hs) cw_X4_needStanding nw_193 nw_192 rfl rfl (Nat.le_of_ble_eq_true rfl) rfl rfl ⟨Nat.le_of_ble_eq_true rfl, Nat.le_of_ble_eq_true rfl⟩ ⟨Nat.le_of_ble_eq_true rfl, Nat.le_of_ble_eq_true rfl⟩ dX4_trade_90 (fun H locs hW hS => ?_)
  refine W.eq (g2 := F0 zm 93 ls []) rfl ?_
  refine lv_aload cx.1 cx.2.1 dX4_trade_93 (lv_at hl 0 rfl) ?_
  refine lv_iconst (v := 0) cx.1 cx.2.1 dX4_trade_95 (by decide) ?_
  exact ct_S (As := [.ref (ad_ w 6 q), .int 0]) (rest := []) cx hlk hno hW hS hl (c_X4_needStanding_bad l hI hst a q (by omega) 0 hs2) cw_X4_needStanding nw_193 nw_192 rfl rfl (Nat.le_of_ble_eq_true rfl) rfl rfl ⟨Nat.le_of_ble_eq_true rfl, Nat.le_of_ble_eq_true rfl⟩ ⟨Nat.le_of_ble_eq_true rfl, Nat.le_of_ble_eq_true rfl⟩ dX4_trade_96 (Nat.le_of_ble_eq_true rfl) (Nat.le_of_ble_eq_true rfl) rfl rfl
def tg_ (a : St_) (j : Nat) (u v : Int32) : Int64 := u.toInt64 * (gi_ a 6 j 0 - v).toInt64
abbrev tr_ (a : St_) (p q j : Nat) (u v : Int32) : Prop := tm_ (gl_ a 2 p 0 + tg_ a j u v) ∧ tm_ (gl_ a 2 q 0 - tg_ a j u v) ∧ tn_ (gi_ a 4 p j + u) ∧ tn_ (gi_ a 4 q j - u)
def ts_ (a : St_) (p q j : Nat) (u v : Int32) : St_ := si_ (si_ (si_ (sl_ (sl_ a 2 p 0 (gl_ a 2 p 0 + tg_ a j u v)) 2 q 0 (gl_ a 2 q 0 - tg_ a j u v)) 4 p j (gi_ a 4 p j + u)) 4 q j (gi_ a 4 q j - u)) 2 0 0 (gi_ a 2 0 0 + 1)
set_option maxHeartbeats 4000000 in
set_option maxRecDepth 100000 in
theorem c_X4_trade_none (l : Launch) {w : Gh_} (hI : In_ w) (hst : l.stackTraces = false) (a : St_) (k : Nat) (hk : gi_ a 0 0 0 = nI k) (hk8 : k ≤ 8) (n : Nat) (hn : gi_ a 1 0 0 = nI n) (hn6 : n ≤ 6) (p q j : Nat) (hp : p < k) (hq : q < k) (hpq : p ≠ q) (hj : j < n) (u v : Int32) (hu : wi_ u.toInt64 1 100000) (hv : wi_ v.toInt64 0 1000000) (hs : gi_ a 3 p 0 = 0) (hs2 : gi_ a 3 q 0 = 0) (hr0 : ¬ tr_ a p q j u v) : Fn_ l w yX4_trade (.code yX4_trade cX4_trade 10 (some .int)) { frames := 7, cells := 1, slots := 6, locals := 111 } 1 6 [.ref (ad_ w 0 0), .int (nI p), .int (nI q), .int (nI j), .int u, .int v] a (.inl (some (.int (-1)))) a := by
  refine Fn_of hI (by decide +kernel) (Nat.le_of_ble_eq_true rfl) ?_
  intro zp ze zs zm zb zt zc ls cx hr hlk hno hW hS hl
  replace cx : Cx_ zp zs zm zc _ cX4_trade 10 "MarginHouse" w := cx
  replace hl : lv_has ls 10 [(0, .ref (ad_ w 0 0)), (1, .int (nI p)), (2, .int (nI q)), (3, .int (nI j)), (4, .int u), (5, .int v)] := hl
  obtain ⟨H, hH⟩ : ∃ H, zs.heap = H := ⟨_, rfl⟩
  rw [hH] at hW
  have hS : Fr_ w zs.heap H [] := by rw [← hH]; exact hS
  obtain ⟨locs, hlocs⟩ : ∃ x : List Loc, x = [] := ⟨_, rfl⟩
  rw [← hlocs] at hS ⊢
  rw [show W zp l ze _ zs zm _ zb zt zc zs.heap locs 0 0 _ (F0 zm 0 ls []) ↔ W zp l ze _ zs zm _ zb zt zc H locs 0 0 _ (F0 zm 0 ls []) from by rw [hH]]
  refine lv_aload_n cx.1 cx.2.1 dX4_trade_0 rfl (lv_at hl 0 rfl) ?_
  refine lv_iload_n cx.1 cx.2.1 dX4_trade_1 rfl (lv_at hl 1 rfl) ?_
  refine ck_V (v := some (.int (if wi_ (nI p).toInt64 0 (gi_ a 0 0 0 - 1).toInt64 then 1 else 0))) (As := [.int (nI p)]) (rest := []) (k := 0) (i := 0) (T := TX4) cx hW hS hl (by decide) rfl rfl (c_X4_isMember l hI a (nI p)) cw_X4_isMember nw_182 nw_523 nw_181 rfl rfl (Nat.le_of_ble_eq_true rfl) rfl rfl ⟨Nat.le_of_ble_eq_true rfl, Nat.le_of_ble_eq_true rfl⟩ ⟨Nat.le_of_ble_eq_true rfl, Nat.le_of_ble_eq_true rfl⟩ dX4_trade_2 (fun H locs hW hS => ?_)
  refine W.eq (g2 := F0 zm 5 ls [.int (if wi_ (nI p).toInt64 0 (gi_ a 0 0 0 - 1).toInt64 then 1 else 0)]) rfl ?_
  refine lv_if_eq (tgt := 33) cx.1 cx.2.1 dX4_trade_5 (by decide) (fun zz => absurd zz (bz_t (im_in hk (by omega) hp))) (fun h5 => ?_)
  refine lv_aload_n cx.1 cx.2.1 dX4_trade_8 rfl (lv_at hl 0 rfl) ?_
  refine lv_iload_n cx.1 cx.2.1 dX4_trade_9 rfl (lv_at hl 2 rfl) ?_
  refine ck_V (v := some (.int (if wi_ (nI q).toInt64 0 (gi_ a 0 0 0 - 1).toInt64 then 1 else 0))) (As := [.int (nI q)]) (rest := []) (k := 0) (i := 0) (T := TX4) cx hW hS hl (by decide) rfl rfl (c_X4_isMember l hI a (nI q)) cw_X4_isMember nw_182 nw_523 nw_181 rfl rfl (Nat.le_of_ble_eq_true rfl) rfl rfl ⟨Nat.le_of_ble_eq_true rfl, Nat.le_of_ble_eq_true rfl⟩ ⟨Nat.le_of_ble_eq_true rfl, Nat.le_of_ble_eq_true rfl⟩ dX4_trade_10 (fun H locs hW hS => ?_)
  refine W.eq (g2 := F0 zm 13 ls [.int (if wi_ (nI q).toInt64 0 (gi_ a 0 0 0 - 1).toInt64 then 1 else 0)]) rfl ?_
  refine lv_if_eq (tgt := 33) cx.1 cx.2.1 dX4_trade_13 (by decide) (fun zz => absurd zz (bz_t (im_in hk (by omega) hq))) (fun h13 => ?_)
  refine lv_iload_n cx.1 cx.2.1 dX4_trade_16 rfl (lv_at hl 1 rfl) ?_
  refine lv_iload_n cx.1 cx.2.1 dX4_trade_17 rfl (lv_at hl 2 rfl) ?_
  refine lv_icmp_eq (tgt := 33) cx.1 cx.2.1 dX4_trade_18 (by decide) (fun zz => absurd zz (fun z => hpq ((nI_eq (by omega) (by omega)).mp z))) (fun h18 => ?_)
  refine lv_aload_n cx.1 cx.2.1 dX4_trade_21 rfl (lv_at hl 0 rfl) ?_
  refine lv_iload_n cx.1 cx.2.1 dX4_trade_22 rfl (lv_at hl 3 rfl) ?_
  refine ck_V (v := some (.int (if wi_ (nI j).toInt64 0 (gi_ a 1 0 0 - 1).toInt64 then 1 else 0))) (As := [.int (nI j)]) (rest := []) (k := 0) (i := 0) (T := TX4) cx hW hS hl (by decide) rfl rfl (c_X4_isInstrument l hI a (nI j)) cw_X4_isInstrument nw_171 nw_522 nw_170 rfl rfl (Nat.le_of_ble_eq_true rfl) rfl rfl ⟨Nat.le_of_ble_eq_true rfl, Nat.le_of_ble_eq_true rfl⟩ ⟨Nat.le_of_ble_eq_true rfl, Nat.le_of_ble_eq_true rfl⟩ dX4_trade_23 (fun H locs hW hS => ?_)
  refine W.eq (g2 := F0 zm 26 ls [.int (if wi_ (nI j).toInt64 0 (gi_ a 1 0 0 - 1).toInt64 then 1 else 0)]) rfl ?_
  refine lv_if_eq (tgt := 33) cx.1 cx.2.1 dX4_trade_26 (by decide) (fun zz => absurd zz (bz_t (im_in hn (by omega) hj))) (fun h26 => ?_)
  refine lv_iconst (v := 1) cx.1 cx.2.1 dX4_trade_29 (by decide) ?_
  refine lv_goto (tgt := 34) cx.1 cx.2.1 dX4_trade_30 (by decide) ?_
  refine ck_S (v := none) (As := [.int 1]) (rest := []) cx hW hS hl (c_X4_need_ok l hI a) cw_X4_need nw_123 nw_122 rfl rfl (Nat.le_of_ble_eq_true rfl) rfl rfl ⟨Nat.le_of_ble_eq_true rfl, Nat.le_of_ble_eq_true rfl⟩ ⟨Nat.le_of_ble_eq_true rfl, Nat.le_of_ble_eq_true rfl⟩ dX4_trade_34 (fun H locs hW hS => ?_)
  refine W.eq (g2 := F0 zm 37 ls []) rfl ?_
  refine lv_iload cx.1 cx.2.1 dX4_trade_37 (lv_at hl 4 rfl) ?_
  refine lv_i2l (v := u.toInt64) cx.1 cx.2.1 dX4_trade_39 rfl ?_
  refine lv_lconst (v := 1) cx.1 cx.2.1 dX4_trade_40 (by decide) ?_
  refine lv_ldc2 (own := "MarginHouse") (v := 100000) cx.1 cx.2.1 cx.2.2.2.1 (cx.2.2.2.2.1 _ nw_214) dX4_trade_41 ?_
  refine ck_S (v := some (.int (if wi_ u.toInt64 1 100000 then 1 else 0))) (As := [.long u.toInt64, .long 1, .long 100000]) (rest := []) cx hW hS hl (c_X4_within l hI a u.toInt64 1 100000) cw_X4_within nw_120 nw_119 rfl rfl (Nat.le_of_ble_eq_true rfl) rfl rfl ⟨Nat.le_of_ble_eq_true rfl, Nat.le_of_ble_eq_true rfl⟩ ⟨Nat.le_of_ble_eq_true rfl, Nat.le_of_ble_eq_true rfl⟩ dX4_trade_44 (fun H locs hW hS => ?_)
  refine W.eq (g2 := F0 zm 47 ls [.int (if wi_ u.toInt64 1 100000 then 1 else 0)]) rfl ?_
  refine lv_if_eq (tgt := 67) cx.1 cx.2.1 dX4_trade_47 (by decide) (fun zz => absurd zz (bz_t hu)) (fun h47 => ?_)
  refine lv_iload cx.1 cx.2.1 dX4_trade_50 (lv_at hl 5 rfl) ?_
  refine lv_i2l (v := v.toInt64) cx.1 cx.2.1 dX4_trade_52 rfl ?_
  refine lv_lconst (v := 0) cx.1 cx.2.1 dX4_trade_53 (by decide) ?_
  refine lv_ldc2 (own := "MarginHouse") (v := 1000000) cx.1 cx.2.1 cx.2.2.2.1 (cx.2.2.2.2.1 _ nw_148) dX4_trade_54 ?_
  refine ck_S (v := some (.int (if wi_ v.toInt64 0 1000000 then 1 else 0))) (As := [.long v.toInt64, .long 0, .long 1000000]) (rest := []) cx hW hS hl (c_X4_within l hI a v.toInt64 0 1000000) cw_X4_within nw_120 nw_119 rfl rfl (Nat.le_of_ble_eq_true rfl) rfl rfl ⟨Nat.le_of_ble_eq_true rfl, Nat.le_of_ble_eq_true rfl⟩ ⟨Nat.le_of_ble_eq_true rfl, Nat.le_of_ble_eq_true rfl⟩ dX4_trade_57 (fun H locs hW hS => ?_)
  refine W.eq (g2 := F0 zm 60 ls [.int (if wi_ v.toInt64 0 1000000 then 1 else 0)]) rfl ?_
  refine lv_if_eq (tgt := 67) cx.1 cx.2.1 dX4_trade_60 (by decide) (fun zz => absurd zz (bz_t hv)) (fun h60 => ?_)
  refine lv_iconst (v := 1) cx.1 cx.2.1 dX4_trade_63 (by decide) ?_
  refine lv_goto (tgt := 68) cx.1 cx.2.1 dX4_trade_64 (by decide) ?_
  refine ck_S (v := none) (As := [.int 1]) (rest := []) cx hW hS hl (c_X4_need_ok l hI a) cw_X4_need nw_123 nw_122 rfl rfl (Nat.le_of_ble_eq_true rfl) rfl rfl ⟨Nat.le_of_ble_eq_true rfl, Nat.le_of_ble_eq_true rfl⟩ ⟨Nat.le_of_ble_eq_true rfl, Nat.le_of_ble_eq_true rfl⟩ dX4_trade_68 (fun H locs hW hS => ?_)
  refine W.eq (g2 := F0 zm 71 ls []) rfl ?_
  refine lv_aload_n cx.1 cx.2.1 dX4_trade_71 rfl (lv_at hl 0 rfl) ?_
  refine gf_X4_11 cx hW (by decide) dX4_trade_72 ?_
  refine lv_iload_n cx.1 cx.2.1 dX4_trade_75 rfl (lv_at hl 1 rfl) ?_
  refine al_1 (j := p) cx hW (by decide) rfl (by omega) dX4_trade_76 ?_
  refine lv_astore (lv' := [(6, .ref (ad_ w 6 p)), (0, .ref (ad_ w 0 0)), (1, .int (nI p)), (2, .int (nI q)), (3, .int (nI j)), (4, .int u), (5, .int v)]) cx.1 cx.2.1 dX4_trade_77 hl (by decide) rfl (fun ls hl => ?_)
  refine lv_aload_n cx.1 cx.2.1 dX4_trade_79 rfl (lv_at hl 1 rfl) ?_
  refine gf_X4_11 cx hW (by decide) dX4_trade_80 ?_
  refine lv_iload_n cx.1 cx.2.1 dX4_trade_83 rfl (lv_at hl 3 rfl) ?_
  refine al_1 (j := q) cx hW (by decide) rfl (by omega) dX4_trade_84 ?_
  refine lv_astore (lv' := [(7, .ref (ad_ w 6 q)), (6, .ref (ad_ w 6 p)), (0, .ref (ad_ w 0 0)), (1, .int (nI p)), (2, .int (nI q)), (3, .int (nI j)), (4, .int u), (5, .int v)]) cx.1 cx.2.1 dX4_trade_85 hl (by decide) rfl (fun ls hl => ?_)
  refine lv_aload cx.1 cx.2.1 dX4_trade_87 (lv_at hl 1 rfl) ?_
  refine lv_iconst (v := 0) cx.1 cx.2.1 dX4_trade_89 (by decide) ?_
  refine ck_S (v := none) (As := [.ref (ad_ w 6 p), .int 0]) (rest := []) cx hW hS hl (c_X4_needStanding_ok l hI a p (by omega) 0 hs) cw_X4_needStanding nw_193 nw_192 rfl rfl (Nat.le_of_ble_eq_true rfl) rfl rfl ⟨Nat.le_of_ble_eq_true rfl, Nat.le_of_ble_eq_true rfl⟩ ⟨Nat.le_of_ble_eq_true rfl, Nat.le_of_ble_eq_true rfl⟩ dX4_trade_90 (fun H locs hW hS => ?_)
  refine W.eq (g2 := F0 zm 93 ls []) rfl ?_
  refine lv_aload cx.1 cx.2.1 dX4_trade_93 (lv_at hl 0 rfl) ?_
  refine lv_iconst (v := 0) cx.1 cx.2.1 dX4_trade_95 (by decide) ?_
  refine ck_S (v := none) (As := [.ref (ad_ w 6 q), .int 0]) (rest := []) cx hW hS hl (c_X4_needStanding_ok l hI a q (by omega) 0 hs2) cw_X4_needStanding nw_193 nw_192 rfl rfl (Nat.le_of_ble_eq_true rfl) rfl rfl ⟨Nat.le_of_ble_eq_true rfl, Nat.le_of_ble_eq_true rfl⟩ ⟨Nat.le_of_ble_eq_true rfl, Nat.le_of_ble_eq_true rfl⟩ dX4_trade_96 (fun H locs hW hS => ?_)
  refine W.eq (g2 := F0 zm 99 ls []) rfl ?_
  refine lv_iload cx.1 cx.2.1 dX4_trade_99 (lv_at hl 6 rfl) ?_
  refine lv_i2l (v := u.toInt64) cx.1 cx.2.1 dX4_trade_101 rfl ?_
  refine lv_aload_n cx.1 cx.2.1 dX4_trade_102 rfl (lv_at hl 2 rfl) ?_
  refine gf_X4_17 cx hW (by decide) dX4_trade_103 ?_
  refine lv_iload_n cx.1 cx.2.1 dX4_trade_106 rfl (lv_at hl 5 rfl) ?_
  refine al_2 (j := j) cx hW (by decide) rfl (by omega) dX4_trade_107 ?_
  refine gf_X4_71 cx hW (by omega) dX4_trade_108 ?_
  refine lv_iload cx.1 cx.2.1 dX4_trade_111 (lv_at hl 7 rfl) ?_
  refine lv_isub cx.1 cx.2.1 dX4_trade_113 ?_
  refine lv_i2l (v := ((gi_ a 6 j 0) - v).toInt64) cx.1 cx.2.1 dX4_trade_114 rfl ?_
  refine lv_lmul cx.1 cx.2.1 dX4_trade_115 ?_
  refine tp_j (y := tg_ a j u v) rfl ?_
  refine lv_lstore (lv' := [(8, .long (tg_ a j u v)), (7, .ref (ad_ w 6 q)), (6, .ref (ad_ w 6 p)), (0, .ref (ad_ w 0 0)), (1, .int (nI p)), (2, .int (nI q)), (3, .int (nI j)), (4, .int u), (5, .int v)]) cx.1 cx.2.1 dX4_trade_116 hl (by decide) rfl (fun ls hl => ?_)
  refine lv_aload cx.1 cx.2.1 dX4_trade_118 (lv_at hl 2 rfl) ?_
  refine gf_X4_105 cx hW (by omega) dX4_trade_120 ?_
  refine lv_lload cx.1 cx.2.1 dX4_trade_123 (lv_at hl 0 rfl) ?_
  refine lv_ladd cx.1 cx.2.1 dX4_trade_125 ?_
  refine ck_S (v := some (.int (if ¬ wi_ ((gl_ a 2 p 0) + (tg_ a j u v)) (-1000000000000000) 1000000000000000 then 1 else 0))) (As := [.long ((gl_ a 2 p 0) + (tg_ a j u v))]) (rest := []) cx hW hS hl (c_X4_isTooMuch l hI a ((gl_ a 2 p 0) + (tg_ a j u v))) cw_X4_isTooMuch nw_157 nw_156 rfl rfl (Nat.le_of_ble_eq_true rfl) rfl rfl ⟨Nat.le_of_ble_eq_true rfl, Nat.le_of_ble_eq_true rfl⟩ ⟨Nat.le_of_ble_eq_true rfl, Nat.le_of_ble_eq_true rfl⟩ dX4_trade_126 (fun H locs hW hS => ?_)
  refine W.eq (g2 := F0 zm 129 ls [.int (if ¬ wi_ ((gl_ a 2 p 0) + (tg_ a j u v)) (-1000000000000000) 1000000000000000 then 1 else 0)]) rfl ?_
  refine lv_if_ne (tgt := 178) cx.1 cx.2.1 dX4_trade_129 (by decide) (fun h129 => ?_) (fun h129 => ?_)
  · skip
    have h129 := bz_1 h129
    refine lv_iconst (v := -1) cx.1 cx.2.1 dX4_trade_178 (by decide) ?_
    exact cr_i cx hr hlk hW hS (Nat.le_of_ble_eq_true rfl) (Nat.le_of_ble_eq_true rfl) dX4_trade_179 rfl rfl
  · skip
    have h129 := bz_0 h129
    refine lv_aload cx.1 cx.2.1 dX4_trade_132 (lv_at hl 1 rfl) ?_
    refine gf_X4_105 cx hW (by omega) dX4_trade_134 ?_
    refine lv_lload cx.1 cx.2.1 dX4_trade_137 (lv_at hl 0 rfl) ?_
    refine lv_lsub cx.1 cx.2.1 dX4_trade_139 ?_
    refine ck_S (v := some (.int (if ¬ wi_ ((gl_ a 2 q 0) - (tg_ a j u v)) (-1000000000000000) 1000000000000000 then 1 else 0))) (As := [.long ((gl_ a 2 q 0) - (tg_ a j u v))]) (rest := []) cx hW hS hl (c_X4_isTooMuch l hI a ((gl_ a 2 q 0) - (tg_ a j u v))) cw_X4_isTooMuch nw_157 nw_156 rfl rfl (Nat.le_of_ble_eq_true rfl) rfl rfl ⟨Nat.le_of_ble_eq_true rfl, Nat.le_of_ble_eq_true rfl⟩ ⟨Nat.le_of_ble_eq_true rfl, Nat.le_of_ble_eq_true rfl⟩ dX4_trade_140 (fun H locs hW hS => ?_)
    refine W.eq (g2 := F0 zm 143 ls [.int (if ¬ wi_ ((gl_ a 2 q 0) - (tg_ a j u v)) (-1000000000000000) 1000000000000000 then 1 else 0)]) rfl ?_
    refine lv_if_ne (tgt := 178) cx.1 cx.2.1 dX4_trade_143 (by decide) (fun h143 => ?_) (fun h143 => ?_)
    · skip
      have h143 := bz_1 h143
      refine lv_iconst (v := -1) cx.1 cx.2.1 dX4_trade_178 (by decide) ?_
      exact cr_i cx hr hlk hW hS (Nat.le_of_ble_eq_true rfl) (Nat.le_of_ble_eq_true rfl) dX4_trade_179 rfl rfl
    · skip
      have h143 := bz_0 h143
      refine lv_aload cx.1 cx.2.1 dX4_trade_146 (lv_at hl 2 rfl) ?_
      refine gf_X4_114 cx hW (by omega) dX4_trade_148 ?_
      refine lv_iload_n cx.1 cx.2.1 dX4_trade_151 rfl (lv_at hl 6 rfl) ?_
      refine al_7 (j := j) cx hW (by omega) rfl (by omega) dX4_trade_152 ?_
      refine lv_iload cx.1 cx.2.1 dX4_trade_153 (lv_at hl 7 rfl) ?_
      refine lv_iadd cx.1 cx.2.1 dX4_trade_155 ?_
      refine ck_S (v := some (.int (if ¬ wi_ ((gi_ a 4 p j) + u).toInt64 (-1000000) 1000000 then 1 else 0))) (As := [.int ((gi_ a 4 p j) + u)]) (rest := []) cx hW hS hl (c_X4_isTooMany l hI a ((gi_ a 4 p j) + u)) cw_X4_isTooMany nw_216 nw_215 rfl rfl (Nat.le_of_ble_eq_true rfl) rfl rfl ⟨Nat.le_of_ble_eq_true rfl, Nat.le_of_ble_eq_true rfl⟩ ⟨Nat.le_of_ble_eq_true rfl, Nat.le_of_ble_eq_true rfl⟩ dX4_trade_156 (fun H locs hW hS => ?_)
      refine W.eq (g2 := F0 zm 159 ls [.int (if ¬ wi_ ((gi_ a 4 p j) + u).toInt64 (-1000000) 1000000 then 1 else 0)]) rfl ?_
      refine lv_if_ne (tgt := 178) cx.1 cx.2.1 dX4_trade_159 (by decide) (fun h159 => ?_) (fun h159 => ?_)
      · skip
        have h159 := bz_1 h159
        refine lv_iconst (v := -1) cx.1 cx.2.1 dX4_trade_178 (by decide) ?_
        exact cr_i cx hr hlk hW hS (Nat.le_of_ble_eq_true rfl) (Nat.le_of_ble_eq_true rfl) dX4_trade_179 rfl rfl
      · skip
        have h159 := bz_0 h159
        refine lv_aload cx.1 cx.2.1 dX4_trade_162 (lv_at hl 1 rfl) ?_
        refine gf_X4_114 cx hW (by omega) dX4_trade_164 ?_
        refine lv_iload_n cx.1 cx.2.1 dX4_trade_167 rfl (lv_at hl 6 rfl) ?_
        refine al_7 (j := j) cx hW (by omega) rfl (by omega) dX4_trade_168 ?_
        refine lv_iload cx.1 cx.2.1 dX4_trade_169 (lv_at hl 7 rfl) ?_
        refine lv_isub cx.1 cx.2.1 dX4_trade_171 ?_
        refine ck_S (v := some (.int (if ¬ wi_ ((gi_ a 4 q j) - u).toInt64 (-1000000) 1000000 then 1 else 0))) (As := [.int ((gi_ a 4 q j) - u)]) (rest := []) cx hW hS hl (c_X4_isTooMany l hI a ((gi_ a 4 q j) - u)) cw_X4_isTooMany nw_216 nw_215 rfl rfl (Nat.le_of_ble_eq_true rfl) rfl rfl ⟨Nat.le_of_ble_eq_true rfl, Nat.le_of_ble_eq_true rfl⟩ ⟨Nat.le_of_ble_eq_true rfl, Nat.le_of_ble_eq_true rfl⟩ dX4_trade_172 (fun H locs hW hS => ?_)
        refine W.eq (g2 := F0 zm 175 ls [.int (if ¬ wi_ ((gi_ a 4 q j) - u).toInt64 (-1000000) 1000000 then 1 else 0)]) rfl ?_
        refine lv_if_eq (tgt := 180) cx.1 cx.2.1 dX4_trade_175 (by decide) (fun h175 => ?_) (fun h175 => ?_)
        · skip
          have h175 := bz_0 h175
          exact absurd ⟨Classical.not_not.mp h129, Classical.not_not.mp h143, Classical.not_not.mp h159, Classical.not_not.mp h175⟩ hr0
        · skip
          have h175 := bz_1 h175
          refine lv_iconst (v := -1) cx.1 cx.2.1 dX4_trade_178 (by decide) ?_
          exact cr_i cx hr hlk hW hS (Nat.le_of_ble_eq_true rfl) (Nat.le_of_ble_eq_true rfl) dX4_trade_179 rfl rfl
set_option maxHeartbeats 4000000 in
set_option maxRecDepth 100000 in
theorem c_X4_trade_ok (l : Launch) {w : Gh_} (hI : In_ w) (hst : l.stackTraces = false) (a : St_) (k : Nat) (hk : gi_ a 0 0 0 = nI k) (hk8 : k ≤ 8) (n : Nat) (hn : gi_ a 1 0 0 = nI n) (hn6 : n ≤ 6) (p q j : Nat) (hp : p < k) (hq : q < k) (hpq : p ≠ q) (hj : j < n) (u v : Int32) (hu : wi_ u.toInt64 1 100000) (hv : wi_ v.toInt64 0 1000000) (hs : gi_ a 3 p 0 = 0) (hs2 : gi_ a 3 q 0 = 0) (hr0 : tr_ a p q j u v) : Fn_ l w yX4_trade (.code yX4_trade cX4_trade 10 (some .int)) { frames := 7, cells := 1, slots := 6, locals := 111 } 1 6 [.ref (ad_ w 0 0), .int (nI p), .int (nI q), .int (nI j), .int u, .int v] a (.inl (some (.int (gi_ a 2 0 0 + 1)))) (ts_ a p q j u v) := by
  refine Fn_of hI (by decide +kernel) (Nat.le_of_ble_eq_true rfl) ?_
  intro zp ze zs zm zb zt zc ls cx hr hlk hno hW hS hl
  replace cx : Cx_ zp zs zm zc _ cX4_trade 10 "MarginHouse" w := cx
  replace hl : lv_has ls 10 [(0, .ref (ad_ w 0 0)), (1, .int (nI p)), (2, .int (nI q)), (3, .int (nI j)), (4, .int u), (5, .int v)] := hl
  obtain ⟨H, hH⟩ : ∃ H, zs.heap = H := ⟨_, rfl⟩
  rw [hH] at hW
  have hS : Fr_ w zs.heap H [] := by rw [← hH]; exact hS
  obtain ⟨locs, hlocs⟩ : ∃ x : List Loc, x = [] := ⟨_, rfl⟩
  rw [← hlocs] at hS ⊢
  rw [show W zp l ze _ zs zm _ zb zt zc zs.heap locs 0 0 _ (F0 zm 0 ls []) ↔ W zp l ze _ zs zm _ zb zt zc H locs 0 0 _ (F0 zm 0 ls []) from by rw [hH]]
  refine lv_aload_n cx.1 cx.2.1 dX4_trade_0 rfl (lv_at hl 0 rfl) ?_
  refine lv_iload_n cx.1 cx.2.1 dX4_trade_1 rfl (lv_at hl 1 rfl) ?_
  refine ck_V (v := some (.int (if wi_ (nI p).toInt64 0 (gi_ a 0 0 0 - 1).toInt64 then 1 else 0))) (As := [.int (nI p)]) (rest := []) (k := 0) (i := 0) (T := TX4) cx hW hS hl (by decide) rfl rfl (c_X4_isMember l hI a (nI p)) cw_X4_isMember nw_182 nw_523 nw_181 rfl rfl (Nat.le_of_ble_eq_true rfl) rfl rfl ⟨Nat.le_of_ble_eq_true rfl, Nat.le_of_ble_eq_true rfl⟩ ⟨Nat.le_of_ble_eq_true rfl, Nat.le_of_ble_eq_true rfl⟩ dX4_trade_2 (fun H locs hW hS => ?_)
  refine W.eq (g2 := F0 zm 5 ls [.int (if wi_ (nI p).toInt64 0 (gi_ a 0 0 0 - 1).toInt64 then 1 else 0)]) rfl ?_
  refine lv_if_eq (tgt := 33) cx.1 cx.2.1 dX4_trade_5 (by decide) (fun zz => absurd zz (bz_t (im_in hk (by omega) hp))) (fun h5 => ?_)
  refine lv_aload_n cx.1 cx.2.1 dX4_trade_8 rfl (lv_at hl 0 rfl) ?_
  refine lv_iload_n cx.1 cx.2.1 dX4_trade_9 rfl (lv_at hl 2 rfl) ?_
  refine ck_V (v := some (.int (if wi_ (nI q).toInt64 0 (gi_ a 0 0 0 - 1).toInt64 then 1 else 0))) (As := [.int (nI q)]) (rest := []) (k := 0) (i := 0) (T := TX4) cx hW hS hl (by decide) rfl rfl (c_X4_isMember l hI a (nI q)) cw_X4_isMember nw_182 nw_523 nw_181 rfl rfl (Nat.le_of_ble_eq_true rfl) rfl rfl ⟨Nat.le_of_ble_eq_true rfl, Nat.le_of_ble_eq_true rfl⟩ ⟨Nat.le_of_ble_eq_true rfl, Nat.le_of_ble_eq_true rfl⟩ dX4_trade_10 (fun H locs hW hS => ?_)
  refine W.eq (g2 := F0 zm 13 ls [.int (if wi_ (nI q).toInt64 0 (gi_ a 0 0 0 - 1).toInt64 then 1 else 0)]) rfl ?_
  refine lv_if_eq (tgt := 33) cx.1 cx.2.1 dX4_trade_13 (by decide) (fun zz => absurd zz (bz_t (im_in hk (by omega) hq))) (fun h13 => ?_)
  refine lv_iload_n cx.1 cx.2.1 dX4_trade_16 rfl (lv_at hl 1 rfl) ?_
  refine lv_iload_n cx.1 cx.2.1 dX4_trade_17 rfl (lv_at hl 2 rfl) ?_
  refine lv_icmp_eq (tgt := 33) cx.1 cx.2.1 dX4_trade_18 (by decide) (fun zz => absurd zz (fun z => hpq ((nI_eq (by omega) (by omega)).mp z))) (fun h18 => ?_)
  refine lv_aload_n cx.1 cx.2.1 dX4_trade_21 rfl (lv_at hl 0 rfl) ?_
  refine lv_iload_n cx.1 cx.2.1 dX4_trade_22 rfl (lv_at hl 3 rfl) ?_
  refine ck_V (v := some (.int (if wi_ (nI j).toInt64 0 (gi_ a 1 0 0 - 1).toInt64 then 1 else 0))) (As := [.int (nI j)]) (rest := []) (k := 0) (i := 0) (T := TX4) cx hW hS hl (by decide) rfl rfl (c_X4_isInstrument l hI a (nI j)) cw_X4_isInstrument nw_171 nw_522 nw_170 rfl rfl (Nat.le_of_ble_eq_true rfl) rfl rfl ⟨Nat.le_of_ble_eq_true rfl, Nat.le_of_ble_eq_true rfl⟩ ⟨Nat.le_of_ble_eq_true rfl, Nat.le_of_ble_eq_true rfl⟩ dX4_trade_23 (fun H locs hW hS => ?_)
  refine W.eq (g2 := F0 zm 26 ls [.int (if wi_ (nI j).toInt64 0 (gi_ a 1 0 0 - 1).toInt64 then 1 else 0)]) rfl ?_
  refine lv_if_eq (tgt := 33) cx.1 cx.2.1 dX4_trade_26 (by decide) (fun zz => absurd zz (bz_t (im_in hn (by omega) hj))) (fun h26 => ?_)
  refine lv_iconst (v := 1) cx.1 cx.2.1 dX4_trade_29 (by decide) ?_
  refine lv_goto (tgt := 34) cx.1 cx.2.1 dX4_trade_30 (by decide) ?_
  refine ck_S (v := none) (As := [.int 1]) (rest := []) cx hW hS hl (c_X4_need_ok l hI a) cw_X4_need nw_123 nw_122 rfl rfl (Nat.le_of_ble_eq_true rfl) rfl rfl ⟨Nat.le_of_ble_eq_true rfl, Nat.le_of_ble_eq_true rfl⟩ ⟨Nat.le_of_ble_eq_true rfl, Nat.le_of_ble_eq_true rfl⟩ dX4_trade_34 (fun H locs hW hS => ?_)
  refine W.eq (g2 := F0 zm 37 ls []) rfl ?_
  refine lv_iload cx.1 cx.2.1 dX4_trade_37 (lv_at hl 4 rfl) ?_
  refine lv_i2l (v := u.toInt64) cx.1 cx.2.1 dX4_trade_39 rfl ?_
  refine lv_lconst (v := 1) cx.1 cx.2.1 dX4_trade_40 (by decide) ?_
  refine lv_ldc2 (own := "MarginHouse") (v := 100000) cx.1 cx.2.1 cx.2.2.2.1 (cx.2.2.2.2.1 _ nw_214) dX4_trade_41 ?_
  refine ck_S (v := some (.int (if wi_ u.toInt64 1 100000 then 1 else 0))) (As := [.long u.toInt64, .long 1, .long 100000]) (rest := []) cx hW hS hl (c_X4_within l hI a u.toInt64 1 100000) cw_X4_within nw_120 nw_119 rfl rfl (Nat.le_of_ble_eq_true rfl) rfl rfl ⟨Nat.le_of_ble_eq_true rfl, Nat.le_of_ble_eq_true rfl⟩ ⟨Nat.le_of_ble_eq_true rfl, Nat.le_of_ble_eq_true rfl⟩ dX4_trade_44 (fun H locs hW hS => ?_)
  refine W.eq (g2 := F0 zm 47 ls [.int (if wi_ u.toInt64 1 100000 then 1 else 0)]) rfl ?_
  refine lv_if_eq (tgt := 67) cx.1 cx.2.1 dX4_trade_47 (by decide) (fun zz => absurd zz (bz_t hu)) (fun h47 => ?_)
  refine lv_iload cx.1 cx.2.1 dX4_trade_50 (lv_at hl 5 rfl) ?_
  refine lv_i2l (v := v.toInt64) cx.1 cx.2.1 dX4_trade_52 rfl ?_
  refine lv_lconst (v := 0) cx.1 cx.2.1 dX4_trade_53 (by decide) ?_
  refine lv_ldc2 (own := "MarginHouse") (v := 1000000) cx.1 cx.2.1 cx.2.2.2.1 (cx.2.2.2.2.1 _ nw_148) dX4_trade_54 ?_
  refine ck_S (v := some (.int (if wi_ v.toInt64 0 1000000 then 1 else 0))) (As := [.long v.toInt64, .long 0, .long 1000000]) (rest := []) cx hW hS hl (c_X4_within l hI a v.toInt64 0 1000000) cw_X4_within nw_120 nw_119 rfl rfl (Nat.le_of_ble_eq_true rfl) rfl rfl ⟨Nat.le_of_ble_eq_true rfl, Nat.le_of_ble_eq_true rfl⟩ ⟨Nat.le_of_ble_eq_true rfl, Nat.le_of_ble_eq_true rfl⟩ dX4_trade_57 (fun H locs hW hS => ?_)
  refine W.eq (g2 := F0 zm 60 ls [.int (if wi_ v.toInt64 0 1000000 then 1 else 0)]) rfl ?_
  refine lv_if_eq (tgt := 67) cx.1 cx.2.1 dX4_trade_60 (by decide) (fun zz => absurd zz (bz_t hv)) (fun h60 => ?_)
  refine lv_iconst (v := 1) cx.1 cx.2.1 dX4_trade_63 (by decide) ?_
  refine lv_goto (tgt := 68) cx.1 cx.2.1 dX4_trade_64 (by decide) ?_
  refine ck_S (v := none) (As := [.int 1]) (rest := []) cx hW hS hl (c_X4_need_ok l hI a) cw_X4_need nw_123 nw_122 rfl rfl (Nat.le_of_ble_eq_true rfl) rfl rfl ⟨Nat.le_of_ble_eq_true rfl, Nat.le_of_ble_eq_true rfl⟩ ⟨Nat.le_of_ble_eq_true rfl, Nat.le_of_ble_eq_true rfl⟩ dX4_trade_68 (fun H locs hW hS => ?_)
  refine W.eq (g2 := F0 zm 71 ls []) rfl ?_
  refine lv_aload_n cx.1 cx.2.1 dX4_trade_71 rfl (lv_at hl 0 rfl) ?_
  refine gf_X4_11 cx hW (by decide) dX4_trade_72 ?_
  refine lv_iload_n cx.1 cx.2.1 dX4_trade_75 rfl (lv_at hl 1 rfl) ?_
  refine al_1 (j := p) cx hW (by decide) rfl (by omega) dX4_trade_76 ?_
  refine lv_astore (lv' := [(6, .ref (ad_ w 6 p)), (0, .ref (ad_ w 0 0)), (1, .int (nI p)), (2, .int (nI q)), (3, .int (nI j)), (4, .int u), (5, .int v)]) cx.1 cx.2.1 dX4_trade_77 hl (by decide) rfl (fun ls hl => ?_)
  refine lv_aload_n cx.1 cx.2.1 dX4_trade_79 rfl (lv_at hl 1 rfl) ?_
  refine gf_X4_11 cx hW (by decide) dX4_trade_80 ?_
  refine lv_iload_n cx.1 cx.2.1 dX4_trade_83 rfl (lv_at hl 3 rfl) ?_
  refine al_1 (j := q) cx hW (by decide) rfl (by omega) dX4_trade_84 ?_
  refine lv_astore (lv' := [(7, .ref (ad_ w 6 q)), (6, .ref (ad_ w 6 p)), (0, .ref (ad_ w 0 0)), (1, .int (nI p)), (2, .int (nI q)), (3, .int (nI j)), (4, .int u), (5, .int v)]) cx.1 cx.2.1 dX4_trade_85 hl (by decide) rfl (fun ls hl => ?_)
  refine lv_aload cx.1 cx.2.1 dX4_trade_87 (lv_at hl 1 rfl) ?_
  refine lv_iconst (v := 0) cx.1 cx.2.1 dX4_trade_89 (by decide) ?_
  refine ck_S (v := none) (As := [.ref (ad_ w 6 p), .int 0]) (rest := []) cx hW hS hl (c_X4_needStanding_ok l hI a p (by omega) 0 hs) cw_X4_needStanding nw_193 nw_192 rfl rfl (Nat.le_of_ble_eq_true rfl) rfl rfl ⟨Nat.le_of_ble_eq_true rfl, Nat.le_of_ble_eq_true rfl⟩ ⟨Nat.le_of_ble_eq_true rfl, Nat.le_of_ble_eq_true rfl⟩ dX4_trade_90 (fun H locs hW hS => ?_)
  refine W.eq (g2 := F0 zm 93 ls []) rfl ?_
  refine lv_aload cx.1 cx.2.1 dX4_trade_93 (lv_at hl 0 rfl) ?_
  refine lv_iconst (v := 0) cx.1 cx.2.1 dX4_trade_95 (by decide) ?_
  refine ck_S (v := none) (As := [.ref (ad_ w 6 q), .int 0]) (rest := []) cx hW hS hl (c_X4_needStanding_ok l hI a q (by omega) 0 hs2) cw_X4_needStanding nw_193 nw_192 rfl rfl (Nat.le_of_ble_eq_true rfl) rfl rfl ⟨Nat.le_of_ble_eq_true rfl, Nat.le_of_ble_eq_true rfl⟩ ⟨Nat.le_of_ble_eq_true rfl, Nat.le_of_ble_eq_true rfl⟩ dX4_trade_96 (fun H locs hW hS => ?_)
  refine W.eq (g2 := F0 zm 99 ls []) rfl ?_
  refine lv_iload cx.1 cx.2.1 dX4_trade_99 (lv_at hl 6 rfl) ?_
  refine lv_i2l (v := u.toInt64) cx.1 cx.2.1 dX4_trade_101 rfl ?_
  refine lv_aload_n cx.1 cx.2.1 dX4_trade_102 rfl (lv_at hl 2 rfl) ?_
  refine gf_X4_17 cx hW (by decide) dX4_trade_103 ?_
  refine lv_iload_n cx.1 cx.2.1 dX4_trade_106 rfl (lv_at hl 5 rfl) ?_
  refine al_2 (j := j) cx hW (by decide) rfl (by omega) dX4_trade_107 ?_
  refine gf_X4_71 cx hW (by omega) dX4_trade_108 ?_
  refine lv_iload cx.1 cx.2.1 dX4_trade_111 (lv_at hl 7 rfl) ?_
  refine lv_isub cx.1 cx.2.1 dX4_trade_113 ?_
  refine lv_i2l (v := ((gi_ a 6 j 0) - v).toInt64) cx.1 cx.2.1 dX4_trade_114 rfl ?_
  refine lv_lmul cx.1 cx.2.1 dX4_trade_115 ?_
  refine tp_j (y := tg_ a j u v) rfl ?_
  refine lv_lstore (lv' := [(8, .long (tg_ a j u v)), (7, .ref (ad_ w 6 q)), (6, .ref (ad_ w 6 p)), (0, .ref (ad_ w 0 0)), (1, .int (nI p)), (2, .int (nI q)), (3, .int (nI j)), (4, .int u), (5, .int v)]) cx.1 cx.2.1 dX4_trade_116 hl (by decide) rfl (fun ls hl => ?_)
  refine lv_aload cx.1 cx.2.1 dX4_trade_118 (lv_at hl 2 rfl) ?_
  refine gf_X4_105 cx hW (by omega) dX4_trade_120 ?_
  refine lv_lload cx.1 cx.2.1 dX4_trade_123 (lv_at hl 0 rfl) ?_
  refine lv_ladd cx.1 cx.2.1 dX4_trade_125 ?_
  refine ck_S (v := some (.int (if ¬ wi_ ((gl_ a 2 p 0) + (tg_ a j u v)) (-1000000000000000) 1000000000000000 then 1 else 0))) (As := [.long ((gl_ a 2 p 0) + (tg_ a j u v))]) (rest := []) cx hW hS hl (c_X4_isTooMuch l hI a ((gl_ a 2 p 0) + (tg_ a j u v))) cw_X4_isTooMuch nw_157 nw_156 rfl rfl (Nat.le_of_ble_eq_true rfl) rfl rfl ⟨Nat.le_of_ble_eq_true rfl, Nat.le_of_ble_eq_true rfl⟩ ⟨Nat.le_of_ble_eq_true rfl, Nat.le_of_ble_eq_true rfl⟩ dX4_trade_126 (fun H locs hW hS => ?_)
  refine W.eq (g2 := F0 zm 129 ls [.int (if ¬ wi_ ((gl_ a 2 p 0) + (tg_ a j u v)) (-1000000000000000) 1000000000000000 then 1 else 0)]) rfl ?_
  refine lv_if_ne (tgt := 178) cx.1 cx.2.1 dX4_trade_129 (by decide) (fun zz => absurd (bz_f (fun z => z hr0.1)) zz) (fun h129 => ?_)
  refine lv_aload cx.1 cx.2.1 dX4_trade_132 (lv_at hl 1 rfl) ?_
  refine gf_X4_105 cx hW (by omega) dX4_trade_134 ?_
  refine lv_lload cx.1 cx.2.1 dX4_trade_137 (lv_at hl 0 rfl) ?_
  refine lv_lsub cx.1 cx.2.1 dX4_trade_139 ?_
  refine ck_S (v := some (.int (if ¬ wi_ ((gl_ a 2 q 0) - (tg_ a j u v)) (-1000000000000000) 1000000000000000 then 1 else 0))) (As := [.long ((gl_ a 2 q 0) - (tg_ a j u v))]) (rest := []) cx hW hS hl (c_X4_isTooMuch l hI a ((gl_ a 2 q 0) - (tg_ a j u v))) cw_X4_isTooMuch nw_157 nw_156 rfl rfl (Nat.le_of_ble_eq_true rfl) rfl rfl ⟨Nat.le_of_ble_eq_true rfl, Nat.le_of_ble_eq_true rfl⟩ ⟨Nat.le_of_ble_eq_true rfl, Nat.le_of_ble_eq_true rfl⟩ dX4_trade_140 (fun H locs hW hS => ?_)
  refine W.eq (g2 := F0 zm 143 ls [.int (if ¬ wi_ ((gl_ a 2 q 0) - (tg_ a j u v)) (-1000000000000000) 1000000000000000 then 1 else 0)]) rfl ?_
  refine lv_if_ne (tgt := 178) cx.1 cx.2.1 dX4_trade_143 (by decide) (fun zz => absurd (bz_f (fun z => z hr0.2.1)) zz) (fun h143 => ?_)
  refine lv_aload cx.1 cx.2.1 dX4_trade_146 (lv_at hl 2 rfl) ?_
  refine gf_X4_114 cx hW (by omega) dX4_trade_148 ?_
  refine lv_iload_n cx.1 cx.2.1 dX4_trade_151 rfl (lv_at hl 6 rfl) ?_
  refine al_7 (j := j) cx hW (by omega) rfl (by omega) dX4_trade_152 ?_
  refine lv_iload cx.1 cx.2.1 dX4_trade_153 (lv_at hl 7 rfl) ?_
  refine lv_iadd cx.1 cx.2.1 dX4_trade_155 ?_
  refine ck_S (v := some (.int (if ¬ wi_ ((gi_ a 4 p j) + u).toInt64 (-1000000) 1000000 then 1 else 0))) (As := [.int ((gi_ a 4 p j) + u)]) (rest := []) cx hW hS hl (c_X4_isTooMany l hI a ((gi_ a 4 p j) + u)) cw_X4_isTooMany nw_216 nw_215 rfl rfl (Nat.le_of_ble_eq_true rfl) rfl rfl ⟨Nat.le_of_ble_eq_true rfl, Nat.le_of_ble_eq_true rfl⟩ ⟨Nat.le_of_ble_eq_true rfl, Nat.le_of_ble_eq_true rfl⟩ dX4_trade_156 (fun H locs hW hS => ?_)
  refine W.eq (g2 := F0 zm 159 ls [.int (if ¬ wi_ ((gi_ a 4 p j) + u).toInt64 (-1000000) 1000000 then 1 else 0)]) rfl ?_
  refine lv_if_ne (tgt := 178) cx.1 cx.2.1 dX4_trade_159 (by decide) (fun zz => absurd (bz_f (fun z => z hr0.2.2.1)) zz) (fun h159 => ?_)
  refine lv_aload cx.1 cx.2.1 dX4_trade_162 (lv_at hl 1 rfl) ?_
  refine gf_X4_114 cx hW (by omega) dX4_trade_164 ?_
  refine lv_iload_n cx.1 cx.2.1 dX4_trade_167 rfl (lv_at hl 6 rfl) ?_
  refine al_7 (j := j) cx hW (by omega) rfl (by omega) dX4_trade_168 ?_
  refine lv_iload cx.1 cx.2.1 dX4_trade_169 (lv_at hl 7 rfl) ?_
  refine lv_isub cx.1 cx.2.1 dX4_trade_171 ?_
  refine ck_S (v := some (.int (if ¬ wi_ ((gi_ a 4 q j) - u).toInt64 (-1000000) 1000000 then 1 else 0))) (As := [.int ((gi_ a 4 q j) - u)]) (rest := []) cx hW hS hl (c_X4_isTooMany l hI a ((gi_ a 4 q j) - u)) cw_X4_isTooMany nw_216 nw_215 rfl rfl (Nat.le_of_ble_eq_true rfl) rfl rfl ⟨Nat.le_of_ble_eq_true rfl, Nat.le_of_ble_eq_true rfl⟩ ⟨Nat.le_of_ble_eq_true rfl, Nat.le_of_ble_eq_true rfl⟩ dX4_trade_172 (fun H locs hW hS => ?_)
  refine W.eq (g2 := F0 zm 175 ls [.int (if ¬ wi_ ((gi_ a 4 q j) - u).toInt64 (-1000000) 1000000 then 1 else 0)]) rfl ?_
  refine lv_if_eq (tgt := 180) cx.1 cx.2.1 dX4_trade_175 (by decide) (fun h175 => ?_) (fun zz => absurd (bz_f (fun z => z hr0.2.2.2)) zz)
  refine lv_aload cx.1 cx.2.1 dX4_trade_180 (lv_at hl 2 rfl) ?_
  refine lv_dup cx.1 cx.2.1 dX4_trade_182 rfl ?_
  refine gf_X4_105 cx hW (by omega) dX4_trade_183 ?_
  refine lv_lload cx.1 cx.2.1 dX4_trade_186 (lv_at hl 0 rfl) ?_
  refine lv_ladd cx.1 cx.2.1 dX4_trade_188 ?_
  refine pf_X4_105 cx hW hS (by omega) dX4_trade_189 (fun H locs hW hS => ?_)
  refine lv_aload cx.1 cx.2.1 dX4_trade_192 (lv_at hl 1 rfl) ?_
  refine lv_dup cx.1 cx.2.1 dX4_trade_194 rfl ?_
  refine gf_X4_105 cx hW (by omega) dX4_trade_195 ?_
  refine tp_j (y := gl_ a 2 q 0) (by rw [gl_sl, if_neg (by omega)]) ?_
  refine lv_lload cx.1 cx.2.1 dX4_trade_198 (lv_at hl 0 rfl) ?_
  refine lv_lsub cx.1 cx.2.1 dX4_trade_200 ?_
  refine pf_X4_105 cx hW hS (by omega) dX4_trade_201 (fun H locs hW hS => ?_)
  refine lv_aload cx.1 cx.2.1 dX4_trade_204 (lv_at hl 2 rfl) ?_
  refine gf_X4_114 cx hW (by omega) dX4_trade_206 ?_
  refine lv_iload_n cx.1 cx.2.1 dX4_trade_209 rfl (lv_at hl 6 rfl) ?_
  refine lv_dup2_11 cx.1 cx.2.1 dX4_trade_210 rfl rfl ?_
  refine al_7 (j := j) cx hW (by omega) rfl (by omega) dX4_trade_211 ?_
  refine tp_i (y := gi_ a 4 p j) rfl ?_
  refine lv_iload cx.1 cx.2.1 dX4_trade_212 (lv_at hl 7 rfl) ?_
  refine lv_iadd cx.1 cx.2.1 dX4_trade_214 ?_
  refine as_7 (j := j) cx hW hS (by omega) rfl (by omega) dX4_trade_215 (fun H locs hW hS => ?_)
  refine lv_aload cx.1 cx.2.1 dX4_trade_216 (lv_at hl 1 rfl) ?_
  refine gf_X4_114 cx hW (by omega) dX4_trade_218 ?_
  refine lv_iload_n cx.1 cx.2.1 dX4_trade_221 rfl (lv_at hl 6 rfl) ?_
  refine lv_dup2_11 cx.1 cx.2.1 dX4_trade_222 rfl rfl ?_
  refine al_7 (j := j) cx hW (by omega) rfl (by omega) dX4_trade_223 ?_
  refine tp_i (y := gi_ a 4 q j) (by simp only [gi_si, gi_sl]; rw [if_neg (by omega)]) ?_
  refine lv_iload cx.1 cx.2.1 dX4_trade_224 (lv_at hl 7 rfl) ?_
  refine lv_isub cx.1 cx.2.1 dX4_trade_226 ?_
  refine as_7 (j := j) cx hW hS (by omega) rfl (by omega) dX4_trade_227 (fun H locs hW hS => ?_)
  refine lv_aload_n cx.1 cx.2.1 dX4_trade_228 rfl (lv_at hl 3 rfl) ?_
  refine lv_dup cx.1 cx.2.1 dX4_trade_229 rfl ?_
  refine gf_X4_44 cx hW (by decide) dX4_trade_230 ?_
  refine tp_i (y := gi_ a 2 0 0) (by simp [gi_si, gi_sl]) ?_
  refine lv_iconst (v := 1) cx.1 cx.2.1 dX4_trade_233 (by decide) ?_
  refine lv_iadd cx.1 cx.2.1 dX4_trade_234 ?_
  refine pf_X4_44 cx hW hS (by decide) dX4_trade_235 (fun H locs hW hS => ?_)
  refine lv_aload_n cx.1 cx.2.1 dX4_trade_238 rfl (lv_at hl 3 rfl) ?_
  refine gf_X4_44 cx hW (by decide) dX4_trade_239 ?_
  refine tp_i (y := gi_ a 2 0 0 + 1) (by rw [gi_si]; exact if_pos ⟨rfl, rfl, rfl⟩) ?_
  exact cr_i cx hr hlk hW hS (Nat.le_of_ble_eq_true rfl) (Nat.le_of_ble_eq_true rfl) dX4_trade_242 rfl rfl
def mr_ (a : St_) (j : Nat) (v : Int32) : Int64 := (v - gi_ a 6 j 0).toInt64
abbrev mk_ (a : St_) (j : Nat) (v : Int32) (m : Nat) : Prop := tm_ (gl_ a 2 m 0 + mr_ a j v * (gi_ a 4 m j).toInt64)
def ma_ (a : St_) (j : Nat) (r : Int64) : Nat → St_
  | 0 => a
  | i + 1 => sl_ (ma_ a j r i) 2 i 0 (gl_ (ma_ a j r i) 2 i 0 + r * (gi_ (ma_ a j r i) 4 i j).toInt64)
theorem ma_gi (a : St_) (j : Nat) (r : Int64) (v x y : Nat) : ∀ i, gi_ (ma_ a j r i) v x y = gi_ a v x y
  | 0 => rfl
  | i + 1 => ma_gi a j r v x y i
def mz_ (a : St_) (j k : Nat) (v : Int32) : St_ := si_ (ma_ a j (mr_ a j v) k) 6 j 0 v
set_option maxHeartbeats 4000000 in
set_option maxRecDepth 100000 in
theorem c_X4_mark_ia (l : Launch) {w : Gh_} (hI : In_ w) (hst : l.stackTraces = false) (a : St_) (x v : Int32) (h : ¬ (wi_ x.toInt64 0 (gi_ a 1 0 0 - 1).toInt64 ∧ wi_ v.toInt64 0 1000000)) : Fn_ l w yX4_mark (.code yX4_mark cX4_mark 6 (some .int)) { frames := 7, cells := 1, slots := 6, locals := 110 } 1 6 [.ref (ad_ w 0 0), .int x, .int v] a (.inr IA_) a := by
  refine Fn_of hI (by decide +kernel) (Nat.le_of_ble_eq_true rfl) ?_
  intro zp ze zs zm zb zt zc ls cx hr hlk hno hW hS hl
  replace cx : Cx_ zp zs zm zc _ cX4_mark 6 "MarginHouse" w := cx
  replace hl : lv_has ls 6 [(0, .ref (ad_ w 0 0)), (1, .int x), (2, .int v)] := hl
  obtain ⟨H, hH⟩ : ∃ H, zs.heap = H := ⟨_, rfl⟩
  rw [hH] at hW
  have hS : Fr_ w zs.heap H [] := by rw [← hH]; exact hS
  obtain ⟨locs, hlocs⟩ : ∃ x : List Loc, x = [] := ⟨_, rfl⟩
  rw [← hlocs] at hS ⊢
  rw [show W zp l ze _ zs zm _ zb zt zc zs.heap locs 0 0 _ (F0 zm 0 ls []) ↔ W zp l ze _ zs zm _ zb zt zc H locs 0 0 _ (F0 zm 0 ls []) from by rw [hH]]
  refine lv_aload_n cx.1 cx.2.1 dX4_mark_0 rfl (lv_at hl 0 rfl) ?_
  refine lv_iload_n cx.1 cx.2.1 dX4_mark_1 rfl (lv_at hl 1 rfl) ?_
  refine ck_V (v := some (.int (if wi_ x.toInt64 0 (gi_ a 1 0 0 - 1).toInt64 then 1 else 0))) (As := [.int x]) (rest := []) (k := 0) (i := 0) (T := TX4) cx hW hS hl (by decide) rfl rfl (c_X4_isInstrument l hI a x) cw_X4_isInstrument nw_171 nw_522 nw_170 rfl rfl (Nat.le_of_ble_eq_true rfl) rfl rfl ⟨Nat.le_of_ble_eq_true rfl, Nat.le_of_ble_eq_true rfl⟩ ⟨Nat.le_of_ble_eq_true rfl, Nat.le_of_ble_eq_true rfl⟩ dX4_mark_2 (fun H locs hW hS => ?_)
  refine W.eq (g2 := F0 zm 5 ls [.int (if wi_ x.toInt64 0 (gi_ a 1 0 0 - 1).toInt64 then 1 else 0)]) rfl ?_
  refine lv_if_eq (tgt := 24) cx.1 cx.2.1 dX4_mark_5 (by decide) (fun h5 => ?_) (fun h5 => ?_)
  · skip
    have h5 := bz_0 h5
    refine lv_iconst (v := 0) cx.1 cx.2.1 dX4_mark_24 (by decide) ?_
    exact ct_S (As := [.int 0]) (rest := []) cx hlk hno hW hS hl (c_X4_need_bad l hI hst a) cw_X4_need nw_123 nw_122 rfl rfl (Nat.le_of_ble_eq_true rfl) rfl rfl ⟨Nat.le_of_ble_eq_true rfl, Nat.le_of_ble_eq_true rfl⟩ ⟨Nat.le_of_ble_eq_true rfl, Nat.le_of_ble_eq_true rfl⟩ dX4_mark_25 (Nat.le_of_ble_eq_true rfl) (Nat.le_of_ble_eq_true rfl) rfl rfl
  · skip
    have h5 := bz_1 h5
    refine lv_iload_n cx.1 cx.2.1 dX4_mark_8 rfl (lv_at hl 2 rfl) ?_
    refine lv_i2l (v := v.toInt64) cx.1 cx.2.1 dX4_mark_9 rfl ?_
    refine lv_lconst (v := 0) cx.1 cx.2.1 dX4_mark_10 (by decide) ?_
    refine lv_ldc2 (own := "MarginHouse") (v := 1000000) cx.1 cx.2.1 cx.2.2.2.1 (cx.2.2.2.2.1 _ nw_148) dX4_mark_11 ?_
    refine ck_S (v := some (.int (if wi_ v.toInt64 0 1000000 then 1 else 0))) (As := [.long v.toInt64, .long 0, .long 1000000]) (rest := []) cx hW hS hl (c_X4_within l hI a v.toInt64 0 1000000) cw_X4_within nw_120 nw_119 rfl rfl (Nat.le_of_ble_eq_true rfl) rfl rfl ⟨Nat.le_of_ble_eq_true rfl, Nat.le_of_ble_eq_true rfl⟩ ⟨Nat.le_of_ble_eq_true rfl, Nat.le_of_ble_eq_true rfl⟩ dX4_mark_14 (fun H locs hW hS => ?_)
    refine W.eq (g2 := F0 zm 17 ls [.int (if wi_ v.toInt64 0 1000000 then 1 else 0)]) rfl ?_
    refine lv_if_eq (tgt := 24) cx.1 cx.2.1 dX4_mark_17 (by decide) (fun h17 => ?_) (fun h17 => ?_)
    · skip
      have h17 := bz_0 h17
      refine lv_iconst (v := 0) cx.1 cx.2.1 dX4_mark_24 (by decide) ?_
      exact ct_S (As := [.int 0]) (rest := []) cx hlk hno hW hS hl (c_X4_need_bad l hI hst a) cw_X4_need nw_123 nw_122 rfl rfl (Nat.le_of_ble_eq_true rfl) rfl rfl ⟨Nat.le_of_ble_eq_true rfl, Nat.le_of_ble_eq_true rfl⟩ ⟨Nat.le_of_ble_eq_true rfl, Nat.le_of_ble_eq_true rfl⟩ dX4_mark_25 (Nat.le_of_ble_eq_true rfl) (Nat.le_of_ble_eq_true rfl) rfl rfl
    · skip
      have h17 := bz_1 h17
      exact absurd ⟨h5, h17⟩ h
set_option maxHeartbeats 4000000 in
set_option maxRecDepth 100000 in
theorem c_X4_mark_none (l : Launch) {w : Gh_} (hI : In_ w) (hst : l.stackTraces = false) (a : St_) (k : Nat) (hk : gi_ a 0 0 0 = nI k) (hk8 : k ≤ 8) (n : Nat) (hn : gi_ a 1 0 0 = nI n) (hn6 : n ≤ 6) (j : Nat) (hj : j < n) (v : Int32) (hv : wi_ v.toInt64 0 1000000) (he : ∃ m, m < k ∧ ¬ mk_ a j v m) : Fn_ l w yX4_mark (.code yX4_mark cX4_mark 6 (some .int)) { frames := 7, cells := 1, slots := 6, locals := 110 } 1 6 [.ref (ad_ w 0 0), .int (nI j), .int v] a (.inl (some (.int (-1)))) a := by
  refine Fn_of hI (by decide +kernel) (Nat.le_of_ble_eq_true rfl) ?_
  intro zp ze zs zm zb zt zc ls cx hr hlk hno hW hS hl
  replace cx : Cx_ zp zs zm zc _ cX4_mark 6 "MarginHouse" w := cx
  replace hl : lv_has ls 6 [(0, .ref (ad_ w 0 0)), (1, .int (nI j)), (2, .int v)] := hl
  obtain ⟨H, hH⟩ : ∃ H, zs.heap = H := ⟨_, rfl⟩
  rw [hH] at hW
  have hS : Fr_ w zs.heap H [] := by rw [← hH]; exact hS
  obtain ⟨locs, hlocs⟩ : ∃ x : List Loc, x = [] := ⟨_, rfl⟩
  rw [← hlocs] at hS ⊢
  rw [show W zp l ze _ zs zm _ zb zt zc zs.heap locs 0 0 _ (F0 zm 0 ls []) ↔ W zp l ze _ zs zm _ zb zt zc H locs 0 0 _ (F0 zm 0 ls []) from by rw [hH]]
  refine lv_aload_n cx.1 cx.2.1 dX4_mark_0 rfl (lv_at hl 0 rfl) ?_
  refine lv_iload_n cx.1 cx.2.1 dX4_mark_1 rfl (lv_at hl 1 rfl) ?_
  refine ck_V (v := some (.int (if wi_ (nI j).toInt64 0 (gi_ a 1 0 0 - 1).toInt64 then 1 else 0))) (As := [.int (nI j)]) (rest := []) (k := 0) (i := 0) (T := TX4) cx hW hS hl (by decide) rfl rfl (c_X4_isInstrument l hI a (nI j)) cw_X4_isInstrument nw_171 nw_522 nw_170 rfl rfl (Nat.le_of_ble_eq_true rfl) rfl rfl ⟨Nat.le_of_ble_eq_true rfl, Nat.le_of_ble_eq_true rfl⟩ ⟨Nat.le_of_ble_eq_true rfl, Nat.le_of_ble_eq_true rfl⟩ dX4_mark_2 (fun H locs hW hS => ?_)
  refine W.eq (g2 := F0 zm 5 ls [.int (if wi_ (nI j).toInt64 0 (gi_ a 1 0 0 - 1).toInt64 then 1 else 0)]) rfl ?_
  refine lv_if_eq (tgt := 24) cx.1 cx.2.1 dX4_mark_5 (by decide) (fun zz => absurd zz (bz_t (im_in hn (by omega) hj))) (fun h5 => ?_)
  refine lv_iload_n cx.1 cx.2.1 dX4_mark_8 rfl (lv_at hl 2 rfl) ?_
  refine lv_i2l (v := v.toInt64) cx.1 cx.2.1 dX4_mark_9 rfl ?_
  refine lv_lconst (v := 0) cx.1 cx.2.1 dX4_mark_10 (by decide) ?_
  refine lv_ldc2 (own := "MarginHouse") (v := 1000000) cx.1 cx.2.1 cx.2.2.2.1 (cx.2.2.2.2.1 _ nw_148) dX4_mark_11 ?_
  refine ck_S (v := some (.int (if wi_ v.toInt64 0 1000000 then 1 else 0))) (As := [.long v.toInt64, .long 0, .long 1000000]) (rest := []) cx hW hS hl (c_X4_within l hI a v.toInt64 0 1000000) cw_X4_within nw_120 nw_119 rfl rfl (Nat.le_of_ble_eq_true rfl) rfl rfl ⟨Nat.le_of_ble_eq_true rfl, Nat.le_of_ble_eq_true rfl⟩ ⟨Nat.le_of_ble_eq_true rfl, Nat.le_of_ble_eq_true rfl⟩ dX4_mark_14 (fun H locs hW hS => ?_)
  refine W.eq (g2 := F0 zm 17 ls [.int (if wi_ v.toInt64 0 1000000 then 1 else 0)]) rfl ?_
  refine lv_if_eq (tgt := 24) cx.1 cx.2.1 dX4_mark_17 (by decide) (fun zz => absurd zz (bz_t hv)) (fun h17 => ?_)
  refine lv_iconst (v := 1) cx.1 cx.2.1 dX4_mark_20 (by decide) ?_
  refine lv_goto (tgt := 25) cx.1 cx.2.1 dX4_mark_21 (by decide) ?_
  refine ck_S (v := none) (As := [.int 1]) (rest := []) cx hW hS hl (c_X4_need_ok l hI a) cw_X4_need nw_123 nw_122 rfl rfl (Nat.le_of_ble_eq_true rfl) rfl rfl ⟨Nat.le_of_ble_eq_true rfl, Nat.le_of_ble_eq_true rfl⟩ ⟨Nat.le_of_ble_eq_true rfl, Nat.le_of_ble_eq_true rfl⟩ dX4_mark_25 (fun H locs hW hS => ?_)
  refine W.eq (g2 := F0 zm 28 ls []) rfl ?_
  refine lv_iload_n cx.1 cx.2.1 dX4_mark_28 rfl (lv_at hl 2 rfl) ?_
  refine lv_aload_n cx.1 cx.2.1 dX4_mark_29 rfl (lv_at hl 0 rfl) ?_
  refine gf_X4_17 cx hW (by decide) dX4_mark_30 ?_
  refine lv_iload_n cx.1 cx.2.1 dX4_mark_33 rfl (lv_at hl 1 rfl) ?_
  refine al_2 (j := j) cx hW (by decide) rfl (by omega) dX4_mark_34 ?_
  refine gf_X4_71 cx hW (by omega) dX4_mark_35 ?_
  refine lv_isub cx.1 cx.2.1 dX4_mark_38 ?_
  refine lv_i2l (v := (v - (gi_ a 6 j 0)).toInt64) cx.1 cx.2.1 dX4_mark_39 rfl ?_
  refine tp_j (y := mr_ a j v) rfl ?_
  refine lv_lstore_n (lv' := [(3, .long (mr_ a j v)), (0, .ref (ad_ w 0 0)), (1, .int (nI j)), (2, .int v)]) cx.1 cx.2.1 dX4_mark_40 rfl hl (by decide) rfl (fun ls hl => ?_)
  refine lv_iconst (v := 0) cx.1 cx.2.1 dX4_mark_41 (by decide) ?_
  refine lv_istore (lv' := [(5, .int 0), (3, .long (mr_ a j v)), (0, .ref (ad_ w 0 0)), (1, .int (nI j)), (2, .int v)]) cx.1 cx.2.1 dX4_mark_42 hl (by decide) rfl (fun ls hl => ?_)
  have L44 : ∀ (d i : Nat), i ≤ k → k - i < d → (∀ m, m < i → mk_ a j v m) → ∀ (H : Heap) (locs : List Loc) (ls : Array Slot), Hd_ w a H → Fr_ w zs.heap H locs → lv_has ls 6 [(0, .ref (ad_ w 0 0)), (1, .int (nI j)), (2, .int v), (3, .long (mr_ a j v)), (5, .int (nI i))] → W zp l ze { frames := 7, cells := 1, slots := 6, locals := 110 } zs zm ([.ref (ad_ w 0 0), .int (nI j), .int v] : List Value).toArray zb zt zc H locs 0 0 (vx_MQ zb (Qc_ w (.inl (some (.int (-1)))) a) (XC_ w (.inl (some (.int (-1)))) a) ([.ref (ad_ w 0 0), .int (nI j), .int v] : List Value).toArray zs 1 6 (fun q => lo_ w ≤ q)) (F0 zm 44 ls []) := by
    intro d
    induction d with
    | zero => intro i _ hd; exact absurd hd (Nat.not_lt_zero _)
    | succ d ih44 =>
      intro i hi hdi hp H locs ls hW hS hl
      refine lv_iload cx.1 cx.2.1 dX4_mark_44 (lv_at hl 4 rfl) ?_
      refine lv_aload_n cx.1 cx.2.1 dX4_mark_46 rfl (lv_at hl 0 rfl) ?_
      refine gf_X4_37 cx hW (by decide) dX4_mark_47 ?_
      refine tp_i (y := nI k) hk ?_
      refine lv_icmp_ge (tgt := 93) cx.1 cx.2.1 dX4_mark_50 (by decide) (fun h50 => ?_) (fun h50 => ?_)
      · skip
        have h50 : k ≤ i := (nI_leI (by omega) (by omega)).mp h50
        have e44 : i = k := by omega
        try rw [e44] at hl
        try rw [e44] at hW
        obtain ⟨m, hm, hm2⟩ := he
        exact absurd (hp m (by omega)) hm2
      · skip
        have h50 : i < k := Nat.not_le.mp (fun q => h50 ((nI_leI (by omega) (by omega)).mpr q))
        refine lv_aload_n cx.1 cx.2.1 dX4_mark_53 rfl (lv_at hl 0 rfl) ?_
        refine gf_X4_11 cx hW (by decide) dX4_mark_54 ?_
        refine lv_iload cx.1 cx.2.1 dX4_mark_57 (lv_at hl 4 rfl) ?_
        refine al_1 (j := i) cx hW (by decide) rfl (by omega) dX4_mark_59 ?_
        refine gf_X4_105 cx hW (by omega) dX4_mark_60 ?_
        refine lv_lload_n cx.1 cx.2.1 dX4_mark_63 rfl (lv_at hl 3 rfl) ?_
        refine lv_aload_n cx.1 cx.2.1 dX4_mark_64 rfl (lv_at hl 0 rfl) ?_
        refine gf_X4_11 cx hW (by decide) dX4_mark_65 ?_
        refine lv_iload cx.1 cx.2.1 dX4_mark_68 (lv_at hl 4 rfl) ?_
        refine al_1 (j := i) cx hW (by decide) rfl (by omega) dX4_mark_70 ?_
        refine gf_X4_114 cx hW (by omega) dX4_mark_71 ?_
        refine lv_iload_n cx.1 cx.2.1 dX4_mark_74 rfl (lv_at hl 1 rfl) ?_
        refine al_7 (j := j) cx hW (by omega) rfl (by omega) dX4_mark_75 ?_
        refine lv_i2l (v := (gi_ a 4 i j).toInt64) cx.1 cx.2.1 dX4_mark_76 rfl ?_
        refine lv_lmul cx.1 cx.2.1 dX4_mark_77 ?_
        refine lv_ladd cx.1 cx.2.1 dX4_mark_78 ?_
        refine ck_S (v := some (.int (if ¬ wi_ ((gl_ a 2 i 0) + ((mr_ a j v) * ((gi_ a 4 i j).toInt64))) (-1000000000000000) 1000000000000000 then 1 else 0))) (As := [.long ((gl_ a 2 i 0) + ((mr_ a j v) * ((gi_ a 4 i j).toInt64)))]) (rest := []) cx hW hS hl (c_X4_isTooMuch l hI a ((gl_ a 2 i 0) + ((mr_ a j v) * ((gi_ a 4 i j).toInt64)))) cw_X4_isTooMuch nw_157 nw_156 rfl rfl (Nat.le_of_ble_eq_true rfl) rfl rfl ⟨Nat.le_of_ble_eq_true rfl, Nat.le_of_ble_eq_true rfl⟩ ⟨Nat.le_of_ble_eq_true rfl, Nat.le_of_ble_eq_true rfl⟩ dX4_mark_79 (fun H locs hW hS => ?_)
        refine W.eq (g2 := F0 zm 82 ls [.int (if ¬ wi_ ((gl_ a 2 i 0) + ((mr_ a j v) * ((gi_ a 4 i j).toInt64))) (-1000000000000000) 1000000000000000 then 1 else 0)]) rfl ?_
        refine lv_if_eq (tgt := 87) cx.1 cx.2.1 dX4_mark_82 (by decide) (fun h82 => ?_) (fun h82 => ?_)
        · skip
          have h82 := bz_0 h82
          have hmi : mk_ a j v i := Classical.not_not.mp h82
          refine lv_iinc (v := nI (i + 1)) (lv' := [(5, .int (nI (i + 1))), (0, .ref (ad_ w 0 0)), (1, .int (nI j)), (2, .int v), (3, .long (mr_ a j v))]) cx.1 cx.2.1 dX4_mark_87 hl (k := 4) rfl (nI_inc i) (by decide) rfl (fun ls hl => ?_)
          refine lv_goto (tgt := 44) cx.1 cx.2.1 dX4_mark_90 (by decide) ?_
          exact ih44 (i + 1) (by omega) (by omega) (fun m h => by rcases Nat.lt_succ_iff_lt_or_eq.mp h with h | rfl; exact hp m h; exact hmi) H locs ls hW hS (lv_sub (l' := [(0, .ref (ad_ w 0 0)), (1, .int (nI j)), (2, .int v), (3, .long (mr_ a j v)), (5, .int (nI (i + 1)))]) hl [1, 2, 3, 4, 0] rfl)
        · skip
          have h82 := bz_1 h82
          refine lv_iconst (v := -1) cx.1 cx.2.1 dX4_mark_85 (by decide) ?_
          exact cr_i cx hr hlk hW hS (Nat.le_of_ble_eq_true rfl) (Nat.le_of_ble_eq_true rfl) dX4_mark_86 rfl rfl
  exact L44 (k - 0 + 1) 0 (by omega) (by omega) (fun m h => absurd h (Nat.not_lt_zero m)) H locs ls hW hS (lv_sub hl [2, 3, 4, 1, 0] rfl)
set_option maxHeartbeats 4000000 in
set_option maxRecDepth 100000 in
theorem c_X4_mark_ok (l : Launch) {w : Gh_} (hI : In_ w) (hst : l.stackTraces = false) (a : St_) (k : Nat) (hk : gi_ a 0 0 0 = nI k) (hk8 : k ≤ 8) (n : Nat) (hn : gi_ a 1 0 0 = nI n) (hn6 : n ≤ 6) (j : Nat) (hj : j < n) (v : Int32) (hv : wi_ v.toInt64 0 1000000) (he : ∀ m, m < k → mk_ a j v m) : Fn_ l w yX4_mark (.code yX4_mark cX4_mark 6 (some .int)) { frames := 7, cells := 1, slots := 6, locals := 110 } 1 6 [.ref (ad_ w 0 0), .int (nI j), .int v] a (.inl (some (.int (cb_ (mz_ a j k v) k)))) (mz_ a j k v) := by
  refine Fn_of hI (by decide +kernel) (Nat.le_of_ble_eq_true rfl) ?_
  intro zp ze zs zm zb zt zc ls cx hr hlk hno hW hS hl
  replace cx : Cx_ zp zs zm zc _ cX4_mark 6 "MarginHouse" w := cx
  replace hl : lv_has ls 6 [(0, .ref (ad_ w 0 0)), (1, .int (nI j)), (2, .int v)] := hl
  obtain ⟨H, hH⟩ : ∃ H, zs.heap = H := ⟨_, rfl⟩
  rw [hH] at hW
  have hS : Fr_ w zs.heap H [] := by rw [← hH]; exact hS
  obtain ⟨locs, hlocs⟩ : ∃ x : List Loc, x = [] := ⟨_, rfl⟩
  rw [← hlocs] at hS ⊢
  rw [show W zp l ze _ zs zm _ zb zt zc zs.heap locs 0 0 _ (F0 zm 0 ls []) ↔ W zp l ze _ zs zm _ zb zt zc H locs 0 0 _ (F0 zm 0 ls []) from by rw [hH]]
  refine lv_aload_n cx.1 cx.2.1 dX4_mark_0 rfl (lv_at hl 0 rfl) ?_
  refine lv_iload_n cx.1 cx.2.1 dX4_mark_1 rfl (lv_at hl 1 rfl) ?_
  refine ck_V (v := some (.int (if wi_ (nI j).toInt64 0 (gi_ a 1 0 0 - 1).toInt64 then 1 else 0))) (As := [.int (nI j)]) (rest := []) (k := 0) (i := 0) (T := TX4) cx hW hS hl (by decide) rfl rfl (c_X4_isInstrument l hI a (nI j)) cw_X4_isInstrument nw_171 nw_522 nw_170 rfl rfl (Nat.le_of_ble_eq_true rfl) rfl rfl ⟨Nat.le_of_ble_eq_true rfl, Nat.le_of_ble_eq_true rfl⟩ ⟨Nat.le_of_ble_eq_true rfl, Nat.le_of_ble_eq_true rfl⟩ dX4_mark_2 (fun H locs hW hS => ?_)
  refine W.eq (g2 := F0 zm 5 ls [.int (if wi_ (nI j).toInt64 0 (gi_ a 1 0 0 - 1).toInt64 then 1 else 0)]) rfl ?_
  refine lv_if_eq (tgt := 24) cx.1 cx.2.1 dX4_mark_5 (by decide) (fun zz => absurd zz (bz_t (im_in hn (by omega) hj))) (fun h5 => ?_)
  refine lv_iload_n cx.1 cx.2.1 dX4_mark_8 rfl (lv_at hl 2 rfl) ?_
  refine lv_i2l (v := v.toInt64) cx.1 cx.2.1 dX4_mark_9 rfl ?_
  refine lv_lconst (v := 0) cx.1 cx.2.1 dX4_mark_10 (by decide) ?_
  refine lv_ldc2 (own := "MarginHouse") (v := 1000000) cx.1 cx.2.1 cx.2.2.2.1 (cx.2.2.2.2.1 _ nw_148) dX4_mark_11 ?_
  refine ck_S (v := some (.int (if wi_ v.toInt64 0 1000000 then 1 else 0))) (As := [.long v.toInt64, .long 0, .long 1000000]) (rest := []) cx hW hS hl (c_X4_within l hI a v.toInt64 0 1000000) cw_X4_within nw_120 nw_119 rfl rfl (Nat.le_of_ble_eq_true rfl) rfl rfl ⟨Nat.le_of_ble_eq_true rfl, Nat.le_of_ble_eq_true rfl⟩ ⟨Nat.le_of_ble_eq_true rfl, Nat.le_of_ble_eq_true rfl⟩ dX4_mark_14 (fun H locs hW hS => ?_)
  refine W.eq (g2 := F0 zm 17 ls [.int (if wi_ v.toInt64 0 1000000 then 1 else 0)]) rfl ?_
  refine lv_if_eq (tgt := 24) cx.1 cx.2.1 dX4_mark_17 (by decide) (fun zz => absurd zz (bz_t hv)) (fun h17 => ?_)
  refine lv_iconst (v := 1) cx.1 cx.2.1 dX4_mark_20 (by decide) ?_
  refine lv_goto (tgt := 25) cx.1 cx.2.1 dX4_mark_21 (by decide) ?_
  refine ck_S (v := none) (As := [.int 1]) (rest := []) cx hW hS hl (c_X4_need_ok l hI a) cw_X4_need nw_123 nw_122 rfl rfl (Nat.le_of_ble_eq_true rfl) rfl rfl ⟨Nat.le_of_ble_eq_true rfl, Nat.le_of_ble_eq_true rfl⟩ ⟨Nat.le_of_ble_eq_true rfl, Nat.le_of_ble_eq_true rfl⟩ dX4_mark_25 (fun H locs hW hS => ?_)
  refine W.eq (g2 := F0 zm 28 ls []) rfl ?_
  refine lv_iload_n cx.1 cx.2.1 dX4_mark_28 rfl (lv_at hl 2 rfl) ?_
  refine lv_aload_n cx.1 cx.2.1 dX4_mark_29 rfl (lv_at hl 0 rfl) ?_
  refine gf_X4_17 cx hW (by decide) dX4_mark_30 ?_
  refine lv_iload_n cx.1 cx.2.1 dX4_mark_33 rfl (lv_at hl 1 rfl) ?_
  refine al_2 (j := j) cx hW (by decide) rfl (by omega) dX4_mark_34 ?_
  refine gf_X4_71 cx hW (by omega) dX4_mark_35 ?_
  refine lv_isub cx.1 cx.2.1 dX4_mark_38 ?_
  refine lv_i2l (v := (v - (gi_ a 6 j 0)).toInt64) cx.1 cx.2.1 dX4_mark_39 rfl ?_
  refine tp_j (y := mr_ a j v) rfl ?_
  refine lv_lstore_n (lv' := [(3, .long (mr_ a j v)), (0, .ref (ad_ w 0 0)), (1, .int (nI j)), (2, .int v)]) cx.1 cx.2.1 dX4_mark_40 rfl hl (by decide) rfl (fun ls hl => ?_)
  refine lv_iconst (v := 0) cx.1 cx.2.1 dX4_mark_41 (by decide) ?_
  refine lv_istore (lv' := [(5, .int 0), (3, .long (mr_ a j v)), (0, .ref (ad_ w 0 0)), (1, .int (nI j)), (2, .int v)]) cx.1 cx.2.1 dX4_mark_42 hl (by decide) rfl (fun ls hl => ?_)
  have L44 : ∀ (d i : Nat), i ≤ k → k - i < d → ∀ (H : Heap) (locs : List Loc) (ls : Array Slot), Hd_ w a H → Fr_ w zs.heap H locs → lv_has ls 6 [(0, .ref (ad_ w 0 0)), (1, .int (nI j)), (2, .int v), (3, .long (mr_ a j v)), (5, .int (nI i))] → W zp l ze { frames := 7, cells := 1, slots := 6, locals := 110 } zs zm ([.ref (ad_ w 0 0), .int (nI j), .int v] : List Value).toArray zb zt zc H locs 0 0 (vx_MQ zb (Qc_ w (.inl (some (.int (cb_ (mz_ a j k v) k)))) (mz_ a j k v)) (XC_ w (.inl (some (.int (cb_ (mz_ a j k v) k)))) (mz_ a j k v)) ([.ref (ad_ w 0 0), .int (nI j), .int v] : List Value).toArray zs 1 6 (fun q => lo_ w ≤ q)) (F0 zm 44 ls []) := by
    intro d
    induction d with
    | zero => intro i _ hd; exact absurd hd (Nat.not_lt_zero _)
    | succ d ih44 =>
      intro i hi hdi  H locs ls hW hS hl
      refine lv_iload cx.1 cx.2.1 dX4_mark_44 (lv_at hl 4 rfl) ?_
      refine lv_aload_n cx.1 cx.2.1 dX4_mark_46 rfl (lv_at hl 0 rfl) ?_
      refine gf_X4_37 cx hW (by decide) dX4_mark_47 ?_
      refine tp_i (y := nI k) hk ?_
      refine lv_icmp_ge (tgt := 93) cx.1 cx.2.1 dX4_mark_50 (by decide) (fun h50 => ?_) (fun h50 => ?_)
      · skip
        have h50 : k ≤ i := (nI_leI (by omega) (by omega)).mp h50
        have e44 : i = k := by omega
        try rw [e44] at hl
        try rw [e44] at hW
        refine lv_iconst (v := 0) cx.1 cx.2.1 dX4_mark_93 (by decide) ?_
        refine lv_istore (lv' := [(5, .int 0), (0, .ref (ad_ w 0 0)), (1, .int (nI j)), (2, .int v), (3, .long (mr_ a j v))]) cx.1 cx.2.1 dX4_mark_94 hl (by decide) rfl (fun ls hl => ?_)
        have L96 : ∀ (d i : Nat), i ≤ k → k - i < d → ∀ (H : Heap) (locs : List Loc) (ls : Array Slot), Hd_ w (ma_ a j (mr_ a j v) i) H → Fr_ w zs.heap H locs → lv_has ls 6 [(0, .ref (ad_ w 0 0)), (1, .int (nI j)), (2, .int v), (3, .long (mr_ a j v)), (5, .int (nI i))] → W zp l ze { frames := 7, cells := 1, slots := 6, locals := 110 } zs zm ([.ref (ad_ w 0 0), .int (nI j), .int v] : List Value).toArray zb zt zc H locs 0 0 (vx_MQ zb (Qc_ w (.inl (some (.int (cb_ (mz_ a j k v) k)))) (mz_ a j k v)) (XC_ w (.inl (some (.int (cb_ (mz_ a j k v) k)))) (mz_ a j k v)) ([.ref (ad_ w 0 0), .int (nI j), .int v] : List Value).toArray zs 1 6 (fun q => lo_ w ≤ q)) (F0 zm 96 ls []) := by
          intro d
          induction d with
          | zero => intro i _ hd; exact absurd hd (Nat.not_lt_zero _)
          | succ d ih96 =>
            intro i hi hdi  H locs ls hW hS hl
            refine lv_iload cx.1 cx.2.1 dX4_mark_96 (lv_at hl 4 rfl) ?_
            refine lv_aload_n cx.1 cx.2.1 dX4_mark_98 rfl (lv_at hl 0 rfl) ?_
            refine gf_X4_37 cx hW (by decide) dX4_mark_99 ?_
            refine tp_i (y := nI k) (by rw [ma_gi]; exact hk) ?_
            refine lv_icmp_ge (tgt := 141) cx.1 cx.2.1 dX4_mark_102 (by decide) (fun h102 => ?_) (fun h102 => ?_)
            · skip
              have h102 : k ≤ i := (nI_leI (by omega) (by omega)).mp h102
              have e96 : i = k := by omega
              try rw [e96] at hl
              try rw [e96] at hW
              refine lv_aload_n cx.1 cx.2.1 dX4_mark_141 rfl (lv_at hl 0 rfl) ?_
              refine gf_X4_17 cx hW (by decide) dX4_mark_142 ?_
              refine lv_iload_n cx.1 cx.2.1 dX4_mark_145 rfl (lv_at hl 1 rfl) ?_
              refine al_2 (j := j) cx hW (by decide) rfl (by omega) dX4_mark_146 ?_
              refine lv_iload_n cx.1 cx.2.1 dX4_mark_147 rfl (lv_at hl 2 rfl) ?_
              refine pf_X4_71 cx hW hS (by omega) dX4_mark_148 (fun H locs hW hS => ?_)
              replace hW : Hd_ w (mz_ a j k v) H := hW
              refine lv_aload_n cx.1 cx.2.1 dX4_mark_151 rfl (lv_at hl 0 rfl) ?_
              refine ck_V (v := some (.int (cb_ (mz_ a j k v) k))) (As := []) (rest := []) (k := 0) (i := 0) (T := TX4) cx hW hS hl (by decide) rfl rfl (c_X4_countLiveBelowZero l hI (mz_ a j k v) k (by unfold mz_; rw [gi_si, if_neg (by omega), ma_gi]; exact hk) hk8) cw_X4_countLiveBelowZero nw_226 nw_524 nw_225 rfl rfl (Nat.le_of_ble_eq_true rfl) rfl rfl ⟨Nat.le_of_ble_eq_true rfl, Nat.le_of_ble_eq_true rfl⟩ ⟨Nat.le_of_ble_eq_true rfl, Nat.le_of_ble_eq_true rfl⟩ dX4_mark_152 (fun H locs hW hS => ?_)
              refine W.eq (g2 := F0 zm 155 ls [.int (cb_ (mz_ a j k v) k)]) rfl ?_
              exact cr_i cx hr hlk hW hS (Nat.le_of_ble_eq_true rfl) (Nat.le_of_ble_eq_true rfl) dX4_mark_155 rfl rfl
            · skip
              have h102 : i < k := Nat.not_le.mp (fun q => h102 ((nI_leI (by omega) (by omega)).mpr q))
              refine lv_aload_n cx.1 cx.2.1 dX4_mark_105 rfl (lv_at hl 0 rfl) ?_
              refine gf_X4_11 cx hW (by decide) dX4_mark_106 ?_
              refine lv_iload cx.1 cx.2.1 dX4_mark_109 (lv_at hl 4 rfl) ?_
              refine al_1 (j := i) cx hW (by decide) rfl (by omega) dX4_mark_111 ?_
              refine lv_dup cx.1 cx.2.1 dX4_mark_112 rfl ?_
              refine gf_X4_105 cx hW (by omega) dX4_mark_113 ?_
              refine lv_lload_n cx.1 cx.2.1 dX4_mark_116 rfl (lv_at hl 3 rfl) ?_
              refine lv_aload_n cx.1 cx.2.1 dX4_mark_117 rfl (lv_at hl 0 rfl) ?_
              refine gf_X4_11 cx hW (by decide) dX4_mark_118 ?_
              refine lv_iload cx.1 cx.2.1 dX4_mark_121 (lv_at hl 4 rfl) ?_
              refine al_1 (j := i) cx hW (by decide) rfl (by omega) dX4_mark_123 ?_
              refine gf_X4_114 cx hW (by omega) dX4_mark_124 ?_
              refine lv_iload_n cx.1 cx.2.1 dX4_mark_127 rfl (lv_at hl 1 rfl) ?_
              refine al_7 (j := j) cx hW (by omega) rfl (by omega) dX4_mark_128 ?_
              refine lv_i2l (v := (gi_ (ma_ a j (mr_ a j v) i) 4 i j).toInt64) cx.1 cx.2.1 dX4_mark_129 rfl ?_
              refine lv_lmul cx.1 cx.2.1 dX4_mark_130 ?_
              refine lv_ladd cx.1 cx.2.1 dX4_mark_131 ?_
              refine pf_X4_105 cx hW hS (by omega) dX4_mark_132 (fun H locs hW hS => ?_)
              refine lv_iinc (v := nI (i + 1)) (lv' := [(5, .int (nI (i + 1))), (0, .ref (ad_ w 0 0)), (1, .int (nI j)), (2, .int v), (3, .long (mr_ a j v))]) cx.1 cx.2.1 dX4_mark_135 hl (k := 4) rfl (nI_inc i) (by decide) rfl (fun ls hl => ?_)
              refine lv_goto (tgt := 96) cx.1 cx.2.1 dX4_mark_138 (by decide) ?_
              exact ih96 (i + 1) (by omega) (by omega)  H locs ls hW hS (lv_sub (l' := [(0, .ref (ad_ w 0 0)), (1, .int (nI j)), (2, .int v), (3, .long (mr_ a j v)), (5, .int (nI (i + 1)))]) hl [1, 2, 3, 4, 0] rfl)
        exact L96 (k - 0 + 1) 0 (by omega) (by omega)  H locs ls hW hS (lv_sub hl [1, 2, 3, 4, 0] rfl)
      · skip
        have h50 : i < k := Nat.not_le.mp (fun q => h50 ((nI_leI (by omega) (by omega)).mpr q))
        refine lv_aload_n cx.1 cx.2.1 dX4_mark_53 rfl (lv_at hl 0 rfl) ?_
        refine gf_X4_11 cx hW (by decide) dX4_mark_54 ?_
        refine lv_iload cx.1 cx.2.1 dX4_mark_57 (lv_at hl 4 rfl) ?_
        refine al_1 (j := i) cx hW (by decide) rfl (by omega) dX4_mark_59 ?_
        refine gf_X4_105 cx hW (by omega) dX4_mark_60 ?_
        refine lv_lload_n cx.1 cx.2.1 dX4_mark_63 rfl (lv_at hl 3 rfl) ?_
        refine lv_aload_n cx.1 cx.2.1 dX4_mark_64 rfl (lv_at hl 0 rfl) ?_
        refine gf_X4_11 cx hW (by decide) dX4_mark_65 ?_
        refine lv_iload cx.1 cx.2.1 dX4_mark_68 (lv_at hl 4 rfl) ?_
        refine al_1 (j := i) cx hW (by decide) rfl (by omega) dX4_mark_70 ?_
        refine gf_X4_114 cx hW (by omega) dX4_mark_71 ?_
        refine lv_iload_n cx.1 cx.2.1 dX4_mark_74 rfl (lv_at hl 1 rfl) ?_
        refine al_7 (j := j) cx hW (by omega) rfl (by omega) dX4_mark_75 ?_
        refine lv_i2l (v := (gi_ a 4 i j).toInt64) cx.1 cx.2.1 dX4_mark_76 rfl ?_
        refine lv_lmul cx.1 cx.2.1 dX4_mark_77 ?_
        refine lv_ladd cx.1 cx.2.1 dX4_mark_78 ?_
        refine ck_S (v := some (.int (if ¬ wi_ ((gl_ a 2 i 0) + ((mr_ a j v) * ((gi_ a 4 i j).toInt64))) (-1000000000000000) 1000000000000000 then 1 else 0))) (As := [.long ((gl_ a 2 i 0) + ((mr_ a j v) * ((gi_ a 4 i j).toInt64)))]) (rest := []) cx hW hS hl (c_X4_isTooMuch l hI a ((gl_ a 2 i 0) + ((mr_ a j v) * ((gi_ a 4 i j).toInt64)))) cw_X4_isTooMuch nw_157 nw_156 rfl rfl (Nat.le_of_ble_eq_true rfl) rfl rfl ⟨Nat.le_of_ble_eq_true rfl, Nat.le_of_ble_eq_true rfl⟩ ⟨Nat.le_of_ble_eq_true rfl, Nat.le_of_ble_eq_true rfl⟩ dX4_mark_79 (fun H locs hW hS => ?_)
        refine W.eq (g2 := F0 zm 82 ls [.int (if ¬ wi_ ((gl_ a 2 i 0) + ((mr_ a j v) * ((gi_ a 4 i j).toInt64))) (-1000000000000000) 1000000000000000 then 1 else 0)]) rfl ?_
        refine lv_if_eq (tgt := 87) cx.1 cx.2.1 dX4_mark_82 (by decide) (fun h82 => ?_) (fun zz => absurd (bz_f (fun z => z (he i h50))) zz)
        refine lv_iinc (v := nI (i + 1)) (lv' := [(5, .int (nI (i + 1))), (0, .ref (ad_ w 0 0)), (1, .int (nI j)), (2, .int v), (3, .long (mr_ a j v))]) cx.1 cx.2.1 dX4_mark_87 hl (k := 4) rfl (nI_inc i) (by decide) rfl (fun ls hl => ?_)
        refine lv_goto (tgt := 44) cx.1 cx.2.1 dX4_mark_90 (by decide) ?_
        exact ih44 (i + 1) (by omega) (by omega)  H locs ls hW hS (lv_sub (l' := [(0, .ref (ad_ w 0 0)), (1, .int (nI j)), (2, .int v), (3, .long (mr_ a j v)), (5, .int (nI (i + 1)))]) hl [1, 2, 3, 4, 0] rfl)
  exact L44 (k - 0 + 1) 0 (by omega) (by omega)  H locs ls hW hS (lv_sub hl [2, 3, 4, 1, 0] rfl)
def dc_ (a : St_) (n : Nat) : Nat → St_ × Int32
  | 0 => (a, 0)
  | i + 1 => if sf_ (dc_ a n i).1 i n ≤ 0 then dc_ a n i else (si_ (dc_ a n i).1 3 i 0 1, (dc_ a n i).2 + 1)
theorem dc_gi (a : St_) (n v x y : Nat) (hv : v ≠ 3) : ∀ i, gi_ (dc_ a n i).1 v x y = gi_ a v x y
  | 0 => rfl
  | i + 1 => by
    have ih := dc_gi a n v x y hv i
    rw [dc_]
    split
    · exact ih
    · show gi_ (si_ _ _ _ _ _) v x y = _
      rw [gi_si, if_neg (fun h => hv h.1), ih]
set_option maxHeartbeats 4000000 in
set_option maxRecDepth 100000 in
theorem c_X4_declare (l : Launch) {w : Gh_} (hI : In_ w) (a : St_) (k : Nat) (hk : gi_ a 0 0 0 = nI k) (hk8 : k ≤ 8) (n : Nat) (hn : gi_ a 1 0 0 = nI n) (hn6 : n ≤ 6) : Fn_ l w yX4_declare (.code yX4_declare cX4_declare 3 (some .int)) { frames := 4, cells := 0, slots := 0, locals := 93 } 0 0 [.ref (ad_ w 0 0)] a (.inl (some (.int ((dc_ a n k).2)))) ((dc_ a n k).1) := by
  refine Fn_of hI (by decide +kernel) (Nat.le_of_ble_eq_true rfl) ?_
  intro zp ze zs zm zb zt zc ls cx hr hlk hno hW hS hl
  replace cx : Cx_ zp zs zm zc _ cX4_declare 3 "MarginHouse" w := cx
  replace hl : lv_has ls 3 [(0, .ref (ad_ w 0 0))] := hl
  obtain ⟨H, hH⟩ : ∃ H, zs.heap = H := ⟨_, rfl⟩
  rw [hH] at hW
  have hS : Fr_ w zs.heap H [] := by rw [← hH]; exact hS
  obtain ⟨locs, hlocs⟩ : ∃ x : List Loc, x = [] := ⟨_, rfl⟩
  rw [← hlocs] at hS ⊢
  rw [show W zp l ze _ zs zm _ zb zt zc zs.heap locs 0 0 _ (F0 zm 0 ls []) ↔ W zp l ze _ zs zm _ zb zt zc H locs 0 0 _ (F0 zm 0 ls []) from by rw [hH]]
  refine lv_iconst (v := 0) cx.1 cx.2.1 dX4_declare_0 (by decide) ?_
  refine lv_istore_n (lv' := [(1, .int 0), (0, .ref (ad_ w 0 0))]) cx.1 cx.2.1 dX4_declare_1 rfl hl (by decide) rfl (fun ls hl => ?_)
  refine lv_iconst (v := 0) cx.1 cx.2.1 dX4_declare_2 (by decide) ?_
  refine lv_istore_n (lv' := [(2, .int 0), (1, .int 0), (0, .ref (ad_ w 0 0))]) cx.1 cx.2.1 dX4_declare_3 rfl hl (by decide) rfl (fun ls hl => ?_)
  have L4 : ∀ (d i : Nat), i ≤ k → k - i < d → ∀ (H : Heap) (locs : List Loc) (ls : Array Slot), Hd_ w ((dc_ a n i).1) H → Fr_ w zs.heap H locs → lv_has ls 3 [(0, .ref (ad_ w 0 0)), (1, .int ((dc_ a n i).2)), (2, .int (nI i))] → W zp l ze { frames := 4, cells := 0, slots := 0, locals := 93 } zs zm ([.ref (ad_ w 0 0)] : List Value).toArray zb zt zc H locs 0 0 (vx_MQ zb (Qc_ w (.inl (some (.int ((dc_ a n k).2)))) ((dc_ a n k).1)) (XC_ w (.inl (some (.int ((dc_ a n k).2)))) ((dc_ a n k).1)) ([.ref (ad_ w 0 0)] : List Value).toArray zs 0 0 (fun q => lo_ w ≤ q)) (F0 zm 4 ls []) := by
    intro d
    induction d with
    | zero => intro i _ hd; exact absurd hd (Nat.not_lt_zero _)
    | succ d ih4 =>
      intro i hi hdi  H locs ls hW hS hl
      refine lv_iload_n cx.1 cx.2.1 dX4_declare_4 rfl (lv_at hl 2 rfl) ?_
      refine lv_aload_n cx.1 cx.2.1 dX4_declare_5 rfl (lv_at hl 0 rfl) ?_
      refine gf_X4_37 cx hW (by decide) dX4_declare_6 ?_
      refine tp_i (y := nI k) (by rw [dc_gi _ _ _ _ _ (by decide)]; exact hk) ?_
      refine lv_icmp_ge (tgt := 46) cx.1 cx.2.1 dX4_declare_9 (by decide) (fun h9 => ?_) (fun h9 => ?_)
      · skip
        have h9 : k ≤ i := (nI_leI (by omega) (by omega)).mp h9
        have e4 : i = k := by omega
        try rw [e4] at hl
        try rw [e4] at hW
        refine lv_iload_n cx.1 cx.2.1 dX4_declare_46 rfl (lv_at hl 1 rfl) ?_
        exact cr_i cx hr hlk hW hS (Nat.le_of_ble_eq_true rfl) (Nat.le_of_ble_eq_true rfl) dX4_declare_47 rfl rfl
      · skip
        have h9 : i < k := Nat.not_le.mp (fun q => h9 ((nI_leI (by omega) (by omega)).mpr q))
        refine lv_aload_n cx.1 cx.2.1 dX4_declare_12 rfl (lv_at hl 0 rfl) ?_
        refine lv_aload_n cx.1 cx.2.1 dX4_declare_13 rfl (lv_at hl 0 rfl) ?_
        refine gf_X4_11 cx hW (by decide) dX4_declare_14 ?_
        refine lv_iload_n cx.1 cx.2.1 dX4_declare_17 rfl (lv_at hl 2 rfl) ?_
        refine al_1 (j := i) cx hW (by decide) rfl (by omega) dX4_declare_18 ?_
        refine ck_V (v := some (.long (sf_ (dc_ a n i).1 i n))) (As := [.ref (ad_ w 6 i)]) (rest := []) (k := 0) (i := 0) (T := TX4) cx hW hS hl (by decide) rfl rfl (c_X4_shortfallOf l hI (dc_ a n i).1 n (by rw [dc_gi _ _ _ _ _ (by decide)]; exact hn) hn6 i (by omega)) cw_X4_shortfallOf nw_93 nw_518 nw_92 rfl rfl (Nat.le_of_ble_eq_true rfl) rfl rfl ⟨Nat.le_of_ble_eq_true rfl, Nat.le_of_ble_eq_true rfl⟩ ⟨Nat.le_of_ble_eq_true rfl, Nat.le_of_ble_eq_true rfl⟩ dX4_declare_19 (fun H locs hW hS => ?_)
        refine W.eq (g2 := F0 zm 22 ls [.long (sf_ (dc_ a n i).1 i n)]) rfl ?_
        refine lv_lconst (v := 0) cx.1 cx.2.1 dX4_declare_22 (by decide) ?_
        refine lc_le (tgt := 40) cx.1 cx.2.1 dX4_declare_23 dX4_declare_24 (by decide) (fun h23 => ?_) (fun h23 => ?_)
        · skip
          have hE : dc_ a n (i + 1) = dc_ a n i := by rw [dc_, if_pos h23]
          refine lv_iinc (v := nI (i + 1)) (lv' := [(2, .int (nI (i + 1))), (0, .ref (ad_ w 0 0)), (1, .int ((dc_ a n i).2))]) cx.1 cx.2.1 dX4_declare_40 hl (k := 2) rfl (nI_inc i) (by decide) rfl (fun ls hl => ?_)
          refine lv_goto (tgt := 4) cx.1 cx.2.1 dX4_declare_43 (by decide) ?_
          exact ih4 (i + 1) (by omega) (by omega)  H locs ls (by rw [hE]; exact hW) hS (lv_sub (l' := [(0, .ref (ad_ w 0 0)), (1, .int ((dc_ a n (i + 1)).2)), (2, .int (nI (i + 1)))]) hl [1, 2, 0] (by rw [hE]; rfl))
        · skip
          have hE : dc_ a n (i + 1) = (si_ (dc_ a n i).1 3 i 0 1, (dc_ a n i).2 + 1) := by rw [dc_, if_neg h23]
          refine lv_aload_n cx.1 cx.2.1 dX4_declare_27 rfl (lv_at hl 0 rfl) ?_
          refine gf_X4_11 cx hW (by decide) dX4_declare_28 ?_
          refine lv_iload_n cx.1 cx.2.1 dX4_declare_31 rfl (lv_at hl 2 rfl) ?_
          refine al_1 (j := i) cx hW (by decide) rfl (by omega) dX4_declare_32 ?_
          refine lv_iconst (v := 1) cx.1 cx.2.1 dX4_declare_33 (by decide) ?_
          refine pf_X4_127 cx hW hS (by omega) dX4_declare_34 (fun H locs hW hS => ?_)
          refine lv_iinc (v := ((dc_ a n i).2) + 1) (lv' := [(1, .int (((dc_ a n i).2) + 1)), (0, .ref (ad_ w 0 0)), (2, .int (nI i))]) cx.1 cx.2.1 dX4_declare_37 hl (k := 1) rfl (by rw [lit1]) (by decide) rfl (fun ls hl => ?_)
          refine lv_iinc (v := nI (i + 1)) (lv' := [(2, .int (nI (i + 1))), (1, .int (((dc_ a n i).2) + 1)), (0, .ref (ad_ w 0 0))]) cx.1 cx.2.1 dX4_declare_40 hl (k := 2) rfl (nI_inc i) (by decide) rfl (fun ls hl => ?_)
          refine lv_goto (tgt := 4) cx.1 cx.2.1 dX4_declare_43 (by decide) ?_
          exact ih4 (i + 1) (by omega) (by omega)  H locs ls (by rw [hE]; exact hW) hS (lv_sub (l' := [(0, .ref (ad_ w 0 0)), (1, .int ((dc_ a n (i + 1)).2)), (2, .int (nI (i + 1)))]) hl [2, 1, 0] (by rw [hE]; rfl))
  exact L4 (k - 0 + 1) 0 (by omega) (by omega)  H locs ls hW hS (lv_sub hl [2, 1, 0] rfl)
theorem sz_gi (a : St_) (k v x y : Nat) : gi_ (sz_ a k) v x y = gi_ a v x y := by
  unfold sz_
  rw [gi_sl, sp_gi]
theorem pt_gi (q k v x y : Nat) (hv : v ≠ 10) : ∀ (f i : Nat) (b : St_), gi_ (pt_ q k f i b).2 v x y = gi_ b v x y
  | 0, i, b => rfl
  | f + 1, i, b => by
    have h1 : gi_ (si_ b 10 0 i (-1)) v x y = gi_ b v x y := by rw [gi_si, if_neg (fun h => hv h.1)]
    rw [pt_]
    split
    · rw [pt_gi q k v x y hv f, h1]
    · split
      · exact h1
      · split
        · rw [pt_gi q k v x y hv f, tk_gi hv, h1]
        · show gi_ (tk_ _ _ _ _) v x y = _
          rw [tk_gi hv, h1]
theorem pt_keep (q k j : Nat) : ∀ (f i : Nat) (b : St_), j < i → gi_ (pt_ q k f i b).2 10 0 j = gi_ b 10 0 j
  | 0, i, b, _ => rfl
  | f + 1, i, b, hj => by
    have h1 : gi_ (si_ b 10 0 i (-1)) 10 0 j = gi_ b 10 0 j := by rw [gi_si, if_neg (by omega)]
    have h2 : ∀ t, gi_ (tk_ (si_ b 10 0 i (-1)) q t i) 10 0 j = gi_ b 10 0 j := fun t => by
      unfold tk_
      rw [gi_sl, gi_sl, gi_si, if_neg (by omega), h1]
    rw [pt_]
    split
    · rw [pt_keep q k j f (i + 1) _ (by omega), h1]
    · split
      · exact h1
      · split
        · rw [pt_keep q k j f (i + 1) _ (by omega), h2]
        · exact h2 _
theorem pt_tk (q k : Nat) : ∀ (f i : Nat) (b : St_) (j : Nat), (pt_ q k f i b).1 = true → i ≤ j → j < i + f → gi_ (pt_ q k f i b).2 10 0 j = -1 ∨ ∃ t, t < k ∧ gi_ (pt_ q k f i b).2 10 0 j = nI t
  | 0, i, b, j, _, h1, h2 => by omega
  | f + 1, i, b, j, h, h1, h2 => by
    rw [pt_] at h ⊢
    split at h
    · rename_i hz
      rw [if_pos hz]
      by_cases hij : j = i
      · left
        subst hij
        rw [pt_keep q k j f (j + 1) _ (by omega), gi_si, if_pos ⟨rfl, rfl, rfl⟩]
      · exact pt_tk q k f (i + 1) _ j h (by omega) (by omega)
    · rename_i hz
      rw [if_neg hz]
      cases hl : lb_ (si_ b 10 0 i (-1)) i k with
      | none => rw [hl] at h; cases h
      | some t =>
        rw [hl] at h
        dsimp only at h ⊢
        by_cases ho : to_ (si_ b 10 0 i (-1)) q t i
        · rw [if_pos ho] at h ⊢
          by_cases hij : j = i
          · right
            subst hij
            refine ⟨t, lb_lt _ _ _ _ hl, ?_⟩
            rw [pt_keep q k j f (j + 1) _ (by omega)]
            unfold tk_
            rw [gi_sl, gi_sl, gi_si, if_pos ⟨rfl, rfl, rfl⟩]
          · exact pt_tk q k f (i + 1) _ j h (by omega) (by omega)
        · rw [if_neg ho] at h
          cases h
def kp_ (a : St_) (q k n : Nat) : Bool × St_ := pt_ q k n 0 (sz_ a k)
def kl_ (a : St_) (q k n : Nat) : St_ := l4_ (kp_ a q k n).2 q k
theorem kp_gi (a : St_) (q k n v x y : Nat) (hv : v ≠ 10) : gi_ (kp_ a q k n).2 v x y = gi_ a v x y := by
  unfold kp_
  rw [pt_gi q k v x y hv, sz_gi]
theorem kl_gi (a : St_) (q k n v x y : Nat) (hv : v ≠ 10) : gi_ (kl_ a q k n) v x y = gi_ a v x y := by
  unfold kl_
  rw [l4_gi, kp_gi a q k n v x y hv]
def kc_ (a : St_) (q k n : Nat) : St_ := ct_ (kl_ a q k n) q k n
set_option maxHeartbeats 4000000 in
set_option maxRecDepth 100000 in
theorem c_X4_closeOut_ia (l : Launch) {w : Gh_} (hI : In_ w) (hst : l.stackTraces = false) (a : St_) (x : Int32) (h : ¬ wi_ x.toInt64 0 (gi_ a 0 0 0 - 1).toInt64) : Fn_ l w yX4_closeOut (.code yX4_closeOut cX4_closeOut 2 (some .long)) { frames := 7, cells := 1, slots := 6, locals := 128 } 1 6 [.ref (ad_ w 0 0), .int x] a (.inr IA_) a := by
  refine Fn_of hI (by decide +kernel) (Nat.le_of_ble_eq_true rfl) ?_
  intro zp ze zs zm zb zt zc ls cx hr hlk hno hW hS hl
  replace cx : Cx_ zp zs zm zc _ cX4_closeOut 2 "MarginHouse" w := cx
  replace hl : lv_has ls 2 [(0, .ref (ad_ w 0 0)), (1, .int x)] := hl
  obtain ⟨H, hH⟩ : ∃ H, zs.heap = H := ⟨_, rfl⟩
  rw [hH] at hW
  have hS : Fr_ w zs.heap H [] := by rw [← hH]; exact hS
  obtain ⟨locs, hlocs⟩ : ∃ x : List Loc, x = [] := ⟨_, rfl⟩
  rw [← hlocs] at hS ⊢
  rw [show W zp l ze _ zs zm _ zb zt zc zs.heap locs 0 0 _ (F0 zm 0 ls []) ↔ W zp l ze _ zs zm _ zb zt zc H locs 0 0 _ (F0 zm 0 ls []) from by rw [hH]]
  refine lv_aload_n cx.1 cx.2.1 dX4_closeOut_0 rfl (lv_at hl 0 rfl) ?_
  refine lv_iload_n cx.1 cx.2.1 dX4_closeOut_1 rfl (lv_at hl 1 rfl) ?_
  refine ck_V (v := some (.int (if wi_ x.toInt64 0 (gi_ a 0 0 0 - 1).toInt64 then 1 else 0))) (As := [.int x]) (rest := []) (k := 0) (i := 0) (T := TX4) cx hW hS hl (by decide) rfl rfl (c_X4_isMember l hI a x) cw_X4_isMember nw_182 nw_523 nw_181 rfl rfl (Nat.le_of_ble_eq_true rfl) rfl rfl ⟨Nat.le_of_ble_eq_true rfl, Nat.le_of_ble_eq_true rfl⟩ ⟨Nat.le_of_ble_eq_true rfl, Nat.le_of_ble_eq_true rfl⟩ dX4_closeOut_2 (fun H locs hW hS => ?_)
  refine W.eq (g2 := F0 zm 5 ls [.int (if wi_ x.toInt64 0 (gi_ a 0 0 0 - 1).toInt64 then 1 else 0)]) rfl ?_
  refine tp_i (y := 0) (if_neg h) ?_
  exact ct_S (As := [.int 0]) (rest := []) cx hlk hno hW hS hl (c_X4_need_bad l hI hst a) cw_X4_need nw_123 nw_122 rfl rfl (Nat.le_of_ble_eq_true rfl) rfl rfl ⟨Nat.le_of_ble_eq_true rfl, Nat.le_of_ble_eq_true rfl⟩ ⟨Nat.le_of_ble_eq_true rfl, Nat.le_of_ble_eq_true rfl⟩ dX4_closeOut_5 (Nat.le_of_ble_eq_true rfl) (Nat.le_of_ble_eq_true rfl) rfl rfl
set_option maxHeartbeats 4000000 in
set_option maxRecDepth 100000 in
theorem c_X4_closeOut_is (l : Launch) {w : Gh_} (hI : In_ w) (hst : l.stackTraces = false) (a : St_) (k : Nat) (hk : gi_ a 0 0 0 = nI k) (hk8 : k ≤ 8) (q : Nat) (hq0 : q < k) (hs : ¬ gi_ a 3 q 0 = 1) : Fn_ l w yX4_closeOut (.code yX4_closeOut cX4_closeOut 2 (some .long)) { frames := 7, cells := 1, slots := 6, locals := 128 } 1 6 [.ref (ad_ w 0 0), .int (nI q)] a (.inr IS_) a := by
  refine Fn_of hI (by decide +kernel) (Nat.le_of_ble_eq_true rfl) ?_
  intro zp ze zs zm zb zt zc ls cx hr hlk hno hW hS hl
  replace cx : Cx_ zp zs zm zc _ cX4_closeOut 2 "MarginHouse" w := cx
  replace hl : lv_has ls 2 [(0, .ref (ad_ w 0 0)), (1, .int (nI q))] := hl
  obtain ⟨H, hH⟩ : ∃ H, zs.heap = H := ⟨_, rfl⟩
  rw [hH] at hW
  have hS : Fr_ w zs.heap H [] := by rw [← hH]; exact hS
  obtain ⟨locs, hlocs⟩ : ∃ x : List Loc, x = [] := ⟨_, rfl⟩
  rw [← hlocs] at hS ⊢
  rw [show W zp l ze _ zs zm _ zb zt zc zs.heap locs 0 0 _ (F0 zm 0 ls []) ↔ W zp l ze _ zs zm _ zb zt zc H locs 0 0 _ (F0 zm 0 ls []) from by rw [hH]]
  refine lv_aload_n cx.1 cx.2.1 dX4_closeOut_0 rfl (lv_at hl 0 rfl) ?_
  refine lv_iload_n cx.1 cx.2.1 dX4_closeOut_1 rfl (lv_at hl 1 rfl) ?_
  refine ck_V (v := some (.int (if wi_ (nI q).toInt64 0 (gi_ a 0 0 0 - 1).toInt64 then 1 else 0))) (As := [.int (nI q)]) (rest := []) (k := 0) (i := 0) (T := TX4) cx hW hS hl (by decide) rfl rfl (c_X4_isMember l hI a (nI q)) cw_X4_isMember nw_182 nw_523 nw_181 rfl rfl (Nat.le_of_ble_eq_true rfl) rfl rfl ⟨Nat.le_of_ble_eq_true rfl, Nat.le_of_ble_eq_true rfl⟩ ⟨Nat.le_of_ble_eq_true rfl, Nat.le_of_ble_eq_true rfl⟩ dX4_closeOut_2 (fun H locs hW hS => ?_)
  refine W.eq (g2 := F0 zm 5 ls [.int (if wi_ (nI q).toInt64 0 (gi_ a 0 0 0 - 1).toInt64 then 1 else 0)]) rfl ?_
  refine tp_i (y := 1) (if_pos (im_in hk (by omega) hq0)) ?_
  refine ck_S (v := none) (As := [.int 1]) (rest := []) cx hW hS hl (c_X4_need_ok l hI a) cw_X4_need nw_123 nw_122 rfl rfl (Nat.le_of_ble_eq_true rfl) rfl rfl ⟨Nat.le_of_ble_eq_true rfl, Nat.le_of_ble_eq_true rfl⟩ ⟨Nat.le_of_ble_eq_true rfl, Nat.le_of_ble_eq_true rfl⟩ dX4_closeOut_5 (fun H locs hW hS => ?_)
  refine W.eq (g2 := F0 zm 8 ls []) rfl ?_
  refine lv_aload_n cx.1 cx.2.1 dX4_closeOut_8 rfl (lv_at hl 0 rfl) ?_
  refine gf_X4_11 cx hW (by decide) dX4_closeOut_9 ?_
  refine lv_iload_n cx.1 cx.2.1 dX4_closeOut_12 rfl (lv_at hl 1 rfl) ?_
  refine al_1 (j := q) cx hW (by decide) rfl (by omega) dX4_closeOut_13 ?_
  refine lv_iconst (v := 1) cx.1 cx.2.1 dX4_closeOut_14 (by decide) ?_
  exact ct_S (As := [.ref (ad_ w 6 q), .int 1]) (rest := []) cx hlk hno hW hS hl (c_X4_needStanding_bad l hI hst a q (by omega) 1 hs) cw_X4_needStanding nw_193 nw_192 rfl rfl (Nat.le_of_ble_eq_true rfl) rfl rfl ⟨Nat.le_of_ble_eq_true rfl, Nat.le_of_ble_eq_true rfl⟩ ⟨Nat.le_of_ble_eq_true rfl, Nat.le_of_ble_eq_true rfl⟩ dX4_closeOut_15 (Nat.le_of_ble_eq_true rfl) (Nat.le_of_ble_eq_true rfl) rfl rfl
set_option maxHeartbeats 4000000 in
set_option maxRecDepth 100000 in
theorem c_X4_closeOut_no1 (l : Launch) {w : Gh_} (hI : In_ w) (hst : l.stackTraces = false) (a : St_) (k : Nat) (hk : gi_ a 0 0 0 = nI k) (hk8 : k ≤ 8) (n : Nat) (hn : gi_ a 1 0 0 = nI n) (hn6 : n ≤ 6) (q : Nat) (hq0 : q < k) (hs : gi_ a 3 q 0 = 1) (hp0 : ¬ (kp_ a q k n).1 = true) : Fn_ l w yX4_closeOut (.code yX4_closeOut cX4_closeOut 2 (some .long)) { frames := 7, cells := 1, slots := 6, locals := 128 } 1 6 [.ref (ad_ w 0 0), .int (nI q)] a (.inl (some (.long (-1)))) ((kp_ a q k n).2) := by
  refine Fn_of hI (by decide +kernel) (Nat.le_of_ble_eq_true rfl) ?_
  intro zp ze zs zm zb zt zc ls cx hr hlk hno hW hS hl
  replace cx : Cx_ zp zs zm zc _ cX4_closeOut 2 "MarginHouse" w := cx
  replace hl : lv_has ls 2 [(0, .ref (ad_ w 0 0)), (1, .int (nI q))] := hl
  obtain ⟨H, hH⟩ : ∃ H, zs.heap = H := ⟨_, rfl⟩
  rw [hH] at hW
  have hS : Fr_ w zs.heap H [] := by rw [← hH]; exact hS
  obtain ⟨locs, hlocs⟩ : ∃ x : List Loc, x = [] := ⟨_, rfl⟩
  rw [← hlocs] at hS ⊢
  rw [show W zp l ze _ zs zm _ zb zt zc zs.heap locs 0 0 _ (F0 zm 0 ls []) ↔ W zp l ze _ zs zm _ zb zt zc H locs 0 0 _ (F0 zm 0 ls []) from by rw [hH]]
  refine lv_aload_n cx.1 cx.2.1 dX4_closeOut_0 rfl (lv_at hl 0 rfl) ?_
  refine lv_iload_n cx.1 cx.2.1 dX4_closeOut_1 rfl (lv_at hl 1 rfl) ?_
  refine ck_V (v := some (.int (if wi_ (nI q).toInt64 0 (gi_ a 0 0 0 - 1).toInt64 then 1 else 0))) (As := [.int (nI q)]) (rest := []) (k := 0) (i := 0) (T := TX4) cx hW hS hl (by decide) rfl rfl (c_X4_isMember l hI a (nI q)) cw_X4_isMember nw_182 nw_523 nw_181 rfl rfl (Nat.le_of_ble_eq_true rfl) rfl rfl ⟨Nat.le_of_ble_eq_true rfl, Nat.le_of_ble_eq_true rfl⟩ ⟨Nat.le_of_ble_eq_true rfl, Nat.le_of_ble_eq_true rfl⟩ dX4_closeOut_2 (fun H locs hW hS => ?_)
  refine W.eq (g2 := F0 zm 5 ls [.int (if wi_ (nI q).toInt64 0 (gi_ a 0 0 0 - 1).toInt64 then 1 else 0)]) rfl ?_
  refine tp_i (y := 1) (if_pos (im_in hk (by omega) hq0)) ?_
  refine ck_S (v := none) (As := [.int 1]) (rest := []) cx hW hS hl (c_X4_need_ok l hI a) cw_X4_need nw_123 nw_122 rfl rfl (Nat.le_of_ble_eq_true rfl) rfl rfl ⟨Nat.le_of_ble_eq_true rfl, Nat.le_of_ble_eq_true rfl⟩ ⟨Nat.le_of_ble_eq_true rfl, Nat.le_of_ble_eq_true rfl⟩ dX4_closeOut_5 (fun H locs hW hS => ?_)
  refine W.eq (g2 := F0 zm 8 ls []) rfl ?_
  refine lv_aload_n cx.1 cx.2.1 dX4_closeOut_8 rfl (lv_at hl 0 rfl) ?_
  refine gf_X4_11 cx hW (by decide) dX4_closeOut_9 ?_
  refine lv_iload_n cx.1 cx.2.1 dX4_closeOut_12 rfl (lv_at hl 1 rfl) ?_
  refine al_1 (j := q) cx hW (by decide) rfl (by omega) dX4_closeOut_13 ?_
  refine lv_iconst (v := 1) cx.1 cx.2.1 dX4_closeOut_14 (by decide) ?_
  refine ck_S (v := none) (As := [.ref (ad_ w 6 q), .int 1]) (rest := []) cx hW hS hl (c_X4_needStanding_ok l hI a q (by omega) 1 hs) cw_X4_needStanding nw_193 nw_192 rfl rfl (Nat.le_of_ble_eq_true rfl) rfl rfl ⟨Nat.le_of_ble_eq_true rfl, Nat.le_of_ble_eq_true rfl⟩ ⟨Nat.le_of_ble_eq_true rfl, Nat.le_of_ble_eq_true rfl⟩ dX4_closeOut_15 (fun H locs hW hS => ?_)
  refine W.eq (g2 := F0 zm 18 ls []) rfl ?_
  refine lv_aload_n cx.1 cx.2.1 dX4_closeOut_18 rfl (lv_at hl 0 rfl) ?_
  refine ck_V (v := none) (As := []) (rest := []) (k := 0) (i := 0) (T := TX4) cx hW hS hl (by decide) rfl rfl (c_X4_startPlan l hI a k hk hk8) cw_X4_startPlan nw_250 nw_525 nw_249 rfl rfl (Nat.le_of_ble_eq_true rfl) rfl rfl ⟨Nat.le_of_ble_eq_true rfl, Nat.le_of_ble_eq_true rfl⟩ ⟨Nat.le_of_ble_eq_true rfl, Nat.le_of_ble_eq_true rfl⟩ dX4_closeOut_19 (fun H locs hW hS => ?_)
  refine W.eq (g2 := F0 zm 22 ls []) rfl ?_
  refine lv_aload_n cx.1 cx.2.1 dX4_closeOut_22 rfl (lv_at hl 0 rfl) ?_
  refine lv_iload_n cx.1 cx.2.1 dX4_closeOut_23 rfl (lv_at hl 1 rfl) ?_
  refine ck_V (v := some (.int (if (kp_ a q k n).1 = true then 1 else 0))) (As := [.int (nI q)]) (rest := []) (k := 0) (i := 0) (T := TX4) cx hW hS hl (by decide) rfl rfl (c_X4_planTakers l hI (sz_ a k) k (by rw [sz_gi]; exact hk) hk8 n (by rw [sz_gi]; exact hn) hn6 q (by omega)) cw_X4_planTakers nw_253 nw_526 nw_252 rfl rfl (Nat.le_of_ble_eq_true rfl) rfl rfl ⟨Nat.le_of_ble_eq_true rfl, Nat.le_of_ble_eq_true rfl⟩ ⟨Nat.le_of_ble_eq_true rfl, Nat.le_of_ble_eq_true rfl⟩ dX4_closeOut_24 (fun H locs hW hS => ?_)
  refine W.eq (g2 := F0 zm 27 ls [.int (if (kp_ a q k n).1 = true then 1 else 0)]) rfl ?_
  refine lv_if_ne (tgt := 34) cx.1 cx.2.1 dX4_closeOut_27 (by decide) (fun zz => absurd (bz_f hp0) zz) (fun h27 => ?_)
  refine lv_ldc2 (own := "MarginHouse") (v := -1) cx.1 cx.2.1 cx.2.2.2.1 (cx.2.2.2.2.1 _ nw_161) dX4_closeOut_30 ?_
  exact cr_l cx hr hlk hW hS (Nat.le_of_ble_eq_true rfl) (Nat.le_of_ble_eq_true rfl) dX4_closeOut_33 rfl rfl
set_option maxHeartbeats 4000000 in
set_option maxRecDepth 100000 in
theorem c_X4_closeOut_no2 (l : Launch) {w : Gh_} (hI : In_ w) (hst : l.stackTraces = false) (a : St_) (k : Nat) (hk : gi_ a 0 0 0 = nI k) (hk8 : k ≤ 8) (n : Nat) (hn : gi_ a 1 0 0 = nI n) (hn6 : n ≤ 6) (q : Nat) (hq0 : q < k) (hs : gi_ a 3 q 0 = 1) (hp0 : (kp_ a q k n).1 = true) (ht0 : ¬ tm_ (gl_ (kl_ a q k n) 1 0 0 + gl_ (kl_ a q k n) 7 0 4)) : Fn_ l w yX4_closeOut (.code yX4_closeOut cX4_closeOut 2 (some .long)) { frames := 7, cells := 1, slots := 6, locals := 128 } 1 6 [.ref (ad_ w 0 0), .int (nI q)] a (.inl (some (.long (-1)))) (kl_ a q k n) := by
  refine Fn_of hI (by decide +kernel) (Nat.le_of_ble_eq_true rfl) ?_
  intro zp ze zs zm zb zt zc ls cx hr hlk hno hW hS hl
  replace cx : Cx_ zp zs zm zc _ cX4_closeOut 2 "MarginHouse" w := cx
  replace hl : lv_has ls 2 [(0, .ref (ad_ w 0 0)), (1, .int (nI q))] := hl
  obtain ⟨H, hH⟩ : ∃ H, zs.heap = H := ⟨_, rfl⟩
  rw [hH] at hW
  have hS : Fr_ w zs.heap H [] := by rw [← hH]; exact hS
  obtain ⟨locs, hlocs⟩ : ∃ x : List Loc, x = [] := ⟨_, rfl⟩
  rw [← hlocs] at hS ⊢
  rw [show W zp l ze _ zs zm _ zb zt zc zs.heap locs 0 0 _ (F0 zm 0 ls []) ↔ W zp l ze _ zs zm _ zb zt zc H locs 0 0 _ (F0 zm 0 ls []) from by rw [hH]]
  refine lv_aload_n cx.1 cx.2.1 dX4_closeOut_0 rfl (lv_at hl 0 rfl) ?_
  refine lv_iload_n cx.1 cx.2.1 dX4_closeOut_1 rfl (lv_at hl 1 rfl) ?_
  refine ck_V (v := some (.int (if wi_ (nI q).toInt64 0 (gi_ a 0 0 0 - 1).toInt64 then 1 else 0))) (As := [.int (nI q)]) (rest := []) (k := 0) (i := 0) (T := TX4) cx hW hS hl (by decide) rfl rfl (c_X4_isMember l hI a (nI q)) cw_X4_isMember nw_182 nw_523 nw_181 rfl rfl (Nat.le_of_ble_eq_true rfl) rfl rfl ⟨Nat.le_of_ble_eq_true rfl, Nat.le_of_ble_eq_true rfl⟩ ⟨Nat.le_of_ble_eq_true rfl, Nat.le_of_ble_eq_true rfl⟩ dX4_closeOut_2 (fun H locs hW hS => ?_)
  refine W.eq (g2 := F0 zm 5 ls [.int (if wi_ (nI q).toInt64 0 (gi_ a 0 0 0 - 1).toInt64 then 1 else 0)]) rfl ?_
  refine tp_i (y := 1) (if_pos (im_in hk (by omega) hq0)) ?_
  refine ck_S (v := none) (As := [.int 1]) (rest := []) cx hW hS hl (c_X4_need_ok l hI a) cw_X4_need nw_123 nw_122 rfl rfl (Nat.le_of_ble_eq_true rfl) rfl rfl ⟨Nat.le_of_ble_eq_true rfl, Nat.le_of_ble_eq_true rfl⟩ ⟨Nat.le_of_ble_eq_true rfl, Nat.le_of_ble_eq_true rfl⟩ dX4_closeOut_5 (fun H locs hW hS => ?_)
  refine W.eq (g2 := F0 zm 8 ls []) rfl ?_
  refine lv_aload_n cx.1 cx.2.1 dX4_closeOut_8 rfl (lv_at hl 0 rfl) ?_
  refine gf_X4_11 cx hW (by decide) dX4_closeOut_9 ?_
  refine lv_iload_n cx.1 cx.2.1 dX4_closeOut_12 rfl (lv_at hl 1 rfl) ?_
  refine al_1 (j := q) cx hW (by decide) rfl (by omega) dX4_closeOut_13 ?_
  refine lv_iconst (v := 1) cx.1 cx.2.1 dX4_closeOut_14 (by decide) ?_
  refine ck_S (v := none) (As := [.ref (ad_ w 6 q), .int 1]) (rest := []) cx hW hS hl (c_X4_needStanding_ok l hI a q (by omega) 1 hs) cw_X4_needStanding nw_193 nw_192 rfl rfl (Nat.le_of_ble_eq_true rfl) rfl rfl ⟨Nat.le_of_ble_eq_true rfl, Nat.le_of_ble_eq_true rfl⟩ ⟨Nat.le_of_ble_eq_true rfl, Nat.le_of_ble_eq_true rfl⟩ dX4_closeOut_15 (fun H locs hW hS => ?_)
  refine W.eq (g2 := F0 zm 18 ls []) rfl ?_
  refine lv_aload_n cx.1 cx.2.1 dX4_closeOut_18 rfl (lv_at hl 0 rfl) ?_
  refine ck_V (v := none) (As := []) (rest := []) (k := 0) (i := 0) (T := TX4) cx hW hS hl (by decide) rfl rfl (c_X4_startPlan l hI a k hk hk8) cw_X4_startPlan nw_250 nw_525 nw_249 rfl rfl (Nat.le_of_ble_eq_true rfl) rfl rfl ⟨Nat.le_of_ble_eq_true rfl, Nat.le_of_ble_eq_true rfl⟩ ⟨Nat.le_of_ble_eq_true rfl, Nat.le_of_ble_eq_true rfl⟩ dX4_closeOut_19 (fun H locs hW hS => ?_)
  refine W.eq (g2 := F0 zm 22 ls []) rfl ?_
  refine lv_aload_n cx.1 cx.2.1 dX4_closeOut_22 rfl (lv_at hl 0 rfl) ?_
  refine lv_iload_n cx.1 cx.2.1 dX4_closeOut_23 rfl (lv_at hl 1 rfl) ?_
  refine ck_V (v := some (.int (if (kp_ a q k n).1 = true then 1 else 0))) (As := [.int (nI q)]) (rest := []) (k := 0) (i := 0) (T := TX4) cx hW hS hl (by decide) rfl rfl (c_X4_planTakers l hI (sz_ a k) k (by rw [sz_gi]; exact hk) hk8 n (by rw [sz_gi]; exact hn) hn6 q (by omega)) cw_X4_planTakers nw_253 nw_526 nw_252 rfl rfl (Nat.le_of_ble_eq_true rfl) rfl rfl ⟨Nat.le_of_ble_eq_true rfl, Nat.le_of_ble_eq_true rfl⟩ ⟨Nat.le_of_ble_eq_true rfl, Nat.le_of_ble_eq_true rfl⟩ dX4_closeOut_24 (fun H locs hW hS => ?_)
  refine W.eq (g2 := F0 zm 27 ls [.int (if (kp_ a q k n).1 = true then 1 else 0)]) rfl ?_
  refine lv_if_ne (tgt := 34) cx.1 cx.2.1 dX4_closeOut_27 (by decide) (fun h27 => ?_) (fun zz => absurd zz (bz_t hp0))
  refine lv_aload_n cx.1 cx.2.1 dX4_closeOut_34 rfl (lv_at hl 0 rfl) ?_
  refine lv_iload_n cx.1 cx.2.1 dX4_closeOut_35 rfl (lv_at hl 1 rfl) ?_
  refine ck_V (v := none) (As := [.int (nI q)]) (rest := []) (k := 0) (i := 0) (T := TX4) cx hW hS hl (by decide) rfl rfl (c_X4_planLayers l hI (kp_ a q k n).2 k (by rw [kp_gi _ _ _ _ _ _ _ (by decide)]; exact hk) hk8 q (by omega)) cw_X4_planLayers nw_262 nw_529 nw_261 rfl rfl (Nat.le_of_ble_eq_true rfl) rfl rfl ⟨Nat.le_of_ble_eq_true rfl, Nat.le_of_ble_eq_true rfl⟩ ⟨Nat.le_of_ble_eq_true rfl, Nat.le_of_ble_eq_true rfl⟩ dX4_closeOut_36 (fun H locs hW hS => ?_)
  refine W.eq (g2 := F0 zm 39 ls []) rfl ?_
  refine lv_aload_n cx.1 cx.2.1 dX4_closeOut_39 rfl (lv_at hl 0 rfl) ?_
  refine gf_X4_51 cx hW (by decide) dX4_closeOut_40 ?_
  refine lv_aload_n cx.1 cx.2.1 dX4_closeOut_43 rfl (lv_at hl 0 rfl) ?_
  refine gf_X4_33 cx hW (by decide) dX4_closeOut_44 ?_
  refine gf_X4_140 cx hW (by decide) dX4_closeOut_47 ?_
  refine lv_iconst (v := 4) cx.1 cx.2.1 dX4_closeOut_50 (by decide) ?_
  refine tp_i (y := nI 4) (by decide +kernel) ?_
  refine al_14 (j := 4) cx hW (by decide) rfl (by omega) dX4_closeOut_51 ?_
  refine lv_ladd cx.1 cx.2.1 dX4_closeOut_52 ?_
  refine ck_S (v := some (.int (if ¬ wi_ ((gl_ (kl_ a q k n) 1 0 0) + (gl_ (kl_ a q k n) 7 0 4)) (-1000000000000000) 1000000000000000 then 1 else 0))) (As := [.long ((gl_ (kl_ a q k n) 1 0 0) + (gl_ (kl_ a q k n) 7 0 4))]) (rest := []) cx hW hS hl (c_X4_isTooMuch l hI (kl_ a q k n) ((gl_ (kl_ a q k n) 1 0 0) + (gl_ (kl_ a q k n) 7 0 4))) cw_X4_isTooMuch nw_157 nw_156 rfl rfl (Nat.le_of_ble_eq_true rfl) rfl rfl ⟨Nat.le_of_ble_eq_true rfl, Nat.le_of_ble_eq_true rfl⟩ ⟨Nat.le_of_ble_eq_true rfl, Nat.le_of_ble_eq_true rfl⟩ dX4_closeOut_53 (fun H locs hW hS => ?_)
  refine W.eq (g2 := F0 zm 56 ls [.int (if ¬ wi_ ((gl_ (kl_ a q k n) 1 0 0) + (gl_ (kl_ a q k n) 7 0 4)) (-1000000000000000) 1000000000000000 then 1 else 0)]) rfl ?_
  refine lv_if_eq (tgt := 63) cx.1 cx.2.1 dX4_closeOut_56 (by decide) (fun zz => absurd zz (bz_t ht0)) (fun h56 => ?_)
  refine lv_ldc2 (own := "MarginHouse") (v := -1) cx.1 cx.2.1 cx.2.2.2.1 (cx.2.2.2.2.1 _ nw_161) dX4_closeOut_59 ?_
  exact cr_l cx hr hlk hW hS (Nat.le_of_ble_eq_true rfl) (Nat.le_of_ble_eq_true rfl) dX4_closeOut_62 rfl rfl
set_option maxHeartbeats 4000000 in
set_option maxRecDepth 100000 in
theorem c_X4_closeOut_ok (l : Launch) {w : Gh_} (hI : In_ w) (hst : l.stackTraces = false) (a : St_) (k : Nat) (hk : gi_ a 0 0 0 = nI k) (hk8 : k ≤ 8) (n : Nat) (hn : gi_ a 1 0 0 = nI n) (hn6 : n ≤ 6) (q : Nat) (hq0 : q < k) (hs : gi_ a 3 q 0 = 1) (hp0 : (kp_ a q k n).1 = true) (ht0 : tm_ (gl_ (kl_ a q k n) 1 0 0 + gl_ (kl_ a q k n) 7 0 4)) : Fn_ l w yX4_closeOut (.code yX4_closeOut cX4_closeOut 2 (some .long)) { frames := 7, cells := 1, slots := 6, locals := 128 } 1 6 [.ref (ad_ w 0 0), .int (nI q)] a (.inl (some (.long (gl_ (kc_ a q k n) 4 0 4)))) (kc_ a q k n) := by
  refine Fn_of hI (by decide +kernel) (Nat.le_of_ble_eq_true rfl) ?_
  intro zp ze zs zm zb zt zc ls cx hr hlk hno hW hS hl
  replace cx : Cx_ zp zs zm zc _ cX4_closeOut 2 "MarginHouse" w := cx
  replace hl : lv_has ls 2 [(0, .ref (ad_ w 0 0)), (1, .int (nI q))] := hl
  obtain ⟨H, hH⟩ : ∃ H, zs.heap = H := ⟨_, rfl⟩
  rw [hH] at hW
  have hS : Fr_ w zs.heap H [] := by rw [← hH]; exact hS
  obtain ⟨locs, hlocs⟩ : ∃ x : List Loc, x = [] := ⟨_, rfl⟩
  rw [← hlocs] at hS ⊢
  rw [show W zp l ze _ zs zm _ zb zt zc zs.heap locs 0 0 _ (F0 zm 0 ls []) ↔ W zp l ze _ zs zm _ zb zt zc H locs 0 0 _ (F0 zm 0 ls []) from by rw [hH]]
  refine lv_aload_n cx.1 cx.2.1 dX4_closeOut_0 rfl (lv_at hl 0 rfl) ?_
  refine lv_iload_n cx.1 cx.2.1 dX4_closeOut_1 rfl (lv_at hl 1 rfl) ?_
  refine ck_V (v := some (.int (if wi_ (nI q).toInt64 0 (gi_ a 0 0 0 - 1).toInt64 then 1 else 0))) (As := [.int (nI q)]) (rest := []) (k := 0) (i := 0) (T := TX4) cx hW hS hl (by decide) rfl rfl (c_X4_isMember l hI a (nI q)) cw_X4_isMember nw_182 nw_523 nw_181 rfl rfl (Nat.le_of_ble_eq_true rfl) rfl rfl ⟨Nat.le_of_ble_eq_true rfl, Nat.le_of_ble_eq_true rfl⟩ ⟨Nat.le_of_ble_eq_true rfl, Nat.le_of_ble_eq_true rfl⟩ dX4_closeOut_2 (fun H locs hW hS => ?_)
  refine W.eq (g2 := F0 zm 5 ls [.int (if wi_ (nI q).toInt64 0 (gi_ a 0 0 0 - 1).toInt64 then 1 else 0)]) rfl ?_
  refine tp_i (y := 1) (if_pos (im_in hk (by omega) hq0)) ?_
  refine ck_S (v := none) (As := [.int 1]) (rest := []) cx hW hS hl (c_X4_need_ok l hI a) cw_X4_need nw_123 nw_122 rfl rfl (Nat.le_of_ble_eq_true rfl) rfl rfl ⟨Nat.le_of_ble_eq_true rfl, Nat.le_of_ble_eq_true rfl⟩ ⟨Nat.le_of_ble_eq_true rfl, Nat.le_of_ble_eq_true rfl⟩ dX4_closeOut_5 (fun H locs hW hS => ?_)
  refine W.eq (g2 := F0 zm 8 ls []) rfl ?_
  refine lv_aload_n cx.1 cx.2.1 dX4_closeOut_8 rfl (lv_at hl 0 rfl) ?_
  refine gf_X4_11 cx hW (by decide) dX4_closeOut_9 ?_
  refine lv_iload_n cx.1 cx.2.1 dX4_closeOut_12 rfl (lv_at hl 1 rfl) ?_
  refine al_1 (j := q) cx hW (by decide) rfl (by omega) dX4_closeOut_13 ?_
  refine lv_iconst (v := 1) cx.1 cx.2.1 dX4_closeOut_14 (by decide) ?_
  refine ck_S (v := none) (As := [.ref (ad_ w 6 q), .int 1]) (rest := []) cx hW hS hl (c_X4_needStanding_ok l hI a q (by omega) 1 hs) cw_X4_needStanding nw_193 nw_192 rfl rfl (Nat.le_of_ble_eq_true rfl) rfl rfl ⟨Nat.le_of_ble_eq_true rfl, Nat.le_of_ble_eq_true rfl⟩ ⟨Nat.le_of_ble_eq_true rfl, Nat.le_of_ble_eq_true rfl⟩ dX4_closeOut_15 (fun H locs hW hS => ?_)
  refine W.eq (g2 := F0 zm 18 ls []) rfl ?_
  refine lv_aload_n cx.1 cx.2.1 dX4_closeOut_18 rfl (lv_at hl 0 rfl) ?_
  refine ck_V (v := none) (As := []) (rest := []) (k := 0) (i := 0) (T := TX4) cx hW hS hl (by decide) rfl rfl (c_X4_startPlan l hI a k hk hk8) cw_X4_startPlan nw_250 nw_525 nw_249 rfl rfl (Nat.le_of_ble_eq_true rfl) rfl rfl ⟨Nat.le_of_ble_eq_true rfl, Nat.le_of_ble_eq_true rfl⟩ ⟨Nat.le_of_ble_eq_true rfl, Nat.le_of_ble_eq_true rfl⟩ dX4_closeOut_19 (fun H locs hW hS => ?_)
  refine W.eq (g2 := F0 zm 22 ls []) rfl ?_
  refine lv_aload_n cx.1 cx.2.1 dX4_closeOut_22 rfl (lv_at hl 0 rfl) ?_
  refine lv_iload_n cx.1 cx.2.1 dX4_closeOut_23 rfl (lv_at hl 1 rfl) ?_
  refine ck_V (v := some (.int (if (kp_ a q k n).1 = true then 1 else 0))) (As := [.int (nI q)]) (rest := []) (k := 0) (i := 0) (T := TX4) cx hW hS hl (by decide) rfl rfl (c_X4_planTakers l hI (sz_ a k) k (by rw [sz_gi]; exact hk) hk8 n (by rw [sz_gi]; exact hn) hn6 q (by omega)) cw_X4_planTakers nw_253 nw_526 nw_252 rfl rfl (Nat.le_of_ble_eq_true rfl) rfl rfl ⟨Nat.le_of_ble_eq_true rfl, Nat.le_of_ble_eq_true rfl⟩ ⟨Nat.le_of_ble_eq_true rfl, Nat.le_of_ble_eq_true rfl⟩ dX4_closeOut_24 (fun H locs hW hS => ?_)
  refine W.eq (g2 := F0 zm 27 ls [.int (if (kp_ a q k n).1 = true then 1 else 0)]) rfl ?_
  refine lv_if_ne (tgt := 34) cx.1 cx.2.1 dX4_closeOut_27 (by decide) (fun h27 => ?_) (fun zz => absurd zz (bz_t hp0))
  refine lv_aload_n cx.1 cx.2.1 dX4_closeOut_34 rfl (lv_at hl 0 rfl) ?_
  refine lv_iload_n cx.1 cx.2.1 dX4_closeOut_35 rfl (lv_at hl 1 rfl) ?_
  refine ck_V (v := none) (As := [.int (nI q)]) (rest := []) (k := 0) (i := 0) (T := TX4) cx hW hS hl (by decide) rfl rfl (c_X4_planLayers l hI (kp_ a q k n).2 k (by rw [kp_gi _ _ _ _ _ _ _ (by decide)]; exact hk) hk8 q (by omega)) cw_X4_planLayers nw_262 nw_529 nw_261 rfl rfl (Nat.le_of_ble_eq_true rfl) rfl rfl ⟨Nat.le_of_ble_eq_true rfl, Nat.le_of_ble_eq_true rfl⟩ ⟨Nat.le_of_ble_eq_true rfl, Nat.le_of_ble_eq_true rfl⟩ dX4_closeOut_36 (fun H locs hW hS => ?_)
  refine W.eq (g2 := F0 zm 39 ls []) rfl ?_
  refine lv_aload_n cx.1 cx.2.1 dX4_closeOut_39 rfl (lv_at hl 0 rfl) ?_
  refine gf_X4_51 cx hW (by decide) dX4_closeOut_40 ?_
  refine lv_aload_n cx.1 cx.2.1 dX4_closeOut_43 rfl (lv_at hl 0 rfl) ?_
  refine gf_X4_33 cx hW (by decide) dX4_closeOut_44 ?_
  refine gf_X4_140 cx hW (by decide) dX4_closeOut_47 ?_
  refine lv_iconst (v := 4) cx.1 cx.2.1 dX4_closeOut_50 (by decide) ?_
  refine tp_i (y := nI 4) (by decide +kernel) ?_
  refine al_14 (j := 4) cx hW (by decide) rfl (by omega) dX4_closeOut_51 ?_
  refine lv_ladd cx.1 cx.2.1 dX4_closeOut_52 ?_
  refine ck_S (v := some (.int (if ¬ wi_ ((gl_ (kl_ a q k n) 1 0 0) + (gl_ (kl_ a q k n) 7 0 4)) (-1000000000000000) 1000000000000000 then 1 else 0))) (As := [.long ((gl_ (kl_ a q k n) 1 0 0) + (gl_ (kl_ a q k n) 7 0 4))]) (rest := []) cx hW hS hl (c_X4_isTooMuch l hI (kl_ a q k n) ((gl_ (kl_ a q k n) 1 0 0) + (gl_ (kl_ a q k n) 7 0 4))) cw_X4_isTooMuch nw_157 nw_156 rfl rfl (Nat.le_of_ble_eq_true rfl) rfl rfl ⟨Nat.le_of_ble_eq_true rfl, Nat.le_of_ble_eq_true rfl⟩ ⟨Nat.le_of_ble_eq_true rfl, Nat.le_of_ble_eq_true rfl⟩ dX4_closeOut_53 (fun H locs hW hS => ?_)
  refine W.eq (g2 := F0 zm 56 ls [.int (if ¬ wi_ ((gl_ (kl_ a q k n) 1 0 0) + (gl_ (kl_ a q k n) 7 0 4)) (-1000000000000000) 1000000000000000 then 1 else 0)]) rfl ?_
  refine lv_if_eq (tgt := 63) cx.1 cx.2.1 dX4_closeOut_56 (by decide) (fun h56 => ?_) (fun zz => absurd (bz_f (fun z => z ht0)) zz)
  refine lv_aload_n cx.1 cx.2.1 dX4_closeOut_63 rfl (lv_at hl 0 rfl) ?_
  refine lv_iload_n cx.1 cx.2.1 dX4_closeOut_64 rfl (lv_at hl 1 rfl) ?_
  refine ck_V (v := none) (As := [.int (nI q)]) (rest := []) (k := 0) (i := 0) (T := TX4) cx hW hS hl (by decide) rfl rfl (c_X4_carryOutPlan l hI (kl_ a q k n) k (by rw [kl_gi _ _ _ _ _ _ _ (by decide)]; exact hk) hk8 n (by rw [kl_gi _ _ _ _ _ _ _ (by decide)]; exact hn) hn6 q (by omega) (fun i hi => by unfold kl_; rw [l4_gi]; rcases pt_tk q k n 0 (sz_ a k) i hp0 (Nat.zero_le i) (by omega) with h | ⟨t, h1, h2⟩; exact Or.inl h; exact Or.inr ⟨t, by omega, h2⟩)) cw_X4_carryOutPlan nw_321 nw_537 nw_320 rfl rfl (Nat.le_of_ble_eq_true rfl) rfl rfl ⟨Nat.le_of_ble_eq_true rfl, Nat.le_of_ble_eq_true rfl⟩ ⟨Nat.le_of_ble_eq_true rfl, Nat.le_of_ble_eq_true rfl⟩ dX4_closeOut_65 (fun H locs hW hS => ?_)
  refine W.eq (g2 := F0 zm 68 ls []) rfl ?_
  refine lv_aload_n cx.1 cx.2.1 dX4_closeOut_68 rfl (lv_at hl 0 rfl) ?_
  refine gf_X4_26 cx hW (by decide) dX4_closeOut_69 ?_
  refine lv_iconst (v := 4) cx.1 cx.2.1 dX4_closeOut_72 (by decide) ?_
  refine tp_i (y := nI 4) (by decide +kernel) ?_
  refine al_4 (j := 4) cx hW (by decide) rfl (by omega) dX4_closeOut_73 ?_
  exact cr_l cx hr hlk hW hS (Nat.le_of_ble_eq_true rfl) (Nat.le_of_ble_eq_true rfl) dX4_closeOut_74 rfl rfl
