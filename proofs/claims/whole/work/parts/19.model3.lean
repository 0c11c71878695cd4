/-! MarginHouseModel: trade, mark, the shares -/
set_option maxHeartbeats 4000000 in
set_option maxRecDepth 100000 in
theorem c_X5_trade_ia (l : Launch) {w : Gh_} (hI : In_ w) (a : St_) (x y z u v : Int32) (h : ¬ ((jm_ x (gi_ a 21 0 0) ∧ jm_ y (gi_ a 21 0 0) ∧ ¬ x = y ∧ jm_ z (gi_ a 22 0 0)) ∧ wi_ u.toInt64 1 100000 ∧ wi_ v.toInt64 0 1000000)) : Fn_ l w yX5_trade (.code yX5_trade cX5_trade 11 (some .int)) { frames := 1, cells := 0, slots := 0, locals := 25 } 0 0 [.ref (ad_ w 20 0), .int x, .int y, .int z, .int u, .int v] a (.inl (some (.int 0))) (th_ a 1) := by
  refine Fn_of hI (by decide +kernel) (Nat.le_of_ble_eq_true rfl) ?_
  intro zp ze zs zm zb zt zc ls cx hr hlk hno hW hS hl
  replace cx : Cx_ zp zs zm zc _ cX5_trade 11 "MarginHouseModel" w := cx
  replace hl : lv_has ls 11 [(0, .ref (ad_ w 20 0)), (1, .int x), (2, .int y), (3, .int z), (4, .int u), (5, .int v)] := hl
  obtain ⟨H, hH⟩ : ∃ H, zs.heap = H := ⟨_, rfl⟩
  rw [hH] at hW
  have hS : Fr_ w zs.heap H [] := by rw [← hH]; exact hS
  obtain ⟨locs, hlocs⟩ : ∃ x : List Loc, x = [] := ⟨_, rfl⟩
  rw [← hlocs] at hS ⊢
  rw [show W zp l ze _ zs zm _ zb zt zc zs.heap locs 0 0 _ (F0 zm 0 ls []) ↔ W zp l ze _ zs zm _ zb zt zc H locs 0 0 _ (F0 zm 0 ls []) from by rw [hH]]
  refine lv_aload_n cx.1 cx.2.1 dX5_trade_0 rfl (lv_at hl 0 rfl) ?_
  refine lv_iload_n cx.1 cx.2.1 dX5_trade_1 rfl (lv_at hl 1 rfl) ?_
  refine ck_V (v := some (.int (if jm_ x (gi_ a 21 0 0) then 1 else 0))) (As := [.int x]) (rest := []) (k := 20) (i := 0) (T := TX5) cx hW hS hl (by decide) rfl rfl (c_X5_isMember l hI a x) cw_X5_isMember nw_436 nw_542 nw_435 rfl rfl (Nat.le_of_ble_eq_true rfl) rfl rfl ⟨Nat.le_of_ble_eq_true rfl, Nat.le_of_ble_eq_true rfl⟩ ⟨Nat.le_of_ble_eq_true rfl, Nat.le_of_ble_eq_true rfl⟩ dX5_trade_2 (fun H locs hW hS => ?_)
  refine W.eq (g2 := F0 zm 5 ls [.int (if jm_ x (gi_ a 21 0 0) then 1 else 0)]) rfl ?_
  refine lv_if_eq (tgt := 33) cx.1 cx.2.1 dX5_trade_5 (by decide) (fun h5 => ?_) (fun h5 => ?_)
  · skip
    have h5 := bz_0 h5
    refine lv_iconst (v := 0) cx.1 cx.2.1 dX5_trade_33 (by decide) ?_
    refine lv_istore (lv' := [(6, .int 0), (0, .ref (ad_ w 20 0)), (1, .int x), (2, .int y), (3, .int z), (4, .int u), (5, .int v)]) cx.1 cx.2.1 dX5_trade_34 hl (by decide) rfl (fun ls hl => ?_)
    refine lv_iload cx.1 cx.2.1 dX5_trade_36 (lv_at hl 0 rfl) ?_
    refine lv_if_eq (tgt := 71) cx.1 cx.2.1 dX5_trade_38 (by decide) (fun h38 => ?_) (fun zz => absurd rfl zz)
    refine lv_iconst (v := 0) cx.1 cx.2.1 dX5_trade_71 (by decide) ?_
    refine lv_istore (lv' := [(6, .int 0), (0, .ref (ad_ w 20 0)), (1, .int x), (2, .int y), (3, .int z), (4, .int u), (5, .int v)]) cx.1 cx.2.1 dX5_trade_72 hl (by decide) rfl (fun ls hl => ?_)
    refine lv_aload_n cx.1 cx.2.1 dX5_trade_74 rfl (lv_at hl 1 rfl) ?_
    refine lv_iload cx.1 cx.2.1 dX5_trade_75 (lv_at hl 0 rfl) ?_
    refine lv_if_ne (tgt := 84) cx.1 cx.2.1 dX5_trade_77 (by decide) (fun zz => absurd rfl zz) (fun h77 => ?_)
    refine lv_iconst (v := 1) cx.1 cx.2.1 dX5_trade_80 (by decide) ?_
    refine lv_goto (tgt := 107) cx.1 cx.2.1 dX5_trade_81 (by decide) ?_
    refine pf_X5_62 cx hW hS (by decide) dX5_trade_107 (fun H locs hW hS => ?_)
    replace hW : Hd_ w (th_ a 1) H := hW
    refine lv_aload_n cx.1 cx.2.1 dX5_trade_110 rfl (lv_at hl 1 rfl) ?_
    refine gf_X5_62 cx hW (by decide) dX5_trade_111 ?_
    refine tp_i (y := 1) (th_20 a _) ?_
    refine lv_if_le (tgt := 119) cx.1 cx.2.1 dX5_trade_114 (by decide) (fun zz => absurd zz (by decide)) (fun h114 => ?_)
    refine lv_iconst (v := 0) cx.1 cx.2.1 dX5_trade_117 (by decide) ?_
    exact cr_i cx hr hlk hW hS (Nat.le_of_ble_eq_true rfl) (Nat.le_of_ble_eq_true rfl) dX5_trade_118 rfl rfl
  · skip
    have h5 := bz_1 h5
    refine lv_aload_n cx.1 cx.2.1 dX5_trade_8 rfl (lv_at hl 0 rfl) ?_
    refine lv_iload_n cx.1 cx.2.1 dX5_trade_9 rfl (lv_at hl 2 rfl) ?_
    refine ck_V (v := some (.int (if jm_ y (gi_ a 21 0 0) then 1 else 0))) (As := [.int y]) (rest := []) (k := 20) (i := 0) (T := TX5) cx hW hS hl (by decide) rfl rfl (c_X5_isMember l hI a y) cw_X5_isMember nw_436 nw_542 nw_435 rfl rfl (Nat.le_of_ble_eq_true rfl) rfl rfl ⟨Nat.le_of_ble_eq_true rfl, Nat.le_of_ble_eq_true rfl⟩ ⟨Nat.le_of_ble_eq_true rfl, Nat.le_of_ble_eq_true rfl⟩ dX5_trade_10 (fun H locs hW hS => ?_)
    refine W.eq (g2 := F0 zm 13 ls [.int (if jm_ y (gi_ a 21 0 0) then 1 else 0)]) rfl ?_
    refine lv_if_eq (tgt := 33) cx.1 cx.2.1 dX5_trade_13 (by decide) (fun h13 => ?_) (fun h13 => ?_)
    · skip
      have h13 := bz_0 h13
      refine lv_iconst (v := 0) cx.1 cx.2.1 dX5_trade_33 (by decide) ?_
      refine lv_istore (lv' := [(6, .int 0), (0, .ref (ad_ w 20 0)), (1, .int x), (2, .int y), (3, .int z), (4, .int u), (5, .int v)]) cx.1 cx.2.1 dX5_trade_34 hl (by decide) rfl (fun ls hl => ?_)
      refine lv_iload cx.1 cx.2.1 dX5_trade_36 (lv_at hl 0 rfl) ?_
      refine lv_if_eq (tgt := 71) cx.1 cx.2.1 dX5_trade_38 (by decide) (fun h38 => ?_) (fun zz => absurd rfl zz)
      refine lv_iconst (v := 0) cx.1 cx.2.1 dX5_trade_71 (by decide) ?_
      refine lv_istore (lv' := [(6, .int 0), (0, .ref (ad_ w 20 0)), (1, .int x), (2, .int y), (3, .int z), (4, .int u), (5, .int v)]) cx.1 cx.2.1 dX5_trade_72 hl (by decide) rfl (fun ls hl => ?_)
      refine lv_aload_n cx.1 cx.2.1 dX5_trade_74 rfl (lv_at hl 1 rfl) ?_
      refine lv_iload cx.1 cx.2.1 dX5_trade_75 (lv_at hl 0 rfl) ?_
      refine lv_if_ne (tgt := 84) cx.1 cx.2.1 dX5_trade_77 (by decide) (fun zz => absurd rfl zz) (fun h77 => ?_)
      refine lv_iconst (v := 1) cx.1 cx.2.1 dX5_trade_80 (by decide) ?_
      refine lv_goto (tgt := 107) cx.1 cx.2.1 dX5_trade_81 (by decide) ?_
      refine pf_X5_62 cx hW hS (by decide) dX5_trade_107 (fun H locs hW hS => ?_)
      replace hW : Hd_ w (th_ a 1) H := hW
      refine lv_aload_n cx.1 cx.2.1 dX5_trade_110 rfl (lv_at hl 1 rfl) ?_
      refine gf_X5_62 cx hW (by decide) dX5_trade_111 ?_
      refine tp_i (y := 1) (th_20 a _) ?_
      refine lv_if_le (tgt := 119) cx.1 cx.2.1 dX5_trade_114 (by decide) (fun zz => absurd zz (by decide)) (fun h114 => ?_)
      refine lv_iconst (v := 0) cx.1 cx.2.1 dX5_trade_117 (by decide) ?_
      exact cr_i cx hr hlk hW hS (Nat.le_of_ble_eq_true rfl) (Nat.le_of_ble_eq_true rfl) dX5_trade_118 rfl rfl
    · skip
      have h13 := bz_1 h13
      refine lv_iload_n cx.1 cx.2.1 dX5_trade_16 rfl (lv_at hl 1 rfl) ?_
      refine lv_iload_n cx.1 cx.2.1 dX5_trade_17 rfl (lv_at hl 2 rfl) ?_
      refine lv_icmp_eq (tgt := 33) cx.1 cx.2.1 dX5_trade_18 (by decide) (fun h18 => ?_) (fun h18 => ?_)
      · skip
        refine lv_iconst (v := 0) cx.1 cx.2.1 dX5_trade_33 (by decide) ?_
        refine lv_istore (lv' := [(6, .int 0), (0, .ref (ad_ w 20 0)), (1, .int x), (2, .int y), (3, .int z), (4, .int u), (5, .int v)]) cx.1 cx.2.1 dX5_trade_34 hl (by decide) rfl (fun ls hl => ?_)
        refine lv_iload cx.1 cx.2.1 dX5_trade_36 (lv_at hl 0 rfl) ?_
        refine lv_if_eq (tgt := 71) cx.1 cx.2.1 dX5_trade_38 (by decide) (fun h38 => ?_) (fun zz => absurd rfl zz)
        refine lv_iconst (v := 0) cx.1 cx.2.1 dX5_trade_71 (by decide) ?_
        refine lv_istore (lv' := [(6, .int 0), (0, .ref (ad_ w 20 0)), (1, .int x), (2, .int y), (3, .int z), (4, .int u), (5, .int v)]) cx.1 cx.2.1 dX5_trade_72 hl (by decide) rfl (fun ls hl => ?_)
        refine lv_aload_n cx.1 cx.2.1 dX5_trade_74 rfl (lv_at hl 1 rfl) ?_
        refine lv_iload cx.1 cx.2.1 dX5_trade_75 (lv_at hl 0 rfl) ?_
        refine lv_if_ne (tgt := 84) cx.1 cx.2.1 dX5_trade_77 (by decide) (fun zz => absurd rfl zz) (fun h77 => ?_)
        refine lv_iconst (v := 1) cx.1 cx.2.1 dX5_trade_80 (by decide) ?_
        refine lv_goto (tgt := 107) cx.1 cx.2.1 dX5_trade_81 (by decide) ?_
        refine pf_X5_62 cx hW hS (by decide) dX5_trade_107 (fun H locs hW hS => ?_)
        replace hW : Hd_ w (th_ a 1) H := hW
        refine lv_aload_n cx.1 cx.2.1 dX5_trade_110 rfl (lv_at hl 1 rfl) ?_
        refine gf_X5_62 cx hW (by decide) dX5_trade_111 ?_
        refine tp_i (y := 1) (th_20 a _) ?_
        refine lv_if_le (tgt := 119) cx.1 cx.2.1 dX5_trade_114 (by decide) (fun zz => absurd zz (by decide)) (fun h114 => ?_)
        refine lv_iconst (v := 0) cx.1 cx.2.1 dX5_trade_117 (by decide) ?_
        exact cr_i cx hr hlk hW hS (Nat.le_of_ble_eq_true rfl) (Nat.le_of_ble_eq_true rfl) dX5_trade_118 rfl rfl
      · skip
        refine lv_aload_n cx.1 cx.2.1 dX5_trade_21 rfl (lv_at hl 0 rfl) ?_
        refine lv_iload_n cx.1 cx.2.1 dX5_trade_22 rfl (lv_at hl 3 rfl) ?_
        refine ck_V (v := some (.int (if jm_ z (gi_ a 22 0 0) then 1 else 0))) (As := [.int z]) (rest := []) (k := 20) (i := 0) (T := TX5) cx hW hS hl (by decide) rfl rfl (c_X5_isInstrument l hI a z) cw_X5_isInstrument nw_428 nw_541 nw_427 rfl rfl (Nat.le_of_ble_eq_true rfl) rfl rfl ⟨Nat.le_of_ble_eq_true rfl, Nat.le_of_ble_eq_true rfl⟩ ⟨Nat.le_of_ble_eq_true rfl, Nat.le_of_ble_eq_true rfl⟩ dX5_trade_23 (fun H locs hW hS => ?_)
        refine W.eq (g2 := F0 zm 26 ls [.int (if jm_ z (gi_ a 22 0 0) then 1 else 0)]) rfl ?_
        refine lv_if_eq (tgt := 33) cx.1 cx.2.1 dX5_trade_26 (by decide) (fun h26 => ?_) (fun h26 => ?_)
        · skip
          have h26 := bz_0 h26
          refine lv_iconst (v := 0) cx.1 cx.2.1 dX5_trade_33 (by decide) ?_
          refine lv_istore (lv' := [(6, .int 0), (0, .ref (ad_ w 20 0)), (1, .int x), (2, .int y), (3, .int z), (4, .int u), (5, .int v)]) cx.1 cx.2.1 dX5_trade_34 hl (by decide) rfl (fun ls hl => ?_)
          refine lv_iload cx.1 cx.2.1 dX5_trade_36 (lv_at hl 0 rfl) ?_
          refine lv_if_eq (tgt := 71) cx.1 cx.2.1 dX5_trade_38 (by decide) (fun h38 => ?_) (fun zz => absurd rfl zz)
          refine lv_iconst (v := 0) cx.1 cx.2.1 dX5_trade_71 (by decide) ?_
          refine lv_istore (lv' := [(6, .int 0), (0, .ref (ad_ w 20 0)), (1, .int x), (2, .int y), (3, .int z), (4, .int u), (5, .int v)]) cx.1 cx.2.1 dX5_trade_72 hl (by decide) rfl (fun ls hl => ?_)
          refine lv_aload_n cx.1 cx.2.1 dX5_trade_74 rfl (lv_at hl 1 rfl) ?_
          refine lv_iload cx.1 cx.2.1 dX5_trade_75 (lv_at hl 0 rfl) ?_
          refine lv_if_ne (tgt := 84) cx.1 cx.2.1 dX5_trade_77 (by decide) (fun zz => absurd rfl zz) (fun h77 => ?_)
          refine lv_iconst (v := 1) cx.1 cx.2.1 dX5_trade_80 (by decide) ?_
          refine lv_goto (tgt := 107) cx.1 cx.2.1 dX5_trade_81 (by decide) ?_
          refine pf_X5_62 cx hW hS (by decide) dX5_trade_107 (fun H locs hW hS => ?_)
          replace hW : Hd_ w (th_ a 1) H := hW
          refine lv_aload_n cx.1 cx.2.1 dX5_trade_110 rfl (lv_at hl 1 rfl) ?_
          refine gf_X5_62 cx hW (by decide) dX5_trade_111 ?_
          refine tp_i (y := 1) (th_20 a _) ?_
          refine lv_if_le (tgt := 119) cx.1 cx.2.1 dX5_trade_114 (by decide) (fun zz => absurd zz (by decide)) (fun h114 => ?_)
          refine lv_iconst (v := 0) cx.1 cx.2.1 dX5_trade_117 (by decide) ?_
          exact cr_i cx hr hlk hW hS (Nat.le_of_ble_eq_true rfl) (Nat.le_of_ble_eq_true rfl) dX5_trade_118 rfl rfl
        · skip
          have h26 := bz_1 h26
          refine lv_iconst (v := 1) cx.1 cx.2.1 dX5_trade_29 (by decide) ?_
          refine lv_goto (tgt := 34) cx.1 cx.2.1 dX5_trade_30 (by decide) ?_
          refine lv_istore (lv' := [(6, .int 1), (0, .ref (ad_ w 20 0)), (1, .int x), (2, .int y), (3, .int z), (4, .int u), (5, .int v)]) cx.1 cx.2.1 dX5_trade_34 hl (by decide) rfl (fun ls hl => ?_)
          refine lv_iload cx.1 cx.2.1 dX5_trade_36 (lv_at hl 0 rfl) ?_
          refine lv_if_eq (tgt := 71) cx.1 cx.2.1 dX5_trade_38 (by decide) (fun zz => absurd zz (by decide)) (fun h38 => ?_)
          refine lv_iload cx.1 cx.2.1 dX5_trade_41 (lv_at hl 5 rfl) ?_
          refine lv_i2l (v := u.toInt64) cx.1 cx.2.1 dX5_trade_43 rfl ?_
          refine lv_lconst (v := 1) cx.1 cx.2.1 dX5_trade_44 (by decide) ?_
          refine lv_ldc2 (own := "MarginHouseModel") (v := 100000) cx.1 cx.2.1 cx.2.2.2.1 (cx.2.2.2.2.1 _ nw_453) dX5_trade_45 ?_
          refine ck_S (v := some (.int (if wi_ u.toInt64 1 100000 then 1 else 0))) (As := [.long u.toInt64, .long 1, .long 100000]) (rest := []) cx hW hS hl (c_X5_within l hI a u.toInt64 1 100000) cw_X5_within nw_406 nw_405 rfl rfl (Nat.le_of_ble_eq_true rfl) rfl rfl ⟨Nat.le_of_ble_eq_true rfl, Nat.le_of_ble_eq_true rfl⟩ ⟨Nat.le_of_ble_eq_true rfl, Nat.le_of_ble_eq_true rfl⟩ dX5_trade_48 (fun H locs hW hS => ?_)
          refine W.eq (g2 := F0 zm 51 ls [.int (if wi_ u.toInt64 1 100000 then 1 else 0)]) rfl ?_
          refine lv_if_eq (tgt := 71) cx.1 cx.2.1 dX5_trade_51 (by decide) (fun h51 => ?_) (fun h51 => ?_)
          · skip
            have h51 := bz_0 h51
            refine lv_iconst (v := 0) cx.1 cx.2.1 dX5_trade_71 (by decide) ?_
            refine lv_istore (lv' := [(6, .int 0), (0, .ref (ad_ w 20 0)), (1, .int x), (2, .int y), (3, .int z), (4, .int u), (5, .int v)]) cx.1 cx.2.1 dX5_trade_72 hl (by decide) rfl (fun ls hl => ?_)
            refine lv_aload_n cx.1 cx.2.1 dX5_trade_74 rfl (lv_at hl 1 rfl) ?_
            refine lv_iload cx.1 cx.2.1 dX5_trade_75 (lv_at hl 0 rfl) ?_
            refine lv_if_ne (tgt := 84) cx.1 cx.2.1 dX5_trade_77 (by decide) (fun zz => absurd rfl zz) (fun h77 => ?_)
            refine lv_iconst (v := 1) cx.1 cx.2.1 dX5_trade_80 (by decide) ?_
            refine lv_goto (tgt := 107) cx.1 cx.2.1 dX5_trade_81 (by decide) ?_
            refine pf_X5_62 cx hW hS (by decide) dX5_trade_107 (fun H locs hW hS => ?_)
            replace hW : Hd_ w (th_ a 1) H := hW
            refine lv_aload_n cx.1 cx.2.1 dX5_trade_110 rfl (lv_at hl 1 rfl) ?_
            refine gf_X5_62 cx hW (by decide) dX5_trade_111 ?_
            refine tp_i (y := 1) (th_20 a _) ?_
            refine lv_if_le (tgt := 119) cx.1 cx.2.1 dX5_trade_114 (by decide) (fun zz => absurd zz (by decide)) (fun h114 => ?_)
            refine lv_iconst (v := 0) cx.1 cx.2.1 dX5_trade_117 (by decide) ?_
            exact cr_i cx hr hlk hW hS (Nat.le_of_ble_eq_true rfl) (Nat.le_of_ble_eq_true rfl) dX5_trade_118 rfl rfl
          · skip
            have h51 := bz_1 h51
            refine lv_iload cx.1 cx.2.1 dX5_trade_54 (lv_at hl 6 rfl) ?_
            refine lv_i2l (v := v.toInt64) cx.1 cx.2.1 dX5_trade_56 rfl ?_
            refine lv_lconst (v := 0) cx.1 cx.2.1 dX5_trade_57 (by decide) ?_
            refine lv_ldc2 (own := "MarginHouseModel") (v := 1000000) cx.1 cx.2.1 cx.2.2.2.1 (cx.2.2.2.2.1 _ nw_412) dX5_trade_58 ?_
            refine ck_S (v := some (.int (if wi_ v.toInt64 0 1000000 then 1 else 0))) (As := [.long v.toInt64, .long 0, .long 1000000]) (rest := []) cx hW hS hl (c_X5_within l hI a v.toInt64 0 1000000) cw_X5_within nw_406 nw_405 rfl rfl (Nat.le_of_ble_eq_true rfl) rfl rfl ⟨Nat.le_of_ble_eq_true rfl, Nat.le_of_ble_eq_true rfl⟩ ⟨Nat.le_of_ble_eq_true rfl, Nat.le_of_ble_eq_true rfl⟩ dX5_trade_61 (fun H locs hW hS => ?_)
            refine W.eq (g2 := F0 zm 64 ls [.int (if wi_ v.toInt64 0 1000000 then 1 else 0)]) rfl ?_
            refine lv_if_eq (tgt := 71) cx.1 cx.2.1 dX5_trade_64 (by decide) (fun h64 => ?_) (fun h64 => ?_)
            · skip
              have h64 := bz_0 h64
              refine lv_iconst (v := 0) cx.1 cx.2.1 dX5_trade_71 (by decide) ?_
              refine lv_istore (lv' := [(6, .int 0), (0, .ref (ad_ w 20 0)), (1, .int x), (2, .int y), (3, .int z), (4, .int u), (5, .int v)]) cx.1 cx.2.1 dX5_trade_72 hl (by decide) rfl (fun ls hl => ?_)
              refine lv_aload_n cx.1 cx.2.1 dX5_trade_74 rfl (lv_at hl 1 rfl) ?_
              refine lv_iload cx.1 cx.2.1 dX5_trade_75 (lv_at hl 0 rfl) ?_
              refine lv_if_ne (tgt := 84) cx.1 cx.2.1 dX5_trade_77 (by decide) (fun zz => absurd rfl zz) (fun h77 => ?_)
              refine lv_iconst (v := 1) cx.1 cx.2.1 dX5_trade_80 (by decide) ?_
              refine lv_goto (tgt := 107) cx.1 cx.2.1 dX5_trade_81 (by decide) ?_
              refine pf_X5_62 cx hW hS (by decide) dX5_trade_107 (fun H locs hW hS => ?_)
              replace hW : Hd_ w (th_ a 1) H := hW
              refine lv_aload_n cx.1 cx.2.1 dX5_trade_110 rfl (lv_at hl 1 rfl) ?_
              refine gf_X5_62 cx hW (by decide) dX5_trade_111 ?_
              refine tp_i (y := 1) (th_20 a _) ?_
              refine lv_if_le (tgt := 119) cx.1 cx.2.1 dX5_trade_114 (by decide) (fun zz => absurd zz (by decide)) (fun h114 => ?_)
              refine lv_iconst (v := 0) cx.1 cx.2.1 dX5_trade_117 (by decide) ?_
              exact cr_i cx hr hlk hW hS (Nat.le_of_ble_eq_true rfl) (Nat.le_of_ble_eq_true rfl) dX5_trade_118 rfl rfl
            · skip
              have h64 := bz_1 h64
              exact absurd ⟨⟨h5, h13, h18, h26⟩, h51, h64⟩ h
set_option maxHeartbeats 4000000 in
set_option maxRecDepth 100000 in
theorem c_X5_trade_is1 (l : Launch) {w : Gh_} (hI : In_ w) (a : St_) (k : Nat) (hk : gi_ a 21 0 0 = nI k) (hk8 : k ≤ 8) (n : Nat) (hn : gi_ a 22 0 0 = nI n) (hn6 : n ≤ 6) (p q j : Nat) (hp : p < k) (hq : q < k) (hpq : p ≠ q) (hj : j < n) (u v : Int32) (hu : wi_ u.toInt64 1 100000) (hv : wi_ v.toInt64 0 1000000) (hs : ¬ gi_ a 23 0 p = 0) : Fn_ l w yX5_trade (.code yX5_trade cX5_trade 11 (some .int)) { frames := 1, cells := 0, slots := 0, locals := 25 } 0 0 [.ref (ad_ w 20 0), .int (nI p), .int (nI q), .int (nI j), .int u, .int v] a (.inl (some (.int 0))) (th_ a 2) := by
  refine Fn_of hI (by decide +kernel) (Nat.le_of_ble_eq_true rfl) ?_
  intro zp ze zs zm zb zt zc ls cx hr hlk hno hW hS hl
  replace cx : Cx_ zp zs zm zc _ cX5_trade 11 "MarginHouseModel" w := cx
  replace hl : lv_has ls 11 [(0, .ref (ad_ w 20 0)), (1, .int (nI p)), (2, .int (nI q)), (3, .int (nI j)), (4, .int u), (5, .int v)] := hl
  obtain ⟨H, hH⟩ : ∃ H, zs.heap = H := ⟨_, rfl⟩
  rw [hH] at hW
  have hS : Fr_ w zs.heap H [] := by rw [← hH]; exact hS
  obtain ⟨locs, hlocs⟩ : ∃ x : List Loc, x = [] := ⟨_, rfl⟩
  rw [← hlocs] at hS ⊢
  rw [show W zp l ze _ zs zm _ zb zt zc zs.heap locs 0 0 _ (F0 zm 0 ls []) ↔ W zp l ze _ zs zm _ zb zt zc H locs 0 0 _ (F0 zm 0 ls []) from by rw [hH]]
  refine lv_aload_n cx.1 cx.2.1 dX5_trade_0 rfl (lv_at hl 0 rfl) ?_
  refine lv_iload_n cx.1 cx.2.1 dX5_trade_1 rfl (lv_at hl 1 rfl) ?_
  refine ck_V (v := some (.int (if jm_ (nI p) (gi_ a 21 0 0) then 1 else 0))) (As := [.int (nI p)]) (rest := []) (k := 20) (i := 0) (T := TX5) cx hW hS hl (by decide) rfl rfl (c_X5_isMember l hI a (nI p)) cw_X5_isMember nw_436 nw_542 nw_435 rfl rfl (Nat.le_of_ble_eq_true rfl) rfl rfl ⟨Nat.le_of_ble_eq_true rfl, Nat.le_of_ble_eq_true rfl⟩ ⟨Nat.le_of_ble_eq_true rfl, Nat.le_of_ble_eq_true rfl⟩ dX5_trade_2 (fun H locs hW hS => ?_)
  refine W.eq (g2 := F0 zm 5 ls [.int (if jm_ (nI p) (gi_ a 21 0 0) then 1 else 0)]) rfl ?_
  refine lv_if_eq (tgt := 33) cx.1 cx.2.1 dX5_trade_5 (by decide) (fun zz => absurd zz (bz_t (jm_in hk (by omega) hp))) (fun h5 => ?_)
  refine lv_aload_n cx.1 cx.2.1 dX5_trade_8 rfl (lv_at hl 0 rfl) ?_
  refine lv_iload_n cx.1 cx.2.1 dX5_trade_9 rfl (lv_at hl 2 rfl) ?_
  refine ck_V (v := some (.int (if jm_ (nI q) (gi_ a 21 0 0) then 1 else 0))) (As := [.int (nI q)]) (rest := []) (k := 20) (i := 0) (T := TX5) cx hW hS hl (by decide) rfl rfl (c_X5_isMember l hI a (nI q)) cw_X5_isMember nw_436 nw_542 nw_435 rfl rfl (Nat.le_of_ble_eq_true rfl) rfl rfl ⟨Nat.le_of_ble_eq_true rfl, Nat.le_of_ble_eq_true rfl⟩ ⟨Nat.le_of_ble_eq_true rfl, Nat.le_of_ble_eq_true rfl⟩ dX5_trade_10 (fun H locs hW hS => ?_)
  refine W.eq (g2 := F0 zm 13 ls [.int (if jm_ (nI q) (gi_ a 21 0 0) then 1 else 0)]) rfl ?_
  refine lv_if_eq (tgt := 33) cx.1 cx.2.1 dX5_trade_13 (by decide) (fun zz => absurd zz (bz_t (jm_in hk (by omega) hq))) (fun h13 => ?_)
  refine lv_iload_n cx.1 cx.2.1 dX5_trade_16 rfl (lv_at hl 1 rfl) ?_
  refine lv_iload_n cx.1 cx.2.1 dX5_trade_17 rfl (lv_at hl 2 rfl) ?_
  refine lv_icmp_eq (tgt := 33) cx.1 cx.2.1 dX5_trade_18 (by decide) (fun zz => absurd zz (fun z => hpq ((nI_eq (by omega) (by omega)).mp z))) (fun h18 => ?_)
  refine lv_aload_n cx.1 cx.2.1 dX5_trade_21 rfl (lv_at hl 0 rfl) ?_
  refine lv_iload_n cx.1 cx.2.1 dX5_trade_22 rfl (lv_at hl 3 rfl) ?_
  refine ck_V (v := some (.int (if jm_ (nI j) (gi_ a 22 0 0) then 1 else 0))) (As := [.int (nI j)]) (rest := []) (k := 20) (i := 0) (T := TX5) cx hW hS hl (by decide) rfl rfl (c_X5_isInstrument l hI a (nI j)) cw_X5_isInstrument nw_428 nw_541 nw_427 rfl rfl (Nat.le_of_ble_eq_true rfl) rfl rfl ⟨Nat.le_of_ble_eq_true rfl, Nat.le_of_ble_eq_true rfl⟩ ⟨Nat.le_of_ble_eq_true rfl, Nat.le_of_ble_eq_true rfl⟩ dX5_trade_23 (fun H locs hW hS => ?_)
  refine W.eq (g2 := F0 zm 26 ls [.int (if jm_ (nI j) (gi_ a 22 0 0) then 1 else 0)]) rfl ?_
  refine lv_if_eq (tgt := 33) cx.1 cx.2.1 dX5_trade_26 (by decide) (fun zz => absurd zz (bz_t (jm_in hn (by omega) hj))) (fun h26 => ?_)
  refine lv_iconst (v := 1) cx.1 cx.2.1 dX5_trade_29 (by decide) ?_
  refine lv_goto (tgt := 34) cx.1 cx.2.1 dX5_trade_30 (by decide) ?_
  refine lv_istore (lv' := [(6, .int 1), (0, .ref (ad_ w 20 0)), (1, .int (nI p)), (2, .int (nI q)), (3, .int (nI j)), (4, .int u), (5, .int v)]) cx.1 cx.2.1 dX5_trade_34 hl (by decide) rfl (fun ls hl => ?_)
  refine lv_iload cx.1 cx.2.1 dX5_trade_36 (lv_at hl 0 rfl) ?_
  refine lv_if_eq (tgt := 71) cx.1 cx.2.1 dX5_trade_38 (by decide) (fun zz => absurd zz (by decide)) (fun h38 => ?_)
  refine lv_iload cx.1 cx.2.1 dX5_trade_41 (lv_at hl 5 rfl) ?_
  refine lv_i2l (v := u.toInt64) cx.1 cx.2.1 dX5_trade_43 rfl ?_
  refine lv_lconst (v := 1) cx.1 cx.2.1 dX5_trade_44 (by decide) ?_
  refine lv_ldc2 (own := "MarginHouseModel") (v := 100000) cx.1 cx.2.1 cx.2.2.2.1 (cx.2.2.2.2.1 _ nw_453) dX5_trade_45 ?_
  refine ck_S (v := some (.int (if wi_ u.toInt64 1 100000 then 1 else 0))) (As := [.long u.toInt64, .long 1, .long 100000]) (rest := []) cx hW hS hl (c_X5_within l hI a u.toInt64 1 100000) cw_X5_within nw_406 nw_405 rfl rfl (Nat.le_of_ble_eq_true rfl) rfl rfl ⟨Nat.le_of_ble_eq_true rfl, Nat.le_of_ble_eq_true rfl⟩ ⟨Nat.le_of_ble_eq_true rfl, Nat.le_of_ble_eq_true rfl⟩ dX5_trade_48 (fun H locs hW hS => ?_)
  refine W.eq (g2 := F0 zm 51 ls [.int (if wi_ u.toInt64 1 100000 then 1 else 0)]) rfl ?_
  refine lv_if_eq (tgt := 71) cx.1 cx.2.1 dX5_trade_51 (by decide) (fun zz => absurd zz (bz_t hu)) (fun h51 => ?_)
  refine lv_iload cx.1 cx.2.1 dX5_trade_54 (lv_at hl 6 rfl) ?_
  refine lv_i2l (v := v.toInt64) cx.1 cx.2.1 dX5_trade_56 rfl ?_
  refine lv_lconst (v := 0) cx.1 cx.2.1 dX5_trade_57 (by decide) ?_
  refine lv_ldc2 (own := "MarginHouseModel") (v := 1000000) cx.1 cx.2.1 cx.2.2.2.1 (cx.2.2.2.2.1 _ nw_412) dX5_trade_58 ?_
  refine ck_S (v := some (.int (if wi_ v.toInt64 0 1000000 then 1 else 0))) (As := [.long v.toInt64, .long 0, .long 1000000]) (rest := []) cx hW hS hl (c_X5_within l hI a v.toInt64 0 1000000) cw_X5_within nw_406 nw_405 rfl rfl (Nat.le_of_ble_eq_true rfl) rfl rfl ⟨Nat.le_of_ble_eq_true rfl, Nat.le_of_ble_eq_true rfl⟩ ⟨Nat.le_of_ble_eq_true rfl, Nat.le_of_ble_eq_true rfl⟩ dX5_trade_61 (fun H locs hW hS => ?_)
  refine W.eq (g2 := F0 zm 64 ls [.int (if wi_ v.toInt64 0 1000000 then 1 else 0)]) rfl ?_
  refine lv_if_eq (tgt := 71) cx.1 cx.2.1 dX5_trade_64 (by decide) (fun zz => absurd zz (bz_t hv)) (fun h64 => ?_)
  refine lv_iconst (v := 1) cx.1 cx.2.1 dX5_trade_67 (by decide) ?_
  refine lv_goto (tgt := 72) cx.1 cx.2.1 dX5_trade_68 (by decide) ?_
  refine lv_istore (lv' := [(6, .int 1), (0, .ref (ad_ w 20 0)), (1, .int (nI p)), (2, .int (nI q)), (3, .int (nI j)), (4, .int u), (5, .int v)]) cx.1 cx.2.1 dX5_trade_72 hl (by decide) rfl (fun ls hl => ?_)
  refine lv_aload_n cx.1 cx.2.1 dX5_trade_74 rfl (lv_at hl 1 rfl) ?_
  refine lv_iload cx.1 cx.2.1 dX5_trade_75 (lv_at hl 0 rfl) ?_
  refine lv_if_ne (tgt := 84) cx.1 cx.2.1 dX5_trade_77 (by decide) (fun h77 => ?_) (fun zz => absurd zz (by decide))
  refine lv_aload_n cx.1 cx.2.1 dX5_trade_84 rfl (lv_at hl 1 rfl) ?_
  refine gf_X5_16 cx hW (by decide) dX5_trade_85 ?_
  refine lv_iload_n cx.1 cx.2.1 dX5_trade_88 rfl (lv_at hl 2 rfl) ?_
  refine al_23 (j := p) cx hW (by decide) rfl (by omega) dX5_trade_89 ?_
  refine lv_if_ne (tgt := 102) cx.1 cx.2.1 dX5_trade_90 (by decide) (fun h90 => ?_) (fun zz => absurd zz hs)
  refine lv_iconst (v := 2) cx.1 cx.2.1 dX5_trade_102 (by decide) ?_
  refine lv_goto (tgt := 107) cx.1 cx.2.1 dX5_trade_103 (by decide) ?_
  refine pf_X5_62 cx hW hS (by decide) dX5_trade_107 (fun H locs hW hS => ?_)
  replace hW : Hd_ w (th_ a 2) H := hW
  refine lv_aload_n cx.1 cx.2.1 dX5_trade_110 rfl (lv_at hl 1 rfl) ?_
  refine gf_X5_62 cx hW (by decide) dX5_trade_111 ?_
  refine tp_i (y := 2) (th_20 a _) ?_
  refine lv_if_le (tgt := 119) cx.1 cx.2.1 dX5_trade_114 (by decide) (fun zz => absurd zz (by decide)) (fun h114 => ?_)
  refine lv_iconst (v := 0) cx.1 cx.2.1 dX5_trade_117 (by decide) ?_
  exact cr_i cx hr hlk hW hS (Nat.le_of_ble_eq_true rfl) (Nat.le_of_ble_eq_true rfl) dX5_trade_118 rfl rfl
set_option maxHeartbeats 4000000 in
set_option maxRecDepth 100000 in
theorem c_X5_trade_is2 (l : Launch) {w : Gh_} (hI : In_ w) (a : St_) (k : Nat) (hk : gi_ a 21 0 0 = nI k) (hk8 : k ≤ 8) (n : Nat) (hn : gi_ a 22 0 0 = nI n) (hn6 : n ≤ 6) (p q j : Nat) (hp : p < k) (hq : q < k) (hpq : p ≠ q) (hj : j < n) (u v : Int32) (hu : wi_ u.toInt64 1 100000) (hv : wi_ v.toInt64 0 1000000) (hs : gi_ a 23 0 p = 0) (hs2 : ¬ gi_ a 23 0 q = 0) : Fn_ l w yX5_trade (.code yX5_trade cX5_trade 11 (some .int)) { frames := 1, cells := 0, slots := 0, locals := 25 } 0 0 [.ref (ad_ w 20 0), .int (nI p), .int (nI q), .int (nI j), .int u, .int v] a (.inl (some (.int 0))) (th_ a 2) := by
  refine Fn_of hI (by decide +kernel) (Nat.le_of_ble_eq_true rfl) ?_
  intro zp ze zs zm zb zt zc ls cx hr hlk hno hW hS hl
  replace cx : Cx_ zp zs zm zc _ cX5_trade 11 "MarginHouseModel" w := cx
  replace hl : lv_has ls 11 [(0, .ref (ad_ w 20 0)), (1, .int (nI p)), (2, .int (nI q)), (3, .int (nI j)), (4, .int u), (5, .int v)] := hl
  obtain ⟨H, hH⟩ : ∃ H, zs.heap = H := ⟨_, rfl⟩
  rw [hH] at hW
  have hS : Fr_ w zs.heap H [] := by rw [← hH]; exact hS
  obtain ⟨locs, hlocs⟩ : ∃ x : List Loc, x = [] := ⟨_, rfl⟩
  rw [← hlocs] at hS ⊢
  rw [show W zp l ze _ zs zm _ zb zt zc zs.heap locs 0 0 _ (F0 zm 0 ls []) ↔ W zp l ze _ zs zm _ zb zt zc H locs 0 0 _ (F0 zm 0 ls []) from by rw [hH]]
  refine lv_aload_n cx.1 cx.2.1 dX5_trade_0 rfl (lv_at hl 0 rfl) ?_
  refine lv_iload_n cx.1 cx.2.1 dX5_trade_1 rfl (lv_at hl 1 rfl) ?_
  refine ck_V (v := some (.int (if jm_ (nI p) (gi_ a 21 0 0) then 1 else 0))) (As := [.int (nI p)]) (rest := []) (k := 20) (i := 0) (T := TX5) cx hW hS hl (by decide) rfl rfl (c_X5_isMember l hI a (nI p)) cw_X5_isMember nw_436 nw_542 nw_435 rfl rfl (Nat.le_of_ble_eq_true rfl) rfl rfl ⟨Nat.le_of_ble_eq_true rfl, Nat.le_of_ble_eq_true rfl⟩ ⟨Nat.le_of_ble_eq_true rfl, Nat.le_of_ble_eq_true rfl⟩ dX5_trade_2 (fun H locs hW hS => ?_)
  refine W.eq (g2 := F0 zm 5 ls [.int (if jm_ (nI p) (gi_ a 21 0 0) then 1 else 0)]) rfl ?_
  refine lv_if_eq (tgt := 33) cx.1 cx.2.1 dX5_trade_5 (by decide) (fun zz => absurd zz (bz_t (jm_in hk (by omega) hp))) (fun h5 => ?_)
  refine lv_aload_n cx.1 cx.2.1 dX5_trade_8 rfl (lv_at hl 0 rfl) ?_
  refine lv_iload_n cx.1 cx.2.1 dX5_trade_9 rfl (lv_at hl 2 rfl) ?_
  refine ck_V (v := some (.int (if jm_ (nI q) (gi_ a 21 0 0) then 1 else 0))) (As := [.int (nI q)]) (rest := []) (k := 20) (i := 0) (T := TX5) cx hW hS hl (by decide) rfl rfl (c_X5_isMember l hI a (nI q)) cw_X5_isMember nw_436 nw_542 nw_435 rfl rfl (Nat.le_of_ble_eq_true rfl) rfl rfl ⟨Nat.le_of_ble_eq_true rfl, Nat.le_of_ble_eq_true rfl⟩ ⟨Nat.le_of_ble_eq_true rfl, Nat.le_of_ble_eq_true rfl⟩ dX5_trade_10 (fun H locs hW hS => ?_)
  refine W.eq (g2 := F0 zm 13 ls [.int (if jm_ (nI q) (gi_ a 21 0 0) then 1 else 0)]) rfl ?_
  refine lv_if_eq (tgt := 33) cx.1 cx.2.1 dX5_trade_13 (by decide) (fun zz => absurd zz (bz_t (jm_in hk (by omega) hq))) (fun h13 => ?_)
  refine lv_iload_n cx.1 cx.2.1 dX5_trade_16 rfl (lv_at hl 1 rfl) ?_
  refine lv_iload_n cx.1 cx.2.1 dX5_trade_17 rfl (lv_at hl 2 rfl) ?_
  refine lv_icmp_eq (tgt := 33) cx.1 cx.2.1 dX5_trade_18 (by decide) (fun zz => absurd zz (fun z => hpq ((nI_eq (by omega) (by omega)).mp z))) (fun h18 => ?_)
  refine lv_aload_n cx.1 cx.2.1 dX5_trade_21 rfl (lv_at hl 0 rfl) ?_
  refine lv_iload_n cx.1 cx.2.1 dX5_trade_22 rfl (lv_at hl 3 rfl) ?_
  refine ck_V (v := some (.int (if jm_ (nI j) (gi_ a 22 0 0) then 1 else 0))) (As := [.int (nI j)]) (rest := []) (k := 20) (i := 0) (T := TX5) cx hW hS hl (by decide) rfl rfl (c_X5_isInstrument l hI a (nI j)) cw_X5_isInstrument nw_428 nw_541 nw_427 rfl rfl (Nat.le_of_ble_eq_true rfl) rfl rfl ⟨Nat.le_of_ble_eq_true rfl, Nat.le_of_ble_eq_true rfl⟩ ⟨Nat.le_of_ble_eq_true rfl, Nat.le_of_ble_eq_true rfl⟩ dX5_trade_23 (fun H locs hW hS => ?_)
  refine W.eq (g2 := F0 zm 26 ls [.int (if jm_ (nI j) (gi_ a 22 0 0) then 1 else 0)]) rfl ?_
  refine lv_if_eq (tgt := 33) cx.1 cx.2.1 dX5_trade_26 (by decide) (fun zz => absurd zz (bz_t (jm_in hn (by omega) hj))) (fun h26 => ?_)
  refine lv_iconst (v := 1) cx.1 cx.2.1 dX5_trade_29 (by decide) ?_
  refine lv_goto (tgt := 34) cx.1 cx.2.1 dX5_trade_30 (by decide) ?_
  refine lv_istore (lv' := [(6, .int 1), (0, .ref (ad_ w 20 0)), (1, .int (nI p)), (2, .int (nI q)), (3, .int (nI j)), (4, .int u), (5, .int v)]) cx.1 cx.2.1 dX5_trade_34 hl (by decide) rfl (fun ls hl => ?_)
  refine lv_iload cx.1 cx.2.1 dX5_trade_36 (lv_at hl 0 rfl) ?_
  refine lv_if_eq (tgt := 71) cx.1 cx.2.1 dX5_trade_38 (by decide) (fun zz => absurd zz (by decide)) (fun h38 => ?_)
  refine lv_iload cx.1 cx.2.1 dX5_trade_41 (lv_at hl 5 rfl) ?_
  refine lv_i2l (v := u.toInt64) cx.1 cx.2.1 dX5_trade_43 rfl ?_
  refine lv_lconst (v := 1) cx.1 cx.2.1 dX5_trade_44 (by decide) ?_
  refine lv_ldc2 (own := "MarginHouseModel") (v := 100000) cx.1 cx.2.1 cx.2.2.2.1 (cx.2.2.2.2.1 _ nw_453) dX5_trade_45 ?_
  refine ck_S (v := some (.int (if wi_ u.toInt64 1 100000 then 1 else 0))) (As := [.long u.toInt64, .long 1, .long 100000]) (rest := []) cx hW hS hl (c_X5_within l hI a u.toInt64 1 100000) cw_X5_within nw_406 nw_405 rfl rfl (Nat.le_of_ble_eq_true rfl) rfl rfl ⟨Nat.le_of_ble_eq_true rfl, Nat.le_of_ble_eq_true rfl⟩ ⟨Nat.le_of_ble_eq_true rfl, Nat.le_of_ble_eq_true rfl⟩ dX5_trade_48 (fun H locs hW hS => ?_)
  refine W.eq (g2 := F0 zm 51 ls [.int (if wi_ u.toInt64 1 100000 then 1 else 0)]) rfl ?_
  refine lv_if_eq (tgt := 71) cx.1 cx.2.1 dX5_trade_51 (by decide) (fun zz => absurd zz (bz_t hu)) (fun h51 => ?_)
  refine lv_iload cx.1 cx.2.1 dX5_trade_54 (lv_at hl 6 rfl) ?_
  refine lv_i2l (v := v.toInt64) cx.1 cx.2.1 dX5_trade_56 rfl ?_
  refine lv_lconst (v := 0) cx.1 cx.2.1 dX5_trade_57 (by decide) ?_
  refine lv_ldc2 (own := "MarginHouseModel") (v := 1000000) cx.1 cx.2.1 cx.2.2.2.1 (cx.2.2.2.2.1 _ nw_412) dX5_trade_58 ?_
  refine ck_S (v := some (.int (if wi_ v.toInt64 0 1000000 then 1 else 0))) (As := [.long v.toInt64, .long 0, .long 1000000]) (rest := []) cx hW hS hl (c_X5_within l hI a v.toInt64 0 1000000) cw_X5_within nw_406 nw_405 rfl rfl (Nat.le_of_ble_eq_true rfl) rfl rfl ⟨Nat.le_of_ble_eq_true rfl, Nat.le_of_ble_eq_true rfl⟩ ⟨Nat.le_of_ble_eq_true rfl, Nat.le_of_ble_eq_true rfl⟩ dX5_trade_61 (fun H locs hW hS => ?_)
  refine W.eq (g2 := F0 zm 64 ls [.int (if wi_ v.toInt64 0 1000000 then 1 else 0)]) rfl ?_
  refine lv_if_eq (tgt := 71) cx.1 cx.2.1 dX5_trade_64 (by decide) (fun zz => absurd zz (bz_t hv)) (fun h64 => ?_)
  refine lv_iconst (v := 1) cx.1 cx.2.1 dX5_trade_67 (by decide) ?_
  refine lv_goto (tgt := 72) cx.1 cx.2.1 dX5_trade_68 (by decide) ?_
  refine lv_istore (lv' := [(6, .int 1), (0, .ref (ad_ w 20 0)), (1, .int (nI p)), (2, .int (nI q)), (3, .int (nI j)), (4, .int u), (5, .int v)]) cx.1 cx.2.1 dX5_trade_72 hl (by decide) rfl (fun ls hl => ?_)
  refine lv_aload_n cx.1 cx.2.1 dX5_trade_74 rfl (lv_at hl 1 rfl) ?_
  refine lv_iload cx.1 cx.2.1 dX5_trade_75 (lv_at hl 0 rfl) ?_
  refine lv_if_ne (tgt := 84) cx.1 cx.2.1 dX5_trade_77 (by decide) (fun h77 => ?_) (fun zz => absurd zz (by decide))
  refine lv_aload_n cx.1 cx.2.1 dX5_trade_84 rfl (lv_at hl 1 rfl) ?_
  refine gf_X5_16 cx hW (by decide) dX5_trade_85 ?_
  refine lv_iload_n cx.1 cx.2.1 dX5_trade_88 rfl (lv_at hl 2 rfl) ?_
  refine al_23 (j := p) cx hW (by decide) rfl (by omega) dX5_trade_89 ?_
  refine lv_if_ne (tgt := 102) cx.1 cx.2.1 dX5_trade_90 (by decide) (fun zz => absurd hs zz) (fun h90 => ?_)
  refine lv_aload_n cx.1 cx.2.1 dX5_trade_93 rfl (lv_at hl 1 rfl) ?_
  refine gf_X5_16 cx hW (by decide) dX5_trade_94 ?_
  refine lv_iload_n cx.1 cx.2.1 dX5_trade_97 rfl (lv_at hl 3 rfl) ?_
  refine al_23 (j := q) cx hW (by decide) rfl (by omega) dX5_trade_98 ?_
  refine lv_if_eq (tgt := 106) cx.1 cx.2.1 dX5_trade_99 (by decide) (fun zz => absurd zz hs2) (fun h99 => ?_)
  refine lv_iconst (v := 2) cx.1 cx.2.1 dX5_trade_102 (by decide) ?_
  refine lv_goto (tgt := 107) cx.1 cx.2.1 dX5_trade_103 (by decide) ?_
  refine pf_X5_62 cx hW hS (by decide) dX5_trade_107 (fun H locs hW hS => ?_)
  replace hW : Hd_ w (th_ a 2) H := hW
  refine lv_aload_n cx.1 cx.2.1 dX5_trade_110 rfl (lv_at hl 1 rfl) ?_
  refine gf_X5_62 cx hW (by decide) dX5_trade_111 ?_
  refine tp_i (y := 2) (th_20 a _) ?_
  refine lv_if_le (tgt := 119) cx.1 cx.2.1 dX5_trade_114 (by decide) (fun zz => absurd zz (by decide)) (fun h114 => ?_)
  refine lv_iconst (v := 0) cx.1 cx.2.1 dX5_trade_117 (by decide) ?_
  exact cr_i cx hr hlk hW hS (Nat.le_of_ble_eq_true rfl) (Nat.le_of_ble_eq_true rfl) dX5_trade_118 rfl rfl
def ug_ (a : St_) (j : Nat) (u v : Int32) : Int64 := u.toInt64 * (gi_ a 26 0 j - v).toInt64
abbrev ur_ (a : St_) (p q j : Nat) (u v : Int32) : Prop := ¬ 1000000 < gi_ a 24 0 (6 * p + j) + u ∧ ¬ gi_ a 24 0 (6 * q + j) - u < -1000000 ∧ tm_ (gl_ a 20 0 p + ug_ a j u v) ∧ tm_ (gl_ a 20 0 q - ug_ a j u v)
def us_ (a : St_) (p q j : Nat) (u v : Int32) : St_ := sl_ (sl_ (sl_ (si_ (si_ a 24 0 (6 * p + j) (gi_ a 24 0 (6 * p + j) + u)) 24 0 (6 * q + j) (gi_ a 24 0 (6 * q + j) - u)) 20 0 p (gl_ a 20 0 p + ug_ a j u v)) 20 0 q (gl_ a 20 0 q - ug_ a j u v)) 24 0 0 (gl_ a 24 0 0 + 1)
set_option maxHeartbeats 4000000 in
set_option maxRecDepth 100000 in
theorem c_X5_trade_none (l : Launch) {w : Gh_} (hI : In_ w) (a : St_) (k : Nat) (hk : gi_ a 21 0 0 = nI k) (hk8 : k ≤ 8) (n : Nat) (hn : gi_ a 22 0 0 = nI n) (hn6 : n ≤ 6) (p q j : Nat) (hp : p < k) (hq : q < k) (hpq : p ≠ q) (hj : j < n) (u v : Int32) (hu : wi_ u.toInt64 1 100000) (hv : wi_ v.toInt64 0 1000000) (hs : gi_ a 23 0 p = 0) (hs2 : gi_ a 23 0 q = 0) (hr0 : ¬ ur_ (th_ a 0) p q j u v) : Fn_ l w yX5_trade (.code yX5_trade cX5_trade 11 (some .int)) { frames := 1, cells := 0, slots := 0, locals := 25 } 0 0 [.ref (ad_ w 20 0), .int (nI p), .int (nI q), .int (nI j), .int u, .int v] a (.inl (some (.int (-1)))) (th_ a 0) := by
  refine Fn_of hI (by decide +kernel) (Nat.le_of_ble_eq_true rfl) ?_
  intro zp ze zs zm zb zt zc ls cx hr hlk hno hW hS hl
  replace cx : Cx_ zp zs zm zc _ cX5_trade 11 "MarginHouseModel" w := cx
  replace hl : lv_has ls 11 [(0, .ref (ad_ w 20 0)), (1, .int (nI p)), (2, .int (nI q)), (3, .int (nI j)), (4, .int u), (5, .int v)] := hl
  obtain ⟨H, hH⟩ : ∃ H, zs.heap = H := ⟨_, rfl⟩
  rw [hH] at hW
  have hS : Fr_ w zs.heap H [] := by rw [← hH]; exact hS
  obtain ⟨locs, hlocs⟩ : ∃ x : List Loc, x = [] := ⟨_, rfl⟩
  rw [← hlocs] at hS ⊢
  rw [show W zp l ze _ zs zm _ zb zt zc zs.heap locs 0 0 _ (F0 zm 0 ls []) ↔ W zp l ze _ zs zm _ zb zt zc H locs 0 0 _ (F0 zm 0 ls []) from by rw [hH]]
  refine lv_aload_n cx.1 cx.2.1 dX5_trade_0 rfl (lv_at hl 0 rfl) ?_
  refine lv_iload_n cx.1 cx.2.1 dX5_trade_1 rfl (lv_at hl 1 rfl) ?_
  refine ck_V (v := some (.int (if jm_ (nI p) (gi_ a 21 0 0) then 1 else 0))) (As := [.int (nI p)]) (rest := []) (k := 20) (i := 0) (T := TX5) cx hW hS hl (by decide) rfl rfl (c_X5_isMember l hI a (nI p)) cw_X5_isMember nw_436 nw_542 nw_435 rfl rfl (Nat.le_of_ble_eq_true rfl) rfl rfl ⟨Nat.le_of_ble_eq_true rfl, Nat.le_of_ble_eq_true rfl⟩ ⟨Nat.le_of_ble_eq_true rfl, Nat.le_of_ble_eq_true rfl⟩ dX5_trade_2 (fun H locs hW hS => ?_)
  refine W.eq (g2 := F0 zm 5 ls [.int (if jm_ (nI p) (gi_ a 21 0 0) then 1 else 0)]) rfl ?_
  refine lv_if_eq (tgt := 33) cx.1 cx.2.1 dX5_trade_5 (by decide) (fun zz => absurd zz (bz_t (jm_in hk (by omega) hp))) (fun h5 => ?_)
  refine lv_aload_n cx.1 cx.2.1 dX5_trade_8 rfl (lv_at hl 0 rfl) ?_
  refine lv_iload_n cx.1 cx.2.1 dX5_trade_9 rfl (lv_at hl 2 rfl) ?_
  refine ck_V (v := some (.int (if jm_ (nI q) (gi_ a 21 0 0) then 1 else 0))) (As := [.int (nI q)]) (rest := []) (k := 20) (i := 0) (T := TX5) cx hW hS hl (by decide) rfl rfl (c_X5_isMember l hI a (nI q)) cw_X5_isMember nw_436 nw_542 nw_435 rfl rfl (Nat.le_of_ble_eq_true rfl) rfl rfl ⟨Nat.le_of_ble_eq_true rfl, Nat.le_of_ble_eq_true rfl⟩ ⟨Nat.le_of_ble_eq_true rfl, Nat.le_of_ble_eq_true rfl⟩ dX5_trade_10 (fun H locs hW hS => ?_)
  refine W.eq (g2 := F0 zm 13 ls [.int (if jm_ (nI q) (gi_ a 21 0 0) then 1 else 0)]) rfl ?_
  refine lv_if_eq (tgt := 33) cx.1 cx.2.1 dX5_trade_13 (by decide) (fun zz => absurd zz (bz_t (jm_in hk (by omega) hq))) (fun h13 => ?_)
  refine lv_iload_n cx.1 cx.2.1 dX5_trade_16 rfl (lv_at hl 1 rfl) ?_
  refine lv_iload_n cx.1 cx.2.1 dX5_trade_17 rfl (lv_at hl 2 rfl) ?_
  refine lv_icmp_eq (tgt := 33) cx.1 cx.2.1 dX5_trade_18 (by decide) (fun zz => absurd zz (fun z => hpq ((nI_eq (by omega) (by omega)).mp z))) (fun h18 => ?_)
  refine lv_aload_n cx.1 cx.2.1 dX5_trade_21 rfl (lv_at hl 0 rfl) ?_
  refine lv_iload_n cx.1 cx.2.1 dX5_trade_22 rfl (lv_at hl 3 rfl) ?_
  refine ck_V (v := some (.int (if jm_ (nI j) (gi_ a 22 0 0) then 1 else 0))) (As := [.int (nI j)]) (rest := []) (k := 20) (i := 0) (T := TX5) cx hW hS hl (by decide) rfl rfl (c_X5_isInstrument l hI a (nI j)) cw_X5_isInstrument nw_428 nw_541 nw_427 rfl rfl (Nat.le_of_ble_eq_true rfl) rfl rfl ⟨Nat.le_of_ble_eq_true rfl, Nat.le_of_ble_eq_true rfl⟩ ⟨Nat.le_of_ble_eq_true rfl, Nat.le_of_ble_eq_true rfl⟩ dX5_trade_23 (fun H locs hW hS => ?_)
  refine W.eq (g2 := F0 zm 26 ls [.int (if jm_ (nI j) (gi_ a 22 0 0) then 1 else 0)]) rfl ?_
  refine lv_if_eq (tgt := 33) cx.1 cx.2.1 dX5_trade_26 (by decide) (fun zz => absurd zz (bz_t (jm_in hn (by omega) hj))) (fun h26 => ?_)
  refine lv_iconst (v := 1) cx.1 cx.2.1 dX5_trade_29 (by decide) ?_
  refine lv_goto (tgt := 34) cx.1 cx.2.1 dX5_trade_30 (by decide) ?_
  refine lv_istore (lv' := [(6, .int 1), (0, .ref (ad_ w 20 0)), (1, .int (nI p)), (2, .int (nI q)), (3, .int (nI j)), (4, .int u), (5, .int v)]) cx.1 cx.2.1 dX5_trade_34 hl (by decide) rfl (fun ls hl => ?_)
  refine lv_iload cx.1 cx.2.1 dX5_trade_36 (lv_at hl 0 rfl) ?_
  refine lv_if_eq (tgt := 71) cx.1 cx.2.1 dX5_trade_38 (by decide) (fun zz => absurd zz (by decide)) (fun h38 => ?_)
  refine lv_iload cx.1 cx.2.1 dX5_trade_41 (lv_at hl 5 rfl) ?_
  refine lv_i2l (v := u.toInt64) cx.1 cx.2.1 dX5_trade_43 rfl ?_
  refine lv_lconst (v := 1) cx.1 cx.2.1 dX5_trade_44 (by decide) ?_
  refine lv_ldc2 (own := "MarginHouseModel") (v := 100000) cx.1 cx.2.1 cx.2.2.2.1 (cx.2.2.2.2.1 _ nw_453) dX5_trade_45 ?_
  refine ck_S (v := some (.int (if wi_ u.toInt64 1 100000 then 1 else 0))) (As := [.long u.toInt64, .long 1, .long 100000]) (rest := []) cx hW hS hl (c_X5_within l hI a u.toInt64 1 100000) cw_X5_within nw_406 nw_405 rfl rfl (Nat.le_of_ble_eq_true rfl) rfl rfl ⟨Nat.le_of_ble_eq_true rfl, Nat.le_of_ble_eq_true rfl⟩ ⟨Nat.le_of_ble_eq_true rfl, Nat.le_of_ble_eq_true rfl⟩ dX5_trade_48 (fun H locs hW hS => ?_)
  refine W.eq (g2 := F0 zm 51 ls [.int (if wi_ u.toInt64 1 100000 then 1 else 0)]) rfl ?_
  refine lv_if_eq (tgt := 71) cx.1 cx.2.1 dX5_trade_51 (by decide) (fun zz => absurd zz (bz_t hu)) (fun h51 => ?_)
  refine lv_iload cx.1 cx.2.1 dX5_trade_54 (lv_at hl 6 rfl) ?_
  refine lv_i2l (v := v.toInt64) cx.1 cx.2.1 dX5_trade_56 rfl ?_
  refine lv_lconst (v := 0) cx.1 cx.2.1 dX5_trade_57 (by decide) ?_
  refine lv_ldc2 (own := "MarginHouseModel") (v := 1000000) cx.1 cx.2.1 cx.2.2.2.1 (cx.2.2.2.2.1 _ nw_412) dX5_trade_58 ?_
  refine ck_S (v := some (.int (if wi_ v.toInt64 0 1000000 then 1 else 0))) (As := [.long v.toInt64, .long 0, .long 1000000]) (rest := []) cx hW hS hl (c_X5_within l hI a v.toInt64 0 1000000) cw_X5_within nw_406 nw_405 rfl rfl (Nat.le_of_ble_eq_true rfl) rfl rfl ⟨Nat.le_of_ble_eq_true rfl, Nat.le_of_ble_eq_true rfl⟩ ⟨Nat.le_of_ble_eq_true rfl, Nat.le_of_ble_eq_true rfl⟩ dX5_trade_61 (fun H locs hW hS => ?_)
  refine W.eq (g2 := F0 zm 64 ls [.int (if wi_ v.toInt64 0 1000000 then 1 else 0)]) rfl ?_
  refine lv_if_eq (tgt := 71) cx.1 cx.2.1 dX5_trade_64 (by decide) (fun zz => absurd zz (bz_t hv)) (fun h64 => ?_)
  refine lv_iconst (v := 1) cx.1 cx.2.1 dX5_trade_67 (by decide) ?_
  refine lv_goto (tgt := 72) cx.1 cx.2.1 dX5_trade_68 (by decide) ?_
  refine lv_istore (lv' := [(6, .int 1), (0, .ref (ad_ w 20 0)), (1, .int (nI p)), (2, .int (nI q)), (3, .int (nI j)), (4, .int u), (5, .int v)]) cx.1 cx.2.1 dX5_trade_72 hl (by decide) rfl (fun ls hl => ?_)
  refine lv_aload_n cx.1 cx.2.1 dX5_trade_74 rfl (lv_at hl 1 rfl) ?_
  refine lv_iload cx.1 cx.2.1 dX5_trade_75 (lv_at hl 0 rfl) ?_
  refine lv_if_ne (tgt := 84) cx.1 cx.2.1 dX5_trade_77 (by decide) (fun h77 => ?_) (fun zz => absurd zz (by decide))
  refine lv_aload_n cx.1 cx.2.1 dX5_trade_84 rfl (lv_at hl 1 rfl) ?_
  refine gf_X5_16 cx hW (by decide) dX5_trade_85 ?_
  refine lv_iload_n cx.1 cx.2.1 dX5_trade_88 rfl (lv_at hl 2 rfl) ?_
  refine al_23 (j := p) cx hW (by decide) rfl (by omega) dX5_trade_89 ?_
  refine lv_if_ne (tgt := 102) cx.1 cx.2.1 dX5_trade_90 (by decide) (fun zz => absurd hs zz) (fun h90 => ?_)
  refine lv_aload_n cx.1 cx.2.1 dX5_trade_93 rfl (lv_at hl 1 rfl) ?_
  refine gf_X5_16 cx hW (by decide) dX5_trade_94 ?_
  refine lv_iload_n cx.1 cx.2.1 dX5_trade_97 rfl (lv_at hl 3 rfl) ?_
  refine al_23 (j := q) cx hW (by decide) rfl (by omega) dX5_trade_98 ?_
  refine lv_if_eq (tgt := 106) cx.1 cx.2.1 dX5_trade_99 (by decide) (fun h99 => ?_) (fun zz => absurd hs2 zz)
  refine lv_iconst (v := 0) cx.1 cx.2.1 dX5_trade_106 (by decide) ?_
  refine pf_X5_62 cx hW hS (by decide) dX5_trade_107 (fun H locs hW hS => ?_)
  replace hW : Hd_ w (th_ a 0) H := hW
  refine lv_aload_n cx.1 cx.2.1 dX5_trade_110 rfl (lv_at hl 1 rfl) ?_
  refine gf_X5_62 cx hW (by decide) dX5_trade_111 ?_
  refine tp_i (y := 0) (th_20 a _) ?_
  refine lv_if_le (tgt := 119) cx.1 cx.2.1 dX5_trade_114 (by decide) (fun h114 => ?_) (fun zz => absurd (by decide) zz)
  refine lv_aload_n cx.1 cx.2.1 dX5_trade_119 rfl (lv_at hl 1 rfl) ?_
  refine gf_X5_20 cx hW (by decide) dX5_trade_120 ?_
  refine lv_bipush (v := 6) cx.1 cx.2.1 dX5_trade_123 (by decide) ?_
  refine lv_iload_n cx.1 cx.2.1 dX5_trade_125 rfl (lv_at hl 2 rfl) ?_
  refine lv_imul cx.1 cx.2.1 dX5_trade_126 ?_
  refine lv_iload_n cx.1 cx.2.1 dX5_trade_127 rfl (lv_at hl 4 rfl) ?_
  refine lv_iadd cx.1 cx.2.1 dX5_trade_128 ?_
  refine al_24 (j := 6 * p + j) cx hW (by decide) (n6_ p j) (by omega) dX5_trade_129 ?_
  refine lv_iload cx.1 cx.2.1 dX5_trade_130 (lv_at hl 5 rfl) ?_
  refine lv_iadd cx.1 cx.2.1 dX5_trade_132 ?_
  refine lv_istore (lv' := [(7, .int ((gi_ (th_ a 0) 24 0 (6 * p + j)) + u)), (6, .int 1), (0, .ref (ad_ w 20 0)), (1, .int (nI p)), (2, .int (nI q)), (3, .int (nI j)), (4, .int u), (5, .int v)]) cx.1 cx.2.1 dX5_trade_133 hl (by decide) rfl (fun ls hl => ?_)
  refine lv_aload_n cx.1 cx.2.1 dX5_trade_135 rfl (lv_at hl 2 rfl) ?_
  refine gf_X5_20 cx hW (by decide) dX5_trade_136 ?_
  refine lv_bipush (v := 6) cx.1 cx.2.1 dX5_trade_139 (by decide) ?_
  refine lv_iload_n cx.1 cx.2.1 dX5_trade_141 rfl (lv_at hl 4 rfl) ?_
  refine lv_imul cx.1 cx.2.1 dX5_trade_142 ?_
  refine lv_iload_n cx.1 cx.2.1 dX5_trade_143 rfl (lv_at hl 5 rfl) ?_
  refine lv_iadd cx.1 cx.2.1 dX5_trade_144 ?_
  refine al_24 (j := 6 * q + j) cx hW (by decide) (n6_ q j) (by omega) dX5_trade_145 ?_
  refine lv_iload cx.1 cx.2.1 dX5_trade_146 (lv_at hl 6 rfl) ?_
  refine lv_isub cx.1 cx.2.1 dX5_trade_148 ?_
  refine lv_istore (lv' := [(8, .int ((gi_ (th_ a 0) 24 0 (6 * q + j)) - u)), (7, .int ((gi_ (th_ a 0) 24 0 (6 * p + j)) + u)), (6, .int 1), (0, .ref (ad_ w 20 0)), (1, .int (nI p)), (2, .int (nI q)), (3, .int (nI j)), (4, .int u), (5, .int v)]) cx.1 cx.2.1 dX5_trade_149 hl (by decide) rfl (fun ls hl => ?_)
  refine lv_iload cx.1 cx.2.1 dX5_trade_151 (lv_at hl 7 rfl) ?_
  refine lv_i2l (v := u.toInt64) cx.1 cx.2.1 dX5_trade_153 rfl ?_
  refine lv_aload_n cx.1 cx.2.1 dX5_trade_154 rfl (lv_at hl 3 rfl) ?_
  refine gf_X5_26 cx hW (by decide) dX5_trade_155 ?_
  refine lv_iload_n cx.1 cx.2.1 dX5_trade_158 rfl (lv_at hl 6 rfl) ?_
  refine al_26 (j := j) cx hW (by decide) rfl (by omega) dX5_trade_159 ?_
  refine lv_iload cx.1 cx.2.1 dX5_trade_160 (lv_at hl 8 rfl) ?_
  refine lv_isub cx.1 cx.2.1 dX5_trade_162 ?_
  refine lv_i2l (v := ((gi_ (th_ a 0) 26 0 j) - v).toInt64) cx.1 cx.2.1 dX5_trade_163 rfl ?_
  refine lv_lmul cx.1 cx.2.1 dX5_trade_164 ?_
  refine tp_j (y := ug_ (th_ a 0) j u v) rfl ?_
  refine lv_lstore (lv' := [(9, .long (ug_ (th_ a 0) j u v)), (8, .int ((gi_ (th_ a 0) 24 0 (6 * q + j)) - u)), (7, .int ((gi_ (th_ a 0) 24 0 (6 * p + j)) + u)), (6, .int 1), (0, .ref (ad_ w 20 0)), (1, .int (nI p)), (2, .int (nI q)), (3, .int (nI j)), (4, .int u), (5, .int v)]) cx.1 cx.2.1 dX5_trade_165 hl (by decide) rfl (fun ls hl => ?_)
  refine lv_iload cx.1 cx.2.1 dX5_trade_167 (lv_at hl 2 rfl) ?_
  refine lv_ldc (own := "MarginHouseModel") (v := 1000000) cx.1 cx.2.1 cx.2.2.2.1 (cx.2.2.2.2.1 _ nw_454) dX5_trade_169 ?_
  refine lv_icmp_gt (tgt := 211) cx.1 cx.2.1 dX5_trade_171 (by decide) (fun h171 => ?_) (fun h171 => ?_)
  · skip
    refine lv_iconst (v := -1) cx.1 cx.2.1 dX5_trade_211 (by decide) ?_
    exact cr_i cx hr hlk hW hS (Nat.le_of_ble_eq_true rfl) (Nat.le_of_ble_eq_true rfl) dX5_trade_212 rfl rfl
  · skip
    refine lv_iload cx.1 cx.2.1 dX5_trade_174 (lv_at hl 1 rfl) ?_
    refine lv_ldc (own := "MarginHouseModel") (v := -1000000) cx.1 cx.2.1 cx.2.2.2.1 (cx.2.2.2.2.1 _ nw_455) dX5_trade_176 ?_
    refine lv_icmp_lt (tgt := 211) cx.1 cx.2.1 dX5_trade_178 (by decide) (fun h178 => ?_) (fun h178 => ?_)
    · skip
      refine lv_iconst (v := -1) cx.1 cx.2.1 dX5_trade_211 (by decide) ?_
      exact cr_i cx hr hlk hW hS (Nat.le_of_ble_eq_true rfl) (Nat.le_of_ble_eq_true rfl) dX5_trade_212 rfl rfl
    · skip
      refine lv_aload_n cx.1 cx.2.1 dX5_trade_181 rfl (lv_at hl 4 rfl) ?_
      refine gf_X5_7 cx hW (by decide) dX5_trade_182 ?_
      refine lv_iload_n cx.1 cx.2.1 dX5_trade_185 rfl (lv_at hl 5 rfl) ?_
      refine al_21 (j := p) cx hW (by decide) rfl (by omega) dX5_trade_186 ?_
      refine lv_lload cx.1 cx.2.1 dX5_trade_187 (lv_at hl 0 rfl) ?_
      refine lv_ladd cx.1 cx.2.1 dX5_trade_189 ?_
      refine ck_S (v := some (.int (if ¬ tm_ ((gl_ (th_ a 0) 20 0 p) + (ug_ (th_ a 0) j u v)) then 1 else 0))) (As := [.long ((gl_ (th_ a 0) 20 0 p) + (ug_ (th_ a 0) j u v))]) (rest := []) cx hW hS hl (c_X5_isFar l hI (th_ a 0) ((gl_ (th_ a 0) 20 0 p) + (ug_ (th_ a 0) j u v))) cw_X5_isFar nw_418 nw_417 rfl rfl (Nat.le_of_ble_eq_true rfl) rfl rfl ⟨Nat.le_of_ble_eq_true rfl, Nat.le_of_ble_eq_true rfl⟩ ⟨Nat.le_of_ble_eq_true rfl, Nat.le_of_ble_eq_true rfl⟩ dX5_trade_190 (fun H locs hW hS => ?_)
      refine W.eq (g2 := F0 zm 193 ls [.int (if ¬ tm_ ((gl_ (th_ a 0) 20 0 p) + (ug_ (th_ a 0) j u v)) then 1 else 0)]) rfl ?_
      refine lv_if_ne (tgt := 211) cx.1 cx.2.1 dX5_trade_193 (by decide) (fun h193 => ?_) (fun h193 => ?_)
      · skip
        have h193 := bz_1 h193
        refine lv_iconst (v := -1) cx.1 cx.2.1 dX5_trade_211 (by decide) ?_
        exact cr_i cx hr hlk hW hS (Nat.le_of_ble_eq_true rfl) (Nat.le_of_ble_eq_true rfl) dX5_trade_212 rfl rfl
      · skip
        have h193 := bz_0 h193
        refine lv_aload_n cx.1 cx.2.1 dX5_trade_196 rfl (lv_at hl 4 rfl) ?_
        refine gf_X5_7 cx hW (by decide) dX5_trade_197 ?_
        refine lv_iload_n cx.1 cx.2.1 dX5_trade_200 rfl (lv_at hl 6 rfl) ?_
        refine al_21 (j := q) cx hW (by decide) rfl (by omega) dX5_trade_201 ?_
        refine lv_lload cx.1 cx.2.1 dX5_trade_202 (lv_at hl 0 rfl) ?_
        refine lv_lsub cx.1 cx.2.1 dX5_trade_204 ?_
        refine ck_S (v := some (.int (if ¬ tm_ ((gl_ (th_ a 0) 20 0 q) - (ug_ (th_ a 0) j u v)) then 1 else 0))) (As := [.long ((gl_ (th_ a 0) 20 0 q) - (ug_ (th_ a 0) j u v))]) (rest := []) cx hW hS hl (c_X5_isFar l hI (th_ a 0) ((gl_ (th_ a 0) 20 0 q) - (ug_ (th_ a 0) j u v))) cw_X5_isFar nw_418 nw_417 rfl rfl (Nat.le_of_ble_eq_true rfl) rfl rfl ⟨Nat.le_of_ble_eq_true rfl, Nat.le_of_ble_eq_true rfl⟩ ⟨Nat.le_of_ble_eq_true rfl, Nat.le_of_ble_eq_true rfl⟩ dX5_trade_205 (fun H locs hW hS => ?_)
        refine W.eq (g2 := F0 zm 208 ls [.int (if ¬ tm_ ((gl_ (th_ a 0) 20 0 q) - (ug_ (th_ a 0) j u v)) then 1 else 0)]) rfl ?_
        refine lv_if_eq (tgt := 213) cx.1 cx.2.1 dX5_trade_208 (by decide) (fun h208 => ?_) (fun h208 => ?_)
        · skip
          have h208 := bz_0 h208
          exact absurd ⟨h171, h178, Classical.not_not.mp h193, Classical.not_not.mp h208⟩ hr0
        · skip
          have h208 := bz_1 h208
          refine lv_iconst (v := -1) cx.1 cx.2.1 dX5_trade_211 (by decide) ?_
          exact cr_i cx hr hlk hW hS (Nat.le_of_ble_eq_true rfl) (Nat.le_of_ble_eq_true rfl) dX5_trade_212 rfl rfl
set_option maxHeartbeats 4000000 in
set_option maxRecDepth 100000 in
theorem c_X5_trade_ok (l : Launch) {w : Gh_} (hI : In_ w) (a : St_) (k : Nat) (hk : gi_ a 21 0 0 = nI k) (hk8 : k ≤ 8) (n : Nat) (hn : gi_ a 22 0 0 = nI n) (hn6 : n ≤ 6) (p q j : Nat) (hp : p < k) (hq : q < k) (hpq : p ≠ q) (hj : j < n) (u v : Int32) (hu : wi_ u.toInt64 1 100000) (hv : wi_ v.toInt64 0 1000000) (hs : gi_ a 23 0 p = 0) (hs2 : gi_ a 23 0 q = 0) (hr0 : ur_ (th_ a 0) p q j u v) : Fn_ l w yX5_trade (.code yX5_trade cX5_trade 11 (some .int)) { frames := 1, cells := 0, slots := 0, locals := 25 } 0 0 [.ref (ad_ w 20 0), .int (nI p), .int (nI q), .int (nI j), .int u, .int v] a (.inl (some (.int ((gl_ a 24 0 0 + 1).toInt32)))) (us_ (th_ a 0) p q j u v) := by
  refine Fn_of hI (by decide +kernel) (Nat.le_of_ble_eq_true rfl) ?_
  intro zp ze zs zm zb zt zc ls cx hr hlk hno hW hS hl
  replace cx : Cx_ zp zs zm zc _ cX5_trade 11 "MarginHouseModel" w := cx
  replace hl : lv_has ls 11 [(0, .ref (ad_ w 20 0)), (1, .int (nI p)), (2, .int (nI q)), (3, .int (nI j)), (4, .int u), (5, .int v)] := hl
  obtain ⟨H, hH⟩ : ∃ H, zs.heap = H := ⟨_, rfl⟩
  rw [hH] at hW
  have hS : Fr_ w zs.heap H [] := by rw [← hH]; exact hS
  obtain ⟨locs, hlocs⟩ : ∃ x : List Loc, x = [] := ⟨_, rfl⟩
  rw [← hlocs] at hS ⊢
  rw [show W zp l ze _ zs zm _ zb zt zc zs.heap locs 0 0 _ (F0 zm 0 ls []) ↔ W zp l ze _ zs zm _ zb zt zc H locs 0 0 _ (F0 zm 0 ls []) from by rw [hH]]
  refine lv_aload_n cx.1 cx.2.1 dX5_trade_0 rfl (lv_at hl 0 rfl) ?_
  refine lv_iload_n cx.1 cx.2.1 dX5_trade_1 rfl (lv_at hl 1 rfl) ?_
  refine ck_V (v := some (.int (if jm_ (nI p) (gi_ a 21 0 0) then 1 else 0))) (As := [.int (nI p)]) (rest := []) (k := 20) (i := 0) (T := TX5) cx hW hS hl (by decide) rfl rfl (c_X5_isMember l hI a (nI p)) cw_X5_isMember nw_436 nw_542 nw_435 rfl rfl (Nat.le_of_ble_eq_true rfl) rfl rfl ⟨Nat.le_of_ble_eq_true rfl, Nat.le_of_ble_eq_true rfl⟩ ⟨Nat.le_of_ble_eq_true rfl, Nat.le_of_ble_eq_true rfl⟩ dX5_trade_2 (fun H locs hW hS => ?_)
  refine W.eq (g2 := F0 zm 5 ls [.int (if jm_ (nI p) (gi_ a 21 0 0) then 1 else 0)]) rfl ?_
  refine lv_if_eq (tgt := 33) cx.1 cx.2.1 dX5_trade_5 (by decide) (fun zz => absurd zz (bz_t (jm_in hk (by omega) hp))) (fun h5 => ?_)
  refine lv_aload_n cx.1 cx.2.1 dX5_trade_8 rfl (lv_at hl 0 rfl) ?_
  refine lv_iload_n cx.1 cx.2.1 dX5_trade_9 rfl (lv_at hl 2 rfl) ?_
  refine ck_V (v := some (.int (if jm_ (nI q) (gi_ a 21 0 0) then 1 else 0))) (As := [.int (nI q)]) (rest := []) (k := 20) (i := 0) (T := TX5) cx hW hS hl (by decide) rfl rfl (c_X5_isMember l hI a (nI q)) cw_X5_isMember nw_436 nw_542 nw_435 rfl rfl (Nat.le_of_ble_eq_true rfl) rfl rfl ⟨Nat.le_of_ble_eq_true rfl, Nat.le_of_ble_eq_true rfl⟩ ⟨Nat.le_of_ble_eq_true rfl, Nat.le_of_ble_eq_true rfl⟩ dX5_trade_10 (fun H locs hW hS => ?_)
  refine W.eq (g2 := F0 zm 13 ls [.int (if jm_ (nI q) (gi_ a 21 0 0) then 1 else 0)]) rfl ?_
  refine lv_if_eq (tgt := 33) cx.1 cx.2.1 dX5_trade_13 (by decide) (fun zz => absurd zz (bz_t (jm_in hk (by omega) hq))) (fun h13 => ?_)
  refine lv_iload_n cx.1 cx.2.1 dX5_trade_16 rfl (lv_at hl 1 rfl) ?_
  refine lv_iload_n cx.1 cx.2.1 dX5_trade_17 rfl (lv_at hl 2 rfl) ?_
  refine lv_icmp_eq (tgt := 33) cx.1 cx.2.1 dX5_trade_18 (by decide) (fun zz => absurd zz (fun z => hpq ((nI_eq (by omega) (by omega)).mp z))) (fun h18 => ?_)
  refine lv_aload_n cx.1 cx.2.1 dX5_trade_21 rfl (lv_at hl 0 rfl) ?_
  refine lv_iload_n cx.1 cx.2.1 dX5_trade_22 rfl (lv_at hl 3 rfl) ?_
  refine ck_V (v := some (.int (if jm_ (nI j) (gi_ a 22 0 0) then 1 else 0))) (As := [.int (nI j)]) (rest := []) (k := 20) (i := 0) (T := TX5) cx hW hS hl (by decide) rfl rfl (c_X5_isInstrument l hI a (nI j)) cw_X5_isInstrument nw_428 nw_541 nw_427 rfl rfl (Nat.le_of_ble_eq_true rfl) rfl rfl ⟨Nat.le_of_ble_eq_true rfl, Nat.le_of_ble_eq_true rfl⟩ ⟨Nat.le_of_ble_eq_true rfl, Nat.le_of_ble_eq_true rfl⟩ dX5_trade_23 (fun H locs hW hS => ?_)
  refine W.eq (g2 := F0 zm 26 ls [.int (if jm_ (nI j) (gi_ a 22 0 0) then 1 else 0)]) rfl ?_
  refine lv_if_eq (tgt := 33) cx.1 cx.2.1 dX5_trade_26 (by decide) (fun zz => absurd zz (bz_t (jm_in hn (by omega) hj))) (fun h26 => ?_)
  refine lv_iconst (v := 1) cx.1 cx.2.1 dX5_trade_29 (by decide) ?_
  refine lv_goto (tgt := 34) cx.1 cx.2.1 dX5_trade_30 (by decide) ?_
  refine lv_istore (lv' := [(6, .int 1), (0, .ref (ad_ w 20 0)), (1, .int (nI p)), (2, .int (nI q)), (3, .int (nI j)), (4, .int u), (5, .int v)]) cx.1 cx.2.1 dX5_trade_34 hl (by decide) rfl (fun ls hl => ?_)
  refine lv_iload cx.1 cx.2.1 dX5_trade_36 (lv_at hl 0 rfl) ?_
  refine lv_if_eq (tgt := 71) cx.1 cx.2.1 dX5_trade_38 (by decide) (fun zz => absurd zz (by decide)) (fun h38 => ?_)
  refine lv_iload cx.1 cx.2.1 dX5_trade_41 (lv_at hl 5 rfl) ?_
  refine lv_i2l (v := u.toInt64) cx.1 cx.2.1 dX5_trade_43 rfl ?_
  refine lv_lconst (v := 1) cx.1 cx.2.1 dX5_trade_44 (by decide) ?_
  refine lv_ldc2 (own := "MarginHouseModel") (v := 100000) cx.1 cx.2.1 cx.2.2.2.1 (cx.2.2.2.2.1 _ nw_453) dX5_trade_45 ?_
  refine ck_S (v := some (.int (if wi_ u.toInt64 1 100000 then 1 else 0))) (As := [.long u.toInt64, .long 1, .long 100000]) (rest := []) cx hW hS hl (c_X5_within l hI a u.toInt64 1 100000) cw_X5_within nw_406 nw_405 rfl rfl (Nat.le_of_ble_eq_true rfl) rfl rfl ⟨Nat.le_of_ble_eq_true rfl, Nat.le_of_ble_eq_true rfl⟩ ⟨Nat.le_of_ble_eq_true rfl, Nat.le_of_ble_eq_true rfl⟩ dX5_trade_48 (fun H locs hW hS => ?_)
  refine W.eq (g2 := F0 zm 51 ls [.int (if wi_ u.toInt64 1 100000 then 1 else 0)]) rfl ?_
  refine lv_if_eq (tgt := 71) cx.1 cx.2.1 dX5_trade_51 (by decide) (fun zz => absurd zz (bz_t hu)) (fun h51 => ?_)
  refine lv_iload cx.1 cx.2.1 dX5_trade_54 (lv_at hl 6 rfl) ?_
  refine lv_i2l (v := v.toInt64) cx.1 cx.2.1 dX5_trade_56 rfl ?_
  refine lv_lconst (v := 0) cx.1 cx.2.1 dX5_trade_57 (by decide) ?_
  refine lv_ldc2 (own := "MarginHouseModel") (v := 1000000) cx.1 cx.2.1 cx.2.2.2.1 (cx.2.2.2.2.1 _ nw_412) dX5_trade_58 ?_
  refine ck_S (v := some (.int (if wi_ v.toInt64 0 1000000 then 1 else 0))) (As := [.long v.toInt64, .long 0, .long 1000000]) (rest := []) cx hW hS hl (c_X5_within l hI a v.toInt64 0 1000000) cw_X5_within nw_406 nw_405 rfl rfl (Nat.le_of_ble_eq_true rfl) rfl rfl ⟨Nat.le_of_ble_eq_true rfl, Nat.le_of_ble_eq_true rfl⟩ ⟨Nat.le_of_ble_eq_true rfl, Nat.le_of_ble_eq_true rfl⟩ dX5_trade_61 (fun H locs hW hS => ?_)
  refine W.eq (g2 := F0 zm 64 ls [.int (if wi_ v.toInt64 0 1000000 then 1 else 0)]) rfl ?_
  refine lv_if_eq (tgt := 71) cx.1 cx.2.1 dX5_trade_64 (by decide) (fun zz => absurd zz (bz_t hv)) (fun h64 => ?_)
  refine lv_iconst (v := 1) cx.1 cx.2.1 dX5_trade_67 (by decide) ?_
  refine lv_goto (tgt := 72) cx.1 cx.2.1 dX5_trade_68 (by decide) ?_
  refine lv_istore (lv' := [(6, .int 1), (0, .ref (ad_ w 20 0)), (1, .int (nI p)), (2, .int (nI q)), (3, .int (nI j)), (4, .int u), (5, .int v)]) cx.1 cx.2.1 dX5_trade_72 hl (by decide) rfl (fun ls hl => ?_)
  refine lv_aload_n cx.1 cx.2.1 dX5_trade_74 rfl (lv_at hl 1 rfl) ?_
  refine lv_iload cx.1 cx.2.1 dX5_trade_75 (lv_at hl 0 rfl) ?_
  refine lv_if_ne (tgt := 84) cx.1 cx.2.1 dX5_trade_77 (by decide) (fun h77 => ?_) (fun zz => absurd zz (by decide))
  refine lv_aload_n cx.1 cx.2.1 dX5_trade_84 rfl (lv_at hl 1 rfl) ?_
  refine gf_X5_16 cx hW (by decide) dX5_trade_85 ?_
  refine lv_iload_n cx.1 cx.2.1 dX5_trade_88 rfl (lv_at hl 2 rfl) ?_
  refine al_23 (j := p) cx hW (by decide) rfl (by omega) dX5_trade_89 ?_
  refine lv_if_ne (tgt := 102) cx.1 cx.2.1 dX5_trade_90 (by decide) (fun zz => absurd hs zz) (fun h90 => ?_)
  refine lv_aload_n cx.1 cx.2.1 dX5_trade_93 rfl (lv_at hl 1 rfl) ?_
  refine gf_X5_16 cx hW (by decide) dX5_trade_94 ?_
  refine lv_iload_n cx.1 cx.2.1 dX5_trade_97 rfl (lv_at hl 3 rfl) ?_
  refine al_23 (j := q) cx hW (by decide) rfl (by omega) dX5_trade_98 ?_
  refine lv_if_eq (tgt := 106) cx.1 cx.2.1 dX5_trade_99 (by decide) (fun h99 => ?_) (fun zz => absurd hs2 zz)
  refine lv_iconst (v := 0) cx.1 cx.2.1 dX5_trade_106 (by decide) ?_
  refine pf_X5_62 cx hW hS (by decide) dX5_trade_107 (fun H locs hW hS => ?_)
  replace hW : Hd_ w (th_ a 0) H := hW
  refine lv_aload_n cx.1 cx.2.1 dX5_trade_110 rfl (lv_at hl 1 rfl) ?_
  refine gf_X5_62 cx hW (by decide) dX5_trade_111 ?_
  refine tp_i (y := 0) (th_20 a _) ?_
  refine lv_if_le (tgt := 119) cx.1 cx.2.1 dX5_trade_114 (by decide) (fun h114 => ?_) (fun zz => absurd (by decide) zz)
  refine lv_aload_n cx.1 cx.2.1 dX5_trade_119 rfl (lv_at hl 1 rfl) ?_
  refine gf_X5_20 cx hW (by decide) dX5_trade_120 ?_
  refine lv_bipush (v := 6) cx.1 cx.2.1 dX5_trade_123 (by decide) ?_
  refine lv_iload_n cx.1 cx.2.1 dX5_trade_125 rfl (lv_at hl 2 rfl) ?_
  refine lv_imul cx.1 cx.2.1 dX5_trade_126 ?_
  refine lv_iload_n cx.1 cx.2.1 dX5_trade_127 rfl (lv_at hl 4 rfl) ?_
  refine lv_iadd cx.1 cx.2.1 dX5_trade_128 ?_
  refine al_24 (j := 6 * p + j) cx hW (by decide) (n6_ p j) (by omega) dX5_trade_129 ?_
  refine lv_iload cx.1 cx.2.1 dX5_trade_130 (lv_at hl 5 rfl) ?_
  refine lv_iadd cx.1 cx.2.1 dX5_trade_132 ?_
  refine lv_istore (lv' := [(7, .int ((gi_ (th_ a 0) 24 0 (6 * p + j)) + u)), (6, .int 1), (0, .ref (ad_ w 20 0)), (1, .int (nI p)), (2, .int (nI q)), (3, .int (nI j)), (4, .int u), (5, .int v)]) cx.1 cx.2.1 dX5_trade_133 hl (by decide) rfl (fun ls hl => ?_)
  refine lv_aload_n cx.1 cx.2.1 dX5_trade_135 rfl (lv_at hl 2 rfl) ?_
  refine gf_X5_20 cx hW (by decide) dX5_trade_136 ?_
  refine lv_bipush (v := 6) cx.1 cx.2.1 dX5_trade_139 (by decide) ?_
  refine lv_iload_n cx.1 cx.2.1 dX5_trade_141 rfl (lv_at hl 4 rfl) ?_
  refine lv_imul cx.1 cx.2.1 dX5_trade_142 ?_
  refine lv_iload_n cx.1 cx.2.1 dX5_trade_143 rfl (lv_at hl 5 rfl) ?_
  refine lv_iadd cx.1 cx.2.1 dX5_trade_144 ?_
  refine al_24 (j := 6 * q + j) cx hW (by decide) (n6_ q j) (by omega) dX5_trade_145 ?_
  refine lv_iload cx.1 cx.2.1 dX5_trade_146 (lv_at hl 6 rfl) ?_
  refine lv_isub cx.1 cx.2.1 dX5_trade_148 ?_
  refine lv_istore (lv' := [(8, .int ((gi_ (th_ a 0) 24 0 (6 * q + j)) - u)), (7, .int ((gi_ (th_ a 0) 24 0 (6 * p + j)) + u)), (6, .int 1), (0, .ref (ad_ w 20 0)), (1, .int (nI p)), (2, .int (nI q)), (3, .int (nI j)), (4, .int u), (5, .int v)]) cx.1 cx.2.1 dX5_trade_149 hl (by decide) rfl (fun ls hl => ?_)
  refine lv_iload cx.1 cx.2.1 dX5_trade_151 (lv_at hl 7 rfl) ?_
  refine lv_i2l (v := u.toInt64) cx.1 cx.2.1 dX5_trade_153 rfl ?_
  refine lv_aload_n cx.1 cx.2.1 dX5_trade_154 rfl (lv_at hl 3 rfl) ?_
  refine gf_X5_26 cx hW (by decide) dX5_trade_155 ?_
  refine lv_iload_n cx.1 cx.2.1 dX5_trade_158 rfl (lv_at hl 6 rfl) ?_
  refine al_26 (j := j) cx hW (by decide) rfl (by omega) dX5_trade_159 ?_
  refine lv_iload cx.1 cx.2.1 dX5_trade_160 (lv_at hl 8 rfl) ?_
  refine lv_isub cx.1 cx.2.1 dX5_trade_162 ?_
  refine lv_i2l (v := ((gi_ (th_ a 0) 26 0 j) - v).toInt64) cx.1 cx.2.1 dX5_trade_163 rfl ?_
  refine lv_lmul cx.1 cx.2.1 dX5_trade_164 ?_
  refine tp_j (y := ug_ (th_ a 0) j u v) rfl ?_
  refine lv_lstore (lv' := [(9, .long (ug_ (th_ a 0) j u v)), (8, .int ((gi_ (th_ a 0) 24 0 (6 * q + j)) - u)), (7, .int ((gi_ (th_ a 0) 24 0 (6 * p + j)) + u)), (6, .int 1), (0, .ref (ad_ w 20 0)), (1, .int (nI p)), (2, .int (nI q)), (3, .int (nI j)), (4, .int u), (5, .int v)]) cx.1 cx.2.1 dX5_trade_165 hl (by decide) rfl (fun ls hl => ?_)
  refine lv_iload cx.1 cx.2.1 dX5_trade_167 (lv_at hl 2 rfl) ?_
  refine lv_ldc (own := "MarginHouseModel") (v := 1000000) cx.1 cx.2.1 cx.2.2.2.1 (cx.2.2.2.2.1 _ nw_454) dX5_trade_169 ?_
  refine lv_icmp_gt (tgt := 211) cx.1 cx.2.1 dX5_trade_171 (by decide) (fun zz => absurd zz hr0.1) (fun h171 => ?_)
  refine lv_iload cx.1 cx.2.1 dX5_trade_174 (lv_at hl 1 rfl) ?_
  refine lv_ldc (own := "MarginHouseModel") (v := -1000000) cx.1 cx.2.1 cx.2.2.2.1 (cx.2.2.2.2.1 _ nw_455) dX5_trade_176 ?_
  refine lv_icmp_lt (tgt := 211) cx.1 cx.2.1 dX5_trade_178 (by decide) (fun zz => absurd zz hr0.2.1) (fun h178 => ?_)
  refine lv_aload_n cx.1 cx.2.1 dX5_trade_181 rfl (lv_at hl 4 rfl) ?_
  refine gf_X5_7 cx hW (by decide) dX5_trade_182 ?_
  refine lv_iload_n cx.1 cx.2.1 dX5_trade_185 rfl (lv_at hl 5 rfl) ?_
  refine al_21 (j := p) cx hW (by decide) rfl (by omega) dX5_trade_186 ?_
  refine lv_lload cx.1 cx.2.1 dX5_trade_187 (lv_at hl 0 rfl) ?_
  refine lv_ladd cx.1 cx.2.1 dX5_trade_189 ?_
  refine ck_S (v := some (.int (if ¬ tm_ ((gl_ (th_ a 0) 20 0 p) + (ug_ (th_ a 0) j u v)) then 1 else 0))) (As := [.long ((gl_ (th_ a 0) 20 0 p) + (ug_ (th_ a 0) j u v))]) (rest := []) cx hW hS hl (c_X5_isFar l hI (th_ a 0) ((gl_ (th_ a 0) 20 0 p) + (ug_ (th_ a 0) j u v))) cw_X5_isFar nw_418 nw_417 rfl rfl (Nat.le_of_ble_eq_true rfl) rfl rfl ⟨Nat.le_of_ble_eq_true rfl, Nat.le_of_ble_eq_true rfl⟩ ⟨Nat.le_of_ble_eq_true rfl, Nat.le_of_ble_eq_true rfl⟩ dX5_trade_190 (fun H locs hW hS => ?_)
  refine W.eq (g2 := F0 zm 193 ls [.int (if ¬ tm_ ((gl_ (th_ a 0) 20 0 p) + (ug_ (th_ a 0) j u v)) then 1 else 0)]) rfl ?_
  refine lv_if_ne (tgt := 211) cx.1 cx.2.1 dX5_trade_193 (by decide) (fun zz => absurd (bz_f (fun z => z hr0.2.2.1)) zz) (fun h193 => ?_)
  refine lv_aload_n cx.1 cx.2.1 dX5_trade_196 rfl (lv_at hl 4 rfl) ?_
  refine gf_X5_7 cx hW (by decide) dX5_trade_197 ?_
  refine lv_iload_n cx.1 cx.2.1 dX5_trade_200 rfl (lv_at hl 6 rfl) ?_
  refine al_21 (j := q) cx hW (by decide) rfl (by omega) dX5_trade_201 ?_
  refine lv_lload cx.1 cx.2.1 dX5_trade_202 (lv_at hl 0 rfl) ?_
  refine lv_lsub cx.1 cx.2.1 dX5_trade_204 ?_
  refine ck_S (v := some (.int (if ¬ tm_ ((gl_ (th_ a 0) 20 0 q) - (ug_ (th_ a 0) j u v)) then 1 else 0))) (As := [.long ((gl_ (th_ a 0) 20 0 q) - (ug_ (th_ a 0) j u v))]) (rest := []) cx hW hS hl (c_X5_isFar l hI (th_ a 0) ((gl_ (th_ a 0) 20 0 q) - (ug_ (th_ a 0) j u v))) cw_X5_isFar nw_418 nw_417 rfl rfl (Nat.le_of_ble_eq_true rfl) rfl rfl ⟨Nat.le_of_ble_eq_true rfl, Nat.le_of_ble_eq_true rfl⟩ ⟨Nat.le_of_ble_eq_true rfl, Nat.le_of_ble_eq_true rfl⟩ dX5_trade_205 (fun H locs hW hS => ?_)
  refine W.eq (g2 := F0 zm 208 ls [.int (if ¬ tm_ ((gl_ (th_ a 0) 20 0 q) - (ug_ (th_ a 0) j u v)) then 1 else 0)]) rfl ?_
  refine lv_if_eq (tgt := 213) cx.1 cx.2.1 dX5_trade_208 (by decide) (fun h208 => ?_) (fun zz => absurd (bz_f (fun z => z hr0.2.2.2)) zz)
  refine lv_aload_n cx.1 cx.2.1 dX5_trade_213 rfl (lv_at hl 4 rfl) ?_
  refine gf_X5_20 cx hW (by decide) dX5_trade_214 ?_
  refine lv_bipush (v := 6) cx.1 cx.2.1 dX5_trade_217 (by decide) ?_
  refine lv_iload_n cx.1 cx.2.1 dX5_trade_219 rfl (lv_at hl 5 rfl) ?_
  refine lv_imul cx.1 cx.2.1 dX5_trade_220 ?_
  refine lv_iload_n cx.1 cx.2.1 dX5_trade_221 rfl (lv_at hl 7 rfl) ?_
  refine lv_iadd cx.1 cx.2.1 dX5_trade_222 ?_
  refine lv_iload cx.1 cx.2.1 dX5_trade_223 (lv_at hl 2 rfl) ?_
  refine as_24 (j := 6 * p + j) cx hW hS (by decide) (n6_ p j) (by omega) dX5_trade_225 (fun H locs hW hS => ?_)
  refine lv_aload_n cx.1 cx.2.1 dX5_trade_226 rfl (lv_at hl 4 rfl) ?_
  refine gf_X5_20 cx hW (by decide) dX5_trade_227 ?_
  refine lv_bipush (v := 6) cx.1 cx.2.1 dX5_trade_230 (by decide) ?_
  refine lv_iload_n cx.1 cx.2.1 dX5_trade_232 rfl (lv_at hl 6 rfl) ?_
  refine lv_imul cx.1 cx.2.1 dX5_trade_233 ?_
  refine lv_iload_n cx.1 cx.2.1 dX5_trade_234 rfl (lv_at hl 7 rfl) ?_
  refine lv_iadd cx.1 cx.2.1 dX5_trade_235 ?_
  refine lv_iload cx.1 cx.2.1 dX5_trade_236 (lv_at hl 1 rfl) ?_
  refine as_24 (j := 6 * q + j) cx hW hS (by decide) (n6_ q j) (by omega) dX5_trade_238 (fun H locs hW hS => ?_)
  refine lv_aload_n cx.1 cx.2.1 dX5_trade_239 rfl (lv_at hl 4 rfl) ?_
  refine gf_X5_7 cx hW (by decide) dX5_trade_240 ?_
  refine lv_iload_n cx.1 cx.2.1 dX5_trade_243 rfl (lv_at hl 5 rfl) ?_
  refine lv_aload_n cx.1 cx.2.1 dX5_trade_244 rfl (lv_at hl 4 rfl) ?_
  refine gf_X5_7 cx hW (by decide) dX5_trade_245 ?_
  refine lv_iload_n cx.1 cx.2.1 dX5_trade_248 rfl (lv_at hl 5 rfl) ?_
  refine al_21 (j := p) cx hW (by decide) rfl (by omega) dX5_trade_249 ?_
  refine tp_j (y := gl_ (th_ a 0) 20 0 p) rfl ?_
  refine lv_lload cx.1 cx.2.1 dX5_trade_250 (lv_at hl 0 rfl) ?_
  refine lv_ladd cx.1 cx.2.1 dX5_trade_252 ?_
  refine as_21 (j := p) cx hW hS (by decide) rfl (by omega) dX5_trade_253 (fun H locs hW hS => ?_)
  refine lv_aload_n cx.1 cx.2.1 dX5_trade_254 rfl (lv_at hl 4 rfl) ?_
  refine gf_X5_7 cx hW (by decide) dX5_trade_255 ?_
  refine lv_iload_n cx.1 cx.2.1 dX5_trade_258 rfl (lv_at hl 6 rfl) ?_
  refine lv_aload_n cx.1 cx.2.1 dX5_trade_259 rfl (lv_at hl 4 rfl) ?_
  refine gf_X5_7 cx hW (by decide) dX5_trade_260 ?_
  refine lv_iload_n cx.1 cx.2.1 dX5_trade_263 rfl (lv_at hl 6 rfl) ?_
  refine al_21 (j := q) cx hW (by decide) rfl (by omega) dX5_trade_264 ?_
  refine tp_j (y := gl_ (th_ a 0) 20 0 q) (by rw [gl_sl, if_neg (by omega)]; rfl) ?_
  refine lv_lload cx.1 cx.2.1 dX5_trade_265 (lv_at hl 0 rfl) ?_
  refine lv_lsub cx.1 cx.2.1 dX5_trade_267 ?_
  refine as_21 (j := q) cx hW hS (by decide) rfl (by omega) dX5_trade_268 (fun H locs hW hS => ?_)
  refine lv_aload_n cx.1 cx.2.1 dX5_trade_269 rfl (lv_at hl 4 rfl) ?_
  refine lv_dup cx.1 cx.2.1 dX5_trade_270 rfl ?_
  refine gf_X5_111 cx hW (by decide) dX5_trade_271 ?_
  refine tp_j (y := gl_ (th_ a 0) 24 0 0) (by simp only [gl_sl, gl_si]; simp) ?_
  refine lv_lconst (v := 1) cx.1 cx.2.1 dX5_trade_274 (by decide) ?_
  refine lv_ladd cx.1 cx.2.1 dX5_trade_275 ?_
  refine pf_X5_111 cx hW hS (by decide) dX5_trade_276 (fun H locs hW hS => ?_)
  refine lv_aload_n cx.1 cx.2.1 dX5_trade_279 rfl (lv_at hl 4 rfl) ?_
  refine gf_X5_111 cx hW (by decide) dX5_trade_280 ?_
  refine tp_j (y := gl_ a 24 0 0 + 1) (by rw [gl_sl]; exact if_pos ⟨rfl, rfl, rfl⟩) ?_
  refine lv_l2i (v := (gl_ a 24 0 0 + 1).toInt32) cx.1 cx.2.1 dX5_trade_283 rfl ?_
  exact cr_i cx hr hlk hW hS (Nat.le_of_ble_eq_true rfl) (Nat.le_of_ble_eq_true rfl) dX5_trade_284 rfl rfl
def nr_ (a : St_) (j : Nat) (v : Int32) : Int64 := (v - gi_ a 26 0 j).toInt64
abbrev nk_ (a : St_) (j : Nat) (v : Int32) (m : Nat) : Prop := tm_ (gl_ a 20 0 m + nr_ a j v * (gi_ a 24 0 (6 * m + j)).toInt64)
def nm_ (a : St_) (j : Nat) (r : Int64) : Nat → St_
  | 0 => a
  | i + 1 => sl_ (nm_ a j r i) 20 0 i (gl_ (nm_ a j r i) 20 0 i + r * (gi_ (nm_ a j r i) 24 0 (6 * i + j)).toInt64)
theorem nm_gi (a : St_) (j : Nat) (r : Int64) (v x y : Nat) : ∀ i, gi_ (nm_ a j r i) v x y = gi_ a v x y
  | 0 => rfl
  | i + 1 => nm_gi a j r v x y i
def nb_ (a : St_) (j : Nat) (r : Int64) : Nat → Int32
  | 0 => 0
  | i + 1 => if gi_ (nm_ a j r (i + 1)) 23 0 i = 0 ∧ ¬ 0 ≤ gl_ (nm_ a j r (i + 1)) 20 0 i then nb_ a j r i + 1 else nb_ a j r i
def nz_ (a : St_) (j k : Nat) (v : Int32) : St_ := si_ (nm_ a j (nr_ a j v) k) 26 0 j v
set_option maxHeartbeats 4000000 in
set_option maxRecDepth 100000 in
theorem c_X5_mark_ia (l : Launch) {w : Gh_} (hI : In_ w) (a : St_) (x v : Int32) (h : ¬ (jm_ x (gi_ a 22 0 0) ∧ wi_ v.toInt64 0 1000000)) : Fn_ l w yX5_mark (.code yX5_mark cX5_mark 7 (some .int)) { frames := 1, cells := 0, slots := 0, locals := 25 } 0 0 [.ref (ad_ w 20 0), .int x, .int v] a (.inl (some (.int 0))) (th_ a 1) := by
  refine Fn_of hI (by decide +kernel) (Nat.le_of_ble_eq_true rfl) ?_
  intro zp ze zs zm zb zt zc ls cx hr hlk hno hW hS hl
  replace cx : Cx_ zp zs zm zc _ cX5_mark 7 "MarginHouseModel" w := cx
  replace hl : lv_has ls 7 [(0, .ref (ad_ w 20 0)), (1, .int x), (2, .int v)] := hl
  obtain ⟨H, hH⟩ : ∃ H, zs.heap = H := ⟨_, rfl⟩
  rw [hH] at hW
  have hS : Fr_ w zs.heap H [] := by rw [← hH]; exact hS
  obtain ⟨locs, hlocs⟩ : ∃ x : List Loc, x = [] := ⟨_, rfl⟩
  rw [← hlocs] at hS ⊢
  rw [show W zp l ze _ zs zm _ zb zt zc zs.heap locs 0 0 _ (F0 zm 0 ls []) ↔ W zp l ze _ zs zm _ zb zt zc H locs 0 0 _ (F0 zm 0 ls []) from by rw [hH]]
  refine lv_aload_n cx.1 cx.2.1 dX5_mark_0 rfl (lv_at hl 0 rfl) ?_
  refine lv_aload_n cx.1 cx.2.1 dX5_mark_1 rfl (lv_at hl 0 rfl) ?_
  refine lv_iload_n cx.1 cx.2.1 dX5_mark_2 rfl (lv_at hl 1 rfl) ?_
  refine ck_V (v := some (.int (if jm_ x (gi_ a 22 0 0) then 1 else 0))) (As := [.int x]) (rest := [.ref (ad_ w 20 0)]) (k := 20) (i := 0) (T := TX5) cx hW hS hl (by decide) rfl rfl (c_X5_isInstrument l hI a x) cw_X5_isInstrument nw_428 nw_541 nw_427 rfl rfl (Nat.le_of_ble_eq_true rfl) rfl rfl ⟨Nat.le_of_ble_eq_true rfl, Nat.le_of_ble_eq_true rfl⟩ ⟨Nat.le_of_ble_eq_true rfl, Nat.le_of_ble_eq_true rfl⟩ dX5_mark_3 (fun H locs hW hS => ?_)
  refine W.eq (g2 := F0 zm 6 ls [.int (if jm_ x (gi_ a 22 0 0) then 1 else 0), .ref (ad_ w 20 0)]) rfl ?_
  refine lv_if_eq (tgt := 21) cx.1 cx.2.1 dX5_mark_6 (by decide) (fun h6 => ?_) (fun h6 => ?_)
  · skip
    have h6 := bz_0 h6
    refine lv_iconst (v := 1) cx.1 cx.2.1 dX5_mark_21 (by decide) ?_
    refine lv_goto (tgt := 26) cx.1 cx.2.1 dX5_mark_22 (by decide) ?_
    refine pf_X5_62 cx hW hS (by decide) dX5_mark_26 (fun H locs hW hS => ?_)
    replace hW : Hd_ w (th_ a 1) H := hW
    refine lv_aload_n cx.1 cx.2.1 dX5_mark_29 rfl (lv_at hl 0 rfl) ?_
    refine gf_X5_62 cx hW (by decide) dX5_mark_30 ?_
    refine tp_i (y := 1) (th_20 a _) ?_
    refine lv_if_le (tgt := 38) cx.1 cx.2.1 dX5_mark_33 (by decide) (fun zz => absurd zz (by decide)) (fun h33 => ?_)
    refine lv_iconst (v := 0) cx.1 cx.2.1 dX5_mark_36 (by decide) ?_
    exact cr_i cx hr hlk hW hS (Nat.le_of_ble_eq_true rfl) (Nat.le_of_ble_eq_true rfl) dX5_mark_37 rfl rfl
  · skip
    have h6 := bz_1 h6
    refine lv_iload_n cx.1 cx.2.1 dX5_mark_9 rfl (lv_at hl 2 rfl) ?_
    refine lv_i2l (v := v.toInt64) cx.1 cx.2.1 dX5_mark_10 rfl ?_
    refine lv_lconst (v := 0) cx.1 cx.2.1 dX5_mark_11 (by decide) ?_
    refine lv_ldc2 (own := "MarginHouseModel") (v := 1000000) cx.1 cx.2.1 cx.2.2.2.1 (cx.2.2.2.2.1 _ nw_412) dX5_mark_12 ?_
    refine ck_S (v := some (.int (if wi_ v.toInt64 0 1000000 then 1 else 0))) (As := [.long v.toInt64, .long 0, .long 1000000]) (rest := [.ref (ad_ w 20 0)]) cx hW hS hl (c_X5_within l hI a v.toInt64 0 1000000) cw_X5_within nw_406 nw_405 rfl rfl (Nat.le_of_ble_eq_true rfl) rfl rfl ⟨Nat.le_of_ble_eq_true rfl, Nat.le_of_ble_eq_true rfl⟩ ⟨Nat.le_of_ble_eq_true rfl, Nat.le_of_ble_eq_true rfl⟩ dX5_mark_15 (fun H locs hW hS => ?_)
    refine W.eq (g2 := F0 zm 18 ls [.int (if wi_ v.toInt64 0 1000000 then 1 else 0), .ref (ad_ w 20 0)]) rfl ?_
    refine lv_if_ne (tgt := 25) cx.1 cx.2.1 dX5_mark_18 (by decide) (fun h18 => ?_) (fun h18 => ?_)
    · skip
      have h18 := bz_1 h18
      exact absurd ⟨h6, h18⟩ h
    · skip
      have h18 := bz_0 h18
      refine lv_iconst (v := 1) cx.1 cx.2.1 dX5_mark_21 (by decide) ?_
      refine lv_goto (tgt := 26) cx.1 cx.2.1 dX5_mark_22 (by decide) ?_
      refine pf_X5_62 cx hW hS (by decide) dX5_mark_26 (fun H locs hW hS => ?_)
      replace hW : Hd_ w (th_ a 1) H := hW
      refine lv_aload_n cx.1 cx.2.1 dX5_mark_29 rfl (lv_at hl 0 rfl) ?_
      refine gf_X5_62 cx hW (by decide) dX5_mark_30 ?_
      refine tp_i (y := 1) (th_20 a _) ?_
      refine lv_if_le (tgt := 38) cx.1 cx.2.1 dX5_mark_33 (by decide) (fun zz => absurd zz (by decide)) (fun h33 => ?_)
      refine lv_iconst (v := 0) cx.1 cx.2.1 dX5_mark_36 (by decide) ?_
      exact cr_i cx hr hlk hW hS (Nat.le_of_ble_eq_true rfl) (Nat.le_of_ble_eq_true rfl) dX5_mark_37 rfl rfl
set_option maxHeartbeats 4000000 in
set_option maxRecDepth 100000 in
theorem c_X5_mark_none (l : Launch) {w : Gh_} (hI : In_ w) (a : St_) (k : Nat) (hk : gi_ a 21 0 0 = nI k) (hk8 : k ≤ 8) (n : Nat) (hn : gi_ a 22 0 0 = nI n) (hn6 : n ≤ 6) (j : Nat) (hj : j < n) (v : Int32) (hv : wi_ v.toInt64 0 1000000) (he : ∃ m, m < k ∧ ¬ nk_ (th_ a 0) j v m) : Fn_ l w yX5_mark (.code yX5_mark cX5_mark 7 (some .int)) { frames := 1, cells := 0, slots := 0, locals := 25 } 0 0 [.ref (ad_ w 20 0), .int (nI j), .int v] a (.inl (some (.int (-1)))) (th_ a 0) := by
  refine Fn_of hI (by decide +kernel) (Nat.le_of_ble_eq_true rfl) ?_
  intro zp ze zs zm zb zt zc ls cx hr hlk hno hW hS hl
  replace cx : Cx_ zp zs zm zc _ cX5_mark 7 "MarginHouseModel" w := cx
  replace hl : lv_has ls 7 [(0, .ref (ad_ w 20 0)), (1, .int (nI j)), (2, .int v)] := hl
  obtain ⟨H, hH⟩ : ∃ H, zs.heap = H := ⟨_, rfl⟩
  rw [hH] at hW
  have hS : Fr_ w zs.heap H [] := by rw [← hH]; exact hS
  obtain ⟨locs, hlocs⟩ : ∃ x : List Loc, x = [] := ⟨_, rfl⟩
  rw [← hlocs] at hS ⊢
  rw [show W zp l ze _ zs zm _ zb zt zc zs.heap locs 0 0 _ (F0 zm 0 ls []) ↔ W zp l ze _ zs zm _ zb zt zc H locs 0 0 _ (F0 zm 0 ls []) from by rw [hH]]
  refine lv_aload_n cx.1 cx.2.1 dX5_mark_0 rfl (lv_at hl 0 rfl) ?_
  refine lv_aload_n cx.1 cx.2.1 dX5_mark_1 rfl (lv_at hl 0 rfl) ?_
  refine lv_iload_n cx.1 cx.2.1 dX5_mark_2 rfl (lv_at hl 1 rfl) ?_
  refine ck_V (v := some (.int (if jm_ (nI j) (gi_ a 22 0 0) then 1 else 0))) (As := [.int (nI j)]) (rest := [.ref (ad_ w 20 0)]) (k := 20) (i := 0) (T := TX5) cx hW hS hl (by decide) rfl rfl (c_X5_isInstrument l hI a (nI j)) cw_X5_isInstrument nw_428 nw_541 nw_427 rfl rfl (Nat.le_of_ble_eq_true rfl) rfl rfl ⟨Nat.le_of_ble_eq_true rfl, Nat.le_of_ble_eq_true rfl⟩ ⟨Nat.le_of_ble_eq_true rfl, Nat.le_of_ble_eq_true rfl⟩ dX5_mark_3 (fun H locs hW hS => ?_)
  refine W.eq (g2 := F0 zm 6 ls [.int (if jm_ (nI j) (gi_ a 22 0 0) then 1 else 0), .ref (ad_ w 20 0)]) rfl ?_
  refine lv_if_eq (tgt := 21) cx.1 cx.2.1 dX5_mark_6 (by decide) (fun zz => absurd zz (bz_t (jm_in hn (by omega) hj))) (fun h6 => ?_)
  refine lv_iload_n cx.1 cx.2.1 dX5_mark_9 rfl (lv_at hl 2 rfl) ?_
  refine lv_i2l (v := v.toInt64) cx.1 cx.2.1 dX5_mark_10 rfl ?_
  refine lv_lconst (v := 0) cx.1 cx.2.1 dX5_mark_11 (by decide) ?_
  refine lv_ldc2 (own := "MarginHouseModel") (v := 1000000) cx.1 cx.2.1 cx.2.2.2.1 (cx.2.2.2.2.1 _ nw_412) dX5_mark_12 ?_
  refine ck_S (v := some (.int (if wi_ v.toInt64 0 1000000 then 1 else 0))) (As := [.long v.toInt64, .long 0, .long 1000000]) (rest := [.ref (ad_ w 20 0)]) cx hW hS hl (c_X5_within l hI a v.toInt64 0 1000000) cw_X5_within nw_406 nw_405 rfl rfl (Nat.le_of_ble_eq_true rfl) rfl rfl ⟨Nat.le_of_ble_eq_true rfl, Nat.le_of_ble_eq_true rfl⟩ ⟨Nat.le_of_ble_eq_true rfl, Nat.le_of_ble_eq_true rfl⟩ dX5_mark_15 (fun H locs hW hS => ?_)
  refine W.eq (g2 := F0 zm 18 ls [.int (if wi_ v.toInt64 0 1000000 then 1 else 0), .ref (ad_ w 20 0)]) rfl ?_
  refine lv_if_ne (tgt := 25) cx.1 cx.2.1 dX5_mark_18 (by decide) (fun h18 => ?_) (fun zz => absurd zz (bz_t hv))
  refine lv_iconst (v := 0) cx.1 cx.2.1 dX5_mark_25 (by decide) ?_
  refine pf_X5_62 cx hW hS (by decide) dX5_mark_26 (fun H locs hW hS => ?_)
  replace hW : Hd_ w (th_ a 0) H := hW
  refine lv_aload_n cx.1 cx.2.1 dX5_mark_29 rfl (lv_at hl 0 rfl) ?_
  refine gf_X5_62 cx hW (by decide) dX5_mark_30 ?_
  refine tp_i (y := 0) (th_20 a _) ?_
  refine lv_if_le (tgt := 38) cx.1 cx.2.1 dX5_mark_33 (by decide) (fun h33 => ?_) (fun zz => absurd (by decide) zz)
  refine lv_iload_n cx.1 cx.2.1 dX5_mark_38 rfl (lv_at hl 2 rfl) ?_
  refine lv_aload_n cx.1 cx.2.1 dX5_mark_39 rfl (lv_at hl 0 rfl) ?_
  refine gf_X5_26 cx hW (by decide) dX5_mark_40 ?_
  refine lv_iload_n cx.1 cx.2.1 dX5_mark_43 rfl (lv_at hl 1 rfl) ?_
  refine al_26 (j := j) cx hW (by decide) rfl (by omega) dX5_mark_44 ?_
  refine lv_isub cx.1 cx.2.1 dX5_mark_45 ?_
  refine lv_i2l (v := (v - (gi_ (th_ a 0) 26 0 j)).toInt64) cx.1 cx.2.1 dX5_mark_46 rfl ?_
  refine tp_j (y := nr_ (th_ a 0) j v) rfl ?_
  refine lv_lstore_n (lv' := [(3, .long (nr_ (th_ a 0) j v)), (0, .ref (ad_ w 20 0)), (1, .int (nI j)), (2, .int v)]) cx.1 cx.2.1 dX5_mark_47 rfl hl (by decide) rfl (fun ls hl => ?_)
  refine lv_iconst (v := 0) cx.1 cx.2.1 dX5_mark_48 (by decide) ?_
  refine lv_istore (lv' := [(5, .int 0), (3, .long (nr_ (th_ a 0) j v)), (0, .ref (ad_ w 20 0)), (1, .int (nI j)), (2, .int v)]) cx.1 cx.2.1 dX5_mark_49 hl (by decide) rfl (fun ls hl => ?_)
  have L51 : ∀ (d i : Nat), i ≤ k → k - i < d → (∀ m, m < i → nk_ (th_ a 0) j v m) → ∀ (H : Heap) (locs : List Loc) (ls : Array Slot), Hd_ w (th_ a 0) H → Fr_ w zs.heap H locs → lv_has ls 7 [(0, .ref (ad_ w 20 0)), (1, .int (nI j)), (2, .int v), (3, .long (nr_ (th_ a 0) j v)), (5, .int (nI i))] → W zp l ze { frames := 1, cells := 0, slots := 0, locals := 25 } zs zm ([.ref (ad_ w 20 0), .int (nI j), .int v] : List Value).toArray zb zt zc H locs 0 0 (vx_MQ zb (Qc_ w (.inl (some (.int (-1)))) (th_ a 0)) (XC_ w (.inl (some (.int (-1)))) (th_ a 0)) ([.ref (ad_ w 20 0), .int (nI j), .int v] : List Value).toArray zs 0 0 (fun q => lo_ w ≤ q)) (F0 zm 51 ls []) := by
    intro d
    induction d with
    | zero => intro i _ hd; exact absurd hd (Nat.not_lt_zero _)
    | succ d ih51 =>
      intro i hi hdi hp H locs ls hW hS hl
      refine lv_iload cx.1 cx.2.1 dX5_mark_51 (lv_at hl 4 rfl) ?_
      refine lv_aload_n cx.1 cx.2.1 dX5_mark_53 rfl (lv_at hl 0 rfl) ?_
      refine gf_X5_66 cx hW (by decide) dX5_mark_54 ?_
      refine tp_i (y := nI k) (by rw [th_gi _ _ _ _ _ (by decide)]; exact hk) ?_
      refine lv_icmp_ge (tgt := 97) cx.1 cx.2.1 dX5_mark_57 (by decide) (fun h57 => ?_) (fun h57 => ?_)
      · skip
        have h57 : k ≤ i := (nI_leI (by omega) (by omega)).mp h57
        have e51 : i = k := by omega
        try rw [e51] at hl
        try rw [e51] at hW
        obtain ⟨m, hm, hm2⟩ := he
        exact absurd (hp m (by omega)) hm2
      · skip
        have h57 : i < k := Nat.not_le.mp (fun q => h57 ((nI_leI (by omega) (by omega)).mpr q))
        refine lv_aload_n cx.1 cx.2.1 dX5_mark_60 rfl (lv_at hl 0 rfl) ?_
        refine gf_X5_7 cx hW (by decide) dX5_mark_61 ?_
        refine lv_iload cx.1 cx.2.1 dX5_mark_64 (lv_at hl 4 rfl) ?_
        refine al_21 (j := i) cx hW (by decide) rfl (by omega) dX5_mark_66 ?_
        refine lv_lload_n cx.1 cx.2.1 dX5_mark_67 rfl (lv_at hl 3 rfl) ?_
        refine lv_aload_n cx.1 cx.2.1 dX5_mark_68 rfl (lv_at hl 0 rfl) ?_
        refine gf_X5_20 cx hW (by decide) dX5_mark_69 ?_
        refine lv_bipush (v := 6) cx.1 cx.2.1 dX5_mark_72 (by decide) ?_
        refine lv_iload cx.1 cx.2.1 dX5_mark_74 (lv_at hl 4 rfl) ?_
        refine lv_imul cx.1 cx.2.1 dX5_mark_76 ?_
        refine lv_iload_n cx.1 cx.2.1 dX5_mark_77 rfl (lv_at hl 1 rfl) ?_
        refine lv_iadd cx.1 cx.2.1 dX5_mark_78 ?_
        refine al_24 (j := 6 * i + j) cx hW (by decide) (n6_ i j) (by omega) dX5_mark_79 ?_
        refine lv_i2l (v := (gi_ (th_ a 0) 24 0 (6 * i + j)).toInt64) cx.1 cx.2.1 dX5_mark_80 rfl ?_
        refine lv_lmul cx.1 cx.2.1 dX5_mark_81 ?_
        refine lv_ladd cx.1 cx.2.1 dX5_mark_82 ?_
        refine ck_S (v := some (.int (if ¬ tm_ ((gl_ (th_ a 0) 20 0 i) + ((nr_ (th_ a 0) j v) * ((gi_ (th_ a 0) 24 0 (6 * i + j)).toInt64))) then 1 else 0))) (As := [.long ((gl_ (th_ a 0) 20 0 i) + ((nr_ (th_ a 0) j v) * ((gi_ (th_ a 0) 24 0 (6 * i + j)).toInt64)))]) (rest := []) cx hW hS hl (c_X5_isFar l hI (th_ a 0) ((gl_ (th_ a 0) 20 0 i) + ((nr_ (th_ a 0) j v) * ((gi_ (th_ a 0) 24 0 (6 * i + j)).toInt64)))) cw_X5_isFar nw_418 nw_417 rfl rfl (Nat.le_of_ble_eq_true rfl) rfl rfl ⟨Nat.le_of_ble_eq_true rfl, Nat.le_of_ble_eq_true rfl⟩ ⟨Nat.le_of_ble_eq_true rfl, Nat.le_of_ble_eq_true rfl⟩ dX5_mark_83 (fun H locs hW hS => ?_)
        refine W.eq (g2 := F0 zm 86 ls [.int (if ¬ tm_ ((gl_ (th_ a 0) 20 0 i) + ((nr_ (th_ a 0) j v) * ((gi_ (th_ a 0) 24 0 (6 * i + j)).toInt64))) then 1 else 0)]) rfl ?_
        refine lv_if_eq (tgt := 91) cx.1 cx.2.1 dX5_mark_86 (by decide) (fun h86 => ?_) (fun h86 => ?_)
        · skip
          have h86 := bz_0 h86
          have hmi : nk_ (th_ a 0) j v i := Classical.not_not.mp h86
          refine lv_iinc (v := nI (i + 1)) (lv' := [(5, .int (nI (i + 1))), (0, .ref (ad_ w 20 0)), (1, .int (nI j)), (2, .int v), (3, .long (nr_ (th_ a 0) j v))]) cx.1 cx.2.1 dX5_mark_91 hl (k := 4) rfl (nI_inc i) (by decide) rfl (fun ls hl => ?_)
          refine lv_goto (tgt := 51) cx.1 cx.2.1 dX5_mark_94 (by decide) ?_
          exact ih51 (i + 1) (by omega) (by omega) (fun m h => by rcases Nat.lt_succ_iff_lt_or_eq.mp h with h | rfl; exact hp m h; exact hmi) H locs ls hW hS (lv_sub (l' := [(0, .ref (ad_ w 20 0)), (1, .int (nI j)), (2, .int v), (3, .long (nr_ (th_ a 0) j v)), (5, .int (nI (i + 1)))]) hl [1, 2, 3, 4, 0] rfl)
        · skip
          have h86 := bz_1 h86
          refine lv_iconst (v := -1) cx.1 cx.2.1 dX5_mark_89 (by decide) ?_
          exact cr_i cx hr hlk hW hS (Nat.le_of_ble_eq_true rfl) (Nat.le_of_ble_eq_true rfl) dX5_mark_90 rfl rfl
  exact L51 (k - 0 + 1) 0 (by omega) (by omega) (fun m h => absurd h (Nat.not_lt_zero m)) H locs ls hW hS (lv_sub hl [2, 3, 4, 1, 0] rfl)
set_option maxHeartbeats 4000000 in
set_option maxRecDepth 100000 in
theorem c_X5_mark_ok (l : Launch) {w : Gh_} (hI : In_ w) (a : St_) (k : Nat) (hk : gi_ a 21 0 0 = nI k) (hk8 : k ≤ 8) (n : Nat) (hn : gi_ a 22 0 0 = nI n) (hn6 : n ≤ 6) (j : Nat) (hj : j < n) (v : Int32) (hv : wi_ v.toInt64 0 1000000) (he : ∀ m, m < k → nk_ (th_ a 0) j v m) : Fn_ l w yX5_mark (.code yX5_mark cX5_mark 7 (some .int)) { frames := 1, cells := 0, slots := 0, locals := 25 } 0 0 [.ref (ad_ w 20 0), .int (nI j), .int v] a (.inl (some (.int (nb_ (th_ a 0) j (nr_ (th_ a 0) j v) k)))) (nz_ (th_ a 0) j k v) := by
  refine Fn_of hI (by decide +kernel) (Nat.le_of_ble_eq_true rfl) ?_
  intro zp ze zs zm zb zt zc ls cx hr hlk hno hW hS hl
  replace cx : Cx_ zp zs zm zc _ cX5_mark 7 "MarginHouseModel" w := cx
  replace hl : lv_has ls 7 [(0, .ref (ad_ w 20 0)), (1, .int (nI j)), (2, .int v)] := hl
  obtain ⟨H, hH⟩ : ∃ H, zs.heap = H := ⟨_, rfl⟩
  rw [hH] at hW
  have hS : Fr_ w zs.heap H [] := by rw [← hH]; exact hS
  obtain ⟨locs, hlocs⟩ : ∃ x : List Loc, x = [] := ⟨_, rfl⟩
  rw [← hlocs] at hS ⊢
  rw [show W zp l ze _ zs zm _ zb zt zc zs.heap locs 0 0 _ (F0 zm 0 ls []) ↔ W zp l ze _ zs zm _ zb zt zc H locs 0 0 _ (F0 zm 0 ls []) from by rw [hH]]
  refine lv_aload_n cx.1 cx.2.1 dX5_mark_0 rfl (lv_at hl 0 rfl) ?_
  refine lv_aload_n cx.1 cx.2.1 dX5_mark_1 rfl (lv_at hl 0 rfl) ?_
  refine lv_iload_n cx.1 cx.2.1 dX5_mark_2 rfl (lv_at hl 1 rfl) ?_
  refine ck_V (v := some (.int (if jm_ (nI j) (gi_ a 22 0 0) then 1 else 0))) (As := [.int (nI j)]) (rest := [.ref (ad_ w 20 0)]) (k := 20) (i := 0) (T := TX5) cx hW hS hl (by decide) rfl rfl (c_X5_isInstrument l hI a (nI j)) cw_X5_isInstrument nw_428 nw_541 nw_427 rfl rfl (Nat.le_of_ble_eq_true rfl) rfl rfl ⟨Nat.le_of_ble_eq_true rfl, Nat.le_of_ble_eq_true rfl⟩ ⟨Nat.le_of_ble_eq_true rfl, Nat.le_of_ble_eq_true rfl⟩ dX5_mark_3 (fun H locs hW hS => ?_)
  refine W.eq (g2 := F0 zm 6 ls [.int (if jm_ (nI j) (gi_ a 22 0 0) then 1 else 0), .ref (ad_ w 20 0)]) rfl ?_
  refine lv_if_eq (tgt := 21) cx.1 cx.2.1 dX5_mark_6 (by decide) (fun zz => absurd zz (bz_t (jm_in hn (by omega) hj))) (fun h6 => ?_)
  refine lv_iload_n cx.1 cx.2.1 dX5_mark_9 rfl (lv_at hl 2 rfl) ?_
  refine lv_i2l (v := v.toInt64) cx.1 cx.2.1 dX5_mark_10 rfl ?_
  refine lv_lconst (v := 0) cx.1 cx.2.1 dX5_mark_11 (by decide) ?_
  refine lv_ldc2 (own := "MarginHouseModel") (v := 1000000) cx.1 cx.2.1 cx.2.2.2.1 (cx.2.2.2.2.1 _ nw_412) dX5_mark_12 ?_
  refine ck_S (v := some (.int (if wi_ v.toInt64 0 1000000 then 1 else 0))) (As := [.long v.toInt64, .long 0, .long 1000000]) (rest := [.ref (ad_ w 20 0)]) cx hW hS hl (c_X5_within l hI a v.toInt64 0 1000000) cw_X5_within nw_406 nw_405 rfl rfl (Nat.le_of_ble_eq_true rfl) rfl rfl ⟨Nat.le_of_ble_eq_true rfl, Nat.le_of_ble_eq_true rfl⟩ ⟨Nat.le_of_ble_eq_true rfl, Nat.le_of_ble_eq_true rfl⟩ dX5_mark_15 (fun H locs hW hS => ?_)
  refine W.eq (g2 := F0 zm 18 ls [.int (if wi_ v.toInt64 0 1000000 then 1 else 0), .ref (ad_ w 20 0)]) rfl ?_
  refine lv_if_ne (tgt := 25) cx.1 cx.2.1 dX5_mark_18 (by decide) (fun h18 => ?_) (fun zz => absurd zz (bz_t hv))
  refine lv_iconst (v := 0) cx.1 cx.2.1 dX5_mark_25 (by decide) ?_
  refine pf_X5_62 cx hW hS (by decide) dX5_mark_26 (fun H locs hW hS => ?_)
  replace hW : Hd_ w (th_ a 0) H := hW
  refine lv_aload_n cx.1 cx.2.1 dX5_mark_29 rfl (lv_at hl 0 rfl) ?_
  refine gf_X5_62 cx hW (by decide) dX5_mark_30 ?_
  refine tp_i (y := 0) (th_20 a _) ?_
  refine lv_if_le (tgt := 38) cx.1 cx.2.1 dX5_mark_33 (by decide) (fun h33 => ?_) (fun zz => absurd (by decide) zz)
  refine lv_iload_n cx.1 cx.2.1 dX5_mark_38 rfl (lv_at hl 2 rfl) ?_
  refine lv_aload_n cx.1 cx.2.1 dX5_mark_39 rfl (lv_at hl 0 rfl) ?_
  refine gf_X5_26 cx hW (by decide) dX5_mark_40 ?_
  refine lv_iload_n cx.1 cx.2.1 dX5_mark_43 rfl (lv_at hl 1 rfl) ?_
  refine al_26 (j := j) cx hW (by decide) rfl (by omega) dX5_mark_44 ?_
  refine lv_isub cx.1 cx.2.1 dX5_mark_45 ?_
  refine lv_i2l (v := (v - (gi_ (th_ a 0) 26 0 j)).toInt64) cx.1 cx.2.1 dX5_mark_46 rfl ?_
  refine tp_j (y := nr_ (th_ a 0) j v) rfl ?_
  refine lv_lstore_n (lv' := [(3, .long (nr_ (th_ a 0) j v)), (0, .ref (ad_ w 20 0)), (1, .int (nI j)), (2, .int v)]) cx.1 cx.2.1 dX5_mark_47 rfl hl (by decide) rfl (fun ls hl => ?_)
  refine lv_iconst (v := 0) cx.1 cx.2.1 dX5_mark_48 (by decide) ?_
  refine lv_istore (lv' := [(5, .int 0), (3, .long (nr_ (th_ a 0) j v)), (0, .ref (ad_ w 20 0)), (1, .int (nI j)), (2, .int v)]) cx.1 cx.2.1 dX5_mark_49 hl (by decide) rfl (fun ls hl => ?_)
  have L51 : ∀ (d i : Nat), i ≤ k → k - i < d → ∀ (H : Heap) (locs : List Loc) (ls : Array Slot), Hd_ w (th_ a 0) H → Fr_ w zs.heap H locs → lv_has ls 7 [(0, .ref (ad_ w 20 0)), (1, .int (nI j)), (2, .int v), (3, .long (nr_ (th_ a 0) j v)), (5, .int (nI i))] → W zp l ze { frames := 1, cells := 0, slots := 0, locals := 25 } zs zm ([.ref (ad_ w 20 0), .int (nI j), .int v] : List Value).toArray zb zt zc H locs 0 0 (vx_MQ zb (Qc_ w (.inl (some (.int (nb_ (th_ a 0) j (nr_ (th_ a 0) j v) k)))) (nz_ (th_ a 0) j k v)) (XC_ w (.inl (some (.int (nb_ (th_ a 0) j (nr_ (th_ a 0) j v) k)))) (nz_ (th_ a 0) j k v)) ([.ref (ad_ w 20 0), .int (nI j), .int v] : List Value).toArray zs 0 0 (fun q => lo_ w ≤ q)) (F0 zm 51 ls []) := by
    intro d
    induction d with
    | zero => intro i _ hd; exact absurd hd (Nat.not_lt_zero _)
    | succ d ih51 =>
      intro i hi hdi  H locs ls hW hS hl
      refine lv_iload cx.1 cx.2.1 dX5_mark_51 (lv_at hl 4 rfl) ?_
      refine lv_aload_n cx.1 cx.2.1 dX5_mark_53 rfl (lv_at hl 0 rfl) ?_
      refine gf_X5_66 cx hW (by decide) dX5_mark_54 ?_
      refine tp_i (y := nI k) (by rw [th_gi _ _ _ _ _ (by decide)]; exact hk) ?_
      refine lv_icmp_ge (tgt := 97) cx.1 cx.2.1 dX5_mark_57 (by decide) (fun h57 => ?_) (fun h57 => ?_)
      · skip
        have h57 : k ≤ i := (nI_leI (by omega) (by omega)).mp h57
        have e51 : i = k := by omega
        try rw [e51] at hl
        try rw [e51] at hW
        refine lv_iconst (v := 0) cx.1 cx.2.1 dX5_mark_97 (by decide) ?_
        refine lv_istore (lv' := [(5, .int 0), (0, .ref (ad_ w 20 0)), (1, .int (nI j)), (2, .int v), (3, .long (nr_ (th_ a 0) j v))]) cx.1 cx.2.1 dX5_mark_98 hl (by decide) rfl (fun ls hl => ?_)
        refine lv_iconst (v := 0) cx.1 cx.2.1 dX5_mark_100 (by decide) ?_
        refine lv_istore (lv' := [(6, .int 0), (5, .int 0), (0, .ref (ad_ w 20 0)), (1, .int (nI j)), (2, .int v), (3, .long (nr_ (th_ a 0) j v))]) cx.1 cx.2.1 dX5_mark_101 hl (by decide) rfl (fun ls hl => ?_)
        have L103 : ∀ (d i : Nat), i ≤ k → k - i < d → ∀ (H : Heap) (locs : List Loc) (ls : Array Slot), Hd_ w (nm_ (th_ a 0) j (nr_ (th_ a 0) j v) i) H → Fr_ w zs.heap H locs → lv_has ls 7 [(0, .ref (ad_ w 20 0)), (1, .int (nI j)), (2, .int v), (3, .long (nr_ (th_ a 0) j v)), (5, .int (nb_ (th_ a 0) j (nr_ (th_ a 0) j v) i)), (6, .int (nI i))] → W zp l ze { frames := 1, cells := 0, slots := 0, locals := 25 } zs zm ([.ref (ad_ w 20 0), .int (nI j), .int v] : List Value).toArray zb zt zc H locs 0 0 (vx_MQ zb (Qc_ w (.inl (some (.int (nb_ (th_ a 0) j (nr_ (th_ a 0) j v) k)))) (nz_ (th_ a 0) j k v)) (XC_ w (.inl (some (.int (nb_ (th_ a 0) j (nr_ (th_ a 0) j v) k)))) (nz_ (th_ a 0) j k v)) ([.ref (ad_ w 20 0), .int (nI j), .int v] : List Value).toArray zs 0 0 (fun q => lo_ w ≤ q)) (F0 zm 103 ls []) := by
          intro d
          induction d with
          | zero => intro i _ hd; exact absurd hd (Nat.not_lt_zero _)
          | succ d ih103 =>
            intro i hi hdi  H locs ls hW hS hl
            refine lv_iload cx.1 cx.2.1 dX5_mark_103 (lv_at hl 5 rfl) ?_
            refine lv_aload_n cx.1 cx.2.1 dX5_mark_105 rfl (lv_at hl 0 rfl) ?_
            refine gf_X5_66 cx hW (by decide) dX5_mark_106 ?_
            refine tp_i (y := nI k) (by rw [nm_gi]; exact (by rw [th_gi _ _ _ _ _ (by decide)]; exact hk)) ?_
            refine lv_icmp_ge (tgt := 181) cx.1 cx.2.1 dX5_mark_109 (by decide) (fun h109 => ?_) (fun h109 => ?_)
            · skip
              have h109 : k ≤ i := (nI_leI (by omega) (by omega)).mp h109
              have e103 : i = k := by omega
              try rw [e103] at hl
              try rw [e103] at hW
              refine lv_aload_n cx.1 cx.2.1 dX5_mark_181 rfl (lv_at hl 0 rfl) ?_
              refine gf_X5_26 cx hW (by decide) dX5_mark_182 ?_
              refine lv_iload_n cx.1 cx.2.1 dX5_mark_185 rfl (lv_at hl 1 rfl) ?_
              refine lv_iload_n cx.1 cx.2.1 dX5_mark_186 rfl (lv_at hl 2 rfl) ?_
              refine as_26 (j := j) cx hW hS (by decide) rfl (by omega) dX5_mark_187 (fun H locs hW hS => ?_)
              refine lv_iload cx.1 cx.2.1 dX5_mark_188 (lv_at hl 4 rfl) ?_
              exact cr_i cx hr hlk hW hS (Nat.le_of_ble_eq_true rfl) (Nat.le_of_ble_eq_true rfl) dX5_mark_190 rfl rfl
            · skip
              have h109 : i < k := Nat.not_le.mp (fun q => h109 ((nI_leI (by omega) (by omega)).mpr q))
              refine lv_aload_n cx.1 cx.2.1 dX5_mark_112 rfl (lv_at hl 0 rfl) ?_
              refine gf_X5_7 cx hW (by decide) dX5_mark_113 ?_
              refine lv_iload cx.1 cx.2.1 dX5_mark_116 (lv_at hl 5 rfl) ?_
              refine lv_aload_n cx.1 cx.2.1 dX5_mark_118 rfl (lv_at hl 0 rfl) ?_
              refine gf_X5_7 cx hW (by decide) dX5_mark_119 ?_
              refine lv_iload cx.1 cx.2.1 dX5_mark_122 (lv_at hl 5 rfl) ?_
              refine al_21 (j := i) cx hW (by decide) rfl (by omega) dX5_mark_124 ?_
              refine lv_lload_n cx.1 cx.2.1 dX5_mark_125 rfl (lv_at hl 3 rfl) ?_
              refine lv_aload_n cx.1 cx.2.1 dX5_mark_126 rfl (lv_at hl 0 rfl) ?_
              refine gf_X5_20 cx hW (by decide) dX5_mark_127 ?_
              refine lv_bipush (v := 6) cx.1 cx.2.1 dX5_mark_130 (by decide) ?_
              refine lv_iload cx.1 cx.2.1 dX5_mark_132 (lv_at hl 5 rfl) ?_
              refine lv_imul cx.1 cx.2.1 dX5_mark_134 ?_
              refine lv_iload_n cx.1 cx.2.1 dX5_mark_135 rfl (lv_at hl 1 rfl) ?_
              refine lv_iadd cx.1 cx.2.1 dX5_mark_136 ?_
              refine al_24 (j := 6 * i + j) cx hW (by decide) (n6_ i j) (by omega) dX5_mark_137 ?_
              refine lv_i2l (v := (gi_ (nm_ (th_ a 0) j (nr_ (th_ a 0) j v) i) 24 0 (6 * i + j)).toInt64) cx.1 cx.2.1 dX5_mark_138 rfl ?_
              refine lv_lmul cx.1 cx.2.1 dX5_mark_139 ?_
              refine lv_ladd cx.1 cx.2.1 dX5_mark_140 ?_
              refine as_21 (j := i) cx hW hS (by decide) rfl (by omega) dX5_mark_141 (fun H locs hW hS => ?_)
              replace hW : Hd_ w (nm_ (th_ a 0) j (nr_ (th_ a 0) j v) (i + 1)) H := hW
              refine lv_aload_n cx.1 cx.2.1 dX5_mark_142 rfl (lv_at hl 0 rfl) ?_
              refine gf_X5_16 cx hW (by decide) dX5_mark_143 ?_
              refine lv_iload cx.1 cx.2.1 dX5_mark_146 (lv_at hl 5 rfl) ?_
              refine al_23 (j := i) cx hW (by decide) rfl (by omega) dX5_mark_148 ?_
              refine lv_if_ne (tgt := 171) cx.1 cx.2.1 dX5_mark_149 (by decide) (fun h149 => ?_) (fun h149 => ?_)
              · skip
                have hE : nb_ (th_ a 0) j (nr_ (th_ a 0) j v) (i + 1) = nb_ (th_ a 0) j (nr_ (th_ a 0) j v) i := by rw [nb_, if_neg (fun z => h149 z.1)]
                refine lv_iload cx.1 cx.2.1 dX5_mark_171 (lv_at hl 4 rfl) ?_
                refine lv_istore (lv' := [(5, .int (nb_ (th_ a 0) j (nr_ (th_ a 0) j v) i)), (0, .ref (ad_ w 20 0)), (1, .int (nI j)), (2, .int v), (3, .long (nr_ (th_ a 0) j v)), (6, .int (nI i))]) cx.1 cx.2.1 dX5_mark_173 hl (by decide) rfl (fun ls hl => ?_)
                refine lv_iinc (v := nI (i + 1)) (lv' := [(6, .int (nI (i + 1))), (5, .int (nb_ (th_ a 0) j (nr_ (th_ a 0) j v) i)), (0, .ref (ad_ w 20 0)), (1, .int (nI j)), (2, .int v), (3, .long (nr_ (th_ a 0) j v))]) cx.1 cx.2.1 dX5_mark_175 hl (k := 5) rfl (nI_inc i) (by decide) rfl (fun ls hl => ?_)
                refine lv_goto (tgt := 103) cx.1 cx.2.1 dX5_mark_178 (by decide) ?_
                exact ih103 (i + 1) (by omega) (by omega)  H locs ls hW hS (lv_sub (l' := [(0, .ref (ad_ w 20 0)), (1, .int (nI j)), (2, .int v), (3, .long (nr_ (th_ a 0) j v)), (5, .int (nb_ (th_ a 0) j (nr_ (th_ a 0) j v) (i + 1))), (6, .int (nI (i + 1)))]) hl [2, 3, 4, 5, 1, 0] (by rw [hE]; rfl))
              · skip
                refine lv_aload_n cx.1 cx.2.1 dX5_mark_152 rfl (lv_at hl 0 rfl) ?_
                refine gf_X5_7 cx hW (by decide) dX5_mark_153 ?_
                refine lv_iload cx.1 cx.2.1 dX5_mark_156 (lv_at hl 5 rfl) ?_
                refine al_21 (j := i) cx hW (by decide) rfl (by omega) dX5_mark_158 ?_
                refine lv_lconst (v := 0) cx.1 cx.2.1 dX5_mark_159 (by decide) ?_
                refine lc_ge (tgt := 171) cx.1 cx.2.1 dX5_mark_160 dX5_mark_161 (by decide) (fun h160 => ?_) (fun h160 => ?_)
                · skip
                  have hE : nb_ (th_ a 0) j (nr_ (th_ a 0) j v) (i + 1) = nb_ (th_ a 0) j (nr_ (th_ a 0) j v) i := by rw [nb_, if_neg (fun z => z.2 h160)]
                  refine lv_iload cx.1 cx.2.1 dX5_mark_171 (lv_at hl 4 rfl) ?_
                  refine lv_istore (lv' := [(5, .int (nb_ (th_ a 0) j (nr_ (th_ a 0) j v) i)), (0, .ref (ad_ w 20 0)), (1, .int (nI j)), (2, .int v), (3, .long (nr_ (th_ a 0) j v)), (6, .int (nI i))]) cx.1 cx.2.1 dX5_mark_173 hl (by decide) rfl (fun ls hl => ?_)
                  refine lv_iinc (v := nI (i + 1)) (lv' := [(6, .int (nI (i + 1))), (5, .int (nb_ (th_ a 0) j (nr_ (th_ a 0) j v) i)), (0, .ref (ad_ w 20 0)), (1, .int (nI j)), (2, .int v), (3, .long (nr_ (th_ a 0) j v))]) cx.1 cx.2.1 dX5_mark_175 hl (k := 5) rfl (nI_inc i) (by decide) rfl (fun ls hl => ?_)
                  refine lv_goto (tgt := 103) cx.1 cx.2.1 dX5_mark_178 (by decide) ?_
                  exact ih103 (i + 1) (by omega) (by omega)  H locs ls hW hS (lv_sub (l' := [(0, .ref (ad_ w 20 0)), (1, .int (nI j)), (2, .int v), (3, .long (nr_ (th_ a 0) j v)), (5, .int (nb_ (th_ a 0) j (nr_ (th_ a 0) j v) (i + 1))), (6, .int (nI (i + 1)))]) hl [2, 3, 4, 5, 1, 0] (by rw [hE]; rfl))
                · skip
                  have hE : nb_ (th_ a 0) j (nr_ (th_ a 0) j v) (i + 1) = nb_ (th_ a 0) j (nr_ (th_ a 0) j v) i + 1 := by rw [nb_, if_pos ⟨h149, h160⟩]
                  refine lv_iload cx.1 cx.2.1 dX5_mark_164 (lv_at hl 4 rfl) ?_
                  refine lv_iconst (v := 1) cx.1 cx.2.1 dX5_mark_166 (by decide) ?_
                  refine lv_iadd cx.1 cx.2.1 dX5_mark_167 ?_
                  refine lv_goto (tgt := 173) cx.1 cx.2.1 dX5_mark_168 (by decide) ?_
                  refine lv_istore (lv' := [(5, .int ((nb_ (th_ a 0) j (nr_ (th_ a 0) j v) i) + 1)), (0, .ref (ad_ w 20 0)), (1, .int (nI j)), (2, .int v), (3, .long (nr_ (th_ a 0) j v)), (6, .int (nI i))]) cx.1 cx.2.1 dX5_mark_173 hl (by decide) rfl (fun ls hl => ?_)
                  refine lv_iinc (v := nI (i + 1)) (lv' := [(6, .int (nI (i + 1))), (5, .int ((nb_ (th_ a 0) j (nr_ (th_ a 0) j v) i) + 1)), (0, .ref (ad_ w 20 0)), (1, .int (nI j)), (2, .int v), (3, .long (nr_ (th_ a 0) j v))]) cx.1 cx.2.1 dX5_mark_175 hl (k := 5) rfl (nI_inc i) (by decide) rfl (fun ls hl => ?_)
                  refine lv_goto (tgt := 103) cx.1 cx.2.1 dX5_mark_178 (by decide) ?_
                  exact ih103 (i + 1) (by omega) (by omega)  H locs ls hW hS (lv_sub (l' := [(0, .ref (ad_ w 20 0)), (1, .int (nI j)), (2, .int v), (3, .long (nr_ (th_ a 0) j v)), (5, .int (nb_ (th_ a 0) j (nr_ (th_ a 0) j v) (i + 1))), (6, .int (nI (i + 1)))]) hl [2, 3, 4, 5, 1, 0] (by rw [hE]; rfl))
        exact L103 (k - 0 + 1) 0 (by omega) (by omega)  H locs ls hW hS (lv_sub hl [2, 3, 4, 5, 1, 0] rfl)
      · skip
        have h57 : i < k := Nat.not_le.mp (fun q => h57 ((nI_leI (by omega) (by omega)).mpr q))
        refine lv_aload_n cx.1 cx.2.1 dX5_mark_60 rfl (lv_at hl 0 rfl) ?_
        refine gf_X5_7 cx hW (by decide) dX5_mark_61 ?_
        refine lv_iload cx.1 cx.2.1 dX5_mark_64 (lv_at hl 4 rfl) ?_
        refine al_21 (j := i) cx hW (by decide) rfl (by omega) dX5_mark_66 ?_
        refine lv_lload_n cx.1 cx.2.1 dX5_mark_67 rfl (lv_at hl 3 rfl) ?_
        refine lv_aload_n cx.1 cx.2.1 dX5_mark_68 rfl (lv_at hl 0 rfl) ?_
        refine gf_X5_20 cx hW (by decide) dX5_mark_69 ?_
        refine lv_bipush (v := 6) cx.1 cx.2.1 dX5_mark_72 (by decide) ?_
        refine lv_iload cx.1 cx.2.1 dX5_mark_74 (lv_at hl 4 rfl) ?_
        refine lv_imul cx.1 cx.2.1 dX5_mark_76 ?_
        refine lv_iload_n cx.1 cx.2.1 dX5_mark_77 rfl (lv_at hl 1 rfl) ?_
        refine lv_iadd cx.1 cx.2.1 dX5_mark_78 ?_
        refine al_24 (j := 6 * i + j) cx hW (by decide) (n6_ i j) (by omega) dX5_mark_79 ?_
        refine lv_i2l (v := (gi_ (th_ a 0) 24 0 (6 * i + j)).toInt64) cx.1 cx.2.1 dX5_mark_80 rfl ?_
        refine lv_lmul cx.1 cx.2.1 dX5_mark_81 ?_
        refine lv_ladd cx.1 cx.2.1 dX5_mark_82 ?_
        refine ck_S (v := some (.int (if ¬ tm_ ((gl_ (th_ a 0) 20 0 i) + ((nr_ (th_ a 0) j v) * ((gi_ (th_ a 0) 24 0 (6 * i + j)).toInt64))) then 1 else 0))) (As := [.long ((gl_ (th_ a 0) 20 0 i) + ((nr_ (th_ a 0) j v) * ((gi_ (th_ a 0) 24 0 (6 * i + j)).toInt64)))]) (rest := []) cx hW hS hl (c_X5_isFar l hI (th_ a 0) ((gl_ (th_ a 0) 20 0 i) + ((nr_ (th_ a 0) j v) * ((gi_ (th_ a 0) 24 0 (6 * i + j)).toInt64)))) cw_X5_isFar nw_418 nw_417 rfl rfl (Nat.le_of_ble_eq_true rfl) rfl rfl ⟨Nat.le_of_ble_eq_true rfl, Nat.le_of_ble_eq_true rfl⟩ ⟨Nat.le_of_ble_eq_true rfl, Nat.le_of_ble_eq_true rfl⟩ dX5_mark_83 (fun H locs hW hS => ?_)
        refine W.eq (g2 := F0 zm 86 ls [.int (if ¬ tm_ ((gl_ (th_ a 0) 20 0 i) + ((nr_ (th_ a 0) j v) * ((gi_ (th_ a 0) 24 0 (6 * i + j)).toInt64))) then 1 else 0)]) rfl ?_
        refine lv_if_eq (tgt := 91) cx.1 cx.2.1 dX5_mark_86 (by decide) (fun h86 => ?_) (fun zz => absurd (bz_f (fun z => z (he i h57))) zz)
        refine lv_iinc (v := nI (i + 1)) (lv' := [(5, .int (nI (i + 1))), (0, .ref (ad_ w 20 0)), (1, .int (nI j)), (2, .int v), (3, .long (nr_ (th_ a 0) j v))]) cx.1 cx.2.1 dX5_mark_91 hl (k := 4) rfl (nI_inc i) (by decide) rfl (fun ls hl => ?_)
        refine lv_goto (tgt := 51) cx.1 cx.2.1 dX5_mark_94 (by decide) ?_
        exact ih51 (i + 1) (by omega) (by omega)  H locs ls hW hS (lv_sub (l' := [(0, .ref (ad_ w 20 0)), (1, .int (nI j)), (2, .int v), (3, .long (nr_ (th_ a 0) j v)), (5, .int (nI (i + 1)))]) hl [1, 2, 3, 4, 0] rfl)
  exact L51 (k - 0 + 1) 0 (by omega) (by omega)  H locs ls hW hS (lv_sub hl [2, 3, 4, 1, 0] rfl)
def d1_ (p : Int64 × Int64) (t : Int64) : Int64 × Int64 := if 2 * p.2 < t then (2 * p.1, 2 * p.2) else (2 * p.1 + 1, 2 * p.2 - t)
def d2_ (p : Int64 × Int64) (y t : Int64) : Int64 × Int64 := if p.2 + y < t then (p.1, p.2 + y) else (p.1 + 1, p.2 + y - t)
abbrev db_ (x : Int64) (i : Nat) : Prop := (x >>> ((nI (63 - i) - 1).toInt64 &&& 63)) &&& 1 = 1
def dv_ (y x t : Int64) : Nat → Int64 × Int64
  | 0 => (0, 0)
  | i + 1 => if db_ x i then d2_ (d1_ (dv_ y x t i) t) y t else d1_ (dv_ y x t i) t
def dn_ (a : St_) (x t : Int64) (i : Nat) : St_ := sl_ (sl_ a 30 0 i (dv_ (gl_ a 29 0 i) x t 63).1) 31 0 i (dv_ (gl_ a 29 0 i) x t 63).2
theorem dm_lt {i : Nat} (hi : i ≤ 63) (h : nI (63 - i) - 1 < 0) : i = 63 := by
  rcases Nat.lt_or_ge i 63 with q | q
  · rw [show 63 - i = (62 - i) + 1 by omega, nI_pred] at h
    exact absurd h (nI_pos (by omega))
  · omega
theorem dm_ge {i : Nat} (hi : i ≤ 63) (h : ¬ nI (63 - i) - 1 < 0) : i < 63 := by
  rcases Nat.lt_or_ge i 63 with q | q
  · exact q
  · rw [show 63 - i = 0 by omega] at h
    exact absurd (by decide +kernel) h
theorem dm_dec {i : Nat} (hi : i < 63) : (nI (63 - i) - 1) + Int32.ofInt (-1) = nI (63 - (i + 1)) - 1 := by
  rw [show 63 - i = (63 - (i + 1)) + 1 by omega, nI_pred, litm1]
  simp only [Int32.sub_eq_add_neg]
set_option maxHeartbeats 4000000 in
set_option maxRecDepth 100000 in
theorem c_X5_divide (l : Launch) {w : Gh_} (hI : In_ w) (a : St_) (m : Nat) (hm : m < 8) (x t : Int64) : Fn_ l w yX5_divide (.code yX5_divide cX5_divide 11 none) { frames := 0, cells := 0, slots := 0, locals := 0 } 0 0 [.ref (ad_ w 20 0), .int (nI m), .long x, .long t] a (.inl none) (dn_ a x t m) := by
  refine Fn_of hI (by decide +kernel) (Nat.le_of_ble_eq_true rfl) ?_
  intro zp ze zs zm zb zt zc ls cx hr hlk hno hW hS hl
  replace cx : Cx_ zp zs zm zc _ cX5_divide 11 "MarginHouseModel" w := cx
  replace hl : lv_has ls 11 [(0, .ref (ad_ w 20 0)), (1, .int (nI m)), (2, .long x), (4, .long t)] := hl
  obtain ⟨H, hH⟩ : ∃ H, zs.heap = H := ⟨_, rfl⟩
  rw [hH] at hW
  have hS : Fr_ w zs.heap H [] := by rw [← hH]; exact hS
  obtain ⟨locs, hlocs⟩ : ∃ x : List Loc, x = [] := ⟨_, rfl⟩
  rw [← hlocs] at hS ⊢
  rw [show W zp l ze _ zs zm _ zb zt zc zs.heap locs 0 0 _ (F0 zm 0 ls []) ↔ W zp l ze _ zs zm _ zb zt zc H locs 0 0 _ (F0 zm 0 ls []) from by rw [hH]]
  refine lv_lconst (v := 0) cx.1 cx.2.1 dX5_divide_0 (by decide) ?_
  refine lv_lstore (lv' := [(6, .long 0), (0, .ref (ad_ w 20 0)), (1, .int (nI m)), (2, .long x), (4, .long t)]) cx.1 cx.2.1 dX5_divide_1 hl (by decide) rfl (fun ls hl => ?_)
  refine lv_lconst (v := 0) cx.1 cx.2.1 dX5_divide_3 (by decide) ?_
  refine lv_lstore (lv' := [(8, .long 0), (6, .long 0), (0, .ref (ad_ w 20 0)), (1, .int (nI m)), (2, .long x), (4, .long t)]) cx.1 cx.2.1 dX5_divide_4 hl (by decide) rfl (fun ls hl => ?_)
  refine lv_bipush (v := 62) cx.1 cx.2.1 dX5_divide_6 (by decide) ?_
  refine tp_i (y := nI (63 - 0) - 1) (by decide +kernel) ?_
  refine lv_istore (lv' := [(10, .int (nI (63 - 0) - 1)), (8, .long 0), (6, .long 0), (0, .ref (ad_ w 20 0)), (1, .int (nI m)), (2, .long x), (4, .long t)]) cx.1 cx.2.1 dX5_divide_8 hl (by decide) rfl (fun ls hl => ?_)
  have L10 : ∀ (d i : Nat), i ≤ 63 → 63 - i < d → ∀ (H : Heap) (locs : List Loc) (ls : Array Slot), Hd_ w a H → Fr_ w zs.heap H locs → lv_has ls 11 [(0, .ref (ad_ w 20 0)), (1, .int (nI m)), (2, .long x), (4, .long t), (6, .long ((dv_ (gl_ a 29 0 m) x t i).1)), (8, .long ((dv_ (gl_ a 29 0 m) x t i).2)), (10, .int (nI (63 - i) - 1))] → W zp l ze { frames := 0, cells := 0, slots := 0, locals := 0 } zs zm ([.ref (ad_ w 20 0), .int (nI m), .long x, .long t] : List Value).toArray zb zt zc H locs 0 0 (vx_MQ zb (Qc_ w (.inl none) (dn_ a x t m)) (XC_ w (.inl none) (dn_ a x t m)) ([.ref (ad_ w 20 0), .int (nI m), .long x, .long t] : List Value).toArray zs 0 0 (fun q => lo_ w ≤ q)) (F0 zm 10 ls []) := by
    intro d
    induction d with
    | zero => intro i _ hd; exact absurd hd (Nat.not_lt_zero _)
    | succ d ih10 =>
      intro i hi hdi  H locs ls hW hS hl
      refine lv_iload cx.1 cx.2.1 dX5_divide_10 (lv_at hl 6 rfl) ?_
      refine lv_if_lt (tgt := 101) cx.1 cx.2.1 dX5_divide_12 (by decide) (fun h12 => ?_) (fun h12 => ?_)
      · skip
        have e10 : i = 63 := dm_lt hi h12
        rw [e10] at hl
        skip
        refine lv_aload_n cx.1 cx.2.1 dX5_divide_101 rfl (lv_at hl 0 rfl) ?_
        refine gf_X5_56 cx hW (by decide) dX5_divide_102 ?_
        refine lv_iload_n cx.1 cx.2.1 dX5_divide_105 rfl (lv_at hl 1 rfl) ?_
        refine lv_lload cx.1 cx.2.1 dX5_divide_106 (lv_at hl 4 rfl) ?_
        refine as_36 (j := m) cx hW hS (by decide) rfl (by omega) dX5_divide_108 (fun H locs hW hS => ?_)
        refine lv_aload_n cx.1 cx.2.1 dX5_divide_109 rfl (lv_at hl 0 rfl) ?_
        refine gf_X5_59 cx hW (by decide) dX5_divide_110 ?_
        refine lv_iload_n cx.1 cx.2.1 dX5_divide_113 rfl (lv_at hl 1 rfl) ?_
        refine lv_lload cx.1 cx.2.1 dX5_divide_114 (lv_at hl 5 rfl) ?_
        refine as_37 (j := m) cx hW hS (by decide) rfl (by omega) dX5_divide_116 (fun H locs hW hS => ?_)
        exact cr_v cx hr hlk hW hS (Nat.le_of_ble_eq_true rfl) (Nat.le_of_ble_eq_true rfl) dX5_divide_117 rfl rfl
      · skip
        have h12 : i < 63 := dm_ge hi h12
        refine lv_ldc2 (own := "MarginHouseModel") (v := 2) cx.1 cx.2.1 cx.2.2.2.1 (cx.2.2.2.2.1 _ nw_500) dX5_divide_15 ?_
        refine lv_lload cx.1 cx.2.1 dX5_divide_18 (lv_at hl 4 rfl) ?_
        refine lv_lmul cx.1 cx.2.1 dX5_divide_20 ?_
        refine lv_lstore (lv' := [(6, .long (2 * ((dv_ (gl_ a 29 0 m) x t i).1))), (0, .ref (ad_ w 20 0)), (1, .int (nI m)), (2, .long x), (4, .long t), (8, .long ((dv_ (gl_ a 29 0 m) x t i).2)), (10, .int (nI (63 - i) - 1))]) cx.1 cx.2.1 dX5_divide_21 hl (by decide) rfl (fun ls hl => ?_)
        refine lv_ldc2 (own := "MarginHouseModel") (v := 2) cx.1 cx.2.1 cx.2.2.2.1 (cx.2.2.2.2.1 _ nw_500) dX5_divide_23 ?_
        refine lv_lload cx.1 cx.2.1 dX5_divide_26 (lv_at hl 5 rfl) ?_
        refine lv_lmul cx.1 cx.2.1 dX5_divide_28 ?_
        refine lv_lstore (lv' := [(8, .long (2 * ((dv_ (gl_ a 29 0 m) x t i).2))), (6, .long (2 * ((dv_ (gl_ a 29 0 m) x t i).1))), (0, .ref (ad_ w 20 0)), (1, .int (nI m)), (2, .long x), (4, .long t), (10, .int (nI (63 - i) - 1))]) cx.1 cx.2.1 dX5_divide_29 hl (by decide) rfl (fun ls hl => ?_)
        refine lv_lload cx.1 cx.2.1 dX5_divide_31 (lv_at hl 0 rfl) ?_
        refine lv_lload cx.1 cx.2.1 dX5_divide_33 (lv_at hl 5 rfl) ?_
        refine lc_lt (tgt := 52) cx.1 cx.2.1 dX5_divide_35 dX5_divide_36 (by decide) (fun h35 => ?_) (fun h35 => ?_)
        · skip
          skip
          have eD : ((2 * ((dv_ (gl_ a 29 0 m) x t i).1) : Int64), (2 * ((dv_ (gl_ a 29 0 m) x t i).2) : Int64)) = d1_ (dv_ (gl_ a 29 0 m) x t i) t := (by rw [d1_, if_pos h35])
          replace hl : lv_has ls 11 [(8, .long ((d1_ (dv_ (gl_ a 29 0 m) x t i) t).2)), (6, .long ((d1_ (dv_ (gl_ a 29 0 m) x t i) t).1)), (0, .ref (ad_ w 20 0)), (1, .int (nI m)), (2, .long x), (4, .long t), (10, .int (nI (63 - i) - 1))] := lv_sub hl [0, 1, 2, 3, 4, 5, 6] (by rw [← eD]; rfl)
          refine lv_lload_n cx.1 cx.2.1 dX5_divide_52 rfl (lv_at hl 4 rfl) ?_
          refine lv_iload cx.1 cx.2.1 dX5_divide_53 (lv_at hl 6 rfl) ?_
          refine lv_lshr (v := x >>> ((nI (63 - i) - 1).toInt64 &&& 63)) cx.1 cx.2.1 dX5_divide_55 rfl ?_
          refine lv_lconst (v := 1) cx.1 cx.2.1 dX5_divide_56 (by decide) ?_
          refine lv_land cx.1 cx.2.1 dX5_divide_57 ?_
          refine lv_lconst (v := 1) cx.1 cx.2.1 dX5_divide_58 (by decide) ?_
          refine lc_ne (tgt := 95) cx.1 cx.2.1 dX5_divide_59 dX5_divide_60 (by decide) (fun h59 => ?_) (fun h59 => ?_)
          · skip
            skip
            have hE : dv_ (gl_ a 29 0 m) x t (i + 1) = d1_ (dv_ (gl_ a 29 0 m) x t i) t := by rw [dv_, if_neg h59]
            skip
            refine lv_iinc (v := nI (63 - (i + 1)) - 1) (lv' := [(10, .int (nI (63 - (i + 1)) - 1)), (8, .long ((d1_ (dv_ (gl_ a 29 0 m) x t i) t).2)), (6, .long ((d1_ (dv_ (gl_ a 29 0 m) x t i) t).1)), (0, .ref (ad_ w 20 0)), (1, .int (nI m)), (2, .long x), (4, .long t)]) cx.1 cx.2.1 dX5_divide_95 hl (k := 6) rfl (dm_dec h12) (by decide) rfl (fun ls hl => ?_)
            refine lv_goto (tgt := 10) cx.1 cx.2.1 dX5_divide_98 (by decide) ?_
            exact ih10 (i + 1) (by omega) (by omega)  H locs ls hW hS (lv_sub (l' := [(0, .ref (ad_ w 20 0)), (1, .int (nI m)), (2, .long x), (4, .long t), (6, .long ((dv_ (gl_ a 29 0 m) x t (i + 1)).1)), (8, .long ((dv_ (gl_ a 29 0 m) x t (i + 1)).2)), (10, .int (nI (63 - (i + 1)) - 1))]) hl [3, 4, 5, 6, 2, 1, 0] (by rw [hE]; rfl))
          · skip
            refine lv_lload cx.1 cx.2.1 dX5_divide_63 (lv_at hl 0 rfl) ?_
            refine lv_aload_n cx.1 cx.2.1 dX5_divide_65 rfl (lv_at hl 2 rfl) ?_
            refine gf_X5_53 cx hW (by decide) dX5_divide_66 ?_
            refine lv_iload_n cx.1 cx.2.1 dX5_divide_69 rfl (lv_at hl 3 rfl) ?_
            refine al_35 (j := m) cx hW (by decide) rfl (by omega) dX5_divide_70 ?_
            refine lv_ladd cx.1 cx.2.1 dX5_divide_71 ?_
            refine lv_lstore (lv' := [(8, .long (((d1_ (dv_ (gl_ a 29 0 m) x t i) t).2) + (gl_ a 29 0 m))), (6, .long ((d1_ (dv_ (gl_ a 29 0 m) x t i) t).1)), (0, .ref (ad_ w 20 0)), (1, .int (nI m)), (2, .long x), (4, .long t), (10, .int (nI (63 - i) - 1))]) cx.1 cx.2.1 dX5_divide_72 hl (by decide) rfl (fun ls hl => ?_)
            refine lv_lload cx.1 cx.2.1 dX5_divide_74 (lv_at hl 0 rfl) ?_
            refine lv_lload cx.1 cx.2.1 dX5_divide_76 (lv_at hl 5 rfl) ?_
            refine lc_lt (tgt := 95) cx.1 cx.2.1 dX5_divide_78 dX5_divide_79 (by decide) (fun h78 => ?_) (fun h78 => ?_)
            · skip
              skip
              have eD : (((d1_ (dv_ (gl_ a 29 0 m) x t i) t).1 : Int64), (((d1_ (dv_ (gl_ a 29 0 m) x t i) t).2) + (gl_ a 29 0 m) : Int64)) = d2_ (d1_ (dv_ (gl_ a 29 0 m) x t i) t) (gl_ a 29 0 m) t := (by rw [d2_, if_pos h78])
              replace hl : lv_has ls 11 [(8, .long ((d2_ (d1_ (dv_ (gl_ a 29 0 m) x t i) t) (gl_ a 29 0 m) t).2)), (6, .long ((d2_ (d1_ (dv_ (gl_ a 29 0 m) x t i) t) (gl_ a 29 0 m) t).1)), (0, .ref (ad_ w 20 0)), (1, .int (nI m)), (2, .long x), (4, .long t), (10, .int (nI (63 - i) - 1))] := lv_sub hl [0, 1, 2, 3, 4, 5, 6] (by rw [← eD]; rfl)
              have hE : dv_ (gl_ a 29 0 m) x t (i + 1) = d2_ (d1_ (dv_ (gl_ a 29 0 m) x t i) t) (gl_ a 29 0 m) t := by rw [dv_, if_pos h59]
              refine lv_iinc (v := nI (63 - (i + 1)) - 1) (lv' := [(10, .int (nI (63 - (i + 1)) - 1)), (8, .long ((d2_ (d1_ (dv_ (gl_ a 29 0 m) x t i) t) (gl_ a 29 0 m) t).2)), (6, .long ((d2_ (d1_ (dv_ (gl_ a 29 0 m) x t i) t) (gl_ a 29 0 m) t).1)), (0, .ref (ad_ w 20 0)), (1, .int (nI m)), (2, .long x), (4, .long t)]) cx.1 cx.2.1 dX5_divide_95 hl (k := 6) rfl (dm_dec h12) (by decide) rfl (fun ls hl => ?_)
              refine lv_goto (tgt := 10) cx.1 cx.2.1 dX5_divide_98 (by decide) ?_
              exact ih10 (i + 1) (by omega) (by omega)  H locs ls hW hS (lv_sub (l' := [(0, .ref (ad_ w 20 0)), (1, .int (nI m)), (2, .long x), (4, .long t), (6, .long ((dv_ (gl_ a 29 0 m) x t (i + 1)).1)), (8, .long ((dv_ (gl_ a 29 0 m) x t (i + 1)).2)), (10, .int (nI (63 - (i + 1)) - 1))]) hl [3, 4, 5, 6, 2, 1, 0] (by rw [hE]; rfl))
            · skip
              skip
              refine lv_lload cx.1 cx.2.1 dX5_divide_82 (lv_at hl 0 rfl) ?_
              refine lv_lload cx.1 cx.2.1 dX5_divide_84 (lv_at hl 5 rfl) ?_
              refine lv_lsub cx.1 cx.2.1 dX5_divide_86 ?_
              refine lv_lstore (lv' := [(8, .long ((((d1_ (dv_ (gl_ a 29 0 m) x t i) t).2) + (gl_ a 29 0 m)) - t)), (6, .long ((d1_ (dv_ (gl_ a 29 0 m) x t i) t).1)), (0, .ref (ad_ w 20 0)), (1, .int (nI m)), (2, .long x), (4, .long t), (10, .int (nI (63 - i) - 1))]) cx.1 cx.2.1 dX5_divide_87 hl (by decide) rfl (fun ls hl => ?_)
              refine lv_lload cx.1 cx.2.1 dX5_divide_89 (lv_at hl 1 rfl) ?_
              refine lv_lconst (v := 1) cx.1 cx.2.1 dX5_divide_91 (by decide) ?_
              refine lv_ladd cx.1 cx.2.1 dX5_divide_92 ?_
              refine lv_lstore (lv' := [(6, .long (((d1_ (dv_ (gl_ a 29 0 m) x t i) t).1) + 1)), (8, .long ((((d1_ (dv_ (gl_ a 29 0 m) x t i) t).2) + (gl_ a 29 0 m)) - t)), (0, .ref (ad_ w 20 0)), (1, .int (nI m)), (2, .long x), (4, .long t), (10, .int (nI (63 - i) - 1))]) cx.1 cx.2.1 dX5_divide_93 hl (by decide) rfl (fun ls hl => ?_)
              have eD : ((((d1_ (dv_ (gl_ a 29 0 m) x t i) t).1) + 1 : Int64), ((((d1_ (dv_ (gl_ a 29 0 m) x t i) t).2) + (gl_ a 29 0 m)) - t : Int64)) = d2_ (d1_ (dv_ (gl_ a 29 0 m) x t i) t) (gl_ a 29 0 m) t := (by rw [d2_, if_neg h78])
              replace hl : lv_has ls 11 [(6, .long ((d2_ (d1_ (dv_ (gl_ a 29 0 m) x t i) t) (gl_ a 29 0 m) t).1)), (8, .long ((d2_ (d1_ (dv_ (gl_ a 29 0 m) x t i) t) (gl_ a 29 0 m) t).2)), (0, .ref (ad_ w 20 0)), (1, .int (nI m)), (2, .long x), (4, .long t), (10, .int (nI (63 - i) - 1))] := lv_sub hl [0, 1, 2, 3, 4, 5, 6] (by rw [← eD]; rfl)
              have hE : dv_ (gl_ a 29 0 m) x t (i + 1) = d2_ (d1_ (dv_ (gl_ a 29 0 m) x t i) t) (gl_ a 29 0 m) t := by rw [dv_, if_pos h59]
              refine lv_iinc (v := nI (63 - (i + 1)) - 1) (lv' := [(10, .int (nI (63 - (i + 1)) - 1)), (6, .long ((d2_ (d1_ (dv_ (gl_ a 29 0 m) x t i) t) (gl_ a 29 0 m) t).1)), (8, .long ((d2_ (d1_ (dv_ (gl_ a 29 0 m) x t i) t) (gl_ a 29 0 m) t).2)), (0, .ref (ad_ w 20 0)), (1, .int (nI m)), (2, .long x), (4, .long t)]) cx.1 cx.2.1 dX5_divide_95 hl (k := 6) rfl (dm_dec h12) (by decide) rfl (fun ls hl => ?_)
              refine lv_goto (tgt := 10) cx.1 cx.2.1 dX5_divide_98 (by decide) ?_
              exact ih10 (i + 1) (by omega) (by omega)  H locs ls hW hS (lv_sub (l' := [(0, .ref (ad_ w 20 0)), (1, .int (nI m)), (2, .long x), (4, .long t), (6, .long ((dv_ (gl_ a 29 0 m) x t (i + 1)).1)), (8, .long ((dv_ (gl_ a 29 0 m) x t (i + 1)).2)), (10, .int (nI (63 - (i + 1)) - 1))]) hl [3, 4, 5, 6, 1, 2, 0] (by rw [hE]; rfl))
        · skip
          skip
          refine lv_lload cx.1 cx.2.1 dX5_divide_39 (lv_at hl 0 rfl) ?_
          refine lv_lload cx.1 cx.2.1 dX5_divide_41 (lv_at hl 5 rfl) ?_
          refine lv_lsub cx.1 cx.2.1 dX5_divide_43 ?_
          refine lv_lstore (lv' := [(8, .long ((2 * ((dv_ (gl_ a 29 0 m) x t i).2)) - t)), (6, .long (2 * ((dv_ (gl_ a 29 0 m) x t i).1))), (0, .ref (ad_ w 20 0)), (1, .int (nI m)), (2, .long x), (4, .long t), (10, .int (nI (63 - i) - 1))]) cx.1 cx.2.1 dX5_divide_44 hl (by decide) rfl (fun ls hl => ?_)
          refine lv_lload cx.1 cx.2.1 dX5_divide_46 (lv_at hl 1 rfl) ?_
          refine lv_lconst (v := 1) cx.1 cx.2.1 dX5_divide_48 (by decide) ?_
          refine lv_ladd cx.1 cx.2.1 dX5_divide_49 ?_
          refine lv_lstore (lv' := [(6, .long ((2 * ((dv_ (gl_ a 29 0 m) x t i).1)) + 1)), (8, .long ((2 * ((dv_ (gl_ a 29 0 m) x t i).2)) - t)), (0, .ref (ad_ w 20 0)), (1, .int (nI m)), (2, .long x), (4, .long t), (10, .int (nI (63 - i) - 1))]) cx.1 cx.2.1 dX5_divide_50 hl (by decide) rfl (fun ls hl => ?_)
          have eD : (((2 * ((dv_ (gl_ a 29 0 m) x t i).1)) + 1 : Int64), ((2 * ((dv_ (gl_ a 29 0 m) x t i).2)) - t : Int64)) = d1_ (dv_ (gl_ a 29 0 m) x t i) t := (by rw [d1_, if_neg h35])
          replace hl : lv_has ls 11 [(6, .long ((d1_ (dv_ (gl_ a 29 0 m) x t i) t).1)), (8, .long ((d1_ (dv_ (gl_ a 29 0 m) x t i) t).2)), (0, .ref (ad_ w 20 0)), (1, .int (nI m)), (2, .long x), (4, .long t), (10, .int (nI (63 - i) - 1))] := lv_sub hl [0, 1, 2, 3, 4, 5, 6] (by rw [← eD]; rfl)
          refine lv_lload_n cx.1 cx.2.1 dX5_divide_52 rfl (lv_at hl 4 rfl) ?_
          refine lv_iload cx.1 cx.2.1 dX5_divide_53 (lv_at hl 6 rfl) ?_
          refine lv_lshr (v := x >>> ((nI (63 - i) - 1).toInt64 &&& 63)) cx.1 cx.2.1 dX5_divide_55 rfl ?_
          refine lv_lconst (v := 1) cx.1 cx.2.1 dX5_divide_56 (by decide) ?_
          refine lv_land cx.1 cx.2.1 dX5_divide_57 ?_
          refine lv_lconst (v := 1) cx.1 cx.2.1 dX5_divide_58 (by decide) ?_
          refine lc_ne (tgt := 95) cx.1 cx.2.1 dX5_divide_59 dX5_divide_60 (by decide) (fun h59 => ?_) (fun h59 => ?_)
          · skip
            skip
            have hE : dv_ (gl_ a 29 0 m) x t (i + 1) = d1_ (dv_ (gl_ a 29 0 m) x t i) t := by rw [dv_, if_neg h59]
            skip
            refine lv_iinc (v := nI (63 - (i + 1)) - 1) (lv' := [(10, .int (nI (63 - (i + 1)) - 1)), (6, .long ((d1_ (dv_ (gl_ a 29 0 m) x t i) t).1)), (8, .long ((d1_ (dv_ (gl_ a 29 0 m) x t i) t).2)), (0, .ref (ad_ w 20 0)), (1, .int (nI m)), (2, .long x), (4, .long t)]) cx.1 cx.2.1 dX5_divide_95 hl (k := 6) rfl (dm_dec h12) (by decide) rfl (fun ls hl => ?_)
            refine lv_goto (tgt := 10) cx.1 cx.2.1 dX5_divide_98 (by decide) ?_
            exact ih10 (i + 1) (by omega) (by omega)  H locs ls hW hS (lv_sub (l' := [(0, .ref (ad_ w 20 0)), (1, .int (nI m)), (2, .long x), (4, .long t), (6, .long ((dv_ (gl_ a 29 0 m) x t (i + 1)).1)), (8, .long ((dv_ (gl_ a 29 0 m) x t (i + 1)).2)), (10, .int (nI (63 - (i + 1)) - 1))]) hl [3, 4, 5, 6, 1, 2, 0] (by rw [hE]; rfl))
          · skip
            refine lv_lload cx.1 cx.2.1 dX5_divide_63 (lv_at hl 1 rfl) ?_
            refine lv_aload_n cx.1 cx.2.1 dX5_divide_65 rfl (lv_at hl 2 rfl) ?_
            refine gf_X5_53 cx hW (by decide) dX5_divide_66 ?_
            refine lv_iload_n cx.1 cx.2.1 dX5_divide_69 rfl (lv_at hl 3 rfl) ?_
            refine al_35 (j := m) cx hW (by decide) rfl (by omega) dX5_divide_70 ?_
            refine lv_ladd cx.1 cx.2.1 dX5_divide_71 ?_
            refine lv_lstore (lv' := [(8, .long (((d1_ (dv_ (gl_ a 29 0 m) x t i) t).2) + (gl_ a 29 0 m))), (6, .long ((d1_ (dv_ (gl_ a 29 0 m) x t i) t).1)), (0, .ref (ad_ w 20 0)), (1, .int (nI m)), (2, .long x), (4, .long t), (10, .int (nI (63 - i) - 1))]) cx.1 cx.2.1 dX5_divide_72 hl (by decide) rfl (fun ls hl => ?_)
            refine lv_lload cx.1 cx.2.1 dX5_divide_74 (lv_at hl 0 rfl) ?_
            refine lv_lload cx.1 cx.2.1 dX5_divide_76 (lv_at hl 5 rfl) ?_
            refine lc_lt (tgt := 95) cx.1 cx.2.1 dX5_divide_78 dX5_divide_79 (by decide) (fun h78 => ?_) (fun h78 => ?_)
            · skip
              skip
              have eD : (((d1_ (dv_ (gl_ a 29 0 m) x t i) t).1 : Int64), (((d1_ (dv_ (gl_ a 29 0 m) x t i) t).2) + (gl_ a 29 0 m) : Int64)) = d2_ (d1_ (dv_ (gl_ a 29 0 m) x t i) t) (gl_ a 29 0 m) t := (by rw [d2_, if_pos h78])
              replace hl : lv_has ls 11 [(8, .long ((d2_ (d1_ (dv_ (gl_ a 29 0 m) x t i) t) (gl_ a 29 0 m) t).2)), (6, .long ((d2_ (d1_ (dv_ (gl_ a 29 0 m) x t i) t) (gl_ a 29 0 m) t).1)), (0, .ref (ad_ w 20 0)), (1, .int (nI m)), (2, .long x), (4, .long t), (10, .int (nI (63 - i) - 1))] := lv_sub hl [0, 1, 2, 3, 4, 5, 6] (by rw [← eD]; rfl)
              have hE : dv_ (gl_ a 29 0 m) x t (i + 1) = d2_ (d1_ (dv_ (gl_ a 29 0 m) x t i) t) (gl_ a 29 0 m) t := by rw [dv_, if_pos h59]
              refine lv_iinc (v := nI (63 - (i + 1)) - 1) (lv' := [(10, .int (nI (63 - (i + 1)) - 1)), (8, .long ((d2_ (d1_ (dv_ (gl_ a 29 0 m) x t i) t) (gl_ a 29 0 m) t).2)), (6, .long ((d2_ (d1_ (dv_ (gl_ a 29 0 m) x t i) t) (gl_ a 29 0 m) t).1)), (0, .ref (ad_ w 20 0)), (1, .int (nI m)), (2, .long x), (4, .long t)]) cx.1 cx.2.1 dX5_divide_95 hl (k := 6) rfl (dm_dec h12) (by decide) rfl (fun ls hl => ?_)
              refine lv_goto (tgt := 10) cx.1 cx.2.1 dX5_divide_98 (by decide) ?_
              exact ih10 (i + 1) (by omega) (by omega)  H locs ls hW hS (lv_sub (l' := [(0, .ref (ad_ w 20 0)), (1, .int (nI m)), (2, .long x), (4, .long t), (6, .long ((dv_ (gl_ a 29 0 m) x t (i + 1)).1)), (8, .long ((dv_ (gl_ a 29 0 m) x t (i + 1)).2)), (10, .int (nI (63 - (i + 1)) - 1))]) hl [3, 4, 5, 6, 2, 1, 0] (by rw [hE]; rfl))
            · skip
              skip
              refine lv_lload cx.1 cx.2.1 dX5_divide_82 (lv_at hl 0 rfl) ?_
              refine lv_lload cx.1 cx.2.1 dX5_divide_84 (lv_at hl 5 rfl) ?_
              refine lv_lsub cx.1 cx.2.1 dX5_divide_86 ?_
              refine lv_lstore (lv' := [(8, .long ((((d1_ (dv_ (gl_ a 29 0 m) x t i) t).2) + (gl_ a 29 0 m)) - t)), (6, .long ((d1_ (dv_ (gl_ a 29 0 m) x t i) t).1)), (0, .ref (ad_ w 20 0)), (1, .int (nI m)), (2, .long x), (4, .long t), (10, .int (nI (63 - i) - 1))]) cx.1 cx.2.1 dX5_divide_87 hl (by decide) rfl (fun ls hl => ?_)
              refine lv_lload cx.1 cx.2.1 dX5_divide_89 (lv_at hl 1 rfl) ?_
              refine lv_lconst (v := 1) cx.1 cx.2.1 dX5_divide_91 (by decide) ?_
              refine lv_ladd cx.1 cx.2.1 dX5_divide_92 ?_
              refine lv_lstore (lv' := [(6, .long (((d1_ (dv_ (gl_ a 29 0 m) x t i) t).1) + 1)), (8, .long ((((d1_ (dv_ (gl_ a 29 0 m) x t i) t).2) + (gl_ a 29 0 m)) - t)), (0, .ref (ad_ w 20 0)), (1, .int (nI m)), (2, .long x), (4, .long t), (10, .int (nI (63 - i) - 1))]) cx.1 cx.2.1 dX5_divide_93 hl (by decide) rfl (fun ls hl => ?_)
              have eD : ((((d1_ (dv_ (gl_ a 29 0 m) x t i) t).1) + 1 : Int64), ((((d1_ (dv_ (gl_ a 29 0 m) x t i) t).2) + (gl_ a 29 0 m)) - t : Int64)) = d2_ (d1_ (dv_ (gl_ a 29 0 m) x t i) t) (gl_ a 29 0 m) t := (by rw [d2_, if_neg h78])
              replace hl : lv_has ls 11 [(6, .long ((d2_ (d1_ (dv_ (gl_ a 29 0 m) x t i) t) (gl_ a 29 0 m) t).1)), (8, .long ((d2_ (d1_ (dv_ (gl_ a 29 0 m) x t i) t) (gl_ a 29 0 m) t).2)), (0, .ref (ad_ w 20 0)), (1, .int (nI m)), (2, .long x), (4, .long t), (10, .int (nI (63 - i) - 1))] := lv_sub hl [0, 1, 2, 3, 4, 5, 6] (by rw [← eD]; rfl)
              have hE : dv_ (gl_ a 29 0 m) x t (i + 1) = d2_ (d1_ (dv_ (gl_ a 29 0 m) x t i) t) (gl_ a 29 0 m) t := by rw [dv_, if_pos h59]
              refine lv_iinc (v := nI (63 - (i + 1)) - 1) (lv' := [(10, .int (nI (63 - (i + 1)) - 1)), (6, .long ((d2_ (d1_ (dv_ (gl_ a 29 0 m) x t i) t) (gl_ a 29 0 m) t).1)), (8, .long ((d2_ (d1_ (dv_ (gl_ a 29 0 m) x t i) t) (gl_ a 29 0 m) t).2)), (0, .ref (ad_ w 20 0)), (1, .int (nI m)), (2, .long x), (4, .long t)]) cx.1 cx.2.1 dX5_divide_95 hl (k := 6) rfl (dm_dec h12) (by decide) rfl (fun ls hl => ?_)
              refine lv_goto (tgt := 10) cx.1 cx.2.1 dX5_divide_98 (by decide) ?_
              exact ih10 (i + 1) (by omega) (by omega)  H locs ls hW hS (lv_sub (l' := [(0, .ref (ad_ w 20 0)), (1, .int (nI m)), (2, .long x), (4, .long t), (6, .long ((dv_ (gl_ a 29 0 m) x t (i + 1)).1)), (8, .long ((dv_ (gl_ a 29 0 m) x t (i + 1)).2)), (10, .int (nI (63 - (i + 1)) - 1))]) hl [3, 4, 5, 6, 1, 2, 0] (by rw [hE]; rfl))
  exact L10 (63 - 0 + 1) 0 (by omega) (by omega)  H locs ls hW hS (lv_sub hl [3, 4, 5, 6, 2, 1, 0] rfl)
