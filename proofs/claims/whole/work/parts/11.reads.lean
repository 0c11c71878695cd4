/-! MarginHouse: what it reads: losses, margins, sums, the least bidder -/
def ls_ (a : St_) (v m : Nat) : Nat → Int64
  | 0 => 0
  | i + 1 => ls_ a v m i + (gi_ a 4 m i).toInt64 * (gi_ a 9 v i).toInt64
set_option maxHeartbeats 4000000 in
set_option maxRecDepth 100000 in
theorem c_X4_lossUnder (l : Launch) {w : Gh_} (hI : In_ w) (a : St_) (n : Nat) (hn : gi_ a 1 0 0 = nI n) (hn6 : n ≤ 6) (v m : Nat) (hv : v < 8) (hm : m < 8) : Fn_ l w yX4_lossUnder (.code yX4_lossUnder cX4_lossUnder 6 (some .long)) { frames := 0, cells := 0, slots := 0, locals := 0 } 0 0 [.ref (ad_ w 0 0), .ref (ad_ w 10 v), .ref (ad_ w 6 m)] a (.inl (some (.long (-(ls_ a v m n))))) a := by
  refine Fn_of hI (by decide +kernel) (Nat.le_of_ble_eq_true rfl) ?_
  intro zp ze zs zm zb zt zc ls cx hr hlk hno hW hS hl
  replace cx : Cx_ zp zs zm zc _ cX4_lossUnder 6 "MarginHouse" w := cx
  replace hl : lv_has ls 6 [(0, .ref (ad_ w 0 0)), (1, .ref (ad_ w 10 v)), (2, .ref (ad_ w 6 m))] := hl
  obtain ⟨H, hH⟩ : ∃ H, zs.heap = H := ⟨_, rfl⟩
  rw [hH] at hW
  have hS : Fr_ w zs.heap H [] := by rw [← hH]; exact hS
  obtain ⟨locs, hlocs⟩ : ∃ x : List Loc, x = [] := ⟨_, rfl⟩
  rw [← hlocs] at hS ⊢
  rw [show W zp l ze _ zs zm _ zb zt zc zs.heap locs 0 0 _ (F0 zm 0 ls []) ↔ W zp l ze _ zs zm _ zb zt zc H locs 0 0 _ (F0 zm 0 ls []) from by rw [hH]]
  refine lv_lconst (v := 0) cx.1 cx.2.1 dX4_lossUnder_0 (by decide) ?_
  refine lv_lstore_n (lv' := [(3, .long 0), (0, .ref (ad_ w 0 0)), (1, .ref (ad_ w 10 v)), (2, .ref (ad_ w 6 m))]) cx.1 cx.2.1 dX4_lossUnder_1 rfl hl (by decide) rfl (fun ls hl => ?_)
  refine lv_iconst (v := 0) cx.1 cx.2.1 dX4_lossUnder_2 (by decide) ?_
  refine lv_istore (lv' := [(5, .int 0), (3, .long 0), (0, .ref (ad_ w 0 0)), (1, .ref (ad_ w 10 v)), (2, .ref (ad_ w 6 m))]) cx.1 cx.2.1 dX4_lossUnder_3 hl (by decide) rfl (fun ls hl => ?_)
  have L5 : ∀ (d i : Nat), i ≤ n → n - i < d → ∀ (H : Heap) (locs : List Loc) (ls : Array Slot), Hd_ w a H → Fr_ w zs.heap H locs → lv_has ls 6 [(0, .ref (ad_ w 0 0)), (1, .ref (ad_ w 10 v)), (2, .ref (ad_ w 6 m)), (3, .long (ls_ a v m i)), (5, .int (nI i))] → W zp l ze { frames := 0, cells := 0, slots := 0, locals := 0 } zs zm ([.ref (ad_ w 0 0), .ref (ad_ w 10 v), .ref (ad_ w 6 m)] : List Value).toArray zb zt zc H locs 0 0 (vx_MQ zb (Qc_ w (.inl (some (.long (-(ls_ a v m n))))) a) (XC_ w (.inl (some (.long (-(ls_ a v m n))))) a) ([.ref (ad_ w 0 0), .ref (ad_ w 10 v), .ref (ad_ w 6 m)] : List Value).toArray zs 0 0 (fun q => lo_ w ≤ q)) (F0 zm 5 ls []) := by
    intro d
    induction d with
    | zero => intro i _ hd; exact absurd hd (Nat.not_lt_zero _)
    | succ d ih5 =>
      intro i hi hdi  H locs ls hW hS hl
      refine lv_iload cx.1 cx.2.1 dX4_lossUnder_5 (lv_at hl 4 rfl) ?_
      refine lv_aload_n cx.1 cx.2.1 dX4_lossUnder_7 rfl (lv_at hl 0 rfl) ?_
      refine gf_X4_41 cx hW (by decide) dX4_lossUnder_8 ?_
      refine tp_i (y := nI n) hn ?_
      refine lv_icmp_ge (tgt := 37) cx.1 cx.2.1 dX4_lossUnder_11 (by decide) (fun h11 => ?_) (fun h11 => ?_)
      · skip
        have h11 : n ≤ i := (nI_leI (by omega) (by omega)).mp h11
        have e5 : i = n := by omega
        try rw [e5] at hl
        try rw [e5] at hW
        refine lv_lload_n cx.1 cx.2.1 dX4_lossUnder_37 rfl (lv_at hl 3 rfl) ?_
        refine lv_lneg cx.1 cx.2.1 dX4_lossUnder_38 ?_
        exact cr_l cx hr hlk hW hS (Nat.le_of_ble_eq_true rfl) (Nat.le_of_ble_eq_true rfl) dX4_lossUnder_39 rfl rfl
      · skip
        have h11 : i < n := Nat.not_le.mp (fun q => h11 ((nI_leI (by omega) (by omega)).mpr q))
        refine lv_lload_n cx.1 cx.2.1 dX4_lossUnder_14 rfl (lv_at hl 3 rfl) ?_
        refine lv_aload_n cx.1 cx.2.1 dX4_lossUnder_15 rfl (lv_at hl 2 rfl) ?_
        refine gf_X4_114 cx hW (by omega) dX4_lossUnder_16 ?_
        refine lv_iload cx.1 cx.2.1 dX4_lossUnder_19 (lv_at hl 4 rfl) ?_
        refine al_7 (j := i) cx hW (by omega) rfl (by omega) dX4_lossUnder_21 ?_
        refine lv_i2l (v := (gi_ a 4 m i).toInt64) cx.1 cx.2.1 dX4_lossUnder_22 rfl ?_
        refine lv_aload_n cx.1 cx.2.1 dX4_lossUnder_23 rfl (lv_at hl 1 rfl) ?_
        refine lv_iload cx.1 cx.2.1 dX4_lossUnder_24 (lv_at hl 4 rfl) ?_
        refine al_10 (j := i) cx hW (by omega) rfl (by omega) dX4_lossUnder_26 ?_
        refine lv_i2l (v := (gi_ a 9 v i).toInt64) cx.1 cx.2.1 dX4_lossUnder_27 rfl ?_
        refine lv_lmul cx.1 cx.2.1 dX4_lossUnder_28 ?_
        refine lv_ladd cx.1 cx.2.1 dX4_lossUnder_29 ?_
        refine lv_lstore_n (lv' := [(3, .long ((ls_ a v m i) + (((gi_ a 4 m i).toInt64) * ((gi_ a 9 v i).toInt64)))), (0, .ref (ad_ w 0 0)), (1, .ref (ad_ w 10 v)), (2, .ref (ad_ w 6 m)), (5, .int (nI i))]) cx.1 cx.2.1 dX4_lossUnder_30 rfl hl (by decide) rfl (fun ls hl => ?_)
        refine lv_iinc (v := nI (i + 1)) (lv' := [(5, .int (nI (i + 1))), (3, .long ((ls_ a v m i) + (((gi_ a 4 m i).toInt64) * ((gi_ a 9 v i).toInt64)))), (0, .ref (ad_ w 0 0)), (1, .ref (ad_ w 10 v)), (2, .ref (ad_ w 6 m))]) cx.1 cx.2.1 dX4_lossUnder_31 hl (k := 4) rfl (nI_inc i) (by decide) rfl (fun ls hl => ?_)
        refine lv_goto (tgt := 5) cx.1 cx.2.1 dX4_lossUnder_34 (by decide) ?_
        exact ih5 (i + 1) (by omega) (by omega)  H locs ls hW hS (lv_sub (l' := [(0, .ref (ad_ w 0 0)), (1, .ref (ad_ w 10 v)), (2, .ref (ad_ w 6 m)), (3, .long (ls_ a v m (i + 1))), (5, .int (nI (i + 1)))]) hl [2, 3, 4, 1, 0] rfl)
  exact L5 (n - 0 + 1) 0 (by omega) (by omega)  H locs ls hW hS (lv_sub hl [2, 3, 4, 1, 0] rfl)
def xs_ (a : St_) (m : Nat) : Nat → Int64
  | 0 => 0
  | i + 1 => if ab_ (gi_ a 4 m i) - gi_ a 7 i 0 ≤ 0 then xs_ a m i else xs_ a m i + (ab_ (gi_ a 4 m i) - gi_ a 7 i 0).toInt64 * (gi_ a 8 i 0).toInt64
set_option maxHeartbeats 4000000 in
set_option maxRecDepth 100000 in
theorem c_X4_extraOf (l : Launch) {w : Gh_} (hI : In_ w) (a : St_) (n : Nat) (hn : gi_ a 1 0 0 = nI n) (hn6 : n ≤ 6) (m : Nat) (hm : m < 8) : Fn_ l w yX4_extraOf (.code yX4_extraOf cX4_extraOf 6 (some .long)) { frames := 1, cells := 0, slots := 0, locals := 23 } 0 0 [.ref (ad_ w 0 0), .ref (ad_ w 6 m)] a (.inl (some (.long (xs_ a m n)))) a := by
  refine Fn_of hI (by decide +kernel) (Nat.le_of_ble_eq_true rfl) ?_
  intro zp ze zs zm zb zt zc ls cx hr hlk hno hW hS hl
  replace cx : Cx_ zp zs zm zc _ cX4_extraOf 6 "MarginHouse" w := cx
  replace hl : lv_has ls 6 [(0, .ref (ad_ w 0 0)), (1, .ref (ad_ w 6 m))] := hl
  obtain ⟨H, hH⟩ : ∃ H, zs.heap = H := ⟨_, rfl⟩
  rw [hH] at hW
  have hS : Fr_ w zs.heap H [] := by rw [← hH]; exact hS
  obtain ⟨locs, hlocs⟩ : ∃ x : List Loc, x = [] := ⟨_, rfl⟩
  rw [← hlocs] at hS ⊢
  rw [show W zp l ze _ zs zm _ zb zt zc zs.heap locs 0 0 _ (F0 zm 0 ls []) ↔ W zp l ze _ zs zm _ zb zt zc H locs 0 0 _ (F0 zm 0 ls []) from by rw [hH]]
  refine lv_lconst (v := 0) cx.1 cx.2.1 dX4_extraOf_0 (by decide) ?_
  refine lv_lstore_n (lv' := [(2, .long 0), (0, .ref (ad_ w 0 0)), (1, .ref (ad_ w 6 m))]) cx.1 cx.2.1 dX4_extraOf_1 rfl hl (by decide) rfl (fun ls hl => ?_)
  refine lv_iconst (v := 0) cx.1 cx.2.1 dX4_extraOf_2 (by decide) ?_
  refine lv_istore (lv' := [(4, .int 0), (2, .long 0), (0, .ref (ad_ w 0 0)), (1, .ref (ad_ w 6 m))]) cx.1 cx.2.1 dX4_extraOf_3 hl (by decide) rfl (fun ls hl => ?_)
  have L5 : ∀ (d i : Nat), i ≤ n → n - i < d → ∀ (H : Heap) (locs : List Loc) (ls : Array Slot), Hd_ w a H → Fr_ w zs.heap H locs → lv_has ls 6 [(0, .ref (ad_ w 0 0)), (1, .ref (ad_ w 6 m)), (2, .long (xs_ a m i)), (4, .int (nI i))] → W zp l ze { frames := 1, cells := 0, slots := 0, locals := 23 } zs zm ([.ref (ad_ w 0 0), .ref (ad_ w 6 m)] : List Value).toArray zb zt zc H locs 0 0 (vx_MQ zb (Qc_ w (.inl (some (.long (xs_ a m n)))) a) (XC_ w (.inl (some (.long (xs_ a m n)))) a) ([.ref (ad_ w 0 0), .ref (ad_ w 6 m)] : List Value).toArray zs 0 0 (fun q => lo_ w ≤ q)) (F0 zm 5 ls []) := by
    intro d
    induction d with
    | zero => intro i _ hd; exact absurd hd (Nat.not_lt_zero _)
    | succ d ih5 =>
      intro i hi hdi  H locs ls hW hS hl
      refine lv_iload cx.1 cx.2.1 dX4_extraOf_5 (lv_at hl 3 rfl) ?_
      refine lv_aload_n cx.1 cx.2.1 dX4_extraOf_7 rfl (lv_at hl 0 rfl) ?_
      refine gf_X4_41 cx hW (by decide) dX4_extraOf_8 ?_
      refine tp_i (y := nI n) hn ?_
      refine lv_icmp_ge (tgt := 66) cx.1 cx.2.1 dX4_extraOf_11 (by decide) (fun h11 => ?_) (fun h11 => ?_)
      · skip
        have h11 : n ≤ i := (nI_leI (by omega) (by omega)).mp h11
        have e5 : i = n := by omega
        try rw [e5] at hl
        try rw [e5] at hW
        refine lv_lload_n cx.1 cx.2.1 dX4_extraOf_66 rfl (lv_at hl 2 rfl) ?_
        exact cr_l cx hr hlk hW hS (Nat.le_of_ble_eq_true rfl) (Nat.le_of_ble_eq_true rfl) dX4_extraOf_67 rfl rfl
      · skip
        have h11 : i < n := Nat.not_le.mp (fun q => h11 ((nI_leI (by omega) (by omega)).mpr q))
        refine lv_aload_n cx.1 cx.2.1 dX4_extraOf_14 rfl (lv_at hl 1 rfl) ?_
        refine gf_X4_114 cx hW (by omega) dX4_extraOf_15 ?_
        refine lv_iload cx.1 cx.2.1 dX4_extraOf_18 (lv_at hl 3 rfl) ?_
        refine al_7 (j := i) cx hW (by omega) rfl (by omega) dX4_extraOf_20 ?_
        refine mm_abs cx hl nw_107 (Nat.le_of_ble_eq_true rfl) (Nat.le_of_ble_eq_true rfl) (Nat.le_of_ble_eq_true rfl) (Nat.le_of_ble_eq_true rfl) dX4_extraOf_21 ?_
        refine lv_aload_n cx.1 cx.2.1 dX4_extraOf_24 rfl (lv_at hl 0 rfl) ?_
        refine gf_X4_17 cx hW (by decide) dX4_extraOf_25 ?_
        refine lv_iload cx.1 cx.2.1 dX4_extraOf_28 (lv_at hl 3 rfl) ?_
        refine al_2 (j := i) cx hW (by decide) rfl (by omega) dX4_extraOf_30 ?_
        refine gf_X4_74 cx hW (by omega) dX4_extraOf_31 ?_
        refine lv_isub cx.1 cx.2.1 dX4_extraOf_34 ?_
        refine lv_istore (lv' := [(5, .int ((ab_ (gi_ a 4 m i)) - (gi_ a 7 i 0))), (0, .ref (ad_ w 0 0)), (1, .ref (ad_ w 6 m)), (2, .long (xs_ a m i)), (4, .int (nI i))]) cx.1 cx.2.1 dX4_extraOf_35 hl (by decide) rfl (fun ls hl => ?_)
        refine lv_iload cx.1 cx.2.1 dX4_extraOf_37 (lv_at hl 0 rfl) ?_
        refine lv_if_le (tgt := 60) cx.1 cx.2.1 dX4_extraOf_39 (by decide) (fun h39 => ?_) (fun h39 => ?_)
        · skip
          refine lv_iinc (v := nI (i + 1)) (lv' := [(4, .int (nI (i + 1))), (5, .int ((ab_ (gi_ a 4 m i)) - (gi_ a 7 i 0))), (0, .ref (ad_ w 0 0)), (1, .ref (ad_ w 6 m)), (2, .long (xs_ a m i))]) cx.1 cx.2.1 dX4_extraOf_60 hl (k := 4) rfl (nI_inc i) (by decide) rfl (fun ls hl => ?_)
          refine lv_goto (tgt := 5) cx.1 cx.2.1 dX4_extraOf_63 (by decide) ?_
          exact ih5 (i + 1) (by omega) (by omega)  H locs ls hW hS (lv_sub (l' := [(0, .ref (ad_ w 0 0)), (1, .ref (ad_ w 6 m)), (2, .long (xs_ a m (i + 1))), (4, .int (nI (i + 1)))]) hl [2, 3, 4, 0] (by simp only [lv_pick, xs_, h39, if_true, if_false]; rfl))
        · skip
          refine lv_lload_n cx.1 cx.2.1 dX4_extraOf_42 rfl (lv_at hl 3 rfl) ?_
          refine lv_iload cx.1 cx.2.1 dX4_extraOf_43 (lv_at hl 0 rfl) ?_
          refine lv_i2l (v := ((ab_ (gi_ a 4 m i)) - (gi_ a 7 i 0)).toInt64) cx.1 cx.2.1 dX4_extraOf_45 rfl ?_
          refine lv_aload_n cx.1 cx.2.1 dX4_extraOf_46 rfl (lv_at hl 1 rfl) ?_
          refine gf_X4_17 cx hW (by decide) dX4_extraOf_47 ?_
          refine lv_iload cx.1 cx.2.1 dX4_extraOf_50 (lv_at hl 4 rfl) ?_
          refine al_2 (j := i) cx hW (by decide) rfl (by omega) dX4_extraOf_52 ?_
          refine gf_X4_77 cx hW (by omega) dX4_extraOf_53 ?_
          refine lv_i2l (v := (gi_ a 8 i 0).toInt64) cx.1 cx.2.1 dX4_extraOf_56 rfl ?_
          refine lv_lmul cx.1 cx.2.1 dX4_extraOf_57 ?_
          refine lv_ladd cx.1 cx.2.1 dX4_extraOf_58 ?_
          refine lv_lstore_n (lv' := [(2, .long ((xs_ a m i) + ((((ab_ (gi_ a 4 m i)) - (gi_ a 7 i 0)).toInt64) * ((gi_ a 8 i 0).toInt64)))), (5, .int ((ab_ (gi_ a 4 m i)) - (gi_ a 7 i 0))), (0, .ref (ad_ w 0 0)), (1, .ref (ad_ w 6 m)), (4, .int (nI i))]) cx.1 cx.2.1 dX4_extraOf_59 rfl hl (by decide) rfl (fun ls hl => ?_)
          refine lv_iinc (v := nI (i + 1)) (lv' := [(4, .int (nI (i + 1))), (2, .long ((xs_ a m i) + ((((ab_ (gi_ a 4 m i)) - (gi_ a 7 i 0)).toInt64) * ((gi_ a 8 i 0).toInt64)))), (5, .int ((ab_ (gi_ a 4 m i)) - (gi_ a 7 i 0))), (0, .ref (ad_ w 0 0)), (1, .ref (ad_ w 6 m))]) cx.1 cx.2.1 dX4_extraOf_60 hl (k := 4) rfl (nI_inc i) (by decide) rfl (fun ls hl => ?_)
          refine lv_goto (tgt := 5) cx.1 cx.2.1 dX4_extraOf_63 (by decide) ?_
          exact ih5 (i + 1) (by omega) (by omega)  H locs ls hW hS (lv_sub (l' := [(0, .ref (ad_ w 0 0)), (1, .ref (ad_ w 6 m)), (2, .long (xs_ a m (i + 1))), (4, .int (nI (i + 1)))]) hl [3, 4, 1, 0] (by simp only [lv_pick, xs_, h39, if_true, if_false]; rfl))
  exact L5 (n - 0 + 1) 0 (by omega) (by omega)  H locs ls hW hS (lv_sub hl [2, 3, 1, 0] rfl)
def ms_ (a : St_) (m n : Nat) : Nat → Int64
  | 0 => 0
  | v + 1 => mx_ (ms_ a m n v) (-(ls_ a v m n))
def mg_ (a : St_) (m n : Nat) : Int64 := ms_ a m n 8 + xs_ a m n
set_option maxHeartbeats 4000000 in
set_option maxRecDepth 100000 in
theorem c_X4_marginOf (l : Launch) {w : Gh_} (hI : In_ w) (a : St_) (n : Nat) (hn : gi_ a 1 0 0 = nI n) (hn6 : n ≤ 6) (m : Nat) (hm : m < 8) : Fn_ l w yX4_marginOf (.code yX4_marginOf cX4_marginOf 5 (some .long)) { frames := 2, cells := 0, slots := 0, locals := 48 } 0 0 [.ref (ad_ w 0 0), .ref (ad_ w 6 m)] a (.inl (some (.long (mg_ a m n)))) a := by
  refine Fn_of hI (by decide +kernel) (Nat.le_of_ble_eq_true rfl) ?_
  intro zp ze zs zm zb zt zc ls cx hr hlk hno hW hS hl
  replace cx : Cx_ zp zs zm zc _ cX4_marginOf 5 "MarginHouse" w := cx
  replace hl : lv_has ls 5 [(0, .ref (ad_ w 0 0)), (1, .ref (ad_ w 6 m))] := hl
  obtain ⟨H, hH⟩ : ∃ H, zs.heap = H := ⟨_, rfl⟩
  rw [hH] at hW
  have hS : Fr_ w zs.heap H [] := by rw [← hH]; exact hS
  obtain ⟨locs, hlocs⟩ : ∃ x : List Loc, x = [] := ⟨_, rfl⟩
  rw [← hlocs] at hS ⊢
  rw [show W zp l ze _ zs zm _ zb zt zc zs.heap locs 0 0 _ (F0 zm 0 ls []) ↔ W zp l ze _ zs zm _ zb zt zc H locs 0 0 _ (F0 zm 0 ls []) from by rw [hH]]
  refine lv_lconst (v := 0) cx.1 cx.2.1 dX4_marginOf_0 (by decide) ?_
  refine lv_lstore_n (lv' := [(2, .long 0), (0, .ref (ad_ w 0 0)), (1, .ref (ad_ w 6 m))]) cx.1 cx.2.1 dX4_marginOf_1 rfl hl (by decide) rfl (fun ls hl => ?_)
  refine lv_iconst (v := 0) cx.1 cx.2.1 dX4_marginOf_2 (by decide) ?_
  refine lv_istore (lv' := [(4, .int 0), (2, .long 0), (0, .ref (ad_ w 0 0)), (1, .ref (ad_ w 6 m))]) cx.1 cx.2.1 dX4_marginOf_3 hl (by decide) rfl (fun ls hl => ?_)
  have L5 : ∀ (d v : Nat), v ≤ 8 → 8 - v < d → ∀ (H : Heap) (locs : List Loc) (ls : Array Slot), Hd_ w a H → Fr_ w zs.heap H locs → lv_has ls 5 [(0, .ref (ad_ w 0 0)), (1, .ref (ad_ w 6 m)), (2, .long (ms_ a m n v)), (4, .int (nI v))] → W zp l ze { frames := 2, cells := 0, slots := 0, locals := 48 } zs zm ([.ref (ad_ w 0 0), .ref (ad_ w 6 m)] : List Value).toArray zb zt zc H locs 0 0 (vx_MQ zb (Qc_ w (.inl (some (.long (mg_ a m n)))) a) (XC_ w (.inl (some (.long (mg_ a m n)))) a) ([.ref (ad_ w 0 0), .ref (ad_ w 6 m)] : List Value).toArray zs 0 0 (fun q => lo_ w ≤ q)) (F0 zm 5 ls []) := by
    intro d
    induction d with
    | zero => intro v _ hd; exact absurd hd (Nat.not_lt_zero _)
    | succ d ih5 =>
      intro v hv hdv  H locs ls hW hS hl
      refine lv_iload cx.1 cx.2.1 dX4_marginOf_5 (lv_at hl 3 rfl) ?_
      refine lv_bipush (v := 8) cx.1 cx.2.1 dX4_marginOf_7 (by decide) ?_
      refine tp_i (y := nI 8) (by decide +kernel) ?_
      refine lv_icmp_ge (tgt := 35) cx.1 cx.2.1 dX4_marginOf_9 (by decide) (fun h9 => ?_) (fun h9 => ?_)
      · skip
        have h9 : 8 ≤ v := (nI_leI (by omega) (by omega)).mp h9
        have e5 : v = 8 := by omega
        try rw [e5] at hl
        try rw [e5] at hW
        refine lv_lload_n cx.1 cx.2.1 dX4_marginOf_35 rfl (lv_at hl 2 rfl) ?_
        refine lv_aload_n cx.1 cx.2.1 dX4_marginOf_36 rfl (lv_at hl 0 rfl) ?_
        refine lv_aload_n cx.1 cx.2.1 dX4_marginOf_37 rfl (lv_at hl 1 rfl) ?_
        refine ck_V (v := some (.long (xs_ a m n))) (As := [.ref (ad_ w 6 m)]) (rest := [.long (ms_ a m n 8)]) (k := 0) (i := 0) (T := TX4) cx hW hS hl (by decide) rfl rfl (c_X4_extraOf l hI a n hn hn6 m (by omega)) cw_X4_extraOf nw_105 nw_521 nw_104 rfl rfl (Nat.le_of_ble_eq_true rfl) rfl rfl ⟨Nat.le_of_ble_eq_true rfl, Nat.le_of_ble_eq_true rfl⟩ ⟨Nat.le_of_ble_eq_true rfl, Nat.le_of_ble_eq_true rfl⟩ dX4_marginOf_38 (fun H locs hW hS => ?_)
        refine W.eq (g2 := F0 zm 41 ls [.long (xs_ a m n), .long (ms_ a m n 8)]) rfl ?_
        refine lv_ladd cx.1 cx.2.1 dX4_marginOf_41 ?_
        exact cr_l cx hr hlk hW hS (Nat.le_of_ble_eq_true rfl) (Nat.le_of_ble_eq_true rfl) dX4_marginOf_42 rfl rfl
      · skip
        have h9 : v < 8 := Nat.not_le.mp (fun q => h9 ((nI_leI (by omega) (by omega)).mpr q))
        refine lv_lload_n cx.1 cx.2.1 dX4_marginOf_12 rfl (lv_at hl 2 rfl) ?_
        refine lv_aload_n cx.1 cx.2.1 dX4_marginOf_13 rfl (lv_at hl 0 rfl) ?_
        refine lv_aload_n cx.1 cx.2.1 dX4_marginOf_14 rfl (lv_at hl 0 rfl) ?_
        refine gf_X4_23 cx hW (by decide) dX4_marginOf_15 ?_
        refine lv_iload cx.1 cx.2.1 dX4_marginOf_18 (lv_at hl 3 rfl) ?_
        refine al_3 (j := v) cx hW (by decide) rfl (by omega) dX4_marginOf_20 ?_
        refine lv_aload_n cx.1 cx.2.1 dX4_marginOf_21 rfl (lv_at hl 1 rfl) ?_
        refine ck_V (v := some (.long (-(ls_ a v m n)))) (As := [.ref (ad_ w 10 v), .ref (ad_ w 6 m)]) (rest := [.long (ms_ a m n v)]) (k := 0) (i := 0) (T := TX4) cx hW hS hl (by decide) rfl rfl (c_X4_lossUnder l hI a n hn hn6 v m (by omega) (by omega)) cw_X4_lossUnder nw_99 nw_520 nw_98 rfl rfl (Nat.le_of_ble_eq_true rfl) rfl rfl ⟨Nat.le_of_ble_eq_true rfl, Nat.le_of_ble_eq_true rfl⟩ ⟨Nat.le_of_ble_eq_true rfl, Nat.le_of_ble_eq_true rfl⟩ dX4_marginOf_22 (fun H locs hW hS => ?_)
        refine W.eq (g2 := F0 zm 25 ls [.long (-(ls_ a v m n)), .long (ms_ a m n v)]) rfl ?_
        refine mm_maxl cx hl nw_101 (Nat.le_of_ble_eq_true rfl) (Nat.le_of_ble_eq_true rfl) (Nat.le_of_ble_eq_true rfl) (Nat.le_of_ble_eq_true rfl) dX4_marginOf_25 ?_
        refine lv_lstore_n (lv' := [(2, .long (mx_ (ms_ a m n v) (-(ls_ a v m n)))), (0, .ref (ad_ w 0 0)), (1, .ref (ad_ w 6 m)), (4, .int (nI v))]) cx.1 cx.2.1 dX4_marginOf_28 rfl hl (by decide) rfl (fun ls hl => ?_)
        refine lv_iinc (v := nI (v + 1)) (lv' := [(4, .int (nI (v + 1))), (2, .long (mx_ (ms_ a m n v) (-(ls_ a v m n)))), (0, .ref (ad_ w 0 0)), (1, .ref (ad_ w 6 m))]) cx.1 cx.2.1 dX4_marginOf_29 hl (k := 3) rfl (nI_inc v) (by decide) rfl (fun ls hl => ?_)
        refine lv_goto (tgt := 5) cx.1 cx.2.1 dX4_marginOf_32 (by decide) ?_
        exact ih5 (v + 1) (by omega) (by omega)  H locs ls hW hS (lv_sub (l' := [(0, .ref (ad_ w 0 0)), (1, .ref (ad_ w 6 m)), (2, .long (ms_ a m n (v + 1))), (4, .int (nI (v + 1)))]) hl [2, 3, 1, 0] rfl)
  exact L5 (8 - 0 + 1) 0 (by omega) (by omega)  H locs ls hW hS (lv_sub hl [2, 3, 1, 0] rfl)
def sf_ (a : St_) (m n : Nat) : Int64 := if gi_ a 3 m 0 = 0 then mx_ 0 (mg_ a m n - gl_ a 2 m 0) else 0
set_option maxHeartbeats 4000000 in
set_option maxRecDepth 100000 in
theorem c_X4_shortfallOf (l : Launch) {w : Gh_} (hI : In_ w) (a : St_) (n : Nat) (hn : gi_ a 1 0 0 = nI n) (hn6 : n ≤ 6) (m : Nat) (hm : m < 8) : Fn_ l w yX4_shortfallOf (.code yX4_shortfallOf cX4_shortfallOf 2 (some .long)) { frames := 3, cells := 0, slots := 0, locals := 72 } 0 0 [.ref (ad_ w 0 0), .ref (ad_ w 6 m)] a (.inl (some (.long (sf_ a m n)))) a := by
  refine Fn_of hI (by decide +kernel) (Nat.le_of_ble_eq_true rfl) ?_
  intro zp ze zs zm zb zt zc ls cx hr hlk hno hW hS hl
  replace cx : Cx_ zp zs zm zc _ cX4_shortfallOf 2 "MarginHouse" w := cx
  replace hl : lv_has ls 2 [(0, .ref (ad_ w 0 0)), (1, .ref (ad_ w 6 m))] := hl
  obtain ⟨H, hH⟩ : ∃ H, zs.heap = H := ⟨_, rfl⟩
  rw [hH] at hW
  have hS : Fr_ w zs.heap H [] := by rw [← hH]; exact hS
  obtain ⟨locs, hlocs⟩ : ∃ x : List Loc, x = [] := ⟨_, rfl⟩
  rw [← hlocs] at hS ⊢
  rw [show W zp l ze _ zs zm _ zb zt zc zs.heap locs 0 0 _ (F0 zm 0 ls []) ↔ W zp l ze _ zs zm _ zb zt zc H locs 0 0 _ (F0 zm 0 ls []) from by rw [hH]]
  refine lv_aload_n cx.1 cx.2.1 dX4_shortfallOf_0 rfl (lv_at hl 1 rfl) ?_
  refine gf_X4_127 cx hW (by omega) dX4_shortfallOf_1 ?_
  refine lv_if_eq (tgt := 9) cx.1 cx.2.1 dX4_shortfallOf_4 (by decide) (fun h4 => ?_) (fun h4 => ?_)
  · skip
    refine lv_lconst (v := 0) cx.1 cx.2.1 dX4_shortfallOf_9 (by decide) ?_
    refine lv_aload_n cx.1 cx.2.1 dX4_shortfallOf_10 rfl (lv_at hl 0 rfl) ?_
    refine lv_aload_n cx.1 cx.2.1 dX4_shortfallOf_11 rfl (lv_at hl 1 rfl) ?_
    refine ck_V (v := some (.long (mg_ a m n))) (As := [.ref (ad_ w 6 m)]) (rest := [.long 0]) (k := 0) (i := 0) (T := TX4) cx hW hS hl (by decide) rfl rfl (c_X4_marginOf l hI a n hn hn6 m (by omega)) cw_X4_marginOf nw_96 nw_519 nw_95 rfl rfl (Nat.le_of_ble_eq_true rfl) rfl rfl ⟨Nat.le_of_ble_eq_true rfl, Nat.le_of_ble_eq_true rfl⟩ ⟨Nat.le_of_ble_eq_true rfl, Nat.le_of_ble_eq_true rfl⟩ dX4_shortfallOf_12 (fun H locs hW hS => ?_)
    refine W.eq (g2 := F0 zm 15 ls [.long (mg_ a m n), .long 0]) rfl ?_
    refine lv_aload_n cx.1 cx.2.1 dX4_shortfallOf_15 rfl (lv_at hl 1 rfl) ?_
    refine gf_X4_105 cx hW (by omega) dX4_shortfallOf_16 ?_
    refine lv_lsub cx.1 cx.2.1 dX4_shortfallOf_19 ?_
    refine mm_maxl cx hl nw_101 (Nat.le_of_ble_eq_true rfl) (Nat.le_of_ble_eq_true rfl) (Nat.le_of_ble_eq_true rfl) (Nat.le_of_ble_eq_true rfl) dX4_shortfallOf_20 ?_
    exact cr_l cx hr hlk hW hS (Nat.le_of_ble_eq_true rfl) (Nat.le_of_ble_eq_true rfl) dX4_shortfallOf_23 (by simp only [sf_, h4, if_true, if_false]) rfl
  · skip
    refine lv_lconst (v := 0) cx.1 cx.2.1 dX4_shortfallOf_7 (by decide) ?_
    exact cr_l cx hr hlk hW hS (Nat.le_of_ble_eq_true rfl) (Nat.le_of_ble_eq_true rfl) dX4_shortfallOf_8 (by simp only [sf_, h4, if_true, if_false]) rfl
def sm_ (a : St_) (v : Nat) : Nat → Int64
  | 0 => 0
  | i + 1 => sm_ a v i + gl_ a v i 0
set_option maxHeartbeats 4000000 in
set_option maxRecDepth 100000 in
theorem c_X4_sumCash (l : Launch) {w : Gh_} (hI : In_ w) (a : St_) (k : Nat) (hk : gi_ a 0 0 0 = nI k) (hk8 : k ≤ 8) : Fn_ l w yX4_sumCash (.code yX4_sumCash cX4_sumCash 4 (some .long)) { frames := 0, cells := 0, slots := 0, locals := 0 } 0 0 [.ref (ad_ w 0 0)] a (.inl (some (.long (sm_ a 2 k)))) a := by
  refine Fn_of hI (by decide +kernel) (Nat.le_of_ble_eq_true rfl) ?_
  intro zp ze zs zm zb zt zc ls cx hr hlk hno hW hS hl
  replace cx : Cx_ zp zs zm zc _ cX4_sumCash 4 "MarginHouse" w := cx
  replace hl : lv_has ls 4 [(0, .ref (ad_ w 0 0))] := hl
  obtain ⟨H, hH⟩ : ∃ H, zs.heap = H := ⟨_, rfl⟩
  rw [hH] at hW
  have hS : Fr_ w zs.heap H [] := by rw [← hH]; exact hS
  obtain ⟨locs, hlocs⟩ : ∃ x : List Loc, x = [] := ⟨_, rfl⟩
  rw [← hlocs] at hS ⊢
  rw [show W zp l ze _ zs zm _ zb zt zc zs.heap locs 0 0 _ (F0 zm 0 ls []) ↔ W zp l ze _ zs zm _ zb zt zc H locs 0 0 _ (F0 zm 0 ls []) from by rw [hH]]
  refine lv_lconst (v := 0) cx.1 cx.2.1 dX4_sumCash_0 (by decide) ?_
  refine lv_lstore_n (lv' := [(1, .long 0), (0, .ref (ad_ w 0 0))]) cx.1 cx.2.1 dX4_sumCash_1 rfl hl (by decide) rfl (fun ls hl => ?_)
  refine lv_iconst (v := 0) cx.1 cx.2.1 dX4_sumCash_2 (by decide) ?_
  refine lv_istore_n (lv' := [(3, .int 0), (1, .long 0), (0, .ref (ad_ w 0 0))]) cx.1 cx.2.1 dX4_sumCash_3 rfl hl (by decide) rfl (fun ls hl => ?_)
  have L4 : ∀ (d i : Nat), i ≤ k → k - i < d → ∀ (H : Heap) (locs : List Loc) (ls : Array Slot), Hd_ w a H → Fr_ w zs.heap H locs → lv_has ls 4 [(0, .ref (ad_ w 0 0)), (1, .long (sm_ a 2 i)), (3, .int (nI i))] → W zp l ze { frames := 0, cells := 0, slots := 0, locals := 0 } zs zm ([.ref (ad_ w 0 0)] : List Value).toArray zb zt zc H locs 0 0 (vx_MQ zb (Qc_ w (.inl (some (.long (sm_ a 2 k)))) a) (XC_ w (.inl (some (.long (sm_ a 2 k)))) a) ([.ref (ad_ w 0 0)] : List Value).toArray zs 0 0 (fun q => lo_ w ≤ q)) (F0 zm 4 ls []) := by
    intro d
    induction d with
    | zero => intro i _ hd; exact absurd hd (Nat.not_lt_zero _)
    | succ d ih4 =>
      intro i hi hdi  H locs ls hW hS hl
      refine lv_iload_n cx.1 cx.2.1 dX4_sumCash_4 rfl (lv_at hl 2 rfl) ?_
      refine lv_aload_n cx.1 cx.2.1 dX4_sumCash_5 rfl (lv_at hl 0 rfl) ?_
      refine gf_X4_37 cx hW (by decide) dX4_sumCash_6 ?_
      refine tp_i (y := nI k) hk ?_
      refine lv_icmp_ge (tgt := 30) cx.1 cx.2.1 dX4_sumCash_9 (by decide) (fun h9 => ?_) (fun h9 => ?_)
      · skip
        have h9 : k ≤ i := (nI_leI (by omega) (by omega)).mp h9
        have e4 : i = k := by omega
        try rw [e4] at hl
        try rw [e4] at hW
        refine lv_lload_n cx.1 cx.2.1 dX4_sumCash_30 rfl (lv_at hl 1 rfl) ?_
        exact cr_l cx hr hlk hW hS (Nat.le_of_ble_eq_true rfl) (Nat.le_of_ble_eq_true rfl) dX4_sumCash_31 rfl rfl
      · skip
        have h9 : i < k := Nat.not_le.mp (fun q => h9 ((nI_leI (by omega) (by omega)).mpr q))
        refine lv_lload_n cx.1 cx.2.1 dX4_sumCash_12 rfl (lv_at hl 1 rfl) ?_
        refine lv_aload_n cx.1 cx.2.1 dX4_sumCash_13 rfl (lv_at hl 0 rfl) ?_
        refine gf_X4_11 cx hW (by decide) dX4_sumCash_14 ?_
        refine lv_iload_n cx.1 cx.2.1 dX4_sumCash_17 rfl (lv_at hl 2 rfl) ?_
        refine al_1 (j := i) cx hW (by decide) rfl (by omega) dX4_sumCash_18 ?_
        refine gf_X4_105 cx hW (by omega) dX4_sumCash_19 ?_
        refine lv_ladd cx.1 cx.2.1 dX4_sumCash_22 ?_
        refine lv_lstore_n (lv' := [(1, .long ((sm_ a 2 i) + (gl_ a 2 i 0))), (0, .ref (ad_ w 0 0)), (3, .int (nI i))]) cx.1 cx.2.1 dX4_sumCash_23 rfl hl (by decide) rfl (fun ls hl => ?_)
        refine lv_iinc (v := nI (i + 1)) (lv' := [(3, .int (nI (i + 1))), (1, .long ((sm_ a 2 i) + (gl_ a 2 i 0))), (0, .ref (ad_ w 0 0))]) cx.1 cx.2.1 dX4_sumCash_24 hl (k := 2) rfl (nI_inc i) (by decide) rfl (fun ls hl => ?_)
        refine lv_goto (tgt := 4) cx.1 cx.2.1 dX4_sumCash_27 (by decide) ?_
        exact ih4 (i + 1) (by omega) (by omega)  H locs ls hW hS (lv_sub (l' := [(0, .ref (ad_ w 0 0)), (1, .long (sm_ a 2 (i + 1))), (3, .int (nI (i + 1)))]) hl [2, 1, 0] rfl)
  exact L4 (k - 0 + 1) 0 (by omega) (by omega)  H locs ls hW hS (lv_sub hl [2, 1, 0] rfl)
set_option maxHeartbeats 4000000 in
set_option maxRecDepth 100000 in
theorem c_X4_sumContributions (l : Launch) {w : Gh_} (hI : In_ w) (a : St_) (k : Nat) (hk : gi_ a 0 0 0 = nI k) (hk8 : k ≤ 8) : Fn_ l w yX4_sumContributions (.code yX4_sumContributions cX4_sumContributions 4 (some .long)) { frames := 0, cells := 0, slots := 0, locals := 0 } 0 0 [.ref (ad_ w 0 0)] a (.inl (some (.long (sm_ a 3 k)))) a := by
  refine Fn_of hI (by decide +kernel) (Nat.le_of_ble_eq_true rfl) ?_
  intro zp ze zs zm zb zt zc ls cx hr hlk hno hW hS hl
  replace cx : Cx_ zp zs zm zc _ cX4_sumContributions 4 "MarginHouse" w := cx
  replace hl : lv_has ls 4 [(0, .ref (ad_ w 0 0))] := hl
  obtain ⟨H, hH⟩ : ∃ H, zs.heap = H := ⟨_, rfl⟩
  rw [hH] at hW
  have hS : Fr_ w zs.heap H [] := by rw [← hH]; exact hS
  obtain ⟨locs, hlocs⟩ : ∃ x : List Loc, x = [] := ⟨_, rfl⟩
  rw [← hlocs] at hS ⊢
  rw [show W zp l ze _ zs zm _ zb zt zc zs.heap locs 0 0 _ (F0 zm 0 ls []) ↔ W zp l ze _ zs zm _ zb zt zc H locs 0 0 _ (F0 zm 0 ls []) from by rw [hH]]
  refine lv_lconst (v := 0) cx.1 cx.2.1 dX4_sumContributions_0 (by decide) ?_
  refine lv_lstore_n (lv' := [(1, .long 0), (0, .ref (ad_ w 0 0))]) cx.1 cx.2.1 dX4_sumContributions_1 rfl hl (by decide) rfl (fun ls hl => ?_)
  refine lv_iconst (v := 0) cx.1 cx.2.1 dX4_sumContributions_2 (by decide) ?_
  refine lv_istore_n (lv' := [(3, .int 0), (1, .long 0), (0, .ref (ad_ w 0 0))]) cx.1 cx.2.1 dX4_sumContributions_3 rfl hl (by decide) rfl (fun ls hl => ?_)
  have L4 : ∀ (d i : Nat), i ≤ k → k - i < d → ∀ (H : Heap) (locs : List Loc) (ls : Array Slot), Hd_ w a H → Fr_ w zs.heap H locs → lv_has ls 4 [(0, .ref (ad_ w 0 0)), (1, .long (sm_ a 3 i)), (3, .int (nI i))] → W zp l ze { frames := 0, cells := 0, slots := 0, locals := 0 } zs zm ([.ref (ad_ w 0 0)] : List Value).toArray zb zt zc H locs 0 0 (vx_MQ zb (Qc_ w (.inl (some (.long (sm_ a 3 k)))) a) (XC_ w (.inl (some (.long (sm_ a 3 k)))) a) ([.ref (ad_ w 0 0)] : List Value).toArray zs 0 0 (fun q => lo_ w ≤ q)) (F0 zm 4 ls []) := by
    intro d
    induction d with
    | zero => intro i _ hd; exact absurd hd (Nat.not_lt_zero _)
    | succ d ih4 =>
      intro i hi hdi  H locs ls hW hS hl
      refine lv_iload_n cx.1 cx.2.1 dX4_sumContributions_4 rfl (lv_at hl 2 rfl) ?_
      refine lv_aload_n cx.1 cx.2.1 dX4_sumContributions_5 rfl (lv_at hl 0 rfl) ?_
      refine gf_X4_37 cx hW (by decide) dX4_sumContributions_6 ?_
      refine tp_i (y := nI k) hk ?_
      refine lv_icmp_ge (tgt := 30) cx.1 cx.2.1 dX4_sumContributions_9 (by decide) (fun h9 => ?_) (fun h9 => ?_)
      · skip
        have h9 : k ≤ i := (nI_leI (by omega) (by omega)).mp h9
        have e4 : i = k := by omega
        try rw [e4] at hl
        try rw [e4] at hW
        refine lv_lload_n cx.1 cx.2.1 dX4_sumContributions_30 rfl (lv_at hl 1 rfl) ?_
        exact cr_l cx hr hlk hW hS (Nat.le_of_ble_eq_true rfl) (Nat.le_of_ble_eq_true rfl) dX4_sumContributions_31 rfl rfl
      · skip
        have h9 : i < k := Nat.not_le.mp (fun q => h9 ((nI_leI (by omega) (by omega)).mpr q))
        refine lv_lload_n cx.1 cx.2.1 dX4_sumContributions_12 rfl (lv_at hl 1 rfl) ?_
        refine lv_aload_n cx.1 cx.2.1 dX4_sumContributions_13 rfl (lv_at hl 0 rfl) ?_
        refine gf_X4_11 cx hW (by decide) dX4_sumContributions_14 ?_
        refine lv_iload_n cx.1 cx.2.1 dX4_sumContributions_17 rfl (lv_at hl 2 rfl) ?_
        refine al_1 (j := i) cx hW (by decide) rfl (by omega) dX4_sumContributions_18 ?_
        refine gf_X4_66 cx hW (by omega) dX4_sumContributions_19 ?_
        refine lv_ladd cx.1 cx.2.1 dX4_sumContributions_22 ?_
        refine lv_lstore_n (lv' := [(1, .long ((sm_ a 3 i) + (gl_ a 3 i 0))), (0, .ref (ad_ w 0 0)), (3, .int (nI i))]) cx.1 cx.2.1 dX4_sumContributions_23 rfl hl (by decide) rfl (fun ls hl => ?_)
        refine lv_iinc (v := nI (i + 1)) (lv' := [(3, .int (nI (i + 1))), (1, .long ((sm_ a 3 i) + (gl_ a 3 i 0))), (0, .ref (ad_ w 0 0))]) cx.1 cx.2.1 dX4_sumContributions_24 hl (k := 2) rfl (nI_inc i) (by decide) rfl (fun ls hl => ?_)
        refine lv_goto (tgt := 4) cx.1 cx.2.1 dX4_sumContributions_27 (by decide) ?_
        exact ih4 (i + 1) (by omega) (by omega)  H locs ls hW hS (lv_sub (l' := [(0, .ref (ad_ w 0 0)), (1, .long (sm_ a 3 (i + 1))), (3, .int (nI (i + 1)))]) hl [2, 1, 0] rfl)
  exact L4 (k - 0 + 1) 0 (by omega) (by omega)  H locs ls hW hS (lv_sub hl [2, 1, 0] rfl)
def su_ (a : St_) (m : Nat) (x : Int64) : Nat → Int64
  | 0 => x
  | i + 1 => su_ a m x i + (if (0 : Int32) < gi_ a 4 m i then gi_ a 4 m i else 0).toInt64
def so_ (a : St_) (n : Nat) : Nat → Int64
  | 0 => 0
  | m + 1 => su_ a m (so_ a n m) n
set_option maxHeartbeats 4000000 in
set_option maxRecDepth 100000 in
theorem c_X4_sumUnitsOpen (l : Launch) {w : Gh_} (hI : In_ w) (a : St_) (k : Nat) (hk : gi_ a 0 0 0 = nI k) (hk8 : k ≤ 8) (n : Nat) (hn : gi_ a 1 0 0 = nI n) (hn6 : n ≤ 6) : Fn_ l w yX4_sumUnitsOpen (.code yX4_sumUnitsOpen cX4_sumUnitsOpen 5 (some .long)) { frames := 1, cells := 0, slots := 0, locals := 23 } 0 0 [.ref (ad_ w 0 0)] a (.inl (some (.long (so_ a n k)))) a := by
  refine Fn_of hI (by decide +kernel) (Nat.le_of_ble_eq_true rfl) ?_
  intro zp ze zs zm zb zt zc ls cx hr hlk hno hW hS hl
  replace cx : Cx_ zp zs zm zc _ cX4_sumUnitsOpen 5 "MarginHouse" w := cx
  replace hl : lv_has ls 5 [(0, .ref (ad_ w 0 0))] := hl
  obtain ⟨H, hH⟩ : ∃ H, zs.heap = H := ⟨_, rfl⟩
  rw [hH] at hW
  have hS : Fr_ w zs.heap H [] := by rw [← hH]; exact hS
  obtain ⟨locs, hlocs⟩ : ∃ x : List Loc, x = [] := ⟨_, rfl⟩
  rw [← hlocs] at hS ⊢
  rw [show W zp l ze _ zs zm _ zb zt zc zs.heap locs 0 0 _ (F0 zm 0 ls []) ↔ W zp l ze _ zs zm _ zb zt zc H locs 0 0 _ (F0 zm 0 ls []) from by rw [hH]]
  refine lv_lconst (v := 0) cx.1 cx.2.1 dX4_sumUnitsOpen_0 (by decide) ?_
  refine lv_lstore_n (lv' := [(1, .long 0), (0, .ref (ad_ w 0 0))]) cx.1 cx.2.1 dX4_sumUnitsOpen_1 rfl hl (by decide) rfl (fun ls hl => ?_)
  refine lv_iconst (v := 0) cx.1 cx.2.1 dX4_sumUnitsOpen_2 (by decide) ?_
  refine lv_istore_n (lv' := [(3, .int 0), (1, .long 0), (0, .ref (ad_ w 0 0))]) cx.1 cx.2.1 dX4_sumUnitsOpen_3 rfl hl (by decide) rfl (fun ls hl => ?_)
  have L4 : ∀ (d i : Nat), i ≤ k → k - i < d → ∀ (H : Heap) (locs : List Loc) (ls : Array Slot), Hd_ w a H → Fr_ w zs.heap H locs → lv_has ls 5 [(0, .ref (ad_ w 0 0)), (1, .long (so_ a n i)), (3, .int (nI i))] → W zp l ze { frames := 1, cells := 0, slots := 0, locals := 23 } zs zm ([.ref (ad_ w 0 0)] : List Value).toArray zb zt zc H locs 0 0 (vx_MQ zb (Qc_ w (.inl (some (.long (so_ a n k)))) a) (XC_ w (.inl (some (.long (so_ a n k)))) a) ([.ref (ad_ w 0 0)] : List Value).toArray zs 0 0 (fun q => lo_ w ≤ q)) (F0 zm 4 ls []) := by
    intro d
    induction d with
    | zero => intro i _ hd; exact absurd hd (Nat.not_lt_zero _)
    | succ d ih4 =>
      intro i hi hdi  H locs ls hW hS hl
      refine lv_iload_n cx.1 cx.2.1 dX4_sumUnitsOpen_4 rfl (lv_at hl 2 rfl) ?_
      refine lv_aload_n cx.1 cx.2.1 dX4_sumUnitsOpen_5 rfl (lv_at hl 0 rfl) ?_
      refine gf_X4_37 cx hW (by decide) dX4_sumUnitsOpen_6 ?_
      refine tp_i (y := nI k) hk ?_
      refine lv_icmp_ge (tgt := 56) cx.1 cx.2.1 dX4_sumUnitsOpen_9 (by decide) (fun h9 => ?_) (fun h9 => ?_)
      · skip
        have h9 : k ≤ i := (nI_leI (by omega) (by omega)).mp h9
        have e4 : i = k := by omega
        try rw [e4] at hl
        try rw [e4] at hW
        refine lv_lload_n cx.1 cx.2.1 dX4_sumUnitsOpen_56 rfl (lv_at hl 1 rfl) ?_
        exact cr_l cx hr hlk hW hS (Nat.le_of_ble_eq_true rfl) (Nat.le_of_ble_eq_true rfl) dX4_sumUnitsOpen_57 rfl rfl
      · skip
        have h9 : i < k := Nat.not_le.mp (fun q => h9 ((nI_leI (by omega) (by omega)).mpr q))
        refine lv_iconst (v := 0) cx.1 cx.2.1 dX4_sumUnitsOpen_12 (by decide) ?_
        refine lv_istore (lv' := [(4, .int 0), (0, .ref (ad_ w 0 0)), (1, .long (so_ a n i)), (3, .int (nI i))]) cx.1 cx.2.1 dX4_sumUnitsOpen_13 hl (by decide) rfl (fun ls hl => ?_)
        have L15 : ∀ (d j : Nat), j ≤ n → n - j < d → ∀ (H : Heap) (locs : List Loc) (ls : Array Slot), Hd_ w a H → Fr_ w zs.heap H locs → lv_has ls 5 [(0, .ref (ad_ w 0 0)), (1, .long (su_ a i (so_ a n i) j)), (3, .int (nI i)), (4, .int (nI j))] → W zp l ze { frames := 1, cells := 0, slots := 0, locals := 23 } zs zm ([.ref (ad_ w 0 0)] : List Value).toArray zb zt zc H locs 0 0 (vx_MQ zb (Qc_ w (.inl (some (.long (so_ a n k)))) a) (XC_ w (.inl (some (.long (so_ a n k)))) a) ([.ref (ad_ w 0 0)] : List Value).toArray zs 0 0 (fun q => lo_ w ≤ q)) (F0 zm 15 ls []) := by
          intro d
          induction d with
          | zero => intro j _ hd; exact absurd hd (Nat.not_lt_zero _)
          | succ d ih15 =>
            intro j hj hdj  H locs ls hW hS hl
            refine lv_iload cx.1 cx.2.1 dX4_sumUnitsOpen_15 (lv_at hl 3 rfl) ?_
            refine lv_aload_n cx.1 cx.2.1 dX4_sumUnitsOpen_17 rfl (lv_at hl 0 rfl) ?_
            refine gf_X4_41 cx hW (by decide) dX4_sumUnitsOpen_18 ?_
            refine tp_i (y := nI n) hn ?_
            refine lv_icmp_ge (tgt := 50) cx.1 cx.2.1 dX4_sumUnitsOpen_21 (by decide) (fun h21 => ?_) (fun h21 => ?_)
            · skip
              have h21 : n ≤ j := (nI_leI (by omega) (by omega)).mp h21
              have e15 : j = n := by omega
              try rw [e15] at hl
              try rw [e15] at hW
              refine lv_iinc (v := nI (i + 1)) (lv' := [(3, .int (nI (i + 1))), (0, .ref (ad_ w 0 0)), (1, .long (su_ a i (so_ a n i) n)), (4, .int (nI n))]) cx.1 cx.2.1 dX4_sumUnitsOpen_50 hl (k := 2) rfl (nI_inc i) (by decide) rfl (fun ls hl => ?_)
              refine lv_goto (tgt := 4) cx.1 cx.2.1 dX4_sumUnitsOpen_53 (by decide) ?_
              exact ih4 (i + 1) (by omega) (by omega)  H locs ls hW hS (lv_sub (l' := [(0, .ref (ad_ w 0 0)), (1, .long (so_ a n (i + 1))), (3, .int (nI (i + 1)))]) hl [1, 2, 0] rfl)
            · skip
              have h21 : j < n := Nat.not_le.mp (fun q => h21 ((nI_leI (by omega) (by omega)).mpr q))
              refine lv_lload_n cx.1 cx.2.1 dX4_sumUnitsOpen_24 rfl (lv_at hl 1 rfl) ?_
              refine lv_iconst (v := 0) cx.1 cx.2.1 dX4_sumUnitsOpen_25 (by decide) ?_
              refine lv_aload_n cx.1 cx.2.1 dX4_sumUnitsOpen_26 rfl (lv_at hl 0 rfl) ?_
              refine gf_X4_11 cx hW (by decide) dX4_sumUnitsOpen_27 ?_
              refine lv_iload_n cx.1 cx.2.1 dX4_sumUnitsOpen_30 rfl (lv_at hl 2 rfl) ?_
              refine al_1 (j := i) cx hW (by decide) rfl (by omega) dX4_sumUnitsOpen_31 ?_
              refine gf_X4_114 cx hW (by omega) dX4_sumUnitsOpen_32 ?_
              refine lv_iload cx.1 cx.2.1 dX4_sumUnitsOpen_35 (lv_at hl 3 rfl) ?_
              refine al_7 (j := j) cx hW (by omega) rfl (by omega) dX4_sumUnitsOpen_37 ?_
              refine mm_max cx hl nw_363 (Nat.le_of_ble_eq_true rfl) (Nat.le_of_ble_eq_true rfl) (Nat.le_of_ble_eq_true rfl) (Nat.le_of_ble_eq_true rfl) dX4_sumUnitsOpen_38 ?_
              refine lv_i2l (v := (if 0 < (gi_ a 4 i j) then (gi_ a 4 i j) else 0).toInt64) cx.1 cx.2.1 dX4_sumUnitsOpen_41 rfl ?_
              refine lv_ladd cx.1 cx.2.1 dX4_sumUnitsOpen_42 ?_
              refine lv_lstore_n (lv' := [(1, .long ((su_ a i (so_ a n i) j) + ((if 0 < (gi_ a 4 i j) then (gi_ a 4 i j) else 0).toInt64))), (0, .ref (ad_ w 0 0)), (3, .int (nI i)), (4, .int (nI j))]) cx.1 cx.2.1 dX4_sumUnitsOpen_43 rfl hl (by decide) rfl (fun ls hl => ?_)
              refine lv_iinc (v := nI (j + 1)) (lv' := [(4, .int (nI (j + 1))), (1, .long ((su_ a i (so_ a n i) j) + ((if 0 < (gi_ a 4 i j) then (gi_ a 4 i j) else 0).toInt64))), (0, .ref (ad_ w 0 0)), (3, .int (nI i))]) cx.1 cx.2.1 dX4_sumUnitsOpen_44 hl (k := 3) rfl (nI_inc j) (by decide) rfl (fun ls hl => ?_)
              refine lv_goto (tgt := 15) cx.1 cx.2.1 dX4_sumUnitsOpen_47 (by decide) ?_
              exact ih15 (j + 1) (by omega) (by omega)  H locs ls hW hS (lv_sub (l' := [(0, .ref (ad_ w 0 0)), (1, .long (su_ a i (so_ a n i) (j + 1))), (3, .int (nI i)), (4, .int (nI (j + 1)))]) hl [2, 1, 3, 0] rfl)
        exact L15 (n - 0 + 1) 0 (by omega) (by omega)  H locs ls hW hS (lv_sub hl [1, 2, 3, 0] rfl)
  exact L4 (k - 0 + 1) 0 (by omega) (by omega)  H locs ls hW hS (lv_sub hl [2, 1, 0] rfl)
def cb_ (a : St_) : Nat → Int32
  | 0 => 0
  | i + 1 => if gi_ a 3 i 0 = 0 ∧ ¬ 0 ≤ gl_ a 2 i 0 then cb_ a i + 1 else cb_ a i
set_option maxHeartbeats 4000000 in
set_option maxRecDepth 100000 in
theorem c_X4_countLiveBelowZero (l : Launch) {w : Gh_} (hI : In_ w) (a : St_) (k : Nat) (hk : gi_ a 0 0 0 = nI k) (hk8 : k ≤ 8) : Fn_ l w yX4_countLiveBelowZero (.code yX4_countLiveBelowZero cX4_countLiveBelowZero 3 (some .int)) { frames := 0, cells := 0, slots := 0, locals := 0 } 0 0 [.ref (ad_ w 0 0)] a (.inl (some (.int (cb_ a k)))) a := by
  refine Fn_of hI (by decide +kernel) (Nat.le_of_ble_eq_true rfl) ?_
  intro zp ze zs zm zb zt zc ls cx hr hlk hno hW hS hl
  replace cx : Cx_ zp zs zm zc _ cX4_countLiveBelowZero 3 "MarginHouse" w := cx
  replace hl : lv_has ls 3 [(0, .ref (ad_ w 0 0))] := hl
  obtain ⟨H, hH⟩ : ∃ H, zs.heap = H := ⟨_, rfl⟩
  rw [hH] at hW
  have hS : Fr_ w zs.heap H [] := by rw [← hH]; exact hS
  obtain ⟨locs, hlocs⟩ : ∃ x : List Loc, x = [] := ⟨_, rfl⟩
  rw [← hlocs] at hS ⊢
  rw [show W zp l ze _ zs zm _ zb zt zc zs.heap locs 0 0 _ (F0 zm 0 ls []) ↔ W zp l ze _ zs zm _ zb zt zc H locs 0 0 _ (F0 zm 0 ls []) from by rw [hH]]
  refine lv_iconst (v := 0) cx.1 cx.2.1 dX4_countLiveBelowZero_0 (by decide) ?_
  refine lv_istore_n (lv' := [(1, .int 0), (0, .ref (ad_ w 0 0))]) cx.1 cx.2.1 dX4_countLiveBelowZero_1 rfl hl (by decide) rfl (fun ls hl => ?_)
  refine lv_iconst (v := 0) cx.1 cx.2.1 dX4_countLiveBelowZero_2 (by decide) ?_
  refine lv_istore_n (lv' := [(2, .int 0), (1, .int 0), (0, .ref (ad_ w 0 0))]) cx.1 cx.2.1 dX4_countLiveBelowZero_3 rfl hl (by decide) rfl (fun ls hl => ?_)
  have L4 : ∀ (d i : Nat), i ≤ k → k - i < d → ∀ (H : Heap) (locs : List Loc) (ls : Array Slot), Hd_ w a H → Fr_ w zs.heap H locs → lv_has ls 3 [(0, .ref (ad_ w 0 0)), (1, .int (cb_ a i)), (2, .int (nI i))] → W zp l ze { frames := 0, cells := 0, slots := 0, locals := 0 } zs zm ([.ref (ad_ w 0 0)] : List Value).toArray zb zt zc H locs 0 0 (vx_MQ zb (Qc_ w (.inl (some (.int (cb_ a k)))) a) (XC_ w (.inl (some (.int (cb_ a k)))) a) ([.ref (ad_ w 0 0)] : List Value).toArray zs 0 0 (fun q => lo_ w ≤ q)) (F0 zm 4 ls []) := by
    intro d
    induction d with
    | zero => intro i _ hd; exact absurd hd (Nat.not_lt_zero _)
    | succ d ih4 =>
      intro i hi hdi  H locs ls hW hS hl
      refine lv_iload_n cx.1 cx.2.1 dX4_countLiveBelowZero_4 rfl (lv_at hl 2 rfl) ?_
      refine lv_aload_n cx.1 cx.2.1 dX4_countLiveBelowZero_5 rfl (lv_at hl 0 rfl) ?_
      refine gf_X4_37 cx hW (by decide) dX4_countLiveBelowZero_6 ?_
      refine tp_i (y := nI k) hk ?_
      refine lv_icmp_ge (tgt := 47) cx.1 cx.2.1 dX4_countLiveBelowZero_9 (by decide) (fun h9 => ?_) (fun h9 => ?_)
      · skip
        have h9 : k ≤ i := (nI_leI (by omega) (by omega)).mp h9
        have e4 : i = k := by omega
        try rw [e4] at hl
        try rw [e4] at hW
        refine lv_iload_n cx.1 cx.2.1 dX4_countLiveBelowZero_47 rfl (lv_at hl 1 rfl) ?_
        exact cr_i cx hr hlk hW hS (Nat.le_of_ble_eq_true rfl) (Nat.le_of_ble_eq_true rfl) dX4_countLiveBelowZero_48 rfl rfl
      · skip
        have h9 : i < k := Nat.not_le.mp (fun q => h9 ((nI_leI (by omega) (by omega)).mpr q))
        refine lv_aload_n cx.1 cx.2.1 dX4_countLiveBelowZero_12 rfl (lv_at hl 0 rfl) ?_
        refine gf_X4_11 cx hW (by decide) dX4_countLiveBelowZero_13 ?_
        refine lv_iload_n cx.1 cx.2.1 dX4_countLiveBelowZero_16 rfl (lv_at hl 2 rfl) ?_
        refine al_1 (j := i) cx hW (by decide) rfl (by omega) dX4_countLiveBelowZero_17 ?_
        refine gf_X4_127 cx hW (by omega) dX4_countLiveBelowZero_18 ?_
        refine lv_if_ne (tgt := 41) cx.1 cx.2.1 dX4_countLiveBelowZero_21 (by decide) (fun h21 => ?_) (fun h21 => ?_)
        · skip
          refine lv_iinc (v := nI (i + 1)) (lv' := [(2, .int (nI (i + 1))), (0, .ref (ad_ w 0 0)), (1, .int (cb_ a i))]) cx.1 cx.2.1 dX4_countLiveBelowZero_41 hl (k := 2) rfl (nI_inc i) (by decide) rfl (fun ls hl => ?_)
          refine lv_goto (tgt := 4) cx.1 cx.2.1 dX4_countLiveBelowZero_44 (by decide) ?_
          exact ih4 (i + 1) (by omega) (by omega)  H locs ls hW hS (lv_sub (l' := [(0, .ref (ad_ w 0 0)), (1, .int (cb_ a (i + 1))), (2, .int (nI (i + 1)))]) hl [1, 2, 0] (by simp only [lv_pick, cb_, h9, h21, true_and, false_and, not_true_eq_false, not_false_eq_true, if_true, if_false]; rfl))
        · skip
          refine lv_aload_n cx.1 cx.2.1 dX4_countLiveBelowZero_24 rfl (lv_at hl 0 rfl) ?_
          refine gf_X4_11 cx hW (by decide) dX4_countLiveBelowZero_25 ?_
          refine lv_iload_n cx.1 cx.2.1 dX4_countLiveBelowZero_28 rfl (lv_at hl 2 rfl) ?_
          refine al_1 (j := i) cx hW (by decide) rfl (by omega) dX4_countLiveBelowZero_29 ?_
          refine gf_X4_105 cx hW (by omega) dX4_countLiveBelowZero_30 ?_
          refine lv_lconst (v := 0) cx.1 cx.2.1 dX4_countLiveBelowZero_33 (by decide) ?_
          refine lc_ge (tgt := 41) cx.1 cx.2.1 dX4_countLiveBelowZero_34 dX4_countLiveBelowZero_35 (by decide) (fun h34 => ?_) (fun h34 => ?_)
          · skip
            refine lv_iinc (v := nI (i + 1)) (lv' := [(2, .int (nI (i + 1))), (0, .ref (ad_ w 0 0)), (1, .int (cb_ a i))]) cx.1 cx.2.1 dX4_countLiveBelowZero_41 hl (k := 2) rfl (nI_inc i) (by decide) rfl (fun ls hl => ?_)
            refine lv_goto (tgt := 4) cx.1 cx.2.1 dX4_countLiveBelowZero_44 (by decide) ?_
            exact ih4 (i + 1) (by omega) (by omega)  H locs ls hW hS (lv_sub (l' := [(0, .ref (ad_ w 0 0)), (1, .int (cb_ a (i + 1))), (2, .int (nI (i + 1)))]) hl [1, 2, 0] (by simp only [lv_pick, cb_, h9, h21, h34, true_and, false_and, not_true_eq_false, not_false_eq_true, if_true, if_false]; rfl))
          · skip
            refine lv_iinc (v := (cb_ a i) + 1) (lv' := [(1, .int ((cb_ a i) + 1)), (0, .ref (ad_ w 0 0)), (2, .int (nI i))]) cx.1 cx.2.1 dX4_countLiveBelowZero_38 hl (k := 1) rfl (by rw [lit1]) (by decide) rfl (fun ls hl => ?_)
            refine lv_iinc (v := nI (i + 1)) (lv' := [(2, .int (nI (i + 1))), (1, .int ((cb_ a i) + 1)), (0, .ref (ad_ w 0 0))]) cx.1 cx.2.1 dX4_countLiveBelowZero_41 hl (k := 2) rfl (nI_inc i) (by decide) rfl (fun ls hl => ?_)
            refine lv_goto (tgt := 4) cx.1 cx.2.1 dX4_countLiveBelowZero_44 (by decide) ?_
            exact ih4 (i + 1) (by omega) (by omega)  H locs ls hW hS (lv_sub (l' := [(0, .ref (ad_ w 0 0)), (1, .int (cb_ a (i + 1))), (2, .int (nI (i + 1)))]) hl [2, 1, 0] (by simp only [lv_pick, cb_, h9, h21, h34, true_and, false_and, not_true_eq_false, not_false_eq_true, if_true, if_false]; rfl))
  exact L4 (k - 0 + 1) 0 (by omega) (by omega)  H locs ls hW hS (lv_sub hl [2, 1, 0] rfl)
