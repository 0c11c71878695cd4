/-! Plan and Shares: how what is missing is borne -/
def be_ (a : St_) (j : Nat) (x : Int64) : St_ := sl_ (sl_ a 7 0 j (gl_ a 7 0 j + x)) 9 0 0 (gl_ (sl_ a 7 0 j (gl_ a 7 0 j + x)) 9 0 0 - x)
set_option maxHeartbeats 4000000 in
set_option maxRecDepth 100000 in
theorem c_X2_bear (l : Launch) {w : Gh_} (hI : In_ w) (a : St_) (j : Nat) (hj : j < 5) (x : Int64) : Fn_ l w yX2_bear (.code yX2_bear cX2_bear 4 none) { frames := 0, cells := 0, slots := 0, locals := 0 } 0 0 [.ref (ad_ w 5 0), .int (nI j), .long x] a (.inl none) (be_ a j x) := by
  refine Fn_of hI (by decide +kernel) (Nat.le_of_ble_eq_true rfl) ?_
  intro zp ze zs zm zb zt zc ls cx hr hlk hno hW hS hl
  replace cx : Cx_ zp zs zm zc _ cX2_bear 4 "MarginHouse$Plan" w := cx
  replace hl : lv_has ls 4 [(0, .ref (ad_ w 5 0)), (1, .int (nI j)), (2, .long x)] := hl
  obtain ⟨H, hH⟩ : ∃ H, zs.heap = H := ⟨_, rfl⟩
  rw [hH] at hW
  have hS : Fr_ w zs.heap H [] := by rw [← hH]; exact hS
  obtain ⟨locs, hlocs⟩ : ∃ x : List Loc, x = [] := ⟨_, rfl⟩
  rw [← hlocs] at hS ⊢
  rw [show W zp l ze _ zs zm _ zb zt zc zs.heap locs 0 0 _ (F0 zm 0 ls []) ↔ W zp l ze _ zs zm _ zb zt zc H locs 0 0 _ (F0 zm 0 ls []) from by rw [hH]]
  refine lv_aload_n cx.1 cx.2.1 dX2_bear_0 rfl (lv_at hl 0 rfl) ?_
  refine gf_X2_22 cx hW (by decide) dX2_bear_1 ?_
  refine lv_iload_n cx.1 cx.2.1 dX2_bear_4 rfl (lv_at hl 1 rfl) ?_
  refine lv_dup2_11 cx.1 cx.2.1 dX2_bear_5 rfl rfl ?_
  refine al_14 (j := j) cx hW (by decide) rfl (by omega) dX2_bear_6 ?_
  refine lv_lload_n cx.1 cx.2.1 dX2_bear_7 rfl (lv_at hl 2 rfl) ?_
  refine lv_ladd cx.1 cx.2.1 dX2_bear_8 ?_
  refine as_14 (j := j) cx hW hS (by decide) rfl (by omega) dX2_bear_9 (fun H locs hW hS => ?_)
  refine lv_aload_n cx.1 cx.2.1 dX2_bear_10 rfl (lv_at hl 0 rfl) ?_
  refine lv_dup cx.1 cx.2.1 dX2_bear_11 rfl ?_
  refine gf_X2_36 cx hW (by decide) dX2_bear_12 ?_
  refine lv_lload_n cx.1 cx.2.1 dX2_bear_15 rfl (lv_at hl 2 rfl) ?_
  refine lv_lsub cx.1 cx.2.1 dX2_bear_16 ?_
  refine pf_X2_36 cx hW hS (by decide) dX2_bear_17 (fun H locs hW hS => ?_)
  exact cr_v cx hr hlk hW hS (Nat.le_of_ble_eq_true rfl) (Nat.le_of_ble_eq_true rfl) dX2_bear_20 rfl rfl
def sy_ (a : St_) (q : Nat) : St_ := sl_ (sl_ a 9 0 0 (mx_ 0 (-(gl_ a 5 0 q)))) 5 0 q (gl_ (sl_ a 9 0 0 (mx_ 0 (-(gl_ a 5 0 q)))) 5 0 q + gl_ (sl_ a 9 0 0 (mx_ 0 (-(gl_ a 5 0 q)))) 9 0 0)
def zl_ (b : St_) : Nat → St_
  | 0 => b
  | i + 1 => sl_ (zl_ b i) 7 0 i 0
set_option maxHeartbeats 4000000 in
set_option maxRecDepth 100000 in
theorem c_X2_startLayers (l : Launch) {w : Gh_} (hI : In_ w) (a : St_) (q : Nat) (hq : q < 8) : Fn_ l w yX2_startLayers (.code yX2_startLayers cX2_startLayers 3 none) { frames := 1, cells := 0, slots := 0, locals := 23 } 0 0 [.ref (ad_ w 5 0), .int (nI q)] a (.inl none) (zl_ (sy_ a q) 5) := by
  refine Fn_of hI (by decide +kernel) (Nat.le_of_ble_eq_true rfl) ?_
  intro zp ze zs zm zb zt zc ls cx hr hlk hno hW hS hl
  replace cx : Cx_ zp zs zm zc _ cX2_startLayers 3 "MarginHouse$Plan" w := cx
  replace hl : lv_has ls 3 [(0, .ref (ad_ w 5 0)), (1, .int (nI q))] := hl
  obtain ⟨H, hH⟩ : ∃ H, zs.heap = H := ⟨_, rfl⟩
  rw [hH] at hW
  have hS : Fr_ w zs.heap H [] := by rw [← hH]; exact hS
  obtain ⟨locs, hlocs⟩ : ∃ x : List Loc, x = [] := ⟨_, rfl⟩
  rw [← hlocs] at hS ⊢
  rw [show W zp l ze _ zs zm _ zb zt zc zs.heap locs 0 0 _ (F0 zm 0 ls []) ↔ W zp l ze _ zs zm _ zb zt zc H locs 0 0 _ (F0 zm 0 ls []) from by rw [hH]]
  refine lv_aload_n cx.1 cx.2.1 dX2_startLayers_0 rfl (lv_at hl 0 rfl) ?_
  refine lv_lconst (v := 0) cx.1 cx.2.1 dX2_startLayers_1 (by decide) ?_
  refine lv_aload_n cx.1 cx.2.1 dX2_startLayers_2 rfl (lv_at hl 0 rfl) ?_
  refine gf_X2_15 cx hW (by decide) dX2_startLayers_3 ?_
  refine lv_iload_n cx.1 cx.2.1 dX2_startLayers_6 rfl (lv_at hl 1 rfl) ?_
  refine al_12 (j := q) cx hW (by decide) rfl (by omega) dX2_startLayers_7 ?_
  refine lv_lneg cx.1 cx.2.1 dX2_startLayers_8 ?_
  refine mm_maxl cx hl nw_268 (Nat.le_of_ble_eq_true rfl) (Nat.le_of_ble_eq_true rfl) (Nat.le_of_ble_eq_true rfl) (Nat.le_of_ble_eq_true rfl) dX2_startLayers_9 ?_
  refine pf_X2_36 cx hW hS (by decide) dX2_startLayers_12 (fun H locs hW hS => ?_)
  refine lv_aload_n cx.1 cx.2.1 dX2_startLayers_15 rfl (lv_at hl 0 rfl) ?_
  refine gf_X2_15 cx hW (by decide) dX2_startLayers_16 ?_
  refine lv_iload_n cx.1 cx.2.1 dX2_startLayers_19 rfl (lv_at hl 1 rfl) ?_
  refine lv_dup2_11 cx.1 cx.2.1 dX2_startLayers_20 rfl rfl ?_
  refine al_12 (j := q) cx hW (by decide) rfl (by omega) dX2_startLayers_21 ?_
  refine lv_aload_n cx.1 cx.2.1 dX2_startLayers_22 rfl (lv_at hl 0 rfl) ?_
  refine gf_X2_36 cx hW (by decide) dX2_startLayers_23 ?_
  refine lv_ladd cx.1 cx.2.1 dX2_startLayers_26 ?_
  refine as_12 (j := q) cx hW hS (by decide) rfl (by omega) dX2_startLayers_27 (fun H locs hW hS => ?_)
  refine lv_iconst (v := 0) cx.1 cx.2.1 dX2_startLayers_28 (by decide) ?_
  refine lv_istore_n (lv' := [(2, .int 0), (0, .ref (ad_ w 5 0)), (1, .int (nI q))]) cx.1 cx.2.1 dX2_startLayers_29 rfl hl (by decide) rfl (fun ls hl => ?_)
  have L30 : ∀ (d i : Nat), i ≤ 5 → 5 - i < d → ∀ (H : Heap) (locs : List Loc) (ls : Array Slot), Hd_ w (zl_ (sy_ a q) i) H → Fr_ w zs.heap H locs → lv_has ls 3 [(0, .ref (ad_ w 5 0)), (2, .int (nI i))] → W zp l ze { frames := 1, cells := 0, slots := 0, locals := 23 } zs zm ([.ref (ad_ w 5 0), .int (nI q)] : List Value).toArray zb zt zc H locs 0 0 (vx_MQ zb (Qc_ w (.inl none) (zl_ (sy_ a q) 5)) (XC_ w (.inl none) (zl_ (sy_ a q) 5)) ([.ref (ad_ w 5 0), .int (nI q)] : List Value).toArray zs 0 0 (fun q => lo_ w ≤ q)) (F0 zm 30 ls []) := by
    intro d
    induction d with
    | zero => intro i _ hd; exact absurd hd (Nat.not_lt_zero _)
    | succ d ih30 =>
      intro i hi hdi  H locs ls hW hS hl
      refine lv_iload_n cx.1 cx.2.1 dX2_startLayers_30 rfl (lv_at hl 1 rfl) ?_
      refine lv_iconst (v := 5) cx.1 cx.2.1 dX2_startLayers_31 (by decide) ?_
      refine tp_i (y := nI 5) (by decide +kernel) ?_
      refine lv_icmp_ge (tgt := 48) cx.1 cx.2.1 dX2_startLayers_32 (by decide) (fun h32 => ?_) (fun h32 => ?_)
      · skip
        have h32 : 5 ≤ i := (nI_leI (by omega) (by omega)).mp h32
        have e30 : i = 5 := by omega
        try rw [e30] at hl
        try rw [e30] at hW
        exact cr_v cx hr hlk hW hS (Nat.le_of_ble_eq_true rfl) (Nat.le_of_ble_eq_true rfl) dX2_startLayers_48 rfl rfl
      · skip
        have h32 : i < 5 := Nat.not_le.mp (fun q => h32 ((nI_leI (by omega) (by omega)).mpr q))
        refine lv_aload_n cx.1 cx.2.1 dX2_startLayers_35 rfl (lv_at hl 0 rfl) ?_
        refine gf_X2_22 cx hW (by decide) dX2_startLayers_36 ?_
        refine lv_iload_n cx.1 cx.2.1 dX2_startLayers_39 rfl (lv_at hl 1 rfl) ?_
        refine lv_lconst (v := 0) cx.1 cx.2.1 dX2_startLayers_40 (by decide) ?_
        refine as_14 (j := i) cx hW hS (by decide) rfl (by omega) dX2_startLayers_41 (fun H locs hW hS => ?_)
        refine lv_iinc (v := nI (i + 1)) (lv' := [(2, .int (nI (i + 1))), (0, .ref (ad_ w 5 0))]) cx.1 cx.2.1 dX2_startLayers_42 hl (k := 1) rfl (nI_inc i) (by decide) rfl (fun ls hl => ?_)
        refine lv_goto (tgt := 30) cx.1 cx.2.1 dX2_startLayers_45 (by decide) ?_
        exact ih30 (i + 1) (by omega) (by omega)  H locs ls hW hS (lv_sub (l' := [(0, .ref (ad_ w 5 0)), (2, .int (nI (i + 1)))]) hl [1, 0] rfl)
  exact L30 (5 - 0 + 1) 0 (by omega) (by omega)  H locs ls hW hS (lv_sub hl [1, 0] rfl)
def bo_ (a : St_) (q : Nat) : St_ := be_ (sl_ a 6 0 q (gl_ a 6 0 q - mn_ (gl_ a 9 0 0) (gl_ a 6 0 q))) 0 (mn_ (gl_ a 9 0 0) (gl_ a 6 0 q))
set_option maxHeartbeats 4000000 in
set_option maxRecDepth 100000 in
theorem c_X2_bearByOwnContribution (l : Launch) {w : Gh_} (hI : In_ w) (a : St_) (q : Nat) (hq : q < 8) : Fn_ l w yX2_bearByOwnContribution (.code yX2_bearByOwnContribution cX2_bearByOwnContribution 4 none) { frames := 1, cells := 0, slots := 0, locals := 23 } 0 0 [.ref (ad_ w 5 0), .int (nI q)] a (.inl none) (bo_ a q) := by
  refine Fn_of hI (by decide +kernel) (Nat.le_of_ble_eq_true rfl) ?_
  intro zp ze zs zm zb zt zc ls cx hr hlk hno hW hS hl
  replace cx : Cx_ zp zs zm zc _ cX2_bearByOwnContribution 4 "MarginHouse$Plan" w := cx
  replace hl : lv_has ls 4 [(0, .ref (ad_ w 5 0)), (1, .int (nI q))] := hl
  obtain ⟨H, hH⟩ : ∃ H, zs.heap = H := ⟨_, rfl⟩
  rw [hH] at hW
  have hS : Fr_ w zs.heap H [] := by rw [← hH]; exact hS
  obtain ⟨locs, hlocs⟩ : ∃ x : List Loc, x = [] := ⟨_, rfl⟩
  rw [← hlocs] at hS ⊢
  rw [show W zp l ze _ zs zm _ zb zt zc zs.heap locs 0 0 _ (F0 zm 0 ls []) ↔ W zp l ze _ zs zm _ zb zt zc H locs 0 0 _ (F0 zm 0 ls []) from by rw [hH]]
  refine lv_aload_n cx.1 cx.2.1 dX2_bearByOwnContribution_0 rfl (lv_at hl 0 rfl) ?_
  refine gf_X2_36 cx hW (by decide) dX2_bearByOwnContribution_1 ?_
  refine lv_aload_n cx.1 cx.2.1 dX2_bearByOwnContribution_4 rfl (lv_at hl 0 rfl) ?_
  refine gf_X2_19 cx hW (by decide) dX2_bearByOwnContribution_5 ?_
  refine lv_iload_n cx.1 cx.2.1 dX2_bearByOwnContribution_8 rfl (lv_at hl 1 rfl) ?_
  refine al_13 (j := q) cx hW (by decide) rfl (by omega) dX2_bearByOwnContribution_9 ?_
  refine mm_minl cx hl nw_273 (Nat.le_of_ble_eq_true rfl) (Nat.le_of_ble_eq_true rfl) (Nat.le_of_ble_eq_true rfl) (Nat.le_of_ble_eq_true rfl) dX2_bearByOwnContribution_10 ?_
  refine lv_lstore_n (lv' := [(2, .long (mn_ (gl_ a 9 0 0) (gl_ a 6 0 q))), (0, .ref (ad_ w 5 0)), (1, .int (nI q))]) cx.1 cx.2.1 dX2_bearByOwnContribution_13 rfl hl (by decide) rfl (fun ls hl => ?_)
  refine lv_aload_n cx.1 cx.2.1 dX2_bearByOwnContribution_14 rfl (lv_at hl 1 rfl) ?_
  refine gf_X2_19 cx hW (by decide) dX2_bearByOwnContribution_15 ?_
  refine lv_iload_n cx.1 cx.2.1 dX2_bearByOwnContribution_18 rfl (lv_at hl 2 rfl) ?_
  refine lv_dup2_11 cx.1 cx.2.1 dX2_bearByOwnContribution_19 rfl rfl ?_
  refine al_13 (j := q) cx hW (by decide) rfl (by omega) dX2_bearByOwnContribution_20 ?_
  refine lv_lload_n cx.1 cx.2.1 dX2_bearByOwnContribution_21 rfl (lv_at hl 0 rfl) ?_
  refine lv_lsub cx.1 cx.2.1 dX2_bearByOwnContribution_22 ?_
  refine as_13 (j := q) cx hW hS (by decide) rfl (by omega) dX2_bearByOwnContribution_23 (fun H locs hW hS => ?_)
  refine lv_aload_n cx.1 cx.2.1 dX2_bearByOwnContribution_24 rfl (lv_at hl 1 rfl) ?_
  refine lv_iconst (v := 0) cx.1 cx.2.1 dX2_bearByOwnContribution_25 (by decide) ?_
  refine tp_i (y := nI 0) (by decide +kernel) ?_
  refine lv_lload_n cx.1 cx.2.1 dX2_bearByOwnContribution_26 rfl (lv_at hl 0 rfl) ?_
  refine ck_V (v := none) (As := [.int (nI 0), .long (mn_ (gl_ a 9 0 0) (gl_ a 6 0 q))]) (rest := []) (k := 5) (i := 0) (T := TX2) cx hW hS hl (by decide) rfl rfl (c_X2_bear l hI (sl_ a 6 0 q ((gl_ a 6 0 q) - (mn_ (gl_ a 9 0 0) (gl_ a 6 0 q)))) 0 (by decide) (mn_ (gl_ a 9 0 0) (gl_ a 6 0 q))) cw_X2_bear nw_277 nw_530 nw_276 rfl rfl (Nat.le_of_ble_eq_true rfl) rfl rfl ⟨Nat.le_of_ble_eq_true rfl, Nat.le_of_ble_eq_true rfl⟩ ⟨Nat.le_of_ble_eq_true rfl, Nat.le_of_ble_eq_true rfl⟩ dX2_bearByOwnContribution_27 (fun H locs hW hS => ?_)
  refine W.eq (g2 := F0 zm 30 ls []) rfl ?_
  exact cr_v cx hr hlk hW hS (Nat.le_of_ble_eq_true rfl) (Nat.le_of_ble_eq_true rfl) dX2_bearByOwnContribution_30 rfl rfl
def bp_ (a : St_) : St_ := be_ (sl_ a 8 0 0 (gl_ a 8 0 0 - mn_ (gl_ a 9 0 0) (gl_ a 8 0 0))) 1 (mn_ (gl_ a 9 0 0) (gl_ a 8 0 0))
set_option maxHeartbeats 4000000 in
set_option maxRecDepth 100000 in
theorem c_X2_bearByCapital (l : Launch) {w : Gh_} (hI : In_ w) (a : St_) : Fn_ l w yX2_bearByCapital (.code yX2_bearByCapital cX2_bearByCapital 3 none) { frames := 1, cells := 0, slots := 0, locals := 23 } 0 0 [.ref (ad_ w 5 0)] a (.inl none) (bp_ a) := by
  refine Fn_of hI (by decide +kernel) (Nat.le_of_ble_eq_true rfl) ?_
  intro zp ze zs zm zb zt zc ls cx hr hlk hno hW hS hl
  replace cx : Cx_ zp zs zm zc _ cX2_bearByCapital 3 "MarginHouse$Plan" w := cx
  replace hl : lv_has ls 3 [(0, .ref (ad_ w 5 0))] := hl
  obtain ⟨H, hH⟩ : ∃ H, zs.heap = H := ⟨_, rfl⟩
  rw [hH] at hW
  have hS : Fr_ w zs.heap H [] := by rw [← hH]; exact hS
  obtain ⟨locs, hlocs⟩ : ∃ x : List Loc, x = [] := ⟨_, rfl⟩
  rw [← hlocs] at hS ⊢
  rw [show W zp l ze _ zs zm _ zb zt zc zs.heap locs 0 0 _ (F0 zm 0 ls []) ↔ W zp l ze _ zs zm _ zb zt zc H locs 0 0 _ (F0 zm 0 ls []) from by rw [hH]]
  refine lv_aload_n cx.1 cx.2.1 dX2_bearByCapital_0 rfl (lv_at hl 0 rfl) ?_
  refine gf_X2_36 cx hW (by decide) dX2_bearByCapital_1 ?_
  refine lv_aload_n cx.1 cx.2.1 dX2_bearByCapital_4 rfl (lv_at hl 0 rfl) ?_
  refine gf_X2_32 cx hW (by decide) dX2_bearByCapital_5 ?_
  refine mm_minl cx hl nw_273 (Nat.le_of_ble_eq_true rfl) (Nat.le_of_ble_eq_true rfl) (Nat.le_of_ble_eq_true rfl) (Nat.le_of_ble_eq_true rfl) dX2_bearByCapital_8 ?_
  refine lv_lstore_n (lv' := [(1, .long (mn_ (gl_ a 9 0 0) (gl_ a 8 0 0))), (0, .ref (ad_ w 5 0))]) cx.1 cx.2.1 dX2_bearByCapital_11 rfl hl (by decide) rfl (fun ls hl => ?_)
  refine lv_aload_n cx.1 cx.2.1 dX2_bearByCapital_12 rfl (lv_at hl 1 rfl) ?_
  refine lv_dup cx.1 cx.2.1 dX2_bearByCapital_13 rfl ?_
  refine gf_X2_32 cx hW (by decide) dX2_bearByCapital_14 ?_
  refine lv_lload_n cx.1 cx.2.1 dX2_bearByCapital_17 rfl (lv_at hl 0 rfl) ?_
  refine lv_lsub cx.1 cx.2.1 dX2_bearByCapital_18 ?_
  refine pf_X2_32 cx hW hS (by decide) dX2_bearByCapital_19 (fun H locs hW hS => ?_)
  refine lv_aload_n cx.1 cx.2.1 dX2_bearByCapital_22 rfl (lv_at hl 1 rfl) ?_
  refine lv_iconst (v := 1) cx.1 cx.2.1 dX2_bearByCapital_23 (by decide) ?_
  refine tp_i (y := nI 1) (by decide +kernel) ?_
  refine lv_lload_n cx.1 cx.2.1 dX2_bearByCapital_24 rfl (lv_at hl 0 rfl) ?_
  refine ck_V (v := none) (As := [.int (nI 1), .long (mn_ (gl_ a 9 0 0) (gl_ a 8 0 0))]) (rest := []) (k := 5) (i := 0) (T := TX2) cx hW hS hl (by decide) rfl rfl (c_X2_bear l hI (sl_ a 8 0 0 ((gl_ a 8 0 0) - (mn_ (gl_ a 9 0 0) (gl_ a 8 0 0)))) 1 (by decide) (mn_ (gl_ a 9 0 0) (gl_ a 8 0 0))) cw_X2_bear nw_277 nw_530 nw_276 rfl rfl (Nat.le_of_ble_eq_true rfl) rfl rfl ⟨Nat.le_of_ble_eq_true rfl, Nat.le_of_ble_eq_true rfl⟩ ⟨Nat.le_of_ble_eq_true rfl, Nat.le_of_ble_eq_true rfl⟩ dX2_bearByCapital_25 (fun H locs hW hS => ?_)
  refine W.eq (g2 := F0 zm 28 ls []) rfl ?_
  exact cr_v cx hr hlk hW hS (Nat.le_of_ble_eq_true rfl) (Nat.le_of_ble_eq_true rfl) dX2_bearByCapital_28 rfl rfl
def bl_ (a : St_) : St_ := be_ a 4 (gl_ a 9 0 0)
set_option maxHeartbeats 4000000 in
set_option maxRecDepth 100000 in
theorem c_X2_leaveTheRest (l : Launch) {w : Gh_} (hI : In_ w) (a : St_) : Fn_ l w yX2_leaveTheRest (.code yX2_leaveTheRest cX2_leaveTheRest 1 none) { frames := 1, cells := 0, slots := 0, locals := 23 } 0 0 [.ref (ad_ w 5 0)] a (.inl none) (bl_ a) := by
  refine Fn_of hI (by decide +kernel) (Nat.le_of_ble_eq_true rfl) ?_
  intro zp ze zs zm zb zt zc ls cx hr hlk hno hW hS hl
  replace cx : Cx_ zp zs zm zc _ cX2_leaveTheRest 1 "MarginHouse$Plan" w := cx
  replace hl : lv_has ls 1 [(0, .ref (ad_ w 5 0))] := hl
  obtain ⟨H, hH⟩ : ∃ H, zs.heap = H := ⟨_, rfl⟩
  rw [hH] at hW
  have hS : Fr_ w zs.heap H [] := by rw [← hH]; exact hS
  obtain ⟨locs, hlocs⟩ : ∃ x : List Loc, x = [] := ⟨_, rfl⟩
  rw [← hlocs] at hS ⊢
  rw [show W zp l ze _ zs zm _ zb zt zc zs.heap locs 0 0 _ (F0 zm 0 ls []) ↔ W zp l ze _ zs zm _ zb zt zc H locs 0 0 _ (F0 zm 0 ls []) from by rw [hH]]
  refine lv_aload_n cx.1 cx.2.1 dX2_leaveTheRest_0 rfl (lv_at hl 0 rfl) ?_
  refine lv_iconst (v := 4) cx.1 cx.2.1 dX2_leaveTheRest_1 (by decide) ?_
  refine tp_i (y := nI 4) (by decide +kernel) ?_
  refine lv_aload_n cx.1 cx.2.1 dX2_leaveTheRest_2 rfl (lv_at hl 0 rfl) ?_
  refine gf_X2_36 cx hW (by decide) dX2_leaveTheRest_3 ?_
  refine ck_V (v := none) (As := [.int (nI 4), .long (gl_ a 9 0 0)]) (rest := []) (k := 5) (i := 0) (T := TX2) cx hW hS hl (by decide) rfl rfl (c_X2_bear l hI a 4 (by decide) (gl_ a 9 0 0)) cw_X2_bear nw_277 nw_530 nw_276 rfl rfl (Nat.le_of_ble_eq_true rfl) rfl rfl ⟨Nat.le_of_ble_eq_true rfl, Nat.le_of_ble_eq_true rfl⟩ ⟨Nat.le_of_ble_eq_true rfl, Nat.le_of_ble_eq_true rfl⟩ dX2_leaveTheRest_6 (fun H locs hW hS => ?_)
  refine W.eq (g2 := F0 zm 9 ls []) rfl ?_
  exact cr_v cx hr hlk hW hS (Nat.le_of_ble_eq_true rfl) (Nat.le_of_ble_eq_true rfl) dX2_leaveTheRest_9 rfl rfl
def bw_ (a : St_) : Nat → St_
  | 0 => a
  | i + 1 => sl_ (bw_ a i) 11 0 i (gl_ (bw_ a i) 10 0 i)
set_option maxHeartbeats 4000000 in
set_option maxRecDepth 100000 in
theorem c_X3_bearWhole (l : Launch) {w : Gh_} (hI : In_ w) (a : St_) : Fn_ l w yX3_bearWhole (.code yX3_bearWhole cX3_bearWhole 2 none) { frames := 0, cells := 0, slots := 0, locals := 0 } 0 0 [.ref (ad_ w 15 0)] a (.inl none) (bw_ a 8) := by
  refine Fn_of hI (by decide +kernel) (Nat.le_of_ble_eq_true rfl) ?_
  intro zp ze zs zm zb zt zc ls cx hr hlk hno hW hS hl
  replace cx : Cx_ zp zs zm zc _ cX3_bearWhole 2 "MarginHouse$Shares" w := cx
  replace hl : lv_has ls 2 [(0, .ref (ad_ w 15 0))] := hl
  obtain ⟨H, hH⟩ : ∃ H, zs.heap = H := ⟨_, rfl⟩
  rw [hH] at hW
  have hS : Fr_ w zs.heap H [] := by rw [← hH]; exact hS
  obtain ⟨locs, hlocs⟩ : ∃ x : List Loc, x = [] := ⟨_, rfl⟩
  rw [← hlocs] at hS ⊢
  rw [show W zp l ze _ zs zm _ zb zt zc zs.heap locs 0 0 _ (F0 zm 0 ls []) ↔ W zp l ze _ zs zm _ zb zt zc H locs 0 0 _ (F0 zm 0 ls []) from by rw [hH]]
  refine lv_iconst (v := 0) cx.1 cx.2.1 dX3_bearWhole_0 (by decide) ?_
  refine lv_istore_n (lv' := [(1, .int 0), (0, .ref (ad_ w 15 0))]) cx.1 cx.2.1 dX3_bearWhole_1 rfl hl (by decide) rfl (fun ls hl => ?_)
  have L2 : ∀ (d i : Nat), i ≤ 8 → 8 - i < d → ∀ (H : Heap) (locs : List Loc) (ls : Array Slot), Hd_ w (bw_ a i) H → Fr_ w zs.heap H locs → lv_has ls 2 [(0, .ref (ad_ w 15 0)), (1, .int (nI i))] → W zp l ze { frames := 0, cells := 0, slots := 0, locals := 0 } zs zm ([.ref (ad_ w 15 0)] : List Value).toArray zb zt zc H locs 0 0 (vx_MQ zb (Qc_ w (.inl none) (bw_ a 8)) (XC_ w (.inl none) (bw_ a 8)) ([.ref (ad_ w 15 0)] : List Value).toArray zs 0 0 (fun q => lo_ w ≤ q)) (F0 zm 2 ls []) := by
    intro d
    induction d with
    | zero => intro i _ hd; exact absurd hd (Nat.not_lt_zero _)
    | succ d ih2 =>
      intro i hi hdi  H locs ls hW hS hl
      refine lv_iload_n cx.1 cx.2.1 dX3_bearWhole_2 rfl (lv_at hl 1 rfl) ?_
      refine lv_bipush (v := 8) cx.1 cx.2.1 dX3_bearWhole_3 (by decide) ?_
      refine tp_i (y := nI 8) (by decide +kernel) ?_
      refine lv_icmp_ge (tgt := 26) cx.1 cx.2.1 dX3_bearWhole_5 (by decide) (fun h5 => ?_) (fun h5 => ?_)
      · skip
        have h5 : 8 ≤ i := (nI_leI (by omega) (by omega)).mp h5
        have e2 : i = 8 := by omega
        try rw [e2] at hl
        try rw [e2] at hW
        exact cr_v cx hr hlk hW hS (Nat.le_of_ble_eq_true rfl) (Nat.le_of_ble_eq_true rfl) dX3_bearWhole_26 rfl rfl
      · skip
        have h5 : i < 8 := Nat.not_le.mp (fun q => h5 ((nI_leI (by omega) (by omega)).mpr q))
        refine lv_aload_n cx.1 cx.2.1 dX3_bearWhole_8 rfl (lv_at hl 0 rfl) ?_
        refine gf_X3_15 cx hW (by decide) dX3_bearWhole_9 ?_
        refine lv_iload_n cx.1 cx.2.1 dX3_bearWhole_12 rfl (lv_at hl 1 rfl) ?_
        refine lv_aload_n cx.1 cx.2.1 dX3_bearWhole_13 rfl (lv_at hl 0 rfl) ?_
        refine gf_X3_9 cx hW (by decide) dX3_bearWhole_14 ?_
        refine lv_iload_n cx.1 cx.2.1 dX3_bearWhole_17 rfl (lv_at hl 1 rfl) ?_
        refine al_16 (j := i) cx hW (by decide) rfl (by omega) dX3_bearWhole_18 ?_
        refine as_17 (j := i) cx hW hS (by decide) rfl (by omega) dX3_bearWhole_19 (fun H locs hW hS => ?_)
        refine lv_iinc (v := nI (i + 1)) (lv' := [(1, .int (nI (i + 1))), (0, .ref (ad_ w 15 0))]) cx.1 cx.2.1 dX3_bearWhole_20 hl (k := 1) rfl (nI_inc i) (by decide) rfl (fun ls hl => ?_)
        refine lv_goto (tgt := 2) cx.1 cx.2.1 dX3_bearWhole_23 (by decide) ?_
        exact ih2 (i + 1) (by omega) (by omega)  H locs ls hW hS (lv_sub (l' := [(0, .ref (ad_ w 15 0)), (1, .int (nI (i + 1)))]) hl [1, 0] rfl)
  exact L2 (8 - 0 + 1) 0 (by omega) (by omega)  H locs ls hW hS (lv_sub hl [1, 0] rfl)
def rp_ (x : Int64) (h : Int32) : Int64 := (x >>> (h.toInt64 &&& 63)) &&& 65535
def rv_ (r x y : Int64) : Int64 := (r <<< ((16 : Int32).toInt64 &&& 63)) + x * y
def rq_ (q v t : Int64) : Int64 := (q <<< ((16 : Int32).toInt64 &&& 63)) + v / t
def rr_ (v t : Int64) : Int64 := v - v / t * t
def v1_ (y x : Int64) : Int64 := rv_ 0 x (rp_ y 32)
def v2_ (y x t : Int64) : Int64 := rv_ (rr_ (v1_ y x) t) x (rp_ y 16)
def v3_ (y x t : Int64) : Int64 := rv_ (rr_ (v2_ y x t) t) x (rp_ y 0)
def dq_ (y x t : Int64) : Int64 := rq_ (rq_ (rq_ 0 (v1_ y x) t) (v2_ y x t) t) (v3_ y x t) t
def dr_ (y x t : Int64) : Int64 := rr_ (v3_ y x t) t
def rn_ (a : St_) (x t : Int64) (i : Nat) : St_ := sl_ (sl_ a 11 0 i (dq_ (gl_ a 10 0 i) x t)) 12 0 i (dr_ (gl_ a 10 0 i) x t)
set_option maxHeartbeats 4000000 in
set_option maxRecDepth 100000 in
theorem c_X3_roundDown (l : Launch) {w : Gh_} (hI : In_ w) (a : St_) (i : Nat) (hi : i < 8) (x t : Int64) (ht : ¬ t = 0) : Fn_ l w yX3_roundDown (.code yX3_roundDown cX3_roundDown 15 none) { frames := 0, cells := 0, slots := 0, locals := 0 } 0 0 [.ref (ad_ w 15 0), .int (nI i), .long x, .long t] a (.inl none) (rn_ a x t i) := by
  refine Fn_of hI (by decide +kernel) (Nat.le_of_ble_eq_true rfl) ?_
  intro zp ze zs zm zb zt zc ls cx hr hlk hno hW hS hl
  replace cx : Cx_ zp zs zm zc _ cX3_roundDown 15 "MarginHouse$Shares" w := cx
  replace hl : lv_has ls 15 [(0, .ref (ad_ w 15 0)), (1, .int (nI i)), (2, .long x), (4, .long t)] := hl
  obtain ⟨H, hH⟩ : ∃ H, zs.heap = H := ⟨_, rfl⟩
  rw [hH] at hW
  have hS : Fr_ w zs.heap H [] := by rw [← hH]; exact hS
  obtain ⟨locs, hlocs⟩ : ∃ x : List Loc, x = [] := ⟨_, rfl⟩
  rw [← hlocs] at hS ⊢
  rw [show W zp l ze _ zs zm _ zb zt zc zs.heap locs 0 0 _ (F0 zm 0 ls []) ↔ W zp l ze _ zs zm _ zb zt zc H locs 0 0 _ (F0 zm 0 ls []) from by rw [hH]]
  refine lv_lconst (v := 0) cx.1 cx.2.1 dX3_roundDown_0 (by decide) ?_
  refine lv_lstore (lv' := [(6, .long 0), (0, .ref (ad_ w 15 0)), (1, .int (nI i)), (2, .long x), (4, .long t)]) cx.1 cx.2.1 dX3_roundDown_1 hl (by decide) rfl (fun ls hl => ?_)
  refine lv_lconst (v := 0) cx.1 cx.2.1 dX3_roundDown_3 (by decide) ?_
  refine lv_lstore (lv' := [(8, .long 0), (6, .long 0), (0, .ref (ad_ w 15 0)), (1, .int (nI i)), (2, .long x), (4, .long t)]) cx.1 cx.2.1 dX3_roundDown_4 hl (by decide) rfl (fun ls hl => ?_)
  refine lv_bipush (v := 32) cx.1 cx.2.1 dX3_roundDown_6 (by decide) ?_
  refine lv_istore (lv' := [(10, .int 32), (8, .long 0), (6, .long 0), (0, .ref (ad_ w 15 0)), (1, .int (nI i)), (2, .long x), (4, .long t)]) cx.1 cx.2.1 dX3_roundDown_8 hl (by decide) rfl (fun ls hl => ?_)
  refine lv_iload cx.1 cx.2.1 dX3_roundDown_10 (lv_at hl 0 rfl) ?_
  refine lv_if_lt (tgt := 68) cx.1 cx.2.1 dX3_roundDown_12 (by decide) (fun zz => absurd zz (by decide)) (fun h12 => ?_)
  refine lv_aload_n cx.1 cx.2.1 dX3_roundDown_15 rfl (lv_at hl 3 rfl) ?_
  refine gf_X3_9 cx hW (by decide) dX3_roundDown_16 ?_
  refine lv_iload_n cx.1 cx.2.1 dX3_roundDown_19 rfl (lv_at hl 4 rfl) ?_
  refine al_16 (j := i) cx hW (by decide) rfl (by omega) dX3_roundDown_20 ?_
  refine lv_iload cx.1 cx.2.1 dX3_roundDown_21 (lv_at hl 0 rfl) ?_
  refine lv_lshr (v := (gl_ a 10 0 i) >>> ((32 : Int32).toInt64 &&& 63)) cx.1 cx.2.1 dX3_roundDown_23 rfl ?_
  refine lv_ldc2 (own := "MarginHouse$Shares") (v := 65535) cx.1 cx.2.1 cx.2.2.2.1 (cx.2.2.2.2.1 _ nw_303) dX3_roundDown_24 ?_
  refine lv_land cx.1 cx.2.1 dX3_roundDown_27 ?_
  refine tp_j (y := rp_ (gl_ a 10 0 i) 32) rfl ?_
  refine lv_lstore (lv' := [(11, .long (rp_ (gl_ a 10 0 i) 32)), (10, .int 32), (8, .long 0), (6, .long 0), (0, .ref (ad_ w 15 0)), (1, .int (nI i)), (2, .long x), (4, .long t)]) cx.1 cx.2.1 dX3_roundDown_28 hl (by decide) rfl (fun ls hl => ?_)
  refine lv_lload cx.1 cx.2.1 dX3_roundDown_30 (lv_at hl 2 rfl) ?_
  refine lv_bipush (v := 16) cx.1 cx.2.1 dX3_roundDown_32 (by decide) ?_
  refine lv_lshl (v := 0 <<< ((16 : Int32).toInt64 &&& 63)) cx.1 cx.2.1 dX3_roundDown_34 rfl ?_
  refine lv_lload_n cx.1 cx.2.1 dX3_roundDown_35 rfl (lv_at hl 6 rfl) ?_
  refine lv_lload cx.1 cx.2.1 dX3_roundDown_36 (lv_at hl 0 rfl) ?_
  refine lv_lmul cx.1 cx.2.1 dX3_roundDown_38 ?_
  refine lv_ladd cx.1 cx.2.1 dX3_roundDown_39 ?_
  refine tp_j (y := v1_ (gl_ a 10 0 i) x) rfl ?_
  refine lv_lstore (lv' := [(13, .long (v1_ (gl_ a 10 0 i) x)), (11, .long (rp_ (gl_ a 10 0 i) 32)), (10, .int 32), (8, .long 0), (6, .long 0), (0, .ref (ad_ w 15 0)), (1, .int (nI i)), (2, .long x), (4, .long t)]) cx.1 cx.2.1 dX3_roundDown_40 hl (by decide) rfl (fun ls hl => ?_)
  refine lv_lload cx.1 cx.2.1 dX3_roundDown_42 (lv_at hl 4 rfl) ?_
  refine lv_bipush (v := 16) cx.1 cx.2.1 dX3_roundDown_44 (by decide) ?_
  refine lv_lshl (v := 0 <<< ((16 : Int32).toInt64 &&& 63)) cx.1 cx.2.1 dX3_roundDown_46 rfl ?_
  refine lv_lload cx.1 cx.2.1 dX3_roundDown_47 (lv_at hl 0 rfl) ?_
  refine lv_lload cx.1 cx.2.1 dX3_roundDown_49 (lv_at hl 8 rfl) ?_
  refine lv_ldiv cx.1 cx.2.1 dX3_roundDown_51 ht ?_
  refine lv_ladd cx.1 cx.2.1 dX3_roundDown_52 ?_
  refine tp_j (y := rq_ 0 (v1_ (gl_ a 10 0 i) x) t) rfl ?_
  refine lv_lstore (lv' := [(6, .long (rq_ 0 (v1_ (gl_ a 10 0 i) x) t)), (13, .long (v1_ (gl_ a 10 0 i) x)), (11, .long (rp_ (gl_ a 10 0 i) 32)), (10, .int 32), (8, .long 0), (0, .ref (ad_ w 15 0)), (1, .int (nI i)), (2, .long x), (4, .long t)]) cx.1 cx.2.1 dX3_roundDown_53 hl (by decide) rfl (fun ls hl => ?_)
  refine lv_lload cx.1 cx.2.1 dX3_roundDown_55 (lv_at hl 1 rfl) ?_
  refine lv_lload cx.1 cx.2.1 dX3_roundDown_57 (lv_at hl 8 rfl) ?_
  refine lv_lrem cx.1 cx.2.1 dX3_roundDown_59 ht ?_
  refine tp_j (y := rr_ (v1_ (gl_ a 10 0 i) x) t) rfl ?_
  refine lv_lstore (lv' := [(8, .long (rr_ (v1_ (gl_ a 10 0 i) x) t)), (6, .long (rq_ 0 (v1_ (gl_ a 10 0 i) x) t)), (13, .long (v1_ (gl_ a 10 0 i) x)), (11, .long (rp_ (gl_ a 10 0 i) 32)), (10, .int 32), (0, .ref (ad_ w 15 0)), (1, .int (nI i)), (2, .long x), (4, .long t)]) cx.1 cx.2.1 dX3_roundDown_60 hl (by decide) rfl (fun ls hl => ?_)
  refine lv_iinc (v := 16) (lv' := [(10, .int 16), (8, .long (rr_ (v1_ (gl_ a 10 0 i) x) t)), (6, .long (rq_ 0 (v1_ (gl_ a 10 0 i) x) t)), (13, .long (v1_ (gl_ a 10 0 i) x)), (11, .long (rp_ (gl_ a 10 0 i) 32)), (0, .ref (ad_ w 15 0)), (1, .int (nI i)), (2, .long x), (4, .long t)]) cx.1 cx.2.1 dX3_roundDown_62 hl (k := 4) rfl (by decide +kernel) (by decide) rfl (fun ls hl => ?_)
  refine lv_goto (tgt := 10) cx.1 cx.2.1 dX3_roundDown_65 (by decide) ?_
  refine lv_iload cx.1 cx.2.1 dX3_roundDown_10 (lv_at hl 0 rfl) ?_
  refine lv_if_lt (tgt := 68) cx.1 cx.2.1 dX3_roundDown_12 (by decide) (fun zz => absurd zz (by decide)) (fun h12 => ?_)
  refine lv_aload_n cx.1 cx.2.1 dX3_roundDown_15 rfl (lv_at hl 5 rfl) ?_
  refine gf_X3_9 cx hW (by decide) dX3_roundDown_16 ?_
  refine lv_iload_n cx.1 cx.2.1 dX3_roundDown_19 rfl (lv_at hl 6 rfl) ?_
  refine al_16 (j := i) cx hW (by decide) rfl (by omega) dX3_roundDown_20 ?_
  refine lv_iload cx.1 cx.2.1 dX3_roundDown_21 (lv_at hl 0 rfl) ?_
  refine lv_lshr (v := (gl_ a 10 0 i) >>> ((16 : Int32).toInt64 &&& 63)) cx.1 cx.2.1 dX3_roundDown_23 rfl ?_
  refine lv_ldc2 (own := "MarginHouse$Shares") (v := 65535) cx.1 cx.2.1 cx.2.2.2.1 (cx.2.2.2.2.1 _ nw_303) dX3_roundDown_24 ?_
  refine lv_land cx.1 cx.2.1 dX3_roundDown_27 ?_
  refine tp_j (y := rp_ (gl_ a 10 0 i) 16) rfl ?_
  refine lv_lstore (lv' := [(11, .long (rp_ (gl_ a 10 0 i) 16)), (10, .int 16), (8, .long (rr_ (v1_ (gl_ a 10 0 i) x) t)), (6, .long (rq_ 0 (v1_ (gl_ a 10 0 i) x) t)), (13, .long (v1_ (gl_ a 10 0 i) x)), (0, .ref (ad_ w 15 0)), (1, .int (nI i)), (2, .long x), (4, .long t)]) cx.1 cx.2.1 dX3_roundDown_28 hl (by decide) rfl (fun ls hl => ?_)
  refine lv_lload cx.1 cx.2.1 dX3_roundDown_30 (lv_at hl 2 rfl) ?_
  refine lv_bipush (v := 16) cx.1 cx.2.1 dX3_roundDown_32 (by decide) ?_
  refine lv_lshl (v := (rr_ (v1_ (gl_ a 10 0 i) x) t) <<< ((16 : Int32).toInt64 &&& 63)) cx.1 cx.2.1 dX3_roundDown_34 rfl ?_
  refine lv_lload_n cx.1 cx.2.1 dX3_roundDown_35 rfl (lv_at hl 7 rfl) ?_
  refine lv_lload cx.1 cx.2.1 dX3_roundDown_36 (lv_at hl 0 rfl) ?_
  refine lv_lmul cx.1 cx.2.1 dX3_roundDown_38 ?_
  refine lv_ladd cx.1 cx.2.1 dX3_roundDown_39 ?_
  refine tp_j (y := v2_ (gl_ a 10 0 i) x t) rfl ?_
  refine lv_lstore (lv' := [(13, .long (v2_ (gl_ a 10 0 i) x t)), (11, .long (rp_ (gl_ a 10 0 i) 16)), (10, .int 16), (8, .long (rr_ (v1_ (gl_ a 10 0 i) x) t)), (6, .long (rq_ 0 (v1_ (gl_ a 10 0 i) x) t)), (0, .ref (ad_ w 15 0)), (1, .int (nI i)), (2, .long x), (4, .long t)]) cx.1 cx.2.1 dX3_roundDown_40 hl (by decide) rfl (fun ls hl => ?_)
  refine lv_lload cx.1 cx.2.1 dX3_roundDown_42 (lv_at hl 4 rfl) ?_
  refine lv_bipush (v := 16) cx.1 cx.2.1 dX3_roundDown_44 (by decide) ?_
  refine lv_lshl (v := (rq_ 0 (v1_ (gl_ a 10 0 i) x) t) <<< ((16 : Int32).toInt64 &&& 63)) cx.1 cx.2.1 dX3_roundDown_46 rfl ?_
  refine lv_lload cx.1 cx.2.1 dX3_roundDown_47 (lv_at hl 0 rfl) ?_
  refine lv_lload cx.1 cx.2.1 dX3_roundDown_49 (lv_at hl 8 rfl) ?_
  refine lv_ldiv cx.1 cx.2.1 dX3_roundDown_51 ht ?_
  refine lv_ladd cx.1 cx.2.1 dX3_roundDown_52 ?_
  refine tp_j (y := rq_ (rq_ 0 (v1_ (gl_ a 10 0 i) x) t) (v2_ (gl_ a 10 0 i) x t) t) rfl ?_
  refine lv_lstore (lv' := [(6, .long (rq_ (rq_ 0 (v1_ (gl_ a 10 0 i) x) t) (v2_ (gl_ a 10 0 i) x t) t)), (13, .long (v2_ (gl_ a 10 0 i) x t)), (11, .long (rp_ (gl_ a 10 0 i) 16)), (10, .int 16), (8, .long (rr_ (v1_ (gl_ a 10 0 i) x) t)), (0, .ref (ad_ w 15 0)), (1, .int (nI i)), (2, .long x), (4, .long t)]) cx.1 cx.2.1 dX3_roundDown_53 hl (by decide) rfl (fun ls hl => ?_)
  refine lv_lload cx.1 cx.2.1 dX3_roundDown_55 (lv_at hl 1 rfl) ?_
  refine lv_lload cx.1 cx.2.1 dX3_roundDown_57 (lv_at hl 8 rfl) ?_
  refine lv_lrem cx.1 cx.2.1 dX3_roundDown_59 ht ?_
  refine tp_j (y := rr_ (v2_ (gl_ a 10 0 i) x t) t) rfl ?_
  refine lv_lstore (lv' := [(8, .long (rr_ (v2_ (gl_ a 10 0 i) x t) t)), (6, .long (rq_ (rq_ 0 (v1_ (gl_ a 10 0 i) x) t) (v2_ (gl_ a 10 0 i) x t) t)), (13, .long (v2_ (gl_ a 10 0 i) x t)), (11, .long (rp_ (gl_ a 10 0 i) 16)), (10, .int 16), (0, .ref (ad_ w 15 0)), (1, .int (nI i)), (2, .long x), (4, .long t)]) cx.1 cx.2.1 dX3_roundDown_60 hl (by decide) rfl (fun ls hl => ?_)
  refine lv_iinc (v := 0) (lv' := [(10, .int 0), (8, .long (rr_ (v2_ (gl_ a 10 0 i) x t) t)), (6, .long (rq_ (rq_ 0 (v1_ (gl_ a 10 0 i) x) t) (v2_ (gl_ a 10 0 i) x t) t)), (13, .long (v2_ (gl_ a 10 0 i) x t)), (11, .long (rp_ (gl_ a 10 0 i) 16)), (0, .ref (ad_ w 15 0)), (1, .int (nI i)), (2, .long x), (4, .long t)]) cx.1 cx.2.1 dX3_roundDown_62 hl (k := 4) rfl (by decide +kernel) (by decide) rfl (fun ls hl => ?_)
  refine lv_goto (tgt := 10) cx.1 cx.2.1 dX3_roundDown_65 (by decide) ?_
  refine lv_iload cx.1 cx.2.1 dX3_roundDown_10 (lv_at hl 0 rfl) ?_
  refine lv_if_lt (tgt := 68) cx.1 cx.2.1 dX3_roundDown_12 (by decide) (fun zz => absurd zz (by decide)) (fun h12 => ?_)
  refine lv_aload_n cx.1 cx.2.1 dX3_roundDown_15 rfl (lv_at hl 5 rfl) ?_
  refine gf_X3_9 cx hW (by decide) dX3_roundDown_16 ?_
  refine lv_iload_n cx.1 cx.2.1 dX3_roundDown_19 rfl (lv_at hl 6 rfl) ?_
  refine al_16 (j := i) cx hW (by decide) rfl (by omega) dX3_roundDown_20 ?_
  refine lv_iload cx.1 cx.2.1 dX3_roundDown_21 (lv_at hl 0 rfl) ?_
  refine lv_lshr (v := (gl_ a 10 0 i) >>> ((0 : Int32).toInt64 &&& 63)) cx.1 cx.2.1 dX3_roundDown_23 rfl ?_
  refine lv_ldc2 (own := "MarginHouse$Shares") (v := 65535) cx.1 cx.2.1 cx.2.2.2.1 (cx.2.2.2.2.1 _ nw_303) dX3_roundDown_24 ?_
  refine lv_land cx.1 cx.2.1 dX3_roundDown_27 ?_
  refine tp_j (y := rp_ (gl_ a 10 0 i) 0) rfl ?_
  refine lv_lstore (lv' := [(11, .long (rp_ (gl_ a 10 0 i) 0)), (10, .int 0), (8, .long (rr_ (v2_ (gl_ a 10 0 i) x t) t)), (6, .long (rq_ (rq_ 0 (v1_ (gl_ a 10 0 i) x) t) (v2_ (gl_ a 10 0 i) x t) t)), (13, .long (v2_ (gl_ a 10 0 i) x t)), (0, .ref (ad_ w 15 0)), (1, .int (nI i)), (2, .long x), (4, .long t)]) cx.1 cx.2.1 dX3_roundDown_28 hl (by decide) rfl (fun ls hl => ?_)
  refine lv_lload cx.1 cx.2.1 dX3_roundDown_30 (lv_at hl 2 rfl) ?_
  refine lv_bipush (v := 16) cx.1 cx.2.1 dX3_roundDown_32 (by decide) ?_
  refine lv_lshl (v := (rr_ (v2_ (gl_ a 10 0 i) x t) t) <<< ((16 : Int32).toInt64 &&& 63)) cx.1 cx.2.1 dX3_roundDown_34 rfl ?_
  refine lv_lload_n cx.1 cx.2.1 dX3_roundDown_35 rfl (lv_at hl 7 rfl) ?_
  refine lv_lload cx.1 cx.2.1 dX3_roundDown_36 (lv_at hl 0 rfl) ?_
  refine lv_lmul cx.1 cx.2.1 dX3_roundDown_38 ?_
  refine lv_ladd cx.1 cx.2.1 dX3_roundDown_39 ?_
  refine tp_j (y := v3_ (gl_ a 10 0 i) x t) rfl ?_
  refine lv_lstore (lv' := [(13, .long (v3_ (gl_ a 10 0 i) x t)), (11, .long (rp_ (gl_ a 10 0 i) 0)), (10, .int 0), (8, .long (rr_ (v2_ (gl_ a 10 0 i) x t) t)), (6, .long (rq_ (rq_ 0 (v1_ (gl_ a 10 0 i) x) t) (v2_ (gl_ a 10 0 i) x t) t)), (0, .ref (ad_ w 15 0)), (1, .int (nI i)), (2, .long x), (4, .long t)]) cx.1 cx.2.1 dX3_roundDown_40 hl (by decide) rfl (fun ls hl => ?_)
  refine lv_lload cx.1 cx.2.1 dX3_roundDown_42 (lv_at hl 4 rfl) ?_
  refine lv_bipush (v := 16) cx.1 cx.2.1 dX3_roundDown_44 (by decide) ?_
  refine lv_lshl (v := (rq_ (rq_ 0 (v1_ (gl_ a 10 0 i) x) t) (v2_ (gl_ a 10 0 i) x t) t) <<< ((16 : Int32).toInt64 &&& 63)) cx.1 cx.2.1 dX3_roundDown_46 rfl ?_
  refine lv_lload cx.1 cx.2.1 dX3_roundDown_47 (lv_at hl 0 rfl) ?_
  refine lv_lload cx.1 cx.2.1 dX3_roundDown_49 (lv_at hl 8 rfl) ?_
  refine lv_ldiv cx.1 cx.2.1 dX3_roundDown_51 ht ?_
  refine lv_ladd cx.1 cx.2.1 dX3_roundDown_52 ?_
  refine tp_j (y := dq_ (gl_ a 10 0 i) x t) rfl ?_
  refine lv_lstore (lv' := [(6, .long (dq_ (gl_ a 10 0 i) x t)), (13, .long (v3_ (gl_ a 10 0 i) x t)), (11, .long (rp_ (gl_ a 10 0 i) 0)), (10, .int 0), (8, .long (rr_ (v2_ (gl_ a 10 0 i) x t) t)), (0, .ref (ad_ w 15 0)), (1, .int (nI i)), (2, .long x), (4, .long t)]) cx.1 cx.2.1 dX3_roundDown_53 hl (by decide) rfl (fun ls hl => ?_)
  refine lv_lload cx.1 cx.2.1 dX3_roundDown_55 (lv_at hl 1 rfl) ?_
  refine lv_lload cx.1 cx.2.1 dX3_roundDown_57 (lv_at hl 8 rfl) ?_
  refine lv_lrem cx.1 cx.2.1 dX3_roundDown_59 ht ?_
  refine tp_j (y := dr_ (gl_ a 10 0 i) x t) rfl ?_
  refine lv_lstore (lv' := [(8, .long (dr_ (gl_ a 10 0 i) x t)), (6, .long (dq_ (gl_ a 10 0 i) x t)), (13, .long (v3_ (gl_ a 10 0 i) x t)), (11, .long (rp_ (gl_ a 10 0 i) 0)), (10, .int 0), (0, .ref (ad_ w 15 0)), (1, .int (nI i)), (2, .long x), (4, .long t)]) cx.1 cx.2.1 dX3_roundDown_60 hl (by decide) rfl (fun ls hl => ?_)
  refine lv_iinc (v := -16) (lv' := [(10, .int (-16)), (8, .long (dr_ (gl_ a 10 0 i) x t)), (6, .long (dq_ (gl_ a 10 0 i) x t)), (13, .long (v3_ (gl_ a 10 0 i) x t)), (11, .long (rp_ (gl_ a 10 0 i) 0)), (0, .ref (ad_ w 15 0)), (1, .int (nI i)), (2, .long x), (4, .long t)]) cx.1 cx.2.1 dX3_roundDown_62 hl (k := 4) rfl (by decide +kernel) (by decide) rfl (fun ls hl => ?_)
  refine lv_goto (tgt := 10) cx.1 cx.2.1 dX3_roundDown_65 (by decide) ?_
  refine lv_iload cx.1 cx.2.1 dX3_roundDown_10 (lv_at hl 0 rfl) ?_
  refine lv_if_lt (tgt := 68) cx.1 cx.2.1 dX3_roundDown_12 (by decide) (fun h12 => ?_) (fun zz => absurd (by decide) zz)
  refine lv_aload_n cx.1 cx.2.1 dX3_roundDown_68 rfl (lv_at hl 5 rfl) ?_
  refine gf_X3_15 cx hW (by decide) dX3_roundDown_69 ?_
  refine lv_iload_n cx.1 cx.2.1 dX3_roundDown_72 rfl (lv_at hl 6 rfl) ?_
  refine lv_lload cx.1 cx.2.1 dX3_roundDown_73 (lv_at hl 2 rfl) ?_
  refine as_17 (j := i) cx hW hS (by decide) rfl (by omega) dX3_roundDown_75 (fun H locs hW hS => ?_)
  refine lv_aload_n cx.1 cx.2.1 dX3_roundDown_76 rfl (lv_at hl 5 rfl) ?_
  refine gf_X3_18 cx hW (by decide) dX3_roundDown_77 ?_
  refine lv_iload_n cx.1 cx.2.1 dX3_roundDown_80 rfl (lv_at hl 6 rfl) ?_
  refine lv_lload cx.1 cx.2.1 dX3_roundDown_81 (lv_at hl 1 rfl) ?_
  refine as_18 (j := i) cx hW hS (by decide) rfl (by omega) dX3_roundDown_83 (fun H locs hW hS => ?_)
  exact cr_v cx hr hlk hW hS (Nat.le_of_ble_eq_true rfl) (Nat.le_of_ble_eq_true rfl) dX3_roundDown_84 rfl rfl
def gg_ (a : St_) : Nat → Nat
  | 0 => 0
  | m + 1 => if m = 0 then 0 else if gl_ a 12 0 m ≤ gl_ a 12 0 (gg_ a m) then gg_ a m else m
theorem gg_lt (a : St_) : ∀ m, gg_ a (m + 1) < m + 1
  | 0 => by simp [gg_]
  | m + 1 => by
    have := gg_lt a m
    rw [gg_, if_neg (by omega)]
    split <;> omega
def go_ (a : St_) : St_ := sl_ (sl_ a 11 0 (gg_ a 8) (gl_ a 11 0 (gg_ a 8) + 1)) 12 0 (gg_ a 8) (-1)
set_option maxHeartbeats 4000000 in
set_option maxRecDepth 100000 in
theorem c_X3_giveOneMore (l : Launch) {w : Gh_} (hI : In_ w) (a : St_) : Fn_ l w yX3_giveOneMore (.code yX3_giveOneMore cX3_giveOneMore 3 none) { frames := 0, cells := 0, slots := 0, locals := 0 } 0 0 [.ref (ad_ w 15 0)] a (.inl none) (go_ a) := by
  refine Fn_of hI (by decide +kernel) (Nat.le_of_ble_eq_true rfl) ?_
  intro zp ze zs zm zb zt zc ls cx hr hlk hno hW hS hl
  replace cx : Cx_ zp zs zm zc _ cX3_giveOneMore 3 "MarginHouse$Shares" w := cx
  replace hl : lv_has ls 3 [(0, .ref (ad_ w 15 0))] := hl
  obtain ⟨H, hH⟩ : ∃ H, zs.heap = H := ⟨_, rfl⟩
  rw [hH] at hW
  have hS : Fr_ w zs.heap H [] := by rw [← hH]; exact hS
  obtain ⟨locs, hlocs⟩ : ∃ x : List Loc, x = [] := ⟨_, rfl⟩
  rw [← hlocs] at hS ⊢
  rw [show W zp l ze _ zs zm _ zb zt zc zs.heap locs 0 0 _ (F0 zm 0 ls []) ↔ W zp l ze _ zs zm _ zb zt zc H locs 0 0 _ (F0 zm 0 ls []) from by rw [hH]]
  refine lv_iconst (v := 0) cx.1 cx.2.1 dX3_giveOneMore_0 (by decide) ?_
  refine lv_istore_n (lv' := [(1, .int 0), (0, .ref (ad_ w 15 0))]) cx.1 cx.2.1 dX3_giveOneMore_1 rfl hl (by decide) rfl (fun ls hl => ?_)
  refine lv_iconst (v := 1) cx.1 cx.2.1 dX3_giveOneMore_2 (by decide) ?_
  refine lv_istore_n (lv' := [(2, .int 1), (1, .int 0), (0, .ref (ad_ w 15 0))]) cx.1 cx.2.1 dX3_giveOneMore_3 rfl hl (by decide) rfl (fun ls hl => ?_)
  have L4 : ∀ (d i : Nat), i ≤ 8 → 8 - i < d → 1 ≤ i → ∀ (H : Heap) (locs : List Loc) (ls : Array Slot), Hd_ w a H → Fr_ w zs.heap H locs → lv_has ls 3 [(0, .ref (ad_ w 15 0)), (1, .int (nI (gg_ a i))), (2, .int (nI i))] → W zp l ze { frames := 0, cells := 0, slots := 0, locals := 0 } zs zm ([.ref (ad_ w 15 0)] : List Value).toArray zb zt zc H locs 0 0 (vx_MQ zb (Qc_ w (.inl none) (go_ a)) (XC_ w (.inl none) (go_ a)) ([.ref (ad_ w 15 0)] : List Value).toArray zs 0 0 (fun q => lo_ w ≤ q)) (F0 zm 4 ls []) := by
    intro d
    induction d with
    | zero => intro i _ hd; exact absurd hd (Nat.not_lt_zero _)
    | succ d ih4 =>
      intro i hi hdi h1i H locs ls hW hS hl
      obtain ⟨z, rfl⟩ : ∃ z, i = z + 1 := ⟨i - 1, by omega⟩
      have hgz := gg_lt a z
      skip
      refine lv_iload_n cx.1 cx.2.1 dX3_giveOneMore_4 rfl (lv_at hl 2 rfl) ?_
      skip
      refine lv_bipush (v := 8) cx.1 cx.2.1 dX3_giveOneMore_5 (by decide) ?_
      refine tp_i (y := nI 8) (by decide +kernel) ?_
      refine lv_icmp_ge (tgt := 34) cx.1 cx.2.1 dX3_giveOneMore_7 (by decide) (fun h7 => ?_) (fun h7 => ?_)
      · skip
        have h7 : 8 ≤ z + 1 := (nI_leI (by omega) (by omega)).mp h7
        have e4 : z + 1 = 8 := by omega
        rw [e4] at hl hgz
        refine lv_aload_n cx.1 cx.2.1 dX3_giveOneMore_34 rfl (lv_at hl 0 rfl) ?_
        refine gf_X3_15 cx hW (by decide) dX3_giveOneMore_35 ?_
        refine lv_iload_n cx.1 cx.2.1 dX3_giveOneMore_38 rfl (lv_at hl 1 rfl) ?_
        refine lv_dup2_11 cx.1 cx.2.1 dX3_giveOneMore_39 rfl rfl ?_
        refine al_17 (j := gg_ a 8) cx hW (by decide) rfl (by omega) dX3_giveOneMore_40 ?_
        refine lv_lconst (v := 1) cx.1 cx.2.1 dX3_giveOneMore_41 (by decide) ?_
        refine lv_ladd cx.1 cx.2.1 dX3_giveOneMore_42 ?_
        refine as_17 (j := gg_ a 8) cx hW hS (by decide) rfl (by omega) dX3_giveOneMore_43 (fun H locs hW hS => ?_)
        refine lv_aload_n cx.1 cx.2.1 dX3_giveOneMore_44 rfl (lv_at hl 0 rfl) ?_
        refine gf_X3_18 cx hW (by decide) dX3_giveOneMore_45 ?_
        refine lv_iload_n cx.1 cx.2.1 dX3_giveOneMore_48 rfl (lv_at hl 1 rfl) ?_
        refine lv_ldc2 (own := "MarginHouse$Shares") (v := -1) cx.1 cx.2.1 cx.2.2.2.1 (cx.2.2.2.2.1 _ nw_307) dX3_giveOneMore_49 ?_
        refine as_18 (j := gg_ a 8) cx hW hS (by decide) rfl (by omega) dX3_giveOneMore_52 (fun H locs hW hS => ?_)
        exact cr_v cx hr hlk hW hS (Nat.le_of_ble_eq_true rfl) (Nat.le_of_ble_eq_true rfl) dX3_giveOneMore_53 rfl rfl
      · skip
        have h7 : z + 1 < 8 := Nat.not_le.mp (fun q => h7 ((nI_leI (by omega) (by omega)).mpr q))
        refine lv_aload_n cx.1 cx.2.1 dX3_giveOneMore_10 rfl (lv_at hl 0 rfl) ?_
        refine gf_X3_18 cx hW (by decide) dX3_giveOneMore_11 ?_
        refine lv_iload_n cx.1 cx.2.1 dX3_giveOneMore_14 rfl (lv_at hl 2 rfl) ?_
        refine al_18 (j := z + 1) cx hW (by decide) rfl (by omega) dX3_giveOneMore_15 ?_
        refine lv_aload_n cx.1 cx.2.1 dX3_giveOneMore_16 rfl (lv_at hl 0 rfl) ?_
        refine gf_X3_18 cx hW (by decide) dX3_giveOneMore_17 ?_
        refine lv_iload_n cx.1 cx.2.1 dX3_giveOneMore_20 rfl (lv_at hl 1 rfl) ?_
        refine al_18 (j := gg_ a (z + 1)) cx hW (by decide) rfl (by omega) dX3_giveOneMore_21 ?_
        refine lc_le (tgt := 28) cx.1 cx.2.1 dX3_giveOneMore_22 dX3_giveOneMore_23 (by decide) (fun h22 => ?_) (fun h22 => ?_)
        · skip
          have hE : gg_ a (z + 1 + 1) = gg_ a (z + 1) := by rw [gg_, if_neg (Nat.succ_ne_zero z), if_pos h22]
          refine lv_iinc (v := nI (z + 1 + 1)) (lv' := [(2, .int (nI (z + 1 + 1))), (0, .ref (ad_ w 15 0)), (1, .int (nI (gg_ a (z + 1))))]) cx.1 cx.2.1 dX3_giveOneMore_28 hl (k := 2) rfl (nI_inc (z + 1)) (by decide) rfl (fun ls hl => ?_)
          refine lv_goto (tgt := 4) cx.1 cx.2.1 dX3_giveOneMore_31 (by decide) ?_
          exact ih4 (z + 1 + 1) (by omega) (by omega) (by omega) H locs ls hW hS (lv_sub (l' := [(0, .ref (ad_ w 15 0)), (1, .int (nI (gg_ a (z + 1 + 1)))), (2, .int (nI (z + 1 + 1)))]) hl [1, 2, 0] (by rw [hE]; rfl))
        · skip
          have hE : gg_ a (z + 1 + 1) = z + 1 := by rw [gg_, if_neg (Nat.succ_ne_zero z), if_neg h22]
          refine lv_iload_n cx.1 cx.2.1 dX3_giveOneMore_26 rfl (lv_at hl 2 rfl) ?_
          refine lv_istore_n (lv' := [(1, .int (nI (z + 1))), (0, .ref (ad_ w 15 0)), (2, .int (nI (z + 1)))]) cx.1 cx.2.1 dX3_giveOneMore_27 rfl hl (by decide) rfl (fun ls hl => ?_)
          refine lv_iinc (v := nI (z + 1 + 1)) (lv' := [(2, .int (nI (z + 1 + 1))), (1, .int (nI (z + 1))), (0, .ref (ad_ w 15 0))]) cx.1 cx.2.1 dX3_giveOneMore_28 hl (k := 2) rfl (nI_inc (z + 1)) (by decide) rfl (fun ls hl => ?_)
          refine lv_goto (tgt := 4) cx.1 cx.2.1 dX3_giveOneMore_31 (by decide) ?_
          exact ih4 (z + 1 + 1) (by omega) (by omega) (by omega) H locs ls hW hS (lv_sub (l' := [(0, .ref (ad_ w 15 0)), (1, .int (nI (gg_ a (z + 1 + 1)))), (2, .int (nI (z + 1 + 1)))]) hl [2, 1, 0] (by rw [hE]; rfl))
  exact L4 (8 - 1 + 1) 1 (by decide) (by omega) (by decide) H locs ls hW hS (lv_sub hl [2, 1, 0] (by simp only [gg_]; rfl))
def ro_ (a : St_) (x t : Int64) : Nat → St_
  | 0 => a
  | i + 1 => rn_ (ro_ a x t i) x t i
def rl_ (a : St_) (x t : Int64) : Nat → Int64
  | 0 => x
  | i + 1 => rl_ a x t i - gl_ (ro_ a x t (i + 1)) 11 0 i
def gw_ (y : Int64) (b : St_) : Nat → St_
  | 0 => b
  | f + 1 => if y ≤ (nI (7 - f)).toInt64 then b else gw_ y (go_ b) f
theorem gw_go {y : Int64} {b : St_} {g : Nat} (hg : g < 8) (h : ¬ y ≤ (nI g).toInt64) : gw_ y b (8 - g) = gw_ y (go_ b) (8 - (g + 1)) := by
  rw [show 8 - g = (8 - (g + 1)) + 1 by omega, gw_, show 7 - (8 - (g + 1)) = g by omega, if_neg h]
theorem gw_st {y : Int64} {b : St_} {g : Nat} (hg : g < 8) (h : y ≤ (nI g).toInt64) : gw_ y b (8 - g) = b := by
  rw [show 8 - g = (8 - (g + 1)) + 1 by omega, gw_, show 7 - (8 - (g + 1)) = g by omega, if_pos h]
set_option maxHeartbeats 4000000 in
set_option maxRecDepth 100000 in
theorem c_X3_bearRounded (l : Launch) {w : Gh_} (hI : In_ w) (a : St_) (x t : Int64) (ht : ¬ t = 0) : Fn_ l w yX3_bearRounded (.code yX3_bearRounded cX3_bearRounded 8 none) { frames := 1, cells := 0, slots := 0, locals := 34 } 0 0 [.ref (ad_ w 15 0), .long x, .long t] a (.inl none) (gw_ (rl_ a x t 8) (ro_ a x t 8) 8) := by
  refine Fn_of hI (by decide +kernel) (Nat.le_of_ble_eq_true rfl) ?_
  intro zp ze zs zm zb zt zc ls cx hr hlk hno hW hS hl
  replace cx : Cx_ zp zs zm zc _ cX3_bearRounded 8 "MarginHouse$Shares" w := cx
  replace hl : lv_has ls 8 [(0, .ref (ad_ w 15 0)), (1, .long x), (3, .long t)] := hl
  obtain ⟨H, hH⟩ : ∃ H, zs.heap = H := ⟨_, rfl⟩
  rw [hH] at hW
  have hS : Fr_ w zs.heap H [] := by rw [← hH]; exact hS
  obtain ⟨locs, hlocs⟩ : ∃ x : List Loc, x = [] := ⟨_, rfl⟩
  rw [← hlocs] at hS ⊢
  rw [show W zp l ze _ zs zm _ zb zt zc zs.heap locs 0 0 _ (F0 zm 0 ls []) ↔ W zp l ze _ zs zm _ zb zt zc H locs 0 0 _ (F0 zm 0 ls []) from by rw [hH]]
  refine lv_lload_n cx.1 cx.2.1 dX3_bearRounded_0 rfl (lv_at hl 1 rfl) ?_
  refine lv_lstore (lv' := [(5, .long x), (0, .ref (ad_ w 15 0)), (1, .long x), (3, .long t)]) cx.1 cx.2.1 dX3_bearRounded_1 hl (by decide) rfl (fun ls hl => ?_)
  refine lv_iconst (v := 0) cx.1 cx.2.1 dX3_bearRounded_3 (by decide) ?_
  refine lv_istore (lv' := [(7, .int 0), (5, .long x), (0, .ref (ad_ w 15 0)), (1, .long x), (3, .long t)]) cx.1 cx.2.1 dX3_bearRounded_4 hl (by decide) rfl (fun ls hl => ?_)
  have L6 : ∀ (d i : Nat), i ≤ 8 → 8 - i < d → ∀ (H : Heap) (locs : List Loc) (ls : Array Slot), Hd_ w (ro_ a x t i) H → Fr_ w zs.heap H locs → lv_has ls 8 [(0, .ref (ad_ w 15 0)), (1, .long x), (3, .long t), (5, .long (rl_ a x t i)), (7, .int (nI i))] → W zp l ze { frames := 1, cells := 0, slots := 0, locals := 34 } zs zm ([.ref (ad_ w 15 0), .long x, .long t] : List Value).toArray zb zt zc H locs 0 0 (vx_MQ zb (Qc_ w (.inl none) (gw_ (rl_ a x t 8) (ro_ a x t 8) 8)) (XC_ w (.inl none) (gw_ (rl_ a x t 8) (ro_ a x t 8) 8)) ([.ref (ad_ w 15 0), .long x, .long t] : List Value).toArray zs 0 0 (fun q => lo_ w ≤ q)) (F0 zm 6 ls []) := by
    intro d
    induction d with
    | zero => intro i _ hd; exact absurd hd (Nat.not_lt_zero _)
    | succ d ih6 =>
      intro i hi hdi  H locs ls hW hS hl
      refine lv_iload cx.1 cx.2.1 dX3_bearRounded_6 (lv_at hl 4 rfl) ?_
      refine lv_bipush (v := 8) cx.1 cx.2.1 dX3_bearRounded_8 (by decide) ?_
      refine tp_i (y := nI 8) (by decide +kernel) ?_
      refine lv_icmp_ge (tgt := 39) cx.1 cx.2.1 dX3_bearRounded_10 (by decide) (fun h10 => ?_) (fun h10 => ?_)
      · skip
        have h10 : 8 ≤ i := (nI_leI (by omega) (by omega)).mp h10
        have e6 : i = 8 := by omega
        try rw [e6] at hl
        try rw [e6] at hW
        refine lv_iconst (v := 0) cx.1 cx.2.1 dX3_bearRounded_39 (by decide) ?_
        refine lv_istore (lv' := [(7, .int 0), (0, .ref (ad_ w 15 0)), (1, .long x), (3, .long t), (5, .long (rl_ a x t 8))]) cx.1 cx.2.1 dX3_bearRounded_40 hl (by decide) rfl (fun ls hl => ?_)
        have L42 : ∀ (d g : Nat), g ≤ 8 → 8 - g < d → ∀ (b : St_), gw_ (rl_ a x t 8) b (8 - g) = gw_ (rl_ a x t 8) (ro_ a x t 8) 8 → ∀ (H : Heap) (locs : List Loc) (ls : Array Slot), Hd_ w b H → Fr_ w zs.heap H locs → lv_has ls 8 [(0, .ref (ad_ w 15 0)), (1, .long x), (3, .long t), (5, .long (rl_ a x t 8)), (7, .int (nI g))] → W zp l ze { frames := 1, cells := 0, slots := 0, locals := 34 } zs zm ([.ref (ad_ w 15 0), .long x, .long t] : List Value).toArray zb zt zc H locs 0 0 (vx_MQ zb (Qc_ w (.inl none) (gw_ (rl_ a x t 8) (ro_ a x t 8) 8)) (XC_ w (.inl none) (gw_ (rl_ a x t 8) (ro_ a x t 8) 8)) ([.ref (ad_ w 15 0), .long x, .long t] : List Value).toArray zs 0 0 (fun q => lo_ w ≤ q)) (F0 zm 42 ls []) := by
          intro d
          induction d with
          | zero => intro g _ hd; exact absurd hd (Nat.not_lt_zero _)
          | succ d ih42 =>
            intro g hg hdg b hF H locs ls hW hS hl
            refine lv_iload cx.1 cx.2.1 dX3_bearRounded_42 (lv_at hl 4 rfl) ?_
            refine lv_bipush (v := 8) cx.1 cx.2.1 dX3_bearRounded_44 (by decide) ?_
            refine tp_i (y := nI 8) (by decide +kernel) ?_
            refine lv_icmp_ge (tgt := 68) cx.1 cx.2.1 dX3_bearRounded_46 (by decide) (fun h46 => ?_) (fun h46 => ?_)
            · skip
              have h46 : 8 ≤ g := (nI_leI (by omega) (by omega)).mp h46
              have e42 : g = 8 := by omega
              try rw [e42] at hl
              try rw [e42] at hW
              exact cr_v cx hr hlk hW hS (Nat.le_of_ble_eq_true rfl) (Nat.le_of_ble_eq_true rfl) dX3_bearRounded_68 rfl (by rw [← hF, e42]; rfl)
            · skip
              have h46 : g < 8 := Nat.not_le.mp (fun q => h46 ((nI_leI (by omega) (by omega)).mpr q))
              refine lv_iload cx.1 cx.2.1 dX3_bearRounded_49 (lv_at hl 4 rfl) ?_
              refine lv_i2l (v := (nI g).toInt64) cx.1 cx.2.1 dX3_bearRounded_51 rfl ?_
              refine lv_lload cx.1 cx.2.1 dX3_bearRounded_52 (lv_at hl 3 rfl) ?_
              refine lc_ge (tgt := 68) cx.1 cx.2.1 dX3_bearRounded_54 dX3_bearRounded_55 (by decide) (fun h54 => ?_) (fun h54 => ?_)
              · skip
                exact cr_v cx hr hlk hW hS (Nat.le_of_ble_eq_true rfl) (Nat.le_of_ble_eq_true rfl) dX3_bearRounded_68 rfl (by rw [← hF]; exact gw_st h46 h54)
              · skip
                refine lv_aload_n cx.1 cx.2.1 dX3_bearRounded_58 rfl (lv_at hl 0 rfl) ?_
                refine ck_V (v := none) (As := []) (rest := []) (k := 15) (i := 0) (T := TX3) cx hW hS hl (by decide) rfl rfl (c_X3_giveOneMore l hI b) cw_X3_giveOneMore nw_305 nw_535 nw_304 rfl rfl (Nat.le_of_ble_eq_true rfl) rfl rfl ⟨Nat.le_of_ble_eq_true rfl, Nat.le_of_ble_eq_true rfl⟩ ⟨Nat.le_of_ble_eq_true rfl, Nat.le_of_ble_eq_true rfl⟩ dX3_bearRounded_59 (fun H locs hW hS => ?_)
                refine W.eq (g2 := F0 zm 62 ls []) rfl ?_
                refine lv_iinc (v := nI (g + 1)) (lv' := [(7, .int (nI (g + 1))), (0, .ref (ad_ w 15 0)), (1, .long x), (3, .long t), (5, .long (rl_ a x t 8))]) cx.1 cx.2.1 dX3_bearRounded_62 hl (k := 4) rfl (nI_inc g) (by decide) rfl (fun ls hl => ?_)
                refine lv_goto (tgt := 42) cx.1 cx.2.1 dX3_bearRounded_65 (by decide) ?_
                exact ih42 (g + 1) (by omega) (by omega) (go_ b) (by rw [← hF]; exact (gw_go h46 h54).symm) H locs ls hW hS (lv_sub (l' := [(0, .ref (ad_ w 15 0)), (1, .long x), (3, .long t), (5, .long (rl_ a x t 8)), (7, .int (nI (g + 1)))]) hl [1, 2, 3, 4, 0] rfl)
        exact L42 (8 - 0 + 1) 0 (by omega) (by omega) (ro_ a x t 8) rfl H locs ls hW hS (lv_sub hl [1, 2, 3, 4, 0] rfl)
      · skip
        have h10 : i < 8 := Nat.not_le.mp (fun q => h10 ((nI_leI (by omega) (by omega)).mpr q))
        refine lv_aload_n cx.1 cx.2.1 dX3_bearRounded_13 rfl (lv_at hl 0 rfl) ?_
        refine lv_iload cx.1 cx.2.1 dX3_bearRounded_14 (lv_at hl 4 rfl) ?_
        refine lv_lload_n cx.1 cx.2.1 dX3_bearRounded_16 rfl (lv_at hl 1 rfl) ?_
        refine lv_lload_n cx.1 cx.2.1 dX3_bearRounded_17 rfl (lv_at hl 2 rfl) ?_
        refine ck_V (v := none) (As := [.int (nI i), .long x, .long t]) (rest := []) (k := 15) (i := 0) (T := TX3) cx hW hS hl (by decide) rfl rfl (c_X3_roundDown l hI (ro_ a x t i) i (by omega) x t ht) cw_X3_roundDown nw_301 nw_534 nw_300 rfl rfl (Nat.le_of_ble_eq_true rfl) rfl rfl ⟨Nat.le_of_ble_eq_true rfl, Nat.le_of_ble_eq_true rfl⟩ ⟨Nat.le_of_ble_eq_true rfl, Nat.le_of_ble_eq_true rfl⟩ dX3_bearRounded_18 (fun H locs hW hS => ?_)
        refine W.eq (g2 := F0 zm 21 ls []) rfl ?_
        refine lv_lload cx.1 cx.2.1 dX3_bearRounded_21 (lv_at hl 3 rfl) ?_
        refine lv_aload_n cx.1 cx.2.1 dX3_bearRounded_23 rfl (lv_at hl 0 rfl) ?_
        refine gf_X3_15 cx hW (by decide) dX3_bearRounded_24 ?_
        refine lv_iload cx.1 cx.2.1 dX3_bearRounded_27 (lv_at hl 4 rfl) ?_
        refine al_17 (j := i) cx hW (by decide) rfl (by omega) dX3_bearRounded_29 ?_
        refine lv_lsub cx.1 cx.2.1 dX3_bearRounded_30 ?_
        refine lv_lstore (lv' := [(5, .long ((rl_ a x t i) - (gl_ (rn_ (ro_ a x t i) x t i) 11 0 i))), (0, .ref (ad_ w 15 0)), (1, .long x), (3, .long t), (7, .int (nI i))]) cx.1 cx.2.1 dX3_bearRounded_31 hl (by decide) rfl (fun ls hl => ?_)
        refine lv_iinc (v := nI (i + 1)) (lv' := [(7, .int (nI (i + 1))), (5, .long ((rl_ a x t i) - (gl_ (rn_ (ro_ a x t i) x t i) 11 0 i))), (0, .ref (ad_ w 15 0)), (1, .long x), (3, .long t)]) cx.1 cx.2.1 dX3_bearRounded_33 hl (k := 4) rfl (nI_inc i) (by decide) rfl (fun ls hl => ?_)
        refine lv_goto (tgt := 6) cx.1 cx.2.1 dX3_bearRounded_36 (by decide) ?_
        exact ih6 (i + 1) (by omega) (by omega)  H locs ls hW hS (lv_sub (l' := [(0, .ref (ad_ w 15 0)), (1, .long x), (3, .long t), (5, .long (rl_ a x t (i + 1))), (7, .int (nI (i + 1)))]) hl [2, 3, 4, 1, 0] rfl)
  exact L6 (8 - 0 + 1) 0 (by omega) (by omega)  H locs ls hW hS (lv_sub hl [2, 3, 4, 1, 0] rfl)
def wt_ (a : St_) : Nat → Int64
  | 0 => 0
  | i + 1 => wt_ a i + gl_ a 10 0 i
def sq_ (a : St_) (x : Int64) : St_ := if wt_ a 8 ≤ 0 then bw_ a 8 else if x < wt_ a 8 then gw_ (rl_ a x (wt_ a 8) 8) (ro_ a x (wt_ a 8) 8) 8 else bw_ a 8
set_option maxHeartbeats 4000000 in
set_option maxRecDepth 100000 in
theorem c_X3_split (l : Launch) {w : Gh_} (hI : In_ w) (a : St_) (x : Int64) : Fn_ l w yX3_split (.code yX3_split cX3_split 6 none) { frames := 2, cells := 0, slots := 0, locals := 61 } 0 0 [.ref (ad_ w 15 0), .long x] a (.inl none) (sq_ a x) := by
  refine Fn_of hI (by decide +kernel) (Nat.le_of_ble_eq_true rfl) ?_
  intro zp ze zs zm zb zt zc ls cx hr hlk hno hW hS hl
  replace cx : Cx_ zp zs zm zc _ cX3_split 6 "MarginHouse$Shares" w := cx
  replace hl : lv_has ls 6 [(0, .ref (ad_ w 15 0)), (1, .long x)] := hl
  obtain ⟨H, hH⟩ : ∃ H, zs.heap = H := ⟨_, rfl⟩
  rw [hH] at hW
  have hS : Fr_ w zs.heap H [] := by rw [← hH]; exact hS
  obtain ⟨locs, hlocs⟩ : ∃ x : List Loc, x = [] := ⟨_, rfl⟩
  rw [← hlocs] at hS ⊢
  rw [show W zp l ze _ zs zm _ zb zt zc zs.heap locs 0 0 _ (F0 zm 0 ls []) ↔ W zp l ze _ zs zm _ zb zt zc H locs 0 0 _ (F0 zm 0 ls []) from by rw [hH]]
  refine lv_lconst (v := 0) cx.1 cx.2.1 dX3_split_0 (by decide) ?_
  refine lv_lstore_n (lv' := [(3, .long 0), (0, .ref (ad_ w 15 0)), (1, .long x)]) cx.1 cx.2.1 dX3_split_1 rfl hl (by decide) rfl (fun ls hl => ?_)
  refine lv_iconst (v := 0) cx.1 cx.2.1 dX3_split_2 (by decide) ?_
  refine lv_istore (lv' := [(5, .int 0), (3, .long 0), (0, .ref (ad_ w 15 0)), (1, .long x)]) cx.1 cx.2.1 dX3_split_3 hl (by decide) rfl (fun ls hl => ?_)
  have L5 : ∀ (d i : Nat), i ≤ 8 → 8 - i < d → ∀ (H : Heap) (locs : List Loc) (ls : Array Slot), Hd_ w a H → Fr_ w zs.heap H locs → lv_has ls 6 [(0, .ref (ad_ w 15 0)), (1, .long x), (3, .long (wt_ a i)), (5, .int (nI i))] → W zp l ze { frames := 2, cells := 0, slots := 0, locals := 61 } zs zm ([.ref (ad_ w 15 0), .long x] : List Value).toArray zb zt zc H locs 0 0 (vx_MQ zb (Qc_ w (.inl none) (sq_ a x)) (XC_ w (.inl none) (sq_ a x)) ([.ref (ad_ w 15 0), .long x] : List Value).toArray zs 0 0 (fun q => lo_ w ≤ q)) (F0 zm 5 ls []) := by
    intro d
    induction d with
    | zero => intro i _ hd; exact absurd hd (Nat.not_lt_zero _)
    | succ d ih5 =>
      intro i hi hdi  H locs ls hW hS hl
      refine lv_iload cx.1 cx.2.1 dX3_split_5 (lv_at hl 3 rfl) ?_
      refine lv_bipush (v := 8) cx.1 cx.2.1 dX3_split_7 (by decide) ?_
      refine tp_i (y := nI 8) (by decide +kernel) ?_
      refine lv_icmp_ge (tgt := 28) cx.1 cx.2.1 dX3_split_9 (by decide) (fun h9 => ?_) (fun h9 => ?_)
      · skip
        have h9 : 8 ≤ i := (nI_leI (by omega) (by omega)).mp h9
        have e5 : i = 8 := by omega
        try rw [e5] at hl
        try rw [e5] at hW
        refine lv_lload_n cx.1 cx.2.1 dX3_split_28 rfl (lv_at hl 2 rfl) ?_
        refine lv_lconst (v := 0) cx.1 cx.2.1 dX3_split_29 (by decide) ?_
        refine lc_le (tgt := 40) cx.1 cx.2.1 dX3_split_30 dX3_split_31 (by decide) (fun h30 => ?_) (fun h30 => ?_)
        · skip
          refine lv_aload_n cx.1 cx.2.1 dX3_split_40 rfl (lv_at hl 0 rfl) ?_
          refine ck_V (v := none) (As := []) (rest := []) (k := 15) (i := 0) (T := TX3) cx hW hS hl (by decide) rfl rfl (c_X3_bearWhole l hI a) cw_X3_bearWhole nw_295 nw_532 nw_294 rfl rfl (Nat.le_of_ble_eq_true rfl) rfl rfl ⟨Nat.le_of_ble_eq_true rfl, Nat.le_of_ble_eq_true rfl⟩ ⟨Nat.le_of_ble_eq_true rfl, Nat.le_of_ble_eq_true rfl⟩ dX3_split_41 (fun H locs hW hS => ?_)
          refine W.eq (g2 := F0 zm 44 ls []) rfl ?_
          refine lv_goto (tgt := 53) cx.1 cx.2.1 dX3_split_44 (by decide) ?_
          exact cr_v cx hr hlk hW hS (Nat.le_of_ble_eq_true rfl) (Nat.le_of_ble_eq_true rfl) dX3_split_53 rfl (by simp only [sq_, h30, if_true, if_false])
        · skip
          refine lv_lload_n cx.1 cx.2.1 dX3_split_34 rfl (lv_at hl 2 rfl) ?_
          refine lv_lload_n cx.1 cx.2.1 dX3_split_35 rfl (lv_at hl 1 rfl) ?_
          refine lc_gt (tgt := 47) cx.1 cx.2.1 dX3_split_36 dX3_split_37 (by decide) (fun h36 => ?_) (fun h36 => ?_)
          · skip
            refine lv_aload_n cx.1 cx.2.1 dX3_split_47 rfl (lv_at hl 0 rfl) ?_
            refine lv_lload_n cx.1 cx.2.1 dX3_split_48 rfl (lv_at hl 1 rfl) ?_
            refine lv_lload_n cx.1 cx.2.1 dX3_split_49 rfl (lv_at hl 2 rfl) ?_
            refine ck_V (v := none) (As := [.long x, .long (wt_ a 8)]) (rest := []) (k := 15) (i := 0) (T := TX3) cx hW hS hl (by decide) rfl rfl (c_X3_bearRounded l hI a x (wt_ a 8) (fun q => h30 (by rw [q]; decide))) cw_X3_bearRounded nw_298 nw_533 nw_297 rfl rfl (Nat.le_of_ble_eq_true rfl) rfl rfl ⟨Nat.le_of_ble_eq_true rfl, Nat.le_of_ble_eq_true rfl⟩ ⟨Nat.le_of_ble_eq_true rfl, Nat.le_of_ble_eq_true rfl⟩ dX3_split_50 (fun H locs hW hS => ?_)
            refine W.eq (g2 := F0 zm 53 ls []) rfl ?_
            exact cr_v cx hr hlk hW hS (Nat.le_of_ble_eq_true rfl) (Nat.le_of_ble_eq_true rfl) dX3_split_53 rfl (by simp only [sq_, h30, h36, if_true, if_false])
          · skip
            refine lv_aload_n cx.1 cx.2.1 dX3_split_40 rfl (lv_at hl 0 rfl) ?_
            refine ck_V (v := none) (As := []) (rest := []) (k := 15) (i := 0) (T := TX3) cx hW hS hl (by decide) rfl rfl (c_X3_bearWhole l hI a) cw_X3_bearWhole nw_295 nw_532 nw_294 rfl rfl (Nat.le_of_ble_eq_true rfl) rfl rfl ⟨Nat.le_of_ble_eq_true rfl, Nat.le_of_ble_eq_true rfl⟩ ⟨Nat.le_of_ble_eq_true rfl, Nat.le_of_ble_eq_true rfl⟩ dX3_split_41 (fun H locs hW hS => ?_)
            refine W.eq (g2 := F0 zm 44 ls []) rfl ?_
            refine lv_goto (tgt := 53) cx.1 cx.2.1 dX3_split_44 (by decide) ?_
            exact cr_v cx hr hlk hW hS (Nat.le_of_ble_eq_true rfl) (Nat.le_of_ble_eq_true rfl) dX3_split_53 rfl (by simp only [sq_, h30, h36, if_true, if_false])
      · skip
        have h9 : i < 8 := Nat.not_le.mp (fun q => h9 ((nI_leI (by omega) (by omega)).mpr q))
        refine lv_lload_n cx.1 cx.2.1 dX3_split_12 rfl (lv_at hl 2 rfl) ?_
        refine lv_aload_n cx.1 cx.2.1 dX3_split_13 rfl (lv_at hl 0 rfl) ?_
        refine gf_X3_9 cx hW (by decide) dX3_split_14 ?_
        refine lv_iload cx.1 cx.2.1 dX3_split_17 (lv_at hl 3 rfl) ?_
        refine al_16 (j := i) cx hW (by decide) rfl (by omega) dX3_split_19 ?_
        refine lv_ladd cx.1 cx.2.1 dX3_split_20 ?_
        refine lv_lstore_n (lv' := [(3, .long ((wt_ a i) + (gl_ a 10 0 i))), (0, .ref (ad_ w 15 0)), (1, .long x), (5, .int (nI i))]) cx.1 cx.2.1 dX3_split_21 rfl hl (by decide) rfl (fun ls hl => ?_)
        refine lv_iinc (v := nI (i + 1)) (lv' := [(5, .int (nI (i + 1))), (3, .long ((wt_ a i) + (gl_ a 10 0 i))), (0, .ref (ad_ w 15 0)), (1, .long x)]) cx.1 cx.2.1 dX3_split_22 hl (k := 3) rfl (nI_inc i) (by decide) rfl (fun ls hl => ?_)
        refine lv_goto (tgt := 5) cx.1 cx.2.1 dX3_split_25 (by decide) ?_
        exact ih5 (i + 1) (by omega) (by omega)  H locs ls hW hS (lv_sub (l' := [(0, .ref (ad_ w 15 0)), (1, .long x), (3, .long (wt_ a (i + 1))), (5, .int (nI (i + 1)))]) hl [2, 3, 1, 0] rfl)
  exact L5 (8 - 0 + 1) 0 (by omega) (by omega)  H locs ls hW hS (lv_sub hl [2, 3, 1, 0] rfl)
def bc_ (v j : Nat) (b : St_) : Nat → St_
  | 0 => b
  | i + 1 => be_ (sl_ (bc_ v j b i) v 0 i (gl_ (bc_ v j b i) v 0 i - gl_ (bc_ v j b i) 11 0 i)) j (gl_ (sl_ (bc_ v j b i) v 0 i (gl_ (bc_ v j b i) v 0 i - gl_ (bc_ v j b i) 11 0 i)) 11 0 i)
set_option maxHeartbeats 4000000 in
set_option maxRecDepth 100000 in
theorem c_X2_bearByContributions (l : Launch) {w : Gh_} (hI : In_ w) (a : St_) : Fn_ l w yX2_bearByContributions (.code yX2_bearByContributions cX2_bearByContributions 2 none) { frames := 3, cells := 0, slots := 0, locals := 86 } 0 0 [.ref (ad_ w 5 0)] a (.inl none) (bc_ 6 2 (sq_ a (gl_ a 9 0 0)) 8) := by
  refine Fn_of hI (by decide +kernel) (Nat.le_of_ble_eq_true rfl) ?_
  intro zp ze zs zm zb zt zc ls cx hr hlk hno hW hS hl
  replace cx : Cx_ zp zs zm zc _ cX2_bearByContributions 2 "MarginHouse$Plan" w := cx
  replace hl : lv_has ls 2 [(0, .ref (ad_ w 5 0))] := hl
  obtain ⟨H, hH⟩ : ∃ H, zs.heap = H := ⟨_, rfl⟩
  rw [hH] at hW
  have hS : Fr_ w zs.heap H [] := by rw [← hH]; exact hS
  obtain ⟨locs, hlocs⟩ : ∃ x : List Loc, x = [] := ⟨_, rfl⟩
  rw [← hlocs] at hS ⊢
  rw [show W zp l ze _ zs zm _ zb zt zc zs.heap locs 0 0 _ (F0 zm 0 ls []) ↔ W zp l ze _ zs zm _ zb zt zc H locs 0 0 _ (F0 zm 0 ls []) from by rw [hH]]
  refine lv_aload_n cx.1 cx.2.1 dX2_bearByContributions_0 rfl (lv_at hl 0 rfl) ?_
  refine gf_X2_28 cx hW (by decide) dX2_bearByContributions_1 ?_
  refine lv_aload_n cx.1 cx.2.1 dX2_bearByContributions_4 rfl (lv_at hl 0 rfl) ?_
  refine gf_X2_36 cx hW (by decide) dX2_bearByContributions_5 ?_
  refine ck_V (v := none) (As := [.long (gl_ a 9 0 0)]) (rest := []) (k := 15) (i := 0) (T := TX3) cx hW hS hl (by decide) rfl rfl (c_X3_split l hI a (gl_ a 9 0 0)) cw_X3_split nw_291 nw_292 nw_290 rfl rfl (Nat.le_of_ble_eq_true rfl) rfl rfl ⟨Nat.le_of_ble_eq_true rfl, Nat.le_of_ble_eq_true rfl⟩ ⟨Nat.le_of_ble_eq_true rfl, Nat.le_of_ble_eq_true rfl⟩ dX2_bearByContributions_8 (fun H locs hW hS => ?_)
  refine W.eq (g2 := F0 zm 11 ls []) rfl ?_
  refine lv_iconst (v := 0) cx.1 cx.2.1 dX2_bearByContributions_11 (by decide) ?_
  refine lv_istore_n (lv' := [(1, .int 0), (0, .ref (ad_ w 5 0))]) cx.1 cx.2.1 dX2_bearByContributions_12 rfl hl (by decide) rfl (fun ls hl => ?_)
  have L13 : ∀ (d i : Nat), i ≤ 8 → 8 - i < d → ∀ (H : Heap) (locs : List Loc) (ls : Array Slot), Hd_ w (bc_ 6 2 (sq_ a (gl_ a 9 0 0)) i) H → Fr_ w zs.heap H locs → lv_has ls 2 [(0, .ref (ad_ w 5 0)), (1, .int (nI i))] → W zp l ze { frames := 3, cells := 0, slots := 0, locals := 86 } zs zm ([.ref (ad_ w 5 0)] : List Value).toArray zb zt zc H locs 0 0 (vx_MQ zb (Qc_ w (.inl none) (bc_ 6 2 (sq_ a (gl_ a 9 0 0)) 8)) (XC_ w (.inl none) (bc_ 6 2 (sq_ a (gl_ a 9 0 0)) 8)) ([.ref (ad_ w 5 0)] : List Value).toArray zs 0 0 (fun q => lo_ w ≤ q)) (F0 zm 13 ls []) := by
    intro d
    induction d with
    | zero => intro i _ hd; exact absurd hd (Nat.not_lt_zero _)
    | succ d ih13 =>
      intro i hi hdi  H locs ls hW hS hl
      refine lv_iload_n cx.1 cx.2.1 dX2_bearByContributions_13 rfl (lv_at hl 1 rfl) ?_
      refine lv_bipush (v := 8) cx.1 cx.2.1 dX2_bearByContributions_14 (by decide) ?_
      refine tp_i (y := nI 8) (by decide +kernel) ?_
      refine lv_icmp_ge (tgt := 57) cx.1 cx.2.1 dX2_bearByContributions_16 (by decide) (fun h16 => ?_) (fun h16 => ?_)
      · skip
        have h16 : 8 ≤ i := (nI_leI (by omega) (by omega)).mp h16
        have e13 : i = 8 := by omega
        try rw [e13] at hl
        try rw [e13] at hW
        exact cr_v cx hr hlk hW hS (Nat.le_of_ble_eq_true rfl) (Nat.le_of_ble_eq_true rfl) dX2_bearByContributions_57 rfl rfl
      · skip
        have h16 : i < 8 := Nat.not_le.mp (fun q => h16 ((nI_leI (by omega) (by omega)).mpr q))
        refine lv_aload_n cx.1 cx.2.1 dX2_bearByContributions_19 rfl (lv_at hl 0 rfl) ?_
        refine gf_X2_19 cx hW (by decide) dX2_bearByContributions_20 ?_
        refine lv_iload_n cx.1 cx.2.1 dX2_bearByContributions_23 rfl (lv_at hl 1 rfl) ?_
        refine lv_dup2_11 cx.1 cx.2.1 dX2_bearByContributions_24 rfl rfl ?_
        refine al_13 (j := i) cx hW (by decide) rfl (by omega) dX2_bearByContributions_25 ?_
        refine lv_aload_n cx.1 cx.2.1 dX2_bearByContributions_26 rfl (lv_at hl 0 rfl) ?_
        refine gf_X2_28 cx hW (by decide) dX2_bearByContributions_27 ?_
        refine gf_X2_56 cx hW (by decide) dX2_bearByContributions_30 ?_
        refine lv_iload_n cx.1 cx.2.1 dX2_bearByContributions_33 rfl (lv_at hl 1 rfl) ?_
        refine al_17 (j := i) cx hW (by decide) rfl (by omega) dX2_bearByContributions_34 ?_
        refine lv_lsub cx.1 cx.2.1 dX2_bearByContributions_35 ?_
        refine as_13 (j := i) cx hW hS (by decide) rfl (by omega) dX2_bearByContributions_36 (fun H locs hW hS => ?_)
        refine lv_aload_n cx.1 cx.2.1 dX2_bearByContributions_37 rfl (lv_at hl 0 rfl) ?_
        refine lv_iconst (v := 2) cx.1 cx.2.1 dX2_bearByContributions_38 (by decide) ?_
        refine tp_i (y := nI 2) (by decide +kernel) ?_
        refine lv_aload_n cx.1 cx.2.1 dX2_bearByContributions_39 rfl (lv_at hl 0 rfl) ?_
        refine gf_X2_28 cx hW (by decide) dX2_bearByContributions_40 ?_
        refine gf_X2_56 cx hW (by decide) dX2_bearByContributions_43 ?_
        refine lv_iload_n cx.1 cx.2.1 dX2_bearByContributions_46 rfl (lv_at hl 1 rfl) ?_
        refine al_17 (j := i) cx hW (by decide) rfl (by omega) dX2_bearByContributions_47 ?_
        refine ck_V (v := none) (As := [.int (nI 2), .long (gl_ (sl_ (bc_ 6 2 (sq_ a (gl_ a 9 0 0)) i) 6 0 i ((gl_ (bc_ 6 2 (sq_ a (gl_ a 9 0 0)) i) 6 0 i) - (gl_ (bc_ 6 2 (sq_ a (gl_ a 9 0 0)) i) 11 0 i))) 11 0 i)]) (rest := []) (k := 5) (i := 0) (T := TX2) cx hW hS hl (by decide) rfl rfl (c_X2_bear l hI (sl_ (bc_ 6 2 (sq_ a (gl_ a 9 0 0)) i) 6 0 i ((gl_ (bc_ 6 2 (sq_ a (gl_ a 9 0 0)) i) 6 0 i) - (gl_ (bc_ 6 2 (sq_ a (gl_ a 9 0 0)) i) 11 0 i))) 2 (by decide) (gl_ (sl_ (bc_ 6 2 (sq_ a (gl_ a 9 0 0)) i) 6 0 i ((gl_ (bc_ 6 2 (sq_ a (gl_ a 9 0 0)) i) 6 0 i) - (gl_ (bc_ 6 2 (sq_ a (gl_ a 9 0 0)) i) 11 0 i))) 11 0 i)) cw_X2_bear nw_277 nw_530 nw_276 rfl rfl (Nat.le_of_ble_eq_true rfl) rfl rfl ⟨Nat.le_of_ble_eq_true rfl, Nat.le_of_ble_eq_true rfl⟩ ⟨Nat.le_of_ble_eq_true rfl, Nat.le_of_ble_eq_true rfl⟩ dX2_bearByContributions_48 (fun H locs hW hS => ?_)
        refine W.eq (g2 := F0 zm 51 ls []) rfl ?_
        refine lv_iinc (v := nI (i + 1)) (lv' := [(1, .int (nI (i + 1))), (0, .ref (ad_ w 5 0))]) cx.1 cx.2.1 dX2_bearByContributions_51 hl (k := 1) rfl (nI_inc i) (by decide) rfl (fun ls hl => ?_)
        refine lv_goto (tgt := 13) cx.1 cx.2.1 dX2_bearByContributions_54 (by decide) ?_
        exact ih13 (i + 1) (by omega) (by omega)  H locs ls hW hS (lv_sub (l' := [(0, .ref (ad_ w 5 0)), (1, .int (nI (i + 1)))]) hl [1, 0] rfl)
  exact L13 (8 - 0 + 1) 0 (by omega) (by omega)  H locs ls hW hS (lv_sub hl [1, 0] rfl)
set_option maxHeartbeats 4000000 in
set_option maxRecDepth 100000 in
theorem c_X2_bearByCalls (l : Launch) {w : Gh_} (hI : In_ w) (a : St_) : Fn_ l w yX2_bearByCalls (.code yX2_bearByCalls cX2_bearByCalls 2 none) { frames := 3, cells := 0, slots := 0, locals := 86 } 0 0 [.ref (ad_ w 5 0)] a (.inl none) (bc_ 5 3 (sq_ a (gl_ a 9 0 0)) 8) := by
  refine Fn_of hI (by decide +kernel) (Nat.le_of_ble_eq_true rfl) ?_
  intro zp ze zs zm zb zt zc ls cx hr hlk hno hW hS hl
  replace cx : Cx_ zp zs zm zc _ cX2_bearByCalls 2 "MarginHouse$Plan" w := cx
  replace hl : lv_has ls 2 [(0, .ref (ad_ w 5 0))] := hl
  obtain ⟨H, hH⟩ : ∃ H, zs.heap = H := ⟨_, rfl⟩
  rw [hH] at hW
  have hS : Fr_ w zs.heap H [] := by rw [← hH]; exact hS
  obtain ⟨locs, hlocs⟩ : ∃ x : List Loc, x = [] := ⟨_, rfl⟩
  rw [← hlocs] at hS ⊢
  rw [show W zp l ze _ zs zm _ zb zt zc zs.heap locs 0 0 _ (F0 zm 0 ls []) ↔ W zp l ze _ zs zm _ zb zt zc H locs 0 0 _ (F0 zm 0 ls []) from by rw [hH]]
  refine lv_aload_n cx.1 cx.2.1 dX2_bearByCalls_0 rfl (lv_at hl 0 rfl) ?_
  refine gf_X2_28 cx hW (by decide) dX2_bearByCalls_1 ?_
  refine lv_aload_n cx.1 cx.2.1 dX2_bearByCalls_4 rfl (lv_at hl 0 rfl) ?_
  refine gf_X2_36 cx hW (by decide) dX2_bearByCalls_5 ?_
  refine ck_V (v := none) (As := [.long (gl_ a 9 0 0)]) (rest := []) (k := 15) (i := 0) (T := TX3) cx hW hS hl (by decide) rfl rfl (c_X3_split l hI a (gl_ a 9 0 0)) cw_X3_split nw_291 nw_292 nw_290 rfl rfl (Nat.le_of_ble_eq_true rfl) rfl rfl ⟨Nat.le_of_ble_eq_true rfl, Nat.le_of_ble_eq_true rfl⟩ ⟨Nat.le_of_ble_eq_true rfl, Nat.le_of_ble_eq_true rfl⟩ dX2_bearByCalls_8 (fun H locs hW hS => ?_)
  refine W.eq (g2 := F0 zm 11 ls []) rfl ?_
  refine lv_iconst (v := 0) cx.1 cx.2.1 dX2_bearByCalls_11 (by decide) ?_
  refine lv_istore_n (lv' := [(1, .int 0), (0, .ref (ad_ w 5 0))]) cx.1 cx.2.1 dX2_bearByCalls_12 rfl hl (by decide) rfl (fun ls hl => ?_)
  have L13 : ∀ (d i : Nat), i ≤ 8 → 8 - i < d → ∀ (H : Heap) (locs : List Loc) (ls : Array Slot), Hd_ w (bc_ 5 3 (sq_ a (gl_ a 9 0 0)) i) H → Fr_ w zs.heap H locs → lv_has ls 2 [(0, .ref (ad_ w 5 0)), (1, .int (nI i))] → W zp l ze { frames := 3, cells := 0, slots := 0, locals := 86 } zs zm ([.ref (ad_ w 5 0)] : List Value).toArray zb zt zc H locs 0 0 (vx_MQ zb (Qc_ w (.inl none) (bc_ 5 3 (sq_ a (gl_ a 9 0 0)) 8)) (XC_ w (.inl none) (bc_ 5 3 (sq_ a (gl_ a 9 0 0)) 8)) ([.ref (ad_ w 5 0)] : List Value).toArray zs 0 0 (fun q => lo_ w ≤ q)) (F0 zm 13 ls []) := by
    intro d
    induction d with
    | zero => intro i _ hd; exact absurd hd (Nat.not_lt_zero _)
    | succ d ih13 =>
      intro i hi hdi  H locs ls hW hS hl
      refine lv_iload_n cx.1 cx.2.1 dX2_bearByCalls_13 rfl (lv_at hl 1 rfl) ?_
      refine lv_bipush (v := 8) cx.1 cx.2.1 dX2_bearByCalls_14 (by decide) ?_
      refine tp_i (y := nI 8) (by decide +kernel) ?_
      refine lv_icmp_ge (tgt := 57) cx.1 cx.2.1 dX2_bearByCalls_16 (by decide) (fun h16 => ?_) (fun h16 => ?_)
      · skip
        have h16 : 8 ≤ i := (nI_leI (by omega) (by omega)).mp h16
        have e13 : i = 8 := by omega
        try rw [e13] at hl
        try rw [e13] at hW
        exact cr_v cx hr hlk hW hS (Nat.le_of_ble_eq_true rfl) (Nat.le_of_ble_eq_true rfl) dX2_bearByCalls_57 rfl rfl
      · skip
        have h16 : i < 8 := Nat.not_le.mp (fun q => h16 ((nI_leI (by omega) (by omega)).mpr q))
        refine lv_aload_n cx.1 cx.2.1 dX2_bearByCalls_19 rfl (lv_at hl 0 rfl) ?_
        refine gf_X2_15 cx hW (by decide) dX2_bearByCalls_20 ?_
        refine lv_iload_n cx.1 cx.2.1 dX2_bearByCalls_23 rfl (lv_at hl 1 rfl) ?_
        refine lv_dup2_11 cx.1 cx.2.1 dX2_bearByCalls_24 rfl rfl ?_
        refine al_12 (j := i) cx hW (by decide) rfl (by omega) dX2_bearByCalls_25 ?_
        refine lv_aload_n cx.1 cx.2.1 dX2_bearByCalls_26 rfl (lv_at hl 0 rfl) ?_
        refine gf_X2_28 cx hW (by decide) dX2_bearByCalls_27 ?_
        refine gf_X2_56 cx hW (by decide) dX2_bearByCalls_30 ?_
        refine lv_iload_n cx.1 cx.2.1 dX2_bearByCalls_33 rfl (lv_at hl 1 rfl) ?_
        refine al_17 (j := i) cx hW (by decide) rfl (by omega) dX2_bearByCalls_34 ?_
        refine lv_lsub cx.1 cx.2.1 dX2_bearByCalls_35 ?_
        refine as_12 (j := i) cx hW hS (by decide) rfl (by omega) dX2_bearByCalls_36 (fun H locs hW hS => ?_)
        refine lv_aload_n cx.1 cx.2.1 dX2_bearByCalls_37 rfl (lv_at hl 0 rfl) ?_
        refine lv_iconst (v := 3) cx.1 cx.2.1 dX2_bearByCalls_38 (by decide) ?_
        refine tp_i (y := nI 3) (by decide +kernel) ?_
        refine lv_aload_n cx.1 cx.2.1 dX2_bearByCalls_39 rfl (lv_at hl 0 rfl) ?_
        refine gf_X2_28 cx hW (by decide) dX2_bearByCalls_40 ?_
        refine gf_X2_56 cx hW (by decide) dX2_bearByCalls_43 ?_
        refine lv_iload_n cx.1 cx.2.1 dX2_bearByCalls_46 rfl (lv_at hl 1 rfl) ?_
        refine al_17 (j := i) cx hW (by decide) rfl (by omega) dX2_bearByCalls_47 ?_
        refine ck_V (v := none) (As := [.int (nI 3), .long (gl_ (sl_ (bc_ 5 3 (sq_ a (gl_ a 9 0 0)) i) 5 0 i ((gl_ (bc_ 5 3 (sq_ a (gl_ a 9 0 0)) i) 5 0 i) - (gl_ (bc_ 5 3 (sq_ a (gl_ a 9 0 0)) i) 11 0 i))) 11 0 i)]) (rest := []) (k := 5) (i := 0) (T := TX2) cx hW hS hl (by decide) rfl rfl (c_X2_bear l hI (sl_ (bc_ 5 3 (sq_ a (gl_ a 9 0 0)) i) 5 0 i ((gl_ (bc_ 5 3 (sq_ a (gl_ a 9 0 0)) i) 5 0 i) - (gl_ (bc_ 5 3 (sq_ a (gl_ a 9 0 0)) i) 11 0 i))) 3 (by decide) (gl_ (sl_ (bc_ 5 3 (sq_ a (gl_ a 9 0 0)) i) 5 0 i ((gl_ (bc_ 5 3 (sq_ a (gl_ a 9 0 0)) i) 5 0 i) - (gl_ (bc_ 5 3 (sq_ a (gl_ a 9 0 0)) i) 11 0 i))) 11 0 i)) cw_X2_bear nw_277 nw_530 nw_276 rfl rfl (Nat.le_of_ble_eq_true rfl) rfl rfl ⟨Nat.le_of_ble_eq_true rfl, Nat.le_of_ble_eq_true rfl⟩ ⟨Nat.le_of_ble_eq_true rfl, Nat.le_of_ble_eq_true rfl⟩ dX2_bearByCalls_48 (fun H locs hW hS => ?_)
        refine W.eq (g2 := F0 zm 51 ls []) rfl ?_
        refine lv_iinc (v := nI (i + 1)) (lv' := [(1, .int (nI (i + 1))), (0, .ref (ad_ w 5 0))]) cx.1 cx.2.1 dX2_bearByCalls_51 hl (k := 1) rfl (nI_inc i) (by decide) rfl (fun ls hl => ?_)
        refine lv_goto (tgt := 13) cx.1 cx.2.1 dX2_bearByCalls_54 (by decide) ?_
        exact ih13 (i + 1) (by omega) (by omega)  H locs ls hW hS (lv_sub (l' := [(0, .ref (ad_ w 5 0)), (1, .int (nI (i + 1)))]) hl [1, 0] rfl)
  exact L13 (8 - 0 + 1) 0 (by omega) (by omega)  H locs ls hW hS (lv_sub hl [1, 0] rfl)
