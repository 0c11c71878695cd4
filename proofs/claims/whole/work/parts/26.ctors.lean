/-! WHERE THE CELLS LIE, and the constructors -/
def of_ (k i : Nat) : Nat := match k with
  | 0 => 0 | 1 => 1 | 2 => 2 | 3 => 3 | 10 => 4 + i | 4 => 12 | 5 => 13 | 11 => 14 | 12 => 15 | 13 => 16 | 14 => 17 | 15 => 18 | 16 => 19 | 17 => 20 | 18 => 21
  | 6 => 22 + 3 * i | 7 => 22 + 3 * i + 1 | 8 => 22 + 3 * i + 1 + 1 | 9 => 46 + i
  | 20 => 52 | 21 => 53 | 22 => 54 | 23 => 55 | 24 => 56 | 25 => 57 | 26 => 58 | 27 => 59 | 28 => 60 | 29 => 61 | 30 => 62 | 31 => 63 | 32 => 64 | 33 => 65 | 34 => 66 | 35 => 67 | 36 => 68 | 37 => 69 | 40 => 70
  | _ => 1000
def a0_ : St_ := (fun _ _ _ => 0, fun _ _ _ => 0)
abbrev iz_ (w : Gh_) (N : Nat) : va_E := .inl (ca_ w 0, N, .inl fun _ => 0)
abbrev lz_ (w : Gh_) (N : Nat) : va_E := .inl (ca_ w 1, N, .inr (.inl fun _ => 0))
theorem cw_X0_init : Cw_ yX0_init (.code yX0_init cX0_init 1 none) 0 := ⟨nw_70, nw_5, by decide +kernel, by decide +kernel, by decide +kernel⟩
theorem cw_X1_init : Cw_ yX1_init (.code yX1_init cX1_init 1 none) 0 := ⟨nw_56, nw_4, by decide +kernel, by decide +kernel, by decide +kernel⟩
theorem cw_X2_init : Cw_ yX2_init (.code yX2_init cX2_init 1 none) 0 := ⟨nw_27, nw_2, by decide +kernel, by decide +kernel, by decide +kernel⟩
theorem cw_X3_init : Cw_ yX3_init (.code yX3_init cX3_init 1 none) 0 := ⟨nw_32, nw_3, by decide +kernel, by decide +kernel, by decide +kernel⟩
theorem cw_X4_init : Cw_ yX4_init (.code yX4_init cX4_init 2 none) 0 := ⟨nw_17, nw_1, by decide +kernel, by decide +kernel, by decide +kernel⟩
theorem cw_X5_init : Cw_ yX5_init (.code yX5_init cX5_init 1 none) 0 := ⟨nw_370, nw_6, by decide +kernel, by decide +kernel, by decide +kernel⟩
set_option maxHeartbeats 4000000 in
set_option maxRecDepth 100000 in
theorem n_X0 (l : Launch) {w : Gh_} (hI : In_ w) (hA : ∀ k i, ad_ w k i = lo_ w + of_ k i) (B : Bm_) (i : Nat) (hi : i < 6) : Nc_ l w yX0_init (.code yX0_init cX0_init 1 none) { frames := 1, cells := 0, slots := 0, locals := 20 } 0 0 [.ref (ad_ w 9 i)] (bu_ B 9 i (.inr (0, [.int 0, .int 0, .int 0]))) (46 + i + 1) (bu_ B 9 i (.inr (0, [.int 0, .int 0, .int 0]))) (46 + i + 1) := by
  refine Nc_of hI (by decide +kernel) rfl (Nat.le_of_ble_eq_true rfl) ?_
  intro zp ze zs zm zb zt zc ls cb hr hlk hnm _ hl H locs hB hS
  replace cb : Cb_ zp zs zm zc _ cX0_init 1 "MarginHouse$Instrument" w := cb
  replace hl : lv_has ls 1 [(0, .ref (ad_ w 9 i))] := hl
  refine lv_aload_n cb.1 cb.2.1 dX0_init_0 rfl (lv_at hl 0 rfl) ?_
  refine cb_obj cb hl nw_71 (Nat.le_of_ble_eq_true rfl) (Nat.le_of_ble_eq_true rfl) dX0_init_1 ?_
  refine lv_aload_n cb.1 cb.2.1 dX0_init_4 rfl (lv_at hl 0 rfl) ?_
  refine lv_iconst (v := 0) cb.1 cb.2.1 dX0_init_5 (by decide) ?_
  refine cb_put (B := B) (k := 9) (i := i) (ci := 0) (ty := .int) (v := .int 0) cb inX0 tyX0 tyX0_ok nmX0 hB hS rfl 0 (by decide) nw_72 rfl (by decide +kernel) rfl rfl (Nat.le_of_ble_eq_true rfl) dX0_init_6 (fun H locs hB hS => ?_)
  replace hB : Bd_ w (bu_ B 9 i (.inr (0, [.int 0, .int 0, .int 0]))) (46 + i + 1) H := hB
  refine lv_aload_n cb.1 cb.2.1 dX0_init_9 rfl (lv_at hl 0 rfl) ?_
  refine lv_iconst (v := 0) cb.1 cb.2.1 dX0_init_10 (by decide) ?_
  refine cb_put (B := B) (k := 9) (i := i) (ci := 0) (ty := .int) (v := .int 0) cb inX0 tyX0 tyX0_ok nmX0 hB hS rfl 1 (by decide) nw_74 rfl (by decide +kernel) rfl rfl (Nat.le_of_ble_eq_true rfl) dX0_init_11 (fun H locs hB hS => ?_)
  replace hB : Bd_ w (bu_ B 9 i (.inr (0, [.int 0, .int 0, .int 0]))) (46 + i + 1) H := hB
  refine lv_aload_n cb.1 cb.2.1 dX0_init_14 rfl (lv_at hl 0 rfl) ?_
  refine lv_iconst (v := 0) cb.1 cb.2.1 dX0_init_15 (by decide) ?_
  refine cb_put (B := B) (k := 9) (i := i) (ci := 0) (ty := .int) (v := .int 0) cb inX0 tyX0 tyX0_ok nmX0 hB hS rfl 2 (by decide) nw_76 rfl (by decide +kernel) rfl rfl (Nat.le_of_ble_eq_true rfl) dX0_init_16 (fun H locs hB hS => ?_)
  replace hB : Bd_ w (bu_ B 9 i (.inr (0, [.int 0, .int 0, .int 0]))) (46 + i + 1) H := hB
  exact cb_ret cb hr hlk hB hS (Nat.le_of_ble_eq_true rfl) (Nat.le_of_ble_eq_true rfl) dX0_init_19 (fun _ _ _ h => h) rfl
set_option maxHeartbeats 4000000 in
set_option maxRecDepth 100000 in
theorem n_X1 (l : Launch) {w : Gh_} (hI : In_ w) (hA : ∀ k i, ad_ w k i = lo_ w + of_ k i) (B : Bm_) (i : Nat) (hi : i < 8) : Nc_ l w yX1_init (.code yX1_init cX1_init 1 none) { frames := 1, cells := 2, slots := 12, locals := 20 } 2 12 [.ref (ad_ w 6 i)] (bu_ B 6 i (.inr (1, [.null, .null, .int 0, .long 0, .long 0]))) (22 + 3 * i + 1) (bu_ (bu_ (bu_ B 7 i (iz_ w 6)) 8 i (iz_ w 6)) 6 i (.inr (1, [.ref (ad_ w 7 i), .ref (ad_ w 8 i), .int 0, .long 0, .long 0]))) (22 + 3 * i + 1 + 1 + 1) := by
  refine Nc_of hI (by decide +kernel) rfl (Nat.le_of_ble_eq_true rfl) ?_
  intro zp ze zs zm zb zt zc ls cb hr hlk hnm _ hl H locs hB hS
  replace cb : Cb_ zp zs zm zc _ cX1_init 1 "MarginHouse$Member" w := cb
  replace hl : lv_has ls 1 [(0, .ref (ad_ w 6 i))] := hl
  refine lv_aload_n cb.1 cb.2.1 dX1_init_0 rfl (lv_at hl 0 rfl) ?_
  refine cb_obj cb hl nw_57 (Nat.le_of_ble_eq_true rfl) (Nat.le_of_ble_eq_true rfl) dX1_init_1 ?_
  refine lv_aload_n cb.1 cb.2.1 dX1_init_4 rfl (lv_at hl 0 rfl) ?_
  refine lv_bipush (v := 6) cb.1 cb.2.1 dX1_init_5 (by decide) ?_
  refine cb_ia (N := 6) (k := 7) (i := i) cb hB hS hi (by rw [hA]; rfl) (by decide) (by decide +kernel) (by decide) (Nat.le_of_ble_eq_true rfl) (Nat.le_of_ble_eq_true rfl) dX1_init_7 (fun H hB hS => ?_)
  rw [bu_swap (k := 6) (k2 := 7) _ _ _ (by decide)] at hB
  refine cb_fin (B := (bu_ B 7 i (iz_ w 6))) (k := 6) (i := i) (ci := 1) (ty := .array .int) (v := .ref (ad_ w 7 i)) cb hnm inX1 tyX1 tyX1_ok nmX1 hB hS rfl 0 (by decide) nw_58 rfl rfl (by decide +kernel) rfl rfl (Nat.le_of_ble_eq_true rfl) dX1_init_9 (fun H locs hB hS => ?_)
  replace hB : Bd_ w (bu_ (bu_ B 7 i (iz_ w 6)) 6 i (.inr (1, [.ref (ad_ w 7 i), .null, .int 0, .long 0, .long 0]))) (22 + 3 * i + 1 + 1) H := hB
  refine lv_aload_n cb.1 cb.2.1 dX1_init_12 rfl (lv_at hl 0 rfl) ?_
  refine lv_bipush (v := 6) cb.1 cb.2.1 dX1_init_13 (by decide) ?_
  refine cb_ia (N := 6) (k := 8) (i := i) cb hB hS hi (by rw [hA]; rfl) (by decide) (by decide +kernel) (by decide) (Nat.le_of_ble_eq_true rfl) (Nat.le_of_ble_eq_true rfl) dX1_init_15 (fun H hB hS => ?_)
  rw [bu_swap (k := 6) (k2 := 8) _ _ _ (by decide)] at hB
  refine cb_fin (B := (bu_ (bu_ B 7 i (iz_ w 6)) 8 i (iz_ w 6))) (k := 6) (i := i) (ci := 1) (ty := .array .int) (v := .ref (ad_ w 8 i)) cb hnm inX1 tyX1 tyX1_ok nmX1 hB hS rfl 1 (by decide) nw_60 rfl rfl (by decide +kernel) rfl rfl (Nat.le_of_ble_eq_true rfl) dX1_init_17 (fun H locs hB hS => ?_)
  replace hB : Bd_ w (bu_ (bu_ (bu_ B 7 i (iz_ w 6)) 8 i (iz_ w 6)) 6 i (.inr (1, [.ref (ad_ w 7 i), .ref (ad_ w 8 i), .int 0, .long 0, .long 0]))) (22 + 3 * i + 1 + 1 + 1) H := hB
  refine lv_aload_n cb.1 cb.2.1 dX1_init_20 rfl (lv_at hl 0 rfl) ?_
  refine lv_iconst (v := 0) cb.1 cb.2.1 dX1_init_21 (by decide) ?_
  refine cb_put (B := (bu_ (bu_ B 7 i (iz_ w 6)) 8 i (iz_ w 6))) (k := 6) (i := i) (ci := 1) (ty := .int) (v := .int 0) cb inX1 tyX1 tyX1_ok nmX1 hB hS rfl 2 (by decide) nw_62 rfl (by decide +kernel) rfl rfl (Nat.le_of_ble_eq_true rfl) dX1_init_22 (fun H locs hB hS => ?_)
  replace hB : Bd_ w (bu_ (bu_ (bu_ B 7 i (iz_ w 6)) 8 i (iz_ w 6)) 6 i (.inr (1, [.ref (ad_ w 7 i), .ref (ad_ w 8 i), .int 0, .long 0, .long 0]))) (22 + 3 * i + 1 + 1 + 1) H := hB
  refine lv_aload_n cb.1 cb.2.1 dX1_init_25 rfl (lv_at hl 0 rfl) ?_
  refine lv_lconst (v := 0) cb.1 cb.2.1 dX1_init_26 (by decide) ?_
  refine cb_put (B := (bu_ (bu_ B 7 i (iz_ w 6)) 8 i (iz_ w 6))) (k := 6) (i := i) (ci := 1) (ty := .long) (v := .long 0) cb inX1 tyX1 tyX1_ok nmX1 hB hS rfl 3 (by decide) nw_64 rfl (by decide +kernel) rfl rfl (Nat.le_of_ble_eq_true rfl) dX1_init_27 (fun H locs hB hS => ?_)
  replace hB : Bd_ w (bu_ (bu_ (bu_ B 7 i (iz_ w 6)) 8 i (iz_ w 6)) 6 i (.inr (1, [.ref (ad_ w 7 i), .ref (ad_ w 8 i), .int 0, .long 0, .long 0]))) (22 + 3 * i + 1 + 1 + 1) H := hB
  refine lv_aload_n cb.1 cb.2.1 dX1_init_30 rfl (lv_at hl 0 rfl) ?_
  refine lv_lconst (v := 0) cb.1 cb.2.1 dX1_init_31 (by decide) ?_
  refine cb_put (B := (bu_ (bu_ B 7 i (iz_ w 6)) 8 i (iz_ w 6))) (k := 6) (i := i) (ci := 1) (ty := .long) (v := .long 0) cb inX1 tyX1 tyX1_ok nmX1 hB hS rfl 4 (by decide) nw_66 rfl (by decide +kernel) rfl rfl (Nat.le_of_ble_eq_true rfl) dX1_init_32 (fun H locs hB hS => ?_)
  replace hB : Bd_ w (bu_ (bu_ (bu_ B 7 i (iz_ w 6)) 8 i (iz_ w 6)) 6 i (.inr (1, [.ref (ad_ w 7 i), .ref (ad_ w 8 i), .int 0, .long 0, .long 0]))) (22 + 3 * i + 1 + 1 + 1) H := hB
  exact cb_ret cb hr hlk hB hS (Nat.le_of_ble_eq_true rfl) (Nat.le_of_ble_eq_true rfl) dX1_init_35 (fun _ _ _ h => h) rfl
set_option maxHeartbeats 4000000 in
set_option maxRecDepth 100000 in
theorem n_X3 (l : Launch) {w : Gh_} (hI : In_ w) (hA : ∀ k i, ad_ w k i = lo_ w + of_ k i) (B : Bm_) : Nc_ l w yX3_init (.code yX3_init cX3_init 1 none) { frames := 1, cells := 3, slots := 24, locals := 20 } 3 24 [.ref (ad_ w 15 0)] (bu_ B 15 0 (.inr (3, [.null, .null, .null]))) 19 (bu_ (bu_ (bu_ (bu_ B 16 0 (lz_ w 8)) 17 0 (lz_ w 8)) 18 0 (lz_ w 8)) 15 0 (.inr (3, [.ref (ad_ w 16 0), .ref (ad_ w 17 0), .ref (ad_ w 18 0)]))) (19 + 1 + 1 + 1) := by
  refine Nc_of hI (by decide +kernel) rfl (Nat.le_of_ble_eq_true rfl) ?_
  intro zp ze zs zm zb zt zc ls cb hr hlk hnm _ hl H locs hB hS
  replace cb : Cb_ zp zs zm zc _ cX3_init 1 "MarginHouse$Shares" w := cb
  replace hl : lv_has ls 1 [(0, .ref (ad_ w 15 0))] := hl
  refine lv_aload_n cb.1 cb.2.1 dX3_init_0 rfl (lv_at hl 0 rfl) ?_
  refine cb_obj cb hl nw_33 (Nat.le_of_ble_eq_true rfl) (Nat.le_of_ble_eq_true rfl) dX3_init_1 ?_
  refine lv_aload_n cb.1 cb.2.1 dX3_init_4 rfl (lv_at hl 0 rfl) ?_
  refine lv_bipush (v := 8) cb.1 cb.2.1 dX3_init_5 (by decide) ?_
  refine cb_la (N := 8) (k := 16) (i := 0) cb hB hS (by decide) (by rw [hA]; rfl) (by decide) (by decide +kernel) (by decide) (Nat.le_of_ble_eq_true rfl) (Nat.le_of_ble_eq_true rfl) dX3_init_7 (fun H hB hS => ?_)
  rw [bu_swap (k := 15) (k2 := 16) _ _ _ (by decide)] at hB
  refine cb_fin (B := (bu_ B 16 0 (lz_ w 8))) (k := 15) (i := 0) (ci := 3) (ty := .array .long) (v := .ref (ad_ w 16 0)) cb hnm inX3 tyX3 tyX3_ok nmX3 hB hS rfl 0 (by decide) nw_34 rfl rfl (by decide +kernel) rfl rfl (Nat.le_of_ble_eq_true rfl) dX3_init_9 (fun H locs hB hS => ?_)
  replace hB : Bd_ w (bu_ (bu_ B 16 0 (lz_ w 8)) 15 0 (.inr (3, [.ref (ad_ w 16 0), .null, .null]))) (19 + 1) H := hB
  refine lv_aload_n cb.1 cb.2.1 dX3_init_12 rfl (lv_at hl 0 rfl) ?_
  refine lv_bipush (v := 8) cb.1 cb.2.1 dX3_init_13 (by decide) ?_
  refine cb_la (N := 8) (k := 17) (i := 0) cb hB hS (by decide) (by rw [hA]; rfl) (by decide) (by decide +kernel) (by decide) (Nat.le_of_ble_eq_true rfl) (Nat.le_of_ble_eq_true rfl) dX3_init_15 (fun H hB hS => ?_)
  rw [bu_swap (k := 15) (k2 := 17) _ _ _ (by decide)] at hB
  refine cb_fin (B := (bu_ (bu_ B 16 0 (lz_ w 8)) 17 0 (lz_ w 8))) (k := 15) (i := 0) (ci := 3) (ty := .array .long) (v := .ref (ad_ w 17 0)) cb hnm inX3 tyX3 tyX3_ok nmX3 hB hS rfl 1 (by decide) nw_36 rfl rfl (by decide +kernel) rfl rfl (Nat.le_of_ble_eq_true rfl) dX3_init_17 (fun H locs hB hS => ?_)
  replace hB : Bd_ w (bu_ (bu_ (bu_ B 16 0 (lz_ w 8)) 17 0 (lz_ w 8)) 15 0 (.inr (3, [.ref (ad_ w 16 0), .ref (ad_ w 17 0), .null]))) (19 + 1 + 1) H := hB
  refine lv_aload_n cb.1 cb.2.1 dX3_init_20 rfl (lv_at hl 0 rfl) ?_
  refine lv_bipush (v := 8) cb.1 cb.2.1 dX3_init_21 (by decide) ?_
  refine cb_la (N := 8) (k := 18) (i := 0) cb hB hS (by decide) (by rw [hA]; rfl) (by decide) (by decide +kernel) (by decide) (Nat.le_of_ble_eq_true rfl) (Nat.le_of_ble_eq_true rfl) dX3_init_23 (fun H hB hS => ?_)
  rw [bu_swap (k := 15) (k2 := 18) _ _ _ (by decide)] at hB
  refine cb_fin (B := (bu_ (bu_ (bu_ B 16 0 (lz_ w 8)) 17 0 (lz_ w 8)) 18 0 (lz_ w 8))) (k := 15) (i := 0) (ci := 3) (ty := .array .long) (v := .ref (ad_ w 18 0)) cb hnm inX3 tyX3 tyX3_ok nmX3 hB hS rfl 2 (by decide) nw_38 rfl rfl (by decide +kernel) rfl rfl (Nat.le_of_ble_eq_true rfl) dX3_init_25 (fun H locs hB hS => ?_)
  replace hB : Bd_ w (bu_ (bu_ (bu_ (bu_ B 16 0 (lz_ w 8)) 17 0 (lz_ w 8)) 18 0 (lz_ w 8)) 15 0 (.inr (3, [.ref (ad_ w 16 0), .ref (ad_ w 17 0), .ref (ad_ w 18 0)]))) (19 + 1 + 1 + 1) H := hB
  exact cb_ret cb hr hlk hB hS (Nat.le_of_ble_eq_true rfl) (Nat.le_of_ble_eq_true rfl) dX3_init_28 (fun _ _ _ h => h) rfl
set_option maxHeartbeats 4000000 in
set_option maxRecDepth 100000 in
theorem n_X2 (l : Launch) {w : Gh_} (hI : In_ w) (hA : ∀ k i, ad_ w k i = lo_ w + of_ k i) (B : Bm_) : Nc_ l w yX2_init (.code yX2_init cX2_init 1 none) { frames := 2, cells := 8, slots := 54, locals := 40 } 8 54 [.ref (ad_ w 5 0)] (bu_ B 5 0 (.inr (2, [.null, .null, .null, .null, .null, .long 0, .long 0]))) 14 (bu_ (bu_ (bu_ (bu_ (bu_ (bu_ (bu_ (bu_ (bu_ B 11 0 (iz_ w 6)) 12 0 (lz_ w 8)) 13 0 (lz_ w 8)) 14 0 (lz_ w 5)) 16 0 (lz_ w 8)) 17 0 (lz_ w 8)) 18 0 (lz_ w 8)) 15 0 (.inr (3, [.ref (ad_ w 16 0), .ref (ad_ w 17 0), .ref (ad_ w 18 0)]))) 5 0 (.inr (2, [.ref (ad_ w 11 0), .ref (ad_ w 12 0), .ref (ad_ w 13 0), .ref (ad_ w 14 0), .ref (ad_ w 15 0), .long 0, .long 0]))) 22 := by
  refine Nc_of hI (by decide +kernel) rfl (Nat.le_of_ble_eq_true rfl) ?_
  intro zp ze zs zm zb zt zc ls cb hr hlk hnm _ hl H locs hB hS
  replace cb : Cb_ zp zs zm zc _ cX2_init 1 "MarginHouse$Plan" w := cb
  replace hl : lv_has ls 1 [(0, .ref (ad_ w 5 0))] := hl
  refine lv_aload_n cb.1 cb.2.1 dX2_init_0 rfl (lv_at hl 0 rfl) ?_
  refine cb_obj cb hl nw_28 (Nat.le_of_ble_eq_true rfl) (Nat.le_of_ble_eq_true rfl) dX2_init_1 ?_
  refine lv_aload_n cb.1 cb.2.1 dX2_init_4 rfl (lv_at hl 0 rfl) ?_
  refine lv_bipush (v := 6) cb.1 cb.2.1 dX2_init_5 (by decide) ?_
  refine cb_ia (N := 6) (k := 11) (i := 0) cb hB hS (by decide) (by rw [hA]; rfl) (by decide) (by decide +kernel) (by decide) (Nat.le_of_ble_eq_true rfl) (Nat.le_of_ble_eq_true rfl) dX2_init_7 (fun H hB hS => ?_)
  rw [bu_swap (k := 5) (k2 := 11) _ _ _ (by decide)] at hB
  refine cb_fin (B := (bu_ B 11 0 (iz_ w 6))) (k := 5) (i := 0) (ci := 2) (ty := .array .int) (v := .ref (ad_ w 11 0)) cb hnm inX2 tyX2 tyX2_ok nmX2 hB hS rfl 0 (by decide) nw_41 rfl rfl (by decide +kernel) rfl rfl (Nat.le_of_ble_eq_true rfl) dX2_init_9 (fun H locs hB hS => ?_)
  replace hB : Bd_ w (bu_ (bu_ B 11 0 (iz_ w 6)) 5 0 (.inr (2, [.ref (ad_ w 11 0), .null, .null, .null, .null, .long 0, .long 0]))) (14 + 1) H := hB
  refine lv_aload_n cb.1 cb.2.1 dX2_init_12 rfl (lv_at hl 0 rfl) ?_
  refine lv_bipush (v := 8) cb.1 cb.2.1 dX2_init_13 (by decide) ?_
  refine cb_la (N := 8) (k := 12) (i := 0) cb hB hS (by decide) (by rw [hA]; rfl) (by decide) (by decide +kernel) (by decide) (Nat.le_of_ble_eq_true rfl) (Nat.le_of_ble_eq_true rfl) dX2_init_15 (fun H hB hS => ?_)
  rw [bu_swap (k := 5) (k2 := 12) _ _ _ (by decide)] at hB
  refine cb_fin (B := (bu_ (bu_ B 11 0 (iz_ w 6)) 12 0 (lz_ w 8))) (k := 5) (i := 0) (ci := 2) (ty := .array .long) (v := .ref (ad_ w 12 0)) cb hnm inX2 tyX2 tyX2_ok nmX2 hB hS rfl 1 (by decide) nw_43 rfl rfl (by decide +kernel) rfl rfl (Nat.le_of_ble_eq_true rfl) dX2_init_17 (fun H locs hB hS => ?_)
  replace hB : Bd_ w (bu_ (bu_ (bu_ B 11 0 (iz_ w 6)) 12 0 (lz_ w 8)) 5 0 (.inr (2, [.ref (ad_ w 11 0), .ref (ad_ w 12 0), .null, .null, .null, .long 0, .long 0]))) (14 + 1 + 1) H := hB
  refine lv_aload_n cb.1 cb.2.1 dX2_init_20 rfl (lv_at hl 0 rfl) ?_
  refine lv_bipush (v := 8) cb.1 cb.2.1 dX2_init_21 (by decide) ?_
  refine cb_la (N := 8) (k := 13) (i := 0) cb hB hS (by decide) (by rw [hA]; rfl) (by decide) (by decide +kernel) (by decide) (Nat.le_of_ble_eq_true rfl) (Nat.le_of_ble_eq_true rfl) dX2_init_23 (fun H hB hS => ?_)
  rw [bu_swap (k := 5) (k2 := 13) _ _ _ (by decide)] at hB
  refine cb_fin (B := (bu_ (bu_ (bu_ B 11 0 (iz_ w 6)) 12 0 (lz_ w 8)) 13 0 (lz_ w 8))) (k := 5) (i := 0) (ci := 2) (ty := .array .long) (v := .ref (ad_ w 13 0)) cb hnm inX2 tyX2 tyX2_ok nmX2 hB hS rfl 2 (by decide) nw_45 rfl rfl (by decide +kernel) rfl rfl (Nat.le_of_ble_eq_true rfl) dX2_init_25 (fun H locs hB hS => ?_)
  replace hB : Bd_ w (bu_ (bu_ (bu_ (bu_ B 11 0 (iz_ w 6)) 12 0 (lz_ w 8)) 13 0 (lz_ w 8)) 5 0 (.inr (2, [.ref (ad_ w 11 0), .ref (ad_ w 12 0), .ref (ad_ w 13 0), .null, .null, .long 0, .long 0]))) (14 + 1 + 1 + 1) H := hB
  refine lv_aload_n cb.1 cb.2.1 dX2_init_28 rfl (lv_at hl 0 rfl) ?_
  refine lv_iconst (v := 5) cb.1 cb.2.1 dX2_init_29 (by decide) ?_
  refine cb_la (N := 5) (k := 14) (i := 0) cb hB hS (by decide) (by rw [hA]; rfl) (by decide) (by decide +kernel) (by decide) (Nat.le_of_ble_eq_true rfl) (Nat.le_of_ble_eq_true rfl) dX2_init_30 (fun H hB hS => ?_)
  rw [bu_swap (k := 5) (k2 := 14) _ _ _ (by decide)] at hB
  refine cb_fin (B := (bu_ (bu_ (bu_ (bu_ B 11 0 (iz_ w 6)) 12 0 (lz_ w 8)) 13 0 (lz_ w 8)) 14 0 (lz_ w 5))) (k := 5) (i := 0) (ci := 2) (ty := .array .long) (v := .ref (ad_ w 14 0)) cb hnm inX2 tyX2 tyX2_ok nmX2 hB hS rfl 3 (by decide) nw_47 rfl rfl (by decide +kernel) rfl rfl (Nat.le_of_ble_eq_true rfl) dX2_init_32 (fun H locs hB hS => ?_)
  replace hB : Bd_ w (bu_ (bu_ (bu_ (bu_ (bu_ B 11 0 (iz_ w 6)) 12 0 (lz_ w 8)) 13 0 (lz_ w 8)) 14 0 (lz_ w 5)) 5 0 (.inr (2, [.ref (ad_ w 11 0), .ref (ad_ w 12 0), .ref (ad_ w 13 0), .ref (ad_ w 14 0), .null, .long 0, .long 0]))) (14 + 1 + 1 + 1 + 1) H := hB
  refine lv_aload_n cb.1 cb.2.1 dX2_init_35 rfl (lv_at hl 0 rfl) ?_
  refine cb_new (k := 15) (i := 0) (ci := 3) (fs := [.null, .null, .null]) cb inX3 tyX3 tyX3_ok nw_29 nw_30 nw_3 hB hS (by decide) (by rw [hA]; rfl) rfl (by decide +kernel) (Nat.le_of_ble_eq_true rfl) (Nat.le_of_ble_eq_true rfl) dX2_init_36 (fun H hB hS => ?_)
  refine lv_dup cb.1 cb.2.1 dX2_init_39 rfl ?_
  refine cb_cn (rest := [.ref (ad_ w 15 0), .ref (ad_ w 5 0)]) cb hl (n_X3 l hI hA _) hB hS cw_X3_init rfl nw_31 cb.2.2.2.2.2.2.2.2.1 rfl rfl ⟨(Nat.le_of_ble_eq_true rfl), (Nat.le_of_ble_eq_true rfl)⟩ ⟨(Nat.le_of_ble_eq_true rfl), (Nat.le_of_ble_eq_true rfl)⟩ (Nat.le_of_ble_eq_true rfl) dX2_init_40 (fun H locs hB hS => ?_)
  rw [bu_swap (k := 5) (k2 := 16) _ _ _ (by decide)] at hB
  rw [bu_swap (k := 5) (k2 := 17) _ _ _ (by decide)] at hB
  rw [bu_swap (k := 5) (k2 := 18) _ _ _ (by decide)] at hB
  rw [bu_swap (k := 5) (k2 := 15) _ _ _ (by decide)] at hB
  replace hB : Bd_ w (bu_ (bu_ (bu_ (bu_ (bu_ (bu_ (bu_ (bu_ (bu_ B 11 0 (iz_ w 6)) 12 0 (lz_ w 8)) 13 0 (lz_ w 8)) 14 0 (lz_ w 5)) 16 0 (lz_ w 8)) 17 0 (lz_ w 8)) 18 0 (lz_ w 8)) 15 0 (.inr (3, [.ref (ad_ w 16 0), .ref (ad_ w 17 0), .ref (ad_ w 18 0)]))) 5 0 (.inr (2, [.ref (ad_ w 11 0), .ref (ad_ w 12 0), .ref (ad_ w 13 0), .ref (ad_ w 14 0), .null, .long 0, .long 0]))) 22 H := hB
  refine cb_fin (B := (bu_ (bu_ (bu_ (bu_ (bu_ (bu_ (bu_ (bu_ B 11 0 (iz_ w 6)) 12 0 (lz_ w 8)) 13 0 (lz_ w 8)) 14 0 (lz_ w 5)) 16 0 (lz_ w 8)) 17 0 (lz_ w 8)) 18 0 (lz_ w 8)) 15 0 (.inr (3, [.ref (ad_ w 16 0), .ref (ad_ w 17 0), .ref (ad_ w 18 0)])))) (k := 5) (i := 0) (ci := 2) (ty := .object "MarginHouse$Shares") (v := .ref (ad_ w 15 0)) cb hnm inX2 tyX2 tyX2_ok nmX2 hB hS rfl 4 (by decide) nw_49 rfl rfl (by decide +kernel) rfl rfl (Nat.le_of_ble_eq_true rfl) dX2_init_43 (fun H locs hB hS => ?_)
  replace hB : Bd_ w (bu_ (bu_ (bu_ (bu_ (bu_ (bu_ (bu_ (bu_ (bu_ B 11 0 (iz_ w 6)) 12 0 (lz_ w 8)) 13 0 (lz_ w 8)) 14 0 (lz_ w 5)) 16 0 (lz_ w 8)) 17 0 (lz_ w 8)) 18 0 (lz_ w 8)) 15 0 (.inr (3, [.ref (ad_ w 16 0), .ref (ad_ w 17 0), .ref (ad_ w 18 0)]))) 5 0 (.inr (2, [.ref (ad_ w 11 0), .ref (ad_ w 12 0), .ref (ad_ w 13 0), .ref (ad_ w 14 0), .ref (ad_ w 15 0), .long 0, .long 0]))) 22 H := hB
  refine lv_aload_n cb.1 cb.2.1 dX2_init_46 rfl (lv_at hl 0 rfl) ?_
  refine lv_lconst (v := 0) cb.1 cb.2.1 dX2_init_47 (by decide) ?_
  refine cb_put (B := (bu_ (bu_ (bu_ (bu_ (bu_ (bu_ (bu_ (bu_ B 11 0 (iz_ w 6)) 12 0 (lz_ w 8)) 13 0 (lz_ w 8)) 14 0 (lz_ w 5)) 16 0 (lz_ w 8)) 17 0 (lz_ w 8)) 18 0 (lz_ w 8)) 15 0 (.inr (3, [.ref (ad_ w 16 0), .ref (ad_ w 17 0), .ref (ad_ w 18 0)])))) (k := 5) (i := 0) (ci := 2) (ty := .long) (v := .long 0) cb inX2 tyX2 tyX2_ok nmX2 hB hS rfl 5 (by decide) nw_51 rfl (by decide +kernel) rfl rfl (Nat.le_of_ble_eq_true rfl) dX2_init_48 (fun H locs hB hS => ?_)
  replace hB : Bd_ w (bu_ (bu_ (bu_ (bu_ (bu_ (bu_ (bu_ (bu_ (bu_ B 11 0 (iz_ w 6)) 12 0 (lz_ w 8)) 13 0 (lz_ w 8)) 14 0 (lz_ w 5)) 16 0 (lz_ w 8)) 17 0 (lz_ w 8)) 18 0 (lz_ w 8)) 15 0 (.inr (3, [.ref (ad_ w 16 0), .ref (ad_ w 17 0), .ref (ad_ w 18 0)]))) 5 0 (.inr (2, [.ref (ad_ w 11 0), .ref (ad_ w 12 0), .ref (ad_ w 13 0), .ref (ad_ w 14 0), .ref (ad_ w 15 0), .long 0, .long 0]))) 22 H := hB
  refine lv_aload_n cb.1 cb.2.1 dX2_init_51 rfl (lv_at hl 0 rfl) ?_
  refine lv_lconst (v := 0) cb.1 cb.2.1 dX2_init_52 (by decide) ?_
  refine cb_put (B := (bu_ (bu_ (bu_ (bu_ (bu_ (bu_ (bu_ (bu_ B 11 0 (iz_ w 6)) 12 0 (lz_ w 8)) 13 0 (lz_ w 8)) 14 0 (lz_ w 5)) 16 0 (lz_ w 8)) 17 0 (lz_ w 8)) 18 0 (lz_ w 8)) 15 0 (.inr (3, [.ref (ad_ w 16 0), .ref (ad_ w 17 0), .ref (ad_ w 18 0)])))) (k := 5) (i := 0) (ci := 2) (ty := .long) (v := .long 0) cb inX2 tyX2 tyX2_ok nmX2 hB hS rfl 6 (by decide) nw_53 rfl (by decide +kernel) rfl rfl (Nat.le_of_ble_eq_true rfl) dX2_init_53 (fun H locs hB hS => ?_)
  replace hB : Bd_ w (bu_ (bu_ (bu_ (bu_ (bu_ (bu_ (bu_ (bu_ (bu_ B 11 0 (iz_ w 6)) 12 0 (lz_ w 8)) 13 0 (lz_ w 8)) 14 0 (lz_ w 5)) 16 0 (lz_ w 8)) 17 0 (lz_ w 8)) 18 0 (lz_ w 8)) 15 0 (.inr (3, [.ref (ad_ w 16 0), .ref (ad_ w 17 0), .ref (ad_ w 18 0)]))) 5 0 (.inr (2, [.ref (ad_ w 11 0), .ref (ad_ w 12 0), .ref (ad_ w 13 0), .ref (ad_ w 14 0), .ref (ad_ w 15 0), .long 0, .long 0]))) 22 H := hB
  exact cb_ret cb hr hlk hB hS (Nat.le_of_ble_eq_true rfl) (Nat.le_of_ble_eq_true rfl) dX2_init_56 (fun _ _ _ h => h) rfl
set_option maxHeartbeats 4000000 in
set_option maxRecDepth 100000 in
theorem n_X5 (l : Launch) {w : Gh_} (hI : In_ w) (hA : ∀ k i, ad_ w k i = lo_ w + of_ k i) (B : Bm_) : Nc_ l w yX5_init (.code yX5_init cX5_init 1 none) { frames := 1, cells := 17, slots := 284, locals := 20 } 17 284 [.ref (ad_ w 20 0)] (bu_ B 20 0 (.inr (5, [.int 0, .int 0, .int 0, .null, .null, .null, .null, .null, .null, .null, .null, .null, .long 0, .long 0, .long 0, .null, .null, .null, .null, .null, .null, .null, .null, .int 0]))) 53 (bu_ (bu_ (bu_ (bu_ (bu_ (bu_ (bu_ (bu_ (bu_ (bu_ (bu_ (bu_ (bu_ (bu_ (bu_ (bu_ (bu_ (bu_ B 21 0 (lz_ w 8)) 22 0 (lz_ w 8)) 23 0 (iz_ w 8)) 24 0 (iz_ w 48)) 25 0 (iz_ w 48)) 26 0 (iz_ w 6)) 27 0 (iz_ w 6)) 28 0 (iz_ w 6)) 29 0 (iz_ w 48)) 30 0 (lz_ w 5)) 31 0 (lz_ w 8)) 32 0 (lz_ w 8)) 33 0 (iz_ w 48)) 34 0 (lz_ w 5)) 35 0 (lz_ w 8)) 36 0 (lz_ w 8)) 37 0 (lz_ w 8)) 20 0 (.inr (5, [.int 0, .int 0, .int 0, .ref (ad_ w 21 0), .ref (ad_ w 22 0), .ref (ad_ w 23 0), .ref (ad_ w 24 0), .ref (ad_ w 25 0), .ref (ad_ w 26 0), .ref (ad_ w 27 0), .ref (ad_ w 28 0), .ref (ad_ w 29 0), .long 0, .long 0, .long 0, .ref (ad_ w 30 0), .ref (ad_ w 31 0), .ref (ad_ w 32 0), .ref (ad_ w 33 0), .ref (ad_ w 34 0), .ref (ad_ w 35 0), .ref (ad_ w 36 0), .ref (ad_ w 37 0), .int 0]))) (53 + 1 + 1 + 1 + 1 + 1 + 1 + 1 + 1 + 1 + 1 + 1 + 1 + 1 + 1 + 1 + 1 + 1) := by
  refine Nc_of hI (by decide +kernel) rfl (Nat.le_of_ble_eq_true rfl) ?_
  intro zp ze zs zm zb zt zc ls cb hr hlk hnm _ hl H locs hB hS
  replace cb : Cb_ zp zs zm zc _ cX5_init 1 "MarginHouseModel" w := cb
  replace hl : lv_has ls 1 [(0, .ref (ad_ w 20 0))] := hl
  refine lv_aload_n cb.1 cb.2.1 dX5_init_0 rfl (lv_at hl 0 rfl) ?_
  refine cb_obj cb hl nw_371 (Nat.le_of_ble_eq_true rfl) (Nat.le_of_ble_eq_true rfl) dX5_init_1 ?_
  refine lv_aload_n cb.1 cb.2.1 dX5_init_4 rfl (lv_at hl 0 rfl) ?_
  refine lv_bipush (v := 8) cb.1 cb.2.1 dX5_init_5 (by decide) ?_
  refine cb_la (N := 8) (k := 21) (i := 0) cb hB hS (by decide) (by rw [hA]; rfl) (by decide) (by decide +kernel) (by decide) (Nat.le_of_ble_eq_true rfl) (Nat.le_of_ble_eq_true rfl) dX5_init_7 (fun H hB hS => ?_)
  rw [bu_swap (k := 20) (k2 := 21) _ _ _ (by decide)] at hB
  refine cb_fin (B := (bu_ B 21 0 (lz_ w 8))) (k := 20) (i := 0) (ci := 5) (ty := .array .long) (v := .ref (ad_ w 21 0)) cb hnm inX5 tyX5 tyX5_ok nmX5 hB hS rfl 3 (by decide) nw_375 rfl rfl (by decide +kernel) rfl rfl (Nat.le_of_ble_eq_true rfl) dX5_init_9 (fun H locs hB hS => ?_)
  replace hB : Bd_ w (bu_ (bu_ B 21 0 (lz_ w 8)) 20 0 (.inr (5, [.int 0, .int 0, .int 0, .ref (ad_ w 21 0), .null, .null, .null, .null, .null, .null, .null, .null, .long 0, .long 0, .long 0, .null, .null, .null, .null, .null, .null, .null, .null, .int 0]))) (53 + 1) H := hB
  refine lv_aload_n cb.1 cb.2.1 dX5_init_12 rfl (lv_at hl 0 rfl) ?_
  refine lv_bipush (v := 8) cb.1 cb.2.1 dX5_init_13 (by decide) ?_
  refine cb_la (N := 8) (k := 22) (i := 0) cb hB hS (by decide) (by rw [hA]; rfl) (by decide) (by decide +kernel) (by decide) (Nat.le_of_ble_eq_true rfl) (Nat.le_of_ble_eq_true rfl) dX5_init_15 (fun H hB hS => ?_)
  rw [bu_swap (k := 20) (k2 := 22) _ _ _ (by decide)] at hB
  refine cb_fin (B := (bu_ (bu_ B 21 0 (lz_ w 8)) 22 0 (lz_ w 8))) (k := 20) (i := 0) (ci := 5) (ty := .array .long) (v := .ref (ad_ w 22 0)) cb hnm inX5 tyX5 tyX5_ok nmX5 hB hS rfl 4 (by decide) nw_376 rfl rfl (by decide +kernel) rfl rfl (Nat.le_of_ble_eq_true rfl) dX5_init_17 (fun H locs hB hS => ?_)
  replace hB : Bd_ w (bu_ (bu_ (bu_ B 21 0 (lz_ w 8)) 22 0 (lz_ w 8)) 20 0 (.inr (5, [.int 0, .int 0, .int 0, .ref (ad_ w 21 0), .ref (ad_ w 22 0), .null, .null, .null, .null, .null, .null, .null, .long 0, .long 0, .long 0, .null, .null, .null, .null, .null, .null, .null, .null, .int 0]))) (53 + 1 + 1) H := hB
  refine lv_aload_n cb.1 cb.2.1 dX5_init_20 rfl (lv_at hl 0 rfl) ?_
  refine lv_bipush (v := 8) cb.1 cb.2.1 dX5_init_21 (by decide) ?_
  refine cb_ia (N := 8) (k := 23) (i := 0) cb hB hS (by decide) (by rw [hA]; rfl) (by decide) (by decide +kernel) (by decide) (Nat.le_of_ble_eq_true rfl) (Nat.le_of_ble_eq_true rfl) dX5_init_23 (fun H hB hS => ?_)
  rw [bu_swap (k := 20) (k2 := 23) _ _ _ (by decide)] at hB
  refine cb_fin (B := (bu_ (bu_ (bu_ B 21 0 (lz_ w 8)) 22 0 (lz_ w 8)) 23 0 (iz_ w 8))) (k := 20) (i := 0) (ci := 5) (ty := .array .int) (v := .ref (ad_ w 23 0)) cb hnm inX5 tyX5 tyX5_ok nmX5 hB hS rfl 5 (by decide) nw_377 rfl rfl (by decide +kernel) rfl rfl (Nat.le_of_ble_eq_true rfl) dX5_init_25 (fun H locs hB hS => ?_)
  replace hB : Bd_ w (bu_ (bu_ (bu_ (bu_ B 21 0 (lz_ w 8)) 22 0 (lz_ w 8)) 23 0 (iz_ w 8)) 20 0 (.inr (5, [.int 0, .int 0, .int 0, .ref (ad_ w 21 0), .ref (ad_ w 22 0), .ref (ad_ w 23 0), .null, .null, .null, .null, .null, .null, .long 0, .long 0, .long 0, .null, .null, .null, .null, .null, .null, .null, .null, .int 0]))) (53 + 1 + 1 + 1) H := hB
  refine lv_aload_n cb.1 cb.2.1 dX5_init_28 rfl (lv_at hl 0 rfl) ?_
  refine lv_bipush (v := 48) cb.1 cb.2.1 dX5_init_29 (by decide) ?_
  refine cb_ia (N := 48) (k := 24) (i := 0) cb hB hS (by decide) (by rw [hA]; rfl) (by decide) (by decide +kernel) (by decide) (Nat.le_of_ble_eq_true rfl) (Nat.le_of_ble_eq_true rfl) dX5_init_31 (fun H hB hS => ?_)
  rw [bu_swap (k := 20) (k2 := 24) _ _ _ (by decide)] at hB
  refine cb_fin (B := (bu_ (bu_ (bu_ (bu_ B 21 0 (lz_ w 8)) 22 0 (lz_ w 8)) 23 0 (iz_ w 8)) 24 0 (iz_ w 48))) (k := 20) (i := 0) (ci := 5) (ty := .array .int) (v := .ref (ad_ w 24 0)) cb hnm inX5 tyX5 tyX5_ok nmX5 hB hS rfl 6 (by decide) nw_378 rfl rfl (by decide +kernel) rfl rfl (Nat.le_of_ble_eq_true rfl) dX5_init_33 (fun H locs hB hS => ?_)
  replace hB : Bd_ w (bu_ (bu_ (bu_ (bu_ (bu_ B 21 0 (lz_ w 8)) 22 0 (lz_ w 8)) 23 0 (iz_ w 8)) 24 0 (iz_ w 48)) 20 0 (.inr (5, [.int 0, .int 0, .int 0, .ref (ad_ w 21 0), .ref (ad_ w 22 0), .ref (ad_ w 23 0), .ref (ad_ w 24 0), .null, .null, .null, .null, .null, .long 0, .long 0, .long 0, .null, .null, .null, .null, .null, .null, .null, .null, .int 0]))) (53 + 1 + 1 + 1 + 1) H := hB
  refine lv_aload_n cb.1 cb.2.1 dX5_init_36 rfl (lv_at hl 0 rfl) ?_
  refine lv_bipush (v := 48) cb.1 cb.2.1 dX5_init_37 (by decide) ?_
  refine cb_ia (N := 48) (k := 25) (i := 0) cb hB hS (by decide) (by rw [hA]; rfl) (by decide) (by decide +kernel) (by decide) (Nat.le_of_ble_eq_true rfl) (Nat.le_of_ble_eq_true rfl) dX5_init_39 (fun H hB hS => ?_)
  rw [bu_swap (k := 20) (k2 := 25) _ _ _ (by decide)] at hB
  refine cb_fin (B := (bu_ (bu_ (bu_ (bu_ (bu_ B 21 0 (lz_ w 8)) 22 0 (lz_ w 8)) 23 0 (iz_ w 8)) 24 0 (iz_ w 48)) 25 0 (iz_ w 48))) (k := 20) (i := 0) (ci := 5) (ty := .array .int) (v := .ref (ad_ w 25 0)) cb hnm inX5 tyX5 tyX5_ok nmX5 hB hS rfl 7 (by decide) nw_379 rfl rfl (by decide +kernel) rfl rfl (Nat.le_of_ble_eq_true rfl) dX5_init_41 (fun H locs hB hS => ?_)
  replace hB : Bd_ w (bu_ (bu_ (bu_ (bu_ (bu_ (bu_ B 21 0 (lz_ w 8)) 22 0 (lz_ w 8)) 23 0 (iz_ w 8)) 24 0 (iz_ w 48)) 25 0 (iz_ w 48)) 20 0 (.inr (5, [.int 0, .int 0, .int 0, .ref (ad_ w 21 0), .ref (ad_ w 22 0), .ref (ad_ w 23 0), .ref (ad_ w 24 0), .ref (ad_ w 25 0), .null, .null, .null, .null, .long 0, .long 0, .long 0, .null, .null, .null, .null, .null, .null, .null, .null, .int 0]))) (53 + 1 + 1 + 1 + 1 + 1) H := hB
  refine lv_aload_n cb.1 cb.2.1 dX5_init_44 rfl (lv_at hl 0 rfl) ?_
  refine lv_bipush (v := 6) cb.1 cb.2.1 dX5_init_45 (by decide) ?_
  refine cb_ia (N := 6) (k := 26) (i := 0) cb hB hS (by decide) (by rw [hA]; rfl) (by decide) (by decide +kernel) (by decide) (Nat.le_of_ble_eq_true rfl) (Nat.le_of_ble_eq_true rfl) dX5_init_47 (fun H hB hS => ?_)
  rw [bu_swap (k := 20) (k2 := 26) _ _ _ (by decide)] at hB
  refine cb_fin (B := (bu_ (bu_ (bu_ (bu_ (bu_ (bu_ B 21 0 (lz_ w 8)) 22 0 (lz_ w 8)) 23 0 (iz_ w 8)) 24 0 (iz_ w 48)) 25 0 (iz_ w 48)) 26 0 (iz_ w 6))) (k := 20) (i := 0) (ci := 5) (ty := .array .int) (v := .ref (ad_ w 26 0)) cb hnm inX5 tyX5 tyX5_ok nmX5 hB hS rfl 8 (by decide) nw_380 rfl rfl (by decide +kernel) rfl rfl (Nat.le_of_ble_eq_true rfl) dX5_init_49 (fun H locs hB hS => ?_)
  replace hB : Bd_ w (bu_ (bu_ (bu_ (bu_ (bu_ (bu_ (bu_ B 21 0 (lz_ w 8)) 22 0 (lz_ w 8)) 23 0 (iz_ w 8)) 24 0 (iz_ w 48)) 25 0 (iz_ w 48)) 26 0 (iz_ w 6)) 20 0 (.inr (5, [.int 0, .int 0, .int 0, .ref (ad_ w 21 0), .ref (ad_ w 22 0), .ref (ad_ w 23 0), .ref (ad_ w 24 0), .ref (ad_ w 25 0), .ref (ad_ w 26 0), .null, .null, .null, .long 0, .long 0, .long 0, .null, .null, .null, .null, .null, .null, .null, .null, .int 0]))) (53 + 1 + 1 + 1 + 1 + 1 + 1) H := hB
  refine lv_aload_n cb.1 cb.2.1 dX5_init_52 rfl (lv_at hl 0 rfl) ?_
  refine lv_bipush (v := 6) cb.1 cb.2.1 dX5_init_53 (by decide) ?_
  refine cb_ia (N := 6) (k := 27) (i := 0) cb hB hS (by decide) (by rw [hA]; rfl) (by decide) (by decide +kernel) (by decide) (Nat.le_of_ble_eq_true rfl) (Nat.le_of_ble_eq_true rfl) dX5_init_55 (fun H hB hS => ?_)
  rw [bu_swap (k := 20) (k2 := 27) _ _ _ (by decide)] at hB
  refine cb_fin (B := (bu_ (bu_ (bu_ (bu_ (bu_ (bu_ (bu_ B 21 0 (lz_ w 8)) 22 0 (lz_ w 8)) 23 0 (iz_ w 8)) 24 0 (iz_ w 48)) 25 0 (iz_ w 48)) 26 0 (iz_ w 6)) 27 0 (iz_ w 6))) (k := 20) (i := 0) (ci := 5) (ty := .array .int) (v := .ref (ad_ w 27 0)) cb hnm inX5 tyX5 tyX5_ok nmX5 hB hS rfl 9 (by decide) nw_381 rfl rfl (by decide +kernel) rfl rfl (Nat.le_of_ble_eq_true rfl) dX5_init_57 (fun H locs hB hS => ?_)
  replace hB : Bd_ w (bu_ (bu_ (bu_ (bu_ (bu_ (bu_ (bu_ (bu_ B 21 0 (lz_ w 8)) 22 0 (lz_ w 8)) 23 0 (iz_ w 8)) 24 0 (iz_ w 48)) 25 0 (iz_ w 48)) 26 0 (iz_ w 6)) 27 0 (iz_ w 6)) 20 0 (.inr (5, [.int 0, .int 0, .int 0, .ref (ad_ w 21 0), .ref (ad_ w 22 0), .ref (ad_ w 23 0), .ref (ad_ w 24 0), .ref (ad_ w 25 0), .ref (ad_ w 26 0), .ref (ad_ w 27 0), .null, .null, .long 0, .long 0, .long 0, .null, .null, .null, .null, .null, .null, .null, .null, .int 0]))) (53 + 1 + 1 + 1 + 1 + 1 + 1 + 1) H := hB
  refine lv_aload_n cb.1 cb.2.1 dX5_init_60 rfl (lv_at hl 0 rfl) ?_
  refine lv_bipush (v := 6) cb.1 cb.2.1 dX5_init_61 (by decide) ?_
  refine cb_ia (N := 6) (k := 28) (i := 0) cb hB hS (by decide) (by rw [hA]; rfl) (by decide) (by decide +kernel) (by decide) (Nat.le_of_ble_eq_true rfl) (Nat.le_of_ble_eq_true rfl) dX5_init_63 (fun H hB hS => ?_)
  rw [bu_swap (k := 20) (k2 := 28) _ _ _ (by decide)] at hB
  refine cb_fin (B := (bu_ (bu_ (bu_ (bu_ (bu_ (bu_ (bu_ (bu_ B 21 0 (lz_ w 8)) 22 0 (lz_ w 8)) 23 0 (iz_ w 8)) 24 0 (iz_ w 48)) 25 0 (iz_ w 48)) 26 0 (iz_ w 6)) 27 0 (iz_ w 6)) 28 0 (iz_ w 6))) (k := 20) (i := 0) (ci := 5) (ty := .array .int) (v := .ref (ad_ w 28 0)) cb hnm inX5 tyX5 tyX5_ok nmX5 hB hS rfl 10 (by decide) nw_382 rfl rfl (by decide +kernel) rfl rfl (Nat.le_of_ble_eq_true rfl) dX5_init_65 (fun H locs hB hS => ?_)
  replace hB : Bd_ w (bu_ (bu_ (bu_ (bu_ (bu_ (bu_ (bu_ (bu_ (bu_ B 21 0 (lz_ w 8)) 22 0 (lz_ w 8)) 23 0 (iz_ w 8)) 24 0 (iz_ w 48)) 25 0 (iz_ w 48)) 26 0 (iz_ w 6)) 27 0 (iz_ w 6)) 28 0 (iz_ w 6)) 20 0 (.inr (5, [.int 0, .int 0, .int 0, .ref (ad_ w 21 0), .ref (ad_ w 22 0), .ref (ad_ w 23 0), .ref (ad_ w 24 0), .ref (ad_ w 25 0), .ref (ad_ w 26 0), .ref (ad_ w 27 0), .ref (ad_ w 28 0), .null, .long 0, .long 0, .long 0, .null, .null, .null, .null, .null, .null, .null, .null, .int 0]))) (53 + 1 + 1 + 1 + 1 + 1 + 1 + 1 + 1) H := hB
  refine lv_aload_n cb.1 cb.2.1 dX5_init_68 rfl (lv_at hl 0 rfl) ?_
  refine lv_bipush (v := 48) cb.1 cb.2.1 dX5_init_69 (by decide) ?_
  refine cb_ia (N := 48) (k := 29) (i := 0) cb hB hS (by decide) (by rw [hA]; rfl) (by decide) (by decide +kernel) (by decide) (Nat.le_of_ble_eq_true rfl) (Nat.le_of_ble_eq_true rfl) dX5_init_71 (fun H hB hS => ?_)
  rw [bu_swap (k := 20) (k2 := 29) _ _ _ (by decide)] at hB
  refine cb_fin (B := (bu_ (bu_ (bu_ (bu_ (bu_ (bu_ (bu_ (bu_ (bu_ B 21 0 (lz_ w 8)) 22 0 (lz_ w 8)) 23 0 (iz_ w 8)) 24 0 (iz_ w 48)) 25 0 (iz_ w 48)) 26 0 (iz_ w 6)) 27 0 (iz_ w 6)) 28 0 (iz_ w 6)) 29 0 (iz_ w 48))) (k := 20) (i := 0) (ci := 5) (ty := .array .int) (v := .ref (ad_ w 29 0)) cb hnm inX5 tyX5 tyX5_ok nmX5 hB hS rfl 11 (by decide) nw_383 rfl rfl (by decide +kernel) rfl rfl (Nat.le_of_ble_eq_true rfl) dX5_init_73 (fun H locs hB hS => ?_)
  replace hB : Bd_ w (bu_ (bu_ (bu_ (bu_ (bu_ (bu_ (bu_ (bu_ (bu_ (bu_ B 21 0 (lz_ w 8)) 22 0 (lz_ w 8)) 23 0 (iz_ w 8)) 24 0 (iz_ w 48)) 25 0 (iz_ w 48)) 26 0 (iz_ w 6)) 27 0 (iz_ w 6)) 28 0 (iz_ w 6)) 29 0 (iz_ w 48)) 20 0 (.inr (5, [.int 0, .int 0, .int 0, .ref (ad_ w 21 0), .ref (ad_ w 22 0), .ref (ad_ w 23 0), .ref (ad_ w 24 0), .ref (ad_ w 25 0), .ref (ad_ w 26 0), .ref (ad_ w 27 0), .ref (ad_ w 28 0), .ref (ad_ w 29 0), .long 0, .long 0, .long 0, .null, .null, .null, .null, .null, .null, .null, .null, .int 0]))) (53 + 1 + 1 + 1 + 1 + 1 + 1 + 1 + 1 + 1) H := hB
  refine lv_aload_n cb.1 cb.2.1 dX5_init_76 rfl (lv_at hl 0 rfl) ?_
  refine lv_iconst (v := 5) cb.1 cb.2.1 dX5_init_77 (by decide) ?_
  refine cb_la (N := 5) (k := 30) (i := 0) cb hB hS (by decide) (by rw [hA]; rfl) (by decide) (by decide +kernel) (by decide) (Nat.le_of_ble_eq_true rfl) (Nat.le_of_ble_eq_true rfl) dX5_init_78 (fun H hB hS => ?_)
  rw [bu_swap (k := 20) (k2 := 30) _ _ _ (by decide)] at hB
  refine cb_fin (B := (bu_ (bu_ (bu_ (bu_ (bu_ (bu_ (bu_ (bu_ (bu_ (bu_ B 21 0 (lz_ w 8)) 22 0 (lz_ w 8)) 23 0 (iz_ w 8)) 24 0 (iz_ w 48)) 25 0 (iz_ w 48)) 26 0 (iz_ w 6)) 27 0 (iz_ w 6)) 28 0 (iz_ w 6)) 29 0 (iz_ w 48)) 30 0 (lz_ w 5))) (k := 20) (i := 0) (ci := 5) (ty := .array .long) (v := .ref (ad_ w 30 0)) cb hnm inX5 tyX5 tyX5_ok nmX5 hB hS rfl 15 (by decide) nw_387 rfl rfl (by decide +kernel) rfl rfl (Nat.le_of_ble_eq_true rfl) dX5_init_80 (fun H locs hB hS => ?_)
  replace hB : Bd_ w (bu_ (bu_ (bu_ (bu_ (bu_ (bu_ (bu_ (bu_ (bu_ (bu_ (bu_ B 21 0 (lz_ w 8)) 22 0 (lz_ w 8)) 23 0 (iz_ w 8)) 24 0 (iz_ w 48)) 25 0 (iz_ w 48)) 26 0 (iz_ w 6)) 27 0 (iz_ w 6)) 28 0 (iz_ w 6)) 29 0 (iz_ w 48)) 30 0 (lz_ w 5)) 20 0 (.inr (5, [.int 0, .int 0, .int 0, .ref (ad_ w 21 0), .ref (ad_ w 22 0), .ref (ad_ w 23 0), .ref (ad_ w 24 0), .ref (ad_ w 25 0), .ref (ad_ w 26 0), .ref (ad_ w 27 0), .ref (ad_ w 28 0), .ref (ad_ w 29 0), .long 0, .long 0, .long 0, .ref (ad_ w 30 0), .null, .null, .null, .null, .null, .null, .null, .int 0]))) (53 + 1 + 1 + 1 + 1 + 1 + 1 + 1 + 1 + 1 + 1) H := hB
  refine lv_aload_n cb.1 cb.2.1 dX5_init_83 rfl (lv_at hl 0 rfl) ?_
  refine lv_bipush (v := 8) cb.1 cb.2.1 dX5_init_84 (by decide) ?_
  refine cb_la (N := 8) (k := 31) (i := 0) cb hB hS (by decide) (by rw [hA]; rfl) (by decide) (by decide +kernel) (by decide) (Nat.le_of_ble_eq_true rfl) (Nat.le_of_ble_eq_true rfl) dX5_init_86 (fun H hB hS => ?_)
  rw [bu_swap (k := 20) (k2 := 31) _ _ _ (by decide)] at hB
  refine cb_fin (B := (bu_ (bu_ (bu_ (bu_ (bu_ (bu_ (bu_ (bu_ (bu_ (bu_ (bu_ B 21 0 (lz_ w 8)) 22 0 (lz_ w 8)) 23 0 (iz_ w 8)) 24 0 (iz_ w 48)) 25 0 (iz_ w 48)) 26 0 (iz_ w 6)) 27 0 (iz_ w 6)) 28 0 (iz_ w 6)) 29 0 (iz_ w 48)) 30 0 (lz_ w 5)) 31 0 (lz_ w 8))) (k := 20) (i := 0) (ci := 5) (ty := .array .long) (v := .ref (ad_ w 31 0)) cb hnm inX5 tyX5 tyX5_ok nmX5 hB hS rfl 16 (by decide) nw_388 rfl rfl (by decide +kernel) rfl rfl (Nat.le_of_ble_eq_true rfl) dX5_init_88 (fun H locs hB hS => ?_)
  replace hB : Bd_ w (bu_ (bu_ (bu_ (bu_ (bu_ (bu_ (bu_ (bu_ (bu_ (bu_ (bu_ (bu_ B 21 0 (lz_ w 8)) 22 0 (lz_ w 8)) 23 0 (iz_ w 8)) 24 0 (iz_ w 48)) 25 0 (iz_ w 48)) 26 0 (iz_ w 6)) 27 0 (iz_ w 6)) 28 0 (iz_ w 6)) 29 0 (iz_ w 48)) 30 0 (lz_ w 5)) 31 0 (lz_ w 8)) 20 0 (.inr (5, [.int 0, .int 0, .int 0, .ref (ad_ w 21 0), .ref (ad_ w 22 0), .ref (ad_ w 23 0), .ref (ad_ w 24 0), .ref (ad_ w 25 0), .ref (ad_ w 26 0), .ref (ad_ w 27 0), .ref (ad_ w 28 0), .ref (ad_ w 29 0), .long 0, .long 0, .long 0, .ref (ad_ w 30 0), .ref (ad_ w 31 0), .null, .null, .null, .null, .null, .null, .int 0]))) (53 + 1 + 1 + 1 + 1 + 1 + 1 + 1 + 1 + 1 + 1 + 1) H := hB
  refine lv_aload_n cb.1 cb.2.1 dX5_init_91 rfl (lv_at hl 0 rfl) ?_
  refine lv_bipush (v := 8) cb.1 cb.2.1 dX5_init_92 (by decide) ?_
  refine cb_la (N := 8) (k := 32) (i := 0) cb hB hS (by decide) (by rw [hA]; rfl) (by decide) (by decide +kernel) (by decide) (Nat.le_of_ble_eq_true rfl) (Nat.le_of_ble_eq_true rfl) dX5_init_94 (fun H hB hS => ?_)
  rw [bu_swap (k := 20) (k2 := 32) _ _ _ (by decide)] at hB
  refine cb_fin (B := (bu_ (bu_ (bu_ (bu_ (bu_ (bu_ (bu_ (bu_ (bu_ (bu_ (bu_ (bu_ B 21 0 (lz_ w 8)) 22 0 (lz_ w 8)) 23 0 (iz_ w 8)) 24 0 (iz_ w 48)) 25 0 (iz_ w 48)) 26 0 (iz_ w 6)) 27 0 (iz_ w 6)) 28 0 (iz_ w 6)) 29 0 (iz_ w 48)) 30 0 (lz_ w 5)) 31 0 (lz_ w 8)) 32 0 (lz_ w 8))) (k := 20) (i := 0) (ci := 5) (ty := .array .long) (v := .ref (ad_ w 32 0)) cb hnm inX5 tyX5 tyX5_ok nmX5 hB hS rfl 17 (by decide) nw_389 rfl rfl (by decide +kernel) rfl rfl (Nat.le_of_ble_eq_true rfl) dX5_init_96 (fun H locs hB hS => ?_)
  replace hB : Bd_ w (bu_ (bu_ (bu_ (bu_ (bu_ (bu_ (bu_ (bu_ (bu_ (bu_ (bu_ (bu_ (bu_ B 21 0 (lz_ w 8)) 22 0 (lz_ w 8)) 23 0 (iz_ w 8)) 24 0 (iz_ w 48)) 25 0 (iz_ w 48)) 26 0 (iz_ w 6)) 27 0 (iz_ w 6)) 28 0 (iz_ w 6)) 29 0 (iz_ w 48)) 30 0 (lz_ w 5)) 31 0 (lz_ w 8)) 32 0 (lz_ w 8)) 20 0 (.inr (5, [.int 0, .int 0, .int 0, .ref (ad_ w 21 0), .ref (ad_ w 22 0), .ref (ad_ w 23 0), .ref (ad_ w 24 0), .ref (ad_ w 25 0), .ref (ad_ w 26 0), .ref (ad_ w 27 0), .ref (ad_ w 28 0), .ref (ad_ w 29 0), .long 0, .long 0, .long 0, .ref (ad_ w 30 0), .ref (ad_ w 31 0), .ref (ad_ w 32 0), .null, .null, .null, .null, .null, .int 0]))) (53 + 1 + 1 + 1 + 1 + 1 + 1 + 1 + 1 + 1 + 1 + 1 + 1) H := hB
  refine lv_aload_n cb.1 cb.2.1 dX5_init_99 rfl (lv_at hl 0 rfl) ?_
  refine lv_bipush (v := 48) cb.1 cb.2.1 dX5_init_100 (by decide) ?_
  refine cb_ia (N := 48) (k := 33) (i := 0) cb hB hS (by decide) (by rw [hA]; rfl) (by decide) (by decide +kernel) (by decide) (Nat.le_of_ble_eq_true rfl) (Nat.le_of_ble_eq_true rfl) dX5_init_102 (fun H hB hS => ?_)
  rw [bu_swap (k := 20) (k2 := 33) _ _ _ (by decide)] at hB
  refine cb_fin (B := (bu_ (bu_ (bu_ (bu_ (bu_ (bu_ (bu_ (bu_ (bu_ (bu_ (bu_ (bu_ (bu_ B 21 0 (lz_ w 8)) 22 0 (lz_ w 8)) 23 0 (iz_ w 8)) 24 0 (iz_ w 48)) 25 0 (iz_ w 48)) 26 0 (iz_ w 6)) 27 0 (iz_ w 6)) 28 0 (iz_ w 6)) 29 0 (iz_ w 48)) 30 0 (lz_ w 5)) 31 0 (lz_ w 8)) 32 0 (lz_ w 8)) 33 0 (iz_ w 48))) (k := 20) (i := 0) (ci := 5) (ty := .array .int) (v := .ref (ad_ w 33 0)) cb hnm inX5 tyX5 tyX5_ok nmX5 hB hS rfl 18 (by decide) nw_390 rfl rfl (by decide +kernel) rfl rfl (Nat.le_of_ble_eq_true rfl) dX5_init_104 (fun H locs hB hS => ?_)
  replace hB : Bd_ w (bu_ (bu_ (bu_ (bu_ (bu_ (bu_ (bu_ (bu_ (bu_ (bu_ (bu_ (bu_ (bu_ (bu_ B 21 0 (lz_ w 8)) 22 0 (lz_ w 8)) 23 0 (iz_ w 8)) 24 0 (iz_ w 48)) 25 0 (iz_ w 48)) 26 0 (iz_ w 6)) 27 0 (iz_ w 6)) 28 0 (iz_ w 6)) 29 0 (iz_ w 48)) 30 0 (lz_ w 5)) 31 0 (lz_ w 8)) 32 0 (lz_ w 8)) 33 0 (iz_ w 48)) 20 0 (.inr (5, [.int 0, .int 0, .int 0, .ref (ad_ w 21 0), .ref (ad_ w 22 0), .ref (ad_ w 23 0), .ref (ad_ w 24 0), .ref (ad_ w 25 0), .ref (ad_ w 26 0), .ref (ad_ w 27 0), .ref (ad_ w 28 0), .ref (ad_ w 29 0), .long 0, .long 0, .long 0, .ref (ad_ w 30 0), .ref (ad_ w 31 0), .ref (ad_ w 32 0), .ref (ad_ w 33 0), .null, .null, .null, .null, .int 0]))) (53 + 1 + 1 + 1 + 1 + 1 + 1 + 1 + 1 + 1 + 1 + 1 + 1 + 1) H := hB
  refine lv_aload_n cb.1 cb.2.1 dX5_init_107 rfl (lv_at hl 0 rfl) ?_
  refine lv_iconst (v := 5) cb.1 cb.2.1 dX5_init_108 (by decide) ?_
  refine cb_la (N := 5) (k := 34) (i := 0) cb hB hS (by decide) (by rw [hA]; rfl) (by decide) (by decide +kernel) (by decide) (Nat.le_of_ble_eq_true rfl) (Nat.le_of_ble_eq_true rfl) dX5_init_109 (fun H hB hS => ?_)
  rw [bu_swap (k := 20) (k2 := 34) _ _ _ (by decide)] at hB
  refine cb_fin (B := (bu_ (bu_ (bu_ (bu_ (bu_ (bu_ (bu_ (bu_ (bu_ (bu_ (bu_ (bu_ (bu_ (bu_ B 21 0 (lz_ w 8)) 22 0 (lz_ w 8)) 23 0 (iz_ w 8)) 24 0 (iz_ w 48)) 25 0 (iz_ w 48)) 26 0 (iz_ w 6)) 27 0 (iz_ w 6)) 28 0 (iz_ w 6)) 29 0 (iz_ w 48)) 30 0 (lz_ w 5)) 31 0 (lz_ w 8)) 32 0 (lz_ w 8)) 33 0 (iz_ w 48)) 34 0 (lz_ w 5))) (k := 20) (i := 0) (ci := 5) (ty := .array .long) (v := .ref (ad_ w 34 0)) cb hnm inX5 tyX5 tyX5_ok nmX5 hB hS rfl 19 (by decide) nw_391 rfl rfl (by decide +kernel) rfl rfl (Nat.le_of_ble_eq_true rfl) dX5_init_111 (fun H locs hB hS => ?_)
  replace hB : Bd_ w (bu_ (bu_ (bu_ (bu_ (bu_ (bu_ (bu_ (bu_ (bu_ (bu_ (bu_ (bu_ (bu_ (bu_ (bu_ B 21 0 (lz_ w 8)) 22 0 (lz_ w 8)) 23 0 (iz_ w 8)) 24 0 (iz_ w 48)) 25 0 (iz_ w 48)) 26 0 (iz_ w 6)) 27 0 (iz_ w 6)) 28 0 (iz_ w 6)) 29 0 (iz_ w 48)) 30 0 (lz_ w 5)) 31 0 (lz_ w 8)) 32 0 (lz_ w 8)) 33 0 (iz_ w 48)) 34 0 (lz_ w 5)) 20 0 (.inr (5, [.int 0, .int 0, .int 0, .ref (ad_ w 21 0), .ref (ad_ w 22 0), .ref (ad_ w 23 0), .ref (ad_ w 24 0), .ref (ad_ w 25 0), .ref (ad_ w 26 0), .ref (ad_ w 27 0), .ref (ad_ w 28 0), .ref (ad_ w 29 0), .long 0, .long 0, .long 0, .ref (ad_ w 30 0), .ref (ad_ w 31 0), .ref (ad_ w 32 0), .ref (ad_ w 33 0), .ref (ad_ w 34 0), .null, .null, .null, .int 0]))) (53 + 1 + 1 + 1 + 1 + 1 + 1 + 1 + 1 + 1 + 1 + 1 + 1 + 1 + 1) H := hB
  refine lv_aload_n cb.1 cb.2.1 dX5_init_114 rfl (lv_at hl 0 rfl) ?_
  refine lv_bipush (v := 8) cb.1 cb.2.1 dX5_init_115 (by decide) ?_
  refine cb_la (N := 8) (k := 35) (i := 0) cb hB hS (by decide) (by rw [hA]; rfl) (by decide) (by decide +kernel) (by decide) (Nat.le_of_ble_eq_true rfl) (Nat.le_of_ble_eq_true rfl) dX5_init_117 (fun H hB hS => ?_)
  rw [bu_swap (k := 20) (k2 := 35) _ _ _ (by decide)] at hB
  refine cb_fin (B := (bu_ (bu_ (bu_ (bu_ (bu_ (bu_ (bu_ (bu_ (bu_ (bu_ (bu_ (bu_ (bu_ (bu_ (bu_ B 21 0 (lz_ w 8)) 22 0 (lz_ w 8)) 23 0 (iz_ w 8)) 24 0 (iz_ w 48)) 25 0 (iz_ w 48)) 26 0 (iz_ w 6)) 27 0 (iz_ w 6)) 28 0 (iz_ w 6)) 29 0 (iz_ w 48)) 30 0 (lz_ w 5)) 31 0 (lz_ w 8)) 32 0 (lz_ w 8)) 33 0 (iz_ w 48)) 34 0 (lz_ w 5)) 35 0 (lz_ w 8))) (k := 20) (i := 0) (ci := 5) (ty := .array .long) (v := .ref (ad_ w 35 0)) cb hnm inX5 tyX5 tyX5_ok nmX5 hB hS rfl 20 (by decide) nw_392 rfl rfl (by decide +kernel) rfl rfl (Nat.le_of_ble_eq_true rfl) dX5_init_119 (fun H locs hB hS => ?_)
  replace hB : Bd_ w (bu_ (bu_ (bu_ (bu_ (bu_ (bu_ (bu_ (bu_ (bu_ (bu_ (bu_ (bu_ (bu_ (bu_ (bu_ (bu_ B 21 0 (lz_ w 8)) 22 0 (lz_ w 8)) 23 0 (iz_ w 8)) 24 0 (iz_ w 48)) 25 0 (iz_ w 48)) 26 0 (iz_ w 6)) 27 0 (iz_ w 6)) 28 0 (iz_ w 6)) 29 0 (iz_ w 48)) 30 0 (lz_ w 5)) 31 0 (lz_ w 8)) 32 0 (lz_ w 8)) 33 0 (iz_ w 48)) 34 0 (lz_ w 5)) 35 0 (lz_ w 8)) 20 0 (.inr (5, [.int 0, .int 0, .int 0, .ref (ad_ w 21 0), .ref (ad_ w 22 0), .ref (ad_ w 23 0), .ref (ad_ w 24 0), .ref (ad_ w 25 0), .ref (ad_ w 26 0), .ref (ad_ w 27 0), .ref (ad_ w 28 0), .ref (ad_ w 29 0), .long 0, .long 0, .long 0, .ref (ad_ w 30 0), .ref (ad_ w 31 0), .ref (ad_ w 32 0), .ref (ad_ w 33 0), .ref (ad_ w 34 0), .ref (ad_ w 35 0), .null, .null, .int 0]))) (53 + 1 + 1 + 1 + 1 + 1 + 1 + 1 + 1 + 1 + 1 + 1 + 1 + 1 + 1 + 1) H := hB
  refine lv_aload_n cb.1 cb.2.1 dX5_init_122 rfl (lv_at hl 0 rfl) ?_
  refine lv_bipush (v := 8) cb.1 cb.2.1 dX5_init_123 (by decide) ?_
  refine cb_la (N := 8) (k := 36) (i := 0) cb hB hS (by decide) (by rw [hA]; rfl) (by decide) (by decide +kernel) (by decide) (Nat.le_of_ble_eq_true rfl) (Nat.le_of_ble_eq_true rfl) dX5_init_125 (fun H hB hS => ?_)
  rw [bu_swap (k := 20) (k2 := 36) _ _ _ (by decide)] at hB
  refine cb_fin (B := (bu_ (bu_ (bu_ (bu_ (bu_ (bu_ (bu_ (bu_ (bu_ (bu_ (bu_ (bu_ (bu_ (bu_ (bu_ (bu_ B 21 0 (lz_ w 8)) 22 0 (lz_ w 8)) 23 0 (iz_ w 8)) 24 0 (iz_ w 48)) 25 0 (iz_ w 48)) 26 0 (iz_ w 6)) 27 0 (iz_ w 6)) 28 0 (iz_ w 6)) 29 0 (iz_ w 48)) 30 0 (lz_ w 5)) 31 0 (lz_ w 8)) 32 0 (lz_ w 8)) 33 0 (iz_ w 48)) 34 0 (lz_ w 5)) 35 0 (lz_ w 8)) 36 0 (lz_ w 8))) (k := 20) (i := 0) (ci := 5) (ty := .array .long) (v := .ref (ad_ w 36 0)) cb hnm inX5 tyX5 tyX5_ok nmX5 hB hS rfl 21 (by decide) nw_393 rfl rfl (by decide +kernel) rfl rfl (Nat.le_of_ble_eq_true rfl) dX5_init_127 (fun H locs hB hS => ?_)
  replace hB : Bd_ w (bu_ (bu_ (bu_ (bu_ (bu_ (bu_ (bu_ (bu_ (bu_ (bu_ (bu_ (bu_ (bu_ (bu_ (bu_ (bu_ (bu_ B 21 0 (lz_ w 8)) 22 0 (lz_ w 8)) 23 0 (iz_ w 8)) 24 0 (iz_ w 48)) 25 0 (iz_ w 48)) 26 0 (iz_ w 6)) 27 0 (iz_ w 6)) 28 0 (iz_ w 6)) 29 0 (iz_ w 48)) 30 0 (lz_ w 5)) 31 0 (lz_ w 8)) 32 0 (lz_ w 8)) 33 0 (iz_ w 48)) 34 0 (lz_ w 5)) 35 0 (lz_ w 8)) 36 0 (lz_ w 8)) 20 0 (.inr (5, [.int 0, .int 0, .int 0, .ref (ad_ w 21 0), .ref (ad_ w 22 0), .ref (ad_ w 23 0), .ref (ad_ w 24 0), .ref (ad_ w 25 0), .ref (ad_ w 26 0), .ref (ad_ w 27 0), .ref (ad_ w 28 0), .ref (ad_ w 29 0), .long 0, .long 0, .long 0, .ref (ad_ w 30 0), .ref (ad_ w 31 0), .ref (ad_ w 32 0), .ref (ad_ w 33 0), .ref (ad_ w 34 0), .ref (ad_ w 35 0), .ref (ad_ w 36 0), .null, .int 0]))) (53 + 1 + 1 + 1 + 1 + 1 + 1 + 1 + 1 + 1 + 1 + 1 + 1 + 1 + 1 + 1 + 1) H := hB
  refine lv_aload_n cb.1 cb.2.1 dX5_init_130 rfl (lv_at hl 0 rfl) ?_
  refine lv_bipush (v := 8) cb.1 cb.2.1 dX5_init_131 (by decide) ?_
  refine cb_la (N := 8) (k := 37) (i := 0) cb hB hS (by decide) (by rw [hA]; rfl) (by decide) (by decide +kernel) (by decide) (Nat.le_of_ble_eq_true rfl) (Nat.le_of_ble_eq_true rfl) dX5_init_133 (fun H hB hS => ?_)
  rw [bu_swap (k := 20) (k2 := 37) _ _ _ (by decide)] at hB
  refine cb_fin (B := (bu_ (bu_ (bu_ (bu_ (bu_ (bu_ (bu_ (bu_ (bu_ (bu_ (bu_ (bu_ (bu_ (bu_ (bu_ (bu_ (bu_ B 21 0 (lz_ w 8)) 22 0 (lz_ w 8)) 23 0 (iz_ w 8)) 24 0 (iz_ w 48)) 25 0 (iz_ w 48)) 26 0 (iz_ w 6)) 27 0 (iz_ w 6)) 28 0 (iz_ w 6)) 29 0 (iz_ w 48)) 30 0 (lz_ w 5)) 31 0 (lz_ w 8)) 32 0 (lz_ w 8)) 33 0 (iz_ w 48)) 34 0 (lz_ w 5)) 35 0 (lz_ w 8)) 36 0 (lz_ w 8)) 37 0 (lz_ w 8))) (k := 20) (i := 0) (ci := 5) (ty := .array .long) (v := .ref (ad_ w 37 0)) cb hnm inX5 tyX5 tyX5_ok nmX5 hB hS rfl 22 (by decide) nw_394 rfl rfl (by decide +kernel) rfl rfl (Nat.le_of_ble_eq_true rfl) dX5_init_135 (fun H locs hB hS => ?_)
  replace hB : Bd_ w (bu_ (bu_ (bu_ (bu_ (bu_ (bu_ (bu_ (bu_ (bu_ (bu_ (bu_ (bu_ (bu_ (bu_ (bu_ (bu_ (bu_ (bu_ B 21 0 (lz_ w 8)) 22 0 (lz_ w 8)) 23 0 (iz_ w 8)) 24 0 (iz_ w 48)) 25 0 (iz_ w 48)) 26 0 (iz_ w 6)) 27 0 (iz_ w 6)) 28 0 (iz_ w 6)) 29 0 (iz_ w 48)) 30 0 (lz_ w 5)) 31 0 (lz_ w 8)) 32 0 (lz_ w 8)) 33 0 (iz_ w 48)) 34 0 (lz_ w 5)) 35 0 (lz_ w 8)) 36 0 (lz_ w 8)) 37 0 (lz_ w 8)) 20 0 (.inr (5, [.int 0, .int 0, .int 0, .ref (ad_ w 21 0), .ref (ad_ w 22 0), .ref (ad_ w 23 0), .ref (ad_ w 24 0), .ref (ad_ w 25 0), .ref (ad_ w 26 0), .ref (ad_ w 27 0), .ref (ad_ w 28 0), .ref (ad_ w 29 0), .long 0, .long 0, .long 0, .ref (ad_ w 30 0), .ref (ad_ w 31 0), .ref (ad_ w 32 0), .ref (ad_ w 33 0), .ref (ad_ w 34 0), .ref (ad_ w 35 0), .ref (ad_ w 36 0), .ref (ad_ w 37 0), .int 0]))) (53 + 1 + 1 + 1 + 1 + 1 + 1 + 1 + 1 + 1 + 1 + 1 + 1 + 1 + 1 + 1 + 1 + 1) H := hB
  exact cb_ret cb hr hlk hB hS (Nat.le_of_ble_eq_true rfl) (Nat.le_of_ble_eq_true rfl) dX5_init_138 (fun _ _ _ h => h) rfl
