/-! MarginHouseModel: closeOut -/
def ea_ (b : St_) : Nat → St_
  | 0 => b
  | i + 1 => sl_ (ea_ b i) 26 0 i (gl_ (ea_ b i) 20 0 i)
theorem ea_gi (b : St_) (v x y : Nat) : ∀ i, gi_ (ea_ b i) v x y = gi_ b v x y
  | 0 => rfl
  | i + 1 => ea_gi b v x y i
def eb_ (b : St_) : Nat → St_
  | 0 => b
  | i + 1 => si_ (eb_ b i) 30 0 i (gi_ (eb_ b i) 24 0 i)
theorem eb_gi (b : St_) (v x y : Nat) (hv : v ≠ 30) : ∀ i, gi_ (eb_ b i) v x y = gi_ b v x y
  | 0 => rfl
  | i + 1 => by rw [eb_, gi_si, if_neg (fun h => hv h.1), eb_gi b v x y hv i]
def ec_ (a : St_) : St_ := si_ (eb_ (ea_ (th_ a 0) 8) 48) 31 0 0 0
theorem ec_gi (a : St_) (v x y : Nat) (h1 : v ≠ 30) (h2 : v ≠ 31) (h3 : v ≠ 20) : gi_ (ec_ a) v x y = gi_ a v x y := by
  rw [ec_, gi_si, if_neg (fun h => h2 h.1), eb_gi _ _ _ _ h1, ea_gi, th_gi _ _ _ _ _ h3]
theorem ch_gi (a : St_) (m : Nat) (z : Int64) (v x y : Nat) (hv : v ≠ 31) : gi_ (ch_ a m z) v x y = gi_ a v x y := by
  rw [ch_, gi_si, if_neg (fun h => hv h.1), cc_, gi_sl]
theorem ge_gi (a : St_) (q k j v x y : Nat) (h1 : v ≠ 24) (h2 : v ≠ 31) : gi_ (ge_ a q k j) v x y = gi_ a v x y := by
  rw [ge_]
  split
  · rfl
  · split
    · rw [gi_si, if_neg (fun h => h2 h.1)]
    · rw [gd_, ch_gi _ _ _ _ _ _ h2, ch_gi _ _ _ _ _ _ h2, gc_, gi_si, if_neg (fun h => h1 h.1), gi_si, if_neg (fun h => h1 h.1), gi_si, if_neg (fun h => h2 h.1)]
def eg_ (q k : Nat) : Nat → Nat → St_ → St_
  | 0, _, b => b
  | f + 1, i, b => if gi_ b 31 0 0 = 0 then eg_ q k f (i + 1) (ge_ b q k i) else b
theorem eg_s {q k n i : Nat} {b : St_} (hi : i < n) (h : ¬ gi_ b 31 0 0 = 0) : eg_ q k (n - i) i b = b := by
  rw [show n - i = (n - (i + 1)) + 1 by omega, eg_, if_neg h]
theorem eg_g {q k n i : Nat} {b : St_} (hi : i < n) (h : gi_ b 31 0 0 = 0) : eg_ q k (n - i) i b = eg_ q k (n - (i + 1)) (i + 1) (ge_ b q k i) := by
  rw [show n - i = (n - (i + 1)) + 1 by omega, eg_, if_pos h]
theorem eg_gi (q k v x y : Nat) (h1 : v ≠ 24) (h2 : v ≠ 31) : ∀ (f i : Nat) (b : St_), gi_ (eg_ q k f i b) v x y = gi_ b v x y
  | 0, i, b => rfl
  | f + 1, i, b => by
    rw [eg_]
    split
    · rw [eg_gi q k v x y h1 h2 f, ge_gi _ _ _ _ _ _ _ h1 h2]
    · rfl
def eh_ (a : St_) (q k n : Nat) : St_ := eg_ q k n 0 (ec_ a)
theorem eh_gi (a : St_) (q k n v x y : Nat) (h1 : v ≠ 24) (h2 : v ≠ 31) (h3 : v ≠ 30) (h4 : v ≠ 20) : gi_ (eh_ a q k n) v x y = gi_ a v x y := by
  rw [eh_, eg_gi _ _ _ _ _ h1 h2, ec_gi _ _ _ _ h3 h2 h4]
def er_ (b : St_) : Nat → St_
  | 0 => b
  | i + 1 => sl_ (er_ b i) 20 0 i (gl_ (er_ b i) 26 0 i)
def es_ (b : St_) : Nat → St_
  | 0 => b
  | i + 1 => si_ (es_ b i) 24 0 i (gi_ (es_ b i) 30 0 i)
def et_ (b : St_) : St_ := es_ (er_ b 8) 48
def eu_ (b : St_) (q k : Nat) : St_ := sl_ (p8_ b q k) 22 0 0 (gl_ (p8_ b q k) 22 0 0 - gl_ (p8_ b q k) 28 0 1)
def ew_ (b : St_) (q k : Nat) : St_ := si_ (sl_ (eu_ b q k) 23 0 0 (gl_ (eu_ b q k) 23 0 0 + x4_ b q k)) 23 0 q 2
def ex_ (b : St_) : Nat → St_
  | 0 => b
  | i + 1 => sl_ (ex_ b i) 25 0 i (gl_ (ex_ b i) 28 0 i)
def ey_ (b : St_) (q k : Nat) : St_ := ex_ (ew_ b q k) 5
set_option maxHeartbeats 4000000 in
set_option maxRecDepth 100000 in
theorem c_X5_closeOut_ia (l : Launch) {w : Gh_} (hI : In_ w) (a : St_) (x : Int32) (h : ¬ jm_ x (gi_ a 21 0 0)) : Fn_ l w yX5_closeOut (.code yX5_closeOut cX5_closeOut 5 (some .long)) { frames := 3, cells := 0, slots := 0, locals := 84 } 0 0 [.ref (ad_ w 20 0), .int x] a (.inl (some (.long 0))) (th_ a 1) := by
  refine Fn_of hI (by decide +kernel) (Nat.le_of_ble_eq_true rfl) ?_
  intro zp ze zs zm zb zt zc ls cx hr hlk hno hW hS hl
  replace cx : Cx_ zp zs zm zc _ cX5_closeOut 5 "MarginHouseModel" w := cx
  replace hl : lv_has ls 5 [(0, .ref (ad_ w 20 0)), (1, .int x)] := hl
  obtain ⟨H, hH⟩ : ∃ H, zs.heap = H := ⟨_, rfl⟩
  rw [hH] at hW
  have hS : Fr_ w zs.heap H [] := by rw [← hH]; exact hS
  obtain ⟨locs, hlocs⟩ : ∃ x : List Loc, x = [] := ⟨_, rfl⟩
  rw [← hlocs] at hS ⊢
  rw [show W zp l ze _ zs zm _ zb zt zc zs.heap locs 0 0 _ (F0 zm 0 ls []) ↔ W zp l ze _ zs zm _ zb zt zc H locs 0 0 _ (F0 zm 0 ls []) from by rw [hH]]
  refine lv_aload_n cx.1 cx.2.1 dX5_closeOut_0 rfl (lv_at hl 0 rfl) ?_
  refine lv_aload_n cx.1 cx.2.1 dX5_closeOut_1 rfl (lv_at hl 0 rfl) ?_
  refine lv_iload_n cx.1 cx.2.1 dX5_closeOut_2 rfl (lv_at hl 1 rfl) ?_
  refine ck_V (v := some (.int (if jm_ x (gi_ a 21 0 0) then 1 else 0))) (As := [.int x]) (rest := [.ref (ad_ w 20 0)]) (k := 20) (i := 0) (T := TX5) cx hW hS hl (by decide) rfl rfl (c_X5_isMember l hI a x) cw_X5_isMember nw_436 nw_542 nw_435 rfl rfl (Nat.le_of_ble_eq_true rfl) rfl rfl ⟨Nat.le_of_ble_eq_true rfl, Nat.le_of_ble_eq_true rfl⟩ ⟨Nat.le_of_ble_eq_true rfl, Nat.le_of_ble_eq_true rfl⟩ dX5_closeOut_3 (fun H locs hW hS => ?_)
  refine W.eq (g2 := F0 zm 6 ls [.int (if jm_ x (gi_ a 21 0 0) then 1 else 0), .ref (ad_ w 20 0)]) rfl ?_
  refine lv_if_ne (tgt := 13) cx.1 cx.2.1 dX5_closeOut_6 (by decide) (fun zz => absurd (bz_f h) zz) (fun h6 => ?_)
  refine lv_iconst (v := 1) cx.1 cx.2.1 dX5_closeOut_9 (by decide) ?_
  refine lv_goto (tgt := 28) cx.1 cx.2.1 dX5_closeOut_10 (by decide) ?_
  refine pf_X5_62 cx hW hS (by decide) dX5_closeOut_28 (fun H locs hW hS => ?_)
  replace hW : Hd_ w (th_ a 1) H := hW
  refine lv_aload_n cx.1 cx.2.1 dX5_closeOut_31 rfl (lv_at hl 0 rfl) ?_
  refine gf_X5_62 cx hW (by decide) dX5_closeOut_32 ?_
  refine tp_i (y := 1) (th_20 a _) ?_
  refine lv_if_le (tgt := 40) cx.1 cx.2.1 dX5_closeOut_35 (by decide) (fun zz => absurd zz (by decide)) (fun h35 => ?_)
  refine lv_lconst (v := 0) cx.1 cx.2.1 dX5_closeOut_38 (by decide) ?_
  exact cr_l cx hr hlk hW hS (Nat.le_of_ble_eq_true rfl) (Nat.le_of_ble_eq_true rfl) dX5_closeOut_39 rfl rfl
set_option maxHeartbeats 4000000 in
set_option maxRecDepth 100000 in
theorem c_X5_closeOut_is (l : Launch) {w : Gh_} (hI : In_ w) (a : St_) (k : Nat) (hk : gi_ a 21 0 0 = nI k) (hk8 : k ≤ 8) (q : Nat) (hq0 : q < k) (hs : ¬ gi_ a 23 0 q = 1) : Fn_ l w yX5_closeOut (.code yX5_closeOut cX5_closeOut 5 (some .long)) { frames := 3, cells := 0, slots := 0, locals := 84 } 0 0 [.ref (ad_ w 20 0), .int (nI q)] a (.inl (some (.long 0))) (th_ a 2) := by
  refine Fn_of hI (by decide +kernel) (Nat.le_of_ble_eq_true rfl) ?_
  intro zp ze zs zm zb zt zc ls cx hr hlk hno hW hS hl
  replace cx : Cx_ zp zs zm zc _ cX5_closeOut 5 "MarginHouseModel" w := cx
  replace hl : lv_has ls 5 [(0, .ref (ad_ w 20 0)), (1, .int (nI q))] := hl
  obtain ⟨H, hH⟩ : ∃ H, zs.heap = H := ⟨_, rfl⟩
  rw [hH] at hW
  have hS : Fr_ w zs.heap H [] := by rw [← hH]; exact hS
  obtain ⟨locs, hlocs⟩ : ∃ x : List Loc, x = [] := ⟨_, rfl⟩
  rw [← hlocs] at hS ⊢
  rw [show W zp l ze _ zs zm _ zb zt zc zs.heap locs 0 0 _ (F0 zm 0 ls []) ↔ W zp l ze _ zs zm _ zb zt zc H locs 0 0 _ (F0 zm 0 ls []) from by rw [hH]]
  refine lv_aload_n cx.1 cx.2.1 dX5_closeOut_0 rfl (lv_at hl 0 rfl) ?_
  refine lv_aload_n cx.1 cx.2.1 dX5_closeOut_1 rfl (lv_at hl 0 rfl) ?_
  refine lv_iload_n cx.1 cx.2.1 dX5_closeOut_2 rfl (lv_at hl 1 rfl) ?_
  refine ck_V (v := some (.int (if jm_ (nI q) (gi_ a 21 0 0) then 1 else 0))) (As := [.int (nI q)]) (rest := [.ref (ad_ w 20 0)]) (k := 20) (i := 0) (T := TX5) cx hW hS hl (by decide) rfl rfl (c_X5_isMember l hI a (nI q)) cw_X5_isMember nw_436 nw_542 nw_435 rfl rfl (Nat.le_of_ble_eq_true rfl) rfl rfl ⟨Nat.le_of_ble_eq_true rfl, Nat.le_of_ble_eq_true rfl⟩ ⟨Nat.le_of_ble_eq_true rfl, Nat.le_of_ble_eq_true rfl⟩ dX5_closeOut_3 (fun H locs hW hS => ?_)
  refine W.eq (g2 := F0 zm 6 ls [.int (if jm_ (nI q) (gi_ a 21 0 0) then 1 else 0), .ref (ad_ w 20 0)]) rfl ?_
  refine lv_if_ne (tgt := 13) cx.1 cx.2.1 dX5_closeOut_6 (by decide) (fun h6 => ?_) (fun zz => absurd zz (bz_t (jm_in hk (by omega) hq0)))
  refine lv_aload_n cx.1 cx.2.1 dX5_closeOut_13 rfl (lv_at hl 0 rfl) ?_
  refine gf_X5_16 cx hW (by decide) dX5_closeOut_14 ?_
  refine lv_iload_n cx.1 cx.2.1 dX5_closeOut_17 rfl (lv_at hl 1 rfl) ?_
  refine al_23 (j := q) cx hW (by decide) rfl (by omega) dX5_closeOut_18 ?_
  refine lv_iconst (v := 1) cx.1 cx.2.1 dX5_closeOut_19 (by decide) ?_
  refine lv_icmp_eq (tgt := 27) cx.1 cx.2.1 dX5_closeOut_20 (by decide) (fun zz => absurd zz hs) (fun h20 => ?_)
  refine lv_iconst (v := 2) cx.1 cx.2.1 dX5_closeOut_23 (by decide) ?_
  refine lv_goto (tgt := 28) cx.1 cx.2.1 dX5_closeOut_24 (by decide) ?_
  refine pf_X5_62 cx hW hS (by decide) dX5_closeOut_28 (fun H locs hW hS => ?_)
  replace hW : Hd_ w (th_ a 2) H := hW
  refine lv_aload_n cx.1 cx.2.1 dX5_closeOut_31 rfl (lv_at hl 0 rfl) ?_
  refine gf_X5_62 cx hW (by decide) dX5_closeOut_32 ?_
  refine tp_i (y := 2) (th_20 a _) ?_
  refine lv_if_le (tgt := 40) cx.1 cx.2.1 dX5_closeOut_35 (by decide) (fun zz => absurd zz (by decide)) (fun h35 => ?_)
  refine lv_lconst (v := 0) cx.1 cx.2.1 dX5_closeOut_38 (by decide) ?_
  exact cr_l cx hr hlk hW hS (Nat.le_of_ble_eq_true rfl) (Nat.le_of_ble_eq_true rfl) dX5_closeOut_39 rfl rfl
set_option maxHeartbeats 4000000 in
set_option maxRecDepth 100000 in
theorem c_X5_closeOut_no1 (l : Launch) {w : Gh_} (hI : In_ w) (a : St_) (k : Nat) (hk : gi_ a 21 0 0 = nI k) (hk8 : k ≤ 8) (n : Nat) (hn : gi_ a 22 0 0 = nI n) (hn6 : n ≤ 6) (q : Nat) (hq0 : q < k) (hs : gi_ a 23 0 q = 1) (hb0 : ¬ gi_ (eh_ a q k n) 31 0 0 = 0) : Fn_ l w yX5_closeOut (.code yX5_closeOut cX5_closeOut 5 (some .long)) { frames := 3, cells := 0, slots := 0, locals := 84 } 0 0 [.ref (ad_ w 20 0), .int (nI q)] a (.inl (some (.long (-1)))) (et_ (eh_ a q k n)) := by
  refine Fn_of hI (by decide +kernel) (Nat.le_of_ble_eq_true rfl) ?_
  intro zp ze zs zm zb zt zc ls cx hr hlk hno hW hS hl
  replace cx : Cx_ zp zs zm zc _ cX5_closeOut 5 "MarginHouseModel" w := cx
  replace hl : lv_has ls 5 [(0, .ref (ad_ w 20 0)), (1, .int (nI q))] := hl
  obtain ⟨H, hH⟩ : ∃ H, zs.heap = H := ⟨_, rfl⟩
  rw [hH] at hW
  have hS : Fr_ w zs.heap H [] := by rw [← hH]; exact hS
  obtain ⟨locs, hlocs⟩ : ∃ x : List Loc, x = [] := ⟨_, rfl⟩
  rw [← hlocs] at hS ⊢
  rw [show W zp l ze _ zs zm _ zb zt zc zs.heap locs 0 0 _ (F0 zm 0 ls []) ↔ W zp l ze _ zs zm _ zb zt zc H locs 0 0 _ (F0 zm 0 ls []) from by rw [hH]]
  refine lv_aload_n cx.1 cx.2.1 dX5_closeOut_0 rfl (lv_at hl 0 rfl) ?_
  refine lv_aload_n cx.1 cx.2.1 dX5_closeOut_1 rfl (lv_at hl 0 rfl) ?_
  refine lv_iload_n cx.1 cx.2.1 dX5_closeOut_2 rfl (lv_at hl 1 rfl) ?_
  refine ck_V (v := some (.int (if jm_ (nI q) (gi_ a 21 0 0) then 1 else 0))) (As := [.int (nI q)]) (rest := [.ref (ad_ w 20 0)]) (k := 20) (i := 0) (T := TX5) cx hW hS hl (by decide) rfl rfl (c_X5_isMember l hI a (nI q)) cw_X5_isMember nw_436 nw_542 nw_435 rfl rfl (Nat.le_of_ble_eq_true rfl) rfl rfl ⟨Nat.le_of_ble_eq_true rfl, Nat.le_of_ble_eq_true rfl⟩ ⟨Nat.le_of_ble_eq_true rfl, Nat.le_of_ble_eq_true rfl⟩ dX5_closeOut_3 (fun H locs hW hS => ?_)
  refine W.eq (g2 := F0 zm 6 ls [.int (if jm_ (nI q) (gi_ a 21 0 0) then 1 else 0), .ref (ad_ w 20 0)]) rfl ?_
  refine lv_if_ne (tgt := 13) cx.1 cx.2.1 dX5_closeOut_6 (by decide) (fun h6 => ?_) (fun zz => absurd zz (bz_t (jm_in hk (by omega) hq0)))
  refine lv_aload_n cx.1 cx.2.1 dX5_closeOut_13 rfl (lv_at hl 0 rfl) ?_
  refine gf_X5_16 cx hW (by decide) dX5_closeOut_14 ?_
  refine lv_iload_n cx.1 cx.2.1 dX5_closeOut_17 rfl (lv_at hl 1 rfl) ?_
  refine al_23 (j := q) cx hW (by decide) rfl (by omega) dX5_closeOut_18 ?_
  refine lv_iconst (v := 1) cx.1 cx.2.1 dX5_closeOut_19 (by decide) ?_
  refine lv_icmp_eq (tgt := 27) cx.1 cx.2.1 dX5_closeOut_20 (by decide) (fun h20 => ?_) (fun zz => absurd hs zz)
  refine lv_iconst (v := 0) cx.1 cx.2.1 dX5_closeOut_27 (by decide) ?_
  refine pf_X5_62 cx hW hS (by decide) dX5_closeOut_28 (fun H locs hW hS => ?_)
  replace hW : Hd_ w (th_ a 0) H := hW
  refine lv_aload_n cx.1 cx.2.1 dX5_closeOut_31 rfl (lv_at hl 0 rfl) ?_
  refine gf_X5_62 cx hW (by decide) dX5_closeOut_32 ?_
  refine tp_i (y := 0) (th_20 a _) ?_
  refine lv_if_le (tgt := 40) cx.1 cx.2.1 dX5_closeOut_35 (by decide) (fun h35 => ?_) (fun zz => absurd (by decide) zz)
  refine lv_iconst (v := 0) cx.1 cx.2.1 dX5_closeOut_40 (by decide) ?_
  refine lv_istore_n (lv' := [(2, .int 0), (0, .ref (ad_ w 20 0)), (1, .int (nI q))]) cx.1 cx.2.1 dX5_closeOut_41 rfl hl (by decide) rfl (fun ls hl => ?_)
  have L42 : ∀ (d i : Nat), i ≤ 8 → 8 - i < d → ∀ (H : Heap) (locs : List Loc) (ls : Array Slot), Hd_ w (ea_ (th_ a 0) i) H → Fr_ w zs.heap H locs → lv_has ls 5 [(0, .ref (ad_ w 20 0)), (1, .int (nI q)), (2, .int (nI i))] → W zp l ze { frames := 3, cells := 0, slots := 0, locals := 84 } zs zm ([.ref (ad_ w 20 0), .int (nI q)] : List Value).toArray zb zt zc H locs 0 0 (vx_MQ zb (Qc_ w (.inl (some (.long (-1)))) (et_ (eh_ a q k n))) (XC_ w (.inl (some (.long (-1)))) (et_ (eh_ a q k n))) ([.ref (ad_ w 20 0), .int (nI q)] : List Value).toArray zs 0 0 (fun q => lo_ w ≤ q)) (F0 zm 42 ls []) := by
    intro d
    induction d with
    | zero => intro i _ hd; exact absurd hd (Nat.not_lt_zero _)
    | succ d ih42 =>
      intro i hi hdi  H locs ls hW hS hl
      refine lv_iload_n cx.1 cx.2.1 dX5_closeOut_42 rfl (lv_at hl 2 rfl) ?_
      refine lv_bipush (v := 8) cx.1 cx.2.1 dX5_closeOut_43 (by decide) ?_
      refine tp_i (y := nI 8) (by decide +kernel) ?_
      refine lv_icmp_ge (tgt := 66) cx.1 cx.2.1 dX5_closeOut_45 (by decide) (fun h45 => ?_) (fun h45 => ?_)
      · skip
        have h45 : 8 ≤ i := (nI_leI (by omega) (by omega)).mp h45
        have e42 : i = 8 := by omega
        try rw [e42] at hl
        try rw [e42] at hW
        refine lv_iconst (v := 0) cx.1 cx.2.1 dX5_closeOut_66 (by decide) ?_
        refine lv_istore_n (lv' := [(2, .int 0), (0, .ref (ad_ w 20 0)), (1, .int (nI q))]) cx.1 cx.2.1 dX5_closeOut_67 rfl hl (by decide) rfl (fun ls hl => ?_)
        have L68 : ∀ (d i : Nat), i ≤ 48 → 48 - i < d → ∀ (H : Heap) (locs : List Loc) (ls : Array Slot), Hd_ w (eb_ (ea_ (th_ a 0) 8) i) H → Fr_ w zs.heap H locs → lv_has ls 5 [(0, .ref (ad_ w 20 0)), (1, .int (nI q)), (2, .int (nI i))] → W zp l ze { frames := 3, cells := 0, slots := 0, locals := 84 } zs zm ([.ref (ad_ w 20 0), .int (nI q)] : List Value).toArray zb zt zc H locs 0 0 (vx_MQ zb (Qc_ w (.inl (some (.long (-1)))) (et_ (eh_ a q k n))) (XC_ w (.inl (some (.long (-1)))) (et_ (eh_ a q k n))) ([.ref (ad_ w 20 0), .int (nI q)] : List Value).toArray zs 0 0 (fun q => lo_ w ≤ q)) (F0 zm 68 ls []) := by
          intro d
          induction d with
          | zero => intro i _ hd; exact absurd hd (Nat.not_lt_zero _)
          | succ d ih68 =>
            intro i hi hdi  H locs ls hW hS hl
            refine lv_iload_n cx.1 cx.2.1 dX5_closeOut_68 rfl (lv_at hl 2 rfl) ?_
            refine lv_bipush (v := 48) cx.1 cx.2.1 dX5_closeOut_69 (by decide) ?_
            refine tp_i (y := nI 48) (by decide +kernel) ?_
            refine lv_icmp_ge (tgt := 92) cx.1 cx.2.1 dX5_closeOut_71 (by decide) (fun h71 => ?_) (fun h71 => ?_)
            · skip
              have h71 : 48 ≤ i := (nI_leI (by omega) (by omega)).mp h71
              have e68 : i = 48 := by omega
              try rw [e68] at hl
              try rw [e68] at hW
              refine lv_aload_n cx.1 cx.2.1 dX5_closeOut_92 rfl (lv_at hl 0 rfl) ?_
              refine lv_iconst (v := 0) cx.1 cx.2.1 dX5_closeOut_93 (by decide) ?_
              refine pf_X5_117 cx hW hS (by decide) (Or.inl rfl) dX5_closeOut_94 (fun H locs hW hS => ?_)
              replace hW : Hd_ w (ec_ a) H := hW
              have J126 : ∀ (H : Heap) (locs : List Loc) (ls : Array Slot), Hd_ w (eh_ a q k n) H → Fr_ w zs.heap H locs → lv_has ls 5 [(0, .ref (ad_ w 20 0)), (1, .int (nI q))] → W zp l ze { frames := 3, cells := 0, slots := 0, locals := 84 } zs zm ([.ref (ad_ w 20 0), .int (nI q)] : List Value).toArray zb zt zc H locs 0 0 (vx_MQ zb (Qc_ w (.inl (some (.long (-1)))) (et_ (eh_ a q k n))) (XC_ w (.inl (some (.long (-1)))) (et_ (eh_ a q k n))) ([.ref (ad_ w 20 0), .int (nI q)] : List Value).toArray zs 0 0 (fun q => lo_ w ≤ q)) (F0 zm 126 ls []) := by
                intro H locs ls hW hS hl
                refine lv_aload_n cx.1 cx.2.1 dX5_closeOut_126 rfl (lv_at hl 0 rfl) ?_
                refine gf_X5_117 cx hW (by decide) dX5_closeOut_127 ?_
                refine lv_if_ne (tgt := 145) cx.1 cx.2.1 dX5_closeOut_130 (by decide) (fun h130 => ?_) (fun zz => absurd zz hb0)
                refine lv_iconst (v := 0) cx.1 cx.2.1 dX5_closeOut_145 (by decide) ?_
                refine lv_istore_n (lv' := [(2, .int 0), (0, .ref (ad_ w 20 0)), (1, .int (nI q))]) cx.1 cx.2.1 dX5_closeOut_146 rfl hl (by decide) rfl (fun ls hl => ?_)
                have L147 : ∀ (d i : Nat), i ≤ 8 → 8 - i < d → ∀ (H : Heap) (locs : List Loc) (ls : Array Slot), Hd_ w (er_ (eh_ a q k n) i) H → Fr_ w zs.heap H locs → lv_has ls 5 [(0, .ref (ad_ w 20 0)), (1, .int (nI q)), (2, .int (nI i))] → W zp l ze { frames := 3, cells := 0, slots := 0, locals := 84 } zs zm ([.ref (ad_ w 20 0), .int (nI q)] : List Value).toArray zb zt zc H locs 0 0 (vx_MQ zb (Qc_ w (.inl (some (.long (-1)))) (et_ (eh_ a q k n))) (XC_ w (.inl (some (.long (-1)))) (et_ (eh_ a q k n))) ([.ref (ad_ w 20 0), .int (nI q)] : List Value).toArray zs 0 0 (fun q => lo_ w ≤ q)) (F0 zm 147 ls []) := by
                  intro d
                  induction d with
                  | zero => intro i _ hd; exact absurd hd (Nat.not_lt_zero _)
                  | succ d ih147 =>
                    intro i hi hdi  H locs ls hW hS hl
                    refine lv_iload_n cx.1 cx.2.1 dX5_closeOut_147 rfl (lv_at hl 2 rfl) ?_
                    refine lv_bipush (v := 8) cx.1 cx.2.1 dX5_closeOut_148 (by decide) ?_
                    refine tp_i (y := nI 8) (by decide +kernel) ?_
                    refine lv_icmp_ge (tgt := 171) cx.1 cx.2.1 dX5_closeOut_150 (by decide) (fun h150 => ?_) (fun h150 => ?_)
                    · skip
                      have h150 : 8 ≤ i := (nI_leI (by omega) (by omega)).mp h150
                      have e147 : i = 8 := by omega
                      try rw [e147] at hl
                      try rw [e147] at hW
                      refine lv_iconst (v := 0) cx.1 cx.2.1 dX5_closeOut_171 (by decide) ?_
                      refine lv_istore_n (lv' := [(2, .int 0), (0, .ref (ad_ w 20 0)), (1, .int (nI q))]) cx.1 cx.2.1 dX5_closeOut_172 rfl hl (by decide) rfl (fun ls hl => ?_)
                      have L173 : ∀ (d i : Nat), i ≤ 48 → 48 - i < d → ∀ (H : Heap) (locs : List Loc) (ls : Array Slot), Hd_ w (es_ (er_ (eh_ a q k n) 8) i) H → Fr_ w zs.heap H locs → lv_has ls 5 [(0, .ref (ad_ w 20 0)), (1, .int (nI q)), (2, .int (nI i))] → W zp l ze { frames := 3, cells := 0, slots := 0, locals := 84 } zs zm ([.ref (ad_ w 20 0), .int (nI q)] : List Value).toArray zb zt zc H locs 0 0 (vx_MQ zb (Qc_ w (.inl (some (.long (-1)))) (et_ (eh_ a q k n))) (XC_ w (.inl (some (.long (-1)))) (et_ (eh_ a q k n))) ([.ref (ad_ w 20 0), .int (nI q)] : List Value).toArray zs 0 0 (fun q => lo_ w ≤ q)) (F0 zm 173 ls []) := by
                        intro d
                        induction d with
                        | zero => intro i _ hd; exact absurd hd (Nat.not_lt_zero _)
                        | succ d ih173 =>
                          intro i hi hdi  H locs ls hW hS hl
                          refine lv_iload_n cx.1 cx.2.1 dX5_closeOut_173 rfl (lv_at hl 2 rfl) ?_
                          refine lv_bipush (v := 48) cx.1 cx.2.1 dX5_closeOut_174 (by decide) ?_
                          refine tp_i (y := nI 48) (by decide +kernel) ?_
                          refine lv_icmp_ge (tgt := 197) cx.1 cx.2.1 dX5_closeOut_176 (by decide) (fun h176 => ?_) (fun h176 => ?_)
                          · skip
                            have h176 : 48 ≤ i := (nI_leI (by omega) (by omega)).mp h176
                            have e173 : i = 48 := by omega
                            try rw [e173] at hl
                            try rw [e173] at hW
                            refine lv_ldc2 (own := "MarginHouseModel") (v := -1) cx.1 cx.2.1 cx.2.2.2.1 (cx.2.2.2.2.1 _ nw_422) dX5_closeOut_197 ?_
                            exact cr_l cx hr hlk hW hS (Nat.le_of_ble_eq_true rfl) (Nat.le_of_ble_eq_true rfl) dX5_closeOut_200 rfl rfl
                          · skip
                            have h176 : i < 48 := Nat.not_le.mp (fun q => h176 ((nI_leI (by omega) (by omega)).mpr q))
                            refine lv_aload_n cx.1 cx.2.1 dX5_closeOut_179 rfl (lv_at hl 0 rfl) ?_
                            refine gf_X5_20 cx hW (by decide) dX5_closeOut_180 ?_
                            refine lv_iload_n cx.1 cx.2.1 dX5_closeOut_183 rfl (lv_at hl 2 rfl) ?_
                            refine lv_aload_n cx.1 cx.2.1 dX5_closeOut_184 rfl (lv_at hl 0 rfl) ?_
                            refine gf_X5_47 cx hW (by decide) dX5_closeOut_185 ?_
                            refine lv_iload_n cx.1 cx.2.1 dX5_closeOut_188 rfl (lv_at hl 2 rfl) ?_
                            refine al_33 (j := i) cx hW (by decide) rfl (by omega) dX5_closeOut_189 ?_
                            refine as_24 (j := i) cx hW hS (by decide) rfl (by omega) dX5_closeOut_190 (fun H locs hW hS => ?_)
                            refine lv_iinc (v := nI (i + 1)) (lv' := [(2, .int (nI (i + 1))), (0, .ref (ad_ w 20 0)), (1, .int (nI q))]) cx.1 cx.2.1 dX5_closeOut_191 hl (k := 2) rfl (nI_inc i) (by decide) rfl (fun ls hl => ?_)
                            refine lv_goto (tgt := 173) cx.1 cx.2.1 dX5_closeOut_194 (by decide) ?_
                            exact ih173 (i + 1) (by omega) (by omega)  H locs ls hW hS (lv_sub (l' := [(0, .ref (ad_ w 20 0)), (1, .int (nI q)), (2, .int (nI (i + 1)))]) hl [1, 2, 0] rfl)
                      exact L173 (48 - 0 + 1) 0 (by omega) (by omega)  H locs ls hW hS (lv_sub hl [1, 2, 0] rfl)
                    · skip
                      have h150 : i < 8 := Nat.not_le.mp (fun q => h150 ((nI_leI (by omega) (by omega)).mpr q))
                      refine lv_aload_n cx.1 cx.2.1 dX5_closeOut_153 rfl (lv_at hl 0 rfl) ?_
                      refine gf_X5_7 cx hW (by decide) dX5_closeOut_154 ?_
                      refine lv_iload_n cx.1 cx.2.1 dX5_closeOut_157 rfl (lv_at hl 2 rfl) ?_
                      refine lv_aload_n cx.1 cx.2.1 dX5_closeOut_158 rfl (lv_at hl 0 rfl) ?_
                      refine gf_X5_41 cx hW (by decide) dX5_closeOut_159 ?_
                      refine lv_iload_n cx.1 cx.2.1 dX5_closeOut_162 rfl (lv_at hl 2 rfl) ?_
                      refine al_31 (j := i) cx hW (by decide) rfl (by omega) dX5_closeOut_163 ?_
                      refine as_21 (j := i) cx hW hS (by decide) rfl (by omega) dX5_closeOut_164 (fun H locs hW hS => ?_)
                      refine lv_iinc (v := nI (i + 1)) (lv' := [(2, .int (nI (i + 1))), (0, .ref (ad_ w 20 0)), (1, .int (nI q))]) cx.1 cx.2.1 dX5_closeOut_165 hl (k := 2) rfl (nI_inc i) (by decide) rfl (fun ls hl => ?_)
                      refine lv_goto (tgt := 147) cx.1 cx.2.1 dX5_closeOut_168 (by decide) ?_
                      exact ih147 (i + 1) (by omega) (by omega)  H locs ls hW hS (lv_sub (l' := [(0, .ref (ad_ w 20 0)), (1, .int (nI q)), (2, .int (nI (i + 1)))]) hl [1, 2, 0] rfl)
                exact L147 (8 - 0 + 1) 0 (by omega) (by omega)  H locs ls hW hS (lv_sub hl [1, 2, 0] rfl)
              refine lv_iconst (v := 0) cx.1 cx.2.1 dX5_closeOut_97 (by decide) ?_
              refine lv_istore_n (lv' := [(2, .int 0), (0, .ref (ad_ w 20 0)), (1, .int (nI q))]) cx.1 cx.2.1 dX5_closeOut_98 rfl hl (by decide) rfl (fun ls hl => ?_)
              have L99 : ∀ (d i : Nat), i ≤ n → n - i < d → ∀ (b : St_), eg_ q k (n - i) i b = eh_ a q k n → gi_ b 21 0 0 = nI k → gi_ b 22 0 0 = nI n → ∀ (H : Heap) (locs : List Loc) (ls : Array Slot), Hd_ w b H → Fr_ w zs.heap H locs → lv_has ls 5 [(0, .ref (ad_ w 20 0)), (1, .int (nI q)), (2, .int (nI i))] → W zp l ze { frames := 3, cells := 0, slots := 0, locals := 84 } zs zm ([.ref (ad_ w 20 0), .int (nI q)] : List Value).toArray zb zt zc H locs 0 0 (vx_MQ zb (Qc_ w (.inl (some (.long (-1)))) (et_ (eh_ a q k n))) (XC_ w (.inl (some (.long (-1)))) (et_ (eh_ a q k n))) ([.ref (ad_ w 20 0), .int (nI q)] : List Value).toArray zs 0 0 (fun q => lo_ w ≤ q)) (F0 zm 99 ls []) := by
                intro d
                induction d with
                | zero => intro i _ hd; exact absurd hd (Nat.not_lt_zero _)
                | succ d ih99 =>
                  intro i hi hdi b hF hbk hbn H locs ls hW hS hl
                  refine lv_iload_n cx.1 cx.2.1 dX5_closeOut_99 rfl (lv_at hl 2 rfl) ?_
                  refine lv_aload_n cx.1 cx.2.1 dX5_closeOut_100 rfl (lv_at hl 0 rfl) ?_
                  refine gf_X5_69 cx hW (by decide) dX5_closeOut_101 ?_
                  refine tp_i (y := nI n) hbn ?_
                  refine lv_icmp_ge (tgt := 126) cx.1 cx.2.1 dX5_closeOut_104 (by decide) (fun h104 => ?_) (fun h104 => ?_)
                  · skip
                    have h104 : n ≤ i := (nI_leI (by omega) (by omega)).mp h104
                    have e99 : i = n := by omega
                    try rw [e99] at hl
                    try rw [e99] at hW
                    skip
                    exact J126 H locs ls (by rw [← hF, e99, Nat.sub_self] ; exact hW) hS (lv_sub hl [0, 1] rfl)
                  · skip
                    have h104 : i < n := Nat.not_le.mp (fun q => h104 ((nI_leI (by omega) (by omega)).mpr q))
                    refine lv_aload_n cx.1 cx.2.1 dX5_closeOut_107 rfl (lv_at hl 0 rfl) ?_
                    refine gf_X5_117 cx hW (by decide) dX5_closeOut_108 ?_
                    refine lv_if_ne (tgt := 126) cx.1 cx.2.1 dX5_closeOut_111 (by decide) (fun h111 => ?_) (fun h111 => ?_)
                    · skip
                      skip
                      exact J126 H locs ls (by rw [← hF, eg_s h104 h111]; exact hW) hS (lv_sub hl [0, 1] rfl)
                    · skip
                      refine lv_aload_n cx.1 cx.2.1 dX5_closeOut_114 rfl (lv_at hl 0 rfl) ?_
                      refine lv_iload_n cx.1 cx.2.1 dX5_closeOut_115 rfl (lv_at hl 1 rfl) ?_
                      refine lv_iload_n cx.1 cx.2.1 dX5_closeOut_116 rfl (lv_at hl 2 rfl) ?_
                      refine ck_V (v := none) (As := [.int (nI q), .int (nI i)]) (rest := []) (k := 20) (i := 0) (T := TX5) cx hW hS hl (by decide) rfl rfl (c_X5_give l hI b k (by assumption) hk8 q i (by omega) (by omega)) cw_X5_give nw_480 nw_545 nw_479 rfl rfl (Nat.le_of_ble_eq_true rfl) rfl rfl ⟨Nat.le_of_ble_eq_true rfl, Nat.le_of_ble_eq_true rfl⟩ ⟨Nat.le_of_ble_eq_true rfl, Nat.le_of_ble_eq_true rfl⟩ dX5_closeOut_117 (fun H locs hW hS => ?_)
                      refine W.eq (g2 := F0 zm 120 ls []) rfl ?_
                      refine lv_iinc (v := nI (i + 1)) (lv' := [(2, .int (nI (i + 1))), (0, .ref (ad_ w 20 0)), (1, .int (nI q))]) cx.1 cx.2.1 dX5_closeOut_120 hl (k := 2) rfl (nI_inc i) (by decide) rfl (fun ls hl => ?_)
                      refine lv_goto (tgt := 99) cx.1 cx.2.1 dX5_closeOut_123 (by decide) ?_
                      exact ih99 (i + 1) (by omega) (by omega) (ge_ b q k i) (by rw [← hF]; exact (eg_g h104 h111).symm) (by rw [ge_gi _ _ _ _ _ _ _ (by decide) (by decide)]; exact hbk) (by rw [ge_gi _ _ _ _ _ _ _ (by decide) (by decide)]; exact hbn) H locs ls hW hS (lv_sub (l' := [(0, .ref (ad_ w 20 0)), (1, .int (nI q)), (2, .int (nI (i + 1)))]) hl [1, 2, 0] rfl)
              exact L99 (n - 0 + 1) 0 (by omega) (by omega) (ec_ a) rfl (by rw [ec_gi _ _ _ _ (by decide) (by decide) (by decide)]; exact hk) (by rw [ec_gi _ _ _ _ (by decide) (by decide) (by decide)]; exact hn) H locs ls hW hS (lv_sub hl [1, 2, 0] rfl)
            · skip
              have h71 : i < 48 := Nat.not_le.mp (fun q => h71 ((nI_leI (by omega) (by omega)).mpr q))
              refine lv_aload_n cx.1 cx.2.1 dX5_closeOut_74 rfl (lv_at hl 0 rfl) ?_
              refine gf_X5_47 cx hW (by decide) dX5_closeOut_75 ?_
              refine lv_iload_n cx.1 cx.2.1 dX5_closeOut_78 rfl (lv_at hl 2 rfl) ?_
              refine lv_aload_n cx.1 cx.2.1 dX5_closeOut_79 rfl (lv_at hl 0 rfl) ?_
              refine gf_X5_20 cx hW (by decide) dX5_closeOut_80 ?_
              refine lv_iload_n cx.1 cx.2.1 dX5_closeOut_83 rfl (lv_at hl 2 rfl) ?_
              refine al_24 (j := i) cx hW (by decide) rfl (by omega) dX5_closeOut_84 ?_
              refine as_33 (j := i) cx hW hS (by decide) rfl (by omega) dX5_closeOut_85 (fun H locs hW hS => ?_)
              refine lv_iinc (v := nI (i + 1)) (lv' := [(2, .int (nI (i + 1))), (0, .ref (ad_ w 20 0)), (1, .int (nI q))]) cx.1 cx.2.1 dX5_closeOut_86 hl (k := 2) rfl (nI_inc i) (by decide) rfl (fun ls hl => ?_)
              refine lv_goto (tgt := 68) cx.1 cx.2.1 dX5_closeOut_89 (by decide) ?_
              exact ih68 (i + 1) (by omega) (by omega)  H locs ls hW hS (lv_sub (l' := [(0, .ref (ad_ w 20 0)), (1, .int (nI q)), (2, .int (nI (i + 1)))]) hl [1, 2, 0] rfl)
        exact L68 (48 - 0 + 1) 0 (by omega) (by omega)  H locs ls hW hS (lv_sub hl [1, 2, 0] rfl)
      · skip
        have h45 : i < 8 := Nat.not_le.mp (fun q => h45 ((nI_leI (by omega) (by omega)).mpr q))
        refine lv_aload_n cx.1 cx.2.1 dX5_closeOut_48 rfl (lv_at hl 0 rfl) ?_
        refine gf_X5_41 cx hW (by decide) dX5_closeOut_49 ?_
        refine lv_iload_n cx.1 cx.2.1 dX5_closeOut_52 rfl (lv_at hl 2 rfl) ?_
        refine lv_aload_n cx.1 cx.2.1 dX5_closeOut_53 rfl (lv_at hl 0 rfl) ?_
        refine gf_X5_7 cx hW (by decide) dX5_closeOut_54 ?_
        refine lv_iload_n cx.1 cx.2.1 dX5_closeOut_57 rfl (lv_at hl 2 rfl) ?_
        refine al_21 (j := i) cx hW (by decide) rfl (by omega) dX5_closeOut_58 ?_
        refine as_31 (j := i) cx hW hS (by decide) rfl (by omega) dX5_closeOut_59 (fun H locs hW hS => ?_)
        refine lv_iinc (v := nI (i + 1)) (lv' := [(2, .int (nI (i + 1))), (0, .ref (ad_ w 20 0)), (1, .int (nI q))]) cx.1 cx.2.1 dX5_closeOut_60 hl (k := 2) rfl (nI_inc i) (by decide) rfl (fun ls hl => ?_)
        refine lv_goto (tgt := 42) cx.1 cx.2.1 dX5_closeOut_63 (by decide) ?_
        exact ih42 (i + 1) (by omega) (by omega)  H locs ls hW hS (lv_sub (l' := [(0, .ref (ad_ w 20 0)), (1, .int (nI q)), (2, .int (nI (i + 1)))]) hl [1, 2, 0] rfl)
  exact L42 (8 - 0 + 1) 0 (by omega) (by omega)  H locs ls hW hS (lv_sub hl [1, 2, 0] rfl)
set_option maxHeartbeats 4000000 in
set_option maxRecDepth 100000 in
theorem c_X5_closeOut_no2 (l : Launch) {w : Gh_} (hI : In_ w) (a : St_) (k : Nat) (hk : gi_ a 21 0 0 = nI k) (hk8 : k ≤ 8) (n : Nat) (hn : gi_ a 22 0 0 = nI n) (hn6 : n ≤ 6) (q : Nat) (hq0 : q < k) (hs : gi_ a 23 0 q = 1) (hb0 : gi_ (eh_ a q k n) 31 0 0 = 0) (hu : ¬ uc_ (eh_ a q k n) q k ≤ 1000000000000000) : Fn_ l w yX5_closeOut (.code yX5_closeOut cX5_closeOut 5 (some .long)) { frames := 3, cells := 0, slots := 0, locals := 84 } 0 0 [.ref (ad_ w 20 0), .int (nI q)] a (.inl (some (.long (-1)))) (et_ (eh_ a q k n)) := by
  refine Fn_of hI (by decide +kernel) (Nat.le_of_ble_eq_true rfl) ?_
  intro zp ze zs zm zb zt zc ls cx hr hlk hno hW hS hl
  replace cx : Cx_ zp zs zm zc _ cX5_closeOut 5 "MarginHouseModel" w := cx
  replace hl : lv_has ls 5 [(0, .ref (ad_ w 20 0)), (1, .int (nI q))] := hl
  obtain ⟨H, hH⟩ : ∃ H, zs.heap = H := ⟨_, rfl⟩
  rw [hH] at hW
  have hS : Fr_ w zs.heap H [] := by rw [← hH]; exact hS
  obtain ⟨locs, hlocs⟩ : ∃ x : List Loc, x = [] := ⟨_, rfl⟩
  rw [← hlocs] at hS ⊢
  rw [show W zp l ze _ zs zm _ zb zt zc zs.heap locs 0 0 _ (F0 zm 0 ls []) ↔ W zp l ze _ zs zm _ zb zt zc H locs 0 0 _ (F0 zm 0 ls []) from by rw [hH]]
  refine lv_aload_n cx.1 cx.2.1 dX5_closeOut_0 rfl (lv_at hl 0 rfl) ?_
  refine lv_aload_n cx.1 cx.2.1 dX5_closeOut_1 rfl (lv_at hl 0 rfl) ?_
  refine lv_iload_n cx.1 cx.2.1 dX5_closeOut_2 rfl (lv_at hl 1 rfl) ?_
  refine ck_V (v := some (.int (if jm_ (nI q) (gi_ a 21 0 0) then 1 else 0))) (As := [.int (nI q)]) (rest := [.ref (ad_ w 20 0)]) (k := 20) (i := 0) (T := TX5) cx hW hS hl (by decide) rfl rfl (c_X5_isMember l hI a (nI q)) cw_X5_isMember nw_436 nw_542 nw_435 rfl rfl (Nat.le_of_ble_eq_true rfl) rfl rfl ⟨Nat.le_of_ble_eq_true rfl, Nat.le_of_ble_eq_true rfl⟩ ⟨Nat.le_of_ble_eq_true rfl, Nat.le_of_ble_eq_true rfl⟩ dX5_closeOut_3 (fun H locs hW hS => ?_)
  refine W.eq (g2 := F0 zm 6 ls [.int (if jm_ (nI q) (gi_ a 21 0 0) then 1 else 0), .ref (ad_ w 20 0)]) rfl ?_
  refine lv_if_ne (tgt := 13) cx.1 cx.2.1 dX5_closeOut_6 (by decide) (fun h6 => ?_) (fun zz => absurd zz (bz_t (jm_in hk (by omega) hq0)))
  refine lv_aload_n cx.1 cx.2.1 dX5_closeOut_13 rfl (lv_at hl 0 rfl) ?_
  refine gf_X5_16 cx hW (by decide) dX5_closeOut_14 ?_
  refine lv_iload_n cx.1 cx.2.1 dX5_closeOut_17 rfl (lv_at hl 1 rfl) ?_
  refine al_23 (j := q) cx hW (by decide) rfl (by omega) dX5_closeOut_18 ?_
  refine lv_iconst (v := 1) cx.1 cx.2.1 dX5_closeOut_19 (by decide) ?_
  refine lv_icmp_eq (tgt := 27) cx.1 cx.2.1 dX5_closeOut_20 (by decide) (fun h20 => ?_) (fun zz => absurd hs zz)
  refine lv_iconst (v := 0) cx.1 cx.2.1 dX5_closeOut_27 (by decide) ?_
  refine pf_X5_62 cx hW hS (by decide) dX5_closeOut_28 (fun H locs hW hS => ?_)
  replace hW : Hd_ w (th_ a 0) H := hW
  refine lv_aload_n cx.1 cx.2.1 dX5_closeOut_31 rfl (lv_at hl 0 rfl) ?_
  refine gf_X5_62 cx hW (by decide) dX5_closeOut_32 ?_
  refine tp_i (y := 0) (th_20 a _) ?_
  refine lv_if_le (tgt := 40) cx.1 cx.2.1 dX5_closeOut_35 (by decide) (fun h35 => ?_) (fun zz => absurd (by decide) zz)
  refine lv_iconst (v := 0) cx.1 cx.2.1 dX5_closeOut_40 (by decide) ?_
  refine lv_istore_n (lv' := [(2, .int 0), (0, .ref (ad_ w 20 0)), (1, .int (nI q))]) cx.1 cx.2.1 dX5_closeOut_41 rfl hl (by decide) rfl (fun ls hl => ?_)
  have L42 : ∀ (d i : Nat), i ≤ 8 → 8 - i < d → ∀ (H : Heap) (locs : List Loc) (ls : Array Slot), Hd_ w (ea_ (th_ a 0) i) H → Fr_ w zs.heap H locs → lv_has ls 5 [(0, .ref (ad_ w 20 0)), (1, .int (nI q)), (2, .int (nI i))] → W zp l ze { frames := 3, cells := 0, slots := 0, locals := 84 } zs zm ([.ref (ad_ w 20 0), .int (nI q)] : List Value).toArray zb zt zc H locs 0 0 (vx_MQ zb (Qc_ w (.inl (some (.long (-1)))) (et_ (eh_ a q k n))) (XC_ w (.inl (some (.long (-1)))) (et_ (eh_ a q k n))) ([.ref (ad_ w 20 0), .int (nI q)] : List Value).toArray zs 0 0 (fun q => lo_ w ≤ q)) (F0 zm 42 ls []) := by
    intro d
    induction d with
    | zero => intro i _ hd; exact absurd hd (Nat.not_lt_zero _)
    | succ d ih42 =>
      intro i hi hdi  H locs ls hW hS hl
      refine lv_iload_n cx.1 cx.2.1 dX5_closeOut_42 rfl (lv_at hl 2 rfl) ?_
      refine lv_bipush (v := 8) cx.1 cx.2.1 dX5_closeOut_43 (by decide) ?_
      refine tp_i (y := nI 8) (by decide +kernel) ?_
      refine lv_icmp_ge (tgt := 66) cx.1 cx.2.1 dX5_closeOut_45 (by decide) (fun h45 => ?_) (fun h45 => ?_)
      · skip
        have h45 : 8 ≤ i := (nI_leI (by omega) (by omega)).mp h45
        have e42 : i = 8 := by omega
        try rw [e42] at hl
        try rw [e42] at hW
        refine lv_iconst (v := 0) cx.1 cx.2.1 dX5_closeOut_66 (by decide) ?_
        refine lv_istore_n (lv' := [(2, .int 0), (0, .ref (ad_ w 20 0)), (1, .int (nI q))]) cx.1 cx.2.1 dX5_closeOut_67 rfl hl (by decide) rfl (fun ls hl => ?_)
        have L68 : ∀ (d i : Nat), i ≤ 48 → 48 - i < d → ∀ (H : Heap) (locs : List Loc) (ls : Array Slot), Hd_ w (eb_ (ea_ (th_ a 0) 8) i) H → Fr_ w zs.heap H locs → lv_has ls 5 [(0, .ref (ad_ w 20 0)), (1, .int (nI q)), (2, .int (nI i))] → W zp l ze { frames := 3, cells := 0, slots := 0, locals := 84 } zs zm ([.ref (ad_ w 20 0), .int (nI q)] : List Value).toArray zb zt zc H locs 0 0 (vx_MQ zb (Qc_ w (.inl (some (.long (-1)))) (et_ (eh_ a q k n))) (XC_ w (.inl (some (.long (-1)))) (et_ (eh_ a q k n))) ([.ref (ad_ w 20 0), .int (nI q)] : List Value).toArray zs 0 0 (fun q => lo_ w ≤ q)) (F0 zm 68 ls []) := by
          intro d
          induction d with
          | zero => intro i _ hd; exact absurd hd (Nat.not_lt_zero _)
          | succ d ih68 =>
            intro i hi hdi  H locs ls hW hS hl
            refine lv_iload_n cx.1 cx.2.1 dX5_closeOut_68 rfl (lv_at hl 2 rfl) ?_
            refine lv_bipush (v := 48) cx.1 cx.2.1 dX5_closeOut_69 (by decide) ?_
            refine tp_i (y := nI 48) (by decide +kernel) ?_
            refine lv_icmp_ge (tgt := 92) cx.1 cx.2.1 dX5_closeOut_71 (by decide) (fun h71 => ?_) (fun h71 => ?_)
            · skip
              have h71 : 48 ≤ i := (nI_leI (by omega) (by omega)).mp h71
              have e68 : i = 48 := by omega
              try rw [e68] at hl
              try rw [e68] at hW
              refine lv_aload_n cx.1 cx.2.1 dX5_closeOut_92 rfl (lv_at hl 0 rfl) ?_
              refine lv_iconst (v := 0) cx.1 cx.2.1 dX5_closeOut_93 (by decide) ?_
              refine pf_X5_117 cx hW hS (by decide) (Or.inl rfl) dX5_closeOut_94 (fun H locs hW hS => ?_)
              replace hW : Hd_ w (ec_ a) H := hW
              have J126 : ∀ (H : Heap) (locs : List Loc) (ls : Array Slot), Hd_ w (eh_ a q k n) H → Fr_ w zs.heap H locs → lv_has ls 5 [(0, .ref (ad_ w 20 0)), (1, .int (nI q))] → W zp l ze { frames := 3, cells := 0, slots := 0, locals := 84 } zs zm ([.ref (ad_ w 20 0), .int (nI q)] : List Value).toArray zb zt zc H locs 0 0 (vx_MQ zb (Qc_ w (.inl (some (.long (-1)))) (et_ (eh_ a q k n))) (XC_ w (.inl (some (.long (-1)))) (et_ (eh_ a q k n))) ([.ref (ad_ w 20 0), .int (nI q)] : List Value).toArray zs 0 0 (fun q => lo_ w ≤ q)) (F0 zm 126 ls []) := by
                intro H locs ls hW hS hl
                refine lv_aload_n cx.1 cx.2.1 dX5_closeOut_126 rfl (lv_at hl 0 rfl) ?_
                refine gf_X5_117 cx hW (by decide) dX5_closeOut_127 ?_
                refine lv_if_ne (tgt := 145) cx.1 cx.2.1 dX5_closeOut_130 (by decide) (fun zz => absurd hb0 zz) (fun h130 => ?_)
                refine lv_aload_n cx.1 cx.2.1 dX5_closeOut_133 rfl (lv_at hl 0 rfl) ?_
                refine lv_iload_n cx.1 cx.2.1 dX5_closeOut_134 rfl (lv_at hl 1 rfl) ?_
                refine ck_V (v := some (.long (uc_ (eh_ a q k n) q k))) (As := [.int (nI q)]) (rest := []) (k := 20) (i := 0) (T := TX5) cx hW hS hl (by decide) rfl rfl (c_X5_wouldLose l hI (eh_ a q k n) k (by rw [eh_gi _ _ _ _ _ _ _ (by decide) (by decide) (by decide) (by decide)]; exact hk) hk8 q (by omega)) cw_X5_wouldLose nw_489 nw_548 nw_488 rfl rfl (Nat.le_of_ble_eq_true rfl) rfl rfl ⟨Nat.le_of_ble_eq_true rfl, Nat.le_of_ble_eq_true rfl⟩ ⟨Nat.le_of_ble_eq_true rfl, Nat.le_of_ble_eq_true rfl⟩ dX5_closeOut_135 (fun H locs hW hS => ?_)
                refine W.eq (g2 := F0 zm 138 ls [.long (uc_ (eh_ a q k n) q k)]) rfl ?_
                refine lv_ldc2 (own := "MarginHouseModel") (v := 1000000000000000) cx.1 cx.2.1 cx.2.2.2.1 (cx.2.2.2.2.1 _ nw_420) dX5_closeOut_138 ?_
                refine lc_le (tgt := 201) cx.1 cx.2.1 dX5_closeOut_141 dX5_closeOut_142 (by decide) (fun zz => absurd zz hu) (fun h141 => ?_)
                refine lv_iconst (v := 0) cx.1 cx.2.1 dX5_closeOut_145 (by decide) ?_
                refine lv_istore_n (lv' := [(2, .int 0), (0, .ref (ad_ w 20 0)), (1, .int (nI q))]) cx.1 cx.2.1 dX5_closeOut_146 rfl hl (by decide) rfl (fun ls hl => ?_)
                have L147 : ∀ (d i : Nat), i ≤ 8 → 8 - i < d → ∀ (H : Heap) (locs : List Loc) (ls : Array Slot), Hd_ w (er_ (eh_ a q k n) i) H → Fr_ w zs.heap H locs → lv_has ls 5 [(0, .ref (ad_ w 20 0)), (1, .int (nI q)), (2, .int (nI i))] → W zp l ze { frames := 3, cells := 0, slots := 0, locals := 84 } zs zm ([.ref (ad_ w 20 0), .int (nI q)] : List Value).toArray zb zt zc H locs 0 0 (vx_MQ zb (Qc_ w (.inl (some (.long (-1)))) (et_ (eh_ a q k n))) (XC_ w (.inl (some (.long (-1)))) (et_ (eh_ a q k n))) ([.ref (ad_ w 20 0), .int (nI q)] : List Value).toArray zs 0 0 (fun q => lo_ w ≤ q)) (F0 zm 147 ls []) := by
                  intro d
                  induction d with
                  | zero => intro i _ hd; exact absurd hd (Nat.not_lt_zero _)
                  | succ d ih147 =>
                    intro i hi hdi  H locs ls hW hS hl
                    refine lv_iload_n cx.1 cx.2.1 dX5_closeOut_147 rfl (lv_at hl 2 rfl) ?_
                    refine lv_bipush (v := 8) cx.1 cx.2.1 dX5_closeOut_148 (by decide) ?_
                    refine tp_i (y := nI 8) (by decide +kernel) ?_
                    refine lv_icmp_ge (tgt := 171) cx.1 cx.2.1 dX5_closeOut_150 (by decide) (fun h150 => ?_) (fun h150 => ?_)
                    · skip
                      have h150 : 8 ≤ i := (nI_leI (by omega) (by omega)).mp h150
                      have e147 : i = 8 := by omega
                      try rw [e147] at hl
                      try rw [e147] at hW
                      refine lv_iconst (v := 0) cx.1 cx.2.1 dX5_closeOut_171 (by decide) ?_
                      refine lv_istore_n (lv' := [(2, .int 0), (0, .ref (ad_ w 20 0)), (1, .int (nI q))]) cx.1 cx.2.1 dX5_closeOut_172 rfl hl (by decide) rfl (fun ls hl => ?_)
                      have L173 : ∀ (d i : Nat), i ≤ 48 → 48 - i < d → ∀ (H : Heap) (locs : List Loc) (ls : Array Slot), Hd_ w (es_ (er_ (eh_ a q k n) 8) i) H → Fr_ w zs.heap H locs → lv_has ls 5 [(0, .ref (ad_ w 20 0)), (1, .int (nI q)), (2, .int (nI i))] → W zp l ze { frames := 3, cells := 0, slots := 0, locals := 84 } zs zm ([.ref (ad_ w 20 0), .int (nI q)] : List Value).toArray zb zt zc H locs 0 0 (vx_MQ zb (Qc_ w (.inl (some (.long (-1)))) (et_ (eh_ a q k n))) (XC_ w (.inl (some (.long (-1)))) (et_ (eh_ a q k n))) ([.ref (ad_ w 20 0), .int (nI q)] : List Value).toArray zs 0 0 (fun q => lo_ w ≤ q)) (F0 zm 173 ls []) := by
                        intro d
                        induction d with
                        | zero => intro i _ hd; exact absurd hd (Nat.not_lt_zero _)
                        | succ d ih173 =>
                          intro i hi hdi  H locs ls hW hS hl
                          refine lv_iload_n cx.1 cx.2.1 dX5_closeOut_173 rfl (lv_at hl 2 rfl) ?_
                          refine lv_bipush (v := 48) cx.1 cx.2.1 dX5_closeOut_174 (by decide) ?_
                          refine tp_i (y := nI 48) (by decide +kernel) ?_
                          refine lv_icmp_ge (tgt := 197) cx.1 cx.2.1 dX5_closeOut_176 (by decide) (fun h176 => ?_) (fun h176 => ?_)
                          · skip
                            have h176 : 48 ≤ i := (nI_leI (by omega) (by omega)).mp h176
                            have e173 : i = 48 := by omega
                            try rw [e173] at hl
                            try rw [e173] at hW
                            refine lv_ldc2 (own := "MarginHouseModel") (v := -1) cx.1 cx.2.1 cx.2.2.2.1 (cx.2.2.2.2.1 _ nw_422) dX5_closeOut_197 ?_
                            exact cr_l cx hr hlk hW hS (Nat.le_of_ble_eq_true rfl) (Nat.le_of_ble_eq_true rfl) dX5_closeOut_200 rfl rfl
                          · skip
                            have h176 : i < 48 := Nat.not_le.mp (fun q => h176 ((nI_leI (by omega) (by omega)).mpr q))
                            refine lv_aload_n cx.1 cx.2.1 dX5_closeOut_179 rfl (lv_at hl 0 rfl) ?_
                            refine gf_X5_20 cx hW (by decide) dX5_closeOut_180 ?_
                            refine lv_iload_n cx.1 cx.2.1 dX5_closeOut_183 rfl (lv_at hl 2 rfl) ?_
                            refine lv_aload_n cx.1 cx.2.1 dX5_closeOut_184 rfl (lv_at hl 0 rfl) ?_
                            refine gf_X5_47 cx hW (by decide) dX5_closeOut_185 ?_
                            refine lv_iload_n cx.1 cx.2.1 dX5_closeOut_188 rfl (lv_at hl 2 rfl) ?_
                            refine al_33 (j := i) cx hW (by decide) rfl (by omega) dX5_closeOut_189 ?_
                            refine as_24 (j := i) cx hW hS (by decide) rfl (by omega) dX5_closeOut_190 (fun H locs hW hS => ?_)
                            refine lv_iinc (v := nI (i + 1)) (lv' := [(2, .int (nI (i + 1))), (0, .ref (ad_ w 20 0)), (1, .int (nI q))]) cx.1 cx.2.1 dX5_closeOut_191 hl (k := 2) rfl (nI_inc i) (by decide) rfl (fun ls hl => ?_)
                            refine lv_goto (tgt := 173) cx.1 cx.2.1 dX5_closeOut_194 (by decide) ?_
                            exact ih173 (i + 1) (by omega) (by omega)  H locs ls hW hS (lv_sub (l' := [(0, .ref (ad_ w 20 0)), (1, .int (nI q)), (2, .int (nI (i + 1)))]) hl [1, 2, 0] rfl)
                      exact L173 (48 - 0 + 1) 0 (by omega) (by omega)  H locs ls hW hS (lv_sub hl [1, 2, 0] rfl)
                    · skip
                      have h150 : i < 8 := Nat.not_le.mp (fun q => h150 ((nI_leI (by omega) (by omega)).mpr q))
                      refine lv_aload_n cx.1 cx.2.1 dX5_closeOut_153 rfl (lv_at hl 0 rfl) ?_
                      refine gf_X5_7 cx hW (by decide) dX5_closeOut_154 ?_
                      refine lv_iload_n cx.1 cx.2.1 dX5_closeOut_157 rfl (lv_at hl 2 rfl) ?_
                      refine lv_aload_n cx.1 cx.2.1 dX5_closeOut_158 rfl (lv_at hl 0 rfl) ?_
                      refine gf_X5_41 cx hW (by decide) dX5_closeOut_159 ?_
                      refine lv_iload_n cx.1 cx.2.1 dX5_closeOut_162 rfl (lv_at hl 2 rfl) ?_
                      refine al_31 (j := i) cx hW (by decide) rfl (by omega) dX5_closeOut_163 ?_
                      refine as_21 (j := i) cx hW hS (by decide) rfl (by omega) dX5_closeOut_164 (fun H locs hW hS => ?_)
                      refine lv_iinc (v := nI (i + 1)) (lv' := [(2, .int (nI (i + 1))), (0, .ref (ad_ w 20 0)), (1, .int (nI q))]) cx.1 cx.2.1 dX5_closeOut_165 hl (k := 2) rfl (nI_inc i) (by decide) rfl (fun ls hl => ?_)
                      refine lv_goto (tgt := 147) cx.1 cx.2.1 dX5_closeOut_168 (by decide) ?_
                      exact ih147 (i + 1) (by omega) (by omega)  H locs ls hW hS (lv_sub (l' := [(0, .ref (ad_ w 20 0)), (1, .int (nI q)), (2, .int (nI (i + 1)))]) hl [1, 2, 0] rfl)
                exact L147 (8 - 0 + 1) 0 (by omega) (by omega)  H locs ls hW hS (lv_sub hl [1, 2, 0] rfl)
              refine lv_iconst (v := 0) cx.1 cx.2.1 dX5_closeOut_97 (by decide) ?_
              refine lv_istore_n (lv' := [(2, .int 0), (0, .ref (ad_ w 20 0)), (1, .int (nI q))]) cx.1 cx.2.1 dX5_closeOut_98 rfl hl (by decide) rfl (fun ls hl => ?_)
              have L99 : ∀ (d i : Nat), i ≤ n → n - i < d → ∀ (b : St_), eg_ q k (n - i) i b = eh_ a q k n → gi_ b 21 0 0 = nI k → gi_ b 22 0 0 = nI n → ∀ (H : Heap) (locs : List Loc) (ls : Array Slot), Hd_ w b H → Fr_ w zs.heap H locs → lv_has ls 5 [(0, .ref (ad_ w 20 0)), (1, .int (nI q)), (2, .int (nI i))] → W zp l ze { frames := 3, cells := 0, slots := 0, locals := 84 } zs zm ([.ref (ad_ w 20 0), .int (nI q)] : List Value).toArray zb zt zc H locs 0 0 (vx_MQ zb (Qc_ w (.inl (some (.long (-1)))) (et_ (eh_ a q k n))) (XC_ w (.inl (some (.long (-1)))) (et_ (eh_ a q k n))) ([.ref (ad_ w 20 0), .int (nI q)] : List Value).toArray zs 0 0 (fun q => lo_ w ≤ q)) (F0 zm 99 ls []) := by
                intro d
                induction d with
                | zero => intro i _ hd; exact absurd hd (Nat.not_lt_zero _)
                | succ d ih99 =>
                  intro i hi hdi b hF hbk hbn H locs ls hW hS hl
                  refine lv_iload_n cx.1 cx.2.1 dX5_closeOut_99 rfl (lv_at hl 2 rfl) ?_
                  refine lv_aload_n cx.1 cx.2.1 dX5_closeOut_100 rfl (lv_at hl 0 rfl) ?_
                  refine gf_X5_69 cx hW (by decide) dX5_closeOut_101 ?_
                  refine tp_i (y := nI n) hbn ?_
                  refine lv_icmp_ge (tgt := 126) cx.1 cx.2.1 dX5_closeOut_104 (by decide) (fun h104 => ?_) (fun h104 => ?_)
                  · skip
                    have h104 : n ≤ i := (nI_leI (by omega) (by omega)).mp h104
                    have e99 : i = n := by omega
                    try rw [e99] at hl
                    try rw [e99] at hW
                    skip
                    exact J126 H locs ls (by rw [← hF, e99, Nat.sub_self] ; exact hW) hS (lv_sub hl [0, 1] rfl)
                  · skip
                    have h104 : i < n := Nat.not_le.mp (fun q => h104 ((nI_leI (by omega) (by omega)).mpr q))
                    refine lv_aload_n cx.1 cx.2.1 dX5_closeOut_107 rfl (lv_at hl 0 rfl) ?_
                    refine gf_X5_117 cx hW (by decide) dX5_closeOut_108 ?_
                    refine lv_if_ne (tgt := 126) cx.1 cx.2.1 dX5_closeOut_111 (by decide) (fun h111 => ?_) (fun h111 => ?_)
                    · skip
                      skip
                      exact J126 H locs ls (by rw [← hF, eg_s h104 h111]; exact hW) hS (lv_sub hl [0, 1] rfl)
                    · skip
                      refine lv_aload_n cx.1 cx.2.1 dX5_closeOut_114 rfl (lv_at hl 0 rfl) ?_
                      refine lv_iload_n cx.1 cx.2.1 dX5_closeOut_115 rfl (lv_at hl 1 rfl) ?_
                      refine lv_iload_n cx.1 cx.2.1 dX5_closeOut_116 rfl (lv_at hl 2 rfl) ?_
                      refine ck_V (v := none) (As := [.int (nI q), .int (nI i)]) (rest := []) (k := 20) (i := 0) (T := TX5) cx hW hS hl (by decide) rfl rfl (c_X5_give l hI b k (by assumption) hk8 q i (by omega) (by omega)) cw_X5_give nw_480 nw_545 nw_479 rfl rfl (Nat.le_of_ble_eq_true rfl) rfl rfl ⟨Nat.le_of_ble_eq_true rfl, Nat.le_of_ble_eq_true rfl⟩ ⟨Nat.le_of_ble_eq_true rfl, Nat.le_of_ble_eq_true rfl⟩ dX5_closeOut_117 (fun H locs hW hS => ?_)
                      refine W.eq (g2 := F0 zm 120 ls []) rfl ?_
                      refine lv_iinc (v := nI (i + 1)) (lv' := [(2, .int (nI (i + 1))), (0, .ref (ad_ w 20 0)), (1, .int (nI q))]) cx.1 cx.2.1 dX5_closeOut_120 hl (k := 2) rfl (nI_inc i) (by decide) rfl (fun ls hl => ?_)
                      refine lv_goto (tgt := 99) cx.1 cx.2.1 dX5_closeOut_123 (by decide) ?_
                      exact ih99 (i + 1) (by omega) (by omega) (ge_ b q k i) (by rw [← hF]; exact (eg_g h104 h111).symm) (by rw [ge_gi _ _ _ _ _ _ _ (by decide) (by decide)]; exact hbk) (by rw [ge_gi _ _ _ _ _ _ _ (by decide) (by decide)]; exact hbn) H locs ls hW hS (lv_sub (l' := [(0, .ref (ad_ w 20 0)), (1, .int (nI q)), (2, .int (nI (i + 1)))]) hl [1, 2, 0] rfl)
              exact L99 (n - 0 + 1) 0 (by omega) (by omega) (ec_ a) rfl (by rw [ec_gi _ _ _ _ (by decide) (by decide) (by decide)]; exact hk) (by rw [ec_gi _ _ _ _ (by decide) (by decide) (by decide)]; exact hn) H locs ls hW hS (lv_sub hl [1, 2, 0] rfl)
            · skip
              have h71 : i < 48 := Nat.not_le.mp (fun q => h71 ((nI_leI (by omega) (by omega)).mpr q))
              refine lv_aload_n cx.1 cx.2.1 dX5_closeOut_74 rfl (lv_at hl 0 rfl) ?_
              refine gf_X5_47 cx hW (by decide) dX5_closeOut_75 ?_
              refine lv_iload_n cx.1 cx.2.1 dX5_closeOut_78 rfl (lv_at hl 2 rfl) ?_
              refine lv_aload_n cx.1 cx.2.1 dX5_closeOut_79 rfl (lv_at hl 0 rfl) ?_
              refine gf_X5_20 cx hW (by decide) dX5_closeOut_80 ?_
              refine lv_iload_n cx.1 cx.2.1 dX5_closeOut_83 rfl (lv_at hl 2 rfl) ?_
              refine al_24 (j := i) cx hW (by decide) rfl (by omega) dX5_closeOut_84 ?_
              refine as_33 (j := i) cx hW hS (by decide) rfl (by omega) dX5_closeOut_85 (fun H locs hW hS => ?_)
              refine lv_iinc (v := nI (i + 1)) (lv' := [(2, .int (nI (i + 1))), (0, .ref (ad_ w 20 0)), (1, .int (nI q))]) cx.1 cx.2.1 dX5_closeOut_86 hl (k := 2) rfl (nI_inc i) (by decide) rfl (fun ls hl => ?_)
              refine lv_goto (tgt := 68) cx.1 cx.2.1 dX5_closeOut_89 (by decide) ?_
              exact ih68 (i + 1) (by omega) (by omega)  H locs ls hW hS (lv_sub (l' := [(0, .ref (ad_ w 20 0)), (1, .int (nI q)), (2, .int (nI (i + 1)))]) hl [1, 2, 0] rfl)
        exact L68 (48 - 0 + 1) 0 (by omega) (by omega)  H locs ls hW hS (lv_sub hl [1, 2, 0] rfl)
      · skip
        have h45 : i < 8 := Nat.not_le.mp (fun q => h45 ((nI_leI (by omega) (by omega)).mpr q))
        refine lv_aload_n cx.1 cx.2.1 dX5_closeOut_48 rfl (lv_at hl 0 rfl) ?_
        refine gf_X5_41 cx hW (by decide) dX5_closeOut_49 ?_
        refine lv_iload_n cx.1 cx.2.1 dX5_closeOut_52 rfl (lv_at hl 2 rfl) ?_
        refine lv_aload_n cx.1 cx.2.1 dX5_closeOut_53 rfl (lv_at hl 0 rfl) ?_
        refine gf_X5_7 cx hW (by decide) dX5_closeOut_54 ?_
        refine lv_iload_n cx.1 cx.2.1 dX5_closeOut_57 rfl (lv_at hl 2 rfl) ?_
        refine al_21 (j := i) cx hW (by decide) rfl (by omega) dX5_closeOut_58 ?_
        refine as_31 (j := i) cx hW hS (by decide) rfl (by omega) dX5_closeOut_59 (fun H locs hW hS => ?_)
        refine lv_iinc (v := nI (i + 1)) (lv' := [(2, .int (nI (i + 1))), (0, .ref (ad_ w 20 0)), (1, .int (nI q))]) cx.1 cx.2.1 dX5_closeOut_60 hl (k := 2) rfl (nI_inc i) (by decide) rfl (fun ls hl => ?_)
        refine lv_goto (tgt := 42) cx.1 cx.2.1 dX5_closeOut_63 (by decide) ?_
        exact ih42 (i + 1) (by omega) (by omega)  H locs ls hW hS (lv_sub (l' := [(0, .ref (ad_ w 20 0)), (1, .int (nI q)), (2, .int (nI (i + 1)))]) hl [1, 2, 0] rfl)
  exact L42 (8 - 0 + 1) 0 (by omega) (by omega)  H locs ls hW hS (lv_sub hl [1, 2, 0] rfl)
set_option maxHeartbeats 4000000 in
set_option maxRecDepth 100000 in
theorem c_X5_closeOut_ok (l : Launch) {w : Gh_} (hI : In_ w) (a : St_) (k : Nat) (hk : gi_ a 21 0 0 = nI k) (hk8 : k ≤ 8) (n : Nat) (hn : gi_ a 22 0 0 = nI n) (hn6 : n ≤ 6) (q : Nat) (hq0 : q < k) (hs : gi_ a 23 0 q = 1) (hb0 : gi_ (eh_ a q k n) 31 0 0 = 0) (hu : uc_ (eh_ a q k n) q k ≤ 1000000000000000) (hc1 : hc_ (p2_ (eh_ a q k n) q k) (x2_ (eh_ a q k n) q)) (hc2 : hc_ (p5_ (eh_ a q k n) q k) (x3_ (eh_ a q k n) q k)) : Fn_ l w yX5_closeOut (.code yX5_closeOut cX5_closeOut 5 (some .long)) { frames := 3, cells := 0, slots := 0, locals := 84 } 0 0 [.ref (ad_ w 20 0), .int (nI q)] a (.inl (some (.long (x4_ (eh_ a q k n) q k)))) (ey_ (eh_ a q k n) q k) := by
  refine Fn_of hI (by decide +kernel) (Nat.le_of_ble_eq_true rfl) ?_
  intro zp ze zs zm zb zt zc ls cx hr hlk hno hW hS hl
  replace cx : Cx_ zp zs zm zc _ cX5_closeOut 5 "MarginHouseModel" w := cx
  replace hl : lv_has ls 5 [(0, .ref (ad_ w 20 0)), (1, .int (nI q))] := hl
  obtain ⟨H, hH⟩ : ∃ H, zs.heap = H := ⟨_, rfl⟩
  rw [hH] at hW
  have hS : Fr_ w zs.heap H [] := by rw [← hH]; exact hS
  obtain ⟨locs, hlocs⟩ : ∃ x : List Loc, x = [] := ⟨_, rfl⟩
  rw [← hlocs] at hS ⊢
  rw [show W zp l ze _ zs zm _ zb zt zc zs.heap locs 0 0 _ (F0 zm 0 ls []) ↔ W zp l ze _ zs zm _ zb zt zc H locs 0 0 _ (F0 zm 0 ls []) from by rw [hH]]
  refine lv_aload_n cx.1 cx.2.1 dX5_closeOut_0 rfl (lv_at hl 0 rfl) ?_
  refine lv_aload_n cx.1 cx.2.1 dX5_closeOut_1 rfl (lv_at hl 0 rfl) ?_
  refine lv_iload_n cx.1 cx.2.1 dX5_closeOut_2 rfl (lv_at hl 1 rfl) ?_
  refine ck_V (v := some (.int (if jm_ (nI q) (gi_ a 21 0 0) then 1 else 0))) (As := [.int (nI q)]) (rest := [.ref (ad_ w 20 0)]) (k := 20) (i := 0) (T := TX5) cx hW hS hl (by decide) rfl rfl (c_X5_isMember l hI a (nI q)) cw_X5_isMember nw_436 nw_542 nw_435 rfl rfl (Nat.le_of_ble_eq_true rfl) rfl rfl ⟨Nat.le_of_ble_eq_true rfl, Nat.le_of_ble_eq_true rfl⟩ ⟨Nat.le_of_ble_eq_true rfl, Nat.le_of_ble_eq_true rfl⟩ dX5_closeOut_3 (fun H locs hW hS => ?_)
  refine W.eq (g2 := F0 zm 6 ls [.int (if jm_ (nI q) (gi_ a 21 0 0) then 1 else 0), .ref (ad_ w 20 0)]) rfl ?_
  refine lv_if_ne (tgt := 13) cx.1 cx.2.1 dX5_closeOut_6 (by decide) (fun h6 => ?_) (fun zz => absurd zz (bz_t (jm_in hk (by omega) hq0)))
  refine lv_aload_n cx.1 cx.2.1 dX5_closeOut_13 rfl (lv_at hl 0 rfl) ?_
  refine gf_X5_16 cx hW (by decide) dX5_closeOut_14 ?_
  refine lv_iload_n cx.1 cx.2.1 dX5_closeOut_17 rfl (lv_at hl 1 rfl) ?_
  refine al_23 (j := q) cx hW (by decide) rfl (by omega) dX5_closeOut_18 ?_
  refine lv_iconst (v := 1) cx.1 cx.2.1 dX5_closeOut_19 (by decide) ?_
  refine lv_icmp_eq (tgt := 27) cx.1 cx.2.1 dX5_closeOut_20 (by decide) (fun h20 => ?_) (fun zz => absurd hs zz)
  refine lv_iconst (v := 0) cx.1 cx.2.1 dX5_closeOut_27 (by decide) ?_
  refine pf_X5_62 cx hW hS (by decide) dX5_closeOut_28 (fun H locs hW hS => ?_)
  replace hW : Hd_ w (th_ a 0) H := hW
  refine lv_aload_n cx.1 cx.2.1 dX5_closeOut_31 rfl (lv_at hl 0 rfl) ?_
  refine gf_X5_62 cx hW (by decide) dX5_closeOut_32 ?_
  refine tp_i (y := 0) (th_20 a _) ?_
  refine lv_if_le (tgt := 40) cx.1 cx.2.1 dX5_closeOut_35 (by decide) (fun h35 => ?_) (fun zz => absurd (by decide) zz)
  refine lv_iconst (v := 0) cx.1 cx.2.1 dX5_closeOut_40 (by decide) ?_
  refine lv_istore_n (lv' := [(2, .int 0), (0, .ref (ad_ w 20 0)), (1, .int (nI q))]) cx.1 cx.2.1 dX5_closeOut_41 rfl hl (by decide) rfl (fun ls hl => ?_)
  have L42 : ∀ (d i : Nat), i ≤ 8 → 8 - i < d → ∀ (H : Heap) (locs : List Loc) (ls : Array Slot), Hd_ w (ea_ (th_ a 0) i) H → Fr_ w zs.heap H locs → lv_has ls 5 [(0, .ref (ad_ w 20 0)), (1, .int (nI q)), (2, .int (nI i))] → W zp l ze { frames := 3, cells := 0, slots := 0, locals := 84 } zs zm ([.ref (ad_ w 20 0), .int (nI q)] : List Value).toArray zb zt zc H locs 0 0 (vx_MQ zb (Qc_ w (.inl (some (.long (x4_ (eh_ a q k n) q k)))) (ey_ (eh_ a q k n) q k)) (XC_ w (.inl (some (.long (x4_ (eh_ a q k n) q k)))) (ey_ (eh_ a q k n) q k)) ([.ref (ad_ w 20 0), .int (nI q)] : List Value).toArray zs 0 0 (fun q => lo_ w ≤ q)) (F0 zm 42 ls []) := by
    intro d
    induction d with
    | zero => intro i _ hd; exact absurd hd (Nat.not_lt_zero _)
    | succ d ih42 =>
      intro i hi hdi  H locs ls hW hS hl
      refine lv_iload_n cx.1 cx.2.1 dX5_closeOut_42 rfl (lv_at hl 2 rfl) ?_
      refine lv_bipush (v := 8) cx.1 cx.2.1 dX5_closeOut_43 (by decide) ?_
      refine tp_i (y := nI 8) (by decide +kernel) ?_
      refine lv_icmp_ge (tgt := 66) cx.1 cx.2.1 dX5_closeOut_45 (by decide) (fun h45 => ?_) (fun h45 => ?_)
      · skip
        have h45 : 8 ≤ i := (nI_leI (by omega) (by omega)).mp h45
        have e42 : i = 8 := by omega
        try rw [e42] at hl
        try rw [e42] at hW
        refine lv_iconst (v := 0) cx.1 cx.2.1 dX5_closeOut_66 (by decide) ?_
        refine lv_istore_n (lv' := [(2, .int 0), (0, .ref (ad_ w 20 0)), (1, .int (nI q))]) cx.1 cx.2.1 dX5_closeOut_67 rfl hl (by decide) rfl (fun ls hl => ?_)
        have L68 : ∀ (d i : Nat), i ≤ 48 → 48 - i < d → ∀ (H : Heap) (locs : List Loc) (ls : Array Slot), Hd_ w (eb_ (ea_ (th_ a 0) 8) i) H → Fr_ w zs.heap H locs → lv_has ls 5 [(0, .ref (ad_ w 20 0)), (1, .int (nI q)), (2, .int (nI i))] → W zp l ze { frames := 3, cells := 0, slots := 0, locals := 84 } zs zm ([.ref (ad_ w 20 0), .int (nI q)] : List Value).toArray zb zt zc H locs 0 0 (vx_MQ zb (Qc_ w (.inl (some (.long (x4_ (eh_ a q k n) q k)))) (ey_ (eh_ a q k n) q k)) (XC_ w (.inl (some (.long (x4_ (eh_ a q k n) q k)))) (ey_ (eh_ a q k n) q k)) ([.ref (ad_ w 20 0), .int (nI q)] : List Value).toArray zs 0 0 (fun q => lo_ w ≤ q)) (F0 zm 68 ls []) := by
          intro d
          induction d with
          | zero => intro i _ hd; exact absurd hd (Nat.not_lt_zero _)
          | succ d ih68 =>
            intro i hi hdi  H locs ls hW hS hl
            refine lv_iload_n cx.1 cx.2.1 dX5_closeOut_68 rfl (lv_at hl 2 rfl) ?_
            refine lv_bipush (v := 48) cx.1 cx.2.1 dX5_closeOut_69 (by decide) ?_
            refine tp_i (y := nI 48) (by decide +kernel) ?_
            refine lv_icmp_ge (tgt := 92) cx.1 cx.2.1 dX5_closeOut_71 (by decide) (fun h71 => ?_) (fun h71 => ?_)
            · skip
              have h71 : 48 ≤ i := (nI_leI (by omega) (by omega)).mp h71
              have e68 : i = 48 := by omega
              try rw [e68] at hl
              try rw [e68] at hW
              refine lv_aload_n cx.1 cx.2.1 dX5_closeOut_92 rfl (lv_at hl 0 rfl) ?_
              refine lv_iconst (v := 0) cx.1 cx.2.1 dX5_closeOut_93 (by decide) ?_
              refine pf_X5_117 cx hW hS (by decide) (Or.inl rfl) dX5_closeOut_94 (fun H locs hW hS => ?_)
              replace hW : Hd_ w (ec_ a) H := hW
              have J126 : ∀ (H : Heap) (locs : List Loc) (ls : Array Slot), Hd_ w (eh_ a q k n) H → Fr_ w zs.heap H locs → lv_has ls 5 [(0, .ref (ad_ w 20 0)), (1, .int (nI q))] → W zp l ze { frames := 3, cells := 0, slots := 0, locals := 84 } zs zm ([.ref (ad_ w 20 0), .int (nI q)] : List Value).toArray zb zt zc H locs 0 0 (vx_MQ zb (Qc_ w (.inl (some (.long (x4_ (eh_ a q k n) q k)))) (ey_ (eh_ a q k n) q k)) (XC_ w (.inl (some (.long (x4_ (eh_ a q k n) q k)))) (ey_ (eh_ a q k n) q k)) ([.ref (ad_ w 20 0), .int (nI q)] : List Value).toArray zs 0 0 (fun q => lo_ w ≤ q)) (F0 zm 126 ls []) := by
                intro H locs ls hW hS hl
                refine lv_aload_n cx.1 cx.2.1 dX5_closeOut_126 rfl (lv_at hl 0 rfl) ?_
                refine gf_X5_117 cx hW (by decide) dX5_closeOut_127 ?_
                refine lv_if_ne (tgt := 145) cx.1 cx.2.1 dX5_closeOut_130 (by decide) (fun zz => absurd hb0 zz) (fun h130 => ?_)
                refine lv_aload_n cx.1 cx.2.1 dX5_closeOut_133 rfl (lv_at hl 0 rfl) ?_
                refine lv_iload_n cx.1 cx.2.1 dX5_closeOut_134 rfl (lv_at hl 1 rfl) ?_
                refine ck_V (v := some (.long (uc_ (eh_ a q k n) q k))) (As := [.int (nI q)]) (rest := []) (k := 20) (i := 0) (T := TX5) cx hW hS hl (by decide) rfl rfl (c_X5_wouldLose l hI (eh_ a q k n) k (by rw [eh_gi _ _ _ _ _ _ _ (by decide) (by decide) (by decide) (by decide)]; exact hk) hk8 q (by omega)) cw_X5_wouldLose nw_489 nw_548 nw_488 rfl rfl (Nat.le_of_ble_eq_true rfl) rfl rfl ⟨Nat.le_of_ble_eq_true rfl, Nat.le_of_ble_eq_true rfl⟩ ⟨Nat.le_of_ble_eq_true rfl, Nat.le_of_ble_eq_true rfl⟩ dX5_closeOut_135 (fun H locs hW hS => ?_)
                refine W.eq (g2 := F0 zm 138 ls [.long (uc_ (eh_ a q k n) q k)]) rfl ?_
                refine lv_ldc2 (own := "MarginHouseModel") (v := 1000000000000000) cx.1 cx.2.1 cx.2.2.2.1 (cx.2.2.2.2.1 _ nw_420) dX5_closeOut_138 ?_
                refine lc_le (tgt := 201) cx.1 cx.2.1 dX5_closeOut_141 dX5_closeOut_142 (by decide) (fun h141 => ?_) (fun zz => absurd hu zz)
                refine lv_aload_n cx.1 cx.2.1 dX5_closeOut_201 rfl (lv_at hl 0 rfl) ?_
                refine lv_iload_n cx.1 cx.2.1 dX5_closeOut_202 rfl (lv_at hl 1 rfl) ?_
                refine ck_V (v := some (.long (x4_ (eh_ a q k n) q k))) (As := [.int (nI q)]) (rest := []) (k := 20) (i := 0) (T := TX5) cx hW hS hl (by decide) rfl rfl (c_X5_bear l hI (eh_ a q k n) k (by rw [eh_gi _ _ _ _ _ _ _ (by decide) (by decide) (by decide) (by decide)]; exact hk) hk8 q (by omega) hc1 hc2) cw_X5_bear nw_492 nw_549 nw_491 rfl rfl (Nat.le_of_ble_eq_true rfl) rfl rfl ⟨Nat.le_of_ble_eq_true rfl, Nat.le_of_ble_eq_true rfl⟩ ⟨Nat.le_of_ble_eq_true rfl, Nat.le_of_ble_eq_true rfl⟩ dX5_closeOut_203 (fun H locs hW hS => ?_)
                refine W.eq (g2 := F0 zm 206 ls [.long (x4_ (eh_ a q k n) q k)]) rfl ?_
                refine lv_lstore_n (lv' := [(2, .long (x4_ (eh_ a q k n) q k)), (0, .ref (ad_ w 20 0)), (1, .int (nI q))]) cx.1 cx.2.1 dX5_closeOut_206 rfl hl (by decide) rfl (fun ls hl => ?_)
                refine lv_aload_n cx.1 cx.2.1 dX5_closeOut_207 rfl (lv_at hl 1 rfl) ?_
                refine lv_aload_n cx.1 cx.2.1 dX5_closeOut_208 rfl (lv_at hl 1 rfl) ?_
                refine gf_X5_84 cx hW (by decide) dX5_closeOut_209 ?_
                refine lv_aload_n cx.1 cx.2.1 dX5_closeOut_212 rfl (lv_at hl 1 rfl) ?_
                refine gf_X5_50 cx hW (by decide) dX5_closeOut_213 ?_
                refine lv_iconst (v := 1) cx.1 cx.2.1 dX5_closeOut_216 (by decide) ?_
                refine al_34 (j := 1) cx hW (by decide) (by decide +kernel) (by decide) dX5_closeOut_217 ?_
                refine lv_lsub cx.1 cx.2.1 dX5_closeOut_218 ?_
                refine pf_X5_84 cx hW hS (by decide) dX5_closeOut_219 (fun H locs hW hS => ?_)
                replace hW : Hd_ w (eu_ (eh_ a q k n) q k) H := hW
                refine lv_aload_n cx.1 cx.2.1 dX5_closeOut_222 rfl (lv_at hl 1 rfl) ?_
                refine lv_aload_n cx.1 cx.2.1 dX5_closeOut_223 rfl (lv_at hl 1 rfl) ?_
                refine gf_X5_149 cx hW (by decide) dX5_closeOut_224 ?_
                refine lv_lload_n cx.1 cx.2.1 dX5_closeOut_227 rfl (lv_at hl 0 rfl) ?_
                refine lv_ladd cx.1 cx.2.1 dX5_closeOut_228 ?_
                refine pf_X5_149 cx hW hS (by decide) dX5_closeOut_229 (fun H locs hW hS => ?_)
                refine lv_aload_n cx.1 cx.2.1 dX5_closeOut_232 rfl (lv_at hl 1 rfl) ?_
                refine gf_X5_16 cx hW (by decide) dX5_closeOut_233 ?_
                refine lv_iload_n cx.1 cx.2.1 dX5_closeOut_236 rfl (lv_at hl 2 rfl) ?_
                refine lv_iconst (v := 2) cx.1 cx.2.1 dX5_closeOut_237 (by decide) ?_
                refine as_23 (j := q) cx hW hS (by decide) rfl (by omega) dX5_closeOut_238 (fun H locs hW hS => ?_)
                replace hW : Hd_ w (ew_ (eh_ a q k n) q k) H := hW
                refine lv_iconst (v := 0) cx.1 cx.2.1 dX5_closeOut_239 (by decide) ?_
                refine lv_istore (lv' := [(4, .int 0), (2, .long (x4_ (eh_ a q k n) q k)), (0, .ref (ad_ w 20 0)), (1, .int (nI q))]) cx.1 cx.2.1 dX5_closeOut_240 hl (by decide) rfl (fun ls hl => ?_)
                have L242 : ∀ (d i : Nat), i ≤ 5 → 5 - i < d → ∀ (H : Heap) (locs : List Loc) (ls : Array Slot), Hd_ w (ex_ (ew_ (eh_ a q k n) q k) i) H → Fr_ w zs.heap H locs → lv_has ls 5 [(0, .ref (ad_ w 20 0)), (1, .int (nI q)), (2, .long (x4_ (eh_ a q k n) q k)), (4, .int (nI i))] → W zp l ze { frames := 3, cells := 0, slots := 0, locals := 84 } zs zm ([.ref (ad_ w 20 0), .int (nI q)] : List Value).toArray zb zt zc H locs 0 0 (vx_MQ zb (Qc_ w (.inl (some (.long (x4_ (eh_ a q k n) q k)))) (ey_ (eh_ a q k n) q k)) (XC_ w (.inl (some (.long (x4_ (eh_ a q k n) q k)))) (ey_ (eh_ a q k n) q k)) ([.ref (ad_ w 20 0), .int (nI q)] : List Value).toArray zs 0 0 (fun q => lo_ w ≤ q)) (F0 zm 242 ls []) := by
                  intro d
                  induction d with
                  | zero => intro i _ hd; exact absurd hd (Nat.not_lt_zero _)
                  | succ d ih242 =>
                    intro i hi hdi  H locs ls hW hS hl
                    refine lv_iload cx.1 cx.2.1 dX5_closeOut_242 (lv_at hl 3 rfl) ?_
                    refine lv_iconst (v := 5) cx.1 cx.2.1 dX5_closeOut_244 (by decide) ?_
                    refine tp_i (y := nI 5) (by decide +kernel) ?_
                    refine lv_icmp_ge (tgt := 268) cx.1 cx.2.1 dX5_closeOut_245 (by decide) (fun h245 => ?_) (fun h245 => ?_)
                    · skip
                      have h245 : 5 ≤ i := (nI_leI (by omega) (by omega)).mp h245
                      have e242 : i = 5 := by omega
                      try rw [e242] at hl
                      try rw [e242] at hW
                      refine lv_lload_n cx.1 cx.2.1 dX5_closeOut_268 rfl (lv_at hl 2 rfl) ?_
                      exact cr_l cx hr hlk hW hS (Nat.le_of_ble_eq_true rfl) (Nat.le_of_ble_eq_true rfl) dX5_closeOut_269 rfl rfl
                    · skip
                      have h245 : i < 5 := Nat.not_le.mp (fun q => h245 ((nI_leI (by omega) (by omega)).mpr q))
                      refine lv_aload_n cx.1 cx.2.1 dX5_closeOut_248 rfl (lv_at hl 0 rfl) ?_
                      refine gf_X5_38 cx hW (by decide) dX5_closeOut_249 ?_
                      refine lv_iload cx.1 cx.2.1 dX5_closeOut_252 (lv_at hl 3 rfl) ?_
                      refine lv_aload_n cx.1 cx.2.1 dX5_closeOut_254 rfl (lv_at hl 0 rfl) ?_
                      refine gf_X5_50 cx hW (by decide) dX5_closeOut_255 ?_
                      refine lv_iload cx.1 cx.2.1 dX5_closeOut_258 (lv_at hl 3 rfl) ?_
                      refine al_34 (j := i) cx hW (by decide) rfl (by omega) dX5_closeOut_260 ?_
                      refine as_30 (j := i) cx hW hS (by decide) rfl (by omega) dX5_closeOut_261 (fun H locs hW hS => ?_)
                      refine lv_iinc (v := nI (i + 1)) (lv' := [(4, .int (nI (i + 1))), (0, .ref (ad_ w 20 0)), (1, .int (nI q)), (2, .long (x4_ (eh_ a q k n) q k))]) cx.1 cx.2.1 dX5_closeOut_262 hl (k := 3) rfl (nI_inc i) (by decide) rfl (fun ls hl => ?_)
                      refine lv_goto (tgt := 242) cx.1 cx.2.1 dX5_closeOut_265 (by decide) ?_
                      exact ih242 (i + 1) (by omega) (by omega)  H locs ls hW hS (lv_sub (l' := [(0, .ref (ad_ w 20 0)), (1, .int (nI q)), (2, .long (x4_ (eh_ a q k n) q k)), (4, .int (nI (i + 1)))]) hl [1, 2, 3, 0] rfl)
                exact L242 (5 - 0 + 1) 0 (by omega) (by omega)  H locs ls hW hS (lv_sub hl [2, 3, 1, 0] rfl)
              refine lv_iconst (v := 0) cx.1 cx.2.1 dX5_closeOut_97 (by decide) ?_
              refine lv_istore_n (lv' := [(2, .int 0), (0, .ref (ad_ w 20 0)), (1, .int (nI q))]) cx.1 cx.2.1 dX5_closeOut_98 rfl hl (by decide) rfl (fun ls hl => ?_)
              have L99 : ∀ (d i : Nat), i ≤ n → n - i < d → ∀ (b : St_), eg_ q k (n - i) i b = eh_ a q k n → gi_ b 21 0 0 = nI k → gi_ b 22 0 0 = nI n → ∀ (H : Heap) (locs : List Loc) (ls : Array Slot), Hd_ w b H → Fr_ w zs.heap H locs → lv_has ls 5 [(0, .ref (ad_ w 20 0)), (1, .int (nI q)), (2, .int (nI i))] → W zp l ze { frames := 3, cells := 0, slots := 0, locals := 84 } zs zm ([.ref (ad_ w 20 0), .int (nI q)] : List Value).toArray zb zt zc H locs 0 0 (vx_MQ zb (Qc_ w (.inl (some (.long (x4_ (eh_ a q k n) q k)))) (ey_ (eh_ a q k n) q k)) (XC_ w (.inl (some (.long (x4_ (eh_ a q k n) q k)))) (ey_ (eh_ a q k n) q k)) ([.ref (ad_ w 20 0), .int (nI q)] : List Value).toArray zs 0 0 (fun q => lo_ w ≤ q)) (F0 zm 99 ls []) := by
                intro d
                induction d with
                | zero => intro i _ hd; exact absurd hd (Nat.not_lt_zero _)
                | succ d ih99 =>
                  intro i hi hdi b hF hbk hbn H locs ls hW hS hl
                  refine lv_iload_n cx.1 cx.2.1 dX5_closeOut_99 rfl (lv_at hl 2 rfl) ?_
                  refine lv_aload_n cx.1 cx.2.1 dX5_closeOut_100 rfl (lv_at hl 0 rfl) ?_
                  refine gf_X5_69 cx hW (by decide) dX5_closeOut_101 ?_
                  refine tp_i (y := nI n) hbn ?_
                  refine lv_icmp_ge (tgt := 126) cx.1 cx.2.1 dX5_closeOut_104 (by decide) (fun h104 => ?_) (fun h104 => ?_)
                  · skip
                    have h104 : n ≤ i := (nI_leI (by omega) (by omega)).mp h104
                    have e99 : i = n := by omega
                    try rw [e99] at hl
                    try rw [e99] at hW
                    skip
                    exact J126 H locs ls (by rw [← hF, e99, Nat.sub_self] ; exact hW) hS (lv_sub hl [0, 1] rfl)
                  · skip
                    have h104 : i < n := Nat.not_le.mp (fun q => h104 ((nI_leI (by omega) (by omega)).mpr q))
                    refine lv_aload_n cx.1 cx.2.1 dX5_closeOut_107 rfl (lv_at hl 0 rfl) ?_
                    refine gf_X5_117 cx hW (by decide) dX5_closeOut_108 ?_
                    refine lv_if_ne (tgt := 126) cx.1 cx.2.1 dX5_closeOut_111 (by decide) (fun h111 => ?_) (fun h111 => ?_)
                    · skip
                      skip
                      exact J126 H locs ls (by rw [← hF, eg_s h104 h111]; exact hW) hS (lv_sub hl [0, 1] rfl)
                    · skip
                      refine lv_aload_n cx.1 cx.2.1 dX5_closeOut_114 rfl (lv_at hl 0 rfl) ?_
                      refine lv_iload_n cx.1 cx.2.1 dX5_closeOut_115 rfl (lv_at hl 1 rfl) ?_
                      refine lv_iload_n cx.1 cx.2.1 dX5_closeOut_116 rfl (lv_at hl 2 rfl) ?_
                      refine ck_V (v := none) (As := [.int (nI q), .int (nI i)]) (rest := []) (k := 20) (i := 0) (T := TX5) cx hW hS hl (by decide) rfl rfl (c_X5_give l hI b k (by assumption) hk8 q i (by omega) (by omega)) cw_X5_give nw_480 nw_545 nw_479 rfl rfl (Nat.le_of_ble_eq_true rfl) rfl rfl ⟨Nat.le_of_ble_eq_true rfl, Nat.le_of_ble_eq_true rfl⟩ ⟨Nat.le_of_ble_eq_true rfl, Nat.le_of_ble_eq_true rfl⟩ dX5_closeOut_117 (fun H locs hW hS => ?_)
                      refine W.eq (g2 := F0 zm 120 ls []) rfl ?_
                      refine lv_iinc (v := nI (i + 1)) (lv' := [(2, .int (nI (i + 1))), (0, .ref (ad_ w 20 0)), (1, .int (nI q))]) cx.1 cx.2.1 dX5_closeOut_120 hl (k := 2) rfl (nI_inc i) (by decide) rfl (fun ls hl => ?_)
                      refine lv_goto (tgt := 99) cx.1 cx.2.1 dX5_closeOut_123 (by decide) ?_
                      exact ih99 (i + 1) (by omega) (by omega) (ge_ b q k i) (by rw [← hF]; exact (eg_g h104 h111).symm) (by rw [ge_gi _ _ _ _ _ _ _ (by decide) (by decide)]; exact hbk) (by rw [ge_gi _ _ _ _ _ _ _ (by decide) (by decide)]; exact hbn) H locs ls hW hS (lv_sub (l' := [(0, .ref (ad_ w 20 0)), (1, .int (nI q)), (2, .int (nI (i + 1)))]) hl [1, 2, 0] rfl)
              exact L99 (n - 0 + 1) 0 (by omega) (by omega) (ec_ a) rfl (by rw [ec_gi _ _ _ _ (by decide) (by decide) (by decide)]; exact hk) (by rw [ec_gi _ _ _ _ (by decide) (by decide) (by decide)]; exact hn) H locs ls hW hS (lv_sub hl [1, 2, 0] rfl)
            · skip
              have h71 : i < 48 := Nat.not_le.mp (fun q => h71 ((nI_leI (by omega) (by omega)).mpr q))
              refine lv_aload_n cx.1 cx.2.1 dX5_closeOut_74 rfl (lv_at hl 0 rfl) ?_
              refine gf_X5_47 cx hW (by decide) dX5_closeOut_75 ?_
              refine lv_iload_n cx.1 cx.2.1 dX5_closeOut_78 rfl (lv_at hl 2 rfl) ?_
              refine lv_aload_n cx.1 cx.2.1 dX5_closeOut_79 rfl (lv_at hl 0 rfl) ?_
              refine gf_X5_20 cx hW (by decide) dX5_closeOut_80 ?_
              refine lv_iload_n cx.1 cx.2.1 dX5_closeOut_83 rfl (lv_at hl 2 rfl) ?_
              refine al_24 (j := i) cx hW (by decide) rfl (by omega) dX5_closeOut_84 ?_
              refine as_33 (j := i) cx hW hS (by decide) rfl (by omega) dX5_closeOut_85 (fun H locs hW hS => ?_)
              refine lv_iinc (v := nI (i + 1)) (lv' := [(2, .int (nI (i + 1))), (0, .ref (ad_ w 20 0)), (1, .int (nI q))]) cx.1 cx.2.1 dX5_closeOut_86 hl (k := 2) rfl (nI_inc i) (by decide) rfl (fun ls hl => ?_)
              refine lv_goto (tgt := 68) cx.1 cx.2.1 dX5_closeOut_89 (by decide) ?_
              exact ih68 (i + 1) (by omega) (by omega)  H locs ls hW hS (lv_sub (l' := [(0, .ref (ad_ w 20 0)), (1, .int (nI q)), (2, .int (nI (i + 1)))]) hl [1, 2, 0] rfl)
        exact L68 (48 - 0 + 1) 0 (by omega) (by omega)  H locs ls hW hS (lv_sub hl [1, 2, 0] rfl)
      · skip
        have h45 : i < 8 := Nat.not_le.mp (fun q => h45 ((nI_leI (by omega) (by omega)).mpr q))
        refine lv_aload_n cx.1 cx.2.1 dX5_closeOut_48 rfl (lv_at hl 0 rfl) ?_
        refine gf_X5_41 cx hW (by decide) dX5_closeOut_49 ?_
        refine lv_iload_n cx.1 cx.2.1 dX5_closeOut_52 rfl (lv_at hl 2 rfl) ?_
        refine lv_aload_n cx.1 cx.2.1 dX5_closeOut_53 rfl (lv_at hl 0 rfl) ?_
        refine gf_X5_7 cx hW (by decide) dX5_closeOut_54 ?_
        refine lv_iload_n cx.1 cx.2.1 dX5_closeOut_57 rfl (lv_at hl 2 rfl) ?_
        refine al_21 (j := i) cx hW (by decide) rfl (by omega) dX5_closeOut_58 ?_
        refine as_31 (j := i) cx hW hS (by decide) rfl (by omega) dX5_closeOut_59 (fun H locs hW hS => ?_)
        refine lv_iinc (v := nI (i + 1)) (lv' := [(2, .int (nI (i + 1))), (0, .ref (ad_ w 20 0)), (1, .int (nI q))]) cx.1 cx.2.1 dX5_closeOut_60 hl (k := 2) rfl (nI_inc i) (by decide) rfl (fun ls hl => ?_)
        refine lv_goto (tgt := 42) cx.1 cx.2.1 dX5_closeOut_63 (by decide) ?_
        exact ih42 (i + 1) (by omega) (by omega)  H locs ls hW hS (lv_sub (l' := [(0, .ref (ad_ w 20 0)), (1, .int (nI q)), (2, .int (nI (i + 1)))]) hl [1, 2, 0] rfl)
  exact L42 (8 - 0 + 1) 0 (by omega) (by omega)  H locs ls hW hS (lv_sub hl [1, 2, 0] rfl)
