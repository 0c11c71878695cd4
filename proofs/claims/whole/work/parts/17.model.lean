/-! MarginHouseModel: the small ones, margins, bids -/
theorem n6_ (m j : Nat) : (6 : Int32) * nI m + nI j = nI (6 * m + j) := by
  rw [show (6 : Int32) = nI 6 by decide +kernel, pk_mul, nI_add]
def th_ (a : St_) (c : Int32) : St_ := si_ a 20 0 0 c
theorem th_20 (a : St_) (c : Int32) : gi_ (th_ a c) 20 0 0 = c := by unfold th_; rw [gi_si]; exact if_pos ⟨rfl, rfl, rfl⟩
theorem th_gi (a : St_) (c : Int32) (v x y : Nat) (hv : v ≠ 20) : gi_ (th_ a c) v x y = gi_ a v x y := by unfold th_; rw [gi_si, if_neg (fun h => hv h.1)]
theorem th_gl (a : St_) (c : Int32) (v x y : Nat) : gl_ (th_ a c) v x y = gl_ a v x y := rfl
abbrev jm_ (x c : Int32) : Prop := ¬ x < 0 ∧ ¬ c ≤ x
theorem jm_in {c : Int32} {k m : Nat} (hk : c = nI k) (hk8 : k < 1000) (hm : m < k) : jm_ (nI m) c := by
  rw [hk]
  exact ⟨nI_pos (by omega), nI_ge hm (by omega)⟩
theorem jm_out {c x : Int32} {k : Nat} (hk : c = nI k) (hk8 : k < 1000) (h : jm_ x c) : ∃ m, m < k ∧ x = nI m := by
  obtain ⟨j, hj, rfl⟩ := nI_of h.1
  refine ⟨j, ?_, rfl⟩
  rcases Nat.lt_or_ge j k with q | q
  · exact q
  · exact absurd (by rw [hk]; exact nI_le q (by omega)) h.2
set_option maxHeartbeats 4000000 in
set_option maxRecDepth 100000 in
theorem c_X5_thrown (l : Launch) {w : Gh_} (hI : In_ w) (a : St_)  : Fn_ l w yX5_thrown (.code yX5_thrown cX5_thrown 1 (some .int)) { frames := 0, cells := 0, slots := 0, locals := 0 } 0 0 [.ref (ad_ w 20 0)] a (.inl (some (.int (gi_ a 20 0 0)))) a := by
  refine Fn_of hI (by decide +kernel) (Nat.le_of_ble_eq_true rfl) ?_
  intro zp ze zs zm zb zt zc ls cx hr hlk hno hW hS hl
  replace cx : Cx_ zp zs zm zc _ cX5_thrown 1 "MarginHouseModel" w := cx
  replace hl : lv_has ls 1 [(0, .ref (ad_ w 20 0))] := hl
  obtain ⟨H, hH⟩ : ∃ H, zs.heap = H := ⟨_, rfl⟩
  rw [hH] at hW
  have hS : Fr_ w zs.heap H [] := by rw [← hH]; exact hS
  obtain ⟨locs, hlocs⟩ : ∃ x : List Loc, x = [] := ⟨_, rfl⟩
  rw [← hlocs] at hS ⊢
  rw [show W zp l ze _ zs zm _ zb zt zc zs.heap locs 0 0 _ (F0 zm 0 ls []) ↔ W zp l ze _ zs zm _ zb zt zc H locs 0 0 _ (F0 zm 0 ls []) from by rw [hH]]
  refine lv_aload_n cx.1 cx.2.1 dX5_thrown_0 rfl (lv_at hl 0 rfl) ?_
  refine gf_X5_62 cx hW (by decide) dX5_thrown_1 ?_
  exact cr_i cx hr hlk hW hS (Nat.le_of_ble_eq_true rfl) (Nat.le_of_ble_eq_true rfl) dX5_thrown_4 rfl rfl
set_option maxHeartbeats 4000000 in
set_option maxRecDepth 100000 in
theorem c_X5_isMember (l : Launch) {w : Gh_} (hI : In_ w) (a : St_) (x : Int32) : Fn_ l w yX5_isMember (.code yX5_isMember cX5_isMember 2 (some .boolean)) { frames := 0, cells := 0, slots := 0, locals := 0 } 0 0 [.ref (ad_ w 20 0), .int x] a (.inl (some (.int (if jm_ x (gi_ a 21 0 0) then 1 else 0)))) a := by
  refine Fn_of hI (by decide +kernel) (Nat.le_of_ble_eq_true rfl) ?_
  intro zp ze zs zm zb zt zc ls cx hr hlk hno hW hS hl
  replace cx : Cx_ zp zs zm zc _ cX5_isMember 2 "MarginHouseModel" w := cx
  replace hl : lv_has ls 2 [(0, .ref (ad_ w 20 0)), (1, .int x)] := hl
  obtain ⟨H, hH⟩ : ∃ H, zs.heap = H := ⟨_, rfl⟩
  rw [hH] at hW
  have hS : Fr_ w zs.heap H [] := by rw [← hH]; exact hS
  obtain ⟨locs, hlocs⟩ : ∃ x : List Loc, x = [] := ⟨_, rfl⟩
  rw [← hlocs] at hS ⊢
  rw [show W zp l ze _ zs zm _ zb zt zc zs.heap locs 0 0 _ (F0 zm 0 ls []) ↔ W zp l ze _ zs zm _ zb zt zc H locs 0 0 _ (F0 zm 0 ls []) from by rw [hH]]
  refine lv_iload_n cx.1 cx.2.1 dX5_isMember_0 rfl (lv_at hl 1 rfl) ?_
  refine lv_if_lt (tgt := 16) cx.1 cx.2.1 dX5_isMember_1 (by decide) (fun h1 => ?_) (fun h1 => ?_)
  · skip
    refine lv_iconst (v := 0) cx.1 cx.2.1 dX5_isMember_16 (by decide) ?_
    exact cr_z cx hr hlk (by decide) hW hS (Nat.le_of_ble_eq_true rfl) (Nat.le_of_ble_eq_true rfl) dX5_isMember_17 (by simp [h1]) rfl
  · skip
    refine lv_iload_n cx.1 cx.2.1 dX5_isMember_4 rfl (lv_at hl 1 rfl) ?_
    refine lv_aload_n cx.1 cx.2.1 dX5_isMember_5 rfl (lv_at hl 0 rfl) ?_
    refine gf_X5_66 cx hW (by decide) dX5_isMember_6 ?_
    refine lv_icmp_ge (tgt := 16) cx.1 cx.2.1 dX5_isMember_9 (by decide) (fun h9 => ?_) (fun h9 => ?_)
    · skip
      refine lv_iconst (v := 0) cx.1 cx.2.1 dX5_isMember_16 (by decide) ?_
      exact cr_z cx hr hlk (by decide) hW hS (Nat.le_of_ble_eq_true rfl) (Nat.le_of_ble_eq_true rfl) dX5_isMember_17 (by simp [h1, h9]) rfl
    · skip
      refine lv_iconst (v := 1) cx.1 cx.2.1 dX5_isMember_12 (by decide) ?_
      refine lv_goto (tgt := 17) cx.1 cx.2.1 dX5_isMember_13 (by decide) ?_
      exact cr_z cx hr hlk (by decide) hW hS (Nat.le_of_ble_eq_true rfl) (Nat.le_of_ble_eq_true rfl) dX5_isMember_17 (by simp [h1, h9]) rfl
set_option maxHeartbeats 4000000 in
set_option maxRecDepth 100000 in
theorem c_X5_isInstrument (l : Launch) {w : Gh_} (hI : In_ w) (a : St_) (x : Int32) : Fn_ l w yX5_isInstrument (.code yX5_isInstrument cX5_isInstrument 2 (some .boolean)) { frames := 0, cells := 0, slots := 0, locals := 0 } 0 0 [.ref (ad_ w 20 0), .int x] a (.inl (some (.int (if jm_ x (gi_ a 22 0 0) then 1 else 0)))) a := by
  refine Fn_of hI (by decide +kernel) (Nat.le_of_ble_eq_true rfl) ?_
  intro zp ze zs zm zb zt zc ls cx hr hlk hno hW hS hl
  replace cx : Cx_ zp zs zm zc _ cX5_isInstrument 2 "MarginHouseModel" w := cx
  replace hl : lv_has ls 2 [(0, .ref (ad_ w 20 0)), (1, .int x)] := hl
  obtain ⟨H, hH⟩ : ∃ H, zs.heap = H := ⟨_, rfl⟩
  rw [hH] at hW
  have hS : Fr_ w zs.heap H [] := by rw [← hH]; exact hS
  obtain ⟨locs, hlocs⟩ : ∃ x : List Loc, x = [] := ⟨_, rfl⟩
  rw [← hlocs] at hS ⊢
  rw [show W zp l ze _ zs zm _ zb zt zc zs.heap locs 0 0 _ (F0 zm 0 ls []) ↔ W zp l ze _ zs zm _ zb zt zc H locs 0 0 _ (F0 zm 0 ls []) from by rw [hH]]
  refine lv_iload_n cx.1 cx.2.1 dX5_isInstrument_0 rfl (lv_at hl 1 rfl) ?_
  refine lv_if_lt (tgt := 16) cx.1 cx.2.1 dX5_isInstrument_1 (by decide) (fun h1 => ?_) (fun h1 => ?_)
  · skip
    refine lv_iconst (v := 0) cx.1 cx.2.1 dX5_isInstrument_16 (by decide) ?_
    exact cr_z cx hr hlk (by decide) hW hS (Nat.le_of_ble_eq_true rfl) (Nat.le_of_ble_eq_true rfl) dX5_isInstrument_17 (by simp [h1]) rfl
  · skip
    refine lv_iload_n cx.1 cx.2.1 dX5_isInstrument_4 rfl (lv_at hl 1 rfl) ?_
    refine lv_aload_n cx.1 cx.2.1 dX5_isInstrument_5 rfl (lv_at hl 0 rfl) ?_
    refine gf_X5_69 cx hW (by decide) dX5_isInstrument_6 ?_
    refine lv_icmp_ge (tgt := 16) cx.1 cx.2.1 dX5_isInstrument_9 (by decide) (fun h9 => ?_) (fun h9 => ?_)
    · skip
      refine lv_iconst (v := 0) cx.1 cx.2.1 dX5_isInstrument_16 (by decide) ?_
      exact cr_z cx hr hlk (by decide) hW hS (Nat.le_of_ble_eq_true rfl) (Nat.le_of_ble_eq_true rfl) dX5_isInstrument_17 (by simp [h1, h9]) rfl
    · skip
      refine lv_iconst (v := 1) cx.1 cx.2.1 dX5_isInstrument_12 (by decide) ?_
      refine lv_goto (tgt := 17) cx.1 cx.2.1 dX5_isInstrument_13 (by decide) ?_
      exact cr_z cx hr hlk (by decide) hW hS (Nat.le_of_ble_eq_true rfl) (Nat.le_of_ble_eq_true rfl) dX5_isInstrument_17 (by simp [h1, h9]) rfl
set_option maxHeartbeats 4000000 in
set_option maxRecDepth 100000 in
theorem c_X5_isFar (l : Launch) {w : Gh_} (hI : In_ w) (a : St_) (x : Int64) : Fn_ l w yX5_isFar (.code yX5_isFar cX5_isFar 2 (some .boolean)) { frames := 0, cells := 0, slots := 0, locals := 0 } 0 0 [.long x] a (.inl (some (.int (if ¬ tm_ x then 1 else 0)))) a := by
  refine Fn_of hI (by decide +kernel) (Nat.le_of_ble_eq_true rfl) ?_
  intro zp ze zs zm zb zt zc ls cx hr hlk hno hW hS hl
  replace cx : Cx_ zp zs zm zc _ cX5_isFar 2 "MarginHouseModel" w := cx
  replace hl : lv_has ls 2 [(0, .long x)] := hl
  obtain ⟨H, hH⟩ : ∃ H, zs.heap = H := ⟨_, rfl⟩
  rw [hH] at hW
  have hS : Fr_ w zs.heap H [] := by rw [← hH]; exact hS
  obtain ⟨locs, hlocs⟩ : ∃ x : List Loc, x = [] := ⟨_, rfl⟩
  rw [← hlocs] at hS ⊢
  rw [show W zp l ze _ zs zm _ zb zt zc zs.heap locs 0 0 _ (F0 zm 0 ls []) ↔ W zp l ze _ zs zm _ zb zt zc H locs 0 0 _ (F0 zm 0 ls []) from by rw [hH]]
  refine lv_lload_n cx.1 cx.2.1 dX5_isFar_0 rfl (lv_at hl 0 rfl) ?_
  refine lv_ldc2 (own := "MarginHouseModel") (v := 1000000000000000) cx.1 cx.2.1 cx.2.2.2.1 (cx.2.2.2.2.1 _ nw_420) dX5_isFar_1 ?_
  refine lc_gt (tgt := 16) cx.1 cx.2.1 dX5_isFar_4 dX5_isFar_5 (by decide) (fun h4 => ?_) (fun h4 => ?_)
  · skip
    skip
    refine lv_iconst (v := 1) cx.1 cx.2.1 dX5_isFar_16 (by decide) ?_
    refine lv_goto (tgt := 21) cx.1 cx.2.1 dX5_isFar_17 (by decide) ?_
    exact cr_z cx hr hlk (by decide) hW hS (Nat.le_of_ble_eq_true rfl) (Nat.le_of_ble_eq_true rfl) dX5_isFar_21 (by rw [if_pos (fun z : tm_ x => z.2 h4)]) rfl
  · skip
    refine lv_lload_n cx.1 cx.2.1 dX5_isFar_8 rfl (lv_at hl 0 rfl) ?_
    refine lv_ldc2 (own := "MarginHouseModel") (v := -1000000000000000) cx.1 cx.2.1 cx.2.2.2.1 (cx.2.2.2.2.1 _ nw_421) dX5_isFar_9 ?_
    refine lc_ge (tgt := 20) cx.1 cx.2.1 dX5_isFar_12 dX5_isFar_13 (by decide) (fun h12 => ?_) (fun h12 => ?_)
    · skip
      skip
      refine lv_iconst (v := 0) cx.1 cx.2.1 dX5_isFar_20 (by decide) ?_
      exact cr_z cx hr hlk (by decide) hW hS (Nat.le_of_ble_eq_true rfl) (Nat.le_of_ble_eq_true rfl) dX5_isFar_21 (by rw [if_neg (fun z : ¬ tm_ x => z ⟨Int64.not_lt.mpr h12, h4⟩)]) rfl
    · skip
      skip
      refine lv_iconst (v := 1) cx.1 cx.2.1 dX5_isFar_16 (by decide) ?_
      refine lv_goto (tgt := 21) cx.1 cx.2.1 dX5_isFar_17 (by decide) ?_
      exact cr_z cx hr hlk (by decide) hW hS (Nat.le_of_ble_eq_true rfl) (Nat.le_of_ble_eq_true rfl) dX5_isFar_21 (by rw [if_pos (fun z : tm_ x => z.1 (Int64.not_le.mp h12))]) rfl
def qs_ (a : St_) (v m : Nat) : Nat → Int64
  | 0 => 0
  | i + 1 => qs_ a v m i - (gi_ a 24 0 (6 * m + i)).toInt64 * (gi_ a 29 0 (6 * v + i)).toInt64
def qm_ (a : St_) (m n : Nat) : Nat → Int64
  | 0 => 0
  | v + 1 => if qs_ a v m n ≤ qm_ a m n v then qm_ a m n v else qs_ a v m n
def av_ (x : Int64) : Int64 := if 0 ≤ x then x else -x
def qx_ (a : St_) (m : Nat) (z : Int64) : Nat → Int64
  | 0 => z
  | i + 1 => if av_ (gi_ a 24 0 (6 * m + i)).toInt64 ≤ (gi_ a 27 0 i).toInt64 then qx_ a m z i else qx_ a m z i + (gi_ a 28 0 i).toInt64 * (av_ (gi_ a 24 0 (6 * m + i)).toInt64 - (gi_ a 27 0 i).toInt64)
def qg_ (a : St_) (m n : Nat) : Int64 := qx_ a m (qm_ a m n 8) n
set_option maxHeartbeats 4000000 in
set_option maxRecDepth 100000 in
theorem c_X5_marginOf (l : Launch) {w : Gh_} (hI : In_ w) (a : St_) (n : Nat) (hn : gi_ a 22 0 0 = nI n) (hn6 : n ≤ 6) (m : Nat) (hm : m < 8) : Fn_ l w yX5_marginOf (.code yX5_marginOf cX5_marginOf 8 (some .long)) { frames := 0, cells := 0, slots := 0, locals := 0 } 0 0 [.ref (ad_ w 20 0), .int (nI m)] a (.inl (some (.long (qg_ a m n)))) a := by
  refine Fn_of hI (by decide +kernel) (Nat.le_of_ble_eq_true rfl) ?_
  intro zp ze zs zm zb zt zc ls cx hr hlk hno hW hS hl
  replace cx : Cx_ zp zs zm zc _ cX5_marginOf 8 "MarginHouseModel" w := cx
  replace hl : lv_has ls 8 [(0, .ref (ad_ w 20 0)), (1, .int (nI m))] := hl
  obtain ⟨H, hH⟩ : ∃ H, zs.heap = H := ⟨_, rfl⟩
  rw [hH] at hW
  have hS : Fr_ w zs.heap H [] := by rw [← hH]; exact hS
  obtain ⟨locs, hlocs⟩ : ∃ x : List Loc, x = [] := ⟨_, rfl⟩
  rw [← hlocs] at hS ⊢
  rw [show W zp l ze _ zs zm _ zb zt zc zs.heap locs 0 0 _ (F0 zm 0 ls []) ↔ W zp l ze _ zs zm _ zb zt zc H locs 0 0 _ (F0 zm 0 ls []) from by rw [hH]]
  refine lv_lconst (v := 0) cx.1 cx.2.1 dX5_marginOf_0 (by decide) ?_
  refine lv_lstore_n (lv' := [(2, .long 0), (0, .ref (ad_ w 20 0)), (1, .int (nI m))]) cx.1 cx.2.1 dX5_marginOf_1 rfl hl (by decide) rfl (fun ls hl => ?_)
  refine lv_iconst (v := 0) cx.1 cx.2.1 dX5_marginOf_2 (by decide) ?_
  refine lv_istore (lv' := [(4, .int 0), (2, .long 0), (0, .ref (ad_ w 20 0)), (1, .int (nI m))]) cx.1 cx.2.1 dX5_marginOf_3 hl (by decide) rfl (fun ls hl => ?_)
  have L5 : ∀ (d v : Nat), v ≤ 8 → 8 - v < d → ∀ (H : Heap) (locs : List Loc) (ls : Array Slot), Hd_ w a H → Fr_ w zs.heap H locs → lv_has ls 8 [(0, .ref (ad_ w 20 0)), (1, .int (nI m)), (2, .long (qm_ a m n v)), (4, .int (nI v))] → W zp l ze { frames := 0, cells := 0, slots := 0, locals := 0 } zs zm ([.ref (ad_ w 20 0), .int (nI m)] : List Value).toArray zb zt zc H locs 0 0 (vx_MQ zb (Qc_ w (.inl (some (.long (qg_ a m n)))) a) (XC_ w (.inl (some (.long (qg_ a m n)))) a) ([.ref (ad_ w 20 0), .int (nI m)] : List Value).toArray zs 0 0 (fun q => lo_ w ≤ q)) (F0 zm 5 ls []) := by
    intro d
    induction d with
    | zero => intro v _ hd; exact absurd hd (Nat.not_lt_zero _)
    | succ d ih5 =>
      intro v hv hdv  H locs ls hW hS hl
      refine lv_iload cx.1 cx.2.1 dX5_marginOf_5 (lv_at hl 3 rfl) ?_
      refine lv_bipush (v := 8) cx.1 cx.2.1 dX5_marginOf_7 (by decide) ?_
      refine tp_i (y := nI 8) (by decide +kernel) ?_
      refine lv_icmp_ge (tgt := 86) cx.1 cx.2.1 dX5_marginOf_9 (by decide) (fun h9 => ?_) (fun h9 => ?_)
      · skip
        have h9 : 8 ≤ v := (nI_leI (by omega) (by omega)).mp h9
        have e5 : v = 8 := by omega
        try rw [e5] at hl
        try rw [e5] at hW
        refine lv_iconst (v := 0) cx.1 cx.2.1 dX5_marginOf_86 (by decide) ?_
        refine lv_istore (lv' := [(4, .int 0), (0, .ref (ad_ w 20 0)), (1, .int (nI m)), (2, .long (qm_ a m n 8))]) cx.1 cx.2.1 dX5_marginOf_87 hl (by decide) rfl (fun ls hl => ?_)
        have L89 : ∀ (d i : Nat), i ≤ n → n - i < d → ∀ (H : Heap) (locs : List Loc) (ls : Array Slot), Hd_ w a H → Fr_ w zs.heap H locs → lv_has ls 8 [(0, .ref (ad_ w 20 0)), (1, .int (nI m)), (2, .long (qx_ a m (qm_ a m n 8) i)), (4, .int (nI i))] → W zp l ze { frames := 0, cells := 0, slots := 0, locals := 0 } zs zm ([.ref (ad_ w 20 0), .int (nI m)] : List Value).toArray zb zt zc H locs 0 0 (vx_MQ zb (Qc_ w (.inl (some (.long (qg_ a m n)))) a) (XC_ w (.inl (some (.long (qg_ a m n)))) a) ([.ref (ad_ w 20 0), .int (nI m)] : List Value).toArray zs 0 0 (fun q => lo_ w ≤ q)) (F0 zm 89 ls []) := by
          intro d
          induction d with
          | zero => intro i _ hd; exact absurd hd (Nat.not_lt_zero _)
          | succ d ih89 =>
            intro i hi hdi  H locs ls hW hS hl
            refine lv_iload cx.1 cx.2.1 dX5_marginOf_89 (lv_at hl 3 rfl) ?_
            refine lv_aload_n cx.1 cx.2.1 dX5_marginOf_91 rfl (lv_at hl 0 rfl) ?_
            refine gf_X5_69 cx hW (by decide) dX5_marginOf_92 ?_
            refine tp_i (y := nI n) hn ?_
            refine lv_icmp_ge (tgt := 173) cx.1 cx.2.1 dX5_marginOf_95 (by decide) (fun h95 => ?_) (fun h95 => ?_)
            · skip
              have h95 : n ≤ i := (nI_leI (by omega) (by omega)).mp h95
              have e89 : i = n := by omega
              try rw [e89] at hl
              try rw [e89] at hW
              refine lv_lload_n cx.1 cx.2.1 dX5_marginOf_173 rfl (lv_at hl 2 rfl) ?_
              exact cr_l cx hr hlk hW hS (Nat.le_of_ble_eq_true rfl) (Nat.le_of_ble_eq_true rfl) dX5_marginOf_174 rfl rfl
            · skip
              have h95 : i < n := Nat.not_le.mp (fun q => h95 ((nI_leI (by omega) (by omega)).mpr q))
              refine lv_aload_n cx.1 cx.2.1 dX5_marginOf_98 rfl (lv_at hl 0 rfl) ?_
              refine gf_X5_20 cx hW (by decide) dX5_marginOf_99 ?_
              refine lv_bipush (v := 6) cx.1 cx.2.1 dX5_marginOf_102 (by decide) ?_
              refine lv_iload_n cx.1 cx.2.1 dX5_marginOf_104 rfl (lv_at hl 1 rfl) ?_
              refine lv_imul cx.1 cx.2.1 dX5_marginOf_105 ?_
              refine lv_iload cx.1 cx.2.1 dX5_marginOf_106 (lv_at hl 3 rfl) ?_
              refine lv_iadd cx.1 cx.2.1 dX5_marginOf_108 ?_
              refine al_24 (j := 6 * m + i) cx hW (by decide) (n6_ m i) (by omega) dX5_marginOf_109 ?_
              refine lv_i2l (v := (gi_ a 24 0 (6 * m + i)).toInt64) cx.1 cx.2.1 dX5_marginOf_110 rfl ?_
              refine lv_lstore (lv' := [(5, .long ((gi_ a 24 0 (6 * m + i)).toInt64)), (0, .ref (ad_ w 20 0)), (1, .int (nI m)), (2, .long (qx_ a m (qm_ a m n 8) i)), (4, .int (nI i))]) cx.1 cx.2.1 dX5_marginOf_111 hl (by decide) rfl (fun ls hl => ?_)
              refine lv_lload cx.1 cx.2.1 dX5_marginOf_113 (lv_at hl 0 rfl) ?_
              refine lv_lconst (v := 0) cx.1 cx.2.1 dX5_marginOf_115 (by decide) ?_
              refine lc_ge (tgt := 126) cx.1 cx.2.1 dX5_marginOf_116 dX5_marginOf_117 (by decide) (fun h116 => ?_) (fun h116 => ?_)
              · skip
                skip
                refine lv_lload cx.1 cx.2.1 dX5_marginOf_126 (lv_at hl 0 rfl) ?_
                refine tp_j (y := av_ (gi_ a 24 0 (6 * m + i)).toInt64) (by rw [av_, if_pos h116]) ?_
                refine lv_lstore (lv' := [(5, .long (av_ (gi_ a 24 0 (6 * m + i)).toInt64)), (0, .ref (ad_ w 20 0)), (1, .int (nI m)), (2, .long (qx_ a m (qm_ a m n 8) i)), (4, .int (nI i))]) cx.1 cx.2.1 dX5_marginOf_128 hl (by decide) rfl (fun ls hl => ?_)
                refine lv_lload cx.1 cx.2.1 dX5_marginOf_130 (lv_at hl 0 rfl) ?_
                refine lv_aload_n cx.1 cx.2.1 dX5_marginOf_132 rfl (lv_at hl 1 rfl) ?_
                refine gf_X5_29 cx hW (by decide) dX5_marginOf_133 ?_
                refine lv_iload cx.1 cx.2.1 dX5_marginOf_136 (lv_at hl 4 rfl) ?_
                refine al_27 (j := i) cx hW (by decide) rfl (by omega) dX5_marginOf_138 ?_
                refine lv_i2l (v := (gi_ a 27 0 i).toInt64) cx.1 cx.2.1 dX5_marginOf_139 rfl ?_
                refine lc_le (tgt := 167) cx.1 cx.2.1 dX5_marginOf_140 dX5_marginOf_141 (by decide) (fun h140 => ?_) (fun h140 => ?_)
                · skip
                  have hE : qx_ a m (qm_ a m n 8) (i + 1) = qx_ a m (qm_ a m n 8) i := by rw [qx_, if_pos h140]
                  refine lv_iinc (v := nI (i + 1)) (lv' := [(4, .int (nI (i + 1))), (5, .long (av_ (gi_ a 24 0 (6 * m + i)).toInt64)), (0, .ref (ad_ w 20 0)), (1, .int (nI m)), (2, .long (qx_ a m (qm_ a m n 8) i))]) cx.1 cx.2.1 dX5_marginOf_167 hl (k := 4) rfl (nI_inc i) (by decide) rfl (fun ls hl => ?_)
                  refine lv_goto (tgt := 89) cx.1 cx.2.1 dX5_marginOf_170 (by decide) ?_
                  exact ih89 (i + 1) (by omega) (by omega)  H locs ls hW hS (lv_sub (l' := [(0, .ref (ad_ w 20 0)), (1, .int (nI m)), (2, .long (qx_ a m (qm_ a m n 8) (i + 1))), (4, .int (nI (i + 1)))]) hl [2, 3, 4, 0] (by rw [hE]; rfl))
                · skip
                  have hE : qx_ a m (qm_ a m n 8) (i + 1) = qx_ a m (qm_ a m n 8) i + (gi_ a 28 0 i).toInt64 * (av_ (gi_ a 24 0 (6 * m + i)).toInt64 - (gi_ a 27 0 i).toInt64) := by rw [qx_, if_neg h140]
                  refine lv_lload_n cx.1 cx.2.1 dX5_marginOf_144 rfl (lv_at hl 3 rfl) ?_
                  refine lv_aload_n cx.1 cx.2.1 dX5_marginOf_145 rfl (lv_at hl 1 rfl) ?_
                  refine gf_X5_32 cx hW (by decide) dX5_marginOf_146 ?_
                  refine lv_iload cx.1 cx.2.1 dX5_marginOf_149 (lv_at hl 4 rfl) ?_
                  refine al_28 (j := i) cx hW (by decide) rfl (by omega) dX5_marginOf_151 ?_
                  refine lv_i2l (v := (gi_ a 28 0 i).toInt64) cx.1 cx.2.1 dX5_marginOf_152 rfl ?_
                  refine lv_lload cx.1 cx.2.1 dX5_marginOf_153 (lv_at hl 0 rfl) ?_
                  refine lv_aload_n cx.1 cx.2.1 dX5_marginOf_155 rfl (lv_at hl 1 rfl) ?_
                  refine gf_X5_29 cx hW (by decide) dX5_marginOf_156 ?_
                  refine lv_iload cx.1 cx.2.1 dX5_marginOf_159 (lv_at hl 4 rfl) ?_
                  refine al_27 (j := i) cx hW (by decide) rfl (by omega) dX5_marginOf_161 ?_
                  refine lv_i2l (v := (gi_ a 27 0 i).toInt64) cx.1 cx.2.1 dX5_marginOf_162 rfl ?_
                  refine lv_lsub cx.1 cx.2.1 dX5_marginOf_163 ?_
                  refine lv_lmul cx.1 cx.2.1 dX5_marginOf_164 ?_
                  refine lv_ladd cx.1 cx.2.1 dX5_marginOf_165 ?_
                  refine lv_lstore_n (lv' := [(2, .long ((qx_ a m (qm_ a m n 8) i) + (((gi_ a 28 0 i).toInt64) * ((av_ (gi_ a 24 0 (6 * m + i)).toInt64) - ((gi_ a 27 0 i).toInt64))))), (5, .long (av_ (gi_ a 24 0 (6 * m + i)).toInt64)), (0, .ref (ad_ w 20 0)), (1, .int (nI m)), (4, .int (nI i))]) cx.1 cx.2.1 dX5_marginOf_166 rfl hl (by decide) rfl (fun ls hl => ?_)
                  refine lv_iinc (v := nI (i + 1)) (lv' := [(4, .int (nI (i + 1))), (2, .long ((qx_ a m (qm_ a m n 8) i) + (((gi_ a 28 0 i).toInt64) * ((av_ (gi_ a 24 0 (6 * m + i)).toInt64) - ((gi_ a 27 0 i).toInt64))))), (5, .long (av_ (gi_ a 24 0 (6 * m + i)).toInt64)), (0, .ref (ad_ w 20 0)), (1, .int (nI m))]) cx.1 cx.2.1 dX5_marginOf_167 hl (k := 4) rfl (nI_inc i) (by decide) rfl (fun ls hl => ?_)
                  refine lv_goto (tgt := 89) cx.1 cx.2.1 dX5_marginOf_170 (by decide) ?_
                  exact ih89 (i + 1) (by omega) (by omega)  H locs ls hW hS (lv_sub (l' := [(0, .ref (ad_ w 20 0)), (1, .int (nI m)), (2, .long (qx_ a m (qm_ a m n 8) (i + 1))), (4, .int (nI (i + 1)))]) hl [3, 4, 1, 0] (by rw [hE]; rfl))
              · skip
                skip
                refine lv_lload cx.1 cx.2.1 dX5_marginOf_120 (lv_at hl 0 rfl) ?_
                refine lv_lneg cx.1 cx.2.1 dX5_marginOf_122 ?_
                refine lv_goto (tgt := 128) cx.1 cx.2.1 dX5_marginOf_123 (by decide) ?_
                refine tp_j (y := av_ (gi_ a 24 0 (6 * m + i)).toInt64) (by rw [av_, if_neg h116]) ?_
                refine lv_lstore (lv' := [(5, .long (av_ (gi_ a 24 0 (6 * m + i)).toInt64)), (0, .ref (ad_ w 20 0)), (1, .int (nI m)), (2, .long (qx_ a m (qm_ a m n 8) i)), (4, .int (nI i))]) cx.1 cx.2.1 dX5_marginOf_128 hl (by decide) rfl (fun ls hl => ?_)
                refine lv_lload cx.1 cx.2.1 dX5_marginOf_130 (lv_at hl 0 rfl) ?_
                refine lv_aload_n cx.1 cx.2.1 dX5_marginOf_132 rfl (lv_at hl 1 rfl) ?_
                refine gf_X5_29 cx hW (by decide) dX5_marginOf_133 ?_
                refine lv_iload cx.1 cx.2.1 dX5_marginOf_136 (lv_at hl 4 rfl) ?_
                refine al_27 (j := i) cx hW (by decide) rfl (by omega) dX5_marginOf_138 ?_
                refine lv_i2l (v := (gi_ a 27 0 i).toInt64) cx.1 cx.2.1 dX5_marginOf_139 rfl ?_
                refine lc_le (tgt := 167) cx.1 cx.2.1 dX5_marginOf_140 dX5_marginOf_141 (by decide) (fun h140 => ?_) (fun h140 => ?_)
                · skip
                  have hE : qx_ a m (qm_ a m n 8) (i + 1) = qx_ a m (qm_ a m n 8) i := by rw [qx_, if_pos h140]
                  refine lv_iinc (v := nI (i + 1)) (lv' := [(4, .int (nI (i + 1))), (5, .long (av_ (gi_ a 24 0 (6 * m + i)).toInt64)), (0, .ref (ad_ w 20 0)), (1, .int (nI m)), (2, .long (qx_ a m (qm_ a m n 8) i))]) cx.1 cx.2.1 dX5_marginOf_167 hl (k := 4) rfl (nI_inc i) (by decide) rfl (fun ls hl => ?_)
                  refine lv_goto (tgt := 89) cx.1 cx.2.1 dX5_marginOf_170 (by decide) ?_
                  exact ih89 (i + 1) (by omega) (by omega)  H locs ls hW hS (lv_sub (l' := [(0, .ref (ad_ w 20 0)), (1, .int (nI m)), (2, .long (qx_ a m (qm_ a m n 8) (i + 1))), (4, .int (nI (i + 1)))]) hl [2, 3, 4, 0] (by rw [hE]; rfl))
                · skip
                  have hE : qx_ a m (qm_ a m n 8) (i + 1) = qx_ a m (qm_ a m n 8) i + (gi_ a 28 0 i).toInt64 * (av_ (gi_ a 24 0 (6 * m + i)).toInt64 - (gi_ a 27 0 i).toInt64) := by rw [qx_, if_neg h140]
                  refine lv_lload_n cx.1 cx.2.1 dX5_marginOf_144 rfl (lv_at hl 3 rfl) ?_
                  refine lv_aload_n cx.1 cx.2.1 dX5_marginOf_145 rfl (lv_at hl 1 rfl) ?_
                  refine gf_X5_32 cx hW (by decide) dX5_marginOf_146 ?_
                  refine lv_iload cx.1 cx.2.1 dX5_marginOf_149 (lv_at hl 4 rfl) ?_
                  refine al_28 (j := i) cx hW (by decide) rfl (by omega) dX5_marginOf_151 ?_
                  refine lv_i2l (v := (gi_ a 28 0 i).toInt64) cx.1 cx.2.1 dX5_marginOf_152 rfl ?_
                  refine lv_lload cx.1 cx.2.1 dX5_marginOf_153 (lv_at hl 0 rfl) ?_
                  refine lv_aload_n cx.1 cx.2.1 dX5_marginOf_155 rfl (lv_at hl 1 rfl) ?_
                  refine gf_X5_29 cx hW (by decide) dX5_marginOf_156 ?_
                  refine lv_iload cx.1 cx.2.1 dX5_marginOf_159 (lv_at hl 4 rfl) ?_
                  refine al_27 (j := i) cx hW (by decide) rfl (by omega) dX5_marginOf_161 ?_
                  refine lv_i2l (v := (gi_ a 27 0 i).toInt64) cx.1 cx.2.1 dX5_marginOf_162 rfl ?_
                  refine lv_lsub cx.1 cx.2.1 dX5_marginOf_163 ?_
                  refine lv_lmul cx.1 cx.2.1 dX5_marginOf_164 ?_
                  refine lv_ladd cx.1 cx.2.1 dX5_marginOf_165 ?_
                  refine lv_lstore_n (lv' := [(2, .long ((qx_ a m (qm_ a m n 8) i) + (((gi_ a 28 0 i).toInt64) * ((av_ (gi_ a 24 0 (6 * m + i)).toInt64) - ((gi_ a 27 0 i).toInt64))))), (5, .long (av_ (gi_ a 24 0 (6 * m + i)).toInt64)), (0, .ref (ad_ w 20 0)), (1, .int (nI m)), (4, .int (nI i))]) cx.1 cx.2.1 dX5_marginOf_166 rfl hl (by decide) rfl (fun ls hl => ?_)
                  refine lv_iinc (v := nI (i + 1)) (lv' := [(4, .int (nI (i + 1))), (2, .long ((qx_ a m (qm_ a m n 8) i) + (((gi_ a 28 0 i).toInt64) * ((av_ (gi_ a 24 0 (6 * m + i)).toInt64) - ((gi_ a 27 0 i).toInt64))))), (5, .long (av_ (gi_ a 24 0 (6 * m + i)).toInt64)), (0, .ref (ad_ w 20 0)), (1, .int (nI m))]) cx.1 cx.2.1 dX5_marginOf_167 hl (k := 4) rfl (nI_inc i) (by decide) rfl (fun ls hl => ?_)
                  refine lv_goto (tgt := 89) cx.1 cx.2.1 dX5_marginOf_170 (by decide) ?_
                  exact ih89 (i + 1) (by omega) (by omega)  H locs ls hW hS (lv_sub (l' := [(0, .ref (ad_ w 20 0)), (1, .int (nI m)), (2, .long (qx_ a m (qm_ a m n 8) (i + 1))), (4, .int (nI (i + 1)))]) hl [3, 4, 1, 0] (by rw [hE]; rfl))
        exact L89 (n - 0 + 1) 0 (by omega) (by omega)  H locs ls hW hS (lv_sub hl [1, 2, 3, 0] rfl)
      · skip
        have h9 : v < 8 := Nat.not_le.mp (fun q => h9 ((nI_leI (by omega) (by omega)).mpr q))
        refine lv_lconst (v := 0) cx.1 cx.2.1 dX5_marginOf_12 (by decide) ?_
        refine lv_lstore (lv' := [(5, .long 0), (0, .ref (ad_ w 20 0)), (1, .int (nI m)), (2, .long (qm_ a m n v)), (4, .int (nI v))]) cx.1 cx.2.1 dX5_marginOf_13 hl (by decide) rfl (fun ls hl => ?_)
        refine lv_iconst (v := 0) cx.1 cx.2.1 dX5_marginOf_15 (by decide) ?_
        refine lv_istore (lv' := [(7, .int 0), (5, .long 0), (0, .ref (ad_ w 20 0)), (1, .int (nI m)), (2, .long (qm_ a m n v)), (4, .int (nI v))]) cx.1 cx.2.1 dX5_marginOf_16 hl (by decide) rfl (fun ls hl => ?_)
        have L18 : ∀ (d i : Nat), i ≤ n → n - i < d → ∀ (H : Heap) (locs : List Loc) (ls : Array Slot), Hd_ w a H → Fr_ w zs.heap H locs → lv_has ls 8 [(0, .ref (ad_ w 20 0)), (1, .int (nI m)), (2, .long (qm_ a m n v)), (4, .int (nI v)), (5, .long (qs_ a v m i)), (7, .int (nI i))] → W zp l ze { frames := 0, cells := 0, slots := 0, locals := 0 } zs zm ([.ref (ad_ w 20 0), .int (nI m)] : List Value).toArray zb zt zc H locs 0 0 (vx_MQ zb (Qc_ w (.inl (some (.long (qg_ a m n)))) a) (XC_ w (.inl (some (.long (qg_ a m n)))) a) ([.ref (ad_ w 20 0), .int (nI m)] : List Value).toArray zs 0 0 (fun q => lo_ w ≤ q)) (F0 zm 18 ls []) := by
          intro d
          induction d with
          | zero => intro i _ hd; exact absurd hd (Nat.not_lt_zero _)
          | succ d ih18 =>
            intro i hi hdi  H locs ls hW hS hl
            refine lv_iload cx.1 cx.2.1 dX5_marginOf_18 (lv_at hl 5 rfl) ?_
            refine lv_aload_n cx.1 cx.2.1 dX5_marginOf_20 rfl (lv_at hl 0 rfl) ?_
            refine gf_X5_69 cx hW (by decide) dX5_marginOf_21 ?_
            refine tp_i (y := nI n) hn ?_
            refine lv_icmp_ge (tgt := 66) cx.1 cx.2.1 dX5_marginOf_24 (by decide) (fun h24 => ?_) (fun h24 => ?_)
            · skip
              have h24 : n ≤ i := (nI_leI (by omega) (by omega)).mp h24
              have e18 : i = n := by omega
              try rw [e18] at hl
              try rw [e18] at hW
              refine lv_lload cx.1 cx.2.1 dX5_marginOf_66 (lv_at hl 4 rfl) ?_
              refine lv_lload_n cx.1 cx.2.1 dX5_marginOf_68 rfl (lv_at hl 2 rfl) ?_
              refine lc_le (tgt := 78) cx.1 cx.2.1 dX5_marginOf_69 dX5_marginOf_70 (by decide) (fun h69 => ?_) (fun h69 => ?_)
              · skip
                have hE : qm_ a m n (v + 1) = qm_ a m n v := by rw [qm_, if_pos h69]
                refine lv_lload_n cx.1 cx.2.1 dX5_marginOf_78 rfl (lv_at hl 2 rfl) ?_
                refine lv_lstore_n (lv' := [(2, .long (qm_ a m n v)), (0, .ref (ad_ w 20 0)), (1, .int (nI m)), (4, .int (nI v)), (5, .long (qs_ a v m n)), (7, .int (nI n))]) cx.1 cx.2.1 dX5_marginOf_79 rfl hl (by decide) rfl (fun ls hl => ?_)
                refine lv_iinc (v := nI (v + 1)) (lv' := [(4, .int (nI (v + 1))), (2, .long (qm_ a m n v)), (0, .ref (ad_ w 20 0)), (1, .int (nI m)), (5, .long (qs_ a v m n)), (7, .int (nI n))]) cx.1 cx.2.1 dX5_marginOf_80 hl (k := 3) rfl (nI_inc v) (by decide) rfl (fun ls hl => ?_)
                refine lv_goto (tgt := 5) cx.1 cx.2.1 dX5_marginOf_83 (by decide) ?_
                exact ih5 (v + 1) (by omega) (by omega)  H locs ls hW hS (lv_sub (l' := [(0, .ref (ad_ w 20 0)), (1, .int (nI m)), (2, .long (qm_ a m n (v + 1))), (4, .int (nI (v + 1)))]) hl [2, 3, 1, 0] (by rw [hE]; rfl))
              · skip
                have hE : qm_ a m n (v + 1) = qs_ a v m n := by rw [qm_, if_neg h69]
                refine lv_lload cx.1 cx.2.1 dX5_marginOf_73 (lv_at hl 4 rfl) ?_
                refine lv_goto (tgt := 79) cx.1 cx.2.1 dX5_marginOf_75 (by decide) ?_
                refine lv_lstore_n (lv' := [(2, .long (qs_ a v m n)), (0, .ref (ad_ w 20 0)), (1, .int (nI m)), (4, .int (nI v)), (5, .long (qs_ a v m n)), (7, .int (nI n))]) cx.1 cx.2.1 dX5_marginOf_79 rfl hl (by decide) rfl (fun ls hl => ?_)
                refine lv_iinc (v := nI (v + 1)) (lv' := [(4, .int (nI (v + 1))), (2, .long (qs_ a v m n)), (0, .ref (ad_ w 20 0)), (1, .int (nI m)), (5, .long (qs_ a v m n)), (7, .int (nI n))]) cx.1 cx.2.1 dX5_marginOf_80 hl (k := 3) rfl (nI_inc v) (by decide) rfl (fun ls hl => ?_)
                refine lv_goto (tgt := 5) cx.1 cx.2.1 dX5_marginOf_83 (by decide) ?_
                exact ih5 (v + 1) (by omega) (by omega)  H locs ls hW hS (lv_sub (l' := [(0, .ref (ad_ w 20 0)), (1, .int (nI m)), (2, .long (qm_ a m n (v + 1))), (4, .int (nI (v + 1)))]) hl [2, 3, 1, 0] (by rw [hE]; rfl))
            · skip
              have h24 : i < n := Nat.not_le.mp (fun q => h24 ((nI_leI (by omega) (by omega)).mpr q))
              refine lv_lload cx.1 cx.2.1 dX5_marginOf_27 (lv_at hl 4 rfl) ?_
              refine lv_aload_n cx.1 cx.2.1 dX5_marginOf_29 rfl (lv_at hl 0 rfl) ?_
              refine gf_X5_20 cx hW (by decide) dX5_marginOf_30 ?_
              refine lv_bipush (v := 6) cx.1 cx.2.1 dX5_marginOf_33 (by decide) ?_
              refine lv_iload_n cx.1 cx.2.1 dX5_marginOf_35 rfl (lv_at hl 1 rfl) ?_
              refine lv_imul cx.1 cx.2.1 dX5_marginOf_36 ?_
              refine lv_iload cx.1 cx.2.1 dX5_marginOf_37 (lv_at hl 5 rfl) ?_
              refine lv_iadd cx.1 cx.2.1 dX5_marginOf_39 ?_
              refine al_24 (j := 6 * m + i) cx hW (by decide) (n6_ m i) (by omega) dX5_marginOf_40 ?_
              refine lv_i2l (v := (gi_ a 24 0 (6 * m + i)).toInt64) cx.1 cx.2.1 dX5_marginOf_41 rfl ?_
              refine lv_aload_n cx.1 cx.2.1 dX5_marginOf_42 rfl (lv_at hl 0 rfl) ?_
              refine gf_X5_35 cx hW (by decide) dX5_marginOf_43 ?_
              refine lv_bipush (v := 6) cx.1 cx.2.1 dX5_marginOf_46 (by decide) ?_
              refine lv_iload cx.1 cx.2.1 dX5_marginOf_48 (lv_at hl 3 rfl) ?_
              refine lv_imul cx.1 cx.2.1 dX5_marginOf_50 ?_
              refine lv_iload cx.1 cx.2.1 dX5_marginOf_51 (lv_at hl 5 rfl) ?_
              refine lv_iadd cx.1 cx.2.1 dX5_marginOf_53 ?_
              refine al_29 (j := 6 * v + i) cx hW (by decide) (n6_ v i) (by omega) dX5_marginOf_54 ?_
              refine lv_i2l (v := (gi_ a 29 0 (6 * v + i)).toInt64) cx.1 cx.2.1 dX5_marginOf_55 rfl ?_
              refine lv_lmul cx.1 cx.2.1 dX5_marginOf_56 ?_
              refine lv_lsub cx.1 cx.2.1 dX5_marginOf_57 ?_
              refine lv_lstore (lv' := [(5, .long ((qs_ a v m i) - (((gi_ a 24 0 (6 * m + i)).toInt64) * ((gi_ a 29 0 (6 * v + i)).toInt64)))), (0, .ref (ad_ w 20 0)), (1, .int (nI m)), (2, .long (qm_ a m n v)), (4, .int (nI v)), (7, .int (nI i))]) cx.1 cx.2.1 dX5_marginOf_58 hl (by decide) rfl (fun ls hl => ?_)
              refine lv_iinc (v := nI (i + 1)) (lv' := [(7, .int (nI (i + 1))), (5, .long ((qs_ a v m i) - (((gi_ a 24 0 (6 * m + i)).toInt64) * ((gi_ a 29 0 (6 * v + i)).toInt64)))), (0, .ref (ad_ w 20 0)), (1, .int (nI m)), (2, .long (qm_ a m n v)), (4, .int (nI v))]) cx.1 cx.2.1 dX5_marginOf_60 hl (k := 5) rfl (nI_inc i) (by decide) rfl (fun ls hl => ?_)
              refine lv_goto (tgt := 18) cx.1 cx.2.1 dX5_marginOf_63 (by decide) ?_
              exact ih18 (i + 1) (by omega) (by omega)  H locs ls hW hS (lv_sub (l' := [(0, .ref (ad_ w 20 0)), (1, .int (nI m)), (2, .long (qm_ a m n v)), (4, .int (nI v)), (5, .long (qs_ a v m (i + 1))), (7, .int (nI (i + 1)))]) hl [2, 3, 4, 5, 1, 0] rfl)
        exact L18 (n - 0 + 1) 0 (by omega) (by omega)  H locs ls hW hS (lv_sub hl [2, 3, 4, 5, 1, 0] rfl)
  exact L5 (8 - 0 + 1) 0 (by omega) (by omega)  H locs ls hW hS (lv_sub hl [2, 3, 1, 0] rfl)
def qc_ (a : St_) (m n : Nat) : Int64 := if gi_ a 23 0 m = 0 ∧ 0 ≤ qg_ a m n - gl_ a 20 0 m then qg_ a m n - gl_ a 20 0 m else 0
set_option maxHeartbeats 4000000 in
set_option maxRecDepth 100000 in
theorem c_X5_callOf (l : Launch) {w : Gh_} (hI : In_ w) (a : St_) (n : Nat) (hn : gi_ a 22 0 0 = nI n) (hn6 : n ≤ 6) (m : Nat) (hm : m < 8) : Fn_ l w yX5_callOf (.code yX5_callOf cX5_callOf 4 (some .long)) { frames := 1, cells := 0, slots := 0, locals := 27 } 0 0 [.ref (ad_ w 20 0), .int (nI m)] a (.inl (some (.long (qc_ a m n)))) a := by
  refine Fn_of hI (by decide +kernel) (Nat.le_of_ble_eq_true rfl) ?_
  intro zp ze zs zm zb zt zc ls cx hr hlk hno hW hS hl
  replace cx : Cx_ zp zs zm zc _ cX5_callOf 4 "MarginHouseModel" w := cx
  replace hl : lv_has ls 4 [(0, .ref (ad_ w 20 0)), (1, .int (nI m))] := hl
  obtain ⟨H, hH⟩ : ∃ H, zs.heap = H := ⟨_, rfl⟩
  rw [hH] at hW
  have hS : Fr_ w zs.heap H [] := by rw [← hH]; exact hS
  obtain ⟨locs, hlocs⟩ : ∃ x : List Loc, x = [] := ⟨_, rfl⟩
  rw [← hlocs] at hS ⊢
  rw [show W zp l ze _ zs zm _ zb zt zc zs.heap locs 0 0 _ (F0 zm 0 ls []) ↔ W zp l ze _ zs zm _ zb zt zc H locs 0 0 _ (F0 zm 0 ls []) from by rw [hH]]
  refine lv_aload_n cx.1 cx.2.1 dX5_callOf_0 rfl (lv_at hl 0 rfl) ?_
  refine lv_iload_n cx.1 cx.2.1 dX5_callOf_1 rfl (lv_at hl 1 rfl) ?_
  refine ck_V (v := some (.long (qg_ a m n))) (As := [.int (nI m)]) (rest := []) (k := 20) (i := 0) (T := TX5) cx hW hS hl (by decide) rfl rfl (c_X5_marginOf l hI a n hn hn6 m (by omega)) cw_X5_marginOf nw_447 nw_543 nw_446 rfl rfl (Nat.le_of_ble_eq_true rfl) rfl rfl ⟨Nat.le_of_ble_eq_true rfl, Nat.le_of_ble_eq_true rfl⟩ ⟨Nat.le_of_ble_eq_true rfl, Nat.le_of_ble_eq_true rfl⟩ dX5_callOf_2 (fun H locs hW hS => ?_)
  refine W.eq (g2 := F0 zm 5 ls [.long (qg_ a m n)]) rfl ?_
  refine lv_aload_n cx.1 cx.2.1 dX5_callOf_5 rfl (lv_at hl 0 rfl) ?_
  refine gf_X5_7 cx hW (by decide) dX5_callOf_6 ?_
  refine lv_iload_n cx.1 cx.2.1 dX5_callOf_9 rfl (lv_at hl 1 rfl) ?_
  refine al_21 (j := m) cx hW (by decide) rfl (by omega) dX5_callOf_10 ?_
  refine lv_lsub cx.1 cx.2.1 dX5_callOf_11 ?_
  refine lv_lstore_n (lv' := [(2, .long ((qg_ a m n) - (gl_ a 20 0 m))), (0, .ref (ad_ w 20 0)), (1, .int (nI m))]) cx.1 cx.2.1 dX5_callOf_12 rfl hl (by decide) rfl (fun ls hl => ?_)
  refine lv_aload_n cx.1 cx.2.1 dX5_callOf_13 rfl (lv_at hl 1 rfl) ?_
  refine gf_X5_16 cx hW (by decide) dX5_callOf_14 ?_
  refine lv_iload_n cx.1 cx.2.1 dX5_callOf_17 rfl (lv_at hl 2 rfl) ?_
  refine al_23 (j := m) cx hW (by decide) rfl (by omega) dX5_callOf_18 ?_
  refine lv_if_ne (tgt := 28) cx.1 cx.2.1 dX5_callOf_19 (by decide) (fun h19 => ?_) (fun h19 => ?_)
  · skip
    skip
    refine lv_lconst (v := 0) cx.1 cx.2.1 dX5_callOf_28 (by decide) ?_
    refine lv_goto (tgt := 33) cx.1 cx.2.1 dX5_callOf_29 (by decide) ?_
    exact cr_l cx hr hlk hW hS (Nat.le_of_ble_eq_true rfl) (Nat.le_of_ble_eq_true rfl) dX5_callOf_33 (by rw [qc_, if_neg (fun z => h19 z.1)]) rfl
  · skip
    refine lv_lload_n cx.1 cx.2.1 dX5_callOf_22 rfl (lv_at hl 0 rfl) ?_
    refine lv_lconst (v := 0) cx.1 cx.2.1 dX5_callOf_23 (by decide) ?_
    refine lc_ge (tgt := 32) cx.1 cx.2.1 dX5_callOf_24 dX5_callOf_25 (by decide) (fun h24 => ?_) (fun h24 => ?_)
    · skip
      skip
      refine lv_lload_n cx.1 cx.2.1 dX5_callOf_32 rfl (lv_at hl 0 rfl) ?_
      exact cr_l cx hr hlk hW hS (Nat.le_of_ble_eq_true rfl) (Nat.le_of_ble_eq_true rfl) dX5_callOf_33 (by rw [qc_, if_pos ⟨h19, h24⟩]) rfl
    · skip
      skip
      refine lv_lconst (v := 0) cx.1 cx.2.1 dX5_callOf_28 (by decide) ?_
      refine lv_goto (tgt := 33) cx.1 cx.2.1 dX5_callOf_29 (by decide) ?_
      exact cr_l cx hr hlk hW hS (Nat.le_of_ble_eq_true rfl) (Nat.le_of_ble_eq_true rfl) dX5_callOf_33 (by rw [qc_, if_neg (fun z => h24 z.2)]) rfl
def bb_ (a : St_) (j : Nat) : Nat → Option Nat
  | 0 => none
  | i + 1 => if gi_ a 23 0 i = 0 then (match bb_ a j i with | none => some i | some q => if gi_ a 25 0 (6 * q + j) ≤ gi_ a 25 0 (6 * i + j) then some q else some i) else bb_ a j i
theorem bb_lt (a : St_) (j : Nat) : ∀ (i q : Nat), bb_ a j i = some q → q < i
  | 0, q, h => by cases h
  | i + 1, q, h => by
    have ih := bb_lt a j i
    unfold bb_ at h
    by_cases hs : gi_ a 23 0 i = 0
    · rw [if_pos hs] at h
      cases hl : bb_ a j i with
      | none => rw [hl] at h; cases h; omega
      | some z =>
        have := ih z hl
        rw [hl] at h
        dsimp only at h
        split at h <;> cases h <;> omega
    · rw [if_neg hs] at h
      have := ih q h
      omega
theorem ov_lt {o : Option Nat} (h : ov_ o < 0) (hq : ∀ q, o = some q → q < 1000) : o = none := by
  cases o with
  | none => rfl
  | some q => exact absurd h (nI_pos (by have := hq q rfl; omega))
theorem ov_ge {o : Option Nat} (h : ¬ ov_ o < 0) : ∃ q, o = some q := by
  cases o with
  | none => exact absurd (by decide : (-1 : Int32) < 0) h
  | some q => exact ⟨q, rfl⟩
set_option maxHeartbeats 4000000 in
set_option maxRecDepth 100000 in
theorem c_X5_bestBid (l : Launch) {w : Gh_} (hI : In_ w) (a : St_) (k : Nat) (hk : gi_ a 21 0 0 = nI k) (hk8 : k ≤ 8) (j : Nat) (hj : j < 6) : Fn_ l w yX5_bestBid (.code yX5_bestBid cX5_bestBid 4 (some .int)) { frames := 0, cells := 0, slots := 0, locals := 0 } 0 0 [.ref (ad_ w 20 0), .int (nI j)] a (.inl (some (.int (ov_ (bb_ a j k))))) a := by
  refine Fn_of hI (by decide +kernel) (Nat.le_of_ble_eq_true rfl) ?_
  intro zp ze zs zm zb zt zc ls cx hr hlk hno hW hS hl
  replace cx : Cx_ zp zs zm zc _ cX5_bestBid 4 "MarginHouseModel" w := cx
  replace hl : lv_has ls 4 [(0, .ref (ad_ w 20 0)), (1, .int (nI j))] := hl
  obtain ⟨H, hH⟩ : ∃ H, zs.heap = H := ⟨_, rfl⟩
  rw [hH] at hW
  have hS : Fr_ w zs.heap H [] := by rw [← hH]; exact hS
  obtain ⟨locs, hlocs⟩ : ∃ x : List Loc, x = [] := ⟨_, rfl⟩
  rw [← hlocs] at hS ⊢
  rw [show W zp l ze _ zs zm _ zb zt zc zs.heap locs 0 0 _ (F0 zm 0 ls []) ↔ W zp l ze _ zs zm _ zb zt zc H locs 0 0 _ (F0 zm 0 ls []) from by rw [hH]]
  refine lv_iconst (v := -1) cx.1 cx.2.1 dX5_bestBid_0 (by decide) ?_
  refine lv_istore_n (lv' := [(2, .int (-1)), (0, .ref (ad_ w 20 0)), (1, .int (nI j))]) cx.1 cx.2.1 dX5_bestBid_1 rfl hl (by decide) rfl (fun ls hl => ?_)
  refine lv_iconst (v := 0) cx.1 cx.2.1 dX5_bestBid_2 (by decide) ?_
  refine lv_istore_n (lv' := [(3, .int 0), (2, .int (-1)), (0, .ref (ad_ w 20 0)), (1, .int (nI j))]) cx.1 cx.2.1 dX5_bestBid_3 rfl hl (by decide) rfl (fun ls hl => ?_)
  have L4 : ∀ (d i : Nat), i ≤ k → k - i < d → ∀ (H : Heap) (locs : List Loc) (ls : Array Slot), Hd_ w a H → Fr_ w zs.heap H locs → lv_has ls 4 [(0, .ref (ad_ w 20 0)), (1, .int (nI j)), (2, .int (ov_ (bb_ a j i))), (3, .int (nI i))] → W zp l ze { frames := 0, cells := 0, slots := 0, locals := 0 } zs zm ([.ref (ad_ w 20 0), .int (nI j)] : List Value).toArray zb zt zc H locs 0 0 (vx_MQ zb (Qc_ w (.inl (some (.int (ov_ (bb_ a j k))))) a) (XC_ w (.inl (some (.int (ov_ (bb_ a j k))))) a) ([.ref (ad_ w 20 0), .int (nI j)] : List Value).toArray zs 0 0 (fun q => lo_ w ≤ q)) (F0 zm 4 ls []) := by
    intro d
    induction d with
    | zero => intro i _ hd; exact absurd hd (Nat.not_lt_zero _)
    | succ d ih4 =>
      intro i hi hdi  H locs ls hW hS hl
      refine lv_iload_n cx.1 cx.2.1 dX5_bestBid_4 rfl (lv_at hl 3 rfl) ?_
      refine lv_aload_n cx.1 cx.2.1 dX5_bestBid_5 rfl (lv_at hl 0 rfl) ?_
      refine gf_X5_66 cx hW (by decide) dX5_bestBid_6 ?_
      refine tp_i (y := nI k) hk ?_
      refine lv_icmp_ge (tgt := 58) cx.1 cx.2.1 dX5_bestBid_9 (by decide) (fun h9 => ?_) (fun h9 => ?_)
      · skip
        have h9 : k ≤ i := (nI_leI (by omega) (by omega)).mp h9
        have e4 : i = k := by omega
        try rw [e4] at hl
        try rw [e4] at hW
        refine lv_iload_n cx.1 cx.2.1 dX5_bestBid_58 rfl (lv_at hl 2 rfl) ?_
        exact cr_i cx hr hlk hW hS (Nat.le_of_ble_eq_true rfl) (Nat.le_of_ble_eq_true rfl) dX5_bestBid_59 rfl rfl
      · skip
        have h9 : i < k := Nat.not_le.mp (fun q => h9 ((nI_leI (by omega) (by omega)).mpr q))
        refine lv_aload_n cx.1 cx.2.1 dX5_bestBid_12 rfl (lv_at hl 0 rfl) ?_
        refine gf_X5_16 cx hW (by decide) dX5_bestBid_13 ?_
        refine lv_iload_n cx.1 cx.2.1 dX5_bestBid_16 rfl (lv_at hl 3 rfl) ?_
        refine al_23 (j := i) cx hW (by decide) rfl (by omega) dX5_bestBid_17 ?_
        refine lv_if_ne (tgt := 52) cx.1 cx.2.1 dX5_bestBid_18 (by decide) (fun h18 => ?_) (fun h18 => ?_)
        · skip
          have hE : ov_ (bb_ a j i) = ov_ (bb_ a j (i + 1)) := by simp only [bb_, h18, if_false]
          refine lv_iinc (v := nI (i + 1)) (lv' := [(3, .int (nI (i + 1))), (0, .ref (ad_ w 20 0)), (1, .int (nI j)), (2, .int (ov_ (bb_ a j i)))]) cx.1 cx.2.1 dX5_bestBid_52 hl (k := 3) rfl (nI_inc i) (by decide) rfl (fun ls hl => ?_)
          refine lv_goto (tgt := 4) cx.1 cx.2.1 dX5_bestBid_55 (by decide) ?_
          exact ih4 (i + 1) (by omega) (by omega)  H locs ls hW hS (lv_sub (l' := [(0, .ref (ad_ w 20 0)), (1, .int (nI j)), (2, .int (ov_ (bb_ a j (i + 1)))), (3, .int (nI (i + 1)))]) hl [1, 2, 3, 0] (by rw [← hE]; rfl))
        · skip
          refine lv_iload_n cx.1 cx.2.1 dX5_bestBid_21 rfl (lv_at hl 2 rfl) ?_
          refine lv_if_lt (tgt := 50) cx.1 cx.2.1 dX5_bestBid_22 (by decide) (fun h22 => ?_) (fun h22 => ?_)
          · skip
            have hb0 : ∀ q, bb_ a j i = some q → q < 1000 := fun q h => by have := bb_lt a j i q h; omega
            have hE : nI i = ov_ (bb_ a j (i + 1)) := by simp only [bb_, h18, if_true, ov_lt h22 hb0]; rfl
            refine lv_iload_n cx.1 cx.2.1 dX5_bestBid_50 rfl (lv_at hl 3 rfl) ?_
            refine lv_istore_n (lv' := [(2, .int (nI i)), (0, .ref (ad_ w 20 0)), (1, .int (nI j)), (3, .int (nI i))]) cx.1 cx.2.1 dX5_bestBid_51 rfl hl (by decide) rfl (fun ls hl => ?_)
            refine lv_iinc (v := nI (i + 1)) (lv' := [(3, .int (nI (i + 1))), (2, .int (nI i)), (0, .ref (ad_ w 20 0)), (1, .int (nI j))]) cx.1 cx.2.1 dX5_bestBid_52 hl (k := 3) rfl (nI_inc i) (by decide) rfl (fun ls hl => ?_)
            refine lv_goto (tgt := 4) cx.1 cx.2.1 dX5_bestBid_55 (by decide) ?_
            exact ih4 (i + 1) (by omega) (by omega)  H locs ls hW hS (lv_sub (l' := [(0, .ref (ad_ w 20 0)), (1, .int (nI j)), (2, .int (ov_ (bb_ a j (i + 1)))), (3, .int (nI (i + 1)))]) hl [2, 3, 1, 0] (by rw [← hE]; rfl))
          · skip
            obtain ⟨q, hq⟩ := ov_ge h22
            have hqi := bb_lt a j i q hq
            refine lv_aload_n cx.1 cx.2.1 dX5_bestBid_25 rfl (lv_at hl 0 rfl) ?_
            refine gf_X5_23 cx hW (by decide) dX5_bestBid_26 ?_
            refine lv_bipush (v := 6) cx.1 cx.2.1 dX5_bestBid_29 (by decide) ?_
            refine lv_iload_n cx.1 cx.2.1 dX5_bestBid_31 rfl (lv_at hl 3 rfl) ?_
            refine lv_imul cx.1 cx.2.1 dX5_bestBid_32 ?_
            refine lv_iload_n cx.1 cx.2.1 dX5_bestBid_33 rfl (lv_at hl 1 rfl) ?_
            refine lv_iadd cx.1 cx.2.1 dX5_bestBid_34 ?_
            refine al_25 (j := 6 * i + j) cx hW (by decide) (n6_ i j) (by omega) dX5_bestBid_35 ?_
            refine lv_aload_n cx.1 cx.2.1 dX5_bestBid_36 rfl (lv_at hl 0 rfl) ?_
            refine gf_X5_23 cx hW (by decide) dX5_bestBid_37 ?_
            refine lv_bipush (v := 6) cx.1 cx.2.1 dX5_bestBid_40 (by decide) ?_
            refine lv_iload_n cx.1 cx.2.1 dX5_bestBid_42 rfl (lv_at hl 2 rfl) ?_
            refine tp_i (y := nI q) (by rw [hq]; rfl) ?_
            refine lv_imul cx.1 cx.2.1 dX5_bestBid_43 ?_
            refine lv_iload_n cx.1 cx.2.1 dX5_bestBid_44 rfl (lv_at hl 1 rfl) ?_
            refine lv_iadd cx.1 cx.2.1 dX5_bestBid_45 ?_
            refine al_25 (j := 6 * q + j) cx hW (by decide) (n6_ q j) (by omega) dX5_bestBid_46 ?_
            refine lv_icmp_ge (tgt := 52) cx.1 cx.2.1 dX5_bestBid_47 (by decide) (fun h47 => ?_) (fun h47 => ?_)
            · skip
              have hE : ov_ (bb_ a j i) = ov_ (bb_ a j (i + 1)) := by rw [hq]; simp only [bb_, h18, if_true, hq, h47]
              refine lv_iinc (v := nI (i + 1)) (lv' := [(3, .int (nI (i + 1))), (0, .ref (ad_ w 20 0)), (1, .int (nI j)), (2, .int (ov_ (bb_ a j i)))]) cx.1 cx.2.1 dX5_bestBid_52 hl (k := 3) rfl (nI_inc i) (by decide) rfl (fun ls hl => ?_)
              refine lv_goto (tgt := 4) cx.1 cx.2.1 dX5_bestBid_55 (by decide) ?_
              exact ih4 (i + 1) (by omega) (by omega)  H locs ls hW hS (lv_sub (l' := [(0, .ref (ad_ w 20 0)), (1, .int (nI j)), (2, .int (ov_ (bb_ a j (i + 1)))), (3, .int (nI (i + 1)))]) hl [1, 2, 3, 0] (by rw [← hE]; rfl))
            · skip
              have hE : nI i = ov_ (bb_ a j (i + 1)) := by simp only [bb_, h18, if_true, hq, h47, if_false]; rfl
              refine lv_iload_n cx.1 cx.2.1 dX5_bestBid_50 rfl (lv_at hl 3 rfl) ?_
              refine lv_istore_n (lv' := [(2, .int (nI i)), (0, .ref (ad_ w 20 0)), (1, .int (nI j)), (3, .int (nI i))]) cx.1 cx.2.1 dX5_bestBid_51 rfl hl (by decide) rfl (fun ls hl => ?_)
              refine lv_iinc (v := nI (i + 1)) (lv' := [(3, .int (nI (i + 1))), (2, .int (nI i)), (0, .ref (ad_ w 20 0)), (1, .int (nI j))]) cx.1 cx.2.1 dX5_bestBid_52 hl (k := 3) rfl (nI_inc i) (by decide) rfl (fun ls hl => ?_)
              refine lv_goto (tgt := 4) cx.1 cx.2.1 dX5_bestBid_55 (by decide) ?_
              exact ih4 (i + 1) (by omega) (by omega)  H locs ls hW hS (lv_sub (l' := [(0, .ref (ad_ w 20 0)), (1, .int (nI j)), (2, .int (ov_ (bb_ a j (i + 1)))), (3, .int (nI (i + 1)))]) hl [2, 3, 1, 0] (by rw [← hE]; rfl))
  exact L4 (k - 0 + 1) 0 (by omega) (by omega)  H locs ls hW hS (lv_sub hl [2, 3, 1, 0] rfl)
def cc_ (a : St_) (m : Nat) (x : Int64) : St_ := sl_ a 20 0 m (gl_ a 20 0 m + x)
def ch_ (a : St_) (m : Nat) (x : Int64) : St_ := si_ (cc_ a m x) 31 0 0 (if gi_ (cc_ a m x) 31 0 0 = 0 ∧ tm_ (gl_ (cc_ a m x) 20 0 m) then 0 else 1)
set_option maxHeartbeats 4000000 in
set_option maxRecDepth 100000 in
theorem c_X5_change (l : Launch) {w : Gh_} (hI : In_ w) (a : St_) (m : Nat) (hm : m < 8) (x : Int64) : Fn_ l w yX5_change (.code yX5_change cX5_change 4 none) { frames := 1, cells := 0, slots := 0, locals := 21 } 0 0 [.ref (ad_ w 20 0), .int (nI m), .long x] a (.inl none) (ch_ a m x) := by
  refine Fn_of hI (by decide +kernel) (Nat.le_of_ble_eq_true rfl) ?_
  intro zp ze zs zm zb zt zc ls cx hr hlk hno hW hS hl
  replace cx : Cx_ zp zs zm zc _ cX5_change 4 "MarginHouseModel" w := cx
  replace hl : lv_has ls 4 [(0, .ref (ad_ w 20 0)), (1, .int (nI m)), (2, .long x)] := hl
  obtain ⟨H, hH⟩ : ∃ H, zs.heap = H := ⟨_, rfl⟩
  rw [hH] at hW
  have hS : Fr_ w zs.heap H [] := by rw [← hH]; exact hS
  obtain ⟨locs, hlocs⟩ : ∃ x : List Loc, x = [] := ⟨_, rfl⟩
  rw [← hlocs] at hS ⊢
  rw [show W zp l ze _ zs zm _ zb zt zc zs.heap locs 0 0 _ (F0 zm 0 ls []) ↔ W zp l ze _ zs zm _ zb zt zc H locs 0 0 _ (F0 zm 0 ls []) from by rw [hH]]
  refine lv_aload_n cx.1 cx.2.1 dX5_change_0 rfl (lv_at hl 0 rfl) ?_
  refine gf_X5_7 cx hW (by decide) dX5_change_1 ?_
  refine lv_iload_n cx.1 cx.2.1 dX5_change_4 rfl (lv_at hl 1 rfl) ?_
  refine lv_aload_n cx.1 cx.2.1 dX5_change_5 rfl (lv_at hl 0 rfl) ?_
  refine gf_X5_7 cx hW (by decide) dX5_change_6 ?_
  refine lv_iload_n cx.1 cx.2.1 dX5_change_9 rfl (lv_at hl 1 rfl) ?_
  refine al_21 (j := m) cx hW (by decide) rfl (by omega) dX5_change_10 ?_
  refine lv_lload_n cx.1 cx.2.1 dX5_change_11 rfl (lv_at hl 2 rfl) ?_
  refine lv_ladd cx.1 cx.2.1 dX5_change_12 ?_
  refine as_21 (j := m) cx hW hS (by decide) rfl (by omega) dX5_change_13 (fun H locs hW hS => ?_)
  replace hW : Hd_ w (cc_ a m x) H := hW
  refine lv_aload_n cx.1 cx.2.1 dX5_change_14 rfl (lv_at hl 0 rfl) ?_
  refine lv_aload_n cx.1 cx.2.1 dX5_change_15 rfl (lv_at hl 0 rfl) ?_
  refine gf_X5_117 cx hW (by decide) dX5_change_16 ?_
  refine lv_if_ne (tgt := 34) cx.1 cx.2.1 dX5_change_19 (by decide) (fun h19 => ?_) (fun h19 => ?_)
  · skip
    skip
    refine lv_iconst (v := 1) cx.1 cx.2.1 dX5_change_34 (by decide) ?_
    refine lv_goto (tgt := 39) cx.1 cx.2.1 dX5_change_35 (by decide) ?_
    refine pf_X5_117 cx hW hS (by decide) (Or.inr rfl) dX5_change_39 (fun H locs hW hS => ?_)
    exact cr_v cx hr hlk hW hS (Nat.le_of_ble_eq_true rfl) (Nat.le_of_ble_eq_true rfl) dX5_change_42 rfl (by rw [ch_, if_neg (fun z => h19 z.1)])
  · skip
    refine lv_aload_n cx.1 cx.2.1 dX5_change_22 rfl (lv_at hl 0 rfl) ?_
    refine gf_X5_7 cx hW (by decide) dX5_change_23 ?_
    refine lv_iload_n cx.1 cx.2.1 dX5_change_26 rfl (lv_at hl 1 rfl) ?_
    refine al_21 (j := m) cx hW (by decide) rfl (by omega) dX5_change_27 ?_
    refine ck_S (v := some (.int (if ¬ tm_ (gl_ (cc_ a m x) 20 0 m) then 1 else 0))) (As := [.long (gl_ (cc_ a m x) 20 0 m)]) (rest := [.ref (ad_ w 20 0)]) cx hW hS hl (c_X5_isFar l hI (cc_ a m x) (gl_ (cc_ a m x) 20 0 m)) cw_X5_isFar nw_418 nw_417 rfl rfl (Nat.le_of_ble_eq_true rfl) rfl rfl ⟨Nat.le_of_ble_eq_true rfl, Nat.le_of_ble_eq_true rfl⟩ ⟨Nat.le_of_ble_eq_true rfl, Nat.le_of_ble_eq_true rfl⟩ dX5_change_28 (fun H locs hW hS => ?_)
    refine W.eq (g2 := F0 zm 31 ls [.int (if ¬ tm_ (gl_ (cc_ a m x) 20 0 m) then 1 else 0), .ref (ad_ w 20 0)]) rfl ?_
    refine lv_if_eq (tgt := 38) cx.1 cx.2.1 dX5_change_31 (by decide) (fun h31 => ?_) (fun h31 => ?_)
    · skip
      have h31 := bz_0 h31
      skip
      refine lv_iconst (v := 0) cx.1 cx.2.1 dX5_change_38 (by decide) ?_
      refine pf_X5_117 cx hW hS (by decide) (Or.inl rfl) dX5_change_39 (fun H locs hW hS => ?_)
      exact cr_v cx hr hlk hW hS (Nat.le_of_ble_eq_true rfl) (Nat.le_of_ble_eq_true rfl) dX5_change_42 rfl (by rw [ch_, if_pos ⟨h19, Classical.not_not.mp h31⟩])
    · skip
      have h31 := bz_1 h31
      skip
      refine lv_iconst (v := 1) cx.1 cx.2.1 dX5_change_34 (by decide) ?_
      refine lv_goto (tgt := 39) cx.1 cx.2.1 dX5_change_35 (by decide) ?_
      refine pf_X5_117 cx hW hS (by decide) (Or.inr rfl) dX5_change_39 (fun H locs hW hS => ?_)
      exact cr_v cx hr hlk hW hS (Nat.le_of_ble_eq_true rfl) (Nat.le_of_ble_eq_true rfl) dX5_change_42 rfl (by rw [ch_, if_neg (fun z => h31 z.2)])
def ga_ (a : St_) (q t j : Nat) : Int64 := (gi_ a 25 0 (6 * t + j)).toInt64 * (ab_ (gi_ a 24 0 (6 * q + j))).toInt64
def gb_ (a : St_) (q t j : Nat) : Int32 := gi_ a 24 0 (6 * t + j) + gi_ a 24 0 (6 * q + j)
def gc_ (a : St_) (q t j : Nat) : St_ := si_ (si_ (si_ a 31 0 0 (if gi_ a 31 0 0 = 0 ∧ ¬ 1000000 < gb_ a q t j ∧ -1000000 ≤ gb_ a q t j then 0 else 1)) 24 0 (6 * t + j) (gb_ a q t j)) 24 0 (6 * q + j) 0
def gd_ (a : St_) (q t j : Nat) : St_ := ch_ (ch_ (gc_ a q t j) t (ga_ a q t j)) q (-(ga_ a q t j))
def ge_ (a : St_) (q k j : Nat) : St_ := if gi_ a 24 0 (6 * q + j) = 0 then a else match bb_ a j k with
  | none => si_ a 31 0 0 1
  | some t => gd_ a q t j
theorem ng_ (x : Int32) : -x = 0 - x := by simp
set_option maxHeartbeats 4000000 in
set_option maxRecDepth 100000 in
theorem c_X5_give (l : Launch) {w : Gh_} (hI : In_ w) (a : St_) (k : Nat) (hk : gi_ a 21 0 0 = nI k) (hk8 : k ≤ 8) (q j : Nat) (hq : q < 8) (hj : j < 6) : Fn_ l w yX5_give (.code yX5_give cX5_give 8 none) { frames := 2, cells := 0, slots := 0, locals := 44 } 0 0 [.ref (ad_ w 20 0), .int (nI q), .int (nI j)] a (.inl none) (ge_ a q k j) := by
  refine Fn_of hI (by decide +kernel) (Nat.le_of_ble_eq_true rfl) ?_
  intro zp ze zs zm zb zt zc ls cx hr hlk hno hW hS hl
  replace cx : Cx_ zp zs zm zc _ cX5_give 8 "MarginHouseModel" w := cx
  replace hl : lv_has ls 8 [(0, .ref (ad_ w 20 0)), (1, .int (nI q)), (2, .int (nI j))] := hl
  obtain ⟨H, hH⟩ : ∃ H, zs.heap = H := ⟨_, rfl⟩
  rw [hH] at hW
  have hS : Fr_ w zs.heap H [] := by rw [← hH]; exact hS
  obtain ⟨locs, hlocs⟩ : ∃ x : List Loc, x = [] := ⟨_, rfl⟩
  rw [← hlocs] at hS ⊢
  rw [show W zp l ze _ zs zm _ zb zt zc zs.heap locs 0 0 _ (F0 zm 0 ls []) ↔ W zp l ze _ zs zm _ zb zt zc H locs 0 0 _ (F0 zm 0 ls []) from by rw [hH]]
  refine lv_aload_n cx.1 cx.2.1 dX5_give_0 rfl (lv_at hl 0 rfl) ?_
  refine gf_X5_20 cx hW (by decide) dX5_give_1 ?_
  refine lv_bipush (v := 6) cx.1 cx.2.1 dX5_give_4 (by decide) ?_
  refine lv_iload_n cx.1 cx.2.1 dX5_give_6 rfl (lv_at hl 1 rfl) ?_
  refine lv_imul cx.1 cx.2.1 dX5_give_7 ?_
  refine lv_iload_n cx.1 cx.2.1 dX5_give_8 rfl (lv_at hl 2 rfl) ?_
  refine lv_iadd cx.1 cx.2.1 dX5_give_9 ?_
  refine al_24 (j := 6 * q + j) cx hW (by decide) (n6_ q j) (by omega) dX5_give_10 ?_
  refine lv_istore_n (lv' := [(3, .int (gi_ a 24 0 (6 * q + j))), (0, .ref (ad_ w 20 0)), (1, .int (nI q)), (2, .int (nI j))]) cx.1 cx.2.1 dX5_give_11 rfl hl (by decide) rfl (fun ls hl => ?_)
  refine lv_iload_n cx.1 cx.2.1 dX5_give_12 rfl (lv_at hl 0 rfl) ?_
  refine lv_if_ne (tgt := 17) cx.1 cx.2.1 dX5_give_13 (by decide) (fun h13 => ?_) (fun h13 => ?_)
  · skip
    refine lv_aload_n cx.1 cx.2.1 dX5_give_17 rfl (lv_at hl 1 rfl) ?_
    refine lv_iload_n cx.1 cx.2.1 dX5_give_18 rfl (lv_at hl 3 rfl) ?_
    refine ck_V (v := some (.int (ov_ (bb_ a j k)))) (As := [.int (nI j)]) (rest := []) (k := 20) (i := 0) (T := TX5) cx hW hS hl (by decide) rfl rfl (c_X5_bestBid l hI a k hk hk8 j (by omega)) cw_X5_bestBid nw_483 nw_546 nw_482 rfl rfl (Nat.le_of_ble_eq_true rfl) rfl rfl ⟨Nat.le_of_ble_eq_true rfl, Nat.le_of_ble_eq_true rfl⟩ ⟨Nat.le_of_ble_eq_true rfl, Nat.le_of_ble_eq_true rfl⟩ dX5_give_19 (fun H locs hW hS => ?_)
    refine W.eq (g2 := F0 zm 22 ls [.int (ov_ (bb_ a j k))]) rfl ?_
    refine lv_istore (lv' := [(4, .int (ov_ (bb_ a j k))), (3, .int (gi_ a 24 0 (6 * q + j))), (0, .ref (ad_ w 20 0)), (1, .int (nI q)), (2, .int (nI j))]) cx.1 cx.2.1 dX5_give_22 hl (by decide) rfl (fun ls hl => ?_)
    refine lv_iload cx.1 cx.2.1 dX5_give_24 (lv_at hl 0 rfl) ?_
    refine lv_if_ge (tgt := 35) cx.1 cx.2.1 dX5_give_26 (by decide) (fun h26 => ?_) (fun h26 => ?_)
    · skip
      obtain ⟨t, ht⟩ := ov_ge (o := bb_ a j k) (Int32.not_lt.mpr h26)
      have htk := bb_lt _ _ _ _ ht
      rw [ht] at hl
      replace hl : lv_has ls 8 [(4, .int (nI t)), (3, .int (gi_ a 24 0 (6 * q + j))), (0, .ref (ad_ w 20 0)), (1, .int (nI q)), (2, .int (nI j))] := hl
      have J60 : ∀ (H : Heap) (locs : List Loc) (ls : Array Slot), Hd_ w a H → Fr_ w zs.heap H locs → lv_has ls 8 [(0, .ref (ad_ w 20 0)), (1, .int (nI q)), (2, .int (nI j)), (3, .int (gi_ a 24 0 (6 * q + j))), (4, .int (nI t))] → W zp l ze { frames := 2, cells := 0, slots := 0, locals := 44 } zs zm ([.ref (ad_ w 20 0), .int (nI q), .int (nI j)] : List Value).toArray zb zt zc H locs 0 0 (vx_MQ zb (Qc_ w (.inl none) (ge_ a q k j)) (XC_ w (.inl none) (ge_ a q k j)) ([.ref (ad_ w 20 0), .int (nI q), .int (nI j)] : List Value).toArray zs 0 0 (fun q => lo_ w ≤ q)) (F0 zm 60 ls [.long (ga_ a q t j)]) := by
        intro H locs ls hW hS hl
        refine tp_j (y := ga_ a q t j) rfl ?_
        refine lv_lstore (lv' := [(5, .long (ga_ a q t j)), (0, .ref (ad_ w 20 0)), (1, .int (nI q)), (2, .int (nI j)), (3, .int (gi_ a 24 0 (6 * q + j))), (4, .int (nI t))]) cx.1 cx.2.1 dX5_give_60 hl (by decide) rfl (fun ls hl => ?_)
        refine lv_aload_n cx.1 cx.2.1 dX5_give_62 rfl (lv_at hl 1 rfl) ?_
        refine gf_X5_20 cx hW (by decide) dX5_give_63 ?_
        refine lv_bipush (v := 6) cx.1 cx.2.1 dX5_give_66 (by decide) ?_
        refine lv_iload cx.1 cx.2.1 dX5_give_68 (lv_at hl 5 rfl) ?_
        refine lv_imul cx.1 cx.2.1 dX5_give_70 ?_
        refine lv_iload_n cx.1 cx.2.1 dX5_give_71 rfl (lv_at hl 3 rfl) ?_
        refine lv_iadd cx.1 cx.2.1 dX5_give_72 ?_
        refine al_24 (j := 6 * t + j) cx hW (by decide) (n6_ t j) (by omega) dX5_give_73 ?_
        refine lv_iload_n cx.1 cx.2.1 dX5_give_74 rfl (lv_at hl 4 rfl) ?_
        refine lv_iadd cx.1 cx.2.1 dX5_give_75 ?_
        refine tp_i (y := gb_ a q t j) rfl ?_
        refine lv_istore (lv' := [(7, .int (gb_ a q t j)), (5, .long (ga_ a q t j)), (0, .ref (ad_ w 20 0)), (1, .int (nI q)), (2, .int (nI j)), (3, .int (gi_ a 24 0 (6 * q + j))), (4, .int (nI t))]) cx.1 cx.2.1 dX5_give_76 hl (by decide) rfl (fun ls hl => ?_)
        have J105 : ∀ (H : Heap) (locs : List Loc) (ls : Array Slot), Hd_ w a H → Fr_ w zs.heap H locs → lv_has ls 8 [(0, .ref (ad_ w 20 0)), (1, .int (nI q)), (2, .int (nI j)), (3, .int (gi_ a 24 0 (6 * q + j))), (4, .int (nI t)), (5, .long (ga_ a q t j)), (7, .int (gb_ a q t j))] → W zp l ze { frames := 2, cells := 0, slots := 0, locals := 44 } zs zm ([.ref (ad_ w 20 0), .int (nI q), .int (nI j)] : List Value).toArray zb zt zc H locs 0 0 (vx_MQ zb (Qc_ w (.inl none) (ge_ a q k j)) (XC_ w (.inl none) (ge_ a q k j)) ([.ref (ad_ w 20 0), .int (nI q), .int (nI j)] : List Value).toArray zs 0 0 (fun q => lo_ w ≤ q)) (F0 zm 105 ls [.int (if gi_ a 31 0 0 = 0 ∧ ¬ 1000000 < gb_ a q t j ∧ -1000000 ≤ gb_ a q t j then 0 else 1), .ref (ad_ w 20 0)]) := by
          intro H locs ls hW hS hl
          refine pf_X5_117 cx hW hS (by decide) (by split; exact Or.inl rfl; exact Or.inr rfl) dX5_give_105 (fun H locs hW hS => ?_)
          refine lv_aload_n cx.1 cx.2.1 dX5_give_108 rfl (lv_at hl 0 rfl) ?_
          refine gf_X5_20 cx hW (by decide) dX5_give_109 ?_
          refine lv_bipush (v := 6) cx.1 cx.2.1 dX5_give_112 (by decide) ?_
          refine lv_iload cx.1 cx.2.1 dX5_give_114 (lv_at hl 4 rfl) ?_
          refine lv_imul cx.1 cx.2.1 dX5_give_116 ?_
          refine lv_iload_n cx.1 cx.2.1 dX5_give_117 rfl (lv_at hl 2 rfl) ?_
          refine lv_iadd cx.1 cx.2.1 dX5_give_118 ?_
          refine lv_iload cx.1 cx.2.1 dX5_give_119 (lv_at hl 6 rfl) ?_
          refine as_24 (j := 6 * t + j) cx hW hS (by decide) (n6_ t j) (by omega) dX5_give_121 (fun H locs hW hS => ?_)
          refine lv_aload_n cx.1 cx.2.1 dX5_give_122 rfl (lv_at hl 0 rfl) ?_
          refine gf_X5_20 cx hW (by decide) dX5_give_123 ?_
          refine lv_bipush (v := 6) cx.1 cx.2.1 dX5_give_126 (by decide) ?_
          refine lv_iload_n cx.1 cx.2.1 dX5_give_128 rfl (lv_at hl 1 rfl) ?_
          refine lv_imul cx.1 cx.2.1 dX5_give_129 ?_
          refine lv_iload_n cx.1 cx.2.1 dX5_give_130 rfl (lv_at hl 2 rfl) ?_
          refine lv_iadd cx.1 cx.2.1 dX5_give_131 ?_
          refine lv_iconst (v := 0) cx.1 cx.2.1 dX5_give_132 (by decide) ?_
          refine as_24 (j := 6 * q + j) cx hW hS (by decide) (n6_ q j) (by omega) dX5_give_133 (fun H locs hW hS => ?_)
          replace hW : Hd_ w (gc_ a q t j) H := hW
          refine lv_aload_n cx.1 cx.2.1 dX5_give_134 rfl (lv_at hl 0 rfl) ?_
          refine lv_iload cx.1 cx.2.1 dX5_give_135 (lv_at hl 4 rfl) ?_
          refine lv_lload cx.1 cx.2.1 dX5_give_137 (lv_at hl 5 rfl) ?_
          refine ck_V (v := none) (As := [.int (nI t), .long (ga_ a q t j)]) (rest := []) (k := 20) (i := 0) (T := TX5) cx hW hS hl (by decide) rfl rfl (c_X5_change l hI (gc_ a q t j) t (by omega) (ga_ a q t j)) cw_X5_change nw_486 nw_547 nw_485 rfl rfl (Nat.le_of_ble_eq_true rfl) rfl rfl ⟨Nat.le_of_ble_eq_true rfl, Nat.le_of_ble_eq_true rfl⟩ ⟨Nat.le_of_ble_eq_true rfl, Nat.le_of_ble_eq_true rfl⟩ dX5_give_139 (fun H locs hW hS => ?_)
          refine W.eq (g2 := F0 zm 142 ls []) rfl ?_
          refine lv_aload_n cx.1 cx.2.1 dX5_give_142 rfl (lv_at hl 0 rfl) ?_
          refine lv_iload_n cx.1 cx.2.1 dX5_give_143 rfl (lv_at hl 1 rfl) ?_
          refine lv_lload cx.1 cx.2.1 dX5_give_144 (lv_at hl 5 rfl) ?_
          refine lv_lneg cx.1 cx.2.1 dX5_give_146 ?_
          refine ck_V (v := none) (As := [.int (nI q), .long (-(ga_ a q t j))]) (rest := []) (k := 20) (i := 0) (T := TX5) cx hW hS hl (by decide) rfl rfl (c_X5_change l hI (ch_ (gc_ a q t j) t (ga_ a q t j)) q (by omega) (-(ga_ a q t j))) cw_X5_change nw_486 nw_547 nw_485 rfl rfl (Nat.le_of_ble_eq_true rfl) rfl rfl ⟨Nat.le_of_ble_eq_true rfl, Nat.le_of_ble_eq_true rfl⟩ ⟨Nat.le_of_ble_eq_true rfl, Nat.le_of_ble_eq_true rfl⟩ dX5_give_147 (fun H locs hW hS => ?_)
          refine W.eq (g2 := F0 zm 150 ls []) rfl ?_
          exact cr_v cx hr hlk hW hS (Nat.le_of_ble_eq_true rfl) (Nat.le_of_ble_eq_true rfl) dX5_give_150 rfl (by rw [ge_, if_neg h13, ht]; rfl)
        refine lv_aload_n cx.1 cx.2.1 dX5_give_78 rfl (lv_at hl 2 rfl) ?_
        refine lv_aload_n cx.1 cx.2.1 dX5_give_79 rfl (lv_at hl 2 rfl) ?_
        refine gf_X5_117 cx hW (by decide) dX5_give_80 ?_
        refine lv_if_ne (tgt := 100) cx.1 cx.2.1 dX5_give_83 (by decide) (fun h83 => ?_) (fun h83 => ?_)
        · skip
          skip
          refine lv_iconst (v := 1) cx.1 cx.2.1 dX5_give_100 (by decide) ?_
          refine lv_goto (tgt := 105) cx.1 cx.2.1 dX5_give_101 (by decide) ?_
          refine tp_i (y := if gi_ a 31 0 0 = 0 ∧ ¬ 1000000 < gb_ a q t j ∧ -1000000 ≤ gb_ a q t j then 0 else 1) (by rw [if_neg (fun z => h83 z.1)]) ?_
          exact J105 H locs ls hW hS (lv_sub hl [2, 3, 4, 5, 6, 1, 0] rfl)
        · skip
          refine lv_iload cx.1 cx.2.1 dX5_give_86 (lv_at hl 0 rfl) ?_
          refine lv_ldc (own := "MarginHouseModel") (v := 1000000) cx.1 cx.2.1 cx.2.2.2.1 (cx.2.2.2.2.1 _ nw_454) dX5_give_88 ?_
          refine lv_icmp_gt (tgt := 100) cx.1 cx.2.1 dX5_give_90 (by decide) (fun h90 => ?_) (fun h90 => ?_)
          · skip
            skip
            refine lv_iconst (v := 1) cx.1 cx.2.1 dX5_give_100 (by decide) ?_
            refine lv_goto (tgt := 105) cx.1 cx.2.1 dX5_give_101 (by decide) ?_
            refine tp_i (y := if gi_ a 31 0 0 = 0 ∧ ¬ 1000000 < gb_ a q t j ∧ -1000000 ≤ gb_ a q t j then 0 else 1) (by rw [if_neg (fun z => z.2.1 h90)]) ?_
            exact J105 H locs ls hW hS (lv_sub hl [2, 3, 4, 5, 6, 1, 0] rfl)
          · skip
            refine lv_iload cx.1 cx.2.1 dX5_give_93 (lv_at hl 0 rfl) ?_
            refine lv_ldc (own := "MarginHouseModel") (v := -1000000) cx.1 cx.2.1 cx.2.2.2.1 (cx.2.2.2.2.1 _ nw_455) dX5_give_95 ?_
            refine lv_icmp_ge (tgt := 104) cx.1 cx.2.1 dX5_give_97 (by decide) (fun h97 => ?_) (fun h97 => ?_)
            · skip
              skip
              refine lv_iconst (v := 0) cx.1 cx.2.1 dX5_give_104 (by decide) ?_
              refine tp_i (y := if gi_ a 31 0 0 = 0 ∧ ¬ 1000000 < gb_ a q t j ∧ -1000000 ≤ gb_ a q t j then 0 else 1) (by rw [if_pos ⟨h83, h90, h97⟩]) ?_
              exact J105 H locs ls hW hS (lv_sub hl [2, 3, 4, 5, 6, 1, 0] rfl)
            · skip
              skip
              refine lv_iconst (v := 1) cx.1 cx.2.1 dX5_give_100 (by decide) ?_
              refine lv_goto (tgt := 105) cx.1 cx.2.1 dX5_give_101 (by decide) ?_
              refine tp_i (y := if gi_ a 31 0 0 = 0 ∧ ¬ 1000000 < gb_ a q t j ∧ -1000000 ≤ gb_ a q t j then 0 else 1) (by rw [if_neg (fun z => h97 z.2.2)]) ?_
              exact J105 H locs ls hW hS (lv_sub hl [2, 3, 4, 5, 6, 1, 0] rfl)
      refine lv_aload_n cx.1 cx.2.1 dX5_give_35 rfl (lv_at hl 2 rfl) ?_
      refine gf_X5_23 cx hW (by decide) dX5_give_36 ?_
      refine lv_bipush (v := 6) cx.1 cx.2.1 dX5_give_39 (by decide) ?_
      refine lv_iload cx.1 cx.2.1 dX5_give_41 (lv_at hl 0 rfl) ?_
      refine lv_imul cx.1 cx.2.1 dX5_give_43 ?_
      refine lv_iload_n cx.1 cx.2.1 dX5_give_44 rfl (lv_at hl 4 rfl) ?_
      refine lv_iadd cx.1 cx.2.1 dX5_give_45 ?_
      refine al_25 (j := 6 * t + j) cx hW (by decide) (n6_ t j) (by omega) dX5_give_46 ?_
      refine lv_i2l (v := (gi_ a 25 0 (6 * t + j)).toInt64) cx.1 cx.2.1 dX5_give_47 rfl ?_
      refine lv_iload_n cx.1 cx.2.1 dX5_give_48 rfl (lv_at hl 1 rfl) ?_
      refine lv_if_ge (tgt := 57) cx.1 cx.2.1 dX5_give_49 (by decide) (fun h49 => ?_) (fun h49 => ?_)
      · skip
        skip
        refine lv_iload_n cx.1 cx.2.1 dX5_give_57 rfl (lv_at hl 1 rfl) ?_
        refine tp_i (y := ab_ (gi_ a 24 0 (6 * q + j))) (by rw [ab_, if_pos h49]) ?_
        refine lv_i2l (v := (ab_ (gi_ a 24 0 (6 * q + j))).toInt64) cx.1 cx.2.1 dX5_give_58 rfl ?_
        refine lv_lmul cx.1 cx.2.1 dX5_give_59 ?_
        refine tp_j (y := ga_ a q t j) rfl ?_
        exact J60 H locs ls hW hS (lv_sub hl [2, 3, 4, 1, 0] rfl)
      · skip
        skip
        refine lv_iload_n cx.1 cx.2.1 dX5_give_52 rfl (lv_at hl 1 rfl) ?_
        refine lv_ineg cx.1 cx.2.1 dX5_give_53 ?_
        refine lv_goto (tgt := 58) cx.1 cx.2.1 dX5_give_54 (by decide) ?_
        refine tp_i (y := ab_ (gi_ a 24 0 (6 * q + j))) (by rw [ab_, if_neg h49]; exact ng_ _) ?_
        refine lv_i2l (v := (ab_ (gi_ a 24 0 (6 * q + j))).toInt64) cx.1 cx.2.1 dX5_give_58 rfl ?_
        refine lv_lmul cx.1 cx.2.1 dX5_give_59 ?_
        refine tp_j (y := ga_ a q t j) rfl ?_
        exact J60 H locs ls hW hS (lv_sub hl [2, 3, 4, 1, 0] rfl)
    · skip
      skip
      refine lv_aload_n cx.1 cx.2.1 dX5_give_29 rfl (lv_at hl 2 rfl) ?_
      refine lv_iconst (v := 1) cx.1 cx.2.1 dX5_give_30 (by decide) ?_
      refine pf_X5_117 cx hW hS (by decide) (Or.inr rfl) dX5_give_31 (fun H locs hW hS => ?_)
      exact cr_v cx hr hlk hW hS (Nat.le_of_ble_eq_true rfl) (Nat.le_of_ble_eq_true rfl) dX5_give_34 rfl (by rw [ge_, if_neg h13, ov_lt (Int32.not_le.mp h26) (fun q h => by have := bb_lt _ _ _ _ h; omega)])
  · skip
    skip
    exact cr_v cx hr hlk hW hS (Nat.le_of_ble_eq_true rfl) (Nat.le_of_ble_eq_true rfl) dX5_give_16 rfl (by rw [ge_, if_pos h13])
