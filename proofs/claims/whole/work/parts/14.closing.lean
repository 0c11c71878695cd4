/-! MarginHouse: the takers, the layers, the carrying out -/
theorem tk_gi {a : St_} {q t j v x y : Nat} (h : v ≠ 10) : gi_ (tk_ a q t j) v x y = gi_ a v x y := by
  simp [tk_, gi_sl, gi_si, h]
def pt_ (q k : Nat) : Nat → Nat → St_ → Bool × St_
  | 0, _, b => (true, b)
  | f + 1, i, b => if gi_ (si_ b 10 0 i (-1)) 4 q i = 0 then pt_ q k f (i + 1) (si_ b 10 0 i (-1)) else
    match lb_ (si_ b 10 0 i (-1)) i k with
    | none => (false, si_ b 10 0 i (-1))
    | some t => if to_ (si_ b 10 0 i (-1)) q t i then pt_ q k f (i + 1) (tk_ (si_ b 10 0 i (-1)) q t i) else (false, tk_ (si_ b 10 0 i (-1)) q t i)
theorem pt_z {q k n i : Nat} {b : St_} (hi : i < n) (h : gi_ (si_ b 10 0 i (-1)) 4 q i = 0) : pt_ q k (n - i) i b = pt_ q k (n - (i + 1)) (i + 1) (si_ b 10 0 i (-1)) := by
  rw [show n - i = (n - (i + 1)) + 1 by omega, pt_, if_pos h]
theorem pt_n {q k n i : Nat} {b : St_} (hi : i < n) (h : ¬ gi_ (si_ b 10 0 i (-1)) 4 q i = 0) (hl : lb_ (si_ b 10 0 i (-1)) i k = none) : pt_ q k (n - i) i b = (false, si_ b 10 0 i (-1)) := by
  rw [show n - i = (n - (i + 1)) + 1 by omega, pt_, if_neg h, hl]
theorem pt_s {q k n i t : Nat} {b : St_} (hi : i < n) (h : ¬ gi_ (si_ b 10 0 i (-1)) 4 q i = 0) (hl : lb_ (si_ b 10 0 i (-1)) i k = some t) (ho : to_ (si_ b 10 0 i (-1)) q t i) : pt_ q k (n - i) i b = pt_ q k (n - (i + 1)) (i + 1) (tk_ (si_ b 10 0 i (-1)) q t i) := by
  rw [show n - i = (n - (i + 1)) + 1 by omega, pt_, if_neg h, hl]
  exact if_pos ho
theorem pt_f {q k n i t : Nat} {b : St_} (hi : i < n) (h : ¬ gi_ (si_ b 10 0 i (-1)) 4 q i = 0) (hl : lb_ (si_ b 10 0 i (-1)) i k = some t) (ho : ¬ to_ (si_ b 10 0 i (-1)) q t i) : pt_ q k (n - i) i b = (false, tk_ (si_ b 10 0 i (-1)) q t i) := by
  rw [show n - i = (n - (i + 1)) + 1 by omega, pt_, if_neg h, hl]
  exact if_neg ho
set_option maxHeartbeats 4000000 in
set_option maxRecDepth 100000 in
theorem c_X4_planTakers (l : Launch) {w : Gh_} (hI : In_ w) (a : St_) (k : Nat) (hk : gi_ a 0 0 0 = nI k) (hk8 : k ≤ 8) (n : Nat) (hn : gi_ a 1 0 0 = nI n) (hn6 : n ≤ 6) (q : Nat) (hq : q < 8) : Fn_ l w yX4_planTakers (.code yX4_planTakers cX4_planTakers 4 (some .boolean)) { frames := 3, cells := 0, slots := 0, locals := 72 } 0 0 [.ref (ad_ w 0 0), .int (nI q)] a (.inl (some (.int (if (pt_ q k n 0 a).1 = true then 1 else 0)))) ((pt_ q k n 0 a).2) := by
  refine Fn_of hI (by decide +kernel) (Nat.le_of_ble_eq_true rfl) ?_
  intro zp ze zs zm zb zt zc ls cx hr hlk hno hW hS hl
  replace cx : Cx_ zp zs zm zc _ cX4_planTakers 4 "MarginHouse" w := cx
  replace hl : lv_has ls 4 [(0, .ref (ad_ w 0 0)), (1, .int (nI q))] := hl
  obtain ⟨H, hH⟩ : ∃ H, zs.heap = H := ⟨_, rfl⟩
  rw [hH] at hW
  have hS : Fr_ w zs.heap H [] := by rw [← hH]; exact hS
  obtain ⟨locs, hlocs⟩ : ∃ x : List Loc, x = [] := ⟨_, rfl⟩
  rw [← hlocs] at hS ⊢
  rw [show W zp l ze _ zs zm _ zb zt zc zs.heap locs 0 0 _ (F0 zm 0 ls []) ↔ W zp l ze _ zs zm _ zb zt zc H locs 0 0 _ (F0 zm 0 ls []) from by rw [hH]]
  refine lv_iconst (v := 0) cx.1 cx.2.1 dX4_planTakers_0 (by decide) ?_
  refine lv_istore_n (lv' := [(2, .int 0), (0, .ref (ad_ w 0 0)), (1, .int (nI q))]) cx.1 cx.2.1 dX4_planTakers_1 rfl hl (by decide) rfl (fun ls hl => ?_)
  have L2 : ∀ (d i : Nat), i ≤ n → n - i < d → ∀ (b : St_), pt_ q k (n - i) i b = pt_ q k n 0 a → gi_ b 0 0 0 = nI k → gi_ b 1 0 0 = nI n → ∀ (H : Heap) (locs : List Loc) (ls : Array Slot), Hd_ w b H → Fr_ w zs.heap H locs → lv_has ls 4 [(0, .ref (ad_ w 0 0)), (1, .int (nI q)), (2, .int (nI i))] → W zp l ze { frames := 3, cells := 0, slots := 0, locals := 72 } zs zm ([.ref (ad_ w 0 0), .int (nI q)] : List Value).toArray zb zt zc H locs 0 0 (vx_MQ zb (Qc_ w (.inl (some (.int (if (pt_ q k n 0 a).1 = true then 1 else 0)))) ((pt_ q k n 0 a).2)) (XC_ w (.inl (some (.int (if (pt_ q k n 0 a).1 = true then 1 else 0)))) ((pt_ q k n 0 a).2)) ([.ref (ad_ w 0 0), .int (nI q)] : List Value).toArray zs 0 0 (fun q => lo_ w ≤ q)) (F0 zm 2 ls []) := by
    intro d
    induction d with
    | zero => intro i _ hd; exact absurd hd (Nat.not_lt_zero _)
    | succ d ih2 =>
      intro i hi hdi b hF hbk hbn H locs ls hW hS hl
      refine lv_iload_n cx.1 cx.2.1 dX4_planTakers_2 rfl (lv_at hl 2 rfl) ?_
      refine lv_aload_n cx.1 cx.2.1 dX4_planTakers_3 rfl (lv_at hl 0 rfl) ?_
      refine gf_X4_41 cx hW (by decide) dX4_planTakers_4 ?_
      refine tp_i (y := nI n) hbn ?_
      refine lv_icmp_ge (tgt := 63) cx.1 cx.2.1 dX4_planTakers_7 (by decide) (fun h7 => ?_) (fun h7 => ?_)
      · skip
        have h7 : n ≤ i := (nI_leI (by omega) (by omega)).mp h7
        have e2 : i = n := by omega
        try rw [e2] at hl
        try rw [e2] at hW
        refine lv_iconst (v := 1) cx.1 cx.2.1 dX4_planTakers_63 (by decide) ?_
        exact cr_z cx hr hlk (by decide) hW hS (Nat.le_of_ble_eq_true rfl) (Nat.le_of_ble_eq_true rfl) dX4_planTakers_64 (by rw [← hF, e2, Nat.sub_self]; rfl) (by rw [← hF, e2, Nat.sub_self]; rfl)
      · skip
        have h7 : i < n := Nat.not_le.mp (fun q => h7 ((nI_leI (by omega) (by omega)).mpr q))
        refine lv_aload_n cx.1 cx.2.1 dX4_planTakers_10 rfl (lv_at hl 0 rfl) ?_
        refine gf_X4_33 cx hW (by decide) dX4_planTakers_11 ?_
        refine gf_X4_197 cx hW (by decide) dX4_planTakers_14 ?_
        refine lv_iload_n cx.1 cx.2.1 dX4_planTakers_17 rfl (lv_at hl 2 rfl) ?_
        refine lv_iconst (v := -1) cx.1 cx.2.1 dX4_planTakers_18 (by decide) ?_
        refine as_11 (j := i) cx hW hS (by decide) rfl (by omega) dX4_planTakers_19 (fun H locs hW hS => ?_)
        refine lv_aload_n cx.1 cx.2.1 dX4_planTakers_20 rfl (lv_at hl 0 rfl) ?_
        refine gf_X4_11 cx hW (by decide) dX4_planTakers_21 ?_
        refine lv_iload_n cx.1 cx.2.1 dX4_planTakers_24 rfl (lv_at hl 1 rfl) ?_
        refine al_1 (j := q) cx hW (by decide) rfl (by omega) dX4_planTakers_25 ?_
        refine gf_X4_114 cx hW (by omega) dX4_planTakers_26 ?_
        refine lv_iload_n cx.1 cx.2.1 dX4_planTakers_29 rfl (lv_at hl 2 rfl) ?_
        refine al_7 (j := i) cx hW (by omega) rfl (by omega) dX4_planTakers_30 ?_
        refine lv_if_eq (tgt := 57) cx.1 cx.2.1 dX4_planTakers_31 (by decide) (fun h31 => ?_) (fun h31 => ?_)
        · skip
          refine lv_iinc (v := nI (i + 1)) (lv' := [(2, .int (nI (i + 1))), (0, .ref (ad_ w 0 0)), (1, .int (nI q))]) cx.1 cx.2.1 dX4_planTakers_57 hl (k := 2) rfl (nI_inc i) (by decide) rfl (fun ls hl => ?_)
          refine lv_goto (tgt := 2) cx.1 cx.2.1 dX4_planTakers_60 (by decide) ?_
          exact ih2 (i + 1) (by omega) (by omega) (si_ b 10 0 i (-1)) (by rw [← hF]; exact (pt_z h7 h31).symm) (by rw [gi_si, if_neg (by omega)]; exact hbk) (by rw [gi_si, if_neg (by omega)]; exact hbn) H locs ls hW hS (lv_sub (l' := [(0, .ref (ad_ w 0 0)), (1, .int (nI q)), (2, .int (nI (i + 1)))]) hl [1, 2, 0] rfl)
        · skip
          have hk1 : gi_ (si_ b 10 0 i (-1)) 0 0 0 = nI k := by rw [gi_si, if_neg (by omega)]; exact hbk
          refine lv_aload_n cx.1 cx.2.1 dX4_planTakers_34 rfl (lv_at hl 0 rfl) ?_
          refine lv_iload_n cx.1 cx.2.1 dX4_planTakers_35 rfl (lv_at hl 2 rfl) ?_
          refine ck_V (v := some (.int (ov_ (lb_ (si_ b 10 0 i (-1)) i k)))) (As := [.int (nI i)]) (rest := []) (k := 0) (i := 0) (T := TX4) cx hW hS hl (by decide) rfl rfl (c_X4_leastBidder l hI (si_ b 10 0 i (-1)) k hk1 hk8 i (by omega)) cw_X4_leastBidder nw_256 nw_527 nw_255 rfl rfl (Nat.le_of_ble_eq_true rfl) rfl rfl ⟨Nat.le_of_ble_eq_true rfl, Nat.le_of_ble_eq_true rfl⟩ ⟨Nat.le_of_ble_eq_true rfl, Nat.le_of_ble_eq_true rfl⟩ dX4_planTakers_36 (fun H locs hW hS => ?_)
          refine W.eq (g2 := F0 zm 39 ls [.int (ov_ (lb_ (si_ b 10 0 i (-1)) i k))]) rfl ?_
          refine lv_istore_n (lv' := [(3, .int (ov_ (lb_ (si_ b 10 0 i (-1)) i k))), (0, .ref (ad_ w 0 0)), (1, .int (nI q)), (2, .int (nI i))]) cx.1 cx.2.1 dX4_planTakers_39 rfl hl (by decide) rfl (fun ls hl => ?_)
          refine lv_iload_n cx.1 cx.2.1 dX4_planTakers_40 rfl (lv_at hl 0 rfl) ?_
          refine lv_iconst (v := -1) cx.1 cx.2.1 dX4_planTakers_41 (by decide) ?_
          refine lv_icmp_eq (tgt := 55) cx.1 cx.2.1 dX4_planTakers_42 (by decide) (fun h42 => ?_) (fun h42 => ?_)
          · skip
            refine lv_iconst (v := 0) cx.1 cx.2.1 dX4_planTakers_55 (by decide) ?_
            exact cr_z cx hr hlk (by decide) hW hS (Nat.le_of_ble_eq_true rfl) (Nat.le_of_ble_eq_true rfl) dX4_planTakers_56 (by rw [← hF, pt_n h7 h31 (ov_m1 h42 (fun q h => by have := lb_lt _ _ _ _ h; omega))]; rfl) (by rw [← hF, pt_n h7 h31 (ov_m1 h42 (fun q h => by have := lb_lt _ _ _ _ h; omega))])
          · skip
            obtain ⟨t, ht⟩ := ov_ne h42
            have hti := lb_lt _ _ _ _ ht
            refine lv_aload_n cx.1 cx.2.1 dX4_planTakers_45 rfl (lv_at hl 1 rfl) ?_
            refine lv_iload_n cx.1 cx.2.1 dX4_planTakers_46 rfl (lv_at hl 2 rfl) ?_
            refine lv_iload_n cx.1 cx.2.1 dX4_planTakers_47 rfl (lv_at hl 0 rfl) ?_
            refine tp_i (y := nI t) (by rw [ht]; rfl) ?_
            refine lv_iload_n cx.1 cx.2.1 dX4_planTakers_48 rfl (lv_at hl 3 rfl) ?_
            refine ck_V (v := some (.int (if to_ (si_ b 10 0 i (-1)) q t i then 1 else 0))) (As := [.int (nI q), .int (nI t), .int (nI i)]) (rest := []) (k := 0) (i := 0) (T := TX4) cx hW hS hl (by decide) rfl rfl (c_X4_planTaking l hI (si_ b 10 0 i (-1)) q t i hq (by omega) (by omega)) cw_X4_planTaking nw_259 nw_528 nw_258 rfl rfl (Nat.le_of_ble_eq_true rfl) rfl rfl ⟨Nat.le_of_ble_eq_true rfl, Nat.le_of_ble_eq_true rfl⟩ ⟨Nat.le_of_ble_eq_true rfl, Nat.le_of_ble_eq_true rfl⟩ dX4_planTakers_49 (fun H locs hW hS => ?_)
            refine W.eq (g2 := F0 zm 52 ls [.int (if to_ (si_ b 10 0 i (-1)) q t i then 1 else 0)]) rfl ?_
            refine lv_if_ne (tgt := 57) cx.1 cx.2.1 dX4_planTakers_52 (by decide) (fun h52 => ?_) (fun h52 => ?_)
            · skip
              have h52 := bz_1 h52
              refine lv_iinc (v := nI (i + 1)) (lv' := [(2, .int (nI (i + 1))), (3, .int (ov_ (lb_ (si_ b 10 0 i (-1)) i k))), (0, .ref (ad_ w 0 0)), (1, .int (nI q))]) cx.1 cx.2.1 dX4_planTakers_57 hl (k := 3) rfl (nI_inc i) (by decide) rfl (fun ls hl => ?_)
              refine lv_goto (tgt := 2) cx.1 cx.2.1 dX4_planTakers_60 (by decide) ?_
              exact ih2 (i + 1) (by omega) (by omega) (tk_ (si_ b 10 0 i (-1)) q t i) (by rw [← hF]; exact (pt_s h7 h31 ht h52).symm) (by rw [tk_gi (by decide)]; exact hk1) (by rw [tk_gi (by decide), gi_si, if_neg (by omega)]; exact hbn) H locs ls hW hS (lv_sub (l' := [(0, .ref (ad_ w 0 0)), (1, .int (nI q)), (2, .int (nI (i + 1)))]) hl [2, 3, 0] rfl)
            · skip
              have h52 := bz_0 h52
              refine lv_iconst (v := 0) cx.1 cx.2.1 dX4_planTakers_55 (by decide) ?_
              exact cr_z cx hr hlk (by decide) hW hS (Nat.le_of_ble_eq_true rfl) (Nat.le_of_ble_eq_true rfl) dX4_planTakers_56 (by rw [← hF, pt_f h7 h31 ht h52]; rfl) (by rw [← hF, pt_f h7 h31 ht h52])
  exact L2 (n - 0 + 1) 0 (by omega) (by omega) a rfl hk hn H locs ls hW hS (lv_sub hl [1, 2, 0] rfl)
def wc_ (a : St_) : Nat → St_
  | 0 => a
  | i + 1 => sl_ (wc_ a i) 10 0 i (if gi_ (wc_ a i) 3 i 0 = 0 then gl_ (wc_ a i) 3 i 0 else 0)
theorem wc_gi (a : St_) (v x y : Nat) : ∀ i, gi_ (wc_ a i) v x y = gi_ a v x y
  | 0 => rfl
  | i + 1 => wc_gi a v x y i
def wl_ (a : St_) : Nat → St_
  | 0 => a
  | i + 1 => sl_ (wl_ a i) 10 0 i (if gi_ (wl_ a i) 3 i 0 = 0 then mn_ (gl_ (wl_ a i) 3 i 0) (mx_ 0 (gl_ (wl_ a i) 5 0 i)) else 0)
theorem wl_gi (a : St_) (v x y : Nat) : ∀ i, gi_ (wl_ a i) v x y = gi_ a v x y
  | 0 => rfl
  | i + 1 => wl_gi a v x y i
set_option maxHeartbeats 4000000 in
set_option maxRecDepth 100000 in
theorem c_X4_weighContributions (l : Launch) {w : Gh_} (hI : In_ w) (a : St_) (k : Nat) (hk : gi_ a 0 0 0 = nI k) (hk8 : k ≤ 8) : Fn_ l w yX4_weighContributions (.code yX4_weighContributions cX4_weighContributions 2 none) { frames := 0, cells := 0, slots := 0, locals := 0 } 0 0 [.ref (ad_ w 0 0)] a (.inl none) (wc_ a k) := by
  refine Fn_of hI (by decide +kernel) (Nat.le_of_ble_eq_true rfl) ?_
  intro zp ze zs zm zb zt zc ls cx hr hlk hno hW hS hl
  replace cx : Cx_ zp zs zm zc _ cX4_weighContributions 2 "MarginHouse" w := cx
  replace hl : lv_has ls 2 [(0, .ref (ad_ w 0 0))] := hl
  obtain ⟨H, hH⟩ : ∃ H, zs.heap = H := ⟨_, rfl⟩
  rw [hH] at hW
  have hS : Fr_ w zs.heap H [] := by rw [← hH]; exact hS
  obtain ⟨locs, hlocs⟩ : ∃ x : List Loc, x = [] := ⟨_, rfl⟩
  rw [← hlocs] at hS ⊢
  rw [show W zp l ze _ zs zm _ zb zt zc zs.heap locs 0 0 _ (F0 zm 0 ls []) ↔ W zp l ze _ zs zm _ zb zt zc H locs 0 0 _ (F0 zm 0 ls []) from by rw [hH]]
  refine lv_iconst (v := 0) cx.1 cx.2.1 dX4_weighContributions_0 (by decide) ?_
  refine lv_istore_n (lv' := [(1, .int 0), (0, .ref (ad_ w 0 0))]) cx.1 cx.2.1 dX4_weighContributions_1 rfl hl (by decide) rfl (fun ls hl => ?_)
  have L2 : ∀ (d i : Nat), i ≤ k → k - i < d → ∀ (H : Heap) (locs : List Loc) (ls : Array Slot), Hd_ w (wc_ a i) H → Fr_ w zs.heap H locs → lv_has ls 2 [(0, .ref (ad_ w 0 0)), (1, .int (nI i))] → W zp l ze { frames := 0, cells := 0, slots := 0, locals := 0 } zs zm ([.ref (ad_ w 0 0)] : List Value).toArray zb zt zc H locs 0 0 (vx_MQ zb (Qc_ w (.inl none) (wc_ a k)) (XC_ w (.inl none) (wc_ a k)) ([.ref (ad_ w 0 0)] : List Value).toArray zs 0 0 (fun q => lo_ w ≤ q)) (F0 zm 2 ls []) := by
    intro d
    induction d with
    | zero => intro i _ hd; exact absurd hd (Nat.not_lt_zero _)
    | succ d ih2 =>
      intro i hi hdi  H locs ls hW hS hl
      refine lv_iload_n cx.1 cx.2.1 dX4_weighContributions_2 rfl (lv_at hl 1 rfl) ?_
      refine lv_aload_n cx.1 cx.2.1 dX4_weighContributions_3 rfl (lv_at hl 0 rfl) ?_
      refine gf_X4_37 cx hW (by decide) dX4_weighContributions_4 ?_
      refine tp_i (y := nI k) (by rw [wc_gi]; exact hk) ?_
      refine lv_icmp_ge (tgt := 53) cx.1 cx.2.1 dX4_weighContributions_7 (by decide) (fun h7 => ?_) (fun h7 => ?_)
      · skip
        have h7 : k ≤ i := (nI_leI (by omega) (by omega)).mp h7
        have e2 : i = k := by omega
        try rw [e2] at hl
        try rw [e2] at hW
        exact cr_v cx hr hlk hW hS (Nat.le_of_ble_eq_true rfl) (Nat.le_of_ble_eq_true rfl) dX4_weighContributions_53 rfl rfl
      · skip
        have h7 : i < k := Nat.not_le.mp (fun q => h7 ((nI_leI (by omega) (by omega)).mpr q))
        refine lv_aload_n cx.1 cx.2.1 dX4_weighContributions_10 rfl (lv_at hl 0 rfl) ?_
        refine gf_X4_33 cx hW (by decide) dX4_weighContributions_11 ?_
        refine gf_X4_231 cx hW (by decide) dX4_weighContributions_14 ?_
        refine gf_X4_235 cx hW (by decide) dX4_weighContributions_17 ?_
        refine lv_iload_n cx.1 cx.2.1 dX4_weighContributions_20 rfl (lv_at hl 1 rfl) ?_
        refine lv_aload_n cx.1 cx.2.1 dX4_weighContributions_21 rfl (lv_at hl 0 rfl) ?_
        refine gf_X4_11 cx hW (by decide) dX4_weighContributions_22 ?_
        refine lv_iload_n cx.1 cx.2.1 dX4_weighContributions_25 rfl (lv_at hl 1 rfl) ?_
        refine al_1 (j := i) cx hW (by decide) rfl (by omega) dX4_weighContributions_26 ?_
        refine gf_X4_127 cx hW (by omega) dX4_weighContributions_27 ?_
        refine lv_if_ne (tgt := 45) cx.1 cx.2.1 dX4_weighContributions_30 (by decide) (fun h30 => ?_) (fun h30 => ?_)
        · skip
          refine lv_lconst (v := 0) cx.1 cx.2.1 dX4_weighContributions_45 (by decide) ?_
          refine as_16 (j := i) cx hW hS (by decide) rfl (by omega) dX4_weighContributions_46 (fun H locs hW hS => ?_)
          refine lv_iinc (v := nI (i + 1)) (lv' := [(1, .int (nI (i + 1))), (0, .ref (ad_ w 0 0))]) cx.1 cx.2.1 dX4_weighContributions_47 hl (k := 1) rfl (nI_inc i) (by decide) rfl (fun ls hl => ?_)
          refine lv_goto (tgt := 2) cx.1 cx.2.1 dX4_weighContributions_50 (by decide) ?_
          exact ih2 (i + 1) (by omega) (by omega)  H locs ls (by rw [wc_]; simp only [h30, if_true, if_false]; exact hW) hS (lv_sub (l' := [(0, .ref (ad_ w 0 0)), (1, .int (nI (i + 1)))]) hl [1, 0] rfl)
        · skip
          refine lv_aload_n cx.1 cx.2.1 dX4_weighContributions_33 rfl (lv_at hl 0 rfl) ?_
          refine gf_X4_11 cx hW (by decide) dX4_weighContributions_34 ?_
          refine lv_iload_n cx.1 cx.2.1 dX4_weighContributions_37 rfl (lv_at hl 1 rfl) ?_
          refine al_1 (j := i) cx hW (by decide) rfl (by omega) dX4_weighContributions_38 ?_
          refine gf_X4_66 cx hW (by omega) dX4_weighContributions_39 ?_
          refine lv_goto (tgt := 46) cx.1 cx.2.1 dX4_weighContributions_42 (by decide) ?_
          refine as_16 (j := i) cx hW hS (by decide) rfl (by omega) dX4_weighContributions_46 (fun H locs hW hS => ?_)
          refine lv_iinc (v := nI (i + 1)) (lv' := [(1, .int (nI (i + 1))), (0, .ref (ad_ w 0 0))]) cx.1 cx.2.1 dX4_weighContributions_47 hl (k := 1) rfl (nI_inc i) (by decide) rfl (fun ls hl => ?_)
          refine lv_goto (tgt := 2) cx.1 cx.2.1 dX4_weighContributions_50 (by decide) ?_
          exact ih2 (i + 1) (by omega) (by omega)  H locs ls (by rw [wc_]; simp only [h30, if_true, if_false]; exact hW) hS (lv_sub (l' := [(0, .ref (ad_ w 0 0)), (1, .int (nI (i + 1)))]) hl [1, 0] rfl)
  exact L2 (k - 0 + 1) 0 (by omega) (by omega)  H locs ls hW hS (lv_sub hl [1, 0] rfl)
set_option maxHeartbeats 4000000 in
set_option maxRecDepth 100000 in
theorem c_X4_weighCalls (l : Launch) {w : Gh_} (hI : In_ w) (a : St_) (k : Nat) (hk : gi_ a 0 0 0 = nI k) (hk8 : k ≤ 8) : Fn_ l w yX4_weighCalls (.code yX4_weighCalls cX4_weighCalls 4 none) { frames := 1, cells := 0, slots := 0, locals := 23 } 0 0 [.ref (ad_ w 0 0)] a (.inl none) (wl_ a k) := by
  refine Fn_of hI (by decide +kernel) (Nat.le_of_ble_eq_true rfl) ?_
  intro zp ze zs zm zb zt zc ls cx hr hlk hno hW hS hl
  replace cx : Cx_ zp zs zm zc _ cX4_weighCalls 4 "MarginHouse" w := cx
  replace hl : lv_has ls 4 [(0, .ref (ad_ w 0 0))] := hl
  obtain ⟨H, hH⟩ : ∃ H, zs.heap = H := ⟨_, rfl⟩
  rw [hH] at hW
  have hS : Fr_ w zs.heap H [] := by rw [← hH]; exact hS
  obtain ⟨locs, hlocs⟩ : ∃ x : List Loc, x = [] := ⟨_, rfl⟩
  rw [← hlocs] at hS ⊢
  rw [show W zp l ze _ zs zm _ zb zt zc zs.heap locs 0 0 _ (F0 zm 0 ls []) ↔ W zp l ze _ zs zm _ zb zt zc H locs 0 0 _ (F0 zm 0 ls []) from by rw [hH]]
  refine lv_iconst (v := 0) cx.1 cx.2.1 dX4_weighCalls_0 (by decide) ?_
  refine lv_istore_n (lv' := [(1, .int 0), (0, .ref (ad_ w 0 0))]) cx.1 cx.2.1 dX4_weighCalls_1 rfl hl (by decide) rfl (fun ls hl => ?_)
  have L2 : ∀ (d i : Nat), i ≤ k → k - i < d → ∀ (H : Heap) (locs : List Loc) (ls : Array Slot), Hd_ w (wl_ a i) H → Fr_ w zs.heap H locs → lv_has ls 4 [(0, .ref (ad_ w 0 0)), (1, .int (nI i))] → W zp l ze { frames := 1, cells := 0, slots := 0, locals := 23 } zs zm ([.ref (ad_ w 0 0)] : List Value).toArray zb zt zc H locs 0 0 (vx_MQ zb (Qc_ w (.inl none) (wl_ a k)) (XC_ w (.inl none) (wl_ a k)) ([.ref (ad_ w 0 0)] : List Value).toArray zs 0 0 (fun q => lo_ w ≤ q)) (F0 zm 2 ls []) := by
    intro d
    induction d with
    | zero => intro i _ hd; exact absurd hd (Nat.not_lt_zero _)
    | succ d ih2 =>
      intro i hi hdi  H locs ls hW hS hl
      refine lv_iload_n cx.1 cx.2.1 dX4_weighCalls_2 rfl (lv_at hl 1 rfl) ?_
      refine lv_aload_n cx.1 cx.2.1 dX4_weighCalls_3 rfl (lv_at hl 0 rfl) ?_
      refine gf_X4_37 cx hW (by decide) dX4_weighCalls_4 ?_
      refine tp_i (y := nI k) (by rw [wl_gi]; exact hk) ?_
      refine lv_icmp_ge (tgt := 71) cx.1 cx.2.1 dX4_weighCalls_7 (by decide) (fun h7 => ?_) (fun h7 => ?_)
      · skip
        have h7 : k ≤ i := (nI_leI (by omega) (by omega)).mp h7
        have e2 : i = k := by omega
        try rw [e2] at hl
        try rw [e2] at hW
        exact cr_v cx hr hlk hW hS (Nat.le_of_ble_eq_true rfl) (Nat.le_of_ble_eq_true rfl) dX4_weighCalls_71 rfl rfl
      · skip
        have h7 : i < k := Nat.not_le.mp (fun q => h7 ((nI_leI (by omega) (by omega)).mpr q))
        refine lv_aload_n cx.1 cx.2.1 dX4_weighCalls_10 rfl (lv_at hl 0 rfl) ?_
        refine gf_X4_11 cx hW (by decide) dX4_weighCalls_11 ?_
        refine lv_iload_n cx.1 cx.2.1 dX4_weighCalls_14 rfl (lv_at hl 1 rfl) ?_
        refine al_1 (j := i) cx hW (by decide) rfl (by omega) dX4_weighCalls_15 ?_
        refine gf_X4_66 cx hW (by omega) dX4_weighCalls_16 ?_
        refine lv_lconst (v := 0) cx.1 cx.2.1 dX4_weighCalls_19 (by decide) ?_
        refine lv_aload_n cx.1 cx.2.1 dX4_weighCalls_20 rfl (lv_at hl 0 rfl) ?_
        refine gf_X4_33 cx hW (by decide) dX4_weighCalls_21 ?_
        refine gf_X4_190 cx hW (by decide) dX4_weighCalls_24 ?_
        refine lv_iload_n cx.1 cx.2.1 dX4_weighCalls_27 rfl (lv_at hl 1 rfl) ?_
        refine al_12 (j := i) cx hW (by decide) rfl (by omega) dX4_weighCalls_28 ?_
        refine mm_maxl cx hl nw_101 (Nat.le_of_ble_eq_true rfl) (Nat.le_of_ble_eq_true rfl) (Nat.le_of_ble_eq_true rfl) (Nat.le_of_ble_eq_true rfl) dX4_weighCalls_29 ?_
        refine mm_minl cx hl nw_311 (Nat.le_of_ble_eq_true rfl) (Nat.le_of_ble_eq_true rfl) (Nat.le_of_ble_eq_true rfl) (Nat.le_of_ble_eq_true rfl) dX4_weighCalls_32 ?_
        refine lv_lstore_n (lv' := [(2, .long (mn_ (gl_ (wl_ a i) 3 i 0) (mx_ 0 (gl_ (wl_ a i) 5 0 i)))), (0, .ref (ad_ w 0 0)), (1, .int (nI i))]) cx.1 cx.2.1 dX4_weighCalls_35 rfl hl (by decide) rfl (fun ls hl => ?_)
        refine lv_aload_n cx.1 cx.2.1 dX4_weighCalls_36 rfl (lv_at hl 1 rfl) ?_
        refine gf_X4_33 cx hW (by decide) dX4_weighCalls_37 ?_
        refine gf_X4_231 cx hW (by decide) dX4_weighCalls_40 ?_
        refine gf_X4_235 cx hW (by decide) dX4_weighCalls_43 ?_
        refine lv_iload_n cx.1 cx.2.1 dX4_weighCalls_46 rfl (lv_at hl 2 rfl) ?_
        refine lv_aload_n cx.1 cx.2.1 dX4_weighCalls_47 rfl (lv_at hl 1 rfl) ?_
        refine gf_X4_11 cx hW (by decide) dX4_weighCalls_48 ?_
        refine lv_iload_n cx.1 cx.2.1 dX4_weighCalls_51 rfl (lv_at hl 2 rfl) ?_
        refine al_1 (j := i) cx hW (by decide) rfl (by omega) dX4_weighCalls_52 ?_
        refine gf_X4_127 cx hW (by omega) dX4_weighCalls_53 ?_
        refine lv_if_ne (tgt := 63) cx.1 cx.2.1 dX4_weighCalls_56 (by decide) (fun h56 => ?_) (fun h56 => ?_)
        · skip
          refine lv_lconst (v := 0) cx.1 cx.2.1 dX4_weighCalls_63 (by decide) ?_
          refine as_16 (j := i) cx hW hS (by decide) rfl (by omega) dX4_weighCalls_64 (fun H locs hW hS => ?_)
          refine lv_iinc (v := nI (i + 1)) (lv' := [(1, .int (nI (i + 1))), (2, .long (mn_ (gl_ (wl_ a i) 3 i 0) (mx_ 0 (gl_ (wl_ a i) 5 0 i)))), (0, .ref (ad_ w 0 0))]) cx.1 cx.2.1 dX4_weighCalls_65 hl (k := 2) rfl (nI_inc i) (by decide) rfl (fun ls hl => ?_)
          refine lv_goto (tgt := 2) cx.1 cx.2.1 dX4_weighCalls_68 (by decide) ?_
          exact ih2 (i + 1) (by omega) (by omega)  H locs ls (by rw [wl_]; simp only [h56, if_true, if_false]; exact hW) hS (lv_sub (l' := [(0, .ref (ad_ w 0 0)), (1, .int (nI (i + 1)))]) hl [2, 0] rfl)
        · skip
          refine lv_lload_n cx.1 cx.2.1 dX4_weighCalls_59 rfl (lv_at hl 0 rfl) ?_
          refine lv_goto (tgt := 64) cx.1 cx.2.1 dX4_weighCalls_60 (by decide) ?_
          refine as_16 (j := i) cx hW hS (by decide) rfl (by omega) dX4_weighCalls_64 (fun H locs hW hS => ?_)
          refine lv_iinc (v := nI (i + 1)) (lv' := [(1, .int (nI (i + 1))), (2, .long (mn_ (gl_ (wl_ a i) 3 i 0) (mx_ 0 (gl_ (wl_ a i) 5 0 i)))), (0, .ref (ad_ w 0 0))]) cx.1 cx.2.1 dX4_weighCalls_65 hl (k := 2) rfl (nI_inc i) (by decide) rfl (fun ls hl => ?_)
          refine lv_goto (tgt := 2) cx.1 cx.2.1 dX4_weighCalls_68 (by decide) ?_
          exact ih2 (i + 1) (by omega) (by omega)  H locs ls (by rw [wl_]; simp only [h56, if_true, if_false]; exact hW) hS (lv_sub (l' := [(0, .ref (ad_ w 0 0)), (1, .int (nI (i + 1)))]) hl [2, 0] rfl)
  exact L2 (k - 0 + 1) 0 (by omega) (by omega)  H locs ls hW hS (lv_sub hl [1, 0] rfl)
theorem zl_gi (a : St_) (v x y : Nat) : ∀ i, gi_ (zl_ a i) v x y = gi_ a v x y
  | 0 => rfl
  | i + 1 => zl_gi a v x y i
theorem bw_gi (a : St_) (v x y : Nat) : ∀ i, gi_ (bw_ a i) v x y = gi_ a v x y
  | 0 => rfl
  | i + 1 => bw_gi a v x y i
theorem ro_gi (a : St_) (p t : Int64) (v x y : Nat) : ∀ i, gi_ (ro_ a p t i) v x y = gi_ a v x y
  | 0 => rfl
  | i + 1 => ro_gi a p t v x y i
theorem gw_gi (z : Int64) (v x y : Nat) : ∀ (f : Nat) (a : St_), gi_ (gw_ z a f) v x y = gi_ a v x y
  | 0, a => rfl
  | f + 1, a => by
    rw [gw_]
    split
    · rfl
    · exact (gw_gi z v x y f (go_ a)).trans rfl
theorem sq_gi (a : St_) (p : Int64) (v x y : Nat) : gi_ (sq_ a p) v x y = gi_ a v x y := by
  unfold sq_
  split
  · exact bw_gi a v x y 8
  · split
    · rw [gw_gi, ro_gi]
    · exact bw_gi a v x y 8
theorem bc_gi (u j : Nat) (a : St_) (v x y : Nat) : ∀ i, gi_ (bc_ u j a i) v x y = gi_ a v x y
  | 0 => rfl
  | i + 1 => bc_gi u j a v x y i
def l1_ (a : St_) (q : Nat) : St_ := bp_ (bo_ (zl_ (sy_ a q) 5) q)
theorem l1_gi (a : St_) (q v x y : Nat) : gi_ (l1_ a q) v x y = gi_ a v x y := (zl_gi (sy_ a q) v x y 5).trans rfl
def l2_ (a : St_) (q k : Nat) : St_ := bc_ 6 2 (sq_ (wc_ (l1_ a q) k) (gl_ (wc_ (l1_ a q) k) 9 0 0)) 8
theorem l2_gi (a : St_) (q k v x y : Nat) : gi_ (l2_ a q k) v x y = gi_ a v x y := by
  unfold l2_
  rw [bc_gi, sq_gi, wc_gi, l1_gi]
def l3_ (a : St_) (q k : Nat) : St_ := bc_ 5 3 (sq_ (wl_ (l2_ a q k) k) (gl_ (wl_ (l2_ a q k) k) 9 0 0)) 8
theorem l3_gi (a : St_) (q k v x y : Nat) : gi_ (l3_ a q k) v x y = gi_ a v x y := by
  unfold l3_
  rw [bc_gi, sq_gi, wl_gi, l2_gi]
def l4_ (a : St_) (q k : Nat) : St_ := bl_ (l3_ a q k)
theorem l4_gi (a : St_) (q k v x y : Nat) : gi_ (l4_ a q k) v x y = gi_ a v x y := by
  unfold l4_ bl_ be_
  rw [gi_sl, gi_sl, l3_gi]
set_option maxHeartbeats 4000000 in
set_option maxRecDepth 100000 in
theorem c_X4_planLayers (l : Launch) {w : Gh_} (hI : In_ w) (a : St_) (k : Nat) (hk : gi_ a 0 0 0 = nI k) (hk8 : k ≤ 8) (q : Nat) (hq : q < 8) : Fn_ l w yX4_planLayers (.code yX4_planLayers cX4_planLayers 2 none) { frames := 4, cells := 0, slots := 0, locals := 107 } 0 0 [.ref (ad_ w 0 0), .int (nI q)] a (.inl none) (l4_ a q k) := by
  refine Fn_of hI (by decide +kernel) (Nat.le_of_ble_eq_true rfl) ?_
  intro zp ze zs zm zb zt zc ls cx hr hlk hno hW hS hl
  replace cx : Cx_ zp zs zm zc _ cX4_planLayers 2 "MarginHouse" w := cx
  replace hl : lv_has ls 2 [(0, .ref (ad_ w 0 0)), (1, .int (nI q))] := hl
  obtain ⟨H, hH⟩ : ∃ H, zs.heap = H := ⟨_, rfl⟩
  rw [hH] at hW
  have hS : Fr_ w zs.heap H [] := by rw [← hH]; exact hS
  obtain ⟨locs, hlocs⟩ : ∃ x : List Loc, x = [] := ⟨_, rfl⟩
  rw [← hlocs] at hS ⊢
  rw [show W zp l ze _ zs zm _ zb zt zc zs.heap locs 0 0 _ (F0 zm 0 ls []) ↔ W zp l ze _ zs zm _ zb zt zc H locs 0 0 _ (F0 zm 0 ls []) from by rw [hH]]
  have hkk : ∀ _u : Unit, gi_ (l1_ a q) 0 0 0 = nI k := fun _ => by rw [l1_gi]; exact hk
  have hkk2 : ∀ _u : Unit, gi_ (l2_ a q k) 0 0 0 = nI k := fun _ => by rw [l2_gi]; exact hk
  refine lv_aload_n cx.1 cx.2.1 dX4_planLayers_0 rfl (lv_at hl 0 rfl) ?_
  refine gf_X4_33 cx hW (by decide) dX4_planLayers_1 ?_
  refine lv_iload_n cx.1 cx.2.1 dX4_planLayers_4 rfl (lv_at hl 1 rfl) ?_
  refine ck_V (v := none) (As := [.int (nI q)]) (rest := []) (k := 5) (i := 0) (T := TX2) cx hW hS hl (by decide) rfl rfl (c_X2_startLayers l hI a q hq) cw_X2_startLayers nw_265 nw_266 nw_264 rfl rfl (Nat.le_of_ble_eq_true rfl) rfl rfl ⟨Nat.le_of_ble_eq_true rfl, Nat.le_of_ble_eq_true rfl⟩ ⟨Nat.le_of_ble_eq_true rfl, Nat.le_of_ble_eq_true rfl⟩ dX4_planLayers_5 (fun H locs hW hS => ?_)
  refine W.eq (g2 := F0 zm 8 ls []) rfl ?_
  refine lv_aload_n cx.1 cx.2.1 dX4_planLayers_8 rfl (lv_at hl 0 rfl) ?_
  refine gf_X4_33 cx hW (by decide) dX4_planLayers_9 ?_
  refine lv_iload_n cx.1 cx.2.1 dX4_planLayers_12 rfl (lv_at hl 1 rfl) ?_
  refine ck_V (v := none) (As := [.int (nI q)]) (rest := []) (k := 5) (i := 0) (T := TX2) cx hW hS hl (by decide) rfl rfl (c_X2_bearByOwnContribution l hI (zl_ (sy_ a q) 5) q hq) cw_X2_bearByOwnContribution nw_270 nw_271 nw_269 rfl rfl (Nat.le_of_ble_eq_true rfl) rfl rfl ⟨Nat.le_of_ble_eq_true rfl, Nat.le_of_ble_eq_true rfl⟩ ⟨Nat.le_of_ble_eq_true rfl, Nat.le_of_ble_eq_true rfl⟩ dX4_planLayers_13 (fun H locs hW hS => ?_)
  refine W.eq (g2 := F0 zm 16 ls []) rfl ?_
  refine lv_aload_n cx.1 cx.2.1 dX4_planLayers_16 rfl (lv_at hl 0 rfl) ?_
  refine gf_X4_33 cx hW (by decide) dX4_planLayers_17 ?_
  refine ck_V (v := none) (As := []) (rest := []) (k := 5) (i := 0) (T := TX2) cx hW hS hl (by decide) rfl rfl (c_X2_bearByCapital l hI (bo_ (zl_ (sy_ a q) 5) q)) cw_X2_bearByCapital nw_280 nw_281 nw_279 rfl rfl (Nat.le_of_ble_eq_true rfl) rfl rfl ⟨Nat.le_of_ble_eq_true rfl, Nat.le_of_ble_eq_true rfl⟩ ⟨Nat.le_of_ble_eq_true rfl, Nat.le_of_ble_eq_true rfl⟩ dX4_planLayers_20 (fun H locs hW hS => ?_)
  refine W.eq (g2 := F0 zm 23 ls []) rfl ?_
  replace hW : Hd_ w (l1_ a q) H := hW
  refine lv_aload_n cx.1 cx.2.1 dX4_planLayers_23 rfl (lv_at hl 0 rfl) ?_
  refine ck_V (v := none) (As := []) (rest := []) (k := 0) (i := 0) (T := TX4) cx hW hS hl (by decide) rfl rfl (c_X4_weighContributions l hI (l1_ a q) k (hkk ()) hk8) cw_X4_weighContributions nw_284 nw_531 nw_283 rfl rfl (Nat.le_of_ble_eq_true rfl) rfl rfl ⟨Nat.le_of_ble_eq_true rfl, Nat.le_of_ble_eq_true rfl⟩ ⟨Nat.le_of_ble_eq_true rfl, Nat.le_of_ble_eq_true rfl⟩ dX4_planLayers_24 (fun H locs hW hS => ?_)
  refine W.eq (g2 := F0 zm 27 ls []) rfl ?_
  refine lv_aload_n cx.1 cx.2.1 dX4_planLayers_27 rfl (lv_at hl 0 rfl) ?_
  refine gf_X4_33 cx hW (by decide) dX4_planLayers_28 ?_
  refine ck_V (v := none) (As := []) (rest := []) (k := 5) (i := 0) (T := TX2) cx hW hS hl (by decide) rfl rfl (c_X2_bearByContributions l hI (wc_ (l1_ a q) k)) cw_X2_bearByContributions nw_287 nw_288 nw_286 rfl rfl (Nat.le_of_ble_eq_true rfl) rfl rfl ⟨Nat.le_of_ble_eq_true rfl, Nat.le_of_ble_eq_true rfl⟩ ⟨Nat.le_of_ble_eq_true rfl, Nat.le_of_ble_eq_true rfl⟩ dX4_planLayers_31 (fun H locs hW hS => ?_)
  refine W.eq (g2 := F0 zm 34 ls []) rfl ?_
  replace hW : Hd_ w (l2_ a q k) H := hW
  refine lv_aload_n cx.1 cx.2.1 dX4_planLayers_34 rfl (lv_at hl 0 rfl) ?_
  refine ck_V (v := none) (As := []) (rest := []) (k := 0) (i := 0) (T := TX4) cx hW hS hl (by decide) rfl rfl (c_X4_weighCalls l hI (l2_ a q k) k (hkk2 ()) hk8) cw_X4_weighCalls nw_309 nw_536 nw_308 rfl rfl (Nat.le_of_ble_eq_true rfl) rfl rfl ⟨Nat.le_of_ble_eq_true rfl, Nat.le_of_ble_eq_true rfl⟩ ⟨Nat.le_of_ble_eq_true rfl, Nat.le_of_ble_eq_true rfl⟩ dX4_planLayers_35 (fun H locs hW hS => ?_)
  refine W.eq (g2 := F0 zm 38 ls []) rfl ?_
  refine lv_aload_n cx.1 cx.2.1 dX4_planLayers_38 rfl (lv_at hl 0 rfl) ?_
  refine gf_X4_33 cx hW (by decide) dX4_planLayers_39 ?_
  refine ck_V (v := none) (As := []) (rest := []) (k := 5) (i := 0) (T := TX2) cx hW hS hl (by decide) rfl rfl (c_X2_bearByCalls l hI (wl_ (l2_ a q k) k)) cw_X2_bearByCalls nw_313 nw_314 nw_312 rfl rfl (Nat.le_of_ble_eq_true rfl) rfl rfl ⟨Nat.le_of_ble_eq_true rfl, Nat.le_of_ble_eq_true rfl⟩ ⟨Nat.le_of_ble_eq_true rfl, Nat.le_of_ble_eq_true rfl⟩ dX4_planLayers_42 (fun H locs hW hS => ?_)
  refine W.eq (g2 := F0 zm 45 ls []) rfl ?_
  replace hW : Hd_ w (l3_ a q k) H := hW
  refine lv_aload_n cx.1 cx.2.1 dX4_planLayers_45 rfl (lv_at hl 0 rfl) ?_
  refine gf_X4_33 cx hW (by decide) dX4_planLayers_46 ?_
  refine ck_V (v := none) (As := []) (rest := []) (k := 5) (i := 0) (T := TX2) cx hW hS hl (by decide) rfl rfl (c_X2_leaveTheRest l hI (l3_ a q k)) cw_X2_leaveTheRest nw_317 nw_318 nw_316 rfl rfl (Nat.le_of_ble_eq_true rfl) rfl rfl ⟨Nat.le_of_ble_eq_true rfl, Nat.le_of_ble_eq_true rfl⟩ ⟨Nat.le_of_ble_eq_true rfl, Nat.le_of_ble_eq_true rfl⟩ dX4_planLayers_49 (fun H locs hW hS => ?_)
  refine W.eq (g2 := F0 zm 52 ls []) rfl ?_
  replace hW : Hd_ w (l4_ a q k) H := hW
  exact cr_v cx hr hlk hW hS (Nat.le_of_ble_eq_true rfl) (Nat.le_of_ble_eq_true rfl) dX4_planLayers_52 rfl rfl
def co_ (a : St_) (q : Nat) : Nat → St_
  | 0 => a
  | i + 1 => if gi_ (co_ a q i) 10 0 i = -1 then co_ a q i else si_ (si_ (co_ a q i) 4 (gi_ (co_ a q i) 10 0 i).toNatClampNeg i (gi_ (co_ a q i) 4 (gi_ (co_ a q i) 10 0 i).toNatClampNeg i + gi_ (co_ a q i) 4 q i)) 4 q i 0
theorem co_gi (a : St_) (q v x y : Nat) (hv : v ≠ 4) : ∀ i, gi_ (co_ a q i) v x y = gi_ a v x y
  | 0 => rfl
  | i + 1 => by
    have ih := co_gi a q v x y hv i
    rw [co_]
    split
    · exact ih
    · rw [gi_si, if_neg (fun h => hv h.1), gi_si, if_neg (fun h => hv h.1), ih]
theorem co_gl (a : St_) (q v x y : Nat) : ∀ i, gl_ (co_ a q i) v x y = gl_ a v x y
  | 0 => rfl
  | i + 1 => by
    have ih := co_gl a q v x y i
    rw [co_]
    split
    · exact ih
    · rw [gl_si, gl_si, ih]
def cp_ (b : St_) : Nat → St_
  | 0 => b
  | i + 1 => sl_ (sl_ (cp_ b i) 2 i 0 (gl_ (cp_ b i) 5 0 i)) 3 i 0 (gl_ (sl_ (cp_ b i) 2 i 0 (gl_ (cp_ b i) 5 0 i)) 6 0 i)
theorem cp_gi (b : St_) (v x y : Nat) : ∀ i, gi_ (cp_ b i) v x y = gi_ b v x y
  | 0 => rfl
  | i + 1 => cp_gi b v x y i
def cq_ (b : St_) : Nat → St_
  | 0 => b
  | i + 1 => sl_ (cq_ b i) 4 0 i (gl_ (cq_ b i) 7 0 i)
theorem cq_gi (b : St_) (v x y : Nat) : ∀ i, gi_ (cq_ b i) v x y = gi_ b v x y
  | 0 => rfl
  | i + 1 => cq_gi b v x y i
def cr_ (a : St_) (q k n : Nat) : St_ := cq_ (cp_ (co_ a q n) k) 5
def cs_ (a : St_) (q k n : Nat) : St_ := sl_ (cr_ a q k n) 0 0 0 (gl_ (cr_ a q k n) 8 0 0)
def ct_ (a : St_) (q k n : Nat) : St_ := si_ (sl_ (cs_ a q k n) 1 0 0 (gl_ (cs_ a q k n) 1 0 0 + gl_ (cs_ a q k n) 7 0 4)) 3 q 0 2
set_option maxHeartbeats 4000000 in
set_option maxRecDepth 100000 in
theorem c_X4_carryOutPlan (l : Launch) {w : Gh_} (hI : In_ w) (a : St_) (k : Nat) (hk : gi_ a 0 0 0 = nI k) (hk8 : k ≤ 8) (n : Nat) (hn : gi_ a 1 0 0 = nI n) (hn6 : n ≤ 6) (q : Nat) (hq : q < 8) (hT : ∀ i, i < n → gi_ a 10 0 i = -1 ∨ ∃ t, t < 8 ∧ gi_ a 10 0 i = nI t) : Fn_ l w yX4_carryOutPlan (.code yX4_carryOutPlan cX4_carryOutPlan 3 none) { frames := 0, cells := 0, slots := 0, locals := 0 } 0 0 [.ref (ad_ w 0 0), .int (nI q)] a (.inl none) (ct_ a q k n) := by
  refine Fn_of hI (by decide +kernel) (Nat.le_of_ble_eq_true rfl) ?_
  intro zp ze zs zm zb zt zc ls cx hr hlk hno hW hS hl
  replace cx : Cx_ zp zs zm zc _ cX4_carryOutPlan 3 "MarginHouse" w := cx
  replace hl : lv_has ls 3 [(0, .ref (ad_ w 0 0)), (1, .int (nI q))] := hl
  obtain ⟨H, hH⟩ : ∃ H, zs.heap = H := ⟨_, rfl⟩
  rw [hH] at hW
  have hS : Fr_ w zs.heap H [] := by rw [← hH]; exact hS
  obtain ⟨locs, hlocs⟩ : ∃ x : List Loc, x = [] := ⟨_, rfl⟩
  rw [← hlocs] at hS ⊢
  rw [show W zp l ze _ zs zm _ zb zt zc zs.heap locs 0 0 _ (F0 zm 0 ls []) ↔ W zp l ze _ zs zm _ zb zt zc H locs 0 0 _ (F0 zm 0 ls []) from by rw [hH]]
  refine lv_iconst (v := 0) cx.1 cx.2.1 dX4_carryOutPlan_0 (by decide) ?_
  refine lv_istore_n (lv' := [(2, .int 0), (0, .ref (ad_ w 0 0)), (1, .int (nI q))]) cx.1 cx.2.1 dX4_carryOutPlan_1 rfl hl (by decide) rfl (fun ls hl => ?_)
  have L2 : ∀ (d i : Nat), i ≤ n → n - i < d → ∀ (H : Heap) (locs : List Loc) (ls : Array Slot), Hd_ w (co_ a q i) H → Fr_ w zs.heap H locs → lv_has ls 3 [(0, .ref (ad_ w 0 0)), (1, .int (nI q)), (2, .int (nI i))] → W zp l ze { frames := 0, cells := 0, slots := 0, locals := 0 } zs zm ([.ref (ad_ w 0 0), .int (nI q)] : List Value).toArray zb zt zc H locs 0 0 (vx_MQ zb (Qc_ w (.inl none) (ct_ a q k n)) (XC_ w (.inl none) (ct_ a q k n)) ([.ref (ad_ w 0 0), .int (nI q)] : List Value).toArray zs 0 0 (fun q => lo_ w ≤ q)) (F0 zm 2 ls []) := by
    intro d
    induction d with
    | zero => intro i _ hd; exact absurd hd (Nat.not_lt_zero _)
    | succ d ih2 =>
      intro i hi hdi  H locs ls hW hS hl
      refine lv_iload_n cx.1 cx.2.1 dX4_carryOutPlan_2 rfl (lv_at hl 2 rfl) ?_
      refine lv_aload_n cx.1 cx.2.1 dX4_carryOutPlan_3 rfl (lv_at hl 0 rfl) ?_
      refine gf_X4_41 cx hW (by decide) dX4_carryOutPlan_4 ?_
      refine tp_i (y := nI n) (by rw [co_gi _ _ _ _ _ (by decide)]; exact hn) ?_
      refine lv_icmp_ge (tgt := 74) cx.1 cx.2.1 dX4_carryOutPlan_7 (by decide) (fun h7 => ?_) (fun h7 => ?_)
      · skip
        have h7 : n ≤ i := (nI_leI (by omega) (by omega)).mp h7
        have e2 : i = n := by omega
        try rw [e2] at hl
        try rw [e2] at hW
        refine lv_iconst (v := 0) cx.1 cx.2.1 dX4_carryOutPlan_74 (by decide) ?_
        refine lv_istore_n (lv' := [(2, .int 0), (0, .ref (ad_ w 0 0)), (1, .int (nI q))]) cx.1 cx.2.1 dX4_carryOutPlan_75 rfl hl (by decide) rfl (fun ls hl => ?_)
        have L76 : ∀ (d i : Nat), i ≤ k → k - i < d → ∀ (H : Heap) (locs : List Loc) (ls : Array Slot), Hd_ w (cp_ (co_ a q n) i) H → Fr_ w zs.heap H locs → lv_has ls 3 [(0, .ref (ad_ w 0 0)), (1, .int (nI q)), (2, .int (nI i))] → W zp l ze { frames := 0, cells := 0, slots := 0, locals := 0 } zs zm ([.ref (ad_ w 0 0), .int (nI q)] : List Value).toArray zb zt zc H locs 0 0 (vx_MQ zb (Qc_ w (.inl none) (ct_ a q k n)) (XC_ w (.inl none) (ct_ a q k n)) ([.ref (ad_ w 0 0), .int (nI q)] : List Value).toArray zs 0 0 (fun q => lo_ w ≤ q)) (F0 zm 76 ls []) := by
          intro d
          induction d with
          | zero => intro i _ hd; exact absurd hd (Nat.not_lt_zero _)
          | succ d ih76 =>
            intro i hi hdi  H locs ls hW hS hl
            refine lv_iload_n cx.1 cx.2.1 dX4_carryOutPlan_76 rfl (lv_at hl 2 rfl) ?_
            refine lv_aload_n cx.1 cx.2.1 dX4_carryOutPlan_77 rfl (lv_at hl 0 rfl) ?_
            refine gf_X4_37 cx hW (by decide) dX4_carryOutPlan_78 ?_
            refine tp_i (y := nI k) (by rw [cp_gi, co_gi _ _ _ _ _ (by decide)]; exact hk) ?_
            refine lv_icmp_ge (tgt := 126) cx.1 cx.2.1 dX4_carryOutPlan_81 (by decide) (fun h81 => ?_) (fun h81 => ?_)
            · skip
              have h81 : k ≤ i := (nI_leI (by omega) (by omega)).mp h81
              have e76 : i = k := by omega
              try rw [e76] at hl
              try rw [e76] at hW
              refine lv_iconst (v := 0) cx.1 cx.2.1 dX4_carryOutPlan_126 (by decide) ?_
              refine lv_istore_n (lv' := [(2, .int 0), (0, .ref (ad_ w 0 0)), (1, .int (nI q))]) cx.1 cx.2.1 dX4_carryOutPlan_127 rfl hl (by decide) rfl (fun ls hl => ?_)
              have L128 : ∀ (d i : Nat), i ≤ 5 → 5 - i < d → ∀ (H : Heap) (locs : List Loc) (ls : Array Slot), Hd_ w (cq_ (cp_ (co_ a q n) k) i) H → Fr_ w zs.heap H locs → lv_has ls 3 [(0, .ref (ad_ w 0 0)), (1, .int (nI q)), (2, .int (nI i))] → W zp l ze { frames := 0, cells := 0, slots := 0, locals := 0 } zs zm ([.ref (ad_ w 0 0), .int (nI q)] : List Value).toArray zb zt zc H locs 0 0 (vx_MQ zb (Qc_ w (.inl none) (ct_ a q k n)) (XC_ w (.inl none) (ct_ a q k n)) ([.ref (ad_ w 0 0), .int (nI q)] : List Value).toArray zs 0 0 (fun q => lo_ w ≤ q)) (F0 zm 128 ls []) := by
                intro d
                induction d with
                | zero => intro i _ hd; exact absurd hd (Nat.not_lt_zero _)
                | succ d ih128 =>
                  intro i hi hdi  H locs ls hW hS hl
                  refine lv_iload_n cx.1 cx.2.1 dX4_carryOutPlan_128 rfl (lv_at hl 2 rfl) ?_
                  refine lv_iconst (v := 5) cx.1 cx.2.1 dX4_carryOutPlan_129 (by decide) ?_
                  refine tp_i (y := nI 5) (by decide +kernel) ?_
                  refine lv_icmp_ge (tgt := 154) cx.1 cx.2.1 dX4_carryOutPlan_130 (by decide) (fun h130 => ?_) (fun h130 => ?_)
                  · skip
                    have h130 : 5 ≤ i := (nI_leI (by omega) (by omega)).mp h130
                    have e128 : i = 5 := by omega
                    try rw [e128] at hl
                    try rw [e128] at hW
                    refine lv_aload_n cx.1 cx.2.1 dX4_carryOutPlan_154 rfl (lv_at hl 0 rfl) ?_
                    refine lv_aload_n cx.1 cx.2.1 dX4_carryOutPlan_155 rfl (lv_at hl 0 rfl) ?_
                    refine gf_X4_33 cx hW (by decide) dX4_carryOutPlan_156 ?_
                    refine gf_X4_194 cx hW (by decide) dX4_carryOutPlan_159 ?_
                    refine pf_X4_47 cx hW hS (by decide) dX4_carryOutPlan_162 (fun H locs hW hS => ?_)
                    replace hW : Hd_ w (cs_ a q k n) H := hW
                    refine lv_aload_n cx.1 cx.2.1 dX4_carryOutPlan_165 rfl (lv_at hl 0 rfl) ?_
                    refine lv_dup cx.1 cx.2.1 dX4_carryOutPlan_166 rfl ?_
                    refine gf_X4_51 cx hW (by decide) dX4_carryOutPlan_167 ?_
                    refine lv_aload_n cx.1 cx.2.1 dX4_carryOutPlan_170 rfl (lv_at hl 0 rfl) ?_
                    refine gf_X4_33 cx hW (by decide) dX4_carryOutPlan_171 ?_
                    refine gf_X4_140 cx hW (by decide) dX4_carryOutPlan_174 ?_
                    refine lv_iconst (v := 4) cx.1 cx.2.1 dX4_carryOutPlan_177 (by decide) ?_
                    refine tp_i (y := nI 4) (by decide +kernel) ?_
                    refine al_14 (j := 4) cx hW (by decide) rfl (by omega) dX4_carryOutPlan_178 ?_
                    refine lv_ladd cx.1 cx.2.1 dX4_carryOutPlan_179 ?_
                    refine pf_X4_51 cx hW hS (by decide) dX4_carryOutPlan_180 (fun H locs hW hS => ?_)
                    refine lv_aload_n cx.1 cx.2.1 dX4_carryOutPlan_183 rfl (lv_at hl 0 rfl) ?_
                    refine gf_X4_11 cx hW (by decide) dX4_carryOutPlan_184 ?_
                    refine lv_iload_n cx.1 cx.2.1 dX4_carryOutPlan_187 rfl (lv_at hl 1 rfl) ?_
                    refine al_1 (j := q) cx hW (by decide) rfl (by omega) dX4_carryOutPlan_188 ?_
                    refine lv_iconst (v := 2) cx.1 cx.2.1 dX4_carryOutPlan_189 (by decide) ?_
                    refine pf_X4_127 cx hW hS (by omega) dX4_carryOutPlan_190 (fun H locs hW hS => ?_)
                    exact cr_v cx hr hlk hW hS (Nat.le_of_ble_eq_true rfl) (Nat.le_of_ble_eq_true rfl) dX4_carryOutPlan_193 rfl rfl
                  · skip
                    have h130 : i < 5 := Nat.not_le.mp (fun q => h130 ((nI_leI (by omega) (by omega)).mpr q))
                    refine lv_aload_n cx.1 cx.2.1 dX4_carryOutPlan_133 rfl (lv_at hl 0 rfl) ?_
                    refine gf_X4_26 cx hW (by decide) dX4_carryOutPlan_134 ?_
                    refine lv_iload_n cx.1 cx.2.1 dX4_carryOutPlan_137 rfl (lv_at hl 2 rfl) ?_
                    refine lv_aload_n cx.1 cx.2.1 dX4_carryOutPlan_138 rfl (lv_at hl 0 rfl) ?_
                    refine gf_X4_33 cx hW (by decide) dX4_carryOutPlan_139 ?_
                    refine gf_X4_140 cx hW (by decide) dX4_carryOutPlan_142 ?_
                    refine lv_iload_n cx.1 cx.2.1 dX4_carryOutPlan_145 rfl (lv_at hl 2 rfl) ?_
                    refine al_14 (j := i) cx hW (by decide) rfl (by omega) dX4_carryOutPlan_146 ?_
                    refine as_4 (j := i) cx hW hS (by decide) rfl (by omega) dX4_carryOutPlan_147 (fun H locs hW hS => ?_)
                    refine lv_iinc (v := nI (i + 1)) (lv' := [(2, .int (nI (i + 1))), (0, .ref (ad_ w 0 0)), (1, .int (nI q))]) cx.1 cx.2.1 dX4_carryOutPlan_148 hl (k := 2) rfl (nI_inc i) (by decide) rfl (fun ls hl => ?_)
                    refine lv_goto (tgt := 128) cx.1 cx.2.1 dX4_carryOutPlan_151 (by decide) ?_
                    exact ih128 (i + 1) (by omega) (by omega)  H locs ls hW hS (lv_sub (l' := [(0, .ref (ad_ w 0 0)), (1, .int (nI q)), (2, .int (nI (i + 1)))]) hl [1, 2, 0] rfl)
              exact L128 (5 - 0 + 1) 0 (by omega) (by omega)  H locs ls hW hS (lv_sub hl [1, 2, 0] rfl)
            · skip
              have h81 : i < k := Nat.not_le.mp (fun q => h81 ((nI_leI (by omega) (by omega)).mpr q))
              refine lv_aload_n cx.1 cx.2.1 dX4_carryOutPlan_84 rfl (lv_at hl 0 rfl) ?_
              refine gf_X4_11 cx hW (by decide) dX4_carryOutPlan_85 ?_
              refine lv_iload_n cx.1 cx.2.1 dX4_carryOutPlan_88 rfl (lv_at hl 2 rfl) ?_
              refine al_1 (j := i) cx hW (by decide) rfl (by omega) dX4_carryOutPlan_89 ?_
              refine lv_aload_n cx.1 cx.2.1 dX4_carryOutPlan_90 rfl (lv_at hl 0 rfl) ?_
              refine gf_X4_33 cx hW (by decide) dX4_carryOutPlan_91 ?_
              refine gf_X4_190 cx hW (by decide) dX4_carryOutPlan_94 ?_
              refine lv_iload_n cx.1 cx.2.1 dX4_carryOutPlan_97 rfl (lv_at hl 2 rfl) ?_
              refine al_12 (j := i) cx hW (by decide) rfl (by omega) dX4_carryOutPlan_98 ?_
              refine pf_X4_105 cx hW hS (by omega) dX4_carryOutPlan_99 (fun H locs hW hS => ?_)
              refine lv_aload_n cx.1 cx.2.1 dX4_carryOutPlan_102 rfl (lv_at hl 0 rfl) ?_
              refine gf_X4_11 cx hW (by decide) dX4_carryOutPlan_103 ?_
              refine lv_iload_n cx.1 cx.2.1 dX4_carryOutPlan_106 rfl (lv_at hl 2 rfl) ?_
              refine al_1 (j := i) cx hW (by decide) rfl (by omega) dX4_carryOutPlan_107 ?_
              refine lv_aload_n cx.1 cx.2.1 dX4_carryOutPlan_108 rfl (lv_at hl 0 rfl) ?_
              refine gf_X4_33 cx hW (by decide) dX4_carryOutPlan_109 ?_
              refine gf_X4_192 cx hW (by decide) dX4_carryOutPlan_112 ?_
              refine lv_iload_n cx.1 cx.2.1 dX4_carryOutPlan_115 rfl (lv_at hl 2 rfl) ?_
              refine al_13 (j := i) cx hW (by decide) rfl (by omega) dX4_carryOutPlan_116 ?_
              refine pf_X4_66 cx hW hS (by omega) dX4_carryOutPlan_117 (fun H locs hW hS => ?_)
              refine lv_iinc (v := nI (i + 1)) (lv' := [(2, .int (nI (i + 1))), (0, .ref (ad_ w 0 0)), (1, .int (nI q))]) cx.1 cx.2.1 dX4_carryOutPlan_120 hl (k := 2) rfl (nI_inc i) (by decide) rfl (fun ls hl => ?_)
              refine lv_goto (tgt := 76) cx.1 cx.2.1 dX4_carryOutPlan_123 (by decide) ?_
              exact ih76 (i + 1) (by omega) (by omega)  H locs ls hW hS (lv_sub (l' := [(0, .ref (ad_ w 0 0)), (1, .int (nI q)), (2, .int (nI (i + 1)))]) hl [1, 2, 0] rfl)
        exact L76 (k - 0 + 1) 0 (by omega) (by omega)  H locs ls hW hS (lv_sub hl [1, 2, 0] rfl)
      · skip
        have h7 : i < n := Nat.not_le.mp (fun q => h7 ((nI_leI (by omega) (by omega)).mpr q))
        refine lv_aload_n cx.1 cx.2.1 dX4_carryOutPlan_10 rfl (lv_at hl 0 rfl) ?_
        refine gf_X4_33 cx hW (by decide) dX4_carryOutPlan_11 ?_
        refine gf_X4_197 cx hW (by decide) dX4_carryOutPlan_14 ?_
        refine lv_iload_n cx.1 cx.2.1 dX4_carryOutPlan_17 rfl (lv_at hl 2 rfl) ?_
        refine al_11 (j := i) cx hW (by decide) rfl (by omega) dX4_carryOutPlan_18 ?_
        refine lv_iconst (v := -1) cx.1 cx.2.1 dX4_carryOutPlan_19 (by decide) ?_
        refine lv_icmp_eq (tgt := 68) cx.1 cx.2.1 dX4_carryOutPlan_20 (by decide) (fun h20 => ?_) (fun h20 => ?_)
        · skip
          have hE : co_ a q (i + 1) = co_ a q i := by rw [co_, if_pos h20]
          refine lv_iinc (v := nI (i + 1)) (lv' := [(2, .int (nI (i + 1))), (0, .ref (ad_ w 0 0)), (1, .int (nI q))]) cx.1 cx.2.1 dX4_carryOutPlan_68 hl (k := 2) rfl (nI_inc i) (by decide) rfl (fun ls hl => ?_)
          refine lv_goto (tgt := 2) cx.1 cx.2.1 dX4_carryOutPlan_71 (by decide) ?_
          exact ih2 (i + 1) (by omega) (by omega)  H locs ls (by rw [hE]; exact hW) hS (lv_sub (l' := [(0, .ref (ad_ w 0 0)), (1, .int (nI q)), (2, .int (nI (i + 1)))]) hl [1, 2, 0] rfl)
        · skip
          obtain ⟨t, ht8, ht⟩ : ∃ t, t < 8 ∧ gi_ (co_ a q i) 10 0 i = nI t := by
            rcases hT i h7 with h | ⟨t, h1, h2⟩
            · exact absurd ((co_gi a q 10 0 i (by decide) i).trans h) h20
            · exact ⟨t, h1, (co_gi a q 10 0 i (by decide) i).trans h2⟩
          have hE : co_ a q (i + 1) = si_ (si_ (co_ a q i) 4 t i (gi_ (co_ a q i) 4 t i + gi_ (co_ a q i) 4 q i)) 4 q i 0 := by rw [co_, if_neg h20, ht, nI_clamp (by omega)]
          refine lv_aload_n cx.1 cx.2.1 dX4_carryOutPlan_23 rfl (lv_at hl 0 rfl) ?_
          refine gf_X4_11 cx hW (by decide) dX4_carryOutPlan_24 ?_
          refine lv_aload_n cx.1 cx.2.1 dX4_carryOutPlan_27 rfl (lv_at hl 0 rfl) ?_
          refine gf_X4_33 cx hW (by decide) dX4_carryOutPlan_28 ?_
          refine gf_X4_197 cx hW (by decide) dX4_carryOutPlan_31 ?_
          refine lv_iload_n cx.1 cx.2.1 dX4_carryOutPlan_34 rfl (lv_at hl 2 rfl) ?_
          refine al_11 (j := i) cx hW (by decide) rfl (by omega) dX4_carryOutPlan_35 ?_
          refine al_1 (j := t) cx hW (by decide) ht (by omega) dX4_carryOutPlan_36 ?_
          refine gf_X4_114 cx hW (by omega) dX4_carryOutPlan_37 ?_
          refine lv_iload_n cx.1 cx.2.1 dX4_carryOutPlan_40 rfl (lv_at hl 2 rfl) ?_
          refine lv_dup2_11 cx.1 cx.2.1 dX4_carryOutPlan_41 rfl rfl ?_
          refine al_7 (j := i) cx hW (by omega) rfl (by omega) dX4_carryOutPlan_42 ?_
          refine lv_aload_n cx.1 cx.2.1 dX4_carryOutPlan_43 rfl (lv_at hl 0 rfl) ?_
          refine gf_X4_11 cx hW (by decide) dX4_carryOutPlan_44 ?_
          refine lv_iload_n cx.1 cx.2.1 dX4_carryOutPlan_47 rfl (lv_at hl 1 rfl) ?_
          refine al_1 (j := q) cx hW (by decide) rfl (by omega) dX4_carryOutPlan_48 ?_
          refine gf_X4_114 cx hW (by omega) dX4_carryOutPlan_49 ?_
          refine lv_iload_n cx.1 cx.2.1 dX4_carryOutPlan_52 rfl (lv_at hl 2 rfl) ?_
          refine al_7 (j := i) cx hW (by omega) rfl (by omega) dX4_carryOutPlan_53 ?_
          refine lv_iadd cx.1 cx.2.1 dX4_carryOutPlan_54 ?_
          refine as_7 (j := i) cx hW hS (by omega) rfl (by omega) dX4_carryOutPlan_55 (fun H locs hW hS => ?_)
          refine lv_aload_n cx.1 cx.2.1 dX4_carryOutPlan_56 rfl (lv_at hl 0 rfl) ?_
          refine gf_X4_11 cx hW (by decide) dX4_carryOutPlan_57 ?_
          refine lv_iload_n cx.1 cx.2.1 dX4_carryOutPlan_60 rfl (lv_at hl 1 rfl) ?_
          refine al_1 (j := q) cx hW (by decide) rfl (by omega) dX4_carryOutPlan_61 ?_
          refine gf_X4_114 cx hW (by omega) dX4_carryOutPlan_62 ?_
          refine lv_iload_n cx.1 cx.2.1 dX4_carryOutPlan_65 rfl (lv_at hl 2 rfl) ?_
          refine lv_iconst (v := 0) cx.1 cx.2.1 dX4_carryOutPlan_66 (by decide) ?_
          refine as_7 (j := i) cx hW hS (by omega) rfl (by omega) dX4_carryOutPlan_67 (fun H locs hW hS => ?_)
          refine lv_iinc (v := nI (i + 1)) (lv' := [(2, .int (nI (i + 1))), (0, .ref (ad_ w 0 0)), (1, .int (nI q))]) cx.1 cx.2.1 dX4_carryOutPlan_68 hl (k := 2) rfl (nI_inc i) (by decide) rfl (fun ls hl => ?_)
          refine lv_goto (tgt := 2) cx.1 cx.2.1 dX4_carryOutPlan_71 (by decide) ?_
          exact ih2 (i + 1) (by omega) (by omega)  H locs ls (by rw [hE]; exact hW) hS (lv_sub (l' := [(0, .ref (ad_ w 0 0)), (1, .int (nI q)), (2, .int (nI (i + 1)))]) hl [1, 2, 0] rfl)
  exact L2 (n - 0 + 1) 0 (by omega) (by omega)  H locs ls hW hS (lv_sub hl [1, 2, 0] rfl)
