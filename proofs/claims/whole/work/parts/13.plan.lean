/-! MarginHouse: a closing out, planned and carried out -/
def ov_ : Option Nat → Int32
  | none => -1
  | some q => nI q
def lb_ (a : St_) (j : Nat) : Nat → Option Nat
  | 0 => none
  | i + 1 => if gi_ a 3 i 0 = 0 then (match lb_ a j i with | none => some i | some q => if gi_ a 5 q j ≤ gi_ a 5 i j then some q else some i) else lb_ a j i
theorem lb_lt (a : St_) (j : Nat) : ∀ (i q : Nat), lb_ a j i = some q → q < i
  | 0, q, h => by cases h
  | i + 1, q, h => by
    have ih := lb_lt a j i
    unfold lb_ at h
    by_cases hs : gi_ a 3 i 0 = 0
    · rw [if_pos hs] at h
      cases hl : lb_ a j i with
      | none => rw [hl] at h; cases h; omega
      | some z =>
        have := ih z hl
        rw [hl] at h
        dsimp only at h
        split at h <;> cases h <;> omega
    · rw [if_neg hs] at h
      have := ih q h
      omega
theorem nI_m1 {q : Nat} (h : q < 1000) : ¬ nI q = -1 := by
  intro e
  have h1 := nI_toInt (n := q) (by omega)
  rw [e] at h1
  have h2 : ((-1 : Int32)).toInt = -1 := by decide
  omega
theorem ov_m1 {o : Option Nat} (h : ov_ o = -1) (hq : ∀ q, o = some q → q < 1000) : o = none := by
  cases o with
  | none => rfl
  | some q => exact absurd h (nI_m1 (hq q rfl))
theorem ov_ne {o : Option Nat} (h : ¬ ov_ o = -1) : ∃ q, o = some q := by
  cases o with
  | none => exact absurd rfl h
  | some q => exact ⟨q, rfl⟩
set_option maxHeartbeats 4000000 in
set_option maxRecDepth 100000 in
theorem c_X4_leastBidder (l : Launch) {w : Gh_} (hI : In_ w) (a : St_) (k : Nat) (hk : gi_ a 0 0 0 = nI k) (hk8 : k ≤ 8) (j : Nat) (hj : j < 6) : Fn_ l w yX4_leastBidder (.code yX4_leastBidder cX4_leastBidder 4 (some .int)) { frames := 0, cells := 0, slots := 0, locals := 0 } 0 0 [.ref (ad_ w 0 0), .int (nI j)] a (.inl (some (.int (ov_ (lb_ a j k))))) a := by
  refine Fn_of hI (by decide +kernel) (Nat.le_of_ble_eq_true rfl) ?_
  intro zp ze zs zm zb zt zc ls cx hr hlk hno hW hS hl
  replace cx : Cx_ zp zs zm zc _ cX4_leastBidder 4 "MarginHouse" w := cx
  replace hl : lv_has ls 4 [(0, .ref (ad_ w 0 0)), (1, .int (nI j))] := hl
  obtain ⟨H, hH⟩ : ∃ H, zs.heap = H := ⟨_, rfl⟩
  rw [hH] at hW
  have hS : Fr_ w zs.heap H [] := by rw [← hH]; exact hS
  obtain ⟨locs, hlocs⟩ : ∃ x : List Loc, x = [] := ⟨_, rfl⟩
  rw [← hlocs] at hS ⊢
  rw [show W zp l ze _ zs zm _ zb zt zc zs.heap locs 0 0 _ (F0 zm 0 ls []) ↔ W zp l ze _ zs zm _ zb zt zc H locs 0 0 _ (F0 zm 0 ls []) from by rw [hH]]
  refine lv_iconst (v := -1) cx.1 cx.2.1 dX4_leastBidder_0 (by decide) ?_
  refine lv_istore_n (lv' := [(2, .int (-1)), (0, .ref (ad_ w 0 0)), (1, .int (nI j))]) cx.1 cx.2.1 dX4_leastBidder_1 rfl hl (by decide) rfl (fun ls hl => ?_)
  refine lv_iconst (v := 0) cx.1 cx.2.1 dX4_leastBidder_2 (by decide) ?_
  refine lv_istore_n (lv' := [(3, .int 0), (2, .int (-1)), (0, .ref (ad_ w 0 0)), (1, .int (nI j))]) cx.1 cx.2.1 dX4_leastBidder_3 rfl hl (by decide) rfl (fun ls hl => ?_)
  have L4 : ∀ (d i : Nat), i ≤ k → k - i < d → ∀ (H : Heap) (locs : List Loc) (ls : Array Slot), Hd_ w a H → Fr_ w zs.heap H locs → lv_has ls 4 [(0, .ref (ad_ w 0 0)), (1, .int (nI j)), (2, .int (ov_ (lb_ a j i))), (3, .int (nI i))] → W zp l ze { frames := 0, cells := 0, slots := 0, locals := 0 } zs zm ([.ref (ad_ w 0 0), .int (nI j)] : List Value).toArray zb zt zc H locs 0 0 (vx_MQ zb (Qc_ w (.inl (some (.int (ov_ (lb_ a j k))))) a) (XC_ w (.inl (some (.int (ov_ (lb_ a j k))))) a) ([.ref (ad_ w 0 0), .int (nI j)] : List Value).toArray zs 0 0 (fun q => lo_ w ≤ q)) (F0 zm 4 ls []) := by
    intro d
    induction d with
    | zero => intro i _ hd; exact absurd hd (Nat.not_lt_zero _)
    | succ d ih4 =>
      intro i hi hdi  H locs ls hW hS hl
      refine lv_iload_n cx.1 cx.2.1 dX4_leastBidder_4 rfl (lv_at hl 3 rfl) ?_
      refine lv_aload_n cx.1 cx.2.1 dX4_leastBidder_5 rfl (lv_at hl 0 rfl) ?_
      refine gf_X4_37 cx hW (by decide) dX4_leastBidder_6 ?_
      refine tp_i (y := nI k) hk ?_
      refine lv_icmp_ge (tgt := 62) cx.1 cx.2.1 dX4_leastBidder_9 (by decide) (fun h9 => ?_) (fun h9 => ?_)
      · skip
        have h9 : k ≤ i := (nI_leI (by omega) (by omega)).mp h9
        have e4 : i = k := by omega
        try rw [e4] at hl
        try rw [e4] at hW
        refine lv_iload_n cx.1 cx.2.1 dX4_leastBidder_62 rfl (lv_at hl 2 rfl) ?_
        exact cr_i cx hr hlk hW hS (Nat.le_of_ble_eq_true rfl) (Nat.le_of_ble_eq_true rfl) dX4_leastBidder_63 rfl rfl
      · skip
        have h9 : i < k := Nat.not_le.mp (fun q => h9 ((nI_leI (by omega) (by omega)).mpr q))
        refine lv_aload_n cx.1 cx.2.1 dX4_leastBidder_12 rfl (lv_at hl 0 rfl) ?_
        refine gf_X4_11 cx hW (by decide) dX4_leastBidder_13 ?_
        refine lv_iload_n cx.1 cx.2.1 dX4_leastBidder_16 rfl (lv_at hl 3 rfl) ?_
        refine al_1 (j := i) cx hW (by decide) rfl (by omega) dX4_leastBidder_17 ?_
        refine gf_X4_127 cx hW (by omega) dX4_leastBidder_18 ?_
        refine lv_if_ne (tgt := 56) cx.1 cx.2.1 dX4_leastBidder_21 (by decide) (fun h21 => ?_) (fun h21 => ?_)
        · skip
          have hE : ov_ (lb_ a j i) = ov_ (lb_ a j (i + 1)) := by simp only [lb_, h21, if_false]
          refine lv_iinc (v := nI (i + 1)) (lv' := [(3, .int (nI (i + 1))), (0, .ref (ad_ w 0 0)), (1, .int (nI j)), (2, .int (ov_ (lb_ a j i)))]) cx.1 cx.2.1 dX4_leastBidder_56 hl (k := 3) rfl (nI_inc i) (by decide) rfl (fun ls hl => ?_)
          refine lv_goto (tgt := 4) cx.1 cx.2.1 dX4_leastBidder_59 (by decide) ?_
          exact ih4 (i + 1) (by omega) (by omega)  H locs ls hW hS (lv_sub (l' := [(0, .ref (ad_ w 0 0)), (1, .int (nI j)), (2, .int (ov_ (lb_ a j (i + 1)))), (3, .int (nI (i + 1)))]) hl [1, 2, 3, 0] (by rw [← hE]; rfl))
        · skip
          refine lv_iload_n cx.1 cx.2.1 dX4_leastBidder_24 rfl (lv_at hl 2 rfl) ?_
          refine lv_iconst (v := -1) cx.1 cx.2.1 dX4_leastBidder_25 (by decide) ?_
          refine lv_icmp_eq (tgt := 54) cx.1 cx.2.1 dX4_leastBidder_26 (by decide) (fun h26 => ?_) (fun h26 => ?_)
          · skip
            have hb0 : ∀ q, lb_ a j i = some q → q < 1000 := fun q h => by have := lb_lt a j i q h; omega
            have hE : nI i = ov_ (lb_ a j (i + 1)) := by simp only [lb_, h21, if_true, ov_m1 h26 hb0]; rfl
            refine lv_iload_n cx.1 cx.2.1 dX4_leastBidder_54 rfl (lv_at hl 3 rfl) ?_
            refine lv_istore_n (lv' := [(2, .int (nI i)), (0, .ref (ad_ w 0 0)), (1, .int (nI j)), (3, .int (nI i))]) cx.1 cx.2.1 dX4_leastBidder_55 rfl hl (by decide) rfl (fun ls hl => ?_)
            refine lv_iinc (v := nI (i + 1)) (lv' := [(3, .int (nI (i + 1))), (2, .int (nI i)), (0, .ref (ad_ w 0 0)), (1, .int (nI j))]) cx.1 cx.2.1 dX4_leastBidder_56 hl (k := 3) rfl (nI_inc i) (by decide) rfl (fun ls hl => ?_)
            refine lv_goto (tgt := 4) cx.1 cx.2.1 dX4_leastBidder_59 (by decide) ?_
            exact ih4 (i + 1) (by omega) (by omega)  H locs ls hW hS (lv_sub (l' := [(0, .ref (ad_ w 0 0)), (1, .int (nI j)), (2, .int (ov_ (lb_ a j (i + 1)))), (3, .int (nI (i + 1)))]) hl [2, 3, 1, 0] (by rw [← hE]; rfl))
          · skip
            obtain ⟨q, hq⟩ := ov_ne h26
            have hqi := lb_lt a j i q hq
            refine lv_aload_n cx.1 cx.2.1 dX4_leastBidder_29 rfl (lv_at hl 0 rfl) ?_
            refine gf_X4_11 cx hW (by decide) dX4_leastBidder_30 ?_
            refine lv_iload_n cx.1 cx.2.1 dX4_leastBidder_33 rfl (lv_at hl 3 rfl) ?_
            refine al_1 (j := i) cx hW (by decide) rfl (by omega) dX4_leastBidder_34 ?_
            refine gf_X4_97 cx hW (by omega) dX4_leastBidder_35 ?_
            refine lv_iload_n cx.1 cx.2.1 dX4_leastBidder_38 rfl (lv_at hl 1 rfl) ?_
            refine al_8 (j := j) cx hW (by omega) rfl (by omega) dX4_leastBidder_39 ?_
            refine lv_aload_n cx.1 cx.2.1 dX4_leastBidder_40 rfl (lv_at hl 0 rfl) ?_
            refine gf_X4_11 cx hW (by decide) dX4_leastBidder_41 ?_
            refine lv_iload_n cx.1 cx.2.1 dX4_leastBidder_44 rfl (lv_at hl 2 rfl) ?_
            refine al_1 (j := q) cx hW (by decide) (by rw [hq]; rfl) (by omega) dX4_leastBidder_45 ?_
            refine gf_X4_97 cx hW (by omega) dX4_leastBidder_46 ?_
            refine lv_iload_n cx.1 cx.2.1 dX4_leastBidder_49 rfl (lv_at hl 1 rfl) ?_
            refine al_8 (j := j) cx hW (by omega) rfl (by omega) dX4_leastBidder_50 ?_
            refine lv_icmp_ge (tgt := 56) cx.1 cx.2.1 dX4_leastBidder_51 (by decide) (fun h51 => ?_) (fun h51 => ?_)
            · skip
              have hE : ov_ (lb_ a j i) = ov_ (lb_ a j (i + 1)) := by rw [hq]; simp only [lb_, h21, if_true, hq, h51]
              refine lv_iinc (v := nI (i + 1)) (lv' := [(3, .int (nI (i + 1))), (0, .ref (ad_ w 0 0)), (1, .int (nI j)), (2, .int (ov_ (lb_ a j i)))]) cx.1 cx.2.1 dX4_leastBidder_56 hl (k := 3) rfl (nI_inc i) (by decide) rfl (fun ls hl => ?_)
              refine lv_goto (tgt := 4) cx.1 cx.2.1 dX4_leastBidder_59 (by decide) ?_
              exact ih4 (i + 1) (by omega) (by omega)  H locs ls hW hS (lv_sub (l' := [(0, .ref (ad_ w 0 0)), (1, .int (nI j)), (2, .int (ov_ (lb_ a j (i + 1)))), (3, .int (nI (i + 1)))]) hl [1, 2, 3, 0] (by rw [← hE]; rfl))
            · skip
              have hE : nI i = ov_ (lb_ a j (i + 1)) := by simp only [lb_, h21, if_true, hq, h51, if_false]; rfl
              refine lv_iload_n cx.1 cx.2.1 dX4_leastBidder_54 rfl (lv_at hl 3 rfl) ?_
              refine lv_istore_n (lv' := [(2, .int (nI i)), (0, .ref (ad_ w 0 0)), (1, .int (nI j)), (3, .int (nI i))]) cx.1 cx.2.1 dX4_leastBidder_55 rfl hl (by decide) rfl (fun ls hl => ?_)
              refine lv_iinc (v := nI (i + 1)) (lv' := [(3, .int (nI (i + 1))), (2, .int (nI i)), (0, .ref (ad_ w 0 0)), (1, .int (nI j))]) cx.1 cx.2.1 dX4_leastBidder_56 hl (k := 3) rfl (nI_inc i) (by decide) rfl (fun ls hl => ?_)
              refine lv_goto (tgt := 4) cx.1 cx.2.1 dX4_leastBidder_59 (by decide) ?_
              exact ih4 (i + 1) (by omega) (by omega)  H locs ls hW hS (lv_sub (l' := [(0, .ref (ad_ w 0 0)), (1, .int (nI j)), (2, .int (ov_ (lb_ a j (i + 1)))), (3, .int (nI (i + 1)))]) hl [2, 3, 1, 0] (by rw [← hE]; rfl))
  exact L4 (k - 0 + 1) 0 (by omega) (by omega)  H locs ls hW hS (lv_sub hl [2, 3, 1, 0] rfl)
def sp_ (a : St_) : Nat → St_
  | 0 => a
  | i + 1 => sl_ (sl_ (sp_ a i) 5 0 i (gl_ (sp_ a i) 2 i 0)) 6 0 i (gl_ (sl_ (sp_ a i) 5 0 i (gl_ (sp_ a i) 2 i 0)) 3 i 0)
theorem sp_gi (a : St_) (v x y : Nat) : ∀ i, gi_ (sp_ a i) v x y = gi_ a v x y
  | 0 => rfl
  | i + 1 => sp_gi a v x y i
def sz_ (a : St_) (k : Nat) : St_ := sl_ (sp_ a k) 8 0 0 (gl_ (sp_ a k) 0 0 0)
set_option maxHeartbeats 4000000 in
set_option maxRecDepth 100000 in
theorem c_X4_startPlan (l : Launch) {w : Gh_} (hI : In_ w) (a : St_) (k : Nat) (hk : gi_ a 0 0 0 = nI k) (hk8 : k ≤ 8) : Fn_ l w yX4_startPlan (.code yX4_startPlan cX4_startPlan 2 none) { frames := 0, cells := 0, slots := 0, locals := 0 } 0 0 [.ref (ad_ w 0 0)] a (.inl none) (sz_ a k) := by
  refine Fn_of hI (by decide +kernel) (Nat.le_of_ble_eq_true rfl) ?_
  intro zp ze zs zm zb zt zc ls cx hr hlk hno hW hS hl
  replace cx : Cx_ zp zs zm zc _ cX4_startPlan 2 "MarginHouse" w := cx
  replace hl : lv_has ls 2 [(0, .ref (ad_ w 0 0))] := hl
  obtain ⟨H, hH⟩ : ∃ H, zs.heap = H := ⟨_, rfl⟩
  rw [hH] at hW
  have hS : Fr_ w zs.heap H [] := by rw [← hH]; exact hS
  obtain ⟨locs, hlocs⟩ : ∃ x : List Loc, x = [] := ⟨_, rfl⟩
  rw [← hlocs] at hS ⊢
  rw [show W zp l ze _ zs zm _ zb zt zc zs.heap locs 0 0 _ (F0 zm 0 ls []) ↔ W zp l ze _ zs zm _ zb zt zc H locs 0 0 _ (F0 zm 0 ls []) from by rw [hH]]
  refine lv_iconst (v := 0) cx.1 cx.2.1 dX4_startPlan_0 (by decide) ?_
  refine lv_istore_n (lv' := [(1, .int 0), (0, .ref (ad_ w 0 0))]) cx.1 cx.2.1 dX4_startPlan_1 rfl hl (by decide) rfl (fun ls hl => ?_)
  have L2 : ∀ (d i : Nat), i ≤ k → k - i < d → ∀ (H : Heap) (locs : List Loc) (ls : Array Slot), Hd_ w (sp_ a i) H → Fr_ w zs.heap H locs → lv_has ls 2 [(0, .ref (ad_ w 0 0)), (1, .int (nI i))] → W zp l ze { frames := 0, cells := 0, slots := 0, locals := 0 } zs zm ([.ref (ad_ w 0 0)] : List Value).toArray zb zt zc H locs 0 0 (vx_MQ zb (Qc_ w (.inl none) (sz_ a k)) (XC_ w (.inl none) (sz_ a k)) ([.ref (ad_ w 0 0)] : List Value).toArray zs 0 0 (fun q => lo_ w ≤ q)) (F0 zm 2 ls []) := by
    intro d
    induction d with
    | zero => intro i _ hd; exact absurd hd (Nat.not_lt_zero _)
    | succ d ih2 =>
      intro i hi hdi  H locs ls hW hS hl
      refine lv_iload_n cx.1 cx.2.1 dX4_startPlan_2 rfl (lv_at hl 1 rfl) ?_
      refine lv_aload_n cx.1 cx.2.1 dX4_startPlan_3 rfl (lv_at hl 0 rfl) ?_
      refine gf_X4_37 cx hW (by decide) dX4_startPlan_4 ?_
      refine tp_i (y := nI k) (by rw [sp_gi]; exact hk) ?_
      refine lv_icmp_ge (tgt := 52) cx.1 cx.2.1 dX4_startPlan_7 (by decide) (fun h7 => ?_) (fun h7 => ?_)
      · skip
        have h7 : k ≤ i := (nI_leI (by omega) (by omega)).mp h7
        have e2 : i = k := by omega
        try rw [e2] at hl
        try rw [e2] at hW
        refine lv_aload_n cx.1 cx.2.1 dX4_startPlan_52 rfl (lv_at hl 0 rfl) ?_
        refine gf_X4_33 cx hW (by decide) dX4_startPlan_53 ?_
        refine lv_aload_n cx.1 cx.2.1 dX4_startPlan_56 rfl (lv_at hl 0 rfl) ?_
        refine gf_X4_47 cx hW (by decide) dX4_startPlan_57 ?_
        refine pf_X4_194 cx hW hS (by decide) dX4_startPlan_60 (fun H locs hW hS => ?_)
        exact cr_v cx hr hlk hW hS (Nat.le_of_ble_eq_true rfl) (Nat.le_of_ble_eq_true rfl) dX4_startPlan_63 rfl rfl
      · skip
        have h7 : i < k := Nat.not_le.mp (fun q => h7 ((nI_leI (by omega) (by omega)).mpr q))
        refine lv_aload_n cx.1 cx.2.1 dX4_startPlan_10 rfl (lv_at hl 0 rfl) ?_
        refine gf_X4_33 cx hW (by decide) dX4_startPlan_11 ?_
        refine gf_X4_190 cx hW (by decide) dX4_startPlan_14 ?_
        refine lv_iload_n cx.1 cx.2.1 dX4_startPlan_17 rfl (lv_at hl 1 rfl) ?_
        refine lv_aload_n cx.1 cx.2.1 dX4_startPlan_18 rfl (lv_at hl 0 rfl) ?_
        refine gf_X4_11 cx hW (by decide) dX4_startPlan_19 ?_
        refine lv_iload_n cx.1 cx.2.1 dX4_startPlan_22 rfl (lv_at hl 1 rfl) ?_
        refine al_1 (j := i) cx hW (by decide) rfl (by omega) dX4_startPlan_23 ?_
        refine gf_X4_105 cx hW (by omega) dX4_startPlan_24 ?_
        refine as_12 (j := i) cx hW hS (by decide) rfl (by omega) dX4_startPlan_27 (fun H locs hW hS => ?_)
        refine lv_aload_n cx.1 cx.2.1 dX4_startPlan_28 rfl (lv_at hl 0 rfl) ?_
        refine gf_X4_33 cx hW (by decide) dX4_startPlan_29 ?_
        refine gf_X4_192 cx hW (by decide) dX4_startPlan_32 ?_
        refine lv_iload_n cx.1 cx.2.1 dX4_startPlan_35 rfl (lv_at hl 1 rfl) ?_
        refine lv_aload_n cx.1 cx.2.1 dX4_startPlan_36 rfl (lv_at hl 0 rfl) ?_
        refine gf_X4_11 cx hW (by decide) dX4_startPlan_37 ?_
        refine lv_iload_n cx.1 cx.2.1 dX4_startPlan_40 rfl (lv_at hl 1 rfl) ?_
        refine al_1 (j := i) cx hW (by decide) rfl (by omega) dX4_startPlan_41 ?_
        refine gf_X4_66 cx hW (by omega) dX4_startPlan_42 ?_
        refine as_13 (j := i) cx hW hS (by decide) rfl (by omega) dX4_startPlan_45 (fun H locs hW hS => ?_)
        refine lv_iinc (v := nI (i + 1)) (lv' := [(1, .int (nI (i + 1))), (0, .ref (ad_ w 0 0))]) cx.1 cx.2.1 dX4_startPlan_46 hl (k := 1) rfl (nI_inc i) (by decide) rfl (fun ls hl => ?_)
        refine lv_goto (tgt := 2) cx.1 cx.2.1 dX4_startPlan_49 (by decide) ?_
        exact ih2 (i + 1) (by omega) (by omega)  H locs ls hW hS (lv_sub (l' := [(0, .ref (ad_ w 0 0)), (1, .int (nI (i + 1)))]) hl [1, 0] rfl)
  exact L2 (k - 0 + 1) 0 (by omega) (by omega)  H locs ls hW hS (lv_sub hl [1, 0] rfl)
def as_ (a : St_) (q t j : Nat) : Int64 := (gi_ a 5 t j).toInt64 * (ab_ (gi_ a 4 q j)).toInt64
def tk_ (a : St_) (q t j : Nat) : St_ := sl_ (sl_ (si_ a 10 0 j (nI t)) 5 0 t (gl_ a 5 0 t + as_ a q t j)) 5 0 q (gl_ (sl_ (si_ a 10 0 j (nI t)) 5 0 t (gl_ a 5 0 t + as_ a q t j)) 5 0 q - as_ a q t j)
abbrev tm_ (x : Int64) : Prop := wi_ x (-1000000000000000) 1000000000000000
abbrev tn_ (x : Int32) : Prop := wi_ x.toInt64 (-1000000) 1000000
abbrev to_ (a : St_) (q t j : Nat) : Prop := tn_ (gi_ a 4 t j + gi_ a 4 q j) ∧ tm_ (gl_ (tk_ a q t j) 5 0 t) ∧ tm_ (gl_ (tk_ a q t j) 5 0 q)
set_option maxHeartbeats 4000000 in
set_option maxRecDepth 100000 in
theorem c_X4_planTaking (l : Launch) {w : Gh_} (hI : In_ w) (a : St_) (q t j : Nat) (hq : q < 8) (ht : t < 8) (hj : j < 6) : Fn_ l w yX4_planTaking (.code yX4_planTaking cX4_planTaking 7 (some .boolean)) { frames := 2, cells := 0, slots := 0, locals := 46 } 0 0 [.ref (ad_ w 0 0), .int (nI q), .int (nI t), .int (nI j)] a (.inl (some (.int (if to_ a q t j then 1 else 0)))) (tk_ a q t j) := by
  refine Fn_of hI (by decide +kernel) (Nat.le_of_ble_eq_true rfl) ?_
  intro zp ze zs zm zb zt zc ls cx hr hlk hno hW hS hl
  replace cx : Cx_ zp zs zm zc _ cX4_planTaking 7 "MarginHouse" w := cx
  replace hl : lv_has ls 7 [(0, .ref (ad_ w 0 0)), (1, .int (nI q)), (2, .int (nI t)), (3, .int (nI j))] := hl
  obtain ⟨H, hH⟩ : ∃ H, zs.heap = H := ⟨_, rfl⟩
  rw [hH] at hW
  have hS : Fr_ w zs.heap H [] := by rw [← hH]; exact hS
  obtain ⟨locs, hlocs⟩ : ∃ x : List Loc, x = [] := ⟨_, rfl⟩
  rw [← hlocs] at hS ⊢
  rw [show W zp l ze _ zs zm _ zb zt zc zs.heap locs 0 0 _ (F0 zm 0 ls []) ↔ W zp l ze _ zs zm _ zb zt zc H locs 0 0 _ (F0 zm 0 ls []) from by rw [hH]]
  refine lv_aload_n cx.1 cx.2.1 dX4_planTaking_0 rfl (lv_at hl 0 rfl) ?_
  refine gf_X4_11 cx hW (by decide) dX4_planTaking_1 ?_
  refine lv_iload_n cx.1 cx.2.1 dX4_planTaking_4 rfl (lv_at hl 1 rfl) ?_
  refine al_1 (j := q) cx hW (by decide) rfl (by omega) dX4_planTaking_5 ?_
  refine gf_X4_114 cx hW (by omega) dX4_planTaking_6 ?_
  refine lv_iload_n cx.1 cx.2.1 dX4_planTaking_9 rfl (lv_at hl 3 rfl) ?_
  refine al_7 (j := j) cx hW (by omega) rfl (by omega) dX4_planTaking_10 ?_
  refine lv_istore (lv' := [(4, .int (gi_ a 4 q j)), (0, .ref (ad_ w 0 0)), (1, .int (nI q)), (2, .int (nI t)), (3, .int (nI j))]) cx.1 cx.2.1 dX4_planTaking_11 hl (by decide) rfl (fun ls hl => ?_)
  refine lv_aload_n cx.1 cx.2.1 dX4_planTaking_13 rfl (lv_at hl 1 rfl) ?_
  refine gf_X4_11 cx hW (by decide) dX4_planTaking_14 ?_
  refine lv_iload_n cx.1 cx.2.1 dX4_planTaking_17 rfl (lv_at hl 3 rfl) ?_
  refine al_1 (j := t) cx hW (by decide) rfl (by omega) dX4_planTaking_18 ?_
  refine gf_X4_97 cx hW (by omega) dX4_planTaking_19 ?_
  refine lv_iload_n cx.1 cx.2.1 dX4_planTaking_22 rfl (lv_at hl 4 rfl) ?_
  refine al_8 (j := j) cx hW (by omega) rfl (by omega) dX4_planTaking_23 ?_
  refine lv_i2l (v := (gi_ a 5 t j).toInt64) cx.1 cx.2.1 dX4_planTaking_24 rfl ?_
  refine lv_iload cx.1 cx.2.1 dX4_planTaking_25 (lv_at hl 0 rfl) ?_
  refine mm_abs cx hl nw_107 (Nat.le_of_ble_eq_true rfl) (Nat.le_of_ble_eq_true rfl) (Nat.le_of_ble_eq_true rfl) (Nat.le_of_ble_eq_true rfl) dX4_planTaking_27 ?_
  refine lv_i2l (v := (ab_ (gi_ a 4 q j)).toInt64) cx.1 cx.2.1 dX4_planTaking_30 rfl ?_
  refine lv_lmul cx.1 cx.2.1 dX4_planTaking_31 ?_
  refine tp_j (y := as_ a q t j) rfl ?_
  refine lv_lstore (lv' := [(5, .long (as_ a q t j)), (4, .int (gi_ a 4 q j)), (0, .ref (ad_ w 0 0)), (1, .int (nI q)), (2, .int (nI t)), (3, .int (nI j))]) cx.1 cx.2.1 dX4_planTaking_32 hl (by decide) rfl (fun ls hl => ?_)
  refine lv_aload_n cx.1 cx.2.1 dX4_planTaking_34 rfl (lv_at hl 2 rfl) ?_
  refine gf_X4_33 cx hW (by decide) dX4_planTaking_35 ?_
  refine gf_X4_197 cx hW (by decide) dX4_planTaking_38 ?_
  refine lv_iload_n cx.1 cx.2.1 dX4_planTaking_41 rfl (lv_at hl 5 rfl) ?_
  refine lv_iload_n cx.1 cx.2.1 dX4_planTaking_42 rfl (lv_at hl 4 rfl) ?_
  refine as_11 (j := j) cx hW hS (by decide) rfl (by omega) dX4_planTaking_43 (fun H locs hW hS => ?_)
  refine lv_aload_n cx.1 cx.2.1 dX4_planTaking_44 rfl (lv_at hl 2 rfl) ?_
  refine gf_X4_33 cx hW (by decide) dX4_planTaking_45 ?_
  refine gf_X4_190 cx hW (by decide) dX4_planTaking_48 ?_
  refine lv_iload_n cx.1 cx.2.1 dX4_planTaking_51 rfl (lv_at hl 4 rfl) ?_
  refine lv_dup2_11 cx.1 cx.2.1 dX4_planTaking_52 rfl rfl ?_
  refine al_12 (j := t) cx hW (by decide) rfl (by omega) dX4_planTaking_53 ?_
  refine lv_lload cx.1 cx.2.1 dX4_planTaking_54 (lv_at hl 0 rfl) ?_
  refine lv_ladd cx.1 cx.2.1 dX4_planTaking_56 ?_
  refine as_12 (j := t) cx hW hS (by decide) rfl (by omega) dX4_planTaking_57 (fun H locs hW hS => ?_)
  refine lv_aload_n cx.1 cx.2.1 dX4_planTaking_58 rfl (lv_at hl 2 rfl) ?_
  refine gf_X4_33 cx hW (by decide) dX4_planTaking_59 ?_
  refine gf_X4_190 cx hW (by decide) dX4_planTaking_62 ?_
  refine lv_iload_n cx.1 cx.2.1 dX4_planTaking_65 rfl (lv_at hl 3 rfl) ?_
  refine lv_dup2_11 cx.1 cx.2.1 dX4_planTaking_66 rfl rfl ?_
  refine al_12 (j := q) cx hW (by decide) rfl (by omega) dX4_planTaking_67 ?_
  refine lv_lload cx.1 cx.2.1 dX4_planTaking_68 (lv_at hl 0 rfl) ?_
  refine lv_lsub cx.1 cx.2.1 dX4_planTaking_70 ?_
  refine as_12 (j := q) cx hW hS (by decide) rfl (by omega) dX4_planTaking_71 (fun H locs hW hS => ?_)
  replace hW : Hd_ w (tk_ a q t j) H := hW
  refine lv_aload_n cx.1 cx.2.1 dX4_planTaking_72 rfl (lv_at hl 2 rfl) ?_
  refine gf_X4_11 cx hW (by decide) dX4_planTaking_73 ?_
  refine lv_iload_n cx.1 cx.2.1 dX4_planTaking_76 rfl (lv_at hl 4 rfl) ?_
  refine al_1 (j := t) cx hW (by decide) rfl (by omega) dX4_planTaking_77 ?_
  refine gf_X4_114 cx hW (by omega) dX4_planTaking_78 ?_
  refine lv_iload_n cx.1 cx.2.1 dX4_planTaking_81 rfl (lv_at hl 5 rfl) ?_
  refine al_7 (j := j) cx hW (by omega) rfl (by omega) dX4_planTaking_82 ?_
  refine lv_iload cx.1 cx.2.1 dX4_planTaking_83 (lv_at hl 1 rfl) ?_
  refine lv_iadd cx.1 cx.2.1 dX4_planTaking_85 ?_
  refine ck_S (v := some (.int (if ¬ wi_ ((gi_ (tk_ a q t j) 4 t j) + (gi_ a 4 q j)).toInt64 (-1000000) 1000000 then 1 else 0))) (As := [.int ((gi_ (tk_ a q t j) 4 t j) + (gi_ a 4 q j))]) (rest := []) cx hW hS hl (c_X4_isTooMany l hI (tk_ a q t j) ((gi_ (tk_ a q t j) 4 t j) + (gi_ a 4 q j))) cw_X4_isTooMany nw_216 nw_215 rfl rfl (Nat.le_of_ble_eq_true rfl) rfl rfl ⟨Nat.le_of_ble_eq_true rfl, Nat.le_of_ble_eq_true rfl⟩ ⟨Nat.le_of_ble_eq_true rfl, Nat.le_of_ble_eq_true rfl⟩ dX4_planTaking_86 (fun H locs hW hS => ?_)
  refine W.eq (g2 := F0 zm 89 ls [.int (if ¬ wi_ ((gi_ (tk_ a q t j) 4 t j) + (gi_ a 4 q j)).toInt64 (-1000000) 1000000 then 1 else 0)]) rfl ?_
  refine lv_if_ne (tgt := 126) cx.1 cx.2.1 dX4_planTaking_89 (by decide) (fun h89 => ?_) (fun h89 => ?_)
  · skip
    have h89 := bz_1 h89
    refine lv_iconst (v := 0) cx.1 cx.2.1 dX4_planTaking_126 (by decide) ?_
    exact cr_z cx hr hlk (by decide) hW hS (Nat.le_of_ble_eq_true rfl) (Nat.le_of_ble_eq_true rfl) dX4_planTaking_127 (by first | rw [if_pos (⟨Classical.not_not.mp h89, Classical.not_not.mp h104, Classical.not_not.mp h119⟩ : to_ a q t j)] | rw [if_neg (fun z : to_ a q t j => absurd z (by first | exact fun z => h89 z.1 | exact fun z => h104 z.2.1 | exact fun z => h119 z.2.2))]) rfl
  · skip
    have h89 := bz_0 h89
    refine lv_aload_n cx.1 cx.2.1 dX4_planTaking_92 rfl (lv_at hl 2 rfl) ?_
    refine gf_X4_33 cx hW (by decide) dX4_planTaking_93 ?_
    refine gf_X4_190 cx hW (by decide) dX4_planTaking_96 ?_
    refine lv_iload_n cx.1 cx.2.1 dX4_planTaking_99 rfl (lv_at hl 4 rfl) ?_
    refine al_12 (j := t) cx hW (by decide) rfl (by omega) dX4_planTaking_100 ?_
    refine ck_S (v := some (.int (if ¬ wi_ (gl_ (tk_ a q t j) 5 0 t) (-1000000000000000) 1000000000000000 then 1 else 0))) (As := [.long (gl_ (tk_ a q t j) 5 0 t)]) (rest := []) cx hW hS hl (c_X4_isTooMuch l hI (tk_ a q t j) (gl_ (tk_ a q t j) 5 0 t)) cw_X4_isTooMuch nw_157 nw_156 rfl rfl (Nat.le_of_ble_eq_true rfl) rfl rfl ⟨Nat.le_of_ble_eq_true rfl, Nat.le_of_ble_eq_true rfl⟩ ⟨Nat.le_of_ble_eq_true rfl, Nat.le_of_ble_eq_true rfl⟩ dX4_planTaking_101 (fun H locs hW hS => ?_)
    refine W.eq (g2 := F0 zm 104 ls [.int (if ¬ wi_ (gl_ (tk_ a q t j) 5 0 t) (-1000000000000000) 1000000000000000 then 1 else 0)]) rfl ?_
    refine lv_if_ne (tgt := 126) cx.1 cx.2.1 dX4_planTaking_104 (by decide) (fun h104 => ?_) (fun h104 => ?_)
    · skip
      have h104 := bz_1 h104
      refine lv_iconst (v := 0) cx.1 cx.2.1 dX4_planTaking_126 (by decide) ?_
      exact cr_z cx hr hlk (by decide) hW hS (Nat.le_of_ble_eq_true rfl) (Nat.le_of_ble_eq_true rfl) dX4_planTaking_127 (by first | rw [if_pos (⟨Classical.not_not.mp h89, Classical.not_not.mp h104, Classical.not_not.mp h119⟩ : to_ a q t j)] | rw [if_neg (fun z : to_ a q t j => absurd z (by first | exact fun z => h89 z.1 | exact fun z => h104 z.2.1 | exact fun z => h119 z.2.2))]) rfl
    · skip
      have h104 := bz_0 h104
      refine lv_aload_n cx.1 cx.2.1 dX4_planTaking_107 rfl (lv_at hl 2 rfl) ?_
      refine gf_X4_33 cx hW (by decide) dX4_planTaking_108 ?_
      refine gf_X4_190 cx hW (by decide) dX4_planTaking_111 ?_
      refine lv_iload_n cx.1 cx.2.1 dX4_planTaking_114 rfl (lv_at hl 3 rfl) ?_
      refine al_12 (j := q) cx hW (by decide) rfl (by omega) dX4_planTaking_115 ?_
      refine ck_S (v := some (.int (if ¬ wi_ (gl_ (tk_ a q t j) 5 0 q) (-1000000000000000) 1000000000000000 then 1 else 0))) (As := [.long (gl_ (tk_ a q t j) 5 0 q)]) (rest := []) cx hW hS hl (c_X4_isTooMuch l hI (tk_ a q t j) (gl_ (tk_ a q t j) 5 0 q)) cw_X4_isTooMuch nw_157 nw_156 rfl rfl (Nat.le_of_ble_eq_true rfl) rfl rfl ⟨Nat.le_of_ble_eq_true rfl, Nat.le_of_ble_eq_true rfl⟩ ⟨Nat.le_of_ble_eq_true rfl, Nat.le_of_ble_eq_true rfl⟩ dX4_planTaking_116 (fun H locs hW hS => ?_)
      refine W.eq (g2 := F0 zm 119 ls [.int (if ¬ wi_ (gl_ (tk_ a q t j) 5 0 q) (-1000000000000000) 1000000000000000 then 1 else 0)]) rfl ?_
      refine lv_if_ne (tgt := 126) cx.1 cx.2.1 dX4_planTaking_119 (by decide) (fun h119 => ?_) (fun h119 => ?_)
      · skip
        have h119 := bz_1 h119
        refine lv_iconst (v := 0) cx.1 cx.2.1 dX4_planTaking_126 (by decide) ?_
        exact cr_z cx hr hlk (by decide) hW hS (Nat.le_of_ble_eq_true rfl) (Nat.le_of_ble_eq_true rfl) dX4_planTaking_127 (by first | rw [if_pos (⟨Classical.not_not.mp h89, Classical.not_not.mp h104, Classical.not_not.mp h119⟩ : to_ a q t j)] | rw [if_neg (fun z : to_ a q t j => absurd z (by first | exact fun z => h89 z.1 | exact fun z => h104 z.2.1 | exact fun z => h119 z.2.2))]) rfl
      · skip
        have h119 := bz_0 h119
        refine lv_iconst (v := 1) cx.1 cx.2.1 dX4_planTaking_122 (by decide) ?_
        refine lv_goto (tgt := 127) cx.1 cx.2.1 dX4_planTaking_123 (by decide) ?_
        exact cr_z cx hr hlk (by decide) hW hS (Nat.le_of_ble_eq_true rfl) (Nat.le_of_ble_eq_true rfl) dX4_planTaking_127 (by first | rw [if_pos (⟨Classical.not_not.mp h89, Classical.not_not.mp h104, Classical.not_not.mp h119⟩ : to_ a q t j)] | rw [if_neg (fun z : to_ a q t j => absurd z (by first | exact fun z => h89 z.1 | exact fun z => h104 z.2.1 | exact fun z => h119 z.2.2))]) rfl
