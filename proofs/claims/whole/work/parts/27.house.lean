/-! The house's own constructor -/
def bm_ (w : Gh_) (B : Bm_) : Bm_ := fun k i => if k = 3 ∧ i = 0 then some (.inl (ca_ w 4, 8, .inr (.inr (.inr (.inr fun j => some (ad_ w 10 j)))))) else if k = 10 ∧ i < 8 then some (.inl (ca_ w 0, 6, .inl fun _ => 0)) else B k i
theorem mu_sub (w : Gh_) (B : Bm_) (e0 : va_E) : ∀ k i e, bu_ (bm_ w B) 0 0 e0 k i = some e → bm_ w (bu_ B 0 0 e0) k i = some e := by
  intro k i e h
  by_cases q : k = 0 ∧ i = 0
  · obtain ⟨rfl, rfl⟩ := q
    exact h
  · rw [bu_ne _ _ q] at h
    simp only [bm_, bu_ne _ _ q] at h ⊢
    exact h
def rs_ (w : Gh_) (c n k i : Nat) : va_E := .inl (ca_ w c, n, .inr (.inr (.inr (.inr fun t => if t < i then some (ad_ w k t) else none))))
def Bh_ (w : Gh_) (i j : Nat) : Bm_ := fun k q => if k = 1 ∧ q = 0 then some (rs_ w 2 8 6 i) else if k = 2 ∧ q = 0 then some (rs_ w 3 6 9 j) else if (k = 6 ∨ k = 7 ∨ k = 8) ∧ ¬ q < i then none else if k = 9 ∧ ¬ q < j then none else if 20 ≤ k then none else if q < cn_ k then some (en_ w a0_ k q) else none
theorem rs_up (w : Gh_) (c n k i : Nat) : (.inl (ca_ w c, n, .inr (.inr (.inr (.inr (va_up (fun t => if t < i then some (ad_ w k t) else none) i (some (ad_ w k i))))))) : va_E) = rs_ w c n k (i + 1) := by
  unfold rs_
  have e : va_up (fun t => if t < i then some (ad_ w k t) else none) i (some (ad_ w k i)) = fun t => if t < i + 1 then some (ad_ w k t) else none := by
    funext t
    by_cases h : t = i
    · subst h
      simp [va_up]
    · have h2 : (t < i + 1) ↔ (t < i) := by omega
      simp [va_up, h, h2]
  rw [e]
theorem rs_no (w : Gh_) (c n k : Nat) : (.inl (ca_ w c, n, .inr (.inr (.inr (.inr (fun _ => none))))) : va_E) = rs_ w c n k 0 := by
  unfold rs_
  congr 6
theorem bh_in (w : Gh_) {i j k q : Nat} (h1 : ¬ (k = 1 ∧ q = 0)) (h2 : ¬ (k = 2 ∧ q = 0)) (h3 : ¬ ((k = 6 ∨ k = 7 ∨ k = 8) ∧ ¬ q < i)) (h4 : ¬ (k = 9 ∧ ¬ q < j)) (h5 : ¬ 20 ≤ k) (h6 : q < cn_ k) : Bh_ w i j k q = some (en_ w a0_ k q) := by
  unfold Bh_
  rw [if_neg h1, if_neg h2, if_neg h3, if_neg h4, if_neg h5, if_pos h6]
theorem bh_m (w : Gh_) {i : Nat} (hi : i < 8) : ∀ k q e, Bh_ w (i + 1) 0 k q = some e → bu_ (bu_ (bu_ (bu_ (Bh_ w i 0) 7 i (iz_ w 6)) 8 i (iz_ w 6)) 6 i (.inr (1, [.ref (ad_ w 7 i), .ref (ad_ w 8 i), .int 0, .long 0, .long 0]))) 1 0 (rs_ w 2 8 6 (i + 1)) k q = some e := by
  intro k q e h
  by_cases h1 : k = 1 ∧ q = 0
  · obtain ⟨rfl, rfl⟩ := h1
    exact h
  rw [bu_ne _ _ h1]
  by_cases h6 : k = 6 ∧ q = i
  · obtain ⟨rfl, rfl⟩ := h6
    rw [bh_in w (by omega) (by omega) (by omega) (by omega) (by omega) hi] at h
    rw [bu_at]
    exact h
  rw [bu_ne _ _ h6]
  by_cases h8 : k = 8 ∧ q = i
  · obtain ⟨rfl, rfl⟩ := h8
    rw [bh_in w (by omega) (by omega) (by omega) (by omega) (by omega) hi] at h
    rw [bu_at]
    exact h
  rw [bu_ne _ _ h8]
  by_cases h7 : k = 7 ∧ q = i
  · obtain ⟨rfl, rfl⟩ := h7
    rw [bh_in w (by omega) (by omega) (by omega) (by omega) (by omega) hi] at h
    rw [bu_at]
    exact h
  rw [bu_ne _ _ h7]
  have hE : ((k = 6 ∨ k = 7 ∨ k = 8) ∧ ¬ q < i + 1) ↔ ((k = 6 ∨ k = 7 ∨ k = 8) ∧ ¬ q < i) := by omega
  unfold Bh_ at h ⊢
  rw [if_neg h1] at h ⊢
  simp only [hE] at h
  exact h
theorem bh_i (w : Gh_) {j : Nat} (hj : j < 6) : ∀ k q e, Bh_ w 8 (j + 1) k q = some e → bu_ (bu_ (Bh_ w 8 j) 9 j (.inr (0, [.int 0, .int 0, .int 0]))) 2 0 (rs_ w 3 6 9 (j + 1)) k q = some e := by
  intro k q e h
  by_cases h2 : k = 2 ∧ q = 0
  · obtain ⟨rfl, rfl⟩ := h2
    exact h
  rw [bu_ne _ _ h2]
  by_cases h9 : k = 9 ∧ q = j
  · obtain ⟨rfl, rfl⟩ := h9
    rw [bh_in w (by omega) (by omega) (by omega) (by omega) (by omega) hj] at h
    rw [bu_at]
    exact h
  rw [bu_ne _ _ h9]
  have hE : (k = 9 ∧ ¬ q < j + 1) ↔ (k = 9 ∧ ¬ q < j) := by omega
  unfold Bh_ at h ⊢
  rw [if_neg h2] at h ⊢
  simp only [hE] at h
  exact h
set_option maxHeartbeats 4000000 in
theorem bh_0 (w : Gh_) (B : Bm_) : ∀ k q e, Bh_ w 0 0 k q = some e → (bu_ (bu_ (bu_ (bu_ (bu_ (bu_ (bu_ (bu_ (bu_ (bu_ (bu_ (bm_ w (bu_ (bu_ B 1 0 (.inl (ca_ w 2, 8, .inr (.inr (.inr (.inr fun _ => none)))))) 2 0 (.inl (ca_ w 3, 6, .inr (.inr (.inr (.inr fun _ => none))))))) 4 0 (lz_ w 5)) 11 0 (iz_ w 6)) 12 0 (lz_ w 8)) 13 0 (lz_ w 8)) 14 0 (lz_ w 5)) 16 0 (lz_ w 8)) 17 0 (lz_ w 8)) 18 0 (lz_ w 8)) 15 0 (.inr (3, [.ref (ad_ w 16 0), .ref (ad_ w 17 0), .ref (ad_ w 18 0)]))) 5 0 (.inr (2, [.ref (ad_ w 11 0), .ref (ad_ w 12 0), .ref (ad_ w 13 0), .ref (ad_ w 14 0), .ref (ad_ w 15 0), .long 0, .long 0]))) 0 0 (.inr (4, [.ref (ad_ w 1 0), .ref (ad_ w 2 0), .ref (ad_ w 3 0), .ref (ad_ w 4 0), .ref (ad_ w 5 0), .int 0, .int 0, .int 0, .long 0, .long 0]))) k q = some e := by
  intro k q e h
  unfold Bh_ at h
  by_cases h1 : k = 1 ∧ q = 0
  · obtain ⟨rfl, rfl⟩ := h1
    rw [if_pos ⟨rfl, rfl⟩, ← rs_no] at h
    exact h
  rw [if_neg h1] at h
  by_cases h2 : k = 2 ∧ q = 0
  · obtain ⟨rfl, rfl⟩ := h2
    rw [if_pos ⟨rfl, rfl⟩, ← rs_no] at h
    exact h
  rw [if_neg h2] at h
  by_cases h3 : (k = 6 ∨ k = 7 ∨ k = 8) ∧ ¬ q < 0
  · rw [if_pos h3] at h
    cases h
  rw [if_neg h3] at h
  by_cases h4 : k = 9 ∧ ¬ q < 0
  · rw [if_pos h4] at h
    cases h
  rw [if_neg h4] at h
  by_cases h5 : 20 ≤ k
  · rw [if_pos h5] at h
    cases h
  rw [if_neg h5] at h
  by_cases h6 : q < cn_ k
  · rw [if_pos h6] at h
    have hk : k = 0 ∨ k = 1 ∨ k = 2 ∨ k = 3 ∨ k = 4 ∨ k = 5 ∨ k = 10 ∨ k = 11 ∨ k = 12 ∨ k = 13 ∨ k = 14 ∨ k = 15 ∨ k = 16 ∨ k = 17 ∨ k = 18 ∨ k = 19 := by omega
    rcases hk with rfl | rfl | rfl | rfl | rfl | rfl | rfl | rfl | rfl | rfl | rfl | rfl | rfl | rfl | rfl | rfl
    · obtain rfl : q = 0 := Nat.lt_one_iff.mp h6
      exact h
    · exact absurd ⟨rfl, Nat.lt_one_iff.mp h6⟩ h1
    · exact absurd ⟨rfl, Nat.lt_one_iff.mp h6⟩ h2
    · obtain rfl : q = 0 := Nat.lt_one_iff.mp h6
      exact h
    · obtain rfl : q = 0 := Nat.lt_one_iff.mp h6
      exact h
    · obtain rfl : q = 0 := Nat.lt_one_iff.mp h6
      exact h
    · have e1 : bm_ w (fun _ _ => none) 10 q = some (.inl (ca_ w 0, 6, .inl fun _ => 0)) := by
        show (if 10 = 10 ∧ q < 8 then _ else _) = _
        rw [if_pos ⟨rfl, h6⟩]
      have e2 : ∀ B', bm_ w B' 10 q = some (.inl (ca_ w 0, 6, .inl fun _ => 0)) := by
        intro B'
        show (if 10 = 10 ∧ q < 8 then _ else _) = _
        rw [if_pos ⟨rfl, h6⟩]
      exact (e2 _).trans h
    all_goals first | (obtain rfl : q = 0 := Nat.lt_one_iff.mp h6; exact h) | exact absurd h6 (Nat.not_lt_zero _)
  · rw [if_neg h6] at h
    cases h
set_option maxHeartbeats 4000000 in
set_option maxRecDepth 100000 in
theorem n_X4 (l : Launch) {w : Gh_} (hI : In_ w) (hA : ∀ k i, ad_ w k i = lo_ w + of_ k i) : Nc_ l w yX4_init (.code yX4_init cX4_init 2 none) { frames := 3, cells := 51, slots := 290, locals := 60 } 51 290 [.ref (ad_ w 0 0)] (bu_ (fun _ _ => none) 0 0 (.inr (4, [.null, .null, .null, .null, .null, .int 0, .int 0, .int 0, .long 0, .long 0]))) 1 (Bh_ w 8 6) 52 := by
  refine Nc_of hI (by decide +kernel) rfl (Nat.le_of_ble_eq_true rfl) ?_
  intro zp ze zs zm zb zt zc ls cb hr hlk hnm _ hl H locs hB hS
  obtain ⟨B, hBB⟩ : ∃ B : Bm_, B = fun _ _ => none := ⟨_, rfl⟩
  rw [← hBB] at hB
  replace cb : Cb_ zp zs zm zc _ cX4_init 2 "MarginHouse" w := cb
  replace hl : lv_has ls 2 [(0, .ref (ad_ w 0 0))] := hl
  have L2 : ∀ (d j : Nat), j ≤ 6 → 6 - j < d → ∀ (H : Heap) (locs : List Loc) (ls : Array Slot), Bd_ w (Bh_ w 8 j) (46 + j) H → Fr_ w zs.heap H locs → lv_has ls 2 [(1, .int (nI j)), (0, .ref (ad_ w 0 0))] → W zp l ze { frames := 3, cells := 51, slots := 290, locals := 60 } zs zm ([.ref (ad_ w 0 0)] : List Value).toArray zb zt zc H locs (45 + j) (272 + 3 * j) (MQ zb (Qn_ w (Bh_ w 8 6) 52) ([.ref (ad_ w 0 0)] : List Value).toArray zs 51 290 (fun q => lo_ w ≤ q)) (F0 zm 106 ls []) := by
    intro d
    induction d with
    | zero => intro j _ hd; exact absurd hd (Nat.not_lt_zero _)
    | succ d ih =>
      intro j hj6 hdj H locs ls hB hS hl
      refine lv_iload_n cb.1 cb.2.1 dX4_init_106 rfl (lv_at hl 0 rfl) ?_
      refine lv_bipush (v := 6) cb.1 cb.2.1 dX4_init_107 (by decide) ?_
      refine tp_i (y := nI 6) (by decide +kernel) ?_
      refine lv_icmp_ge (tgt := 131) cb.1 cb.2.1 dX4_init_109 (by decide) (fun h => ?_) (fun h => ?_)
      · have h : 6 ≤ j := (nI_leI (by omega) (by omega)).mp h
        obtain rfl : j = 6 := by omega
        exact cb_ret cb hr hlk hB hS (Nat.le_of_ble_eq_true rfl) (Nat.le_of_ble_eq_true rfl) dX4_init_131 (fun _ _ _ h => h) rfl
      · have hj : j < 6 := Nat.not_le.mp (fun q => h ((nI_leI (by omega) (by omega)).mpr q))
        refine lv_aload_n cb.1 cb.2.1 dX4_init_112 rfl (lv_at hl 1 rfl) ?_
        refine cb_get (k := 0) (i := 0) (ci := 4) (v := .ref (ad_ w 2 0)) (fs := [.ref (ad_ w 1 0), .ref (ad_ w 2 0), .ref (ad_ w 3 0), .ref (ad_ w 4 0), .ref (ad_ w 5 0), .int 0, .int 0, .int 0, .long 0, .long 0]) cb inX4 hB rfl rfl 1 (by decide) nw_79 rfl dX4_init_113 ?_
        refine lv_iload_n cb.1 cb.2.1 dX4_init_116 rfl (lv_at hl 0 rfl) ?_
        refine cb_new (k := 9) (i := j) (ci := 0) (fs := [.int 0, .int 0, .int 0]) cb inX0 tyX0 tyX0_ok nw_22 nw_68 nw_5 hB hS hj (by rw [hA]; rfl) rfl (by decide +kernel) (by show _ ≤ 51; omega) (by show _ ≤ 290; omega) dX4_init_117 (fun H hB hS => ?_)
        refine lv_dup cb.1 cb.2.1 dX4_init_120 rfl ?_
        refine cb_cn (rest := [.ref (ad_ w 9 j), .int (nI j), .ref (ad_ w 2 0)]) cb hl (n_X0 l hI hA _ j hj) hB hS cw_X0_init rfl nw_69 cb.2.2.2.2.2.2.2.2.2.2.1 rfl rfl ⟨(Nat.le_of_ble_eq_true rfl), (Nat.le_of_ble_eq_true rfl)⟩ ⟨by show _ ≤ 51; omega, by show _ ≤ 290; omega⟩ (Nat.le_of_ble_eq_true rfl) dX4_init_121 (fun H locs hB hS => ?_)
        refine cb_ast (k := 2) (i := 0) (k2 := 9) (i2 := j) (t0 := 3) (ci := 0) (L := 6) (j := j) cb hB hS rfl rfl (bu_at _ _ _ _) rfl rfl hj (by decide) dX4_init_124 (fun H locs hB hS => ?_)
        rw [rs_up] at hB
        refine lv_iinc (v := nI (j + 1)) (lv' := [(1, .int (nI (j + 1))), (0, .ref (ad_ w 0 0))]) cb.1 cb.2.1 dX4_init_125 hl (k := 0) rfl (nI_inc j) (by decide) rfl (fun ls hl => ?_)
        refine lv_goto (tgt := 106) cb.1 cb.2.1 dX4_init_128 (by decide) ?_
        exact W.widen (k := 45 + (j + 1)) (n := 272 + 3 * (j + 1)) (by omega) (by omega) (ih (j + 1) (by omega) (by omega) H locs ls (Bd_sub hB (bh_i w hj)) hS hl)
  have L1 : ∀ (d i : Nat), i ≤ 8 → 8 - i < d → ∀ (H : Heap) (locs : List Loc) (ls : Array Slot), Bd_ w (Bh_ w i 0) (22 + 3 * i) H → Fr_ w zs.heap H locs → lv_has ls 2 [(1, .int (nI i)), (0, .ref (ad_ w 0 0))] → W zp l ze { frames := 3, cells := 51, slots := 290, locals := 60 } zs zm ([.ref (ad_ w 0 0)] : List Value).toArray zb zt zc H locs (21 + 3 * i) (136 + 17 * i) (MQ zb (Qn_ w (Bh_ w 8 6) 52) ([.ref (ad_ w 0 0)] : List Value).toArray zs 51 290 (fun q => lo_ w ≤ q)) (F0 zm 79 ls []) := by
    intro d
    induction d with
    | zero => intro i _ hd; exact absurd hd (Nat.not_lt_zero _)
    | succ d ih =>
      intro i hi8 hdi H locs ls hB hS hl
      refine lv_iload_n cb.1 cb.2.1 dX4_init_79 rfl (lv_at hl 0 rfl) ?_
      refine lv_bipush (v := 8) cb.1 cb.2.1 dX4_init_80 (by decide) ?_
      refine tp_i (y := nI 8) (by decide +kernel) ?_
      refine lv_icmp_ge (tgt := 104) cb.1 cb.2.1 dX4_init_82 (by decide) (fun h => ?_) (fun h => ?_)
      · have h : 8 ≤ i := (nI_leI (by omega) (by omega)).mp h
        obtain rfl : i = 8 := by omega
        refine lv_iconst (v := 0) cb.1 cb.2.1 dX4_init_104 (by decide) ?_
        refine tp_i (y := nI 0) (by decide +kernel) ?_
        refine lv_istore_n (lv' := [(1, .int (nI 0)), (0, .ref (ad_ w 0 0))]) cb.1 cb.2.1 dX4_init_105 rfl hl (by decide) rfl (fun ls hl => ?_)
        exact L2 7 0 (by omega) (by omega) H locs ls hB hS hl
      · have hi : i < 8 := Nat.not_le.mp (fun q => h ((nI_leI (by omega) (by omega)).mpr q))
        refine lv_aload_n cb.1 cb.2.1 dX4_init_85 rfl (lv_at hl 1 rfl) ?_
        refine cb_get (k := 0) (i := 0) (ci := 4) (v := .ref (ad_ w 1 0)) (fs := [.ref (ad_ w 1 0), .ref (ad_ w 2 0), .ref (ad_ w 3 0), .ref (ad_ w 4 0), .ref (ad_ w 5 0), .int 0, .int 0, .int 0, .long 0, .long 0]) cb inX4 hB rfl rfl 0 (by decide) nw_78 rfl dX4_init_86 ?_
        refine lv_iload_n cb.1 cb.2.1 dX4_init_89 rfl (lv_at hl 0 rfl) ?_
        refine cb_new (k := 6) (i := i) (ci := 1) (fs := [.null, .null, .int 0, .long 0, .long 0]) cb inX1 tyX1 tyX1_ok nw_21 nw_54 nw_4 hB hS hi (by rw [hA]; rfl) rfl (by decide +kernel) (by show _ ≤ 51; omega) (by show _ ≤ 290; omega) dX4_init_90 (fun H hB hS => ?_)
        refine lv_dup cb.1 cb.2.1 dX4_init_93 rfl ?_
        refine cb_cn (rest := [.ref (ad_ w 6 i), .int (nI i), .ref (ad_ w 1 0)]) cb hl (n_X1 l hI hA _ i hi) hB hS cw_X1_init rfl nw_55 cb.2.2.2.2.2.2.2.2.2.1 rfl rfl ⟨(Nat.le_of_ble_eq_true rfl), (Nat.le_of_ble_eq_true rfl)⟩ ⟨by show _ ≤ 51; omega, by show _ ≤ 290; omega⟩ (Nat.le_of_ble_eq_true rfl) dX4_init_94 (fun H locs hB hS => ?_)
        refine cb_ast (k := 1) (i := 0) (k2 := 6) (i2 := i) (t0 := 2) (ci := 1) (L := 8) (j := i) cb hB hS rfl rfl (bu_at _ _ _ _) rfl rfl hi (by decide) dX4_init_97 (fun H locs hB hS => ?_)
        rw [rs_up] at hB
        refine lv_iinc (v := nI (i + 1)) (lv' := [(1, .int (nI (i + 1))), (0, .ref (ad_ w 0 0))]) cb.1 cb.2.1 dX4_init_98 hl (k := 0) rfl (nI_inc i) (by decide) rfl (fun ls hl => ?_)
        refine lv_goto (tgt := 79) cb.1 cb.2.1 dX4_init_101 (by decide) ?_
        exact W.widen (k := 21 + 3 * (i + 1)) (n := 136 + 17 * (i + 1)) (by omega) (by omega) (ih (i + 1) (by omega) (by omega) H locs ls (Bd_sub hB (bh_m w hi)) hS hl)
  refine lv_aload_n cb.1 cb.2.1 dX4_init_0 rfl (lv_at hl 0 rfl) ?_
  refine cb_obj cb hl nw_18 (Nat.le_of_ble_eq_true rfl) (Nat.le_of_ble_eq_true rfl) dX4_init_1 ?_
  refine lv_aload_n cb.1 cb.2.1 dX4_init_4 rfl (lv_at hl 0 rfl) ?_
  refine lv_bipush (v := 8) cb.1 cb.2.1 dX4_init_5 (by decide) ?_
  refine cb_na (N := 8) (k := 1) (i := 0) (t0 := 2) (C := "MarginHouse$Member") cb rfl cb.2.2.2.2.2.2.2.2.2.2.2.1 (cb.2.2.2.2.1 _ nw_21) hB hS (by decide) (by rw [hA]; rfl) (by decide) (by decide +kernel) (by decide) (Nat.le_of_ble_eq_true rfl) (Nat.le_of_ble_eq_true rfl) dX4_init_7 (fun H hB hS => ?_)
  rw [bu_swap (k := 0) (k2 := 1) _ _ _ (by decide)] at hB
  refine cb_fin (B := (bu_ B 1 0 (.inl (ca_ w 2, 8, .inr (.inr (.inr (.inr fun _ => none))))))) (k := 0) (i := 0) (ci := 4) (ty := .array (.object "MarginHouse$Member")) (v := .ref (ad_ w 1 0)) cb hnm inX4 tyX4 tyX4_ok nmX4 hB hS rfl 0 (by decide) nw_78 rfl rfl (by decide +kernel) rfl rfl (Nat.le_of_ble_eq_true rfl) dX4_init_10 (fun H locs hB hS => ?_)
  replace hB : Bd_ w (bu_ (bu_ B 1 0 (.inl (ca_ w 2, 8, .inr (.inr (.inr (.inr fun _ => none)))))) 0 0 (.inr (4, [.ref (ad_ w 1 0), .null, .null, .null, .null, .int 0, .int 0, .int 0, .long 0, .long 0]))) (1 + 1) H := hB
  refine lv_aload_n cb.1 cb.2.1 dX4_init_13 rfl (lv_at hl 0 rfl) ?_
  refine lv_bipush (v := 6) cb.1 cb.2.1 dX4_init_14 (by decide) ?_
  refine cb_na (N := 6) (k := 2) (i := 0) (t0 := 3) (C := "MarginHouse$Instrument") cb rfl cb.2.2.2.2.2.2.2.2.2.2.2.2.1 (cb.2.2.2.2.1 _ nw_22) hB hS (by decide) (by rw [hA]; rfl) (by decide) (by decide +kernel) (by decide) (Nat.le_of_ble_eq_true rfl) (Nat.le_of_ble_eq_true rfl) dX4_init_16 (fun H hB hS => ?_)
  rw [bu_swap (k := 0) (k2 := 2) _ _ _ (by decide)] at hB
  refine cb_fin (B := (bu_ (bu_ B 1 0 (.inl (ca_ w 2, 8, .inr (.inr (.inr (.inr fun _ => none)))))) 2 0 (.inl (ca_ w 3, 6, .inr (.inr (.inr (.inr fun _ => none))))))) (k := 0) (i := 0) (ci := 4) (ty := .array (.object "MarginHouse$Instrument")) (v := .ref (ad_ w 2 0)) cb hnm inX4 tyX4 tyX4_ok nmX4 hB hS rfl 1 (by decide) nw_79 rfl rfl (by decide +kernel) rfl rfl (Nat.le_of_ble_eq_true rfl) dX4_init_19 (fun H locs hB hS => ?_)
  replace hB : Bd_ w (bu_ (bu_ (bu_ B 1 0 (.inl (ca_ w 2, 8, .inr (.inr (.inr (.inr fun _ => none)))))) 2 0 (.inl (ca_ w 3, 6, .inr (.inr (.inr (.inr fun _ => none)))))) 0 0 (.inr (4, [.ref (ad_ w 1 0), .ref (ad_ w 2 0), .null, .null, .null, .int 0, .int 0, .int 0, .long 0, .long 0]))) (1 + 1 + 1) H := hB
  refine lv_aload_n cb.1 cb.2.1 dX4_init_22 rfl (lv_at hl 0 rfl) ?_
  refine lv_bipush (v := 8) cb.1 cb.2.1 dX4_init_23 (by decide) ?_
  refine lv_bipush (v := 6) cb.1 cb.2.1 dX4_init_25 (by decide) ?_
  refine cb_mu cb nw_23 hB hS rfl rfl (by rw [hA]; rfl) (fun j _ => by rw [hA]; show lo_ w + (4 + j) = lo_ w + 3 + 1 + j; omega) (Nat.le_of_ble_eq_true rfl) (Nat.le_of_ble_eq_true rfl) dX4_init_27 (fun H locs hB hS => ?_)
  replace hB : Bd_ w (bu_ (bm_ w (bu_ (bu_ B 1 0 (.inl (ca_ w 2, 8, .inr (.inr (.inr (.inr fun _ => none)))))) 2 0 (.inl (ca_ w 3, 6, .inr (.inr (.inr (.inr fun _ => none))))))) 0 0 (.inr (4, [.ref (ad_ w 1 0), .ref (ad_ w 2 0), .null, .null, .null, .int 0, .int 0, .int 0, .long 0, .long 0]))) (1 + 1 + 1 + 9) H := Bd_sub hB (mu_sub w _ _)
  refine cb_fin (B := (bm_ w (bu_ (bu_ B 1 0 (.inl (ca_ w 2, 8, .inr (.inr (.inr (.inr fun _ => none)))))) 2 0 (.inl (ca_ w 3, 6, .inr (.inr (.inr (.inr fun _ => none)))))))) (k := 0) (i := 0) (ci := 4) (ty := .array (.array .int)) (v := .ref (ad_ w 3 0)) cb hnm inX4 tyX4 tyX4_ok nmX4 hB hS rfl 2 (by decide) nw_80 rfl rfl (by decide +kernel) rfl rfl (Nat.le_of_ble_eq_true rfl) dX4_init_31 (fun H locs hB hS => ?_)
  replace hB : Bd_ w (bu_ (bm_ w (bu_ (bu_ B 1 0 (.inl (ca_ w 2, 8, .inr (.inr (.inr (.inr fun _ => none)))))) 2 0 (.inl (ca_ w 3, 6, .inr (.inr (.inr (.inr fun _ => none))))))) 0 0 (.inr (4, [.ref (ad_ w 1 0), .ref (ad_ w 2 0), .ref (ad_ w 3 0), .null, .null, .int 0, .int 0, .int 0, .long 0, .long 0]))) (1 + 1 + 1 + 9) H := hB
  refine lv_aload_n cb.1 cb.2.1 dX4_init_34 rfl (lv_at hl 0 rfl) ?_
  refine lv_iconst (v := 5) cb.1 cb.2.1 dX4_init_35 (by decide) ?_
  refine cb_la (N := 5) (k := 4) (i := 0) cb hB hS (by decide) (by rw [hA]; rfl) (by decide) (by decide +kernel) (by decide) (Nat.le_of_ble_eq_true rfl) (Nat.le_of_ble_eq_true rfl) dX4_init_36 (fun H hB hS => ?_)
  rw [bu_swap (k := 0) (k2 := 4) _ _ _ (by decide)] at hB
  refine cb_fin (B := (bu_ (bm_ w (bu_ (bu_ B 1 0 (.inl (ca_ w 2, 8, .inr (.inr (.inr (.inr fun _ => none)))))) 2 0 (.inl (ca_ w 3, 6, .inr (.inr (.inr (.inr fun _ => none))))))) 4 0 (lz_ w 5))) (k := 0) (i := 0) (ci := 4) (ty := .array .long) (v := .ref (ad_ w 4 0)) cb hnm inX4 tyX4 tyX4_ok nmX4 hB hS rfl 3 (by decide) nw_81 rfl rfl (by decide +kernel) rfl rfl (Nat.le_of_ble_eq_true rfl) dX4_init_38 (fun H locs hB hS => ?_)
  replace hB : Bd_ w (bu_ (bu_ (bm_ w (bu_ (bu_ B 1 0 (.inl (ca_ w 2, 8, .inr (.inr (.inr (.inr fun _ => none)))))) 2 0 (.inl (ca_ w 3, 6, .inr (.inr (.inr (.inr fun _ => none))))))) 4 0 (lz_ w 5)) 0 0 (.inr (4, [.ref (ad_ w 1 0), .ref (ad_ w 2 0), .ref (ad_ w 3 0), .ref (ad_ w 4 0), .null, .int 0, .int 0, .int 0, .long 0, .long 0]))) (1 + 1 + 1 + 9 + 1) H := hB
  refine lv_aload_n cb.1 cb.2.1 dX4_init_41 rfl (lv_at hl 0 rfl) ?_
  refine cb_new (k := 5) (i := 0) (ci := 2) (fs := [.null, .null, .null, .null, .null, .long 0, .long 0]) cb inX2 tyX2 tyX2_ok nw_24 nw_25 nw_2 hB hS (by decide) (by rw [hA]; rfl) rfl (by decide +kernel) (Nat.le_of_ble_eq_true rfl) (Nat.le_of_ble_eq_true rfl) dX4_init_42 (fun H hB hS => ?_)
  refine lv_dup cb.1 cb.2.1 dX4_init_45 rfl ?_
  refine cb_cn (rest := [.ref (ad_ w 5 0), .ref (ad_ w 0 0)]) cb hl (n_X2 l hI hA _) hB hS cw_X2_init rfl nw_26 cb.2.2.2.2.2.2.2.1 rfl rfl ⟨(Nat.le_of_ble_eq_true rfl), (Nat.le_of_ble_eq_true rfl)⟩ ⟨(Nat.le_of_ble_eq_true rfl), (Nat.le_of_ble_eq_true rfl)⟩ (Nat.le_of_ble_eq_true rfl) dX4_init_46 (fun H locs hB hS => ?_)
  rw [bu_swap (k := 0) (k2 := 11) _ _ _ (by decide)] at hB
  rw [bu_swap (k := 0) (k2 := 12) _ _ _ (by decide)] at hB
  rw [bu_swap (k := 0) (k2 := 13) _ _ _ (by decide)] at hB
  rw [bu_swap (k := 0) (k2 := 14) _ _ _ (by decide)] at hB
  rw [bu_swap (k := 0) (k2 := 16) _ _ _ (by decide)] at hB
  rw [bu_swap (k := 0) (k2 := 17) _ _ _ (by decide)] at hB
  rw [bu_swap (k := 0) (k2 := 18) _ _ _ (by decide)] at hB
  rw [bu_swap (k := 0) (k2 := 15) _ _ _ (by decide)] at hB
  rw [bu_swap (k := 0) (k2 := 5) _ _ _ (by decide)] at hB
  replace hB : Bd_ w (bu_ (bu_ (bu_ (bu_ (bu_ (bu_ (bu_ (bu_ (bu_ (bu_ (bu_ (bm_ w (bu_ (bu_ B 1 0 (.inl (ca_ w 2, 8, .inr (.inr (.inr (.inr fun _ => none)))))) 2 0 (.inl (ca_ w 3, 6, .inr (.inr (.inr (.inr fun _ => none))))))) 4 0 (lz_ w 5)) 11 0 (iz_ w 6)) 12 0 (lz_ w 8)) 13 0 (lz_ w 8)) 14 0 (lz_ w 5)) 16 0 (lz_ w 8)) 17 0 (lz_ w 8)) 18 0 (lz_ w 8)) 15 0 (.inr (3, [.ref (ad_ w 16 0), .ref (ad_ w 17 0), .ref (ad_ w 18 0)]))) 5 0 (.inr (2, [.ref (ad_ w 11 0), .ref (ad_ w 12 0), .ref (ad_ w 13 0), .ref (ad_ w 14 0), .ref (ad_ w 15 0), .long 0, .long 0]))) 0 0 (.inr (4, [.ref (ad_ w 1 0), .ref (ad_ w 2 0), .ref (ad_ w 3 0), .ref (ad_ w 4 0), .null, .int 0, .int 0, .int 0, .long 0, .long 0]))) 22 H := hB
  refine cb_fin (B := (bu_ (bu_ (bu_ (bu_ (bu_ (bu_ (bu_ (bu_ (bu_ (bu_ (bm_ w (bu_ (bu_ B 1 0 (.inl (ca_ w 2, 8, .inr (.inr (.inr (.inr fun _ => none)))))) 2 0 (.inl (ca_ w 3, 6, .inr (.inr (.inr (.inr fun _ => none))))))) 4 0 (lz_ w 5)) 11 0 (iz_ w 6)) 12 0 (lz_ w 8)) 13 0 (lz_ w 8)) 14 0 (lz_ w 5)) 16 0 (lz_ w 8)) 17 0 (lz_ w 8)) 18 0 (lz_ w 8)) 15 0 (.inr (3, [.ref (ad_ w 16 0), .ref (ad_ w 17 0), .ref (ad_ w 18 0)]))) 5 0 (.inr (2, [.ref (ad_ w 11 0), .ref (ad_ w 12 0), .ref (ad_ w 13 0), .ref (ad_ w 14 0), .ref (ad_ w 15 0), .long 0, .long 0])))) (k := 0) (i := 0) (ci := 4) (ty := .object "MarginHouse$Plan") (v := .ref (ad_ w 5 0)) cb hnm inX4 tyX4 tyX4_ok nmX4 hB hS rfl 4 (by decide) nw_82 rfl rfl (by decide +kernel) rfl rfl (Nat.le_of_ble_eq_true rfl) dX4_init_49 (fun H locs hB hS => ?_)
  replace hB : Bd_ w (bu_ (bu_ (bu_ (bu_ (bu_ (bu_ (bu_ (bu_ (bu_ (bu_ (bu_ (bm_ w (bu_ (bu_ B 1 0 (.inl (ca_ w 2, 8, .inr (.inr (.inr (.inr fun _ => none)))))) 2 0 (.inl (ca_ w 3, 6, .inr (.inr (.inr (.inr fun _ => none))))))) 4 0 (lz_ w 5)) 11 0 (iz_ w 6)) 12 0 (lz_ w 8)) 13 0 (lz_ w 8)) 14 0 (lz_ w 5)) 16 0 (lz_ w 8)) 17 0 (lz_ w 8)) 18 0 (lz_ w 8)) 15 0 (.inr (3, [.ref (ad_ w 16 0), .ref (ad_ w 17 0), .ref (ad_ w 18 0)]))) 5 0 (.inr (2, [.ref (ad_ w 11 0), .ref (ad_ w 12 0), .ref (ad_ w 13 0), .ref (ad_ w 14 0), .ref (ad_ w 15 0), .long 0, .long 0]))) 0 0 (.inr (4, [.ref (ad_ w 1 0), .ref (ad_ w 2 0), .ref (ad_ w 3 0), .ref (ad_ w 4 0), .ref (ad_ w 5 0), .int 0, .int 0, .int 0, .long 0, .long 0]))) 22 H := hB
  refine lv_aload_n cb.1 cb.2.1 dX4_init_52 rfl (lv_at hl 0 rfl) ?_
  refine lv_iconst (v := 0) cb.1 cb.2.1 dX4_init_53 (by decide) ?_
  refine cb_put (B := (bu_ (bu_ (bu_ (bu_ (bu_ (bu_ (bu_ (bu_ (bu_ (bu_ (bm_ w (bu_ (bu_ B 1 0 (.inl (ca_ w 2, 8, .inr (.inr (.inr (.inr fun _ => none)))))) 2 0 (.inl (ca_ w 3, 6, .inr (.inr (.inr (.inr fun _ => none))))))) 4 0 (lz_ w 5)) 11 0 (iz_ w 6)) 12 0 (lz_ w 8)) 13 0 (lz_ w 8)) 14 0 (lz_ w 5)) 16 0 (lz_ w 8)) 17 0 (lz_ w 8)) 18 0 (lz_ w 8)) 15 0 (.inr (3, [.ref (ad_ w 16 0), .ref (ad_ w 17 0), .ref (ad_ w 18 0)]))) 5 0 (.inr (2, [.ref (ad_ w 11 0), .ref (ad_ w 12 0), .ref (ad_ w 13 0), .ref (ad_ w 14 0), .ref (ad_ w 15 0), .long 0, .long 0])))) (k := 0) (i := 0) (ci := 4) (ty := .int) (v := .int 0) cb inX4 tyX4 tyX4_ok nmX4 hB hS rfl 5 (by decide) nw_83 rfl (by decide +kernel) rfl rfl (Nat.le_of_ble_eq_true rfl) dX4_init_54 (fun H locs hB hS => ?_)
  replace hB : Bd_ w (bu_ (bu_ (bu_ (bu_ (bu_ (bu_ (bu_ (bu_ (bu_ (bu_ (bu_ (bm_ w (bu_ (bu_ B 1 0 (.inl (ca_ w 2, 8, .inr (.inr (.inr (.inr fun _ => none)))))) 2 0 (.inl (ca_ w 3, 6, .inr (.inr (.inr (.inr fun _ => none))))))) 4 0 (lz_ w 5)) 11 0 (iz_ w 6)) 12 0 (lz_ w 8)) 13 0 (lz_ w 8)) 14 0 (lz_ w 5)) 16 0 (lz_ w 8)) 17 0 (lz_ w 8)) 18 0 (lz_ w 8)) 15 0 (.inr (3, [.ref (ad_ w 16 0), .ref (ad_ w 17 0), .ref (ad_ w 18 0)]))) 5 0 (.inr (2, [.ref (ad_ w 11 0), .ref (ad_ w 12 0), .ref (ad_ w 13 0), .ref (ad_ w 14 0), .ref (ad_ w 15 0), .long 0, .long 0]))) 0 0 (.inr (4, [.ref (ad_ w 1 0), .ref (ad_ w 2 0), .ref (ad_ w 3 0), .ref (ad_ w 4 0), .ref (ad_ w 5 0), .int 0, .int 0, .int 0, .long 0, .long 0]))) 22 H := hB
  refine lv_aload_n cb.1 cb.2.1 dX4_init_57 rfl (lv_at hl 0 rfl) ?_
  refine lv_iconst (v := 0) cb.1 cb.2.1 dX4_init_58 (by decide) ?_
  refine cb_put (B := (bu_ (bu_ (bu_ (bu_ (bu_ (bu_ (bu_ (bu_ (bu_ (bu_ (bm_ w (bu_ (bu_ B 1 0 (.inl (ca_ w 2, 8, .inr (.inr (.inr (.inr fun _ => none)))))) 2 0 (.inl (ca_ w 3, 6, .inr (.inr (.inr (.inr fun _ => none))))))) 4 0 (lz_ w 5)) 11 0 (iz_ w 6)) 12 0 (lz_ w 8)) 13 0 (lz_ w 8)) 14 0 (lz_ w 5)) 16 0 (lz_ w 8)) 17 0 (lz_ w 8)) 18 0 (lz_ w 8)) 15 0 (.inr (3, [.ref (ad_ w 16 0), .ref (ad_ w 17 0), .ref (ad_ w 18 0)]))) 5 0 (.inr (2, [.ref (ad_ w 11 0), .ref (ad_ w 12 0), .ref (ad_ w 13 0), .ref (ad_ w 14 0), .ref (ad_ w 15 0), .long 0, .long 0])))) (k := 0) (i := 0) (ci := 4) (ty := .int) (v := .int 0) cb inX4 tyX4 tyX4_ok nmX4 hB hS rfl 6 (by decide) nw_84 rfl (by decide +kernel) rfl rfl (Nat.le_of_ble_eq_true rfl) dX4_init_59 (fun H locs hB hS => ?_)
  replace hB : Bd_ w (bu_ (bu_ (bu_ (bu_ (bu_ (bu_ (bu_ (bu_ (bu_ (bu_ (bu_ (bm_ w (bu_ (bu_ B 1 0 (.inl (ca_ w 2, 8, .inr (.inr (.inr (.inr fun _ => none)))))) 2 0 (.inl (ca_ w 3, 6, .inr (.inr (.inr (.inr fun _ => none))))))) 4 0 (lz_ w 5)) 11 0 (iz_ w 6)) 12 0 (lz_ w 8)) 13 0 (lz_ w 8)) 14 0 (lz_ w 5)) 16 0 (lz_ w 8)) 17 0 (lz_ w 8)) 18 0 (lz_ w 8)) 15 0 (.inr (3, [.ref (ad_ w 16 0), .ref (ad_ w 17 0), .ref (ad_ w 18 0)]))) 5 0 (.inr (2, [.ref (ad_ w 11 0), .ref (ad_ w 12 0), .ref (ad_ w 13 0), .ref (ad_ w 14 0), .ref (ad_ w 15 0), .long 0, .long 0]))) 0 0 (.inr (4, [.ref (ad_ w 1 0), .ref (ad_ w 2 0), .ref (ad_ w 3 0), .ref (ad_ w 4 0), .ref (ad_ w 5 0), .int 0, .int 0, .int 0, .long 0, .long 0]))) 22 H := hB
  refine lv_aload_n cb.1 cb.2.1 dX4_init_62 rfl (lv_at hl 0 rfl) ?_
  refine lv_iconst (v := 0) cb.1 cb.2.1 dX4_init_63 (by decide) ?_
  refine cb_put (B := (bu_ (bu_ (bu_ (bu_ (bu_ (bu_ (bu_ (bu_ (bu_ (bu_ (bm_ w (bu_ (bu_ B 1 0 (.inl (ca_ w 2, 8, .inr (.inr (.inr (.inr fun _ => none)))))) 2 0 (.inl (ca_ w 3, 6, .inr (.inr (.inr (.inr fun _ => none))))))) 4 0 (lz_ w 5)) 11 0 (iz_ w 6)) 12 0 (lz_ w 8)) 13 0 (lz_ w 8)) 14 0 (lz_ w 5)) 16 0 (lz_ w 8)) 17 0 (lz_ w 8)) 18 0 (lz_ w 8)) 15 0 (.inr (3, [.ref (ad_ w 16 0), .ref (ad_ w 17 0), .ref (ad_ w 18 0)]))) 5 0 (.inr (2, [.ref (ad_ w 11 0), .ref (ad_ w 12 0), .ref (ad_ w 13 0), .ref (ad_ w 14 0), .ref (ad_ w 15 0), .long 0, .long 0])))) (k := 0) (i := 0) (ci := 4) (ty := .int) (v := .int 0) cb inX4 tyX4 tyX4_ok nmX4 hB hS rfl 7 (by decide) nw_85 rfl (by decide +kernel) rfl rfl (Nat.le_of_ble_eq_true rfl) dX4_init_64 (fun H locs hB hS => ?_)
  replace hB : Bd_ w (bu_ (bu_ (bu_ (bu_ (bu_ (bu_ (bu_ (bu_ (bu_ (bu_ (bu_ (bm_ w (bu_ (bu_ B 1 0 (.inl (ca_ w 2, 8, .inr (.inr (.inr (.inr fun _ => none)))))) 2 0 (.inl (ca_ w 3, 6, .inr (.inr (.inr (.inr fun _ => none))))))) 4 0 (lz_ w 5)) 11 0 (iz_ w 6)) 12 0 (lz_ w 8)) 13 0 (lz_ w 8)) 14 0 (lz_ w 5)) 16 0 (lz_ w 8)) 17 0 (lz_ w 8)) 18 0 (lz_ w 8)) 15 0 (.inr (3, [.ref (ad_ w 16 0), .ref (ad_ w 17 0), .ref (ad_ w 18 0)]))) 5 0 (.inr (2, [.ref (ad_ w 11 0), .ref (ad_ w 12 0), .ref (ad_ w 13 0), .ref (ad_ w 14 0), .ref (ad_ w 15 0), .long 0, .long 0]))) 0 0 (.inr (4, [.ref (ad_ w 1 0), .ref (ad_ w 2 0), .ref (ad_ w 3 0), .ref (ad_ w 4 0), .ref (ad_ w 5 0), .int 0, .int 0, .int 0, .long 0, .long 0]))) 22 H := hB
  refine lv_aload_n cb.1 cb.2.1 dX4_init_67 rfl (lv_at hl 0 rfl) ?_
  refine lv_lconst (v := 0) cb.1 cb.2.1 dX4_init_68 (by decide) ?_
  refine cb_put (B := (bu_ (bu_ (bu_ (bu_ (bu_ (bu_ (bu_ (bu_ (bu_ (bu_ (bm_ w (bu_ (bu_ B 1 0 (.inl (ca_ w 2, 8, .inr (.inr (.inr (.inr fun _ => none)))))) 2 0 (.inl (ca_ w 3, 6, .inr (.inr (.inr (.inr fun _ => none))))))) 4 0 (lz_ w 5)) 11 0 (iz_ w 6)) 12 0 (lz_ w 8)) 13 0 (lz_ w 8)) 14 0 (lz_ w 5)) 16 0 (lz_ w 8)) 17 0 (lz_ w 8)) 18 0 (lz_ w 8)) 15 0 (.inr (3, [.ref (ad_ w 16 0), .ref (ad_ w 17 0), .ref (ad_ w 18 0)]))) 5 0 (.inr (2, [.ref (ad_ w 11 0), .ref (ad_ w 12 0), .ref (ad_ w 13 0), .ref (ad_ w 14 0), .ref (ad_ w 15 0), .long 0, .long 0])))) (k := 0) (i := 0) (ci := 4) (ty := .long) (v := .long 0) cb inX4 tyX4 tyX4_ok nmX4 hB hS rfl 8 (by decide) nw_86 rfl (by decide +kernel) rfl rfl (Nat.le_of_ble_eq_true rfl) dX4_init_69 (fun H locs hB hS => ?_)
  replace hB : Bd_ w (bu_ (bu_ (bu_ (bu_ (bu_ (bu_ (bu_ (bu_ (bu_ (bu_ (bu_ (bm_ w (bu_ (bu_ B 1 0 (.inl (ca_ w 2, 8, .inr (.inr (.inr (.inr fun _ => none)))))) 2 0 (.inl (ca_ w 3, 6, .inr (.inr (.inr (.inr fun _ => none))))))) 4 0 (lz_ w 5)) 11 0 (iz_ w 6)) 12 0 (lz_ w 8)) 13 0 (lz_ w 8)) 14 0 (lz_ w 5)) 16 0 (lz_ w 8)) 17 0 (lz_ w 8)) 18 0 (lz_ w 8)) 15 0 (.inr (3, [.ref (ad_ w 16 0), .ref (ad_ w 17 0), .ref (ad_ w 18 0)]))) 5 0 (.inr (2, [.ref (ad_ w 11 0), .ref (ad_ w 12 0), .ref (ad_ w 13 0), .ref (ad_ w 14 0), .ref (ad_ w 15 0), .long 0, .long 0]))) 0 0 (.inr (4, [.ref (ad_ w 1 0), .ref (ad_ w 2 0), .ref (ad_ w 3 0), .ref (ad_ w 4 0), .ref (ad_ w 5 0), .int 0, .int 0, .int 0, .long 0, .long 0]))) 22 H := hB
  refine lv_aload_n cb.1 cb.2.1 dX4_init_72 rfl (lv_at hl 0 rfl) ?_
  refine lv_lconst (v := 0) cb.1 cb.2.1 dX4_init_73 (by decide) ?_
  refine cb_put (B := (bu_ (bu_ (bu_ (bu_ (bu_ (bu_ (bu_ (bu_ (bu_ (bu_ (bm_ w (bu_ (bu_ B 1 0 (.inl (ca_ w 2, 8, .inr (.inr (.inr (.inr fun _ => none)))))) 2 0 (.inl (ca_ w 3, 6, .inr (.inr (.inr (.inr fun _ => none))))))) 4 0 (lz_ w 5)) 11 0 (iz_ w 6)) 12 0 (lz_ w 8)) 13 0 (lz_ w 8)) 14 0 (lz_ w 5)) 16 0 (lz_ w 8)) 17 0 (lz_ w 8)) 18 0 (lz_ w 8)) 15 0 (.inr (3, [.ref (ad_ w 16 0), .ref (ad_ w 17 0), .ref (ad_ w 18 0)]))) 5 0 (.inr (2, [.ref (ad_ w 11 0), .ref (ad_ w 12 0), .ref (ad_ w 13 0), .ref (ad_ w 14 0), .ref (ad_ w 15 0), .long 0, .long 0])))) (k := 0) (i := 0) (ci := 4) (ty := .long) (v := .long 0) cb inX4 tyX4 tyX4_ok nmX4 hB hS rfl 9 (by decide) nw_87 rfl (by decide +kernel) rfl rfl (Nat.le_of_ble_eq_true rfl) dX4_init_74 (fun H locs hB hS => ?_)
  replace hB : Bd_ w (bu_ (bu_ (bu_ (bu_ (bu_ (bu_ (bu_ (bu_ (bu_ (bu_ (bu_ (bm_ w (bu_ (bu_ B 1 0 (.inl (ca_ w 2, 8, .inr (.inr (.inr (.inr fun _ => none)))))) 2 0 (.inl (ca_ w 3, 6, .inr (.inr (.inr (.inr fun _ => none))))))) 4 0 (lz_ w 5)) 11 0 (iz_ w 6)) 12 0 (lz_ w 8)) 13 0 (lz_ w 8)) 14 0 (lz_ w 5)) 16 0 (lz_ w 8)) 17 0 (lz_ w 8)) 18 0 (lz_ w 8)) 15 0 (.inr (3, [.ref (ad_ w 16 0), .ref (ad_ w 17 0), .ref (ad_ w 18 0)]))) 5 0 (.inr (2, [.ref (ad_ w 11 0), .ref (ad_ w 12 0), .ref (ad_ w 13 0), .ref (ad_ w 14 0), .ref (ad_ w 15 0), .long 0, .long 0]))) 0 0 (.inr (4, [.ref (ad_ w 1 0), .ref (ad_ w 2 0), .ref (ad_ w 3 0), .ref (ad_ w 4 0), .ref (ad_ w 5 0), .int 0, .int 0, .int 0, .long 0, .long 0]))) 22 H := hB
  refine lv_iconst (v := 0) cb.1 cb.2.1 dX4_init_77 (by decide) ?_
  refine tp_i (y := nI 0) (by decide +kernel) ?_
  refine lv_istore_n (lv' := [(1, .int (nI 0)), (0, .ref (ad_ w 0 0))]) cb.1 cb.2.1 dX4_init_78 rfl hl (by decide) rfl (fun ls hl => ?_)
  exact L1 9 0 (by omega) (by omega) H locs ls (Bd_sub hB (bh_0 w B)) hS hl
