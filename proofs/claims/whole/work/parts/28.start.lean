/-! THE CLAIM OUT OF ONE WALK OF THE LAW'S BODY. Your part is whole_start (and what it stands on); all else here is the same for every law, but numbers. -/
def R_law : String := "MarginHouseLaw"
def lw_P (b : Addr) (xs : List Int32) (args : Array Value) (s : State) : Prop := args = #[.ref b] ∧ s.IntsAt b xs ∧ xs.length ≤ 3072 ∧ (Jvm.Cond.and given_1 narrow_1).before args s = true
def lw_Q (_ : Array Value) (s : State) (o : Outcome) (t : State) : Prop := o = .returned (some (.int 1)) ∧ Framed s o t [] 647880 7152463
def lw_Z (below : List Frame) (a : Array Value) (s : State) : State → Prop := fun t => ∃ o, t.status = .running ∧ Ended t below o ∧ lw_Q a s o t
/-- the law's own end, with 1 on the stack, nothing written that was there before, its room as the claim has it -/
theorem lw_ret {p : Program} {l : Launch} {e : Env} {s : State} {m : MethodId} {below : List Frame} {meth : Method} {c : Code} {b : Nat} (hx : p.tables.exec = Jvm.exec) (hb : c.code = code) (hr : meth.sig.returnType = ret) (hlocks : meth.locks = false) {pc : Nat} {H : Heap} {ls : Array Slot} (hdg : decode code pc = .ok (.ireturn, 1)) : W p l e room_1 s m #[Value.ref b] below meth c H [] 647880 7152463 (lw_Z below #[Value.ref b] s) (F0 m pc ls [.int 1]) := by
  intro T hT X
  obtain ⟨fs, hret, hrun, hended, hW, hframe⟩ := X.leave (v := some (.int 1)) (hlocks := hlocks) (fun h => by rw [hr] at h; cases h)
  have hmeth' : T.vm.method? m = some meth := X.method'
  refine ⟨T.setFrames fs, ?_, .returned (some (.int 1)), hrun, hended, rfl, ⟨_, rfl⟩, hW, hframe⟩
  jvm_step X.here [X.here.top, hx, hb, hdg, hmeth', hr, ret, narrow_b1]
  (try refine ⟨rfl, ?_⟩); (try refine ⟨rfl, ?_⟩)
  first | (intro acts; rw [hret _ acts rfl rfl rfl]) | rw [hret _ _ rfl rfl rfl]
  exact Steps.refl _
/-- what holds at the law's entry: the machine, the code, the tables' words (any of lw_tbl by 'hts w (by decide +kernel)'), the script of L ints xs at the cell b, what the Statement gives of the start (any of its parts by flat_of_before) -/
def lw_At (p : Program) (s : State) (m : MethodId) (meth : Method) (c : Code) (b L : Nat) (xs : Nat → Int32) : Prop :=
  p.tables.exec = Jvm.exec ∧ c.code = code ∧ meth.sig.returnType = ret ∧ c.maxLocals = 8 ∧ s.vm.findClass R_law = some m.cls ∧ (∀ w ∈ lw_tbl, w.before #[Value.ref b] s = true) ∧ va_X b L xs s s.heap ∧ b < s.heap.size ∧ meth.locks = false ∧ (Jvm.Cond.and given_1 narrow_1).before #[Value.ref b] s = true
/-! The tables' ghosts at the law's start -/
def iv_ (n : Nat) : Nat × Nat := if n ≤ 3 then (n, 0) else if n ≤ 11 then (10, n - 4) else if n ≤ 13 then (n - 8, 0) else if n ≤ 21 then (n - 3, 0) else if n ≤ 45 then (6 + (n - 22) % 3, (n - 22) / 3) else if n ≤ 51 then (9, n - 46) else if n ≤ 69 then (n - 32, 0) else (40, 0)
theorem iv_of : ∀ k, k < 41 → ∀ i, i < 8 → i < cn_ k → iv_ (of_ k i) = (k, i) := by decide +kernel
theorem cn_lt (k : Nat) (h : 0 < cn_ k) : k < 41 ∧ cn_ k ≤ 8 := by
  unfold cn_ at h ⊢
  split at h <;> first | (exact absurd h (Nat.lt_irrefl _)) | exact ⟨by omega, by decide⟩
theorem In_of {w : Gh_} (hA : ∀ k i, ad_ w k i = lo_ w + of_ k i) : In_ w := by
  refine ⟨fun k i k' i' hi hi' h => ?_, fun k i _ => by rw [hA]; omega⟩
  rw [hA, hA] at h
  have h := Nat.add_left_cancel h
  obtain ⟨a1, a2⟩ := cn_lt k (by omega)
  obtain ⟨b1, b2⟩ := cn_lt k' (by omega)
  have e1 := iv_of k a1 i (by omega) hi
  have e2 := iv_of k' b1 i' (by omega) hi'
  rw [h, e2] at e1
  cases e1
  exact ⟨rfl, rfl⟩
def wg_ (cs : Nat → ClassId) (is : Nat → Nat → Nat) (ar : Nat → ClassId) (n : Nat) : Gh_ := ((cs, is), (fun k i => n + of_ k i), ar, n)
def sl6_ {α : Type} (a b c d e f : α) (n : Nat) : α := match n with | 0 => a | 1 => b | 2 => c | 3 => d | 4 => e | _ => f
set_option maxHeartbeats 4000000 in
theorem w_ex {s : State} {args : Array Value} (hts : ∀ w ∈ lw_tbl, w.before args s = true) (hgv : (Jvm.Cond.and given_1 narrow_1).before args s = true) : ∃ w : Gh_, lo_ w = s.heap.size ∧ (∀ k i, ad_ w k i = lo_ w + of_ k i) ∧ (∀ x ∈ nd_, x.before args s = true) ∧ Kn_ w s ∧ Xw_ w s ∧ Yw_ s := by
  have hnd : ∀ x ∈ nd_, x.before args s = true := fun x hx => hts x (List.mem_filter.mp hx).1
  obtain ⟨c0, i0, k0⟩ := u_known hnd inX0 (hnd _ nw_68)
  obtain ⟨c1, i1, k1⟩ := u_known hnd inX1 (hnd _ nw_54)
  obtain ⟨c2, i2, k2⟩ := u_known hnd inX2 (hnd _ nw_25)
  obtain ⟨c3, i3, k3⟩ := u_known hnd inX3 (hnd _ nw_30)
  obtain ⟨c4, i4, k4⟩ := u_known hnd inX4 (hnd _ nw_14)
  obtain ⟨c5, i5, k5⟩ := u_known hnd inX5 (hnd _ nw_367)
  obtain ⟨aI, kI, ccI, fI, gI, dI⟩ := Cond.arrayClass_spec (hnd _ nw_39)
  obtain ⟨aL, kL, ccL, fL, gL, dL⟩ := Cond.arrayClass_spec (hnd _ nw_40)
  have oM : (Cond.arrayOver (.object "MarginHouse$Member")).before args s = true := hts _ (by decide +kernel)
  have oN : (Cond.arrayOver (.object "MarginHouse$Instrument")).before args s = true := hts _ (by decide +kernel)
  have oA : (Cond.arrayOver (.array .int)).before args s = true := hts _ (by decide +kernel)
  obtain ⟨mC, mA, mK, m1, m2, m3, m4, m5⟩ := Cond.arrayOver_spec oM
  obtain ⟨nC, nA, nK, n1, n2, n3, n4, n5⟩ := Cond.arrayOver_spec oN
  obtain ⟨aC, aA, aK, a1, -, a3, a4, a5⟩ := arrayOverA_spec oA
  have hs := flat_of_before _ hgv
  refine ⟨wg_ (sl6_ c0 c1 c2 c3 c4 c5) (sl6_ i0 i1 i2 i3 i4 i5) (sl6_ aI aL mA nA aA aA) s.heap.size, rfl, fun _ _ => rfl, hnd, ⟨fun c q hq => ?_, fun k q hq => ?_⟩, ⟨xb_all ?_ ?_ ?_ ?_ ?_, ?_, ?_, ?_⟩, ?_⟩
  · have hc : c < 6 := (List.getElem?_eq_some_iff.mp hq).1
    have hc : c = 0 ∨ c = 1 ∨ c = 2 ∨ c = 3 ∨ c = 4 ∨ c = 5 := by omega
    rcases hc with rfl | rfl | rfl | rfl | rfl | rfl
    · cases hq; exact k0
    · cases hq; exact k1
    · cases hq; exact k2
    · cases hq; exact k3
    · cases hq; exact k4
    · cases hq; exact k5
  · have hk : k < 5 := (List.getElem?_eq_some_iff.mp hq).1
    have hk : k = 0 ∨ k = 1 ∨ k = 2 ∨ k = 3 ∨ k = 4 := by omega
    rcases hk with rfl | rfl | rfl | rfl | rfl
    · cases hq
      exact ⟨fun n z => ⟨(fun k h => by cases h), kI, gI, ccI, dI⟩, fI⟩
    · cases hq
      exact ⟨fun n z => ⟨(fun k h => by cases h), kL, gL, ccL, dL⟩, fL⟩
    · cases hq
      exact ⟨fun n z => ⟨(fun k h => by cases h), mK, m3, mC, m4⟩, mK, mC, m3, m4, m1, m5⟩
    · cases hq
      exact ⟨fun n z => ⟨(fun k h => by cases h), nK, n3, nC, n4⟩, nK, nC, n3, n4, n1, n5⟩
    · cases hq
      exact ⟨fun n z => ⟨(fun k h => by cases h), aK, a3, aC, a4⟩, a5⟩
  · exact va_Nw.of rfl (hts _ (by decide +kernel))
  · exact va_Nw.of rfl (hts _ (by decide +kernel))
  · exact va_Nw.of rfl (hts _ (by decide +kernel))
  · exact va_Nw.of rfl (hts _ (by decide +kernel))
  · exact va_Nw.of rfl (hts _ (by decide +kernel))
  · exact va_Nc.of (hs _ (by decide +kernel))
  · exact vx_Zqof (hts _ (by decide +kernel)) (hts _ (by decide +kernel)) (hs _ (by decide +kernel)) (fun a h q => absurd q (Nat.not_le.mpr h))
  · exact vx_Zqof (hts _ (by decide +kernel)) (hts _ (by decide +kernel)) (hs _ (by decide +kernel)) (fun a h q => absurd q (Nat.not_le.mpr h))
  · exact ⟨va_Nw.of rfl (hts _ (by decide +kernel)), va_Nw.of rfl (hts _ (by decide +kernel)), va_Nw.of rfl (hts _ (by decide +kernel)), va_Nw.of rfl (hts _ (by decide +kernel)), oM, oN, Ya_of oA⟩
theorem rs_cell (w : Gh_) (c : ClassId) (n : Nat) (f g : Nat → Option Nat) (h : ∀ t, t < n → f t = g t) : vp_cell c (n, .inr (.inr (.inr (.inr f)))) = vp_cell c (n, .inr (.inr (.inr (.inr g)))) := by
  rw [vp_cell_q, vp_cell_q]
  unfold arrV
  congr 2
  funext j
  exact congrArg va_rf (h j.val j.isLt)
set_option maxHeartbeats 4000000 in
set_option maxRecDepth 100000 in
theorem hd_of {w : Gh_} {n : Nat} {H : Heap} (hB : Bd_ w (bu_ (bu_ (bu_ (bu_ (bu_ (bu_ (bu_ (bu_ (bu_ (bu_ (bu_ (bu_ (bu_ (bu_ (bu_ (bu_ (bu_ (bu_ (bu_ (Bh_ w 8 6) 21 0 (lz_ w 8)) 22 0 (lz_ w 8)) 23 0 (iz_ w 8)) 24 0 (iz_ w 48)) 25 0 (iz_ w 48)) 26 0 (iz_ w 6)) 27 0 (iz_ w 6)) 28 0 (iz_ w 6)) 29 0 (iz_ w 48)) 30 0 (lz_ w 5)) 31 0 (lz_ w 8)) 32 0 (lz_ w 8)) 33 0 (iz_ w 48)) 34 0 (lz_ w 5)) 35 0 (lz_ w 8)) 36 0 (lz_ w 8)) 37 0 (lz_ w 8)) 20 0 (.inr (5, [.int 0, .int 0, .int 0, .ref (ad_ w 21 0), .ref (ad_ w 22 0), .ref (ad_ w 23 0), .ref (ad_ w 24 0), .ref (ad_ w 25 0), .ref (ad_ w 26 0), .ref (ad_ w 27 0), .ref (ad_ w 28 0), .ref (ad_ w 29 0), .long 0, .long 0, .long 0, .ref (ad_ w 30 0), .ref (ad_ w 31 0), .ref (ad_ w 32 0), .ref (ad_ w 33 0), .ref (ad_ w 34 0), .ref (ad_ w 35 0), .ref (ad_ w 36 0), .ref (ad_ w 37 0), .int 0]))) 40 0 (lz_ w 1)) n H) : Hd_ w a0_ H := by
  intro k i hi
  obtain ⟨b1, b2⟩ := cn_lt k (by omega)
  by_cases hk : k < 20
  · have e : (bu_ (bu_ (bu_ (bu_ (bu_ (bu_ (bu_ (bu_ (bu_ (bu_ (bu_ (bu_ (bu_ (bu_ (bu_ (bu_ (bu_ (bu_ (bu_ (Bh_ w 8 6) 21 0 (lz_ w 8)) 22 0 (lz_ w 8)) 23 0 (iz_ w 8)) 24 0 (iz_ w 48)) 25 0 (iz_ w 48)) 26 0 (iz_ w 6)) 27 0 (iz_ w 6)) 28 0 (iz_ w 6)) 29 0 (iz_ w 48)) 30 0 (lz_ w 5)) 31 0 (lz_ w 8)) 32 0 (lz_ w 8)) 33 0 (iz_ w 48)) 34 0 (lz_ w 5)) 35 0 (lz_ w 8)) 36 0 (lz_ w 8)) 37 0 (lz_ w 8)) 20 0 (.inr (5, [.int 0, .int 0, .int 0, .ref (ad_ w 21 0), .ref (ad_ w 22 0), .ref (ad_ w 23 0), .ref (ad_ w 24 0), .ref (ad_ w 25 0), .ref (ad_ w 26 0), .ref (ad_ w 27 0), .ref (ad_ w 28 0), .ref (ad_ w 29 0), .long 0, .long 0, .long 0, .ref (ad_ w 30 0), .ref (ad_ w 31 0), .ref (ad_ w 32 0), .ref (ad_ w 33 0), .ref (ad_ w 34 0), .ref (ad_ w 35 0), .ref (ad_ w 36 0), .ref (ad_ w 37 0), .int 0]))) 40 0 (lz_ w 1)) k i = Bh_ w 8 6 k i := by
      rw [bu_ne (k := 40) _ _ (by omega)]
      rw [bu_ne (k := 20) _ _ (by omega)]
      rw [bu_ne (k := 37) _ _ (by omega)]
      rw [bu_ne (k := 36) _ _ (by omega)]
      rw [bu_ne (k := 35) _ _ (by omega)]
      rw [bu_ne (k := 34) _ _ (by omega)]
      rw [bu_ne (k := 33) _ _ (by omega)]
      rw [bu_ne (k := 32) _ _ (by omega)]
      rw [bu_ne (k := 31) _ _ (by omega)]
      rw [bu_ne (k := 30) _ _ (by omega)]
      rw [bu_ne (k := 29) _ _ (by omega)]
      rw [bu_ne (k := 28) _ _ (by omega)]
      rw [bu_ne (k := 27) _ _ (by omega)]
      rw [bu_ne (k := 26) _ _ (by omega)]
      rw [bu_ne (k := 25) _ _ (by omega)]
      rw [bu_ne (k := 24) _ _ (by omega)]
      rw [bu_ne (k := 23) _ _ (by omega)]
      rw [bu_ne (k := 22) _ _ (by omega)]
      rw [bu_ne (k := 21) _ _ (by omega)]
    by_cases h1 : k = 1 ∧ i = 0
    · obtain ⟨rfl, rfl⟩ := h1
      have h : H[_]? = some (vp_cell _ _) := (hB.1 1 0 (rs_ w 2 8 6 8) (e.trans rfl)).2
      show H[_]? = some (vp_cell _ _)
      rw [h]
      exact congrArg some (rs_cell w _ _ _ _ (fun t ht => if_pos ht))
    by_cases h2 : k = 2 ∧ i = 0
    · obtain ⟨rfl, rfl⟩ := h2
      have h : H[_]? = some (vp_cell _ _) := (hB.1 2 0 (rs_ w 3 6 9 6) (e.trans rfl)).2
      show H[_]? = some (vp_cell _ _)
      rw [h]
      exact congrArg some (rs_cell w _ _ _ _ (fun t ht => if_pos ht))
    refine (hB.1 k i _ (e.trans (bh_in w h1 h2 (fun q => ?_) (fun q => ?_) (by omega) hi))).2
    · rcases q.1 with rfl | rfl | rfl <;> exact q.2 hi
    · obtain ⟨rfl, q⟩ := q
      exact q hi
  · have hk : k = 20 ∨ k = 21 ∨ k = 22 ∨ k = 23 ∨ k = 24 ∨ k = 25 ∨ k = 26 ∨ k = 27 ∨ k = 28 ∨ k = 29 ∨ k = 30 ∨ k = 31 ∨ k = 32 ∨ k = 33 ∨ k = 34 ∨ k = 35 ∨ k = 36 ∨ k = 37 ∨ k = 40 ∨ k = 38 ∨ k = 39 := by omega
    rcases hk with rfl | rfl | rfl | rfl | rfl | rfl | rfl | rfl | rfl | rfl | rfl | rfl | rfl | rfl | rfl | rfl | rfl | rfl | rfl | rfl | rfl
    all_goals first | exact absurd hi (Nat.not_lt_zero _) | skip
    all_goals (obtain rfl : i = 0 := Nat.lt_one_iff.mp hi)
    all_goals exact (hB.1 _ 0 _ rfl).2
set_option maxHeartbeats 4000000 in
set_option maxRecDepth 100000 in
theorem lw_init (l : Launch) {zp : Program} {ze : Env} {zs : State} {zm : MethodId} {zb : List Frame} {zt : Method} {zc : Code} {w : Gh_} {b : Nat} {Q : State → Prop} {ls : Array Slot} (cb : Cb_ zp zs zm zc #[Value.ref b] cL_law 8 "MarginHouseLaw" w) (hA : ∀ k i, ad_ w k i = lo_ w + of_ k i) (hlo : lo_ w = zs.heap.size) (hl : lv_has ls 8 [(0, .ref b)])
    (kk : ∀ (H : Heap) (locs : List Loc) (ls : Array Slot), Hd_ w a0_ H → Fr_ w zs.heap H locs → lv_has ls 8 [(0, .ref b), (1, .ref (ad_ w 0 0)), (2, .ref (ad_ w 20 0)), (3, .ref (ad_ w 40 0)), (4, .int (nI (6 * 0)))] → W zp l ze room_1 zs zm #[Value.ref b] zb zt zc H locs 71 609 Q (F0 zm 23 ls [])) : W zp l ze room_1 zs zm #[Value.ref b] zb zt zc zs.heap [] 0 0 Q (F0 zm 0 ls []) := by
  have hI := cb.2.2.2.2.2.2.1
  have hB : Bd_ w (fun _ _ => none) 0 zs.heap := ⟨(fun k i e h => by cases h), (by rw [hlo]; rfl)⟩
  have hS : Fr_ w zs.heap zs.heap [] := va_S.rf
  refine cb_new (k := 0) (i := 0) (ci := 4) (fs := [.null, .null, .null, .null, .null, .int 0, .int 0, .int 0, .long 0, .long 0]) cb inX4 tyX4 tyX4_ok nw_13 nw_14 nw_1 hB hS (by decide) (by rw [hA]; rfl) rfl (by decide +kernel) (Nat.le_of_ble_eq_true rfl) (Nat.le_of_ble_eq_true rfl) dL_law_0 (fun H hB hS => ?_)
  refine lv_dup cb.1 cb.2.1 dL_law_3 rfl ?_
  refine cb_ci (rest := [.ref (ad_ w 0 0)]) cb hl (n_X4 l hI hA) hB hS cw_X4_init rfl nw_16 nw_15 rfl rfl ⟨(Nat.le_of_ble_eq_true rfl), (Nat.le_of_ble_eq_true rfl)⟩ ⟨(Nat.le_of_ble_eq_true rfl), (Nat.le_of_ble_eq_true rfl)⟩ (Nat.le_of_ble_eq_true rfl) dL_law_4 (fun H locs hB hS => ?_)
  refine lv_astore_n (lv' := [(1, .ref (ad_ w 0 0)), (0, .ref b)]) cb.1 cb.2.1 dL_law_7 rfl hl (by decide) rfl (fun ls hl => ?_)
  refine cb_new (k := 20) (i := 0) (ci := 5) (fs := [.int 0, .int 0, .int 0, .null, .null, .null, .null, .null, .null, .null, .null, .null, .long 0, .long 0, .long 0, .null, .null, .null, .null, .null, .null, .null, .null, .int 0]) cb inX5 tyX5 tyX5_ok nw_366 nw_367 nw_6 hB hS (by decide) (by rw [hA]; rfl) rfl (by decide +kernel) (Nat.le_of_ble_eq_true rfl) (Nat.le_of_ble_eq_true rfl) dL_law_8 (fun H hB hS => ?_)
  refine lv_dup cb.1 cb.2.1 dL_law_11 rfl ?_
  refine cb_ci (rest := [.ref (ad_ w 20 0)]) cb hl (n_X5 l hI hA _) hB hS cw_X5_init rfl nw_369 nw_368 rfl rfl ⟨(Nat.le_of_ble_eq_true rfl), (Nat.le_of_ble_eq_true rfl)⟩ ⟨(Nat.le_of_ble_eq_true rfl), (Nat.le_of_ble_eq_true rfl)⟩ (Nat.le_of_ble_eq_true rfl) dL_law_12 (fun H locs hB hS => ?_)
  refine lv_astore_n (lv' := [(2, .ref (ad_ w 20 0)), (1, .ref (ad_ w 0 0)), (0, .ref b)]) cb.1 cb.2.1 dL_law_15 rfl hl (by decide) rfl (fun ls hl => ?_)
  refine lv_iconst (v := 1) cb.1 cb.2.1 dL_law_16 (by decide) ?_
  refine cb_la (N := 1) (k := 40) (i := 0) cb hB hS (by decide) (by rw [hA]; rfl) (by decide) (by decide +kernel) (by decide) (Nat.le_of_ble_eq_true rfl) (Nat.le_of_ble_eq_true rfl) dL_law_17 (fun H hB hS => ?_)
  refine lv_astore_n (lv' := [(3, .ref (ad_ w 40 0)), (2, .ref (ad_ w 20 0)), (1, .ref (ad_ w 0 0)), (0, .ref b)]) cb.1 cb.2.1 dL_law_19 rfl hl (by decide) rfl (fun ls hl => ?_)
  refine lv_iconst (v := 0) cb.1 cb.2.1 dL_law_20 (by decide) ?_
  refine tp_i (y := nI (6 * 0)) (by decide +kernel) ?_
  refine lv_istore (lv' := [(4, .int (nI (6 * 0))), (3, .ref (ad_ w 40 0)), (2, .ref (ad_ w 20 0)), (1, .ref (ad_ w 0 0)), (0, .ref b)]) cb.1 cb.2.1 dL_law_21 hl (by decide) rfl (fun ls hl => ?_)
  exact kk H locs ls (hd_of hB) hS (lv_sub hl [4, 3, 2, 1, 0] rfl)
