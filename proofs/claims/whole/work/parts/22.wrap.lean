/-! Calls of methods with a table; what is thrown, caught; the law's wrappers -/
section CH
variable {p : Program} {l : Launch} {e : Env} {R : Room} {s : State} {m : MethodId} {args : Array Value} {below : List Frame} {meth : Method} {c : Code} {H : Heap} {locs : List Loc} {cells slots : Nat} {Q : State → Prop}
variable {cc : ByteArray} {pc nL : Nat} {own : String} {ls : Array Slot} {rest st0 : List Value} {w : Gh_} {a a' a1 : St_}
variable {y : MethodName} {cY : ByteArray} {maxL n index : Nat} {ret : Option FieldType} {rm : Room} {mc' ms' : Nat} {As : List Value} {v : Option Value} {E : String} {hh : List (Nat × Nat × Nat × Nat)}
theorem ck_H (cx : Cx_ p s m c args cc nL own w) (hW : Hd_ w a H) (hS : Fr_ w s.heap H locs) {lv : List (Nat × Value)} (hl : lv_has ls nL lv) (hM : Fn_ l w y (.codeWith y cY maxL ret hh) rm mc' ms' As a (.inl v) a') (cw : Cw_ y (.codeWith y cY maxL ret hh) n) (hst : Cond.static y ∈ nd_) (hlk : Cond.methodLink own index y ∈ nd_)
    (hn : As.length = n) (hstk : st0 = As.reverse ++ rest) (hq : (rest.map fun v => v.category).sum ≤ 8) (hrc : rm.cells = mc') (hrs : rm.slots = ms') (hR : rm.frames + 1 ≤ R.frames ∧ 8 + (maxL + 11) + rm.locals ≤ R.locals) (hf : cells + mc' ≤ R.cells ∧ slots + ms' ≤ R.slots) (hd : decode cc pc = .ok (.invokestatic index, 3))
    (kk : ∀ (H1 : Heap) (locs1 : List Loc), Hd_ w a' H1 → Fr_ w s.heap H1 locs1 → W p l e R s m args below meth c H1 locs1 (cells + mc') (slots + ms') Q (F0 m (pc + 3) ls (v.toList ++ rest))) : W p l e R s m args below meth c H locs cells slots Q (F0 m pc ls st0) := by
  have hcw : vx_CSW R s args own index y cY maxL ret hh (Cond.codeWith y cY maxL ret hh :: nd_) rm mc' ms' n := by
    refine ⟨⟨hrc, hrs, hR.1, hR.2, pay_in cx.2.2.2.2.1 (nd_self cw.1), List.mem_cons_self⟩, cx.2.2.2.2.1 _ cw.1, cx.2.2.2.2.1 _ cw.2.1, ⟨cw.2.2.1, cw.2.2.2.1⟩, fun sig h => ?_, cx.2.2.2.2.1 _ hlk, cx.2.2.2.2.1 _ hst⟩
    have h2 := cw.2.2.2.2
    rw [h] at h2
    exact (Option.some.inj h2).symm
  exact ck_go (vx_runSX (Ts := nd_) ⟨cx.1, cx.2.1, cx.2.2.1, cx.2.2.2.1, cx.2.2.2.2.1⟩ hM hcw (ck_pre cx hW hS As) rfl hn hl.1 hstk (lv_room hq) hd hf) hS kk
theorem cc_go {E : String} (cx : Cx_ p s m c args cc nL own w) (hr : vx_Run p l e R s m args below meth c H locs cells slots mc' ms' (F0 m pc ls st0) rest (Qc_ w (.inr E) a' As.toArray) (XC_ w (.inr E) a') (fun q => lo_ w ≤ q)) (hS : Fr_ w s.heap H locs) (pre : List ExceptionTableEntry) (x : ExceptionTableEntry) (suf : List ExceptionTableEntry) (hsplit : c.exceptionTable.toList = pre ++ x :: suf)
    (hpass : ∀ z ∈ pre, covers z pc = false ∨ (z.catchType ≠ 0 ∧ ∃ nm : String, (Cond.classLink own z.catchType nm).before args s = true ∧ va_Nc E nm s)) (hx : covers x pc = true) (h0 : x.catchType ≠ 0)
    (hlink : (Cond.classLink own x.catchType E).before args s = true) (hcast : (Cond.castable E E).before args s = true)
    (kk : ∀ (H1 : Heap) (locs1 : List Loc) (q : Nat), Hd_ w a' H1 → Fr_ w s.heap H1 locs1 → W p l e R s m args below meth c H1 locs1 (cells + mc') (slots + ms') Q (F0 m x.handlerPc ls [.ref q])) : W p l e R s m args below meth c H locs cells slots Q (F0 m pc ls st0) := by
  intro T hT X
  rcases hr T hT X with ⟨v', st₀, t, T', L, h0, X', hL, e1, e2, ⟨⟨v2, ho, hv, hHd⟩, hF⟩, st⟩ | ⟨q, st₀, t, T', L, E', ce, h0', X', hL, e1, e2, ⟨ho', hHd, hF⟩, hce, hcv, hcl, st⟩
  · cases ho
  · cases ho'
    obtain ⟨k1, k2, k3⟩ := vx_keep h0' e1 hS (fun q _ h => h) (fun q h => h) hL hF
    obtain ⟨t2, a1, b1⟩ := vx_catch (E := E) (name := E) (ls := ls) (rest := rest) (pc := pc) (H := T'.heap) (Q := Q) cx.2.2.2.1 pre x suf hsplit hpass hx h0 hlink hcast (by rw [e1]; exact hce) hcv hcl (kk T'.heap (locs ++ L) q (by rw [e1]; exact hHd) k3) T' rfl X'
    exact ⟨t2, st.trans a1, b1⟩
theorem cc_A (cx : Cx_ p s m c args cc nL own w) (hW : Hd_ w a H) (hS : Fr_ w s.heap H locs) {lv : List (Nat × Value)} (hl : lv_has ls nL lv) {k i ci : Nat} {C : String} {T : u_T} {N : Nat} {fs : List Value} (hi : i < cn_ k) (he : en_ w a k i = .inr (ci, fs)) (hc : cl_[ci]? = some (C, T, N)) (hM : Fn_ l w y (.code y cY maxL ret) rm mc' ms' (.ref (ad_ w k i) :: As) a (.inr IA_) a') (cw : Cw_ y (.code y cY maxL ret) n) (him : Cond.instanceMethod y ∈ nd_) (hse : Cond.selects C y y ∈ nd_) (hlk : Cond.methodLink own index y ∈ nd_)
    (hn : As.length = n) (hstk : st0 = As.reverse ++ .ref (ad_ w k i) :: rest) (hq : (rest.map fun v => v.category).sum ≤ 8) (hrc : rm.cells = mc') (hrs : rm.slots = ms') (hR : rm.frames + 1 ≤ R.frames ∧ 8 + (maxL + 11) + rm.locals ≤ R.locals) (hf : cells + mc' ≤ R.cells ∧ slots + ms' ≤ R.slots) (hd : decode cc pc = .ok (.invokevirtual index, 3))
    {x : ExceptionTableEntry} {suf : List ExceptionTableEntry} (htb : c.exceptionTable.toList = x :: suf) (hx : covers x pc = true) (h0 : x.catchType ≠ 0) (hlink : Cond.classLink own x.catchType IA_ ∈ nd_)
    (kk : ∀ (H1 : Heap) (locs1 : List Loc) (q : Nat), Hd_ w a' H1 → Fr_ w s.heap H1 locs1 → W p l e R s m args below meth c H1 locs1 (cells + mc') (slots + ms') Q (F0 m x.handlerPc ls [.ref q])) : W p l e R s m args below meth c H locs cells slots Q (F0 m pc ls st0) :=
  cc_go (As := .ref (ad_ w k i) :: As) cx (vx_runV (Ts := nd_) ⟨cx.1, cx.2.1, cx.2.2.1, cx.2.2.2.1, cx.2.2.2.2.1⟩ hM (ck_wV cx cw him hse hlk hrc hrs hR) ⟨(ck_pre cx hW hS _).1, va_recv cx.2.2.2.2.2.1 (rg_one hW hi he) (q0 := 0) hc rfl, (ck_pre cx hW hS _).2⟩ rfl hn hl.1 hstk (lv_room hq) hd hf) hS [] x suf htb (fun z hz => by cases hz) hx h0 (cx.2.2.2.2.1 _ hlink) (va_Nw.use rfl (cx.2.2.2.2.2.2.2.1.1 _ (by simp [xb_]))) kk
theorem cc_B (cx : Cx_ p s m c args cc nL own w) (hW : Hd_ w a H) (hS : Fr_ w s.heap H locs) {lv : List (Nat × Value)} (hl : lv_has ls nL lv) {k i ci : Nat} {C : String} {T : u_T} {N : Nat} {fs : List Value} (hi : i < cn_ k) (he : en_ w a k i = .inr (ci, fs)) (hc : cl_[ci]? = some (C, T, N)) (hM : Fn_ l w y (.code y cY maxL ret) rm mc' ms' (.ref (ad_ w k i) :: As) a (.inr IS_) a') (cw : Cw_ y (.code y cY maxL ret) n) (him : Cond.instanceMethod y ∈ nd_) (hse : Cond.selects C y y ∈ nd_) (hlk : Cond.methodLink own index y ∈ nd_)
    (hn : As.length = n) (hstk : st0 = As.reverse ++ .ref (ad_ w k i) :: rest) (hq : (rest.map fun v => v.category).sum ≤ 8) (hrc : rm.cells = mc') (hrs : rm.slots = ms') (hR : rm.frames + 1 ≤ R.frames ∧ 8 + (maxL + 11) + rm.locals ≤ R.locals) (hf : cells + mc' ≤ R.cells ∧ slots + ms' ≤ R.slots) (hd : decode cc pc = .ok (.invokevirtual index, 3))
    {z x : ExceptionTableEntry} {suf : List ExceptionTableEntry} (htb : c.exceptionTable.toList = z :: x :: suf) (hz0 : z.catchType ≠ 0) (hx : covers x pc = true) (h0 : x.catchType ≠ 0) (hlz : Cond.classLink own z.catchType IA_ ∈ nd_) (hlink : Cond.classLink own x.catchType IS_ ∈ nd_)
    (kk : ∀ (H1 : Heap) (locs1 : List Loc) (q : Nat), Hd_ w a' H1 → Fr_ w s.heap H1 locs1 → W p l e R s m args below meth c H1 locs1 (cells + mc') (slots + ms') Q (F0 m x.handlerPc ls [.ref q])) : W p l e R s m args below meth c H locs cells slots Q (F0 m pc ls st0) :=
  cc_go (As := .ref (ad_ w k i) :: As) cx (vx_runV (Ts := nd_) ⟨cx.1, cx.2.1, cx.2.2.1, cx.2.2.2.1, cx.2.2.2.2.1⟩ hM (ck_wV cx cw him hse hlk hrc hrs hR) ⟨(ck_pre cx hW hS _).1, va_recv cx.2.2.2.2.2.1 (rg_one hW hi he) (q0 := 0) hc rfl, (ck_pre cx hW hS _).2⟩ rfl hn hl.1 hstk (lv_room hq) hd hf) hS [z] x suf htb (fun z' hz => by rcases List.mem_singleton.mp hz with rfl; exact Or.inr ⟨hz0, IA_, cx.2.2.2.2.1 _ hlz, cx.2.2.2.2.2.2.2.1.2.1⟩) hx h0 (cx.2.2.2.2.1 _ hlink) (va_Nw.use rfl (cx.2.2.2.2.2.2.2.1.1 _ (by simp [xb_]))) kk
theorem sc_ld {b L : Nat} {xs : Nat → Int32} {x : Int32} {j : Nat} (cx : Cx_ p s m c args cc nL own w) (hX : va_X b L xs s s.heap) (hbl : b < s.heap.size) (hbA : ¬ lo_ w ≤ b) (hS : Fr_ w s.heap H locs) (hxj : x = nI j) (hj : j < L) (hL : L < 2 ^ 31) (hd : decode cc pc = .ok (.iaload, 1))
    (kk : W p l e R s m args below meth c H locs cells slots Q (F0 m (pc + 1) ls (.int (xs j) :: rest))) : W p l e R s m args below meth c H locs cells slots Q (F0 m pc ls (.int x :: .ref b :: rest)) := by
  subst hxj
  have h := va_sld (i := nI j) (rest := rest) (ls := ls) (pc := pc) (locs := locs) (cells := cells) (slots := slots) (Q := Q) (R := R) (e := e) (l := l) (args := args) (below := below) (meth := meth) (m := m) cx.1 cx.2.1 hX hbl hbA hS (vp_in_nI hj hL) hd
  rw [nI_clamp (by omega)] at h
  exact h kk
end CH
set_option maxHeartbeats 4000000 in
set_option maxRecDepth 100000 in
theorem c_L_member_r (l : Launch) {w : Gh_} (hI : In_ w) (a a1 : St_) (x : Int64) (r : Int32) (hM : Fn_ l w yX4_member (.code yX4_member cX4_member 3 (some .int)) { frames := 7, cells := 1, slots := 6, locals := 110 } 1 6 [.ref (ad_ w 0 0), .long x] a (.inl (some (.int r))) a1) : Fn_ l w yL_member (.codeWith yL_member cL_member 5 (some .int) [(0, 9, 12, 13)]) { frames := 8, cells := 1, slots := 6, locals := 132 } 1 6 [.ref (ad_ w 0 0), .long x, .ref (ad_ w 40 0)] a (.inl (some (.int 0))) (sl_ a1 40 0 0 r.toInt64) := by
  refine Fn_ofH hI (by decide +kernel) (Nat.le_of_ble_eq_true rfl) ?_
  intro zp ze zs zm zb zt zc ls cx hr hlk htb hW hS hl
  replace cx : Cx_ zp zs zm zc _ cL_member 5 "MarginHouseLaw" w := cx
  replace hl : lv_has ls 5 [(0, .ref (ad_ w 0 0)), (1, .long x), (3, .ref (ad_ w 40 0))] := hl
  obtain ⟨H, hH⟩ : ∃ H, zs.heap = H := ⟨_, rfl⟩
  rw [hH] at hW
  have hS : Fr_ w zs.heap H [] := by rw [← hH]; exact hS
  obtain ⟨locs, hlocs⟩ : ∃ x : List Loc, x = [] := ⟨_, rfl⟩
  rw [← hlocs] at hS ⊢
  rw [show W zp l ze _ zs zm _ zb zt zc zs.heap locs 0 0 _ (F0 zm 0 ls []) ↔ W zp l ze _ zs zm _ zb zt zc H locs 0 0 _ (F0 zm 0 ls []) from by rw [hH]]
  refine lv_aload_n cx.1 cx.2.1 dL_member_0 rfl (lv_at hl 2 rfl) ?_
  refine lv_iconst (v := 0) cx.1 cx.2.1 dL_member_1 (by decide) ?_
  refine lv_aload_n cx.1 cx.2.1 dL_member_2 rfl (lv_at hl 0 rfl) ?_
  refine lv_lload_n cx.1 cx.2.1 dL_member_3 rfl (lv_at hl 1 rfl) ?_
  refine ck_V (v := some (.int r)) (As := [.long x]) (rest := [.int 0, .ref (ad_ w 40 0)]) (k := 0) (i := 0) (T := TX4) cx hW hS hl (by decide) rfl rfl (hM) cw_X4_member nw_115 nw_116 nw_114 rfl rfl (Nat.le_of_ble_eq_true rfl) rfl rfl ⟨Nat.le_of_ble_eq_true rfl, Nat.le_of_ble_eq_true rfl⟩ ⟨Nat.le_of_ble_eq_true rfl, Nat.le_of_ble_eq_true rfl⟩ dL_member_4 (fun H locs hW hS => ?_)
  refine W.eq (g2 := F0 zm 7 ls [.int r, .int 0, .ref (ad_ w 40 0)]) rfl ?_
  refine lv_i2l (v := r.toInt64) cx.1 cx.2.1 dL_member_7 rfl ?_
  refine as_40 (j := 0) cx hW hS (by decide) (by decide +kernel) (by decide) dL_member_8 (fun H locs hW hS => ?_)
  refine lv_goto (tgt := 16) cx.1 cx.2.1 dL_member_9 (by decide) ?_
  refine lv_iconst (v := 0) cx.1 cx.2.1 dL_member_16 (by decide) ?_
  exact cr_i cx hr hlk hW hS (Nat.le_of_ble_eq_true rfl) (Nat.le_of_ble_eq_true rfl) dL_member_17 rfl rfl
set_option maxHeartbeats 4000000 in
set_option maxRecDepth 100000 in
theorem c_L_member_a (l : Launch) {w : Gh_} (hI : In_ w) (a : St_) (x : Int64) (hM : Fn_ l w yX4_member (.code yX4_member cX4_member 3 (some .int)) { frames := 7, cells := 1, slots := 6, locals := 110 } 1 6 [.ref (ad_ w 0 0), .long x] a (.inr IA_) a) : Fn_ l w yL_member (.codeWith yL_member cL_member 5 (some .int) [(0, 9, 12, 13)]) { frames := 8, cells := 1, slots := 6, locals := 132 } 1 6 [.ref (ad_ w 0 0), .long x, .ref (ad_ w 40 0)] a (.inl (some (.int 1))) a := by
  refine Fn_ofH hI (by decide +kernel) (Nat.le_of_ble_eq_true rfl) ?_
  intro zp ze zs zm zb zt zc ls cx hr hlk htb hW hS hl
  replace cx : Cx_ zp zs zm zc _ cL_member 5 "MarginHouseLaw" w := cx
  replace hl : lv_has ls 5 [(0, .ref (ad_ w 0 0)), (1, .long x), (3, .ref (ad_ w 40 0))] := hl
  obtain ⟨H, hH⟩ : ∃ H, zs.heap = H := ⟨_, rfl⟩
  rw [hH] at hW
  have hS : Fr_ w zs.heap H [] := by rw [← hH]; exact hS
  obtain ⟨locs, hlocs⟩ : ∃ x : List Loc, x = [] := ⟨_, rfl⟩
  rw [← hlocs] at hS ⊢
  rw [show W zp l ze _ zs zm _ zb zt zc zs.heap locs 0 0 _ (F0 zm 0 ls []) ↔ W zp l ze _ zs zm _ zb zt zc H locs 0 0 _ (F0 zm 0 ls []) from by rw [hH]]
  refine lv_aload_n cx.1 cx.2.1 dL_member_0 rfl (lv_at hl 2 rfl) ?_
  refine lv_iconst (v := 0) cx.1 cx.2.1 dL_member_1 (by decide) ?_
  refine lv_aload_n cx.1 cx.2.1 dL_member_2 rfl (lv_at hl 0 rfl) ?_
  refine lv_lload_n cx.1 cx.2.1 dL_member_3 rfl (lv_at hl 1 rfl) ?_
  refine cc_A (As := [.long x]) (rest := [.int 0, .ref (ad_ w 40 0)]) (k := 0) (i := 0) (T := TX4) cx hW hS hl (by decide) rfl rfl (hM) cw_X4_member nw_115 nw_116 nw_114 rfl rfl (Nat.le_of_ble_eq_true rfl) rfl rfl ⟨Nat.le_of_ble_eq_true rfl, Nat.le_of_ble_eq_true rfl⟩ ⟨Nat.le_of_ble_eq_true rfl, Nat.le_of_ble_eq_true rfl⟩ dL_member_4 (x := ⟨0, 9, 12, 13⟩) (suf := []) htb (by decide) (by decide) nw_113 (fun H locs qx hW hS => ?_)
  refine lv_astore (lv' := [(4, .ref qx), (0, .ref (ad_ w 0 0)), (1, .long x), (3, .ref (ad_ w 40 0))]) cx.1 cx.2.1 dL_member_12 hl (by decide) rfl (fun ls hl => ?_)
  refine lv_iconst (v := 1) cx.1 cx.2.1 dL_member_14 (by decide) ?_
  exact cr_i cx hr hlk hW hS (Nat.le_of_ble_eq_true rfl) (Nat.le_of_ble_eq_true rfl) dL_member_15 rfl rfl
set_option maxHeartbeats 4000000 in
set_option maxRecDepth 100000 in
theorem c_L_instrument_r (l : Launch) {w : Gh_} (hI : In_ w) (a a1 : St_) (x : Int32) (y : Int32) (z : Int32) (r : Int32) (hM : Fn_ l w yX4_instrument (.code yX4_instrument cX4_instrument 5 (some .int)) { frames := 7, cells := 1, slots := 6, locals := 110 } 1 6 [.ref (ad_ w 0 0), .int x, .int y, .int z] a (.inl (some (.int r))) a1) : Fn_ l w yL_instrument (.codeWith yL_instrument cL_instrument 6 (some .int) [(0, 12, 15, 13)]) { frames := 8, cells := 1, slots := 6, locals := 134 } 1 6 [.ref (ad_ w 0 0), .int x, .int y, .int z, .ref (ad_ w 40 0)] a (.inl (some (.int 0))) (sl_ a1 40 0 0 r.toInt64) := by
  refine Fn_ofH hI (by decide +kernel) (Nat.le_of_ble_eq_true rfl) ?_
  intro zp ze zs zm zb zt zc ls cx hr hlk htb hW hS hl
  replace cx : Cx_ zp zs zm zc _ cL_instrument 6 "MarginHouseLaw" w := cx
  replace hl : lv_has ls 6 [(0, .ref (ad_ w 0 0)), (1, .int x), (2, .int y), (3, .int z), (4, .ref (ad_ w 40 0))] := hl
  obtain ⟨H, hH⟩ : ∃ H, zs.heap = H := ⟨_, rfl⟩
  rw [hH] at hW
  have hS : Fr_ w zs.heap H [] := by rw [← hH]; exact hS
  obtain ⟨locs, hlocs⟩ : ∃ x : List Loc, x = [] := ⟨_, rfl⟩
  rw [← hlocs] at hS ⊢
  rw [show W zp l ze _ zs zm _ zb zt zc zs.heap locs 0 0 _ (F0 zm 0 ls []) ↔ W zp l ze _ zs zm _ zb zt zc H locs 0 0 _ (F0 zm 0 ls []) from by rw [hH]]
  refine lv_aload cx.1 cx.2.1 dL_instrument_0 (lv_at hl 4 rfl) ?_
  refine lv_iconst (v := 0) cx.1 cx.2.1 dL_instrument_2 (by decide) ?_
  refine lv_aload_n cx.1 cx.2.1 dL_instrument_3 rfl (lv_at hl 0 rfl) ?_
  refine lv_iload_n cx.1 cx.2.1 dL_instrument_4 rfl (lv_at hl 1 rfl) ?_
  refine lv_iload_n cx.1 cx.2.1 dL_instrument_5 rfl (lv_at hl 2 rfl) ?_
  refine lv_iload_n cx.1 cx.2.1 dL_instrument_6 rfl (lv_at hl 3 rfl) ?_
  refine ck_V (v := some (.int r)) (As := [.int x, .int y, .int z]) (rest := [.int 0, .ref (ad_ w 40 0)]) (k := 0) (i := 0) (T := TX4) cx hW hS hl (by decide) rfl rfl (hM) cw_X4_instrument nw_145 nw_146 nw_144 rfl rfl (Nat.le_of_ble_eq_true rfl) rfl rfl ⟨Nat.le_of_ble_eq_true rfl, Nat.le_of_ble_eq_true rfl⟩ ⟨Nat.le_of_ble_eq_true rfl, Nat.le_of_ble_eq_true rfl⟩ dL_instrument_7 (fun H locs hW hS => ?_)
  refine W.eq (g2 := F0 zm 10 ls [.int r, .int 0, .ref (ad_ w 40 0)]) rfl ?_
  refine lv_i2l (v := r.toInt64) cx.1 cx.2.1 dL_instrument_10 rfl ?_
  refine as_40 (j := 0) cx hW hS (by decide) (by decide +kernel) (by decide) dL_instrument_11 (fun H locs hW hS => ?_)
  refine lv_goto (tgt := 19) cx.1 cx.2.1 dL_instrument_12 (by decide) ?_
  refine lv_iconst (v := 0) cx.1 cx.2.1 dL_instrument_19 (by decide) ?_
  exact cr_i cx hr hlk hW hS (Nat.le_of_ble_eq_true rfl) (Nat.le_of_ble_eq_true rfl) dL_instrument_20 rfl rfl
set_option maxHeartbeats 4000000 in
set_option maxRecDepth 100000 in
theorem c_L_instrument_a (l : Launch) {w : Gh_} (hI : In_ w) (a : St_) (x : Int32) (y : Int32) (z : Int32) (hM : Fn_ l w yX4_instrument (.code yX4_instrument cX4_instrument 5 (some .int)) { frames := 7, cells := 1, slots := 6, locals := 110 } 1 6 [.ref (ad_ w 0 0), .int x, .int y, .int z] a (.inr IA_) a) : Fn_ l w yL_instrument (.codeWith yL_instrument cL_instrument 6 (some .int) [(0, 12, 15, 13)]) { frames := 8, cells := 1, slots := 6, locals := 134 } 1 6 [.ref (ad_ w 0 0), .int x, .int y, .int z, .ref (ad_ w 40 0)] a (.inl (some (.int 1))) a := by
  refine Fn_ofH hI (by decide +kernel) (Nat.le_of_ble_eq_true rfl) ?_
  intro zp ze zs zm zb zt zc ls cx hr hlk htb hW hS hl
  replace cx : Cx_ zp zs zm zc _ cL_instrument 6 "MarginHouseLaw" w := cx
  replace hl : lv_has ls 6 [(0, .ref (ad_ w 0 0)), (1, .int x), (2, .int y), (3, .int z), (4, .ref (ad_ w 40 0))] := hl
  obtain ⟨H, hH⟩ : ∃ H, zs.heap = H := ⟨_, rfl⟩
  rw [hH] at hW
  have hS : Fr_ w zs.heap H [] := by rw [← hH]; exact hS
  obtain ⟨locs, hlocs⟩ : ∃ x : List Loc, x = [] := ⟨_, rfl⟩
  rw [← hlocs] at hS ⊢
  rw [show W zp l ze _ zs zm _ zb zt zc zs.heap locs 0 0 _ (F0 zm 0 ls []) ↔ W zp l ze _ zs zm _ zb zt zc H locs 0 0 _ (F0 zm 0 ls []) from by rw [hH]]
  refine lv_aload cx.1 cx.2.1 dL_instrument_0 (lv_at hl 4 rfl) ?_
  refine lv_iconst (v := 0) cx.1 cx.2.1 dL_instrument_2 (by decide) ?_
  refine lv_aload_n cx.1 cx.2.1 dL_instrument_3 rfl (lv_at hl 0 rfl) ?_
  refine lv_iload_n cx.1 cx.2.1 dL_instrument_4 rfl (lv_at hl 1 rfl) ?_
  refine lv_iload_n cx.1 cx.2.1 dL_instrument_5 rfl (lv_at hl 2 rfl) ?_
  refine lv_iload_n cx.1 cx.2.1 dL_instrument_6 rfl (lv_at hl 3 rfl) ?_
  refine cc_A (As := [.int x, .int y, .int z]) (rest := [.int 0, .ref (ad_ w 40 0)]) (k := 0) (i := 0) (T := TX4) cx hW hS hl (by decide) rfl rfl (hM) cw_X4_instrument nw_145 nw_146 nw_144 rfl rfl (Nat.le_of_ble_eq_true rfl) rfl rfl ⟨Nat.le_of_ble_eq_true rfl, Nat.le_of_ble_eq_true rfl⟩ ⟨Nat.le_of_ble_eq_true rfl, Nat.le_of_ble_eq_true rfl⟩ dL_instrument_7 (x := ⟨0, 12, 15, 13⟩) (suf := []) htb (by decide) (by decide) nw_113 (fun H locs qx hW hS => ?_)
  refine lv_astore (lv' := [(5, .ref qx), (0, .ref (ad_ w 0 0)), (1, .int x), (2, .int y), (3, .int z), (4, .ref (ad_ w 40 0))]) cx.1 cx.2.1 dL_instrument_15 hl (by decide) rfl (fun ls hl => ?_)
  refine lv_iconst (v := 1) cx.1 cx.2.1 dL_instrument_17 (by decide) ?_
  exact cr_i cx hr hlk hW hS (Nat.le_of_ble_eq_true rfl) (Nat.le_of_ble_eq_true rfl) dL_instrument_18 rfl rfl
set_option maxHeartbeats 4000000 in
set_option maxRecDepth 100000 in
theorem c_L_capital_r (l : Launch) {w : Gh_} (hI : In_ w) (a a1 : St_) (x : Int64) (r : Int64) (hM : Fn_ l w yX4_capital (.code yX4_capital cX4_capital 3 (some .long)) { frames := 7, cells := 1, slots := 6, locals := 110 } 1 6 [.ref (ad_ w 0 0), .long x] a (.inl (some (.long r))) a1) : Fn_ l w yL_capital (.codeWith yL_capital cL_capital 5 (some .int) [(0, 8, 11, 13)]) { frames := 8, cells := 1, slots := 6, locals := 132 } 1 6 [.ref (ad_ w 0 0), .long x, .ref (ad_ w 40 0)] a (.inl (some (.int 0))) (sl_ a1 40 0 0 r) := by
  refine Fn_ofH hI (by decide +kernel) (Nat.le_of_ble_eq_true rfl) ?_
  intro zp ze zs zm zb zt zc ls cx hr hlk htb hW hS hl
  replace cx : Cx_ zp zs zm zc _ cL_capital 5 "MarginHouseLaw" w := cx
  replace hl : lv_has ls 5 [(0, .ref (ad_ w 0 0)), (1, .long x), (3, .ref (ad_ w 40 0))] := hl
  obtain ⟨H, hH⟩ : ∃ H, zs.heap = H := ⟨_, rfl⟩
  rw [hH] at hW
  have hS : Fr_ w zs.heap H [] := by rw [← hH]; exact hS
  obtain ⟨locs, hlocs⟩ : ∃ x : List Loc, x = [] := ⟨_, rfl⟩
  rw [← hlocs] at hS ⊢
  rw [show W zp l ze _ zs zm _ zb zt zc zs.heap locs 0 0 _ (F0 zm 0 ls []) ↔ W zp l ze _ zs zm _ zb zt zc H locs 0 0 _ (F0 zm 0 ls []) from by rw [hH]]
  refine lv_aload_n cx.1 cx.2.1 dL_capital_0 rfl (lv_at hl 2 rfl) ?_
  refine lv_iconst (v := 0) cx.1 cx.2.1 dL_capital_1 (by decide) ?_
  refine lv_aload_n cx.1 cx.2.1 dL_capital_2 rfl (lv_at hl 0 rfl) ?_
  refine lv_lload_n cx.1 cx.2.1 dL_capital_3 rfl (lv_at hl 1 rfl) ?_
  refine ck_V (v := some (.long r)) (As := [.long x]) (rest := [.int 0, .ref (ad_ w 40 0)]) (k := 0) (i := 0) (T := TX4) cx hW hS hl (by decide) rfl rfl (hM) cw_X4_capital nw_153 nw_154 nw_152 rfl rfl (Nat.le_of_ble_eq_true rfl) rfl rfl ⟨Nat.le_of_ble_eq_true rfl, Nat.le_of_ble_eq_true rfl⟩ ⟨Nat.le_of_ble_eq_true rfl, Nat.le_of_ble_eq_true rfl⟩ dL_capital_4 (fun H locs hW hS => ?_)
  refine W.eq (g2 := F0 zm 7 ls [.long r, .int 0, .ref (ad_ w 40 0)]) rfl ?_
  refine as_40 (j := 0) cx hW hS (by decide) (by decide +kernel) (by decide) dL_capital_7 (fun H locs hW hS => ?_)
  refine lv_goto (tgt := 15) cx.1 cx.2.1 dL_capital_8 (by decide) ?_
  refine lv_iconst (v := 0) cx.1 cx.2.1 dL_capital_15 (by decide) ?_
  exact cr_i cx hr hlk hW hS (Nat.le_of_ble_eq_true rfl) (Nat.le_of_ble_eq_true rfl) dL_capital_16 rfl rfl
set_option maxHeartbeats 4000000 in
set_option maxRecDepth 100000 in
theorem c_L_capital_a (l : Launch) {w : Gh_} (hI : In_ w) (a : St_) (x : Int64) (hM : Fn_ l w yX4_capital (.code yX4_capital cX4_capital 3 (some .long)) { frames := 7, cells := 1, slots := 6, locals := 110 } 1 6 [.ref (ad_ w 0 0), .long x] a (.inr IA_) a) : Fn_ l w yL_capital (.codeWith yL_capital cL_capital 5 (some .int) [(0, 8, 11, 13)]) { frames := 8, cells := 1, slots := 6, locals := 132 } 1 6 [.ref (ad_ w 0 0), .long x, .ref (ad_ w 40 0)] a (.inl (some (.int 1))) a := by
  refine Fn_ofH hI (by decide +kernel) (Nat.le_of_ble_eq_true rfl) ?_
  intro zp ze zs zm zb zt zc ls cx hr hlk htb hW hS hl
  replace cx : Cx_ zp zs zm zc _ cL_capital 5 "MarginHouseLaw" w := cx
  replace hl : lv_has ls 5 [(0, .ref (ad_ w 0 0)), (1, .long x), (3, .ref (ad_ w 40 0))] := hl
  obtain ⟨H, hH⟩ : ∃ H, zs.heap = H := ⟨_, rfl⟩
  rw [hH] at hW
  have hS : Fr_ w zs.heap H [] := by rw [← hH]; exact hS
  obtain ⟨locs, hlocs⟩ : ∃ x : List Loc, x = [] := ⟨_, rfl⟩
  rw [← hlocs] at hS ⊢
  rw [show W zp l ze _ zs zm _ zb zt zc zs.heap locs 0 0 _ (F0 zm 0 ls []) ↔ W zp l ze _ zs zm _ zb zt zc H locs 0 0 _ (F0 zm 0 ls []) from by rw [hH]]
  refine lv_aload_n cx.1 cx.2.1 dL_capital_0 rfl (lv_at hl 2 rfl) ?_
  refine lv_iconst (v := 0) cx.1 cx.2.1 dL_capital_1 (by decide) ?_
  refine lv_aload_n cx.1 cx.2.1 dL_capital_2 rfl (lv_at hl 0 rfl) ?_
  refine lv_lload_n cx.1 cx.2.1 dL_capital_3 rfl (lv_at hl 1 rfl) ?_
  refine cc_A (As := [.long x]) (rest := [.int 0, .ref (ad_ w 40 0)]) (k := 0) (i := 0) (T := TX4) cx hW hS hl (by decide) rfl rfl (hM) cw_X4_capital nw_153 nw_154 nw_152 rfl rfl (Nat.le_of_ble_eq_true rfl) rfl rfl ⟨Nat.le_of_ble_eq_true rfl, Nat.le_of_ble_eq_true rfl⟩ ⟨Nat.le_of_ble_eq_true rfl, Nat.le_of_ble_eq_true rfl⟩ dL_capital_4 (x := ⟨0, 8, 11, 13⟩) (suf := []) htb (by decide) (by decide) nw_113 (fun H locs qx hW hS => ?_)
  refine lv_astore (lv' := [(4, .ref qx), (0, .ref (ad_ w 0 0)), (1, .long x), (3, .ref (ad_ w 40 0))]) cx.1 cx.2.1 dL_capital_11 hl (by decide) rfl (fun ls hl => ?_)
  refine lv_iconst (v := 1) cx.1 cx.2.1 dL_capital_13 (by decide) ?_
  exact cr_i cx hr hlk hW hS (Nat.le_of_ble_eq_true rfl) (Nat.le_of_ble_eq_true rfl) dL_capital_14 rfl rfl
set_option maxHeartbeats 4000000 in
set_option maxRecDepth 100000 in
theorem c_L_move_r (l : Launch) {w : Gh_} (hI : In_ w) (a a1 : St_) (x : Int32) (y : Int32) (z : Int32) (hM : Fn_ l w yX4_move (.code yX4_move cX4_move 4 none) { frames := 7, cells := 1, slots := 6, locals := 110 } 1 6 [.ref (ad_ w 0 0), .int x, .int y, .int z] a (.inl none) a1) : Fn_ l w yL_move (.codeWith yL_move cL_move 5 (some .int) [(0, 7, 10, 13)]) { frames := 8, cells := 1, slots := 6, locals := 133 } 1 6 [.ref (ad_ w 0 0), .int x, .int y, .int z] a (.inl (some (.int 0))) a1 := by
  refine Fn_ofH hI (by decide +kernel) (Nat.le_of_ble_eq_true rfl) ?_
  intro zp ze zs zm zb zt zc ls cx hr hlk htb hW hS hl
  replace cx : Cx_ zp zs zm zc _ cL_move 5 "MarginHouseLaw" w := cx
  replace hl : lv_has ls 5 [(0, .ref (ad_ w 0 0)), (1, .int x), (2, .int y), (3, .int z)] := hl
  obtain ⟨H, hH⟩ : ∃ H, zs.heap = H := ⟨_, rfl⟩
  rw [hH] at hW
  have hS : Fr_ w zs.heap H [] := by rw [← hH]; exact hS
  obtain ⟨locs, hlocs⟩ : ∃ x : List Loc, x = [] := ⟨_, rfl⟩
  rw [← hlocs] at hS ⊢
  rw [show W zp l ze _ zs zm _ zb zt zc zs.heap locs 0 0 _ (F0 zm 0 ls []) ↔ W zp l ze _ zs zm _ zb zt zc H locs 0 0 _ (F0 zm 0 ls []) from by rw [hH]]
  refine lv_aload_n cx.1 cx.2.1 dL_move_0 rfl (lv_at hl 0 rfl) ?_
  refine lv_iload_n cx.1 cx.2.1 dL_move_1 rfl (lv_at hl 1 rfl) ?_
  refine lv_iload_n cx.1 cx.2.1 dL_move_2 rfl (lv_at hl 2 rfl) ?_
  refine lv_iload_n cx.1 cx.2.1 dL_move_3 rfl (lv_at hl 3 rfl) ?_
  refine ck_V (v := none) (As := [.int x, .int y, .int z]) (rest := []) (k := 0) (i := 0) (T := TX4) cx hW hS hl (by decide) rfl rfl (hM) cw_X4_move nw_166 nw_167 nw_165 rfl rfl (Nat.le_of_ble_eq_true rfl) rfl rfl ⟨Nat.le_of_ble_eq_true rfl, Nat.le_of_ble_eq_true rfl⟩ ⟨Nat.le_of_ble_eq_true rfl, Nat.le_of_ble_eq_true rfl⟩ dL_move_4 (fun H locs hW hS => ?_)
  refine W.eq (g2 := F0 zm 7 ls []) rfl ?_
  refine lv_goto (tgt := 14) cx.1 cx.2.1 dL_move_7 (by decide) ?_
  refine lv_iconst (v := 0) cx.1 cx.2.1 dL_move_14 (by decide) ?_
  exact cr_i cx hr hlk hW hS (Nat.le_of_ble_eq_true rfl) (Nat.le_of_ble_eq_true rfl) dL_move_15 rfl rfl
set_option maxHeartbeats 4000000 in
set_option maxRecDepth 100000 in
theorem c_L_move_a (l : Launch) {w : Gh_} (hI : In_ w) (a : St_) (x : Int32) (y : Int32) (z : Int32) (hM : Fn_ l w yX4_move (.code yX4_move cX4_move 4 none) { frames := 7, cells := 1, slots := 6, locals := 110 } 1 6 [.ref (ad_ w 0 0), .int x, .int y, .int z] a (.inr IA_) a) : Fn_ l w yL_move (.codeWith yL_move cL_move 5 (some .int) [(0, 7, 10, 13)]) { frames := 8, cells := 1, slots := 6, locals := 133 } 1 6 [.ref (ad_ w 0 0), .int x, .int y, .int z] a (.inl (some (.int 1))) a := by
  refine Fn_ofH hI (by decide +kernel) (Nat.le_of_ble_eq_true rfl) ?_
  intro zp ze zs zm zb zt zc ls cx hr hlk htb hW hS hl
  replace cx : Cx_ zp zs zm zc _ cL_move 5 "MarginHouseLaw" w := cx
  replace hl : lv_has ls 5 [(0, .ref (ad_ w 0 0)), (1, .int x), (2, .int y), (3, .int z)] := hl
  obtain ⟨H, hH⟩ : ∃ H, zs.heap = H := ⟨_, rfl⟩
  rw [hH] at hW
  have hS : Fr_ w zs.heap H [] := by rw [← hH]; exact hS
  obtain ⟨locs, hlocs⟩ : ∃ x : List Loc, x = [] := ⟨_, rfl⟩
  rw [← hlocs] at hS ⊢
  rw [show W zp l ze _ zs zm _ zb zt zc zs.heap locs 0 0 _ (F0 zm 0 ls []) ↔ W zp l ze _ zs zm _ zb zt zc H locs 0 0 _ (F0 zm 0 ls []) from by rw [hH]]
  refine lv_aload_n cx.1 cx.2.1 dL_move_0 rfl (lv_at hl 0 rfl) ?_
  refine lv_iload_n cx.1 cx.2.1 dL_move_1 rfl (lv_at hl 1 rfl) ?_
  refine lv_iload_n cx.1 cx.2.1 dL_move_2 rfl (lv_at hl 2 rfl) ?_
  refine lv_iload_n cx.1 cx.2.1 dL_move_3 rfl (lv_at hl 3 rfl) ?_
  refine cc_A (As := [.int x, .int y, .int z]) (rest := []) (k := 0) (i := 0) (T := TX4) cx hW hS hl (by decide) rfl rfl (hM) cw_X4_move nw_166 nw_167 nw_165 rfl rfl (Nat.le_of_ble_eq_true rfl) rfl rfl ⟨Nat.le_of_ble_eq_true rfl, Nat.le_of_ble_eq_true rfl⟩ ⟨Nat.le_of_ble_eq_true rfl, Nat.le_of_ble_eq_true rfl⟩ dL_move_4 (x := ⟨0, 7, 10, 13⟩) (suf := []) htb (by decide) (by decide) nw_113 (fun H locs qx hW hS => ?_)
  refine lv_astore (lv' := [(4, .ref qx), (0, .ref (ad_ w 0 0)), (1, .int x), (2, .int y), (3, .int z)]) cx.1 cx.2.1 dL_move_10 hl (by decide) rfl (fun ls hl => ?_)
  refine lv_iconst (v := 1) cx.1 cx.2.1 dL_move_12 (by decide) ?_
  exact cr_i cx hr hlk hW hS (Nat.le_of_ble_eq_true rfl) (Nat.le_of_ble_eq_true rfl) dL_move_13 rfl rfl
set_option maxHeartbeats 4000000 in
set_option maxRecDepth 100000 in
theorem c_L_bid_r (l : Launch) {w : Gh_} (hI : In_ w) (a a1 : St_) (x : Int32) (y : Int32) (z : Int32) (hM : Fn_ l w yX4_bid (.code yX4_bid cX4_bid 4 none) { frames := 7, cells := 1, slots := 6, locals := 110 } 1 6 [.ref (ad_ w 0 0), .int x, .int y, .int z] a (.inl none) a1) : Fn_ l w yL_bid (.codeWith yL_bid cL_bid 5 (some .int) [(0, 7, 10, 13)]) { frames := 8, cells := 1, slots := 6, locals := 133 } 1 6 [.ref (ad_ w 0 0), .int x, .int y, .int z] a (.inl (some (.int 0))) a1 := by
  refine Fn_ofH hI (by decide +kernel) (Nat.le_of_ble_eq_true rfl) ?_
  intro zp ze zs zm zb zt zc ls cx hr hlk htb hW hS hl
  replace cx : Cx_ zp zs zm zc _ cL_bid 5 "MarginHouseLaw" w := cx
  replace hl : lv_has ls 5 [(0, .ref (ad_ w 0 0)), (1, .int x), (2, .int y), (3, .int z)] := hl
  obtain ⟨H, hH⟩ : ∃ H, zs.heap = H := ⟨_, rfl⟩
  rw [hH] at hW
  have hS : Fr_ w zs.heap H [] := by rw [← hH]; exact hS
  obtain ⟨locs, hlocs⟩ : ∃ x : List Loc, x = [] := ⟨_, rfl⟩
  rw [← hlocs] at hS ⊢
  rw [show W zp l ze _ zs zm _ zb zt zc zs.heap locs 0 0 _ (F0 zm 0 ls []) ↔ W zp l ze _ zs zm _ zb zt zc H locs 0 0 _ (F0 zm 0 ls []) from by rw [hH]]
  refine lv_aload_n cx.1 cx.2.1 dL_bid_0 rfl (lv_at hl 0 rfl) ?_
  refine lv_iload_n cx.1 cx.2.1 dL_bid_1 rfl (lv_at hl 1 rfl) ?_
  refine lv_iload_n cx.1 cx.2.1 dL_bid_2 rfl (lv_at hl 2 rfl) ?_
  refine lv_iload_n cx.1 cx.2.1 dL_bid_3 rfl (lv_at hl 3 rfl) ?_
  refine ck_V (v := none) (As := [.int x, .int y, .int z]) (rest := []) (k := 0) (i := 0) (T := TX4) cx hW hS hl (by decide) rfl rfl (hM) cw_X4_bid nw_178 nw_179 nw_177 rfl rfl (Nat.le_of_ble_eq_true rfl) rfl rfl ⟨Nat.le_of_ble_eq_true rfl, Nat.le_of_ble_eq_true rfl⟩ ⟨Nat.le_of_ble_eq_true rfl, Nat.le_of_ble_eq_true rfl⟩ dL_bid_4 (fun H locs hW hS => ?_)
  refine W.eq (g2 := F0 zm 7 ls []) rfl ?_
  refine lv_goto (tgt := 14) cx.1 cx.2.1 dL_bid_7 (by decide) ?_
  refine lv_iconst (v := 0) cx.1 cx.2.1 dL_bid_14 (by decide) ?_
  exact cr_i cx hr hlk hW hS (Nat.le_of_ble_eq_true rfl) (Nat.le_of_ble_eq_true rfl) dL_bid_15 rfl rfl
set_option maxHeartbeats 4000000 in
set_option maxRecDepth 100000 in
theorem c_L_bid_a (l : Launch) {w : Gh_} (hI : In_ w) (a : St_) (x : Int32) (y : Int32) (z : Int32) (hM : Fn_ l w yX4_bid (.code yX4_bid cX4_bid 4 none) { frames := 7, cells := 1, slots := 6, locals := 110 } 1 6 [.ref (ad_ w 0 0), .int x, .int y, .int z] a (.inr IA_) a) : Fn_ l w yL_bid (.codeWith yL_bid cL_bid 5 (some .int) [(0, 7, 10, 13)]) { frames := 8, cells := 1, slots := 6, locals := 133 } 1 6 [.ref (ad_ w 0 0), .int x, .int y, .int z] a (.inl (some (.int 1))) a := by
  refine Fn_ofH hI (by decide +kernel) (Nat.le_of_ble_eq_true rfl) ?_
  intro zp ze zs zm zb zt zc ls cx hr hlk htb hW hS hl
  replace cx : Cx_ zp zs zm zc _ cL_bid 5 "MarginHouseLaw" w := cx
  replace hl : lv_has ls 5 [(0, .ref (ad_ w 0 0)), (1, .int x), (2, .int y), (3, .int z)] := hl
  obtain ⟨H, hH⟩ : ∃ H, zs.heap = H := ⟨_, rfl⟩
  rw [hH] at hW
  have hS : Fr_ w zs.heap H [] := by rw [← hH]; exact hS
  obtain ⟨locs, hlocs⟩ : ∃ x : List Loc, x = [] := ⟨_, rfl⟩
  rw [← hlocs] at hS ⊢
  rw [show W zp l ze _ zs zm _ zb zt zc zs.heap locs 0 0 _ (F0 zm 0 ls []) ↔ W zp l ze _ zs zm _ zb zt zc H locs 0 0 _ (F0 zm 0 ls []) from by rw [hH]]
  refine lv_aload_n cx.1 cx.2.1 dL_bid_0 rfl (lv_at hl 0 rfl) ?_
  refine lv_iload_n cx.1 cx.2.1 dL_bid_1 rfl (lv_at hl 1 rfl) ?_
  refine lv_iload_n cx.1 cx.2.1 dL_bid_2 rfl (lv_at hl 2 rfl) ?_
  refine lv_iload_n cx.1 cx.2.1 dL_bid_3 rfl (lv_at hl 3 rfl) ?_
  refine cc_A (As := [.int x, .int y, .int z]) (rest := []) (k := 0) (i := 0) (T := TX4) cx hW hS hl (by decide) rfl rfl (hM) cw_X4_bid nw_178 nw_179 nw_177 rfl rfl (Nat.le_of_ble_eq_true rfl) rfl rfl ⟨Nat.le_of_ble_eq_true rfl, Nat.le_of_ble_eq_true rfl⟩ ⟨Nat.le_of_ble_eq_true rfl, Nat.le_of_ble_eq_true rfl⟩ dL_bid_4 (x := ⟨0, 7, 10, 13⟩) (suf := []) htb (by decide) (by decide) nw_113 (fun H locs qx hW hS => ?_)
  refine lv_astore (lv' := [(4, .ref qx), (0, .ref (ad_ w 0 0)), (1, .int x), (2, .int y), (3, .int z)]) cx.1 cx.2.1 dL_bid_10 hl (by decide) rfl (fun ls hl => ?_)
  refine lv_iconst (v := 1) cx.1 cx.2.1 dL_bid_12 (by decide) ?_
  exact cr_i cx hr hlk hW hS (Nat.le_of_ble_eq_true rfl) (Nat.le_of_ble_eq_true rfl) dL_bid_13 rfl rfl
set_option maxHeartbeats 4000000 in
set_option maxRecDepth 100000 in
theorem c_L_deposit_r (l : Launch) {w : Gh_} (hI : In_ w) (a a1 : St_) (x : Int32) (y : Int64) (r : Int64) (hM : Fn_ l w yX4_deposit (.code yX4_deposit cX4_deposit 5 (some .long)) { frames := 7, cells := 1, slots := 6, locals := 111 } 1 6 [.ref (ad_ w 0 0), .int x, .long y] a (.inl (some (.long r))) a1) : Fn_ l w yL_deposit (.codeWith yL_deposit cL_deposit 6 (some .int) [(0, 10, 13, 13), (0, 10, 17, 34)]) { frames := 8, cells := 1, slots := 6, locals := 135 } 1 6 [.ref (ad_ w 0 0), .int x, .long y, .ref (ad_ w 40 0)] a (.inl (some (.int 0))) (sl_ a1 40 0 0 r) := by
  refine Fn_ofH hI (by decide +kernel) (Nat.le_of_ble_eq_true rfl) ?_
  intro zp ze zs zm zb zt zc ls cx hr hlk htb hW hS hl
  replace cx : Cx_ zp zs zm zc _ cL_deposit 6 "MarginHouseLaw" w := cx
  replace hl : lv_has ls 6 [(0, .ref (ad_ w 0 0)), (1, .int x), (2, .long y), (4, .ref (ad_ w 40 0))] := hl
  obtain ⟨H, hH⟩ : ∃ H, zs.heap = H := ⟨_, rfl⟩
  rw [hH] at hW
  have hS : Fr_ w zs.heap H [] := by rw [← hH]; exact hS
  obtain ⟨locs, hlocs⟩ : ∃ x : List Loc, x = [] := ⟨_, rfl⟩
  rw [← hlocs] at hS ⊢
  rw [show W zp l ze _ zs zm _ zb zt zc zs.heap locs 0 0 _ (F0 zm 0 ls []) ↔ W zp l ze _ zs zm _ zb zt zc H locs 0 0 _ (F0 zm 0 ls []) from by rw [hH]]
  refine lv_aload cx.1 cx.2.1 dL_deposit_0 (lv_at hl 3 rfl) ?_
  refine lv_iconst (v := 0) cx.1 cx.2.1 dL_deposit_2 (by decide) ?_
  refine lv_aload_n cx.1 cx.2.1 dL_deposit_3 rfl (lv_at hl 0 rfl) ?_
  refine lv_iload_n cx.1 cx.2.1 dL_deposit_4 rfl (lv_at hl 1 rfl) ?_
  refine lv_lload_n cx.1 cx.2.1 dL_deposit_5 rfl (lv_at hl 2 rfl) ?_
  refine ck_V (v := some (.long r)) (As := [.int x, .long y]) (rest := [.int 0, .ref (ad_ w 40 0)]) (k := 0) (i := 0) (T := TX4) cx hW hS hl (by decide) rfl rfl (hM) cw_X4_deposit nw_189 nw_190 nw_188 rfl rfl (Nat.le_of_ble_eq_true rfl) rfl rfl ⟨Nat.le_of_ble_eq_true rfl, Nat.le_of_ble_eq_true rfl⟩ ⟨Nat.le_of_ble_eq_true rfl, Nat.le_of_ble_eq_true rfl⟩ dL_deposit_6 (fun H locs hW hS => ?_)
  refine W.eq (g2 := F0 zm 9 ls [.long r, .int 0, .ref (ad_ w 40 0)]) rfl ?_
  refine as_40 (j := 0) cx hW hS (by decide) (by decide +kernel) (by decide) dL_deposit_9 (fun H locs hW hS => ?_)
  refine lv_goto (tgt := 21) cx.1 cx.2.1 dL_deposit_10 (by decide) ?_
  refine lv_iconst (v := 0) cx.1 cx.2.1 dL_deposit_21 (by decide) ?_
  exact cr_i cx hr hlk hW hS (Nat.le_of_ble_eq_true rfl) (Nat.le_of_ble_eq_true rfl) dL_deposit_22 rfl rfl
set_option maxHeartbeats 4000000 in
set_option maxRecDepth 100000 in
theorem c_L_deposit_a (l : Launch) {w : Gh_} (hI : In_ w) (a : St_) (x : Int32) (y : Int64) (hM : Fn_ l w yX4_deposit (.code yX4_deposit cX4_deposit 5 (some .long)) { frames := 7, cells := 1, slots := 6, locals := 111 } 1 6 [.ref (ad_ w 0 0), .int x, .long y] a (.inr IA_) a) : Fn_ l w yL_deposit (.codeWith yL_deposit cL_deposit 6 (some .int) [(0, 10, 13, 13), (0, 10, 17, 34)]) { frames := 8, cells := 1, slots := 6, locals := 135 } 1 6 [.ref (ad_ w 0 0), .int x, .long y, .ref (ad_ w 40 0)] a (.inl (some (.int 1))) a := by
  refine Fn_ofH hI (by decide +kernel) (Nat.le_of_ble_eq_true rfl) ?_
  intro zp ze zs zm zb zt zc ls cx hr hlk htb hW hS hl
  replace cx : Cx_ zp zs zm zc _ cL_deposit 6 "MarginHouseLaw" w := cx
  replace hl : lv_has ls 6 [(0, .ref (ad_ w 0 0)), (1, .int x), (2, .long y), (4, .ref (ad_ w 40 0))] := hl
  obtain ⟨H, hH⟩ : ∃ H, zs.heap = H := ⟨_, rfl⟩
  rw [hH] at hW
  have hS : Fr_ w zs.heap H [] := by rw [← hH]; exact hS
  obtain ⟨locs, hlocs⟩ : ∃ x : List Loc, x = [] := ⟨_, rfl⟩
  rw [← hlocs] at hS ⊢
  rw [show W zp l ze _ zs zm _ zb zt zc zs.heap locs 0 0 _ (F0 zm 0 ls []) ↔ W zp l ze _ zs zm _ zb zt zc H locs 0 0 _ (F0 zm 0 ls []) from by rw [hH]]
  refine lv_aload cx.1 cx.2.1 dL_deposit_0 (lv_at hl 3 rfl) ?_
  refine lv_iconst (v := 0) cx.1 cx.2.1 dL_deposit_2 (by decide) ?_
  refine lv_aload_n cx.1 cx.2.1 dL_deposit_3 rfl (lv_at hl 0 rfl) ?_
  refine lv_iload_n cx.1 cx.2.1 dL_deposit_4 rfl (lv_at hl 1 rfl) ?_
  refine lv_lload_n cx.1 cx.2.1 dL_deposit_5 rfl (lv_at hl 2 rfl) ?_
  refine cc_A (As := [.int x, .long y]) (rest := [.int 0, .ref (ad_ w 40 0)]) (k := 0) (i := 0) (T := TX4) cx hW hS hl (by decide) rfl rfl (hM) cw_X4_deposit nw_189 nw_190 nw_188 rfl rfl (Nat.le_of_ble_eq_true rfl) rfl rfl ⟨Nat.le_of_ble_eq_true rfl, Nat.le_of_ble_eq_true rfl⟩ ⟨Nat.le_of_ble_eq_true rfl, Nat.le_of_ble_eq_true rfl⟩ dL_deposit_6 (x := ⟨0, 10, 13, 13⟩) (suf := [⟨0, 10, 17, 34⟩]) htb (by decide) (by decide) nw_113 (fun H locs qx hW hS => ?_)
  refine lv_astore (lv' := [(5, .ref qx), (0, .ref (ad_ w 0 0)), (1, .int x), (2, .long y), (4, .ref (ad_ w 40 0))]) cx.1 cx.2.1 dL_deposit_13 hl (by decide) rfl (fun ls hl => ?_)
  refine lv_iconst (v := 1) cx.1 cx.2.1 dL_deposit_15 (by decide) ?_
  exact cr_i cx hr hlk hW hS (Nat.le_of_ble_eq_true rfl) (Nat.le_of_ble_eq_true rfl) dL_deposit_16 rfl rfl
set_option maxHeartbeats 4000000 in
set_option maxRecDepth 100000 in
theorem c_L_deposit_s (l : Launch) {w : Gh_} (hI : In_ w) (a : St_) (x : Int32) (y : Int64) (hM : Fn_ l w yX4_deposit (.code yX4_deposit cX4_deposit 5 (some .long)) { frames := 7, cells := 1, slots := 6, locals := 111 } 1 6 [.ref (ad_ w 0 0), .int x, .long y] a (.inr IS_) a) : Fn_ l w yL_deposit (.codeWith yL_deposit cL_deposit 6 (some .int) [(0, 10, 13, 13), (0, 10, 17, 34)]) { frames := 8, cells := 1, slots := 6, locals := 135 } 1 6 [.ref (ad_ w 0 0), .int x, .long y, .ref (ad_ w 40 0)] a (.inl (some (.int 2))) a := by
  refine Fn_ofH hI (by decide +kernel) (Nat.le_of_ble_eq_true rfl) ?_
  intro zp ze zs zm zb zt zc ls cx hr hlk htb hW hS hl
  replace cx : Cx_ zp zs zm zc _ cL_deposit 6 "MarginHouseLaw" w := cx
  replace hl : lv_has ls 6 [(0, .ref (ad_ w 0 0)), (1, .int x), (2, .long y), (4, .ref (ad_ w 40 0))] := hl
  obtain ⟨H, hH⟩ : ∃ H, zs.heap = H := ⟨_, rfl⟩
  rw [hH] at hW
  have hS : Fr_ w zs.heap H [] := by rw [← hH]; exact hS
  obtain ⟨locs, hlocs⟩ : ∃ x : List Loc, x = [] := ⟨_, rfl⟩
  rw [← hlocs] at hS ⊢
  rw [show W zp l ze _ zs zm _ zb zt zc zs.heap locs 0 0 _ (F0 zm 0 ls []) ↔ W zp l ze _ zs zm _ zb zt zc H locs 0 0 _ (F0 zm 0 ls []) from by rw [hH]]
  refine lv_aload cx.1 cx.2.1 dL_deposit_0 (lv_at hl 3 rfl) ?_
  refine lv_iconst (v := 0) cx.1 cx.2.1 dL_deposit_2 (by decide) ?_
  refine lv_aload_n cx.1 cx.2.1 dL_deposit_3 rfl (lv_at hl 0 rfl) ?_
  refine lv_iload_n cx.1 cx.2.1 dL_deposit_4 rfl (lv_at hl 1 rfl) ?_
  refine lv_lload_n cx.1 cx.2.1 dL_deposit_5 rfl (lv_at hl 2 rfl) ?_
  refine cc_B (As := [.int x, .long y]) (rest := [.int 0, .ref (ad_ w 40 0)]) (k := 0) (i := 0) (T := TX4) cx hW hS hl (by decide) rfl rfl (hM) cw_X4_deposit nw_189 nw_190 nw_188 rfl rfl (Nat.le_of_ble_eq_true rfl) rfl rfl ⟨Nat.le_of_ble_eq_true rfl, Nat.le_of_ble_eq_true rfl⟩ ⟨Nat.le_of_ble_eq_true rfl, Nat.le_of_ble_eq_true rfl⟩ dL_deposit_6 (z := ⟨0, 10, 13, 13⟩) (x := ⟨0, 10, 17, 34⟩) (suf := []) htb (by decide) (by decide) (by decide) nw_113 nw_187 (fun H locs qx hW hS => ?_)
  refine lv_astore (lv' := [(5, .ref qx), (0, .ref (ad_ w 0 0)), (1, .int x), (2, .long y), (4, .ref (ad_ w 40 0))]) cx.1 cx.2.1 dL_deposit_17 hl (by decide) rfl (fun ls hl => ?_)
  refine lv_iconst (v := 2) cx.1 cx.2.1 dL_deposit_19 (by decide) ?_
  exact cr_i cx hr hlk hW hS (Nat.le_of_ble_eq_true rfl) (Nat.le_of_ble_eq_true rfl) dL_deposit_20 rfl rfl
set_option maxHeartbeats 4000000 in
set_option maxRecDepth 100000 in
theorem c_L_withdraw_r (l : Launch) {w : Gh_} (hI : In_ w) (a a1 : St_) (x : Int32) (y : Int64) (r : Int64) (hM : Fn_ l w yX4_withdraw (.code yX4_withdraw cX4_withdraw 5 (some .long)) { frames := 7, cells := 1, slots := 6, locals := 111 } 1 6 [.ref (ad_ w 0 0), .int x, .long y] a (.inl (some (.long r))) a1) : Fn_ l w yL_withdraw (.codeWith yL_withdraw cL_withdraw 6 (some .int) [(0, 10, 13, 13), (0, 10, 17, 34)]) { frames := 8, cells := 1, slots := 6, locals := 135 } 1 6 [.ref (ad_ w 0 0), .int x, .long y, .ref (ad_ w 40 0)] a (.inl (some (.int 0))) (sl_ a1 40 0 0 r) := by
  refine Fn_ofH hI (by decide +kernel) (Nat.le_of_ble_eq_true rfl) ?_
  intro zp ze zs zm zb zt zc ls cx hr hlk htb hW hS hl
  replace cx : Cx_ zp zs zm zc _ cL_withdraw 6 "MarginHouseLaw" w := cx
  replace hl : lv_has ls 6 [(0, .ref (ad_ w 0 0)), (1, .int x), (2, .long y), (4, .ref (ad_ w 40 0))] := hl
  obtain ⟨H, hH⟩ : ∃ H, zs.heap = H := ⟨_, rfl⟩
  rw [hH] at hW
  have hS : Fr_ w zs.heap H [] := by rw [← hH]; exact hS
  obtain ⟨locs, hlocs⟩ : ∃ x : List Loc, x = [] := ⟨_, rfl⟩
  rw [← hlocs] at hS ⊢
  rw [show W zp l ze _ zs zm _ zb zt zc zs.heap locs 0 0 _ (F0 zm 0 ls []) ↔ W zp l ze _ zs zm _ zb zt zc H locs 0 0 _ (F0 zm 0 ls []) from by rw [hH]]
  refine lv_aload cx.1 cx.2.1 dL_withdraw_0 (lv_at hl 3 rfl) ?_
  refine lv_iconst (v := 0) cx.1 cx.2.1 dL_withdraw_2 (by decide) ?_
  refine lv_aload_n cx.1 cx.2.1 dL_withdraw_3 rfl (lv_at hl 0 rfl) ?_
  refine lv_iload_n cx.1 cx.2.1 dL_withdraw_4 rfl (lv_at hl 1 rfl) ?_
  refine lv_lload_n cx.1 cx.2.1 dL_withdraw_5 rfl (lv_at hl 2 rfl) ?_
  refine ck_V (v := some (.long r)) (As := [.int x, .long y]) (rest := [.int 0, .ref (ad_ w 40 0)]) (k := 0) (i := 0) (T := TX4) cx hW hS hl (by decide) rfl rfl (hM) cw_X4_withdraw nw_204 nw_205 nw_203 rfl rfl (Nat.le_of_ble_eq_true rfl) rfl rfl ⟨Nat.le_of_ble_eq_true rfl, Nat.le_of_ble_eq_true rfl⟩ ⟨Nat.le_of_ble_eq_true rfl, Nat.le_of_ble_eq_true rfl⟩ dL_withdraw_6 (fun H locs hW hS => ?_)
  refine W.eq (g2 := F0 zm 9 ls [.long r, .int 0, .ref (ad_ w 40 0)]) rfl ?_
  refine as_40 (j := 0) cx hW hS (by decide) (by decide +kernel) (by decide) dL_withdraw_9 (fun H locs hW hS => ?_)
  refine lv_goto (tgt := 21) cx.1 cx.2.1 dL_withdraw_10 (by decide) ?_
  refine lv_iconst (v := 0) cx.1 cx.2.1 dL_withdraw_21 (by decide) ?_
  exact cr_i cx hr hlk hW hS (Nat.le_of_ble_eq_true rfl) (Nat.le_of_ble_eq_true rfl) dL_withdraw_22 rfl rfl
set_option maxHeartbeats 4000000 in
set_option maxRecDepth 100000 in
theorem c_L_withdraw_a (l : Launch) {w : Gh_} (hI : In_ w) (a : St_) (x : Int32) (y : Int64) (hM : Fn_ l w yX4_withdraw (.code yX4_withdraw cX4_withdraw 5 (some .long)) { frames := 7, cells := 1, slots := 6, locals := 111 } 1 6 [.ref (ad_ w 0 0), .int x, .long y] a (.inr IA_) a) : Fn_ l w yL_withdraw (.codeWith yL_withdraw cL_withdraw 6 (some .int) [(0, 10, 13, 13), (0, 10, 17, 34)]) { frames := 8, cells := 1, slots := 6, locals := 135 } 1 6 [.ref (ad_ w 0 0), .int x, .long y, .ref (ad_ w 40 0)] a (.inl (some (.int 1))) a := by
  refine Fn_ofH hI (by decide +kernel) (Nat.le_of_ble_eq_true rfl) ?_
  intro zp ze zs zm zb zt zc ls cx hr hlk htb hW hS hl
  replace cx : Cx_ zp zs zm zc _ cL_withdraw 6 "MarginHouseLaw" w := cx
  replace hl : lv_has ls 6 [(0, .ref (ad_ w 0 0)), (1, .int x), (2, .long y), (4, .ref (ad_ w 40 0))] := hl
  obtain ⟨H, hH⟩ : ∃ H, zs.heap = H := ⟨_, rfl⟩
  rw [hH] at hW
  have hS : Fr_ w zs.heap H [] := by rw [← hH]; exact hS
  obtain ⟨locs, hlocs⟩ : ∃ x : List Loc, x = [] := ⟨_, rfl⟩
  rw [← hlocs] at hS ⊢
  rw [show W zp l ze _ zs zm _ zb zt zc zs.heap locs 0 0 _ (F0 zm 0 ls []) ↔ W zp l ze _ zs zm _ zb zt zc H locs 0 0 _ (F0 zm 0 ls []) from by rw [hH]]
  refine lv_aload cx.1 cx.2.1 dL_withdraw_0 (lv_at hl 3 rfl) ?_
  refine lv_iconst (v := 0) cx.1 cx.2.1 dL_withdraw_2 (by decide) ?_
  refine lv_aload_n cx.1 cx.2.1 dL_withdraw_3 rfl (lv_at hl 0 rfl) ?_
  refine lv_iload_n cx.1 cx.2.1 dL_withdraw_4 rfl (lv_at hl 1 rfl) ?_
  refine lv_lload_n cx.1 cx.2.1 dL_withdraw_5 rfl (lv_at hl 2 rfl) ?_
  refine cc_A (As := [.int x, .long y]) (rest := [.int 0, .ref (ad_ w 40 0)]) (k := 0) (i := 0) (T := TX4) cx hW hS hl (by decide) rfl rfl (hM) cw_X4_withdraw nw_204 nw_205 nw_203 rfl rfl (Nat.le_of_ble_eq_true rfl) rfl rfl ⟨Nat.le_of_ble_eq_true rfl, Nat.le_of_ble_eq_true rfl⟩ ⟨Nat.le_of_ble_eq_true rfl, Nat.le_of_ble_eq_true rfl⟩ dL_withdraw_6 (x := ⟨0, 10, 13, 13⟩) (suf := [⟨0, 10, 17, 34⟩]) htb (by decide) (by decide) nw_113 (fun H locs qx hW hS => ?_)
  refine lv_astore (lv' := [(5, .ref qx), (0, .ref (ad_ w 0 0)), (1, .int x), (2, .long y), (4, .ref (ad_ w 40 0))]) cx.1 cx.2.1 dL_withdraw_13 hl (by decide) rfl (fun ls hl => ?_)
  refine lv_iconst (v := 1) cx.1 cx.2.1 dL_withdraw_15 (by decide) ?_
  exact cr_i cx hr hlk hW hS (Nat.le_of_ble_eq_true rfl) (Nat.le_of_ble_eq_true rfl) dL_withdraw_16 rfl rfl
set_option maxHeartbeats 4000000 in
set_option maxRecDepth 100000 in
theorem c_L_withdraw_s (l : Launch) {w : Gh_} (hI : In_ w) (a : St_) (x : Int32) (y : Int64) (hM : Fn_ l w yX4_withdraw (.code yX4_withdraw cX4_withdraw 5 (some .long)) { frames := 7, cells := 1, slots := 6, locals := 111 } 1 6 [.ref (ad_ w 0 0), .int x, .long y] a (.inr IS_) a) : Fn_ l w yL_withdraw (.codeWith yL_withdraw cL_withdraw 6 (some .int) [(0, 10, 13, 13), (0, 10, 17, 34)]) { frames := 8, cells := 1, slots := 6, locals := 135 } 1 6 [.ref (ad_ w 0 0), .int x, .long y, .ref (ad_ w 40 0)] a (.inl (some (.int 2))) a := by
  refine Fn_ofH hI (by decide +kernel) (Nat.le_of_ble_eq_true rfl) ?_
  intro zp ze zs zm zb zt zc ls cx hr hlk htb hW hS hl
  replace cx : Cx_ zp zs zm zc _ cL_withdraw 6 "MarginHouseLaw" w := cx
  replace hl : lv_has ls 6 [(0, .ref (ad_ w 0 0)), (1, .int x), (2, .long y), (4, .ref (ad_ w 40 0))] := hl
  obtain ⟨H, hH⟩ : ∃ H, zs.heap = H := ⟨_, rfl⟩
  rw [hH] at hW
  have hS : Fr_ w zs.heap H [] := by rw [← hH]; exact hS
  obtain ⟨locs, hlocs⟩ : ∃ x : List Loc, x = [] := ⟨_, rfl⟩
  rw [← hlocs] at hS ⊢
  rw [show W zp l ze _ zs zm _ zb zt zc zs.heap locs 0 0 _ (F0 zm 0 ls []) ↔ W zp l ze _ zs zm _ zb zt zc H locs 0 0 _ (F0 zm 0 ls []) from by rw [hH]]
  refine lv_aload cx.1 cx.2.1 dL_withdraw_0 (lv_at hl 3 rfl) ?_
  refine lv_iconst (v := 0) cx.1 cx.2.1 dL_withdraw_2 (by decide) ?_
  refine lv_aload_n cx.1 cx.2.1 dL_withdraw_3 rfl (lv_at hl 0 rfl) ?_
  refine lv_iload_n cx.1 cx.2.1 dL_withdraw_4 rfl (lv_at hl 1 rfl) ?_
  refine lv_lload_n cx.1 cx.2.1 dL_withdraw_5 rfl (lv_at hl 2 rfl) ?_
  refine cc_B (As := [.int x, .long y]) (rest := [.int 0, .ref (ad_ w 40 0)]) (k := 0) (i := 0) (T := TX4) cx hW hS hl (by decide) rfl rfl (hM) cw_X4_withdraw nw_204 nw_205 nw_203 rfl rfl (Nat.le_of_ble_eq_true rfl) rfl rfl ⟨Nat.le_of_ble_eq_true rfl, Nat.le_of_ble_eq_true rfl⟩ ⟨Nat.le_of_ble_eq_true rfl, Nat.le_of_ble_eq_true rfl⟩ dL_withdraw_6 (z := ⟨0, 10, 13, 13⟩) (x := ⟨0, 10, 17, 34⟩) (suf := []) htb (by decide) (by decide) (by decide) nw_113 nw_187 (fun H locs qx hW hS => ?_)
  refine lv_astore (lv' := [(5, .ref qx), (0, .ref (ad_ w 0 0)), (1, .int x), (2, .long y), (4, .ref (ad_ w 40 0))]) cx.1 cx.2.1 dL_withdraw_17 hl (by decide) rfl (fun ls hl => ?_)
  refine lv_iconst (v := 2) cx.1 cx.2.1 dL_withdraw_19 (by decide) ?_
  exact cr_i cx hr hlk hW hS (Nat.le_of_ble_eq_true rfl) (Nat.le_of_ble_eq_true rfl) dL_withdraw_20 rfl rfl
set_option maxHeartbeats 4000000 in
set_option maxRecDepth 100000 in
theorem c_L_trade_r (l : Launch) {w : Gh_} (hI : In_ w) (a a1 : St_) (x : Int32) (y : Int32) (z : Int32) (u : Int32) (v : Int32) (r : Int32) (hM : Fn_ l w yX4_trade (.code yX4_trade cX4_trade 10 (some .int)) { frames := 7, cells := 1, slots := 6, locals := 111 } 1 6 [.ref (ad_ w 0 0), .int x, .int y, .int z, .int u, .int v] a (.inl (some (.int r))) a1) : Fn_ l w yL_trade (.codeWith yL_trade cL_trade 8 (some .int) [(0, 16, 19, 13), (0, 16, 23, 34)]) { frames := 8, cells := 1, slots := 6, locals := 140 } 1 6 [.ref (ad_ w 0 0), .int x, .int y, .int z, .int u, .int v, .ref (ad_ w 40 0)] a (.inl (some (.int 0))) (sl_ a1 40 0 0 r.toInt64) := by
  refine Fn_ofH hI (by decide +kernel) (Nat.le_of_ble_eq_true rfl) ?_
  intro zp ze zs zm zb zt zc ls cx hr hlk htb hW hS hl
  replace cx : Cx_ zp zs zm zc _ cL_trade 8 "MarginHouseLaw" w := cx
  replace hl : lv_has ls 8 [(0, .ref (ad_ w 0 0)), (1, .int x), (2, .int y), (3, .int z), (4, .int u), (5, .int v), (6, .ref (ad_ w 40 0))] := hl
  obtain ⟨H, hH⟩ : ∃ H, zs.heap = H := ⟨_, rfl⟩
  rw [hH] at hW
  have hS : Fr_ w zs.heap H [] := by rw [← hH]; exact hS
  obtain ⟨locs, hlocs⟩ : ∃ x : List Loc, x = [] := ⟨_, rfl⟩
  rw [← hlocs] at hS ⊢
  rw [show W zp l ze _ zs zm _ zb zt zc zs.heap locs 0 0 _ (F0 zm 0 ls []) ↔ W zp l ze _ zs zm _ zb zt zc H locs 0 0 _ (F0 zm 0 ls []) from by rw [hH]]
  refine lv_aload cx.1 cx.2.1 dL_trade_0 (lv_at hl 6 rfl) ?_
  refine lv_iconst (v := 0) cx.1 cx.2.1 dL_trade_2 (by decide) ?_
  refine lv_aload_n cx.1 cx.2.1 dL_trade_3 rfl (lv_at hl 0 rfl) ?_
  refine lv_iload_n cx.1 cx.2.1 dL_trade_4 rfl (lv_at hl 1 rfl) ?_
  refine lv_iload_n cx.1 cx.2.1 dL_trade_5 rfl (lv_at hl 2 rfl) ?_
  refine lv_iload_n cx.1 cx.2.1 dL_trade_6 rfl (lv_at hl 3 rfl) ?_
  refine lv_iload cx.1 cx.2.1 dL_trade_7 (lv_at hl 4 rfl) ?_
  refine lv_iload cx.1 cx.2.1 dL_trade_9 (lv_at hl 5 rfl) ?_
  refine ck_V (v := some (.int r)) (As := [.int x, .int y, .int z, .int u, .int v]) (rest := [.int 0, .ref (ad_ w 40 0)]) (k := 0) (i := 0) (T := TX4) cx hW hS hl (by decide) rfl rfl (hM) cw_X4_trade nw_211 nw_212 nw_210 rfl rfl (Nat.le_of_ble_eq_true rfl) rfl rfl ⟨Nat.le_of_ble_eq_true rfl, Nat.le_of_ble_eq_true rfl⟩ ⟨Nat.le_of_ble_eq_true rfl, Nat.le_of_ble_eq_true rfl⟩ dL_trade_11 (fun H locs hW hS => ?_)
  refine W.eq (g2 := F0 zm 14 ls [.int r, .int 0, .ref (ad_ w 40 0)]) rfl ?_
  refine lv_i2l (v := r.toInt64) cx.1 cx.2.1 dL_trade_14 rfl ?_
  refine as_40 (j := 0) cx hW hS (by decide) (by decide +kernel) (by decide) dL_trade_15 (fun H locs hW hS => ?_)
  refine lv_goto (tgt := 27) cx.1 cx.2.1 dL_trade_16 (by decide) ?_
  refine lv_iconst (v := 0) cx.1 cx.2.1 dL_trade_27 (by decide) ?_
  exact cr_i cx hr hlk hW hS (Nat.le_of_ble_eq_true rfl) (Nat.le_of_ble_eq_true rfl) dL_trade_28 rfl rfl
set_option maxHeartbeats 4000000 in
set_option maxRecDepth 100000 in
theorem c_L_trade_a (l : Launch) {w : Gh_} (hI : In_ w) (a : St_) (x : Int32) (y : Int32) (z : Int32) (u : Int32) (v : Int32) (hM : Fn_ l w yX4_trade (.code yX4_trade cX4_trade 10 (some .int)) { frames := 7, cells := 1, slots := 6, locals := 111 } 1 6 [.ref (ad_ w 0 0), .int x, .int y, .int z, .int u, .int v] a (.inr IA_) a) : Fn_ l w yL_trade (.codeWith yL_trade cL_trade 8 (some .int) [(0, 16, 19, 13), (0, 16, 23, 34)]) { frames := 8, cells := 1, slots := 6, locals := 140 } 1 6 [.ref (ad_ w 0 0), .int x, .int y, .int z, .int u, .int v, .ref (ad_ w 40 0)] a (.inl (some (.int 1))) a := by
  refine Fn_ofH hI (by decide +kernel) (Nat.le_of_ble_eq_true rfl) ?_
  intro zp ze zs zm zb zt zc ls cx hr hlk htb hW hS hl
  replace cx : Cx_ zp zs zm zc _ cL_trade 8 "MarginHouseLaw" w := cx
  replace hl : lv_has ls 8 [(0, .ref (ad_ w 0 0)), (1, .int x), (2, .int y), (3, .int z), (4, .int u), (5, .int v), (6, .ref (ad_ w 40 0))] := hl
  obtain ⟨H, hH⟩ : ∃ H, zs.heap = H := ⟨_, rfl⟩
  rw [hH] at hW
  have hS : Fr_ w zs.heap H [] := by rw [← hH]; exact hS
  obtain ⟨locs, hlocs⟩ : ∃ x : List Loc, x = [] := ⟨_, rfl⟩
  rw [← hlocs] at hS ⊢
  rw [show W zp l ze _ zs zm _ zb zt zc zs.heap locs 0 0 _ (F0 zm 0 ls []) ↔ W zp l ze _ zs zm _ zb zt zc H locs 0 0 _ (F0 zm 0 ls []) from by rw [hH]]
  refine lv_aload cx.1 cx.2.1 dL_trade_0 (lv_at hl 6 rfl) ?_
  refine lv_iconst (v := 0) cx.1 cx.2.1 dL_trade_2 (by decide) ?_
  refine lv_aload_n cx.1 cx.2.1 dL_trade_3 rfl (lv_at hl 0 rfl) ?_
  refine lv_iload_n cx.1 cx.2.1 dL_trade_4 rfl (lv_at hl 1 rfl) ?_
  refine lv_iload_n cx.1 cx.2.1 dL_trade_5 rfl (lv_at hl 2 rfl) ?_
  refine lv_iload_n cx.1 cx.2.1 dL_trade_6 rfl (lv_at hl 3 rfl) ?_
  refine lv_iload cx.1 cx.2.1 dL_trade_7 (lv_at hl 4 rfl) ?_
  refine lv_iload cx.1 cx.2.1 dL_trade_9 (lv_at hl 5 rfl) ?_
  refine cc_A (As := [.int x, .int y, .int z, .int u, .int v]) (rest := [.int 0, .ref (ad_ w 40 0)]) (k := 0) (i := 0) (T := TX4) cx hW hS hl (by decide) rfl rfl (hM) cw_X4_trade nw_211 nw_212 nw_210 rfl rfl (Nat.le_of_ble_eq_true rfl) rfl rfl ⟨Nat.le_of_ble_eq_true rfl, Nat.le_of_ble_eq_true rfl⟩ ⟨Nat.le_of_ble_eq_true rfl, Nat.le_of_ble_eq_true rfl⟩ dL_trade_11 (x := ⟨0, 16, 19, 13⟩) (suf := [⟨0, 16, 23, 34⟩]) htb (by decide) (by decide) nw_113 (fun H locs qx hW hS => ?_)
  refine lv_astore (lv' := [(7, .ref qx), (0, .ref (ad_ w 0 0)), (1, .int x), (2, .int y), (3, .int z), (4, .int u), (5, .int v), (6, .ref (ad_ w 40 0))]) cx.1 cx.2.1 dL_trade_19 hl (by decide) rfl (fun ls hl => ?_)
  refine lv_iconst (v := 1) cx.1 cx.2.1 dL_trade_21 (by decide) ?_
  exact cr_i cx hr hlk hW hS (Nat.le_of_ble_eq_true rfl) (Nat.le_of_ble_eq_true rfl) dL_trade_22 rfl rfl
set_option maxHeartbeats 4000000 in
set_option maxRecDepth 100000 in
theorem c_L_trade_s (l : Launch) {w : Gh_} (hI : In_ w) (a : St_) (x : Int32) (y : Int32) (z : Int32) (u : Int32) (v : Int32) (hM : Fn_ l w yX4_trade (.code yX4_trade cX4_trade 10 (some .int)) { frames := 7, cells := 1, slots := 6, locals := 111 } 1 6 [.ref (ad_ w 0 0), .int x, .int y, .int z, .int u, .int v] a (.inr IS_) a) : Fn_ l w yL_trade (.codeWith yL_trade cL_trade 8 (some .int) [(0, 16, 19, 13), (0, 16, 23, 34)]) { frames := 8, cells := 1, slots := 6, locals := 140 } 1 6 [.ref (ad_ w 0 0), .int x, .int y, .int z, .int u, .int v, .ref (ad_ w 40 0)] a (.inl (some (.int 2))) a := by
  refine Fn_ofH hI (by decide +kernel) (Nat.le_of_ble_eq_true rfl) ?_
  intro zp ze zs zm zb zt zc ls cx hr hlk htb hW hS hl
  replace cx : Cx_ zp zs zm zc _ cL_trade 8 "MarginHouseLaw" w := cx
  replace hl : lv_has ls 8 [(0, .ref (ad_ w 0 0)), (1, .int x), (2, .int y), (3, .int z), (4, .int u), (5, .int v), (6, .ref (ad_ w 40 0))] := hl
  obtain ⟨H, hH⟩ : ∃ H, zs.heap = H := ⟨_, rfl⟩
  rw [hH] at hW
  have hS : Fr_ w zs.heap H [] := by rw [← hH]; exact hS
  obtain ⟨locs, hlocs⟩ : ∃ x : List Loc, x = [] := ⟨_, rfl⟩
  rw [← hlocs] at hS ⊢
  rw [show W zp l ze _ zs zm _ zb zt zc zs.heap locs 0 0 _ (F0 zm 0 ls []) ↔ W zp l ze _ zs zm _ zb zt zc H locs 0 0 _ (F0 zm 0 ls []) from by rw [hH]]
  refine lv_aload cx.1 cx.2.1 dL_trade_0 (lv_at hl 6 rfl) ?_
  refine lv_iconst (v := 0) cx.1 cx.2.1 dL_trade_2 (by decide) ?_
  refine lv_aload_n cx.1 cx.2.1 dL_trade_3 rfl (lv_at hl 0 rfl) ?_
  refine lv_iload_n cx.1 cx.2.1 dL_trade_4 rfl (lv_at hl 1 rfl) ?_
  refine lv_iload_n cx.1 cx.2.1 dL_trade_5 rfl (lv_at hl 2 rfl) ?_
  refine lv_iload_n cx.1 cx.2.1 dL_trade_6 rfl (lv_at hl 3 rfl) ?_
  refine lv_iload cx.1 cx.2.1 dL_trade_7 (lv_at hl 4 rfl) ?_
  refine lv_iload cx.1 cx.2.1 dL_trade_9 (lv_at hl 5 rfl) ?_
  refine cc_B (As := [.int x, .int y, .int z, .int u, .int v]) (rest := [.int 0, .ref (ad_ w 40 0)]) (k := 0) (i := 0) (T := TX4) cx hW hS hl (by decide) rfl rfl (hM) cw_X4_trade nw_211 nw_212 nw_210 rfl rfl (Nat.le_of_ble_eq_true rfl) rfl rfl ⟨Nat.le_of_ble_eq_true rfl, Nat.le_of_ble_eq_true rfl⟩ ⟨Nat.le_of_ble_eq_true rfl, Nat.le_of_ble_eq_true rfl⟩ dL_trade_11 (z := ⟨0, 16, 19, 13⟩) (x := ⟨0, 16, 23, 34⟩) (suf := []) htb (by decide) (by decide) (by decide) nw_113 nw_187 (fun H locs qx hW hS => ?_)
  refine lv_astore (lv' := [(7, .ref qx), (0, .ref (ad_ w 0 0)), (1, .int x), (2, .int y), (3, .int z), (4, .int u), (5, .int v), (6, .ref (ad_ w 40 0))]) cx.1 cx.2.1 dL_trade_23 hl (by decide) rfl (fun ls hl => ?_)
  refine lv_iconst (v := 2) cx.1 cx.2.1 dL_trade_25 (by decide) ?_
  exact cr_i cx hr hlk hW hS (Nat.le_of_ble_eq_true rfl) (Nat.le_of_ble_eq_true rfl) dL_trade_26 rfl rfl
set_option maxHeartbeats 4000000 in
set_option maxRecDepth 100000 in
theorem c_L_mark_r (l : Launch) {w : Gh_} (hI : In_ w) (a a1 : St_) (x : Int32) (y : Int32) (r : Int32) (hM : Fn_ l w yX4_mark (.code yX4_mark cX4_mark 6 (some .int)) { frames := 7, cells := 1, slots := 6, locals := 110 } 1 6 [.ref (ad_ w 0 0), .int x, .int y] a (.inl (some (.int r))) a1) : Fn_ l w yL_mark (.codeWith yL_mark cL_mark 5 (some .int) [(0, 10, 13, 13)]) { frames := 8, cells := 1, slots := 6, locals := 135 } 1 6 [.ref (ad_ w 0 0), .int x, .int y, .ref (ad_ w 40 0)] a (.inl (some (.int 0))) (sl_ a1 40 0 0 r.toInt64) := by
  refine Fn_ofH hI (by decide +kernel) (Nat.le_of_ble_eq_true rfl) ?_
  intro zp ze zs zm zb zt zc ls cx hr hlk htb hW hS hl
  replace cx : Cx_ zp zs zm zc _ cL_mark 5 "MarginHouseLaw" w := cx
  replace hl : lv_has ls 5 [(0, .ref (ad_ w 0 0)), (1, .int x), (2, .int y), (3, .ref (ad_ w 40 0))] := hl
  obtain ⟨H, hH⟩ : ∃ H, zs.heap = H := ⟨_, rfl⟩
  rw [hH] at hW
  have hS : Fr_ w zs.heap H [] := by rw [← hH]; exact hS
  obtain ⟨locs, hlocs⟩ : ∃ x : List Loc, x = [] := ⟨_, rfl⟩
  rw [← hlocs] at hS ⊢
  rw [show W zp l ze _ zs zm _ zb zt zc zs.heap locs 0 0 _ (F0 zm 0 ls []) ↔ W zp l ze _ zs zm _ zb zt zc H locs 0 0 _ (F0 zm 0 ls []) from by rw [hH]]
  refine lv_aload_n cx.1 cx.2.1 dL_mark_0 rfl (lv_at hl 3 rfl) ?_
  refine lv_iconst (v := 0) cx.1 cx.2.1 dL_mark_1 (by decide) ?_
  refine lv_aload_n cx.1 cx.2.1 dL_mark_2 rfl (lv_at hl 0 rfl) ?_
  refine lv_iload_n cx.1 cx.2.1 dL_mark_3 rfl (lv_at hl 1 rfl) ?_
  refine lv_iload_n cx.1 cx.2.1 dL_mark_4 rfl (lv_at hl 2 rfl) ?_
  refine ck_V (v := some (.int r)) (As := [.int x, .int y]) (rest := [.int 0, .ref (ad_ w 40 0)]) (k := 0) (i := 0) (T := TX4) cx hW hS hl (by decide) rfl rfl (hM) cw_X4_mark nw_222 nw_223 nw_221 rfl rfl (Nat.le_of_ble_eq_true rfl) rfl rfl ⟨Nat.le_of_ble_eq_true rfl, Nat.le_of_ble_eq_true rfl⟩ ⟨Nat.le_of_ble_eq_true rfl, Nat.le_of_ble_eq_true rfl⟩ dL_mark_5 (fun H locs hW hS => ?_)
  refine W.eq (g2 := F0 zm 8 ls [.int r, .int 0, .ref (ad_ w 40 0)]) rfl ?_
  refine lv_i2l (v := r.toInt64) cx.1 cx.2.1 dL_mark_8 rfl ?_
  refine as_40 (j := 0) cx hW hS (by decide) (by decide +kernel) (by decide) dL_mark_9 (fun H locs hW hS => ?_)
  refine lv_goto (tgt := 17) cx.1 cx.2.1 dL_mark_10 (by decide) ?_
  refine lv_iconst (v := 0) cx.1 cx.2.1 dL_mark_17 (by decide) ?_
  exact cr_i cx hr hlk hW hS (Nat.le_of_ble_eq_true rfl) (Nat.le_of_ble_eq_true rfl) dL_mark_18 rfl rfl
set_option maxHeartbeats 4000000 in
set_option maxRecDepth 100000 in
theorem c_L_mark_a (l : Launch) {w : Gh_} (hI : In_ w) (a : St_) (x : Int32) (y : Int32) (hM : Fn_ l w yX4_mark (.code yX4_mark cX4_mark 6 (some .int)) { frames := 7, cells := 1, slots := 6, locals := 110 } 1 6 [.ref (ad_ w 0 0), .int x, .int y] a (.inr IA_) a) : Fn_ l w yL_mark (.codeWith yL_mark cL_mark 5 (some .int) [(0, 10, 13, 13)]) { frames := 8, cells := 1, slots := 6, locals := 135 } 1 6 [.ref (ad_ w 0 0), .int x, .int y, .ref (ad_ w 40 0)] a (.inl (some (.int 1))) a := by
  refine Fn_ofH hI (by decide +kernel) (Nat.le_of_ble_eq_true rfl) ?_
  intro zp ze zs zm zb zt zc ls cx hr hlk htb hW hS hl
  replace cx : Cx_ zp zs zm zc _ cL_mark 5 "MarginHouseLaw" w := cx
  replace hl : lv_has ls 5 [(0, .ref (ad_ w 0 0)), (1, .int x), (2, .int y), (3, .ref (ad_ w 40 0))] := hl
  obtain ⟨H, hH⟩ : ∃ H, zs.heap = H := ⟨_, rfl⟩
  rw [hH] at hW
  have hS : Fr_ w zs.heap H [] := by rw [← hH]; exact hS
  obtain ⟨locs, hlocs⟩ : ∃ x : List Loc, x = [] := ⟨_, rfl⟩
  rw [← hlocs] at hS ⊢
  rw [show W zp l ze _ zs zm _ zb zt zc zs.heap locs 0 0 _ (F0 zm 0 ls []) ↔ W zp l ze _ zs zm _ zb zt zc H locs 0 0 _ (F0 zm 0 ls []) from by rw [hH]]
  refine lv_aload_n cx.1 cx.2.1 dL_mark_0 rfl (lv_at hl 3 rfl) ?_
  refine lv_iconst (v := 0) cx.1 cx.2.1 dL_mark_1 (by decide) ?_
  refine lv_aload_n cx.1 cx.2.1 dL_mark_2 rfl (lv_at hl 0 rfl) ?_
  refine lv_iload_n cx.1 cx.2.1 dL_mark_3 rfl (lv_at hl 1 rfl) ?_
  refine lv_iload_n cx.1 cx.2.1 dL_mark_4 rfl (lv_at hl 2 rfl) ?_
  refine cc_A (As := [.int x, .int y]) (rest := [.int 0, .ref (ad_ w 40 0)]) (k := 0) (i := 0) (T := TX4) cx hW hS hl (by decide) rfl rfl (hM) cw_X4_mark nw_222 nw_223 nw_221 rfl rfl (Nat.le_of_ble_eq_true rfl) rfl rfl ⟨Nat.le_of_ble_eq_true rfl, Nat.le_of_ble_eq_true rfl⟩ ⟨Nat.le_of_ble_eq_true rfl, Nat.le_of_ble_eq_true rfl⟩ dL_mark_5 (x := ⟨0, 10, 13, 13⟩) (suf := []) htb (by decide) (by decide) nw_113 (fun H locs qx hW hS => ?_)
  refine lv_astore (lv' := [(4, .ref qx), (0, .ref (ad_ w 0 0)), (1, .int x), (2, .int y), (3, .ref (ad_ w 40 0))]) cx.1 cx.2.1 dL_mark_13 hl (by decide) rfl (fun ls hl => ?_)
  refine lv_iconst (v := 1) cx.1 cx.2.1 dL_mark_15 (by decide) ?_
  exact cr_i cx hr hlk hW hS (Nat.le_of_ble_eq_true rfl) (Nat.le_of_ble_eq_true rfl) dL_mark_16 rfl rfl
set_option maxHeartbeats 4000000 in
set_option maxRecDepth 100000 in
theorem c_L_margin_r (l : Launch) {w : Gh_} (hI : In_ w) (a a1 : St_) (x : Int32) (r : Int64) (hM : Fn_ l w yX4_margin (.code yX4_margin cX4_margin 2 (some .long)) { frames := 7, cells := 1, slots := 6, locals := 110 } 1 6 [.ref (ad_ w 0 0), .int x] a (.inl (some (.long r))) a1) : Fn_ l w yL_margin (.codeWith yL_margin cL_margin 4 (some .int) [(0, 8, 11, 13)]) { frames := 8, cells := 1, slots := 6, locals := 131 } 1 6 [.ref (ad_ w 0 0), .int x, .ref (ad_ w 40 0)] a (.inl (some (.int 0))) (sl_ a1 40 0 0 r) := by
  refine Fn_ofH hI (by decide +kernel) (Nat.le_of_ble_eq_true rfl) ?_
  intro zp ze zs zm zb zt zc ls cx hr hlk htb hW hS hl
  replace cx : Cx_ zp zs zm zc _ cL_margin 4 "MarginHouseLaw" w := cx
  replace hl : lv_has ls 4 [(0, .ref (ad_ w 0 0)), (1, .int x), (2, .ref (ad_ w 40 0))] := hl
  obtain ⟨H, hH⟩ : ∃ H, zs.heap = H := ⟨_, rfl⟩
  rw [hH] at hW
  have hS : Fr_ w zs.heap H [] := by rw [← hH]; exact hS
  obtain ⟨locs, hlocs⟩ : ∃ x : List Loc, x = [] := ⟨_, rfl⟩
  rw [← hlocs] at hS ⊢
  rw [show W zp l ze _ zs zm _ zb zt zc zs.heap locs 0 0 _ (F0 zm 0 ls []) ↔ W zp l ze _ zs zm _ zb zt zc H locs 0 0 _ (F0 zm 0 ls []) from by rw [hH]]
  refine lv_aload_n cx.1 cx.2.1 dL_margin_0 rfl (lv_at hl 2 rfl) ?_
  refine lv_iconst (v := 0) cx.1 cx.2.1 dL_margin_1 (by decide) ?_
  refine lv_aload_n cx.1 cx.2.1 dL_margin_2 rfl (lv_at hl 0 rfl) ?_
  refine lv_iload_n cx.1 cx.2.1 dL_margin_3 rfl (lv_at hl 1 rfl) ?_
  refine ck_V (v := some (.long r)) (As := [.int x]) (rest := [.int 0, .ref (ad_ w 40 0)]) (k := 0) (i := 0) (T := TX4) cx hW hS hl (by decide) rfl rfl (hM) cw_X4_margin nw_232 nw_233 nw_231 rfl rfl (Nat.le_of_ble_eq_true rfl) rfl rfl ⟨Nat.le_of_ble_eq_true rfl, Nat.le_of_ble_eq_true rfl⟩ ⟨Nat.le_of_ble_eq_true rfl, Nat.le_of_ble_eq_true rfl⟩ dL_margin_4 (fun H locs hW hS => ?_)
  refine W.eq (g2 := F0 zm 7 ls [.long r, .int 0, .ref (ad_ w 40 0)]) rfl ?_
  refine as_40 (j := 0) cx hW hS (by decide) (by decide +kernel) (by decide) dL_margin_7 (fun H locs hW hS => ?_)
  refine lv_goto (tgt := 14) cx.1 cx.2.1 dL_margin_8 (by decide) ?_
  refine lv_iconst (v := 0) cx.1 cx.2.1 dL_margin_14 (by decide) ?_
  exact cr_i cx hr hlk hW hS (Nat.le_of_ble_eq_true rfl) (Nat.le_of_ble_eq_true rfl) dL_margin_15 rfl rfl
set_option maxHeartbeats 4000000 in
set_option maxRecDepth 100000 in
theorem c_L_margin_a (l : Launch) {w : Gh_} (hI : In_ w) (a : St_) (x : Int32) (hM : Fn_ l w yX4_margin (.code yX4_margin cX4_margin 2 (some .long)) { frames := 7, cells := 1, slots := 6, locals := 110 } 1 6 [.ref (ad_ w 0 0), .int x] a (.inr IA_) a) : Fn_ l w yL_margin (.codeWith yL_margin cL_margin 4 (some .int) [(0, 8, 11, 13)]) { frames := 8, cells := 1, slots := 6, locals := 131 } 1 6 [.ref (ad_ w 0 0), .int x, .ref (ad_ w 40 0)] a (.inl (some (.int 1))) a := by
  refine Fn_ofH hI (by decide +kernel) (Nat.le_of_ble_eq_true rfl) ?_
  intro zp ze zs zm zb zt zc ls cx hr hlk htb hW hS hl
  replace cx : Cx_ zp zs zm zc _ cL_margin 4 "MarginHouseLaw" w := cx
  replace hl : lv_has ls 4 [(0, .ref (ad_ w 0 0)), (1, .int x), (2, .ref (ad_ w 40 0))] := hl
  obtain ⟨H, hH⟩ : ∃ H, zs.heap = H := ⟨_, rfl⟩
  rw [hH] at hW
  have hS : Fr_ w zs.heap H [] := by rw [← hH]; exact hS
  obtain ⟨locs, hlocs⟩ : ∃ x : List Loc, x = [] := ⟨_, rfl⟩
  rw [← hlocs] at hS ⊢
  rw [show W zp l ze _ zs zm _ zb zt zc zs.heap locs 0 0 _ (F0 zm 0 ls []) ↔ W zp l ze _ zs zm _ zb zt zc H locs 0 0 _ (F0 zm 0 ls []) from by rw [hH]]
  refine lv_aload_n cx.1 cx.2.1 dL_margin_0 rfl (lv_at hl 2 rfl) ?_
  refine lv_iconst (v := 0) cx.1 cx.2.1 dL_margin_1 (by decide) ?_
  refine lv_aload_n cx.1 cx.2.1 dL_margin_2 rfl (lv_at hl 0 rfl) ?_
  refine lv_iload_n cx.1 cx.2.1 dL_margin_3 rfl (lv_at hl 1 rfl) ?_
  refine cc_A (As := [.int x]) (rest := [.int 0, .ref (ad_ w 40 0)]) (k := 0) (i := 0) (T := TX4) cx hW hS hl (by decide) rfl rfl (hM) cw_X4_margin nw_232 nw_233 nw_231 rfl rfl (Nat.le_of_ble_eq_true rfl) rfl rfl ⟨Nat.le_of_ble_eq_true rfl, Nat.le_of_ble_eq_true rfl⟩ ⟨Nat.le_of_ble_eq_true rfl, Nat.le_of_ble_eq_true rfl⟩ dL_margin_4 (x := ⟨0, 8, 11, 13⟩) (suf := []) htb (by decide) (by decide) nw_113 (fun H locs qx hW hS => ?_)
  refine lv_astore_n (lv' := [(3, .ref qx), (0, .ref (ad_ w 0 0)), (1, .int x), (2, .ref (ad_ w 40 0))]) cx.1 cx.2.1 dL_margin_11 rfl hl (by decide) rfl (fun ls hl => ?_)
  refine lv_iconst (v := 1) cx.1 cx.2.1 dL_margin_12 (by decide) ?_
  exact cr_i cx hr hlk hW hS (Nat.le_of_ble_eq_true rfl) (Nat.le_of_ble_eq_true rfl) dL_margin_13 rfl rfl
set_option maxHeartbeats 4000000 in
set_option maxRecDepth 100000 in
theorem c_L_called_r (l : Launch) {w : Gh_} (hI : In_ w) (a a1 : St_) (x : Int32) (r : Int64) (hM : Fn_ l w yX4_called (.code yX4_called cX4_called 2 (some .long)) { frames := 7, cells := 1, slots := 6, locals := 110 } 1 6 [.ref (ad_ w 0 0), .int x] a (.inl (some (.long r))) a1) : Fn_ l w yL_called (.codeWith yL_called cL_called 4 (some .int) [(0, 8, 11, 13)]) { frames := 8, cells := 1, slots := 6, locals := 131 } 1 6 [.ref (ad_ w 0 0), .int x, .ref (ad_ w 40 0)] a (.inl (some (.int 0))) (sl_ a1 40 0 0 r) := by
  refine Fn_ofH hI (by decide +kernel) (Nat.le_of_ble_eq_true rfl) ?_
  intro zp ze zs zm zb zt zc ls cx hr hlk htb hW hS hl
  replace cx : Cx_ zp zs zm zc _ cL_called 4 "MarginHouseLaw" w := cx
  replace hl : lv_has ls 4 [(0, .ref (ad_ w 0 0)), (1, .int x), (2, .ref (ad_ w 40 0))] := hl
  obtain ⟨H, hH⟩ : ∃ H, zs.heap = H := ⟨_, rfl⟩
  rw [hH] at hW
  have hS : Fr_ w zs.heap H [] := by rw [← hH]; exact hS
  obtain ⟨locs, hlocs⟩ : ∃ x : List Loc, x = [] := ⟨_, rfl⟩
  rw [← hlocs] at hS ⊢
  rw [show W zp l ze _ zs zm _ zb zt zc zs.heap locs 0 0 _ (F0 zm 0 ls []) ↔ W zp l ze _ zs zm _ zb zt zc H locs 0 0 _ (F0 zm 0 ls []) from by rw [hH]]
  refine lv_aload_n cx.1 cx.2.1 dL_called_0 rfl (lv_at hl 2 rfl) ?_
  refine lv_iconst (v := 0) cx.1 cx.2.1 dL_called_1 (by decide) ?_
  refine lv_aload_n cx.1 cx.2.1 dL_called_2 rfl (lv_at hl 0 rfl) ?_
  refine lv_iload_n cx.1 cx.2.1 dL_called_3 rfl (lv_at hl 1 rfl) ?_
  refine ck_V (v := some (.long r)) (As := [.int x]) (rest := [.int 0, .ref (ad_ w 40 0)]) (k := 0) (i := 0) (T := TX4) cx hW hS hl (by decide) rfl rfl (hM) cw_X4_called nw_239 nw_240 nw_238 rfl rfl (Nat.le_of_ble_eq_true rfl) rfl rfl ⟨Nat.le_of_ble_eq_true rfl, Nat.le_of_ble_eq_true rfl⟩ ⟨Nat.le_of_ble_eq_true rfl, Nat.le_of_ble_eq_true rfl⟩ dL_called_4 (fun H locs hW hS => ?_)
  refine W.eq (g2 := F0 zm 7 ls [.long r, .int 0, .ref (ad_ w 40 0)]) rfl ?_
  refine as_40 (j := 0) cx hW hS (by decide) (by decide +kernel) (by decide) dL_called_7 (fun H locs hW hS => ?_)
  refine lv_goto (tgt := 14) cx.1 cx.2.1 dL_called_8 (by decide) ?_
  refine lv_iconst (v := 0) cx.1 cx.2.1 dL_called_14 (by decide) ?_
  exact cr_i cx hr hlk hW hS (Nat.le_of_ble_eq_true rfl) (Nat.le_of_ble_eq_true rfl) dL_called_15 rfl rfl
set_option maxHeartbeats 4000000 in
set_option maxRecDepth 100000 in
theorem c_L_called_a (l : Launch) {w : Gh_} (hI : In_ w) (a : St_) (x : Int32) (hM : Fn_ l w yX4_called (.code yX4_called cX4_called 2 (some .long)) { frames := 7, cells := 1, slots := 6, locals := 110 } 1 6 [.ref (ad_ w 0 0), .int x] a (.inr IA_) a) : Fn_ l w yL_called (.codeWith yL_called cL_called 4 (some .int) [(0, 8, 11, 13)]) { frames := 8, cells := 1, slots := 6, locals := 131 } 1 6 [.ref (ad_ w 0 0), .int x, .ref (ad_ w 40 0)] a (.inl (some (.int 1))) a := by
  refine Fn_ofH hI (by decide +kernel) (Nat.le_of_ble_eq_true rfl) ?_
  intro zp ze zs zm zb zt zc ls cx hr hlk htb hW hS hl
  replace cx : Cx_ zp zs zm zc _ cL_called 4 "MarginHouseLaw" w := cx
  replace hl : lv_has ls 4 [(0, .ref (ad_ w 0 0)), (1, .int x), (2, .ref (ad_ w 40 0))] := hl
  obtain ⟨H, hH⟩ : ∃ H, zs.heap = H := ⟨_, rfl⟩
  rw [hH] at hW
  have hS : Fr_ w zs.heap H [] := by rw [← hH]; exact hS
  obtain ⟨locs, hlocs⟩ : ∃ x : List Loc, x = [] := ⟨_, rfl⟩
  rw [← hlocs] at hS ⊢
  rw [show W zp l ze _ zs zm _ zb zt zc zs.heap locs 0 0 _ (F0 zm 0 ls []) ↔ W zp l ze _ zs zm _ zb zt zc H locs 0 0 _ (F0 zm 0 ls []) from by rw [hH]]
  refine lv_aload_n cx.1 cx.2.1 dL_called_0 rfl (lv_at hl 2 rfl) ?_
  refine lv_iconst (v := 0) cx.1 cx.2.1 dL_called_1 (by decide) ?_
  refine lv_aload_n cx.1 cx.2.1 dL_called_2 rfl (lv_at hl 0 rfl) ?_
  refine lv_iload_n cx.1 cx.2.1 dL_called_3 rfl (lv_at hl 1 rfl) ?_
  refine cc_A (As := [.int x]) (rest := [.int 0, .ref (ad_ w 40 0)]) (k := 0) (i := 0) (T := TX4) cx hW hS hl (by decide) rfl rfl (hM) cw_X4_called nw_239 nw_240 nw_238 rfl rfl (Nat.le_of_ble_eq_true rfl) rfl rfl ⟨Nat.le_of_ble_eq_true rfl, Nat.le_of_ble_eq_true rfl⟩ ⟨Nat.le_of_ble_eq_true rfl, Nat.le_of_ble_eq_true rfl⟩ dL_called_4 (x := ⟨0, 8, 11, 13⟩) (suf := []) htb (by decide) (by decide) nw_113 (fun H locs qx hW hS => ?_)
  refine lv_astore_n (lv' := [(3, .ref qx), (0, .ref (ad_ w 0 0)), (1, .int x), (2, .ref (ad_ w 40 0))]) cx.1 cx.2.1 dL_called_11 rfl hl (by decide) rfl (fun ls hl => ?_)
  refine lv_iconst (v := 1) cx.1 cx.2.1 dL_called_12 (by decide) ?_
  exact cr_i cx hr hlk hW hS (Nat.le_of_ble_eq_true rfl) (Nat.le_of_ble_eq_true rfl) dL_called_13 rfl rfl
set_option maxHeartbeats 4000000 in
set_option maxRecDepth 100000 in
theorem c_L_closeOut_r (l : Launch) {w : Gh_} (hI : In_ w) (a a1 : St_) (x : Int32) (r : Int64) (hM : Fn_ l w yX4_closeOut (.code yX4_closeOut cX4_closeOut 2 (some .long)) { frames := 7, cells := 1, slots := 6, locals := 128 } 1 6 [.ref (ad_ w 0 0), .int x] a (.inl (some (.long r))) a1) : Fn_ l w yL_closeOut (.codeWith yL_closeOut cL_closeOut 4 (some .int) [(0, 8, 11, 13), (0, 8, 14, 34)]) { frames := 8, cells := 1, slots := 6, locals := 149 } 1 6 [.ref (ad_ w 0 0), .int x, .ref (ad_ w 40 0)] a (.inl (some (.int 0))) (sl_ a1 40 0 0 r) := by
  refine Fn_ofH hI (by decide +kernel) (Nat.le_of_ble_eq_true rfl) ?_
  intro zp ze zs zm zb zt zc ls cx hr hlk htb hW hS hl
  replace cx : Cx_ zp zs zm zc _ cL_closeOut 4 "MarginHouseLaw" w := cx
  replace hl : lv_has ls 4 [(0, .ref (ad_ w 0 0)), (1, .int x), (2, .ref (ad_ w 40 0))] := hl
  obtain ⟨H, hH⟩ : ∃ H, zs.heap = H := ⟨_, rfl⟩
  rw [hH] at hW
  have hS : Fr_ w zs.heap H [] := by rw [← hH]; exact hS
  obtain ⟨locs, hlocs⟩ : ∃ x : List Loc, x = [] := ⟨_, rfl⟩
  rw [← hlocs] at hS ⊢
  rw [show W zp l ze _ zs zm _ zb zt zc zs.heap locs 0 0 _ (F0 zm 0 ls []) ↔ W zp l ze _ zs zm _ zb zt zc H locs 0 0 _ (F0 zm 0 ls []) from by rw [hH]]
  refine lv_aload_n cx.1 cx.2.1 dL_closeOut_0 rfl (lv_at hl 2 rfl) ?_
  refine lv_iconst (v := 0) cx.1 cx.2.1 dL_closeOut_1 (by decide) ?_
  refine lv_aload_n cx.1 cx.2.1 dL_closeOut_2 rfl (lv_at hl 0 rfl) ?_
  refine lv_iload_n cx.1 cx.2.1 dL_closeOut_3 rfl (lv_at hl 1 rfl) ?_
  refine ck_V (v := some (.long r)) (As := [.int x]) (rest := [.int 0, .ref (ad_ w 40 0)]) (k := 0) (i := 0) (T := TX4) cx hW hS hl (by decide) rfl rfl (hM) cw_X4_closeOut nw_246 nw_247 nw_245 rfl rfl (Nat.le_of_ble_eq_true rfl) rfl rfl ⟨Nat.le_of_ble_eq_true rfl, Nat.le_of_ble_eq_true rfl⟩ ⟨Nat.le_of_ble_eq_true rfl, Nat.le_of_ble_eq_true rfl⟩ dL_closeOut_4 (fun H locs hW hS => ?_)
  refine W.eq (g2 := F0 zm 7 ls [.long r, .int 0, .ref (ad_ w 40 0)]) rfl ?_
  refine as_40 (j := 0) cx hW hS (by decide) (by decide +kernel) (by decide) dL_closeOut_7 (fun H locs hW hS => ?_)
  refine lv_goto (tgt := 17) cx.1 cx.2.1 dL_closeOut_8 (by decide) ?_
  refine lv_iconst (v := 0) cx.1 cx.2.1 dL_closeOut_17 (by decide) ?_
  exact cr_i cx hr hlk hW hS (Nat.le_of_ble_eq_true rfl) (Nat.le_of_ble_eq_true rfl) dL_closeOut_18 rfl rfl
set_option maxHeartbeats 4000000 in
set_option maxRecDepth 100000 in
theorem c_L_closeOut_a (l : Launch) {w : Gh_} (hI : In_ w) (a : St_) (x : Int32) (hM : Fn_ l w yX4_closeOut (.code yX4_closeOut cX4_closeOut 2 (some .long)) { frames := 7, cells := 1, slots := 6, locals := 128 } 1 6 [.ref (ad_ w 0 0), .int x] a (.inr IA_) a) : Fn_ l w yL_closeOut (.codeWith yL_closeOut cL_closeOut 4 (some .int) [(0, 8, 11, 13), (0, 8, 14, 34)]) { frames := 8, cells := 1, slots := 6, locals := 149 } 1 6 [.ref (ad_ w 0 0), .int x, .ref (ad_ w 40 0)] a (.inl (some (.int 1))) a := by
  refine Fn_ofH hI (by decide +kernel) (Nat.le_of_ble_eq_true rfl) ?_
  intro zp ze zs zm zb zt zc ls cx hr hlk htb hW hS hl
  replace cx : Cx_ zp zs zm zc _ cL_closeOut 4 "MarginHouseLaw" w := cx
  replace hl : lv_has ls 4 [(0, .ref (ad_ w 0 0)), (1, .int x), (2, .ref (ad_ w 40 0))] := hl
  obtain ⟨H, hH⟩ : ∃ H, zs.heap = H := ⟨_, rfl⟩
  rw [hH] at hW
  have hS : Fr_ w zs.heap H [] := by rw [← hH]; exact hS
  obtain ⟨locs, hlocs⟩ : ∃ x : List Loc, x = [] := ⟨_, rfl⟩
  rw [← hlocs] at hS ⊢
  rw [show W zp l ze _ zs zm _ zb zt zc zs.heap locs 0 0 _ (F0 zm 0 ls []) ↔ W zp l ze _ zs zm _ zb zt zc H locs 0 0 _ (F0 zm 0 ls []) from by rw [hH]]
  refine lv_aload_n cx.1 cx.2.1 dL_closeOut_0 rfl (lv_at hl 2 rfl) ?_
  refine lv_iconst (v := 0) cx.1 cx.2.1 dL_closeOut_1 (by decide) ?_
  refine lv_aload_n cx.1 cx.2.1 dL_closeOut_2 rfl (lv_at hl 0 rfl) ?_
  refine lv_iload_n cx.1 cx.2.1 dL_closeOut_3 rfl (lv_at hl 1 rfl) ?_
  refine cc_A (As := [.int x]) (rest := [.int 0, .ref (ad_ w 40 0)]) (k := 0) (i := 0) (T := TX4) cx hW hS hl (by decide) rfl rfl (hM) cw_X4_closeOut nw_246 nw_247 nw_245 rfl rfl (Nat.le_of_ble_eq_true rfl) rfl rfl ⟨Nat.le_of_ble_eq_true rfl, Nat.le_of_ble_eq_true rfl⟩ ⟨Nat.le_of_ble_eq_true rfl, Nat.le_of_ble_eq_true rfl⟩ dL_closeOut_4 (x := ⟨0, 8, 11, 13⟩) (suf := [⟨0, 8, 14, 34⟩]) htb (by decide) (by decide) nw_113 (fun H locs qx hW hS => ?_)
  refine lv_astore_n (lv' := [(3, .ref qx), (0, .ref (ad_ w 0 0)), (1, .int x), (2, .ref (ad_ w 40 0))]) cx.1 cx.2.1 dL_closeOut_11 rfl hl (by decide) rfl (fun ls hl => ?_)
  refine lv_iconst (v := 1) cx.1 cx.2.1 dL_closeOut_12 (by decide) ?_
  exact cr_i cx hr hlk hW hS (Nat.le_of_ble_eq_true rfl) (Nat.le_of_ble_eq_true rfl) dL_closeOut_13 rfl rfl
set_option maxHeartbeats 4000000 in
set_option maxRecDepth 100000 in
theorem c_L_closeOut_s (l : Launch) {w : Gh_} (hI : In_ w) (a : St_) (x : Int32) (hM : Fn_ l w yX4_closeOut (.code yX4_closeOut cX4_closeOut 2 (some .long)) { frames := 7, cells := 1, slots := 6, locals := 128 } 1 6 [.ref (ad_ w 0 0), .int x] a (.inr IS_) a) : Fn_ l w yL_closeOut (.codeWith yL_closeOut cL_closeOut 4 (some .int) [(0, 8, 11, 13), (0, 8, 14, 34)]) { frames := 8, cells := 1, slots := 6, locals := 149 } 1 6 [.ref (ad_ w 0 0), .int x, .ref (ad_ w 40 0)] a (.inl (some (.int 2))) a := by
  refine Fn_ofH hI (by decide +kernel) (Nat.le_of_ble_eq_true rfl) ?_
  intro zp ze zs zm zb zt zc ls cx hr hlk htb hW hS hl
  replace cx : Cx_ zp zs zm zc _ cL_closeOut 4 "MarginHouseLaw" w := cx
  replace hl : lv_has ls 4 [(0, .ref (ad_ w 0 0)), (1, .int x), (2, .ref (ad_ w 40 0))] := hl
  obtain ⟨H, hH⟩ : ∃ H, zs.heap = H := ⟨_, rfl⟩
  rw [hH] at hW
  have hS : Fr_ w zs.heap H [] := by rw [← hH]; exact hS
  obtain ⟨locs, hlocs⟩ : ∃ x : List Loc, x = [] := ⟨_, rfl⟩
  rw [← hlocs] at hS ⊢
  rw [show W zp l ze _ zs zm _ zb zt zc zs.heap locs 0 0 _ (F0 zm 0 ls []) ↔ W zp l ze _ zs zm _ zb zt zc H locs 0 0 _ (F0 zm 0 ls []) from by rw [hH]]
  refine lv_aload_n cx.1 cx.2.1 dL_closeOut_0 rfl (lv_at hl 2 rfl) ?_
  refine lv_iconst (v := 0) cx.1 cx.2.1 dL_closeOut_1 (by decide) ?_
  refine lv_aload_n cx.1 cx.2.1 dL_closeOut_2 rfl (lv_at hl 0 rfl) ?_
  refine lv_iload_n cx.1 cx.2.1 dL_closeOut_3 rfl (lv_at hl 1 rfl) ?_
  refine cc_B (As := [.int x]) (rest := [.int 0, .ref (ad_ w 40 0)]) (k := 0) (i := 0) (T := TX4) cx hW hS hl (by decide) rfl rfl (hM) cw_X4_closeOut nw_246 nw_247 nw_245 rfl rfl (Nat.le_of_ble_eq_true rfl) rfl rfl ⟨Nat.le_of_ble_eq_true rfl, Nat.le_of_ble_eq_true rfl⟩ ⟨Nat.le_of_ble_eq_true rfl, Nat.le_of_ble_eq_true rfl⟩ dL_closeOut_4 (z := ⟨0, 8, 11, 13⟩) (x := ⟨0, 8, 14, 34⟩) (suf := []) htb (by decide) (by decide) (by decide) nw_113 nw_187 (fun H locs qx hW hS => ?_)
  refine lv_astore_n (lv' := [(3, .ref qx), (0, .ref (ad_ w 0 0)), (1, .int x), (2, .ref (ad_ w 40 0))]) cx.1 cx.2.1 dL_closeOut_14 rfl hl (by decide) rfl (fun ls hl => ?_)
  refine lv_iconst (v := 2) cx.1 cx.2.1 dL_closeOut_15 (by decide) ?_
  exact cr_i cx hr hlk hW hS (Nat.le_of_ble_eq_true rfl) (Nat.le_of_ble_eq_true rfl) dL_closeOut_16 rfl rfl
set_option maxHeartbeats 4000000 in
set_option maxRecDepth 100000 in
theorem c_L_told_r (l : Launch) {w : Gh_} (hI : In_ w) (a a1 : St_) (x : Int32) (y : Int32) (r : Int64) (hM : Fn_ l w yX4_told (.code yX4_told cX4_told 3 (some .long)) { frames := 7, cells := 1, slots := 6, locals := 110 } 1 6 [.ref (ad_ w 0 0), .int x, .int y] a (.inl (some (.long r))) a1) : Fn_ l w yL_told (.codeWith yL_told cL_told 5 (some .int) [(0, 9, 12, 13)]) { frames := 8, cells := 1, slots := 6, locals := 132 } 1 6 [.ref (ad_ w 0 0), .int x, .int y, .ref (ad_ w 40 0)] a (.inl (some (.int 0))) (sl_ a1 40 0 0 r) := by
  refine Fn_ofH hI (by decide +kernel) (Nat.le_of_ble_eq_true rfl) ?_
  intro zp ze zs zm zb zt zc ls cx hr hlk htb hW hS hl
  replace cx : Cx_ zp zs zm zc _ cL_told 5 "MarginHouseLaw" w := cx
  replace hl : lv_has ls 5 [(0, .ref (ad_ w 0 0)), (1, .int x), (2, .int y), (3, .ref (ad_ w 40 0))] := hl
  obtain ⟨H, hH⟩ : ∃ H, zs.heap = H := ⟨_, rfl⟩
  rw [hH] at hW
  have hS : Fr_ w zs.heap H [] := by rw [← hH]; exact hS
  obtain ⟨locs, hlocs⟩ : ∃ x : List Loc, x = [] := ⟨_, rfl⟩
  rw [← hlocs] at hS ⊢
  rw [show W zp l ze _ zs zm _ zb zt zc zs.heap locs 0 0 _ (F0 zm 0 ls []) ↔ W zp l ze _ zs zm _ zb zt zc H locs 0 0 _ (F0 zm 0 ls []) from by rw [hH]]
  refine lv_aload_n cx.1 cx.2.1 dL_told_0 rfl (lv_at hl 3 rfl) ?_
  refine lv_iconst (v := 0) cx.1 cx.2.1 dL_told_1 (by decide) ?_
  refine lv_aload_n cx.1 cx.2.1 dL_told_2 rfl (lv_at hl 0 rfl) ?_
  refine lv_iload_n cx.1 cx.2.1 dL_told_3 rfl (lv_at hl 1 rfl) ?_
  refine lv_iload_n cx.1 cx.2.1 dL_told_4 rfl (lv_at hl 2 rfl) ?_
  refine ck_V (v := some (.long r)) (As := [.int x, .int y]) (rest := [.int 0, .ref (ad_ w 40 0)]) (k := 0) (i := 0) (T := TX4) cx hW hS hl (by decide) rfl rfl (hM) cw_X4_told nw_327 nw_328 nw_326 rfl rfl (Nat.le_of_ble_eq_true rfl) rfl rfl ⟨Nat.le_of_ble_eq_true rfl, Nat.le_of_ble_eq_true rfl⟩ ⟨Nat.le_of_ble_eq_true rfl, Nat.le_of_ble_eq_true rfl⟩ dL_told_5 (fun H locs hW hS => ?_)
  refine W.eq (g2 := F0 zm 8 ls [.long r, .int 0, .ref (ad_ w 40 0)]) rfl ?_
  refine as_40 (j := 0) cx hW hS (by decide) (by decide +kernel) (by decide) dL_told_8 (fun H locs hW hS => ?_)
  refine lv_goto (tgt := 16) cx.1 cx.2.1 dL_told_9 (by decide) ?_
  refine lv_iconst (v := 0) cx.1 cx.2.1 dL_told_16 (by decide) ?_
  exact cr_i cx hr hlk hW hS (Nat.le_of_ble_eq_true rfl) (Nat.le_of_ble_eq_true rfl) dL_told_17 rfl rfl
set_option maxHeartbeats 4000000 in
set_option maxRecDepth 100000 in
theorem c_L_told_a (l : Launch) {w : Gh_} (hI : In_ w) (a : St_) (x : Int32) (y : Int32) (hM : Fn_ l w yX4_told (.code yX4_told cX4_told 3 (some .long)) { frames := 7, cells := 1, slots := 6, locals := 110 } 1 6 [.ref (ad_ w 0 0), .int x, .int y] a (.inr IA_) a) : Fn_ l w yL_told (.codeWith yL_told cL_told 5 (some .int) [(0, 9, 12, 13)]) { frames := 8, cells := 1, slots := 6, locals := 132 } 1 6 [.ref (ad_ w 0 0), .int x, .int y, .ref (ad_ w 40 0)] a (.inl (some (.int 1))) a := by
  refine Fn_ofH hI (by decide +kernel) (Nat.le_of_ble_eq_true rfl) ?_
  intro zp ze zs zm zb zt zc ls cx hr hlk htb hW hS hl
  replace cx : Cx_ zp zs zm zc _ cL_told 5 "MarginHouseLaw" w := cx
  replace hl : lv_has ls 5 [(0, .ref (ad_ w 0 0)), (1, .int x), (2, .int y), (3, .ref (ad_ w 40 0))] := hl
  obtain ⟨H, hH⟩ : ∃ H, zs.heap = H := ⟨_, rfl⟩
  rw [hH] at hW
  have hS : Fr_ w zs.heap H [] := by rw [← hH]; exact hS
  obtain ⟨locs, hlocs⟩ : ∃ x : List Loc, x = [] := ⟨_, rfl⟩
  rw [← hlocs] at hS ⊢
  rw [show W zp l ze _ zs zm _ zb zt zc zs.heap locs 0 0 _ (F0 zm 0 ls []) ↔ W zp l ze _ zs zm _ zb zt zc H locs 0 0 _ (F0 zm 0 ls []) from by rw [hH]]
  refine lv_aload_n cx.1 cx.2.1 dL_told_0 rfl (lv_at hl 3 rfl) ?_
  refine lv_iconst (v := 0) cx.1 cx.2.1 dL_told_1 (by decide) ?_
  refine lv_aload_n cx.1 cx.2.1 dL_told_2 rfl (lv_at hl 0 rfl) ?_
  refine lv_iload_n cx.1 cx.2.1 dL_told_3 rfl (lv_at hl 1 rfl) ?_
  refine lv_iload_n cx.1 cx.2.1 dL_told_4 rfl (lv_at hl 2 rfl) ?_
  refine cc_A (As := [.int x, .int y]) (rest := [.int 0, .ref (ad_ w 40 0)]) (k := 0) (i := 0) (T := TX4) cx hW hS hl (by decide) rfl rfl (hM) cw_X4_told nw_327 nw_328 nw_326 rfl rfl (Nat.le_of_ble_eq_true rfl) rfl rfl ⟨Nat.le_of_ble_eq_true rfl, Nat.le_of_ble_eq_true rfl⟩ ⟨Nat.le_of_ble_eq_true rfl, Nat.le_of_ble_eq_true rfl⟩ dL_told_5 (x := ⟨0, 9, 12, 13⟩) (suf := []) htb (by decide) (by decide) nw_113 (fun H locs qx hW hS => ?_)
  refine lv_astore (lv' := [(4, .ref qx), (0, .ref (ad_ w 0 0)), (1, .int x), (2, .int y), (3, .ref (ad_ w 40 0))]) cx.1 cx.2.1 dL_told_12 hl (by decide) rfl (fun ls hl => ?_)
  refine lv_iconst (v := 1) cx.1 cx.2.1 dL_told_14 (by decide) ?_
  exact cr_i cx hr hlk hW hS (Nat.le_of_ble_eq_true rfl) (Nat.le_of_ble_eq_true rfl) dL_told_15 rfl rfl
set_option maxHeartbeats 4000000 in
set_option maxRecDepth 100000 in
theorem c_L_position_r (l : Launch) {w : Gh_} (hI : In_ w) (a a1 : St_) (x : Int32) (y : Int32) (r : Int32) (hM : Fn_ l w yX4_position (.code yX4_position cX4_position 3 (some .int)) { frames := 7, cells := 1, slots := 6, locals := 110 } 1 6 [.ref (ad_ w 0 0), .int x, .int y] a (.inl (some (.int r))) a1) : Fn_ l w yL_position (.codeWith yL_position cL_position 5 (some .int) [(0, 10, 13, 13)]) { frames := 8, cells := 1, slots := 6, locals := 132 } 1 6 [.ref (ad_ w 0 0), .int x, .int y, .ref (ad_ w 40 0)] a (.inl (some (.int 0))) (sl_ a1 40 0 0 r.toInt64) := by
  refine Fn_ofH hI (by decide +kernel) (Nat.le_of_ble_eq_true rfl) ?_
  intro zp ze zs zm zb zt zc ls cx hr hlk htb hW hS hl
  replace cx : Cx_ zp zs zm zc _ cL_position 5 "MarginHouseLaw" w := cx
  replace hl : lv_has ls 5 [(0, .ref (ad_ w 0 0)), (1, .int x), (2, .int y), (3, .ref (ad_ w 40 0))] := hl
  obtain ⟨H, hH⟩ : ∃ H, zs.heap = H := ⟨_, rfl⟩
  rw [hH] at hW
  have hS : Fr_ w zs.heap H [] := by rw [← hH]; exact hS
  obtain ⟨locs, hlocs⟩ : ∃ x : List Loc, x = [] := ⟨_, rfl⟩
  rw [← hlocs] at hS ⊢
  rw [show W zp l ze _ zs zm _ zb zt zc zs.heap locs 0 0 _ (F0 zm 0 ls []) ↔ W zp l ze _ zs zm _ zb zt zc H locs 0 0 _ (F0 zm 0 ls []) from by rw [hH]]
  refine lv_aload_n cx.1 cx.2.1 dL_position_0 rfl (lv_at hl 3 rfl) ?_
  refine lv_iconst (v := 0) cx.1 cx.2.1 dL_position_1 (by decide) ?_
  refine lv_aload_n cx.1 cx.2.1 dL_position_2 rfl (lv_at hl 0 rfl) ?_
  refine lv_iload_n cx.1 cx.2.1 dL_position_3 rfl (lv_at hl 1 rfl) ?_
  refine lv_iload_n cx.1 cx.2.1 dL_position_4 rfl (lv_at hl 2 rfl) ?_
  refine ck_V (v := some (.int r)) (As := [.int x, .int y]) (rest := [.int 0, .ref (ad_ w 40 0)]) (k := 0) (i := 0) (T := TX4) cx hW hS hl (by decide) rfl rfl (hM) cw_X4_position nw_335 nw_336 nw_334 rfl rfl (Nat.le_of_ble_eq_true rfl) rfl rfl ⟨Nat.le_of_ble_eq_true rfl, Nat.le_of_ble_eq_true rfl⟩ ⟨Nat.le_of_ble_eq_true rfl, Nat.le_of_ble_eq_true rfl⟩ dL_position_5 (fun H locs hW hS => ?_)
  refine W.eq (g2 := F0 zm 8 ls [.int r, .int 0, .ref (ad_ w 40 0)]) rfl ?_
  refine lv_i2l (v := r.toInt64) cx.1 cx.2.1 dL_position_8 rfl ?_
  refine as_40 (j := 0) cx hW hS (by decide) (by decide +kernel) (by decide) dL_position_9 (fun H locs hW hS => ?_)
  refine lv_goto (tgt := 17) cx.1 cx.2.1 dL_position_10 (by decide) ?_
  refine lv_iconst (v := 0) cx.1 cx.2.1 dL_position_17 (by decide) ?_
  exact cr_i cx hr hlk hW hS (Nat.le_of_ble_eq_true rfl) (Nat.le_of_ble_eq_true rfl) dL_position_18 rfl rfl
set_option maxHeartbeats 4000000 in
set_option maxRecDepth 100000 in
theorem c_L_position_a (l : Launch) {w : Gh_} (hI : In_ w) (a : St_) (x : Int32) (y : Int32) (hM : Fn_ l w yX4_position (.code yX4_position cX4_position 3 (some .int)) { frames := 7, cells := 1, slots := 6, locals := 110 } 1 6 [.ref (ad_ w 0 0), .int x, .int y] a (.inr IA_) a) : Fn_ l w yL_position (.codeWith yL_position cL_position 5 (some .int) [(0, 10, 13, 13)]) { frames := 8, cells := 1, slots := 6, locals := 132 } 1 6 [.ref (ad_ w 0 0), .int x, .int y, .ref (ad_ w 40 0)] a (.inl (some (.int 1))) a := by
  refine Fn_ofH hI (by decide +kernel) (Nat.le_of_ble_eq_true rfl) ?_
  intro zp ze zs zm zb zt zc ls cx hr hlk htb hW hS hl
  replace cx : Cx_ zp zs zm zc _ cL_position 5 "MarginHouseLaw" w := cx
  replace hl : lv_has ls 5 [(0, .ref (ad_ w 0 0)), (1, .int x), (2, .int y), (3, .ref (ad_ w 40 0))] := hl
  obtain ⟨H, hH⟩ : ∃ H, zs.heap = H := ⟨_, rfl⟩
  rw [hH] at hW
  have hS : Fr_ w zs.heap H [] := by rw [← hH]; exact hS
  obtain ⟨locs, hlocs⟩ : ∃ x : List Loc, x = [] := ⟨_, rfl⟩
  rw [← hlocs] at hS ⊢
  rw [show W zp l ze _ zs zm _ zb zt zc zs.heap locs 0 0 _ (F0 zm 0 ls []) ↔ W zp l ze _ zs zm _ zb zt zc H locs 0 0 _ (F0 zm 0 ls []) from by rw [hH]]
  refine lv_aload_n cx.1 cx.2.1 dL_position_0 rfl (lv_at hl 3 rfl) ?_
  refine lv_iconst (v := 0) cx.1 cx.2.1 dL_position_1 (by decide) ?_
  refine lv_aload_n cx.1 cx.2.1 dL_position_2 rfl (lv_at hl 0 rfl) ?_
  refine lv_iload_n cx.1 cx.2.1 dL_position_3 rfl (lv_at hl 1 rfl) ?_
  refine lv_iload_n cx.1 cx.2.1 dL_position_4 rfl (lv_at hl 2 rfl) ?_
  refine cc_A (As := [.int x, .int y]) (rest := [.int 0, .ref (ad_ w 40 0)]) (k := 0) (i := 0) (T := TX4) cx hW hS hl (by decide) rfl rfl (hM) cw_X4_position nw_335 nw_336 nw_334 rfl rfl (Nat.le_of_ble_eq_true rfl) rfl rfl ⟨Nat.le_of_ble_eq_true rfl, Nat.le_of_ble_eq_true rfl⟩ ⟨Nat.le_of_ble_eq_true rfl, Nat.le_of_ble_eq_true rfl⟩ dL_position_5 (x := ⟨0, 10, 13, 13⟩) (suf := []) htb (by decide) (by decide) nw_113 (fun H locs qx hW hS => ?_)
  refine lv_astore (lv' := [(4, .ref qx), (0, .ref (ad_ w 0 0)), (1, .int x), (2, .int y), (3, .ref (ad_ w 40 0))]) cx.1 cx.2.1 dL_position_13 hl (by decide) rfl (fun ls hl => ?_)
  refine lv_iconst (v := 1) cx.1 cx.2.1 dL_position_15 (by decide) ?_
  exact cr_i cx hr hlk hW hS (Nat.le_of_ble_eq_true rfl) (Nat.le_of_ble_eq_true rfl) dL_position_16 rfl rfl
set_option maxHeartbeats 4000000 in
set_option maxRecDepth 100000 in
theorem c_L_bore_r (l : Launch) {w : Gh_} (hI : In_ w) (a a1 : St_) (x : Int32) (r : Int64) (hM : Fn_ l w yX4_bore (.code yX4_bore cX4_bore 2 (some .long)) { frames := 7, cells := 1, slots := 6, locals := 110 } 1 6 [.ref (ad_ w 0 0), .int x] a (.inl (some (.long r))) a1) : Fn_ l w yL_bore (.codeWith yL_bore cL_bore 4 (some .int) [(0, 8, 11, 13)]) { frames := 8, cells := 1, slots := 6, locals := 131 } 1 6 [.ref (ad_ w 0 0), .int x, .ref (ad_ w 40 0)] a (.inl (some (.int 0))) (sl_ a1 40 0 0 r) := by
  refine Fn_ofH hI (by decide +kernel) (Nat.le_of_ble_eq_true rfl) ?_
  intro zp ze zs zm zb zt zc ls cx hr hlk htb hW hS hl
  replace cx : Cx_ zp zs zm zc _ cL_bore 4 "MarginHouseLaw" w := cx
  replace hl : lv_has ls 4 [(0, .ref (ad_ w 0 0)), (1, .int x), (2, .ref (ad_ w 40 0))] := hl
  obtain ⟨H, hH⟩ : ∃ H, zs.heap = H := ⟨_, rfl⟩
  rw [hH] at hW
  have hS : Fr_ w zs.heap H [] := by rw [← hH]; exact hS
  obtain ⟨locs, hlocs⟩ : ∃ x : List Loc, x = [] := ⟨_, rfl⟩
  rw [← hlocs] at hS ⊢
  rw [show W zp l ze _ zs zm _ zb zt zc zs.heap locs 0 0 _ (F0 zm 0 ls []) ↔ W zp l ze _ zs zm _ zb zt zc H locs 0 0 _ (F0 zm 0 ls []) from by rw [hH]]
  refine lv_aload_n cx.1 cx.2.1 dL_bore_0 rfl (lv_at hl 2 rfl) ?_
  refine lv_iconst (v := 0) cx.1 cx.2.1 dL_bore_1 (by decide) ?_
  refine lv_aload_n cx.1 cx.2.1 dL_bore_2 rfl (lv_at hl 0 rfl) ?_
  refine lv_iload_n cx.1 cx.2.1 dL_bore_3 rfl (lv_at hl 1 rfl) ?_
  refine ck_V (v := some (.long r)) (As := [.int x]) (rest := [.int 0, .ref (ad_ w 40 0)]) (k := 0) (i := 0) (T := TX4) cx hW hS hl (by decide) rfl rfl (hM) cw_X4_bore nw_342 nw_343 nw_341 rfl rfl (Nat.le_of_ble_eq_true rfl) rfl rfl ⟨Nat.le_of_ble_eq_true rfl, Nat.le_of_ble_eq_true rfl⟩ ⟨Nat.le_of_ble_eq_true rfl, Nat.le_of_ble_eq_true rfl⟩ dL_bore_4 (fun H locs hW hS => ?_)
  refine W.eq (g2 := F0 zm 7 ls [.long r, .int 0, .ref (ad_ w 40 0)]) rfl ?_
  refine as_40 (j := 0) cx hW hS (by decide) (by decide +kernel) (by decide) dL_bore_7 (fun H locs hW hS => ?_)
  refine lv_goto (tgt := 14) cx.1 cx.2.1 dL_bore_8 (by decide) ?_
  refine lv_iconst (v := 0) cx.1 cx.2.1 dL_bore_14 (by decide) ?_
  exact cr_i cx hr hlk hW hS (Nat.le_of_ble_eq_true rfl) (Nat.le_of_ble_eq_true rfl) dL_bore_15 rfl rfl
set_option maxHeartbeats 4000000 in
set_option maxRecDepth 100000 in
theorem c_L_bore_a (l : Launch) {w : Gh_} (hI : In_ w) (a : St_) (x : Int32) (hM : Fn_ l w yX4_bore (.code yX4_bore cX4_bore 2 (some .long)) { frames := 7, cells := 1, slots := 6, locals := 110 } 1 6 [.ref (ad_ w 0 0), .int x] a (.inr IA_) a) : Fn_ l w yL_bore (.codeWith yL_bore cL_bore 4 (some .int) [(0, 8, 11, 13)]) { frames := 8, cells := 1, slots := 6, locals := 131 } 1 6 [.ref (ad_ w 0 0), .int x, .ref (ad_ w 40 0)] a (.inl (some (.int 1))) a := by
  refine Fn_ofH hI (by decide +kernel) (Nat.le_of_ble_eq_true rfl) ?_
  intro zp ze zs zm zb zt zc ls cx hr hlk htb hW hS hl
  replace cx : Cx_ zp zs zm zc _ cL_bore 4 "MarginHouseLaw" w := cx
  replace hl : lv_has ls 4 [(0, .ref (ad_ w 0 0)), (1, .int x), (2, .ref (ad_ w 40 0))] := hl
  obtain ⟨H, hH⟩ : ∃ H, zs.heap = H := ⟨_, rfl⟩
  rw [hH] at hW
  have hS : Fr_ w zs.heap H [] := by rw [← hH]; exact hS
  obtain ⟨locs, hlocs⟩ : ∃ x : List Loc, x = [] := ⟨_, rfl⟩
  rw [← hlocs] at hS ⊢
  rw [show W zp l ze _ zs zm _ zb zt zc zs.heap locs 0 0 _ (F0 zm 0 ls []) ↔ W zp l ze _ zs zm _ zb zt zc H locs 0 0 _ (F0 zm 0 ls []) from by rw [hH]]
  refine lv_aload_n cx.1 cx.2.1 dL_bore_0 rfl (lv_at hl 2 rfl) ?_
  refine lv_iconst (v := 0) cx.1 cx.2.1 dL_bore_1 (by decide) ?_
  refine lv_aload_n cx.1 cx.2.1 dL_bore_2 rfl (lv_at hl 0 rfl) ?_
  refine lv_iload_n cx.1 cx.2.1 dL_bore_3 rfl (lv_at hl 1 rfl) ?_
  refine cc_A (As := [.int x]) (rest := [.int 0, .ref (ad_ w 40 0)]) (k := 0) (i := 0) (T := TX4) cx hW hS hl (by decide) rfl rfl (hM) cw_X4_bore nw_342 nw_343 nw_341 rfl rfl (Nat.le_of_ble_eq_true rfl) rfl rfl ⟨Nat.le_of_ble_eq_true rfl, Nat.le_of_ble_eq_true rfl⟩ ⟨Nat.le_of_ble_eq_true rfl, Nat.le_of_ble_eq_true rfl⟩ dL_bore_4 (x := ⟨0, 8, 11, 13⟩) (suf := []) htb (by decide) (by decide) nw_113 (fun H locs qx hW hS => ?_)
  refine lv_astore_n (lv' := [(3, .ref qx), (0, .ref (ad_ w 0 0)), (1, .int x), (2, .ref (ad_ w 40 0))]) cx.1 cx.2.1 dL_bore_11 rfl hl (by decide) rfl (fun ls hl => ?_)
  refine lv_iconst (v := 1) cx.1 cx.2.1 dL_bore_12 (by decide) ?_
  exact cr_i cx hr hlk hW hS (Nat.le_of_ble_eq_true rfl) (Nat.le_of_ble_eq_true rfl) dL_bore_13 rfl rfl
set_option maxHeartbeats 4000000 in
set_option maxRecDepth 100000 in
theorem c_L_all_r (l : Launch) {w : Gh_} (hI : In_ w) (a a1 : St_) (x : Int32) (r : Int64) (hM : Fn_ l w yX4_all (.code yX4_all cX4_all 2 (some .long)) { frames := 7, cells := 1, slots := 6, locals := 110 } 1 6 [.ref (ad_ w 0 0), .int x] a (.inl (some (.long r))) a1) : Fn_ l w yL_all (.codeWith yL_all cL_all 4 (some .int) [(0, 8, 11, 13)]) { frames := 8, cells := 1, slots := 6, locals := 131 } 1 6 [.ref (ad_ w 0 0), .int x, .ref (ad_ w 40 0)] a (.inl (some (.int 0))) (sl_ a1 40 0 0 r) := by
  refine Fn_ofH hI (by decide +kernel) (Nat.le_of_ble_eq_true rfl) ?_
  intro zp ze zs zm zb zt zc ls cx hr hlk htb hW hS hl
  replace cx : Cx_ zp zs zm zc _ cL_all 4 "MarginHouseLaw" w := cx
  replace hl : lv_has ls 4 [(0, .ref (ad_ w 0 0)), (1, .int x), (2, .ref (ad_ w 40 0))] := hl
  obtain ⟨H, hH⟩ : ∃ H, zs.heap = H := ⟨_, rfl⟩
  rw [hH] at hW
  have hS : Fr_ w zs.heap H [] := by rw [← hH]; exact hS
  obtain ⟨locs, hlocs⟩ : ∃ x : List Loc, x = [] := ⟨_, rfl⟩
  rw [← hlocs] at hS ⊢
  rw [show W zp l ze _ zs zm _ zb zt zc zs.heap locs 0 0 _ (F0 zm 0 ls []) ↔ W zp l ze _ zs zm _ zb zt zc H locs 0 0 _ (F0 zm 0 ls []) from by rw [hH]]
  refine lv_aload_n cx.1 cx.2.1 dL_all_0 rfl (lv_at hl 2 rfl) ?_
  refine lv_iconst (v := 0) cx.1 cx.2.1 dL_all_1 (by decide) ?_
  refine lv_aload_n cx.1 cx.2.1 dL_all_2 rfl (lv_at hl 0 rfl) ?_
  refine lv_iload_n cx.1 cx.2.1 dL_all_3 rfl (lv_at hl 1 rfl) ?_
  refine ck_V (v := some (.long r)) (As := [.int x]) (rest := [.int 0, .ref (ad_ w 40 0)]) (k := 0) (i := 0) (T := TX4) cx hW hS hl (by decide) rfl rfl (hM) cw_X4_all nw_350 nw_351 nw_349 rfl rfl (Nat.le_of_ble_eq_true rfl) rfl rfl ⟨Nat.le_of_ble_eq_true rfl, Nat.le_of_ble_eq_true rfl⟩ ⟨Nat.le_of_ble_eq_true rfl, Nat.le_of_ble_eq_true rfl⟩ dL_all_4 (fun H locs hW hS => ?_)
  refine W.eq (g2 := F0 zm 7 ls [.long r, .int 0, .ref (ad_ w 40 0)]) rfl ?_
  refine as_40 (j := 0) cx hW hS (by decide) (by decide +kernel) (by decide) dL_all_7 (fun H locs hW hS => ?_)
  refine lv_goto (tgt := 14) cx.1 cx.2.1 dL_all_8 (by decide) ?_
  refine lv_iconst (v := 0) cx.1 cx.2.1 dL_all_14 (by decide) ?_
  exact cr_i cx hr hlk hW hS (Nat.le_of_ble_eq_true rfl) (Nat.le_of_ble_eq_true rfl) dL_all_15 rfl rfl
set_option maxHeartbeats 4000000 in
set_option maxRecDepth 100000 in
theorem c_L_all_a (l : Launch) {w : Gh_} (hI : In_ w) (a : St_) (x : Int32) (hM : Fn_ l w yX4_all (.code yX4_all cX4_all 2 (some .long)) { frames := 7, cells := 1, slots := 6, locals := 110 } 1 6 [.ref (ad_ w 0 0), .int x] a (.inr IA_) a) : Fn_ l w yL_all (.codeWith yL_all cL_all 4 (some .int) [(0, 8, 11, 13)]) { frames := 8, cells := 1, slots := 6, locals := 131 } 1 6 [.ref (ad_ w 0 0), .int x, .ref (ad_ w 40 0)] a (.inl (some (.int 1))) a := by
  refine Fn_ofH hI (by decide +kernel) (Nat.le_of_ble_eq_true rfl) ?_
  intro zp ze zs zm zb zt zc ls cx hr hlk htb hW hS hl
  replace cx : Cx_ zp zs zm zc _ cL_all 4 "MarginHouseLaw" w := cx
  replace hl : lv_has ls 4 [(0, .ref (ad_ w 0 0)), (1, .int x), (2, .ref (ad_ w 40 0))] := hl
  obtain ⟨H, hH⟩ : ∃ H, zs.heap = H := ⟨_, rfl⟩
  rw [hH] at hW
  have hS : Fr_ w zs.heap H [] := by rw [← hH]; exact hS
  obtain ⟨locs, hlocs⟩ : ∃ x : List Loc, x = [] := ⟨_, rfl⟩
  rw [← hlocs] at hS ⊢
  rw [show W zp l ze _ zs zm _ zb zt zc zs.heap locs 0 0 _ (F0 zm 0 ls []) ↔ W zp l ze _ zs zm _ zb zt zc H locs 0 0 _ (F0 zm 0 ls []) from by rw [hH]]
  refine lv_aload_n cx.1 cx.2.1 dL_all_0 rfl (lv_at hl 2 rfl) ?_
  refine lv_iconst (v := 0) cx.1 cx.2.1 dL_all_1 (by decide) ?_
  refine lv_aload_n cx.1 cx.2.1 dL_all_2 rfl (lv_at hl 0 rfl) ?_
  refine lv_iload_n cx.1 cx.2.1 dL_all_3 rfl (lv_at hl 1 rfl) ?_
  refine cc_A (As := [.int x]) (rest := [.int 0, .ref (ad_ w 40 0)]) (k := 0) (i := 0) (T := TX4) cx hW hS hl (by decide) rfl rfl (hM) cw_X4_all nw_350 nw_351 nw_349 rfl rfl (Nat.le_of_ble_eq_true rfl) rfl rfl ⟨Nat.le_of_ble_eq_true rfl, Nat.le_of_ble_eq_true rfl⟩ ⟨Nat.le_of_ble_eq_true rfl, Nat.le_of_ble_eq_true rfl⟩ dL_all_4 (x := ⟨0, 8, 11, 13⟩) (suf := []) htb (by decide) (by decide) nw_113 (fun H locs qx hW hS => ?_)
  refine lv_astore_n (lv' := [(3, .ref qx), (0, .ref (ad_ w 0 0)), (1, .int x), (2, .ref (ad_ w 40 0))]) cx.1 cx.2.1 dL_all_11 rfl hl (by decide) rfl (fun ls hl => ?_)
  refine lv_iconst (v := 1) cx.1 cx.2.1 dL_all_12 (by decide) ?_
  exact cr_i cx hr hlk hW hS (Nat.le_of_ble_eq_true rfl) (Nat.le_of_ble_eq_true rfl) dL_all_13 rfl rfl
