/-! CONTRACTS over the world: a method called in the state a, with arguments av, answers (or throws) 'out' and leaves the state a'. -/
abbrev IA_ : String := "java/lang/IllegalArgumentException"
abbrev IS_ : String := "java/lang/IllegalStateException"
def xb_ : List Cond := [.castable IA_ IA_, .castable IS_ IS_, .declares ⟨"java/lang/RuntimeException", "<init>", "()V"⟩, .declares ⟨"java/lang/Exception", "<init>", "()V"⟩, .declares ⟨"java/lang/Throwable", "<init>", "()V"⟩]
theorem xb_all {P : Cond → Prop} (h0 : P (.castable IA_ IA_)) (h1 : P (.castable IS_ IS_)) (h2 : P (.declares ⟨"java/lang/RuntimeException", "<init>", "()V"⟩)) (h3 : P (.declares ⟨"java/lang/Exception", "<init>", "()V"⟩)) (h4 : P (.declares ⟨"java/lang/Throwable", "<init>", "()V"⟩)) : ∀ x ∈ xb_, P x := by
  intro x hx
  simp only [xb_, List.mem_cons, List.not_mem_nil, or_false] at hx
  rcases hx with rfl | rfl | rfl | rfl | rfl
  · exact h0
  · exact h1
  · exact h2
  · exact h3
  · exact h4
theorem xb_tab : ∀ x ∈ xb_, x.onTables = true := xb_all rfl rfl rfl rfl rfl
def Xw_ (w : Gh_) (U : State) : Prop := (∀ x ∈ xb_, va_Nw x U) ∧ va_Nc IS_ IA_ U ∧ vx_Zq Bundle.tN "UNASSIGNED_STACK" Bundle.steD (fun q => lo_ w ≤ q) U U.heap ∧ vx_Zq Bundle.tN "SUPPRESSED_SENTINEL" Bundle.listD (fun q => lo_ w ≤ q) U U.heap
def Pc_ (w : Gh_) (a : St_) (av : List Value) : Array Value → State → Prop := va_Pc av (fun U => Hd_ w a U.heap ∧ Kn_ w U ∧ lo_ w ≤ U.heap.size ∧ Xw_ w U)
def Qc_ (w : Gh_) (out : Option Value ⊕ String) (a' : St_) : Array Value → State → Outcome → State → Prop := fun _ st o t => (∃ v, out = .inl v ∧ o = .returned v ∧ Hd_ w a' t.heap) ∧ va_F (fun q => lo_ w ≤ q) st t
def XC_ (w : Gh_) (out : Option Value ⊕ String) (a' : St_) : String → State → State → Prop := fun E st t => out = .inr E ∧ Hd_ w a' t.heap ∧ va_F (fun q => lo_ w ≤ q) st t
def Fn_ (l : Launch) (w : Gh_) (y : MethodName) (hd : Cond) (rm : Room) (mc ms : Nat) (av : List Value) (a : St_) (out : Option Value ⊕ String) (a' : St_) : Prop :=
  vx_Met l y (hd :: nd_) rm (Pc_ w a av) (Qc_ w out a') (XC_ w out a') mc ms (fun q => lo_ w ≤ q)
/-- what a walk stands on -/
def Cx_ (p : Program) (s : State) (m : MethodId) (c : Code) (args : Array Value) (cc : ByteArray) (nL : Nat) (own : String) (w : Gh_) : Prop :=
  p.tables.exec = Jvm.exec ∧ c.code = cc ∧ c.maxLocals = nL ∧ s.vm.findClass own = some m.cls ∧ (∀ x ∈ nd_, x.before args s = true) ∧ Kn_ w s ∧ In_ w ∧ Xw_ w s ∧ lo_ w ≤ s.heap.size
theorem xb_moved {s U : State} (h : ∀ x ∈ xb_, va_Nw x s) (hW : s.WarmedH U.vm) : ∀ x ∈ xb_, va_Nw x U :=
  xb_all (va_Nw.warmC hW (h _ (by simp [xb_]))) (va_Nw.warmC hW (h _ (by simp [xb_]))) (va_Nw.warmD hW (h _ (by simp [xb_]))) (va_Nw.warmD hW (h _ (by simp [xb_]))) (va_Nw.warmD hW (h _ (by simp [xb_])))
theorem Xw_moved {w : Gh_} {s U : State} {H : Heap} {locs : List Loc} (h : Xw_ w s) (hS : Fr_ w s.heap H locs) (hU : U.heap = H) (hW : s.WarmedH U.vm) : Xw_ w U := by
  obtain ⟨h1, h3, h4, h5⟩ := h
  refine ⟨xb_moved h1 hW, va_Nc.moved hW.alike h3, ?_, ?_⟩
  · rw [hU]
    exact (vx_Zq.moved hW.alike h4).kept hS.2.1
  · rw [hU]
    exact (vx_Zq.moved hW.alike h5).kept hS.2.1
theorem Pc_blind (w : Gh_) (a : St_) (av : List Value) : FrameBlind (Pc_ w a av) := by
  intro x U g mk h
  obtain ⟨h0, h1, h2, h3, h4, h6, h7, h8⟩ := h
  exact ⟨h0, h1, va_K.moved (u := U) (U := U.calling g mk x) (Vm.Alike.refl U.vm) h2, h3, fun x hx => va_Nw.same (xb_tab x hx) (u := U) rfl (h4 x hx), va_Nc.moved (u := U) (U := U.calling g mk x) (Vm.Alike.refl U.vm) h6, vx_Zq.moved (u := U) (U := U.calling g mk x) (Vm.Alike.refl U.vm) h7, vx_Zq.moved (u := U) (U := U.calling g mk x) (Vm.Alike.refl U.vm) h8⟩
theorem Fn_of {l : Launch} {w : Gh_} {y : MethodName} {cc : ByteArray} {maxL : Nat} {ret : Option FieldType} {rm : Room} {mc ms : Nat} {av : List Value} {a a' : St_} {out : Option Value ⊕ String} (hI : In_ w) (hy : plainName y.cls = true) (hlen : (lg_sl av).length ≤ maxL)
    (body : ∀ (p : Program) (e : Env) (s : State) (m : MethodId) (below : List Frame) (meth : Method) (c : Code) (ls : Array Slot), Cx_ p s m c av.toArray cc maxL y.cls w → meth.sig.returnType = ret → meth.locks = false → (∀ x ∈ c.exceptionTable.toList, False) → Hd_ w a s.heap → Fr_ w s.heap s.heap [] → lv_has ls maxL (lv_args 0 av) →
      W p l e rm s m av.toArray below meth c s.heap [] 0 0 (vx_MQ below (Qc_ w out a') (XC_ w out a') av.toArray s mc ms (fun q => lo_ w ≤ q)) (F0 m 0 ls [])) : Fn_ l w y (.code y cc maxL ret) rm mc ms av a out a' := by
  refine vx_ofW (cc := cc) (maxL := maxL) (ret := ret) hy rfl ?_
  intro p e s m args below meth c s₁ B hml hno hv
  obtain ⟨rfl, hW, hK, hlo, hX⟩ := hv
  have hts := atoms_spec (ws := Cond.code y cc maxL ret :: nd_) B.pre
  have hl := lv_entry av (n := maxL) hlen
  rw [lg_entry_eq]
  exact body p e s m below meth c _ ⟨B.exec, B.bytes, hml, findClass_of_methodNamed B.named, fun x hx => hts x (List.mem_cons_of_mem _ hx), hK, hI, hX, hlo⟩ B.returns B.notSynchronized hno hW va_S.rf hl
theorem Fn_ofH {l : Launch} {w : Gh_} {y : MethodName} {cc : ByteArray} {maxL : Nat} {ret : Option FieldType} {hh : List (Nat × Nat × Nat × Nat)} {rm : Room} {mc ms : Nat} {av : List Value} {a a' : St_} {out : Option Value ⊕ String} (hI : In_ w) (hy : plainName y.cls = true) (hlen : (lg_sl av).length ≤ maxL)
    (body : ∀ (p : Program) (e : Env) (s : State) (m : MethodId) (below : List Frame) (meth : Method) (c : Code) (ls : Array Slot), Cx_ p s m c av.toArray cc maxL y.cls w → meth.sig.returnType = ret → meth.locks = false → c.exceptionTable.toList = tableOf hh → Hd_ w a s.heap → Fr_ w s.heap s.heap [] → lv_has ls maxL (lv_args 0 av) →
      W p l e rm s m av.toArray below meth c s.heap [] 0 0 (vx_MQ below (Qc_ w out a') (XC_ w out a') av.toArray s mc ms (fun q => lo_ w ≤ q)) (F0 m 0 ls [])) : Fn_ l w y (.codeWith y cc maxL ret hh) rm mc ms av a out a' := by
  refine vx_ofWH (cc := cc) (maxL := maxL) (ret := ret) (hh := hh) hy rfl ?_
  intro p e s m args below meth c s₁ B hml hv
  obtain ⟨rfl, hW, hK, hlo, hX⟩ := hv
  have hts := atoms_spec (ws := Cond.codeWith y cc maxL ret hh :: nd_) B.pre
  have hl := lv_entry av (n := maxL) hlen
  rw [lg_entry_eq]
  exact body p e s m below meth c _ ⟨B.exec, B.bytes, hml, findClass_of_methodNamed B.named, fun x hx => hts x (List.mem_cons_of_mem _ hx), hK, hI, hX, hlo⟩ B.returns B.notSynchronized (vx_table (x := y) B (hts _ List.mem_cons_self)) hW va_S.rf hl
/-- what a call needs of its callee's words -/
def Cw_ (y : MethodName) (hd : Cond) (n : Nat) : Prop := hd ∈ nd_ ∧ Cond.initialized y.cls ∈ nd_ ∧ y.cls ≠ "java/lang/invoke/MethodHandle" ∧ y.cls ≠ "java/lang/invoke/VarHandle" ∧ (parseMethodDescriptor y.desc).map (fun d => d.parameters.length) = some n
section CR
variable {p : Program} {l : Launch} {e : Env} {R : Room} {s : State} {m : MethodId} {args : Array Value} {below : List Frame} {meth : Method} {c : Code} {H : Heap} {locs : List Loc} {cells slots : Nat} {Q : State → Prop}
variable {cc : ByteArray} {pc nL : Nat} {own : String} {ls : Array Slot} {rest st0 : List Value} {w : Gh_} {a a' a1 : St_} {out : Option Value ⊕ String} {mc ms : Nat}
theorem cr_i {v : Int32} (cx : Cx_ p s m c args cc nL own w) (hr : meth.sig.returnType = some .int) (hlk : meth.locks = false) (hW : Hd_ w a1 H) (hS : Fr_ w s.heap H locs) (hc : cells ≤ mc) (hs : slots ≤ ms) (hd : decode cc pc = .ok (.ireturn, 1)) (ho : out = .inl (some (.int v))) (ha : a' = a1) :
    W p l e R s m args below meth c H locs cells slots (vx_MQ below (Qc_ w out a') (XC_ w out a') args s mc ms (fun q => lo_ w ≤ q)) (F0 m pc ls [.int v]) := by
  subst ha
  exact vx_ret (W.widen hc hs (W.iret cx.1 cx.2.1 hr (fun t ht _ => ⟨⟨_, ho, rfl, by rw [ht]; exact hW⟩, va_S.F hS ht⟩) hS.2.2 hd hlk))
theorem cr_z {v : Int32} (cx : Cx_ p s m c args cc nL own w) (hr : meth.sig.returnType = some .boolean) (hlk : meth.locks = false) (hv : v = 0 ∨ v = 1) (hW : Hd_ w a1 H) (hS : Fr_ w s.heap H locs) (hc : cells ≤ mc) (hs : slots ≤ ms) (hd : decode cc pc = .ok (.ireturn, 1)) (ho : out = .inl (some (.int v))) (ha : a' = a1) :
    W p l e R s m args below meth c H locs cells slots (vx_MQ below (Qc_ w out a') (XC_ w out a') args s mc ms (fun q => lo_ w ≤ q)) (F0 m pc ls [.int v]) := by
  subst ha
  exact vx_ret (W.widen hc hs (W.zret cx.1 cx.2.1 hr (by rcases hv with rfl | rfl <;> rfl) (fun t ht _ => ⟨⟨_, ho, rfl, by rw [ht]; exact hW⟩, va_S.F hS ht⟩) hS.2.2 hd hlk))
theorem cr_l {v : Int64} (cx : Cx_ p s m c args cc nL own w) (hr : meth.sig.returnType = some .long) (hlk : meth.locks = false) (hW : Hd_ w a1 H) (hS : Fr_ w s.heap H locs) (hc : cells ≤ mc) (hs : slots ≤ ms) (hd : decode cc pc = .ok (.lreturn, 1)) (ho : out = .inl (some (.long v))) (ha : a' = a1) :
    W p l e R s m args below meth c H locs cells slots (vx_MQ below (Qc_ w out a') (XC_ w out a') args s mc ms (fun q => lo_ w ≤ q)) (F0 m pc ls [.long v]) := by
  subst ha
  exact vx_ret (W.widen hc hs (W.lret cx.1 cx.2.1 hr (fun t ht _ => ⟨⟨_, ho, rfl, by rw [ht]; exact hW⟩, va_S.F hS ht⟩) hS.2.2 hd hlk))
theorem cr_v (cx : Cx_ p s m c args cc nL own w) (hr : meth.sig.returnType = none) (hlk : meth.locks = false) (hW : Hd_ w a1 H) (hS : Fr_ w s.heap H locs) (hc : cells ≤ mc) (hs : slots ≤ ms) (hd : decode cc pc = .ok (.return_, 1)) (ho : out = .inl none) (ha : a' = a1) :
    W p l e R s m args below meth c H locs cells slots (vx_MQ below (Qc_ w out a') (XC_ w out a') args s mc ms (fun q => lo_ w ≤ q)) (F0 m pc ls []) := by
  subst ha
  exact vx_ret (W.widen hc hs (W.vret cx.1 cx.2.1 hr (fun t ht _ => ⟨⟨_, ho, rfl, by rw [ht]; exact hW⟩, va_S.F hS ht⟩) hS.2.2 hd hlk))
variable {y : MethodName} {cY : ByteArray} {maxL n index : Nat} {ret : Option FieldType} {rm : Room} {mc' ms' : Nat} {As : List Value} {v : Option Value} {E : String}
theorem ck_pre (cx : Cx_ p s m c args cc nL own w) (hW : Hd_ w a H) (hS : Fr_ w s.heap H locs) (As : List Value) : PreS s H (Pc_ w a As) As :=
  ⟨Pc_blind w a As, fun U hU hWm => ⟨rfl, by rw [hU]; exact hW, va_K.moved hWm.alike cx.2.2.2.2.2.1, by rw [hU]; exact Nat.le_trans cx.2.2.2.2.2.2.2.2 hS.1, Xw_moved cx.2.2.2.2.2.2.2.1 hS hU hWm⟩⟩
/-- how a call goes on -/
theorem ck_go {g : JFrame} (hr : vx_Run p l e R s m args below meth c H locs cells slots mc' ms' g rest (Qc_ w (.inl v) a' As.toArray) (XC_ w (.inl v) a') (fun q => lo_ w ≤ q)) (hS : Fr_ w s.heap H locs)
    (kk : ∀ (H1 : Heap) (locs1 : List Loc), Hd_ w a' H1 → Fr_ w s.heap H1 locs1 → W p l e R s m args below meth c H1 locs1 (cells + mc') (slots + ms') Q { g with pc := g.pc + 3, stack := v.toList ++ rest }) : W p l e R s m args below meth c H locs cells slots Q g := by
  intro T hT X
  rcases hr T hT X with ⟨v', st₀, t, T', L, h0, X', hL, e1, e2, ⟨⟨v2, ho, hv, hHd⟩, hF⟩, st⟩ | ⟨q, st₀, t, T', L, E, ce, h0, X', hL, e1, e2, ⟨ho, -⟩, -⟩
  · cases ho
    cases hv
    obtain ⟨k1, k2, k3⟩ := vx_keep h0 e1 hS (fun q _ h => h) (fun q h => h) hL hF
    obtain ⟨t2, a1, b1⟩ := kk T'.heap (locs ++ L) (by rw [e1]; exact hHd) k3 T' rfl X'
    exact ⟨t2, st t2 a1, b1⟩
  · cases ho
theorem ct_go {ls : Array Slot} {pc mcT msT : Nat} {aT : St_} {outT : Option Value ⊕ String} (hr : vx_Run p l e R s m args below meth c H locs cells slots mc' ms' (F0 m pc ls st0) rest (Qc_ w (.inr E) a' As.toArray) (XC_ w (.inr E) a') (fun q => lo_ w ≤ q)) (hS : Fr_ w s.heap H locs) (hno : ∀ x ∈ c.exceptionTable.toList, False) (hlk : meth.locks = false)
    (hc : cells + mc' ≤ mcT) (hs : slots + ms' ≤ msT) (ho : outT = .inr E) (ha : aT = a') : W p l e R s m args below meth c H locs cells slots (vx_MQ below (Qc_ w outT aT) (XC_ w outT aT) args s mcT msT (fun q => lo_ w ≤ q)) (F0 m pc ls st0) := by
  subst ha
  intro T hT X
  rcases hr T hT X with ⟨v', st₀, t, T', L, h0, X', hL, e1, e2, ⟨⟨v2, ho, hv, hHd⟩, hF⟩, st⟩ | ⟨q, st₀, t, T', L, E', ce, h0, X', hL, e1, e2, ⟨ho', hHd, hF⟩, hce, hcv, hcl, st⟩
  · cases ho
  · cases ho'
    obtain ⟨k1, k2, k3⟩ := vx_keep h0 e1 hS (fun q _ h => h) (fun q h => h) hL hF
    obtain ⟨t2, a1, b1⟩ := vx_out (E := E) (mc := mcT) (ms := msT) (Qc := Qc_ w outT aT) (XC := XC_ w outT aT) (free := fun q => lo_ w ≤ q) (ls := ls) (rest := rest) (pc := pc) (H := T'.heap) (fun x hx => (hno x hx).elim) hlk (by rw [e1]; exact hce) hcv hcl
      (fun t ht _ => ⟨ho, by rw [ht, e1]; exact hHd, va_S.F k3 ht⟩) k3.2.2 hc hs T' rfl X'
    exact ⟨t2, st.trans a1, b1⟩
theorem ck_wS (cx : Cx_ p s m c args cc nL own w) (cw : Cw_ y (.code y cY maxL ret) n) (hst : Cond.static y ∈ nd_) (hl : Cond.methodLink own index y ∈ nd_) (hrc : rm.cells = mc') (hrs : rm.slots = ms') (hR : rm.frames + 1 ≤ R.frames ∧ 8 + (maxL + 11) + rm.locals ≤ R.locals) :
    CallB R s args own index y cY maxL ret (Cond.code y cY maxL ret :: nd_) rm mc' ms' n ∧ (Cond.static y).before args s = true :=
  ⟨callB_of n cx.2.2.2.2.1 (nd_self cw.1) rfl hrc hrs (cx.2.2.2.2.1 _ cw.2.1) (cx.2.2.2.2.1 _ hl) cw.2.2 hR, cx.2.2.2.2.1 _ hst⟩
theorem ck_wV (cx : Cx_ p s m c args cc nL own w) {C : String} (cw : Cw_ y (.code y cY maxL ret) n) (hi : Cond.instanceMethod y ∈ nd_) (hse : Cond.selects C y y ∈ nd_) (hl : Cond.methodLink own index y ∈ nd_) (hrc : rm.cells = mc') (hrs : rm.slots = ms') (hR : rm.frames + 1 ≤ R.frames ∧ 8 + (maxL + 11) + rm.locals ≤ R.locals) :
    CallW R s args own C index y cY maxL ret (Cond.code y cY maxL ret :: nd_) rm mc' ms' n :=
  ⟨callB_of n cx.2.2.2.2.1 (nd_self cw.1) rfl hrc hrs (cx.2.2.2.2.1 _ cw.2.1) (cx.2.2.2.2.1 _ hl) cw.2.2 hR, cx.2.2.2.2.1 _ hi, cx.2.2.2.2.1 _ hse⟩
/-- a static call that returns -/
theorem ck_S (cx : Cx_ p s m c args cc nL own w) (hW : Hd_ w a H) (hS : Fr_ w s.heap H locs) {lv : List (Nat × Value)} (hl : lv_has ls nL lv) (hM : Fn_ l w y (.code y cY maxL ret) rm mc' ms' As a (.inl v) a') (cw : Cw_ y (.code y cY maxL ret) n) (hst : Cond.static y ∈ nd_) (hlk : Cond.methodLink own index y ∈ nd_)
    (hn : As.length = n) (hstk : st0 = As.reverse ++ rest) (hq : (rest.map fun v => v.category).sum ≤ 8) (hrc : rm.cells = mc') (hrs : rm.slots = ms') (hR : rm.frames + 1 ≤ R.frames ∧ 8 + (maxL + 11) + rm.locals ≤ R.locals) (hf : cells + mc' ≤ R.cells ∧ slots + ms' ≤ R.slots) (hd : decode cc pc = .ok (.invokestatic index, 3))
    (kk : ∀ (H1 : Heap) (locs1 : List Loc), Hd_ w a' H1 → Fr_ w s.heap H1 locs1 → W p l e R s m args below meth c H1 locs1 (cells + mc') (slots + ms') Q (F0 m (pc + 3) ls (v.toList ++ rest))) : W p l e R s m args below meth c H locs cells slots Q (F0 m pc ls st0) :=
  ck_go (vx_runS (Ts := nd_) ⟨cx.1, cx.2.1, cx.2.2.1, cx.2.2.2.1, cx.2.2.2.2.1⟩ hM (ck_wS cx cw hst hlk hrc hrs hR) (ck_pre cx hW hS As) rfl hn hl.1 hstk (lv_room hq) hd hf) hS kk
/-- a call of an object's method that returns -/
theorem ck_V (cx : Cx_ p s m c args cc nL own w) (hW : Hd_ w a H) (hS : Fr_ w s.heap H locs) {lv : List (Nat × Value)} (hl : lv_has ls nL lv) {k i ci : Nat} {C : String} {T : u_T} {N : Nat} {fs : List Value} (hi : i < cn_ k) (he : en_ w a k i = .inr (ci, fs)) (hc : cl_[ci]? = some (C, T, N)) (hM : Fn_ l w y (.code y cY maxL ret) rm mc' ms' (.ref (ad_ w k i) :: As) a (.inl v) a') (cw : Cw_ y (.code y cY maxL ret) n) (him : Cond.instanceMethod y ∈ nd_) (hse : Cond.selects C y y ∈ nd_) (hlk : Cond.methodLink own index y ∈ nd_)
    (hn : As.length = n) (hstk : st0 = As.reverse ++ .ref (ad_ w k i) :: rest) (hq : (rest.map fun v => v.category).sum ≤ 8) (hrc : rm.cells = mc') (hrs : rm.slots = ms') (hR : rm.frames + 1 ≤ R.frames ∧ 8 + (maxL + 11) + rm.locals ≤ R.locals) (hf : cells + mc' ≤ R.cells ∧ slots + ms' ≤ R.slots) (hd : decode cc pc = .ok (.invokevirtual index, 3))
    (kk : ∀ (H1 : Heap) (locs1 : List Loc), Hd_ w a' H1 → Fr_ w s.heap H1 locs1 → W p l e R s m args below meth c H1 locs1 (cells + mc') (slots + ms') Q (F0 m (pc + 3) ls (v.toList ++ rest))) : W p l e R s m args below meth c H locs cells slots Q (F0 m pc ls st0) :=
  ck_go (As := .ref (ad_ w k i) :: As) (vx_runV (Ts := nd_) ⟨cx.1, cx.2.1, cx.2.2.1, cx.2.2.2.1, cx.2.2.2.2.1⟩ hM (ck_wV cx cw him hse hlk hrc hrs hR) ⟨(ck_pre cx hW hS _).1, va_recv cx.2.2.2.2.2.1 (rg_one hW hi he) (q0 := 0) hc rfl, (ck_pre cx hW hS _).2⟩ rfl hn hl.1 hstk (lv_room hq) hd hf) hS kk
/-- a static call that throws, and nothing here catches it -/
theorem ct_S (cx : Cx_ p s m c args cc nL own w) (hlk : meth.locks = false) (hno : ∀ x ∈ c.exceptionTable.toList, False) (hW : Hd_ w a H) (hS : Fr_ w s.heap H locs) {lv : List (Nat × Value)} (hl : lv_has ls nL lv) (hM : Fn_ l w y (.code y cY maxL ret) rm mc' ms' As a (.inr E) a1) (cw : Cw_ y (.code y cY maxL ret) n) (hst : Cond.static y ∈ nd_) (hlk2 : Cond.methodLink own index y ∈ nd_)
    (hn : As.length = n) (hstk : st0 = As.reverse ++ rest) (hq : (rest.map fun v => v.category).sum ≤ 8) (hrc : rm.cells = mc') (hrs : rm.slots = ms') (hR : rm.frames + 1 ≤ R.frames ∧ 8 + (maxL + 11) + rm.locals ≤ R.locals) (hf : cells + mc' ≤ R.cells ∧ slots + ms' ≤ R.slots) (hd : decode cc pc = .ok (.invokestatic index, 3))
    (hc : cells + mc' ≤ mc) (hs : slots + ms' ≤ ms) (ho : out = .inr E) (ha : a' = a1) : W p l e R s m args below meth c H locs cells slots (vx_MQ below (Qc_ w out a') (XC_ w out a') args s mc ms (fun q => lo_ w ≤ q)) (F0 m pc ls st0) :=
  ct_go (As := As) (vx_runS (Ts := nd_) ⟨cx.1, cx.2.1, cx.2.2.1, cx.2.2.2.1, cx.2.2.2.2.1⟩ hM (ck_wS cx cw hst hlk2 hrc hrs hR) (ck_pre cx hW hS As) rfl hn hl.1 hstk (lv_room hq) hd hf) hS hno hlk hc hs ho ha
end CR
/-! a comparison of longs and the branch behind it, at once -/
section CL
variable {p : Program} {l : Launch} {e : Env} {R : Room} {s : State} {m : MethodId} {args : Array Value} {below : List Frame} {meth : Method} {c : Code} {H : Heap} {locs : List Loc} {cells slots : Nat} {Q : State → Prop}
variable {cc : ByteArray} {pc tgt : Nat} {ls : Array Slot} {rest : List Value} {x y : Int64} {off : Int}
theorem lc_cmp (x y : Int64) : (lg_cmp x y = 0 ↔ x = y) ∧ (lg_cmp x y < 0 ↔ x < y) ∧ (0 ≤ lg_cmp x y ↔ y ≤ x) ∧ (0 < lg_cmp x y ↔ y < x) ∧ (lg_cmp x y ≤ 0 ↔ x ≤ y) := by
  unfold lg_cmp
  simp only [gt_iff_lt, Int64.lt_iff_toInt_lt, Int64.le_iff_toInt_le, ← Int64.toInt_inj]
  repeat' split
  · refine ⟨?_, ?_, ?_, ?_, ?_⟩ <;> constructor <;> intro h <;> first | omega | (exact absurd h (by decide)) | decide
  · refine ⟨?_, ?_, ?_, ?_, ?_⟩ <;> constructor <;> intro h <;> first | omega | (exact absurd h (by decide)) | decide
  · refine ⟨?_, ?_, ?_, ?_, ?_⟩ <;> constructor <;> intro h <;> first | omega | (exact absurd h (by decide)) | decide
theorem lc_eq (hx : p.tables.exec = Jvm.exec) (hb : c.code = cc) (d0 : decode cc pc = .ok (.lcmp, 1)) (d1 : decode cc (pc + 1) = .ok (.ifCond .eq off, 3)) (ht : ((pc + 1 : Nat) : Int) + off = (tgt : Int))
    (kt : x = y → W p l e R s m args below meth c H locs cells slots Q (F0 m tgt ls rest)) (kf : ¬ x = y → W p l e R s m args below meth c H locs cells slots Q (F0 m (pc + 4) ls rest)) : W p l e R s m args below meth c H locs cells slots Q (F0 m pc ls (.long y :: .long x :: rest)) :=
  W.lcmp hx hb d0 (lv_if_eq hx hb d1 ht (fun h => kt ((lc_cmp x y).1.mp h)) (fun h => kf (fun q => h ((lc_cmp x y).1.mpr q))))
theorem lc_ne (hx : p.tables.exec = Jvm.exec) (hb : c.code = cc) (d0 : decode cc pc = .ok (.lcmp, 1)) (d1 : decode cc (pc + 1) = .ok (.ifCond .ne off, 3)) (ht : ((pc + 1 : Nat) : Int) + off = (tgt : Int))
    (kt : ¬ x = y → W p l e R s m args below meth c H locs cells slots Q (F0 m tgt ls rest)) (kf : x = y → W p l e R s m args below meth c H locs cells slots Q (F0 m (pc + 4) ls rest)) : W p l e R s m args below meth c H locs cells slots Q (F0 m pc ls (.long y :: .long x :: rest)) :=
  W.lcmp hx hb d0 (lv_if_ne hx hb d1 ht (fun h => kt (fun q => h ((lc_cmp x y).1.mpr q))) (fun h => kf ((lc_cmp x y).1.mp h)))
theorem lc_lt (hx : p.tables.exec = Jvm.exec) (hb : c.code = cc) (d0 : decode cc pc = .ok (.lcmp, 1)) (d1 : decode cc (pc + 1) = .ok (.ifCond .lt off, 3)) (ht : ((pc + 1 : Nat) : Int) + off = (tgt : Int))
    (kt : x < y → W p l e R s m args below meth c H locs cells slots Q (F0 m tgt ls rest)) (kf : ¬ x < y → W p l e R s m args below meth c H locs cells slots Q (F0 m (pc + 4) ls rest)) : W p l e R s m args below meth c H locs cells slots Q (F0 m pc ls (.long y :: .long x :: rest)) :=
  W.lcmp hx hb d0 (lv_if_lt hx hb d1 ht (fun h => kt ((lc_cmp x y).2.1.mp h)) (fun h => kf (fun q => h ((lc_cmp x y).2.1.mpr q))))
theorem lc_ge (hx : p.tables.exec = Jvm.exec) (hb : c.code = cc) (d0 : decode cc pc = .ok (.lcmp, 1)) (d1 : decode cc (pc + 1) = .ok (.ifCond .ge off, 3)) (ht : ((pc + 1 : Nat) : Int) + off = (tgt : Int))
    (kt : y ≤ x → W p l e R s m args below meth c H locs cells slots Q (F0 m tgt ls rest)) (kf : ¬ y ≤ x → W p l e R s m args below meth c H locs cells slots Q (F0 m (pc + 4) ls rest)) : W p l e R s m args below meth c H locs cells slots Q (F0 m pc ls (.long y :: .long x :: rest)) :=
  W.lcmp hx hb d0 (lv_if_ge hx hb d1 ht (fun h => kt ((lc_cmp x y).2.2.1.mp h)) (fun h => kf (fun q => h ((lc_cmp x y).2.2.1.mpr q))))
theorem lc_gt (hx : p.tables.exec = Jvm.exec) (hb : c.code = cc) (d0 : decode cc pc = .ok (.lcmp, 1)) (d1 : decode cc (pc + 1) = .ok (.ifCond .gt off, 3)) (ht : ((pc + 1 : Nat) : Int) + off = (tgt : Int))
    (kt : y < x → W p l e R s m args below meth c H locs cells slots Q (F0 m tgt ls rest)) (kf : ¬ y < x → W p l e R s m args below meth c H locs cells slots Q (F0 m (pc + 4) ls rest)) : W p l e R s m args below meth c H locs cells slots Q (F0 m pc ls (.long y :: .long x :: rest)) :=
  W.lcmp hx hb d0 (lv_if_gt hx hb d1 ht (fun h => kt ((lc_cmp x y).2.2.2.1.mp h)) (fun h => kf (fun q => h ((lc_cmp x y).2.2.2.1.mpr q))))
theorem lc_le (hx : p.tables.exec = Jvm.exec) (hb : c.code = cc) (d0 : decode cc pc = .ok (.lcmp, 1)) (d1 : decode cc (pc + 1) = .ok (.ifCond .le off, 3)) (ht : ((pc + 1 : Nat) : Int) + off = (tgt : Int))
    (kt : x ≤ y → W p l e R s m args below meth c H locs cells slots Q (F0 m tgt ls rest)) (kf : ¬ x ≤ y → W p l e R s m args below meth c H locs cells slots Q (F0 m (pc + 4) ls rest)) : W p l e R s m args below meth c H locs cells slots Q (F0 m pc ls (.long y :: .long x :: rest)) :=
  W.lcmp hx hb d0 (lv_if_le hx hb d1 ht (fun h => kt ((lc_cmp x y).2.2.2.2.mp h)) (fun h => kf (fun q => h ((lc_cmp x y).2.2.2.2.mpr q))))
end CL
theorem nI_inc (i : Nat) : nI i + Int32.ofInt 1 = nI (i + 1) := by rw [lit1]; exact nI_1 i
theorem nI_dec (i : Nat) : nI (i + 1) + Int32.ofInt (-1) = nI i := by rw [litm1]; exact pk_m1 i
