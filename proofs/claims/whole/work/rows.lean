section
-- ===== PART A: goes FIRST, ahead of the names: the tables' words, and 'selects' of the private methods out of them =====
/-- a private method of a class that the tables say can be made, by its rows of tables_1 -/
def lw_okq (q : MethodName × Nat) : Prop := (q.1.cls ≠ "java/lang/invoke/MethodHandle" ∧ q.1.cls ≠ "java/lang/invoke/VarHandle") ∧ Cond.instantiable q.1.cls q.2 ∈ tables_1 ∧ Cond.privateMethod q.1 ∈ tables_1 ∧ Cond.instanceMethod q.1 ∈ tables_1
theorem lw_p0 : lw_okq (⟨"MarginHouse", "shortfallOf", "(LMarginHouse$Member;)J"⟩, 10) := ⟨⟨by decide +kernel, by decide +kernel⟩, List.mem_of_getElem? (i := 14) (by decide +kernel), List.mem_of_getElem? (i := 161) (by decide +kernel), List.mem_of_getElem? (i := 162) (by decide +kernel)⟩
theorem lw_p1 : lw_okq (⟨"MarginHouse", "marginOf", "(LMarginHouse$Member;)J"⟩, 10) := ⟨⟨by decide +kernel, by decide +kernel⟩, List.mem_of_getElem? (i := 14) (by decide +kernel), List.mem_of_getElem? (i := 165) (by decide +kernel), List.mem_of_getElem? (i := 166) (by decide +kernel)⟩
theorem lw_p2 : lw_okq (⟨"MarginHouse", "lossUnder", "([ILMarginHouse$Member;)J"⟩, 10) := ⟨⟨by decide +kernel, by decide +kernel⟩, List.mem_of_getElem? (i := 14) (by decide +kernel), List.mem_of_getElem? (i := 169) (by decide +kernel), List.mem_of_getElem? (i := 170) (by decide +kernel)⟩
theorem lw_p3 : lw_okq (⟨"MarginHouse", "extraOf", "(LMarginHouse$Member;)J"⟩, 10) := ⟨⟨by decide +kernel, by decide +kernel⟩, List.mem_of_getElem? (i := 14) (by decide +kernel), List.mem_of_getElem? (i := 176) (by decide +kernel), List.mem_of_getElem? (i := 177) (by decide +kernel)⟩
theorem lw_p4 : lw_okq (⟨"java/lang/Throwable", "fillInStackTrace", "(I)Ljava/lang/Throwable;"⟩, 6) := ⟨⟨by decide +kernel, by decide +kernel⟩, List.mem_of_getElem? (i := 235) (by decide +kernel), List.mem_of_getElem? (i := 233) (by decide +kernel), List.mem_of_getElem? (i := 234) (by decide +kernel)⟩
theorem lw_p5 : lw_okq (⟨"MarginHouse", "isInstrument", "(I)Z"⟩, 10) := ⟨⟨by decide +kernel, by decide +kernel⟩, List.mem_of_getElem? (i := 14) (by decide +kernel), List.mem_of_getElem? (i := 289) (by decide +kernel), List.mem_of_getElem? (i := 290) (by decide +kernel)⟩
theorem lw_p6 : lw_okq (⟨"MarginHouse", "isMember", "(I)Z"⟩, 10) := ⟨⟨by decide +kernel, by decide +kernel⟩, List.mem_of_getElem? (i := 14) (by decide +kernel), List.mem_of_getElem? (i := 301) (by decide +kernel), List.mem_of_getElem? (i := 302) (by decide +kernel)⟩
theorem lw_p7 : lw_okq (⟨"MarginHouse", "countLiveBelowZero", "()I"⟩, 10) := ⟨⟨by decide +kernel, by decide +kernel⟩, List.mem_of_getElem? (i := 14) (by decide +kernel), List.mem_of_getElem? (i := 356) (by decide +kernel), List.mem_of_getElem? (i := 357) (by decide +kernel)⟩
theorem lw_p8 : lw_okq (⟨"MarginHouse", "startPlan", "()V"⟩, 10) := ⟨⟨by decide +kernel, by decide +kernel⟩, List.mem_of_getElem? (i := 14) (by decide +kernel), List.mem_of_getElem? (i := 381) (by decide +kernel), List.mem_of_getElem? (i := 382) (by decide +kernel)⟩
theorem lw_p9 : lw_okq (⟨"MarginHouse", "planTakers", "(I)Z"⟩, 10) := ⟨⟨by decide +kernel, by decide +kernel⟩, List.mem_of_getElem? (i := 14) (by decide +kernel), List.mem_of_getElem? (i := 385) (by decide +kernel), List.mem_of_getElem? (i := 386) (by decide +kernel)⟩
theorem lw_p10 : lw_okq (⟨"MarginHouse", "leastBidder", "(I)I"⟩, 10) := ⟨⟨by decide +kernel, by decide +kernel⟩, List.mem_of_getElem? (i := 14) (by decide +kernel), List.mem_of_getElem? (i := 389) (by decide +kernel), List.mem_of_getElem? (i := 390) (by decide +kernel)⟩
theorem lw_p11 : lw_okq (⟨"MarginHouse", "planTaking", "(III)Z"⟩, 10) := ⟨⟨by decide +kernel, by decide +kernel⟩, List.mem_of_getElem? (i := 14) (by decide +kernel), List.mem_of_getElem? (i := 393) (by decide +kernel), List.mem_of_getElem? (i := 394) (by decide +kernel)⟩
theorem lw_p12 : lw_okq (⟨"MarginHouse", "planLayers", "(I)V"⟩, 10) := ⟨⟨by decide +kernel, by decide +kernel⟩, List.mem_of_getElem? (i := 14) (by decide +kernel), List.mem_of_getElem? (i := 397) (by decide +kernel), List.mem_of_getElem? (i := 398) (by decide +kernel)⟩
theorem lw_p13 : lw_okq (⟨"MarginHouse$Plan", "bear", "(IJ)V"⟩, 7) := ⟨⟨by decide +kernel, by decide +kernel⟩, List.mem_of_getElem? (i := 28) (by decide +kernel), List.mem_of_getElem? (i := 413) (by decide +kernel), List.mem_of_getElem? (i := 414) (by decide +kernel)⟩
theorem lw_p14 : lw_okq (⟨"MarginHouse", "weighContributions", "()V"⟩, 10) := ⟨⟨by decide +kernel, by decide +kernel⟩, List.mem_of_getElem? (i := 14) (by decide +kernel), List.mem_of_getElem? (i := 421) (by decide +kernel), List.mem_of_getElem? (i := 422) (by decide +kernel)⟩
theorem lw_p15 : lw_okq (⟨"MarginHouse$Shares", "bearWhole", "()V"⟩, 3) := ⟨⟨by decide +kernel, by decide +kernel⟩, List.mem_of_getElem? (i := 34) (by decide +kernel), List.mem_of_getElem? (i := 433) (by decide +kernel), List.mem_of_getElem? (i := 434) (by decide +kernel)⟩
def lw_privs_1 : List (MethodName × Nat) := [(⟨"MarginHouse", "shortfallOf", "(LMarginHouse$Member;)J"⟩, 10), (⟨"MarginHouse", "marginOf", "(LMarginHouse$Member;)J"⟩, 10), (⟨"MarginHouse", "lossUnder", "([ILMarginHouse$Member;)J"⟩, 10), (⟨"MarginHouse", "extraOf", "(LMarginHouse$Member;)J"⟩, 10), (⟨"java/lang/Throwable", "fillInStackTrace", "(I)Ljava/lang/Throwable;"⟩, 6), (⟨"MarginHouse", "isInstrument", "(I)Z"⟩, 10), (⟨"MarginHouse", "isMember", "(I)Z"⟩, 10), (⟨"MarginHouse", "countLiveBelowZero", "()I"⟩, 10), (⟨"MarginHouse", "startPlan", "()V"⟩, 10), (⟨"MarginHouse", "planTakers", "(I)Z"⟩, 10), (⟨"MarginHouse", "leastBidder", "(I)I"⟩, 10), (⟨"MarginHouse", "planTaking", "(III)Z"⟩, 10), (⟨"MarginHouse", "planLayers", "(I)V"⟩, 10), (⟨"MarginHouse$Plan", "bear", "(IJ)V"⟩, 7), (⟨"MarginHouse", "weighContributions", "()V"⟩, 10), (⟨"MarginHouse$Shares", "bearWhole", "()V"⟩, 3)]
theorem lw_r1 : ∀ q ∈ lw_privs_1, lw_okq q := List.forall_mem_cons.mpr ⟨lw_p0, List.forall_mem_cons.mpr ⟨lw_p1, List.forall_mem_cons.mpr ⟨lw_p2, List.forall_mem_cons.mpr ⟨lw_p3, List.forall_mem_cons.mpr ⟨lw_p4, List.forall_mem_cons.mpr ⟨lw_p5, List.forall_mem_cons.mpr ⟨lw_p6, List.forall_mem_cons.mpr ⟨lw_p7, List.forall_mem_cons.mpr ⟨lw_p8, List.forall_mem_cons.mpr ⟨lw_p9, List.forall_mem_cons.mpr ⟨lw_p10, List.forall_mem_cons.mpr ⟨lw_p11, List.forall_mem_cons.mpr ⟨lw_p12, List.forall_mem_cons.mpr ⟨lw_p13, List.forall_mem_cons.mpr ⟨lw_p14, List.forall_mem_cons.mpr ⟨lw_p15, fun _ h => absurd h List.not_mem_nil⟩⟩⟩⟩⟩⟩⟩⟩⟩⟩⟩⟩⟩⟩⟩⟩
theorem lw_p16 : lw_okq (⟨"MarginHouse$Shares", "bearRounded", "(JJ)V"⟩, 3) := ⟨⟨by decide +kernel, by decide +kernel⟩, List.mem_of_getElem? (i := 34) (by decide +kernel), List.mem_of_getElem? (i := 437) (by decide +kernel), List.mem_of_getElem? (i := 438) (by decide +kernel)⟩
theorem lw_p17 : lw_okq (⟨"MarginHouse$Shares", "roundDown", "(IJJ)V"⟩, 3) := ⟨⟨by decide +kernel, by decide +kernel⟩, List.mem_of_getElem? (i := 34) (by decide +kernel), List.mem_of_getElem? (i := 441) (by decide +kernel), List.mem_of_getElem? (i := 442) (by decide +kernel)⟩
theorem lw_p18 : lw_okq (⟨"MarginHouse$Shares", "giveOneMore", "()V"⟩, 3) := ⟨⟨by decide +kernel, by decide +kernel⟩, List.mem_of_getElem? (i := 34) (by decide +kernel), List.mem_of_getElem? (i := 446) (by decide +kernel), List.mem_of_getElem? (i := 447) (by decide +kernel)⟩
theorem lw_p19 : lw_okq (⟨"MarginHouse", "weighCalls", "()V"⟩, 10) := ⟨⟨by decide +kernel, by decide +kernel⟩, List.mem_of_getElem? (i := 14) (by decide +kernel), List.mem_of_getElem? (i := 451) (by decide +kernel), List.mem_of_getElem? (i := 452) (by decide +kernel)⟩
theorem lw_p20 : lw_okq (⟨"MarginHouse", "carryOutPlan", "(I)V"⟩, 10) := ⟨⟨by decide +kernel, by decide +kernel⟩, List.mem_of_getElem? (i := 14) (by decide +kernel), List.mem_of_getElem? (i := 464) (by decide +kernel), List.mem_of_getElem? (i := 465) (by decide +kernel)⟩
theorem lw_p21 : lw_okq (⟨"MarginHouse", "sumCash", "()J"⟩, 10) := ⟨⟨by decide +kernel, by decide +kernel⟩, List.mem_of_getElem? (i := 14) (by decide +kernel), List.mem_of_getElem? (i := 499) (by decide +kernel), List.mem_of_getElem? (i := 500) (by decide +kernel)⟩
theorem lw_p22 : lw_okq (⟨"MarginHouse", "sumContributions", "()J"⟩, 10) := ⟨⟨by decide +kernel, by decide +kernel⟩, List.mem_of_getElem? (i := 14) (by decide +kernel), List.mem_of_getElem? (i := 503) (by decide +kernel), List.mem_of_getElem? (i := 504) (by decide +kernel)⟩
theorem lw_p23 : lw_okq (⟨"MarginHouse", "sumUnitsOpen", "()J"⟩, 10) := ⟨⟨by decide +kernel, by decide +kernel⟩, List.mem_of_getElem? (i := 14) (by decide +kernel), List.mem_of_getElem? (i := 507) (by decide +kernel), List.mem_of_getElem? (i := 508) (by decide +kernel)⟩
theorem lw_p24 : lw_okq (⟨"MarginHouseModel", "isInstrument", "(I)Z"⟩, 24) := ⟨⟨by decide +kernel, by decide +kernel⟩, List.mem_of_getElem? (i := 514) (by decide +kernel), List.mem_of_getElem? (i := 624) (by decide +kernel), List.mem_of_getElem? (i := 625) (by decide +kernel)⟩
theorem lw_p25 : lw_okq (⟨"MarginHouseModel", "isMember", "(I)Z"⟩, 24) := ⟨⟨by decide +kernel, by decide +kernel⟩, List.mem_of_getElem? (i := 514) (by decide +kernel), List.mem_of_getElem? (i := 633) (by decide +kernel), List.mem_of_getElem? (i := 634) (by decide +kernel)⟩
theorem lw_p26 : lw_okq (⟨"MarginHouseModel", "marginOf", "(I)J"⟩, 24) := ⟨⟨by decide +kernel, by decide +kernel⟩, List.mem_of_getElem? (i := 514) (by decide +kernel), List.mem_of_getElem? (i := 645) (by decide +kernel), List.mem_of_getElem? (i := 646) (by decide +kernel)⟩
theorem lw_p27 : lw_okq (⟨"MarginHouseModel", "callOf", "(I)J"⟩, 24) := ⟨⟨by decide +kernel, by decide +kernel⟩, List.mem_of_getElem? (i := 514) (by decide +kernel), List.mem_of_getElem? (i := 668) (by decide +kernel), List.mem_of_getElem? (i := 669) (by decide +kernel)⟩
theorem lw_p28 : lw_okq (⟨"MarginHouseModel", "give", "(II)V"⟩, 24) := ⟨⟨by decide +kernel, by decide +kernel⟩, List.mem_of_getElem? (i := 514) (by decide +kernel), List.mem_of_getElem? (i := 680) (by decide +kernel), List.mem_of_getElem? (i := 681) (by decide +kernel)⟩
theorem lw_p29 : lw_okq (⟨"MarginHouseModel", "bestBid", "(I)I"⟩, 24) := ⟨⟨by decide +kernel, by decide +kernel⟩, List.mem_of_getElem? (i := 514) (by decide +kernel), List.mem_of_getElem? (i := 684) (by decide +kernel), List.mem_of_getElem? (i := 685) (by decide +kernel)⟩
theorem lw_p30 : lw_okq (⟨"MarginHouseModel", "change", "(IJ)V"⟩, 24) := ⟨⟨by decide +kernel, by decide +kernel⟩, List.mem_of_getElem? (i := 514) (by decide +kernel), List.mem_of_getElem? (i := 688) (by decide +kernel), List.mem_of_getElem? (i := 689) (by decide +kernel)⟩
theorem lw_p31 : lw_okq (⟨"MarginHouseModel", "wouldLose", "(I)J"⟩, 24) := ⟨⟨by decide +kernel, by decide +kernel⟩, List.mem_of_getElem? (i := 514) (by decide +kernel), List.mem_of_getElem? (i := 692) (by decide +kernel), List.mem_of_getElem? (i := 693) (by decide +kernel)⟩
def lw_privs_2 : List (MethodName × Nat) := [(⟨"MarginHouse$Shares", "bearRounded", "(JJ)V"⟩, 3), (⟨"MarginHouse$Shares", "roundDown", "(IJJ)V"⟩, 3), (⟨"MarginHouse$Shares", "giveOneMore", "()V"⟩, 3), (⟨"MarginHouse", "weighCalls", "()V"⟩, 10), (⟨"MarginHouse", "carryOutPlan", "(I)V"⟩, 10), (⟨"MarginHouse", "sumCash", "()J"⟩, 10), (⟨"MarginHouse", "sumContributions", "()J"⟩, 10), (⟨"MarginHouse", "sumUnitsOpen", "()J"⟩, 10), (⟨"MarginHouseModel", "isInstrument", "(I)Z"⟩, 24), (⟨"MarginHouseModel", "isMember", "(I)Z"⟩, 24), (⟨"MarginHouseModel", "marginOf", "(I)J"⟩, 24), (⟨"MarginHouseModel", "callOf", "(I)J"⟩, 24), (⟨"MarginHouseModel", "give", "(II)V"⟩, 24), (⟨"MarginHouseModel", "bestBid", "(I)I"⟩, 24), (⟨"MarginHouseModel", "change", "(IJ)V"⟩, 24), (⟨"MarginHouseModel", "wouldLose", "(I)J"⟩, 24)]
theorem lw_r2 : ∀ q ∈ lw_privs_2, lw_okq q := List.forall_mem_cons.mpr ⟨lw_p16, List.forall_mem_cons.mpr ⟨lw_p17, List.forall_mem_cons.mpr ⟨lw_p18, List.forall_mem_cons.mpr ⟨lw_p19, List.forall_mem_cons.mpr ⟨lw_p20, List.forall_mem_cons.mpr ⟨lw_p21, List.forall_mem_cons.mpr ⟨lw_p22, List.forall_mem_cons.mpr ⟨lw_p23, List.forall_mem_cons.mpr ⟨lw_p24, List.forall_mem_cons.mpr ⟨lw_p25, List.forall_mem_cons.mpr ⟨lw_p26, List.forall_mem_cons.mpr ⟨lw_p27, List.forall_mem_cons.mpr ⟨lw_p28, List.forall_mem_cons.mpr ⟨lw_p29, List.forall_mem_cons.mpr ⟨lw_p30, List.forall_mem_cons.mpr ⟨lw_p31, fun _ h => absurd h List.not_mem_nil⟩⟩⟩⟩⟩⟩⟩⟩⟩⟩⟩⟩⟩⟩⟩⟩
theorem lw_p32 : lw_okq (⟨"MarginHouseModel", "bear", "(I)J"⟩, 24) := ⟨⟨by decide +kernel, by decide +kernel⟩, List.mem_of_getElem? (i := 514) (by decide +kernel), List.mem_of_getElem? (i := 696) (by decide +kernel), List.mem_of_getElem? (i := 697) (by decide +kernel)⟩
theorem lw_p33 : lw_okq (⟨"MarginHouseModel", "share", "(J)J"⟩, 24) := ⟨⟨by decide +kernel, by decide +kernel⟩, List.mem_of_getElem? (i := 514) (by decide +kernel), List.mem_of_getElem? (i := 700) (by decide +kernel), List.mem_of_getElem? (i := 701) (by decide +kernel)⟩
theorem lw_p34 : lw_okq (⟨"MarginHouseModel", "divide", "(IJJ)V"⟩, 24) := ⟨⟨by decide +kernel, by decide +kernel⟩, List.mem_of_getElem? (i := 514) (by decide +kernel), List.mem_of_getElem? (i := 704) (by decide +kernel), List.mem_of_getElem? (i := 705) (by decide +kernel)⟩
def lw_privs_3 : List (MethodName × Nat) := [(⟨"MarginHouseModel", "bear", "(I)J"⟩, 24), (⟨"MarginHouseModel", "share", "(J)J"⟩, 24), (⟨"MarginHouseModel", "divide", "(IJJ)V"⟩, 24)]
theorem lw_r3 : ∀ q ∈ lw_privs_3, lw_okq q := List.forall_mem_cons.mpr ⟨lw_p32, List.forall_mem_cons.mpr ⟨lw_p33, List.forall_mem_cons.mpr ⟨lw_p34, fun _ h => absurd h List.not_mem_nil⟩⟩⟩
def lw_privs : List (MethodName × Nat) := lw_privs_1 ++ (lw_privs_2 ++ (lw_privs_3))
def lw_tbl : List Cond := k2_sels lw_privs ++ tables_1
theorem lw_privs_ok : ∀ q ∈ lw_privs, lw_okq q := by
  show ∀ q ∈ lw_privs_1 ++ (lw_privs_2 ++ (lw_privs_3)), lw_okq q
  exact List.forall_mem_append.mpr ⟨lw_r1, List.forall_mem_append.mpr ⟨lw_r2, lw_r3⟩⟩

/-! A THROW CAUGHT BY A ROW WHOSE CLASS MAY NOT BE RESOLVED YET: the search through a table resolves what it asks, so the tables get warmer. -/
theorem kc_go {e : Env} {s0 : State} {f : JFrame} {a : Addr} {cell : Cell} (hobj : ∀ k, cell.vm ≠ .statics k) (hk0 : ∃ k, s0.vm.classes[cell.cls]? = some k)
    (x : ExceptionTableEntry) (suf : List ExceptionTableEntry) (hx : covers x f.pc = true) (h0 : x.catchType ≠ 0) {cx : ClassId} (hl : s0.vm.ClassLinks e.platform f.method.cls x.catchType cx) (hfit : s0.vm.assignable cell.cls cx = true) :
    ∀ (pre : List ExceptionTableEntry) (S : State), s0.WarmedH S.vm → S.heap[a]? = some cell →
      (∀ y ∈ pre, covers y f.pc = false ∨ (y.catchType ≠ 0 ∧ ∃ c, s0.vm.ClassLinks e.platform f.method.cls y.catchType c ∧ s0.vm.assignable cell.cls c = false)) →
      ∃ vm', s0.WarmedH vm' ∧ ∀ (Q : Handler → Pre) (E : CtlPost) (d : Bool) (acts : List Action), wp (findHandler.go f a (pre ++ x :: suf)) Q E e d acts S ↔ Q (.found x.handlerPc) d acts (S.setVm vm') := by
  obtain ⟨k0, hk0⟩ := hk0
  intro pre
  induction pre with
  | nil =>
    intro S hW hcell _
    obtain ⟨dk, _, _, kt, hd, _, _, _, _, hkt, _, hopen⟩ := hl.here
    have hl' := hW.classLinks hl
    obtain ⟨ha, ht⟩ := (resolveClass_links e.toSetting hl').op (op := VmOp.resolveClass f.method.cls x.catchType) rfl
    have hal : s0.vm.Alike (S.vm.noted f.method.cls x.catchType (.cls cx)) := hW.alike.trans ((Vm.Alike.refl S.vm).noted _ _ _)
    obtain ⟨k1, hk1, -⟩ := hal.2.2 _ _ hk0
    obtain ⟨k2, hk2, -⟩ := hal.2.2 _ _ hkt
    have hf' : (S.vm.noted f.method.cls x.catchType (.cls cx)).assignable cell.cls cx = true := by rw [hal.assignable]; exact hfit
    simp only [covers] at hx
    exact ⟨_, hW.noted hd hopen (State.rightAt_cls hl), fun Q E d acts => by
      simp [findHandler.go, hx, h0, ha, ht, hcell, hobj, hk1, hk2, hf', VmOp.dirties, VmOp.acts]⟩
  | cons y ys ih =>
    intro S hW hcell hpass
    have hys : ∀ z ∈ ys, covers z f.pc = false ∨ (z.catchType ≠ 0 ∧ ∃ c, s0.vm.ClassLinks e.platform f.method.cls z.catchType c ∧ s0.vm.assignable cell.cls c = false) := fun z hz => hpass z (List.mem_cons_of_mem _ hz)
    by_cases hcov : covers y f.pc = true
    · rcases hpass y List.mem_cons_self with h | ⟨hy0, c, hly, hno⟩
      · rw [h] at hcov; cases hcov
      · obtain ⟨dk, _, _, kt, hd, _, _, _, _, hkt, _, hopen⟩ := hly.here
        have hl' := hW.classLinks hly
        obtain ⟨ha, ht⟩ := (resolveClass_links e.toSetting hl').op (op := VmOp.resolveClass f.method.cls y.catchType) rfl
        have hal : s0.vm.Alike (S.vm.noted f.method.cls y.catchType (.cls c)) := hW.alike.trans ((Vm.Alike.refl S.vm).noted _ _ _)
        obtain ⟨k1, hk1, -⟩ := hal.2.2 _ _ hk0
        obtain ⟨k2, hk2, -⟩ := hal.2.2 _ _ hkt
        have hf' : (S.vm.noted f.method.cls y.catchType (.cls c)).assignable cell.cls c = false := by rw [hal.assignable]; exact hno
        obtain ⟨vm', hW', hq⟩ := ih (S.setVm (S.vm.noted f.method.cls y.catchType (.cls c))) (hW.noted hd hopen (State.rightAt_cls hly)) hcell hys
        simp only [covers] at hcov
        refine ⟨vm', hW', fun Q E d acts => ?_⟩
        rw [← show wp (findHandler.go f a (ys ++ x :: suf)) Q E e d acts (S.setVm (S.vm.noted f.method.cls y.catchType (.cls c))) ↔ Q (.found x.handlerPc) d acts (S.setVm vm') from hq Q E d acts, List.cons_append]
        simp [findHandler.go, hcov, hy0, ha, ht, hcell, hobj, hk1, hk2, hf', VmOp.dirties, VmOp.acts]
    · obtain ⟨vm', hW', hq⟩ := ih S hW hcell hys
      exact ⟨vm', hW', fun Q E d acts => by
        rw [List.cons_append, Jvm.W.findHandler_go_skip (by simpa using hcov)]
        exact hq Q E d acts⟩
theorem kc_through {p : Program} {l : Launch} {e : Env} {R : Room} {s : State} {m : MethodId} {args : Array Value} {below : List Frame} {meth : Method} {c : Code} {T : State} {locs : List Loc} {cells slots : Nat}
    (X : Stand p l e R s m args below meth c T locs cells slots) (a : Addr) {g : JFrame} (hg : g.method = m) {cell : Cell} (hcell : T.heap[a]? = some cell) (hobj : cell.vm.isStatics = false) (hk0 : ∃ k, s.vm.classes[cell.cls]? = some k)
    (pre : List ExceptionTableEntry) (x : ExceptionTableEntry) (suf : List ExceptionTableEntry) (hsplit : c.exceptionTable.toList = pre ++ x :: suf)
    (hpass : ∀ y ∈ pre, covers y g.pc = false ∨ (y.catchType ≠ 0 ∧ ∃ c, s.vm.ClassLinks e.platform m.cls y.catchType c ∧ s.vm.assignable cell.cls c = false)) (hx : covers x g.pc = true) (h0 : x.catchType ≠ 0) {cx : ClassId} (hl : s.vm.ClassLinks e.platform m.cls x.catchType cx) (hfit : s.vm.assignable cell.cls cx = true) :
    ∃ vm', Stand p l e R s m args below meth c (T.setVm vm') locs cells slots ∧ ∀ tg, Steps p.tables e below ((T.setVm vm').setTop { g with pc := x.handlerPc, stack := [.ref a] }) tg → Steps p.tables e below ((T.setTop g).pushFrame (.throwing a)) tg := by
  subst hg
  have hcellS : ((T.setTop g).pushFrame (.throwing a)).heap[a]? = some cell := hcell
  have hWS : s.WarmedH ((T.setTop g).pushFrame (.throwing a)).vm := X.warmed
  obtain ⟨vm', hW', hq⟩ := kc_go (e := e) (VmData.ne_statics_of hobj) hk0 x suf hx h0 hl hfit pre ((T.setTop g).pushFrame (.throwing a)) hWS hcellS hpass
  refine ⟨vm', X.noted hW', fun tg hrest => ?_⟩
  have h := X.here
  have hfind : ∀ (Q : Handler → Pre) (E : CtlPost) (d : Bool) (acts : List Action), wp (findHandler g a) Q E e d acts ((T.setTop g).pushFrame (.throwing a)) ↔ Q (.found x.handlerPc) d acts (((T.setTop g).pushFrame (.throwing a)).setVm vm') := by
    intro Q E d acts
    have hm : ((T.setTop g).pushFrame (.throwing a)).vm.method? g.method = some meth := X.method'
    rw [Jvm.W.findHandler_eq hm X.code, hsplit]
    exact hq Q E d acts
  obtain ⟨hgo, hw⟩ := h.throwing a
  refine Steps.head hgo hw ?_
  have hcatch : (stepThrowing e ((T.setTop g).pushFrame (.throwing a)) a (.java g :: T.frames.tail)).Is ((((T.setTop g).pushFrame (.throwing a)).setVm vm').setFrames (.java { g with pc := x.handlerPc, stack := [.ref a] } :: T.frames.tail)) [] := by
    simp only [stepThrowing, searchFrame, vmDo]
    generalize hr : Sem.go _ e false [] ((T.setTop g).pushFrame (.throwing a)) = res
    obtain ⟨as, rfl, ha⟩ := Sem.eq_ok_of hr (a := Handler.found x.handlerPc) (s' := ((T.setTop g).pushFrame (.throwing a)).setVm vm') (acts' := []) (by simp [hfind _ _ _ _])
    exact ⟨rfl, ha⟩
  rw [stepThread_throwing (frames_entered h.top _), hcatch.1]
  obtain ⟨g₀, hg0⟩ := Option.isSome_iff_exists.mp h.top
  obtain ⟨r, hr⟩ := State.topJava?_eq_some.mp hg0
  have hr' : (T.setVm vm').frames = .java g₀ :: r := hr
  rw [State.setTop_of_frames _ hr'] at hrest
  have h1 : ∀ (u : State) (F G : List Frame), ((u.setFrames F).setVm vm').setFrames G = (u.setVm vm').setFrames G := fun u F G => by
    rw [show (u.setFrames F).setVm vm' = (u.setVm vm').setFrames F from rfl, State.setFrames_setFrames]
  rw [hr, List.tail_cons, State.pushFrame, h1, State.setTop_of_frames _ hr, h1]
  exact hrest
/-! ===== BEGIN words of one list among another's, by their places ===== -/
theorem goodIn_r {big : List Cond} (ws : List Cond) (ps : List Nat) (hp : ws = ps.filterMap (fun i => big[i]?)) (h : ws.all goodWord = true) : GoodIn big ws := by
  intro w hw
  have h1 := List.all_eq_true.mp h w hw
  rw [hp] at hw
  obtain ⟨i, -, hi⟩ := List.mem_filterMap.mp hw
  have hm : w ∈ big := by first | exact List.mem_of_getElem? hi | exact List.getElem?_mem hi
  exact ⟨hm, good_of_word h1⟩
theorem goodIn_app {big a b : List Cond} (ha : GoodIn big a) (hb : GoodIn big b) : GoodIn big (a ++ b) := fun w h => (List.mem_append.mp h).elim (ha w) (hb w)
theorem goodIn_ca {big a b : List Cond} {c : Cond} (ha : GoodIn big (c :: a)) (hb : GoodIn big b) : GoodIn big (c :: (a ++ b)) := fun w h => (List.mem_cons.mp h).elim (fun e => ha w (List.mem_cons.mpr (Or.inl e))) (fun h => (List.mem_append.mp h).elim (fun h => ha w (List.mem_cons.mpr (Or.inr h))) (hb w))
theorem goodIn_sub {big ws : List Cond} (hm : ∀ w ∈ ws, w ∈ big) (h : ws.all goodWord = true) : GoodIn big ws := fun w hw => ⟨hm w hw, good_of_word (List.all_eq_true.mp h w hw)⟩
/-! ===== END ===== -/

/-! ===== BEGIN exceptions that leave a method, and their catching by the caller (launches without stack traces) ===== -/
section VXA
/-! The laws vx_back, vx_callV, vx_callS, vx_callSW, vx_throw0, vx_throwS follow proofs of the library, with one case more: JvmDerived/Free/Laws.lean (Back.of_free), Shelf42/LK1.lean (callV, callS), Shelf/KitTraced.lean (throwNew0V, throwNewS). -/
/-- where a method has thrown q: the class by its name, the cell, what was written, the world -/
def vx_T (XC : String → State → State → Prop) (st : State) (q : Addr) (t : State) (mc ms : Nat) (free : Addr → Prop) : Prop :=
  ∃ (E : String) (ce : Cell) (L : List Loc), XC E st t ∧ t.heap[q]? = some ce ∧ ce.vm = .none ∧ st.vm.findClass E = some ce.cls ∧ st.WarmedH t.vm ∧ st.sameButNew ({ t with vm := st.vm } : State) L mc ms ∧ ∀ z ∈ L, free z.base
def vx_Q (Qc : Array Value → State → Outcome → State → Prop) (XC : String → State → State → Prop) (mc ms : Nat) (free : Addr → Prop) : Array Value → State → Outcome → State → Prop := fun a st o t =>
  (Qc a st o t ∧ ∃ L, FrameEnd st o t L mc ms ∧ ∀ q ∈ L, free q.base) ∨ ∃ q, o = .threw q ∧ vx_T XC st q t mc ms free
/-- a callee that returns or throws -/
def vx_Met (l : Launch) (y : MethodName) (ws : List Cond) (rm : Room) (Pc : Array Value → State → Prop) (Qc : Array Value → State → Outcome → State → Prop) (XC : String → State → State → Prop) (mc ms : Nat) (free : Addr → Prop) : Prop :=
  MetFree l y (headSpec ws rm) Pc (fun _ _ _ _ _ => True) (vx_Q Qc XC mc ms free)
def vx_Post (XC : String → State → State → Prop) (mc ms : Nat) (free : Addr → Prop) : Pt → Array Value → Addr → Pt → Prop := fun A a q B =>
  ∃ (g : JFrame) (mk : MethodId) (t : State) (L : List Loc) (E : String) (ce : Cell), B.U.heap = t.heap ∧ B.U.vm = t.vm ∧ XC E (A.U.calling g mk a) t ∧ t.heap[q]? = some ce ∧ ce.vm = .none ∧ A.U.vm.findClass E = some ce.cls ∧ B.locs = A.locs ++ L ∧ (∀ z ∈ L, free z.base) ∧ B.cells = A.cells + mc ∧ B.slots = A.slots + ms
def vx_Back (l : Launch) (R : Room) (p : Program) (e : Env) (below : List Frame) (s : State) (sargs : Array Value) (y : MethodName) (len W9 : Nat)
    (Pre : Pt → Array Value → Prop) (Post : Pt → Array Value → Option Value → Pt → Prop) (PostX : Pt → Array Value → Addr → Pt → Prop) : Prop :=
  ∀ (m : MethodId) (meth : Method) (c : Code) (A : Pt) (g : JFrame) (ig : Instr) (mk : MethodId) (a : Array Value),
    Stand p l e R s m sargs below meth c A.U A.locs A.cells A.slots → g.method = m → g.locals.size = c.maxLocals → decode c.code g.pc = .ok (ig, len) →
    2 * g.monitorRoom + (g.stack.map fun v => v.category).sum ≤ W9 → A.U.methodNamed? y = some mk → Pre A a →
    (∃ (v : Option Value) (B : Pt), Stand p l e R s m sargs below meth c B.U B.locs B.cells B.slots ∧ Post A a v B ∧
      Steps p.tables e below (doInvoke e (A.U.setTop g) [] mk a).1 (B.U.setTop { g with pc := g.pc + len, stack := v.toList ++ g.stack })) ∨
    (∃ (q : Addr) (B : Pt), Stand p l e R s m sargs below meth c B.U B.locs B.cells B.slots ∧ PostX A a q B ∧
      Steps p.tables e below (doInvoke e (A.U.setTop g) [] mk a).1 ((B.U.setTop g).pushFrame (.throwing q)))
section Payer
variable {l : Launch} {R : Room} {p : Program} {e : Env} {below : List Frame} {s : State} {sargs : Array Value} {y : MethodName} {len W9 : Nat}
theorem vx_back {ws : List Cond} {rm : Room} {Pc : Array Value → State → Prop} {Qc : Array Value → State → Outcome → State → Prop} {XC : String → State → State → Prop} {mc ms : Nat} {free : Addr → Prop} {bytes : ByteArray} {maxL : Nat} {ret : Option FieldType}
    (hM : vx_Met l y ws rm Pc Qc XC mc ms free) (hblind : FrameBlind Pc) (hrc : rm.cells = mc) (hrs : rm.slots = ms)
    (hframes : rm.frames + 1 ≤ R.frames) (hlocals : W9 + (maxL + 11) + rm.locals ≤ R.locals)
    (hws : ∀ w ∈ ws, ∀ a' U, s.WarmedH U.vm → w.before a' U = true) (hcode : Cond.code y bytes maxL ret ∈ ws) (hinit : ∀ a' U, s.WarmedH U.vm → (Cond.initialized y.cls).before a' U = true) :
    vx_Back l R p e below s sargs y len W9 (PreOf R mc ms Pc) (PostOf Qc mc ms free) (vx_Post XC mc ms free) := by
  intro m meth c A g ig mk a X hg hsize hdg hW hn hp
  have h1 : (headSpec ws rm).pre.before a A.U = true := atoms_intro fun w hw => hws w hw _ _ X.warmed
  have h2 : (Cond.code y bytes maxL ret).before a A.U = true := hws _ hcode _ _ X.warmed
  have h3 : (Cond.initialized y.cls).before a A.U = true := hinit _ _ X.warmed
  have h4 : A.cells + (headSpec ws rm).room.cells ≤ R.cells := by rw [show (headSpec ws rm).room.cells = mc from hrc]; exact hp.1
  have h5 : A.slots + (headSpec ws rm).room.slots ≤ R.slots := by rw [show (headSpec ws rm).room.slots = ms from hrs]; exact hp.2.1
  have hPc : Pc a (A.U.calling g mk a) := hblind _ _ _ _ hp.2.2
  obtain ⟨U, Ls, c0, s0⟩ := A
  dsimp only [Pt.U, Pt.locs, Pt.cells, Pt.slots] at h1 h2 h3 h4 h5 X hn hPc ⊢
  obtain ⟨methY, cY, hmY, hcY, -, hlY, -, -, -, -⟩ := Cond.code_spec hn h2
  obtain ⟨kY, hkY, -⟩ := className_of_methodNamed hn
  have hinitY : kY.init = .initialized := Cond.initialized_spec (findClass_of_methodNamed hn) hkY h3
  have h : At U g.method c below := by rw [hg]; exact X.here
  have hlocals9 : W9 + (maxL + 11) + (headSpec ws rm).room.locals ≤ R.locals := hlocals
  have happ : (headSpec ws rm).appliesLoose y e.platform (U.calling g mk a) = true :=
    Spec.appliesLoose_calling (g := g) h hdg hn hkY hinitY
      (X.room_calling (g := g) (R' := (headSpec ws rm).room) hsize hmY hcY hframes (by rw [hlY]; omega) h4 h5) h1
  obtain ⟨mid, hmid⟩ := h.above
  have hfr : (U.setTop g).frames = (.java g :: mid) ++ below := by rw [State.frames_setTop' g h.top, hmid]; rfl
  obtain ⟨o, s₂, hsteps, -, hend, hq⟩ := Steps.callFree hM p X.admits X.cas X.clock (acts := []) hfr happ hPc trivial
  have hq' : vx_Q Qc XC mc ms free a (U.calling g mk a) o s₂ := hq
  rw [State.frames_setTop' g h.top] at hend
  obtain ⟨g₀, hg0⟩ := Option.isSome_iff_exists.mp h.top
  obtain ⟨r, hr⟩ := State.topJava?_eq_some.mp hg0
  have hr' : (({ U with heap := s₂.heap, slotsUsed := s₂.slotsUsed } : State).setVm s₂.vm).frames = .java g₀ :: r := hr
  rcases hq' with ⟨hqc, L, hfe, hL⟩ | ⟨q, rfl, E, ce, L, hx, hce, hcv, hcl, hW₂, hsm, hL⟩
  · obtain ⟨⟨v, rfl⟩, hW₂, e2, q2, q3, q4, q5, q6⟩ := id hfe
    have e3 : s₂ = ({ (U.calling g mk a).setFrames s₂.frames with heap := s₂.heap, slotsUsed := s₂.slotsUsed } : State).setVm s₂.vm := by
      have : s₂ = ({ s₂ with vm := (U.calling g mk a).vm } : State).setVm s₂.vm := rfl
      rw [e2] at this
      exact this
    obtain ⟨c₂, i₂, len₂, hc₂, hd₂, hf₂⟩ := hend
    have hW' : U.WarmedH s₂.vm := hW₂
    have hcc : c₂ = c := by
      have h1 : s₂.code? g.method = U.code? g.method := by
        rw [State.code?_eq, State.code?_eq, hW'.alike.method?]
      exact Option.some.inj (hc₂.symm.trans (h1.trans h.code))
    subst hcc
    have hlen : len₂ = len := by rw [hdg] at hd₂; cases hd₂; rfl
    subst hlen
    have hs₂ : s₂ = (({ U with heap := s₂.heap, slotsUsed := s₂.slotsUsed } : State).setVm s₂.vm).setTop { g with pc := g.pc + len₂, stack := v.toList ++ g.stack } := by
      refine e3.trans ?_
      rw [hf₂, State.calling_eq h.top, State.setFrames_setFrames, State.setTop_of_frames _ hr', hr]
      rfl
    have hsame : U.sameButNew ({ U with heap := s₂.heap, slotsUsed := s₂.slotsUsed } : State) L mc ms := by
      refine ⟨?_, q2, q3, q4, q5, q6⟩
      obtain ⟨t, ht, -⟩ := State.frames_cons hr
      show ({ U with heap := s₂.heap, slotsUsed := s₂.slotsUsed } : State) = { U.setFrames U.frames with heap := s₂.heap, slotsUsed := s₂.slotsUsed }
      rw [State.setFrames_self ht]
    subst hg
    refine Or.inl ⟨v, ⟨(({ U with heap := s₂.heap, slotsUsed := s₂.slotsUsed } : State).setVm s₂.vm), Ls ++ L, c0 + mc, s0 + ms⟩,
      ⟨X.admits, X.cas, X.clock, X.frames, X.room, X.hears, X.method, X.code, (X.here.setHeapUsed s₂.heap s₂.slotsUsed).setVm hW'.alike, X.tail, State.WarmedH.trans X.warmed hW', X.limits, X.bytes, X.same.trans (hsame.setVm s.vm)⟩,
      ⟨g, mk, s₂, L, rfl, rfl, hqc, rfl, hL, rfl, rfl⟩, ?_⟩
    show Steps p.tables e below _ ((({ U with heap := s₂.heap, slotsUsed := s₂.slotsUsed } : State).setVm s₂.vm).setTop { g with pc := g.pc + len₂, stack := v.toList ++ g.stack })
    rw [← hs₂]
    exact hsteps
  · obtain ⟨e2, q2, q3, q4, q5, q6⟩ := id hsm
    have e3 : s₂ = ({ (U.calling g mk a).setFrames s₂.frames with heap := s₂.heap, slotsUsed := s₂.slotsUsed } : State).setVm s₂.vm := by
      have : s₂ = ({ s₂ with vm := (U.calling g mk a).vm } : State).setVm s₂.vm := rfl
      rw [e2] at this
      exact this
    have hf₂ : s₂.frames = .throwing q :: .java g :: U.frames.tail := hend
    have hW' : U.WarmedH s₂.vm := hW₂
    have hs₂ : s₂ = ((({ U with heap := s₂.heap, slotsUsed := s₂.slotsUsed } : State).setVm s₂.vm).setTop g).pushFrame (.throwing q) := by
      refine e3.trans ?_
      rw [hf₂, State.calling_eq h.top, State.setFrames_setFrames, State.pushFrame, State.frames_setTop _ hr', State.setTop_of_frames _ hr', State.setFrames_setFrames, hr]
      rfl
    have hsame : U.sameButNew ({ U with heap := s₂.heap, slotsUsed := s₂.slotsUsed } : State) L mc ms := by
      refine ⟨?_, q2, q3, q4, q5, q6⟩
      obtain ⟨t, ht, -⟩ := State.frames_cons hr
      show ({ U with heap := s₂.heap, slotsUsed := s₂.slotsUsed } : State) = { U.setFrames U.frames with heap := s₂.heap, slotsUsed := s₂.slotsUsed }
      rw [State.setFrames_self ht]
    subst hg
    refine Or.inr ⟨q, ⟨(({ U with heap := s₂.heap, slotsUsed := s₂.slotsUsed } : State).setVm s₂.vm), Ls ++ L, c0 + mc, s0 + ms⟩,
      ⟨X.admits, X.cas, X.clock, X.frames, X.room, X.hears, X.method, X.code, (X.here.setHeapUsed s₂.heap s₂.slotsUsed).setVm hW'.alike, X.tail, State.WarmedH.trans X.warmed hW', X.limits, X.bytes, X.same.trans (hsame.setVm s.vm)⟩,
      ⟨g, mk, s₂, L, E, ce, rfl, rfl, hx, hce, hcv, hcl, rfl, hL, rfl, rfl⟩, ?_⟩
    show Steps p.tables e below _ (((({ U with heap := s₂.heap, slotsUsed := s₂.slotsUsed } : State).setVm s₂.vm).setTop g).pushFrame (.throwing q))
    rw [← hs₂]
    exact hsteps
end Payer
section Calls
variable {p : Program} {l : Launch} {e : Env} {R : Room} {s : State} {m : MethodId} {args : Array Value} {below : List Frame} {meth : Method} {c : Code} {T : State} {locs : List Loc} {cells slots : Nat}
theorem vx_callV (X : Stand p l e R s m args below meth c T locs cells slots) (hexec : p.tables.exec = Jvm.exec) {own C : String} {index : Nat} {y : MethodName} {bytes : ByteArray} {maxL : Nat} {ret : Option FieldType}
    (hown : s.vm.findClass own = some m.cls) (hlink : (Cond.methodLink own index y).before args s = true) (hinst : (Cond.instanceMethod y).before args s = true) (hsel : (Cond.selects C y y).before args s = true)
    (hcode : (Cond.code y bytes maxL ret).before args s = true) (hy : y.cls ≠ "java/lang/invoke/MethodHandle" ∧ y.cls ≠ "java/lang/invoke/VarHandle")
    {W9 : Nat} {Pre : Pt → Array Value → Prop} {Post : Pt → Array Value → Option Value → Pt → Prop} {PostX : Pt → Array Value → Addr → Pt → Prop} (hK : vx_Back l R p e below s args y 3 W9 Pre Post PostX)
    {b : Addr} {cellB : Cell} (hcell : T.heap[b]? = some cellB) (hobj : cellB.vm.isStatics = false) (hcls : s.vm.findClass C = some cellB.cls)
    {g : JFrame} (hg : g.method = m) (hsize : g.locals.size = c.maxLocals) {argsL rest : List Value} (hlen : ∀ sig, parseMethodDescriptor y.desc = some sig → argsL.length = sig.parameters.length)
    (hstack : g.stack = argsL.reverse ++ .ref b :: rest) (hW : 2 * g.monitorRoom + (rest.map fun v => v.category).sum ≤ W9) (hdg : decode c.code g.pc = .ok (.invokevirtual index, 3))
    (hpre : ∀ vm₁, s.WarmedH vm₁ → Pre ⟨T.setVm vm₁, locs, cells, slots⟩ (Value.ref b :: argsL).toArray) :
    (∃ (v : Option Value) (vm₁ : Vm) (B : Pt), s.WarmedH vm₁ ∧ Stand p l e R s m args below meth c B.U B.locs B.cells B.slots ∧ Post ⟨T.setVm vm₁, locs, cells, slots⟩ (Value.ref b :: argsL).toArray v B ∧
      ∀ target, Steps p.tables e below (B.U.setTop { g with pc := g.pc + 3, stack := v.toList ++ rest }) target → Steps p.tables e below (T.setTop g) target) ∨
    (∃ (q : Addr) (vm₁ : Vm) (B : Pt), s.WarmedH vm₁ ∧ Stand p l e R s m args below meth c B.U B.locs B.cells B.slots ∧ PostX ⟨T.setVm vm₁, locs, cells, slots⟩ (Value.ref b :: argsL).toArray q B ∧
      Steps p.tables e below (T.setTop g) ((B.U.setTop { g with stack := rest }).pushFrame (.throwing q))) := by
  obtain ⟨mk, methM, hnamed, hmethM, hstM, habM⟩ := Cond.instanceMethod_spec hinst
  obtain ⟨methM', cM, hmethM', -, -, -, -, -, -, hsigM⟩ := Cond.code_spec hnamed hcode
  cases hmethM.symm.trans hmethM'
  obtain ⟨c2, r2, m2, q1, q2, q3, q4, kP, hkP, hkPi⟩ := Cond.selects_spec hsel
  cases hcls.symm.trans q1
  cases (State.methodFound?_of_named hnamed hy).symm.trans q2
  cases hnamed.symm.trans q3
  have hselP : selectMethod e.platform s.vm cellB.cls mk = .method mk := by rw [Launch.admits_selectMethod X.admits]; exact q4
  obtain ⟨vm₁, X₁, hstep₁⟩ := X.invokevirtual hexec hown hlink hnamed hmethM hstM hkP hkPi hy (a := b) (cell := cellB) hcell
    (fun z h => by rw [h] at hobj; cases hobj) hselP hmethM habM hkP hkPi (g := g) hg (argsL := argsL) (rest := rest) (hlen _ hsigM) hstack hdg
  rcases hK m meth c ⟨T.setVm vm₁, locs, cells, slots⟩ { g with stack := rest } (.invokevirtual index) mk (Value.ref b :: argsL).toArray X₁ hg hsize hdg hW (X₁.named hnamed) (hpre vm₁ X₁.warmed) with ⟨v, B, X', hpost, hsteps⟩ | ⟨q, B, X', hpost, hsteps⟩
  · exact Or.inl ⟨v, vm₁, B, X₁.warmed, X', hpost, fun target h => hstep₁ _ fun acts => by rw [doInvoke_state]; exact hsteps.trans h⟩
  · exact Or.inr ⟨q, vm₁, B, X₁.warmed, X', hpost, hstep₁ _ fun acts => by rw [doInvoke_state]; exact hsteps⟩
theorem vx_callS (X : Stand p l e R s m args below meth c T locs cells slots) (hexec : p.tables.exec = Jvm.exec) {own : String} {index : Nat} {y : MethodName} {bytes : ByteArray} {maxL : Nat} {ret : Option FieldType}
    (hown : s.vm.findClass own = some m.cls) (hlink : (Cond.methodLink own index y).before args s = true) (hstat : (Cond.static y).before args s = true) (hinit : (Cond.initialized y.cls).before args s = true)
    (hcode : (Cond.code y bytes maxL ret).before args s = true) (hy : y.cls ≠ "java/lang/invoke/MethodHandle" ∧ y.cls ≠ "java/lang/invoke/VarHandle")
    {W9 : Nat} {Pre : Pt → Array Value → Prop} {Post : Pt → Array Value → Option Value → Pt → Prop} {PostX : Pt → Array Value → Addr → Pt → Prop} (hK : vx_Back l R p e below s args y 3 W9 Pre Post PostX)
    {g : JFrame} (hg : g.method = m) (hsize : g.locals.size = c.maxLocals) {argsL rest : List Value} (hlen : ∀ sig, parseMethodDescriptor y.desc = some sig → argsL.length = sig.parameters.length)
    (hstack : g.stack = argsL.reverse ++ rest) (hW : 2 * g.monitorRoom + (rest.map fun v => v.category).sum ≤ W9) (hdg : decode c.code g.pc = .ok (.invokestatic index, 3))
    (hpre : ∀ vm₁, s.WarmedH vm₁ → Pre ⟨T.setVm vm₁, locs, cells, slots⟩ argsL.toArray) :
    (∃ (v : Option Value) (vm₁ : Vm) (B : Pt), s.WarmedH vm₁ ∧ Stand p l e R s m args below meth c B.U B.locs B.cells B.slots ∧ Post ⟨T.setVm vm₁, locs, cells, slots⟩ argsL.toArray v B ∧
      ∀ target, Steps p.tables e below (B.U.setTop { g with pc := g.pc + 3, stack := v.toList ++ rest }) target → Steps p.tables e below (T.setTop g) target) ∨
    (∃ (q : Addr) (vm₁ : Vm) (B : Pt), s.WarmedH vm₁ ∧ Stand p l e R s m args below meth c B.U B.locs B.cells B.slots ∧ PostX ⟨T.setVm vm₁, locs, cells, slots⟩ argsL.toArray q B ∧
      Steps p.tables e below (T.setTop g) ((B.U.setTop { g with stack := rest }).pushFrame (.throwing q))) := by
  obtain ⟨mk, hnamed⟩ := Cond.code_named hcode
  obtain ⟨methM, cM, hmethM, -, -, -, -, -, -, hsigM⟩ := Cond.code_spec hnamed hcode
  have hstatic : methM.isStatic = true := Cond.static_spec hnamed hmethM hstat
  obtain ⟨kP, hkP, -⟩ := className_of_methodNamed hnamed
  have hinitP : kP.init = .initialized := Cond.initialized_spec (findClass_of_methodNamed hnamed) hkP hinit
  obtain ⟨vm₁, X₁, hstep₁⟩ := X.invokestatic hexec hown hlink hnamed hmethM hstatic hkP hinitP hy (g := g) hg (argsL := argsL) (rest := rest) (hlen _ hsigM) hstack hdg
  rcases hK m meth c ⟨T.setVm vm₁, locs, cells, slots⟩ { g with stack := rest } (.invokestatic index) mk argsL.toArray X₁ hg hsize hdg hW (X₁.named hnamed) (hpre vm₁ X₁.warmed) with ⟨v, B, X', hpost, hsteps⟩ | ⟨q, B, X', hpost, hsteps⟩
  · exact Or.inl ⟨v, vm₁, B, X₁.warmed, X', hpost, fun target h => hstep₁ _ fun acts => by rw [doInvoke_state]; exact hsteps.trans h⟩
  · exact Or.inr ⟨q, vm₁, B, X₁.warmed, X', hpost, hstep₁ _ fun acts => by rw [doInvoke_state]; exact hsteps⟩
end Calls
theorem vx_cls {s : State} {T : State} {vm₁ : Vm} {E : String} {k : ClassId} (hW : s.WarmedH vm₁) (h : (T.setVm vm₁).vm.findClass E = some k) : s.vm.findClass E = some k := by
  have h1 : vm₁.findClass E = some k := h
  rw [hW.alike.findClass] at h1
  exact h1
/-- the method's frame g, with q thrown over it -/
def vx_W (p : Program) (l : Launch) (e : Env) (R : Room) (s : State) (m : MethodId) (args : Array Value) (below : List Frame) (meth : Method) (c : Code) (H : Heap) (locs : List Loc) (cells slots : Nat) (Q : State → Prop) (g : JFrame) (q : Addr) : Prop :=
  ∀ T : State, T.heap = H → Stand p l e R s m args below meth c T locs cells slots → ∃ t, Steps p.tables e below ((T.setTop g).pushFrame (.throwing q)) t ∧ Q t
def vx_Run (p : Program) (l : Launch) (e : Env) (R : Room) (s : State) (m : MethodId) (args : Array Value) (below : List Frame) (meth : Method) (c : Code) (H : Heap) (locs : List Loc) (cells slots mc ms : Nat) (g : JFrame) (rest : List Value) (Qa : State → Outcome → State → Prop) (XC : String → State → State → Prop) (free : Addr → Prop) : Prop :=
  ∀ T : State, T.heap = H → Stand p l e R s m args below meth c T locs cells slots →
    (∃ (v : Option Value) (st₀ t T' : State) (L : List Loc), st₀.heap = H ∧ Stand p l e R s m args below meth c T' (locs ++ L) (cells + mc) (slots + ms) ∧ (∀ q ∈ L, free q.base) ∧ T'.heap = t.heap ∧ T'.vm = t.vm ∧ Qa st₀ (.returned v) t ∧
      Goes p e below T g T' { g with pc := g.pc + 3, stack := v.toList ++ rest }) ∨
    (∃ (q : Addr) (st₀ t T' : State) (L : List Loc) (E : String) (ce : Cell), st₀.heap = H ∧ Stand p l e R s m args below meth c T' (locs ++ L) (cells + mc) (slots + ms) ∧ (∀ z ∈ L, free z.base) ∧ T'.heap = t.heap ∧ T'.vm = t.vm ∧ XC E st₀ t ∧ t.heap[q]? = some ce ∧ ce.vm = .none ∧ s.vm.findClass E = some ce.cls ∧
      Steps p.tables e below (T.setTop g) ((T'.setTop { g with stack := rest }).pushFrame (.throwing q)))
def vx_X {S : Type} (px : S → Prop) (B : String → S → State → Prop) (A : Nat → Prop) : String → State → State → Prop := fun E st t => ∃ u : S, px u ∧ B E u t ∧ va_F A st t
section Runs
variable {p : Program} {l : Launch} {e : Env} {R : Room} {s : State} {m : MethodId} {args : Array Value} {below : List Frame} {meth : Method} {c : Code} {H : Heap} {locs : List Loc} {cells slots : Nat}
variable {y : MethodName} {bytes cc : ByteArray} {maxL nL mc ms n index : Nat} {ret : Option FieldType} {ws : List Cond} {rm : Room} {Pc : Array Value → State → Prop} {Qc : Array Value → State → Outcome → State → Prop} {XC : String → State → State → Prop} {free : Addr → Prop} {Ts : List Cond} {own C : String} {b : Addr} {As rest : List Value} {g : JFrame}
theorem vx_callBack (cb : CallB R s args own index y bytes maxL ret ws rm mc ms n) (hM : vx_Met l y ws rm Pc Qc XC mc ms free) (hbl : FrameBlind Pc) : vx_Back l R p e below s args y 3 8 (PreOf R mc ms Pc) (PostOf Qc mc ms free) (vx_Post XC mc ms free) := by
  obtain ⟨hrc, hrs, hfr, hlo, hws, hcw, -, hini, -⟩ := cb
  exact vx_back (bytes := bytes) (maxL := maxL) (ret := ret) hM hbl hrc hrs hfr hlo hws hcw (fun a' U hW => word_at hW (Or.inl (by first | rfl | simp [Cond.onTables, Cond.keeps, Cond.steady])) hini)
theorem vx_runV (S : CallFix p m c cc nL s args Ts own) (hM : vx_Met l y ws rm Pc Qc XC mc ms free) (cw : CallW R s args own C index y bytes maxL ret ws rm mc ms n) (hp : PreV s H C b Pc As)
    (hg : g.method = m) (hn : As.length = n) (hsize : g.locals.size = nL) (hstack : g.stack = As.reverse ++ .ref b :: rest) (hW : 2 * g.monitorRoom + (rest.map fun v => v.category).sum ≤ 8) (hdg : decode cc g.pc = .ok (.invokevirtual index, 3)) (hf : cells + mc ≤ R.cells ∧ slots + ms ≤ R.slots) :
    vx_Run p l e R s m args below meth c H locs cells slots mc ms g rest (Qc (Value.ref b :: As).toArray) XC free := by
  have hK : vx_Back l R p e below s args y 3 8 (PreOf R mc ms Pc) (PostOf Qc mc ms free) (vx_Post XC mc ms free) := vx_callBack cw.1 hM hp.1
  obtain ⟨⟨-, -, -, -, -, -, hcode, -, hy, hlen, hl⟩, hin, hse⟩ := cw
  obtain ⟨hx, hb, hml, ho, -⟩ := S
  obtain ⟨-, ⟨cellB, hcB, hoB, hclB⟩, hPc⟩ := hp
  intro T hT X
  rcases vx_callV X hx (C := C) (bytes := bytes) (maxL := maxL) (ret := ret) ho hl hin hse hcode hy hK (by rw [hT]; exact hcB) hoB hclB hg (hsize.trans hml.symm) (argsL := As) (rest := rest) (fun sig h => hn.trans (hlen sig h)) hstack hW (by rw [hb]; exact hdg)
    (fun vm₁ hW₁ => ⟨hf.1, hf.2, hPc (T.setVm vm₁) hT hW₁⟩) with ⟨v, vm₁, ⟨U', l2, c2, s2⟩, hW₁, X', ⟨g', mk, t, L, e1, e2, hq, h1, hL, h2, h3⟩, st⟩ | ⟨q, vm₁, ⟨U', l2, c2, s2⟩, hW₁, X', ⟨g', mk, t, L, E, ce, e1, e2, hq, hce, hcv, hcl, h1, hL, h2, h3⟩, st⟩
  · dsimp only [Pt.U, Pt.locs, Pt.cells, Pt.slots] at X' e1 e2 h1 h2 h3 st
    subst h1; subst h2; subst h3
    exact Or.inl ⟨v, (T.setVm vm₁).calling g' mk (Value.ref b :: As).toArray, t, U', L, hT, X', hL, e1, e2, hq, st⟩
  · dsimp only [Pt.U, Pt.locs, Pt.cells, Pt.slots] at X' e1 e2 h1 h2 h3 st hcl
    subst h1; subst h2; subst h3
    exact Or.inr ⟨q, (T.setVm vm₁).calling g' mk (Value.ref b :: As).toArray, t, U', L, E, ce, hT, X', hL, e1, e2, hq, hce, hcv, vx_cls hW₁ hcl, st⟩
theorem vx_runS (S : CallFix p m c cc nL s args Ts own) (hM : vx_Met l y ws rm Pc Qc XC mc ms free) (cw : CallB R s args own index y bytes maxL ret ws rm mc ms n ∧ (Cond.static y).before args s = true) (hp : PreS s H Pc As)
    (hg : g.method = m) (hn : As.length = n) (hsize : g.locals.size = nL) (hstack : g.stack = As.reverse ++ rest) (hW : 2 * g.monitorRoom + (rest.map fun v => v.category).sum ≤ 8) (hdg : decode cc g.pc = .ok (.invokestatic index, 3)) (hf : cells + mc ≤ R.cells ∧ slots + ms ≤ R.slots) :
    vx_Run p l e R s m args below meth c H locs cells slots mc ms g rest (Qc As.toArray) XC free := by
  have hK : vx_Back l R p e below s args y 3 8 (PreOf R mc ms Pc) (PostOf Qc mc ms free) (vx_Post XC mc ms free) := vx_callBack cw.1 hM hp.1
  obtain ⟨⟨-, -, -, -, -, -, hcode, hini, hy, hlen, hl⟩, hstt⟩ := cw
  obtain ⟨hx, hb, hml, ho, -⟩ := S
  intro T hT X
  rcases vx_callS X hx (bytes := bytes) (maxL := maxL) (ret := ret) ho hl hstt hini hcode hy hK hg (hsize.trans hml.symm) (argsL := As) (rest := rest) (fun sig h => hn.trans (hlen sig h)) hstack hW (by rw [hb]; exact hdg)
    (fun vm₁ hW₁ => ⟨hf.1, hf.2, hp.2 (T.setVm vm₁) hT hW₁⟩) with ⟨v, vm₁, ⟨U', l2, c2, s2⟩, hW₁, X', ⟨g', mk, t, L, e1, e2, hq, h1, hL, h2, h3⟩, st⟩ | ⟨q, vm₁, ⟨U', l2, c2, s2⟩, hW₁, X', ⟨g', mk, t, L, E, ce, e1, e2, hq, hce, hcv, hcl, h1, hL, h2, h3⟩, st⟩
  · dsimp only [Pt.U, Pt.locs, Pt.cells, Pt.slots] at X' e1 e2 h1 h2 h3 st
    subst h1; subst h2; subst h3
    exact Or.inl ⟨v, (T.setVm vm₁).calling g' mk As.toArray, t, U', L, hT, X', hL, e1, e2, hq, st⟩
  · dsimp only [Pt.U, Pt.locs, Pt.cells, Pt.slots] at X' e1 e2 h1 h2 h3 st hcl
    subst h1; subst h2; subst h3
    exact Or.inr ⟨q, (T.setVm vm₁).calling g' mk As.toArray, t, U', L, E, ce, hT, X', hL, e1, e2, hq, hce, hcv, vx_cls hW₁ hcl, st⟩
end Runs
section Rows
variable {p : Program} {l : Launch} {e : Env} {R : Room} {s : State} {m : MethodId} {args : Array Value} {below : List Frame} {meth : Method} {c : Code} {H : Heap} {locs : List Loc} {cells slots : Nat} {Q : State → Prop}
variable {mc ms : Nat} {free : Addr → Prop} {A0 A1 : Nat → Prop} {H0 : Heap} {a : Array Value} {pc : Nat} {ls : Array Slot} {st0 rest : List Value}
theorem vx_keep {st₀ t T' : State} {L : List Loc} (h0 : st₀.heap = H) (e1 : T'.heap = t.heap) (hS : va_S A0 H0 H locs) (hA : ∀ q, q < H.size → A1 q → A0 q) (hf : ∀ q, free q → A0 q) (hL : ∀ q ∈ L, free q.base) (hF : va_F A1 st₀ t) :
    H.size ≤ T'.heap.size ∧ (∀ q : Nat, q < H.size → ¬ A1 q → T'.heap[q]? = H[q]?) ∧ va_S A0 H0 T'.heap (locs ++ L) := by
  obtain ⟨hz, hk⟩ := hF
  rw [h0] at hz hk
  exact ⟨by rw [e1]; exact hz, fun q h1 h2 => by rw [e1]; exact hk q h1 h2,
    ⟨Nat.le_trans hS.1 (by rw [e1]; exact hz), fun q h1 h2 => by rw [e1, hk q (Nat.lt_of_lt_of_le h1 hS.1) (fun z => h2 (hA q (Nat.lt_of_lt_of_le h1 hS.1) z))]; exact hS.2.1 q h1 h2, fun q hq => by
      rcases List.mem_append.mp hq with h | h
      · exact hS.2.2 q h
      · exact hf _ (hL q h)⟩⟩
theorem vx_calli {S SX : Type} {post : Int32 → S → Prop} {px : SX → Prop} {B : S → State → Prop} {BX : String → SX → State → Prop} {AX : Nat → Prop} (hr : vx_Run p l e R s m args below meth c H locs cells slots mc ms (F0 m pc ls st0) rest (va_Qi post B A1 a) (vx_X px BX AX) free) (hS : va_S A0 H0 H locs) (hA : ∀ q, q < H.size → A1 q → A0 q) (hf : ∀ q, free q → A0 q) (hAX : ∀ q, q < H.size → AX q → A0 q)
    (kx : ∀ (E : String) (ce : Cell) (q9 : Addr) (u : SX) (t : State) (H1 : Heap) (locs1 : List Loc), t.heap = H1 → s.vm.Alike t.vm → px u → BX E u t → H.size ≤ H1.size → (∀ q : Nat, q < H.size → ¬ AX q → H1[q]? = H[q]?) → va_S A0 H0 H1 locs1 → H1[q9]? = some ce → ce.vm = .none → s.vm.findClass E = some ce.cls → vx_W p l e R s m args below meth c H1 locs1 (cells + mc) (slots + ms) Q (F0 m pc ls rest) q9)
    (kk : ∀ (r : Int32) (u : S) (t : State) (H1 : Heap) (locs1 : List Loc), t.heap = H1 → s.vm.Alike t.vm → post r u → B u t → H.size ≤ H1.size → (∀ q : Nat, q < H.size → ¬ A1 q → H1[q]? = H[q]?) → va_S A0 H0 H1 locs1 → W p l e R s m args below meth c H1 locs1 (cells + mc) (slots + ms) Q (F0 m (pc + 3) ls (.int r :: rest))) : W p l e R s m args below meth c H locs cells slots Q (F0 m pc ls st0) := by
  intro T hT X
  rcases hr T hT X with ⟨v, st₀, t, T', L, h0, X', hL, e1, e2, ⟨⟨r, u, hv, hp, hb⟩, hF⟩, st⟩ | ⟨q, st₀, t, T', L, E, ce, h0, X', hL, e1, e2, ⟨u, hp, hb, hF⟩, hce, hcv, hcl, st⟩
  · cases hv
    obtain ⟨k1, k2, k3⟩ := vx_keep h0 e1 hS hA hf hL hF
    obtain ⟨t2, a1, b1⟩ := kk r u t T'.heap (locs ++ L) e1.symm (by rw [← e2]; exact X'.warmed.alike) hp hb k1 k2 k3 T' rfl X'
    exact ⟨t2, st t2 a1, b1⟩
  · obtain ⟨k1, k2, k3⟩ := vx_keep h0 e1 hS hAX hf hL hF
    obtain ⟨t2, a1, b1⟩ := kx E ce q u t T'.heap (locs ++ L) e1.symm (by rw [← e2]; exact X'.warmed.alike) hp hb k1 k2 k3 (by rw [e1]; exact hce) hcv hcl T' rfl X'
    exact ⟨t2, st.trans a1, b1⟩
theorem vx_calll {S SX : Type} {post : Int64 → S → Prop} {px : SX → Prop} {B : S → State → Prop} {BX : String → SX → State → Prop} {AX : Nat → Prop} (hr : vx_Run p l e R s m args below meth c H locs cells slots mc ms (F0 m pc ls st0) rest (va_Ql post B A1 a) (vx_X px BX AX) free) (hS : va_S A0 H0 H locs) (hA : ∀ q, q < H.size → A1 q → A0 q) (hf : ∀ q, free q → A0 q) (hAX : ∀ q, q < H.size → AX q → A0 q)
    (kx : ∀ (E : String) (ce : Cell) (q9 : Addr) (u : SX) (t : State) (H1 : Heap) (locs1 : List Loc), t.heap = H1 → s.vm.Alike t.vm → px u → BX E u t → H.size ≤ H1.size → (∀ q : Nat, q < H.size → ¬ AX q → H1[q]? = H[q]?) → va_S A0 H0 H1 locs1 → H1[q9]? = some ce → ce.vm = .none → s.vm.findClass E = some ce.cls → vx_W p l e R s m args below meth c H1 locs1 (cells + mc) (slots + ms) Q (F0 m pc ls rest) q9)
    (kk : ∀ (r : Int64) (u : S) (t : State) (H1 : Heap) (locs1 : List Loc), t.heap = H1 → s.vm.Alike t.vm → post r u → B u t → H.size ≤ H1.size → (∀ q : Nat, q < H.size → ¬ A1 q → H1[q]? = H[q]?) → va_S A0 H0 H1 locs1 → W p l e R s m args below meth c H1 locs1 (cells + mc) (slots + ms) Q (F0 m (pc + 3) ls (.long r :: rest))) : W p l e R s m args below meth c H locs cells slots Q (F0 m pc ls st0) := by
  intro T hT X
  rcases hr T hT X with ⟨v, st₀, t, T', L, h0, X', hL, e1, e2, ⟨⟨r, u, hv, hp, hb⟩, hF⟩, st⟩ | ⟨q, st₀, t, T', L, E, ce, h0, X', hL, e1, e2, ⟨u, hp, hb, hF⟩, hce, hcv, hcl, st⟩
  · cases hv
    obtain ⟨k1, k2, k3⟩ := vx_keep h0 e1 hS hA hf hL hF
    obtain ⟨t2, a1, b1⟩ := kk r u t T'.heap (locs ++ L) e1.symm (by rw [← e2]; exact X'.warmed.alike) hp hb k1 k2 k3 T' rfl X'
    exact ⟨t2, st t2 a1, b1⟩
  · obtain ⟨k1, k2, k3⟩ := vx_keep h0 e1 hS hAX hf hL hF
    obtain ⟨t2, a1, b1⟩ := kx E ce q u t T'.heap (locs ++ L) e1.symm (by rw [← e2]; exact X'.warmed.alike) hp hb k1 k2 k3 (by rw [e1]; exact hce) hcv hcl T' rfl X'
    exact ⟨t2, st.trans a1, b1⟩
theorem vx_callf {S SX : Type} {post : UInt32 → S → Prop} {px : SX → Prop} {B : S → State → Prop} {BX : String → SX → State → Prop} {AX : Nat → Prop} (hr : vx_Run p l e R s m args below meth c H locs cells slots mc ms (F0 m pc ls st0) rest (va_Qf post B A1 a) (vx_X px BX AX) free) (hS : va_S A0 H0 H locs) (hA : ∀ q, q < H.size → A1 q → A0 q) (hf : ∀ q, free q → A0 q) (hAX : ∀ q, q < H.size → AX q → A0 q)
    (kx : ∀ (E : String) (ce : Cell) (q9 : Addr) (u : SX) (t : State) (H1 : Heap) (locs1 : List Loc), t.heap = H1 → s.vm.Alike t.vm → px u → BX E u t → H.size ≤ H1.size → (∀ q : Nat, q < H.size → ¬ AX q → H1[q]? = H[q]?) → va_S A0 H0 H1 locs1 → H1[q9]? = some ce → ce.vm = .none → s.vm.findClass E = some ce.cls → vx_W p l e R s m args below meth c H1 locs1 (cells + mc) (slots + ms) Q (F0 m pc ls rest) q9)
    (kk : ∀ (r : UInt32) (u : S) (t : State) (H1 : Heap) (locs1 : List Loc), t.heap = H1 → s.vm.Alike t.vm → post r u → B u t → H.size ≤ H1.size → (∀ q : Nat, q < H.size → ¬ A1 q → H1[q]? = H[q]?) → va_S A0 H0 H1 locs1 → W p l e R s m args below meth c H1 locs1 (cells + mc) (slots + ms) Q (F0 m (pc + 3) ls (.float r :: rest))) : W p l e R s m args below meth c H locs cells slots Q (F0 m pc ls st0) := by
  intro T hT X
  rcases hr T hT X with ⟨v, st₀, t, T', L, h0, X', hL, e1, e2, ⟨⟨r, u, hv, hp, hb⟩, hF⟩, st⟩ | ⟨q, st₀, t, T', L, E, ce, h0, X', hL, e1, e2, ⟨u, hp, hb, hF⟩, hce, hcv, hcl, st⟩
  · cases hv
    obtain ⟨k1, k2, k3⟩ := vx_keep h0 e1 hS hA hf hL hF
    obtain ⟨t2, a1, b1⟩ := kk r u t T'.heap (locs ++ L) e1.symm (by rw [← e2]; exact X'.warmed.alike) hp hb k1 k2 k3 T' rfl X'
    exact ⟨t2, st t2 a1, b1⟩
  · obtain ⟨k1, k2, k3⟩ := vx_keep h0 e1 hS hAX hf hL hF
    obtain ⟨t2, a1, b1⟩ := kx E ce q u t T'.heap (locs ++ L) e1.symm (by rw [← e2]; exact X'.warmed.alike) hp hb k1 k2 k3 (by rw [e1]; exact hce) hcv hcl T' rfl X'
    exact ⟨t2, st.trans a1, b1⟩
theorem vx_calld {S SX : Type} {post : UInt64 → S → Prop} {px : SX → Prop} {B : S → State → Prop} {BX : String → SX → State → Prop} {AX : Nat → Prop} (hr : vx_Run p l e R s m args below meth c H locs cells slots mc ms (F0 m pc ls st0) rest (va_Qd post B A1 a) (vx_X px BX AX) free) (hS : va_S A0 H0 H locs) (hA : ∀ q, q < H.size → A1 q → A0 q) (hf : ∀ q, free q → A0 q) (hAX : ∀ q, q < H.size → AX q → A0 q)
    (kx : ∀ (E : String) (ce : Cell) (q9 : Addr) (u : SX) (t : State) (H1 : Heap) (locs1 : List Loc), t.heap = H1 → s.vm.Alike t.vm → px u → BX E u t → H.size ≤ H1.size → (∀ q : Nat, q < H.size → ¬ AX q → H1[q]? = H[q]?) → va_S A0 H0 H1 locs1 → H1[q9]? = some ce → ce.vm = .none → s.vm.findClass E = some ce.cls → vx_W p l e R s m args below meth c H1 locs1 (cells + mc) (slots + ms) Q (F0 m pc ls rest) q9)
    (kk : ∀ (r : UInt64) (u : S) (t : State) (H1 : Heap) (locs1 : List Loc), t.heap = H1 → s.vm.Alike t.vm → post r u → B u t → H.size ≤ H1.size → (∀ q : Nat, q < H.size → ¬ A1 q → H1[q]? = H[q]?) → va_S A0 H0 H1 locs1 → W p l e R s m args below meth c H1 locs1 (cells + mc) (slots + ms) Q (F0 m (pc + 3) ls (.double r :: rest))) : W p l e R s m args below meth c H locs cells slots Q (F0 m pc ls st0) := by
  intro T hT X
  rcases hr T hT X with ⟨v, st₀, t, T', L, h0, X', hL, e1, e2, ⟨⟨r, u, hv, hp, hb⟩, hF⟩, st⟩ | ⟨q, st₀, t, T', L, E, ce, h0, X', hL, e1, e2, ⟨u, hp, hb, hF⟩, hce, hcv, hcl, st⟩
  · cases hv
    obtain ⟨k1, k2, k3⟩ := vx_keep h0 e1 hS hA hf hL hF
    obtain ⟨t2, a1, b1⟩ := kk r u t T'.heap (locs ++ L) e1.symm (by rw [← e2]; exact X'.warmed.alike) hp hb k1 k2 k3 T' rfl X'
    exact ⟨t2, st t2 a1, b1⟩
  · obtain ⟨k1, k2, k3⟩ := vx_keep h0 e1 hS hAX hf hL hF
    obtain ⟨t2, a1, b1⟩ := kx E ce q u t T'.heap (locs ++ L) e1.symm (by rw [← e2]; exact X'.warmed.alike) hp hb k1 k2 k3 (by rw [e1]; exact hce) hcv hcl T' rfl X'
    exact ⟨t2, st.trans a1, b1⟩
theorem vx_callv {S SX : Type} {post : S → Prop} {px : SX → Prop} {B : S → State → Prop} {BX : String → SX → State → Prop} {AX : Nat → Prop} (hr : vx_Run p l e R s m args below meth c H locs cells slots mc ms (F0 m pc ls st0) rest (va_Qv post B A1 a) (vx_X px BX AX) free) (hS : va_S A0 H0 H locs) (hA : ∀ q, q < H.size → A1 q → A0 q) (hf : ∀ q, free q → A0 q) (hAX : ∀ q, q < H.size → AX q → A0 q)
    (kx : ∀ (E : String) (ce : Cell) (q9 : Addr) (u : SX) (t : State) (H1 : Heap) (locs1 : List Loc), t.heap = H1 → s.vm.Alike t.vm → px u → BX E u t → H.size ≤ H1.size → (∀ q : Nat, q < H.size → ¬ AX q → H1[q]? = H[q]?) → va_S A0 H0 H1 locs1 → H1[q9]? = some ce → ce.vm = .none → s.vm.findClass E = some ce.cls → vx_W p l e R s m args below meth c H1 locs1 (cells + mc) (slots + ms) Q (F0 m pc ls rest) q9)
    (kk : ∀ (u : S) (t : State) (H1 : Heap) (locs1 : List Loc), t.heap = H1 → s.vm.Alike t.vm → post u → B u t → H.size ≤ H1.size → (∀ q : Nat, q < H.size → ¬ A1 q → H1[q]? = H[q]?) → va_S A0 H0 H1 locs1 → W p l e R s m args below meth c H1 locs1 (cells + mc) (slots + ms) Q (F0 m (pc + 3) ls (rest))) : W p l e R s m args below meth c H locs cells slots Q (F0 m pc ls st0) := by
  intro T hT X
  rcases hr T hT X with ⟨v, st₀, t, T', L, h0, X', hL, e1, e2, ⟨⟨u, hv, hp, hb⟩, hF⟩, st⟩ | ⟨q, st₀, t, T', L, E, ce, h0, X', hL, e1, e2, ⟨u, hp, hb, hF⟩, hce, hcv, hcl, st⟩
  · cases hv
    obtain ⟨k1, k2, k3⟩ := vx_keep h0 e1 hS hA hf hL hF
    obtain ⟨t2, a1, b1⟩ := kk u t T'.heap (locs ++ L) e1.symm (by rw [← e2]; exact X'.warmed.alike) hp hb k1 k2 k3 T' rfl X'
    exact ⟨t2, st t2 a1, b1⟩
  · obtain ⟨k1, k2, k3⟩ := vx_keep h0 e1 hS hAX hf hL hF
    obtain ⟨t2, a1, b1⟩ := kx E ce q u t T'.heap (locs ++ L) e1.symm (by rw [← e2]; exact X'.warmed.alike) hp hb k1 k2 k3 (by rw [e1]; exact hce) hcv hcl T' rfl X'
    exact ⟨t2, st.trans a1, b1⟩
/-- caught by the row x of this method's table; the rows ahead don't take it -/
theorem vx_catch {own name : String} {E : String} {ce : Cell} {q : Addr} (hown : s.vm.findClass own = some m.cls) (pre : List ExceptionTableEntry) (x : ExceptionTableEntry) (suf : List ExceptionTableEntry) (hsplit : c.exceptionTable.toList = pre ++ x :: suf)
    (hpass : ∀ z ∈ pre, covers z pc = false ∨ (z.catchType ≠ 0 ∧ ∃ nm : String, (Cond.classLink own z.catchType nm).before args s = true ∧ va_Nc E nm s)) (hx : covers x pc = true) (h0 : x.catchType ≠ 0)
    (hlink : (Cond.classLink own x.catchType name).before args s = true) (hcast : (Cond.castable E name).before args s = true) (hcell : H[q]? = some ce) (hv : ce.vm = .none) (hcl : s.vm.findClass E = some ce.cls)
    (kk : W p l e R s m args below meth c H locs cells slots Q (F0 m x.handlerPc ls [.ref q])) : vx_W p l e R s m args below meth c H locs cells slots Q (F0 m pc ls rest) q := by
  intro T hT X
  have hpl : e.platform.magicAccessors = ({} : Platform).magicAccessors := by rw [X.admits.platform]
  obtain ⟨c3, c4, hc3, hc4, hasg⟩ := Cond.castable_spec hcast
  cases Option.some.inj (hc3.symm.trans hcl)
  obtain ⟨c5, hc5, hcl5⟩ := Cond.classLink_spec hown hlink e.platform hpl
  cases Option.some.inj (hc4.symm.trans hc5)
  obtain ⟨vm', X', st⟩ := kc_through X q (g := F0 m pc ls rest) rfl (by rw [hT]; exact hcell) (by rw [hv]; rfl) (by obtain ⟨k9, h9, -⟩ := Vm.findClass_spec hcl; exact ⟨k9, h9⟩) pre x suf hsplit
    (fun z hz => by
      rcases hpass z hz with h | ⟨hz0, nm, hl1, hn1⟩
      · exact Or.inl h
      · obtain ⟨c6, hc6, hcl6⟩ := Cond.classLink_spec hown hl1 e.platform hpl
        obtain ⟨a8, b8, h1, h2, h3⟩ := hn1
        cases Option.some.inj (h1.symm.trans hcl)
        cases Option.some.inj (h2.symm.trans hc6)
        exact Or.inr ⟨hz0, _, hcl6, h3⟩) hx h0 hcl5 hasg
  obtain ⟨t, a1, b1⟩ := kk (T.setVm vm') hT X'
  exact ⟨t, st t a1, b1⟩
end Rows
section Ends
variable {p : Program} {l : Launch} {e : Env} {R : Room} {s : State} {m : MethodId} {args : Array Value} {below : List Frame} {meth : Method} {c : Code} {H : Heap} {locs : List Loc} {cells slots : Nat} {Q : State → Prop}
variable {mc ms : Nat} {free : Addr → Prop} {A0 A1 : Nat → Prop} {H0 : Heap} {a : Array Value} {ls : Array Slot} {st0 rest : List Value}
variable {Qc : Array Value → State → Outcome → State → Prop} {XC : String → State → State → Prop}
/-- what a body that may throw owes at its end -/
def vx_MQ (below : List Frame) (Qc : Array Value → State → Outcome → State → Prop) (XC : String → State → State → Prop) (a : Array Value) (s : State) (mc ms : Nat) (free : Addr → Prop) : State → Prop := fun t =>
  ∃ o, t.status = .running ∧ Ended t below o ∧ vx_Q Qc XC mc ms free a s o t
theorem vx_ret {g : JFrame} {mc ms : Nat} (k : W p l e R s m args below meth c H locs cells slots (MQ below Qc args s mc ms free) g) : W p l e R s m args below meth c H locs cells slots (vx_MQ below Qc XC args s mc ms free) g := by
  intro T hT X
  obtain ⟨t, a1, o, b1, b2, b3, b4⟩ := k T hT X
  exact ⟨t, a1, o, b1, b2, Or.inl ⟨b3, b4⟩⟩
/-- not caught here: it goes on to the caller -/
theorem vx_widen {g : JFrame} {q : Addr} {k n : Nat} (h1 : cells ≤ k) (h2 : slots ≤ n) (kk : vx_W p l e R s m args below meth c H locs k n Q g q) : vx_W p l e R s m args below meth c H locs cells slots Q g q := fun T hT X => kk T hT (stand_widen X h1 h2)
theorem vx_out {pc : Nat} {E : String} {ce : Cell} {q : Addr} {mc ms : Nat} (hout : ∀ x ∈ c.exceptionTable.toList, covers x pc = false) (hlocks : meth.locks = false) (hcell : H[q]? = some ce) (hv : ce.vm = .none) (hcl : s.vm.findClass E = some ce.cls)
    (hx : ∀ t : State, t.heap = H → s.vm.Alike t.vm → XC E s t) (hf : ∀ z ∈ locs, free z.base) (hc : cells ≤ mc) (hs : slots ≤ ms) :
    vx_W p l e R s m args below meth c H locs cells slots (vx_MQ below Qc XC args s mc ms free) (F0 m pc ls rest) q := by
  intro T hT X
  obtain ⟨st1, hrun, hend, hW, hsm⟩ := X.leaveThrown q (g := F0 m pc ls rest) rfl rfl rfl hout hlocks
  have hcell9 : (T.setFrames (.throwing q :: below)).heap[q]? = some ce := by
    show T.heap[q]? = some ce
    rw [hT]; exact hcell
  exact ⟨_, st1, .threw q, hrun, hend, Or.inr ⟨q, rfl, E, ce, locs, hx _ hT hW.alike, hcell9, hv, hcl, hW, hsm.mono hc hs, hf⟩⟩
theorem vx_frame {U : State} {k n : Nat} (h : s.sameButNew ({ U with vm := s.vm } : State) locs k n) : s.heap.size ≤ U.heap.size ∧ ∀ q : Nat, q < s.heap.size → (∀ z ∈ locs, z.base ≠ q) → U.heap[q]? = s.heap[q]? := by
  obtain ⟨-, h2, -, -, -, h6⟩ := h
  refine ⟨h2, fun q hq hz => ?_⟩
  obtain ⟨c9, e1, e2, e3, e4⟩ := h6 q _ (Array.getElem?_eq_getElem hq)
  have hs : c9.slots = (s.heap[q]).slots := Array.ext_getElem? fun i => e4 i fun hm => hz _ hm rfl
  have h9 : c9 = s.heap[q] := by
    rw [hs] at e2
    exact e2
  have e5 : U.heap[q]? = some c9 := e1
  rw [e5, h9, Array.getElem?_eq_getElem hq]
/-- the words of a throw but the four that speak of the heap -/
def vx_no (w : Cond) : Bool := decide (w ≠ .isRef (.static Bundle.tN "UNASSIGNED_STACK" Bundle.steD)) && decide (w ≠ .isRef (.static Bundle.tN "SUPPRESSED_SENTINEL" Bundle.listD)) && decide (w ≠ .laysStatic Bundle.tN "UNASSIGNED_STACK" Bundle.steD) && decide (w ≠ .laysStatic Bundle.tN "SUPPRESSED_SENTINEL" Bundle.listD)
def vx_at0 (own : String) (ic : Nat) (X : String) (names : List String) : List Cond := (Bundle.ownAtoms0 own ic X names).filter vx_no
def vx_atS (own : String) (ic : Nat) (X : String) (names : List String) : List Cond := (Bundle.ownAtoms own ic X names).filter vx_no
/-- a word that the tables alone decide, or a good one -/
def vx_ot (w : Cond) : Bool := w.onTables || goodWord w
theorem vx_ot_at {args a' : Array Value} {s U : State} {w : Cond} (hW : s.WarmedH U.vm) (hvm : s.vm = U.vm) (hg : vx_ot w = true) (h : w.before args s = true) : w.before a' U = true := by
  simp only [vx_ot, Bool.or_eq_true] at hg
  rcases hg with hg | hg
  · exact va_tabs hg hvm h
  · exact word_at hW (good_of_word hg) h
/-- a list's words: the good ones out of the method's own list, the others by premises of their own -/
theorem vx_hat {args : Array Value} {s : State} {L B : List Cond} (h1 : ∀ w ∈ L.filter goodWord, w.before args s = true) (h2 : ∀ w ∈ L.filter (fun w => !goodWord w), w ∈ B) (h3 : ∀ w ∈ B, w.before args s = true) : ∀ w ∈ L, w.before args s = true := by
  intro w hw
  by_cases g : goodWord w = true
  · exact h1 w (List.mem_filter.mpr ⟨hw, g⟩)
  · refine h3 w (h2 w (List.mem_filter.mpr ⟨hw, ?_⟩))
    show (!goodWord w) = true
    cases hgw : goodWord w
    · rfl
    · exact absurd hgw g
theorem vx_c {args : Array Value} {s : State} {w : Cond} {B : List Cond} (h : w.before args s = true) (t : ∀ w ∈ B, w.before args s = true) : ∀ w' ∈ w :: B, w'.before args s = true := fun w' h' => (List.mem_cons.mp h').elim (fun e => by rw [e]; exact h) (t w')
theorem vx_n {args : Array Value} {s : State} : ∀ w ∈ ([] : List Cond), w.before args s = true := fun _ h => nomatch h
theorem vx_own {args : Array Value} {s : State} {L : List Cond} (h1 : ∀ w ∈ L.filter vx_no, w.before args s = true)
    (hU : (Cond.isRef (.static Bundle.tN "UNASSIGNED_STACK" Bundle.steD)).before args s = true) (hN : (Cond.isRef (.static Bundle.tN "SUPPRESSED_SENTINEL" Bundle.listD)).before args s = true)
    (lU : (Cond.laysStatic Bundle.tN "UNASSIGNED_STACK" Bundle.steD).before args s = true) (lN : (Cond.laysStatic Bundle.tN "SUPPRESSED_SENTINEL" Bundle.listD).before args s = true) : ∀ w ∈ L, w.before args s = true := by
  intro w hw
  by_cases e1 : w = .isRef (.static Bundle.tN "UNASSIGNED_STACK" Bundle.steD)
  · rw [e1]; exact hU
  · by_cases e2 : w = .isRef (.static Bundle.tN "SUPPRESSED_SENTINEL" Bundle.listD)
    · rw [e2]; exact hN
    · by_cases e3 : w = .laysStatic Bundle.tN "UNASSIGNED_STACK" Bundle.steD
      · rw [e3]; exact lU
      · by_cases e4 : w = .laysStatic Bundle.tN "SUPPRESSED_SENTINEL" Bundle.listD
        · rw [e4]; exact lN
        · exact h1 w (List.mem_filter.mpr ⟨hw, by unfold vx_no; rw [decide_eq_true e1, decide_eq_true e2, decide_eq_true e3, decide_eq_true e4]; rfl⟩)
/-- where a static field lies, its class's statics cell in H -/
def vx_L (C n d : String) (A : Nat → Prop) (U : State) (H : Heap) : Prop := ∃ (c : ClassId) (k : Class) (i : Nat) (f : Field) (a : Nat) (cell : Cell), U.vm.findClass C = some c ∧ U.fieldFound? C n d = some (c, k, i, f) ∧ f.isStatic = true ∧ k.statics = some a ∧ H[a]? = some cell ∧ cell.vm.isStatics = true ∧ cell.cls = c ∧ f.slot < cell.slots.size ∧ k.staticTypes[f.slot]? = some f.type ∧ ¬ A a
theorem vx_L.moved {C n d : String} {A : Nat → Prop} {u U : State} {H : Heap} (hvm : u.vm.Alike U.vm) (h : vx_L C n d A u H) : vx_L C n d A U H := by
  obtain ⟨c, k, i, f, a, cell, h1, h2, h3, h4, h5, h6, h7, h8, h9, h10⟩ := h
  obtain ⟨k', hi', he⟩ := State.fieldFound?_setVm hvm h2
  exact ⟨c, k', i, f, a, cell, by rw [hvm.findClass]; exact h1, hi', h3, by rw [he]; exact h4, h5, h6, h7, h8, by rw [he]; exact h9, h10⟩
theorem vx_L.kept {C n d : String} {A : Nat → Prop} {U : State} {H H1 : Heap} (h : vx_L C n d A U H) (hq : ∀ a : Nat, a < H.size → ¬ A a → H1[a]? = H[a]?) : vx_L C n d A U H1 := by
  obtain ⟨c, k, i, f, a, cell, h1, h2, h3, h4, h5, h6, h7, h8, h9, h10⟩ := h
  exact ⟨c, k, i, f, a, cell, h1, h2, h3, h4, by rw [hq a (Array.getElem?_eq_some_iff.mp h5).1 h10]; exact h5, h6, h7, h8, h9, h10⟩
theorem vx_L.narrow {C n d : String} {A B : Nat → Prop} {U : State} {H : Heap} (h : vx_L C n d A U H) (hAB : ∀ q, B q → A q) : vx_L C n d B U H := by
  obtain ⟨c, k, i, f, a, cell, h1, h2, h3, h4, h5, h6, h7, h8, h9, h10⟩ := h
  exact ⟨c, k, i, f, a, cell, h1, h2, h3, h4, h5, h6, h7, h8, h9, fun z => h10 (hAB _ z)⟩
theorem vx_L.word {C n d : String} {A : Nat → Prop} {s : State} {args : Array Value} (h : vx_L C n d A s s.heap) : (Cond.laysStatic C n d).before args s = true := by
  obtain ⟨c, k, i, f, a, cell, h1, h2, h3, h4, h5, h6, h7, h8, h9, -⟩ := h
  show (Cond.laysStatic C n d).holds args s none s [] = true
  exact Cond.laysStatic_of h1 h2 h3 h4 h5 h6 h7 h8 h9
/-- .. and what it holds: null or some reference -/
def vx_Zq (C n d : String) (A : Nat → Prop) (U : State) (H : Heap) : Prop := va_Zq C n d A U H ∧ vx_L C n d A U H
theorem vx_Zq.moved {C n d : String} {A : Nat → Prop} {u U : State} {H : Heap} (hvm : u.vm.Alike U.vm) (h : vx_Zq C n d A u H) : vx_Zq C n d A U H := ⟨va_Zq.moved hvm h.1, vx_L.moved hvm h.2⟩
theorem vx_Zq.kept {C n d : String} {A : Nat → Prop} {U : State} {H H1 : Heap} (h : vx_Zq C n d A U H) (hq : ∀ a : Nat, a < H.size → ¬ A a → H1[a]? = H[a]?) : vx_Zq C n d A U H1 := ⟨va_Zq.kept h.1 hq, vx_L.kept h.2 hq⟩
theorem vx_Zq.narrow {C n d : String} {A B : Nat → Prop} {U : State} {H : Heap} (h : vx_Zq C n d A U H) (hAB : ∀ q, B q → A q) : vx_Zq C n d B U H := ⟨va_Zq.narrow h.1 hAB, vx_L.narrow h.2 hAB⟩
theorem vx_Zqof {args : Array Value} {s : State} {C n d : String} {A : Nat → Prop} (hl : (Cond.laysStatic C n d).before args s = true) (hini : (Cond.initialized C).before args s = true) (h : (Cond.isRef (.static C n d)).before args s = true) (hA : ∀ a : Nat, a < s.heap.size → ¬ A a) : vx_Zq C n d A s s.heap := by
  refine ⟨va_Zqof hl hini h hA, ?_⟩
  obtain ⟨c, k, i, f, a, cell, h1, h2, h3, h4, h5, h6, h7, h8, h9⟩ := Cond.laysStatic_spec hl
  exact ⟨c, k, i, f, a, cell, h1, h2, h3, h4, h5, h6, h7, h8, h9, hA a (Array.getElem?_eq_some_iff.mp h5).1⟩
theorem vx_isRef {C n d : String} {v : Value} {A : Nat → Prop} {s : State} {args : Array Value} (h : va_Z C n d v A s s.heap) (hv : v.isRef = true) : (Cond.isRef (.static C n d)).before args s = true := by
  obtain ⟨cf, kf, fi, f, a, cell, h1, h2, h3, h4, h5, h6, h7, -⟩ := h
  have he : (Term.static C n d).eval args s none [] s = some v := by
    simp [Term.eval, State.fieldNamed?, h1, h2, h4, h5, h6, h7]
  simp only [Cond.before, Cond.holds, Cond.value, he]
  cases v <;> simp_all [Value.isRef]
theorem vx_isRefq {C n d : String} {A : Nat → Prop} {s : State} {args : Array Value} (h : va_Zq C n d A s s.heap) : (Cond.isRef (.static C n d)).before args s = true := by
  rcases h with h | ⟨t, h⟩
  · exact vx_isRef h rfl
  · exact vx_isRef h rfl
/-- the same frame, seen from here: as if the method were called anew in this heap -/
theorem vx_rebase {T : State} (X : Stand p l e R s m args below meth c T locs cells slots) {R' : Room} (hf : R'.frames ≤ R.frames) (hl : R'.locals ≤ R.locals) (hc : cells + R'.cells ≤ R.cells) (hs : slots + R'.slots ≤ R.slots) :
    Stand p l e R' ((T.setVm s.vm).setFrames (.invoking m args :: below)) m args below meth c T [] 0 0 := by
  have htop : (T.setVm s.vm).topJava?.isSome := X.here.top
  have hF : ((T.setVm s.vm).setFrames (.invoking m args :: below)).frames = .invoking m args :: below := State.frames_setFrames _ (State.cur_lt_of_top htop)
  obtain ⟨g₀, hg0⟩ := Option.isSome_iff_exists.mp htop
  obtain ⟨r, hr⟩ := State.topJava?_eq_some.mp hg0
  have hl9 : e.platform.stackLimits (T.setVm s.vm).me = e.platform.stackLimits s.me := X.limits
  have hb9 : (T.setVm s.vm).me.stackBytes = s.me.stackBytes := X.bytes
  refine ⟨X.admits, X.cas, X.clock, hF, ?_, X.hears, X.method, X.code, X.here, X.tail, X.warmed, ?_, ?_, ?_⟩
  · have h := X.room
    have hU : ((T.setVm s.vm).setFrames (.invoking m args :: below)).localsInUse = s.localsInUse := by
      rw [State.localsInUse_invoking hF (meth := meth) (c := c) X.method X.code, State.localsInUse_invoking X.frames X.method X.code]
    simp only [State.hasRoom, Bool.and_eq_true, decide_eq_true_eq] at h ⊢
    obtain ⟨⟨⟨⟨h1, h2, h3, h4, h5, h6⟩, h7⟩, h8⟩, h9⟩ := h
    rw [X.frames, List.length_cons] at h2 h3
    have q1 := X.heapSize
    have q2 := X.used
    simp only [hF, hU, List.length_cons, State.stackLimits_setFrames, State.stackBytes_setFrames, hl9, hb9]
    refine ⟨⟨⟨⟨by omega, by omega, by omega, by omega, by omega, h6⟩, ?_⟩, ?_⟩, X.book⟩
    · show T.heap.size + R'.cells ≤ e.platform.maxCells
      omega
    · show T.slotsUsed + R'.slots ≤ e.platform.maxSlots
      omega
  · rw [State.stackLimits_setFrames]; rfl
  · rw [State.stackBytes_setFrames]; rfl
  · refine ⟨?_, Nat.le_refl _, Nat.le_refl _, ?_, ?_, fun a c9 h9 => ⟨c9, h9, rfl, rfl, fun _ _ => rfl⟩⟩
    · obtain ⟨t, ht, -⟩ := State.frames_cons hr
      show T.setVm s.vm = { ((T.setVm s.vm).setFrames (.invoking m args :: below)).setFrames (T.setVm s.vm).frames with heap := T.heap, slotsUsed := T.slotsUsed }
      rw [State.setFrames_setFrames, State.setFrames_self ht]
      rfl
    · show T.slotsUsed = T.slotsUsed + ((T.heap.toList.drop T.heap.size).map (·.slots.size)).sum
      rw [List.drop_eq_nil_of_le (Nat.le_of_eq Array.length_toList)]
      rfl
    · show ((T.heap.toList.drop T.heap.size).map (·.slots.size)).sum ≤ 0
      rw [List.drop_eq_nil_of_le (Nat.le_of_eq Array.length_toList)]
      exact Nat.le_refl _
/-- 'throw new E()': new; dup; invokespecial; athrow -/
theorem vx_throw0 {cc : ByteArray} {pc : Nat} (hexec : p.tables.exec = Jvm.exec) (hb : c.code = cc) (hl : l.stackTraces = false) {own cls : String} {names : List String} {ik ic mc ms : Nat} {A : Nat → Prop}
    (hown : s.vm.findClass own = some m.cls) (hcls : Bundle.fit cls = true) (hnames : ∀ n ∈ names, Bundle.fit n = true)
    (hk : (Cond.classLink own ik cls).before args s = true) (hini : (Cond.initialized cls).before args s = true) (hat : ∀ w ∈ vx_at0 own ic cls names, w.before args s = true)
    (hgood : ∀ w ∈ Cond.classLink own ik cls :: Cond.initialized cls :: vx_at0 own ic cls names, vx_ot w = true)
    (hU : vx_Zq Bundle.tN "UNASSIGNED_STACK" Bundle.steD A s s.heap) (hN : vx_Zq Bundle.tN "SUPPRESSED_SENTINEL" Bundle.listD A s s.heap) (hS : va_S A s.heap H locs) (hsize : ls.size = c.maxLocals)
    (d0 : decode cc pc = .ok (.new ik, 3)) (d3 : decode cc (pc + 3) = .ok (.dup, 1)) (d4 : decode cc (pc + 4) = .ok (.invokespecial ic, 3)) (d7 : decode cc (pc + 7) = .ok (.athrow, 1))
    (hout : ∀ x ∈ c.exceptionTable.toList, covers x (pc + 7) = false)
    (hRframes : names.length + 3 < R.frames) (hRlocals : (rest.map fun v => v.category).sum + (13 * (names.length + 1) + 42) ≤ R.locals) (hRcells : cells + 1 ≤ R.cells) (hRslots : slots + 6 ≤ R.slots) (hlocks : meth.locks = false)
    (hx : ∀ t : State, s.vm.Alike t.vm → H.size ≤ t.heap.size → (∀ q : Nat, q < H.size → t.heap[q]? = H[q]?) → XC cls s t)
    (hf : ∀ z ∈ locs, free z.base) (hc : cells + 1 ≤ mc) (hs : slots + 6 ≤ ms) :
    W p l e R s m args below meth c H locs cells slots (vx_MQ below Qc XC args s mc ms free) (F0 m pc ls rest) := by
  intro T hT X
  have htr : e.platform.stackTraces = false := (show e.platform.stackTraces = l.stackTraces by rw [X.admits.platform]).trans hl
  have Y := vx_rebase X (R' := { frames := R.frames, locals := R.locals, cells := 1, slots := 6 }) (Nat.le_refl _) (Nat.le_refl _) hRcells hRslots
  obtain ⟨s', hA⟩ : ∃ z, z = (T.setVm s.vm).setFrames (.invoking m args :: below) := ⟨_, rfl⟩
  rw [← hA] at Y
  have hvm : s'.vm = s.vm := by rw [hA]; rfl
  have hhp : s'.heap = H := by rw [hA]; exact hT
  have hW0 : s.WarmedH s'.vm := by rw [hvm]; exact State.WarmedH.refl s
  have hat' : ∀ w ∈ vx_at0 own ic cls names, w.before args s' = true := fun w hw => vx_ot_at hW0 hvm.symm (hgood w (List.mem_cons_of_mem _ (List.mem_cons_of_mem _ hw))) (hat w hw)
  have hk' : (Cond.classLink own ik cls).before args s' = true := vx_ot_at hW0 hvm.symm (hgood _ List.mem_cons_self) hk
  have hini' : (Cond.initialized cls).before args s' = true := vx_ot_at hW0 hvm.symm (hgood _ (List.mem_cons_of_mem _ List.mem_cons_self)) hini
  have hU' : vx_Zq Bundle.tN "UNASSIGNED_STACK" Bundle.steD A s' s'.heap := by rw [hhp]; exact vx_Zq.moved hW0.alike (hU.kept hS.2.1)
  have hN' : vx_Zq Bundle.tN "SUPPRESSED_SENTINEL" Bundle.listD A s' s'.heap := by rw [hhp]; exact vx_Zq.moved hW0.alike (hN.kept hS.2.1)
  have h : ∀ w ∈ Bundle.ownAtoms0 own ic cls names, w.before args s' = true := vx_own hat' (vx_isRefq hU'.1) (vx_isRefq hN'.1) hU'.2.word hN'.2.word
  have hown' : s'.vm.findClass own = some m.cls := by rw [hvm]; exact hown
  have hins : (Cond.instantiable cls 6).before args s' = true := h _ (by simp [Bundle.ownAtoms0])
  obtain ⟨vm₁, cX, kX, hfX, hkX, -, -, X₁, st1⟩ := Y.newCold hexec (own := own) (C := cls) (index := ik) (n := 6) hown' hk' hins hini'
    (g := F0 m pc ls rest) rfl (by rw [hb]; exact d0) (Nat.le_refl _) (Nat.le_refl _)
  generalize hT1 : (T.setVm vm₁).pushCell { cls := cX, slots := kX.instanceTypes.map defaultValue, vm := .none } = T1 at X₁ st1
  have hcat : (Value.ref T.heap.size).category = 1 := rfl
  have hcellA : T1.heap[T.heap.size]? = some (freshCell cX kX) := by rw [← hT1]; exact State.heap_pushCell_size _ _
  have d3' : decode c.code (pc + 3) = .ok (.dup, 1) := by rw [hb]; exact d3
  obtain ⟨U, hsteps, hrun, hend, hW, hsame, ce, hce, hO⟩ := X₁.ctorThrow0 hexec htr (own := own) (cls := cls) (names := names) (ic := ic) hown' hcls hnames h (fun x hx => nomatch hx) hfX hkX hcellA (by rw [hhp, hT]; exact Nat.le_refl _)
    (g := { method := m, pc := pc + 4, locals := ls, stack := .ref T.heap.size :: .ref T.heap.size :: rest, locked := none }) rfl hsize rfl rfl (rest := rest) rfl
    (by rw [hb]; exact d4) (by rw [hb]; exact d7) hout hRframes (by simp only [List.map_cons, List.sum_cons, hcat]; omega) hlocks
  obtain ⟨f1, f2⟩ := vx_frame hsame
  rw [hhp] at f1 f2
  have hWs : s.WarmedH U.vm := State.WarmedH.trans hW0 hW
  have hcl : s.vm.findClass cls = some ce.cls := by
    have h9 := hO.cls
    rw [hvm] at h9
    exact h9
  have hall : s.sameButNew ({ U with vm := s.vm } : State) locs mc ms := by
    subst hA
    obtain ⟨e1, e2⟩ := hsame
    rw [State.setFrames_setFrames] at e1
    have h2 : (T.setVm s.vm).sameButNew ({ U with vm := s.vm } : State) [] (0 + 1) (0 + 6) := ⟨e1, e2⟩
    have h3 := X.same.trans h2
    rw [List.append_nil] at h3
    exact h3.mono hc hs
  refine ⟨U, ?_, .threw T.heap.size, hrun, hend, Or.inr ⟨T.heap.size, rfl, cls, ce, locs, hx U hWs.alike f1 (fun q hq => f2 q hq (fun z hz => nomatch hz)), hce, hO.vm, hcl, hWs, hall, hf⟩⟩
  refine st1 _ ?_
  show Steps p.tables e below (T1.setTop { method := m, pc := pc + 3, locals := ls, stack := .ref T.heap.size :: rest, locked := none }) _
  jvm_step X₁.here [X₁.here.top, hexec, d3', Value.category]
  exact hsteps
/-- 'throw new E("text")': new; dup; ldc; invokespecial; athrow -/
theorem vx_throwS {cc : ByteArray} {pc : Nat} (hexec : p.tables.exec = Jvm.exec) (hb : c.code = cc) (hl : l.stackTraces = false) {own cls text : String} {names : List String} {ik is ic mc ms sa : Nat} {A : Nat → Prop}
    (hown : s.vm.findClass own = some m.cls) (hcls : Bundle.fit cls = true) (hnames : ∀ n ∈ names, Bundle.fit n = true)
    (hk : (Cond.classLink own ik cls).before args s = true) (hini : (Cond.initialized cls).before args s = true) (hstr : vk_R own is text sa s) (hat : ∀ w ∈ vx_atS own ic cls names, w.before args s = true)
    (hgood : ∀ w ∈ Cond.classLink own ik cls :: Cond.initialized cls :: vx_atS own ic cls names, vx_ot w = true)
    (hU : vx_Zq Bundle.tN "UNASSIGNED_STACK" Bundle.steD A s s.heap) (hN : vx_Zq Bundle.tN "SUPPRESSED_SENTINEL" Bundle.listD A s s.heap) (hS : va_S A s.heap H locs) (hsize : ls.size = c.maxLocals)
    (d0 : decode cc pc = .ok (.new ik, 3)) (d3 : decode cc (pc + 3) = .ok (.dup, 1)) (d4 : decode cc (pc + 4) = .ok (.ldc is, 2)) (d6 : decode cc (pc + 6) = .ok (.invokespecial ic, 3)) (d9 : decode cc (pc + 9) = .ok (.athrow, 1))
    (hout : ∀ x ∈ c.exceptionTable.toList, covers x (pc + 9) = false)
    (hRframes : names.length + 3 < R.frames) (hRlocals : (rest.map fun v => v.category).sum + (13 * (names.length + 1) + 43) ≤ R.locals) (hRcells : cells + 1 ≤ R.cells) (hRslots : slots + 6 ≤ R.slots) (hlocks : meth.locks = false)
    (hx : ∀ t : State, s.vm.Alike t.vm → H.size ≤ t.heap.size → (∀ q : Nat, q < H.size → t.heap[q]? = H[q]?) → XC cls s t)
    (hf : ∀ z ∈ locs, free z.base) (hc : cells + 1 ≤ mc) (hs : slots + 6 ≤ ms) :
    W p l e R s m args below meth c H locs cells slots (vx_MQ below Qc XC args s mc ms free) (F0 m pc ls rest) := by
  intro T hT X
  have htr : e.platform.stackTraces = false := (show e.platform.stackTraces = l.stackTraces by rw [X.admits.platform]).trans hl
  have Y := vx_rebase X (R' := { frames := R.frames, locals := R.locals, cells := 1, slots := 6 }) (Nat.le_refl _) (Nat.le_refl _) hRcells hRslots
  obtain ⟨s', hA⟩ : ∃ z, z = (T.setVm s.vm).setFrames (.invoking m args :: below) := ⟨_, rfl⟩
  rw [← hA] at Y
  have hvm : s'.vm = s.vm := by rw [hA]; rfl
  have hhp : s'.heap = H := by rw [hA]; exact hT
  have hW0 : s.WarmedH s'.vm := by rw [hvm]; exact State.WarmedH.refl s
  have hat' : ∀ w ∈ vx_atS own ic cls names, w.before args s' = true := fun w hw => vx_ot_at hW0 hvm.symm (hgood w (List.mem_cons_of_mem _ (List.mem_cons_of_mem _ hw))) (hat w hw)
  have hk' : (Cond.classLink own ik cls).before args s' = true := vx_ot_at hW0 hvm.symm (hgood _ List.mem_cons_self) hk
  have hini' : (Cond.initialized cls).before args s' = true := vx_ot_at hW0 hvm.symm (hgood _ (List.mem_cons_of_mem _ List.mem_cons_self)) hini
  have hU' : vx_Zq Bundle.tN "UNASSIGNED_STACK" Bundle.steD A s' s'.heap := by rw [hhp]; exact vx_Zq.moved hW0.alike (hU.kept hS.2.1)
  have hN' : vx_Zq Bundle.tN "SUPPRESSED_SENTINEL" Bundle.listD A s' s'.heap := by rw [hhp]; exact vx_Zq.moved hW0.alike (hN.kept hS.2.1)
  have h : ∀ w ∈ Bundle.ownAtoms own ic cls names, w.before args s' = true := vx_own hat' (vx_isRefq hU'.1) (vx_isRefq hN'.1) hU'.2.word hN'.2.word
  have hown' : s'.vm.findClass own = some m.cls := by rw [hvm]; exact hown
  have hins : (Cond.instantiable cls 6).before args s' = true := h _ (by simp [Bundle.ownAtoms])
  obtain ⟨vm₁, cX, kX, hfX, hkX, -, -, X₁, st1⟩ := Y.newCold hexec (own := own) (C := cls) (index := ik) (n := 6) hown' hk' hins hini'
    (g := F0 m pc ls rest) rfl (by rw [hb]; exact d0) (Nat.le_refl _) (Nat.le_refl _)
  generalize hT1 : (T.setVm vm₁).pushCell { cls := cX, slots := kX.instanceTypes.map defaultValue, vm := .none } = T1 at X₁ st1
  have hcat : (Value.ref T.heap.size).category = 1 := rfl
  have hcellA : T1.heap[T.heap.size]? = some (freshCell cX kX) := by rw [← hT1]; exact State.heap_pushCell_size _ _
  have d3' : decode c.code (pc + 3) = .ok (.dup, 1) := by rw [hb]; exact d3
  have d4' : decode c.code (pc + 4) = .ok (.ldc is, 2) := by rw [hb]; exact d4
  have hstr' : vk_R own is text sa s' := vk_R.warm hW0 hstr
  obtain ⟨U, hsteps, hrun, hend, hW, hsame, ce, hce, hO⟩ := X₁.ctorThrowS hexec htr (own := own) (cls := cls) (names := names) (ic := ic) hown' hcls hnames h (fun x hx => nomatch hx) hfX hkX hcellA (by rw [hhp, hT]; exact Nat.le_refl _) (msg := .ref sa) rfl
    (g := { method := m, pc := pc + 6, locals := ls, stack := .ref sa :: .ref T.heap.size :: .ref T.heap.size :: rest, locked := none }) rfl hsize rfl rfl (rest := rest) rfl
    (by rw [hb]; exact d6) (by rw [hb]; exact d9) hout hRframes (by simp only [List.map_cons, List.sum_cons, hcat]; omega) hlocks
  obtain ⟨f1, f2⟩ := vx_frame hsame
  rw [hhp] at f1 f2
  have hWs : s.WarmedH U.vm := State.WarmedH.trans hW0 hW
  have hcl : s.vm.findClass cls = some ce.cls := by
    have h9 := hO.cls
    rw [hvm] at h9
    exact h9
  have hall : s.sameButNew ({ U with vm := s.vm } : State) locs mc ms := by
    subst hA
    obtain ⟨e1, e2⟩ := hsame
    rw [State.setFrames_setFrames] at e1
    have h2 : (T.setVm s.vm).sameButNew ({ U with vm := s.vm } : State) [] (0 + 1) (0 + 6) := ⟨e1, e2⟩
    have h3 := X.same.trans h2
    rw [List.append_nil] at h3
    exact h3.mono hc hs
  refine ⟨U, ?_, .threw T.heap.size, hrun, hend, Or.inr ⟨T.heap.size, rfl, cls, ce, locs, hx U hWs.alike f1 (fun q hq => f2 q hq (fun z hz => nomatch hz)), hce, hO.vm, hcl, hWs, hall, hf⟩⟩
  refine st1 _ ?_
  show Steps p.tables e below (T1.setTop { method := m, pc := pc + 3, locals := ls, stack := .ref T.heap.size :: rest, locked := none }) _
  jvm_step X₁.here [X₁.here.top, hexec, d3', Value.category]
  exact X₁.ldcString hexec (own := own) (text := text) (index := is) (a := sa) hown' hstr'.1 hstr'.2
    (g := { method := m, pc := pc + 4, locals := ls, stack := .ref T.heap.size :: .ref T.heap.size :: rest, locked := none }) rfl d4' _ hsteps
/-- 'throw new E("text")', the text by a wide index -/
theorem vx_throwSW {cc : ByteArray} {pc : Nat} (hexec : p.tables.exec = Jvm.exec) (hb : c.code = cc) (hl : l.stackTraces = false) {own cls text : String} {names : List String} {ik is ic mc ms sa : Nat} {A : Nat → Prop}
    (hown : s.vm.findClass own = some m.cls) (hcls : Bundle.fit cls = true) (hnames : ∀ n ∈ names, Bundle.fit n = true)
    (hk : (Cond.classLink own ik cls).before args s = true) (hini : (Cond.initialized cls).before args s = true) (hstr : vk_R own is text sa s) (hat : ∀ w ∈ vx_atS own ic cls names, w.before args s = true)
    (hgood : ∀ w ∈ Cond.classLink own ik cls :: Cond.initialized cls :: vx_atS own ic cls names, vx_ot w = true)
    (hU : vx_Zq Bundle.tN "UNASSIGNED_STACK" Bundle.steD A s s.heap) (hN : vx_Zq Bundle.tN "SUPPRESSED_SENTINEL" Bundle.listD A s s.heap) (hS : va_S A s.heap H locs) (hsize : ls.size = c.maxLocals)
    (d0 : decode cc pc = .ok (.new ik, 3)) (d3 : decode cc (pc + 3) = .ok (.dup, 1)) (d4 : decode cc (pc + 4) = .ok (.ldc_w is, 3)) (d7 : decode cc (pc + 7) = .ok (.invokespecial ic, 3)) (d10 : decode cc (pc + 10) = .ok (.athrow, 1))
    (hout : ∀ x ∈ c.exceptionTable.toList, covers x (pc + 10) = false)
    (hRframes : names.length + 3 < R.frames) (hRlocals : (rest.map fun v => v.category).sum + (13 * (names.length + 1) + 43) ≤ R.locals) (hRcells : cells + 1 ≤ R.cells) (hRslots : slots + 6 ≤ R.slots) (hlocks : meth.locks = false)
    (hx : ∀ t : State, s.vm.Alike t.vm → H.size ≤ t.heap.size → (∀ q : Nat, q < H.size → t.heap[q]? = H[q]?) → XC cls s t)
    (hf : ∀ z ∈ locs, free z.base) (hc : cells + 1 ≤ mc) (hs : slots + 6 ≤ ms) :
    W p l e R s m args below meth c H locs cells slots (vx_MQ below Qc XC args s mc ms free) (F0 m pc ls rest) := by
  intro T hT X
  have htr : e.platform.stackTraces = false := (show e.platform.stackTraces = l.stackTraces by rw [X.admits.platform]).trans hl
  have Y := vx_rebase X (R' := { frames := R.frames, locals := R.locals, cells := 1, slots := 6 }) (Nat.le_refl _) (Nat.le_refl _) hRcells hRslots
  obtain ⟨s', hA⟩ : ∃ z, z = (T.setVm s.vm).setFrames (.invoking m args :: below) := ⟨_, rfl⟩
  rw [← hA] at Y
  have hvm : s'.vm = s.vm := by rw [hA]; rfl
  have hhp : s'.heap = H := by rw [hA]; exact hT
  have hW0 : s.WarmedH s'.vm := by rw [hvm]; exact State.WarmedH.refl s
  have hat' : ∀ w ∈ vx_atS own ic cls names, w.before args s' = true := fun w hw => vx_ot_at hW0 hvm.symm (hgood w (List.mem_cons_of_mem _ (List.mem_cons_of_mem _ hw))) (hat w hw)
  have hk' : (Cond.classLink own ik cls).before args s' = true := vx_ot_at hW0 hvm.symm (hgood _ List.mem_cons_self) hk
  have hini' : (Cond.initialized cls).before args s' = true := vx_ot_at hW0 hvm.symm (hgood _ (List.mem_cons_of_mem _ List.mem_cons_self)) hini
  have hU' : vx_Zq Bundle.tN "UNASSIGNED_STACK" Bundle.steD A s' s'.heap := by rw [hhp]; exact vx_Zq.moved hW0.alike (hU.kept hS.2.1)
  have hN' : vx_Zq Bundle.tN "SUPPRESSED_SENTINEL" Bundle.listD A s' s'.heap := by rw [hhp]; exact vx_Zq.moved hW0.alike (hN.kept hS.2.1)
  have h : ∀ w ∈ Bundle.ownAtoms own ic cls names, w.before args s' = true := vx_own hat' (vx_isRefq hU'.1) (vx_isRefq hN'.1) hU'.2.word hN'.2.word
  have hown' : s'.vm.findClass own = some m.cls := by rw [hvm]; exact hown
  have hins : (Cond.instantiable cls 6).before args s' = true := h _ (by simp [Bundle.ownAtoms])
  obtain ⟨vm₁, cX, kX, hfX, hkX, -, -, X₁, st1⟩ := Y.newCold hexec (own := own) (C := cls) (index := ik) (n := 6) hown' hk' hins hini'
    (g := F0 m pc ls rest) rfl (by rw [hb]; exact d0) (Nat.le_refl _) (Nat.le_refl _)
  generalize hT1 : (T.setVm vm₁).pushCell { cls := cX, slots := kX.instanceTypes.map defaultValue, vm := .none } = T1 at X₁ st1
  have hcat : (Value.ref T.heap.size).category = 1 := rfl
  have hcellA : T1.heap[T.heap.size]? = some (freshCell cX kX) := by rw [← hT1]; exact State.heap_pushCell_size _ _
  have d3' : decode c.code (pc + 3) = .ok (.dup, 1) := by rw [hb]; exact d3
  have d4' : decode c.code (pc + 4) = .ok (.ldc_w is, 3) := by rw [hb]; exact d4
  have hstr' : vk_R own is text sa s' := vk_R.warm hW0 hstr
  obtain ⟨U, hsteps, hrun, hend, hW, hsame, ce, hce, hO⟩ := X₁.ctorThrowS hexec htr (own := own) (cls := cls) (names := names) (ic := ic) hown' hcls hnames h (fun x hx => nomatch hx) hfX hkX hcellA (by rw [hhp, hT]; exact Nat.le_refl _) (msg := .ref sa) rfl
    (g := { method := m, pc := pc + 7, locals := ls, stack := .ref sa :: .ref T.heap.size :: .ref T.heap.size :: rest, locked := none }) rfl hsize rfl rfl (rest := rest) rfl
    (by rw [hb]; exact d7) (by rw [hb]; exact d10) hout hRframes (by simp only [List.map_cons, List.sum_cons, hcat]; omega) hlocks
  obtain ⟨f1, f2⟩ := vx_frame hsame
  rw [hhp] at f1 f2
  have hWs : s.WarmedH U.vm := State.WarmedH.trans hW0 hW
  have hcl : s.vm.findClass cls = some ce.cls := by
    have h9 := hO.cls
    rw [hvm] at h9
    exact h9
  have hall : s.sameButNew ({ U with vm := s.vm } : State) locs mc ms := by
    subst hA
    obtain ⟨e1, e2⟩ := hsame
    rw [State.setFrames_setFrames] at e1
    have h2 : (T.setVm s.vm).sameButNew ({ U with vm := s.vm } : State) [] (0 + 1) (0 + 6) := ⟨e1, e2⟩
    have h3 := X.same.trans h2
    rw [List.append_nil] at h3
    exact h3.mono hc hs
  refine ⟨U, ?_, .threw T.heap.size, hrun, hend, Or.inr ⟨T.heap.size, rfl, cls, ce, locs, hx U hWs.alike f1 (fun q hq => f2 q hq (fun z hz => nomatch hz)), hce, hO.vm, hcl, hWs, hall, hf⟩⟩
  refine st1 _ ?_
  show Steps p.tables e below (T1.setTop { method := m, pc := pc + 3, locals := ls, stack := .ref T.heap.size :: rest, locked := none }) _
  jvm_step X₁.here [X₁.here.top, hexec, d3', Value.category]
  exact X₁.ldcStringW hexec (own := own) (text := text) (index := is) (a := sa) hown' hstr'.1 hstr'.2
    (g := { method := m, pc := pc + 4, locals := ls, stack := .ref T.heap.size :: .ref T.heap.size :: rest, locked := none }) rfl d4' _ hsteps
end Ends
section Bodies
variable {l : Launch}
theorem vx_ofW {y : MethodName} {ws ws' : List Cond} {rm : Room} {Pc : Array Value → State → Prop} {Qc : Array Value → State → Outcome → State → Prop} {XC : String → State → State → Prop} {mc ms : Nat} {free : Addr → Prop} {cc : ByteArray} {maxL : Nat} {ret : Option FieldType}
    (hy : plainName y.cls = true) (hw : ws = Cond.code y cc maxL ret :: ws')
    (body : ∀ p e s m args below meth c s₁, BodyLoose p l y (headSpec ws rm) cc maxL ret e s m args below meth c s₁ → c.maxLocals = maxL → (∀ x ∈ c.exceptionTable.toList, False) → Pc args s →
      W p l e (headSpec ws rm).room s m args below meth c s.heap [] 0 0 (vx_MQ below Qc XC args s mc ms free) (entryFrame m args maxL)) : vx_Met l y ws rm Pc Qc XC mc ms free := by
  refine MetFree.of_bodyS (code := cc) (maxLocals := maxL) (ret := ret) hy ?_ ?_
  · intro args s m h hn
    obtain ⟨meth, c, h1, h2, h3, h4, h5, h6, -, -⟩ := Cond.code_spec hn (atoms_spec (ws := ws) h _ (by rw [hw]; exact List.mem_cons_self))
    exact ⟨meth, c, h1, h2, h3, h4, h5, h6⟩
  · intro p e s m args below meth c s₁ B hml hP _
    have hh0 : s₁.heap = s.heap := by rw [B.state]; rfl
    have ht : ∀ x ∈ c.exceptionTable.toList, False := by
      obtain ⟨meth9, c9, h1, h2, -, -, -, -, h7, -⟩ := Cond.code_spec B.named (atoms_spec (ws := ws) B.pre _ (by rw [hw]; exact List.mem_cons_self))
      cases Option.some.inj (h1.symm.trans B.method)
      cases Option.some.inj (h2.symm.trans (Stand.of_body B).code)
      intro x hx
      rw [Array.isEmpty_iff.mp h7] at hx
      cases hx
    obtain ⟨t, a1, o, b1, b2, b3⟩ := body p e s m args below meth c s₁ B hml ht hP s₁ hh0 (Stand.of_body B)
    exact ⟨t, o, a1, b1, b2, b3⟩
/-- the table of a body with handlers -/
theorem vx_table {p : Program} {x y : MethodName} {S : Spec} {cc bytes : ByteArray} {maxL maxL' : Nat} {ret ret' : Option FieldType} {e : Env} {s s₁ : State} {m : MethodId} {args : Array Value} {below : List Frame} {meth : Method} {c : Code} {hh : List (Nat × Nat × Nat × Nat)}
    (B : BodyLoose p l y S cc maxL ret e s m args below meth c s₁) (h : (Cond.codeWith y bytes maxL' ret' hh).before args s = true) : c.exceptionTable.toList = tableOf hh := by
  obtain ⟨m9, meth9, c9, hn9, h1, h2, -, -, h6, -⟩ := Cond.codeWith_spec h
  cases Option.some.inj (hn9.symm.trans B.named)
  cases Option.some.inj (h1.symm.trans B.method)
  cases Option.some.inj (h2.symm.trans (Stand.of_body B).code)
  rw [← h6, table_eq]
end Bodies
end VXA
/-! ===== END ===== -/
/-! ===== BEGIN a static call of a method with an exception table ===== -/
section VXS
variable {p : Program} {l : Launch} {e : Env} {R : Room} {s : State} {m : MethodId} {args : Array Value} {below : List Frame} {meth : Method} {c : Code} {T : State} {H : Heap} {locs : List Loc} {cells slots : Nat}
abbrev vx_CSW (R : Room) (s : State) (args : Array Value) (own : String) (index : Nat) (y : MethodName) (bytes : ByteArray) (maxL : Nat) (ret : Option FieldType) (hh : List (Nat × Nat × Nat × Nat)) (ws : List Cond) (rm : Room) (mc ms n : Nat) : Prop :=
  (rm.cells = mc ∧ rm.slots = ms ∧ rm.frames + 1 ≤ R.frames ∧ 8 + (maxL + 11) + rm.locals ≤ R.locals ∧ (∀ w ∈ ws, ∀ (a' : Array Value) (U : State), s.WarmedH U.vm → w.before a' U = true) ∧ Cond.codeWith y bytes maxL ret hh ∈ ws) ∧
  (Cond.codeWith y bytes maxL ret hh).before args s = true ∧ (Cond.initialized y.cls).before args s = true ∧ (y.cls ≠ "java/lang/invoke/MethodHandle" ∧ y.cls ≠ "java/lang/invoke/VarHandle") ∧
  (∀ sig, parseMethodDescriptor y.desc = some sig → n = sig.parameters.length) ∧ (Cond.methodLink own index y).before args s = true ∧ (Cond.static y).before args s = true
theorem vx_cwSW {own : String} {index maxL mc ms : Nat} {y : MethodName} {bytes : ByteArray} {ret : Option FieldType} {hh : List (Nat × Nat × Nat × Nat)} {Ts ws ws' : List Cond} {rm : Room} (n : Nat) (ht : ∀ w ∈ Ts, w.before args s = true) (hT : GoodIn Ts (va_wsS own index y ws)) (hw : ws = Cond.codeWith y bytes maxL ret hh :: ws') (hrc : rm.cells = mc) (hrs : rm.slots = ms)
    (hd : y.cls ≠ "java/lang/invoke/MethodHandle" ∧ y.cls ≠ "java/lang/invoke/VarHandle" ∧ (parseMethodDescriptor y.desc).map (fun d => d.parameters.length) = some n) (hR : rm.frames + 1 ≤ R.frames ∧ 8 + (maxL + 11) + rm.locals ≤ R.locals) :
    vx_CSW R s args own index y bytes maxL ret hh ws rm mc ms n := by
  have ok : ∀ w ∈ va_wsS own index y ws, w.before args s = true := fun w h => ht w (hT w h).1
  have hG : GoodIn Ts ws := fun w h => hT w (by unfold va_wsS; exact List.mem_append_right _ h)
  have hc : Cond.codeWith y bytes maxL ret hh ∈ ws := by rw [hw]; exact List.mem_cons_self
  refine ⟨⟨hrc, hrs, hR.1, hR.2, pay_in ht hG, hc⟩, ht _ (hG _ hc).1, ok _ (by simp [va_wsS]), ⟨hd.1, hd.2.1⟩, fun sig h => ?_, ok _ (by simp [va_wsS]), ok _ (by simp [va_wsS])⟩
  have h2 := hd.2.2
  rw [h] at h2
  exact (Option.some.inj h2).symm
theorem vx_callSW (X : Stand p l e R s m args below meth c T locs cells slots) (hexec : p.tables.exec = Jvm.exec) {own : String} {index : Nat} {y : MethodName} {bytes : ByteArray} {maxL : Nat} {ret : Option FieldType} {hh : List (Nat × Nat × Nat × Nat)}
    (hown : s.vm.findClass own = some m.cls) (hlink : (Cond.methodLink own index y).before args s = true) (hstat : (Cond.static y).before args s = true) (hinit : (Cond.initialized y.cls).before args s = true)
    (hcode : (Cond.codeWith y bytes maxL ret hh).before args s = true) (hy : y.cls ≠ "java/lang/invoke/MethodHandle" ∧ y.cls ≠ "java/lang/invoke/VarHandle")
    {W9 : Nat} {Pre : Pt → Array Value → Prop} {Post : Pt → Array Value → Option Value → Pt → Prop} (hK : Back l R p e below s args y 3 W9 Pre Post)
    {g : JFrame} (hg : g.method = m) (hsize : g.locals.size = c.maxLocals) {argsL rest : List Value} (hlen : ∀ sig, parseMethodDescriptor y.desc = some sig → argsL.length = sig.parameters.length)
    (hstack : g.stack = argsL.reverse ++ rest) (hW : 2 * g.monitorRoom + (rest.map fun v => v.category).sum ≤ W9) (hdg : decode c.code g.pc = .ok (.invokestatic index, 3))
    (hpre : ∀ vm₁, s.WarmedH vm₁ → Pre ⟨T.setVm vm₁, locs, cells, slots⟩ argsL.toArray) :
    ∃ (v : Option Value) (vm₁ : Vm) (B : Pt), s.WarmedH vm₁ ∧ Stand p l e R s m args below meth c B.U B.locs B.cells B.slots ∧ Post ⟨T.setVm vm₁, locs, cells, slots⟩ argsL.toArray v B ∧
      ∀ target, Steps p.tables e below (B.U.setTop { g with pc := g.pc + 3, stack := v.toList ++ rest }) target → Steps p.tables e below (T.setTop g) target := by
  obtain ⟨mk, methM, cM, hnamed, hmethM, -, -, -, -, -, -, hsigM⟩ := Cond.codeWith_spec hcode
  have hstatic : methM.isStatic = true := Cond.static_spec hnamed hmethM hstat
  obtain ⟨kP, hkP, -⟩ := className_of_methodNamed hnamed
  have hinitP : kP.init = .initialized := Cond.initialized_spec (findClass_of_methodNamed hnamed) hkP hinit
  obtain ⟨vm₁, X₁, hstep₁⟩ := X.invokestatic hexec hown hlink hnamed hmethM hstatic hkP hinitP hy (g := g) hg (argsL := argsL) (rest := rest) (hlen _ hsigM) hstack hdg
  obtain ⟨v, B, X', hpost, hsteps⟩ := hK m meth c ⟨T.setVm vm₁, locs, cells, slots⟩ { g with stack := rest } (.invokestatic index) mk argsL.toArray X₁ hg hsize hdg hW (X₁.named hnamed) (hpre vm₁ X₁.warmed)
  exact ⟨v, vm₁, B, X₁.warmed, X', hpost, fun target h => hstep₁ _ fun acts => by rw [doInvoke_state]; exact hsteps.trans h⟩
theorem vx_runSW {y : MethodName} {bytes cc : ByteArray} {maxL nL mc ms n index : Nat} {ret : Option FieldType} {hh : List (Nat × Nat × Nat × Nat)} {ws : List Cond} {rm : Room} {Pc : Array Value → State → Prop} {Qc : Array Value → State → Outcome → State → Prop} {free : Addr → Prop} {Ts : List Cond} {own : String} {As rest : List Value} {g : JFrame}
    (S : CallFix p m c cc nL s args Ts own) (hM : Met l y ws rm Pc Qc mc ms free) (cw : vx_CSW R s args own index y bytes maxL ret hh ws rm mc ms n) (hp : PreS s H Pc As)
    (hg : g.method = m) (hn : As.length = n) (hsize : g.locals.size = nL) (hstack : g.stack = As.reverse ++ rest) (hW : 2 * g.monitorRoom + (rest.map fun v => v.category).sum ≤ 8) (hdg : decode cc g.pc = .ok (.invokestatic index, 3)) (hf : cells + mc ≤ R.cells ∧ slots + ms ≤ R.slots) :
    va_Run p l e R s m args below meth c H locs cells slots mc ms g rest (Qc As.toArray) (free) := by
  obtain ⟨⟨hrc, hrs, hfr, hlo, hws, hcw⟩, hcode, hini, hy, hlen, hl, hstt⟩ := cw
  have hK : Back l R p e below s args y 3 8 (PreOf R mc ms Pc) (PostOf Qc mc ms free) := va_backW (hh := hh) (bytes := bytes) (maxL := maxL) (ret := ret) hM hp.1 hrc hrs hfr hlo hws hcw (fun a' U hW => word_at hW (Or.inl (by first | rfl | simp [Cond.onTables, Cond.keeps, Cond.steady])) hini)
  obtain ⟨hx, hb, hml, ho, -⟩ := S
  intro T hT X
  obtain ⟨v, vm₁, ⟨U', l2, c2, s2⟩, hW₁, X', ⟨g', mk, t, L, e1, e2, hq, h1, hL, h2, h3⟩, st⟩ := vx_callSW X hx (hh := hh) (bytes := bytes) (maxL := maxL) (ret := ret) ho hl hstt hini hcode hy hK hg (hsize.trans hml.symm) (argsL := As) (rest := rest) (fun sig h => hn.trans (hlen sig h)) hstack hW (by rw [hb]; exact hdg)
    (fun vm₁ hW₁ => ⟨hf.1, hf.2, hp.2 (T.setVm vm₁) hT hW₁⟩)
  dsimp only [Pt.U, Pt.locs, Pt.cells, Pt.slots] at X' e1 e2 h1 h2 h3 st
  subst h1; subst h2; subst h3
  exact ⟨v, (T.setVm vm₁).calling g' mk As.toArray, t, U', L, hT, X', hL, e1, e2, hq, st⟩
/-- not caught here, past rows that name other classes: it goes on to the caller -/
theorem vx_lt {D : va_G} {cl : List vw_C} {ws : va_W} {H1 : Heap} (h : va_P D cl ws H1) {k : Nat} {q : Nat × va_E} (hk : ws[k]? = some q) : q.1 < H1.size := (h k q hk).lt
end VXS
/-! ===== END ===== -/
/-! ===== BEGIN methods with a table of their own: called by a name, returning or throwing ===== -/
section VXH
/-! vx_backW, vx_callVX, vx_callSX, vx_callVW, vx_runVW, vx_runVX, vx_runSX, vx_ofWH follow the same proofs as their sisters above (Free/Laws.lean, Shelf42/LK1.lean); vx_outP calls Shelf42/NT130.lean (outThrough). -/
section
variable {l : Launch} {R : Room} {p : Program} {e : Env} {below : List Frame} {s : State} {sargs : Array Value} {y : MethodName} {len W9 : Nat}
theorem vx_backW {ws : List Cond} {rm : Room} {Pc : Array Value → State → Prop} {Qc : Array Value → State → Outcome → State → Prop} {XC : String → State → State → Prop} {mc ms : Nat} {free : Addr → Prop} {bytes : ByteArray} {maxL : Nat} {ret : Option FieldType} {hh : List (Nat × Nat × Nat × Nat)}
    (hM : vx_Met l y ws rm Pc Qc XC mc ms free) (hblind : FrameBlind Pc) (hrc : rm.cells = mc) (hrs : rm.slots = ms)
    (hframes : rm.frames + 1 ≤ R.frames) (hlocals : W9 + (maxL + 11) + rm.locals ≤ R.locals)
    (hws : ∀ w ∈ ws, ∀ a' U, s.WarmedH U.vm → w.before a' U = true) (hcode : Cond.codeWith y bytes maxL ret hh ∈ ws) (hinit : ∀ a' U, s.WarmedH U.vm → (Cond.initialized y.cls).before a' U = true) :
    vx_Back l R p e below s sargs y len W9 (PreOf R mc ms Pc) (PostOf Qc mc ms free) (vx_Post XC mc ms free) := by
  intro m meth c A g ig mk a X hg hsize hdg hW hn hp
  have h1 : (headSpec ws rm).pre.before a A.U = true := atoms_intro fun w hw => hws w hw _ _ X.warmed
  have h2 : (Cond.codeWith y bytes maxL ret hh).before a A.U = true := hws _ hcode _ _ X.warmed
  have h3 : (Cond.initialized y.cls).before a A.U = true := hinit _ _ X.warmed
  have h4 : A.cells + (headSpec ws rm).room.cells ≤ R.cells := by rw [show (headSpec ws rm).room.cells = mc from hrc]; exact hp.1
  have h5 : A.slots + (headSpec ws rm).room.slots ≤ R.slots := by rw [show (headSpec ws rm).room.slots = ms from hrs]; exact hp.2.1
  have hPc : Pc a (A.U.calling g mk a) := hblind _ _ _ _ hp.2.2
  obtain ⟨U, Ls, c0, s0⟩ := A
  dsimp only [Pt.U, Pt.locs, Pt.cells, Pt.slots] at h1 h2 h3 h4 h5 X hn hPc ⊢
  obtain ⟨m9, methY, cY, hn9, hmY, hcY, -, hlY, -⟩ := Cond.codeWith_spec h2
  cases Option.some.inj (hn9.symm.trans hn)
  obtain ⟨kY, hkY, -⟩ := className_of_methodNamed hn
  have hinitY : kY.init = .initialized := Cond.initialized_spec (findClass_of_methodNamed hn) hkY h3
  have h : At U g.method c below := by rw [hg]; exact X.here
  have hlocals9 : W9 + (maxL + 11) + (headSpec ws rm).room.locals ≤ R.locals := hlocals
  have happ : (headSpec ws rm).appliesLoose y e.platform (U.calling g mk a) = true :=
    Spec.appliesLoose_calling (g := g) h hdg hn hkY hinitY
      (X.room_calling (g := g) (R' := (headSpec ws rm).room) hsize hmY hcY hframes (by rw [hlY]; omega) h4 h5) h1
  obtain ⟨mid, hmid⟩ := h.above
  have hfr : (U.setTop g).frames = (.java g :: mid) ++ below := by rw [State.frames_setTop' g h.top, hmid]; rfl
  obtain ⟨o, s₂, hsteps, -, hend, hq⟩ := Steps.callFree hM p X.admits X.cas X.clock (acts := []) hfr happ hPc trivial
  have hq' : vx_Q Qc XC mc ms free a (U.calling g mk a) o s₂ := hq
  rw [State.frames_setTop' g h.top] at hend
  obtain ⟨g₀, hg0⟩ := Option.isSome_iff_exists.mp h.top
  obtain ⟨r, hr⟩ := State.topJava?_eq_some.mp hg0
  have hr' : (({ U with heap := s₂.heap, slotsUsed := s₂.slotsUsed } : State).setVm s₂.vm).frames = .java g₀ :: r := hr
  rcases hq' with ⟨hqc, L, hfe, hL⟩ | ⟨q, rfl, E, ce, L, hx, hce, hcv, hcl, hW₂, hsm, hL⟩
  · obtain ⟨⟨v, rfl⟩, hW₂, e2, q2, q3, q4, q5, q6⟩ := id hfe
    have e3 : s₂ = ({ (U.calling g mk a).setFrames s₂.frames with heap := s₂.heap, slotsUsed := s₂.slotsUsed } : State).setVm s₂.vm := by
      have : s₂ = ({ s₂ with vm := (U.calling g mk a).vm } : State).setVm s₂.vm := rfl
      rw [e2] at this
      exact this
    obtain ⟨c₂, i₂, len₂, hc₂, hd₂, hf₂⟩ := hend
    have hW' : U.WarmedH s₂.vm := hW₂
    have hcc : c₂ = c := by
      have h1 : s₂.code? g.method = U.code? g.method := by
        rw [State.code?_eq, State.code?_eq, hW'.alike.method?]
      exact Option.some.inj (hc₂.symm.trans (h1.trans h.code))
    subst hcc
    have hlen : len₂ = len := by rw [hdg] at hd₂; cases hd₂; rfl
    subst hlen
    have hs₂ : s₂ = (({ U with heap := s₂.heap, slotsUsed := s₂.slotsUsed } : State).setVm s₂.vm).setTop { g with pc := g.pc + len₂, stack := v.toList ++ g.stack } := by
      refine e3.trans ?_
      rw [hf₂, State.calling_eq h.top, State.setFrames_setFrames, State.setTop_of_frames _ hr', hr]
      rfl
    have hsame : U.sameButNew ({ U with heap := s₂.heap, slotsUsed := s₂.slotsUsed } : State) L mc ms := by
      refine ⟨?_, q2, q3, q4, q5, q6⟩
      obtain ⟨t, ht, -⟩ := State.frames_cons hr
      show ({ U with heap := s₂.heap, slotsUsed := s₂.slotsUsed } : State) = { U.setFrames U.frames with heap := s₂.heap, slotsUsed := s₂.slotsUsed }
      rw [State.setFrames_self ht]
    subst hg
    refine Or.inl ⟨v, ⟨(({ U with heap := s₂.heap, slotsUsed := s₂.slotsUsed } : State).setVm s₂.vm), Ls ++ L, c0 + mc, s0 + ms⟩,
      ⟨X.admits, X.cas, X.clock, X.frames, X.room, X.hears, X.method, X.code, (X.here.setHeapUsed s₂.heap s₂.slotsUsed).setVm hW'.alike, X.tail, State.WarmedH.trans X.warmed hW', X.limits, X.bytes, X.same.trans (hsame.setVm s.vm)⟩,
      ⟨g, mk, s₂, L, rfl, rfl, hqc, rfl, hL, rfl, rfl⟩, ?_⟩
    show Steps p.tables e below _ ((({ U with heap := s₂.heap, slotsUsed := s₂.slotsUsed } : State).setVm s₂.vm).setTop { g with pc := g.pc + len₂, stack := v.toList ++ g.stack })
    rw [← hs₂]
    exact hsteps
  · obtain ⟨e2, q2, q3, q4, q5, q6⟩ := id hsm
    have e3 : s₂ = ({ (U.calling g mk a).setFrames s₂.frames with heap := s₂.heap, slotsUsed := s₂.slotsUsed } : State).setVm s₂.vm := by
      have : s₂ = ({ s₂ with vm := (U.calling g mk a).vm } : State).setVm s₂.vm := rfl
      rw [e2] at this
      exact this
    have hf₂ : s₂.frames = .throwing q :: .java g :: U.frames.tail := hend
    have hW' : U.WarmedH s₂.vm := hW₂
    have hs₂ : s₂ = ((({ U with heap := s₂.heap, slotsUsed := s₂.slotsUsed } : State).setVm s₂.vm).setTop g).pushFrame (.throwing q) := by
      refine e3.trans ?_
      rw [hf₂, State.calling_eq h.top, State.setFrames_setFrames, State.pushFrame, State.frames_setTop _ hr', State.setTop_of_frames _ hr', State.setFrames_setFrames, hr]
      rfl
    have hsame : U.sameButNew ({ U with heap := s₂.heap, slotsUsed := s₂.slotsUsed } : State) L mc ms := by
      refine ⟨?_, q2, q3, q4, q5, q6⟩
      obtain ⟨t, ht, -⟩ := State.frames_cons hr
      show ({ U with heap := s₂.heap, slotsUsed := s₂.slotsUsed } : State) = { U.setFrames U.frames with heap := s₂.heap, slotsUsed := s₂.slotsUsed }
      rw [State.setFrames_self ht]
    subst hg
    refine Or.inr ⟨q, ⟨(({ U with heap := s₂.heap, slotsUsed := s₂.slotsUsed } : State).setVm s₂.vm), Ls ++ L, c0 + mc, s0 + ms⟩,
      ⟨X.admits, X.cas, X.clock, X.frames, X.room, X.hears, X.method, X.code, (X.here.setHeapUsed s₂.heap s₂.slotsUsed).setVm hW'.alike, X.tail, State.WarmedH.trans X.warmed hW', X.limits, X.bytes, X.same.trans (hsame.setVm s.vm)⟩,
      ⟨g, mk, s₂, L, E, ce, rfl, rfl, hx, hce, hcv, hcl, rfl, hL, rfl, rfl⟩, ?_⟩
    show Steps p.tables e below _ (((({ U with heap := s₂.heap, slotsUsed := s₂.slotsUsed } : State).setVm s₂.vm).setTop g).pushFrame (.throwing q))
    rw [← hs₂]
    exact hsteps
end
variable {p : Program} {l : Launch} {e : Env} {R : Room} {s : State} {m : MethodId} {args : Array Value} {below : List Frame} {meth : Method} {c : Code} {T : State} {H : Heap} {locs : List Loc} {cells slots : Nat}
theorem vx_callVX (X : Stand p l e R s m args below meth c T locs cells slots) (hexec : p.tables.exec = Jvm.exec) {own C : String} {index : Nat} {y : MethodName} {bytes : ByteArray} {maxL : Nat} {ret : Option FieldType} {hh : List (Nat × Nat × Nat × Nat)}
    (hown : s.vm.findClass own = some m.cls) (hlink : (Cond.methodLink own index y).before args s = true) (hinst : (Cond.instanceMethod y).before args s = true) (hsel : (Cond.selects C y y).before args s = true)
    (hcode : (Cond.codeWith y bytes maxL ret hh).before args s = true) (hy : y.cls ≠ "java/lang/invoke/MethodHandle" ∧ y.cls ≠ "java/lang/invoke/VarHandle")
    {W9 : Nat} {Pre : Pt → Array Value → Prop} {Post : Pt → Array Value → Option Value → Pt → Prop} {PostX : Pt → Array Value → Addr → Pt → Prop} (hK : vx_Back l R p e below s args y 3 W9 Pre Post PostX)
    {b : Addr} {cellB : Cell} (hcell : T.heap[b]? = some cellB) (hobj : cellB.vm.isStatics = false) (hcls : s.vm.findClass C = some cellB.cls)
    {g : JFrame} (hg : g.method = m) (hsize : g.locals.size = c.maxLocals) {argsL rest : List Value} (hlen : ∀ sig, parseMethodDescriptor y.desc = some sig → argsL.length = sig.parameters.length)
    (hstack : g.stack = argsL.reverse ++ .ref b :: rest) (hW : 2 * g.monitorRoom + (rest.map fun v => v.category).sum ≤ W9) (hdg : decode c.code g.pc = .ok (.invokevirtual index, 3))
    (hpre : ∀ vm₁, s.WarmedH vm₁ → Pre ⟨T.setVm vm₁, locs, cells, slots⟩ (Value.ref b :: argsL).toArray) :
    (∃ (v : Option Value) (vm₁ : Vm) (B : Pt), s.WarmedH vm₁ ∧ Stand p l e R s m args below meth c B.U B.locs B.cells B.slots ∧ Post ⟨T.setVm vm₁, locs, cells, slots⟩ (Value.ref b :: argsL).toArray v B ∧
      ∀ target, Steps p.tables e below (B.U.setTop { g with pc := g.pc + 3, stack := v.toList ++ rest }) target → Steps p.tables e below (T.setTop g) target) ∨
    (∃ (q : Addr) (vm₁ : Vm) (B : Pt), s.WarmedH vm₁ ∧ Stand p l e R s m args below meth c B.U B.locs B.cells B.slots ∧ PostX ⟨T.setVm vm₁, locs, cells, slots⟩ (Value.ref b :: argsL).toArray q B ∧
      Steps p.tables e below (T.setTop g) ((B.U.setTop { g with stack := rest }).pushFrame (.throwing q))) := by
  obtain ⟨mk, methM, hnamed, hmethM, hstM, habM⟩ := Cond.instanceMethod_spec hinst
  obtain ⟨m8, methM', cM, hn8, hmethM', -, -, -, -, -, -, hsigM⟩ := Cond.codeWith_spec hcode
  cases Option.some.inj (hn8.symm.trans hnamed)
  cases hmethM.symm.trans hmethM'
  obtain ⟨c2, r2, m2, q1, q2, q3, q4, kP, hkP, hkPi⟩ := Cond.selects_spec hsel
  cases hcls.symm.trans q1
  cases (State.methodFound?_of_named hnamed hy).symm.trans q2
  cases hnamed.symm.trans q3
  have hselP : selectMethod e.platform s.vm cellB.cls mk = .method mk := by rw [Launch.admits_selectMethod X.admits]; exact q4
  obtain ⟨vm₁, X₁, hstep₁⟩ := X.invokevirtual hexec hown hlink hnamed hmethM hstM hkP hkPi hy (a := b) (cell := cellB) hcell
    (fun z h => by rw [h] at hobj; cases hobj) hselP hmethM habM hkP hkPi (g := g) hg (argsL := argsL) (rest := rest) (hlen _ hsigM) hstack hdg
  rcases hK m meth c ⟨T.setVm vm₁, locs, cells, slots⟩ { g with stack := rest } (.invokevirtual index) mk (Value.ref b :: argsL).toArray X₁ hg hsize hdg hW (X₁.named hnamed) (hpre vm₁ X₁.warmed) with ⟨v, B, X', hpost, hsteps⟩ | ⟨q, B, X', hpost, hsteps⟩
  · exact Or.inl ⟨v, vm₁, B, X₁.warmed, X', hpost, fun target h => hstep₁ _ fun acts => by rw [doInvoke_state]; exact hsteps.trans h⟩
  · exact Or.inr ⟨q, vm₁, B, X₁.warmed, X', hpost, hstep₁ _ fun acts => by rw [doInvoke_state]; exact hsteps⟩
theorem vx_callSX (X : Stand p l e R s m args below meth c T locs cells slots) (hexec : p.tables.exec = Jvm.exec) {own : String} {index : Nat} {y : MethodName} {bytes : ByteArray} {maxL : Nat} {ret : Option FieldType} {hh : List (Nat × Nat × Nat × Nat)}
    (hown : s.vm.findClass own = some m.cls) (hlink : (Cond.methodLink own index y).before args s = true) (hstat : (Cond.static y).before args s = true) (hinit : (Cond.initialized y.cls).before args s = true)
    (hcode : (Cond.codeWith y bytes maxL ret hh).before args s = true) (hy : y.cls ≠ "java/lang/invoke/MethodHandle" ∧ y.cls ≠ "java/lang/invoke/VarHandle")
    {W9 : Nat} {Pre : Pt → Array Value → Prop} {Post : Pt → Array Value → Option Value → Pt → Prop} {PostX : Pt → Array Value → Addr → Pt → Prop} (hK : vx_Back l R p e below s args y 3 W9 Pre Post PostX)
    {g : JFrame} (hg : g.method = m) (hsize : g.locals.size = c.maxLocals) {argsL rest : List Value} (hlen : ∀ sig, parseMethodDescriptor y.desc = some sig → argsL.length = sig.parameters.length)
    (hstack : g.stack = argsL.reverse ++ rest) (hW : 2 * g.monitorRoom + (rest.map fun v => v.category).sum ≤ W9) (hdg : decode c.code g.pc = .ok (.invokestatic index, 3))
    (hpre : ∀ vm₁, s.WarmedH vm₁ → Pre ⟨T.setVm vm₁, locs, cells, slots⟩ argsL.toArray) :
    (∃ (v : Option Value) (vm₁ : Vm) (B : Pt), s.WarmedH vm₁ ∧ Stand p l e R s m args below meth c B.U B.locs B.cells B.slots ∧ Post ⟨T.setVm vm₁, locs, cells, slots⟩ argsL.toArray v B ∧
      ∀ target, Steps p.tables e below (B.U.setTop { g with pc := g.pc + 3, stack := v.toList ++ rest }) target → Steps p.tables e below (T.setTop g) target) ∨
    (∃ (q : Addr) (vm₁ : Vm) (B : Pt), s.WarmedH vm₁ ∧ Stand p l e R s m args below meth c B.U B.locs B.cells B.slots ∧ PostX ⟨T.setVm vm₁, locs, cells, slots⟩ argsL.toArray q B ∧
      Steps p.tables e below (T.setTop g) ((B.U.setTop { g with stack := rest }).pushFrame (.throwing q))) := by
  obtain ⟨mk, methM, cM, hnamed, hmethM, -, -, -, -, -, -, hsigM⟩ := Cond.codeWith_spec hcode
  have hstatic : methM.isStatic = true := Cond.static_spec hnamed hmethM hstat
  obtain ⟨kP, hkP, -⟩ := className_of_methodNamed hnamed
  have hinitP : kP.init = .initialized := Cond.initialized_spec (findClass_of_methodNamed hnamed) hkP hinit
  obtain ⟨vm₁, X₁, hstep₁⟩ := X.invokestatic hexec hown hlink hnamed hmethM hstatic hkP hinitP hy (g := g) hg (argsL := argsL) (rest := rest) (hlen _ hsigM) hstack hdg
  rcases hK m meth c ⟨T.setVm vm₁, locs, cells, slots⟩ { g with stack := rest } (.invokestatic index) mk argsL.toArray X₁ hg hsize hdg hW (X₁.named hnamed) (hpre vm₁ X₁.warmed) with ⟨v, B, X', hpost, hsteps⟩ | ⟨q, B, X', hpost, hsteps⟩
  · exact Or.inl ⟨v, vm₁, B, X₁.warmed, X', hpost, fun target h => hstep₁ _ fun acts => by rw [doInvoke_state]; exact hsteps.trans h⟩
  · exact Or.inr ⟨q, vm₁, B, X₁.warmed, X', hpost, hstep₁ _ fun acts => by rw [doInvoke_state]; exact hsteps⟩
theorem vx_callVW (X : Stand p l e R s m args below meth c T locs cells slots) (hexec : p.tables.exec = Jvm.exec) {own C : String} {index : Nat} {y : MethodName} {bytes : ByteArray} {maxL : Nat} {ret : Option FieldType} {hh : List (Nat × Nat × Nat × Nat)}
    (hown : s.vm.findClass own = some m.cls) (hlink : (Cond.methodLink own index y).before args s = true) (hinst : (Cond.instanceMethod y).before args s = true) (hsel : (Cond.selects C y y).before args s = true)
    (hcode : (Cond.codeWith y bytes maxL ret hh).before args s = true) (hy : y.cls ≠ "java/lang/invoke/MethodHandle" ∧ y.cls ≠ "java/lang/invoke/VarHandle")
    {W9 : Nat} {Pre : Pt → Array Value → Prop} {Post : Pt → Array Value → Option Value → Pt → Prop} (hK : Back l R p e below s args y 3 W9 Pre Post)
    {b : Addr} {cellB : Cell} (hcell : T.heap[b]? = some cellB) (hobj : cellB.vm.isStatics = false) (hcls : s.vm.findClass C = some cellB.cls)
    {g : JFrame} (hg : g.method = m) (hsize : g.locals.size = c.maxLocals) {argsL rest : List Value} (hlen : ∀ sig, parseMethodDescriptor y.desc = some sig → argsL.length = sig.parameters.length)
    (hstack : g.stack = argsL.reverse ++ .ref b :: rest) (hW : 2 * g.monitorRoom + (rest.map fun v => v.category).sum ≤ W9) (hdg : decode c.code g.pc = .ok (.invokevirtual index, 3))
    (hpre : ∀ vm₁, s.WarmedH vm₁ → Pre ⟨T.setVm vm₁, locs, cells, slots⟩ (Value.ref b :: argsL).toArray) :
    ∃ (v : Option Value) (vm₁ : Vm) (B : Pt), s.WarmedH vm₁ ∧ Stand p l e R s m args below meth c B.U B.locs B.cells B.slots ∧ Post ⟨T.setVm vm₁, locs, cells, slots⟩ (Value.ref b :: argsL).toArray v B ∧
      ∀ target, Steps p.tables e below (B.U.setTop { g with pc := g.pc + 3, stack := v.toList ++ rest }) target → Steps p.tables e below (T.setTop g) target := by
  obtain ⟨mk, methM, hnamed, hmethM, hstM, habM⟩ := Cond.instanceMethod_spec hinst
  obtain ⟨m8, methM', cM, hn8, hmethM', -, -, -, -, -, -, hsigM⟩ := Cond.codeWith_spec hcode
  cases Option.some.inj (hn8.symm.trans hnamed)
  cases hmethM.symm.trans hmethM'
  obtain ⟨c2, r2, m2, q1, q2, q3, q4, kP, hkP, hkPi⟩ := Cond.selects_spec hsel
  cases hcls.symm.trans q1
  cases (State.methodFound?_of_named hnamed hy).symm.trans q2
  cases hnamed.symm.trans q3
  have hselP : selectMethod e.platform s.vm cellB.cls mk = .method mk := by rw [Launch.admits_selectMethod X.admits]; exact q4
  obtain ⟨vm₁, X₁, hstep₁⟩ := X.invokevirtual hexec hown hlink hnamed hmethM hstM hkP hkPi hy (a := b) (cell := cellB) hcell
    (fun z h => by rw [h] at hobj; cases hobj) hselP hmethM habM hkP hkPi (g := g) hg (argsL := argsL) (rest := rest) (hlen _ hsigM) hstack hdg
  obtain ⟨v, B, X', hpost, hsteps⟩ := hK m meth c ⟨T.setVm vm₁, locs, cells, slots⟩ { g with stack := rest } (.invokevirtual index) mk (Value.ref b :: argsL).toArray X₁ hg hsize hdg hW (X₁.named hnamed) (hpre vm₁ X₁.warmed)
  exact ⟨v, vm₁, B, X₁.warmed, X', hpost, fun target h => hstep₁ _ fun acts => by rw [doInvoke_state]; exact hsteps.trans h⟩
abbrev vx_CVW (R : Room) (s : State) (args : Array Value) (own C : String) (index : Nat) (y : MethodName) (bytes : ByteArray) (maxL : Nat) (ret : Option FieldType) (hh : List (Nat × Nat × Nat × Nat)) (ws : List Cond) (rm : Room) (mc ms n : Nat) : Prop :=
  (rm.cells = mc ∧ rm.slots = ms ∧ rm.frames + 1 ≤ R.frames ∧ 8 + (maxL + 11) + rm.locals ≤ R.locals ∧ (∀ w ∈ ws, ∀ (a' : Array Value) (U : State), s.WarmedH U.vm → w.before a' U = true) ∧ Cond.codeWith y bytes maxL ret hh ∈ ws) ∧
  (Cond.codeWith y bytes maxL ret hh).before args s = true ∧ (Cond.initialized y.cls).before args s = true ∧ (y.cls ≠ "java/lang/invoke/MethodHandle" ∧ y.cls ≠ "java/lang/invoke/VarHandle") ∧
  (∀ sig, parseMethodDescriptor y.desc = some sig → n = sig.parameters.length) ∧ (Cond.methodLink own index y).before args s = true ∧ (Cond.instanceMethod y).before args s = true ∧ (Cond.selects C y y).before args s = true
theorem vx_cwVW {own C : String} {index maxL mc ms : Nat} {y : MethodName} {bytes : ByteArray} {ret : Option FieldType} {hh : List (Nat × Nat × Nat × Nat)} {Ts ws ws' : List Cond} {rm : Room} (n : Nat) (ht : ∀ w ∈ Ts, w.before args s = true) (hT : GoodIn Ts (wsV own index C y ws)) (hw : ws = Cond.codeWith y bytes maxL ret hh :: ws') (hrc : rm.cells = mc) (hrs : rm.slots = ms)
    (hd : y.cls = C ∧ y.cls ≠ "java/lang/invoke/MethodHandle" ∧ y.cls ≠ "java/lang/invoke/VarHandle" ∧ (parseMethodDescriptor y.desc).map (fun d => d.parameters.length) = some n) (hR : rm.frames + 1 ≤ R.frames ∧ 8 + (maxL + 11) + rm.locals ≤ R.locals) :
    vx_CVW R s args own C index y bytes maxL ret hh ws rm mc ms n := by
  obtain ⟨hC, hd⟩ := hd
  subst hC
  have ok : ∀ w ∈ wsV own index y.cls y ws, w.before args s = true := fun w h => ht w (hT w h).1
  have hG : GoodIn Ts ws := fun w h => hT w (by unfold wsV; exact List.mem_append_right _ h)
  have hc : Cond.codeWith y bytes maxL ret hh ∈ ws := by rw [hw]; exact List.mem_cons_self
  refine ⟨⟨hrc, hrs, hR.1, hR.2, pay_in ht hG, hc⟩, ht _ (hG _ hc).1, ok _ (by simp [wsV]), ⟨hd.1, hd.2.1⟩, fun sig h => ?_, ok _ (by simp [wsV]), ok _ (by simp [wsV]), ok _ (by simp [wsV])⟩
  have h2 := hd.2.2
  rw [h] at h2
  exact (Option.some.inj h2).symm
theorem vx_runVW {y : MethodName} {bytes cc : ByteArray} {maxL nL mc ms n index : Nat} {ret : Option FieldType} {hh : List (Nat × Nat × Nat × Nat)} {ws : List Cond} {rm : Room} {Pc : Array Value → State → Prop} {Qc : Array Value → State → Outcome → State → Prop} {free : Addr → Prop} {Ts : List Cond} {own C : String} {b : Addr} {As rest : List Value} {g : JFrame}
    (S : CallFix p m c cc nL s args Ts own) (hM : Met l y ws rm Pc Qc mc ms free) (cw : vx_CVW R s args own C index y bytes maxL ret hh ws rm mc ms n) (hp : PreV s H C b Pc As)
    (hg : g.method = m) (hn : As.length = n) (hsize : g.locals.size = nL) (hstack : g.stack = As.reverse ++ .ref b :: rest) (hW : 2 * g.monitorRoom + (rest.map fun v => v.category).sum ≤ 8) (hdg : decode cc g.pc = .ok (.invokevirtual index, 3)) (hf : cells + mc ≤ R.cells ∧ slots + ms ≤ R.slots) :
    va_Run p l e R s m args below meth c H locs cells slots mc ms g rest (Qc (Value.ref b :: As).toArray) free := by
  obtain ⟨⟨hrc, hrs, hfr, hlo, hws, hcw⟩, hcode, hini, hy, hlen, hl, hin, hse⟩ := cw
  have hK : Back l R p e below s args y 3 8 (PreOf R mc ms Pc) (PostOf Qc mc ms free) := va_backW (hh := hh) (bytes := bytes) (maxL := maxL) (ret := ret) hM hp.1 hrc hrs hfr hlo hws hcw (fun a' U hW => word_at hW (Or.inl (by first | rfl | simp [Cond.onTables, Cond.keeps, Cond.steady])) hini)
  obtain ⟨hx, hb, hml, ho, -⟩ := S
  obtain ⟨-, ⟨cellB, hcB, hoB, hclB⟩, hPc⟩ := hp
  intro T hT X
  obtain ⟨v, vm₁, ⟨U', l2, c2, s2⟩, hW₁, X', ⟨g', mk, t, L, e1, e2, hq, h1, hL, h2, h3⟩, st⟩ := vx_callVW X hx (C := C) (hh := hh) (bytes := bytes) (maxL := maxL) (ret := ret) ho hl hin hse hcode hy hK (by rw [hT]; exact hcB) hoB hclB hg (hsize.trans hml.symm) (argsL := As) (rest := rest) (fun sig h => hn.trans (hlen sig h)) hstack hW (by rw [hb]; exact hdg)
    (fun vm₁ hW₁ => ⟨hf.1, hf.2, hPc (T.setVm vm₁) hT hW₁⟩)
  dsimp only [Pt.U, Pt.locs, Pt.cells, Pt.slots] at X' e1 e2 h1 h2 h3 st
  subst h1; subst h2; subst h3
  exact ⟨v, (T.setVm vm₁).calling g' mk (Value.ref b :: As).toArray, t, U', L, hT, X', hL, e1, e2, hq, st⟩
section
variable {y : MethodName} {bytes cc : ByteArray} {maxL nL mc ms n index : Nat} {ret : Option FieldType} {ws : List Cond} {rm : Room} {Pc : Array Value → State → Prop} {Qc : Array Value → State → Outcome → State → Prop} {XC : String → State → State → Prop} {free : Addr → Prop} {Ts : List Cond} {own C : String} {b : Addr} {As rest : List Value} {g : JFrame}
theorem vx_runVX {hh : List (Nat × Nat × Nat × Nat)} (S : CallFix p m c cc nL s args Ts own) (hM : vx_Met l y ws rm Pc Qc XC mc ms free) (cw : vx_CVW R s args own C index y bytes maxL ret hh ws rm mc ms n) (hp : PreV s H C b Pc As)
    (hg : g.method = m) (hn : As.length = n) (hsize : g.locals.size = nL) (hstack : g.stack = As.reverse ++ .ref b :: rest) (hW : 2 * g.monitorRoom + (rest.map fun v => v.category).sum ≤ 8) (hdg : decode cc g.pc = .ok (.invokevirtual index, 3)) (hf : cells + mc ≤ R.cells ∧ slots + ms ≤ R.slots) :
    vx_Run p l e R s m args below meth c H locs cells slots mc ms g rest (Qc (Value.ref b :: As).toArray) XC free := by
  obtain ⟨⟨hrc, hrs, hfr, hlo, hws, hcw⟩, hcode, hini, hy, hlen, hl, hin, hse⟩ := cw
  have hK : vx_Back l R p e below s args y 3 8 (PreOf R mc ms Pc) (PostOf Qc mc ms free) (vx_Post XC mc ms free) := vx_backW (hh := hh) (bytes := bytes) (maxL := maxL) (ret := ret) hM hp.1 hrc hrs hfr hlo hws hcw (fun a' U hW => word_at hW (Or.inl (by first | rfl | simp [Cond.onTables, Cond.keeps, Cond.steady])) hini)
  obtain ⟨hx, hb, hml, ho, -⟩ := S
  obtain ⟨-, ⟨cellB, hcB, hoB, hclB⟩, hPc⟩ := hp
  intro T hT X
  rcases vx_callVX X hx (C := C) (hh := hh) (bytes := bytes) (maxL := maxL) (ret := ret) ho hl hin hse hcode hy hK (by rw [hT]; exact hcB) hoB hclB hg (hsize.trans hml.symm) (argsL := As) (rest := rest) (fun sig h => hn.trans (hlen sig h)) hstack hW (by rw [hb]; exact hdg)
    (fun vm₁ hW₁ => ⟨hf.1, hf.2, hPc (T.setVm vm₁) hT hW₁⟩) with ⟨v, vm₁, ⟨U', l2, c2, s2⟩, hW₁, X', ⟨g', mk, t, L, e1, e2, hq, h1, hL, h2, h3⟩, st⟩ | ⟨q, vm₁, ⟨U', l2, c2, s2⟩, hW₁, X', ⟨g', mk, t, L, E, ce, e1, e2, hq, hce, hcv, hcl, h1, hL, h2, h3⟩, st⟩
  · dsimp only [Pt.U, Pt.locs, Pt.cells, Pt.slots] at X' e1 e2 h1 h2 h3 st
    subst h1; subst h2; subst h3
    exact Or.inl ⟨v, (T.setVm vm₁).calling g' mk (Value.ref b :: As).toArray, t, U', L, hT, X', hL, e1, e2, hq, st⟩
  · dsimp only [Pt.U, Pt.locs, Pt.cells, Pt.slots] at X' e1 e2 h1 h2 h3 st hcl
    subst h1; subst h2; subst h3
    exact Or.inr ⟨q, (T.setVm vm₁).calling g' mk (Value.ref b :: As).toArray, t, U', L, E, ce, hT, X', hL, e1, e2, hq, hce, hcv, vx_cls hW₁ hcl, st⟩
theorem vx_runSX {hh : List (Nat × Nat × Nat × Nat)} (S : CallFix p m c cc nL s args Ts own) (hM : vx_Met l y ws rm Pc Qc XC mc ms free) (cw : vx_CSW R s args own index y bytes maxL ret hh ws rm mc ms n) (hp : PreS s H Pc As)
    (hg : g.method = m) (hn : As.length = n) (hsize : g.locals.size = nL) (hstack : g.stack = As.reverse ++ rest) (hW : 2 * g.monitorRoom + (rest.map fun v => v.category).sum ≤ 8) (hdg : decode cc g.pc = .ok (.invokestatic index, 3)) (hf : cells + mc ≤ R.cells ∧ slots + ms ≤ R.slots) :
    vx_Run p l e R s m args below meth c H locs cells slots mc ms g rest (Qc As.toArray) XC free := by
  obtain ⟨⟨hrc, hrs, hfr, hlo, hws, hcw⟩, hcode, hini, hy, hlen, hl, hstt⟩ := cw
  have hK : vx_Back l R p e below s args y 3 8 (PreOf R mc ms Pc) (PostOf Qc mc ms free) (vx_Post XC mc ms free) := vx_backW (hh := hh) (bytes := bytes) (maxL := maxL) (ret := ret) hM hp.1 hrc hrs hfr hlo hws hcw (fun a' U hW => word_at hW (Or.inl (by first | rfl | simp [Cond.onTables, Cond.keeps, Cond.steady])) hini)
  obtain ⟨hx, hb, hml, ho, -⟩ := S
  intro T hT X
  rcases vx_callSX X hx (hh := hh) (bytes := bytes) (maxL := maxL) (ret := ret) ho hl hstt hini hcode hy hK hg (hsize.trans hml.symm) (argsL := As) (rest := rest) (fun sig h => hn.trans (hlen sig h)) hstack hW (by rw [hb]; exact hdg)
    (fun vm₁ hW₁ => ⟨hf.1, hf.2, hp.2 (T.setVm vm₁) hT hW₁⟩) with ⟨v, vm₁, ⟨U', l2, c2, s2⟩, hW₁, X', ⟨g', mk, t, L, e1, e2, hq, h1, hL, h2, h3⟩, st⟩ | ⟨q, vm₁, ⟨U', l2, c2, s2⟩, hW₁, X', ⟨g', mk, t, L, E, ce, e1, e2, hq, hce, hcv, hcl, h1, hL, h2, h3⟩, st⟩
  · dsimp only [Pt.U, Pt.locs, Pt.cells, Pt.slots] at X' e1 e2 h1 h2 h3 st
    subst h1; subst h2; subst h3
    exact Or.inl ⟨v, (T.setVm vm₁).calling g' mk As.toArray, t, U', L, hT, X', hL, e1, e2, hq, st⟩
  · dsimp only [Pt.U, Pt.locs, Pt.cells, Pt.slots] at X' e1 e2 h1 h2 h3 st hcl
    subst h1; subst h2; subst h3
    exact Or.inr ⟨q, (T.setVm vm₁).calling g' mk As.toArray, t, U', L, E, ce, hT, X', hL, e1, e2, hq, hce, hcv, vx_cls hW₁ hcl, st⟩
end
end VXH
theorem vx_ofWH {l : Launch} {y : MethodName} {ws ws' : List Cond} {rm : Room} {Pc : Array Value → State → Prop} {Qc : Array Value → State → Outcome → State → Prop} {XC : String → State → State → Prop} {mc ms : Nat} {free : Addr → Prop} {cc : ByteArray} {maxL : Nat} {ret : Option FieldType} {hh : List (Nat × Nat × Nat × Nat)}
    (hy : plainName y.cls = true) (hw : ws = Cond.codeWith y cc maxL ret hh :: ws')
    (body : ∀ p e s m args below meth c s₁, BodyLoose p l y (headSpec ws rm) cc maxL ret e s m args below meth c s₁ → c.maxLocals = maxL → Pc args s →
      W p l e (headSpec ws rm).room s m args below meth c s.heap [] 0 0 (vx_MQ below Qc XC args s mc ms free) (entryFrame m args maxL)) : vx_Met l y ws rm Pc Qc XC mc ms free := by
  refine MetFree.of_bodyS (code := cc) (maxLocals := maxL) (ret := ret) hy ?_ ?_
  · intro args s m h hn
    obtain ⟨m9, meth, c, hn9, h1, h2, h3, h4, -, h5, h6, -⟩ := Cond.codeWith_spec (atoms_spec (ws := ws) h _ (by rw [hw]; exact List.mem_cons_self))
    cases hn.symm.trans hn9
    exact ⟨meth, c, h1, h2, h3, h4, h5, h6⟩
  · intro p e s m args below meth c s₁ B hml hP _
    have hh0 : s₁.heap = s.heap := by rw [B.state]; rfl
    obtain ⟨t, a1, o, b1, b2, b3⟩ := body p e s m args below meth c s₁ B hml hP s₁ hh0 (Stand.of_body B)
    exact ⟨t, o, a1, b1, b2, b3⟩
/-! ===== END ===== -/

/-! ===== BEGIN printed: names, fields, word lists, decode rows ===== -/
end
section
def RX0 : String := "MarginHouse$Instrument"
def TX0 : u_T := fun k => match k with
  | 0 => ("MarginHouse$Instrument", "price", "I", false)
  | 1 => ("MarginHouse$Instrument", "limit", "I", false)
  | _ => ("MarginHouse$Instrument", "extra", "I", false)
def tyX0 : Nat → FieldType := fun k => match k with
  | 0 => .int
  | 1 => .int
  | _ => .int
abbrev wsX00 : List Cond := u_ws RX0 TX0 3
theorem nmX0 : ∀ a, a < 3 → ∀ b, b < 3 → a ≠ b → (TX0 a).2.1 ≠ (TX0 b).2.1 := by decide +kernel
theorem tyX0_ok : ∀ k, k < 3 → parseFieldDescriptor (TX0 k).2.2.1 = some (tyX0 k) := by decide +kernel
abbrev cX0_init : ByteArray := prog_2_method_1_code
def yX0_init : MethodName := ⟨RX0, "<init>", "()V"⟩
def RX1 : String := "MarginHouse$Member"
def TX1 : u_T := fun k => match k with
  | 0 => ("MarginHouse$Member", "position", "[I", true)
  | 1 => ("MarginHouse$Member", "bid", "[I", true)
  | 2 => ("MarginHouse$Member", "standing", "I", false)
  | 3 => ("MarginHouse$Member", "cash", "J", false)
  | _ => ("MarginHouse$Member", "contribution", "J", false)
def tyX1 : Nat → FieldType := fun k => match k with
  | 0 => .array .int
  | 1 => .array .int
  | 2 => .int
  | 3 => .long
  | _ => .long
abbrev wsX10 : List Cond := u_ws RX1 TX1 5
theorem nmX1 : ∀ a, a < 5 → ∀ b, b < 5 → a ≠ b → (TX1 a).2.1 ≠ (TX1 b).2.1 := by decide +kernel
theorem tyX1_ok : ∀ k, k < 5 → parseFieldDescriptor (TX1 k).2.2.1 = some (tyX1 k) := by decide +kernel
abbrev cX1_init : ByteArray := prog_3_method_1_code
def yX1_init : MethodName := ⟨RX1, "<init>", "()V"⟩
def RX2 : String := "MarginHouse$Plan"
def TX2 : u_T := fun k => match k with
  | 0 => ("MarginHouse$Plan", "taker", "[I", true)
  | 1 => ("MarginHouse$Plan", "cash", "[J", true)
  | 2 => ("MarginHouse$Plan", "contribution", "[J", true)
  | 3 => ("MarginHouse$Plan", "borne", "[J", true)
  | 4 => ("MarginHouse$Plan", "shares", "LMarginHouse$Shares;", true)
  | 5 => ("MarginHouse$Plan", "capital", "J", false)
  | _ => ("MarginHouse$Plan", "missing", "J", false)
def tyX2 : Nat → FieldType := fun k => match k with
  | 0 => .array .int
  | 1 => .array .long
  | 2 => .array .long
  | 3 => .array .long
  | 4 => .object "MarginHouse$Shares"
  | 5 => .long
  | _ => .long
abbrev wsX20 : List Cond := u_ws RX2 TX2 7
theorem nmX2 : ∀ a, a < 7 → ∀ b, b < 7 → a ≠ b → (TX2 a).2.1 ≠ (TX2 b).2.1 := by decide +kernel
theorem tyX2_ok : ∀ k, k < 7 → parseFieldDescriptor (TX2 k).2.2.1 = some (tyX2 k) := by decide +kernel
abbrev cX2_init : ByteArray := prog_4_method_1_code
def yX2_init : MethodName := ⟨RX2, "<init>", "()V"⟩
abbrev cX2_startLayers : ByteArray := prog_4_method_2_code
def yX2_startLayers : MethodName := ⟨RX2, "startLayers", "(I)V"⟩
abbrev cX2_bearByOwnContribution : ByteArray := prog_4_method_3_code
def yX2_bearByOwnContribution : MethodName := ⟨RX2, "bearByOwnContribution", "(I)V"⟩
abbrev cX2_bearByCapital : ByteArray := prog_4_method_4_code
def yX2_bearByCapital : MethodName := ⟨RX2, "bearByCapital", "()V"⟩
abbrev cX2_bearByContributions : ByteArray := prog_4_method_5_code
def yX2_bearByContributions : MethodName := ⟨RX2, "bearByContributions", "()V"⟩
abbrev cX2_bearByCalls : ByteArray := prog_4_method_6_code
def yX2_bearByCalls : MethodName := ⟨RX2, "bearByCalls", "()V"⟩
abbrev cX2_leaveTheRest : ByteArray := prog_4_method_7_code
def yX2_leaveTheRest : MethodName := ⟨RX2, "leaveTheRest", "()V"⟩
abbrev cX2_bear : ByteArray := prog_4_method_8_code
def yX2_bear : MethodName := ⟨RX2, "bear", "(IJ)V"⟩
def RX3 : String := "MarginHouse$Shares"
def TX3 : u_T := fun k => match k with
  | 0 => ("MarginHouse$Shares", "weight", "[J", true)
  | 1 => ("MarginHouse$Shares", "part", "[J", true)
  | _ => ("MarginHouse$Shares", "remainder", "[J", true)
def tyX3 : Nat → FieldType := fun k => match k with
  | 0 => .array .long
  | 1 => .array .long
  | _ => .array .long
abbrev wsX30 : List Cond := u_ws RX3 TX3 3
theorem nmX3 : ∀ a, a < 3 → ∀ b, b < 3 → a ≠ b → (TX3 a).2.1 ≠ (TX3 b).2.1 := by decide +kernel
theorem tyX3_ok : ∀ k, k < 3 → parseFieldDescriptor (TX3 k).2.2.1 = some (tyX3 k) := by decide +kernel
abbrev cX3_init : ByteArray := prog_5_method_1_code
def yX3_init : MethodName := ⟨RX3, "<init>", "()V"⟩
abbrev cX3_split : ByteArray := prog_5_method_2_code
def yX3_split : MethodName := ⟨RX3, "split", "(J)V"⟩
abbrev cX3_bearWhole : ByteArray := prog_5_method_3_code
def yX3_bearWhole : MethodName := ⟨RX3, "bearWhole", "()V"⟩
abbrev cX3_bearRounded : ByteArray := prog_5_method_4_code
def yX3_bearRounded : MethodName := ⟨RX3, "bearRounded", "(JJ)V"⟩
abbrev cX3_roundDown : ByteArray := prog_5_method_5_code
def yX3_roundDown : MethodName := ⟨RX3, "roundDown", "(IJJ)V"⟩
abbrev cX3_giveOneMore : ByteArray := prog_5_method_6_code
def yX3_giveOneMore : MethodName := ⟨RX3, "giveOneMore", "()V"⟩
def RX4 : String := "MarginHouse"
def TX4 : u_T := fun k => match k with
  | 0 => ("MarginHouse", "members", "[LMarginHouse$Member;", true)
  | 1 => ("MarginHouse", "instruments", "[LMarginHouse$Instrument;", true)
  | 2 => ("MarginHouse", "moves", "[[I", true)
  | 3 => ("MarginHouse", "borne", "[J", true)
  | 4 => ("MarginHouse", "plan", "LMarginHouse$Plan;", true)
  | 5 => ("MarginHouse", "memberCount", "I", false)
  | 6 => ("MarginHouse", "instrumentCount", "I", false)
  | 7 => ("MarginHouse", "tradeCount", "I", false)
  | 8 => ("MarginHouse", "capitalHeld", "J", false)
  | _ => ("MarginHouse", "losses", "J", false)
def tyX4 : Nat → FieldType := fun k => match k with
  | 0 => .array (.object "MarginHouse$Member")
  | 1 => .array (.object "MarginHouse$Instrument")
  | 2 => .array (.array .int)
  | 3 => .array .long
  | 4 => .object "MarginHouse$Plan"
  | 5 => .int
  | 6 => .int
  | 7 => .int
  | 8 => .long
  | _ => .long
abbrev wsX40 : List Cond := u_ws RX4 TX4 10
theorem nmX4 : ∀ a, a < 10 → ∀ b, b < 10 → a ≠ b → (TX4 a).2.1 ≠ (TX4 b).2.1 := by decide +kernel
theorem tyX4_ok : ∀ k, k < 10 → parseFieldDescriptor (TX4 k).2.2.1 = some (tyX4 k) := by decide +kernel
abbrev cX4_init : ByteArray := prog_1_method_1_code
def yX4_init : MethodName := ⟨RX4, "<init>", "()V"⟩
abbrev cX4_member : ByteArray := prog_1_method_2_code
def yX4_member : MethodName := ⟨RX4, "member", "(J)I"⟩
abbrev cX4_instrument : ByteArray := prog_1_method_3_code
def yX4_instrument : MethodName := ⟨RX4, "instrument", "(III)I"⟩
abbrev cX4_capital : ByteArray := prog_1_method_4_code
def yX4_capital : MethodName := ⟨RX4, "capital", "(J)J"⟩
abbrev cX4_move : ByteArray := prog_1_method_5_code
def yX4_move : MethodName := ⟨RX4, "move", "(III)V"⟩
abbrev cX4_bid : ByteArray := prog_1_method_6_code
def yX4_bid : MethodName := ⟨RX4, "bid", "(III)V"⟩
abbrev cX4_deposit : ByteArray := prog_1_method_7_code
def yX4_deposit : MethodName := ⟨RX4, "deposit", "(IJ)J"⟩
abbrev cX4_withdraw : ByteArray := prog_1_method_8_code
def yX4_withdraw : MethodName := ⟨RX4, "withdraw", "(IJ)J"⟩
abbrev cX4_trade : ByteArray := prog_1_method_9_code
def yX4_trade : MethodName := ⟨RX4, "trade", "(IIIII)I"⟩
abbrev cX4_mark : ByteArray := prog_1_method_10_code
def yX4_mark : MethodName := ⟨RX4, "mark", "(II)I"⟩
abbrev cX4_margin : ByteArray := prog_1_method_11_code
def yX4_margin : MethodName := ⟨RX4, "margin", "(I)J"⟩
abbrev cX4_called : ByteArray := prog_1_method_12_code
def yX4_called : MethodName := ⟨RX4, "called", "(I)J"⟩
abbrev cX4_declare : ByteArray := prog_1_method_13_code
def yX4_declare : MethodName := ⟨RX4, "declare", "()I"⟩
abbrev cX4_closeOut : ByteArray := prog_1_method_14_code
def yX4_closeOut : MethodName := ⟨RX4, "closeOut", "(I)J"⟩
abbrev cX4_told : ByteArray := prog_1_method_15_code
def yX4_told : MethodName := ⟨RX4, "told", "(II)J"⟩
abbrev cX4_position : ByteArray := prog_1_method_16_code
def yX4_position : MethodName := ⟨RX4, "position", "(II)I"⟩
abbrev cX4_bore : ByteArray := prog_1_method_17_code
def yX4_bore : MethodName := ⟨RX4, "bore", "(I)J"⟩
abbrev cX4_all : ByteArray := prog_1_method_18_code
def yX4_all : MethodName := ⟨RX4, "all", "(I)J"⟩
abbrev cX4_need : ByteArray := prog_1_method_19_code
def yX4_need : MethodName := ⟨RX4, "need", "(Z)V"⟩
abbrev cX4_needStanding : ByteArray := prog_1_method_20_code
def yX4_needStanding : MethodName := ⟨RX4, "needStanding", "(LMarginHouse$Member;I)V"⟩
abbrev cX4_within : ByteArray := prog_1_method_21_code
def yX4_within : MethodName := ⟨RX4, "within", "(JJJ)Z"⟩
abbrev cX4_isTooMuch : ByteArray := prog_1_method_22_code
def yX4_isTooMuch : MethodName := ⟨RX4, "isTooMuch", "(J)Z"⟩
abbrev cX4_isTooMany : ByteArray := prog_1_method_23_code
def yX4_isTooMany : MethodName := ⟨RX4, "isTooMany", "(I)Z"⟩
abbrev cX4_isMember : ByteArray := prog_1_method_24_code
def yX4_isMember : MethodName := ⟨RX4, "isMember", "(I)Z"⟩
abbrev cX4_isInstrument : ByteArray := prog_1_method_25_code
def yX4_isInstrument : MethodName := ⟨RX4, "isInstrument", "(I)Z"⟩
abbrev cX4_countLiveBelowZero : ByteArray := prog_1_method_26_code
def yX4_countLiveBelowZero : MethodName := ⟨RX4, "countLiveBelowZero", "()I"⟩
abbrev cX4_marginOf : ByteArray := prog_1_method_27_code
def yX4_marginOf : MethodName := ⟨RX4, "marginOf", "(LMarginHouse$Member;)J"⟩
abbrev cX4_lossUnder : ByteArray := prog_1_method_28_code
def yX4_lossUnder : MethodName := ⟨RX4, "lossUnder", "([ILMarginHouse$Member;)J"⟩
abbrev cX4_extraOf : ByteArray := prog_1_method_29_code
def yX4_extraOf : MethodName := ⟨RX4, "extraOf", "(LMarginHouse$Member;)J"⟩
abbrev cX4_shortfallOf : ByteArray := prog_1_method_30_code
def yX4_shortfallOf : MethodName := ⟨RX4, "shortfallOf", "(LMarginHouse$Member;)J"⟩
abbrev cX4_sumCash : ByteArray := prog_1_method_31_code
def yX4_sumCash : MethodName := ⟨RX4, "sumCash", "()J"⟩
abbrev cX4_sumContributions : ByteArray := prog_1_method_32_code
def yX4_sumContributions : MethodName := ⟨RX4, "sumContributions", "()J"⟩
abbrev cX4_sumUnitsOpen : ByteArray := prog_1_method_33_code
def yX4_sumUnitsOpen : MethodName := ⟨RX4, "sumUnitsOpen", "()J"⟩
abbrev cX4_startPlan : ByteArray := prog_1_method_34_code
def yX4_startPlan : MethodName := ⟨RX4, "startPlan", "()V"⟩
abbrev cX4_planTakers : ByteArray := prog_1_method_35_code
def yX4_planTakers : MethodName := ⟨RX4, "planTakers", "(I)Z"⟩
abbrev cX4_leastBidder : ByteArray := prog_1_method_36_code
def yX4_leastBidder : MethodName := ⟨RX4, "leastBidder", "(I)I"⟩
abbrev cX4_planTaking : ByteArray := prog_1_method_37_code
def yX4_planTaking : MethodName := ⟨RX4, "planTaking", "(III)Z"⟩
abbrev cX4_planLayers : ByteArray := prog_1_method_38_code
def yX4_planLayers : MethodName := ⟨RX4, "planLayers", "(I)V"⟩
abbrev cX4_weighContributions : ByteArray := prog_1_method_39_code
def yX4_weighContributions : MethodName := ⟨RX4, "weighContributions", "()V"⟩
abbrev cX4_weighCalls : ByteArray := prog_1_method_40_code
def yX4_weighCalls : MethodName := ⟨RX4, "weighCalls", "()V"⟩
abbrev cX4_carryOutPlan : ByteArray := prog_1_method_41_code
def yX4_carryOutPlan : MethodName := ⟨RX4, "carryOutPlan", "(I)V"⟩
def RX5 : String := "MarginHouseModel"
def TX5 : u_T := fun k => match k with
  | 0 => ("MarginHouseModel", "thrown", "I", false)
  | 1 => ("MarginHouseModel", "members", "I", false)
  | 2 => ("MarginHouseModel", "instruments", "I", false)
  | 3 => ("MarginHouseModel", "cash", "[J", true)
  | 4 => ("MarginHouseModel", "fund", "[J", true)
  | 5 => ("MarginHouseModel", "state", "[I", true)
  | 6 => ("MarginHouseModel", "positions", "[I", true)
  | 7 => ("MarginHouseModel", "bids", "[I", true)
  | 8 => ("MarginHouseModel", "prices", "[I", true)
  | 9 => ("MarginHouseModel", "limits", "[I", true)
  | 10 => ("MarginHouseModel", "extras", "[I", true)
  | 11 => ("MarginHouseModel", "moves", "[I", true)
  | 12 => ("MarginHouseModel", "capital", "J", false)
  | 13 => ("MarginHouseModel", "losses", "J", false)
  | 14 => ("MarginHouseModel", "trades", "J", false)
  | 15 => ("MarginHouseModel", "bore", "[J", true)
  | 16 => ("MarginHouseModel", "wasCash", "[J", true)
  | 17 => ("MarginHouseModel", "wasFund", "[J", true)
  | 18 => ("MarginHouseModel", "wasPositions", "[I", true)
  | 19 => ("MarginHouseModel", "layers", "[J", true)
  | 20 => ("MarginHouseModel", "weights", "[J", true)
  | 21 => ("MarginHouseModel", "parts", "[J", true)
  | 22 => ("MarginHouseModel", "rests", "[J", true)
  | _ => ("MarginHouseModel", "beyond", "Z", false)
def tyX5 : Nat → FieldType := fun k => match k with
  | 0 => .int
  | 1 => .int
  | 2 => .int
  | 3 => .array .long
  | 4 => .array .long
  | 5 => .array .int
  | 6 => .array .int
  | 7 => .array .int
  | 8 => .array .int
  | 9 => .array .int
  | 10 => .array .int
  | 11 => .array .int
  | 12 => .long
  | 13 => .long
  | 14 => .long
  | 15 => .array .long
  | 16 => .array .long
  | 17 => .array .long
  | 18 => .array .int
  | 19 => .array .long
  | 20 => .array .long
  | 21 => .array .long
  | 22 => .array .long
  | _ => .boolean
abbrev wsX50 : List Cond := u_ws RX5 TX5 24
theorem nmX5 : ∀ a, a < 24 → ∀ b, b < 24 → a ≠ b → (TX5 a).2.1 ≠ (TX5 b).2.1 := by decide +kernel
theorem tyX5_ok : ∀ k, k < 24 → parseFieldDescriptor (TX5 k).2.2.1 = some (tyX5 k) := by decide +kernel
abbrev cX5_init : ByteArray := prog_7_method_1_code
def yX5_init : MethodName := ⟨RX5, "<init>", "()V"⟩
abbrev cX5_thrown : ByteArray := prog_7_method_2_code
def yX5_thrown : MethodName := ⟨RX5, "thrown", "()I"⟩
abbrev cX5_within : ByteArray := prog_7_method_3_code
def yX5_within : MethodName := ⟨RX5, "within", "(JJJ)Z"⟩
abbrev cX5_isMember : ByteArray := prog_7_method_4_code
def yX5_isMember : MethodName := ⟨RX5, "isMember", "(I)Z"⟩
abbrev cX5_isInstrument : ByteArray := prog_7_method_5_code
def yX5_isInstrument : MethodName := ⟨RX5, "isInstrument", "(I)Z"⟩
abbrev cX5_isFar : ByteArray := prog_7_method_6_code
def yX5_isFar : MethodName := ⟨RX5, "isFar", "(J)Z"⟩
abbrev cX5_member : ByteArray := prog_7_method_7_code
def yX5_member : MethodName := ⟨RX5, "member", "(J)I"⟩
abbrev cX5_instrument : ByteArray := prog_7_method_8_code
def yX5_instrument : MethodName := ⟨RX5, "instrument", "(III)I"⟩
abbrev cX5_capital : ByteArray := prog_7_method_9_code
def yX5_capital : MethodName := ⟨RX5, "capital", "(J)J"⟩
abbrev cX5_move : ByteArray := prog_7_method_10_code
def yX5_move : MethodName := ⟨RX5, "move", "(III)V"⟩
abbrev cX5_bid : ByteArray := prog_7_method_11_code
def yX5_bid : MethodName := ⟨RX5, "bid", "(III)V"⟩
abbrev cX5_deposit : ByteArray := prog_7_method_12_code
def yX5_deposit : MethodName := ⟨RX5, "deposit", "(IJ)J"⟩
abbrev cX5_marginOf : ByteArray := prog_7_method_13_code
def yX5_marginOf : MethodName := ⟨RX5, "marginOf", "(I)J"⟩
abbrev cX5_withdraw : ByteArray := prog_7_method_14_code
def yX5_withdraw : MethodName := ⟨RX5, "withdraw", "(IJ)J"⟩
abbrev cX5_trade : ByteArray := prog_7_method_15_code
def yX5_trade : MethodName := ⟨RX5, "trade", "(IIIII)I"⟩
abbrev cX5_mark : ByteArray := prog_7_method_16_code
def yX5_mark : MethodName := ⟨RX5, "mark", "(II)I"⟩
abbrev cX5_margin : ByteArray := prog_7_method_17_code
def yX5_margin : MethodName := ⟨RX5, "margin", "(I)J"⟩
abbrev cX5_callOf : ByteArray := prog_7_method_18_code
def yX5_callOf : MethodName := ⟨RX5, "callOf", "(I)J"⟩
abbrev cX5_called : ByteArray := prog_7_method_19_code
def yX5_called : MethodName := ⟨RX5, "called", "(I)J"⟩
abbrev cX5_declare : ByteArray := prog_7_method_20_code
def yX5_declare : MethodName := ⟨RX5, "declare", "()I"⟩
abbrev cX5_change : ByteArray := prog_7_method_21_code
def yX5_change : MethodName := ⟨RX5, "change", "(IJ)V"⟩
abbrev cX5_bestBid : ByteArray := prog_7_method_22_code
def yX5_bestBid : MethodName := ⟨RX5, "bestBid", "(I)I"⟩
abbrev cX5_give : ByteArray := prog_7_method_23_code
def yX5_give : MethodName := ⟨RX5, "give", "(II)V"⟩
abbrev cX5_divide : ByteArray := prog_7_method_24_code
def yX5_divide : MethodName := ⟨RX5, "divide", "(IJJ)V"⟩
abbrev cX5_share : ByteArray := prog_7_method_25_code
def yX5_share : MethodName := ⟨RX5, "share", "(J)J"⟩
abbrev cX5_bear : ByteArray := prog_7_method_26_code
def yX5_bear : MethodName := ⟨RX5, "bear", "(I)J"⟩
abbrev cX5_closeOut : ByteArray := prog_7_method_27_code
def yX5_closeOut : MethodName := ⟨RX5, "closeOut", "(I)J"⟩
abbrev cX5_wouldLose : ByteArray := prog_7_method_28_code
def yX5_wouldLose : MethodName := ⟨RX5, "wouldLose", "(I)J"⟩
abbrev cX5_told : ByteArray := prog_7_method_29_code
def yX5_told : MethodName := ⟨RX5, "told", "(II)J"⟩
abbrev cX5_position : ByteArray := prog_7_method_30_code
def yX5_position : MethodName := ⟨RX5, "position", "(II)I"⟩
abbrev cX5_bore : ByteArray := prog_7_method_31_code
def yX5_bore : MethodName := ⟨RX5, "bore", "(I)J"⟩
abbrev cX5_all : ByteArray := prog_7_method_32_code
def yX5_all : MethodName := ⟨RX5, "all", "(I)J"⟩
def RJ9 : String := "java/lang/Math"
def TJ9 : u_T := fun k => match k with
  | _ => ("", "", "", false)
def tyJ9 : Nat → FieldType := fun k => match k with
  | _ => .int
abbrev wsJ90 : List Cond := u_ws RJ9 TJ9 0
theorem nmJ9 : ∀ a, a < 0 → ∀ b, b < 0 → a ≠ b → (TJ9 a).2.1 ≠ (TJ9 b).2.1 := by decide +kernel
theorem tyJ9_ok : ∀ k, k < 0 → parseFieldDescriptor (TJ9 k).2.2.1 = some (tyJ9 k) := by decide +kernel
abbrev cJ9_abs_0f7a4 : ByteArray := prog_11_method_59_code
def yJ9_abs_0f7a4 : MethodName := ⟨RJ9, "abs", "(I)I"⟩
abbrev cJ9_max_7cf53 : ByteArray := prog_11_method_65_code
def yJ9_max_7cf53 : MethodName := ⟨RJ9, "max", "(II)I"⟩
abbrev cJ9_max_f86c9 : ByteArray := prog_11_method_66_code
def yJ9_max_f86c9 : MethodName := ⟨RJ9, "max", "(JJ)J"⟩
abbrev cJ9_min_f86c9 : ByteArray := prog_11_method_70_code
def yJ9_min_f86c9 : MethodName := ⟨RJ9, "min", "(JJ)J"⟩
def RL : String := "MarginHouseLaw"
abbrev cL_member : ByteArray := method_3_code
def yL_member : MethodName := ⟨RL, "member", "(LMarginHouse;J[J)I"⟩
abbrev cL_instrument : ByteArray := method_4_code
def yL_instrument : MethodName := ⟨RL, "instrument", "(LMarginHouse;III[J)I"⟩
abbrev cL_capital : ByteArray := method_5_code
def yL_capital : MethodName := ⟨RL, "capital", "(LMarginHouse;J[J)I"⟩
abbrev cL_move : ByteArray := method_6_code
def yL_move : MethodName := ⟨RL, "move", "(LMarginHouse;III)I"⟩
abbrev cL_bid : ByteArray := method_7_code
def yL_bid : MethodName := ⟨RL, "bid", "(LMarginHouse;III)I"⟩
abbrev cL_deposit : ByteArray := method_8_code
def yL_deposit : MethodName := ⟨RL, "deposit", "(LMarginHouse;IJ[J)I"⟩
abbrev cL_withdraw : ByteArray := method_9_code
def yL_withdraw : MethodName := ⟨RL, "withdraw", "(LMarginHouse;IJ[J)I"⟩
abbrev cL_trade : ByteArray := method_10_code
def yL_trade : MethodName := ⟨RL, "trade", "(LMarginHouse;IIIII[J)I"⟩
abbrev cL_mark : ByteArray := method_11_code
def yL_mark : MethodName := ⟨RL, "mark", "(LMarginHouse;II[J)I"⟩
abbrev cL_margin : ByteArray := method_12_code
def yL_margin : MethodName := ⟨RL, "margin", "(LMarginHouse;I[J)I"⟩
abbrev cL_called : ByteArray := method_13_code
def yL_called : MethodName := ⟨RL, "called", "(LMarginHouse;I[J)I"⟩
abbrev cL_closeOut : ByteArray := method_14_code
def yL_closeOut : MethodName := ⟨RL, "closeOut", "(LMarginHouse;I[J)I"⟩
abbrev cL_told : ByteArray := method_15_code
def yL_told : MethodName := ⟨RL, "told", "(LMarginHouse;II[J)I"⟩
abbrev cL_position : ByteArray := method_16_code
def yL_position : MethodName := ⟨RL, "position", "(LMarginHouse;II[J)I"⟩
abbrev cL_bore : ByteArray := method_17_code
def yL_bore : MethodName := ⟨RL, "bore", "(LMarginHouse;I[J)I"⟩
abbrev cL_all : ByteArray := method_18_code
def yL_all : MethodName := ⟨RL, "all", "(LMarginHouse;I[J)I"⟩
abbrev cL_law : ByteArray := code
def yL_law : MethodName := ⟨RL, "law", "([I)Z"⟩
abbrev cl_ : List vw_C := [(RX0, TX0, 3), (RX1, TX1, 5), (RX2, TX2, 7), (RX3, TX3, 3), (RX4, TX4, 10), (RX5, TX5, 24)]
end
section
theorem dX0_init_0 : decode cX0_init 0 = .ok (.aload_n 0, 1) := by decide +kernel
theorem dX0_init_1 : decode cX0_init 1 = .ok (.invokespecial 1, 3) := by decide +kernel
theorem dX0_init_4 : decode cX0_init 4 = .ok (.aload_n 0, 1) := by decide +kernel
theorem dX0_init_5 : decode cX0_init 5 = .ok (.iconst 0, 1) := by decide +kernel
theorem dX0_init_6 : decode cX0_init 6 = .ok (.putfield 7, 3) := by decide +kernel
theorem dX0_init_9 : decode cX0_init 9 = .ok (.aload_n 0, 1) := by decide +kernel
theorem dX0_init_10 : decode cX0_init 10 = .ok (.iconst 0, 1) := by decide +kernel
theorem dX0_init_11 : decode cX0_init 11 = .ok (.putfield 13, 3) := by decide +kernel
theorem dX0_init_14 : decode cX0_init 14 = .ok (.aload_n 0, 1) := by decide +kernel
theorem dX0_init_15 : decode cX0_init 15 = .ok (.iconst 0, 1) := by decide +kernel
theorem dX0_init_16 : decode cX0_init 16 = .ok (.putfield 16, 3) := by decide +kernel
theorem dX0_init_19 : decode cX0_init 19 = .ok (.return_, 1) := by decide +kernel
theorem dX1_init_0 : decode cX1_init 0 = .ok (.aload_n 0, 1) := by decide +kernel
theorem dX1_init_1 : decode cX1_init 1 = .ok (.invokespecial 3, 3) := by decide +kernel
theorem dX1_init_4 : decode cX1_init 4 = .ok (.aload_n 0, 1) := by decide +kernel
theorem dX1_init_5 : decode cX1_init 5 = .ok (.bipush 6, 2) := by decide +kernel
theorem dX1_init_7 : decode cX1_init 7 = .ok (.newarray .int, 2) := by decide +kernel
theorem dX1_init_9 : decode cX1_init 9 = .ok (.putfield 9, 3) := by decide +kernel
theorem dX1_init_12 : decode cX1_init 12 = .ok (.aload_n 0, 1) := by decide +kernel
theorem dX1_init_13 : decode cX1_init 13 = .ok (.bipush 6, 2) := by decide +kernel
theorem dX1_init_15 : decode cX1_init 15 = .ok (.newarray .int, 2) := by decide +kernel
theorem dX1_init_17 : decode cX1_init 17 = .ok (.putfield 15, 3) := by decide +kernel
theorem dX1_init_20 : decode cX1_init 20 = .ok (.aload_n 0, 1) := by decide +kernel
theorem dX1_init_21 : decode cX1_init 21 = .ok (.iconst 0, 1) := by decide +kernel
theorem dX1_init_22 : decode cX1_init 22 = .ok (.putfield 18, 3) := by decide +kernel
theorem dX1_init_25 : decode cX1_init 25 = .ok (.aload_n 0, 1) := by decide +kernel
theorem dX1_init_26 : decode cX1_init 26 = .ok (.lconst 0, 1) := by decide +kernel
theorem dX1_init_27 : decode cX1_init 27 = .ok (.putfield 22, 3) := by decide +kernel
theorem dX1_init_30 : decode cX1_init 30 = .ok (.aload_n 0, 1) := by decide +kernel
theorem dX1_init_31 : decode cX1_init 31 = .ok (.lconst 0, 1) := by decide +kernel
theorem dX1_init_32 : decode cX1_init 32 = .ok (.putfield 26, 3) := by decide +kernel
theorem dX1_init_35 : decode cX1_init 35 = .ok (.return_, 1) := by decide +kernel
theorem dX2_init_0 : decode cX2_init 0 = .ok (.aload_n 0, 1) := by decide +kernel
theorem dX2_init_1 : decode cX2_init 1 = .ok (.invokespecial 3, 3) := by decide +kernel
theorem dX2_init_4 : decode cX2_init 4 = .ok (.aload_n 0, 1) := by decide +kernel
theorem dX2_init_5 : decode cX2_init 5 = .ok (.bipush 6, 2) := by decide +kernel
theorem dX2_init_7 : decode cX2_init 7 = .ok (.newarray .int, 2) := by decide +kernel
theorem dX2_init_9 : decode cX2_init 9 = .ok (.putfield 9, 3) := by decide +kernel
theorem dX2_init_12 : decode cX2_init 12 = .ok (.aload_n 0, 1) := by decide +kernel
theorem dX2_init_13 : decode cX2_init 13 = .ok (.bipush 8, 2) := by decide +kernel
theorem dX2_init_15 : decode cX2_init 15 = .ok (.newarray .long, 2) := by decide +kernel
theorem dX2_init_17 : decode cX2_init 17 = .ok (.putfield 15, 3) := by decide +kernel
theorem dX2_init_20 : decode cX2_init 20 = .ok (.aload_n 0, 1) := by decide +kernel
theorem dX2_init_21 : decode cX2_init 21 = .ok (.bipush 8, 2) := by decide +kernel
theorem dX2_init_23 : decode cX2_init 23 = .ok (.newarray .long, 2) := by decide +kernel
theorem dX2_init_25 : decode cX2_init 25 = .ok (.putfield 19, 3) := by decide +kernel
theorem dX2_init_28 : decode cX2_init 28 = .ok (.aload_n 0, 1) := by decide +kernel
theorem dX2_init_29 : decode cX2_init 29 = .ok (.iconst 5, 1) := by decide +kernel
theorem dX2_init_30 : decode cX2_init 30 = .ok (.newarray .long, 2) := by decide +kernel
theorem dX2_init_32 : decode cX2_init 32 = .ok (.putfield 22, 3) := by decide +kernel
theorem dX2_init_35 : decode cX2_init 35 = .ok (.aload_n 0, 1) := by decide +kernel
theorem dX2_init_36 : decode cX2_init 36 = .ok (.new 25, 3) := by decide +kernel
theorem dX2_init_39 : decode cX2_init 39 = .ok (.dup, 1) := by decide +kernel
theorem dX2_init_40 : decode cX2_init 40 = .ok (.invokespecial 27, 3) := by decide +kernel
theorem dX2_init_43 : decode cX2_init 43 = .ok (.putfield 28, 3) := by decide +kernel
theorem dX2_init_46 : decode cX2_init 46 = .ok (.aload_n 0, 1) := by decide +kernel
theorem dX2_init_47 : decode cX2_init 47 = .ok (.lconst 0, 1) := by decide +kernel
theorem dX2_init_48 : decode cX2_init 48 = .ok (.putfield 32, 3) := by decide +kernel
theorem dX2_init_51 : decode cX2_init 51 = .ok (.aload_n 0, 1) := by decide +kernel
theorem dX2_init_52 : decode cX2_init 52 = .ok (.lconst 0, 1) := by decide +kernel
theorem dX2_init_53 : decode cX2_init 53 = .ok (.putfield 36, 3) := by decide +kernel
theorem dX2_init_56 : decode cX2_init 56 = .ok (.return_, 1) := by decide +kernel
theorem dX2_startLayers_0 : decode cX2_startLayers 0 = .ok (.aload_n 0, 1) := by decide +kernel
theorem dX2_startLayers_1 : decode cX2_startLayers 1 = .ok (.lconst 0, 1) := by decide +kernel
theorem dX2_startLayers_2 : decode cX2_startLayers 2 = .ok (.aload_n 0, 1) := by decide +kernel
theorem dX2_startLayers_3 : decode cX2_startLayers 3 = .ok (.getfield 15, 3) := by decide +kernel
theorem dX2_startLayers_6 : decode cX2_startLayers 6 = .ok (.iload_n 1, 1) := by decide +kernel
theorem dX2_startLayers_7 : decode cX2_startLayers 7 = .ok (.laload, 1) := by decide +kernel
theorem dX2_startLayers_8 : decode cX2_startLayers 8 = .ok (.lneg, 1) := by decide +kernel
theorem dX2_startLayers_9 : decode cX2_startLayers 9 = .ok (.invokestatic 39, 3) := by decide +kernel
theorem dX2_startLayers_12 : decode cX2_startLayers 12 = .ok (.putfield 36, 3) := by decide +kernel
theorem dX2_startLayers_15 : decode cX2_startLayers 15 = .ok (.aload_n 0, 1) := by decide +kernel
theorem dX2_startLayers_16 : decode cX2_startLayers 16 = .ok (.getfield 15, 3) := by decide +kernel
theorem dX2_startLayers_19 : decode cX2_startLayers 19 = .ok (.iload_n 1, 1) := by decide +kernel
theorem dX2_startLayers_20 : decode cX2_startLayers 20 = .ok (.dup2, 1) := by decide +kernel
theorem dX2_startLayers_21 : decode cX2_startLayers 21 = .ok (.laload, 1) := by decide +kernel
theorem dX2_startLayers_22 : decode cX2_startLayers 22 = .ok (.aload_n 0, 1) := by decide +kernel
theorem dX2_startLayers_23 : decode cX2_startLayers 23 = .ok (.getfield 36, 3) := by decide +kernel
theorem dX2_startLayers_26 : decode cX2_startLayers 26 = .ok (.ladd, 1) := by decide +kernel
theorem dX2_startLayers_27 : decode cX2_startLayers 27 = .ok (.lastore, 1) := by decide +kernel
theorem dX2_startLayers_28 : decode cX2_startLayers 28 = .ok (.iconst 0, 1) := by decide +kernel
theorem dX2_startLayers_29 : decode cX2_startLayers 29 = .ok (.istore_n 2, 1) := by decide +kernel
theorem dX2_startLayers_30 : decode cX2_startLayers 30 = .ok (.iload_n 2, 1) := by decide +kernel
theorem dX2_startLayers_31 : decode cX2_startLayers 31 = .ok (.iconst 5, 1) := by decide +kernel
theorem dX2_startLayers_32 : decode cX2_startLayers 32 = .ok (.if_icmp .ge 16, 3) := by decide +kernel
theorem dX2_startLayers_35 : decode cX2_startLayers 35 = .ok (.aload_n 0, 1) := by decide +kernel
theorem dX2_startLayers_36 : decode cX2_startLayers 36 = .ok (.getfield 22, 3) := by decide +kernel
theorem dX2_startLayers_39 : decode cX2_startLayers 39 = .ok (.iload_n 2, 1) := by decide +kernel
theorem dX2_startLayers_40 : decode cX2_startLayers 40 = .ok (.lconst 0, 1) := by decide +kernel
theorem dX2_startLayers_41 : decode cX2_startLayers 41 = .ok (.lastore, 1) := by decide +kernel
theorem dX2_startLayers_42 : decode cX2_startLayers 42 = .ok (.iinc 2 1, 3) := by decide +kernel
theorem dX2_startLayers_45 : decode cX2_startLayers 45 = .ok (.goto (-15), 3) := by decide +kernel
theorem dX2_startLayers_48 : decode cX2_startLayers 48 = .ok (.return_, 1) := by decide +kernel
theorem dX2_bearByOwnContribution_0 : decode cX2_bearByOwnContribution 0 = .ok (.aload_n 0, 1) := by decide +kernel
theorem dX2_bearByOwnContribution_1 : decode cX2_bearByOwnContribution 1 = .ok (.getfield 36, 3) := by decide +kernel
theorem dX2_bearByOwnContribution_4 : decode cX2_bearByOwnContribution 4 = .ok (.aload_n 0, 1) := by decide +kernel
theorem dX2_bearByOwnContribution_5 : decode cX2_bearByOwnContribution 5 = .ok (.getfield 19, 3) := by decide +kernel
theorem dX2_bearByOwnContribution_8 : decode cX2_bearByOwnContribution 8 = .ok (.iload_n 1, 1) := by decide +kernel
theorem dX2_bearByOwnContribution_9 : decode cX2_bearByOwnContribution 9 = .ok (.laload, 1) := by decide +kernel
theorem dX2_bearByOwnContribution_10 : decode cX2_bearByOwnContribution 10 = .ok (.invokestatic 45, 3) := by decide +kernel
theorem dX2_bearByOwnContribution_13 : decode cX2_bearByOwnContribution 13 = .ok (.lstore_n 2, 1) := by decide +kernel
theorem dX2_bearByOwnContribution_14 : decode cX2_bearByOwnContribution 14 = .ok (.aload_n 0, 1) := by decide +kernel
theorem dX2_bearByOwnContribution_15 : decode cX2_bearByOwnContribution 15 = .ok (.getfield 19, 3) := by decide +kernel
theorem dX2_bearByOwnContribution_18 : decode cX2_bearByOwnContribution 18 = .ok (.iload_n 1, 1) := by decide +kernel
theorem dX2_bearByOwnContribution_19 : decode cX2_bearByOwnContribution 19 = .ok (.dup2, 1) := by decide +kernel
theorem dX2_bearByOwnContribution_20 : decode cX2_bearByOwnContribution 20 = .ok (.laload, 1) := by decide +kernel
theorem dX2_bearByOwnContribution_21 : decode cX2_bearByOwnContribution 21 = .ok (.lload_n 2, 1) := by decide +kernel
theorem dX2_bearByOwnContribution_22 : decode cX2_bearByOwnContribution 22 = .ok (.lsub, 1) := by decide +kernel
theorem dX2_bearByOwnContribution_23 : decode cX2_bearByOwnContribution 23 = .ok (.lastore, 1) := by decide +kernel
theorem dX2_bearByOwnContribution_24 : decode cX2_bearByOwnContribution 24 = .ok (.aload_n 0, 1) := by decide +kernel
theorem dX2_bearByOwnContribution_25 : decode cX2_bearByOwnContribution 25 = .ok (.iconst 0, 1) := by decide +kernel
theorem dX2_bearByOwnContribution_26 : decode cX2_bearByOwnContribution 26 = .ok (.lload_n 2, 1) := by decide +kernel
theorem dX2_bearByOwnContribution_27 : decode cX2_bearByOwnContribution 27 = .ok (.invokevirtual 48, 3) := by decide +kernel
theorem dX2_bearByOwnContribution_30 : decode cX2_bearByOwnContribution 30 = .ok (.return_, 1) := by decide +kernel
theorem dX2_bearByCapital_0 : decode cX2_bearByCapital 0 = .ok (.aload_n 0, 1) := by decide +kernel
theorem dX2_bearByCapital_1 : decode cX2_bearByCapital 1 = .ok (.getfield 36, 3) := by decide +kernel
theorem dX2_bearByCapital_4 : decode cX2_bearByCapital 4 = .ok (.aload_n 0, 1) := by decide +kernel
theorem dX2_bearByCapital_5 : decode cX2_bearByCapital 5 = .ok (.getfield 32, 3) := by decide +kernel
theorem dX2_bearByCapital_8 : decode cX2_bearByCapital 8 = .ok (.invokestatic 45, 3) := by decide +kernel
theorem dX2_bearByCapital_11 : decode cX2_bearByCapital 11 = .ok (.lstore_n 1, 1) := by decide +kernel
theorem dX2_bearByCapital_12 : decode cX2_bearByCapital 12 = .ok (.aload_n 0, 1) := by decide +kernel
theorem dX2_bearByCapital_13 : decode cX2_bearByCapital 13 = .ok (.dup, 1) := by decide +kernel
theorem dX2_bearByCapital_14 : decode cX2_bearByCapital 14 = .ok (.getfield 32, 3) := by decide +kernel
theorem dX2_bearByCapital_17 : decode cX2_bearByCapital 17 = .ok (.lload_n 1, 1) := by decide +kernel
theorem dX2_bearByCapital_18 : decode cX2_bearByCapital 18 = .ok (.lsub, 1) := by decide +kernel
theorem dX2_bearByCapital_19 : decode cX2_bearByCapital 19 = .ok (.putfield 32, 3) := by decide +kernel
theorem dX2_bearByCapital_22 : decode cX2_bearByCapital 22 = .ok (.aload_n 0, 1) := by decide +kernel
theorem dX2_bearByCapital_23 : decode cX2_bearByCapital 23 = .ok (.iconst 1, 1) := by decide +kernel
theorem dX2_bearByCapital_24 : decode cX2_bearByCapital 24 = .ok (.lload_n 1, 1) := by decide +kernel
theorem dX2_bearByCapital_25 : decode cX2_bearByCapital 25 = .ok (.invokevirtual 48, 3) := by decide +kernel
theorem dX2_bearByCapital_28 : decode cX2_bearByCapital 28 = .ok (.return_, 1) := by decide +kernel
theorem dX2_bearByContributions_0 : decode cX2_bearByContributions 0 = .ok (.aload_n 0, 1) := by decide +kernel
theorem dX2_bearByContributions_1 : decode cX2_bearByContributions 1 = .ok (.getfield 28, 3) := by decide +kernel
theorem dX2_bearByContributions_4 : decode cX2_bearByContributions 4 = .ok (.aload_n 0, 1) := by decide +kernel
theorem dX2_bearByContributions_5 : decode cX2_bearByContributions 5 = .ok (.getfield 36, 3) := by decide +kernel
theorem dX2_bearByContributions_8 : decode cX2_bearByContributions 8 = .ok (.invokevirtual 52, 3) := by decide +kernel
theorem dX2_bearByContributions_11 : decode cX2_bearByContributions 11 = .ok (.iconst 0, 1) := by decide +kernel
theorem dX2_bearByContributions_12 : decode cX2_bearByContributions 12 = .ok (.istore_n 1, 1) := by decide +kernel
theorem dX2_bearByContributions_13 : decode cX2_bearByContributions 13 = .ok (.iload_n 1, 1) := by decide +kernel
theorem dX2_bearByContributions_14 : decode cX2_bearByContributions 14 = .ok (.bipush 8, 2) := by decide +kernel
theorem dX2_bearByContributions_16 : decode cX2_bearByContributions 16 = .ok (.if_icmp .ge 41, 3) := by decide +kernel
theorem dX2_bearByContributions_19 : decode cX2_bearByContributions 19 = .ok (.aload_n 0, 1) := by decide +kernel
theorem dX2_bearByContributions_20 : decode cX2_bearByContributions 20 = .ok (.getfield 19, 3) := by decide +kernel
theorem dX2_bearByContributions_23 : decode cX2_bearByContributions 23 = .ok (.iload_n 1, 1) := by decide +kernel
theorem dX2_bearByContributions_24 : decode cX2_bearByContributions 24 = .ok (.dup2, 1) := by decide +kernel
theorem dX2_bearByContributions_25 : decode cX2_bearByContributions 25 = .ok (.laload, 1) := by decide +kernel
theorem dX2_bearByContributions_26 : decode cX2_bearByContributions 26 = .ok (.aload_n 0, 1) := by decide +kernel
theorem dX2_bearByContributions_27 : decode cX2_bearByContributions 27 = .ok (.getfield 28, 3) := by decide +kernel
theorem dX2_bearByContributions_30 : decode cX2_bearByContributions 30 = .ok (.getfield 56, 3) := by decide +kernel
theorem dX2_bearByContributions_33 : decode cX2_bearByContributions 33 = .ok (.iload_n 1, 1) := by decide +kernel
theorem dX2_bearByContributions_34 : decode cX2_bearByContributions 34 = .ok (.laload, 1) := by decide +kernel
theorem dX2_bearByContributions_35 : decode cX2_bearByContributions 35 = .ok (.lsub, 1) := by decide +kernel
theorem dX2_bearByContributions_36 : decode cX2_bearByContributions 36 = .ok (.lastore, 1) := by decide +kernel
theorem dX2_bearByContributions_37 : decode cX2_bearByContributions 37 = .ok (.aload_n 0, 1) := by decide +kernel
theorem dX2_bearByContributions_38 : decode cX2_bearByContributions 38 = .ok (.iconst 2, 1) := by decide +kernel
theorem dX2_bearByContributions_39 : decode cX2_bearByContributions 39 = .ok (.aload_n 0, 1) := by decide +kernel
theorem dX2_bearByContributions_40 : decode cX2_bearByContributions 40 = .ok (.getfield 28, 3) := by decide +kernel
theorem dX2_bearByContributions_43 : decode cX2_bearByContributions 43 = .ok (.getfield 56, 3) := by decide +kernel
theorem dX2_bearByContributions_46 : decode cX2_bearByContributions 46 = .ok (.iload_n 1, 1) := by decide +kernel
theorem dX2_bearByContributions_47 : decode cX2_bearByContributions 47 = .ok (.laload, 1) := by decide +kernel
theorem dX2_bearByContributions_48 : decode cX2_bearByContributions 48 = .ok (.invokevirtual 48, 3) := by decide +kernel
theorem dX2_bearByContributions_51 : decode cX2_bearByContributions 51 = .ok (.iinc 1 1, 3) := by decide +kernel
theorem dX2_bearByContributions_54 : decode cX2_bearByContributions 54 = .ok (.goto (-41), 3) := by decide +kernel
theorem dX2_bearByContributions_57 : decode cX2_bearByContributions 57 = .ok (.return_, 1) := by decide +kernel
theorem dX2_bearByCalls_0 : decode cX2_bearByCalls 0 = .ok (.aload_n 0, 1) := by decide +kernel
theorem dX2_bearByCalls_1 : decode cX2_bearByCalls 1 = .ok (.getfield 28, 3) := by decide +kernel
theorem dX2_bearByCalls_4 : decode cX2_bearByCalls 4 = .ok (.aload_n 0, 1) := by decide +kernel
theorem dX2_bearByCalls_5 : decode cX2_bearByCalls 5 = .ok (.getfield 36, 3) := by decide +kernel
theorem dX2_bearByCalls_8 : decode cX2_bearByCalls 8 = .ok (.invokevirtual 52, 3) := by decide +kernel
theorem dX2_bearByCalls_11 : decode cX2_bearByCalls 11 = .ok (.iconst 0, 1) := by decide +kernel
theorem dX2_bearByCalls_12 : decode cX2_bearByCalls 12 = .ok (.istore_n 1, 1) := by decide +kernel
theorem dX2_bearByCalls_13 : decode cX2_bearByCalls 13 = .ok (.iload_n 1, 1) := by decide +kernel
theorem dX2_bearByCalls_14 : decode cX2_bearByCalls 14 = .ok (.bipush 8, 2) := by decide +kernel
theorem dX2_bearByCalls_16 : decode cX2_bearByCalls 16 = .ok (.if_icmp .ge 41, 3) := by decide +kernel
theorem dX2_bearByCalls_19 : decode cX2_bearByCalls 19 = .ok (.aload_n 0, 1) := by decide +kernel
theorem dX2_bearByCalls_20 : decode cX2_bearByCalls 20 = .ok (.getfield 15, 3) := by decide +kernel
theorem dX2_bearByCalls_23 : decode cX2_bearByCalls 23 = .ok (.iload_n 1, 1) := by decide +kernel
theorem dX2_bearByCalls_24 : decode cX2_bearByCalls 24 = .ok (.dup2, 1) := by decide +kernel
theorem dX2_bearByCalls_25 : decode cX2_bearByCalls 25 = .ok (.laload, 1) := by decide +kernel
theorem dX2_bearByCalls_26 : decode cX2_bearByCalls 26 = .ok (.aload_n 0, 1) := by decide +kernel
theorem dX2_bearByCalls_27 : decode cX2_bearByCalls 27 = .ok (.getfield 28, 3) := by decide +kernel
theorem dX2_bearByCalls_30 : decode cX2_bearByCalls 30 = .ok (.getfield 56, 3) := by decide +kernel
theorem dX2_bearByCalls_33 : decode cX2_bearByCalls 33 = .ok (.iload_n 1, 1) := by decide +kernel
theorem dX2_bearByCalls_34 : decode cX2_bearByCalls 34 = .ok (.laload, 1) := by decide +kernel
theorem dX2_bearByCalls_35 : decode cX2_bearByCalls 35 = .ok (.lsub, 1) := by decide +kernel
theorem dX2_bearByCalls_36 : decode cX2_bearByCalls 36 = .ok (.lastore, 1) := by decide +kernel
theorem dX2_bearByCalls_37 : decode cX2_bearByCalls 37 = .ok (.aload_n 0, 1) := by decide +kernel
theorem dX2_bearByCalls_38 : decode cX2_bearByCalls 38 = .ok (.iconst 3, 1) := by decide +kernel
theorem dX2_bearByCalls_39 : decode cX2_bearByCalls 39 = .ok (.aload_n 0, 1) := by decide +kernel
theorem dX2_bearByCalls_40 : decode cX2_bearByCalls 40 = .ok (.getfield 28, 3) := by decide +kernel
theorem dX2_bearByCalls_43 : decode cX2_bearByCalls 43 = .ok (.getfield 56, 3) := by decide +kernel
theorem dX2_bearByCalls_46 : decode cX2_bearByCalls 46 = .ok (.iload_n 1, 1) := by decide +kernel
theorem dX2_bearByCalls_47 : decode cX2_bearByCalls 47 = .ok (.laload, 1) := by decide +kernel
theorem dX2_bearByCalls_48 : decode cX2_bearByCalls 48 = .ok (.invokevirtual 48, 3) := by decide +kernel
theorem dX2_bearByCalls_51 : decode cX2_bearByCalls 51 = .ok (.iinc 1 1, 3) := by decide +kernel
theorem dX2_bearByCalls_54 : decode cX2_bearByCalls 54 = .ok (.goto (-41), 3) := by decide +kernel
theorem dX2_bearByCalls_57 : decode cX2_bearByCalls 57 = .ok (.return_, 1) := by decide +kernel
theorem dX2_leaveTheRest_0 : decode cX2_leaveTheRest 0 = .ok (.aload_n 0, 1) := by decide +kernel
theorem dX2_leaveTheRest_1 : decode cX2_leaveTheRest 1 = .ok (.iconst 4, 1) := by decide +kernel
theorem dX2_leaveTheRest_2 : decode cX2_leaveTheRest 2 = .ok (.aload_n 0, 1) := by decide +kernel
theorem dX2_leaveTheRest_3 : decode cX2_leaveTheRest 3 = .ok (.getfield 36, 3) := by decide +kernel
theorem dX2_leaveTheRest_6 : decode cX2_leaveTheRest 6 = .ok (.invokevirtual 48, 3) := by decide +kernel
theorem dX2_leaveTheRest_9 : decode cX2_leaveTheRest 9 = .ok (.return_, 1) := by decide +kernel
theorem dX2_bear_0 : decode cX2_bear 0 = .ok (.aload_n 0, 1) := by decide +kernel
theorem dX2_bear_1 : decode cX2_bear 1 = .ok (.getfield 22, 3) := by decide +kernel
theorem dX2_bear_4 : decode cX2_bear 4 = .ok (.iload_n 1, 1) := by decide +kernel
theorem dX2_bear_5 : decode cX2_bear 5 = .ok (.dup2, 1) := by decide +kernel
theorem dX2_bear_6 : decode cX2_bear 6 = .ok (.laload, 1) := by decide +kernel
theorem dX2_bear_7 : decode cX2_bear 7 = .ok (.lload_n 2, 1) := by decide +kernel
theorem dX2_bear_8 : decode cX2_bear 8 = .ok (.ladd, 1) := by decide +kernel
theorem dX2_bear_9 : decode cX2_bear 9 = .ok (.lastore, 1) := by decide +kernel
theorem dX2_bear_10 : decode cX2_bear 10 = .ok (.aload_n 0, 1) := by decide +kernel
theorem dX2_bear_11 : decode cX2_bear 11 = .ok (.dup, 1) := by decide +kernel
theorem dX2_bear_12 : decode cX2_bear 12 = .ok (.getfield 36, 3) := by decide +kernel
theorem dX2_bear_15 : decode cX2_bear 15 = .ok (.lload_n 2, 1) := by decide +kernel
theorem dX2_bear_16 : decode cX2_bear 16 = .ok (.lsub, 1) := by decide +kernel
theorem dX2_bear_17 : decode cX2_bear 17 = .ok (.putfield 36, 3) := by decide +kernel
theorem dX2_bear_20 : decode cX2_bear 20 = .ok (.return_, 1) := by decide +kernel
theorem dX3_init_0 : decode cX3_init 0 = .ok (.aload_n 0, 1) := by decide +kernel
theorem dX3_init_1 : decode cX3_init 1 = .ok (.invokespecial 3, 3) := by decide +kernel
theorem dX3_init_4 : decode cX3_init 4 = .ok (.aload_n 0, 1) := by decide +kernel
theorem dX3_init_5 : decode cX3_init 5 = .ok (.bipush 8, 2) := by decide +kernel
theorem dX3_init_7 : decode cX3_init 7 = .ok (.newarray .long, 2) := by decide +kernel
theorem dX3_init_9 : decode cX3_init 9 = .ok (.putfield 9, 3) := by decide +kernel
theorem dX3_init_12 : decode cX3_init 12 = .ok (.aload_n 0, 1) := by decide +kernel
theorem dX3_init_13 : decode cX3_init 13 = .ok (.bipush 8, 2) := by decide +kernel
theorem dX3_init_15 : decode cX3_init 15 = .ok (.newarray .long, 2) := by decide +kernel
theorem dX3_init_17 : decode cX3_init 17 = .ok (.putfield 15, 3) := by decide +kernel
theorem dX3_init_20 : decode cX3_init 20 = .ok (.aload_n 0, 1) := by decide +kernel
theorem dX3_init_21 : decode cX3_init 21 = .ok (.bipush 8, 2) := by decide +kernel
theorem dX3_init_23 : decode cX3_init 23 = .ok (.newarray .long, 2) := by decide +kernel
theorem dX3_init_25 : decode cX3_init 25 = .ok (.putfield 18, 3) := by decide +kernel
theorem dX3_init_28 : decode cX3_init 28 = .ok (.return_, 1) := by decide +kernel
theorem dX3_split_0 : decode cX3_split 0 = .ok (.lconst 0, 1) := by decide +kernel
theorem dX3_split_1 : decode cX3_split 1 = .ok (.lstore_n 3, 1) := by decide +kernel
theorem dX3_split_2 : decode cX3_split 2 = .ok (.iconst 0, 1) := by decide +kernel
theorem dX3_split_3 : decode cX3_split 3 = .ok (.istore 5, 2) := by decide +kernel
theorem dX3_split_5 : decode cX3_split 5 = .ok (.iload 5, 2) := by decide +kernel
theorem dX3_split_7 : decode cX3_split 7 = .ok (.bipush 8, 2) := by decide +kernel
theorem dX3_split_9 : decode cX3_split 9 = .ok (.if_icmp .ge 19, 3) := by decide +kernel
theorem dX3_split_12 : decode cX3_split 12 = .ok (.lload_n 3, 1) := by decide +kernel
theorem dX3_split_13 : decode cX3_split 13 = .ok (.aload_n 0, 1) := by decide +kernel
theorem dX3_split_14 : decode cX3_split 14 = .ok (.getfield 9, 3) := by decide +kernel
theorem dX3_split_17 : decode cX3_split 17 = .ok (.iload 5, 2) := by decide +kernel
theorem dX3_split_19 : decode cX3_split 19 = .ok (.laload, 1) := by decide +kernel
theorem dX3_split_20 : decode cX3_split 20 = .ok (.ladd, 1) := by decide +kernel
theorem dX3_split_21 : decode cX3_split 21 = .ok (.lstore_n 3, 1) := by decide +kernel
theorem dX3_split_22 : decode cX3_split 22 = .ok (.iinc 5 1, 3) := by decide +kernel
theorem dX3_split_25 : decode cX3_split 25 = .ok (.goto (-20), 3) := by decide +kernel
theorem dX3_split_28 : decode cX3_split 28 = .ok (.lload_n 3, 1) := by decide +kernel
theorem dX3_split_29 : decode cX3_split 29 = .ok (.lconst 0, 1) := by decide +kernel
theorem dX3_split_30 : decode cX3_split 30 = .ok (.lcmp, 1) := by decide +kernel
theorem dX3_split_31 : decode cX3_split 31 = .ok (.ifCond .le 9, 3) := by decide +kernel
theorem dX3_split_34 : decode cX3_split 34 = .ok (.lload_n 3, 1) := by decide +kernel
theorem dX3_split_35 : decode cX3_split 35 = .ok (.lload_n 1, 1) := by decide +kernel
theorem dX3_split_36 : decode cX3_split 36 = .ok (.lcmp, 1) := by decide +kernel
theorem dX3_split_37 : decode cX3_split 37 = .ok (.ifCond .gt 10, 3) := by decide +kernel
theorem dX3_split_40 : decode cX3_split 40 = .ok (.aload_n 0, 1) := by decide +kernel
theorem dX3_split_41 : decode cX3_split 41 = .ok (.invokevirtual 21, 3) := by decide +kernel
theorem dX3_split_44 : decode cX3_split 44 = .ok (.goto 9, 3) := by decide +kernel
theorem dX3_split_47 : decode cX3_split 47 = .ok (.aload_n 0, 1) := by decide +kernel
theorem dX3_split_48 : decode cX3_split 48 = .ok (.lload_n 1, 1) := by decide +kernel
theorem dX3_split_49 : decode cX3_split 49 = .ok (.lload_n 3, 1) := by decide +kernel
theorem dX3_split_50 : decode cX3_split 50 = .ok (.invokevirtual 24, 3) := by decide +kernel
theorem dX3_split_53 : decode cX3_split 53 = .ok (.return_, 1) := by decide +kernel
theorem dX3_bearWhole_0 : decode cX3_bearWhole 0 = .ok (.iconst 0, 1) := by decide +kernel
theorem dX3_bearWhole_1 : decode cX3_bearWhole 1 = .ok (.istore_n 1, 1) := by decide +kernel
theorem dX3_bearWhole_2 : decode cX3_bearWhole 2 = .ok (.iload_n 1, 1) := by decide +kernel
theorem dX3_bearWhole_3 : decode cX3_bearWhole 3 = .ok (.bipush 8, 2) := by decide +kernel
theorem dX3_bearWhole_5 : decode cX3_bearWhole 5 = .ok (.if_icmp .ge 21, 3) := by decide +kernel
theorem dX3_bearWhole_8 : decode cX3_bearWhole 8 = .ok (.aload_n 0, 1) := by decide +kernel
theorem dX3_bearWhole_9 : decode cX3_bearWhole 9 = .ok (.getfield 15, 3) := by decide +kernel
theorem dX3_bearWhole_12 : decode cX3_bearWhole 12 = .ok (.iload_n 1, 1) := by decide +kernel
theorem dX3_bearWhole_13 : decode cX3_bearWhole 13 = .ok (.aload_n 0, 1) := by decide +kernel
theorem dX3_bearWhole_14 : decode cX3_bearWhole 14 = .ok (.getfield 9, 3) := by decide +kernel
theorem dX3_bearWhole_17 : decode cX3_bearWhole 17 = .ok (.iload_n 1, 1) := by decide +kernel
theorem dX3_bearWhole_18 : decode cX3_bearWhole 18 = .ok (.laload, 1) := by decide +kernel
theorem dX3_bearWhole_19 : decode cX3_bearWhole 19 = .ok (.lastore, 1) := by decide +kernel
theorem dX3_bearWhole_20 : decode cX3_bearWhole 20 = .ok (.iinc 1 1, 3) := by decide +kernel
theorem dX3_bearWhole_23 : decode cX3_bearWhole 23 = .ok (.goto (-21), 3) := by decide +kernel
theorem dX3_bearWhole_26 : decode cX3_bearWhole 26 = .ok (.return_, 1) := by decide +kernel
theorem dX3_bearRounded_0 : decode cX3_bearRounded 0 = .ok (.lload_n 1, 1) := by decide +kernel
theorem dX3_bearRounded_1 : decode cX3_bearRounded 1 = .ok (.lstore 5, 2) := by decide +kernel
theorem dX3_bearRounded_3 : decode cX3_bearRounded 3 = .ok (.iconst 0, 1) := by decide +kernel
theorem dX3_bearRounded_4 : decode cX3_bearRounded 4 = .ok (.istore 7, 2) := by decide +kernel
theorem dX3_bearRounded_6 : decode cX3_bearRounded 6 = .ok (.iload 7, 2) := by decide +kernel
theorem dX3_bearRounded_8 : decode cX3_bearRounded 8 = .ok (.bipush 8, 2) := by decide +kernel
theorem dX3_bearRounded_10 : decode cX3_bearRounded 10 = .ok (.if_icmp .ge 29, 3) := by decide +kernel
theorem dX3_bearRounded_13 : decode cX3_bearRounded 13 = .ok (.aload_n 0, 1) := by decide +kernel
theorem dX3_bearRounded_14 : decode cX3_bearRounded 14 = .ok (.iload 7, 2) := by decide +kernel
theorem dX3_bearRounded_16 : decode cX3_bearRounded 16 = .ok (.lload_n 1, 1) := by decide +kernel
theorem dX3_bearRounded_17 : decode cX3_bearRounded 17 = .ok (.lload_n 3, 1) := by decide +kernel
theorem dX3_bearRounded_18 : decode cX3_bearRounded 18 = .ok (.invokevirtual 28, 3) := by decide +kernel
theorem dX3_bearRounded_21 : decode cX3_bearRounded 21 = .ok (.lload 5, 2) := by decide +kernel
theorem dX3_bearRounded_23 : decode cX3_bearRounded 23 = .ok (.aload_n 0, 1) := by decide +kernel
theorem dX3_bearRounded_24 : decode cX3_bearRounded 24 = .ok (.getfield 15, 3) := by decide +kernel
theorem dX3_bearRounded_27 : decode cX3_bearRounded 27 = .ok (.iload 7, 2) := by decide +kernel
theorem dX3_bearRounded_29 : decode cX3_bearRounded 29 = .ok (.laload, 1) := by decide +kernel
theorem dX3_bearRounded_30 : decode cX3_bearRounded 30 = .ok (.lsub, 1) := by decide +kernel
theorem dX3_bearRounded_31 : decode cX3_bearRounded 31 = .ok (.lstore 5, 2) := by decide +kernel
theorem dX3_bearRounded_33 : decode cX3_bearRounded 33 = .ok (.iinc 7 1, 3) := by decide +kernel
theorem dX3_bearRounded_36 : decode cX3_bearRounded 36 = .ok (.goto (-30), 3) := by decide +kernel
theorem dX3_bearRounded_39 : decode cX3_bearRounded 39 = .ok (.iconst 0, 1) := by decide +kernel
theorem dX3_bearRounded_40 : decode cX3_bearRounded 40 = .ok (.istore 7, 2) := by decide +kernel
theorem dX3_bearRounded_42 : decode cX3_bearRounded 42 = .ok (.iload 7, 2) := by decide +kernel
theorem dX3_bearRounded_44 : decode cX3_bearRounded 44 = .ok (.bipush 8, 2) := by decide +kernel
theorem dX3_bearRounded_46 : decode cX3_bearRounded 46 = .ok (.if_icmp .ge 22, 3) := by decide +kernel
theorem dX3_bearRounded_49 : decode cX3_bearRounded 49 = .ok (.iload 7, 2) := by decide +kernel
theorem dX3_bearRounded_51 : decode cX3_bearRounded 51 = .ok (.i2l, 1) := by decide +kernel
theorem dX3_bearRounded_52 : decode cX3_bearRounded 52 = .ok (.lload 5, 2) := by decide +kernel
theorem dX3_bearRounded_54 : decode cX3_bearRounded 54 = .ok (.lcmp, 1) := by decide +kernel
theorem dX3_bearRounded_55 : decode cX3_bearRounded 55 = .ok (.ifCond .ge 13, 3) := by decide +kernel
theorem dX3_bearRounded_58 : decode cX3_bearRounded 58 = .ok (.aload_n 0, 1) := by decide +kernel
theorem dX3_bearRounded_59 : decode cX3_bearRounded 59 = .ok (.invokevirtual 32, 3) := by decide +kernel
theorem dX3_bearRounded_62 : decode cX3_bearRounded 62 = .ok (.iinc 7 1, 3) := by decide +kernel
theorem dX3_bearRounded_65 : decode cX3_bearRounded 65 = .ok (.goto (-23), 3) := by decide +kernel
theorem dX3_bearRounded_68 : decode cX3_bearRounded 68 = .ok (.return_, 1) := by decide +kernel
theorem dX3_roundDown_0 : decode cX3_roundDown 0 = .ok (.lconst 0, 1) := by decide +kernel
theorem dX3_roundDown_1 : decode cX3_roundDown 1 = .ok (.lstore 6, 2) := by decide +kernel
theorem dX3_roundDown_3 : decode cX3_roundDown 3 = .ok (.lconst 0, 1) := by decide +kernel
theorem dX3_roundDown_4 : decode cX3_roundDown 4 = .ok (.lstore 8, 2) := by decide +kernel
theorem dX3_roundDown_6 : decode cX3_roundDown 6 = .ok (.bipush 32, 2) := by decide +kernel
theorem dX3_roundDown_8 : decode cX3_roundDown 8 = .ok (.istore 10, 2) := by decide +kernel
theorem dX3_roundDown_10 : decode cX3_roundDown 10 = .ok (.iload 10, 2) := by decide +kernel
theorem dX3_roundDown_12 : decode cX3_roundDown 12 = .ok (.ifCond .lt 56, 3) := by decide +kernel
theorem dX3_roundDown_15 : decode cX3_roundDown 15 = .ok (.aload_n 0, 1) := by decide +kernel
theorem dX3_roundDown_16 : decode cX3_roundDown 16 = .ok (.getfield 9, 3) := by decide +kernel
theorem dX3_roundDown_19 : decode cX3_roundDown 19 = .ok (.iload_n 1, 1) := by decide +kernel
theorem dX3_roundDown_20 : decode cX3_roundDown 20 = .ok (.laload, 1) := by decide +kernel
theorem dX3_roundDown_21 : decode cX3_roundDown 21 = .ok (.iload 10, 2) := by decide +kernel
theorem dX3_roundDown_23 : decode cX3_roundDown 23 = .ok (.lshr, 1) := by decide +kernel
theorem dX3_roundDown_24 : decode cX3_roundDown 24 = .ok (.ldc2_w 35, 3) := by decide +kernel
theorem dX3_roundDown_27 : decode cX3_roundDown 27 = .ok (.land, 1) := by decide +kernel
theorem dX3_roundDown_28 : decode cX3_roundDown 28 = .ok (.lstore 11, 2) := by decide +kernel
theorem dX3_roundDown_30 : decode cX3_roundDown 30 = .ok (.lload 8, 2) := by decide +kernel
theorem dX3_roundDown_32 : decode cX3_roundDown 32 = .ok (.bipush 16, 2) := by decide +kernel
theorem dX3_roundDown_34 : decode cX3_roundDown 34 = .ok (.lshl, 1) := by decide +kernel
theorem dX3_roundDown_35 : decode cX3_roundDown 35 = .ok (.lload_n 2, 1) := by decide +kernel
theorem dX3_roundDown_36 : decode cX3_roundDown 36 = .ok (.lload 11, 2) := by decide +kernel
theorem dX3_roundDown_38 : decode cX3_roundDown 38 = .ok (.lmul, 1) := by decide +kernel
theorem dX3_roundDown_39 : decode cX3_roundDown 39 = .ok (.ladd, 1) := by decide +kernel
theorem dX3_roundDown_40 : decode cX3_roundDown 40 = .ok (.lstore 13, 2) := by decide +kernel
theorem dX3_roundDown_42 : decode cX3_roundDown 42 = .ok (.lload 6, 2) := by decide +kernel
theorem dX3_roundDown_44 : decode cX3_roundDown 44 = .ok (.bipush 16, 2) := by decide +kernel
theorem dX3_roundDown_46 : decode cX3_roundDown 46 = .ok (.lshl, 1) := by decide +kernel
theorem dX3_roundDown_47 : decode cX3_roundDown 47 = .ok (.lload 13, 2) := by decide +kernel
theorem dX3_roundDown_49 : decode cX3_roundDown 49 = .ok (.lload 4, 2) := by decide +kernel
theorem dX3_roundDown_51 : decode cX3_roundDown 51 = .ok (.ldiv, 1) := by decide +kernel
theorem dX3_roundDown_52 : decode cX3_roundDown 52 = .ok (.ladd, 1) := by decide +kernel
theorem dX3_roundDown_53 : decode cX3_roundDown 53 = .ok (.lstore 6, 2) := by decide +kernel
theorem dX3_roundDown_55 : decode cX3_roundDown 55 = .ok (.lload 13, 2) := by decide +kernel
theorem dX3_roundDown_57 : decode cX3_roundDown 57 = .ok (.lload 4, 2) := by decide +kernel
theorem dX3_roundDown_59 : decode cX3_roundDown 59 = .ok (.lrem, 1) := by decide +kernel
theorem dX3_roundDown_60 : decode cX3_roundDown 60 = .ok (.lstore 8, 2) := by decide +kernel
theorem dX3_roundDown_62 : decode cX3_roundDown 62 = .ok (.iinc 10 (-16), 3) := by decide +kernel
theorem dX3_roundDown_65 : decode cX3_roundDown 65 = .ok (.goto (-55), 3) := by decide +kernel
theorem dX3_roundDown_68 : decode cX3_roundDown 68 = .ok (.aload_n 0, 1) := by decide +kernel
theorem dX3_roundDown_69 : decode cX3_roundDown 69 = .ok (.getfield 15, 3) := by decide +kernel
theorem dX3_roundDown_72 : decode cX3_roundDown 72 = .ok (.iload_n 1, 1) := by decide +kernel
theorem dX3_roundDown_73 : decode cX3_roundDown 73 = .ok (.lload 6, 2) := by decide +kernel
theorem dX3_roundDown_75 : decode cX3_roundDown 75 = .ok (.lastore, 1) := by decide +kernel
theorem dX3_roundDown_76 : decode cX3_roundDown 76 = .ok (.aload_n 0, 1) := by decide +kernel
theorem dX3_roundDown_77 : decode cX3_roundDown 77 = .ok (.getfield 18, 3) := by decide +kernel
theorem dX3_roundDown_80 : decode cX3_roundDown 80 = .ok (.iload_n 1, 1) := by decide +kernel
theorem dX3_roundDown_81 : decode cX3_roundDown 81 = .ok (.lload 8, 2) := by decide +kernel
theorem dX3_roundDown_83 : decode cX3_roundDown 83 = .ok (.lastore, 1) := by decide +kernel
theorem dX3_roundDown_84 : decode cX3_roundDown 84 = .ok (.return_, 1) := by decide +kernel
theorem dX3_giveOneMore_0 : decode cX3_giveOneMore 0 = .ok (.iconst 0, 1) := by decide +kernel
theorem dX3_giveOneMore_1 : decode cX3_giveOneMore 1 = .ok (.istore_n 1, 1) := by decide +kernel
theorem dX3_giveOneMore_2 : decode cX3_giveOneMore 2 = .ok (.iconst 1, 1) := by decide +kernel
theorem dX3_giveOneMore_3 : decode cX3_giveOneMore 3 = .ok (.istore_n 2, 1) := by decide +kernel
theorem dX3_giveOneMore_4 : decode cX3_giveOneMore 4 = .ok (.iload_n 2, 1) := by decide +kernel
theorem dX3_giveOneMore_5 : decode cX3_giveOneMore 5 = .ok (.bipush 8, 2) := by decide +kernel
theorem dX3_giveOneMore_7 : decode cX3_giveOneMore 7 = .ok (.if_icmp .ge 27, 3) := by decide +kernel
theorem dX3_giveOneMore_10 : decode cX3_giveOneMore 10 = .ok (.aload_n 0, 1) := by decide +kernel
theorem dX3_giveOneMore_11 : decode cX3_giveOneMore 11 = .ok (.getfield 18, 3) := by decide +kernel
theorem dX3_giveOneMore_14 : decode cX3_giveOneMore 14 = .ok (.iload_n 2, 1) := by decide +kernel
theorem dX3_giveOneMore_15 : decode cX3_giveOneMore 15 = .ok (.laload, 1) := by decide +kernel
theorem dX3_giveOneMore_16 : decode cX3_giveOneMore 16 = .ok (.aload_n 0, 1) := by decide +kernel
theorem dX3_giveOneMore_17 : decode cX3_giveOneMore 17 = .ok (.getfield 18, 3) := by decide +kernel
theorem dX3_giveOneMore_20 : decode cX3_giveOneMore 20 = .ok (.iload_n 1, 1) := by decide +kernel
theorem dX3_giveOneMore_21 : decode cX3_giveOneMore 21 = .ok (.laload, 1) := by decide +kernel
theorem dX3_giveOneMore_22 : decode cX3_giveOneMore 22 = .ok (.lcmp, 1) := by decide +kernel
theorem dX3_giveOneMore_23 : decode cX3_giveOneMore 23 = .ok (.ifCond .le 5, 3) := by decide +kernel
theorem dX3_giveOneMore_26 : decode cX3_giveOneMore 26 = .ok (.iload_n 2, 1) := by decide +kernel
theorem dX3_giveOneMore_27 : decode cX3_giveOneMore 27 = .ok (.istore_n 1, 1) := by decide +kernel
theorem dX3_giveOneMore_28 : decode cX3_giveOneMore 28 = .ok (.iinc 2 1, 3) := by decide +kernel
theorem dX3_giveOneMore_31 : decode cX3_giveOneMore 31 = .ok (.goto (-27), 3) := by decide +kernel
theorem dX3_giveOneMore_34 : decode cX3_giveOneMore 34 = .ok (.aload_n 0, 1) := by decide +kernel
theorem dX3_giveOneMore_35 : decode cX3_giveOneMore 35 = .ok (.getfield 15, 3) := by decide +kernel
theorem dX3_giveOneMore_38 : decode cX3_giveOneMore 38 = .ok (.iload_n 1, 1) := by decide +kernel
theorem dX3_giveOneMore_39 : decode cX3_giveOneMore 39 = .ok (.dup2, 1) := by decide +kernel
theorem dX3_giveOneMore_40 : decode cX3_giveOneMore 40 = .ok (.laload, 1) := by decide +kernel
theorem dX3_giveOneMore_41 : decode cX3_giveOneMore 41 = .ok (.lconst 1, 1) := by decide +kernel
theorem dX3_giveOneMore_42 : decode cX3_giveOneMore 42 = .ok (.ladd, 1) := by decide +kernel
theorem dX3_giveOneMore_43 : decode cX3_giveOneMore 43 = .ok (.lastore, 1) := by decide +kernel
theorem dX3_giveOneMore_44 : decode cX3_giveOneMore 44 = .ok (.aload_n 0, 1) := by decide +kernel
theorem dX3_giveOneMore_45 : decode cX3_giveOneMore 45 = .ok (.getfield 18, 3) := by decide +kernel
theorem dX3_giveOneMore_48 : decode cX3_giveOneMore 48 = .ok (.iload_n 1, 1) := by decide +kernel
theorem dX3_giveOneMore_49 : decode cX3_giveOneMore 49 = .ok (.ldc2_w 37, 3) := by decide +kernel
theorem dX3_giveOneMore_52 : decode cX3_giveOneMore 52 = .ok (.lastore, 1) := by decide +kernel
theorem dX3_giveOneMore_53 : decode cX3_giveOneMore 53 = .ok (.return_, 1) := by decide +kernel
theorem dJ9_abs_0f7a4_0 : decode cJ9_abs_0f7a4 0 = .ok (.iload_n 0, 1) := by decide +kernel
theorem dJ9_abs_0f7a4_1 : decode cJ9_abs_0f7a4 1 = .ok (.ifCond .ge 8, 3) := by decide +kernel
theorem dJ9_abs_0f7a4_4 : decode cJ9_abs_0f7a4 4 = .ok (.iload_n 0, 1) := by decide +kernel
theorem dJ9_abs_0f7a4_5 : decode cJ9_abs_0f7a4 5 = .ok (.ineg, 1) := by decide +kernel
theorem dJ9_abs_0f7a4_6 : decode cJ9_abs_0f7a4 6 = .ok (.goto 4, 3) := by decide +kernel
theorem dJ9_abs_0f7a4_9 : decode cJ9_abs_0f7a4 9 = .ok (.iload_n 0, 1) := by decide +kernel
theorem dJ9_abs_0f7a4_10 : decode cJ9_abs_0f7a4 10 = .ok (.ireturn, 1) := by decide +kernel
theorem dJ9_max_7cf53_0 : decode cJ9_max_7cf53 0 = .ok (.iload_n 0, 1) := by decide +kernel
theorem dJ9_max_7cf53_1 : decode cJ9_max_7cf53 1 = .ok (.iload_n 1, 1) := by decide +kernel
theorem dJ9_max_7cf53_2 : decode cJ9_max_7cf53 2 = .ok (.if_icmp .lt 7, 3) := by decide +kernel
theorem dJ9_max_7cf53_5 : decode cJ9_max_7cf53 5 = .ok (.iload_n 0, 1) := by decide +kernel
theorem dJ9_max_7cf53_6 : decode cJ9_max_7cf53 6 = .ok (.goto 4, 3) := by decide +kernel
theorem dJ9_max_7cf53_9 : decode cJ9_max_7cf53 9 = .ok (.iload_n 1, 1) := by decide +kernel
theorem dJ9_max_7cf53_10 : decode cJ9_max_7cf53 10 = .ok (.ireturn, 1) := by decide +kernel
theorem dJ9_max_f86c9_0 : decode cJ9_max_f86c9 0 = .ok (.lload_n 0, 1) := by decide +kernel
theorem dJ9_max_f86c9_1 : decode cJ9_max_f86c9 1 = .ok (.lload_n 2, 1) := by decide +kernel
theorem dJ9_max_f86c9_2 : decode cJ9_max_f86c9 2 = .ok (.lcmp, 1) := by decide +kernel
theorem dJ9_max_f86c9_3 : decode cJ9_max_f86c9 3 = .ok (.ifCond .lt 7, 3) := by decide +kernel
theorem dJ9_max_f86c9_6 : decode cJ9_max_f86c9 6 = .ok (.lload_n 0, 1) := by decide +kernel
theorem dJ9_max_f86c9_7 : decode cJ9_max_f86c9 7 = .ok (.goto 4, 3) := by decide +kernel
theorem dJ9_max_f86c9_10 : decode cJ9_max_f86c9 10 = .ok (.lload_n 2, 1) := by decide +kernel
theorem dJ9_max_f86c9_11 : decode cJ9_max_f86c9 11 = .ok (.lreturn, 1) := by decide +kernel
theorem dJ9_min_f86c9_0 : decode cJ9_min_f86c9 0 = .ok (.lload_n 0, 1) := by decide +kernel
theorem dJ9_min_f86c9_1 : decode cJ9_min_f86c9 1 = .ok (.lload_n 2, 1) := by decide +kernel
theorem dJ9_min_f86c9_2 : decode cJ9_min_f86c9 2 = .ok (.lcmp, 1) := by decide +kernel
theorem dJ9_min_f86c9_3 : decode cJ9_min_f86c9 3 = .ok (.ifCond .gt 7, 3) := by decide +kernel
theorem dJ9_min_f86c9_6 : decode cJ9_min_f86c9 6 = .ok (.lload_n 0, 1) := by decide +kernel
theorem dJ9_min_f86c9_7 : decode cJ9_min_f86c9 7 = .ok (.goto 4, 3) := by decide +kernel
theorem dJ9_min_f86c9_10 : decode cJ9_min_f86c9 10 = .ok (.lload_n 2, 1) := by decide +kernel
theorem dJ9_min_f86c9_11 : decode cJ9_min_f86c9 11 = .ok (.lreturn, 1) := by decide +kernel
end
section
theorem dX4_init_0 : decode cX4_init 0 = .ok (.aload_n 0, 1) := by decide +kernel
theorem dX4_init_1 : decode cX4_init 1 = .ok (.invokespecial 1, 3) := by decide +kernel
theorem dX4_init_4 : decode cX4_init 4 = .ok (.aload_n 0, 1) := by decide +kernel
theorem dX4_init_5 : decode cX4_init 5 = .ok (.bipush 8, 2) := by decide +kernel
theorem dX4_init_7 : decode cX4_init 7 = .ok (.anewarray 9, 3) := by decide +kernel
theorem dX4_init_10 : decode cX4_init 10 = .ok (.putfield 11, 3) := by decide +kernel
theorem dX4_init_13 : decode cX4_init 13 = .ok (.aload_n 0, 1) := by decide +kernel
theorem dX4_init_14 : decode cX4_init 14 = .ok (.bipush 6, 2) := by decide +kernel
theorem dX4_init_16 : decode cX4_init 16 = .ok (.anewarray 15, 3) := by decide +kernel
theorem dX4_init_19 : decode cX4_init 19 = .ok (.putfield 17, 3) := by decide +kernel
theorem dX4_init_22 : decode cX4_init 22 = .ok (.aload_n 0, 1) := by decide +kernel
theorem dX4_init_23 : decode cX4_init 23 = .ok (.bipush 8, 2) := by decide +kernel
theorem dX4_init_25 : decode cX4_init 25 = .ok (.bipush 6, 2) := by decide +kernel
theorem dX4_init_27 : decode cX4_init 27 = .ok (.multianewarray 21 2, 4) := by decide +kernel
theorem dX4_init_31 : decode cX4_init 31 = .ok (.putfield 23, 3) := by decide +kernel
theorem dX4_init_34 : decode cX4_init 34 = .ok (.aload_n 0, 1) := by decide +kernel
theorem dX4_init_35 : decode cX4_init 35 = .ok (.iconst 5, 1) := by decide +kernel
theorem dX4_init_36 : decode cX4_init 36 = .ok (.newarray .long, 2) := by decide +kernel
theorem dX4_init_38 : decode cX4_init 38 = .ok (.putfield 26, 3) := by decide +kernel
theorem dX4_init_41 : decode cX4_init 41 = .ok (.aload_n 0, 1) := by decide +kernel
theorem dX4_init_42 : decode cX4_init 42 = .ok (.new 30, 3) := by decide +kernel
theorem dX4_init_45 : decode cX4_init 45 = .ok (.dup, 1) := by decide +kernel
theorem dX4_init_46 : decode cX4_init 46 = .ok (.invokespecial 32, 3) := by decide +kernel
theorem dX4_init_49 : decode cX4_init 49 = .ok (.putfield 33, 3) := by decide +kernel
theorem dX4_init_52 : decode cX4_init 52 = .ok (.aload_n 0, 1) := by decide +kernel
theorem dX4_init_53 : decode cX4_init 53 = .ok (.iconst 0, 1) := by decide +kernel
theorem dX4_init_54 : decode cX4_init 54 = .ok (.putfield 37, 3) := by decide +kernel
theorem dX4_init_57 : decode cX4_init 57 = .ok (.aload_n 0, 1) := by decide +kernel
theorem dX4_init_58 : decode cX4_init 58 = .ok (.iconst 0, 1) := by decide +kernel
theorem dX4_init_59 : decode cX4_init 59 = .ok (.putfield 41, 3) := by decide +kernel
theorem dX4_init_62 : decode cX4_init 62 = .ok (.aload_n 0, 1) := by decide +kernel
theorem dX4_init_63 : decode cX4_init 63 = .ok (.iconst 0, 1) := by decide +kernel
theorem dX4_init_64 : decode cX4_init 64 = .ok (.putfield 44, 3) := by decide +kernel
theorem dX4_init_67 : decode cX4_init 67 = .ok (.aload_n 0, 1) := by decide +kernel
theorem dX4_init_68 : decode cX4_init 68 = .ok (.lconst 0, 1) := by decide +kernel
theorem dX4_init_69 : decode cX4_init 69 = .ok (.putfield 47, 3) := by decide +kernel
theorem dX4_init_72 : decode cX4_init 72 = .ok (.aload_n 0, 1) := by decide +kernel
theorem dX4_init_73 : decode cX4_init 73 = .ok (.lconst 0, 1) := by decide +kernel
theorem dX4_init_74 : decode cX4_init 74 = .ok (.putfield 51, 3) := by decide +kernel
theorem dX4_init_77 : decode cX4_init 77 = .ok (.iconst 0, 1) := by decide +kernel
theorem dX4_init_78 : decode cX4_init 78 = .ok (.istore_n 1, 1) := by decide +kernel
theorem dX4_init_79 : decode cX4_init 79 = .ok (.iload_n 1, 1) := by decide +kernel
theorem dX4_init_80 : decode cX4_init 80 = .ok (.bipush 8, 2) := by decide +kernel
theorem dX4_init_82 : decode cX4_init 82 = .ok (.if_icmp .ge 22, 3) := by decide +kernel
theorem dX4_init_85 : decode cX4_init 85 = .ok (.aload_n 0, 1) := by decide +kernel
theorem dX4_init_86 : decode cX4_init 86 = .ok (.getfield 11, 3) := by decide +kernel
theorem dX4_init_89 : decode cX4_init 89 = .ok (.iload_n 1, 1) := by decide +kernel
theorem dX4_init_90 : decode cX4_init 90 = .ok (.new 9, 3) := by decide +kernel
theorem dX4_init_93 : decode cX4_init 93 = .ok (.dup, 1) := by decide +kernel
theorem dX4_init_94 : decode cX4_init 94 = .ok (.invokespecial 54, 3) := by decide +kernel
theorem dX4_init_97 : decode cX4_init 97 = .ok (.aastore, 1) := by decide +kernel
theorem dX4_init_98 : decode cX4_init 98 = .ok (.iinc 1 1, 3) := by decide +kernel
theorem dX4_init_101 : decode cX4_init 101 = .ok (.goto (-22), 3) := by decide +kernel
theorem dX4_init_104 : decode cX4_init 104 = .ok (.iconst 0, 1) := by decide +kernel
theorem dX4_init_105 : decode cX4_init 105 = .ok (.istore_n 1, 1) := by decide +kernel
theorem dX4_init_106 : decode cX4_init 106 = .ok (.iload_n 1, 1) := by decide +kernel
theorem dX4_init_107 : decode cX4_init 107 = .ok (.bipush 6, 2) := by decide +kernel
theorem dX4_init_109 : decode cX4_init 109 = .ok (.if_icmp .ge 22, 3) := by decide +kernel
theorem dX4_init_112 : decode cX4_init 112 = .ok (.aload_n 0, 1) := by decide +kernel
theorem dX4_init_113 : decode cX4_init 113 = .ok (.getfield 17, 3) := by decide +kernel
theorem dX4_init_116 : decode cX4_init 116 = .ok (.iload_n 1, 1) := by decide +kernel
theorem dX4_init_117 : decode cX4_init 117 = .ok (.new 15, 3) := by decide +kernel
theorem dX4_init_120 : decode cX4_init 120 = .ok (.dup, 1) := by decide +kernel
theorem dX4_init_121 : decode cX4_init 121 = .ok (.invokespecial 55, 3) := by decide +kernel
theorem dX4_init_124 : decode cX4_init 124 = .ok (.aastore, 1) := by decide +kernel
theorem dX4_init_125 : decode cX4_init 125 = .ok (.iinc 1 1, 3) := by decide +kernel
theorem dX4_init_128 : decode cX4_init 128 = .ok (.goto (-22), 3) := by decide +kernel
theorem dX4_init_131 : decode cX4_init 131 = .ok (.return_, 1) := by decide +kernel
theorem dX4_member_0 : decode cX4_member 0 = .ok (.lload_n 1, 1) := by decide +kernel
theorem dX4_member_1 : decode cX4_member 1 = .ok (.lconst 0, 1) := by decide +kernel
theorem dX4_member_2 : decode cX4_member 2 = .ok (.ldc2_w 56, 3) := by decide +kernel
theorem dX4_member_5 : decode cX4_member 5 = .ok (.invokestatic 58, 3) := by decide +kernel
theorem dX4_member_8 : decode cX4_member 8 = .ok (.invokestatic 62, 3) := by decide +kernel
theorem dX4_member_11 : decode cX4_member 11 = .ok (.aload_n 0, 1) := by decide +kernel
theorem dX4_member_12 : decode cX4_member 12 = .ok (.getfield 37, 3) := by decide +kernel
theorem dX4_member_15 : decode cX4_member 15 = .ok (.bipush 8, 2) := by decide +kernel
theorem dX4_member_17 : decode cX4_member 17 = .ok (.if_icmp .ne 5, 3) := by decide +kernel
theorem dX4_member_20 : decode cX4_member 20 = .ok (.iconst (-1), 1) := by decide +kernel
theorem dX4_member_21 : decode cX4_member 21 = .ok (.ireturn, 1) := by decide +kernel
theorem dX4_member_22 : decode cX4_member 22 = .ok (.aload_n 0, 1) := by decide +kernel
theorem dX4_member_23 : decode cX4_member 23 = .ok (.getfield 11, 3) := by decide +kernel
theorem dX4_member_26 : decode cX4_member 26 = .ok (.aload_n 0, 1) := by decide +kernel
theorem dX4_member_27 : decode cX4_member 27 = .ok (.getfield 37, 3) := by decide +kernel
theorem dX4_member_30 : decode cX4_member 30 = .ok (.aaload, 1) := by decide +kernel
theorem dX4_member_31 : decode cX4_member 31 = .ok (.lload_n 1, 1) := by decide +kernel
theorem dX4_member_32 : decode cX4_member 32 = .ok (.putfield 66, 3) := by decide +kernel
theorem dX4_member_35 : decode cX4_member 35 = .ok (.aload_n 0, 1) := by decide +kernel
theorem dX4_member_36 : decode cX4_member 36 = .ok (.dup, 1) := by decide +kernel
theorem dX4_member_37 : decode cX4_member 37 = .ok (.getfield 37, 3) := by decide +kernel
theorem dX4_member_40 : decode cX4_member 40 = .ok (.iconst 1, 1) := by decide +kernel
theorem dX4_member_41 : decode cX4_member 41 = .ok (.iadd, 1) := by decide +kernel
theorem dX4_member_42 : decode cX4_member 42 = .ok (.putfield 37, 3) := by decide +kernel
theorem dX4_member_45 : decode cX4_member 45 = .ok (.aload_n 0, 1) := by decide +kernel
theorem dX4_member_46 : decode cX4_member 46 = .ok (.getfield 37, 3) := by decide +kernel
theorem dX4_member_49 : decode cX4_member 49 = .ok (.iconst 1, 1) := by decide +kernel
theorem dX4_member_50 : decode cX4_member 50 = .ok (.isub, 1) := by decide +kernel
theorem dX4_member_51 : decode cX4_member 51 = .ok (.ireturn, 1) := by decide +kernel
theorem dX4_instrument_0 : decode cX4_instrument 0 = .ok (.iload_n 1, 1) := by decide +kernel
theorem dX4_instrument_1 : decode cX4_instrument 1 = .ok (.i2l, 1) := by decide +kernel
theorem dX4_instrument_2 : decode cX4_instrument 2 = .ok (.lconst 0, 1) := by decide +kernel
theorem dX4_instrument_3 : decode cX4_instrument 3 = .ok (.ldc2_w 69, 3) := by decide +kernel
theorem dX4_instrument_6 : decode cX4_instrument 6 = .ok (.invokestatic 58, 3) := by decide +kernel
theorem dX4_instrument_9 : decode cX4_instrument 9 = .ok (.ifCond .eq 31, 3) := by decide +kernel
theorem dX4_instrument_12 : decode cX4_instrument 12 = .ok (.iload_n 2, 1) := by decide +kernel
theorem dX4_instrument_13 : decode cX4_instrument 13 = .ok (.i2l, 1) := by decide +kernel
theorem dX4_instrument_14 : decode cX4_instrument 14 = .ok (.lconst 0, 1) := by decide +kernel
theorem dX4_instrument_15 : decode cX4_instrument 15 = .ok (.ldc2_w 69, 3) := by decide +kernel
theorem dX4_instrument_18 : decode cX4_instrument 18 = .ok (.invokestatic 58, 3) := by decide +kernel
theorem dX4_instrument_21 : decode cX4_instrument 21 = .ok (.ifCond .eq 19, 3) := by decide +kernel
theorem dX4_instrument_24 : decode cX4_instrument 24 = .ok (.iload_n 3, 1) := by decide +kernel
theorem dX4_instrument_25 : decode cX4_instrument 25 = .ok (.i2l, 1) := by decide +kernel
theorem dX4_instrument_26 : decode cX4_instrument 26 = .ok (.lconst 0, 1) := by decide +kernel
theorem dX4_instrument_27 : decode cX4_instrument 27 = .ok (.ldc2_w 69, 3) := by decide +kernel
theorem dX4_instrument_30 : decode cX4_instrument 30 = .ok (.invokestatic 58, 3) := by decide +kernel
theorem dX4_instrument_33 : decode cX4_instrument 33 = .ok (.ifCond .eq 7, 3) := by decide +kernel
theorem dX4_instrument_36 : decode cX4_instrument 36 = .ok (.iconst 1, 1) := by decide +kernel
theorem dX4_instrument_37 : decode cX4_instrument 37 = .ok (.goto 4, 3) := by decide +kernel
theorem dX4_instrument_40 : decode cX4_instrument 40 = .ok (.iconst 0, 1) := by decide +kernel
theorem dX4_instrument_41 : decode cX4_instrument 41 = .ok (.invokestatic 62, 3) := by decide +kernel
theorem dX4_instrument_44 : decode cX4_instrument 44 = .ok (.aload_n 0, 1) := by decide +kernel
theorem dX4_instrument_45 : decode cX4_instrument 45 = .ok (.getfield 41, 3) := by decide +kernel
theorem dX4_instrument_48 : decode cX4_instrument 48 = .ok (.bipush 6, 2) := by decide +kernel
theorem dX4_instrument_50 : decode cX4_instrument 50 = .ok (.if_icmp .ne 5, 3) := by decide +kernel
theorem dX4_instrument_53 : decode cX4_instrument 53 = .ok (.iconst (-1), 1) := by decide +kernel
theorem dX4_instrument_54 : decode cX4_instrument 54 = .ok (.ireturn, 1) := by decide +kernel
theorem dX4_instrument_55 : decode cX4_instrument 55 = .ok (.aload_n 0, 1) := by decide +kernel
theorem dX4_instrument_56 : decode cX4_instrument 56 = .ok (.getfield 17, 3) := by decide +kernel
theorem dX4_instrument_59 : decode cX4_instrument 59 = .ok (.aload_n 0, 1) := by decide +kernel
theorem dX4_instrument_60 : decode cX4_instrument 60 = .ok (.getfield 41, 3) := by decide +kernel
theorem dX4_instrument_63 : decode cX4_instrument 63 = .ok (.aaload, 1) := by decide +kernel
theorem dX4_instrument_64 : decode cX4_instrument 64 = .ok (.astore 4, 2) := by decide +kernel
theorem dX4_instrument_66 : decode cX4_instrument 66 = .ok (.aload 4, 2) := by decide +kernel
theorem dX4_instrument_68 : decode cX4_instrument 68 = .ok (.iload_n 1, 1) := by decide +kernel
theorem dX4_instrument_69 : decode cX4_instrument 69 = .ok (.putfield 71, 3) := by decide +kernel
theorem dX4_instrument_72 : decode cX4_instrument 72 = .ok (.aload 4, 2) := by decide +kernel
theorem dX4_instrument_74 : decode cX4_instrument 74 = .ok (.iload_n 2, 1) := by decide +kernel
theorem dX4_instrument_75 : decode cX4_instrument 75 = .ok (.putfield 74, 3) := by decide +kernel
theorem dX4_instrument_78 : decode cX4_instrument 78 = .ok (.aload 4, 2) := by decide +kernel
theorem dX4_instrument_80 : decode cX4_instrument 80 = .ok (.iload_n 3, 1) := by decide +kernel
theorem dX4_instrument_81 : decode cX4_instrument 81 = .ok (.putfield 77, 3) := by decide +kernel
theorem dX4_instrument_84 : decode cX4_instrument 84 = .ok (.aload_n 0, 1) := by decide +kernel
theorem dX4_instrument_85 : decode cX4_instrument 85 = .ok (.dup, 1) := by decide +kernel
theorem dX4_instrument_86 : decode cX4_instrument 86 = .ok (.getfield 41, 3) := by decide +kernel
theorem dX4_instrument_89 : decode cX4_instrument 89 = .ok (.iconst 1, 1) := by decide +kernel
theorem dX4_instrument_90 : decode cX4_instrument 90 = .ok (.iadd, 1) := by decide +kernel
theorem dX4_instrument_91 : decode cX4_instrument 91 = .ok (.putfield 41, 3) := by decide +kernel
theorem dX4_instrument_94 : decode cX4_instrument 94 = .ok (.aload_n 0, 1) := by decide +kernel
theorem dX4_instrument_95 : decode cX4_instrument 95 = .ok (.getfield 41, 3) := by decide +kernel
theorem dX4_instrument_98 : decode cX4_instrument 98 = .ok (.iconst 1, 1) := by decide +kernel
theorem dX4_instrument_99 : decode cX4_instrument 99 = .ok (.isub, 1) := by decide +kernel
theorem dX4_instrument_100 : decode cX4_instrument 100 = .ok (.ireturn, 1) := by decide +kernel
theorem dX4_capital_0 : decode cX4_capital 0 = .ok (.lload_n 1, 1) := by decide +kernel
theorem dX4_capital_1 : decode cX4_capital 1 = .ok (.lconst 0, 1) := by decide +kernel
theorem dX4_capital_2 : decode cX4_capital 2 = .ok (.ldc2_w 56, 3) := by decide +kernel
theorem dX4_capital_5 : decode cX4_capital 5 = .ok (.invokestatic 58, 3) := by decide +kernel
theorem dX4_capital_8 : decode cX4_capital 8 = .ok (.invokestatic 62, 3) := by decide +kernel
theorem dX4_capital_11 : decode cX4_capital 11 = .ok (.aload_n 0, 1) := by decide +kernel
theorem dX4_capital_12 : decode cX4_capital 12 = .ok (.getfield 47, 3) := by decide +kernel
theorem dX4_capital_15 : decode cX4_capital 15 = .ok (.lload_n 1, 1) := by decide +kernel
theorem dX4_capital_16 : decode cX4_capital 16 = .ok (.ladd, 1) := by decide +kernel
theorem dX4_capital_17 : decode cX4_capital 17 = .ok (.invokestatic 80, 3) := by decide +kernel
theorem dX4_capital_20 : decode cX4_capital 20 = .ok (.ifCond .eq 7, 3) := by decide +kernel
theorem dX4_capital_23 : decode cX4_capital 23 = .ok (.ldc2_w 84, 3) := by decide +kernel
theorem dX4_capital_26 : decode cX4_capital 26 = .ok (.lreturn, 1) := by decide +kernel
theorem dX4_capital_27 : decode cX4_capital 27 = .ok (.aload_n 0, 1) := by decide +kernel
theorem dX4_capital_28 : decode cX4_capital 28 = .ok (.dup, 1) := by decide +kernel
theorem dX4_capital_29 : decode cX4_capital 29 = .ok (.getfield 47, 3) := by decide +kernel
theorem dX4_capital_32 : decode cX4_capital 32 = .ok (.lload_n 1, 1) := by decide +kernel
theorem dX4_capital_33 : decode cX4_capital 33 = .ok (.ladd, 1) := by decide +kernel
theorem dX4_capital_34 : decode cX4_capital 34 = .ok (.putfield 47, 3) := by decide +kernel
theorem dX4_capital_37 : decode cX4_capital 37 = .ok (.aload_n 0, 1) := by decide +kernel
theorem dX4_capital_38 : decode cX4_capital 38 = .ok (.getfield 47, 3) := by decide +kernel
theorem dX4_capital_41 : decode cX4_capital 41 = .ok (.lreturn, 1) := by decide +kernel
theorem dX4_move_0 : decode cX4_move 0 = .ok (.iload_n 1, 1) := by decide +kernel
theorem dX4_move_1 : decode cX4_move 1 = .ok (.i2l, 1) := by decide +kernel
theorem dX4_move_2 : decode cX4_move 2 = .ok (.lconst 0, 1) := by decide +kernel
theorem dX4_move_3 : decode cX4_move 3 = .ok (.ldc2_w 86, 3) := by decide +kernel
theorem dX4_move_6 : decode cX4_move 6 = .ok (.invokestatic 58, 3) := by decide +kernel
theorem dX4_move_9 : decode cX4_move 9 = .ok (.ifCond .eq 29, 3) := by decide +kernel
theorem dX4_move_12 : decode cX4_move 12 = .ok (.aload_n 0, 1) := by decide +kernel
theorem dX4_move_13 : decode cX4_move 13 = .ok (.iload_n 2, 1) := by decide +kernel
theorem dX4_move_14 : decode cX4_move 14 = .ok (.invokevirtual 88, 3) := by decide +kernel
theorem dX4_move_17 : decode cX4_move 17 = .ok (.ifCond .eq 21, 3) := by decide +kernel
theorem dX4_move_20 : decode cX4_move 20 = .ok (.iload_n 3, 1) := by decide +kernel
theorem dX4_move_21 : decode cX4_move 21 = .ok (.i2l, 1) := by decide +kernel
theorem dX4_move_22 : decode cX4_move 22 = .ok (.ldc2_w 92, 3) := by decide +kernel
theorem dX4_move_25 : decode cX4_move 25 = .ok (.ldc2_w 69, 3) := by decide +kernel
theorem dX4_move_28 : decode cX4_move 28 = .ok (.invokestatic 58, 3) := by decide +kernel
theorem dX4_move_31 : decode cX4_move 31 = .ok (.ifCond .eq 7, 3) := by decide +kernel
theorem dX4_move_34 : decode cX4_move 34 = .ok (.iconst 1, 1) := by decide +kernel
theorem dX4_move_35 : decode cX4_move 35 = .ok (.goto 4, 3) := by decide +kernel
theorem dX4_move_38 : decode cX4_move 38 = .ok (.iconst 0, 1) := by decide +kernel
theorem dX4_move_39 : decode cX4_move 39 = .ok (.invokestatic 62, 3) := by decide +kernel
theorem dX4_move_42 : decode cX4_move 42 = .ok (.aload_n 0, 1) := by decide +kernel
theorem dX4_move_43 : decode cX4_move 43 = .ok (.getfield 23, 3) := by decide +kernel
theorem dX4_move_46 : decode cX4_move 46 = .ok (.iload_n 1, 1) := by decide +kernel
theorem dX4_move_47 : decode cX4_move 47 = .ok (.aaload, 1) := by decide +kernel
theorem dX4_move_48 : decode cX4_move 48 = .ok (.iload_n 2, 1) := by decide +kernel
theorem dX4_move_49 : decode cX4_move 49 = .ok (.iload_n 3, 1) := by decide +kernel
theorem dX4_move_50 : decode cX4_move 50 = .ok (.iastore, 1) := by decide +kernel
theorem dX4_move_51 : decode cX4_move 51 = .ok (.return_, 1) := by decide +kernel
theorem dX4_bid_0 : decode cX4_bid 0 = .ok (.aload_n 0, 1) := by decide +kernel
theorem dX4_bid_1 : decode cX4_bid 1 = .ok (.iload_n 1, 1) := by decide +kernel
theorem dX4_bid_2 : decode cX4_bid 2 = .ok (.invokevirtual 94, 3) := by decide +kernel
theorem dX4_bid_5 : decode cX4_bid 5 = .ok (.ifCond .eq 27, 3) := by decide +kernel
theorem dX4_bid_8 : decode cX4_bid 8 = .ok (.aload_n 0, 1) := by decide +kernel
theorem dX4_bid_9 : decode cX4_bid 9 = .ok (.iload_n 2, 1) := by decide +kernel
theorem dX4_bid_10 : decode cX4_bid 10 = .ok (.invokevirtual 88, 3) := by decide +kernel
theorem dX4_bid_13 : decode cX4_bid 13 = .ok (.ifCond .eq 19, 3) := by decide +kernel
theorem dX4_bid_16 : decode cX4_bid 16 = .ok (.iload_n 3, 1) := by decide +kernel
theorem dX4_bid_17 : decode cX4_bid 17 = .ok (.i2l, 1) := by decide +kernel
theorem dX4_bid_18 : decode cX4_bid 18 = .ok (.lconst 0, 1) := by decide +kernel
theorem dX4_bid_19 : decode cX4_bid 19 = .ok (.ldc2_w 69, 3) := by decide +kernel
theorem dX4_bid_22 : decode cX4_bid 22 = .ok (.invokestatic 58, 3) := by decide +kernel
theorem dX4_bid_25 : decode cX4_bid 25 = .ok (.ifCond .eq 7, 3) := by decide +kernel
theorem dX4_bid_28 : decode cX4_bid 28 = .ok (.iconst 1, 1) := by decide +kernel
theorem dX4_bid_29 : decode cX4_bid 29 = .ok (.goto 4, 3) := by decide +kernel
theorem dX4_bid_32 : decode cX4_bid 32 = .ok (.iconst 0, 1) := by decide +kernel
theorem dX4_bid_33 : decode cX4_bid 33 = .ok (.invokestatic 62, 3) := by decide +kernel
theorem dX4_bid_36 : decode cX4_bid 36 = .ok (.aload_n 0, 1) := by decide +kernel
theorem dX4_bid_37 : decode cX4_bid 37 = .ok (.getfield 11, 3) := by decide +kernel
theorem dX4_bid_40 : decode cX4_bid 40 = .ok (.iload_n 1, 1) := by decide +kernel
theorem dX4_bid_41 : decode cX4_bid 41 = .ok (.aaload, 1) := by decide +kernel
theorem dX4_bid_42 : decode cX4_bid 42 = .ok (.getfield 97, 3) := by decide +kernel
theorem dX4_bid_45 : decode cX4_bid 45 = .ok (.iload_n 2, 1) := by decide +kernel
theorem dX4_bid_46 : decode cX4_bid 46 = .ok (.iload_n 3, 1) := by decide +kernel
theorem dX4_bid_47 : decode cX4_bid 47 = .ok (.iastore, 1) := by decide +kernel
theorem dX4_bid_48 : decode cX4_bid 48 = .ok (.return_, 1) := by decide +kernel
theorem dX4_deposit_0 : decode cX4_deposit 0 = .ok (.aload_n 0, 1) := by decide +kernel
theorem dX4_deposit_1 : decode cX4_deposit 1 = .ok (.iload_n 1, 1) := by decide +kernel
theorem dX4_deposit_2 : decode cX4_deposit 2 = .ok (.invokevirtual 94, 3) := by decide +kernel
theorem dX4_deposit_5 : decode cX4_deposit 5 = .ok (.ifCond .eq 18, 3) := by decide +kernel
theorem dX4_deposit_8 : decode cX4_deposit 8 = .ok (.lload_n 2, 1) := by decide +kernel
theorem dX4_deposit_9 : decode cX4_deposit 9 = .ok (.lconst 1, 1) := by decide +kernel
theorem dX4_deposit_10 : decode cX4_deposit 10 = .ok (.ldc2_w 56, 3) := by decide +kernel
theorem dX4_deposit_13 : decode cX4_deposit 13 = .ok (.invokestatic 58, 3) := by decide +kernel
theorem dX4_deposit_16 : decode cX4_deposit 16 = .ok (.ifCond .eq 7, 3) := by decide +kernel
theorem dX4_deposit_19 : decode cX4_deposit 19 = .ok (.iconst 1, 1) := by decide +kernel
theorem dX4_deposit_20 : decode cX4_deposit 20 = .ok (.goto 4, 3) := by decide +kernel
theorem dX4_deposit_23 : decode cX4_deposit 23 = .ok (.iconst 0, 1) := by decide +kernel
theorem dX4_deposit_24 : decode cX4_deposit 24 = .ok (.invokestatic 62, 3) := by decide +kernel
theorem dX4_deposit_27 : decode cX4_deposit 27 = .ok (.aload_n 0, 1) := by decide +kernel
theorem dX4_deposit_28 : decode cX4_deposit 28 = .ok (.getfield 11, 3) := by decide +kernel
theorem dX4_deposit_31 : decode cX4_deposit 31 = .ok (.iload_n 1, 1) := by decide +kernel
theorem dX4_deposit_32 : decode cX4_deposit 32 = .ok (.aaload, 1) := by decide +kernel
theorem dX4_deposit_33 : decode cX4_deposit 33 = .ok (.astore 4, 2) := by decide +kernel
theorem dX4_deposit_35 : decode cX4_deposit 35 = .ok (.aload 4, 2) := by decide +kernel
theorem dX4_deposit_37 : decode cX4_deposit 37 = .ok (.iconst 0, 1) := by decide +kernel
theorem dX4_deposit_38 : decode cX4_deposit 38 = .ok (.invokestatic 101, 3) := by decide +kernel
theorem dX4_deposit_41 : decode cX4_deposit 41 = .ok (.aload 4, 2) := by decide +kernel
theorem dX4_deposit_43 : decode cX4_deposit 43 = .ok (.getfield 105, 3) := by decide +kernel
theorem dX4_deposit_46 : decode cX4_deposit 46 = .ok (.lload_n 2, 1) := by decide +kernel
theorem dX4_deposit_47 : decode cX4_deposit 47 = .ok (.ladd, 1) := by decide +kernel
theorem dX4_deposit_48 : decode cX4_deposit 48 = .ok (.invokestatic 80, 3) := by decide +kernel
theorem dX4_deposit_51 : decode cX4_deposit 51 = .ok (.ifCond .eq 7, 3) := by decide +kernel
theorem dX4_deposit_54 : decode cX4_deposit 54 = .ok (.ldc2_w 84, 3) := by decide +kernel
theorem dX4_deposit_57 : decode cX4_deposit 57 = .ok (.lreturn, 1) := by decide +kernel
theorem dX4_deposit_58 : decode cX4_deposit 58 = .ok (.aload 4, 2) := by decide +kernel
theorem dX4_deposit_60 : decode cX4_deposit 60 = .ok (.dup, 1) := by decide +kernel
theorem dX4_deposit_61 : decode cX4_deposit 61 = .ok (.getfield 105, 3) := by decide +kernel
theorem dX4_deposit_64 : decode cX4_deposit 64 = .ok (.lload_n 2, 1) := by decide +kernel
theorem dX4_deposit_65 : decode cX4_deposit 65 = .ok (.ladd, 1) := by decide +kernel
theorem dX4_deposit_66 : decode cX4_deposit 66 = .ok (.putfield 105, 3) := by decide +kernel
theorem dX4_deposit_69 : decode cX4_deposit 69 = .ok (.aload 4, 2) := by decide +kernel
theorem dX4_deposit_71 : decode cX4_deposit 71 = .ok (.getfield 105, 3) := by decide +kernel
theorem dX4_deposit_74 : decode cX4_deposit 74 = .ok (.lreturn, 1) := by decide +kernel
theorem dX4_withdraw_0 : decode cX4_withdraw 0 = .ok (.aload_n 0, 1) := by decide +kernel
theorem dX4_withdraw_1 : decode cX4_withdraw 1 = .ok (.iload_n 1, 1) := by decide +kernel
theorem dX4_withdraw_2 : decode cX4_withdraw 2 = .ok (.invokevirtual 94, 3) := by decide +kernel
theorem dX4_withdraw_5 : decode cX4_withdraw 5 = .ok (.ifCond .eq 18, 3) := by decide +kernel
theorem dX4_withdraw_8 : decode cX4_withdraw 8 = .ok (.lload_n 2, 1) := by decide +kernel
theorem dX4_withdraw_9 : decode cX4_withdraw 9 = .ok (.lconst 1, 1) := by decide +kernel
theorem dX4_withdraw_10 : decode cX4_withdraw 10 = .ok (.ldc2_w 56, 3) := by decide +kernel
theorem dX4_withdraw_13 : decode cX4_withdraw 13 = .ok (.invokestatic 58, 3) := by decide +kernel
theorem dX4_withdraw_16 : decode cX4_withdraw 16 = .ok (.ifCond .eq 7, 3) := by decide +kernel
theorem dX4_withdraw_19 : decode cX4_withdraw 19 = .ok (.iconst 1, 1) := by decide +kernel
theorem dX4_withdraw_20 : decode cX4_withdraw 20 = .ok (.goto 4, 3) := by decide +kernel
theorem dX4_withdraw_23 : decode cX4_withdraw 23 = .ok (.iconst 0, 1) := by decide +kernel
theorem dX4_withdraw_24 : decode cX4_withdraw 24 = .ok (.invokestatic 62, 3) := by decide +kernel
theorem dX4_withdraw_27 : decode cX4_withdraw 27 = .ok (.aload_n 0, 1) := by decide +kernel
theorem dX4_withdraw_28 : decode cX4_withdraw 28 = .ok (.getfield 11, 3) := by decide +kernel
theorem dX4_withdraw_31 : decode cX4_withdraw 31 = .ok (.iload_n 1, 1) := by decide +kernel
theorem dX4_withdraw_32 : decode cX4_withdraw 32 = .ok (.aaload, 1) := by decide +kernel
theorem dX4_withdraw_33 : decode cX4_withdraw 33 = .ok (.astore 4, 2) := by decide +kernel
theorem dX4_withdraw_35 : decode cX4_withdraw 35 = .ok (.aload 4, 2) := by decide +kernel
theorem dX4_withdraw_37 : decode cX4_withdraw 37 = .ok (.iconst 0, 1) := by decide +kernel
theorem dX4_withdraw_38 : decode cX4_withdraw 38 = .ok (.invokestatic 101, 3) := by decide +kernel
theorem dX4_withdraw_41 : decode cX4_withdraw 41 = .ok (.aload 4, 2) := by decide +kernel
theorem dX4_withdraw_43 : decode cX4_withdraw 43 = .ok (.getfield 105, 3) := by decide +kernel
theorem dX4_withdraw_46 : decode cX4_withdraw 46 = .ok (.lload_n 2, 1) := by decide +kernel
theorem dX4_withdraw_47 : decode cX4_withdraw 47 = .ok (.lsub, 1) := by decide +kernel
theorem dX4_withdraw_48 : decode cX4_withdraw 48 = .ok (.aload_n 0, 1) := by decide +kernel
theorem dX4_withdraw_49 : decode cX4_withdraw 49 = .ok (.aload 4, 2) := by decide +kernel
theorem dX4_withdraw_51 : decode cX4_withdraw 51 = .ok (.invokevirtual 108, 3) := by decide +kernel
theorem dX4_withdraw_54 : decode cX4_withdraw 54 = .ok (.lcmp, 1) := by decide +kernel
theorem dX4_withdraw_55 : decode cX4_withdraw 55 = .ok (.ifCond .ge 7, 3) := by decide +kernel
theorem dX4_withdraw_58 : decode cX4_withdraw 58 = .ok (.ldc2_w 84, 3) := by decide +kernel
theorem dX4_withdraw_61 : decode cX4_withdraw 61 = .ok (.lreturn, 1) := by decide +kernel
theorem dX4_withdraw_62 : decode cX4_withdraw 62 = .ok (.aload 4, 2) := by decide +kernel
theorem dX4_withdraw_64 : decode cX4_withdraw 64 = .ok (.dup, 1) := by decide +kernel
theorem dX4_withdraw_65 : decode cX4_withdraw 65 = .ok (.getfield 105, 3) := by decide +kernel
theorem dX4_withdraw_68 : decode cX4_withdraw 68 = .ok (.lload_n 2, 1) := by decide +kernel
theorem dX4_withdraw_69 : decode cX4_withdraw 69 = .ok (.lsub, 1) := by decide +kernel
theorem dX4_withdraw_70 : decode cX4_withdraw 70 = .ok (.putfield 105, 3) := by decide +kernel
theorem dX4_withdraw_73 : decode cX4_withdraw 73 = .ok (.aload 4, 2) := by decide +kernel
theorem dX4_withdraw_75 : decode cX4_withdraw 75 = .ok (.getfield 105, 3) := by decide +kernel
theorem dX4_withdraw_78 : decode cX4_withdraw 78 = .ok (.lreturn, 1) := by decide +kernel
theorem dX4_trade_0 : decode cX4_trade 0 = .ok (.aload_n 0, 1) := by decide +kernel
theorem dX4_trade_1 : decode cX4_trade 1 = .ok (.iload_n 1, 1) := by decide +kernel
theorem dX4_trade_2 : decode cX4_trade 2 = .ok (.invokevirtual 94, 3) := by decide +kernel
theorem dX4_trade_5 : decode cX4_trade 5 = .ok (.ifCond .eq 28, 3) := by decide +kernel
theorem dX4_trade_8 : decode cX4_trade 8 = .ok (.aload_n 0, 1) := by decide +kernel
theorem dX4_trade_9 : decode cX4_trade 9 = .ok (.iload_n 2, 1) := by decide +kernel
theorem dX4_trade_10 : decode cX4_trade 10 = .ok (.invokevirtual 94, 3) := by decide +kernel
theorem dX4_trade_13 : decode cX4_trade 13 = .ok (.ifCond .eq 20, 3) := by decide +kernel
theorem dX4_trade_16 : decode cX4_trade 16 = .ok (.iload_n 1, 1) := by decide +kernel
theorem dX4_trade_17 : decode cX4_trade 17 = .ok (.iload_n 2, 1) := by decide +kernel
theorem dX4_trade_18 : decode cX4_trade 18 = .ok (.if_icmp .eq 15, 3) := by decide +kernel
theorem dX4_trade_21 : decode cX4_trade 21 = .ok (.aload_n 0, 1) := by decide +kernel
theorem dX4_trade_22 : decode cX4_trade 22 = .ok (.iload_n 3, 1) := by decide +kernel
theorem dX4_trade_23 : decode cX4_trade 23 = .ok (.invokevirtual 88, 3) := by decide +kernel
theorem dX4_trade_26 : decode cX4_trade 26 = .ok (.ifCond .eq 7, 3) := by decide +kernel
theorem dX4_trade_29 : decode cX4_trade 29 = .ok (.iconst 1, 1) := by decide +kernel
theorem dX4_trade_30 : decode cX4_trade 30 = .ok (.goto 4, 3) := by decide +kernel
theorem dX4_trade_33 : decode cX4_trade 33 = .ok (.iconst 0, 1) := by decide +kernel
theorem dX4_trade_34 : decode cX4_trade 34 = .ok (.invokestatic 62, 3) := by decide +kernel
theorem dX4_trade_37 : decode cX4_trade 37 = .ok (.iload 4, 2) := by decide +kernel
theorem dX4_trade_39 : decode cX4_trade 39 = .ok (.i2l, 1) := by decide +kernel
theorem dX4_trade_40 : decode cX4_trade 40 = .ok (.lconst 1, 1) := by decide +kernel
theorem dX4_trade_41 : decode cX4_trade 41 = .ok (.ldc2_w 112, 3) := by decide +kernel
theorem dX4_trade_44 : decode cX4_trade 44 = .ok (.invokestatic 58, 3) := by decide +kernel
theorem dX4_trade_47 : decode cX4_trade 47 = .ok (.ifCond .eq 20, 3) := by decide +kernel
theorem dX4_trade_50 : decode cX4_trade 50 = .ok (.iload 5, 2) := by decide +kernel
theorem dX4_trade_52 : decode cX4_trade 52 = .ok (.i2l, 1) := by decide +kernel
theorem dX4_trade_53 : decode cX4_trade 53 = .ok (.lconst 0, 1) := by decide +kernel
theorem dX4_trade_54 : decode cX4_trade 54 = .ok (.ldc2_w 69, 3) := by decide +kernel
theorem dX4_trade_57 : decode cX4_trade 57 = .ok (.invokestatic 58, 3) := by decide +kernel
theorem dX4_trade_60 : decode cX4_trade 60 = .ok (.ifCond .eq 7, 3) := by decide +kernel
theorem dX4_trade_63 : decode cX4_trade 63 = .ok (.iconst 1, 1) := by decide +kernel
theorem dX4_trade_64 : decode cX4_trade 64 = .ok (.goto 4, 3) := by decide +kernel
theorem dX4_trade_67 : decode cX4_trade 67 = .ok (.iconst 0, 1) := by decide +kernel
theorem dX4_trade_68 : decode cX4_trade 68 = .ok (.invokestatic 62, 3) := by decide +kernel
theorem dX4_trade_71 : decode cX4_trade 71 = .ok (.aload_n 0, 1) := by decide +kernel
theorem dX4_trade_72 : decode cX4_trade 72 = .ok (.getfield 11, 3) := by decide +kernel
theorem dX4_trade_75 : decode cX4_trade 75 = .ok (.iload_n 1, 1) := by decide +kernel
theorem dX4_trade_76 : decode cX4_trade 76 = .ok (.aaload, 1) := by decide +kernel
theorem dX4_trade_77 : decode cX4_trade 77 = .ok (.astore 6, 2) := by decide +kernel
theorem dX4_trade_79 : decode cX4_trade 79 = .ok (.aload_n 0, 1) := by decide +kernel
theorem dX4_trade_80 : decode cX4_trade 80 = .ok (.getfield 11, 3) := by decide +kernel
theorem dX4_trade_83 : decode cX4_trade 83 = .ok (.iload_n 2, 1) := by decide +kernel
theorem dX4_trade_84 : decode cX4_trade 84 = .ok (.aaload, 1) := by decide +kernel
theorem dX4_trade_85 : decode cX4_trade 85 = .ok (.astore 7, 2) := by decide +kernel
theorem dX4_trade_87 : decode cX4_trade 87 = .ok (.aload 6, 2) := by decide +kernel
theorem dX4_trade_89 : decode cX4_trade 89 = .ok (.iconst 0, 1) := by decide +kernel
theorem dX4_trade_90 : decode cX4_trade 90 = .ok (.invokestatic 101, 3) := by decide +kernel
theorem dX4_trade_93 : decode cX4_trade 93 = .ok (.aload 7, 2) := by decide +kernel
theorem dX4_trade_95 : decode cX4_trade 95 = .ok (.iconst 0, 1) := by decide +kernel
theorem dX4_trade_96 : decode cX4_trade 96 = .ok (.invokestatic 101, 3) := by decide +kernel
theorem dX4_trade_99 : decode cX4_trade 99 = .ok (.iload 4, 2) := by decide +kernel
theorem dX4_trade_101 : decode cX4_trade 101 = .ok (.i2l, 1) := by decide +kernel
theorem dX4_trade_102 : decode cX4_trade 102 = .ok (.aload_n 0, 1) := by decide +kernel
theorem dX4_trade_103 : decode cX4_trade 103 = .ok (.getfield 17, 3) := by decide +kernel
theorem dX4_trade_106 : decode cX4_trade 106 = .ok (.iload_n 3, 1) := by decide +kernel
theorem dX4_trade_107 : decode cX4_trade 107 = .ok (.aaload, 1) := by decide +kernel
theorem dX4_trade_108 : decode cX4_trade 108 = .ok (.getfield 71, 3) := by decide +kernel
theorem dX4_trade_111 : decode cX4_trade 111 = .ok (.iload 5, 2) := by decide +kernel
theorem dX4_trade_113 : decode cX4_trade 113 = .ok (.isub, 1) := by decide +kernel
theorem dX4_trade_114 : decode cX4_trade 114 = .ok (.i2l, 1) := by decide +kernel
theorem dX4_trade_115 : decode cX4_trade 115 = .ok (.lmul, 1) := by decide +kernel
theorem dX4_trade_116 : decode cX4_trade 116 = .ok (.lstore 8, 2) := by decide +kernel
theorem dX4_trade_118 : decode cX4_trade 118 = .ok (.aload 6, 2) := by decide +kernel
theorem dX4_trade_120 : decode cX4_trade 120 = .ok (.getfield 105, 3) := by decide +kernel
theorem dX4_trade_123 : decode cX4_trade 123 = .ok (.lload 8, 2) := by decide +kernel
theorem dX4_trade_125 : decode cX4_trade 125 = .ok (.ladd, 1) := by decide +kernel
theorem dX4_trade_126 : decode cX4_trade 126 = .ok (.invokestatic 80, 3) := by decide +kernel
theorem dX4_trade_129 : decode cX4_trade 129 = .ok (.ifCond .ne 49, 3) := by decide +kernel
theorem dX4_trade_132 : decode cX4_trade 132 = .ok (.aload 7, 2) := by decide +kernel
theorem dX4_trade_134 : decode cX4_trade 134 = .ok (.getfield 105, 3) := by decide +kernel
theorem dX4_trade_137 : decode cX4_trade 137 = .ok (.lload 8, 2) := by decide +kernel
theorem dX4_trade_139 : decode cX4_trade 139 = .ok (.lsub, 1) := by decide +kernel
theorem dX4_trade_140 : decode cX4_trade 140 = .ok (.invokestatic 80, 3) := by decide +kernel
theorem dX4_trade_143 : decode cX4_trade 143 = .ok (.ifCond .ne 35, 3) := by decide +kernel
theorem dX4_trade_146 : decode cX4_trade 146 = .ok (.aload 6, 2) := by decide +kernel
theorem dX4_trade_148 : decode cX4_trade 148 = .ok (.getfield 114, 3) := by decide +kernel
theorem dX4_trade_151 : decode cX4_trade 151 = .ok (.iload_n 3, 1) := by decide +kernel
theorem dX4_trade_152 : decode cX4_trade 152 = .ok (.iaload, 1) := by decide +kernel
theorem dX4_trade_153 : decode cX4_trade 153 = .ok (.iload 4, 2) := by decide +kernel
theorem dX4_trade_155 : decode cX4_trade 155 = .ok (.iadd, 1) := by decide +kernel
theorem dX4_trade_156 : decode cX4_trade 156 = .ok (.invokestatic 117, 3) := by decide +kernel
theorem dX4_trade_159 : decode cX4_trade 159 = .ok (.ifCond .ne 19, 3) := by decide +kernel
theorem dX4_trade_162 : decode cX4_trade 162 = .ok (.aload 7, 2) := by decide +kernel
theorem dX4_trade_164 : decode cX4_trade 164 = .ok (.getfield 114, 3) := by decide +kernel
theorem dX4_trade_167 : decode cX4_trade 167 = .ok (.iload_n 3, 1) := by decide +kernel
theorem dX4_trade_168 : decode cX4_trade 168 = .ok (.iaload, 1) := by decide +kernel
theorem dX4_trade_169 : decode cX4_trade 169 = .ok (.iload 4, 2) := by decide +kernel
theorem dX4_trade_171 : decode cX4_trade 171 = .ok (.isub, 1) := by decide +kernel
theorem dX4_trade_172 : decode cX4_trade 172 = .ok (.invokestatic 117, 3) := by decide +kernel
theorem dX4_trade_175 : decode cX4_trade 175 = .ok (.ifCond .eq 5, 3) := by decide +kernel
theorem dX4_trade_178 : decode cX4_trade 178 = .ok (.iconst (-1), 1) := by decide +kernel
theorem dX4_trade_179 : decode cX4_trade 179 = .ok (.ireturn, 1) := by decide +kernel
theorem dX4_trade_180 : decode cX4_trade 180 = .ok (.aload 6, 2) := by decide +kernel
theorem dX4_trade_182 : decode cX4_trade 182 = .ok (.dup, 1) := by decide +kernel
theorem dX4_trade_183 : decode cX4_trade 183 = .ok (.getfield 105, 3) := by decide +kernel
theorem dX4_trade_186 : decode cX4_trade 186 = .ok (.lload 8, 2) := by decide +kernel
theorem dX4_trade_188 : decode cX4_trade 188 = .ok (.ladd, 1) := by decide +kernel
theorem dX4_trade_189 : decode cX4_trade 189 = .ok (.putfield 105, 3) := by decide +kernel
theorem dX4_trade_192 : decode cX4_trade 192 = .ok (.aload 7, 2) := by decide +kernel
theorem dX4_trade_194 : decode cX4_trade 194 = .ok (.dup, 1) := by decide +kernel
theorem dX4_trade_195 : decode cX4_trade 195 = .ok (.getfield 105, 3) := by decide +kernel
theorem dX4_trade_198 : decode cX4_trade 198 = .ok (.lload 8, 2) := by decide +kernel
theorem dX4_trade_200 : decode cX4_trade 200 = .ok (.lsub, 1) := by decide +kernel
theorem dX4_trade_201 : decode cX4_trade 201 = .ok (.putfield 105, 3) := by decide +kernel
theorem dX4_trade_204 : decode cX4_trade 204 = .ok (.aload 6, 2) := by decide +kernel
theorem dX4_trade_206 : decode cX4_trade 206 = .ok (.getfield 114, 3) := by decide +kernel
theorem dX4_trade_209 : decode cX4_trade 209 = .ok (.iload_n 3, 1) := by decide +kernel
theorem dX4_trade_210 : decode cX4_trade 210 = .ok (.dup2, 1) := by decide +kernel
theorem dX4_trade_211 : decode cX4_trade 211 = .ok (.iaload, 1) := by decide +kernel
theorem dX4_trade_212 : decode cX4_trade 212 = .ok (.iload 4, 2) := by decide +kernel
theorem dX4_trade_214 : decode cX4_trade 214 = .ok (.iadd, 1) := by decide +kernel
theorem dX4_trade_215 : decode cX4_trade 215 = .ok (.iastore, 1) := by decide +kernel
theorem dX4_trade_216 : decode cX4_trade 216 = .ok (.aload 7, 2) := by decide +kernel
theorem dX4_trade_218 : decode cX4_trade 218 = .ok (.getfield 114, 3) := by decide +kernel
theorem dX4_trade_221 : decode cX4_trade 221 = .ok (.iload_n 3, 1) := by decide +kernel
theorem dX4_trade_222 : decode cX4_trade 222 = .ok (.dup2, 1) := by decide +kernel
theorem dX4_trade_223 : decode cX4_trade 223 = .ok (.iaload, 1) := by decide +kernel
theorem dX4_trade_224 : decode cX4_trade 224 = .ok (.iload 4, 2) := by decide +kernel
theorem dX4_trade_226 : decode cX4_trade 226 = .ok (.isub, 1) := by decide +kernel
theorem dX4_trade_227 : decode cX4_trade 227 = .ok (.iastore, 1) := by decide +kernel
theorem dX4_trade_228 : decode cX4_trade 228 = .ok (.aload_n 0, 1) := by decide +kernel
theorem dX4_trade_229 : decode cX4_trade 229 = .ok (.dup, 1) := by decide +kernel
theorem dX4_trade_230 : decode cX4_trade 230 = .ok (.getfield 44, 3) := by decide +kernel
theorem dX4_trade_233 : decode cX4_trade 233 = .ok (.iconst 1, 1) := by decide +kernel
theorem dX4_trade_234 : decode cX4_trade 234 = .ok (.iadd, 1) := by decide +kernel
theorem dX4_trade_235 : decode cX4_trade 235 = .ok (.putfield 44, 3) := by decide +kernel
theorem dX4_trade_238 : decode cX4_trade 238 = .ok (.aload_n 0, 1) := by decide +kernel
theorem dX4_trade_239 : decode cX4_trade 239 = .ok (.getfield 44, 3) := by decide +kernel
theorem dX4_trade_242 : decode cX4_trade 242 = .ok (.ireturn, 1) := by decide +kernel
theorem dX4_mark_0 : decode cX4_mark 0 = .ok (.aload_n 0, 1) := by decide +kernel
theorem dX4_mark_1 : decode cX4_mark 1 = .ok (.iload_n 1, 1) := by decide +kernel
theorem dX4_mark_2 : decode cX4_mark 2 = .ok (.invokevirtual 88, 3) := by decide +kernel
theorem dX4_mark_5 : decode cX4_mark 5 = .ok (.ifCond .eq 19, 3) := by decide +kernel
theorem dX4_mark_8 : decode cX4_mark 8 = .ok (.iload_n 2, 1) := by decide +kernel
theorem dX4_mark_9 : decode cX4_mark 9 = .ok (.i2l, 1) := by decide +kernel
theorem dX4_mark_10 : decode cX4_mark 10 = .ok (.lconst 0, 1) := by decide +kernel
theorem dX4_mark_11 : decode cX4_mark 11 = .ok (.ldc2_w 69, 3) := by decide +kernel
theorem dX4_mark_14 : decode cX4_mark 14 = .ok (.invokestatic 58, 3) := by decide +kernel
theorem dX4_mark_17 : decode cX4_mark 17 = .ok (.ifCond .eq 7, 3) := by decide +kernel
theorem dX4_mark_20 : decode cX4_mark 20 = .ok (.iconst 1, 1) := by decide +kernel
theorem dX4_mark_21 : decode cX4_mark 21 = .ok (.goto 4, 3) := by decide +kernel
theorem dX4_mark_24 : decode cX4_mark 24 = .ok (.iconst 0, 1) := by decide +kernel
theorem dX4_mark_25 : decode cX4_mark 25 = .ok (.invokestatic 62, 3) := by decide +kernel
theorem dX4_mark_28 : decode cX4_mark 28 = .ok (.iload_n 2, 1) := by decide +kernel
theorem dX4_mark_29 : decode cX4_mark 29 = .ok (.aload_n 0, 1) := by decide +kernel
theorem dX4_mark_30 : decode cX4_mark 30 = .ok (.getfield 17, 3) := by decide +kernel
theorem dX4_mark_33 : decode cX4_mark 33 = .ok (.iload_n 1, 1) := by decide +kernel
theorem dX4_mark_34 : decode cX4_mark 34 = .ok (.aaload, 1) := by decide +kernel
theorem dX4_mark_35 : decode cX4_mark 35 = .ok (.getfield 71, 3) := by decide +kernel
theorem dX4_mark_38 : decode cX4_mark 38 = .ok (.isub, 1) := by decide +kernel
theorem dX4_mark_39 : decode cX4_mark 39 = .ok (.i2l, 1) := by decide +kernel
theorem dX4_mark_40 : decode cX4_mark 40 = .ok (.lstore_n 3, 1) := by decide +kernel
theorem dX4_mark_41 : decode cX4_mark 41 = .ok (.iconst 0, 1) := by decide +kernel
theorem dX4_mark_42 : decode cX4_mark 42 = .ok (.istore 5, 2) := by decide +kernel
theorem dX4_mark_44 : decode cX4_mark 44 = .ok (.iload 5, 2) := by decide +kernel
theorem dX4_mark_46 : decode cX4_mark 46 = .ok (.aload_n 0, 1) := by decide +kernel
theorem dX4_mark_47 : decode cX4_mark 47 = .ok (.getfield 37, 3) := by decide +kernel
theorem dX4_mark_50 : decode cX4_mark 50 = .ok (.if_icmp .ge 43, 3) := by decide +kernel
theorem dX4_mark_53 : decode cX4_mark 53 = .ok (.aload_n 0, 1) := by decide +kernel
theorem dX4_mark_54 : decode cX4_mark 54 = .ok (.getfield 11, 3) := by decide +kernel
theorem dX4_mark_57 : decode cX4_mark 57 = .ok (.iload 5, 2) := by decide +kernel
theorem dX4_mark_59 : decode cX4_mark 59 = .ok (.aaload, 1) := by decide +kernel
theorem dX4_mark_60 : decode cX4_mark 60 = .ok (.getfield 105, 3) := by decide +kernel
theorem dX4_mark_63 : decode cX4_mark 63 = .ok (.lload_n 3, 1) := by decide +kernel
theorem dX4_mark_64 : decode cX4_mark 64 = .ok (.aload_n 0, 1) := by decide +kernel
theorem dX4_mark_65 : decode cX4_mark 65 = .ok (.getfield 11, 3) := by decide +kernel
theorem dX4_mark_68 : decode cX4_mark 68 = .ok (.iload 5, 2) := by decide +kernel
theorem dX4_mark_70 : decode cX4_mark 70 = .ok (.aaload, 1) := by decide +kernel
theorem dX4_mark_71 : decode cX4_mark 71 = .ok (.getfield 114, 3) := by decide +kernel
theorem dX4_mark_74 : decode cX4_mark 74 = .ok (.iload_n 1, 1) := by decide +kernel
theorem dX4_mark_75 : decode cX4_mark 75 = .ok (.iaload, 1) := by decide +kernel
theorem dX4_mark_76 : decode cX4_mark 76 = .ok (.i2l, 1) := by decide +kernel
theorem dX4_mark_77 : decode cX4_mark 77 = .ok (.lmul, 1) := by decide +kernel
theorem dX4_mark_78 : decode cX4_mark 78 = .ok (.ladd, 1) := by decide +kernel
theorem dX4_mark_79 : decode cX4_mark 79 = .ok (.invokestatic 80, 3) := by decide +kernel
theorem dX4_mark_82 : decode cX4_mark 82 = .ok (.ifCond .eq 5, 3) := by decide +kernel
theorem dX4_mark_85 : decode cX4_mark 85 = .ok (.iconst (-1), 1) := by decide +kernel
theorem dX4_mark_86 : decode cX4_mark 86 = .ok (.ireturn, 1) := by decide +kernel
theorem dX4_mark_87 : decode cX4_mark 87 = .ok (.iinc 5 1, 3) := by decide +kernel
theorem dX4_mark_90 : decode cX4_mark 90 = .ok (.goto (-46), 3) := by decide +kernel
theorem dX4_mark_93 : decode cX4_mark 93 = .ok (.iconst 0, 1) := by decide +kernel
theorem dX4_mark_94 : decode cX4_mark 94 = .ok (.istore 5, 2) := by decide +kernel
theorem dX4_mark_96 : decode cX4_mark 96 = .ok (.iload 5, 2) := by decide +kernel
theorem dX4_mark_98 : decode cX4_mark 98 = .ok (.aload_n 0, 1) := by decide +kernel
theorem dX4_mark_99 : decode cX4_mark 99 = .ok (.getfield 37, 3) := by decide +kernel
theorem dX4_mark_102 : decode cX4_mark 102 = .ok (.if_icmp .ge 39, 3) := by decide +kernel
theorem dX4_mark_105 : decode cX4_mark 105 = .ok (.aload_n 0, 1) := by decide +kernel
theorem dX4_mark_106 : decode cX4_mark 106 = .ok (.getfield 11, 3) := by decide +kernel
theorem dX4_mark_109 : decode cX4_mark 109 = .ok (.iload 5, 2) := by decide +kernel
theorem dX4_mark_111 : decode cX4_mark 111 = .ok (.aaload, 1) := by decide +kernel
theorem dX4_mark_112 : decode cX4_mark 112 = .ok (.dup, 1) := by decide +kernel
theorem dX4_mark_113 : decode cX4_mark 113 = .ok (.getfield 105, 3) := by decide +kernel
theorem dX4_mark_116 : decode cX4_mark 116 = .ok (.lload_n 3, 1) := by decide +kernel
theorem dX4_mark_117 : decode cX4_mark 117 = .ok (.aload_n 0, 1) := by decide +kernel
theorem dX4_mark_118 : decode cX4_mark 118 = .ok (.getfield 11, 3) := by decide +kernel
theorem dX4_mark_121 : decode cX4_mark 121 = .ok (.iload 5, 2) := by decide +kernel
theorem dX4_mark_123 : decode cX4_mark 123 = .ok (.aaload, 1) := by decide +kernel
theorem dX4_mark_124 : decode cX4_mark 124 = .ok (.getfield 114, 3) := by decide +kernel
theorem dX4_mark_127 : decode cX4_mark 127 = .ok (.iload_n 1, 1) := by decide +kernel
theorem dX4_mark_128 : decode cX4_mark 128 = .ok (.iaload, 1) := by decide +kernel
theorem dX4_mark_129 : decode cX4_mark 129 = .ok (.i2l, 1) := by decide +kernel
theorem dX4_mark_130 : decode cX4_mark 130 = .ok (.lmul, 1) := by decide +kernel
theorem dX4_mark_131 : decode cX4_mark 131 = .ok (.ladd, 1) := by decide +kernel
theorem dX4_mark_132 : decode cX4_mark 132 = .ok (.putfield 105, 3) := by decide +kernel
theorem dX4_mark_135 : decode cX4_mark 135 = .ok (.iinc 5 1, 3) := by decide +kernel
theorem dX4_mark_138 : decode cX4_mark 138 = .ok (.goto (-42), 3) := by decide +kernel
theorem dX4_mark_141 : decode cX4_mark 141 = .ok (.aload_n 0, 1) := by decide +kernel
theorem dX4_mark_142 : decode cX4_mark 142 = .ok (.getfield 17, 3) := by decide +kernel
theorem dX4_mark_145 : decode cX4_mark 145 = .ok (.iload_n 1, 1) := by decide +kernel
theorem dX4_mark_146 : decode cX4_mark 146 = .ok (.aaload, 1) := by decide +kernel
theorem dX4_mark_147 : decode cX4_mark 147 = .ok (.iload_n 2, 1) := by decide +kernel
theorem dX4_mark_148 : decode cX4_mark 148 = .ok (.putfield 71, 3) := by decide +kernel
theorem dX4_mark_151 : decode cX4_mark 151 = .ok (.aload_n 0, 1) := by decide +kernel
theorem dX4_mark_152 : decode cX4_mark 152 = .ok (.invokevirtual 120, 3) := by decide +kernel
theorem dX4_mark_155 : decode cX4_mark 155 = .ok (.ireturn, 1) := by decide +kernel
theorem dX4_margin_0 : decode cX4_margin 0 = .ok (.aload_n 0, 1) := by decide +kernel
theorem dX4_margin_1 : decode cX4_margin 1 = .ok (.iload_n 1, 1) := by decide +kernel
theorem dX4_margin_2 : decode cX4_margin 2 = .ok (.invokevirtual 94, 3) := by decide +kernel
theorem dX4_margin_5 : decode cX4_margin 5 = .ok (.invokestatic 62, 3) := by decide +kernel
theorem dX4_margin_8 : decode cX4_margin 8 = .ok (.aload_n 0, 1) := by decide +kernel
theorem dX4_margin_9 : decode cX4_margin 9 = .ok (.aload_n 0, 1) := by decide +kernel
theorem dX4_margin_10 : decode cX4_margin 10 = .ok (.getfield 11, 3) := by decide +kernel
theorem dX4_margin_13 : decode cX4_margin 13 = .ok (.iload_n 1, 1) := by decide +kernel
theorem dX4_margin_14 : decode cX4_margin 14 = .ok (.aaload, 1) := by decide +kernel
theorem dX4_margin_15 : decode cX4_margin 15 = .ok (.invokevirtual 108, 3) := by decide +kernel
theorem dX4_margin_18 : decode cX4_margin 18 = .ok (.lreturn, 1) := by decide +kernel
theorem dX4_called_0 : decode cX4_called 0 = .ok (.aload_n 0, 1) := by decide +kernel
theorem dX4_called_1 : decode cX4_called 1 = .ok (.iload_n 1, 1) := by decide +kernel
theorem dX4_called_2 : decode cX4_called 2 = .ok (.invokevirtual 94, 3) := by decide +kernel
theorem dX4_called_5 : decode cX4_called 5 = .ok (.invokestatic 62, 3) := by decide +kernel
theorem dX4_called_8 : decode cX4_called 8 = .ok (.aload_n 0, 1) := by decide +kernel
theorem dX4_called_9 : decode cX4_called 9 = .ok (.aload_n 0, 1) := by decide +kernel
theorem dX4_called_10 : decode cX4_called 10 = .ok (.getfield 11, 3) := by decide +kernel
theorem dX4_called_13 : decode cX4_called 13 = .ok (.iload_n 1, 1) := by decide +kernel
theorem dX4_called_14 : decode cX4_called 14 = .ok (.aaload, 1) := by decide +kernel
theorem dX4_called_15 : decode cX4_called 15 = .ok (.invokevirtual 124, 3) := by decide +kernel
theorem dX4_called_18 : decode cX4_called 18 = .ok (.lreturn, 1) := by decide +kernel
theorem dX4_declare_0 : decode cX4_declare 0 = .ok (.iconst 0, 1) := by decide +kernel
theorem dX4_declare_1 : decode cX4_declare 1 = .ok (.istore_n 1, 1) := by decide +kernel
theorem dX4_declare_2 : decode cX4_declare 2 = .ok (.iconst 0, 1) := by decide +kernel
theorem dX4_declare_3 : decode cX4_declare 3 = .ok (.istore_n 2, 1) := by decide +kernel
theorem dX4_declare_4 : decode cX4_declare 4 = .ok (.iload_n 2, 1) := by decide +kernel
theorem dX4_declare_5 : decode cX4_declare 5 = .ok (.aload_n 0, 1) := by decide +kernel
theorem dX4_declare_6 : decode cX4_declare 6 = .ok (.getfield 37, 3) := by decide +kernel
theorem dX4_declare_9 : decode cX4_declare 9 = .ok (.if_icmp .ge 37, 3) := by decide +kernel
theorem dX4_declare_12 : decode cX4_declare 12 = .ok (.aload_n 0, 1) := by decide +kernel
theorem dX4_declare_13 : decode cX4_declare 13 = .ok (.aload_n 0, 1) := by decide +kernel
theorem dX4_declare_14 : decode cX4_declare 14 = .ok (.getfield 11, 3) := by decide +kernel
theorem dX4_declare_17 : decode cX4_declare 17 = .ok (.iload_n 2, 1) := by decide +kernel
theorem dX4_declare_18 : decode cX4_declare 18 = .ok (.aaload, 1) := by decide +kernel
theorem dX4_declare_19 : decode cX4_declare 19 = .ok (.invokevirtual 124, 3) := by decide +kernel
theorem dX4_declare_22 : decode cX4_declare 22 = .ok (.lconst 0, 1) := by decide +kernel
theorem dX4_declare_23 : decode cX4_declare 23 = .ok (.lcmp, 1) := by decide +kernel
theorem dX4_declare_24 : decode cX4_declare 24 = .ok (.ifCond .le 16, 3) := by decide +kernel
theorem dX4_declare_27 : decode cX4_declare 27 = .ok (.aload_n 0, 1) := by decide +kernel
theorem dX4_declare_28 : decode cX4_declare 28 = .ok (.getfield 11, 3) := by decide +kernel
theorem dX4_declare_31 : decode cX4_declare 31 = .ok (.iload_n 2, 1) := by decide +kernel
theorem dX4_declare_32 : decode cX4_declare 32 = .ok (.aaload, 1) := by decide +kernel
theorem dX4_declare_33 : decode cX4_declare 33 = .ok (.iconst 1, 1) := by decide +kernel
theorem dX4_declare_34 : decode cX4_declare 34 = .ok (.putfield 127, 3) := by decide +kernel
theorem dX4_declare_37 : decode cX4_declare 37 = .ok (.iinc 1 1, 3) := by decide +kernel
theorem dX4_declare_40 : decode cX4_declare 40 = .ok (.iinc 2 1, 3) := by decide +kernel
theorem dX4_declare_43 : decode cX4_declare 43 = .ok (.goto (-39), 3) := by decide +kernel
theorem dX4_declare_46 : decode cX4_declare 46 = .ok (.iload_n 1, 1) := by decide +kernel
theorem dX4_declare_47 : decode cX4_declare 47 = .ok (.ireturn, 1) := by decide +kernel
theorem dX4_closeOut_0 : decode cX4_closeOut 0 = .ok (.aload_n 0, 1) := by decide +kernel
theorem dX4_closeOut_1 : decode cX4_closeOut 1 = .ok (.iload_n 1, 1) := by decide +kernel
theorem dX4_closeOut_2 : decode cX4_closeOut 2 = .ok (.invokevirtual 94, 3) := by decide +kernel
theorem dX4_closeOut_5 : decode cX4_closeOut 5 = .ok (.invokestatic 62, 3) := by decide +kernel
theorem dX4_closeOut_8 : decode cX4_closeOut 8 = .ok (.aload_n 0, 1) := by decide +kernel
theorem dX4_closeOut_9 : decode cX4_closeOut 9 = .ok (.getfield 11, 3) := by decide +kernel
theorem dX4_closeOut_12 : decode cX4_closeOut 12 = .ok (.iload_n 1, 1) := by decide +kernel
theorem dX4_closeOut_13 : decode cX4_closeOut 13 = .ok (.aaload, 1) := by decide +kernel
theorem dX4_closeOut_14 : decode cX4_closeOut 14 = .ok (.iconst 1, 1) := by decide +kernel
theorem dX4_closeOut_15 : decode cX4_closeOut 15 = .ok (.invokestatic 101, 3) := by decide +kernel
theorem dX4_closeOut_18 : decode cX4_closeOut 18 = .ok (.aload_n 0, 1) := by decide +kernel
theorem dX4_closeOut_19 : decode cX4_closeOut 19 = .ok (.invokevirtual 130, 3) := by decide +kernel
theorem dX4_closeOut_22 : decode cX4_closeOut 22 = .ok (.aload_n 0, 1) := by decide +kernel
theorem dX4_closeOut_23 : decode cX4_closeOut 23 = .ok (.iload_n 1, 1) := by decide +kernel
theorem dX4_closeOut_24 : decode cX4_closeOut 24 = .ok (.invokevirtual 133, 3) := by decide +kernel
theorem dX4_closeOut_27 : decode cX4_closeOut 27 = .ok (.ifCond .ne 7, 3) := by decide +kernel
theorem dX4_closeOut_30 : decode cX4_closeOut 30 = .ok (.ldc2_w 84, 3) := by decide +kernel
theorem dX4_closeOut_33 : decode cX4_closeOut 33 = .ok (.lreturn, 1) := by decide +kernel
theorem dX4_closeOut_34 : decode cX4_closeOut 34 = .ok (.aload_n 0, 1) := by decide +kernel
theorem dX4_closeOut_35 : decode cX4_closeOut 35 = .ok (.iload_n 1, 1) := by decide +kernel
theorem dX4_closeOut_36 : decode cX4_closeOut 36 = .ok (.invokevirtual 136, 3) := by decide +kernel
theorem dX4_closeOut_39 : decode cX4_closeOut 39 = .ok (.aload_n 0, 1) := by decide +kernel
theorem dX4_closeOut_40 : decode cX4_closeOut 40 = .ok (.getfield 51, 3) := by decide +kernel
theorem dX4_closeOut_43 : decode cX4_closeOut 43 = .ok (.aload_n 0, 1) := by decide +kernel
theorem dX4_closeOut_44 : decode cX4_closeOut 44 = .ok (.getfield 33, 3) := by decide +kernel
theorem dX4_closeOut_47 : decode cX4_closeOut 47 = .ok (.getfield 140, 3) := by decide +kernel
theorem dX4_closeOut_50 : decode cX4_closeOut 50 = .ok (.iconst 4, 1) := by decide +kernel
theorem dX4_closeOut_51 : decode cX4_closeOut 51 = .ok (.laload, 1) := by decide +kernel
theorem dX4_closeOut_52 : decode cX4_closeOut 52 = .ok (.ladd, 1) := by decide +kernel
theorem dX4_closeOut_53 : decode cX4_closeOut 53 = .ok (.invokestatic 80, 3) := by decide +kernel
theorem dX4_closeOut_56 : decode cX4_closeOut 56 = .ok (.ifCond .eq 7, 3) := by decide +kernel
theorem dX4_closeOut_59 : decode cX4_closeOut 59 = .ok (.ldc2_w 84, 3) := by decide +kernel
theorem dX4_closeOut_62 : decode cX4_closeOut 62 = .ok (.lreturn, 1) := by decide +kernel
theorem dX4_closeOut_63 : decode cX4_closeOut 63 = .ok (.aload_n 0, 1) := by decide +kernel
theorem dX4_closeOut_64 : decode cX4_closeOut 64 = .ok (.iload_n 1, 1) := by decide +kernel
theorem dX4_closeOut_65 : decode cX4_closeOut 65 = .ok (.invokevirtual 141, 3) := by decide +kernel
theorem dX4_closeOut_68 : decode cX4_closeOut 68 = .ok (.aload_n 0, 1) := by decide +kernel
theorem dX4_closeOut_69 : decode cX4_closeOut 69 = .ok (.getfield 26, 3) := by decide +kernel
theorem dX4_closeOut_72 : decode cX4_closeOut 72 = .ok (.iconst 4, 1) := by decide +kernel
theorem dX4_closeOut_73 : decode cX4_closeOut 73 = .ok (.laload, 1) := by decide +kernel
theorem dX4_closeOut_74 : decode cX4_closeOut 74 = .ok (.lreturn, 1) := by decide +kernel
theorem dX4_told_0 : decode cX4_told 0 = .ok (.aload_n 0, 1) := by decide +kernel
theorem dX4_told_1 : decode cX4_told 1 = .ok (.iload_n 1, 1) := by decide +kernel
theorem dX4_told_2 : decode cX4_told 2 = .ok (.invokevirtual 94, 3) := by decide +kernel
theorem dX4_told_5 : decode cX4_told 5 = .ok (.ifCond .eq 19, 3) := by decide +kernel
theorem dX4_told_8 : decode cX4_told 8 = .ok (.iload_n 2, 1) := by decide +kernel
theorem dX4_told_9 : decode cX4_told 9 = .ok (.i2l, 1) := by decide +kernel
theorem dX4_told_10 : decode cX4_told 10 = .ok (.lconst 0, 1) := by decide +kernel
theorem dX4_told_11 : decode cX4_told 11 = .ok (.ldc2_w 144, 3) := by decide +kernel
theorem dX4_told_14 : decode cX4_told 14 = .ok (.invokestatic 58, 3) := by decide +kernel
theorem dX4_told_17 : decode cX4_told 17 = .ok (.ifCond .eq 7, 3) := by decide +kernel
theorem dX4_told_20 : decode cX4_told 20 = .ok (.iconst 1, 1) := by decide +kernel
theorem dX4_told_21 : decode cX4_told 21 = .ok (.goto 4, 3) := by decide +kernel
theorem dX4_told_24 : decode cX4_told 24 = .ok (.iconst 0, 1) := by decide +kernel
theorem dX4_told_25 : decode cX4_told 25 = .ok (.invokestatic 62, 3) := by decide +kernel
theorem dX4_told_28 : decode cX4_told 28 = .ok (.iload_n 2, 1) := by decide +kernel
theorem dX4_told_29 : decode cX4_told 29 = .ok (.lookupswitch 48 #[(0, 27), (1, 38)], 27) := by decide +kernel
theorem dX4_told_56 : decode cX4_told 56 = .ok (.aload_n 0, 1) := by decide +kernel
theorem dX4_told_57 : decode cX4_told 57 = .ok (.getfield 11, 3) := by decide +kernel
theorem dX4_told_60 : decode cX4_told 60 = .ok (.iload_n 1, 1) := by decide +kernel
theorem dX4_told_61 : decode cX4_told 61 = .ok (.aaload, 1) := by decide +kernel
theorem dX4_told_62 : decode cX4_told 62 = .ok (.getfield 127, 3) := by decide +kernel
theorem dX4_told_65 : decode cX4_told 65 = .ok (.i2l, 1) := by decide +kernel
theorem dX4_told_66 : decode cX4_told 66 = .ok (.lreturn, 1) := by decide +kernel
theorem dX4_told_67 : decode cX4_told 67 = .ok (.aload_n 0, 1) := by decide +kernel
theorem dX4_told_68 : decode cX4_told 68 = .ok (.getfield 11, 3) := by decide +kernel
theorem dX4_told_71 : decode cX4_told 71 = .ok (.iload_n 1, 1) := by decide +kernel
theorem dX4_told_72 : decode cX4_told 72 = .ok (.aaload, 1) := by decide +kernel
theorem dX4_told_73 : decode cX4_told 73 = .ok (.getfield 105, 3) := by decide +kernel
theorem dX4_told_76 : decode cX4_told 76 = .ok (.lreturn, 1) := by decide +kernel
theorem dX4_told_77 : decode cX4_told 77 = .ok (.aload_n 0, 1) := by decide +kernel
theorem dX4_told_78 : decode cX4_told 78 = .ok (.getfield 11, 3) := by decide +kernel
theorem dX4_told_81 : decode cX4_told 81 = .ok (.iload_n 1, 1) := by decide +kernel
theorem dX4_told_82 : decode cX4_told 82 = .ok (.aaload, 1) := by decide +kernel
theorem dX4_told_83 : decode cX4_told 83 = .ok (.getfield 66, 3) := by decide +kernel
theorem dX4_told_86 : decode cX4_told 86 = .ok (.lreturn, 1) := by decide +kernel
theorem dX4_position_0 : decode cX4_position 0 = .ok (.aload_n 0, 1) := by decide +kernel
theorem dX4_position_1 : decode cX4_position 1 = .ok (.iload_n 1, 1) := by decide +kernel
theorem dX4_position_2 : decode cX4_position 2 = .ok (.invokevirtual 94, 3) := by decide +kernel
theorem dX4_position_5 : decode cX4_position 5 = .ok (.ifCond .eq 15, 3) := by decide +kernel
theorem dX4_position_8 : decode cX4_position 8 = .ok (.aload_n 0, 1) := by decide +kernel
theorem dX4_position_9 : decode cX4_position 9 = .ok (.iload_n 2, 1) := by decide +kernel
theorem dX4_position_10 : decode cX4_position 10 = .ok (.invokevirtual 88, 3) := by decide +kernel
theorem dX4_position_13 : decode cX4_position 13 = .ok (.ifCond .eq 7, 3) := by decide +kernel
theorem dX4_position_16 : decode cX4_position 16 = .ok (.iconst 1, 1) := by decide +kernel
theorem dX4_position_17 : decode cX4_position 17 = .ok (.goto 4, 3) := by decide +kernel
theorem dX4_position_20 : decode cX4_position 20 = .ok (.iconst 0, 1) := by decide +kernel
theorem dX4_position_21 : decode cX4_position 21 = .ok (.invokestatic 62, 3) := by decide +kernel
theorem dX4_position_24 : decode cX4_position 24 = .ok (.aload_n 0, 1) := by decide +kernel
theorem dX4_position_25 : decode cX4_position 25 = .ok (.getfield 11, 3) := by decide +kernel
theorem dX4_position_28 : decode cX4_position 28 = .ok (.iload_n 1, 1) := by decide +kernel
theorem dX4_position_29 : decode cX4_position 29 = .ok (.aaload, 1) := by decide +kernel
theorem dX4_position_30 : decode cX4_position 30 = .ok (.getfield 114, 3) := by decide +kernel
theorem dX4_position_33 : decode cX4_position 33 = .ok (.iload_n 2, 1) := by decide +kernel
theorem dX4_position_34 : decode cX4_position 34 = .ok (.iaload, 1) := by decide +kernel
theorem dX4_position_35 : decode cX4_position 35 = .ok (.ireturn, 1) := by decide +kernel
theorem dX4_bore_0 : decode cX4_bore 0 = .ok (.iload_n 1, 1) := by decide +kernel
theorem dX4_bore_1 : decode cX4_bore 1 = .ok (.i2l, 1) := by decide +kernel
theorem dX4_bore_2 : decode cX4_bore 2 = .ok (.lconst 0, 1) := by decide +kernel
theorem dX4_bore_3 : decode cX4_bore 3 = .ok (.ldc2_w 146, 3) := by decide +kernel
theorem dX4_bore_6 : decode cX4_bore 6 = .ok (.invokestatic 58, 3) := by decide +kernel
theorem dX4_bore_9 : decode cX4_bore 9 = .ok (.invokestatic 62, 3) := by decide +kernel
theorem dX4_bore_12 : decode cX4_bore 12 = .ok (.aload_n 0, 1) := by decide +kernel
theorem dX4_bore_13 : decode cX4_bore 13 = .ok (.getfield 26, 3) := by decide +kernel
theorem dX4_bore_16 : decode cX4_bore 16 = .ok (.iload_n 1, 1) := by decide +kernel
theorem dX4_bore_17 : decode cX4_bore 17 = .ok (.laload, 1) := by decide +kernel
theorem dX4_bore_18 : decode cX4_bore 18 = .ok (.lreturn, 1) := by decide +kernel
theorem dX4_all_0 : decode cX4_all 0 = .ok (.iload_n 1, 1) := by decide +kernel
theorem dX4_all_1 : decode cX4_all 1 = .ok (.i2l, 1) := by decide +kernel
theorem dX4_all_2 : decode cX4_all 2 = .ok (.lconst 0, 1) := by decide +kernel
theorem dX4_all_3 : decode cX4_all 3 = .ok (.ldc2_w 148, 3) := by decide +kernel
theorem dX4_all_6 : decode cX4_all 6 = .ok (.invokestatic 58, 3) := by decide +kernel
theorem dX4_all_9 : decode cX4_all 9 = .ok (.invokestatic 62, 3) := by decide +kernel
theorem dX4_all_12 : decode cX4_all 12 = .ok (.iload_n 1, 1) := by decide +kernel
theorem dX4_all_13 : decode cX4_all 13 = .ok (.tableswitch 61 0 4 #[35, 40, 45, 50, 55], 35) := by decide +kernel
theorem dX4_all_48 : decode cX4_all 48 = .ok (.aload_n 0, 1) := by decide +kernel
theorem dX4_all_49 : decode cX4_all 49 = .ok (.getfield 47, 3) := by decide +kernel
theorem dX4_all_52 : decode cX4_all 52 = .ok (.lreturn, 1) := by decide +kernel
theorem dX4_all_53 : decode cX4_all 53 = .ok (.aload_n 0, 1) := by decide +kernel
theorem dX4_all_54 : decode cX4_all 54 = .ok (.getfield 51, 3) := by decide +kernel
theorem dX4_all_57 : decode cX4_all 57 = .ok (.lreturn, 1) := by decide +kernel
theorem dX4_all_58 : decode cX4_all 58 = .ok (.aload_n 0, 1) := by decide +kernel
theorem dX4_all_59 : decode cX4_all 59 = .ok (.invokevirtual 150, 3) := by decide +kernel
theorem dX4_all_62 : decode cX4_all 62 = .ok (.lreturn, 1) := by decide +kernel
theorem dX4_all_63 : decode cX4_all 63 = .ok (.aload_n 0, 1) := by decide +kernel
theorem dX4_all_64 : decode cX4_all 64 = .ok (.invokevirtual 154, 3) := by decide +kernel
theorem dX4_all_67 : decode cX4_all 67 = .ok (.lreturn, 1) := by decide +kernel
theorem dX4_all_68 : decode cX4_all 68 = .ok (.aload_n 0, 1) := by decide +kernel
theorem dX4_all_69 : decode cX4_all 69 = .ok (.getfield 44, 3) := by decide +kernel
theorem dX4_all_72 : decode cX4_all 72 = .ok (.i2l, 1) := by decide +kernel
theorem dX4_all_73 : decode cX4_all 73 = .ok (.lreturn, 1) := by decide +kernel
theorem dX4_all_74 : decode cX4_all 74 = .ok (.aload_n 0, 1) := by decide +kernel
theorem dX4_all_75 : decode cX4_all 75 = .ok (.invokevirtual 157, 3) := by decide +kernel
theorem dX4_all_78 : decode cX4_all 78 = .ok (.lreturn, 1) := by decide +kernel
theorem dX4_need_0 : decode cX4_need 0 = .ok (.iload_n 0, 1) := by decide +kernel
theorem dX4_need_1 : decode cX4_need 1 = .ok (.ifCond .ne 11, 3) := by decide +kernel
theorem dX4_need_4 : decode cX4_need 4 = .ok (.new 160, 3) := by decide +kernel
theorem dX4_need_7 : decode cX4_need 7 = .ok (.dup, 1) := by decide +kernel
theorem dX4_need_8 : decode cX4_need 8 = .ok (.invokespecial 162, 3) := by decide +kernel
theorem dX4_need_11 : decode cX4_need 11 = .ok (.athrow, 1) := by decide +kernel
theorem dX4_need_12 : decode cX4_need 12 = .ok (.return_, 1) := by decide +kernel
theorem dX4_needStanding_0 : decode cX4_needStanding 0 = .ok (.aload_n 0, 1) := by decide +kernel
theorem dX4_needStanding_1 : decode cX4_needStanding 1 = .ok (.getfield 127, 3) := by decide +kernel
theorem dX4_needStanding_4 : decode cX4_needStanding 4 = .ok (.iload_n 1, 1) := by decide +kernel
theorem dX4_needStanding_5 : decode cX4_needStanding 5 = .ok (.if_icmp .eq 11, 3) := by decide +kernel
theorem dX4_needStanding_8 : decode cX4_needStanding 8 = .ok (.new 163, 3) := by decide +kernel
theorem dX4_needStanding_11 : decode cX4_needStanding 11 = .ok (.dup, 1) := by decide +kernel
theorem dX4_needStanding_12 : decode cX4_needStanding 12 = .ok (.invokespecial 165, 3) := by decide +kernel
theorem dX4_needStanding_15 : decode cX4_needStanding 15 = .ok (.athrow, 1) := by decide +kernel
theorem dX4_needStanding_16 : decode cX4_needStanding 16 = .ok (.return_, 1) := by decide +kernel
theorem dX4_within_0 : decode cX4_within 0 = .ok (.lload_n 0, 1) := by decide +kernel
theorem dX4_within_1 : decode cX4_within 1 = .ok (.lload_n 2, 1) := by decide +kernel
theorem dX4_within_2 : decode cX4_within 2 = .ok (.lcmp, 1) := by decide +kernel
theorem dX4_within_3 : decode cX4_within 3 = .ok (.ifCond .lt 14, 3) := by decide +kernel
theorem dX4_within_6 : decode cX4_within 6 = .ok (.lload_n 0, 1) := by decide +kernel
theorem dX4_within_7 : decode cX4_within 7 = .ok (.lload 4, 2) := by decide +kernel
theorem dX4_within_9 : decode cX4_within 9 = .ok (.lcmp, 1) := by decide +kernel
theorem dX4_within_10 : decode cX4_within 10 = .ok (.ifCond .gt 7, 3) := by decide +kernel
theorem dX4_within_13 : decode cX4_within 13 = .ok (.iconst 1, 1) := by decide +kernel
theorem dX4_within_14 : decode cX4_within 14 = .ok (.goto 4, 3) := by decide +kernel
theorem dX4_within_17 : decode cX4_within 17 = .ok (.iconst 0, 1) := by decide +kernel
theorem dX4_within_18 : decode cX4_within 18 = .ok (.ireturn, 1) := by decide +kernel
theorem dX4_isTooMuch_0 : decode cX4_isTooMuch 0 = .ok (.lload_n 0, 1) := by decide +kernel
theorem dX4_isTooMuch_1 : decode cX4_isTooMuch 1 = .ok (.ldc2_w 166, 3) := by decide +kernel
theorem dX4_isTooMuch_4 : decode cX4_isTooMuch 4 = .ok (.ldc2_w 168, 3) := by decide +kernel
theorem dX4_isTooMuch_7 : decode cX4_isTooMuch 7 = .ok (.invokestatic 58, 3) := by decide +kernel
theorem dX4_isTooMuch_10 : decode cX4_isTooMuch 10 = .ok (.ifCond .ne 7, 3) := by decide +kernel
theorem dX4_isTooMuch_13 : decode cX4_isTooMuch 13 = .ok (.iconst 1, 1) := by decide +kernel
theorem dX4_isTooMuch_14 : decode cX4_isTooMuch 14 = .ok (.goto 4, 3) := by decide +kernel
theorem dX4_isTooMuch_17 : decode cX4_isTooMuch 17 = .ok (.iconst 0, 1) := by decide +kernel
theorem dX4_isTooMuch_18 : decode cX4_isTooMuch 18 = .ok (.ireturn, 1) := by decide +kernel
theorem dX4_isTooMany_0 : decode cX4_isTooMany 0 = .ok (.iload_n 0, 1) := by decide +kernel
theorem dX4_isTooMany_1 : decode cX4_isTooMany 1 = .ok (.i2l, 1) := by decide +kernel
theorem dX4_isTooMany_2 : decode cX4_isTooMany 2 = .ok (.ldc2_w 92, 3) := by decide +kernel
theorem dX4_isTooMany_5 : decode cX4_isTooMany 5 = .ok (.ldc2_w 69, 3) := by decide +kernel
theorem dX4_isTooMany_8 : decode cX4_isTooMany 8 = .ok (.invokestatic 58, 3) := by decide +kernel
theorem dX4_isTooMany_11 : decode cX4_isTooMany 11 = .ok (.ifCond .ne 7, 3) := by decide +kernel
theorem dX4_isTooMany_14 : decode cX4_isTooMany 14 = .ok (.iconst 1, 1) := by decide +kernel
theorem dX4_isTooMany_15 : decode cX4_isTooMany 15 = .ok (.goto 4, 3) := by decide +kernel
theorem dX4_isTooMany_18 : decode cX4_isTooMany 18 = .ok (.iconst 0, 1) := by decide +kernel
theorem dX4_isTooMany_19 : decode cX4_isTooMany 19 = .ok (.ireturn, 1) := by decide +kernel
theorem dX4_isMember_0 : decode cX4_isMember 0 = .ok (.iload_n 1, 1) := by decide +kernel
theorem dX4_isMember_1 : decode cX4_isMember 1 = .ok (.i2l, 1) := by decide +kernel
theorem dX4_isMember_2 : decode cX4_isMember 2 = .ok (.lconst 0, 1) := by decide +kernel
theorem dX4_isMember_3 : decode cX4_isMember 3 = .ok (.aload_n 0, 1) := by decide +kernel
theorem dX4_isMember_4 : decode cX4_isMember 4 = .ok (.getfield 37, 3) := by decide +kernel
theorem dX4_isMember_7 : decode cX4_isMember 7 = .ok (.iconst 1, 1) := by decide +kernel
theorem dX4_isMember_8 : decode cX4_isMember 8 = .ok (.isub, 1) := by decide +kernel
theorem dX4_isMember_9 : decode cX4_isMember 9 = .ok (.i2l, 1) := by decide +kernel
theorem dX4_isMember_10 : decode cX4_isMember 10 = .ok (.invokestatic 58, 3) := by decide +kernel
theorem dX4_isMember_13 : decode cX4_isMember 13 = .ok (.ireturn, 1) := by decide +kernel
theorem dX4_isInstrument_0 : decode cX4_isInstrument 0 = .ok (.iload_n 1, 1) := by decide +kernel
theorem dX4_isInstrument_1 : decode cX4_isInstrument 1 = .ok (.i2l, 1) := by decide +kernel
theorem dX4_isInstrument_2 : decode cX4_isInstrument 2 = .ok (.lconst 0, 1) := by decide +kernel
theorem dX4_isInstrument_3 : decode cX4_isInstrument 3 = .ok (.aload_n 0, 1) := by decide +kernel
theorem dX4_isInstrument_4 : decode cX4_isInstrument 4 = .ok (.getfield 41, 3) := by decide +kernel
theorem dX4_isInstrument_7 : decode cX4_isInstrument 7 = .ok (.iconst 1, 1) := by decide +kernel
theorem dX4_isInstrument_8 : decode cX4_isInstrument 8 = .ok (.isub, 1) := by decide +kernel
theorem dX4_isInstrument_9 : decode cX4_isInstrument 9 = .ok (.i2l, 1) := by decide +kernel
theorem dX4_isInstrument_10 : decode cX4_isInstrument 10 = .ok (.invokestatic 58, 3) := by decide +kernel
theorem dX4_isInstrument_13 : decode cX4_isInstrument 13 = .ok (.ireturn, 1) := by decide +kernel
theorem dX4_countLiveBelowZero_0 : decode cX4_countLiveBelowZero 0 = .ok (.iconst 0, 1) := by decide +kernel
theorem dX4_countLiveBelowZero_1 : decode cX4_countLiveBelowZero 1 = .ok (.istore_n 1, 1) := by decide +kernel
theorem dX4_countLiveBelowZero_2 : decode cX4_countLiveBelowZero 2 = .ok (.iconst 0, 1) := by decide +kernel
theorem dX4_countLiveBelowZero_3 : decode cX4_countLiveBelowZero 3 = .ok (.istore_n 2, 1) := by decide +kernel
theorem dX4_countLiveBelowZero_4 : decode cX4_countLiveBelowZero 4 = .ok (.iload_n 2, 1) := by decide +kernel
theorem dX4_countLiveBelowZero_5 : decode cX4_countLiveBelowZero 5 = .ok (.aload_n 0, 1) := by decide +kernel
theorem dX4_countLiveBelowZero_6 : decode cX4_countLiveBelowZero 6 = .ok (.getfield 37, 3) := by decide +kernel
theorem dX4_countLiveBelowZero_9 : decode cX4_countLiveBelowZero 9 = .ok (.if_icmp .ge 38, 3) := by decide +kernel
theorem dX4_countLiveBelowZero_12 : decode cX4_countLiveBelowZero 12 = .ok (.aload_n 0, 1) := by decide +kernel
theorem dX4_countLiveBelowZero_13 : decode cX4_countLiveBelowZero 13 = .ok (.getfield 11, 3) := by decide +kernel
theorem dX4_countLiveBelowZero_16 : decode cX4_countLiveBelowZero 16 = .ok (.iload_n 2, 1) := by decide +kernel
theorem dX4_countLiveBelowZero_17 : decode cX4_countLiveBelowZero 17 = .ok (.aaload, 1) := by decide +kernel
theorem dX4_countLiveBelowZero_18 : decode cX4_countLiveBelowZero 18 = .ok (.getfield 127, 3) := by decide +kernel
theorem dX4_countLiveBelowZero_21 : decode cX4_countLiveBelowZero 21 = .ok (.ifCond .ne 20, 3) := by decide +kernel
theorem dX4_countLiveBelowZero_24 : decode cX4_countLiveBelowZero 24 = .ok (.aload_n 0, 1) := by decide +kernel
theorem dX4_countLiveBelowZero_25 : decode cX4_countLiveBelowZero 25 = .ok (.getfield 11, 3) := by decide +kernel
theorem dX4_countLiveBelowZero_28 : decode cX4_countLiveBelowZero 28 = .ok (.iload_n 2, 1) := by decide +kernel
theorem dX4_countLiveBelowZero_29 : decode cX4_countLiveBelowZero 29 = .ok (.aaload, 1) := by decide +kernel
theorem dX4_countLiveBelowZero_30 : decode cX4_countLiveBelowZero 30 = .ok (.getfield 105, 3) := by decide +kernel
theorem dX4_countLiveBelowZero_33 : decode cX4_countLiveBelowZero 33 = .ok (.lconst 0, 1) := by decide +kernel
theorem dX4_countLiveBelowZero_34 : decode cX4_countLiveBelowZero 34 = .ok (.lcmp, 1) := by decide +kernel
theorem dX4_countLiveBelowZero_35 : decode cX4_countLiveBelowZero 35 = .ok (.ifCond .ge 6, 3) := by decide +kernel
theorem dX4_countLiveBelowZero_38 : decode cX4_countLiveBelowZero 38 = .ok (.iinc 1 1, 3) := by decide +kernel
theorem dX4_countLiveBelowZero_41 : decode cX4_countLiveBelowZero 41 = .ok (.iinc 2 1, 3) := by decide +kernel
theorem dX4_countLiveBelowZero_44 : decode cX4_countLiveBelowZero 44 = .ok (.goto (-40), 3) := by decide +kernel
theorem dX4_countLiveBelowZero_47 : decode cX4_countLiveBelowZero 47 = .ok (.iload_n 1, 1) := by decide +kernel
theorem dX4_countLiveBelowZero_48 : decode cX4_countLiveBelowZero 48 = .ok (.ireturn, 1) := by decide +kernel
theorem dX4_marginOf_0 : decode cX4_marginOf 0 = .ok (.lconst 0, 1) := by decide +kernel
theorem dX4_marginOf_1 : decode cX4_marginOf 1 = .ok (.lstore_n 2, 1) := by decide +kernel
theorem dX4_marginOf_2 : decode cX4_marginOf 2 = .ok (.iconst 0, 1) := by decide +kernel
theorem dX4_marginOf_3 : decode cX4_marginOf 3 = .ok (.istore 4, 2) := by decide +kernel
theorem dX4_marginOf_5 : decode cX4_marginOf 5 = .ok (.iload 4, 2) := by decide +kernel
theorem dX4_marginOf_7 : decode cX4_marginOf 7 = .ok (.bipush 8, 2) := by decide +kernel
theorem dX4_marginOf_9 : decode cX4_marginOf 9 = .ok (.if_icmp .ge 26, 3) := by decide +kernel
theorem dX4_marginOf_12 : decode cX4_marginOf 12 = .ok (.lload_n 2, 1) := by decide +kernel
theorem dX4_marginOf_13 : decode cX4_marginOf 13 = .ok (.aload_n 0, 1) := by decide +kernel
theorem dX4_marginOf_14 : decode cX4_marginOf 14 = .ok (.aload_n 0, 1) := by decide +kernel
theorem dX4_marginOf_15 : decode cX4_marginOf 15 = .ok (.getfield 23, 3) := by decide +kernel
theorem dX4_marginOf_18 : decode cX4_marginOf 18 = .ok (.iload 4, 2) := by decide +kernel
theorem dX4_marginOf_20 : decode cX4_marginOf 20 = .ok (.aaload, 1) := by decide +kernel
theorem dX4_marginOf_21 : decode cX4_marginOf 21 = .ok (.aload_n 1, 1) := by decide +kernel
theorem dX4_marginOf_22 : decode cX4_marginOf 22 = .ok (.invokevirtual 170, 3) := by decide +kernel
theorem dX4_marginOf_25 : decode cX4_marginOf 25 = .ok (.invokestatic 174, 3) := by decide +kernel
theorem dX4_marginOf_28 : decode cX4_marginOf 28 = .ok (.lstore_n 2, 1) := by decide +kernel
theorem dX4_marginOf_29 : decode cX4_marginOf 29 = .ok (.iinc 4 1, 3) := by decide +kernel
theorem dX4_marginOf_32 : decode cX4_marginOf 32 = .ok (.goto (-27), 3) := by decide +kernel
theorem dX4_marginOf_35 : decode cX4_marginOf 35 = .ok (.lload_n 2, 1) := by decide +kernel
theorem dX4_marginOf_36 : decode cX4_marginOf 36 = .ok (.aload_n 0, 1) := by decide +kernel
theorem dX4_marginOf_37 : decode cX4_marginOf 37 = .ok (.aload_n 1, 1) := by decide +kernel
theorem dX4_marginOf_38 : decode cX4_marginOf 38 = .ok (.invokevirtual 180, 3) := by decide +kernel
theorem dX4_marginOf_41 : decode cX4_marginOf 41 = .ok (.ladd, 1) := by decide +kernel
theorem dX4_marginOf_42 : decode cX4_marginOf 42 = .ok (.lreturn, 1) := by decide +kernel
theorem dX4_lossUnder_0 : decode cX4_lossUnder 0 = .ok (.lconst 0, 1) := by decide +kernel
theorem dX4_lossUnder_1 : decode cX4_lossUnder 1 = .ok (.lstore_n 3, 1) := by decide +kernel
theorem dX4_lossUnder_2 : decode cX4_lossUnder 2 = .ok (.iconst 0, 1) := by decide +kernel
theorem dX4_lossUnder_3 : decode cX4_lossUnder 3 = .ok (.istore 5, 2) := by decide +kernel
theorem dX4_lossUnder_5 : decode cX4_lossUnder 5 = .ok (.iload 5, 2) := by decide +kernel
theorem dX4_lossUnder_7 : decode cX4_lossUnder 7 = .ok (.aload_n 0, 1) := by decide +kernel
theorem dX4_lossUnder_8 : decode cX4_lossUnder 8 = .ok (.getfield 41, 3) := by decide +kernel
theorem dX4_lossUnder_11 : decode cX4_lossUnder 11 = .ok (.if_icmp .ge 26, 3) := by decide +kernel
theorem dX4_lossUnder_14 : decode cX4_lossUnder 14 = .ok (.lload_n 3, 1) := by decide +kernel
theorem dX4_lossUnder_15 : decode cX4_lossUnder 15 = .ok (.aload_n 2, 1) := by decide +kernel
theorem dX4_lossUnder_16 : decode cX4_lossUnder 16 = .ok (.getfield 114, 3) := by decide +kernel
theorem dX4_lossUnder_19 : decode cX4_lossUnder 19 = .ok (.iload 5, 2) := by decide +kernel
theorem dX4_lossUnder_21 : decode cX4_lossUnder 21 = .ok (.iaload, 1) := by decide +kernel
theorem dX4_lossUnder_22 : decode cX4_lossUnder 22 = .ok (.i2l, 1) := by decide +kernel
theorem dX4_lossUnder_23 : decode cX4_lossUnder 23 = .ok (.aload_n 1, 1) := by decide +kernel
theorem dX4_lossUnder_24 : decode cX4_lossUnder 24 = .ok (.iload 5, 2) := by decide +kernel
theorem dX4_lossUnder_26 : decode cX4_lossUnder 26 = .ok (.iaload, 1) := by decide +kernel
theorem dX4_lossUnder_27 : decode cX4_lossUnder 27 = .ok (.i2l, 1) := by decide +kernel
theorem dX4_lossUnder_28 : decode cX4_lossUnder 28 = .ok (.lmul, 1) := by decide +kernel
theorem dX4_lossUnder_29 : decode cX4_lossUnder 29 = .ok (.ladd, 1) := by decide +kernel
theorem dX4_lossUnder_30 : decode cX4_lossUnder 30 = .ok (.lstore_n 3, 1) := by decide +kernel
theorem dX4_lossUnder_31 : decode cX4_lossUnder 31 = .ok (.iinc 5 1, 3) := by decide +kernel
theorem dX4_lossUnder_34 : decode cX4_lossUnder 34 = .ok (.goto (-29), 3) := by decide +kernel
theorem dX4_lossUnder_37 : decode cX4_lossUnder 37 = .ok (.lload_n 3, 1) := by decide +kernel
theorem dX4_lossUnder_38 : decode cX4_lossUnder 38 = .ok (.lneg, 1) := by decide +kernel
theorem dX4_lossUnder_39 : decode cX4_lossUnder 39 = .ok (.lreturn, 1) := by decide +kernel
theorem dX4_extraOf_0 : decode cX4_extraOf 0 = .ok (.lconst 0, 1) := by decide +kernel
theorem dX4_extraOf_1 : decode cX4_extraOf 1 = .ok (.lstore_n 2, 1) := by decide +kernel
theorem dX4_extraOf_2 : decode cX4_extraOf 2 = .ok (.iconst 0, 1) := by decide +kernel
theorem dX4_extraOf_3 : decode cX4_extraOf 3 = .ok (.istore 4, 2) := by decide +kernel
theorem dX4_extraOf_5 : decode cX4_extraOf 5 = .ok (.iload 4, 2) := by decide +kernel
theorem dX4_extraOf_7 : decode cX4_extraOf 7 = .ok (.aload_n 0, 1) := by decide +kernel
theorem dX4_extraOf_8 : decode cX4_extraOf 8 = .ok (.getfield 41, 3) := by decide +kernel
theorem dX4_extraOf_11 : decode cX4_extraOf 11 = .ok (.if_icmp .ge 55, 3) := by decide +kernel
theorem dX4_extraOf_14 : decode cX4_extraOf 14 = .ok (.aload_n 1, 1) := by decide +kernel
theorem dX4_extraOf_15 : decode cX4_extraOf 15 = .ok (.getfield 114, 3) := by decide +kernel
theorem dX4_extraOf_18 : decode cX4_extraOf 18 = .ok (.iload 4, 2) := by decide +kernel
theorem dX4_extraOf_20 : decode cX4_extraOf 20 = .ok (.iaload, 1) := by decide +kernel
theorem dX4_extraOf_21 : decode cX4_extraOf 21 = .ok (.invokestatic 183, 3) := by decide +kernel
theorem dX4_extraOf_24 : decode cX4_extraOf 24 = .ok (.aload_n 0, 1) := by decide +kernel
theorem dX4_extraOf_25 : decode cX4_extraOf 25 = .ok (.getfield 17, 3) := by decide +kernel
theorem dX4_extraOf_28 : decode cX4_extraOf 28 = .ok (.iload 4, 2) := by decide +kernel
theorem dX4_extraOf_30 : decode cX4_extraOf 30 = .ok (.aaload, 1) := by decide +kernel
theorem dX4_extraOf_31 : decode cX4_extraOf 31 = .ok (.getfield 74, 3) := by decide +kernel
theorem dX4_extraOf_34 : decode cX4_extraOf 34 = .ok (.isub, 1) := by decide +kernel
theorem dX4_extraOf_35 : decode cX4_extraOf 35 = .ok (.istore 5, 2) := by decide +kernel
theorem dX4_extraOf_37 : decode cX4_extraOf 37 = .ok (.iload 5, 2) := by decide +kernel
theorem dX4_extraOf_39 : decode cX4_extraOf 39 = .ok (.ifCond .le 21, 3) := by decide +kernel
theorem dX4_extraOf_42 : decode cX4_extraOf 42 = .ok (.lload_n 2, 1) := by decide +kernel
theorem dX4_extraOf_43 : decode cX4_extraOf 43 = .ok (.iload 5, 2) := by decide +kernel
theorem dX4_extraOf_45 : decode cX4_extraOf 45 = .ok (.i2l, 1) := by decide +kernel
theorem dX4_extraOf_46 : decode cX4_extraOf 46 = .ok (.aload_n 0, 1) := by decide +kernel
theorem dX4_extraOf_47 : decode cX4_extraOf 47 = .ok (.getfield 17, 3) := by decide +kernel
theorem dX4_extraOf_50 : decode cX4_extraOf 50 = .ok (.iload 4, 2) := by decide +kernel
theorem dX4_extraOf_52 : decode cX4_extraOf 52 = .ok (.aaload, 1) := by decide +kernel
theorem dX4_extraOf_53 : decode cX4_extraOf 53 = .ok (.getfield 77, 3) := by decide +kernel
theorem dX4_extraOf_56 : decode cX4_extraOf 56 = .ok (.i2l, 1) := by decide +kernel
theorem dX4_extraOf_57 : decode cX4_extraOf 57 = .ok (.lmul, 1) := by decide +kernel
theorem dX4_extraOf_58 : decode cX4_extraOf 58 = .ok (.ladd, 1) := by decide +kernel
theorem dX4_extraOf_59 : decode cX4_extraOf 59 = .ok (.lstore_n 2, 1) := by decide +kernel
theorem dX4_extraOf_60 : decode cX4_extraOf 60 = .ok (.iinc 4 1, 3) := by decide +kernel
theorem dX4_extraOf_63 : decode cX4_extraOf 63 = .ok (.goto (-58), 3) := by decide +kernel
theorem dX4_extraOf_66 : decode cX4_extraOf 66 = .ok (.lload_n 2, 1) := by decide +kernel
theorem dX4_extraOf_67 : decode cX4_extraOf 67 = .ok (.lreturn, 1) := by decide +kernel
theorem dX4_shortfallOf_0 : decode cX4_shortfallOf 0 = .ok (.aload_n 1, 1) := by decide +kernel
theorem dX4_shortfallOf_1 : decode cX4_shortfallOf 1 = .ok (.getfield 127, 3) := by decide +kernel
theorem dX4_shortfallOf_4 : decode cX4_shortfallOf 4 = .ok (.ifCond .eq 5, 3) := by decide +kernel
theorem dX4_shortfallOf_7 : decode cX4_shortfallOf 7 = .ok (.lconst 0, 1) := by decide +kernel
theorem dX4_shortfallOf_8 : decode cX4_shortfallOf 8 = .ok (.lreturn, 1) := by decide +kernel
theorem dX4_shortfallOf_9 : decode cX4_shortfallOf 9 = .ok (.lconst 0, 1) := by decide +kernel
theorem dX4_shortfallOf_10 : decode cX4_shortfallOf 10 = .ok (.aload_n 0, 1) := by decide +kernel
theorem dX4_shortfallOf_11 : decode cX4_shortfallOf 11 = .ok (.aload_n 1, 1) := by decide +kernel
theorem dX4_shortfallOf_12 : decode cX4_shortfallOf 12 = .ok (.invokevirtual 108, 3) := by decide +kernel
theorem dX4_shortfallOf_15 : decode cX4_shortfallOf 15 = .ok (.aload_n 1, 1) := by decide +kernel
theorem dX4_shortfallOf_16 : decode cX4_shortfallOf 16 = .ok (.getfield 105, 3) := by decide +kernel
theorem dX4_shortfallOf_19 : decode cX4_shortfallOf 19 = .ok (.lsub, 1) := by decide +kernel
theorem dX4_shortfallOf_20 : decode cX4_shortfallOf 20 = .ok (.invokestatic 174, 3) := by decide +kernel
theorem dX4_shortfallOf_23 : decode cX4_shortfallOf 23 = .ok (.lreturn, 1) := by decide +kernel
theorem dX4_sumCash_0 : decode cX4_sumCash 0 = .ok (.lconst 0, 1) := by decide +kernel
theorem dX4_sumCash_1 : decode cX4_sumCash 1 = .ok (.lstore_n 1, 1) := by decide +kernel
theorem dX4_sumCash_2 : decode cX4_sumCash 2 = .ok (.iconst 0, 1) := by decide +kernel
theorem dX4_sumCash_3 : decode cX4_sumCash 3 = .ok (.istore_n 3, 1) := by decide +kernel
theorem dX4_sumCash_4 : decode cX4_sumCash 4 = .ok (.iload_n 3, 1) := by decide +kernel
theorem dX4_sumCash_5 : decode cX4_sumCash 5 = .ok (.aload_n 0, 1) := by decide +kernel
theorem dX4_sumCash_6 : decode cX4_sumCash 6 = .ok (.getfield 37, 3) := by decide +kernel
theorem dX4_sumCash_9 : decode cX4_sumCash 9 = .ok (.if_icmp .ge 21, 3) := by decide +kernel
theorem dX4_sumCash_12 : decode cX4_sumCash 12 = .ok (.lload_n 1, 1) := by decide +kernel
theorem dX4_sumCash_13 : decode cX4_sumCash 13 = .ok (.aload_n 0, 1) := by decide +kernel
theorem dX4_sumCash_14 : decode cX4_sumCash 14 = .ok (.getfield 11, 3) := by decide +kernel
theorem dX4_sumCash_17 : decode cX4_sumCash 17 = .ok (.iload_n 3, 1) := by decide +kernel
theorem dX4_sumCash_18 : decode cX4_sumCash 18 = .ok (.aaload, 1) := by decide +kernel
theorem dX4_sumCash_19 : decode cX4_sumCash 19 = .ok (.getfield 105, 3) := by decide +kernel
theorem dX4_sumCash_22 : decode cX4_sumCash 22 = .ok (.ladd, 1) := by decide +kernel
theorem dX4_sumCash_23 : decode cX4_sumCash 23 = .ok (.lstore_n 1, 1) := by decide +kernel
theorem dX4_sumCash_24 : decode cX4_sumCash 24 = .ok (.iinc 3 1, 3) := by decide +kernel
theorem dX4_sumCash_27 : decode cX4_sumCash 27 = .ok (.goto (-23), 3) := by decide +kernel
theorem dX4_sumCash_30 : decode cX4_sumCash 30 = .ok (.lload_n 1, 1) := by decide +kernel
theorem dX4_sumCash_31 : decode cX4_sumCash 31 = .ok (.lreturn, 1) := by decide +kernel
theorem dX4_sumContributions_0 : decode cX4_sumContributions 0 = .ok (.lconst 0, 1) := by decide +kernel
theorem dX4_sumContributions_1 : decode cX4_sumContributions 1 = .ok (.lstore_n 1, 1) := by decide +kernel
theorem dX4_sumContributions_2 : decode cX4_sumContributions 2 = .ok (.iconst 0, 1) := by decide +kernel
theorem dX4_sumContributions_3 : decode cX4_sumContributions 3 = .ok (.istore_n 3, 1) := by decide +kernel
theorem dX4_sumContributions_4 : decode cX4_sumContributions 4 = .ok (.iload_n 3, 1) := by decide +kernel
theorem dX4_sumContributions_5 : decode cX4_sumContributions 5 = .ok (.aload_n 0, 1) := by decide +kernel
theorem dX4_sumContributions_6 : decode cX4_sumContributions 6 = .ok (.getfield 37, 3) := by decide +kernel
theorem dX4_sumContributions_9 : decode cX4_sumContributions 9 = .ok (.if_icmp .ge 21, 3) := by decide +kernel
theorem dX4_sumContributions_12 : decode cX4_sumContributions 12 = .ok (.lload_n 1, 1) := by decide +kernel
theorem dX4_sumContributions_13 : decode cX4_sumContributions 13 = .ok (.aload_n 0, 1) := by decide +kernel
theorem dX4_sumContributions_14 : decode cX4_sumContributions 14 = .ok (.getfield 11, 3) := by decide +kernel
theorem dX4_sumContributions_17 : decode cX4_sumContributions 17 = .ok (.iload_n 3, 1) := by decide +kernel
theorem dX4_sumContributions_18 : decode cX4_sumContributions 18 = .ok (.aaload, 1) := by decide +kernel
theorem dX4_sumContributions_19 : decode cX4_sumContributions 19 = .ok (.getfield 66, 3) := by decide +kernel
theorem dX4_sumContributions_22 : decode cX4_sumContributions 22 = .ok (.ladd, 1) := by decide +kernel
theorem dX4_sumContributions_23 : decode cX4_sumContributions 23 = .ok (.lstore_n 1, 1) := by decide +kernel
theorem dX4_sumContributions_24 : decode cX4_sumContributions 24 = .ok (.iinc 3 1, 3) := by decide +kernel
theorem dX4_sumContributions_27 : decode cX4_sumContributions 27 = .ok (.goto (-23), 3) := by decide +kernel
theorem dX4_sumContributions_30 : decode cX4_sumContributions 30 = .ok (.lload_n 1, 1) := by decide +kernel
theorem dX4_sumContributions_31 : decode cX4_sumContributions 31 = .ok (.lreturn, 1) := by decide +kernel
theorem dX4_sumUnitsOpen_0 : decode cX4_sumUnitsOpen 0 = .ok (.lconst 0, 1) := by decide +kernel
theorem dX4_sumUnitsOpen_1 : decode cX4_sumUnitsOpen 1 = .ok (.lstore_n 1, 1) := by decide +kernel
theorem dX4_sumUnitsOpen_2 : decode cX4_sumUnitsOpen 2 = .ok (.iconst 0, 1) := by decide +kernel
theorem dX4_sumUnitsOpen_3 : decode cX4_sumUnitsOpen 3 = .ok (.istore_n 3, 1) := by decide +kernel
theorem dX4_sumUnitsOpen_4 : decode cX4_sumUnitsOpen 4 = .ok (.iload_n 3, 1) := by decide +kernel
theorem dX4_sumUnitsOpen_5 : decode cX4_sumUnitsOpen 5 = .ok (.aload_n 0, 1) := by decide +kernel
theorem dX4_sumUnitsOpen_6 : decode cX4_sumUnitsOpen 6 = .ok (.getfield 37, 3) := by decide +kernel
theorem dX4_sumUnitsOpen_9 : decode cX4_sumUnitsOpen 9 = .ok (.if_icmp .ge 47, 3) := by decide +kernel
theorem dX4_sumUnitsOpen_12 : decode cX4_sumUnitsOpen 12 = .ok (.iconst 0, 1) := by decide +kernel
theorem dX4_sumUnitsOpen_13 : decode cX4_sumUnitsOpen 13 = .ok (.istore 4, 2) := by decide +kernel
theorem dX4_sumUnitsOpen_15 : decode cX4_sumUnitsOpen 15 = .ok (.iload 4, 2) := by decide +kernel
theorem dX4_sumUnitsOpen_17 : decode cX4_sumUnitsOpen 17 = .ok (.aload_n 0, 1) := by decide +kernel
theorem dX4_sumUnitsOpen_18 : decode cX4_sumUnitsOpen 18 = .ok (.getfield 41, 3) := by decide +kernel
theorem dX4_sumUnitsOpen_21 : decode cX4_sumUnitsOpen 21 = .ok (.if_icmp .ge 29, 3) := by decide +kernel
theorem dX4_sumUnitsOpen_24 : decode cX4_sumUnitsOpen 24 = .ok (.lload_n 1, 1) := by decide +kernel
theorem dX4_sumUnitsOpen_25 : decode cX4_sumUnitsOpen 25 = .ok (.iconst 0, 1) := by decide +kernel
theorem dX4_sumUnitsOpen_26 : decode cX4_sumUnitsOpen 26 = .ok (.aload_n 0, 1) := by decide +kernel
theorem dX4_sumUnitsOpen_27 : decode cX4_sumUnitsOpen 27 = .ok (.getfield 11, 3) := by decide +kernel
theorem dX4_sumUnitsOpen_30 : decode cX4_sumUnitsOpen 30 = .ok (.iload_n 3, 1) := by decide +kernel
theorem dX4_sumUnitsOpen_31 : decode cX4_sumUnitsOpen 31 = .ok (.aaload, 1) := by decide +kernel
theorem dX4_sumUnitsOpen_32 : decode cX4_sumUnitsOpen 32 = .ok (.getfield 114, 3) := by decide +kernel
theorem dX4_sumUnitsOpen_35 : decode cX4_sumUnitsOpen 35 = .ok (.iload 4, 2) := by decide +kernel
theorem dX4_sumUnitsOpen_37 : decode cX4_sumUnitsOpen 37 = .ok (.iaload, 1) := by decide +kernel
theorem dX4_sumUnitsOpen_38 : decode cX4_sumUnitsOpen 38 = .ok (.invokestatic 187, 3) := by decide +kernel
theorem dX4_sumUnitsOpen_41 : decode cX4_sumUnitsOpen 41 = .ok (.i2l, 1) := by decide +kernel
theorem dX4_sumUnitsOpen_42 : decode cX4_sumUnitsOpen 42 = .ok (.ladd, 1) := by decide +kernel
theorem dX4_sumUnitsOpen_43 : decode cX4_sumUnitsOpen 43 = .ok (.lstore_n 1, 1) := by decide +kernel
theorem dX4_sumUnitsOpen_44 : decode cX4_sumUnitsOpen 44 = .ok (.iinc 4 1, 3) := by decide +kernel
theorem dX4_sumUnitsOpen_47 : decode cX4_sumUnitsOpen 47 = .ok (.goto (-32), 3) := by decide +kernel
theorem dX4_sumUnitsOpen_50 : decode cX4_sumUnitsOpen 50 = .ok (.iinc 3 1, 3) := by decide +kernel
theorem dX4_sumUnitsOpen_53 : decode cX4_sumUnitsOpen 53 = .ok (.goto (-49), 3) := by decide +kernel
theorem dX4_sumUnitsOpen_56 : decode cX4_sumUnitsOpen 56 = .ok (.lload_n 1, 1) := by decide +kernel
theorem dX4_sumUnitsOpen_57 : decode cX4_sumUnitsOpen 57 = .ok (.lreturn, 1) := by decide +kernel
theorem dX4_startPlan_0 : decode cX4_startPlan 0 = .ok (.iconst 0, 1) := by decide +kernel
theorem dX4_startPlan_1 : decode cX4_startPlan 1 = .ok (.istore_n 1, 1) := by decide +kernel
theorem dX4_startPlan_2 : decode cX4_startPlan 2 = .ok (.iload_n 1, 1) := by decide +kernel
theorem dX4_startPlan_3 : decode cX4_startPlan 3 = .ok (.aload_n 0, 1) := by decide +kernel
theorem dX4_startPlan_4 : decode cX4_startPlan 4 = .ok (.getfield 37, 3) := by decide +kernel
theorem dX4_startPlan_7 : decode cX4_startPlan 7 = .ok (.if_icmp .ge 45, 3) := by decide +kernel
theorem dX4_startPlan_10 : decode cX4_startPlan 10 = .ok (.aload_n 0, 1) := by decide +kernel
theorem dX4_startPlan_11 : decode cX4_startPlan 11 = .ok (.getfield 33, 3) := by decide +kernel
theorem dX4_startPlan_14 : decode cX4_startPlan 14 = .ok (.getfield 190, 3) := by decide +kernel
theorem dX4_startPlan_17 : decode cX4_startPlan 17 = .ok (.iload_n 1, 1) := by decide +kernel
theorem dX4_startPlan_18 : decode cX4_startPlan 18 = .ok (.aload_n 0, 1) := by decide +kernel
theorem dX4_startPlan_19 : decode cX4_startPlan 19 = .ok (.getfield 11, 3) := by decide +kernel
theorem dX4_startPlan_22 : decode cX4_startPlan 22 = .ok (.iload_n 1, 1) := by decide +kernel
theorem dX4_startPlan_23 : decode cX4_startPlan 23 = .ok (.aaload, 1) := by decide +kernel
theorem dX4_startPlan_24 : decode cX4_startPlan 24 = .ok (.getfield 105, 3) := by decide +kernel
theorem dX4_startPlan_27 : decode cX4_startPlan 27 = .ok (.lastore, 1) := by decide +kernel
theorem dX4_startPlan_28 : decode cX4_startPlan 28 = .ok (.aload_n 0, 1) := by decide +kernel
theorem dX4_startPlan_29 : decode cX4_startPlan 29 = .ok (.getfield 33, 3) := by decide +kernel
theorem dX4_startPlan_32 : decode cX4_startPlan 32 = .ok (.getfield 192, 3) := by decide +kernel
theorem dX4_startPlan_35 : decode cX4_startPlan 35 = .ok (.iload_n 1, 1) := by decide +kernel
theorem dX4_startPlan_36 : decode cX4_startPlan 36 = .ok (.aload_n 0, 1) := by decide +kernel
theorem dX4_startPlan_37 : decode cX4_startPlan 37 = .ok (.getfield 11, 3) := by decide +kernel
theorem dX4_startPlan_40 : decode cX4_startPlan 40 = .ok (.iload_n 1, 1) := by decide +kernel
theorem dX4_startPlan_41 : decode cX4_startPlan 41 = .ok (.aaload, 1) := by decide +kernel
theorem dX4_startPlan_42 : decode cX4_startPlan 42 = .ok (.getfield 66, 3) := by decide +kernel
theorem dX4_startPlan_45 : decode cX4_startPlan 45 = .ok (.lastore, 1) := by decide +kernel
theorem dX4_startPlan_46 : decode cX4_startPlan 46 = .ok (.iinc 1 1, 3) := by decide +kernel
theorem dX4_startPlan_49 : decode cX4_startPlan 49 = .ok (.goto (-47), 3) := by decide +kernel
theorem dX4_startPlan_52 : decode cX4_startPlan 52 = .ok (.aload_n 0, 1) := by decide +kernel
theorem dX4_startPlan_53 : decode cX4_startPlan 53 = .ok (.getfield 33, 3) := by decide +kernel
theorem dX4_startPlan_56 : decode cX4_startPlan 56 = .ok (.aload_n 0, 1) := by decide +kernel
theorem dX4_startPlan_57 : decode cX4_startPlan 57 = .ok (.getfield 47, 3) := by decide +kernel
theorem dX4_startPlan_60 : decode cX4_startPlan 60 = .ok (.putfield 194, 3) := by decide +kernel
theorem dX4_startPlan_63 : decode cX4_startPlan 63 = .ok (.return_, 1) := by decide +kernel
theorem dX4_planTakers_0 : decode cX4_planTakers 0 = .ok (.iconst 0, 1) := by decide +kernel
theorem dX4_planTakers_1 : decode cX4_planTakers 1 = .ok (.istore_n 2, 1) := by decide +kernel
theorem dX4_planTakers_2 : decode cX4_planTakers 2 = .ok (.iload_n 2, 1) := by decide +kernel
theorem dX4_planTakers_3 : decode cX4_planTakers 3 = .ok (.aload_n 0, 1) := by decide +kernel
theorem dX4_planTakers_4 : decode cX4_planTakers 4 = .ok (.getfield 41, 3) := by decide +kernel
theorem dX4_planTakers_7 : decode cX4_planTakers 7 = .ok (.if_icmp .ge 56, 3) := by decide +kernel
theorem dX4_planTakers_10 : decode cX4_planTakers 10 = .ok (.aload_n 0, 1) := by decide +kernel
theorem dX4_planTakers_11 : decode cX4_planTakers 11 = .ok (.getfield 33, 3) := by decide +kernel
theorem dX4_planTakers_14 : decode cX4_planTakers 14 = .ok (.getfield 197, 3) := by decide +kernel
theorem dX4_planTakers_17 : decode cX4_planTakers 17 = .ok (.iload_n 2, 1) := by decide +kernel
theorem dX4_planTakers_18 : decode cX4_planTakers 18 = .ok (.iconst (-1), 1) := by decide +kernel
theorem dX4_planTakers_19 : decode cX4_planTakers 19 = .ok (.iastore, 1) := by decide +kernel
theorem dX4_planTakers_20 : decode cX4_planTakers 20 = .ok (.aload_n 0, 1) := by decide +kernel
theorem dX4_planTakers_21 : decode cX4_planTakers 21 = .ok (.getfield 11, 3) := by decide +kernel
theorem dX4_planTakers_24 : decode cX4_planTakers 24 = .ok (.iload_n 1, 1) := by decide +kernel
theorem dX4_planTakers_25 : decode cX4_planTakers 25 = .ok (.aaload, 1) := by decide +kernel
theorem dX4_planTakers_26 : decode cX4_planTakers 26 = .ok (.getfield 114, 3) := by decide +kernel
theorem dX4_planTakers_29 : decode cX4_planTakers 29 = .ok (.iload_n 2, 1) := by decide +kernel
theorem dX4_planTakers_30 : decode cX4_planTakers 30 = .ok (.iaload, 1) := by decide +kernel
theorem dX4_planTakers_31 : decode cX4_planTakers 31 = .ok (.ifCond .eq 26, 3) := by decide +kernel
theorem dX4_planTakers_34 : decode cX4_planTakers 34 = .ok (.aload_n 0, 1) := by decide +kernel
theorem dX4_planTakers_35 : decode cX4_planTakers 35 = .ok (.iload_n 2, 1) := by decide +kernel
theorem dX4_planTakers_36 : decode cX4_planTakers 36 = .ok (.invokevirtual 200, 3) := by decide +kernel
theorem dX4_planTakers_39 : decode cX4_planTakers 39 = .ok (.istore_n 3, 1) := by decide +kernel
theorem dX4_planTakers_40 : decode cX4_planTakers 40 = .ok (.iload_n 3, 1) := by decide +kernel
theorem dX4_planTakers_41 : decode cX4_planTakers 41 = .ok (.iconst (-1), 1) := by decide +kernel
theorem dX4_planTakers_42 : decode cX4_planTakers 42 = .ok (.if_icmp .eq 13, 3) := by decide +kernel
theorem dX4_planTakers_45 : decode cX4_planTakers 45 = .ok (.aload_n 0, 1) := by decide +kernel
theorem dX4_planTakers_46 : decode cX4_planTakers 46 = .ok (.iload_n 1, 1) := by decide +kernel
theorem dX4_planTakers_47 : decode cX4_planTakers 47 = .ok (.iload_n 3, 1) := by decide +kernel
theorem dX4_planTakers_48 : decode cX4_planTakers 48 = .ok (.iload_n 2, 1) := by decide +kernel
theorem dX4_planTakers_49 : decode cX4_planTakers 49 = .ok (.invokevirtual 203, 3) := by decide +kernel
theorem dX4_planTakers_52 : decode cX4_planTakers 52 = .ok (.ifCond .ne 5, 3) := by decide +kernel
theorem dX4_planTakers_55 : decode cX4_planTakers 55 = .ok (.iconst 0, 1) := by decide +kernel
theorem dX4_planTakers_56 : decode cX4_planTakers 56 = .ok (.ireturn, 1) := by decide +kernel
theorem dX4_planTakers_57 : decode cX4_planTakers 57 = .ok (.iinc 2 1, 3) := by decide +kernel
theorem dX4_planTakers_60 : decode cX4_planTakers 60 = .ok (.goto (-58), 3) := by decide +kernel
theorem dX4_planTakers_63 : decode cX4_planTakers 63 = .ok (.iconst 1, 1) := by decide +kernel
theorem dX4_planTakers_64 : decode cX4_planTakers 64 = .ok (.ireturn, 1) := by decide +kernel
theorem dX4_leastBidder_0 : decode cX4_leastBidder 0 = .ok (.iconst (-1), 1) := by decide +kernel
theorem dX4_leastBidder_1 : decode cX4_leastBidder 1 = .ok (.istore_n 2, 1) := by decide +kernel
theorem dX4_leastBidder_2 : decode cX4_leastBidder 2 = .ok (.iconst 0, 1) := by decide +kernel
theorem dX4_leastBidder_3 : decode cX4_leastBidder 3 = .ok (.istore_n 3, 1) := by decide +kernel
theorem dX4_leastBidder_4 : decode cX4_leastBidder 4 = .ok (.iload_n 3, 1) := by decide +kernel
theorem dX4_leastBidder_5 : decode cX4_leastBidder 5 = .ok (.aload_n 0, 1) := by decide +kernel
theorem dX4_leastBidder_6 : decode cX4_leastBidder 6 = .ok (.getfield 37, 3) := by decide +kernel
theorem dX4_leastBidder_9 : decode cX4_leastBidder 9 = .ok (.if_icmp .ge 53, 3) := by decide +kernel
theorem dX4_leastBidder_12 : decode cX4_leastBidder 12 = .ok (.aload_n 0, 1) := by decide +kernel
theorem dX4_leastBidder_13 : decode cX4_leastBidder 13 = .ok (.getfield 11, 3) := by decide +kernel
theorem dX4_leastBidder_16 : decode cX4_leastBidder 16 = .ok (.iload_n 3, 1) := by decide +kernel
theorem dX4_leastBidder_17 : decode cX4_leastBidder 17 = .ok (.aaload, 1) := by decide +kernel
theorem dX4_leastBidder_18 : decode cX4_leastBidder 18 = .ok (.getfield 127, 3) := by decide +kernel
theorem dX4_leastBidder_21 : decode cX4_leastBidder 21 = .ok (.ifCond .ne 35, 3) := by decide +kernel
theorem dX4_leastBidder_24 : decode cX4_leastBidder 24 = .ok (.iload_n 2, 1) := by decide +kernel
theorem dX4_leastBidder_25 : decode cX4_leastBidder 25 = .ok (.iconst (-1), 1) := by decide +kernel
theorem dX4_leastBidder_26 : decode cX4_leastBidder 26 = .ok (.if_icmp .eq 28, 3) := by decide +kernel
theorem dX4_leastBidder_29 : decode cX4_leastBidder 29 = .ok (.aload_n 0, 1) := by decide +kernel
theorem dX4_leastBidder_30 : decode cX4_leastBidder 30 = .ok (.getfield 11, 3) := by decide +kernel
theorem dX4_leastBidder_33 : decode cX4_leastBidder 33 = .ok (.iload_n 3, 1) := by decide +kernel
theorem dX4_leastBidder_34 : decode cX4_leastBidder 34 = .ok (.aaload, 1) := by decide +kernel
theorem dX4_leastBidder_35 : decode cX4_leastBidder 35 = .ok (.getfield 97, 3) := by decide +kernel
theorem dX4_leastBidder_38 : decode cX4_leastBidder 38 = .ok (.iload_n 1, 1) := by decide +kernel
theorem dX4_leastBidder_39 : decode cX4_leastBidder 39 = .ok (.iaload, 1) := by decide +kernel
theorem dX4_leastBidder_40 : decode cX4_leastBidder 40 = .ok (.aload_n 0, 1) := by decide +kernel
theorem dX4_leastBidder_41 : decode cX4_leastBidder 41 = .ok (.getfield 11, 3) := by decide +kernel
theorem dX4_leastBidder_44 : decode cX4_leastBidder 44 = .ok (.iload_n 2, 1) := by decide +kernel
theorem dX4_leastBidder_45 : decode cX4_leastBidder 45 = .ok (.aaload, 1) := by decide +kernel
theorem dX4_leastBidder_46 : decode cX4_leastBidder 46 = .ok (.getfield 97, 3) := by decide +kernel
theorem dX4_leastBidder_49 : decode cX4_leastBidder 49 = .ok (.iload_n 1, 1) := by decide +kernel
theorem dX4_leastBidder_50 : decode cX4_leastBidder 50 = .ok (.iaload, 1) := by decide +kernel
theorem dX4_leastBidder_51 : decode cX4_leastBidder 51 = .ok (.if_icmp .ge 5, 3) := by decide +kernel
theorem dX4_leastBidder_54 : decode cX4_leastBidder 54 = .ok (.iload_n 3, 1) := by decide +kernel
theorem dX4_leastBidder_55 : decode cX4_leastBidder 55 = .ok (.istore_n 2, 1) := by decide +kernel
theorem dX4_leastBidder_56 : decode cX4_leastBidder 56 = .ok (.iinc 3 1, 3) := by decide +kernel
theorem dX4_leastBidder_59 : decode cX4_leastBidder 59 = .ok (.goto (-55), 3) := by decide +kernel
theorem dX4_leastBidder_62 : decode cX4_leastBidder 62 = .ok (.iload_n 2, 1) := by decide +kernel
theorem dX4_leastBidder_63 : decode cX4_leastBidder 63 = .ok (.ireturn, 1) := by decide +kernel
theorem dX4_planTaking_0 : decode cX4_planTaking 0 = .ok (.aload_n 0, 1) := by decide +kernel
theorem dX4_planTaking_1 : decode cX4_planTaking 1 = .ok (.getfield 11, 3) := by decide +kernel
theorem dX4_planTaking_4 : decode cX4_planTaking 4 = .ok (.iload_n 1, 1) := by decide +kernel
theorem dX4_planTaking_5 : decode cX4_planTaking 5 = .ok (.aaload, 1) := by decide +kernel
theorem dX4_planTaking_6 : decode cX4_planTaking 6 = .ok (.getfield 114, 3) := by decide +kernel
theorem dX4_planTaking_9 : decode cX4_planTaking 9 = .ok (.iload_n 3, 1) := by decide +kernel
theorem dX4_planTaking_10 : decode cX4_planTaking 10 = .ok (.iaload, 1) := by decide +kernel
theorem dX4_planTaking_11 : decode cX4_planTaking 11 = .ok (.istore 4, 2) := by decide +kernel
theorem dX4_planTaking_13 : decode cX4_planTaking 13 = .ok (.aload_n 0, 1) := by decide +kernel
theorem dX4_planTaking_14 : decode cX4_planTaking 14 = .ok (.getfield 11, 3) := by decide +kernel
theorem dX4_planTaking_17 : decode cX4_planTaking 17 = .ok (.iload_n 2, 1) := by decide +kernel
theorem dX4_planTaking_18 : decode cX4_planTaking 18 = .ok (.aaload, 1) := by decide +kernel
theorem dX4_planTaking_19 : decode cX4_planTaking 19 = .ok (.getfield 97, 3) := by decide +kernel
theorem dX4_planTaking_22 : decode cX4_planTaking 22 = .ok (.iload_n 3, 1) := by decide +kernel
theorem dX4_planTaking_23 : decode cX4_planTaking 23 = .ok (.iaload, 1) := by decide +kernel
theorem dX4_planTaking_24 : decode cX4_planTaking 24 = .ok (.i2l, 1) := by decide +kernel
theorem dX4_planTaking_25 : decode cX4_planTaking 25 = .ok (.iload 4, 2) := by decide +kernel
theorem dX4_planTaking_27 : decode cX4_planTaking 27 = .ok (.invokestatic 183, 3) := by decide +kernel
theorem dX4_planTaking_30 : decode cX4_planTaking 30 = .ok (.i2l, 1) := by decide +kernel
theorem dX4_planTaking_31 : decode cX4_planTaking 31 = .ok (.lmul, 1) := by decide +kernel
theorem dX4_planTaking_32 : decode cX4_planTaking 32 = .ok (.lstore 5, 2) := by decide +kernel
theorem dX4_planTaking_34 : decode cX4_planTaking 34 = .ok (.aload_n 0, 1) := by decide +kernel
theorem dX4_planTaking_35 : decode cX4_planTaking 35 = .ok (.getfield 33, 3) := by decide +kernel
theorem dX4_planTaking_38 : decode cX4_planTaking 38 = .ok (.getfield 197, 3) := by decide +kernel
theorem dX4_planTaking_41 : decode cX4_planTaking 41 = .ok (.iload_n 3, 1) := by decide +kernel
theorem dX4_planTaking_42 : decode cX4_planTaking 42 = .ok (.iload_n 2, 1) := by decide +kernel
theorem dX4_planTaking_43 : decode cX4_planTaking 43 = .ok (.iastore, 1) := by decide +kernel
theorem dX4_planTaking_44 : decode cX4_planTaking 44 = .ok (.aload_n 0, 1) := by decide +kernel
theorem dX4_planTaking_45 : decode cX4_planTaking 45 = .ok (.getfield 33, 3) := by decide +kernel
theorem dX4_planTaking_48 : decode cX4_planTaking 48 = .ok (.getfield 190, 3) := by decide +kernel
theorem dX4_planTaking_51 : decode cX4_planTaking 51 = .ok (.iload_n 2, 1) := by decide +kernel
theorem dX4_planTaking_52 : decode cX4_planTaking 52 = .ok (.dup2, 1) := by decide +kernel
theorem dX4_planTaking_53 : decode cX4_planTaking 53 = .ok (.laload, 1) := by decide +kernel
theorem dX4_planTaking_54 : decode cX4_planTaking 54 = .ok (.lload 5, 2) := by decide +kernel
theorem dX4_planTaking_56 : decode cX4_planTaking 56 = .ok (.ladd, 1) := by decide +kernel
theorem dX4_planTaking_57 : decode cX4_planTaking 57 = .ok (.lastore, 1) := by decide +kernel
theorem dX4_planTaking_58 : decode cX4_planTaking 58 = .ok (.aload_n 0, 1) := by decide +kernel
theorem dX4_planTaking_59 : decode cX4_planTaking 59 = .ok (.getfield 33, 3) := by decide +kernel
theorem dX4_planTaking_62 : decode cX4_planTaking 62 = .ok (.getfield 190, 3) := by decide +kernel
theorem dX4_planTaking_65 : decode cX4_planTaking 65 = .ok (.iload_n 1, 1) := by decide +kernel
theorem dX4_planTaking_66 : decode cX4_planTaking 66 = .ok (.dup2, 1) := by decide +kernel
theorem dX4_planTaking_67 : decode cX4_planTaking 67 = .ok (.laload, 1) := by decide +kernel
theorem dX4_planTaking_68 : decode cX4_planTaking 68 = .ok (.lload 5, 2) := by decide +kernel
theorem dX4_planTaking_70 : decode cX4_planTaking 70 = .ok (.lsub, 1) := by decide +kernel
theorem dX4_planTaking_71 : decode cX4_planTaking 71 = .ok (.lastore, 1) := by decide +kernel
theorem dX4_planTaking_72 : decode cX4_planTaking 72 = .ok (.aload_n 0, 1) := by decide +kernel
theorem dX4_planTaking_73 : decode cX4_planTaking 73 = .ok (.getfield 11, 3) := by decide +kernel
theorem dX4_planTaking_76 : decode cX4_planTaking 76 = .ok (.iload_n 2, 1) := by decide +kernel
theorem dX4_planTaking_77 : decode cX4_planTaking 77 = .ok (.aaload, 1) := by decide +kernel
theorem dX4_planTaking_78 : decode cX4_planTaking 78 = .ok (.getfield 114, 3) := by decide +kernel
theorem dX4_planTaking_81 : decode cX4_planTaking 81 = .ok (.iload_n 3, 1) := by decide +kernel
theorem dX4_planTaking_82 : decode cX4_planTaking 82 = .ok (.iaload, 1) := by decide +kernel
theorem dX4_planTaking_83 : decode cX4_planTaking 83 = .ok (.iload 4, 2) := by decide +kernel
theorem dX4_planTaking_85 : decode cX4_planTaking 85 = .ok (.iadd, 1) := by decide +kernel
theorem dX4_planTaking_86 : decode cX4_planTaking 86 = .ok (.invokestatic 117, 3) := by decide +kernel
theorem dX4_planTaking_89 : decode cX4_planTaking 89 = .ok (.ifCond .ne 37, 3) := by decide +kernel
theorem dX4_planTaking_92 : decode cX4_planTaking 92 = .ok (.aload_n 0, 1) := by decide +kernel
theorem dX4_planTaking_93 : decode cX4_planTaking 93 = .ok (.getfield 33, 3) := by decide +kernel
theorem dX4_planTaking_96 : decode cX4_planTaking 96 = .ok (.getfield 190, 3) := by decide +kernel
theorem dX4_planTaking_99 : decode cX4_planTaking 99 = .ok (.iload_n 2, 1) := by decide +kernel
theorem dX4_planTaking_100 : decode cX4_planTaking 100 = .ok (.laload, 1) := by decide +kernel
theorem dX4_planTaking_101 : decode cX4_planTaking 101 = .ok (.invokestatic 80, 3) := by decide +kernel
theorem dX4_planTaking_104 : decode cX4_planTaking 104 = .ok (.ifCond .ne 22, 3) := by decide +kernel
theorem dX4_planTaking_107 : decode cX4_planTaking 107 = .ok (.aload_n 0, 1) := by decide +kernel
theorem dX4_planTaking_108 : decode cX4_planTaking 108 = .ok (.getfield 33, 3) := by decide +kernel
theorem dX4_planTaking_111 : decode cX4_planTaking 111 = .ok (.getfield 190, 3) := by decide +kernel
theorem dX4_planTaking_114 : decode cX4_planTaking 114 = .ok (.iload_n 1, 1) := by decide +kernel
theorem dX4_planTaking_115 : decode cX4_planTaking 115 = .ok (.laload, 1) := by decide +kernel
theorem dX4_planTaking_116 : decode cX4_planTaking 116 = .ok (.invokestatic 80, 3) := by decide +kernel
theorem dX4_planTaking_119 : decode cX4_planTaking 119 = .ok (.ifCond .ne 7, 3) := by decide +kernel
theorem dX4_planTaking_122 : decode cX4_planTaking 122 = .ok (.iconst 1, 1) := by decide +kernel
theorem dX4_planTaking_123 : decode cX4_planTaking 123 = .ok (.goto 4, 3) := by decide +kernel
theorem dX4_planTaking_126 : decode cX4_planTaking 126 = .ok (.iconst 0, 1) := by decide +kernel
theorem dX4_planTaking_127 : decode cX4_planTaking 127 = .ok (.ireturn, 1) := by decide +kernel
theorem dX4_planLayers_0 : decode cX4_planLayers 0 = .ok (.aload_n 0, 1) := by decide +kernel
theorem dX4_planLayers_1 : decode cX4_planLayers 1 = .ok (.getfield 33, 3) := by decide +kernel
theorem dX4_planLayers_4 : decode cX4_planLayers 4 = .ok (.iload_n 1, 1) := by decide +kernel
theorem dX4_planLayers_5 : decode cX4_planLayers 5 = .ok (.invokevirtual 207, 3) := by decide +kernel
theorem dX4_planLayers_8 : decode cX4_planLayers 8 = .ok (.aload_n 0, 1) := by decide +kernel
theorem dX4_planLayers_9 : decode cX4_planLayers 9 = .ok (.getfield 33, 3) := by decide +kernel
theorem dX4_planLayers_12 : decode cX4_planLayers 12 = .ok (.iload_n 1, 1) := by decide +kernel
theorem dX4_planLayers_13 : decode cX4_planLayers 13 = .ok (.invokevirtual 210, 3) := by decide +kernel
theorem dX4_planLayers_16 : decode cX4_planLayers 16 = .ok (.aload_n 0, 1) := by decide +kernel
theorem dX4_planLayers_17 : decode cX4_planLayers 17 = .ok (.getfield 33, 3) := by decide +kernel
theorem dX4_planLayers_20 : decode cX4_planLayers 20 = .ok (.invokevirtual 213, 3) := by decide +kernel
theorem dX4_planLayers_23 : decode cX4_planLayers 23 = .ok (.aload_n 0, 1) := by decide +kernel
theorem dX4_planLayers_24 : decode cX4_planLayers 24 = .ok (.invokevirtual 216, 3) := by decide +kernel
theorem dX4_planLayers_27 : decode cX4_planLayers 27 = .ok (.aload_n 0, 1) := by decide +kernel
theorem dX4_planLayers_28 : decode cX4_planLayers 28 = .ok (.getfield 33, 3) := by decide +kernel
theorem dX4_planLayers_31 : decode cX4_planLayers 31 = .ok (.invokevirtual 219, 3) := by decide +kernel
theorem dX4_planLayers_34 : decode cX4_planLayers 34 = .ok (.aload_n 0, 1) := by decide +kernel
theorem dX4_planLayers_35 : decode cX4_planLayers 35 = .ok (.invokevirtual 222, 3) := by decide +kernel
theorem dX4_planLayers_38 : decode cX4_planLayers 38 = .ok (.aload_n 0, 1) := by decide +kernel
theorem dX4_planLayers_39 : decode cX4_planLayers 39 = .ok (.getfield 33, 3) := by decide +kernel
theorem dX4_planLayers_42 : decode cX4_planLayers 42 = .ok (.invokevirtual 225, 3) := by decide +kernel
theorem dX4_planLayers_45 : decode cX4_planLayers 45 = .ok (.aload_n 0, 1) := by decide +kernel
theorem dX4_planLayers_46 : decode cX4_planLayers 46 = .ok (.getfield 33, 3) := by decide +kernel
theorem dX4_planLayers_49 : decode cX4_planLayers 49 = .ok (.invokevirtual 228, 3) := by decide +kernel
theorem dX4_planLayers_52 : decode cX4_planLayers 52 = .ok (.return_, 1) := by decide +kernel
theorem dX4_weighContributions_0 : decode cX4_weighContributions 0 = .ok (.iconst 0, 1) := by decide +kernel
theorem dX4_weighContributions_1 : decode cX4_weighContributions 1 = .ok (.istore_n 1, 1) := by decide +kernel
theorem dX4_weighContributions_2 : decode cX4_weighContributions 2 = .ok (.iload_n 1, 1) := by decide +kernel
theorem dX4_weighContributions_3 : decode cX4_weighContributions 3 = .ok (.aload_n 0, 1) := by decide +kernel
theorem dX4_weighContributions_4 : decode cX4_weighContributions 4 = .ok (.getfield 37, 3) := by decide +kernel
theorem dX4_weighContributions_7 : decode cX4_weighContributions 7 = .ok (.if_icmp .ge 46, 3) := by decide +kernel
theorem dX4_weighContributions_10 : decode cX4_weighContributions 10 = .ok (.aload_n 0, 1) := by decide +kernel
theorem dX4_weighContributions_11 : decode cX4_weighContributions 11 = .ok (.getfield 33, 3) := by decide +kernel
theorem dX4_weighContributions_14 : decode cX4_weighContributions 14 = .ok (.getfield 231, 3) := by decide +kernel
theorem dX4_weighContributions_17 : decode cX4_weighContributions 17 = .ok (.getfield 235, 3) := by decide +kernel
theorem dX4_weighContributions_20 : decode cX4_weighContributions 20 = .ok (.iload_n 1, 1) := by decide +kernel
theorem dX4_weighContributions_21 : decode cX4_weighContributions 21 = .ok (.aload_n 0, 1) := by decide +kernel
theorem dX4_weighContributions_22 : decode cX4_weighContributions 22 = .ok (.getfield 11, 3) := by decide +kernel
theorem dX4_weighContributions_25 : decode cX4_weighContributions 25 = .ok (.iload_n 1, 1) := by decide +kernel
theorem dX4_weighContributions_26 : decode cX4_weighContributions 26 = .ok (.aaload, 1) := by decide +kernel
theorem dX4_weighContributions_27 : decode cX4_weighContributions 27 = .ok (.getfield 127, 3) := by decide +kernel
theorem dX4_weighContributions_30 : decode cX4_weighContributions 30 = .ok (.ifCond .ne 15, 3) := by decide +kernel
theorem dX4_weighContributions_33 : decode cX4_weighContributions 33 = .ok (.aload_n 0, 1) := by decide +kernel
theorem dX4_weighContributions_34 : decode cX4_weighContributions 34 = .ok (.getfield 11, 3) := by decide +kernel
theorem dX4_weighContributions_37 : decode cX4_weighContributions 37 = .ok (.iload_n 1, 1) := by decide +kernel
theorem dX4_weighContributions_38 : decode cX4_weighContributions 38 = .ok (.aaload, 1) := by decide +kernel
theorem dX4_weighContributions_39 : decode cX4_weighContributions 39 = .ok (.getfield 66, 3) := by decide +kernel
theorem dX4_weighContributions_42 : decode cX4_weighContributions 42 = .ok (.goto 4, 3) := by decide +kernel
theorem dX4_weighContributions_45 : decode cX4_weighContributions 45 = .ok (.lconst 0, 1) := by decide +kernel
theorem dX4_weighContributions_46 : decode cX4_weighContributions 46 = .ok (.lastore, 1) := by decide +kernel
theorem dX4_weighContributions_47 : decode cX4_weighContributions 47 = .ok (.iinc 1 1, 3) := by decide +kernel
theorem dX4_weighContributions_50 : decode cX4_weighContributions 50 = .ok (.goto (-48), 3) := by decide +kernel
theorem dX4_weighContributions_53 : decode cX4_weighContributions 53 = .ok (.return_, 1) := by decide +kernel
theorem dX4_weighCalls_0 : decode cX4_weighCalls 0 = .ok (.iconst 0, 1) := by decide +kernel
theorem dX4_weighCalls_1 : decode cX4_weighCalls 1 = .ok (.istore_n 1, 1) := by decide +kernel
theorem dX4_weighCalls_2 : decode cX4_weighCalls 2 = .ok (.iload_n 1, 1) := by decide +kernel
theorem dX4_weighCalls_3 : decode cX4_weighCalls 3 = .ok (.aload_n 0, 1) := by decide +kernel
theorem dX4_weighCalls_4 : decode cX4_weighCalls 4 = .ok (.getfield 37, 3) := by decide +kernel
theorem dX4_weighCalls_7 : decode cX4_weighCalls 7 = .ok (.if_icmp .ge 64, 3) := by decide +kernel
theorem dX4_weighCalls_10 : decode cX4_weighCalls 10 = .ok (.aload_n 0, 1) := by decide +kernel
theorem dX4_weighCalls_11 : decode cX4_weighCalls 11 = .ok (.getfield 11, 3) := by decide +kernel
theorem dX4_weighCalls_14 : decode cX4_weighCalls 14 = .ok (.iload_n 1, 1) := by decide +kernel
theorem dX4_weighCalls_15 : decode cX4_weighCalls 15 = .ok (.aaload, 1) := by decide +kernel
theorem dX4_weighCalls_16 : decode cX4_weighCalls 16 = .ok (.getfield 66, 3) := by decide +kernel
theorem dX4_weighCalls_19 : decode cX4_weighCalls 19 = .ok (.lconst 0, 1) := by decide +kernel
theorem dX4_weighCalls_20 : decode cX4_weighCalls 20 = .ok (.aload_n 0, 1) := by decide +kernel
theorem dX4_weighCalls_21 : decode cX4_weighCalls 21 = .ok (.getfield 33, 3) := by decide +kernel
theorem dX4_weighCalls_24 : decode cX4_weighCalls 24 = .ok (.getfield 190, 3) := by decide +kernel
theorem dX4_weighCalls_27 : decode cX4_weighCalls 27 = .ok (.iload_n 1, 1) := by decide +kernel
theorem dX4_weighCalls_28 : decode cX4_weighCalls 28 = .ok (.laload, 1) := by decide +kernel
theorem dX4_weighCalls_29 : decode cX4_weighCalls 29 = .ok (.invokestatic 174, 3) := by decide +kernel
theorem dX4_weighCalls_32 : decode cX4_weighCalls 32 = .ok (.invokestatic 240, 3) := by decide +kernel
theorem dX4_weighCalls_35 : decode cX4_weighCalls 35 = .ok (.lstore_n 2, 1) := by decide +kernel
theorem dX4_weighCalls_36 : decode cX4_weighCalls 36 = .ok (.aload_n 0, 1) := by decide +kernel
theorem dX4_weighCalls_37 : decode cX4_weighCalls 37 = .ok (.getfield 33, 3) := by decide +kernel
theorem dX4_weighCalls_40 : decode cX4_weighCalls 40 = .ok (.getfield 231, 3) := by decide +kernel
theorem dX4_weighCalls_43 : decode cX4_weighCalls 43 = .ok (.getfield 235, 3) := by decide +kernel
theorem dX4_weighCalls_46 : decode cX4_weighCalls 46 = .ok (.iload_n 1, 1) := by decide +kernel
theorem dX4_weighCalls_47 : decode cX4_weighCalls 47 = .ok (.aload_n 0, 1) := by decide +kernel
theorem dX4_weighCalls_48 : decode cX4_weighCalls 48 = .ok (.getfield 11, 3) := by decide +kernel
theorem dX4_weighCalls_51 : decode cX4_weighCalls 51 = .ok (.iload_n 1, 1) := by decide +kernel
theorem dX4_weighCalls_52 : decode cX4_weighCalls 52 = .ok (.aaload, 1) := by decide +kernel
theorem dX4_weighCalls_53 : decode cX4_weighCalls 53 = .ok (.getfield 127, 3) := by decide +kernel
theorem dX4_weighCalls_56 : decode cX4_weighCalls 56 = .ok (.ifCond .ne 7, 3) := by decide +kernel
theorem dX4_weighCalls_59 : decode cX4_weighCalls 59 = .ok (.lload_n 2, 1) := by decide +kernel
theorem dX4_weighCalls_60 : decode cX4_weighCalls 60 = .ok (.goto 4, 3) := by decide +kernel
theorem dX4_weighCalls_63 : decode cX4_weighCalls 63 = .ok (.lconst 0, 1) := by decide +kernel
theorem dX4_weighCalls_64 : decode cX4_weighCalls 64 = .ok (.lastore, 1) := by decide +kernel
theorem dX4_weighCalls_65 : decode cX4_weighCalls 65 = .ok (.iinc 1 1, 3) := by decide +kernel
theorem dX4_weighCalls_68 : decode cX4_weighCalls 68 = .ok (.goto (-66), 3) := by decide +kernel
theorem dX4_weighCalls_71 : decode cX4_weighCalls 71 = .ok (.return_, 1) := by decide +kernel
theorem dX4_carryOutPlan_0 : decode cX4_carryOutPlan 0 = .ok (.iconst 0, 1) := by decide +kernel
theorem dX4_carryOutPlan_1 : decode cX4_carryOutPlan 1 = .ok (.istore_n 2, 1) := by decide +kernel
theorem dX4_carryOutPlan_2 : decode cX4_carryOutPlan 2 = .ok (.iload_n 2, 1) := by decide +kernel
theorem dX4_carryOutPlan_3 : decode cX4_carryOutPlan 3 = .ok (.aload_n 0, 1) := by decide +kernel
theorem dX4_carryOutPlan_4 : decode cX4_carryOutPlan 4 = .ok (.getfield 41, 3) := by decide +kernel
theorem dX4_carryOutPlan_7 : decode cX4_carryOutPlan 7 = .ok (.if_icmp .ge 67, 3) := by decide +kernel
theorem dX4_carryOutPlan_10 : decode cX4_carryOutPlan 10 = .ok (.aload_n 0, 1) := by decide +kernel
theorem dX4_carryOutPlan_11 : decode cX4_carryOutPlan 11 = .ok (.getfield 33, 3) := by decide +kernel
theorem dX4_carryOutPlan_14 : decode cX4_carryOutPlan 14 = .ok (.getfield 197, 3) := by decide +kernel
theorem dX4_carryOutPlan_17 : decode cX4_carryOutPlan 17 = .ok (.iload_n 2, 1) := by decide +kernel
theorem dX4_carryOutPlan_18 : decode cX4_carryOutPlan 18 = .ok (.iaload, 1) := by decide +kernel
theorem dX4_carryOutPlan_19 : decode cX4_carryOutPlan 19 = .ok (.iconst (-1), 1) := by decide +kernel
theorem dX4_carryOutPlan_20 : decode cX4_carryOutPlan 20 = .ok (.if_icmp .eq 48, 3) := by decide +kernel
theorem dX4_carryOutPlan_23 : decode cX4_carryOutPlan 23 = .ok (.aload_n 0, 1) := by decide +kernel
theorem dX4_carryOutPlan_24 : decode cX4_carryOutPlan 24 = .ok (.getfield 11, 3) := by decide +kernel
theorem dX4_carryOutPlan_27 : decode cX4_carryOutPlan 27 = .ok (.aload_n 0, 1) := by decide +kernel
theorem dX4_carryOutPlan_28 : decode cX4_carryOutPlan 28 = .ok (.getfield 33, 3) := by decide +kernel
theorem dX4_carryOutPlan_31 : decode cX4_carryOutPlan 31 = .ok (.getfield 197, 3) := by decide +kernel
theorem dX4_carryOutPlan_34 : decode cX4_carryOutPlan 34 = .ok (.iload_n 2, 1) := by decide +kernel
theorem dX4_carryOutPlan_35 : decode cX4_carryOutPlan 35 = .ok (.iaload, 1) := by decide +kernel
theorem dX4_carryOutPlan_36 : decode cX4_carryOutPlan 36 = .ok (.aaload, 1) := by decide +kernel
theorem dX4_carryOutPlan_37 : decode cX4_carryOutPlan 37 = .ok (.getfield 114, 3) := by decide +kernel
theorem dX4_carryOutPlan_40 : decode cX4_carryOutPlan 40 = .ok (.iload_n 2, 1) := by decide +kernel
theorem dX4_carryOutPlan_41 : decode cX4_carryOutPlan 41 = .ok (.dup2, 1) := by decide +kernel
theorem dX4_carryOutPlan_42 : decode cX4_carryOutPlan 42 = .ok (.iaload, 1) := by decide +kernel
theorem dX4_carryOutPlan_43 : decode cX4_carryOutPlan 43 = .ok (.aload_n 0, 1) := by decide +kernel
theorem dX4_carryOutPlan_44 : decode cX4_carryOutPlan 44 = .ok (.getfield 11, 3) := by decide +kernel
theorem dX4_carryOutPlan_47 : decode cX4_carryOutPlan 47 = .ok (.iload_n 1, 1) := by decide +kernel
theorem dX4_carryOutPlan_48 : decode cX4_carryOutPlan 48 = .ok (.aaload, 1) := by decide +kernel
theorem dX4_carryOutPlan_49 : decode cX4_carryOutPlan 49 = .ok (.getfield 114, 3) := by decide +kernel
theorem dX4_carryOutPlan_52 : decode cX4_carryOutPlan 52 = .ok (.iload_n 2, 1) := by decide +kernel
theorem dX4_carryOutPlan_53 : decode cX4_carryOutPlan 53 = .ok (.iaload, 1) := by decide +kernel
theorem dX4_carryOutPlan_54 : decode cX4_carryOutPlan 54 = .ok (.iadd, 1) := by decide +kernel
theorem dX4_carryOutPlan_55 : decode cX4_carryOutPlan 55 = .ok (.iastore, 1) := by decide +kernel
theorem dX4_carryOutPlan_56 : decode cX4_carryOutPlan 56 = .ok (.aload_n 0, 1) := by decide +kernel
theorem dX4_carryOutPlan_57 : decode cX4_carryOutPlan 57 = .ok (.getfield 11, 3) := by decide +kernel
theorem dX4_carryOutPlan_60 : decode cX4_carryOutPlan 60 = .ok (.iload_n 1, 1) := by decide +kernel
theorem dX4_carryOutPlan_61 : decode cX4_carryOutPlan 61 = .ok (.aaload, 1) := by decide +kernel
theorem dX4_carryOutPlan_62 : decode cX4_carryOutPlan 62 = .ok (.getfield 114, 3) := by decide +kernel
theorem dX4_carryOutPlan_65 : decode cX4_carryOutPlan 65 = .ok (.iload_n 2, 1) := by decide +kernel
theorem dX4_carryOutPlan_66 : decode cX4_carryOutPlan 66 = .ok (.iconst 0, 1) := by decide +kernel
theorem dX4_carryOutPlan_67 : decode cX4_carryOutPlan 67 = .ok (.iastore, 1) := by decide +kernel
theorem dX4_carryOutPlan_68 : decode cX4_carryOutPlan 68 = .ok (.iinc 2 1, 3) := by decide +kernel
theorem dX4_carryOutPlan_71 : decode cX4_carryOutPlan 71 = .ok (.goto (-69), 3) := by decide +kernel
theorem dX4_carryOutPlan_74 : decode cX4_carryOutPlan 74 = .ok (.iconst 0, 1) := by decide +kernel
theorem dX4_carryOutPlan_75 : decode cX4_carryOutPlan 75 = .ok (.istore_n 2, 1) := by decide +kernel
theorem dX4_carryOutPlan_76 : decode cX4_carryOutPlan 76 = .ok (.iload_n 2, 1) := by decide +kernel
theorem dX4_carryOutPlan_77 : decode cX4_carryOutPlan 77 = .ok (.aload_n 0, 1) := by decide +kernel
theorem dX4_carryOutPlan_78 : decode cX4_carryOutPlan 78 = .ok (.getfield 37, 3) := by decide +kernel
theorem dX4_carryOutPlan_81 : decode cX4_carryOutPlan 81 = .ok (.if_icmp .ge 45, 3) := by decide +kernel
theorem dX4_carryOutPlan_84 : decode cX4_carryOutPlan 84 = .ok (.aload_n 0, 1) := by decide +kernel
theorem dX4_carryOutPlan_85 : decode cX4_carryOutPlan 85 = .ok (.getfield 11, 3) := by decide +kernel
theorem dX4_carryOutPlan_88 : decode cX4_carryOutPlan 88 = .ok (.iload_n 2, 1) := by decide +kernel
theorem dX4_carryOutPlan_89 : decode cX4_carryOutPlan 89 = .ok (.aaload, 1) := by decide +kernel
theorem dX4_carryOutPlan_90 : decode cX4_carryOutPlan 90 = .ok (.aload_n 0, 1) := by decide +kernel
theorem dX4_carryOutPlan_91 : decode cX4_carryOutPlan 91 = .ok (.getfield 33, 3) := by decide +kernel
theorem dX4_carryOutPlan_94 : decode cX4_carryOutPlan 94 = .ok (.getfield 190, 3) := by decide +kernel
theorem dX4_carryOutPlan_97 : decode cX4_carryOutPlan 97 = .ok (.iload_n 2, 1) := by decide +kernel
theorem dX4_carryOutPlan_98 : decode cX4_carryOutPlan 98 = .ok (.laload, 1) := by decide +kernel
theorem dX4_carryOutPlan_99 : decode cX4_carryOutPlan 99 = .ok (.putfield 105, 3) := by decide +kernel
theorem dX4_carryOutPlan_102 : decode cX4_carryOutPlan 102 = .ok (.aload_n 0, 1) := by decide +kernel
theorem dX4_carryOutPlan_103 : decode cX4_carryOutPlan 103 = .ok (.getfield 11, 3) := by decide +kernel
theorem dX4_carryOutPlan_106 : decode cX4_carryOutPlan 106 = .ok (.iload_n 2, 1) := by decide +kernel
theorem dX4_carryOutPlan_107 : decode cX4_carryOutPlan 107 = .ok (.aaload, 1) := by decide +kernel
theorem dX4_carryOutPlan_108 : decode cX4_carryOutPlan 108 = .ok (.aload_n 0, 1) := by decide +kernel
theorem dX4_carryOutPlan_109 : decode cX4_carryOutPlan 109 = .ok (.getfield 33, 3) := by decide +kernel
theorem dX4_carryOutPlan_112 : decode cX4_carryOutPlan 112 = .ok (.getfield 192, 3) := by decide +kernel
theorem dX4_carryOutPlan_115 : decode cX4_carryOutPlan 115 = .ok (.iload_n 2, 1) := by decide +kernel
theorem dX4_carryOutPlan_116 : decode cX4_carryOutPlan 116 = .ok (.laload, 1) := by decide +kernel
theorem dX4_carryOutPlan_117 : decode cX4_carryOutPlan 117 = .ok (.putfield 66, 3) := by decide +kernel
theorem dX4_carryOutPlan_120 : decode cX4_carryOutPlan 120 = .ok (.iinc 2 1, 3) := by decide +kernel
theorem dX4_carryOutPlan_123 : decode cX4_carryOutPlan 123 = .ok (.goto (-47), 3) := by decide +kernel
theorem dX4_carryOutPlan_126 : decode cX4_carryOutPlan 126 = .ok (.iconst 0, 1) := by decide +kernel
theorem dX4_carryOutPlan_127 : decode cX4_carryOutPlan 127 = .ok (.istore_n 2, 1) := by decide +kernel
theorem dX4_carryOutPlan_128 : decode cX4_carryOutPlan 128 = .ok (.iload_n 2, 1) := by decide +kernel
theorem dX4_carryOutPlan_129 : decode cX4_carryOutPlan 129 = .ok (.iconst 5, 1) := by decide +kernel
theorem dX4_carryOutPlan_130 : decode cX4_carryOutPlan 130 = .ok (.if_icmp .ge 24, 3) := by decide +kernel
theorem dX4_carryOutPlan_133 : decode cX4_carryOutPlan 133 = .ok (.aload_n 0, 1) := by decide +kernel
theorem dX4_carryOutPlan_134 : decode cX4_carryOutPlan 134 = .ok (.getfield 26, 3) := by decide +kernel
theorem dX4_carryOutPlan_137 : decode cX4_carryOutPlan 137 = .ok (.iload_n 2, 1) := by decide +kernel
theorem dX4_carryOutPlan_138 : decode cX4_carryOutPlan 138 = .ok (.aload_n 0, 1) := by decide +kernel
theorem dX4_carryOutPlan_139 : decode cX4_carryOutPlan 139 = .ok (.getfield 33, 3) := by decide +kernel
theorem dX4_carryOutPlan_142 : decode cX4_carryOutPlan 142 = .ok (.getfield 140, 3) := by decide +kernel
theorem dX4_carryOutPlan_145 : decode cX4_carryOutPlan 145 = .ok (.iload_n 2, 1) := by decide +kernel
theorem dX4_carryOutPlan_146 : decode cX4_carryOutPlan 146 = .ok (.laload, 1) := by decide +kernel
theorem dX4_carryOutPlan_147 : decode cX4_carryOutPlan 147 = .ok (.lastore, 1) := by decide +kernel
theorem dX4_carryOutPlan_148 : decode cX4_carryOutPlan 148 = .ok (.iinc 2 1, 3) := by decide +kernel
theorem dX4_carryOutPlan_151 : decode cX4_carryOutPlan 151 = .ok (.goto (-23), 3) := by decide +kernel
theorem dX4_carryOutPlan_154 : decode cX4_carryOutPlan 154 = .ok (.aload_n 0, 1) := by decide +kernel
theorem dX4_carryOutPlan_155 : decode cX4_carryOutPlan 155 = .ok (.aload_n 0, 1) := by decide +kernel
theorem dX4_carryOutPlan_156 : decode cX4_carryOutPlan 156 = .ok (.getfield 33, 3) := by decide +kernel
theorem dX4_carryOutPlan_159 : decode cX4_carryOutPlan 159 = .ok (.getfield 194, 3) := by decide +kernel
theorem dX4_carryOutPlan_162 : decode cX4_carryOutPlan 162 = .ok (.putfield 47, 3) := by decide +kernel
theorem dX4_carryOutPlan_165 : decode cX4_carryOutPlan 165 = .ok (.aload_n 0, 1) := by decide +kernel
theorem dX4_carryOutPlan_166 : decode cX4_carryOutPlan 166 = .ok (.dup, 1) := by decide +kernel
theorem dX4_carryOutPlan_167 : decode cX4_carryOutPlan 167 = .ok (.getfield 51, 3) := by decide +kernel
theorem dX4_carryOutPlan_170 : decode cX4_carryOutPlan 170 = .ok (.aload_n 0, 1) := by decide +kernel
theorem dX4_carryOutPlan_171 : decode cX4_carryOutPlan 171 = .ok (.getfield 33, 3) := by decide +kernel
theorem dX4_carryOutPlan_174 : decode cX4_carryOutPlan 174 = .ok (.getfield 140, 3) := by decide +kernel
theorem dX4_carryOutPlan_177 : decode cX4_carryOutPlan 177 = .ok (.iconst 4, 1) := by decide +kernel
theorem dX4_carryOutPlan_178 : decode cX4_carryOutPlan 178 = .ok (.laload, 1) := by decide +kernel
theorem dX4_carryOutPlan_179 : decode cX4_carryOutPlan 179 = .ok (.ladd, 1) := by decide +kernel
theorem dX4_carryOutPlan_180 : decode cX4_carryOutPlan 180 = .ok (.putfield 51, 3) := by decide +kernel
theorem dX4_carryOutPlan_183 : decode cX4_carryOutPlan 183 = .ok (.aload_n 0, 1) := by decide +kernel
theorem dX4_carryOutPlan_184 : decode cX4_carryOutPlan 184 = .ok (.getfield 11, 3) := by decide +kernel
theorem dX4_carryOutPlan_187 : decode cX4_carryOutPlan 187 = .ok (.iload_n 1, 1) := by decide +kernel
theorem dX4_carryOutPlan_188 : decode cX4_carryOutPlan 188 = .ok (.aaload, 1) := by decide +kernel
theorem dX4_carryOutPlan_189 : decode cX4_carryOutPlan 189 = .ok (.iconst 2, 1) := by decide +kernel
theorem dX4_carryOutPlan_190 : decode cX4_carryOutPlan 190 = .ok (.putfield 127, 3) := by decide +kernel
theorem dX4_carryOutPlan_193 : decode cX4_carryOutPlan 193 = .ok (.return_, 1) := by decide +kernel
end
section
theorem dX5_init_0 : decode cX5_init 0 = .ok (.aload_n 0, 1) := by decide +kernel
theorem dX5_init_1 : decode cX5_init 1 = .ok (.invokespecial 1, 3) := by decide +kernel
theorem dX5_init_4 : decode cX5_init 4 = .ok (.aload_n 0, 1) := by decide +kernel
theorem dX5_init_5 : decode cX5_init 5 = .ok (.bipush 8, 2) := by decide +kernel
theorem dX5_init_7 : decode cX5_init 7 = .ok (.newarray .long, 2) := by decide +kernel
theorem dX5_init_9 : decode cX5_init 9 = .ok (.putfield 7, 3) := by decide +kernel
theorem dX5_init_12 : decode cX5_init 12 = .ok (.aload_n 0, 1) := by decide +kernel
theorem dX5_init_13 : decode cX5_init 13 = .ok (.bipush 8, 2) := by decide +kernel
theorem dX5_init_15 : decode cX5_init 15 = .ok (.newarray .long, 2) := by decide +kernel
theorem dX5_init_17 : decode cX5_init 17 = .ok (.putfield 13, 3) := by decide +kernel
theorem dX5_init_20 : decode cX5_init 20 = .ok (.aload_n 0, 1) := by decide +kernel
theorem dX5_init_21 : decode cX5_init 21 = .ok (.bipush 8, 2) := by decide +kernel
theorem dX5_init_23 : decode cX5_init 23 = .ok (.newarray .int, 2) := by decide +kernel
theorem dX5_init_25 : decode cX5_init 25 = .ok (.putfield 16, 3) := by decide +kernel
theorem dX5_init_28 : decode cX5_init 28 = .ok (.aload_n 0, 1) := by decide +kernel
theorem dX5_init_29 : decode cX5_init 29 = .ok (.bipush 48, 2) := by decide +kernel
theorem dX5_init_31 : decode cX5_init 31 = .ok (.newarray .int, 2) := by decide +kernel
theorem dX5_init_33 : decode cX5_init 33 = .ok (.putfield 20, 3) := by decide +kernel
theorem dX5_init_36 : decode cX5_init 36 = .ok (.aload_n 0, 1) := by decide +kernel
theorem dX5_init_37 : decode cX5_init 37 = .ok (.bipush 48, 2) := by decide +kernel
theorem dX5_init_39 : decode cX5_init 39 = .ok (.newarray .int, 2) := by decide +kernel
theorem dX5_init_41 : decode cX5_init 41 = .ok (.putfield 23, 3) := by decide +kernel
theorem dX5_init_44 : decode cX5_init 44 = .ok (.aload_n 0, 1) := by decide +kernel
theorem dX5_init_45 : decode cX5_init 45 = .ok (.bipush 6, 2) := by decide +kernel
theorem dX5_init_47 : decode cX5_init 47 = .ok (.newarray .int, 2) := by decide +kernel
theorem dX5_init_49 : decode cX5_init 49 = .ok (.putfield 26, 3) := by decide +kernel
theorem dX5_init_52 : decode cX5_init 52 = .ok (.aload_n 0, 1) := by decide +kernel
theorem dX5_init_53 : decode cX5_init 53 = .ok (.bipush 6, 2) := by decide +kernel
theorem dX5_init_55 : decode cX5_init 55 = .ok (.newarray .int, 2) := by decide +kernel
theorem dX5_init_57 : decode cX5_init 57 = .ok (.putfield 29, 3) := by decide +kernel
theorem dX5_init_60 : decode cX5_init 60 = .ok (.aload_n 0, 1) := by decide +kernel
theorem dX5_init_61 : decode cX5_init 61 = .ok (.bipush 6, 2) := by decide +kernel
theorem dX5_init_63 : decode cX5_init 63 = .ok (.newarray .int, 2) := by decide +kernel
theorem dX5_init_65 : decode cX5_init 65 = .ok (.putfield 32, 3) := by decide +kernel
theorem dX5_init_68 : decode cX5_init 68 = .ok (.aload_n 0, 1) := by decide +kernel
theorem dX5_init_69 : decode cX5_init 69 = .ok (.bipush 48, 2) := by decide +kernel
theorem dX5_init_71 : decode cX5_init 71 = .ok (.newarray .int, 2) := by decide +kernel
theorem dX5_init_73 : decode cX5_init 73 = .ok (.putfield 35, 3) := by decide +kernel
theorem dX5_init_76 : decode cX5_init 76 = .ok (.aload_n 0, 1) := by decide +kernel
theorem dX5_init_77 : decode cX5_init 77 = .ok (.iconst 5, 1) := by decide +kernel
theorem dX5_init_78 : decode cX5_init 78 = .ok (.newarray .long, 2) := by decide +kernel
theorem dX5_init_80 : decode cX5_init 80 = .ok (.putfield 38, 3) := by decide +kernel
theorem dX5_init_83 : decode cX5_init 83 = .ok (.aload_n 0, 1) := by decide +kernel
theorem dX5_init_84 : decode cX5_init 84 = .ok (.bipush 8, 2) := by decide +kernel
theorem dX5_init_86 : decode cX5_init 86 = .ok (.newarray .long, 2) := by decide +kernel
theorem dX5_init_88 : decode cX5_init 88 = .ok (.putfield 41, 3) := by decide +kernel
theorem dX5_init_91 : decode cX5_init 91 = .ok (.aload_n 0, 1) := by decide +kernel
theorem dX5_init_92 : decode cX5_init 92 = .ok (.bipush 8, 2) := by decide +kernel
theorem dX5_init_94 : decode cX5_init 94 = .ok (.newarray .long, 2) := by decide +kernel
theorem dX5_init_96 : decode cX5_init 96 = .ok (.putfield 44, 3) := by decide +kernel
theorem dX5_init_99 : decode cX5_init 99 = .ok (.aload_n 0, 1) := by decide +kernel
theorem dX5_init_100 : decode cX5_init 100 = .ok (.bipush 48, 2) := by decide +kernel
theorem dX5_init_102 : decode cX5_init 102 = .ok (.newarray .int, 2) := by decide +kernel
theorem dX5_init_104 : decode cX5_init 104 = .ok (.putfield 47, 3) := by decide +kernel
theorem dX5_init_107 : decode cX5_init 107 = .ok (.aload_n 0, 1) := by decide +kernel
theorem dX5_init_108 : decode cX5_init 108 = .ok (.iconst 5, 1) := by decide +kernel
theorem dX5_init_109 : decode cX5_init 109 = .ok (.newarray .long, 2) := by decide +kernel
theorem dX5_init_111 : decode cX5_init 111 = .ok (.putfield 50, 3) := by decide +kernel
theorem dX5_init_114 : decode cX5_init 114 = .ok (.aload_n 0, 1) := by decide +kernel
theorem dX5_init_115 : decode cX5_init 115 = .ok (.bipush 8, 2) := by decide +kernel
theorem dX5_init_117 : decode cX5_init 117 = .ok (.newarray .long, 2) := by decide +kernel
theorem dX5_init_119 : decode cX5_init 119 = .ok (.putfield 53, 3) := by decide +kernel
theorem dX5_init_122 : decode cX5_init 122 = .ok (.aload_n 0, 1) := by decide +kernel
theorem dX5_init_123 : decode cX5_init 123 = .ok (.bipush 8, 2) := by decide +kernel
theorem dX5_init_125 : decode cX5_init 125 = .ok (.newarray .long, 2) := by decide +kernel
theorem dX5_init_127 : decode cX5_init 127 = .ok (.putfield 56, 3) := by decide +kernel
theorem dX5_init_130 : decode cX5_init 130 = .ok (.aload_n 0, 1) := by decide +kernel
theorem dX5_init_131 : decode cX5_init 131 = .ok (.bipush 8, 2) := by decide +kernel
theorem dX5_init_133 : decode cX5_init 133 = .ok (.newarray .long, 2) := by decide +kernel
theorem dX5_init_135 : decode cX5_init 135 = .ok (.putfield 59, 3) := by decide +kernel
theorem dX5_init_138 : decode cX5_init 138 = .ok (.return_, 1) := by decide +kernel
theorem dX5_thrown_0 : decode cX5_thrown 0 = .ok (.aload_n 0, 1) := by decide +kernel
theorem dX5_thrown_1 : decode cX5_thrown 1 = .ok (.getfield 62, 3) := by decide +kernel
theorem dX5_thrown_4 : decode cX5_thrown 4 = .ok (.ireturn, 1) := by decide +kernel
theorem dX5_within_0 : decode cX5_within 0 = .ok (.lload_n 0, 1) := by decide +kernel
theorem dX5_within_1 : decode cX5_within 1 = .ok (.lload_n 2, 1) := by decide +kernel
theorem dX5_within_2 : decode cX5_within 2 = .ok (.lcmp, 1) := by decide +kernel
theorem dX5_within_3 : decode cX5_within 3 = .ok (.ifCond .lt 14, 3) := by decide +kernel
theorem dX5_within_6 : decode cX5_within 6 = .ok (.lload_n 0, 1) := by decide +kernel
theorem dX5_within_7 : decode cX5_within 7 = .ok (.lload 4, 2) := by decide +kernel
theorem dX5_within_9 : decode cX5_within 9 = .ok (.lcmp, 1) := by decide +kernel
theorem dX5_within_10 : decode cX5_within 10 = .ok (.ifCond .gt 7, 3) := by decide +kernel
theorem dX5_within_13 : decode cX5_within 13 = .ok (.iconst 1, 1) := by decide +kernel
theorem dX5_within_14 : decode cX5_within 14 = .ok (.goto 4, 3) := by decide +kernel
theorem dX5_within_17 : decode cX5_within 17 = .ok (.iconst 0, 1) := by decide +kernel
theorem dX5_within_18 : decode cX5_within 18 = .ok (.ireturn, 1) := by decide +kernel
theorem dX5_isMember_0 : decode cX5_isMember 0 = .ok (.iload_n 1, 1) := by decide +kernel
theorem dX5_isMember_1 : decode cX5_isMember 1 = .ok (.ifCond .lt 15, 3) := by decide +kernel
theorem dX5_isMember_4 : decode cX5_isMember 4 = .ok (.iload_n 1, 1) := by decide +kernel
theorem dX5_isMember_5 : decode cX5_isMember 5 = .ok (.aload_n 0, 1) := by decide +kernel
theorem dX5_isMember_6 : decode cX5_isMember 6 = .ok (.getfield 66, 3) := by decide +kernel
theorem dX5_isMember_9 : decode cX5_isMember 9 = .ok (.if_icmp .ge 7, 3) := by decide +kernel
theorem dX5_isMember_12 : decode cX5_isMember 12 = .ok (.iconst 1, 1) := by decide +kernel
theorem dX5_isMember_13 : decode cX5_isMember 13 = .ok (.goto 4, 3) := by decide +kernel
theorem dX5_isMember_16 : decode cX5_isMember 16 = .ok (.iconst 0, 1) := by decide +kernel
theorem dX5_isMember_17 : decode cX5_isMember 17 = .ok (.ireturn, 1) := by decide +kernel
theorem dX5_isInstrument_0 : decode cX5_isInstrument 0 = .ok (.iload_n 1, 1) := by decide +kernel
theorem dX5_isInstrument_1 : decode cX5_isInstrument 1 = .ok (.ifCond .lt 15, 3) := by decide +kernel
theorem dX5_isInstrument_4 : decode cX5_isInstrument 4 = .ok (.iload_n 1, 1) := by decide +kernel
theorem dX5_isInstrument_5 : decode cX5_isInstrument 5 = .ok (.aload_n 0, 1) := by decide +kernel
theorem dX5_isInstrument_6 : decode cX5_isInstrument 6 = .ok (.getfield 69, 3) := by decide +kernel
theorem dX5_isInstrument_9 : decode cX5_isInstrument 9 = .ok (.if_icmp .ge 7, 3) := by decide +kernel
theorem dX5_isInstrument_12 : decode cX5_isInstrument 12 = .ok (.iconst 1, 1) := by decide +kernel
theorem dX5_isInstrument_13 : decode cX5_isInstrument 13 = .ok (.goto 4, 3) := by decide +kernel
theorem dX5_isInstrument_16 : decode cX5_isInstrument 16 = .ok (.iconst 0, 1) := by decide +kernel
theorem dX5_isInstrument_17 : decode cX5_isInstrument 17 = .ok (.ireturn, 1) := by decide +kernel
theorem dX5_isFar_0 : decode cX5_isFar 0 = .ok (.lload_n 0, 1) := by decide +kernel
theorem dX5_isFar_1 : decode cX5_isFar 1 = .ok (.ldc2_w 72, 3) := by decide +kernel
theorem dX5_isFar_4 : decode cX5_isFar 4 = .ok (.lcmp, 1) := by decide +kernel
theorem dX5_isFar_5 : decode cX5_isFar 5 = .ok (.ifCond .gt 11, 3) := by decide +kernel
theorem dX5_isFar_8 : decode cX5_isFar 8 = .ok (.lload_n 0, 1) := by decide +kernel
theorem dX5_isFar_9 : decode cX5_isFar 9 = .ok (.ldc2_w 74, 3) := by decide +kernel
theorem dX5_isFar_12 : decode cX5_isFar 12 = .ok (.lcmp, 1) := by decide +kernel
theorem dX5_isFar_13 : decode cX5_isFar 13 = .ok (.ifCond .ge 7, 3) := by decide +kernel
theorem dX5_isFar_16 : decode cX5_isFar 16 = .ok (.iconst 1, 1) := by decide +kernel
theorem dX5_isFar_17 : decode cX5_isFar 17 = .ok (.goto 4, 3) := by decide +kernel
theorem dX5_isFar_20 : decode cX5_isFar 20 = .ok (.iconst 0, 1) := by decide +kernel
theorem dX5_isFar_21 : decode cX5_isFar 21 = .ok (.ireturn, 1) := by decide +kernel
theorem dX5_member_0 : decode cX5_member 0 = .ok (.aload_n 0, 1) := by decide +kernel
theorem dX5_member_1 : decode cX5_member 1 = .ok (.lload_n 1, 1) := by decide +kernel
theorem dX5_member_2 : decode cX5_member 2 = .ok (.lconst 0, 1) := by decide +kernel
theorem dX5_member_3 : decode cX5_member 3 = .ok (.ldc2_w 76, 3) := by decide +kernel
theorem dX5_member_6 : decode cX5_member 6 = .ok (.invokestatic 78, 3) := by decide +kernel
theorem dX5_member_9 : decode cX5_member 9 = .ok (.ifCond .eq 7, 3) := by decide +kernel
theorem dX5_member_12 : decode cX5_member 12 = .ok (.iconst 0, 1) := by decide +kernel
theorem dX5_member_13 : decode cX5_member 13 = .ok (.goto 4, 3) := by decide +kernel
theorem dX5_member_16 : decode cX5_member 16 = .ok (.iconst 1, 1) := by decide +kernel
theorem dX5_member_17 : decode cX5_member 17 = .ok (.putfield 62, 3) := by decide +kernel
theorem dX5_member_20 : decode cX5_member 20 = .ok (.aload_n 0, 1) := by decide +kernel
theorem dX5_member_21 : decode cX5_member 21 = .ok (.getfield 62, 3) := by decide +kernel
theorem dX5_member_24 : decode cX5_member 24 = .ok (.ifCond .le 5, 3) := by decide +kernel
theorem dX5_member_27 : decode cX5_member 27 = .ok (.iconst 0, 1) := by decide +kernel
theorem dX5_member_28 : decode cX5_member 28 = .ok (.ireturn, 1) := by decide +kernel
theorem dX5_member_29 : decode cX5_member 29 = .ok (.aload_n 0, 1) := by decide +kernel
theorem dX5_member_30 : decode cX5_member 30 = .ok (.getfield 66, 3) := by decide +kernel
theorem dX5_member_33 : decode cX5_member 33 = .ok (.bipush 8, 2) := by decide +kernel
theorem dX5_member_35 : decode cX5_member 35 = .ok (.if_icmp .ne 5, 3) := by decide +kernel
theorem dX5_member_38 : decode cX5_member 38 = .ok (.iconst (-1), 1) := by decide +kernel
theorem dX5_member_39 : decode cX5_member 39 = .ok (.ireturn, 1) := by decide +kernel
theorem dX5_member_40 : decode cX5_member 40 = .ok (.aload_n 0, 1) := by decide +kernel
theorem dX5_member_41 : decode cX5_member 41 = .ok (.getfield 13, 3) := by decide +kernel
theorem dX5_member_44 : decode cX5_member 44 = .ok (.aload_n 0, 1) := by decide +kernel
theorem dX5_member_45 : decode cX5_member 45 = .ok (.getfield 66, 3) := by decide +kernel
theorem dX5_member_48 : decode cX5_member 48 = .ok (.lload_n 1, 1) := by decide +kernel
theorem dX5_member_49 : decode cX5_member 49 = .ok (.lastore, 1) := by decide +kernel
theorem dX5_member_50 : decode cX5_member 50 = .ok (.aload_n 0, 1) := by decide +kernel
theorem dX5_member_51 : decode cX5_member 51 = .ok (.dup, 1) := by decide +kernel
theorem dX5_member_52 : decode cX5_member 52 = .ok (.getfield 66, 3) := by decide +kernel
theorem dX5_member_55 : decode cX5_member 55 = .ok (.iconst 1, 1) := by decide +kernel
theorem dX5_member_56 : decode cX5_member 56 = .ok (.iadd, 1) := by decide +kernel
theorem dX5_member_57 : decode cX5_member 57 = .ok (.putfield 66, 3) := by decide +kernel
theorem dX5_member_60 : decode cX5_member 60 = .ok (.aload_n 0, 1) := by decide +kernel
theorem dX5_member_61 : decode cX5_member 61 = .ok (.getfield 66, 3) := by decide +kernel
theorem dX5_member_64 : decode cX5_member 64 = .ok (.iconst 1, 1) := by decide +kernel
theorem dX5_member_65 : decode cX5_member 65 = .ok (.isub, 1) := by decide +kernel
theorem dX5_member_66 : decode cX5_member 66 = .ok (.ireturn, 1) := by decide +kernel
theorem dX5_instrument_0 : decode cX5_instrument 0 = .ok (.aload_n 0, 1) := by decide +kernel
theorem dX5_instrument_1 : decode cX5_instrument 1 = .ok (.iload_n 1, 1) := by decide +kernel
theorem dX5_instrument_2 : decode cX5_instrument 2 = .ok (.i2l, 1) := by decide +kernel
theorem dX5_instrument_3 : decode cX5_instrument 3 = .ok (.lconst 0, 1) := by decide +kernel
theorem dX5_instrument_4 : decode cX5_instrument 4 = .ok (.ldc2_w 82, 3) := by decide +kernel
theorem dX5_instrument_7 : decode cX5_instrument 7 = .ok (.invokestatic 78, 3) := by decide +kernel
theorem dX5_instrument_10 : decode cX5_instrument 10 = .ok (.ifCond .eq 31, 3) := by decide +kernel
theorem dX5_instrument_13 : decode cX5_instrument 13 = .ok (.iload_n 2, 1) := by decide +kernel
theorem dX5_instrument_14 : decode cX5_instrument 14 = .ok (.i2l, 1) := by decide +kernel
theorem dX5_instrument_15 : decode cX5_instrument 15 = .ok (.lconst 0, 1) := by decide +kernel
theorem dX5_instrument_16 : decode cX5_instrument 16 = .ok (.ldc2_w 82, 3) := by decide +kernel
theorem dX5_instrument_19 : decode cX5_instrument 19 = .ok (.invokestatic 78, 3) := by decide +kernel
theorem dX5_instrument_22 : decode cX5_instrument 22 = .ok (.ifCond .eq 19, 3) := by decide +kernel
theorem dX5_instrument_25 : decode cX5_instrument 25 = .ok (.iload_n 3, 1) := by decide +kernel
theorem dX5_instrument_26 : decode cX5_instrument 26 = .ok (.i2l, 1) := by decide +kernel
theorem dX5_instrument_27 : decode cX5_instrument 27 = .ok (.lconst 0, 1) := by decide +kernel
theorem dX5_instrument_28 : decode cX5_instrument 28 = .ok (.ldc2_w 82, 3) := by decide +kernel
theorem dX5_instrument_31 : decode cX5_instrument 31 = .ok (.invokestatic 78, 3) := by decide +kernel
theorem dX5_instrument_34 : decode cX5_instrument 34 = .ok (.ifCond .eq 7, 3) := by decide +kernel
theorem dX5_instrument_37 : decode cX5_instrument 37 = .ok (.iconst 0, 1) := by decide +kernel
theorem dX5_instrument_38 : decode cX5_instrument 38 = .ok (.goto 4, 3) := by decide +kernel
theorem dX5_instrument_41 : decode cX5_instrument 41 = .ok (.iconst 1, 1) := by decide +kernel
theorem dX5_instrument_42 : decode cX5_instrument 42 = .ok (.putfield 62, 3) := by decide +kernel
theorem dX5_instrument_45 : decode cX5_instrument 45 = .ok (.aload_n 0, 1) := by decide +kernel
theorem dX5_instrument_46 : decode cX5_instrument 46 = .ok (.getfield 62, 3) := by decide +kernel
theorem dX5_instrument_49 : decode cX5_instrument 49 = .ok (.ifCond .le 5, 3) := by decide +kernel
theorem dX5_instrument_52 : decode cX5_instrument 52 = .ok (.iconst 0, 1) := by decide +kernel
theorem dX5_instrument_53 : decode cX5_instrument 53 = .ok (.ireturn, 1) := by decide +kernel
theorem dX5_instrument_54 : decode cX5_instrument 54 = .ok (.aload_n 0, 1) := by decide +kernel
theorem dX5_instrument_55 : decode cX5_instrument 55 = .ok (.getfield 69, 3) := by decide +kernel
theorem dX5_instrument_58 : decode cX5_instrument 58 = .ok (.bipush 6, 2) := by decide +kernel
theorem dX5_instrument_60 : decode cX5_instrument 60 = .ok (.if_icmp .ne 5, 3) := by decide +kernel
theorem dX5_instrument_63 : decode cX5_instrument 63 = .ok (.iconst (-1), 1) := by decide +kernel
theorem dX5_instrument_64 : decode cX5_instrument 64 = .ok (.ireturn, 1) := by decide +kernel
theorem dX5_instrument_65 : decode cX5_instrument 65 = .ok (.aload_n 0, 1) := by decide +kernel
theorem dX5_instrument_66 : decode cX5_instrument 66 = .ok (.getfield 26, 3) := by decide +kernel
theorem dX5_instrument_69 : decode cX5_instrument 69 = .ok (.aload_n 0, 1) := by decide +kernel
theorem dX5_instrument_70 : decode cX5_instrument 70 = .ok (.getfield 69, 3) := by decide +kernel
theorem dX5_instrument_73 : decode cX5_instrument 73 = .ok (.iload_n 1, 1) := by decide +kernel
theorem dX5_instrument_74 : decode cX5_instrument 74 = .ok (.iastore, 1) := by decide +kernel
theorem dX5_instrument_75 : decode cX5_instrument 75 = .ok (.aload_n 0, 1) := by decide +kernel
theorem dX5_instrument_76 : decode cX5_instrument 76 = .ok (.getfield 29, 3) := by decide +kernel
theorem dX5_instrument_79 : decode cX5_instrument 79 = .ok (.aload_n 0, 1) := by decide +kernel
theorem dX5_instrument_80 : decode cX5_instrument 80 = .ok (.getfield 69, 3) := by decide +kernel
theorem dX5_instrument_83 : decode cX5_instrument 83 = .ok (.iload_n 2, 1) := by decide +kernel
theorem dX5_instrument_84 : decode cX5_instrument 84 = .ok (.iastore, 1) := by decide +kernel
theorem dX5_instrument_85 : decode cX5_instrument 85 = .ok (.aload_n 0, 1) := by decide +kernel
theorem dX5_instrument_86 : decode cX5_instrument 86 = .ok (.getfield 32, 3) := by decide +kernel
theorem dX5_instrument_89 : decode cX5_instrument 89 = .ok (.aload_n 0, 1) := by decide +kernel
theorem dX5_instrument_90 : decode cX5_instrument 90 = .ok (.getfield 69, 3) := by decide +kernel
theorem dX5_instrument_93 : decode cX5_instrument 93 = .ok (.iload_n 3, 1) := by decide +kernel
theorem dX5_instrument_94 : decode cX5_instrument 94 = .ok (.iastore, 1) := by decide +kernel
theorem dX5_instrument_95 : decode cX5_instrument 95 = .ok (.aload_n 0, 1) := by decide +kernel
theorem dX5_instrument_96 : decode cX5_instrument 96 = .ok (.dup, 1) := by decide +kernel
theorem dX5_instrument_97 : decode cX5_instrument 97 = .ok (.getfield 69, 3) := by decide +kernel
theorem dX5_instrument_100 : decode cX5_instrument 100 = .ok (.iconst 1, 1) := by decide +kernel
theorem dX5_instrument_101 : decode cX5_instrument 101 = .ok (.iadd, 1) := by decide +kernel
theorem dX5_instrument_102 : decode cX5_instrument 102 = .ok (.putfield 69, 3) := by decide +kernel
theorem dX5_instrument_105 : decode cX5_instrument 105 = .ok (.aload_n 0, 1) := by decide +kernel
theorem dX5_instrument_106 : decode cX5_instrument 106 = .ok (.getfield 69, 3) := by decide +kernel
theorem dX5_instrument_109 : decode cX5_instrument 109 = .ok (.iconst 1, 1) := by decide +kernel
theorem dX5_instrument_110 : decode cX5_instrument 110 = .ok (.isub, 1) := by decide +kernel
theorem dX5_instrument_111 : decode cX5_instrument 111 = .ok (.ireturn, 1) := by decide +kernel
theorem dX5_capital_0 : decode cX5_capital 0 = .ok (.aload_n 0, 1) := by decide +kernel
theorem dX5_capital_1 : decode cX5_capital 1 = .ok (.lload_n 1, 1) := by decide +kernel
theorem dX5_capital_2 : decode cX5_capital 2 = .ok (.lconst 0, 1) := by decide +kernel
theorem dX5_capital_3 : decode cX5_capital 3 = .ok (.ldc2_w 76, 3) := by decide +kernel
theorem dX5_capital_6 : decode cX5_capital 6 = .ok (.invokestatic 78, 3) := by decide +kernel
theorem dX5_capital_9 : decode cX5_capital 9 = .ok (.ifCond .eq 7, 3) := by decide +kernel
theorem dX5_capital_12 : decode cX5_capital 12 = .ok (.iconst 0, 1) := by decide +kernel
theorem dX5_capital_13 : decode cX5_capital 13 = .ok (.goto 4, 3) := by decide +kernel
theorem dX5_capital_16 : decode cX5_capital 16 = .ok (.iconst 1, 1) := by decide +kernel
theorem dX5_capital_17 : decode cX5_capital 17 = .ok (.putfield 62, 3) := by decide +kernel
theorem dX5_capital_20 : decode cX5_capital 20 = .ok (.aload_n 0, 1) := by decide +kernel
theorem dX5_capital_21 : decode cX5_capital 21 = .ok (.getfield 62, 3) := by decide +kernel
theorem dX5_capital_24 : decode cX5_capital 24 = .ok (.ifCond .le 5, 3) := by decide +kernel
theorem dX5_capital_27 : decode cX5_capital 27 = .ok (.lconst 0, 1) := by decide +kernel
theorem dX5_capital_28 : decode cX5_capital 28 = .ok (.lreturn, 1) := by decide +kernel
theorem dX5_capital_29 : decode cX5_capital 29 = .ok (.aload_n 0, 1) := by decide +kernel
theorem dX5_capital_30 : decode cX5_capital 30 = .ok (.getfield 84, 3) := by decide +kernel
theorem dX5_capital_33 : decode cX5_capital 33 = .ok (.lload_n 1, 1) := by decide +kernel
theorem dX5_capital_34 : decode cX5_capital 34 = .ok (.ladd, 1) := by decide +kernel
theorem dX5_capital_35 : decode cX5_capital 35 = .ok (.invokestatic 88, 3) := by decide +kernel
theorem dX5_capital_38 : decode cX5_capital 38 = .ok (.ifCond .eq 7, 3) := by decide +kernel
theorem dX5_capital_41 : decode cX5_capital 41 = .ok (.ldc2_w 92, 3) := by decide +kernel
theorem dX5_capital_44 : decode cX5_capital 44 = .ok (.lreturn, 1) := by decide +kernel
theorem dX5_capital_45 : decode cX5_capital 45 = .ok (.aload_n 0, 1) := by decide +kernel
theorem dX5_capital_46 : decode cX5_capital 46 = .ok (.aload_n 0, 1) := by decide +kernel
theorem dX5_capital_47 : decode cX5_capital 47 = .ok (.getfield 84, 3) := by decide +kernel
theorem dX5_capital_50 : decode cX5_capital 50 = .ok (.lload_n 1, 1) := by decide +kernel
theorem dX5_capital_51 : decode cX5_capital 51 = .ok (.ladd, 1) := by decide +kernel
theorem dX5_capital_52 : decode cX5_capital 52 = .ok (.putfield 84, 3) := by decide +kernel
theorem dX5_capital_55 : decode cX5_capital 55 = .ok (.aload_n 0, 1) := by decide +kernel
theorem dX5_capital_56 : decode cX5_capital 56 = .ok (.getfield 84, 3) := by decide +kernel
theorem dX5_capital_59 : decode cX5_capital 59 = .ok (.lreturn, 1) := by decide +kernel
theorem dX5_move_0 : decode cX5_move 0 = .ok (.aload_n 0, 1) := by decide +kernel
theorem dX5_move_1 : decode cX5_move 1 = .ok (.iload_n 1, 1) := by decide +kernel
theorem dX5_move_2 : decode cX5_move 2 = .ok (.ifCond .lt 31, 3) := by decide +kernel
theorem dX5_move_5 : decode cX5_move 5 = .ok (.iload_n 1, 1) := by decide +kernel
theorem dX5_move_6 : decode cX5_move 6 = .ok (.bipush 7, 2) := by decide +kernel
theorem dX5_move_8 : decode cX5_move 8 = .ok (.if_icmp .gt 25, 3) := by decide +kernel
theorem dX5_move_11 : decode cX5_move 11 = .ok (.aload_n 0, 1) := by decide +kernel
theorem dX5_move_12 : decode cX5_move 12 = .ok (.iload_n 2, 1) := by decide +kernel
theorem dX5_move_13 : decode cX5_move 13 = .ok (.invokevirtual 94, 3) := by decide +kernel
theorem dX5_move_16 : decode cX5_move 16 = .ok (.ifCond .eq 17, 3) := by decide +kernel
theorem dX5_move_19 : decode cX5_move 19 = .ok (.iload_n 3, 1) := by decide +kernel
theorem dX5_move_20 : decode cX5_move 20 = .ok (.i2l, 1) := by decide +kernel
theorem dX5_move_21 : decode cX5_move 21 = .ok (.ldc2_w 98, 3) := by decide +kernel
theorem dX5_move_24 : decode cX5_move 24 = .ok (.ldc2_w 82, 3) := by decide +kernel
theorem dX5_move_27 : decode cX5_move 27 = .ok (.invokestatic 78, 3) := by decide +kernel
theorem dX5_move_30 : decode cX5_move 30 = .ok (.ifCond .ne 7, 3) := by decide +kernel
theorem dX5_move_33 : decode cX5_move 33 = .ok (.iconst 1, 1) := by decide +kernel
theorem dX5_move_34 : decode cX5_move 34 = .ok (.goto 4, 3) := by decide +kernel
theorem dX5_move_37 : decode cX5_move 37 = .ok (.iconst 0, 1) := by decide +kernel
theorem dX5_move_38 : decode cX5_move 38 = .ok (.putfield 62, 3) := by decide +kernel
theorem dX5_move_41 : decode cX5_move 41 = .ok (.aload_n 0, 1) := by decide +kernel
theorem dX5_move_42 : decode cX5_move 42 = .ok (.getfield 62, 3) := by decide +kernel
theorem dX5_move_45 : decode cX5_move 45 = .ok (.ifCond .ne 15, 3) := by decide +kernel
theorem dX5_move_48 : decode cX5_move 48 = .ok (.aload_n 0, 1) := by decide +kernel
theorem dX5_move_49 : decode cX5_move 49 = .ok (.getfield 35, 3) := by decide +kernel
theorem dX5_move_52 : decode cX5_move 52 = .ok (.bipush 6, 2) := by decide +kernel
theorem dX5_move_54 : decode cX5_move 54 = .ok (.iload_n 1, 1) := by decide +kernel
theorem dX5_move_55 : decode cX5_move 55 = .ok (.imul, 1) := by decide +kernel
theorem dX5_move_56 : decode cX5_move 56 = .ok (.iload_n 2, 1) := by decide +kernel
theorem dX5_move_57 : decode cX5_move 57 = .ok (.iadd, 1) := by decide +kernel
theorem dX5_move_58 : decode cX5_move 58 = .ok (.iload_n 3, 1) := by decide +kernel
theorem dX5_move_59 : decode cX5_move 59 = .ok (.iastore, 1) := by decide +kernel
theorem dX5_move_60 : decode cX5_move 60 = .ok (.return_, 1) := by decide +kernel
theorem dX5_bid_0 : decode cX5_bid 0 = .ok (.aload_n 0, 1) := by decide +kernel
theorem dX5_bid_1 : decode cX5_bid 1 = .ok (.aload_n 0, 1) := by decide +kernel
theorem dX5_bid_2 : decode cX5_bid 2 = .ok (.iload_n 1, 1) := by decide +kernel
theorem dX5_bid_3 : decode cX5_bid 3 = .ok (.invokevirtual 100, 3) := by decide +kernel
theorem dX5_bid_6 : decode cX5_bid 6 = .ok (.ifCond .eq 23, 3) := by decide +kernel
theorem dX5_bid_9 : decode cX5_bid 9 = .ok (.aload_n 0, 1) := by decide +kernel
theorem dX5_bid_10 : decode cX5_bid 10 = .ok (.iload_n 2, 1) := by decide +kernel
theorem dX5_bid_11 : decode cX5_bid 11 = .ok (.invokevirtual 94, 3) := by decide +kernel
theorem dX5_bid_14 : decode cX5_bid 14 = .ok (.ifCond .eq 15, 3) := by decide +kernel
theorem dX5_bid_17 : decode cX5_bid 17 = .ok (.iload_n 3, 1) := by decide +kernel
theorem dX5_bid_18 : decode cX5_bid 18 = .ok (.i2l, 1) := by decide +kernel
theorem dX5_bid_19 : decode cX5_bid 19 = .ok (.lconst 0, 1) := by decide +kernel
theorem dX5_bid_20 : decode cX5_bid 20 = .ok (.ldc2_w 82, 3) := by decide +kernel
theorem dX5_bid_23 : decode cX5_bid 23 = .ok (.invokestatic 78, 3) := by decide +kernel
theorem dX5_bid_26 : decode cX5_bid 26 = .ok (.ifCond .ne 7, 3) := by decide +kernel
theorem dX5_bid_29 : decode cX5_bid 29 = .ok (.iconst 1, 1) := by decide +kernel
theorem dX5_bid_30 : decode cX5_bid 30 = .ok (.goto 4, 3) := by decide +kernel
theorem dX5_bid_33 : decode cX5_bid 33 = .ok (.iconst 0, 1) := by decide +kernel
theorem dX5_bid_34 : decode cX5_bid 34 = .ok (.putfield 62, 3) := by decide +kernel
theorem dX5_bid_37 : decode cX5_bid 37 = .ok (.aload_n 0, 1) := by decide +kernel
theorem dX5_bid_38 : decode cX5_bid 38 = .ok (.getfield 62, 3) := by decide +kernel
theorem dX5_bid_41 : decode cX5_bid 41 = .ok (.ifCond .ne 15, 3) := by decide +kernel
theorem dX5_bid_44 : decode cX5_bid 44 = .ok (.aload_n 0, 1) := by decide +kernel
theorem dX5_bid_45 : decode cX5_bid 45 = .ok (.getfield 23, 3) := by decide +kernel
theorem dX5_bid_48 : decode cX5_bid 48 = .ok (.bipush 6, 2) := by decide +kernel
theorem dX5_bid_50 : decode cX5_bid 50 = .ok (.iload_n 1, 1) := by decide +kernel
theorem dX5_bid_51 : decode cX5_bid 51 = .ok (.imul, 1) := by decide +kernel
theorem dX5_bid_52 : decode cX5_bid 52 = .ok (.iload_n 2, 1) := by decide +kernel
theorem dX5_bid_53 : decode cX5_bid 53 = .ok (.iadd, 1) := by decide +kernel
theorem dX5_bid_54 : decode cX5_bid 54 = .ok (.iload_n 3, 1) := by decide +kernel
theorem dX5_bid_55 : decode cX5_bid 55 = .ok (.iastore, 1) := by decide +kernel
theorem dX5_bid_56 : decode cX5_bid 56 = .ok (.return_, 1) := by decide +kernel
theorem dX5_deposit_0 : decode cX5_deposit 0 = .ok (.aload_n 0, 1) := by decide +kernel
theorem dX5_deposit_1 : decode cX5_deposit 1 = .ok (.aload_n 0, 1) := by decide +kernel
theorem dX5_deposit_2 : decode cX5_deposit 2 = .ok (.iload_n 1, 1) := by decide +kernel
theorem dX5_deposit_3 : decode cX5_deposit 3 = .ok (.invokevirtual 100, 3) := by decide +kernel
theorem dX5_deposit_6 : decode cX5_deposit 6 = .ok (.ifCond .eq 14, 3) := by decide +kernel
theorem dX5_deposit_9 : decode cX5_deposit 9 = .ok (.lload_n 2, 1) := by decide +kernel
theorem dX5_deposit_10 : decode cX5_deposit 10 = .ok (.lconst 1, 1) := by decide +kernel
theorem dX5_deposit_11 : decode cX5_deposit 11 = .ok (.ldc2_w 76, 3) := by decide +kernel
theorem dX5_deposit_14 : decode cX5_deposit 14 = .ok (.invokestatic 78, 3) := by decide +kernel
theorem dX5_deposit_17 : decode cX5_deposit 17 = .ok (.ifCond .ne 7, 3) := by decide +kernel
theorem dX5_deposit_20 : decode cX5_deposit 20 = .ok (.iconst 1, 1) := by decide +kernel
theorem dX5_deposit_21 : decode cX5_deposit 21 = .ok (.goto 17, 3) := by decide +kernel
theorem dX5_deposit_24 : decode cX5_deposit 24 = .ok (.aload_n 0, 1) := by decide +kernel
theorem dX5_deposit_25 : decode cX5_deposit 25 = .ok (.getfield 16, 3) := by decide +kernel
theorem dX5_deposit_28 : decode cX5_deposit 28 = .ok (.iload_n 1, 1) := by decide +kernel
theorem dX5_deposit_29 : decode cX5_deposit 29 = .ok (.iaload, 1) := by decide +kernel
theorem dX5_deposit_30 : decode cX5_deposit 30 = .ok (.ifCond .eq 7, 3) := by decide +kernel
theorem dX5_deposit_33 : decode cX5_deposit 33 = .ok (.iconst 2, 1) := by decide +kernel
theorem dX5_deposit_34 : decode cX5_deposit 34 = .ok (.goto 4, 3) := by decide +kernel
theorem dX5_deposit_37 : decode cX5_deposit 37 = .ok (.iconst 0, 1) := by decide +kernel
theorem dX5_deposit_38 : decode cX5_deposit 38 = .ok (.putfield 62, 3) := by decide +kernel
theorem dX5_deposit_41 : decode cX5_deposit 41 = .ok (.aload_n 0, 1) := by decide +kernel
theorem dX5_deposit_42 : decode cX5_deposit 42 = .ok (.getfield 62, 3) := by decide +kernel
theorem dX5_deposit_45 : decode cX5_deposit 45 = .ok (.ifCond .le 5, 3) := by decide +kernel
theorem dX5_deposit_48 : decode cX5_deposit 48 = .ok (.lconst 0, 1) := by decide +kernel
theorem dX5_deposit_49 : decode cX5_deposit 49 = .ok (.lreturn, 1) := by decide +kernel
theorem dX5_deposit_50 : decode cX5_deposit 50 = .ok (.aload_n 0, 1) := by decide +kernel
theorem dX5_deposit_51 : decode cX5_deposit 51 = .ok (.getfield 7, 3) := by decide +kernel
theorem dX5_deposit_54 : decode cX5_deposit 54 = .ok (.iload_n 1, 1) := by decide +kernel
theorem dX5_deposit_55 : decode cX5_deposit 55 = .ok (.laload, 1) := by decide +kernel
theorem dX5_deposit_56 : decode cX5_deposit 56 = .ok (.lload_n 2, 1) := by decide +kernel
theorem dX5_deposit_57 : decode cX5_deposit 57 = .ok (.ladd, 1) := by decide +kernel
theorem dX5_deposit_58 : decode cX5_deposit 58 = .ok (.invokestatic 88, 3) := by decide +kernel
theorem dX5_deposit_61 : decode cX5_deposit 61 = .ok (.ifCond .eq 7, 3) := by decide +kernel
theorem dX5_deposit_64 : decode cX5_deposit 64 = .ok (.ldc2_w 92, 3) := by decide +kernel
theorem dX5_deposit_67 : decode cX5_deposit 67 = .ok (.lreturn, 1) := by decide +kernel
theorem dX5_deposit_68 : decode cX5_deposit 68 = .ok (.aload_n 0, 1) := by decide +kernel
theorem dX5_deposit_69 : decode cX5_deposit 69 = .ok (.getfield 7, 3) := by decide +kernel
theorem dX5_deposit_72 : decode cX5_deposit 72 = .ok (.iload_n 1, 1) := by decide +kernel
theorem dX5_deposit_73 : decode cX5_deposit 73 = .ok (.aload_n 0, 1) := by decide +kernel
theorem dX5_deposit_74 : decode cX5_deposit 74 = .ok (.getfield 7, 3) := by decide +kernel
theorem dX5_deposit_77 : decode cX5_deposit 77 = .ok (.iload_n 1, 1) := by decide +kernel
theorem dX5_deposit_78 : decode cX5_deposit 78 = .ok (.laload, 1) := by decide +kernel
theorem dX5_deposit_79 : decode cX5_deposit 79 = .ok (.lload_n 2, 1) := by decide +kernel
theorem dX5_deposit_80 : decode cX5_deposit 80 = .ok (.ladd, 1) := by decide +kernel
theorem dX5_deposit_81 : decode cX5_deposit 81 = .ok (.lastore, 1) := by decide +kernel
theorem dX5_deposit_82 : decode cX5_deposit 82 = .ok (.aload_n 0, 1) := by decide +kernel
theorem dX5_deposit_83 : decode cX5_deposit 83 = .ok (.getfield 7, 3) := by decide +kernel
theorem dX5_deposit_86 : decode cX5_deposit 86 = .ok (.iload_n 1, 1) := by decide +kernel
theorem dX5_deposit_87 : decode cX5_deposit 87 = .ok (.laload, 1) := by decide +kernel
theorem dX5_deposit_88 : decode cX5_deposit 88 = .ok (.lreturn, 1) := by decide +kernel
theorem dX5_marginOf_0 : decode cX5_marginOf 0 = .ok (.lconst 0, 1) := by decide +kernel
theorem dX5_marginOf_1 : decode cX5_marginOf 1 = .ok (.lstore_n 2, 1) := by decide +kernel
theorem dX5_marginOf_2 : decode cX5_marginOf 2 = .ok (.iconst 0, 1) := by decide +kernel
theorem dX5_marginOf_3 : decode cX5_marginOf 3 = .ok (.istore 4, 2) := by decide +kernel
theorem dX5_marginOf_5 : decode cX5_marginOf 5 = .ok (.iload 4, 2) := by decide +kernel
theorem dX5_marginOf_7 : decode cX5_marginOf 7 = .ok (.bipush 8, 2) := by decide +kernel
theorem dX5_marginOf_9 : decode cX5_marginOf 9 = .ok (.if_icmp .ge 77, 3) := by decide +kernel
theorem dX5_marginOf_12 : decode cX5_marginOf 12 = .ok (.lconst 0, 1) := by decide +kernel
theorem dX5_marginOf_13 : decode cX5_marginOf 13 = .ok (.lstore 5, 2) := by decide +kernel
theorem dX5_marginOf_15 : decode cX5_marginOf 15 = .ok (.iconst 0, 1) := by decide +kernel
theorem dX5_marginOf_16 : decode cX5_marginOf 16 = .ok (.istore 7, 2) := by decide +kernel
theorem dX5_marginOf_18 : decode cX5_marginOf 18 = .ok (.iload 7, 2) := by decide +kernel
theorem dX5_marginOf_20 : decode cX5_marginOf 20 = .ok (.aload_n 0, 1) := by decide +kernel
theorem dX5_marginOf_21 : decode cX5_marginOf 21 = .ok (.getfield 69, 3) := by decide +kernel
theorem dX5_marginOf_24 : decode cX5_marginOf 24 = .ok (.if_icmp .ge 42, 3) := by decide +kernel
theorem dX5_marginOf_27 : decode cX5_marginOf 27 = .ok (.lload 5, 2) := by decide +kernel
theorem dX5_marginOf_29 : decode cX5_marginOf 29 = .ok (.aload_n 0, 1) := by decide +kernel
theorem dX5_marginOf_30 : decode cX5_marginOf 30 = .ok (.getfield 20, 3) := by decide +kernel
theorem dX5_marginOf_33 : decode cX5_marginOf 33 = .ok (.bipush 6, 2) := by decide +kernel
theorem dX5_marginOf_35 : decode cX5_marginOf 35 = .ok (.iload_n 1, 1) := by decide +kernel
theorem dX5_marginOf_36 : decode cX5_marginOf 36 = .ok (.imul, 1) := by decide +kernel
theorem dX5_marginOf_37 : decode cX5_marginOf 37 = .ok (.iload 7, 2) := by decide +kernel
theorem dX5_marginOf_39 : decode cX5_marginOf 39 = .ok (.iadd, 1) := by decide +kernel
theorem dX5_marginOf_40 : decode cX5_marginOf 40 = .ok (.iaload, 1) := by decide +kernel
theorem dX5_marginOf_41 : decode cX5_marginOf 41 = .ok (.i2l, 1) := by decide +kernel
theorem dX5_marginOf_42 : decode cX5_marginOf 42 = .ok (.aload_n 0, 1) := by decide +kernel
theorem dX5_marginOf_43 : decode cX5_marginOf 43 = .ok (.getfield 35, 3) := by decide +kernel
theorem dX5_marginOf_46 : decode cX5_marginOf 46 = .ok (.bipush 6, 2) := by decide +kernel
theorem dX5_marginOf_48 : decode cX5_marginOf 48 = .ok (.iload 4, 2) := by decide +kernel
theorem dX5_marginOf_50 : decode cX5_marginOf 50 = .ok (.imul, 1) := by decide +kernel
theorem dX5_marginOf_51 : decode cX5_marginOf 51 = .ok (.iload 7, 2) := by decide +kernel
theorem dX5_marginOf_53 : decode cX5_marginOf 53 = .ok (.iadd, 1) := by decide +kernel
theorem dX5_marginOf_54 : decode cX5_marginOf 54 = .ok (.iaload, 1) := by decide +kernel
theorem dX5_marginOf_55 : decode cX5_marginOf 55 = .ok (.i2l, 1) := by decide +kernel
theorem dX5_marginOf_56 : decode cX5_marginOf 56 = .ok (.lmul, 1) := by decide +kernel
theorem dX5_marginOf_57 : decode cX5_marginOf 57 = .ok (.lsub, 1) := by decide +kernel
theorem dX5_marginOf_58 : decode cX5_marginOf 58 = .ok (.lstore 5, 2) := by decide +kernel
theorem dX5_marginOf_60 : decode cX5_marginOf 60 = .ok (.iinc 7 1, 3) := by decide +kernel
theorem dX5_marginOf_63 : decode cX5_marginOf 63 = .ok (.goto (-45), 3) := by decide +kernel
theorem dX5_marginOf_66 : decode cX5_marginOf 66 = .ok (.lload 5, 2) := by decide +kernel
theorem dX5_marginOf_68 : decode cX5_marginOf 68 = .ok (.lload_n 2, 1) := by decide +kernel
theorem dX5_marginOf_69 : decode cX5_marginOf 69 = .ok (.lcmp, 1) := by decide +kernel
theorem dX5_marginOf_70 : decode cX5_marginOf 70 = .ok (.ifCond .le 8, 3) := by decide +kernel
theorem dX5_marginOf_73 : decode cX5_marginOf 73 = .ok (.lload 5, 2) := by decide +kernel
theorem dX5_marginOf_75 : decode cX5_marginOf 75 = .ok (.goto 4, 3) := by decide +kernel
theorem dX5_marginOf_78 : decode cX5_marginOf 78 = .ok (.lload_n 2, 1) := by decide +kernel
theorem dX5_marginOf_79 : decode cX5_marginOf 79 = .ok (.lstore_n 2, 1) := by decide +kernel
theorem dX5_marginOf_80 : decode cX5_marginOf 80 = .ok (.iinc 4 1, 3) := by decide +kernel
theorem dX5_marginOf_83 : decode cX5_marginOf 83 = .ok (.goto (-78), 3) := by decide +kernel
theorem dX5_marginOf_86 : decode cX5_marginOf 86 = .ok (.iconst 0, 1) := by decide +kernel
theorem dX5_marginOf_87 : decode cX5_marginOf 87 = .ok (.istore 4, 2) := by decide +kernel
theorem dX5_marginOf_89 : decode cX5_marginOf 89 = .ok (.iload 4, 2) := by decide +kernel
theorem dX5_marginOf_91 : decode cX5_marginOf 91 = .ok (.aload_n 0, 1) := by decide +kernel
theorem dX5_marginOf_92 : decode cX5_marginOf 92 = .ok (.getfield 69, 3) := by decide +kernel
theorem dX5_marginOf_95 : decode cX5_marginOf 95 = .ok (.if_icmp .ge 78, 3) := by decide +kernel
theorem dX5_marginOf_98 : decode cX5_marginOf 98 = .ok (.aload_n 0, 1) := by decide +kernel
theorem dX5_marginOf_99 : decode cX5_marginOf 99 = .ok (.getfield 20, 3) := by decide +kernel
theorem dX5_marginOf_102 : decode cX5_marginOf 102 = .ok (.bipush 6, 2) := by decide +kernel
theorem dX5_marginOf_104 : decode cX5_marginOf 104 = .ok (.iload_n 1, 1) := by decide +kernel
theorem dX5_marginOf_105 : decode cX5_marginOf 105 = .ok (.imul, 1) := by decide +kernel
theorem dX5_marginOf_106 : decode cX5_marginOf 106 = .ok (.iload 4, 2) := by decide +kernel
theorem dX5_marginOf_108 : decode cX5_marginOf 108 = .ok (.iadd, 1) := by decide +kernel
theorem dX5_marginOf_109 : decode cX5_marginOf 109 = .ok (.iaload, 1) := by decide +kernel
theorem dX5_marginOf_110 : decode cX5_marginOf 110 = .ok (.i2l, 1) := by decide +kernel
theorem dX5_marginOf_111 : decode cX5_marginOf 111 = .ok (.lstore 5, 2) := by decide +kernel
theorem dX5_marginOf_113 : decode cX5_marginOf 113 = .ok (.lload 5, 2) := by decide +kernel
theorem dX5_marginOf_115 : decode cX5_marginOf 115 = .ok (.lconst 0, 1) := by decide +kernel
theorem dX5_marginOf_116 : decode cX5_marginOf 116 = .ok (.lcmp, 1) := by decide +kernel
theorem dX5_marginOf_117 : decode cX5_marginOf 117 = .ok (.ifCond .ge 9, 3) := by decide +kernel
theorem dX5_marginOf_120 : decode cX5_marginOf 120 = .ok (.lload 5, 2) := by decide +kernel
theorem dX5_marginOf_122 : decode cX5_marginOf 122 = .ok (.lneg, 1) := by decide +kernel
theorem dX5_marginOf_123 : decode cX5_marginOf 123 = .ok (.goto 5, 3) := by decide +kernel
theorem dX5_marginOf_126 : decode cX5_marginOf 126 = .ok (.lload 5, 2) := by decide +kernel
theorem dX5_marginOf_128 : decode cX5_marginOf 128 = .ok (.lstore 5, 2) := by decide +kernel
theorem dX5_marginOf_130 : decode cX5_marginOf 130 = .ok (.lload 5, 2) := by decide +kernel
theorem dX5_marginOf_132 : decode cX5_marginOf 132 = .ok (.aload_n 0, 1) := by decide +kernel
theorem dX5_marginOf_133 : decode cX5_marginOf 133 = .ok (.getfield 29, 3) := by decide +kernel
theorem dX5_marginOf_136 : decode cX5_marginOf 136 = .ok (.iload 4, 2) := by decide +kernel
theorem dX5_marginOf_138 : decode cX5_marginOf 138 = .ok (.iaload, 1) := by decide +kernel
theorem dX5_marginOf_139 : decode cX5_marginOf 139 = .ok (.i2l, 1) := by decide +kernel
theorem dX5_marginOf_140 : decode cX5_marginOf 140 = .ok (.lcmp, 1) := by decide +kernel
theorem dX5_marginOf_141 : decode cX5_marginOf 141 = .ok (.ifCond .le 26, 3) := by decide +kernel
theorem dX5_marginOf_144 : decode cX5_marginOf 144 = .ok (.lload_n 2, 1) := by decide +kernel
theorem dX5_marginOf_145 : decode cX5_marginOf 145 = .ok (.aload_n 0, 1) := by decide +kernel
theorem dX5_marginOf_146 : decode cX5_marginOf 146 = .ok (.getfield 32, 3) := by decide +kernel
theorem dX5_marginOf_149 : decode cX5_marginOf 149 = .ok (.iload 4, 2) := by decide +kernel
theorem dX5_marginOf_151 : decode cX5_marginOf 151 = .ok (.iaload, 1) := by decide +kernel
theorem dX5_marginOf_152 : decode cX5_marginOf 152 = .ok (.i2l, 1) := by decide +kernel
theorem dX5_marginOf_153 : decode cX5_marginOf 153 = .ok (.lload 5, 2) := by decide +kernel
theorem dX5_marginOf_155 : decode cX5_marginOf 155 = .ok (.aload_n 0, 1) := by decide +kernel
theorem dX5_marginOf_156 : decode cX5_marginOf 156 = .ok (.getfield 29, 3) := by decide +kernel
theorem dX5_marginOf_159 : decode cX5_marginOf 159 = .ok (.iload 4, 2) := by decide +kernel
theorem dX5_marginOf_161 : decode cX5_marginOf 161 = .ok (.iaload, 1) := by decide +kernel
theorem dX5_marginOf_162 : decode cX5_marginOf 162 = .ok (.i2l, 1) := by decide +kernel
theorem dX5_marginOf_163 : decode cX5_marginOf 163 = .ok (.lsub, 1) := by decide +kernel
theorem dX5_marginOf_164 : decode cX5_marginOf 164 = .ok (.lmul, 1) := by decide +kernel
theorem dX5_marginOf_165 : decode cX5_marginOf 165 = .ok (.ladd, 1) := by decide +kernel
theorem dX5_marginOf_166 : decode cX5_marginOf 166 = .ok (.lstore_n 2, 1) := by decide +kernel
theorem dX5_marginOf_167 : decode cX5_marginOf 167 = .ok (.iinc 4 1, 3) := by decide +kernel
theorem dX5_marginOf_170 : decode cX5_marginOf 170 = .ok (.goto (-81), 3) := by decide +kernel
theorem dX5_marginOf_173 : decode cX5_marginOf 173 = .ok (.lload_n 2, 1) := by decide +kernel
theorem dX5_marginOf_174 : decode cX5_marginOf 174 = .ok (.lreturn, 1) := by decide +kernel
theorem dX5_withdraw_0 : decode cX5_withdraw 0 = .ok (.aload_n 0, 1) := by decide +kernel
theorem dX5_withdraw_1 : decode cX5_withdraw 1 = .ok (.aload_n 0, 1) := by decide +kernel
theorem dX5_withdraw_2 : decode cX5_withdraw 2 = .ok (.iload_n 1, 1) := by decide +kernel
theorem dX5_withdraw_3 : decode cX5_withdraw 3 = .ok (.invokevirtual 100, 3) := by decide +kernel
theorem dX5_withdraw_6 : decode cX5_withdraw 6 = .ok (.ifCond .eq 14, 3) := by decide +kernel
theorem dX5_withdraw_9 : decode cX5_withdraw 9 = .ok (.lload_n 2, 1) := by decide +kernel
theorem dX5_withdraw_10 : decode cX5_withdraw 10 = .ok (.lconst 1, 1) := by decide +kernel
theorem dX5_withdraw_11 : decode cX5_withdraw 11 = .ok (.ldc2_w 76, 3) := by decide +kernel
theorem dX5_withdraw_14 : decode cX5_withdraw 14 = .ok (.invokestatic 78, 3) := by decide +kernel
theorem dX5_withdraw_17 : decode cX5_withdraw 17 = .ok (.ifCond .ne 7, 3) := by decide +kernel
theorem dX5_withdraw_20 : decode cX5_withdraw 20 = .ok (.iconst 1, 1) := by decide +kernel
theorem dX5_withdraw_21 : decode cX5_withdraw 21 = .ok (.goto 17, 3) := by decide +kernel
theorem dX5_withdraw_24 : decode cX5_withdraw 24 = .ok (.aload_n 0, 1) := by decide +kernel
theorem dX5_withdraw_25 : decode cX5_withdraw 25 = .ok (.getfield 16, 3) := by decide +kernel
theorem dX5_withdraw_28 : decode cX5_withdraw 28 = .ok (.iload_n 1, 1) := by decide +kernel
theorem dX5_withdraw_29 : decode cX5_withdraw 29 = .ok (.iaload, 1) := by decide +kernel
theorem dX5_withdraw_30 : decode cX5_withdraw 30 = .ok (.ifCond .eq 7, 3) := by decide +kernel
theorem dX5_withdraw_33 : decode cX5_withdraw 33 = .ok (.iconst 2, 1) := by decide +kernel
theorem dX5_withdraw_34 : decode cX5_withdraw 34 = .ok (.goto 4, 3) := by decide +kernel
theorem dX5_withdraw_37 : decode cX5_withdraw 37 = .ok (.iconst 0, 1) := by decide +kernel
theorem dX5_withdraw_38 : decode cX5_withdraw 38 = .ok (.putfield 62, 3) := by decide +kernel
theorem dX5_withdraw_41 : decode cX5_withdraw 41 = .ok (.aload_n 0, 1) := by decide +kernel
theorem dX5_withdraw_42 : decode cX5_withdraw 42 = .ok (.getfield 62, 3) := by decide +kernel
theorem dX5_withdraw_45 : decode cX5_withdraw 45 = .ok (.ifCond .le 5, 3) := by decide +kernel
theorem dX5_withdraw_48 : decode cX5_withdraw 48 = .ok (.lconst 0, 1) := by decide +kernel
theorem dX5_withdraw_49 : decode cX5_withdraw 49 = .ok (.lreturn, 1) := by decide +kernel
theorem dX5_withdraw_50 : decode cX5_withdraw 50 = .ok (.aload_n 0, 1) := by decide +kernel
theorem dX5_withdraw_51 : decode cX5_withdraw 51 = .ok (.getfield 7, 3) := by decide +kernel
theorem dX5_withdraw_54 : decode cX5_withdraw 54 = .ok (.iload_n 1, 1) := by decide +kernel
theorem dX5_withdraw_55 : decode cX5_withdraw 55 = .ok (.laload, 1) := by decide +kernel
theorem dX5_withdraw_56 : decode cX5_withdraw 56 = .ok (.lload_n 2, 1) := by decide +kernel
theorem dX5_withdraw_57 : decode cX5_withdraw 57 = .ok (.lsub, 1) := by decide +kernel
theorem dX5_withdraw_58 : decode cX5_withdraw 58 = .ok (.aload_n 0, 1) := by decide +kernel
theorem dX5_withdraw_59 : decode cX5_withdraw 59 = .ok (.iload_n 1, 1) := by decide +kernel
theorem dX5_withdraw_60 : decode cX5_withdraw 60 = .ok (.invokevirtual 103, 3) := by decide +kernel
theorem dX5_withdraw_63 : decode cX5_withdraw 63 = .ok (.lcmp, 1) := by decide +kernel
theorem dX5_withdraw_64 : decode cX5_withdraw 64 = .ok (.ifCond .lt 17, 3) := by decide +kernel
theorem dX5_withdraw_67 : decode cX5_withdraw 67 = .ok (.aload_n 0, 1) := by decide +kernel
theorem dX5_withdraw_68 : decode cX5_withdraw 68 = .ok (.getfield 7, 3) := by decide +kernel
theorem dX5_withdraw_71 : decode cX5_withdraw 71 = .ok (.iload_n 1, 1) := by decide +kernel
theorem dX5_withdraw_72 : decode cX5_withdraw 72 = .ok (.laload, 1) := by decide +kernel
theorem dX5_withdraw_73 : decode cX5_withdraw 73 = .ok (.lload_n 2, 1) := by decide +kernel
theorem dX5_withdraw_74 : decode cX5_withdraw 74 = .ok (.lsub, 1) := by decide +kernel
theorem dX5_withdraw_75 : decode cX5_withdraw 75 = .ok (.invokestatic 88, 3) := by decide +kernel
theorem dX5_withdraw_78 : decode cX5_withdraw 78 = .ok (.ifCond .eq 7, 3) := by decide +kernel
theorem dX5_withdraw_81 : decode cX5_withdraw 81 = .ok (.ldc2_w 92, 3) := by decide +kernel
theorem dX5_withdraw_84 : decode cX5_withdraw 84 = .ok (.lreturn, 1) := by decide +kernel
theorem dX5_withdraw_85 : decode cX5_withdraw 85 = .ok (.aload_n 0, 1) := by decide +kernel
theorem dX5_withdraw_86 : decode cX5_withdraw 86 = .ok (.getfield 7, 3) := by decide +kernel
theorem dX5_withdraw_89 : decode cX5_withdraw 89 = .ok (.iload_n 1, 1) := by decide +kernel
theorem dX5_withdraw_90 : decode cX5_withdraw 90 = .ok (.aload_n 0, 1) := by decide +kernel
theorem dX5_withdraw_91 : decode cX5_withdraw 91 = .ok (.getfield 7, 3) := by decide +kernel
theorem dX5_withdraw_94 : decode cX5_withdraw 94 = .ok (.iload_n 1, 1) := by decide +kernel
theorem dX5_withdraw_95 : decode cX5_withdraw 95 = .ok (.laload, 1) := by decide +kernel
theorem dX5_withdraw_96 : decode cX5_withdraw 96 = .ok (.lload_n 2, 1) := by decide +kernel
theorem dX5_withdraw_97 : decode cX5_withdraw 97 = .ok (.lsub, 1) := by decide +kernel
theorem dX5_withdraw_98 : decode cX5_withdraw 98 = .ok (.lastore, 1) := by decide +kernel
theorem dX5_withdraw_99 : decode cX5_withdraw 99 = .ok (.aload_n 0, 1) := by decide +kernel
theorem dX5_withdraw_100 : decode cX5_withdraw 100 = .ok (.getfield 7, 3) := by decide +kernel
theorem dX5_withdraw_103 : decode cX5_withdraw 103 = .ok (.iload_n 1, 1) := by decide +kernel
theorem dX5_withdraw_104 : decode cX5_withdraw 104 = .ok (.laload, 1) := by decide +kernel
theorem dX5_withdraw_105 : decode cX5_withdraw 105 = .ok (.lreturn, 1) := by decide +kernel
theorem dX5_trade_0 : decode cX5_trade 0 = .ok (.aload_n 0, 1) := by decide +kernel
theorem dX5_trade_1 : decode cX5_trade 1 = .ok (.iload_n 1, 1) := by decide +kernel
theorem dX5_trade_2 : decode cX5_trade 2 = .ok (.invokevirtual 100, 3) := by decide +kernel
theorem dX5_trade_5 : decode cX5_trade 5 = .ok (.ifCond .eq 28, 3) := by decide +kernel
theorem dX5_trade_8 : decode cX5_trade 8 = .ok (.aload_n 0, 1) := by decide +kernel
theorem dX5_trade_9 : decode cX5_trade 9 = .ok (.iload_n 2, 1) := by decide +kernel
theorem dX5_trade_10 : decode cX5_trade 10 = .ok (.invokevirtual 100, 3) := by decide +kernel
theorem dX5_trade_13 : decode cX5_trade 13 = .ok (.ifCond .eq 20, 3) := by decide +kernel
theorem dX5_trade_16 : decode cX5_trade 16 = .ok (.iload_n 1, 1) := by decide +kernel
theorem dX5_trade_17 : decode cX5_trade 17 = .ok (.iload_n 2, 1) := by decide +kernel
theorem dX5_trade_18 : decode cX5_trade 18 = .ok (.if_icmp .eq 15, 3) := by decide +kernel
theorem dX5_trade_21 : decode cX5_trade 21 = .ok (.aload_n 0, 1) := by decide +kernel
theorem dX5_trade_22 : decode cX5_trade 22 = .ok (.iload_n 3, 1) := by decide +kernel
theorem dX5_trade_23 : decode cX5_trade 23 = .ok (.invokevirtual 94, 3) := by decide +kernel
theorem dX5_trade_26 : decode cX5_trade 26 = .ok (.ifCond .eq 7, 3) := by decide +kernel
theorem dX5_trade_29 : decode cX5_trade 29 = .ok (.iconst 1, 1) := by decide +kernel
theorem dX5_trade_30 : decode cX5_trade 30 = .ok (.goto 4, 3) := by decide +kernel
theorem dX5_trade_33 : decode cX5_trade 33 = .ok (.iconst 0, 1) := by decide +kernel
theorem dX5_trade_34 : decode cX5_trade 34 = .ok (.istore 6, 2) := by decide +kernel
theorem dX5_trade_36 : decode cX5_trade 36 = .ok (.iload 6, 2) := by decide +kernel
theorem dX5_trade_38 : decode cX5_trade 38 = .ok (.ifCond .eq 33, 3) := by decide +kernel
theorem dX5_trade_41 : decode cX5_trade 41 = .ok (.iload 4, 2) := by decide +kernel
theorem dX5_trade_43 : decode cX5_trade 43 = .ok (.i2l, 1) := by decide +kernel
theorem dX5_trade_44 : decode cX5_trade 44 = .ok (.lconst 1, 1) := by decide +kernel
theorem dX5_trade_45 : decode cX5_trade 45 = .ok (.ldc2_w 107, 3) := by decide +kernel
theorem dX5_trade_48 : decode cX5_trade 48 = .ok (.invokestatic 78, 3) := by decide +kernel
theorem dX5_trade_51 : decode cX5_trade 51 = .ok (.ifCond .eq 20, 3) := by decide +kernel
theorem dX5_trade_54 : decode cX5_trade 54 = .ok (.iload 5, 2) := by decide +kernel
theorem dX5_trade_56 : decode cX5_trade 56 = .ok (.i2l, 1) := by decide +kernel
theorem dX5_trade_57 : decode cX5_trade 57 = .ok (.lconst 0, 1) := by decide +kernel
theorem dX5_trade_58 : decode cX5_trade 58 = .ok (.ldc2_w 82, 3) := by decide +kernel
theorem dX5_trade_61 : decode cX5_trade 61 = .ok (.invokestatic 78, 3) := by decide +kernel
theorem dX5_trade_64 : decode cX5_trade 64 = .ok (.ifCond .eq 7, 3) := by decide +kernel
theorem dX5_trade_67 : decode cX5_trade 67 = .ok (.iconst 1, 1) := by decide +kernel
theorem dX5_trade_68 : decode cX5_trade 68 = .ok (.goto 4, 3) := by decide +kernel
theorem dX5_trade_71 : decode cX5_trade 71 = .ok (.iconst 0, 1) := by decide +kernel
theorem dX5_trade_72 : decode cX5_trade 72 = .ok (.istore 6, 2) := by decide +kernel
theorem dX5_trade_74 : decode cX5_trade 74 = .ok (.aload_n 0, 1) := by decide +kernel
theorem dX5_trade_75 : decode cX5_trade 75 = .ok (.iload 6, 2) := by decide +kernel
theorem dX5_trade_77 : decode cX5_trade 77 = .ok (.ifCond .ne 7, 3) := by decide +kernel
theorem dX5_trade_80 : decode cX5_trade 80 = .ok (.iconst 1, 1) := by decide +kernel
theorem dX5_trade_81 : decode cX5_trade 81 = .ok (.goto 26, 3) := by decide +kernel
theorem dX5_trade_84 : decode cX5_trade 84 = .ok (.aload_n 0, 1) := by decide +kernel
theorem dX5_trade_85 : decode cX5_trade 85 = .ok (.getfield 16, 3) := by decide +kernel
theorem dX5_trade_88 : decode cX5_trade 88 = .ok (.iload_n 1, 1) := by decide +kernel
theorem dX5_trade_89 : decode cX5_trade 89 = .ok (.iaload, 1) := by decide +kernel
theorem dX5_trade_90 : decode cX5_trade 90 = .ok (.ifCond .ne 12, 3) := by decide +kernel
theorem dX5_trade_93 : decode cX5_trade 93 = .ok (.aload_n 0, 1) := by decide +kernel
theorem dX5_trade_94 : decode cX5_trade 94 = .ok (.getfield 16, 3) := by decide +kernel
theorem dX5_trade_97 : decode cX5_trade 97 = .ok (.iload_n 2, 1) := by decide +kernel
theorem dX5_trade_98 : decode cX5_trade 98 = .ok (.iaload, 1) := by decide +kernel
theorem dX5_trade_99 : decode cX5_trade 99 = .ok (.ifCond .eq 7, 3) := by decide +kernel
theorem dX5_trade_102 : decode cX5_trade 102 = .ok (.iconst 2, 1) := by decide +kernel
theorem dX5_trade_103 : decode cX5_trade 103 = .ok (.goto 4, 3) := by decide +kernel
theorem dX5_trade_106 : decode cX5_trade 106 = .ok (.iconst 0, 1) := by decide +kernel
theorem dX5_trade_107 : decode cX5_trade 107 = .ok (.putfield 62, 3) := by decide +kernel
theorem dX5_trade_110 : decode cX5_trade 110 = .ok (.aload_n 0, 1) := by decide +kernel
theorem dX5_trade_111 : decode cX5_trade 111 = .ok (.getfield 62, 3) := by decide +kernel
theorem dX5_trade_114 : decode cX5_trade 114 = .ok (.ifCond .le 5, 3) := by decide +kernel
theorem dX5_trade_117 : decode cX5_trade 117 = .ok (.iconst 0, 1) := by decide +kernel
theorem dX5_trade_118 : decode cX5_trade 118 = .ok (.ireturn, 1) := by decide +kernel
theorem dX5_trade_119 : decode cX5_trade 119 = .ok (.aload_n 0, 1) := by decide +kernel
theorem dX5_trade_120 : decode cX5_trade 120 = .ok (.getfield 20, 3) := by decide +kernel
theorem dX5_trade_123 : decode cX5_trade 123 = .ok (.bipush 6, 2) := by decide +kernel
theorem dX5_trade_125 : decode cX5_trade 125 = .ok (.iload_n 1, 1) := by decide +kernel
theorem dX5_trade_126 : decode cX5_trade 126 = .ok (.imul, 1) := by decide +kernel
theorem dX5_trade_127 : decode cX5_trade 127 = .ok (.iload_n 3, 1) := by decide +kernel
theorem dX5_trade_128 : decode cX5_trade 128 = .ok (.iadd, 1) := by decide +kernel
theorem dX5_trade_129 : decode cX5_trade 129 = .ok (.iaload, 1) := by decide +kernel
theorem dX5_trade_130 : decode cX5_trade 130 = .ok (.iload 4, 2) := by decide +kernel
theorem dX5_trade_132 : decode cX5_trade 132 = .ok (.iadd, 1) := by decide +kernel
theorem dX5_trade_133 : decode cX5_trade 133 = .ok (.istore 7, 2) := by decide +kernel
theorem dX5_trade_135 : decode cX5_trade 135 = .ok (.aload_n 0, 1) := by decide +kernel
theorem dX5_trade_136 : decode cX5_trade 136 = .ok (.getfield 20, 3) := by decide +kernel
theorem dX5_trade_139 : decode cX5_trade 139 = .ok (.bipush 6, 2) := by decide +kernel
theorem dX5_trade_141 : decode cX5_trade 141 = .ok (.iload_n 2, 1) := by decide +kernel
theorem dX5_trade_142 : decode cX5_trade 142 = .ok (.imul, 1) := by decide +kernel
theorem dX5_trade_143 : decode cX5_trade 143 = .ok (.iload_n 3, 1) := by decide +kernel
theorem dX5_trade_144 : decode cX5_trade 144 = .ok (.iadd, 1) := by decide +kernel
theorem dX5_trade_145 : decode cX5_trade 145 = .ok (.iaload, 1) := by decide +kernel
theorem dX5_trade_146 : decode cX5_trade 146 = .ok (.iload 4, 2) := by decide +kernel
theorem dX5_trade_148 : decode cX5_trade 148 = .ok (.isub, 1) := by decide +kernel
theorem dX5_trade_149 : decode cX5_trade 149 = .ok (.istore 8, 2) := by decide +kernel
theorem dX5_trade_151 : decode cX5_trade 151 = .ok (.iload 4, 2) := by decide +kernel
theorem dX5_trade_153 : decode cX5_trade 153 = .ok (.i2l, 1) := by decide +kernel
theorem dX5_trade_154 : decode cX5_trade 154 = .ok (.aload_n 0, 1) := by decide +kernel
theorem dX5_trade_155 : decode cX5_trade 155 = .ok (.getfield 26, 3) := by decide +kernel
theorem dX5_trade_158 : decode cX5_trade 158 = .ok (.iload_n 3, 1) := by decide +kernel
theorem dX5_trade_159 : decode cX5_trade 159 = .ok (.iaload, 1) := by decide +kernel
theorem dX5_trade_160 : decode cX5_trade 160 = .ok (.iload 5, 2) := by decide +kernel
theorem dX5_trade_162 : decode cX5_trade 162 = .ok (.isub, 1) := by decide +kernel
theorem dX5_trade_163 : decode cX5_trade 163 = .ok (.i2l, 1) := by decide +kernel
theorem dX5_trade_164 : decode cX5_trade 164 = .ok (.lmul, 1) := by decide +kernel
theorem dX5_trade_165 : decode cX5_trade 165 = .ok (.lstore 9, 2) := by decide +kernel
theorem dX5_trade_167 : decode cX5_trade 167 = .ok (.iload 7, 2) := by decide +kernel
theorem dX5_trade_169 : decode cX5_trade 169 = .ok (.ldc 109, 2) := by decide +kernel
theorem dX5_trade_171 : decode cX5_trade 171 = .ok (.if_icmp .gt 40, 3) := by decide +kernel
theorem dX5_trade_174 : decode cX5_trade 174 = .ok (.iload 8, 2) := by decide +kernel
theorem dX5_trade_176 : decode cX5_trade 176 = .ok (.ldc 110, 2) := by decide +kernel
theorem dX5_trade_178 : decode cX5_trade 178 = .ok (.if_icmp .lt 33, 3) := by decide +kernel
theorem dX5_trade_181 : decode cX5_trade 181 = .ok (.aload_n 0, 1) := by decide +kernel
theorem dX5_trade_182 : decode cX5_trade 182 = .ok (.getfield 7, 3) := by decide +kernel
theorem dX5_trade_185 : decode cX5_trade 185 = .ok (.iload_n 1, 1) := by decide +kernel
theorem dX5_trade_186 : decode cX5_trade 186 = .ok (.laload, 1) := by decide +kernel
theorem dX5_trade_187 : decode cX5_trade 187 = .ok (.lload 9, 2) := by decide +kernel
theorem dX5_trade_189 : decode cX5_trade 189 = .ok (.ladd, 1) := by decide +kernel
theorem dX5_trade_190 : decode cX5_trade 190 = .ok (.invokestatic 88, 3) := by decide +kernel
theorem dX5_trade_193 : decode cX5_trade 193 = .ok (.ifCond .ne 18, 3) := by decide +kernel
theorem dX5_trade_196 : decode cX5_trade 196 = .ok (.aload_n 0, 1) := by decide +kernel
theorem dX5_trade_197 : decode cX5_trade 197 = .ok (.getfield 7, 3) := by decide +kernel
theorem dX5_trade_200 : decode cX5_trade 200 = .ok (.iload_n 2, 1) := by decide +kernel
theorem dX5_trade_201 : decode cX5_trade 201 = .ok (.laload, 1) := by decide +kernel
theorem dX5_trade_202 : decode cX5_trade 202 = .ok (.lload 9, 2) := by decide +kernel
theorem dX5_trade_204 : decode cX5_trade 204 = .ok (.lsub, 1) := by decide +kernel
theorem dX5_trade_205 : decode cX5_trade 205 = .ok (.invokestatic 88, 3) := by decide +kernel
theorem dX5_trade_208 : decode cX5_trade 208 = .ok (.ifCond .eq 5, 3) := by decide +kernel
theorem dX5_trade_211 : decode cX5_trade 211 = .ok (.iconst (-1), 1) := by decide +kernel
theorem dX5_trade_212 : decode cX5_trade 212 = .ok (.ireturn, 1) := by decide +kernel
theorem dX5_trade_213 : decode cX5_trade 213 = .ok (.aload_n 0, 1) := by decide +kernel
theorem dX5_trade_214 : decode cX5_trade 214 = .ok (.getfield 20, 3) := by decide +kernel
theorem dX5_trade_217 : decode cX5_trade 217 = .ok (.bipush 6, 2) := by decide +kernel
theorem dX5_trade_219 : decode cX5_trade 219 = .ok (.iload_n 1, 1) := by decide +kernel
theorem dX5_trade_220 : decode cX5_trade 220 = .ok (.imul, 1) := by decide +kernel
theorem dX5_trade_221 : decode cX5_trade 221 = .ok (.iload_n 3, 1) := by decide +kernel
theorem dX5_trade_222 : decode cX5_trade 222 = .ok (.iadd, 1) := by decide +kernel
theorem dX5_trade_223 : decode cX5_trade 223 = .ok (.iload 7, 2) := by decide +kernel
theorem dX5_trade_225 : decode cX5_trade 225 = .ok (.iastore, 1) := by decide +kernel
theorem dX5_trade_226 : decode cX5_trade 226 = .ok (.aload_n 0, 1) := by decide +kernel
theorem dX5_trade_227 : decode cX5_trade 227 = .ok (.getfield 20, 3) := by decide +kernel
theorem dX5_trade_230 : decode cX5_trade 230 = .ok (.bipush 6, 2) := by decide +kernel
theorem dX5_trade_232 : decode cX5_trade 232 = .ok (.iload_n 2, 1) := by decide +kernel
theorem dX5_trade_233 : decode cX5_trade 233 = .ok (.imul, 1) := by decide +kernel
theorem dX5_trade_234 : decode cX5_trade 234 = .ok (.iload_n 3, 1) := by decide +kernel
theorem dX5_trade_235 : decode cX5_trade 235 = .ok (.iadd, 1) := by decide +kernel
theorem dX5_trade_236 : decode cX5_trade 236 = .ok (.iload 8, 2) := by decide +kernel
theorem dX5_trade_238 : decode cX5_trade 238 = .ok (.iastore, 1) := by decide +kernel
theorem dX5_trade_239 : decode cX5_trade 239 = .ok (.aload_n 0, 1) := by decide +kernel
theorem dX5_trade_240 : decode cX5_trade 240 = .ok (.getfield 7, 3) := by decide +kernel
theorem dX5_trade_243 : decode cX5_trade 243 = .ok (.iload_n 1, 1) := by decide +kernel
theorem dX5_trade_244 : decode cX5_trade 244 = .ok (.aload_n 0, 1) := by decide +kernel
theorem dX5_trade_245 : decode cX5_trade 245 = .ok (.getfield 7, 3) := by decide +kernel
theorem dX5_trade_248 : decode cX5_trade 248 = .ok (.iload_n 1, 1) := by decide +kernel
theorem dX5_trade_249 : decode cX5_trade 249 = .ok (.laload, 1) := by decide +kernel
theorem dX5_trade_250 : decode cX5_trade 250 = .ok (.lload 9, 2) := by decide +kernel
theorem dX5_trade_252 : decode cX5_trade 252 = .ok (.ladd, 1) := by decide +kernel
theorem dX5_trade_253 : decode cX5_trade 253 = .ok (.lastore, 1) := by decide +kernel
theorem dX5_trade_254 : decode cX5_trade 254 = .ok (.aload_n 0, 1) := by decide +kernel
theorem dX5_trade_255 : decode cX5_trade 255 = .ok (.getfield 7, 3) := by decide +kernel
theorem dX5_trade_258 : decode cX5_trade 258 = .ok (.iload_n 2, 1) := by decide +kernel
theorem dX5_trade_259 : decode cX5_trade 259 = .ok (.aload_n 0, 1) := by decide +kernel
theorem dX5_trade_260 : decode cX5_trade 260 = .ok (.getfield 7, 3) := by decide +kernel
theorem dX5_trade_263 : decode cX5_trade 263 = .ok (.iload_n 2, 1) := by decide +kernel
theorem dX5_trade_264 : decode cX5_trade 264 = .ok (.laload, 1) := by decide +kernel
theorem dX5_trade_265 : decode cX5_trade 265 = .ok (.lload 9, 2) := by decide +kernel
theorem dX5_trade_267 : decode cX5_trade 267 = .ok (.lsub, 1) := by decide +kernel
theorem dX5_trade_268 : decode cX5_trade 268 = .ok (.lastore, 1) := by decide +kernel
theorem dX5_trade_269 : decode cX5_trade 269 = .ok (.aload_n 0, 1) := by decide +kernel
theorem dX5_trade_270 : decode cX5_trade 270 = .ok (.dup, 1) := by decide +kernel
theorem dX5_trade_271 : decode cX5_trade 271 = .ok (.getfield 111, 3) := by decide +kernel
theorem dX5_trade_274 : decode cX5_trade 274 = .ok (.lconst 1, 1) := by decide +kernel
theorem dX5_trade_275 : decode cX5_trade 275 = .ok (.ladd, 1) := by decide +kernel
theorem dX5_trade_276 : decode cX5_trade 276 = .ok (.putfield 111, 3) := by decide +kernel
theorem dX5_trade_279 : decode cX5_trade 279 = .ok (.aload_n 0, 1) := by decide +kernel
theorem dX5_trade_280 : decode cX5_trade 280 = .ok (.getfield 111, 3) := by decide +kernel
theorem dX5_trade_283 : decode cX5_trade 283 = .ok (.l2i, 1) := by decide +kernel
theorem dX5_trade_284 : decode cX5_trade 284 = .ok (.ireturn, 1) := by decide +kernel
theorem dX5_mark_0 : decode cX5_mark 0 = .ok (.aload_n 0, 1) := by decide +kernel
theorem dX5_mark_1 : decode cX5_mark 1 = .ok (.aload_n 0, 1) := by decide +kernel
theorem dX5_mark_2 : decode cX5_mark 2 = .ok (.iload_n 1, 1) := by decide +kernel
theorem dX5_mark_3 : decode cX5_mark 3 = .ok (.invokevirtual 94, 3) := by decide +kernel
theorem dX5_mark_6 : decode cX5_mark 6 = .ok (.ifCond .eq 15, 3) := by decide +kernel
theorem dX5_mark_9 : decode cX5_mark 9 = .ok (.iload_n 2, 1) := by decide +kernel
theorem dX5_mark_10 : decode cX5_mark 10 = .ok (.i2l, 1) := by decide +kernel
theorem dX5_mark_11 : decode cX5_mark 11 = .ok (.lconst 0, 1) := by decide +kernel
theorem dX5_mark_12 : decode cX5_mark 12 = .ok (.ldc2_w 82, 3) := by decide +kernel
theorem dX5_mark_15 : decode cX5_mark 15 = .ok (.invokestatic 78, 3) := by decide +kernel
theorem dX5_mark_18 : decode cX5_mark 18 = .ok (.ifCond .ne 7, 3) := by decide +kernel
theorem dX5_mark_21 : decode cX5_mark 21 = .ok (.iconst 1, 1) := by decide +kernel
theorem dX5_mark_22 : decode cX5_mark 22 = .ok (.goto 4, 3) := by decide +kernel
theorem dX5_mark_25 : decode cX5_mark 25 = .ok (.iconst 0, 1) := by decide +kernel
theorem dX5_mark_26 : decode cX5_mark 26 = .ok (.putfield 62, 3) := by decide +kernel
theorem dX5_mark_29 : decode cX5_mark 29 = .ok (.aload_n 0, 1) := by decide +kernel
theorem dX5_mark_30 : decode cX5_mark 30 = .ok (.getfield 62, 3) := by decide +kernel
theorem dX5_mark_33 : decode cX5_mark 33 = .ok (.ifCond .le 5, 3) := by decide +kernel
theorem dX5_mark_36 : decode cX5_mark 36 = .ok (.iconst 0, 1) := by decide +kernel
theorem dX5_mark_37 : decode cX5_mark 37 = .ok (.ireturn, 1) := by decide +kernel
theorem dX5_mark_38 : decode cX5_mark 38 = .ok (.iload_n 2, 1) := by decide +kernel
theorem dX5_mark_39 : decode cX5_mark 39 = .ok (.aload_n 0, 1) := by decide +kernel
theorem dX5_mark_40 : decode cX5_mark 40 = .ok (.getfield 26, 3) := by decide +kernel
theorem dX5_mark_43 : decode cX5_mark 43 = .ok (.iload_n 1, 1) := by decide +kernel
theorem dX5_mark_44 : decode cX5_mark 44 = .ok (.iaload, 1) := by decide +kernel
theorem dX5_mark_45 : decode cX5_mark 45 = .ok (.isub, 1) := by decide +kernel
theorem dX5_mark_46 : decode cX5_mark 46 = .ok (.i2l, 1) := by decide +kernel
theorem dX5_mark_47 : decode cX5_mark 47 = .ok (.lstore_n 3, 1) := by decide +kernel
theorem dX5_mark_48 : decode cX5_mark 48 = .ok (.iconst 0, 1) := by decide +kernel
theorem dX5_mark_49 : decode cX5_mark 49 = .ok (.istore 5, 2) := by decide +kernel
theorem dX5_mark_51 : decode cX5_mark 51 = .ok (.iload 5, 2) := by decide +kernel
theorem dX5_mark_53 : decode cX5_mark 53 = .ok (.aload_n 0, 1) := by decide +kernel
theorem dX5_mark_54 : decode cX5_mark 54 = .ok (.getfield 66, 3) := by decide +kernel
theorem dX5_mark_57 : decode cX5_mark 57 = .ok (.if_icmp .ge 40, 3) := by decide +kernel
theorem dX5_mark_60 : decode cX5_mark 60 = .ok (.aload_n 0, 1) := by decide +kernel
theorem dX5_mark_61 : decode cX5_mark 61 = .ok (.getfield 7, 3) := by decide +kernel
theorem dX5_mark_64 : decode cX5_mark 64 = .ok (.iload 5, 2) := by decide +kernel
theorem dX5_mark_66 : decode cX5_mark 66 = .ok (.laload, 1) := by decide +kernel
theorem dX5_mark_67 : decode cX5_mark 67 = .ok (.lload_n 3, 1) := by decide +kernel
theorem dX5_mark_68 : decode cX5_mark 68 = .ok (.aload_n 0, 1) := by decide +kernel
theorem dX5_mark_69 : decode cX5_mark 69 = .ok (.getfield 20, 3) := by decide +kernel
theorem dX5_mark_72 : decode cX5_mark 72 = .ok (.bipush 6, 2) := by decide +kernel
theorem dX5_mark_74 : decode cX5_mark 74 = .ok (.iload 5, 2) := by decide +kernel
theorem dX5_mark_76 : decode cX5_mark 76 = .ok (.imul, 1) := by decide +kernel
theorem dX5_mark_77 : decode cX5_mark 77 = .ok (.iload_n 1, 1) := by decide +kernel
theorem dX5_mark_78 : decode cX5_mark 78 = .ok (.iadd, 1) := by decide +kernel
theorem dX5_mark_79 : decode cX5_mark 79 = .ok (.iaload, 1) := by decide +kernel
theorem dX5_mark_80 : decode cX5_mark 80 = .ok (.i2l, 1) := by decide +kernel
theorem dX5_mark_81 : decode cX5_mark 81 = .ok (.lmul, 1) := by decide +kernel
theorem dX5_mark_82 : decode cX5_mark 82 = .ok (.ladd, 1) := by decide +kernel
theorem dX5_mark_83 : decode cX5_mark 83 = .ok (.invokestatic 88, 3) := by decide +kernel
theorem dX5_mark_86 : decode cX5_mark 86 = .ok (.ifCond .eq 5, 3) := by decide +kernel
theorem dX5_mark_89 : decode cX5_mark 89 = .ok (.iconst (-1), 1) := by decide +kernel
theorem dX5_mark_90 : decode cX5_mark 90 = .ok (.ireturn, 1) := by decide +kernel
theorem dX5_mark_91 : decode cX5_mark 91 = .ok (.iinc 5 1, 3) := by decide +kernel
theorem dX5_mark_94 : decode cX5_mark 94 = .ok (.goto (-43), 3) := by decide +kernel
theorem dX5_mark_97 : decode cX5_mark 97 = .ok (.iconst 0, 1) := by decide +kernel
theorem dX5_mark_98 : decode cX5_mark 98 = .ok (.istore 5, 2) := by decide +kernel
theorem dX5_mark_100 : decode cX5_mark 100 = .ok (.iconst 0, 1) := by decide +kernel
theorem dX5_mark_101 : decode cX5_mark 101 = .ok (.istore 6, 2) := by decide +kernel
theorem dX5_mark_103 : decode cX5_mark 103 = .ok (.iload 6, 2) := by decide +kernel
theorem dX5_mark_105 : decode cX5_mark 105 = .ok (.aload_n 0, 1) := by decide +kernel
theorem dX5_mark_106 : decode cX5_mark 106 = .ok (.getfield 66, 3) := by decide +kernel
theorem dX5_mark_109 : decode cX5_mark 109 = .ok (.if_icmp .ge 72, 3) := by decide +kernel
theorem dX5_mark_112 : decode cX5_mark 112 = .ok (.aload_n 0, 1) := by decide +kernel
theorem dX5_mark_113 : decode cX5_mark 113 = .ok (.getfield 7, 3) := by decide +kernel
theorem dX5_mark_116 : decode cX5_mark 116 = .ok (.iload 6, 2) := by decide +kernel
theorem dX5_mark_118 : decode cX5_mark 118 = .ok (.aload_n 0, 1) := by decide +kernel
theorem dX5_mark_119 : decode cX5_mark 119 = .ok (.getfield 7, 3) := by decide +kernel
theorem dX5_mark_122 : decode cX5_mark 122 = .ok (.iload 6, 2) := by decide +kernel
theorem dX5_mark_124 : decode cX5_mark 124 = .ok (.laload, 1) := by decide +kernel
theorem dX5_mark_125 : decode cX5_mark 125 = .ok (.lload_n 3, 1) := by decide +kernel
theorem dX5_mark_126 : decode cX5_mark 126 = .ok (.aload_n 0, 1) := by decide +kernel
theorem dX5_mark_127 : decode cX5_mark 127 = .ok (.getfield 20, 3) := by decide +kernel
theorem dX5_mark_130 : decode cX5_mark 130 = .ok (.bipush 6, 2) := by decide +kernel
theorem dX5_mark_132 : decode cX5_mark 132 = .ok (.iload 6, 2) := by decide +kernel
theorem dX5_mark_134 : decode cX5_mark 134 = .ok (.imul, 1) := by decide +kernel
theorem dX5_mark_135 : decode cX5_mark 135 = .ok (.iload_n 1, 1) := by decide +kernel
theorem dX5_mark_136 : decode cX5_mark 136 = .ok (.iadd, 1) := by decide +kernel
theorem dX5_mark_137 : decode cX5_mark 137 = .ok (.iaload, 1) := by decide +kernel
theorem dX5_mark_138 : decode cX5_mark 138 = .ok (.i2l, 1) := by decide +kernel
theorem dX5_mark_139 : decode cX5_mark 139 = .ok (.lmul, 1) := by decide +kernel
theorem dX5_mark_140 : decode cX5_mark 140 = .ok (.ladd, 1) := by decide +kernel
theorem dX5_mark_141 : decode cX5_mark 141 = .ok (.lastore, 1) := by decide +kernel
theorem dX5_mark_142 : decode cX5_mark 142 = .ok (.aload_n 0, 1) := by decide +kernel
theorem dX5_mark_143 : decode cX5_mark 143 = .ok (.getfield 16, 3) := by decide +kernel
theorem dX5_mark_146 : decode cX5_mark 146 = .ok (.iload 6, 2) := by decide +kernel
theorem dX5_mark_148 : decode cX5_mark 148 = .ok (.iaload, 1) := by decide +kernel
theorem dX5_mark_149 : decode cX5_mark 149 = .ok (.ifCond .ne 22, 3) := by decide +kernel
theorem dX5_mark_152 : decode cX5_mark 152 = .ok (.aload_n 0, 1) := by decide +kernel
theorem dX5_mark_153 : decode cX5_mark 153 = .ok (.getfield 7, 3) := by decide +kernel
theorem dX5_mark_156 : decode cX5_mark 156 = .ok (.iload 6, 2) := by decide +kernel
theorem dX5_mark_158 : decode cX5_mark 158 = .ok (.laload, 1) := by decide +kernel
theorem dX5_mark_159 : decode cX5_mark 159 = .ok (.lconst 0, 1) := by decide +kernel
theorem dX5_mark_160 : decode cX5_mark 160 = .ok (.lcmp, 1) := by decide +kernel
theorem dX5_mark_161 : decode cX5_mark 161 = .ok (.ifCond .ge 10, 3) := by decide +kernel
theorem dX5_mark_164 : decode cX5_mark 164 = .ok (.iload 5, 2) := by decide +kernel
theorem dX5_mark_166 : decode cX5_mark 166 = .ok (.iconst 1, 1) := by decide +kernel
theorem dX5_mark_167 : decode cX5_mark 167 = .ok (.iadd, 1) := by decide +kernel
theorem dX5_mark_168 : decode cX5_mark 168 = .ok (.goto 5, 3) := by decide +kernel
theorem dX5_mark_171 : decode cX5_mark 171 = .ok (.iload 5, 2) := by decide +kernel
theorem dX5_mark_173 : decode cX5_mark 173 = .ok (.istore 5, 2) := by decide +kernel
theorem dX5_mark_175 : decode cX5_mark 175 = .ok (.iinc 6 1, 3) := by decide +kernel
theorem dX5_mark_178 : decode cX5_mark 178 = .ok (.goto (-75), 3) := by decide +kernel
theorem dX5_mark_181 : decode cX5_mark 181 = .ok (.aload_n 0, 1) := by decide +kernel
theorem dX5_mark_182 : decode cX5_mark 182 = .ok (.getfield 26, 3) := by decide +kernel
theorem dX5_mark_185 : decode cX5_mark 185 = .ok (.iload_n 1, 1) := by decide +kernel
theorem dX5_mark_186 : decode cX5_mark 186 = .ok (.iload_n 2, 1) := by decide +kernel
theorem dX5_mark_187 : decode cX5_mark 187 = .ok (.iastore, 1) := by decide +kernel
theorem dX5_mark_188 : decode cX5_mark 188 = .ok (.iload 5, 2) := by decide +kernel
theorem dX5_mark_190 : decode cX5_mark 190 = .ok (.ireturn, 1) := by decide +kernel
theorem dX5_margin_0 : decode cX5_margin 0 = .ok (.aload_n 0, 1) := by decide +kernel
theorem dX5_margin_1 : decode cX5_margin 1 = .ok (.aload_n 0, 1) := by decide +kernel
theorem dX5_margin_2 : decode cX5_margin 2 = .ok (.iload_n 1, 1) := by decide +kernel
theorem dX5_margin_3 : decode cX5_margin 3 = .ok (.invokevirtual 100, 3) := by decide +kernel
theorem dX5_margin_6 : decode cX5_margin 6 = .ok (.ifCond .eq 7, 3) := by decide +kernel
theorem dX5_margin_9 : decode cX5_margin 9 = .ok (.iconst 0, 1) := by decide +kernel
theorem dX5_margin_10 : decode cX5_margin 10 = .ok (.goto 4, 3) := by decide +kernel
theorem dX5_margin_13 : decode cX5_margin 13 = .ok (.iconst 1, 1) := by decide +kernel
theorem dX5_margin_14 : decode cX5_margin 14 = .ok (.putfield 62, 3) := by decide +kernel
theorem dX5_margin_17 : decode cX5_margin 17 = .ok (.aload_n 0, 1) := by decide +kernel
theorem dX5_margin_18 : decode cX5_margin 18 = .ok (.getfield 62, 3) := by decide +kernel
theorem dX5_margin_21 : decode cX5_margin 21 = .ok (.ifCond .le 7, 3) := by decide +kernel
theorem dX5_margin_24 : decode cX5_margin 24 = .ok (.lconst 0, 1) := by decide +kernel
theorem dX5_margin_25 : decode cX5_margin 25 = .ok (.goto 8, 3) := by decide +kernel
theorem dX5_margin_28 : decode cX5_margin 28 = .ok (.aload_n 0, 1) := by decide +kernel
theorem dX5_margin_29 : decode cX5_margin 29 = .ok (.iload_n 1, 1) := by decide +kernel
theorem dX5_margin_30 : decode cX5_margin 30 = .ok (.invokevirtual 103, 3) := by decide +kernel
theorem dX5_margin_33 : decode cX5_margin 33 = .ok (.lreturn, 1) := by decide +kernel
theorem dX5_callOf_0 : decode cX5_callOf 0 = .ok (.aload_n 0, 1) := by decide +kernel
theorem dX5_callOf_1 : decode cX5_callOf 1 = .ok (.iload_n 1, 1) := by decide +kernel
theorem dX5_callOf_2 : decode cX5_callOf 2 = .ok (.invokevirtual 103, 3) := by decide +kernel
theorem dX5_callOf_5 : decode cX5_callOf 5 = .ok (.aload_n 0, 1) := by decide +kernel
theorem dX5_callOf_6 : decode cX5_callOf 6 = .ok (.getfield 7, 3) := by decide +kernel
theorem dX5_callOf_9 : decode cX5_callOf 9 = .ok (.iload_n 1, 1) := by decide +kernel
theorem dX5_callOf_10 : decode cX5_callOf 10 = .ok (.laload, 1) := by decide +kernel
theorem dX5_callOf_11 : decode cX5_callOf 11 = .ok (.lsub, 1) := by decide +kernel
theorem dX5_callOf_12 : decode cX5_callOf 12 = .ok (.lstore_n 2, 1) := by decide +kernel
theorem dX5_callOf_13 : decode cX5_callOf 13 = .ok (.aload_n 0, 1) := by decide +kernel
theorem dX5_callOf_14 : decode cX5_callOf 14 = .ok (.getfield 16, 3) := by decide +kernel
theorem dX5_callOf_17 : decode cX5_callOf 17 = .ok (.iload_n 1, 1) := by decide +kernel
theorem dX5_callOf_18 : decode cX5_callOf 18 = .ok (.iaload, 1) := by decide +kernel
theorem dX5_callOf_19 : decode cX5_callOf 19 = .ok (.ifCond .ne 9, 3) := by decide +kernel
theorem dX5_callOf_22 : decode cX5_callOf 22 = .ok (.lload_n 2, 1) := by decide +kernel
theorem dX5_callOf_23 : decode cX5_callOf 23 = .ok (.lconst 0, 1) := by decide +kernel
theorem dX5_callOf_24 : decode cX5_callOf 24 = .ok (.lcmp, 1) := by decide +kernel
theorem dX5_callOf_25 : decode cX5_callOf 25 = .ok (.ifCond .ge 7, 3) := by decide +kernel
theorem dX5_callOf_28 : decode cX5_callOf 28 = .ok (.lconst 0, 1) := by decide +kernel
theorem dX5_callOf_29 : decode cX5_callOf 29 = .ok (.goto 4, 3) := by decide +kernel
theorem dX5_callOf_32 : decode cX5_callOf 32 = .ok (.lload_n 2, 1) := by decide +kernel
theorem dX5_callOf_33 : decode cX5_callOf 33 = .ok (.lreturn, 1) := by decide +kernel
theorem dX5_called_0 : decode cX5_called 0 = .ok (.aload_n 0, 1) := by decide +kernel
theorem dX5_called_1 : decode cX5_called 1 = .ok (.aload_n 0, 1) := by decide +kernel
theorem dX5_called_2 : decode cX5_called 2 = .ok (.iload_n 1, 1) := by decide +kernel
theorem dX5_called_3 : decode cX5_called 3 = .ok (.invokevirtual 100, 3) := by decide +kernel
theorem dX5_called_6 : decode cX5_called 6 = .ok (.ifCond .eq 7, 3) := by decide +kernel
theorem dX5_called_9 : decode cX5_called 9 = .ok (.iconst 0, 1) := by decide +kernel
theorem dX5_called_10 : decode cX5_called 10 = .ok (.goto 4, 3) := by decide +kernel
theorem dX5_called_13 : decode cX5_called 13 = .ok (.iconst 1, 1) := by decide +kernel
theorem dX5_called_14 : decode cX5_called 14 = .ok (.putfield 62, 3) := by decide +kernel
theorem dX5_called_17 : decode cX5_called 17 = .ok (.aload_n 0, 1) := by decide +kernel
theorem dX5_called_18 : decode cX5_called 18 = .ok (.getfield 62, 3) := by decide +kernel
theorem dX5_called_21 : decode cX5_called 21 = .ok (.ifCond .le 7, 3) := by decide +kernel
theorem dX5_called_24 : decode cX5_called 24 = .ok (.lconst 0, 1) := by decide +kernel
theorem dX5_called_25 : decode cX5_called 25 = .ok (.goto 8, 3) := by decide +kernel
theorem dX5_called_28 : decode cX5_called 28 = .ok (.aload_n 0, 1) := by decide +kernel
theorem dX5_called_29 : decode cX5_called 29 = .ok (.iload_n 1, 1) := by decide +kernel
theorem dX5_called_30 : decode cX5_called 30 = .ok (.invokevirtual 114, 3) := by decide +kernel
theorem dX5_called_33 : decode cX5_called 33 = .ok (.lreturn, 1) := by decide +kernel
theorem dX5_declare_0 : decode cX5_declare 0 = .ok (.aload_n 0, 1) := by decide +kernel
theorem dX5_declare_1 : decode cX5_declare 1 = .ok (.iconst 0, 1) := by decide +kernel
theorem dX5_declare_2 : decode cX5_declare 2 = .ok (.putfield 62, 3) := by decide +kernel
theorem dX5_declare_5 : decode cX5_declare 5 = .ok (.iconst 0, 1) := by decide +kernel
theorem dX5_declare_6 : decode cX5_declare 6 = .ok (.istore_n 1, 1) := by decide +kernel
theorem dX5_declare_7 : decode cX5_declare 7 = .ok (.iconst 0, 1) := by decide +kernel
theorem dX5_declare_8 : decode cX5_declare 8 = .ok (.istore_n 2, 1) := by decide +kernel
theorem dX5_declare_9 : decode cX5_declare 9 = .ok (.iload_n 2, 1) := by decide +kernel
theorem dX5_declare_10 : decode cX5_declare 10 = .ok (.aload_n 0, 1) := by decide +kernel
theorem dX5_declare_11 : decode cX5_declare 11 = .ok (.getfield 66, 3) := by decide +kernel
theorem dX5_declare_14 : decode cX5_declare 14 = .ok (.if_icmp .ge 29, 3) := by decide +kernel
theorem dX5_declare_17 : decode cX5_declare 17 = .ok (.aload_n 0, 1) := by decide +kernel
theorem dX5_declare_18 : decode cX5_declare 18 = .ok (.iload_n 2, 1) := by decide +kernel
theorem dX5_declare_19 : decode cX5_declare 19 = .ok (.invokevirtual 114, 3) := by decide +kernel
theorem dX5_declare_22 : decode cX5_declare 22 = .ok (.lconst 0, 1) := by decide +kernel
theorem dX5_declare_23 : decode cX5_declare 23 = .ok (.lcmp, 1) := by decide +kernel
theorem dX5_declare_24 : decode cX5_declare 24 = .ok (.ifCond .le 13, 3) := by decide +kernel
theorem dX5_declare_27 : decode cX5_declare 27 = .ok (.aload_n 0, 1) := by decide +kernel
theorem dX5_declare_28 : decode cX5_declare 28 = .ok (.getfield 16, 3) := by decide +kernel
theorem dX5_declare_31 : decode cX5_declare 31 = .ok (.iload_n 2, 1) := by decide +kernel
theorem dX5_declare_32 : decode cX5_declare 32 = .ok (.iconst 1, 1) := by decide +kernel
theorem dX5_declare_33 : decode cX5_declare 33 = .ok (.iastore, 1) := by decide +kernel
theorem dX5_declare_34 : decode cX5_declare 34 = .ok (.iinc 1 1, 3) := by decide +kernel
theorem dX5_declare_37 : decode cX5_declare 37 = .ok (.iinc 2 1, 3) := by decide +kernel
theorem dX5_declare_40 : decode cX5_declare 40 = .ok (.goto (-31), 3) := by decide +kernel
theorem dX5_declare_43 : decode cX5_declare 43 = .ok (.iload_n 1, 1) := by decide +kernel
theorem dX5_declare_44 : decode cX5_declare 44 = .ok (.ireturn, 1) := by decide +kernel
theorem dX5_change_0 : decode cX5_change 0 = .ok (.aload_n 0, 1) := by decide +kernel
theorem dX5_change_1 : decode cX5_change 1 = .ok (.getfield 7, 3) := by decide +kernel
theorem dX5_change_4 : decode cX5_change 4 = .ok (.iload_n 1, 1) := by decide +kernel
theorem dX5_change_5 : decode cX5_change 5 = .ok (.aload_n 0, 1) := by decide +kernel
theorem dX5_change_6 : decode cX5_change 6 = .ok (.getfield 7, 3) := by decide +kernel
theorem dX5_change_9 : decode cX5_change 9 = .ok (.iload_n 1, 1) := by decide +kernel
theorem dX5_change_10 : decode cX5_change 10 = .ok (.laload, 1) := by decide +kernel
theorem dX5_change_11 : decode cX5_change 11 = .ok (.lload_n 2, 1) := by decide +kernel
theorem dX5_change_12 : decode cX5_change 12 = .ok (.ladd, 1) := by decide +kernel
theorem dX5_change_13 : decode cX5_change 13 = .ok (.lastore, 1) := by decide +kernel
theorem dX5_change_14 : decode cX5_change 14 = .ok (.aload_n 0, 1) := by decide +kernel
theorem dX5_change_15 : decode cX5_change 15 = .ok (.aload_n 0, 1) := by decide +kernel
theorem dX5_change_16 : decode cX5_change 16 = .ok (.getfield 117, 3) := by decide +kernel
theorem dX5_change_19 : decode cX5_change 19 = .ok (.ifCond .ne 15, 3) := by decide +kernel
theorem dX5_change_22 : decode cX5_change 22 = .ok (.aload_n 0, 1) := by decide +kernel
theorem dX5_change_23 : decode cX5_change 23 = .ok (.getfield 7, 3) := by decide +kernel
theorem dX5_change_26 : decode cX5_change 26 = .ok (.iload_n 1, 1) := by decide +kernel
theorem dX5_change_27 : decode cX5_change 27 = .ok (.laload, 1) := by decide +kernel
theorem dX5_change_28 : decode cX5_change 28 = .ok (.invokestatic 88, 3) := by decide +kernel
theorem dX5_change_31 : decode cX5_change 31 = .ok (.ifCond .eq 7, 3) := by decide +kernel
theorem dX5_change_34 : decode cX5_change 34 = .ok (.iconst 1, 1) := by decide +kernel
theorem dX5_change_35 : decode cX5_change 35 = .ok (.goto 4, 3) := by decide +kernel
theorem dX5_change_38 : decode cX5_change 38 = .ok (.iconst 0, 1) := by decide +kernel
theorem dX5_change_39 : decode cX5_change 39 = .ok (.putfield 117, 3) := by decide +kernel
theorem dX5_change_42 : decode cX5_change 42 = .ok (.return_, 1) := by decide +kernel
theorem dX5_bestBid_0 : decode cX5_bestBid 0 = .ok (.iconst (-1), 1) := by decide +kernel
theorem dX5_bestBid_1 : decode cX5_bestBid 1 = .ok (.istore_n 2, 1) := by decide +kernel
theorem dX5_bestBid_2 : decode cX5_bestBid 2 = .ok (.iconst 0, 1) := by decide +kernel
theorem dX5_bestBid_3 : decode cX5_bestBid 3 = .ok (.istore_n 3, 1) := by decide +kernel
theorem dX5_bestBid_4 : decode cX5_bestBid 4 = .ok (.iload_n 3, 1) := by decide +kernel
theorem dX5_bestBid_5 : decode cX5_bestBid 5 = .ok (.aload_n 0, 1) := by decide +kernel
theorem dX5_bestBid_6 : decode cX5_bestBid 6 = .ok (.getfield 66, 3) := by decide +kernel
theorem dX5_bestBid_9 : decode cX5_bestBid 9 = .ok (.if_icmp .ge 49, 3) := by decide +kernel
theorem dX5_bestBid_12 : decode cX5_bestBid 12 = .ok (.aload_n 0, 1) := by decide +kernel
theorem dX5_bestBid_13 : decode cX5_bestBid 13 = .ok (.getfield 16, 3) := by decide +kernel
theorem dX5_bestBid_16 : decode cX5_bestBid 16 = .ok (.iload_n 3, 1) := by decide +kernel
theorem dX5_bestBid_17 : decode cX5_bestBid 17 = .ok (.iaload, 1) := by decide +kernel
theorem dX5_bestBid_18 : decode cX5_bestBid 18 = .ok (.ifCond .ne 34, 3) := by decide +kernel
theorem dX5_bestBid_21 : decode cX5_bestBid 21 = .ok (.iload_n 2, 1) := by decide +kernel
theorem dX5_bestBid_22 : decode cX5_bestBid 22 = .ok (.ifCond .lt 28, 3) := by decide +kernel
theorem dX5_bestBid_25 : decode cX5_bestBid 25 = .ok (.aload_n 0, 1) := by decide +kernel
theorem dX5_bestBid_26 : decode cX5_bestBid 26 = .ok (.getfield 23, 3) := by decide +kernel
theorem dX5_bestBid_29 : decode cX5_bestBid 29 = .ok (.bipush 6, 2) := by decide +kernel
theorem dX5_bestBid_31 : decode cX5_bestBid 31 = .ok (.iload_n 3, 1) := by decide +kernel
theorem dX5_bestBid_32 : decode cX5_bestBid 32 = .ok (.imul, 1) := by decide +kernel
theorem dX5_bestBid_33 : decode cX5_bestBid 33 = .ok (.iload_n 1, 1) := by decide +kernel
theorem dX5_bestBid_34 : decode cX5_bestBid 34 = .ok (.iadd, 1) := by decide +kernel
theorem dX5_bestBid_35 : decode cX5_bestBid 35 = .ok (.iaload, 1) := by decide +kernel
theorem dX5_bestBid_36 : decode cX5_bestBid 36 = .ok (.aload_n 0, 1) := by decide +kernel
theorem dX5_bestBid_37 : decode cX5_bestBid 37 = .ok (.getfield 23, 3) := by decide +kernel
theorem dX5_bestBid_40 : decode cX5_bestBid 40 = .ok (.bipush 6, 2) := by decide +kernel
theorem dX5_bestBid_42 : decode cX5_bestBid 42 = .ok (.iload_n 2, 1) := by decide +kernel
theorem dX5_bestBid_43 : decode cX5_bestBid 43 = .ok (.imul, 1) := by decide +kernel
theorem dX5_bestBid_44 : decode cX5_bestBid 44 = .ok (.iload_n 1, 1) := by decide +kernel
theorem dX5_bestBid_45 : decode cX5_bestBid 45 = .ok (.iadd, 1) := by decide +kernel
theorem dX5_bestBid_46 : decode cX5_bestBid 46 = .ok (.iaload, 1) := by decide +kernel
theorem dX5_bestBid_47 : decode cX5_bestBid 47 = .ok (.if_icmp .ge 5, 3) := by decide +kernel
end
section
theorem dX5_bestBid_50 : decode cX5_bestBid 50 = .ok (.iload_n 3, 1) := by decide +kernel
theorem dX5_bestBid_51 : decode cX5_bestBid 51 = .ok (.istore_n 2, 1) := by decide +kernel
theorem dX5_bestBid_52 : decode cX5_bestBid 52 = .ok (.iinc 3 1, 3) := by decide +kernel
theorem dX5_bestBid_55 : decode cX5_bestBid 55 = .ok (.goto (-51), 3) := by decide +kernel
theorem dX5_bestBid_58 : decode cX5_bestBid 58 = .ok (.iload_n 2, 1) := by decide +kernel
theorem dX5_bestBid_59 : decode cX5_bestBid 59 = .ok (.ireturn, 1) := by decide +kernel
theorem dX5_give_0 : decode cX5_give 0 = .ok (.aload_n 0, 1) := by decide +kernel
theorem dX5_give_1 : decode cX5_give 1 = .ok (.getfield 20, 3) := by decide +kernel
theorem dX5_give_4 : decode cX5_give 4 = .ok (.bipush 6, 2) := by decide +kernel
theorem dX5_give_6 : decode cX5_give 6 = .ok (.iload_n 1, 1) := by decide +kernel
theorem dX5_give_7 : decode cX5_give 7 = .ok (.imul, 1) := by decide +kernel
theorem dX5_give_8 : decode cX5_give 8 = .ok (.iload_n 2, 1) := by decide +kernel
theorem dX5_give_9 : decode cX5_give 9 = .ok (.iadd, 1) := by decide +kernel
theorem dX5_give_10 : decode cX5_give 10 = .ok (.iaload, 1) := by decide +kernel
theorem dX5_give_11 : decode cX5_give 11 = .ok (.istore_n 3, 1) := by decide +kernel
theorem dX5_give_12 : decode cX5_give 12 = .ok (.iload_n 3, 1) := by decide +kernel
theorem dX5_give_13 : decode cX5_give 13 = .ok (.ifCond .ne 4, 3) := by decide +kernel
theorem dX5_give_16 : decode cX5_give 16 = .ok (.return_, 1) := by decide +kernel
theorem dX5_give_17 : decode cX5_give 17 = .ok (.aload_n 0, 1) := by decide +kernel
theorem dX5_give_18 : decode cX5_give 18 = .ok (.iload_n 2, 1) := by decide +kernel
theorem dX5_give_19 : decode cX5_give 19 = .ok (.invokevirtual 121, 3) := by decide +kernel
theorem dX5_give_22 : decode cX5_give 22 = .ok (.istore 4, 2) := by decide +kernel
theorem dX5_give_24 : decode cX5_give 24 = .ok (.iload 4, 2) := by decide +kernel
theorem dX5_give_26 : decode cX5_give 26 = .ok (.ifCond .ge 9, 3) := by decide +kernel
theorem dX5_give_29 : decode cX5_give 29 = .ok (.aload_n 0, 1) := by decide +kernel
theorem dX5_give_30 : decode cX5_give 30 = .ok (.iconst 1, 1) := by decide +kernel
theorem dX5_give_31 : decode cX5_give 31 = .ok (.putfield 117, 3) := by decide +kernel
theorem dX5_give_34 : decode cX5_give 34 = .ok (.return_, 1) := by decide +kernel
theorem dX5_give_35 : decode cX5_give 35 = .ok (.aload_n 0, 1) := by decide +kernel
theorem dX5_give_36 : decode cX5_give 36 = .ok (.getfield 23, 3) := by decide +kernel
theorem dX5_give_39 : decode cX5_give 39 = .ok (.bipush 6, 2) := by decide +kernel
theorem dX5_give_41 : decode cX5_give 41 = .ok (.iload 4, 2) := by decide +kernel
theorem dX5_give_43 : decode cX5_give 43 = .ok (.imul, 1) := by decide +kernel
theorem dX5_give_44 : decode cX5_give 44 = .ok (.iload_n 2, 1) := by decide +kernel
theorem dX5_give_45 : decode cX5_give 45 = .ok (.iadd, 1) := by decide +kernel
theorem dX5_give_46 : decode cX5_give 46 = .ok (.iaload, 1) := by decide +kernel
theorem dX5_give_47 : decode cX5_give 47 = .ok (.i2l, 1) := by decide +kernel
theorem dX5_give_48 : decode cX5_give 48 = .ok (.iload_n 3, 1) := by decide +kernel
theorem dX5_give_49 : decode cX5_give 49 = .ok (.ifCond .ge 8, 3) := by decide +kernel
theorem dX5_give_52 : decode cX5_give 52 = .ok (.iload_n 3, 1) := by decide +kernel
theorem dX5_give_53 : decode cX5_give 53 = .ok (.ineg, 1) := by decide +kernel
theorem dX5_give_54 : decode cX5_give 54 = .ok (.goto 4, 3) := by decide +kernel
theorem dX5_give_57 : decode cX5_give 57 = .ok (.iload_n 3, 1) := by decide +kernel
theorem dX5_give_58 : decode cX5_give 58 = .ok (.i2l, 1) := by decide +kernel
theorem dX5_give_59 : decode cX5_give 59 = .ok (.lmul, 1) := by decide +kernel
theorem dX5_give_60 : decode cX5_give 60 = .ok (.lstore 5, 2) := by decide +kernel
theorem dX5_give_62 : decode cX5_give 62 = .ok (.aload_n 0, 1) := by decide +kernel
theorem dX5_give_63 : decode cX5_give 63 = .ok (.getfield 20, 3) := by decide +kernel
theorem dX5_give_66 : decode cX5_give 66 = .ok (.bipush 6, 2) := by decide +kernel
theorem dX5_give_68 : decode cX5_give 68 = .ok (.iload 4, 2) := by decide +kernel
theorem dX5_give_70 : decode cX5_give 70 = .ok (.imul, 1) := by decide +kernel
theorem dX5_give_71 : decode cX5_give 71 = .ok (.iload_n 2, 1) := by decide +kernel
theorem dX5_give_72 : decode cX5_give 72 = .ok (.iadd, 1) := by decide +kernel
theorem dX5_give_73 : decode cX5_give 73 = .ok (.iaload, 1) := by decide +kernel
theorem dX5_give_74 : decode cX5_give 74 = .ok (.iload_n 3, 1) := by decide +kernel
theorem dX5_give_75 : decode cX5_give 75 = .ok (.iadd, 1) := by decide +kernel
theorem dX5_give_76 : decode cX5_give 76 = .ok (.istore 7, 2) := by decide +kernel
theorem dX5_give_78 : decode cX5_give 78 = .ok (.aload_n 0, 1) := by decide +kernel
theorem dX5_give_79 : decode cX5_give 79 = .ok (.aload_n 0, 1) := by decide +kernel
theorem dX5_give_80 : decode cX5_give 80 = .ok (.getfield 117, 3) := by decide +kernel
theorem dX5_give_83 : decode cX5_give 83 = .ok (.ifCond .ne 17, 3) := by decide +kernel
theorem dX5_give_86 : decode cX5_give 86 = .ok (.iload 7, 2) := by decide +kernel
theorem dX5_give_88 : decode cX5_give 88 = .ok (.ldc 109, 2) := by decide +kernel
theorem dX5_give_90 : decode cX5_give 90 = .ok (.if_icmp .gt 10, 3) := by decide +kernel
theorem dX5_give_93 : decode cX5_give 93 = .ok (.iload 7, 2) := by decide +kernel
theorem dX5_give_95 : decode cX5_give 95 = .ok (.ldc 110, 2) := by decide +kernel
theorem dX5_give_97 : decode cX5_give 97 = .ok (.if_icmp .ge 7, 3) := by decide +kernel
theorem dX5_give_100 : decode cX5_give 100 = .ok (.iconst 1, 1) := by decide +kernel
theorem dX5_give_101 : decode cX5_give 101 = .ok (.goto 4, 3) := by decide +kernel
theorem dX5_give_104 : decode cX5_give 104 = .ok (.iconst 0, 1) := by decide +kernel
theorem dX5_give_105 : decode cX5_give 105 = .ok (.putfield 117, 3) := by decide +kernel
theorem dX5_give_108 : decode cX5_give 108 = .ok (.aload_n 0, 1) := by decide +kernel
theorem dX5_give_109 : decode cX5_give 109 = .ok (.getfield 20, 3) := by decide +kernel
theorem dX5_give_112 : decode cX5_give 112 = .ok (.bipush 6, 2) := by decide +kernel
theorem dX5_give_114 : decode cX5_give 114 = .ok (.iload 4, 2) := by decide +kernel
theorem dX5_give_116 : decode cX5_give 116 = .ok (.imul, 1) := by decide +kernel
theorem dX5_give_117 : decode cX5_give 117 = .ok (.iload_n 2, 1) := by decide +kernel
theorem dX5_give_118 : decode cX5_give 118 = .ok (.iadd, 1) := by decide +kernel
theorem dX5_give_119 : decode cX5_give 119 = .ok (.iload 7, 2) := by decide +kernel
theorem dX5_give_121 : decode cX5_give 121 = .ok (.iastore, 1) := by decide +kernel
theorem dX5_give_122 : decode cX5_give 122 = .ok (.aload_n 0, 1) := by decide +kernel
theorem dX5_give_123 : decode cX5_give 123 = .ok (.getfield 20, 3) := by decide +kernel
theorem dX5_give_126 : decode cX5_give 126 = .ok (.bipush 6, 2) := by decide +kernel
theorem dX5_give_128 : decode cX5_give 128 = .ok (.iload_n 1, 1) := by decide +kernel
theorem dX5_give_129 : decode cX5_give 129 = .ok (.imul, 1) := by decide +kernel
theorem dX5_give_130 : decode cX5_give 130 = .ok (.iload_n 2, 1) := by decide +kernel
theorem dX5_give_131 : decode cX5_give 131 = .ok (.iadd, 1) := by decide +kernel
theorem dX5_give_132 : decode cX5_give 132 = .ok (.iconst 0, 1) := by decide +kernel
theorem dX5_give_133 : decode cX5_give 133 = .ok (.iastore, 1) := by decide +kernel
theorem dX5_give_134 : decode cX5_give 134 = .ok (.aload_n 0, 1) := by decide +kernel
theorem dX5_give_135 : decode cX5_give 135 = .ok (.iload 4, 2) := by decide +kernel
theorem dX5_give_137 : decode cX5_give 137 = .ok (.lload 5, 2) := by decide +kernel
theorem dX5_give_139 : decode cX5_give 139 = .ok (.invokevirtual 125, 3) := by decide +kernel
theorem dX5_give_142 : decode cX5_give 142 = .ok (.aload_n 0, 1) := by decide +kernel
theorem dX5_give_143 : decode cX5_give 143 = .ok (.iload_n 1, 1) := by decide +kernel
theorem dX5_give_144 : decode cX5_give 144 = .ok (.lload 5, 2) := by decide +kernel
theorem dX5_give_146 : decode cX5_give 146 = .ok (.lneg, 1) := by decide +kernel
theorem dX5_give_147 : decode cX5_give 147 = .ok (.invokevirtual 125, 3) := by decide +kernel
theorem dX5_give_150 : decode cX5_give 150 = .ok (.return_, 1) := by decide +kernel
theorem dX5_divide_0 : decode cX5_divide 0 = .ok (.lconst 0, 1) := by decide +kernel
theorem dX5_divide_1 : decode cX5_divide 1 = .ok (.lstore 6, 2) := by decide +kernel
theorem dX5_divide_3 : decode cX5_divide 3 = .ok (.lconst 0, 1) := by decide +kernel
theorem dX5_divide_4 : decode cX5_divide 4 = .ok (.lstore 8, 2) := by decide +kernel
theorem dX5_divide_6 : decode cX5_divide 6 = .ok (.bipush 62, 2) := by decide +kernel
theorem dX5_divide_8 : decode cX5_divide 8 = .ok (.istore 10, 2) := by decide +kernel
theorem dX5_divide_10 : decode cX5_divide 10 = .ok (.iload 10, 2) := by decide +kernel
theorem dX5_divide_12 : decode cX5_divide 12 = .ok (.ifCond .lt 89, 3) := by decide +kernel
theorem dX5_divide_15 : decode cX5_divide 15 = .ok (.ldc2_w 129, 3) := by decide +kernel
theorem dX5_divide_18 : decode cX5_divide 18 = .ok (.lload 6, 2) := by decide +kernel
theorem dX5_divide_20 : decode cX5_divide 20 = .ok (.lmul, 1) := by decide +kernel
theorem dX5_divide_21 : decode cX5_divide 21 = .ok (.lstore 6, 2) := by decide +kernel
theorem dX5_divide_23 : decode cX5_divide 23 = .ok (.ldc2_w 129, 3) := by decide +kernel
theorem dX5_divide_26 : decode cX5_divide 26 = .ok (.lload 8, 2) := by decide +kernel
theorem dX5_divide_28 : decode cX5_divide 28 = .ok (.lmul, 1) := by decide +kernel
theorem dX5_divide_29 : decode cX5_divide 29 = .ok (.lstore 8, 2) := by decide +kernel
theorem dX5_divide_31 : decode cX5_divide 31 = .ok (.lload 8, 2) := by decide +kernel
theorem dX5_divide_33 : decode cX5_divide 33 = .ok (.lload 4, 2) := by decide +kernel
theorem dX5_divide_35 : decode cX5_divide 35 = .ok (.lcmp, 1) := by decide +kernel
theorem dX5_divide_36 : decode cX5_divide 36 = .ok (.ifCond .lt 16, 3) := by decide +kernel
theorem dX5_divide_39 : decode cX5_divide 39 = .ok (.lload 8, 2) := by decide +kernel
theorem dX5_divide_41 : decode cX5_divide 41 = .ok (.lload 4, 2) := by decide +kernel
theorem dX5_divide_43 : decode cX5_divide 43 = .ok (.lsub, 1) := by decide +kernel
theorem dX5_divide_44 : decode cX5_divide 44 = .ok (.lstore 8, 2) := by decide +kernel
theorem dX5_divide_46 : decode cX5_divide 46 = .ok (.lload 6, 2) := by decide +kernel
theorem dX5_divide_48 : decode cX5_divide 48 = .ok (.lconst 1, 1) := by decide +kernel
theorem dX5_divide_49 : decode cX5_divide 49 = .ok (.ladd, 1) := by decide +kernel
theorem dX5_divide_50 : decode cX5_divide 50 = .ok (.lstore 6, 2) := by decide +kernel
theorem dX5_divide_52 : decode cX5_divide 52 = .ok (.lload_n 2, 1) := by decide +kernel
theorem dX5_divide_53 : decode cX5_divide 53 = .ok (.iload 10, 2) := by decide +kernel
theorem dX5_divide_55 : decode cX5_divide 55 = .ok (.lshr, 1) := by decide +kernel
theorem dX5_divide_56 : decode cX5_divide 56 = .ok (.lconst 1, 1) := by decide +kernel
theorem dX5_divide_57 : decode cX5_divide 57 = .ok (.land, 1) := by decide +kernel
theorem dX5_divide_58 : decode cX5_divide 58 = .ok (.lconst 1, 1) := by decide +kernel
theorem dX5_divide_59 : decode cX5_divide 59 = .ok (.lcmp, 1) := by decide +kernel
theorem dX5_divide_60 : decode cX5_divide 60 = .ok (.ifCond .ne 35, 3) := by decide +kernel
theorem dX5_divide_63 : decode cX5_divide 63 = .ok (.lload 8, 2) := by decide +kernel
theorem dX5_divide_65 : decode cX5_divide 65 = .ok (.aload_n 0, 1) := by decide +kernel
theorem dX5_divide_66 : decode cX5_divide 66 = .ok (.getfield 53, 3) := by decide +kernel
theorem dX5_divide_69 : decode cX5_divide 69 = .ok (.iload_n 1, 1) := by decide +kernel
theorem dX5_divide_70 : decode cX5_divide 70 = .ok (.laload, 1) := by decide +kernel
theorem dX5_divide_71 : decode cX5_divide 71 = .ok (.ladd, 1) := by decide +kernel
theorem dX5_divide_72 : decode cX5_divide 72 = .ok (.lstore 8, 2) := by decide +kernel
theorem dX5_divide_74 : decode cX5_divide 74 = .ok (.lload 8, 2) := by decide +kernel
theorem dX5_divide_76 : decode cX5_divide 76 = .ok (.lload 4, 2) := by decide +kernel
theorem dX5_divide_78 : decode cX5_divide 78 = .ok (.lcmp, 1) := by decide +kernel
theorem dX5_divide_79 : decode cX5_divide 79 = .ok (.ifCond .lt 16, 3) := by decide +kernel
theorem dX5_divide_82 : decode cX5_divide 82 = .ok (.lload 8, 2) := by decide +kernel
theorem dX5_divide_84 : decode cX5_divide 84 = .ok (.lload 4, 2) := by decide +kernel
theorem dX5_divide_86 : decode cX5_divide 86 = .ok (.lsub, 1) := by decide +kernel
theorem dX5_divide_87 : decode cX5_divide 87 = .ok (.lstore 8, 2) := by decide +kernel
theorem dX5_divide_89 : decode cX5_divide 89 = .ok (.lload 6, 2) := by decide +kernel
theorem dX5_divide_91 : decode cX5_divide 91 = .ok (.lconst 1, 1) := by decide +kernel
theorem dX5_divide_92 : decode cX5_divide 92 = .ok (.ladd, 1) := by decide +kernel
theorem dX5_divide_93 : decode cX5_divide 93 = .ok (.lstore 6, 2) := by decide +kernel
theorem dX5_divide_95 : decode cX5_divide 95 = .ok (.iinc 10 (-1), 3) := by decide +kernel
theorem dX5_divide_98 : decode cX5_divide 98 = .ok (.goto (-88), 3) := by decide +kernel
theorem dX5_divide_101 : decode cX5_divide 101 = .ok (.aload_n 0, 1) := by decide +kernel
theorem dX5_divide_102 : decode cX5_divide 102 = .ok (.getfield 56, 3) := by decide +kernel
theorem dX5_divide_105 : decode cX5_divide 105 = .ok (.iload_n 1, 1) := by decide +kernel
theorem dX5_divide_106 : decode cX5_divide 106 = .ok (.lload 6, 2) := by decide +kernel
theorem dX5_divide_108 : decode cX5_divide 108 = .ok (.lastore, 1) := by decide +kernel
theorem dX5_divide_109 : decode cX5_divide 109 = .ok (.aload_n 0, 1) := by decide +kernel
theorem dX5_divide_110 : decode cX5_divide 110 = .ok (.getfield 59, 3) := by decide +kernel
theorem dX5_divide_113 : decode cX5_divide 113 = .ok (.iload_n 1, 1) := by decide +kernel
theorem dX5_divide_114 : decode cX5_divide 114 = .ok (.lload 8, 2) := by decide +kernel
theorem dX5_divide_116 : decode cX5_divide 116 = .ok (.lastore, 1) := by decide +kernel
theorem dX5_divide_117 : decode cX5_divide 117 = .ok (.return_, 1) := by decide +kernel
theorem dX5_share_0 : decode cX5_share 0 = .ok (.lconst 0, 1) := by decide +kernel
theorem dX5_share_1 : decode cX5_share 1 = .ok (.lstore_n 3, 1) := by decide +kernel
theorem dX5_share_2 : decode cX5_share 2 = .ok (.iconst 0, 1) := by decide +kernel
theorem dX5_share_3 : decode cX5_share 3 = .ok (.istore 5, 2) := by decide +kernel
theorem dX5_share_5 : decode cX5_share 5 = .ok (.iload 5, 2) := by decide +kernel
theorem dX5_share_7 : decode cX5_share 7 = .ok (.bipush 8, 2) := by decide +kernel
theorem dX5_share_9 : decode cX5_share 9 = .ok (.if_icmp .ge 35, 3) := by decide +kernel
theorem dX5_share_12 : decode cX5_share 12 = .ok (.lload_n 3, 1) := by decide +kernel
theorem dX5_share_13 : decode cX5_share 13 = .ok (.aload_n 0, 1) := by decide +kernel
theorem dX5_share_14 : decode cX5_share 14 = .ok (.getfield 53, 3) := by decide +kernel
theorem dX5_share_17 : decode cX5_share 17 = .ok (.iload 5, 2) := by decide +kernel
theorem dX5_share_19 : decode cX5_share 19 = .ok (.laload, 1) := by decide +kernel
theorem dX5_share_20 : decode cX5_share 20 = .ok (.ladd, 1) := by decide +kernel
theorem dX5_share_21 : decode cX5_share 21 = .ok (.lstore_n 3, 1) := by decide +kernel
theorem dX5_share_22 : decode cX5_share 22 = .ok (.aload_n 0, 1) := by decide +kernel
theorem dX5_share_23 : decode cX5_share 23 = .ok (.getfield 56, 3) := by decide +kernel
theorem dX5_share_26 : decode cX5_share 26 = .ok (.iload 5, 2) := by decide +kernel
theorem dX5_share_28 : decode cX5_share 28 = .ok (.lconst 0, 1) := by decide +kernel
theorem dX5_share_29 : decode cX5_share 29 = .ok (.lastore, 1) := by decide +kernel
theorem dX5_share_30 : decode cX5_share 30 = .ok (.aload_n 0, 1) := by decide +kernel
theorem dX5_share_31 : decode cX5_share 31 = .ok (.getfield 59, 3) := by decide +kernel
theorem dX5_share_34 : decode cX5_share 34 = .ok (.iload 5, 2) := by decide +kernel
theorem dX5_share_36 : decode cX5_share 36 = .ok (.lconst 0, 1) := by decide +kernel
theorem dX5_share_37 : decode cX5_share 37 = .ok (.lastore, 1) := by decide +kernel
theorem dX5_share_38 : decode cX5_share 38 = .ok (.iinc 5 1, 3) := by decide +kernel
theorem dX5_share_41 : decode cX5_share 41 = .ok (.goto (-36), 3) := by decide +kernel
theorem dX5_share_44 : decode cX5_share 44 = .ok (.lload_n 3, 1) := by decide +kernel
theorem dX5_share_45 : decode cX5_share 45 = .ok (.lload_n 1, 1) := by decide +kernel
theorem dX5_share_46 : decode cX5_share 46 = .ok (.lcmp, 1) := by decide +kernel
theorem dX5_share_47 : decode cX5_share 47 = .ok (.ifCond .gt 35, 3) := by decide +kernel
theorem dX5_share_50 : decode cX5_share 50 = .ok (.iconst 0, 1) := by decide +kernel
theorem dX5_share_51 : decode cX5_share 51 = .ok (.istore 5, 2) := by decide +kernel
theorem dX5_share_53 : decode cX5_share 53 = .ok (.iload 5, 2) := by decide +kernel
theorem dX5_share_55 : decode cX5_share 55 = .ok (.bipush 8, 2) := by decide +kernel
theorem dX5_share_57 : decode cX5_share 57 = .ok (.if_icmp .ge 23, 3) := by decide +kernel
theorem dX5_share_60 : decode cX5_share 60 = .ok (.aload_n 0, 1) := by decide +kernel
theorem dX5_share_61 : decode cX5_share 61 = .ok (.getfield 56, 3) := by decide +kernel
theorem dX5_share_64 : decode cX5_share 64 = .ok (.iload 5, 2) := by decide +kernel
theorem dX5_share_66 : decode cX5_share 66 = .ok (.aload_n 0, 1) := by decide +kernel
theorem dX5_share_67 : decode cX5_share 67 = .ok (.getfield 53, 3) := by decide +kernel
theorem dX5_share_70 : decode cX5_share 70 = .ok (.iload 5, 2) := by decide +kernel
theorem dX5_share_72 : decode cX5_share 72 = .ok (.laload, 1) := by decide +kernel
theorem dX5_share_73 : decode cX5_share 73 = .ok (.lastore, 1) := by decide +kernel
theorem dX5_share_74 : decode cX5_share 74 = .ok (.iinc 5 1, 3) := by decide +kernel
theorem dX5_share_77 : decode cX5_share 77 = .ok (.goto (-24), 3) := by decide +kernel
theorem dX5_share_80 : decode cX5_share 80 = .ok (.lload_n 3, 1) := by decide +kernel
theorem dX5_share_81 : decode cX5_share 81 = .ok (.lreturn, 1) := by decide +kernel
theorem dX5_share_82 : decode cX5_share 82 = .ok (.lload_n 1, 1) := by decide +kernel
theorem dX5_share_83 : decode cX5_share 83 = .ok (.lstore 5, 2) := by decide +kernel
theorem dX5_share_85 : decode cX5_share 85 = .ok (.iconst 0, 1) := by decide +kernel
theorem dX5_share_86 : decode cX5_share 86 = .ok (.istore 7, 2) := by decide +kernel
theorem dX5_share_88 : decode cX5_share 88 = .ok (.iload 7, 2) := by decide +kernel
theorem dX5_share_90 : decode cX5_share 90 = .ok (.bipush 8, 2) := by decide +kernel
theorem dX5_share_92 : decode cX5_share 92 = .ok (.if_icmp .ge 29, 3) := by decide +kernel
theorem dX5_share_95 : decode cX5_share 95 = .ok (.aload_n 0, 1) := by decide +kernel
theorem dX5_share_96 : decode cX5_share 96 = .ok (.iload 7, 2) := by decide +kernel
theorem dX5_share_98 : decode cX5_share 98 = .ok (.lload_n 1, 1) := by decide +kernel
theorem dX5_share_99 : decode cX5_share 99 = .ok (.lload_n 3, 1) := by decide +kernel
theorem dX5_share_100 : decode cX5_share 100 = .ok (.invokevirtual 131, 3) := by decide +kernel
theorem dX5_share_103 : decode cX5_share 103 = .ok (.lload 5, 2) := by decide +kernel
theorem dX5_share_105 : decode cX5_share 105 = .ok (.aload_n 0, 1) := by decide +kernel
theorem dX5_share_106 : decode cX5_share 106 = .ok (.getfield 56, 3) := by decide +kernel
theorem dX5_share_109 : decode cX5_share 109 = .ok (.iload 7, 2) := by decide +kernel
theorem dX5_share_111 : decode cX5_share 111 = .ok (.laload, 1) := by decide +kernel
theorem dX5_share_112 : decode cX5_share 112 = .ok (.lsub, 1) := by decide +kernel
theorem dX5_share_113 : decode cX5_share 113 = .ok (.lstore 5, 2) := by decide +kernel
theorem dX5_share_115 : decode cX5_share 115 = .ok (.iinc 7 1, 3) := by decide +kernel
theorem dX5_share_118 : decode cX5_share 118 = .ok (.goto (-30), 3) := by decide +kernel
theorem dX5_share_121 : decode cX5_share 121 = .ok (.lload 5, 2) := by decide +kernel
theorem dX5_share_123 : decode cX5_share 123 = .ok (.lconst 0, 1) := by decide +kernel
theorem dX5_share_124 : decode cX5_share 124 = .ok (.lcmp, 1) := by decide +kernel
theorem dX5_share_125 : decode cX5_share 125 = .ok (.ifCond .le 79, 3) := by decide +kernel
theorem dX5_share_128 : decode cX5_share 128 = .ok (.iconst 0, 1) := by decide +kernel
theorem dX5_share_129 : decode cX5_share 129 = .ok (.istore 7, 2) := by decide +kernel
theorem dX5_share_131 : decode cX5_share 131 = .ok (.iconst 1, 1) := by decide +kernel
theorem dX5_share_132 : decode cX5_share 132 = .ok (.istore 8, 2) := by decide +kernel
theorem dX5_share_134 : decode cX5_share 134 = .ok (.iload 8, 2) := by decide +kernel
theorem dX5_share_136 : decode cX5_share 136 = .ok (.bipush 8, 2) := by decide +kernel
theorem dX5_share_138 : decode cX5_share 138 = .ok (.if_icmp .ge 36, 3) := by decide +kernel
theorem dX5_share_141 : decode cX5_share 141 = .ok (.aload_n 0, 1) := by decide +kernel
theorem dX5_share_142 : decode cX5_share 142 = .ok (.getfield 59, 3) := by decide +kernel
theorem dX5_share_145 : decode cX5_share 145 = .ok (.iload 8, 2) := by decide +kernel
theorem dX5_share_147 : decode cX5_share 147 = .ok (.laload, 1) := by decide +kernel
theorem dX5_share_148 : decode cX5_share 148 = .ok (.aload_n 0, 1) := by decide +kernel
theorem dX5_share_149 : decode cX5_share 149 = .ok (.getfield 59, 3) := by decide +kernel
theorem dX5_share_152 : decode cX5_share 152 = .ok (.iload 7, 2) := by decide +kernel
theorem dX5_share_154 : decode cX5_share 154 = .ok (.laload, 1) := by decide +kernel
theorem dX5_share_155 : decode cX5_share 155 = .ok (.lcmp, 1) := by decide +kernel
theorem dX5_share_156 : decode cX5_share 156 = .ok (.ifCond .le 8, 3) := by decide +kernel
theorem dX5_share_159 : decode cX5_share 159 = .ok (.iload 8, 2) := by decide +kernel
theorem dX5_share_161 : decode cX5_share 161 = .ok (.goto 5, 3) := by decide +kernel
theorem dX5_share_164 : decode cX5_share 164 = .ok (.iload 7, 2) := by decide +kernel
theorem dX5_share_166 : decode cX5_share 166 = .ok (.istore 7, 2) := by decide +kernel
theorem dX5_share_168 : decode cX5_share 168 = .ok (.iinc 8 1, 3) := by decide +kernel
theorem dX5_share_171 : decode cX5_share 171 = .ok (.goto (-37), 3) := by decide +kernel
theorem dX5_share_174 : decode cX5_share 174 = .ok (.aload_n 0, 1) := by decide +kernel
theorem dX5_share_175 : decode cX5_share 175 = .ok (.getfield 56, 3) := by decide +kernel
theorem dX5_share_178 : decode cX5_share 178 = .ok (.iload 7, 2) := by decide +kernel
theorem dX5_share_180 : decode cX5_share 180 = .ok (.dup2, 1) := by decide +kernel
theorem dX5_share_181 : decode cX5_share 181 = .ok (.laload, 1) := by decide +kernel
theorem dX5_share_182 : decode cX5_share 182 = .ok (.lconst 1, 1) := by decide +kernel
theorem dX5_share_183 : decode cX5_share 183 = .ok (.ladd, 1) := by decide +kernel
theorem dX5_share_184 : decode cX5_share 184 = .ok (.lastore, 1) := by decide +kernel
theorem dX5_share_185 : decode cX5_share 185 = .ok (.aload_n 0, 1) := by decide +kernel
theorem dX5_share_186 : decode cX5_share 186 = .ok (.getfield 59, 3) := by decide +kernel
theorem dX5_share_189 : decode cX5_share 189 = .ok (.iload 7, 2) := by decide +kernel
theorem dX5_share_191 : decode cX5_share 191 = .ok (.ldc2_w 92, 3) := by decide +kernel
theorem dX5_share_194 : decode cX5_share 194 = .ok (.lastore, 1) := by decide +kernel
theorem dX5_share_195 : decode cX5_share 195 = .ok (.lload 5, 2) := by decide +kernel
theorem dX5_share_197 : decode cX5_share 197 = .ok (.lconst 1, 1) := by decide +kernel
theorem dX5_share_198 : decode cX5_share 198 = .ok (.lsub, 1) := by decide +kernel
theorem dX5_share_199 : decode cX5_share 199 = .ok (.lstore 5, 2) := by decide +kernel
theorem dX5_share_201 : decode cX5_share 201 = .ok (.goto (-80), 3) := by decide +kernel
theorem dX5_share_204 : decode cX5_share 204 = .ok (.lload_n 1, 1) := by decide +kernel
theorem dX5_share_205 : decode cX5_share 205 = .ok (.lreturn, 1) := by decide +kernel
theorem dX5_bear_0 : decode cX5_bear 0 = .ok (.aload_n 0, 1) := by decide +kernel
theorem dX5_bear_1 : decode cX5_bear 1 = .ok (.getfield 7, 3) := by decide +kernel
theorem dX5_bear_4 : decode cX5_bear 4 = .ok (.iload_n 1, 1) := by decide +kernel
theorem dX5_bear_5 : decode cX5_bear 5 = .ok (.laload, 1) := by decide +kernel
theorem dX5_bear_6 : decode cX5_bear 6 = .ok (.lconst 0, 1) := by decide +kernel
theorem dX5_bear_7 : decode cX5_bear 7 = .ok (.lcmp, 1) := by decide +kernel
theorem dX5_bear_8 : decode cX5_bear 8 = .ok (.ifCond .ge 13, 3) := by decide +kernel
theorem dX5_bear_11 : decode cX5_bear 11 = .ok (.aload_n 0, 1) := by decide +kernel
theorem dX5_bear_12 : decode cX5_bear 12 = .ok (.getfield 7, 3) := by decide +kernel
theorem dX5_bear_15 : decode cX5_bear 15 = .ok (.iload_n 1, 1) := by decide +kernel
theorem dX5_bear_16 : decode cX5_bear 16 = .ok (.laload, 1) := by decide +kernel
theorem dX5_bear_17 : decode cX5_bear 17 = .ok (.lneg, 1) := by decide +kernel
theorem dX5_bear_18 : decode cX5_bear 18 = .ok (.goto 4, 3) := by decide +kernel
theorem dX5_bear_21 : decode cX5_bear 21 = .ok (.lconst 0, 1) := by decide +kernel
theorem dX5_bear_22 : decode cX5_bear 22 = .ok (.lstore_n 2, 1) := by decide +kernel
theorem dX5_bear_23 : decode cX5_bear 23 = .ok (.aload_n 0, 1) := by decide +kernel
theorem dX5_bear_24 : decode cX5_bear 24 = .ok (.getfield 7, 3) := by decide +kernel
theorem dX5_bear_27 : decode cX5_bear 27 = .ok (.iload_n 1, 1) := by decide +kernel
theorem dX5_bear_28 : decode cX5_bear 28 = .ok (.aload_n 0, 1) := by decide +kernel
theorem dX5_bear_29 : decode cX5_bear 29 = .ok (.getfield 7, 3) := by decide +kernel
theorem dX5_bear_32 : decode cX5_bear 32 = .ok (.iload_n 1, 1) := by decide +kernel
theorem dX5_bear_33 : decode cX5_bear 33 = .ok (.laload, 1) := by decide +kernel
theorem dX5_bear_34 : decode cX5_bear 34 = .ok (.lconst 0, 1) := by decide +kernel
theorem dX5_bear_35 : decode cX5_bear 35 = .ok (.lcmp, 1) := by decide +kernel
theorem dX5_bear_36 : decode cX5_bear 36 = .ok (.ifCond .ge 7, 3) := by decide +kernel
theorem dX5_bear_39 : decode cX5_bear 39 = .ok (.lconst 0, 1) := by decide +kernel
theorem dX5_bear_40 : decode cX5_bear 40 = .ok (.goto 9, 3) := by decide +kernel
theorem dX5_bear_43 : decode cX5_bear 43 = .ok (.aload_n 0, 1) := by decide +kernel
theorem dX5_bear_44 : decode cX5_bear 44 = .ok (.getfield 7, 3) := by decide +kernel
theorem dX5_bear_47 : decode cX5_bear 47 = .ok (.iload_n 1, 1) := by decide +kernel
theorem dX5_bear_48 : decode cX5_bear 48 = .ok (.laload, 1) := by decide +kernel
theorem dX5_bear_49 : decode cX5_bear 49 = .ok (.lastore, 1) := by decide +kernel
theorem dX5_bear_50 : decode cX5_bear 50 = .ok (.aload_n 0, 1) := by decide +kernel
theorem dX5_bear_51 : decode cX5_bear 51 = .ok (.getfield 50, 3) := by decide +kernel
theorem dX5_bear_54 : decode cX5_bear 54 = .ok (.iconst 0, 1) := by decide +kernel
theorem dX5_bear_55 : decode cX5_bear 55 = .ok (.lload_n 2, 1) := by decide +kernel
theorem dX5_bear_56 : decode cX5_bear 56 = .ok (.aload_n 0, 1) := by decide +kernel
theorem dX5_bear_57 : decode cX5_bear 57 = .ok (.getfield 13, 3) := by decide +kernel
theorem dX5_bear_60 : decode cX5_bear 60 = .ok (.iload_n 1, 1) := by decide +kernel
theorem dX5_bear_61 : decode cX5_bear 61 = .ok (.laload, 1) := by decide +kernel
theorem dX5_bear_62 : decode cX5_bear 62 = .ok (.lcmp, 1) := by decide +kernel
theorem dX5_bear_63 : decode cX5_bear 63 = .ok (.ifCond .ge 7, 3) := by decide +kernel
theorem dX5_bear_66 : decode cX5_bear 66 = .ok (.lload_n 2, 1) := by decide +kernel
theorem dX5_bear_67 : decode cX5_bear 67 = .ok (.goto 9, 3) := by decide +kernel
theorem dX5_bear_70 : decode cX5_bear 70 = .ok (.aload_n 0, 1) := by decide +kernel
theorem dX5_bear_71 : decode cX5_bear 71 = .ok (.getfield 13, 3) := by decide +kernel
theorem dX5_bear_74 : decode cX5_bear 74 = .ok (.iload_n 1, 1) := by decide +kernel
theorem dX5_bear_75 : decode cX5_bear 75 = .ok (.laload, 1) := by decide +kernel
theorem dX5_bear_76 : decode cX5_bear 76 = .ok (.lastore, 1) := by decide +kernel
theorem dX5_bear_77 : decode cX5_bear 77 = .ok (.aload_n 0, 1) := by decide +kernel
theorem dX5_bear_78 : decode cX5_bear 78 = .ok (.getfield 13, 3) := by decide +kernel
theorem dX5_bear_81 : decode cX5_bear 81 = .ok (.iload_n 1, 1) := by decide +kernel
theorem dX5_bear_82 : decode cX5_bear 82 = .ok (.aload_n 0, 1) := by decide +kernel
theorem dX5_bear_83 : decode cX5_bear 83 = .ok (.getfield 13, 3) := by decide +kernel
theorem dX5_bear_86 : decode cX5_bear 86 = .ok (.iload_n 1, 1) := by decide +kernel
theorem dX5_bear_87 : decode cX5_bear 87 = .ok (.laload, 1) := by decide +kernel
theorem dX5_bear_88 : decode cX5_bear 88 = .ok (.aload_n 0, 1) := by decide +kernel
theorem dX5_bear_89 : decode cX5_bear 89 = .ok (.getfield 50, 3) := by decide +kernel
theorem dX5_bear_92 : decode cX5_bear 92 = .ok (.iconst 0, 1) := by decide +kernel
theorem dX5_bear_93 : decode cX5_bear 93 = .ok (.laload, 1) := by decide +kernel
theorem dX5_bear_94 : decode cX5_bear 94 = .ok (.lsub, 1) := by decide +kernel
theorem dX5_bear_95 : decode cX5_bear 95 = .ok (.lastore, 1) := by decide +kernel
theorem dX5_bear_96 : decode cX5_bear 96 = .ok (.lload_n 2, 1) := by decide +kernel
theorem dX5_bear_97 : decode cX5_bear 97 = .ok (.aload_n 0, 1) := by decide +kernel
theorem dX5_bear_98 : decode cX5_bear 98 = .ok (.getfield 50, 3) := by decide +kernel
theorem dX5_bear_101 : decode cX5_bear 101 = .ok (.iconst 0, 1) := by decide +kernel
theorem dX5_bear_102 : decode cX5_bear 102 = .ok (.laload, 1) := by decide +kernel
theorem dX5_bear_103 : decode cX5_bear 103 = .ok (.lsub, 1) := by decide +kernel
theorem dX5_bear_104 : decode cX5_bear 104 = .ok (.lstore_n 2, 1) := by decide +kernel
theorem dX5_bear_105 : decode cX5_bear 105 = .ok (.aload_n 0, 1) := by decide +kernel
theorem dX5_bear_106 : decode cX5_bear 106 = .ok (.getfield 50, 3) := by decide +kernel
theorem dX5_bear_109 : decode cX5_bear 109 = .ok (.iconst 1, 1) := by decide +kernel
theorem dX5_bear_110 : decode cX5_bear 110 = .ok (.lload_n 2, 1) := by decide +kernel
theorem dX5_bear_111 : decode cX5_bear 111 = .ok (.aload_n 0, 1) := by decide +kernel
theorem dX5_bear_112 : decode cX5_bear 112 = .ok (.getfield 84, 3) := by decide +kernel
theorem dX5_bear_115 : decode cX5_bear 115 = .ok (.lcmp, 1) := by decide +kernel
theorem dX5_bear_116 : decode cX5_bear 116 = .ok (.ifCond .ge 7, 3) := by decide +kernel
theorem dX5_bear_119 : decode cX5_bear 119 = .ok (.lload_n 2, 1) := by decide +kernel
theorem dX5_bear_120 : decode cX5_bear 120 = .ok (.goto 7, 3) := by decide +kernel
theorem dX5_bear_123 : decode cX5_bear 123 = .ok (.aload_n 0, 1) := by decide +kernel
theorem dX5_bear_124 : decode cX5_bear 124 = .ok (.getfield 84, 3) := by decide +kernel
theorem dX5_bear_127 : decode cX5_bear 127 = .ok (.lastore, 1) := by decide +kernel
theorem dX5_bear_128 : decode cX5_bear 128 = .ok (.lload_n 2, 1) := by decide +kernel
theorem dX5_bear_129 : decode cX5_bear 129 = .ok (.aload_n 0, 1) := by decide +kernel
theorem dX5_bear_130 : decode cX5_bear 130 = .ok (.getfield 50, 3) := by decide +kernel
theorem dX5_bear_133 : decode cX5_bear 133 = .ok (.iconst 1, 1) := by decide +kernel
theorem dX5_bear_134 : decode cX5_bear 134 = .ok (.laload, 1) := by decide +kernel
theorem dX5_bear_135 : decode cX5_bear 135 = .ok (.lsub, 1) := by decide +kernel
theorem dX5_bear_136 : decode cX5_bear 136 = .ok (.lstore_n 2, 1) := by decide +kernel
theorem dX5_bear_137 : decode cX5_bear 137 = .ok (.iconst 0, 1) := by decide +kernel
theorem dX5_bear_138 : decode cX5_bear 138 = .ok (.istore 4, 2) := by decide +kernel
theorem dX5_bear_140 : decode cX5_bear 140 = .ok (.iload 4, 2) := by decide +kernel
theorem dX5_bear_142 : decode cX5_bear 142 = .ok (.bipush 8, 2) := by decide +kernel
theorem dX5_bear_144 : decode cX5_bear 144 = .ok (.if_icmp .ge 60, 3) := by decide +kernel
theorem dX5_bear_147 : decode cX5_bear 147 = .ok (.aload_n 0, 1) := by decide +kernel
theorem dX5_bear_148 : decode cX5_bear 148 = .ok (.getfield 53, 3) := by decide +kernel
theorem dX5_bear_151 : decode cX5_bear 151 = .ok (.iload 4, 2) := by decide +kernel
theorem dX5_bear_153 : decode cX5_bear 153 = .ok (.iload 4, 2) := by decide +kernel
theorem dX5_bear_155 : decode cX5_bear 155 = .ok (.aload_n 0, 1) := by decide +kernel
theorem dX5_bear_156 : decode cX5_bear 156 = .ok (.getfield 66, 3) := by decide +kernel
theorem dX5_bear_159 : decode cX5_bear 159 = .ok (.if_icmp .ge 23, 3) := by decide +kernel
theorem dX5_bear_162 : decode cX5_bear 162 = .ok (.aload_n 0, 1) := by decide +kernel
theorem dX5_bear_163 : decode cX5_bear 163 = .ok (.getfield 16, 3) := by decide +kernel
theorem dX5_bear_166 : decode cX5_bear 166 = .ok (.iload 4, 2) := by decide +kernel
theorem dX5_bear_168 : decode cX5_bear 168 = .ok (.iaload, 1) := by decide +kernel
theorem dX5_bear_169 : decode cX5_bear 169 = .ok (.ifCond .ne 13, 3) := by decide +kernel
theorem dX5_bear_172 : decode cX5_bear 172 = .ok (.aload_n 0, 1) := by decide +kernel
theorem dX5_bear_173 : decode cX5_bear 173 = .ok (.getfield 13, 3) := by decide +kernel
theorem dX5_bear_176 : decode cX5_bear 176 = .ok (.iload 4, 2) := by decide +kernel
theorem dX5_bear_178 : decode cX5_bear 178 = .ok (.laload, 1) := by decide +kernel
theorem dX5_bear_179 : decode cX5_bear 179 = .ok (.goto 4, 3) := by decide +kernel
theorem dX5_bear_182 : decode cX5_bear 182 = .ok (.lconst 0, 1) := by decide +kernel
theorem dX5_bear_183 : decode cX5_bear 183 = .ok (.lastore, 1) := by decide +kernel
theorem dX5_bear_184 : decode cX5_bear 184 = .ok (.aload_n 0, 1) := by decide +kernel
theorem dX5_bear_185 : decode cX5_bear 185 = .ok (.getfield 44, 3) := by decide +kernel
theorem dX5_bear_188 : decode cX5_bear 188 = .ok (.iload 4, 2) := by decide +kernel
theorem dX5_bear_190 : decode cX5_bear 190 = .ok (.aload_n 0, 1) := by decide +kernel
theorem dX5_bear_191 : decode cX5_bear 191 = .ok (.getfield 53, 3) := by decide +kernel
theorem dX5_bear_194 : decode cX5_bear 194 = .ok (.iload 4, 2) := by decide +kernel
theorem dX5_bear_196 : decode cX5_bear 196 = .ok (.laload, 1) := by decide +kernel
theorem dX5_bear_197 : decode cX5_bear 197 = .ok (.lastore, 1) := by decide +kernel
theorem dX5_bear_198 : decode cX5_bear 198 = .ok (.iinc 4 1, 3) := by decide +kernel
theorem dX5_bear_201 : decode cX5_bear 201 = .ok (.goto (-61), 3) := by decide +kernel
theorem dX5_bear_204 : decode cX5_bear 204 = .ok (.aload_n 0, 1) := by decide +kernel
theorem dX5_bear_205 : decode cX5_bear 205 = .ok (.getfield 50, 3) := by decide +kernel
theorem dX5_bear_208 : decode cX5_bear 208 = .ok (.iconst 2, 1) := by decide +kernel
theorem dX5_bear_209 : decode cX5_bear 209 = .ok (.aload_n 0, 1) := by decide +kernel
theorem dX5_bear_210 : decode cX5_bear 210 = .ok (.lload_n 2, 1) := by decide +kernel
theorem dX5_bear_211 : decode cX5_bear 211 = .ok (.invokevirtual 135, 3) := by decide +kernel
theorem dX5_bear_214 : decode cX5_bear 214 = .ok (.lastore, 1) := by decide +kernel
theorem dX5_bear_215 : decode cX5_bear 215 = .ok (.iconst 0, 1) := by decide +kernel
theorem dX5_bear_216 : decode cX5_bear 216 = .ok (.istore 4, 2) := by decide +kernel
theorem dX5_bear_218 : decode cX5_bear 218 = .ok (.iload 4, 2) := by decide +kernel
theorem dX5_bear_220 : decode cX5_bear 220 = .ok (.bipush 8, 2) := by decide +kernel
theorem dX5_bear_222 : decode cX5_bear 222 = .ok (.if_icmp .ge 31, 3) := by decide +kernel
theorem dX5_bear_225 : decode cX5_bear 225 = .ok (.aload_n 0, 1) := by decide +kernel
theorem dX5_bear_226 : decode cX5_bear 226 = .ok (.getfield 13, 3) := by decide +kernel
theorem dX5_bear_229 : decode cX5_bear 229 = .ok (.iload 4, 2) := by decide +kernel
theorem dX5_bear_231 : decode cX5_bear 231 = .ok (.aload_n 0, 1) := by decide +kernel
theorem dX5_bear_232 : decode cX5_bear 232 = .ok (.getfield 13, 3) := by decide +kernel
theorem dX5_bear_235 : decode cX5_bear 235 = .ok (.iload 4, 2) := by decide +kernel
theorem dX5_bear_237 : decode cX5_bear 237 = .ok (.laload, 1) := by decide +kernel
theorem dX5_bear_238 : decode cX5_bear 238 = .ok (.aload_n 0, 1) := by decide +kernel
theorem dX5_bear_239 : decode cX5_bear 239 = .ok (.getfield 56, 3) := by decide +kernel
theorem dX5_bear_242 : decode cX5_bear 242 = .ok (.iload 4, 2) := by decide +kernel
theorem dX5_bear_244 : decode cX5_bear 244 = .ok (.laload, 1) := by decide +kernel
theorem dX5_bear_245 : decode cX5_bear 245 = .ok (.lsub, 1) := by decide +kernel
theorem dX5_bear_246 : decode cX5_bear 246 = .ok (.lastore, 1) := by decide +kernel
theorem dX5_bear_247 : decode cX5_bear 247 = .ok (.iinc 4 1, 3) := by decide +kernel
theorem dX5_bear_250 : decode cX5_bear 250 = .ok (.goto (-32), 3) := by decide +kernel
theorem dX5_bear_253 : decode cX5_bear 253 = .ok (.lload_n 2, 1) := by decide +kernel
theorem dX5_bear_254 : decode cX5_bear 254 = .ok (.aload_n 0, 1) := by decide +kernel
theorem dX5_bear_255 : decode cX5_bear 255 = .ok (.getfield 50, 3) := by decide +kernel
theorem dX5_bear_258 : decode cX5_bear 258 = .ok (.iconst 2, 1) := by decide +kernel
theorem dX5_bear_259 : decode cX5_bear 259 = .ok (.laload, 1) := by decide +kernel
theorem dX5_bear_260 : decode cX5_bear 260 = .ok (.lsub, 1) := by decide +kernel
theorem dX5_bear_261 : decode cX5_bear 261 = .ok (.lstore_n 2, 1) := by decide +kernel
theorem dX5_bear_262 : decode cX5_bear 262 = .ok (.iconst 0, 1) := by decide +kernel
theorem dX5_bear_263 : decode cX5_bear 263 = .ok (.istore 4, 2) := by decide +kernel
theorem dX5_bear_265 : decode cX5_bear 265 = .ok (.iload 4, 2) := by decide +kernel
theorem dX5_bear_267 : decode cX5_bear 267 = .ok (.bipush 8, 2) := by decide +kernel
theorem dX5_bear_269 : decode cX5_bear 269 = .ok (.if_icmp .ge 66, 3) := by decide +kernel
theorem dX5_bear_272 : decode cX5_bear 272 = .ok (.aload_n 0, 1) := by decide +kernel
theorem dX5_bear_273 : decode cX5_bear 273 = .ok (.getfield 7, 3) := by decide +kernel
theorem dX5_bear_276 : decode cX5_bear 276 = .ok (.iload 4, 2) := by decide +kernel
theorem dX5_bear_278 : decode cX5_bear 278 = .ok (.laload, 1) := by decide +kernel
theorem dX5_bear_279 : decode cX5_bear 279 = .ok (.lconst 0, 1) := by decide +kernel
theorem dX5_bear_280 : decode cX5_bear 280 = .ok (.lcmp, 1) := by decide +kernel
theorem dX5_bear_281 : decode cX5_bear 281 = .ok (.ifCond .ge 7, 3) := by decide +kernel
theorem dX5_bear_284 : decode cX5_bear 284 = .ok (.lconst 0, 1) := by decide +kernel
theorem dX5_bear_285 : decode cX5_bear 285 = .ok (.goto 10, 3) := by decide +kernel
theorem dX5_bear_288 : decode cX5_bear 288 = .ok (.aload_n 0, 1) := by decide +kernel
theorem dX5_bear_289 : decode cX5_bear 289 = .ok (.getfield 7, 3) := by decide +kernel
theorem dX5_bear_292 : decode cX5_bear 292 = .ok (.iload 4, 2) := by decide +kernel
theorem dX5_bear_294 : decode cX5_bear 294 = .ok (.laload, 1) := by decide +kernel
theorem dX5_bear_295 : decode cX5_bear 295 = .ok (.lstore 5, 2) := by decide +kernel
theorem dX5_bear_297 : decode cX5_bear 297 = .ok (.aload_n 0, 1) := by decide +kernel
theorem dX5_bear_298 : decode cX5_bear 298 = .ok (.getfield 53, 3) := by decide +kernel
theorem dX5_bear_301 : decode cX5_bear 301 = .ok (.iload 4, 2) := by decide +kernel
theorem dX5_bear_303 : decode cX5_bear 303 = .ok (.aload_n 0, 1) := by decide +kernel
theorem dX5_bear_304 : decode cX5_bear 304 = .ok (.getfield 44, 3) := by decide +kernel
theorem dX5_bear_307 : decode cX5_bear 307 = .ok (.iload 4, 2) := by decide +kernel
theorem dX5_bear_309 : decode cX5_bear 309 = .ok (.laload, 1) := by decide +kernel
theorem dX5_bear_310 : decode cX5_bear 310 = .ok (.lload 5, 2) := by decide +kernel
theorem dX5_bear_312 : decode cX5_bear 312 = .ok (.lcmp, 1) := by decide +kernel
theorem dX5_bear_313 : decode cX5_bear 313 = .ok (.ifCond .ge 13, 3) := by decide +kernel
theorem dX5_bear_316 : decode cX5_bear 316 = .ok (.aload_n 0, 1) := by decide +kernel
theorem dX5_bear_317 : decode cX5_bear 317 = .ok (.getfield 44, 3) := by decide +kernel
theorem dX5_bear_320 : decode cX5_bear 320 = .ok (.iload 4, 2) := by decide +kernel
theorem dX5_bear_322 : decode cX5_bear 322 = .ok (.laload, 1) := by decide +kernel
theorem dX5_bear_323 : decode cX5_bear 323 = .ok (.goto 5, 3) := by decide +kernel
theorem dX5_bear_326 : decode cX5_bear 326 = .ok (.lload 5, 2) := by decide +kernel
theorem dX5_bear_328 : decode cX5_bear 328 = .ok (.lastore, 1) := by decide +kernel
theorem dX5_bear_329 : decode cX5_bear 329 = .ok (.iinc 4 1, 3) := by decide +kernel
theorem dX5_bear_332 : decode cX5_bear 332 = .ok (.goto (-67), 3) := by decide +kernel
theorem dX5_bear_335 : decode cX5_bear 335 = .ok (.aload_n 0, 1) := by decide +kernel
theorem dX5_bear_336 : decode cX5_bear 336 = .ok (.getfield 50, 3) := by decide +kernel
theorem dX5_bear_339 : decode cX5_bear 339 = .ok (.iconst 3, 1) := by decide +kernel
theorem dX5_bear_340 : decode cX5_bear 340 = .ok (.aload_n 0, 1) := by decide +kernel
theorem dX5_bear_341 : decode cX5_bear 341 = .ok (.lload_n 2, 1) := by decide +kernel
theorem dX5_bear_342 : decode cX5_bear 342 = .ok (.invokevirtual 135, 3) := by decide +kernel
theorem dX5_bear_345 : decode cX5_bear 345 = .ok (.lastore, 1) := by decide +kernel
theorem dX5_bear_346 : decode cX5_bear 346 = .ok (.iconst 0, 1) := by decide +kernel
theorem dX5_bear_347 : decode cX5_bear 347 = .ok (.istore 4, 2) := by decide +kernel
theorem dX5_bear_349 : decode cX5_bear 349 = .ok (.iload 4, 2) := by decide +kernel
theorem dX5_bear_351 : decode cX5_bear 351 = .ok (.bipush 8, 2) := by decide +kernel
theorem dX5_bear_353 : decode cX5_bear 353 = .ok (.if_icmp .ge 31, 3) := by decide +kernel
theorem dX5_bear_356 : decode cX5_bear 356 = .ok (.aload_n 0, 1) := by decide +kernel
theorem dX5_bear_357 : decode cX5_bear 357 = .ok (.getfield 7, 3) := by decide +kernel
theorem dX5_bear_360 : decode cX5_bear 360 = .ok (.iload 4, 2) := by decide +kernel
theorem dX5_bear_362 : decode cX5_bear 362 = .ok (.aload_n 0, 1) := by decide +kernel
theorem dX5_bear_363 : decode cX5_bear 363 = .ok (.getfield 7, 3) := by decide +kernel
theorem dX5_bear_366 : decode cX5_bear 366 = .ok (.iload 4, 2) := by decide +kernel
theorem dX5_bear_368 : decode cX5_bear 368 = .ok (.laload, 1) := by decide +kernel
theorem dX5_bear_369 : decode cX5_bear 369 = .ok (.aload_n 0, 1) := by decide +kernel
theorem dX5_bear_370 : decode cX5_bear 370 = .ok (.getfield 56, 3) := by decide +kernel
theorem dX5_bear_373 : decode cX5_bear 373 = .ok (.iload 4, 2) := by decide +kernel
theorem dX5_bear_375 : decode cX5_bear 375 = .ok (.laload, 1) := by decide +kernel
theorem dX5_bear_376 : decode cX5_bear 376 = .ok (.lsub, 1) := by decide +kernel
theorem dX5_bear_377 : decode cX5_bear 377 = .ok (.lastore, 1) := by decide +kernel
theorem dX5_bear_378 : decode cX5_bear 378 = .ok (.iinc 4 1, 3) := by decide +kernel
theorem dX5_bear_381 : decode cX5_bear 381 = .ok (.goto (-32), 3) := by decide +kernel
theorem dX5_bear_384 : decode cX5_bear 384 = .ok (.aload_n 0, 1) := by decide +kernel
theorem dX5_bear_385 : decode cX5_bear 385 = .ok (.getfield 50, 3) := by decide +kernel
theorem dX5_bear_388 : decode cX5_bear 388 = .ok (.iconst 4, 1) := by decide +kernel
theorem dX5_bear_389 : decode cX5_bear 389 = .ok (.lload_n 2, 1) := by decide +kernel
theorem dX5_bear_390 : decode cX5_bear 390 = .ok (.aload_n 0, 1) := by decide +kernel
theorem dX5_bear_391 : decode cX5_bear 391 = .ok (.getfield 50, 3) := by decide +kernel
theorem dX5_bear_394 : decode cX5_bear 394 = .ok (.iconst 3, 1) := by decide +kernel
theorem dX5_bear_395 : decode cX5_bear 395 = .ok (.laload, 1) := by decide +kernel
theorem dX5_bear_396 : decode cX5_bear 396 = .ok (.lsub, 1) := by decide +kernel
theorem dX5_bear_397 : decode cX5_bear 397 = .ok (.lastore, 1) := by decide +kernel
theorem dX5_bear_398 : decode cX5_bear 398 = .ok (.aload_n 0, 1) := by decide +kernel
theorem dX5_bear_399 : decode cX5_bear 399 = .ok (.getfield 50, 3) := by decide +kernel
theorem dX5_bear_402 : decode cX5_bear 402 = .ok (.iconst 4, 1) := by decide +kernel
theorem dX5_bear_403 : decode cX5_bear 403 = .ok (.laload, 1) := by decide +kernel
theorem dX5_bear_404 : decode cX5_bear 404 = .ok (.lreturn, 1) := by decide +kernel
theorem dX5_closeOut_0 : decode cX5_closeOut 0 = .ok (.aload_n 0, 1) := by decide +kernel
theorem dX5_closeOut_1 : decode cX5_closeOut 1 = .ok (.aload_n 0, 1) := by decide +kernel
theorem dX5_closeOut_2 : decode cX5_closeOut 2 = .ok (.iload_n 1, 1) := by decide +kernel
theorem dX5_closeOut_3 : decode cX5_closeOut 3 = .ok (.invokevirtual 100, 3) := by decide +kernel
theorem dX5_closeOut_6 : decode cX5_closeOut 6 = .ok (.ifCond .ne 7, 3) := by decide +kernel
theorem dX5_closeOut_9 : decode cX5_closeOut 9 = .ok (.iconst 1, 1) := by decide +kernel
theorem dX5_closeOut_10 : decode cX5_closeOut 10 = .ok (.goto 18, 3) := by decide +kernel
theorem dX5_closeOut_13 : decode cX5_closeOut 13 = .ok (.aload_n 0, 1) := by decide +kernel
theorem dX5_closeOut_14 : decode cX5_closeOut 14 = .ok (.getfield 16, 3) := by decide +kernel
theorem dX5_closeOut_17 : decode cX5_closeOut 17 = .ok (.iload_n 1, 1) := by decide +kernel
theorem dX5_closeOut_18 : decode cX5_closeOut 18 = .ok (.iaload, 1) := by decide +kernel
theorem dX5_closeOut_19 : decode cX5_closeOut 19 = .ok (.iconst 1, 1) := by decide +kernel
theorem dX5_closeOut_20 : decode cX5_closeOut 20 = .ok (.if_icmp .eq 7, 3) := by decide +kernel
theorem dX5_closeOut_23 : decode cX5_closeOut 23 = .ok (.iconst 2, 1) := by decide +kernel
theorem dX5_closeOut_24 : decode cX5_closeOut 24 = .ok (.goto 4, 3) := by decide +kernel
theorem dX5_closeOut_27 : decode cX5_closeOut 27 = .ok (.iconst 0, 1) := by decide +kernel
theorem dX5_closeOut_28 : decode cX5_closeOut 28 = .ok (.putfield 62, 3) := by decide +kernel
theorem dX5_closeOut_31 : decode cX5_closeOut 31 = .ok (.aload_n 0, 1) := by decide +kernel
theorem dX5_closeOut_32 : decode cX5_closeOut 32 = .ok (.getfield 62, 3) := by decide +kernel
theorem dX5_closeOut_35 : decode cX5_closeOut 35 = .ok (.ifCond .le 5, 3) := by decide +kernel
theorem dX5_closeOut_38 : decode cX5_closeOut 38 = .ok (.lconst 0, 1) := by decide +kernel
theorem dX5_closeOut_39 : decode cX5_closeOut 39 = .ok (.lreturn, 1) := by decide +kernel
theorem dX5_closeOut_40 : decode cX5_closeOut 40 = .ok (.iconst 0, 1) := by decide +kernel
theorem dX5_closeOut_41 : decode cX5_closeOut 41 = .ok (.istore_n 2, 1) := by decide +kernel
theorem dX5_closeOut_42 : decode cX5_closeOut 42 = .ok (.iload_n 2, 1) := by decide +kernel
theorem dX5_closeOut_43 : decode cX5_closeOut 43 = .ok (.bipush 8, 2) := by decide +kernel
theorem dX5_closeOut_45 : decode cX5_closeOut 45 = .ok (.if_icmp .ge 21, 3) := by decide +kernel
theorem dX5_closeOut_48 : decode cX5_closeOut 48 = .ok (.aload_n 0, 1) := by decide +kernel
theorem dX5_closeOut_49 : decode cX5_closeOut 49 = .ok (.getfield 41, 3) := by decide +kernel
theorem dX5_closeOut_52 : decode cX5_closeOut 52 = .ok (.iload_n 2, 1) := by decide +kernel
theorem dX5_closeOut_53 : decode cX5_closeOut 53 = .ok (.aload_n 0, 1) := by decide +kernel
theorem dX5_closeOut_54 : decode cX5_closeOut 54 = .ok (.getfield 7, 3) := by decide +kernel
theorem dX5_closeOut_57 : decode cX5_closeOut 57 = .ok (.iload_n 2, 1) := by decide +kernel
theorem dX5_closeOut_58 : decode cX5_closeOut 58 = .ok (.laload, 1) := by decide +kernel
theorem dX5_closeOut_59 : decode cX5_closeOut 59 = .ok (.lastore, 1) := by decide +kernel
theorem dX5_closeOut_60 : decode cX5_closeOut 60 = .ok (.iinc 2 1, 3) := by decide +kernel
theorem dX5_closeOut_63 : decode cX5_closeOut 63 = .ok (.goto (-21), 3) := by decide +kernel
theorem dX5_closeOut_66 : decode cX5_closeOut 66 = .ok (.iconst 0, 1) := by decide +kernel
theorem dX5_closeOut_67 : decode cX5_closeOut 67 = .ok (.istore_n 2, 1) := by decide +kernel
theorem dX5_closeOut_68 : decode cX5_closeOut 68 = .ok (.iload_n 2, 1) := by decide +kernel
theorem dX5_closeOut_69 : decode cX5_closeOut 69 = .ok (.bipush 48, 2) := by decide +kernel
theorem dX5_closeOut_71 : decode cX5_closeOut 71 = .ok (.if_icmp .ge 21, 3) := by decide +kernel
theorem dX5_closeOut_74 : decode cX5_closeOut 74 = .ok (.aload_n 0, 1) := by decide +kernel
theorem dX5_closeOut_75 : decode cX5_closeOut 75 = .ok (.getfield 47, 3) := by decide +kernel
theorem dX5_closeOut_78 : decode cX5_closeOut 78 = .ok (.iload_n 2, 1) := by decide +kernel
theorem dX5_closeOut_79 : decode cX5_closeOut 79 = .ok (.aload_n 0, 1) := by decide +kernel
theorem dX5_closeOut_80 : decode cX5_closeOut 80 = .ok (.getfield 20, 3) := by decide +kernel
theorem dX5_closeOut_83 : decode cX5_closeOut 83 = .ok (.iload_n 2, 1) := by decide +kernel
theorem dX5_closeOut_84 : decode cX5_closeOut 84 = .ok (.iaload, 1) := by decide +kernel
theorem dX5_closeOut_85 : decode cX5_closeOut 85 = .ok (.iastore, 1) := by decide +kernel
theorem dX5_closeOut_86 : decode cX5_closeOut 86 = .ok (.iinc 2 1, 3) := by decide +kernel
theorem dX5_closeOut_89 : decode cX5_closeOut 89 = .ok (.goto (-21), 3) := by decide +kernel
theorem dX5_closeOut_92 : decode cX5_closeOut 92 = .ok (.aload_n 0, 1) := by decide +kernel
theorem dX5_closeOut_93 : decode cX5_closeOut 93 = .ok (.iconst 0, 1) := by decide +kernel
theorem dX5_closeOut_94 : decode cX5_closeOut 94 = .ok (.putfield 117, 3) := by decide +kernel
theorem dX5_closeOut_97 : decode cX5_closeOut 97 = .ok (.iconst 0, 1) := by decide +kernel
theorem dX5_closeOut_98 : decode cX5_closeOut 98 = .ok (.istore_n 2, 1) := by decide +kernel
theorem dX5_closeOut_99 : decode cX5_closeOut 99 = .ok (.iload_n 2, 1) := by decide +kernel
theorem dX5_closeOut_100 : decode cX5_closeOut 100 = .ok (.aload_n 0, 1) := by decide +kernel
theorem dX5_closeOut_101 : decode cX5_closeOut 101 = .ok (.getfield 69, 3) := by decide +kernel
theorem dX5_closeOut_104 : decode cX5_closeOut 104 = .ok (.if_icmp .ge 22, 3) := by decide +kernel
theorem dX5_closeOut_107 : decode cX5_closeOut 107 = .ok (.aload_n 0, 1) := by decide +kernel
theorem dX5_closeOut_108 : decode cX5_closeOut 108 = .ok (.getfield 117, 3) := by decide +kernel
theorem dX5_closeOut_111 : decode cX5_closeOut 111 = .ok (.ifCond .ne 15, 3) := by decide +kernel
theorem dX5_closeOut_114 : decode cX5_closeOut 114 = .ok (.aload_n 0, 1) := by decide +kernel
theorem dX5_closeOut_115 : decode cX5_closeOut 115 = .ok (.iload_n 1, 1) := by decide +kernel
theorem dX5_closeOut_116 : decode cX5_closeOut 116 = .ok (.iload_n 2, 1) := by decide +kernel
theorem dX5_closeOut_117 : decode cX5_closeOut 117 = .ok (.invokevirtual 139, 3) := by decide +kernel
theorem dX5_closeOut_120 : decode cX5_closeOut 120 = .ok (.iinc 2 1, 3) := by decide +kernel
theorem dX5_closeOut_123 : decode cX5_closeOut 123 = .ok (.goto (-24), 3) := by decide +kernel
theorem dX5_closeOut_126 : decode cX5_closeOut 126 = .ok (.aload_n 0, 1) := by decide +kernel
theorem dX5_closeOut_127 : decode cX5_closeOut 127 = .ok (.getfield 117, 3) := by decide +kernel
theorem dX5_closeOut_130 : decode cX5_closeOut 130 = .ok (.ifCond .ne 15, 3) := by decide +kernel
theorem dX5_closeOut_133 : decode cX5_closeOut 133 = .ok (.aload_n 0, 1) := by decide +kernel
theorem dX5_closeOut_134 : decode cX5_closeOut 134 = .ok (.iload_n 1, 1) := by decide +kernel
theorem dX5_closeOut_135 : decode cX5_closeOut 135 = .ok (.invokevirtual 143, 3) := by decide +kernel
theorem dX5_closeOut_138 : decode cX5_closeOut 138 = .ok (.ldc2_w 72, 3) := by decide +kernel
theorem dX5_closeOut_141 : decode cX5_closeOut 141 = .ok (.lcmp, 1) := by decide +kernel
theorem dX5_closeOut_142 : decode cX5_closeOut 142 = .ok (.ifCond .le 59, 3) := by decide +kernel
theorem dX5_closeOut_145 : decode cX5_closeOut 145 = .ok (.iconst 0, 1) := by decide +kernel
theorem dX5_closeOut_146 : decode cX5_closeOut 146 = .ok (.istore_n 2, 1) := by decide +kernel
theorem dX5_closeOut_147 : decode cX5_closeOut 147 = .ok (.iload_n 2, 1) := by decide +kernel
theorem dX5_closeOut_148 : decode cX5_closeOut 148 = .ok (.bipush 8, 2) := by decide +kernel
theorem dX5_closeOut_150 : decode cX5_closeOut 150 = .ok (.if_icmp .ge 21, 3) := by decide +kernel
theorem dX5_closeOut_153 : decode cX5_closeOut 153 = .ok (.aload_n 0, 1) := by decide +kernel
theorem dX5_closeOut_154 : decode cX5_closeOut 154 = .ok (.getfield 7, 3) := by decide +kernel
theorem dX5_closeOut_157 : decode cX5_closeOut 157 = .ok (.iload_n 2, 1) := by decide +kernel
theorem dX5_closeOut_158 : decode cX5_closeOut 158 = .ok (.aload_n 0, 1) := by decide +kernel
theorem dX5_closeOut_159 : decode cX5_closeOut 159 = .ok (.getfield 41, 3) := by decide +kernel
theorem dX5_closeOut_162 : decode cX5_closeOut 162 = .ok (.iload_n 2, 1) := by decide +kernel
theorem dX5_closeOut_163 : decode cX5_closeOut 163 = .ok (.laload, 1) := by decide +kernel
theorem dX5_closeOut_164 : decode cX5_closeOut 164 = .ok (.lastore, 1) := by decide +kernel
theorem dX5_closeOut_165 : decode cX5_closeOut 165 = .ok (.iinc 2 1, 3) := by decide +kernel
theorem dX5_closeOut_168 : decode cX5_closeOut 168 = .ok (.goto (-21), 3) := by decide +kernel
theorem dX5_closeOut_171 : decode cX5_closeOut 171 = .ok (.iconst 0, 1) := by decide +kernel
theorem dX5_closeOut_172 : decode cX5_closeOut 172 = .ok (.istore_n 2, 1) := by decide +kernel
theorem dX5_closeOut_173 : decode cX5_closeOut 173 = .ok (.iload_n 2, 1) := by decide +kernel
theorem dX5_closeOut_174 : decode cX5_closeOut 174 = .ok (.bipush 48, 2) := by decide +kernel
theorem dX5_closeOut_176 : decode cX5_closeOut 176 = .ok (.if_icmp .ge 21, 3) := by decide +kernel
theorem dX5_closeOut_179 : decode cX5_closeOut 179 = .ok (.aload_n 0, 1) := by decide +kernel
theorem dX5_closeOut_180 : decode cX5_closeOut 180 = .ok (.getfield 20, 3) := by decide +kernel
theorem dX5_closeOut_183 : decode cX5_closeOut 183 = .ok (.iload_n 2, 1) := by decide +kernel
theorem dX5_closeOut_184 : decode cX5_closeOut 184 = .ok (.aload_n 0, 1) := by decide +kernel
theorem dX5_closeOut_185 : decode cX5_closeOut 185 = .ok (.getfield 47, 3) := by decide +kernel
theorem dX5_closeOut_188 : decode cX5_closeOut 188 = .ok (.iload_n 2, 1) := by decide +kernel
theorem dX5_closeOut_189 : decode cX5_closeOut 189 = .ok (.iaload, 1) := by decide +kernel
theorem dX5_closeOut_190 : decode cX5_closeOut 190 = .ok (.iastore, 1) := by decide +kernel
theorem dX5_closeOut_191 : decode cX5_closeOut 191 = .ok (.iinc 2 1, 3) := by decide +kernel
theorem dX5_closeOut_194 : decode cX5_closeOut 194 = .ok (.goto (-21), 3) := by decide +kernel
theorem dX5_closeOut_197 : decode cX5_closeOut 197 = .ok (.ldc2_w 92, 3) := by decide +kernel
theorem dX5_closeOut_200 : decode cX5_closeOut 200 = .ok (.lreturn, 1) := by decide +kernel
theorem dX5_closeOut_201 : decode cX5_closeOut 201 = .ok (.aload_n 0, 1) := by decide +kernel
theorem dX5_closeOut_202 : decode cX5_closeOut 202 = .ok (.iload_n 1, 1) := by decide +kernel
theorem dX5_closeOut_203 : decode cX5_closeOut 203 = .ok (.invokevirtual 146, 3) := by decide +kernel
theorem dX5_closeOut_206 : decode cX5_closeOut 206 = .ok (.lstore_n 2, 1) := by decide +kernel
theorem dX5_closeOut_207 : decode cX5_closeOut 207 = .ok (.aload_n 0, 1) := by decide +kernel
theorem dX5_closeOut_208 : decode cX5_closeOut 208 = .ok (.aload_n 0, 1) := by decide +kernel
theorem dX5_closeOut_209 : decode cX5_closeOut 209 = .ok (.getfield 84, 3) := by decide +kernel
theorem dX5_closeOut_212 : decode cX5_closeOut 212 = .ok (.aload_n 0, 1) := by decide +kernel
theorem dX5_closeOut_213 : decode cX5_closeOut 213 = .ok (.getfield 50, 3) := by decide +kernel
theorem dX5_closeOut_216 : decode cX5_closeOut 216 = .ok (.iconst 1, 1) := by decide +kernel
theorem dX5_closeOut_217 : decode cX5_closeOut 217 = .ok (.laload, 1) := by decide +kernel
theorem dX5_closeOut_218 : decode cX5_closeOut 218 = .ok (.lsub, 1) := by decide +kernel
theorem dX5_closeOut_219 : decode cX5_closeOut 219 = .ok (.putfield 84, 3) := by decide +kernel
theorem dX5_closeOut_222 : decode cX5_closeOut 222 = .ok (.aload_n 0, 1) := by decide +kernel
theorem dX5_closeOut_223 : decode cX5_closeOut 223 = .ok (.aload_n 0, 1) := by decide +kernel
theorem dX5_closeOut_224 : decode cX5_closeOut 224 = .ok (.getfield 149, 3) := by decide +kernel
theorem dX5_closeOut_227 : decode cX5_closeOut 227 = .ok (.lload_n 2, 1) := by decide +kernel
theorem dX5_closeOut_228 : decode cX5_closeOut 228 = .ok (.ladd, 1) := by decide +kernel
theorem dX5_closeOut_229 : decode cX5_closeOut 229 = .ok (.putfield 149, 3) := by decide +kernel
theorem dX5_closeOut_232 : decode cX5_closeOut 232 = .ok (.aload_n 0, 1) := by decide +kernel
theorem dX5_closeOut_233 : decode cX5_closeOut 233 = .ok (.getfield 16, 3) := by decide +kernel
theorem dX5_closeOut_236 : decode cX5_closeOut 236 = .ok (.iload_n 1, 1) := by decide +kernel
theorem dX5_closeOut_237 : decode cX5_closeOut 237 = .ok (.iconst 2, 1) := by decide +kernel
theorem dX5_closeOut_238 : decode cX5_closeOut 238 = .ok (.iastore, 1) := by decide +kernel
theorem dX5_closeOut_239 : decode cX5_closeOut 239 = .ok (.iconst 0, 1) := by decide +kernel
theorem dX5_closeOut_240 : decode cX5_closeOut 240 = .ok (.istore 4, 2) := by decide +kernel
theorem dX5_closeOut_242 : decode cX5_closeOut 242 = .ok (.iload 4, 2) := by decide +kernel
theorem dX5_closeOut_244 : decode cX5_closeOut 244 = .ok (.iconst 5, 1) := by decide +kernel
theorem dX5_closeOut_245 : decode cX5_closeOut 245 = .ok (.if_icmp .ge 23, 3) := by decide +kernel
theorem dX5_closeOut_248 : decode cX5_closeOut 248 = .ok (.aload_n 0, 1) := by decide +kernel
theorem dX5_closeOut_249 : decode cX5_closeOut 249 = .ok (.getfield 38, 3) := by decide +kernel
theorem dX5_closeOut_252 : decode cX5_closeOut 252 = .ok (.iload 4, 2) := by decide +kernel
theorem dX5_closeOut_254 : decode cX5_closeOut 254 = .ok (.aload_n 0, 1) := by decide +kernel
theorem dX5_closeOut_255 : decode cX5_closeOut 255 = .ok (.getfield 50, 3) := by decide +kernel
theorem dX5_closeOut_258 : decode cX5_closeOut 258 = .ok (.iload 4, 2) := by decide +kernel
theorem dX5_closeOut_260 : decode cX5_closeOut 260 = .ok (.laload, 1) := by decide +kernel
theorem dX5_closeOut_261 : decode cX5_closeOut 261 = .ok (.lastore, 1) := by decide +kernel
theorem dX5_closeOut_262 : decode cX5_closeOut 262 = .ok (.iinc 4 1, 3) := by decide +kernel
theorem dX5_closeOut_265 : decode cX5_closeOut 265 = .ok (.goto (-23), 3) := by decide +kernel
theorem dX5_closeOut_268 : decode cX5_closeOut 268 = .ok (.lload_n 2, 1) := by decide +kernel
theorem dX5_closeOut_269 : decode cX5_closeOut 269 = .ok (.lreturn, 1) := by decide +kernel
theorem dX5_wouldLose_0 : decode cX5_wouldLose 0 = .ok (.aload_n 0, 1) := by decide +kernel
theorem dX5_wouldLose_1 : decode cX5_wouldLose 1 = .ok (.getfield 7, 3) := by decide +kernel
theorem dX5_wouldLose_4 : decode cX5_wouldLose 4 = .ok (.iload_n 1, 1) := by decide +kernel
theorem dX5_wouldLose_5 : decode cX5_wouldLose 5 = .ok (.laload, 1) := by decide +kernel
theorem dX5_wouldLose_6 : decode cX5_wouldLose 6 = .ok (.lconst 0, 1) := by decide +kernel
theorem dX5_wouldLose_7 : decode cX5_wouldLose 7 = .ok (.lcmp, 1) := by decide +kernel
theorem dX5_wouldLose_8 : decode cX5_wouldLose 8 = .ok (.ifCond .ge 13, 3) := by decide +kernel
theorem dX5_wouldLose_11 : decode cX5_wouldLose 11 = .ok (.aload_n 0, 1) := by decide +kernel
theorem dX5_wouldLose_12 : decode cX5_wouldLose 12 = .ok (.getfield 7, 3) := by decide +kernel
theorem dX5_wouldLose_15 : decode cX5_wouldLose 15 = .ok (.iload_n 1, 1) := by decide +kernel
theorem dX5_wouldLose_16 : decode cX5_wouldLose 16 = .ok (.laload, 1) := by decide +kernel
theorem dX5_wouldLose_17 : decode cX5_wouldLose 17 = .ok (.lneg, 1) := by decide +kernel
theorem dX5_wouldLose_18 : decode cX5_wouldLose 18 = .ok (.goto 4, 3) := by decide +kernel
theorem dX5_wouldLose_21 : decode cX5_wouldLose 21 = .ok (.lconst 0, 1) := by decide +kernel
theorem dX5_wouldLose_22 : decode cX5_wouldLose 22 = .ok (.lstore_n 2, 1) := by decide +kernel
theorem dX5_wouldLose_23 : decode cX5_wouldLose 23 = .ok (.lload_n 2, 1) := by decide +kernel
theorem dX5_wouldLose_24 : decode cX5_wouldLose 24 = .ok (.aload_n 0, 1) := by decide +kernel
theorem dX5_wouldLose_25 : decode cX5_wouldLose 25 = .ok (.getfield 13, 3) := by decide +kernel
theorem dX5_wouldLose_28 : decode cX5_wouldLose 28 = .ok (.iload_n 1, 1) := by decide +kernel
theorem dX5_wouldLose_29 : decode cX5_wouldLose 29 = .ok (.laload, 1) := by decide +kernel
theorem dX5_wouldLose_30 : decode cX5_wouldLose 30 = .ok (.lsub, 1) := by decide +kernel
theorem dX5_wouldLose_31 : decode cX5_wouldLose 31 = .ok (.aload_n 0, 1) := by decide +kernel
theorem dX5_wouldLose_32 : decode cX5_wouldLose 32 = .ok (.getfield 84, 3) := by decide +kernel
theorem dX5_wouldLose_35 : decode cX5_wouldLose 35 = .ok (.lsub, 1) := by decide +kernel
theorem dX5_wouldLose_36 : decode cX5_wouldLose 36 = .ok (.lstore_n 2, 1) := by decide +kernel
theorem dX5_wouldLose_37 : decode cX5_wouldLose 37 = .ok (.iconst 0, 1) := by decide +kernel
theorem dX5_wouldLose_38 : decode cX5_wouldLose 38 = .ok (.istore 4, 2) := by decide +kernel
theorem dX5_wouldLose_40 : decode cX5_wouldLose 40 = .ok (.iload 4, 2) := by decide +kernel
theorem dX5_wouldLose_42 : decode cX5_wouldLose 42 = .ok (.aload_n 0, 1) := by decide +kernel
theorem dX5_wouldLose_43 : decode cX5_wouldLose 43 = .ok (.getfield 66, 3) := by decide +kernel
theorem dX5_wouldLose_46 : decode cX5_wouldLose 46 = .ok (.if_icmp .ge 80, 3) := by decide +kernel
theorem dX5_wouldLose_49 : decode cX5_wouldLose 49 = .ok (.aload_n 0, 1) := by decide +kernel
theorem dX5_wouldLose_50 : decode cX5_wouldLose 50 = .ok (.getfield 16, 3) := by decide +kernel
theorem dX5_wouldLose_53 : decode cX5_wouldLose 53 = .ok (.iload 4, 2) := by decide +kernel
theorem dX5_wouldLose_55 : decode cX5_wouldLose 55 = .ok (.iaload, 1) := by decide +kernel
theorem dX5_wouldLose_56 : decode cX5_wouldLose 56 = .ok (.ifCond .ne 64, 3) := by decide +kernel
theorem dX5_wouldLose_59 : decode cX5_wouldLose 59 = .ok (.aload_n 0, 1) := by decide +kernel
theorem dX5_wouldLose_60 : decode cX5_wouldLose 60 = .ok (.getfield 7, 3) := by decide +kernel
theorem dX5_wouldLose_63 : decode cX5_wouldLose 63 = .ok (.iload 4, 2) := by decide +kernel
theorem dX5_wouldLose_65 : decode cX5_wouldLose 65 = .ok (.laload, 1) := by decide +kernel
theorem dX5_wouldLose_66 : decode cX5_wouldLose 66 = .ok (.lconst 0, 1) := by decide +kernel
theorem dX5_wouldLose_67 : decode cX5_wouldLose 67 = .ok (.lcmp, 1) := by decide +kernel
theorem dX5_wouldLose_68 : decode cX5_wouldLose 68 = .ok (.ifCond .ge 7, 3) := by decide +kernel
theorem dX5_wouldLose_71 : decode cX5_wouldLose 71 = .ok (.lconst 0, 1) := by decide +kernel
theorem dX5_wouldLose_72 : decode cX5_wouldLose 72 = .ok (.goto 10, 3) := by decide +kernel
theorem dX5_wouldLose_75 : decode cX5_wouldLose 75 = .ok (.aload_n 0, 1) := by decide +kernel
theorem dX5_wouldLose_76 : decode cX5_wouldLose 76 = .ok (.getfield 7, 3) := by decide +kernel
theorem dX5_wouldLose_79 : decode cX5_wouldLose 79 = .ok (.iload 4, 2) := by decide +kernel
theorem dX5_wouldLose_81 : decode cX5_wouldLose 81 = .ok (.laload, 1) := by decide +kernel
theorem dX5_wouldLose_82 : decode cX5_wouldLose 82 = .ok (.lstore 5, 2) := by decide +kernel
theorem dX5_wouldLose_84 : decode cX5_wouldLose 84 = .ok (.lload_n 2, 1) := by decide +kernel
theorem dX5_wouldLose_85 : decode cX5_wouldLose 85 = .ok (.aload_n 0, 1) := by decide +kernel
theorem dX5_wouldLose_86 : decode cX5_wouldLose 86 = .ok (.getfield 13, 3) := by decide +kernel
theorem dX5_wouldLose_89 : decode cX5_wouldLose 89 = .ok (.iload 4, 2) := by decide +kernel
theorem dX5_wouldLose_91 : decode cX5_wouldLose 91 = .ok (.laload, 1) := by decide +kernel
theorem dX5_wouldLose_92 : decode cX5_wouldLose 92 = .ok (.lsub, 1) := by decide +kernel
theorem dX5_wouldLose_93 : decode cX5_wouldLose 93 = .ok (.aload_n 0, 1) := by decide +kernel
theorem dX5_wouldLose_94 : decode cX5_wouldLose 94 = .ok (.getfield 13, 3) := by decide +kernel
theorem dX5_wouldLose_97 : decode cX5_wouldLose 97 = .ok (.iload 4, 2) := by decide +kernel
theorem dX5_wouldLose_99 : decode cX5_wouldLose 99 = .ok (.laload, 1) := by decide +kernel
theorem dX5_wouldLose_100 : decode cX5_wouldLose 100 = .ok (.lload 5, 2) := by decide +kernel
theorem dX5_wouldLose_102 : decode cX5_wouldLose 102 = .ok (.lcmp, 1) := by decide +kernel
theorem dX5_wouldLose_103 : decode cX5_wouldLose 103 = .ok (.ifCond .ge 13, 3) := by decide +kernel
theorem dX5_wouldLose_106 : decode cX5_wouldLose 106 = .ok (.aload_n 0, 1) := by decide +kernel
theorem dX5_wouldLose_107 : decode cX5_wouldLose 107 = .ok (.getfield 13, 3) := by decide +kernel
theorem dX5_wouldLose_110 : decode cX5_wouldLose 110 = .ok (.iload 4, 2) := by decide +kernel
theorem dX5_wouldLose_112 : decode cX5_wouldLose 112 = .ok (.laload, 1) := by decide +kernel
theorem dX5_wouldLose_113 : decode cX5_wouldLose 113 = .ok (.goto 5, 3) := by decide +kernel
theorem dX5_wouldLose_116 : decode cX5_wouldLose 116 = .ok (.lload 5, 2) := by decide +kernel
theorem dX5_wouldLose_118 : decode cX5_wouldLose 118 = .ok (.lsub, 1) := by decide +kernel
theorem dX5_wouldLose_119 : decode cX5_wouldLose 119 = .ok (.lstore_n 2, 1) := by decide +kernel
theorem dX5_wouldLose_120 : decode cX5_wouldLose 120 = .ok (.iinc 4 1, 3) := by decide +kernel
theorem dX5_wouldLose_123 : decode cX5_wouldLose 123 = .ok (.goto (-83), 3) := by decide +kernel
theorem dX5_wouldLose_126 : decode cX5_wouldLose 126 = .ok (.lload_n 2, 1) := by decide +kernel
theorem dX5_wouldLose_127 : decode cX5_wouldLose 127 = .ok (.lconst 0, 1) := by decide +kernel
theorem dX5_wouldLose_128 : decode cX5_wouldLose 128 = .ok (.lcmp, 1) := by decide +kernel
theorem dX5_wouldLose_129 : decode cX5_wouldLose 129 = .ok (.ifCond .le 12, 3) := by decide +kernel
theorem dX5_wouldLose_132 : decode cX5_wouldLose 132 = .ok (.aload_n 0, 1) := by decide +kernel
theorem dX5_wouldLose_133 : decode cX5_wouldLose 133 = .ok (.getfield 149, 3) := by decide +kernel
theorem dX5_wouldLose_136 : decode cX5_wouldLose 136 = .ok (.lload_n 2, 1) := by decide +kernel
theorem dX5_wouldLose_137 : decode cX5_wouldLose 137 = .ok (.ladd, 1) := by decide +kernel
theorem dX5_wouldLose_138 : decode cX5_wouldLose 138 = .ok (.goto 7, 3) := by decide +kernel
theorem dX5_wouldLose_141 : decode cX5_wouldLose 141 = .ok (.aload_n 0, 1) := by decide +kernel
theorem dX5_wouldLose_142 : decode cX5_wouldLose 142 = .ok (.getfield 149, 3) := by decide +kernel
theorem dX5_wouldLose_145 : decode cX5_wouldLose 145 = .ok (.lreturn, 1) := by decide +kernel
theorem dX5_told_0 : decode cX5_told 0 = .ok (.aload_n 0, 1) := by decide +kernel
theorem dX5_told_1 : decode cX5_told 1 = .ok (.aload_n 0, 1) := by decide +kernel
theorem dX5_told_2 : decode cX5_told 2 = .ok (.iload_n 1, 1) := by decide +kernel
theorem dX5_told_3 : decode cX5_told 3 = .ok (.invokevirtual 100, 3) := by decide +kernel
theorem dX5_told_6 : decode cX5_told 6 = .ok (.ifCond .eq 12, 3) := by decide +kernel
theorem dX5_told_9 : decode cX5_told 9 = .ok (.iload_n 2, 1) := by decide +kernel
theorem dX5_told_10 : decode cX5_told 10 = .ok (.ifCond .lt 8, 3) := by decide +kernel
theorem dX5_told_13 : decode cX5_told 13 = .ok (.iload_n 2, 1) := by decide +kernel
theorem dX5_told_14 : decode cX5_told 14 = .ok (.iconst 2, 1) := by decide +kernel
theorem dX5_told_15 : decode cX5_told 15 = .ok (.if_icmp .le 7, 3) := by decide +kernel
theorem dX5_told_18 : decode cX5_told 18 = .ok (.iconst 1, 1) := by decide +kernel
theorem dX5_told_19 : decode cX5_told 19 = .ok (.goto 4, 3) := by decide +kernel
theorem dX5_told_22 : decode cX5_told 22 = .ok (.iconst 0, 1) := by decide +kernel
theorem dX5_told_23 : decode cX5_told 23 = .ok (.putfield 62, 3) := by decide +kernel
theorem dX5_told_26 : decode cX5_told 26 = .ok (.aload_n 0, 1) := by decide +kernel
theorem dX5_told_27 : decode cX5_told 27 = .ok (.getfield 62, 3) := by decide +kernel
theorem dX5_told_30 : decode cX5_told 30 = .ok (.ifCond .le 5, 3) := by decide +kernel
theorem dX5_told_33 : decode cX5_told 33 = .ok (.lconst 0, 1) := by decide +kernel
theorem dX5_told_34 : decode cX5_told 34 = .ok (.lreturn, 1) := by decide +kernel
theorem dX5_told_35 : decode cX5_told 35 = .ok (.iload_n 2, 1) := by decide +kernel
theorem dX5_told_36 : decode cX5_told 36 = .ok (.ifCond .ne 13, 3) := by decide +kernel
theorem dX5_told_39 : decode cX5_told 39 = .ok (.aload_n 0, 1) := by decide +kernel
theorem dX5_told_40 : decode cX5_told 40 = .ok (.getfield 16, 3) := by decide +kernel
theorem dX5_told_43 : decode cX5_told 43 = .ok (.iload_n 1, 1) := by decide +kernel
theorem dX5_told_44 : decode cX5_told 44 = .ok (.iaload, 1) := by decide +kernel
theorem dX5_told_45 : decode cX5_told 45 = .ok (.i2l, 1) := by decide +kernel
theorem dX5_told_46 : decode cX5_told 46 = .ok (.goto 23, 3) := by decide +kernel
theorem dX5_told_49 : decode cX5_told 49 = .ok (.iload_n 2, 1) := by decide +kernel
theorem dX5_told_50 : decode cX5_told 50 = .ok (.iconst 1, 1) := by decide +kernel
theorem dX5_told_51 : decode cX5_told 51 = .ok (.if_icmp .ne 12, 3) := by decide +kernel
theorem dX5_told_54 : decode cX5_told 54 = .ok (.aload_n 0, 1) := by decide +kernel
theorem dX5_told_55 : decode cX5_told 55 = .ok (.getfield 7, 3) := by decide +kernel
theorem dX5_told_58 : decode cX5_told 58 = .ok (.iload_n 1, 1) := by decide +kernel
theorem dX5_told_59 : decode cX5_told 59 = .ok (.laload, 1) := by decide +kernel
theorem dX5_told_60 : decode cX5_told 60 = .ok (.goto 9, 3) := by decide +kernel
theorem dX5_told_63 : decode cX5_told 63 = .ok (.aload_n 0, 1) := by decide +kernel
theorem dX5_told_64 : decode cX5_told 64 = .ok (.getfield 13, 3) := by decide +kernel
theorem dX5_told_67 : decode cX5_told 67 = .ok (.iload_n 1, 1) := by decide +kernel
theorem dX5_told_68 : decode cX5_told 68 = .ok (.laload, 1) := by decide +kernel
theorem dX5_told_69 : decode cX5_told 69 = .ok (.lreturn, 1) := by decide +kernel
theorem dX5_position_0 : decode cX5_position 0 = .ok (.aload_n 0, 1) := by decide +kernel
theorem dX5_position_1 : decode cX5_position 1 = .ok (.aload_n 0, 1) := by decide +kernel
theorem dX5_position_2 : decode cX5_position 2 = .ok (.iload_n 1, 1) := by decide +kernel
theorem dX5_position_3 : decode cX5_position 3 = .ok (.invokevirtual 100, 3) := by decide +kernel
theorem dX5_position_6 : decode cX5_position 6 = .ok (.ifCond .eq 11, 3) := by decide +kernel
theorem dX5_position_9 : decode cX5_position 9 = .ok (.aload_n 0, 1) := by decide +kernel
theorem dX5_position_10 : decode cX5_position 10 = .ok (.iload_n 2, 1) := by decide +kernel
theorem dX5_position_11 : decode cX5_position 11 = .ok (.invokevirtual 94, 3) := by decide +kernel
theorem dX5_position_14 : decode cX5_position 14 = .ok (.ifCond .ne 7, 3) := by decide +kernel
theorem dX5_position_17 : decode cX5_position 17 = .ok (.iconst 1, 1) := by decide +kernel
theorem dX5_position_18 : decode cX5_position 18 = .ok (.goto 4, 3) := by decide +kernel
theorem dX5_position_21 : decode cX5_position 21 = .ok (.iconst 0, 1) := by decide +kernel
theorem dX5_position_22 : decode cX5_position 22 = .ok (.putfield 62, 3) := by decide +kernel
theorem dX5_position_25 : decode cX5_position 25 = .ok (.aload_n 0, 1) := by decide +kernel
theorem dX5_position_26 : decode cX5_position 26 = .ok (.getfield 62, 3) := by decide +kernel
theorem dX5_position_29 : decode cX5_position 29 = .ok (.ifCond .le 7, 3) := by decide +kernel
theorem dX5_position_32 : decode cX5_position 32 = .ok (.iconst 0, 1) := by decide +kernel
theorem dX5_position_33 : decode cX5_position 33 = .ok (.goto 14, 3) := by decide +kernel
theorem dX5_position_36 : decode cX5_position 36 = .ok (.aload_n 0, 1) := by decide +kernel
theorem dX5_position_37 : decode cX5_position 37 = .ok (.getfield 20, 3) := by decide +kernel
theorem dX5_position_40 : decode cX5_position 40 = .ok (.bipush 6, 2) := by decide +kernel
theorem dX5_position_42 : decode cX5_position 42 = .ok (.iload_n 1, 1) := by decide +kernel
theorem dX5_position_43 : decode cX5_position 43 = .ok (.imul, 1) := by decide +kernel
theorem dX5_position_44 : decode cX5_position 44 = .ok (.iload_n 2, 1) := by decide +kernel
theorem dX5_position_45 : decode cX5_position 45 = .ok (.iadd, 1) := by decide +kernel
theorem dX5_position_46 : decode cX5_position 46 = .ok (.iaload, 1) := by decide +kernel
theorem dX5_position_47 : decode cX5_position 47 = .ok (.ireturn, 1) := by decide +kernel
theorem dX5_bore_0 : decode cX5_bore 0 = .ok (.aload_n 0, 1) := by decide +kernel
theorem dX5_bore_1 : decode cX5_bore 1 = .ok (.iload_n 1, 1) := by decide +kernel
theorem dX5_bore_2 : decode cX5_bore 2 = .ok (.ifCond .lt 8, 3) := by decide +kernel
theorem dX5_bore_5 : decode cX5_bore 5 = .ok (.iload_n 1, 1) := by decide +kernel
theorem dX5_bore_6 : decode cX5_bore 6 = .ok (.iconst 4, 1) := by decide +kernel
theorem dX5_bore_7 : decode cX5_bore 7 = .ok (.if_icmp .le 7, 3) := by decide +kernel
theorem dX5_bore_10 : decode cX5_bore 10 = .ok (.iconst 1, 1) := by decide +kernel
theorem dX5_bore_11 : decode cX5_bore 11 = .ok (.goto 4, 3) := by decide +kernel
theorem dX5_bore_14 : decode cX5_bore 14 = .ok (.iconst 0, 1) := by decide +kernel
theorem dX5_bore_15 : decode cX5_bore 15 = .ok (.putfield 62, 3) := by decide +kernel
theorem dX5_bore_18 : decode cX5_bore 18 = .ok (.aload_n 0, 1) := by decide +kernel
theorem dX5_bore_19 : decode cX5_bore 19 = .ok (.getfield 62, 3) := by decide +kernel
theorem dX5_bore_22 : decode cX5_bore 22 = .ok (.ifCond .le 7, 3) := by decide +kernel
theorem dX5_bore_25 : decode cX5_bore 25 = .ok (.lconst 0, 1) := by decide +kernel
theorem dX5_bore_26 : decode cX5_bore 26 = .ok (.goto 9, 3) := by decide +kernel
theorem dX5_bore_29 : decode cX5_bore 29 = .ok (.aload_n 0, 1) := by decide +kernel
theorem dX5_bore_30 : decode cX5_bore 30 = .ok (.getfield 38, 3) := by decide +kernel
theorem dX5_bore_33 : decode cX5_bore 33 = .ok (.iload_n 1, 1) := by decide +kernel
theorem dX5_bore_34 : decode cX5_bore 34 = .ok (.laload, 1) := by decide +kernel
theorem dX5_bore_35 : decode cX5_bore 35 = .ok (.lreturn, 1) := by decide +kernel
theorem dX5_all_0 : decode cX5_all 0 = .ok (.aload_n 0, 1) := by decide +kernel
theorem dX5_all_1 : decode cX5_all 1 = .ok (.iload_n 1, 1) := by decide +kernel
theorem dX5_all_2 : decode cX5_all 2 = .ok (.ifCond .lt 8, 3) := by decide +kernel
theorem dX5_all_5 : decode cX5_all 5 = .ok (.iload_n 1, 1) := by decide +kernel
theorem dX5_all_6 : decode cX5_all 6 = .ok (.iconst 5, 1) := by decide +kernel
theorem dX5_all_7 : decode cX5_all 7 = .ok (.if_icmp .le 7, 3) := by decide +kernel
theorem dX5_all_10 : decode cX5_all 10 = .ok (.iconst 1, 1) := by decide +kernel
theorem dX5_all_11 : decode cX5_all 11 = .ok (.goto 4, 3) := by decide +kernel
theorem dX5_all_14 : decode cX5_all 14 = .ok (.iconst 0, 1) := by decide +kernel
theorem dX5_all_15 : decode cX5_all 15 = .ok (.putfield 62, 3) := by decide +kernel
theorem dX5_all_18 : decode cX5_all 18 = .ok (.aload_n 0, 1) := by decide +kernel
theorem dX5_all_19 : decode cX5_all 19 = .ok (.getfield 62, 3) := by decide +kernel
theorem dX5_all_22 : decode cX5_all 22 = .ok (.ifCond .le 5, 3) := by decide +kernel
theorem dX5_all_25 : decode cX5_all 25 = .ok (.lconst 0, 1) := by decide +kernel
theorem dX5_all_26 : decode cX5_all 26 = .ok (.lreturn, 1) := by decide +kernel
theorem dX5_all_27 : decode cX5_all 27 = .ok (.lconst 0, 1) := by decide +kernel
theorem dX5_all_28 : decode cX5_all 28 = .ok (.lstore_n 2, 1) := by decide +kernel
theorem dX5_all_29 : decode cX5_all 29 = .ok (.iconst 0, 1) := by decide +kernel
theorem dX5_all_30 : decode cX5_all 30 = .ok (.istore 4, 2) := by decide +kernel
theorem dX5_all_32 : decode cX5_all 32 = .ok (.iload 4, 2) := by decide +kernel
theorem dX5_all_34 : decode cX5_all 34 = .ok (.aload_n 0, 1) := by decide +kernel
theorem dX5_all_35 : decode cX5_all 35 = .ok (.getfield 66, 3) := by decide +kernel
theorem dX5_all_38 : decode cX5_all 38 = .ok (.if_icmp .ge 43, 3) := by decide +kernel
theorem dX5_all_41 : decode cX5_all 41 = .ok (.lload_n 2, 1) := by decide +kernel
theorem dX5_all_42 : decode cX5_all 42 = .ok (.iload_n 1, 1) := by decide +kernel
theorem dX5_all_43 : decode cX5_all 43 = .ok (.iconst 2, 1) := by decide +kernel
theorem dX5_all_44 : decode cX5_all 44 = .ok (.if_icmp .ne 13, 3) := by decide +kernel
theorem dX5_all_47 : decode cX5_all 47 = .ok (.aload_n 0, 1) := by decide +kernel
theorem dX5_all_48 : decode cX5_all 48 = .ok (.getfield 7, 3) := by decide +kernel
theorem dX5_all_51 : decode cX5_all 51 = .ok (.iload 4, 2) := by decide +kernel
theorem dX5_all_53 : decode cX5_all 53 = .ok (.laload, 1) := by decide +kernel
theorem dX5_all_54 : decode cX5_all 54 = .ok (.goto 19, 3) := by decide +kernel
theorem dX5_all_57 : decode cX5_all 57 = .ok (.iload_n 1, 1) := by decide +kernel
theorem dX5_all_58 : decode cX5_all 58 = .ok (.iconst 3, 1) := by decide +kernel
theorem dX5_all_59 : decode cX5_all 59 = .ok (.if_icmp .ne 13, 3) := by decide +kernel
theorem dX5_all_62 : decode cX5_all 62 = .ok (.aload_n 0, 1) := by decide +kernel
theorem dX5_all_63 : decode cX5_all 63 = .ok (.getfield 13, 3) := by decide +kernel
theorem dX5_all_66 : decode cX5_all 66 = .ok (.iload 4, 2) := by decide +kernel
theorem dX5_all_68 : decode cX5_all 68 = .ok (.laload, 1) := by decide +kernel
theorem dX5_all_69 : decode cX5_all 69 = .ok (.goto 4, 3) := by decide +kernel
theorem dX5_all_72 : decode cX5_all 72 = .ok (.lconst 0, 1) := by decide +kernel
theorem dX5_all_73 : decode cX5_all 73 = .ok (.ladd, 1) := by decide +kernel
theorem dX5_all_74 : decode cX5_all 74 = .ok (.lstore_n 2, 1) := by decide +kernel
theorem dX5_all_75 : decode cX5_all 75 = .ok (.iinc 4 1, 3) := by decide +kernel
theorem dX5_all_78 : decode cX5_all 78 = .ok (.goto (-46), 3) := by decide +kernel
theorem dX5_all_81 : decode cX5_all 81 = .ok (.iconst 0, 1) := by decide +kernel
theorem dX5_all_82 : decode cX5_all 82 = .ok (.istore 4, 2) := by decide +kernel
theorem dX5_all_84 : decode cX5_all 84 = .ok (.iload 4, 2) := by decide +kernel
theorem dX5_all_86 : decode cX5_all 86 = .ok (.bipush 48, 2) := by decide +kernel
theorem dX5_all_88 : decode cX5_all 88 = .ok (.if_icmp .ge 39, 3) := by decide +kernel
theorem dX5_all_91 : decode cX5_all 91 = .ok (.iload_n 1, 1) := by decide +kernel
theorem dX5_all_92 : decode cX5_all 92 = .ok (.iconst 5, 1) := by decide +kernel
theorem dX5_all_93 : decode cX5_all 93 = .ok (.if_icmp .ne 34, 3) := by decide +kernel
theorem dX5_all_96 : decode cX5_all 96 = .ok (.lload_n 2, 1) := by decide +kernel
theorem dX5_all_97 : decode cX5_all 97 = .ok (.aload_n 0, 1) := by decide +kernel
theorem dX5_all_98 : decode cX5_all 98 = .ok (.getfield 20, 3) := by decide +kernel
theorem dX5_all_101 : decode cX5_all 101 = .ok (.iload 4, 2) := by decide +kernel
theorem dX5_all_103 : decode cX5_all 103 = .ok (.iaload, 1) := by decide +kernel
theorem dX5_all_104 : decode cX5_all 104 = .ok (.ifCond .le 13, 3) := by decide +kernel
theorem dX5_all_107 : decode cX5_all 107 = .ok (.aload_n 0, 1) := by decide +kernel
theorem dX5_all_108 : decode cX5_all 108 = .ok (.getfield 20, 3) := by decide +kernel
theorem dX5_all_111 : decode cX5_all 111 = .ok (.iload 4, 2) := by decide +kernel
theorem dX5_all_113 : decode cX5_all 113 = .ok (.iaload, 1) := by decide +kernel
theorem dX5_all_114 : decode cX5_all 114 = .ok (.goto 4, 3) := by decide +kernel
theorem dX5_all_117 : decode cX5_all 117 = .ok (.iconst 0, 1) := by decide +kernel
theorem dX5_all_118 : decode cX5_all 118 = .ok (.i2l, 1) := by decide +kernel
theorem dX5_all_119 : decode cX5_all 119 = .ok (.ladd, 1) := by decide +kernel
theorem dX5_all_120 : decode cX5_all 120 = .ok (.lstore_n 2, 1) := by decide +kernel
theorem dX5_all_121 : decode cX5_all 121 = .ok (.iinc 4 1, 3) := by decide +kernel
theorem dX5_all_124 : decode cX5_all 124 = .ok (.goto (-40), 3) := by decide +kernel
theorem dX5_all_127 : decode cX5_all 127 = .ok (.iload_n 1, 1) := by decide +kernel
theorem dX5_all_128 : decode cX5_all 128 = .ok (.ifCond .ne 10, 3) := by decide +kernel
theorem dX5_all_131 : decode cX5_all 131 = .ok (.aload_n 0, 1) := by decide +kernel
theorem dX5_all_132 : decode cX5_all 132 = .ok (.getfield 84, 3) := by decide +kernel
theorem dX5_all_135 : decode cX5_all 135 = .ok (.goto 28, 3) := by decide +kernel
theorem dX5_all_138 : decode cX5_all 138 = .ok (.iload_n 1, 1) := by decide +kernel
theorem dX5_all_139 : decode cX5_all 139 = .ok (.iconst 1, 1) := by decide +kernel
theorem dX5_all_140 : decode cX5_all 140 = .ok (.if_icmp .ne 10, 3) := by decide +kernel
theorem dX5_all_143 : decode cX5_all 143 = .ok (.aload_n 0, 1) := by decide +kernel
theorem dX5_all_144 : decode cX5_all 144 = .ok (.getfield 149, 3) := by decide +kernel
theorem dX5_all_147 : decode cX5_all 147 = .ok (.goto 16, 3) := by decide +kernel
theorem dX5_all_150 : decode cX5_all 150 = .ok (.iload_n 1, 1) := by decide +kernel
theorem dX5_all_151 : decode cX5_all 151 = .ok (.iconst 4, 1) := by decide +kernel
theorem dX5_all_152 : decode cX5_all 152 = .ok (.if_icmp .ne 10, 3) := by decide +kernel
theorem dX5_all_155 : decode cX5_all 155 = .ok (.aload_n 0, 1) := by decide +kernel
theorem dX5_all_156 : decode cX5_all 156 = .ok (.getfield 111, 3) := by decide +kernel
theorem dX5_all_159 : decode cX5_all 159 = .ok (.goto 4, 3) := by decide +kernel
theorem dX5_all_162 : decode cX5_all 162 = .ok (.lload_n 2, 1) := by decide +kernel
theorem dX5_all_163 : decode cX5_all 163 = .ok (.lreturn, 1) := by decide +kernel
end
section
theorem dL_member_0 : decode cL_member 0 = .ok (.aload_n 3, 1) := by decide +kernel
theorem dL_member_1 : decode cL_member 1 = .ok (.iconst 0, 1) := by decide +kernel
theorem dL_member_2 : decode cL_member 2 = .ok (.aload_n 0, 1) := by decide +kernel
theorem dL_member_3 : decode cL_member 3 = .ok (.lload_n 1, 1) := by decide +kernel
theorem dL_member_4 : decode cL_member 4 = .ok (.invokevirtual 7, 3) := by decide +kernel
theorem dL_member_7 : decode cL_member 7 = .ok (.i2l, 1) := by decide +kernel
theorem dL_member_8 : decode cL_member 8 = .ok (.lastore, 1) := by decide +kernel
theorem dL_member_9 : decode cL_member 9 = .ok (.goto 7, 3) := by decide +kernel
theorem dL_member_12 : decode cL_member 12 = .ok (.astore 4, 2) := by decide +kernel
theorem dL_member_14 : decode cL_member 14 = .ok (.iconst 1, 1) := by decide +kernel
theorem dL_member_15 : decode cL_member 15 = .ok (.ireturn, 1) := by decide +kernel
theorem dL_member_16 : decode cL_member 16 = .ok (.iconst 0, 1) := by decide +kernel
theorem dL_member_17 : decode cL_member 17 = .ok (.ireturn, 1) := by decide +kernel
theorem dL_instrument_0 : decode cL_instrument 0 = .ok (.aload 4, 2) := by decide +kernel
theorem dL_instrument_2 : decode cL_instrument 2 = .ok (.iconst 0, 1) := by decide +kernel
theorem dL_instrument_3 : decode cL_instrument 3 = .ok (.aload_n 0, 1) := by decide +kernel
theorem dL_instrument_4 : decode cL_instrument 4 = .ok (.iload_n 1, 1) := by decide +kernel
theorem dL_instrument_5 : decode cL_instrument 5 = .ok (.iload_n 2, 1) := by decide +kernel
theorem dL_instrument_6 : decode cL_instrument 6 = .ok (.iload_n 3, 1) := by decide +kernel
theorem dL_instrument_7 : decode cL_instrument 7 = .ok (.invokevirtual 15, 3) := by decide +kernel
theorem dL_instrument_10 : decode cL_instrument 10 = .ok (.i2l, 1) := by decide +kernel
theorem dL_instrument_11 : decode cL_instrument 11 = .ok (.lastore, 1) := by decide +kernel
theorem dL_instrument_12 : decode cL_instrument 12 = .ok (.goto 7, 3) := by decide +kernel
theorem dL_instrument_15 : decode cL_instrument 15 = .ok (.astore 5, 2) := by decide +kernel
theorem dL_instrument_17 : decode cL_instrument 17 = .ok (.iconst 1, 1) := by decide +kernel
theorem dL_instrument_18 : decode cL_instrument 18 = .ok (.ireturn, 1) := by decide +kernel
theorem dL_instrument_19 : decode cL_instrument 19 = .ok (.iconst 0, 1) := by decide +kernel
theorem dL_instrument_20 : decode cL_instrument 20 = .ok (.ireturn, 1) := by decide +kernel
theorem dL_capital_0 : decode cL_capital 0 = .ok (.aload_n 3, 1) := by decide +kernel
theorem dL_capital_1 : decode cL_capital 1 = .ok (.iconst 0, 1) := by decide +kernel
theorem dL_capital_2 : decode cL_capital 2 = .ok (.aload_n 0, 1) := by decide +kernel
theorem dL_capital_3 : decode cL_capital 3 = .ok (.lload_n 1, 1) := by decide +kernel
theorem dL_capital_4 : decode cL_capital 4 = .ok (.invokevirtual 19, 3) := by decide +kernel
theorem dL_capital_7 : decode cL_capital 7 = .ok (.lastore, 1) := by decide +kernel
theorem dL_capital_8 : decode cL_capital 8 = .ok (.goto 7, 3) := by decide +kernel
theorem dL_capital_11 : decode cL_capital 11 = .ok (.astore 4, 2) := by decide +kernel
theorem dL_capital_13 : decode cL_capital 13 = .ok (.iconst 1, 1) := by decide +kernel
theorem dL_capital_14 : decode cL_capital 14 = .ok (.ireturn, 1) := by decide +kernel
theorem dL_capital_15 : decode cL_capital 15 = .ok (.iconst 0, 1) := by decide +kernel
theorem dL_capital_16 : decode cL_capital 16 = .ok (.ireturn, 1) := by decide +kernel
theorem dL_move_0 : decode cL_move 0 = .ok (.aload_n 0, 1) := by decide +kernel
theorem dL_move_1 : decode cL_move 1 = .ok (.iload_n 1, 1) := by decide +kernel
theorem dL_move_2 : decode cL_move 2 = .ok (.iload_n 2, 1) := by decide +kernel
theorem dL_move_3 : decode cL_move 3 = .ok (.iload_n 3, 1) := by decide +kernel
theorem dL_move_4 : decode cL_move 4 = .ok (.invokevirtual 23, 3) := by decide +kernel
theorem dL_move_7 : decode cL_move 7 = .ok (.goto 7, 3) := by decide +kernel
theorem dL_move_10 : decode cL_move 10 = .ok (.astore 4, 2) := by decide +kernel
theorem dL_move_12 : decode cL_move 12 = .ok (.iconst 1, 1) := by decide +kernel
theorem dL_move_13 : decode cL_move 13 = .ok (.ireturn, 1) := by decide +kernel
theorem dL_move_14 : decode cL_move 14 = .ok (.iconst 0, 1) := by decide +kernel
theorem dL_move_15 : decode cL_move 15 = .ok (.ireturn, 1) := by decide +kernel
theorem dL_bid_0 : decode cL_bid 0 = .ok (.aload_n 0, 1) := by decide +kernel
theorem dL_bid_1 : decode cL_bid 1 = .ok (.iload_n 1, 1) := by decide +kernel
theorem dL_bid_2 : decode cL_bid 2 = .ok (.iload_n 2, 1) := by decide +kernel
theorem dL_bid_3 : decode cL_bid 3 = .ok (.iload_n 3, 1) := by decide +kernel
theorem dL_bid_4 : decode cL_bid 4 = .ok (.invokevirtual 27, 3) := by decide +kernel
theorem dL_bid_7 : decode cL_bid 7 = .ok (.goto 7, 3) := by decide +kernel
theorem dL_bid_10 : decode cL_bid 10 = .ok (.astore 4, 2) := by decide +kernel
theorem dL_bid_12 : decode cL_bid 12 = .ok (.iconst 1, 1) := by decide +kernel
theorem dL_bid_13 : decode cL_bid 13 = .ok (.ireturn, 1) := by decide +kernel
theorem dL_bid_14 : decode cL_bid 14 = .ok (.iconst 0, 1) := by decide +kernel
theorem dL_bid_15 : decode cL_bid 15 = .ok (.ireturn, 1) := by decide +kernel
theorem dL_deposit_0 : decode cL_deposit 0 = .ok (.aload 4, 2) := by decide +kernel
theorem dL_deposit_2 : decode cL_deposit 2 = .ok (.iconst 0, 1) := by decide +kernel
theorem dL_deposit_3 : decode cL_deposit 3 = .ok (.aload_n 0, 1) := by decide +kernel
theorem dL_deposit_4 : decode cL_deposit 4 = .ok (.iload_n 1, 1) := by decide +kernel
theorem dL_deposit_5 : decode cL_deposit 5 = .ok (.lload_n 2, 1) := by decide +kernel
theorem dL_deposit_6 : decode cL_deposit 6 = .ok (.invokevirtual 30, 3) := by decide +kernel
theorem dL_deposit_9 : decode cL_deposit 9 = .ok (.lastore, 1) := by decide +kernel
theorem dL_deposit_10 : decode cL_deposit 10 = .ok (.goto 11, 3) := by decide +kernel
theorem dL_deposit_13 : decode cL_deposit 13 = .ok (.astore 5, 2) := by decide +kernel
theorem dL_deposit_15 : decode cL_deposit 15 = .ok (.iconst 1, 1) := by decide +kernel
theorem dL_deposit_16 : decode cL_deposit 16 = .ok (.ireturn, 1) := by decide +kernel
theorem dL_deposit_17 : decode cL_deposit 17 = .ok (.astore 5, 2) := by decide +kernel
theorem dL_deposit_19 : decode cL_deposit 19 = .ok (.iconst 2, 1) := by decide +kernel
theorem dL_deposit_20 : decode cL_deposit 20 = .ok (.ireturn, 1) := by decide +kernel
theorem dL_deposit_21 : decode cL_deposit 21 = .ok (.iconst 0, 1) := by decide +kernel
theorem dL_deposit_22 : decode cL_deposit 22 = .ok (.ireturn, 1) := by decide +kernel
theorem dL_withdraw_0 : decode cL_withdraw 0 = .ok (.aload 4, 2) := by decide +kernel
theorem dL_withdraw_2 : decode cL_withdraw 2 = .ok (.iconst 0, 1) := by decide +kernel
theorem dL_withdraw_3 : decode cL_withdraw 3 = .ok (.aload_n 0, 1) := by decide +kernel
theorem dL_withdraw_4 : decode cL_withdraw 4 = .ok (.iload_n 1, 1) := by decide +kernel
theorem dL_withdraw_5 : decode cL_withdraw 5 = .ok (.lload_n 2, 1) := by decide +kernel
theorem dL_withdraw_6 : decode cL_withdraw 6 = .ok (.invokevirtual 36, 3) := by decide +kernel
theorem dL_withdraw_9 : decode cL_withdraw 9 = .ok (.lastore, 1) := by decide +kernel
theorem dL_withdraw_10 : decode cL_withdraw 10 = .ok (.goto 11, 3) := by decide +kernel
theorem dL_withdraw_13 : decode cL_withdraw 13 = .ok (.astore 5, 2) := by decide +kernel
theorem dL_withdraw_15 : decode cL_withdraw 15 = .ok (.iconst 1, 1) := by decide +kernel
theorem dL_withdraw_16 : decode cL_withdraw 16 = .ok (.ireturn, 1) := by decide +kernel
theorem dL_withdraw_17 : decode cL_withdraw 17 = .ok (.astore 5, 2) := by decide +kernel
theorem dL_withdraw_19 : decode cL_withdraw 19 = .ok (.iconst 2, 1) := by decide +kernel
theorem dL_withdraw_20 : decode cL_withdraw 20 = .ok (.ireturn, 1) := by decide +kernel
theorem dL_withdraw_21 : decode cL_withdraw 21 = .ok (.iconst 0, 1) := by decide +kernel
theorem dL_withdraw_22 : decode cL_withdraw 22 = .ok (.ireturn, 1) := by decide +kernel
theorem dL_trade_0 : decode cL_trade 0 = .ok (.aload 6, 2) := by decide +kernel
theorem dL_trade_2 : decode cL_trade 2 = .ok (.iconst 0, 1) := by decide +kernel
theorem dL_trade_3 : decode cL_trade 3 = .ok (.aload_n 0, 1) := by decide +kernel
theorem dL_trade_4 : decode cL_trade 4 = .ok (.iload_n 1, 1) := by decide +kernel
theorem dL_trade_5 : decode cL_trade 5 = .ok (.iload_n 2, 1) := by decide +kernel
theorem dL_trade_6 : decode cL_trade 6 = .ok (.iload_n 3, 1) := by decide +kernel
theorem dL_trade_7 : decode cL_trade 7 = .ok (.iload 4, 2) := by decide +kernel
theorem dL_trade_9 : decode cL_trade 9 = .ok (.iload 5, 2) := by decide +kernel
theorem dL_trade_11 : decode cL_trade 11 = .ok (.invokevirtual 39, 3) := by decide +kernel
theorem dL_trade_14 : decode cL_trade 14 = .ok (.i2l, 1) := by decide +kernel
theorem dL_trade_15 : decode cL_trade 15 = .ok (.lastore, 1) := by decide +kernel
theorem dL_trade_16 : decode cL_trade 16 = .ok (.goto 11, 3) := by decide +kernel
theorem dL_trade_19 : decode cL_trade 19 = .ok (.astore 7, 2) := by decide +kernel
theorem dL_trade_21 : decode cL_trade 21 = .ok (.iconst 1, 1) := by decide +kernel
theorem dL_trade_22 : decode cL_trade 22 = .ok (.ireturn, 1) := by decide +kernel
theorem dL_trade_23 : decode cL_trade 23 = .ok (.astore 7, 2) := by decide +kernel
theorem dL_trade_25 : decode cL_trade 25 = .ok (.iconst 2, 1) := by decide +kernel
theorem dL_trade_26 : decode cL_trade 26 = .ok (.ireturn, 1) := by decide +kernel
theorem dL_trade_27 : decode cL_trade 27 = .ok (.iconst 0, 1) := by decide +kernel
theorem dL_trade_28 : decode cL_trade 28 = .ok (.ireturn, 1) := by decide +kernel
theorem dL_mark_0 : decode cL_mark 0 = .ok (.aload_n 3, 1) := by decide +kernel
theorem dL_mark_1 : decode cL_mark 1 = .ok (.iconst 0, 1) := by decide +kernel
theorem dL_mark_2 : decode cL_mark 2 = .ok (.aload_n 0, 1) := by decide +kernel
theorem dL_mark_3 : decode cL_mark 3 = .ok (.iload_n 1, 1) := by decide +kernel
theorem dL_mark_4 : decode cL_mark 4 = .ok (.iload_n 2, 1) := by decide +kernel
theorem dL_mark_5 : decode cL_mark 5 = .ok (.invokevirtual 43, 3) := by decide +kernel
theorem dL_mark_8 : decode cL_mark 8 = .ok (.i2l, 1) := by decide +kernel
theorem dL_mark_9 : decode cL_mark 9 = .ok (.lastore, 1) := by decide +kernel
theorem dL_mark_10 : decode cL_mark 10 = .ok (.goto 7, 3) := by decide +kernel
theorem dL_mark_13 : decode cL_mark 13 = .ok (.astore 4, 2) := by decide +kernel
theorem dL_mark_15 : decode cL_mark 15 = .ok (.iconst 1, 1) := by decide +kernel
theorem dL_mark_16 : decode cL_mark 16 = .ok (.ireturn, 1) := by decide +kernel
theorem dL_mark_17 : decode cL_mark 17 = .ok (.iconst 0, 1) := by decide +kernel
theorem dL_mark_18 : decode cL_mark 18 = .ok (.ireturn, 1) := by decide +kernel
theorem dL_margin_0 : decode cL_margin 0 = .ok (.aload_n 2, 1) := by decide +kernel
theorem dL_margin_1 : decode cL_margin 1 = .ok (.iconst 0, 1) := by decide +kernel
theorem dL_margin_2 : decode cL_margin 2 = .ok (.aload_n 0, 1) := by decide +kernel
theorem dL_margin_3 : decode cL_margin 3 = .ok (.iload_n 1, 1) := by decide +kernel
theorem dL_margin_4 : decode cL_margin 4 = .ok (.invokevirtual 47, 3) := by decide +kernel
theorem dL_margin_7 : decode cL_margin 7 = .ok (.lastore, 1) := by decide +kernel
theorem dL_margin_8 : decode cL_margin 8 = .ok (.goto 6, 3) := by decide +kernel
theorem dL_margin_11 : decode cL_margin 11 = .ok (.astore_n 3, 1) := by decide +kernel
theorem dL_margin_12 : decode cL_margin 12 = .ok (.iconst 1, 1) := by decide +kernel
theorem dL_margin_13 : decode cL_margin 13 = .ok (.ireturn, 1) := by decide +kernel
theorem dL_margin_14 : decode cL_margin 14 = .ok (.iconst 0, 1) := by decide +kernel
theorem dL_margin_15 : decode cL_margin 15 = .ok (.ireturn, 1) := by decide +kernel
theorem dL_called_0 : decode cL_called 0 = .ok (.aload_n 2, 1) := by decide +kernel
theorem dL_called_1 : decode cL_called 1 = .ok (.iconst 0, 1) := by decide +kernel
theorem dL_called_2 : decode cL_called 2 = .ok (.aload_n 0, 1) := by decide +kernel
theorem dL_called_3 : decode cL_called 3 = .ok (.iload_n 1, 1) := by decide +kernel
theorem dL_called_4 : decode cL_called 4 = .ok (.invokevirtual 51, 3) := by decide +kernel
theorem dL_called_7 : decode cL_called 7 = .ok (.lastore, 1) := by decide +kernel
theorem dL_called_8 : decode cL_called 8 = .ok (.goto 6, 3) := by decide +kernel
theorem dL_called_11 : decode cL_called 11 = .ok (.astore_n 3, 1) := by decide +kernel
theorem dL_called_12 : decode cL_called 12 = .ok (.iconst 1, 1) := by decide +kernel
theorem dL_called_13 : decode cL_called 13 = .ok (.ireturn, 1) := by decide +kernel
theorem dL_called_14 : decode cL_called 14 = .ok (.iconst 0, 1) := by decide +kernel
theorem dL_called_15 : decode cL_called 15 = .ok (.ireturn, 1) := by decide +kernel
theorem dL_closeOut_0 : decode cL_closeOut 0 = .ok (.aload_n 2, 1) := by decide +kernel
theorem dL_closeOut_1 : decode cL_closeOut 1 = .ok (.iconst 0, 1) := by decide +kernel
theorem dL_closeOut_2 : decode cL_closeOut 2 = .ok (.aload_n 0, 1) := by decide +kernel
theorem dL_closeOut_3 : decode cL_closeOut 3 = .ok (.iload_n 1, 1) := by decide +kernel
theorem dL_closeOut_4 : decode cL_closeOut 4 = .ok (.invokevirtual 54, 3) := by decide +kernel
theorem dL_closeOut_7 : decode cL_closeOut 7 = .ok (.lastore, 1) := by decide +kernel
theorem dL_closeOut_8 : decode cL_closeOut 8 = .ok (.goto 9, 3) := by decide +kernel
theorem dL_closeOut_11 : decode cL_closeOut 11 = .ok (.astore_n 3, 1) := by decide +kernel
theorem dL_closeOut_12 : decode cL_closeOut 12 = .ok (.iconst 1, 1) := by decide +kernel
theorem dL_closeOut_13 : decode cL_closeOut 13 = .ok (.ireturn, 1) := by decide +kernel
theorem dL_closeOut_14 : decode cL_closeOut 14 = .ok (.astore_n 3, 1) := by decide +kernel
theorem dL_closeOut_15 : decode cL_closeOut 15 = .ok (.iconst 2, 1) := by decide +kernel
theorem dL_closeOut_16 : decode cL_closeOut 16 = .ok (.ireturn, 1) := by decide +kernel
theorem dL_closeOut_17 : decode cL_closeOut 17 = .ok (.iconst 0, 1) := by decide +kernel
theorem dL_closeOut_18 : decode cL_closeOut 18 = .ok (.ireturn, 1) := by decide +kernel
theorem dL_told_0 : decode cL_told 0 = .ok (.aload_n 3, 1) := by decide +kernel
theorem dL_told_1 : decode cL_told 1 = .ok (.iconst 0, 1) := by decide +kernel
theorem dL_told_2 : decode cL_told 2 = .ok (.aload_n 0, 1) := by decide +kernel
theorem dL_told_3 : decode cL_told 3 = .ok (.iload_n 1, 1) := by decide +kernel
theorem dL_told_4 : decode cL_told 4 = .ok (.iload_n 2, 1) := by decide +kernel
theorem dL_told_5 : decode cL_told 5 = .ok (.invokevirtual 57, 3) := by decide +kernel
theorem dL_told_8 : decode cL_told 8 = .ok (.lastore, 1) := by decide +kernel
theorem dL_told_9 : decode cL_told 9 = .ok (.goto 7, 3) := by decide +kernel
theorem dL_told_12 : decode cL_told 12 = .ok (.astore 4, 2) := by decide +kernel
theorem dL_told_14 : decode cL_told 14 = .ok (.iconst 1, 1) := by decide +kernel
theorem dL_told_15 : decode cL_told 15 = .ok (.ireturn, 1) := by decide +kernel
theorem dL_told_16 : decode cL_told 16 = .ok (.iconst 0, 1) := by decide +kernel
theorem dL_told_17 : decode cL_told 17 = .ok (.ireturn, 1) := by decide +kernel
theorem dL_position_0 : decode cL_position 0 = .ok (.aload_n 3, 1) := by decide +kernel
theorem dL_position_1 : decode cL_position 1 = .ok (.iconst 0, 1) := by decide +kernel
theorem dL_position_2 : decode cL_position 2 = .ok (.aload_n 0, 1) := by decide +kernel
theorem dL_position_3 : decode cL_position 3 = .ok (.iload_n 1, 1) := by decide +kernel
theorem dL_position_4 : decode cL_position 4 = .ok (.iload_n 2, 1) := by decide +kernel
theorem dL_position_5 : decode cL_position 5 = .ok (.invokevirtual 61, 3) := by decide +kernel
theorem dL_position_8 : decode cL_position 8 = .ok (.i2l, 1) := by decide +kernel
theorem dL_position_9 : decode cL_position 9 = .ok (.lastore, 1) := by decide +kernel
theorem dL_position_10 : decode cL_position 10 = .ok (.goto 7, 3) := by decide +kernel
theorem dL_position_13 : decode cL_position 13 = .ok (.astore 4, 2) := by decide +kernel
theorem dL_position_15 : decode cL_position 15 = .ok (.iconst 1, 1) := by decide +kernel
theorem dL_position_16 : decode cL_position 16 = .ok (.ireturn, 1) := by decide +kernel
theorem dL_position_17 : decode cL_position 17 = .ok (.iconst 0, 1) := by decide +kernel
theorem dL_position_18 : decode cL_position 18 = .ok (.ireturn, 1) := by decide +kernel
theorem dL_bore_0 : decode cL_bore 0 = .ok (.aload_n 2, 1) := by decide +kernel
theorem dL_bore_1 : decode cL_bore 1 = .ok (.iconst 0, 1) := by decide +kernel
theorem dL_bore_2 : decode cL_bore 2 = .ok (.aload_n 0, 1) := by decide +kernel
theorem dL_bore_3 : decode cL_bore 3 = .ok (.iload_n 1, 1) := by decide +kernel
theorem dL_bore_4 : decode cL_bore 4 = .ok (.invokevirtual 64, 3) := by decide +kernel
theorem dL_bore_7 : decode cL_bore 7 = .ok (.lastore, 1) := by decide +kernel
theorem dL_bore_8 : decode cL_bore 8 = .ok (.goto 6, 3) := by decide +kernel
theorem dL_bore_11 : decode cL_bore 11 = .ok (.astore_n 3, 1) := by decide +kernel
theorem dL_bore_12 : decode cL_bore 12 = .ok (.iconst 1, 1) := by decide +kernel
theorem dL_bore_13 : decode cL_bore 13 = .ok (.ireturn, 1) := by decide +kernel
theorem dL_bore_14 : decode cL_bore 14 = .ok (.iconst 0, 1) := by decide +kernel
theorem dL_bore_15 : decode cL_bore 15 = .ok (.ireturn, 1) := by decide +kernel
theorem dL_all_0 : decode cL_all 0 = .ok (.aload_n 2, 1) := by decide +kernel
theorem dL_all_1 : decode cL_all 1 = .ok (.iconst 0, 1) := by decide +kernel
theorem dL_all_2 : decode cL_all 2 = .ok (.aload_n 0, 1) := by decide +kernel
theorem dL_all_3 : decode cL_all 3 = .ok (.iload_n 1, 1) := by decide +kernel
theorem dL_all_4 : decode cL_all 4 = .ok (.invokevirtual 67, 3) := by decide +kernel
theorem dL_all_7 : decode cL_all 7 = .ok (.lastore, 1) := by decide +kernel
theorem dL_all_8 : decode cL_all 8 = .ok (.goto 6, 3) := by decide +kernel
theorem dL_all_11 : decode cL_all 11 = .ok (.astore_n 3, 1) := by decide +kernel
theorem dL_all_12 : decode cL_all 12 = .ok (.iconst 1, 1) := by decide +kernel
theorem dL_all_13 : decode cL_all 13 = .ok (.ireturn, 1) := by decide +kernel
theorem dL_all_14 : decode cL_all 14 = .ok (.iconst 0, 1) := by decide +kernel
theorem dL_all_15 : decode cL_all 15 = .ok (.ireturn, 1) := by decide +kernel
theorem dL_law_0 : decode cL_law 0 = .ok (.new 8, 3) := by decide +kernel
theorem dL_law_3 : decode cL_law 3 = .ok (.dup, 1) := by decide +kernel
theorem dL_law_4 : decode cL_law 4 = .ok (.invokespecial 70, 3) := by decide +kernel
theorem dL_law_7 : decode cL_law 7 = .ok (.astore_n 1, 1) := by decide +kernel
theorem dL_law_8 : decode cL_law 8 = .ok (.new 71, 3) := by decide +kernel
theorem dL_law_11 : decode cL_law 11 = .ok (.dup, 1) := by decide +kernel
theorem dL_law_12 : decode cL_law 12 = .ok (.invokespecial 73, 3) := by decide +kernel
theorem dL_law_15 : decode cL_law 15 = .ok (.astore_n 2, 1) := by decide +kernel
theorem dL_law_16 : decode cL_law 16 = .ok (.iconst 1, 1) := by decide +kernel
theorem dL_law_17 : decode cL_law 17 = .ok (.newarray .long, 2) := by decide +kernel
theorem dL_law_19 : decode cL_law 19 = .ok (.astore_n 3, 1) := by decide +kernel
theorem dL_law_20 : decode cL_law 20 = .ok (.iconst 0, 1) := by decide +kernel
theorem dL_law_21 : decode cL_law 21 = .ok (.istore 4, 2) := by decide +kernel
theorem dL_law_23 : decode cL_law 23 = .ok (.iload 4, 2) := by decide +kernel
theorem dL_law_25 : decode cL_law 25 = .ok (.aload_n 0, 1) := by decide +kernel
theorem dL_law_26 : decode cL_law 26 = .ok (.arraylength, 1) := by decide +kernel
theorem dL_law_27 : decode cL_law 27 = .ok (.bipush 6, 2) := by decide +kernel
theorem dL_law_29 : decode cL_law 29 = .ok (.isub, 1) := by decide +kernel
theorem dL_law_30 : decode cL_law 30 = .ok (.if_icmp .gt 1268, 3) := by decide +kernel
theorem dL_law_33 : decode cL_law 33 = .ok (.aload_n 0, 1) := by decide +kernel
theorem dL_law_34 : decode cL_law 34 = .ok (.iload 4, 2) := by decide +kernel
theorem dL_law_36 : decode cL_law 36 = .ok (.iaload, 1) := by decide +kernel
theorem dL_law_37 : decode cL_law 37 = .ok (.bipush 31, 2) := by decide +kernel
theorem dL_law_39 : decode cL_law 39 = .ok (.iand, 1) := by decide +kernel
theorem dL_law_40 : decode cL_law 40 = .ok (.tableswitch 1252 0 16 #[84, 172, 252, 339, 399, 459, 558, 657, 761, 829, 884, 939, 952, 1007, 1074, 1142, 1197], 84) := by decide +kernel
theorem dL_law_124 : decode cL_law 124 = .ok (.aload_n 1, 1) := by decide +kernel
theorem dL_law_125 : decode cL_law 125 = .ok (.aload_n 0, 1) := by decide +kernel
theorem dL_law_126 : decode cL_law 126 = .ok (.iload 4, 2) := by decide +kernel
theorem dL_law_128 : decode cL_law 128 = .ok (.iconst 1, 1) := by decide +kernel
theorem dL_law_129 : decode cL_law 129 = .ok (.iadd, 1) := by decide +kernel
theorem dL_law_130 : decode cL_law 130 = .ok (.iaload, 1) := by decide +kernel
theorem dL_law_131 : decode cL_law 131 = .ok (.i2l, 1) := by decide +kernel
theorem dL_law_132 : decode cL_law 132 = .ok (.bipush 32, 2) := by decide +kernel
theorem dL_law_134 : decode cL_law 134 = .ok (.lshl, 1) := by decide +kernel
theorem dL_law_135 : decode cL_law 135 = .ok (.aload_n 0, 1) := by decide +kernel
theorem dL_law_136 : decode cL_law 136 = .ok (.iload 4, 2) := by decide +kernel
theorem dL_law_138 : decode cL_law 138 = .ok (.iconst 2, 1) := by decide +kernel
theorem dL_law_139 : decode cL_law 139 = .ok (.iadd, 1) := by decide +kernel
theorem dL_law_140 : decode cL_law 140 = .ok (.iaload, 1) := by decide +kernel
theorem dL_law_141 : decode cL_law 141 = .ok (.i2l, 1) := by decide +kernel
theorem dL_law_142 : decode cL_law 142 = .ok (.ldc2_w 74, 3) := by decide +kernel
theorem dL_law_145 : decode cL_law 145 = .ok (.land, 1) := by decide +kernel
theorem dL_law_146 : decode cL_law 146 = .ok (.lor, 1) := by decide +kernel
theorem dL_law_147 : decode cL_law 147 = .ok (.aload_n 3, 1) := by decide +kernel
theorem dL_law_148 : decode cL_law 148 = .ok (.invokestatic 76, 3) := by decide +kernel
theorem dL_law_151 : decode cL_law 151 = .ok (.istore 5, 2) := by decide +kernel
theorem dL_law_153 : decode cL_law 153 = .ok (.aload_n 2, 1) := by decide +kernel
theorem dL_law_154 : decode cL_law 154 = .ok (.aload_n 0, 1) := by decide +kernel
theorem dL_law_155 : decode cL_law 155 = .ok (.iload 4, 2) := by decide +kernel
theorem dL_law_157 : decode cL_law 157 = .ok (.iconst 1, 1) := by decide +kernel
theorem dL_law_158 : decode cL_law 158 = .ok (.iadd, 1) := by decide +kernel
theorem dL_law_159 : decode cL_law 159 = .ok (.iaload, 1) := by decide +kernel
theorem dL_law_160 : decode cL_law 160 = .ok (.i2l, 1) := by decide +kernel
theorem dL_law_161 : decode cL_law 161 = .ok (.bipush 32, 2) := by decide +kernel
theorem dL_law_163 : decode cL_law 163 = .ok (.lshl, 1) := by decide +kernel
theorem dL_law_164 : decode cL_law 164 = .ok (.aload_n 0, 1) := by decide +kernel
theorem dL_law_165 : decode cL_law 165 = .ok (.iload 4, 2) := by decide +kernel
theorem dL_law_167 : decode cL_law 167 = .ok (.iconst 2, 1) := by decide +kernel
theorem dL_law_168 : decode cL_law 168 = .ok (.iadd, 1) := by decide +kernel
theorem dL_law_169 : decode cL_law 169 = .ok (.iaload, 1) := by decide +kernel
theorem dL_law_170 : decode cL_law 170 = .ok (.i2l, 1) := by decide +kernel
theorem dL_law_171 : decode cL_law 171 = .ok (.ldc2_w 74, 3) := by decide +kernel
theorem dL_law_174 : decode cL_law 174 = .ok (.land, 1) := by decide +kernel
theorem dL_law_175 : decode cL_law 175 = .ok (.lor, 1) := by decide +kernel
theorem dL_law_176 : decode cL_law 176 = .ok (.invokevirtual 81, 3) := by decide +kernel
theorem dL_law_179 : decode cL_law 179 = .ok (.istore 6, 2) := by decide +kernel
theorem dL_law_181 : decode cL_law 181 = .ok (.aload_n 2, 1) := by decide +kernel
theorem dL_law_182 : decode cL_law 182 = .ok (.invokevirtual 82, 3) := by decide +kernel
theorem dL_law_185 : decode cL_law 185 = .ok (.iload 5, 2) := by decide +kernel
theorem dL_law_187 : decode cL_law 187 = .ok (.if_icmp .eq 5, 3) := by decide +kernel
theorem dL_law_190 : decode cL_law 190 = .ok (.iconst 0, 1) := by decide +kernel
theorem dL_law_191 : decode cL_law 191 = .ok (.ireturn, 1) := by decide +kernel
theorem dL_law_192 : decode cL_law 192 = .ok (.iload 5, 2) := by decide +kernel
theorem dL_law_194 : decode cL_law 194 = .ok (.ifCond .ne 15, 3) := by decide +kernel
theorem dL_law_197 : decode cL_law 197 = .ok (.aload_n 3, 1) := by decide +kernel
theorem dL_law_198 : decode cL_law 198 = .ok (.iconst 0, 1) := by decide +kernel
theorem dL_law_199 : decode cL_law 199 = .ok (.laload, 1) := by decide +kernel
theorem dL_law_200 : decode cL_law 200 = .ok (.iload 6, 2) := by decide +kernel
theorem dL_law_202 : decode cL_law 202 = .ok (.i2l, 1) := by decide +kernel
theorem dL_law_203 : decode cL_law 203 = .ok (.lcmp, 1) := by decide +kernel
theorem dL_law_204 : decode cL_law 204 = .ok (.ifCond .eq 5, 3) := by decide +kernel
theorem dL_law_207 : decode cL_law 207 = .ok (.iconst 0, 1) := by decide +kernel
theorem dL_law_208 : decode cL_law 208 = .ok (.ireturn, 1) := by decide +kernel
theorem dL_law_209 : decode cL_law 209 = .ok (.goto 1083, 3) := by decide +kernel
theorem dL_law_212 : decode cL_law 212 = .ok (.aload_n 1, 1) := by decide +kernel
theorem dL_law_213 : decode cL_law 213 = .ok (.aload_n 0, 1) := by decide +kernel
theorem dL_law_214 : decode cL_law 214 = .ok (.iload 4, 2) := by decide +kernel
theorem dL_law_216 : decode cL_law 216 = .ok (.iconst 1, 1) := by decide +kernel
theorem dL_law_217 : decode cL_law 217 = .ok (.iadd, 1) := by decide +kernel
theorem dL_law_218 : decode cL_law 218 = .ok (.iaload, 1) := by decide +kernel
theorem dL_law_219 : decode cL_law 219 = .ok (.aload_n 0, 1) := by decide +kernel
theorem dL_law_220 : decode cL_law 220 = .ok (.iload 4, 2) := by decide +kernel
theorem dL_law_222 : decode cL_law 222 = .ok (.iconst 2, 1) := by decide +kernel
theorem dL_law_223 : decode cL_law 223 = .ok (.iadd, 1) := by decide +kernel
theorem dL_law_224 : decode cL_law 224 = .ok (.iaload, 1) := by decide +kernel
theorem dL_law_225 : decode cL_law 225 = .ok (.aload_n 0, 1) := by decide +kernel
theorem dL_law_226 : decode cL_law 226 = .ok (.iload 4, 2) := by decide +kernel
theorem dL_law_228 : decode cL_law 228 = .ok (.iconst 3, 1) := by decide +kernel
theorem dL_law_229 : decode cL_law 229 = .ok (.iadd, 1) := by decide +kernel
theorem dL_law_230 : decode cL_law 230 = .ok (.iaload, 1) := by decide +kernel
theorem dL_law_231 : decode cL_law 231 = .ok (.aload_n 3, 1) := by decide +kernel
theorem dL_law_232 : decode cL_law 232 = .ok (.invokestatic 86, 3) := by decide +kernel
theorem dL_law_235 : decode cL_law 235 = .ok (.istore 5, 2) := by decide +kernel
theorem dL_law_237 : decode cL_law 237 = .ok (.aload_n 2, 1) := by decide +kernel
theorem dL_law_238 : decode cL_law 238 = .ok (.aload_n 0, 1) := by decide +kernel
theorem dL_law_239 : decode cL_law 239 = .ok (.iload 4, 2) := by decide +kernel
theorem dL_law_241 : decode cL_law 241 = .ok (.iconst 1, 1) := by decide +kernel
theorem dL_law_242 : decode cL_law 242 = .ok (.iadd, 1) := by decide +kernel
theorem dL_law_243 : decode cL_law 243 = .ok (.iaload, 1) := by decide +kernel
theorem dL_law_244 : decode cL_law 244 = .ok (.aload_n 0, 1) := by decide +kernel
theorem dL_law_245 : decode cL_law 245 = .ok (.iload 4, 2) := by decide +kernel
theorem dL_law_247 : decode cL_law 247 = .ok (.iconst 2, 1) := by decide +kernel
theorem dL_law_248 : decode cL_law 248 = .ok (.iadd, 1) := by decide +kernel
theorem dL_law_249 : decode cL_law 249 = .ok (.iaload, 1) := by decide +kernel
theorem dL_law_250 : decode cL_law 250 = .ok (.aload_n 0, 1) := by decide +kernel
theorem dL_law_251 : decode cL_law 251 = .ok (.iload 4, 2) := by decide +kernel
theorem dL_law_253 : decode cL_law 253 = .ok (.iconst 3, 1) := by decide +kernel
theorem dL_law_254 : decode cL_law 254 = .ok (.iadd, 1) := by decide +kernel
theorem dL_law_255 : decode cL_law 255 = .ok (.iaload, 1) := by decide +kernel
theorem dL_law_256 : decode cL_law 256 = .ok (.invokevirtual 89, 3) := by decide +kernel
theorem dL_law_259 : decode cL_law 259 = .ok (.istore 6, 2) := by decide +kernel
theorem dL_law_261 : decode cL_law 261 = .ok (.aload_n 2, 1) := by decide +kernel
theorem dL_law_262 : decode cL_law 262 = .ok (.invokevirtual 82, 3) := by decide +kernel
theorem dL_law_265 : decode cL_law 265 = .ok (.iload 5, 2) := by decide +kernel
theorem dL_law_267 : decode cL_law 267 = .ok (.if_icmp .eq 5, 3) := by decide +kernel
theorem dL_law_270 : decode cL_law 270 = .ok (.iconst 0, 1) := by decide +kernel
theorem dL_law_271 : decode cL_law 271 = .ok (.ireturn, 1) := by decide +kernel
theorem dL_law_272 : decode cL_law 272 = .ok (.iload 5, 2) := by decide +kernel
theorem dL_law_274 : decode cL_law 274 = .ok (.ifCond .ne 15, 3) := by decide +kernel
theorem dL_law_277 : decode cL_law 277 = .ok (.aload_n 3, 1) := by decide +kernel
theorem dL_law_278 : decode cL_law 278 = .ok (.iconst 0, 1) := by decide +kernel
theorem dL_law_279 : decode cL_law 279 = .ok (.laload, 1) := by decide +kernel
theorem dL_law_280 : decode cL_law 280 = .ok (.iload 6, 2) := by decide +kernel
theorem dL_law_282 : decode cL_law 282 = .ok (.i2l, 1) := by decide +kernel
theorem dL_law_283 : decode cL_law 283 = .ok (.lcmp, 1) := by decide +kernel
theorem dL_law_284 : decode cL_law 284 = .ok (.ifCond .eq 5, 3) := by decide +kernel
theorem dL_law_287 : decode cL_law 287 = .ok (.iconst 0, 1) := by decide +kernel
theorem dL_law_288 : decode cL_law 288 = .ok (.ireturn, 1) := by decide +kernel
theorem dL_law_289 : decode cL_law 289 = .ok (.goto 1003, 3) := by decide +kernel
theorem dL_law_292 : decode cL_law 292 = .ok (.aload_n 1, 1) := by decide +kernel
theorem dL_law_293 : decode cL_law 293 = .ok (.aload_n 0, 1) := by decide +kernel
theorem dL_law_294 : decode cL_law 294 = .ok (.iload 4, 2) := by decide +kernel
theorem dL_law_296 : decode cL_law 296 = .ok (.iconst 1, 1) := by decide +kernel
theorem dL_law_297 : decode cL_law 297 = .ok (.iadd, 1) := by decide +kernel
theorem dL_law_298 : decode cL_law 298 = .ok (.iaload, 1) := by decide +kernel
theorem dL_law_299 : decode cL_law 299 = .ok (.i2l, 1) := by decide +kernel
theorem dL_law_300 : decode cL_law 300 = .ok (.bipush 32, 2) := by decide +kernel
theorem dL_law_302 : decode cL_law 302 = .ok (.lshl, 1) := by decide +kernel
theorem dL_law_303 : decode cL_law 303 = .ok (.aload_n 0, 1) := by decide +kernel
theorem dL_law_304 : decode cL_law 304 = .ok (.iload 4, 2) := by decide +kernel
theorem dL_law_306 : decode cL_law 306 = .ok (.iconst 2, 1) := by decide +kernel
theorem dL_law_307 : decode cL_law 307 = .ok (.iadd, 1) := by decide +kernel
theorem dL_law_308 : decode cL_law 308 = .ok (.iaload, 1) := by decide +kernel
theorem dL_law_309 : decode cL_law 309 = .ok (.i2l, 1) := by decide +kernel
theorem dL_law_310 : decode cL_law 310 = .ok (.ldc2_w 74, 3) := by decide +kernel
theorem dL_law_313 : decode cL_law 313 = .ok (.land, 1) := by decide +kernel
theorem dL_law_314 : decode cL_law 314 = .ok (.lor, 1) := by decide +kernel
theorem dL_law_315 : decode cL_law 315 = .ok (.aload_n 3, 1) := by decide +kernel
theorem dL_law_316 : decode cL_law 316 = .ok (.invokestatic 90, 3) := by decide +kernel
theorem dL_law_319 : decode cL_law 319 = .ok (.istore 5, 2) := by decide +kernel
theorem dL_law_321 : decode cL_law 321 = .ok (.aload_n 2, 1) := by decide +kernel
theorem dL_law_322 : decode cL_law 322 = .ok (.aload_n 0, 1) := by decide +kernel
theorem dL_law_323 : decode cL_law 323 = .ok (.iload 4, 2) := by decide +kernel
theorem dL_law_325 : decode cL_law 325 = .ok (.iconst 1, 1) := by decide +kernel
theorem dL_law_326 : decode cL_law 326 = .ok (.iadd, 1) := by decide +kernel
theorem dL_law_327 : decode cL_law 327 = .ok (.iaload, 1) := by decide +kernel
theorem dL_law_328 : decode cL_law 328 = .ok (.i2l, 1) := by decide +kernel
theorem dL_law_329 : decode cL_law 329 = .ok (.bipush 32, 2) := by decide +kernel
theorem dL_law_331 : decode cL_law 331 = .ok (.lshl, 1) := by decide +kernel
theorem dL_law_332 : decode cL_law 332 = .ok (.aload_n 0, 1) := by decide +kernel
theorem dL_law_333 : decode cL_law 333 = .ok (.iload 4, 2) := by decide +kernel
theorem dL_law_335 : decode cL_law 335 = .ok (.iconst 2, 1) := by decide +kernel
theorem dL_law_336 : decode cL_law 336 = .ok (.iadd, 1) := by decide +kernel
theorem dL_law_337 : decode cL_law 337 = .ok (.iaload, 1) := by decide +kernel
theorem dL_law_338 : decode cL_law 338 = .ok (.i2l, 1) := by decide +kernel
theorem dL_law_339 : decode cL_law 339 = .ok (.ldc2_w 74, 3) := by decide +kernel
theorem dL_law_342 : decode cL_law 342 = .ok (.land, 1) := by decide +kernel
theorem dL_law_343 : decode cL_law 343 = .ok (.lor, 1) := by decide +kernel
theorem dL_law_344 : decode cL_law 344 = .ok (.invokevirtual 92, 3) := by decide +kernel
theorem dL_law_347 : decode cL_law 347 = .ok (.lstore 6, 2) := by decide +kernel
theorem dL_law_349 : decode cL_law 349 = .ok (.aload_n 2, 1) := by decide +kernel
theorem dL_law_350 : decode cL_law 350 = .ok (.invokevirtual 82, 3) := by decide +kernel
theorem dL_law_353 : decode cL_law 353 = .ok (.iload 5, 2) := by decide +kernel
theorem dL_law_355 : decode cL_law 355 = .ok (.if_icmp .eq 5, 3) := by decide +kernel
theorem dL_law_358 : decode cL_law 358 = .ok (.iconst 0, 1) := by decide +kernel
theorem dL_law_359 : decode cL_law 359 = .ok (.ireturn, 1) := by decide +kernel
theorem dL_law_360 : decode cL_law 360 = .ok (.iload 5, 2) := by decide +kernel
theorem dL_law_362 : decode cL_law 362 = .ok (.ifCond .ne 14, 3) := by decide +kernel
theorem dL_law_365 : decode cL_law 365 = .ok (.aload_n 3, 1) := by decide +kernel
theorem dL_law_366 : decode cL_law 366 = .ok (.iconst 0, 1) := by decide +kernel
theorem dL_law_367 : decode cL_law 367 = .ok (.laload, 1) := by decide +kernel
theorem dL_law_368 : decode cL_law 368 = .ok (.lload 6, 2) := by decide +kernel
theorem dL_law_370 : decode cL_law 370 = .ok (.lcmp, 1) := by decide +kernel
theorem dL_law_371 : decode cL_law 371 = .ok (.ifCond .eq 5, 3) := by decide +kernel
theorem dL_law_374 : decode cL_law 374 = .ok (.iconst 0, 1) := by decide +kernel
theorem dL_law_375 : decode cL_law 375 = .ok (.ireturn, 1) := by decide +kernel
theorem dL_law_376 : decode cL_law 376 = .ok (.goto 916, 3) := by decide +kernel
theorem dL_law_379 : decode cL_law 379 = .ok (.aload_n 1, 1) := by decide +kernel
theorem dL_law_380 : decode cL_law 380 = .ok (.aload_n 0, 1) := by decide +kernel
theorem dL_law_381 : decode cL_law 381 = .ok (.iload 4, 2) := by decide +kernel
theorem dL_law_383 : decode cL_law 383 = .ok (.iconst 1, 1) := by decide +kernel
theorem dL_law_384 : decode cL_law 384 = .ok (.iadd, 1) := by decide +kernel
theorem dL_law_385 : decode cL_law 385 = .ok (.iaload, 1) := by decide +kernel
theorem dL_law_386 : decode cL_law 386 = .ok (.aload_n 0, 1) := by decide +kernel
theorem dL_law_387 : decode cL_law 387 = .ok (.iload 4, 2) := by decide +kernel
theorem dL_law_389 : decode cL_law 389 = .ok (.iconst 2, 1) := by decide +kernel
theorem dL_law_390 : decode cL_law 390 = .ok (.iadd, 1) := by decide +kernel
theorem dL_law_391 : decode cL_law 391 = .ok (.iaload, 1) := by decide +kernel
theorem dL_law_392 : decode cL_law 392 = .ok (.aload_n 0, 1) := by decide +kernel
theorem dL_law_393 : decode cL_law 393 = .ok (.iload 4, 2) := by decide +kernel
theorem dL_law_395 : decode cL_law 395 = .ok (.iconst 3, 1) := by decide +kernel
theorem dL_law_396 : decode cL_law 396 = .ok (.iadd, 1) := by decide +kernel
theorem dL_law_397 : decode cL_law 397 = .ok (.iaload, 1) := by decide +kernel
theorem dL_law_398 : decode cL_law 398 = .ok (.invokestatic 93, 3) := by decide +kernel
theorem dL_law_401 : decode cL_law 401 = .ok (.istore 5, 2) := by decide +kernel
theorem dL_law_403 : decode cL_law 403 = .ok (.aload_n 2, 1) := by decide +kernel
theorem dL_law_404 : decode cL_law 404 = .ok (.aload_n 0, 1) := by decide +kernel
theorem dL_law_405 : decode cL_law 405 = .ok (.iload 4, 2) := by decide +kernel
theorem dL_law_407 : decode cL_law 407 = .ok (.iconst 1, 1) := by decide +kernel
theorem dL_law_408 : decode cL_law 408 = .ok (.iadd, 1) := by decide +kernel
theorem dL_law_409 : decode cL_law 409 = .ok (.iaload, 1) := by decide +kernel
theorem dL_law_410 : decode cL_law 410 = .ok (.aload_n 0, 1) := by decide +kernel
theorem dL_law_411 : decode cL_law 411 = .ok (.iload 4, 2) := by decide +kernel
theorem dL_law_413 : decode cL_law 413 = .ok (.iconst 2, 1) := by decide +kernel
theorem dL_law_414 : decode cL_law 414 = .ok (.iadd, 1) := by decide +kernel
theorem dL_law_415 : decode cL_law 415 = .ok (.iaload, 1) := by decide +kernel
theorem dL_law_416 : decode cL_law 416 = .ok (.aload_n 0, 1) := by decide +kernel
theorem dL_law_417 : decode cL_law 417 = .ok (.iload 4, 2) := by decide +kernel
theorem dL_law_419 : decode cL_law 419 = .ok (.iconst 3, 1) := by decide +kernel
theorem dL_law_420 : decode cL_law 420 = .ok (.iadd, 1) := by decide +kernel
theorem dL_law_421 : decode cL_law 421 = .ok (.iaload, 1) := by decide +kernel
theorem dL_law_422 : decode cL_law 422 = .ok (.invokevirtual 96, 3) := by decide +kernel
theorem dL_law_425 : decode cL_law 425 = .ok (.aload_n 2, 1) := by decide +kernel
theorem dL_law_426 : decode cL_law 426 = .ok (.invokevirtual 82, 3) := by decide +kernel
theorem dL_law_429 : decode cL_law 429 = .ok (.iload 5, 2) := by decide +kernel
theorem dL_law_431 : decode cL_law 431 = .ok (.if_icmp .eq 5, 3) := by decide +kernel
theorem dL_law_434 : decode cL_law 434 = .ok (.iconst 0, 1) := by decide +kernel
theorem dL_law_435 : decode cL_law 435 = .ok (.ireturn, 1) := by decide +kernel
theorem dL_law_436 : decode cL_law 436 = .ok (.goto 856, 3) := by decide +kernel
theorem dL_law_439 : decode cL_law 439 = .ok (.aload_n 1, 1) := by decide +kernel
theorem dL_law_440 : decode cL_law 440 = .ok (.aload_n 0, 1) := by decide +kernel
theorem dL_law_441 : decode cL_law 441 = .ok (.iload 4, 2) := by decide +kernel
theorem dL_law_443 : decode cL_law 443 = .ok (.iconst 1, 1) := by decide +kernel
theorem dL_law_444 : decode cL_law 444 = .ok (.iadd, 1) := by decide +kernel
theorem dL_law_445 : decode cL_law 445 = .ok (.iaload, 1) := by decide +kernel
theorem dL_law_446 : decode cL_law 446 = .ok (.aload_n 0, 1) := by decide +kernel
theorem dL_law_447 : decode cL_law 447 = .ok (.iload 4, 2) := by decide +kernel
theorem dL_law_449 : decode cL_law 449 = .ok (.iconst 2, 1) := by decide +kernel
theorem dL_law_450 : decode cL_law 450 = .ok (.iadd, 1) := by decide +kernel
theorem dL_law_451 : decode cL_law 451 = .ok (.iaload, 1) := by decide +kernel
theorem dL_law_452 : decode cL_law 452 = .ok (.aload_n 0, 1) := by decide +kernel
theorem dL_law_453 : decode cL_law 453 = .ok (.iload 4, 2) := by decide +kernel
theorem dL_law_455 : decode cL_law 455 = .ok (.iconst 3, 1) := by decide +kernel
theorem dL_law_456 : decode cL_law 456 = .ok (.iadd, 1) := by decide +kernel
theorem dL_law_457 : decode cL_law 457 = .ok (.iaload, 1) := by decide +kernel
theorem dL_law_458 : decode cL_law 458 = .ok (.invokestatic 97, 3) := by decide +kernel
theorem dL_law_461 : decode cL_law 461 = .ok (.istore 5, 2) := by decide +kernel
theorem dL_law_463 : decode cL_law 463 = .ok (.aload_n 2, 1) := by decide +kernel
theorem dL_law_464 : decode cL_law 464 = .ok (.aload_n 0, 1) := by decide +kernel
theorem dL_law_465 : decode cL_law 465 = .ok (.iload 4, 2) := by decide +kernel
theorem dL_law_467 : decode cL_law 467 = .ok (.iconst 1, 1) := by decide +kernel
theorem dL_law_468 : decode cL_law 468 = .ok (.iadd, 1) := by decide +kernel
theorem dL_law_469 : decode cL_law 469 = .ok (.iaload, 1) := by decide +kernel
theorem dL_law_470 : decode cL_law 470 = .ok (.aload_n 0, 1) := by decide +kernel
theorem dL_law_471 : decode cL_law 471 = .ok (.iload 4, 2) := by decide +kernel
theorem dL_law_473 : decode cL_law 473 = .ok (.iconst 2, 1) := by decide +kernel
theorem dL_law_474 : decode cL_law 474 = .ok (.iadd, 1) := by decide +kernel
theorem dL_law_475 : decode cL_law 475 = .ok (.iaload, 1) := by decide +kernel
theorem dL_law_476 : decode cL_law 476 = .ok (.aload_n 0, 1) := by decide +kernel
theorem dL_law_477 : decode cL_law 477 = .ok (.iload 4, 2) := by decide +kernel
theorem dL_law_479 : decode cL_law 479 = .ok (.iconst 3, 1) := by decide +kernel
theorem dL_law_480 : decode cL_law 480 = .ok (.iadd, 1) := by decide +kernel
theorem dL_law_481 : decode cL_law 481 = .ok (.iaload, 1) := by decide +kernel
theorem dL_law_482 : decode cL_law 482 = .ok (.invokevirtual 99, 3) := by decide +kernel
theorem dL_law_485 : decode cL_law 485 = .ok (.aload_n 2, 1) := by decide +kernel
theorem dL_law_486 : decode cL_law 486 = .ok (.invokevirtual 82, 3) := by decide +kernel
theorem dL_law_489 : decode cL_law 489 = .ok (.iload 5, 2) := by decide +kernel
theorem dL_law_491 : decode cL_law 491 = .ok (.if_icmp .eq 5, 3) := by decide +kernel
theorem dL_law_494 : decode cL_law 494 = .ok (.iconst 0, 1) := by decide +kernel
theorem dL_law_495 : decode cL_law 495 = .ok (.ireturn, 1) := by decide +kernel
theorem dL_law_496 : decode cL_law 496 = .ok (.goto 796, 3) := by decide +kernel
theorem dL_law_499 : decode cL_law 499 = .ok (.aload_n 1, 1) := by decide +kernel
theorem dL_law_500 : decode cL_law 500 = .ok (.aload_n 0, 1) := by decide +kernel
theorem dL_law_501 : decode cL_law 501 = .ok (.iload 4, 2) := by decide +kernel
theorem dL_law_503 : decode cL_law 503 = .ok (.iconst 1, 1) := by decide +kernel
theorem dL_law_504 : decode cL_law 504 = .ok (.iadd, 1) := by decide +kernel
theorem dL_law_505 : decode cL_law 505 = .ok (.iaload, 1) := by decide +kernel
theorem dL_law_506 : decode cL_law 506 = .ok (.aload_n 0, 1) := by decide +kernel
theorem dL_law_507 : decode cL_law 507 = .ok (.iload 4, 2) := by decide +kernel
theorem dL_law_509 : decode cL_law 509 = .ok (.iconst 2, 1) := by decide +kernel
theorem dL_law_510 : decode cL_law 510 = .ok (.iadd, 1) := by decide +kernel
theorem dL_law_511 : decode cL_law 511 = .ok (.iaload, 1) := by decide +kernel
theorem dL_law_512 : decode cL_law 512 = .ok (.i2l, 1) := by decide +kernel
theorem dL_law_513 : decode cL_law 513 = .ok (.bipush 32, 2) := by decide +kernel
theorem dL_law_515 : decode cL_law 515 = .ok (.lshl, 1) := by decide +kernel
theorem dL_law_516 : decode cL_law 516 = .ok (.aload_n 0, 1) := by decide +kernel
theorem dL_law_517 : decode cL_law 517 = .ok (.iload 4, 2) := by decide +kernel
theorem dL_law_519 : decode cL_law 519 = .ok (.iconst 3, 1) := by decide +kernel
theorem dL_law_520 : decode cL_law 520 = .ok (.iadd, 1) := by decide +kernel
theorem dL_law_521 : decode cL_law 521 = .ok (.iaload, 1) := by decide +kernel
theorem dL_law_522 : decode cL_law 522 = .ok (.i2l, 1) := by decide +kernel
theorem dL_law_523 : decode cL_law 523 = .ok (.ldc2_w 74, 3) := by decide +kernel
theorem dL_law_526 : decode cL_law 526 = .ok (.land, 1) := by decide +kernel
theorem dL_law_527 : decode cL_law 527 = .ok (.lor, 1) := by decide +kernel
theorem dL_law_528 : decode cL_law 528 = .ok (.aload_n 3, 1) := by decide +kernel
theorem dL_law_529 : decode cL_law 529 = .ok (.invokestatic 100, 3) := by decide +kernel
theorem dL_law_532 : decode cL_law 532 = .ok (.istore 5, 2) := by decide +kernel
theorem dL_law_534 : decode cL_law 534 = .ok (.aload_n 2, 1) := by decide +kernel
theorem dL_law_535 : decode cL_law 535 = .ok (.aload_n 0, 1) := by decide +kernel
theorem dL_law_536 : decode cL_law 536 = .ok (.iload 4, 2) := by decide +kernel
theorem dL_law_538 : decode cL_law 538 = .ok (.iconst 1, 1) := by decide +kernel
theorem dL_law_539 : decode cL_law 539 = .ok (.iadd, 1) := by decide +kernel
theorem dL_law_540 : decode cL_law 540 = .ok (.iaload, 1) := by decide +kernel
theorem dL_law_541 : decode cL_law 541 = .ok (.aload_n 0, 1) := by decide +kernel
theorem dL_law_542 : decode cL_law 542 = .ok (.iload 4, 2) := by decide +kernel
theorem dL_law_544 : decode cL_law 544 = .ok (.iconst 2, 1) := by decide +kernel
theorem dL_law_545 : decode cL_law 545 = .ok (.iadd, 1) := by decide +kernel
theorem dL_law_546 : decode cL_law 546 = .ok (.iaload, 1) := by decide +kernel
theorem dL_law_547 : decode cL_law 547 = .ok (.i2l, 1) := by decide +kernel
theorem dL_law_548 : decode cL_law 548 = .ok (.bipush 32, 2) := by decide +kernel
theorem dL_law_550 : decode cL_law 550 = .ok (.lshl, 1) := by decide +kernel
theorem dL_law_551 : decode cL_law 551 = .ok (.aload_n 0, 1) := by decide +kernel
theorem dL_law_552 : decode cL_law 552 = .ok (.iload 4, 2) := by decide +kernel
theorem dL_law_554 : decode cL_law 554 = .ok (.iconst 3, 1) := by decide +kernel
theorem dL_law_555 : decode cL_law 555 = .ok (.iadd, 1) := by decide +kernel
theorem dL_law_556 : decode cL_law 556 = .ok (.iaload, 1) := by decide +kernel
theorem dL_law_557 : decode cL_law 557 = .ok (.i2l, 1) := by decide +kernel
theorem dL_law_558 : decode cL_law 558 = .ok (.ldc2_w 74, 3) := by decide +kernel
theorem dL_law_561 : decode cL_law 561 = .ok (.land, 1) := by decide +kernel
theorem dL_law_562 : decode cL_law 562 = .ok (.lor, 1) := by decide +kernel
theorem dL_law_563 : decode cL_law 563 = .ok (.invokevirtual 103, 3) := by decide +kernel
theorem dL_law_566 : decode cL_law 566 = .ok (.lstore 6, 2) := by decide +kernel
theorem dL_law_568 : decode cL_law 568 = .ok (.aload_n 2, 1) := by decide +kernel
theorem dL_law_569 : decode cL_law 569 = .ok (.invokevirtual 82, 3) := by decide +kernel
theorem dL_law_572 : decode cL_law 572 = .ok (.iload 5, 2) := by decide +kernel
theorem dL_law_574 : decode cL_law 574 = .ok (.if_icmp .eq 5, 3) := by decide +kernel
theorem dL_law_577 : decode cL_law 577 = .ok (.iconst 0, 1) := by decide +kernel
theorem dL_law_578 : decode cL_law 578 = .ok (.ireturn, 1) := by decide +kernel
theorem dL_law_579 : decode cL_law 579 = .ok (.iload 5, 2) := by decide +kernel
theorem dL_law_581 : decode cL_law 581 = .ok (.ifCond .ne 14, 3) := by decide +kernel
theorem dL_law_584 : decode cL_law 584 = .ok (.aload_n 3, 1) := by decide +kernel
theorem dL_law_585 : decode cL_law 585 = .ok (.iconst 0, 1) := by decide +kernel
theorem dL_law_586 : decode cL_law 586 = .ok (.laload, 1) := by decide +kernel
theorem dL_law_587 : decode cL_law 587 = .ok (.lload 6, 2) := by decide +kernel
theorem dL_law_589 : decode cL_law 589 = .ok (.lcmp, 1) := by decide +kernel
theorem dL_law_590 : decode cL_law 590 = .ok (.ifCond .eq 5, 3) := by decide +kernel
theorem dL_law_593 : decode cL_law 593 = .ok (.iconst 0, 1) := by decide +kernel
theorem dL_law_594 : decode cL_law 594 = .ok (.ireturn, 1) := by decide +kernel
theorem dL_law_595 : decode cL_law 595 = .ok (.goto 697, 3) := by decide +kernel
theorem dL_law_598 : decode cL_law 598 = .ok (.aload_n 1, 1) := by decide +kernel
theorem dL_law_599 : decode cL_law 599 = .ok (.aload_n 0, 1) := by decide +kernel
theorem dL_law_600 : decode cL_law 600 = .ok (.iload 4, 2) := by decide +kernel
theorem dL_law_602 : decode cL_law 602 = .ok (.iconst 1, 1) := by decide +kernel
theorem dL_law_603 : decode cL_law 603 = .ok (.iadd, 1) := by decide +kernel
theorem dL_law_604 : decode cL_law 604 = .ok (.iaload, 1) := by decide +kernel
theorem dL_law_605 : decode cL_law 605 = .ok (.aload_n 0, 1) := by decide +kernel
theorem dL_law_606 : decode cL_law 606 = .ok (.iload 4, 2) := by decide +kernel
theorem dL_law_608 : decode cL_law 608 = .ok (.iconst 2, 1) := by decide +kernel
theorem dL_law_609 : decode cL_law 609 = .ok (.iadd, 1) := by decide +kernel
theorem dL_law_610 : decode cL_law 610 = .ok (.iaload, 1) := by decide +kernel
theorem dL_law_611 : decode cL_law 611 = .ok (.i2l, 1) := by decide +kernel
theorem dL_law_612 : decode cL_law 612 = .ok (.bipush 32, 2) := by decide +kernel
theorem dL_law_614 : decode cL_law 614 = .ok (.lshl, 1) := by decide +kernel
theorem dL_law_615 : decode cL_law 615 = .ok (.aload_n 0, 1) := by decide +kernel
theorem dL_law_616 : decode cL_law 616 = .ok (.iload 4, 2) := by decide +kernel
theorem dL_law_618 : decode cL_law 618 = .ok (.iconst 3, 1) := by decide +kernel
theorem dL_law_619 : decode cL_law 619 = .ok (.iadd, 1) := by decide +kernel
theorem dL_law_620 : decode cL_law 620 = .ok (.iaload, 1) := by decide +kernel
theorem dL_law_621 : decode cL_law 621 = .ok (.i2l, 1) := by decide +kernel
theorem dL_law_622 : decode cL_law 622 = .ok (.ldc2_w 74, 3) := by decide +kernel
theorem dL_law_625 : decode cL_law 625 = .ok (.land, 1) := by decide +kernel
theorem dL_law_626 : decode cL_law 626 = .ok (.lor, 1) := by decide +kernel
theorem dL_law_627 : decode cL_law 627 = .ok (.aload_n 3, 1) := by decide +kernel
theorem dL_law_628 : decode cL_law 628 = .ok (.invokestatic 104, 3) := by decide +kernel
theorem dL_law_631 : decode cL_law 631 = .ok (.istore 5, 2) := by decide +kernel
theorem dL_law_633 : decode cL_law 633 = .ok (.aload_n 2, 1) := by decide +kernel
theorem dL_law_634 : decode cL_law 634 = .ok (.aload_n 0, 1) := by decide +kernel
theorem dL_law_635 : decode cL_law 635 = .ok (.iload 4, 2) := by decide +kernel
theorem dL_law_637 : decode cL_law 637 = .ok (.iconst 1, 1) := by decide +kernel
theorem dL_law_638 : decode cL_law 638 = .ok (.iadd, 1) := by decide +kernel
theorem dL_law_639 : decode cL_law 639 = .ok (.iaload, 1) := by decide +kernel
theorem dL_law_640 : decode cL_law 640 = .ok (.aload_n 0, 1) := by decide +kernel
theorem dL_law_641 : decode cL_law 641 = .ok (.iload 4, 2) := by decide +kernel
theorem dL_law_643 : decode cL_law 643 = .ok (.iconst 2, 1) := by decide +kernel
theorem dL_law_644 : decode cL_law 644 = .ok (.iadd, 1) := by decide +kernel
theorem dL_law_645 : decode cL_law 645 = .ok (.iaload, 1) := by decide +kernel
theorem dL_law_646 : decode cL_law 646 = .ok (.i2l, 1) := by decide +kernel
theorem dL_law_647 : decode cL_law 647 = .ok (.bipush 32, 2) := by decide +kernel
theorem dL_law_649 : decode cL_law 649 = .ok (.lshl, 1) := by decide +kernel
theorem dL_law_650 : decode cL_law 650 = .ok (.aload_n 0, 1) := by decide +kernel
theorem dL_law_651 : decode cL_law 651 = .ok (.iload 4, 2) := by decide +kernel
theorem dL_law_653 : decode cL_law 653 = .ok (.iconst 3, 1) := by decide +kernel
theorem dL_law_654 : decode cL_law 654 = .ok (.iadd, 1) := by decide +kernel
theorem dL_law_655 : decode cL_law 655 = .ok (.iaload, 1) := by decide +kernel
theorem dL_law_656 : decode cL_law 656 = .ok (.i2l, 1) := by decide +kernel
theorem dL_law_657 : decode cL_law 657 = .ok (.ldc2_w 74, 3) := by decide +kernel
theorem dL_law_660 : decode cL_law 660 = .ok (.land, 1) := by decide +kernel
theorem dL_law_661 : decode cL_law 661 = .ok (.lor, 1) := by decide +kernel
theorem dL_law_662 : decode cL_law 662 = .ok (.invokevirtual 106, 3) := by decide +kernel
theorem dL_law_665 : decode cL_law 665 = .ok (.lstore 6, 2) := by decide +kernel
theorem dL_law_667 : decode cL_law 667 = .ok (.aload_n 2, 1) := by decide +kernel
theorem dL_law_668 : decode cL_law 668 = .ok (.invokevirtual 82, 3) := by decide +kernel
theorem dL_law_671 : decode cL_law 671 = .ok (.iload 5, 2) := by decide +kernel
theorem dL_law_673 : decode cL_law 673 = .ok (.if_icmp .eq 5, 3) := by decide +kernel
theorem dL_law_676 : decode cL_law 676 = .ok (.iconst 0, 1) := by decide +kernel
theorem dL_law_677 : decode cL_law 677 = .ok (.ireturn, 1) := by decide +kernel
theorem dL_law_678 : decode cL_law 678 = .ok (.iload 5, 2) := by decide +kernel
theorem dL_law_680 : decode cL_law 680 = .ok (.ifCond .ne 14, 3) := by decide +kernel
theorem dL_law_683 : decode cL_law 683 = .ok (.aload_n 3, 1) := by decide +kernel
theorem dL_law_684 : decode cL_law 684 = .ok (.iconst 0, 1) := by decide +kernel
theorem dL_law_685 : decode cL_law 685 = .ok (.laload, 1) := by decide +kernel
theorem dL_law_686 : decode cL_law 686 = .ok (.lload 6, 2) := by decide +kernel
theorem dL_law_688 : decode cL_law 688 = .ok (.lcmp, 1) := by decide +kernel
theorem dL_law_689 : decode cL_law 689 = .ok (.ifCond .eq 5, 3) := by decide +kernel
theorem dL_law_692 : decode cL_law 692 = .ok (.iconst 0, 1) := by decide +kernel
theorem dL_law_693 : decode cL_law 693 = .ok (.ireturn, 1) := by decide +kernel
theorem dL_law_694 : decode cL_law 694 = .ok (.goto 598, 3) := by decide +kernel
theorem dL_law_697 : decode cL_law 697 = .ok (.aload_n 1, 1) := by decide +kernel
theorem dL_law_698 : decode cL_law 698 = .ok (.aload_n 0, 1) := by decide +kernel
theorem dL_law_699 : decode cL_law 699 = .ok (.iload 4, 2) := by decide +kernel
theorem dL_law_701 : decode cL_law 701 = .ok (.iconst 1, 1) := by decide +kernel
theorem dL_law_702 : decode cL_law 702 = .ok (.iadd, 1) := by decide +kernel
theorem dL_law_703 : decode cL_law 703 = .ok (.iaload, 1) := by decide +kernel
theorem dL_law_704 : decode cL_law 704 = .ok (.aload_n 0, 1) := by decide +kernel
theorem dL_law_705 : decode cL_law 705 = .ok (.iload 4, 2) := by decide +kernel
theorem dL_law_707 : decode cL_law 707 = .ok (.iconst 2, 1) := by decide +kernel
theorem dL_law_708 : decode cL_law 708 = .ok (.iadd, 1) := by decide +kernel
theorem dL_law_709 : decode cL_law 709 = .ok (.iaload, 1) := by decide +kernel
theorem dL_law_710 : decode cL_law 710 = .ok (.aload_n 0, 1) := by decide +kernel
theorem dL_law_711 : decode cL_law 711 = .ok (.iload 4, 2) := by decide +kernel
theorem dL_law_713 : decode cL_law 713 = .ok (.iconst 3, 1) := by decide +kernel
theorem dL_law_714 : decode cL_law 714 = .ok (.iadd, 1) := by decide +kernel
theorem dL_law_715 : decode cL_law 715 = .ok (.iaload, 1) := by decide +kernel
theorem dL_law_716 : decode cL_law 716 = .ok (.aload_n 0, 1) := by decide +kernel
theorem dL_law_717 : decode cL_law 717 = .ok (.iload 4, 2) := by decide +kernel
theorem dL_law_719 : decode cL_law 719 = .ok (.iconst 4, 1) := by decide +kernel
theorem dL_law_720 : decode cL_law 720 = .ok (.iadd, 1) := by decide +kernel
theorem dL_law_721 : decode cL_law 721 = .ok (.iaload, 1) := by decide +kernel
theorem dL_law_722 : decode cL_law 722 = .ok (.aload_n 0, 1) := by decide +kernel
theorem dL_law_723 : decode cL_law 723 = .ok (.iload 4, 2) := by decide +kernel
theorem dL_law_725 : decode cL_law 725 = .ok (.iconst 5, 1) := by decide +kernel
theorem dL_law_726 : decode cL_law 726 = .ok (.iadd, 1) := by decide +kernel
theorem dL_law_727 : decode cL_law 727 = .ok (.iaload, 1) := by decide +kernel
theorem dL_law_728 : decode cL_law 728 = .ok (.aload_n 3, 1) := by decide +kernel
theorem dL_law_729 : decode cL_law 729 = .ok (.invokestatic 107, 3) := by decide +kernel
theorem dL_law_732 : decode cL_law 732 = .ok (.istore 5, 2) := by decide +kernel
theorem dL_law_734 : decode cL_law 734 = .ok (.aload_n 2, 1) := by decide +kernel
theorem dL_law_735 : decode cL_law 735 = .ok (.aload_n 0, 1) := by decide +kernel
theorem dL_law_736 : decode cL_law 736 = .ok (.iload 4, 2) := by decide +kernel
theorem dL_law_738 : decode cL_law 738 = .ok (.iconst 1, 1) := by decide +kernel
theorem dL_law_739 : decode cL_law 739 = .ok (.iadd, 1) := by decide +kernel
theorem dL_law_740 : decode cL_law 740 = .ok (.iaload, 1) := by decide +kernel
theorem dL_law_741 : decode cL_law 741 = .ok (.aload_n 0, 1) := by decide +kernel
theorem dL_law_742 : decode cL_law 742 = .ok (.iload 4, 2) := by decide +kernel
theorem dL_law_744 : decode cL_law 744 = .ok (.iconst 2, 1) := by decide +kernel
theorem dL_law_745 : decode cL_law 745 = .ok (.iadd, 1) := by decide +kernel
theorem dL_law_746 : decode cL_law 746 = .ok (.iaload, 1) := by decide +kernel
theorem dL_law_747 : decode cL_law 747 = .ok (.aload_n 0, 1) := by decide +kernel
theorem dL_law_748 : decode cL_law 748 = .ok (.iload 4, 2) := by decide +kernel
theorem dL_law_750 : decode cL_law 750 = .ok (.iconst 3, 1) := by decide +kernel
theorem dL_law_751 : decode cL_law 751 = .ok (.iadd, 1) := by decide +kernel
theorem dL_law_752 : decode cL_law 752 = .ok (.iaload, 1) := by decide +kernel
theorem dL_law_753 : decode cL_law 753 = .ok (.aload_n 0, 1) := by decide +kernel
theorem dL_law_754 : decode cL_law 754 = .ok (.iload 4, 2) := by decide +kernel
theorem dL_law_756 : decode cL_law 756 = .ok (.iconst 4, 1) := by decide +kernel
theorem dL_law_757 : decode cL_law 757 = .ok (.iadd, 1) := by decide +kernel
theorem dL_law_758 : decode cL_law 758 = .ok (.iaload, 1) := by decide +kernel
theorem dL_law_759 : decode cL_law 759 = .ok (.aload_n 0, 1) := by decide +kernel
theorem dL_law_760 : decode cL_law 760 = .ok (.iload 4, 2) := by decide +kernel
theorem dL_law_762 : decode cL_law 762 = .ok (.iconst 5, 1) := by decide +kernel
theorem dL_law_763 : decode cL_law 763 = .ok (.iadd, 1) := by decide +kernel
theorem dL_law_764 : decode cL_law 764 = .ok (.iaload, 1) := by decide +kernel
theorem dL_law_765 : decode cL_law 765 = .ok (.invokevirtual 110, 3) := by decide +kernel
theorem dL_law_768 : decode cL_law 768 = .ok (.istore 6, 2) := by decide +kernel
theorem dL_law_770 : decode cL_law 770 = .ok (.aload_n 2, 1) := by decide +kernel
theorem dL_law_771 : decode cL_law 771 = .ok (.invokevirtual 82, 3) := by decide +kernel
theorem dL_law_774 : decode cL_law 774 = .ok (.iload 5, 2) := by decide +kernel
theorem dL_law_776 : decode cL_law 776 = .ok (.if_icmp .eq 5, 3) := by decide +kernel
theorem dL_law_779 : decode cL_law 779 = .ok (.iconst 0, 1) := by decide +kernel
theorem dL_law_780 : decode cL_law 780 = .ok (.ireturn, 1) := by decide +kernel
theorem dL_law_781 : decode cL_law 781 = .ok (.iload 5, 2) := by decide +kernel
theorem dL_law_783 : decode cL_law 783 = .ok (.ifCond .ne 15, 3) := by decide +kernel
theorem dL_law_786 : decode cL_law 786 = .ok (.aload_n 3, 1) := by decide +kernel
theorem dL_law_787 : decode cL_law 787 = .ok (.iconst 0, 1) := by decide +kernel
theorem dL_law_788 : decode cL_law 788 = .ok (.laload, 1) := by decide +kernel
theorem dL_law_789 : decode cL_law 789 = .ok (.iload 6, 2) := by decide +kernel
theorem dL_law_791 : decode cL_law 791 = .ok (.i2l, 1) := by decide +kernel
theorem dL_law_792 : decode cL_law 792 = .ok (.lcmp, 1) := by decide +kernel
theorem dL_law_793 : decode cL_law 793 = .ok (.ifCond .eq 5, 3) := by decide +kernel
theorem dL_law_796 : decode cL_law 796 = .ok (.iconst 0, 1) := by decide +kernel
theorem dL_law_797 : decode cL_law 797 = .ok (.ireturn, 1) := by decide +kernel
theorem dL_law_798 : decode cL_law 798 = .ok (.goto 494, 3) := by decide +kernel
theorem dL_law_801 : decode cL_law 801 = .ok (.aload_n 1, 1) := by decide +kernel
theorem dL_law_802 : decode cL_law 802 = .ok (.aload_n 0, 1) := by decide +kernel
theorem dL_law_803 : decode cL_law 803 = .ok (.iload 4, 2) := by decide +kernel
theorem dL_law_805 : decode cL_law 805 = .ok (.iconst 1, 1) := by decide +kernel
theorem dL_law_806 : decode cL_law 806 = .ok (.iadd, 1) := by decide +kernel
theorem dL_law_807 : decode cL_law 807 = .ok (.iaload, 1) := by decide +kernel
theorem dL_law_808 : decode cL_law 808 = .ok (.aload_n 0, 1) := by decide +kernel
theorem dL_law_809 : decode cL_law 809 = .ok (.iload 4, 2) := by decide +kernel
theorem dL_law_811 : decode cL_law 811 = .ok (.iconst 2, 1) := by decide +kernel
theorem dL_law_812 : decode cL_law 812 = .ok (.iadd, 1) := by decide +kernel
theorem dL_law_813 : decode cL_law 813 = .ok (.iaload, 1) := by decide +kernel
theorem dL_law_814 : decode cL_law 814 = .ok (.aload_n 3, 1) := by decide +kernel
theorem dL_law_815 : decode cL_law 815 = .ok (.invokestatic 111, 3) := by decide +kernel
theorem dL_law_818 : decode cL_law 818 = .ok (.istore 5, 2) := by decide +kernel
theorem dL_law_820 : decode cL_law 820 = .ok (.aload_n 2, 1) := by decide +kernel
theorem dL_law_821 : decode cL_law 821 = .ok (.aload_n 0, 1) := by decide +kernel
theorem dL_law_822 : decode cL_law 822 = .ok (.iload 4, 2) := by decide +kernel
theorem dL_law_824 : decode cL_law 824 = .ok (.iconst 1, 1) := by decide +kernel
theorem dL_law_825 : decode cL_law 825 = .ok (.iadd, 1) := by decide +kernel
theorem dL_law_826 : decode cL_law 826 = .ok (.iaload, 1) := by decide +kernel
theorem dL_law_827 : decode cL_law 827 = .ok (.aload_n 0, 1) := by decide +kernel
theorem dL_law_828 : decode cL_law 828 = .ok (.iload 4, 2) := by decide +kernel
theorem dL_law_830 : decode cL_law 830 = .ok (.iconst 2, 1) := by decide +kernel
theorem dL_law_831 : decode cL_law 831 = .ok (.iadd, 1) := by decide +kernel
theorem dL_law_832 : decode cL_law 832 = .ok (.iaload, 1) := by decide +kernel
theorem dL_law_833 : decode cL_law 833 = .ok (.invokevirtual 114, 3) := by decide +kernel
theorem dL_law_836 : decode cL_law 836 = .ok (.istore 6, 2) := by decide +kernel
theorem dL_law_838 : decode cL_law 838 = .ok (.aload_n 2, 1) := by decide +kernel
theorem dL_law_839 : decode cL_law 839 = .ok (.invokevirtual 82, 3) := by decide +kernel
theorem dL_law_842 : decode cL_law 842 = .ok (.iload 5, 2) := by decide +kernel
theorem dL_law_844 : decode cL_law 844 = .ok (.if_icmp .eq 5, 3) := by decide +kernel
theorem dL_law_847 : decode cL_law 847 = .ok (.iconst 0, 1) := by decide +kernel
theorem dL_law_848 : decode cL_law 848 = .ok (.ireturn, 1) := by decide +kernel
theorem dL_law_849 : decode cL_law 849 = .ok (.iload 5, 2) := by decide +kernel
theorem dL_law_851 : decode cL_law 851 = .ok (.ifCond .ne 15, 3) := by decide +kernel
theorem dL_law_854 : decode cL_law 854 = .ok (.aload_n 3, 1) := by decide +kernel
theorem dL_law_855 : decode cL_law 855 = .ok (.iconst 0, 1) := by decide +kernel
theorem dL_law_856 : decode cL_law 856 = .ok (.laload, 1) := by decide +kernel
theorem dL_law_857 : decode cL_law 857 = .ok (.iload 6, 2) := by decide +kernel
theorem dL_law_859 : decode cL_law 859 = .ok (.i2l, 1) := by decide +kernel
theorem dL_law_860 : decode cL_law 860 = .ok (.lcmp, 1) := by decide +kernel
theorem dL_law_861 : decode cL_law 861 = .ok (.ifCond .eq 5, 3) := by decide +kernel
theorem dL_law_864 : decode cL_law 864 = .ok (.iconst 0, 1) := by decide +kernel
theorem dL_law_865 : decode cL_law 865 = .ok (.ireturn, 1) := by decide +kernel
theorem dL_law_866 : decode cL_law 866 = .ok (.goto 426, 3) := by decide +kernel
theorem dL_law_869 : decode cL_law 869 = .ok (.aload_n 1, 1) := by decide +kernel
theorem dL_law_870 : decode cL_law 870 = .ok (.aload_n 0, 1) := by decide +kernel
theorem dL_law_871 : decode cL_law 871 = .ok (.iload 4, 2) := by decide +kernel
theorem dL_law_873 : decode cL_law 873 = .ok (.iconst 1, 1) := by decide +kernel
theorem dL_law_874 : decode cL_law 874 = .ok (.iadd, 1) := by decide +kernel
theorem dL_law_875 : decode cL_law 875 = .ok (.iaload, 1) := by decide +kernel
theorem dL_law_876 : decode cL_law 876 = .ok (.aload_n 3, 1) := by decide +kernel
theorem dL_law_877 : decode cL_law 877 = .ok (.invokestatic 115, 3) := by decide +kernel
theorem dL_law_880 : decode cL_law 880 = .ok (.istore 5, 2) := by decide +kernel
theorem dL_law_882 : decode cL_law 882 = .ok (.aload_n 2, 1) := by decide +kernel
theorem dL_law_883 : decode cL_law 883 = .ok (.aload_n 0, 1) := by decide +kernel
theorem dL_law_884 : decode cL_law 884 = .ok (.iload 4, 2) := by decide +kernel
theorem dL_law_886 : decode cL_law 886 = .ok (.iconst 1, 1) := by decide +kernel
theorem dL_law_887 : decode cL_law 887 = .ok (.iadd, 1) := by decide +kernel
theorem dL_law_888 : decode cL_law 888 = .ok (.iaload, 1) := by decide +kernel
theorem dL_law_889 : decode cL_law 889 = .ok (.invokevirtual 118, 3) := by decide +kernel
theorem dL_law_892 : decode cL_law 892 = .ok (.lstore 6, 2) := by decide +kernel
theorem dL_law_894 : decode cL_law 894 = .ok (.aload_n 2, 1) := by decide +kernel
theorem dL_law_895 : decode cL_law 895 = .ok (.invokevirtual 82, 3) := by decide +kernel
theorem dL_law_898 : decode cL_law 898 = .ok (.iload 5, 2) := by decide +kernel
theorem dL_law_900 : decode cL_law 900 = .ok (.if_icmp .eq 5, 3) := by decide +kernel
theorem dL_law_903 : decode cL_law 903 = .ok (.iconst 0, 1) := by decide +kernel
theorem dL_law_904 : decode cL_law 904 = .ok (.ireturn, 1) := by decide +kernel
theorem dL_law_905 : decode cL_law 905 = .ok (.iload 5, 2) := by decide +kernel
theorem dL_law_907 : decode cL_law 907 = .ok (.ifCond .ne 14, 3) := by decide +kernel
theorem dL_law_910 : decode cL_law 910 = .ok (.aload_n 3, 1) := by decide +kernel
theorem dL_law_911 : decode cL_law 911 = .ok (.iconst 0, 1) := by decide +kernel
theorem dL_law_912 : decode cL_law 912 = .ok (.laload, 1) := by decide +kernel
theorem dL_law_913 : decode cL_law 913 = .ok (.lload 6, 2) := by decide +kernel
theorem dL_law_915 : decode cL_law 915 = .ok (.lcmp, 1) := by decide +kernel
theorem dL_law_916 : decode cL_law 916 = .ok (.ifCond .eq 5, 3) := by decide +kernel
theorem dL_law_919 : decode cL_law 919 = .ok (.iconst 0, 1) := by decide +kernel
theorem dL_law_920 : decode cL_law 920 = .ok (.ireturn, 1) := by decide +kernel
theorem dL_law_921 : decode cL_law 921 = .ok (.goto 371, 3) := by decide +kernel
theorem dL_law_924 : decode cL_law 924 = .ok (.aload_n 1, 1) := by decide +kernel
theorem dL_law_925 : decode cL_law 925 = .ok (.aload_n 0, 1) := by decide +kernel
theorem dL_law_926 : decode cL_law 926 = .ok (.iload 4, 2) := by decide +kernel
theorem dL_law_928 : decode cL_law 928 = .ok (.iconst 1, 1) := by decide +kernel
theorem dL_law_929 : decode cL_law 929 = .ok (.iadd, 1) := by decide +kernel
theorem dL_law_930 : decode cL_law 930 = .ok (.iaload, 1) := by decide +kernel
theorem dL_law_931 : decode cL_law 931 = .ok (.aload_n 3, 1) := by decide +kernel
theorem dL_law_932 : decode cL_law 932 = .ok (.invokestatic 119, 3) := by decide +kernel
theorem dL_law_935 : decode cL_law 935 = .ok (.istore 5, 2) := by decide +kernel
theorem dL_law_937 : decode cL_law 937 = .ok (.aload_n 2, 1) := by decide +kernel
theorem dL_law_938 : decode cL_law 938 = .ok (.aload_n 0, 1) := by decide +kernel
theorem dL_law_939 : decode cL_law 939 = .ok (.iload 4, 2) := by decide +kernel
theorem dL_law_941 : decode cL_law 941 = .ok (.iconst 1, 1) := by decide +kernel
theorem dL_law_942 : decode cL_law 942 = .ok (.iadd, 1) := by decide +kernel
theorem dL_law_943 : decode cL_law 943 = .ok (.iaload, 1) := by decide +kernel
theorem dL_law_944 : decode cL_law 944 = .ok (.invokevirtual 121, 3) := by decide +kernel
theorem dL_law_947 : decode cL_law 947 = .ok (.lstore 6, 2) := by decide +kernel
theorem dL_law_949 : decode cL_law 949 = .ok (.aload_n 2, 1) := by decide +kernel
theorem dL_law_950 : decode cL_law 950 = .ok (.invokevirtual 82, 3) := by decide +kernel
theorem dL_law_953 : decode cL_law 953 = .ok (.iload 5, 2) := by decide +kernel
theorem dL_law_955 : decode cL_law 955 = .ok (.if_icmp .eq 5, 3) := by decide +kernel
theorem dL_law_958 : decode cL_law 958 = .ok (.iconst 0, 1) := by decide +kernel
theorem dL_law_959 : decode cL_law 959 = .ok (.ireturn, 1) := by decide +kernel
theorem dL_law_960 : decode cL_law 960 = .ok (.iload 5, 2) := by decide +kernel
theorem dL_law_962 : decode cL_law 962 = .ok (.ifCond .ne 14, 3) := by decide +kernel
theorem dL_law_965 : decode cL_law 965 = .ok (.aload_n 3, 1) := by decide +kernel
theorem dL_law_966 : decode cL_law 966 = .ok (.iconst 0, 1) := by decide +kernel
theorem dL_law_967 : decode cL_law 967 = .ok (.laload, 1) := by decide +kernel
theorem dL_law_968 : decode cL_law 968 = .ok (.lload 6, 2) := by decide +kernel
theorem dL_law_970 : decode cL_law 970 = .ok (.lcmp, 1) := by decide +kernel
theorem dL_law_971 : decode cL_law 971 = .ok (.ifCond .eq 5, 3) := by decide +kernel
theorem dL_law_974 : decode cL_law 974 = .ok (.iconst 0, 1) := by decide +kernel
theorem dL_law_975 : decode cL_law 975 = .ok (.ireturn, 1) := by decide +kernel
theorem dL_law_976 : decode cL_law 976 = .ok (.goto 316, 3) := by decide +kernel
theorem dL_law_979 : decode cL_law 979 = .ok (.aload_n 1, 1) := by decide +kernel
theorem dL_law_980 : decode cL_law 980 = .ok (.invokevirtual 122, 3) := by decide +kernel
theorem dL_law_983 : decode cL_law 983 = .ok (.aload_n 2, 1) := by decide +kernel
theorem dL_law_984 : decode cL_law 984 = .ok (.invokevirtual 125, 3) := by decide +kernel
theorem dL_law_987 : decode cL_law 987 = .ok (.if_icmp .eq 305, 3) := by decide +kernel
theorem dL_law_990 : decode cL_law 990 = .ok (.iconst 0, 1) := by decide +kernel
theorem dL_law_991 : decode cL_law 991 = .ok (.ireturn, 1) := by decide +kernel
theorem dL_law_992 : decode cL_law 992 = .ok (.aload_n 1, 1) := by decide +kernel
theorem dL_law_993 : decode cL_law 993 = .ok (.aload_n 0, 1) := by decide +kernel
theorem dL_law_994 : decode cL_law 994 = .ok (.iload 4, 2) := by decide +kernel
theorem dL_law_996 : decode cL_law 996 = .ok (.iconst 1, 1) := by decide +kernel
theorem dL_law_997 : decode cL_law 997 = .ok (.iadd, 1) := by decide +kernel
theorem dL_law_998 : decode cL_law 998 = .ok (.iaload, 1) := by decide +kernel
theorem dL_law_999 : decode cL_law 999 = .ok (.aload_n 3, 1) := by decide +kernel
theorem dL_law_1000 : decode cL_law 1000 = .ok (.invokestatic 126, 3) := by decide +kernel
theorem dL_law_1003 : decode cL_law 1003 = .ok (.istore 5, 2) := by decide +kernel
theorem dL_law_1005 : decode cL_law 1005 = .ok (.aload_n 2, 1) := by decide +kernel
theorem dL_law_1006 : decode cL_law 1006 = .ok (.aload_n 0, 1) := by decide +kernel
theorem dL_law_1007 : decode cL_law 1007 = .ok (.iload 4, 2) := by decide +kernel
theorem dL_law_1009 : decode cL_law 1009 = .ok (.iconst 1, 1) := by decide +kernel
theorem dL_law_1010 : decode cL_law 1010 = .ok (.iadd, 1) := by decide +kernel
theorem dL_law_1011 : decode cL_law 1011 = .ok (.iaload, 1) := by decide +kernel
theorem dL_law_1012 : decode cL_law 1012 = .ok (.invokevirtual 128, 3) := by decide +kernel
theorem dL_law_1015 : decode cL_law 1015 = .ok (.lstore 6, 2) := by decide +kernel
theorem dL_law_1017 : decode cL_law 1017 = .ok (.aload_n 2, 1) := by decide +kernel
theorem dL_law_1018 : decode cL_law 1018 = .ok (.invokevirtual 82, 3) := by decide +kernel
theorem dL_law_1021 : decode cL_law 1021 = .ok (.iload 5, 2) := by decide +kernel
theorem dL_law_1023 : decode cL_law 1023 = .ok (.if_icmp .eq 5, 3) := by decide +kernel
theorem dL_law_1026 : decode cL_law 1026 = .ok (.iconst 0, 1) := by decide +kernel
theorem dL_law_1027 : decode cL_law 1027 = .ok (.ireturn, 1) := by decide +kernel
theorem dL_law_1028 : decode cL_law 1028 = .ok (.iload 5, 2) := by decide +kernel
theorem dL_law_1030 : decode cL_law 1030 = .ok (.ifCond .ne 14, 3) := by decide +kernel
theorem dL_law_1033 : decode cL_law 1033 = .ok (.aload_n 3, 1) := by decide +kernel
theorem dL_law_1034 : decode cL_law 1034 = .ok (.iconst 0, 1) := by decide +kernel
theorem dL_law_1035 : decode cL_law 1035 = .ok (.laload, 1) := by decide +kernel
theorem dL_law_1036 : decode cL_law 1036 = .ok (.lload 6, 2) := by decide +kernel
theorem dL_law_1038 : decode cL_law 1038 = .ok (.lcmp, 1) := by decide +kernel
theorem dL_law_1039 : decode cL_law 1039 = .ok (.ifCond .eq 5, 3) := by decide +kernel
theorem dL_law_1042 : decode cL_law 1042 = .ok (.iconst 0, 1) := by decide +kernel
theorem dL_law_1043 : decode cL_law 1043 = .ok (.ireturn, 1) := by decide +kernel
theorem dL_law_1044 : decode cL_law 1044 = .ok (.goto 248, 3) := by decide +kernel
theorem dL_law_1047 : decode cL_law 1047 = .ok (.aload_n 1, 1) := by decide +kernel
theorem dL_law_1048 : decode cL_law 1048 = .ok (.aload_n 0, 1) := by decide +kernel
theorem dL_law_1049 : decode cL_law 1049 = .ok (.iload 4, 2) := by decide +kernel
theorem dL_law_1051 : decode cL_law 1051 = .ok (.iconst 1, 1) := by decide +kernel
theorem dL_law_1052 : decode cL_law 1052 = .ok (.iadd, 1) := by decide +kernel
theorem dL_law_1053 : decode cL_law 1053 = .ok (.iaload, 1) := by decide +kernel
theorem dL_law_1054 : decode cL_law 1054 = .ok (.aload_n 0, 1) := by decide +kernel
theorem dL_law_1055 : decode cL_law 1055 = .ok (.iload 4, 2) := by decide +kernel
theorem dL_law_1057 : decode cL_law 1057 = .ok (.iconst 2, 1) := by decide +kernel
theorem dL_law_1058 : decode cL_law 1058 = .ok (.iadd, 1) := by decide +kernel
theorem dL_law_1059 : decode cL_law 1059 = .ok (.iaload, 1) := by decide +kernel
theorem dL_law_1060 : decode cL_law 1060 = .ok (.aload_n 3, 1) := by decide +kernel
theorem dL_law_1061 : decode cL_law 1061 = .ok (.invokestatic 129, 3) := by decide +kernel
theorem dL_law_1064 : decode cL_law 1064 = .ok (.istore 5, 2) := by decide +kernel
theorem dL_law_1066 : decode cL_law 1066 = .ok (.aload_n 2, 1) := by decide +kernel
theorem dL_law_1067 : decode cL_law 1067 = .ok (.aload_n 0, 1) := by decide +kernel
theorem dL_law_1068 : decode cL_law 1068 = .ok (.iload 4, 2) := by decide +kernel
theorem dL_law_1070 : decode cL_law 1070 = .ok (.iconst 1, 1) := by decide +kernel
theorem dL_law_1071 : decode cL_law 1071 = .ok (.iadd, 1) := by decide +kernel
theorem dL_law_1072 : decode cL_law 1072 = .ok (.iaload, 1) := by decide +kernel
theorem dL_law_1073 : decode cL_law 1073 = .ok (.aload_n 0, 1) := by decide +kernel
theorem dL_law_1074 : decode cL_law 1074 = .ok (.iload 4, 2) := by decide +kernel
theorem dL_law_1076 : decode cL_law 1076 = .ok (.iconst 2, 1) := by decide +kernel
theorem dL_law_1077 : decode cL_law 1077 = .ok (.iadd, 1) := by decide +kernel
theorem dL_law_1078 : decode cL_law 1078 = .ok (.iaload, 1) := by decide +kernel
theorem dL_law_1079 : decode cL_law 1079 = .ok (.invokevirtual 131, 3) := by decide +kernel
theorem dL_law_1082 : decode cL_law 1082 = .ok (.lstore 6, 2) := by decide +kernel
theorem dL_law_1084 : decode cL_law 1084 = .ok (.aload_n 2, 1) := by decide +kernel
theorem dL_law_1085 : decode cL_law 1085 = .ok (.invokevirtual 82, 3) := by decide +kernel
theorem dL_law_1088 : decode cL_law 1088 = .ok (.iload 5, 2) := by decide +kernel
theorem dL_law_1090 : decode cL_law 1090 = .ok (.if_icmp .eq 5, 3) := by decide +kernel
theorem dL_law_1093 : decode cL_law 1093 = .ok (.iconst 0, 1) := by decide +kernel
theorem dL_law_1094 : decode cL_law 1094 = .ok (.ireturn, 1) := by decide +kernel
theorem dL_law_1095 : decode cL_law 1095 = .ok (.iload 5, 2) := by decide +kernel
theorem dL_law_1097 : decode cL_law 1097 = .ok (.ifCond .ne 14, 3) := by decide +kernel
theorem dL_law_1100 : decode cL_law 1100 = .ok (.aload_n 3, 1) := by decide +kernel
theorem dL_law_1101 : decode cL_law 1101 = .ok (.iconst 0, 1) := by decide +kernel
theorem dL_law_1102 : decode cL_law 1102 = .ok (.laload, 1) := by decide +kernel
theorem dL_law_1103 : decode cL_law 1103 = .ok (.lload 6, 2) := by decide +kernel
theorem dL_law_1105 : decode cL_law 1105 = .ok (.lcmp, 1) := by decide +kernel
theorem dL_law_1106 : decode cL_law 1106 = .ok (.ifCond .eq 5, 3) := by decide +kernel
theorem dL_law_1109 : decode cL_law 1109 = .ok (.iconst 0, 1) := by decide +kernel
theorem dL_law_1110 : decode cL_law 1110 = .ok (.ireturn, 1) := by decide +kernel
theorem dL_law_1111 : decode cL_law 1111 = .ok (.goto 181, 3) := by decide +kernel
theorem dL_law_1114 : decode cL_law 1114 = .ok (.aload_n 1, 1) := by decide +kernel
theorem dL_law_1115 : decode cL_law 1115 = .ok (.aload_n 0, 1) := by decide +kernel
theorem dL_law_1116 : decode cL_law 1116 = .ok (.iload 4, 2) := by decide +kernel
theorem dL_law_1118 : decode cL_law 1118 = .ok (.iconst 1, 1) := by decide +kernel
theorem dL_law_1119 : decode cL_law 1119 = .ok (.iadd, 1) := by decide +kernel
theorem dL_law_1120 : decode cL_law 1120 = .ok (.iaload, 1) := by decide +kernel
theorem dL_law_1121 : decode cL_law 1121 = .ok (.aload_n 0, 1) := by decide +kernel
theorem dL_law_1122 : decode cL_law 1122 = .ok (.iload 4, 2) := by decide +kernel
theorem dL_law_1124 : decode cL_law 1124 = .ok (.iconst 2, 1) := by decide +kernel
theorem dL_law_1125 : decode cL_law 1125 = .ok (.iadd, 1) := by decide +kernel
theorem dL_law_1126 : decode cL_law 1126 = .ok (.iaload, 1) := by decide +kernel
theorem dL_law_1127 : decode cL_law 1127 = .ok (.aload_n 3, 1) := by decide +kernel
theorem dL_law_1128 : decode cL_law 1128 = .ok (.invokestatic 132, 3) := by decide +kernel
theorem dL_law_1131 : decode cL_law 1131 = .ok (.istore 5, 2) := by decide +kernel
theorem dL_law_1133 : decode cL_law 1133 = .ok (.aload_n 2, 1) := by decide +kernel
theorem dL_law_1134 : decode cL_law 1134 = .ok (.aload_n 0, 1) := by decide +kernel
theorem dL_law_1135 : decode cL_law 1135 = .ok (.iload 4, 2) := by decide +kernel
theorem dL_law_1137 : decode cL_law 1137 = .ok (.iconst 1, 1) := by decide +kernel
theorem dL_law_1138 : decode cL_law 1138 = .ok (.iadd, 1) := by decide +kernel
theorem dL_law_1139 : decode cL_law 1139 = .ok (.iaload, 1) := by decide +kernel
theorem dL_law_1140 : decode cL_law 1140 = .ok (.aload_n 0, 1) := by decide +kernel
theorem dL_law_1141 : decode cL_law 1141 = .ok (.iload 4, 2) := by decide +kernel
theorem dL_law_1143 : decode cL_law 1143 = .ok (.iconst 2, 1) := by decide +kernel
theorem dL_law_1144 : decode cL_law 1144 = .ok (.iadd, 1) := by decide +kernel
theorem dL_law_1145 : decode cL_law 1145 = .ok (.iaload, 1) := by decide +kernel
theorem dL_law_1146 : decode cL_law 1146 = .ok (.invokevirtual 134, 3) := by decide +kernel
theorem dL_law_1149 : decode cL_law 1149 = .ok (.istore 6, 2) := by decide +kernel
theorem dL_law_1151 : decode cL_law 1151 = .ok (.aload_n 2, 1) := by decide +kernel
theorem dL_law_1152 : decode cL_law 1152 = .ok (.invokevirtual 82, 3) := by decide +kernel
theorem dL_law_1155 : decode cL_law 1155 = .ok (.iload 5, 2) := by decide +kernel
theorem dL_law_1157 : decode cL_law 1157 = .ok (.if_icmp .eq 5, 3) := by decide +kernel
theorem dL_law_1160 : decode cL_law 1160 = .ok (.iconst 0, 1) := by decide +kernel
theorem dL_law_1161 : decode cL_law 1161 = .ok (.ireturn, 1) := by decide +kernel
theorem dL_law_1162 : decode cL_law 1162 = .ok (.iload 5, 2) := by decide +kernel
theorem dL_law_1164 : decode cL_law 1164 = .ok (.ifCond .ne 15, 3) := by decide +kernel
theorem dL_law_1167 : decode cL_law 1167 = .ok (.aload_n 3, 1) := by decide +kernel
theorem dL_law_1168 : decode cL_law 1168 = .ok (.iconst 0, 1) := by decide +kernel
theorem dL_law_1169 : decode cL_law 1169 = .ok (.laload, 1) := by decide +kernel
theorem dL_law_1170 : decode cL_law 1170 = .ok (.iload 6, 2) := by decide +kernel
theorem dL_law_1172 : decode cL_law 1172 = .ok (.i2l, 1) := by decide +kernel
theorem dL_law_1173 : decode cL_law 1173 = .ok (.lcmp, 1) := by decide +kernel
theorem dL_law_1174 : decode cL_law 1174 = .ok (.ifCond .eq 5, 3) := by decide +kernel
theorem dL_law_1177 : decode cL_law 1177 = .ok (.iconst 0, 1) := by decide +kernel
theorem dL_law_1178 : decode cL_law 1178 = .ok (.ireturn, 1) := by decide +kernel
theorem dL_law_1179 : decode cL_law 1179 = .ok (.goto 113, 3) := by decide +kernel
theorem dL_law_1182 : decode cL_law 1182 = .ok (.aload_n 1, 1) := by decide +kernel
theorem dL_law_1183 : decode cL_law 1183 = .ok (.aload_n 0, 1) := by decide +kernel
theorem dL_law_1184 : decode cL_law 1184 = .ok (.iload 4, 2) := by decide +kernel
theorem dL_law_1186 : decode cL_law 1186 = .ok (.iconst 1, 1) := by decide +kernel
theorem dL_law_1187 : decode cL_law 1187 = .ok (.iadd, 1) := by decide +kernel
theorem dL_law_1188 : decode cL_law 1188 = .ok (.iaload, 1) := by decide +kernel
theorem dL_law_1189 : decode cL_law 1189 = .ok (.aload_n 3, 1) := by decide +kernel
theorem dL_law_1190 : decode cL_law 1190 = .ok (.invokestatic 135, 3) := by decide +kernel
theorem dL_law_1193 : decode cL_law 1193 = .ok (.istore 5, 2) := by decide +kernel
theorem dL_law_1195 : decode cL_law 1195 = .ok (.aload_n 2, 1) := by decide +kernel
theorem dL_law_1196 : decode cL_law 1196 = .ok (.aload_n 0, 1) := by decide +kernel
theorem dL_law_1197 : decode cL_law 1197 = .ok (.iload 4, 2) := by decide +kernel
theorem dL_law_1199 : decode cL_law 1199 = .ok (.iconst 1, 1) := by decide +kernel
theorem dL_law_1200 : decode cL_law 1200 = .ok (.iadd, 1) := by decide +kernel
theorem dL_law_1201 : decode cL_law 1201 = .ok (.iaload, 1) := by decide +kernel
theorem dL_law_1202 : decode cL_law 1202 = .ok (.invokevirtual 137, 3) := by decide +kernel
theorem dL_law_1205 : decode cL_law 1205 = .ok (.lstore 6, 2) := by decide +kernel
theorem dL_law_1207 : decode cL_law 1207 = .ok (.aload_n 2, 1) := by decide +kernel
theorem dL_law_1208 : decode cL_law 1208 = .ok (.invokevirtual 82, 3) := by decide +kernel
theorem dL_law_1211 : decode cL_law 1211 = .ok (.iload 5, 2) := by decide +kernel
theorem dL_law_1213 : decode cL_law 1213 = .ok (.if_icmp .eq 5, 3) := by decide +kernel
theorem dL_law_1216 : decode cL_law 1216 = .ok (.iconst 0, 1) := by decide +kernel
theorem dL_law_1217 : decode cL_law 1217 = .ok (.ireturn, 1) := by decide +kernel
theorem dL_law_1218 : decode cL_law 1218 = .ok (.iload 5, 2) := by decide +kernel
theorem dL_law_1220 : decode cL_law 1220 = .ok (.ifCond .ne 14, 3) := by decide +kernel
theorem dL_law_1223 : decode cL_law 1223 = .ok (.aload_n 3, 1) := by decide +kernel
theorem dL_law_1224 : decode cL_law 1224 = .ok (.iconst 0, 1) := by decide +kernel
theorem dL_law_1225 : decode cL_law 1225 = .ok (.laload, 1) := by decide +kernel
theorem dL_law_1226 : decode cL_law 1226 = .ok (.lload 6, 2) := by decide +kernel
theorem dL_law_1228 : decode cL_law 1228 = .ok (.lcmp, 1) := by decide +kernel
theorem dL_law_1229 : decode cL_law 1229 = .ok (.ifCond .eq 5, 3) := by decide +kernel
theorem dL_law_1232 : decode cL_law 1232 = .ok (.iconst 0, 1) := by decide +kernel
theorem dL_law_1233 : decode cL_law 1233 = .ok (.ireturn, 1) := by decide +kernel
theorem dL_law_1234 : decode cL_law 1234 = .ok (.goto 58, 3) := by decide +kernel
theorem dL_law_1237 : decode cL_law 1237 = .ok (.aload_n 1, 1) := by decide +kernel
theorem dL_law_1238 : decode cL_law 1238 = .ok (.aload_n 0, 1) := by decide +kernel
theorem dL_law_1239 : decode cL_law 1239 = .ok (.iload 4, 2) := by decide +kernel
theorem dL_law_1241 : decode cL_law 1241 = .ok (.iconst 1, 1) := by decide +kernel
theorem dL_law_1242 : decode cL_law 1242 = .ok (.iadd, 1) := by decide +kernel
theorem dL_law_1243 : decode cL_law 1243 = .ok (.iaload, 1) := by decide +kernel
theorem dL_law_1244 : decode cL_law 1244 = .ok (.aload_n 3, 1) := by decide +kernel
theorem dL_law_1245 : decode cL_law 1245 = .ok (.invokestatic 138, 3) := by decide +kernel
theorem dL_law_1248 : decode cL_law 1248 = .ok (.istore 5, 2) := by decide +kernel
theorem dL_law_1250 : decode cL_law 1250 = .ok (.aload_n 2, 1) := by decide +kernel
theorem dL_law_1251 : decode cL_law 1251 = .ok (.aload_n 0, 1) := by decide +kernel
theorem dL_law_1252 : decode cL_law 1252 = .ok (.iload 4, 2) := by decide +kernel
theorem dL_law_1254 : decode cL_law 1254 = .ok (.iconst 1, 1) := by decide +kernel
theorem dL_law_1255 : decode cL_law 1255 = .ok (.iadd, 1) := by decide +kernel
theorem dL_law_1256 : decode cL_law 1256 = .ok (.iaload, 1) := by decide +kernel
theorem dL_law_1257 : decode cL_law 1257 = .ok (.invokevirtual 140, 3) := by decide +kernel
theorem dL_law_1260 : decode cL_law 1260 = .ok (.lstore 6, 2) := by decide +kernel
theorem dL_law_1262 : decode cL_law 1262 = .ok (.aload_n 2, 1) := by decide +kernel
theorem dL_law_1263 : decode cL_law 1263 = .ok (.invokevirtual 82, 3) := by decide +kernel
theorem dL_law_1266 : decode cL_law 1266 = .ok (.iload 5, 2) := by decide +kernel
theorem dL_law_1268 : decode cL_law 1268 = .ok (.if_icmp .eq 5, 3) := by decide +kernel
theorem dL_law_1271 : decode cL_law 1271 = .ok (.iconst 0, 1) := by decide +kernel
theorem dL_law_1272 : decode cL_law 1272 = .ok (.ireturn, 1) := by decide +kernel
theorem dL_law_1273 : decode cL_law 1273 = .ok (.iload 5, 2) := by decide +kernel
theorem dL_law_1275 : decode cL_law 1275 = .ok (.ifCond .ne 14, 3) := by decide +kernel
theorem dL_law_1278 : decode cL_law 1278 = .ok (.aload_n 3, 1) := by decide +kernel
theorem dL_law_1279 : decode cL_law 1279 = .ok (.iconst 0, 1) := by decide +kernel
theorem dL_law_1280 : decode cL_law 1280 = .ok (.laload, 1) := by decide +kernel
theorem dL_law_1281 : decode cL_law 1281 = .ok (.lload 6, 2) := by decide +kernel
theorem dL_law_1283 : decode cL_law 1283 = .ok (.lcmp, 1) := by decide +kernel
theorem dL_law_1284 : decode cL_law 1284 = .ok (.ifCond .eq 5, 3) := by decide +kernel
theorem dL_law_1287 : decode cL_law 1287 = .ok (.iconst 0, 1) := by decide +kernel
theorem dL_law_1288 : decode cL_law 1288 = .ok (.ireturn, 1) := by decide +kernel
theorem dL_law_1289 : decode cL_law 1289 = .ok (.goto 3, 3) := by decide +kernel
theorem dL_law_1292 : decode cL_law 1292 = .ok (.iinc 4 6, 3) := by decide +kernel
theorem dL_law_1295 : decode cL_law 1295 = .ok (.goto (-1272), 3) := by decide +kernel
theorem dL_law_1298 : decode cL_law 1298 = .ok (.iconst 1, 1) := by decide +kernel
theorem dL_law_1299 : decode cL_law 1299 = .ok (.ireturn, 1) := by decide +kernel
end
section
/-! THE WORDS OF THE TABLES that stay over a call, and each of them by its place. -/
def nd_ : List Cond := lw_tbl.filter goodWord
theorem nw_0 : Jvm.Cond.initialized "MarginHouseLaw" ∈ nd_ := List.mem_filter.mpr ⟨List.mem_append_right _ (List.mem_of_getElem? (i := 0) (by decide +kernel)), by decide +kernel⟩
theorem nw_1 : Jvm.Cond.initialized "MarginHouse" ∈ nd_ := List.mem_filter.mpr ⟨List.mem_append_right _ (List.mem_of_getElem? (i := 1) (by decide +kernel)), by decide +kernel⟩
theorem nw_2 : Jvm.Cond.initialized "MarginHouse$Plan" ∈ nd_ := List.mem_filter.mpr ⟨List.mem_append_right _ (List.mem_of_getElem? (i := 2) (by decide +kernel)), by decide +kernel⟩
theorem nw_3 : Jvm.Cond.initialized "MarginHouse$Shares" ∈ nd_ := List.mem_filter.mpr ⟨List.mem_append_right _ (List.mem_of_getElem? (i := 3) (by decide +kernel)), by decide +kernel⟩
theorem nw_4 : Jvm.Cond.initialized "MarginHouse$Member" ∈ nd_ := List.mem_filter.mpr ⟨List.mem_append_right _ (List.mem_of_getElem? (i := 4) (by decide +kernel)), by decide +kernel⟩
theorem nw_5 : Jvm.Cond.initialized "MarginHouse$Instrument" ∈ nd_ := List.mem_filter.mpr ⟨List.mem_append_right _ (List.mem_of_getElem? (i := 5) (by decide +kernel)), by decide +kernel⟩
theorem nw_6 : Jvm.Cond.initialized "MarginHouseModel" ∈ nd_ := List.mem_filter.mpr ⟨List.mem_append_right _ (List.mem_of_getElem? (i := 6) (by decide +kernel)), by decide +kernel⟩
theorem nw_7 : Jvm.Cond.initialized "java/lang/Throwable" ∈ nd_ := List.mem_filter.mpr ⟨List.mem_append_right _ (List.mem_of_getElem? (i := 7) (by decide +kernel)), by decide +kernel⟩
theorem nw_8 : Jvm.Cond.initialized "java/lang/Exception" ∈ nd_ := List.mem_filter.mpr ⟨List.mem_append_right _ (List.mem_of_getElem? (i := 8) (by decide +kernel)), by decide +kernel⟩
theorem nw_9 : Jvm.Cond.initialized "java/lang/RuntimeException" ∈ nd_ := List.mem_filter.mpr ⟨List.mem_append_right _ (List.mem_of_getElem? (i := 9) (by decide +kernel)), by decide +kernel⟩
theorem nw_10 : Jvm.Cond.initialized "java/lang/IllegalArgumentException" ∈ nd_ := List.mem_filter.mpr ⟨List.mem_append_right _ (List.mem_of_getElem? (i := 10) (by decide +kernel)), by decide +kernel⟩
theorem nw_11 : Jvm.Cond.initialized "java/lang/IllegalStateException" ∈ nd_ := List.mem_filter.mpr ⟨List.mem_append_right _ (List.mem_of_getElem? (i := 11) (by decide +kernel)), by decide +kernel⟩
theorem nw_12 : Jvm.Cond.initialized "java/lang/Math" ∈ nd_ := List.mem_filter.mpr ⟨List.mem_append_right _ (List.mem_of_getElem? (i := 12) (by decide +kernel)), by decide +kernel⟩
theorem nw_13 : Jvm.Cond.classLink "MarginHouseLaw" (8 : Nat) "MarginHouse" ∈ nd_ := List.mem_filter.mpr ⟨List.mem_append_right _ (List.mem_of_getElem? (i := 13) (by decide +kernel)), by decide +kernel⟩
theorem nw_14 : Jvm.Cond.instantiable "MarginHouse" (10 : Nat) ∈ nd_ := List.mem_filter.mpr ⟨List.mem_append_right _ (List.mem_of_getElem? (i := 14) (by decide +kernel)), by decide +kernel⟩
theorem nw_15 : Jvm.Cond.methodLink "MarginHouseLaw" (70 : Nat) ({ cls := "MarginHouse", name := "<init>", desc := "()V" } : Jvm.MethodName) ∈ nd_ := List.mem_filter.mpr ⟨List.mem_append_right _ (List.mem_of_getElem? (i := 15) (by decide +kernel)), by decide +kernel⟩
theorem nw_16 : Jvm.Cond.instanceMethod ({ cls := "MarginHouse", name := "<init>", desc := "()V" } : Jvm.MethodName) ∈ nd_ := List.mem_filter.mpr ⟨List.mem_append_right _ (List.mem_of_getElem? (i := 16) (by decide +kernel)), by decide +kernel⟩
theorem nw_17 : Jvm.Cond.code ({ cls := "MarginHouse", name := "<init>", desc := "()V" } : Jvm.MethodName) prog_1_method_1_code (2 : Nat) (Option.none : Option Jvm.ClassFile.FieldType) ∈ nd_ := List.mem_filter.mpr ⟨List.mem_append_right _ (List.mem_of_getElem? (i := 17) (by decide +kernel)), by decide +kernel⟩
theorem nw_18 : Jvm.Cond.methodLink "MarginHouse" (1 : Nat) ({ cls := "java/lang/Object", name := "<init>", desc := "()V" } : Jvm.MethodName) ∈ nd_ := List.mem_filter.mpr ⟨List.mem_append_right _ (List.mem_of_getElem? (i := 18) (by decide +kernel)), by decide +kernel⟩
theorem nw_19 : Jvm.Cond.instanceMethod ({ cls := "java/lang/Object", name := "<init>", desc := "()V" } : Jvm.MethodName) ∈ nd_ := List.mem_filter.mpr ⟨List.mem_append_right _ (List.mem_of_getElem? (i := 19) (by decide +kernel)), by decide +kernel⟩
theorem nw_20 : Jvm.Cond.code ({ cls := "java/lang/Object", name := "<init>", desc := "()V" } : Jvm.MethodName) object_method_1_code (1 : Nat) (Option.none : Option Jvm.ClassFile.FieldType) ∈ nd_ := List.mem_filter.mpr ⟨List.mem_append_right _ (List.mem_of_getElem? (i := 20) (by decide +kernel)), by decide +kernel⟩
theorem nw_21 : Jvm.Cond.classLink "MarginHouse" (9 : Nat) "MarginHouse$Member" ∈ nd_ := List.mem_filter.mpr ⟨List.mem_append_right _ (List.mem_of_getElem? (i := 21) (by decide +kernel)), by decide +kernel⟩
theorem nw_22 : Jvm.Cond.classLink "MarginHouse" (15 : Nat) "MarginHouse$Instrument" ∈ nd_ := List.mem_filter.mpr ⟨List.mem_append_right _ (List.mem_of_getElem? (i := 23) (by decide +kernel)), by decide +kernel⟩
theorem nw_23 : Jvm.Cond.classLink "MarginHouse" (21 : Nat) "[[I" ∈ nd_ := List.mem_filter.mpr ⟨List.mem_append_right _ (List.mem_of_getElem? (i := 25) (by decide +kernel)), by decide +kernel⟩
theorem nw_24 : Jvm.Cond.classLink "MarginHouse" (30 : Nat) "MarginHouse$Plan" ∈ nd_ := List.mem_filter.mpr ⟨List.mem_append_right _ (List.mem_of_getElem? (i := 27) (by decide +kernel)), by decide +kernel⟩
theorem nw_25 : Jvm.Cond.instantiable "MarginHouse$Plan" (7 : Nat) ∈ nd_ := List.mem_filter.mpr ⟨List.mem_append_right _ (List.mem_of_getElem? (i := 28) (by decide +kernel)), by decide +kernel⟩
theorem nw_26 : Jvm.Cond.instanceMethod ({ cls := "MarginHouse$Plan", name := "<init>", desc := "()V" } : Jvm.MethodName) ∈ nd_ := List.mem_filter.mpr ⟨List.mem_append_right _ (List.mem_of_getElem? (i := 30) (by decide +kernel)), by decide +kernel⟩
theorem nw_27 : Jvm.Cond.code ({ cls := "MarginHouse$Plan", name := "<init>", desc := "()V" } : Jvm.MethodName) prog_4_method_1_code (1 : Nat) (Option.none : Option Jvm.ClassFile.FieldType) ∈ nd_ := List.mem_filter.mpr ⟨List.mem_append_right _ (List.mem_of_getElem? (i := 31) (by decide +kernel)), by decide +kernel⟩
theorem nw_28 : Jvm.Cond.methodLink "MarginHouse$Plan" (3 : Nat) ({ cls := "java/lang/Object", name := "<init>", desc := "()V" } : Jvm.MethodName) ∈ nd_ := List.mem_filter.mpr ⟨List.mem_append_right _ (List.mem_of_getElem? (i := 32) (by decide +kernel)), by decide +kernel⟩
theorem nw_29 : Jvm.Cond.classLink "MarginHouse$Plan" (25 : Nat) "MarginHouse$Shares" ∈ nd_ := List.mem_filter.mpr ⟨List.mem_append_right _ (List.mem_of_getElem? (i := 33) (by decide +kernel)), by decide +kernel⟩
theorem nw_30 : Jvm.Cond.instantiable "MarginHouse$Shares" (3 : Nat) ∈ nd_ := List.mem_filter.mpr ⟨List.mem_append_right _ (List.mem_of_getElem? (i := 34) (by decide +kernel)), by decide +kernel⟩
theorem nw_31 : Jvm.Cond.instanceMethod ({ cls := "MarginHouse$Shares", name := "<init>", desc := "()V" } : Jvm.MethodName) ∈ nd_ := List.mem_filter.mpr ⟨List.mem_append_right _ (List.mem_of_getElem? (i := 36) (by decide +kernel)), by decide +kernel⟩
theorem nw_32 : Jvm.Cond.code ({ cls := "MarginHouse$Shares", name := "<init>", desc := "()V" } : Jvm.MethodName) prog_5_method_1_code (1 : Nat) (Option.none : Option Jvm.ClassFile.FieldType) ∈ nd_ := List.mem_filter.mpr ⟨List.mem_append_right _ (List.mem_of_getElem? (i := 37) (by decide +kernel)), by decide +kernel⟩
theorem nw_33 : Jvm.Cond.methodLink "MarginHouse$Shares" (3 : Nat) ({ cls := "java/lang/Object", name := "<init>", desc := "()V" } : Jvm.MethodName) ∈ nd_ := List.mem_filter.mpr ⟨List.mem_append_right _ (List.mem_of_getElem? (i := 38) (by decide +kernel)), by decide +kernel⟩
theorem nw_34 : Jvm.Cond.fieldLink "MarginHouse$Shares" (9 : Nat) "MarginHouse$Shares" "weight" "[J" ∈ nd_ := List.mem_filter.mpr ⟨List.mem_append_right _ (List.mem_of_getElem? (i := 39) (by decide +kernel)), by decide +kernel⟩
theorem nw_35 : Jvm.Cond.fieldLink "MarginHouse" (235 : Nat) "MarginHouse$Shares" "weight" "[J" ∈ nd_ := List.mem_filter.mpr ⟨List.mem_append_right _ (List.mem_of_getElem? (i := 40) (by decide +kernel)), by decide +kernel⟩
theorem nw_36 : Jvm.Cond.fieldLink "MarginHouse$Shares" (15 : Nat) "MarginHouse$Shares" "part" "[J" ∈ nd_ := List.mem_filter.mpr ⟨List.mem_append_right _ (List.mem_of_getElem? (i := 41) (by decide +kernel)), by decide +kernel⟩
theorem nw_37 : Jvm.Cond.fieldLink "MarginHouse$Plan" (56 : Nat) "MarginHouse$Shares" "part" "[J" ∈ nd_ := List.mem_filter.mpr ⟨List.mem_append_right _ (List.mem_of_getElem? (i := 42) (by decide +kernel)), by decide +kernel⟩
theorem nw_38 : Jvm.Cond.fieldLink "MarginHouse$Shares" (18 : Nat) "MarginHouse$Shares" "remainder" "[J" ∈ nd_ := List.mem_filter.mpr ⟨List.mem_append_right _ (List.mem_of_getElem? (i := 43) (by decide +kernel)), by decide +kernel⟩
theorem nw_39 : Jvm.Cond.arrayClass Jvm.ClassFile.FieldType.int ∈ nd_ := List.mem_filter.mpr ⟨List.mem_append_right _ (List.mem_of_getElem? (i := 51) (by decide +kernel)), by decide +kernel⟩
theorem nw_40 : Jvm.Cond.arrayClass Jvm.ClassFile.FieldType.long ∈ nd_ := List.mem_filter.mpr ⟨List.mem_append_right _ (List.mem_of_getElem? (i := 52) (by decide +kernel)), by decide +kernel⟩
theorem nw_41 : Jvm.Cond.fieldLink "MarginHouse$Plan" (9 : Nat) "MarginHouse$Plan" "taker" "[I" ∈ nd_ := List.mem_filter.mpr ⟨List.mem_append_right _ (List.mem_of_getElem? (i := 53) (by decide +kernel)), by decide +kernel⟩
theorem nw_42 : Jvm.Cond.fieldLink "MarginHouse" (197 : Nat) "MarginHouse$Plan" "taker" "[I" ∈ nd_ := List.mem_filter.mpr ⟨List.mem_append_right _ (List.mem_of_getElem? (i := 54) (by decide +kernel)), by decide +kernel⟩
theorem nw_43 : Jvm.Cond.fieldLink "MarginHouse$Plan" (15 : Nat) "MarginHouse$Plan" "cash" "[J" ∈ nd_ := List.mem_filter.mpr ⟨List.mem_append_right _ (List.mem_of_getElem? (i := 55) (by decide +kernel)), by decide +kernel⟩
theorem nw_44 : Jvm.Cond.fieldLink "MarginHouse" (190 : Nat) "MarginHouse$Plan" "cash" "[J" ∈ nd_ := List.mem_filter.mpr ⟨List.mem_append_right _ (List.mem_of_getElem? (i := 56) (by decide +kernel)), by decide +kernel⟩
theorem nw_45 : Jvm.Cond.fieldLink "MarginHouse$Plan" (19 : Nat) "MarginHouse$Plan" "contribution" "[J" ∈ nd_ := List.mem_filter.mpr ⟨List.mem_append_right _ (List.mem_of_getElem? (i := 57) (by decide +kernel)), by decide +kernel⟩
theorem nw_46 : Jvm.Cond.fieldLink "MarginHouse" (192 : Nat) "MarginHouse$Plan" "contribution" "[J" ∈ nd_ := List.mem_filter.mpr ⟨List.mem_append_right _ (List.mem_of_getElem? (i := 58) (by decide +kernel)), by decide +kernel⟩
theorem nw_47 : Jvm.Cond.fieldLink "MarginHouse$Plan" (22 : Nat) "MarginHouse$Plan" "borne" "[J" ∈ nd_ := List.mem_filter.mpr ⟨List.mem_append_right _ (List.mem_of_getElem? (i := 59) (by decide +kernel)), by decide +kernel⟩
theorem nw_48 : Jvm.Cond.fieldLink "MarginHouse" (140 : Nat) "MarginHouse$Plan" "borne" "[J" ∈ nd_ := List.mem_filter.mpr ⟨List.mem_append_right _ (List.mem_of_getElem? (i := 60) (by decide +kernel)), by decide +kernel⟩
theorem nw_49 : Jvm.Cond.fieldLink "MarginHouse$Plan" (28 : Nat) "MarginHouse$Plan" "shares" "LMarginHouse$Shares;" ∈ nd_ := List.mem_filter.mpr ⟨List.mem_append_right _ (List.mem_of_getElem? (i := 61) (by decide +kernel)), by decide +kernel⟩
theorem nw_50 : Jvm.Cond.fieldLink "MarginHouse" (231 : Nat) "MarginHouse$Plan" "shares" "LMarginHouse$Shares;" ∈ nd_ := List.mem_filter.mpr ⟨List.mem_append_right _ (List.mem_of_getElem? (i := 62) (by decide +kernel)), by decide +kernel⟩
theorem nw_51 : Jvm.Cond.fieldLink "MarginHouse$Plan" (32 : Nat) "MarginHouse$Plan" "capital" "J" ∈ nd_ := List.mem_filter.mpr ⟨List.mem_append_right _ (List.mem_of_getElem? (i := 63) (by decide +kernel)), by decide +kernel⟩
theorem nw_52 : Jvm.Cond.fieldLink "MarginHouse" (194 : Nat) "MarginHouse$Plan" "capital" "J" ∈ nd_ := List.mem_filter.mpr ⟨List.mem_append_right _ (List.mem_of_getElem? (i := 64) (by decide +kernel)), by decide +kernel⟩
theorem nw_53 : Jvm.Cond.fieldLink "MarginHouse$Plan" (36 : Nat) "MarginHouse$Plan" "missing" "J" ∈ nd_ := List.mem_filter.mpr ⟨List.mem_append_right _ (List.mem_of_getElem? (i := 65) (by decide +kernel)), by decide +kernel⟩
theorem nw_54 : Jvm.Cond.instantiable "MarginHouse$Member" (5 : Nat) ∈ nd_ := List.mem_filter.mpr ⟨List.mem_append_right _ (List.mem_of_getElem? (i := 81) (by decide +kernel)), by decide +kernel⟩
theorem nw_55 : Jvm.Cond.instanceMethod ({ cls := "MarginHouse$Member", name := "<init>", desc := "()V" } : Jvm.MethodName) ∈ nd_ := List.mem_filter.mpr ⟨List.mem_append_right _ (List.mem_of_getElem? (i := 83) (by decide +kernel)), by decide +kernel⟩
theorem nw_56 : Jvm.Cond.code ({ cls := "MarginHouse$Member", name := "<init>", desc := "()V" } : Jvm.MethodName) prog_3_method_1_code (1 : Nat) (Option.none : Option Jvm.ClassFile.FieldType) ∈ nd_ := List.mem_filter.mpr ⟨List.mem_append_right _ (List.mem_of_getElem? (i := 84) (by decide +kernel)), by decide +kernel⟩
theorem nw_57 : Jvm.Cond.methodLink "MarginHouse$Member" (3 : Nat) ({ cls := "java/lang/Object", name := "<init>", desc := "()V" } : Jvm.MethodName) ∈ nd_ := List.mem_filter.mpr ⟨List.mem_append_right _ (List.mem_of_getElem? (i := 85) (by decide +kernel)), by decide +kernel⟩
theorem nw_58 : Jvm.Cond.fieldLink "MarginHouse$Member" (9 : Nat) "MarginHouse$Member" "position" "[I" ∈ nd_ := List.mem_filter.mpr ⟨List.mem_append_right _ (List.mem_of_getElem? (i := 86) (by decide +kernel)), by decide +kernel⟩
theorem nw_59 : Jvm.Cond.fieldLink "MarginHouse" (114 : Nat) "MarginHouse$Member" "position" "[I" ∈ nd_ := List.mem_filter.mpr ⟨List.mem_append_right _ (List.mem_of_getElem? (i := 87) (by decide +kernel)), by decide +kernel⟩
theorem nw_60 : Jvm.Cond.fieldLink "MarginHouse$Member" (15 : Nat) "MarginHouse$Member" "bid" "[I" ∈ nd_ := List.mem_filter.mpr ⟨List.mem_append_right _ (List.mem_of_getElem? (i := 88) (by decide +kernel)), by decide +kernel⟩
theorem nw_61 : Jvm.Cond.fieldLink "MarginHouse" (97 : Nat) "MarginHouse$Member" "bid" "[I" ∈ nd_ := List.mem_filter.mpr ⟨List.mem_append_right _ (List.mem_of_getElem? (i := 89) (by decide +kernel)), by decide +kernel⟩
theorem nw_62 : Jvm.Cond.fieldLink "MarginHouse$Member" (18 : Nat) "MarginHouse$Member" "standing" "I" ∈ nd_ := List.mem_filter.mpr ⟨List.mem_append_right _ (List.mem_of_getElem? (i := 90) (by decide +kernel)), by decide +kernel⟩
theorem nw_63 : Jvm.Cond.fieldLink "MarginHouse" (127 : Nat) "MarginHouse$Member" "standing" "I" ∈ nd_ := List.mem_filter.mpr ⟨List.mem_append_right _ (List.mem_of_getElem? (i := 91) (by decide +kernel)), by decide +kernel⟩
theorem nw_64 : Jvm.Cond.fieldLink "MarginHouse$Member" (22 : Nat) "MarginHouse$Member" "cash" "J" ∈ nd_ := List.mem_filter.mpr ⟨List.mem_append_right _ (List.mem_of_getElem? (i := 92) (by decide +kernel)), by decide +kernel⟩
theorem nw_65 : Jvm.Cond.fieldLink "MarginHouse" (105 : Nat) "MarginHouse$Member" "cash" "J" ∈ nd_ := List.mem_filter.mpr ⟨List.mem_append_right _ (List.mem_of_getElem? (i := 93) (by decide +kernel)), by decide +kernel⟩
theorem nw_66 : Jvm.Cond.fieldLink "MarginHouse$Member" (26 : Nat) "MarginHouse$Member" "contribution" "J" ∈ nd_ := List.mem_filter.mpr ⟨List.mem_append_right _ (List.mem_of_getElem? (i := 94) (by decide +kernel)), by decide +kernel⟩
theorem nw_67 : Jvm.Cond.fieldLink "MarginHouse" (66 : Nat) "MarginHouse$Member" "contribution" "J" ∈ nd_ := List.mem_filter.mpr ⟨List.mem_append_right _ (List.mem_of_getElem? (i := 95) (by decide +kernel)), by decide +kernel⟩
theorem nw_68 : Jvm.Cond.instantiable "MarginHouse$Instrument" (3 : Nat) ∈ nd_ := List.mem_filter.mpr ⟨List.mem_append_right _ (List.mem_of_getElem? (i := 107) (by decide +kernel)), by decide +kernel⟩
theorem nw_69 : Jvm.Cond.instanceMethod ({ cls := "MarginHouse$Instrument", name := "<init>", desc := "()V" } : Jvm.MethodName) ∈ nd_ := List.mem_filter.mpr ⟨List.mem_append_right _ (List.mem_of_getElem? (i := 109) (by decide +kernel)), by decide +kernel⟩
theorem nw_70 : Jvm.Cond.code ({ cls := "MarginHouse$Instrument", name := "<init>", desc := "()V" } : Jvm.MethodName) prog_2_method_1_code (1 : Nat) (Option.none : Option Jvm.ClassFile.FieldType) ∈ nd_ := List.mem_filter.mpr ⟨List.mem_append_right _ (List.mem_of_getElem? (i := 110) (by decide +kernel)), by decide +kernel⟩
theorem nw_71 : Jvm.Cond.methodLink "MarginHouse$Instrument" (1 : Nat) ({ cls := "java/lang/Object", name := "<init>", desc := "()V" } : Jvm.MethodName) ∈ nd_ := List.mem_filter.mpr ⟨List.mem_append_right _ (List.mem_of_getElem? (i := 111) (by decide +kernel)), by decide +kernel⟩
theorem nw_72 : Jvm.Cond.fieldLink "MarginHouse$Instrument" (7 : Nat) "MarginHouse$Instrument" "price" "I" ∈ nd_ := List.mem_filter.mpr ⟨List.mem_append_right _ (List.mem_of_getElem? (i := 112) (by decide +kernel)), by decide +kernel⟩
theorem nw_73 : Jvm.Cond.fieldLink "MarginHouse" (71 : Nat) "MarginHouse$Instrument" "price" "I" ∈ nd_ := List.mem_filter.mpr ⟨List.mem_append_right _ (List.mem_of_getElem? (i := 113) (by decide +kernel)), by decide +kernel⟩
theorem nw_74 : Jvm.Cond.fieldLink "MarginHouse$Instrument" (13 : Nat) "MarginHouse$Instrument" "limit" "I" ∈ nd_ := List.mem_filter.mpr ⟨List.mem_append_right _ (List.mem_of_getElem? (i := 114) (by decide +kernel)), by decide +kernel⟩
theorem nw_75 : Jvm.Cond.fieldLink "MarginHouse" (74 : Nat) "MarginHouse$Instrument" "limit" "I" ∈ nd_ := List.mem_filter.mpr ⟨List.mem_append_right _ (List.mem_of_getElem? (i := 115) (by decide +kernel)), by decide +kernel⟩
theorem nw_76 : Jvm.Cond.fieldLink "MarginHouse$Instrument" (16 : Nat) "MarginHouse$Instrument" "extra" "I" ∈ nd_ := List.mem_filter.mpr ⟨List.mem_append_right _ (List.mem_of_getElem? (i := 116) (by decide +kernel)), by decide +kernel⟩
theorem nw_77 : Jvm.Cond.fieldLink "MarginHouse" (77 : Nat) "MarginHouse$Instrument" "extra" "I" ∈ nd_ := List.mem_filter.mpr ⟨List.mem_append_right _ (List.mem_of_getElem? (i := 117) (by decide +kernel)), by decide +kernel⟩
theorem nw_78 : Jvm.Cond.fieldLink "MarginHouse" (11 : Nat) "MarginHouse" "members" "[LMarginHouse$Member;" ∈ nd_ := List.mem_filter.mpr ⟨List.mem_append_right _ (List.mem_of_getElem? (i := 125) (by decide +kernel)), by decide +kernel⟩
theorem nw_79 : Jvm.Cond.fieldLink "MarginHouse" (17 : Nat) "MarginHouse" "instruments" "[LMarginHouse$Instrument;" ∈ nd_ := List.mem_filter.mpr ⟨List.mem_append_right _ (List.mem_of_getElem? (i := 126) (by decide +kernel)), by decide +kernel⟩
theorem nw_80 : Jvm.Cond.fieldLink "MarginHouse" (23 : Nat) "MarginHouse" "moves" "[[I" ∈ nd_ := List.mem_filter.mpr ⟨List.mem_append_right _ (List.mem_of_getElem? (i := 127) (by decide +kernel)), by decide +kernel⟩
theorem nw_81 : Jvm.Cond.fieldLink "MarginHouse" (26 : Nat) "MarginHouse" "borne" "[J" ∈ nd_ := List.mem_filter.mpr ⟨List.mem_append_right _ (List.mem_of_getElem? (i := 128) (by decide +kernel)), by decide +kernel⟩
theorem nw_82 : Jvm.Cond.fieldLink "MarginHouse" (33 : Nat) "MarginHouse" "plan" "LMarginHouse$Plan;" ∈ nd_ := List.mem_filter.mpr ⟨List.mem_append_right _ (List.mem_of_getElem? (i := 129) (by decide +kernel)), by decide +kernel⟩
theorem nw_83 : Jvm.Cond.fieldLink "MarginHouse" (37 : Nat) "MarginHouse" "memberCount" "I" ∈ nd_ := List.mem_filter.mpr ⟨List.mem_append_right _ (List.mem_of_getElem? (i := 130) (by decide +kernel)), by decide +kernel⟩
theorem nw_84 : Jvm.Cond.fieldLink "MarginHouse" (41 : Nat) "MarginHouse" "instrumentCount" "I" ∈ nd_ := List.mem_filter.mpr ⟨List.mem_append_right _ (List.mem_of_getElem? (i := 131) (by decide +kernel)), by decide +kernel⟩
theorem nw_85 : Jvm.Cond.fieldLink "MarginHouse" (44 : Nat) "MarginHouse" "tradeCount" "I" ∈ nd_ := List.mem_filter.mpr ⟨List.mem_append_right _ (List.mem_of_getElem? (i := 132) (by decide +kernel)), by decide +kernel⟩
theorem nw_86 : Jvm.Cond.fieldLink "MarginHouse" (47 : Nat) "MarginHouse" "capitalHeld" "J" ∈ nd_ := List.mem_filter.mpr ⟨List.mem_append_right _ (List.mem_of_getElem? (i := 133) (by decide +kernel)), by decide +kernel⟩
theorem nw_87 : Jvm.Cond.fieldLink "MarginHouse" (51 : Nat) "MarginHouse" "losses" "J" ∈ nd_ := List.mem_filter.mpr ⟨List.mem_append_right _ (List.mem_of_getElem? (i := 134) (by decide +kernel)), by decide +kernel⟩
theorem nw_88 : Jvm.Cond.methodLink "MarginHouseLaw" (122 : Nat) ({ cls := "MarginHouse", name := "declare", desc := "()I" } : Jvm.MethodName) ∈ nd_ := List.mem_filter.mpr ⟨List.mem_append_right _ (List.mem_of_getElem? (i := 156) (by decide +kernel)), by decide +kernel⟩
theorem nw_89 : Jvm.Cond.instanceMethod ({ cls := "MarginHouse", name := "declare", desc := "()I" } : Jvm.MethodName) ∈ nd_ := List.mem_filter.mpr ⟨List.mem_append_right _ (List.mem_of_getElem? (i := 157) (by decide +kernel)), by decide +kernel⟩
theorem nw_90 : Jvm.Cond.selects "MarginHouse" ({ cls := "MarginHouse", name := "declare", desc := "()I" } : Jvm.MethodName) ({ cls := "MarginHouse", name := "declare", desc := "()I" } : Jvm.MethodName) ∈ nd_ := List.mem_filter.mpr ⟨List.mem_append_right _ (List.mem_of_getElem? (i := 158) (by decide +kernel)), by decide +kernel⟩
theorem nw_91 : Jvm.Cond.code ({ cls := "MarginHouse", name := "declare", desc := "()I" } : Jvm.MethodName) prog_1_method_13_code (3 : Nat) (Option.some Jvm.ClassFile.FieldType.int) ∈ nd_ := List.mem_filter.mpr ⟨List.mem_append_right _ (List.mem_of_getElem? (i := 159) (by decide +kernel)), by decide +kernel⟩
theorem nw_92 : Jvm.Cond.methodLink "MarginHouse" (124 : Nat) ({ cls := "MarginHouse", name := "shortfallOf", desc := "(LMarginHouse$Member;)J" } : Jvm.MethodName) ∈ nd_ := List.mem_filter.mpr ⟨List.mem_append_right _ (List.mem_of_getElem? (i := 160) (by decide +kernel)), by decide +kernel⟩
theorem nw_93 : Jvm.Cond.instanceMethod ({ cls := "MarginHouse", name := "shortfallOf", desc := "(LMarginHouse$Member;)J" } : Jvm.MethodName) ∈ nd_ := List.mem_filter.mpr ⟨List.mem_append_right _ (List.mem_of_getElem? (i := 162) (by decide +kernel)), by decide +kernel⟩
theorem nw_94 : Jvm.Cond.code ({ cls := "MarginHouse", name := "shortfallOf", desc := "(LMarginHouse$Member;)J" } : Jvm.MethodName) prog_1_method_30_code (2 : Nat) (Option.some Jvm.ClassFile.FieldType.long) ∈ nd_ := List.mem_filter.mpr ⟨List.mem_append_right _ (List.mem_of_getElem? (i := 163) (by decide +kernel)), by decide +kernel⟩
theorem nw_95 : Jvm.Cond.methodLink "MarginHouse" (108 : Nat) ({ cls := "MarginHouse", name := "marginOf", desc := "(LMarginHouse$Member;)J" } : Jvm.MethodName) ∈ nd_ := List.mem_filter.mpr ⟨List.mem_append_right _ (List.mem_of_getElem? (i := 164) (by decide +kernel)), by decide +kernel⟩
theorem nw_96 : Jvm.Cond.instanceMethod ({ cls := "MarginHouse", name := "marginOf", desc := "(LMarginHouse$Member;)J" } : Jvm.MethodName) ∈ nd_ := List.mem_filter.mpr ⟨List.mem_append_right _ (List.mem_of_getElem? (i := 166) (by decide +kernel)), by decide +kernel⟩
theorem nw_97 : Jvm.Cond.code ({ cls := "MarginHouse", name := "marginOf", desc := "(LMarginHouse$Member;)J" } : Jvm.MethodName) prog_1_method_27_code (5 : Nat) (Option.some Jvm.ClassFile.FieldType.long) ∈ nd_ := List.mem_filter.mpr ⟨List.mem_append_right _ (List.mem_of_getElem? (i := 167) (by decide +kernel)), by decide +kernel⟩
theorem nw_98 : Jvm.Cond.methodLink "MarginHouse" (170 : Nat) ({ cls := "MarginHouse", name := "lossUnder", desc := "([ILMarginHouse$Member;)J" } : Jvm.MethodName) ∈ nd_ := List.mem_filter.mpr ⟨List.mem_append_right _ (List.mem_of_getElem? (i := 168) (by decide +kernel)), by decide +kernel⟩
theorem nw_99 : Jvm.Cond.instanceMethod ({ cls := "MarginHouse", name := "lossUnder", desc := "([ILMarginHouse$Member;)J" } : Jvm.MethodName) ∈ nd_ := List.mem_filter.mpr ⟨List.mem_append_right _ (List.mem_of_getElem? (i := 170) (by decide +kernel)), by decide +kernel⟩
theorem nw_100 : Jvm.Cond.code ({ cls := "MarginHouse", name := "lossUnder", desc := "([ILMarginHouse$Member;)J" } : Jvm.MethodName) prog_1_method_28_code (6 : Nat) (Option.some Jvm.ClassFile.FieldType.long) ∈ nd_ := List.mem_filter.mpr ⟨List.mem_append_right _ (List.mem_of_getElem? (i := 171) (by decide +kernel)), by decide +kernel⟩
theorem nw_101 : Jvm.Cond.methodLink "MarginHouse" (174 : Nat) ({ cls := "java/lang/Math", name := "max", desc := "(JJ)J" } : Jvm.MethodName) ∈ nd_ := List.mem_filter.mpr ⟨List.mem_append_right _ (List.mem_of_getElem? (i := 172) (by decide +kernel)), by decide +kernel⟩
theorem nw_102 : Jvm.Cond.static ({ cls := "java/lang/Math", name := "max", desc := "(JJ)J" } : Jvm.MethodName) ∈ nd_ := List.mem_filter.mpr ⟨List.mem_append_right _ (List.mem_of_getElem? (i := 173) (by decide +kernel)), by decide +kernel⟩
theorem nw_103 : Jvm.Cond.code ({ cls := "java/lang/Math", name := "max", desc := "(JJ)J" } : Jvm.MethodName) prog_11_method_66_code (4 : Nat) (Option.some Jvm.ClassFile.FieldType.long) ∈ nd_ := List.mem_filter.mpr ⟨List.mem_append_right _ (List.mem_of_getElem? (i := 174) (by decide +kernel)), by decide +kernel⟩
theorem nw_104 : Jvm.Cond.methodLink "MarginHouse" (180 : Nat) ({ cls := "MarginHouse", name := "extraOf", desc := "(LMarginHouse$Member;)J" } : Jvm.MethodName) ∈ nd_ := List.mem_filter.mpr ⟨List.mem_append_right _ (List.mem_of_getElem? (i := 175) (by decide +kernel)), by decide +kernel⟩
theorem nw_105 : Jvm.Cond.instanceMethod ({ cls := "MarginHouse", name := "extraOf", desc := "(LMarginHouse$Member;)J" } : Jvm.MethodName) ∈ nd_ := List.mem_filter.mpr ⟨List.mem_append_right _ (List.mem_of_getElem? (i := 177) (by decide +kernel)), by decide +kernel⟩
theorem nw_106 : Jvm.Cond.code ({ cls := "MarginHouse", name := "extraOf", desc := "(LMarginHouse$Member;)J" } : Jvm.MethodName) prog_1_method_29_code (6 : Nat) (Option.some Jvm.ClassFile.FieldType.long) ∈ nd_ := List.mem_filter.mpr ⟨List.mem_append_right _ (List.mem_of_getElem? (i := 178) (by decide +kernel)), by decide +kernel⟩
theorem nw_107 : Jvm.Cond.methodLink "MarginHouse" (183 : Nat) ({ cls := "java/lang/Math", name := "abs", desc := "(I)I" } : Jvm.MethodName) ∈ nd_ := List.mem_filter.mpr ⟨List.mem_append_right _ (List.mem_of_getElem? (i := 179) (by decide +kernel)), by decide +kernel⟩
theorem nw_108 : Jvm.Cond.static ({ cls := "java/lang/Math", name := "abs", desc := "(I)I" } : Jvm.MethodName) ∈ nd_ := List.mem_filter.mpr ⟨List.mem_append_right _ (List.mem_of_getElem? (i := 180) (by decide +kernel)), by decide +kernel⟩
theorem nw_109 : Jvm.Cond.code ({ cls := "java/lang/Math", name := "abs", desc := "(I)I" } : Jvm.MethodName) prog_11_method_59_code (1 : Nat) (Option.some Jvm.ClassFile.FieldType.int) ∈ nd_ := List.mem_filter.mpr ⟨List.mem_append_right _ (List.mem_of_getElem? (i := 181) (by decide +kernel)), by decide +kernel⟩
theorem nw_110 : Jvm.Cond.methodLink "MarginHouseLaw" (76 : Nat) ({ cls := "MarginHouseLaw", name := "member", desc := "(LMarginHouse;J[J)I" } : Jvm.MethodName) ∈ nd_ := List.mem_filter.mpr ⟨List.mem_append_right _ (List.mem_of_getElem? (i := 182) (by decide +kernel)), by decide +kernel⟩
theorem nw_111 : Jvm.Cond.static ({ cls := "MarginHouseLaw", name := "member", desc := "(LMarginHouse;J[J)I" } : Jvm.MethodName) ∈ nd_ := List.mem_filter.mpr ⟨List.mem_append_right _ (List.mem_of_getElem? (i := 183) (by decide +kernel)), by decide +kernel⟩
theorem nw_112 : Jvm.Cond.codeWith ({ cls := "MarginHouseLaw", name := "member", desc := "(LMarginHouse;J[J)I" } : Jvm.MethodName) method_3_code (5 : Nat) (Option.some Jvm.ClassFile.FieldType.int) [((0 : Nat), (9 : Nat), (12 : Nat), (13 : Nat))] ∈ nd_ := List.mem_filter.mpr ⟨List.mem_append_right _ (List.mem_of_getElem? (i := 184) (by decide +kernel)), by decide +kernel⟩
theorem nw_113 : Jvm.Cond.classLink "MarginHouseLaw" (13 : Nat) "java/lang/IllegalArgumentException" ∈ nd_ := List.mem_filter.mpr ⟨List.mem_append_right _ (List.mem_of_getElem? (i := 185) (by decide +kernel)), by decide +kernel⟩
theorem nw_114 : Jvm.Cond.methodLink "MarginHouseLaw" (7 : Nat) ({ cls := "MarginHouse", name := "member", desc := "(J)I" } : Jvm.MethodName) ∈ nd_ := List.mem_filter.mpr ⟨List.mem_append_right _ (List.mem_of_getElem? (i := 186) (by decide +kernel)), by decide +kernel⟩
theorem nw_115 : Jvm.Cond.instanceMethod ({ cls := "MarginHouse", name := "member", desc := "(J)I" } : Jvm.MethodName) ∈ nd_ := List.mem_filter.mpr ⟨List.mem_append_right _ (List.mem_of_getElem? (i := 187) (by decide +kernel)), by decide +kernel⟩
theorem nw_116 : Jvm.Cond.selects "MarginHouse" ({ cls := "MarginHouse", name := "member", desc := "(J)I" } : Jvm.MethodName) ({ cls := "MarginHouse", name := "member", desc := "(J)I" } : Jvm.MethodName) ∈ nd_ := List.mem_filter.mpr ⟨List.mem_append_right _ (List.mem_of_getElem? (i := 188) (by decide +kernel)), by decide +kernel⟩
theorem nw_117 : Jvm.Cond.code ({ cls := "MarginHouse", name := "member", desc := "(J)I" } : Jvm.MethodName) prog_1_method_2_code (3 : Nat) (Option.some Jvm.ClassFile.FieldType.int) ∈ nd_ := List.mem_filter.mpr ⟨List.mem_append_right _ (List.mem_of_getElem? (i := 189) (by decide +kernel)), by decide +kernel⟩
theorem nw_118 : Jvm.Cond.constantLong "MarginHouse" (56 : Nat) (1000000000000 : Int64) ∈ nd_ := List.mem_filter.mpr ⟨List.mem_append_right _ (List.mem_of_getElem? (i := 190) (by decide +kernel)), by decide +kernel⟩
theorem nw_119 : Jvm.Cond.methodLink "MarginHouse" (58 : Nat) ({ cls := "MarginHouse", name := "within", desc := "(JJJ)Z" } : Jvm.MethodName) ∈ nd_ := List.mem_filter.mpr ⟨List.mem_append_right _ (List.mem_of_getElem? (i := 191) (by decide +kernel)), by decide +kernel⟩
theorem nw_120 : Jvm.Cond.static ({ cls := "MarginHouse", name := "within", desc := "(JJJ)Z" } : Jvm.MethodName) ∈ nd_ := List.mem_filter.mpr ⟨List.mem_append_right _ (List.mem_of_getElem? (i := 192) (by decide +kernel)), by decide +kernel⟩
theorem nw_121 : Jvm.Cond.code ({ cls := "MarginHouse", name := "within", desc := "(JJJ)Z" } : Jvm.MethodName) prog_1_method_21_code (6 : Nat) (Option.some Jvm.ClassFile.FieldType.boolean) ∈ nd_ := List.mem_filter.mpr ⟨List.mem_append_right _ (List.mem_of_getElem? (i := 193) (by decide +kernel)), by decide +kernel⟩
theorem nw_122 : Jvm.Cond.methodLink "MarginHouse" (62 : Nat) ({ cls := "MarginHouse", name := "need", desc := "(Z)V" } : Jvm.MethodName) ∈ nd_ := List.mem_filter.mpr ⟨List.mem_append_right _ (List.mem_of_getElem? (i := 194) (by decide +kernel)), by decide +kernel⟩
theorem nw_123 : Jvm.Cond.static ({ cls := "MarginHouse", name := "need", desc := "(Z)V" } : Jvm.MethodName) ∈ nd_ := List.mem_filter.mpr ⟨List.mem_append_right _ (List.mem_of_getElem? (i := 195) (by decide +kernel)), by decide +kernel⟩
theorem nw_124 : Jvm.Cond.code ({ cls := "MarginHouse", name := "need", desc := "(Z)V" } : Jvm.MethodName) prog_1_method_19_code (1 : Nat) (Option.none : Option Jvm.ClassFile.FieldType) ∈ nd_ := List.mem_filter.mpr ⟨List.mem_append_right _ (List.mem_of_getElem? (i := 196) (by decide +kernel)), by decide +kernel⟩
theorem nw_125 : Jvm.Cond.classLink "MarginHouse" (160 : Nat) "java/lang/IllegalArgumentException" ∈ nd_ := List.mem_filter.mpr ⟨List.mem_append_right _ (List.mem_of_getElem? (i := 197) (by decide +kernel)), by decide +kernel⟩
theorem nw_126 : Jvm.Cond.instantiable "java/lang/IllegalArgumentException" (6 : Nat) ∈ nd_ := List.mem_filter.mpr ⟨List.mem_append_right _ (List.mem_of_getElem? (i := 198) (by decide +kernel)), by decide +kernel⟩
theorem nw_127 : Jvm.Cond.selects "java/lang/IllegalArgumentException" ({ cls := "java/lang/Throwable", name := "fillInStackTrace", desc := "(I)Ljava/lang/Throwable;" } : Jvm.MethodName) ({ cls := "java/lang/Throwable", name := "fillInStackTrace", desc := "(I)Ljava/lang/Throwable;" } : Jvm.MethodName) ∈ nd_ := List.mem_filter.mpr ⟨List.mem_append_right _ (List.mem_of_getElem? (i := 206) (by decide +kernel)), by decide +kernel⟩
theorem nw_128 : Jvm.Cond.selects "java/lang/IllegalArgumentException" ({ cls := "java/lang/Throwable", name := "fillInStackTrace", desc := "()Ljava/lang/Throwable;" } : Jvm.MethodName) ({ cls := "java/lang/Throwable", name := "fillInStackTrace", desc := "()Ljava/lang/Throwable;" } : Jvm.MethodName) ∈ nd_ := List.mem_filter.mpr ⟨List.mem_append_right _ (List.mem_of_getElem? (i := 207) (by decide +kernel)), by decide +kernel⟩
theorem nw_129 : Jvm.Cond.instanceMethod ({ cls := "java/lang/Throwable", name := "<init>", desc := "()V" } : Jvm.MethodName) ∈ nd_ := List.mem_filter.mpr ⟨List.mem_append_right _ (List.mem_of_getElem? (i := 220) (by decide +kernel)), by decide +kernel⟩
theorem nw_130 : Jvm.Cond.code ({ cls := "java/lang/Throwable", name := "<init>", desc := "()V" } : Jvm.MethodName) prog_13_method_1_code (1 : Nat) (Option.none : Option Jvm.ClassFile.FieldType) ∈ nd_ := List.mem_filter.mpr ⟨List.mem_append_right _ (List.mem_of_getElem? (i := 221) (by decide +kernel)), by decide +kernel⟩
theorem nw_131 : Jvm.Cond.instanceMethod ({ cls := "java/lang/Throwable", name := "fillInStackTrace", desc := "()Ljava/lang/Throwable;" } : Jvm.MethodName) ∈ nd_ := List.mem_filter.mpr ⟨List.mem_append_right _ (List.mem_of_getElem? (i := 228) (by decide +kernel)), by decide +kernel⟩
theorem nw_132 : Jvm.Cond.instanceMethod ({ cls := "java/lang/Throwable", name := "fillInStackTrace", desc := "(I)Ljava/lang/Throwable;" } : Jvm.MethodName) ∈ nd_ := List.mem_filter.mpr ⟨List.mem_append_right _ (List.mem_of_getElem? (i := 234) (by decide +kernel)), by decide +kernel⟩
theorem nw_133 : Jvm.Cond.instantiable "java/lang/Throwable" (6 : Nat) ∈ nd_ := List.mem_filter.mpr ⟨List.mem_append_right _ (List.mem_of_getElem? (i := 235) (by decide +kernel)), by decide +kernel⟩
theorem nw_134 : Jvm.Cond.methodLink "MarginHouse" (162 : Nat) ({ cls := "java/lang/IllegalArgumentException", name := "<init>", desc := "()V" } : Jvm.MethodName) ∈ nd_ := List.mem_filter.mpr ⟨List.mem_append_right _ (List.mem_of_getElem? (i := 237) (by decide +kernel)), by decide +kernel⟩
theorem nw_135 : Jvm.Cond.instanceMethod ({ cls := "java/lang/IllegalArgumentException", name := "<init>", desc := "()V" } : Jvm.MethodName) ∈ nd_ := List.mem_filter.mpr ⟨List.mem_append_right _ (List.mem_of_getElem? (i := 238) (by decide +kernel)), by decide +kernel⟩
theorem nw_136 : Jvm.Cond.code ({ cls := "java/lang/IllegalArgumentException", name := "<init>", desc := "()V" } : Jvm.MethodName) prog_9_method_1_code (1 : Nat) (Option.none : Option Jvm.ClassFile.FieldType) ∈ nd_ := List.mem_filter.mpr ⟨List.mem_append_right _ (List.mem_of_getElem? (i := 239) (by decide +kernel)), by decide +kernel⟩
theorem nw_137 : Jvm.Cond.instanceMethod ({ cls := "java/lang/RuntimeException", name := "<init>", desc := "()V" } : Jvm.MethodName) ∈ nd_ := List.mem_filter.mpr ⟨List.mem_append_right _ (List.mem_of_getElem? (i := 241) (by decide +kernel)), by decide +kernel⟩
theorem nw_138 : Jvm.Cond.code ({ cls := "java/lang/RuntimeException", name := "<init>", desc := "()V" } : Jvm.MethodName) prog_12_method_1_code (1 : Nat) (Option.none : Option Jvm.ClassFile.FieldType) ∈ nd_ := List.mem_filter.mpr ⟨List.mem_append_right _ (List.mem_of_getElem? (i := 242) (by decide +kernel)), by decide +kernel⟩
theorem nw_139 : Jvm.Cond.instanceMethod ({ cls := "java/lang/Exception", name := "<init>", desc := "()V" } : Jvm.MethodName) ∈ nd_ := List.mem_filter.mpr ⟨List.mem_append_right _ (List.mem_of_getElem? (i := 244) (by decide +kernel)), by decide +kernel⟩
theorem nw_140 : Jvm.Cond.code ({ cls := "java/lang/Exception", name := "<init>", desc := "()V" } : Jvm.MethodName) prog_8_method_1_code (1 : Nat) (Option.none : Option Jvm.ClassFile.FieldType) ∈ nd_ := List.mem_filter.mpr ⟨List.mem_append_right _ (List.mem_of_getElem? (i := 245) (by decide +kernel)), by decide +kernel⟩
theorem nw_141 : Jvm.Cond.methodLink "MarginHouseLaw" (86 : Nat) ({ cls := "MarginHouseLaw", name := "instrument", desc := "(LMarginHouse;III[J)I" } : Jvm.MethodName) ∈ nd_ := List.mem_filter.mpr ⟨List.mem_append_right _ (List.mem_of_getElem? (i := 259) (by decide +kernel)), by decide +kernel⟩
theorem nw_142 : Jvm.Cond.static ({ cls := "MarginHouseLaw", name := "instrument", desc := "(LMarginHouse;III[J)I" } : Jvm.MethodName) ∈ nd_ := List.mem_filter.mpr ⟨List.mem_append_right _ (List.mem_of_getElem? (i := 260) (by decide +kernel)), by decide +kernel⟩
theorem nw_143 : Jvm.Cond.codeWith ({ cls := "MarginHouseLaw", name := "instrument", desc := "(LMarginHouse;III[J)I" } : Jvm.MethodName) method_4_code (6 : Nat) (Option.some Jvm.ClassFile.FieldType.int) [((0 : Nat), (12 : Nat), (15 : Nat), (13 : Nat))] ∈ nd_ := List.mem_filter.mpr ⟨List.mem_append_right _ (List.mem_of_getElem? (i := 261) (by decide +kernel)), by decide +kernel⟩
theorem nw_144 : Jvm.Cond.methodLink "MarginHouseLaw" (15 : Nat) ({ cls := "MarginHouse", name := "instrument", desc := "(III)I" } : Jvm.MethodName) ∈ nd_ := List.mem_filter.mpr ⟨List.mem_append_right _ (List.mem_of_getElem? (i := 262) (by decide +kernel)), by decide +kernel⟩
theorem nw_145 : Jvm.Cond.instanceMethod ({ cls := "MarginHouse", name := "instrument", desc := "(III)I" } : Jvm.MethodName) ∈ nd_ := List.mem_filter.mpr ⟨List.mem_append_right _ (List.mem_of_getElem? (i := 263) (by decide +kernel)), by decide +kernel⟩
theorem nw_146 : Jvm.Cond.selects "MarginHouse" ({ cls := "MarginHouse", name := "instrument", desc := "(III)I" } : Jvm.MethodName) ({ cls := "MarginHouse", name := "instrument", desc := "(III)I" } : Jvm.MethodName) ∈ nd_ := List.mem_filter.mpr ⟨List.mem_append_right _ (List.mem_of_getElem? (i := 264) (by decide +kernel)), by decide +kernel⟩
theorem nw_147 : Jvm.Cond.code ({ cls := "MarginHouse", name := "instrument", desc := "(III)I" } : Jvm.MethodName) prog_1_method_3_code (5 : Nat) (Option.some Jvm.ClassFile.FieldType.int) ∈ nd_ := List.mem_filter.mpr ⟨List.mem_append_right _ (List.mem_of_getElem? (i := 265) (by decide +kernel)), by decide +kernel⟩
theorem nw_148 : Jvm.Cond.constantLong "MarginHouse" (69 : Nat) (1000000 : Int64) ∈ nd_ := List.mem_filter.mpr ⟨List.mem_append_right _ (List.mem_of_getElem? (i := 266) (by decide +kernel)), by decide +kernel⟩
theorem nw_149 : Jvm.Cond.methodLink "MarginHouseLaw" (90 : Nat) ({ cls := "MarginHouseLaw", name := "capital", desc := "(LMarginHouse;J[J)I" } : Jvm.MethodName) ∈ nd_ := List.mem_filter.mpr ⟨List.mem_append_right _ (List.mem_of_getElem? (i := 267) (by decide +kernel)), by decide +kernel⟩
theorem nw_150 : Jvm.Cond.static ({ cls := "MarginHouseLaw", name := "capital", desc := "(LMarginHouse;J[J)I" } : Jvm.MethodName) ∈ nd_ := List.mem_filter.mpr ⟨List.mem_append_right _ (List.mem_of_getElem? (i := 268) (by decide +kernel)), by decide +kernel⟩
theorem nw_151 : Jvm.Cond.codeWith ({ cls := "MarginHouseLaw", name := "capital", desc := "(LMarginHouse;J[J)I" } : Jvm.MethodName) method_5_code (5 : Nat) (Option.some Jvm.ClassFile.FieldType.int) [((0 : Nat), (8 : Nat), (11 : Nat), (13 : Nat))] ∈ nd_ := List.mem_filter.mpr ⟨List.mem_append_right _ (List.mem_of_getElem? (i := 269) (by decide +kernel)), by decide +kernel⟩
theorem nw_152 : Jvm.Cond.methodLink "MarginHouseLaw" (19 : Nat) ({ cls := "MarginHouse", name := "capital", desc := "(J)J" } : Jvm.MethodName) ∈ nd_ := List.mem_filter.mpr ⟨List.mem_append_right _ (List.mem_of_getElem? (i := 270) (by decide +kernel)), by decide +kernel⟩
theorem nw_153 : Jvm.Cond.instanceMethod ({ cls := "MarginHouse", name := "capital", desc := "(J)J" } : Jvm.MethodName) ∈ nd_ := List.mem_filter.mpr ⟨List.mem_append_right _ (List.mem_of_getElem? (i := 271) (by decide +kernel)), by decide +kernel⟩
theorem nw_154 : Jvm.Cond.selects "MarginHouse" ({ cls := "MarginHouse", name := "capital", desc := "(J)J" } : Jvm.MethodName) ({ cls := "MarginHouse", name := "capital", desc := "(J)J" } : Jvm.MethodName) ∈ nd_ := List.mem_filter.mpr ⟨List.mem_append_right _ (List.mem_of_getElem? (i := 272) (by decide +kernel)), by decide +kernel⟩
theorem nw_155 : Jvm.Cond.code ({ cls := "MarginHouse", name := "capital", desc := "(J)J" } : Jvm.MethodName) prog_1_method_4_code (3 : Nat) (Option.some Jvm.ClassFile.FieldType.long) ∈ nd_ := List.mem_filter.mpr ⟨List.mem_append_right _ (List.mem_of_getElem? (i := 273) (by decide +kernel)), by decide +kernel⟩
theorem nw_156 : Jvm.Cond.methodLink "MarginHouse" (80 : Nat) ({ cls := "MarginHouse", name := "isTooMuch", desc := "(J)Z" } : Jvm.MethodName) ∈ nd_ := List.mem_filter.mpr ⟨List.mem_append_right _ (List.mem_of_getElem? (i := 274) (by decide +kernel)), by decide +kernel⟩
theorem nw_157 : Jvm.Cond.static ({ cls := "MarginHouse", name := "isTooMuch", desc := "(J)Z" } : Jvm.MethodName) ∈ nd_ := List.mem_filter.mpr ⟨List.mem_append_right _ (List.mem_of_getElem? (i := 275) (by decide +kernel)), by decide +kernel⟩
theorem nw_158 : Jvm.Cond.code ({ cls := "MarginHouse", name := "isTooMuch", desc := "(J)Z" } : Jvm.MethodName) prog_1_method_22_code (2 : Nat) (Option.some Jvm.ClassFile.FieldType.boolean) ∈ nd_ := List.mem_filter.mpr ⟨List.mem_append_right _ (List.mem_of_getElem? (i := 276) (by decide +kernel)), by decide +kernel⟩
theorem nw_159 : Jvm.Cond.constantLong "MarginHouse" (166 : Nat) (-1000000000000000 : Int64) ∈ nd_ := List.mem_filter.mpr ⟨List.mem_append_right _ (List.mem_of_getElem? (i := 277) (by decide +kernel)), by decide +kernel⟩
theorem nw_160 : Jvm.Cond.constantLong "MarginHouse" (168 : Nat) (1000000000000000 : Int64) ∈ nd_ := List.mem_filter.mpr ⟨List.mem_append_right _ (List.mem_of_getElem? (i := 278) (by decide +kernel)), by decide +kernel⟩
theorem nw_161 : Jvm.Cond.constantLong "MarginHouse" (84 : Nat) (-1 : Int64) ∈ nd_ := List.mem_filter.mpr ⟨List.mem_append_right _ (List.mem_of_getElem? (i := 279) (by decide +kernel)), by decide +kernel⟩
theorem nw_162 : Jvm.Cond.methodLink "MarginHouseLaw" (93 : Nat) ({ cls := "MarginHouseLaw", name := "move", desc := "(LMarginHouse;III)I" } : Jvm.MethodName) ∈ nd_ := List.mem_filter.mpr ⟨List.mem_append_right _ (List.mem_of_getElem? (i := 280) (by decide +kernel)), by decide +kernel⟩
theorem nw_163 : Jvm.Cond.static ({ cls := "MarginHouseLaw", name := "move", desc := "(LMarginHouse;III)I" } : Jvm.MethodName) ∈ nd_ := List.mem_filter.mpr ⟨List.mem_append_right _ (List.mem_of_getElem? (i := 281) (by decide +kernel)), by decide +kernel⟩
theorem nw_164 : Jvm.Cond.codeWith ({ cls := "MarginHouseLaw", name := "move", desc := "(LMarginHouse;III)I" } : Jvm.MethodName) method_6_code (5 : Nat) (Option.some Jvm.ClassFile.FieldType.int) [((0 : Nat), (7 : Nat), (10 : Nat), (13 : Nat))] ∈ nd_ := List.mem_filter.mpr ⟨List.mem_append_right _ (List.mem_of_getElem? (i := 282) (by decide +kernel)), by decide +kernel⟩
theorem nw_165 : Jvm.Cond.methodLink "MarginHouseLaw" (23 : Nat) ({ cls := "MarginHouse", name := "move", desc := "(III)V" } : Jvm.MethodName) ∈ nd_ := List.mem_filter.mpr ⟨List.mem_append_right _ (List.mem_of_getElem? (i := 283) (by decide +kernel)), by decide +kernel⟩
theorem nw_166 : Jvm.Cond.instanceMethod ({ cls := "MarginHouse", name := "move", desc := "(III)V" } : Jvm.MethodName) ∈ nd_ := List.mem_filter.mpr ⟨List.mem_append_right _ (List.mem_of_getElem? (i := 284) (by decide +kernel)), by decide +kernel⟩
theorem nw_167 : Jvm.Cond.selects "MarginHouse" ({ cls := "MarginHouse", name := "move", desc := "(III)V" } : Jvm.MethodName) ({ cls := "MarginHouse", name := "move", desc := "(III)V" } : Jvm.MethodName) ∈ nd_ := List.mem_filter.mpr ⟨List.mem_append_right _ (List.mem_of_getElem? (i := 285) (by decide +kernel)), by decide +kernel⟩
theorem nw_168 : Jvm.Cond.code ({ cls := "MarginHouse", name := "move", desc := "(III)V" } : Jvm.MethodName) prog_1_method_5_code (4 : Nat) (Option.none : Option Jvm.ClassFile.FieldType) ∈ nd_ := List.mem_filter.mpr ⟨List.mem_append_right _ (List.mem_of_getElem? (i := 286) (by decide +kernel)), by decide +kernel⟩
theorem nw_169 : Jvm.Cond.constantLong "MarginHouse" (86 : Nat) (7 : Int64) ∈ nd_ := List.mem_filter.mpr ⟨List.mem_append_right _ (List.mem_of_getElem? (i := 287) (by decide +kernel)), by decide +kernel⟩
theorem nw_170 : Jvm.Cond.methodLink "MarginHouse" (88 : Nat) ({ cls := "MarginHouse", name := "isInstrument", desc := "(I)Z" } : Jvm.MethodName) ∈ nd_ := List.mem_filter.mpr ⟨List.mem_append_right _ (List.mem_of_getElem? (i := 288) (by decide +kernel)), by decide +kernel⟩
theorem nw_171 : Jvm.Cond.instanceMethod ({ cls := "MarginHouse", name := "isInstrument", desc := "(I)Z" } : Jvm.MethodName) ∈ nd_ := List.mem_filter.mpr ⟨List.mem_append_right _ (List.mem_of_getElem? (i := 290) (by decide +kernel)), by decide +kernel⟩
theorem nw_172 : Jvm.Cond.code ({ cls := "MarginHouse", name := "isInstrument", desc := "(I)Z" } : Jvm.MethodName) prog_1_method_25_code (2 : Nat) (Option.some Jvm.ClassFile.FieldType.boolean) ∈ nd_ := List.mem_filter.mpr ⟨List.mem_append_right _ (List.mem_of_getElem? (i := 291) (by decide +kernel)), by decide +kernel⟩
theorem nw_173 : Jvm.Cond.constantLong "MarginHouse" (92 : Nat) (-1000000 : Int64) ∈ nd_ := List.mem_filter.mpr ⟨List.mem_append_right _ (List.mem_of_getElem? (i := 292) (by decide +kernel)), by decide +kernel⟩
theorem nw_174 : Jvm.Cond.methodLink "MarginHouseLaw" (97 : Nat) ({ cls := "MarginHouseLaw", name := "bid", desc := "(LMarginHouse;III)I" } : Jvm.MethodName) ∈ nd_ := List.mem_filter.mpr ⟨List.mem_append_right _ (List.mem_of_getElem? (i := 293) (by decide +kernel)), by decide +kernel⟩
theorem nw_175 : Jvm.Cond.static ({ cls := "MarginHouseLaw", name := "bid", desc := "(LMarginHouse;III)I" } : Jvm.MethodName) ∈ nd_ := List.mem_filter.mpr ⟨List.mem_append_right _ (List.mem_of_getElem? (i := 294) (by decide +kernel)), by decide +kernel⟩
theorem nw_176 : Jvm.Cond.codeWith ({ cls := "MarginHouseLaw", name := "bid", desc := "(LMarginHouse;III)I" } : Jvm.MethodName) method_7_code (5 : Nat) (Option.some Jvm.ClassFile.FieldType.int) [((0 : Nat), (7 : Nat), (10 : Nat), (13 : Nat))] ∈ nd_ := List.mem_filter.mpr ⟨List.mem_append_right _ (List.mem_of_getElem? (i := 295) (by decide +kernel)), by decide +kernel⟩
theorem nw_177 : Jvm.Cond.methodLink "MarginHouseLaw" (27 : Nat) ({ cls := "MarginHouse", name := "bid", desc := "(III)V" } : Jvm.MethodName) ∈ nd_ := List.mem_filter.mpr ⟨List.mem_append_right _ (List.mem_of_getElem? (i := 296) (by decide +kernel)), by decide +kernel⟩
theorem nw_178 : Jvm.Cond.instanceMethod ({ cls := "MarginHouse", name := "bid", desc := "(III)V" } : Jvm.MethodName) ∈ nd_ := List.mem_filter.mpr ⟨List.mem_append_right _ (List.mem_of_getElem? (i := 297) (by decide +kernel)), by decide +kernel⟩
theorem nw_179 : Jvm.Cond.selects "MarginHouse" ({ cls := "MarginHouse", name := "bid", desc := "(III)V" } : Jvm.MethodName) ({ cls := "MarginHouse", name := "bid", desc := "(III)V" } : Jvm.MethodName) ∈ nd_ := List.mem_filter.mpr ⟨List.mem_append_right _ (List.mem_of_getElem? (i := 298) (by decide +kernel)), by decide +kernel⟩
theorem nw_180 : Jvm.Cond.code ({ cls := "MarginHouse", name := "bid", desc := "(III)V" } : Jvm.MethodName) prog_1_method_6_code (4 : Nat) (Option.none : Option Jvm.ClassFile.FieldType) ∈ nd_ := List.mem_filter.mpr ⟨List.mem_append_right _ (List.mem_of_getElem? (i := 299) (by decide +kernel)), by decide +kernel⟩
theorem nw_181 : Jvm.Cond.methodLink "MarginHouse" (94 : Nat) ({ cls := "MarginHouse", name := "isMember", desc := "(I)Z" } : Jvm.MethodName) ∈ nd_ := List.mem_filter.mpr ⟨List.mem_append_right _ (List.mem_of_getElem? (i := 300) (by decide +kernel)), by decide +kernel⟩
theorem nw_182 : Jvm.Cond.instanceMethod ({ cls := "MarginHouse", name := "isMember", desc := "(I)Z" } : Jvm.MethodName) ∈ nd_ := List.mem_filter.mpr ⟨List.mem_append_right _ (List.mem_of_getElem? (i := 302) (by decide +kernel)), by decide +kernel⟩
theorem nw_183 : Jvm.Cond.code ({ cls := "MarginHouse", name := "isMember", desc := "(I)Z" } : Jvm.MethodName) prog_1_method_24_code (2 : Nat) (Option.some Jvm.ClassFile.FieldType.boolean) ∈ nd_ := List.mem_filter.mpr ⟨List.mem_append_right _ (List.mem_of_getElem? (i := 303) (by decide +kernel)), by decide +kernel⟩
theorem nw_184 : Jvm.Cond.methodLink "MarginHouseLaw" (100 : Nat) ({ cls := "MarginHouseLaw", name := "deposit", desc := "(LMarginHouse;IJ[J)I" } : Jvm.MethodName) ∈ nd_ := List.mem_filter.mpr ⟨List.mem_append_right _ (List.mem_of_getElem? (i := 304) (by decide +kernel)), by decide +kernel⟩
theorem nw_185 : Jvm.Cond.static ({ cls := "MarginHouseLaw", name := "deposit", desc := "(LMarginHouse;IJ[J)I" } : Jvm.MethodName) ∈ nd_ := List.mem_filter.mpr ⟨List.mem_append_right _ (List.mem_of_getElem? (i := 305) (by decide +kernel)), by decide +kernel⟩
theorem nw_186 : Jvm.Cond.codeWith ({ cls := "MarginHouseLaw", name := "deposit", desc := "(LMarginHouse;IJ[J)I" } : Jvm.MethodName) method_8_code (6 : Nat) (Option.some Jvm.ClassFile.FieldType.int) [((0 : Nat), (10 : Nat), (13 : Nat), (13 : Nat)), ((0 : Nat), (10 : Nat), (17 : Nat), (34 : Nat))] ∈ nd_ := List.mem_filter.mpr ⟨List.mem_append_right _ (List.mem_of_getElem? (i := 306) (by decide +kernel)), by decide +kernel⟩
theorem nw_187 : Jvm.Cond.classLink "MarginHouseLaw" (34 : Nat) "java/lang/IllegalStateException" ∈ nd_ := List.mem_filter.mpr ⟨List.mem_append_right _ (List.mem_of_getElem? (i := 307) (by decide +kernel)), by decide +kernel⟩
theorem nw_188 : Jvm.Cond.methodLink "MarginHouseLaw" (30 : Nat) ({ cls := "MarginHouse", name := "deposit", desc := "(IJ)J" } : Jvm.MethodName) ∈ nd_ := List.mem_filter.mpr ⟨List.mem_append_right _ (List.mem_of_getElem? (i := 308) (by decide +kernel)), by decide +kernel⟩
theorem nw_189 : Jvm.Cond.instanceMethod ({ cls := "MarginHouse", name := "deposit", desc := "(IJ)J" } : Jvm.MethodName) ∈ nd_ := List.mem_filter.mpr ⟨List.mem_append_right _ (List.mem_of_getElem? (i := 309) (by decide +kernel)), by decide +kernel⟩
theorem nw_190 : Jvm.Cond.selects "MarginHouse" ({ cls := "MarginHouse", name := "deposit", desc := "(IJ)J" } : Jvm.MethodName) ({ cls := "MarginHouse", name := "deposit", desc := "(IJ)J" } : Jvm.MethodName) ∈ nd_ := List.mem_filter.mpr ⟨List.mem_append_right _ (List.mem_of_getElem? (i := 310) (by decide +kernel)), by decide +kernel⟩
theorem nw_191 : Jvm.Cond.code ({ cls := "MarginHouse", name := "deposit", desc := "(IJ)J" } : Jvm.MethodName) prog_1_method_7_code (5 : Nat) (Option.some Jvm.ClassFile.FieldType.long) ∈ nd_ := List.mem_filter.mpr ⟨List.mem_append_right _ (List.mem_of_getElem? (i := 311) (by decide +kernel)), by decide +kernel⟩
theorem nw_192 : Jvm.Cond.methodLink "MarginHouse" (101 : Nat) ({ cls := "MarginHouse", name := "needStanding", desc := "(LMarginHouse$Member;I)V" } : Jvm.MethodName) ∈ nd_ := List.mem_filter.mpr ⟨List.mem_append_right _ (List.mem_of_getElem? (i := 312) (by decide +kernel)), by decide +kernel⟩
theorem nw_193 : Jvm.Cond.static ({ cls := "MarginHouse", name := "needStanding", desc := "(LMarginHouse$Member;I)V" } : Jvm.MethodName) ∈ nd_ := List.mem_filter.mpr ⟨List.mem_append_right _ (List.mem_of_getElem? (i := 313) (by decide +kernel)), by decide +kernel⟩
theorem nw_194 : Jvm.Cond.code ({ cls := "MarginHouse", name := "needStanding", desc := "(LMarginHouse$Member;I)V" } : Jvm.MethodName) prog_1_method_20_code (2 : Nat) (Option.none : Option Jvm.ClassFile.FieldType) ∈ nd_ := List.mem_filter.mpr ⟨List.mem_append_right _ (List.mem_of_getElem? (i := 314) (by decide +kernel)), by decide +kernel⟩
theorem nw_195 : Jvm.Cond.classLink "MarginHouse" (163 : Nat) "java/lang/IllegalStateException" ∈ nd_ := List.mem_filter.mpr ⟨List.mem_append_right _ (List.mem_of_getElem? (i := 315) (by decide +kernel)), by decide +kernel⟩
theorem nw_196 : Jvm.Cond.instantiable "java/lang/IllegalStateException" (6 : Nat) ∈ nd_ := List.mem_filter.mpr ⟨List.mem_append_right _ (List.mem_of_getElem? (i := 316) (by decide +kernel)), by decide +kernel⟩
theorem nw_197 : Jvm.Cond.methodLink "MarginHouse" (165 : Nat) ({ cls := "java/lang/IllegalStateException", name := "<init>", desc := "()V" } : Jvm.MethodName) ∈ nd_ := List.mem_filter.mpr ⟨List.mem_append_right _ (List.mem_of_getElem? (i := 324) (by decide +kernel)), by decide +kernel⟩
theorem nw_198 : Jvm.Cond.instanceMethod ({ cls := "java/lang/IllegalStateException", name := "<init>", desc := "()V" } : Jvm.MethodName) ∈ nd_ := List.mem_filter.mpr ⟨List.mem_append_right _ (List.mem_of_getElem? (i := 325) (by decide +kernel)), by decide +kernel⟩
theorem nw_199 : Jvm.Cond.code ({ cls := "java/lang/IllegalStateException", name := "<init>", desc := "()V" } : Jvm.MethodName) prog_10_method_1_code (1 : Nat) (Option.none : Option Jvm.ClassFile.FieldType) ∈ nd_ := List.mem_filter.mpr ⟨List.mem_append_right _ (List.mem_of_getElem? (i := 326) (by decide +kernel)), by decide +kernel⟩
theorem nw_200 : Jvm.Cond.methodLink "MarginHouseLaw" (104 : Nat) ({ cls := "MarginHouseLaw", name := "withdraw", desc := "(LMarginHouse;IJ[J)I" } : Jvm.MethodName) ∈ nd_ := List.mem_filter.mpr ⟨List.mem_append_right _ (List.mem_of_getElem? (i := 330) (by decide +kernel)), by decide +kernel⟩
theorem nw_201 : Jvm.Cond.static ({ cls := "MarginHouseLaw", name := "withdraw", desc := "(LMarginHouse;IJ[J)I" } : Jvm.MethodName) ∈ nd_ := List.mem_filter.mpr ⟨List.mem_append_right _ (List.mem_of_getElem? (i := 331) (by decide +kernel)), by decide +kernel⟩
theorem nw_202 : Jvm.Cond.codeWith ({ cls := "MarginHouseLaw", name := "withdraw", desc := "(LMarginHouse;IJ[J)I" } : Jvm.MethodName) method_9_code (6 : Nat) (Option.some Jvm.ClassFile.FieldType.int) [((0 : Nat), (10 : Nat), (13 : Nat), (13 : Nat)), ((0 : Nat), (10 : Nat), (17 : Nat), (34 : Nat))] ∈ nd_ := List.mem_filter.mpr ⟨List.mem_append_right _ (List.mem_of_getElem? (i := 332) (by decide +kernel)), by decide +kernel⟩
theorem nw_203 : Jvm.Cond.methodLink "MarginHouseLaw" (36 : Nat) ({ cls := "MarginHouse", name := "withdraw", desc := "(IJ)J" } : Jvm.MethodName) ∈ nd_ := List.mem_filter.mpr ⟨List.mem_append_right _ (List.mem_of_getElem? (i := 333) (by decide +kernel)), by decide +kernel⟩
theorem nw_204 : Jvm.Cond.instanceMethod ({ cls := "MarginHouse", name := "withdraw", desc := "(IJ)J" } : Jvm.MethodName) ∈ nd_ := List.mem_filter.mpr ⟨List.mem_append_right _ (List.mem_of_getElem? (i := 334) (by decide +kernel)), by decide +kernel⟩
theorem nw_205 : Jvm.Cond.selects "MarginHouse" ({ cls := "MarginHouse", name := "withdraw", desc := "(IJ)J" } : Jvm.MethodName) ({ cls := "MarginHouse", name := "withdraw", desc := "(IJ)J" } : Jvm.MethodName) ∈ nd_ := List.mem_filter.mpr ⟨List.mem_append_right _ (List.mem_of_getElem? (i := 335) (by decide +kernel)), by decide +kernel⟩
theorem nw_206 : Jvm.Cond.code ({ cls := "MarginHouse", name := "withdraw", desc := "(IJ)J" } : Jvm.MethodName) prog_1_method_8_code (5 : Nat) (Option.some Jvm.ClassFile.FieldType.long) ∈ nd_ := List.mem_filter.mpr ⟨List.mem_append_right _ (List.mem_of_getElem? (i := 336) (by decide +kernel)), by decide +kernel⟩
theorem nw_207 : Jvm.Cond.methodLink "MarginHouseLaw" (107 : Nat) ({ cls := "MarginHouseLaw", name := "trade", desc := "(LMarginHouse;IIIII[J)I" } : Jvm.MethodName) ∈ nd_ := List.mem_filter.mpr ⟨List.mem_append_right _ (List.mem_of_getElem? (i := 337) (by decide +kernel)), by decide +kernel⟩
theorem nw_208 : Jvm.Cond.static ({ cls := "MarginHouseLaw", name := "trade", desc := "(LMarginHouse;IIIII[J)I" } : Jvm.MethodName) ∈ nd_ := List.mem_filter.mpr ⟨List.mem_append_right _ (List.mem_of_getElem? (i := 338) (by decide +kernel)), by decide +kernel⟩
theorem nw_209 : Jvm.Cond.codeWith ({ cls := "MarginHouseLaw", name := "trade", desc := "(LMarginHouse;IIIII[J)I" } : Jvm.MethodName) method_10_code (8 : Nat) (Option.some Jvm.ClassFile.FieldType.int) [((0 : Nat), (16 : Nat), (19 : Nat), (13 : Nat)), ((0 : Nat), (16 : Nat), (23 : Nat), (34 : Nat))] ∈ nd_ := List.mem_filter.mpr ⟨List.mem_append_right _ (List.mem_of_getElem? (i := 339) (by decide +kernel)), by decide +kernel⟩
theorem nw_210 : Jvm.Cond.methodLink "MarginHouseLaw" (39 : Nat) ({ cls := "MarginHouse", name := "trade", desc := "(IIIII)I" } : Jvm.MethodName) ∈ nd_ := List.mem_filter.mpr ⟨List.mem_append_right _ (List.mem_of_getElem? (i := 340) (by decide +kernel)), by decide +kernel⟩
theorem nw_211 : Jvm.Cond.instanceMethod ({ cls := "MarginHouse", name := "trade", desc := "(IIIII)I" } : Jvm.MethodName) ∈ nd_ := List.mem_filter.mpr ⟨List.mem_append_right _ (List.mem_of_getElem? (i := 341) (by decide +kernel)), by decide +kernel⟩
theorem nw_212 : Jvm.Cond.selects "MarginHouse" ({ cls := "MarginHouse", name := "trade", desc := "(IIIII)I" } : Jvm.MethodName) ({ cls := "MarginHouse", name := "trade", desc := "(IIIII)I" } : Jvm.MethodName) ∈ nd_ := List.mem_filter.mpr ⟨List.mem_append_right _ (List.mem_of_getElem? (i := 342) (by decide +kernel)), by decide +kernel⟩
theorem nw_213 : Jvm.Cond.code ({ cls := "MarginHouse", name := "trade", desc := "(IIIII)I" } : Jvm.MethodName) prog_1_method_9_code (10 : Nat) (Option.some Jvm.ClassFile.FieldType.int) ∈ nd_ := List.mem_filter.mpr ⟨List.mem_append_right _ (List.mem_of_getElem? (i := 343) (by decide +kernel)), by decide +kernel⟩
theorem nw_214 : Jvm.Cond.constantLong "MarginHouse" (112 : Nat) (100000 : Int64) ∈ nd_ := List.mem_filter.mpr ⟨List.mem_append_right _ (List.mem_of_getElem? (i := 344) (by decide +kernel)), by decide +kernel⟩
theorem nw_215 : Jvm.Cond.methodLink "MarginHouse" (117 : Nat) ({ cls := "MarginHouse", name := "isTooMany", desc := "(I)Z" } : Jvm.MethodName) ∈ nd_ := List.mem_filter.mpr ⟨List.mem_append_right _ (List.mem_of_getElem? (i := 345) (by decide +kernel)), by decide +kernel⟩
theorem nw_216 : Jvm.Cond.static ({ cls := "MarginHouse", name := "isTooMany", desc := "(I)Z" } : Jvm.MethodName) ∈ nd_ := List.mem_filter.mpr ⟨List.mem_append_right _ (List.mem_of_getElem? (i := 346) (by decide +kernel)), by decide +kernel⟩
theorem nw_217 : Jvm.Cond.code ({ cls := "MarginHouse", name := "isTooMany", desc := "(I)Z" } : Jvm.MethodName) prog_1_method_23_code (1 : Nat) (Option.some Jvm.ClassFile.FieldType.boolean) ∈ nd_ := List.mem_filter.mpr ⟨List.mem_append_right _ (List.mem_of_getElem? (i := 347) (by decide +kernel)), by decide +kernel⟩
theorem nw_218 : Jvm.Cond.methodLink "MarginHouseLaw" (111 : Nat) ({ cls := "MarginHouseLaw", name := "mark", desc := "(LMarginHouse;II[J)I" } : Jvm.MethodName) ∈ nd_ := List.mem_filter.mpr ⟨List.mem_append_right _ (List.mem_of_getElem? (i := 348) (by decide +kernel)), by decide +kernel⟩
theorem nw_219 : Jvm.Cond.static ({ cls := "MarginHouseLaw", name := "mark", desc := "(LMarginHouse;II[J)I" } : Jvm.MethodName) ∈ nd_ := List.mem_filter.mpr ⟨List.mem_append_right _ (List.mem_of_getElem? (i := 349) (by decide +kernel)), by decide +kernel⟩
theorem nw_220 : Jvm.Cond.codeWith ({ cls := "MarginHouseLaw", name := "mark", desc := "(LMarginHouse;II[J)I" } : Jvm.MethodName) method_11_code (5 : Nat) (Option.some Jvm.ClassFile.FieldType.int) [((0 : Nat), (10 : Nat), (13 : Nat), (13 : Nat))] ∈ nd_ := List.mem_filter.mpr ⟨List.mem_append_right _ (List.mem_of_getElem? (i := 350) (by decide +kernel)), by decide +kernel⟩
theorem nw_221 : Jvm.Cond.methodLink "MarginHouseLaw" (43 : Nat) ({ cls := "MarginHouse", name := "mark", desc := "(II)I" } : Jvm.MethodName) ∈ nd_ := List.mem_filter.mpr ⟨List.mem_append_right _ (List.mem_of_getElem? (i := 351) (by decide +kernel)), by decide +kernel⟩
theorem nw_222 : Jvm.Cond.instanceMethod ({ cls := "MarginHouse", name := "mark", desc := "(II)I" } : Jvm.MethodName) ∈ nd_ := List.mem_filter.mpr ⟨List.mem_append_right _ (List.mem_of_getElem? (i := 352) (by decide +kernel)), by decide +kernel⟩
theorem nw_223 : Jvm.Cond.selects "MarginHouse" ({ cls := "MarginHouse", name := "mark", desc := "(II)I" } : Jvm.MethodName) ({ cls := "MarginHouse", name := "mark", desc := "(II)I" } : Jvm.MethodName) ∈ nd_ := List.mem_filter.mpr ⟨List.mem_append_right _ (List.mem_of_getElem? (i := 353) (by decide +kernel)), by decide +kernel⟩
theorem nw_224 : Jvm.Cond.code ({ cls := "MarginHouse", name := "mark", desc := "(II)I" } : Jvm.MethodName) prog_1_method_10_code (6 : Nat) (Option.some Jvm.ClassFile.FieldType.int) ∈ nd_ := List.mem_filter.mpr ⟨List.mem_append_right _ (List.mem_of_getElem? (i := 354) (by decide +kernel)), by decide +kernel⟩
theorem nw_225 : Jvm.Cond.methodLink "MarginHouse" (120 : Nat) ({ cls := "MarginHouse", name := "countLiveBelowZero", desc := "()I" } : Jvm.MethodName) ∈ nd_ := List.mem_filter.mpr ⟨List.mem_append_right _ (List.mem_of_getElem? (i := 355) (by decide +kernel)), by decide +kernel⟩
theorem nw_226 : Jvm.Cond.instanceMethod ({ cls := "MarginHouse", name := "countLiveBelowZero", desc := "()I" } : Jvm.MethodName) ∈ nd_ := List.mem_filter.mpr ⟨List.mem_append_right _ (List.mem_of_getElem? (i := 357) (by decide +kernel)), by decide +kernel⟩
theorem nw_227 : Jvm.Cond.code ({ cls := "MarginHouse", name := "countLiveBelowZero", desc := "()I" } : Jvm.MethodName) prog_1_method_26_code (3 : Nat) (Option.some Jvm.ClassFile.FieldType.int) ∈ nd_ := List.mem_filter.mpr ⟨List.mem_append_right _ (List.mem_of_getElem? (i := 358) (by decide +kernel)), by decide +kernel⟩
theorem nw_228 : Jvm.Cond.methodLink "MarginHouseLaw" (115 : Nat) ({ cls := "MarginHouseLaw", name := "margin", desc := "(LMarginHouse;I[J)I" } : Jvm.MethodName) ∈ nd_ := List.mem_filter.mpr ⟨List.mem_append_right _ (List.mem_of_getElem? (i := 359) (by decide +kernel)), by decide +kernel⟩
theorem nw_229 : Jvm.Cond.static ({ cls := "MarginHouseLaw", name := "margin", desc := "(LMarginHouse;I[J)I" } : Jvm.MethodName) ∈ nd_ := List.mem_filter.mpr ⟨List.mem_append_right _ (List.mem_of_getElem? (i := 360) (by decide +kernel)), by decide +kernel⟩
theorem nw_230 : Jvm.Cond.codeWith ({ cls := "MarginHouseLaw", name := "margin", desc := "(LMarginHouse;I[J)I" } : Jvm.MethodName) method_12_code (4 : Nat) (Option.some Jvm.ClassFile.FieldType.int) [((0 : Nat), (8 : Nat), (11 : Nat), (13 : Nat))] ∈ nd_ := List.mem_filter.mpr ⟨List.mem_append_right _ (List.mem_of_getElem? (i := 361) (by decide +kernel)), by decide +kernel⟩
theorem nw_231 : Jvm.Cond.methodLink "MarginHouseLaw" (47 : Nat) ({ cls := "MarginHouse", name := "margin", desc := "(I)J" } : Jvm.MethodName) ∈ nd_ := List.mem_filter.mpr ⟨List.mem_append_right _ (List.mem_of_getElem? (i := 362) (by decide +kernel)), by decide +kernel⟩
theorem nw_232 : Jvm.Cond.instanceMethod ({ cls := "MarginHouse", name := "margin", desc := "(I)J" } : Jvm.MethodName) ∈ nd_ := List.mem_filter.mpr ⟨List.mem_append_right _ (List.mem_of_getElem? (i := 363) (by decide +kernel)), by decide +kernel⟩
theorem nw_233 : Jvm.Cond.selects "MarginHouse" ({ cls := "MarginHouse", name := "margin", desc := "(I)J" } : Jvm.MethodName) ({ cls := "MarginHouse", name := "margin", desc := "(I)J" } : Jvm.MethodName) ∈ nd_ := List.mem_filter.mpr ⟨List.mem_append_right _ (List.mem_of_getElem? (i := 364) (by decide +kernel)), by decide +kernel⟩
theorem nw_234 : Jvm.Cond.code ({ cls := "MarginHouse", name := "margin", desc := "(I)J" } : Jvm.MethodName) prog_1_method_11_code (2 : Nat) (Option.some Jvm.ClassFile.FieldType.long) ∈ nd_ := List.mem_filter.mpr ⟨List.mem_append_right _ (List.mem_of_getElem? (i := 365) (by decide +kernel)), by decide +kernel⟩
theorem nw_235 : Jvm.Cond.methodLink "MarginHouseLaw" (119 : Nat) ({ cls := "MarginHouseLaw", name := "called", desc := "(LMarginHouse;I[J)I" } : Jvm.MethodName) ∈ nd_ := List.mem_filter.mpr ⟨List.mem_append_right _ (List.mem_of_getElem? (i := 366) (by decide +kernel)), by decide +kernel⟩
theorem nw_236 : Jvm.Cond.static ({ cls := "MarginHouseLaw", name := "called", desc := "(LMarginHouse;I[J)I" } : Jvm.MethodName) ∈ nd_ := List.mem_filter.mpr ⟨List.mem_append_right _ (List.mem_of_getElem? (i := 367) (by decide +kernel)), by decide +kernel⟩
theorem nw_237 : Jvm.Cond.codeWith ({ cls := "MarginHouseLaw", name := "called", desc := "(LMarginHouse;I[J)I" } : Jvm.MethodName) method_13_code (4 : Nat) (Option.some Jvm.ClassFile.FieldType.int) [((0 : Nat), (8 : Nat), (11 : Nat), (13 : Nat))] ∈ nd_ := List.mem_filter.mpr ⟨List.mem_append_right _ (List.mem_of_getElem? (i := 368) (by decide +kernel)), by decide +kernel⟩
theorem nw_238 : Jvm.Cond.methodLink "MarginHouseLaw" (51 : Nat) ({ cls := "MarginHouse", name := "called", desc := "(I)J" } : Jvm.MethodName) ∈ nd_ := List.mem_filter.mpr ⟨List.mem_append_right _ (List.mem_of_getElem? (i := 369) (by decide +kernel)), by decide +kernel⟩
theorem nw_239 : Jvm.Cond.instanceMethod ({ cls := "MarginHouse", name := "called", desc := "(I)J" } : Jvm.MethodName) ∈ nd_ := List.mem_filter.mpr ⟨List.mem_append_right _ (List.mem_of_getElem? (i := 370) (by decide +kernel)), by decide +kernel⟩
theorem nw_240 : Jvm.Cond.selects "MarginHouse" ({ cls := "MarginHouse", name := "called", desc := "(I)J" } : Jvm.MethodName) ({ cls := "MarginHouse", name := "called", desc := "(I)J" } : Jvm.MethodName) ∈ nd_ := List.mem_filter.mpr ⟨List.mem_append_right _ (List.mem_of_getElem? (i := 371) (by decide +kernel)), by decide +kernel⟩
theorem nw_241 : Jvm.Cond.code ({ cls := "MarginHouse", name := "called", desc := "(I)J" } : Jvm.MethodName) prog_1_method_12_code (2 : Nat) (Option.some Jvm.ClassFile.FieldType.long) ∈ nd_ := List.mem_filter.mpr ⟨List.mem_append_right _ (List.mem_of_getElem? (i := 372) (by decide +kernel)), by decide +kernel⟩
theorem nw_242 : Jvm.Cond.methodLink "MarginHouseLaw" (126 : Nat) ({ cls := "MarginHouseLaw", name := "closeOut", desc := "(LMarginHouse;I[J)I" } : Jvm.MethodName) ∈ nd_ := List.mem_filter.mpr ⟨List.mem_append_right _ (List.mem_of_getElem? (i := 373) (by decide +kernel)), by decide +kernel⟩
theorem nw_243 : Jvm.Cond.static ({ cls := "MarginHouseLaw", name := "closeOut", desc := "(LMarginHouse;I[J)I" } : Jvm.MethodName) ∈ nd_ := List.mem_filter.mpr ⟨List.mem_append_right _ (List.mem_of_getElem? (i := 374) (by decide +kernel)), by decide +kernel⟩
theorem nw_244 : Jvm.Cond.codeWith ({ cls := "MarginHouseLaw", name := "closeOut", desc := "(LMarginHouse;I[J)I" } : Jvm.MethodName) method_14_code (4 : Nat) (Option.some Jvm.ClassFile.FieldType.int) [((0 : Nat), (8 : Nat), (11 : Nat), (13 : Nat)), ((0 : Nat), (8 : Nat), (14 : Nat), (34 : Nat))] ∈ nd_ := List.mem_filter.mpr ⟨List.mem_append_right _ (List.mem_of_getElem? (i := 375) (by decide +kernel)), by decide +kernel⟩
theorem nw_245 : Jvm.Cond.methodLink "MarginHouseLaw" (54 : Nat) ({ cls := "MarginHouse", name := "closeOut", desc := "(I)J" } : Jvm.MethodName) ∈ nd_ := List.mem_filter.mpr ⟨List.mem_append_right _ (List.mem_of_getElem? (i := 376) (by decide +kernel)), by decide +kernel⟩
theorem nw_246 : Jvm.Cond.instanceMethod ({ cls := "MarginHouse", name := "closeOut", desc := "(I)J" } : Jvm.MethodName) ∈ nd_ := List.mem_filter.mpr ⟨List.mem_append_right _ (List.mem_of_getElem? (i := 377) (by decide +kernel)), by decide +kernel⟩
theorem nw_247 : Jvm.Cond.selects "MarginHouse" ({ cls := "MarginHouse", name := "closeOut", desc := "(I)J" } : Jvm.MethodName) ({ cls := "MarginHouse", name := "closeOut", desc := "(I)J" } : Jvm.MethodName) ∈ nd_ := List.mem_filter.mpr ⟨List.mem_append_right _ (List.mem_of_getElem? (i := 378) (by decide +kernel)), by decide +kernel⟩
theorem nw_248 : Jvm.Cond.code ({ cls := "MarginHouse", name := "closeOut", desc := "(I)J" } : Jvm.MethodName) prog_1_method_14_code (2 : Nat) (Option.some Jvm.ClassFile.FieldType.long) ∈ nd_ := List.mem_filter.mpr ⟨List.mem_append_right _ (List.mem_of_getElem? (i := 379) (by decide +kernel)), by decide +kernel⟩
theorem nw_249 : Jvm.Cond.methodLink "MarginHouse" (130 : Nat) ({ cls := "MarginHouse", name := "startPlan", desc := "()V" } : Jvm.MethodName) ∈ nd_ := List.mem_filter.mpr ⟨List.mem_append_right _ (List.mem_of_getElem? (i := 380) (by decide +kernel)), by decide +kernel⟩
theorem nw_250 : Jvm.Cond.instanceMethod ({ cls := "MarginHouse", name := "startPlan", desc := "()V" } : Jvm.MethodName) ∈ nd_ := List.mem_filter.mpr ⟨List.mem_append_right _ (List.mem_of_getElem? (i := 382) (by decide +kernel)), by decide +kernel⟩
theorem nw_251 : Jvm.Cond.code ({ cls := "MarginHouse", name := "startPlan", desc := "()V" } : Jvm.MethodName) prog_1_method_34_code (2 : Nat) (Option.none : Option Jvm.ClassFile.FieldType) ∈ nd_ := List.mem_filter.mpr ⟨List.mem_append_right _ (List.mem_of_getElem? (i := 383) (by decide +kernel)), by decide +kernel⟩
theorem nw_252 : Jvm.Cond.methodLink "MarginHouse" (133 : Nat) ({ cls := "MarginHouse", name := "planTakers", desc := "(I)Z" } : Jvm.MethodName) ∈ nd_ := List.mem_filter.mpr ⟨List.mem_append_right _ (List.mem_of_getElem? (i := 384) (by decide +kernel)), by decide +kernel⟩
theorem nw_253 : Jvm.Cond.instanceMethod ({ cls := "MarginHouse", name := "planTakers", desc := "(I)Z" } : Jvm.MethodName) ∈ nd_ := List.mem_filter.mpr ⟨List.mem_append_right _ (List.mem_of_getElem? (i := 386) (by decide +kernel)), by decide +kernel⟩
theorem nw_254 : Jvm.Cond.code ({ cls := "MarginHouse", name := "planTakers", desc := "(I)Z" } : Jvm.MethodName) prog_1_method_35_code (4 : Nat) (Option.some Jvm.ClassFile.FieldType.boolean) ∈ nd_ := List.mem_filter.mpr ⟨List.mem_append_right _ (List.mem_of_getElem? (i := 387) (by decide +kernel)), by decide +kernel⟩
theorem nw_255 : Jvm.Cond.methodLink "MarginHouse" (200 : Nat) ({ cls := "MarginHouse", name := "leastBidder", desc := "(I)I" } : Jvm.MethodName) ∈ nd_ := List.mem_filter.mpr ⟨List.mem_append_right _ (List.mem_of_getElem? (i := 388) (by decide +kernel)), by decide +kernel⟩
theorem nw_256 : Jvm.Cond.instanceMethod ({ cls := "MarginHouse", name := "leastBidder", desc := "(I)I" } : Jvm.MethodName) ∈ nd_ := List.mem_filter.mpr ⟨List.mem_append_right _ (List.mem_of_getElem? (i := 390) (by decide +kernel)), by decide +kernel⟩
theorem nw_257 : Jvm.Cond.code ({ cls := "MarginHouse", name := "leastBidder", desc := "(I)I" } : Jvm.MethodName) prog_1_method_36_code (4 : Nat) (Option.some Jvm.ClassFile.FieldType.int) ∈ nd_ := List.mem_filter.mpr ⟨List.mem_append_right _ (List.mem_of_getElem? (i := 391) (by decide +kernel)), by decide +kernel⟩
theorem nw_258 : Jvm.Cond.methodLink "MarginHouse" (203 : Nat) ({ cls := "MarginHouse", name := "planTaking", desc := "(III)Z" } : Jvm.MethodName) ∈ nd_ := List.mem_filter.mpr ⟨List.mem_append_right _ (List.mem_of_getElem? (i := 392) (by decide +kernel)), by decide +kernel⟩
theorem nw_259 : Jvm.Cond.instanceMethod ({ cls := "MarginHouse", name := "planTaking", desc := "(III)Z" } : Jvm.MethodName) ∈ nd_ := List.mem_filter.mpr ⟨List.mem_append_right _ (List.mem_of_getElem? (i := 394) (by decide +kernel)), by decide +kernel⟩
theorem nw_260 : Jvm.Cond.code ({ cls := "MarginHouse", name := "planTaking", desc := "(III)Z" } : Jvm.MethodName) prog_1_method_37_code (7 : Nat) (Option.some Jvm.ClassFile.FieldType.boolean) ∈ nd_ := List.mem_filter.mpr ⟨List.mem_append_right _ (List.mem_of_getElem? (i := 395) (by decide +kernel)), by decide +kernel⟩
theorem nw_261 : Jvm.Cond.methodLink "MarginHouse" (136 : Nat) ({ cls := "MarginHouse", name := "planLayers", desc := "(I)V" } : Jvm.MethodName) ∈ nd_ := List.mem_filter.mpr ⟨List.mem_append_right _ (List.mem_of_getElem? (i := 396) (by decide +kernel)), by decide +kernel⟩
theorem nw_262 : Jvm.Cond.instanceMethod ({ cls := "MarginHouse", name := "planLayers", desc := "(I)V" } : Jvm.MethodName) ∈ nd_ := List.mem_filter.mpr ⟨List.mem_append_right _ (List.mem_of_getElem? (i := 398) (by decide +kernel)), by decide +kernel⟩
theorem nw_263 : Jvm.Cond.code ({ cls := "MarginHouse", name := "planLayers", desc := "(I)V" } : Jvm.MethodName) prog_1_method_38_code (2 : Nat) (Option.none : Option Jvm.ClassFile.FieldType) ∈ nd_ := List.mem_filter.mpr ⟨List.mem_append_right _ (List.mem_of_getElem? (i := 399) (by decide +kernel)), by decide +kernel⟩
theorem nw_264 : Jvm.Cond.methodLink "MarginHouse" (207 : Nat) ({ cls := "MarginHouse$Plan", name := "startLayers", desc := "(I)V" } : Jvm.MethodName) ∈ nd_ := List.mem_filter.mpr ⟨List.mem_append_right _ (List.mem_of_getElem? (i := 400) (by decide +kernel)), by decide +kernel⟩
theorem nw_265 : Jvm.Cond.instanceMethod ({ cls := "MarginHouse$Plan", name := "startLayers", desc := "(I)V" } : Jvm.MethodName) ∈ nd_ := List.mem_filter.mpr ⟨List.mem_append_right _ (List.mem_of_getElem? (i := 401) (by decide +kernel)), by decide +kernel⟩
theorem nw_266 : Jvm.Cond.selects "MarginHouse$Plan" ({ cls := "MarginHouse$Plan", name := "startLayers", desc := "(I)V" } : Jvm.MethodName) ({ cls := "MarginHouse$Plan", name := "startLayers", desc := "(I)V" } : Jvm.MethodName) ∈ nd_ := List.mem_filter.mpr ⟨List.mem_append_right _ (List.mem_of_getElem? (i := 402) (by decide +kernel)), by decide +kernel⟩
theorem nw_267 : Jvm.Cond.code ({ cls := "MarginHouse$Plan", name := "startLayers", desc := "(I)V" } : Jvm.MethodName) prog_4_method_2_code (3 : Nat) (Option.none : Option Jvm.ClassFile.FieldType) ∈ nd_ := List.mem_filter.mpr ⟨List.mem_append_right _ (List.mem_of_getElem? (i := 403) (by decide +kernel)), by decide +kernel⟩
theorem nw_268 : Jvm.Cond.methodLink "MarginHouse$Plan" (39 : Nat) ({ cls := "java/lang/Math", name := "max", desc := "(JJ)J" } : Jvm.MethodName) ∈ nd_ := List.mem_filter.mpr ⟨List.mem_append_right _ (List.mem_of_getElem? (i := 404) (by decide +kernel)), by decide +kernel⟩
theorem nw_269 : Jvm.Cond.methodLink "MarginHouse" (210 : Nat) ({ cls := "MarginHouse$Plan", name := "bearByOwnContribution", desc := "(I)V" } : Jvm.MethodName) ∈ nd_ := List.mem_filter.mpr ⟨List.mem_append_right _ (List.mem_of_getElem? (i := 405) (by decide +kernel)), by decide +kernel⟩
theorem nw_270 : Jvm.Cond.instanceMethod ({ cls := "MarginHouse$Plan", name := "bearByOwnContribution", desc := "(I)V" } : Jvm.MethodName) ∈ nd_ := List.mem_filter.mpr ⟨List.mem_append_right _ (List.mem_of_getElem? (i := 406) (by decide +kernel)), by decide +kernel⟩
theorem nw_271 : Jvm.Cond.selects "MarginHouse$Plan" ({ cls := "MarginHouse$Plan", name := "bearByOwnContribution", desc := "(I)V" } : Jvm.MethodName) ({ cls := "MarginHouse$Plan", name := "bearByOwnContribution", desc := "(I)V" } : Jvm.MethodName) ∈ nd_ := List.mem_filter.mpr ⟨List.mem_append_right _ (List.mem_of_getElem? (i := 407) (by decide +kernel)), by decide +kernel⟩
theorem nw_272 : Jvm.Cond.code ({ cls := "MarginHouse$Plan", name := "bearByOwnContribution", desc := "(I)V" } : Jvm.MethodName) prog_4_method_3_code (4 : Nat) (Option.none : Option Jvm.ClassFile.FieldType) ∈ nd_ := List.mem_filter.mpr ⟨List.mem_append_right _ (List.mem_of_getElem? (i := 408) (by decide +kernel)), by decide +kernel⟩
theorem nw_273 : Jvm.Cond.methodLink "MarginHouse$Plan" (45 : Nat) ({ cls := "java/lang/Math", name := "min", desc := "(JJ)J" } : Jvm.MethodName) ∈ nd_ := List.mem_filter.mpr ⟨List.mem_append_right _ (List.mem_of_getElem? (i := 409) (by decide +kernel)), by decide +kernel⟩
theorem nw_274 : Jvm.Cond.static ({ cls := "java/lang/Math", name := "min", desc := "(JJ)J" } : Jvm.MethodName) ∈ nd_ := List.mem_filter.mpr ⟨List.mem_append_right _ (List.mem_of_getElem? (i := 410) (by decide +kernel)), by decide +kernel⟩
theorem nw_275 : Jvm.Cond.code ({ cls := "java/lang/Math", name := "min", desc := "(JJ)J" } : Jvm.MethodName) prog_11_method_70_code (4 : Nat) (Option.some Jvm.ClassFile.FieldType.long) ∈ nd_ := List.mem_filter.mpr ⟨List.mem_append_right _ (List.mem_of_getElem? (i := 411) (by decide +kernel)), by decide +kernel⟩
theorem nw_276 : Jvm.Cond.methodLink "MarginHouse$Plan" (48 : Nat) ({ cls := "MarginHouse$Plan", name := "bear", desc := "(IJ)V" } : Jvm.MethodName) ∈ nd_ := List.mem_filter.mpr ⟨List.mem_append_right _ (List.mem_of_getElem? (i := 412) (by decide +kernel)), by decide +kernel⟩
theorem nw_277 : Jvm.Cond.instanceMethod ({ cls := "MarginHouse$Plan", name := "bear", desc := "(IJ)V" } : Jvm.MethodName) ∈ nd_ := List.mem_filter.mpr ⟨List.mem_append_right _ (List.mem_of_getElem? (i := 414) (by decide +kernel)), by decide +kernel⟩
theorem nw_278 : Jvm.Cond.code ({ cls := "MarginHouse$Plan", name := "bear", desc := "(IJ)V" } : Jvm.MethodName) prog_4_method_8_code (4 : Nat) (Option.none : Option Jvm.ClassFile.FieldType) ∈ nd_ := List.mem_filter.mpr ⟨List.mem_append_right _ (List.mem_of_getElem? (i := 415) (by decide +kernel)), by decide +kernel⟩
theorem nw_279 : Jvm.Cond.methodLink "MarginHouse" (213 : Nat) ({ cls := "MarginHouse$Plan", name := "bearByCapital", desc := "()V" } : Jvm.MethodName) ∈ nd_ := List.mem_filter.mpr ⟨List.mem_append_right _ (List.mem_of_getElem? (i := 416) (by decide +kernel)), by decide +kernel⟩
theorem nw_280 : Jvm.Cond.instanceMethod ({ cls := "MarginHouse$Plan", name := "bearByCapital", desc := "()V" } : Jvm.MethodName) ∈ nd_ := List.mem_filter.mpr ⟨List.mem_append_right _ (List.mem_of_getElem? (i := 417) (by decide +kernel)), by decide +kernel⟩
theorem nw_281 : Jvm.Cond.selects "MarginHouse$Plan" ({ cls := "MarginHouse$Plan", name := "bearByCapital", desc := "()V" } : Jvm.MethodName) ({ cls := "MarginHouse$Plan", name := "bearByCapital", desc := "()V" } : Jvm.MethodName) ∈ nd_ := List.mem_filter.mpr ⟨List.mem_append_right _ (List.mem_of_getElem? (i := 418) (by decide +kernel)), by decide +kernel⟩
theorem nw_282 : Jvm.Cond.code ({ cls := "MarginHouse$Plan", name := "bearByCapital", desc := "()V" } : Jvm.MethodName) prog_4_method_4_code (3 : Nat) (Option.none : Option Jvm.ClassFile.FieldType) ∈ nd_ := List.mem_filter.mpr ⟨List.mem_append_right _ (List.mem_of_getElem? (i := 419) (by decide +kernel)), by decide +kernel⟩
theorem nw_283 : Jvm.Cond.methodLink "MarginHouse" (216 : Nat) ({ cls := "MarginHouse", name := "weighContributions", desc := "()V" } : Jvm.MethodName) ∈ nd_ := List.mem_filter.mpr ⟨List.mem_append_right _ (List.mem_of_getElem? (i := 420) (by decide +kernel)), by decide +kernel⟩
theorem nw_284 : Jvm.Cond.instanceMethod ({ cls := "MarginHouse", name := "weighContributions", desc := "()V" } : Jvm.MethodName) ∈ nd_ := List.mem_filter.mpr ⟨List.mem_append_right _ (List.mem_of_getElem? (i := 422) (by decide +kernel)), by decide +kernel⟩
theorem nw_285 : Jvm.Cond.code ({ cls := "MarginHouse", name := "weighContributions", desc := "()V" } : Jvm.MethodName) prog_1_method_39_code (2 : Nat) (Option.none : Option Jvm.ClassFile.FieldType) ∈ nd_ := List.mem_filter.mpr ⟨List.mem_append_right _ (List.mem_of_getElem? (i := 423) (by decide +kernel)), by decide +kernel⟩
theorem nw_286 : Jvm.Cond.methodLink "MarginHouse" (219 : Nat) ({ cls := "MarginHouse$Plan", name := "bearByContributions", desc := "()V" } : Jvm.MethodName) ∈ nd_ := List.mem_filter.mpr ⟨List.mem_append_right _ (List.mem_of_getElem? (i := 424) (by decide +kernel)), by decide +kernel⟩
theorem nw_287 : Jvm.Cond.instanceMethod ({ cls := "MarginHouse$Plan", name := "bearByContributions", desc := "()V" } : Jvm.MethodName) ∈ nd_ := List.mem_filter.mpr ⟨List.mem_append_right _ (List.mem_of_getElem? (i := 425) (by decide +kernel)), by decide +kernel⟩
theorem nw_288 : Jvm.Cond.selects "MarginHouse$Plan" ({ cls := "MarginHouse$Plan", name := "bearByContributions", desc := "()V" } : Jvm.MethodName) ({ cls := "MarginHouse$Plan", name := "bearByContributions", desc := "()V" } : Jvm.MethodName) ∈ nd_ := List.mem_filter.mpr ⟨List.mem_append_right _ (List.mem_of_getElem? (i := 426) (by decide +kernel)), by decide +kernel⟩
theorem nw_289 : Jvm.Cond.code ({ cls := "MarginHouse$Plan", name := "bearByContributions", desc := "()V" } : Jvm.MethodName) prog_4_method_5_code (2 : Nat) (Option.none : Option Jvm.ClassFile.FieldType) ∈ nd_ := List.mem_filter.mpr ⟨List.mem_append_right _ (List.mem_of_getElem? (i := 427) (by decide +kernel)), by decide +kernel⟩
theorem nw_290 : Jvm.Cond.methodLink "MarginHouse$Plan" (52 : Nat) ({ cls := "MarginHouse$Shares", name := "split", desc := "(J)V" } : Jvm.MethodName) ∈ nd_ := List.mem_filter.mpr ⟨List.mem_append_right _ (List.mem_of_getElem? (i := 428) (by decide +kernel)), by decide +kernel⟩
theorem nw_291 : Jvm.Cond.instanceMethod ({ cls := "MarginHouse$Shares", name := "split", desc := "(J)V" } : Jvm.MethodName) ∈ nd_ := List.mem_filter.mpr ⟨List.mem_append_right _ (List.mem_of_getElem? (i := 429) (by decide +kernel)), by decide +kernel⟩
theorem nw_292 : Jvm.Cond.selects "MarginHouse$Shares" ({ cls := "MarginHouse$Shares", name := "split", desc := "(J)V" } : Jvm.MethodName) ({ cls := "MarginHouse$Shares", name := "split", desc := "(J)V" } : Jvm.MethodName) ∈ nd_ := List.mem_filter.mpr ⟨List.mem_append_right _ (List.mem_of_getElem? (i := 430) (by decide +kernel)), by decide +kernel⟩
theorem nw_293 : Jvm.Cond.code ({ cls := "MarginHouse$Shares", name := "split", desc := "(J)V" } : Jvm.MethodName) prog_5_method_2_code (6 : Nat) (Option.none : Option Jvm.ClassFile.FieldType) ∈ nd_ := List.mem_filter.mpr ⟨List.mem_append_right _ (List.mem_of_getElem? (i := 431) (by decide +kernel)), by decide +kernel⟩
theorem nw_294 : Jvm.Cond.methodLink "MarginHouse$Shares" (21 : Nat) ({ cls := "MarginHouse$Shares", name := "bearWhole", desc := "()V" } : Jvm.MethodName) ∈ nd_ := List.mem_filter.mpr ⟨List.mem_append_right _ (List.mem_of_getElem? (i := 432) (by decide +kernel)), by decide +kernel⟩
theorem nw_295 : Jvm.Cond.instanceMethod ({ cls := "MarginHouse$Shares", name := "bearWhole", desc := "()V" } : Jvm.MethodName) ∈ nd_ := List.mem_filter.mpr ⟨List.mem_append_right _ (List.mem_of_getElem? (i := 434) (by decide +kernel)), by decide +kernel⟩
theorem nw_296 : Jvm.Cond.code ({ cls := "MarginHouse$Shares", name := "bearWhole", desc := "()V" } : Jvm.MethodName) prog_5_method_3_code (2 : Nat) (Option.none : Option Jvm.ClassFile.FieldType) ∈ nd_ := List.mem_filter.mpr ⟨List.mem_append_right _ (List.mem_of_getElem? (i := 435) (by decide +kernel)), by decide +kernel⟩
theorem nw_297 : Jvm.Cond.methodLink "MarginHouse$Shares" (24 : Nat) ({ cls := "MarginHouse$Shares", name := "bearRounded", desc := "(JJ)V" } : Jvm.MethodName) ∈ nd_ := List.mem_filter.mpr ⟨List.mem_append_right _ (List.mem_of_getElem? (i := 436) (by decide +kernel)), by decide +kernel⟩
theorem nw_298 : Jvm.Cond.instanceMethod ({ cls := "MarginHouse$Shares", name := "bearRounded", desc := "(JJ)V" } : Jvm.MethodName) ∈ nd_ := List.mem_filter.mpr ⟨List.mem_append_right _ (List.mem_of_getElem? (i := 438) (by decide +kernel)), by decide +kernel⟩
theorem nw_299 : Jvm.Cond.code ({ cls := "MarginHouse$Shares", name := "bearRounded", desc := "(JJ)V" } : Jvm.MethodName) prog_5_method_4_code (8 : Nat) (Option.none : Option Jvm.ClassFile.FieldType) ∈ nd_ := List.mem_filter.mpr ⟨List.mem_append_right _ (List.mem_of_getElem? (i := 439) (by decide +kernel)), by decide +kernel⟩
theorem nw_300 : Jvm.Cond.methodLink "MarginHouse$Shares" (28 : Nat) ({ cls := "MarginHouse$Shares", name := "roundDown", desc := "(IJJ)V" } : Jvm.MethodName) ∈ nd_ := List.mem_filter.mpr ⟨List.mem_append_right _ (List.mem_of_getElem? (i := 440) (by decide +kernel)), by decide +kernel⟩
theorem nw_301 : Jvm.Cond.instanceMethod ({ cls := "MarginHouse$Shares", name := "roundDown", desc := "(IJJ)V" } : Jvm.MethodName) ∈ nd_ := List.mem_filter.mpr ⟨List.mem_append_right _ (List.mem_of_getElem? (i := 442) (by decide +kernel)), by decide +kernel⟩
theorem nw_302 : Jvm.Cond.code ({ cls := "MarginHouse$Shares", name := "roundDown", desc := "(IJJ)V" } : Jvm.MethodName) prog_5_method_5_code (15 : Nat) (Option.none : Option Jvm.ClassFile.FieldType) ∈ nd_ := List.mem_filter.mpr ⟨List.mem_append_right _ (List.mem_of_getElem? (i := 443) (by decide +kernel)), by decide +kernel⟩
theorem nw_303 : Jvm.Cond.constantLong "MarginHouse$Shares" (35 : Nat) (65535 : Int64) ∈ nd_ := List.mem_filter.mpr ⟨List.mem_append_right _ (List.mem_of_getElem? (i := 444) (by decide +kernel)), by decide +kernel⟩
theorem nw_304 : Jvm.Cond.methodLink "MarginHouse$Shares" (32 : Nat) ({ cls := "MarginHouse$Shares", name := "giveOneMore", desc := "()V" } : Jvm.MethodName) ∈ nd_ := List.mem_filter.mpr ⟨List.mem_append_right _ (List.mem_of_getElem? (i := 445) (by decide +kernel)), by decide +kernel⟩
theorem nw_305 : Jvm.Cond.instanceMethod ({ cls := "MarginHouse$Shares", name := "giveOneMore", desc := "()V" } : Jvm.MethodName) ∈ nd_ := List.mem_filter.mpr ⟨List.mem_append_right _ (List.mem_of_getElem? (i := 447) (by decide +kernel)), by decide +kernel⟩
theorem nw_306 : Jvm.Cond.code ({ cls := "MarginHouse$Shares", name := "giveOneMore", desc := "()V" } : Jvm.MethodName) prog_5_method_6_code (3 : Nat) (Option.none : Option Jvm.ClassFile.FieldType) ∈ nd_ := List.mem_filter.mpr ⟨List.mem_append_right _ (List.mem_of_getElem? (i := 448) (by decide +kernel)), by decide +kernel⟩
theorem nw_307 : Jvm.Cond.constantLong "MarginHouse$Shares" (37 : Nat) (-1 : Int64) ∈ nd_ := List.mem_filter.mpr ⟨List.mem_append_right _ (List.mem_of_getElem? (i := 449) (by decide +kernel)), by decide +kernel⟩
theorem nw_308 : Jvm.Cond.methodLink "MarginHouse" (222 : Nat) ({ cls := "MarginHouse", name := "weighCalls", desc := "()V" } : Jvm.MethodName) ∈ nd_ := List.mem_filter.mpr ⟨List.mem_append_right _ (List.mem_of_getElem? (i := 450) (by decide +kernel)), by decide +kernel⟩
theorem nw_309 : Jvm.Cond.instanceMethod ({ cls := "MarginHouse", name := "weighCalls", desc := "()V" } : Jvm.MethodName) ∈ nd_ := List.mem_filter.mpr ⟨List.mem_append_right _ (List.mem_of_getElem? (i := 452) (by decide +kernel)), by decide +kernel⟩
theorem nw_310 : Jvm.Cond.code ({ cls := "MarginHouse", name := "weighCalls", desc := "()V" } : Jvm.MethodName) prog_1_method_40_code (4 : Nat) (Option.none : Option Jvm.ClassFile.FieldType) ∈ nd_ := List.mem_filter.mpr ⟨List.mem_append_right _ (List.mem_of_getElem? (i := 453) (by decide +kernel)), by decide +kernel⟩
theorem nw_311 : Jvm.Cond.methodLink "MarginHouse" (240 : Nat) ({ cls := "java/lang/Math", name := "min", desc := "(JJ)J" } : Jvm.MethodName) ∈ nd_ := List.mem_filter.mpr ⟨List.mem_append_right _ (List.mem_of_getElem? (i := 454) (by decide +kernel)), by decide +kernel⟩
theorem nw_312 : Jvm.Cond.methodLink "MarginHouse" (225 : Nat) ({ cls := "MarginHouse$Plan", name := "bearByCalls", desc := "()V" } : Jvm.MethodName) ∈ nd_ := List.mem_filter.mpr ⟨List.mem_append_right _ (List.mem_of_getElem? (i := 455) (by decide +kernel)), by decide +kernel⟩
theorem nw_313 : Jvm.Cond.instanceMethod ({ cls := "MarginHouse$Plan", name := "bearByCalls", desc := "()V" } : Jvm.MethodName) ∈ nd_ := List.mem_filter.mpr ⟨List.mem_append_right _ (List.mem_of_getElem? (i := 456) (by decide +kernel)), by decide +kernel⟩
theorem nw_314 : Jvm.Cond.selects "MarginHouse$Plan" ({ cls := "MarginHouse$Plan", name := "bearByCalls", desc := "()V" } : Jvm.MethodName) ({ cls := "MarginHouse$Plan", name := "bearByCalls", desc := "()V" } : Jvm.MethodName) ∈ nd_ := List.mem_filter.mpr ⟨List.mem_append_right _ (List.mem_of_getElem? (i := 457) (by decide +kernel)), by decide +kernel⟩
theorem nw_315 : Jvm.Cond.code ({ cls := "MarginHouse$Plan", name := "bearByCalls", desc := "()V" } : Jvm.MethodName) prog_4_method_6_code (2 : Nat) (Option.none : Option Jvm.ClassFile.FieldType) ∈ nd_ := List.mem_filter.mpr ⟨List.mem_append_right _ (List.mem_of_getElem? (i := 458) (by decide +kernel)), by decide +kernel⟩
theorem nw_316 : Jvm.Cond.methodLink "MarginHouse" (228 : Nat) ({ cls := "MarginHouse$Plan", name := "leaveTheRest", desc := "()V" } : Jvm.MethodName) ∈ nd_ := List.mem_filter.mpr ⟨List.mem_append_right _ (List.mem_of_getElem? (i := 459) (by decide +kernel)), by decide +kernel⟩
theorem nw_317 : Jvm.Cond.instanceMethod ({ cls := "MarginHouse$Plan", name := "leaveTheRest", desc := "()V" } : Jvm.MethodName) ∈ nd_ := List.mem_filter.mpr ⟨List.mem_append_right _ (List.mem_of_getElem? (i := 460) (by decide +kernel)), by decide +kernel⟩
theorem nw_318 : Jvm.Cond.selects "MarginHouse$Plan" ({ cls := "MarginHouse$Plan", name := "leaveTheRest", desc := "()V" } : Jvm.MethodName) ({ cls := "MarginHouse$Plan", name := "leaveTheRest", desc := "()V" } : Jvm.MethodName) ∈ nd_ := List.mem_filter.mpr ⟨List.mem_append_right _ (List.mem_of_getElem? (i := 461) (by decide +kernel)), by decide +kernel⟩
theorem nw_319 : Jvm.Cond.code ({ cls := "MarginHouse$Plan", name := "leaveTheRest", desc := "()V" } : Jvm.MethodName) prog_4_method_7_code (1 : Nat) (Option.none : Option Jvm.ClassFile.FieldType) ∈ nd_ := List.mem_filter.mpr ⟨List.mem_append_right _ (List.mem_of_getElem? (i := 462) (by decide +kernel)), by decide +kernel⟩
theorem nw_320 : Jvm.Cond.methodLink "MarginHouse" (141 : Nat) ({ cls := "MarginHouse", name := "carryOutPlan", desc := "(I)V" } : Jvm.MethodName) ∈ nd_ := List.mem_filter.mpr ⟨List.mem_append_right _ (List.mem_of_getElem? (i := 463) (by decide +kernel)), by decide +kernel⟩
theorem nw_321 : Jvm.Cond.instanceMethod ({ cls := "MarginHouse", name := "carryOutPlan", desc := "(I)V" } : Jvm.MethodName) ∈ nd_ := List.mem_filter.mpr ⟨List.mem_append_right _ (List.mem_of_getElem? (i := 465) (by decide +kernel)), by decide +kernel⟩
theorem nw_322 : Jvm.Cond.code ({ cls := "MarginHouse", name := "carryOutPlan", desc := "(I)V" } : Jvm.MethodName) prog_1_method_41_code (3 : Nat) (Option.none : Option Jvm.ClassFile.FieldType) ∈ nd_ := List.mem_filter.mpr ⟨List.mem_append_right _ (List.mem_of_getElem? (i := 466) (by decide +kernel)), by decide +kernel⟩
theorem nw_323 : Jvm.Cond.methodLink "MarginHouseLaw" (129 : Nat) ({ cls := "MarginHouseLaw", name := "told", desc := "(LMarginHouse;II[J)I" } : Jvm.MethodName) ∈ nd_ := List.mem_filter.mpr ⟨List.mem_append_right _ (List.mem_of_getElem? (i := 467) (by decide +kernel)), by decide +kernel⟩
theorem nw_324 : Jvm.Cond.static ({ cls := "MarginHouseLaw", name := "told", desc := "(LMarginHouse;II[J)I" } : Jvm.MethodName) ∈ nd_ := List.mem_filter.mpr ⟨List.mem_append_right _ (List.mem_of_getElem? (i := 468) (by decide +kernel)), by decide +kernel⟩
theorem nw_325 : Jvm.Cond.codeWith ({ cls := "MarginHouseLaw", name := "told", desc := "(LMarginHouse;II[J)I" } : Jvm.MethodName) method_15_code (5 : Nat) (Option.some Jvm.ClassFile.FieldType.int) [((0 : Nat), (9 : Nat), (12 : Nat), (13 : Nat))] ∈ nd_ := List.mem_filter.mpr ⟨List.mem_append_right _ (List.mem_of_getElem? (i := 469) (by decide +kernel)), by decide +kernel⟩
theorem nw_326 : Jvm.Cond.methodLink "MarginHouseLaw" (57 : Nat) ({ cls := "MarginHouse", name := "told", desc := "(II)J" } : Jvm.MethodName) ∈ nd_ := List.mem_filter.mpr ⟨List.mem_append_right _ (List.mem_of_getElem? (i := 470) (by decide +kernel)), by decide +kernel⟩
theorem nw_327 : Jvm.Cond.instanceMethod ({ cls := "MarginHouse", name := "told", desc := "(II)J" } : Jvm.MethodName) ∈ nd_ := List.mem_filter.mpr ⟨List.mem_append_right _ (List.mem_of_getElem? (i := 471) (by decide +kernel)), by decide +kernel⟩
theorem nw_328 : Jvm.Cond.selects "MarginHouse" ({ cls := "MarginHouse", name := "told", desc := "(II)J" } : Jvm.MethodName) ({ cls := "MarginHouse", name := "told", desc := "(II)J" } : Jvm.MethodName) ∈ nd_ := List.mem_filter.mpr ⟨List.mem_append_right _ (List.mem_of_getElem? (i := 472) (by decide +kernel)), by decide +kernel⟩
theorem nw_329 : Jvm.Cond.code ({ cls := "MarginHouse", name := "told", desc := "(II)J" } : Jvm.MethodName) prog_1_method_15_code (3 : Nat) (Option.some Jvm.ClassFile.FieldType.long) ∈ nd_ := List.mem_filter.mpr ⟨List.mem_append_right _ (List.mem_of_getElem? (i := 473) (by decide +kernel)), by decide +kernel⟩
theorem nw_330 : Jvm.Cond.constantLong "MarginHouse" (144 : Nat) (2 : Int64) ∈ nd_ := List.mem_filter.mpr ⟨List.mem_append_right _ (List.mem_of_getElem? (i := 474) (by decide +kernel)), by decide +kernel⟩
theorem nw_331 : Jvm.Cond.methodLink "MarginHouseLaw" (132 : Nat) ({ cls := "MarginHouseLaw", name := "position", desc := "(LMarginHouse;II[J)I" } : Jvm.MethodName) ∈ nd_ := List.mem_filter.mpr ⟨List.mem_append_right _ (List.mem_of_getElem? (i := 475) (by decide +kernel)), by decide +kernel⟩
theorem nw_332 : Jvm.Cond.static ({ cls := "MarginHouseLaw", name := "position", desc := "(LMarginHouse;II[J)I" } : Jvm.MethodName) ∈ nd_ := List.mem_filter.mpr ⟨List.mem_append_right _ (List.mem_of_getElem? (i := 476) (by decide +kernel)), by decide +kernel⟩
theorem nw_333 : Jvm.Cond.codeWith ({ cls := "MarginHouseLaw", name := "position", desc := "(LMarginHouse;II[J)I" } : Jvm.MethodName) method_16_code (5 : Nat) (Option.some Jvm.ClassFile.FieldType.int) [((0 : Nat), (10 : Nat), (13 : Nat), (13 : Nat))] ∈ nd_ := List.mem_filter.mpr ⟨List.mem_append_right _ (List.mem_of_getElem? (i := 477) (by decide +kernel)), by decide +kernel⟩
theorem nw_334 : Jvm.Cond.methodLink "MarginHouseLaw" (61 : Nat) ({ cls := "MarginHouse", name := "position", desc := "(II)I" } : Jvm.MethodName) ∈ nd_ := List.mem_filter.mpr ⟨List.mem_append_right _ (List.mem_of_getElem? (i := 478) (by decide +kernel)), by decide +kernel⟩
theorem nw_335 : Jvm.Cond.instanceMethod ({ cls := "MarginHouse", name := "position", desc := "(II)I" } : Jvm.MethodName) ∈ nd_ := List.mem_filter.mpr ⟨List.mem_append_right _ (List.mem_of_getElem? (i := 479) (by decide +kernel)), by decide +kernel⟩
theorem nw_336 : Jvm.Cond.selects "MarginHouse" ({ cls := "MarginHouse", name := "position", desc := "(II)I" } : Jvm.MethodName) ({ cls := "MarginHouse", name := "position", desc := "(II)I" } : Jvm.MethodName) ∈ nd_ := List.mem_filter.mpr ⟨List.mem_append_right _ (List.mem_of_getElem? (i := 480) (by decide +kernel)), by decide +kernel⟩
theorem nw_337 : Jvm.Cond.code ({ cls := "MarginHouse", name := "position", desc := "(II)I" } : Jvm.MethodName) prog_1_method_16_code (3 : Nat) (Option.some Jvm.ClassFile.FieldType.int) ∈ nd_ := List.mem_filter.mpr ⟨List.mem_append_right _ (List.mem_of_getElem? (i := 481) (by decide +kernel)), by decide +kernel⟩
theorem nw_338 : Jvm.Cond.methodLink "MarginHouseLaw" (135 : Nat) ({ cls := "MarginHouseLaw", name := "bore", desc := "(LMarginHouse;I[J)I" } : Jvm.MethodName) ∈ nd_ := List.mem_filter.mpr ⟨List.mem_append_right _ (List.mem_of_getElem? (i := 482) (by decide +kernel)), by decide +kernel⟩
theorem nw_339 : Jvm.Cond.static ({ cls := "MarginHouseLaw", name := "bore", desc := "(LMarginHouse;I[J)I" } : Jvm.MethodName) ∈ nd_ := List.mem_filter.mpr ⟨List.mem_append_right _ (List.mem_of_getElem? (i := 483) (by decide +kernel)), by decide +kernel⟩
theorem nw_340 : Jvm.Cond.codeWith ({ cls := "MarginHouseLaw", name := "bore", desc := "(LMarginHouse;I[J)I" } : Jvm.MethodName) method_17_code (4 : Nat) (Option.some Jvm.ClassFile.FieldType.int) [((0 : Nat), (8 : Nat), (11 : Nat), (13 : Nat))] ∈ nd_ := List.mem_filter.mpr ⟨List.mem_append_right _ (List.mem_of_getElem? (i := 484) (by decide +kernel)), by decide +kernel⟩
theorem nw_341 : Jvm.Cond.methodLink "MarginHouseLaw" (64 : Nat) ({ cls := "MarginHouse", name := "bore", desc := "(I)J" } : Jvm.MethodName) ∈ nd_ := List.mem_filter.mpr ⟨List.mem_append_right _ (List.mem_of_getElem? (i := 485) (by decide +kernel)), by decide +kernel⟩
theorem nw_342 : Jvm.Cond.instanceMethod ({ cls := "MarginHouse", name := "bore", desc := "(I)J" } : Jvm.MethodName) ∈ nd_ := List.mem_filter.mpr ⟨List.mem_append_right _ (List.mem_of_getElem? (i := 486) (by decide +kernel)), by decide +kernel⟩
theorem nw_343 : Jvm.Cond.selects "MarginHouse" ({ cls := "MarginHouse", name := "bore", desc := "(I)J" } : Jvm.MethodName) ({ cls := "MarginHouse", name := "bore", desc := "(I)J" } : Jvm.MethodName) ∈ nd_ := List.mem_filter.mpr ⟨List.mem_append_right _ (List.mem_of_getElem? (i := 487) (by decide +kernel)), by decide +kernel⟩
theorem nw_344 : Jvm.Cond.code ({ cls := "MarginHouse", name := "bore", desc := "(I)J" } : Jvm.MethodName) prog_1_method_17_code (2 : Nat) (Option.some Jvm.ClassFile.FieldType.long) ∈ nd_ := List.mem_filter.mpr ⟨List.mem_append_right _ (List.mem_of_getElem? (i := 488) (by decide +kernel)), by decide +kernel⟩
theorem nw_345 : Jvm.Cond.constantLong "MarginHouse" (146 : Nat) (4 : Int64) ∈ nd_ := List.mem_filter.mpr ⟨List.mem_append_right _ (List.mem_of_getElem? (i := 489) (by decide +kernel)), by decide +kernel⟩
theorem nw_346 : Jvm.Cond.methodLink "MarginHouseLaw" (138 : Nat) ({ cls := "MarginHouseLaw", name := "all", desc := "(LMarginHouse;I[J)I" } : Jvm.MethodName) ∈ nd_ := List.mem_filter.mpr ⟨List.mem_append_right _ (List.mem_of_getElem? (i := 490) (by decide +kernel)), by decide +kernel⟩
theorem nw_347 : Jvm.Cond.static ({ cls := "MarginHouseLaw", name := "all", desc := "(LMarginHouse;I[J)I" } : Jvm.MethodName) ∈ nd_ := List.mem_filter.mpr ⟨List.mem_append_right _ (List.mem_of_getElem? (i := 491) (by decide +kernel)), by decide +kernel⟩
theorem nw_348 : Jvm.Cond.codeWith ({ cls := "MarginHouseLaw", name := "all", desc := "(LMarginHouse;I[J)I" } : Jvm.MethodName) method_18_code (4 : Nat) (Option.some Jvm.ClassFile.FieldType.int) [((0 : Nat), (8 : Nat), (11 : Nat), (13 : Nat))] ∈ nd_ := List.mem_filter.mpr ⟨List.mem_append_right _ (List.mem_of_getElem? (i := 492) (by decide +kernel)), by decide +kernel⟩
theorem nw_349 : Jvm.Cond.methodLink "MarginHouseLaw" (67 : Nat) ({ cls := "MarginHouse", name := "all", desc := "(I)J" } : Jvm.MethodName) ∈ nd_ := List.mem_filter.mpr ⟨List.mem_append_right _ (List.mem_of_getElem? (i := 493) (by decide +kernel)), by decide +kernel⟩
theorem nw_350 : Jvm.Cond.instanceMethod ({ cls := "MarginHouse", name := "all", desc := "(I)J" } : Jvm.MethodName) ∈ nd_ := List.mem_filter.mpr ⟨List.mem_append_right _ (List.mem_of_getElem? (i := 494) (by decide +kernel)), by decide +kernel⟩
theorem nw_351 : Jvm.Cond.selects "MarginHouse" ({ cls := "MarginHouse", name := "all", desc := "(I)J" } : Jvm.MethodName) ({ cls := "MarginHouse", name := "all", desc := "(I)J" } : Jvm.MethodName) ∈ nd_ := List.mem_filter.mpr ⟨List.mem_append_right _ (List.mem_of_getElem? (i := 495) (by decide +kernel)), by decide +kernel⟩
theorem nw_352 : Jvm.Cond.code ({ cls := "MarginHouse", name := "all", desc := "(I)J" } : Jvm.MethodName) prog_1_method_18_code (2 : Nat) (Option.some Jvm.ClassFile.FieldType.long) ∈ nd_ := List.mem_filter.mpr ⟨List.mem_append_right _ (List.mem_of_getElem? (i := 496) (by decide +kernel)), by decide +kernel⟩
theorem nw_353 : Jvm.Cond.constantLong "MarginHouse" (148 : Nat) (5 : Int64) ∈ nd_ := List.mem_filter.mpr ⟨List.mem_append_right _ (List.mem_of_getElem? (i := 497) (by decide +kernel)), by decide +kernel⟩
theorem nw_354 : Jvm.Cond.methodLink "MarginHouse" (150 : Nat) ({ cls := "MarginHouse", name := "sumCash", desc := "()J" } : Jvm.MethodName) ∈ nd_ := List.mem_filter.mpr ⟨List.mem_append_right _ (List.mem_of_getElem? (i := 498) (by decide +kernel)), by decide +kernel⟩
theorem nw_355 : Jvm.Cond.instanceMethod ({ cls := "MarginHouse", name := "sumCash", desc := "()J" } : Jvm.MethodName) ∈ nd_ := List.mem_filter.mpr ⟨List.mem_append_right _ (List.mem_of_getElem? (i := 500) (by decide +kernel)), by decide +kernel⟩
theorem nw_356 : Jvm.Cond.code ({ cls := "MarginHouse", name := "sumCash", desc := "()J" } : Jvm.MethodName) prog_1_method_31_code (4 : Nat) (Option.some Jvm.ClassFile.FieldType.long) ∈ nd_ := List.mem_filter.mpr ⟨List.mem_append_right _ (List.mem_of_getElem? (i := 501) (by decide +kernel)), by decide +kernel⟩
theorem nw_357 : Jvm.Cond.methodLink "MarginHouse" (154 : Nat) ({ cls := "MarginHouse", name := "sumContributions", desc := "()J" } : Jvm.MethodName) ∈ nd_ := List.mem_filter.mpr ⟨List.mem_append_right _ (List.mem_of_getElem? (i := 502) (by decide +kernel)), by decide +kernel⟩
theorem nw_358 : Jvm.Cond.instanceMethod ({ cls := "MarginHouse", name := "sumContributions", desc := "()J" } : Jvm.MethodName) ∈ nd_ := List.mem_filter.mpr ⟨List.mem_append_right _ (List.mem_of_getElem? (i := 504) (by decide +kernel)), by decide +kernel⟩
theorem nw_359 : Jvm.Cond.code ({ cls := "MarginHouse", name := "sumContributions", desc := "()J" } : Jvm.MethodName) prog_1_method_32_code (4 : Nat) (Option.some Jvm.ClassFile.FieldType.long) ∈ nd_ := List.mem_filter.mpr ⟨List.mem_append_right _ (List.mem_of_getElem? (i := 505) (by decide +kernel)), by decide +kernel⟩
theorem nw_360 : Jvm.Cond.methodLink "MarginHouse" (157 : Nat) ({ cls := "MarginHouse", name := "sumUnitsOpen", desc := "()J" } : Jvm.MethodName) ∈ nd_ := List.mem_filter.mpr ⟨List.mem_append_right _ (List.mem_of_getElem? (i := 506) (by decide +kernel)), by decide +kernel⟩
theorem nw_361 : Jvm.Cond.instanceMethod ({ cls := "MarginHouse", name := "sumUnitsOpen", desc := "()J" } : Jvm.MethodName) ∈ nd_ := List.mem_filter.mpr ⟨List.mem_append_right _ (List.mem_of_getElem? (i := 508) (by decide +kernel)), by decide +kernel⟩
theorem nw_362 : Jvm.Cond.code ({ cls := "MarginHouse", name := "sumUnitsOpen", desc := "()J" } : Jvm.MethodName) prog_1_method_33_code (5 : Nat) (Option.some Jvm.ClassFile.FieldType.long) ∈ nd_ := List.mem_filter.mpr ⟨List.mem_append_right _ (List.mem_of_getElem? (i := 509) (by decide +kernel)), by decide +kernel⟩
theorem nw_363 : Jvm.Cond.methodLink "MarginHouse" (187 : Nat) ({ cls := "java/lang/Math", name := "max", desc := "(II)I" } : Jvm.MethodName) ∈ nd_ := List.mem_filter.mpr ⟨List.mem_append_right _ (List.mem_of_getElem? (i := 510) (by decide +kernel)), by decide +kernel⟩
theorem nw_364 : Jvm.Cond.static ({ cls := "java/lang/Math", name := "max", desc := "(II)I" } : Jvm.MethodName) ∈ nd_ := List.mem_filter.mpr ⟨List.mem_append_right _ (List.mem_of_getElem? (i := 511) (by decide +kernel)), by decide +kernel⟩
theorem nw_365 : Jvm.Cond.code ({ cls := "java/lang/Math", name := "max", desc := "(II)I" } : Jvm.MethodName) prog_11_method_65_code (2 : Nat) (Option.some Jvm.ClassFile.FieldType.int) ∈ nd_ := List.mem_filter.mpr ⟨List.mem_append_right _ (List.mem_of_getElem? (i := 512) (by decide +kernel)), by decide +kernel⟩
theorem nw_366 : Jvm.Cond.classLink "MarginHouseLaw" (71 : Nat) "MarginHouseModel" ∈ nd_ := List.mem_filter.mpr ⟨List.mem_append_right _ (List.mem_of_getElem? (i := 513) (by decide +kernel)), by decide +kernel⟩
theorem nw_367 : Jvm.Cond.instantiable "MarginHouseModel" (24 : Nat) ∈ nd_ := List.mem_filter.mpr ⟨List.mem_append_right _ (List.mem_of_getElem? (i := 514) (by decide +kernel)), by decide +kernel⟩
theorem nw_368 : Jvm.Cond.methodLink "MarginHouseLaw" (73 : Nat) ({ cls := "MarginHouseModel", name := "<init>", desc := "()V" } : Jvm.MethodName) ∈ nd_ := List.mem_filter.mpr ⟨List.mem_append_right _ (List.mem_of_getElem? (i := 515) (by decide +kernel)), by decide +kernel⟩
theorem nw_369 : Jvm.Cond.instanceMethod ({ cls := "MarginHouseModel", name := "<init>", desc := "()V" } : Jvm.MethodName) ∈ nd_ := List.mem_filter.mpr ⟨List.mem_append_right _ (List.mem_of_getElem? (i := 516) (by decide +kernel)), by decide +kernel⟩
theorem nw_370 : Jvm.Cond.code ({ cls := "MarginHouseModel", name := "<init>", desc := "()V" } : Jvm.MethodName) prog_7_method_1_code (1 : Nat) (Option.none : Option Jvm.ClassFile.FieldType) ∈ nd_ := List.mem_filter.mpr ⟨List.mem_append_right _ (List.mem_of_getElem? (i := 517) (by decide +kernel)), by decide +kernel⟩
theorem nw_371 : Jvm.Cond.methodLink "MarginHouseModel" (1 : Nat) ({ cls := "java/lang/Object", name := "<init>", desc := "()V" } : Jvm.MethodName) ∈ nd_ := List.mem_filter.mpr ⟨List.mem_append_right _ (List.mem_of_getElem? (i := 518) (by decide +kernel)), by decide +kernel⟩
theorem nw_372 : Jvm.Cond.fieldLink "MarginHouseModel" (62 : Nat) "MarginHouseModel" "thrown" "I" ∈ nd_ := List.mem_filter.mpr ⟨List.mem_append_right _ (List.mem_of_getElem? (i := 519) (by decide +kernel)), by decide +kernel⟩
theorem nw_373 : Jvm.Cond.fieldLink "MarginHouseModel" (66 : Nat) "MarginHouseModel" "members" "I" ∈ nd_ := List.mem_filter.mpr ⟨List.mem_append_right _ (List.mem_of_getElem? (i := 520) (by decide +kernel)), by decide +kernel⟩
theorem nw_374 : Jvm.Cond.fieldLink "MarginHouseModel" (69 : Nat) "MarginHouseModel" "instruments" "I" ∈ nd_ := List.mem_filter.mpr ⟨List.mem_append_right _ (List.mem_of_getElem? (i := 521) (by decide +kernel)), by decide +kernel⟩
theorem nw_375 : Jvm.Cond.fieldLink "MarginHouseModel" (7 : Nat) "MarginHouseModel" "cash" "[J" ∈ nd_ := List.mem_filter.mpr ⟨List.mem_append_right _ (List.mem_of_getElem? (i := 522) (by decide +kernel)), by decide +kernel⟩
theorem nw_376 : Jvm.Cond.fieldLink "MarginHouseModel" (13 : Nat) "MarginHouseModel" "fund" "[J" ∈ nd_ := List.mem_filter.mpr ⟨List.mem_append_right _ (List.mem_of_getElem? (i := 523) (by decide +kernel)), by decide +kernel⟩
theorem nw_377 : Jvm.Cond.fieldLink "MarginHouseModel" (16 : Nat) "MarginHouseModel" "state" "[I" ∈ nd_ := List.mem_filter.mpr ⟨List.mem_append_right _ (List.mem_of_getElem? (i := 524) (by decide +kernel)), by decide +kernel⟩
theorem nw_378 : Jvm.Cond.fieldLink "MarginHouseModel" (20 : Nat) "MarginHouseModel" "positions" "[I" ∈ nd_ := List.mem_filter.mpr ⟨List.mem_append_right _ (List.mem_of_getElem? (i := 525) (by decide +kernel)), by decide +kernel⟩
theorem nw_379 : Jvm.Cond.fieldLink "MarginHouseModel" (23 : Nat) "MarginHouseModel" "bids" "[I" ∈ nd_ := List.mem_filter.mpr ⟨List.mem_append_right _ (List.mem_of_getElem? (i := 526) (by decide +kernel)), by decide +kernel⟩
theorem nw_380 : Jvm.Cond.fieldLink "MarginHouseModel" (26 : Nat) "MarginHouseModel" "prices" "[I" ∈ nd_ := List.mem_filter.mpr ⟨List.mem_append_right _ (List.mem_of_getElem? (i := 527) (by decide +kernel)), by decide +kernel⟩
theorem nw_381 : Jvm.Cond.fieldLink "MarginHouseModel" (29 : Nat) "MarginHouseModel" "limits" "[I" ∈ nd_ := List.mem_filter.mpr ⟨List.mem_append_right _ (List.mem_of_getElem? (i := 528) (by decide +kernel)), by decide +kernel⟩
theorem nw_382 : Jvm.Cond.fieldLink "MarginHouseModel" (32 : Nat) "MarginHouseModel" "extras" "[I" ∈ nd_ := List.mem_filter.mpr ⟨List.mem_append_right _ (List.mem_of_getElem? (i := 529) (by decide +kernel)), by decide +kernel⟩
theorem nw_383 : Jvm.Cond.fieldLink "MarginHouseModel" (35 : Nat) "MarginHouseModel" "moves" "[I" ∈ nd_ := List.mem_filter.mpr ⟨List.mem_append_right _ (List.mem_of_getElem? (i := 530) (by decide +kernel)), by decide +kernel⟩
theorem nw_384 : Jvm.Cond.fieldLink "MarginHouseModel" (84 : Nat) "MarginHouseModel" "capital" "J" ∈ nd_ := List.mem_filter.mpr ⟨List.mem_append_right _ (List.mem_of_getElem? (i := 531) (by decide +kernel)), by decide +kernel⟩
theorem nw_385 : Jvm.Cond.fieldLink "MarginHouseModel" (149 : Nat) "MarginHouseModel" "losses" "J" ∈ nd_ := List.mem_filter.mpr ⟨List.mem_append_right _ (List.mem_of_getElem? (i := 532) (by decide +kernel)), by decide +kernel⟩
theorem nw_386 : Jvm.Cond.fieldLink "MarginHouseModel" (111 : Nat) "MarginHouseModel" "trades" "J" ∈ nd_ := List.mem_filter.mpr ⟨List.mem_append_right _ (List.mem_of_getElem? (i := 533) (by decide +kernel)), by decide +kernel⟩
theorem nw_387 : Jvm.Cond.fieldLink "MarginHouseModel" (38 : Nat) "MarginHouseModel" "bore" "[J" ∈ nd_ := List.mem_filter.mpr ⟨List.mem_append_right _ (List.mem_of_getElem? (i := 534) (by decide +kernel)), by decide +kernel⟩
theorem nw_388 : Jvm.Cond.fieldLink "MarginHouseModel" (41 : Nat) "MarginHouseModel" "wasCash" "[J" ∈ nd_ := List.mem_filter.mpr ⟨List.mem_append_right _ (List.mem_of_getElem? (i := 535) (by decide +kernel)), by decide +kernel⟩
theorem nw_389 : Jvm.Cond.fieldLink "MarginHouseModel" (44 : Nat) "MarginHouseModel" "wasFund" "[J" ∈ nd_ := List.mem_filter.mpr ⟨List.mem_append_right _ (List.mem_of_getElem? (i := 536) (by decide +kernel)), by decide +kernel⟩
theorem nw_390 : Jvm.Cond.fieldLink "MarginHouseModel" (47 : Nat) "MarginHouseModel" "wasPositions" "[I" ∈ nd_ := List.mem_filter.mpr ⟨List.mem_append_right _ (List.mem_of_getElem? (i := 537) (by decide +kernel)), by decide +kernel⟩
theorem nw_391 : Jvm.Cond.fieldLink "MarginHouseModel" (50 : Nat) "MarginHouseModel" "layers" "[J" ∈ nd_ := List.mem_filter.mpr ⟨List.mem_append_right _ (List.mem_of_getElem? (i := 538) (by decide +kernel)), by decide +kernel⟩
theorem nw_392 : Jvm.Cond.fieldLink "MarginHouseModel" (53 : Nat) "MarginHouseModel" "weights" "[J" ∈ nd_ := List.mem_filter.mpr ⟨List.mem_append_right _ (List.mem_of_getElem? (i := 539) (by decide +kernel)), by decide +kernel⟩
theorem nw_393 : Jvm.Cond.fieldLink "MarginHouseModel" (56 : Nat) "MarginHouseModel" "parts" "[J" ∈ nd_ := List.mem_filter.mpr ⟨List.mem_append_right _ (List.mem_of_getElem? (i := 540) (by decide +kernel)), by decide +kernel⟩
theorem nw_394 : Jvm.Cond.fieldLink "MarginHouseModel" (59 : Nat) "MarginHouseModel" "rests" "[J" ∈ nd_ := List.mem_filter.mpr ⟨List.mem_append_right _ (List.mem_of_getElem? (i := 541) (by decide +kernel)), by decide +kernel⟩
theorem nw_395 : Jvm.Cond.fieldLink "MarginHouseModel" (117 : Nat) "MarginHouseModel" "beyond" "Z" ∈ nd_ := List.mem_filter.mpr ⟨List.mem_append_right _ (List.mem_of_getElem? (i := 542) (by decide +kernel)), by decide +kernel⟩
theorem nw_396 : Jvm.Cond.methodLink "MarginHouseLaw" (82 : Nat) ({ cls := "MarginHouseModel", name := "thrown", desc := "()I" } : Jvm.MethodName) ∈ nd_ := List.mem_filter.mpr ⟨List.mem_append_right _ (List.mem_of_getElem? (i := 592) (by decide +kernel)), by decide +kernel⟩
theorem nw_397 : Jvm.Cond.instanceMethod ({ cls := "MarginHouseModel", name := "thrown", desc := "()I" } : Jvm.MethodName) ∈ nd_ := List.mem_filter.mpr ⟨List.mem_append_right _ (List.mem_of_getElem? (i := 593) (by decide +kernel)), by decide +kernel⟩
theorem nw_398 : Jvm.Cond.selects "MarginHouseModel" ({ cls := "MarginHouseModel", name := "thrown", desc := "()I" } : Jvm.MethodName) ({ cls := "MarginHouseModel", name := "thrown", desc := "()I" } : Jvm.MethodName) ∈ nd_ := List.mem_filter.mpr ⟨List.mem_append_right _ (List.mem_of_getElem? (i := 594) (by decide +kernel)), by decide +kernel⟩
theorem nw_399 : Jvm.Cond.code ({ cls := "MarginHouseModel", name := "thrown", desc := "()I" } : Jvm.MethodName) prog_7_method_2_code (1 : Nat) (Option.some Jvm.ClassFile.FieldType.int) ∈ nd_ := List.mem_filter.mpr ⟨List.mem_append_right _ (List.mem_of_getElem? (i := 595) (by decide +kernel)), by decide +kernel⟩
theorem nw_400 : Jvm.Cond.methodLink "MarginHouseLaw" (81 : Nat) ({ cls := "MarginHouseModel", name := "member", desc := "(J)I" } : Jvm.MethodName) ∈ nd_ := List.mem_filter.mpr ⟨List.mem_append_right _ (List.mem_of_getElem? (i := 596) (by decide +kernel)), by decide +kernel⟩
theorem nw_401 : Jvm.Cond.instanceMethod ({ cls := "MarginHouseModel", name := "member", desc := "(J)I" } : Jvm.MethodName) ∈ nd_ := List.mem_filter.mpr ⟨List.mem_append_right _ (List.mem_of_getElem? (i := 597) (by decide +kernel)), by decide +kernel⟩
theorem nw_402 : Jvm.Cond.selects "MarginHouseModel" ({ cls := "MarginHouseModel", name := "member", desc := "(J)I" } : Jvm.MethodName) ({ cls := "MarginHouseModel", name := "member", desc := "(J)I" } : Jvm.MethodName) ∈ nd_ := List.mem_filter.mpr ⟨List.mem_append_right _ (List.mem_of_getElem? (i := 598) (by decide +kernel)), by decide +kernel⟩
theorem nw_403 : Jvm.Cond.code ({ cls := "MarginHouseModel", name := "member", desc := "(J)I" } : Jvm.MethodName) prog_7_method_7_code (3 : Nat) (Option.some Jvm.ClassFile.FieldType.int) ∈ nd_ := List.mem_filter.mpr ⟨List.mem_append_right _ (List.mem_of_getElem? (i := 599) (by decide +kernel)), by decide +kernel⟩
theorem nw_404 : Jvm.Cond.constantLong "MarginHouseModel" (76 : Nat) (1000000000000 : Int64) ∈ nd_ := List.mem_filter.mpr ⟨List.mem_append_right _ (List.mem_of_getElem? (i := 600) (by decide +kernel)), by decide +kernel⟩
theorem nw_405 : Jvm.Cond.methodLink "MarginHouseModel" (78 : Nat) ({ cls := "MarginHouseModel", name := "within", desc := "(JJJ)Z" } : Jvm.MethodName) ∈ nd_ := List.mem_filter.mpr ⟨List.mem_append_right _ (List.mem_of_getElem? (i := 601) (by decide +kernel)), by decide +kernel⟩
theorem nw_406 : Jvm.Cond.static ({ cls := "MarginHouseModel", name := "within", desc := "(JJJ)Z" } : Jvm.MethodName) ∈ nd_ := List.mem_filter.mpr ⟨List.mem_append_right _ (List.mem_of_getElem? (i := 602) (by decide +kernel)), by decide +kernel⟩
theorem nw_407 : Jvm.Cond.code ({ cls := "MarginHouseModel", name := "within", desc := "(JJJ)Z" } : Jvm.MethodName) prog_7_method_3_code (6 : Nat) (Option.some Jvm.ClassFile.FieldType.boolean) ∈ nd_ := List.mem_filter.mpr ⟨List.mem_append_right _ (List.mem_of_getElem? (i := 603) (by decide +kernel)), by decide +kernel⟩
theorem nw_408 : Jvm.Cond.methodLink "MarginHouseLaw" (89 : Nat) ({ cls := "MarginHouseModel", name := "instrument", desc := "(III)I" } : Jvm.MethodName) ∈ nd_ := List.mem_filter.mpr ⟨List.mem_append_right _ (List.mem_of_getElem? (i := 604) (by decide +kernel)), by decide +kernel⟩
theorem nw_409 : Jvm.Cond.instanceMethod ({ cls := "MarginHouseModel", name := "instrument", desc := "(III)I" } : Jvm.MethodName) ∈ nd_ := List.mem_filter.mpr ⟨List.mem_append_right _ (List.mem_of_getElem? (i := 605) (by decide +kernel)), by decide +kernel⟩
theorem nw_410 : Jvm.Cond.selects "MarginHouseModel" ({ cls := "MarginHouseModel", name := "instrument", desc := "(III)I" } : Jvm.MethodName) ({ cls := "MarginHouseModel", name := "instrument", desc := "(III)I" } : Jvm.MethodName) ∈ nd_ := List.mem_filter.mpr ⟨List.mem_append_right _ (List.mem_of_getElem? (i := 606) (by decide +kernel)), by decide +kernel⟩
theorem nw_411 : Jvm.Cond.code ({ cls := "MarginHouseModel", name := "instrument", desc := "(III)I" } : Jvm.MethodName) prog_7_method_8_code (4 : Nat) (Option.some Jvm.ClassFile.FieldType.int) ∈ nd_ := List.mem_filter.mpr ⟨List.mem_append_right _ (List.mem_of_getElem? (i := 607) (by decide +kernel)), by decide +kernel⟩
theorem nw_412 : Jvm.Cond.constantLong "MarginHouseModel" (82 : Nat) (1000000 : Int64) ∈ nd_ := List.mem_filter.mpr ⟨List.mem_append_right _ (List.mem_of_getElem? (i := 608) (by decide +kernel)), by decide +kernel⟩
theorem nw_413 : Jvm.Cond.methodLink "MarginHouseLaw" (92 : Nat) ({ cls := "MarginHouseModel", name := "capital", desc := "(J)J" } : Jvm.MethodName) ∈ nd_ := List.mem_filter.mpr ⟨List.mem_append_right _ (List.mem_of_getElem? (i := 609) (by decide +kernel)), by decide +kernel⟩
theorem nw_414 : Jvm.Cond.instanceMethod ({ cls := "MarginHouseModel", name := "capital", desc := "(J)J" } : Jvm.MethodName) ∈ nd_ := List.mem_filter.mpr ⟨List.mem_append_right _ (List.mem_of_getElem? (i := 610) (by decide +kernel)), by decide +kernel⟩
theorem nw_415 : Jvm.Cond.selects "MarginHouseModel" ({ cls := "MarginHouseModel", name := "capital", desc := "(J)J" } : Jvm.MethodName) ({ cls := "MarginHouseModel", name := "capital", desc := "(J)J" } : Jvm.MethodName) ∈ nd_ := List.mem_filter.mpr ⟨List.mem_append_right _ (List.mem_of_getElem? (i := 611) (by decide +kernel)), by decide +kernel⟩
theorem nw_416 : Jvm.Cond.code ({ cls := "MarginHouseModel", name := "capital", desc := "(J)J" } : Jvm.MethodName) prog_7_method_9_code (3 : Nat) (Option.some Jvm.ClassFile.FieldType.long) ∈ nd_ := List.mem_filter.mpr ⟨List.mem_append_right _ (List.mem_of_getElem? (i := 612) (by decide +kernel)), by decide +kernel⟩
theorem nw_417 : Jvm.Cond.methodLink "MarginHouseModel" (88 : Nat) ({ cls := "MarginHouseModel", name := "isFar", desc := "(J)Z" } : Jvm.MethodName) ∈ nd_ := List.mem_filter.mpr ⟨List.mem_append_right _ (List.mem_of_getElem? (i := 613) (by decide +kernel)), by decide +kernel⟩
theorem nw_418 : Jvm.Cond.static ({ cls := "MarginHouseModel", name := "isFar", desc := "(J)Z" } : Jvm.MethodName) ∈ nd_ := List.mem_filter.mpr ⟨List.mem_append_right _ (List.mem_of_getElem? (i := 614) (by decide +kernel)), by decide +kernel⟩
theorem nw_419 : Jvm.Cond.code ({ cls := "MarginHouseModel", name := "isFar", desc := "(J)Z" } : Jvm.MethodName) prog_7_method_6_code (2 : Nat) (Option.some Jvm.ClassFile.FieldType.boolean) ∈ nd_ := List.mem_filter.mpr ⟨List.mem_append_right _ (List.mem_of_getElem? (i := 615) (by decide +kernel)), by decide +kernel⟩
theorem nw_420 : Jvm.Cond.constantLong "MarginHouseModel" (72 : Nat) (1000000000000000 : Int64) ∈ nd_ := List.mem_filter.mpr ⟨List.mem_append_right _ (List.mem_of_getElem? (i := 616) (by decide +kernel)), by decide +kernel⟩
theorem nw_421 : Jvm.Cond.constantLong "MarginHouseModel" (74 : Nat) (-1000000000000000 : Int64) ∈ nd_ := List.mem_filter.mpr ⟨List.mem_append_right _ (List.mem_of_getElem? (i := 617) (by decide +kernel)), by decide +kernel⟩
theorem nw_422 : Jvm.Cond.constantLong "MarginHouseModel" (92 : Nat) (-1 : Int64) ∈ nd_ := List.mem_filter.mpr ⟨List.mem_append_right _ (List.mem_of_getElem? (i := 618) (by decide +kernel)), by decide +kernel⟩
theorem nw_423 : Jvm.Cond.methodLink "MarginHouseLaw" (96 : Nat) ({ cls := "MarginHouseModel", name := "move", desc := "(III)V" } : Jvm.MethodName) ∈ nd_ := List.mem_filter.mpr ⟨List.mem_append_right _ (List.mem_of_getElem? (i := 619) (by decide +kernel)), by decide +kernel⟩
theorem nw_424 : Jvm.Cond.instanceMethod ({ cls := "MarginHouseModel", name := "move", desc := "(III)V" } : Jvm.MethodName) ∈ nd_ := List.mem_filter.mpr ⟨List.mem_append_right _ (List.mem_of_getElem? (i := 620) (by decide +kernel)), by decide +kernel⟩
theorem nw_425 : Jvm.Cond.selects "MarginHouseModel" ({ cls := "MarginHouseModel", name := "move", desc := "(III)V" } : Jvm.MethodName) ({ cls := "MarginHouseModel", name := "move", desc := "(III)V" } : Jvm.MethodName) ∈ nd_ := List.mem_filter.mpr ⟨List.mem_append_right _ (List.mem_of_getElem? (i := 621) (by decide +kernel)), by decide +kernel⟩
theorem nw_426 : Jvm.Cond.code ({ cls := "MarginHouseModel", name := "move", desc := "(III)V" } : Jvm.MethodName) prog_7_method_10_code (4 : Nat) (Option.none : Option Jvm.ClassFile.FieldType) ∈ nd_ := List.mem_filter.mpr ⟨List.mem_append_right _ (List.mem_of_getElem? (i := 622) (by decide +kernel)), by decide +kernel⟩
theorem nw_427 : Jvm.Cond.methodLink "MarginHouseModel" (94 : Nat) ({ cls := "MarginHouseModel", name := "isInstrument", desc := "(I)Z" } : Jvm.MethodName) ∈ nd_ := List.mem_filter.mpr ⟨List.mem_append_right _ (List.mem_of_getElem? (i := 623) (by decide +kernel)), by decide +kernel⟩
theorem nw_428 : Jvm.Cond.instanceMethod ({ cls := "MarginHouseModel", name := "isInstrument", desc := "(I)Z" } : Jvm.MethodName) ∈ nd_ := List.mem_filter.mpr ⟨List.mem_append_right _ (List.mem_of_getElem? (i := 625) (by decide +kernel)), by decide +kernel⟩
theorem nw_429 : Jvm.Cond.code ({ cls := "MarginHouseModel", name := "isInstrument", desc := "(I)Z" } : Jvm.MethodName) prog_7_method_5_code (2 : Nat) (Option.some Jvm.ClassFile.FieldType.boolean) ∈ nd_ := List.mem_filter.mpr ⟨List.mem_append_right _ (List.mem_of_getElem? (i := 626) (by decide +kernel)), by decide +kernel⟩
theorem nw_430 : Jvm.Cond.constantLong "MarginHouseModel" (98 : Nat) (-1000000 : Int64) ∈ nd_ := List.mem_filter.mpr ⟨List.mem_append_right _ (List.mem_of_getElem? (i := 627) (by decide +kernel)), by decide +kernel⟩
theorem nw_431 : Jvm.Cond.methodLink "MarginHouseLaw" (99 : Nat) ({ cls := "MarginHouseModel", name := "bid", desc := "(III)V" } : Jvm.MethodName) ∈ nd_ := List.mem_filter.mpr ⟨List.mem_append_right _ (List.mem_of_getElem? (i := 628) (by decide +kernel)), by decide +kernel⟩
theorem nw_432 : Jvm.Cond.instanceMethod ({ cls := "MarginHouseModel", name := "bid", desc := "(III)V" } : Jvm.MethodName) ∈ nd_ := List.mem_filter.mpr ⟨List.mem_append_right _ (List.mem_of_getElem? (i := 629) (by decide +kernel)), by decide +kernel⟩
theorem nw_433 : Jvm.Cond.selects "MarginHouseModel" ({ cls := "MarginHouseModel", name := "bid", desc := "(III)V" } : Jvm.MethodName) ({ cls := "MarginHouseModel", name := "bid", desc := "(III)V" } : Jvm.MethodName) ∈ nd_ := List.mem_filter.mpr ⟨List.mem_append_right _ (List.mem_of_getElem? (i := 630) (by decide +kernel)), by decide +kernel⟩
theorem nw_434 : Jvm.Cond.code ({ cls := "MarginHouseModel", name := "bid", desc := "(III)V" } : Jvm.MethodName) prog_7_method_11_code (4 : Nat) (Option.none : Option Jvm.ClassFile.FieldType) ∈ nd_ := List.mem_filter.mpr ⟨List.mem_append_right _ (List.mem_of_getElem? (i := 631) (by decide +kernel)), by decide +kernel⟩
theorem nw_435 : Jvm.Cond.methodLink "MarginHouseModel" (100 : Nat) ({ cls := "MarginHouseModel", name := "isMember", desc := "(I)Z" } : Jvm.MethodName) ∈ nd_ := List.mem_filter.mpr ⟨List.mem_append_right _ (List.mem_of_getElem? (i := 632) (by decide +kernel)), by decide +kernel⟩
theorem nw_436 : Jvm.Cond.instanceMethod ({ cls := "MarginHouseModel", name := "isMember", desc := "(I)Z" } : Jvm.MethodName) ∈ nd_ := List.mem_filter.mpr ⟨List.mem_append_right _ (List.mem_of_getElem? (i := 634) (by decide +kernel)), by decide +kernel⟩
theorem nw_437 : Jvm.Cond.code ({ cls := "MarginHouseModel", name := "isMember", desc := "(I)Z" } : Jvm.MethodName) prog_7_method_4_code (2 : Nat) (Option.some Jvm.ClassFile.FieldType.boolean) ∈ nd_ := List.mem_filter.mpr ⟨List.mem_append_right _ (List.mem_of_getElem? (i := 635) (by decide +kernel)), by decide +kernel⟩
theorem nw_438 : Jvm.Cond.methodLink "MarginHouseLaw" (103 : Nat) ({ cls := "MarginHouseModel", name := "deposit", desc := "(IJ)J" } : Jvm.MethodName) ∈ nd_ := List.mem_filter.mpr ⟨List.mem_append_right _ (List.mem_of_getElem? (i := 636) (by decide +kernel)), by decide +kernel⟩
theorem nw_439 : Jvm.Cond.instanceMethod ({ cls := "MarginHouseModel", name := "deposit", desc := "(IJ)J" } : Jvm.MethodName) ∈ nd_ := List.mem_filter.mpr ⟨List.mem_append_right _ (List.mem_of_getElem? (i := 637) (by decide +kernel)), by decide +kernel⟩
theorem nw_440 : Jvm.Cond.selects "MarginHouseModel" ({ cls := "MarginHouseModel", name := "deposit", desc := "(IJ)J" } : Jvm.MethodName) ({ cls := "MarginHouseModel", name := "deposit", desc := "(IJ)J" } : Jvm.MethodName) ∈ nd_ := List.mem_filter.mpr ⟨List.mem_append_right _ (List.mem_of_getElem? (i := 638) (by decide +kernel)), by decide +kernel⟩
theorem nw_441 : Jvm.Cond.code ({ cls := "MarginHouseModel", name := "deposit", desc := "(IJ)J" } : Jvm.MethodName) prog_7_method_12_code (4 : Nat) (Option.some Jvm.ClassFile.FieldType.long) ∈ nd_ := List.mem_filter.mpr ⟨List.mem_append_right _ (List.mem_of_getElem? (i := 639) (by decide +kernel)), by decide +kernel⟩
theorem nw_442 : Jvm.Cond.methodLink "MarginHouseLaw" (106 : Nat) ({ cls := "MarginHouseModel", name := "withdraw", desc := "(IJ)J" } : Jvm.MethodName) ∈ nd_ := List.mem_filter.mpr ⟨List.mem_append_right _ (List.mem_of_getElem? (i := 640) (by decide +kernel)), by decide +kernel⟩
theorem nw_443 : Jvm.Cond.instanceMethod ({ cls := "MarginHouseModel", name := "withdraw", desc := "(IJ)J" } : Jvm.MethodName) ∈ nd_ := List.mem_filter.mpr ⟨List.mem_append_right _ (List.mem_of_getElem? (i := 641) (by decide +kernel)), by decide +kernel⟩
theorem nw_444 : Jvm.Cond.selects "MarginHouseModel" ({ cls := "MarginHouseModel", name := "withdraw", desc := "(IJ)J" } : Jvm.MethodName) ({ cls := "MarginHouseModel", name := "withdraw", desc := "(IJ)J" } : Jvm.MethodName) ∈ nd_ := List.mem_filter.mpr ⟨List.mem_append_right _ (List.mem_of_getElem? (i := 642) (by decide +kernel)), by decide +kernel⟩
theorem nw_445 : Jvm.Cond.code ({ cls := "MarginHouseModel", name := "withdraw", desc := "(IJ)J" } : Jvm.MethodName) prog_7_method_14_code (4 : Nat) (Option.some Jvm.ClassFile.FieldType.long) ∈ nd_ := List.mem_filter.mpr ⟨List.mem_append_right _ (List.mem_of_getElem? (i := 643) (by decide +kernel)), by decide +kernel⟩
theorem nw_446 : Jvm.Cond.methodLink "MarginHouseModel" (103 : Nat) ({ cls := "MarginHouseModel", name := "marginOf", desc := "(I)J" } : Jvm.MethodName) ∈ nd_ := List.mem_filter.mpr ⟨List.mem_append_right _ (List.mem_of_getElem? (i := 644) (by decide +kernel)), by decide +kernel⟩
theorem nw_447 : Jvm.Cond.instanceMethod ({ cls := "MarginHouseModel", name := "marginOf", desc := "(I)J" } : Jvm.MethodName) ∈ nd_ := List.mem_filter.mpr ⟨List.mem_append_right _ (List.mem_of_getElem? (i := 646) (by decide +kernel)), by decide +kernel⟩
theorem nw_448 : Jvm.Cond.code ({ cls := "MarginHouseModel", name := "marginOf", desc := "(I)J" } : Jvm.MethodName) prog_7_method_13_code (8 : Nat) (Option.some Jvm.ClassFile.FieldType.long) ∈ nd_ := List.mem_filter.mpr ⟨List.mem_append_right _ (List.mem_of_getElem? (i := 647) (by decide +kernel)), by decide +kernel⟩
theorem nw_449 : Jvm.Cond.methodLink "MarginHouseLaw" (110 : Nat) ({ cls := "MarginHouseModel", name := "trade", desc := "(IIIII)I" } : Jvm.MethodName) ∈ nd_ := List.mem_filter.mpr ⟨List.mem_append_right _ (List.mem_of_getElem? (i := 648) (by decide +kernel)), by decide +kernel⟩
theorem nw_450 : Jvm.Cond.instanceMethod ({ cls := "MarginHouseModel", name := "trade", desc := "(IIIII)I" } : Jvm.MethodName) ∈ nd_ := List.mem_filter.mpr ⟨List.mem_append_right _ (List.mem_of_getElem? (i := 649) (by decide +kernel)), by decide +kernel⟩
theorem nw_451 : Jvm.Cond.selects "MarginHouseModel" ({ cls := "MarginHouseModel", name := "trade", desc := "(IIIII)I" } : Jvm.MethodName) ({ cls := "MarginHouseModel", name := "trade", desc := "(IIIII)I" } : Jvm.MethodName) ∈ nd_ := List.mem_filter.mpr ⟨List.mem_append_right _ (List.mem_of_getElem? (i := 650) (by decide +kernel)), by decide +kernel⟩
theorem nw_452 : Jvm.Cond.code ({ cls := "MarginHouseModel", name := "trade", desc := "(IIIII)I" } : Jvm.MethodName) prog_7_method_15_code (11 : Nat) (Option.some Jvm.ClassFile.FieldType.int) ∈ nd_ := List.mem_filter.mpr ⟨List.mem_append_right _ (List.mem_of_getElem? (i := 651) (by decide +kernel)), by decide +kernel⟩
theorem nw_453 : Jvm.Cond.constantLong "MarginHouseModel" (107 : Nat) (100000 : Int64) ∈ nd_ := List.mem_filter.mpr ⟨List.mem_append_right _ (List.mem_of_getElem? (i := 652) (by decide +kernel)), by decide +kernel⟩
theorem nw_454 : Jvm.Cond.constant "MarginHouseModel" (109 : Nat) (1000000 : Int32) ∈ nd_ := List.mem_filter.mpr ⟨List.mem_append_right _ (List.mem_of_getElem? (i := 653) (by decide +kernel)), by decide +kernel⟩
theorem nw_455 : Jvm.Cond.constant "MarginHouseModel" (110 : Nat) (-1000000 : Int32) ∈ nd_ := List.mem_filter.mpr ⟨List.mem_append_right _ (List.mem_of_getElem? (i := 654) (by decide +kernel)), by decide +kernel⟩
theorem nw_456 : Jvm.Cond.methodLink "MarginHouseLaw" (114 : Nat) ({ cls := "MarginHouseModel", name := "mark", desc := "(II)I" } : Jvm.MethodName) ∈ nd_ := List.mem_filter.mpr ⟨List.mem_append_right _ (List.mem_of_getElem? (i := 655) (by decide +kernel)), by decide +kernel⟩
theorem nw_457 : Jvm.Cond.instanceMethod ({ cls := "MarginHouseModel", name := "mark", desc := "(II)I" } : Jvm.MethodName) ∈ nd_ := List.mem_filter.mpr ⟨List.mem_append_right _ (List.mem_of_getElem? (i := 656) (by decide +kernel)), by decide +kernel⟩
theorem nw_458 : Jvm.Cond.selects "MarginHouseModel" ({ cls := "MarginHouseModel", name := "mark", desc := "(II)I" } : Jvm.MethodName) ({ cls := "MarginHouseModel", name := "mark", desc := "(II)I" } : Jvm.MethodName) ∈ nd_ := List.mem_filter.mpr ⟨List.mem_append_right _ (List.mem_of_getElem? (i := 657) (by decide +kernel)), by decide +kernel⟩
theorem nw_459 : Jvm.Cond.code ({ cls := "MarginHouseModel", name := "mark", desc := "(II)I" } : Jvm.MethodName) prog_7_method_16_code (7 : Nat) (Option.some Jvm.ClassFile.FieldType.int) ∈ nd_ := List.mem_filter.mpr ⟨List.mem_append_right _ (List.mem_of_getElem? (i := 658) (by decide +kernel)), by decide +kernel⟩
theorem nw_460 : Jvm.Cond.methodLink "MarginHouseLaw" (118 : Nat) ({ cls := "MarginHouseModel", name := "margin", desc := "(I)J" } : Jvm.MethodName) ∈ nd_ := List.mem_filter.mpr ⟨List.mem_append_right _ (List.mem_of_getElem? (i := 659) (by decide +kernel)), by decide +kernel⟩
theorem nw_461 : Jvm.Cond.instanceMethod ({ cls := "MarginHouseModel", name := "margin", desc := "(I)J" } : Jvm.MethodName) ∈ nd_ := List.mem_filter.mpr ⟨List.mem_append_right _ (List.mem_of_getElem? (i := 660) (by decide +kernel)), by decide +kernel⟩
theorem nw_462 : Jvm.Cond.selects "MarginHouseModel" ({ cls := "MarginHouseModel", name := "margin", desc := "(I)J" } : Jvm.MethodName) ({ cls := "MarginHouseModel", name := "margin", desc := "(I)J" } : Jvm.MethodName) ∈ nd_ := List.mem_filter.mpr ⟨List.mem_append_right _ (List.mem_of_getElem? (i := 661) (by decide +kernel)), by decide +kernel⟩
theorem nw_463 : Jvm.Cond.code ({ cls := "MarginHouseModel", name := "margin", desc := "(I)J" } : Jvm.MethodName) prog_7_method_17_code (2 : Nat) (Option.some Jvm.ClassFile.FieldType.long) ∈ nd_ := List.mem_filter.mpr ⟨List.mem_append_right _ (List.mem_of_getElem? (i := 662) (by decide +kernel)), by decide +kernel⟩
theorem nw_464 : Jvm.Cond.methodLink "MarginHouseLaw" (121 : Nat) ({ cls := "MarginHouseModel", name := "called", desc := "(I)J" } : Jvm.MethodName) ∈ nd_ := List.mem_filter.mpr ⟨List.mem_append_right _ (List.mem_of_getElem? (i := 663) (by decide +kernel)), by decide +kernel⟩
theorem nw_465 : Jvm.Cond.instanceMethod ({ cls := "MarginHouseModel", name := "called", desc := "(I)J" } : Jvm.MethodName) ∈ nd_ := List.mem_filter.mpr ⟨List.mem_append_right _ (List.mem_of_getElem? (i := 664) (by decide +kernel)), by decide +kernel⟩
theorem nw_466 : Jvm.Cond.selects "MarginHouseModel" ({ cls := "MarginHouseModel", name := "called", desc := "(I)J" } : Jvm.MethodName) ({ cls := "MarginHouseModel", name := "called", desc := "(I)J" } : Jvm.MethodName) ∈ nd_ := List.mem_filter.mpr ⟨List.mem_append_right _ (List.mem_of_getElem? (i := 665) (by decide +kernel)), by decide +kernel⟩
theorem nw_467 : Jvm.Cond.code ({ cls := "MarginHouseModel", name := "called", desc := "(I)J" } : Jvm.MethodName) prog_7_method_19_code (2 : Nat) (Option.some Jvm.ClassFile.FieldType.long) ∈ nd_ := List.mem_filter.mpr ⟨List.mem_append_right _ (List.mem_of_getElem? (i := 666) (by decide +kernel)), by decide +kernel⟩
theorem nw_468 : Jvm.Cond.methodLink "MarginHouseModel" (114 : Nat) ({ cls := "MarginHouseModel", name := "callOf", desc := "(I)J" } : Jvm.MethodName) ∈ nd_ := List.mem_filter.mpr ⟨List.mem_append_right _ (List.mem_of_getElem? (i := 667) (by decide +kernel)), by decide +kernel⟩
theorem nw_469 : Jvm.Cond.instanceMethod ({ cls := "MarginHouseModel", name := "callOf", desc := "(I)J" } : Jvm.MethodName) ∈ nd_ := List.mem_filter.mpr ⟨List.mem_append_right _ (List.mem_of_getElem? (i := 669) (by decide +kernel)), by decide +kernel⟩
theorem nw_470 : Jvm.Cond.code ({ cls := "MarginHouseModel", name := "callOf", desc := "(I)J" } : Jvm.MethodName) prog_7_method_18_code (4 : Nat) (Option.some Jvm.ClassFile.FieldType.long) ∈ nd_ := List.mem_filter.mpr ⟨List.mem_append_right _ (List.mem_of_getElem? (i := 670) (by decide +kernel)), by decide +kernel⟩
theorem nw_471 : Jvm.Cond.methodLink "MarginHouseLaw" (125 : Nat) ({ cls := "MarginHouseModel", name := "declare", desc := "()I" } : Jvm.MethodName) ∈ nd_ := List.mem_filter.mpr ⟨List.mem_append_right _ (List.mem_of_getElem? (i := 671) (by decide +kernel)), by decide +kernel⟩
theorem nw_472 : Jvm.Cond.instanceMethod ({ cls := "MarginHouseModel", name := "declare", desc := "()I" } : Jvm.MethodName) ∈ nd_ := List.mem_filter.mpr ⟨List.mem_append_right _ (List.mem_of_getElem? (i := 672) (by decide +kernel)), by decide +kernel⟩
theorem nw_473 : Jvm.Cond.selects "MarginHouseModel" ({ cls := "MarginHouseModel", name := "declare", desc := "()I" } : Jvm.MethodName) ({ cls := "MarginHouseModel", name := "declare", desc := "()I" } : Jvm.MethodName) ∈ nd_ := List.mem_filter.mpr ⟨List.mem_append_right _ (List.mem_of_getElem? (i := 673) (by decide +kernel)), by decide +kernel⟩
theorem nw_474 : Jvm.Cond.code ({ cls := "MarginHouseModel", name := "declare", desc := "()I" } : Jvm.MethodName) prog_7_method_20_code (3 : Nat) (Option.some Jvm.ClassFile.FieldType.int) ∈ nd_ := List.mem_filter.mpr ⟨List.mem_append_right _ (List.mem_of_getElem? (i := 674) (by decide +kernel)), by decide +kernel⟩
theorem nw_475 : Jvm.Cond.methodLink "MarginHouseLaw" (128 : Nat) ({ cls := "MarginHouseModel", name := "closeOut", desc := "(I)J" } : Jvm.MethodName) ∈ nd_ := List.mem_filter.mpr ⟨List.mem_append_right _ (List.mem_of_getElem? (i := 675) (by decide +kernel)), by decide +kernel⟩
theorem nw_476 : Jvm.Cond.instanceMethod ({ cls := "MarginHouseModel", name := "closeOut", desc := "(I)J" } : Jvm.MethodName) ∈ nd_ := List.mem_filter.mpr ⟨List.mem_append_right _ (List.mem_of_getElem? (i := 676) (by decide +kernel)), by decide +kernel⟩
theorem nw_477 : Jvm.Cond.selects "MarginHouseModel" ({ cls := "MarginHouseModel", name := "closeOut", desc := "(I)J" } : Jvm.MethodName) ({ cls := "MarginHouseModel", name := "closeOut", desc := "(I)J" } : Jvm.MethodName) ∈ nd_ := List.mem_filter.mpr ⟨List.mem_append_right _ (List.mem_of_getElem? (i := 677) (by decide +kernel)), by decide +kernel⟩
theorem nw_478 : Jvm.Cond.code ({ cls := "MarginHouseModel", name := "closeOut", desc := "(I)J" } : Jvm.MethodName) prog_7_method_27_code (5 : Nat) (Option.some Jvm.ClassFile.FieldType.long) ∈ nd_ := List.mem_filter.mpr ⟨List.mem_append_right _ (List.mem_of_getElem? (i := 678) (by decide +kernel)), by decide +kernel⟩
theorem nw_479 : Jvm.Cond.methodLink "MarginHouseModel" (139 : Nat) ({ cls := "MarginHouseModel", name := "give", desc := "(II)V" } : Jvm.MethodName) ∈ nd_ := List.mem_filter.mpr ⟨List.mem_append_right _ (List.mem_of_getElem? (i := 679) (by decide +kernel)), by decide +kernel⟩
theorem nw_480 : Jvm.Cond.instanceMethod ({ cls := "MarginHouseModel", name := "give", desc := "(II)V" } : Jvm.MethodName) ∈ nd_ := List.mem_filter.mpr ⟨List.mem_append_right _ (List.mem_of_getElem? (i := 681) (by decide +kernel)), by decide +kernel⟩
theorem nw_481 : Jvm.Cond.code ({ cls := "MarginHouseModel", name := "give", desc := "(II)V" } : Jvm.MethodName) prog_7_method_23_code (8 : Nat) (Option.none : Option Jvm.ClassFile.FieldType) ∈ nd_ := List.mem_filter.mpr ⟨List.mem_append_right _ (List.mem_of_getElem? (i := 682) (by decide +kernel)), by decide +kernel⟩
theorem nw_482 : Jvm.Cond.methodLink "MarginHouseModel" (121 : Nat) ({ cls := "MarginHouseModel", name := "bestBid", desc := "(I)I" } : Jvm.MethodName) ∈ nd_ := List.mem_filter.mpr ⟨List.mem_append_right _ (List.mem_of_getElem? (i := 683) (by decide +kernel)), by decide +kernel⟩
theorem nw_483 : Jvm.Cond.instanceMethod ({ cls := "MarginHouseModel", name := "bestBid", desc := "(I)I" } : Jvm.MethodName) ∈ nd_ := List.mem_filter.mpr ⟨List.mem_append_right _ (List.mem_of_getElem? (i := 685) (by decide +kernel)), by decide +kernel⟩
theorem nw_484 : Jvm.Cond.code ({ cls := "MarginHouseModel", name := "bestBid", desc := "(I)I" } : Jvm.MethodName) prog_7_method_22_code (4 : Nat) (Option.some Jvm.ClassFile.FieldType.int) ∈ nd_ := List.mem_filter.mpr ⟨List.mem_append_right _ (List.mem_of_getElem? (i := 686) (by decide +kernel)), by decide +kernel⟩
theorem nw_485 : Jvm.Cond.methodLink "MarginHouseModel" (125 : Nat) ({ cls := "MarginHouseModel", name := "change", desc := "(IJ)V" } : Jvm.MethodName) ∈ nd_ := List.mem_filter.mpr ⟨List.mem_append_right _ (List.mem_of_getElem? (i := 687) (by decide +kernel)), by decide +kernel⟩
theorem nw_486 : Jvm.Cond.instanceMethod ({ cls := "MarginHouseModel", name := "change", desc := "(IJ)V" } : Jvm.MethodName) ∈ nd_ := List.mem_filter.mpr ⟨List.mem_append_right _ (List.mem_of_getElem? (i := 689) (by decide +kernel)), by decide +kernel⟩
theorem nw_487 : Jvm.Cond.code ({ cls := "MarginHouseModel", name := "change", desc := "(IJ)V" } : Jvm.MethodName) prog_7_method_21_code (4 : Nat) (Option.none : Option Jvm.ClassFile.FieldType) ∈ nd_ := List.mem_filter.mpr ⟨List.mem_append_right _ (List.mem_of_getElem? (i := 690) (by decide +kernel)), by decide +kernel⟩
theorem nw_488 : Jvm.Cond.methodLink "MarginHouseModel" (143 : Nat) ({ cls := "MarginHouseModel", name := "wouldLose", desc := "(I)J" } : Jvm.MethodName) ∈ nd_ := List.mem_filter.mpr ⟨List.mem_append_right _ (List.mem_of_getElem? (i := 691) (by decide +kernel)), by decide +kernel⟩
theorem nw_489 : Jvm.Cond.instanceMethod ({ cls := "MarginHouseModel", name := "wouldLose", desc := "(I)J" } : Jvm.MethodName) ∈ nd_ := List.mem_filter.mpr ⟨List.mem_append_right _ (List.mem_of_getElem? (i := 693) (by decide +kernel)), by decide +kernel⟩
theorem nw_490 : Jvm.Cond.code ({ cls := "MarginHouseModel", name := "wouldLose", desc := "(I)J" } : Jvm.MethodName) prog_7_method_28_code (7 : Nat) (Option.some Jvm.ClassFile.FieldType.long) ∈ nd_ := List.mem_filter.mpr ⟨List.mem_append_right _ (List.mem_of_getElem? (i := 694) (by decide +kernel)), by decide +kernel⟩
theorem nw_491 : Jvm.Cond.methodLink "MarginHouseModel" (146 : Nat) ({ cls := "MarginHouseModel", name := "bear", desc := "(I)J" } : Jvm.MethodName) ∈ nd_ := List.mem_filter.mpr ⟨List.mem_append_right _ (List.mem_of_getElem? (i := 695) (by decide +kernel)), by decide +kernel⟩
theorem nw_492 : Jvm.Cond.instanceMethod ({ cls := "MarginHouseModel", name := "bear", desc := "(I)J" } : Jvm.MethodName) ∈ nd_ := List.mem_filter.mpr ⟨List.mem_append_right _ (List.mem_of_getElem? (i := 697) (by decide +kernel)), by decide +kernel⟩
theorem nw_493 : Jvm.Cond.code ({ cls := "MarginHouseModel", name := "bear", desc := "(I)J" } : Jvm.MethodName) prog_7_method_26_code (7 : Nat) (Option.some Jvm.ClassFile.FieldType.long) ∈ nd_ := List.mem_filter.mpr ⟨List.mem_append_right _ (List.mem_of_getElem? (i := 698) (by decide +kernel)), by decide +kernel⟩
theorem nw_494 : Jvm.Cond.methodLink "MarginHouseModel" (135 : Nat) ({ cls := "MarginHouseModel", name := "share", desc := "(J)J" } : Jvm.MethodName) ∈ nd_ := List.mem_filter.mpr ⟨List.mem_append_right _ (List.mem_of_getElem? (i := 699) (by decide +kernel)), by decide +kernel⟩
theorem nw_495 : Jvm.Cond.instanceMethod ({ cls := "MarginHouseModel", name := "share", desc := "(J)J" } : Jvm.MethodName) ∈ nd_ := List.mem_filter.mpr ⟨List.mem_append_right _ (List.mem_of_getElem? (i := 701) (by decide +kernel)), by decide +kernel⟩
theorem nw_496 : Jvm.Cond.code ({ cls := "MarginHouseModel", name := "share", desc := "(J)J" } : Jvm.MethodName) prog_7_method_25_code (9 : Nat) (Option.some Jvm.ClassFile.FieldType.long) ∈ nd_ := List.mem_filter.mpr ⟨List.mem_append_right _ (List.mem_of_getElem? (i := 702) (by decide +kernel)), by decide +kernel⟩
theorem nw_497 : Jvm.Cond.methodLink "MarginHouseModel" (131 : Nat) ({ cls := "MarginHouseModel", name := "divide", desc := "(IJJ)V" } : Jvm.MethodName) ∈ nd_ := List.mem_filter.mpr ⟨List.mem_append_right _ (List.mem_of_getElem? (i := 703) (by decide +kernel)), by decide +kernel⟩
theorem nw_498 : Jvm.Cond.instanceMethod ({ cls := "MarginHouseModel", name := "divide", desc := "(IJJ)V" } : Jvm.MethodName) ∈ nd_ := List.mem_filter.mpr ⟨List.mem_append_right _ (List.mem_of_getElem? (i := 705) (by decide +kernel)), by decide +kernel⟩
theorem nw_499 : Jvm.Cond.code ({ cls := "MarginHouseModel", name := "divide", desc := "(IJJ)V" } : Jvm.MethodName) prog_7_method_24_code (11 : Nat) (Option.none : Option Jvm.ClassFile.FieldType) ∈ nd_ := List.mem_filter.mpr ⟨List.mem_append_right _ (List.mem_of_getElem? (i := 706) (by decide +kernel)), by decide +kernel⟩
theorem nw_500 : Jvm.Cond.constantLong "MarginHouseModel" (129 : Nat) (2 : Int64) ∈ nd_ := List.mem_filter.mpr ⟨List.mem_append_right _ (List.mem_of_getElem? (i := 707) (by decide +kernel)), by decide +kernel⟩
theorem nw_501 : Jvm.Cond.methodLink "MarginHouseLaw" (131 : Nat) ({ cls := "MarginHouseModel", name := "told", desc := "(II)J" } : Jvm.MethodName) ∈ nd_ := List.mem_filter.mpr ⟨List.mem_append_right _ (List.mem_of_getElem? (i := 708) (by decide +kernel)), by decide +kernel⟩
theorem nw_502 : Jvm.Cond.instanceMethod ({ cls := "MarginHouseModel", name := "told", desc := "(II)J" } : Jvm.MethodName) ∈ nd_ := List.mem_filter.mpr ⟨List.mem_append_right _ (List.mem_of_getElem? (i := 709) (by decide +kernel)), by decide +kernel⟩
theorem nw_503 : Jvm.Cond.selects "MarginHouseModel" ({ cls := "MarginHouseModel", name := "told", desc := "(II)J" } : Jvm.MethodName) ({ cls := "MarginHouseModel", name := "told", desc := "(II)J" } : Jvm.MethodName) ∈ nd_ := List.mem_filter.mpr ⟨List.mem_append_right _ (List.mem_of_getElem? (i := 710) (by decide +kernel)), by decide +kernel⟩
theorem nw_504 : Jvm.Cond.code ({ cls := "MarginHouseModel", name := "told", desc := "(II)J" } : Jvm.MethodName) prog_7_method_29_code (3 : Nat) (Option.some Jvm.ClassFile.FieldType.long) ∈ nd_ := List.mem_filter.mpr ⟨List.mem_append_right _ (List.mem_of_getElem? (i := 711) (by decide +kernel)), by decide +kernel⟩
theorem nw_505 : Jvm.Cond.methodLink "MarginHouseLaw" (134 : Nat) ({ cls := "MarginHouseModel", name := "position", desc := "(II)I" } : Jvm.MethodName) ∈ nd_ := List.mem_filter.mpr ⟨List.mem_append_right _ (List.mem_of_getElem? (i := 712) (by decide +kernel)), by decide +kernel⟩
theorem nw_506 : Jvm.Cond.instanceMethod ({ cls := "MarginHouseModel", name := "position", desc := "(II)I" } : Jvm.MethodName) ∈ nd_ := List.mem_filter.mpr ⟨List.mem_append_right _ (List.mem_of_getElem? (i := 713) (by decide +kernel)), by decide +kernel⟩
theorem nw_507 : Jvm.Cond.selects "MarginHouseModel" ({ cls := "MarginHouseModel", name := "position", desc := "(II)I" } : Jvm.MethodName) ({ cls := "MarginHouseModel", name := "position", desc := "(II)I" } : Jvm.MethodName) ∈ nd_ := List.mem_filter.mpr ⟨List.mem_append_right _ (List.mem_of_getElem? (i := 714) (by decide +kernel)), by decide +kernel⟩
theorem nw_508 : Jvm.Cond.code ({ cls := "MarginHouseModel", name := "position", desc := "(II)I" } : Jvm.MethodName) prog_7_method_30_code (3 : Nat) (Option.some Jvm.ClassFile.FieldType.int) ∈ nd_ := List.mem_filter.mpr ⟨List.mem_append_right _ (List.mem_of_getElem? (i := 715) (by decide +kernel)), by decide +kernel⟩
theorem nw_509 : Jvm.Cond.methodLink "MarginHouseLaw" (137 : Nat) ({ cls := "MarginHouseModel", name := "bore", desc := "(I)J" } : Jvm.MethodName) ∈ nd_ := List.mem_filter.mpr ⟨List.mem_append_right _ (List.mem_of_getElem? (i := 716) (by decide +kernel)), by decide +kernel⟩
theorem nw_510 : Jvm.Cond.instanceMethod ({ cls := "MarginHouseModel", name := "bore", desc := "(I)J" } : Jvm.MethodName) ∈ nd_ := List.mem_filter.mpr ⟨List.mem_append_right _ (List.mem_of_getElem? (i := 717) (by decide +kernel)), by decide +kernel⟩
theorem nw_511 : Jvm.Cond.selects "MarginHouseModel" ({ cls := "MarginHouseModel", name := "bore", desc := "(I)J" } : Jvm.MethodName) ({ cls := "MarginHouseModel", name := "bore", desc := "(I)J" } : Jvm.MethodName) ∈ nd_ := List.mem_filter.mpr ⟨List.mem_append_right _ (List.mem_of_getElem? (i := 718) (by decide +kernel)), by decide +kernel⟩
theorem nw_512 : Jvm.Cond.code ({ cls := "MarginHouseModel", name := "bore", desc := "(I)J" } : Jvm.MethodName) prog_7_method_31_code (2 : Nat) (Option.some Jvm.ClassFile.FieldType.long) ∈ nd_ := List.mem_filter.mpr ⟨List.mem_append_right _ (List.mem_of_getElem? (i := 719) (by decide +kernel)), by decide +kernel⟩
theorem nw_513 : Jvm.Cond.methodLink "MarginHouseLaw" (140 : Nat) ({ cls := "MarginHouseModel", name := "all", desc := "(I)J" } : Jvm.MethodName) ∈ nd_ := List.mem_filter.mpr ⟨List.mem_append_right _ (List.mem_of_getElem? (i := 720) (by decide +kernel)), by decide +kernel⟩
theorem nw_514 : Jvm.Cond.instanceMethod ({ cls := "MarginHouseModel", name := "all", desc := "(I)J" } : Jvm.MethodName) ∈ nd_ := List.mem_filter.mpr ⟨List.mem_append_right _ (List.mem_of_getElem? (i := 721) (by decide +kernel)), by decide +kernel⟩
theorem nw_515 : Jvm.Cond.selects "MarginHouseModel" ({ cls := "MarginHouseModel", name := "all", desc := "(I)J" } : Jvm.MethodName) ({ cls := "MarginHouseModel", name := "all", desc := "(I)J" } : Jvm.MethodName) ∈ nd_ := List.mem_filter.mpr ⟨List.mem_append_right _ (List.mem_of_getElem? (i := 722) (by decide +kernel)), by decide +kernel⟩
theorem nw_516 : Jvm.Cond.code ({ cls := "MarginHouseModel", name := "all", desc := "(I)J" } : Jvm.MethodName) prog_7_method_32_code (5 : Nat) (Option.some Jvm.ClassFile.FieldType.long) ∈ nd_ := List.mem_filter.mpr ⟨List.mem_append_right _ (List.mem_of_getElem? (i := 723) (by decide +kernel)), by decide +kernel⟩
theorem nw_517 : Jvm.Cond.constantLong "MarginHouseLaw" (74 : Nat) (4294967295 : Int64) ∈ nd_ := List.mem_filter.mpr ⟨List.mem_append_right _ (List.mem_of_getElem? (i := 724) (by decide +kernel)), by decide +kernel⟩
theorem nw_518 : Cond.selects "MarginHouse" ⟨"MarginHouse", "shortfallOf", "(LMarginHouse$Member;)J"⟩ ⟨"MarginHouse", "shortfallOf", "(LMarginHouse$Member;)J"⟩ ∈ nd_ := List.mem_filter.mpr ⟨List.mem_append_left _ (List.mem_of_getElem? (i := 0) (by decide +kernel)), by decide +kernel⟩
theorem nw_519 : Cond.selects "MarginHouse" ⟨"MarginHouse", "marginOf", "(LMarginHouse$Member;)J"⟩ ⟨"MarginHouse", "marginOf", "(LMarginHouse$Member;)J"⟩ ∈ nd_ := List.mem_filter.mpr ⟨List.mem_append_left _ (List.mem_of_getElem? (i := 1) (by decide +kernel)), by decide +kernel⟩
theorem nw_520 : Cond.selects "MarginHouse" ⟨"MarginHouse", "lossUnder", "([ILMarginHouse$Member;)J"⟩ ⟨"MarginHouse", "lossUnder", "([ILMarginHouse$Member;)J"⟩ ∈ nd_ := List.mem_filter.mpr ⟨List.mem_append_left _ (List.mem_of_getElem? (i := 2) (by decide +kernel)), by decide +kernel⟩
theorem nw_521 : Cond.selects "MarginHouse" ⟨"MarginHouse", "extraOf", "(LMarginHouse$Member;)J"⟩ ⟨"MarginHouse", "extraOf", "(LMarginHouse$Member;)J"⟩ ∈ nd_ := List.mem_filter.mpr ⟨List.mem_append_left _ (List.mem_of_getElem? (i := 3) (by decide +kernel)), by decide +kernel⟩
theorem nw_522 : Cond.selects "MarginHouse" ⟨"MarginHouse", "isInstrument", "(I)Z"⟩ ⟨"MarginHouse", "isInstrument", "(I)Z"⟩ ∈ nd_ := List.mem_filter.mpr ⟨List.mem_append_left _ (List.mem_of_getElem? (i := 5) (by decide +kernel)), by decide +kernel⟩
theorem nw_523 : Cond.selects "MarginHouse" ⟨"MarginHouse", "isMember", "(I)Z"⟩ ⟨"MarginHouse", "isMember", "(I)Z"⟩ ∈ nd_ := List.mem_filter.mpr ⟨List.mem_append_left _ (List.mem_of_getElem? (i := 6) (by decide +kernel)), by decide +kernel⟩
theorem nw_524 : Cond.selects "MarginHouse" ⟨"MarginHouse", "countLiveBelowZero", "()I"⟩ ⟨"MarginHouse", "countLiveBelowZero", "()I"⟩ ∈ nd_ := List.mem_filter.mpr ⟨List.mem_append_left _ (List.mem_of_getElem? (i := 7) (by decide +kernel)), by decide +kernel⟩
theorem nw_525 : Cond.selects "MarginHouse" ⟨"MarginHouse", "startPlan", "()V"⟩ ⟨"MarginHouse", "startPlan", "()V"⟩ ∈ nd_ := List.mem_filter.mpr ⟨List.mem_append_left _ (List.mem_of_getElem? (i := 8) (by decide +kernel)), by decide +kernel⟩
theorem nw_526 : Cond.selects "MarginHouse" ⟨"MarginHouse", "planTakers", "(I)Z"⟩ ⟨"MarginHouse", "planTakers", "(I)Z"⟩ ∈ nd_ := List.mem_filter.mpr ⟨List.mem_append_left _ (List.mem_of_getElem? (i := 9) (by decide +kernel)), by decide +kernel⟩
theorem nw_527 : Cond.selects "MarginHouse" ⟨"MarginHouse", "leastBidder", "(I)I"⟩ ⟨"MarginHouse", "leastBidder", "(I)I"⟩ ∈ nd_ := List.mem_filter.mpr ⟨List.mem_append_left _ (List.mem_of_getElem? (i := 10) (by decide +kernel)), by decide +kernel⟩
theorem nw_528 : Cond.selects "MarginHouse" ⟨"MarginHouse", "planTaking", "(III)Z"⟩ ⟨"MarginHouse", "planTaking", "(III)Z"⟩ ∈ nd_ := List.mem_filter.mpr ⟨List.mem_append_left _ (List.mem_of_getElem? (i := 11) (by decide +kernel)), by decide +kernel⟩
theorem nw_529 : Cond.selects "MarginHouse" ⟨"MarginHouse", "planLayers", "(I)V"⟩ ⟨"MarginHouse", "planLayers", "(I)V"⟩ ∈ nd_ := List.mem_filter.mpr ⟨List.mem_append_left _ (List.mem_of_getElem? (i := 12) (by decide +kernel)), by decide +kernel⟩
theorem nw_530 : Cond.selects "MarginHouse$Plan" ⟨"MarginHouse$Plan", "bear", "(IJ)V"⟩ ⟨"MarginHouse$Plan", "bear", "(IJ)V"⟩ ∈ nd_ := List.mem_filter.mpr ⟨List.mem_append_left _ (List.mem_of_getElem? (i := 13) (by decide +kernel)), by decide +kernel⟩
theorem nw_531 : Cond.selects "MarginHouse" ⟨"MarginHouse", "weighContributions", "()V"⟩ ⟨"MarginHouse", "weighContributions", "()V"⟩ ∈ nd_ := List.mem_filter.mpr ⟨List.mem_append_left _ (List.mem_of_getElem? (i := 14) (by decide +kernel)), by decide +kernel⟩
theorem nw_532 : Cond.selects "MarginHouse$Shares" ⟨"MarginHouse$Shares", "bearWhole", "()V"⟩ ⟨"MarginHouse$Shares", "bearWhole", "()V"⟩ ∈ nd_ := List.mem_filter.mpr ⟨List.mem_append_left _ (List.mem_of_getElem? (i := 15) (by decide +kernel)), by decide +kernel⟩
theorem nw_533 : Cond.selects "MarginHouse$Shares" ⟨"MarginHouse$Shares", "bearRounded", "(JJ)V"⟩ ⟨"MarginHouse$Shares", "bearRounded", "(JJ)V"⟩ ∈ nd_ := List.mem_filter.mpr ⟨List.mem_append_left _ (List.mem_of_getElem? (i := 16) (by decide +kernel)), by decide +kernel⟩
theorem nw_534 : Cond.selects "MarginHouse$Shares" ⟨"MarginHouse$Shares", "roundDown", "(IJJ)V"⟩ ⟨"MarginHouse$Shares", "roundDown", "(IJJ)V"⟩ ∈ nd_ := List.mem_filter.mpr ⟨List.mem_append_left _ (List.mem_of_getElem? (i := 17) (by decide +kernel)), by decide +kernel⟩
theorem nw_535 : Cond.selects "MarginHouse$Shares" ⟨"MarginHouse$Shares", "giveOneMore", "()V"⟩ ⟨"MarginHouse$Shares", "giveOneMore", "()V"⟩ ∈ nd_ := List.mem_filter.mpr ⟨List.mem_append_left _ (List.mem_of_getElem? (i := 18) (by decide +kernel)), by decide +kernel⟩
theorem nw_536 : Cond.selects "MarginHouse" ⟨"MarginHouse", "weighCalls", "()V"⟩ ⟨"MarginHouse", "weighCalls", "()V"⟩ ∈ nd_ := List.mem_filter.mpr ⟨List.mem_append_left _ (List.mem_of_getElem? (i := 19) (by decide +kernel)), by decide +kernel⟩
theorem nw_537 : Cond.selects "MarginHouse" ⟨"MarginHouse", "carryOutPlan", "(I)V"⟩ ⟨"MarginHouse", "carryOutPlan", "(I)V"⟩ ∈ nd_ := List.mem_filter.mpr ⟨List.mem_append_left _ (List.mem_of_getElem? (i := 20) (by decide +kernel)), by decide +kernel⟩
theorem nw_538 : Cond.selects "MarginHouse" ⟨"MarginHouse", "sumCash", "()J"⟩ ⟨"MarginHouse", "sumCash", "()J"⟩ ∈ nd_ := List.mem_filter.mpr ⟨List.mem_append_left _ (List.mem_of_getElem? (i := 21) (by decide +kernel)), by decide +kernel⟩
theorem nw_539 : Cond.selects "MarginHouse" ⟨"MarginHouse", "sumContributions", "()J"⟩ ⟨"MarginHouse", "sumContributions", "()J"⟩ ∈ nd_ := List.mem_filter.mpr ⟨List.mem_append_left _ (List.mem_of_getElem? (i := 22) (by decide +kernel)), by decide +kernel⟩
theorem nw_540 : Cond.selects "MarginHouse" ⟨"MarginHouse", "sumUnitsOpen", "()J"⟩ ⟨"MarginHouse", "sumUnitsOpen", "()J"⟩ ∈ nd_ := List.mem_filter.mpr ⟨List.mem_append_left _ (List.mem_of_getElem? (i := 23) (by decide +kernel)), by decide +kernel⟩
theorem nw_541 : Cond.selects "MarginHouseModel" ⟨"MarginHouseModel", "isInstrument", "(I)Z"⟩ ⟨"MarginHouseModel", "isInstrument", "(I)Z"⟩ ∈ nd_ := List.mem_filter.mpr ⟨List.mem_append_left _ (List.mem_of_getElem? (i := 24) (by decide +kernel)), by decide +kernel⟩
theorem nw_542 : Cond.selects "MarginHouseModel" ⟨"MarginHouseModel", "isMember", "(I)Z"⟩ ⟨"MarginHouseModel", "isMember", "(I)Z"⟩ ∈ nd_ := List.mem_filter.mpr ⟨List.mem_append_left _ (List.mem_of_getElem? (i := 25) (by decide +kernel)), by decide +kernel⟩
theorem nw_543 : Cond.selects "MarginHouseModel" ⟨"MarginHouseModel", "marginOf", "(I)J"⟩ ⟨"MarginHouseModel", "marginOf", "(I)J"⟩ ∈ nd_ := List.mem_filter.mpr ⟨List.mem_append_left _ (List.mem_of_getElem? (i := 26) (by decide +kernel)), by decide +kernel⟩
theorem nw_544 : Cond.selects "MarginHouseModel" ⟨"MarginHouseModel", "callOf", "(I)J"⟩ ⟨"MarginHouseModel", "callOf", "(I)J"⟩ ∈ nd_ := List.mem_filter.mpr ⟨List.mem_append_left _ (List.mem_of_getElem? (i := 27) (by decide +kernel)), by decide +kernel⟩
theorem nw_545 : Cond.selects "MarginHouseModel" ⟨"MarginHouseModel", "give", "(II)V"⟩ ⟨"MarginHouseModel", "give", "(II)V"⟩ ∈ nd_ := List.mem_filter.mpr ⟨List.mem_append_left _ (List.mem_of_getElem? (i := 28) (by decide +kernel)), by decide +kernel⟩
theorem nw_546 : Cond.selects "MarginHouseModel" ⟨"MarginHouseModel", "bestBid", "(I)I"⟩ ⟨"MarginHouseModel", "bestBid", "(I)I"⟩ ∈ nd_ := List.mem_filter.mpr ⟨List.mem_append_left _ (List.mem_of_getElem? (i := 29) (by decide +kernel)), by decide +kernel⟩
theorem nw_547 : Cond.selects "MarginHouseModel" ⟨"MarginHouseModel", "change", "(IJ)V"⟩ ⟨"MarginHouseModel", "change", "(IJ)V"⟩ ∈ nd_ := List.mem_filter.mpr ⟨List.mem_append_left _ (List.mem_of_getElem? (i := 30) (by decide +kernel)), by decide +kernel⟩
theorem nw_548 : Cond.selects "MarginHouseModel" ⟨"MarginHouseModel", "wouldLose", "(I)J"⟩ ⟨"MarginHouseModel", "wouldLose", "(I)J"⟩ ∈ nd_ := List.mem_filter.mpr ⟨List.mem_append_left _ (List.mem_of_getElem? (i := 31) (by decide +kernel)), by decide +kernel⟩
theorem nw_549 : Cond.selects "MarginHouseModel" ⟨"MarginHouseModel", "bear", "(I)J"⟩ ⟨"MarginHouseModel", "bear", "(I)J"⟩ ∈ nd_ := List.mem_filter.mpr ⟨List.mem_append_left _ (List.mem_of_getElem? (i := 32) (by decide +kernel)), by decide +kernel⟩
theorem nw_550 : Cond.selects "MarginHouseModel" ⟨"MarginHouseModel", "share", "(J)J"⟩ ⟨"MarginHouseModel", "share", "(J)J"⟩ ∈ nd_ := List.mem_filter.mpr ⟨List.mem_append_left _ (List.mem_of_getElem? (i := 33) (by decide +kernel)), by decide +kernel⟩
theorem nw_551 : Cond.selects "MarginHouseModel" ⟨"MarginHouseModel", "divide", "(IJJ)V"⟩ ⟨"MarginHouseModel", "divide", "(IJJ)V"⟩ ∈ nd_ := List.mem_filter.mpr ⟨List.mem_append_left _ (List.mem_of_getElem? (i := 34) (by decide +kernel)), by decide +kernel⟩
theorem inX0 : ∀ w ∈ u_ws RX0 TX0 3, w ∈ nd_ := by
  intro w hw
  refine List.mem_filter.mpr ⟨List.mem_append_right _ ?_, ?_⟩
  · exact (show ∀ w ∈ u_ws RX0 TX0 3, w ∈ tables_1 by decide +kernel) w hw
  · exact (show ∀ w ∈ u_ws RX0 TX0 3, goodWord w = true by decide +kernel) w hw
theorem inX1 : ∀ w ∈ u_ws RX1 TX1 5, w ∈ nd_ := by
  intro w hw
  refine List.mem_filter.mpr ⟨List.mem_append_right _ ?_, ?_⟩
  · exact (show ∀ w ∈ u_ws RX1 TX1 5, w ∈ tables_1 by decide +kernel) w hw
  · exact (show ∀ w ∈ u_ws RX1 TX1 5, goodWord w = true by decide +kernel) w hw
theorem inX2 : ∀ w ∈ u_ws RX2 TX2 7, w ∈ nd_ := by
  intro w hw
  refine List.mem_filter.mpr ⟨List.mem_append_right _ ?_, ?_⟩
  · exact (show ∀ w ∈ u_ws RX2 TX2 7, w ∈ tables_1 by decide +kernel) w hw
  · exact (show ∀ w ∈ u_ws RX2 TX2 7, goodWord w = true by decide +kernel) w hw
theorem inX3 : ∀ w ∈ u_ws RX3 TX3 3, w ∈ nd_ := by
  intro w hw
  refine List.mem_filter.mpr ⟨List.mem_append_right _ ?_, ?_⟩
  · exact (show ∀ w ∈ u_ws RX3 TX3 3, w ∈ tables_1 by decide +kernel) w hw
  · exact (show ∀ w ∈ u_ws RX3 TX3 3, goodWord w = true by decide +kernel) w hw
theorem inX4 : ∀ w ∈ u_ws RX4 TX4 10, w ∈ nd_ := by
  intro w hw
  refine List.mem_filter.mpr ⟨List.mem_append_right _ ?_, ?_⟩
  · exact (show ∀ w ∈ u_ws RX4 TX4 10, w ∈ tables_1 by decide +kernel) w hw
  · exact (show ∀ w ∈ u_ws RX4 TX4 10, goodWord w = true by decide +kernel) w hw
theorem inX5 : ∀ w ∈ u_ws RX5 TX5 24, w ∈ nd_ := by
  intro w hw
  refine List.mem_filter.mpr ⟨List.mem_append_right _ ?_, ?_⟩
  · exact (show ∀ w ∈ u_ws RX5 TX5 24, w ∈ tables_1 by decide +kernel) w hw
  · exact (show ∀ w ∈ u_ws RX5 TX5 24, goodWord w = true by decide +kernel) w hw
theorem nd_good : ∀ w ∈ nd_, (w.onTables && w.keeps) = true ∨ ∃ ty, w = .arrayClass ty := fun w hw => good_of_word (List.mem_filter.mp hw).2
theorem nd_in : ∀ w ∈ nd_, w ∈ lw_tbl := fun w hw => (List.mem_filter.mp hw).1
theorem nd_self {c : Cond} (h : c ∈ nd_) : GoodIn nd_ (c :: nd_) := fun w hw => by
  rcases List.mem_cons.mp hw with rfl | hw
  · exact ⟨h, nd_good _ h⟩
  · exact ⟨hw, nd_good _ hw⟩
end
section
/-! THE STATE: numbers by (variable, i, j); the cells that hold them; which cell holds which variable. -/
abbrev St_ : Type := (Nat → Nat → Nat → Int32) × (Nat → Nat → Nat → Int64)
def gi_ (a : St_) (v i j : Nat) : Int32 := a.1 v i j
def gl_ (a : St_) (v i j : Nat) : Int64 := a.2 v i j
def si_ (a : St_) (v i j : Nat) (x : Int32) : St_ := (fun v' i' j' => if v' = v ∧ i' = i ∧ j' = j then x else a.1 v' i' j', a.2)
def sl_ (a : St_) (v i j : Nat) (x : Int64) : St_ := (a.1, fun v' i' j' => if v' = v ∧ i' = i ∧ j' = j then x else a.2 v' i' j')
theorem gi_si (a : St_) (v i j v' i' j' : Nat) (x : Int32) : gi_ (si_ a v i j x) v' i' j' = if v' = v ∧ i' = i ∧ j' = j then x else gi_ a v' i' j' := rfl
theorem gi_sl (a : St_) (v i j v' i' j' : Nat) (x : Int64) : gi_ (sl_ a v i j x) v' i' j' = gi_ a v' i' j' := rfl
theorem gl_sl (a : St_) (v i j v' i' j' : Nat) (x : Int64) : gl_ (sl_ a v i j x) v' i' j' = if v' = v ∧ i' = i ∧ j' = j then x else gl_ a v' i' j' := rfl
theorem gl_si (a : St_) (v i j v' i' j' : Nat) (x : Int32) : gl_ (si_ a v i j x) v' i' j' = gl_ a v' i' j' := rfl
/-- the ghosts of a run: the tables' numbers, the addresses of the cells by (kind, number), the array classes, the first address that is ours -/
abbrev Gh_ : Type := va_G × (Nat → Nat → Nat) × (Nat → ClassId) × Nat
def ad_ (w : Gh_) (k i : Nat) : Nat := w.2.1 k i
def ca_ (w : Gh_) (k : Nat) : ClassId := w.2.2.1 k
def lo_ (w : Gh_) : Nat := w.2.2.2
def en_ (w : Gh_) (a : St_) (k i : Nat) : va_E := match k with
  | 0 => .inr (4, [.ref (ad_ w 1 i), .ref (ad_ w 2 i), .ref (ad_ w 3 i), .ref (ad_ w 4 i), .ref (ad_ w 5 i), .int (gi_ a 0 i 0), .int (gi_ a 1 i 0), .int (gi_ a 2 i 0), .long (gl_ a 0 i 0), .long (gl_ a 1 i 0)])
  | 1 => .inl (ca_ w 2, 8, .inr (.inr (.inr (.inr (fun j => some (ad_ w 6 j))))))
  | 2 => .inl (ca_ w 3, 6, .inr (.inr (.inr (.inr (fun j => some (ad_ w 9 j))))))
  | 3 => .inl (ca_ w 4, 8, .inr (.inr (.inr (.inr (fun j => some (ad_ w 10 j))))))
  | 4 => .inl (ca_ w 1, 5, .inr (.inl (fun j => gl_ a 4 i j)))
  | 5 => .inr (2, [.ref (ad_ w 11 i), .ref (ad_ w 12 i), .ref (ad_ w 13 i), .ref (ad_ w 14 i), .ref (ad_ w 15 i), .long (gl_ a 8 i 0), .long (gl_ a 9 i 0)])
  | 6 => .inr (1, [.ref (ad_ w 7 i), .ref (ad_ w 8 i), .int (gi_ a 3 i 0), .long (gl_ a 2 i 0), .long (gl_ a 3 i 0)])
  | 7 => .inl (ca_ w 0, 6, .inl (fun j => gi_ a 4 i j))
  | 8 => .inl (ca_ w 0, 6, .inl (fun j => gi_ a 5 i j))
  | 9 => .inr (0, [.int (gi_ a 6 i 0), .int (gi_ a 7 i 0), .int (gi_ a 8 i 0)])
  | 10 => .inl (ca_ w 0, 6, .inl (fun j => gi_ a 9 i j))
  | 11 => .inl (ca_ w 0, 6, .inl (fun j => gi_ a 10 i j))
  | 12 => .inl (ca_ w 1, 8, .inr (.inl (fun j => gl_ a 5 i j)))
  | 13 => .inl (ca_ w 1, 8, .inr (.inl (fun j => gl_ a 6 i j)))
  | 14 => .inl (ca_ w 1, 5, .inr (.inl (fun j => gl_ a 7 i j)))
  | 15 => .inr (3, [.ref (ad_ w 16 i), .ref (ad_ w 17 i), .ref (ad_ w 18 i)])
  | 16 => .inl (ca_ w 1, 8, .inr (.inl (fun j => gl_ a 10 i j)))
  | 17 => .inl (ca_ w 1, 8, .inr (.inl (fun j => gl_ a 11 i j)))
  | 18 => .inl (ca_ w 1, 8, .inr (.inl (fun j => gl_ a 12 i j)))
  | 20 => .inr (5, [.int (gi_ a 20 i 0), .int (gi_ a 21 i 0), .int (gi_ a 22 i 0), .ref (ad_ w 21 i), .ref (ad_ w 22 i), .ref (ad_ w 23 i), .ref (ad_ w 24 i), .ref (ad_ w 25 i), .ref (ad_ w 26 i), .ref (ad_ w 27 i), .ref (ad_ w 28 i), .ref (ad_ w 29 i), .long (gl_ a 22 i 0), .long (gl_ a 23 i 0), .long (gl_ a 24 i 0), .ref (ad_ w 30 i), .ref (ad_ w 31 i), .ref (ad_ w 32 i), .ref (ad_ w 33 i), .ref (ad_ w 34 i), .ref (ad_ w 35 i), .ref (ad_ w 36 i), .ref (ad_ w 37 i), .int (gi_ a 31 i 0)])
  | 21 => .inl (ca_ w 1, 8, .inr (.inl (fun j => gl_ a 20 i j)))
  | 22 => .inl (ca_ w 1, 8, .inr (.inl (fun j => gl_ a 21 i j)))
  | 23 => .inl (ca_ w 0, 8, .inl (fun j => gi_ a 23 i j))
  | 24 => .inl (ca_ w 0, 48, .inl (fun j => gi_ a 24 i j))
  | 25 => .inl (ca_ w 0, 48, .inl (fun j => gi_ a 25 i j))
  | 26 => .inl (ca_ w 0, 6, .inl (fun j => gi_ a 26 i j))
  | 27 => .inl (ca_ w 0, 6, .inl (fun j => gi_ a 27 i j))
  | 28 => .inl (ca_ w 0, 6, .inl (fun j => gi_ a 28 i j))
  | 29 => .inl (ca_ w 0, 48, .inl (fun j => gi_ a 29 i j))
  | 30 => .inl (ca_ w 1, 5, .inr (.inl (fun j => gl_ a 25 i j)))
  | 31 => .inl (ca_ w 1, 8, .inr (.inl (fun j => gl_ a 26 i j)))
  | 32 => .inl (ca_ w 1, 8, .inr (.inl (fun j => gl_ a 27 i j)))
  | 33 => .inl (ca_ w 0, 48, .inl (fun j => gi_ a 30 i j))
  | 34 => .inl (ca_ w 1, 5, .inr (.inl (fun j => gl_ a 28 i j)))
  | 35 => .inl (ca_ w 1, 8, .inr (.inl (fun j => gl_ a 29 i j)))
  | 36 => .inl (ca_ w 1, 8, .inr (.inl (fun j => gl_ a 30 i j)))
  | 37 => .inl (ca_ w 1, 8, .inr (.inl (fun j => gl_ a 31 i j)))
  | 40 => .inl (ca_ w 1, 1, .inr (.inl (fun j => gl_ a 40 i j)))
  | _ => .inr (0, [])
def cn_ (k : Nat) : Nat := match k with
  | 0 => 1
  | 1 => 1
  | 2 => 1
  | 3 => 1
  | 4 => 1
  | 5 => 1
  | 6 => 8
  | 7 => 8
  | 8 => 8
  | 9 => 6
  | 10 => 8
  | 11 => 1
  | 12 => 1
  | 13 => 1
  | 14 => 1
  | 15 => 1
  | 16 => 1
  | 17 => 1
  | 18 => 1
  | 20 => 1
  | 21 => 1
  | 22 => 1
  | 23 => 1
  | 24 => 1
  | 25 => 1
  | 26 => 1
  | 27 => 1
  | 28 => 1
  | 29 => 1
  | 30 => 1
  | 31 => 1
  | 32 => 1
  | 33 => 1
  | 34 => 1
  | 35 => 1
  | 36 => 1
  | 37 => 1
  | 40 => 1
  | _ => 0
def kI_ (v : Nat) : Nat := match v with
  | 0 => 0
  | 1 => 0
  | 2 => 0
  | 3 => 6
  | 4 => 7
  | 5 => 8
  | 6 => 9
  | 7 => 9
  | 8 => 9
  | 9 => 10
  | 10 => 11
  | 20 => 20
  | 21 => 20
  | 22 => 20
  | 23 => 23
  | 24 => 24
  | 25 => 25
  | 26 => 26
  | 27 => 27
  | 28 => 28
  | 29 => 29
  | 30 => 33
  | 31 => 20
  | _ => 99
def kL_ (v : Nat) : Nat := match v with
  | 0 => 0
  | 1 => 0
  | 2 => 6
  | 3 => 6
  | 4 => 4
  | 5 => 12
  | 6 => 13
  | 7 => 14
  | 8 => 5
  | 9 => 5
  | 10 => 16
  | 11 => 17
  | 12 => 18
  | 20 => 21
  | 21 => 22
  | 22 => 20
  | 23 => 20
  | 24 => 20
  | 25 => 30
  | 26 => 31
  | 27 => 32
  | 28 => 34
  | 29 => 35
  | 30 => 36
  | 31 => 37
  | 40 => 40
  | _ => 99
theorem en_congr (w : Gh_) {a a' : St_} {k i : Nat} (hI : ∀ v j, kI_ v = k → gi_ a' v i j = gi_ a v i j) (hL : ∀ v j, kL_ v = k → gl_ a' v i j = gl_ a v i j) : en_ w a' k i = en_ w a k i := by
  match k, hI, hL with
  | 0, hI, hL => simp only [en_, hI 0 0 rfl, hI 1 0 rfl, hI 2 0 rfl, hL 0 0 rfl, hL 1 0 rfl]
  | 1, hI, hL => rfl
  | 2, hI, hL => rfl
  | 3, hI, hL => rfl
  | 4, hI, hL =>
    have e : (fun j => gl_ a' 4 i j) = (fun j => gl_ a 4 i j) := funext fun j => hL 4 j rfl
    show (.inl (ca_ w 1, 5, .inr (.inl (fun j => gl_ a' 4 i j))) : va_E) = .inl (ca_ w 1, 5, .inr (.inl (fun j => gl_ a 4 i j)))
    rw [e]
  | 5, hI, hL => simp only [en_, hL 8 0 rfl, hL 9 0 rfl]
  | 6, hI, hL => simp only [en_, hI 3 0 rfl, hL 2 0 rfl, hL 3 0 rfl]
  | 7, hI, hL =>
    have e : (fun j => gi_ a' 4 i j) = (fun j => gi_ a 4 i j) := funext fun j => hI 4 j rfl
    show (.inl (ca_ w 0, 6, .inl (fun j => gi_ a' 4 i j)) : va_E) = .inl (ca_ w 0, 6, .inl (fun j => gi_ a 4 i j))
    rw [e]
  | 8, hI, hL =>
    have e : (fun j => gi_ a' 5 i j) = (fun j => gi_ a 5 i j) := funext fun j => hI 5 j rfl
    show (.inl (ca_ w 0, 6, .inl (fun j => gi_ a' 5 i j)) : va_E) = .inl (ca_ w 0, 6, .inl (fun j => gi_ a 5 i j))
    rw [e]
  | 9, hI, hL => simp only [en_, hI 6 0 rfl, hI 7 0 rfl, hI 8 0 rfl]
  | 10, hI, hL =>
    have e : (fun j => gi_ a' 9 i j) = (fun j => gi_ a 9 i j) := funext fun j => hI 9 j rfl
    show (.inl (ca_ w 0, 6, .inl (fun j => gi_ a' 9 i j)) : va_E) = .inl (ca_ w 0, 6, .inl (fun j => gi_ a 9 i j))
    rw [e]
  | 11, hI, hL =>
    have e : (fun j => gi_ a' 10 i j) = (fun j => gi_ a 10 i j) := funext fun j => hI 10 j rfl
    show (.inl (ca_ w 0, 6, .inl (fun j => gi_ a' 10 i j)) : va_E) = .inl (ca_ w 0, 6, .inl (fun j => gi_ a 10 i j))
    rw [e]
  | 12, hI, hL =>
    have e : (fun j => gl_ a' 5 i j) = (fun j => gl_ a 5 i j) := funext fun j => hL 5 j rfl
    show (.inl (ca_ w 1, 8, .inr (.inl (fun j => gl_ a' 5 i j))) : va_E) = .inl (ca_ w 1, 8, .inr (.inl (fun j => gl_ a 5 i j)))
    rw [e]
  | 13, hI, hL =>
    have e : (fun j => gl_ a' 6 i j) = (fun j => gl_ a 6 i j) := funext fun j => hL 6 j rfl
    show (.inl (ca_ w 1, 8, .inr (.inl (fun j => gl_ a' 6 i j))) : va_E) = .inl (ca_ w 1, 8, .inr (.inl (fun j => gl_ a 6 i j)))
    rw [e]
  | 14, hI, hL =>
    have e : (fun j => gl_ a' 7 i j) = (fun j => gl_ a 7 i j) := funext fun j => hL 7 j rfl
    show (.inl (ca_ w 1, 5, .inr (.inl (fun j => gl_ a' 7 i j))) : va_E) = .inl (ca_ w 1, 5, .inr (.inl (fun j => gl_ a 7 i j)))
    rw [e]
  | 15, hI, hL => rfl
  | 16, hI, hL =>
    have e : (fun j => gl_ a' 10 i j) = (fun j => gl_ a 10 i j) := funext fun j => hL 10 j rfl
    show (.inl (ca_ w 1, 8, .inr (.inl (fun j => gl_ a' 10 i j))) : va_E) = .inl (ca_ w 1, 8, .inr (.inl (fun j => gl_ a 10 i j)))
    rw [e]
  | 17, hI, hL =>
    have e : (fun j => gl_ a' 11 i j) = (fun j => gl_ a 11 i j) := funext fun j => hL 11 j rfl
    show (.inl (ca_ w 1, 8, .inr (.inl (fun j => gl_ a' 11 i j))) : va_E) = .inl (ca_ w 1, 8, .inr (.inl (fun j => gl_ a 11 i j)))
    rw [e]
  | 18, hI, hL =>
    have e : (fun j => gl_ a' 12 i j) = (fun j => gl_ a 12 i j) := funext fun j => hL 12 j rfl
    show (.inl (ca_ w 1, 8, .inr (.inl (fun j => gl_ a' 12 i j))) : va_E) = .inl (ca_ w 1, 8, .inr (.inl (fun j => gl_ a 12 i j)))
    rw [e]
  | 20, hI, hL => simp only [en_, hI 20 0 rfl, hI 21 0 rfl, hI 22 0 rfl, hL 22 0 rfl, hL 23 0 rfl, hL 24 0 rfl, hI 31 0 rfl]
  | 21, hI, hL =>
    have e : (fun j => gl_ a' 20 i j) = (fun j => gl_ a 20 i j) := funext fun j => hL 20 j rfl
    show (.inl (ca_ w 1, 8, .inr (.inl (fun j => gl_ a' 20 i j))) : va_E) = .inl (ca_ w 1, 8, .inr (.inl (fun j => gl_ a 20 i j)))
    rw [e]
  | 22, hI, hL =>
    have e : (fun j => gl_ a' 21 i j) = (fun j => gl_ a 21 i j) := funext fun j => hL 21 j rfl
    show (.inl (ca_ w 1, 8, .inr (.inl (fun j => gl_ a' 21 i j))) : va_E) = .inl (ca_ w 1, 8, .inr (.inl (fun j => gl_ a 21 i j)))
    rw [e]
  | 23, hI, hL =>
    have e : (fun j => gi_ a' 23 i j) = (fun j => gi_ a 23 i j) := funext fun j => hI 23 j rfl
    show (.inl (ca_ w 0, 8, .inl (fun j => gi_ a' 23 i j)) : va_E) = .inl (ca_ w 0, 8, .inl (fun j => gi_ a 23 i j))
    rw [e]
  | 24, hI, hL =>
    have e : (fun j => gi_ a' 24 i j) = (fun j => gi_ a 24 i j) := funext fun j => hI 24 j rfl
    show (.inl (ca_ w 0, 48, .inl (fun j => gi_ a' 24 i j)) : va_E) = .inl (ca_ w 0, 48, .inl (fun j => gi_ a 24 i j))
    rw [e]
  | 25, hI, hL =>
    have e : (fun j => gi_ a' 25 i j) = (fun j => gi_ a 25 i j) := funext fun j => hI 25 j rfl
    show (.inl (ca_ w 0, 48, .inl (fun j => gi_ a' 25 i j)) : va_E) = .inl (ca_ w 0, 48, .inl (fun j => gi_ a 25 i j))
    rw [e]
  | 26, hI, hL =>
    have e : (fun j => gi_ a' 26 i j) = (fun j => gi_ a 26 i j) := funext fun j => hI 26 j rfl
    show (.inl (ca_ w 0, 6, .inl (fun j => gi_ a' 26 i j)) : va_E) = .inl (ca_ w 0, 6, .inl (fun j => gi_ a 26 i j))
    rw [e]
  | 27, hI, hL =>
    have e : (fun j => gi_ a' 27 i j) = (fun j => gi_ a 27 i j) := funext fun j => hI 27 j rfl
    show (.inl (ca_ w 0, 6, .inl (fun j => gi_ a' 27 i j)) : va_E) = .inl (ca_ w 0, 6, .inl (fun j => gi_ a 27 i j))
    rw [e]
  | 28, hI, hL =>
    have e : (fun j => gi_ a' 28 i j) = (fun j => gi_ a 28 i j) := funext fun j => hI 28 j rfl
    show (.inl (ca_ w 0, 6, .inl (fun j => gi_ a' 28 i j)) : va_E) = .inl (ca_ w 0, 6, .inl (fun j => gi_ a 28 i j))
    rw [e]
  | 29, hI, hL =>
    have e : (fun j => gi_ a' 29 i j) = (fun j => gi_ a 29 i j) := funext fun j => hI 29 j rfl
    show (.inl (ca_ w 0, 48, .inl (fun j => gi_ a' 29 i j)) : va_E) = .inl (ca_ w 0, 48, .inl (fun j => gi_ a 29 i j))
    rw [e]
  | 30, hI, hL =>
    have e : (fun j => gl_ a' 25 i j) = (fun j => gl_ a 25 i j) := funext fun j => hL 25 j rfl
    show (.inl (ca_ w 1, 5, .inr (.inl (fun j => gl_ a' 25 i j))) : va_E) = .inl (ca_ w 1, 5, .inr (.inl (fun j => gl_ a 25 i j)))
    rw [e]
  | 31, hI, hL =>
    have e : (fun j => gl_ a' 26 i j) = (fun j => gl_ a 26 i j) := funext fun j => hL 26 j rfl
    show (.inl (ca_ w 1, 8, .inr (.inl (fun j => gl_ a' 26 i j))) : va_E) = .inl (ca_ w 1, 8, .inr (.inl (fun j => gl_ a 26 i j)))
    rw [e]
  | 32, hI, hL =>
    have e : (fun j => gl_ a' 27 i j) = (fun j => gl_ a 27 i j) := funext fun j => hL 27 j rfl
    show (.inl (ca_ w 1, 8, .inr (.inl (fun j => gl_ a' 27 i j))) : va_E) = .inl (ca_ w 1, 8, .inr (.inl (fun j => gl_ a 27 i j)))
    rw [e]
  | 33, hI, hL =>
    have e : (fun j => gi_ a' 30 i j) = (fun j => gi_ a 30 i j) := funext fun j => hI 30 j rfl
    show (.inl (ca_ w 0, 48, .inl (fun j => gi_ a' 30 i j)) : va_E) = .inl (ca_ w 0, 48, .inl (fun j => gi_ a 30 i j))
    rw [e]
  | 34, hI, hL =>
    have e : (fun j => gl_ a' 28 i j) = (fun j => gl_ a 28 i j) := funext fun j => hL 28 j rfl
    show (.inl (ca_ w 1, 5, .inr (.inl (fun j => gl_ a' 28 i j))) : va_E) = .inl (ca_ w 1, 5, .inr (.inl (fun j => gl_ a 28 i j)))
    rw [e]
  | 35, hI, hL =>
    have e : (fun j => gl_ a' 29 i j) = (fun j => gl_ a 29 i j) := funext fun j => hL 29 j rfl
    show (.inl (ca_ w 1, 8, .inr (.inl (fun j => gl_ a' 29 i j))) : va_E) = .inl (ca_ w 1, 8, .inr (.inl (fun j => gl_ a 29 i j)))
    rw [e]
  | 36, hI, hL =>
    have e : (fun j => gl_ a' 30 i j) = (fun j => gl_ a 30 i j) := funext fun j => hL 30 j rfl
    show (.inl (ca_ w 1, 8, .inr (.inl (fun j => gl_ a' 30 i j))) : va_E) = .inl (ca_ w 1, 8, .inr (.inl (fun j => gl_ a 30 i j)))
    rw [e]
  | 37, hI, hL =>
    have e : (fun j => gl_ a' 31 i j) = (fun j => gl_ a 31 i j) := funext fun j => hL 31 j rfl
    show (.inl (ca_ w 1, 8, .inr (.inl (fun j => gl_ a' 31 i j))) : va_E) = .inl (ca_ w 1, 8, .inr (.inl (fun j => gl_ a 31 i j)))
    rw [e]
  | 40, hI, hL =>
    have e : (fun j => gl_ a' 40 i j) = (fun j => gl_ a 40 i j) := funext fun j => hL 40 j rfl
    show (.inl (ca_ w 1, 1, .inr (.inl (fun j => gl_ a' 40 i j))) : va_E) = .inl (ca_ w 1, 1, .inr (.inl (fun j => gl_ a 40 i j)))
    rw [e]
  | 19, hI, hL => rfl
  | 38, hI, hL => rfl
  | 39, hI, hL => rfl
  | k + 41, hI, hL => rfl
theorem en_si (w : Gh_) (a : St_) (v i j : Nat) (x : Int32) (k' i' : Nat) (h : ¬ (k' = kI_ v ∧ i' = i)) : en_ w (si_ a v i j x) k' i' = en_ w a k' i' := by
  refine en_congr w (fun v' j' hv => ?_) (fun v' j' hv => rfl)
  rw [gi_si, if_neg]
  rintro ⟨rfl, rfl, rfl⟩
  exact h ⟨hv.symm, rfl⟩
theorem en_sl (w : Gh_) (a : St_) (v i j : Nat) (x : Int64) (k' i' : Nat) (h : ¬ (k' = kL_ v ∧ i' = i)) : en_ w (sl_ a v i j x) k' i' = en_ w a k' i' := by
  refine en_congr w (fun v' j' hv => rfl) (fun v' j' hv => ?_)
  rw [gl_sl, if_neg]
  rintro ⟨rfl, rfl, rfl⟩
  exact h ⟨hv.symm, rfl⟩
end
section
/-! THE WORLD in a heap, and the rows of the instructions that read and write it. -/
def Hd_ (w : Gh_) (a : St_) (H : Heap) : Prop := ∀ k i, i < cn_ k → va_at w.1 cl_ (ad_ w k i, en_ w a k i) H
def In_ (w : Gh_) : Prop := (∀ k i k' i', i < cn_ k → i' < cn_ k' → ad_ w k i = ad_ w k' i' → k = k' ∧ i = i') ∧ ∀ k i, i < cn_ k → lo_ w ≤ ad_ w k i
def ty_ (w : Gh_) : List (ClassId × FieldType) := [(ca_ w 0, .int), (ca_ w 1, .long), (ca_ w 2, .object "MarginHouse$Member"), (ca_ w 3, .object "MarginHouse$Instrument"), (ca_ w 4, .array .int)]
def Kn_ (w : Gh_) (U : State) : Prop := va_K w.1 cl_ (ty_ w) U
def Fr_ (w : Gh_) (H0 H : Heap) (locs : List Loc) : Prop := va_S (fun q => lo_ w ≤ q) H0 H locs
theorem Hd_set {w : Gh_} {a a' : St_} {H H1 : Heap} {k i : Nat} (hI : In_ w) (hW : Hd_ w a H) (hi : i < cn_ k) (he : va_at w.1 cl_ (ad_ w k i, en_ w a' k i) H1) (ho : ∀ q : Nat, q ≠ ad_ w k i → H1[q]? = H[q]?)
    (hu : ∀ k' i', ¬ (k' = k ∧ i' = i) → en_ w a' k' i' = en_ w a k' i') : Hd_ w a' H1 := by
  intro k' i' hi'
  by_cases h : k' = k ∧ i' = i
  · obtain ⟨rfl, rfl⟩ := h
    exact he
  · rw [hu k' i' h]
    exact (hW k' i' hi').kept (ho _ (fun z => h (hI.1 k' i' k i hi' hi z)))
theorem Hd_kept {w : Gh_} {a : St_} {H H1 : Heap} (hW : Hd_ w a H) (ho : ∀ q : Nat, q < H.size → H1[q]? = H[q]?) : Hd_ w a H1 := fun k i hi => (hW k i hi).kept (ho _ (hW k i hi).lt)
section RG
variable {p : Program} {l : Launch} {e : Env} {R : Room} {s : State} {m : MethodId} {args : Array Value} {below : List Frame} {meth : Method} {c : Code} {H : Heap} {locs : List Loc} {cells slots : Nat} {Q : State → Prop}
variable {cc : ByteArray} {pc : Nat} {ls : Array Slot} {rest : List Value} {w : Gh_} {a a' : St_} {H0 : Heap} {k i : Nat}
theorem rg_one {e1 : va_E} (hW : Hd_ w a H) (hi : i < cn_ k) (he : en_ w a k i = e1) : va_P w.1 cl_ [(ad_ w k i, e1)] H := by
  intro q x hq
  have hz : q < 1 := (List.getElem?_eq_some_iff.mp hq).1
  rw [show q = 0 by omega] at hq
  cases hq
  rw [← he]
  exact hW k i hi
theorem rg_get (hx : p.tables.exec = Jvm.exec) (hb : c.code = cc) {own C : String} {T : u_T} {N ci index : Nat} {Ts : List Cond} (hts : ∀ w ∈ Ts, w.before args s = true) (hin : ∀ w ∈ u_ws C T N, w ∈ Ts) (hown : s.vm.findClass own = some m.cls) (hK : Kn_ w s) (hW : Hd_ w a H) (hi : i < cn_ k) {fs : List Value} (he : en_ w a k i = .inr (ci, fs)) (hc : cl_[ci]? = some (C, T, N)) (f : Nat) (hf : f < N)
    (hlink : (Cond.fieldLink own index (T f).1 (T f).2.1 (T f).2.2.1).before args s = true) {v : Value} (hv : fs[f]? = some v) (hd : decode cc pc = .ok (.getfield index, 3))
    (kk : W p l e R s m args below meth c H locs cells slots Q (F0 m (pc + 3) ls (v :: rest))) : W p l e R s m args below meth c H locs cells slots Q (F0 m pc ls (.ref (ad_ w k i) :: rest)) :=
  va_get hx hb hts hin hown hK (rg_one hW hi he) 0 rfl hc f hf hlink (fun _ h => h) hv hd kk
theorem rg_put (hx : p.tables.exec = Jvm.exec) (hb : c.code = cc) {own C : String} {T : u_T} {N ci index : Nat} {Ts : List Cond} (hts : ∀ w ∈ Ts, w.before args s = true) (hin : ∀ w ∈ u_ws C T N, w ∈ Ts) (ty0 : Nat → FieldType) (hty : ∀ k, k < N → parseFieldDescriptor (T k).2.2.1 = some (ty0 k)) (hnm : ∀ a, a < N → ∀ b, b < N → a ≠ b → (T a).2.1 ≠ (T b).2.1) (hown : s.vm.findClass own = some m.cls) (hK : Kn_ w s) (hI : In_ w) (hW : Hd_ w a H) (hS : Fr_ w H0 H locs)
    (hi : i < cn_ k) {fs : List Value} (he : en_ w a k i = .inr (ci, fs)) (hc : cl_[ci]? = some (C, T, N)) (f : Nat) (hf : f < N) (hlink : (Cond.fieldLink own index (T f).1 (T f).2.1 (T f).2.2.1).before args s = true) (hfin : (T f).2.2.2 = false) {ty : FieldType} {v : Value} (hd : parseFieldDescriptor (T f).2.2.1 = some ty) (hn : narrow ty v = v) (hfit : fits ty v = true) (hl : f < fs.length)
    (he' : en_ w a' k i = .inr (ci, fs.set f v)) (hu : ∀ k' i', ¬ (k' = k ∧ i' = i) → en_ w a' k' i' = en_ w a k' i') (hdg : decode cc pc = .ok (.putfield index, 3))
    (kk : ∀ (H1 : Heap) (locs1 : List Loc), Hd_ w a' H1 → Fr_ w H0 H1 locs1 → W p l e R s m args below meth c H1 locs1 cells slots Q (F0 m (pc + 3) ls rest)) : W p l e R s m args below meth c H locs cells slots Q (F0 m pc ls (v :: .ref (ad_ w k i) :: rest)) := by
  have hap := va_apart (own := own) hts hin ty0 hty hnm hK hc
  obtain ⟨r, h1, cell, q1, q2, q3, q4⟩ := rg_one hW hi he 0 _ rfl
  have hr : r = (C, T, N) := Option.some.inj (h1.symm.trans hc)
  subst hr
  obtain ⟨hSl, hfc, kC, hkC, hkind⟩ := hK.1 ci _ hc
  obtain ⟨cf, kf, fi, fd, hi2, hsl⟩ := hSl f hf
  have hlay := hts _ (hin _ (u_in_lay hf))
  unfold u_lay at hlay
  rw [if_neg (by rw [hfin]; decide)] at hlay
  have hst := (u_facts hfc hkC (u_lays hts hin hf) hi2).1
  have h6 := u_store hfc hkC hkind hlay hi2 hd hn hfit
  refine W.putK hx hb (f := fd) ⟨hown, hlink, ⟨_, _, _, hi2⟩, hst⟩ (by rw [q2]; exact h6) q1 q3 (by rw [hsl]; exact k2_hasslot (q4 f hf)) rfl rfl hdg fun H' e1 e2 e3 => ?_
  rw [hsl] at e1 ⊢
  refine kk H' _ (Hd_set hI hW hi ?_ e3 hu) (va_S.put hS e2 e3 (hI.2 k i hi))
  rw [he']
  exact ⟨_, hc, t_OB.to (V := updV (vp_V fs) f v) ⟨_, e1, q2, q3, t_set q4 hap hf v⟩ (fun j _ => vp_updV_set hl v j)⟩
theorem rg_iald (hx : p.tables.exec = Jvm.exec) (hb : c.code = cc) (hK : Kn_ w s) (hW : Hd_ w a H) (hi : i < cn_ k) {n : Nat} {f : Nat → Int32} (he : en_ w a k i = .inl (ca_ w 0, n, .inl f)) {x : Int32} {j : Nat} (hxj : x = nI j) (hj : j < n) (hn : n < 2 ^ 31) {v : Int32} (hv : f j = v) (hd : decode cc pc = .ok (.iaload, 1))
    (kk : W p l e R s m args below meth c H locs cells slots Q (F0 m (pc + 1) ls (.int v :: rest))) : W p l e R s m args below meth c H locs cells slots Q (F0 m pc ls (.int x :: .ref (ad_ w k i) :: rest)) := by
  subst hxj
  subst hv
  have h := va_iald (i := nI j) (rest := rest) (ls := ls) (pc := pc) (locs := locs) (cells := cells) (slots := slots) (Q := Q) (R := R) (e := e) (l := l) (args := args) (below := below) (meth := meth) (m := m) hx hb hK (rg_one hW hi he) 0 0 rfl rfl (vp_in_nI hj hn) hd
  rw [nI_clamp (by omega)] at h
  exact h kk
theorem rg_lald (hx : p.tables.exec = Jvm.exec) (hb : c.code = cc) (hK : Kn_ w s) (hW : Hd_ w a H) (hi : i < cn_ k) {n : Nat} {f : Nat → Int64} (he : en_ w a k i = .inl (ca_ w 1, n, .inr (.inl f))) {x : Int32} {j : Nat} (hxj : x = nI j) (hj : j < n) (hn : n < 2 ^ 31) {v : Int64} (hv : f j = v) (hd : decode cc pc = .ok (.laload, 1))
    (kk : W p l e R s m args below meth c H locs cells slots Q (F0 m (pc + 1) ls (.long v :: rest))) : W p l e R s m args below meth c H locs cells slots Q (F0 m pc ls (.int x :: .ref (ad_ w k i) :: rest)) := by
  subst hxj
  subst hv
  have h := va_lald (i := nI j) (rest := rest) (ls := ls) (pc := pc) (locs := locs) (cells := cells) (slots := slots) (Q := Q) (R := R) (e := e) (l := l) (args := args) (below := below) (meth := meth) (m := m) hx hb hK (rg_one hW hi he) 0 1 rfl rfl (vp_in_nI hj hn) hd
  rw [nI_clamp (by omega)] at h
  exact h kk
theorem rg_aald (hx : p.tables.exec = Jvm.exec) (hb : c.code = cc) (hK : Kn_ w s) (hW : Hd_ w a H) (hi : i < cn_ k) {n t0 : Nat} {cA : ClassId} {ty : FieldType} {f : Nat → Option Nat} (he : en_ w a k i = .inl (cA, n, .inr (.inr (.inr (.inr f))))) (ht : (ty_ w)[t0]? = some (cA, ty)) (hty : ty.isReference = true) {x : Int32} {j : Nat} (hxj : x = nI j) (hj : j < n) (hn : n < 2 ^ 31) {b : Nat} (hv : f j = some b) (hd : decode cc pc = .ok (.aaload, 1))
    (kk : W p l e R s m args below meth c H locs cells slots Q (F0 m (pc + 1) ls (.ref b :: rest))) : W p l e R s m args below meth c H locs cells slots Q (F0 m pc ls (.int x :: .ref (ad_ w k i) :: rest)) := by
  subst hxj
  have hP := rg_one hW hi he 0 _ rfl
  have hcl : (nI j).toNatClampNeg = j := nI_clamp (by omega)
  refine W.aald (v := .ref b) (ty := ty) hx hb hP ((hK.2 t0 _ ht).1 n (fun j => va_rf (f j))) hty (fun q => by cases q) (by show ¬ (_ ∨ (arrV _ _ _).slots.size ≤ _); rw [arrV_size]; exact vp_in_nI hj hn) ?_ rfl rfl hd kk
  show (arrV _ _ _).slots[_]? = _
  rw [hcl, arrV_read _ _ hj, hv]
  rfl
theorem rg_iast (hx : p.tables.exec = Jvm.exec) (hb : c.code = cc) (hK : Kn_ w s) (hI : In_ w) (hW : Hd_ w a H) (hS : Fr_ w H0 H locs) (hi : i < cn_ k) {n : Nat} {f : Nat → Int32} (he : en_ w a k i = .inl (ca_ w 0, n, .inl f)) {x y : Int32} {j : Nat} (hxj : x = nI j) (hj : j < n) (hn : n < 2 ^ 31)
    (he' : en_ w a' k i = .inl (ca_ w 0, n, .inl (upd f j y))) (hu : ∀ k' i', ¬ (k' = k ∧ i' = i) → en_ w a' k' i' = en_ w a k' i') (hd : decode cc pc = .ok (.iastore, 1))
    (kk : ∀ (H1 : Heap) (locs1 : List Loc), Hd_ w a' H1 → Fr_ w H0 H1 locs1 → W p l e R s m args below meth c H1 locs1 cells slots Q (F0 m (pc + 1) ls rest)) : W p l e R s m args below meth c H locs cells slots Q (F0 m pc ls (.int y :: .int x :: .ref (ad_ w k i) :: rest)) := by
  subst hxj
  have hP := rg_one hW hi he 0 _ rfl
  have hcl : (nI j).toNatClampNeg = j := nI_clamp (by omega)
  refine W.iast hx hb hP ((hK.2 0 _ rfl).1 n (fun j => .int (f j))) (fun q => by cases q) (by show ¬ (_ ∨ (arrV _ _ _).slots.size ≤ _); rw [arrV_size]; exact vp_in_nI hj hn) rfl rfl hd fun H1 e z oq => ?_
  refine kk H1 _ (Hd_set hI hW hi ?_ oq hu) (va_S.put hS z oq (hI.2 k i hi))
  rw [he']
  show H1[_]? = some (vp_cell _ _)
  rw [e, hcl, vp_cell_i, vp_cell_i, arrV_store]
  congr 2
  funext q
  by_cases hq : q = j
  · subst hq
    simp [updV, upd]
  · simp [updV, upd, hq]
theorem rg_last (hx : p.tables.exec = Jvm.exec) (hb : c.code = cc) (hK : Kn_ w s) (hI : In_ w) (hW : Hd_ w a H) (hS : Fr_ w H0 H locs) (hi : i < cn_ k) {n : Nat} {f : Nat → Int64} (he : en_ w a k i = .inl (ca_ w 1, n, .inr (.inl f))) {x : Int32} {y : Int64} {j : Nat} (hxj : x = nI j) (hj : j < n) (hn : n < 2 ^ 31)
    (he' : en_ w a' k i = .inl (ca_ w 1, n, .inr (.inl (vp_updL f j y)))) (hu : ∀ k' i', ¬ (k' = k ∧ i' = i) → en_ w a' k' i' = en_ w a k' i') (hd : decode cc pc = .ok (.lastore, 1))
    (kk : ∀ (H1 : Heap) (locs1 : List Loc), Hd_ w a' H1 → Fr_ w H0 H1 locs1 → W p l e R s m args below meth c H1 locs1 cells slots Q (F0 m (pc + 1) ls rest)) : W p l e R s m args below meth c H locs cells slots Q (F0 m pc ls (.long y :: .int x :: .ref (ad_ w k i) :: rest)) := by
  subst hxj
  have hP := rg_one hW hi he 0 _ rfl
  have hcl : (nI j).toNatClampNeg = j := nI_clamp (by omega)
  refine W.last hx hb hP ((hK.2 1 _ rfl).1 n (fun j => .long (f j))) (fun q => by cases q) (by show ¬ (_ ∨ (arrV _ _ _).slots.size ≤ _); rw [arrV_size]; exact vp_in_nI hj hn) rfl rfl hd fun H1 e z oq => ?_
  refine kk H1 _ (Hd_set hI hW hi ?_ oq hu) (va_S.put hS z oq (hI.2 k i hi))
  rw [he']
  show H1[_]? = some (vp_cell _ _)
  rw [e, hcl, vp_cell_l, vp_cell_l, arrV_store]
  congr 2
  funext q
  by_cases hq : q = j
  · subst hq
    simp [updV, vp_updL]
  · simp [updV, vp_updL, hq]
end RG
end
section
/-! CONTRACTS over the world: a method called in the state a, with arguments av, answers (or throws) 'out' and leaves the state a'. -/
abbrev IA_ : String := "java/lang/IllegalArgumentException"
abbrev IS_ : String := "java/lang/IllegalStateException"
def xb_ : List Cond := [.castable IA_ IA_, .castable IS_ IS_, .declares ⟨"java/lang/RuntimeException", "<init>", "()V"⟩, .declares ⟨"java/lang/Exception", "<init>", "()V"⟩, .declares ⟨"java/lang/Throwable", "<init>", "()V"⟩]
theorem xb_all {P : Cond → Prop} (h0 : P (.castable IA_ IA_)) (h1 : P (.castable IS_ IS_)) (h2 : P (.declares ⟨"java/lang/RuntimeException", "<init>", "()V"⟩)) (h3 : P (.declares ⟨"java/lang/Exception", "<init>", "()V"⟩)) (h4 : P (.declares ⟨"java/lang/Throwable", "<init>", "()V"⟩)) : ∀ x ∈ xb_, P x := by
  intro x hx
  simp only [xb_, List.mem_cons, List.not_mem_nil, or_false] at hx
  rcases hx with rfl | rfl | rfl | rfl | rfl
  · exact h0
  · exact h1
  · exact h2
  · exact h3
  · exact h4
theorem xb_tab : ∀ x ∈ xb_, x.onTables = true := xb_all rfl rfl rfl rfl rfl
def Xw_ (w : Gh_) (U : State) : Prop := (∀ x ∈ xb_, va_Nw x U) ∧ va_Nc IS_ IA_ U ∧ vx_Zq Bundle.tN "UNASSIGNED_STACK" Bundle.steD (fun q => lo_ w ≤ q) U U.heap ∧ vx_Zq Bundle.tN "SUPPRESSED_SENTINEL" Bundle.listD (fun q => lo_ w ≤ q) U U.heap
def Pc_ (w : Gh_) (a : St_) (av : List Value) : Array Value → State → Prop := va_Pc av (fun U => Hd_ w a U.heap ∧ Kn_ w U ∧ lo_ w ≤ U.heap.size ∧ Xw_ w U)
def Qc_ (w : Gh_) (out : Option Value ⊕ String) (a' : St_) : Array Value → State → Outcome → State → Prop := fun _ st o t => (∃ v, out = .inl v ∧ o = .returned v ∧ Hd_ w a' t.heap) ∧ va_F (fun q => lo_ w ≤ q) st t
def XC_ (w : Gh_) (out : Option Value ⊕ String) (a' : St_) : String → State → State → Prop := fun E st t => out = .inr E ∧ Hd_ w a' t.heap ∧ va_F (fun q => lo_ w ≤ q) st t
def Fn_ (l : Launch) (w : Gh_) (y : MethodName) (hd : Cond) (rm : Room) (mc ms : Nat) (av : List Value) (a : St_) (out : Option Value ⊕ String) (a' : St_) : Prop :=
  vx_Met l y (hd :: nd_) rm (Pc_ w a av) (Qc_ w out a') (XC_ w out a') mc ms (fun q => lo_ w ≤ q)
/-- what a walk stands on -/
def Cx_ (p : Program) (s : State) (m : MethodId) (c : Code) (args : Array Value) (cc : ByteArray) (nL : Nat) (own : String) (w : Gh_) : Prop :=
  p.tables.exec = Jvm.exec ∧ c.code = cc ∧ c.maxLocals = nL ∧ s.vm.findClass own = some m.cls ∧ (∀ x ∈ nd_, x.before args s = true) ∧ Kn_ w s ∧ In_ w ∧ Xw_ w s ∧ lo_ w ≤ s.heap.size
theorem xb_moved {s U : State} (h : ∀ x ∈ xb_, va_Nw x s) (hW : s.WarmedH U.vm) : ∀ x ∈ xb_, va_Nw x U :=
  xb_all (va_Nw.warmC hW (h _ (by simp [xb_]))) (va_Nw.warmC hW (h _ (by simp [xb_]))) (va_Nw.warmD hW (h _ (by simp [xb_]))) (va_Nw.warmD hW (h _ (by simp [xb_]))) (va_Nw.warmD hW (h _ (by simp [xb_])))
theorem Xw_moved {w : Gh_} {s U : State} {H : Heap} {locs : List Loc} (h : Xw_ w s) (hS : Fr_ w s.heap H locs) (hU : U.heap = H) (hW : s.WarmedH U.vm) : Xw_ w U := by
  obtain ⟨h1, h3, h4, h5⟩ := h
  refine ⟨xb_moved h1 hW, va_Nc.moved hW.alike h3, ?_, ?_⟩
  · rw [hU]
    exact (vx_Zq.moved hW.alike h4).kept hS.2.1
  · rw [hU]
    exact (vx_Zq.moved hW.alike h5).kept hS.2.1
theorem Pc_blind (w : Gh_) (a : St_) (av : List Value) : FrameBlind (Pc_ w a av) := by
  intro x U g mk h
  obtain ⟨h0, h1, h2, h3, h4, h6, h7, h8⟩ := h
  exact ⟨h0, h1, va_K.moved (u := U) (U := U.calling g mk x) (Vm.Alike.refl U.vm) h2, h3, fun x hx => va_Nw.same (xb_tab x hx) (u := U) rfl (h4 x hx), va_Nc.moved (u := U) (U := U.calling g mk x) (Vm.Alike.refl U.vm) h6, vx_Zq.moved (u := U) (U := U.calling g mk x) (Vm.Alike.refl U.vm) h7, vx_Zq.moved (u := U) (U := U.calling g mk x) (Vm.Alike.refl U.vm) h8⟩
theorem Fn_of {l : Launch} {w : Gh_} {y : MethodName} {cc : ByteArray} {maxL : Nat} {ret : Option FieldType} {rm : Room} {mc ms : Nat} {av : List Value} {a a' : St_} {out : Option Value ⊕ String} (hI : In_ w) (hy : plainName y.cls = true) (hlen : (lg_sl av).length ≤ maxL)
    (body : ∀ (p : Program) (e : Env) (s : State) (m : MethodId) (below : List Frame) (meth : Method) (c : Code) (ls : Array Slot), Cx_ p s m c av.toArray cc maxL y.cls w → meth.sig.returnType = ret → meth.locks = false → (∀ x ∈ c.exceptionTable.toList, False) → Hd_ w a s.heap → Fr_ w s.heap s.heap [] → lv_has ls maxL (lv_args 0 av) →
      W p l e rm s m av.toArray below meth c s.heap [] 0 0 (vx_MQ below (Qc_ w out a') (XC_ w out a') av.toArray s mc ms (fun q => lo_ w ≤ q)) (F0 m 0 ls [])) : Fn_ l w y (.code y cc maxL ret) rm mc ms av a out a' := by
  refine vx_ofW (cc := cc) (maxL := maxL) (ret := ret) hy rfl ?_
  intro p e s m args below meth c s₁ B hml hno hv
  obtain ⟨rfl, hW, hK, hlo, hX⟩ := hv
  have hts := atoms_spec (ws := Cond.code y cc maxL ret :: nd_) B.pre
  have hl := lv_entry av (n := maxL) hlen
  rw [lg_entry_eq]
  exact body p e s m below meth c _ ⟨B.exec, B.bytes, hml, findClass_of_methodNamed B.named, fun x hx => hts x (List.mem_cons_of_mem _ hx), hK, hI, hX, hlo⟩ B.returns B.notSynchronized hno hW va_S.rf hl
theorem Fn_ofH {l : Launch} {w : Gh_} {y : MethodName} {cc : ByteArray} {maxL : Nat} {ret : Option FieldType} {hh : List (Nat × Nat × Nat × Nat)} {rm : Room} {mc ms : Nat} {av : List Value} {a a' : St_} {out : Option Value ⊕ String} (hI : In_ w) (hy : plainName y.cls = true) (hlen : (lg_sl av).length ≤ maxL)
    (body : ∀ (p : Program) (e : Env) (s : State) (m : MethodId) (below : List Frame) (meth : Method) (c : Code) (ls : Array Slot), Cx_ p s m c av.toArray cc maxL y.cls w → meth.sig.returnType = ret → meth.locks = false → c.exceptionTable.toList = tableOf hh → Hd_ w a s.heap → Fr_ w s.heap s.heap [] → lv_has ls maxL (lv_args 0 av) →
      W p l e rm s m av.toArray below meth c s.heap [] 0 0 (vx_MQ below (Qc_ w out a') (XC_ w out a') av.toArray s mc ms (fun q => lo_ w ≤ q)) (F0 m 0 ls [])) : Fn_ l w y (.codeWith y cc maxL ret hh) rm mc ms av a out a' := by
  refine vx_ofWH (cc := cc) (maxL := maxL) (ret := ret) (hh := hh) hy rfl ?_
  intro p e s m args below meth c s₁ B hml hv
  obtain ⟨rfl, hW, hK, hlo, hX⟩ := hv
  have hts := atoms_spec (ws := Cond.codeWith y cc maxL ret hh :: nd_) B.pre
  have hl := lv_entry av (n := maxL) hlen
  rw [lg_entry_eq]
  exact body p e s m below meth c _ ⟨B.exec, B.bytes, hml, findClass_of_methodNamed B.named, fun x hx => hts x (List.mem_cons_of_mem _ hx), hK, hI, hX, hlo⟩ B.returns B.notSynchronized (vx_table (x := y) B (hts _ List.mem_cons_self)) hW va_S.rf hl
/-- what a call needs of its callee's words -/
def Cw_ (y : MethodName) (hd : Cond) (n : Nat) : Prop := hd ∈ nd_ ∧ Cond.initialized y.cls ∈ nd_ ∧ y.cls ≠ "java/lang/invoke/MethodHandle" ∧ y.cls ≠ "java/lang/invoke/VarHandle" ∧ (parseMethodDescriptor y.desc).map (fun d => d.parameters.length) = some n
section CR
variable {p : Program} {l : Launch} {e : Env} {R : Room} {s : State} {m : MethodId} {args : Array Value} {below : List Frame} {meth : Method} {c : Code} {H : Heap} {locs : List Loc} {cells slots : Nat} {Q : State → Prop}
variable {cc : ByteArray} {pc nL : Nat} {own : String} {ls : Array Slot} {rest st0 : List Value} {w : Gh_} {a a' a1 : St_} {out : Option Value ⊕ String} {mc ms : Nat}
theorem cr_i {v : Int32} (cx : Cx_ p s m c args cc nL own w) (hr : meth.sig.returnType = some .int) (hlk : meth.locks = false) (hW : Hd_ w a1 H) (hS : Fr_ w s.heap H locs) (hc : cells ≤ mc) (hs : slots ≤ ms) (hd : decode cc pc = .ok (.ireturn, 1)) (ho : out = .inl (some (.int v))) (ha : a' = a1) :
    W p l e R s m args below meth c H locs cells slots (vx_MQ below (Qc_ w out a') (XC_ w out a') args s mc ms (fun q => lo_ w ≤ q)) (F0 m pc ls [.int v]) := by
  subst ha
  exact vx_ret (W.widen hc hs (W.iret cx.1 cx.2.1 hr (fun t ht _ => ⟨⟨_, ho, rfl, by rw [ht]; exact hW⟩, va_S.F hS ht⟩) hS.2.2 hd hlk))
theorem cr_z {v : Int32} (cx : Cx_ p s m c args cc nL own w) (hr : meth.sig.returnType = some .boolean) (hlk : meth.locks = false) (hv : v = 0 ∨ v = 1) (hW : Hd_ w a1 H) (hS : Fr_ w s.heap H locs) (hc : cells ≤ mc) (hs : slots ≤ ms) (hd : decode cc pc = .ok (.ireturn, 1)) (ho : out = .inl (some (.int v))) (ha : a' = a1) :
    W p l e R s m args below meth c H locs cells slots (vx_MQ below (Qc_ w out a') (XC_ w out a') args s mc ms (fun q => lo_ w ≤ q)) (F0 m pc ls [.int v]) := by
  subst ha
  exact vx_ret (W.widen hc hs (W.zret cx.1 cx.2.1 hr (by rcases hv with rfl | rfl <;> rfl) (fun t ht _ => ⟨⟨_, ho, rfl, by rw [ht]; exact hW⟩, va_S.F hS ht⟩) hS.2.2 hd hlk))
theorem cr_l {v : Int64} (cx : Cx_ p s m c args cc nL own w) (hr : meth.sig.returnType = some .long) (hlk : meth.locks = false) (hW : Hd_ w a1 H) (hS : Fr_ w s.heap H locs) (hc : cells ≤ mc) (hs : slots ≤ ms) (hd : decode cc pc = .ok (.lreturn, 1)) (ho : out = .inl (some (.long v))) (ha : a' = a1) :
    W p l e R s m args below meth c H locs cells slots (vx_MQ below (Qc_ w out a') (XC_ w out a') args s mc ms (fun q => lo_ w ≤ q)) (F0 m pc ls [.long v]) := by
  subst ha
  exact vx_ret (W.widen hc hs (W.lret cx.1 cx.2.1 hr (fun t ht _ => ⟨⟨_, ho, rfl, by rw [ht]; exact hW⟩, va_S.F hS ht⟩) hS.2.2 hd hlk))
theorem cr_v (cx : Cx_ p s m c args cc nL own w) (hr : meth.sig.returnType = none) (hlk : meth.locks = false) (hW : Hd_ w a1 H) (hS : Fr_ w s.heap H locs) (hc : cells ≤ mc) (hs : slots ≤ ms) (hd : decode cc pc = .ok (.return_, 1)) (ho : out = .inl none) (ha : a' = a1) :
    W p l e R s m args below meth c H locs cells slots (vx_MQ below (Qc_ w out a') (XC_ w out a') args s mc ms (fun q => lo_ w ≤ q)) (F0 m pc ls []) := by
  subst ha
  exact vx_ret (W.widen hc hs (W.vret cx.1 cx.2.1 hr (fun t ht _ => ⟨⟨_, ho, rfl, by rw [ht]; exact hW⟩, va_S.F hS ht⟩) hS.2.2 hd hlk))
variable {y : MethodName} {cY : ByteArray} {maxL n index : Nat} {ret : Option FieldType} {rm : Room} {mc' ms' : Nat} {As : List Value} {v : Option Value} {E : String}
theorem ck_pre (cx : Cx_ p s m c args cc nL own w) (hW : Hd_ w a H) (hS : Fr_ w s.heap H locs) (As : List Value) : PreS s H (Pc_ w a As) As :=
  ⟨Pc_blind w a As, fun U hU hWm => ⟨rfl, by rw [hU]; exact hW, va_K.moved hWm.alike cx.2.2.2.2.2.1, by rw [hU]; exact Nat.le_trans cx.2.2.2.2.2.2.2.2 hS.1, Xw_moved cx.2.2.2.2.2.2.2.1 hS hU hWm⟩⟩
/-- how a call goes on -/
theorem ck_go {g : JFrame} (hr : vx_Run p l e R s m args below meth c H locs cells slots mc' ms' g rest (Qc_ w (.inl v) a' As.toArray) (XC_ w (.inl v) a') (fun q => lo_ w ≤ q)) (hS : Fr_ w s.heap H locs)
    (kk : ∀ (H1 : Heap) (locs1 : List Loc), Hd_ w a' H1 → Fr_ w s.heap H1 locs1 → W p l e R s m args below meth c H1 locs1 (cells + mc') (slots + ms') Q { g with pc := g.pc + 3, stack := v.toList ++ rest }) : W p l e R s m args below meth c H locs cells slots Q g := by
  intro T hT X
  rcases hr T hT X with ⟨v', st₀, t, T', L, h0, X', hL, e1, e2, ⟨⟨v2, ho, hv, hHd⟩, hF⟩, st⟩ | ⟨q, st₀, t, T', L, E, ce, h0, X', hL, e1, e2, ⟨ho, -⟩, -⟩
  · cases ho
    cases hv
    obtain ⟨k1, k2, k3⟩ := vx_keep h0 e1 hS (fun q _ h => h) (fun q h => h) hL hF
    obtain ⟨t2, a1, b1⟩ := kk T'.heap (locs ++ L) (by rw [e1]; exact hHd) k3 T' rfl X'
    exact ⟨t2, st t2 a1, b1⟩
  · cases ho
theorem ct_go {ls : Array Slot} {pc mcT msT : Nat} {aT : St_} {outT : Option Value ⊕ String} (hr : vx_Run p l e R s m args below meth c H locs cells slots mc' ms' (F0 m pc ls st0) rest (Qc_ w (.inr E) a' As.toArray) (XC_ w (.inr E) a') (fun q => lo_ w ≤ q)) (hS : Fr_ w s.heap H locs) (hno : ∀ x ∈ c.exceptionTable.toList, False) (hlk : meth.locks = false)
    (hc : cells + mc' ≤ mcT) (hs : slots + ms' ≤ msT) (ho : outT = .inr E) (ha : aT = a') : W p l e R s m args below meth c H locs cells slots (vx_MQ below (Qc_ w outT aT) (XC_ w outT aT) args s mcT msT (fun q => lo_ w ≤ q)) (F0 m pc ls st0) := by
  subst ha
  intro T hT X
  rcases hr T hT X with ⟨v', st₀, t, T', L, h0, X', hL, e1, e2, ⟨⟨v2, ho, hv, hHd⟩, hF⟩, st⟩ | ⟨q, st₀, t, T', L, E', ce, h0, X', hL, e1, e2, ⟨ho', hHd, hF⟩, hce, hcv, hcl, st⟩
  · cases ho
  · cases ho'
    obtain ⟨k1, k2, k3⟩ := vx_keep h0 e1 hS (fun q _ h => h) (fun q h => h) hL hF
    obtain ⟨t2, a1, b1⟩ := vx_out (E := E) (mc := mcT) (ms := msT) (Qc := Qc_ w outT aT) (XC := XC_ w outT aT) (free := fun q => lo_ w ≤ q) (ls := ls) (rest := rest) (pc := pc) (H := T'.heap) (fun x hx => (hno x hx).elim) hlk (by rw [e1]; exact hce) hcv hcl
      (fun t ht _ => ⟨ho, by rw [ht, e1]; exact hHd, va_S.F k3 ht⟩) k3.2.2 hc hs T' rfl X'
    exact ⟨t2, st.trans a1, b1⟩
theorem ck_wS (cx : Cx_ p s m c args cc nL own w) (cw : Cw_ y (.code y cY maxL ret) n) (hst : Cond.static y ∈ nd_) (hl : Cond.methodLink own index y ∈ nd_) (hrc : rm.cells = mc') (hrs : rm.slots = ms') (hR : rm.frames + 1 ≤ R.frames ∧ 8 + (maxL + 11) + rm.locals ≤ R.locals) :
    CallB R s args own index y cY maxL ret (Cond.code y cY maxL ret :: nd_) rm mc' ms' n ∧ (Cond.static y).before args s = true :=
  ⟨callB_of n cx.2.2.2.2.1 (nd_self cw.1) rfl hrc hrs (cx.2.2.2.2.1 _ cw.2.1) (cx.2.2.2.2.1 _ hl) cw.2.2 hR, cx.2.2.2.2.1 _ hst⟩
theorem ck_wV (cx : Cx_ p s m c args cc nL own w) {C : String} (cw : Cw_ y (.code y cY maxL ret) n) (hi : Cond.instanceMethod y ∈ nd_) (hse : Cond.selects C y y ∈ nd_) (hl : Cond.methodLink own index y ∈ nd_) (hrc : rm.cells = mc') (hrs : rm.slots = ms') (hR : rm.frames + 1 ≤ R.frames ∧ 8 + (maxL + 11) + rm.locals ≤ R.locals) :
    CallW R s args own C index y cY maxL ret (Cond.code y cY maxL ret :: nd_) rm mc' ms' n :=
  ⟨callB_of n cx.2.2.2.2.1 (nd_self cw.1) rfl hrc hrs (cx.2.2.2.2.1 _ cw.2.1) (cx.2.2.2.2.1 _ hl) cw.2.2 hR, cx.2.2.2.2.1 _ hi, cx.2.2.2.2.1 _ hse⟩
/-- a static call that returns -/
theorem ck_S (cx : Cx_ p s m c args cc nL own w) (hW : Hd_ w a H) (hS : Fr_ w s.heap H locs) {lv : List (Nat × Value)} (hl : lv_has ls nL lv) (hM : Fn_ l w y (.code y cY maxL ret) rm mc' ms' As a (.inl v) a') (cw : Cw_ y (.code y cY maxL ret) n) (hst : Cond.static y ∈ nd_) (hlk : Cond.methodLink own index y ∈ nd_)
    (hn : As.length = n) (hstk : st0 = As.reverse ++ rest) (hq : (rest.map fun v => v.category).sum ≤ 8) (hrc : rm.cells = mc') (hrs : rm.slots = ms') (hR : rm.frames + 1 ≤ R.frames ∧ 8 + (maxL + 11) + rm.locals ≤ R.locals) (hf : cells + mc' ≤ R.cells ∧ slots + ms' ≤ R.slots) (hd : decode cc pc = .ok (.invokestatic index, 3))
    (kk : ∀ (H1 : Heap) (locs1 : List Loc), Hd_ w a' H1 → Fr_ w s.heap H1 locs1 → W p l e R s m args below meth c H1 locs1 (cells + mc') (slots + ms') Q (F0 m (pc + 3) ls (v.toList ++ rest))) : W p l e R s m args below meth c H locs cells slots Q (F0 m pc ls st0) :=
  ck_go (vx_runS (Ts := nd_) ⟨cx.1, cx.2.1, cx.2.2.1, cx.2.2.2.1, cx.2.2.2.2.1⟩ hM (ck_wS cx cw hst hlk hrc hrs hR) (ck_pre cx hW hS As) rfl hn hl.1 hstk (lv_room hq) hd hf) hS kk
/-- a call of an object's method that returns -/
theorem ck_V (cx : Cx_ p s m c args cc nL own w) (hW : Hd_ w a H) (hS : Fr_ w s.heap H locs) {lv : List (Nat × Value)} (hl : lv_has ls nL lv) {k i ci : Nat} {C : String} {T : u_T} {N : Nat} {fs : List Value} (hi : i < cn_ k) (he : en_ w a k i = .inr (ci, fs)) (hc : cl_[ci]? = some (C, T, N)) (hM : Fn_ l w y (.code y cY maxL ret) rm mc' ms' (.ref (ad_ w k i) :: As) a (.inl v) a') (cw : Cw_ y (.code y cY maxL ret) n) (him : Cond.instanceMethod y ∈ nd_) (hse : Cond.selects C y y ∈ nd_) (hlk : Cond.methodLink own index y ∈ nd_)
    (hn : As.length = n) (hstk : st0 = As.reverse ++ .ref (ad_ w k i) :: rest) (hq : (rest.map fun v => v.category).sum ≤ 8) (hrc : rm.cells = mc') (hrs : rm.slots = ms') (hR : rm.frames + 1 ≤ R.frames ∧ 8 + (maxL + 11) + rm.locals ≤ R.locals) (hf : cells + mc' ≤ R.cells ∧ slots + ms' ≤ R.slots) (hd : decode cc pc = .ok (.invokevirtual index, 3))
    (kk : ∀ (H1 : Heap) (locs1 : List Loc), Hd_ w a' H1 → Fr_ w s.heap H1 locs1 → W p l e R s m args below meth c H1 locs1 (cells + mc') (slots + ms') Q (F0 m (pc + 3) ls (v.toList ++ rest))) : W p l e R s m args below meth c H locs cells slots Q (F0 m pc ls st0) :=
  ck_go (As := .ref (ad_ w k i) :: As) (vx_runV (Ts := nd_) ⟨cx.1, cx.2.1, cx.2.2.1, cx.2.2.2.1, cx.2.2.2.2.1⟩ hM (ck_wV cx cw him hse hlk hrc hrs hR) ⟨(ck_pre cx hW hS _).1, va_recv cx.2.2.2.2.2.1 (rg_one hW hi he) (q0 := 0) hc rfl, (ck_pre cx hW hS _).2⟩ rfl hn hl.1 hstk (lv_room hq) hd hf) hS kk
/-- a static call that throws, and nothing here catches it -/
theorem ct_S (cx : Cx_ p s m c args cc nL own w) (hlk : meth.locks = false) (hno : ∀ x ∈ c.exceptionTable.toList, False) (hW : Hd_ w a H) (hS : Fr_ w s.heap H locs) {lv : List (Nat × Value)} (hl : lv_has ls nL lv) (hM : Fn_ l w y (.code y cY maxL ret) rm mc' ms' As a (.inr E) a1) (cw : Cw_ y (.code y cY maxL ret) n) (hst : Cond.static y ∈ nd_) (hlk2 : Cond.methodLink own index y ∈ nd_)
    (hn : As.length = n) (hstk : st0 = As.reverse ++ rest) (hq : (rest.map fun v => v.category).sum ≤ 8) (hrc : rm.cells = mc') (hrs : rm.slots = ms') (hR : rm.frames + 1 ≤ R.frames ∧ 8 + (maxL + 11) + rm.locals ≤ R.locals) (hf : cells + mc' ≤ R.cells ∧ slots + ms' ≤ R.slots) (hd : decode cc pc = .ok (.invokestatic index, 3))
    (hc : cells + mc' ≤ mc) (hs : slots + ms' ≤ ms) (ho : out = .inr E) (ha : a' = a1) : W p l e R s m args below meth c H locs cells slots (vx_MQ below (Qc_ w out a') (XC_ w out a') args s mc ms (fun q => lo_ w ≤ q)) (F0 m pc ls st0) :=
  ct_go (As := As) (vx_runS (Ts := nd_) ⟨cx.1, cx.2.1, cx.2.2.1, cx.2.2.2.1, cx.2.2.2.2.1⟩ hM (ck_wS cx cw hst hlk2 hrc hrs hR) (ck_pre cx hW hS As) rfl hn hl.1 hstk (lv_room hq) hd hf) hS hno hlk hc hs ho ha
end CR
/-! a comparison of longs and the branch behind it, at once -/
section CL
variable {p : Program} {l : Launch} {e : Env} {R : Room} {s : State} {m : MethodId} {args : Array Value} {below : List Frame} {meth : Method} {c : Code} {H : Heap} {locs : List Loc} {cells slots : Nat} {Q : State → Prop}
variable {cc : ByteArray} {pc tgt : Nat} {ls : Array Slot} {rest : List Value} {x y : Int64} {off : Int}
theorem lc_cmp (x y : Int64) : (lg_cmp x y = 0 ↔ x = y) ∧ (lg_cmp x y < 0 ↔ x < y) ∧ (0 ≤ lg_cmp x y ↔ y ≤ x) ∧ (0 < lg_cmp x y ↔ y < x) ∧ (lg_cmp x y ≤ 0 ↔ x ≤ y) := by
  unfold lg_cmp
  simp only [gt_iff_lt, Int64.lt_iff_toInt_lt, Int64.le_iff_toInt_le, ← Int64.toInt_inj]
  repeat' split
  · refine ⟨?_, ?_, ?_, ?_, ?_⟩ <;> constructor <;> intro h <;> first | omega | (exact absurd h (by decide)) | decide
  · refine ⟨?_, ?_, ?_, ?_, ?_⟩ <;> constructor <;> intro h <;> first | omega | (exact absurd h (by decide)) | decide
  · refine ⟨?_, ?_, ?_, ?_, ?_⟩ <;> constructor <;> intro h <;> first | omega | (exact absurd h (by decide)) | decide
theorem lc_eq (hx : p.tables.exec = Jvm.exec) (hb : c.code = cc) (d0 : decode cc pc = .ok (.lcmp, 1)) (d1 : decode cc (pc + 1) = .ok (.ifCond .eq off, 3)) (ht : ((pc + 1 : Nat) : Int) + off = (tgt : Int))
    (kt : x = y → W p l e R s m args below meth c H locs cells slots Q (F0 m tgt ls rest)) (kf : ¬ x = y → W p l e R s m args below meth c H locs cells slots Q (F0 m (pc + 4) ls rest)) : W p l e R s m args below meth c H locs cells slots Q (F0 m pc ls (.long y :: .long x :: rest)) :=
  W.lcmp hx hb d0 (lv_if_eq hx hb d1 ht (fun h => kt ((lc_cmp x y).1.mp h)) (fun h => kf (fun q => h ((lc_cmp x y).1.mpr q))))
theorem lc_ne (hx : p.tables.exec = Jvm.exec) (hb : c.code = cc) (d0 : decode cc pc = .ok (.lcmp, 1)) (d1 : decode cc (pc + 1) = .ok (.ifCond .ne off, 3)) (ht : ((pc + 1 : Nat) : Int) + off = (tgt : Int))
    (kt : ¬ x = y → W p l e R s m args below meth c H locs cells slots Q (F0 m tgt ls rest)) (kf : x = y → W p l e R s m args below meth c H locs cells slots Q (F0 m (pc + 4) ls rest)) : W p l e R s m args below meth c H locs cells slots Q (F0 m pc ls (.long y :: .long x :: rest)) :=
  W.lcmp hx hb d0 (lv_if_ne hx hb d1 ht (fun h => kt (fun q => h ((lc_cmp x y).1.mpr q))) (fun h => kf ((lc_cmp x y).1.mp h)))
theorem lc_lt (hx : p.tables.exec = Jvm.exec) (hb : c.code = cc) (d0 : decode cc pc = .ok (.lcmp, 1)) (d1 : decode cc (pc + 1) = .ok (.ifCond .lt off, 3)) (ht : ((pc + 1 : Nat) : Int) + off = (tgt : Int))
    (kt : x < y → W p l e R s m args below meth c H locs cells slots Q (F0 m tgt ls rest)) (kf : ¬ x < y → W p l e R s m args below meth c H locs cells slots Q (F0 m (pc + 4) ls rest)) : W p l e R s m args below meth c H locs cells slots Q (F0 m pc ls (.long y :: .long x :: rest)) :=
  W.lcmp hx hb d0 (lv_if_lt hx hb d1 ht (fun h => kt ((lc_cmp x y).2.1.mp h)) (fun h => kf (fun q => h ((lc_cmp x y).2.1.mpr q))))
theorem lc_ge (hx : p.tables.exec = Jvm.exec) (hb : c.code = cc) (d0 : decode cc pc = .ok (.lcmp, 1)) (d1 : decode cc (pc + 1) = .ok (.ifCond .ge off, 3)) (ht : ((pc + 1 : Nat) : Int) + off = (tgt : Int))
    (kt : y ≤ x → W p l e R s m args below meth c H locs cells slots Q (F0 m tgt ls rest)) (kf : ¬ y ≤ x → W p l e R s m args below meth c H locs cells slots Q (F0 m (pc + 4) ls rest)) : W p l e R s m args below meth c H locs cells slots Q (F0 m pc ls (.long y :: .long x :: rest)) :=
  W.lcmp hx hb d0 (lv_if_ge hx hb d1 ht (fun h => kt ((lc_cmp x y).2.2.1.mp h)) (fun h => kf (fun q => h ((lc_cmp x y).2.2.1.mpr q))))
theorem lc_gt (hx : p.tables.exec = Jvm.exec) (hb : c.code = cc) (d0 : decode cc pc = .ok (.lcmp, 1)) (d1 : decode cc (pc + 1) = .ok (.ifCond .gt off, 3)) (ht : ((pc + 1 : Nat) : Int) + off = (tgt : Int))
    (kt : y < x → W p l e R s m args below meth c H locs cells slots Q (F0 m tgt ls rest)) (kf : ¬ y < x → W p l e R s m args below meth c H locs cells slots Q (F0 m (pc + 4) ls rest)) : W p l e R s m args below meth c H locs cells slots Q (F0 m pc ls (.long y :: .long x :: rest)) :=
  W.lcmp hx hb d0 (lv_if_gt hx hb d1 ht (fun h => kt ((lc_cmp x y).2.2.2.1.mp h)) (fun h => kf (fun q => h ((lc_cmp x y).2.2.2.1.mpr q))))
theorem lc_le (hx : p.tables.exec = Jvm.exec) (hb : c.code = cc) (d0 : decode cc pc = .ok (.lcmp, 1)) (d1 : decode cc (pc + 1) = .ok (.ifCond .le off, 3)) (ht : ((pc + 1 : Nat) : Int) + off = (tgt : Int))
    (kt : x ≤ y → W p l e R s m args below meth c H locs cells slots Q (F0 m tgt ls rest)) (kf : ¬ x ≤ y → W p l e R s m args below meth c H locs cells slots Q (F0 m (pc + 4) ls rest)) : W p l e R s m args below meth c H locs cells slots Q (F0 m pc ls (.long y :: .long x :: rest)) :=
  W.lcmp hx hb d0 (lv_if_le hx hb d1 ht (fun h => kt ((lc_cmp x y).2.2.2.2.mp h)) (fun h => kf (fun q => h ((lc_cmp x y).2.2.2.2.mpr q))))
end CL
theorem nI_inc (i : Nat) : nI i + Int32.ofInt 1 = nI (i + 1) := by rw [lit1]; exact nI_1 i
theorem nI_dec (i : Nat) : nI (i + 1) + Int32.ofInt (-1) = nI i := by rw [litm1]; exact pk_m1 i
end
section
/-! THE FIELDS AND THE ARRAYS, a row each. -/
section FR
variable {p : Program} {l : Launch} {e : Env} {R : Room} {s : State} {m : MethodId} {args : Array Value} {below : List Frame} {meth : Method} {c : Code} {H : Heap} {locs : List Loc} {cells slots : Nat} {Q : State → Prop}
variable {cc : ByteArray} {pc nL : Nat} {own : String} {ls : Array Slot} {rest : List Value} {w : Gh_} {a : St_} {i : Nat}
theorem gf_X3_9 (cx : Cx_ p s m c args cc nL "MarginHouse$Shares" w) (hW : Hd_ w a H) (hi : i < 1) (hd : decode cc pc = .ok (.getfield 9, 3)) (kk : W p l e R s m args below meth c H locs cells slots Q (F0 m (pc + 3) ls (.ref (ad_ w 16 i) :: rest))) : W p l e R s m args below meth c H locs cells slots Q (F0 m pc ls (.ref (ad_ w 15 i) :: rest)) :=
  rg_get (k := 15) (T := TX3) (N := 3) cx.1 cx.2.1 cx.2.2.2.2.1 inX3 cx.2.2.2.1 cx.2.2.2.2.2.1 hW hi rfl rfl 0 (by decide) (cx.2.2.2.2.1 _ nw_34) rfl hd kk
theorem gf_X4_235 (cx : Cx_ p s m c args cc nL "MarginHouse" w) (hW : Hd_ w a H) (hi : i < 1) (hd : decode cc pc = .ok (.getfield 235, 3)) (kk : W p l e R s m args below meth c H locs cells slots Q (F0 m (pc + 3) ls (.ref (ad_ w 16 i) :: rest))) : W p l e R s m args below meth c H locs cells slots Q (F0 m pc ls (.ref (ad_ w 15 i) :: rest)) :=
  rg_get (k := 15) (T := TX3) (N := 3) cx.1 cx.2.1 cx.2.2.2.2.1 inX3 cx.2.2.2.1 cx.2.2.2.2.2.1 hW hi rfl rfl 0 (by decide) (cx.2.2.2.2.1 _ nw_35) rfl hd kk
theorem gf_X3_15 (cx : Cx_ p s m c args cc nL "MarginHouse$Shares" w) (hW : Hd_ w a H) (hi : i < 1) (hd : decode cc pc = .ok (.getfield 15, 3)) (kk : W p l e R s m args below meth c H locs cells slots Q (F0 m (pc + 3) ls (.ref (ad_ w 17 i) :: rest))) : W p l e R s m args below meth c H locs cells slots Q (F0 m pc ls (.ref (ad_ w 15 i) :: rest)) :=
  rg_get (k := 15) (T := TX3) (N := 3) cx.1 cx.2.1 cx.2.2.2.2.1 inX3 cx.2.2.2.1 cx.2.2.2.2.2.1 hW hi rfl rfl 1 (by decide) (cx.2.2.2.2.1 _ nw_36) rfl hd kk
theorem gf_X2_56 (cx : Cx_ p s m c args cc nL "MarginHouse$Plan" w) (hW : Hd_ w a H) (hi : i < 1) (hd : decode cc pc = .ok (.getfield 56, 3)) (kk : W p l e R s m args below meth c H locs cells slots Q (F0 m (pc + 3) ls (.ref (ad_ w 17 i) :: rest))) : W p l e R s m args below meth c H locs cells slots Q (F0 m pc ls (.ref (ad_ w 15 i) :: rest)) :=
  rg_get (k := 15) (T := TX3) (N := 3) cx.1 cx.2.1 cx.2.2.2.2.1 inX3 cx.2.2.2.1 cx.2.2.2.2.2.1 hW hi rfl rfl 1 (by decide) (cx.2.2.2.2.1 _ nw_37) rfl hd kk
theorem gf_X3_18 (cx : Cx_ p s m c args cc nL "MarginHouse$Shares" w) (hW : Hd_ w a H) (hi : i < 1) (hd : decode cc pc = .ok (.getfield 18, 3)) (kk : W p l e R s m args below meth c H locs cells slots Q (F0 m (pc + 3) ls (.ref (ad_ w 18 i) :: rest))) : W p l e R s m args below meth c H locs cells slots Q (F0 m pc ls (.ref (ad_ w 15 i) :: rest)) :=
  rg_get (k := 15) (T := TX3) (N := 3) cx.1 cx.2.1 cx.2.2.2.2.1 inX3 cx.2.2.2.1 cx.2.2.2.2.2.1 hW hi rfl rfl 2 (by decide) (cx.2.2.2.2.1 _ nw_38) rfl hd kk
theorem gf_X2_9 (cx : Cx_ p s m c args cc nL "MarginHouse$Plan" w) (hW : Hd_ w a H) (hi : i < 1) (hd : decode cc pc = .ok (.getfield 9, 3)) (kk : W p l e R s m args below meth c H locs cells slots Q (F0 m (pc + 3) ls (.ref (ad_ w 11 i) :: rest))) : W p l e R s m args below meth c H locs cells slots Q (F0 m pc ls (.ref (ad_ w 5 i) :: rest)) :=
  rg_get (k := 5) (T := TX2) (N := 7) cx.1 cx.2.1 cx.2.2.2.2.1 inX2 cx.2.2.2.1 cx.2.2.2.2.2.1 hW hi rfl rfl 0 (by decide) (cx.2.2.2.2.1 _ nw_41) rfl hd kk
theorem gf_X4_197 (cx : Cx_ p s m c args cc nL "MarginHouse" w) (hW : Hd_ w a H) (hi : i < 1) (hd : decode cc pc = .ok (.getfield 197, 3)) (kk : W p l e R s m args below meth c H locs cells slots Q (F0 m (pc + 3) ls (.ref (ad_ w 11 i) :: rest))) : W p l e R s m args below meth c H locs cells slots Q (F0 m pc ls (.ref (ad_ w 5 i) :: rest)) :=
  rg_get (k := 5) (T := TX2) (N := 7) cx.1 cx.2.1 cx.2.2.2.2.1 inX2 cx.2.2.2.1 cx.2.2.2.2.2.1 hW hi rfl rfl 0 (by decide) (cx.2.2.2.2.1 _ nw_42) rfl hd kk
theorem gf_X2_15 (cx : Cx_ p s m c args cc nL "MarginHouse$Plan" w) (hW : Hd_ w a H) (hi : i < 1) (hd : decode cc pc = .ok (.getfield 15, 3)) (kk : W p l e R s m args below meth c H locs cells slots Q (F0 m (pc + 3) ls (.ref (ad_ w 12 i) :: rest))) : W p l e R s m args below meth c H locs cells slots Q (F0 m pc ls (.ref (ad_ w 5 i) :: rest)) :=
  rg_get (k := 5) (T := TX2) (N := 7) cx.1 cx.2.1 cx.2.2.2.2.1 inX2 cx.2.2.2.1 cx.2.2.2.2.2.1 hW hi rfl rfl 1 (by decide) (cx.2.2.2.2.1 _ nw_43) rfl hd kk
theorem gf_X4_190 (cx : Cx_ p s m c args cc nL "MarginHouse" w) (hW : Hd_ w a H) (hi : i < 1) (hd : decode cc pc = .ok (.getfield 190, 3)) (kk : W p l e R s m args below meth c H locs cells slots Q (F0 m (pc + 3) ls (.ref (ad_ w 12 i) :: rest))) : W p l e R s m args below meth c H locs cells slots Q (F0 m pc ls (.ref (ad_ w 5 i) :: rest)) :=
  rg_get (k := 5) (T := TX2) (N := 7) cx.1 cx.2.1 cx.2.2.2.2.1 inX2 cx.2.2.2.1 cx.2.2.2.2.2.1 hW hi rfl rfl 1 (by decide) (cx.2.2.2.2.1 _ nw_44) rfl hd kk
theorem gf_X2_19 (cx : Cx_ p s m c args cc nL "MarginHouse$Plan" w) (hW : Hd_ w a H) (hi : i < 1) (hd : decode cc pc = .ok (.getfield 19, 3)) (kk : W p l e R s m args below meth c H locs cells slots Q (F0 m (pc + 3) ls (.ref (ad_ w 13 i) :: rest))) : W p l e R s m args below meth c H locs cells slots Q (F0 m pc ls (.ref (ad_ w 5 i) :: rest)) :=
  rg_get (k := 5) (T := TX2) (N := 7) cx.1 cx.2.1 cx.2.2.2.2.1 inX2 cx.2.2.2.1 cx.2.2.2.2.2.1 hW hi rfl rfl 2 (by decide) (cx.2.2.2.2.1 _ nw_45) rfl hd kk
theorem gf_X4_192 (cx : Cx_ p s m c args cc nL "MarginHouse" w) (hW : Hd_ w a H) (hi : i < 1) (hd : decode cc pc = .ok (.getfield 192, 3)) (kk : W p l e R s m args below meth c H locs cells slots Q (F0 m (pc + 3) ls (.ref (ad_ w 13 i) :: rest))) : W p l e R s m args below meth c H locs cells slots Q (F0 m pc ls (.ref (ad_ w 5 i) :: rest)) :=
  rg_get (k := 5) (T := TX2) (N := 7) cx.1 cx.2.1 cx.2.2.2.2.1 inX2 cx.2.2.2.1 cx.2.2.2.2.2.1 hW hi rfl rfl 2 (by decide) (cx.2.2.2.2.1 _ nw_46) rfl hd kk
theorem gf_X2_22 (cx : Cx_ p s m c args cc nL "MarginHouse$Plan" w) (hW : Hd_ w a H) (hi : i < 1) (hd : decode cc pc = .ok (.getfield 22, 3)) (kk : W p l e R s m args below meth c H locs cells slots Q (F0 m (pc + 3) ls (.ref (ad_ w 14 i) :: rest))) : W p l e R s m args below meth c H locs cells slots Q (F0 m pc ls (.ref (ad_ w 5 i) :: rest)) :=
  rg_get (k := 5) (T := TX2) (N := 7) cx.1 cx.2.1 cx.2.2.2.2.1 inX2 cx.2.2.2.1 cx.2.2.2.2.2.1 hW hi rfl rfl 3 (by decide) (cx.2.2.2.2.1 _ nw_47) rfl hd kk
theorem gf_X4_140 (cx : Cx_ p s m c args cc nL "MarginHouse" w) (hW : Hd_ w a H) (hi : i < 1) (hd : decode cc pc = .ok (.getfield 140, 3)) (kk : W p l e R s m args below meth c H locs cells slots Q (F0 m (pc + 3) ls (.ref (ad_ w 14 i) :: rest))) : W p l e R s m args below meth c H locs cells slots Q (F0 m pc ls (.ref (ad_ w 5 i) :: rest)) :=
  rg_get (k := 5) (T := TX2) (N := 7) cx.1 cx.2.1 cx.2.2.2.2.1 inX2 cx.2.2.2.1 cx.2.2.2.2.2.1 hW hi rfl rfl 3 (by decide) (cx.2.2.2.2.1 _ nw_48) rfl hd kk
theorem gf_X2_28 (cx : Cx_ p s m c args cc nL "MarginHouse$Plan" w) (hW : Hd_ w a H) (hi : i < 1) (hd : decode cc pc = .ok (.getfield 28, 3)) (kk : W p l e R s m args below meth c H locs cells slots Q (F0 m (pc + 3) ls (.ref (ad_ w 15 i) :: rest))) : W p l e R s m args below meth c H locs cells slots Q (F0 m pc ls (.ref (ad_ w 5 i) :: rest)) :=
  rg_get (k := 5) (T := TX2) (N := 7) cx.1 cx.2.1 cx.2.2.2.2.1 inX2 cx.2.2.2.1 cx.2.2.2.2.2.1 hW hi rfl rfl 4 (by decide) (cx.2.2.2.2.1 _ nw_49) rfl hd kk
theorem gf_X4_231 (cx : Cx_ p s m c args cc nL "MarginHouse" w) (hW : Hd_ w a H) (hi : i < 1) (hd : decode cc pc = .ok (.getfield 231, 3)) (kk : W p l e R s m args below meth c H locs cells slots Q (F0 m (pc + 3) ls (.ref (ad_ w 15 i) :: rest))) : W p l e R s m args below meth c H locs cells slots Q (F0 m pc ls (.ref (ad_ w 5 i) :: rest)) :=
  rg_get (k := 5) (T := TX2) (N := 7) cx.1 cx.2.1 cx.2.2.2.2.1 inX2 cx.2.2.2.1 cx.2.2.2.2.2.1 hW hi rfl rfl 4 (by decide) (cx.2.2.2.2.1 _ nw_50) rfl hd kk
theorem gf_X2_32 (cx : Cx_ p s m c args cc nL "MarginHouse$Plan" w) (hW : Hd_ w a H) (hi : i < 1) (hd : decode cc pc = .ok (.getfield 32, 3)) (kk : W p l e R s m args below meth c H locs cells slots Q (F0 m (pc + 3) ls (.long (gl_ a 8 i 0) :: rest))) : W p l e R s m args below meth c H locs cells slots Q (F0 m pc ls (.ref (ad_ w 5 i) :: rest)) :=
  rg_get (k := 5) (T := TX2) (N := 7) cx.1 cx.2.1 cx.2.2.2.2.1 inX2 cx.2.2.2.1 cx.2.2.2.2.2.1 hW hi rfl rfl 5 (by decide) (cx.2.2.2.2.1 _ nw_51) rfl hd kk
theorem pf_X2_32 {x : Int64} (cx : Cx_ p s m c args cc nL "MarginHouse$Plan" w) (hW : Hd_ w a H) (hS : Fr_ w s.heap H locs) (hi : i < 1) (hd : decode cc pc = .ok (.putfield 32, 3)) (kk : ∀ (H1 : Heap) (locs1 : List Loc), Hd_ w (sl_ a 8 i 0 x) H1 → Fr_ w s.heap H1 locs1 → W p l e R s m args below meth c H1 locs1 cells slots Q (F0 m (pc + 3) ls rest)) : W p l e R s m args below meth c H locs cells slots Q (F0 m pc ls (.long x :: .ref (ad_ w 5 i) :: rest)) :=
  rg_put (k := 5) (a' := sl_ a 8 i 0 x) (T := TX2) (N := 7) (ty := .long) cx.1 cx.2.1 cx.2.2.2.2.1 inX2 tyX2 tyX2_ok nmX2 cx.2.2.2.1 cx.2.2.2.2.2.1 cx.2.2.2.2.2.2.1 hW hS hi rfl rfl 5 (by decide) (cx.2.2.2.2.1 _ nw_51) rfl (by decide +kernel) rfl rfl (Nat.le_of_ble_eq_true rfl) (by simp [en_, gi_si, gl_si, gi_sl, gl_sl]) (fun k' i' h => en_sl w a 8 i 0 x k' i' h) hd kk
theorem gf_X4_194 (cx : Cx_ p s m c args cc nL "MarginHouse" w) (hW : Hd_ w a H) (hi : i < 1) (hd : decode cc pc = .ok (.getfield 194, 3)) (kk : W p l e R s m args below meth c H locs cells slots Q (F0 m (pc + 3) ls (.long (gl_ a 8 i 0) :: rest))) : W p l e R s m args below meth c H locs cells slots Q (F0 m pc ls (.ref (ad_ w 5 i) :: rest)) :=
  rg_get (k := 5) (T := TX2) (N := 7) cx.1 cx.2.1 cx.2.2.2.2.1 inX2 cx.2.2.2.1 cx.2.2.2.2.2.1 hW hi rfl rfl 5 (by decide) (cx.2.2.2.2.1 _ nw_52) rfl hd kk
theorem pf_X4_194 {x : Int64} (cx : Cx_ p s m c args cc nL "MarginHouse" w) (hW : Hd_ w a H) (hS : Fr_ w s.heap H locs) (hi : i < 1) (hd : decode cc pc = .ok (.putfield 194, 3)) (kk : ∀ (H1 : Heap) (locs1 : List Loc), Hd_ w (sl_ a 8 i 0 x) H1 → Fr_ w s.heap H1 locs1 → W p l e R s m args below meth c H1 locs1 cells slots Q (F0 m (pc + 3) ls rest)) : W p l e R s m args below meth c H locs cells slots Q (F0 m pc ls (.long x :: .ref (ad_ w 5 i) :: rest)) :=
  rg_put (k := 5) (a' := sl_ a 8 i 0 x) (T := TX2) (N := 7) (ty := .long) cx.1 cx.2.1 cx.2.2.2.2.1 inX2 tyX2 tyX2_ok nmX2 cx.2.2.2.1 cx.2.2.2.2.2.1 cx.2.2.2.2.2.2.1 hW hS hi rfl rfl 5 (by decide) (cx.2.2.2.2.1 _ nw_52) rfl (by decide +kernel) rfl rfl (Nat.le_of_ble_eq_true rfl) (by simp [en_, gi_si, gl_si, gi_sl, gl_sl]) (fun k' i' h => en_sl w a 8 i 0 x k' i' h) hd kk
theorem gf_X2_36 (cx : Cx_ p s m c args cc nL "MarginHouse$Plan" w) (hW : Hd_ w a H) (hi : i < 1) (hd : decode cc pc = .ok (.getfield 36, 3)) (kk : W p l e R s m args below meth c H locs cells slots Q (F0 m (pc + 3) ls (.long (gl_ a 9 i 0) :: rest))) : W p l e R s m args below meth c H locs cells slots Q (F0 m pc ls (.ref (ad_ w 5 i) :: rest)) :=
  rg_get (k := 5) (T := TX2) (N := 7) cx.1 cx.2.1 cx.2.2.2.2.1 inX2 cx.2.2.2.1 cx.2.2.2.2.2.1 hW hi rfl rfl 6 (by decide) (cx.2.2.2.2.1 _ nw_53) rfl hd kk
theorem pf_X2_36 {x : Int64} (cx : Cx_ p s m c args cc nL "MarginHouse$Plan" w) (hW : Hd_ w a H) (hS : Fr_ w s.heap H locs) (hi : i < 1) (hd : decode cc pc = .ok (.putfield 36, 3)) (kk : ∀ (H1 : Heap) (locs1 : List Loc), Hd_ w (sl_ a 9 i 0 x) H1 → Fr_ w s.heap H1 locs1 → W p l e R s m args below meth c H1 locs1 cells slots Q (F0 m (pc + 3) ls rest)) : W p l e R s m args below meth c H locs cells slots Q (F0 m pc ls (.long x :: .ref (ad_ w 5 i) :: rest)) :=
  rg_put (k := 5) (a' := sl_ a 9 i 0 x) (T := TX2) (N := 7) (ty := .long) cx.1 cx.2.1 cx.2.2.2.2.1 inX2 tyX2 tyX2_ok nmX2 cx.2.2.2.1 cx.2.2.2.2.2.1 cx.2.2.2.2.2.2.1 hW hS hi rfl rfl 6 (by decide) (cx.2.2.2.2.1 _ nw_53) rfl (by decide +kernel) rfl rfl (Nat.le_of_ble_eq_true rfl) (by simp [en_, gi_si, gl_si, gi_sl, gl_sl]) (fun k' i' h => en_sl w a 9 i 0 x k' i' h) hd kk
theorem gf_X1_9 (cx : Cx_ p s m c args cc nL "MarginHouse$Member" w) (hW : Hd_ w a H) (hi : i < 8) (hd : decode cc pc = .ok (.getfield 9, 3)) (kk : W p l e R s m args below meth c H locs cells slots Q (F0 m (pc + 3) ls (.ref (ad_ w 7 i) :: rest))) : W p l e R s m args below meth c H locs cells slots Q (F0 m pc ls (.ref (ad_ w 6 i) :: rest)) :=
  rg_get (k := 6) (T := TX1) (N := 5) cx.1 cx.2.1 cx.2.2.2.2.1 inX1 cx.2.2.2.1 cx.2.2.2.2.2.1 hW hi rfl rfl 0 (by decide) (cx.2.2.2.2.1 _ nw_58) rfl hd kk
theorem gf_X4_114 (cx : Cx_ p s m c args cc nL "MarginHouse" w) (hW : Hd_ w a H) (hi : i < 8) (hd : decode cc pc = .ok (.getfield 114, 3)) (kk : W p l e R s m args below meth c H locs cells slots Q (F0 m (pc + 3) ls (.ref (ad_ w 7 i) :: rest))) : W p l e R s m args below meth c H locs cells slots Q (F0 m pc ls (.ref (ad_ w 6 i) :: rest)) :=
  rg_get (k := 6) (T := TX1) (N := 5) cx.1 cx.2.1 cx.2.2.2.2.1 inX1 cx.2.2.2.1 cx.2.2.2.2.2.1 hW hi rfl rfl 0 (by decide) (cx.2.2.2.2.1 _ nw_59) rfl hd kk
theorem gf_X1_15 (cx : Cx_ p s m c args cc nL "MarginHouse$Member" w) (hW : Hd_ w a H) (hi : i < 8) (hd : decode cc pc = .ok (.getfield 15, 3)) (kk : W p l e R s m args below meth c H locs cells slots Q (F0 m (pc + 3) ls (.ref (ad_ w 8 i) :: rest))) : W p l e R s m args below meth c H locs cells slots Q (F0 m pc ls (.ref (ad_ w 6 i) :: rest)) :=
  rg_get (k := 6) (T := TX1) (N := 5) cx.1 cx.2.1 cx.2.2.2.2.1 inX1 cx.2.2.2.1 cx.2.2.2.2.2.1 hW hi rfl rfl 1 (by decide) (cx.2.2.2.2.1 _ nw_60) rfl hd kk
theorem gf_X4_97 (cx : Cx_ p s m c args cc nL "MarginHouse" w) (hW : Hd_ w a H) (hi : i < 8) (hd : decode cc pc = .ok (.getfield 97, 3)) (kk : W p l e R s m args below meth c H locs cells slots Q (F0 m (pc + 3) ls (.ref (ad_ w 8 i) :: rest))) : W p l e R s m args below meth c H locs cells slots Q (F0 m pc ls (.ref (ad_ w 6 i) :: rest)) :=
  rg_get (k := 6) (T := TX1) (N := 5) cx.1 cx.2.1 cx.2.2.2.2.1 inX1 cx.2.2.2.1 cx.2.2.2.2.2.1 hW hi rfl rfl 1 (by decide) (cx.2.2.2.2.1 _ nw_61) rfl hd kk
theorem gf_X1_18 (cx : Cx_ p s m c args cc nL "MarginHouse$Member" w) (hW : Hd_ w a H) (hi : i < 8) (hd : decode cc pc = .ok (.getfield 18, 3)) (kk : W p l e R s m args below meth c H locs cells slots Q (F0 m (pc + 3) ls (.int (gi_ a 3 i 0) :: rest))) : W p l e R s m args below meth c H locs cells slots Q (F0 m pc ls (.ref (ad_ w 6 i) :: rest)) :=
  rg_get (k := 6) (T := TX1) (N := 5) cx.1 cx.2.1 cx.2.2.2.2.1 inX1 cx.2.2.2.1 cx.2.2.2.2.2.1 hW hi rfl rfl 2 (by decide) (cx.2.2.2.2.1 _ nw_62) rfl hd kk
theorem pf_X1_18 {x : Int32} (cx : Cx_ p s m c args cc nL "MarginHouse$Member" w) (hW : Hd_ w a H) (hS : Fr_ w s.heap H locs) (hi : i < 8) (hd : decode cc pc = .ok (.putfield 18, 3)) (kk : ∀ (H1 : Heap) (locs1 : List Loc), Hd_ w (si_ a 3 i 0 x) H1 → Fr_ w s.heap H1 locs1 → W p l e R s m args below meth c H1 locs1 cells slots Q (F0 m (pc + 3) ls rest)) : W p l e R s m args below meth c H locs cells slots Q (F0 m pc ls (.int x :: .ref (ad_ w 6 i) :: rest)) :=
  rg_put (k := 6) (a' := si_ a 3 i 0 x) (T := TX1) (N := 5) (ty := .int) cx.1 cx.2.1 cx.2.2.2.2.1 inX1 tyX1 tyX1_ok nmX1 cx.2.2.2.1 cx.2.2.2.2.2.1 cx.2.2.2.2.2.2.1 hW hS hi rfl rfl 2 (by decide) (cx.2.2.2.2.1 _ nw_62) rfl (by decide +kernel) rfl rfl (Nat.le_of_ble_eq_true rfl) (by simp [en_, gi_si, gl_si, gi_sl, gl_sl]) (fun k' i' h => en_si w a 3 i 0 x k' i' h) hd kk
theorem gf_X4_127 (cx : Cx_ p s m c args cc nL "MarginHouse" w) (hW : Hd_ w a H) (hi : i < 8) (hd : decode cc pc = .ok (.getfield 127, 3)) (kk : W p l e R s m args below meth c H locs cells slots Q (F0 m (pc + 3) ls (.int (gi_ a 3 i 0) :: rest))) : W p l e R s m args below meth c H locs cells slots Q (F0 m pc ls (.ref (ad_ w 6 i) :: rest)) :=
  rg_get (k := 6) (T := TX1) (N := 5) cx.1 cx.2.1 cx.2.2.2.2.1 inX1 cx.2.2.2.1 cx.2.2.2.2.2.1 hW hi rfl rfl 2 (by decide) (cx.2.2.2.2.1 _ nw_63) rfl hd kk
theorem pf_X4_127 {x : Int32} (cx : Cx_ p s m c args cc nL "MarginHouse" w) (hW : Hd_ w a H) (hS : Fr_ w s.heap H locs) (hi : i < 8) (hd : decode cc pc = .ok (.putfield 127, 3)) (kk : ∀ (H1 : Heap) (locs1 : List Loc), Hd_ w (si_ a 3 i 0 x) H1 → Fr_ w s.heap H1 locs1 → W p l e R s m args below meth c H1 locs1 cells slots Q (F0 m (pc + 3) ls rest)) : W p l e R s m args below meth c H locs cells slots Q (F0 m pc ls (.int x :: .ref (ad_ w 6 i) :: rest)) :=
  rg_put (k := 6) (a' := si_ a 3 i 0 x) (T := TX1) (N := 5) (ty := .int) cx.1 cx.2.1 cx.2.2.2.2.1 inX1 tyX1 tyX1_ok nmX1 cx.2.2.2.1 cx.2.2.2.2.2.1 cx.2.2.2.2.2.2.1 hW hS hi rfl rfl 2 (by decide) (cx.2.2.2.2.1 _ nw_63) rfl (by decide +kernel) rfl rfl (Nat.le_of_ble_eq_true rfl) (by simp [en_, gi_si, gl_si, gi_sl, gl_sl]) (fun k' i' h => en_si w a 3 i 0 x k' i' h) hd kk
theorem gf_X1_22 (cx : Cx_ p s m c args cc nL "MarginHouse$Member" w) (hW : Hd_ w a H) (hi : i < 8) (hd : decode cc pc = .ok (.getfield 22, 3)) (kk : W p l e R s m args below meth c H locs cells slots Q (F0 m (pc + 3) ls (.long (gl_ a 2 i 0) :: rest))) : W p l e R s m args below meth c H locs cells slots Q (F0 m pc ls (.ref (ad_ w 6 i) :: rest)) :=
  rg_get (k := 6) (T := TX1) (N := 5) cx.1 cx.2.1 cx.2.2.2.2.1 inX1 cx.2.2.2.1 cx.2.2.2.2.2.1 hW hi rfl rfl 3 (by decide) (cx.2.2.2.2.1 _ nw_64) rfl hd kk
theorem pf_X1_22 {x : Int64} (cx : Cx_ p s m c args cc nL "MarginHouse$Member" w) (hW : Hd_ w a H) (hS : Fr_ w s.heap H locs) (hi : i < 8) (hd : decode cc pc = .ok (.putfield 22, 3)) (kk : ∀ (H1 : Heap) (locs1 : List Loc), Hd_ w (sl_ a 2 i 0 x) H1 → Fr_ w s.heap H1 locs1 → W p l e R s m args below meth c H1 locs1 cells slots Q (F0 m (pc + 3) ls rest)) : W p l e R s m args below meth c H locs cells slots Q (F0 m pc ls (.long x :: .ref (ad_ w 6 i) :: rest)) :=
  rg_put (k := 6) (a' := sl_ a 2 i 0 x) (T := TX1) (N := 5) (ty := .long) cx.1 cx.2.1 cx.2.2.2.2.1 inX1 tyX1 tyX1_ok nmX1 cx.2.2.2.1 cx.2.2.2.2.2.1 cx.2.2.2.2.2.2.1 hW hS hi rfl rfl 3 (by decide) (cx.2.2.2.2.1 _ nw_64) rfl (by decide +kernel) rfl rfl (Nat.le_of_ble_eq_true rfl) (by simp [en_, gi_si, gl_si, gi_sl, gl_sl]) (fun k' i' h => en_sl w a 2 i 0 x k' i' h) hd kk
theorem gf_X4_105 (cx : Cx_ p s m c args cc nL "MarginHouse" w) (hW : Hd_ w a H) (hi : i < 8) (hd : decode cc pc = .ok (.getfield 105, 3)) (kk : W p l e R s m args below meth c H locs cells slots Q (F0 m (pc + 3) ls (.long (gl_ a 2 i 0) :: rest))) : W p l e R s m args below meth c H locs cells slots Q (F0 m pc ls (.ref (ad_ w 6 i) :: rest)) :=
  rg_get (k := 6) (T := TX1) (N := 5) cx.1 cx.2.1 cx.2.2.2.2.1 inX1 cx.2.2.2.1 cx.2.2.2.2.2.1 hW hi rfl rfl 3 (by decide) (cx.2.2.2.2.1 _ nw_65) rfl hd kk
theorem pf_X4_105 {x : Int64} (cx : Cx_ p s m c args cc nL "MarginHouse" w) (hW : Hd_ w a H) (hS : Fr_ w s.heap H locs) (hi : i < 8) (hd : decode cc pc = .ok (.putfield 105, 3)) (kk : ∀ (H1 : Heap) (locs1 : List Loc), Hd_ w (sl_ a 2 i 0 x) H1 → Fr_ w s.heap H1 locs1 → W p l e R s m args below meth c H1 locs1 cells slots Q (F0 m (pc + 3) ls rest)) : W p l e R s m args below meth c H locs cells slots Q (F0 m pc ls (.long x :: .ref (ad_ w 6 i) :: rest)) :=
  rg_put (k := 6) (a' := sl_ a 2 i 0 x) (T := TX1) (N := 5) (ty := .long) cx.1 cx.2.1 cx.2.2.2.2.1 inX1 tyX1 tyX1_ok nmX1 cx.2.2.2.1 cx.2.2.2.2.2.1 cx.2.2.2.2.2.2.1 hW hS hi rfl rfl 3 (by decide) (cx.2.2.2.2.1 _ nw_65) rfl (by decide +kernel) rfl rfl (Nat.le_of_ble_eq_true rfl) (by simp [en_, gi_si, gl_si, gi_sl, gl_sl]) (fun k' i' h => en_sl w a 2 i 0 x k' i' h) hd kk
theorem gf_X1_26 (cx : Cx_ p s m c args cc nL "MarginHouse$Member" w) (hW : Hd_ w a H) (hi : i < 8) (hd : decode cc pc = .ok (.getfield 26, 3)) (kk : W p l e R s m args below meth c H locs cells slots Q (F0 m (pc + 3) ls (.long (gl_ a 3 i 0) :: rest))) : W p l e R s m args below meth c H locs cells slots Q (F0 m pc ls (.ref (ad_ w 6 i) :: rest)) :=
  rg_get (k := 6) (T := TX1) (N := 5) cx.1 cx.2.1 cx.2.2.2.2.1 inX1 cx.2.2.2.1 cx.2.2.2.2.2.1 hW hi rfl rfl 4 (by decide) (cx.2.2.2.2.1 _ nw_66) rfl hd kk
theorem pf_X1_26 {x : Int64} (cx : Cx_ p s m c args cc nL "MarginHouse$Member" w) (hW : Hd_ w a H) (hS : Fr_ w s.heap H locs) (hi : i < 8) (hd : decode cc pc = .ok (.putfield 26, 3)) (kk : ∀ (H1 : Heap) (locs1 : List Loc), Hd_ w (sl_ a 3 i 0 x) H1 → Fr_ w s.heap H1 locs1 → W p l e R s m args below meth c H1 locs1 cells slots Q (F0 m (pc + 3) ls rest)) : W p l e R s m args below meth c H locs cells slots Q (F0 m pc ls (.long x :: .ref (ad_ w 6 i) :: rest)) :=
  rg_put (k := 6) (a' := sl_ a 3 i 0 x) (T := TX1) (N := 5) (ty := .long) cx.1 cx.2.1 cx.2.2.2.2.1 inX1 tyX1 tyX1_ok nmX1 cx.2.2.2.1 cx.2.2.2.2.2.1 cx.2.2.2.2.2.2.1 hW hS hi rfl rfl 4 (by decide) (cx.2.2.2.2.1 _ nw_66) rfl (by decide +kernel) rfl rfl (Nat.le_of_ble_eq_true rfl) (by simp [en_, gi_si, gl_si, gi_sl, gl_sl]) (fun k' i' h => en_sl w a 3 i 0 x k' i' h) hd kk
theorem gf_X4_66 (cx : Cx_ p s m c args cc nL "MarginHouse" w) (hW : Hd_ w a H) (hi : i < 8) (hd : decode cc pc = .ok (.getfield 66, 3)) (kk : W p l e R s m args below meth c H locs cells slots Q (F0 m (pc + 3) ls (.long (gl_ a 3 i 0) :: rest))) : W p l e R s m args below meth c H locs cells slots Q (F0 m pc ls (.ref (ad_ w 6 i) :: rest)) :=
  rg_get (k := 6) (T := TX1) (N := 5) cx.1 cx.2.1 cx.2.2.2.2.1 inX1 cx.2.2.2.1 cx.2.2.2.2.2.1 hW hi rfl rfl 4 (by decide) (cx.2.2.2.2.1 _ nw_67) rfl hd kk
theorem pf_X4_66 {x : Int64} (cx : Cx_ p s m c args cc nL "MarginHouse" w) (hW : Hd_ w a H) (hS : Fr_ w s.heap H locs) (hi : i < 8) (hd : decode cc pc = .ok (.putfield 66, 3)) (kk : ∀ (H1 : Heap) (locs1 : List Loc), Hd_ w (sl_ a 3 i 0 x) H1 → Fr_ w s.heap H1 locs1 → W p l e R s m args below meth c H1 locs1 cells slots Q (F0 m (pc + 3) ls rest)) : W p l e R s m args below meth c H locs cells slots Q (F0 m pc ls (.long x :: .ref (ad_ w 6 i) :: rest)) :=
  rg_put (k := 6) (a' := sl_ a 3 i 0 x) (T := TX1) (N := 5) (ty := .long) cx.1 cx.2.1 cx.2.2.2.2.1 inX1 tyX1 tyX1_ok nmX1 cx.2.2.2.1 cx.2.2.2.2.2.1 cx.2.2.2.2.2.2.1 hW hS hi rfl rfl 4 (by decide) (cx.2.2.2.2.1 _ nw_67) rfl (by decide +kernel) rfl rfl (Nat.le_of_ble_eq_true rfl) (by simp [en_, gi_si, gl_si, gi_sl, gl_sl]) (fun k' i' h => en_sl w a 3 i 0 x k' i' h) hd kk
theorem gf_X0_7 (cx : Cx_ p s m c args cc nL "MarginHouse$Instrument" w) (hW : Hd_ w a H) (hi : i < 6) (hd : decode cc pc = .ok (.getfield 7, 3)) (kk : W p l e R s m args below meth c H locs cells slots Q (F0 m (pc + 3) ls (.int (gi_ a 6 i 0) :: rest))) : W p l e R s m args below meth c H locs cells slots Q (F0 m pc ls (.ref (ad_ w 9 i) :: rest)) :=
  rg_get (k := 9) (T := TX0) (N := 3) cx.1 cx.2.1 cx.2.2.2.2.1 inX0 cx.2.2.2.1 cx.2.2.2.2.2.1 hW hi rfl rfl 0 (by decide) (cx.2.2.2.2.1 _ nw_72) rfl hd kk
theorem pf_X0_7 {x : Int32} (cx : Cx_ p s m c args cc nL "MarginHouse$Instrument" w) (hW : Hd_ w a H) (hS : Fr_ w s.heap H locs) (hi : i < 6) (hd : decode cc pc = .ok (.putfield 7, 3)) (kk : ∀ (H1 : Heap) (locs1 : List Loc), Hd_ w (si_ a 6 i 0 x) H1 → Fr_ w s.heap H1 locs1 → W p l e R s m args below meth c H1 locs1 cells slots Q (F0 m (pc + 3) ls rest)) : W p l e R s m args below meth c H locs cells slots Q (F0 m pc ls (.int x :: .ref (ad_ w 9 i) :: rest)) :=
  rg_put (k := 9) (a' := si_ a 6 i 0 x) (T := TX0) (N := 3) (ty := .int) cx.1 cx.2.1 cx.2.2.2.2.1 inX0 tyX0 tyX0_ok nmX0 cx.2.2.2.1 cx.2.2.2.2.2.1 cx.2.2.2.2.2.2.1 hW hS hi rfl rfl 0 (by decide) (cx.2.2.2.2.1 _ nw_72) rfl (by decide +kernel) rfl rfl (Nat.le_of_ble_eq_true rfl) (by simp [en_, gi_si, gl_si, gi_sl, gl_sl]) (fun k' i' h => en_si w a 6 i 0 x k' i' h) hd kk
theorem gf_X4_71 (cx : Cx_ p s m c args cc nL "MarginHouse" w) (hW : Hd_ w a H) (hi : i < 6) (hd : decode cc pc = .ok (.getfield 71, 3)) (kk : W p l e R s m args below meth c H locs cells slots Q (F0 m (pc + 3) ls (.int (gi_ a 6 i 0) :: rest))) : W p l e R s m args below meth c H locs cells slots Q (F0 m pc ls (.ref (ad_ w 9 i) :: rest)) :=
  rg_get (k := 9) (T := TX0) (N := 3) cx.1 cx.2.1 cx.2.2.2.2.1 inX0 cx.2.2.2.1 cx.2.2.2.2.2.1 hW hi rfl rfl 0 (by decide) (cx.2.2.2.2.1 _ nw_73) rfl hd kk
theorem pf_X4_71 {x : Int32} (cx : Cx_ p s m c args cc nL "MarginHouse" w) (hW : Hd_ w a H) (hS : Fr_ w s.heap H locs) (hi : i < 6) (hd : decode cc pc = .ok (.putfield 71, 3)) (kk : ∀ (H1 : Heap) (locs1 : List Loc), Hd_ w (si_ a 6 i 0 x) H1 → Fr_ w s.heap H1 locs1 → W p l e R s m args below meth c H1 locs1 cells slots Q (F0 m (pc + 3) ls rest)) : W p l e R s m args below meth c H locs cells slots Q (F0 m pc ls (.int x :: .ref (ad_ w 9 i) :: rest)) :=
  rg_put (k := 9) (a' := si_ a 6 i 0 x) (T := TX0) (N := 3) (ty := .int) cx.1 cx.2.1 cx.2.2.2.2.1 inX0 tyX0 tyX0_ok nmX0 cx.2.2.2.1 cx.2.2.2.2.2.1 cx.2.2.2.2.2.2.1 hW hS hi rfl rfl 0 (by decide) (cx.2.2.2.2.1 _ nw_73) rfl (by decide +kernel) rfl rfl (Nat.le_of_ble_eq_true rfl) (by simp [en_, gi_si, gl_si, gi_sl, gl_sl]) (fun k' i' h => en_si w a 6 i 0 x k' i' h) hd kk
theorem gf_X0_13 (cx : Cx_ p s m c args cc nL "MarginHouse$Instrument" w) (hW : Hd_ w a H) (hi : i < 6) (hd : decode cc pc = .ok (.getfield 13, 3)) (kk : W p l e R s m args below meth c H locs cells slots Q (F0 m (pc + 3) ls (.int (gi_ a 7 i 0) :: rest))) : W p l e R s m args below meth c H locs cells slots Q (F0 m pc ls (.ref (ad_ w 9 i) :: rest)) :=
  rg_get (k := 9) (T := TX0) (N := 3) cx.1 cx.2.1 cx.2.2.2.2.1 inX0 cx.2.2.2.1 cx.2.2.2.2.2.1 hW hi rfl rfl 1 (by decide) (cx.2.2.2.2.1 _ nw_74) rfl hd kk
theorem pf_X0_13 {x : Int32} (cx : Cx_ p s m c args cc nL "MarginHouse$Instrument" w) (hW : Hd_ w a H) (hS : Fr_ w s.heap H locs) (hi : i < 6) (hd : decode cc pc = .ok (.putfield 13, 3)) (kk : ∀ (H1 : Heap) (locs1 : List Loc), Hd_ w (si_ a 7 i 0 x) H1 → Fr_ w s.heap H1 locs1 → W p l e R s m args below meth c H1 locs1 cells slots Q (F0 m (pc + 3) ls rest)) : W p l e R s m args below meth c H locs cells slots Q (F0 m pc ls (.int x :: .ref (ad_ w 9 i) :: rest)) :=
  rg_put (k := 9) (a' := si_ a 7 i 0 x) (T := TX0) (N := 3) (ty := .int) cx.1 cx.2.1 cx.2.2.2.2.1 inX0 tyX0 tyX0_ok nmX0 cx.2.2.2.1 cx.2.2.2.2.2.1 cx.2.2.2.2.2.2.1 hW hS hi rfl rfl 1 (by decide) (cx.2.2.2.2.1 _ nw_74) rfl (by decide +kernel) rfl rfl (Nat.le_of_ble_eq_true rfl) (by simp [en_, gi_si, gl_si, gi_sl, gl_sl]) (fun k' i' h => en_si w a 7 i 0 x k' i' h) hd kk
theorem gf_X4_74 (cx : Cx_ p s m c args cc nL "MarginHouse" w) (hW : Hd_ w a H) (hi : i < 6) (hd : decode cc pc = .ok (.getfield 74, 3)) (kk : W p l e R s m args below meth c H locs cells slots Q (F0 m (pc + 3) ls (.int (gi_ a 7 i 0) :: rest))) : W p l e R s m args below meth c H locs cells slots Q (F0 m pc ls (.ref (ad_ w 9 i) :: rest)) :=
  rg_get (k := 9) (T := TX0) (N := 3) cx.1 cx.2.1 cx.2.2.2.2.1 inX0 cx.2.2.2.1 cx.2.2.2.2.2.1 hW hi rfl rfl 1 (by decide) (cx.2.2.2.2.1 _ nw_75) rfl hd kk
theorem pf_X4_74 {x : Int32} (cx : Cx_ p s m c args cc nL "MarginHouse" w) (hW : Hd_ w a H) (hS : Fr_ w s.heap H locs) (hi : i < 6) (hd : decode cc pc = .ok (.putfield 74, 3)) (kk : ∀ (H1 : Heap) (locs1 : List Loc), Hd_ w (si_ a 7 i 0 x) H1 → Fr_ w s.heap H1 locs1 → W p l e R s m args below meth c H1 locs1 cells slots Q (F0 m (pc + 3) ls rest)) : W p l e R s m args below meth c H locs cells slots Q (F0 m pc ls (.int x :: .ref (ad_ w 9 i) :: rest)) :=
  rg_put (k := 9) (a' := si_ a 7 i 0 x) (T := TX0) (N := 3) (ty := .int) cx.1 cx.2.1 cx.2.2.2.2.1 inX0 tyX0 tyX0_ok nmX0 cx.2.2.2.1 cx.2.2.2.2.2.1 cx.2.2.2.2.2.2.1 hW hS hi rfl rfl 1 (by decide) (cx.2.2.2.2.1 _ nw_75) rfl (by decide +kernel) rfl rfl (Nat.le_of_ble_eq_true rfl) (by simp [en_, gi_si, gl_si, gi_sl, gl_sl]) (fun k' i' h => en_si w a 7 i 0 x k' i' h) hd kk
theorem gf_X0_16 (cx : Cx_ p s m c args cc nL "MarginHouse$Instrument" w) (hW : Hd_ w a H) (hi : i < 6) (hd : decode cc pc = .ok (.getfield 16, 3)) (kk : W p l e R s m args below meth c H locs cells slots Q (F0 m (pc + 3) ls (.int (gi_ a 8 i 0) :: rest))) : W p l e R s m args below meth c H locs cells slots Q (F0 m pc ls (.ref (ad_ w 9 i) :: rest)) :=
  rg_get (k := 9) (T := TX0) (N := 3) cx.1 cx.2.1 cx.2.2.2.2.1 inX0 cx.2.2.2.1 cx.2.2.2.2.2.1 hW hi rfl rfl 2 (by decide) (cx.2.2.2.2.1 _ nw_76) rfl hd kk
theorem pf_X0_16 {x : Int32} (cx : Cx_ p s m c args cc nL "MarginHouse$Instrument" w) (hW : Hd_ w a H) (hS : Fr_ w s.heap H locs) (hi : i < 6) (hd : decode cc pc = .ok (.putfield 16, 3)) (kk : ∀ (H1 : Heap) (locs1 : List Loc), Hd_ w (si_ a 8 i 0 x) H1 → Fr_ w s.heap H1 locs1 → W p l e R s m args below meth c H1 locs1 cells slots Q (F0 m (pc + 3) ls rest)) : W p l e R s m args below meth c H locs cells slots Q (F0 m pc ls (.int x :: .ref (ad_ w 9 i) :: rest)) :=
  rg_put (k := 9) (a' := si_ a 8 i 0 x) (T := TX0) (N := 3) (ty := .int) cx.1 cx.2.1 cx.2.2.2.2.1 inX0 tyX0 tyX0_ok nmX0 cx.2.2.2.1 cx.2.2.2.2.2.1 cx.2.2.2.2.2.2.1 hW hS hi rfl rfl 2 (by decide) (cx.2.2.2.2.1 _ nw_76) rfl (by decide +kernel) rfl rfl (Nat.le_of_ble_eq_true rfl) (by simp [en_, gi_si, gl_si, gi_sl, gl_sl]) (fun k' i' h => en_si w a 8 i 0 x k' i' h) hd kk
theorem gf_X4_77 (cx : Cx_ p s m c args cc nL "MarginHouse" w) (hW : Hd_ w a H) (hi : i < 6) (hd : decode cc pc = .ok (.getfield 77, 3)) (kk : W p l e R s m args below meth c H locs cells slots Q (F0 m (pc + 3) ls (.int (gi_ a 8 i 0) :: rest))) : W p l e R s m args below meth c H locs cells slots Q (F0 m pc ls (.ref (ad_ w 9 i) :: rest)) :=
  rg_get (k := 9) (T := TX0) (N := 3) cx.1 cx.2.1 cx.2.2.2.2.1 inX0 cx.2.2.2.1 cx.2.2.2.2.2.1 hW hi rfl rfl 2 (by decide) (cx.2.2.2.2.1 _ nw_77) rfl hd kk
theorem pf_X4_77 {x : Int32} (cx : Cx_ p s m c args cc nL "MarginHouse" w) (hW : Hd_ w a H) (hS : Fr_ w s.heap H locs) (hi : i < 6) (hd : decode cc pc = .ok (.putfield 77, 3)) (kk : ∀ (H1 : Heap) (locs1 : List Loc), Hd_ w (si_ a 8 i 0 x) H1 → Fr_ w s.heap H1 locs1 → W p l e R s m args below meth c H1 locs1 cells slots Q (F0 m (pc + 3) ls rest)) : W p l e R s m args below meth c H locs cells slots Q (F0 m pc ls (.int x :: .ref (ad_ w 9 i) :: rest)) :=
  rg_put (k := 9) (a' := si_ a 8 i 0 x) (T := TX0) (N := 3) (ty := .int) cx.1 cx.2.1 cx.2.2.2.2.1 inX0 tyX0 tyX0_ok nmX0 cx.2.2.2.1 cx.2.2.2.2.2.1 cx.2.2.2.2.2.2.1 hW hS hi rfl rfl 2 (by decide) (cx.2.2.2.2.1 _ nw_77) rfl (by decide +kernel) rfl rfl (Nat.le_of_ble_eq_true rfl) (by simp [en_, gi_si, gl_si, gi_sl, gl_sl]) (fun k' i' h => en_si w a 8 i 0 x k' i' h) hd kk
theorem gf_X4_11 (cx : Cx_ p s m c args cc nL "MarginHouse" w) (hW : Hd_ w a H) (hi : i < 1) (hd : decode cc pc = .ok (.getfield 11, 3)) (kk : W p l e R s m args below meth c H locs cells slots Q (F0 m (pc + 3) ls (.ref (ad_ w 1 i) :: rest))) : W p l e R s m args below meth c H locs cells slots Q (F0 m pc ls (.ref (ad_ w 0 i) :: rest)) :=
  rg_get (k := 0) (T := TX4) (N := 10) cx.1 cx.2.1 cx.2.2.2.2.1 inX4 cx.2.2.2.1 cx.2.2.2.2.2.1 hW hi rfl rfl 0 (by decide) (cx.2.2.2.2.1 _ nw_78) rfl hd kk
theorem gf_X4_17 (cx : Cx_ p s m c args cc nL "MarginHouse" w) (hW : Hd_ w a H) (hi : i < 1) (hd : decode cc pc = .ok (.getfield 17, 3)) (kk : W p l e R s m args below meth c H locs cells slots Q (F0 m (pc + 3) ls (.ref (ad_ w 2 i) :: rest))) : W p l e R s m args below meth c H locs cells slots Q (F0 m pc ls (.ref (ad_ w 0 i) :: rest)) :=
  rg_get (k := 0) (T := TX4) (N := 10) cx.1 cx.2.1 cx.2.2.2.2.1 inX4 cx.2.2.2.1 cx.2.2.2.2.2.1 hW hi rfl rfl 1 (by decide) (cx.2.2.2.2.1 _ nw_79) rfl hd kk
theorem gf_X4_23 (cx : Cx_ p s m c args cc nL "MarginHouse" w) (hW : Hd_ w a H) (hi : i < 1) (hd : decode cc pc = .ok (.getfield 23, 3)) (kk : W p l e R s m args below meth c H locs cells slots Q (F0 m (pc + 3) ls (.ref (ad_ w 3 i) :: rest))) : W p l e R s m args below meth c H locs cells slots Q (F0 m pc ls (.ref (ad_ w 0 i) :: rest)) :=
  rg_get (k := 0) (T := TX4) (N := 10) cx.1 cx.2.1 cx.2.2.2.2.1 inX4 cx.2.2.2.1 cx.2.2.2.2.2.1 hW hi rfl rfl 2 (by decide) (cx.2.2.2.2.1 _ nw_80) rfl hd kk
theorem gf_X4_26 (cx : Cx_ p s m c args cc nL "MarginHouse" w) (hW : Hd_ w a H) (hi : i < 1) (hd : decode cc pc = .ok (.getfield 26, 3)) (kk : W p l e R s m args below meth c H locs cells slots Q (F0 m (pc + 3) ls (.ref (ad_ w 4 i) :: rest))) : W p l e R s m args below meth c H locs cells slots Q (F0 m pc ls (.ref (ad_ w 0 i) :: rest)) :=
  rg_get (k := 0) (T := TX4) (N := 10) cx.1 cx.2.1 cx.2.2.2.2.1 inX4 cx.2.2.2.1 cx.2.2.2.2.2.1 hW hi rfl rfl 3 (by decide) (cx.2.2.2.2.1 _ nw_81) rfl hd kk
theorem gf_X4_33 (cx : Cx_ p s m c args cc nL "MarginHouse" w) (hW : Hd_ w a H) (hi : i < 1) (hd : decode cc pc = .ok (.getfield 33, 3)) (kk : W p l e R s m args below meth c H locs cells slots Q (F0 m (pc + 3) ls (.ref (ad_ w 5 i) :: rest))) : W p l e R s m args below meth c H locs cells slots Q (F0 m pc ls (.ref (ad_ w 0 i) :: rest)) :=
  rg_get (k := 0) (T := TX4) (N := 10) cx.1 cx.2.1 cx.2.2.2.2.1 inX4 cx.2.2.2.1 cx.2.2.2.2.2.1 hW hi rfl rfl 4 (by decide) (cx.2.2.2.2.1 _ nw_82) rfl hd kk
theorem gf_X4_37 (cx : Cx_ p s m c args cc nL "MarginHouse" w) (hW : Hd_ w a H) (hi : i < 1) (hd : decode cc pc = .ok (.getfield 37, 3)) (kk : W p l e R s m args below meth c H locs cells slots Q (F0 m (pc + 3) ls (.int (gi_ a 0 i 0) :: rest))) : W p l e R s m args below meth c H locs cells slots Q (F0 m pc ls (.ref (ad_ w 0 i) :: rest)) :=
  rg_get (k := 0) (T := TX4) (N := 10) cx.1 cx.2.1 cx.2.2.2.2.1 inX4 cx.2.2.2.1 cx.2.2.2.2.2.1 hW hi rfl rfl 5 (by decide) (cx.2.2.2.2.1 _ nw_83) rfl hd kk
theorem pf_X4_37 {x : Int32} (cx : Cx_ p s m c args cc nL "MarginHouse" w) (hW : Hd_ w a H) (hS : Fr_ w s.heap H locs) (hi : i < 1) (hd : decode cc pc = .ok (.putfield 37, 3)) (kk : ∀ (H1 : Heap) (locs1 : List Loc), Hd_ w (si_ a 0 i 0 x) H1 → Fr_ w s.heap H1 locs1 → W p l e R s m args below meth c H1 locs1 cells slots Q (F0 m (pc + 3) ls rest)) : W p l e R s m args below meth c H locs cells slots Q (F0 m pc ls (.int x :: .ref (ad_ w 0 i) :: rest)) :=
  rg_put (k := 0) (a' := si_ a 0 i 0 x) (T := TX4) (N := 10) (ty := .int) cx.1 cx.2.1 cx.2.2.2.2.1 inX4 tyX4 tyX4_ok nmX4 cx.2.2.2.1 cx.2.2.2.2.2.1 cx.2.2.2.2.2.2.1 hW hS hi rfl rfl 5 (by decide) (cx.2.2.2.2.1 _ nw_83) rfl (by decide +kernel) rfl rfl (Nat.le_of_ble_eq_true rfl) (by simp [en_, gi_si, gl_si, gi_sl, gl_sl]) (fun k' i' h => en_si w a 0 i 0 x k' i' h) hd kk
theorem gf_X4_41 (cx : Cx_ p s m c args cc nL "MarginHouse" w) (hW : Hd_ w a H) (hi : i < 1) (hd : decode cc pc = .ok (.getfield 41, 3)) (kk : W p l e R s m args below meth c H locs cells slots Q (F0 m (pc + 3) ls (.int (gi_ a 1 i 0) :: rest))) : W p l e R s m args below meth c H locs cells slots Q (F0 m pc ls (.ref (ad_ w 0 i) :: rest)) :=
  rg_get (k := 0) (T := TX4) (N := 10) cx.1 cx.2.1 cx.2.2.2.2.1 inX4 cx.2.2.2.1 cx.2.2.2.2.2.1 hW hi rfl rfl 6 (by decide) (cx.2.2.2.2.1 _ nw_84) rfl hd kk
theorem pf_X4_41 {x : Int32} (cx : Cx_ p s m c args cc nL "MarginHouse" w) (hW : Hd_ w a H) (hS : Fr_ w s.heap H locs) (hi : i < 1) (hd : decode cc pc = .ok (.putfield 41, 3)) (kk : ∀ (H1 : Heap) (locs1 : List Loc), Hd_ w (si_ a 1 i 0 x) H1 → Fr_ w s.heap H1 locs1 → W p l e R s m args below meth c H1 locs1 cells slots Q (F0 m (pc + 3) ls rest)) : W p l e R s m args below meth c H locs cells slots Q (F0 m pc ls (.int x :: .ref (ad_ w 0 i) :: rest)) :=
  rg_put (k := 0) (a' := si_ a 1 i 0 x) (T := TX4) (N := 10) (ty := .int) cx.1 cx.2.1 cx.2.2.2.2.1 inX4 tyX4 tyX4_ok nmX4 cx.2.2.2.1 cx.2.2.2.2.2.1 cx.2.2.2.2.2.2.1 hW hS hi rfl rfl 6 (by decide) (cx.2.2.2.2.1 _ nw_84) rfl (by decide +kernel) rfl rfl (Nat.le_of_ble_eq_true rfl) (by simp [en_, gi_si, gl_si, gi_sl, gl_sl]) (fun k' i' h => en_si w a 1 i 0 x k' i' h) hd kk
theorem gf_X4_44 (cx : Cx_ p s m c args cc nL "MarginHouse" w) (hW : Hd_ w a H) (hi : i < 1) (hd : decode cc pc = .ok (.getfield 44, 3)) (kk : W p l e R s m args below meth c H locs cells slots Q (F0 m (pc + 3) ls (.int (gi_ a 2 i 0) :: rest))) : W p l e R s m args below meth c H locs cells slots Q (F0 m pc ls (.ref (ad_ w 0 i) :: rest)) :=
  rg_get (k := 0) (T := TX4) (N := 10) cx.1 cx.2.1 cx.2.2.2.2.1 inX4 cx.2.2.2.1 cx.2.2.2.2.2.1 hW hi rfl rfl 7 (by decide) (cx.2.2.2.2.1 _ nw_85) rfl hd kk
theorem pf_X4_44 {x : Int32} (cx : Cx_ p s m c args cc nL "MarginHouse" w) (hW : Hd_ w a H) (hS : Fr_ w s.heap H locs) (hi : i < 1) (hd : decode cc pc = .ok (.putfield 44, 3)) (kk : ∀ (H1 : Heap) (locs1 : List Loc), Hd_ w (si_ a 2 i 0 x) H1 → Fr_ w s.heap H1 locs1 → W p l e R s m args below meth c H1 locs1 cells slots Q (F0 m (pc + 3) ls rest)) : W p l e R s m args below meth c H locs cells slots Q (F0 m pc ls (.int x :: .ref (ad_ w 0 i) :: rest)) :=
  rg_put (k := 0) (a' := si_ a 2 i 0 x) (T := TX4) (N := 10) (ty := .int) cx.1 cx.2.1 cx.2.2.2.2.1 inX4 tyX4 tyX4_ok nmX4 cx.2.2.2.1 cx.2.2.2.2.2.1 cx.2.2.2.2.2.2.1 hW hS hi rfl rfl 7 (by decide) (cx.2.2.2.2.1 _ nw_85) rfl (by decide +kernel) rfl rfl (Nat.le_of_ble_eq_true rfl) (by simp [en_, gi_si, gl_si, gi_sl, gl_sl]) (fun k' i' h => en_si w a 2 i 0 x k' i' h) hd kk
theorem gf_X4_47 (cx : Cx_ p s m c args cc nL "MarginHouse" w) (hW : Hd_ w a H) (hi : i < 1) (hd : decode cc pc = .ok (.getfield 47, 3)) (kk : W p l e R s m args below meth c H locs cells slots Q (F0 m (pc + 3) ls (.long (gl_ a 0 i 0) :: rest))) : W p l e R s m args below meth c H locs cells slots Q (F0 m pc ls (.ref (ad_ w 0 i) :: rest)) :=
  rg_get (k := 0) (T := TX4) (N := 10) cx.1 cx.2.1 cx.2.2.2.2.1 inX4 cx.2.2.2.1 cx.2.2.2.2.2.1 hW hi rfl rfl 8 (by decide) (cx.2.2.2.2.1 _ nw_86) rfl hd kk
theorem pf_X4_47 {x : Int64} (cx : Cx_ p s m c args cc nL "MarginHouse" w) (hW : Hd_ w a H) (hS : Fr_ w s.heap H locs) (hi : i < 1) (hd : decode cc pc = .ok (.putfield 47, 3)) (kk : ∀ (H1 : Heap) (locs1 : List Loc), Hd_ w (sl_ a 0 i 0 x) H1 → Fr_ w s.heap H1 locs1 → W p l e R s m args below meth c H1 locs1 cells slots Q (F0 m (pc + 3) ls rest)) : W p l e R s m args below meth c H locs cells slots Q (F0 m pc ls (.long x :: .ref (ad_ w 0 i) :: rest)) :=
  rg_put (k := 0) (a' := sl_ a 0 i 0 x) (T := TX4) (N := 10) (ty := .long) cx.1 cx.2.1 cx.2.2.2.2.1 inX4 tyX4 tyX4_ok nmX4 cx.2.2.2.1 cx.2.2.2.2.2.1 cx.2.2.2.2.2.2.1 hW hS hi rfl rfl 8 (by decide) (cx.2.2.2.2.1 _ nw_86) rfl (by decide +kernel) rfl rfl (Nat.le_of_ble_eq_true rfl) (by simp [en_, gi_si, gl_si, gi_sl, gl_sl]) (fun k' i' h => en_sl w a 0 i 0 x k' i' h) hd kk
theorem gf_X4_51 (cx : Cx_ p s m c args cc nL "MarginHouse" w) (hW : Hd_ w a H) (hi : i < 1) (hd : decode cc pc = .ok (.getfield 51, 3)) (kk : W p l e R s m args below meth c H locs cells slots Q (F0 m (pc + 3) ls (.long (gl_ a 1 i 0) :: rest))) : W p l e R s m args below meth c H locs cells slots Q (F0 m pc ls (.ref (ad_ w 0 i) :: rest)) :=
  rg_get (k := 0) (T := TX4) (N := 10) cx.1 cx.2.1 cx.2.2.2.2.1 inX4 cx.2.2.2.1 cx.2.2.2.2.2.1 hW hi rfl rfl 9 (by decide) (cx.2.2.2.2.1 _ nw_87) rfl hd kk
theorem pf_X4_51 {x : Int64} (cx : Cx_ p s m c args cc nL "MarginHouse" w) (hW : Hd_ w a H) (hS : Fr_ w s.heap H locs) (hi : i < 1) (hd : decode cc pc = .ok (.putfield 51, 3)) (kk : ∀ (H1 : Heap) (locs1 : List Loc), Hd_ w (sl_ a 1 i 0 x) H1 → Fr_ w s.heap H1 locs1 → W p l e R s m args below meth c H1 locs1 cells slots Q (F0 m (pc + 3) ls rest)) : W p l e R s m args below meth c H locs cells slots Q (F0 m pc ls (.long x :: .ref (ad_ w 0 i) :: rest)) :=
  rg_put (k := 0) (a' := sl_ a 1 i 0 x) (T := TX4) (N := 10) (ty := .long) cx.1 cx.2.1 cx.2.2.2.2.1 inX4 tyX4 tyX4_ok nmX4 cx.2.2.2.1 cx.2.2.2.2.2.1 cx.2.2.2.2.2.2.1 hW hS hi rfl rfl 9 (by decide) (cx.2.2.2.2.1 _ nw_87) rfl (by decide +kernel) rfl rfl (Nat.le_of_ble_eq_true rfl) (by simp [en_, gi_si, gl_si, gi_sl, gl_sl]) (fun k' i' h => en_sl w a 1 i 0 x k' i' h) hd kk
theorem gf_X5_62 (cx : Cx_ p s m c args cc nL "MarginHouseModel" w) (hW : Hd_ w a H) (hi : i < 1) (hd : decode cc pc = .ok (.getfield 62, 3)) (kk : W p l e R s m args below meth c H locs cells slots Q (F0 m (pc + 3) ls (.int (gi_ a 20 i 0) :: rest))) : W p l e R s m args below meth c H locs cells slots Q (F0 m pc ls (.ref (ad_ w 20 i) :: rest)) :=
  rg_get (k := 20) (T := TX5) (N := 24) cx.1 cx.2.1 cx.2.2.2.2.1 inX5 cx.2.2.2.1 cx.2.2.2.2.2.1 hW hi rfl rfl 0 (by decide) (cx.2.2.2.2.1 _ nw_372) rfl hd kk
theorem pf_X5_62 {x : Int32} (cx : Cx_ p s m c args cc nL "MarginHouseModel" w) (hW : Hd_ w a H) (hS : Fr_ w s.heap H locs) (hi : i < 1) (hd : decode cc pc = .ok (.putfield 62, 3)) (kk : ∀ (H1 : Heap) (locs1 : List Loc), Hd_ w (si_ a 20 i 0 x) H1 → Fr_ w s.heap H1 locs1 → W p l e R s m args below meth c H1 locs1 cells slots Q (F0 m (pc + 3) ls rest)) : W p l e R s m args below meth c H locs cells slots Q (F0 m pc ls (.int x :: .ref (ad_ w 20 i) :: rest)) :=
  rg_put (k := 20) (a' := si_ a 20 i 0 x) (T := TX5) (N := 24) (ty := .int) cx.1 cx.2.1 cx.2.2.2.2.1 inX5 tyX5 tyX5_ok nmX5 cx.2.2.2.1 cx.2.2.2.2.2.1 cx.2.2.2.2.2.2.1 hW hS hi rfl rfl 0 (by decide) (cx.2.2.2.2.1 _ nw_372) rfl (by decide +kernel) rfl rfl (Nat.le_of_ble_eq_true rfl) (by simp [en_, gi_si, gl_si, gi_sl, gl_sl]) (fun k' i' h => en_si w a 20 i 0 x k' i' h) hd kk
theorem gf_X5_66 (cx : Cx_ p s m c args cc nL "MarginHouseModel" w) (hW : Hd_ w a H) (hi : i < 1) (hd : decode cc pc = .ok (.getfield 66, 3)) (kk : W p l e R s m args below meth c H locs cells slots Q (F0 m (pc + 3) ls (.int (gi_ a 21 i 0) :: rest))) : W p l e R s m args below meth c H locs cells slots Q (F0 m pc ls (.ref (ad_ w 20 i) :: rest)) :=
  rg_get (k := 20) (T := TX5) (N := 24) cx.1 cx.2.1 cx.2.2.2.2.1 inX5 cx.2.2.2.1 cx.2.2.2.2.2.1 hW hi rfl rfl 1 (by decide) (cx.2.2.2.2.1 _ nw_373) rfl hd kk
theorem pf_X5_66 {x : Int32} (cx : Cx_ p s m c args cc nL "MarginHouseModel" w) (hW : Hd_ w a H) (hS : Fr_ w s.heap H locs) (hi : i < 1) (hd : decode cc pc = .ok (.putfield 66, 3)) (kk : ∀ (H1 : Heap) (locs1 : List Loc), Hd_ w (si_ a 21 i 0 x) H1 → Fr_ w s.heap H1 locs1 → W p l e R s m args below meth c H1 locs1 cells slots Q (F0 m (pc + 3) ls rest)) : W p l e R s m args below meth c H locs cells slots Q (F0 m pc ls (.int x :: .ref (ad_ w 20 i) :: rest)) :=
  rg_put (k := 20) (a' := si_ a 21 i 0 x) (T := TX5) (N := 24) (ty := .int) cx.1 cx.2.1 cx.2.2.2.2.1 inX5 tyX5 tyX5_ok nmX5 cx.2.2.2.1 cx.2.2.2.2.2.1 cx.2.2.2.2.2.2.1 hW hS hi rfl rfl 1 (by decide) (cx.2.2.2.2.1 _ nw_373) rfl (by decide +kernel) rfl rfl (Nat.le_of_ble_eq_true rfl) (by simp [en_, gi_si, gl_si, gi_sl, gl_sl]) (fun k' i' h => en_si w a 21 i 0 x k' i' h) hd kk
theorem gf_X5_69 (cx : Cx_ p s m c args cc nL "MarginHouseModel" w) (hW : Hd_ w a H) (hi : i < 1) (hd : decode cc pc = .ok (.getfield 69, 3)) (kk : W p l e R s m args below meth c H locs cells slots Q (F0 m (pc + 3) ls (.int (gi_ a 22 i 0) :: rest))) : W p l e R s m args below meth c H locs cells slots Q (F0 m pc ls (.ref (ad_ w 20 i) :: rest)) :=
  rg_get (k := 20) (T := TX5) (N := 24) cx.1 cx.2.1 cx.2.2.2.2.1 inX5 cx.2.2.2.1 cx.2.2.2.2.2.1 hW hi rfl rfl 2 (by decide) (cx.2.2.2.2.1 _ nw_374) rfl hd kk
theorem pf_X5_69 {x : Int32} (cx : Cx_ p s m c args cc nL "MarginHouseModel" w) (hW : Hd_ w a H) (hS : Fr_ w s.heap H locs) (hi : i < 1) (hd : decode cc pc = .ok (.putfield 69, 3)) (kk : ∀ (H1 : Heap) (locs1 : List Loc), Hd_ w (si_ a 22 i 0 x) H1 → Fr_ w s.heap H1 locs1 → W p l e R s m args below meth c H1 locs1 cells slots Q (F0 m (pc + 3) ls rest)) : W p l e R s m args below meth c H locs cells slots Q (F0 m pc ls (.int x :: .ref (ad_ w 20 i) :: rest)) :=
  rg_put (k := 20) (a' := si_ a 22 i 0 x) (T := TX5) (N := 24) (ty := .int) cx.1 cx.2.1 cx.2.2.2.2.1 inX5 tyX5 tyX5_ok nmX5 cx.2.2.2.1 cx.2.2.2.2.2.1 cx.2.2.2.2.2.2.1 hW hS hi rfl rfl 2 (by decide) (cx.2.2.2.2.1 _ nw_374) rfl (by decide +kernel) rfl rfl (Nat.le_of_ble_eq_true rfl) (by simp [en_, gi_si, gl_si, gi_sl, gl_sl]) (fun k' i' h => en_si w a 22 i 0 x k' i' h) hd kk
theorem gf_X5_7 (cx : Cx_ p s m c args cc nL "MarginHouseModel" w) (hW : Hd_ w a H) (hi : i < 1) (hd : decode cc pc = .ok (.getfield 7, 3)) (kk : W p l e R s m args below meth c H locs cells slots Q (F0 m (pc + 3) ls (.ref (ad_ w 21 i) :: rest))) : W p l e R s m args below meth c H locs cells slots Q (F0 m pc ls (.ref (ad_ w 20 i) :: rest)) :=
  rg_get (k := 20) (T := TX5) (N := 24) cx.1 cx.2.1 cx.2.2.2.2.1 inX5 cx.2.2.2.1 cx.2.2.2.2.2.1 hW hi rfl rfl 3 (by decide) (cx.2.2.2.2.1 _ nw_375) rfl hd kk
theorem gf_X5_13 (cx : Cx_ p s m c args cc nL "MarginHouseModel" w) (hW : Hd_ w a H) (hi : i < 1) (hd : decode cc pc = .ok (.getfield 13, 3)) (kk : W p l e R s m args below meth c H locs cells slots Q (F0 m (pc + 3) ls (.ref (ad_ w 22 i) :: rest))) : W p l e R s m args below meth c H locs cells slots Q (F0 m pc ls (.ref (ad_ w 20 i) :: rest)) :=
  rg_get (k := 20) (T := TX5) (N := 24) cx.1 cx.2.1 cx.2.2.2.2.1 inX5 cx.2.2.2.1 cx.2.2.2.2.2.1 hW hi rfl rfl 4 (by decide) (cx.2.2.2.2.1 _ nw_376) rfl hd kk
theorem gf_X5_16 (cx : Cx_ p s m c args cc nL "MarginHouseModel" w) (hW : Hd_ w a H) (hi : i < 1) (hd : decode cc pc = .ok (.getfield 16, 3)) (kk : W p l e R s m args below meth c H locs cells slots Q (F0 m (pc + 3) ls (.ref (ad_ w 23 i) :: rest))) : W p l e R s m args below meth c H locs cells slots Q (F0 m pc ls (.ref (ad_ w 20 i) :: rest)) :=
  rg_get (k := 20) (T := TX5) (N := 24) cx.1 cx.2.1 cx.2.2.2.2.1 inX5 cx.2.2.2.1 cx.2.2.2.2.2.1 hW hi rfl rfl 5 (by decide) (cx.2.2.2.2.1 _ nw_377) rfl hd kk
theorem gf_X5_20 (cx : Cx_ p s m c args cc nL "MarginHouseModel" w) (hW : Hd_ w a H) (hi : i < 1) (hd : decode cc pc = .ok (.getfield 20, 3)) (kk : W p l e R s m args below meth c H locs cells slots Q (F0 m (pc + 3) ls (.ref (ad_ w 24 i) :: rest))) : W p l e R s m args below meth c H locs cells slots Q (F0 m pc ls (.ref (ad_ w 20 i) :: rest)) :=
  rg_get (k := 20) (T := TX5) (N := 24) cx.1 cx.2.1 cx.2.2.2.2.1 inX5 cx.2.2.2.1 cx.2.2.2.2.2.1 hW hi rfl rfl 6 (by decide) (cx.2.2.2.2.1 _ nw_378) rfl hd kk
theorem gf_X5_23 (cx : Cx_ p s m c args cc nL "MarginHouseModel" w) (hW : Hd_ w a H) (hi : i < 1) (hd : decode cc pc = .ok (.getfield 23, 3)) (kk : W p l e R s m args below meth c H locs cells slots Q (F0 m (pc + 3) ls (.ref (ad_ w 25 i) :: rest))) : W p l e R s m args below meth c H locs cells slots Q (F0 m pc ls (.ref (ad_ w 20 i) :: rest)) :=
  rg_get (k := 20) (T := TX5) (N := 24) cx.1 cx.2.1 cx.2.2.2.2.1 inX5 cx.2.2.2.1 cx.2.2.2.2.2.1 hW hi rfl rfl 7 (by decide) (cx.2.2.2.2.1 _ nw_379) rfl hd kk
theorem gf_X5_26 (cx : Cx_ p s m c args cc nL "MarginHouseModel" w) (hW : Hd_ w a H) (hi : i < 1) (hd : decode cc pc = .ok (.getfield 26, 3)) (kk : W p l e R s m args below meth c H locs cells slots Q (F0 m (pc + 3) ls (.ref (ad_ w 26 i) :: rest))) : W p l e R s m args below meth c H locs cells slots Q (F0 m pc ls (.ref (ad_ w 20 i) :: rest)) :=
  rg_get (k := 20) (T := TX5) (N := 24) cx.1 cx.2.1 cx.2.2.2.2.1 inX5 cx.2.2.2.1 cx.2.2.2.2.2.1 hW hi rfl rfl 8 (by decide) (cx.2.2.2.2.1 _ nw_380) rfl hd kk
theorem gf_X5_29 (cx : Cx_ p s m c args cc nL "MarginHouseModel" w) (hW : Hd_ w a H) (hi : i < 1) (hd : decode cc pc = .ok (.getfield 29, 3)) (kk : W p l e R s m args below meth c H locs cells slots Q (F0 m (pc + 3) ls (.ref (ad_ w 27 i) :: rest))) : W p l e R s m args below meth c H locs cells slots Q (F0 m pc ls (.ref (ad_ w 20 i) :: rest)) :=
  rg_get (k := 20) (T := TX5) (N := 24) cx.1 cx.2.1 cx.2.2.2.2.1 inX5 cx.2.2.2.1 cx.2.2.2.2.2.1 hW hi rfl rfl 9 (by decide) (cx.2.2.2.2.1 _ nw_381) rfl hd kk
theorem gf_X5_32 (cx : Cx_ p s m c args cc nL "MarginHouseModel" w) (hW : Hd_ w a H) (hi : i < 1) (hd : decode cc pc = .ok (.getfield 32, 3)) (kk : W p l e R s m args below meth c H locs cells slots Q (F0 m (pc + 3) ls (.ref (ad_ w 28 i) :: rest))) : W p l e R s m args below meth c H locs cells slots Q (F0 m pc ls (.ref (ad_ w 20 i) :: rest)) :=
  rg_get (k := 20) (T := TX5) (N := 24) cx.1 cx.2.1 cx.2.2.2.2.1 inX5 cx.2.2.2.1 cx.2.2.2.2.2.1 hW hi rfl rfl 10 (by decide) (cx.2.2.2.2.1 _ nw_382) rfl hd kk
theorem gf_X5_35 (cx : Cx_ p s m c args cc nL "MarginHouseModel" w) (hW : Hd_ w a H) (hi : i < 1) (hd : decode cc pc = .ok (.getfield 35, 3)) (kk : W p l e R s m args below meth c H locs cells slots Q (F0 m (pc + 3) ls (.ref (ad_ w 29 i) :: rest))) : W p l e R s m args below meth c H locs cells slots Q (F0 m pc ls (.ref (ad_ w 20 i) :: rest)) :=
  rg_get (k := 20) (T := TX5) (N := 24) cx.1 cx.2.1 cx.2.2.2.2.1 inX5 cx.2.2.2.1 cx.2.2.2.2.2.1 hW hi rfl rfl 11 (by decide) (cx.2.2.2.2.1 _ nw_383) rfl hd kk
theorem gf_X5_84 (cx : Cx_ p s m c args cc nL "MarginHouseModel" w) (hW : Hd_ w a H) (hi : i < 1) (hd : decode cc pc = .ok (.getfield 84, 3)) (kk : W p l e R s m args below meth c H locs cells slots Q (F0 m (pc + 3) ls (.long (gl_ a 22 i 0) :: rest))) : W p l e R s m args below meth c H locs cells slots Q (F0 m pc ls (.ref (ad_ w 20 i) :: rest)) :=
  rg_get (k := 20) (T := TX5) (N := 24) cx.1 cx.2.1 cx.2.2.2.2.1 inX5 cx.2.2.2.1 cx.2.2.2.2.2.1 hW hi rfl rfl 12 (by decide) (cx.2.2.2.2.1 _ nw_384) rfl hd kk
theorem pf_X5_84 {x : Int64} (cx : Cx_ p s m c args cc nL "MarginHouseModel" w) (hW : Hd_ w a H) (hS : Fr_ w s.heap H locs) (hi : i < 1) (hd : decode cc pc = .ok (.putfield 84, 3)) (kk : ∀ (H1 : Heap) (locs1 : List Loc), Hd_ w (sl_ a 22 i 0 x) H1 → Fr_ w s.heap H1 locs1 → W p l e R s m args below meth c H1 locs1 cells slots Q (F0 m (pc + 3) ls rest)) : W p l e R s m args below meth c H locs cells slots Q (F0 m pc ls (.long x :: .ref (ad_ w 20 i) :: rest)) :=
  rg_put (k := 20) (a' := sl_ a 22 i 0 x) (T := TX5) (N := 24) (ty := .long) cx.1 cx.2.1 cx.2.2.2.2.1 inX5 tyX5 tyX5_ok nmX5 cx.2.2.2.1 cx.2.2.2.2.2.1 cx.2.2.2.2.2.2.1 hW hS hi rfl rfl 12 (by decide) (cx.2.2.2.2.1 _ nw_384) rfl (by decide +kernel) rfl rfl (Nat.le_of_ble_eq_true rfl) (by simp [en_, gi_si, gl_si, gi_sl, gl_sl]) (fun k' i' h => en_sl w a 22 i 0 x k' i' h) hd kk
theorem gf_X5_149 (cx : Cx_ p s m c args cc nL "MarginHouseModel" w) (hW : Hd_ w a H) (hi : i < 1) (hd : decode cc pc = .ok (.getfield 149, 3)) (kk : W p l e R s m args below meth c H locs cells slots Q (F0 m (pc + 3) ls (.long (gl_ a 23 i 0) :: rest))) : W p l e R s m args below meth c H locs cells slots Q (F0 m pc ls (.ref (ad_ w 20 i) :: rest)) :=
  rg_get (k := 20) (T := TX5) (N := 24) cx.1 cx.2.1 cx.2.2.2.2.1 inX5 cx.2.2.2.1 cx.2.2.2.2.2.1 hW hi rfl rfl 13 (by decide) (cx.2.2.2.2.1 _ nw_385) rfl hd kk
theorem pf_X5_149 {x : Int64} (cx : Cx_ p s m c args cc nL "MarginHouseModel" w) (hW : Hd_ w a H) (hS : Fr_ w s.heap H locs) (hi : i < 1) (hd : decode cc pc = .ok (.putfield 149, 3)) (kk : ∀ (H1 : Heap) (locs1 : List Loc), Hd_ w (sl_ a 23 i 0 x) H1 → Fr_ w s.heap H1 locs1 → W p l e R s m args below meth c H1 locs1 cells slots Q (F0 m (pc + 3) ls rest)) : W p l e R s m args below meth c H locs cells slots Q (F0 m pc ls (.long x :: .ref (ad_ w 20 i) :: rest)) :=
  rg_put (k := 20) (a' := sl_ a 23 i 0 x) (T := TX5) (N := 24) (ty := .long) cx.1 cx.2.1 cx.2.2.2.2.1 inX5 tyX5 tyX5_ok nmX5 cx.2.2.2.1 cx.2.2.2.2.2.1 cx.2.2.2.2.2.2.1 hW hS hi rfl rfl 13 (by decide) (cx.2.2.2.2.1 _ nw_385) rfl (by decide +kernel) rfl rfl (Nat.le_of_ble_eq_true rfl) (by simp [en_, gi_si, gl_si, gi_sl, gl_sl]) (fun k' i' h => en_sl w a 23 i 0 x k' i' h) hd kk
theorem gf_X5_111 (cx : Cx_ p s m c args cc nL "MarginHouseModel" w) (hW : Hd_ w a H) (hi : i < 1) (hd : decode cc pc = .ok (.getfield 111, 3)) (kk : W p l e R s m args below meth c H locs cells slots Q (F0 m (pc + 3) ls (.long (gl_ a 24 i 0) :: rest))) : W p l e R s m args below meth c H locs cells slots Q (F0 m pc ls (.ref (ad_ w 20 i) :: rest)) :=
  rg_get (k := 20) (T := TX5) (N := 24) cx.1 cx.2.1 cx.2.2.2.2.1 inX5 cx.2.2.2.1 cx.2.2.2.2.2.1 hW hi rfl rfl 14 (by decide) (cx.2.2.2.2.1 _ nw_386) rfl hd kk
theorem pf_X5_111 {x : Int64} (cx : Cx_ p s m c args cc nL "MarginHouseModel" w) (hW : Hd_ w a H) (hS : Fr_ w s.heap H locs) (hi : i < 1) (hd : decode cc pc = .ok (.putfield 111, 3)) (kk : ∀ (H1 : Heap) (locs1 : List Loc), Hd_ w (sl_ a 24 i 0 x) H1 → Fr_ w s.heap H1 locs1 → W p l e R s m args below meth c H1 locs1 cells slots Q (F0 m (pc + 3) ls rest)) : W p l e R s m args below meth c H locs cells slots Q (F0 m pc ls (.long x :: .ref (ad_ w 20 i) :: rest)) :=
  rg_put (k := 20) (a' := sl_ a 24 i 0 x) (T := TX5) (N := 24) (ty := .long) cx.1 cx.2.1 cx.2.2.2.2.1 inX5 tyX5 tyX5_ok nmX5 cx.2.2.2.1 cx.2.2.2.2.2.1 cx.2.2.2.2.2.2.1 hW hS hi rfl rfl 14 (by decide) (cx.2.2.2.2.1 _ nw_386) rfl (by decide +kernel) rfl rfl (Nat.le_of_ble_eq_true rfl) (by simp [en_, gi_si, gl_si, gi_sl, gl_sl]) (fun k' i' h => en_sl w a 24 i 0 x k' i' h) hd kk
theorem gf_X5_38 (cx : Cx_ p s m c args cc nL "MarginHouseModel" w) (hW : Hd_ w a H) (hi : i < 1) (hd : decode cc pc = .ok (.getfield 38, 3)) (kk : W p l e R s m args below meth c H locs cells slots Q (F0 m (pc + 3) ls (.ref (ad_ w 30 i) :: rest))) : W p l e R s m args below meth c H locs cells slots Q (F0 m pc ls (.ref (ad_ w 20 i) :: rest)) :=
  rg_get (k := 20) (T := TX5) (N := 24) cx.1 cx.2.1 cx.2.2.2.2.1 inX5 cx.2.2.2.1 cx.2.2.2.2.2.1 hW hi rfl rfl 15 (by decide) (cx.2.2.2.2.1 _ nw_387) rfl hd kk
theorem gf_X5_41 (cx : Cx_ p s m c args cc nL "MarginHouseModel" w) (hW : Hd_ w a H) (hi : i < 1) (hd : decode cc pc = .ok (.getfield 41, 3)) (kk : W p l e R s m args below meth c H locs cells slots Q (F0 m (pc + 3) ls (.ref (ad_ w 31 i) :: rest))) : W p l e R s m args below meth c H locs cells slots Q (F0 m pc ls (.ref (ad_ w 20 i) :: rest)) :=
  rg_get (k := 20) (T := TX5) (N := 24) cx.1 cx.2.1 cx.2.2.2.2.1 inX5 cx.2.2.2.1 cx.2.2.2.2.2.1 hW hi rfl rfl 16 (by decide) (cx.2.2.2.2.1 _ nw_388) rfl hd kk
theorem gf_X5_44 (cx : Cx_ p s m c args cc nL "MarginHouseModel" w) (hW : Hd_ w a H) (hi : i < 1) (hd : decode cc pc = .ok (.getfield 44, 3)) (kk : W p l e R s m args below meth c H locs cells slots Q (F0 m (pc + 3) ls (.ref (ad_ w 32 i) :: rest))) : W p l e R s m args below meth c H locs cells slots Q (F0 m pc ls (.ref (ad_ w 20 i) :: rest)) :=
  rg_get (k := 20) (T := TX5) (N := 24) cx.1 cx.2.1 cx.2.2.2.2.1 inX5 cx.2.2.2.1 cx.2.2.2.2.2.1 hW hi rfl rfl 17 (by decide) (cx.2.2.2.2.1 _ nw_389) rfl hd kk
theorem gf_X5_47 (cx : Cx_ p s m c args cc nL "MarginHouseModel" w) (hW : Hd_ w a H) (hi : i < 1) (hd : decode cc pc = .ok (.getfield 47, 3)) (kk : W p l e R s m args below meth c H locs cells slots Q (F0 m (pc + 3) ls (.ref (ad_ w 33 i) :: rest))) : W p l e R s m args below meth c H locs cells slots Q (F0 m pc ls (.ref (ad_ w 20 i) :: rest)) :=
  rg_get (k := 20) (T := TX5) (N := 24) cx.1 cx.2.1 cx.2.2.2.2.1 inX5 cx.2.2.2.1 cx.2.2.2.2.2.1 hW hi rfl rfl 18 (by decide) (cx.2.2.2.2.1 _ nw_390) rfl hd kk
theorem gf_X5_50 (cx : Cx_ p s m c args cc nL "MarginHouseModel" w) (hW : Hd_ w a H) (hi : i < 1) (hd : decode cc pc = .ok (.getfield 50, 3)) (kk : W p l e R s m args below meth c H locs cells slots Q (F0 m (pc + 3) ls (.ref (ad_ w 34 i) :: rest))) : W p l e R s m args below meth c H locs cells slots Q (F0 m pc ls (.ref (ad_ w 20 i) :: rest)) :=
  rg_get (k := 20) (T := TX5) (N := 24) cx.1 cx.2.1 cx.2.2.2.2.1 inX5 cx.2.2.2.1 cx.2.2.2.2.2.1 hW hi rfl rfl 19 (by decide) (cx.2.2.2.2.1 _ nw_391) rfl hd kk
theorem gf_X5_53 (cx : Cx_ p s m c args cc nL "MarginHouseModel" w) (hW : Hd_ w a H) (hi : i < 1) (hd : decode cc pc = .ok (.getfield 53, 3)) (kk : W p l e R s m args below meth c H locs cells slots Q (F0 m (pc + 3) ls (.ref (ad_ w 35 i) :: rest))) : W p l e R s m args below meth c H locs cells slots Q (F0 m pc ls (.ref (ad_ w 20 i) :: rest)) :=
  rg_get (k := 20) (T := TX5) (N := 24) cx.1 cx.2.1 cx.2.2.2.2.1 inX5 cx.2.2.2.1 cx.2.2.2.2.2.1 hW hi rfl rfl 20 (by decide) (cx.2.2.2.2.1 _ nw_392) rfl hd kk
theorem gf_X5_56 (cx : Cx_ p s m c args cc nL "MarginHouseModel" w) (hW : Hd_ w a H) (hi : i < 1) (hd : decode cc pc = .ok (.getfield 56, 3)) (kk : W p l e R s m args below meth c H locs cells slots Q (F0 m (pc + 3) ls (.ref (ad_ w 36 i) :: rest))) : W p l e R s m args below meth c H locs cells slots Q (F0 m pc ls (.ref (ad_ w 20 i) :: rest)) :=
  rg_get (k := 20) (T := TX5) (N := 24) cx.1 cx.2.1 cx.2.2.2.2.1 inX5 cx.2.2.2.1 cx.2.2.2.2.2.1 hW hi rfl rfl 21 (by decide) (cx.2.2.2.2.1 _ nw_393) rfl hd kk
theorem gf_X5_59 (cx : Cx_ p s m c args cc nL "MarginHouseModel" w) (hW : Hd_ w a H) (hi : i < 1) (hd : decode cc pc = .ok (.getfield 59, 3)) (kk : W p l e R s m args below meth c H locs cells slots Q (F0 m (pc + 3) ls (.ref (ad_ w 37 i) :: rest))) : W p l e R s m args below meth c H locs cells slots Q (F0 m pc ls (.ref (ad_ w 20 i) :: rest)) :=
  rg_get (k := 20) (T := TX5) (N := 24) cx.1 cx.2.1 cx.2.2.2.2.1 inX5 cx.2.2.2.1 cx.2.2.2.2.2.1 hW hi rfl rfl 22 (by decide) (cx.2.2.2.2.1 _ nw_394) rfl hd kk
theorem gf_X5_117 (cx : Cx_ p s m c args cc nL "MarginHouseModel" w) (hW : Hd_ w a H) (hi : i < 1) (hd : decode cc pc = .ok (.getfield 117, 3)) (kk : W p l e R s m args below meth c H locs cells slots Q (F0 m (pc + 3) ls (.int (gi_ a 31 i 0) :: rest))) : W p l e R s m args below meth c H locs cells slots Q (F0 m pc ls (.ref (ad_ w 20 i) :: rest)) :=
  rg_get (k := 20) (T := TX5) (N := 24) cx.1 cx.2.1 cx.2.2.2.2.1 inX5 cx.2.2.2.1 cx.2.2.2.2.2.1 hW hi rfl rfl 23 (by decide) (cx.2.2.2.2.1 _ nw_395) rfl hd kk
theorem pf_X5_117 {x : Int32} (cx : Cx_ p s m c args cc nL "MarginHouseModel" w) (hW : Hd_ w a H) (hS : Fr_ w s.heap H locs) (hi : i < 1) (hx01 : x = 0 ∨ x = 1) (hd : decode cc pc = .ok (.putfield 117, 3)) (kk : ∀ (H1 : Heap) (locs1 : List Loc), Hd_ w (si_ a 31 i 0 x) H1 → Fr_ w s.heap H1 locs1 → W p l e R s m args below meth c H1 locs1 cells slots Q (F0 m (pc + 3) ls rest)) : W p l e R s m args below meth c H locs cells slots Q (F0 m pc ls (.int x :: .ref (ad_ w 20 i) :: rest)) :=
  rg_put (k := 20) (a' := si_ a 31 i 0 x) (T := TX5) (N := 24) (ty := .boolean) cx.1 cx.2.1 cx.2.2.2.2.1 inX5 tyX5 tyX5_ok nmX5 cx.2.2.2.1 cx.2.2.2.2.2.1 cx.2.2.2.2.2.2.1 hW hS hi rfl rfl 23 (by decide) (cx.2.2.2.2.1 _ nw_395) rfl (by decide +kernel) (by rcases hx01 with rfl | rfl <;> rfl) (by rcases hx01 with rfl | rfl <;> rfl) (Nat.le_of_ble_eq_true rfl) (by simp [en_, gi_si, gl_si, gi_sl, gl_sl]) (fun k' i' h => en_si w a 31 i 0 x k' i' h) hd kk
theorem al_4 {x : Int32} {j : Nat} (cx : Cx_ p s m c args cc nL own w) (hW : Hd_ w a H) (hi : i < 1) (hxj : x = nI j) (hj : j < 5) (hd : decode cc pc = .ok (.laload, 1)) (kk : W p l e R s m args below meth c H locs cells slots Q (F0 m (pc + 1) ls (.long (gl_ a 4 i j) :: rest))) : W p l e R s m args below meth c H locs cells slots Q (F0 m pc ls (.int x :: .ref (ad_ w 4 i) :: rest)) :=
  rg_lald (k := 4) cx.1 cx.2.1 cx.2.2.2.2.2.1 hW hi rfl hxj hj (by decide) rfl hd kk
theorem as_4 {x : Int32} {y : Int64} {j : Nat} (cx : Cx_ p s m c args cc nL own w) (hW : Hd_ w a H) (hS : Fr_ w s.heap H locs) (hi : i < 1) (hxj : x = nI j) (hj : j < 5) (hd : decode cc pc = .ok (.lastore, 1)) (kk : ∀ (H1 : Heap) (locs1 : List Loc), Hd_ w (sl_ a 4 i j y) H1 → Fr_ w s.heap H1 locs1 → W p l e R s m args below meth c H1 locs1 cells slots Q (F0 m (pc + 1) ls rest)) : W p l e R s m args below meth c H locs cells slots Q (F0 m pc ls (.long y :: .int x :: .ref (ad_ w 4 i) :: rest)) := by
  have he : en_ w (sl_ a 4 i j y) 4 i = .inl (ca_ w 1, 5, .inr (.inl (vp_updL (fun q => gl_ a 4 i q) j y))) := by
    show (.inl (ca_ w 1, 5, .inr (.inl (fun q => gl_ (sl_ a 4 i j y) 4 i q))) : va_E) = .inl (ca_ w 1, 5, .inr (.inl (vp_updL (fun q => gl_ a 4 i q) j y)))
    have e : (fun q => gl_ (sl_ a 4 i j y) 4 i q) = vp_updL (fun q => gl_ a 4 i q) j y := by funext q; simp [gi_si, gl_sl, upd, vp_updL]
    rw [e]
  exact rg_last (k := 4) (a' := sl_ a 4 i j y) cx.1 cx.2.1 cx.2.2.2.2.2.1 cx.2.2.2.2.2.2.1 hW hS hi rfl hxj hj (by decide) he (fun k' i' h => en_sl w a 4 i j y k' i' h) hd kk
theorem al_7 {x : Int32} {j : Nat} (cx : Cx_ p s m c args cc nL own w) (hW : Hd_ w a H) (hi : i < 8) (hxj : x = nI j) (hj : j < 6) (hd : decode cc pc = .ok (.iaload, 1)) (kk : W p l e R s m args below meth c H locs cells slots Q (F0 m (pc + 1) ls (.int (gi_ a 4 i j) :: rest))) : W p l e R s m args below meth c H locs cells slots Q (F0 m pc ls (.int x :: .ref (ad_ w 7 i) :: rest)) :=
  rg_iald (k := 7) cx.1 cx.2.1 cx.2.2.2.2.2.1 hW hi rfl hxj hj (by decide) rfl hd kk
theorem as_7 {x : Int32} {y : Int32} {j : Nat} (cx : Cx_ p s m c args cc nL own w) (hW : Hd_ w a H) (hS : Fr_ w s.heap H locs) (hi : i < 8) (hxj : x = nI j) (hj : j < 6) (hd : decode cc pc = .ok (.iastore, 1)) (kk : ∀ (H1 : Heap) (locs1 : List Loc), Hd_ w (si_ a 4 i j y) H1 → Fr_ w s.heap H1 locs1 → W p l e R s m args below meth c H1 locs1 cells slots Q (F0 m (pc + 1) ls rest)) : W p l e R s m args below meth c H locs cells slots Q (F0 m pc ls (.int y :: .int x :: .ref (ad_ w 7 i) :: rest)) := by
  have he : en_ w (si_ a 4 i j y) 7 i = .inl (ca_ w 0, 6, .inl (upd (fun q => gi_ a 4 i q) j y)) := by
    show (.inl (ca_ w 0, 6, .inl (fun q => gi_ (si_ a 4 i j y) 4 i q)) : va_E) = .inl (ca_ w 0, 6, .inl (upd (fun q => gi_ a 4 i q) j y))
    have e : (fun q => gi_ (si_ a 4 i j y) 4 i q) = upd (fun q => gi_ a 4 i q) j y := by funext q; simp [gi_si, gl_sl, upd, vp_updL]
    rw [e]
  exact rg_iast (k := 7) (a' := si_ a 4 i j y) cx.1 cx.2.1 cx.2.2.2.2.2.1 cx.2.2.2.2.2.2.1 hW hS hi rfl hxj hj (by decide) he (fun k' i' h => en_si w a 4 i j y k' i' h) hd kk
theorem al_8 {x : Int32} {j : Nat} (cx : Cx_ p s m c args cc nL own w) (hW : Hd_ w a H) (hi : i < 8) (hxj : x = nI j) (hj : j < 6) (hd : decode cc pc = .ok (.iaload, 1)) (kk : W p l e R s m args below meth c H locs cells slots Q (F0 m (pc + 1) ls (.int (gi_ a 5 i j) :: rest))) : W p l e R s m args below meth c H locs cells slots Q (F0 m pc ls (.int x :: .ref (ad_ w 8 i) :: rest)) :=
  rg_iald (k := 8) cx.1 cx.2.1 cx.2.2.2.2.2.1 hW hi rfl hxj hj (by decide) rfl hd kk
theorem as_8 {x : Int32} {y : Int32} {j : Nat} (cx : Cx_ p s m c args cc nL own w) (hW : Hd_ w a H) (hS : Fr_ w s.heap H locs) (hi : i < 8) (hxj : x = nI j) (hj : j < 6) (hd : decode cc pc = .ok (.iastore, 1)) (kk : ∀ (H1 : Heap) (locs1 : List Loc), Hd_ w (si_ a 5 i j y) H1 → Fr_ w s.heap H1 locs1 → W p l e R s m args below meth c H1 locs1 cells slots Q (F0 m (pc + 1) ls rest)) : W p l e R s m args below meth c H locs cells slots Q (F0 m pc ls (.int y :: .int x :: .ref (ad_ w 8 i) :: rest)) := by
  have he : en_ w (si_ a 5 i j y) 8 i = .inl (ca_ w 0, 6, .inl (upd (fun q => gi_ a 5 i q) j y)) := by
    show (.inl (ca_ w 0, 6, .inl (fun q => gi_ (si_ a 5 i j y) 5 i q)) : va_E) = .inl (ca_ w 0, 6, .inl (upd (fun q => gi_ a 5 i q) j y))
    have e : (fun q => gi_ (si_ a 5 i j y) 5 i q) = upd (fun q => gi_ a 5 i q) j y := by funext q; simp [gi_si, gl_sl, upd, vp_updL]
    rw [e]
  exact rg_iast (k := 8) (a' := si_ a 5 i j y) cx.1 cx.2.1 cx.2.2.2.2.2.1 cx.2.2.2.2.2.2.1 hW hS hi rfl hxj hj (by decide) he (fun k' i' h => en_si w a 5 i j y k' i' h) hd kk
theorem al_10 {x : Int32} {j : Nat} (cx : Cx_ p s m c args cc nL own w) (hW : Hd_ w a H) (hi : i < 8) (hxj : x = nI j) (hj : j < 6) (hd : decode cc pc = .ok (.iaload, 1)) (kk : W p l e R s m args below meth c H locs cells slots Q (F0 m (pc + 1) ls (.int (gi_ a 9 i j) :: rest))) : W p l e R s m args below meth c H locs cells slots Q (F0 m pc ls (.int x :: .ref (ad_ w 10 i) :: rest)) :=
  rg_iald (k := 10) cx.1 cx.2.1 cx.2.2.2.2.2.1 hW hi rfl hxj hj (by decide) rfl hd kk
theorem as_10 {x : Int32} {y : Int32} {j : Nat} (cx : Cx_ p s m c args cc nL own w) (hW : Hd_ w a H) (hS : Fr_ w s.heap H locs) (hi : i < 8) (hxj : x = nI j) (hj : j < 6) (hd : decode cc pc = .ok (.iastore, 1)) (kk : ∀ (H1 : Heap) (locs1 : List Loc), Hd_ w (si_ a 9 i j y) H1 → Fr_ w s.heap H1 locs1 → W p l e R s m args below meth c H1 locs1 cells slots Q (F0 m (pc + 1) ls rest)) : W p l e R s m args below meth c H locs cells slots Q (F0 m pc ls (.int y :: .int x :: .ref (ad_ w 10 i) :: rest)) := by
  have he : en_ w (si_ a 9 i j y) 10 i = .inl (ca_ w 0, 6, .inl (upd (fun q => gi_ a 9 i q) j y)) := by
    show (.inl (ca_ w 0, 6, .inl (fun q => gi_ (si_ a 9 i j y) 9 i q)) : va_E) = .inl (ca_ w 0, 6, .inl (upd (fun q => gi_ a 9 i q) j y))
    have e : (fun q => gi_ (si_ a 9 i j y) 9 i q) = upd (fun q => gi_ a 9 i q) j y := by funext q; simp [gi_si, gl_sl, upd, vp_updL]
    rw [e]
  exact rg_iast (k := 10) (a' := si_ a 9 i j y) cx.1 cx.2.1 cx.2.2.2.2.2.1 cx.2.2.2.2.2.2.1 hW hS hi rfl hxj hj (by decide) he (fun k' i' h => en_si w a 9 i j y k' i' h) hd kk
theorem al_11 {x : Int32} {j : Nat} (cx : Cx_ p s m c args cc nL own w) (hW : Hd_ w a H) (hi : i < 1) (hxj : x = nI j) (hj : j < 6) (hd : decode cc pc = .ok (.iaload, 1)) (kk : W p l e R s m args below meth c H locs cells slots Q (F0 m (pc + 1) ls (.int (gi_ a 10 i j) :: rest))) : W p l e R s m args below meth c H locs cells slots Q (F0 m pc ls (.int x :: .ref (ad_ w 11 i) :: rest)) :=
  rg_iald (k := 11) cx.1 cx.2.1 cx.2.2.2.2.2.1 hW hi rfl hxj hj (by decide) rfl hd kk
theorem as_11 {x : Int32} {y : Int32} {j : Nat} (cx : Cx_ p s m c args cc nL own w) (hW : Hd_ w a H) (hS : Fr_ w s.heap H locs) (hi : i < 1) (hxj : x = nI j) (hj : j < 6) (hd : decode cc pc = .ok (.iastore, 1)) (kk : ∀ (H1 : Heap) (locs1 : List Loc), Hd_ w (si_ a 10 i j y) H1 → Fr_ w s.heap H1 locs1 → W p l e R s m args below meth c H1 locs1 cells slots Q (F0 m (pc + 1) ls rest)) : W p l e R s m args below meth c H locs cells slots Q (F0 m pc ls (.int y :: .int x :: .ref (ad_ w 11 i) :: rest)) := by
  have he : en_ w (si_ a 10 i j y) 11 i = .inl (ca_ w 0, 6, .inl (upd (fun q => gi_ a 10 i q) j y)) := by
    show (.inl (ca_ w 0, 6, .inl (fun q => gi_ (si_ a 10 i j y) 10 i q)) : va_E) = .inl (ca_ w 0, 6, .inl (upd (fun q => gi_ a 10 i q) j y))
    have e : (fun q => gi_ (si_ a 10 i j y) 10 i q) = upd (fun q => gi_ a 10 i q) j y := by funext q; simp [gi_si, gl_sl, upd, vp_updL]
    rw [e]
  exact rg_iast (k := 11) (a' := si_ a 10 i j y) cx.1 cx.2.1 cx.2.2.2.2.2.1 cx.2.2.2.2.2.2.1 hW hS hi rfl hxj hj (by decide) he (fun k' i' h => en_si w a 10 i j y k' i' h) hd kk
theorem al_12 {x : Int32} {j : Nat} (cx : Cx_ p s m c args cc nL own w) (hW : Hd_ w a H) (hi : i < 1) (hxj : x = nI j) (hj : j < 8) (hd : decode cc pc = .ok (.laload, 1)) (kk : W p l e R s m args below meth c H locs cells slots Q (F0 m (pc + 1) ls (.long (gl_ a 5 i j) :: rest))) : W p l e R s m args below meth c H locs cells slots Q (F0 m pc ls (.int x :: .ref (ad_ w 12 i) :: rest)) :=
  rg_lald (k := 12) cx.1 cx.2.1 cx.2.2.2.2.2.1 hW hi rfl hxj hj (by decide) rfl hd kk
theorem as_12 {x : Int32} {y : Int64} {j : Nat} (cx : Cx_ p s m c args cc nL own w) (hW : Hd_ w a H) (hS : Fr_ w s.heap H locs) (hi : i < 1) (hxj : x = nI j) (hj : j < 8) (hd : decode cc pc = .ok (.lastore, 1)) (kk : ∀ (H1 : Heap) (locs1 : List Loc), Hd_ w (sl_ a 5 i j y) H1 → Fr_ w s.heap H1 locs1 → W p l e R s m args below meth c H1 locs1 cells slots Q (F0 m (pc + 1) ls rest)) : W p l e R s m args below meth c H locs cells slots Q (F0 m pc ls (.long y :: .int x :: .ref (ad_ w 12 i) :: rest)) := by
  have he : en_ w (sl_ a 5 i j y) 12 i = .inl (ca_ w 1, 8, .inr (.inl (vp_updL (fun q => gl_ a 5 i q) j y))) := by
    show (.inl (ca_ w 1, 8, .inr (.inl (fun q => gl_ (sl_ a 5 i j y) 5 i q))) : va_E) = .inl (ca_ w 1, 8, .inr (.inl (vp_updL (fun q => gl_ a 5 i q) j y)))
    have e : (fun q => gl_ (sl_ a 5 i j y) 5 i q) = vp_updL (fun q => gl_ a 5 i q) j y := by funext q; simp [gi_si, gl_sl, upd, vp_updL]
    rw [e]
  exact rg_last (k := 12) (a' := sl_ a 5 i j y) cx.1 cx.2.1 cx.2.2.2.2.2.1 cx.2.2.2.2.2.2.1 hW hS hi rfl hxj hj (by decide) he (fun k' i' h => en_sl w a 5 i j y k' i' h) hd kk
theorem al_13 {x : Int32} {j : Nat} (cx : Cx_ p s m c args cc nL own w) (hW : Hd_ w a H) (hi : i < 1) (hxj : x = nI j) (hj : j < 8) (hd : decode cc pc = .ok (.laload, 1)) (kk : W p l e R s m args below meth c H locs cells slots Q (F0 m (pc + 1) ls (.long (gl_ a 6 i j) :: rest))) : W p l e R s m args below meth c H locs cells slots Q (F0 m pc ls (.int x :: .ref (ad_ w 13 i) :: rest)) :=
  rg_lald (k := 13) cx.1 cx.2.1 cx.2.2.2.2.2.1 hW hi rfl hxj hj (by decide) rfl hd kk
theorem as_13 {x : Int32} {y : Int64} {j : Nat} (cx : Cx_ p s m c args cc nL own w) (hW : Hd_ w a H) (hS : Fr_ w s.heap H locs) (hi : i < 1) (hxj : x = nI j) (hj : j < 8) (hd : decode cc pc = .ok (.lastore, 1)) (kk : ∀ (H1 : Heap) (locs1 : List Loc), Hd_ w (sl_ a 6 i j y) H1 → Fr_ w s.heap H1 locs1 → W p l e R s m args below meth c H1 locs1 cells slots Q (F0 m (pc + 1) ls rest)) : W p l e R s m args below meth c H locs cells slots Q (F0 m pc ls (.long y :: .int x :: .ref (ad_ w 13 i) :: rest)) := by
  have he : en_ w (sl_ a 6 i j y) 13 i = .inl (ca_ w 1, 8, .inr (.inl (vp_updL (fun q => gl_ a 6 i q) j y))) := by
    show (.inl (ca_ w 1, 8, .inr (.inl (fun q => gl_ (sl_ a 6 i j y) 6 i q))) : va_E) = .inl (ca_ w 1, 8, .inr (.inl (vp_updL (fun q => gl_ a 6 i q) j y)))
    have e : (fun q => gl_ (sl_ a 6 i j y) 6 i q) = vp_updL (fun q => gl_ a 6 i q) j y := by funext q; simp [gi_si, gl_sl, upd, vp_updL]
    rw [e]
  exact rg_last (k := 13) (a' := sl_ a 6 i j y) cx.1 cx.2.1 cx.2.2.2.2.2.1 cx.2.2.2.2.2.2.1 hW hS hi rfl hxj hj (by decide) he (fun k' i' h => en_sl w a 6 i j y k' i' h) hd kk
theorem al_14 {x : Int32} {j : Nat} (cx : Cx_ p s m c args cc nL own w) (hW : Hd_ w a H) (hi : i < 1) (hxj : x = nI j) (hj : j < 5) (hd : decode cc pc = .ok (.laload, 1)) (kk : W p l e R s m args below meth c H locs cells slots Q (F0 m (pc + 1) ls (.long (gl_ a 7 i j) :: rest))) : W p l e R s m args below meth c H locs cells slots Q (F0 m pc ls (.int x :: .ref (ad_ w 14 i) :: rest)) :=
  rg_lald (k := 14) cx.1 cx.2.1 cx.2.2.2.2.2.1 hW hi rfl hxj hj (by decide) rfl hd kk
theorem as_14 {x : Int32} {y : Int64} {j : Nat} (cx : Cx_ p s m c args cc nL own w) (hW : Hd_ w a H) (hS : Fr_ w s.heap H locs) (hi : i < 1) (hxj : x = nI j) (hj : j < 5) (hd : decode cc pc = .ok (.lastore, 1)) (kk : ∀ (H1 : Heap) (locs1 : List Loc), Hd_ w (sl_ a 7 i j y) H1 → Fr_ w s.heap H1 locs1 → W p l e R s m args below meth c H1 locs1 cells slots Q (F0 m (pc + 1) ls rest)) : W p l e R s m args below meth c H locs cells slots Q (F0 m pc ls (.long y :: .int x :: .ref (ad_ w 14 i) :: rest)) := by
  have he : en_ w (sl_ a 7 i j y) 14 i = .inl (ca_ w 1, 5, .inr (.inl (vp_updL (fun q => gl_ a 7 i q) j y))) := by
    show (.inl (ca_ w 1, 5, .inr (.inl (fun q => gl_ (sl_ a 7 i j y) 7 i q))) : va_E) = .inl (ca_ w 1, 5, .inr (.inl (vp_updL (fun q => gl_ a 7 i q) j y)))
    have e : (fun q => gl_ (sl_ a 7 i j y) 7 i q) = vp_updL (fun q => gl_ a 7 i q) j y := by funext q; simp [gi_si, gl_sl, upd, vp_updL]
    rw [e]
  exact rg_last (k := 14) (a' := sl_ a 7 i j y) cx.1 cx.2.1 cx.2.2.2.2.2.1 cx.2.2.2.2.2.2.1 hW hS hi rfl hxj hj (by decide) he (fun k' i' h => en_sl w a 7 i j y k' i' h) hd kk
theorem al_16 {x : Int32} {j : Nat} (cx : Cx_ p s m c args cc nL own w) (hW : Hd_ w a H) (hi : i < 1) (hxj : x = nI j) (hj : j < 8) (hd : decode cc pc = .ok (.laload, 1)) (kk : W p l e R s m args below meth c H locs cells slots Q (F0 m (pc + 1) ls (.long (gl_ a 10 i j) :: rest))) : W p l e R s m args below meth c H locs cells slots Q (F0 m pc ls (.int x :: .ref (ad_ w 16 i) :: rest)) :=
  rg_lald (k := 16) cx.1 cx.2.1 cx.2.2.2.2.2.1 hW hi rfl hxj hj (by decide) rfl hd kk
theorem as_16 {x : Int32} {y : Int64} {j : Nat} (cx : Cx_ p s m c args cc nL own w) (hW : Hd_ w a H) (hS : Fr_ w s.heap H locs) (hi : i < 1) (hxj : x = nI j) (hj : j < 8) (hd : decode cc pc = .ok (.lastore, 1)) (kk : ∀ (H1 : Heap) (locs1 : List Loc), Hd_ w (sl_ a 10 i j y) H1 → Fr_ w s.heap H1 locs1 → W p l e R s m args below meth c H1 locs1 cells slots Q (F0 m (pc + 1) ls rest)) : W p l e R s m args below meth c H locs cells slots Q (F0 m pc ls (.long y :: .int x :: .ref (ad_ w 16 i) :: rest)) := by
  have he : en_ w (sl_ a 10 i j y) 16 i = .inl (ca_ w 1, 8, .inr (.inl (vp_updL (fun q => gl_ a 10 i q) j y))) := by
    show (.inl (ca_ w 1, 8, .inr (.inl (fun q => gl_ (sl_ a 10 i j y) 10 i q))) : va_E) = .inl (ca_ w 1, 8, .inr (.inl (vp_updL (fun q => gl_ a 10 i q) j y)))
    have e : (fun q => gl_ (sl_ a 10 i j y) 10 i q) = vp_updL (fun q => gl_ a 10 i q) j y := by funext q; simp [gi_si, gl_sl, upd, vp_updL]
    rw [e]
  exact rg_last (k := 16) (a' := sl_ a 10 i j y) cx.1 cx.2.1 cx.2.2.2.2.2.1 cx.2.2.2.2.2.2.1 hW hS hi rfl hxj hj (by decide) he (fun k' i' h => en_sl w a 10 i j y k' i' h) hd kk
theorem al_17 {x : Int32} {j : Nat} (cx : Cx_ p s m c args cc nL own w) (hW : Hd_ w a H) (hi : i < 1) (hxj : x = nI j) (hj : j < 8) (hd : decode cc pc = .ok (.laload, 1)) (kk : W p l e R s m args below meth c H locs cells slots Q (F0 m (pc + 1) ls (.long (gl_ a 11 i j) :: rest))) : W p l e R s m args below meth c H locs cells slots Q (F0 m pc ls (.int x :: .ref (ad_ w 17 i) :: rest)) :=
  rg_lald (k := 17) cx.1 cx.2.1 cx.2.2.2.2.2.1 hW hi rfl hxj hj (by decide) rfl hd kk
theorem as_17 {x : Int32} {y : Int64} {j : Nat} (cx : Cx_ p s m c args cc nL own w) (hW : Hd_ w a H) (hS : Fr_ w s.heap H locs) (hi : i < 1) (hxj : x = nI j) (hj : j < 8) (hd : decode cc pc = .ok (.lastore, 1)) (kk : ∀ (H1 : Heap) (locs1 : List Loc), Hd_ w (sl_ a 11 i j y) H1 → Fr_ w s.heap H1 locs1 → W p l e R s m args below meth c H1 locs1 cells slots Q (F0 m (pc + 1) ls rest)) : W p l e R s m args below meth c H locs cells slots Q (F0 m pc ls (.long y :: .int x :: .ref (ad_ w 17 i) :: rest)) := by
  have he : en_ w (sl_ a 11 i j y) 17 i = .inl (ca_ w 1, 8, .inr (.inl (vp_updL (fun q => gl_ a 11 i q) j y))) := by
    show (.inl (ca_ w 1, 8, .inr (.inl (fun q => gl_ (sl_ a 11 i j y) 11 i q))) : va_E) = .inl (ca_ w 1, 8, .inr (.inl (vp_updL (fun q => gl_ a 11 i q) j y)))
    have e : (fun q => gl_ (sl_ a 11 i j y) 11 i q) = vp_updL (fun q => gl_ a 11 i q) j y := by funext q; simp [gi_si, gl_sl, upd, vp_updL]
    rw [e]
  exact rg_last (k := 17) (a' := sl_ a 11 i j y) cx.1 cx.2.1 cx.2.2.2.2.2.1 cx.2.2.2.2.2.2.1 hW hS hi rfl hxj hj (by decide) he (fun k' i' h => en_sl w a 11 i j y k' i' h) hd kk
theorem al_18 {x : Int32} {j : Nat} (cx : Cx_ p s m c args cc nL own w) (hW : Hd_ w a H) (hi : i < 1) (hxj : x = nI j) (hj : j < 8) (hd : decode cc pc = .ok (.laload, 1)) (kk : W p l e R s m args below meth c H locs cells slots Q (F0 m (pc + 1) ls (.long (gl_ a 12 i j) :: rest))) : W p l e R s m args below meth c H locs cells slots Q (F0 m pc ls (.int x :: .ref (ad_ w 18 i) :: rest)) :=
  rg_lald (k := 18) cx.1 cx.2.1 cx.2.2.2.2.2.1 hW hi rfl hxj hj (by decide) rfl hd kk
theorem as_18 {x : Int32} {y : Int64} {j : Nat} (cx : Cx_ p s m c args cc nL own w) (hW : Hd_ w a H) (hS : Fr_ w s.heap H locs) (hi : i < 1) (hxj : x = nI j) (hj : j < 8) (hd : decode cc pc = .ok (.lastore, 1)) (kk : ∀ (H1 : Heap) (locs1 : List Loc), Hd_ w (sl_ a 12 i j y) H1 → Fr_ w s.heap H1 locs1 → W p l e R s m args below meth c H1 locs1 cells slots Q (F0 m (pc + 1) ls rest)) : W p l e R s m args below meth c H locs cells slots Q (F0 m pc ls (.long y :: .int x :: .ref (ad_ w 18 i) :: rest)) := by
  have he : en_ w (sl_ a 12 i j y) 18 i = .inl (ca_ w 1, 8, .inr (.inl (vp_updL (fun q => gl_ a 12 i q) j y))) := by
    show (.inl (ca_ w 1, 8, .inr (.inl (fun q => gl_ (sl_ a 12 i j y) 12 i q))) : va_E) = .inl (ca_ w 1, 8, .inr (.inl (vp_updL (fun q => gl_ a 12 i q) j y)))
    have e : (fun q => gl_ (sl_ a 12 i j y) 12 i q) = vp_updL (fun q => gl_ a 12 i q) j y := by funext q; simp [gi_si, gl_sl, upd, vp_updL]
    rw [e]
  exact rg_last (k := 18) (a' := sl_ a 12 i j y) cx.1 cx.2.1 cx.2.2.2.2.2.1 cx.2.2.2.2.2.2.1 hW hS hi rfl hxj hj (by decide) he (fun k' i' h => en_sl w a 12 i j y k' i' h) hd kk
theorem al_21 {x : Int32} {j : Nat} (cx : Cx_ p s m c args cc nL own w) (hW : Hd_ w a H) (hi : i < 1) (hxj : x = nI j) (hj : j < 8) (hd : decode cc pc = .ok (.laload, 1)) (kk : W p l e R s m args below meth c H locs cells slots Q (F0 m (pc + 1) ls (.long (gl_ a 20 i j) :: rest))) : W p l e R s m args below meth c H locs cells slots Q (F0 m pc ls (.int x :: .ref (ad_ w 21 i) :: rest)) :=
  rg_lald (k := 21) cx.1 cx.2.1 cx.2.2.2.2.2.1 hW hi rfl hxj hj (by decide) rfl hd kk
theorem as_21 {x : Int32} {y : Int64} {j : Nat} (cx : Cx_ p s m c args cc nL own w) (hW : Hd_ w a H) (hS : Fr_ w s.heap H locs) (hi : i < 1) (hxj : x = nI j) (hj : j < 8) (hd : decode cc pc = .ok (.lastore, 1)) (kk : ∀ (H1 : Heap) (locs1 : List Loc), Hd_ w (sl_ a 20 i j y) H1 → Fr_ w s.heap H1 locs1 → W p l e R s m args below meth c H1 locs1 cells slots Q (F0 m (pc + 1) ls rest)) : W p l e R s m args below meth c H locs cells slots Q (F0 m pc ls (.long y :: .int x :: .ref (ad_ w 21 i) :: rest)) := by
  have he : en_ w (sl_ a 20 i j y) 21 i = .inl (ca_ w 1, 8, .inr (.inl (vp_updL (fun q => gl_ a 20 i q) j y))) := by
    show (.inl (ca_ w 1, 8, .inr (.inl (fun q => gl_ (sl_ a 20 i j y) 20 i q))) : va_E) = .inl (ca_ w 1, 8, .inr (.inl (vp_updL (fun q => gl_ a 20 i q) j y)))
    have e : (fun q => gl_ (sl_ a 20 i j y) 20 i q) = vp_updL (fun q => gl_ a 20 i q) j y := by funext q; simp [gi_si, gl_sl, upd, vp_updL]
    rw [e]
  exact rg_last (k := 21) (a' := sl_ a 20 i j y) cx.1 cx.2.1 cx.2.2.2.2.2.1 cx.2.2.2.2.2.2.1 hW hS hi rfl hxj hj (by decide) he (fun k' i' h => en_sl w a 20 i j y k' i' h) hd kk
theorem al_22 {x : Int32} {j : Nat} (cx : Cx_ p s m c args cc nL own w) (hW : Hd_ w a H) (hi : i < 1) (hxj : x = nI j) (hj : j < 8) (hd : decode cc pc = .ok (.laload, 1)) (kk : W p l e R s m args below meth c H locs cells slots Q (F0 m (pc + 1) ls (.long (gl_ a 21 i j) :: rest))) : W p l e R s m args below meth c H locs cells slots Q (F0 m pc ls (.int x :: .ref (ad_ w 22 i) :: rest)) :=
  rg_lald (k := 22) cx.1 cx.2.1 cx.2.2.2.2.2.1 hW hi rfl hxj hj (by decide) rfl hd kk
theorem as_22 {x : Int32} {y : Int64} {j : Nat} (cx : Cx_ p s m c args cc nL own w) (hW : Hd_ w a H) (hS : Fr_ w s.heap H locs) (hi : i < 1) (hxj : x = nI j) (hj : j < 8) (hd : decode cc pc = .ok (.lastore, 1)) (kk : ∀ (H1 : Heap) (locs1 : List Loc), Hd_ w (sl_ a 21 i j y) H1 → Fr_ w s.heap H1 locs1 → W p l e R s m args below meth c H1 locs1 cells slots Q (F0 m (pc + 1) ls rest)) : W p l e R s m args below meth c H locs cells slots Q (F0 m pc ls (.long y :: .int x :: .ref (ad_ w 22 i) :: rest)) := by
  have he : en_ w (sl_ a 21 i j y) 22 i = .inl (ca_ w 1, 8, .inr (.inl (vp_updL (fun q => gl_ a 21 i q) j y))) := by
    show (.inl (ca_ w 1, 8, .inr (.inl (fun q => gl_ (sl_ a 21 i j y) 21 i q))) : va_E) = .inl (ca_ w 1, 8, .inr (.inl (vp_updL (fun q => gl_ a 21 i q) j y)))
    have e : (fun q => gl_ (sl_ a 21 i j y) 21 i q) = vp_updL (fun q => gl_ a 21 i q) j y := by funext q; simp [gi_si, gl_sl, upd, vp_updL]
    rw [e]
  exact rg_last (k := 22) (a' := sl_ a 21 i j y) cx.1 cx.2.1 cx.2.2.2.2.2.1 cx.2.2.2.2.2.2.1 hW hS hi rfl hxj hj (by decide) he (fun k' i' h => en_sl w a 21 i j y k' i' h) hd kk
theorem al_23 {x : Int32} {j : Nat} (cx : Cx_ p s m c args cc nL own w) (hW : Hd_ w a H) (hi : i < 1) (hxj : x = nI j) (hj : j < 8) (hd : decode cc pc = .ok (.iaload, 1)) (kk : W p l e R s m args below meth c H locs cells slots Q (F0 m (pc + 1) ls (.int (gi_ a 23 i j) :: rest))) : W p l e R s m args below meth c H locs cells slots Q (F0 m pc ls (.int x :: .ref (ad_ w 23 i) :: rest)) :=
  rg_iald (k := 23) cx.1 cx.2.1 cx.2.2.2.2.2.1 hW hi rfl hxj hj (by decide) rfl hd kk
theorem as_23 {x : Int32} {y : Int32} {j : Nat} (cx : Cx_ p s m c args cc nL own w) (hW : Hd_ w a H) (hS : Fr_ w s.heap H locs) (hi : i < 1) (hxj : x = nI j) (hj : j < 8) (hd : decode cc pc = .ok (.iastore, 1)) (kk : ∀ (H1 : Heap) (locs1 : List Loc), Hd_ w (si_ a 23 i j y) H1 → Fr_ w s.heap H1 locs1 → W p l e R s m args below meth c H1 locs1 cells slots Q (F0 m (pc + 1) ls rest)) : W p l e R s m args below meth c H locs cells slots Q (F0 m pc ls (.int y :: .int x :: .ref (ad_ w 23 i) :: rest)) := by
  have he : en_ w (si_ a 23 i j y) 23 i = .inl (ca_ w 0, 8, .inl (upd (fun q => gi_ a 23 i q) j y)) := by
    show (.inl (ca_ w 0, 8, .inl (fun q => gi_ (si_ a 23 i j y) 23 i q)) : va_E) = .inl (ca_ w 0, 8, .inl (upd (fun q => gi_ a 23 i q) j y))
    have e : (fun q => gi_ (si_ a 23 i j y) 23 i q) = upd (fun q => gi_ a 23 i q) j y := by funext q; simp [gi_si, gl_sl, upd, vp_updL]
    rw [e]
  exact rg_iast (k := 23) (a' := si_ a 23 i j y) cx.1 cx.2.1 cx.2.2.2.2.2.1 cx.2.2.2.2.2.2.1 hW hS hi rfl hxj hj (by decide) he (fun k' i' h => en_si w a 23 i j y k' i' h) hd kk
theorem al_24 {x : Int32} {j : Nat} (cx : Cx_ p s m c args cc nL own w) (hW : Hd_ w a H) (hi : i < 1) (hxj : x = nI j) (hj : j < 48) (hd : decode cc pc = .ok (.iaload, 1)) (kk : W p l e R s m args below meth c H locs cells slots Q (F0 m (pc + 1) ls (.int (gi_ a 24 i j) :: rest))) : W p l e R s m args below meth c H locs cells slots Q (F0 m pc ls (.int x :: .ref (ad_ w 24 i) :: rest)) :=
  rg_iald (k := 24) cx.1 cx.2.1 cx.2.2.2.2.2.1 hW hi rfl hxj hj (by decide) rfl hd kk
theorem as_24 {x : Int32} {y : Int32} {j : Nat} (cx : Cx_ p s m c args cc nL own w) (hW : Hd_ w a H) (hS : Fr_ w s.heap H locs) (hi : i < 1) (hxj : x = nI j) (hj : j < 48) (hd : decode cc pc = .ok (.iastore, 1)) (kk : ∀ (H1 : Heap) (locs1 : List Loc), Hd_ w (si_ a 24 i j y) H1 → Fr_ w s.heap H1 locs1 → W p l e R s m args below meth c H1 locs1 cells slots Q (F0 m (pc + 1) ls rest)) : W p l e R s m args below meth c H locs cells slots Q (F0 m pc ls (.int y :: .int x :: .ref (ad_ w 24 i) :: rest)) := by
  have he : en_ w (si_ a 24 i j y) 24 i = .inl (ca_ w 0, 48, .inl (upd (fun q => gi_ a 24 i q) j y)) := by
    show (.inl (ca_ w 0, 48, .inl (fun q => gi_ (si_ a 24 i j y) 24 i q)) : va_E) = .inl (ca_ w 0, 48, .inl (upd (fun q => gi_ a 24 i q) j y))
    have e : (fun q => gi_ (si_ a 24 i j y) 24 i q) = upd (fun q => gi_ a 24 i q) j y := by funext q; simp [gi_si, gl_sl, upd, vp_updL]
    rw [e]
  exact rg_iast (k := 24) (a' := si_ a 24 i j y) cx.1 cx.2.1 cx.2.2.2.2.2.1 cx.2.2.2.2.2.2.1 hW hS hi rfl hxj hj (by decide) he (fun k' i' h => en_si w a 24 i j y k' i' h) hd kk
theorem al_25 {x : Int32} {j : Nat} (cx : Cx_ p s m c args cc nL own w) (hW : Hd_ w a H) (hi : i < 1) (hxj : x = nI j) (hj : j < 48) (hd : decode cc pc = .ok (.iaload, 1)) (kk : W p l e R s m args below meth c H locs cells slots Q (F0 m (pc + 1) ls (.int (gi_ a 25 i j) :: rest))) : W p l e R s m args below meth c H locs cells slots Q (F0 m pc ls (.int x :: .ref (ad_ w 25 i) :: rest)) :=
  rg_iald (k := 25) cx.1 cx.2.1 cx.2.2.2.2.2.1 hW hi rfl hxj hj (by decide) rfl hd kk
theorem as_25 {x : Int32} {y : Int32} {j : Nat} (cx : Cx_ p s m c args cc nL own w) (hW : Hd_ w a H) (hS : Fr_ w s.heap H locs) (hi : i < 1) (hxj : x = nI j) (hj : j < 48) (hd : decode cc pc = .ok (.iastore, 1)) (kk : ∀ (H1 : Heap) (locs1 : List Loc), Hd_ w (si_ a 25 i j y) H1 → Fr_ w s.heap H1 locs1 → W p l e R s m args below meth c H1 locs1 cells slots Q (F0 m (pc + 1) ls rest)) : W p l e R s m args below meth c H locs cells slots Q (F0 m pc ls (.int y :: .int x :: .ref (ad_ w 25 i) :: rest)) := by
  have he : en_ w (si_ a 25 i j y) 25 i = .inl (ca_ w 0, 48, .inl (upd (fun q => gi_ a 25 i q) j y)) := by
    show (.inl (ca_ w 0, 48, .inl (fun q => gi_ (si_ a 25 i j y) 25 i q)) : va_E) = .inl (ca_ w 0, 48, .inl (upd (fun q => gi_ a 25 i q) j y))
    have e : (fun q => gi_ (si_ a 25 i j y) 25 i q) = upd (fun q => gi_ a 25 i q) j y := by funext q; simp [gi_si, gl_sl, upd, vp_updL]
    rw [e]
  exact rg_iast (k := 25) (a' := si_ a 25 i j y) cx.1 cx.2.1 cx.2.2.2.2.2.1 cx.2.2.2.2.2.2.1 hW hS hi rfl hxj hj (by decide) he (fun k' i' h => en_si w a 25 i j y k' i' h) hd kk
theorem al_26 {x : Int32} {j : Nat} (cx : Cx_ p s m c args cc nL own w) (hW : Hd_ w a H) (hi : i < 1) (hxj : x = nI j) (hj : j < 6) (hd : decode cc pc = .ok (.iaload, 1)) (kk : W p l e R s m args below meth c H locs cells slots Q (F0 m (pc + 1) ls (.int (gi_ a 26 i j) :: rest))) : W p l e R s m args below meth c H locs cells slots Q (F0 m pc ls (.int x :: .ref (ad_ w 26 i) :: rest)) :=
  rg_iald (k := 26) cx.1 cx.2.1 cx.2.2.2.2.2.1 hW hi rfl hxj hj (by decide) rfl hd kk
theorem as_26 {x : Int32} {y : Int32} {j : Nat} (cx : Cx_ p s m c args cc nL own w) (hW : Hd_ w a H) (hS : Fr_ w s.heap H locs) (hi : i < 1) (hxj : x = nI j) (hj : j < 6) (hd : decode cc pc = .ok (.iastore, 1)) (kk : ∀ (H1 : Heap) (locs1 : List Loc), Hd_ w (si_ a 26 i j y) H1 → Fr_ w s.heap H1 locs1 → W p l e R s m args below meth c H1 locs1 cells slots Q (F0 m (pc + 1) ls rest)) : W p l e R s m args below meth c H locs cells slots Q (F0 m pc ls (.int y :: .int x :: .ref (ad_ w 26 i) :: rest)) := by
  have he : en_ w (si_ a 26 i j y) 26 i = .inl (ca_ w 0, 6, .inl (upd (fun q => gi_ a 26 i q) j y)) := by
    show (.inl (ca_ w 0, 6, .inl (fun q => gi_ (si_ a 26 i j y) 26 i q)) : va_E) = .inl (ca_ w 0, 6, .inl (upd (fun q => gi_ a 26 i q) j y))
    have e : (fun q => gi_ (si_ a 26 i j y) 26 i q) = upd (fun q => gi_ a 26 i q) j y := by funext q; simp [gi_si, gl_sl, upd, vp_updL]
    rw [e]
  exact rg_iast (k := 26) (a' := si_ a 26 i j y) cx.1 cx.2.1 cx.2.2.2.2.2.1 cx.2.2.2.2.2.2.1 hW hS hi rfl hxj hj (by decide) he (fun k' i' h => en_si w a 26 i j y k' i' h) hd kk
theorem al_27 {x : Int32} {j : Nat} (cx : Cx_ p s m c args cc nL own w) (hW : Hd_ w a H) (hi : i < 1) (hxj : x = nI j) (hj : j < 6) (hd : decode cc pc = .ok (.iaload, 1)) (kk : W p l e R s m args below meth c H locs cells slots Q (F0 m (pc + 1) ls (.int (gi_ a 27 i j) :: rest))) : W p l e R s m args below meth c H locs cells slots Q (F0 m pc ls (.int x :: .ref (ad_ w 27 i) :: rest)) :=
  rg_iald (k := 27) cx.1 cx.2.1 cx.2.2.2.2.2.1 hW hi rfl hxj hj (by decide) rfl hd kk
theorem as_27 {x : Int32} {y : Int32} {j : Nat} (cx : Cx_ p s m c args cc nL own w) (hW : Hd_ w a H) (hS : Fr_ w s.heap H locs) (hi : i < 1) (hxj : x = nI j) (hj : j < 6) (hd : decode cc pc = .ok (.iastore, 1)) (kk : ∀ (H1 : Heap) (locs1 : List Loc), Hd_ w (si_ a 27 i j y) H1 → Fr_ w s.heap H1 locs1 → W p l e R s m args below meth c H1 locs1 cells slots Q (F0 m (pc + 1) ls rest)) : W p l e R s m args below meth c H locs cells slots Q (F0 m pc ls (.int y :: .int x :: .ref (ad_ w 27 i) :: rest)) := by
  have he : en_ w (si_ a 27 i j y) 27 i = .inl (ca_ w 0, 6, .inl (upd (fun q => gi_ a 27 i q) j y)) := by
    show (.inl (ca_ w 0, 6, .inl (fun q => gi_ (si_ a 27 i j y) 27 i q)) : va_E) = .inl (ca_ w 0, 6, .inl (upd (fun q => gi_ a 27 i q) j y))
    have e : (fun q => gi_ (si_ a 27 i j y) 27 i q) = upd (fun q => gi_ a 27 i q) j y := by funext q; simp [gi_si, gl_sl, upd, vp_updL]
    rw [e]
  exact rg_iast (k := 27) (a' := si_ a 27 i j y) cx.1 cx.2.1 cx.2.2.2.2.2.1 cx.2.2.2.2.2.2.1 hW hS hi rfl hxj hj (by decide) he (fun k' i' h => en_si w a 27 i j y k' i' h) hd kk
theorem al_28 {x : Int32} {j : Nat} (cx : Cx_ p s m c args cc nL own w) (hW : Hd_ w a H) (hi : i < 1) (hxj : x = nI j) (hj : j < 6) (hd : decode cc pc = .ok (.iaload, 1)) (kk : W p l e R s m args below meth c H locs cells slots Q (F0 m (pc + 1) ls (.int (gi_ a 28 i j) :: rest))) : W p l e R s m args below meth c H locs cells slots Q (F0 m pc ls (.int x :: .ref (ad_ w 28 i) :: rest)) :=
  rg_iald (k := 28) cx.1 cx.2.1 cx.2.2.2.2.2.1 hW hi rfl hxj hj (by decide) rfl hd kk
theorem as_28 {x : Int32} {y : Int32} {j : Nat} (cx : Cx_ p s m c args cc nL own w) (hW : Hd_ w a H) (hS : Fr_ w s.heap H locs) (hi : i < 1) (hxj : x = nI j) (hj : j < 6) (hd : decode cc pc = .ok (.iastore, 1)) (kk : ∀ (H1 : Heap) (locs1 : List Loc), Hd_ w (si_ a 28 i j y) H1 → Fr_ w s.heap H1 locs1 → W p l e R s m args below meth c H1 locs1 cells slots Q (F0 m (pc + 1) ls rest)) : W p l e R s m args below meth c H locs cells slots Q (F0 m pc ls (.int y :: .int x :: .ref (ad_ w 28 i) :: rest)) := by
  have he : en_ w (si_ a 28 i j y) 28 i = .inl (ca_ w 0, 6, .inl (upd (fun q => gi_ a 28 i q) j y)) := by
    show (.inl (ca_ w 0, 6, .inl (fun q => gi_ (si_ a 28 i j y) 28 i q)) : va_E) = .inl (ca_ w 0, 6, .inl (upd (fun q => gi_ a 28 i q) j y))
    have e : (fun q => gi_ (si_ a 28 i j y) 28 i q) = upd (fun q => gi_ a 28 i q) j y := by funext q; simp [gi_si, gl_sl, upd, vp_updL]
    rw [e]
  exact rg_iast (k := 28) (a' := si_ a 28 i j y) cx.1 cx.2.1 cx.2.2.2.2.2.1 cx.2.2.2.2.2.2.1 hW hS hi rfl hxj hj (by decide) he (fun k' i' h => en_si w a 28 i j y k' i' h) hd kk
theorem al_29 {x : Int32} {j : Nat} (cx : Cx_ p s m c args cc nL own w) (hW : Hd_ w a H) (hi : i < 1) (hxj : x = nI j) (hj : j < 48) (hd : decode cc pc = .ok (.iaload, 1)) (kk : W p l e R s m args below meth c H locs cells slots Q (F0 m (pc + 1) ls (.int (gi_ a 29 i j) :: rest))) : W p l e R s m args below meth c H locs cells slots Q (F0 m pc ls (.int x :: .ref (ad_ w 29 i) :: rest)) :=
  rg_iald (k := 29) cx.1 cx.2.1 cx.2.2.2.2.2.1 hW hi rfl hxj hj (by decide) rfl hd kk
theorem as_29 {x : Int32} {y : Int32} {j : Nat} (cx : Cx_ p s m c args cc nL own w) (hW : Hd_ w a H) (hS : Fr_ w s.heap H locs) (hi : i < 1) (hxj : x = nI j) (hj : j < 48) (hd : decode cc pc = .ok (.iastore, 1)) (kk : ∀ (H1 : Heap) (locs1 : List Loc), Hd_ w (si_ a 29 i j y) H1 → Fr_ w s.heap H1 locs1 → W p l e R s m args below meth c H1 locs1 cells slots Q (F0 m (pc + 1) ls rest)) : W p l e R s m args below meth c H locs cells slots Q (F0 m pc ls (.int y :: .int x :: .ref (ad_ w 29 i) :: rest)) := by
  have he : en_ w (si_ a 29 i j y) 29 i = .inl (ca_ w 0, 48, .inl (upd (fun q => gi_ a 29 i q) j y)) := by
    show (.inl (ca_ w 0, 48, .inl (fun q => gi_ (si_ a 29 i j y) 29 i q)) : va_E) = .inl (ca_ w 0, 48, .inl (upd (fun q => gi_ a 29 i q) j y))
    have e : (fun q => gi_ (si_ a 29 i j y) 29 i q) = upd (fun q => gi_ a 29 i q) j y := by funext q; simp [gi_si, gl_sl, upd, vp_updL]
    rw [e]
  exact rg_iast (k := 29) (a' := si_ a 29 i j y) cx.1 cx.2.1 cx.2.2.2.2.2.1 cx.2.2.2.2.2.2.1 hW hS hi rfl hxj hj (by decide) he (fun k' i' h => en_si w a 29 i j y k' i' h) hd kk
theorem al_30 {x : Int32} {j : Nat} (cx : Cx_ p s m c args cc nL own w) (hW : Hd_ w a H) (hi : i < 1) (hxj : x = nI j) (hj : j < 5) (hd : decode cc pc = .ok (.laload, 1)) (kk : W p l e R s m args below meth c H locs cells slots Q (F0 m (pc + 1) ls (.long (gl_ a 25 i j) :: rest))) : W p l e R s m args below meth c H locs cells slots Q (F0 m pc ls (.int x :: .ref (ad_ w 30 i) :: rest)) :=
  rg_lald (k := 30) cx.1 cx.2.1 cx.2.2.2.2.2.1 hW hi rfl hxj hj (by decide) rfl hd kk
theorem as_30 {x : Int32} {y : Int64} {j : Nat} (cx : Cx_ p s m c args cc nL own w) (hW : Hd_ w a H) (hS : Fr_ w s.heap H locs) (hi : i < 1) (hxj : x = nI j) (hj : j < 5) (hd : decode cc pc = .ok (.lastore, 1)) (kk : ∀ (H1 : Heap) (locs1 : List Loc), Hd_ w (sl_ a 25 i j y) H1 → Fr_ w s.heap H1 locs1 → W p l e R s m args below meth c H1 locs1 cells slots Q (F0 m (pc + 1) ls rest)) : W p l e R s m args below meth c H locs cells slots Q (F0 m pc ls (.long y :: .int x :: .ref (ad_ w 30 i) :: rest)) := by
  have he : en_ w (sl_ a 25 i j y) 30 i = .inl (ca_ w 1, 5, .inr (.inl (vp_updL (fun q => gl_ a 25 i q) j y))) := by
    show (.inl (ca_ w 1, 5, .inr (.inl (fun q => gl_ (sl_ a 25 i j y) 25 i q))) : va_E) = .inl (ca_ w 1, 5, .inr (.inl (vp_updL (fun q => gl_ a 25 i q) j y)))
    have e : (fun q => gl_ (sl_ a 25 i j y) 25 i q) = vp_updL (fun q => gl_ a 25 i q) j y := by funext q; simp [gi_si, gl_sl, upd, vp_updL]
    rw [e]
  exact rg_last (k := 30) (a' := sl_ a 25 i j y) cx.1 cx.2.1 cx.2.2.2.2.2.1 cx.2.2.2.2.2.2.1 hW hS hi rfl hxj hj (by decide) he (fun k' i' h => en_sl w a 25 i j y k' i' h) hd kk
theorem al_31 {x : Int32} {j : Nat} (cx : Cx_ p s m c args cc nL own w) (hW : Hd_ w a H) (hi : i < 1) (hxj : x = nI j) (hj : j < 8) (hd : decode cc pc = .ok (.laload, 1)) (kk : W p l e R s m args below meth c H locs cells slots Q (F0 m (pc + 1) ls (.long (gl_ a 26 i j) :: rest))) : W p l e R s m args below meth c H locs cells slots Q (F0 m pc ls (.int x :: .ref (ad_ w 31 i) :: rest)) :=
  rg_lald (k := 31) cx.1 cx.2.1 cx.2.2.2.2.2.1 hW hi rfl hxj hj (by decide) rfl hd kk
theorem as_31 {x : Int32} {y : Int64} {j : Nat} (cx : Cx_ p s m c args cc nL own w) (hW : Hd_ w a H) (hS : Fr_ w s.heap H locs) (hi : i < 1) (hxj : x = nI j) (hj : j < 8) (hd : decode cc pc = .ok (.lastore, 1)) (kk : ∀ (H1 : Heap) (locs1 : List Loc), Hd_ w (sl_ a 26 i j y) H1 → Fr_ w s.heap H1 locs1 → W p l e R s m args below meth c H1 locs1 cells slots Q (F0 m (pc + 1) ls rest)) : W p l e R s m args below meth c H locs cells slots Q (F0 m pc ls (.long y :: .int x :: .ref (ad_ w 31 i) :: rest)) := by
  have he : en_ w (sl_ a 26 i j y) 31 i = .inl (ca_ w 1, 8, .inr (.inl (vp_updL (fun q => gl_ a 26 i q) j y))) := by
    show (.inl (ca_ w 1, 8, .inr (.inl (fun q => gl_ (sl_ a 26 i j y) 26 i q))) : va_E) = .inl (ca_ w 1, 8, .inr (.inl (vp_updL (fun q => gl_ a 26 i q) j y)))
    have e : (fun q => gl_ (sl_ a 26 i j y) 26 i q) = vp_updL (fun q => gl_ a 26 i q) j y := by funext q; simp [gi_si, gl_sl, upd, vp_updL]
    rw [e]
  exact rg_last (k := 31) (a' := sl_ a 26 i j y) cx.1 cx.2.1 cx.2.2.2.2.2.1 cx.2.2.2.2.2.2.1 hW hS hi rfl hxj hj (by decide) he (fun k' i' h => en_sl w a 26 i j y k' i' h) hd kk
theorem al_32 {x : Int32} {j : Nat} (cx : Cx_ p s m c args cc nL own w) (hW : Hd_ w a H) (hi : i < 1) (hxj : x = nI j) (hj : j < 8) (hd : decode cc pc = .ok (.laload, 1)) (kk : W p l e R s m args below meth c H locs cells slots Q (F0 m (pc + 1) ls (.long (gl_ a 27 i j) :: rest))) : W p l e R s m args below meth c H locs cells slots Q (F0 m pc ls (.int x :: .ref (ad_ w 32 i) :: rest)) :=
  rg_lald (k := 32) cx.1 cx.2.1 cx.2.2.2.2.2.1 hW hi rfl hxj hj (by decide) rfl hd kk
theorem as_32 {x : Int32} {y : Int64} {j : Nat} (cx : Cx_ p s m c args cc nL own w) (hW : Hd_ w a H) (hS : Fr_ w s.heap H locs) (hi : i < 1) (hxj : x = nI j) (hj : j < 8) (hd : decode cc pc = .ok (.lastore, 1)) (kk : ∀ (H1 : Heap) (locs1 : List Loc), Hd_ w (sl_ a 27 i j y) H1 → Fr_ w s.heap H1 locs1 → W p l e R s m args below meth c H1 locs1 cells slots Q (F0 m (pc + 1) ls rest)) : W p l e R s m args below meth c H locs cells slots Q (F0 m pc ls (.long y :: .int x :: .ref (ad_ w 32 i) :: rest)) := by
  have he : en_ w (sl_ a 27 i j y) 32 i = .inl (ca_ w 1, 8, .inr (.inl (vp_updL (fun q => gl_ a 27 i q) j y))) := by
    show (.inl (ca_ w 1, 8, .inr (.inl (fun q => gl_ (sl_ a 27 i j y) 27 i q))) : va_E) = .inl (ca_ w 1, 8, .inr (.inl (vp_updL (fun q => gl_ a 27 i q) j y)))
    have e : (fun q => gl_ (sl_ a 27 i j y) 27 i q) = vp_updL (fun q => gl_ a 27 i q) j y := by funext q; simp [gi_si, gl_sl, upd, vp_updL]
    rw [e]
  exact rg_last (k := 32) (a' := sl_ a 27 i j y) cx.1 cx.2.1 cx.2.2.2.2.2.1 cx.2.2.2.2.2.2.1 hW hS hi rfl hxj hj (by decide) he (fun k' i' h => en_sl w a 27 i j y k' i' h) hd kk
theorem al_33 {x : Int32} {j : Nat} (cx : Cx_ p s m c args cc nL own w) (hW : Hd_ w a H) (hi : i < 1) (hxj : x = nI j) (hj : j < 48) (hd : decode cc pc = .ok (.iaload, 1)) (kk : W p l e R s m args below meth c H locs cells slots Q (F0 m (pc + 1) ls (.int (gi_ a 30 i j) :: rest))) : W p l e R s m args below meth c H locs cells slots Q (F0 m pc ls (.int x :: .ref (ad_ w 33 i) :: rest)) :=
  rg_iald (k := 33) cx.1 cx.2.1 cx.2.2.2.2.2.1 hW hi rfl hxj hj (by decide) rfl hd kk
theorem as_33 {x : Int32} {y : Int32} {j : Nat} (cx : Cx_ p s m c args cc nL own w) (hW : Hd_ w a H) (hS : Fr_ w s.heap H locs) (hi : i < 1) (hxj : x = nI j) (hj : j < 48) (hd : decode cc pc = .ok (.iastore, 1)) (kk : ∀ (H1 : Heap) (locs1 : List Loc), Hd_ w (si_ a 30 i j y) H1 → Fr_ w s.heap H1 locs1 → W p l e R s m args below meth c H1 locs1 cells slots Q (F0 m (pc + 1) ls rest)) : W p l e R s m args below meth c H locs cells slots Q (F0 m pc ls (.int y :: .int x :: .ref (ad_ w 33 i) :: rest)) := by
  have he : en_ w (si_ a 30 i j y) 33 i = .inl (ca_ w 0, 48, .inl (upd (fun q => gi_ a 30 i q) j y)) := by
    show (.inl (ca_ w 0, 48, .inl (fun q => gi_ (si_ a 30 i j y) 30 i q)) : va_E) = .inl (ca_ w 0, 48, .inl (upd (fun q => gi_ a 30 i q) j y))
    have e : (fun q => gi_ (si_ a 30 i j y) 30 i q) = upd (fun q => gi_ a 30 i q) j y := by funext q; simp [gi_si, gl_sl, upd, vp_updL]
    rw [e]
  exact rg_iast (k := 33) (a' := si_ a 30 i j y) cx.1 cx.2.1 cx.2.2.2.2.2.1 cx.2.2.2.2.2.2.1 hW hS hi rfl hxj hj (by decide) he (fun k' i' h => en_si w a 30 i j y k' i' h) hd kk
theorem al_34 {x : Int32} {j : Nat} (cx : Cx_ p s m c args cc nL own w) (hW : Hd_ w a H) (hi : i < 1) (hxj : x = nI j) (hj : j < 5) (hd : decode cc pc = .ok (.laload, 1)) (kk : W p l e R s m args below meth c H locs cells slots Q (F0 m (pc + 1) ls (.long (gl_ a 28 i j) :: rest))) : W p l e R s m args below meth c H locs cells slots Q (F0 m pc ls (.int x :: .ref (ad_ w 34 i) :: rest)) :=
  rg_lald (k := 34) cx.1 cx.2.1 cx.2.2.2.2.2.1 hW hi rfl hxj hj (by decide) rfl hd kk
theorem as_34 {x : Int32} {y : Int64} {j : Nat} (cx : Cx_ p s m c args cc nL own w) (hW : Hd_ w a H) (hS : Fr_ w s.heap H locs) (hi : i < 1) (hxj : x = nI j) (hj : j < 5) (hd : decode cc pc = .ok (.lastore, 1)) (kk : ∀ (H1 : Heap) (locs1 : List Loc), Hd_ w (sl_ a 28 i j y) H1 → Fr_ w s.heap H1 locs1 → W p l e R s m args below meth c H1 locs1 cells slots Q (F0 m (pc + 1) ls rest)) : W p l e R s m args below meth c H locs cells slots Q (F0 m pc ls (.long y :: .int x :: .ref (ad_ w 34 i) :: rest)) := by
  have he : en_ w (sl_ a 28 i j y) 34 i = .inl (ca_ w 1, 5, .inr (.inl (vp_updL (fun q => gl_ a 28 i q) j y))) := by
    show (.inl (ca_ w 1, 5, .inr (.inl (fun q => gl_ (sl_ a 28 i j y) 28 i q))) : va_E) = .inl (ca_ w 1, 5, .inr (.inl (vp_updL (fun q => gl_ a 28 i q) j y)))
    have e : (fun q => gl_ (sl_ a 28 i j y) 28 i q) = vp_updL (fun q => gl_ a 28 i q) j y := by funext q; simp [gi_si, gl_sl, upd, vp_updL]
    rw [e]
  exact rg_last (k := 34) (a' := sl_ a 28 i j y) cx.1 cx.2.1 cx.2.2.2.2.2.1 cx.2.2.2.2.2.2.1 hW hS hi rfl hxj hj (by decide) he (fun k' i' h => en_sl w a 28 i j y k' i' h) hd kk
theorem al_35 {x : Int32} {j : Nat} (cx : Cx_ p s m c args cc nL own w) (hW : Hd_ w a H) (hi : i < 1) (hxj : x = nI j) (hj : j < 8) (hd : decode cc pc = .ok (.laload, 1)) (kk : W p l e R s m args below meth c H locs cells slots Q (F0 m (pc + 1) ls (.long (gl_ a 29 i j) :: rest))) : W p l e R s m args below meth c H locs cells slots Q (F0 m pc ls (.int x :: .ref (ad_ w 35 i) :: rest)) :=
  rg_lald (k := 35) cx.1 cx.2.1 cx.2.2.2.2.2.1 hW hi rfl hxj hj (by decide) rfl hd kk
theorem as_35 {x : Int32} {y : Int64} {j : Nat} (cx : Cx_ p s m c args cc nL own w) (hW : Hd_ w a H) (hS : Fr_ w s.heap H locs) (hi : i < 1) (hxj : x = nI j) (hj : j < 8) (hd : decode cc pc = .ok (.lastore, 1)) (kk : ∀ (H1 : Heap) (locs1 : List Loc), Hd_ w (sl_ a 29 i j y) H1 → Fr_ w s.heap H1 locs1 → W p l e R s m args below meth c H1 locs1 cells slots Q (F0 m (pc + 1) ls rest)) : W p l e R s m args below meth c H locs cells slots Q (F0 m pc ls (.long y :: .int x :: .ref (ad_ w 35 i) :: rest)) := by
  have he : en_ w (sl_ a 29 i j y) 35 i = .inl (ca_ w 1, 8, .inr (.inl (vp_updL (fun q => gl_ a 29 i q) j y))) := by
    show (.inl (ca_ w 1, 8, .inr (.inl (fun q => gl_ (sl_ a 29 i j y) 29 i q))) : va_E) = .inl (ca_ w 1, 8, .inr (.inl (vp_updL (fun q => gl_ a 29 i q) j y)))
    have e : (fun q => gl_ (sl_ a 29 i j y) 29 i q) = vp_updL (fun q => gl_ a 29 i q) j y := by funext q; simp [gi_si, gl_sl, upd, vp_updL]
    rw [e]
  exact rg_last (k := 35) (a' := sl_ a 29 i j y) cx.1 cx.2.1 cx.2.2.2.2.2.1 cx.2.2.2.2.2.2.1 hW hS hi rfl hxj hj (by decide) he (fun k' i' h => en_sl w a 29 i j y k' i' h) hd kk
theorem al_36 {x : Int32} {j : Nat} (cx : Cx_ p s m c args cc nL own w) (hW : Hd_ w a H) (hi : i < 1) (hxj : x = nI j) (hj : j < 8) (hd : decode cc pc = .ok (.laload, 1)) (kk : W p l e R s m args below meth c H locs cells slots Q (F0 m (pc + 1) ls (.long (gl_ a 30 i j) :: rest))) : W p l e R s m args below meth c H locs cells slots Q (F0 m pc ls (.int x :: .ref (ad_ w 36 i) :: rest)) :=
  rg_lald (k := 36) cx.1 cx.2.1 cx.2.2.2.2.2.1 hW hi rfl hxj hj (by decide) rfl hd kk
theorem as_36 {x : Int32} {y : Int64} {j : Nat} (cx : Cx_ p s m c args cc nL own w) (hW : Hd_ w a H) (hS : Fr_ w s.heap H locs) (hi : i < 1) (hxj : x = nI j) (hj : j < 8) (hd : decode cc pc = .ok (.lastore, 1)) (kk : ∀ (H1 : Heap) (locs1 : List Loc), Hd_ w (sl_ a 30 i j y) H1 → Fr_ w s.heap H1 locs1 → W p l e R s m args below meth c H1 locs1 cells slots Q (F0 m (pc + 1) ls rest)) : W p l e R s m args below meth c H locs cells slots Q (F0 m pc ls (.long y :: .int x :: .ref (ad_ w 36 i) :: rest)) := by
  have he : en_ w (sl_ a 30 i j y) 36 i = .inl (ca_ w 1, 8, .inr (.inl (vp_updL (fun q => gl_ a 30 i q) j y))) := by
    show (.inl (ca_ w 1, 8, .inr (.inl (fun q => gl_ (sl_ a 30 i j y) 30 i q))) : va_E) = .inl (ca_ w 1, 8, .inr (.inl (vp_updL (fun q => gl_ a 30 i q) j y)))
    have e : (fun q => gl_ (sl_ a 30 i j y) 30 i q) = vp_updL (fun q => gl_ a 30 i q) j y := by funext q; simp [gi_si, gl_sl, upd, vp_updL]
    rw [e]
  exact rg_last (k := 36) (a' := sl_ a 30 i j y) cx.1 cx.2.1 cx.2.2.2.2.2.1 cx.2.2.2.2.2.2.1 hW hS hi rfl hxj hj (by decide) he (fun k' i' h => en_sl w a 30 i j y k' i' h) hd kk
theorem al_37 {x : Int32} {j : Nat} (cx : Cx_ p s m c args cc nL own w) (hW : Hd_ w a H) (hi : i < 1) (hxj : x = nI j) (hj : j < 8) (hd : decode cc pc = .ok (.laload, 1)) (kk : W p l e R s m args below meth c H locs cells slots Q (F0 m (pc + 1) ls (.long (gl_ a 31 i j) :: rest))) : W p l e R s m args below meth c H locs cells slots Q (F0 m pc ls (.int x :: .ref (ad_ w 37 i) :: rest)) :=
  rg_lald (k := 37) cx.1 cx.2.1 cx.2.2.2.2.2.1 hW hi rfl hxj hj (by decide) rfl hd kk
theorem as_37 {x : Int32} {y : Int64} {j : Nat} (cx : Cx_ p s m c args cc nL own w) (hW : Hd_ w a H) (hS : Fr_ w s.heap H locs) (hi : i < 1) (hxj : x = nI j) (hj : j < 8) (hd : decode cc pc = .ok (.lastore, 1)) (kk : ∀ (H1 : Heap) (locs1 : List Loc), Hd_ w (sl_ a 31 i j y) H1 → Fr_ w s.heap H1 locs1 → W p l e R s m args below meth c H1 locs1 cells slots Q (F0 m (pc + 1) ls rest)) : W p l e R s m args below meth c H locs cells slots Q (F0 m pc ls (.long y :: .int x :: .ref (ad_ w 37 i) :: rest)) := by
  have he : en_ w (sl_ a 31 i j y) 37 i = .inl (ca_ w 1, 8, .inr (.inl (vp_updL (fun q => gl_ a 31 i q) j y))) := by
    show (.inl (ca_ w 1, 8, .inr (.inl (fun q => gl_ (sl_ a 31 i j y) 31 i q))) : va_E) = .inl (ca_ w 1, 8, .inr (.inl (vp_updL (fun q => gl_ a 31 i q) j y)))
    have e : (fun q => gl_ (sl_ a 31 i j y) 31 i q) = vp_updL (fun q => gl_ a 31 i q) j y := by funext q; simp [gi_si, gl_sl, upd, vp_updL]
    rw [e]
  exact rg_last (k := 37) (a' := sl_ a 31 i j y) cx.1 cx.2.1 cx.2.2.2.2.2.1 cx.2.2.2.2.2.2.1 hW hS hi rfl hxj hj (by decide) he (fun k' i' h => en_sl w a 31 i j y k' i' h) hd kk
theorem al_40 {x : Int32} {j : Nat} (cx : Cx_ p s m c args cc nL own w) (hW : Hd_ w a H) (hi : i < 1) (hxj : x = nI j) (hj : j < 1) (hd : decode cc pc = .ok (.laload, 1)) (kk : W p l e R s m args below meth c H locs cells slots Q (F0 m (pc + 1) ls (.long (gl_ a 40 i j) :: rest))) : W p l e R s m args below meth c H locs cells slots Q (F0 m pc ls (.int x :: .ref (ad_ w 40 i) :: rest)) :=
  rg_lald (k := 40) cx.1 cx.2.1 cx.2.2.2.2.2.1 hW hi rfl hxj hj (by decide) rfl hd kk
theorem as_40 {x : Int32} {y : Int64} {j : Nat} (cx : Cx_ p s m c args cc nL own w) (hW : Hd_ w a H) (hS : Fr_ w s.heap H locs) (hi : i < 1) (hxj : x = nI j) (hj : j < 1) (hd : decode cc pc = .ok (.lastore, 1)) (kk : ∀ (H1 : Heap) (locs1 : List Loc), Hd_ w (sl_ a 40 i j y) H1 → Fr_ w s.heap H1 locs1 → W p l e R s m args below meth c H1 locs1 cells slots Q (F0 m (pc + 1) ls rest)) : W p l e R s m args below meth c H locs cells slots Q (F0 m pc ls (.long y :: .int x :: .ref (ad_ w 40 i) :: rest)) := by
  have he : en_ w (sl_ a 40 i j y) 40 i = .inl (ca_ w 1, 1, .inr (.inl (vp_updL (fun q => gl_ a 40 i q) j y))) := by
    show (.inl (ca_ w 1, 1, .inr (.inl (fun q => gl_ (sl_ a 40 i j y) 40 i q))) : va_E) = .inl (ca_ w 1, 1, .inr (.inl (vp_updL (fun q => gl_ a 40 i q) j y)))
    have e : (fun q => gl_ (sl_ a 40 i j y) 40 i q) = vp_updL (fun q => gl_ a 40 i q) j y := by funext q; simp [gi_si, gl_sl, upd, vp_updL]
    rw [e]
  exact rg_last (k := 40) (a' := sl_ a 40 i j y) cx.1 cx.2.1 cx.2.2.2.2.2.1 cx.2.2.2.2.2.2.1 hW hS hi rfl hxj hj (by decide) he (fun k' i' h => en_sl w a 40 i j y k' i' h) hd kk
theorem al_1 {x : Int32} {j : Nat} (cx : Cx_ p s m c args cc nL own w) (hW : Hd_ w a H) (hi : i < 1) (hxj : x = nI j) (hj : j < 8) (hd : decode cc pc = .ok (.aaload, 1)) (kk : W p l e R s m args below meth c H locs cells slots Q (F0 m (pc + 1) ls (.ref (ad_ w 6 j) :: rest))) : W p l e R s m args below meth c H locs cells slots Q (F0 m pc ls (.int x :: .ref (ad_ w 1 i) :: rest)) :=
  rg_aald (k := 1) (t0 := 2) cx.1 cx.2.1 cx.2.2.2.2.2.1 hW hi rfl rfl rfl hxj hj (by decide) rfl hd kk
theorem al_2 {x : Int32} {j : Nat} (cx : Cx_ p s m c args cc nL own w) (hW : Hd_ w a H) (hi : i < 1) (hxj : x = nI j) (hj : j < 6) (hd : decode cc pc = .ok (.aaload, 1)) (kk : W p l e R s m args below meth c H locs cells slots Q (F0 m (pc + 1) ls (.ref (ad_ w 9 j) :: rest))) : W p l e R s m args below meth c H locs cells slots Q (F0 m pc ls (.int x :: .ref (ad_ w 2 i) :: rest)) :=
  rg_aald (k := 2) (t0 := 3) cx.1 cx.2.1 cx.2.2.2.2.2.1 hW hi rfl rfl rfl hxj hj (by decide) rfl hd kk
theorem al_3 {x : Int32} {j : Nat} (cx : Cx_ p s m c args cc nL own w) (hW : Hd_ w a H) (hi : i < 1) (hxj : x = nI j) (hj : j < 8) (hd : decode cc pc = .ok (.aaload, 1)) (kk : W p l e R s m args below meth c H locs cells slots Q (F0 m (pc + 1) ls (.ref (ad_ w 10 j) :: rest))) : W p l e R s m args below meth c H locs cells slots Q (F0 m pc ls (.int x :: .ref (ad_ w 3 i) :: rest)) :=
  rg_aald (k := 3) (t0 := 4) cx.1 cx.2.1 cx.2.2.2.2.2.1 hW hi rfl rfl rfl hxj hj (by decide) rfl hd kk
end FR
end
section
/-! what each call needs of its callee, the tools of the walks, the JDK's Math -/
theorem cw_X2_startLayers : Cw_ yX2_startLayers (.code yX2_startLayers cX2_startLayers 3 none) 1 := ⟨nw_267, nw_2, by decide +kernel, by decide +kernel, by decide +kernel⟩
theorem cw_X2_bearByOwnContribution : Cw_ yX2_bearByOwnContribution (.code yX2_bearByOwnContribution cX2_bearByOwnContribution 4 none) 1 := ⟨nw_272, nw_2, by decide +kernel, by decide +kernel, by decide +kernel⟩
theorem cw_X2_bearByCapital : Cw_ yX2_bearByCapital (.code yX2_bearByCapital cX2_bearByCapital 3 none) 0 := ⟨nw_282, nw_2, by decide +kernel, by decide +kernel, by decide +kernel⟩
theorem cw_X2_bearByContributions : Cw_ yX2_bearByContributions (.code yX2_bearByContributions cX2_bearByContributions 2 none) 0 := ⟨nw_289, nw_2, by decide +kernel, by decide +kernel, by decide +kernel⟩
theorem cw_X2_bearByCalls : Cw_ yX2_bearByCalls (.code yX2_bearByCalls cX2_bearByCalls 2 none) 0 := ⟨nw_315, nw_2, by decide +kernel, by decide +kernel, by decide +kernel⟩
theorem cw_X2_leaveTheRest : Cw_ yX2_leaveTheRest (.code yX2_leaveTheRest cX2_leaveTheRest 1 none) 0 := ⟨nw_319, nw_2, by decide +kernel, by decide +kernel, by decide +kernel⟩
theorem cw_X2_bear : Cw_ yX2_bear (.code yX2_bear cX2_bear 4 none) 2 := ⟨nw_278, nw_2, by decide +kernel, by decide +kernel, by decide +kernel⟩
theorem cw_X3_split : Cw_ yX3_split (.code yX3_split cX3_split 6 none) 1 := ⟨nw_293, nw_3, by decide +kernel, by decide +kernel, by decide +kernel⟩
theorem cw_X3_bearWhole : Cw_ yX3_bearWhole (.code yX3_bearWhole cX3_bearWhole 2 none) 0 := ⟨nw_296, nw_3, by decide +kernel, by decide +kernel, by decide +kernel⟩
theorem cw_X3_bearRounded : Cw_ yX3_bearRounded (.code yX3_bearRounded cX3_bearRounded 8 none) 2 := ⟨nw_299, nw_3, by decide +kernel, by decide +kernel, by decide +kernel⟩
theorem cw_X3_roundDown : Cw_ yX3_roundDown (.code yX3_roundDown cX3_roundDown 15 none) 3 := ⟨nw_302, nw_3, by decide +kernel, by decide +kernel, by decide +kernel⟩
theorem cw_X3_giveOneMore : Cw_ yX3_giveOneMore (.code yX3_giveOneMore cX3_giveOneMore 3 none) 0 := ⟨nw_306, nw_3, by decide +kernel, by decide +kernel, by decide +kernel⟩
theorem cw_X4_member : Cw_ yX4_member (.code yX4_member cX4_member 3 (some .int)) 1 := ⟨nw_117, nw_1, by decide +kernel, by decide +kernel, by decide +kernel⟩
theorem cw_X4_instrument : Cw_ yX4_instrument (.code yX4_instrument cX4_instrument 5 (some .int)) 3 := ⟨nw_147, nw_1, by decide +kernel, by decide +kernel, by decide +kernel⟩
theorem cw_X4_capital : Cw_ yX4_capital (.code yX4_capital cX4_capital 3 (some .long)) 1 := ⟨nw_155, nw_1, by decide +kernel, by decide +kernel, by decide +kernel⟩
theorem cw_X4_move : Cw_ yX4_move (.code yX4_move cX4_move 4 none) 3 := ⟨nw_168, nw_1, by decide +kernel, by decide +kernel, by decide +kernel⟩
theorem cw_X4_bid : Cw_ yX4_bid (.code yX4_bid cX4_bid 4 none) 3 := ⟨nw_180, nw_1, by decide +kernel, by decide +kernel, by decide +kernel⟩
theorem cw_X4_deposit : Cw_ yX4_deposit (.code yX4_deposit cX4_deposit 5 (some .long)) 2 := ⟨nw_191, nw_1, by decide +kernel, by decide +kernel, by decide +kernel⟩
theorem cw_X4_withdraw : Cw_ yX4_withdraw (.code yX4_withdraw cX4_withdraw 5 (some .long)) 2 := ⟨nw_206, nw_1, by decide +kernel, by decide +kernel, by decide +kernel⟩
theorem cw_X4_trade : Cw_ yX4_trade (.code yX4_trade cX4_trade 10 (some .int)) 5 := ⟨nw_213, nw_1, by decide +kernel, by decide +kernel, by decide +kernel⟩
theorem cw_X4_mark : Cw_ yX4_mark (.code yX4_mark cX4_mark 6 (some .int)) 2 := ⟨nw_224, nw_1, by decide +kernel, by decide +kernel, by decide +kernel⟩
theorem cw_X4_margin : Cw_ yX4_margin (.code yX4_margin cX4_margin 2 (some .long)) 1 := ⟨nw_234, nw_1, by decide +kernel, by decide +kernel, by decide +kernel⟩
theorem cw_X4_called : Cw_ yX4_called (.code yX4_called cX4_called 2 (some .long)) 1 := ⟨nw_241, nw_1, by decide +kernel, by decide +kernel, by decide +kernel⟩
theorem cw_X4_declare : Cw_ yX4_declare (.code yX4_declare cX4_declare 3 (some .int)) 0 := ⟨nw_91, nw_1, by decide +kernel, by decide +kernel, by decide +kernel⟩
theorem cw_X4_closeOut : Cw_ yX4_closeOut (.code yX4_closeOut cX4_closeOut 2 (some .long)) 1 := ⟨nw_248, nw_1, by decide +kernel, by decide +kernel, by decide +kernel⟩
theorem cw_X4_told : Cw_ yX4_told (.code yX4_told cX4_told 3 (some .long)) 2 := ⟨nw_329, nw_1, by decide +kernel, by decide +kernel, by decide +kernel⟩
theorem cw_X4_position : Cw_ yX4_position (.code yX4_position cX4_position 3 (some .int)) 2 := ⟨nw_337, nw_1, by decide +kernel, by decide +kernel, by decide +kernel⟩
theorem cw_X4_bore : Cw_ yX4_bore (.code yX4_bore cX4_bore 2 (some .long)) 1 := ⟨nw_344, nw_1, by decide +kernel, by decide +kernel, by decide +kernel⟩
theorem cw_X4_all : Cw_ yX4_all (.code yX4_all cX4_all 2 (some .long)) 1 := ⟨nw_352, nw_1, by decide +kernel, by decide +kernel, by decide +kernel⟩
theorem cw_X4_need : Cw_ yX4_need (.code yX4_need cX4_need 1 none) 1 := ⟨nw_124, nw_1, by decide +kernel, by decide +kernel, by decide +kernel⟩
theorem cw_X4_needStanding : Cw_ yX4_needStanding (.code yX4_needStanding cX4_needStanding 2 none) 2 := ⟨nw_194, nw_1, by decide +kernel, by decide +kernel, by decide +kernel⟩
theorem cw_X4_within : Cw_ yX4_within (.code yX4_within cX4_within 6 (some .boolean)) 3 := ⟨nw_121, nw_1, by decide +kernel, by decide +kernel, by decide +kernel⟩
theorem cw_X4_isTooMuch : Cw_ yX4_isTooMuch (.code yX4_isTooMuch cX4_isTooMuch 2 (some .boolean)) 1 := ⟨nw_158, nw_1, by decide +kernel, by decide +kernel, by decide +kernel⟩
theorem cw_X4_isTooMany : Cw_ yX4_isTooMany (.code yX4_isTooMany cX4_isTooMany 1 (some .boolean)) 1 := ⟨nw_217, nw_1, by decide +kernel, by decide +kernel, by decide +kernel⟩
theorem cw_X4_isMember : Cw_ yX4_isMember (.code yX4_isMember cX4_isMember 2 (some .boolean)) 1 := ⟨nw_183, nw_1, by decide +kernel, by decide +kernel, by decide +kernel⟩
theorem cw_X4_isInstrument : Cw_ yX4_isInstrument (.code yX4_isInstrument cX4_isInstrument 2 (some .boolean)) 1 := ⟨nw_172, nw_1, by decide +kernel, by decide +kernel, by decide +kernel⟩
theorem cw_X4_countLiveBelowZero : Cw_ yX4_countLiveBelowZero (.code yX4_countLiveBelowZero cX4_countLiveBelowZero 3 (some .int)) 0 := ⟨nw_227, nw_1, by decide +kernel, by decide +kernel, by decide +kernel⟩
theorem cw_X4_marginOf : Cw_ yX4_marginOf (.code yX4_marginOf cX4_marginOf 5 (some .long)) 1 := ⟨nw_97, nw_1, by decide +kernel, by decide +kernel, by decide +kernel⟩
theorem cw_X4_lossUnder : Cw_ yX4_lossUnder (.code yX4_lossUnder cX4_lossUnder 6 (some .long)) 2 := ⟨nw_100, nw_1, by decide +kernel, by decide +kernel, by decide +kernel⟩
theorem cw_X4_extraOf : Cw_ yX4_extraOf (.code yX4_extraOf cX4_extraOf 6 (some .long)) 1 := ⟨nw_106, nw_1, by decide +kernel, by decide +kernel, by decide +kernel⟩
theorem cw_X4_shortfallOf : Cw_ yX4_shortfallOf (.code yX4_shortfallOf cX4_shortfallOf 2 (some .long)) 1 := ⟨nw_94, nw_1, by decide +kernel, by decide +kernel, by decide +kernel⟩
theorem cw_X4_sumCash : Cw_ yX4_sumCash (.code yX4_sumCash cX4_sumCash 4 (some .long)) 0 := ⟨nw_356, nw_1, by decide +kernel, by decide +kernel, by decide +kernel⟩
theorem cw_X4_sumContributions : Cw_ yX4_sumContributions (.code yX4_sumContributions cX4_sumContributions 4 (some .long)) 0 := ⟨nw_359, nw_1, by decide +kernel, by decide +kernel, by decide +kernel⟩
theorem cw_X4_sumUnitsOpen : Cw_ yX4_sumUnitsOpen (.code yX4_sumUnitsOpen cX4_sumUnitsOpen 5 (some .long)) 0 := ⟨nw_362, nw_1, by decide +kernel, by decide +kernel, by decide +kernel⟩
theorem cw_X4_startPlan : Cw_ yX4_startPlan (.code yX4_startPlan cX4_startPlan 2 none) 0 := ⟨nw_251, nw_1, by decide +kernel, by decide +kernel, by decide +kernel⟩
theorem cw_X4_planTakers : Cw_ yX4_planTakers (.code yX4_planTakers cX4_planTakers 4 (some .boolean)) 1 := ⟨nw_254, nw_1, by decide +kernel, by decide +kernel, by decide +kernel⟩
theorem cw_X4_leastBidder : Cw_ yX4_leastBidder (.code yX4_leastBidder cX4_leastBidder 4 (some .int)) 1 := ⟨nw_257, nw_1, by decide +kernel, by decide +kernel, by decide +kernel⟩
theorem cw_X4_planTaking : Cw_ yX4_planTaking (.code yX4_planTaking cX4_planTaking 7 (some .boolean)) 3 := ⟨nw_260, nw_1, by decide +kernel, by decide +kernel, by decide +kernel⟩
theorem cw_X4_planLayers : Cw_ yX4_planLayers (.code yX4_planLayers cX4_planLayers 2 none) 1 := ⟨nw_263, nw_1, by decide +kernel, by decide +kernel, by decide +kernel⟩
theorem cw_X4_weighContributions : Cw_ yX4_weighContributions (.code yX4_weighContributions cX4_weighContributions 2 none) 0 := ⟨nw_285, nw_1, by decide +kernel, by decide +kernel, by decide +kernel⟩
theorem cw_X4_weighCalls : Cw_ yX4_weighCalls (.code yX4_weighCalls cX4_weighCalls 4 none) 0 := ⟨nw_310, nw_1, by decide +kernel, by decide +kernel, by decide +kernel⟩
theorem cw_X4_carryOutPlan : Cw_ yX4_carryOutPlan (.code yX4_carryOutPlan cX4_carryOutPlan 3 none) 1 := ⟨nw_322, nw_1, by decide +kernel, by decide +kernel, by decide +kernel⟩
theorem cw_X5_thrown : Cw_ yX5_thrown (.code yX5_thrown cX5_thrown 1 (some .int)) 0 := ⟨nw_399, nw_6, by decide +kernel, by decide +kernel, by decide +kernel⟩
theorem cw_X5_within : Cw_ yX5_within (.code yX5_within cX5_within 6 (some .boolean)) 3 := ⟨nw_407, nw_6, by decide +kernel, by decide +kernel, by decide +kernel⟩
theorem cw_X5_isMember : Cw_ yX5_isMember (.code yX5_isMember cX5_isMember 2 (some .boolean)) 1 := ⟨nw_437, nw_6, by decide +kernel, by decide +kernel, by decide +kernel⟩
theorem cw_X5_isInstrument : Cw_ yX5_isInstrument (.code yX5_isInstrument cX5_isInstrument 2 (some .boolean)) 1 := ⟨nw_429, nw_6, by decide +kernel, by decide +kernel, by decide +kernel⟩
theorem cw_X5_isFar : Cw_ yX5_isFar (.code yX5_isFar cX5_isFar 2 (some .boolean)) 1 := ⟨nw_419, nw_6, by decide +kernel, by decide +kernel, by decide +kernel⟩
theorem cw_X5_member : Cw_ yX5_member (.code yX5_member cX5_member 3 (some .int)) 1 := ⟨nw_403, nw_6, by decide +kernel, by decide +kernel, by decide +kernel⟩
theorem cw_X5_instrument : Cw_ yX5_instrument (.code yX5_instrument cX5_instrument 4 (some .int)) 3 := ⟨nw_411, nw_6, by decide +kernel, by decide +kernel, by decide +kernel⟩
theorem cw_X5_capital : Cw_ yX5_capital (.code yX5_capital cX5_capital 3 (some .long)) 1 := ⟨nw_416, nw_6, by decide +kernel, by decide +kernel, by decide +kernel⟩
theorem cw_X5_move : Cw_ yX5_move (.code yX5_move cX5_move 4 none) 3 := ⟨nw_426, nw_6, by decide +kernel, by decide +kernel, by decide +kernel⟩
theorem cw_X5_bid : Cw_ yX5_bid (.code yX5_bid cX5_bid 4 none) 3 := ⟨nw_434, nw_6, by decide +kernel, by decide +kernel, by decide +kernel⟩
theorem cw_X5_deposit : Cw_ yX5_deposit (.code yX5_deposit cX5_deposit 4 (some .long)) 2 := ⟨nw_441, nw_6, by decide +kernel, by decide +kernel, by decide +kernel⟩
theorem cw_X5_marginOf : Cw_ yX5_marginOf (.code yX5_marginOf cX5_marginOf 8 (some .long)) 1 := ⟨nw_448, nw_6, by decide +kernel, by decide +kernel, by decide +kernel⟩
theorem cw_X5_withdraw : Cw_ yX5_withdraw (.code yX5_withdraw cX5_withdraw 4 (some .long)) 2 := ⟨nw_445, nw_6, by decide +kernel, by decide +kernel, by decide +kernel⟩
theorem cw_X5_trade : Cw_ yX5_trade (.code yX5_trade cX5_trade 11 (some .int)) 5 := ⟨nw_452, nw_6, by decide +kernel, by decide +kernel, by decide +kernel⟩
theorem cw_X5_mark : Cw_ yX5_mark (.code yX5_mark cX5_mark 7 (some .int)) 2 := ⟨nw_459, nw_6, by decide +kernel, by decide +kernel, by decide +kernel⟩
theorem cw_X5_margin : Cw_ yX5_margin (.code yX5_margin cX5_margin 2 (some .long)) 1 := ⟨nw_463, nw_6, by decide +kernel, by decide +kernel, by decide +kernel⟩
theorem cw_X5_callOf : Cw_ yX5_callOf (.code yX5_callOf cX5_callOf 4 (some .long)) 1 := ⟨nw_470, nw_6, by decide +kernel, by decide +kernel, by decide +kernel⟩
theorem cw_X5_called : Cw_ yX5_called (.code yX5_called cX5_called 2 (some .long)) 1 := ⟨nw_467, nw_6, by decide +kernel, by decide +kernel, by decide +kernel⟩
theorem cw_X5_declare : Cw_ yX5_declare (.code yX5_declare cX5_declare 3 (some .int)) 0 := ⟨nw_474, nw_6, by decide +kernel, by decide +kernel, by decide +kernel⟩
theorem cw_X5_change : Cw_ yX5_change (.code yX5_change cX5_change 4 none) 2 := ⟨nw_487, nw_6, by decide +kernel, by decide +kernel, by decide +kernel⟩
theorem cw_X5_bestBid : Cw_ yX5_bestBid (.code yX5_bestBid cX5_bestBid 4 (some .int)) 1 := ⟨nw_484, nw_6, by decide +kernel, by decide +kernel, by decide +kernel⟩
theorem cw_X5_give : Cw_ yX5_give (.code yX5_give cX5_give 8 none) 2 := ⟨nw_481, nw_6, by decide +kernel, by decide +kernel, by decide +kernel⟩
theorem cw_X5_divide : Cw_ yX5_divide (.code yX5_divide cX5_divide 11 none) 3 := ⟨nw_499, nw_6, by decide +kernel, by decide +kernel, by decide +kernel⟩
theorem cw_X5_share : Cw_ yX5_share (.code yX5_share cX5_share 9 (some .long)) 1 := ⟨nw_496, nw_6, by decide +kernel, by decide +kernel, by decide +kernel⟩
theorem cw_X5_bear : Cw_ yX5_bear (.code yX5_bear cX5_bear 7 (some .long)) 1 := ⟨nw_493, nw_6, by decide +kernel, by decide +kernel, by decide +kernel⟩
theorem cw_X5_closeOut : Cw_ yX5_closeOut (.code yX5_closeOut cX5_closeOut 5 (some .long)) 1 := ⟨nw_478, nw_6, by decide +kernel, by decide +kernel, by decide +kernel⟩
theorem cw_X5_wouldLose : Cw_ yX5_wouldLose (.code yX5_wouldLose cX5_wouldLose 7 (some .long)) 1 := ⟨nw_490, nw_6, by decide +kernel, by decide +kernel, by decide +kernel⟩
theorem cw_X5_told : Cw_ yX5_told (.code yX5_told cX5_told 3 (some .long)) 2 := ⟨nw_504, nw_6, by decide +kernel, by decide +kernel, by decide +kernel⟩
theorem cw_X5_position : Cw_ yX5_position (.code yX5_position cX5_position 3 (some .int)) 2 := ⟨nw_508, nw_6, by decide +kernel, by decide +kernel, by decide +kernel⟩
theorem cw_X5_bore : Cw_ yX5_bore (.code yX5_bore cX5_bore 2 (some .long)) 1 := ⟨nw_512, nw_6, by decide +kernel, by decide +kernel, by decide +kernel⟩
theorem cw_X5_all : Cw_ yX5_all (.code yX5_all cX5_all 5 (some .long)) 1 := ⟨nw_516, nw_6, by decide +kernel, by decide +kernel, by decide +kernel⟩
theorem cw_L_member : Cw_ yL_member (.codeWith yL_member cL_member 5 (some .int) [(0, 9, 12, 13)]) 3 := ⟨nw_112, nw_0, by decide +kernel, by decide +kernel, by decide +kernel⟩
theorem cw_L_instrument : Cw_ yL_instrument (.codeWith yL_instrument cL_instrument 6 (some .int) [(0, 12, 15, 13)]) 5 := ⟨nw_143, nw_0, by decide +kernel, by decide +kernel, by decide +kernel⟩
theorem cw_L_capital : Cw_ yL_capital (.codeWith yL_capital cL_capital 5 (some .int) [(0, 8, 11, 13)]) 3 := ⟨nw_151, nw_0, by decide +kernel, by decide +kernel, by decide +kernel⟩
theorem cw_L_move : Cw_ yL_move (.codeWith yL_move cL_move 5 (some .int) [(0, 7, 10, 13)]) 4 := ⟨nw_164, nw_0, by decide +kernel, by decide +kernel, by decide +kernel⟩
theorem cw_L_bid : Cw_ yL_bid (.codeWith yL_bid cL_bid 5 (some .int) [(0, 7, 10, 13)]) 4 := ⟨nw_176, nw_0, by decide +kernel, by decide +kernel, by decide +kernel⟩
theorem cw_L_deposit : Cw_ yL_deposit (.codeWith yL_deposit cL_deposit 6 (some .int) [(0, 10, 13, 13), (0, 10, 17, 34)]) 4 := ⟨nw_186, nw_0, by decide +kernel, by decide +kernel, by decide +kernel⟩
theorem cw_L_withdraw : Cw_ yL_withdraw (.codeWith yL_withdraw cL_withdraw 6 (some .int) [(0, 10, 13, 13), (0, 10, 17, 34)]) 4 := ⟨nw_202, nw_0, by decide +kernel, by decide +kernel, by decide +kernel⟩
theorem cw_L_trade : Cw_ yL_trade (.codeWith yL_trade cL_trade 8 (some .int) [(0, 16, 19, 13), (0, 16, 23, 34)]) 7 := ⟨nw_209, nw_0, by decide +kernel, by decide +kernel, by decide +kernel⟩
theorem cw_L_mark : Cw_ yL_mark (.codeWith yL_mark cL_mark 5 (some .int) [(0, 10, 13, 13)]) 4 := ⟨nw_220, nw_0, by decide +kernel, by decide +kernel, by decide +kernel⟩
theorem cw_L_margin : Cw_ yL_margin (.codeWith yL_margin cL_margin 4 (some .int) [(0, 8, 11, 13)]) 3 := ⟨nw_230, nw_0, by decide +kernel, by decide +kernel, by decide +kernel⟩
theorem cw_L_called : Cw_ yL_called (.codeWith yL_called cL_called 4 (some .int) [(0, 8, 11, 13)]) 3 := ⟨nw_237, nw_0, by decide +kernel, by decide +kernel, by decide +kernel⟩
theorem cw_L_closeOut : Cw_ yL_closeOut (.codeWith yL_closeOut cL_closeOut 4 (some .int) [(0, 8, 11, 13), (0, 8, 14, 34)]) 3 := ⟨nw_244, nw_0, by decide +kernel, by decide +kernel, by decide +kernel⟩
theorem cw_L_told : Cw_ yL_told (.codeWith yL_told cL_told 5 (some .int) [(0, 9, 12, 13)]) 4 := ⟨nw_325, nw_0, by decide +kernel, by decide +kernel, by decide +kernel⟩
theorem cw_L_position : Cw_ yL_position (.codeWith yL_position cL_position 5 (some .int) [(0, 10, 13, 13)]) 4 := ⟨nw_333, nw_0, by decide +kernel, by decide +kernel, by decide +kernel⟩
theorem cw_L_bore : Cw_ yL_bore (.codeWith yL_bore cL_bore 4 (some .int) [(0, 8, 11, 13)]) 3 := ⟨nw_340, nw_0, by decide +kernel, by decide +kernel, by decide +kernel⟩
theorem cw_L_all : Cw_ yL_all (.codeWith yL_all cL_all 4 (some .int) [(0, 8, 11, 13)]) 3 := ⟨nw_348, nw_0, by decide +kernel, by decide +kernel, by decide +kernel⟩
theorem bz_0 {P : Prop} [Decidable P] (h : (if P then (1 : Int32) else 0) = 0) : ¬ P := fun q => by rw [if_pos q] at h; exact absurd h (by decide)
theorem bz_1 {P : Prop} [Decidable P] (h : ¬ (if P then (1 : Int32) else 0) = 0) : P := Classical.byContradiction fun q => h (if_neg q)
theorem bz_b {P : Prop} [Decidable P] : (if P then (1 : Int32) else 0) = 0 ∨ (if P then (1 : Int32) else 0) = 1 := by
  by_cases h : P
  · exact Or.inr (if_pos h)
  · exact Or.inl (if_neg h)
def mx_ (x y : Int64) : Int64 := if y < x then x else y
def mn_ (x y : Int64) : Int64 := if y < x then y else x
def ab_ (x : Int32) : Int32 := if 0 ≤ x then x else 0 - x
section MM
variable {p : Program} {l : Launch} {e : Env} {R : Room} {s : State} {m : MethodId} {args : Array Value} {below : List Frame} {meth : Method} {c : Code} {H : Heap} {locs : List Loc} {cells slots : Nat} {Q : State → Prop}
variable {cc : ByteArray} {pc nL : Nat} {own : String} {ls : Array Slot} {rest : List Value} {w : Gh_} {lv : List (Nat × Value)} {index : Nat}
theorem tp_i {x y : Int32} (h : x = y) (k : W p l e R s m args below meth c H locs cells slots Q (F0 m pc ls (.int y :: rest))) : W p l e R s m args below meth c H locs cells slots Q (F0 m pc ls (.int x :: rest)) := h ▸ k
theorem tp_j {x y : Int64} (h : x = y) (k : W p l e R s m args below meth c H locs cells slots Q (F0 m pc ls (.long y :: rest))) : W p l e R s m args below meth c H locs cells slots Q (F0 m pc ls (.long x :: rest)) := h ▸ k
theorem mm_max_w : Cond.code Lib.Math.max.name Lib.Math.max.code 2 (some .int) ∈ nd_ := List.mem_filter.mpr ⟨List.mem_append_right _ (List.mem_of_getElem? (i := 512) (by decide +kernel)), by decide +kernel⟩
theorem mm_max {x y : Int32} (cx : Cx_ p s m c args cc nL own w) (hl : lv_has ls nL lv) (hlk : Cond.methodLink own index ⟨"java/lang/Math", "max", "(II)I"⟩ ∈ nd_) (hf : 1 ≤ R.frames) (hlo : (rest.map fun v => v.category).sum + 13 ≤ R.locals) (hc : cells ≤ R.cells) (hs : slots ≤ R.slots) (hd : decode cc pc = .ok (.invokestatic index, 3)) (kk : W p l e R s m args below meth c H locs cells slots Q (F0 m (pc + 3) ls (.int (if x < y then y else x) :: rest))) : W p l e R s m args below meth c H locs cells slots Q (F0 m pc ls (.int y :: .int x :: rest)) :=
  va_mmax cx.1 cx.2.1 (cx.2.2.1.trans hl.1.symm) cx.2.2.2.1 (cx.2.2.2.2.1 _ hlk) (cx.2.2.2.2.1 _ nw_364) (cx.2.2.2.2.1 _ nw_12) (cx.2.2.2.2.1 _ mm_max_w) hf hlo hc hs hd kk
theorem mm_maxl_w : Cond.code Lib.MathLoose.max_long.x Lib.MathLoose.max_long.code 4 (some .long) ∈ nd_ := List.mem_filter.mpr ⟨List.mem_append_right _ (List.mem_of_getElem? (i := 174) (by decide +kernel)), by decide +kernel⟩
theorem mm_maxl {x y : Int64} (cx : Cx_ p s m c args cc nL own w) (hl : lv_has ls nL lv) (hlk : Cond.methodLink own index ⟨"java/lang/Math", "max", "(JJ)J"⟩ ∈ nd_) (hf : 1 ≤ R.frames) (hlo : (rest.map fun v => v.category).sum + 15 ≤ R.locals) (hc : cells ≤ R.cells) (hs : slots ≤ R.slots) (hd : decode cc pc = .ok (.invokestatic index, 3)) (kk : W p l e R s m args below meth c H locs cells slots Q (F0 m (pc + 3) ls (.long (mx_ x y) :: rest))) : W p l e R s m args below meth c H locs cells slots Q (F0 m pc ls (.long y :: .long x :: rest)) :=
  va_mmax_long cx.1 cx.2.1 (cx.2.2.1.trans hl.1.symm) cx.2.2.2.1 (cx.2.2.2.2.1 _ hlk) (cx.2.2.2.2.1 _ nw_102) (cx.2.2.2.2.1 _ nw_12) (cx.2.2.2.2.1 _ mm_maxl_w) hf hlo hc hs hd kk
theorem mm_minl_w : Cond.code Lib.MathLoose.min_long.x Lib.MathLoose.min_long.code 4 (some .long) ∈ nd_ := List.mem_filter.mpr ⟨List.mem_append_right _ (List.mem_of_getElem? (i := 411) (by decide +kernel)), by decide +kernel⟩
theorem mm_minl {x y : Int64} (cx : Cx_ p s m c args cc nL own w) (hl : lv_has ls nL lv) (hlk : Cond.methodLink own index ⟨"java/lang/Math", "min", "(JJ)J"⟩ ∈ nd_) (hf : 1 ≤ R.frames) (hlo : (rest.map fun v => v.category).sum + 15 ≤ R.locals) (hc : cells ≤ R.cells) (hs : slots ≤ R.slots) (hd : decode cc pc = .ok (.invokestatic index, 3)) (kk : W p l e R s m args below meth c H locs cells slots Q (F0 m (pc + 3) ls (.long (mn_ x y) :: rest))) : W p l e R s m args below meth c H locs cells slots Q (F0 m pc ls (.long y :: .long x :: rest)) :=
  va_mmin_long cx.1 cx.2.1 (cx.2.2.1.trans hl.1.symm) cx.2.2.2.1 (cx.2.2.2.2.1 _ hlk) (cx.2.2.2.2.1 _ nw_274) (cx.2.2.2.2.1 _ nw_12) (cx.2.2.2.2.1 _ mm_minl_w) hf hlo hc hs hd kk
theorem mm_abs_w : Cond.code Lib.Math.abs.name Lib.Math.abs.code 1 (some .int) ∈ nd_ := List.mem_filter.mpr ⟨List.mem_append_right _ (List.mem_of_getElem? (i := 181) (by decide +kernel)), by decide +kernel⟩
theorem mm_abs {x : Int32} (cx : Cx_ p s m c args cc nL own w) (hl : lv_has ls nL lv) (hlk : Cond.methodLink own index ⟨"java/lang/Math", "abs", "(I)I"⟩ ∈ nd_) (hf : 1 ≤ R.frames) (hlo : (rest.map fun v => v.category).sum + 13 ≤ R.locals) (hc : cells ≤ R.cells) (hs : slots ≤ R.slots) (hd : decode cc pc = .ok (.invokestatic index, 3)) (kk : W p l e R s m args below meth c H locs cells slots Q (F0 m (pc + 3) ls (.int (ab_ x) :: rest))) : W p l e R s m args below meth c H locs cells slots Q (F0 m pc ls (.int x :: rest)) :=
  va_mabs cx.1 cx.2.1 (cx.2.2.1.trans hl.1.symm) cx.2.2.2.1 (cx.2.2.2.2.1 _ hlk) (cx.2.2.2.2.1 _ nw_108) (cx.2.2.2.2.1 _ nw_12) (cx.2.2.2.2.1 _ mm_abs_w) hf hlo hc hs hd kk
end MM
end
section
/-! MarginHouse: the small questions, the throws -/
abbrev wi_ (x lo hi : Int64) : Prop := ¬ x < lo ∧ ¬ hi < x
set_option maxHeartbeats 4000000 in
set_option maxRecDepth 100000 in
theorem c_X4_within (l : Launch) {w : Gh_} (hI : In_ w) (a : St_) (x lo hi : Int64) : Fn_ l w yX4_within (.code yX4_within cX4_within 6 (some .boolean)) { frames := 0, cells := 0, slots := 0, locals := 0 } 0 0 [.long x, .long lo, .long hi] a (.inl (some (.int (if wi_ x lo hi then 1 else 0)))) a := by
  refine Fn_of hI (by decide +kernel) (Nat.le_of_ble_eq_true rfl) ?_
  intro p e s m below meth c ls cx hr hlk hno hW hS hl
  replace cx : Cx_ p s m c _ cX4_within 6 "MarginHouse" w := cx
  replace hl : lv_has ls 6 [(0, .long x), (2, .long lo), (4, .long hi)] := hl
  obtain ⟨H, hH⟩ : ∃ H, s.heap = H := ⟨_, rfl⟩
  rw [hH] at hW
  have hS : Fr_ w s.heap H [] := by rw [← hH]; exact hS
  obtain ⟨locs, hlocs⟩ : ∃ x : List Loc, x = [] := ⟨_, rfl⟩
  rw [← hlocs] at hS ⊢
  rw [show W p l e _ s m _ below meth c s.heap locs 0 0 _ (F0 m 0 ls []) ↔ W p l e _ s m _ below meth c H locs 0 0 _ (F0 m 0 ls []) from by rw [hH]]
  refine lv_lload_n cx.1 cx.2.1 dX4_within_0 rfl (lv_at hl 0 rfl) ?_
  refine lv_lload_n cx.1 cx.2.1 dX4_within_1 rfl (lv_at hl 1 rfl) ?_
  refine lc_lt (tgt := 17) cx.1 cx.2.1 dX4_within_2 dX4_within_3 (by decide) (fun h2 => ?_) (fun h2 => ?_)
  · skip
    refine lv_iconst (v := 0) cx.1 cx.2.1 dX4_within_17 (by decide) ?_
    exact cr_z cx hr hlk (by decide) hW hS (Nat.le_of_ble_eq_true rfl) (Nat.le_of_ble_eq_true rfl) dX4_within_18 (by simp [h2]) rfl
  · skip
    refine lv_lload_n cx.1 cx.2.1 dX4_within_6 rfl (lv_at hl 0 rfl) ?_
    refine lv_lload cx.1 cx.2.1 dX4_within_7 (lv_at hl 2 rfl) ?_
    refine lc_gt (tgt := 17) cx.1 cx.2.1 dX4_within_9 dX4_within_10 (by decide) (fun h9 => ?_) (fun h9 => ?_)
    · skip
      refine lv_iconst (v := 0) cx.1 cx.2.1 dX4_within_17 (by decide) ?_
      exact cr_z cx hr hlk (by decide) hW hS (Nat.le_of_ble_eq_true rfl) (Nat.le_of_ble_eq_true rfl) dX4_within_18 (by simp [h2, h9]) rfl
    · skip
      refine lv_iconst (v := 1) cx.1 cx.2.1 dX4_within_13 (by decide) ?_
      refine lv_goto (tgt := 18) cx.1 cx.2.1 dX4_within_14 (by decide) ?_
      exact cr_z cx hr hlk (by decide) hW hS (Nat.le_of_ble_eq_true rfl) (Nat.le_of_ble_eq_true rfl) dX4_within_18 (by simp [h2, h9]) rfl
set_option maxHeartbeats 4000000 in
set_option maxRecDepth 100000 in
theorem c_X5_within (l : Launch) {w : Gh_} (hI : In_ w) (a : St_) (x lo hi : Int64) : Fn_ l w yX5_within (.code yX5_within cX5_within 6 (some .boolean)) { frames := 0, cells := 0, slots := 0, locals := 0 } 0 0 [.long x, .long lo, .long hi] a (.inl (some (.int (if wi_ x lo hi then 1 else 0)))) a := by
  refine Fn_of hI (by decide +kernel) (Nat.le_of_ble_eq_true rfl) ?_
  intro p e s m below meth c ls cx hr hlk hno hW hS hl
  replace cx : Cx_ p s m c _ cX5_within 6 "MarginHouseModel" w := cx
  replace hl : lv_has ls 6 [(0, .long x), (2, .long lo), (4, .long hi)] := hl
  obtain ⟨H, hH⟩ : ∃ H, s.heap = H := ⟨_, rfl⟩
  rw [hH] at hW
  have hS : Fr_ w s.heap H [] := by rw [← hH]; exact hS
  obtain ⟨locs, hlocs⟩ : ∃ x : List Loc, x = [] := ⟨_, rfl⟩
  rw [← hlocs] at hS ⊢
  rw [show W p l e _ s m _ below meth c s.heap locs 0 0 _ (F0 m 0 ls []) ↔ W p l e _ s m _ below meth c H locs 0 0 _ (F0 m 0 ls []) from by rw [hH]]
  refine lv_lload_n cx.1 cx.2.1 dX5_within_0 rfl (lv_at hl 0 rfl) ?_
  refine lv_lload_n cx.1 cx.2.1 dX5_within_1 rfl (lv_at hl 1 rfl) ?_
  refine lc_lt (tgt := 17) cx.1 cx.2.1 dX5_within_2 dX5_within_3 (by decide) (fun h2 => ?_) (fun h2 => ?_)
  · skip
    refine lv_iconst (v := 0) cx.1 cx.2.1 dX5_within_17 (by decide) ?_
    exact cr_z cx hr hlk (by decide) hW hS (Nat.le_of_ble_eq_true rfl) (Nat.le_of_ble_eq_true rfl) dX5_within_18 (by simp [h2]) rfl
  · skip
    refine lv_lload_n cx.1 cx.2.1 dX5_within_6 rfl (lv_at hl 0 rfl) ?_
    refine lv_lload cx.1 cx.2.1 dX5_within_7 (lv_at hl 2 rfl) ?_
    refine lc_gt (tgt := 17) cx.1 cx.2.1 dX5_within_9 dX5_within_10 (by decide) (fun h9 => ?_) (fun h9 => ?_)
    · skip
      refine lv_iconst (v := 0) cx.1 cx.2.1 dX5_within_17 (by decide) ?_
      exact cr_z cx hr hlk (by decide) hW hS (Nat.le_of_ble_eq_true rfl) (Nat.le_of_ble_eq_true rfl) dX5_within_18 (by simp [h2, h9]) rfl
    · skip
      refine lv_iconst (v := 1) cx.1 cx.2.1 dX5_within_13 (by decide) ?_
      refine lv_goto (tgt := 18) cx.1 cx.2.1 dX5_within_14 (by decide) ?_
      exact cr_z cx hr hlk (by decide) hW hS (Nat.le_of_ble_eq_true rfl) (Nat.le_of_ble_eq_true rfl) dX5_within_18 (by simp [h2, h9]) rfl
set_option maxHeartbeats 4000000 in
set_option maxRecDepth 100000 in
theorem c_X4_isTooMuch (l : Launch) {w : Gh_} (hI : In_ w) (a : St_) (x : Int64) : Fn_ l w yX4_isTooMuch (.code yX4_isTooMuch cX4_isTooMuch 2 (some .boolean)) { frames := 1, cells := 0, slots := 0, locals := 25 } 0 0 [.long x] a (.inl (some (.int (if ¬ wi_ x (-1000000000000000) 1000000000000000 then 1 else 0)))) a := by
  refine Fn_of hI (by decide +kernel) (Nat.le_of_ble_eq_true rfl) ?_
  intro p e s m below meth c ls cx hr hlk hno hW hS hl
  replace cx : Cx_ p s m c _ cX4_isTooMuch 2 "MarginHouse" w := cx
  replace hl : lv_has ls 2 [(0, .long x)] := hl
  obtain ⟨H, hH⟩ : ∃ H, s.heap = H := ⟨_, rfl⟩
  rw [hH] at hW
  have hS : Fr_ w s.heap H [] := by rw [← hH]; exact hS
  obtain ⟨locs, hlocs⟩ : ∃ x : List Loc, x = [] := ⟨_, rfl⟩
  rw [← hlocs] at hS ⊢
  rw [show W p l e _ s m _ below meth c s.heap locs 0 0 _ (F0 m 0 ls []) ↔ W p l e _ s m _ below meth c H locs 0 0 _ (F0 m 0 ls []) from by rw [hH]]
  refine lv_lload_n cx.1 cx.2.1 dX4_isTooMuch_0 rfl (lv_at hl 0 rfl) ?_
  refine lv_ldc2 (own := "MarginHouse") (v := -1000000000000000) cx.1 cx.2.1 cx.2.2.2.1 (cx.2.2.2.2.1 _ nw_159) dX4_isTooMuch_1 ?_
  refine lv_ldc2 (own := "MarginHouse") (v := 1000000000000000) cx.1 cx.2.1 cx.2.2.2.1 (cx.2.2.2.2.1 _ nw_160) dX4_isTooMuch_4 ?_
  refine ck_S (v := some (.int (if wi_ x (-1000000000000000) 1000000000000000 then 1 else 0))) (As := [.long x, .long (-1000000000000000), .long 1000000000000000]) (rest := []) cx hW hS hl (c_X4_within l hI a x (-1000000000000000) 1000000000000000) cw_X4_within nw_120 nw_119 rfl rfl (Nat.le_of_ble_eq_true rfl) rfl rfl ⟨Nat.le_of_ble_eq_true rfl, Nat.le_of_ble_eq_true rfl⟩ ⟨Nat.le_of_ble_eq_true rfl, Nat.le_of_ble_eq_true rfl⟩ dX4_isTooMuch_7 (fun H locs hW hS => ?_)
  refine W.eq (g2 := F0 m 10 ls [.int (if wi_ x (-1000000000000000) 1000000000000000 then 1 else 0)]) rfl ?_
  refine lv_if_ne (tgt := 17) cx.1 cx.2.1 dX4_isTooMuch_10 (by decide) (fun h10 => ?_) (fun h10 => ?_)
  · skip
    have h10 := bz_1 h10
    refine lv_iconst (v := 0) cx.1 cx.2.1 dX4_isTooMuch_17 (by decide) ?_
    exact cr_z cx hr hlk (by decide) hW hS (Nat.le_of_ble_eq_true rfl) (Nat.le_of_ble_eq_true rfl) dX4_isTooMuch_18 (by simp [h10]) rfl
  · skip
    have h10 := bz_0 h10
    refine lv_iconst (v := 1) cx.1 cx.2.1 dX4_isTooMuch_13 (by decide) ?_
    refine lv_goto (tgt := 18) cx.1 cx.2.1 dX4_isTooMuch_14 (by decide) ?_
    exact cr_z cx hr hlk (by decide) hW hS (Nat.le_of_ble_eq_true rfl) (Nat.le_of_ble_eq_true rfl) dX4_isTooMuch_18 (by simp [h10]) rfl
set_option maxHeartbeats 4000000 in
set_option maxRecDepth 100000 in
theorem c_X4_isTooMany (l : Launch) {w : Gh_} (hI : In_ w) (a : St_) (x : Int32) : Fn_ l w yX4_isTooMany (.code yX4_isTooMany cX4_isTooMany 1 (some .boolean)) { frames := 1, cells := 0, slots := 0, locals := 25 } 0 0 [.int x] a (.inl (some (.int (if ¬ wi_ x.toInt64 (-1000000) 1000000 then 1 else 0)))) a := by
  refine Fn_of hI (by decide +kernel) (Nat.le_of_ble_eq_true rfl) ?_
  intro p e s m below meth c ls cx hr hlk hno hW hS hl
  replace cx : Cx_ p s m c _ cX4_isTooMany 1 "MarginHouse" w := cx
  replace hl : lv_has ls 1 [(0, .int x)] := hl
  obtain ⟨H, hH⟩ : ∃ H, s.heap = H := ⟨_, rfl⟩
  rw [hH] at hW
  have hS : Fr_ w s.heap H [] := by rw [← hH]; exact hS
  obtain ⟨locs, hlocs⟩ : ∃ x : List Loc, x = [] := ⟨_, rfl⟩
  rw [← hlocs] at hS ⊢
  rw [show W p l e _ s m _ below meth c s.heap locs 0 0 _ (F0 m 0 ls []) ↔ W p l e _ s m _ below meth c H locs 0 0 _ (F0 m 0 ls []) from by rw [hH]]
  refine lv_iload_n cx.1 cx.2.1 dX4_isTooMany_0 rfl (lv_at hl 0 rfl) ?_
  refine lv_i2l (v := x.toInt64) cx.1 cx.2.1 dX4_isTooMany_1 rfl ?_
  refine lv_ldc2 (own := "MarginHouse") (v := -1000000) cx.1 cx.2.1 cx.2.2.2.1 (cx.2.2.2.2.1 _ nw_173) dX4_isTooMany_2 ?_
  refine lv_ldc2 (own := "MarginHouse") (v := 1000000) cx.1 cx.2.1 cx.2.2.2.1 (cx.2.2.2.2.1 _ nw_148) dX4_isTooMany_5 ?_
  refine ck_S (v := some (.int (if wi_ x.toInt64 (-1000000) 1000000 then 1 else 0))) (As := [.long x.toInt64, .long (-1000000), .long 1000000]) (rest := []) cx hW hS hl (c_X4_within l hI a x.toInt64 (-1000000) 1000000) cw_X4_within nw_120 nw_119 rfl rfl (Nat.le_of_ble_eq_true rfl) rfl rfl ⟨Nat.le_of_ble_eq_true rfl, Nat.le_of_ble_eq_true rfl⟩ ⟨Nat.le_of_ble_eq_true rfl, Nat.le_of_ble_eq_true rfl⟩ dX4_isTooMany_8 (fun H locs hW hS => ?_)
  refine W.eq (g2 := F0 m 11 ls [.int (if wi_ x.toInt64 (-1000000) 1000000 then 1 else 0)]) rfl ?_
  refine lv_if_ne (tgt := 18) cx.1 cx.2.1 dX4_isTooMany_11 (by decide) (fun h11 => ?_) (fun h11 => ?_)
  · skip
    have h11 := bz_1 h11
    refine lv_iconst (v := 0) cx.1 cx.2.1 dX4_isTooMany_18 (by decide) ?_
    exact cr_z cx hr hlk (by decide) hW hS (Nat.le_of_ble_eq_true rfl) (Nat.le_of_ble_eq_true rfl) dX4_isTooMany_19 (by simp [h11]) rfl
  · skip
    have h11 := bz_0 h11
    refine lv_iconst (v := 1) cx.1 cx.2.1 dX4_isTooMany_14 (by decide) ?_
    refine lv_goto (tgt := 19) cx.1 cx.2.1 dX4_isTooMany_15 (by decide) ?_
    exact cr_z cx hr hlk (by decide) hW hS (Nat.le_of_ble_eq_true rfl) (Nat.le_of_ble_eq_true rfl) dX4_isTooMany_19 (by simp [h11]) rfl
set_option maxHeartbeats 4000000 in
set_option maxRecDepth 100000 in
theorem c_X4_isMember (l : Launch) {w : Gh_} (hI : In_ w) (a : St_) (x : Int32) : Fn_ l w yX4_isMember (.code yX4_isMember cX4_isMember 2 (some .boolean)) { frames := 1, cells := 0, slots := 0, locals := 25 } 0 0 [.ref (ad_ w 0 0), .int x] a (.inl (some (.int (if wi_ x.toInt64 0 (gi_ a 0 0 0 - 1).toInt64 then 1 else 0)))) a := by
  refine Fn_of hI (by decide +kernel) (Nat.le_of_ble_eq_true rfl) ?_
  intro p e s m below meth c ls cx hr hlk hno hW hS hl
  replace cx : Cx_ p s m c _ cX4_isMember 2 "MarginHouse" w := cx
  replace hl : lv_has ls 2 [(0, .ref (ad_ w 0 0)), (1, .int x)] := hl
  obtain ⟨H, hH⟩ : ∃ H, s.heap = H := ⟨_, rfl⟩
  rw [hH] at hW
  have hS : Fr_ w s.heap H [] := by rw [← hH]; exact hS
  obtain ⟨locs, hlocs⟩ : ∃ x : List Loc, x = [] := ⟨_, rfl⟩
  rw [← hlocs] at hS ⊢
  rw [show W p l e _ s m _ below meth c s.heap locs 0 0 _ (F0 m 0 ls []) ↔ W p l e _ s m _ below meth c H locs 0 0 _ (F0 m 0 ls []) from by rw [hH]]
  refine lv_iload_n cx.1 cx.2.1 dX4_isMember_0 rfl (lv_at hl 1 rfl) ?_
  refine lv_i2l (v := x.toInt64) cx.1 cx.2.1 dX4_isMember_1 rfl ?_
  refine lv_lconst (v := 0) cx.1 cx.2.1 dX4_isMember_2 (by decide) ?_
  refine lv_aload_n cx.1 cx.2.1 dX4_isMember_3 rfl (lv_at hl 0 rfl) ?_
  refine gf_X4_37 cx hW (by decide) dX4_isMember_4 ?_
  refine lv_iconst (v := 1) cx.1 cx.2.1 dX4_isMember_7 (by decide) ?_
  refine lv_isub cx.1 cx.2.1 dX4_isMember_8 ?_
  refine lv_i2l (v := ((gi_ a 0 0 0) - 1).toInt64) cx.1 cx.2.1 dX4_isMember_9 rfl ?_
  refine ck_S (v := some (.int (if wi_ x.toInt64 0 (((gi_ a 0 0 0) - 1).toInt64) then 1 else 0))) (As := [.long x.toInt64, .long 0, .long (((gi_ a 0 0 0) - 1).toInt64)]) (rest := []) cx hW hS hl (c_X4_within l hI a x.toInt64 0 (((gi_ a 0 0 0) - 1).toInt64)) cw_X4_within nw_120 nw_119 rfl rfl (Nat.le_of_ble_eq_true rfl) rfl rfl ⟨Nat.le_of_ble_eq_true rfl, Nat.le_of_ble_eq_true rfl⟩ ⟨Nat.le_of_ble_eq_true rfl, Nat.le_of_ble_eq_true rfl⟩ dX4_isMember_10 (fun H locs hW hS => ?_)
  refine W.eq (g2 := F0 m 13 ls [.int (if wi_ x.toInt64 0 (((gi_ a 0 0 0) - 1).toInt64) then 1 else 0)]) rfl ?_
  exact cr_z cx hr hlk bz_b hW hS (Nat.le_of_ble_eq_true rfl) (Nat.le_of_ble_eq_true rfl) dX4_isMember_13 rfl rfl
set_option maxHeartbeats 4000000 in
set_option maxRecDepth 100000 in
theorem c_X4_isInstrument (l : Launch) {w : Gh_} (hI : In_ w) (a : St_) (x : Int32) : Fn_ l w yX4_isInstrument (.code yX4_isInstrument cX4_isInstrument 2 (some .boolean)) { frames := 1, cells := 0, slots := 0, locals := 25 } 0 0 [.ref (ad_ w 0 0), .int x] a (.inl (some (.int (if wi_ x.toInt64 0 (gi_ a 1 0 0 - 1).toInt64 then 1 else 0)))) a := by
  refine Fn_of hI (by decide +kernel) (Nat.le_of_ble_eq_true rfl) ?_
  intro p e s m below meth c ls cx hr hlk hno hW hS hl
  replace cx : Cx_ p s m c _ cX4_isInstrument 2 "MarginHouse" w := cx
  replace hl : lv_has ls 2 [(0, .ref (ad_ w 0 0)), (1, .int x)] := hl
  obtain ⟨H, hH⟩ : ∃ H, s.heap = H := ⟨_, rfl⟩
  rw [hH] at hW
  have hS : Fr_ w s.heap H [] := by rw [← hH]; exact hS
  obtain ⟨locs, hlocs⟩ : ∃ x : List Loc, x = [] := ⟨_, rfl⟩
  rw [← hlocs] at hS ⊢
  rw [show W p l e _ s m _ below meth c s.heap locs 0 0 _ (F0 m 0 ls []) ↔ W p l e _ s m _ below meth c H locs 0 0 _ (F0 m 0 ls []) from by rw [hH]]
  refine lv_iload_n cx.1 cx.2.1 dX4_isInstrument_0 rfl (lv_at hl 1 rfl) ?_
  refine lv_i2l (v := x.toInt64) cx.1 cx.2.1 dX4_isInstrument_1 rfl ?_
  refine lv_lconst (v := 0) cx.1 cx.2.1 dX4_isInstrument_2 (by decide) ?_
  refine lv_aload_n cx.1 cx.2.1 dX4_isInstrument_3 rfl (lv_at hl 0 rfl) ?_
  refine gf_X4_41 cx hW (by decide) dX4_isInstrument_4 ?_
  refine lv_iconst (v := 1) cx.1 cx.2.1 dX4_isInstrument_7 (by decide) ?_
  refine lv_isub cx.1 cx.2.1 dX4_isInstrument_8 ?_
  refine lv_i2l (v := ((gi_ a 1 0 0) - 1).toInt64) cx.1 cx.2.1 dX4_isInstrument_9 rfl ?_
  refine ck_S (v := some (.int (if wi_ x.toInt64 0 (((gi_ a 1 0 0) - 1).toInt64) then 1 else 0))) (As := [.long x.toInt64, .long 0, .long (((gi_ a 1 0 0) - 1).toInt64)]) (rest := []) cx hW hS hl (c_X4_within l hI a x.toInt64 0 (((gi_ a 1 0 0) - 1).toInt64)) cw_X4_within nw_120 nw_119 rfl rfl (Nat.le_of_ble_eq_true rfl) rfl rfl ⟨Nat.le_of_ble_eq_true rfl, Nat.le_of_ble_eq_true rfl⟩ ⟨Nat.le_of_ble_eq_true rfl, Nat.le_of_ble_eq_true rfl⟩ dX4_isInstrument_10 (fun H locs hW hS => ?_)
  refine W.eq (g2 := F0 m 13 ls [.int (if wi_ x.toInt64 0 (((gi_ a 1 0 0) - 1).toInt64) then 1 else 0)]) rfl ?_
  exact cr_z cx hr hlk bz_b hW hS (Nat.le_of_ble_eq_true rfl) (Nat.le_of_ble_eq_true rfl) dX4_isInstrument_13 rfl rfl
set_option maxHeartbeats 4000000 in
set_option maxRecDepth 100000 in
theorem c_X4_need_ok (l : Launch) {w : Gh_} (hI : In_ w) (a : St_) : Fn_ l w yX4_need (.code yX4_need cX4_need 1 none) { frames := 6, cells := 0, slots := 0, locals := 90 } 0 0 [.int 1] a (.inl none) a := by
  refine Fn_of hI (by decide +kernel) (Nat.le_of_ble_eq_true rfl) ?_
  intro p e s m below meth c ls cx hr hlk hno hW hS hl
  replace cx : Cx_ p s m c _ cX4_need 1 "MarginHouse" w := cx
  replace hl : lv_has ls 1 [(0, .int 1)] := hl
  obtain ⟨H, hH⟩ : ∃ H, s.heap = H := ⟨_, rfl⟩
  rw [hH] at hW
  have hS : Fr_ w s.heap H [] := by rw [← hH]; exact hS
  obtain ⟨locs, hlocs⟩ : ∃ x : List Loc, x = [] := ⟨_, rfl⟩
  rw [← hlocs] at hS ⊢
  rw [show W p l e _ s m _ below meth c s.heap locs 0 0 _ (F0 m 0 ls []) ↔ W p l e _ s m _ below meth c H locs 0 0 _ (F0 m 0 ls []) from by rw [hH]]
  refine lv_iload_n cx.1 cx.2.1 dX4_need_0 rfl (lv_at hl 0 rfl) ?_
  refine lv_if_ne (tgt := 12) cx.1 cx.2.1 dX4_need_1 (by decide) (fun h1 => ?_) (fun h => absurd h (by decide))
  exact cr_v cx hr hlk hW hS (Nat.le_of_ble_eq_true rfl) (Nat.le_of_ble_eq_true rfl) dX4_need_12 rfl rfl
theorem tw_need : ∀ w ∈ (vx_at0 "MarginHouse" 162 IA_ ["java/lang/RuntimeException", "java/lang/Exception"]).filter goodWord, w ∈ nd_ := fun w h => List.mem_filter.mpr ⟨List.mem_append_right _ ((show ∀ w ∈ (vx_at0 "MarginHouse" 162 IA_ ["java/lang/RuntimeException", "java/lang/Exception"]).filter goodWord, w ∈ tables_1 by decide +kernel) w h), (List.mem_filter.mp h).2⟩
theorem tw_needStanding : ∀ w ∈ (vx_at0 "MarginHouse" 165 IS_ ["java/lang/RuntimeException", "java/lang/Exception"]).filter goodWord, w ∈ nd_ := fun w h => List.mem_filter.mpr ⟨List.mem_append_right _ ((show ∀ w ∈ (vx_at0 "MarginHouse" 165 IS_ ["java/lang/RuntimeException", "java/lang/Exception"]).filter goodWord, w ∈ tables_1 by decide +kernel) w h), (List.mem_filter.mp h).2⟩
set_option maxHeartbeats 4000000 in
set_option maxRecDepth 100000 in
theorem c_X4_need_bad (l : Launch) {w : Gh_} (hI : In_ w) (hst : l.stackTraces = false) (a : St_) : Fn_ l w yX4_need (.code yX4_need cX4_need 1 none) { frames := 6, cells := 1, slots := 6, locals := 90 } 1 6 [.int 0] a (.inr IA_) a := by
  refine Fn_of hI (by decide +kernel) (Nat.le_of_ble_eq_true rfl) ?_
  intro p e s m below meth c ls cx hr hlk hno hW hS hl
  replace cx : Cx_ p s m c _ cX4_need 1 "MarginHouse" w := cx
  replace hl : lv_has ls 1 [(0, .int 0)] := hl
  obtain ⟨H, hH⟩ : ∃ H, s.heap = H := ⟨_, rfl⟩
  rw [hH] at hW
  have hS : Fr_ w s.heap H [] := by rw [← hH]; exact hS
  obtain ⟨locs, hlocs⟩ : ∃ x : List Loc, x = [] := ⟨_, rfl⟩
  rw [← hlocs] at hS ⊢
  rw [show W p l e _ s m _ below meth c s.heap locs 0 0 _ (F0 m 0 ls []) ↔ W p l e _ s m _ below meth c H locs 0 0 _ (F0 m 0 ls []) from by rw [hH]]
  refine lv_iload_n cx.1 cx.2.1 dX4_need_0 rfl (lv_at hl 0 rfl) ?_
  refine lv_if_ne (tgt := 12) cx.1 cx.2.1 dX4_need_1 (by decide) (fun h => absurd rfl h) (fun h1 => ?_)
  exact vx_throw0 (own := "MarginHouse") (cls := IA_) (names := ["java/lang/RuntimeException", "java/lang/Exception"]) (A := fun q => lo_ w ≤ q) cx.1 cx.2.1 hst cx.2.2.2.1 (by decide +kernel) (by decide +kernel) (cx.2.2.2.2.1 _ nw_125) (cx.2.2.2.2.1 _ nw_10) (vx_hat (B := xb_) (fun w h => cx.2.2.2.2.1 _ (tw_need w h)) (by decide +kernel) (fun x hx => va_Nw.use (xb_tab x hx) (cx.2.2.2.2.2.2.2.1.1 x hx))) (by decide +kernel) cx.2.2.2.2.2.2.2.1.2.2.1 cx.2.2.2.2.2.2.2.1.2.2.2 hS (hl.1.trans cx.2.2.1.symm) dX4_need_4 dX4_need_7 dX4_need_8 dX4_need_11 (fun x hx => (hno x hx).elim) (by decide) (by decide) (by decide) (by decide) hlk (fun t _ hsz hk => ⟨rfl, Hd_kept hW hk, Nat.le_trans hS.1 hsz, fun q hq hn => (hk q (Nat.lt_of_lt_of_le hq hS.1)).trans (hS.2.1 q hq hn)⟩) hS.2.2 (by decide) (by decide)
set_option maxHeartbeats 4000000 in
set_option maxRecDepth 100000 in
theorem c_X4_needStanding_ok (l : Launch) {w : Gh_} (hI : In_ w) (a : St_) (i : Nat) (hi : i < 8) (x : Int32) (hx : gi_ a 3 i 0 = x) : Fn_ l w yX4_needStanding (.code yX4_needStanding cX4_needStanding 2 none) { frames := 6, cells := 0, slots := 0, locals := 90 } 0 0 [.ref (ad_ w 6 i), .int x] a (.inl none) a := by
  refine Fn_of hI (by decide +kernel) (Nat.le_of_ble_eq_true rfl) ?_
  intro p e s m below meth c ls cx hr hlk hno hW hS hl
  replace cx : Cx_ p s m c _ cX4_needStanding 2 "MarginHouse" w := cx
  replace hl : lv_has ls 2 [(0, .ref (ad_ w 6 i)), (1, .int x)] := hl
  obtain ⟨H, hH⟩ : ∃ H, s.heap = H := ⟨_, rfl⟩
  rw [hH] at hW
  have hS : Fr_ w s.heap H [] := by rw [← hH]; exact hS
  obtain ⟨locs, hlocs⟩ : ∃ x : List Loc, x = [] := ⟨_, rfl⟩
  rw [← hlocs] at hS ⊢
  rw [show W p l e _ s m _ below meth c s.heap locs 0 0 _ (F0 m 0 ls []) ↔ W p l e _ s m _ below meth c H locs 0 0 _ (F0 m 0 ls []) from by rw [hH]]
  refine lv_aload_n cx.1 cx.2.1 dX4_needStanding_0 rfl (lv_at hl 0 rfl) ?_
  refine gf_X4_127 cx hW (by omega) dX4_needStanding_1 ?_
  refine lv_iload_n cx.1 cx.2.1 dX4_needStanding_4 rfl (lv_at hl 1 rfl) ?_
  refine lv_icmp_eq (tgt := 16) cx.1 cx.2.1 dX4_needStanding_5 (by decide) (fun h5 => ?_) (fun h => absurd hx h)
  exact cr_v cx hr hlk hW hS (Nat.le_of_ble_eq_true rfl) (Nat.le_of_ble_eq_true rfl) dX4_needStanding_16 rfl rfl
set_option maxHeartbeats 4000000 in
set_option maxRecDepth 100000 in
theorem c_X4_needStanding_bad (l : Launch) {w : Gh_} (hI : In_ w) (hst : l.stackTraces = false) (a : St_) (i : Nat) (hi : i < 8) (x : Int32) (hx : ¬ gi_ a 3 i 0 = x) : Fn_ l w yX4_needStanding (.code yX4_needStanding cX4_needStanding 2 none) { frames := 6, cells := 1, slots := 6, locals := 90 } 1 6 [.ref (ad_ w 6 i), .int x] a (.inr IS_) a := by
  refine Fn_of hI (by decide +kernel) (Nat.le_of_ble_eq_true rfl) ?_
  intro p e s m below meth c ls cx hr hlk hno hW hS hl
  replace cx : Cx_ p s m c _ cX4_needStanding 2 "MarginHouse" w := cx
  replace hl : lv_has ls 2 [(0, .ref (ad_ w 6 i)), (1, .int x)] := hl
  obtain ⟨H, hH⟩ : ∃ H, s.heap = H := ⟨_, rfl⟩
  rw [hH] at hW
  have hS : Fr_ w s.heap H [] := by rw [← hH]; exact hS
  obtain ⟨locs, hlocs⟩ : ∃ x : List Loc, x = [] := ⟨_, rfl⟩
  rw [← hlocs] at hS ⊢
  rw [show W p l e _ s m _ below meth c s.heap locs 0 0 _ (F0 m 0 ls []) ↔ W p l e _ s m _ below meth c H locs 0 0 _ (F0 m 0 ls []) from by rw [hH]]
  refine lv_aload_n cx.1 cx.2.1 dX4_needStanding_0 rfl (lv_at hl 0 rfl) ?_
  refine gf_X4_127 cx hW (by omega) dX4_needStanding_1 ?_
  refine lv_iload_n cx.1 cx.2.1 dX4_needStanding_4 rfl (lv_at hl 1 rfl) ?_
  refine lv_icmp_eq (tgt := 16) cx.1 cx.2.1 dX4_needStanding_5 (by decide) (fun h => absurd h hx) (fun h5 => ?_)
  exact vx_throw0 (own := "MarginHouse") (cls := IS_) (names := ["java/lang/RuntimeException", "java/lang/Exception"]) (A := fun q => lo_ w ≤ q) cx.1 cx.2.1 hst cx.2.2.2.1 (by decide +kernel) (by decide +kernel) (cx.2.2.2.2.1 _ nw_195) (cx.2.2.2.2.1 _ nw_11) (vx_hat (B := xb_) (fun w h => cx.2.2.2.2.1 _ (tw_needStanding w h)) (by decide +kernel) (fun x hx => va_Nw.use (xb_tab x hx) (cx.2.2.2.2.2.2.2.1.1 x hx))) (by decide +kernel) cx.2.2.2.2.2.2.2.1.2.2.1 cx.2.2.2.2.2.2.2.1.2.2.2 hS (hl.1.trans cx.2.2.1.symm) dX4_needStanding_8 dX4_needStanding_11 dX4_needStanding_12 dX4_needStanding_15 (fun x hx => (hno x hx).elim) (by decide) (by decide) (by decide) (by decide) hlk (fun t _ hsz hk => ⟨rfl, Hd_kept hW hk, Nat.le_trans hS.1 hsz, fun q hq hn => (hk q (Nat.lt_of_lt_of_le hq hS.1)).trans (hS.2.1 q hq hn)⟩) hS.2.2 (by decide) (by decide)
end
