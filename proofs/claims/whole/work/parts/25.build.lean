/-! THE WORLD IN THE MAKING: some of its cells, by (kind, number); how many there are -/
abbrev Bm_ : Type := Nat → Nat → Option va_E
def Bd_ (w : Gh_) (B : Bm_) (n : Nat) (H : Heap) : Prop := (∀ k i e, B k i = some e → i < cn_ k ∧ va_at w.1 cl_ (ad_ w k i, e) H) ∧ H.size = lo_ w + n
def bu_ (B : Bm_) (k i : Nat) (e : va_E) : Bm_ := fun k' i' => if k' = k ∧ i' = i then some e else B k' i'
theorem bu_at (B : Bm_) (k i : Nat) (e : va_E) : bu_ B k i e k i = some e := by simp [bu_]
theorem bu_ne (B : Bm_) {k i k' i' : Nat} (e : va_E) (h : ¬ (k' = k ∧ i' = i)) : bu_ B k i e k' i' = B k' i' := by simp only [bu_, if_neg h]
theorem bu_over (B : Bm_) (k i : Nat) (e e' : va_E) : bu_ (bu_ B k i e) k i e' = bu_ B k i e' := by
  funext k' i'
  by_cases h : k' = k ∧ i' = i <;> simp [bu_, h]
theorem bu_swap (B : Bm_) {k i k2 i2 : Nat} (e e2 : va_E) (h : k ≠ k2) : bu_ (bu_ B k i e) k2 i2 e2 = bu_ (bu_ B k2 i2 e2) k i e := by
  funext k' i'
  by_cases h1 : k' = k ∧ i' = i
  · have h2 : ¬ (k' = k2 ∧ i' = i2) := fun q => h (h1.1.symm.trans q.1)
    simp only [bu_, if_pos h1, if_neg h2]
  · simp only [bu_, if_neg h1]
theorem Bd_sub {w : Gh_} {B B' : Bm_} {n : Nat} {H : Heap} (hB : Bd_ w B n H) (h : ∀ k i e, B' k i = some e → B k i = some e) : Bd_ w B' n H := ⟨fun k i e q => hB.1 k i e (h k i e q), hB.2⟩
theorem Bd_push {w : Gh_} {B : Bm_} {n k i : Nat} {H H1 : Heap} {e : va_E} (hB : Bd_ w B n H) (hi : i < cn_ k) (h1 : va_at w.1 cl_ (ad_ w k i, e) H1) (z : H1.size = H.size + 1) (o : ∀ q : Nat, q < H.size → H1[q]? = H[q]?) : Bd_ w (bu_ B k i e) (n + 1) H1 := by
  refine ⟨fun k' i' e' h => ?_, by rw [z, hB.2, Nat.add_assoc]⟩
  by_cases q : k' = k ∧ i' = i
  · obtain ⟨rfl, rfl⟩ := q
    rw [bu_at] at h
    cases h
    exact ⟨hi, h1⟩
  · rw [bu_ne _ _ q] at h
    obtain ⟨g1, g2⟩ := hB.1 k' i' e' h
    exact ⟨g1, g2.kept (o _ g2.lt)⟩
theorem Bd_set {w : Gh_} {B : Bm_} {n k i : Nat} {H H1 : Heap} {e : va_E} (hI : In_ w) (hB : Bd_ w B n H) (hi : i < cn_ k) (h1 : va_at w.1 cl_ (ad_ w k i, e) H1) (z : H1.size = H.size) (o : ∀ q : Nat, q ≠ ad_ w k i → H1[q]? = H[q]?) : Bd_ w (bu_ B k i e) n H1 := by
  refine ⟨fun k' i' e' h => ?_, by rw [z, hB.2]⟩
  by_cases q : k' = k ∧ i' = i
  · obtain ⟨rfl, rfl⟩ := q
    rw [bu_at] at h
    cases h
    exact ⟨hi, h1⟩
  · rw [bu_ne _ _ q] at h
    obtain ⟨g1, g2⟩ := hB.1 k' i' e' h
    exact ⟨g1, g2.kept (o _ (fun z => q (hI.1 k' i' k i g1 hi z)))⟩
theorem Bd_P {w : Gh_} {B : Bm_} {n k i : Nat} {H : Heap} {e : va_E} (hB : Bd_ w B n H) (h : B k i = some e) : va_P w.1 cl_ [(ad_ w k i, e)] H := by
  intro q x hq
  have hz : q < 1 := (List.getElem?_eq_some_iff.mp hq).1
  rw [show q = 0 by omega] at hq
  cases hq
  exact (hB.1 k i e h).2
/-- the words of the tables that the constructors need besides -/
def Yw_ (U : State) : Prop := va_Nw (.methodLinkNest "MarginHouse" 32 yX2_init "MarginHouse") U ∧ va_Nw (.methodLinkNest "MarginHouse$Plan" 27 yX3_init "MarginHouse") U ∧ va_Nw (.methodLinkNest "MarginHouse" 54 yX1_init "MarginHouse") U ∧ va_Nw (.methodLinkNest "MarginHouse" 55 yX0_init "MarginHouse") U ∧ va_AO "MarginHouse$Member" U ∧ va_AO "MarginHouse$Instrument" U ∧ Ya_ U
theorem Yw_moved {s U : State} (hW : s.WarmedH U.vm) (h : Yw_ s) : Yw_ U :=
  ⟨va_Nw.warmM hW h.1, va_Nw.warmM hW h.2.1, va_Nw.warmM hW h.2.2.1, va_Nw.warmM hW h.2.2.2.1, va_AO.moved hW.alike h.2.2.2.2.1, va_AO.moved hW.alike h.2.2.2.2.2.1, Ya_moved hW.alike h.2.2.2.2.2.2⟩
theorem Yw_same {s U : State} (hvm : s.vm = U.vm) (h : Yw_ s) : Yw_ U := by
  have hA : s.vm.Alike U.vm := by rw [hvm]; exact Vm.Alike.refl _
  exact ⟨va_Nw.same rfl hvm h.1, va_Nw.same rfl hvm h.2.1, va_Nw.same rfl hvm h.2.2.1, va_Nw.same rfl hvm h.2.2.2.1, va_AO.moved hA h.2.2.2.2.1, va_AO.moved hA h.2.2.2.2.2.1, Ya_moved hA h.2.2.2.2.2.2⟩
/-- a constructor's contract -/
def Pn_ (w : Gh_) (B : Bm_) (n : Nat) (av : List Value) : Array Value → State → Prop := va_Pc av (fun U => Bd_ w B n U.heap ∧ Kn_ w U ∧ Yw_ U)
def Qn_ (w : Gh_) (B' : Bm_) (n' : Nat) : Array Value → State → Outcome → State → Prop := fun _ st o t => o = .returned none ∧ Bd_ w B' n' t.heap ∧ va_F (fun q => lo_ w ≤ q) st t
def Nc_ (l : Launch) (w : Gh_) (y : MethodName) (hd : Cond) (rm : Room) (mc ms : Nat) (av : List Value) (B : Bm_) (n : Nat) (B' : Bm_) (n' : Nat) : Prop := Met l y (hd :: nd_) rm (Pn_ w B n av) (Qn_ w B' n') mc ms (fun q => lo_ w ≤ q)
def Cb_ (p : Program) (s : State) (m : MethodId) (c : Code) (args : Array Value) (cc : ByteArray) (nL : Nat) (own : String) (w : Gh_) : Prop :=
  p.tables.exec = Jvm.exec ∧ c.code = cc ∧ c.maxLocals = nL ∧ s.vm.findClass own = some m.cls ∧ (∀ x ∈ nd_, x.before args s = true) ∧ Kn_ w s ∧ In_ w ∧ Yw_ s
theorem Pn_blind (w : Gh_) (B : Bm_) (n : Nat) (av : List Value) : FrameBlind (Pn_ w B n av) := by
  intro x U g mk h
  obtain ⟨h0, h1, h2, h3⟩ := h
  exact ⟨h0, h1, va_K.moved (u := U) (U := U.calling g mk x) (Vm.Alike.refl U.vm) h2, Yw_same (s := U) (U := U.calling g mk x) rfl h3⟩
theorem Nc_of {l : Launch} {w : Gh_} {y : MethodName} {cc : ByteArray} {maxL : Nat} {rm : Room} {mc ms : Nat} {av : List Value} {B B' : Bm_} {n n' : Nat} (hI : In_ w) (hy : plainName y.cls = true) (hyn : y.name = "<init>") (hlen : (lg_sl av).length ≤ maxL)
    (body : ∀ (p : Program) (e : Env) (s : State) (m : MethodId) (below : List Frame) (meth : Method) (c : Code) (ls : Array Slot), Cb_ p s m c av.toArray cc maxL y.cls w → meth.sig.returnType = none → meth.locks = false → meth.name = "<init>" → Bd_ w B n s.heap → lv_has ls maxL (lv_args 0 av) → ∀ (H : Heap) (locs : List Loc), Bd_ w B n H → Fr_ w s.heap H locs →
      W p l e rm s m av.toArray below meth c H locs 0 0 (MQ below (Qn_ w B' n') av.toArray s mc ms (fun q => lo_ w ≤ q)) (F0 m 0 ls [])) : Nc_ l w y (.code y cc maxL none) rm mc ms av B n B' n' := by
  refine Met.ofW (cc := cc) (maxL := maxL) (ret := none) hy rfl ?_
  intro p e s m args below meth c s₁ Bo hml hv
  obtain ⟨rfl, hB, hK, hY⟩ := hv
  have hts := atoms_spec (ws := Cond.code y cc maxL none :: nd_) Bo.pre
  have hl := lv_entry av (n := maxL) hlen
  rw [lg_entry_eq]
  exact body p e s m below meth c _ ⟨Bo.exec, Bo.bytes, hml, findClass_of_methodNamed Bo.named, fun x hx => hts x (List.mem_cons_of_mem _ hx), hK, hI, hY⟩ Bo.returns Bo.notSynchronized ((name_of_methodNamed Bo.named Bo.method).1.trans hyn) hB hl s.heap [] hB va_S.rf
section CN
variable {p : Program} {l : Launch} {e : Env} {R : Room} {s : State} {m : MethodId} {args : Array Value} {below : List Frame} {meth : Method} {c : Code} {H : Heap} {locs : List Loc} {cells slots : Nat} {Q : State → Prop}
variable {cc : ByteArray} {pc nL : Nat} {own : String} {ls : Array Slot} {rest st0 : List Value} {w : Gh_} {B B' : Bm_} {n n' k i : Nat}
theorem Fr_push {H1 : Heap} (hS : Fr_ w s.heap H locs) (z : H.size ≤ H1.size) (o : ∀ q : Nat, q < H.size → H1[q]? = H[q]?) : Fr_ w s.heap H1 locs :=
  ⟨Nat.le_trans hS.1 z, fun x h1 h2 => (o x (Nat.lt_of_lt_of_le h1 hS.1)).trans (hS.2.1 x h1 h2), hS.2.2⟩
theorem cb_ia (cb : Cb_ p s m c args cc nL own w) (hB : Bd_ w B n H) (hS : Fr_ w s.heap H locs) (hi : i < cn_ k) (ha : ad_ w k i = lo_ w + n) {x : Int32} {N : Nat} (hx : ¬ x < 0) (hN : x.toNatClampNeg = N) (hN1 : N ≤ 1000) (hcells : cells + 1 ≤ R.cells) (hslots : slots + N ≤ R.slots) (hd : decode cc pc = .ok (.newarray .int, 2))
    (kk : ∀ H1 : Heap, Bd_ w (bu_ B k i (.inl (ca_ w 0, N, .inl fun _ => 0))) (n + 1) H1 → Fr_ w s.heap H1 locs → W p l e R s m args below meth c H1 locs (cells + 1) (slots + N) Q (F0 m (pc + 2) ls (.ref (ad_ w k i) :: rest))) : W p l e R s m args below meth c H locs cells slots Q (F0 m pc ls (.int x :: rest)) := by
  have hsz : H.size = ad_ w k i := by rw [ha]; exact hB.2
  refine va_newaK (atype := .int) cb.1 cb.2.1 (cb.2.2.2.2.1 _ nw_39) rfl hd rfl hx hN (by show N * 4 ≤ _; omega) hcells hslots hsz fun H1 cA e1 z1 o1 hAr hNm => ?_
  have hcA : cA = ca_ w 0 := Option.some.inj (hNm.symm.trans ((cb.2.2.2.2.2.1.2 0 _ rfl).2))
  subst hcA
  refine kk H1 (Bd_push hB hi e1 (by rw [z1, hsz]) (fun q hq => o1 q (by rw [← hsz]; exact hq))) (Fr_push hS (by rw [z1, hsz]; omega) (fun q hq => o1 q (by rw [← hsz]; exact hq)))
theorem cb_la (cb : Cb_ p s m c args cc nL own w) (hB : Bd_ w B n H) (hS : Fr_ w s.heap H locs) (hi : i < cn_ k) (ha : ad_ w k i = lo_ w + n) {x : Int32} {N : Nat} (hx : ¬ x < 0) (hN : x.toNatClampNeg = N) (hN1 : N ≤ 1000) (hcells : cells + 1 ≤ R.cells) (hslots : slots + N ≤ R.slots) (hd : decode cc pc = .ok (.newarray .long, 2))
    (kk : ∀ H1 : Heap, Bd_ w (bu_ B k i (.inl (ca_ w 1, N, .inr (.inl fun _ => 0)))) (n + 1) H1 → Fr_ w s.heap H1 locs → W p l e R s m args below meth c H1 locs (cells + 1) (slots + N) Q (F0 m (pc + 2) ls (.ref (ad_ w k i) :: rest))) : W p l e R s m args below meth c H locs cells slots Q (F0 m pc ls (.int x :: rest)) := by
  have hsz : H.size = ad_ w k i := by rw [ha]; exact hB.2
  refine va_newaK (atype := .long) cb.1 cb.2.1 (cb.2.2.2.2.1 _ nw_40) rfl hd rfl hx hN (by show N * 8 ≤ _; omega) hcells hslots hsz fun H1 cA e1 z1 o1 hAr hNm => ?_
  have hcA : cA = ca_ w 1 := Option.some.inj (hNm.symm.trans ((cb.2.2.2.2.2.1.2 1 _ rfl).2))
  subst hcA
  refine kk H1 (Bd_push hB hi e1 (by rw [z1, hsz]) (fun q hq => o1 q (by rw [← hsz]; exact hq))) (Fr_push hS (by rw [z1, hsz]; omega) (fun q hq => o1 q (by rw [← hsz]; exact hq)))
/-- a new array of references, all null -/
theorem cb_na (cb : Cb_ p s m c args cc nL own w) {C : String} {t0 index : Nat} {cA : ClassId} (ht : (ty_ w)[t0]? = some (cA, .object C)) (hover : va_AO C s) (hlink : (Cond.classLink own index C).before args s = true) (hB : Bd_ w B n H) (hS : Fr_ w s.heap H locs) (hi : i < cn_ k) (ha : ad_ w k i = lo_ w + n) {x : Int32} {N : Nat} (hx : ¬ x < 0) (hN : x.toNatClampNeg = N) (hN1 : N ≤ 1000) (hcells : cells + 1 ≤ R.cells) (hslots : slots + N ≤ R.slots) (hd : decode cc pc = .ok (.anewarray index, 3))
    (kk : ∀ H1 : Heap, Bd_ w (bu_ B k i (.inl (cA, N, .inr (.inr (.inr (.inr fun _ => none)))))) (n + 1) H1 → Fr_ w s.heap H1 locs → W p l e R s m args below meth c H1 locs (cells + 1) (slots + N) Q (F0 m (pc + 3) ls (.ref (ad_ w k i) :: rest))) : W p l e R s m args below meth c H locs cells slots Q (F0 m pc ls (.int x :: rest)) := by
  have hsz : H.size = ad_ w k i := by rw [ha]; exact hB.2
  subst hN
  refine W.anew cb.1 cb.2.1 cb.2.2.2.1 hlink (va_AO.use hover) rfl hd rfl hx (by omega) hcells hslots fun cA' kA comp f1 f2 f3 f4 => ?_
  obtain ⟨kA2, comp2, -, -, -, k4⟩ := (cb.2.2.2.2.2.1.2 t0 _ ht).2
  have hcA : cA' = cA := Option.some.inj (f1.symm.trans k4)
  subst hcA
  generalize hH1 : H.push ({ cls := cA', slots := Array.replicate x.toNatClampNeg .null, vm := .none } : Cell) = H1
  have z1 : H1.size = H.size + 1 := by rw [← hH1, Array.size_push]
  have e1 : H1[H.size]? = some (arrV cA' x.toNatClampNeg (fun _ => .null)) := by rw [← hH1, Array.getElem?_push_size, ← arrV_new]
  have o1 : ∀ q : Nat, q < H.size → H1[q]? = H[q]? := fun q hq => by rw [← hH1, Array.getElem?_push, if_neg (Nat.ne_of_lt hq)]
  rw [show (F0 m pc ls (.int x :: rest)).pc + 3 = pc + 3 from rfl, hsz]
  exact kk H1 (Bd_push hB hi (by rw [← hsz]; exact e1) z1 o1) (Fr_push hS (by omega) o1)
theorem cb_new (cb : Cb_ p s m c args cc nL own w) {C : String} {T : u_T} {N ci index : Nat} (hin : ∀ w ∈ u_ws C T N, w ∈ nd_) (ty : Nat → FieldType) (hty : ∀ k, k < N → parseFieldDescriptor (T k).2.2.1 = some (ty k)) (hcl : Cond.classLink own index C ∈ nd_) (hinst : Cond.instantiable C N ∈ nd_) (hini : Cond.initialized C ∈ nd_) (hB : Bd_ w B n H) (hS : Fr_ w s.heap H locs) (hi : i < cn_ k) (ha : ad_ w k i = lo_ w + n) (hc : cl_[ci]? = some (C, T, N)) {fs : List Value} (hfs : ∀ j, j < N → defaultValue (ty j) = vp_V fs j) (hcells : cells + 1 ≤ R.cells) (hslots : slots + N ≤ R.slots) (hd : decode cc pc = .ok (.new index, 3))
    (kk : ∀ H1 : Heap, Bd_ w (bu_ B k i (.inr (ci, fs))) (n + 1) H1 → Fr_ w s.heap H1 locs → W p l e R s m args below meth c H1 locs (cells + 1) (slots + N) Q (F0 m (pc + 3) ls (.ref (ad_ w k i) :: rest))) : W p l e R s m args below meth c H locs cells slots Q (F0 m pc ls rest) := by
  have hsz : H.size = ad_ w k i := by rw [ha]; exact hB.2
  have hKn := cb.2.2.2.2.2.1.1 ci _ hc
  refine W.newcK cb.1 cb.2.1 cb.2.2.2.1 (cb.2.2.2.2.1 _ hcl) (cb.2.2.2.2.1 _ hinst) (cb.2.2.2.2.1 _ hini) rfl hd hcells hslots hKn.2.1 hsz fun H1 kC hkC e1 z1 o1 => ?_
  have o2 : ∀ q : Nat, q < H.size → H1[q]? = H[q]? := fun q hq => o1 q (by rw [← hsz]; exact hq)
  exact kk H1 (Bd_push hB hi ⟨_, hc, (u_born ty cb.2.2.2.2.1 hin hKn hkC e1 hty).to hfs⟩ (by rw [z1, hsz]) o2) (Fr_push hS (by rw [z1, hsz]; omega) o2)
theorem cb_put (cb : Cb_ p s m c args cc nL own w) {C : String} {T : u_T} {N ci index : Nat} (hin : ∀ w ∈ u_ws C T N, w ∈ nd_) (ty0 : Nat → FieldType) (hty : ∀ k, k < N → parseFieldDescriptor (T k).2.2.1 = some (ty0 k)) (hnm : ∀ a, a < N → ∀ b, b < N → a ≠ b → (T a).2.1 ≠ (T b).2.1) {fs : List Value} (hB : Bd_ w (bu_ B k i (.inr (ci, fs))) n H) (hS : Fr_ w s.heap H locs) (hc : cl_[ci]? = some (C, T, N)) (f : Nat) (hf : f < N) (hlink : Cond.fieldLink own index (T f).1 (T f).2.1 (T f).2.2.1 ∈ nd_) (hfin : (T f).2.2.2 = false) {ty : FieldType} {v : Value} (hpd : parseFieldDescriptor (T f).2.2.1 = some ty) (hn : narrow ty v = v) (hfit : fits ty v = true) (hl : f < fs.length) (hd : decode cc pc = .ok (.putfield index, 3))
    (kk : ∀ (H1 : Heap) (locs1 : List Loc), Bd_ w (bu_ B k i (.inr (ci, fs.set f v))) n H1 → Fr_ w s.heap H1 locs1 → W p l e R s m args below meth c H1 locs1 cells slots Q (F0 m (pc + 3) ls rest)) : W p l e R s m args below meth c H locs cells slots Q (F0 m pc ls (v :: .ref (ad_ w k i) :: rest)) := by
  obtain ⟨hi, r, h1, cell, q1, q2, q3, q4⟩ := hB.1 k i _ (bu_at _ _ _ _)
  have hr : r = (C, T, N) := Option.some.inj (h1.symm.trans hc)
  subst hr
  have hts := cb.2.2.2.2.1
  have hap := va_apart (own := own) hts hin ty0 hty hnm cb.2.2.2.2.2.1 hc
  obtain ⟨hSl, hfc, kC, hkC, hkind⟩ := cb.2.2.2.2.2.1.1 ci _ hc
  obtain ⟨cf, kf, fi, fd, hi2, hsl⟩ := hSl f hf
  have hlay := hts _ (hin _ (u_in_lay hf))
  unfold u_lay at hlay
  rw [if_neg (by rw [hfin]; decide)] at hlay
  have hst := (u_facts hfc hkC (u_lays hts hin hf) hi2).1
  have h6 := u_store hfc hkC hkind hlay hi2 hpd hn hfit
  refine W.putK cb.1 cb.2.1 (f := fd) ⟨cb.2.2.2.1, hts _ hlink, ⟨_, _, _, hi2⟩, hst⟩ (by rw [q2]; exact h6) q1 q3 (by rw [hsl]; exact k2_hasslot (q4 f hf)) rfl rfl hd fun H' e1 e2 e3 => ?_
  rw [hsl] at e1 ⊢
  have hb2 := Bd_set (e := .inr (ci, fs.set f v)) cb.2.2.2.2.2.2.1 hB hi ⟨_, hc, t_OB.to (V := updV (vp_V fs) f v) ⟨_, e1, q2, q3, t_set q4 hap hf v⟩ (fun j _ => vp_updV_set hl v j)⟩ e2 e3
  rw [bu_over] at hb2
  exact kk H' _ hb2 (va_S.put hS e2 e3 (cb.2.2.2.2.2.2.1.2 k i hi))
theorem cb_fin (cb : Cb_ p s m c args cc nL own w) (hname : meth.name = "<init>") {C : String} {T : u_T} {N ci index : Nat} (hin : ∀ w ∈ u_ws C T N, w ∈ nd_) (ty0 : Nat → FieldType) (hty : ∀ k, k < N → parseFieldDescriptor (T k).2.2.1 = some (ty0 k)) (hnm : ∀ a, a < N → ∀ b, b < N → a ≠ b → (T a).2.1 ≠ (T b).2.1) {fs : List Value} (hB : Bd_ w (bu_ B k i (.inr (ci, fs))) n H) (hS : Fr_ w s.heap H locs) (hc : cl_[ci]? = some (C, T, N)) (f : Nat) (hf : f < N) (hlink : Cond.fieldLink own index (T f).1 (T f).2.1 (T f).2.2.1 ∈ nd_) (hfin : (T f).2.2.2 = true) (hdecl : (T f).1 = own) {ty : FieldType} {v : Value} (hpd : parseFieldDescriptor (T f).2.2.1 = some ty) (hn : narrow ty v = v) (hfit : fits ty v = true) (hl : f < fs.length) (hd : decode cc pc = .ok (.putfield index, 3))
    (kk : ∀ (H1 : Heap) (locs1 : List Loc), Bd_ w (bu_ B k i (.inr (ci, fs.set f v))) n H1 → Fr_ w s.heap H1 locs1 → W p l e R s m args below meth c H1 locs1 cells slots Q (F0 m (pc + 3) ls rest)) : W p l e R s m args below meth c H locs cells slots Q (F0 m pc ls (v :: .ref (ad_ w k i) :: rest)) := by
  obtain ⟨hi, r, h1, cell, q1, q2, q3, q4⟩ := hB.1 k i _ (bu_at _ _ _ _)
  have hr : r = (C, T, N) := Option.some.inj (h1.symm.trans hc)
  subst hr
  have hts := cb.2.2.2.2.1
  have hap := va_apart (own := own) hts hin ty0 hty hnm cb.2.2.2.2.2.1 hc
  obtain ⟨hSl, hfc, kC, hkC, hkind⟩ := cb.2.2.2.2.2.1.1 ci _ hc
  obtain ⟨cf, kf, fi, fd, hi2, hsl⟩ := hSl f hf
  have hlay := hts _ (hin _ (u_in_lay hf))
  unfold u_lay at hlay
  rw [if_pos hfin] at hlay
  have hst := (u_facts hfc hkC (u_lays hts hin hf) hi2).1
  have hcf : m.cls = cf := by
    obtain ⟨_, _, c', _, _, _, -, -, hf', -, -, -, hown2, -⟩ := Cond.laysFinal_spec hlay
    have e1 : c' = cf := by have := hi2.symm.trans hf'; simp at this; exact this.1.symm
    rw [hdecl] at hown2
    rw [← e1]
    exact Option.some.inj (cb.2.2.2.1.symm.trans hown2)
  have h6 := u_fits hfc hkC hkind (Or.inr hlay) hi2 hpd hn hfit
  refine W.putFinK cb.1 cb.2.1 cb.2.2.2.1 (hts _ hlink) hi2 hst hcf hname (by rw [q2]; exact h6) q1 q3 (by rw [hsl]; exact k2_hasslot (q4 f hf)) rfl rfl hd fun H' e1 e2 e3 => ?_
  rw [hsl] at e1 ⊢
  have hb2 := Bd_set (e := .inr (ci, fs.set f v)) cb.2.2.2.2.2.2.1 hB hi ⟨_, hc, t_OB.to (V := updV (vp_V fs) f v) ⟨_, e1, q2, q3, t_set q4 hap hf v⟩ (fun j _ => vp_updV_set hl v j)⟩ e2 e3
  rw [bu_over] at hb2
  exact kk H' _ hb2 (va_S.put hS e2 e3 (cb.2.2.2.2.2.2.1.2 k i hi))
theorem cb_get (cb : Cb_ p s m c args cc nL own w) {C : String} {T : u_T} {N ci index : Nat} (hin : ∀ w ∈ u_ws C T N, w ∈ nd_) {fs : List Value} (hB : Bd_ w B n H) (he : B k i = some (.inr (ci, fs))) (hc : cl_[ci]? = some (C, T, N)) (f : Nat) (hf : f < N) (hlink : Cond.fieldLink own index (T f).1 (T f).2.1 (T f).2.2.1 ∈ nd_) {v : Value} (hv : fs[f]? = some v) (hd : decode cc pc = .ok (.getfield index, 3))
    (kk : W p l e R s m args below meth c H locs cells slots Q (F0 m (pc + 3) ls (v :: rest))) : W p l e R s m args below meth c H locs cells slots Q (F0 m pc ls (.ref (ad_ w k i) :: rest)) :=
  va_get cb.1 cb.2.1 cb.2.2.2.2.1 hin cb.2.2.2.1 cb.2.2.2.2.2.1 (Bd_P hB he) 0 rfl hc f hf (cb.2.2.2.2.1 _ hlink) (fun _ h => h) hv hd kk
theorem cb_ast (cb : Cb_ p s m c args cc nL own w) {C : String} {T : u_T} {N ci t0 k2 i2 L j : Nat} {cA : ClassId} {fs : List Value} {g : Nat → Option Nat} (hB : Bd_ w B n H) (hS : Fr_ w s.heap H locs) (he : B k i = some (.inl (cA, L, .inr (.inr (.inr (.inr g)))))) (ht : (ty_ w)[t0]? = some (cA, .object C)) (hv : B k2 i2 = some (.inr (ci, fs))) (hc : cl_[ci]? = some (C, T, N)) {x : Int32} (hxj : x = nI j) (hj : j < L) (hL : L < 2 ^ 31) (hd : decode cc pc = .ok (.aastore, 1))
    (kk : ∀ (H1 : Heap) (locs1 : List Loc), Bd_ w (bu_ B k i (.inl (cA, L, .inr (.inr (.inr (.inr (va_up g j (some (ad_ w k2 i2))))))))) n H1 → Fr_ w s.heap H1 locs1 → W p l e R s m args below meth c H1 locs1 cells slots Q (F0 m (pc + 1) ls rest)) : W p l e R s m args below meth c H locs cells slots Q (F0 m pc ls (.ref (ad_ w k2 i2) :: .int x :: .ref (ad_ w k i) :: rest)) := by
  subst hxj
  have hcl : (nI j).toNatClampNeg = j := nI_clamp (by omega)
  have hK := cb.2.2.2.2.2.1
  obtain ⟨hi, hA⟩ := hB.1 k i _ he
  obtain ⟨-, r', hr', cellV, g1, g2, g3, -⟩ := hB.1 k2 i2 _ hv
  have hcls := (hK.1 ci _ hc).2
  obtain ⟨kA, comp, k1, k2', k3, -⟩ := (hK.2 t0 _ ht).2
  have hcomp : comp = w.1.1 ci := Option.some.inj (k3.symm.trans hcls.1)
  subst hcomp
  obtain ⟨kC, hkC, -⟩ := hcls.2
  have hin := vp_in_nI hj hL
  refine W.aast cb.1 cb.2.1 hA (fun q h => by cases h) (fun h => by cases h) k1 k2' rfl hkC ⟨fun q => hin (Or.inl q), by show _ < (arrV _ _ _).slots.size; rw [arrV_size, hcl]; exact hj⟩ g1 (fun q h => by rw [g3] at h; cases h) (by rw [g2]; exact hkC) (by rw [g2]; exact va_assign hcls) rfl rfl hd fun H1 e z oq => ?_
  refine kk H1 _ (Bd_set cb.2.2.2.2.2.2.1 hB hi ?_ z oq) (va_S.put hS z oq (cb.2.2.2.2.2.2.1.2 k i hi))
  show H1[_]? = some (vp_cell _ _)
  rw [e, hcl, vp_cell_q, vp_cell_q, arrV_store]
  congr 2
  funext q
  by_cases hq : q = j
  · subst hq
    simp [updV, va_up, va_rf]
  · simp [updV, va_up, hq]
theorem cb_obj (cb : Cb_ p s m c args cc nL own w) {lv : List (Nat × Value)} (hl : lv_has ls nL lv) {index a0 : Nat} (hlink : Cond.methodLink own index Lib.objectInit ∈ nd_) (hframes : 1 ≤ R.frames) (hlocals : 20 ≤ R.locals) (hd : decode cc pc = .ok (.invokespecial index, 3)) (kk : W p l e R s m args below meth c H locs cells slots Q (F0 m (pc + 3) ls [])) : W p l e R s m args below meth c H locs cells slots Q (F0 m pc ls [.ref a0]) :=
  W.objInit cb.1 cb.2.1 cb.2.2.2.1 (cb.2.2.2.2.1 _ hlink) (cb.2.2.2.2.1 _ nw_19) (cb.2.2.2.2.1 _ nw_20) rfl (by rw [cb.2.2.1]; exact hl.1) rfl hd hframes (Nat.le_trans (Nat.le_of_ble_eq_true rfl) hlocals) kk
theorem cb_go {y : MethodName} {mc' ms' : Nat} {a0 : Nat} {g : JFrame} (hr : va_Run p l e R s m args below meth c H locs cells slots mc' ms' g rest (Qn_ w B' n' (Value.ref a0 :: ([] : List Value)).toArray) (fun q => lo_ w ≤ q)) (hS : Fr_ w s.heap H locs)
    (kk : ∀ (H1 : Heap) (locs1 : List Loc), Bd_ w B' n' H1 → Fr_ w s.heap H1 locs1 → W p l e R s m args below meth c H1 locs1 (cells + mc') (slots + ms') Q { g with pc := g.pc + 3, stack := rest }) : W p l e R s m args below meth c H locs cells slots Q g := by
  intro T hT X
  obtain ⟨v, st₀, t, T', L, h0, X', hL, e1, e2, ⟨hv, hBd, hF⟩, st⟩ := hr T hT X
  cases hv
  obtain ⟨k1, k2, k3⟩ := vx_keep h0 e1 hS (fun q _ h => h) (fun q h => h) hL hF
  obtain ⟨t2, a1, b1⟩ := kk T'.heap (locs ++ L) (by rw [e1]; exact hBd) k3 T' rfl X'
  exact ⟨t2, st t2 a1, b1⟩
theorem cb_pre (cb : Cb_ p s m c args cc nL own w) (hB : Bd_ w B n H) (As : List Value) : PreS s H (Pn_ w B n As) As := ⟨Pn_blind w B n As, fun U hU hW => ⟨rfl, by rw [hU]; exact hB, va_K.moved hW.alike cb.2.2.2.2.2.1, Yw_moved hW cb.2.2.2.2.2.2.2⟩⟩
/-- a constructor of a nest mate -/
theorem cb_cn (cb : Cb_ p s m c args cc nL own w) {y : MethodName} {cY : ByteArray} {maxL index mc' ms' a0 : Nat} {rm : Room} {host : String} {lv : List (Nat × Value)} (hl : lv_has ls nL lv) (hM : Nc_ l w y (.code y cY maxL none) rm mc' ms' [.ref a0] B n B' n') (hB : Bd_ w B n H) (hS : Fr_ w s.heap H locs) (cw : Cw_ y (.code y cY maxL none) 0) (hyn : y.name = "<init>") (him : Cond.instanceMethod y ∈ nd_) (hlk : va_Nw (.methodLinkNest own index y host) s) (hrc : rm.cells = mc') (hrs : rm.slots = ms') (hR : rm.frames + 1 ≤ R.frames ∧ 8 + (maxL + 11) + rm.locals ≤ R.locals) (hf : cells + mc' ≤ R.cells ∧ slots + ms' ≤ R.slots) (hq : (rest.map fun v => v.category).sum ≤ 8) (hd : decode cc pc = .ok (.invokespecial index, 3))
    (kk : ∀ (H1 : Heap) (locs1 : List Loc), Bd_ w B' n' H1 → Fr_ w s.heap H1 locs1 → W p l e R s m args below meth c H1 locs1 (cells + mc') (slots + ms') Q (F0 m (pc + 3) ls rest)) : W p l e R s m args below meth c H locs cells slots Q (F0 m pc ls (.ref a0 :: rest)) :=
  cb_go (y := y) (va_runIN (As := []) (Ts := nd_) ⟨cb.1, cb.2.1, cb.2.2.1, cb.2.2.2.1, cb.2.2.2.2.1⟩ hM ⟨va_cnB 0 cb.2.2.2.2.1 (nd_self cw.1) rfl hrc hrs hlk (cb.2.2.2.2.1 _ cw.2.1) cw.2.2 hR, hyn, cb.2.2.2.2.1 _ him⟩ (cb_pre cb hB _) rfl rfl hl.1 rfl (lv_room hq) hd hf) hS kk
/-- a constructor that anyone may call -/
theorem cb_ci (cb : Cb_ p s m c args cc nL own w) {y : MethodName} {cY : ByteArray} {maxL index mc' ms' a0 : Nat} {rm : Room} {lv : List (Nat × Value)} (hl : lv_has ls nL lv) (hM : Nc_ l w y (.code y cY maxL none) rm mc' ms' [.ref a0] B n B' n') (hB : Bd_ w B n H) (hS : Fr_ w s.heap H locs) (cw : Cw_ y (.code y cY maxL none) 0) (hyn : y.name = "<init>") (him : Cond.instanceMethod y ∈ nd_) (hlk : Cond.methodLink own index y ∈ nd_) (hrc : rm.cells = mc') (hrs : rm.slots = ms') (hR : rm.frames + 1 ≤ R.frames ∧ 8 + (maxL + 11) + rm.locals ≤ R.locals) (hf : cells + mc' ≤ R.cells ∧ slots + ms' ≤ R.slots) (hq : (rest.map fun v => v.category).sum ≤ 8) (hd : decode cc pc = .ok (.invokespecial index, 3))
    (kk : ∀ (H1 : Heap) (locs1 : List Loc), Bd_ w B' n' H1 → Fr_ w s.heap H1 locs1 → W p l e R s m args below meth c H1 locs1 (cells + mc') (slots + ms') Q (F0 m (pc + 3) ls rest)) : W p l e R s m args below meth c H locs cells slots Q (F0 m pc ls (.ref a0 :: rest)) :=
  cb_go (y := y) (va_runI (As := []) (Ts := nd_) ⟨cb.1, cb.2.1, cb.2.2.1, cb.2.2.2.1, cb.2.2.2.2.1⟩ hM ⟨callB_of 0 cb.2.2.2.2.1 (nd_self cw.1) rfl hrc hrs (cb.2.2.2.2.1 _ cw.2.1) (cb.2.2.2.2.1 _ hlk) cw.2.2 hR, hyn, cb.2.2.2.2.1 _ him⟩ (cb_pre cb hB _) rfl rfl hl.1 rfl (lv_room hq) hd hf) hS kk
theorem cb_ret (cb : Cb_ p s m c args cc nL own w) {mc ms : Nat} (hr : meth.sig.returnType = none) (hlk : meth.locks = false) (hB : Bd_ w B n H) (hS : Fr_ w s.heap H locs) (hc : cells ≤ mc) (hs : slots ≤ ms) (hd : decode cc pc = .ok (.return_, 1)) (hsub : ∀ k i e, B' k i = some e → B k i = some e) (hn : n' = n) :
    W p l e R s m args below meth c H locs cells slots (MQ below (Qn_ w B' n') args s mc ms (fun q => lo_ w ≤ q)) (F0 m pc ls []) := by
  subst hn
  exact W.widen hc hs (W.vret cb.1 cb.2.1 hr (fun t ht _ => ⟨rfl, by rw [ht]; exact Bd_sub hB hsub, va_S.F hS ht⟩) hS.2.2 hd hlk)
/-- an array of int arrays, its rows made with it -/
theorem cb_mu (cb : Cb_ p s m c args cc nL own w) {index : Nat} (hlink : Cond.classLink own index "[[I" ∈ nd_) (hB : Bd_ w B n H) (hS : Fr_ w s.heap H locs) (hcn : cn_ 10 = 8) (hcn3 : cn_ 3 = 1) (ha3 : ad_ w 3 0 = lo_ w + n) (ha : ∀ j, j < 8 → ad_ w 10 j = lo_ w + n + 1 + j) (hcells : cells + 9 ≤ R.cells) (hslots : slots + 56 ≤ R.slots) (hd : decode cc pc = .ok (.multianewarray index 2, 4))
    (kk : ∀ (H1 : Heap) (locs1 : List Loc), Bd_ w (fun k i => if k = 3 ∧ i = 0 then some (.inl (ca_ w 4, 8, .inr (.inr (.inr (.inr fun j => some (ad_ w 10 j)))))) else if k = 10 ∧ i < 8 then some (.inl (ca_ w 0, 6, .inl fun _ => 0)) else B k i) (n + 9) H1 → Fr_ w s.heap H1 locs1 → W p l e R s m args below meth c H1 locs1 (cells + 9) (slots + 56) Q (F0 m (pc + 4) ls (.ref (ad_ w 3 0) :: rest))) : W p l e R s m args below meth c H locs cells slots Q (F0 m pc ls (.int 6 :: .int 8 :: rest)) := by
  have hsz : H.size = ad_ w 3 0 := by rw [ha3]; exact hB.2
  refine mu_W (N := 8) (M := 6) cb.1 cb.2.1 cb.2.2.2.1 (cb.2.2.2.2.1 _ hlink) cb.2.2.2.2.2.2.2.2.2.2.2.2.2 (cb.2.2.2.2.1 _ nw_39) (by decide) (by decide) (by decide +kernel) (by decide +kernel) (by decide) (by decide) hcells hslots hd fun H1 L cA comp f1 f2 z e1 r1 o1 hL => ?_
  have hcA : cA = ca_ w 4 := Option.some.inj (f1.symm.trans ((cb.2.2.2.2.2.1.2 4 _ rfl).2))
  have hcI : comp = ca_ w 0 := Option.some.inj (f2.symm.trans ((cb.2.2.2.2.2.1.2 0 _ rfl).2))
  subst hcA
  subst hcI
  rw [hsz] at z e1 r1
  rw [hsz]
  refine kk H1 (locs ++ L) ⟨fun k i e h => ?_, by rw [z, ha3]; omega⟩ ⟨Nat.le_trans hS.1 (by omega), fun x h1 h2 => (o1 x (Nat.lt_of_lt_of_le h1 hS.1)).trans (hS.2.1 x h1 h2), fun q hq => ?_⟩
  · dsimp only at h
    by_cases h3 : k = 3 ∧ i = 0
    · rw [if_pos h3] at h
      obtain ⟨rfl, rfl⟩ := h3
      cases h
      refine ⟨by rw [hcn3]; decide, ?_⟩
      show H1[_]? = some (vp_cell _ _)
      rw [e1, vp_cell_q]
      congr 1
      unfold arrV
      congr 2
      funext j
      dsimp only
      rw [if_pos j.isLt, ha j.val j.isLt, ha3]
      rfl
    · rw [if_neg h3] at h
      by_cases h10 : k = 10 ∧ i < 8
      · rw [if_pos h10] at h
        obtain ⟨rfl, hi8⟩ := h10
        cases h
        refine ⟨by rw [hcn]; exact hi8, ?_⟩
        show H1[_]? = some (vp_cell _ _)
        rw [ha i hi8, ← ha3]
        exact r1 i hi8
      · rw [if_neg h10] at h
        obtain ⟨g1, g2⟩ := hB.1 k i e h
        exact ⟨g1, g2.kept (o1 _ g2.lt)⟩
  · rcases List.mem_append.mp hq with h | h
    · exact hS.2.2 q h
    · show lo_ w ≤ q.base
      rw [hL q h, hB.2]
      omega
end CN
