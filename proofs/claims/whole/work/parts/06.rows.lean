/-! THE WORLD in a heap, and the rows of the instructions that read and write it. -/
def Hd_ (w : Gh_) (a : St_) (H : Heap) : Prop := ∀ k i, i < cn_ k → va_at w.1 cl_ (ad_ w k i, en_ w a k i) H
def In_ (w : Gh_) : Prop := (∀ k i k' i', i < cn_ k → i' < cn_ k' → ad_ w k i = ad_ w k' i' → k = k' ∧ i = i') ∧ ∀ k i, i < cn_ k → lo_ w ≤ ad_ w k i
def ty_ (w : Gh_) : List (ClassId × FieldType) := [(ca_ w 0, .int), (ca_ w 1, .long), (ca_ w 2, .object "MarginHouse$Member"), (ca_ w 3, .object "MarginHouse$Instrument"), (ca_ w 4, .array .int)]
def Kn_ (w : Gh_) (U : State) : Prop := va_K w.1 cl_ (ty_ w) U
def Fr_ (w : Gh_) (H0 H : Heap) (locs : List Loc) : Prop := va_S (fun q => lo_ w ≤ q) H0 H locs
theorem Hd_set {w : Gh_} {a a' : St_} {H H1 : Heap} {k i : Nat} (hI : In_ w) (hW : Hd_ w a H) (hi : i < cn_ k) (he : va_at w.1 cl_ (ad_ w k i, en_ w a' k i) H1) (ho : ∀ q : Nat, q ≠ ad_ w k i → H1[q]? = H[q]?)
    (hu : ∀ k' i', ¬ (k' = k ∧ i' = i) → en_ w a' k' i' = en_ w a k' i') : Hd_ w a' H1 := by
  intro k' i' hi'
  by_cases h : k' = k ∧ i' = i
  · obtain ⟨rfl, rfl⟩ := h
    exact he
  · rw [hu k' i' h]
    exact (hW k' i' hi').kept (ho _ (fun z => h (hI.1 k' i' k i hi' hi z)))
theorem Hd_kept {w : Gh_} {a : St_} {H H1 : Heap} (hW : Hd_ w a H) (ho : ∀ q : Nat, q < H.size → H1[q]? = H[q]?) : Hd_ w a H1 := fun k i hi => (hW k i hi).kept (ho _ (hW k i hi).lt)
section RG
variable {p : Program} {l : Launch} {e : Env} {R : Room} {s : State} {m : MethodId} {args : Array Value} {below : List Frame} {meth : Method} {c : Code} {H : Heap} {locs : List Loc} {cells slots : Nat} {Q : State → Prop}
variable {cc : ByteArray} {pc : Nat} {ls : Array Slot} {rest : List Value} {w : Gh_} {a a' : St_} {H0 : Heap} {k i : Nat}
theorem rg_one {e1 : va_E} (hW : Hd_ w a H) (hi : i < cn_ k) (he : en_ w a k i = e1) : va_P w.1 cl_ [(ad_ w k i, e1)] H := by
  intro q x hq
  have hz : q < 1 := (List.getElem?_eq_some_iff.mp hq).1
  rw [show q = 0 by omega] at hq
  cases hq
  rw [← he]
  exact hW k i hi
theorem rg_get (hx : p.tables.exec = Jvm.exec) (hb : c.code = cc) {own C : String} {T : u_T} {N ci index : Nat} {Ts : List Cond} (hts : ∀ w ∈ Ts, w.before args s = true) (hin : ∀ w ∈ u_ws C T N, w ∈ Ts) (hown : s.vm.findClass own = some m.cls) (hK : Kn_ w s) (hW : Hd_ w a H) (hi : i < cn_ k) {fs : List Value} (he : en_ w a k i = .inr (ci, fs)) (hc : cl_[ci]? = some (C, T, N)) (f : Nat) (hf : f < N)
    (hlink : (Cond.fieldLink own index (T f).1 (T f).2.1 (T f).2.2.1).before args s = true) {v : Value} (hv : fs[f]? = some v) (hd : decode cc pc = .ok (.getfield index, 3))
    (kk : W p l e R s m args below meth c H locs cells slots Q (F0 m (pc + 3) ls (v :: rest))) : W p l e R s m args below meth c H locs cells slots Q (F0 m pc ls (.ref (ad_ w k i) :: rest)) :=
  va_get hx hb hts hin hown hK (rg_one hW hi he) 0 rfl hc f hf hlink (fun _ h => h) hv hd kk
theorem rg_put (hx : p.tables.exec = Jvm.exec) (hb : c.code = cc) {own C : String} {T : u_T} {N ci index : Nat} {Ts : List Cond} (hts : ∀ w ∈ Ts, w.before args s = true) (hin : ∀ w ∈ u_ws C T N, w ∈ Ts) (ty0 : Nat → FieldType) (hty : ∀ k, k < N → parseFieldDescriptor (T k).2.2.1 = some (ty0 k)) (hnm : ∀ a, a < N → ∀ b, b < N → a ≠ b → (T a).2.1 ≠ (T b).2.1) (hown : s.vm.findClass own = some m.cls) (hK : Kn_ w s) (hI : In_ w) (hW : Hd_ w a H) (hS : Fr_ w H0 H locs)
    (hi : i < cn_ k) {fs : List Value} (he : en_ w a k i = .inr (ci, fs)) (hc : cl_[ci]? = some (C, T, N)) (f : Nat) (hf : f < N) (hlink : (Cond.fieldLink own index (T f).1 (T f).2.1 (T f).2.2.1).before args s = true) (hfin : (T f).2.2.2 = false) {ty : FieldType} {v : Value} (hd : parseFieldDescriptor (T f).2.2.1 = some ty) (hn : narrow ty v = v) (hfit : fits ty v = true) (hl : f < fs.length)
    (he' : en_ w a' k i = .inr (ci, fs.set f v)) (hu : ∀ k' i', ¬ (k' = k ∧ i' = i) → en_ w a' k' i' = en_ w a k' i') (hdg : decode cc pc = .ok (.putfield index, 3))
    (kk : ∀ (H1 : Heap) (locs1 : List Loc), Hd_ w a' H1 → Fr_ w H0 H1 locs1 → W p l e R s m args below meth c H1 locs1 cells slots Q (F0 m (pc + 3) ls rest)) : W p l e R s m args below meth c H locs cells slots Q (F0 m pc ls (v :: .ref (ad_ w k i) :: rest)) := by
  have hap := va_apart (own := own) hts hin ty0 hty hnm hK hc
  obtain ⟨r, h1, cell, q1, q2, q3, q4⟩ := rg_one hW hi he 0 _ rfl
  have hr : r = (C, T, N) := Option.some.inj (h1.symm.trans hc)
  subst hr
  obtain ⟨hSl, hfc, kC, hkC, hkind⟩ := hK.1 ci _ hc
  obtain ⟨cf, kf, fi, fd, hi2, hsl⟩ := hSl f hf
  have hlay := hts _ (hin _ (u_in_lay hf))
  unfold u_lay at hlay
  rw [if_neg (by rw [hfin]; decide)] at hlay
  have hst := (u_facts hfc hkC (u_lays hts hin hf) hi2).1
  have h6 := u_store hfc hkC hkind hlay hi2 hd hn hfit
  refine W.putK hx hb (f := fd) ⟨hown, hlink, ⟨_, _, _, hi2⟩, hst⟩ (by rw [q2]; exact h6) q1 q3 (by rw [hsl]; exact k2_hasslot (q4 f hf)) rfl rfl hdg fun H' e1 e2 e3 => ?_
  rw [hsl] at e1 ⊢
  refine kk H' _ (Hd_set hI hW hi ?_ e3 hu) (va_S.put hS e2 e3 (hI.2 k i hi))
  rw [he']
  exact ⟨_, hc, t_OB.to (V := updV (vp_V fs) f v) ⟨_, e1, q2, q3, t_set q4 hap hf v⟩ (fun j _ => vp_updV_set hl v j)⟩
theorem rg_iald (hx : p.tables.exec = Jvm.exec) (hb : c.code = cc) (hK : Kn_ w s) (hW : Hd_ w a H) (hi : i < cn_ k) {n : Nat} {f : Nat → Int32} (he : en_ w a k i = .inl (ca_ w 0, n, .inl f)) {x : Int32} {j : Nat} (hxj : x = nI j) (hj : j < n) (hn : n < 2 ^ 31) {v : Int32} (hv : f j = v) (hd : decode cc pc = .ok (.iaload, 1))
    (kk : W p l e R s m args below meth c H locs cells slots Q (F0 m (pc + 1) ls (.int v :: rest))) : W p l e R s m args below meth c H locs cells slots Q (F0 m pc ls (.int x :: .ref (ad_ w k i) :: rest)) := by
  subst hxj
  subst hv
  have h := va_iald (i := nI j) (rest := rest) (ls := ls) (pc := pc) (locs := locs) (cells := cells) (slots := slots) (Q := Q) (R := R) (e := e) (l := l) (args := args) (below := below) (meth := meth) (m := m) hx hb hK (rg_one hW hi he) 0 0 rfl rfl (vp_in_nI hj hn) hd
  rw [nI_clamp (by omega)] at h
  exact h kk
theorem rg_lald (hx : p.tables.exec = Jvm.exec) (hb : c.code = cc) (hK : Kn_ w s) (hW : Hd_ w a H) (hi : i < cn_ k) {n : Nat} {f : Nat → Int64} (he : en_ w a k i = .inl (ca_ w 1, n, .inr (.inl f))) {x : Int32} {j : Nat} (hxj : x = nI j) (hj : j < n) (hn : n < 2 ^ 31) {v : Int64} (hv : f j = v) (hd : decode cc pc = .ok (.laload, 1))
    (kk : W p l e R s m args below meth c H locs cells slots Q (F0 m (pc + 1) ls (.long v :: rest))) : W p l e R s m args below meth c H locs cells slots Q (F0 m pc ls (.int x :: .ref (ad_ w k i) :: rest)) := by
  subst hxj
  subst hv
  have h := va_lald (i := nI j) (rest := rest) (ls := ls) (pc := pc) (locs := locs) (cells := cells) (slots := slots) (Q := Q) (R := R) (e := e) (l := l) (args := args) (below := below) (meth := meth) (m := m) hx hb hK (rg_one hW hi he) 0 1 rfl rfl (vp_in_nI hj hn) hd
  rw [nI_clamp (by omega)] at h
  exact h kk
theorem rg_aald (hx : p.tables.exec = Jvm.exec) (hb : c.code = cc) (hK : Kn_ w s) (hW : Hd_ w a H) (hi : i < cn_ k) {n t0 : Nat} {cA : ClassId} {ty : FieldType} {f : Nat → Option Nat} (he : en_ w a k i = .inl (cA, n, .inr (.inr (.inr (.inr f))))) (ht : (ty_ w)[t0]? = some (cA, ty)) (hty : ty.isReference = true) {x : Int32} {j : Nat} (hxj : x = nI j) (hj : j < n) (hn : n < 2 ^ 31) {b : Nat} (hv : f j = some b) (hd : decode cc pc = .ok (.aaload, 1))
    (kk : W p l e R s m args below meth c H locs cells slots Q (F0 m (pc + 1) ls (.ref b :: rest))) : W p l e R s m args below meth c H locs cells slots Q (F0 m pc ls (.int x :: .ref (ad_ w k i) :: rest)) := by
  subst hxj
  have hP := rg_one hW hi he 0 _ rfl
  have hcl : (nI j).toNatClampNeg = j := nI_clamp (by omega)
  refine W.aald (v := .ref b) (ty := ty) hx hb hP ((hK.2 t0 _ ht).1 n (fun j => va_rf (f j))) hty (fun q => by cases q) (by show ¬ (_ ∨ (arrV _ _ _).slots.size ≤ _); rw [arrV_size]; exact vp_in_nI hj hn) ?_ rfl rfl hd kk
  show (arrV _ _ _).slots[_]? = _
  rw [hcl, arrV_read _ _ hj, hv]
  rfl
theorem rg_iast (hx : p.tables.exec = Jvm.exec) (hb : c.code = cc) (hK : Kn_ w s) (hI : In_ w) (hW : Hd_ w a H) (hS : Fr_ w H0 H locs) (hi : i < cn_ k) {n : Nat} {f : Nat → Int32} (he : en_ w a k i = .inl (ca_ w 0, n, .inl f)) {x y : Int32} {j : Nat} (hxj : x = nI j) (hj : j < n) (hn : n < 2 ^ 31)
    (he' : en_ w a' k i = .inl (ca_ w 0, n, .inl (upd f j y))) (hu : ∀ k' i', ¬ (k' = k ∧ i' = i) → en_ w a' k' i' = en_ w a k' i') (hd : decode cc pc = .ok (.iastore, 1))
    (kk : ∀ (H1 : Heap) (locs1 : List Loc), Hd_ w a' H1 → Fr_ w H0 H1 locs1 → W p l e R s m args below meth c H1 locs1 cells slots Q (F0 m (pc + 1) ls rest)) : W p l e R s m args below meth c H locs cells slots Q (F0 m pc ls (.int y :: .int x :: .ref (ad_ w k i) :: rest)) := by
  subst hxj
  have hP := rg_one hW hi he 0 _ rfl
  have hcl : (nI j).toNatClampNeg = j := nI_clamp (by omega)
  refine W.iast hx hb hP ((hK.2 0 _ rfl).1 n (fun j => .int (f j))) (fun q => by cases q) (by show ¬ (_ ∨ (arrV _ _ _).slots.size ≤ _); rw [arrV_size]; exact vp_in_nI hj hn) rfl rfl hd fun H1 e z oq => ?_
  refine kk H1 _ (Hd_set hI hW hi ?_ oq hu) (va_S.put hS z oq (hI.2 k i hi))
  rw [he']
  show H1[_]? = some (vp_cell _ _)
  rw [e, hcl, vp_cell_i, vp_cell_i, arrV_store]
  congr 2
  funext q
  by_cases hq : q = j
  · subst hq
    simp [updV, upd]
  · simp [updV, upd, hq]
theorem rg_last (hx : p.tables.exec = Jvm.exec) (hb : c.code = cc) (hK : Kn_ w s) (hI : In_ w) (hW : Hd_ w a H) (hS : Fr_ w H0 H locs) (hi : i < cn_ k) {n : Nat} {f : Nat → Int64} (he : en_ w a k i = .inl (ca_ w 1, n, .inr (.inl f))) {x : Int32} {y : Int64} {j : Nat} (hxj : x = nI j) (hj : j < n) (hn : n < 2 ^ 31)
    (he' : en_ w a' k i = .inl (ca_ w 1, n, .inr (.inl (vp_updL f j y)))) (hu : ∀ k' i', ¬ (k' = k ∧ i' = i) → en_ w a' k' i' = en_ w a k' i') (hd : decode cc pc = .ok (.lastore, 1))
    (kk : ∀ (H1 : Heap) (locs1 : List Loc), Hd_ w a' H1 → Fr_ w H0 H1 locs1 → W p l e R s m args below meth c H1 locs1 cells slots Q (F0 m (pc + 1) ls rest)) : W p l e R s m args below meth c H locs cells slots Q (F0 m pc ls (.long y :: .int x :: .ref (ad_ w k i) :: rest)) := by
  subst hxj
  have hP := rg_one hW hi he 0 _ rfl
  have hcl : (nI j).toNatClampNeg = j := nI_clamp (by omega)
  refine W.last hx hb hP ((hK.2 1 _ rfl).1 n (fun j => .long (f j))) (fun q => by cases q) (by show ¬ (_ ∨ (arrV _ _ _).slots.size ≤ _); rw [arrV_size]; exact vp_in_nI hj hn) rfl rfl hd fun H1 e z oq => ?_
  refine kk H1 _ (Hd_set hI hW hi ?_ oq hu) (va_S.put hS z oq (hI.2 k i hi))
  rw [he']
  show H1[_]? = some (vp_cell _ _)
  rw [e, hcl, vp_cell_l, vp_cell_l, arrV_store]
  congr 2
  funext q
  by_cases hq : q = j
  · subst hq
    simp [updV, vp_updL]
  · simp [updV, vp_updL, hq]
end RG
