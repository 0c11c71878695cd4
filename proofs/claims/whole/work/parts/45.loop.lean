/-! THE LAW'S LOOP, and the claim -/
theorem Rl_0 : Rl_ 0 a0_ := by
  have z : lN 0 = 0 := by decide +kernel
  have z1 : (0 : Int32).toInt = 0 := by decide
  have z2 : (0 : Int64).toInt = 0 := by decide
  refine ⟨0, 0, ⟨by omega, by omega, nI_0.symm, nI_0.symm, nI_0.symm, nI_0.symm⟩, ⟨0, by omega, nI_0.symm, z.symm⟩, fun m _ => ⟨rfl, rfl, rfl, ?_, ?_⟩, fun m _ j _ => ⟨rfl, rfl, rfl, ?_, ?_, ?_⟩, fun j _ => ⟨rfl, rfl, rfl, ?_, ?_, ?_⟩, ⟨rfl, rfl, ?_, ?_, fun _ _ => rfl⟩, fun _ _ _ _ _ => rfl, fun _ _ _ => rfl⟩
  all_goals first | (show _ ≤ (0 : Int32).toInt ∧ (0 : Int32).toInt ≤ _; rw [z1]; omega) | (show _ ≤ (0 : Int64).toInt ∧ (0 : Int64).toInt ≤ _; rw [z2]; omega)
theorem inc6 (t : Nat) : nI (6 * t) + Int32.ofInt 6 = nI (6 * (t + 1)) := by
  rw [show Int32.ofInt 6 = nI 6 by decide +kernel, nI_add]
  rfl
set_option maxHeartbeats 4000000 in
set_option maxRecDepth 100000 in
theorem lw_loop (l : Launch) (hst : l.stackTraces = false) {zp : Program} {ze : Env} {zs : State} {zm : MethodId} {zb : List Frame} {zt : Method} {zc : Code} {w : Gh_} {b L : Nat} {xs : Nat → Int32} (cx : Cx_ zp zs zm zc #[Value.ref b] cL_law 8 "MarginHouseLaw" w) (hX : va_X b L xs zs zs.heap) (hbl : b < zs.heap.size) (hbA : ¬ lo_ w ≤ b) (hL : L ≤ 3072) (hr : zt.sig.returnType = ret) (hlk : zt.locks = false) (hlo : lo_ w = zs.heap.size) : ∀ (d t : Nat), t ≤ 512 → 512 - t < d → ∀ (a : St_), Rl_ t a → ∀ (H : Heap) (locs : List Loc) (ls : Array Slot), Hd_ w a H → Fr_ w zs.heap H locs → lv_has ls 8 [(0, .ref b), (1, .ref (ad_ w 0 0)), (2, .ref (ad_ w 20 0)), (3, .ref (ad_ w 40 0)), (4, .int (nI (6 * t)))] → W zp l ze room_1 zs zm #[Value.ref b] zb zt zc H locs (71 + t) (609 + 6 * t) (lw_Z zb #[Value.ref b] zs) (F0 zm 23 ls []) := by
  intro d
  induction d with
  | zero => intro t _ hd; exact absurd hd (Nat.not_lt_zero _)
  | succ d ih =>
    intro t ht5 hdt a hR H locs ls hW hS hl
    have hI := cx.2.2.2.2.2.2.1
    refine lv_iload cx.1 cx.2.1 dL_law_23 (lv_at hl 4 rfl) ?_
    refine lv_aload_n cx.1 cx.2.1 dL_law_25 rfl (lv_at hl 0 rfl) ?_
    refine va_slen cx.1 cx.2.1 hX hbl hbA hS dL_law_26 ?_
    refine lv_bipush (v := 6) cx.1 cx.2.1 dL_law_27 (by decide) ?_
    refine lv_isub cx.1 cx.2.1 dL_law_29 ?_
    have e6 : (6 : Int32).toInt = 6 := by decide
    have eL : (Int32.ofNat L).toInt = (L : Int) := nI_toInt (by omega)
    have eS : (Int32.ofNat L - 6).toInt = (L : Int) - 6 := by rw [Kit.i32_sub, eL, e6] <;> rw [eL, e6] <;> omega
    have et : (nI (6 * t)).toInt = ((6 * t : Nat) : Int) := nI_toInt (by omega)
    refine lv_icmp_gt (tgt := 1298) cx.1 cx.2.1 dL_law_30 (by decide) (fun h => ?_) (fun h => ?_)
    · refine va_forget (fun q hq => by rw [← hlo]; exact hS.2.2 q hq) ?_
      refine W.widen (k := 647880) (n := 7152463) (by omega) (by omega) ?_
      refine lv_iconst (v := 1) cx.1 cx.2.1 dL_law_1298 (by decide) ?_
      exact lw_ret cx.1 cx.2.1 hr hlk dL_law_1299
    · rw [Int32.lt_iff_toInt_lt, eS, et] at h
      have ht : 6 * t + 6 ≤ L := by omega
      have hfc : 71 + t + 1 ≤ 647880 := by omega
      have hfs : 609 + 6 * t + 6 ≤ 7152463 := by omega
      have J : ∀ a2 : St_, Rl_ (t + 1) a2 → ∀ (H : Heap) (locs : List Loc) (ls : Array Slot), Hd_ w a2 H → Fr_ w zs.heap H locs → lv_has ls 8 [(0, .ref b), (1, .ref (ad_ w 0 0)), (2, .ref (ad_ w 20 0)), (3, .ref (ad_ w 40 0)), (4, .int (nI (6 * t)))] → W zp l ze room_1 zs zm #[Value.ref b] zb zt zc H locs (71 + t + 1) (609 + 6 * t + 6) (lw_Z zb #[Value.ref b] zs) (F0 zm 1292 ls []) := by
        intro a2 hR2 H locs ls hW hS hl
        refine lv_iinc (v := nI (6 * (t + 1))) (lv' := [(4, .int (nI (6 * (t + 1)))), (0, .ref b), (1, .ref (ad_ w 0 0)), (2, .ref (ad_ w 20 0)), (3, .ref (ad_ w 40 0))]) cx.1 cx.2.1 dL_law_1292 hl (k := 4) rfl (inc6 t) (by decide) rfl (fun ls hl => ?_)
        refine lv_goto (tgt := 23) cx.1 cx.2.1 dL_law_1295 (by decide) ?_
        exact W.widen (k := 71 + (t + 1)) (n := 609 + 6 * (t + 1)) (by omega) (by omega) (ih (t + 1) (by omega) (by omega) a2 hR2 H locs ls hW hS (lv_sub hl [1, 2, 3, 4, 0] rfl))
      refine lv_aload_n cx.1 cx.2.1 dL_law_33 rfl (lv_at hl 0 rfl) ?_
      refine lv_iload cx.1 cx.2.1 dL_law_34 (lv_at hl 4 rfl) ?_
      refine sc_ld (j := 6 * t) cx hX hbl hbA hS rfl (by omega) (by omega) dL_law_36 ?_
      refine lv_bipush (v := 31) cx.1 cx.2.1 dL_law_37 (by decide) ?_
      refine lv_iand cx.1 cx.2.1 dL_law_39 ?_
      generalize xs (6 * t) &&& 31 = x
      by_cases hx0 : x.toInt < 0 ∨ 16 < x.toInt
      · refine lv_tableOut (tgt := 1292) cx.1 cx.2.1 dL_law_40 hx0 (by decide) ?_
        refine W.widen (k := 71 + t + 1) (n := 609 + 6 * t + 6) (by omega) (by omega) ?_
        obtain ⟨k, n, hR⟩ := hR
        exact J a ⟨k, n, Rk_up hR⟩ H locs ls hW hS hl
      · have hc : x.toInt = 0 ∨ x.toInt = 1 ∨ x.toInt = 2 ∨ x.toInt = 3 ∨ x.toInt = 4 ∨ x.toInt = 5 ∨ x.toInt = 6 ∨ x.toInt = 7 ∨ x.toInt = 8 ∨ x.toInt = 9 ∨ x.toInt = 10 ∨ x.toInt = 11 ∨ x.toInt = 12 ∨ x.toInt = 13 ∨ x.toInt = 14 ∨ x.toInt = 15 ∨ x.toInt = 16 := by omega
        rcases hc with e | e | e | e | e | e | e | e | e | e | e | e | e | e | e | e | e
        · refine lv_tableIn (off := 84) (tgt := 124) cx.1 cx.2.1 dL_law_40 (by omega) (by omega) (by rw [e]; rfl) (by decide) ?_
          obtain ⟨kc, r, a1, a2, p1, p2, p3, p4, p5⟩ := pr_member l hst hI hR (lw2_ (xs (6 * t + 1)) (xs (6 * t + 2)))
          exact lw_c_member l cx hX hbl hbA hL ht hfc hfs p1 p2 p3 p4 hW hS hl (J a2 p5)
        · refine lv_tableIn (off := 172) (tgt := 212) cx.1 cx.2.1 dL_law_40 (by omega) (by omega) (by rw [e]; rfl) (by decide) ?_
          obtain ⟨kc, r, a1, a2, p1, p2, p3, p4, p5⟩ := pr_instrument l hst hI hR (xs (6 * t + 1)) (xs (6 * t + 2)) (xs (6 * t + 3))
          exact lw_c_instrument l cx hX hbl hbA hL ht hfc hfs p1 p2 p3 p4 hW hS hl (J a2 p5)
        · refine lv_tableIn (off := 252) (tgt := 292) cx.1 cx.2.1 dL_law_40 (by omega) (by omega) (by rw [e]; rfl) (by decide) ?_
          obtain ⟨kc, r, a1, a2, p1, p2, p3, p4, p5⟩ := pr_capital l hst hI hR (lw2_ (xs (6 * t + 1)) (xs (6 * t + 2)))
          exact lw_c_capital l cx hX hbl hbA hL ht hfc hfs p1 p2 p3 p4 hW hS hl (J a2 p5)
        · refine lv_tableIn (off := 339) (tgt := 379) cx.1 cx.2.1 dL_law_40 (by omega) (by omega) (by rw [e]; rfl) (by decide) ?_
          obtain ⟨kc, a1, a2, p1, p2, p3, p5⟩ := pr_move l hst hI hR (xs (6 * t + 1)) (xs (6 * t + 2)) (xs (6 * t + 3))
          exact lw_c_move l cx hX hbl hbA hL ht hfc hfs p1 p2 p3 hW hS hl (J a2 p5)
        · refine lv_tableIn (off := 399) (tgt := 439) cx.1 cx.2.1 dL_law_40 (by omega) (by omega) (by rw [e]; rfl) (by decide) ?_
          obtain ⟨kc, a1, a2, p1, p2, p3, p5⟩ := pr_bid l hst hI hR (xs (6 * t + 1)) (xs (6 * t + 2)) (xs (6 * t + 3))
          exact lw_c_bid l cx hX hbl hbA hL ht hfc hfs p1 p2 p3 hW hS hl (J a2 p5)
        · refine lv_tableIn (off := 459) (tgt := 499) cx.1 cx.2.1 dL_law_40 (by omega) (by omega) (by rw [e]; rfl) (by decide) ?_
          obtain ⟨kc, r, a1, a2, p1, p2, p3, p4, p5⟩ := pr_deposit l hst hI hR (xs (6 * t + 1)) (lw2_ (xs (6 * t + 2)) (xs (6 * t + 3)))
          exact lw_c_deposit l cx hX hbl hbA hL ht hfc hfs p1 p2 p3 p4 hW hS hl (J a2 p5)
        · refine lv_tableIn (off := 558) (tgt := 598) cx.1 cx.2.1 dL_law_40 (by omega) (by omega) (by rw [e]; rfl) (by decide) ?_
          obtain ⟨kc, r, a1, a2, p1, p2, p3, p4, p5⟩ := pr_withdraw l hst hI hR (xs (6 * t + 1)) (lw2_ (xs (6 * t + 2)) (xs (6 * t + 3)))
          exact lw_c_withdraw l cx hX hbl hbA hL ht hfc hfs p1 p2 p3 p4 hW hS hl (J a2 p5)
        · refine lv_tableIn (off := 657) (tgt := 697) cx.1 cx.2.1 dL_law_40 (by omega) (by omega) (by rw [e]; rfl) (by decide) ?_
          obtain ⟨kc, r, a1, a2, p1, p2, p3, p4, p5⟩ := pr_trade l hst hI hR (xs (6 * t + 1)) (xs (6 * t + 2)) (xs (6 * t + 3)) (xs (6 * t + 4)) (xs (6 * t + 5))
          exact lw_c_trade l cx hX hbl hbA hL ht hfc hfs p1 p2 p3 p4 hW hS hl (J a2 p5)
        · refine lv_tableIn (off := 761) (tgt := 801) cx.1 cx.2.1 dL_law_40 (by omega) (by omega) (by rw [e]; rfl) (by decide) ?_
          obtain ⟨kc, r, a1, a2, p1, p2, p3, p4, p5⟩ := pr_mark l hst hI hR (xs (6 * t + 1)) (xs (6 * t + 2))
          exact lw_c_mark l cx hX hbl hbA hL ht hfc hfs p1 p2 p3 p4 hW hS hl (J a2 p5)
        · refine lv_tableIn (off := 829) (tgt := 869) cx.1 cx.2.1 dL_law_40 (by omega) (by omega) (by rw [e]; rfl) (by decide) ?_
          obtain ⟨kc, r, a1, a2, p1, p2, p3, p4, p5⟩ := pr_margin l hst hI hR (xs (6 * t + 1))
          exact lw_c_margin l cx hX hbl hbA hL ht hfc hfs p1 p2 p3 p4 hW hS hl (J a2 p5)
        · refine lv_tableIn (off := 884) (tgt := 924) cx.1 cx.2.1 dL_law_40 (by omega) (by omega) (by rw [e]; rfl) (by decide) ?_
          obtain ⟨kc, r, a1, a2, p1, p2, p3, p4, p5⟩ := pr_called l hst hI hR (xs (6 * t + 1))
          exact lw_c_called l cx hX hbl hbA hL ht hfc hfs p1 p2 p3 p4 hW hS hl (J a2 p5)
        · refine lv_tableIn (off := 939) (tgt := 979) cx.1 cx.2.1 dL_law_40 (by omega) (by omega) (by rw [e]; rfl) (by decide) ?_
          obtain ⟨r, a1, a2, p1, p2, p5⟩ := pr_declare l hI hR
          exact lw_c_declare l cx hX hbl hbA hL ht (by omega) (by omega) p1 p2 hW hS hl (fun H locs ls hW hS hl => W.widen (k := 71 + t + 1) (n := 609 + 6 * t + 6) (by omega) (by omega) (J a2 p5 H locs ls hW hS hl))
        · refine lv_tableIn (off := 952) (tgt := 992) cx.1 cx.2.1 dL_law_40 (by omega) (by omega) (by rw [e]; rfl) (by decide) ?_
          obtain ⟨kc, r, a1, a2, p1, p2, p3, p4, p5⟩ := pr_closeOut l hst hI hR (xs (6 * t + 1))
          exact lw_c_closeOut l cx hX hbl hbA hL ht hfc hfs p1 p2 p3 p4 hW hS hl (J a2 p5)
        · refine lv_tableIn (off := 1007) (tgt := 1047) cx.1 cx.2.1 dL_law_40 (by omega) (by omega) (by rw [e]; rfl) (by decide) ?_
          obtain ⟨kc, r, a1, a2, p1, p2, p3, p4, p5⟩ := pr_told l hst hI hR (xs (6 * t + 1)) (xs (6 * t + 2))
          exact lw_c_told l cx hX hbl hbA hL ht hfc hfs p1 p2 p3 p4 hW hS hl (J a2 p5)
        · refine lv_tableIn (off := 1074) (tgt := 1114) cx.1 cx.2.1 dL_law_40 (by omega) (by omega) (by rw [e]; rfl) (by decide) ?_
          obtain ⟨kc, r, a1, a2, p1, p2, p3, p4, p5⟩ := pr_position l hst hI hR (xs (6 * t + 1)) (xs (6 * t + 2))
          exact lw_c_position l cx hX hbl hbA hL ht hfc hfs p1 p2 p3 p4 hW hS hl (J a2 p5)
        · refine lv_tableIn (off := 1142) (tgt := 1182) cx.1 cx.2.1 dL_law_40 (by omega) (by omega) (by rw [e]; rfl) (by decide) ?_
          obtain ⟨kc, r, a1, a2, p1, p2, p3, p4, p5⟩ := pr_bore l hst hI hR (xs (6 * t + 1))
          exact lw_c_bore l cx hX hbl hbA hL ht hfc hfs p1 p2 p3 p4 hW hS hl (J a2 p5)
        · refine lv_tableIn (off := 1197) (tgt := 1237) cx.1 cx.2.1 dL_law_40 (by omega) (by omega) (by rw [e]; rfl) (by decide) ?_
          obtain ⟨kc, r, a1, a2, p1, p2, p3, p4, p5⟩ := pr_all l hst hI hR (by omega) (xs (6 * t + 1))
          exact lw_c_all l cx hX hbl hbA hL ht hfc hfs p1 p2 p3 p4 hW hS hl (J a2 p5)
/-- from the entry, for every script of at most 3072 ints, the law comes to its end with true (in a launch without stack traces) -/
theorem whole_start {p : Program} {e : Env} {s : State} {m : MethodId} {below : List Frame} {meth : Method} {c : Code} (l : Launch) (hst : l.stackTraces = false) {b L : Nat} {xs : Nat → Int32} (hL : L ≤ 3072) (C0 : lw_At p s m meth c b L xs) : W p l e room_1 s m #[Value.ref b] below meth c s.heap [] 0 0 (lw_Z below #[Value.ref b] s) (entryFrame m ([Value.ref b] : List Value).toArray 8) := by
  obtain ⟨hx, hb, hr, hml, hown, hts, hX, hbl, hlk, hgv⟩ := C0
  obtain ⟨w, hlo, hA, hnd, hK, hXw, hY⟩ := w_ex hts hgv
  have hI := In_of hA
  have hl := lv_entry [Value.ref b] (n := 8) (Nat.le_of_ble_eq_true rfl)
  rw [lg_entry_eq]
  refine lw_init l (w := w) ⟨hx, hb, hml, hown, hnd, hK, hI, hY⟩ hA hlo hl (fun H locs ls hW hS hl => ?_)
  exact lw_loop l hst ⟨hx, hb, hml, hown, hnd, hK, hI, hXw, by rw [hlo]; exact Nat.le_refl _⟩ hX hbl (by rw [hlo]; omega) hL hr hlk hlo 513 0 (by omega) (by omega) a0_ Rl_0 H locs ls hW hS hl
set_option maxHeartbeats 4000000 in
theorem lw_walk (l : Launch) (hst : l.stackTraces = false) (b : Addr) (xs : List Int32) : MetFree l x (headSpec (Jvm.Cond.code x code maxLocals ret :: tables_1) room_1) (lw_P b xs) (fun _ _ _ _ _ => True) lw_Q := by
  refine MetFree.of_bodyS (code := code) (maxLocals := maxLocals) (ret := ret) (by decide) ?_ ?_
  · intro args s m h hn
    obtain ⟨meth, c, h1, h2, h3, h4, h5, h6, -, -⟩ := Cond.code_spec hn (atoms_spec (ws := Jvm.Cond.code x code maxLocals ret :: tables_1) h _ List.mem_cons_self)
    exact ⟨meth, c, h1, h2, h3, h4, h5, h6⟩
  · intro p e s m args below meth c s₁ B hml0 hP _
    obtain ⟨rfl, hx, hbd, hgv⟩ := hP
    obtain ⟨scr, harrAt, hlist, hof, hsmall⟩ := hx
    obtain ⟨hcb, hkn, -, -⟩ := State.arrayAt?_spec harrAt
    have hown : s.vm.findClass R_law = some m.cls := findClass_of_methodNamed B.named
    have hts0 : ∀ c ∈ (Jvm.Cond.code x code maxLocals ret :: tables_1), c.before #[Value.ref b] s = true := atoms_spec (ws := Jvm.Cond.code x code maxLocals ret :: tables_1) B.pre
    have hts : ∀ w ∈ lw_tbl, w.before #[Value.ref b] s = true := k2_hts_sels lw_privs (fun w hw => hts0 w (List.mem_cons_of_mem _ hw)) lw_privs_ok
    have hml : c.maxLocals = 8 := B.maxLocals_eq (hts0 _ List.mem_cons_self)
    have X₀ : Stand p l e room_1 s m #[Value.ref b] below meth c s₁ [] 0 0 := Stand.of_body B
    have hh0 : s₁.heap = s.heap := by rw [B.state]; rfl
    have hsz : scr.slots.size = xs.length := by rw [← Array.length_toList, hlist, List.length_map]
    have hval : ∀ j : Nat, j < xs.length → scr.slots[j]? = some (.int (xs.getD j 0)) := fun j hj => by
      rw [← Array.getElem?_toList, hlist]
      simp [hj]
    have hbl : b < s.heap.size := (Array.getElem?_eq_some_iff.mp hcb).1
    have hX : va_X b xs.length (fun j => xs.getD j 0) s s.heap := ⟨scr, hcb, hof, hkn, hsz, hval⟩
    have K : W p l e room_1 s m #[Value.ref b] below meth c s₁.heap [] 0 0 (lw_Z below #[Value.ref b] s) (entryFrame m ([Value.ref b] : List Value).toArray 8) := by
      rw [hh0]
      exact whole_start l hst hbd ⟨B.exec, B.bytes, B.returns, hml, hown, hts, hX, hbl, B.notSynchronized, hgv⟩
    obtain ⟨t, a1, o, b1, b2, b3⟩ := K s₁ rfl X₀
    exact ⟨t, o, a1, b1, b2, b3⟩
theorem lw_pre_spec {args : Array Value} {s : State} (h : (Jvm.Cond.and given_1 narrow_1).before args s = true) (hr : rest_1_c.before args s = true) : ∃ (b : Addr) (xs : List Int32), lw_P b xs args s := by
  have hs := flat_of_before _ h
  have hq := flat_of_before _ hr
  have hc : (Cond.count 1).before args s = true := hs _ (by decide +kernel)
  have harr : (Cond.arrayOf (.arg 0) .int).before args s = true := hs _ (by decide +kernel)
  have hle : (Cond.le (.length (.arg 0)) (.int 3072)).before args s = true := hs _ (by decide +kernel)
  have hlen : (Cond.isInt (.length (.arg 0))).before args s = true := hq _ (by decide +kernel)
  have hall : (Cond.all (.arg 0) (.isInt (.elem (.arg 0) (.index 0)))).before args s = true := hq _ (by decide +kernel)
  obtain ⟨b, xs, hb, hx⟩ := State.ints_of_pre rfl harr hlen hall
  have hsm : xs.length < 2 ^ 31 := hx.choose_spec.2.2.2
  have hev : (Term.length (.arg 0)).eval args s none [] s = some (.int xs.length.toInt32) := hx.length_eval hb
  have hv := Cond.le_ints hev (show (Term.int 3072).eval args s none [] s = some (.int 3072) from rfl)
  have hd : xs.length.toInt32 ≤ 3072 := by
    simpa [Cond.before, Cond.holds, hv] using hle
  have hN : xs.length ≤ 3072 := (Int32.ofNat_le_ofNat hsm (by decide)).mp (show Int32.ofNat xs.length ≤ Int32.ofNat 3072 from hd)
  exact ⟨b, xs, Cond.one_arg hc (show args[0]? = some (.ref b) from hb), hx, hN, h⟩
theorem lw_comes (l : Launch) (hst : l.stackTraces = false) : Comes l x (Jvm.Cond.code x code maxLocals ret :: tables_1) room_1 (fun tb e args s => Calls_1 tb e args s ∧ rest_1 tb e args s ∧ Pre_1 tb e args s)
    (fun _ _ args s o t => lw_Q args s o t) := by
  intro p e ha hc hk s m args below hf hfit hheap happ hpre
  obtain ⟨b, xs, hP⟩ := lw_pre_spec hpre.2.2 hpre.2.1
  obtain ⟨k, o, h1, h2, h3, hQ⟩ := lw_walk l hst b xs p e ha hc hk s m args below hf ((Spec.applies_iff_loose hf).mp happ).1 hP trivial
  exact ⟨k, o, h1, h2, h3, hQ⟩
theorem lw_frame {s t : State} {o : Outcome} {args : Array Value} (h : Framed s o t [] 647880 7152463) :
    Framed s o t (fieldLocs frame_1_writes args s ++ arrayLocs frame_1_arrays args s ++ staticLocs frame_1_statics s) 647880 7152463 := h
theorem lw_limb (L : Cond) (hL : ∀ (args : Array Value) (s t : State), L.after args s (.returned (some (.int 1))) t = true) :
    ArmFor flags0 classFile x code maxLocals ret World_1 tables_1 room_1 Calls_1 rest_1 Pre_1
      (fun tb e a s o t => postC L tb e a s o t ∧ Framed s o t (fieldLocs frame_1_writes a s ++ arrayLocs frame_1_arrays a s ++ staticLocs frame_1_statics s) 647880 7152463) := by
  intro l hfl _ _ p e ha hc hk s m args below hf hfit hheap happ hpre
  have hst : l.stackTraces = false := by unfold Launch.stackTraces; rw [hfl]; decide +kernel
  obtain ⟨k, o, h1, h2, h3, rfl, hF⟩ := lw_comes l hst p e ha hc hk s m args below hf hfit hheap happ hpre
  exact ⟨k, _, h1, h2, h3, hL args s _, lw_frame hF⟩
theorem i_vc : Claimed_1_1 ∧ Claimed_1_2 := ⟨lw_limb limb_1_1 (fun args s t => by simp [limb_1_1, Cond.after, Cond.holds, Cond.value]), lw_limb limb_1_2 (fun args s t => Cond.after_iff.mpr (by
  first | (rw [show limb_1_2 = Cond.eq .result (.int 1) from rfl, Cond.eq_ints (x := 1) (y := 1) rfl rfl]; simp; done) | (simp [limb_1_2, Cond.value, Term.eval]; done)))⟩
