/-! The law's cases: one call on each side, the comparison, and on -/
def lw2_ (u v : Int32) : Int64 := (u.toInt64 <<< ((32 : Int32).toInt64 &&& 63)) ||| (v.toInt64 &&& 4294967295)
theorem tp_t {p : Program} {l : Launch} {e : Env} {R : Room} {s : State} {m : MethodId} {args : Array Value} {below : List Frame} {meth : Method} {c : Code} {H : Heap} {locs : List Loc} {cells slots pc : Nat} {Q : State → Prop} {ls : Array Slot} {x y : List Value} (h : x = y) (kk : W p l e R s m args below meth c H locs cells slots Q (F0 m pc ls y)) : W p l e R s m args below meth c H locs cells slots Q (F0 m pc ls x) := h ▸ kk
set_option maxHeartbeats 4000000 in
set_option maxRecDepth 100000 in
theorem lw_c_member (l : Launch) {zp : Program} {ze : Env} {zs : State} {zm : MethodId} {zb : List Frame} {zt : Method} {zc : Code} {w : Gh_} {b L t cells slots : Nat} {xs : Nat → Int32} {H : Heap} {locs : List Loc} {ls : Array Slot} {Q : State → Prop} {a a1 a2 : St_} {kc : Int32} {r : Int32} (cx : Cx_ zp zs zm zc #[Value.ref b] cL_law 8 "MarginHouseLaw" w) (hX : va_X b L xs zs zs.heap) (hbl : b < zs.heap.size) (hbA : ¬ lo_ w ≤ b) (hL : L ≤ 3072) (ht : 6 * t + 6 ≤ L) (hfc : cells + 1 ≤ 647880) (hfs : slots + 6 ≤ 7152463) (hC : Fn_ l w yL_member (.codeWith yL_member cL_member 5 (some .int) [(0, 9, 12, 13)]) { frames := 8, cells := 1, slots := 6, locals := 132 } 1 6 [.ref (ad_ w 0 0), .long (lw2_ (xs (6 * t + 1)) (xs (6 * t + 2))), .ref (ad_ w 40 0)] a (.inl (some (.int kc))) a1) (hM : Fn_ l w yX5_member (.code yX5_member cX5_member 3 (some .int)) { frames := 1, cells := 0, slots := 0, locals := 25 } 0 0 [.ref (ad_ w 20 0), .long (lw2_ (xs (6 * t + 1)) (xs (6 * t + 2)))] a1 (.inl (some (.int r))) a2) (hth : gi_ a2 20 0 0 = kc) (ho : kc = 0 → gl_ a2 40 0 0 = r.toInt64) (hW : Hd_ w a H) (hS : Fr_ w zs.heap H locs) (hl : lv_has ls 8 [(0, .ref b), (1, .ref (ad_ w 0 0)), (2, .ref (ad_ w 20 0)), (3, .ref (ad_ w 40 0)), (4, .int (nI (6 * t)))])
    (kk : ∀ (H : Heap) (locs : List Loc) (ls : Array Slot), Hd_ w a2 H → Fr_ w zs.heap H locs → lv_has ls 8 [(0, .ref b), (1, .ref (ad_ w 0 0)), (2, .ref (ad_ w 20 0)), (3, .ref (ad_ w 40 0)), (4, .int (nI (6 * t)))] → W zp l ze room_1 zs zm #[Value.ref b] zb zt zc H locs (cells + 1) (slots + 6) Q (F0 zm 1292 ls [])) : W zp l ze room_1 zs zm #[Value.ref b] zb zt zc H locs cells slots Q (F0 zm 124 ls []) := by
  have hI := cx.2.2.2.2.2.2.1
  refine lv_aload_n cx.1 cx.2.1 dL_law_124 rfl (lv_at hl 1 rfl) ?_
  refine lv_aload_n cx.1 cx.2.1 dL_law_125 rfl (lv_at hl 0 rfl) ?_
  refine lv_iload cx.1 cx.2.1 dL_law_126 (lv_at hl 4 rfl) ?_
  refine lv_iconst (v := 1) cx.1 cx.2.1 dL_law_128 (by decide) ?_
  refine lv_iadd cx.1 cx.2.1 dL_law_129 ?_
  refine sc_ld (j := 6 * t + 1) cx hX hbl hbA hS (by rw [show (1 : Int32) = nI 1 by decide +kernel, nI_add]) (by omega) (by omega) dL_law_130 ?_
  refine lv_i2l (v := (xs (6 * t + 1)).toInt64) cx.1 cx.2.1 dL_law_131 rfl ?_
  refine lv_bipush (v := 32) cx.1 cx.2.1 dL_law_132 (by decide) ?_
  refine lv_lshl (v := ((xs (6 * t + 1)).toInt64) <<< ((32 : Int32).toInt64 &&& 63)) cx.1 cx.2.1 dL_law_134 rfl ?_
  refine lv_aload_n cx.1 cx.2.1 dL_law_135 rfl (lv_at hl 0 rfl) ?_
  refine lv_iload cx.1 cx.2.1 dL_law_136 (lv_at hl 4 rfl) ?_
  refine lv_iconst (v := 2) cx.1 cx.2.1 dL_law_138 (by decide) ?_
  refine lv_iadd cx.1 cx.2.1 dL_law_139 ?_
  refine sc_ld (j := 6 * t + 2) cx hX hbl hbA hS (by rw [show (2 : Int32) = nI 2 by decide +kernel, nI_add]) (by omega) (by omega) dL_law_140 ?_
  refine lv_i2l (v := (xs (6 * t + 2)).toInt64) cx.1 cx.2.1 dL_law_141 rfl ?_
  refine lv_ldc2 (own := "MarginHouseLaw") (v := 4294967295) cx.1 cx.2.1 cx.2.2.2.1 (cx.2.2.2.2.1 _ nw_517) dL_law_142 ?_
  refine lv_land cx.1 cx.2.1 dL_law_145 ?_
  refine lv_lor cx.1 cx.2.1 dL_law_146 ?_
  refine tp_j (y := lw2_ (xs (6 * t + 1)) (xs (6 * t + 2))) rfl ?_
  refine lv_aload_n cx.1 cx.2.1 dL_law_147 rfl (lv_at hl 3 rfl) ?_
  refine ck_H (v := some (.int kc)) (As := [.ref (ad_ w 0 0), .long (lw2_ (xs (6 * t + 1)) (xs (6 * t + 2))), .ref (ad_ w 40 0)]) (rest := []) cx hW hS hl (hC) cw_L_member nw_111 nw_110 rfl rfl (Nat.le_of_ble_eq_true rfl) rfl rfl ⟨Nat.le_of_ble_eq_true rfl, Nat.le_of_ble_eq_true rfl⟩ ⟨hfc, hfs⟩ dL_law_148 (fun H locs hW hS => ?_)
  refine W.eq (g2 := F0 zm 151 ls [.int kc]) rfl ?_
  refine lv_istore (lv' := [(5, .int kc), (0, .ref b), (1, .ref (ad_ w 0 0)), (2, .ref (ad_ w 20 0)), (3, .ref (ad_ w 40 0)), (4, .int (nI (6 * t)))]) cx.1 cx.2.1 dL_law_151 hl (by decide) rfl (fun ls hl => ?_)
  refine lv_aload_n cx.1 cx.2.1 dL_law_153 rfl (lv_at hl 3 rfl) ?_
  refine lv_aload_n cx.1 cx.2.1 dL_law_154 rfl (lv_at hl 1 rfl) ?_
  refine lv_iload cx.1 cx.2.1 dL_law_155 (lv_at hl 5 rfl) ?_
  refine lv_iconst (v := 1) cx.1 cx.2.1 dL_law_157 (by decide) ?_
  refine lv_iadd cx.1 cx.2.1 dL_law_158 ?_
  refine sc_ld (j := 6 * t + 1) cx hX hbl hbA hS (by rw [show (1 : Int32) = nI 1 by decide +kernel, nI_add]) (by omega) (by omega) dL_law_159 ?_
  refine lv_i2l (v := (xs (6 * t + 1)).toInt64) cx.1 cx.2.1 dL_law_160 rfl ?_
  refine lv_bipush (v := 32) cx.1 cx.2.1 dL_law_161 (by decide) ?_
  refine lv_lshl (v := ((xs (6 * t + 1)).toInt64) <<< ((32 : Int32).toInt64 &&& 63)) cx.1 cx.2.1 dL_law_163 rfl ?_
  refine lv_aload_n cx.1 cx.2.1 dL_law_164 rfl (lv_at hl 1 rfl) ?_
  refine lv_iload cx.1 cx.2.1 dL_law_165 (lv_at hl 5 rfl) ?_
  refine lv_iconst (v := 2) cx.1 cx.2.1 dL_law_167 (by decide) ?_
  refine lv_iadd cx.1 cx.2.1 dL_law_168 ?_
  refine sc_ld (j := 6 * t + 2) cx hX hbl hbA hS (by rw [show (2 : Int32) = nI 2 by decide +kernel, nI_add]) (by omega) (by omega) dL_law_169 ?_
  refine lv_i2l (v := (xs (6 * t + 2)).toInt64) cx.1 cx.2.1 dL_law_170 rfl ?_
  refine lv_ldc2 (own := "MarginHouseLaw") (v := 4294967295) cx.1 cx.2.1 cx.2.2.2.1 (cx.2.2.2.2.1 _ nw_517) dL_law_171 ?_
  refine lv_land cx.1 cx.2.1 dL_law_174 ?_
  refine lv_lor cx.1 cx.2.1 dL_law_175 ?_
  refine tp_j (y := lw2_ (xs (6 * t + 1)) (xs (6 * t + 2))) rfl ?_
  refine ck_V (v := some (.int r)) (As := [.long (lw2_ (xs (6 * t + 1)) (xs (6 * t + 2)))]) (rest := []) (k := 20) (i := 0) (T := TX5) cx hW hS hl (by decide) rfl rfl (hM) cw_X5_member nw_401 nw_402 nw_400 rfl rfl (Nat.le_of_ble_eq_true rfl) rfl rfl ⟨Nat.le_of_ble_eq_true rfl, Nat.le_of_ble_eq_true rfl⟩ ⟨hfc, hfs⟩ dL_law_176 (fun H locs hW hS => ?_)
  refine W.eq (g2 := F0 zm 179 ls [.int r]) rfl ?_
  refine lv_istore (lv' := [(6, .int r), (5, .int kc), (0, .ref b), (1, .ref (ad_ w 0 0)), (2, .ref (ad_ w 20 0)), (3, .ref (ad_ w 40 0)), (4, .int (nI (6 * t)))]) cx.1 cx.2.1 dL_law_179 hl (by decide) rfl (fun ls hl => ?_)
  refine lv_aload_n cx.1 cx.2.1 dL_law_181 rfl (lv_at hl 4 rfl) ?_
  refine ck_V (v := some (.int (gi_ a2 20 0 0))) (As := []) (rest := []) (k := 20) (i := 0) (T := TX5) cx hW hS hl (by decide) rfl rfl (c_X5_thrown l hI a2) cw_X5_thrown nw_397 nw_398 nw_396 rfl rfl (Nat.le_of_ble_eq_true rfl) rfl rfl ⟨Nat.le_of_ble_eq_true rfl, Nat.le_of_ble_eq_true rfl⟩ ⟨hfc, hfs⟩ dL_law_182 (fun H locs hW hS => ?_)
  refine W.eq (g2 := F0 zm 185 ls [.int (gi_ a2 20 0 0)]) rfl ?_
  refine lv_iload cx.1 cx.2.1 dL_law_185 (lv_at hl 1 rfl) ?_
  refine lv_icmp_eq (tgt := 192) cx.1 cx.2.1 dL_law_187 (by decide) (fun h187 => ?_) (fun zz => absurd hth zz)
  refine lv_iload cx.1 cx.2.1 dL_law_192 (lv_at hl 1 rfl) ?_
  refine lv_if_ne (tgt := 209) cx.1 cx.2.1 dL_law_194 (by decide) (fun h194 => ?_) (fun h194 => ?_)
  · skip
    refine lv_goto (tgt := 1292) cx.1 cx.2.1 dL_law_209 (by decide) ?_
    exact kk H locs ls hW hS (lv_sub hl [2, 3, 4, 5, 6] rfl)
  · skip
    refine lv_aload_n cx.1 cx.2.1 dL_law_197 rfl (lv_at hl 5 rfl) ?_
    refine lv_iconst (v := 0) cx.1 cx.2.1 dL_law_198 (by decide) ?_
    refine al_40 (j := 0) cx hW (by decide) (by decide +kernel) (by decide) dL_law_199 ?_
    refine lv_iload cx.1 cx.2.1 dL_law_200 (lv_at hl 0 rfl) ?_
    refine lv_i2l (v := r.toInt64) cx.1 cx.2.1 dL_law_202 rfl ?_
    refine lc_eq (tgt := 209) cx.1 cx.2.1 dL_law_203 dL_law_204 (by decide) (fun h203 => ?_) (fun zz => absurd (ho h194) zz)
    refine lv_goto (tgt := 1292) cx.1 cx.2.1 dL_law_209 (by decide) ?_
    exact kk H locs ls hW hS (lv_sub hl [2, 3, 4, 5, 6] rfl)
set_option maxHeartbeats 4000000 in
set_option maxRecDepth 100000 in
theorem lw_c_instrument (l : Launch) {zp : Program} {ze : Env} {zs : State} {zm : MethodId} {zb : List Frame} {zt : Method} {zc : Code} {w : Gh_} {b L t cells slots : Nat} {xs : Nat → Int32} {H : Heap} {locs : List Loc} {ls : Array Slot} {Q : State → Prop} {a a1 a2 : St_} {kc : Int32} {r : Int32} (cx : Cx_ zp zs zm zc #[Value.ref b] cL_law 8 "MarginHouseLaw" w) (hX : va_X b L xs zs zs.heap) (hbl : b < zs.heap.size) (hbA : ¬ lo_ w ≤ b) (hL : L ≤ 3072) (ht : 6 * t + 6 ≤ L) (hfc : cells + 1 ≤ 647880) (hfs : slots + 6 ≤ 7152463) (hC : Fn_ l w yL_instrument (.codeWith yL_instrument cL_instrument 6 (some .int) [(0, 12, 15, 13)]) { frames := 8, cells := 1, slots := 6, locals := 134 } 1 6 [.ref (ad_ w 0 0), .int (xs (6 * t + 1)), .int (xs (6 * t + 2)), .int (xs (6 * t + 3)), .ref (ad_ w 40 0)] a (.inl (some (.int kc))) a1) (hM : Fn_ l w yX5_instrument (.code yX5_instrument cX5_instrument 4 (some .int)) { frames := 1, cells := 0, slots := 0, locals := 25 } 0 0 [.ref (ad_ w 20 0), .int (xs (6 * t + 1)), .int (xs (6 * t + 2)), .int (xs (6 * t + 3))] a1 (.inl (some (.int r))) a2) (hth : gi_ a2 20 0 0 = kc) (ho : kc = 0 → gl_ a2 40 0 0 = r.toInt64) (hW : Hd_ w a H) (hS : Fr_ w zs.heap H locs) (hl : lv_has ls 8 [(0, .ref b), (1, .ref (ad_ w 0 0)), (2, .ref (ad_ w 20 0)), (3, .ref (ad_ w 40 0)), (4, .int (nI (6 * t)))])
    (kk : ∀ (H : Heap) (locs : List Loc) (ls : Array Slot), Hd_ w a2 H → Fr_ w zs.heap H locs → lv_has ls 8 [(0, .ref b), (1, .ref (ad_ w 0 0)), (2, .ref (ad_ w 20 0)), (3, .ref (ad_ w 40 0)), (4, .int (nI (6 * t)))] → W zp l ze room_1 zs zm #[Value.ref b] zb zt zc H locs (cells + 1) (slots + 6) Q (F0 zm 1292 ls [])) : W zp l ze room_1 zs zm #[Value.ref b] zb zt zc H locs cells slots Q (F0 zm 212 ls []) := by
  have hI := cx.2.2.2.2.2.2.1
  refine lv_aload_n cx.1 cx.2.1 dL_law_212 rfl (lv_at hl 1 rfl) ?_
  refine lv_aload_n cx.1 cx.2.1 dL_law_213 rfl (lv_at hl 0 rfl) ?_
  refine lv_iload cx.1 cx.2.1 dL_law_214 (lv_at hl 4 rfl) ?_
  refine lv_iconst (v := 1) cx.1 cx.2.1 dL_law_216 (by decide) ?_
  refine lv_iadd cx.1 cx.2.1 dL_law_217 ?_
  refine sc_ld (j := 6 * t + 1) cx hX hbl hbA hS (by rw [show (1 : Int32) = nI 1 by decide +kernel, nI_add]) (by omega) (by omega) dL_law_218 ?_
  refine lv_aload_n cx.1 cx.2.1 dL_law_219 rfl (lv_at hl 0 rfl) ?_
  refine lv_iload cx.1 cx.2.1 dL_law_220 (lv_at hl 4 rfl) ?_
  refine lv_iconst (v := 2) cx.1 cx.2.1 dL_law_222 (by decide) ?_
  refine lv_iadd cx.1 cx.2.1 dL_law_223 ?_
  refine sc_ld (j := 6 * t + 2) cx hX hbl hbA hS (by rw [show (2 : Int32) = nI 2 by decide +kernel, nI_add]) (by omega) (by omega) dL_law_224 ?_
  refine lv_aload_n cx.1 cx.2.1 dL_law_225 rfl (lv_at hl 0 rfl) ?_
  refine lv_iload cx.1 cx.2.1 dL_law_226 (lv_at hl 4 rfl) ?_
  refine lv_iconst (v := 3) cx.1 cx.2.1 dL_law_228 (by decide) ?_
  refine lv_iadd cx.1 cx.2.1 dL_law_229 ?_
  refine sc_ld (j := 6 * t + 3) cx hX hbl hbA hS (by rw [show (3 : Int32) = nI 3 by decide +kernel, nI_add]) (by omega) (by omega) dL_law_230 ?_
  refine lv_aload_n cx.1 cx.2.1 dL_law_231 rfl (lv_at hl 3 rfl) ?_
  refine ck_H (v := some (.int kc)) (As := [.ref (ad_ w 0 0), .int (xs (6 * t + 1)), .int (xs (6 * t + 2)), .int (xs (6 * t + 3)), .ref (ad_ w 40 0)]) (rest := []) cx hW hS hl (hC) cw_L_instrument nw_142 nw_141 rfl rfl (Nat.le_of_ble_eq_true rfl) rfl rfl ⟨Nat.le_of_ble_eq_true rfl, Nat.le_of_ble_eq_true rfl⟩ ⟨hfc, hfs⟩ dL_law_232 (fun H locs hW hS => ?_)
  refine W.eq (g2 := F0 zm 235 ls [.int kc]) rfl ?_
  refine lv_istore (lv' := [(5, .int kc), (0, .ref b), (1, .ref (ad_ w 0 0)), (2, .ref (ad_ w 20 0)), (3, .ref (ad_ w 40 0)), (4, .int (nI (6 * t)))]) cx.1 cx.2.1 dL_law_235 hl (by decide) rfl (fun ls hl => ?_)
  refine lv_aload_n cx.1 cx.2.1 dL_law_237 rfl (lv_at hl 3 rfl) ?_
  refine lv_aload_n cx.1 cx.2.1 dL_law_238 rfl (lv_at hl 1 rfl) ?_
  refine lv_iload cx.1 cx.2.1 dL_law_239 (lv_at hl 5 rfl) ?_
  refine lv_iconst (v := 1) cx.1 cx.2.1 dL_law_241 (by decide) ?_
  refine lv_iadd cx.1 cx.2.1 dL_law_242 ?_
  refine sc_ld (j := 6 * t + 1) cx hX hbl hbA hS (by rw [show (1 : Int32) = nI 1 by decide +kernel, nI_add]) (by omega) (by omega) dL_law_243 ?_
  refine lv_aload_n cx.1 cx.2.1 dL_law_244 rfl (lv_at hl 1 rfl) ?_
  refine lv_iload cx.1 cx.2.1 dL_law_245 (lv_at hl 5 rfl) ?_
  refine lv_iconst (v := 2) cx.1 cx.2.1 dL_law_247 (by decide) ?_
  refine lv_iadd cx.1 cx.2.1 dL_law_248 ?_
  refine sc_ld (j := 6 * t + 2) cx hX hbl hbA hS (by rw [show (2 : Int32) = nI 2 by decide +kernel, nI_add]) (by omega) (by omega) dL_law_249 ?_
  refine lv_aload_n cx.1 cx.2.1 dL_law_250 rfl (lv_at hl 1 rfl) ?_
  refine lv_iload cx.1 cx.2.1 dL_law_251 (lv_at hl 5 rfl) ?_
  refine lv_iconst (v := 3) cx.1 cx.2.1 dL_law_253 (by decide) ?_
  refine lv_iadd cx.1 cx.2.1 dL_law_254 ?_
  refine sc_ld (j := 6 * t + 3) cx hX hbl hbA hS (by rw [show (3 : Int32) = nI 3 by decide +kernel, nI_add]) (by omega) (by omega) dL_law_255 ?_
  refine ck_V (v := some (.int r)) (As := [.int (xs (6 * t + 1)), .int (xs (6 * t + 2)), .int (xs (6 * t + 3))]) (rest := []) (k := 20) (i := 0) (T := TX5) cx hW hS hl (by decide) rfl rfl (hM) cw_X5_instrument nw_409 nw_410 nw_408 rfl rfl (Nat.le_of_ble_eq_true rfl) rfl rfl ⟨Nat.le_of_ble_eq_true rfl, Nat.le_of_ble_eq_true rfl⟩ ⟨hfc, hfs⟩ dL_law_256 (fun H locs hW hS => ?_)
  refine W.eq (g2 := F0 zm 259 ls [.int r]) rfl ?_
  refine lv_istore (lv' := [(6, .int r), (5, .int kc), (0, .ref b), (1, .ref (ad_ w 0 0)), (2, .ref (ad_ w 20 0)), (3, .ref (ad_ w 40 0)), (4, .int (nI (6 * t)))]) cx.1 cx.2.1 dL_law_259 hl (by decide) rfl (fun ls hl => ?_)
  refine lv_aload_n cx.1 cx.2.1 dL_law_261 rfl (lv_at hl 4 rfl) ?_
  refine ck_V (v := some (.int (gi_ a2 20 0 0))) (As := []) (rest := []) (k := 20) (i := 0) (T := TX5) cx hW hS hl (by decide) rfl rfl (c_X5_thrown l hI a2) cw_X5_thrown nw_397 nw_398 nw_396 rfl rfl (Nat.le_of_ble_eq_true rfl) rfl rfl ⟨Nat.le_of_ble_eq_true rfl, Nat.le_of_ble_eq_true rfl⟩ ⟨hfc, hfs⟩ dL_law_262 (fun H locs hW hS => ?_)
  refine W.eq (g2 := F0 zm 265 ls [.int (gi_ a2 20 0 0)]) rfl ?_
  refine lv_iload cx.1 cx.2.1 dL_law_265 (lv_at hl 1 rfl) ?_
  refine lv_icmp_eq (tgt := 272) cx.1 cx.2.1 dL_law_267 (by decide) (fun h267 => ?_) (fun zz => absurd hth zz)
  refine lv_iload cx.1 cx.2.1 dL_law_272 (lv_at hl 1 rfl) ?_
  refine lv_if_ne (tgt := 289) cx.1 cx.2.1 dL_law_274 (by decide) (fun h274 => ?_) (fun h274 => ?_)
  · skip
    refine lv_goto (tgt := 1292) cx.1 cx.2.1 dL_law_289 (by decide) ?_
    exact kk H locs ls hW hS (lv_sub hl [2, 3, 4, 5, 6] rfl)
  · skip
    refine lv_aload_n cx.1 cx.2.1 dL_law_277 rfl (lv_at hl 5 rfl) ?_
    refine lv_iconst (v := 0) cx.1 cx.2.1 dL_law_278 (by decide) ?_
    refine al_40 (j := 0) cx hW (by decide) (by decide +kernel) (by decide) dL_law_279 ?_
    refine lv_iload cx.1 cx.2.1 dL_law_280 (lv_at hl 0 rfl) ?_
    refine lv_i2l (v := r.toInt64) cx.1 cx.2.1 dL_law_282 rfl ?_
    refine lc_eq (tgt := 289) cx.1 cx.2.1 dL_law_283 dL_law_284 (by decide) (fun h283 => ?_) (fun zz => absurd (ho h274) zz)
    refine lv_goto (tgt := 1292) cx.1 cx.2.1 dL_law_289 (by decide) ?_
    exact kk H locs ls hW hS (lv_sub hl [2, 3, 4, 5, 6] rfl)
set_option maxHeartbeats 4000000 in
set_option maxRecDepth 100000 in
theorem lw_c_capital (l : Launch) {zp : Program} {ze : Env} {zs : State} {zm : MethodId} {zb : List Frame} {zt : Method} {zc : Code} {w : Gh_} {b L t cells slots : Nat} {xs : Nat → Int32} {H : Heap} {locs : List Loc} {ls : Array Slot} {Q : State → Prop} {a a1 a2 : St_} {kc : Int32} {r : Int64} (cx : Cx_ zp zs zm zc #[Value.ref b] cL_law 8 "MarginHouseLaw" w) (hX : va_X b L xs zs zs.heap) (hbl : b < zs.heap.size) (hbA : ¬ lo_ w ≤ b) (hL : L ≤ 3072) (ht : 6 * t + 6 ≤ L) (hfc : cells + 1 ≤ 647880) (hfs : slots + 6 ≤ 7152463) (hC : Fn_ l w yL_capital (.codeWith yL_capital cL_capital 5 (some .int) [(0, 8, 11, 13)]) { frames := 8, cells := 1, slots := 6, locals := 132 } 1 6 [.ref (ad_ w 0 0), .long (lw2_ (xs (6 * t + 1)) (xs (6 * t + 2))), .ref (ad_ w 40 0)] a (.inl (some (.int kc))) a1) (hM : Fn_ l w yX5_capital (.code yX5_capital cX5_capital 3 (some .long)) { frames := 1, cells := 0, slots := 0, locals := 25 } 0 0 [.ref (ad_ w 20 0), .long (lw2_ (xs (6 * t + 1)) (xs (6 * t + 2)))] a1 (.inl (some (.long r))) a2) (hth : gi_ a2 20 0 0 = kc) (ho : kc = 0 → gl_ a2 40 0 0 = r) (hW : Hd_ w a H) (hS : Fr_ w zs.heap H locs) (hl : lv_has ls 8 [(0, .ref b), (1, .ref (ad_ w 0 0)), (2, .ref (ad_ w 20 0)), (3, .ref (ad_ w 40 0)), (4, .int (nI (6 * t)))])
    (kk : ∀ (H : Heap) (locs : List Loc) (ls : Array Slot), Hd_ w a2 H → Fr_ w zs.heap H locs → lv_has ls 8 [(0, .ref b), (1, .ref (ad_ w 0 0)), (2, .ref (ad_ w 20 0)), (3, .ref (ad_ w 40 0)), (4, .int (nI (6 * t)))] → W zp l ze room_1 zs zm #[Value.ref b] zb zt zc H locs (cells + 1) (slots + 6) Q (F0 zm 1292 ls [])) : W zp l ze room_1 zs zm #[Value.ref b] zb zt zc H locs cells slots Q (F0 zm 292 ls []) := by
  have hI := cx.2.2.2.2.2.2.1
  refine lv_aload_n cx.1 cx.2.1 dL_law_292 rfl (lv_at hl 1 rfl) ?_
  refine lv_aload_n cx.1 cx.2.1 dL_law_293 rfl (lv_at hl 0 rfl) ?_
  refine lv_iload cx.1 cx.2.1 dL_law_294 (lv_at hl 4 rfl) ?_
  refine lv_iconst (v := 1) cx.1 cx.2.1 dL_law_296 (by decide) ?_
  refine lv_iadd cx.1 cx.2.1 dL_law_297 ?_
  refine sc_ld (j := 6 * t + 1) cx hX hbl hbA hS (by rw [show (1 : Int32) = nI 1 by decide +kernel, nI_add]) (by omega) (by omega) dL_law_298 ?_
  refine lv_i2l (v := (xs (6 * t + 1)).toInt64) cx.1 cx.2.1 dL_law_299 rfl ?_
  refine lv_bipush (v := 32) cx.1 cx.2.1 dL_law_300 (by decide) ?_
  refine lv_lshl (v := ((xs (6 * t + 1)).toInt64) <<< ((32 : Int32).toInt64 &&& 63)) cx.1 cx.2.1 dL_law_302 rfl ?_
  refine lv_aload_n cx.1 cx.2.1 dL_law_303 rfl (lv_at hl 0 rfl) ?_
  refine lv_iload cx.1 cx.2.1 dL_law_304 (lv_at hl 4 rfl) ?_
  refine lv_iconst (v := 2) cx.1 cx.2.1 dL_law_306 (by decide) ?_
  refine lv_iadd cx.1 cx.2.1 dL_law_307 ?_
  refine sc_ld (j := 6 * t + 2) cx hX hbl hbA hS (by rw [show (2 : Int32) = nI 2 by decide +kernel, nI_add]) (by omega) (by omega) dL_law_308 ?_
  refine lv_i2l (v := (xs (6 * t + 2)).toInt64) cx.1 cx.2.1 dL_law_309 rfl ?_
  refine lv_ldc2 (own := "MarginHouseLaw") (v := 4294967295) cx.1 cx.2.1 cx.2.2.2.1 (cx.2.2.2.2.1 _ nw_517) dL_law_310 ?_
  refine lv_land cx.1 cx.2.1 dL_law_313 ?_
  refine lv_lor cx.1 cx.2.1 dL_law_314 ?_
  refine tp_j (y := lw2_ (xs (6 * t + 1)) (xs (6 * t + 2))) rfl ?_
  refine lv_aload_n cx.1 cx.2.1 dL_law_315 rfl (lv_at hl 3 rfl) ?_
  refine ck_H (v := some (.int kc)) (As := [.ref (ad_ w 0 0), .long (lw2_ (xs (6 * t + 1)) (xs (6 * t + 2))), .ref (ad_ w 40 0)]) (rest := []) cx hW hS hl (hC) cw_L_capital nw_150 nw_149 rfl rfl (Nat.le_of_ble_eq_true rfl) rfl rfl ⟨Nat.le_of_ble_eq_true rfl, Nat.le_of_ble_eq_true rfl⟩ ⟨hfc, hfs⟩ dL_law_316 (fun H locs hW hS => ?_)
  refine W.eq (g2 := F0 zm 319 ls [.int kc]) rfl ?_
  refine lv_istore (lv' := [(5, .int kc), (0, .ref b), (1, .ref (ad_ w 0 0)), (2, .ref (ad_ w 20 0)), (3, .ref (ad_ w 40 0)), (4, .int (nI (6 * t)))]) cx.1 cx.2.1 dL_law_319 hl (by decide) rfl (fun ls hl => ?_)
  refine lv_aload_n cx.1 cx.2.1 dL_law_321 rfl (lv_at hl 3 rfl) ?_
  refine lv_aload_n cx.1 cx.2.1 dL_law_322 rfl (lv_at hl 1 rfl) ?_
  refine lv_iload cx.1 cx.2.1 dL_law_323 (lv_at hl 5 rfl) ?_
  refine lv_iconst (v := 1) cx.1 cx.2.1 dL_law_325 (by decide) ?_
  refine lv_iadd cx.1 cx.2.1 dL_law_326 ?_
  refine sc_ld (j := 6 * t + 1) cx hX hbl hbA hS (by rw [show (1 : Int32) = nI 1 by decide +kernel, nI_add]) (by omega) (by omega) dL_law_327 ?_
  refine lv_i2l (v := (xs (6 * t + 1)).toInt64) cx.1 cx.2.1 dL_law_328 rfl ?_
  refine lv_bipush (v := 32) cx.1 cx.2.1 dL_law_329 (by decide) ?_
  refine lv_lshl (v := ((xs (6 * t + 1)).toInt64) <<< ((32 : Int32).toInt64 &&& 63)) cx.1 cx.2.1 dL_law_331 rfl ?_
  refine lv_aload_n cx.1 cx.2.1 dL_law_332 rfl (lv_at hl 1 rfl) ?_
  refine lv_iload cx.1 cx.2.1 dL_law_333 (lv_at hl 5 rfl) ?_
  refine lv_iconst (v := 2) cx.1 cx.2.1 dL_law_335 (by decide) ?_
  refine lv_iadd cx.1 cx.2.1 dL_law_336 ?_
  refine sc_ld (j := 6 * t + 2) cx hX hbl hbA hS (by rw [show (2 : Int32) = nI 2 by decide +kernel, nI_add]) (by omega) (by omega) dL_law_337 ?_
  refine lv_i2l (v := (xs (6 * t + 2)).toInt64) cx.1 cx.2.1 dL_law_338 rfl ?_
  refine lv_ldc2 (own := "MarginHouseLaw") (v := 4294967295) cx.1 cx.2.1 cx.2.2.2.1 (cx.2.2.2.2.1 _ nw_517) dL_law_339 ?_
  refine lv_land cx.1 cx.2.1 dL_law_342 ?_
  refine lv_lor cx.1 cx.2.1 dL_law_343 ?_
  refine tp_j (y := lw2_ (xs (6 * t + 1)) (xs (6 * t + 2))) rfl ?_
  refine ck_V (v := some (.long r)) (As := [.long (lw2_ (xs (6 * t + 1)) (xs (6 * t + 2)))]) (rest := []) (k := 20) (i := 0) (T := TX5) cx hW hS hl (by decide) rfl rfl (hM) cw_X5_capital nw_414 nw_415 nw_413 rfl rfl (Nat.le_of_ble_eq_true rfl) rfl rfl ⟨Nat.le_of_ble_eq_true rfl, Nat.le_of_ble_eq_true rfl⟩ ⟨hfc, hfs⟩ dL_law_344 (fun H locs hW hS => ?_)
  refine W.eq (g2 := F0 zm 347 ls [.long r]) rfl ?_
  refine lv_lstore (lv' := [(6, .long r), (5, .int kc), (0, .ref b), (1, .ref (ad_ w 0 0)), (2, .ref (ad_ w 20 0)), (3, .ref (ad_ w 40 0)), (4, .int (nI (6 * t)))]) cx.1 cx.2.1 dL_law_347 hl (by decide) rfl (fun ls hl => ?_)
  refine lv_aload_n cx.1 cx.2.1 dL_law_349 rfl (lv_at hl 4 rfl) ?_
  refine ck_V (v := some (.int (gi_ a2 20 0 0))) (As := []) (rest := []) (k := 20) (i := 0) (T := TX5) cx hW hS hl (by decide) rfl rfl (c_X5_thrown l hI a2) cw_X5_thrown nw_397 nw_398 nw_396 rfl rfl (Nat.le_of_ble_eq_true rfl) rfl rfl ⟨Nat.le_of_ble_eq_true rfl, Nat.le_of_ble_eq_true rfl⟩ ⟨hfc, hfs⟩ dL_law_350 (fun H locs hW hS => ?_)
  refine W.eq (g2 := F0 zm 353 ls [.int (gi_ a2 20 0 0)]) rfl ?_
  refine lv_iload cx.1 cx.2.1 dL_law_353 (lv_at hl 1 rfl) ?_
  refine lv_icmp_eq (tgt := 360) cx.1 cx.2.1 dL_law_355 (by decide) (fun h355 => ?_) (fun zz => absurd hth zz)
  refine lv_iload cx.1 cx.2.1 dL_law_360 (lv_at hl 1 rfl) ?_
  refine lv_if_ne (tgt := 376) cx.1 cx.2.1 dL_law_362 (by decide) (fun h362 => ?_) (fun h362 => ?_)
  · skip
    refine lv_goto (tgt := 1292) cx.1 cx.2.1 dL_law_376 (by decide) ?_
    exact kk H locs ls hW hS (lv_sub hl [2, 3, 4, 5, 6] rfl)
  · skip
    refine lv_aload_n cx.1 cx.2.1 dL_law_365 rfl (lv_at hl 5 rfl) ?_
    refine lv_iconst (v := 0) cx.1 cx.2.1 dL_law_366 (by decide) ?_
    refine al_40 (j := 0) cx hW (by decide) (by decide +kernel) (by decide) dL_law_367 ?_
    refine lv_lload cx.1 cx.2.1 dL_law_368 (lv_at hl 0 rfl) ?_
    refine lc_eq (tgt := 376) cx.1 cx.2.1 dL_law_370 dL_law_371 (by decide) (fun h370 => ?_) (fun zz => absurd (ho h362) zz)
    refine lv_goto (tgt := 1292) cx.1 cx.2.1 dL_law_376 (by decide) ?_
    exact kk H locs ls hW hS (lv_sub hl [2, 3, 4, 5, 6] rfl)
set_option maxHeartbeats 4000000 in
set_option maxRecDepth 100000 in
theorem lw_c_move (l : Launch) {zp : Program} {ze : Env} {zs : State} {zm : MethodId} {zb : List Frame} {zt : Method} {zc : Code} {w : Gh_} {b L t cells slots : Nat} {xs : Nat → Int32} {H : Heap} {locs : List Loc} {ls : Array Slot} {Q : State → Prop} {a a1 a2 : St_} {kc : Int32} (cx : Cx_ zp zs zm zc #[Value.ref b] cL_law 8 "MarginHouseLaw" w) (hX : va_X b L xs zs zs.heap) (hbl : b < zs.heap.size) (hbA : ¬ lo_ w ≤ b) (hL : L ≤ 3072) (ht : 6 * t + 6 ≤ L) (hfc : cells + 1 ≤ 647880) (hfs : slots + 6 ≤ 7152463) (hC : Fn_ l w yL_move (.codeWith yL_move cL_move 5 (some .int) [(0, 7, 10, 13)]) { frames := 8, cells := 1, slots := 6, locals := 133 } 1 6 [.ref (ad_ w 0 0), .int (xs (6 * t + 1)), .int (xs (6 * t + 2)), .int (xs (6 * t + 3))] a (.inl (some (.int kc))) a1) (hM : Fn_ l w yX5_move (.code yX5_move cX5_move 4 none) { frames := 1, cells := 0, slots := 0, locals := 25 } 0 0 [.ref (ad_ w 20 0), .int (xs (6 * t + 1)), .int (xs (6 * t + 2)), .int (xs (6 * t + 3))] a1 (.inl none) a2) (hth : gi_ a2 20 0 0 = kc) (hW : Hd_ w a H) (hS : Fr_ w zs.heap H locs) (hl : lv_has ls 8 [(0, .ref b), (1, .ref (ad_ w 0 0)), (2, .ref (ad_ w 20 0)), (3, .ref (ad_ w 40 0)), (4, .int (nI (6 * t)))])
    (kk : ∀ (H : Heap) (locs : List Loc) (ls : Array Slot), Hd_ w a2 H → Fr_ w zs.heap H locs → lv_has ls 8 [(0, .ref b), (1, .ref (ad_ w 0 0)), (2, .ref (ad_ w 20 0)), (3, .ref (ad_ w 40 0)), (4, .int (nI (6 * t)))] → W zp l ze room_1 zs zm #[Value.ref b] zb zt zc H locs (cells + 1) (slots + 6) Q (F0 zm 1292 ls [])) : W zp l ze room_1 zs zm #[Value.ref b] zb zt zc H locs cells slots Q (F0 zm 379 ls []) := by
  have hI := cx.2.2.2.2.2.2.1
  refine lv_aload_n cx.1 cx.2.1 dL_law_379 rfl (lv_at hl 1 rfl) ?_
  refine lv_aload_n cx.1 cx.2.1 dL_law_380 rfl (lv_at hl 0 rfl) ?_
  refine lv_iload cx.1 cx.2.1 dL_law_381 (lv_at hl 4 rfl) ?_
  refine lv_iconst (v := 1) cx.1 cx.2.1 dL_law_383 (by decide) ?_
  refine lv_iadd cx.1 cx.2.1 dL_law_384 ?_
  refine sc_ld (j := 6 * t + 1) cx hX hbl hbA hS (by rw [show (1 : Int32) = nI 1 by decide +kernel, nI_add]) (by omega) (by omega) dL_law_385 ?_
  refine lv_aload_n cx.1 cx.2.1 dL_law_386 rfl (lv_at hl 0 rfl) ?_
  refine lv_iload cx.1 cx.2.1 dL_law_387 (lv_at hl 4 rfl) ?_
  refine lv_iconst (v := 2) cx.1 cx.2.1 dL_law_389 (by decide) ?_
  refine lv_iadd cx.1 cx.2.1 dL_law_390 ?_
  refine sc_ld (j := 6 * t + 2) cx hX hbl hbA hS (by rw [show (2 : Int32) = nI 2 by decide +kernel, nI_add]) (by omega) (by omega) dL_law_391 ?_
  refine lv_aload_n cx.1 cx.2.1 dL_law_392 rfl (lv_at hl 0 rfl) ?_
  refine lv_iload cx.1 cx.2.1 dL_law_393 (lv_at hl 4 rfl) ?_
  refine lv_iconst (v := 3) cx.1 cx.2.1 dL_law_395 (by decide) ?_
  refine lv_iadd cx.1 cx.2.1 dL_law_396 ?_
  refine sc_ld (j := 6 * t + 3) cx hX hbl hbA hS (by rw [show (3 : Int32) = nI 3 by decide +kernel, nI_add]) (by omega) (by omega) dL_law_397 ?_
  refine ck_H (v := some (.int kc)) (As := [.ref (ad_ w 0 0), .int (xs (6 * t + 1)), .int (xs (6 * t + 2)), .int (xs (6 * t + 3))]) (rest := []) cx hW hS hl (hC) cw_L_move nw_163 nw_162 rfl rfl (Nat.le_of_ble_eq_true rfl) rfl rfl ⟨Nat.le_of_ble_eq_true rfl, Nat.le_of_ble_eq_true rfl⟩ ⟨hfc, hfs⟩ dL_law_398 (fun H locs hW hS => ?_)
  refine W.eq (g2 := F0 zm 401 ls [.int kc]) rfl ?_
  refine lv_istore (lv' := [(5, .int kc), (0, .ref b), (1, .ref (ad_ w 0 0)), (2, .ref (ad_ w 20 0)), (3, .ref (ad_ w 40 0)), (4, .int (nI (6 * t)))]) cx.1 cx.2.1 dL_law_401 hl (by decide) rfl (fun ls hl => ?_)
  refine lv_aload_n cx.1 cx.2.1 dL_law_403 rfl (lv_at hl 3 rfl) ?_
  refine lv_aload_n cx.1 cx.2.1 dL_law_404 rfl (lv_at hl 1 rfl) ?_
  refine lv_iload cx.1 cx.2.1 dL_law_405 (lv_at hl 5 rfl) ?_
  refine lv_iconst (v := 1) cx.1 cx.2.1 dL_law_407 (by decide) ?_
  refine lv_iadd cx.1 cx.2.1 dL_law_408 ?_
  refine sc_ld (j := 6 * t + 1) cx hX hbl hbA hS (by rw [show (1 : Int32) = nI 1 by decide +kernel, nI_add]) (by omega) (by omega) dL_law_409 ?_
  refine lv_aload_n cx.1 cx.2.1 dL_law_410 rfl (lv_at hl 1 rfl) ?_
  refine lv_iload cx.1 cx.2.1 dL_law_411 (lv_at hl 5 rfl) ?_
  refine lv_iconst (v := 2) cx.1 cx.2.1 dL_law_413 (by decide) ?_
  refine lv_iadd cx.1 cx.2.1 dL_law_414 ?_
  refine sc_ld (j := 6 * t + 2) cx hX hbl hbA hS (by rw [show (2 : Int32) = nI 2 by decide +kernel, nI_add]) (by omega) (by omega) dL_law_415 ?_
  refine lv_aload_n cx.1 cx.2.1 dL_law_416 rfl (lv_at hl 1 rfl) ?_
  refine lv_iload cx.1 cx.2.1 dL_law_417 (lv_at hl 5 rfl) ?_
  refine lv_iconst (v := 3) cx.1 cx.2.1 dL_law_419 (by decide) ?_
  refine lv_iadd cx.1 cx.2.1 dL_law_420 ?_
  refine sc_ld (j := 6 * t + 3) cx hX hbl hbA hS (by rw [show (3 : Int32) = nI 3 by decide +kernel, nI_add]) (by omega) (by omega) dL_law_421 ?_
  refine ck_V (v := none) (As := [.int (xs (6 * t + 1)), .int (xs (6 * t + 2)), .int (xs (6 * t + 3))]) (rest := []) (k := 20) (i := 0) (T := TX5) cx hW hS hl (by decide) rfl rfl (hM) cw_X5_move nw_424 nw_425 nw_423 rfl rfl (Nat.le_of_ble_eq_true rfl) rfl rfl ⟨Nat.le_of_ble_eq_true rfl, Nat.le_of_ble_eq_true rfl⟩ ⟨hfc, hfs⟩ dL_law_422 (fun H locs hW hS => ?_)
  refine W.eq (g2 := F0 zm 425 ls []) rfl ?_
  refine lv_aload_n cx.1 cx.2.1 dL_law_425 rfl (lv_at hl 3 rfl) ?_
  refine ck_V (v := some (.int (gi_ a2 20 0 0))) (As := []) (rest := []) (k := 20) (i := 0) (T := TX5) cx hW hS hl (by decide) rfl rfl (c_X5_thrown l hI a2) cw_X5_thrown nw_397 nw_398 nw_396 rfl rfl (Nat.le_of_ble_eq_true rfl) rfl rfl ⟨Nat.le_of_ble_eq_true rfl, Nat.le_of_ble_eq_true rfl⟩ ⟨hfc, hfs⟩ dL_law_426 (fun H locs hW hS => ?_)
  refine W.eq (g2 := F0 zm 429 ls [.int (gi_ a2 20 0 0)]) rfl ?_
  refine lv_iload cx.1 cx.2.1 dL_law_429 (lv_at hl 0 rfl) ?_
  refine lv_icmp_eq (tgt := 436) cx.1 cx.2.1 dL_law_431 (by decide) (fun h431 => ?_) (fun zz => absurd hth zz)
  refine lv_goto (tgt := 1292) cx.1 cx.2.1 dL_law_436 (by decide) ?_
  exact kk H locs ls hW hS (lv_sub hl [1, 2, 3, 4, 5] rfl)
set_option maxHeartbeats 4000000 in
set_option maxRecDepth 100000 in
theorem lw_c_bid (l : Launch) {zp : Program} {ze : Env} {zs : State} {zm : MethodId} {zb : List Frame} {zt : Method} {zc : Code} {w : Gh_} {b L t cells slots : Nat} {xs : Nat → Int32} {H : Heap} {locs : List Loc} {ls : Array Slot} {Q : State → Prop} {a a1 a2 : St_} {kc : Int32} (cx : Cx_ zp zs zm zc #[Value.ref b] cL_law 8 "MarginHouseLaw" w) (hX : va_X b L xs zs zs.heap) (hbl : b < zs.heap.size) (hbA : ¬ lo_ w ≤ b) (hL : L ≤ 3072) (ht : 6 * t + 6 ≤ L) (hfc : cells + 1 ≤ 647880) (hfs : slots + 6 ≤ 7152463) (hC : Fn_ l w yL_bid (.codeWith yL_bid cL_bid 5 (some .int) [(0, 7, 10, 13)]) { frames := 8, cells := 1, slots := 6, locals := 133 } 1 6 [.ref (ad_ w 0 0), .int (xs (6 * t + 1)), .int (xs (6 * t + 2)), .int (xs (6 * t + 3))] a (.inl (some (.int kc))) a1) (hM : Fn_ l w yX5_bid (.code yX5_bid cX5_bid 4 none) { frames := 1, cells := 0, slots := 0, locals := 25 } 0 0 [.ref (ad_ w 20 0), .int (xs (6 * t + 1)), .int (xs (6 * t + 2)), .int (xs (6 * t + 3))] a1 (.inl none) a2) (hth : gi_ a2 20 0 0 = kc) (hW : Hd_ w a H) (hS : Fr_ w zs.heap H locs) (hl : lv_has ls 8 [(0, .ref b), (1, .ref (ad_ w 0 0)), (2, .ref (ad_ w 20 0)), (3, .ref (ad_ w 40 0)), (4, .int (nI (6 * t)))])
    (kk : ∀ (H : Heap) (locs : List Loc) (ls : Array Slot), Hd_ w a2 H → Fr_ w zs.heap H locs → lv_has ls 8 [(0, .ref b), (1, .ref (ad_ w 0 0)), (2, .ref (ad_ w 20 0)), (3, .ref (ad_ w 40 0)), (4, .int (nI (6 * t)))] → W zp l ze room_1 zs zm #[Value.ref b] zb zt zc H locs (cells + 1) (slots + 6) Q (F0 zm 1292 ls [])) : W zp l ze room_1 zs zm #[Value.ref b] zb zt zc H locs cells slots Q (F0 zm 439 ls []) := by
  have hI := cx.2.2.2.2.2.2.1
  refine lv_aload_n cx.1 cx.2.1 dL_law_439 rfl (lv_at hl 1 rfl) ?_
  refine lv_aload_n cx.1 cx.2.1 dL_law_440 rfl (lv_at hl 0 rfl) ?_
  refine lv_iload cx.1 cx.2.1 dL_law_441 (lv_at hl 4 rfl) ?_
  refine lv_iconst (v := 1) cx.1 cx.2.1 dL_law_443 (by decide) ?_
  refine lv_iadd cx.1 cx.2.1 dL_law_444 ?_
  refine sc_ld (j := 6 * t + 1) cx hX hbl hbA hS (by rw [show (1 : Int32) = nI 1 by decide +kernel, nI_add]) (by omega) (by omega) dL_law_445 ?_
  refine lv_aload_n cx.1 cx.2.1 dL_law_446 rfl (lv_at hl 0 rfl) ?_
  refine lv_iload cx.1 cx.2.1 dL_law_447 (lv_at hl 4 rfl) ?_
  refine lv_iconst (v := 2) cx.1 cx.2.1 dL_law_449 (by decide) ?_
  refine lv_iadd cx.1 cx.2.1 dL_law_450 ?_
  refine sc_ld (j := 6 * t + 2) cx hX hbl hbA hS (by rw [show (2 : Int32) = nI 2 by decide +kernel, nI_add]) (by omega) (by omega) dL_law_451 ?_
  refine lv_aload_n cx.1 cx.2.1 dL_law_452 rfl (lv_at hl 0 rfl) ?_
  refine lv_iload cx.1 cx.2.1 dL_law_453 (lv_at hl 4 rfl) ?_
  refine lv_iconst (v := 3) cx.1 cx.2.1 dL_law_455 (by decide) ?_
  refine lv_iadd cx.1 cx.2.1 dL_law_456 ?_
  refine sc_ld (j := 6 * t + 3) cx hX hbl hbA hS (by rw [show (3 : Int32) = nI 3 by decide +kernel, nI_add]) (by omega) (by omega) dL_law_457 ?_
  refine ck_H (v := some (.int kc)) (As := [.ref (ad_ w 0 0), .int (xs (6 * t + 1)), .int (xs (6 * t + 2)), .int (xs (6 * t + 3))]) (rest := []) cx hW hS hl (hC) cw_L_bid nw_175 nw_174 rfl rfl (Nat.le_of_ble_eq_true rfl) rfl rfl ⟨Nat.le_of_ble_eq_true rfl, Nat.le_of_ble_eq_true rfl⟩ ⟨hfc, hfs⟩ dL_law_458 (fun H locs hW hS => ?_)
  refine W.eq (g2 := F0 zm 461 ls [.int kc]) rfl ?_
  refine lv_istore (lv' := [(5, .int kc), (0, .ref b), (1, .ref (ad_ w 0 0)), (2, .ref (ad_ w 20 0)), (3, .ref (ad_ w 40 0)), (4, .int (nI (6 * t)))]) cx.1 cx.2.1 dL_law_461 hl (by decide) rfl (fun ls hl => ?_)
  refine lv_aload_n cx.1 cx.2.1 dL_law_463 rfl (lv_at hl 3 rfl) ?_
  refine lv_aload_n cx.1 cx.2.1 dL_law_464 rfl (lv_at hl 1 rfl) ?_
  refine lv_iload cx.1 cx.2.1 dL_law_465 (lv_at hl 5 rfl) ?_
  refine lv_iconst (v := 1) cx.1 cx.2.1 dL_law_467 (by decide) ?_
  refine lv_iadd cx.1 cx.2.1 dL_law_468 ?_
  refine sc_ld (j := 6 * t + 1) cx hX hbl hbA hS (by rw [show (1 : Int32) = nI 1 by decide +kernel, nI_add]) (by omega) (by omega) dL_law_469 ?_
  refine lv_aload_n cx.1 cx.2.1 dL_law_470 rfl (lv_at hl 1 rfl) ?_
  refine lv_iload cx.1 cx.2.1 dL_law_471 (lv_at hl 5 rfl) ?_
  refine lv_iconst (v := 2) cx.1 cx.2.1 dL_law_473 (by decide) ?_
  refine lv_iadd cx.1 cx.2.1 dL_law_474 ?_
  refine sc_ld (j := 6 * t + 2) cx hX hbl hbA hS (by rw [show (2 : Int32) = nI 2 by decide +kernel, nI_add]) (by omega) (by omega) dL_law_475 ?_
  refine lv_aload_n cx.1 cx.2.1 dL_law_476 rfl (lv_at hl 1 rfl) ?_
  refine lv_iload cx.1 cx.2.1 dL_law_477 (lv_at hl 5 rfl) ?_
  refine lv_iconst (v := 3) cx.1 cx.2.1 dL_law_479 (by decide) ?_
  refine lv_iadd cx.1 cx.2.1 dL_law_480 ?_
  refine sc_ld (j := 6 * t + 3) cx hX hbl hbA hS (by rw [show (3 : Int32) = nI 3 by decide +kernel, nI_add]) (by omega) (by omega) dL_law_481 ?_
  refine ck_V (v := none) (As := [.int (xs (6 * t + 1)), .int (xs (6 * t + 2)), .int (xs (6 * t + 3))]) (rest := []) (k := 20) (i := 0) (T := TX5) cx hW hS hl (by decide) rfl rfl (hM) cw_X5_bid nw_432 nw_433 nw_431 rfl rfl (Nat.le_of_ble_eq_true rfl) rfl rfl ⟨Nat.le_of_ble_eq_true rfl, Nat.le_of_ble_eq_true rfl⟩ ⟨hfc, hfs⟩ dL_law_482 (fun H locs hW hS => ?_)
  refine W.eq (g2 := F0 zm 485 ls []) rfl ?_
  refine lv_aload_n cx.1 cx.2.1 dL_law_485 rfl (lv_at hl 3 rfl) ?_
  refine ck_V (v := some (.int (gi_ a2 20 0 0))) (As := []) (rest := []) (k := 20) (i := 0) (T := TX5) cx hW hS hl (by decide) rfl rfl (c_X5_thrown l hI a2) cw_X5_thrown nw_397 nw_398 nw_396 rfl rfl (Nat.le_of_ble_eq_true rfl) rfl rfl ⟨Nat.le_of_ble_eq_true rfl, Nat.le_of_ble_eq_true rfl⟩ ⟨hfc, hfs⟩ dL_law_486 (fun H locs hW hS => ?_)
  refine W.eq (g2 := F0 zm 489 ls [.int (gi_ a2 20 0 0)]) rfl ?_
  refine lv_iload cx.1 cx.2.1 dL_law_489 (lv_at hl 0 rfl) ?_
  refine lv_icmp_eq (tgt := 496) cx.1 cx.2.1 dL_law_491 (by decide) (fun h491 => ?_) (fun zz => absurd hth zz)
  refine lv_goto (tgt := 1292) cx.1 cx.2.1 dL_law_496 (by decide) ?_
  exact kk H locs ls hW hS (lv_sub hl [1, 2, 3, 4, 5] rfl)
set_option maxHeartbeats 4000000 in
set_option maxRecDepth 100000 in
theorem lw_c_deposit (l : Launch) {zp : Program} {ze : Env} {zs : State} {zm : MethodId} {zb : List Frame} {zt : Method} {zc : Code} {w : Gh_} {b L t cells slots : Nat} {xs : Nat → Int32} {H : Heap} {locs : List Loc} {ls : Array Slot} {Q : State → Prop} {a a1 a2 : St_} {kc : Int32} {r : Int64} (cx : Cx_ zp zs zm zc #[Value.ref b] cL_law 8 "MarginHouseLaw" w) (hX : va_X b L xs zs zs.heap) (hbl : b < zs.heap.size) (hbA : ¬ lo_ w ≤ b) (hL : L ≤ 3072) (ht : 6 * t + 6 ≤ L) (hfc : cells + 1 ≤ 647880) (hfs : slots + 6 ≤ 7152463) (hC : Fn_ l w yL_deposit (.codeWith yL_deposit cL_deposit 6 (some .int) [(0, 10, 13, 13), (0, 10, 17, 34)]) { frames := 8, cells := 1, slots := 6, locals := 135 } 1 6 [.ref (ad_ w 0 0), .int (xs (6 * t + 1)), .long (lw2_ (xs (6 * t + 2)) (xs (6 * t + 3))), .ref (ad_ w 40 0)] a (.inl (some (.int kc))) a1) (hM : Fn_ l w yX5_deposit (.code yX5_deposit cX5_deposit 4 (some .long)) { frames := 1, cells := 0, slots := 0, locals := 25 } 0 0 [.ref (ad_ w 20 0), .int (xs (6 * t + 1)), .long (lw2_ (xs (6 * t + 2)) (xs (6 * t + 3)))] a1 (.inl (some (.long r))) a2) (hth : gi_ a2 20 0 0 = kc) (ho : kc = 0 → gl_ a2 40 0 0 = r) (hW : Hd_ w a H) (hS : Fr_ w zs.heap H locs) (hl : lv_has ls 8 [(0, .ref b), (1, .ref (ad_ w 0 0)), (2, .ref (ad_ w 20 0)), (3, .ref (ad_ w 40 0)), (4, .int (nI (6 * t)))])
    (kk : ∀ (H : Heap) (locs : List Loc) (ls : Array Slot), Hd_ w a2 H → Fr_ w zs.heap H locs → lv_has ls 8 [(0, .ref b), (1, .ref (ad_ w 0 0)), (2, .ref (ad_ w 20 0)), (3, .ref (ad_ w 40 0)), (4, .int (nI (6 * t)))] → W zp l ze room_1 zs zm #[Value.ref b] zb zt zc H locs (cells + 1) (slots + 6) Q (F0 zm 1292 ls [])) : W zp l ze room_1 zs zm #[Value.ref b] zb zt zc H locs cells slots Q (F0 zm 499 ls []) := by
  have hI := cx.2.2.2.2.2.2.1
  refine lv_aload_n cx.1 cx.2.1 dL_law_499 rfl (lv_at hl 1 rfl) ?_
  refine lv_aload_n cx.1 cx.2.1 dL_law_500 rfl (lv_at hl 0 rfl) ?_
  refine lv_iload cx.1 cx.2.1 dL_law_501 (lv_at hl 4 rfl) ?_
  refine lv_iconst (v := 1) cx.1 cx.2.1 dL_law_503 (by decide) ?_
  refine lv_iadd cx.1 cx.2.1 dL_law_504 ?_
  refine sc_ld (j := 6 * t + 1) cx hX hbl hbA hS (by rw [show (1 : Int32) = nI 1 by decide +kernel, nI_add]) (by omega) (by omega) dL_law_505 ?_
  refine lv_aload_n cx.1 cx.2.1 dL_law_506 rfl (lv_at hl 0 rfl) ?_
  refine lv_iload cx.1 cx.2.1 dL_law_507 (lv_at hl 4 rfl) ?_
  refine lv_iconst (v := 2) cx.1 cx.2.1 dL_law_509 (by decide) ?_
  refine lv_iadd cx.1 cx.2.1 dL_law_510 ?_
  refine sc_ld (j := 6 * t + 2) cx hX hbl hbA hS (by rw [show (2 : Int32) = nI 2 by decide +kernel, nI_add]) (by omega) (by omega) dL_law_511 ?_
  refine lv_i2l (v := (xs (6 * t + 2)).toInt64) cx.1 cx.2.1 dL_law_512 rfl ?_
  refine lv_bipush (v := 32) cx.1 cx.2.1 dL_law_513 (by decide) ?_
  refine lv_lshl (v := ((xs (6 * t + 2)).toInt64) <<< ((32 : Int32).toInt64 &&& 63)) cx.1 cx.2.1 dL_law_515 rfl ?_
  refine lv_aload_n cx.1 cx.2.1 dL_law_516 rfl (lv_at hl 0 rfl) ?_
  refine lv_iload cx.1 cx.2.1 dL_law_517 (lv_at hl 4 rfl) ?_
  refine lv_iconst (v := 3) cx.1 cx.2.1 dL_law_519 (by decide) ?_
  refine lv_iadd cx.1 cx.2.1 dL_law_520 ?_
  refine sc_ld (j := 6 * t + 3) cx hX hbl hbA hS (by rw [show (3 : Int32) = nI 3 by decide +kernel, nI_add]) (by omega) (by omega) dL_law_521 ?_
  refine lv_i2l (v := (xs (6 * t + 3)).toInt64) cx.1 cx.2.1 dL_law_522 rfl ?_
  refine lv_ldc2 (own := "MarginHouseLaw") (v := 4294967295) cx.1 cx.2.1 cx.2.2.2.1 (cx.2.2.2.2.1 _ nw_517) dL_law_523 ?_
  refine lv_land cx.1 cx.2.1 dL_law_526 ?_
  refine lv_lor cx.1 cx.2.1 dL_law_527 ?_
  refine tp_j (y := lw2_ (xs (6 * t + 2)) (xs (6 * t + 3))) rfl ?_
  refine lv_aload_n cx.1 cx.2.1 dL_law_528 rfl (lv_at hl 3 rfl) ?_
  refine ck_H (v := some (.int kc)) (As := [.ref (ad_ w 0 0), .int (xs (6 * t + 1)), .long (lw2_ (xs (6 * t + 2)) (xs (6 * t + 3))), .ref (ad_ w 40 0)]) (rest := []) cx hW hS hl (hC) cw_L_deposit nw_185 nw_184 rfl rfl (Nat.le_of_ble_eq_true rfl) rfl rfl ⟨Nat.le_of_ble_eq_true rfl, Nat.le_of_ble_eq_true rfl⟩ ⟨hfc, hfs⟩ dL_law_529 (fun H locs hW hS => ?_)
  refine W.eq (g2 := F0 zm 532 ls [.int kc]) rfl ?_
  refine lv_istore (lv' := [(5, .int kc), (0, .ref b), (1, .ref (ad_ w 0 0)), (2, .ref (ad_ w 20 0)), (3, .ref (ad_ w 40 0)), (4, .int (nI (6 * t)))]) cx.1 cx.2.1 dL_law_532 hl (by decide) rfl (fun ls hl => ?_)
  refine lv_aload_n cx.1 cx.2.1 dL_law_534 rfl (lv_at hl 3 rfl) ?_
  refine lv_aload_n cx.1 cx.2.1 dL_law_535 rfl (lv_at hl 1 rfl) ?_
  refine lv_iload cx.1 cx.2.1 dL_law_536 (lv_at hl 5 rfl) ?_
  refine lv_iconst (v := 1) cx.1 cx.2.1 dL_law_538 (by decide) ?_
  refine lv_iadd cx.1 cx.2.1 dL_law_539 ?_
  refine sc_ld (j := 6 * t + 1) cx hX hbl hbA hS (by rw [show (1 : Int32) = nI 1 by decide +kernel, nI_add]) (by omega) (by omega) dL_law_540 ?_
  refine lv_aload_n cx.1 cx.2.1 dL_law_541 rfl (lv_at hl 1 rfl) ?_
  refine lv_iload cx.1 cx.2.1 dL_law_542 (lv_at hl 5 rfl) ?_
  refine lv_iconst (v := 2) cx.1 cx.2.1 dL_law_544 (by decide) ?_
  refine lv_iadd cx.1 cx.2.1 dL_law_545 ?_
  refine sc_ld (j := 6 * t + 2) cx hX hbl hbA hS (by rw [show (2 : Int32) = nI 2 by decide +kernel, nI_add]) (by omega) (by omega) dL_law_546 ?_
  refine lv_i2l (v := (xs (6 * t + 2)).toInt64) cx.1 cx.2.1 dL_law_547 rfl ?_
  refine lv_bipush (v := 32) cx.1 cx.2.1 dL_law_548 (by decide) ?_
  refine lv_lshl (v := ((xs (6 * t + 2)).toInt64) <<< ((32 : Int32).toInt64 &&& 63)) cx.1 cx.2.1 dL_law_550 rfl ?_
  refine lv_aload_n cx.1 cx.2.1 dL_law_551 rfl (lv_at hl 1 rfl) ?_
  refine lv_iload cx.1 cx.2.1 dL_law_552 (lv_at hl 5 rfl) ?_
  refine lv_iconst (v := 3) cx.1 cx.2.1 dL_law_554 (by decide) ?_
  refine lv_iadd cx.1 cx.2.1 dL_law_555 ?_
  refine sc_ld (j := 6 * t + 3) cx hX hbl hbA hS (by rw [show (3 : Int32) = nI 3 by decide +kernel, nI_add]) (by omega) (by omega) dL_law_556 ?_
  refine lv_i2l (v := (xs (6 * t + 3)).toInt64) cx.1 cx.2.1 dL_law_557 rfl ?_
  refine lv_ldc2 (own := "MarginHouseLaw") (v := 4294967295) cx.1 cx.2.1 cx.2.2.2.1 (cx.2.2.2.2.1 _ nw_517) dL_law_558 ?_
  refine lv_land cx.1 cx.2.1 dL_law_561 ?_
  refine lv_lor cx.1 cx.2.1 dL_law_562 ?_
  refine tp_j (y := lw2_ (xs (6 * t + 2)) (xs (6 * t + 3))) rfl ?_
  refine ck_V (v := some (.long r)) (As := [.int (xs (6 * t + 1)), .long (lw2_ (xs (6 * t + 2)) (xs (6 * t + 3)))]) (rest := []) (k := 20) (i := 0) (T := TX5) cx hW hS hl (by decide) rfl rfl (hM) cw_X5_deposit nw_439 nw_440 nw_438 rfl rfl (Nat.le_of_ble_eq_true rfl) rfl rfl ⟨Nat.le_of_ble_eq_true rfl, Nat.le_of_ble_eq_true rfl⟩ ⟨hfc, hfs⟩ dL_law_563 (fun H locs hW hS => ?_)
  refine W.eq (g2 := F0 zm 566 ls [.long r]) rfl ?_
  refine lv_lstore (lv' := [(6, .long r), (5, .int kc), (0, .ref b), (1, .ref (ad_ w 0 0)), (2, .ref (ad_ w 20 0)), (3, .ref (ad_ w 40 0)), (4, .int (nI (6 * t)))]) cx.1 cx.2.1 dL_law_566 hl (by decide) rfl (fun ls hl => ?_)
  refine lv_aload_n cx.1 cx.2.1 dL_law_568 rfl (lv_at hl 4 rfl) ?_
  refine ck_V (v := some (.int (gi_ a2 20 0 0))) (As := []) (rest := []) (k := 20) (i := 0) (T := TX5) cx hW hS hl (by decide) rfl rfl (c_X5_thrown l hI a2) cw_X5_thrown nw_397 nw_398 nw_396 rfl rfl (Nat.le_of_ble_eq_true rfl) rfl rfl ⟨Nat.le_of_ble_eq_true rfl, Nat.le_of_ble_eq_true rfl⟩ ⟨hfc, hfs⟩ dL_law_569 (fun H locs hW hS => ?_)
  refine W.eq (g2 := F0 zm 572 ls [.int (gi_ a2 20 0 0)]) rfl ?_
  refine lv_iload cx.1 cx.2.1 dL_law_572 (lv_at hl 1 rfl) ?_
  refine lv_icmp_eq (tgt := 579) cx.1 cx.2.1 dL_law_574 (by decide) (fun h574 => ?_) (fun zz => absurd hth zz)
  refine lv_iload cx.1 cx.2.1 dL_law_579 (lv_at hl 1 rfl) ?_
  refine lv_if_ne (tgt := 595) cx.1 cx.2.1 dL_law_581 (by decide) (fun h581 => ?_) (fun h581 => ?_)
  · skip
    refine lv_goto (tgt := 1292) cx.1 cx.2.1 dL_law_595 (by decide) ?_
    exact kk H locs ls hW hS (lv_sub hl [2, 3, 4, 5, 6] rfl)
  · skip
    refine lv_aload_n cx.1 cx.2.1 dL_law_584 rfl (lv_at hl 5 rfl) ?_
    refine lv_iconst (v := 0) cx.1 cx.2.1 dL_law_585 (by decide) ?_
    refine al_40 (j := 0) cx hW (by decide) (by decide +kernel) (by decide) dL_law_586 ?_
    refine lv_lload cx.1 cx.2.1 dL_law_587 (lv_at hl 0 rfl) ?_
    refine lc_eq (tgt := 595) cx.1 cx.2.1 dL_law_589 dL_law_590 (by decide) (fun h589 => ?_) (fun zz => absurd (ho h581) zz)
    refine lv_goto (tgt := 1292) cx.1 cx.2.1 dL_law_595 (by decide) ?_
    exact kk H locs ls hW hS (lv_sub hl [2, 3, 4, 5, 6] rfl)
set_option maxHeartbeats 4000000 in
set_option maxRecDepth 100000 in
theorem lw_c_withdraw (l : Launch) {zp : Program} {ze : Env} {zs : State} {zm : MethodId} {zb : List Frame} {zt : Method} {zc : Code} {w : Gh_} {b L t cells slots : Nat} {xs : Nat → Int32} {H : Heap} {locs : List Loc} {ls : Array Slot} {Q : State → Prop} {a a1 a2 : St_} {kc : Int32} {r : Int64} (cx : Cx_ zp zs zm zc #[Value.ref b] cL_law 8 "MarginHouseLaw" w) (hX : va_X b L xs zs zs.heap) (hbl : b < zs.heap.size) (hbA : ¬ lo_ w ≤ b) (hL : L ≤ 3072) (ht : 6 * t + 6 ≤ L) (hfc : cells + 1 ≤ 647880) (hfs : slots + 6 ≤ 7152463) (hC : Fn_ l w yL_withdraw (.codeWith yL_withdraw cL_withdraw 6 (some .int) [(0, 10, 13, 13), (0, 10, 17, 34)]) { frames := 8, cells := 1, slots := 6, locals := 135 } 1 6 [.ref (ad_ w 0 0), .int (xs (6 * t + 1)), .long (lw2_ (xs (6 * t + 2)) (xs (6 * t + 3))), .ref (ad_ w 40 0)] a (.inl (some (.int kc))) a1) (hM : Fn_ l w yX5_withdraw (.code yX5_withdraw cX5_withdraw 4 (some .long)) { frames := 1, cells := 0, slots := 0, locals := 27 } 0 0 [.ref (ad_ w 20 0), .int (xs (6 * t + 1)), .long (lw2_ (xs (6 * t + 2)) (xs (6 * t + 3)))] a1 (.inl (some (.long r))) a2) (hth : gi_ a2 20 0 0 = kc) (ho : kc = 0 → gl_ a2 40 0 0 = r) (hW : Hd_ w a H) (hS : Fr_ w zs.heap H locs) (hl : lv_has ls 8 [(0, .ref b), (1, .ref (ad_ w 0 0)), (2, .ref (ad_ w 20 0)), (3, .ref (ad_ w 40 0)), (4, .int (nI (6 * t)))])
    (kk : ∀ (H : Heap) (locs : List Loc) (ls : Array Slot), Hd_ w a2 H → Fr_ w zs.heap H locs → lv_has ls 8 [(0, .ref b), (1, .ref (ad_ w 0 0)), (2, .ref (ad_ w 20 0)), (3, .ref (ad_ w 40 0)), (4, .int (nI (6 * t)))] → W zp l ze room_1 zs zm #[Value.ref b] zb zt zc H locs (cells + 1) (slots + 6) Q (F0 zm 1292 ls [])) : W zp l ze room_1 zs zm #[Value.ref b] zb zt zc H locs cells slots Q (F0 zm 598 ls []) := by
  have hI := cx.2.2.2.2.2.2.1
  refine lv_aload_n cx.1 cx.2.1 dL_law_598 rfl (lv_at hl 1 rfl) ?_
  refine lv_aload_n cx.1 cx.2.1 dL_law_599 rfl (lv_at hl 0 rfl) ?_
  refine lv_iload cx.1 cx.2.1 dL_law_600 (lv_at hl 4 rfl) ?_
  refine lv_iconst (v := 1) cx.1 cx.2.1 dL_law_602 (by decide) ?_
  refine lv_iadd cx.1 cx.2.1 dL_law_603 ?_
  refine sc_ld (j := 6 * t + 1) cx hX hbl hbA hS (by rw [show (1 : Int32) = nI 1 by decide +kernel, nI_add]) (by omega) (by omega) dL_law_604 ?_
  refine lv_aload_n cx.1 cx.2.1 dL_law_605 rfl (lv_at hl 0 rfl) ?_
  refine lv_iload cx.1 cx.2.1 dL_law_606 (lv_at hl 4 rfl) ?_
  refine lv_iconst (v := 2) cx.1 cx.2.1 dL_law_608 (by decide) ?_
  refine lv_iadd cx.1 cx.2.1 dL_law_609 ?_
  refine sc_ld (j := 6 * t + 2) cx hX hbl hbA hS (by rw [show (2 : Int32) = nI 2 by decide +kernel, nI_add]) (by omega) (by omega) dL_law_610 ?_
  refine lv_i2l (v := (xs (6 * t + 2)).toInt64) cx.1 cx.2.1 dL_law_611 rfl ?_
  refine lv_bipush (v := 32) cx.1 cx.2.1 dL_law_612 (by decide) ?_
  refine lv_lshl (v := ((xs (6 * t + 2)).toInt64) <<< ((32 : Int32).toInt64 &&& 63)) cx.1 cx.2.1 dL_law_614 rfl ?_
  refine lv_aload_n cx.1 cx.2.1 dL_law_615 rfl (lv_at hl 0 rfl) ?_
  refine lv_iload cx.1 cx.2.1 dL_law_616 (lv_at hl 4 rfl) ?_
  refine lv_iconst (v := 3) cx.1 cx.2.1 dL_law_618 (by decide) ?_
  refine lv_iadd cx.1 cx.2.1 dL_law_619 ?_
  refine sc_ld (j := 6 * t + 3) cx hX hbl hbA hS (by rw [show (3 : Int32) = nI 3 by decide +kernel, nI_add]) (by omega) (by omega) dL_law_620 ?_
  refine lv_i2l (v := (xs (6 * t + 3)).toInt64) cx.1 cx.2.1 dL_law_621 rfl ?_
  refine lv_ldc2 (own := "MarginHouseLaw") (v := 4294967295) cx.1 cx.2.1 cx.2.2.2.1 (cx.2.2.2.2.1 _ nw_517) dL_law_622 ?_
  refine lv_land cx.1 cx.2.1 dL_law_625 ?_
  refine lv_lor cx.1 cx.2.1 dL_law_626 ?_
  refine tp_j (y := lw2_ (xs (6 * t + 2)) (xs (6 * t + 3))) rfl ?_
  refine lv_aload_n cx.1 cx.2.1 dL_law_627 rfl (lv_at hl 3 rfl) ?_
  refine ck_H (v := some (.int kc)) (As := [.ref (ad_ w 0 0), .int (xs (6 * t + 1)), .long (lw2_ (xs (6 * t + 2)) (xs (6 * t + 3))), .ref (ad_ w 40 0)]) (rest := []) cx hW hS hl (hC) cw_L_withdraw nw_201 nw_200 rfl rfl (Nat.le_of_ble_eq_true rfl) rfl rfl ⟨Nat.le_of_ble_eq_true rfl, Nat.le_of_ble_eq_true rfl⟩ ⟨hfc, hfs⟩ dL_law_628 (fun H locs hW hS => ?_)
  refine W.eq (g2 := F0 zm 631 ls [.int kc]) rfl ?_
  refine lv_istore (lv' := [(5, .int kc), (0, .ref b), (1, .ref (ad_ w 0 0)), (2, .ref (ad_ w 20 0)), (3, .ref (ad_ w 40 0)), (4, .int (nI (6 * t)))]) cx.1 cx.2.1 dL_law_631 hl (by decide) rfl (fun ls hl => ?_)
  refine lv_aload_n cx.1 cx.2.1 dL_law_633 rfl (lv_at hl 3 rfl) ?_
  refine lv_aload_n cx.1 cx.2.1 dL_law_634 rfl (lv_at hl 1 rfl) ?_
  refine lv_iload cx.1 cx.2.1 dL_law_635 (lv_at hl 5 rfl) ?_
  refine lv_iconst (v := 1) cx.1 cx.2.1 dL_law_637 (by decide) ?_
  refine lv_iadd cx.1 cx.2.1 dL_law_638 ?_
  refine sc_ld (j := 6 * t + 1) cx hX hbl hbA hS (by rw [show (1 : Int32) = nI 1 by decide +kernel, nI_add]) (by omega) (by omega) dL_law_639 ?_
  refine lv_aload_n cx.1 cx.2.1 dL_law_640 rfl (lv_at hl 1 rfl) ?_
  refine lv_iload cx.1 cx.2.1 dL_law_641 (lv_at hl 5 rfl) ?_
  refine lv_iconst (v := 2) cx.1 cx.2.1 dL_law_643 (by decide) ?_
  refine lv_iadd cx.1 cx.2.1 dL_law_644 ?_
  refine sc_ld (j := 6 * t + 2) cx hX hbl hbA hS (by rw [show (2 : Int32) = nI 2 by decide +kernel, nI_add]) (by omega) (by omega) dL_law_645 ?_
  refine lv_i2l (v := (xs (6 * t + 2)).toInt64) cx.1 cx.2.1 dL_law_646 rfl ?_
  refine lv_bipush (v := 32) cx.1 cx.2.1 dL_law_647 (by decide) ?_
  refine lv_lshl (v := ((xs (6 * t + 2)).toInt64) <<< ((32 : Int32).toInt64 &&& 63)) cx.1 cx.2.1 dL_law_649 rfl ?_
  refine lv_aload_n cx.1 cx.2.1 dL_law_650 rfl (lv_at hl 1 rfl) ?_
  refine lv_iload cx.1 cx.2.1 dL_law_651 (lv_at hl 5 rfl) ?_
  refine lv_iconst (v := 3) cx.1 cx.2.1 dL_law_653 (by decide) ?_
  refine lv_iadd cx.1 cx.2.1 dL_law_654 ?_
  refine sc_ld (j := 6 * t + 3) cx hX hbl hbA hS (by rw [show (3 : Int32) = nI 3 by decide +kernel, nI_add]) (by omega) (by omega) dL_law_655 ?_
  refine lv_i2l (v := (xs (6 * t + 3)).toInt64) cx.1 cx.2.1 dL_law_656 rfl ?_
  refine lv_ldc2 (own := "MarginHouseLaw") (v := 4294967295) cx.1 cx.2.1 cx.2.2.2.1 (cx.2.2.2.2.1 _ nw_517) dL_law_657 ?_
  refine lv_land cx.1 cx.2.1 dL_law_660 ?_
  refine lv_lor cx.1 cx.2.1 dL_law_661 ?_
  refine tp_j (y := lw2_ (xs (6 * t + 2)) (xs (6 * t + 3))) rfl ?_
  refine ck_V (v := some (.long r)) (As := [.int (xs (6 * t + 1)), .long (lw2_ (xs (6 * t + 2)) (xs (6 * t + 3)))]) (rest := []) (k := 20) (i := 0) (T := TX5) cx hW hS hl (by decide) rfl rfl (hM) cw_X5_withdraw nw_443 nw_444 nw_442 rfl rfl (Nat.le_of_ble_eq_true rfl) rfl rfl ⟨Nat.le_of_ble_eq_true rfl, Nat.le_of_ble_eq_true rfl⟩ ⟨hfc, hfs⟩ dL_law_662 (fun H locs hW hS => ?_)
  refine W.eq (g2 := F0 zm 665 ls [.long r]) rfl ?_
  refine lv_lstore (lv' := [(6, .long r), (5, .int kc), (0, .ref b), (1, .ref (ad_ w 0 0)), (2, .ref (ad_ w 20 0)), (3, .ref (ad_ w 40 0)), (4, .int (nI (6 * t)))]) cx.1 cx.2.1 dL_law_665 hl (by decide) rfl (fun ls hl => ?_)
  refine lv_aload_n cx.1 cx.2.1 dL_law_667 rfl (lv_at hl 4 rfl) ?_
  refine ck_V (v := some (.int (gi_ a2 20 0 0))) (As := []) (rest := []) (k := 20) (i := 0) (T := TX5) cx hW hS hl (by decide) rfl rfl (c_X5_thrown l hI a2) cw_X5_thrown nw_397 nw_398 nw_396 rfl rfl (Nat.le_of_ble_eq_true rfl) rfl rfl ⟨Nat.le_of_ble_eq_true rfl, Nat.le_of_ble_eq_true rfl⟩ ⟨hfc, hfs⟩ dL_law_668 (fun H locs hW hS => ?_)
  refine W.eq (g2 := F0 zm 671 ls [.int (gi_ a2 20 0 0)]) rfl ?_
  refine lv_iload cx.1 cx.2.1 dL_law_671 (lv_at hl 1 rfl) ?_
  refine lv_icmp_eq (tgt := 678) cx.1 cx.2.1 dL_law_673 (by decide) (fun h673 => ?_) (fun zz => absurd hth zz)
  refine lv_iload cx.1 cx.2.1 dL_law_678 (lv_at hl 1 rfl) ?_
  refine lv_if_ne (tgt := 694) cx.1 cx.2.1 dL_law_680 (by decide) (fun h680 => ?_) (fun h680 => ?_)
  · skip
    refine lv_goto (tgt := 1292) cx.1 cx.2.1 dL_law_694 (by decide) ?_
    exact kk H locs ls hW hS (lv_sub hl [2, 3, 4, 5, 6] rfl)
  · skip
    refine lv_aload_n cx.1 cx.2.1 dL_law_683 rfl (lv_at hl 5 rfl) ?_
    refine lv_iconst (v := 0) cx.1 cx.2.1 dL_law_684 (by decide) ?_
    refine al_40 (j := 0) cx hW (by decide) (by decide +kernel) (by decide) dL_law_685 ?_
    refine lv_lload cx.1 cx.2.1 dL_law_686 (lv_at hl 0 rfl) ?_
    refine lc_eq (tgt := 694) cx.1 cx.2.1 dL_law_688 dL_law_689 (by decide) (fun h688 => ?_) (fun zz => absurd (ho h680) zz)
    refine lv_goto (tgt := 1292) cx.1 cx.2.1 dL_law_694 (by decide) ?_
    exact kk H locs ls hW hS (lv_sub hl [2, 3, 4, 5, 6] rfl)
set_option maxHeartbeats 4000000 in
set_option maxRecDepth 100000 in
theorem lw_c_trade (l : Launch) {zp : Program} {ze : Env} {zs : State} {zm : MethodId} {zb : List Frame} {zt : Method} {zc : Code} {w : Gh_} {b L t cells slots : Nat} {xs : Nat → Int32} {H : Heap} {locs : List Loc} {ls : Array Slot} {Q : State → Prop} {a a1 a2 : St_} {kc : Int32} {r : Int32} (cx : Cx_ zp zs zm zc #[Value.ref b] cL_law 8 "MarginHouseLaw" w) (hX : va_X b L xs zs zs.heap) (hbl : b < zs.heap.size) (hbA : ¬ lo_ w ≤ b) (hL : L ≤ 3072) (ht : 6 * t + 6 ≤ L) (hfc : cells + 1 ≤ 647880) (hfs : slots + 6 ≤ 7152463) (hC : Fn_ l w yL_trade (.codeWith yL_trade cL_trade 8 (some .int) [(0, 16, 19, 13), (0, 16, 23, 34)]) { frames := 8, cells := 1, slots := 6, locals := 140 } 1 6 [.ref (ad_ w 0 0), .int (xs (6 * t + 1)), .int (xs (6 * t + 2)), .int (xs (6 * t + 3)), .int (xs (6 * t + 4)), .int (xs (6 * t + 5)), .ref (ad_ w 40 0)] a (.inl (some (.int kc))) a1) (hM : Fn_ l w yX5_trade (.code yX5_trade cX5_trade 11 (some .int)) { frames := 1, cells := 0, slots := 0, locals := 25 } 0 0 [.ref (ad_ w 20 0), .int (xs (6 * t + 1)), .int (xs (6 * t + 2)), .int (xs (6 * t + 3)), .int (xs (6 * t + 4)), .int (xs (6 * t + 5))] a1 (.inl (some (.int r))) a2) (hth : gi_ a2 20 0 0 = kc) (ho : kc = 0 → gl_ a2 40 0 0 = r.toInt64) (hW : Hd_ w a H) (hS : Fr_ w zs.heap H locs) (hl : lv_has ls 8 [(0, .ref b), (1, .ref (ad_ w 0 0)), (2, .ref (ad_ w 20 0)), (3, .ref (ad_ w 40 0)), (4, .int (nI (6 * t)))])
    (kk : ∀ (H : Heap) (locs : List Loc) (ls : Array Slot), Hd_ w a2 H → Fr_ w zs.heap H locs → lv_has ls 8 [(0, .ref b), (1, .ref (ad_ w 0 0)), (2, .ref (ad_ w 20 0)), (3, .ref (ad_ w 40 0)), (4, .int (nI (6 * t)))] → W zp l ze room_1 zs zm #[Value.ref b] zb zt zc H locs (cells + 1) (slots + 6) Q (F0 zm 1292 ls [])) : W zp l ze room_1 zs zm #[Value.ref b] zb zt zc H locs cells slots Q (F0 zm 697 ls []) := by
  have hI := cx.2.2.2.2.2.2.1
  refine lv_aload_n cx.1 cx.2.1 dL_law_697 rfl (lv_at hl 1 rfl) ?_
  refine lv_aload_n cx.1 cx.2.1 dL_law_698 rfl (lv_at hl 0 rfl) ?_
  refine lv_iload cx.1 cx.2.1 dL_law_699 (lv_at hl 4 rfl) ?_
  refine lv_iconst (v := 1) cx.1 cx.2.1 dL_law_701 (by decide) ?_
  refine lv_iadd cx.1 cx.2.1 dL_law_702 ?_
  refine sc_ld (j := 6 * t + 1) cx hX hbl hbA hS (by rw [show (1 : Int32) = nI 1 by decide +kernel, nI_add]) (by omega) (by omega) dL_law_703 ?_
  refine lv_aload_n cx.1 cx.2.1 dL_law_704 rfl (lv_at hl 0 rfl) ?_
  refine lv_iload cx.1 cx.2.1 dL_law_705 (lv_at hl 4 rfl) ?_
  refine lv_iconst (v := 2) cx.1 cx.2.1 dL_law_707 (by decide) ?_
  refine lv_iadd cx.1 cx.2.1 dL_law_708 ?_
  refine sc_ld (j := 6 * t + 2) cx hX hbl hbA hS (by rw [show (2 : Int32) = nI 2 by decide +kernel, nI_add]) (by omega) (by omega) dL_law_709 ?_
  refine lv_aload_n cx.1 cx.2.1 dL_law_710 rfl (lv_at hl 0 rfl) ?_
  refine lv_iload cx.1 cx.2.1 dL_law_711 (lv_at hl 4 rfl) ?_
  refine lv_iconst (v := 3) cx.1 cx.2.1 dL_law_713 (by decide) ?_
  refine lv_iadd cx.1 cx.2.1 dL_law_714 ?_
  refine sc_ld (j := 6 * t + 3) cx hX hbl hbA hS (by rw [show (3 : Int32) = nI 3 by decide +kernel, nI_add]) (by omega) (by omega) dL_law_715 ?_
  refine lv_aload_n cx.1 cx.2.1 dL_law_716 rfl (lv_at hl 0 rfl) ?_
  refine lv_iload cx.1 cx.2.1 dL_law_717 (lv_at hl 4 rfl) ?_
  refine lv_iconst (v := 4) cx.1 cx.2.1 dL_law_719 (by decide) ?_
  refine lv_iadd cx.1 cx.2.1 dL_law_720 ?_
  refine sc_ld (j := 6 * t + 4) cx hX hbl hbA hS (by rw [show (4 : Int32) = nI 4 by decide +kernel, nI_add]) (by omega) (by omega) dL_law_721 ?_
  refine lv_aload_n cx.1 cx.2.1 dL_law_722 rfl (lv_at hl 0 rfl) ?_
  refine lv_iload cx.1 cx.2.1 dL_law_723 (lv_at hl 4 rfl) ?_
  refine lv_iconst (v := 5) cx.1 cx.2.1 dL_law_725 (by decide) ?_
  refine lv_iadd cx.1 cx.2.1 dL_law_726 ?_
  refine sc_ld (j := 6 * t + 5) cx hX hbl hbA hS (by rw [show (5 : Int32) = nI 5 by decide +kernel, nI_add]) (by omega) (by omega) dL_law_727 ?_
  refine lv_aload_n cx.1 cx.2.1 dL_law_728 rfl (lv_at hl 3 rfl) ?_
  refine ck_H (v := some (.int kc)) (As := [.ref (ad_ w 0 0), .int (xs (6 * t + 1)), .int (xs (6 * t + 2)), .int (xs (6 * t + 3)), .int (xs (6 * t + 4)), .int (xs (6 * t + 5)), .ref (ad_ w 40 0)]) (rest := []) cx hW hS hl (hC) cw_L_trade nw_208 nw_207 rfl rfl (Nat.le_of_ble_eq_true rfl) rfl rfl ⟨Nat.le_of_ble_eq_true rfl, Nat.le_of_ble_eq_true rfl⟩ ⟨hfc, hfs⟩ dL_law_729 (fun H locs hW hS => ?_)
  refine W.eq (g2 := F0 zm 732 ls [.int kc]) rfl ?_
  refine lv_istore (lv' := [(5, .int kc), (0, .ref b), (1, .ref (ad_ w 0 0)), (2, .ref (ad_ w 20 0)), (3, .ref (ad_ w 40 0)), (4, .int (nI (6 * t)))]) cx.1 cx.2.1 dL_law_732 hl (by decide) rfl (fun ls hl => ?_)
  refine lv_aload_n cx.1 cx.2.1 dL_law_734 rfl (lv_at hl 3 rfl) ?_
  refine lv_aload_n cx.1 cx.2.1 dL_law_735 rfl (lv_at hl 1 rfl) ?_
  refine lv_iload cx.1 cx.2.1 dL_law_736 (lv_at hl 5 rfl) ?_
  refine lv_iconst (v := 1) cx.1 cx.2.1 dL_law_738 (by decide) ?_
  refine lv_iadd cx.1 cx.2.1 dL_law_739 ?_
  refine sc_ld (j := 6 * t + 1) cx hX hbl hbA hS (by rw [show (1 : Int32) = nI 1 by decide +kernel, nI_add]) (by omega) (by omega) dL_law_740 ?_
  refine lv_aload_n cx.1 cx.2.1 dL_law_741 rfl (lv_at hl 1 rfl) ?_
  refine lv_iload cx.1 cx.2.1 dL_law_742 (lv_at hl 5 rfl) ?_
  refine lv_iconst (v := 2) cx.1 cx.2.1 dL_law_744 (by decide) ?_
  refine lv_iadd cx.1 cx.2.1 dL_law_745 ?_
  refine sc_ld (j := 6 * t + 2) cx hX hbl hbA hS (by rw [show (2 : Int32) = nI 2 by decide +kernel, nI_add]) (by omega) (by omega) dL_law_746 ?_
  refine lv_aload_n cx.1 cx.2.1 dL_law_747 rfl (lv_at hl 1 rfl) ?_
  refine lv_iload cx.1 cx.2.1 dL_law_748 (lv_at hl 5 rfl) ?_
  refine lv_iconst (v := 3) cx.1 cx.2.1 dL_law_750 (by decide) ?_
  refine lv_iadd cx.1 cx.2.1 dL_law_751 ?_
  refine sc_ld (j := 6 * t + 3) cx hX hbl hbA hS (by rw [show (3 : Int32) = nI 3 by decide +kernel, nI_add]) (by omega) (by omega) dL_law_752 ?_
  refine lv_aload_n cx.1 cx.2.1 dL_law_753 rfl (lv_at hl 1 rfl) ?_
  refine lv_iload cx.1 cx.2.1 dL_law_754 (lv_at hl 5 rfl) ?_
  refine lv_iconst (v := 4) cx.1 cx.2.1 dL_law_756 (by decide) ?_
  refine lv_iadd cx.1 cx.2.1 dL_law_757 ?_
  refine sc_ld (j := 6 * t + 4) cx hX hbl hbA hS (by rw [show (4 : Int32) = nI 4 by decide +kernel, nI_add]) (by omega) (by omega) dL_law_758 ?_
  refine lv_aload_n cx.1 cx.2.1 dL_law_759 rfl (lv_at hl 1 rfl) ?_
  refine lv_iload cx.1 cx.2.1 dL_law_760 (lv_at hl 5 rfl) ?_
  refine lv_iconst (v := 5) cx.1 cx.2.1 dL_law_762 (by decide) ?_
  refine lv_iadd cx.1 cx.2.1 dL_law_763 ?_
  refine sc_ld (j := 6 * t + 5) cx hX hbl hbA hS (by rw [show (5 : Int32) = nI 5 by decide +kernel, nI_add]) (by omega) (by omega) dL_law_764 ?_
  refine ck_V (v := some (.int r)) (As := [.int (xs (6 * t + 1)), .int (xs (6 * t + 2)), .int (xs (6 * t + 3)), .int (xs (6 * t + 4)), .int (xs (6 * t + 5))]) (rest := []) (k := 20) (i := 0) (T := TX5) cx hW hS hl (by decide) rfl rfl (hM) cw_X5_trade nw_450 nw_451 nw_449 rfl rfl (Nat.le_of_ble_eq_true rfl) rfl rfl ⟨Nat.le_of_ble_eq_true rfl, Nat.le_of_ble_eq_true rfl⟩ ⟨hfc, hfs⟩ dL_law_765 (fun H locs hW hS => ?_)
  refine W.eq (g2 := F0 zm 768 ls [.int r]) rfl ?_
  refine lv_istore (lv' := [(6, .int r), (5, .int kc), (0, .ref b), (1, .ref (ad_ w 0 0)), (2, .ref (ad_ w 20 0)), (3, .ref (ad_ w 40 0)), (4, .int (nI (6 * t)))]) cx.1 cx.2.1 dL_law_768 hl (by decide) rfl (fun ls hl => ?_)
  refine lv_aload_n cx.1 cx.2.1 dL_law_770 rfl (lv_at hl 4 rfl) ?_
  refine ck_V (v := some (.int (gi_ a2 20 0 0))) (As := []) (rest := []) (k := 20) (i := 0) (T := TX5) cx hW hS hl (by decide) rfl rfl (c_X5_thrown l hI a2) cw_X5_thrown nw_397 nw_398 nw_396 rfl rfl (Nat.le_of_ble_eq_true rfl) rfl rfl ⟨Nat.le_of_ble_eq_true rfl, Nat.le_of_ble_eq_true rfl⟩ ⟨hfc, hfs⟩ dL_law_771 (fun H locs hW hS => ?_)
  refine W.eq (g2 := F0 zm 774 ls [.int (gi_ a2 20 0 0)]) rfl ?_
  refine lv_iload cx.1 cx.2.1 dL_law_774 (lv_at hl 1 rfl) ?_
  refine lv_icmp_eq (tgt := 781) cx.1 cx.2.1 dL_law_776 (by decide) (fun h776 => ?_) (fun zz => absurd hth zz)
  refine lv_iload cx.1 cx.2.1 dL_law_781 (lv_at hl 1 rfl) ?_
  refine lv_if_ne (tgt := 798) cx.1 cx.2.1 dL_law_783 (by decide) (fun h783 => ?_) (fun h783 => ?_)
  · skip
    refine lv_goto (tgt := 1292) cx.1 cx.2.1 dL_law_798 (by decide) ?_
    exact kk H locs ls hW hS (lv_sub hl [2, 3, 4, 5, 6] rfl)
  · skip
    refine lv_aload_n cx.1 cx.2.1 dL_law_786 rfl (lv_at hl 5 rfl) ?_
    refine lv_iconst (v := 0) cx.1 cx.2.1 dL_law_787 (by decide) ?_
    refine al_40 (j := 0) cx hW (by decide) (by decide +kernel) (by decide) dL_law_788 ?_
    refine lv_iload cx.1 cx.2.1 dL_law_789 (lv_at hl 0 rfl) ?_
    refine lv_i2l (v := r.toInt64) cx.1 cx.2.1 dL_law_791 rfl ?_
    refine lc_eq (tgt := 798) cx.1 cx.2.1 dL_law_792 dL_law_793 (by decide) (fun h792 => ?_) (fun zz => absurd (ho h783) zz)
    refine lv_goto (tgt := 1292) cx.1 cx.2.1 dL_law_798 (by decide) ?_
    exact kk H locs ls hW hS (lv_sub hl [2, 3, 4, 5, 6] rfl)
set_option maxHeartbeats 4000000 in
set_option maxRecDepth 100000 in
theorem lw_c_mark (l : Launch) {zp : Program} {ze : Env} {zs : State} {zm : MethodId} {zb : List Frame} {zt : Method} {zc : Code} {w : Gh_} {b L t cells slots : Nat} {xs : Nat → Int32} {H : Heap} {locs : List Loc} {ls : Array Slot} {Q : State → Prop} {a a1 a2 : St_} {kc : Int32} {r : Int32} (cx : Cx_ zp zs zm zc #[Value.ref b] cL_law 8 "MarginHouseLaw" w) (hX : va_X b L xs zs zs.heap) (hbl : b < zs.heap.size) (hbA : ¬ lo_ w ≤ b) (hL : L ≤ 3072) (ht : 6 * t + 6 ≤ L) (hfc : cells + 1 ≤ 647880) (hfs : slots + 6 ≤ 7152463) (hC : Fn_ l w yL_mark (.codeWith yL_mark cL_mark 5 (some .int) [(0, 10, 13, 13)]) { frames := 8, cells := 1, slots := 6, locals := 135 } 1 6 [.ref (ad_ w 0 0), .int (xs (6 * t + 1)), .int (xs (6 * t + 2)), .ref (ad_ w 40 0)] a (.inl (some (.int kc))) a1) (hM : Fn_ l w yX5_mark (.code yX5_mark cX5_mark 7 (some .int)) { frames := 1, cells := 0, slots := 0, locals := 25 } 0 0 [.ref (ad_ w 20 0), .int (xs (6 * t + 1)), .int (xs (6 * t + 2))] a1 (.inl (some (.int r))) a2) (hth : gi_ a2 20 0 0 = kc) (ho : kc = 0 → gl_ a2 40 0 0 = r.toInt64) (hW : Hd_ w a H) (hS : Fr_ w zs.heap H locs) (hl : lv_has ls 8 [(0, .ref b), (1, .ref (ad_ w 0 0)), (2, .ref (ad_ w 20 0)), (3, .ref (ad_ w 40 0)), (4, .int (nI (6 * t)))])
    (kk : ∀ (H : Heap) (locs : List Loc) (ls : Array Slot), Hd_ w a2 H → Fr_ w zs.heap H locs → lv_has ls 8 [(0, .ref b), (1, .ref (ad_ w 0 0)), (2, .ref (ad_ w 20 0)), (3, .ref (ad_ w 40 0)), (4, .int (nI (6 * t)))] → W zp l ze room_1 zs zm #[Value.ref b] zb zt zc H locs (cells + 1) (slots + 6) Q (F0 zm 1292 ls [])) : W zp l ze room_1 zs zm #[Value.ref b] zb zt zc H locs cells slots Q (F0 zm 801 ls []) := by
  have hI := cx.2.2.2.2.2.2.1
  refine lv_aload_n cx.1 cx.2.1 dL_law_801 rfl (lv_at hl 1 rfl) ?_
  refine lv_aload_n cx.1 cx.2.1 dL_law_802 rfl (lv_at hl 0 rfl) ?_
  refine lv_iload cx.1 cx.2.1 dL_law_803 (lv_at hl 4 rfl) ?_
  refine lv_iconst (v := 1) cx.1 cx.2.1 dL_law_805 (by decide) ?_
  refine lv_iadd cx.1 cx.2.1 dL_law_806 ?_
  refine sc_ld (j := 6 * t + 1) cx hX hbl hbA hS (by rw [show (1 : Int32) = nI 1 by decide +kernel, nI_add]) (by omega) (by omega) dL_law_807 ?_
  refine lv_aload_n cx.1 cx.2.1 dL_law_808 rfl (lv_at hl 0 rfl) ?_
  refine lv_iload cx.1 cx.2.1 dL_law_809 (lv_at hl 4 rfl) ?_
  refine lv_iconst (v := 2) cx.1 cx.2.1 dL_law_811 (by decide) ?_
  refine lv_iadd cx.1 cx.2.1 dL_law_812 ?_
  refine sc_ld (j := 6 * t + 2) cx hX hbl hbA hS (by rw [show (2 : Int32) = nI 2 by decide +kernel, nI_add]) (by omega) (by omega) dL_law_813 ?_
  refine lv_aload_n cx.1 cx.2.1 dL_law_814 rfl (lv_at hl 3 rfl) ?_
  refine ck_H (v := some (.int kc)) (As := [.ref (ad_ w 0 0), .int (xs (6 * t + 1)), .int (xs (6 * t + 2)), .ref (ad_ w 40 0)]) (rest := []) cx hW hS hl (hC) cw_L_mark nw_219 nw_218 rfl rfl (Nat.le_of_ble_eq_true rfl) rfl rfl ⟨Nat.le_of_ble_eq_true rfl, Nat.le_of_ble_eq_true rfl⟩ ⟨hfc, hfs⟩ dL_law_815 (fun H locs hW hS => ?_)
  refine W.eq (g2 := F0 zm 818 ls [.int kc]) rfl ?_
  refine lv_istore (lv' := [(5, .int kc), (0, .ref b), (1, .ref (ad_ w 0 0)), (2, .ref (ad_ w 20 0)), (3, .ref (ad_ w 40 0)), (4, .int (nI (6 * t)))]) cx.1 cx.2.1 dL_law_818 hl (by decide) rfl (fun ls hl => ?_)
  refine lv_aload_n cx.1 cx.2.1 dL_law_820 rfl (lv_at hl 3 rfl) ?_
  refine lv_aload_n cx.1 cx.2.1 dL_law_821 rfl (lv_at hl 1 rfl) ?_
  refine lv_iload cx.1 cx.2.1 dL_law_822 (lv_at hl 5 rfl) ?_
  refine lv_iconst (v := 1) cx.1 cx.2.1 dL_law_824 (by decide) ?_
  refine lv_iadd cx.1 cx.2.1 dL_law_825 ?_
  refine sc_ld (j := 6 * t + 1) cx hX hbl hbA hS (by rw [show (1 : Int32) = nI 1 by decide +kernel, nI_add]) (by omega) (by omega) dL_law_826 ?_
  refine lv_aload_n cx.1 cx.2.1 dL_law_827 rfl (lv_at hl 1 rfl) ?_
  refine lv_iload cx.1 cx.2.1 dL_law_828 (lv_at hl 5 rfl) ?_
  refine lv_iconst (v := 2) cx.1 cx.2.1 dL_law_830 (by decide) ?_
  refine lv_iadd cx.1 cx.2.1 dL_law_831 ?_
  refine sc_ld (j := 6 * t + 2) cx hX hbl hbA hS (by rw [show (2 : Int32) = nI 2 by decide +kernel, nI_add]) (by omega) (by omega) dL_law_832 ?_
  refine ck_V (v := some (.int r)) (As := [.int (xs (6 * t + 1)), .int (xs (6 * t + 2))]) (rest := []) (k := 20) (i := 0) (T := TX5) cx hW hS hl (by decide) rfl rfl (hM) cw_X5_mark nw_457 nw_458 nw_456 rfl rfl (Nat.le_of_ble_eq_true rfl) rfl rfl ⟨Nat.le_of_ble_eq_true rfl, Nat.le_of_ble_eq_true rfl⟩ ⟨hfc, hfs⟩ dL_law_833 (fun H locs hW hS => ?_)
  refine W.eq (g2 := F0 zm 836 ls [.int r]) rfl ?_
  refine lv_istore (lv' := [(6, .int r), (5, .int kc), (0, .ref b), (1, .ref (ad_ w 0 0)), (2, .ref (ad_ w 20 0)), (3, .ref (ad_ w 40 0)), (4, .int (nI (6 * t)))]) cx.1 cx.2.1 dL_law_836 hl (by decide) rfl (fun ls hl => ?_)
  refine lv_aload_n cx.1 cx.2.1 dL_law_838 rfl (lv_at hl 4 rfl) ?_
  refine ck_V (v := some (.int (gi_ a2 20 0 0))) (As := []) (rest := []) (k := 20) (i := 0) (T := TX5) cx hW hS hl (by decide) rfl rfl (c_X5_thrown l hI a2) cw_X5_thrown nw_397 nw_398 nw_396 rfl rfl (Nat.le_of_ble_eq_true rfl) rfl rfl ⟨Nat.le_of_ble_eq_true rfl, Nat.le_of_ble_eq_true rfl⟩ ⟨hfc, hfs⟩ dL_law_839 (fun H locs hW hS => ?_)
  refine W.eq (g2 := F0 zm 842 ls [.int (gi_ a2 20 0 0)]) rfl ?_
  refine lv_iload cx.1 cx.2.1 dL_law_842 (lv_at hl 1 rfl) ?_
  refine lv_icmp_eq (tgt := 849) cx.1 cx.2.1 dL_law_844 (by decide) (fun h844 => ?_) (fun zz => absurd hth zz)
  refine lv_iload cx.1 cx.2.1 dL_law_849 (lv_at hl 1 rfl) ?_
  refine lv_if_ne (tgt := 866) cx.1 cx.2.1 dL_law_851 (by decide) (fun h851 => ?_) (fun h851 => ?_)
  · skip
    refine lv_goto (tgt := 1292) cx.1 cx.2.1 dL_law_866 (by decide) ?_
    exact kk H locs ls hW hS (lv_sub hl [2, 3, 4, 5, 6] rfl)
  · skip
    refine lv_aload_n cx.1 cx.2.1 dL_law_854 rfl (lv_at hl 5 rfl) ?_
    refine lv_iconst (v := 0) cx.1 cx.2.1 dL_law_855 (by decide) ?_
    refine al_40 (j := 0) cx hW (by decide) (by decide +kernel) (by decide) dL_law_856 ?_
    refine lv_iload cx.1 cx.2.1 dL_law_857 (lv_at hl 0 rfl) ?_
    refine lv_i2l (v := r.toInt64) cx.1 cx.2.1 dL_law_859 rfl ?_
    refine lc_eq (tgt := 866) cx.1 cx.2.1 dL_law_860 dL_law_861 (by decide) (fun h860 => ?_) (fun zz => absurd (ho h851) zz)
    refine lv_goto (tgt := 1292) cx.1 cx.2.1 dL_law_866 (by decide) ?_
    exact kk H locs ls hW hS (lv_sub hl [2, 3, 4, 5, 6] rfl)
set_option maxHeartbeats 4000000 in
set_option maxRecDepth 100000 in
theorem lw_c_margin (l : Launch) {zp : Program} {ze : Env} {zs : State} {zm : MethodId} {zb : List Frame} {zt : Method} {zc : Code} {w : Gh_} {b L t cells slots : Nat} {xs : Nat → Int32} {H : Heap} {locs : List Loc} {ls : Array Slot} {Q : State → Prop} {a a1 a2 : St_} {kc : Int32} {r : Int64} (cx : Cx_ zp zs zm zc #[Value.ref b] cL_law 8 "MarginHouseLaw" w) (hX : va_X b L xs zs zs.heap) (hbl : b < zs.heap.size) (hbA : ¬ lo_ w ≤ b) (hL : L ≤ 3072) (ht : 6 * t + 6 ≤ L) (hfc : cells + 1 ≤ 647880) (hfs : slots + 6 ≤ 7152463) (hC : Fn_ l w yL_margin (.codeWith yL_margin cL_margin 4 (some .int) [(0, 8, 11, 13)]) { frames := 8, cells := 1, slots := 6, locals := 131 } 1 6 [.ref (ad_ w 0 0), .int (xs (6 * t + 1)), .ref (ad_ w 40 0)] a (.inl (some (.int kc))) a1) (hM : Fn_ l w yX5_margin (.code yX5_margin cX5_margin 2 (some .long)) { frames := 1, cells := 0, slots := 0, locals := 27 } 0 0 [.ref (ad_ w 20 0), .int (xs (6 * t + 1))] a1 (.inl (some (.long r))) a2) (hth : gi_ a2 20 0 0 = kc) (ho : kc = 0 → gl_ a2 40 0 0 = r) (hW : Hd_ w a H) (hS : Fr_ w zs.heap H locs) (hl : lv_has ls 8 [(0, .ref b), (1, .ref (ad_ w 0 0)), (2, .ref (ad_ w 20 0)), (3, .ref (ad_ w 40 0)), (4, .int (nI (6 * t)))])
    (kk : ∀ (H : Heap) (locs : List Loc) (ls : Array Slot), Hd_ w a2 H → Fr_ w zs.heap H locs → lv_has ls 8 [(0, .ref b), (1, .ref (ad_ w 0 0)), (2, .ref (ad_ w 20 0)), (3, .ref (ad_ w 40 0)), (4, .int (nI (6 * t)))] → W zp l ze room_1 zs zm #[Value.ref b] zb zt zc H locs (cells + 1) (slots + 6) Q (F0 zm 1292 ls [])) : W zp l ze room_1 zs zm #[Value.ref b] zb zt zc H locs cells slots Q (F0 zm 869 ls []) := by
  have hI := cx.2.2.2.2.2.2.1
  refine lv_aload_n cx.1 cx.2.1 dL_law_869 rfl (lv_at hl 1 rfl) ?_
  refine lv_aload_n cx.1 cx.2.1 dL_law_870 rfl (lv_at hl 0 rfl) ?_
  refine lv_iload cx.1 cx.2.1 dL_law_871 (lv_at hl 4 rfl) ?_
  refine lv_iconst (v := 1) cx.1 cx.2.1 dL_law_873 (by decide) ?_
  refine lv_iadd cx.1 cx.2.1 dL_law_874 ?_
  refine sc_ld (j := 6 * t + 1) cx hX hbl hbA hS (by rw [show (1 : Int32) = nI 1 by decide +kernel, nI_add]) (by omega) (by omega) dL_law_875 ?_
  refine lv_aload_n cx.1 cx.2.1 dL_law_876 rfl (lv_at hl 3 rfl) ?_
  refine ck_H (v := some (.int kc)) (As := [.ref (ad_ w 0 0), .int (xs (6 * t + 1)), .ref (ad_ w 40 0)]) (rest := []) cx hW hS hl (hC) cw_L_margin nw_229 nw_228 rfl rfl (Nat.le_of_ble_eq_true rfl) rfl rfl ⟨Nat.le_of_ble_eq_true rfl, Nat.le_of_ble_eq_true rfl⟩ ⟨hfc, hfs⟩ dL_law_877 (fun H locs hW hS => ?_)
  refine W.eq (g2 := F0 zm 880 ls [.int kc]) rfl ?_
  refine lv_istore (lv' := [(5, .int kc), (0, .ref b), (1, .ref (ad_ w 0 0)), (2, .ref (ad_ w 20 0)), (3, .ref (ad_ w 40 0)), (4, .int (nI (6 * t)))]) cx.1 cx.2.1 dL_law_880 hl (by decide) rfl (fun ls hl => ?_)
  refine lv_aload_n cx.1 cx.2.1 dL_law_882 rfl (lv_at hl 3 rfl) ?_
  refine lv_aload_n cx.1 cx.2.1 dL_law_883 rfl (lv_at hl 1 rfl) ?_
  refine lv_iload cx.1 cx.2.1 dL_law_884 (lv_at hl 5 rfl) ?_
  refine lv_iconst (v := 1) cx.1 cx.2.1 dL_law_886 (by decide) ?_
  refine lv_iadd cx.1 cx.2.1 dL_law_887 ?_
  refine sc_ld (j := 6 * t + 1) cx hX hbl hbA hS (by rw [show (1 : Int32) = nI 1 by decide +kernel, nI_add]) (by omega) (by omega) dL_law_888 ?_
  refine ck_V (v := some (.long r)) (As := [.int (xs (6 * t + 1))]) (rest := []) (k := 20) (i := 0) (T := TX5) cx hW hS hl (by decide) rfl rfl (hM) cw_X5_margin nw_461 nw_462 nw_460 rfl rfl (Nat.le_of_ble_eq_true rfl) rfl rfl ⟨Nat.le_of_ble_eq_true rfl, Nat.le_of_ble_eq_true rfl⟩ ⟨hfc, hfs⟩ dL_law_889 (fun H locs hW hS => ?_)
  refine W.eq (g2 := F0 zm 892 ls [.long r]) rfl ?_
  refine lv_lstore (lv' := [(6, .long r), (5, .int kc), (0, .ref b), (1, .ref (ad_ w 0 0)), (2, .ref (ad_ w 20 0)), (3, .ref (ad_ w 40 0)), (4, .int (nI (6 * t)))]) cx.1 cx.2.1 dL_law_892 hl (by decide) rfl (fun ls hl => ?_)
  refine lv_aload_n cx.1 cx.2.1 dL_law_894 rfl (lv_at hl 4 rfl) ?_
  refine ck_V (v := some (.int (gi_ a2 20 0 0))) (As := []) (rest := []) (k := 20) (i := 0) (T := TX5) cx hW hS hl (by decide) rfl rfl (c_X5_thrown l hI a2) cw_X5_thrown nw_397 nw_398 nw_396 rfl rfl (Nat.le_of_ble_eq_true rfl) rfl rfl ⟨Nat.le_of_ble_eq_true rfl, Nat.le_of_ble_eq_true rfl⟩ ⟨hfc, hfs⟩ dL_law_895 (fun H locs hW hS => ?_)
  refine W.eq (g2 := F0 zm 898 ls [.int (gi_ a2 20 0 0)]) rfl ?_
  refine lv_iload cx.1 cx.2.1 dL_law_898 (lv_at hl 1 rfl) ?_
  refine lv_icmp_eq (tgt := 905) cx.1 cx.2.1 dL_law_900 (by decide) (fun h900 => ?_) (fun zz => absurd hth zz)
  refine lv_iload cx.1 cx.2.1 dL_law_905 (lv_at hl 1 rfl) ?_
  refine lv_if_ne (tgt := 921) cx.1 cx.2.1 dL_law_907 (by decide) (fun h907 => ?_) (fun h907 => ?_)
  · skip
    refine lv_goto (tgt := 1292) cx.1 cx.2.1 dL_law_921 (by decide) ?_
    exact kk H locs ls hW hS (lv_sub hl [2, 3, 4, 5, 6] rfl)
  · skip
    refine lv_aload_n cx.1 cx.2.1 dL_law_910 rfl (lv_at hl 5 rfl) ?_
    refine lv_iconst (v := 0) cx.1 cx.2.1 dL_law_911 (by decide) ?_
    refine al_40 (j := 0) cx hW (by decide) (by decide +kernel) (by decide) dL_law_912 ?_
    refine lv_lload cx.1 cx.2.1 dL_law_913 (lv_at hl 0 rfl) ?_
    refine lc_eq (tgt := 921) cx.1 cx.2.1 dL_law_915 dL_law_916 (by decide) (fun h915 => ?_) (fun zz => absurd (ho h907) zz)
    refine lv_goto (tgt := 1292) cx.1 cx.2.1 dL_law_921 (by decide) ?_
    exact kk H locs ls hW hS (lv_sub hl [2, 3, 4, 5, 6] rfl)
set_option maxHeartbeats 4000000 in
set_option maxRecDepth 100000 in
theorem lw_c_called (l : Launch) {zp : Program} {ze : Env} {zs : State} {zm : MethodId} {zb : List Frame} {zt : Method} {zc : Code} {w : Gh_} {b L t cells slots : Nat} {xs : Nat → Int32} {H : Heap} {locs : List Loc} {ls : Array Slot} {Q : State → Prop} {a a1 a2 : St_} {kc : Int32} {r : Int64} (cx : Cx_ zp zs zm zc #[Value.ref b] cL_law 8 "MarginHouseLaw" w) (hX : va_X b L xs zs zs.heap) (hbl : b < zs.heap.size) (hbA : ¬ lo_ w ≤ b) (hL : L ≤ 3072) (ht : 6 * t + 6 ≤ L) (hfc : cells + 1 ≤ 647880) (hfs : slots + 6 ≤ 7152463) (hC : Fn_ l w yL_called (.codeWith yL_called cL_called 4 (some .int) [(0, 8, 11, 13)]) { frames := 8, cells := 1, slots := 6, locals := 131 } 1 6 [.ref (ad_ w 0 0), .int (xs (6 * t + 1)), .ref (ad_ w 40 0)] a (.inl (some (.int kc))) a1) (hM : Fn_ l w yX5_called (.code yX5_called cX5_called 2 (some .long)) { frames := 2, cells := 0, slots := 0, locals := 50 } 0 0 [.ref (ad_ w 20 0), .int (xs (6 * t + 1))] a1 (.inl (some (.long r))) a2) (hth : gi_ a2 20 0 0 = kc) (ho : kc = 0 → gl_ a2 40 0 0 = r) (hW : Hd_ w a H) (hS : Fr_ w zs.heap H locs) (hl : lv_has ls 8 [(0, .ref b), (1, .ref (ad_ w 0 0)), (2, .ref (ad_ w 20 0)), (3, .ref (ad_ w 40 0)), (4, .int (nI (6 * t)))])
    (kk : ∀ (H : Heap) (locs : List Loc) (ls : Array Slot), Hd_ w a2 H → Fr_ w zs.heap H locs → lv_has ls 8 [(0, .ref b), (1, .ref (ad_ w 0 0)), (2, .ref (ad_ w 20 0)), (3, .ref (ad_ w 40 0)), (4, .int (nI (6 * t)))] → W zp l ze room_1 zs zm #[Value.ref b] zb zt zc H locs (cells + 1) (slots + 6) Q (F0 zm 1292 ls [])) : W zp l ze room_1 zs zm #[Value.ref b] zb zt zc H locs cells slots Q (F0 zm 924 ls []) := by
  have hI := cx.2.2.2.2.2.2.1
  refine lv_aload_n cx.1 cx.2.1 dL_law_924 rfl (lv_at hl 1 rfl) ?_
  refine lv_aload_n cx.1 cx.2.1 dL_law_925 rfl (lv_at hl 0 rfl) ?_
  refine lv_iload cx.1 cx.2.1 dL_law_926 (lv_at hl 4 rfl) ?_
  refine lv_iconst (v := 1) cx.1 cx.2.1 dL_law_928 (by decide) ?_
  refine lv_iadd cx.1 cx.2.1 dL_law_929 ?_
  refine sc_ld (j := 6 * t + 1) cx hX hbl hbA hS (by rw [show (1 : Int32) = nI 1 by decide +kernel, nI_add]) (by omega) (by omega) dL_law_930 ?_
  refine lv_aload_n cx.1 cx.2.1 dL_law_931 rfl (lv_at hl 3 rfl) ?_
  refine ck_H (v := some (.int kc)) (As := [.ref (ad_ w 0 0), .int (xs (6 * t + 1)), .ref (ad_ w 40 0)]) (rest := []) cx hW hS hl (hC) cw_L_called nw_236 nw_235 rfl rfl (Nat.le_of_ble_eq_true rfl) rfl rfl ⟨Nat.le_of_ble_eq_true rfl, Nat.le_of_ble_eq_true rfl⟩ ⟨hfc, hfs⟩ dL_law_932 (fun H locs hW hS => ?_)
  refine W.eq (g2 := F0 zm 935 ls [.int kc]) rfl ?_
  refine lv_istore (lv' := [(5, .int kc), (0, .ref b), (1, .ref (ad_ w 0 0)), (2, .ref (ad_ w 20 0)), (3, .ref (ad_ w 40 0)), (4, .int (nI (6 * t)))]) cx.1 cx.2.1 dL_law_935 hl (by decide) rfl (fun ls hl => ?_)
  refine lv_aload_n cx.1 cx.2.1 dL_law_937 rfl (lv_at hl 3 rfl) ?_
  refine lv_aload_n cx.1 cx.2.1 dL_law_938 rfl (lv_at hl 1 rfl) ?_
  refine lv_iload cx.1 cx.2.1 dL_law_939 (lv_at hl 5 rfl) ?_
  refine lv_iconst (v := 1) cx.1 cx.2.1 dL_law_941 (by decide) ?_
  refine lv_iadd cx.1 cx.2.1 dL_law_942 ?_
  refine sc_ld (j := 6 * t + 1) cx hX hbl hbA hS (by rw [show (1 : Int32) = nI 1 by decide +kernel, nI_add]) (by omega) (by omega) dL_law_943 ?_
  refine ck_V (v := some (.long r)) (As := [.int (xs (6 * t + 1))]) (rest := []) (k := 20) (i := 0) (T := TX5) cx hW hS hl (by decide) rfl rfl (hM) cw_X5_called nw_465 nw_466 nw_464 rfl rfl (Nat.le_of_ble_eq_true rfl) rfl rfl ⟨Nat.le_of_ble_eq_true rfl, Nat.le_of_ble_eq_true rfl⟩ ⟨hfc, hfs⟩ dL_law_944 (fun H locs hW hS => ?_)
  refine W.eq (g2 := F0 zm 947 ls [.long r]) rfl ?_
  refine lv_lstore (lv' := [(6, .long r), (5, .int kc), (0, .ref b), (1, .ref (ad_ w 0 0)), (2, .ref (ad_ w 20 0)), (3, .ref (ad_ w 40 0)), (4, .int (nI (6 * t)))]) cx.1 cx.2.1 dL_law_947 hl (by decide) rfl (fun ls hl => ?_)
  refine lv_aload_n cx.1 cx.2.1 dL_law_949 rfl (lv_at hl 4 rfl) ?_
  refine ck_V (v := some (.int (gi_ a2 20 0 0))) (As := []) (rest := []) (k := 20) (i := 0) (T := TX5) cx hW hS hl (by decide) rfl rfl (c_X5_thrown l hI a2) cw_X5_thrown nw_397 nw_398 nw_396 rfl rfl (Nat.le_of_ble_eq_true rfl) rfl rfl ⟨Nat.le_of_ble_eq_true rfl, Nat.le_of_ble_eq_true rfl⟩ ⟨hfc, hfs⟩ dL_law_950 (fun H locs hW hS => ?_)
  refine W.eq (g2 := F0 zm 953 ls [.int (gi_ a2 20 0 0)]) rfl ?_
  refine lv_iload cx.1 cx.2.1 dL_law_953 (lv_at hl 1 rfl) ?_
  refine lv_icmp_eq (tgt := 960) cx.1 cx.2.1 dL_law_955 (by decide) (fun h955 => ?_) (fun zz => absurd hth zz)
  refine lv_iload cx.1 cx.2.1 dL_law_960 (lv_at hl 1 rfl) ?_
  refine lv_if_ne (tgt := 976) cx.1 cx.2.1 dL_law_962 (by decide) (fun h962 => ?_) (fun h962 => ?_)
  · skip
    refine lv_goto (tgt := 1292) cx.1 cx.2.1 dL_law_976 (by decide) ?_
    exact kk H locs ls hW hS (lv_sub hl [2, 3, 4, 5, 6] rfl)
  · skip
    refine lv_aload_n cx.1 cx.2.1 dL_law_965 rfl (lv_at hl 5 rfl) ?_
    refine lv_iconst (v := 0) cx.1 cx.2.1 dL_law_966 (by decide) ?_
    refine al_40 (j := 0) cx hW (by decide) (by decide +kernel) (by decide) dL_law_967 ?_
    refine lv_lload cx.1 cx.2.1 dL_law_968 (lv_at hl 0 rfl) ?_
    refine lc_eq (tgt := 976) cx.1 cx.2.1 dL_law_970 dL_law_971 (by decide) (fun h970 => ?_) (fun zz => absurd (ho h962) zz)
    refine lv_goto (tgt := 1292) cx.1 cx.2.1 dL_law_976 (by decide) ?_
    exact kk H locs ls hW hS (lv_sub hl [2, 3, 4, 5, 6] rfl)
set_option maxHeartbeats 4000000 in
set_option maxRecDepth 100000 in
theorem lw_c_declare (l : Launch) {zp : Program} {ze : Env} {zs : State} {zm : MethodId} {zb : List Frame} {zt : Method} {zc : Code} {w : Gh_} {b L t cells slots : Nat} {xs : Nat → Int32} {H : Heap} {locs : List Loc} {ls : Array Slot} {Q : State → Prop} {a a1 a2 : St_} {r : Int32} (cx : Cx_ zp zs zm zc #[Value.ref b] cL_law 8 "MarginHouseLaw" w) (hX : va_X b L xs zs zs.heap) (hbl : b < zs.heap.size) (hbA : ¬ lo_ w ≤ b) (hL : L ≤ 3072) (ht : 6 * t + 6 ≤ L) (hfc : cells ≤ 647880) (hfs : slots ≤ 7152463) (hC : Fn_ l w yX4_declare (.code yX4_declare cX4_declare 3 (some .int)) { frames := 4, cells := 0, slots := 0, locals := 93 } 0 0 [.ref (ad_ w 0 0)] a (.inl (some (.int r))) a1) (hM : Fn_ l w yX5_declare (.code yX5_declare cX5_declare 3 (some .int)) { frames := 2, cells := 0, slots := 0, locals := 50 } 0 0 [.ref (ad_ w 20 0)] a1 (.inl (some (.int r))) a2) (hW : Hd_ w a H) (hS : Fr_ w zs.heap H locs) (hl : lv_has ls 8 [(0, .ref b), (1, .ref (ad_ w 0 0)), (2, .ref (ad_ w 20 0)), (3, .ref (ad_ w 40 0)), (4, .int (nI (6 * t)))])
    (kk : ∀ (H : Heap) (locs : List Loc) (ls : Array Slot), Hd_ w a2 H → Fr_ w zs.heap H locs → lv_has ls 8 [(0, .ref b), (1, .ref (ad_ w 0 0)), (2, .ref (ad_ w 20 0)), (3, .ref (ad_ w 40 0)), (4, .int (nI (6 * t)))] → W zp l ze room_1 zs zm #[Value.ref b] zb zt zc H locs cells slots Q (F0 zm 1292 ls [])) : W zp l ze room_1 zs zm #[Value.ref b] zb zt zc H locs cells slots Q (F0 zm 979 ls []) := by
  have hI := cx.2.2.2.2.2.2.1
  refine lv_aload_n cx.1 cx.2.1 dL_law_979 rfl (lv_at hl 1 rfl) ?_
  refine ck_V (v := some (.int r)) (As := []) (rest := []) (k := 0) (i := 0) (T := TX4) cx hW hS hl (by decide) rfl rfl (hC) cw_X4_declare nw_89 nw_90 nw_88 rfl rfl (Nat.le_of_ble_eq_true rfl) rfl rfl ⟨Nat.le_of_ble_eq_true rfl, Nat.le_of_ble_eq_true rfl⟩ ⟨hfc, hfs⟩ dL_law_980 (fun H locs hW hS => ?_)
  refine W.eq (g2 := F0 zm 983 ls [.int r]) rfl ?_
  refine lv_aload_n cx.1 cx.2.1 dL_law_983 rfl (lv_at hl 2 rfl) ?_
  refine ck_V (v := some (.int r)) (As := []) (rest := [.int r]) (k := 20) (i := 0) (T := TX5) cx hW hS hl (by decide) rfl rfl (hM) cw_X5_declare nw_472 nw_473 nw_471 rfl rfl (Nat.le_of_ble_eq_true rfl) rfl rfl ⟨Nat.le_of_ble_eq_true rfl, Nat.le_of_ble_eq_true rfl⟩ ⟨hfc, hfs⟩ dL_law_984 (fun H locs hW hS => ?_)
  refine W.eq (g2 := F0 zm 987 ls [.int r, .int r]) rfl ?_
  refine lv_icmp_eq (tgt := 1292) cx.1 cx.2.1 dL_law_987 (by decide) (fun h987 => ?_) (fun zz => absurd rfl zz)
  exact kk H locs ls hW hS (lv_sub hl [0, 1, 2, 3, 4] rfl)
set_option maxHeartbeats 4000000 in
set_option maxRecDepth 100000 in
theorem lw_c_closeOut (l : Launch) {zp : Program} {ze : Env} {zs : State} {zm : MethodId} {zb : List Frame} {zt : Method} {zc : Code} {w : Gh_} {b L t cells slots : Nat} {xs : Nat → Int32} {H : Heap} {locs : List Loc} {ls : Array Slot} {Q : State → Prop} {a a1 a2 : St_} {kc : Int32} {r : Int64} (cx : Cx_ zp zs zm zc #[Value.ref b] cL_law 8 "MarginHouseLaw" w) (hX : va_X b L xs zs zs.heap) (hbl : b < zs.heap.size) (hbA : ¬ lo_ w ≤ b) (hL : L ≤ 3072) (ht : 6 * t + 6 ≤ L) (hfc : cells + 1 ≤ 647880) (hfs : slots + 6 ≤ 7152463) (hC : Fn_ l w yL_closeOut (.codeWith yL_closeOut cL_closeOut 4 (some .int) [(0, 8, 11, 13), (0, 8, 14, 34)]) { frames := 8, cells := 1, slots := 6, locals := 149 } 1 6 [.ref (ad_ w 0 0), .int (xs (6 * t + 1)), .ref (ad_ w 40 0)] a (.inl (some (.int kc))) a1) (hM : Fn_ l w yX5_closeOut (.code yX5_closeOut cX5_closeOut 5 (some .long)) { frames := 3, cells := 0, slots := 0, locals := 84 } 0 0 [.ref (ad_ w 20 0), .int (xs (6 * t + 1))] a1 (.inl (some (.long r))) a2) (hth : gi_ a2 20 0 0 = kc) (ho : kc = 0 → gl_ a2 40 0 0 = r) (hW : Hd_ w a H) (hS : Fr_ w zs.heap H locs) (hl : lv_has ls 8 [(0, .ref b), (1, .ref (ad_ w 0 0)), (2, .ref (ad_ w 20 0)), (3, .ref (ad_ w 40 0)), (4, .int (nI (6 * t)))])
    (kk : ∀ (H : Heap) (locs : List Loc) (ls : Array Slot), Hd_ w a2 H → Fr_ w zs.heap H locs → lv_has ls 8 [(0, .ref b), (1, .ref (ad_ w 0 0)), (2, .ref (ad_ w 20 0)), (3, .ref (ad_ w 40 0)), (4, .int (nI (6 * t)))] → W zp l ze room_1 zs zm #[Value.ref b] zb zt zc H locs (cells + 1) (slots + 6) Q (F0 zm 1292 ls [])) : W zp l ze room_1 zs zm #[Value.ref b] zb zt zc H locs cells slots Q (F0 zm 992 ls []) := by
  have hI := cx.2.2.2.2.2.2.1
  refine lv_aload_n cx.1 cx.2.1 dL_law_992 rfl (lv_at hl 1 rfl) ?_
  refine lv_aload_n cx.1 cx.2.1 dL_law_993 rfl (lv_at hl 0 rfl) ?_
  refine lv_iload cx.1 cx.2.1 dL_law_994 (lv_at hl 4 rfl) ?_
  refine lv_iconst (v := 1) cx.1 cx.2.1 dL_law_996 (by decide) ?_
  refine lv_iadd cx.1 cx.2.1 dL_law_997 ?_
  refine sc_ld (j := 6 * t + 1) cx hX hbl hbA hS (by rw [show (1 : Int32) = nI 1 by decide +kernel, nI_add]) (by omega) (by omega) dL_law_998 ?_
  refine lv_aload_n cx.1 cx.2.1 dL_law_999 rfl (lv_at hl 3 rfl) ?_
  refine ck_H (v := some (.int kc)) (As := [.ref (ad_ w 0 0), .int (xs (6 * t + 1)), .ref (ad_ w 40 0)]) (rest := []) cx hW hS hl (hC) cw_L_closeOut nw_243 nw_242 rfl rfl (Nat.le_of_ble_eq_true rfl) rfl rfl ⟨Nat.le_of_ble_eq_true rfl, Nat.le_of_ble_eq_true rfl⟩ ⟨hfc, hfs⟩ dL_law_1000 (fun H locs hW hS => ?_)
  refine W.eq (g2 := F0 zm 1003 ls [.int kc]) rfl ?_
  refine lv_istore (lv' := [(5, .int kc), (0, .ref b), (1, .ref (ad_ w 0 0)), (2, .ref (ad_ w 20 0)), (3, .ref (ad_ w 40 0)), (4, .int (nI (6 * t)))]) cx.1 cx.2.1 dL_law_1003 hl (by decide) rfl (fun ls hl => ?_)
  refine lv_aload_n cx.1 cx.2.1 dL_law_1005 rfl (lv_at hl 3 rfl) ?_
  refine lv_aload_n cx.1 cx.2.1 dL_law_1006 rfl (lv_at hl 1 rfl) ?_
  refine lv_iload cx.1 cx.2.1 dL_law_1007 (lv_at hl 5 rfl) ?_
  refine lv_iconst (v := 1) cx.1 cx.2.1 dL_law_1009 (by decide) ?_
  refine lv_iadd cx.1 cx.2.1 dL_law_1010 ?_
  refine sc_ld (j := 6 * t + 1) cx hX hbl hbA hS (by rw [show (1 : Int32) = nI 1 by decide +kernel, nI_add]) (by omega) (by omega) dL_law_1011 ?_
  refine ck_V (v := some (.long r)) (As := [.int (xs (6 * t + 1))]) (rest := []) (k := 20) (i := 0) (T := TX5) cx hW hS hl (by decide) rfl rfl (hM) cw_X5_closeOut nw_476 nw_477 nw_475 rfl rfl (Nat.le_of_ble_eq_true rfl) rfl rfl ⟨Nat.le_of_ble_eq_true rfl, Nat.le_of_ble_eq_true rfl⟩ ⟨hfc, hfs⟩ dL_law_1012 (fun H locs hW hS => ?_)
  refine W.eq (g2 := F0 zm 1015 ls [.long r]) rfl ?_
  refine lv_lstore (lv' := [(6, .long r), (5, .int kc), (0, .ref b), (1, .ref (ad_ w 0 0)), (2, .ref (ad_ w 20 0)), (3, .ref (ad_ w 40 0)), (4, .int (nI (6 * t)))]) cx.1 cx.2.1 dL_law_1015 hl (by decide) rfl (fun ls hl => ?_)
  refine lv_aload_n cx.1 cx.2.1 dL_law_1017 rfl (lv_at hl 4 rfl) ?_
  refine ck_V (v := some (.int (gi_ a2 20 0 0))) (As := []) (rest := []) (k := 20) (i := 0) (T := TX5) cx hW hS hl (by decide) rfl rfl (c_X5_thrown l hI a2) cw_X5_thrown nw_397 nw_398 nw_396 rfl rfl (Nat.le_of_ble_eq_true rfl) rfl rfl ⟨Nat.le_of_ble_eq_true rfl, Nat.le_of_ble_eq_true rfl⟩ ⟨hfc, hfs⟩ dL_law_1018 (fun H locs hW hS => ?_)
  refine W.eq (g2 := F0 zm 1021 ls [.int (gi_ a2 20 0 0)]) rfl ?_
  refine lv_iload cx.1 cx.2.1 dL_law_1021 (lv_at hl 1 rfl) ?_
  refine lv_icmp_eq (tgt := 1028) cx.1 cx.2.1 dL_law_1023 (by decide) (fun h1023 => ?_) (fun zz => absurd hth zz)
  refine lv_iload cx.1 cx.2.1 dL_law_1028 (lv_at hl 1 rfl) ?_
  refine lv_if_ne (tgt := 1044) cx.1 cx.2.1 dL_law_1030 (by decide) (fun h1030 => ?_) (fun h1030 => ?_)
  · skip
    refine lv_goto (tgt := 1292) cx.1 cx.2.1 dL_law_1044 (by decide) ?_
    exact kk H locs ls hW hS (lv_sub hl [2, 3, 4, 5, 6] rfl)
  · skip
    refine lv_aload_n cx.1 cx.2.1 dL_law_1033 rfl (lv_at hl 5 rfl) ?_
    refine lv_iconst (v := 0) cx.1 cx.2.1 dL_law_1034 (by decide) ?_
    refine al_40 (j := 0) cx hW (by decide) (by decide +kernel) (by decide) dL_law_1035 ?_
    refine lv_lload cx.1 cx.2.1 dL_law_1036 (lv_at hl 0 rfl) ?_
    refine lc_eq (tgt := 1044) cx.1 cx.2.1 dL_law_1038 dL_law_1039 (by decide) (fun h1038 => ?_) (fun zz => absurd (ho h1030) zz)
    refine lv_goto (tgt := 1292) cx.1 cx.2.1 dL_law_1044 (by decide) ?_
    exact kk H locs ls hW hS (lv_sub hl [2, 3, 4, 5, 6] rfl)
set_option maxHeartbeats 4000000 in
set_option maxRecDepth 100000 in
theorem lw_c_told (l : Launch) {zp : Program} {ze : Env} {zs : State} {zm : MethodId} {zb : List Frame} {zt : Method} {zc : Code} {w : Gh_} {b L t cells slots : Nat} {xs : Nat → Int32} {H : Heap} {locs : List Loc} {ls : Array Slot} {Q : State → Prop} {a a1 a2 : St_} {kc : Int32} {r : Int64} (cx : Cx_ zp zs zm zc #[Value.ref b] cL_law 8 "MarginHouseLaw" w) (hX : va_X b L xs zs zs.heap) (hbl : b < zs.heap.size) (hbA : ¬ lo_ w ≤ b) (hL : L ≤ 3072) (ht : 6 * t + 6 ≤ L) (hfc : cells + 1 ≤ 647880) (hfs : slots + 6 ≤ 7152463) (hC : Fn_ l w yL_told (.codeWith yL_told cL_told 5 (some .int) [(0, 9, 12, 13)]) { frames := 8, cells := 1, slots := 6, locals := 132 } 1 6 [.ref (ad_ w 0 0), .int (xs (6 * t + 1)), .int (xs (6 * t + 2)), .ref (ad_ w 40 0)] a (.inl (some (.int kc))) a1) (hM : Fn_ l w yX5_told (.code yX5_told cX5_told 3 (some .long)) { frames := 1, cells := 0, slots := 0, locals := 21 } 0 0 [.ref (ad_ w 20 0), .int (xs (6 * t + 1)), .int (xs (6 * t + 2))] a1 (.inl (some (.long r))) a2) (hth : gi_ a2 20 0 0 = kc) (ho : kc = 0 → gl_ a2 40 0 0 = r) (hW : Hd_ w a H) (hS : Fr_ w zs.heap H locs) (hl : lv_has ls 8 [(0, .ref b), (1, .ref (ad_ w 0 0)), (2, .ref (ad_ w 20 0)), (3, .ref (ad_ w 40 0)), (4, .int (nI (6 * t)))])
    (kk : ∀ (H : Heap) (locs : List Loc) (ls : Array Slot), Hd_ w a2 H → Fr_ w zs.heap H locs → lv_has ls 8 [(0, .ref b), (1, .ref (ad_ w 0 0)), (2, .ref (ad_ w 20 0)), (3, .ref (ad_ w 40 0)), (4, .int (nI (6 * t)))] → W zp l ze room_1 zs zm #[Value.ref b] zb zt zc H locs (cells + 1) (slots + 6) Q (F0 zm 1292 ls [])) : W zp l ze room_1 zs zm #[Value.ref b] zb zt zc H locs cells slots Q (F0 zm 1047 ls []) := by
  have hI := cx.2.2.2.2.2.2.1
  refine lv_aload_n cx.1 cx.2.1 dL_law_1047 rfl (lv_at hl 1 rfl) ?_
  refine lv_aload_n cx.1 cx.2.1 dL_law_1048 rfl (lv_at hl 0 rfl) ?_
  refine lv_iload cx.1 cx.2.1 dL_law_1049 (lv_at hl 4 rfl) ?_
  refine lv_iconst (v := 1) cx.1 cx.2.1 dL_law_1051 (by decide) ?_
  refine lv_iadd cx.1 cx.2.1 dL_law_1052 ?_
  refine sc_ld (j := 6 * t + 1) cx hX hbl hbA hS (by rw [show (1 : Int32) = nI 1 by decide +kernel, nI_add]) (by omega) (by omega) dL_law_1053 ?_
  refine lv_aload_n cx.1 cx.2.1 dL_law_1054 rfl (lv_at hl 0 rfl) ?_
  refine lv_iload cx.1 cx.2.1 dL_law_1055 (lv_at hl 4 rfl) ?_
  refine lv_iconst (v := 2) cx.1 cx.2.1 dL_law_1057 (by decide) ?_
  refine lv_iadd cx.1 cx.2.1 dL_law_1058 ?_
  refine sc_ld (j := 6 * t + 2) cx hX hbl hbA hS (by rw [show (2 : Int32) = nI 2 by decide +kernel, nI_add]) (by omega) (by omega) dL_law_1059 ?_
  refine lv_aload_n cx.1 cx.2.1 dL_law_1060 rfl (lv_at hl 3 rfl) ?_
  refine ck_H (v := some (.int kc)) (As := [.ref (ad_ w 0 0), .int (xs (6 * t + 1)), .int (xs (6 * t + 2)), .ref (ad_ w 40 0)]) (rest := []) cx hW hS hl (hC) cw_L_told nw_324 nw_323 rfl rfl (Nat.le_of_ble_eq_true rfl) rfl rfl ⟨Nat.le_of_ble_eq_true rfl, Nat.le_of_ble_eq_true rfl⟩ ⟨hfc, hfs⟩ dL_law_1061 (fun H locs hW hS => ?_)
  refine W.eq (g2 := F0 zm 1064 ls [.int kc]) rfl ?_
  refine lv_istore (lv' := [(5, .int kc), (0, .ref b), (1, .ref (ad_ w 0 0)), (2, .ref (ad_ w 20 0)), (3, .ref (ad_ w 40 0)), (4, .int (nI (6 * t)))]) cx.1 cx.2.1 dL_law_1064 hl (by decide) rfl (fun ls hl => ?_)
  refine lv_aload_n cx.1 cx.2.1 dL_law_1066 rfl (lv_at hl 3 rfl) ?_
  refine lv_aload_n cx.1 cx.2.1 dL_law_1067 rfl (lv_at hl 1 rfl) ?_
  refine lv_iload cx.1 cx.2.1 dL_law_1068 (lv_at hl 5 rfl) ?_
  refine lv_iconst (v := 1) cx.1 cx.2.1 dL_law_1070 (by decide) ?_
  refine lv_iadd cx.1 cx.2.1 dL_law_1071 ?_
  refine sc_ld (j := 6 * t + 1) cx hX hbl hbA hS (by rw [show (1 : Int32) = nI 1 by decide +kernel, nI_add]) (by omega) (by omega) dL_law_1072 ?_
  refine lv_aload_n cx.1 cx.2.1 dL_law_1073 rfl (lv_at hl 1 rfl) ?_
  refine lv_iload cx.1 cx.2.1 dL_law_1074 (lv_at hl 5 rfl) ?_
  refine lv_iconst (v := 2) cx.1 cx.2.1 dL_law_1076 (by decide) ?_
  refine lv_iadd cx.1 cx.2.1 dL_law_1077 ?_
  refine sc_ld (j := 6 * t + 2) cx hX hbl hbA hS (by rw [show (2 : Int32) = nI 2 by decide +kernel, nI_add]) (by omega) (by omega) dL_law_1078 ?_
  refine ck_V (v := some (.long r)) (As := [.int (xs (6 * t + 1)), .int (xs (6 * t + 2))]) (rest := []) (k := 20) (i := 0) (T := TX5) cx hW hS hl (by decide) rfl rfl (hM) cw_X5_told nw_502 nw_503 nw_501 rfl rfl (Nat.le_of_ble_eq_true rfl) rfl rfl ⟨Nat.le_of_ble_eq_true rfl, Nat.le_of_ble_eq_true rfl⟩ ⟨hfc, hfs⟩ dL_law_1079 (fun H locs hW hS => ?_)
  refine W.eq (g2 := F0 zm 1082 ls [.long r]) rfl ?_
  refine lv_lstore (lv' := [(6, .long r), (5, .int kc), (0, .ref b), (1, .ref (ad_ w 0 0)), (2, .ref (ad_ w 20 0)), (3, .ref (ad_ w 40 0)), (4, .int (nI (6 * t)))]) cx.1 cx.2.1 dL_law_1082 hl (by decide) rfl (fun ls hl => ?_)
  refine lv_aload_n cx.1 cx.2.1 dL_law_1084 rfl (lv_at hl 4 rfl) ?_
  refine ck_V (v := some (.int (gi_ a2 20 0 0))) (As := []) (rest := []) (k := 20) (i := 0) (T := TX5) cx hW hS hl (by decide) rfl rfl (c_X5_thrown l hI a2) cw_X5_thrown nw_397 nw_398 nw_396 rfl rfl (Nat.le_of_ble_eq_true rfl) rfl rfl ⟨Nat.le_of_ble_eq_true rfl, Nat.le_of_ble_eq_true rfl⟩ ⟨hfc, hfs⟩ dL_law_1085 (fun H locs hW hS => ?_)
  refine W.eq (g2 := F0 zm 1088 ls [.int (gi_ a2 20 0 0)]) rfl ?_
  refine lv_iload cx.1 cx.2.1 dL_law_1088 (lv_at hl 1 rfl) ?_
  refine lv_icmp_eq (tgt := 1095) cx.1 cx.2.1 dL_law_1090 (by decide) (fun h1090 => ?_) (fun zz => absurd hth zz)
  refine lv_iload cx.1 cx.2.1 dL_law_1095 (lv_at hl 1 rfl) ?_
  refine lv_if_ne (tgt := 1111) cx.1 cx.2.1 dL_law_1097 (by decide) (fun h1097 => ?_) (fun h1097 => ?_)
  · skip
    refine lv_goto (tgt := 1292) cx.1 cx.2.1 dL_law_1111 (by decide) ?_
    exact kk H locs ls hW hS (lv_sub hl [2, 3, 4, 5, 6] rfl)
  · skip
    refine lv_aload_n cx.1 cx.2.1 dL_law_1100 rfl (lv_at hl 5 rfl) ?_
    refine lv_iconst (v := 0) cx.1 cx.2.1 dL_law_1101 (by decide) ?_
    refine al_40 (j := 0) cx hW (by decide) (by decide +kernel) (by decide) dL_law_1102 ?_
    refine lv_lload cx.1 cx.2.1 dL_law_1103 (lv_at hl 0 rfl) ?_
    refine lc_eq (tgt := 1111) cx.1 cx.2.1 dL_law_1105 dL_law_1106 (by decide) (fun h1105 => ?_) (fun zz => absurd (ho h1097) zz)
    refine lv_goto (tgt := 1292) cx.1 cx.2.1 dL_law_1111 (by decide) ?_
    exact kk H locs ls hW hS (lv_sub hl [2, 3, 4, 5, 6] rfl)
set_option maxHeartbeats 4000000 in
set_option maxRecDepth 100000 in
theorem lw_c_position (l : Launch) {zp : Program} {ze : Env} {zs : State} {zm : MethodId} {zb : List Frame} {zt : Method} {zc : Code} {w : Gh_} {b L t cells slots : Nat} {xs : Nat → Int32} {H : Heap} {locs : List Loc} {ls : Array Slot} {Q : State → Prop} {a a1 a2 : St_} {kc : Int32} {r : Int32} (cx : Cx_ zp zs zm zc #[Value.ref b] cL_law 8 "MarginHouseLaw" w) (hX : va_X b L xs zs zs.heap) (hbl : b < zs.heap.size) (hbA : ¬ lo_ w ≤ b) (hL : L ≤ 3072) (ht : 6 * t + 6 ≤ L) (hfc : cells + 1 ≤ 647880) (hfs : slots + 6 ≤ 7152463) (hC : Fn_ l w yL_position (.codeWith yL_position cL_position 5 (some .int) [(0, 10, 13, 13)]) { frames := 8, cells := 1, slots := 6, locals := 132 } 1 6 [.ref (ad_ w 0 0), .int (xs (6 * t + 1)), .int (xs (6 * t + 2)), .ref (ad_ w 40 0)] a (.inl (some (.int kc))) a1) (hM : Fn_ l w yX5_position (.code yX5_position cX5_position 3 (some .int)) { frames := 1, cells := 0, slots := 0, locals := 21 } 0 0 [.ref (ad_ w 20 0), .int (xs (6 * t + 1)), .int (xs (6 * t + 2))] a1 (.inl (some (.int r))) a2) (hth : gi_ a2 20 0 0 = kc) (ho : kc = 0 → gl_ a2 40 0 0 = r.toInt64) (hW : Hd_ w a H) (hS : Fr_ w zs.heap H locs) (hl : lv_has ls 8 [(0, .ref b), (1, .ref (ad_ w 0 0)), (2, .ref (ad_ w 20 0)), (3, .ref (ad_ w 40 0)), (4, .int (nI (6 * t)))])
    (kk : ∀ (H : Heap) (locs : List Loc) (ls : Array Slot), Hd_ w a2 H → Fr_ w zs.heap H locs → lv_has ls 8 [(0, .ref b), (1, .ref (ad_ w 0 0)), (2, .ref (ad_ w 20 0)), (3, .ref (ad_ w 40 0)), (4, .int (nI (6 * t)))] → W zp l ze room_1 zs zm #[Value.ref b] zb zt zc H locs (cells + 1) (slots + 6) Q (F0 zm 1292 ls [])) : W zp l ze room_1 zs zm #[Value.ref b] zb zt zc H locs cells slots Q (F0 zm 1114 ls []) := by
  have hI := cx.2.2.2.2.2.2.1
  refine lv_aload_n cx.1 cx.2.1 dL_law_1114 rfl (lv_at hl 1 rfl) ?_
  refine lv_aload_n cx.1 cx.2.1 dL_law_1115 rfl (lv_at hl 0 rfl) ?_
  refine lv_iload cx.1 cx.2.1 dL_law_1116 (lv_at hl 4 rfl) ?_
  refine lv_iconst (v := 1) cx.1 cx.2.1 dL_law_1118 (by decide) ?_
  refine lv_iadd cx.1 cx.2.1 dL_law_1119 ?_
  refine sc_ld (j := 6 * t + 1) cx hX hbl hbA hS (by rw [show (1 : Int32) = nI 1 by decide +kernel, nI_add]) (by omega) (by omega) dL_law_1120 ?_
  refine lv_aload_n cx.1 cx.2.1 dL_law_1121 rfl (lv_at hl 0 rfl) ?_
  refine lv_iload cx.1 cx.2.1 dL_law_1122 (lv_at hl 4 rfl) ?_
  refine lv_iconst (v := 2) cx.1 cx.2.1 dL_law_1124 (by decide) ?_
  refine lv_iadd cx.1 cx.2.1 dL_law_1125 ?_
  refine sc_ld (j := 6 * t + 2) cx hX hbl hbA hS (by rw [show (2 : Int32) = nI 2 by decide +kernel, nI_add]) (by omega) (by omega) dL_law_1126 ?_
  refine lv_aload_n cx.1 cx.2.1 dL_law_1127 rfl (lv_at hl 3 rfl) ?_
  refine ck_H (v := some (.int kc)) (As := [.ref (ad_ w 0 0), .int (xs (6 * t + 1)), .int (xs (6 * t + 2)), .ref (ad_ w 40 0)]) (rest := []) cx hW hS hl (hC) cw_L_position nw_332 nw_331 rfl rfl (Nat.le_of_ble_eq_true rfl) rfl rfl ⟨Nat.le_of_ble_eq_true rfl, Nat.le_of_ble_eq_true rfl⟩ ⟨hfc, hfs⟩ dL_law_1128 (fun H locs hW hS => ?_)
  refine W.eq (g2 := F0 zm 1131 ls [.int kc]) rfl ?_
  refine lv_istore (lv' := [(5, .int kc), (0, .ref b), (1, .ref (ad_ w 0 0)), (2, .ref (ad_ w 20 0)), (3, .ref (ad_ w 40 0)), (4, .int (nI (6 * t)))]) cx.1 cx.2.1 dL_law_1131 hl (by decide) rfl (fun ls hl => ?_)
  refine lv_aload_n cx.1 cx.2.1 dL_law_1133 rfl (lv_at hl 3 rfl) ?_
  refine lv_aload_n cx.1 cx.2.1 dL_law_1134 rfl (lv_at hl 1 rfl) ?_
  refine lv_iload cx.1 cx.2.1 dL_law_1135 (lv_at hl 5 rfl) ?_
  refine lv_iconst (v := 1) cx.1 cx.2.1 dL_law_1137 (by decide) ?_
  refine lv_iadd cx.1 cx.2.1 dL_law_1138 ?_
  refine sc_ld (j := 6 * t + 1) cx hX hbl hbA hS (by rw [show (1 : Int32) = nI 1 by decide +kernel, nI_add]) (by omega) (by omega) dL_law_1139 ?_
  refine lv_aload_n cx.1 cx.2.1 dL_law_1140 rfl (lv_at hl 1 rfl) ?_
  refine lv_iload cx.1 cx.2.1 dL_law_1141 (lv_at hl 5 rfl) ?_
  refine lv_iconst (v := 2) cx.1 cx.2.1 dL_law_1143 (by decide) ?_
  refine lv_iadd cx.1 cx.2.1 dL_law_1144 ?_
  refine sc_ld (j := 6 * t + 2) cx hX hbl hbA hS (by rw [show (2 : Int32) = nI 2 by decide +kernel, nI_add]) (by omega) (by omega) dL_law_1145 ?_
  refine ck_V (v := some (.int r)) (As := [.int (xs (6 * t + 1)), .int (xs (6 * t + 2))]) (rest := []) (k := 20) (i := 0) (T := TX5) cx hW hS hl (by decide) rfl rfl (hM) cw_X5_position nw_506 nw_507 nw_505 rfl rfl (Nat.le_of_ble_eq_true rfl) rfl rfl ⟨Nat.le_of_ble_eq_true rfl, Nat.le_of_ble_eq_true rfl⟩ ⟨hfc, hfs⟩ dL_law_1146 (fun H locs hW hS => ?_)
  refine W.eq (g2 := F0 zm 1149 ls [.int r]) rfl ?_
  refine lv_istore (lv' := [(6, .int r), (5, .int kc), (0, .ref b), (1, .ref (ad_ w 0 0)), (2, .ref (ad_ w 20 0)), (3, .ref (ad_ w 40 0)), (4, .int (nI (6 * t)))]) cx.1 cx.2.1 dL_law_1149 hl (by decide) rfl (fun ls hl => ?_)
  refine lv_aload_n cx.1 cx.2.1 dL_law_1151 rfl (lv_at hl 4 rfl) ?_
  refine ck_V (v := some (.int (gi_ a2 20 0 0))) (As := []) (rest := []) (k := 20) (i := 0) (T := TX5) cx hW hS hl (by decide) rfl rfl (c_X5_thrown l hI a2) cw_X5_thrown nw_397 nw_398 nw_396 rfl rfl (Nat.le_of_ble_eq_true rfl) rfl rfl ⟨Nat.le_of_ble_eq_true rfl, Nat.le_of_ble_eq_true rfl⟩ ⟨hfc, hfs⟩ dL_law_1152 (fun H locs hW hS => ?_)
  refine W.eq (g2 := F0 zm 1155 ls [.int (gi_ a2 20 0 0)]) rfl ?_
  refine lv_iload cx.1 cx.2.1 dL_law_1155 (lv_at hl 1 rfl) ?_
  refine lv_icmp_eq (tgt := 1162) cx.1 cx.2.1 dL_law_1157 (by decide) (fun h1157 => ?_) (fun zz => absurd hth zz)
  refine lv_iload cx.1 cx.2.1 dL_law_1162 (lv_at hl 1 rfl) ?_
  refine lv_if_ne (tgt := 1179) cx.1 cx.2.1 dL_law_1164 (by decide) (fun h1164 => ?_) (fun h1164 => ?_)
  · skip
    refine lv_goto (tgt := 1292) cx.1 cx.2.1 dL_law_1179 (by decide) ?_
    exact kk H locs ls hW hS (lv_sub hl [2, 3, 4, 5, 6] rfl)
  · skip
    refine lv_aload_n cx.1 cx.2.1 dL_law_1167 rfl (lv_at hl 5 rfl) ?_
    refine lv_iconst (v := 0) cx.1 cx.2.1 dL_law_1168 (by decide) ?_
    refine al_40 (j := 0) cx hW (by decide) (by decide +kernel) (by decide) dL_law_1169 ?_
    refine lv_iload cx.1 cx.2.1 dL_law_1170 (lv_at hl 0 rfl) ?_
    refine lv_i2l (v := r.toInt64) cx.1 cx.2.1 dL_law_1172 rfl ?_
    refine lc_eq (tgt := 1179) cx.1 cx.2.1 dL_law_1173 dL_law_1174 (by decide) (fun h1173 => ?_) (fun zz => absurd (ho h1164) zz)
    refine lv_goto (tgt := 1292) cx.1 cx.2.1 dL_law_1179 (by decide) ?_
    exact kk H locs ls hW hS (lv_sub hl [2, 3, 4, 5, 6] rfl)
set_option maxHeartbeats 4000000 in
set_option maxRecDepth 100000 in
theorem lw_c_bore (l : Launch) {zp : Program} {ze : Env} {zs : State} {zm : MethodId} {zb : List Frame} {zt : Method} {zc : Code} {w : Gh_} {b L t cells slots : Nat} {xs : Nat → Int32} {H : Heap} {locs : List Loc} {ls : Array Slot} {Q : State → Prop} {a a1 a2 : St_} {kc : Int32} {r : Int64} (cx : Cx_ zp zs zm zc #[Value.ref b] cL_law 8 "MarginHouseLaw" w) (hX : va_X b L xs zs zs.heap) (hbl : b < zs.heap.size) (hbA : ¬ lo_ w ≤ b) (hL : L ≤ 3072) (ht : 6 * t + 6 ≤ L) (hfc : cells + 1 ≤ 647880) (hfs : slots + 6 ≤ 7152463) (hC : Fn_ l w yL_bore (.codeWith yL_bore cL_bore 4 (some .int) [(0, 8, 11, 13)]) { frames := 8, cells := 1, slots := 6, locals := 131 } 1 6 [.ref (ad_ w 0 0), .int (xs (6 * t + 1)), .ref (ad_ w 40 0)] a (.inl (some (.int kc))) a1) (hM : Fn_ l w yX5_bore (.code yX5_bore cX5_bore 2 (some .long)) { frames := 0, cells := 0, slots := 0, locals := 0 } 0 0 [.ref (ad_ w 20 0), .int (xs (6 * t + 1))] a1 (.inl (some (.long r))) a2) (hth : gi_ a2 20 0 0 = kc) (ho : kc = 0 → gl_ a2 40 0 0 = r) (hW : Hd_ w a H) (hS : Fr_ w zs.heap H locs) (hl : lv_has ls 8 [(0, .ref b), (1, .ref (ad_ w 0 0)), (2, .ref (ad_ w 20 0)), (3, .ref (ad_ w 40 0)), (4, .int (nI (6 * t)))])
    (kk : ∀ (H : Heap) (locs : List Loc) (ls : Array Slot), Hd_ w a2 H → Fr_ w zs.heap H locs → lv_has ls 8 [(0, .ref b), (1, .ref (ad_ w 0 0)), (2, .ref (ad_ w 20 0)), (3, .ref (ad_ w 40 0)), (4, .int (nI (6 * t)))] → W zp l ze room_1 zs zm #[Value.ref b] zb zt zc H locs (cells + 1) (slots + 6) Q (F0 zm 1292 ls [])) : W zp l ze room_1 zs zm #[Value.ref b] zb zt zc H locs cells slots Q (F0 zm 1182 ls []) := by
  have hI := cx.2.2.2.2.2.2.1
  refine lv_aload_n cx.1 cx.2.1 dL_law_1182 rfl (lv_at hl 1 rfl) ?_
  refine lv_aload_n cx.1 cx.2.1 dL_law_1183 rfl (lv_at hl 0 rfl) ?_
  refine lv_iload cx.1 cx.2.1 dL_law_1184 (lv_at hl 4 rfl) ?_
  refine lv_iconst (v := 1) cx.1 cx.2.1 dL_law_1186 (by decide) ?_
  refine lv_iadd cx.1 cx.2.1 dL_law_1187 ?_
  refine sc_ld (j := 6 * t + 1) cx hX hbl hbA hS (by rw [show (1 : Int32) = nI 1 by decide +kernel, nI_add]) (by omega) (by omega) dL_law_1188 ?_
  refine lv_aload_n cx.1 cx.2.1 dL_law_1189 rfl (lv_at hl 3 rfl) ?_
  refine ck_H (v := some (.int kc)) (As := [.ref (ad_ w 0 0), .int (xs (6 * t + 1)), .ref (ad_ w 40 0)]) (rest := []) cx hW hS hl (hC) cw_L_bore nw_339 nw_338 rfl rfl (Nat.le_of_ble_eq_true rfl) rfl rfl ⟨Nat.le_of_ble_eq_true rfl, Nat.le_of_ble_eq_true rfl⟩ ⟨hfc, hfs⟩ dL_law_1190 (fun H locs hW hS => ?_)
  refine W.eq (g2 := F0 zm 1193 ls [.int kc]) rfl ?_
  refine lv_istore (lv' := [(5, .int kc), (0, .ref b), (1, .ref (ad_ w 0 0)), (2, .ref (ad_ w 20 0)), (3, .ref (ad_ w 40 0)), (4, .int (nI (6 * t)))]) cx.1 cx.2.1 dL_law_1193 hl (by decide) rfl (fun ls hl => ?_)
  refine lv_aload_n cx.1 cx.2.1 dL_law_1195 rfl (lv_at hl 3 rfl) ?_
  refine lv_aload_n cx.1 cx.2.1 dL_law_1196 rfl (lv_at hl 1 rfl) ?_
  refine lv_iload cx.1 cx.2.1 dL_law_1197 (lv_at hl 5 rfl) ?_
  refine lv_iconst (v := 1) cx.1 cx.2.1 dL_law_1199 (by decide) ?_
  refine lv_iadd cx.1 cx.2.1 dL_law_1200 ?_
  refine sc_ld (j := 6 * t + 1) cx hX hbl hbA hS (by rw [show (1 : Int32) = nI 1 by decide +kernel, nI_add]) (by omega) (by omega) dL_law_1201 ?_
  refine ck_V (v := some (.long r)) (As := [.int (xs (6 * t + 1))]) (rest := []) (k := 20) (i := 0) (T := TX5) cx hW hS hl (by decide) rfl rfl (hM) cw_X5_bore nw_510 nw_511 nw_509 rfl rfl (Nat.le_of_ble_eq_true rfl) rfl rfl ⟨Nat.le_of_ble_eq_true rfl, Nat.le_of_ble_eq_true rfl⟩ ⟨hfc, hfs⟩ dL_law_1202 (fun H locs hW hS => ?_)
  refine W.eq (g2 := F0 zm 1205 ls [.long r]) rfl ?_
  refine lv_lstore (lv' := [(6, .long r), (5, .int kc), (0, .ref b), (1, .ref (ad_ w 0 0)), (2, .ref (ad_ w 20 0)), (3, .ref (ad_ w 40 0)), (4, .int (nI (6 * t)))]) cx.1 cx.2.1 dL_law_1205 hl (by decide) rfl (fun ls hl => ?_)
  refine lv_aload_n cx.1 cx.2.1 dL_law_1207 rfl (lv_at hl 4 rfl) ?_
  refine ck_V (v := some (.int (gi_ a2 20 0 0))) (As := []) (rest := []) (k := 20) (i := 0) (T := TX5) cx hW hS hl (by decide) rfl rfl (c_X5_thrown l hI a2) cw_X5_thrown nw_397 nw_398 nw_396 rfl rfl (Nat.le_of_ble_eq_true rfl) rfl rfl ⟨Nat.le_of_ble_eq_true rfl, Nat.le_of_ble_eq_true rfl⟩ ⟨hfc, hfs⟩ dL_law_1208 (fun H locs hW hS => ?_)
  refine W.eq (g2 := F0 zm 1211 ls [.int (gi_ a2 20 0 0)]) rfl ?_
  refine lv_iload cx.1 cx.2.1 dL_law_1211 (lv_at hl 1 rfl) ?_
  refine lv_icmp_eq (tgt := 1218) cx.1 cx.2.1 dL_law_1213 (by decide) (fun h1213 => ?_) (fun zz => absurd hth zz)
  refine lv_iload cx.1 cx.2.1 dL_law_1218 (lv_at hl 1 rfl) ?_
  refine lv_if_ne (tgt := 1234) cx.1 cx.2.1 dL_law_1220 (by decide) (fun h1220 => ?_) (fun h1220 => ?_)
  · skip
    refine lv_goto (tgt := 1292) cx.1 cx.2.1 dL_law_1234 (by decide) ?_
    exact kk H locs ls hW hS (lv_sub hl [2, 3, 4, 5, 6] rfl)
  · skip
    refine lv_aload_n cx.1 cx.2.1 dL_law_1223 rfl (lv_at hl 5 rfl) ?_
    refine lv_iconst (v := 0) cx.1 cx.2.1 dL_law_1224 (by decide) ?_
    refine al_40 (j := 0) cx hW (by decide) (by decide +kernel) (by decide) dL_law_1225 ?_
    refine lv_lload cx.1 cx.2.1 dL_law_1226 (lv_at hl 0 rfl) ?_
    refine lc_eq (tgt := 1234) cx.1 cx.2.1 dL_law_1228 dL_law_1229 (by decide) (fun h1228 => ?_) (fun zz => absurd (ho h1220) zz)
    refine lv_goto (tgt := 1292) cx.1 cx.2.1 dL_law_1234 (by decide) ?_
    exact kk H locs ls hW hS (lv_sub hl [2, 3, 4, 5, 6] rfl)
set_option maxHeartbeats 4000000 in
set_option maxRecDepth 100000 in
theorem lw_c_all (l : Launch) {zp : Program} {ze : Env} {zs : State} {zm : MethodId} {zb : List Frame} {zt : Method} {zc : Code} {w : Gh_} {b L t cells slots : Nat} {xs : Nat → Int32} {H : Heap} {locs : List Loc} {ls : Array Slot} {Q : State → Prop} {a a1 a2 : St_} {kc : Int32} {r : Int64} (cx : Cx_ zp zs zm zc #[Value.ref b] cL_law 8 "MarginHouseLaw" w) (hX : va_X b L xs zs zs.heap) (hbl : b < zs.heap.size) (hbA : ¬ lo_ w ≤ b) (hL : L ≤ 3072) (ht : 6 * t + 6 ≤ L) (hfc : cells + 1 ≤ 647880) (hfs : slots + 6 ≤ 7152463) (hC : Fn_ l w yL_all (.codeWith yL_all cL_all 4 (some .int) [(0, 8, 11, 13)]) { frames := 8, cells := 1, slots := 6, locals := 131 } 1 6 [.ref (ad_ w 0 0), .int (xs (6 * t + 1)), .ref (ad_ w 40 0)] a (.inl (some (.int kc))) a1) (hM : Fn_ l w yX5_all (.code yX5_all cX5_all 5 (some .long)) { frames := 0, cells := 0, slots := 0, locals := 0 } 0 0 [.ref (ad_ w 20 0), .int (xs (6 * t + 1))] a1 (.inl (some (.long r))) a2) (hth : gi_ a2 20 0 0 = kc) (ho : kc = 0 → gl_ a2 40 0 0 = r) (hW : Hd_ w a H) (hS : Fr_ w zs.heap H locs) (hl : lv_has ls 8 [(0, .ref b), (1, .ref (ad_ w 0 0)), (2, .ref (ad_ w 20 0)), (3, .ref (ad_ w 40 0)), (4, .int (nI (6 * t)))])
    (kk : ∀ (H : Heap) (locs : List Loc) (ls : Array Slot), Hd_ w a2 H → Fr_ w zs.heap H locs → lv_has ls 8 [(0, .ref b), (1, .ref (ad_ w 0 0)), (2, .ref (ad_ w 20 0)), (3, .ref (ad_ w 40 0)), (4, .int (nI (6 * t)))] → W zp l ze room_1 zs zm #[Value.ref b] zb zt zc H locs (cells + 1) (slots + 6) Q (F0 zm 1292 ls [])) : W zp l ze room_1 zs zm #[Value.ref b] zb zt zc H locs cells slots Q (F0 zm 1237 ls []) := by
  have hI := cx.2.2.2.2.2.2.1
  refine lv_aload_n cx.1 cx.2.1 dL_law_1237 rfl (lv_at hl 1 rfl) ?_
  refine lv_aload_n cx.1 cx.2.1 dL_law_1238 rfl (lv_at hl 0 rfl) ?_
  refine lv_iload cx.1 cx.2.1 dL_law_1239 (lv_at hl 4 rfl) ?_
  refine lv_iconst (v := 1) cx.1 cx.2.1 dL_law_1241 (by decide) ?_
  refine lv_iadd cx.1 cx.2.1 dL_law_1242 ?_
  refine sc_ld (j := 6 * t + 1) cx hX hbl hbA hS (by rw [show (1 : Int32) = nI 1 by decide +kernel, nI_add]) (by omega) (by omega) dL_law_1243 ?_
  refine lv_aload_n cx.1 cx.2.1 dL_law_1244 rfl (lv_at hl 3 rfl) ?_
  refine ck_H (v := some (.int kc)) (As := [.ref (ad_ w 0 0), .int (xs (6 * t + 1)), .ref (ad_ w 40 0)]) (rest := []) cx hW hS hl (hC) cw_L_all nw_347 nw_346 rfl rfl (Nat.le_of_ble_eq_true rfl) rfl rfl ⟨Nat.le_of_ble_eq_true rfl, Nat.le_of_ble_eq_true rfl⟩ ⟨hfc, hfs⟩ dL_law_1245 (fun H locs hW hS => ?_)
  refine W.eq (g2 := F0 zm 1248 ls [.int kc]) rfl ?_
  refine lv_istore (lv' := [(5, .int kc), (0, .ref b), (1, .ref (ad_ w 0 0)), (2, .ref (ad_ w 20 0)), (3, .ref (ad_ w 40 0)), (4, .int (nI (6 * t)))]) cx.1 cx.2.1 dL_law_1248 hl (by decide) rfl (fun ls hl => ?_)
  refine lv_aload_n cx.1 cx.2.1 dL_law_1250 rfl (lv_at hl 3 rfl) ?_
  refine lv_aload_n cx.1 cx.2.1 dL_law_1251 rfl (lv_at hl 1 rfl) ?_
  refine lv_iload cx.1 cx.2.1 dL_law_1252 (lv_at hl 5 rfl) ?_
  refine lv_iconst (v := 1) cx.1 cx.2.1 dL_law_1254 (by decide) ?_
  refine lv_iadd cx.1 cx.2.1 dL_law_1255 ?_
  refine sc_ld (j := 6 * t + 1) cx hX hbl hbA hS (by rw [show (1 : Int32) = nI 1 by decide +kernel, nI_add]) (by omega) (by omega) dL_law_1256 ?_
  refine ck_V (v := some (.long r)) (As := [.int (xs (6 * t + 1))]) (rest := []) (k := 20) (i := 0) (T := TX5) cx hW hS hl (by decide) rfl rfl (hM) cw_X5_all nw_514 nw_515 nw_513 rfl rfl (Nat.le_of_ble_eq_true rfl) rfl rfl ⟨Nat.le_of_ble_eq_true rfl, Nat.le_of_ble_eq_true rfl⟩ ⟨hfc, hfs⟩ dL_law_1257 (fun H locs hW hS => ?_)
  refine W.eq (g2 := F0 zm 1260 ls [.long r]) rfl ?_
  refine lv_lstore (lv' := [(6, .long r), (5, .int kc), (0, .ref b), (1, .ref (ad_ w 0 0)), (2, .ref (ad_ w 20 0)), (3, .ref (ad_ w 40 0)), (4, .int (nI (6 * t)))]) cx.1 cx.2.1 dL_law_1260 hl (by decide) rfl (fun ls hl => ?_)
  refine lv_aload_n cx.1 cx.2.1 dL_law_1262 rfl (lv_at hl 4 rfl) ?_
  refine ck_V (v := some (.int (gi_ a2 20 0 0))) (As := []) (rest := []) (k := 20) (i := 0) (T := TX5) cx hW hS hl (by decide) rfl rfl (c_X5_thrown l hI a2) cw_X5_thrown nw_397 nw_398 nw_396 rfl rfl (Nat.le_of_ble_eq_true rfl) rfl rfl ⟨Nat.le_of_ble_eq_true rfl, Nat.le_of_ble_eq_true rfl⟩ ⟨hfc, hfs⟩ dL_law_1263 (fun H locs hW hS => ?_)
  refine W.eq (g2 := F0 zm 1266 ls [.int (gi_ a2 20 0 0)]) rfl ?_
  refine lv_iload cx.1 cx.2.1 dL_law_1266 (lv_at hl 1 rfl) ?_
  refine lv_icmp_eq (tgt := 1273) cx.1 cx.2.1 dL_law_1268 (by decide) (fun h1268 => ?_) (fun zz => absurd hth zz)
  refine lv_iload cx.1 cx.2.1 dL_law_1273 (lv_at hl 1 rfl) ?_
  refine lv_if_ne (tgt := 1289) cx.1 cx.2.1 dL_law_1275 (by decide) (fun h1275 => ?_) (fun h1275 => ?_)
  · skip
    refine lv_goto (tgt := 1292) cx.1 cx.2.1 dL_law_1289 (by decide) ?_
    exact kk H locs ls hW hS (lv_sub hl [2, 3, 4, 5, 6] rfl)
  · skip
    refine lv_aload_n cx.1 cx.2.1 dL_law_1278 rfl (lv_at hl 5 rfl) ?_
    refine lv_iconst (v := 0) cx.1 cx.2.1 dL_law_1279 (by decide) ?_
    refine al_40 (j := 0) cx hW (by decide) (by decide +kernel) (by decide) dL_law_1280 ?_
    refine lv_lload cx.1 cx.2.1 dL_law_1281 (lv_at hl 0 rfl) ?_
    refine lc_eq (tgt := 1289) cx.1 cx.2.1 dL_law_1283 dL_law_1284 (by decide) (fun h1283 => ?_) (fun zz => absurd (ho h1275) zz)
    refine lv_goto (tgt := 1292) cx.1 cx.2.1 dL_law_1289 (by decide) ?_
    exact kk H locs ls hW hS (lv_sub hl [2, 3, 4, 5, 6] rfl)
