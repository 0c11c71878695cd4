/-! MarginHouseModel: shares, what is borne, the closing out -/
def ha_ (a : St_) : Nat → St_
  | 0 => a
  | i + 1 => sl_ (sl_ (ha_ a i) 30 0 i 0) 31 0 i 0
theorem ha_gl (a : St_) (v x y : Nat) (h1 : v ≠ 30) (h2 : v ≠ 31) : ∀ i, gl_ (ha_ a i) v x y = gl_ a v x y
  | 0 => rfl
  | i + 1 => by rw [ha_, gl_sl, if_neg (fun h => h2 h.1), gl_sl, if_neg (fun h => h1 h.1), ha_gl a v x y h1 h2 i]
theorem ha_gi (a : St_) (v x y : Nat) : ∀ i, gi_ (ha_ a i) v x y = gi_ a v x y
  | 0 => rfl
  | i + 1 => ha_gi a v x y i
def qw_ (a : St_) : Nat → Int64
  | 0 => 0
  | i + 1 => qw_ a i + gl_ a 29 0 i
def hb_ (b : St_) : Nat → St_
  | 0 => b
  | i + 1 => sl_ (hb_ b i) 30 0 i (gl_ (hb_ b i) 29 0 i)
theorem hb_gi (a : St_) (v x y : Nat) : ∀ i, gi_ (hb_ a i) v x y = gi_ a v x y
  | 0 => rfl
  | i + 1 => hb_gi a v x y i
def hd_ (b : St_) (x t : Int64) : Nat → St_
  | 0 => b
  | i + 1 => dn_ (hd_ b x t i) x t i
theorem hd_gi (b : St_) (p t : Int64) (v x y : Nat) : ∀ i, gi_ (hd_ b p t i) v x y = gi_ b v x y
  | 0 => rfl
  | i + 1 => hd_gi b p t v x y i
def hl_ (b : St_) (x t : Int64) : Nat → Int64
  | 0 => x
  | i + 1 => hl_ b x t i - gl_ (hd_ b x t (i + 1)) 30 0 i
def gr_ (a : St_) : Nat → Nat
  | 0 => 0
  | m + 1 => if m = 0 then 0 else if gl_ a 31 0 m ≤ gl_ a 31 0 (gr_ a m) then gr_ a m else m
theorem gr_lt (a : St_) : ∀ m, gr_ a (m + 1) < m + 1
  | 0 => by simp [gr_]
  | m + 1 => by
    have := gr_lt a m
    rw [gr_, if_neg (by omega)]
    split <;> omega
def hs_ (b : St_) : St_ := sl_ (sl_ b 30 0 (gr_ b 8) (gl_ b 30 0 (gr_ b 8) + 1)) 31 0 (gr_ b 8) (-1)
def hw_ (b : St_) : Nat → St_
  | 0 => b
  | g + 1 => hs_ (hw_ b g)
theorem hw_gi (b : St_) (v x y : Nat) : ∀ i, gi_ (hw_ b i) v x y = gi_ b v x y
  | 0 => rfl
  | i + 1 => (show gi_ (hs_ (hw_ b i)) v x y = gi_ (hw_ b i) v x y from rfl).trans (hw_gi b v x y i)
def s0_ (a : St_) (x : Int64) : St_ := hd_ (ha_ a 8) x (qw_ a 8) 8
def s1_ (a : St_) (x : Int64) : Int64 := hl_ (ha_ a 8) x (qw_ a 8) 8
def shs_ (a : St_) (x : Int64) : St_ := if x < qw_ a 8 then hw_ (s0_ a x) (s1_ a x).toInt.toNat else hb_ (ha_ a 8) 8
def shv_ (a : St_) (x : Int64) : Int64 := if x < qw_ a 8 then x else qw_ a 8
theorem shs_gi (a : St_) (z : Int64) (v x y : Nat) : gi_ (shs_ a z) v x y = gi_ a v x y := by
  unfold shs_
  split
  · rw [hw_gi, s0_, hd_gi, ha_gi]
  · rw [hb_gi, ha_gi]
theorem lN_z {n : Nat} (hn : n < 1000) (h : lN n ≤ 0) : n = 0 := by
  have := (lN_le (a := n) (b := 0) (by omega) (by omega)).mp h
  omega
theorem lN_p {n : Nat} (hn : n < 1000) (h : ¬ lN n ≤ 0) : 0 < n := by
  rcases Nat.eq_zero_or_pos n with rfl | q
  · exact absurd (by decide) h
  · exact q
theorem lN_d {c g : Nat} (h : g < c) : lN (c - g) - 1 = lN (c - (g + 1)) := by
  rw [show (1 : Int64) = lN 1 from rfl, lN_sub (by omega), Nat.sub_sub]
set_option maxHeartbeats 4000000 in
set_option maxRecDepth 100000 in
theorem c_X5_share (l : Launch) {w : Gh_} (hI : In_ w) (a : St_) (x : Int64) (hcc : x < qw_ a 8 → ∃ c, c ≤ 8 ∧ s1_ a x = lN c) : Fn_ l w yX5_share (.code yX5_share cX5_share 9 (some .long)) { frames := 1, cells := 0, slots := 0, locals := 30 } 0 0 [.ref (ad_ w 20 0), .long x] a (.inl (some (.long (shv_ a x)))) (shs_ a x) := by
  refine Fn_of hI (by decide +kernel) (Nat.le_of_ble_eq_true rfl) ?_
  intro zp ze zs zm zb zt zc ls cx hr hlk hno hW hS hl
  replace cx : Cx_ zp zs zm zc _ cX5_share 9 "MarginHouseModel" w := cx
  replace hl : lv_has ls 9 [(0, .ref (ad_ w 20 0)), (1, .long x)] := hl
  obtain ⟨H, hH⟩ : ∃ H, zs.heap = H := ⟨_, rfl⟩
  rw [hH] at hW
  have hS : Fr_ w zs.heap H [] := by rw [← hH]; exact hS
  obtain ⟨locs, hlocs⟩ : ∃ x : List Loc, x = [] := ⟨_, rfl⟩
  rw [← hlocs] at hS ⊢
  rw [show W zp l ze _ zs zm _ zb zt zc zs.heap locs 0 0 _ (F0 zm 0 ls []) ↔ W zp l ze _ zs zm _ zb zt zc H locs 0 0 _ (F0 zm 0 ls []) from by rw [hH]]
  refine lv_lconst (v := 0) cx.1 cx.2.1 dX5_share_0 (by decide) ?_
  refine lv_lstore_n (lv' := [(3, .long 0), (0, .ref (ad_ w 20 0)), (1, .long x)]) cx.1 cx.2.1 dX5_share_1 rfl hl (by decide) rfl (fun ls hl => ?_)
  refine lv_iconst (v := 0) cx.1 cx.2.1 dX5_share_2 (by decide) ?_
  refine lv_istore (lv' := [(5, .int 0), (3, .long 0), (0, .ref (ad_ w 20 0)), (1, .long x)]) cx.1 cx.2.1 dX5_share_3 hl (by decide) rfl (fun ls hl => ?_)
  have L5 : ∀ (d i : Nat), i ≤ 8 → 8 - i < d → ∀ (H : Heap) (locs : List Loc) (ls : Array Slot), Hd_ w (ha_ a i) H → Fr_ w zs.heap H locs → lv_has ls 9 [(0, .ref (ad_ w 20 0)), (1, .long x), (3, .long (qw_ a i)), (5, .int (nI i))] → W zp l ze { frames := 1, cells := 0, slots := 0, locals := 30 } zs zm ([.ref (ad_ w 20 0), .long x] : List Value).toArray zb zt zc H locs 0 0 (vx_MQ zb (Qc_ w (.inl (some (.long (shv_ a x)))) (shs_ a x)) (XC_ w (.inl (some (.long (shv_ a x)))) (shs_ a x)) ([.ref (ad_ w 20 0), .long x] : List Value).toArray zs 0 0 (fun q => lo_ w ≤ q)) (F0 zm 5 ls []) := by
    intro d
    induction d with
    | zero => intro i _ hd; exact absurd hd (Nat.not_lt_zero _)
    | succ d ih5 =>
      intro i hi hdi  H locs ls hW hS hl
      refine lv_iload cx.1 cx.2.1 dX5_share_5 (lv_at hl 3 rfl) ?_
      refine lv_bipush (v := 8) cx.1 cx.2.1 dX5_share_7 (by decide) ?_
      refine tp_i (y := nI 8) (by decide +kernel) ?_
      refine lv_icmp_ge (tgt := 44) cx.1 cx.2.1 dX5_share_9 (by decide) (fun h9 => ?_) (fun h9 => ?_)
      · skip
        have h9 : 8 ≤ i := (nI_leI (by omega) (by omega)).mp h9
        have e5 : i = 8 := by omega
        try rw [e5] at hl
        try rw [e5] at hW
        refine lv_lload_n cx.1 cx.2.1 dX5_share_44 rfl (lv_at hl 2 rfl) ?_
        refine lv_lload_n cx.1 cx.2.1 dX5_share_45 rfl (lv_at hl 1 rfl) ?_
        refine lc_gt (tgt := 82) cx.1 cx.2.1 dX5_share_46 dX5_share_47 (by decide) (fun h46 => ?_) (fun h46 => ?_)
        · skip
          obtain ⟨c, hc8, hc⟩ := hcc h46
          have hc : hl_ (ha_ a 8) x (qw_ a 8) 8 = lN c := hc
          refine lv_lload_n cx.1 cx.2.1 dX5_share_82 rfl (lv_at hl 1 rfl) ?_
          refine lv_lstore (lv' := [(5, .long x), (0, .ref (ad_ w 20 0)), (1, .long x), (3, .long (qw_ a 8))]) cx.1 cx.2.1 dX5_share_83 hl (by decide) rfl (fun ls hl => ?_)
          refine lv_iconst (v := 0) cx.1 cx.2.1 dX5_share_85 (by decide) ?_
          refine lv_istore (lv' := [(7, .int 0), (5, .long x), (0, .ref (ad_ w 20 0)), (1, .long x), (3, .long (qw_ a 8))]) cx.1 cx.2.1 dX5_share_86 hl (by decide) rfl (fun ls hl => ?_)
          have L88 : ∀ (d i : Nat), i ≤ 8 → 8 - i < d → ∀ (H : Heap) (locs : List Loc) (ls : Array Slot), Hd_ w (hd_ (ha_ a 8) x (qw_ a 8) i) H → Fr_ w zs.heap H locs → lv_has ls 9 [(0, .ref (ad_ w 20 0)), (1, .long x), (3, .long (qw_ a 8)), (5, .long (hl_ (ha_ a 8) x (qw_ a 8) i)), (7, .int (nI i))] → W zp l ze { frames := 1, cells := 0, slots := 0, locals := 30 } zs zm ([.ref (ad_ w 20 0), .long x] : List Value).toArray zb zt zc H locs 0 0 (vx_MQ zb (Qc_ w (.inl (some (.long (shv_ a x)))) (shs_ a x)) (XC_ w (.inl (some (.long (shv_ a x)))) (shs_ a x)) ([.ref (ad_ w 20 0), .long x] : List Value).toArray zs 0 0 (fun q => lo_ w ≤ q)) (F0 zm 88 ls []) := by
            intro d
            induction d with
            | zero => intro i _ hd; exact absurd hd (Nat.not_lt_zero _)
            | succ d ih88 =>
              intro i hi hdi  H locs ls hW hS hl
              refine lv_iload cx.1 cx.2.1 dX5_share_88 (lv_at hl 4 rfl) ?_
              refine lv_bipush (v := 8) cx.1 cx.2.1 dX5_share_90 (by decide) ?_
              refine tp_i (y := nI 8) (by decide +kernel) ?_
              refine lv_icmp_ge (tgt := 121) cx.1 cx.2.1 dX5_share_92 (by decide) (fun h92 => ?_) (fun h92 => ?_)
              · skip
                have h92 : 8 ≤ i := (nI_leI (by omega) (by omega)).mp h92
                have e88 : i = 8 := by omega
                try rw [e88] at hl
                try rw [e88] at hW
                have L121 : ∀ (d g : Nat), g ≤ c → c - g < d → ∀ (H : Heap) (locs : List Loc) (ls : Array Slot), Hd_ w (hw_ (s0_ a x) g) H → Fr_ w zs.heap H locs → lv_has ls 9 [(0, .ref (ad_ w 20 0)), (1, .long x), (3, .long (qw_ a 8)), (5, .long (lN (c - g)))] → W zp l ze { frames := 1, cells := 0, slots := 0, locals := 30 } zs zm ([.ref (ad_ w 20 0), .long x] : List Value).toArray zb zt zc H locs 0 0 (vx_MQ zb (Qc_ w (.inl (some (.long (shv_ a x)))) (shs_ a x)) (XC_ w (.inl (some (.long (shv_ a x)))) (shs_ a x)) ([.ref (ad_ w 20 0), .long x] : List Value).toArray zs 0 0 (fun q => lo_ w ≤ q)) (F0 zm 121 ls []) := by
                  intro d
                  induction d with
                  | zero => intro g _ hd; exact absurd hd (Nat.not_lt_zero _)
                  | succ d ih121 =>
                    intro g hg hdg  H locs ls hW hS hl
                    refine lv_lload cx.1 cx.2.1 dX5_share_121 (lv_at hl 3 rfl) ?_
                    refine lv_lconst (v := 0) cx.1 cx.2.1 dX5_share_123 (by decide) ?_
                    refine lc_le (tgt := 204) cx.1 cx.2.1 dX5_share_124 dX5_share_125 (by decide) (fun h124 => ?_) (fun h124 => ?_)
                    · skip
                      have e121 : g = c := by have := lN_z (by omega) h124; omega
                      rw [e121] at hl hW
                      refine lv_lload_n cx.1 cx.2.1 dX5_share_204 rfl (lv_at hl 1 rfl) ?_
                      exact cr_l cx hr hlk hW hS (Nat.le_of_ble_eq_true rfl) (Nat.le_of_ble_eq_true rfl) dX5_share_205 (by rw [shv_, if_pos h46]) (by rw [shs_, if_pos h46, s1_, hc, pk_lT (by omega)]; rfl)
                    · skip
                      have h124 : g < c := by have := lN_p (by omega) h124; omega
                      refine lv_iconst (v := 0) cx.1 cx.2.1 dX5_share_128 (by decide) ?_
                      refine lv_istore (lv' := [(7, .int 0), (0, .ref (ad_ w 20 0)), (1, .long x), (3, .long (qw_ a 8)), (5, .long (lN (c - g)))]) cx.1 cx.2.1 dX5_share_129 hl (by decide) rfl (fun ls hl => ?_)
                      refine lv_iconst (v := 1) cx.1 cx.2.1 dX5_share_131 (by decide) ?_
                      refine lv_istore (lv' := [(8, .int 1), (7, .int 0), (0, .ref (ad_ w 20 0)), (1, .long x), (3, .long (qw_ a 8)), (5, .long (lN (c - g)))]) cx.1 cx.2.1 dX5_share_132 hl (by decide) rfl (fun ls hl => ?_)
                      have L134 : ∀ (d i : Nat), i ≤ 8 → 8 - i < d → 1 ≤ i → ∀ (H : Heap) (locs : List Loc) (ls : Array Slot), Hd_ w (hw_ (s0_ a x) g) H → Fr_ w zs.heap H locs → lv_has ls 9 [(0, .ref (ad_ w 20 0)), (1, .long x), (3, .long (qw_ a 8)), (5, .long (lN (c - g))), (7, .int (nI (gr_ (hw_ (s0_ a x) g) i))), (8, .int (nI i))] → W zp l ze { frames := 1, cells := 0, slots := 0, locals := 30 } zs zm ([.ref (ad_ w 20 0), .long x] : List Value).toArray zb zt zc H locs 0 0 (vx_MQ zb (Qc_ w (.inl (some (.long (shv_ a x)))) (shs_ a x)) (XC_ w (.inl (some (.long (shv_ a x)))) (shs_ a x)) ([.ref (ad_ w 20 0), .long x] : List Value).toArray zs 0 0 (fun q => lo_ w ≤ q)) (F0 zm 134 ls []) := by
                        intro d
                        induction d with
                        | zero => intro i _ hd; exact absurd hd (Nat.not_lt_zero _)
                        | succ d ih134 =>
                          intro i hi hdi h1i H locs ls hW hS hl
                          obtain ⟨z, rfl⟩ : ∃ z, i = z + 1 := ⟨i - 1, by omega⟩
                          have hgz := gr_lt (hw_ (s0_ a x) g) z
                          refine lv_iload cx.1 cx.2.1 dX5_share_134 (lv_at hl 5 rfl) ?_
                          skip
                          refine lv_bipush (v := 8) cx.1 cx.2.1 dX5_share_136 (by decide) ?_
                          refine tp_i (y := nI 8) (by decide +kernel) ?_
                          refine lv_icmp_ge (tgt := 174) cx.1 cx.2.1 dX5_share_138 (by decide) (fun h138 => ?_) (fun h138 => ?_)
                          · skip
                            have h138 : 8 ≤ z + 1 := (nI_leI (by omega) (by omega)).mp h138
                            have e134 : z + 1 = 8 := by omega
                            rw [e134] at hl hgz
                            refine lv_aload_n cx.1 cx.2.1 dX5_share_174 rfl (lv_at hl 0 rfl) ?_
                            refine gf_X5_56 cx hW (by decide) dX5_share_175 ?_
                            refine lv_iload cx.1 cx.2.1 dX5_share_178 (lv_at hl 4 rfl) ?_
                            refine lv_dup2_11 cx.1 cx.2.1 dX5_share_180 rfl rfl ?_
                            refine al_36 (j := gr_ (hw_ (s0_ a x) g) 8) cx hW (by decide) rfl (by omega) dX5_share_181 ?_
                            refine lv_lconst (v := 1) cx.1 cx.2.1 dX5_share_182 (by decide) ?_
                            refine lv_ladd cx.1 cx.2.1 dX5_share_183 ?_
                            refine as_36 (j := gr_ (hw_ (s0_ a x) g) 8) cx hW hS (by decide) rfl (by omega) dX5_share_184 (fun H locs hW hS => ?_)
                            refine lv_aload_n cx.1 cx.2.1 dX5_share_185 rfl (lv_at hl 0 rfl) ?_
                            refine gf_X5_59 cx hW (by decide) dX5_share_186 ?_
                            refine lv_iload cx.1 cx.2.1 dX5_share_189 (lv_at hl 4 rfl) ?_
                            refine lv_ldc2 (own := "MarginHouseModel") (v := -1) cx.1 cx.2.1 cx.2.2.2.1 (cx.2.2.2.2.1 _ nw_422) dX5_share_191 ?_
                            refine as_37 (j := gr_ (hw_ (s0_ a x) g) 8) cx hW hS (by decide) rfl (by omega) dX5_share_194 (fun H locs hW hS => ?_)
                            replace hW : Hd_ w (hw_ (s0_ a x) (g + 1)) H := hW
                            refine lv_lload cx.1 cx.2.1 dX5_share_195 (lv_at hl 3 rfl) ?_
                            refine lv_lconst (v := 1) cx.1 cx.2.1 dX5_share_197 (by decide) ?_
                            refine lv_lsub cx.1 cx.2.1 dX5_share_198 ?_
                            refine tp_j (y := lN (c - (g + 1))) (lN_d h124) ?_
                            refine lv_lstore (lv' := [(5, .long (lN (c - (g + 1)))), (0, .ref (ad_ w 20 0)), (1, .long x), (3, .long (qw_ a 8)), (7, .int (nI (gr_ (hw_ (s0_ a x) g) (8)))), (8, .int (nI (8)))]) cx.1 cx.2.1 dX5_share_199 hl (by decide) rfl (fun ls hl => ?_)
                            refine lv_goto (tgt := 121) cx.1 cx.2.1 dX5_share_201 (by decide) ?_
                            exact ih121 (g + 1) (by omega) (by omega)  H locs ls hW hS (lv_sub (l' := [(0, .ref (ad_ w 20 0)), (1, .long x), (3, .long (qw_ a 8)), (5, .long (lN (c - (g + 1))))]) hl [1, 2, 3, 0] rfl)
                          · skip
                            have h138 : z + 1 < 8 := Nat.not_le.mp (fun q => h138 ((nI_leI (by omega) (by omega)).mpr q))
                            refine lv_aload_n cx.1 cx.2.1 dX5_share_141 rfl (lv_at hl 0 rfl) ?_
                            refine gf_X5_59 cx hW (by decide) dX5_share_142 ?_
                            refine lv_iload cx.1 cx.2.1 dX5_share_145 (lv_at hl 5 rfl) ?_
                            refine al_37 (j := z + 1) cx hW (by decide) rfl (by omega) dX5_share_147 ?_
                            refine lv_aload_n cx.1 cx.2.1 dX5_share_148 rfl (lv_at hl 0 rfl) ?_
                            refine gf_X5_59 cx hW (by decide) dX5_share_149 ?_
                            refine lv_iload cx.1 cx.2.1 dX5_share_152 (lv_at hl 4 rfl) ?_
                            refine al_37 (j := gr_ (hw_ (s0_ a x) g) (z + 1)) cx hW (by decide) rfl (by omega) dX5_share_154 ?_
                            refine lc_le (tgt := 164) cx.1 cx.2.1 dX5_share_155 dX5_share_156 (by decide) (fun h155 => ?_) (fun h155 => ?_)
                            · skip
                              have hE : gr_ (hw_ (s0_ a x) g) (z + 1 + 1) = gr_ (hw_ (s0_ a x) g) (z + 1) := by rw [gr_, if_neg (Nat.succ_ne_zero z), if_pos h155]
                              refine lv_iload cx.1 cx.2.1 dX5_share_164 (lv_at hl 4 rfl) ?_
                              refine lv_istore (lv' := [(7, .int (nI (gr_ (hw_ (s0_ a x) g) (z + 1)))), (0, .ref (ad_ w 20 0)), (1, .long x), (3, .long (qw_ a 8)), (5, .long (lN (c - g))), (8, .int (nI (z + 1)))]) cx.1 cx.2.1 dX5_share_166 hl (by decide) rfl (fun ls hl => ?_)
                              refine lv_iinc (v := nI (z + 1 + 1)) (lv' := [(8, .int (nI (z + 1 + 1))), (7, .int (nI (gr_ (hw_ (s0_ a x) g) (z + 1)))), (0, .ref (ad_ w 20 0)), (1, .long x), (3, .long (qw_ a 8)), (5, .long (lN (c - g)))]) cx.1 cx.2.1 dX5_share_168 hl (k := 5) rfl (nI_inc (z + 1)) (by decide) rfl (fun ls hl => ?_)
                              refine lv_goto (tgt := 134) cx.1 cx.2.1 dX5_share_171 (by decide) ?_
                              exact ih134 (z + 1 + 1) (by omega) (by omega) (by omega) H locs ls hW hS (lv_sub (l' := [(0, .ref (ad_ w 20 0)), (1, .long x), (3, .long (qw_ a 8)), (5, .long (lN (c - g))), (7, .int (nI (gr_ (hw_ (s0_ a x) g) (z + 1 + 1)))), (8, .int (nI (z + 1 + 1)))]) hl [2, 3, 4, 5, 1, 0] (by rw [hE]; rfl))
                            · skip
                              have hE : gr_ (hw_ (s0_ a x) g) (z + 1 + 1) = z + 1 := by rw [gr_, if_neg (Nat.succ_ne_zero z), if_neg h155]
                              refine lv_iload cx.1 cx.2.1 dX5_share_159 (lv_at hl 5 rfl) ?_
                              refine lv_goto (tgt := 166) cx.1 cx.2.1 dX5_share_161 (by decide) ?_
                              refine lv_istore (lv' := [(7, .int (nI (z + 1))), (0, .ref (ad_ w 20 0)), (1, .long x), (3, .long (qw_ a 8)), (5, .long (lN (c - g))), (8, .int (nI (z + 1)))]) cx.1 cx.2.1 dX5_share_166 hl (by decide) rfl (fun ls hl => ?_)
                              refine lv_iinc (v := nI (z + 1 + 1)) (lv' := [(8, .int (nI (z + 1 + 1))), (7, .int (nI (z + 1))), (0, .ref (ad_ w 20 0)), (1, .long x), (3, .long (qw_ a 8)), (5, .long (lN (c - g)))]) cx.1 cx.2.1 dX5_share_168 hl (k := 5) rfl (nI_inc (z + 1)) (by decide) rfl (fun ls hl => ?_)
                              refine lv_goto (tgt := 134) cx.1 cx.2.1 dX5_share_171 (by decide) ?_
                              exact ih134 (z + 1 + 1) (by omega) (by omega) (by omega) H locs ls hW hS (lv_sub (l' := [(0, .ref (ad_ w 20 0)), (1, .long x), (3, .long (qw_ a 8)), (5, .long (lN (c - g))), (7, .int (nI (gr_ (hw_ (s0_ a x) g) (z + 1 + 1)))), (8, .int (nI (z + 1 + 1)))]) hl [2, 3, 4, 5, 1, 0] (by rw [hE]; rfl))
                      exact L134 (8 - 1 + 1) 1 (by decide) (by omega) (by decide) H locs ls hW hS (lv_sub hl [2, 3, 4, 5, 1, 0] (by simp only [gr_]; rfl))
                exact L121 (c - 0 + 1) 0 (by omega) (by omega)  H locs ls hW hS (lv_sub hl [0, 1, 2, 3] (by rw [hc]; rfl))
              · skip
                have h92 : i < 8 := Nat.not_le.mp (fun q => h92 ((nI_leI (by omega) (by omega)).mpr q))
                refine lv_aload_n cx.1 cx.2.1 dX5_share_95 rfl (lv_at hl 0 rfl) ?_
                refine lv_iload cx.1 cx.2.1 dX5_share_96 (lv_at hl 4 rfl) ?_
                refine lv_lload_n cx.1 cx.2.1 dX5_share_98 rfl (lv_at hl 1 rfl) ?_
                refine lv_lload_n cx.1 cx.2.1 dX5_share_99 rfl (lv_at hl 2 rfl) ?_
                refine ck_V (v := none) (As := [.int (nI i), .long x, .long (qw_ a 8)]) (rest := []) (k := 20) (i := 0) (T := TX5) cx hW hS hl (by decide) rfl rfl (c_X5_divide l hI (hd_ (ha_ a 8) x (qw_ a 8) i) i (by omega) x (qw_ a 8)) cw_X5_divide nw_498 nw_551 nw_497 rfl rfl (Nat.le_of_ble_eq_true rfl) rfl rfl ⟨Nat.le_of_ble_eq_true rfl, Nat.le_of_ble_eq_true rfl⟩ ⟨Nat.le_of_ble_eq_true rfl, Nat.le_of_ble_eq_true rfl⟩ dX5_share_100 (fun H locs hW hS => ?_)
                refine W.eq (g2 := F0 zm 103 ls []) rfl ?_
                refine lv_lload cx.1 cx.2.1 dX5_share_103 (lv_at hl 3 rfl) ?_
                refine lv_aload_n cx.1 cx.2.1 dX5_share_105 rfl (lv_at hl 0 rfl) ?_
                refine gf_X5_56 cx hW (by decide) dX5_share_106 ?_
                refine lv_iload cx.1 cx.2.1 dX5_share_109 (lv_at hl 4 rfl) ?_
                refine al_36 (j := i) cx hW (by decide) rfl (by omega) dX5_share_111 ?_
                refine lv_lsub cx.1 cx.2.1 dX5_share_112 ?_
                refine lv_lstore (lv' := [(5, .long ((hl_ (ha_ a 8) x (qw_ a 8) i) - (gl_ (dn_ (hd_ (ha_ a 8) x (qw_ a 8) i) x (qw_ a 8) i) 30 0 i))), (0, .ref (ad_ w 20 0)), (1, .long x), (3, .long (qw_ a 8)), (7, .int (nI i))]) cx.1 cx.2.1 dX5_share_113 hl (by decide) rfl (fun ls hl => ?_)
                refine lv_iinc (v := nI (i + 1)) (lv' := [(7, .int (nI (i + 1))), (5, .long ((hl_ (ha_ a 8) x (qw_ a 8) i) - (gl_ (dn_ (hd_ (ha_ a 8) x (qw_ a 8) i) x (qw_ a 8) i) 30 0 i))), (0, .ref (ad_ w 20 0)), (1, .long x), (3, .long (qw_ a 8))]) cx.1 cx.2.1 dX5_share_115 hl (k := 4) rfl (nI_inc i) (by decide) rfl (fun ls hl => ?_)
                refine lv_goto (tgt := 88) cx.1 cx.2.1 dX5_share_118 (by decide) ?_
                exact ih88 (i + 1) (by omega) (by omega)  H locs ls hW hS (lv_sub (l' := [(0, .ref (ad_ w 20 0)), (1, .long x), (3, .long (qw_ a 8)), (5, .long (hl_ (ha_ a 8) x (qw_ a 8) (i + 1))), (7, .int (nI (i + 1)))]) hl [2, 3, 4, 1, 0] rfl)
          exact L88 (8 - 0 + 1) 0 (by omega) (by omega)  H locs ls hW hS (lv_sub hl [2, 3, 4, 1, 0] rfl)
        · skip
          refine lv_iconst (v := 0) cx.1 cx.2.1 dX5_share_50 (by decide) ?_
          refine lv_istore (lv' := [(5, .int 0), (0, .ref (ad_ w 20 0)), (1, .long x), (3, .long (qw_ a 8))]) cx.1 cx.2.1 dX5_share_51 hl (by decide) rfl (fun ls hl => ?_)
          have L53 : ∀ (d i : Nat), i ≤ 8 → 8 - i < d → ∀ (H : Heap) (locs : List Loc) (ls : Array Slot), Hd_ w (hb_ (ha_ a 8) i) H → Fr_ w zs.heap H locs → lv_has ls 9 [(0, .ref (ad_ w 20 0)), (1, .long x), (3, .long (qw_ a 8)), (5, .int (nI i))] → W zp l ze { frames := 1, cells := 0, slots := 0, locals := 30 } zs zm ([.ref (ad_ w 20 0), .long x] : List Value).toArray zb zt zc H locs 0 0 (vx_MQ zb (Qc_ w (.inl (some (.long (shv_ a x)))) (shs_ a x)) (XC_ w (.inl (some (.long (shv_ a x)))) (shs_ a x)) ([.ref (ad_ w 20 0), .long x] : List Value).toArray zs 0 0 (fun q => lo_ w ≤ q)) (F0 zm 53 ls []) := by
            intro d
            induction d with
            | zero => intro i _ hd; exact absurd hd (Nat.not_lt_zero _)
            | succ d ih53 =>
              intro i hi hdi  H locs ls hW hS hl
              refine lv_iload cx.1 cx.2.1 dX5_share_53 (lv_at hl 3 rfl) ?_
              refine lv_bipush (v := 8) cx.1 cx.2.1 dX5_share_55 (by decide) ?_
              refine tp_i (y := nI 8) (by decide +kernel) ?_
              refine lv_icmp_ge (tgt := 80) cx.1 cx.2.1 dX5_share_57 (by decide) (fun h57 => ?_) (fun h57 => ?_)
              · skip
                have h57 : 8 ≤ i := (nI_leI (by omega) (by omega)).mp h57
                have e53 : i = 8 := by omega
                try rw [e53] at hl
                try rw [e53] at hW
                refine lv_lload_n cx.1 cx.2.1 dX5_share_80 rfl (lv_at hl 2 rfl) ?_
                exact cr_l cx hr hlk hW hS (Nat.le_of_ble_eq_true rfl) (Nat.le_of_ble_eq_true rfl) dX5_share_81 (by rw [shv_, if_neg h46]) (by rw [shs_, if_neg h46])
              · skip
                have h57 : i < 8 := Nat.not_le.mp (fun q => h57 ((nI_leI (by omega) (by omega)).mpr q))
                refine lv_aload_n cx.1 cx.2.1 dX5_share_60 rfl (lv_at hl 0 rfl) ?_
                refine gf_X5_56 cx hW (by decide) dX5_share_61 ?_
                refine lv_iload cx.1 cx.2.1 dX5_share_64 (lv_at hl 3 rfl) ?_
                refine lv_aload_n cx.1 cx.2.1 dX5_share_66 rfl (lv_at hl 0 rfl) ?_
                refine gf_X5_53 cx hW (by decide) dX5_share_67 ?_
                refine lv_iload cx.1 cx.2.1 dX5_share_70 (lv_at hl 3 rfl) ?_
                refine al_35 (j := i) cx hW (by decide) rfl (by omega) dX5_share_72 ?_
                refine as_36 (j := i) cx hW hS (by decide) rfl (by omega) dX5_share_73 (fun H locs hW hS => ?_)
                refine lv_iinc (v := nI (i + 1)) (lv' := [(5, .int (nI (i + 1))), (0, .ref (ad_ w 20 0)), (1, .long x), (3, .long (qw_ a 8))]) cx.1 cx.2.1 dX5_share_74 hl (k := 3) rfl (nI_inc i) (by decide) rfl (fun ls hl => ?_)
                refine lv_goto (tgt := 53) cx.1 cx.2.1 dX5_share_77 (by decide) ?_
                exact ih53 (i + 1) (by omega) (by omega)  H locs ls hW hS (lv_sub (l' := [(0, .ref (ad_ w 20 0)), (1, .long x), (3, .long (qw_ a 8)), (5, .int (nI (i + 1)))]) hl [1, 2, 3, 0] rfl)
          exact L53 (8 - 0 + 1) 0 (by omega) (by omega)  H locs ls hW hS (lv_sub hl [1, 2, 3, 0] rfl)
      · skip
        have h9 : i < 8 := Nat.not_le.mp (fun q => h9 ((nI_leI (by omega) (by omega)).mpr q))
        refine lv_lload_n cx.1 cx.2.1 dX5_share_12 rfl (lv_at hl 2 rfl) ?_
        refine lv_aload_n cx.1 cx.2.1 dX5_share_13 rfl (lv_at hl 0 rfl) ?_
        refine gf_X5_53 cx hW (by decide) dX5_share_14 ?_
        refine lv_iload cx.1 cx.2.1 dX5_share_17 (lv_at hl 3 rfl) ?_
        refine al_35 (j := i) cx hW (by decide) rfl (by omega) dX5_share_19 ?_
        refine tp_j (y := gl_ a 29 0 i) (ha_gl _ _ _ _ (by decide) (by decide) _) ?_
        refine lv_ladd cx.1 cx.2.1 dX5_share_20 ?_
        refine lv_lstore_n (lv' := [(3, .long ((qw_ a i) + (gl_ a 29 0 i))), (0, .ref (ad_ w 20 0)), (1, .long x), (5, .int (nI i))]) cx.1 cx.2.1 dX5_share_21 rfl hl (by decide) rfl (fun ls hl => ?_)
        refine lv_aload_n cx.1 cx.2.1 dX5_share_22 rfl (lv_at hl 1 rfl) ?_
        refine gf_X5_56 cx hW (by decide) dX5_share_23 ?_
        refine lv_iload cx.1 cx.2.1 dX5_share_26 (lv_at hl 3 rfl) ?_
        refine lv_lconst (v := 0) cx.1 cx.2.1 dX5_share_28 (by decide) ?_
        refine as_36 (j := i) cx hW hS (by decide) rfl (by omega) dX5_share_29 (fun H locs hW hS => ?_)
        refine lv_aload_n cx.1 cx.2.1 dX5_share_30 rfl (lv_at hl 1 rfl) ?_
        refine gf_X5_59 cx hW (by decide) dX5_share_31 ?_
        refine lv_iload cx.1 cx.2.1 dX5_share_34 (lv_at hl 3 rfl) ?_
        refine lv_lconst (v := 0) cx.1 cx.2.1 dX5_share_36 (by decide) ?_
        refine as_37 (j := i) cx hW hS (by decide) rfl (by omega) dX5_share_37 (fun H locs hW hS => ?_)
        refine lv_iinc (v := nI (i + 1)) (lv' := [(5, .int (nI (i + 1))), (3, .long ((qw_ a i) + (gl_ a 29 0 i))), (0, .ref (ad_ w 20 0)), (1, .long x)]) cx.1 cx.2.1 dX5_share_38 hl (k := 3) rfl (nI_inc i) (by decide) rfl (fun ls hl => ?_)
        refine lv_goto (tgt := 5) cx.1 cx.2.1 dX5_share_41 (by decide) ?_
        exact ih5 (i + 1) (by omega) (by omega)  H locs ls hW hS (lv_sub (l' := [(0, .ref (ad_ w 20 0)), (1, .long x), (3, .long (qw_ a (i + 1))), (5, .int (nI (i + 1)))]) hl [2, 3, 1, 0] rfl)
  exact L5 (8 - 0 + 1) 0 (by omega) (by omega)  H locs ls hW hS (lv_sub hl [2, 3, 1, 0] rfl)
def na_ (x : Int64) : Int64 := if 0 ≤ x then 0 else -x
def np_ (x : Int64) : Int64 := if 0 ≤ x then x else 0
def ni_ (x y : Int64) : Int64 := if y ≤ x then y else x
def x0_ (a : St_) (m : Nat) : Int64 := na_ (gl_ a 20 0 m)
def y0_ (a : St_) (m : Nat) : Int64 := ni_ (x0_ a m) (gl_ a 21 0 m)
def x1_ (a : St_) (m : Nat) : Int64 := x0_ a m - y0_ a m
def y1_ (a : St_) (m : Nat) : Int64 := ni_ (x1_ a m) (gl_ a 22 0 0)
def x2_ (a : St_) (m : Nat) : Int64 := x1_ a m - y1_ a m
def b1_ (a : St_) (m : Nat) : St_ := sl_ a 20 0 m (np_ (gl_ a 20 0 m))
def b2_ (a : St_) (m : Nat) : St_ := sl_ (b1_ a m) 28 0 0 (y0_ a m)
def b3_ (a : St_) (m : Nat) : St_ := sl_ (b2_ a m) 21 0 m (gl_ (b2_ a m) 21 0 m - gl_ (b2_ a m) 28 0 0)
def b4_ (a : St_) (m : Nat) : St_ := sl_ (b3_ a m) 28 0 1 (y1_ a m)
def fv_ (b : St_) (k i : Nat) : Int64 := if i < k ∧ gi_ b 23 0 i = 0 then gl_ b 21 0 i else 0
def fa_ (b : St_) (k : Nat) : Nat → St_
  | 0 => b
  | i + 1 => sl_ (sl_ (fa_ b k i) 29 0 i (fv_ (fa_ b k i) k i)) 27 0 i (gl_ (sl_ (fa_ b k i) 29 0 i (fv_ (fa_ b k i) k i)) 29 0 i)
theorem fa_gi (b : St_) (k v x y : Nat) : ∀ i, gi_ (fa_ b k i) v x y = gi_ b v x y
  | 0 => rfl
  | i + 1 => fa_gi b k v x y i
def fb_ (b : St_) : Nat → St_
  | 0 => b
  | i + 1 => sl_ (fb_ b i) 21 0 i (gl_ (fb_ b i) 21 0 i - gl_ (fb_ b i) 30 0 i)
theorem fb_gl (b : St_) (v x y : Nat) (hv : v ≠ 21) : ∀ i, gl_ (fb_ b i) v x y = gl_ b v x y
  | 0 => rfl
  | i + 1 => by rw [fb_, gl_sl, if_neg (fun h => hv h.1), fb_gl b v x y hv i]
def fc_ (b : St_) : Nat → St_
  | 0 => b
  | i + 1 => sl_ (fc_ b i) 29 0 i (ni_ (gl_ (fc_ b i) 27 0 i) (np_ (gl_ (fc_ b i) 20 0 i)))
def fd_ (b : St_) : Nat → St_
  | 0 => b
  | i + 1 => sl_ (fd_ b i) 20 0 i (gl_ (fd_ b i) 20 0 i - gl_ (fd_ b i) 30 0 i)
theorem fd_gl (b : St_) (v x y : Nat) (hv : v ≠ 20) : ∀ i, gl_ (fd_ b i) v x y = gl_ b v x y
  | 0 => rfl
  | i + 1 => by rw [fd_, gl_sl, if_neg (fun h => hv h.1), fd_gl b v x y hv i]
def p2_ (a : St_) (m k : Nat) : St_ := fa_ (b4_ a m) k 8
def y2_ (a : St_) (m k : Nat) : Int64 := shv_ (p2_ a m k) (x2_ a m)
def p3_ (a : St_) (m k : Nat) : St_ := sl_ (shs_ (p2_ a m k) (x2_ a m)) 28 0 2 (y2_ a m k)
def p4_ (a : St_) (m k : Nat) : St_ := fb_ (p3_ a m k) 8
def x3_ (a : St_) (m k : Nat) : Int64 := x2_ a m - y2_ a m k
def p5_ (a : St_) (m k : Nat) : St_ := fc_ (p4_ a m k) 8
def y3_ (a : St_) (m k : Nat) : Int64 := shv_ (p5_ a m k) (x3_ a m k)
def p6_ (a : St_) (m k : Nat) : St_ := sl_ (shs_ (p5_ a m k) (x3_ a m k)) 28 0 3 (y3_ a m k)
def p7_ (a : St_) (m k : Nat) : St_ := fd_ (p6_ a m k) 8
def x4_ (a : St_) (m k : Nat) : Int64 := x3_ a m k - y3_ a m k
def p8_ (a : St_) (m k : Nat) : St_ := sl_ (p7_ a m k) 28 0 4 (x4_ a m k)
abbrev hc_ (a : St_) (x : Int64) : Prop := x < qw_ a 8 → ∃ c, c ≤ 8 ∧ s1_ a x = lN c
set_option maxHeartbeats 4000000 in
set_option maxRecDepth 100000 in
theorem c_X5_bear (l : Launch) {w : Gh_} (hI : In_ w) (a : St_) (k : Nat) (hk : gi_ a 21 0 0 = nI k) (hk8 : k ≤ 8) (m : Nat) (hm : m < 8) (hc1 : hc_ (p2_ a m k) (x2_ a m)) (hc2 : hc_ (p5_ a m k) (x3_ a m k)) : Fn_ l w yX5_bear (.code yX5_bear cX5_bear 7 (some .long)) { frames := 2, cells := 0, slots := 0, locals := 58 } 0 0 [.ref (ad_ w 20 0), .int (nI m)] a (.inl (some (.long (x4_ a m k)))) (p8_ a m k) := by
  refine Fn_of hI (by decide +kernel) (Nat.le_of_ble_eq_true rfl) ?_
  intro zp ze zs zm zb zt zc ls cx hr hlk hno hW hS hl
  replace cx : Cx_ zp zs zm zc _ cX5_bear 7 "MarginHouseModel" w := cx
  replace hl : lv_has ls 7 [(0, .ref (ad_ w 20 0)), (1, .int (nI m))] := hl
  obtain ⟨H, hH⟩ : ∃ H, zs.heap = H := ⟨_, rfl⟩
  rw [hH] at hW
  have hS : Fr_ w zs.heap H [] := by rw [← hH]; exact hS
  obtain ⟨locs, hlocs⟩ : ∃ x : List Loc, x = [] := ⟨_, rfl⟩
  rw [← hlocs] at hS ⊢
  rw [show W zp l ze _ zs zm _ zb zt zc zs.heap locs 0 0 _ (F0 zm 0 ls []) ↔ W zp l ze _ zs zm _ zb zt zc H locs 0 0 _ (F0 zm 0 ls []) from by rw [hH]]
  have J22 : ∀ (H : Heap) (locs : List Loc) (ls : Array Slot), Hd_ w a H → Fr_ w zs.heap H locs → lv_has ls 7 [(0, .ref (ad_ w 20 0)), (1, .int (nI m))] → W zp l ze { frames := 2, cells := 0, slots := 0, locals := 58 } zs zm ([.ref (ad_ w 20 0), .int (nI m)] : List Value).toArray zb zt zc H locs 0 0 (vx_MQ zb (Qc_ w (.inl (some (.long (x4_ a m k)))) (p8_ a m k)) (XC_ w (.inl (some (.long (x4_ a m k)))) (p8_ a m k)) ([.ref (ad_ w 20 0), .int (nI m)] : List Value).toArray zs 0 0 (fun q => lo_ w ≤ q)) (F0 zm 22 ls [.long (x0_ a m)]) := by
    intro H locs ls hW hS hl
    refine lv_lstore_n (lv' := [(2, .long (x0_ a m)), (0, .ref (ad_ w 20 0)), (1, .int (nI m))]) cx.1 cx.2.1 dX5_bear_22 rfl hl (by decide) rfl (fun ls hl => ?_)
    have J49 : ∀ (H : Heap) (locs : List Loc) (ls : Array Slot), Hd_ w a H → Fr_ w zs.heap H locs → lv_has ls 7 [(0, .ref (ad_ w 20 0)), (1, .int (nI m)), (2, .long (x0_ a m))] → W zp l ze { frames := 2, cells := 0, slots := 0, locals := 58 } zs zm ([.ref (ad_ w 20 0), .int (nI m)] : List Value).toArray zb zt zc H locs 0 0 (vx_MQ zb (Qc_ w (.inl (some (.long (x4_ a m k)))) (p8_ a m k)) (XC_ w (.inl (some (.long (x4_ a m k)))) (p8_ a m k)) ([.ref (ad_ w 20 0), .int (nI m)] : List Value).toArray zs 0 0 (fun q => lo_ w ≤ q)) (F0 zm 49 ls [.long (np_ (gl_ a 20 0 m)), .int (nI m), .ref (ad_ w 21 0)]) := by
      intro H locs ls hW hS hl
      refine as_21 (j := m) cx hW hS (by decide) rfl (by omega) dX5_bear_49 (fun H locs hW hS => ?_)
      replace hW : Hd_ w (b1_ a m) H := hW
      have J76 : ∀ (H : Heap) (locs : List Loc) (ls : Array Slot), Hd_ w (b1_ a m) H → Fr_ w zs.heap H locs → lv_has ls 7 [(0, .ref (ad_ w 20 0)), (1, .int (nI m)), (2, .long (x0_ a m))] → W zp l ze { frames := 2, cells := 0, slots := 0, locals := 58 } zs zm ([.ref (ad_ w 20 0), .int (nI m)] : List Value).toArray zb zt zc H locs 0 0 (vx_MQ zb (Qc_ w (.inl (some (.long (x4_ a m k)))) (p8_ a m k)) (XC_ w (.inl (some (.long (x4_ a m k)))) (p8_ a m k)) ([.ref (ad_ w 20 0), .int (nI m)] : List Value).toArray zs 0 0 (fun q => lo_ w ≤ q)) (F0 zm 76 ls [.long (y0_ a m), .int 0, .ref (ad_ w 34 0)]) := by
        intro H locs ls hW hS hl
        refine as_34 (j := 0) cx hW hS (by decide) (by decide +kernel) (by decide) dX5_bear_76 (fun H locs hW hS => ?_)
        replace hW : Hd_ w (b2_ a m) H := hW
        refine lv_aload_n cx.1 cx.2.1 dX5_bear_77 rfl (lv_at hl 0 rfl) ?_
        refine gf_X5_13 cx hW (by decide) dX5_bear_78 ?_
        refine lv_iload_n cx.1 cx.2.1 dX5_bear_81 rfl (lv_at hl 1 rfl) ?_
        refine lv_aload_n cx.1 cx.2.1 dX5_bear_82 rfl (lv_at hl 0 rfl) ?_
        refine gf_X5_13 cx hW (by decide) dX5_bear_83 ?_
        refine lv_iload_n cx.1 cx.2.1 dX5_bear_86 rfl (lv_at hl 1 rfl) ?_
        refine al_22 (j := m) cx hW (by decide) rfl (by omega) dX5_bear_87 ?_
        refine lv_aload_n cx.1 cx.2.1 dX5_bear_88 rfl (lv_at hl 0 rfl) ?_
        refine gf_X5_50 cx hW (by decide) dX5_bear_89 ?_
        refine lv_iconst (v := 0) cx.1 cx.2.1 dX5_bear_92 (by decide) ?_
        refine al_34 (j := 0) cx hW (by decide) (by decide +kernel) (by decide) dX5_bear_93 ?_
        refine lv_lsub cx.1 cx.2.1 dX5_bear_94 ?_
        refine as_22 (j := m) cx hW hS (by decide) rfl (by omega) dX5_bear_95 (fun H locs hW hS => ?_)
        replace hW : Hd_ w (b3_ a m) H := hW
        refine lv_lload_n cx.1 cx.2.1 dX5_bear_96 rfl (lv_at hl 2 rfl) ?_
        refine lv_aload_n cx.1 cx.2.1 dX5_bear_97 rfl (lv_at hl 0 rfl) ?_
        refine gf_X5_50 cx hW (by decide) dX5_bear_98 ?_
        refine lv_iconst (v := 0) cx.1 cx.2.1 dX5_bear_101 (by decide) ?_
        refine al_34 (j := 0) cx hW (by decide) (by decide +kernel) (by decide) dX5_bear_102 ?_
        refine tp_j (y := y0_ a m) rfl ?_
        refine lv_lsub cx.1 cx.2.1 dX5_bear_103 ?_
        refine tp_j (y := x1_ a m) rfl ?_
        refine lv_lstore_n (lv' := [(2, .long (x1_ a m)), (0, .ref (ad_ w 20 0)), (1, .int (nI m))]) cx.1 cx.2.1 dX5_bear_104 rfl hl (by decide) rfl (fun ls hl => ?_)
        have J127 : ∀ (H : Heap) (locs : List Loc) (ls : Array Slot), Hd_ w (b3_ a m) H → Fr_ w zs.heap H locs → lv_has ls 7 [(0, .ref (ad_ w 20 0)), (1, .int (nI m)), (2, .long (x1_ a m))] → W zp l ze { frames := 2, cells := 0, slots := 0, locals := 58 } zs zm ([.ref (ad_ w 20 0), .int (nI m)] : List Value).toArray zb zt zc H locs 0 0 (vx_MQ zb (Qc_ w (.inl (some (.long (x4_ a m k)))) (p8_ a m k)) (XC_ w (.inl (some (.long (x4_ a m k)))) (p8_ a m k)) ([.ref (ad_ w 20 0), .int (nI m)] : List Value).toArray zs 0 0 (fun q => lo_ w ≤ q)) (F0 zm 127 ls [.long (y1_ a m), .int 1, .ref (ad_ w 34 0)]) := by
          intro H locs ls hW hS hl
          refine as_34 (j := 1) cx hW hS (by decide) (by decide +kernel) (by decide) dX5_bear_127 (fun H locs hW hS => ?_)
          replace hW : Hd_ w (b4_ a m) H := hW
          refine lv_lload_n cx.1 cx.2.1 dX5_bear_128 rfl (lv_at hl 2 rfl) ?_
          refine lv_aload_n cx.1 cx.2.1 dX5_bear_129 rfl (lv_at hl 0 rfl) ?_
          refine gf_X5_50 cx hW (by decide) dX5_bear_130 ?_
          refine lv_iconst (v := 1) cx.1 cx.2.1 dX5_bear_133 (by decide) ?_
          refine al_34 (j := 1) cx hW (by decide) (by decide +kernel) (by decide) dX5_bear_134 ?_
          refine tp_j (y := y1_ a m) rfl ?_
          refine lv_lsub cx.1 cx.2.1 dX5_bear_135 ?_
          refine tp_j (y := x2_ a m) rfl ?_
          refine lv_lstore_n (lv' := [(2, .long (x2_ a m)), (0, .ref (ad_ w 20 0)), (1, .int (nI m))]) cx.1 cx.2.1 dX5_bear_136 rfl hl (by decide) rfl (fun ls hl => ?_)
          refine lv_iconst (v := 0) cx.1 cx.2.1 dX5_bear_137 (by decide) ?_
          refine lv_istore (lv' := [(4, .int 0), (2, .long (x2_ a m)), (0, .ref (ad_ w 20 0)), (1, .int (nI m))]) cx.1 cx.2.1 dX5_bear_138 hl (by decide) rfl (fun ls hl => ?_)
          have L140 : ∀ (d i : Nat), i ≤ 8 → 8 - i < d → ∀ (H : Heap) (locs : List Loc) (ls : Array Slot), Hd_ w (fa_ (b4_ a m) k i) H → Fr_ w zs.heap H locs → lv_has ls 7 [(0, .ref (ad_ w 20 0)), (1, .int (nI m)), (2, .long (x2_ a m)), (4, .int (nI i))] → W zp l ze { frames := 2, cells := 0, slots := 0, locals := 58 } zs zm ([.ref (ad_ w 20 0), .int (nI m)] : List Value).toArray zb zt zc H locs 0 0 (vx_MQ zb (Qc_ w (.inl (some (.long (x4_ a m k)))) (p8_ a m k)) (XC_ w (.inl (some (.long (x4_ a m k)))) (p8_ a m k)) ([.ref (ad_ w 20 0), .int (nI m)] : List Value).toArray zs 0 0 (fun q => lo_ w ≤ q)) (F0 zm 140 ls []) := by
            intro d
            induction d with
            | zero => intro i _ hd; exact absurd hd (Nat.not_lt_zero _)
            | succ d ih140 =>
              intro i hi hdi  H locs ls hW hS hl
              refine lv_iload cx.1 cx.2.1 dX5_bear_140 (lv_at hl 3 rfl) ?_
              refine lv_bipush (v := 8) cx.1 cx.2.1 dX5_bear_142 (by decide) ?_
              refine tp_i (y := nI 8) (by decide +kernel) ?_
              refine lv_icmp_ge (tgt := 204) cx.1 cx.2.1 dX5_bear_144 (by decide) (fun h144 => ?_) (fun h144 => ?_)
              · skip
                have h144 : 8 ≤ i := (nI_leI (by omega) (by omega)).mp h144
                have e140 : i = 8 := by omega
                try rw [e140] at hl
                try rw [e140] at hW
                refine lv_aload_n cx.1 cx.2.1 dX5_bear_204 rfl (lv_at hl 0 rfl) ?_
                refine gf_X5_50 cx hW (by decide) dX5_bear_205 ?_
                refine lv_iconst (v := 2) cx.1 cx.2.1 dX5_bear_208 (by decide) ?_
                refine lv_aload_n cx.1 cx.2.1 dX5_bear_209 rfl (lv_at hl 0 rfl) ?_
                refine lv_lload_n cx.1 cx.2.1 dX5_bear_210 rfl (lv_at hl 2 rfl) ?_
                refine ck_V (v := some (.long (shv_ (fa_ (b4_ a m) k 8) (x2_ a m)))) (As := [.long (x2_ a m)]) (rest := [.int 2, .ref (ad_ w 34 0)]) (k := 20) (i := 0) (T := TX5) cx hW hS hl (by decide) rfl rfl (c_X5_share l hI (fa_ (b4_ a m) k 8) (x2_ a m) hc1) cw_X5_share nw_495 nw_550 nw_494 rfl rfl (Nat.le_of_ble_eq_true rfl) rfl rfl ⟨Nat.le_of_ble_eq_true rfl, Nat.le_of_ble_eq_true rfl⟩ ⟨Nat.le_of_ble_eq_true rfl, Nat.le_of_ble_eq_true rfl⟩ dX5_bear_211 (fun H locs hW hS => ?_)
                refine W.eq (g2 := F0 zm 214 ls [.long (shv_ (fa_ (b4_ a m) k 8) (x2_ a m)), .int 2, .ref (ad_ w 34 0)]) rfl ?_
                refine as_34 (j := 2) cx hW hS (by decide) (by decide +kernel) (by decide) dX5_bear_214 (fun H locs hW hS => ?_)
                replace hW : Hd_ w (p3_ a m k) H := hW
                refine lv_iconst (v := 0) cx.1 cx.2.1 dX5_bear_215 (by decide) ?_
                refine lv_istore (lv' := [(4, .int 0), (0, .ref (ad_ w 20 0)), (1, .int (nI m)), (2, .long (x2_ a m))]) cx.1 cx.2.1 dX5_bear_216 hl (by decide) rfl (fun ls hl => ?_)
                have L218 : ∀ (d i : Nat), i ≤ 8 → 8 - i < d → ∀ (H : Heap) (locs : List Loc) (ls : Array Slot), Hd_ w (fb_ (p3_ a m k) i) H → Fr_ w zs.heap H locs → lv_has ls 7 [(0, .ref (ad_ w 20 0)), (1, .int (nI m)), (2, .long (x2_ a m)), (4, .int (nI i))] → W zp l ze { frames := 2, cells := 0, slots := 0, locals := 58 } zs zm ([.ref (ad_ w 20 0), .int (nI m)] : List Value).toArray zb zt zc H locs 0 0 (vx_MQ zb (Qc_ w (.inl (some (.long (x4_ a m k)))) (p8_ a m k)) (XC_ w (.inl (some (.long (x4_ a m k)))) (p8_ a m k)) ([.ref (ad_ w 20 0), .int (nI m)] : List Value).toArray zs 0 0 (fun q => lo_ w ≤ q)) (F0 zm 218 ls []) := by
                  intro d
                  induction d with
                  | zero => intro i _ hd; exact absurd hd (Nat.not_lt_zero _)
                  | succ d ih218 =>
                    intro i hi hdi  H locs ls hW hS hl
                    refine lv_iload cx.1 cx.2.1 dX5_bear_218 (lv_at hl 3 rfl) ?_
                    refine lv_bipush (v := 8) cx.1 cx.2.1 dX5_bear_220 (by decide) ?_
                    refine tp_i (y := nI 8) (by decide +kernel) ?_
                    refine lv_icmp_ge (tgt := 253) cx.1 cx.2.1 dX5_bear_222 (by decide) (fun h222 => ?_) (fun h222 => ?_)
                    · skip
                      have h222 : 8 ≤ i := (nI_leI (by omega) (by omega)).mp h222
                      have e218 : i = 8 := by omega
                      try rw [e218] at hl
                      try rw [e218] at hW
                      refine lv_lload_n cx.1 cx.2.1 dX5_bear_253 rfl (lv_at hl 2 rfl) ?_
                      refine lv_aload_n cx.1 cx.2.1 dX5_bear_254 rfl (lv_at hl 0 rfl) ?_
                      refine gf_X5_50 cx hW (by decide) dX5_bear_255 ?_
                      refine lv_iconst (v := 2) cx.1 cx.2.1 dX5_bear_258 (by decide) ?_
                      refine al_34 (j := 2) cx hW (by decide) (by decide +kernel) (by decide) dX5_bear_259 ?_
                      refine tp_j (y := y2_ a m k) (by rw [fb_gl _ _ _ _ (by decide)]; rfl) ?_
                      refine lv_lsub cx.1 cx.2.1 dX5_bear_260 ?_
                      refine tp_j (y := x3_ a m k) rfl ?_
                      refine lv_lstore_n (lv' := [(2, .long (x3_ a m k)), (0, .ref (ad_ w 20 0)), (1, .int (nI m)), (4, .int (nI 8))]) cx.1 cx.2.1 dX5_bear_261 rfl hl (by decide) rfl (fun ls hl => ?_)
                      refine lv_iconst (v := 0) cx.1 cx.2.1 dX5_bear_262 (by decide) ?_
                      refine lv_istore (lv' := [(4, .int 0), (2, .long (x3_ a m k)), (0, .ref (ad_ w 20 0)), (1, .int (nI m))]) cx.1 cx.2.1 dX5_bear_263 hl (by decide) rfl (fun ls hl => ?_)
                      have L265 : ∀ (d i : Nat), i ≤ 8 → 8 - i < d → ∀ (H : Heap) (locs : List Loc) (ls : Array Slot), Hd_ w (fc_ (p4_ a m k) i) H → Fr_ w zs.heap H locs → lv_has ls 7 [(0, .ref (ad_ w 20 0)), (1, .int (nI m)), (2, .long (x3_ a m k)), (4, .int (nI i))] → W zp l ze { frames := 2, cells := 0, slots := 0, locals := 58 } zs zm ([.ref (ad_ w 20 0), .int (nI m)] : List Value).toArray zb zt zc H locs 0 0 (vx_MQ zb (Qc_ w (.inl (some (.long (x4_ a m k)))) (p8_ a m k)) (XC_ w (.inl (some (.long (x4_ a m k)))) (p8_ a m k)) ([.ref (ad_ w 20 0), .int (nI m)] : List Value).toArray zs 0 0 (fun q => lo_ w ≤ q)) (F0 zm 265 ls []) := by
                        intro d
                        induction d with
                        | zero => intro i _ hd; exact absurd hd (Nat.not_lt_zero _)
                        | succ d ih265 =>
                          intro i hi hdi  H locs ls hW hS hl
                          refine lv_iload cx.1 cx.2.1 dX5_bear_265 (lv_at hl 3 rfl) ?_
                          refine lv_bipush (v := 8) cx.1 cx.2.1 dX5_bear_267 (by decide) ?_
                          refine tp_i (y := nI 8) (by decide +kernel) ?_
                          refine lv_icmp_ge (tgt := 335) cx.1 cx.2.1 dX5_bear_269 (by decide) (fun h269 => ?_) (fun h269 => ?_)
                          · skip
                            have h269 : 8 ≤ i := (nI_leI (by omega) (by omega)).mp h269
                            have e265 : i = 8 := by omega
                            try rw [e265] at hl
                            try rw [e265] at hW
                            refine lv_aload_n cx.1 cx.2.1 dX5_bear_335 rfl (lv_at hl 0 rfl) ?_
                            refine gf_X5_50 cx hW (by decide) dX5_bear_336 ?_
                            refine lv_iconst (v := 3) cx.1 cx.2.1 dX5_bear_339 (by decide) ?_
                            refine lv_aload_n cx.1 cx.2.1 dX5_bear_340 rfl (lv_at hl 0 rfl) ?_
                            refine lv_lload_n cx.1 cx.2.1 dX5_bear_341 rfl (lv_at hl 2 rfl) ?_
                            refine ck_V (v := some (.long (shv_ (fc_ (p4_ a m k) 8) (x3_ a m k)))) (As := [.long (x3_ a m k)]) (rest := [.int 3, .ref (ad_ w 34 0)]) (k := 20) (i := 0) (T := TX5) cx hW hS hl (by decide) rfl rfl (c_X5_share l hI (fc_ (p4_ a m k) 8) (x3_ a m k) hc2) cw_X5_share nw_495 nw_550 nw_494 rfl rfl (Nat.le_of_ble_eq_true rfl) rfl rfl ⟨Nat.le_of_ble_eq_true rfl, Nat.le_of_ble_eq_true rfl⟩ ⟨Nat.le_of_ble_eq_true rfl, Nat.le_of_ble_eq_true rfl⟩ dX5_bear_342 (fun H locs hW hS => ?_)
                            refine W.eq (g2 := F0 zm 345 ls [.long (shv_ (fc_ (p4_ a m k) 8) (x3_ a m k)), .int 3, .ref (ad_ w 34 0)]) rfl ?_
                            refine as_34 (j := 3) cx hW hS (by decide) (by decide +kernel) (by decide) dX5_bear_345 (fun H locs hW hS => ?_)
                            replace hW : Hd_ w (p6_ a m k) H := hW
                            refine lv_iconst (v := 0) cx.1 cx.2.1 dX5_bear_346 (by decide) ?_
                            refine lv_istore (lv' := [(4, .int 0), (0, .ref (ad_ w 20 0)), (1, .int (nI m)), (2, .long (x3_ a m k))]) cx.1 cx.2.1 dX5_bear_347 hl (by decide) rfl (fun ls hl => ?_)
                            have L349 : ∀ (d i : Nat), i ≤ 8 → 8 - i < d → ∀ (H : Heap) (locs : List Loc) (ls : Array Slot), Hd_ w (fd_ (p6_ a m k) i) H → Fr_ w zs.heap H locs → lv_has ls 7 [(0, .ref (ad_ w 20 0)), (1, .int (nI m)), (2, .long (x3_ a m k)), (4, .int (nI i))] → W zp l ze { frames := 2, cells := 0, slots := 0, locals := 58 } zs zm ([.ref (ad_ w 20 0), .int (nI m)] : List Value).toArray zb zt zc H locs 0 0 (vx_MQ zb (Qc_ w (.inl (some (.long (x4_ a m k)))) (p8_ a m k)) (XC_ w (.inl (some (.long (x4_ a m k)))) (p8_ a m k)) ([.ref (ad_ w 20 0), .int (nI m)] : List Value).toArray zs 0 0 (fun q => lo_ w ≤ q)) (F0 zm 349 ls []) := by
                              intro d
                              induction d with
                              | zero => intro i _ hd; exact absurd hd (Nat.not_lt_zero _)
                              | succ d ih349 =>
                                intro i hi hdi  H locs ls hW hS hl
                                refine lv_iload cx.1 cx.2.1 dX5_bear_349 (lv_at hl 3 rfl) ?_
                                refine lv_bipush (v := 8) cx.1 cx.2.1 dX5_bear_351 (by decide) ?_
                                refine tp_i (y := nI 8) (by decide +kernel) ?_
                                refine lv_icmp_ge (tgt := 384) cx.1 cx.2.1 dX5_bear_353 (by decide) (fun h353 => ?_) (fun h353 => ?_)
                                · skip
                                  have h353 : 8 ≤ i := (nI_leI (by omega) (by omega)).mp h353
                                  have e349 : i = 8 := by omega
                                  try rw [e349] at hl
                                  try rw [e349] at hW
                                  refine lv_aload_n cx.1 cx.2.1 dX5_bear_384 rfl (lv_at hl 0 rfl) ?_
                                  refine gf_X5_50 cx hW (by decide) dX5_bear_385 ?_
                                  refine lv_iconst (v := 4) cx.1 cx.2.1 dX5_bear_388 (by decide) ?_
                                  refine lv_lload_n cx.1 cx.2.1 dX5_bear_389 rfl (lv_at hl 2 rfl) ?_
                                  refine lv_aload_n cx.1 cx.2.1 dX5_bear_390 rfl (lv_at hl 0 rfl) ?_
                                  refine gf_X5_50 cx hW (by decide) dX5_bear_391 ?_
                                  refine lv_iconst (v := 3) cx.1 cx.2.1 dX5_bear_394 (by decide) ?_
                                  refine al_34 (j := 3) cx hW (by decide) (by decide +kernel) (by decide) dX5_bear_395 ?_
                                  refine tp_j (y := y3_ a m k) (by rw [fd_gl _ _ _ _ (by decide)]; rfl) ?_
                                  refine lv_lsub cx.1 cx.2.1 dX5_bear_396 ?_
                                  refine tp_j (y := x4_ a m k) rfl ?_
                                  refine as_34 (j := 4) cx hW hS (by decide) (by decide +kernel) (by decide) dX5_bear_397 (fun H locs hW hS => ?_)
                                  replace hW : Hd_ w (p8_ a m k) H := hW
                                  refine lv_aload_n cx.1 cx.2.1 dX5_bear_398 rfl (lv_at hl 0 rfl) ?_
                                  refine gf_X5_50 cx hW (by decide) dX5_bear_399 ?_
                                  refine lv_iconst (v := 4) cx.1 cx.2.1 dX5_bear_402 (by decide) ?_
                                  refine al_34 (j := 4) cx hW (by decide) (by decide +kernel) (by decide) dX5_bear_403 ?_
                                  refine tp_j (y := x4_ a m k) rfl ?_
                                  exact cr_l cx hr hlk hW hS (Nat.le_of_ble_eq_true rfl) (Nat.le_of_ble_eq_true rfl) dX5_bear_404 rfl rfl
                                · skip
                                  have h353 : i < 8 := Nat.not_le.mp (fun q => h353 ((nI_leI (by omega) (by omega)).mpr q))
                                  refine lv_aload_n cx.1 cx.2.1 dX5_bear_356 rfl (lv_at hl 0 rfl) ?_
                                  refine gf_X5_7 cx hW (by decide) dX5_bear_357 ?_
                                  refine lv_iload cx.1 cx.2.1 dX5_bear_360 (lv_at hl 3 rfl) ?_
                                  refine lv_aload_n cx.1 cx.2.1 dX5_bear_362 rfl (lv_at hl 0 rfl) ?_
                                  refine gf_X5_7 cx hW (by decide) dX5_bear_363 ?_
                                  refine lv_iload cx.1 cx.2.1 dX5_bear_366 (lv_at hl 3 rfl) ?_
                                  refine al_21 (j := i) cx hW (by decide) rfl (by omega) dX5_bear_368 ?_
                                  refine lv_aload_n cx.1 cx.2.1 dX5_bear_369 rfl (lv_at hl 0 rfl) ?_
                                  refine gf_X5_56 cx hW (by decide) dX5_bear_370 ?_
                                  refine lv_iload cx.1 cx.2.1 dX5_bear_373 (lv_at hl 3 rfl) ?_
                                  refine al_36 (j := i) cx hW (by decide) rfl (by omega) dX5_bear_375 ?_
                                  refine lv_lsub cx.1 cx.2.1 dX5_bear_376 ?_
                                  refine as_21 (j := i) cx hW hS (by decide) rfl (by omega) dX5_bear_377 (fun H locs hW hS => ?_)
                                  refine lv_iinc (v := nI (i + 1)) (lv' := [(4, .int (nI (i + 1))), (0, .ref (ad_ w 20 0)), (1, .int (nI m)), (2, .long (x3_ a m k))]) cx.1 cx.2.1 dX5_bear_378 hl (k := 3) rfl (nI_inc i) (by decide) rfl (fun ls hl => ?_)
                                  refine lv_goto (tgt := 349) cx.1 cx.2.1 dX5_bear_381 (by decide) ?_
                                  exact ih349 (i + 1) (by omega) (by omega)  H locs ls hW hS (lv_sub (l' := [(0, .ref (ad_ w 20 0)), (1, .int (nI m)), (2, .long (x3_ a m k)), (4, .int (nI (i + 1)))]) hl [1, 2, 3, 0] rfl)
                            exact L349 (8 - 0 + 1) 0 (by omega) (by omega)  H locs ls hW hS (lv_sub hl [1, 2, 3, 0] rfl)
                          · skip
                            have h269 : i < 8 := Nat.not_le.mp (fun q => h269 ((nI_leI (by omega) (by omega)).mpr q))
                            refine lv_aload_n cx.1 cx.2.1 dX5_bear_272 rfl (lv_at hl 0 rfl) ?_
                            refine gf_X5_7 cx hW (by decide) dX5_bear_273 ?_
                            refine lv_iload cx.1 cx.2.1 dX5_bear_276 (lv_at hl 3 rfl) ?_
                            refine al_21 (j := i) cx hW (by decide) rfl (by omega) dX5_bear_278 ?_
                            refine lv_lconst (v := 0) cx.1 cx.2.1 dX5_bear_279 (by decide) ?_
                            refine lc_ge (tgt := 288) cx.1 cx.2.1 dX5_bear_280 dX5_bear_281 (by decide) (fun h280 => ?_) (fun h280 => ?_)
                            · skip
                              skip
                              refine lv_aload_n cx.1 cx.2.1 dX5_bear_288 rfl (lv_at hl 0 rfl) ?_
                              refine gf_X5_7 cx hW (by decide) dX5_bear_289 ?_
                              refine lv_iload cx.1 cx.2.1 dX5_bear_292 (lv_at hl 3 rfl) ?_
                              refine al_21 (j := i) cx hW (by decide) rfl (by omega) dX5_bear_294 ?_
                              refine tp_j (y := np_ (gl_ (fc_ (p4_ a m k) i) 20 0 i)) (by rw [np_, if_pos h280]) ?_
                              refine lv_lstore (lv' := [(5, .long (np_ (gl_ (fc_ (p4_ a m k) i) 20 0 i))), (0, .ref (ad_ w 20 0)), (1, .int (nI m)), (2, .long (x3_ a m k)), (4, .int (nI i))]) cx.1 cx.2.1 dX5_bear_295 hl (by decide) rfl (fun ls hl => ?_)
                              refine lv_aload_n cx.1 cx.2.1 dX5_bear_297 rfl (lv_at hl 1 rfl) ?_
                              refine gf_X5_53 cx hW (by decide) dX5_bear_298 ?_
                              refine lv_iload cx.1 cx.2.1 dX5_bear_301 (lv_at hl 4 rfl) ?_
                              refine lv_aload_n cx.1 cx.2.1 dX5_bear_303 rfl (lv_at hl 1 rfl) ?_
                              refine gf_X5_44 cx hW (by decide) dX5_bear_304 ?_
                              refine lv_iload cx.1 cx.2.1 dX5_bear_307 (lv_at hl 4 rfl) ?_
                              refine al_32 (j := i) cx hW (by decide) rfl (by omega) dX5_bear_309 ?_
                              refine lv_lload cx.1 cx.2.1 dX5_bear_310 (lv_at hl 0 rfl) ?_
                              refine lc_ge (tgt := 326) cx.1 cx.2.1 dX5_bear_312 dX5_bear_313 (by decide) (fun h312 => ?_) (fun h312 => ?_)
                              · skip
                                skip
                                refine lv_lload cx.1 cx.2.1 dX5_bear_326 (lv_at hl 0 rfl) ?_
                                refine tp_j (y := ni_ (gl_ (fc_ (p4_ a m k) i) 27 0 i) (np_ (gl_ (fc_ (p4_ a m k) i) 20 0 i))) (by rw [ni_, if_pos h312]) ?_
                                refine as_35 (j := i) cx hW hS (by decide) rfl (by omega) dX5_bear_328 (fun H locs hW hS => ?_)
                                refine lv_iinc (v := nI (i + 1)) (lv' := [(4, .int (nI (i + 1))), (5, .long (np_ (gl_ (fc_ (p4_ a m k) i) 20 0 i))), (0, .ref (ad_ w 20 0)), (1, .int (nI m)), (2, .long (x3_ a m k))]) cx.1 cx.2.1 dX5_bear_329 hl (k := 4) rfl (nI_inc i) (by decide) rfl (fun ls hl => ?_)
                                refine lv_goto (tgt := 265) cx.1 cx.2.1 dX5_bear_332 (by decide) ?_
                                exact ih265 (i + 1) (by omega) (by omega)  H locs ls hW hS (lv_sub (l' := [(0, .ref (ad_ w 20 0)), (1, .int (nI m)), (2, .long (x3_ a m k)), (4, .int (nI (i + 1)))]) hl [2, 3, 4, 0] rfl)
                              · skip
                                skip
                                refine lv_aload_n cx.1 cx.2.1 dX5_bear_316 rfl (lv_at hl 1 rfl) ?_
                                refine gf_X5_44 cx hW (by decide) dX5_bear_317 ?_
                                refine lv_iload cx.1 cx.2.1 dX5_bear_320 (lv_at hl 4 rfl) ?_
                                refine al_32 (j := i) cx hW (by decide) rfl (by omega) dX5_bear_322 ?_
                                refine lv_goto (tgt := 328) cx.1 cx.2.1 dX5_bear_323 (by decide) ?_
                                refine tp_j (y := ni_ (gl_ (fc_ (p4_ a m k) i) 27 0 i) (np_ (gl_ (fc_ (p4_ a m k) i) 20 0 i))) (by rw [ni_, if_neg h312]) ?_
                                refine as_35 (j := i) cx hW hS (by decide) rfl (by omega) dX5_bear_328 (fun H locs hW hS => ?_)
                                refine lv_iinc (v := nI (i + 1)) (lv' := [(4, .int (nI (i + 1))), (5, .long (np_ (gl_ (fc_ (p4_ a m k) i) 20 0 i))), (0, .ref (ad_ w 20 0)), (1, .int (nI m)), (2, .long (x3_ a m k))]) cx.1 cx.2.1 dX5_bear_329 hl (k := 4) rfl (nI_inc i) (by decide) rfl (fun ls hl => ?_)
                                refine lv_goto (tgt := 265) cx.1 cx.2.1 dX5_bear_332 (by decide) ?_
                                exact ih265 (i + 1) (by omega) (by omega)  H locs ls hW hS (lv_sub (l' := [(0, .ref (ad_ w 20 0)), (1, .int (nI m)), (2, .long (x3_ a m k)), (4, .int (nI (i + 1)))]) hl [2, 3, 4, 0] rfl)
                            · skip
                              skip
                              refine lv_lconst (v := 0) cx.1 cx.2.1 dX5_bear_284 (by decide) ?_
                              refine lv_goto (tgt := 295) cx.1 cx.2.1 dX5_bear_285 (by decide) ?_
                              refine tp_j (y := np_ (gl_ (fc_ (p4_ a m k) i) 20 0 i)) (by rw [np_, if_neg h280]) ?_
                              refine lv_lstore (lv' := [(5, .long (np_ (gl_ (fc_ (p4_ a m k) i) 20 0 i))), (0, .ref (ad_ w 20 0)), (1, .int (nI m)), (2, .long (x3_ a m k)), (4, .int (nI i))]) cx.1 cx.2.1 dX5_bear_295 hl (by decide) rfl (fun ls hl => ?_)
                              refine lv_aload_n cx.1 cx.2.1 dX5_bear_297 rfl (lv_at hl 1 rfl) ?_
                              refine gf_X5_53 cx hW (by decide) dX5_bear_298 ?_
                              refine lv_iload cx.1 cx.2.1 dX5_bear_301 (lv_at hl 4 rfl) ?_
                              refine lv_aload_n cx.1 cx.2.1 dX5_bear_303 rfl (lv_at hl 1 rfl) ?_
                              refine gf_X5_44 cx hW (by decide) dX5_bear_304 ?_
                              refine lv_iload cx.1 cx.2.1 dX5_bear_307 (lv_at hl 4 rfl) ?_
                              refine al_32 (j := i) cx hW (by decide) rfl (by omega) dX5_bear_309 ?_
                              refine lv_lload cx.1 cx.2.1 dX5_bear_310 (lv_at hl 0 rfl) ?_
                              refine lc_ge (tgt := 326) cx.1 cx.2.1 dX5_bear_312 dX5_bear_313 (by decide) (fun h312 => ?_) (fun h312 => ?_)
                              · skip
                                skip
                                refine lv_lload cx.1 cx.2.1 dX5_bear_326 (lv_at hl 0 rfl) ?_
                                refine tp_j (y := ni_ (gl_ (fc_ (p4_ a m k) i) 27 0 i) (np_ (gl_ (fc_ (p4_ a m k) i) 20 0 i))) (by rw [ni_, if_pos h312]) ?_
                                refine as_35 (j := i) cx hW hS (by decide) rfl (by omega) dX5_bear_328 (fun H locs hW hS => ?_)
                                refine lv_iinc (v := nI (i + 1)) (lv' := [(4, .int (nI (i + 1))), (5, .long (np_ (gl_ (fc_ (p4_ a m k) i) 20 0 i))), (0, .ref (ad_ w 20 0)), (1, .int (nI m)), (2, .long (x3_ a m k))]) cx.1 cx.2.1 dX5_bear_329 hl (k := 4) rfl (nI_inc i) (by decide) rfl (fun ls hl => ?_)
                                refine lv_goto (tgt := 265) cx.1 cx.2.1 dX5_bear_332 (by decide) ?_
                                exact ih265 (i + 1) (by omega) (by omega)  H locs ls hW hS (lv_sub (l' := [(0, .ref (ad_ w 20 0)), (1, .int (nI m)), (2, .long (x3_ a m k)), (4, .int (nI (i + 1)))]) hl [2, 3, 4, 0] rfl)
                              · skip
                                skip
                                refine lv_aload_n cx.1 cx.2.1 dX5_bear_316 rfl (lv_at hl 1 rfl) ?_
                                refine gf_X5_44 cx hW (by decide) dX5_bear_317 ?_
                                refine lv_iload cx.1 cx.2.1 dX5_bear_320 (lv_at hl 4 rfl) ?_
                                refine al_32 (j := i) cx hW (by decide) rfl (by omega) dX5_bear_322 ?_
                                refine lv_goto (tgt := 328) cx.1 cx.2.1 dX5_bear_323 (by decide) ?_
                                refine tp_j (y := ni_ (gl_ (fc_ (p4_ a m k) i) 27 0 i) (np_ (gl_ (fc_ (p4_ a m k) i) 20 0 i))) (by rw [ni_, if_neg h312]) ?_
                                refine as_35 (j := i) cx hW hS (by decide) rfl (by omega) dX5_bear_328 (fun H locs hW hS => ?_)
                                refine lv_iinc (v := nI (i + 1)) (lv' := [(4, .int (nI (i + 1))), (5, .long (np_ (gl_ (fc_ (p4_ a m k) i) 20 0 i))), (0, .ref (ad_ w 20 0)), (1, .int (nI m)), (2, .long (x3_ a m k))]) cx.1 cx.2.1 dX5_bear_329 hl (k := 4) rfl (nI_inc i) (by decide) rfl (fun ls hl => ?_)
                                refine lv_goto (tgt := 265) cx.1 cx.2.1 dX5_bear_332 (by decide) ?_
                                exact ih265 (i + 1) (by omega) (by omega)  H locs ls hW hS (lv_sub (l' := [(0, .ref (ad_ w 20 0)), (1, .int (nI m)), (2, .long (x3_ a m k)), (4, .int (nI (i + 1)))]) hl [2, 3, 4, 0] rfl)
                      exact L265 (8 - 0 + 1) 0 (by omega) (by omega)  H locs ls hW hS (lv_sub hl [2, 3, 1, 0] rfl)
                    · skip
                      have h222 : i < 8 := Nat.not_le.mp (fun q => h222 ((nI_leI (by omega) (by omega)).mpr q))
                      refine lv_aload_n cx.1 cx.2.1 dX5_bear_225 rfl (lv_at hl 0 rfl) ?_
                      refine gf_X5_13 cx hW (by decide) dX5_bear_226 ?_
                      refine lv_iload cx.1 cx.2.1 dX5_bear_229 (lv_at hl 3 rfl) ?_
                      refine lv_aload_n cx.1 cx.2.1 dX5_bear_231 rfl (lv_at hl 0 rfl) ?_
                      refine gf_X5_13 cx hW (by decide) dX5_bear_232 ?_
                      refine lv_iload cx.1 cx.2.1 dX5_bear_235 (lv_at hl 3 rfl) ?_
                      refine al_22 (j := i) cx hW (by decide) rfl (by omega) dX5_bear_237 ?_
                      refine lv_aload_n cx.1 cx.2.1 dX5_bear_238 rfl (lv_at hl 0 rfl) ?_
                      refine gf_X5_56 cx hW (by decide) dX5_bear_239 ?_
                      refine lv_iload cx.1 cx.2.1 dX5_bear_242 (lv_at hl 3 rfl) ?_
                      refine al_36 (j := i) cx hW (by decide) rfl (by omega) dX5_bear_244 ?_
                      refine lv_lsub cx.1 cx.2.1 dX5_bear_245 ?_
                      refine as_22 (j := i) cx hW hS (by decide) rfl (by omega) dX5_bear_246 (fun H locs hW hS => ?_)
                      refine lv_iinc (v := nI (i + 1)) (lv' := [(4, .int (nI (i + 1))), (0, .ref (ad_ w 20 0)), (1, .int (nI m)), (2, .long (x2_ a m))]) cx.1 cx.2.1 dX5_bear_247 hl (k := 3) rfl (nI_inc i) (by decide) rfl (fun ls hl => ?_)
                      refine lv_goto (tgt := 218) cx.1 cx.2.1 dX5_bear_250 (by decide) ?_
                      exact ih218 (i + 1) (by omega) (by omega)  H locs ls hW hS (lv_sub (l' := [(0, .ref (ad_ w 20 0)), (1, .int (nI m)), (2, .long (x2_ a m)), (4, .int (nI (i + 1)))]) hl [1, 2, 3, 0] rfl)
                exact L218 (8 - 0 + 1) 0 (by omega) (by omega)  H locs ls hW hS (lv_sub hl [1, 2, 3, 0] rfl)
              · skip
                have h144 : i < 8 := Nat.not_le.mp (fun q => h144 ((nI_leI (by omega) (by omega)).mpr q))
                refine lv_aload_n cx.1 cx.2.1 dX5_bear_147 rfl (lv_at hl 0 rfl) ?_
                refine gf_X5_53 cx hW (by decide) dX5_bear_148 ?_
                refine lv_iload cx.1 cx.2.1 dX5_bear_151 (lv_at hl 3 rfl) ?_
                refine lv_iload cx.1 cx.2.1 dX5_bear_153 (lv_at hl 3 rfl) ?_
                refine lv_aload_n cx.1 cx.2.1 dX5_bear_155 rfl (lv_at hl 0 rfl) ?_
                refine gf_X5_66 cx hW (by decide) dX5_bear_156 ?_
                refine tp_i (y := nI k) (by rw [fa_gi]; exact hk) ?_
                refine lv_icmp_ge (tgt := 182) cx.1 cx.2.1 dX5_bear_159 (by decide) (fun h159 => ?_) (fun h159 => ?_)
                · skip
                  have hE : fv_ (fa_ (b4_ a m) k i) k i = 0 := by rw [fv_, if_neg (fun z => absurd ((nI_leI (by omega) (by omega)).mp h159) (by omega))]
                  refine lv_lconst (v := 0) cx.1 cx.2.1 dX5_bear_182 (by decide) ?_
                  refine as_35 (j := i) cx hW hS (by decide) rfl (by omega) dX5_bear_183 (fun H locs hW hS => ?_)
                  refine lv_aload_n cx.1 cx.2.1 dX5_bear_184 rfl (lv_at hl 0 rfl) ?_
                  refine gf_X5_44 cx hW (by decide) dX5_bear_185 ?_
                  refine lv_iload cx.1 cx.2.1 dX5_bear_188 (lv_at hl 3 rfl) ?_
                  refine lv_aload_n cx.1 cx.2.1 dX5_bear_190 rfl (lv_at hl 0 rfl) ?_
                  refine gf_X5_53 cx hW (by decide) dX5_bear_191 ?_
                  refine lv_iload cx.1 cx.2.1 dX5_bear_194 (lv_at hl 3 rfl) ?_
                  refine al_35 (j := i) cx hW (by decide) rfl (by omega) dX5_bear_196 ?_
                  refine as_32 (j := i) cx hW hS (by decide) rfl (by omega) dX5_bear_197 (fun H locs hW hS => ?_)
                  refine lv_iinc (v := nI (i + 1)) (lv' := [(4, .int (nI (i + 1))), (0, .ref (ad_ w 20 0)), (1, .int (nI m)), (2, .long (x2_ a m))]) cx.1 cx.2.1 dX5_bear_198 hl (k := 3) rfl (nI_inc i) (by decide) rfl (fun ls hl => ?_)
                  refine lv_goto (tgt := 140) cx.1 cx.2.1 dX5_bear_201 (by decide) ?_
                  exact ih140 (i + 1) (by omega) (by omega)  H locs ls (by rw [fa_, show fv_ (fa_ (b4_ a m) k i) k i = _ from hE]; exact hW) hS (lv_sub (l' := [(0, .ref (ad_ w 20 0)), (1, .int (nI m)), (2, .long (x2_ a m)), (4, .int (nI (i + 1)))]) hl [1, 2, 3, 0] rfl)
                · skip
                  have hik : i < k := Nat.not_le.mp (fun q => h159 ((nI_leI (by omega) (by omega)).mpr q))
                  refine lv_aload_n cx.1 cx.2.1 dX5_bear_162 rfl (lv_at hl 0 rfl) ?_
                  refine gf_X5_16 cx hW (by decide) dX5_bear_163 ?_
                  refine lv_iload cx.1 cx.2.1 dX5_bear_166 (lv_at hl 3 rfl) ?_
                  refine al_23 (j := i) cx hW (by decide) rfl (by omega) dX5_bear_168 ?_
                  refine lv_if_ne (tgt := 182) cx.1 cx.2.1 dX5_bear_169 (by decide) (fun h169 => ?_) (fun h169 => ?_)
                  · skip
                    have hE : fv_ (fa_ (b4_ a m) k i) k i = 0 := by rw [fv_, if_neg (fun z => h169 z.2)]
                    refine lv_lconst (v := 0) cx.1 cx.2.1 dX5_bear_182 (by decide) ?_
                    refine as_35 (j := i) cx hW hS (by decide) rfl (by omega) dX5_bear_183 (fun H locs hW hS => ?_)
                    refine lv_aload_n cx.1 cx.2.1 dX5_bear_184 rfl (lv_at hl 0 rfl) ?_
                    refine gf_X5_44 cx hW (by decide) dX5_bear_185 ?_
                    refine lv_iload cx.1 cx.2.1 dX5_bear_188 (lv_at hl 3 rfl) ?_
                    refine lv_aload_n cx.1 cx.2.1 dX5_bear_190 rfl (lv_at hl 0 rfl) ?_
                    refine gf_X5_53 cx hW (by decide) dX5_bear_191 ?_
                    refine lv_iload cx.1 cx.2.1 dX5_bear_194 (lv_at hl 3 rfl) ?_
                    refine al_35 (j := i) cx hW (by decide) rfl (by omega) dX5_bear_196 ?_
                    refine as_32 (j := i) cx hW hS (by decide) rfl (by omega) dX5_bear_197 (fun H locs hW hS => ?_)
                    refine lv_iinc (v := nI (i + 1)) (lv' := [(4, .int (nI (i + 1))), (0, .ref (ad_ w 20 0)), (1, .int (nI m)), (2, .long (x2_ a m))]) cx.1 cx.2.1 dX5_bear_198 hl (k := 3) rfl (nI_inc i) (by decide) rfl (fun ls hl => ?_)
                    refine lv_goto (tgt := 140) cx.1 cx.2.1 dX5_bear_201 (by decide) ?_
                    exact ih140 (i + 1) (by omega) (by omega)  H locs ls (by rw [fa_, show fv_ (fa_ (b4_ a m) k i) k i = _ from hE]; exact hW) hS (lv_sub (l' := [(0, .ref (ad_ w 20 0)), (1, .int (nI m)), (2, .long (x2_ a m)), (4, .int (nI (i + 1)))]) hl [1, 2, 3, 0] rfl)
                  · skip
                    have hE : fv_ (fa_ (b4_ a m) k i) k i = gl_ (fa_ (b4_ a m) k i) 21 0 i := by rw [fv_, if_pos ⟨hik, h169⟩]
                    refine lv_aload_n cx.1 cx.2.1 dX5_bear_172 rfl (lv_at hl 0 rfl) ?_
                    refine gf_X5_13 cx hW (by decide) dX5_bear_173 ?_
                    refine lv_iload cx.1 cx.2.1 dX5_bear_176 (lv_at hl 3 rfl) ?_
                    refine al_22 (j := i) cx hW (by decide) rfl (by omega) dX5_bear_178 ?_
                    refine lv_goto (tgt := 183) cx.1 cx.2.1 dX5_bear_179 (by decide) ?_
                    refine as_35 (j := i) cx hW hS (by decide) rfl (by omega) dX5_bear_183 (fun H locs hW hS => ?_)
                    refine lv_aload_n cx.1 cx.2.1 dX5_bear_184 rfl (lv_at hl 0 rfl) ?_
                    refine gf_X5_44 cx hW (by decide) dX5_bear_185 ?_
                    refine lv_iload cx.1 cx.2.1 dX5_bear_188 (lv_at hl 3 rfl) ?_
                    refine lv_aload_n cx.1 cx.2.1 dX5_bear_190 rfl (lv_at hl 0 rfl) ?_
                    refine gf_X5_53 cx hW (by decide) dX5_bear_191 ?_
                    refine lv_iload cx.1 cx.2.1 dX5_bear_194 (lv_at hl 3 rfl) ?_
                    refine al_35 (j := i) cx hW (by decide) rfl (by omega) dX5_bear_196 ?_
                    refine as_32 (j := i) cx hW hS (by decide) rfl (by omega) dX5_bear_197 (fun H locs hW hS => ?_)
                    refine lv_iinc (v := nI (i + 1)) (lv' := [(4, .int (nI (i + 1))), (0, .ref (ad_ w 20 0)), (1, .int (nI m)), (2, .long (x2_ a m))]) cx.1 cx.2.1 dX5_bear_198 hl (k := 3) rfl (nI_inc i) (by decide) rfl (fun ls hl => ?_)
                    refine lv_goto (tgt := 140) cx.1 cx.2.1 dX5_bear_201 (by decide) ?_
                    exact ih140 (i + 1) (by omega) (by omega)  H locs ls (by rw [fa_, show fv_ (fa_ (b4_ a m) k i) k i = _ from hE]; exact hW) hS (lv_sub (l' := [(0, .ref (ad_ w 20 0)), (1, .int (nI m)), (2, .long (x2_ a m)), (4, .int (nI (i + 1)))]) hl [1, 2, 3, 0] rfl)
          exact L140 (8 - 0 + 1) 0 (by omega) (by omega)  H locs ls hW hS (lv_sub hl [2, 3, 1, 0] rfl)
        refine lv_aload_n cx.1 cx.2.1 dX5_bear_105 rfl (lv_at hl 1 rfl) ?_
        refine gf_X5_50 cx hW (by decide) dX5_bear_106 ?_
        refine lv_iconst (v := 1) cx.1 cx.2.1 dX5_bear_109 (by decide) ?_
        refine lv_lload_n cx.1 cx.2.1 dX5_bear_110 rfl (lv_at hl 0 rfl) ?_
        refine lv_aload_n cx.1 cx.2.1 dX5_bear_111 rfl (lv_at hl 1 rfl) ?_
        refine gf_X5_84 cx hW (by decide) dX5_bear_112 ?_
        refine tp_j (y := gl_ a 22 0 0) rfl ?_
        refine lc_ge (tgt := 123) cx.1 cx.2.1 dX5_bear_115 dX5_bear_116 (by decide) (fun h115 => ?_) (fun h115 => ?_)
        · skip
          skip
          refine lv_aload_n cx.1 cx.2.1 dX5_bear_123 rfl (lv_at hl 1 rfl) ?_
          refine gf_X5_84 cx hW (by decide) dX5_bear_124 ?_
          refine tp_j (y := gl_ a 22 0 0) rfl ?_
          refine tp_j (y := y1_ a m) (by rw [y1_, ni_, if_pos h115]) ?_
          exact J127 H locs ls hW hS (lv_sub hl [1, 2, 0] rfl)
        · skip
          skip
          refine lv_lload_n cx.1 cx.2.1 dX5_bear_119 rfl (lv_at hl 0 rfl) ?_
          refine lv_goto (tgt := 127) cx.1 cx.2.1 dX5_bear_120 (by decide) ?_
          refine tp_j (y := y1_ a m) (by rw [y1_, ni_, if_neg h115]) ?_
          exact J127 H locs ls hW hS (lv_sub hl [1, 2, 0] rfl)
      refine lv_aload_n cx.1 cx.2.1 dX5_bear_50 rfl (lv_at hl 0 rfl) ?_
      refine gf_X5_50 cx hW (by decide) dX5_bear_51 ?_
      refine lv_iconst (v := 0) cx.1 cx.2.1 dX5_bear_54 (by decide) ?_
      refine lv_lload_n cx.1 cx.2.1 dX5_bear_55 rfl (lv_at hl 2 rfl) ?_
      refine lv_aload_n cx.1 cx.2.1 dX5_bear_56 rfl (lv_at hl 0 rfl) ?_
      refine gf_X5_13 cx hW (by decide) dX5_bear_57 ?_
      refine lv_iload_n cx.1 cx.2.1 dX5_bear_60 rfl (lv_at hl 1 rfl) ?_
      refine al_22 (j := m) cx hW (by decide) rfl (by omega) dX5_bear_61 ?_
      refine tp_j (y := gl_ a 21 0 m) rfl ?_
      refine lc_ge (tgt := 70) cx.1 cx.2.1 dX5_bear_62 dX5_bear_63 (by decide) (fun h62 => ?_) (fun h62 => ?_)
      · skip
        skip
        refine lv_aload_n cx.1 cx.2.1 dX5_bear_70 rfl (lv_at hl 0 rfl) ?_
        refine gf_X5_13 cx hW (by decide) dX5_bear_71 ?_
        refine lv_iload_n cx.1 cx.2.1 dX5_bear_74 rfl (lv_at hl 1 rfl) ?_
        refine al_22 (j := m) cx hW (by decide) rfl (by omega) dX5_bear_75 ?_
        refine tp_j (y := gl_ a 21 0 m) rfl ?_
        refine tp_j (y := y0_ a m) (by rw [y0_, ni_, if_pos h62]) ?_
        exact J76 H locs ls hW hS (lv_sub hl [0, 1, 2] rfl)
      · skip
        skip
        refine lv_lload_n cx.1 cx.2.1 dX5_bear_66 rfl (lv_at hl 2 rfl) ?_
        refine lv_goto (tgt := 76) cx.1 cx.2.1 dX5_bear_67 (by decide) ?_
        refine tp_j (y := y0_ a m) (by rw [y0_, ni_, if_neg h62]) ?_
        exact J76 H locs ls hW hS (lv_sub hl [0, 1, 2] rfl)
    refine lv_aload_n cx.1 cx.2.1 dX5_bear_23 rfl (lv_at hl 1 rfl) ?_
    refine gf_X5_7 cx hW (by decide) dX5_bear_24 ?_
    refine lv_iload_n cx.1 cx.2.1 dX5_bear_27 rfl (lv_at hl 2 rfl) ?_
    refine lv_aload_n cx.1 cx.2.1 dX5_bear_28 rfl (lv_at hl 1 rfl) ?_
    refine gf_X5_7 cx hW (by decide) dX5_bear_29 ?_
    refine lv_iload_n cx.1 cx.2.1 dX5_bear_32 rfl (lv_at hl 2 rfl) ?_
    refine al_21 (j := m) cx hW (by decide) rfl (by omega) dX5_bear_33 ?_
    refine lv_lconst (v := 0) cx.1 cx.2.1 dX5_bear_34 (by decide) ?_
    refine lc_ge (tgt := 43) cx.1 cx.2.1 dX5_bear_35 dX5_bear_36 (by decide) (fun h35 => ?_) (fun h35 => ?_)
    · skip
      skip
      refine lv_aload_n cx.1 cx.2.1 dX5_bear_43 rfl (lv_at hl 1 rfl) ?_
      refine gf_X5_7 cx hW (by decide) dX5_bear_44 ?_
      refine lv_iload_n cx.1 cx.2.1 dX5_bear_47 rfl (lv_at hl 2 rfl) ?_
      refine al_21 (j := m) cx hW (by decide) rfl (by omega) dX5_bear_48 ?_
      refine tp_j (y := np_ (gl_ a 20 0 m)) (by rw [np_, if_pos h35]) ?_
      exact J49 H locs ls hW hS (lv_sub hl [1, 2, 0] rfl)
    · skip
      skip
      refine lv_lconst (v := 0) cx.1 cx.2.1 dX5_bear_39 (by decide) ?_
      refine lv_goto (tgt := 49) cx.1 cx.2.1 dX5_bear_40 (by decide) ?_
      refine tp_j (y := np_ (gl_ a 20 0 m)) (by rw [np_, if_neg h35]) ?_
      exact J49 H locs ls hW hS (lv_sub hl [1, 2, 0] rfl)
  refine lv_aload_n cx.1 cx.2.1 dX5_bear_0 rfl (lv_at hl 0 rfl) ?_
  refine gf_X5_7 cx hW (by decide) dX5_bear_1 ?_
  refine lv_iload_n cx.1 cx.2.1 dX5_bear_4 rfl (lv_at hl 1 rfl) ?_
  refine al_21 (j := m) cx hW (by decide) rfl (by omega) dX5_bear_5 ?_
  refine lv_lconst (v := 0) cx.1 cx.2.1 dX5_bear_6 (by decide) ?_
  refine lc_ge (tgt := 21) cx.1 cx.2.1 dX5_bear_7 dX5_bear_8 (by decide) (fun h7 => ?_) (fun h7 => ?_)
  · skip
    skip
    refine lv_lconst (v := 0) cx.1 cx.2.1 dX5_bear_21 (by decide) ?_
    refine tp_j (y := x0_ a m) (by rw [x0_, na_, if_pos h7]) ?_
    exact J22 H locs ls hW hS (lv_sub hl [0, 1] rfl)
  · skip
    skip
    refine lv_aload_n cx.1 cx.2.1 dX5_bear_11 rfl (lv_at hl 0 rfl) ?_
    refine gf_X5_7 cx hW (by decide) dX5_bear_12 ?_
    refine lv_iload_n cx.1 cx.2.1 dX5_bear_15 rfl (lv_at hl 1 rfl) ?_
    refine al_21 (j := m) cx hW (by decide) rfl (by omega) dX5_bear_16 ?_
    refine lv_lneg cx.1 cx.2.1 dX5_bear_17 ?_
    refine lv_goto (tgt := 22) cx.1 cx.2.1 dX5_bear_18 (by decide) ?_
    refine tp_j (y := x0_ a m) (by rw [x0_, na_, if_neg h7]) ?_
    exact J22 H locs ls hW hS (lv_sub hl [0, 1] rfl)
def ua_ (a : St_) (z : Int64) : Nat → Int64
  | 0 => z
  | i + 1 => if gi_ a 23 0 i = 0 then ua_ a z i - gl_ a 21 0 i - ni_ (gl_ a 21 0 i) (np_ (gl_ a 20 0 i)) else ua_ a z i
def ub_ (a : St_) (m k : Nat) : Int64 := ua_ a (x0_ a m - gl_ a 21 0 m - gl_ a 22 0 0) k
def uc_ (a : St_) (m k : Nat) : Int64 := if ub_ a m k ≤ 0 then gl_ a 23 0 0 else gl_ a 23 0 0 + ub_ a m k
set_option maxHeartbeats 4000000 in
set_option maxRecDepth 100000 in
theorem c_X5_wouldLose (l : Launch) {w : Gh_} (hI : In_ w) (a : St_) (k : Nat) (hk : gi_ a 21 0 0 = nI k) (hk8 : k ≤ 8) (m : Nat) (hm : m < 8) : Fn_ l w yX5_wouldLose (.code yX5_wouldLose cX5_wouldLose 7 (some .long)) { frames := 0, cells := 0, slots := 0, locals := 0 } 0 0 [.ref (ad_ w 20 0), .int (nI m)] a (.inl (some (.long (uc_ a m k)))) a := by
  refine Fn_of hI (by decide +kernel) (Nat.le_of_ble_eq_true rfl) ?_
  intro zp ze zs zm zb zt zc ls cx hr hlk hno hW hS hl
  replace cx : Cx_ zp zs zm zc _ cX5_wouldLose 7 "MarginHouseModel" w := cx
  replace hl : lv_has ls 7 [(0, .ref (ad_ w 20 0)), (1, .int (nI m))] := hl
  obtain ⟨H, hH⟩ : ∃ H, zs.heap = H := ⟨_, rfl⟩
  rw [hH] at hW
  have hS : Fr_ w zs.heap H [] := by rw [← hH]; exact hS
  obtain ⟨locs, hlocs⟩ : ∃ x : List Loc, x = [] := ⟨_, rfl⟩
  rw [← hlocs] at hS ⊢
  rw [show W zp l ze _ zs zm _ zb zt zc zs.heap locs 0 0 _ (F0 zm 0 ls []) ↔ W zp l ze _ zs zm _ zb zt zc H locs 0 0 _ (F0 zm 0 ls []) from by rw [hH]]
  have J22 : ∀ (H : Heap) (locs : List Loc) (ls : Array Slot), Hd_ w a H → Fr_ w zs.heap H locs → lv_has ls 7 [(0, .ref (ad_ w 20 0)), (1, .int (nI m))] → W zp l ze { frames := 0, cells := 0, slots := 0, locals := 0 } zs zm ([.ref (ad_ w 20 0), .int (nI m)] : List Value).toArray zb zt zc H locs 0 0 (vx_MQ zb (Qc_ w (.inl (some (.long (uc_ a m k)))) a) (XC_ w (.inl (some (.long (uc_ a m k)))) a) ([.ref (ad_ w 20 0), .int (nI m)] : List Value).toArray zs 0 0 (fun q => lo_ w ≤ q)) (F0 zm 22 ls [.long (x0_ a m)]) := by
    intro H locs ls hW hS hl
    refine lv_lstore_n (lv' := [(2, .long (x0_ a m)), (0, .ref (ad_ w 20 0)), (1, .int (nI m))]) cx.1 cx.2.1 dX5_wouldLose_22 rfl hl (by decide) rfl (fun ls hl => ?_)
    refine lv_lload_n cx.1 cx.2.1 dX5_wouldLose_23 rfl (lv_at hl 0 rfl) ?_
    refine lv_aload_n cx.1 cx.2.1 dX5_wouldLose_24 rfl (lv_at hl 1 rfl) ?_
    refine gf_X5_13 cx hW (by decide) dX5_wouldLose_25 ?_
    refine lv_iload_n cx.1 cx.2.1 dX5_wouldLose_28 rfl (lv_at hl 2 rfl) ?_
    refine al_22 (j := m) cx hW (by decide) rfl (by omega) dX5_wouldLose_29 ?_
    refine lv_lsub cx.1 cx.2.1 dX5_wouldLose_30 ?_
    refine lv_aload_n cx.1 cx.2.1 dX5_wouldLose_31 rfl (lv_at hl 1 rfl) ?_
    refine gf_X5_84 cx hW (by decide) dX5_wouldLose_32 ?_
    refine lv_lsub cx.1 cx.2.1 dX5_wouldLose_35 ?_
    refine lv_lstore_n (lv' := [(2, .long (((x0_ a m) - (gl_ a 21 0 m)) - (gl_ a 22 0 0))), (0, .ref (ad_ w 20 0)), (1, .int (nI m))]) cx.1 cx.2.1 dX5_wouldLose_36 rfl hl (by decide) rfl (fun ls hl => ?_)
    refine lv_iconst (v := 0) cx.1 cx.2.1 dX5_wouldLose_37 (by decide) ?_
    refine lv_istore (lv' := [(4, .int 0), (2, .long (((x0_ a m) - (gl_ a 21 0 m)) - (gl_ a 22 0 0))), (0, .ref (ad_ w 20 0)), (1, .int (nI m))]) cx.1 cx.2.1 dX5_wouldLose_38 hl (by decide) rfl (fun ls hl => ?_)
    have L40 : ∀ (d i : Nat), i ≤ k → k - i < d → ∀ (H : Heap) (locs : List Loc) (ls : Array Slot), Hd_ w a H → Fr_ w zs.heap H locs → lv_has ls 7 [(0, .ref (ad_ w 20 0)), (1, .int (nI m)), (2, .long (ua_ a (x0_ a m - gl_ a 21 0 m - gl_ a 22 0 0) i)), (4, .int (nI i))] → W zp l ze { frames := 0, cells := 0, slots := 0, locals := 0 } zs zm ([.ref (ad_ w 20 0), .int (nI m)] : List Value).toArray zb zt zc H locs 0 0 (vx_MQ zb (Qc_ w (.inl (some (.long (uc_ a m k)))) a) (XC_ w (.inl (some (.long (uc_ a m k)))) a) ([.ref (ad_ w 20 0), .int (nI m)] : List Value).toArray zs 0 0 (fun q => lo_ w ≤ q)) (F0 zm 40 ls []) := by
      intro d
      induction d with
      | zero => intro i _ hd; exact absurd hd (Nat.not_lt_zero _)
      | succ d ih40 =>
        intro i hi hdi  H locs ls hW hS hl
        refine lv_iload cx.1 cx.2.1 dX5_wouldLose_40 (lv_at hl 3 rfl) ?_
        refine lv_aload_n cx.1 cx.2.1 dX5_wouldLose_42 rfl (lv_at hl 0 rfl) ?_
        refine gf_X5_66 cx hW (by decide) dX5_wouldLose_43 ?_
        refine tp_i (y := nI k) hk ?_
        refine lv_icmp_ge (tgt := 126) cx.1 cx.2.1 dX5_wouldLose_46 (by decide) (fun h46 => ?_) (fun h46 => ?_)
        · skip
          have h46 : k ≤ i := (nI_leI (by omega) (by omega)).mp h46
          have e40 : i = k := by omega
          try rw [e40] at hl
          try rw [e40] at hW
          refine lv_lload_n cx.1 cx.2.1 dX5_wouldLose_126 rfl (lv_at hl 2 rfl) ?_
          refine lv_lconst (v := 0) cx.1 cx.2.1 dX5_wouldLose_127 (by decide) ?_
          refine lc_le (tgt := 141) cx.1 cx.2.1 dX5_wouldLose_128 dX5_wouldLose_129 (by decide) (fun h128 => ?_) (fun h128 => ?_)
          · skip
            refine lv_aload_n cx.1 cx.2.1 dX5_wouldLose_141 rfl (lv_at hl 0 rfl) ?_
            refine gf_X5_149 cx hW (by decide) dX5_wouldLose_142 ?_
            exact cr_l cx hr hlk hW hS (Nat.le_of_ble_eq_true rfl) (Nat.le_of_ble_eq_true rfl) dX5_wouldLose_145 (by rw [uc_, ub_, if_pos h128]) rfl
          · skip
            refine lv_aload_n cx.1 cx.2.1 dX5_wouldLose_132 rfl (lv_at hl 0 rfl) ?_
            refine gf_X5_149 cx hW (by decide) dX5_wouldLose_133 ?_
            refine lv_lload_n cx.1 cx.2.1 dX5_wouldLose_136 rfl (lv_at hl 2 rfl) ?_
            refine lv_ladd cx.1 cx.2.1 dX5_wouldLose_137 ?_
            refine lv_goto (tgt := 145) cx.1 cx.2.1 dX5_wouldLose_138 (by decide) ?_
            exact cr_l cx hr hlk hW hS (Nat.le_of_ble_eq_true rfl) (Nat.le_of_ble_eq_true rfl) dX5_wouldLose_145 (by rw [uc_, ub_, if_neg h128]) rfl
        · skip
          have h46 : i < k := Nat.not_le.mp (fun q => h46 ((nI_leI (by omega) (by omega)).mpr q))
          refine lv_aload_n cx.1 cx.2.1 dX5_wouldLose_49 rfl (lv_at hl 0 rfl) ?_
          refine gf_X5_16 cx hW (by decide) dX5_wouldLose_50 ?_
          refine lv_iload cx.1 cx.2.1 dX5_wouldLose_53 (lv_at hl 3 rfl) ?_
          refine al_23 (j := i) cx hW (by decide) rfl (by omega) dX5_wouldLose_55 ?_
          refine lv_if_ne (tgt := 120) cx.1 cx.2.1 dX5_wouldLose_56 (by decide) (fun h56 => ?_) (fun h56 => ?_)
          · skip
            have hE : ua_ a (x0_ a m - gl_ a 21 0 m - gl_ a 22 0 0) (i + 1) = ua_ a (x0_ a m - gl_ a 21 0 m - gl_ a 22 0 0) i := by rw [ua_, if_neg h56]
            refine lv_iinc (v := nI (i + 1)) (lv' := [(4, .int (nI (i + 1))), (0, .ref (ad_ w 20 0)), (1, .int (nI m)), (2, .long (ua_ a (x0_ a m - gl_ a 21 0 m - gl_ a 22 0 0) i))]) cx.1 cx.2.1 dX5_wouldLose_120 hl (k := 3) rfl (nI_inc i) (by decide) rfl (fun ls hl => ?_)
            refine lv_goto (tgt := 40) cx.1 cx.2.1 dX5_wouldLose_123 (by decide) ?_
            exact ih40 (i + 1) (by omega) (by omega)  H locs ls hW hS (lv_sub (l' := [(0, .ref (ad_ w 20 0)), (1, .int (nI m)), (2, .long (ua_ a (x0_ a m - gl_ a 21 0 m - gl_ a 22 0 0) (i + 1))), (4, .int (nI (i + 1)))]) hl [1, 2, 3, 0] (by rw [hE]; rfl))
          · skip
            have hE : ua_ a (x0_ a m - gl_ a 21 0 m - gl_ a 22 0 0) (i + 1) = ua_ a (x0_ a m - gl_ a 21 0 m - gl_ a 22 0 0) i - gl_ a 21 0 i - ni_ (gl_ a 21 0 i) (np_ (gl_ a 20 0 i)) := by rw [ua_, if_pos h56]
            refine lv_aload_n cx.1 cx.2.1 dX5_wouldLose_59 rfl (lv_at hl 0 rfl) ?_
            refine gf_X5_7 cx hW (by decide) dX5_wouldLose_60 ?_
            refine lv_iload cx.1 cx.2.1 dX5_wouldLose_63 (lv_at hl 3 rfl) ?_
            refine al_21 (j := i) cx hW (by decide) rfl (by omega) dX5_wouldLose_65 ?_
            refine lv_lconst (v := 0) cx.1 cx.2.1 dX5_wouldLose_66 (by decide) ?_
            refine lc_ge (tgt := 75) cx.1 cx.2.1 dX5_wouldLose_67 dX5_wouldLose_68 (by decide) (fun h67 => ?_) (fun h67 => ?_)
            · skip
              skip
              refine lv_aload_n cx.1 cx.2.1 dX5_wouldLose_75 rfl (lv_at hl 0 rfl) ?_
              refine gf_X5_7 cx hW (by decide) dX5_wouldLose_76 ?_
              refine lv_iload cx.1 cx.2.1 dX5_wouldLose_79 (lv_at hl 3 rfl) ?_
              refine al_21 (j := i) cx hW (by decide) rfl (by omega) dX5_wouldLose_81 ?_
              refine tp_j (y := np_ (gl_ a 20 0 i)) (by rw [np_, if_pos h67]) ?_
              refine lv_lstore (lv' := [(5, .long (np_ (gl_ a 20 0 i))), (0, .ref (ad_ w 20 0)), (1, .int (nI m)), (2, .long (ua_ a (x0_ a m - gl_ a 21 0 m - gl_ a 22 0 0) i)), (4, .int (nI i))]) cx.1 cx.2.1 dX5_wouldLose_82 hl (by decide) rfl (fun ls hl => ?_)
              refine lv_lload_n cx.1 cx.2.1 dX5_wouldLose_84 rfl (lv_at hl 3 rfl) ?_
              refine lv_aload_n cx.1 cx.2.1 dX5_wouldLose_85 rfl (lv_at hl 1 rfl) ?_
              refine gf_X5_13 cx hW (by decide) dX5_wouldLose_86 ?_
              refine lv_iload cx.1 cx.2.1 dX5_wouldLose_89 (lv_at hl 4 rfl) ?_
              refine al_22 (j := i) cx hW (by decide) rfl (by omega) dX5_wouldLose_91 ?_
              refine lv_lsub cx.1 cx.2.1 dX5_wouldLose_92 ?_
              refine lv_aload_n cx.1 cx.2.1 dX5_wouldLose_93 rfl (lv_at hl 1 rfl) ?_
              refine gf_X5_13 cx hW (by decide) dX5_wouldLose_94 ?_
              refine lv_iload cx.1 cx.2.1 dX5_wouldLose_97 (lv_at hl 4 rfl) ?_
              refine al_22 (j := i) cx hW (by decide) rfl (by omega) dX5_wouldLose_99 ?_
              refine lv_lload cx.1 cx.2.1 dX5_wouldLose_100 (lv_at hl 0 rfl) ?_
              refine lc_ge (tgt := 116) cx.1 cx.2.1 dX5_wouldLose_102 dX5_wouldLose_103 (by decide) (fun h102 => ?_) (fun h102 => ?_)
              · skip
                skip
                refine lv_lload cx.1 cx.2.1 dX5_wouldLose_116 (lv_at hl 0 rfl) ?_
                refine tp_j (y := ni_ (gl_ a 21 0 i) (np_ (gl_ a 20 0 i))) (by rw [ni_, if_pos h102]) ?_
                refine lv_lsub cx.1 cx.2.1 dX5_wouldLose_118 ?_
                refine lv_lstore_n (lv' := [(2, .long (((ua_ a (x0_ a m - gl_ a 21 0 m - gl_ a 22 0 0) i) - (gl_ a 21 0 i)) - (ni_ (gl_ a 21 0 i) (np_ (gl_ a 20 0 i))))), (5, .long (np_ (gl_ a 20 0 i))), (0, .ref (ad_ w 20 0)), (1, .int (nI m)), (4, .int (nI i))]) cx.1 cx.2.1 dX5_wouldLose_119 rfl hl (by decide) rfl (fun ls hl => ?_)
                refine lv_iinc (v := nI (i + 1)) (lv' := [(4, .int (nI (i + 1))), (2, .long (((ua_ a (x0_ a m - gl_ a 21 0 m - gl_ a 22 0 0) i) - (gl_ a 21 0 i)) - (ni_ (gl_ a 21 0 i) (np_ (gl_ a 20 0 i))))), (5, .long (np_ (gl_ a 20 0 i))), (0, .ref (ad_ w 20 0)), (1, .int (nI m))]) cx.1 cx.2.1 dX5_wouldLose_120 hl (k := 4) rfl (nI_inc i) (by decide) rfl (fun ls hl => ?_)
                refine lv_goto (tgt := 40) cx.1 cx.2.1 dX5_wouldLose_123 (by decide) ?_
                exact ih40 (i + 1) (by omega) (by omega)  H locs ls hW hS (lv_sub (l' := [(0, .ref (ad_ w 20 0)), (1, .int (nI m)), (2, .long (ua_ a (x0_ a m - gl_ a 21 0 m - gl_ a 22 0 0) (i + 1))), (4, .int (nI (i + 1)))]) hl [3, 4, 1, 0] (by rw [hE]; rfl))
              · skip
                skip
                refine lv_aload_n cx.1 cx.2.1 dX5_wouldLose_106 rfl (lv_at hl 1 rfl) ?_
                refine gf_X5_13 cx hW (by decide) dX5_wouldLose_107 ?_
                refine lv_iload cx.1 cx.2.1 dX5_wouldLose_110 (lv_at hl 4 rfl) ?_
                refine al_22 (j := i) cx hW (by decide) rfl (by omega) dX5_wouldLose_112 ?_
                refine lv_goto (tgt := 118) cx.1 cx.2.1 dX5_wouldLose_113 (by decide) ?_
                refine tp_j (y := ni_ (gl_ a 21 0 i) (np_ (gl_ a 20 0 i))) (by rw [ni_, if_neg h102]) ?_
                refine lv_lsub cx.1 cx.2.1 dX5_wouldLose_118 ?_
                refine lv_lstore_n (lv' := [(2, .long (((ua_ a (x0_ a m - gl_ a 21 0 m - gl_ a 22 0 0) i) - (gl_ a 21 0 i)) - (ni_ (gl_ a 21 0 i) (np_ (gl_ a 20 0 i))))), (5, .long (np_ (gl_ a 20 0 i))), (0, .ref (ad_ w 20 0)), (1, .int (nI m)), (4, .int (nI i))]) cx.1 cx.2.1 dX5_wouldLose_119 rfl hl (by decide) rfl (fun ls hl => ?_)
                refine lv_iinc (v := nI (i + 1)) (lv' := [(4, .int (nI (i + 1))), (2, .long (((ua_ a (x0_ a m - gl_ a 21 0 m - gl_ a 22 0 0) i) - (gl_ a 21 0 i)) - (ni_ (gl_ a 21 0 i) (np_ (gl_ a 20 0 i))))), (5, .long (np_ (gl_ a 20 0 i))), (0, .ref (ad_ w 20 0)), (1, .int (nI m))]) cx.1 cx.2.1 dX5_wouldLose_120 hl (k := 4) rfl (nI_inc i) (by decide) rfl (fun ls hl => ?_)
                refine lv_goto (tgt := 40) cx.1 cx.2.1 dX5_wouldLose_123 (by decide) ?_
                exact ih40 (i + 1) (by omega) (by omega)  H locs ls hW hS (lv_sub (l' := [(0, .ref (ad_ w 20 0)), (1, .int (nI m)), (2, .long (ua_ a (x0_ a m - gl_ a 21 0 m - gl_ a 22 0 0) (i + 1))), (4, .int (nI (i + 1)))]) hl [3, 4, 1, 0] (by rw [hE]; rfl))
            · skip
              skip
              refine lv_lconst (v := 0) cx.1 cx.2.1 dX5_wouldLose_71 (by decide) ?_
              refine lv_goto (tgt := 82) cx.1 cx.2.1 dX5_wouldLose_72 (by decide) ?_
              refine tp_j (y := np_ (gl_ a 20 0 i)) (by rw [np_, if_neg h67]) ?_
              refine lv_lstore (lv' := [(5, .long (np_ (gl_ a 20 0 i))), (0, .ref (ad_ w 20 0)), (1, .int (nI m)), (2, .long (ua_ a (x0_ a m - gl_ a 21 0 m - gl_ a 22 0 0) i)), (4, .int (nI i))]) cx.1 cx.2.1 dX5_wouldLose_82 hl (by decide) rfl (fun ls hl => ?_)
              refine lv_lload_n cx.1 cx.2.1 dX5_wouldLose_84 rfl (lv_at hl 3 rfl) ?_
              refine lv_aload_n cx.1 cx.2.1 dX5_wouldLose_85 rfl (lv_at hl 1 rfl) ?_
              refine gf_X5_13 cx hW (by decide) dX5_wouldLose_86 ?_
              refine lv_iload cx.1 cx.2.1 dX5_wouldLose_89 (lv_at hl 4 rfl) ?_
              refine al_22 (j := i) cx hW (by decide) rfl (by omega) dX5_wouldLose_91 ?_
              refine lv_lsub cx.1 cx.2.1 dX5_wouldLose_92 ?_
              refine lv_aload_n cx.1 cx.2.1 dX5_wouldLose_93 rfl (lv_at hl 1 rfl) ?_
              refine gf_X5_13 cx hW (by decide) dX5_wouldLose_94 ?_
              refine lv_iload cx.1 cx.2.1 dX5_wouldLose_97 (lv_at hl 4 rfl) ?_
              refine al_22 (j := i) cx hW (by decide) rfl (by omega) dX5_wouldLose_99 ?_
              refine lv_lload cx.1 cx.2.1 dX5_wouldLose_100 (lv_at hl 0 rfl) ?_
              refine lc_ge (tgt := 116) cx.1 cx.2.1 dX5_wouldLose_102 dX5_wouldLose_103 (by decide) (fun h102 => ?_) (fun h102 => ?_)
              · skip
                skip
                refine lv_lload cx.1 cx.2.1 dX5_wouldLose_116 (lv_at hl 0 rfl) ?_
                refine tp_j (y := ni_ (gl_ a 21 0 i) (np_ (gl_ a 20 0 i))) (by rw [ni_, if_pos h102]) ?_
                refine lv_lsub cx.1 cx.2.1 dX5_wouldLose_118 ?_
                refine lv_lstore_n (lv' := [(2, .long (((ua_ a (x0_ a m - gl_ a 21 0 m - gl_ a 22 0 0) i) - (gl_ a 21 0 i)) - (ni_ (gl_ a 21 0 i) (np_ (gl_ a 20 0 i))))), (5, .long (np_ (gl_ a 20 0 i))), (0, .ref (ad_ w 20 0)), (1, .int (nI m)), (4, .int (nI i))]) cx.1 cx.2.1 dX5_wouldLose_119 rfl hl (by decide) rfl (fun ls hl => ?_)
                refine lv_iinc (v := nI (i + 1)) (lv' := [(4, .int (nI (i + 1))), (2, .long (((ua_ a (x0_ a m - gl_ a 21 0 m - gl_ a 22 0 0) i) - (gl_ a 21 0 i)) - (ni_ (gl_ a 21 0 i) (np_ (gl_ a 20 0 i))))), (5, .long (np_ (gl_ a 20 0 i))), (0, .ref (ad_ w 20 0)), (1, .int (nI m))]) cx.1 cx.2.1 dX5_wouldLose_120 hl (k := 4) rfl (nI_inc i) (by decide) rfl (fun ls hl => ?_)
                refine lv_goto (tgt := 40) cx.1 cx.2.1 dX5_wouldLose_123 (by decide) ?_
                exact ih40 (i + 1) (by omega) (by omega)  H locs ls hW hS (lv_sub (l' := [(0, .ref (ad_ w 20 0)), (1, .int (nI m)), (2, .long (ua_ a (x0_ a m - gl_ a 21 0 m - gl_ a 22 0 0) (i + 1))), (4, .int (nI (i + 1)))]) hl [3, 4, 1, 0] (by rw [hE]; rfl))
              · skip
                skip
                refine lv_aload_n cx.1 cx.2.1 dX5_wouldLose_106 rfl (lv_at hl 1 rfl) ?_
                refine gf_X5_13 cx hW (by decide) dX5_wouldLose_107 ?_
                refine lv_iload cx.1 cx.2.1 dX5_wouldLose_110 (lv_at hl 4 rfl) ?_
                refine al_22 (j := i) cx hW (by decide) rfl (by omega) dX5_wouldLose_112 ?_
                refine lv_goto (tgt := 118) cx.1 cx.2.1 dX5_wouldLose_113 (by decide) ?_
                refine tp_j (y := ni_ (gl_ a 21 0 i) (np_ (gl_ a 20 0 i))) (by rw [ni_, if_neg h102]) ?_
                refine lv_lsub cx.1 cx.2.1 dX5_wouldLose_118 ?_
                refine lv_lstore_n (lv' := [(2, .long (((ua_ a (x0_ a m - gl_ a 21 0 m - gl_ a 22 0 0) i) - (gl_ a 21 0 i)) - (ni_ (gl_ a 21 0 i) (np_ (gl_ a 20 0 i))))), (5, .long (np_ (gl_ a 20 0 i))), (0, .ref (ad_ w 20 0)), (1, .int (nI m)), (4, .int (nI i))]) cx.1 cx.2.1 dX5_wouldLose_119 rfl hl (by decide) rfl (fun ls hl => ?_)
                refine lv_iinc (v := nI (i + 1)) (lv' := [(4, .int (nI (i + 1))), (2, .long (((ua_ a (x0_ a m - gl_ a 21 0 m - gl_ a 22 0 0) i) - (gl_ a 21 0 i)) - (ni_ (gl_ a 21 0 i) (np_ (gl_ a 20 0 i))))), (5, .long (np_ (gl_ a 20 0 i))), (0, .ref (ad_ w 20 0)), (1, .int (nI m))]) cx.1 cx.2.1 dX5_wouldLose_120 hl (k := 4) rfl (nI_inc i) (by decide) rfl (fun ls hl => ?_)
                refine lv_goto (tgt := 40) cx.1 cx.2.1 dX5_wouldLose_123 (by decide) ?_
                exact ih40 (i + 1) (by omega) (by omega)  H locs ls hW hS (lv_sub (l' := [(0, .ref (ad_ w 20 0)), (1, .int (nI m)), (2, .long (ua_ a (x0_ a m - gl_ a 21 0 m - gl_ a 22 0 0) (i + 1))), (4, .int (nI (i + 1)))]) hl [3, 4, 1, 0] (by rw [hE]; rfl))
    exact L40 (k - 0 + 1) 0 (by omega) (by omega)  H locs ls hW hS (lv_sub hl [2, 3, 1, 0] rfl)
  refine lv_aload_n cx.1 cx.2.1 dX5_wouldLose_0 rfl (lv_at hl 0 rfl) ?_
  refine gf_X5_7 cx hW (by decide) dX5_wouldLose_1 ?_
  refine lv_iload_n cx.1 cx.2.1 dX5_wouldLose_4 rfl (lv_at hl 1 rfl) ?_
  refine al_21 (j := m) cx hW (by decide) rfl (by omega) dX5_wouldLose_5 ?_
  refine lv_lconst (v := 0) cx.1 cx.2.1 dX5_wouldLose_6 (by decide) ?_
  refine lc_ge (tgt := 21) cx.1 cx.2.1 dX5_wouldLose_7 dX5_wouldLose_8 (by decide) (fun h7 => ?_) (fun h7 => ?_)
  · skip
    skip
    refine lv_lconst (v := 0) cx.1 cx.2.1 dX5_wouldLose_21 (by decide) ?_
    refine tp_j (y := x0_ a m) (by rw [x0_, na_, if_pos h7]) ?_
    exact J22 H locs ls hW hS (lv_sub hl [0, 1] rfl)
  · skip
    skip
    refine lv_aload_n cx.1 cx.2.1 dX5_wouldLose_11 rfl (lv_at hl 0 rfl) ?_
    refine gf_X5_7 cx hW (by decide) dX5_wouldLose_12 ?_
    refine lv_iload_n cx.1 cx.2.1 dX5_wouldLose_15 rfl (lv_at hl 1 rfl) ?_
    refine al_21 (j := m) cx hW (by decide) rfl (by omega) dX5_wouldLose_16 ?_
    refine lv_lneg cx.1 cx.2.1 dX5_wouldLose_17 ?_
    refine lv_goto (tgt := 22) cx.1 cx.2.1 dX5_wouldLose_18 (by decide) ?_
    refine tp_j (y := x0_ a m) (by rw [x0_, na_, if_neg h7]) ?_
    exact J22 H locs ls hW hS (lv_sub hl [0, 1] rfl)
