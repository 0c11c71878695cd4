/-! The loops, variable by variable; the sharing of an amount by weights, on both sides -/
theorem bw_1 (a : St_) : ∀ i, (bw_ a i).1 = a.1
  | 0 => rfl
  | i + 1 => bw_1 a i
theorem bw_i (a : St_) (i v x y : Nat) : gi_ (bw_ a i) v x y = gi_ a v x y := by
  unfold gi_
  rw [bw_1]
theorem bw_l (a : St_) : ∀ i v x y, gl_ (bw_ a i) v x y = if v = 11 ∧ x = 0 ∧ y < i then gl_ a 10 0 y else gl_ a v x y
  | 0, v, x, y => by rw [if_neg (by omega)]; rfl
  | i + 1, v, x, y => by
    have ih := bw_l a i
    rw [bw_, gl_sl, ih v x y]
    by_cases e : v = 11 ∧ x = 0 ∧ y = i
    · obtain ⟨rfl, rfl, rfl⟩ := e
      rw [if_pos ⟨rfl, rfl, rfl⟩, if_pos ⟨rfl, rfl, by omega⟩]
      rw [ih, if_neg (by omega)]
    · rw [if_neg e]
      by_cases e2 : v = 11 ∧ x = 0 ∧ y < i
      · rw [if_pos e2, if_pos (by omega)]
      · rw [if_neg e2, if_neg (by omega)]
theorem ro_1 (a : St_) (X t : Int64) : ∀ i, (ro_ a X t i).1 = a.1
  | 0 => rfl
  | i + 1 => ro_1 a X t i
theorem ro_i (a : St_) (X t : Int64) (i v x y : Nat) : gi_ (ro_ a X t i) v x y = gi_ a v x y := by
  unfold gi_
  rw [ro_1]
theorem ro_l (a : St_) (X t : Int64) : ∀ i v x y, gl_ (ro_ a X t i) v x y = if v = 11 ∧ x = 0 ∧ y < i then dq_ (gl_ a 10 0 y) X t else if v = 12 ∧ x = 0 ∧ y < i then dr_ (gl_ a 10 0 y) X t else gl_ a v x y
  | 0, v, x, y => by rw [if_neg (by omega), if_neg (by omega)]; rfl
  | i + 1, v, x, y => by
    have ih := ro_l a X t i
    rw [ro_, rn_, gl_sl, gl_sl, ih v x y]
    by_cases e2 : v = 12 ∧ x = 0 ∧ y = i
    · obtain ⟨rfl, rfl, rfl⟩ := e2
      rw [if_pos ⟨rfl, rfl, rfl⟩, if_neg (by omega), if_pos ⟨rfl, rfl, by omega⟩]
      rw [ih, if_neg (by omega), if_neg (by omega)]
    · rw [if_neg e2]
      by_cases e1 : v = 11 ∧ x = 0 ∧ y = i
      · obtain ⟨rfl, rfl, rfl⟩ := e1
        rw [if_pos ⟨rfl, rfl, rfl⟩, if_pos ⟨rfl, rfl, by omega⟩]
        rw [ih, if_neg (by omega), if_neg (by omega)]
      · rw [if_neg e1]
        by_cases q1 : v = 11 ∧ x = 0 ∧ y < i
        · rw [if_pos q1, if_pos (by omega)]
        · rw [if_neg q1, if_neg (show ¬ (v = 11 ∧ x = 0 ∧ y < i + 1) by omega)]
          by_cases q2 : v = 12 ∧ x = 0 ∧ y < i
          · rw [if_pos q2, if_pos (by omega)]
          · rw [if_neg q2, if_neg (by omega)]
theorem ha_1 (a : St_) : ∀ i, (ha_ a i).1 = a.1
  | 0 => rfl
  | i + 1 => ha_1 a i
theorem ha_i (a : St_) (i v x y : Nat) : gi_ (ha_ a i) v x y = gi_ a v x y := by
  unfold gi_
  rw [ha_1]
theorem ha_l (a : St_) : ∀ i v x y, gl_ (ha_ a i) v x y = if v = 30 ∧ x = 0 ∧ y < i then 0 else if v = 31 ∧ x = 0 ∧ y < i then 0 else gl_ a v x y
  | 0, v, x, y => by rw [if_neg (by omega), if_neg (by omega)]; rfl
  | i + 1, v, x, y => by
    have ih := ha_l a i
    rw [ha_, gl_sl, gl_sl, ih v x y]
    by_cases e2 : v = 31 ∧ x = 0 ∧ y = i
    · obtain ⟨rfl, rfl, rfl⟩ := e2
      rw [if_pos ⟨rfl, rfl, rfl⟩, if_neg (by omega), if_pos ⟨rfl, rfl, by omega⟩]
      skip
    · rw [if_neg e2]
      by_cases e1 : v = 30 ∧ x = 0 ∧ y = i
      · obtain ⟨rfl, rfl, rfl⟩ := e1
        rw [if_pos ⟨rfl, rfl, rfl⟩, if_pos ⟨rfl, rfl, by omega⟩]
        skip
      · rw [if_neg e1]
        by_cases q1 : v = 30 ∧ x = 0 ∧ y < i
        · rw [if_pos q1, if_pos (by omega)]
        · rw [if_neg q1, if_neg (show ¬ (v = 30 ∧ x = 0 ∧ y < i + 1) by omega)]
          by_cases q2 : v = 31 ∧ x = 0 ∧ y < i
          · rw [if_pos q2, if_pos (by omega)]
          · rw [if_neg q2, if_neg (by omega)]
theorem hb_1 (a : St_) : ∀ i, (hb_ a i).1 = a.1
  | 0 => rfl
  | i + 1 => hb_1 a i
theorem hb_i (a : St_) (i v x y : Nat) : gi_ (hb_ a i) v x y = gi_ a v x y := by
  unfold gi_
  rw [hb_1]
theorem hb_l (a : St_) : ∀ i v x y, gl_ (hb_ a i) v x y = if v = 30 ∧ x = 0 ∧ y < i then gl_ a 29 0 y else gl_ a v x y
  | 0, v, x, y => by rw [if_neg (by omega)]; rfl
  | i + 1, v, x, y => by
    have ih := hb_l a i
    rw [hb_, gl_sl, ih v x y]
    by_cases e : v = 30 ∧ x = 0 ∧ y = i
    · obtain ⟨rfl, rfl, rfl⟩ := e
      rw [if_pos ⟨rfl, rfl, rfl⟩, if_pos ⟨rfl, rfl, by omega⟩]
      rw [ih, if_neg (by omega)]
    · rw [if_neg e]
      by_cases e2 : v = 30 ∧ x = 0 ∧ y < i
      · rw [if_pos e2, if_pos (by omega)]
      · rw [if_neg e2, if_neg (by omega)]
theorem hd_1 (a : St_) (X t : Int64) : ∀ i, (hd_ a X t i).1 = a.1
  | 0 => rfl
  | i + 1 => hd_1 a X t i
theorem hd_i (a : St_) (X t : Int64) (i v x y : Nat) : gi_ (hd_ a X t i) v x y = gi_ a v x y := by
  unfold gi_
  rw [hd_1]
theorem hd_l (a : St_) (X t : Int64) : ∀ i v x y, gl_ (hd_ a X t i) v x y = if v = 30 ∧ x = 0 ∧ y < i then (dv_ (gl_ a 29 0 y) X t 63).1 else if v = 31 ∧ x = 0 ∧ y < i then (dv_ (gl_ a 29 0 y) X t 63).2 else gl_ a v x y
  | 0, v, x, y => by rw [if_neg (by omega), if_neg (by omega)]; rfl
  | i + 1, v, x, y => by
    have ih := hd_l a X t i
    rw [hd_, dn_, gl_sl, gl_sl, ih v x y]
    by_cases e2 : v = 31 ∧ x = 0 ∧ y = i
    · obtain ⟨rfl, rfl, rfl⟩ := e2
      rw [if_pos ⟨rfl, rfl, rfl⟩, if_neg (by omega), if_pos ⟨rfl, rfl, by omega⟩]
      rw [ih, if_neg (by omega), if_neg (by omega)]
    · rw [if_neg e2]
      by_cases e1 : v = 30 ∧ x = 0 ∧ y = i
      · obtain ⟨rfl, rfl, rfl⟩ := e1
        rw [if_pos ⟨rfl, rfl, rfl⟩, if_pos ⟨rfl, rfl, by omega⟩]
        rw [ih, if_neg (by omega), if_neg (by omega)]
      · rw [if_neg e1]
        by_cases q1 : v = 30 ∧ x = 0 ∧ y < i
        · rw [if_pos q1, if_pos (by omega)]
        · rw [if_neg q1, if_neg (show ¬ (v = 30 ∧ x = 0 ∧ y < i + 1) by omega)]
          by_cases q2 : v = 31 ∧ x = 0 ∧ y < i
          · rw [if_pos q2, if_pos (by omega)]
          · rw [if_neg q2, if_neg (by omega)]
def ps_ (f : Nat → Int64) : Nat → Int64
  | 0 => 0
  | i + 1 => ps_ f i + f i
theorem ps_congr {f g : Nat → Int64} : ∀ i, (∀ m, m < i → f m = g m) → ps_ f i = ps_ g i
  | 0, _ => rfl
  | i + 1, h => by rw [ps_, ps_, ps_congr i (fun m hm => h m (by omega)), h i (by omega)]
def sn_ (f : Nat → Nat) : Nat → Nat
  | 0 => 0
  | i + 1 => sn_ f i + f i
theorem ps_N (f : Nat → Nat) : ∀ i, ps_ (fun m => lN (f m)) i = lN (sn_ f i)
  | 0 => by rw [ps_, sn_]; decide +kernel
  | i + 1 => by rw [ps_, sn_, ps_N f i, lN_add]
theorem wt_ps (a : St_) : ∀ i, wt_ a i = ps_ (fun m => gl_ a 10 0 m) i
  | 0 => rfl
  | i + 1 => by rw [wt_, ps_, wt_ps a i]
theorem qw_ps (a : St_) : ∀ i, qw_ a i = ps_ (fun m => gl_ a 29 0 m) i
  | 0 => rfl
  | i + 1 => by rw [qw_, ps_, qw_ps a i]
theorem sub_add6 (x p q : Int64) : x - p - q = x - (p + q) := by
  rw [Int64.sub_eq_add_neg, Int64.sub_eq_add_neg, Int64.sub_eq_add_neg, Int64.neg_add, Int64.add_assoc, Int64.sub_eq_add_neg]
theorem rl_ps (a : St_) (x t : Int64) : ∀ i, rl_ a x t i = x - ps_ (fun m => dq_ (gl_ a 10 0 m) x t) i
  | 0 => by rw [rl_, ps_, Int64.sub_zero]
  | i + 1 => by rw [rl_, rl_ps a x t i, ro_l, if_pos ⟨rfl, rfl, by omega⟩, ps_, sub_add6]
theorem hl_ps (a : St_) (x t : Int64) : ∀ i, hl_ a x t i = x - ps_ (fun m => (dv_ (gl_ a 29 0 m) x t 63).1) i
  | 0 => by rw [hl_, ps_, Int64.sub_zero]
  | i + 1 => by rw [hl_, hl_ps a x t i, hd_l, if_pos ⟨rfl, rfl, by omega⟩, ps_, sub_add6]
/-! choosing the greatest remainder -/
theorem gg_b (a : St_) : ∀ m, m ≤ 8 → (gg_ a m < 8 ∧ gg_ a m ≤ m - 1) ∧ ∀ i, i < m → gl_ a 12 0 i ≤ gl_ a 12 0 (gg_ a m)
  | 0, _ => ⟨⟨by rw [gg_]; omega, by rw [gg_]; omega⟩, fun i hi => absurd hi (Nat.not_lt_zero _)⟩
  | m + 1, hm => by
    obtain ⟨⟨h1, h2⟩, h3⟩ := gg_b a m (by omega)
    rw [gg_]
    by_cases e : m = 0
    · subst e
      rw [if_pos rfl]
      refine ⟨by omega, fun i hi => ?_⟩
      rw [show i = 0 by omega, Int64.le_iff_toInt_le]
      omega
    · rw [if_neg e]
      by_cases q : gl_ a 12 0 m ≤ gl_ a 12 0 (gg_ a m)
      · rw [if_pos q]
        refine ⟨by omega, fun i hi => ?_⟩
        by_cases e2 : i = m
        · subst e2
          exact q
        · exact h3 i (by omega)
      · rw [if_neg q]
        refine ⟨by omega, fun i hi => ?_⟩
        rw [Int64.le_iff_toInt_le] at q ⊢
        by_cases e2 : i = m
        · subst e2
          omega
        · have := Int64.le_iff_toInt_le.mp (h3 i (by omega))
          omega
def Se_ (a b : St_) : Prop := ∀ m, m < 8 → gl_ a 11 0 m = gl_ b 30 0 m ∧ gl_ a 12 0 m = gl_ b 31 0 m
theorem gg_gr {a b : St_} (h : Se_ a b) : ∀ m, m ≤ 8 → gg_ a m = gr_ b m
  | 0, _ => rfl
  | m + 1, hm => by
    rw [gg_, gr_, ← gg_gr h m (by omega), (h m (by omega)).2, (h _ (gg_b a m (by omega)).1.1).2]
theorem Se_go {a b : St_} (h : Se_ a b) : Se_ (go_ a) (hs_ b) := by
  intro m hm
  have e := gg_gr h 8 (by omega)
  have hg := (gg_b a 8 (by omega)).1.1
  rw [go_, hs_, ← e]
  generalize gg_ a 8 = s at *
  obtain ⟨s1, s2⟩ := h s hg
  obtain ⟨m1, m2⟩ := h m hm
  simp only [gl_sl]
  by_cases q : m = s
  · subst q
    simp [m1]
  · simp [q, m1, m2]
def it_ (b : St_) : Nat → St_
  | 0 => b
  | g + 1 => go_ (it_ b g)
theorem Se_it {a b : St_} (h : Se_ a b) : ∀ g, Se_ (it_ a g) (hw_ b g)
  | 0 => h
  | g + 1 => Se_go (Se_it h g)
theorem gw_it (b : St_) {c : Nat} (hc : c ≤ 8) : ∀ f g, f + g = 8 → g ≤ c → gw_ (lN c) (it_ b g) f = it_ b c
  | 0, g, h, h2 => by rw [gw_, show g = c by omega]
  | f + 1, g, h, h2 => by
    rw [gw_, show 7 - f = g by omega, nI_l (by omega)]
    by_cases e : c ≤ g
    · rw [if_pos ((lN_le (by omega) (by omega)).mpr e), show g = c by omega]
    · rw [if_neg (fun z => e ((lN_le (by omega) (by omega)).mp z))]
      exact gw_it b hc f (g + 1) (by omega) (by omega)
/-! the numbers: quotients, remainders, what is left -/
theorem sn_mul (f : Nat → Nat) (c : Nat) : ∀ i, sn_ (fun m => c * f m) i = c * sn_ f i
  | 0 => rfl
  | i + 1 => by rw [sn_, sn_, sn_mul f c i, Nat.mul_add]
theorem sn_add (f g : Nat → Nat) : ∀ i, sn_ (fun m => f m + g m) i = sn_ f i + sn_ g i
  | 0 => rfl
  | i + 1 => by rw [sn_, sn_, sn_, sn_add f g i]; omega
theorem sn_lt {f : Nat → Nat} {t : Nat} : ∀ i, (∀ m, m < i → f m < t) → sn_ f i + i ≤ i * t
  | 0, _ => by rw [sn_]; omega
  | i + 1, h => by
    have h1 := sn_lt i (fun m hm => h m (by omega))
    have h2 := h i (by omega)
    rw [sn_, Nat.add_mul i 1, Nat.one_mul]
    omega
theorem sn_lt2 {f : Nat → Nat} {t : Nat} (ht : 0 < t) (h : ∀ m, m < 8 → f m < t) : sn_ f 8 < 8 * t := by
  have h1 := sn_lt 8 h
  omega
theorem sn_congr {f g : Nat → Nat} : ∀ i, (∀ m, m < i → f m = g m) → sn_ f i = sn_ g i
  | 0, _ => rfl
  | i + 1, h => by rw [sn_, sn_, sn_congr i (fun m hm => h m (by omega)), h i (by omega)]
/-- x over the weights w of sum t: what is left, c, is less than 8, and the remainders come to c times t -/
theorem left_ {w : Nat → Nat} {x t : Nat} (ht : t = sn_ w 8) (hx : x < t) : ∃ c, c < 8 ∧ sn_ (fun m => x * w m / t) 8 + c = x ∧ sn_ (fun m => x * w m % t) 8 = c * t := by
  have ht0 : 0 < t := by omega
  have e1 : sn_ (fun m => t * (x * w m / t) + x * w m % t) 8 = x * t := by
    rw [sn_congr (g := fun m => x * w m) 8 (fun m _ => Nat.div_add_mod (x * w m) t), sn_mul, ← ht]
  rw [sn_add (fun m => t * (x * w m / t)) (fun m => x * w m % t), sn_mul (fun m => x * w m / t)] at e1
  have e2 := sn_lt2 (f := fun m => x * w m % t) ht0 (fun m _ => Nat.mod_lt _ ht0)
  generalize sn_ (fun m => x * w m / t) 8 = Q at *
  generalize sn_ (fun m => x * w m % t) 8 = S at *
  have hQ : Q ≤ x := by
    refine Nat.le_of_mul_le_mul_left ?_ ht0
    rw [Nat.mul_comm t x]
    omega
  obtain ⟨c, rfl⟩ : ∃ c, x = Q + c := ⟨x - Q, by omega⟩
  rw [Nat.add_mul, Nat.mul_comm Q t] at e1
  have e3 : S = c * t := by omega
  refine ⟨c, ?_, rfl, e3⟩
  refine Nat.not_le.mp fun h => ?_
  have := Nat.mul_le_mul_right t h
  omega
