/-! The sharing: what comes out, on both sides -/
theorem sn_pos {f : Nat → Nat} : ∀ i, 0 < sn_ f i → ∃ m, m < i ∧ 0 < f m
  | 0, h => absurd h (Nat.lt_irrefl _)
  | i + 1, h => by
    rw [sn_] at h
    by_cases q : 0 < f i
    · exact ⟨i, by omega, q⟩
    · obtain ⟨m, h1, h2⟩ := sn_pos i (show 0 < sn_ f i by omega)
      exact ⟨m, by omega, h2⟩
theorem sn_upd {f f' : Nat → Nat} {s : Nat} (h : ∀ m, m ≠ s → f' m = f m) : ∀ i, sn_ f' i + (if s < i then f s else 0) = sn_ f i + (if s < i then f' s else 0)
  | 0 => by rw [if_neg (by omega), if_neg (by omega)]; rfl
  | i + 1 => by
    have ih := sn_upd h i
    rw [sn_, sn_]
    by_cases e : i = s
    · subst e
      rw [if_neg (by omega), if_neg (by omega)] at ih
      rw [if_pos (by omega), if_pos (by omega)]
      omega
    · rw [h i e]
      by_cases q : s < i
      · rw [if_pos q, if_pos q] at ih
        rw [if_pos (by omega), if_pos (by omega)]
        omega
      · rw [if_neg q, if_neg q] at ih
        rw [if_neg (by omega), if_neg (by omega)]
        omega
theorem ps_upd {f f' : Nat → Int64} {s : Nat} (h : ∀ m, m ≠ s → f' m = f m) (hs : f' s = f s + 1) : ∀ i, ps_ f' i = ps_ f i + (if s < i then 1 else 0)
  | 0 => by rw [if_neg (by omega), ps_, ps_]; decide +kernel
  | i + 1 => by
    have ih := ps_upd h hs i
    rw [ps_, ps_, ih]
    by_cases e : i = s
    · subst e
      rw [if_neg (by omega), if_pos (by omega), hs, Int64.add_zero, Int64.add_assoc]
    · rw [h i e]
      by_cases q : s < i
      · rw [if_pos q, if_pos (by omega), Int64.add_assoc, Int64.add_assoc, Int64.add_comm 1]
      · rw [if_neg q, if_neg (by omega), Int64.add_zero, Int64.add_zero]
def Wn_ (w : Nat → Nat) (a : St_) (v : Nat) : Prop := ∀ m, m < 8 → gl_ a v 0 m = lN (w m)
def Iv_ (w : Nat → Nat) (x t c g : Nat) (A : St_) : Prop := (∀ m, m < 8 → (gl_ A 11 0 m = lN (x * w m / t) ∧ gl_ A 12 0 m = lN (x * w m % t)) ∨ (gl_ A 11 0 m = lN (x * w m / t + 1) ∧ gl_ A 12 0 m = -1 ∧ 0 < x * w m % t)) ∧ c * t + g ≤ sn_ (fun m => (gl_ A 12 0 m).toInt.toNat) 8 + g * t
theorem go_o (a : St_) (v x y : Nat) (h : v ≠ 11) (h2 : v ≠ 12) : gl_ (go_ a) v x y = gl_ a v x y := by
  rw [go_, gl_sl, if_neg (by omega), gl_sl, if_neg (by omega)]
theorem Iv_step {w : Nat → Nat} {x t c g : Nat} {A : St_} (ht : 0 < t) (ht6 : t < 2 ^ 60) (hg : g < c) (h : Iv_ w x t c g A) : Iv_ w x t c (g + 1) (go_ A) ∧ ps_ (fun m => gl_ (go_ A) 11 0 m) 8 = ps_ (fun m => gl_ A 11 0 m) 8 + 1 := by
  obtain ⟨h1, h2⟩ := h
  have hc : (g + 1) * t ≤ c * t := Nat.mul_le_mul_right t hg
  rw [Nat.add_mul, Nat.one_mul] at hc
  obtain ⟨⟨hs8, -⟩, hmax⟩ := gg_b A 8 (by omega)
  have hm1 : (-1 : Int64).toInt = -1 := by decide +kernel
  obtain ⟨m, hm, hmp⟩ := sn_pos 8 (show 0 < sn_ (fun m => (gl_ A 12 0 m).toInt.toNat) 8 by omega)
  have hge := Int64.le_iff_toInt_le.mp (hmax m hm)
  have e11 : ∀ i, gl_ (go_ A) 11 0 i = if i = gg_ A 8 then gl_ A 11 0 (gg_ A 8) + 1 else gl_ A 11 0 i := fun i => by
    rw [go_, gl_sl, if_neg (by omega), gl_sl]
    by_cases e : i = gg_ A 8
    · rw [if_pos ⟨rfl, rfl, e⟩, if_pos e]
    · rw [if_neg (fun q => e q.2.2), if_neg e]
  have e12 : ∀ i, gl_ (go_ A) 12 0 i = if i = gg_ A 8 then -1 else gl_ A 12 0 i := fun i => by
    rw [go_, gl_sl]
    by_cases e : i = gg_ A 8
    · rw [if_pos ⟨rfl, rfl, e⟩, if_pos e]
    · rw [if_neg (fun q => e q.2.2), if_neg e, gl_sl, if_neg (by omega)]
  generalize gg_ A 8 = s at *
  have hr : x * w s % t < t := Nat.mod_lt _ ht
  rcases h1 s hs8 with ⟨s1, s2⟩ | ⟨s1, s2, s3⟩
  · have er : (gl_ A 12 0 s).toInt = ((x * w s % t : Nat) : Int) := by rw [s2, lN_I (by omega)]
    have hpos : 0 < x * w s % t := by
      have : 0 < (gl_ A 12 0 m).toInt := by
        have := hmp
        omega
      omega
    refine ⟨⟨fun i hi => ?_, ?_⟩, ?_⟩
    · rw [e11, e12]
      by_cases e : i = s
      · subst e
        rw [if_pos rfl, if_pos rfl, s1, lN_1]
        exact Or.inr ⟨rfl, rfl, hpos⟩
      · rw [if_neg e, if_neg e]
        exact h1 i hi
    · have hu := sn_upd (f := fun m => (gl_ A 12 0 m).toInt.toNat) (f' := fun m => (gl_ (go_ A) 12 0 m).toInt.toNat) (s := s) (fun i hi => by rw [e12, if_neg hi]) 8
      rw [if_pos hs8, if_pos hs8] at hu
      rw [show (gl_ (go_ A) 12 0 s).toInt.toNat = 0 by rw [e12, if_pos rfl, hm1]; rfl, show (gl_ A 12 0 s).toInt.toNat = x * w s % t by rw [er]; rfl] at hu
      rw [Nat.add_mul, Nat.one_mul]
      omega
    · rw [ps_upd (f := fun m => gl_ A 11 0 m) (s := s) (fun i hi => by rw [e11, if_neg hi]) (by rw [e11, if_pos rfl]) 8, if_pos hs8]
  · rw [s2, hm1] at hge
    have := hmp
    omega
theorem Iv_it {w : Nat → Nat} {x t c : Nat} {A : St_} (ht : 0 < t) (ht6 : t < 2 ^ 60) (h : Iv_ w x t c 0 A) : ∀ g, g ≤ c → Iv_ w x t c g (it_ A g) ∧ ps_ (fun m => gl_ (it_ A g) 11 0 m) 8 = ps_ (fun m => gl_ A 11 0 m) 8 + lN g
  | 0, _ => ⟨h, by rw [it_, show lN 0 = 0 by decide +kernel, Int64.add_zero]⟩
  | g + 1, hg => by
    obtain ⟨h1, h2⟩ := Iv_it ht ht6 h g (by omega)
    obtain ⟨h3, h4⟩ := Iv_step ht ht6 (by omega) h1
    exact ⟨h3, by rw [it_, h4, h2, Int64.add_assoc, lN_1]⟩
theorem it_o (a : St_) (v x y : Nat) (h : v ≠ 11) (h2 : v ≠ 12) : ∀ g, gl_ (it_ a g) v x y = gl_ a v x y
  | 0 => rfl
  | g + 1 => by rw [it_, go_o _ _ _ _ h h2, it_o a v x y h h2 g]
theorem it_1 (a : St_) : ∀ g, (it_ a g).1 = a.1
  | 0 => rfl
  | g + 1 => it_1 a g
theorem hw_o (a : St_) (v x y : Nat) (h : v ≠ 30) (h2 : v ≠ 31) : ∀ g, gl_ (hw_ a g) v x y = gl_ a v x y
  | 0 => rfl
  | g + 1 => by rw [hw_, hs_, gl_sl, if_neg (by omega), gl_sl, if_neg (by omega), hw_o a v x y h h2 g]
theorem hw_1 (a : St_) : ∀ g, (hw_ a g).1 = a.1
  | 0 => rfl
  | g + 1 => hw_1 a g
theorem sn_le {f g : Nat → Nat} : ∀ i, (∀ m, m < i → f m ≤ g m) → sn_ f i ≤ sn_ g i
  | 0, _ => Nat.le_refl _
  | i + 1, h => by
    have := sn_le i (fun m hm => h m (by omega))
    have := h i (by omega)
    rw [sn_, sn_]
    omega
theorem sn_t {w : Nat → Nat} {B : Nat} : ∀ i, (∀ m, m < i → w m ≤ B) → sn_ w i ≤ i * B
  | 0, _ => by rw [sn_]; omega
  | i + 1, h => by
    have := sn_t i (fun m hm => h m (by omega))
    have := h i (by omega)
    rw [sn_, Nat.add_mul, Nat.one_mul]
    omega
theorem wt_N {w : Nat → Nat} {a : St_} (hw : Wn_ w a 10) : wt_ a 8 = lN (sn_ w 8) := by rw [wt_ps, ps_congr (g := fun m => lN (w m)) 8 hw, ps_N]
theorem qw_N {w : Nat → Nat} {a : St_} (hw : Wn_ w a 29) : qw_ a 8 = lN (sn_ w 8) := by rw [qw_ps, ps_congr (g := fun m => lN (w m)) 8 hw, ps_N]
theorem lN_inj6 {a b : Nat} (ha : a < 2 ^ 63) (hb : b < 2 ^ 63) (h : lN a = lN b) : a = b := by
  have : (lN a).toInt = (lN b).toInt := by rw [h]
  rw [lN_I ha, lN_I hb] at this
  omega
theorem sq_1 (a : St_) (x : Int64) : (sq_ a x).1 = a.1 := by
  have gw : ∀ (y : Int64) (f : Nat) (b : St_), (gw_ y b f).1 = b.1 := by
    intro y f
    induction f with
    | zero => intro b; rfl
    | succ f ih =>
      intro b
      rw [gw_]
      split
      · rfl
      · rw [ih]; rfl
  unfold sq_
  split
  · exact bw_1 a 8
  · split
    · rw [gw]; exact ro_1 a _ _ 8
    · exact bw_1 a 8
theorem sq_o (a : St_) (X : Int64) (v x y : Nat) (h : v ≠ 11) (h2 : v ≠ 12) : gl_ (sq_ a X) v x y = gl_ a v x y := by
  have gw : ∀ (z : Int64) (f : Nat) (b : St_), gl_ (gw_ z b f) v x y = gl_ b v x y := by
    intro z f
    induction f with
    | zero => intro b; rfl
    | succ f ih =>
      intro b
      rw [gw_]
      split
      · rfl
      · rw [ih, go_o _ _ _ _ h h2]
  unfold sq_
  split
  · rw [bw_l, if_neg (by omega)]
  · split
    · rw [gw, ro_l, if_neg (by omega), if_neg (by omega)]
    · rw [bw_l, if_neg (by omega)]
theorem shs_1 (a : St_) (x : Int64) : (shs_ a x).1 = a.1 := by
  unfold shs_
  split
  · rw [hw_1, s0_, hd_1, ha_1]
  · rw [hb_1, ha_1]
theorem shs_o (a : St_) (X : Int64) (v x y : Nat) (h : v ≠ 30) (h2 : v ≠ 31) : gl_ (shs_ a X) v x y = gl_ a v x y := by
  unfold shs_
  split
  · rw [hw_o _ _ _ _ h h2, s0_, hd_l, if_neg (by omega), if_neg (by omega), ha_l, if_neg (by omega), if_neg (by omega)]
  · rw [hb_l, if_neg (by omega), ha_l, if_neg (by omega), if_neg (by omega)]
set_option maxHeartbeats 4000000 in
theorem split_sim {a b : St_} {w : Nat → Nat} {x : Nat} (hw : Wn_ w a 10) (hv : Wn_ w b 29) (hb : ∀ m, m < 8 → w m ≤ 1000000000000) (hx : x < 2 ^ 60) : hc_ b (lN x) ∧ shv_ b (lN x) = lN (if x < sn_ w 8 then x else sn_ w 8) ∧
    ∃ pn : Nat → Nat, (∀ m, m < 8 → gl_ (sq_ a (lN x)) 11 0 m = lN (pn m)) ∧ (∀ m, m < 8 → gl_ (shs_ b (lN x)) 30 0 m = lN (pn m)) ∧ (∀ m, m < 8 → pn m ≤ w m) ∧ sn_ pn 8 = if x < sn_ w 8 then x else sn_ w 8 := by
  have hT : sn_ w 8 ≤ 8 * 1000000000000 := sn_t 8 hb
  have ew := wt_N hw
  have eq := qw_N hv
  obtain ⟨t, ht⟩ : ∃ t, t = sn_ w 8 := ⟨_, rfl⟩
  rw [← ht] at hT ew eq ⊢
  have z0 : (0 : Int64) = lN 0 := by decide +kernel
  by_cases hxt : x < t
  · have ht0 : 0 < t := by omega
    obtain ⟨c, hc8, hcs, hcr⟩ := left_ ht hxt
    have hlt : lN x < lN t := (lN_lt6 (by omega) (by omega)).mpr hxt
    have hdc : ∀ m, m < 8 → dq_ (gl_ a 10 0 m) (lN x) (lN t) = lN (x * w m / t) ∧ dr_ (gl_ a 10 0 m) (lN x) (lN t) = lN (x * w m % t) := fun m hm => by
      rw [hw m hm]
      have := hb m hm
      exact dqr_N (by omega) hxt (by omega)
    have hle : ∀ m, m < 8 → w m ≤ t := fun m hm => by
      rw [ht]
      have h1 : m = 0 ∨ m = 1 ∨ m = 2 ∨ m = 3 ∨ m = 4 ∨ m = 5 ∨ m = 6 ∨ m = 7 := by omega
      simp only [sn_]
      rcases h1 with rfl | rfl | rfl | rfl | rfl | rfl | rfl | rfl <;> omega
    have hdm : ∀ m, m < 8 → dv_ (gl_ b 29 0 m) (lN x) (lN t) 63 = (lN (x * w m / t), lN (x * w m % t)) := fun m hm => by
      rw [hv m hm]
      have h := dv_N (hle m hm) ht0 (show t < 2 ^ 60 by omega) hx 63 (by omega)
      rw [show x / 2 ^ (63 - 63) = x by omega] at h
      exact h
    have hrl : rl_ a (lN x) (lN t) 8 = lN c := by
      rw [rl_ps, ps_congr (g := fun m => lN (x * w m / t)) 8 (fun m hm => (hdc m hm).1), ps_N, lN_sub (by omega)]
      congr 1
      omega
    have h29 : ∀ m, gl_ (ha_ b 8) 29 0 m = gl_ b 29 0 m := fun m => by rw [ha_l, if_neg (by omega), if_neg (by omega)]
    have hs1 : s1_ b (lN x) = lN c := by
      rw [s1_, eq, hl_ps, ps_congr (g := fun m => lN (x * w m / t)) 8 (fun m hm => by rw [h29, hdm m hm]), ps_N, lN_sub (by omega)]
      congr 1
      omega
    have hsq : sq_ a (lN x) = it_ (ro_ a (lN x) (lN t) 8) c := by
      rw [sq_, ew, if_neg (by rw [z0, lN_le6 (by omega) (by omega)]; omega), if_pos hlt, hrl]
      exact gw_it _ (by omega) 8 0 rfl (by omega)
    have hsh : shs_ b (lN x) = hw_ (s0_ b (lN x)) c := by
      rw [shs_, eq, if_pos hlt, hs1, lN_I (by omega)]
      rfl
    have hSe : Se_ (ro_ a (lN x) (lN t) 8) (s0_ b (lN x)) := fun m hm => by
      rw [ro_l, if_pos ⟨rfl, rfl, hm⟩, ro_l, if_neg (by omega), if_pos ⟨rfl, rfl, hm⟩, s0_, eq, hd_l, if_pos ⟨rfl, rfl, hm⟩, hd_l, if_neg (by omega), if_pos ⟨rfl, rfl, hm⟩, h29, hdm m hm, (hdc m hm).1, (hdc m hm).2]
      exact ⟨rfl, rfl⟩
    have hIv : Iv_ w x t c 0 (ro_ a (lN x) (lN t) 8) := by
      refine ⟨fun m hm => Or.inl ?_, ?_⟩
      · rw [ro_l, if_pos ⟨rfl, rfl, hm⟩, ro_l, if_neg (by omega), if_pos ⟨rfl, rfl, hm⟩]
        exact hdc m hm
      · rw [sn_congr (g := fun m => x * w m % t) 8 (fun m hm => by
          rw [ro_l, if_neg (by omega), if_pos ⟨rfl, rfl, hm⟩, (hdc m hm).2, lN_I (by have := Nat.mod_lt (x * w m) ht0; omega)]
          rfl), hcr]
        omega
    obtain ⟨i1, i2⟩ := Iv_it ht0 (by omega) hIv c (Nat.le_refl _)
    have hql : ∀ m, m < 8 → x * w m / t ≤ w m ∧ (0 < x * w m % t → x * w m / t + 1 ≤ w m) := fun m hm => by
      have h1 : x * w m ≤ t * w m := Nat.mul_le_mul_right _ (by omega)
      have h2 := Nat.div_add_mod (x * w m) t
      refine ⟨?_, fun hp => ?_⟩
      · refine Nat.le_of_mul_le_mul_left (c := t) ?_ ht0
        omega
      · have h3 : t * (x * w m / t) < t * w m := by omega
        exact Nat.lt_of_mul_lt_mul_left h3
    have hpn : ∀ m, m < 8 → ∃ p, p ≤ w m ∧ gl_ (it_ (ro_ a (lN x) (lN t) 8) c) 11 0 m = lN p := fun m hm => by
      obtain ⟨q1, q2⟩ := hql m hm
      rcases i1.1 m hm with ⟨s1, -⟩ | ⟨s1, -, s3⟩
      · exact ⟨_, q1, s1⟩
      · exact ⟨_, q2 s3, s1⟩
    obtain ⟨pn, hpn⟩ : ∃ pn : Nat → Nat, ∀ m, m < 8 → pn m ≤ w m ∧ gl_ (it_ (ro_ a (lN x) (lN t) 8) c) 11 0 m = lN (pn m) := by
      refine ⟨fun m => if h : m < 8 then Classical.choose (hpn m h) else 0, fun m hm => ?_⟩
      simp only [dif_pos hm]
      exact Classical.choose_spec (hpn m hm)
    refine ⟨fun _ => ⟨c, by omega, hs1⟩, by rw [shv_, eq, if_pos hlt, if_pos hxt], pn, fun m hm => by rw [hsq]; exact (hpn m hm).2, fun m hm => by rw [hsh, ← (Se_it hSe c m hm).1]; exact (hpn m hm).2, fun m hm => (hpn m hm).1, ?_⟩
    rw [if_pos hxt]
    have hsp : sn_ pn 8 ≤ 8 * 1000000000000 := Nat.le_trans (sn_le 8 (fun m hm => (hpn m hm).1)) (by rw [← ht]; exact hT)
    refine lN_inj6 (by omega) (by omega) ?_
    rw [← ps_N, ← ps_congr (f := fun m => gl_ (it_ (ro_ a (lN x) (lN t) 8) c) 11 0 m) 8 (fun m hm => (hpn m hm).2), i2, ps_congr (g := fun m => lN (x * w m / t)) 8 (fun m hm => by rw [ro_l, if_pos ⟨rfl, rfl, hm⟩, (hdc m hm).1]), ps_N, lN_add, hcs]
  · have hlt : ¬ lN x < lN t := fun q => hxt ((lN_lt6 (by omega) (by omega)).mp q)
    have hsq : sq_ a (lN x) = bw_ a 8 := by
      rw [sq_, ew, if_neg hlt]
      split <;> rfl
    have hsh : shs_ b (lN x) = hb_ (ha_ b 8) 8 := by rw [shs_, eq, if_neg hlt]
    refine ⟨fun q => absurd (by rw [eq] at q; exact q) hlt, by rw [shv_, eq, if_neg hlt, if_neg hxt], w, fun m hm => ?_, fun m hm => ?_, fun _ _ => Nat.le_refl _, by rw [if_neg hxt, ht]⟩
    · rw [hsq, bw_l, if_pos ⟨rfl, rfl, hm⟩, hw m hm]
    · rw [hsh, hb_l, if_pos ⟨rfl, rfl, hm⟩, ha_l, if_neg (by omega), if_neg (by omega), hv m hm]
