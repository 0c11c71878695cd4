/-! The margin, on both sides -/
theorem mb_ {p q : Int} {P Q : Nat} (hp : -(P : Int) ≤ p ∧ p ≤ P) (hq : -(Q : Int) ≤ q ∧ q ≤ Q) : -((P * Q : Nat) : Int) ≤ p * q ∧ p * q ≤ ((P * Q : Nat) : Int) := by
  have h : (p * q).natAbs ≤ P * Q := by
    rw [Int.natAbs_mul]
    exact Nat.mul_le_mul (by omega) (by omega)
  omega
theorem mb6_ {p q : Int} (hp : -1000000 ≤ p ∧ p ≤ 1000000) (hq : -1000000 ≤ q ∧ q ≤ 1000000) : -1000000000000 ≤ p * q ∧ p * q ≤ 1000000000000 := mb_ (P := 1000000) (Q := 1000000) hp hq
theorem neg_add6 (x y : Int64) : -(x + y) = -x - y := by
  exact Int64.neg_add
def Mv_ (a b : St_) (m : Nat) : Prop := (∀ j, j < 6 → gi_ a 4 m j = gi_ b 24 0 (6 * m + j) ∧ bd_ (gi_ a 4 m j) (-1000000) 1000000) ∧ (∀ v, v < 8 → ∀ j, j < 6 → gi_ a 9 v j = gi_ b 29 0 (6 * v + j) ∧ bd_ (gi_ a 9 v j) (-1000000) 1000000) ∧ ∀ j, j < 6 → gi_ a 7 j 0 = gi_ b 27 0 j ∧ gi_ a 8 j 0 = gi_ b 28 0 j ∧ bd_ (gi_ a 7 j 0) 0 1000000 ∧ bd_ (gi_ a 8 j 0) 0 1000000
theorem mv_ls {a b : St_} {m v : Nat} (h : Mv_ a b m) (hv : v < 8) : ∀ i, i ≤ 6 → qs_ b v m i = -(ls_ a v m i)
  | 0, _ => by simp [qs_, ls_]
  | i + 1, hi => by
    rw [qs_, ls_, mv_ls h hv i (by omega), neg_add6, (h.1 i (by omega)).1, (h.2.1 v hv i (by omega)).1]
theorem ls_b {a b : St_} {m v : Nat} (h : Mv_ a b m) (hv : v < 8) : ∀ i : Nat, i ≤ 6 → -((i : Int) * 1000000000000) ≤ (ls_ a v m i).toInt ∧ (ls_ a v m i).toInt ≤ (i : Int) * 1000000000000
  | 0, _ => by simp [ls_]
  | i + 1, hi => by
    have ih := ls_b h hv i (by omega)
    have b1 := (h.1 i (by omega)).2
    have b2 := (h.2.1 v hv i (by omega)).2
    have b3 := mb6_ b1 b2
    have e1 : ((gi_ a 4 m i).toInt64 * (gi_ a 9 v i).toInt64).toInt = (gi_ a 4 m i).toInt * (gi_ a 9 v i).toInt := by
      rw [Kit.i64_mul, t64, t64] <;> rw [t64, t64] <;> omega
    rw [ls_, Kit.i64_add, e1] <;> (try rw [e1]) <;> omega
theorem ms_b {a b : St_} {m n : Nat} (h : Mv_ a b m) (hn : n ≤ 6) : ∀ v, v ≤ 8 → 0 ≤ (ms_ a m n v).toInt ∧ (ms_ a m n v).toInt ≤ 6000000000000
  | 0, _ => by simp [ms_]
  | v + 1, hv => by
    have ih := ms_b h hn v (by omega)
    have b1 := ls_b h (v := v) (by omega) n hn
    have e1 : (-(ls_ a v m n)).toInt = -(ls_ a v m n).toInt := Kit.i64_neg (by omega)
    rw [ms_, mx_]
    split
    · exact ih
    · rename_i q
      rw [Int64.lt_iff_toInt_lt, e1] at q
      rw [e1]
      omega
theorem mv_ms {a b : St_} {m n : Nat} (h : Mv_ a b m) (hn : n ≤ 6) : ∀ v, v ≤ 8 → qm_ b m n v = ms_ a m n v
  | 0, _ => rfl
  | v + 1, hv => by
    rw [qm_, ms_, mv_ms h hn v (by omega), mv_ls h (by omega) n hn, mx_]
    by_cases q : -(ls_ a v m n) < ms_ a m n v
    · rw [if_pos q, if_pos (by rw [Int64.le_iff_toInt_le]; rw [Int64.lt_iff_toInt_lt] at q; omega)]
    · rw [if_neg q]
      by_cases q2 : -(ls_ a v m n) ≤ ms_ a m n v
      · rw [if_pos q2]
        rw [Int64.le_iff_toInt_le] at q2
        rw [Int64.lt_iff_toInt_lt] at q
        exact Int64.toInt_inj.mp (by omega)
      · rw [if_neg q2]
theorem ab_b {x : Int32} (h : bd_ x (-1000000) 1000000) : 0 ≤ (ab_ x).toInt ∧ (ab_ x).toInt ≤ 1000000 ∧ av_ x.toInt64 = (ab_ x).toInt64 := by
  unfold bd_ at h
  unfold ab_ av_
  by_cases q : 0 ≤ x
  · have q2 : 0 ≤ x.toInt64 := by rw [Kit.i64_nonneg, t64]; exact Kit.i32_nonneg.mp q
    rw [if_pos q, if_pos q2]
    exact ⟨Kit.i32_nonneg.mp q, h.2, rfl⟩
  · have q1 : ¬ 0 ≤ x.toInt := fun z => q (Kit.i32_nonneg.mpr z)
    have q2 : ¬ 0 ≤ x.toInt64 := by rw [Kit.i64_nonneg, t64]; exact q1
    have e0 : (0 : Int32).toInt = 0 := by decide
    have e1 : (0 - x).toInt = -x.toInt := by rw [Kit.i32_sub, e0] <;> omega
    rw [if_neg q, if_neg q2]
    refine ⟨by omega, by omega, Int64.toInt_inj.mp ?_⟩
    rw [Kit.i64_neg (by rw [t64]; omega), t64, t64, e1]
theorem mv_x1 {x lm ex : Int32} (h : bd_ x (-1000000) 1000000) (h1 : bd_ lm 0 1000000) (h2 : bd_ ex 0 1000000) : (ab_ x - lm ≤ 0 ↔ av_ x.toInt64 ≤ lm.toInt64) ∧ (ab_ x - lm).toInt64 * ex.toInt64 = ex.toInt64 * (av_ x.toInt64 - lm.toInt64) ∧ (¬ ab_ x - lm ≤ 0 → 0 ≤ ((ab_ x - lm).toInt64 * ex.toInt64).toInt ∧ ((ab_ x - lm).toInt64 * ex.toInt64).toInt ≤ 1000000000000) := by
  obtain ⟨b1, b2, b3⟩ := ab_b h
  unfold bd_ at h1 h2
  have e0 : (0 : Int32).toInt = 0 := by decide
  have e1 : (ab_ x - lm).toInt = (ab_ x).toInt - lm.toInt := by rw [Kit.i32_sub] <;> omega
  have e2 : (ab_ x - lm).toInt64 = (ab_ x).toInt64 - lm.toInt64 := Int64.toInt_inj.mp (by rw [t64, e1, Kit.i64_sub, t64, t64] <;> rw [t64, t64] <;> omega)
  refine ⟨?_, ?_, fun q => ?_⟩
  · rw [b3, Int32.le_iff_toInt_le, Int64.le_iff_toInt_le, e1, t64, t64, e0]
    omega
  · rw [b3, e2, Int64.mul_comm]
  · rw [Int32.le_iff_toInt_le, e1, e0] at q
    have b4 := mb6_ (p := (ab_ x).toInt - lm.toInt) (q := ex.toInt) (by omega) (by omega)
    have b5 : 0 ≤ ((ab_ x).toInt - lm.toInt) * ex.toInt := Int.mul_nonneg (by omega) (by omega)
    have e3 : ((ab_ x - lm).toInt64 * ex.toInt64).toInt = ((ab_ x).toInt - lm.toInt) * ex.toInt := by
      rw [Kit.i64_mul, t64, t64, e1] <;> rw [t64, t64, e1] <;> omega
    rw [e3]
    exact ⟨b5, b4.2⟩
theorem xs_b {a b : St_} {m : Nat} (h : Mv_ a b m) : ∀ i : Nat, i ≤ 6 → 0 ≤ (xs_ a m i).toInt ∧ (xs_ a m i).toInt ≤ (i : Int) * 1000000000000
  | 0, _ => by simp [xs_]
  | i + 1, hi => by
    have ih := xs_b h i (by omega)
    have b1 := (h.1 i (by omega)).2
    obtain ⟨-, -, b2, b3⟩ := h.2.2 i (by omega)
    obtain ⟨-, -, c3⟩ := mv_x1 b1 b2 b3
    rw [xs_]
    split
    · omega
    · rename_i q
      have c4 := c3 q
      rw [Kit.i64_add] <;> omega
theorem mv_xs {a b : St_} {m : Nat} (h : Mv_ a b m) (z : Int64) : ∀ i, i ≤ 6 → qx_ b m z i = z + xs_ a m i
  | 0, _ => by simp [qx_, xs_]
  | i + 1, hi => by
    have b1 := (h.1 i (by omega)).2
    obtain ⟨f1, f2, b2, b3⟩ := h.2.2 i (by omega)
    obtain ⟨c1, c2, -⟩ := mv_x1 b1 b2 b3
    rw [qx_, xs_, mv_xs h z i (by omega), ← (h.1 i (by omega)).1, ← f1, ← f2]
    by_cases q : ab_ (gi_ a 4 m i) - gi_ a 7 i 0 ≤ 0
    · rw [if_pos q, if_pos (c1.mp q)]
    · rw [if_neg q, if_neg (fun z => q (c1.mpr z)), c2, Int64.add_assoc]
theorem mv_mg {a b : St_} {m n : Nat} (h : Mv_ a b m) (hn : n ≤ 6) : qg_ b m n = mg_ a m n := by
  rw [qg_, mg_, mv_xs h _ n hn, mv_ms h hn 8 (by omega)]
theorem mg_b {a b : St_} {m n : Nat} (h : Mv_ a b m) (hn : n ≤ 6) : 0 ≤ (mg_ a m n).toInt ∧ (mg_ a m n).toInt ≤ 12000000000000 := by
  have b1 := ms_b h hn 8 (by omega)
  have b2 := xs_b h n hn
  have b3 : (mg_ a m n).toInt = (ms_ a m n 8).toInt + (xs_ a m n).toInt := by rw [mg_, Kit.i64_add] <;> omega
  omega
theorem Mv_of {a b : St_} {m : Nat} (hP : Rp_ a) (hN : Ri_ a) (hm : m < 8) (h4 : ∀ j, j < 6 → gi_ b 24 0 (6 * m + j) = gi_ a 24 0 (6 * m + j)) (h9 : ∀ j, gi_ b 29 0 j = gi_ a 29 0 j) (h7 : ∀ j, gi_ b 27 0 j = gi_ a 27 0 j) (h8 : ∀ j, gi_ b 28 0 j = gi_ a 28 0 j) : Mv_ a b m :=
  ⟨fun j hj => ⟨by rw [h4 j hj]; exact (hP m hm j hj).1, (hP m hm j hj).2.2.2.1⟩, fun v hv j hj => ⟨by rw [h9]; exact (hP v hv j hj).2.2.1, (hP v hv j hj).2.2.2.2.2⟩, fun j hj => ⟨by rw [h7]; exact (hN j hj).2.1, by rw [h8]; exact (hN j hj).2.2.1, (hN j hj).2.2.2.2.1, (hN j hj).2.2.2.2.2⟩⟩
/-- what a member is called for -/
theorem mv_sf {a b : St_} {m n : Nat} (h : Mv_ a b m) (hn : n ≤ 6) (hs : gi_ a 3 m 0 = gi_ b 23 0 m) (hc : gl_ a 2 m 0 = gl_ b 20 0 m) : qc_ b m n = sf_ a m n := by
  rw [qc_, sf_, mv_mg h hn, ← hs, ← hc]
  by_cases q : gi_ a 3 m 0 = 0
  · rw [if_pos q]
    unfold mx_
    by_cases q2 : 0 ≤ mg_ a m n - gl_ a 2 m 0
    · rw [if_pos ⟨q, q2⟩, if_neg]
      rw [Int64.lt_iff_toInt_lt]
      rw [Int64.le_iff_toInt_le] at q2
      omega
    · rw [if_neg (fun z => q2 z.2), if_pos]
      rw [Int64.lt_iff_toInt_lt]
      rw [Int64.le_iff_toInt_le] at q2
      omega
  · rw [if_neg q, if_neg (fun z => q z.1)]
