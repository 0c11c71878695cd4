/-! rows on bits, pasted from the kit (a family that is given for pasting), and division on both sides -/
theorem wb_tb (n : Nat) : (lN n).toBitVec = BitVec.ofNat 64 n := rfl
theorem wb_inj {a b : Int64} (h : a.toBitVec = b.toBitVec) : a = b := Int64.toBitVec_inj.mp h
theorem wb_tn {n : Nat} (h : n < 2 ^ 64) : (lN n).toBitVec.toNat = n := by rw [wb_tb, BitVec.toNat_ofNat, Nat.mod_eq_of_lt h]
theorem wb_of (x : Int64) : ∃ n, n < 2 ^ 64 ∧ x = lN n := ⟨x.toBitVec.toNat, x.toBitVec.isLt, wb_inj (by rw [wb_tb]; simp)⟩
theorem wb_of32 (x : Int32) : ∃ n, n < 2 ^ 32 ∧ x = nI n := ⟨x.toBitVec.toNat, x.toBitVec.isLt, Int32.toBitVec_inj.mp (by show _ = BitVec.ofNat 32 _; simp)⟩
theorem wb_c : ∀ k, k < 64 → ((nI k).toInt64 &&& 63) = lN k := by decide +kernel
theorem wb_cu : ∀ k, k < 64 → ((nI k).toInt64.toUInt64 &&& Int64.toUInt64 63) = UInt64.ofNat k := by decide +kernel
theorem wb_sm : ∀ k, k < 64 → (BitVec.ofNat 64 k).smod 64 = BitVec.ofNat 64 k := by decide +kernel
theorem wb_pw {a b : Nat} (h : a ≤ b) : 2 ^ b = 2 ^ a * 2 ^ (b - a) := by rw [← Nat.pow_add]; congr 1; omega
theorem wb_lt2 {a b : Nat} (h : a < b) : 2 ^ a < 2 ^ b := Nat.pow_lt_pow_right (by decide) h
theorem wb_mod (n : Nat) : lN n = lN (n % 2 ^ 64) := wb_inj (by rw [wb_tb, wb_tb]; apply BitVec.eq_of_toNat_eq; rw [BitVec.toNat_ofNat, BitVec.toNat_ofNat, Nat.mod_mod])
theorem wb_shr {n k : Nat} (hn : n < 2 ^ 64) (hk : k < 64) : ((lN n).toUInt64 >>> ((nI k).toInt64.toUInt64 &&& Int64.toUInt64 63)).toInt64 = lN (n / 2 ^ k) := by
  rw [wb_cu k hk]
  apply wb_inj
  apply BitVec.eq_of_toNat_eq
  show ((lN n).toUInt64 >>> UInt64.ofNat k).toNat = (BitVec.ofNat 64 _).toNat
  have h1 : (UInt64.ofNat k).toNat = k := by
    show (BitVec.ofNat 64 k).toNat = k
    rw [BitVec.toNat_ofNat, Nat.mod_eq_of_lt (by omega)]
  have h2 : (lN n).toUInt64.toNat = n := wb_tn hn
  rw [UInt64.toNat_shiftRight, h1, h2, Nat.mod_eq_of_lt hk, Nat.shiftRight_eq_div_pow, BitVec.toNat_ofNat, Nat.mod_eq_of_lt (Nat.lt_of_le_of_lt (Nat.div_le_self _ _) hn)]
theorem wb_shl (n : Nat) {k : Nat} (hk : k < 64) : lN n <<< ((nI k).toInt64 &&& 63) = lN (n * 2 ^ k) := by
  rw [wb_c k hk]
  apply wb_inj
  rw [Int64.toBitVec_shiftLeft, wb_tb, wb_tb, wb_tb, wb_sm k hk]
  apply BitVec.eq_of_toNat_eq
  rw [BitVec.shiftLeft_eq', BitVec.toNat_shiftLeft, BitVec.toNat_ofNat, BitVec.toNat_ofNat, BitVec.toNat_ofNat, Nat.mod_eq_of_lt (show k < 2 ^ 64 by omega), Nat.shiftLeft_eq, Nat.mul_mod, Nat.mod_mod, ← Nat.mul_mod]
theorem wb_and {a b : Nat} (ha : a < 2 ^ 64) (hb : b < 2 ^ 64) : lN a &&& lN b = lN (a &&& b) := by
  apply wb_inj
  rw [Int64.toBitVec_and, wb_tb, wb_tb, wb_tb]
  apply BitVec.eq_of_toNat_eq
  rw [BitVec.toNat_and, BitVec.toNat_ofNat, BitVec.toNat_ofNat, BitVec.toNat_ofNat, Nat.mod_eq_of_lt ha, Nat.mod_eq_of_lt hb, Nat.mod_eq_of_lt (Nat.and_lt_two_pow _ hb)]
theorem wb_or {a b : Nat} (ha : a < 2 ^ 64) (hb : b < 2 ^ 64) : lN a ||| lN b = lN (a ||| b) := by
  apply wb_inj
  rw [Int64.toBitVec_or, wb_tb, wb_tb, wb_tb]
  apply BitVec.eq_of_toNat_eq
  rw [BitVec.toNat_or, BitVec.toNat_ofNat, BitVec.toNat_ofNat, BitVec.toNat_ofNat, Nat.mod_eq_of_lt ha, Nat.mod_eq_of_lt hb, Nat.mod_eq_of_lt (Nat.or_lt_two_pow ha hb)]
theorem wb_mask {n k : Nat} (hn : n < 2 ^ 64) (hk : k < 64) : lN n &&& lN (2 ^ k - 1) = lN (n % 2 ^ k) := by
  rw [wb_and hn (by have := wb_lt2 hk; omega), Nat.and_two_pow_sub_one_eq_mod]
theorem wb_a1 {n : Nat} (hn : n < 2 ^ 64) : lN n &&& 1 = lN (n % 2) := wb_mask (k := 1) hn (by decide)
theorem lN_I {n : Nat} (h : n < 2 ^ 63) : (lN n).toInt = (n : Int) := lg_ofNat_toInt h
theorem lN_of {x : Int64} (h : 0 ≤ x.toInt) : x = lN x.toInt.toNat ∧ x.toInt.toNat < 2 ^ 63 := by
  have h2 := x.toInt_lt
  have h3 : x.toInt.toNat < 2 ^ 63 := by omega
  exact ⟨Int64.toInt_inj.mp (by rw [lN_I h3]; omega), h3⟩
theorem lN_lt6 {a b : Nat} (ha : a < 2 ^ 63) (hb : b < 2 ^ 63) : lN a < lN b ↔ a < b := by rw [Int64.lt_iff_toInt_lt, lN_I ha, lN_I hb]; omega
theorem lN_le6 {a b : Nat} (ha : a < 2 ^ 63) (hb : b < 2 ^ 63) : lN a ≤ lN b ↔ a ≤ b := by rw [Int64.le_iff_toInt_le, lN_I ha, lN_I hb]; omega
theorem lN_div {a b : Nat} (ha : a < 2 ^ 63) (hb : b < 2 ^ 63) : lN a / lN b = lN (a / b) := by
  have hq : a / b < 2 ^ 63 := Nat.lt_of_le_of_lt (Nat.div_le_self _ _) ha
  apply Int64.toInt_inj.mp
  rw [Kit.i64_div (by rw [lN_I ha]; omega), lN_I ha, lN_I hb, lN_I hq, Int.tdiv_eq_ediv_of_nonneg (by omega)]
  exact (Int.natCast_ediv a b).symm
theorem sh_k : ∀ k, k < 64 → (((nI k).toInt64 &&& 63).toBitVec.smod 64).toNat = k := by decide +kernel
theorem lN_shr {n k : Nat} (hn : n < 2 ^ 63) (hk : k < 64) : lN n >>> ((nI k).toInt64 &&& 63) = lN (n / 2 ^ k) := by
  have hq : n / 2 ^ k < 2 ^ 63 := Nat.lt_of_le_of_lt (Nat.div_le_self _ _) hn
  apply Int64.toInt_inj.mp
  rw [Kit.i64_shr _ _ (sh_k k hk), lN_I hn, lN_I hq, Int.natCast_ediv, Int.natCast_pow]
  rfl
theorem rp_N {y h : Nat} (hy : y < 2 ^ 63) (hh : h < 64) {g : Int32} (hg : g = nI h) : rp_ (lN y) g = lN (y / 2 ^ h % 65536) := by
  subst hg
  rw [rp_, lN_shr hy hh]
  have hq : y / 2 ^ h < 2 ^ 64 := Nat.lt_of_le_of_lt (Nat.div_le_self _ _) (by omega)
  exact wb_mask (k := 16) hq (by decide)
theorem rv_N (r x y : Nat) : rv_ (lN r) (lN x) (lN y) = lN (r * 65536 + x * y) := by
  rw [rv_, show (16 : Int32) = nI 16 by decide +kernel, wb_shl r (by decide), lN_mul, lN_add]
theorem rq_N (q : Nat) {v t : Nat} (hv : v < 2 ^ 63) (ht : t < 2 ^ 63) : rq_ (lN q) (lN v) (lN t) = lN (q * 65536 + v / t) := by
  rw [rq_, show (16 : Int32) = nI 16 by decide +kernel, wb_shl q (by decide), lN_div hv ht, lN_add]
theorem rr_N {v t : Nat} (hv : v < 2 ^ 63) (ht : t < 2 ^ 63) : rr_ (lN v) (lN t) = lN (v % t) := by
  rw [rr_, lN_div hv ht, lN_mul, lN_sub (Nat.div_mul_le_self v t)]
  congr 1
  have := Nat.div_add_mod v t
  rw [Nat.mul_comm] at this
  omega
theorem dv3_ {t x c2 c1 c0 y b : Nat} (ht : 0 < t) (ey : y = (c2 * b + c1) * b + c0) : x * y / t = (x * c2 / t * b + (x * c2 % t * b + x * c1) / t) * b + ((x * c2 % t * b + x * c1) % t * b + x * c0) / t ∧ x * y % t = ((x * c2 % t * b + x * c1) % t * b + x * c0) % t := by
  have h1 := Nat.div_add_mod (x * c2) t
  have h2 := Nat.div_add_mod (x * c2 % t * b + x * c1) t
  have h3 := Nat.div_add_mod ((x * c2 % t * b + x * c1) % t * b + x * c0) t
  have hr := Nat.mod_lt ((x * c2 % t * b + x * c1) % t * b + x * c0) ht
  have exy : x * y = (x * c2 * b + x * c1) * b + x * c0 := by rw [ey, Nat.mul_add, ← Nat.mul_assoc, Nat.mul_add, ← Nat.mul_assoc]
  generalize x * c2 / t = q1 at *
  generalize x * c2 % t = r1 at *
  generalize (r1 * b + x * c1) / t = q2 at *
  generalize (r1 * b + x * c1) % t = r2 at *
  generalize (r2 * b + x * c0) / t = q3 at *
  generalize (r2 * b + x * c0) % t = r3 at *
  have e : x * y = r3 + t * ((q1 * b + q2) * b + q3) := by
    rw [exy, ← h1, Nat.add_mul (t * q1), Nat.add_assoc, ← h2, ← Nat.add_assoc, Nat.add_mul _ r2, Nat.add_assoc, ← h3, Nat.mul_add t, ← Nat.mul_assoc t, Nat.mul_add t, ← Nat.mul_assoc t]
    omega
  rw [e]
  refine ⟨?_, ?_⟩
  · rw [Nat.add_mul_div_left _ _ ht, Nat.div_eq_of_lt hr, Nat.zero_add]
  · rw [Nat.add_mul_mod_self_left, Nat.mod_eq_of_lt hr]
/-- the class's division: by three limbs -/
theorem dqr_N {y x t : Nat} (hy : y < 2 ^ 48) (hx : x < t) (ht : t < 2 ^ 45) : dq_ (lN y) (lN x) (lN t) = lN (x * y / t) ∧ dr_ (lN y) (lN x) (lN t) = lN (x * y % t) := by
  have ht0 : 0 < t := by omega
  have l2 : rp_ (lN y) 32 = lN (y / 2 ^ 32 % 65536) := rp_N (by omega) (by decide) (by decide +kernel)
  have l1 : rp_ (lN y) 16 = lN (y / 2 ^ 16 % 65536) := rp_N (by omega) (by decide) (by decide +kernel)
  have l0 : rp_ (lN y) 0 = lN (y / 2 ^ 0 % 65536) := rp_N (by omega) (by decide) (by decide +kernel)
  have ey : y = ((y / 2 ^ 32 % 65536) * 65536 + y / 2 ^ 16 % 65536) * 65536 + y / 2 ^ 0 % 65536 := by omega
  have b2 : y / 2 ^ 32 % 65536 ≤ 65535 := by omega
  have b1 : y / 2 ^ 16 % 65536 ≤ 65535 := by omega
  have b0 : y / 2 ^ 0 % 65536 ≤ 65535 := by omega
  generalize y / 2 ^ 32 % 65536 = c2 at *
  generalize y / 2 ^ 16 % 65536 = c1 at *
  generalize y / 2 ^ 0 % 65536 = c0 at *
  obtain ⟨d1, d2⟩ := dv3_ (x := x) (b := 65536) ht0 ey
  have m2 : x * c2 ≤ 2 ^ 45 * 65535 := Nat.mul_le_mul (by omega) b2
  have m1 : x * c1 ≤ 2 ^ 45 * 65535 := Nat.mul_le_mul (by omega) b1
  have m0 : x * c0 ≤ 2 ^ 45 * 65535 := Nat.mul_le_mul (by omega) b0
  have r1 : x * c2 % t < t := Nat.mod_lt _ ht0
  have r2 : (x * c2 % t * 65536 + x * c1) % t < t := Nat.mod_lt _ ht0
  have e1 : v1_ (lN y) (lN x) = lN (x * c2) := by
    rw [v1_, l2, show (0 : Int64) = lN 0 by decide +kernel, rv_N, Nat.zero_mul, Nat.zero_add]
  have e2 : v2_ (lN y) (lN x) (lN t) = lN (x * c2 % t * 65536 + x * c1) := by
    rw [v2_, e1, rr_N (by omega) (by omega), l1, rv_N]
  have e3 : v3_ (lN y) (lN x) (lN t) = lN ((x * c2 % t * 65536 + x * c1) % t * 65536 + x * c0) := by
    rw [v3_, e2, rr_N (by omega) (by omega), l0, rv_N]
  refine ⟨?_, ?_⟩
  · rw [dq_, e1, e2, e3, show (0 : Int64) = lN 0 by decide +kernel, rq_N _ (by omega) (by omega), rq_N _ (by omega) (by omega), rq_N _ (by omega) (by omega), Nat.zero_mul, Nat.zero_add, d1]
  · rw [dr_, e3, rr_N (by omega) (by omega), d2]
/-- the reference's division: bit by bit -/
theorem db_N {x i : Nat} (hx : x < 2 ^ 63) (hi : i < 63) : db_ (lN x) i ↔ x / 2 ^ (62 - i) % 2 = 1 := by
  unfold db_
  rw [show nI (63 - i) - 1 = nI (62 - i) by rw [show 63 - i = (62 - i) + 1 by omega, nI_pred], lN_shr hx (by omega)]
  have hq : x / 2 ^ (62 - i) < 2 ^ 64 := Nat.lt_of_le_of_lt (Nat.div_le_self _ _) (by omega)
  rw [wb_a1 hq, show (1 : Int64) = lN 1 by decide +kernel, lN_eq (by omega) (by omega)]
theorem dv_N {y x t : Nat} (hy : y ≤ t) (ht0 : 0 < t) (ht : t < 2 ^ 60) (hx : x < 2 ^ 60) : ∀ i, i ≤ 63 → dv_ (lN y) (lN x) (lN t) i = (lN (x / 2 ^ (63 - i) * y / t), lN (x / 2 ^ (63 - i) * y % t))
  | 0, _ => by
    rw [dv_, show x / 2 ^ (63 - 0) = 0 by omega, Nat.zero_mul, Nat.zero_div, Nat.zero_mod]
    decide +kernel
  | i + 1, hi => by
    have ih := dv_N hy ht0 ht hx i (by omega)
    have eX : x / 2 ^ (63 - i) = x / 2 ^ (62 - i) / 2 := by
      rw [Nat.div_div_eq_div_mul, show 63 - i = (62 - i) + 1 by omega, Nat.pow_succ]
    rw [show 63 - (i + 1) = 62 - i by omega]
    have hX : x / 2 ^ (62 - i) < 2 ^ 60 := Nat.lt_of_le_of_lt (Nat.div_le_self _ _) hx
    have hbit := db_N (x := x) (i := i) (by omega) (by omega)
    rw [eX] at ih
    generalize x / 2 ^ (62 - i) = X at *
    have hs := Nat.div_add_mod (X / 2 * y) t
    have hr := Nat.mod_lt (X / 2 * y) ht0
    have hq : X / 2 * y / t ≤ X / 2 := by
      rw [Nat.div_le_iff_le_mul_add_pred ht0]
      have := Nat.mul_le_mul_left (X / 2) hy
      rw [Nat.mul_comm t]
      omega
    generalize X / 2 * y / t = q at *
    generalize X / 2 * y % t = r at *
    have fin : ∀ Q R, R < t → X * y = R + t * Q → (lN Q, lN R) = (lN (X * y / t), lN (X * y % t)) := by
      intro Q R h1 h2
      rw [h2, Nat.add_mul_div_left _ _ ht0, Nat.div_eq_of_lt h1, Nat.zero_add, Nat.add_mul_mod_self_left, Nat.mod_eq_of_lt h1]
    have eXy : X * y = (X / 2 * y) * 2 + (X % 2) * y := by
      have := Nat.div_add_mod X 2
      rw [Nat.mul_comm] at this
      calc X * y = (X / 2 * 2 + X % 2) * y := by rw [this]
        _ = X / 2 * y * 2 + X % 2 * y := by rw [Nat.add_mul, Nat.mul_right_comm]
    have h1 : d1_ (lN q, lN r) (lN t) = if 2 * r < t then (lN (2 * q), lN (2 * r)) else (lN (2 * q + 1), lN (2 * r - t)) := by
      rw [d1_]
      show (if 2 * lN r < lN t then _ else _) = _
      rw [show (2 : Int64) = lN 2 by decide +kernel, show (1 : Int64) = lN 1 by decide +kernel, lN_mul, lN_mul, lN_add]
      by_cases h : 2 * r < t
      · rw [if_pos h, if_pos ((lN_lt6 (by omega) (by omega)).mpr h)]
      · rw [if_neg h, if_neg (fun z => h ((lN_lt6 (by omega) (by omega)).mp z)), lN_sub (by omega)]
    have h2 : ∀ Q R, R < t → d2_ (lN Q, lN R) (lN y) (lN t) = if R + y < t then (lN Q, lN (R + y)) else (lN (Q + 1), lN (R + y - t)) := by
      intro Q R hR
      rw [d2_]
      show (if lN R + lN y < lN t then _ else _) = _
      rw [show (1 : Int64) = lN 1 by decide +kernel, lN_add, lN_add]
      by_cases h : R + y < t
      · rw [if_pos h, if_pos ((lN_lt6 (by omega) (by omega)).mpr h)]
      · rw [if_neg h, if_neg (fun z => h ((lN_lt6 (by omega) (by omega)).mp z)), lN_sub (by omega)]
    have em : ∀ Q, t * (Q + 1) = t * Q + t := fun Q => Nat.mul_succ t Q
    have e2 : t * (2 * q) = 2 * (t * q) := Nat.mul_left_comm t 2 q
    rw [dv_, ih, h1]
    have em1 := em (2 * q)
    have em2 := em (2 * q + 1)
    by_cases hb : X % 2 = 1
    · rw [if_pos (hbit.mpr hb)]
      rw [hb, Nat.one_mul] at eXy
      by_cases hr2 : 2 * r < t
      · rw [if_pos hr2, h2 _ _ hr2]
        by_cases hr3 : 2 * r + y < t
        · rw [if_pos hr3]
          exact fin _ _ hr3 (by omega)
        · rw [if_neg hr3]
          exact fin _ _ (by omega) (by omega)
      · rw [if_neg hr2, h2 _ _ (by omega)]
        by_cases hr3 : 2 * r - t + y < t
        · rw [if_pos hr3]
          exact fin _ _ hr3 (by omega)
        · rw [if_neg hr3]
          exact fin _ _ (by omega) (by omega)
    · rw [if_neg (fun z => hb (hbit.mp z))]
      rw [show X % 2 = 0 by omega, Nat.zero_mul] at eXy
      by_cases hr2 : 2 * r < t
      · rw [if_pos hr2]
        exact fin _ _ hr2 (by omega)
      · rw [if_neg hr2]
        exact fin _ _ (by omega) (by omega)
