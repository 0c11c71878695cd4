/-! What would be lost; the plan carried out -/
theorem sn_tail {w : Nat → Nat} {k : Nat} (h : ∀ m, k ≤ m → w m = 0) : ∀ d, sn_ w (k + d) = sn_ w k
  | 0 => rfl
  | d + 1 => by
    show sn_ w (k + d) + w (k + d) = sn_ w k
    rw [sn_tail h d, h (k + d) (by omega)]
    rfl
theorem w2_0 (b : St_) {k m : Nat} (h : k ≤ m) : w2_ b k m = 0 := by unfold w2_; rw [if_neg (by omega)]
theorem w3_0 (b : St_) {k m : Nat} (h : k ≤ m) : w3_ b k m = 0 := by unfold w3_; rw [if_neg (by omega)]
theorem ua_sim {b : St_} {k : Nat} {z : Int64} (hk : k ≤ 8) (hz : be6_ z (-4000000000000000) 4000000000000000) (hN : ∀ m, m < 8 → gl_ b 21 0 m = lN (fn_ b m) ∧ fn_ b m ≤ 1000000000000) (h5 : ∀ m, m < k → be6_ (gl_ b 20 0 m) (-1000000000000000) 1000000000000000) : ∀ i, i ≤ k → (ua_ b z i).toInt = z.toInt - ((sn_ (w2_ b k) i + sn_ (w3_ b k) i : Nat) : Int) ∧ sn_ (w2_ b k) i ≤ i * 1000000000000 ∧ sn_ (w3_ b k) i ≤ i * 1000000000000
  | 0, _ => ⟨by simp [ua_, sn_], by simp [sn_], by simp [sn_]⟩
  | i + 1, hi => by
    obtain ⟨h1, h2, h3⟩ := ua_sim hk hz hN h5 i (by omega)
    obtain ⟨n1, n2⟩ := hN i (by omega)
    have hb := h5 i (by omega)
    unfold be6_ at hb hz
    rw [ua_, sn_, sn_]
    by_cases e : gi_ b 23 0 i = 0
    · have e2 : w2_ b k i = fn_ b i := by unfold w2_; rw [if_pos ⟨by omega, e⟩]
      have e3 : w3_ b k i = min (fn_ b i) (gl_ b 20 0 i).toInt.toNat := by unfold w3_; rw [if_pos ⟨by omega, e⟩]
      have e4 : ni_ (gl_ b 21 0 i) (np_ (gl_ b 20 0 i)) = lN (w3_ b k i) := by rw [n1, np_N, ni_N (by omega) (by omega), e3]
      have hw3 : w3_ b k i ≤ 1000000000000 := by omega
      rw [if_pos e, e4, n1, e2]
      have f1 := lN_I (n := fn_ b i) (by omega)
      have f2 := lN_I (n := w3_ b k i) (by omega)
      have g1 : (ua_ b z i - lN (fn_ b i)).toInt = (ua_ b z i).toInt - (fn_ b i : Int) := by rw [Kit.i64_sub, f1] <;> rw [f1] <;> omega
      have g2 : (ua_ b z i - lN (fn_ b i) - lN (w3_ b k i)).toInt = (ua_ b z i).toInt - (fn_ b i : Int) - (w3_ b k i : Int) := by rw [Kit.i64_sub, g1, f2] <;> rw [g1, f2] <;> omega
      rw [g2, h1]
      exact ⟨by omega, Nat.le_trans (Nat.add_le_add h2 n2) (by rw [Nat.succ_mul]; exact Nat.le_refl _), Nat.le_trans (Nat.add_le_add h3 hw3) (by rw [Nat.succ_mul]; exact Nat.le_refl _)⟩
    · have e2 : w2_ b k i = 0 := by unfold w2_; rw [if_neg (fun z => e z.2)]
      have e3 : w3_ b k i = 0 := by unfold w3_; rw [if_neg (fun z => e z.2)]
      rw [if_neg e, e2, e3, h1]
      exact ⟨by omega, Nat.le_trans h2 (Nat.mul_le_mul_right _ (Nat.le_succ i)), Nat.le_trans h3 (Nat.mul_le_mul_right _ (Nat.le_succ i))⟩
theorem uc_sim {b : St_} {q k X0 C Y0 Y1 Y2 Y3 X4 : Nat} (hk : k ≤ 8) (hq : q < k) (hN : ∀ m, m < 8 → gl_ b 21 0 m = lN (fn_ b m) ∧ fn_ b m ≤ 1000000000000) (h5 : ∀ m, m < k → be6_ (gl_ b 20 0 m) (-1000000000000000) 1000000000000000) (hl : be6_ (gl_ b 23 0 0) 0 1000000000000000)
    (hX0 : X0 = (-(gl_ b 20 0 q).toInt).toNat) (hC : gl_ b 22 0 0 = lN C) (hCb : C ≤ 1000000000000000) (hY0 : Y0 = min X0 (fn_ b q)) (hY1 : Y1 = min (X0 - Y0) C) (hY2 : Y2 = yy_ (X0 - Y0 - Y1) (sn_ (w2_ b k) 8)) (hY3 : Y3 = yy_ (X0 - Y0 - Y1 - Y2) (sn_ (w3_ b k) 8)) (hX4 : X4 = X0 - Y0 - Y1 - Y2 - Y3) : X4 ≤ 1000000000000000 ∧ (uc_ b q k ≤ 1000000000000000 ↔ tm_ (gl_ b 23 0 0 + lN X4)) := by
  have hq8 : q < 8 := by omega
  have hb := h5 q hq
  have hb2 := hb
  unfold be6_ at hb2 hl
  obtain ⟨n1, n2⟩ := hN q hq8
  have e0 : x0_ b q = lN X0 := by rw [x0_, na_N hb, hX0]
  have f0 := lN_I (n := X0) (by omega)
  have f1 := lN_I (n := fn_ b q) (by omega)
  have f2 := lN_I (n := C) (by omega)
  have g1 : (x0_ b q - gl_ b 21 0 q).toInt = (X0 : Int) - (fn_ b q : Int) := by rw [e0, n1, Kit.i64_sub, f0, f1] <;> rw [f0, f1] <;> omega
  have g2 : (x0_ b q - gl_ b 21 0 q - gl_ b 22 0 0).toInt = (X0 : Int) - (fn_ b q : Int) - (C : Int) := by rw [hC, Kit.i64_sub, g1, f2] <;> rw [g1, f2] <;> omega
  obtain ⟨u1, u2, u3⟩ := ua_sim (z := x0_ b q - gl_ b 21 0 q - gl_ b 22 0 0) hk (by unfold be6_; rw [g2]; omega) hN h5 k (Nat.le_refl _)
  have t2 : sn_ (w2_ b k) 8 = sn_ (w2_ b k) k := by
    have := sn_tail (w := w2_ b k) (k := k) (fun m hm => w2_0 b hm) (8 - k)
    rw [show k + (8 - k) = 8 by omega] at this
    exact this
  have t3 : sn_ (w3_ b k) 8 = sn_ (w3_ b k) k := by
    have := sn_tail (w := w3_ b k) (k := k) (fun m hm => w3_0 b hm) (8 - k)
    rw [show k + (8 - k) = 8 by omega] at this
    exact this
  rw [t2] at hY2
  rw [t3] at hY3
  have eu : (ub_ b q k).toInt = (X0 : Int) - (fn_ b q : Int) - (C : Int) - ((sn_ (w2_ b k) k + sn_ (w3_ b k) k : Nat) : Int) := by rw [ub_, u1, g2]
  generalize sn_ (w2_ b k) k = W2 at *
  generalize sn_ (w3_ b k) k = W3 at *
  have hX4b : X4 ≤ 1000000000000000 := by omega
  have em : (X4 : Int) = max 0 ((X0 : Int) - (fn_ b q : Int) - (C : Int) - ((W2 + W3 : Nat) : Int)) := by
    unfold yy_ at hY2 hY3
    split at hY2 <;> split at hY3 <;> omega
  refine ⟨hX4b, ?_⟩
  have f4 := lN_I (n := X4) (by omega)
  have k1 : (1000000000000000 : Int64).toInt = 1000000000000000 := by decide +kernel
  have k0 : (0 : Int64).toInt = 0 := by decide
  have es : (gl_ b 23 0 0 + lN X4).toInt = (gl_ b 23 0 0).toInt + (X4 : Int) := by rw [Kit.i64_add, f4] <;> rw [f4] <;> omega
  rw [tm_b]
  unfold be6_ uc_
  rw [es]
  by_cases c : ub_ b q k ≤ 0
  · rw [if_pos c, Int64.le_iff_toInt_le, k1]
    rw [Int64.le_iff_toInt_le, k0, eu] at c
    omega
  · have es2 : (gl_ b 23 0 0 + ub_ b q k).toInt = (gl_ b 23 0 0).toInt + (ub_ b q k).toInt := by rw [Kit.i64_add] <;> omega
    rw [if_neg c, Int64.le_iff_toInt_le, k1, es2, eu]
    rw [Int64.le_iff_toInt_le, k0, eu] at c
    omega
theorem coS_2 (A : St_) (q : Nat) : ∀ i, (co_ A q i).2 = A.2
  | 0 => rfl
  | i + 1 => by
    rw [co_]
    split
    · exact coS_2 A q i
    · exact coS_2 A q i
def Tk_ (A : St_) (q i : Nat) : Prop := ∀ j, j < i → gi_ A 10 0 j = -1 ∨ ∃ t, t < 8 ∧ t ≠ q ∧ gi_ A 10 0 j = nI t
theorem co_sim {A : St_} {q : Nat} : ∀ i, Tk_ A q i → (∀ v x y, v ≠ 4 → gi_ (co_ A q i) v x y = gi_ A v x y) ∧ (∀ m j, i ≤ j → gi_ (co_ A q i) 4 m j = gi_ A 4 m j) ∧ ∀ j, j < i → (gi_ A 10 0 j = -1 → ∀ m, gi_ (co_ A q i) 4 m j = gi_ A 4 m j) ∧ ∀ t, t < 8 → t ≠ q → gi_ A 10 0 j = nI t → ∀ m, gi_ (co_ A q i) 4 m j = if m = q then 0 else if m = t then gi_ A 4 t j + gi_ A 4 q j else gi_ A 4 m j
  | 0, _ => ⟨fun _ _ _ _ => rfl, fun _ _ _ => rfl, fun j hj => absurd hj (Nat.not_lt_zero _)⟩
  | i + 1, h => by
    obtain ⟨c1, c2, c3⟩ := co_sim i (fun j hj => h j (by omega))
    have ht : gi_ (co_ A q i) 10 0 i = gi_ A 10 0 i := c1 10 0 i (by decide)
    rw [co_, ht]
    rcases h i (by omega) with e | ⟨t, t8, tq, e⟩
    · rw [if_pos e]
      refine ⟨c1, fun m j hj => c2 m j (by omega), fun j hj => ?_⟩
      by_cases ej : j = i
      · subst ej
        refine ⟨fun _ m => c2 m j (Nat.le_refl _), fun t t8 _ et => ?_⟩
        rw [e] at et
        exact absurd et.symm (nI_m1 (by omega))
      · exact c3 j (by omega)
    · have hne : ¬ gi_ A 10 0 i = -1 := fun z => nI_m1 (q := t) (by omega) (e.symm.trans z)
      rw [if_neg hne, e, nI_clamp (by omega)]
      have hqt : q ≠ t := fun z => tq z.symm
      refine ⟨fun v x y hv => ?_, fun m j hj => ?_, fun j hj => ?_⟩
      · rw [gi_si, if_neg (fun z => hv z.1), gi_si, if_neg (fun z => hv z.1), c1 v x y hv]
      · rw [gi_si, if_neg (by omega), gi_si, if_neg (by omega), c2 m j (by omega)]
      · by_cases ej : j = i
        · subst ej
          refine ⟨fun z => absurd z hne, fun u u8 uq eu m => ?_⟩
          have hut : u = t := (nI_eq (by omega) (by omega)).mp (eu.symm.trans e)
          subst hut
          rw [gi_si, gi_si, c2 u j (Nat.le_refl _), c2 q j (Nat.le_refl _), c2 m j (Nat.le_refl _)]
          by_cases em : m = q
          · rw [if_pos ⟨rfl, em, rfl⟩, if_pos em]
          · rw [if_neg (fun z => em z.2.1), if_neg em]
            by_cases eu2 : m = u
            · rw [if_pos ⟨rfl, eu2, rfl⟩, if_pos eu2]
            · rw [if_neg (fun z => eu2 z.2.1), if_neg eu2]
        · have eo : ∀ m, gi_ (si_ (si_ (co_ A q i) 4 t i (gi_ (co_ A q i) 4 t i + gi_ (co_ A q i) 4 q i)) 4 q i 0) 4 m j = gi_ (co_ A q i) 4 m j := fun m => by
            rw [gi_si, if_neg (fun z => ej z.2.2), gi_si, if_neg (fun z => ej z.2.2)]
          obtain ⟨d1, d2⟩ := c3 j (by omega)
          exact ⟨fun z m => by rw [eo]; exact d1 z m, fun u u8 uq eu m => by rw [eo]; exact d2 u u8 uq eu m⟩
