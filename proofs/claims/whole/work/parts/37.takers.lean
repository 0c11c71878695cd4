/-! Who takes what: the class's plan and the reference's giving -/
theorem lb_bb {a b : St_} {j : Nat} (hj : j < 6) (hs : ∀ m, m < 8 → gi_ a 3 m 0 = gi_ b 23 0 m) (hb : ∀ m, m < 8 → gi_ a 5 m j = gi_ b 25 0 (6 * m + j)) : ∀ i, i ≤ 8 → lb_ a j i = bb_ b j i ∧ ∀ t, lb_ a j i = some t → t < i ∧ gi_ a 3 t 0 = 0
  | 0, _ => ⟨rfl, fun t h => by cases h⟩
  | i + 1, hi => by
    obtain ⟨h1, h2⟩ := lb_bb hj hs hb i (by omega)
    rw [lb_, bb_, ← h1, hs i (by omega)]
    by_cases q : gi_ b 23 0 i = 0
    · rw [if_pos q, if_pos q]
      have q' : gi_ a 3 i 0 = 0 := (hs i (by omega)).trans q
      cases hl : lb_ a j i with
      | none => exact ⟨rfl, fun t h => by cases h; exact ⟨by omega, q'⟩⟩
      | some u =>
        obtain ⟨u1, u2⟩ := h2 u hl
        dsimp only
        rw [hb u (by omega), hb i (by omega)]
        refine ⟨rfl, fun t h => ?_⟩
        split at h
        · cases h
          exact ⟨by omega, u2⟩
        · cases h
          exact ⟨by omega, q'⟩
    · rw [if_neg q, if_neg q]
      exact ⟨rfl, fun t h => by obtain ⟨u1, u2⟩ := h2 t h; exact ⟨by omega, u2⟩⟩
theorem eg_stop (q k : Nat) : ∀ f i b, ¬ gi_ b 31 0 0 = 0 → eg_ q k f i b = b
  | 0, _, _, _ => rfl
  | f + 1, i, b, h => by rw [eg_, if_neg h]
def Pf_ (a b : St_) : Prop := (∀ v x y, v ≠ 10 → gi_ b v x y = gi_ a v x y) ∧ ∀ v x y, v ≠ 5 → gl_ b v x y = gl_ a v x y
theorem Pf_t {a b c : St_} (h1 : Pf_ a b) (h2 : Pf_ b c) : Pf_ a c := ⟨fun v x y h => (h2.1 v x y h).trans (h1.1 v x y h), fun v x y h => (h2.2 v x y h).trans (h1.2 v x y h)⟩
theorem Pf_s (a : St_) (i : Nat) (z : Int32) : Pf_ a (si_ a 10 0 i z) := ⟨fun v x y h => by rw [gi_si, if_neg (fun q => h q.1)], fun v x y h => rfl⟩
theorem Pf_k (a : St_) (q t j : Nat) : Pf_ a (tk_ a q t j) := ⟨fun v x y h => by rw [tk_, gi_sl, gi_sl, gi_si, if_neg (fun q => h q.1)], fun v x y h => by rw [tk_, gl_sl, if_neg (fun q => h q.1), gl_sl, if_neg (fun q => h q.1), gl_si]⟩
theorem ptF_ (q k : Nat) : ∀ f i a, Pf_ a (pt_ q k f i a).2
  | 0, _, _ => ⟨fun _ _ _ _ => rfl, fun _ _ _ _ => rfl⟩
  | f + 1, i, a => by
    rw [pt_]
    split
    · exact Pf_t (Pf_s a i (-1)) (ptF_ q k f _ _)
    · split
      · exact Pf_s a i (-1)
      · split
        · exact Pf_t (Pf_t (Pf_s a i (-1)) (Pf_k _ _ _ _)) (ptF_ q k f _ _)
        · exact Pf_t (Pf_s a i (-1)) (Pf_k _ _ _ _)
def Ef_ (a b : St_) : Prop := (∀ v x y, v ≠ 24 → v ≠ 31 → gi_ b v x y = gi_ a v x y) ∧ ∀ v x y, v ≠ 20 → gl_ b v x y = gl_ a v x y
theorem Ef_t {a b c : St_} (h1 : Ef_ a b) (h2 : Ef_ b c) : Ef_ a c := ⟨fun v x y h h' => (h2.1 v x y h h').trans (h1.1 v x y h h'), fun v x y h => (h2.2 v x y h).trans (h1.2 v x y h)⟩
theorem gd_i (b : St_) (q t j v x y : Nat) (h : v ≠ 24) (h' : v ≠ 31) : gi_ (gd_ b q t j) v x y = gi_ b v x y := by
  simp [gd_, ch_, cc_, gc_, gi_si, gi_sl, h, h']
theorem gd_p (b : St_) (q t j p : Nat) : gi_ (gd_ b q t j) 24 0 p = if p = 6 * q + j then 0 else if p = 6 * t + j then gb_ b q t j else gi_ b 24 0 p := by
  rw [gd_, ch_, gi_si, if_neg (by omega), cc_, gi_sl, ch_, gi_si, if_neg (by omega), cc_, gi_sl, gc_, gi_si]
  by_cases e : p = 6 * q + j
  · rw [if_pos ⟨rfl, rfl, e⟩, if_pos e]
  · rw [if_neg (fun z => e z.2.2), if_neg e, gi_si]
    by_cases e2 : p = 6 * t + j
    · rw [if_pos ⟨rfl, rfl, e2⟩, if_pos e2]
    · rw [if_neg (fun z => e2 z.2.2), if_neg e2, gi_si, if_neg (by omega)]
theorem gd_l (b : St_) (q t j v x y : Nat) (h : v ≠ 20) : gl_ (gd_ b q t j) v x y = gl_ b v x y := by
  simp [gd_, ch_, cc_, gc_, gl_si, gl_sl, h]
theorem gd_c (b : St_) (q t j m : Nat) (hqt : t ≠ q) : gl_ (gd_ b q t j) 20 0 m = if m = q then gl_ b 20 0 q - ga_ b q t j else if m = t then gl_ b 20 0 t + ga_ b q t j else gl_ b 20 0 m := by
  have h2 : q ≠ t := fun z => hqt z.symm
  simp only [gd_, ch_, cc_, gc_, gl_si, gl_sl]
  by_cases e : m = q
  · subst e
    simp [h2, Int64.sub_eq_add_neg]
  · simp [e]
theorem gd_b (b : St_) (q t j : Nat) (hqt : t ≠ q) (hb : gi_ b 31 0 0 = 0) : gi_ (gd_ b q t j) 31 0 0 = 0 ↔ (¬ 1000000 < gb_ b q t j ∧ -1000000 ≤ gb_ b q t j) ∧ tm_ (gl_ b 20 0 t + ga_ b q t j) ∧ tm_ (gl_ b 20 0 q - ga_ b q t j) := by
  have h2 : q ≠ t := fun z => hqt z.symm
  have one : ¬ (1 : Int32) = 0 := by decide
  have e1 : gl_ (gc_ b q t j) 20 0 t = gl_ b 20 0 t := rfl
  have e2 : gi_ (gc_ b q t j) 31 0 0 = if gi_ b 31 0 0 = 0 ∧ ¬ 1000000 < gb_ b q t j ∧ -1000000 ≤ gb_ b q t j then 0 else 1 := by simp [gc_, gi_si]
  have e3 : gi_ (ch_ (gc_ b q t j) t (ga_ b q t j)) 31 0 0 = if gi_ (gc_ b q t j) 31 0 0 = 0 ∧ tm_ (gl_ b 20 0 t + ga_ b q t j) then 0 else 1 := by
    have c1 : gl_ (cc_ (gc_ b q t j) t (ga_ b q t j)) 20 0 t = gl_ b 20 0 t + ga_ b q t j := by rw [cc_, gl_sl, if_pos ⟨rfl, rfl, rfl⟩, e1]
    have c2 : gi_ (cc_ (gc_ b q t j) t (ga_ b q t j)) 31 0 0 = gi_ (gc_ b q t j) 31 0 0 := rfl
    rw [ch_, gi_si, if_pos ⟨rfl, rfl, rfl⟩, c1, c2]
  have e4 : gi_ (gd_ b q t j) 31 0 0 = if gi_ (ch_ (gc_ b q t j) t (ga_ b q t j)) 31 0 0 = 0 ∧ tm_ (gl_ b 20 0 q - ga_ b q t j) then 0 else 1 := by
    have c0 : gl_ (ch_ (gc_ b q t j) t (ga_ b q t j)) 20 0 q = gl_ b 20 0 q := by
      rw [ch_, gl_si, cc_, gl_sl, if_neg (fun z => h2 z.2.2)]
      rfl
    have c1 : gl_ (cc_ (ch_ (gc_ b q t j) t (ga_ b q t j)) q (-ga_ b q t j)) 20 0 q = gl_ b 20 0 q - ga_ b q t j := by rw [cc_, gl_sl, if_pos ⟨rfl, rfl, rfl⟩, c0, Int64.sub_eq_add_neg]
    have c2 : gi_ (cc_ (ch_ (gc_ b q t j) t (ga_ b q t j)) q (-ga_ b q t j)) 31 0 0 = gi_ (ch_ (gc_ b q t j) t (ga_ b q t j)) 31 0 0 := rfl
    rw [gd_]
    conv => lhs; rw [ch_]
    rw [gi_si, if_pos ⟨rfl, rfl, rfl⟩, c1, c2]
  rw [e4]
  constructor
  · intro h
    by_cases c1 : gi_ (ch_ (gc_ b q t j) t (ga_ b q t j)) 31 0 0 = 0 ∧ tm_ (gl_ b 20 0 q - ga_ b q t j)
    · obtain ⟨c2, c3⟩ := c1
      rw [e3] at c2
      by_cases c4 : gi_ (gc_ b q t j) 31 0 0 = 0 ∧ tm_ (gl_ b 20 0 t + ga_ b q t j)
      · obtain ⟨c5, c6⟩ := c4
        rw [e2] at c5
        by_cases c7 : gi_ b 31 0 0 = 0 ∧ ¬ 1000000 < gb_ b q t j ∧ -1000000 ≤ gb_ b q t j
        · exact ⟨c7.2, c6, c3⟩
        · rw [if_neg c7] at c5
          exact absurd c5 one
      · rw [if_neg c4] at c2
        exact absurd c2 one
    · rw [if_neg c1] at h
      exact absurd h one
  · rintro ⟨c1, c2, c3⟩
    rw [if_pos]
    refine ⟨?_, c3⟩
    rw [e3, if_pos]
    refine ⟨?_, c2⟩
    rw [e2, if_pos ⟨hb, c1⟩]
theorem ge_f (q k : Nat) (b : St_) (i : Nat) : Ef_ b (ge_ b q k i) := by
  rw [ge_]
  split
  · exact ⟨fun _ _ _ _ _ => rfl, fun _ _ _ _ => rfl⟩
  · split
    · exact ⟨fun v x y h h' => by rw [gi_si, if_neg (fun q => h' q.1)], fun _ _ _ _ => rfl⟩
    · exact ⟨fun v x y h h' => gd_i _ _ _ _ _ _ _ h h', fun v x y h => gd_l _ _ _ _ _ _ _ h⟩
theorem eg_f (q k : Nat) : ∀ f i b, Ef_ b (eg_ q k f i b)
  | 0, _, _ => ⟨fun _ _ _ _ _ => rfl, fun _ _ _ _ => rfl⟩
  | f + 1, i, b => by
    rw [eg_]
    split
    · exact Ef_t (ge_f q k b i) (eg_f q k f _ _)
    · exact ⟨fun _ _ _ _ _ => rfl, fun _ _ _ _ => rfl⟩
/-- what holds of both sides at the beginning -/
def S0_ (o b0 : St_) (q k : Nat) : Prop := (k ≤ 8 ∧ q < k ∧ gi_ o 3 q 0 = 1) ∧ (∀ m, m < 8 → gi_ o 3 m 0 = gi_ b0 23 0 m) ∧ (∀ m, m < 8 → ∀ j, j < 6 → gi_ o 5 m j = gi_ b0 25 0 (6 * m + j) ∧ bd_ (gi_ o 4 m j) (-1000000) 1000000)
def Sg_ (o b0 : St_) (q k i : Nat) (a b : St_) : Prop := (∀ v x y, v ≠ 10 → gi_ a v x y = gi_ o v x y) ∧ Ef_ b0 b ∧ gi_ b 31 0 0 = 0 ∧ (∀ m, m < k → gl_ a 5 0 m = gl_ b 20 0 m ∧ be6_ (gl_ a 5 0 m) (-1000000000000000) 1000000000000000) ∧ (∀ m, k ≤ m → gl_ b 20 0 m = gl_ b0 20 0 m) ∧
  (∀ m, m < 8 → ∀ j, j < 6 → i ≤ j → gi_ b 24 0 (6 * m + j) = gi_ o 4 m j) ∧
  ∀ j, j < i → j < 6 → (gi_ a 10 0 j = -1 ∧ ∀ m, m < 8 → gi_ b 24 0 (6 * m + j) = gi_ o 4 m j) ∨ ∃ t, t < k ∧ t ≠ q ∧ gi_ a 10 0 j = nI t ∧ bd_ (gi_ o 4 t j + gi_ o 4 q j) (-1000000) 1000000 ∧ ∀ m, m < 8 → gi_ b 24 0 (6 * m + j) = if m = q then 0 else if m = t then gi_ o 4 t j + gi_ o 4 q j else gi_ o 4 m j
set_option maxHeartbeats 4000000 in
theorem tk_sim {o b0 : St_} {q k : Nat} (h0 : S0_ o b0 q k) : ∀ f i a b, i + f ≤ 6 → Sg_ o b0 q k i a b → ((pt_ q k f i a).1 = true ∧ Sg_ o b0 q k (i + f) (pt_ q k f i a).2 (eg_ q k f i b)) ∨ ((pt_ q k f i a).1 = false ∧ ¬ gi_ (eg_ q k f i b) 31 0 0 = 0)
  | 0, i, a, b, _, h => Or.inl ⟨rfl, h⟩
  | f + 1, i, a, b, hf, h => by
    obtain ⟨⟨hk8, hqk, hsq⟩, hs, hp⟩ := id h0
    obtain ⟨s1, s2, s3, s4, s5, s6, s7⟩ := h
    have one : ¬ (1 : Int32) = 0 := by decide
    have f1 : ∀ v x y, v ≠ 10 → gi_ (si_ a 10 0 i (-1)) v x y = gi_ o v x y := fun v x y hv => by rw [gi_si, if_neg (fun z => hv z.1), s1 v x y hv]
    have ep : gi_ b 24 0 (6 * q + i) = gi_ o 4 q i := s6 q (by omega) i (by omega) (Nat.le_refl _)
    rw [pt_, eg_, if_pos s3, ge_]
    by_cases hz : gi_ o 4 q i = 0
    · have hz1 : gi_ (si_ a 10 0 i (-1)) 4 q i = 0 := (f1 4 q i (by decide)).trans hz
      have hz2 : gi_ b 24 0 (6 * q + i) = 0 := ep.trans hz
      rw [if_pos hz1, if_pos hz2, show i + (f + 1) = (i + 1) + f by omega]
      refine tk_sim h0 f (i + 1) _ _ (by omega) ⟨f1, s2, s3, s4, s5, fun m hm j hj hij => s6 m hm j hj (by omega), fun j hj hj6 => ?_⟩
      by_cases e : j = i
      · subst e
        refine Or.inl ⟨by rw [gi_si, if_pos ⟨rfl, rfl, rfl⟩], fun m hm => s6 m hm j hj6 (Nat.le_refl _)⟩
      · have e2 : gi_ (si_ a 10 0 i (-1)) 10 0 j = gi_ a 10 0 j := by rw [gi_si, if_neg (fun z => e z.2.2)]
        rw [e2]
        exact s7 j (by omega) hj6
    · have hz1 : ¬ gi_ (si_ a 10 0 i (-1)) 4 q i = 0 := fun z => hz ((f1 4 q i (by decide)).symm.trans z)
      have hz2 : ¬ gi_ b 24 0 (6 * q + i) = 0 := fun z => hz (ep.symm.trans z)
      rw [if_neg hz1, if_neg hz2]
      obtain ⟨l1, l2⟩ := lb_bb (a := si_ a 10 0 i (-1)) (b := b) (show i < 6 by omega) (fun m hm => by rw [f1 _ _ _ (by decide), s2.1 23 _ _ (by decide) (by decide)]; exact hs m hm) (fun m hm => by rw [f1 _ _ _ (by decide), s2.1 25 _ _ (by decide) (by decide)]; exact (hp m hm i (by omega)).1) k hk8
      rw [← l1]
      cases hl : lb_ (si_ a 10 0 i (-1)) i k with
      | none =>
        dsimp only
        refine Or.inr ⟨rfl, ?_⟩
        have e31 : ¬ gi_ (si_ b 31 0 0 1) 31 0 0 = 0 := by rw [gi_si, if_pos ⟨rfl, rfl, rfl⟩]; exact one
        rw [eg_stop q k f (i + 1) _ e31]
        exact e31
      | some t =>
        dsimp only
        obtain ⟨t1, t2⟩ := l2 t hl
        rw [f1 _ _ _ (by decide)] at t2
        have htq : t ≠ q := fun z => by rw [z, hsq] at t2; exact one t2
        have htq' : q ≠ t := fun z => htq z.symm
        have eas : as_ (si_ a 10 0 i (-1)) q t i = ga_ b q t i := by
          rw [as_, ga_, f1 _ _ _ (by decide), f1 _ _ _ (by decide), s2.1 25 _ _ (by decide) (by decide), ← (hp t (by omega) i (by omega)).1, ep]
        have egb : gb_ b q t i = gi_ o 4 t i + gi_ o 4 q i := by rw [gb_, ep, s6 t (by omega) i (by omega) (Nat.le_refl _)]
        have ct : gl_ (tk_ (si_ a 10 0 i (-1)) q t i) 5 0 t = gl_ b 20 0 t + ga_ b q t i := by
          rw [tk_, gl_sl, if_neg (fun z => htq z.2.2), gl_sl, if_pos ⟨rfl, rfl, rfl⟩, eas, gl_si, (s4 t t1).1]
        have cq : gl_ (tk_ (si_ a 10 0 i (-1)) q t i) 5 0 q = gl_ b 20 0 q - ga_ b q t i := by
          rw [tk_, gl_sl, if_pos ⟨rfl, rfl, rfl⟩, gl_sl, if_neg (fun z => htq' z.2.2), eas, gl_si, gl_si, (s4 q hqk).1]
        have co : ∀ m, m ≠ t → m ≠ q → gl_ (tk_ (si_ a 10 0 i (-1)) q t i) 5 0 m = gl_ a 5 0 m := fun m h1 h2 => by
          rw [tk_, gl_sl, if_neg (fun z => h2 z.2.2), gl_sl, if_neg (fun z => h1 z.2.2), gl_si, gl_si]
        have hiff : to_ (si_ a 10 0 i (-1)) q t i ↔ gi_ (gd_ b q t i) 31 0 0 = 0 := by
          rw [gd_b b q t i htq s3]
          unfold to_
          rw [ct, cq, f1 _ _ _ (by decide), f1 _ _ _ (by decide), egb, tn_b]
          have b1 := (hp t (by omega) i (by omega)).2
          have b2 := (hp q (by omega) i (by omega)).2
          unfold bd_ at b1 b2 ⊢
          have e := Kit.i32_add (x := gi_ o 4 t i) (y := gi_ o 4 q i) (by omega) (by omega)
          rw [Int32.lt_iff_toInt_lt, Int32.le_iff_toInt_le, show (1000000 : Int32).toInt = 1000000 by decide +kernel, show (-1000000 : Int32).toInt = -1000000 by decide +kernel]
          constructor
          · rintro ⟨⟨h1, h2⟩, h3⟩
            exact ⟨⟨by omega, by omega⟩, h3⟩
          · rintro ⟨⟨h1, h2⟩, h3⟩
            exact ⟨⟨by omega, by omega⟩, h3⟩
        by_cases ho : to_ (si_ a 10 0 i (-1)) q t i
        · rw [if_pos ho, show i + (f + 1) = (i + 1) + f by omega]
          have hbd : bd_ (gi_ o 4 t i + gi_ o 4 q i) (-1000000) 1000000 := by
            have := tn_b.mp ho.1
            rw [f1 _ _ _ (by decide), f1 _ _ _ (by decide)] at this
            exact this
          refine tk_sim h0 f (i + 1) _ _ (by omega) ⟨fun v x y hv => ?_, Ef_t s2 ⟨fun v x y h h' => gd_i _ _ _ _ _ _ _ h h', fun v x y h => gd_l _ _ _ _ _ _ _ h⟩, hiff.mp ho, fun m hm => ?_, fun m hm => ?_, fun m hm j hj hij => ?_, fun j hj hj6 => ?_⟩
          · rw [(Pf_k _ _ _ _).1 v x y hv, f1 v x y hv]
          · rw [gd_c b q t i m htq]
            by_cases eq : m = q
            · subst eq
              rw [if_pos rfl, cq]
              exact ⟨rfl, by rw [← cq]; exact tm_b.mp ho.2.2⟩
            · rw [if_neg eq]
              by_cases et : m = t
              · subst et
                rw [if_pos rfl, ct]
                exact ⟨rfl, by rw [← ct]; exact tm_b.mp ho.2.1⟩
              · rw [if_neg et, co m et eq]
                exact s4 m hm
          · rw [gd_c b q t i m htq, if_neg (by omega), if_neg (by omega)]
            exact s5 m hm
          · rw [gd_p, if_neg (by omega), if_neg (by omega)]
            exact s6 m hm j hj (by omega)
          · by_cases e : j = i
            · subst e
              refine Or.inr ⟨t, t1, htq, ?_, hbd, fun m hm => ?_⟩
              · rw [tk_, gi_sl, gi_sl, gi_si, if_pos ⟨rfl, rfl, rfl⟩]
              · rw [gd_p]
                by_cases eq : m = q
                · rw [if_pos (by omega), if_pos eq]
                · rw [if_neg (by omega), if_neg eq]
                  by_cases et : m = t
                  · rw [if_pos (by omega), if_pos et, egb]
                  · rw [if_neg (by omega), if_neg et]
                    exact s6 m hm j hj6 (Nat.le_refl _)
            · have e2 : gi_ (tk_ (si_ a 10 0 i (-1)) q t i) 10 0 j = gi_ a 10 0 j := by
                rw [tk_, gi_sl, gi_sl, gi_si, if_neg (fun z => e z.2.2), gi_si, if_neg (fun z => e z.2.2)]
              have e3 : ∀ m, m < 8 → gi_ (gd_ b q t i) 24 0 (6 * m + j) = gi_ b 24 0 (6 * m + j) := fun m hm => by
                rw [gd_p, if_neg (by omega), if_neg (by omega)]
              rw [e2]
              rcases s7 j (by omega) hj6 with ⟨r1, r2⟩ | ⟨u, u1, u2, u3, u4, u5⟩
              · exact Or.inl ⟨r1, fun m hm => by rw [e3 m hm]; exact r2 m hm⟩
              · exact Or.inr ⟨u, u1, u2, u3, u4, fun m hm => by rw [e3 m hm]; exact u5 m hm⟩
        · rw [if_neg ho]
          have e31 : ¬ gi_ (gd_ b q t i) 31 0 0 = 0 := fun z => ho (hiff.mpr z)
          refine Or.inr ⟨rfl, ?_⟩
          rw [eg_stop q k f (i + 1) _ e31]
          exact e31
