/-! the reference's search: what is kept, orders by number -/
def LTq (s : mSt) (x : Int) : Prop := Ok (s 417) ∧ (0 ≤ x ∧ x < 6) ∧ (0 ≤ s 407 28 ∧ s 407 28 ≤ 5) ∧ ∀ i, i < (s 407 28).toNat → (0 ≤ s 419 i ∧ s 419 i < 5) ∧ (-1 ≤ s 421 (s 419 i).toNat ∧ s 421 (s 419 i).toNat ≤ 29)
def sq (s : mSt) (c : Nat) (t : Int) : Bool := an (fun i => decide (s 421 (s 419 i).toNat ≤ t) && decide (t < s 421 (s 419 i).toNat + tm (s 417) c (s 419 i).toNat)) (s 407 28).toNat
def dq (s : mSt) (t : Int) : Bool := an (fun i => decide (s 417 (6 + (s 419 i).toNat) ≤ t) && decide (t < s 421 (s 419 i).toNat)) (s 407 28).toNat
def kq (s : mSt) (c : Nat) (t : Int) : Bool := dq s t && !sq s c t
theorem v239 {X : (Nat → Int) × Nat} {d : Nat} {s : mSt} {Q : mQ} {x1 : Int} {x2 : Int}
  (I2 : Int → Prop) (m2 : Int → Nat)
  (z1 : ∀ y3 : Int, I2 y3 → (s 407 28) ≤ y3 → Q (some (mI 0)) s)
  (z2 : ∀ y3 : Int, I2 y3 → ¬ (s 407 28) ≤ y3 → 0 ≤ y3 ∧ y3 < 5)
  (z3 : ∀ y3 : Int, I2 y3 → ¬ (s 407 28) ≤ y3 → 0 ≤ (s 419 y3.toNat) ∧ (s 419 y3.toNat) < 5)
  (z4 : ∀ y3 : Int, I2 y3 → ¬ (s 407 28) ≤ y3 → Ok (s 417) ∧ (0 ≤ x1 ∧ x1 < 6) ∧ (0 ≤ (s 419 y3.toNat) ∧ (s 419 y3.toNat) < 5))
  (z5 : ∀ y3 : Int, I2 y3 → ¬ (s 407 28) ≤ y3 → ((s 421 (s 419 y3.toNat).toNat) ≤ x2 ∧ x2 ≤ (w32 ((w32 ((s 421 (s 419 y3.toNat).toNat) + (tm (s 417) x1.toNat (s 419 y3.toNat).toNat))) - 1))) → Q (some (mI 1)) s)
  (z6 : ∀ y3 : Int, I2 y3 → ¬ (s 407 28) ≤ y3 → (¬ ((s 421 (s 419 y3.toNat).toNat) ≤ x2 ∧ x2 ≤ (w32 ((w32 ((s 421 (s 419 y3.toNat).toNat) + (tm (s 417) x1.toNat (s 419 y3.toNat).toNat))) - 1)))) → I2 (w32 (y3 + 1)) ∧ m2 (w32 (y3 + 1)) < m2 y3)
  (z7 : I2 0) :
  Sp X (d + 1) 239 [mR 407, mI x1, mI x2] s Q := by
  have L : ∀ k : Nat, (∀ (y3 : Int), I2 y3 → m2 y3 < k → Wp X (d + 1) 239 2 [some (mR 407), some (mI x1), some (mI x2), some (mI y3)] [] s Q) := by
    intro k
    induction k with
    | zero => exact fun _ _ h => absurd h (Nat.not_lt_zero _)
    | succ k ih => exact fun y3 hI hm => b239_2 (fun q1 => b239_64 (z1 y3 hI q1)) (fun q2 => b239_10 (z2 y3 hI q2) (z3 y3 hI q2) (z2 y3 hI q2) (z3 y3 hI q2) (z2 y3 hI q2) (c219 (z4 y3 hI q2) ⟨_, rfl, b239_46 (c167  (fun q3 => ⟨1, rfl, b239_53 (fun q => absurd q (by decide)) (fun _ => b239_56 (z5 y3 hI q2 q3))⟩) (fun q4 => ⟨0, rfl, b239_53 (fun _ => b239_58 (ih (w32 (y3 + 1)) (z6 y3 hI q2 q4).1 (Nat.lt_of_lt_of_le (z6 y3 hI q2 q4).2 (Nat.le_of_lt_succ hm)))) (fun q => absurd q (by decide))⟩))⟩))
  exact e239 (b239_0 ((L (m2 0 + 1)) 0 z7 (Nat.lt_succ_self _)))

theorem c239 {X : (Nat → Int) × Nat} {d : Nat} {s : mSt} {Q : mQ} {x1 : Int} {x2 : Int} (p1 : LTq s x1) (k1 : (sq s x1.toNat x2 = true) → Q (some (mI 1)) s) (k0 : ¬ (sq s x1.toNat x2 = true) → Q (some (mI 0)) s) : Sp X (d + 1) 239 [mR 407, mI x1, mI x2] s Q := by
  obtain ⟨h, h1, h2, h3⟩ := p1
  have nx : ∀ j : Nat, an (fun i => decide (s 421 (s 419 i).toNat ≤ x2) && decide (x2 < s 421 (s 419 i).toNat + tm (s 417) x1.toNat (s 419 i).toNat)) j = false → ¬ (s 421 (s 419 j).toNat ≤ x2 ∧ x2 < s 421 (s 419 j).toNat + tm (s 417) x1.toNat (s 419 j).toNat) → an (fun i => decide (s 421 (s 419 i).toNat ≤ x2) && decide (x2 < s 421 (s 419 i).toNat + tm (s 417) x1.toNat (s 419 i).toNat)) (j + 1) = false := fun j q z => by
    rw [an_s, q, Bool.false_or]; apply bf; simpa using z
  refine v239 (fun y => ∃ j : Nat, y = j ∧ j ≤ (s 407 28).toNat ∧ an (fun i => decide (s 421 (s 419 i).toNat ≤ x2) && decide (x2 < s 421 (s 419 i).toNat + tm (s 417) x1.toNat (s 419 i).toNat)) j = false) (fun y => (5 - y).toNat) ?_ ?_ ?_ ?_ ?_ ?_ ?_
  · rintro _ ⟨j, rfl, hj, ha⟩ hc
    have : j = (s 407 28).toNat := by omega
    subst this
    exact k0 (by unfold sq; rw [ha]; decide)
  · rintro _ ⟨j, rfl, hj, ha⟩ hc
    omega
  · rintro _ ⟨j, rfl, hj, ha⟩ hc
    rw [tnc]; exact (h3 j (by omega)).1
  · rintro _ ⟨j, rfl, hj, ha⟩ hc
    rw [tnc]; exact ⟨h, h1, (h3 j (by omega)).1⟩
  · rintro _ ⟨j, rfl, hj, ha⟩ hc q
    rw [tnc] at q
    have b := h3 j (by omega)
    have t2 := tm_bd h (c := x1.toNat) (p := (s 419 j).toNat) (by omega) (by omega)
    rw [w32_of (x := s 421 (s 419 j).toNat + tm (s 417) x1.toNat (s 419 j).toNat) (by omega), w32_of (by omega)] at q
    refine k1 (an_iff.2 ⟨j, by omega, ?_⟩)
    simp; omega
  · rintro _ ⟨j, rfl, hj, ha⟩ hc q
    rw [tnc] at q
    have b := h3 j (by omega)
    have t2 := tm_bd h (c := x1.toNat) (p := (s 419 j).toNat) (by omega) (by omega)
    rw [w32_of (x := s 421 (s 419 j).toNat + tm (s 417) x1.toNat (s 419 j).toNat) (by omega), w32_of (by omega)] at q
    rw [w32_of (by omega)]
    exact ⟨⟨j + 1, by omega, by omega, nx j ha (by omega)⟩, by omega⟩
  · exact ⟨0, rfl, by omega, rfl⟩
theorem v240 {X : (Nat → Int) × Nat} {d : Nat} {s : mSt} {Q : mQ} {x1 : Int}
  (I2 : Int → Prop) (m2 : Int → Nat)
  (z1 : ∀ y2 : Int, I2 y2 → (s 407 28) ≤ y2 → Q (some (mI 0)) s)
  (z2 : ∀ y2 : Int, I2 y2 → ¬ (s 407 28) ≤ y2 → 0 ≤ y2 ∧ y2 < 5)
  (z3 : ∀ y2 : Int, I2 y2 → ¬ (s 407 28) ≤ y2 → 0 ≤ (w32 (6 + (s 419 y2.toNat))) ∧ (w32 (6 + (s 419 y2.toNat))) < 166)
  (z4 : ∀ y2 : Int, I2 y2 → ¬ (s 407 28) ≤ y2 → x1 < (s 417 (w32 (6 + (s 419 y2.toNat))).toNat) → I2 (w32 (y2 + 1)) ∧ m2 (w32 (y2 + 1)) < m2 y2)
  (z5 : ∀ y2 : Int, I2 y2 → ¬ (s 407 28) ≤ y2 → ¬ x1 < (s 417 (w32 (6 + (s 419 y2.toNat))).toNat) → 0 ≤ y2 ∧ y2 < 5)
  (z6 : ∀ y2 : Int, I2 y2 → ¬ (s 407 28) ≤ y2 → ¬ x1 < (s 417 (w32 (6 + (s 419 y2.toNat))).toNat) → 0 ≤ (s 419 y2.toNat) ∧ (s 419 y2.toNat) < 5)
  (z7 : ∀ y2 : Int, I2 y2 → ¬ (s 407 28) ≤ y2 → ¬ x1 < (s 417 (w32 (6 + (s 419 y2.toNat))).toNat) → (s 421 (s 419 y2.toNat).toNat) ≤ x1 → I2 (w32 (y2 + 1)) ∧ m2 (w32 (y2 + 1)) < m2 y2)
  (z8 : ∀ y2 : Int, I2 y2 → ¬ (s 407 28) ≤ y2 → ¬ x1 < (s 417 (w32 (6 + (s 419 y2.toNat))).toNat) → ¬ (s 421 (s 419 y2.toNat).toNat) ≤ x1 → Q (some (mI 1)) s)
  (z9 : I2 0) :
  Sp X d 240 [mR 407, mI x1] s Q := by
  have L : ∀ k : Nat, (∀ (y2 : Int), I2 y2 → m2 y2 < k → Wp X d 240 2 [some (mR 407), some (mI x1), some (mI y2)] [] s Q) := by
    intro k
    induction k with
    | zero => exact fun _ _ h => absurd h (Nat.not_lt_zero _)
    | succ k ih => exact fun y2 hI hm => b240_2 (fun q1 => b240_51 (z1 y2 hI q1)) (fun q2 => b240_10 (z2 y2 hI q2) (z3 y2 hI q2) (fun q3 => b240_45 (ih (w32 (y2 + 1)) (z4 y2 hI q2 q3).1 (Nat.lt_of_lt_of_le (z4 y2 hI q2 q3).2 (Nat.le_of_lt_succ hm)))) (fun q4 => b240_28 (z5 y2 hI q2 q4) (z6 y2 hI q2 q4) (fun q5 => b240_45 (ih (w32 (y2 + 1)) (z7 y2 hI q2 q4 q5).1 (Nat.lt_of_lt_of_le (z7 y2 hI q2 q4 q5).2 (Nat.le_of_lt_succ hm)))) (fun q6 => b240_43 (z8 y2 hI q2 q4 q6))))
  exact e240 (b240_0 ((L (m2 0 + 1)) 0 z9 (Nat.lt_succ_self _)))

theorem c240 {X : (Nat → Int) × Nat} {d : Nat} {s : mSt} {Q : mQ} {x1 : Int} (p1 : LTq s 0) (k1 : (dq s x1 = true) → Q (some (mI 1)) s) (k0 : ¬ (dq s x1 = true) → Q (some (mI 0)) s) : Sp X d 240 [mR 407, mI x1] s Q := by
  obtain ⟨h, h1, h2, h3⟩ := p1
  have nx : ∀ j : Nat, an (fun i => decide (s 417 (6 + (s 419 i).toNat) ≤ x1) && decide (x1 < s 421 (s 419 i).toNat)) j = false → ¬ (s 417 (6 + (s 419 j).toNat) ≤ x1 ∧ x1 < s 421 (s 419 j).toNat) → an (fun i => decide (s 417 (6 + (s 419 i).toNat) ≤ x1) && decide (x1 < s 421 (s 419 i).toNat)) (j + 1) = false := fun j q z => by
    rw [an_s, q, Bool.false_or]; apply bf; simpa using z
  have e6 : ∀ j : Nat, j < (s 407 28).toNat → (w32 (6 + s 419 j)).toNat = 6 + (s 419 j).toNat := fun j hj => by
    have := h3 j hj
    exact wt (by omega) (by omega)
  refine v240 (fun y => ∃ j : Nat, y = j ∧ j ≤ (s 407 28).toNat ∧ an (fun i => decide (s 417 (6 + (s 419 i).toNat) ≤ x1) && decide (x1 < s 421 (s 419 i).toNat)) j = false) (fun y => (5 - y).toNat) ?_ ?_ ?_ ?_ ?_ ?_ ?_ ?_ ?_
  · rintro _ ⟨j, rfl, hj, ha⟩ hc
    have : j = (s 407 28).toNat := by omega
    subst this
    exact k0 (by unfold dq; rw [ha]; decide)
  · rintro _ ⟨j, rfl, hj, ha⟩ hc
    omega
  · rintro _ ⟨j, rfl, hj, ha⟩ hc
    have := h3 j (by omega)
    rw [tnc, w32_of (by omega)]; omega
  · rintro _ ⟨j, rfl, hj, ha⟩ hc q
    rw [tnc, e6 j (by omega)] at q
    rw [w32_of (by omega)]
    exact ⟨⟨j + 1, by omega, by omega, nx j ha (by omega)⟩, by omega⟩
  · rintro _ ⟨j, rfl, hj, ha⟩ hc q
    omega
  · rintro _ ⟨j, rfl, hj, ha⟩ hc q
    rw [tnc]; exact (h3 j (by omega)).1
  · rintro _ ⟨j, rfl, hj, ha⟩ hc q q2
    rw [tnc] at q2
    rw [w32_of (by omega)]
    exact ⟨⟨j + 1, by omega, by omega, nx j ha (by omega)⟩, by omega⟩
  · rintro _ ⟨j, rfl, hj, ha⟩ hc q q2
    rw [tnc] at q2
    rw [tnc, e6 j (by omega)] at q
    refine k1 (an_iff.2 ⟨j, by omega, ?_⟩)
    simp; omega
  · exact ⟨0, rfl, by omega, rfl⟩
theorem q34 (s : mSt) (v : Int) : (uS s 407 34 v) 407 28 = s 407 28 ∧ (uS s 407 34 v) 417 = s 417 ∧ (uS s 407 34 v) 419 = s 419 ∧ (uS s 407 34 v) 421 = s 421 := by
  refine ⟨by rw [uS_at, if_neg (by decide)], uS_cell (by decide), uS_cell (by decide), uS_cell (by decide)⟩
theorem dq34 (s : mSt) (v t : Int) : dq (uS s 407 34 v) t = dq s t := by
  obtain ⟨e1, e2, e3, e4⟩ := q34 s v
  unfold dq; rw [e1, e2, e3, e4]
theorem sq34 (s : mSt) (v t : Int) (c : Nat) : sq (uS s 407 34 v) c t = sq s c t := by
  obtain ⟨e1, e2, e3, e4⟩ := q34 s v
  unfold sq; rw [e1, e2, e3, e4]
theorem LT34 {s : mSt} {x : Int} (v : Int) (h : LTq s x) : LTq (uS s 407 34 v) x := by
  obtain ⟨e1, e2, e3, e4⟩ := q34 s v
  unfold LTq at h ⊢; rw [e1, e2, e3, e4]; exact h
theorem uS_uS (s : mSt) (b k : Nat) (x y : Int) : uS (uS s b k x) b k y = uS s b k y := by
  funext c j; unfold uS; by_cases h : c = b ∧ j = k <;> simp [h]
theorem v241 {X : (Nat → Int) × Nat} {d : Nat} {s : mSt} {Q : mQ} {x1 : Int}
  (I7 : Int → mSt → Prop) (m7 : Int → mSt → Nat)
  (z1 : ∀ y2 : Int, ∀ s : mSt, I7 y2 s → 30 ≤ y2 → Q none s)
  (z2 : ∀ y2 : Int, ∀ s : mSt, I7 y2 s → ¬ 30 ≤ y2 → LTq s 0)
  (z3 : ∀ y2 : Int, ∀ s : mSt, I7 y2 s → ¬ 30 ≤ y2 → dq s y2 = true → LTq s x1)
  (z4 : ∀ y2 : Int, ∀ s : mSt, I7 y2 s → ¬ 30 ≤ y2 → dq s y2 = true → sq s x1.toNat y2 = true → I7 (w32 (y2 + 1)) (uS s 407 34 (w32 ((s 407 34) + 0))) ∧ m7 (w32 (y2 + 1)) (uS s 407 34 (w32 ((s 407 34) + 0))) < m7 y2 s)
  (z5 : ∀ y2 : Int, ∀ s : mSt, I7 y2 s → ¬ 30 ≤ y2 → dq s y2 = true → ¬ (sq s x1.toNat y2 = true) → I7 (w32 (y2 + 1)) (uS s 407 34 (w32 ((s 407 34) + 1))) ∧ m7 (w32 (y2 + 1)) (uS s 407 34 (w32 ((s 407 34) + 1))) < m7 y2 s)
  (z6 : ∀ y2 : Int, ∀ s : mSt, I7 y2 s → ¬ 30 ≤ y2 → ¬ (dq s y2 = true) → I7 (w32 (y2 + 1)) (uS s 407 34 (w32 ((s 407 34) + 0))) ∧ m7 (w32 (y2 + 1)) (uS s 407 34 (w32 ((s 407 34) + 0))) < m7 y2 s)
  (z7 : I7 0 (uS s 407 34 0)) :
  Sp X (d + 2) 241 [mR 407, mI x1] s Q := by
  have L : ∀ k : Nat, (∀ (y2 : Int) (s : mSt), I7 y2 s → m7 y2 s < k → Wp X (d + 2) 241 7 [some (mR 407), some (mI x1), some (mI y2)] [] s Q) := by
    intro k
    induction k with
    | zero => exact fun _ _ _ h => absurd h (Nat.not_lt_zero _)
    | succ k ih => exact fun y2 s hI hm => b241_7 (fun q1 => b241_50 (z1 y2 s hI q1)) (fun q2 => b241_13 (c240 (z2 y2 s hI q2) (fun q3 => ⟨1, rfl, b241_23 (fun q => absurd q (by decide)) (fun _ => b241_26 (c239 (z3 y2 s hI q2 q3) (fun q4 => ⟨1, rfl, b241_32 (fun _ => b241_39 (b241_40 (ih (w32 (y2 + 1)) (uS s 407 34 (w32 ((s 407 34) + 0))) (z4 y2 s hI q2 q3 q4).1 (Nat.lt_of_lt_of_le (z4 y2 s hI q2 q3 q4).2 (Nat.le_of_lt_succ hm))))) (fun q => absurd q (by decide))⟩) (fun q5 => ⟨0, rfl, b241_32 (fun q => absurd q (by decide)) (fun _ => b241_35 (b241_40 (ih (w32 (y2 + 1)) (uS s 407 34 (w32 ((s 407 34) + 1))) (z5 y2 s hI q2 q3 q5).1 (Nat.lt_of_lt_of_le (z5 y2 s hI q2 q3 q5).2 (Nat.le_of_lt_succ hm)))))⟩)))⟩) (fun q6 => ⟨0, rfl, b241_23 (fun _ => b241_39 (b241_40 (ih (w32 (y2 + 1)) (uS s 407 34 (w32 ((s 407 34) + 0))) (z6 y2 s hI q2 q6).1 (Nat.lt_of_lt_of_le (z6 y2 s hI q2 q6).2 (Nat.le_of_lt_succ hm))))) (fun q => absurd q (by decide))⟩)))
  exact e241 (b241_0 ((L (m7 0 (uS s 407 34 0) + 1)) 0 (uS s 407 34 0) z7 (Nat.lt_succ_self _)))

theorem c241 {X : (Nat → Int) × Nat} {d : Nat} {s : mSt} {Q : mQ} {x1 : Int} (p1 : LTq s x1) (k : Q none (uS s 407 34 (cn (fun t => kq s x1.toNat (t : Int)) 30))) : Sp X (d + 2) 241 [mR 407, mI x1] s Q := by
  have h0 : LTq s 0 := ⟨p1.1, by omega, p1.2.2⟩
  refine v241 (fun y t => ∃ j : Nat, y = j ∧ j ≤ 30 ∧ t = uS s 407 34 (cn (fun t => kq s x1.toNat (t : Int)) j)) (fun y _ => (30 - y).toNat) ?_ ?_ ?_ ?_ ?_ ?_ ?_
  · rintro _ _ ⟨j, rfl, hj, rfl⟩ hc
    have : j = 30 := by omega
    subst this
    exact k
  · rintro _ _ ⟨j, rfl, hj, rfl⟩ hc
    exact LT34 _ h0
  · rintro _ _ ⟨j, rfl, hj, rfl⟩ hc _
    exact LT34 _ p1
  · rintro _ _ ⟨j, rfl, hj, rfl⟩ hc q q2
    rw [dq34] at q
    rw [sq34] at q2
    have b := cn_le (f := fun t => kq s x1.toNat (t : Int)) (n := j)
    rw [uS_at, if_pos rfl, w32_of (x := cn (fun t => kq s x1.toNat (t : Int)) j + 0) (by omega), w32_of (by omega), uS_uS]
    refine ⟨⟨j + 1, by omega, by omega, ?_⟩, by omega⟩
    rw [cn_s, if_neg (by unfold kq; rw [q, q2]; decide)]
  · rintro _ _ ⟨j, rfl, hj, rfl⟩ hc q q2
    rw [dq34] at q
    rw [sq34] at q2
    have b := cn_le (f := fun t => kq s x1.toNat (t : Int)) (n := j)
    rw [uS_at, if_pos rfl, w32_of (x := cn (fun t => kq s x1.toNat (t : Int)) j + 1) (by omega), w32_of (by omega), uS_uS]
    refine ⟨⟨j + 1, by omega, by omega, ?_⟩, by omega⟩
    rw [cn_s, if_pos (by unfold kq; rw [q, bf q2]; rfl)]
  · rintro _ _ ⟨j, rfl, hj, rfl⟩ hc q
    rw [dq34] at q
    have b := cn_le (f := fun t => kq s x1.toNat (t : Int)) (n := j)
    rw [uS_at, if_pos rfl, w32_of (x := cn (fun t => kq s x1.toNat (t : Int)) j + 0) (by omega), w32_of (by omega), uS_uS]
    refine ⟨⟨j + 1, by omega, by omega, ?_⟩, by omega⟩
    rw [cn_s, if_neg (by unfold kq; rw [bf q]; simp)]
  · exact ⟨0, rfl, by omega, rfl⟩
/-! orders by number -/
def fcN : Nat → Nat
  | 0 => 1
  | n + 1 => (n + 1) * fcN n
def lfN (u l : Nat) : Nat → Int
  | 0 => l
  | j + 1 => if u.testBit j = true then lfN u l j else lfN u l j - 1
def kkN (u l : Nat) : Nat := ((List.range 5).find? (fun j => !u.testBit j && decide (lfN u l j ≤ 0))).getD 5
def oR (n m : Nat) : Nat → Nat × Nat
  | 0 => (m, 0)
  | i + 1 => ((oR n m i).1 % fcN (n - 1 - i), (oR n m i).2 + 2 ^ kkN (oR n m i).2 ((oR n m i).1 / fcN (n - 1 - i)))
def oK (n m i : Nat) : Nat := kkN (oR n m i).2 ((oR n m i).1 / fcN (n - 1 - i))
theorem fcN_I {n : Nat} (h : n ≤ 5) : fct n = (fcN n : Int) ∧ 0 < fcN n ∧ fcN n ≤ 120 := (show ∀ n : Fin 6, fct n.val = (fcN n.val : Int) ∧ 0 < fcN n.val ∧ fcN n.val ≤ 120 by decide +kernel) ⟨n, by omega⟩
theorem oK_f {n m i : Nat} (hn : n ≤ 5) (hm : m < fcN n) (hi : i < n) : oK n m i < n ∧ (oR n m i).2 < 32 ∧ (oR n m i).1 < 120 ∧ (oR n m i).2.testBit (oK n m i) = false ∧ lfN (oR n m i).2 ((oR n m i).1 / fcN (n - 1 - i)) (oK n m i) ≤ 0 := by
  have := (show ∀ n : Fin 6, ∀ m : Fin 120, m.val < fcN n.val → ∀ i : Fin 5, i.val < n.val → oK n.val m.val i.val < n.val ∧ (oR n.val m.val i.val).2 < 32 ∧ (oR n.val m.val i.val).1 < 120 ∧ (oR n.val m.val i.val).2.testBit (oK n.val m.val i.val) = false ∧ lfN (oR n.val m.val i.val).2 ((oR n.val m.val i.val).1 / fcN (n.val - 1 - i.val)) (oK n.val m.val i.val) ≤ 0 by decide +kernel)
  exact this ⟨n, by omega⟩ ⟨m, by have := (fcN_I hn).2.2; omega⟩ hm ⟨i, by omega⟩ hi
theorem oK_b {n m i j : Nat} (hn : n ≤ 5) (hm : m < fcN n) (hi : i < n) (hj : j ≤ oK n m i) : (0 ≤ lfN (oR n m i).2 ((oR n m i).1 / fcN (n - 1 - i)) j ∧ lfN (oR n m i).2 ((oR n m i).1 / fcN (n - 1 - i)) j ≤ 120) ∧ (j < oK n m i → (oR n m i).2.testBit j = true ∨ 0 < lfN (oR n m i).2 ((oR n m i).1 / fcN (n - 1 - i)) j) := by
  have h1 := (oK_f hn hm hi).1
  have := (show ∀ n : Fin 6, ∀ m : Fin 120, m.val < fcN n.val → ∀ i : Fin 5, i.val < n.val → ∀ j : Fin 5, j.val ≤ oK n.val m.val i.val → (0 ≤ lfN (oR n.val m.val i.val).2 ((oR n.val m.val i.val).1 / fcN (n.val - 1 - i.val)) j.val ∧ lfN (oR n.val m.val i.val).2 ((oR n.val m.val i.val).1 / fcN (n.val - 1 - i.val)) j.val ≤ 120) ∧ (j.val < oK n.val m.val i.val → (oR n.val m.val i.val).2.testBit j.val = true ∨ 0 < lfN (oR n.val m.val i.val).2 ((oR n.val m.val i.val).1 / fcN (n.val - 1 - i.val)) j.val) by decide +kernel)
  exact this ⟨n, by omega⟩ ⟨m, by have := (fcN_I hn).2.2; omega⟩ hm ⟨i, by omega⟩ hi ⟨j, by omega⟩ hj
def ordR (s : mSt) (m : Nat) (n : Nat) : Rw := fun i => if i < n then s 419 (oK (s 407 28).toNat m i) else s 420 i
theorem v234 {X : (Nat → Int) × Nat} {d : Nat} {s : mSt} {Q : mQ} {x1 : Int}
  (I7 : Int → Int → Int → mSt → Prop) (m7 : Int → Int → Int → mSt → Nat)
  (I39 : Int → Int → Int → Int → Int → Int → mSt → Prop) (m39 : Int → Int → Int → Int → Int → Int → mSt → Nat)
  (z1 : ∀ y2 : Int, ∀ y3 : Int, ∀ y4 : Int, ∀ s : mSt, I7 y2 y3 y4 s → (s 407 28) ≤ y4 → Q none s)
  (z2 : ∀ y2 : Int, ∀ y3 : Int, ∀ y4 : Int, ∀ s : mSt, I7 y2 y3 y4 s → ¬ (s 407 28) ≤ y4 → 0 ≤ (w32 ((w32 ((s 407 28) - 1)) - y4)) ∧ (w32 ((w32 ((s 407 28) - 1)) - y4)) ≤ 5)
  (z3 : ∀ y2 : Int, ∀ y3 : Int, ∀ y4 : Int, ∀ s : mSt, I7 y2 y3 y4 s → ¬ (s 407 28) ≤ y4 → (fct (w32 ((w32 ((s 407 28) - 1)) - y4)).toNat) ≠ 0)
  (z4 : ∀ y2 : Int, ∀ y3 : Int, ∀ y4 : Int, ∀ s : mSt, I7 y2 y3 y4 s → ¬ (s 407 28) ≤ y4 → I39 y2 y3 y4 (fct (w32 ((w32 ((s 407 28) - 1)) - y4)).toNat) (w32 (Int.tdiv y2 (fct (w32 ((w32 ((s 407 28) - 1)) - y4)).toNat))) 0 s ∧ m39 y2 y3 y4 (fct (w32 ((w32 ((s 407 28) - 1)) - y4)).toNat) (w32 (Int.tdiv y2 (fct (w32 ((w32 ((s 407 28) - 1)) - y4)).toNat))) 0 s < m7 y2 y3 y4 s)
  (z5 : ∀ y2 : Int, ∀ y3 : Int, ∀ y4 : Int, ∀ y5 : Int, ∀ y6 : Int, ∀ y7 : Int, ∀ s : mSt, I39 y2 y3 y4 y5 y6 y7 s → 0 ≤ y7 ∧ y7 < 32)
  (z6 : ∀ y2 : Int, ∀ y3 : Int, ∀ y4 : Int, ∀ y5 : Int, ∀ y6 : Int, ∀ y7 : Int, ∀ s : mSt, I39 y2 y3 y4 y5 y6 y7 s → bt y3 y7 → 0 ≤ y7 ∧ y7 < 32)
  (z7 : ∀ y2 : Int, ∀ y3 : Int, ∀ y4 : Int, ∀ y5 : Int, ∀ y6 : Int, ∀ y7 : Int, ∀ s : mSt, I39 y2 y3 y4 y5 y6 y7 s → bt y3 y7 → bt y3 y7 → I39 y2 y3 y4 y5 (w32 (y6 - 0)) (w32 (y7 + 1)) s ∧ m39 y2 y3 y4 y5 (w32 (y6 - 0)) (w32 (y7 + 1)) s < m39 y2 y3 y4 y5 y6 y7 s)
  (z8 : ∀ y2 : Int, ∀ y3 : Int, ∀ y4 : Int, ∀ y5 : Int, ∀ y6 : Int, ∀ y7 : Int, ∀ s : mSt, I39 y2 y3 y4 y5 y6 y7 s → bt y3 y7 → ¬ (bt y3 y7) → I39 y2 y3 y4 y5 (w32 (y6 - 1)) (w32 (y7 + 1)) s ∧ m39 y2 y3 y4 y5 (w32 (y6 - 1)) (w32 (y7 + 1)) s < m39 y2 y3 y4 y5 y6 y7 s)
  (z9 : ∀ y2 : Int, ∀ y3 : Int, ∀ y4 : Int, ∀ y5 : Int, ∀ y6 : Int, ∀ y7 : Int, ∀ s : mSt, I39 y2 y3 y4 y5 y6 y7 s → ¬ (bt y3 y7) → y6 ≤ 0 → 0 ≤ y7 ∧ y7 < 5)
  (z10 : ∀ y2 : Int, ∀ y3 : Int, ∀ y4 : Int, ∀ y5 : Int, ∀ y6 : Int, ∀ y7 : Int, ∀ s : mSt, I39 y2 y3 y4 y5 y6 y7 s → ¬ (bt y3 y7) → y6 ≤ 0 → 0 ≤ y4 ∧ y4 < 5)
  (z11 : ∀ y2 : Int, ∀ y3 : Int, ∀ y4 : Int, ∀ y5 : Int, ∀ y6 : Int, ∀ y7 : Int, ∀ s : mSt, I39 y2 y3 y4 y5 y6 y7 s → ¬ (bt y3 y7) → y6 ≤ 0 → y5 ≠ 0)
  (z12 : ∀ y2 : Int, ∀ y3 : Int, ∀ y4 : Int, ∀ y5 : Int, ∀ y6 : Int, ∀ y7 : Int, ∀ s : mSt, I39 y2 y3 y4 y5 y6 y7 s → ¬ (bt y3 y7) → y6 ≤ 0 → I7 (Int.tmod y2 y5) (iOr y3 (iShl 1 y7)) (w32 (y4 + 1)) (uS s 420 y4.toNat (s 419 y7.toNat)) ∧ m7 (Int.tmod y2 y5) (iOr y3 (iShl 1 y7)) (w32 (y4 + 1)) (uS s 420 y4.toNat (s 419 y7.toNat)) < m39 y2 y3 y4 y5 y6 y7 s)
  (z13 : ∀ y2 : Int, ∀ y3 : Int, ∀ y4 : Int, ∀ y5 : Int, ∀ y6 : Int, ∀ y7 : Int, ∀ s : mSt, I39 y2 y3 y4 y5 y6 y7 s → ¬ (bt y3 y7) → ¬ y6 ≤ 0 → 0 ≤ y7 ∧ y7 < 32)
  (z14 : ∀ y2 : Int, ∀ y3 : Int, ∀ y4 : Int, ∀ y5 : Int, ∀ y6 : Int, ∀ y7 : Int, ∀ s : mSt, I39 y2 y3 y4 y5 y6 y7 s → ¬ (bt y3 y7) → ¬ y6 ≤ 0 → bt y3 y7 → I39 y2 y3 y4 y5 (w32 (y6 - 0)) (w32 (y7 + 1)) s ∧ m39 y2 y3 y4 y5 (w32 (y6 - 0)) (w32 (y7 + 1)) s < m39 y2 y3 y4 y5 y6 y7 s)
  (z15 : ∀ y2 : Int, ∀ y3 : Int, ∀ y4 : Int, ∀ y5 : Int, ∀ y6 : Int, ∀ y7 : Int, ∀ s : mSt, I39 y2 y3 y4 y5 y6 y7 s → ¬ (bt y3 y7) → ¬ y6 ≤ 0 → ¬ (bt y3 y7) → I39 y2 y3 y4 y5 (w32 (y6 - 1)) (w32 (y7 + 1)) s ∧ m39 y2 y3 y4 y5 (w32 (y6 - 1)) (w32 (y7 + 1)) s < m39 y2 y3 y4 y5 y6 y7 s)
  (z16 : I7 x1 0 0 s) :
  Sp X (d + 1) 234 [mR 407, mI x1] s Q := by
  have L : ∀ k : Nat, (∀ (y2 : Int) (y3 : Int) (y4 : Int) (l5 : Option mV) (l6 : Option mV) (l7 : Option mV) (s : mSt), I7 y2 y3 y4 s → m7 y2 y3 y4 s < k → Wp X (d + 1) 234 7 [some (mR 407), some (mI x1), some (mI y2), some (mI y3), some (mI y4), l5, l6, l7] [] s Q) ∧ (∀ (y2 : Int) (y3 : Int) (y4 : Int) (y5 : Int) (y6 : Int) (y7 : Int) (s : mSt), I39 y2 y3 y4 y5 y6 y7 s → m39 y2 y3 y4 y5 y6 y7 s < k → Wp X (d + 1) 234 39 [some (mR 407), some (mI x1), some (mI y2), some (mI y3), some (mI y4), some (mI y5), some (mI y6), some (mI y7)] [] s Q) := by
    intro k
    induction k with
    | zero => exact ⟨fun _ _ _ _ _ _ _ _ h => absurd h (Nat.not_lt_zero _), fun _ _ _ _ _ _ _ _ h => absurd h (Nat.not_lt_zero _)⟩
    | succ k ih => exact ⟨fun y2 y3 y4 l5 l6 l7 s hI hm => b234_7 (fun q1 => b234_110 (z1 y2 y3 y4 s hI q1)) (fun q2 => b234_16 (c233 (z2 y2 y3 y4 s hI q2) ⟨_, rfl, b234_28 (z3 y2 y3 y4 s hI q2) (ih.2 y2 y3 y4 (fct (w32 ((w32 ((s 407 28) - 1)) - y4)).toNat) (w32 (Int.tdiv y2 (fct (w32 ((w32 ((s 407 28) - 1)) - y4)).toNat))) 0 s (z4 y2 y3 y4 s hI q2).1 (Nat.lt_of_lt_of_le (z4 y2 y3 y4 s hI q2).2 (Nat.le_of_lt_succ hm)))⟩)), fun y2 y3 y4 y5 y6 y7 s hI hm => b234_39 (c168 (z5 y2 y3 y4 y5 y6 y7 s hI) (fun q3 => ⟨1, rfl, b234_45 (fun _ => b234_53 (c168 (z6 y2 y3 y4 y5 y6 y7 s hI q3) (fun q4 => ⟨1, rfl, b234_61 (fun q => absurd q (by decide)) (fun _ => b234_64 (b234_69 (ih.2 y2 y3 y4 y5 (w32 (y6 - 0)) (w32 (y7 + 1)) s (z7 y2 y3 y4 y5 y6 y7 s hI q3 q4).1 (Nat.lt_of_lt_of_le (z7 y2 y3 y4 y5 y6 y7 s hI q3 q4).2 (Nat.le_of_lt_succ hm)))))⟩) (fun q5 => ⟨0, rfl, b234_61 (fun _ => b234_68 (b234_69 (ih.2 y2 y3 y4 y5 (w32 (y6 - 1)) (w32 (y7 + 1)) s (z8 y2 y3 y4 y5 y6 y7 s hI q3 q5).1 (Nat.lt_of_lt_of_le (z8 y2 y3 y4 y5 y6 y7 s hI q3 q5).2 (Nat.le_of_lt_succ hm))))) (fun q => absurd q (by decide))⟩))) (fun q => absurd q (by decide))⟩) (fun q6 => ⟨0, rfl, b234_45 (fun q => absurd q (by decide)) (fun _ => b234_48 (fun q7 => b234_78 (z9 y2 y3 y4 y5 y6 y7 s hI q6 q7) (z10 y2 y3 y4 y5 y6 y7 s hI q6 q7) (z11 y2 y3 y4 y5 y6 y7 s hI q6 q7) (ih.1 (Int.tmod y2 y5) (iOr y3 (iShl 1 y7)) (w32 (y4 + 1)) (some (mI y5)) (some (mI y6)) (some (mI y7)) (uS s 420 y4.toNat (s 419 y7.toNat)) (z12 y2 y3 y4 y5 y6 y7 s hI q6 q7).1 (Nat.lt_of_lt_of_le (z12 y2 y3 y4 y5 y6 y7 s hI q6 q7).2 (Nat.le_of_lt_succ hm)))) (fun q8 => b234_53 (c168 (z13 y2 y3 y4 y5 y6 y7 s hI q6 q8) (fun q9 => ⟨1, rfl, b234_61 (fun q => absurd q (by decide)) (fun _ => b234_64 (b234_69 (ih.2 y2 y3 y4 y5 (w32 (y6 - 0)) (w32 (y7 + 1)) s (z14 y2 y3 y4 y5 y6 y7 s hI q6 q8 q9).1 (Nat.lt_of_lt_of_le (z14 y2 y3 y4 y5 y6 y7 s hI q6 q8 q9).2 (Nat.le_of_lt_succ hm)))))⟩) (fun q10 => ⟨0, rfl, b234_61 (fun _ => b234_68 (b234_69 (ih.2 y2 y3 y4 y5 (w32 (y6 - 1)) (w32 (y7 + 1)) s (z15 y2 y3 y4 y5 y6 y7 s hI q6 q8 q10).1 (Nat.lt_of_lt_of_le (z15 y2 y3 y4 y5 y6 y7 s hI q6 q8 q10).2 (Nat.le_of_lt_succ hm))))) (fun q => absurd q (by decide))⟩))))⟩))⟩
  exact e234 (b234_0 ((L (m7 x1 0 0 s + 1)).1 x1 0 0 none none none s z16 (Nat.lt_succ_self _)))

theorem c234 {X : (Nat → Int) × Nat} {d : Nat} {s : mSt} {Q : mQ} {x1 : Int} (p1 : (0 ≤ s 407 28 ∧ s 407 28 ≤ 5) ∧ (0 ≤ x1 ∧ x1 < fct (s 407 28).toNat)) (k : Q none (uC s 420 (ordR s x1.toNat (s 407 28).toNat))) : Sp X (d + 1) 234 [mR 407, mI x1] s Q := by
  obtain ⟨h1, h2⟩ := p1
  obtain ⟨m, rfl⟩ := nat_of h2.1
  rw [tnc] at k
  obtain ⟨n, hn⟩ := nat_of h1.1
  have en : (s 407 28).toNat = n := by omega
  rw [en] at k h2
  have hn5 : n ≤ 5 := by omega
  have f0 := fcN_I hn5
  rw [f0.1] at h2
  have hm : m < fcN n := by omega
  have e407 : ∀ r : Rw, uC s 420 r 407 = s 407 := fun r => uC_ne (by decide)
  have e419 : ∀ r : Rw, uC s 420 r 419 = s 419 := fun r => uC_ne (by decide)
  have eby : ∀ i : Nat, i < n → (w32 (w32 ((n : Int) - 1) - (i : Int))).toNat = n - 1 - i ∧ 0 ≤ w32 (w32 ((n : Int) - 1) - (i : Int)) ∧ w32 (w32 ((n : Int) - 1) - (i : Int)) ≤ 5 := fun i hi => by
    rw [w32_of (x := (n : Int) - 1) (by omega), w32_of (by omega)]; omega
  have tb : ∀ i j : Nat, i < n → (bt ((oR n m i).2 : Int) (j : Int) ↔ (oR n m i).2.testBit j = true) := fun i j hi => by
    have := (oK_f hn5 hm hi).2.1
    unfold bt; rw [tnc, bq_nat (by omega)]
  refine v234 (fun y2 y3 y4 t => ∃ i : Nat, y4 = i ∧ i ≤ n ∧ y2 = ((oR n m i).1 : Int) ∧ y3 = ((oR n m i).2 : Int) ∧ t = uC s 420 (ordR s m i)) (fun _ _ y4 _ => ((6 - y4) * 100 + 50).toNat)
    (fun y2 y3 y4 y5 y6 y7 t => ∃ i j : Nat, y4 = i ∧ i < n ∧ y2 = ((oR n m i).1 : Int) ∧ y3 = ((oR n m i).2 : Int) ∧ y5 = (fcN (n - 1 - i) : Int) ∧ y7 = j ∧ j ≤ oK n m i ∧ y6 = lfN (oR n m i).2 ((oR n m i).1 / fcN (n - 1 - i)) j ∧ t = uC s 420 (ordR s m i)) (fun _ _ y4 _ _ y7 _ => ((6 - y4) * 100 + 20 - y7).toNat) ?_ ?_ ?_ ?_ ?_ ?_ ?_ ?_ ?_ ?_ ?_ ?_ ?_ ?_ ?_ ?_
  · rintro _ _ _ _ ⟨i, rfl, hi, rfl, rfl, rfl⟩ hc
    rw [e407] at hc
    have : i = n := by omega
    subst this
    exact k
  · rintro _ _ _ _ ⟨i, rfl, hi, rfl, rfl, rfl⟩ hc
    rw [e407, hn] at hc ⊢
    have := eby i (by omega)
    omega
  · rintro _ _ _ _ ⟨i, rfl, hi, rfl, rfl, rfl⟩ hc
    rw [e407, hn] at hc ⊢
    rw [(eby i (by omega)).1]
    have := fct_b (show n - 1 - i ≤ 5 by omega)
    omega
  · rintro _ _ _ _ ⟨i, rfl, hi, rfl, rfl, rfl⟩ hc
    rw [e407, hn] at hc ⊢
    rw [(eby i (by omega)).1, (fcN_I (show n - 1 - i ≤ 5 by omega)).1]
    have hf := oK_f hn5 hm (show i < n by omega)
    have hd : (oR n m i).1 / fcN (n - 1 - i) ≤ (oR n m i).1 := Nat.div_le_self _ _
    have hq : (((oR n m i).1 / fcN (n - 1 - i) : Nat) : Int) < 120 := by exact_mod_cast Nat.lt_of_le_of_lt hd hf.2.2.1
    have hq0 : 0 ≤ (((oR n m i).1 / fcN (n - 1 - i) : Nat) : Int) := Int.natCast_nonneg _
    rw [Int.tdiv_eq_ediv_of_nonneg (by omega), ← Int.natCast_ediv, w32_of ⟨Int.le_trans (by decide) hq0, Int.lt_trans hq (by decide)⟩]
    exact ⟨⟨i, 0, rfl, by omega, rfl, rfl, rfl, rfl, by omega, rfl, rfl⟩, by omega⟩
  · rintro _ _ _ _ _ _ _ ⟨i, j, rfl, hi, rfl, rfl, rfl, rfl, hj, rfl, rfl⟩
    have hf := oK_f hn5 hm hi
    omega
  · rintro _ _ _ _ _ _ _ ⟨i, j, rfl, hi, rfl, rfl, rfl, rfl, hj, rfl, rfl⟩ _
    have hf := oK_f hn5 hm hi
    omega
  · rintro _ _ _ _ _ _ _ ⟨i, j, rfl, hi, rfl, rfl, rfl, rfl, hj, rfl, rfl⟩ q _
    rw [tb i j hi] at q
    have hf := oK_f hn5 hm hi
    have hb := oK_b hn5 hm hi hj
    have hne : j ≠ oK n m i := fun z => by rw [z, hf.2.2.2.1] at q; exact absurd q (by decide)
    rw [w32_of (by omega), w32_of (by omega)]
    refine ⟨⟨i, j + 1, rfl, hi, rfl, rfl, rfl, by omega, by omega, ?_, rfl⟩, by omega⟩
    rw [lfN, if_pos q]; omega
  · rintro _ _ _ _ _ _ _ ⟨i, j, rfl, hi, rfl, rfl, rfl, rfl, hj, rfl, rfl⟩ q q2
    exact absurd q q2
  · rintro _ _ _ _ _ _ _ ⟨i, j, rfl, hi, rfl, rfl, rfl, rfl, hj, rfl, rfl⟩ q q2
    have hf := oK_f hn5 hm hi
    omega
  · rintro _ _ _ _ _ _ _ ⟨i, j, rfl, hi, rfl, rfl, rfl, rfl, hj, rfl, rfl⟩ q q2
    omega
  · rintro _ _ _ _ _ _ _ ⟨i, j, rfl, hi, rfl, rfl, rfl, rfl, hj, rfl, rfl⟩ q q2
    have := (fcN_I (show n - 1 - i ≤ 5 by omega)).2.1
    omega
  · rintro _ _ _ _ _ _ _ ⟨i, j, rfl, hi, rfl, rfl, rfl, rfl, hj, rfl, rfl⟩ q q2
    rw [tb i j hi] at q
    have hf := oK_f hn5 hm hi
    have hb := oK_b hn5 hm hi hj
    have ej : j = oK n m i := by
      rcases Nat.lt_or_eq_of_le hj with z | z
      · rcases hb.2 z with w | w
        · exact absurd w q
        · omega
      · exact z
    subst ej
    have hk5 : oK n m i < 5 := by omega
    rw [tnc, tnc, e419, w32_of (by omega), Int.tmod_eq_emod_of_nonneg (by omega), ← Int.natCast_emod, uS_uC2]
    refine ⟨⟨i + 1, by omega, by omega, ?_, ?_, ?_⟩, by omega⟩
    · rw [oR]
    · rw [oR]
      have hq : bq ((oR n m i).2 : Int) (oK n m i) = false := by rw [bq_nat (by omega)]; exact hf.2.2.2.1
      rw [shl1 (by omega)]
      have hp : (2:Nat) ^ oK n m i ≤ 2 ^ 4 := Nat.pow_le_pow_right (by decide) (by omega)
      have hp2 : ((2:Int) ^ oK n m i) = ((2 ^ oK n m i : Nat) : Int) := by simp
      have hsum : (oR n m i).2 + 2 ^ oK n m i < 64 := by omega
      apply bq_ext (i3_or _ _) (by show i3 (((oR n m i).2 + 2 ^ oK n m i : Nat) : Int); revert hsum; generalize (oR n m i).2 + 2 ^ oK n m i = S; intro hsum; unfold i3; omega)
      intro b hb'
      rw [bq_or, bq_pow (by omega)]
      show _ = bq ((((oR n m i).2 + 2 ^ oK n m i : Nat)) : Int) b
      have key : ∀ u : Fin 32, ∀ q : Fin 5, u.val.testBit q.val = false → ∀ b : Fin 32, (u.val + 2 ^ q.val).testBit b.val = (u.val.testBit b.val || decide (b.val = q.val)) := by decide +kernel
      have := key ⟨(oR n m i).2, hf.2.1⟩ ⟨oK n m i, hk5⟩ hf.2.2.2.1 ⟨b, hb'⟩
      simp only at this
      rw [bq_nat (by omega), bq_nat (Nat.lt_trans hsum (by decide)), this]
    · refine congrArg (uC s 420) ?_
      funext q'
      unfold up ordR
      by_cases z : q' = i
      · subst z; rw [if_pos rfl, if_pos (by omega), en]
      · rw [if_neg z]
        by_cases w : q' < i
        · rw [if_pos w, if_pos (by omega)]
        · rw [if_neg w, if_neg (by omega)]
  · rintro _ _ _ _ _ _ _ ⟨i, j, rfl, hi, rfl, rfl, rfl, rfl, hj, rfl, rfl⟩ q q2
    have hf := oK_f hn5 hm hi
    omega
  · rintro _ _ _ _ _ _ _ ⟨i, j, rfl, hi, rfl, rfl, rfl, rfl, hj, rfl, rfl⟩ q q2 q3
    exact absurd q3 q
  · rintro _ _ _ _ _ _ _ ⟨i, j, rfl, hi, rfl, rfl, rfl, rfl, hj, rfl, rfl⟩ q q2 _
    rw [tb i j hi] at q
    have hf := oK_f hn5 hm hi
    have hb := oK_b hn5 hm hi hj
    have hne : j ≠ oK n m i := fun z => by rw [z] at q2; omega
    rw [w32_of (by omega), w32_of (by omega)]
    refine ⟨⟨i, j + 1, rfl, hi, rfl, rfl, rfl, by omega, by omega, ?_, rfl⟩, by omega⟩
    rw [lfN, if_neg q]
  · refine ⟨0, rfl, by omega, rfl, rfl, ?_⟩
    have : ordR s m 0 = s 420 := by funext i; unfold ordR; rw [if_neg (by omega)]
    rw [this, uC_self]
