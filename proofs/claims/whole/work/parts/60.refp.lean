/-! the reference's search: slots, orders by number -/
theorem v235 {X : (Nat → Int) × Nat} {d : Nat} {s : mSt} {Q : mQ} {x1 : Int} {x2 : Int}
  (I2 : Int → Prop) (m2 : Int → Nat)
  (z1 : ∀ y3 : Int, I2 y3 → (w32 (x1 + x2)) ≤ y3 → Q (some (mI 1)) s)
  (z2 : ∀ y3 : Int, I2 y3 → ¬ (w32 (x1 + x2)) ≤ y3 → 0 ≤ y3 ∧ y3 < 30)
  (z3 : ∀ y3 : Int, I2 y3 → ¬ (w32 (x1 + x2)) ≤ y3 → ¬ (s 418 y3.toNat) = 0 → I2 (w32 (y3 + 1)) ∧ m2 (w32 (y3 + 1)) < m2 y3)
  (z4 : ∀ y3 : Int, I2 y3 → ¬ (w32 (x1 + x2)) ≤ y3 → (s 418 y3.toNat) = 0 → Q (some (mI 0)) s)
  (z5 : I2 x1) :
  Sp X d 235 [mR 407, mI x1, mI x2] s Q := by
  have L : ∀ k : Nat, (∀ (y3 : Int), I2 y3 → m2 y3 < k → Wp X d 235 2 [some (mR 407), some (mI x1), some (mI x2), some (mI y3)] [] s Q) := by
    intro k
    induction k with
    | zero => exact fun _ _ h => absurd h (Nat.not_lt_zero _)
    | succ k ih => exact fun y3 hI hm => b235_2 (fun q1 => b235_26 (z1 y3 hI q1)) (fun q2 => b235_9 (z2 y3 hI q2) (fun q3 => b235_20 (ih (w32 (y3 + 1)) (z3 y3 hI q2 q3).1 (Nat.lt_of_lt_of_le (z3 y3 hI q2 q3).2 (Nat.le_of_lt_succ hm)))) (fun q4 => b235_18 (z4 y3 hI q2 q4)))
  exact e235 (b235_0 ((L (m2 x1 + 1)) x1 z5 (Nat.lt_succ_self _)))

theorem c235 {X : (Nat → Int) × Nat} {d : Nat} {s : mSt} {Q : mQ} {x1 : Int} {x2 : Int} (p1 : (0 ≤ x1 ∧ x1 ≤ 30) ∧ (0 ≤ x2 ∧ x1 + x2 ≤ 30)) (k1 : (an (fun i => decide (s 418 (x1.toNat + i) = 0)) x2.toNat = false) → Q (some (mI 1)) s) (k0 : ¬ (an (fun i => decide (s 418 (x1.toNat + i) = 0)) x2.toNat = false) → Q (some (mI 0)) s) : Sp X d 235 [mR 407, mI x1, mI x2] s Q := by
  obtain ⟨h1, h2⟩ := p1
  have e : w32 (x1 + x2) = x1 + x2 := w32_of (by omega)
  refine v235 (fun y => ∃ j : Nat, y = x1 + j ∧ (j : Int) ≤ x2 ∧ an (fun i => decide (s 418 (x1.toNat + i) = 0)) j = false) (fun y => (31 - y).toNat) ?_ ?_ ?_ ?_ ?_
  · rintro _ ⟨j, rfl, hj, ha⟩ hc
    rw [e] at hc
    rw [show j = x2.toNat by omega] at ha
    exact k1 ha
  · rintro _ ⟨j, rfl, hj, ha⟩ hc
    rw [e] at hc
    omega
  · rintro _ ⟨j, rfl, hj, ha⟩ hc q
    rw [e] at hc
    rw [show (x1 + (j : Int)).toNat = x1.toNat + j by omega] at q
    rw [w32_of (by omega)]
    refine ⟨⟨j + 1, by omega, by omega, ?_⟩, by omega⟩
    rw [an_s, ha]; simpa using q
  · rintro _ ⟨j, rfl, hj, ha⟩ hc q
    rw [e] at hc
    rw [show (x1 + (j : Int)).toNat = x1.toNat + j by omega] at q
    refine k0 (fun z => ?_)
    have := an_false.1 z j (by omega)
    simp [q] at this
  · exact ⟨0, by omega, by omega, rfl⟩
theorem okA_iff {a : Rw} {c p : Nat} {ah en hr : Int} {t : Nat} : okA a c p ah en hr t = true ↔ a (6 + p) ≤ (t : Int) ∧ (t : Int) + tm a c p ≤ 30 ∧ dyo t = dyo (t + tm a c p - 1) ∧ an (fun i => decide (fre a (t + i) = 0)) (tm a c p).toNat = false ∧ ¬ ((t : Int) < 20 ∧ a 2 < hr + tm a c p) ∧ ¬ (0 ≤ ah ∧ (t : Int) < en + (if dyo ah = dyo t then a (129 + c) else 0)) := by
  unfold okA ftA
  simp only [Bool.and_eq_true, Bool.not_eq_true', Bool.and_eq_false_iff, decide_eq_true_iff, decide_eq_false_iff_not]
  constructor
  · rintro ⟨⟨h1, h2, h3, h4⟩, h5, h6⟩
    exact ⟨h1, h2, h3, h4, fun z => by rcases h5 with w | w <;> omega, fun z => h6.elim (fun w => w z.1) (fun w => w z.2)⟩
  · rintro ⟨h1, h2, h3, h4, h5, h6⟩
    refine ⟨⟨h1, h2, h3, h4⟩, ?_, ?_⟩
    · by_cases w : (t : Int) < 20
      · exact Or.inr (fun z => h5 ⟨w, z⟩)
      · exact Or.inl w
    · by_cases w : 0 ≤ ah
      · exact Or.inr (fun z => h6 ⟨w, z⟩)
      · exact Or.inl w
theorem dyo_0 {t : Int} : dyo t = 0 ↔ t < 20 := by unfold dyo; split <;> omega
def eqI (x y : Int) : Prop := x = y
/-- what the reference needs to look for a slot -/
def LPq (s : mSt) (x1 x2 x3 x4 x5 : Int) : Prop := Ok (s 417) ∧ (0 ≤ x1 ∧ x1 < 6) ∧ (0 ≤ x2 ∧ x2 < s 417 3) ∧ (-1 ≤ x3 ∧ x3 ≤ 30) ∧ (0 ≤ x4 ∧ x4 ≤ 30) ∧ (0 ≤ x5 ∧ x5 ≤ 100) ∧ ∀ t, t < 30 → s 418 t = fre (s 417) t
theorem v237 {X : (Nat → Int) × Nat} {d : Nat} {s : mSt} {Q : mQ} {x1 : Int} {x2 : Int} {x3 : Int} {x4 : Int} {x5 : Int}
  (I19 : Int → Int → Prop) (m19 : Int → Int → Nat)
  (z1 : ∀ y6 : Int, ∀ y7 : Int, I19 y6 y7 → 30 < (w32 (y7 + y6)) → Q (some (mI (-1))) s)
  (z2 : ∀ y6 : Int, ∀ y7 : Int, I19 y6 y7 → ¬ 30 < (w32 (y7 + y6)) → ¬ (dyo y7) = (dyo (w32 ((w32 (y7 + y6)) - 1))) → I19 y6 (w32 (y7 + 1)) ∧ m19 y6 (w32 (y7 + 1)) < m19 y6 y7)
  (z3 : ∀ y6 : Int, ∀ y7 : Int, I19 y6 y7 → ¬ 30 < (w32 (y7 + y6)) → (dyo y7) = (dyo (w32 ((w32 (y7 + y6)) - 1))) → ¬ (dyo y7) = 0 → x3 < 0 → (0 ≤ y7 ∧ y7 ≤ 30) ∧ (0 ≤ y6 ∧ y7 + y6 ≤ 30))
  (z4 : ∀ y6 : Int, ∀ y7 : Int, I19 y6 y7 → ¬ 30 < (w32 (y7 + y6)) → (dyo y7) = (dyo (w32 ((w32 (y7 + y6)) - 1))) → ¬ (dyo y7) = 0 → x3 < 0 → an (fun i => decide (s 418 (y7.toNat + i) = 0)) y6.toNat = false → Q (some (mI y7)) s)
  (z5 : ∀ y6 : Int, ∀ y7 : Int, I19 y6 y7 → ¬ 30 < (w32 (y7 + y6)) → (dyo y7) = (dyo (w32 ((w32 (y7 + y6)) - 1))) → ¬ (dyo y7) = 0 → x3 < 0 → ¬ (an (fun i => decide (s 418 (y7.toNat + i) = 0)) y6.toNat = false) → I19 y6 (w32 (y7 + 1)) ∧ m19 y6 (w32 (y7 + 1)) < m19 y6 y7)
  (z6 : ∀ y6 : Int, ∀ y7 : Int, I19 y6 y7 → ¬ 30 < (w32 (y7 + y6)) → (dyo y7) = (dyo (w32 ((w32 (y7 + y6)) - 1))) → ¬ (dyo y7) = 0 → ¬ x3 < 0 → ¬ (dyo x3) = (dyo y7) → (w32 (x4 + 0)) ≤ y7 → (0 ≤ y7 ∧ y7 ≤ 30) ∧ (0 ≤ y6 ∧ y7 + y6 ≤ 30))
  (z7 : ∀ y6 : Int, ∀ y7 : Int, I19 y6 y7 → ¬ 30 < (w32 (y7 + y6)) → (dyo y7) = (dyo (w32 ((w32 (y7 + y6)) - 1))) → ¬ (dyo y7) = 0 → ¬ x3 < 0 → ¬ (dyo x3) = (dyo y7) → (w32 (x4 + 0)) ≤ y7 → an (fun i => decide (s 418 (y7.toNat + i) = 0)) y6.toNat = false → Q (some (mI y7)) s)
  (z8 : ∀ y6 : Int, ∀ y7 : Int, I19 y6 y7 → ¬ 30 < (w32 (y7 + y6)) → (dyo y7) = (dyo (w32 ((w32 (y7 + y6)) - 1))) → ¬ (dyo y7) = 0 → ¬ x3 < 0 → ¬ (dyo x3) = (dyo y7) → (w32 (x4 + 0)) ≤ y7 → ¬ (an (fun i => decide (s 418 (y7.toNat + i) = 0)) y6.toNat = false) → I19 y6 (w32 (y7 + 1)) ∧ m19 y6 (w32 (y7 + 1)) < m19 y6 y7)
  (z9 : ∀ y6 : Int, ∀ y7 : Int, I19 y6 y7 → ¬ 30 < (w32 (y7 + y6)) → (dyo y7) = (dyo (w32 ((w32 (y7 + y6)) - 1))) → ¬ (dyo y7) = 0 → ¬ x3 < 0 → ¬ (dyo x3) = (dyo y7) → ¬ (w32 (x4 + 0)) ≤ y7 → I19 y6 (w32 (y7 + 1)) ∧ m19 y6 (w32 (y7 + 1)) < m19 y6 y7)
  (z10 : ∀ y6 : Int, ∀ y7 : Int, I19 y6 y7 → ¬ 30 < (w32 (y7 + y6)) → (dyo y7) = (dyo (w32 ((w32 (y7 + y6)) - 1))) → ¬ (dyo y7) = 0 → ¬ x3 < 0 → (dyo x3) = (dyo y7) → 0 ≤ (w32 (129 + x1)) ∧ (w32 (129 + x1)) < 166)
  (z11 : ∀ y6 : Int, ∀ y7 : Int, I19 y6 y7 → ¬ 30 < (w32 (y7 + y6)) → (dyo y7) = (dyo (w32 ((w32 (y7 + y6)) - 1))) → ¬ (dyo y7) = 0 → ¬ x3 < 0 → (dyo x3) = (dyo y7) → (w32 (x4 + (s 417 (w32 (129 + x1)).toNat))) ≤ y7 → (0 ≤ y7 ∧ y7 ≤ 30) ∧ (0 ≤ y6 ∧ y7 + y6 ≤ 30))
  (z12 : ∀ y6 : Int, ∀ y7 : Int, I19 y6 y7 → ¬ 30 < (w32 (y7 + y6)) → (dyo y7) = (dyo (w32 ((w32 (y7 + y6)) - 1))) → ¬ (dyo y7) = 0 → ¬ x3 < 0 → (dyo x3) = (dyo y7) → (w32 (x4 + (s 417 (w32 (129 + x1)).toNat))) ≤ y7 → an (fun i => decide (s 418 (y7.toNat + i) = 0)) y6.toNat = false → Q (some (mI y7)) s)
  (z13 : ∀ y6 : Int, ∀ y7 : Int, I19 y6 y7 → ¬ 30 < (w32 (y7 + y6)) → (dyo y7) = (dyo (w32 ((w32 (y7 + y6)) - 1))) → ¬ (dyo y7) = 0 → ¬ x3 < 0 → (dyo x3) = (dyo y7) → (w32 (x4 + (s 417 (w32 (129 + x1)).toNat))) ≤ y7 → ¬ (an (fun i => decide (s 418 (y7.toNat + i) = 0)) y6.toNat = false) → I19 y6 (w32 (y7 + 1)) ∧ m19 y6 (w32 (y7 + 1)) < m19 y6 y7)
  (z14 : ∀ y6 : Int, ∀ y7 : Int, I19 y6 y7 → ¬ 30 < (w32 (y7 + y6)) → (dyo y7) = (dyo (w32 ((w32 (y7 + y6)) - 1))) → ¬ (dyo y7) = 0 → ¬ x3 < 0 → (dyo x3) = (dyo y7) → ¬ (w32 (x4 + (s 417 (w32 (129 + x1)).toNat))) ≤ y7 → I19 y6 (w32 (y7 + 1)) ∧ m19 y6 (w32 (y7 + 1)) < m19 y6 y7)
  (z15 : ∀ y6 : Int, ∀ y7 : Int, I19 y6 y7 → ¬ 30 < (w32 (y7 + y6)) → (dyo y7) = (dyo (w32 ((w32 (y7 + y6)) - 1))) → (dyo y7) = 0 → (w32 (x5 + y6)) ≤ (s 417 2) → x3 < 0 → (0 ≤ y7 ∧ y7 ≤ 30) ∧ (0 ≤ y6 ∧ y7 + y6 ≤ 30))
  (z16 : ∀ y6 : Int, ∀ y7 : Int, I19 y6 y7 → ¬ 30 < (w32 (y7 + y6)) → (dyo y7) = (dyo (w32 ((w32 (y7 + y6)) - 1))) → (dyo y7) = 0 → (w32 (x5 + y6)) ≤ (s 417 2) → x3 < 0 → an (fun i => decide (s 418 (y7.toNat + i) = 0)) y6.toNat = false → Q (some (mI y7)) s)
  (z17 : ∀ y6 : Int, ∀ y7 : Int, I19 y6 y7 → ¬ 30 < (w32 (y7 + y6)) → (dyo y7) = (dyo (w32 ((w32 (y7 + y6)) - 1))) → (dyo y7) = 0 → (w32 (x5 + y6)) ≤ (s 417 2) → x3 < 0 → ¬ (an (fun i => decide (s 418 (y7.toNat + i) = 0)) y6.toNat = false) → I19 y6 (w32 (y7 + 1)) ∧ m19 y6 (w32 (y7 + 1)) < m19 y6 y7)
  (z18 : ∀ y6 : Int, ∀ y7 : Int, I19 y6 y7 → ¬ 30 < (w32 (y7 + y6)) → (dyo y7) = (dyo (w32 ((w32 (y7 + y6)) - 1))) → (dyo y7) = 0 → (w32 (x5 + y6)) ≤ (s 417 2) → ¬ x3 < 0 → ¬ (dyo x3) = (dyo y7) → (w32 (x4 + 0)) ≤ y7 → (0 ≤ y7 ∧ y7 ≤ 30) ∧ (0 ≤ y6 ∧ y7 + y6 ≤ 30))
  (z19 : ∀ y6 : Int, ∀ y7 : Int, I19 y6 y7 → ¬ 30 < (w32 (y7 + y6)) → (dyo y7) = (dyo (w32 ((w32 (y7 + y6)) - 1))) → (dyo y7) = 0 → (w32 (x5 + y6)) ≤ (s 417 2) → ¬ x3 < 0 → ¬ (dyo x3) = (dyo y7) → (w32 (x4 + 0)) ≤ y7 → an (fun i => decide (s 418 (y7.toNat + i) = 0)) y6.toNat = false → Q (some (mI y7)) s)
  (z20 : ∀ y6 : Int, ∀ y7 : Int, I19 y6 y7 → ¬ 30 < (w32 (y7 + y6)) → (dyo y7) = (dyo (w32 ((w32 (y7 + y6)) - 1))) → (dyo y7) = 0 → (w32 (x5 + y6)) ≤ (s 417 2) → ¬ x3 < 0 → ¬ (dyo x3) = (dyo y7) → (w32 (x4 + 0)) ≤ y7 → ¬ (an (fun i => decide (s 418 (y7.toNat + i) = 0)) y6.toNat = false) → I19 y6 (w32 (y7 + 1)) ∧ m19 y6 (w32 (y7 + 1)) < m19 y6 y7)
  (z21 : ∀ y6 : Int, ∀ y7 : Int, I19 y6 y7 → ¬ 30 < (w32 (y7 + y6)) → (dyo y7) = (dyo (w32 ((w32 (y7 + y6)) - 1))) → (dyo y7) = 0 → (w32 (x5 + y6)) ≤ (s 417 2) → ¬ x3 < 0 → ¬ (dyo x3) = (dyo y7) → ¬ (w32 (x4 + 0)) ≤ y7 → I19 y6 (w32 (y7 + 1)) ∧ m19 y6 (w32 (y7 + 1)) < m19 y6 y7)
  (z22 : ∀ y6 : Int, ∀ y7 : Int, I19 y6 y7 → ¬ 30 < (w32 (y7 + y6)) → (dyo y7) = (dyo (w32 ((w32 (y7 + y6)) - 1))) → (dyo y7) = 0 → (w32 (x5 + y6)) ≤ (s 417 2) → ¬ x3 < 0 → (dyo x3) = (dyo y7) → 0 ≤ (w32 (129 + x1)) ∧ (w32 (129 + x1)) < 166)
  (z23 : ∀ y6 : Int, ∀ y7 : Int, I19 y6 y7 → ¬ 30 < (w32 (y7 + y6)) → (dyo y7) = (dyo (w32 ((w32 (y7 + y6)) - 1))) → (dyo y7) = 0 → (w32 (x5 + y6)) ≤ (s 417 2) → ¬ x3 < 0 → (dyo x3) = (dyo y7) → (w32 (x4 + (s 417 (w32 (129 + x1)).toNat))) ≤ y7 → (0 ≤ y7 ∧ y7 ≤ 30) ∧ (0 ≤ y6 ∧ y7 + y6 ≤ 30))
  (z24 : ∀ y6 : Int, ∀ y7 : Int, I19 y6 y7 → ¬ 30 < (w32 (y7 + y6)) → (dyo y7) = (dyo (w32 ((w32 (y7 + y6)) - 1))) → (dyo y7) = 0 → (w32 (x5 + y6)) ≤ (s 417 2) → ¬ x3 < 0 → (dyo x3) = (dyo y7) → (w32 (x4 + (s 417 (w32 (129 + x1)).toNat))) ≤ y7 → an (fun i => decide (s 418 (y7.toNat + i) = 0)) y6.toNat = false → Q (some (mI y7)) s)
  (z25 : ∀ y6 : Int, ∀ y7 : Int, I19 y6 y7 → ¬ 30 < (w32 (y7 + y6)) → (dyo y7) = (dyo (w32 ((w32 (y7 + y6)) - 1))) → (dyo y7) = 0 → (w32 (x5 + y6)) ≤ (s 417 2) → ¬ x3 < 0 → (dyo x3) = (dyo y7) → (w32 (x4 + (s 417 (w32 (129 + x1)).toNat))) ≤ y7 → ¬ (an (fun i => decide (s 418 (y7.toNat + i) = 0)) y6.toNat = false) → I19 y6 (w32 (y7 + 1)) ∧ m19 y6 (w32 (y7 + 1)) < m19 y6 y7)
  (z26 : ∀ y6 : Int, ∀ y7 : Int, I19 y6 y7 → ¬ 30 < (w32 (y7 + y6)) → (dyo y7) = (dyo (w32 ((w32 (y7 + y6)) - 1))) → (dyo y7) = 0 → (w32 (x5 + y6)) ≤ (s 417 2) → ¬ x3 < 0 → (dyo x3) = (dyo y7) → ¬ (w32 (x4 + (s 417 (w32 (129 + x1)).toNat))) ≤ y7 → I19 y6 (w32 (y7 + 1)) ∧ m19 y6 (w32 (y7 + 1)) < m19 y6 y7)
  (z27 : ∀ y6 : Int, ∀ y7 : Int, I19 y6 y7 → ¬ 30 < (w32 (y7 + y6)) → (dyo y7) = (dyo (w32 ((w32 (y7 + y6)) - 1))) → (dyo y7) = 0 → ¬ (w32 (x5 + y6)) ≤ (s 417 2) → I19 y6 (w32 (y7 + 1)) ∧ m19 y6 (w32 (y7 + 1)) < m19 y6 y7)
  (z28 : Ok (s 417) ∧ (0 ≤ x1 ∧ x1 < 6) ∧ (0 ≤ x2 ∧ x2 < 5))
  (z29 : 0 ≤ (w32 (6 + x2)) ∧ (w32 (6 + x2)) < 166)
  (z30 : I19 (tm (s 417) x1.toNat x2.toNat) (s 417 (w32 (6 + x2)).toNat)) :
  Sp X (d + 1) 237 [mR 407, mI x1, mI x2, mI x3, mI x4, mI x5] s Q := by
  have L : ∀ k : Nat, (∀ (y6 : Int) (y7 : Int), I19 y6 y7 → m19 y6 y7 < k → Wp X (d + 1) 237 19 [some (mR 407), some (mI x1), some (mI x2), some (mI x3), some (mI x4), some (mI x5), some (mI y6), some (mI y7)] [] s Q) := by
    intro k
    induction k with
    | zero => exact fun _ _ _ h => absurd h (Nat.not_lt_zero _)
    | succ k ih => exact fun y6 y7 hI hm => b237_19 (fun q1 => b237_133 (z1 y6 y7 hI q1)) (fun q2 => b237_29 (c236  ⟨_, rfl, b237_34 (c236  ⟨_, rfl, b237_44 (fun q3 => b237_127 (ih y6 (w32 (y7 + 1)) (z2 y6 y7 hI q2 q3).1 (Nat.lt_of_lt_of_le (z2 y6 y7 hI q2 q3).2 (Nat.le_of_lt_succ hm)))) (fun q4 => b237_47 (c236  ⟨_, rfl, b237_52 (fun q5 => b237_72 (fun q6 => b237_113 (c235 (z3 y6 y7 hI q2 q4 q5 q6) (fun q7 => ⟨1, rfl, b237_121 (fun q => absurd q (by decide)) (fun _ => b237_124 (z4 y6 y7 hI q2 q4 q5 q6 q7))⟩) (fun q8 => ⟨0, rfl, b237_121 (fun _ => b237_127 (ih y6 (w32 (y7 + 1)) (z5 y6 y7 hI q2 q4 q5 q6 q8).1 (Nat.lt_of_lt_of_le (z5 y6 y7 hI q2 q4 q5 q6 q8).2 (Nat.le_of_lt_succ hm)))) (fun q => absurd q (by decide))⟩))) (fun q9 => b237_76 (c236  ⟨_, rfl, b237_84 (c236  ⟨_, rfl, b237_89 (fun q10 => b237_105 (b237_106 (fun q11 => b237_113 (c235 (z6 y6 y7 hI q2 q4 q5 q9 q10 q11) (fun q12 => ⟨1, rfl, b237_121 (fun q => absurd q (by decide)) (fun _ => b237_124 (z7 y6 y7 hI q2 q4 q5 q9 q10 q11 q12))⟩) (fun q13 => ⟨0, rfl, b237_121 (fun _ => b237_127 (ih y6 (w32 (y7 + 1)) (z8 y6 y7 hI q2 q4 q5 q9 q10 q11 q13).1 (Nat.lt_of_lt_of_le (z8 y6 y7 hI q2 q4 q5 q9 q10 q11 q13).2 (Nat.le_of_lt_succ hm)))) (fun q => absurd q (by decide))⟩))) (fun q14 => b237_110 (b237_127 (ih y6 (w32 (y7 + 1)) (z9 y6 y7 hI q2 q4 q5 q9 q10 q14).1 (Nat.lt_of_lt_of_le (z9 y6 y7 hI q2 q4 q5 q9 q10 q14).2 (Nat.le_of_lt_succ hm))))))) (fun q15 => b237_92 (z10 y6 y7 hI q2 q4 q5 q9 q15) (b237_106 (fun q16 => b237_113 (c235 (z11 y6 y7 hI q2 q4 q5 q9 q15 q16) (fun q17 => ⟨1, rfl, b237_121 (fun q => absurd q (by decide)) (fun _ => b237_124 (z12 y6 y7 hI q2 q4 q5 q9 q15 q16 q17))⟩) (fun q18 => ⟨0, rfl, b237_121 (fun _ => b237_127 (ih y6 (w32 (y7 + 1)) (z13 y6 y7 hI q2 q4 q5 q9 q15 q16 q18).1 (Nat.lt_of_lt_of_le (z13 y6 y7 hI q2 q4 q5 q9 q15 q16 q18).2 (Nat.le_of_lt_succ hm)))) (fun q => absurd q (by decide))⟩))) (fun q19 => b237_110 (b237_127 (ih y6 (w32 (y7 + 1)) (z14 y6 y7 hI q2 q4 q5 q9 q15 q19).1 (Nat.lt_of_lt_of_le (z14 y6 y7 hI q2 q4 q5 q9 q15 q19).2 (Nat.le_of_lt_succ hm)))))))⟩)⟩))) (fun q20 => b237_55 (fun q21 => b237_72 (fun q22 => b237_113 (c235 (z15 y6 y7 hI q2 q4 q20 q21 q22) (fun q23 => ⟨1, rfl, b237_121 (fun q => absurd q (by decide)) (fun _ => b237_124 (z16 y6 y7 hI q2 q4 q20 q21 q22 q23))⟩) (fun q24 => ⟨0, rfl, b237_121 (fun _ => b237_127 (ih y6 (w32 (y7 + 1)) (z17 y6 y7 hI q2 q4 q20 q21 q22 q24).1 (Nat.lt_of_lt_of_le (z17 y6 y7 hI q2 q4 q20 q21 q22 q24).2 (Nat.le_of_lt_succ hm)))) (fun q => absurd q (by decide))⟩))) (fun q25 => b237_76 (c236  ⟨_, rfl, b237_84 (c236  ⟨_, rfl, b237_89 (fun q26 => b237_105 (b237_106 (fun q27 => b237_113 (c235 (z18 y6 y7 hI q2 q4 q20 q21 q25 q26 q27) (fun q28 => ⟨1, rfl, b237_121 (fun q => absurd q (by decide)) (fun _ => b237_124 (z19 y6 y7 hI q2 q4 q20 q21 q25 q26 q27 q28))⟩) (fun q29 => ⟨0, rfl, b237_121 (fun _ => b237_127 (ih y6 (w32 (y7 + 1)) (z20 y6 y7 hI q2 q4 q20 q21 q25 q26 q27 q29).1 (Nat.lt_of_lt_of_le (z20 y6 y7 hI q2 q4 q20 q21 q25 q26 q27 q29).2 (Nat.le_of_lt_succ hm)))) (fun q => absurd q (by decide))⟩))) (fun q30 => b237_110 (b237_127 (ih y6 (w32 (y7 + 1)) (z21 y6 y7 hI q2 q4 q20 q21 q25 q26 q30).1 (Nat.lt_of_lt_of_le (z21 y6 y7 hI q2 q4 q20 q21 q25 q26 q30).2 (Nat.le_of_lt_succ hm))))))) (fun q31 => b237_92 (z22 y6 y7 hI q2 q4 q20 q21 q25 q31) (b237_106 (fun q32 => b237_113 (c235 (z23 y6 y7 hI q2 q4 q20 q21 q25 q31 q32) (fun q33 => ⟨1, rfl, b237_121 (fun q => absurd q (by decide)) (fun _ => b237_124 (z24 y6 y7 hI q2 q4 q20 q21 q25 q31 q32 q33))⟩) (fun q34 => ⟨0, rfl, b237_121 (fun _ => b237_127 (ih y6 (w32 (y7 + 1)) (z25 y6 y7 hI q2 q4 q20 q21 q25 q31 q32 q34).1 (Nat.lt_of_lt_of_le (z25 y6 y7 hI q2 q4 q20 q21 q25 q31 q32 q34).2 (Nat.le_of_lt_succ hm)))) (fun q => absurd q (by decide))⟩))) (fun q35 => b237_110 (b237_127 (ih y6 (w32 (y7 + 1)) (z26 y6 y7 hI q2 q4 q20 q21 q25 q31 q35).1 (Nat.lt_of_lt_of_le (z26 y6 y7 hI q2 q4 q20 q21 q25 q31 q35).2 (Nat.le_of_lt_succ hm)))))))⟩)⟩))) (fun q36 => b237_69 (b237_127 (ih y6 (w32 (y7 + 1)) (z27 y6 y7 hI q2 q4 q20 q36).1 (Nat.lt_of_lt_of_le (z27 y6 y7 hI q2 q4 q20 q36).2 (Nat.le_of_lt_succ hm))))))⟩))⟩)⟩))
  exact e237 (b237_0 (c219 z28 ⟨_, rfl, b237_6 z29 ((L (m19 (tm (s 417) x1.toNat x2.toNat) (s 417 (w32 (6 + x2)).toNat) + 1)) (tm (s 417) x1.toNat x2.toNat) (s 417 (w32 (6 + x2)).toNat) z30 (Nat.lt_succ_self _))⟩))

theorem c237 {X : (Nat → Int) × Nat} {d : Nat} {s : mSt} {Q : mQ} {x1 : Int} {x2 : Int} {x3 : Int} {x4 : Int} {x5 : Int} (p1 : LPq s x1 x2 x3 x4 x5) (k : Q (some (mI (lsA (s 417) x1.toNat x2.toNat x3 x4 x5))) s) : Sp X (d + 1) 237 [mR 407, mI x1, mI x2, mI x3, mI x4, mI x5] s Q := by
  obtain ⟨h, h1, h2, h3, h4, h5, hs⟩ := p1
  have hn := npI h
  have n5 := np_le h
  have t1 := tm_pos h (c := x1.toNat) (p := x2.toNat) (by omega) (by omega)
  have t2 := tm_bd h (c := x1.toNat) (p := x2.toNat) (by omega) (by omega)
  have bS := okS h (p := x2.toNat) (by omega)
  have bR := okRe h (p := x1.toNat) (by omega)
  have e6 : (w32 (6 + x2)).toNat = 6 + x2.toNat := wt (by omega) (by omega)
  have e9 : (w32 (129 + x1)).toNat = 129 + x1.toNat := wt (by omega) (by omega)
  have w1 : ∀ j : Nat, j ≤ 30 → w32 ((j : Int) + tm (s 417) x1.toNat x2.toNat) = (j : Int) + tm (s 417) x1.toNat x2.toNat := fun j hj => w32_of (by omega)
  have w2 : ∀ j : Nat, j ≤ 30 → w32 ((j : Int) + tm (s 417) x1.toNat x2.toNat - 1) = (j : Int) + tm (s 417) x1.toNat x2.toNat - 1 := fun j hj => w32_of (by omega)
  have w3 : w32 (x5 + tm (s 417) x1.toNat x2.toNat) = x5 + tm (s 417) x1.toNat x2.toNat := w32_of (by omega)
  have w4 : w32 (x4 + 0) = x4 + 0 := w32_of (by omega)
  have w5 : w32 (x4 + s 417 (129 + x1.toNat)) = x4 + s 417 (129 + x1.toNat) := w32_of (by omega)
  have han : ∀ j : Nat, (j : Int) + tm (s 417) x1.toNat x2.toNat ≤ 30 → an (fun i => decide (s 418 (j + i) = 0)) (tm (s 417) x1.toNat x2.toNat).toNat = an (fun i => decide (fre (s 417) (j + i) = 0)) (tm (s 417) x1.toNat x2.toNat).toNat := fun j hj =>
    an_congr (fun i hi => by rw [hs (j + i) (by omega)])
  have cont : ∀ j : Nat, s 417 (6 + x2.toNat) ≤ (j : Int) → j ≤ 30 → (j : Int) + tm (s 417) x1.toNat x2.toNat ≤ 30 → fd (okA (s 417) x1.toNat x2.toNat x3 x4 x5) j < 0 → ¬ okA (s 417) x1.toNat x2.toNat x3 x4 x5 j = true →
      (∃ i : Nat, w32 ((j : Int) + 1) = (i : Int) ∧ eqI (tm (s 417) x1.toNat x2.toNat) (tm (s 417) x1.toNat x2.toNat) ∧ s 417 (6 + x2.toNat) ≤ (i : Int) ∧ i ≤ 30 ∧ fd (okA (s 417) x1.toNat x2.toNat x3 x4 x5) i < 0) ∧ (31 - w32 ((j : Int) + 1)).toNat < (31 - (j : Int)).toNat := fun j j1 j2 j3 j4 j5 => by
    rw [w32_of (by omega)]
    exact ⟨⟨j + 1, by omega, rfl, by omega, by omega, fd_sn j4 j5⟩, by omega⟩
  have found : ∀ j : Nat, s 417 (6 + x2.toNat) ≤ (j : Int) → (j : Int) + tm (s 417) x1.toNat x2.toNat ≤ 30 → dyo j = dyo (j + tm (s 417) x1.toNat x2.toNat - 1) → fd (okA (s 417) x1.toNat x2.toNat x3 x4 x5) j < 0 → an (fun i => decide (s 418 (j + i) = 0)) (tm (s 417) x1.toNat x2.toNat).toNat = false →
      ¬ ((j : Int) < 20 ∧ s 417 2 < x5 + tm (s 417) x1.toNat x2.toNat) → ¬ (0 ≤ x3 ∧ (j : Int) < x4 + (if dyo x3 = dyo j then s 417 (129 + x1.toNat) else 0)) → Q (some (mI (j : Int))) s := fun j j1 j2 j3 j4 j5 j6 j7 => by
    rw [han j j2] at j5
    have e : lsA (s 417) x1.toNat x2.toNat x3 x4 x5 = j := fd_eq (by omega) (okA_iff.2 ⟨j1, j2, j3, j5, j6, j7⟩) (fd_neg.1 j4)
    rw [e] at k; exact k
  refine v237 (fun y6 y7 => ∃ j : Nat, y7 = j ∧ eqI y6 (tm (s 417) x1.toNat x2.toNat) ∧ s 417 (6 + x2.toNat) ≤ (j : Int) ∧ j ≤ 30 ∧ fd (okA (s 417) x1.toNat x2.toNat x3 x4 x5) j < 0) (fun _ y => (31 - y).toNat) ?_ ?_ ?_ ?_ ?_ ?_ ?_ ?_ ?_ ?_ ?_ ?_ ?_ ?_ ?_ ?_ ?_ ?_ ?_ ?_ ?_ ?_ ?_ ?_ ?_ ?_ ?_ ?_ ?_ ?_
  · rintro _ _ ⟨j, rfl, rfl, j1, j2, j3⟩ hc
    rw [w1 j j2] at hc
    have : fd (okA (s 417) x1.toNat x2.toNat x3 x4 x5) 30 < 0 := fd_neg.2 (fun i hi => by
      by_cases z : i < j
      · exact fd_neg.1 j3 i z
      · exact bf (fun w => by have := (okA_iff.1 w).2.1; omega))
    have hg := fd_ge (f := okA (s 417) x1.toNat x2.toNat x3 x4 x5) (n := 30)
    unfold lsA at k
    rw [show fd (okA (s 417) x1.toNat x2.toNat x3 x4 x5) 30 = -1 by omega] at k
    exact k
  all_goals first
    | (rintro _ _ ⟨j, rfl, rfl, j1, j2, j3⟩
       simp only [w1 j j2, w2 j j2, w3, w4, e9, w5, tnc]
       intros
       first
         | omega
         | exact cont j j1 j2 (by omega) j3 (fun z => by
             obtain ⟨o1, o2, o3, o4, o5, o6⟩ := okA_iff.1 z
             first
               | (apply o6; refine ⟨by omega, ?_⟩; first | (rw [if_pos (by assumption)]; omega) | (rw [if_neg (by assumption)]; omega))
               | (apply o5; rw [dyo_0] at *; omega)
               | (rw [← han j (by omega)] at o4; contradiction)
               | contradiction)
         | exact found j j1 (by omega) (by assumption) j3 (by assumption) (by simp only [dyo_0] at *; omega) (by
             rintro ⟨o1, o2⟩
             first
               | omega
               | (rw [if_pos (by assumption)] at o2; omega)
               | (rw [if_neg (by assumption)] at o2; omega))
         | (rw [w32_of (by omega)]; omega))
    | skip
  · exact ⟨h, h1, by omega⟩
  · rw [w32_of (by omega)]; omega
  · rw [e6]
    obtain ⟨j, hj⟩ := nat_of bS.1
    rw [hj]
    refine ⟨j, rfl, rfl, by omega, by omega, fd_neg.2 (fun i hi => bf (fun z => ?_))⟩
    have := (okA_iff.1 z).1
    omega
