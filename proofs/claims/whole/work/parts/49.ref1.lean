/-! the reference: what is asked of what is said -/
theorem wt {x : Int} {n : Nat} (h : x = n) (hn : n < 2147483648) : (w32 x).toNat = n := by
  rw [w32_of (by omega)]; omega
theorem tnc (n : Nat) : ((n : Nat) : Int).toNat = n := Int.toNat_natCast n
theorem nat_of {x : Int} (h : 0 ≤ x) : ∃ n : Nat, x = n := Int.eq_ofNat_of_zero_le h
theorem lCmp_lt (x y : Int) : lCmp x y < 0 ↔ x < y := by unfold lCmp; split <;> (try split) <;> omega
theorem lCmp_gt (x y : Int) : 0 < lCmp x y ↔ y < x := by unfold lCmp; split <;> (try split) <;> omega
theorem lCmp_eq (x y : Int) : lCmp x y = 0 ↔ x = y := by unfold lCmp; split <;> (try split) <;> omega
theorem v167 {X : (Nat → Int) × Nat} {d : Nat} {s : mSt} {Q : mQ} {x0 : Int} {x2 : Int} {x4 : Int}
  (z1 : (lCmp x0 x2) < 0 → Q (some (mI 0)) s)
  (z2 : ¬ (lCmp x0 x2) < 0 → 0 < (lCmp x0 x4) → Q (some (mI 0)) s)
  (z3 : ¬ (lCmp x0 x2) < 0 → ¬ 0 < (lCmp x0 x4) → Q (some (mI 1)) s) :
  Sp X d 167 [mJ x0, mJ x2, mJ x4] s Q := e167 (b167_0 (fun q1 => b167_17 (b167_18 (z1 q1) (Or.inl rfl))) (fun q2 => b167_6 (fun q3 => b167_17 (b167_18 (z2 q2 q3) (Or.inl rfl))) (fun q4 => b167_13 (b167_18 (z3 q2 q4) (Or.inr rfl)))))

theorem c167 {X : (Nat → Int) × Nat} {d : Nat} {s : mSt} {Q : mQ} {x0 : Int} {x2 : Int} {x4 : Int} (k1 : (x2 ≤ x0 ∧ x0 ≤ x4) → Q (some (mI 1)) s) (k0 : ¬ (x2 ≤ x0 ∧ x0 ≤ x4) → Q (some (mI 0)) s) : Sp X d 167 [mJ x0, mJ x2, mJ x4] s Q := by
  refine v167 (fun h => k0 ?_) (fun _ h => k0 ?_) (fun h h' => k1 ?_)
  · rw [lCmp_lt] at h; omega
  · rw [lCmp_gt] at h; omega
  · rw [lCmp_lt] at h; rw [lCmp_gt] at h'; omega
theorem v168 {X : (Nat → Int) × Nat} {d : Nat} {s : mSt} {Q : mQ} {x0 : Int} {x1 : Int}
  (z1 : ¬ (iAnd (iShr x0 x1) 1) = 1 → Q (some (mI 0)) s)
  (z2 : (iAnd (iShr x0 x1) 1) = 1 → Q (some (mI 1)) s) :
  Sp X d 168 [mI x0, mI x1] s Q := e168 (b168_0 (fun q1 => b168_13 (b168_14 (z1 q1) (Or.inl rfl))) (fun q2 => b168_9 (b168_14 (z2 q2) (Or.inr rfl))))

theorem c168 {X : (Nat → Int) × Nat} {d : Nat} {s : mSt} {Q : mQ} {x0 : Int} {x1 : Int} (p1 : 0 ≤ x1 ∧ x1 < 32) (k1 : (bt x0 x1) → Q (some (mI 1)) s) (k0 : ¬ (bt x0 x1) → Q (some (mI 0)) s) : Sp X d 168 [mI x0, mI x1] s Q := v168 (fun h => k0 (fun q => h ((bt_iff x0 p1).2 q))) (fun h => k1 ((bt_iff x0 p1).1 h))
theorem v212 {X : (Nat → Int) × Nat} {d : Nat} {s : mSt} {Q : mQ}
  (z1 : ¬ (s 417 0) = 1 → Q (some (mI 0)) s)
  (z2 : (s 417 0) = 1 → Q (some (mI 1)) s) :
  Sp X d 212 [mR 407] s Q := e212 (b212_0 (fun q1 => b212_14 (b212_15 (z1 q1) (Or.inl rfl))) (fun q2 => b212_10 (b212_15 (z2 q2) (Or.inr rfl))))

theorem c212 {X : (Nat → Int) × Nat} {d : Nat} {s : mSt} {Q : mQ} (k1 : (s 417 0 = 1) → Q (some (mI 1)) s) (k0 : ¬ (s 417 0 = 1) → Q (some (mI 0)) s) : Sp X d 212 [mR 407] s Q := v212 k0 k1
theorem v213 {X : (Nat → Int) × Nat} {d : Nat} {s : mSt} {Q : mQ} {x1 : Int}
  (z1 : x1 < 0 → Q (some (mI 0)) s)
  (z2 : ¬ x1 < 0 → (s 417 3) ≤ x1 → Q (some (mI 0)) s)
  (z3 : ¬ x1 < 0 → ¬ (s 417 3) ≤ x1 → Q (some (mI 1)) s) :
  Sp X d 213 [mR 407, mI x1] s Q := e213 (b213_0 (fun q1 => b213_18 (b213_19 (z1 q1) (Or.inl rfl))) (fun q2 => b213_4 (fun q3 => b213_18 (b213_19 (z2 q2 q3) (Or.inl rfl))) (fun q4 => b213_14 (b213_19 (z3 q2 q4) (Or.inr rfl)))))

theorem c213 {X : (Nat → Int) × Nat} {d : Nat} {s : mSt} {Q : mQ} {x1 : Int} (k1 : (0 ≤ x1 ∧ x1 < s 417 3) → Q (some (mI 1)) s) (k0 : ¬ (0 ≤ x1 ∧ x1 < s 417 3) → Q (some (mI 0)) s) : Sp X d 213 [mR 407, mI x1] s Q := v213 (fun h => k0 (by omega)) (fun _ h => k0 (by omega)) (fun h h' => k1 (by omega))
theorem v214 {X : (Nat → Int) × Nat} {d : Nat} {s : mSt} {Q : mQ} {x1 : Int}
  (z1 : x1 < 0 → Q (some (mI 0)) s)
  (z2 : ¬ x1 < 0 → (s 417 4) ≤ x1 → Q (some (mI 0)) s)
  (z3 : ¬ x1 < 0 → ¬ (s 417 4) ≤ x1 → Q (some (mI 1)) s) :
  Sp X d 214 [mR 407, mI x1] s Q := e214 (b214_0 (fun q1 => b214_18 (b214_19 (z1 q1) (Or.inl rfl))) (fun q2 => b214_4 (fun q3 => b214_18 (b214_19 (z2 q2 q3) (Or.inl rfl))) (fun q4 => b214_14 (b214_19 (z3 q2 q4) (Or.inr rfl)))))

theorem c214 {X : (Nat → Int) × Nat} {d : Nat} {s : mSt} {Q : mQ} {x1 : Int} (k1 : (0 ≤ x1 ∧ x1 < s 417 4) → Q (some (mI 1)) s) (k0 : ¬ (0 ≤ x1 ∧ x1 < s 417 4) → Q (some (mI 0)) s) : Sp X d 214 [mR 407, mI x1] s Q := v214 (fun h => k0 (by omega)) (fun _ h => k0 (by omega)) (fun h h' => k1 (by omega))
theorem v215 {X : (Nat → Int) × Nat} {d : Nat} {s : mSt} {Q : mQ} {x1 : Int}
  (z1 : (0 ≤ x1 ∧ x1 < s 417 4) → 0 ≤ (w32 (41 + x1)) ∧ (w32 (41 + x1)) < 166)
  (z2 : (0 ≤ x1 ∧ x1 < s 417 4) → ¬ (s 417 (w32 (41 + x1)).toNat) = 1 → Q (some (mI 0)) s)
  (z3 : (0 ≤ x1 ∧ x1 < s 417 4) → (s 417 (w32 (41 + x1)).toNat) = 1 → Q (some (mI 1)) s)
  (z4 : (¬ (0 ≤ x1 ∧ x1 < s 417 4)) → Q (some (mI 0)) s) :
  Sp X (d + 1) 215 [mR 407, mI x1] s Q := e215 (b215_0 (c214  (fun q1 => ⟨1, rfl, b215_5 (fun q => absurd q (by decide)) (fun _ => b215_8 (z1 q1) (fun q2 => b215_25 (b215_26 (z2 q1 q2) (Or.inl rfl))) (fun q3 => b215_21 (b215_26 (z3 q1 q3) (Or.inr rfl))))⟩) (fun q4 => ⟨0, rfl, b215_5 (fun _ => b215_25 (b215_26 (z4 q4) (Or.inl rfl))) (fun q => absurd q (by decide))⟩)))

theorem c215 {X : (Nat → Int) × Nat} {d : Nat} {s : mSt} {Q : mQ} {x1 : Int} (p1 : Ok (s 417)) (k1 : ((0 ≤ x1 ∧ x1 < s 417 4) ∧ s 417 (41 + x1.toNat) = 1) → Q (some (mI 1)) s) (k0 : ¬ ((0 ≤ x1 ∧ x1 < s 417 4) ∧ s 417 (41 + x1.toNat) = 1) → Q (some (mI 0)) s) : Sp X (d + 1) 215 [mR 407, mI x1] s Q := by
  have h4 := ok4 p1
  have e : (0 ≤ x1 ∧ x1 < s 417 4) → (w32 (41 + x1)).toNat = 41 + x1.toNat := fun h => wt (by omega) (by omega)
  refine v215 (fun h => by rw [w32_of (by omega)]; omega) (fun h q => k0 (fun z => ?_)) (fun h q => k1 ⟨h, ?_⟩) (fun h => k0 (fun z => h z.1))
  · rw [e h] at q; exact q z.2
  · rw [e h] at q; exact q
theorem v216 {X : (Nat → Int) × Nat} {d : Nat} {s : mSt} {Q : mQ} {x1 : Int}
  (z1 : (0 ≤ x1 ∧ x1 < s 417 4) → 0 ≤ (w32 (41 + x1)) ∧ (w32 (41 + x1)) < 166)
  (z2 : (0 ≤ x1 ∧ x1 < s 417 4) → ¬ (s 417 (w32 (41 + x1)).toNat) = 0 → Q (some (mI 0)) s)
  (z3 : (0 ≤ x1 ∧ x1 < s 417 4) → (s 417 (w32 (41 + x1)).toNat) = 0 → Q (some (mI 1)) s)
  (z4 : (¬ (0 ≤ x1 ∧ x1 < s 417 4)) → Q (some (mI 0)) s) :
  Sp X (d + 1) 216 [mR 407, mI x1] s Q := e216 (b216_0 (c214  (fun q1 => ⟨1, rfl, b216_5 (fun q => absurd q (by decide)) (fun _ => b216_8 (z1 q1) (fun q2 => b216_24 (b216_25 (z2 q1 q2) (Or.inl rfl))) (fun q3 => b216_20 (b216_25 (z3 q1 q3) (Or.inr rfl))))⟩) (fun q4 => ⟨0, rfl, b216_5 (fun _ => b216_24 (b216_25 (z4 q4) (Or.inl rfl))) (fun q => absurd q (by decide))⟩)))

theorem c216 {X : (Nat → Int) × Nat} {d : Nat} {s : mSt} {Q : mQ} {x1 : Int} (p1 : Ok (s 417)) (k1 : ((0 ≤ x1 ∧ x1 < s 417 4) ∧ s 417 (41 + x1.toNat) = 0) → Q (some (mI 1)) s) (k0 : ¬ ((0 ≤ x1 ∧ x1 < s 417 4) ∧ s 417 (41 + x1.toNat) = 0) → Q (some (mI 0)) s) : Sp X (d + 1) 216 [mR 407, mI x1] s Q := by
  have h4 := ok4 p1
  have e : (0 ≤ x1 ∧ x1 < s 417 4) → (w32 (41 + x1)).toNat = 41 + x1.toNat := fun h => wt (by omega) (by omega)
  refine v216 (fun h => by rw [w32_of (by omega)]; omega) (fun h q => k0 (fun z => ?_)) (fun h q => k1 ⟨h, ?_⟩) (fun h => k0 (fun z => h z.1))
  · rw [e h] at q; exact q z.2
  · rw [e h] at q; exact q
theorem v217 {X : (Nat → Int) × Nat} {d : Nat} {s : mSt} {Q : mQ} {x1 : Int} {x2 : Int}
  (z1 : 0 ≤ (w32 (117 + x1)) ∧ (w32 (117 + x1)) < 166)
  (z2 : 0 ≤ x2 ∧ x2 < 32)
  (z3 : bt (s 417 (w32 (117 + x1)).toNat) x2 → Q (some (mI 1)) s)
  (z4 : ¬ (bt (s 417 (w32 (117 + x1)).toNat) x2) → Q (some (mI 0)) s) :
  Sp X (d + 1) 217 [mR 407, mI x1, mI x2] s Q := e217 (b217_0 z1 (c168 z2 (fun q1 => ⟨1, rfl, b217_13 (z3 q1) (Or.inr rfl)⟩) (fun q2 => ⟨0, rfl, b217_13 (z4 q2) (Or.inl rfl)⟩)))

theorem c217 {X : (Nat → Int) × Nat} {d : Nat} {s : mSt} {Q : mQ} {x1 : Int} {x2 : Int} (p1 : (0 ≤ x1 ∧ x1 < 6) ∧ (0 ≤ x2 ∧ x2 < 5)) (k1 : (ss (s 417) x1.toNat x2.toNat = true) → Q (some (mI 1)) s) (k0 : ¬ (ss (s 417) x1.toNat x2.toNat = true) → Q (some (mI 0)) s) : Sp X (d + 1) 217 [mR 407, mI x1, mI x2] s Q := by
  have e : (w32 (117 + x1)).toNat = 117 + x1.toNat := wt (by omega) (by omega)
  refine v217 (by rw [w32_of (by omega)]; omega) (by omega) (fun q => k1 ?_) (fun q => k0 (fun z => q ?_))
  · rw [e] at q; exact q
  · rw [e]; exact z
theorem v218 {X : (Nat → Int) × Nat} {d : Nat} {s : mSt} {Q : mQ} {x1 : Int} {x2 : Int}
  (z1 : 0 ≤ (w32 ((w32 (47 + (w32 (5 * x1)))) + x2)) ∧ (w32 ((w32 (47 + (w32 (5 * x1)))) + x2)) < 166)
  (z2 : Q (some (mI (s 417 (w32 ((w32 (47 + (w32 (5 * x1)))) + x2)).toNat))) s) :
  Sp X d 218 [mR 407, mI x1, mI x2] s Q := e218 (b218_0 z1 z2)

theorem c218 {X : (Nat → Int) × Nat} {d : Nat} {s : mSt} {Q : mQ} {x1 : Int} {x2 : Int} (p1 : (0 ≤ x1 ∧ x1 < 6) ∧ (0 ≤ x2 ∧ x2 < 5)) (k : Q (some (mI (bg (s 417) x1.toNat x2.toNat))) s) : Sp X d 218 [mR 407, mI x1, mI x2] s Q := by
  have e1 : w32 (5 * x1) = 5 * x1 := w32_of (by omega)
  have e2 : w32 (47 + 5 * x1) = 47 + 5 * x1 := w32_of (by omega)
  have e : (w32 (47 + 5 * x1 + x2)).toNat = 47 + 5 * x1.toNat + x2.toNat := wt (by omega) (by omega)
  refine v218 ?_ ?_
  · rw [e1, e2, w32_of (by omega)]; omega
  · rw [e1, e2, e]; exact k
theorem v219 {X : (Nat → Int) × Nat} {d : Nat} {s : mSt} {Q : mQ} {x1 : Int} {x2 : Int}
  (z1 : 0 ≤ (w32 (77 + x2)) ∧ (w32 (77 + x2)) < 166)
  (z2 : 0 ≤ (w32 (123 + x1)) ∧ (w32 (123 + x1)) < 166)
  (z3 : Q (some (mI (w32 (Int.tdiv (w32 ((w32 ((s 417 (w32 (77 + x2)).toNat) * (w32 (100 + (s 417 (w32 (123 + x1)).toNat))))) + 99)) 100)))) s) :
  Sp X d 219 [mR 407, mI x1, mI x2] s Q := e219 (b219_0 z1 z2 z3)

theorem c219 {X : (Nat → Int) × Nat} {d : Nat} {s : mSt} {Q : mQ} {x1 : Int} {x2 : Int} (p1 : Ok (s 417) ∧ (0 ≤ x1 ∧ x1 < 6) ∧ (0 ≤ x2 ∧ x2 < 5)) (k : Q (some (mI (tm (s 417) x1.toNat x2.toNat))) s) : Sp X d 219 [mR 407, mI x1, mI x2] s Q := by
  obtain ⟨h, h1, h2⟩ := p1
  have e1 : (w32 (77 + x2)).toNat = 77 + x2.toNat := wt (by omega) (by omega)
  have e2 : (w32 (123 + x1)).toNat = 123 + x1.toNat := wt (by omega) (by omega)
  have b1 := tm_raw h (c := x1.toNat) (p := x2.toNat) (by omega) (by omega)
  have b2 := okE h (p := x1.toNat) (by omega)
  have e3 : w32 (100 + s 417 (123 + x1.toNat)) = 100 + s 417 (123 + x1.toNat) := w32_of (by omega)
  refine v219 (by rw [w32_of (by omega)]; omega) (by rw [w32_of (by omega)]; omega) ?_
  rw [e1, e2, e3]
  have e4 : ∀ y : Int, 0 ≤ y → y ≤ 1200 → w32 (Int.tdiv (w32 (w32 y + 99)) 100) = (y + 99) / 100 := fun y l u => by
    rw [w32_of (x := y) (by omega), w32_of (x := y + 99) (by omega), Int.tdiv_eq_ediv_of_nonneg (by omega), w32_of (by omega)]
  rw [e4 _ b1.1 b1.2]
  exact k
theorem v220 {X : (Nat → Int) × Nat} {d : Nat} {s : mSt} {Q : mQ} {x1 : Int}
  (I4 : Int → Int → Prop) (m4 : Int → Int → Nat)
  (z1 : ∀ y2 : Int, ∀ y3 : Int, I4 y2 y3 → (s 417 3) ≤ y3 → Q (some (mI y2)) s)
  (z2 : ∀ y2 : Int, ∀ y3 : Int, I4 y2 y3 → ¬ (s 417 3) ≤ y3 → (0 ≤ x1 ∧ x1 < 6) ∧ (0 ≤ y3 ∧ y3 < 5))
  (z3 : ∀ y2 : Int, ∀ y3 : Int, I4 y2 y3 → ¬ (s 417 3) ≤ y3 → ss (s 417) x1.toNat y3.toNat = true → Ok (s 417) ∧ (0 ≤ x1 ∧ x1 < 6) ∧ (0 ≤ y3 ∧ y3 < 5))
  (z4 : ∀ y2 : Int, ∀ y3 : Int, I4 y2 y3 → ¬ (s 417 3) ≤ y3 → ss (s 417) x1.toNat y3.toNat = true → I4 (w32 (y2 + (tm (s 417) x1.toNat y3.toNat))) (w32 (y3 + 1)) ∧ m4 (w32 (y2 + (tm (s 417) x1.toNat y3.toNat))) (w32 (y3 + 1)) < m4 y2 y3)
  (z5 : ∀ y2 : Int, ∀ y3 : Int, I4 y2 y3 → ¬ (s 417 3) ≤ y3 → ¬ (ss (s 417) x1.toNat y3.toNat = true) → I4 (w32 (y2 + 0)) (w32 (y3 + 1)) ∧ m4 (w32 (y2 + 0)) (w32 (y3 + 1)) < m4 y2 y3)
  (z6 : I4 0 0) :
  Sp X (d + 2) 220 [mR 407, mI x1] s Q := by
  have L : ∀ k : Nat, (∀ (y2 : Int) (y3 : Int), I4 y2 y3 → m4 y2 y3 < k → Wp X (d + 2) 220 4 [some (mR 407), some (mI x1), some (mI y2), some (mI y3)] [] s Q) := by
    intro k
    induction k with
    | zero => exact fun _ _ _ h => absurd h (Nat.not_lt_zero _)
    | succ k ih => exact fun y2 y3 hI hm => b220_4 (fun q1 => b220_42 (z1 y2 y3 hI q1)) (fun q2 => b220_14 (c217 (z2 y2 y3 hI q2) (fun q3 => ⟨1, rfl, b220_21 (fun q => absurd q (by decide)) (fun _ => b220_24 (c219 (z3 y2 y3 hI q2 q3) ⟨_, rfl, b220_30 (b220_34 (ih (w32 (y2 + (tm (s 417) x1.toNat y3.toNat))) (w32 (y3 + 1)) (z4 y2 y3 hI q2 q3).1 (Nat.lt_of_lt_of_le (z4 y2 y3 hI q2 q3).2 (Nat.le_of_lt_succ hm))))⟩))⟩) (fun q4 => ⟨0, rfl, b220_21 (fun _ => b220_33 (b220_34 (ih (w32 (y2 + 0)) (w32 (y3 + 1)) (z5 y2 y3 hI q2 q4).1 (Nat.lt_of_lt_of_le (z5 y2 y3 hI q2 q4).2 (Nat.le_of_lt_succ hm))))) (fun q => absurd q (by decide))⟩)))
  exact e220 (b220_0 ((L (m4 0 0 + 1)) 0 0 z6 (Nat.lt_succ_self _)))

theorem c220 {X : (Nat → Int) × Nat} {d : Nat} {s : mSt} {Q : mQ} {x1 : Int} (p1 : Ok (s 417) ∧ (0 ≤ x1 ∧ x1 < 6)) (k : Q (some (mI (wrk (s 417) x1.toNat))) s) : Sp X (d + 2) 220 [mR 407, mI x1] s Q := by
  obtain ⟨h, h1⟩ := p1
  have h3 := npI h
  have h5 := np_le h
  have hb : ∀ j : Nat, j ≤ np (s 417) → 0 ≤ sm (fun p => if ss (s 417) x1.toNat p = true then tm (s 417) x1.toNat p else 0) j ∧ sm (fun p => if ss (s 417) x1.toNat p = true then tm (s 417) x1.toNat p else 0) j ≤ 60 := fun j hj => by
    have := sm_bd (f := fun p => if ss (s 417) x1.toNat p = true then tm (s 417) x1.toNat p else 0) (b := 12) (n := j) (fun i hi => by
      have := tm_bd h (c := x1.toNat) (p := i) (by omega) (by omega)
      try dsimp only
      split <;> omega)
    omega
  refine v220 (fun y2 y3 => ∃ j : Nat, y3 = j ∧ j ≤ np (s 417) ∧ y2 = sm (fun p => if ss (s 417) x1.toNat p = true then tm (s 417) x1.toNat p else 0) j) (fun _ y3 => (5 - y3).toNat) ?_ ?_ ?_ ?_ ?_ ?_
  · rintro _ _ ⟨j, rfl, hj, rfl⟩ hc
    have : j = np (s 417) := by omega
    subst this
    exact k
  · rintro _ _ ⟨j, rfl, hj, rfl⟩ hc
    omega
  · rintro _ _ ⟨j, rfl, hj, rfl⟩ hc _
    exact ⟨h, h1, by omega⟩
  · rintro _ _ ⟨j, rfl, hj, rfl⟩ hc q
    rw [tnc] at q ⊢
    have b1 := hb j hj
    have b2 := tm_bd h (c := x1.toNat) (p := j) (by omega) (by omega)
    rw [w32_of (by omega), w32_of (by omega)]
    refine ⟨⟨j + 1, by omega, by omega, ?_⟩, by omega⟩
    rw [sm_s, if_pos q]
  · rintro _ _ ⟨j, rfl, hj, rfl⟩ hc q
    rw [tnc] at q
    have b1 := hb j hj
    rw [w32_of (by omega), w32_of (by omega)]
    refine ⟨⟨j + 1, by omega, by omega, ?_⟩, by omega⟩
    rw [sm_s, if_neg q]
  · exact ⟨0, rfl, by omega, rfl⟩
theorem v221 {X : (Nat → Int) × Nat} {d : Nat} {s : mSt} {Q : mQ}
  (I4 : Int → Int → Prop) (m4 : Int → Int → Nat)
  (z1 : ∀ y1 : Int, ∀ y2 : Int, I4 y1 y2 → (s 417 4) ≤ y2 → Q (some (mI y1)) s)
  (z2 : ∀ y1 : Int, ∀ y2 : Int, I4 y1 y2 → ¬ (s 417 4) ≤ y2 → Ok (s 417))
  (z3 : ∀ y1 : Int, ∀ y2 : Int, I4 y1 y2 → ¬ (s 417 4) ≤ y2 → ((0 ≤ y2 ∧ y2 < s 417 4) ∧ s 417 (41 + y2.toNat) = 1) → I4 (iOr y1 (iShl 1 y2)) (w32 (y2 + 1)) ∧ m4 (iOr y1 (iShl 1 y2)) (w32 (y2 + 1)) < m4 y1 y2)
  (z4 : ∀ y1 : Int, ∀ y2 : Int, I4 y1 y2 → ¬ (s 417 4) ≤ y2 → (¬ ((0 ≤ y2 ∧ y2 < s 417 4) ∧ s 417 (41 + y2.toNat) = 1)) → I4 (iOr y1 0) (w32 (y2 + 1)) ∧ m4 (iOr y1 0) (w32 (y2 + 1)) < m4 y1 y2)
  (z5 : I4 0 0) :
  Sp X (d + 2) 221 [mR 407] s Q := by
  have L : ∀ k : Nat, (∀ (y1 : Int) (y2 : Int), I4 y1 y2 → m4 y1 y2 < k → Wp X (d + 2) 221 4 [some (mR 407), some (mI y1), some (mI y2)] [] s Q) := by
    intro k
    induction k with
    | zero => exact fun _ _ _ h => absurd h (Nat.not_lt_zero _)
    | succ k ih => exact fun y1 y2 hI hm => b221_4 (fun q1 => b221_38 (z1 y1 y2 hI q1)) (fun q2 => b221_14 (c215 (z2 y1 y2 hI q2) (fun q3 => ⟨1, rfl, b221_20 (fun q => absurd q (by decide)) (fun _ => b221_23 (b221_30 (ih (iOr y1 (iShl 1 y2)) (w32 (y2 + 1)) (z3 y1 y2 hI q2 q3).1 (Nat.lt_of_lt_of_le (z3 y1 y2 hI q2 q3).2 (Nat.le_of_lt_succ hm)))))⟩) (fun q4 => ⟨0, rfl, b221_20 (fun _ => b221_29 (b221_30 (ih (iOr y1 0) (w32 (y2 + 1)) (z4 y1 y2 hI q2 q4).1 (Nat.lt_of_lt_of_le (z4 y1 y2 hI q2 q4).2 (Nat.le_of_lt_succ hm))))) (fun q => absurd q (by decide))⟩)))
  exact e221 (b221_0 ((L (m4 0 0 + 1)) 0 0 z5 (Nat.lt_succ_self _)))

theorem c221 {X : (Nat → Int) × Nat} {d : Nat} {s : mSt} {Q : mQ} (p1 : Ok (s 417)) (k : Q (some (mI (wts (s 417)))) s) : Sp X (d + 2) 221 [mR 407] s Q := by
  have h3 := ncI p1
  have h5 := nc_le p1
  have hz : ∀ j : Nat, j ≤ 6 → 0 ≤ os (fun c => !pl (s 417) c) j ∧ os (fun c => !pl (s 417) c) j < 64 := fun j hj => by
    have h2 := os_lt (f := fun c => !pl (s 417) c) (n := j)
    have h3 : (2:Int) ^ j ≤ 2 ^ 6 := by
      have : (2:Nat) ^ j ≤ 2 ^ 6 := Nat.pow_le_pow_right (by decide) hj
      exact_mod_cast this
    omega
  refine v221 (fun y1 y2 => ∃ j : Nat, y2 = j ∧ j ≤ nc (s 417) ∧ y1 = os (fun c => !pl (s 417) c) j) (fun _ y => (6 - y).toNat) ?_ ?_ ?_ ?_ ?_
  · rintro _ _ ⟨j, rfl, hj, rfl⟩ hc
    have : j = nc (s 417) := by omega
    subst this
    exact k
  · rintro _ _ _ _; exact p1
  · rintro _ _ ⟨j, rfl, hj, rfl⟩ hc q
    rw [tnc] at q
    rw [w32_of (by omega), shl1 (by omega), or_os (by omega)]
    refine ⟨⟨j + 1, by omega, by omega, ?_⟩, by omega⟩
    rw [os_s, if_pos (by simp [pl, q.2])]
  · rintro _ _ ⟨j, rfl, hj, rfl⟩ hc q
    rw [tnc] at q
    have hw := okW p1 (p := j) (by omega)
    have b := hz j (by omega)
    rw [w32_of (by omega), or_0 (by unfold i3; omega)]
    refine ⟨⟨j + 1, by omega, by omega, ?_⟩, by omega⟩
    have e : s 417 (41 + j) = 0 := by
      rcases Int.lt_or_le (s 417 (41 + j)) 1 with z | z
      · omega
      · exact absurd ⟨⟨by omega, by omega⟩, by omega⟩ q
    rw [os_s, if_neg (by simp [pl, e]), Int.add_zero]
  · exact ⟨0, rfl, by omega, rfl⟩
theorem sIn_iff {a : Rw} {c t p : Nat} : sIn a c t p = true ↔ ss a c p = true ∧ bg a c p ≤ t ∧ (t : Int) < bg a c p + tm a c p := by simp [sIn]
theorem due_iff {a : Rw} {c t p : Nat} : due a c t p = true ↔ ss a c p = true ∧ a (6 + p) ≤ t ∧ (t : Int) < bg a c p := by simp [due]
theorem bf {b : Bool} (h : ¬ b = true) : b = false := by cases b <;> simp_all
theorem fd_sn {f : Nat → Bool} {n : Nat} (h : fd f n < 0) (h2 : ¬ f n = true) : fd f (n + 1) < 0 := by
  rw [fd_s, if_pos h, if_neg h2]; decide
theorem v222 {X : (Nat → Int) × Nat} {d : Nat} {s : mSt} {Q : mQ} {x1 : Int} {x2 : Int}
  (I2 : Int → Prop) (m2 : Int → Nat)
  (z1 : ∀ y3 : Int, I2 y3 → (s 417 3) ≤ y3 → Q (some (mI (-1))) s)
  (z2 : ∀ y3 : Int, I2 y3 → ¬ (s 417 3) ≤ y3 → (0 ≤ x1 ∧ x1 < 6) ∧ (0 ≤ y3 ∧ y3 < 5))
  (z3 : ∀ y3 : Int, I2 y3 → ¬ (s 417 3) ≤ y3 → ss (s 417) x1.toNat y3.toNat = true → (0 ≤ x1 ∧ x1 < 6) ∧ (0 ≤ y3 ∧ y3 < 5))
  (z4 : ∀ y3 : Int, I2 y3 → ¬ (s 417 3) ≤ y3 → ss (s 417) x1.toNat y3.toNat = true → Ok (s 417) ∧ (0 ≤ x1 ∧ x1 < 6) ∧ (0 ≤ y3 ∧ y3 < 5))
  (z5 : ∀ y3 : Int, I2 y3 → ¬ (s 417 3) ≤ y3 → ss (s 417) x1.toNat y3.toNat = true → ((bg (s 417) x1.toNat y3.toNat) ≤ x2 ∧ x2 ≤ (w32 ((w32 ((bg (s 417) x1.toNat y3.toNat) + (tm (s 417) x1.toNat y3.toNat))) - 1))) → Q (some (mI y3)) s)
  (z6 : ∀ y3 : Int, I2 y3 → ¬ (s 417 3) ≤ y3 → ss (s 417) x1.toNat y3.toNat = true → (¬ ((bg (s 417) x1.toNat y3.toNat) ≤ x2 ∧ x2 ≤ (w32 ((w32 ((bg (s 417) x1.toNat y3.toNat) + (tm (s 417) x1.toNat y3.toNat))) - 1)))) → I2 (w32 (y3 + 1)) ∧ m2 (w32 (y3 + 1)) < m2 y3)
  (z7 : ∀ y3 : Int, I2 y3 → ¬ (s 417 3) ≤ y3 → ¬ (ss (s 417) x1.toNat y3.toNat = true) → I2 (w32 (y3 + 1)) ∧ m2 (w32 (y3 + 1)) < m2 y3)
  (z8 : I2 0) :
  Sp X (d + 2) 222 [mR 407, mI x1, mI x2] s Q := by
  have L : ∀ k : Nat, (∀ (y3 : Int), I2 y3 → m2 y3 < k → Wp X (d + 2) 222 2 [some (mR 407), some (mI x1), some (mI x2), some (mI y3)] [] s Q) := by
    intro k
    induction k with
    | zero => exact fun _ _ h => absurd h (Nat.not_lt_zero _)
    | succ k ih => exact fun y3 hI hm => b222_2 (fun q1 => b222_60 (z1 y3 hI q1)) (fun q2 => b222_12 (c217 (z2 y3 hI q2) (fun q3 => ⟨1, rfl, b222_18 (fun q => absurd q (by decide)) (fun _ => b222_21 (c218 (z3 y3 hI q2 q3) ⟨_, rfl, b222_29 (c218 (z3 y3 hI q2 q3) ⟨_, rfl, b222_36 (c219 (z4 y3 hI q2 q3) ⟨_, rfl, b222_42 (c167  (fun q4 => ⟨1, rfl, b222_49 (fun q => absurd q (by decide)) (fun _ => b222_52 (z5 y3 hI q2 q3 q4))⟩) (fun q5 => ⟨0, rfl, b222_49 (fun _ => b222_54 (ih (w32 (y3 + 1)) (z6 y3 hI q2 q3 q5).1 (Nat.lt_of_lt_of_le (z6 y3 hI q2 q3 q5).2 (Nat.le_of_lt_succ hm)))) (fun q => absurd q (by decide))⟩))⟩)⟩)⟩))⟩) (fun q6 => ⟨0, rfl, b222_18 (fun _ => b222_54 (ih (w32 (y3 + 1)) (z7 y3 hI q2 q6).1 (Nat.lt_of_lt_of_le (z7 y3 hI q2 q6).2 (Nat.le_of_lt_succ hm)))) (fun q => absurd q (by decide))⟩)))
  exact e222 (b222_0 ((L (m2 0 + 1)) 0 z8 (Nat.lt_succ_self _)))

theorem c222 {X : (Nat → Int) × Nat} {d : Nat} {s : mSt} {Q : mQ} {x1 : Int} {x2 : Int} (p1 : Ok (s 417) ∧ (0 ≤ x1 ∧ x1 < 6) ∧ (0 ≤ x2 ∧ x2 < 30)) (k : Q (some (mI (fd (sIn (s 417) x1.toNat x2.toNat) (np (s 417))))) s) : Sp X (d + 2) 222 [mR 407, mI x1, mI x2] s Q := by
  obtain ⟨h, h1, h2⟩ := p1
  have h3 := npI h
  have h5 := np_le h
  obtain ⟨t, rfl⟩ := nat_of h2.1
  rw [tnc] at k
  have hw : ∀ j : Nat, j < np (s 417) → w32 (w32 (bg (s 417) x1.toNat j + tm (s 417) x1.toNat j) - 1) = bg (s 417) x1.toNat j + tm (s 417) x1.toNat j - 1 := fun j hj => by
    have b1 := okB h (c := x1.toNat) (p := j) (by omega) (by omega)
    have b2 := tm_bd h (c := x1.toNat) (p := j) (by omega) (by omega)
    rw [w32_of (x := bg (s 417) x1.toNat j + tm (s 417) x1.toNat j) (by omega), w32_of (by omega)]
  refine v222 (fun y3 => ∃ j : Nat, y3 = j ∧ j ≤ np (s 417) ∧ fd (sIn (s 417) x1.toNat t) j < 0) (fun y3 => (5 - y3).toNat) ?_ ?_ ?_ ?_ ?_ ?_ ?_ ?_
  · rintro _ ⟨j, rfl, hj, hn⟩ hc
    have : j = np (s 417) := by omega
    subst this
    have := fd_ge (f := sIn (s 417) x1.toNat t) (n := np (s 417))
    rw [show fd (sIn (s 417) x1.toNat t) (np (s 417)) = -1 by omega] at k
    exact k
  · rintro _ ⟨j, rfl, hj, hn⟩ hc
    omega
  · rintro _ ⟨j, rfl, hj, hn⟩ hc _
    omega
  · rintro _ ⟨j, rfl, hj, hn⟩ hc _
    exact ⟨h, h1, by omega⟩
  · rintro _ ⟨j, rfl, hj, hn⟩ hc q1 q2
    rw [tnc] at q1
    rw [tnc, hw j (by omega)] at q2
    have e := fd_eq (f := sIn (s 417) x1.toNat t) (n := np (s 417)) (k := j) (by omega) (sIn_iff.2 ⟨q1, by omega, by omega⟩) (fd_neg.1 hn)
    rw [e] at k
    exact k
  · rintro _ ⟨j, rfl, hj, hn⟩ hc q1 q2
    rw [tnc, hw j (by omega)] at q2
    rw [w32_of (by omega)]
    refine ⟨⟨j + 1, by omega, by omega, fd_sn hn (fun z => ?_)⟩, by omega⟩
    have := sIn_iff.1 z
    omega
  · rintro _ ⟨j, rfl, hj, hn⟩ hc q1
    rw [tnc] at q1
    rw [w32_of (by omega)]
    exact ⟨⟨j + 1, by omega, by omega, fd_sn hn (fun z => q1 (sIn_iff.1 z).1)⟩, by omega⟩
  · exact ⟨0, rfl, by omega, (show (-1:Int) < 0 by decide)⟩
theorem v223 {X : (Nat → Int) × Nat} {d : Nat} {s : mSt} {Q : mQ} {x1 : Int}
  (I19 : Int → Int → Prop) (m19 : Int → Int → Nat)
  (z1 : ∀ y2 : Int, ∀ y3 : Int, I19 y2 y3 → (s 417 4) ≤ y3 → 0 ≤ y2 → Q (some (mI y2)) s)
  (z2 : ∀ y2 : Int, ∀ y3 : Int, I19 y2 y3 → (s 417 4) ≤ y3 → ¬ 0 ≤ y2 → Q (some (mI 0)) s)
  (z3 : ∀ y2 : Int, ∀ y3 : Int, I19 y2 y3 → ¬ (s 417 4) ≤ y3 → Ok (s 417))
  (z4 : ∀ y2 : Int, ∀ y3 : Int, I19 y2 y3 → ¬ (s 417 4) ≤ y3 → ((0 ≤ y3 ∧ y3 < s 417 4) ∧ s 417 (41 + y3.toNat) = 0) → Ok (s 417) ∧ (0 ≤ y3 ∧ y3 < 6) ∧ (0 ≤ x1 ∧ x1 < 30))
  (z5 : ∀ y2 : Int, ∀ y3 : Int, I19 y2 y3 → ¬ (s 417 4) ≤ y3 → ((0 ≤ y3 ∧ y3 < s 417 4) ∧ s 417 (41 + y3.toNat) = 0) → (fd (sIn (s 417) y3.toNat x1.toNat) (np (s 417))) < 0 → I19 (w32 (y2 - 0)) (w32 (y3 + 1)) ∧ m19 (w32 (y2 - 0)) (w32 (y3 + 1)) < m19 y2 y3)
  (z6 : ∀ y2 : Int, ∀ y3 : Int, I19 y2 y3 → ¬ (s 417 4) ≤ y3 → ((0 ≤ y3 ∧ y3 < s 417 4) ∧ s 417 (41 + y3.toNat) = 0) → ¬ (fd (sIn (s 417) y3.toNat x1.toNat) (np (s 417))) < 0 → I19 (w32 (y2 - 1)) (w32 (y3 + 1)) ∧ m19 (w32 (y2 - 1)) (w32 (y3 + 1)) < m19 y2 y3)
  (z7 : ∀ y2 : Int, ∀ y3 : Int, I19 y2 y3 → ¬ (s 417 4) ≤ y3 → (¬ ((0 ≤ y3 ∧ y3 < s 417 4) ∧ s 417 (41 + y3.toNat) = 0)) → I19 (w32 (y2 - 0)) (w32 (y3 + 1)) ∧ m19 (w32 (y2 - 0)) (w32 (y3 + 1)) < m19 y2 y3)
  (z8 : 0 ≤ (w32 (11 + x1)) ∧ (w32 (11 + x1)) < 166)
  (z9 : I19 (w32 ((s 417 1) - (s 417 (w32 (11 + x1)).toNat))) 0) :
  Sp X (d + 3) 223 [mR 407, mI x1] s Q := by
  have L : ∀ k : Nat, (∀ (y2 : Int) (y3 : Int), I19 y2 y3 → m19 y2 y3 < k → Wp X (d + 3) 223 19 [some (mR 407), some (mI x1), some (mI y2), some (mI y3)] [] s Q) := by
    intro k
    induction k with
    | zero => exact fun _ _ _ h => absurd h (Nat.not_lt_zero _)
    | succ k ih => exact fun y2 y3 hI hm => b223_19 (fun q1 => b223_60 (fun q2 => b223_68 (b223_69 (z1 y2 y3 hI q1 q2))) (fun q3 => b223_64 (b223_69 (z2 y2 y3 hI q1 q3)))) (fun q4 => b223_29 (c216 (z3 y2 y3 hI q4) (fun q5 => ⟨1, rfl, b223_35 (fun q => absurd q (by decide)) (fun _ => b223_38 (c222 (z4 y2 y3 hI q4 q5) ⟨_, rfl, b223_44 (fun q6 => b223_51 (b223_52 (ih (w32 (y2 - 0)) (w32 (y3 + 1)) (z5 y2 y3 hI q4 q5 q6).1 (Nat.lt_of_lt_of_le (z5 y2 y3 hI q4 q5 q6).2 (Nat.le_of_lt_succ hm))))) (fun q7 => b223_47 (b223_52 (ih (w32 (y2 - 1)) (w32 (y3 + 1)) (z6 y2 y3 hI q4 q5 q7).1 (Nat.lt_of_lt_of_le (z6 y2 y3 hI q4 q5 q7).2 (Nat.le_of_lt_succ hm)))))⟩))⟩) (fun q8 => ⟨0, rfl, b223_35 (fun _ => b223_51 (b223_52 (ih (w32 (y2 - 0)) (w32 (y3 + 1)) (z7 y2 y3 hI q4 q8).1 (Nat.lt_of_lt_of_le (z7 y2 y3 hI q4 q8).2 (Nat.le_of_lt_succ hm))))) (fun q => absurd q (by decide))⟩)))
  exact e223 (b223_0 z8 ((L (m19 (w32 ((s 417 1) - (s 417 (w32 (11 + x1)).toNat))) 0 + 1)) (w32 ((s 417 1) - (s 417 (w32 (11 + x1)).toNat))) 0 z9 (Nat.lt_succ_self _)))

theorem c223 {X : (Nat → Int) × Nat} {d : Nat} {s : mSt} {Q : mQ} {x1 : Int} (p1 : Ok (s 417) ∧ (0 ≤ x1 ∧ x1 < 30)) (k : Q (some (mI (fre (s 417) x1.toNat))) s) : Sp X (d + 3) 223 [mR 407, mI x1] s Q := by
  obtain ⟨h, h2⟩ := p1
  have h3 := ncI h
  have h5 := nc_le h
  have b1 := ok1 h
  have b2 := okT h (p := x1.toNat) (by omega)
  have e : (w32 (11 + x1)).toNat = 11 + x1.toNat := wt (by omega) (by omega)
  have e2 : w32 (s 417 1 - s 417 (11 + x1.toNat)) = s 417 1 - s 417 (11 + x1.toNat) := w32_of (by omega)
  have hs : ∀ j : Nat, sat (s 417) j x1.toNat = true ↔ ¬ fd (sIn (s 417) j x1.toNat) (np (s 417)) < 0 := fun j => by
    unfold sat; rw [← fd_an]; omega
  refine v223 (fun y2 y3 => ∃ j : Nat, y3 = j ∧ j ≤ nc (s 417) ∧ y2 = s 417 1 - s 417 (11 + x1.toNat) - cn (fun c => pl (s 417) c && sat (s 417) c x1.toNat) j) (fun _ y3 => (6 - y3).toNat) ?_ ?_ ?_ ?_ ?_ ?_ ?_ ?_ ?_
  · rintro _ _ ⟨j, rfl, hj, rfl⟩ hc q
    have : j = nc (s 417) := by omega
    subst this
    unfold fre fr0 at k
    rw [if_neg (by omega)] at k
    exact k
  · rintro _ _ ⟨j, rfl, hj, rfl⟩ hc q
    have : j = nc (s 417) := by omega
    subst this
    unfold fre fr0 at k
    rw [if_pos (by omega)] at k
    exact k
  · rintro _ _ _ _; exact h
  · rintro _ _ ⟨j, rfl, hj, rfl⟩ hc q
    exact ⟨h, by omega, h2⟩
  · rintro _ _ ⟨j, rfl, hj, rfl⟩ hc q1 q2
    rw [tnc] at q2
    have b := cn_le (f := fun c => pl (s 417) c && sat (s 417) c x1.toNat) (n := j)
    rw [w32_of (by omega), w32_of (by omega)]
    refine ⟨⟨j + 1, by omega, by omega, ?_⟩, by omega⟩
    rw [cn_s, if_neg (by rw [Bool.and_eq_true, hs]; exact fun z => z.2 q2)]
    omega
  · rintro _ _ ⟨j, rfl, hj, rfl⟩ hc q1 q2
    rw [tnc] at q1 q2
    have b := cn_le (f := fun c => pl (s 417) c && sat (s 417) c x1.toNat) (n := j)
    rw [w32_of (by omega), w32_of (by omega)]
    refine ⟨⟨j + 1, by omega, by omega, ?_⟩, by omega⟩
    rw [cn_s, if_pos (by rw [Bool.and_eq_true, hs]; exact ⟨by simp [pl, q1.2], q2⟩)]
    omega
  · rintro _ _ ⟨j, rfl, hj, rfl⟩ hc q1
    rw [tnc] at q1
    have b := cn_le (f := fun c => pl (s 417) c && sat (s 417) c x1.toNat) (n := j)
    rw [w32_of (by omega), w32_of (by omega)]
    refine ⟨⟨j + 1, by omega, by omega, ?_⟩, by omega⟩
    have hp : ¬ pl (s 417) j = true := fun z => q1 ⟨by omega, by simpa [pl] using z⟩
    rw [cn_s, if_neg (by rw [Bool.and_eq_true]; exact fun z => hp z.1)]
    omega
  · rw [w32_of (by omega)]; omega
  · refine ⟨0, rfl, by omega, ?_⟩
    rw [e, e2]
    simp [cn]
theorem v224 {X : (Nat → Int) × Nat} {d : Nat} {s : mSt} {Q : mQ} {x1 : Int} {x2 : Int}
  (I13 : Int → Prop) (m13 : Int → Nat)
  (z1 : ∀ y3 : Int, I13 y3 → (s 417 3) ≤ y3 → Q (some (mI 0)) s)
  (z2 : ∀ y3 : Int, I13 y3 → ¬ (s 417 3) ≤ y3 → (0 ≤ x1 ∧ x1 < 6) ∧ (0 ≤ y3 ∧ y3 < 5))
  (z3 : ∀ y3 : Int, I13 y3 → ¬ (s 417 3) ≤ y3 → ss (s 417) x1.toNat y3.toNat = true → 0 ≤ (w32 (6 + y3)) ∧ (w32 (6 + y3)) < 166)
  (z4 : ∀ y3 : Int, I13 y3 → ¬ (s 417 3) ≤ y3 → ss (s 417) x1.toNat y3.toNat = true → x2 < (s 417 (w32 (6 + y3)).toNat) → I13 (w32 (y3 + 1)) ∧ m13 (w32 (y3 + 1)) < m13 y3)
  (z5 : ∀ y3 : Int, I13 y3 → ¬ (s 417 3) ≤ y3 → ss (s 417) x1.toNat y3.toNat = true → ¬ x2 < (s 417 (w32 (6 + y3)).toNat) → (0 ≤ x1 ∧ x1 < 6) ∧ (0 ≤ y3 ∧ y3 < 5))
  (z6 : ∀ y3 : Int, I13 y3 → ¬ (s 417 3) ≤ y3 → ss (s 417) x1.toNat y3.toNat = true → ¬ x2 < (s 417 (w32 (6 + y3)).toNat) → (bg (s 417) x1.toNat y3.toNat) ≤ x2 → I13 (w32 (y3 + 1)) ∧ m13 (w32 (y3 + 1)) < m13 y3)
  (z7 : ∀ y3 : Int, I13 y3 → ¬ (s 417 3) ≤ y3 → ss (s 417) x1.toNat y3.toNat = true → ¬ x2 < (s 417 (w32 (6 + y3)).toNat) → ¬ (bg (s 417) x1.toNat y3.toNat) ≤ x2 → Q (some (mI 1)) s)
  (z8 : ∀ y3 : Int, I13 y3 → ¬ (s 417 3) ≤ y3 → ¬ (ss (s 417) x1.toNat y3.toNat = true) → I13 (w32 (y3 + 1)) ∧ m13 (w32 (y3 + 1)) < m13 y3)
  (z9 : Ok (s 417) ∧ (0 ≤ x1 ∧ x1 < 6) ∧ (0 ≤ x2 ∧ x2 < 30))
  (z10 : (fd (sIn (s 417) x1.toNat x2.toNat) (np (s 417))) < 0 → I13 0)
  (z11 : ¬ (fd (sIn (s 417) x1.toNat x2.toNat) (np (s 417))) < 0 → Q (some (mI 0)) s) :
  Sp X (d + 3) 224 [mR 407, mI x1, mI x2] s Q := by
  have L : ∀ k : Nat, (∀ (y3 : Int), I13 y3 → m13 y3 < k → Wp X (d + 3) 224 13 [some (mR 407), some (mI x1), some (mI x2), some (mI y3)] [] s Q) := by
    intro k
    induction k with
    | zero => exact fun _ _ h => absurd h (Nat.not_lt_zero _)
    | succ k ih => exact fun y3 hI hm => b224_13 (fun q1 => b224_63 (z1 y3 hI q1)) (fun q2 => b224_23 (c217 (z2 y3 hI q2) (fun q3 => ⟨1, rfl, b224_29 (fun q => absurd q (by decide)) (fun _ => b224_32 (z3 y3 hI q2 q3) (fun q4 => b224_57 (ih (w32 (y3 + 1)) (z4 y3 hI q2 q3 q4).1 (Nat.lt_of_lt_of_le (z4 y3 hI q2 q3 q4).2 (Nat.le_of_lt_succ hm)))) (fun q5 => b224_45 (c218 (z5 y3 hI q2 q3 q5) ⟨_, rfl, b224_51 (fun q6 => b224_57 (ih (w32 (y3 + 1)) (z6 y3 hI q2 q3 q5 q6).1 (Nat.lt_of_lt_of_le (z6 y3 hI q2 q3 q5 q6).2 (Nat.le_of_lt_succ hm)))) (fun q7 => b224_55 (z7 y3 hI q2 q3 q5 q7))⟩)))⟩) (fun q8 => ⟨0, rfl, b224_29 (fun _ => b224_57 (ih (w32 (y3 + 1)) (z8 y3 hI q2 q8).1 (Nat.lt_of_lt_of_le (z8 y3 hI q2 q8).2 (Nat.le_of_lt_succ hm)))) (fun q => absurd q (by decide))⟩)))
  exact e224 (b224_0 (c222 z9 ⟨_, rfl, b224_6 (fun q9 => b224_11 ((L (m13 0 + 1)) 0 (z10 q9) (Nat.lt_succ_self _))) (fun q10 => b224_9 (z11 q10))⟩))

theorem c224 {X : (Nat → Int) × Nat} {d : Nat} {s : mSt} {Q : mQ} {x1 : Int} {x2 : Int} (p1 : Ok (s 417) ∧ (0 ≤ x1 ∧ x1 < 6) ∧ (0 ≤ x2 ∧ x2 < 30)) (k1 : (kpt (s 417) x1.toNat x2.toNat = true) → Q (some (mI 1)) s) (k0 : ¬ (kpt (s 417) x1.toNat x2.toNat = true) → Q (some (mI 0)) s) : Sp X (d + 3) 224 [mR 407, mI x1, mI x2] s Q := by
  obtain ⟨h, h1, h2⟩ := p1
  have h3 := npI h
  have h5 := np_le h
  obtain ⟨t, rfl⟩ := nat_of h2.1
  rw [tnc] at k1 k0
  have e : ∀ j : Nat, j < np (s 417) → (w32 (6 + (j : Int))).toNat = 6 + j := fun j hj => wt (by omega) (by omega)
  have hs : sat (s 417) x1.toNat t = true ↔ ¬ fd (sIn (s 417) x1.toNat t) (np (s 417)) < 0 := by
    unfold sat; rw [← fd_an]; omega
  refine v224 (fun y3 => ∃ j : Nat, y3 = j ∧ j ≤ np (s 417) ∧ an (due (s 417) x1.toNat t) j = false ∧ ¬ sat (s 417) x1.toNat t = true) (fun y3 => (5 - y3).toNat) ?_ ?_ ?_ ?_ ?_ ?_ ?_ ?_ ?_ ?_ ?_
  · rintro _ ⟨j, rfl, hj, hn, hs2⟩ hc
    have : j = np (s 417) := by omega
    subst this
    exact k0 (by simp [kpt, hn])
  · rintro _ ⟨j, rfl, hj, hn, hs2⟩ hc
    omega
  · rintro _ ⟨j, rfl, hj, hn, hs2⟩ hc q
    rw [w32_of (by omega)]; omega
  · rintro _ ⟨j, rfl, hj, hn, hs2⟩ hc q q2
    rw [e j (by omega)] at q2
    rw [w32_of (by omega)]
    refine ⟨⟨j + 1, by omega, by omega, ?_, hs2⟩, by omega⟩
    rw [an_s, hn, Bool.false_or]
    exact bf (fun z => by have := due_iff.1 z; omega)
  · rintro _ ⟨j, rfl, hj, hn, hs2⟩ hc q q2
    omega
  · rintro _ ⟨j, rfl, hj, hn, hs2⟩ hc q q2 q3
    rw [tnc] at q3
    rw [w32_of (by omega)]
    refine ⟨⟨j + 1, by omega, by omega, ?_, hs2⟩, by omega⟩
    rw [an_s, hn, Bool.false_or]
    exact bf (fun z => by have := due_iff.1 z; omega)
  · rintro _ ⟨j, rfl, hj, hn, hs2⟩ hc q q2 q3
    rw [tnc] at q q3
    rw [e j (by omega)] at q2
    refine k1 ?_
    unfold kpt
    rw [bf hs2, an_iff.2 ⟨j, by omega, due_iff.2 ⟨q, by omega, by omega⟩⟩]
    rfl
  · rintro _ ⟨j, rfl, hj, hn, hs2⟩ hc q
    rw [tnc] at q
    rw [w32_of (by omega)]
    refine ⟨⟨j + 1, by omega, by omega, ?_, hs2⟩, by omega⟩
    rw [an_s, hn, Bool.false_or]
    exact bf (fun z => q (due_iff.1 z).1)
  · exact ⟨h, h1, h2⟩
  · intro q
    rw [tnc] at q
    exact ⟨0, rfl, by omega, rfl, fun z => hs.1 z q⟩
  · intro q
    rw [tnc] at q
    exact k0 (by unfold kpt; rw [hs.2 q]; simp)
theorem v225 {X : (Nat → Int) × Nat} {d : Nat} {s : mSt} {Q : mQ} {x1 : Int}
  (I4 : Int → Int → Prop) (m4 : Int → Int → Nat)
  (z1 : ∀ y2 : Int, ∀ y3 : Int, I4 y2 y3 → 30 ≤ y3 → Q (some (mI y2)) s)
  (z2 : ∀ y2 : Int, ∀ y3 : Int, I4 y2 y3 → ¬ 30 ≤ y3 → Ok (s 417) ∧ (0 ≤ x1 ∧ x1 < 6) ∧ (0 ≤ y3 ∧ y3 < 30))
  (z3 : ∀ y2 : Int, ∀ y3 : Int, I4 y2 y3 → ¬ 30 ≤ y3 → kpt (s 417) x1.toNat y3.toNat = true → I4 (w32 (y2 + 1)) (w32 (y3 + 1)) ∧ m4 (w32 (y2 + 1)) (w32 (y3 + 1)) < m4 y2 y3)
  (z4 : ∀ y2 : Int, ∀ y3 : Int, I4 y2 y3 → ¬ 30 ≤ y3 → ¬ (kpt (s 417) x1.toNat y3.toNat = true) → I4 (w32 (y2 + 0)) (w32 (y3 + 1)) ∧ m4 (w32 (y2 + 0)) (w32 (y3 + 1)) < m4 y2 y3)
  (z5 : I4 0 0) :
  Sp X (d + 4) 225 [mR 407, mI x1] s Q := by
  have L : ∀ k : Nat, (∀ (y2 : Int) (y3 : Int), I4 y2 y3 → m4 y2 y3 < k → Wp X (d + 4) 225 4 [some (mR 407), some (mI x1), some (mI y2), some (mI y3)] [] s Q) := by
    intro k
    induction k with
    | zero => exact fun _ _ _ h => absurd h (Nat.not_lt_zero _)
    | succ k ih => exact fun y2 y3 hI hm => b225_4 (fun q1 => b225_33 (z1 y2 y3 hI q1)) (fun q2 => b225_10 (c224 (z2 y2 y3 hI q2) (fun q3 => ⟨1, rfl, b225_17 (fun q => absurd q (by decide)) (fun _ => b225_20 (b225_25 (ih (w32 (y2 + 1)) (w32 (y3 + 1)) (z3 y2 y3 hI q2 q3).1 (Nat.lt_of_lt_of_le (z3 y2 y3 hI q2 q3).2 (Nat.le_of_lt_succ hm)))))⟩) (fun q4 => ⟨0, rfl, b225_17 (fun _ => b225_24 (b225_25 (ih (w32 (y2 + 0)) (w32 (y3 + 1)) (z4 y2 y3 hI q2 q4).1 (Nat.lt_of_lt_of_le (z4 y2 y3 hI q2 q4).2 (Nat.le_of_lt_succ hm))))) (fun q => absurd q (by decide))⟩)))
  exact e225 (b225_0 ((L (m4 0 0 + 1)) 0 0 z5 (Nat.lt_succ_self _)))

theorem c225 {X : (Nat → Int) × Nat} {d : Nat} {s : mSt} {Q : mQ} {x1 : Int} (p1 : Ok (s 417) ∧ (0 ≤ x1 ∧ x1 < 6)) (k : Q (some (mI (kpo (s 417) x1.toNat))) s) : Sp X (d + 4) 225 [mR 407, mI x1] s Q := by
  obtain ⟨h, h1⟩ := p1
  refine v225 (fun y2 y3 => ∃ j : Nat, y3 = j ∧ j ≤ 30 ∧ y2 = cn (kpt (s 417) x1.toNat) j) (fun _ y3 => (30 - y3).toNat) ?_ ?_ ?_ ?_ ?_
  · rintro _ _ ⟨j, rfl, hj, rfl⟩ hc
    have : j = 30 := by omega
    subst this
    exact k
  · rintro _ _ ⟨j, rfl, hj, rfl⟩ hc
    exact ⟨h, h1, by omega⟩
  · rintro _ _ ⟨j, rfl, hj, rfl⟩ hc q
    rw [tnc] at q
    have b := cn_le (f := kpt (s 417) x1.toNat) (n := j)
    rw [w32_of (by omega), w32_of (by omega)]
    refine ⟨⟨j + 1, by omega, by omega, ?_⟩, by omega⟩
    rw [cn_s, if_pos q]
  · rintro _ _ ⟨j, rfl, hj, rfl⟩ hc q
    rw [tnc] at q
    have b := cn_le (f := kpt (s 417) x1.toNat) (n := j)
    rw [w32_of (by omega), w32_of (by omega)]
    refine ⟨⟨j + 1, by omega, by omega, ?_⟩, by omega⟩
    rw [cn_s, if_neg q]
  · exact ⟨0, rfl, by omega, rfl⟩
theorem v226 {X : (Nat → Int) × Nat} {d : Nat} {s : mSt} {Q : mQ}
  (I4 : Int → Int → Prop) (m4 : Int → Int → Nat)
  (z1 : ∀ y1 : Int, ∀ y2 : Int, I4 y1 y2 → (s 417 4) ≤ y2 → Q (some (mI y1)) s)
  (z2 : ∀ y1 : Int, ∀ y2 : Int, I4 y1 y2 → ¬ (s 417 4) ≤ y2 → Ok (s 417))
  (z3 : ∀ y1 : Int, ∀ y2 : Int, I4 y1 y2 → ¬ (s 417 4) ≤ y2 → ((0 ≤ y2 ∧ y2 < s 417 4) ∧ s 417 (41 + y2.toNat) = 0) → Ok (s 417) ∧ (0 ≤ y2 ∧ y2 < 6))
  (z4 : ∀ y1 : Int, ∀ y2 : Int, I4 y1 y2 → ¬ (s 417 4) ≤ y2 → ((0 ≤ y2 ∧ y2 < s 417 4) ∧ s 417 (41 + y2.toNat) = 0) → I4 (w32 (y1 + (kpo (s 417) y2.toNat))) (w32 (y2 + 1)) ∧ m4 (w32 (y1 + (kpo (s 417) y2.toNat))) (w32 (y2 + 1)) < m4 y1 y2)
  (z5 : ∀ y1 : Int, ∀ y2 : Int, I4 y1 y2 → ¬ (s 417 4) ≤ y2 → (¬ ((0 ≤ y2 ∧ y2 < s 417 4) ∧ s 417 (41 + y2.toNat) = 0)) → I4 (w32 (y1 + 0)) (w32 (y2 + 1)) ∧ m4 (w32 (y1 + 0)) (w32 (y2 + 1)) < m4 y1 y2)
  (z6 : I4 0 0) :
  Sp X (d + 5) 226 [mR 407] s Q := by
  have L : ∀ k : Nat, (∀ (y1 : Int) (y2 : Int), I4 y1 y2 → m4 y1 y2 < k → Wp X (d + 5) 226 4 [some (mR 407), some (mI y1), some (mI y2)] [] s Q) := by
    intro k
    induction k with
    | zero => exact fun _ _ _ h => absurd h (Nat.not_lt_zero _)
    | succ k ih => exact fun y1 y2 hI hm => b226_4 (fun q1 => b226_40 (z1 y1 y2 hI q1)) (fun q2 => b226_14 (c216 (z2 y1 y2 hI q2) (fun q3 => ⟨1, rfl, b226_20 (fun q => absurd q (by decide)) (fun _ => b226_23 (c225 (z3 y1 y2 hI q2 q3) ⟨_, rfl, b226_28 (b226_32 (ih (w32 (y1 + (kpo (s 417) y2.toNat))) (w32 (y2 + 1)) (z4 y1 y2 hI q2 q3).1 (Nat.lt_of_lt_of_le (z4 y1 y2 hI q2 q3).2 (Nat.le_of_lt_succ hm))))⟩))⟩) (fun q4 => ⟨0, rfl, b226_20 (fun _ => b226_31 (b226_32 (ih (w32 (y1 + 0)) (w32 (y2 + 1)) (z5 y1 y2 hI q2 q4).1 (Nat.lt_of_lt_of_le (z5 y1 y2 hI q2 q4).2 (Nat.le_of_lt_succ hm))))) (fun q => absurd q (by decide))⟩)))
  exact e226 (b226_0 ((L (m4 0 0 + 1)) 0 0 z6 (Nat.lt_succ_self _)))

theorem c226 {X : (Nat → Int) × Nat} {d : Nat} {s : mSt} {Q : mQ} (p1 : Ok (s 417)) (k : Q (some (mI (kpa (s 417)))) s) : Sp X (d + 5) 226 [mR 407] s Q := by
  have h3 := ncI p1
  have h5 := nc_le p1
  have hb : ∀ j : Nat, j ≤ 6 → 0 ≤ sm (fun c => if pl (s 417) c = true then kpo (s 417) c else 0) j ∧ sm (fun c => if pl (s 417) c = true then kpo (s 417) c else 0) j ≤ 180 := fun j hj => by
    have := sm_bd (f := fun c => if pl (s 417) c = true then kpo (s 417) c else 0) (b := 30) (n := j) (fun i hi => by
      have := kpo_bd (a := s 417) (c := i)
      try dsimp only
      split <;> omega)
    omega
  refine v226 (fun y1 y2 => ∃ j : Nat, y2 = j ∧ j ≤ nc (s 417) ∧ y1 = sm (fun c => if pl (s 417) c = true then kpo (s 417) c else 0) j) (fun _ y => (6 - y).toNat) ?_ ?_ ?_ ?_ ?_ ?_
  · rintro _ _ ⟨j, rfl, hj, rfl⟩ hc
    have : j = nc (s 417) := by omega
    subst this
    exact k
  · rintro _ _ _ _; exact p1
  · rintro _ _ ⟨j, rfl, hj, rfl⟩ hc _
    exact ⟨p1, by omega⟩
  · rintro _ _ ⟨j, rfl, hj, rfl⟩ hc q
    rw [tnc] at q ⊢
    have b := hb j (by omega)
    have b2 := kpo_bd (a := s 417) (c := j)
    rw [w32_of (by omega), w32_of (by omega)]
    refine ⟨⟨j + 1, by omega, by omega, ?_⟩, by omega⟩
    rw [sm_s, if_pos (by simp [pl, q.2])]
  · rintro _ _ ⟨j, rfl, hj, rfl⟩ hc q
    rw [tnc] at q
    have b := hb j (by omega)
    rw [w32_of (by omega), w32_of (by omega)]
    refine ⟨⟨j + 1, by omega, by omega, ?_⟩, by omega⟩
    rw [sm_s, if_neg (fun z => q ⟨by omega, by simpa [pl] using z⟩)]
  · exact ⟨0, rfl, by omega, rfl⟩
