/-! count; notes -/
def cnV (a : Rw) (n4 n5 n9 n10 n11 n12 x : Int) : Int := if x = 0 then a 1 else if x = 1 then a 2 else if x = 2 then a 3 else if x = 3 then a 4 else if x = 4 then n4 else if x = 5 then n5 else if x = 6 then a 5 else if x = 7 then wts a else if x = 8 then kpa a else if x = 9 then n9 else if x = 10 then n10 else if x = 11 then n11 else if x = 12 then n12 else -1
theorem v160 {X : (Nat → Int) × Nat} {d : Nat} {s : mSt} {Q : mQ} {x1 : Int}
  (z1 : x1 = 0 → Q (some (mI (s 18 0))) s)
  (z2 : x1 = 1 → Q (some (mI (s 18 1))) s)
  (z3 : x1 = 2 → Q (some (mI (s 18 2))) s)
  (z4 : x1 = 3 → Q (some (mI (s 18 3))) s)
  (z5 : x1 = 4 → Q (some (mI (s 0 4))) s)
  (z6 : x1 = 5 → Q (some (mI (s 7 3))) s)
  (z7 : x1 = 6 → Q (some (mI (s 18 4))) s)
  (z8 : x1 = 7 → BI s 18)
  (z9 : x1 = 7 → Q (some (mI (wts (brow s 18)))) s)
  (z10 : x1 = 8 → BI s 18)
  (z11 : x1 = 8 → Q (some (mI (kpa (brow s 18)))) s)
  (z12 : x1 = 9 → Q (some (mI (s 28 0))) s)
  (z13 : x1 = 10 → Q (some (mI (s 0 8))) s)
  (z14 : x1 = 11 → Q (some (mI (s 7 4))) s)
  (z15 : x1 = 12 → Q (some (mI (s 1 1))) s)
  (z16 : ¬ x1 = 0 → ¬ x1 = 1 → ¬ x1 = 2 → ¬ x1 = 3 → ¬ x1 = 4 → ¬ x1 = 5 → ¬ x1 = 6 → ¬ x1 = 7 → ¬ x1 = 8 → ¬ x1 = 9 → ¬ x1 = 10 → ¬ x1 = 11 → ¬ x1 = 12 → Q (some (mI (-1))) s) :
  Sp X (d + 3) 160 [mR 0, mI x1] s Q := e160 (b160_0 (fun q1 => b160_76 (z1 q1)) (fun q2 => b160_81 (z2 q2)) (fun q3 => b160_86 (z3 q3)) (fun q4 => b160_91 (z4 q4)) (fun q5 => b160_96 (z5 q5)) (fun q6 => b160_101 (z6 q6)) (fun q7 => b160_109 (z7 q7)) (fun q8 => b160_114 (c11 (bdm rfl) (z8 q8) ⟨_, rfl, b160_118 (z9 q8)⟩)) (fun q9 => b160_119 (c22 (bdm rfl) (z10 q9) ⟨_, rfl, b160_123 (z11 q9)⟩)) (fun q10 => b160_124 (z12 q10)) (fun q11 => b160_135 (z13 q11)) (fun q12 => b160_140 (z14 q12)) (fun q13 => b160_148 (z15 q13)) (fun q14 q15 q16 q17 q18 q19 q20 q21 q22 q23 q24 q25 q26 => b160_156 (z16 q14 q15 q16 q17 q18 q19 q20 q21 q22 q23 q24 q25 q26)))

theorem c160 {X : (Nat → Int) × Nat} {d : Nat} {s : mSt} {Q : mQ} {x1 : Int} (p1 : BI s 18) (k : Q (some (mI (cnV (brow s 18) (s 0 4) (s 7 3) (s 28 0) (s 0 8) (s 7 4) (s 1 1) x1))) s) : Sp X (d + 3) 160 [mR 0, mI x1] s Q := by
  have e1 := bi1 (s := s) (k := 18)
  have e2 := bi2 p1
  have e3 := bi3 p1
  have e4 := bi4 p1
  have e5 := bi5 p1
  unfold cnV at k
  rw [← e1, ← e2, ← e3, ← e4, ← e5] at k
  refine v160 ?_ ?_ ?_ ?_ ?_ ?_ ?_ (fun _ => p1) ?_ (fun _ => p1) ?_ ?_ ?_ ?_ ?_ ?_
  all_goals (first | (intro q; subst q; simpa using k) | skip)
  intro q0 q1 q2 q3 q4 q5 q6 q7 q8 q9 q10 q11 q12
  rw [if_neg q0, if_neg q1, if_neg q2, if_neg q3, if_neg q4, if_neg q5, if_neg q6, if_neg q7, if_neg q8, if_neg q9, if_neg q10, if_neg q11, if_neg q12] at k
  exact k
theorem v306 {X : (Nat → Int) × Nat} {d : Nat} {s : mSt} {Q : mQ} {x1 : Int}
  (z1 : x1 = 0 → 0 ≤ (w32 (x1 + 1)) ∧ (w32 (x1 + 1)) < 166)
  (z2 : x1 = 0 → Q (some (mI (s 417 (w32 (x1 + 1)).toNat))) s)
  (z3 : x1 = 1 → 0 ≤ (w32 (x1 + 1)) ∧ (w32 (x1 + 1)) < 166)
  (z4 : x1 = 1 → Q (some (mI (s 417 (w32 (x1 + 1)).toNat))) s)
  (z5 : x1 = 2 → 0 ≤ (w32 (x1 + 1)) ∧ (w32 (x1 + 1)) < 166)
  (z6 : x1 = 2 → Q (some (mI (s 417 (w32 (x1 + 1)).toNat))) s)
  (z7 : x1 = 3 → 0 ≤ (w32 (x1 + 1)) ∧ (w32 (x1 + 1)) < 166)
  (z8 : x1 = 3 → Q (some (mI (s 417 (w32 (x1 + 1)).toNat))) s)
  (z9 : x1 = 4 → Q (some (mI (s 407 2))) s)
  (z10 : x1 = 5 → Q (some (mI (s 407 21))) s)
  (z11 : x1 = 6 → Q (some (mI (s 417 5))) s)
  (z12 : x1 = 7 → Ok (s 417))
  (z13 : x1 = 7 → Q (some (mI (wts (s 417)))) s)
  (z14 : x1 = 8 → Ok (s 417))
  (z15 : x1 = 8 → Q (some (mI (kpa (s 417)))) s)
  (z16 : x1 = 9 → Q (some (mI (s 417 165))) s)
  (z17 : x1 = 10 → Q (some (mI (s 407 37))) s)
  (z18 : x1 = 11 → Q (some (mI (s 407 22))) s)
  (z19 : x1 = 12 → Q (some (mI (s 407 1))) s)
  (z20 : ¬ x1 = 0 → ¬ x1 = 1 → ¬ x1 = 2 → ¬ x1 = 3 → ¬ x1 = 4 → ¬ x1 = 5 → ¬ x1 = 6 → ¬ x1 = 7 → ¬ x1 = 8 → ¬ x1 = 9 → ¬ x1 = 10 → ¬ x1 = 11 → ¬ x1 = 12 → Q (some (mI (-1))) s) :
  Sp X (d + 6) 306 [mR 407, mI x1] s Q := e306 (b306_0 (fun q1 => b306_68 (z1 q1) (z2 q1)) (fun q2 => b306_68 (z3 q2) (z4 q2)) (fun q3 => b306_68 (z5 q3) (z6 q3)) (fun q4 => b306_68 (z7 q4) (z8 q4)) (fun q5 => b306_77 (z9 q5)) (fun q6 => b306_82 (z10 q6)) (fun q7 => b306_87 (z11 q7)) (fun q8 => b306_94 (c221 (z12 q8) ⟨_, rfl, b306_98 (z13 q8)⟩)) (fun q9 => b306_99 (c226 (z14 q9) ⟨_, rfl, b306_103 (z15 q9)⟩)) (fun q10 => b306_104 (z16 q10)) (fun q11 => b306_113 (z17 q11)) (fun q12 => b306_118 (z18 q12)) (fun q13 => b306_123 (z19 q13)) (fun q14 q15 q16 q17 q18 q19 q20 q21 q22 q23 q24 q25 q26 => b306_128 (z20 q14 q15 q16 q17 q18 q19 q20 q21 q22 q23 q24 q25 q26)))

theorem c306 {X : (Nat → Int) × Nat} {d : Nat} {s : mSt} {Q : mQ} {x1 : Int} (p1 : Ok (s 417)) (k : Q (some (mI (cnV (s 417) (s 407 2) (s 407 21) (s 417 165) (s 407 37) (s 407 22) (s 407 1) x1))) s) : Sp X (d + 6) 306 [mR 407, mI x1] s Q := by
  unfold cnV at k
  have w0 : (w32 ((0 : Int) + 1)).toNat = 1 := by decide
  have w1 : (w32 ((1 : Int) + 1)).toNat = 2 := by decide
  have w2 : (w32 ((2 : Int) + 1)).toNat = 3 := by decide
  have w3 : (w32 ((3 : Int) + 1)).toNat = 4 := by decide
  refine v306 (fun q => by rw [w32_of (by omega)]; omega) ?_ (fun q => by rw [w32_of (by omega)]; omega) ?_ (fun q => by rw [w32_of (by omega)]; omega) ?_ (fun q => by rw [w32_of (by omega)]; omega) ?_ ?_ ?_ ?_ (fun _ => p1) ?_ (fun _ => p1) ?_ ?_ ?_ ?_ ?_ ?_
  · intro q; subst q; rw [w0]; simpa using k
  · intro q; subst q; rw [w1]; simpa using k
  · intro q; subst q; rw [w2]; simpa using k
  · intro q; subst q; rw [w3]; simpa using k
  all_goals (first | (intro q; subst q; simpa using k) | skip)
  intro q0 q1 q2 q3 q4 q5 q6 q7 q8 q9 q10 q11 q12
  rw [if_neg q0, if_neg q1, if_neg q2, if_neg q3, if_neg q4, if_neg q5, if_neg q6, if_neg q7, if_neg q8, if_neg q9, if_neg q10, if_neg q11, if_neg q12] at k
  exact k
theorem v54 {X : (Nat → Int) × Nat} {d : Nat} {s : mSt} {Q : mQ} {a0 : Nat} (h0 : isNt a0)
  (z1 : (s a0 0) < 10 → Q (some (mI 0)) s)
  (z2 : ¬ (s a0 0) < 10 → Q (some (mI 1)) s) :
  Sp X d 54 [mR a0] s Q := e54 (b54_0 h0 (fun q1 => b54_13 h0 (b54_14 h0 (z1 q1) (Or.inl rfl))) (fun q2 => b54_9 h0 (b54_14 h0 (z2 q2) (Or.inr rfl))))

theorem c54 {X : (Nat → Int) × Nat} {d : Nat} {s : mSt} {Q : mQ} {a0 : Nat} (h0 : isNt a0) (k1 : (10 ≤ s a0 0) → Q (some (mI 1)) s) (k0 : ¬ (10 ≤ s a0 0) → Q (some (mI 0)) s) : Sp X d 54 [mR a0] s Q := by
  exact v54 h0 (fun q => k0 (by omega)) (fun q => k1 (by omega))
