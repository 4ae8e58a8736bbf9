/-! comparisons: the reference -/
def cpR (s : mSt) (L : List Int) : Int × Nat × Int × List Int := cpF (TR s) (nR s) (skR s) (s 407 12) L
theorem v190 {X : (Nat → Int) × Nat} {d : Nat} {s : mSt} {Q : mQ}
  (I44 : Int → Int → mSt → Prop) (m44 : Int → Int → mSt → Nat)
  (I90 : Int → Int → Int → mSt → Prop) (m90 : Int → Int → Int → mSt → Nat)
  (I105 : Int → Int → Int → mSt → Prop) (m105 : Int → Int → Int → mSt → Nat)
  (I152 : Int → Int → Int → Int → mSt → Prop) (m152 : Int → Int → Int → Int → mSt → Nat)
  (z1 : ∀ y1 : Int, ∀ y2 : Int, ∀ s : mSt, I44 y1 y2 s → y1 = 61 → ∀ t2 : mSt, t2 = uS s 407 8 (w32 ((s 407 8) + 1)) → I90 y1 y2 0 t2 ∧ m90 y1 y2 0 t2 < m44 y1 y2 s)
  (z2 : ∀ y1 : Int, ∀ y2 : Int, ∀ s : mSt, I44 y1 y2 s → ¬ y1 = 61 → ∀ t4 : mSt, t4 = uS s 407 8 (w32 ((s 407 8) + 1)) → (t4 407 1) ≤ (t4 407 8) → I90 y1 y2 0 t4 ∧ m90 y1 y2 0 t4 < m44 y1 y2 s)
  (z3 : ∀ y1 : Int, ∀ y2 : Int, ∀ s : mSt, I44 y1 y2 s → ¬ y1 = 61 → ∀ t4 : mSt, t4 = uS s 407 8 (w32 ((s 407 8) + 1)) → ¬ (t4 407 1) ≤ (t4 407 8) → 0 ≤ (t4 407 8) ∧ (t4 407 8) < 400)
  (z4 : ∀ y1 : Int, ∀ y2 : Int, ∀ s : mSt, I44 y1 y2 s → ¬ y1 = 61 → ∀ t4 : mSt, t4 = uS s 407 8 (w32 ((s 407 8) + 1)) → ¬ (t4 407 1) ≤ (t4 407 8) → ¬ (t4 408 (t4 407 8).toNat) = 61 → I90 y1 y2 0 t4 ∧ m90 y1 y2 0 t4 < m44 y1 y2 s)
  (z5 : ∀ y1 : Int, ∀ y2 : Int, ∀ s : mSt, I44 y1 y2 s → ¬ y1 = 61 → ∀ t4 : mSt, t4 = uS s 407 8 (w32 ((s 407 8) + 1)) → ¬ (t4 407 1) ≤ (t4 407 8) → (t4 408 (t4 407 8).toNat) = 61 → I90 y1 y2 1 t4 ∧ m90 y1 y2 1 t4 < m44 y1 y2 s)
  (z6 : ∀ y1 : Int, ∀ y2 : Int, ∀ w0 : Int, ∀ s : mSt, I90 y1 y2 w0 s → w0 = 0 → I105 y1 y2 w0 s ∧ m105 y1 y2 w0 s < m90 y1 y2 w0 s)
  (z7 : ∀ y1 : Int, ∀ y2 : Int, ∀ w0 : Int, ∀ s : mSt, I90 y1 y2 w0 s → ¬ w0 = 0 → I105 y1 y2 w0 (uS s 407 8 (w32 ((s 407 8) + 1))) ∧ m105 y1 y2 w0 (uS s 407 8 (w32 ((s 407 8) + 1))) < m90 y1 y2 w0 s)
  (z8 : ∀ y1 : Int, ∀ y2 : Int, ∀ y3 : Int, ∀ s : mSt, I105 y1 y2 y3 s → s 407 9 = 0 ∧ (0 ≤ y2 ∧ y2 ≤ 400) ∧ (0 ≤ s 407 12 ∧ s 407 12 ≤ 60))
  (z9 : ∀ y1 : Int, ∀ y2 : Int, ∀ y3 : Int, ∀ s : mSt, I105 y1 y2 y3 s → ∀ s11 : mSt, (s 407 12 < 60 ∧ s11 = uS s 407 12 (s 407 12 + 1)) → ¬ y1 = 60 → ¬ y1 = 61 → y3 = 0 → I152 y1 y2 y3 4 s11 ∧ m152 y1 y2 y3 4 s11 < m105 y1 y2 y3 s)
  (z10 : ∀ y1 : Int, ∀ y2 : Int, ∀ y3 : Int, ∀ s : mSt, I105 y1 y2 y3 s → ∀ s11 : mSt, (s 407 12 < 60 ∧ s11 = uS s 407 12 (s 407 12 + 1)) → ¬ y1 = 60 → ¬ y1 = 61 → ¬ y3 = 0 → I152 y1 y2 y3 3 s11 ∧ m152 y1 y2 y3 3 s11 < m105 y1 y2 y3 s)
  (z11 : ∀ y1 : Int, ∀ y2 : Int, ∀ y3 : Int, ∀ s : mSt, I105 y1 y2 y3 s → ∀ s11 : mSt, (s 407 12 < 60 ∧ s11 = uS s 407 12 (s 407 12 + 1)) → ¬ y1 = 60 → y1 = 61 → I152 y1 y2 y3 2 s11 ∧ m152 y1 y2 y3 2 s11 < m105 y1 y2 y3 s)
  (z12 : ∀ y1 : Int, ∀ y2 : Int, ∀ y3 : Int, ∀ s : mSt, I105 y1 y2 y3 s → ∀ s11 : mSt, (s 407 12 < 60 ∧ s11 = uS s 407 12 (s 407 12 + 1)) → y1 = 60 → y3 = 0 → I152 y1 y2 y3 0 s11 ∧ m152 y1 y2 y3 0 s11 < m105 y1 y2 y3 s)
  (z13 : ∀ y1 : Int, ∀ y2 : Int, ∀ y3 : Int, ∀ s : mSt, I105 y1 y2 y3 s → ∀ s11 : mSt, (s 407 12 < 60 ∧ s11 = uS s 407 12 (s 407 12 + 1)) → y1 = 60 → ¬ y3 = 0 → I152 y1 y2 y3 1 s11 ∧ m152 y1 y2 y3 1 s11 < m105 y1 y2 y3 s)
  (z14 : ∀ y1 : Int, ∀ y2 : Int, ∀ y3 : Int, ∀ s : mSt, I105 y1 y2 y3 s → ∀ s20 : mSt, (¬ s 407 12 < 60 ∧ s20 = uS s 407 9 (1 + 8 * y2 + 3)) → Q (some (mI 0)) s20)
  (z15 : ∀ y1 : Int, ∀ y2 : Int, ∀ y3 : Int, ∀ w0 : Int, ∀ s : mSt, I152 y1 y2 y3 w0 s → RHq s ∧ lnR s ≤ (skR s : Int) ∧ ∃ L, SGq s L)
  (z16 : ∀ y1 : Int, ∀ y2 : Int, ∀ y3 : Int, ∀ w0 : Int, ∀ s : mSt, I152 y1 y2 y3 w0 s → ∀ s21 : mSt, (TZq s s21 ∧ ∀ L, SGq s L → TM1 s s21 (smR s L)) → (0 ≤ s21 407 11 ∧ s21 407 11 < 6) ∧ (0 ≤ lnR s21 ∧ lnR s21 < 400) ∧ (0 ≤ (w32 (6 + w0)) ∧ (w32 (6 + w0)) ≤ 15) ∧ (0 ≤ (0 : Int) ∧ (0 : Int) ≤ 99999))
  (z17 : ∀ y1 : Int, ∀ y2 : Int, ∀ y3 : Int, ∀ w0 : Int, ∀ s : mSt, I152 y1 y2 y3 w0 s → ∀ s21 : mSt, (TZq s s21 ∧ ∀ L, SGq s L → TM1 s s21 (smR s L)) → ∀ s22 : mSt, s22 = uS (uS s21 409 (400 * txR s21 + (lnR s21).toNat) ((w32 (6 + w0)) + 16 * (0 : Int))) 410 (txR s21) (lnR s21 + 1) → Q (some (mI 1)) s22)
  (z18 : ∀ y1 : Int, ∀ y2 : Int, ∀ y3 : Int, ∀ w0 : Int, ∀ s : mSt, I152 y1 y2 y3 w0 s → ∀ s23 : mSt, (∀ L, SGq s L → RZ0 s s23 (smR s L).1) → Q (some (mI 0)) s23)
  (z19 : RHq s ∧ lnR s ≤ (skR s : Int) ∧ ∃ L, SGq s L)
  (z20 : ∀ s24 : mSt, (TZq s s24 ∧ ∀ L, SGq s L → TM1 s s24 (smR s L)) → TRq s24)
  (z21 : ∀ s24 : mSt, (TZq s s24 ∧ ∀ L, SGq s L → TM1 s s24 (smR s L)) → ∀ v25 : Int, ∀ s25 : mSt, (v25 = (if nR s24 ≤ skR s24 then -1 else TR s24 (skR s24)) ∧ s25 = uS s24 407 8 (skR s24 : Int)) → v25 = 60 → I44 v25 (s25 407 8) s25)
  (z22 : ∀ s24 : mSt, (TZq s s24 ∧ ∀ L, SGq s L → TM1 s s24 (smR s L)) → ∀ v25 : Int, ∀ s25 : mSt, (v25 = (if nR s24 ≤ skR s24 then -1 else TR s24 (skR s24)) ∧ s25 = uS s24 407 8 (skR s24 : Int)) → ¬ v25 = 60 → v25 = 61 → I44 v25 (s25 407 8) s25)
  (z23 : ∀ s24 : mSt, (TZq s s24 ∧ ∀ L, SGq s L → TM1 s s24 (smR s L)) → ∀ v25 : Int, ∀ s25 : mSt, (v25 = (if nR s24 ≤ skR s24 then -1 else TR s24 (skR s24)) ∧ s25 = uS s24 407 8 (skR s24 : Int)) → ¬ v25 = 60 → ¬ v25 = 61 → v25 = 62 → I44 v25 (s25 407 8) s25)
  (z24 : ∀ s24 : mSt, (TZq s s24 ∧ ∀ L, SGq s L → TM1 s s24 (smR s L)) → ∀ v25 : Int, ∀ s25 : mSt, (v25 = (if nR s24 ≤ skR s24 then -1 else TR s24 (skR s24)) ∧ s25 = uS s24 407 8 (skR s24 : Int)) → ¬ v25 = 60 → ¬ v25 = 61 → ¬ v25 = 62 → (0 ≤ (0 : Int) ∧ (0 : Int) ≤ 4) ∧ (0 ≤ (s25 407 8) ∧ (s25 407 8) ≤ 400))
  (z25 : ∀ s24 : mSt, (TZq s s24 ∧ ∀ L, SGq s L → TM1 s s24 (smR s L)) → ∀ v25 : Int, ∀ s25 : mSt, (v25 = (if nR s24 ≤ skR s24 then -1 else TR s24 (skR s24)) ∧ s25 = uS s24 407 8 (skR s24 : Int)) → ¬ v25 = 60 → ¬ v25 = 61 → ¬ v25 = 62 → ∀ v32 : Int, ∀ s32 : mSt, (v32 = 0 ∧ s32 = flR s25 (0 : Int) (s25 407 8)) → Q (some (mI v32)) s32)
  (z26 : ∀ s24 : mSt, (TZq s s24 ∧ ∀ L, SGq s L → TM1 s s24 (smR s L)) → ∀ v25 : Int, ∀ s25 : mSt, (v25 = (if nR s24 ≤ skR s24 then -1 else TR s24 (skR s24)) ∧ s25 = uS s24 407 8 (skR s24 : Int)) → ¬ v25 = 60 → ¬ v25 = 61 → ¬ v25 = 62 → ∀ v32 : Int, ∀ s32 : mSt, (v32 = 0 ∧ s32 = flR s25 (0 : Int) (s25 407 8)) → v32 = 0 ∨ v32 = 1)
  (z27 : ∀ s33 : mSt, (∀ L, SGq s L → RZ0 s s33 (smR s L).1) → Q (some (mI 0)) s33) :
  Sp X (d + 6) 190 [mR 407] s Q := by
  have L : ∀ k : Nat, (∀ (y1 : Int) (y2 : Int) (l3 : Option mV) (l4 : Option mV) (s : mSt), I44 y1 y2 s → m44 y1 y2 s < k → Wp X (d + 6) 190 44 [some (mR 407), some (mI y1), some (mI y2), l3, l4] [] s Q) ∧ (∀ (y1 : Int) (y2 : Int) (l3 : Option mV) (l4 : Option mV) (w0 : Int) (s : mSt), I90 y1 y2 w0 s → m90 y1 y2 w0 s < k → Wp X (d + 6) 190 90 [some (mR 407), some (mI y1), some (mI y2), l3, l4] [mI w0] s Q) ∧ (∀ (y1 : Int) (y2 : Int) (y3 : Int) (l4 : Option mV) (s : mSt), I105 y1 y2 y3 s → m105 y1 y2 y3 s < k → Wp X (d + 6) 190 105 [some (mR 407), some (mI y1), some (mI y2), some (mI y3), l4] [] s Q) ∧ (∀ (y1 : Int) (y2 : Int) (y3 : Int) (l4 : Option mV) (w0 : Int) (s : mSt), I152 y1 y2 y3 w0 s → m152 y1 y2 y3 w0 s < k → Wp X (d + 6) 190 152 [some (mR 407), some (mI y1), some (mI y2), some (mI y3), l4] [mI w0] s Q) := by
    intro k
    induction k with
    | zero => exact ⟨fun _ _ _ _ _ _ h => absurd h (Nat.not_lt_zero _), fun _ _ _ _ _ _ _ h => absurd h (Nat.not_lt_zero _), fun _ _ _ _ _ _ h => absurd h (Nat.not_lt_zero _), fun _ _ _ _ _ _ _ h => absurd h (Nat.not_lt_zero _)⟩
    | succ k ih => exact ⟨fun y1 y2 l3 l4 s hI hm => b190_44 (fun q1 => Wp_gen (fun t2 e2 => b190_89 (ih.2.1 y1 y2 l3 l4 0 t2 (z1 y1 y2 s hI q1 t2 e2).1 (Nat.lt_of_lt_of_le (z1 y1 y2 s hI q1 t2 e2).2 (Nat.le_of_lt_succ hm))))) (fun q3 => Wp_gen (fun t4 e4 => b190_60 (fun q5 => b190_89 (ih.2.1 y1 y2 l3 l4 0 t4 (z2 y1 y2 s hI q3 t4 e4 q5).1 (Nat.lt_of_lt_of_le (z2 y1 y2 s hI q3 t4 e4 q5).2 (Nat.le_of_lt_succ hm)))) (fun q6 => b190_71 (z3 y1 y2 s hI q3 t4 e4 q6) (fun q7 => b190_89 (ih.2.1 y1 y2 l3 l4 0 t4 (z4 y1 y2 s hI q3 t4 e4 q6 q7).1 (Nat.lt_of_lt_of_le (z4 y1 y2 s hI q3 t4 e4 q6 q7).2 (Nat.le_of_lt_succ hm)))) (fun q8 => b190_85 (ih.2.1 y1 y2 l3 l4 1 t4 (z5 y1 y2 s hI q3 t4 e4 q6 q8).1 (Nat.lt_of_lt_of_le (z5 y1 y2 s hI q3 t4 e4 q6 q8).2 (Nat.le_of_lt_succ hm))))))), fun y1 y2 l3 l4 w0 s hI hm => b190_90 (fun q9 => ih.2.2.1 y1 y2 w0 l4 s (z6 y1 y2 w0 s hI q9).1 (Nat.lt_of_lt_of_le (z6 y1 y2 w0 s hI q9).2 (Nat.le_of_lt_succ hm))) (fun q10 => b190_95 (ih.2.2.1 y1 y2 w0 l4 (uS s 407 8 (w32 ((s 407 8) + 1))) (z7 y1 y2 w0 s hI q10).1 (Nat.lt_of_lt_of_le (z7 y1 y2 w0 s hI q10).2 (Nat.le_of_lt_succ hm)))), fun y1 y2 y3 l4 s hI hm => b190_105 (c183 (z8 y1 y2 y3 s hI) (fun s11 q11 => ⟨1, rfl, b190_110 (fun _ => b190_115 (fun q12 => b190_133 (fun q13 => b190_143 (fun q14 => b190_151 (ih.2.2.2 y1 y2 y3 l4 4 s11 (z9 y1 y2 y3 s hI s11 q11 q12 q13 q14).1 (Nat.lt_of_lt_of_le (z9 y1 y2 y3 s hI s11 q11 q12 q13 q14).2 (Nat.le_of_lt_succ hm)))) (fun q15 => b190_147 (ih.2.2.2 y1 y2 y3 l4 3 s11 (z10 y1 y2 y3 s hI s11 q11 q12 q13 q15).1 (Nat.lt_of_lt_of_le (z10 y1 y2 y3 s hI s11 q11 q12 q13 q15).2 (Nat.le_of_lt_succ hm))))) (fun q16 => b190_139 (ih.2.2.2 y1 y2 y3 l4 2 s11 (z11 y1 y2 y3 s hI s11 q11 q12 q16).1 (Nat.lt_of_lt_of_le (z11 y1 y2 y3 s hI s11 q11 q12 q16).2 (Nat.le_of_lt_succ hm))))) (fun q17 => b190_121 (fun q18 => b190_129 (ih.2.2.2 y1 y2 y3 l4 0 s11 (z12 y1 y2 y3 s hI s11 q11 q17 q18).1 (Nat.lt_of_lt_of_le (z12 y1 y2 y3 s hI s11 q11 q17 q18).2 (Nat.le_of_lt_succ hm)))) (fun q19 => b190_125 (ih.2.2.2 y1 y2 y3 l4 1 s11 (z13 y1 y2 y3 s hI s11 q11 q17 q19).1 (Nat.lt_of_lt_of_le (z13 y1 y2 y3 s hI s11 q11 q17 q19).2 (Nat.le_of_lt_succ hm)))))) (fun q => absurd q (by decide))⟩) (fun s20 q20 => ⟨0, rfl, b190_110 (fun q => absurd q (by decide)) (fun _ => b190_113 (z14 y1 y2 y3 s hI s20 q20))⟩)), fun y1 y2 y3 l4 w0 s hI hm => b190_152 (c189 (z15 y1 y2 y3 w0 s hI) (fun s21 q21 => ⟨1, rfl, b190_158 (fun _ => b190_163 (c182 (z16 y1 y2 y3 w0 s hI s21 q21) (fun s22 q22 => ⟨rfl, b190_173 (z17 y1 y2 y3 w0 s hI s21 q21 s22 q22)⟩))) (fun q => absurd q (by decide))⟩) (fun s23 q23 => ⟨0, rfl, b190_158 (fun q => absurd q (by decide)) (fun _ => b190_161 (z18 y1 y2 y3 w0 s hI s23 q23))⟩))⟩
  exact e190 (b190_0 (c189 z19 (fun s24 q24 => ⟨1, rfl, b190_4 (fun _ => b190_9 (c174 (z20 s24 q24) (fun v25 s25 q25 => ⟨v25, rfl, b190_13 (fun q26 => (L (m44 v25 (s25 407 8) s25 + 1)).1 v25 (s25 407 8) none none s25 (z21 s24 q24 v25 s25 q25 q26) (Nat.lt_succ_self _)) (fun q27 => b190_25 (fun q28 => (L (m44 v25 (s25 407 8) s25 + 1)).1 v25 (s25 407 8) none none s25 (z22 s24 q24 v25 s25 q25 q27 q28) (Nat.lt_succ_self _)) (fun q29 => b190_31 (fun q30 => (L (m44 v25 (s25 407 8) s25 + 1)).1 v25 (s25 407 8) none none s25 (z23 s24 q24 v25 s25 q25 q27 q29 q30) (Nat.lt_succ_self _)) (fun q31 => b190_37 (c173 (z24 s24 q24 v25 s25 q25 q27 q29 q31) (fun v32 s32 q32 => ⟨v32, rfl, b190_43 (z25 s24 q24 v25 s25 q25 q27 q29 q31 v32 s32 q32) (z26 s24 q24 v25 s25 q25 q27 q29 q31 v32 s32 q32)⟩)))))⟩))) (fun q => absurd q (by decide))⟩) (fun s33 q33 => ⟨0, rfl, b190_4 (fun q => absurd q (by decide)) (fun _ => b190_7 (z27 s33 q33))⟩)))

theorem cm_n {T : Nat → Int} {n b : Nat} (hT : tByt T) (h0 : ¬ rwA T n b = 60) (h1 : ¬ rwA T n b = 61) (h2 : ¬ rwA T n b = 62) : cmC (tkK T n b) = -1 := by
  have t := hT b
  unfold rwA at h0 h1 h2
  unfold tkK
  by_cases z : n ≤ b
  · rw [if_pos z]; rfl
  · rw [if_neg z] at h0 h1 h2 ⊢
    by_cases l : isL T b = true
    · rw [if_pos l]; rfl
    · rw [if_neg l]
      by_cases g : isD T b = true
      · rw [if_pos g]; rfl
      · rw [if_neg g, if_neg (fun w => h0 w.2), if_neg (fun w => h2 w.2)]
        unfold cmC
        rw [if_neg h0, if_neg (by omega), if_neg h1, if_neg (by omega), if_neg h2]
def eqN (T : Nat → Int) (n b : Nat) : Prop := b + 1 < n ∧ T (b + 1) = 61
theorem cm_0 {T : Nat → Int} {n b : Nat} (hb : b < n) (e : T b = 60 ∨ T b = 61 ∨ T b = 62) (h : T b = 61 ∨ ¬ eqN T n b) : tkK T n b = T b ∧ tkP T n b = b + 1 := by
  have l : ¬ isL T b = true := fun w => by have := isL_i.1 w; omega
  have g : ¬ isD T b = true := fun w => by have := isD_i.1 w; omega
  have a1 : ¬ ((b + 1 < n ∧ T (b + 1) = 61) ∧ T b = 60) := fun w => by
    rcases h with y | y
    · have := w.2; omega
    · exact y w.1
  have a2 : ¬ ((b + 1 < n ∧ T (b + 1) = 61) ∧ T b = 62) := fun w => by
    rcases h with y | y
    · have := w.2; omega
    · exact y w.1
  unfold tkK tkP
  rw [if_neg (by omega), if_neg l, if_neg g, if_neg a1, if_neg a2, if_neg (by omega), if_neg l, if_neg g, if_neg a1, if_neg a2]
  exact ⟨rfl, rfl⟩
theorem cm_1 {T : Nat → Int} {n b : Nat} (hb : b < n) (e : T b = 60 ∨ T b = 62) (h : eqN T n b) : tkK T n b = (if T b = 60 then 258 else 259) ∧ tkP T n b = b + 2 := by
  have l : ¬ isL T b = true := fun w => by have := isL_i.1 w; omega
  have g : ¬ isD T b = true := fun w => by have := isD_i.1 w; omega
  have h' : b + 1 < n ∧ T (b + 1) = 61 := h
  by_cases y : T b = 60
  · refine ⟨?_, ?_⟩
    · unfold tkK; rw [if_neg (by omega), if_neg l, if_neg g, if_pos ⟨h', y⟩, if_pos y]
    · unfold tkP; rw [if_neg (by omega), if_neg l, if_neg g, if_pos ⟨h', y⟩]
  · have y2 : T b = 62 := by omega
    refine ⟨?_, ?_⟩
    · unfold tkK; rw [if_neg (by omega), if_neg l, if_neg g, if_neg (fun w => y w.2), if_pos ⟨h', y2⟩, if_neg y]
    · unfold tkP; rw [if_neg (by omega), if_neg l, if_neg g, if_neg (fun w => y w.2), if_pos ⟨h', y2⟩]
/-- the sum before the sign is read -/
def PQq (s t : mSt) (b : Nat) (kk : Int) : Prop := RGq s t ∧ b < nR s ∧ skR s < b ∧ lnR t + skR s ≤ lnR s + b ∧ ∀ L, SGq s L → ∃ M, SGq t M ∧ smR s L = (0, b, kk, M)
theorem PQ_8 {s t u : mSt} {a b : Nat} {kk : Int} (h : RHq s) (p : PQq s t b kk) (ha : a ≤ nR s) (e : u = uS t 407 8 (a : Int)) : PQq s u b kk ∧ u 407 8 = (a : Int) ∧ u 407 12 = t 407 12 ∧ skR u = sk (TR s) (nR s) a := by
  obtain ⟨g, p1, p2, p3, p4⟩ := p
  have x := RG_x g
  have q := RG_8 (RG_H h g) (a := a) (by rw [x.2.1]; exact ha)
  rw [← e, x.1, x.2.1] at q
  have e2 := q.2.2.1
  refine ⟨⟨RG_t g q.1, p1, p2, by omega, fun L hL => ?_⟩, q.2.2.2.2.2, q.2.2.2.2.1, q.2.1⟩
  obtain ⟨M, hM, eM⟩ := p4 L hL
  exact ⟨M, by unfold SGq; rw [q.2.2.2.1]; exact hM, eM⟩
theorem c190 {X : (Nat → Int) × Nat} {d : Nat} {s : mSt} {Q : mQ} (p1 : RHq s ∧ lnR s ≤ (skR s : Int) ∧ ∃ L, SGq s L) (k1 : ∀ t : mSt, (TZq s t ∧ ∀ L, SGq s L → TM1 s t (cpR s L)) → Q (some (mI 1)) t) (k0 : ∀ t : mSt, (∀ L, SGq s L → RZ0 s t (cpR s L).1) → Q (some (mI 0)) t) : Sp X (d + 6) 190 [mR 407] s Q := by
  obtain ⟨h, hs, L0, hL0⟩ := p1
  have hb := skR_b h.1
  have hT := TR_t h.1
  let Sg : Nat → Int → Prop := fun b y => TR s b = y ∧ (y = 60 ∨ y = 61 ∨ y = 62)
  let Fl : Nat → Int → Int → Prop := fun b y w => (w = 0 ∧ (y = 61 ∨ ¬ eqN (TR s) (nR s) b)) ∨ (w = 1 ∧ ¬ y = 61 ∧ eqN (TR s) (nR s) b)
  let I44 : Int → Int → mSt → Prop := fun y1 y2 t => ∃ b : Nat, y2 = b ∧ Sg b y1 ∧ t 407 8 = (b : Int) ∧ PQq s t b (t 407 12)
  let I90 : Int → Int → Int → mSt → Prop := fun y1 y2 w t => ∃ b : Nat, y2 = b ∧ Sg b y1 ∧ Fl b y1 w ∧ t 407 8 = ((b + 1 : Nat) : Int) ∧ PQq s t b (t 407 12) ∧ skR t = sk (TR s) (nR s) (b + 1)
  let I105 : Int → Int → Int → mSt → Prop := fun y1 y2 w t => ∃ b : Nat, y2 = b ∧ Sg b y1 ∧ Fl b y1 w ∧ PQq s t b (t 407 12) ∧ skR t = nxA (TR s) (nR s) b
  let I152 : Int → Int → Int → Int → mSt → Prop := fun _ _ _ w t => ∃ b : Nat, ∃ x : Int, x = cmC (tkK (TR s) (nR s) b) ∧ ¬ x = -1 ∧ encC x = 6 + w ∧ (0 ≤ w ∧ w ≤ 4) ∧ PQq s t b (t 407 12 - 1) ∧ t 407 12 ≤ 60 ∧ skR t = nxA (TR s) (nR s) b
  have knd : ∀ {b : Nat} {y w : Int}, b < nR s → Sg b y → Fl b y w → tkK (TR s) (nR s) b = (if w = 0 then y else if y = 60 then 258 else 259) ∧ (tkP (TR s) (nR s) b : Int) = b + 1 + w := fun {b y w} hb1 hS hF => by
    rcases hF with ⟨rfl, f⟩ | ⟨rfl, f1, f2⟩
    · have q := cm_0 (T := TR s) hb1 (by rw [hS.1]; exact hS.2) (by rw [hS.1]; exact f)
      rw [q.1, q.2, hS.1]; exact ⟨rfl, by omega⟩
    · have q := cm_1 (T := TR s) hb1 (by rw [hS.1]; rcases hS.2 with y | y | y; exact Or.inl y; exact absurd y f1; exact Or.inr y) f2
      rw [q.1, q.2, hS.1, if_neg (show ¬ (1 : Int) = 0 by decide)]; exact ⟨rfl, by omega⟩
  have mk152 : ∀ (y1 y2 y3 w x : Int) (t u : mSt), I105 y1 y2 y3 t → (t 407 12 < 60 ∧ u = uS t 407 12 (t 407 12 + 1)) → cmC (if y3 = 0 then y1 else if y1 = 60 then 258 else 259) = x → ¬ x = -1 → encC x = 6 + w → 0 ≤ w ∧ w ≤ 4 → I152 y1 y2 y3 w u := by
    rintro y1 y2 y3 w x t u ⟨b, e2, hS, hF, hP, e8⟩ ⟨hk, eu⟩ hx hx2 he hw
    have kd := knd hP.2.1 hS hF
    have u12 : u 407 12 = t 407 12 + 1 := by rw [eu, uS_at, if_pos rfl]
    have g := hP.1
    have lu : lnR u = lnR t := by rw [eu, lnR_u _ _ (by decide)]
    refine ⟨b, x, by rw [kd.1]; exact hx.symm, hx2, he, hw, ⟨⟨by rw [eu]; exact TRq_o g.1 _ (by decide) (by decide), by rw [eu, uS_at, if_neg (by decide)]; exact g.2.1, by have := g.2.2.1; omega, by rw [lu]; exact g.2.2.2.1, by rw [eu]; exact fRv_u g.2.2.2.2 _ (by decide)⟩, hP.2.1, hP.2.2.1, by rw [lu]; exact hP.2.2.2.1, fun L hL => ?_⟩, by omega, by rw [eu, skR_o _ _ (by decide) (by decide)]; exact e8⟩
    obtain ⟨M, hM, eM⟩ := hP.2.2.2.2 L hL
    exact ⟨M, by unfold SGq; rw [eu, sgB_8 _ _ (by decide)]; exact hM, by rw [u12, show t 407 12 + 1 - 1 = t 407 12 by omega]; exact eM⟩
  have p8 : ∀ {t u : mSt} {a b : Nat} {kk : Int}, PQq s t b kk → t 407 8 = (a : Int) → a + 1 ≤ nR s → u = uS t 407 8 (w32 (t 407 8 + 1)) → PQq s u b kk ∧ u 407 8 = ((a + 1 : Nat) : Int) ∧ u 407 12 = t 407 12 ∧ skR u = sk (TR s) (nR s) (a + 1) := fun {t u a b kk} hP e8 ha e => by
    rw [e8, w32_of (by omega), show (a : Int) + 1 = ((a + 1 : Nat) : Int) by omega] at e
    exact PQ_8 h hP ha e
  have mk90 : ∀ (y1 y2 w : Int) (t u : mSt), I44 y1 y2 t → u = uS t 407 8 (w32 (t 407 8 + 1)) → (∀ b : Nat, y2 = b → Sg b y1 → Fl b y1 w) → I90 y1 y2 w u := by
    rintro y1 y2 w t u ⟨b, e2, hS, e8, hP⟩ e hF
    have lt := hP.2.1
    have q := p8 hP e8 (by omega) e
    exact ⟨b, e2, hS, hF b e2 hS, q.2.1, by rw [q.2.2.1]; exact q.1, q.2.2.2⟩
  have at4 : ∀ (y1 y2 : Int) (t u : mSt), I44 y1 y2 t → u = uS t 407 8 (w32 (t 407 8 + 1)) → ∀ b : Nat, y2 = b → u 407 8 = ((b + 1 : Nat) : Int) ∧ u 407 1 = (nR s : Int) ∧ u 408 = s 408 := by
    rintro y1 y2 t u ⟨b, e2, hS, e8, hP⟩ e b' eb
    have bb : b = b' := by omega
    subst bb
    have lt := hP.2.1
    have q := p8 hP e8 (by omega) e
    have f := q.1.1.2.2.2.2
    exact ⟨q.2.1, by rw [f.2.1 1 (by decide) (by decide)]; exact nR_e h.1, f.1 408 (by decide) (by decide) (by decide)⟩
  have sum1 : ∀ (t : mSt), (TZq s t ∧ ∀ L, SGq s L → TM1 s t (smR s L)) → ∀ (v : Int) (u : mSt), (v = (if nR t ≤ skR t then -1 else TR t (skR t)) ∧ u = uS t 407 8 (skR t : Int)) → v = rwA (TR s) (nR s) (skR t) ∧ u 407 8 = (skR t : Int) ∧ RGq s u ∧ (skR t < nR s → PQq s u (skR t) (u 407 12)) ∧ (∀ L, SGq s L → ∃ M, smR s L = (0, skR t, t 407 12, M)) := by
    rintro t ⟨⟨g, z1, z2⟩, hM⟩ v u ⟨ev, eu⟩
    have x := RG_x g
    have q := see_s (RG_H h g) eu
    rw [x.1, x.2.1] at ev
    have e1 := q.2.1
    have e2 := q.2.2.1
    refine ⟨ev, by rw [q.2.2.2.2.2, e1], RG_t g q.1, fun lt => ⟨RG_t g q.1, lt, z2, by omega, fun L hL => ?_⟩, fun L hL => ?_⟩
    · have m := hM L hL
      refine ⟨(smR s L).2.2.2, by unfold SGq; rw [q.2.2.2.1]; exact m.2.2.2, ?_⟩
      rw [q.2.2.2.2.1, m.2.1, m.2.2.1, ← m.1]
    · have m := hM L hL
      exact ⟨(smR s L).2.2.2, by rw [m.2.1, m.2.2.1, ← m.1]⟩
  have go44 : ∀ (t : mSt), (TZq s t ∧ ∀ L, SGq s L → TM1 s t (smR s L)) → ∀ (v : Int) (u : mSt), (v = (if nR t ≤ skR t then -1 else TR t (skR t)) ∧ u = uS t 407 8 (skR t : Int)) → (v = 60 ∨ v = 61 ∨ v = 62) → I44 v (u 407 8) u := by
    intro t ht v u hu hv
    have q := sum1 t ht v u hu
    have e := q.1
    unfold rwA at e
    by_cases z : nR s ≤ skR t
    · rw [if_pos z] at e; omega
    · rw [if_neg z] at e
      exact ⟨skR t, q.2.1, ⟨e.symm, hv⟩, q.2.1, q.2.2.2.1 (by omega)⟩
  refine v190 I44 (fun _ _ _ => 9) I90 (fun _ _ _ _ => 8) I105 (fun _ _ _ _ => 7) I152 (fun _ _ _ _ _ => 6) ?_ ?_ ?_ ?_ ?_ ?_ ?_ ?_ ?_ ?_ ?_ ?_ ?_ ?_ ?_ ?_ ?_ ?_ ⟨h, hs, L0, hL0⟩ ?_ ?_ ?_ ?_ ?_ ?_ ?_ ?_
  · intro y1 y2 t hI c u e
    exact ⟨mk90 y1 y2 0 t u hI e (fun b _ _ => Or.inl ⟨rfl, Or.inl c⟩), by decide⟩
  · intro y1 y2 t hI c u e c2
    refine ⟨mk90 y1 y2 0 t u hI e (fun b eb _ => Or.inl ⟨rfl, Or.inr (fun w => ?_)⟩), by decide⟩
    have a := at4 y1 y2 t u hI e b eb
    rw [a.1, a.2.1] at c2
    have w1 : b + 1 < nR s := w.1
    omega
  · intro y1 y2 t hI c u e c2
    obtain ⟨b, eb, _⟩ := hI
    have a := at4 y1 y2 t u ⟨b, eb, by assumption⟩ e b eb
    rw [a.1, a.2.1] at c2
    rw [a.1]; omega
  · intro y1 y2 t hI c u e c2 c3
    refine ⟨mk90 y1 y2 0 t u hI e (fun b eb _ => Or.inl ⟨rfl, Or.inr (fun w => ?_)⟩), by decide⟩
    have a := at4 y1 y2 t u hI e b eb
    rw [a.1, tnc, a.2.2] at c3
    exact c3 ((ub_c (by decide) (h.1.1 _)).2 w.2)
  · intro y1 y2 t hI c u e c2 c3
    refine ⟨mk90 y1 y2 1 t u hI e (fun b eb _ => Or.inr ⟨rfl, c, ?_⟩), by decide⟩
    have a := at4 y1 y2 t u hI e b eb
    rw [a.1, a.2.1] at c2
    rw [a.1, tnc, a.2.2] at c3
    exact ⟨by omega, (ub_c (by decide) (h.1.1 _)).1 c3⟩
  · rintro y1 y2 w t ⟨b, eb, hS, hF, e8, hP, ek⟩ z
    have kd := knd hP.2.1 hS hF
    refine ⟨⟨b, eb, hS, hF, hP, ?_⟩, by decide⟩
    rw [ek]; unfold nxA
    rw [show tkP (TR s) (nR s) b = b + 1 by omega]
  · rintro y1 y2 w t ⟨b, eb, hS, hF, e8, hP, ek⟩ z
    have kd := knd hP.2.1 hS hF
    have w1 : w = 1 := by
      rcases hF with y | y
      · exact absurd y.1 z
      · exact y.1
    have pb := tkP_b (TR s) (Nat.le_of_lt hP.2.1)
    have q := p8 hP e8 (by omega) rfl
    refine ⟨⟨b, eb, hS, hF, by rw [q.2.2.1]; exact q.1, ?_⟩, by decide⟩
    rw [q.2.2.2]; unfold nxA
    rw [show tkP (TR s) (nR s) b = b + 1 + 1 by omega]
  · rintro y1 y2 w t ⟨b, eb, hS, hF, hP, ek⟩
    have := hP.2.1
    exact ⟨hP.1.2.1, by omega, hP.1.2.2.1⟩
  · intro y1 y2 y3 t hI u hu c1 c2 c3
    have hI2 := hI
    obtain ⟨b, _, hS, _⟩ := hI2
    have e1 : y1 = 62 := by have := hS.2; omega
    subst e1; subst c3
    exact ⟨mk152 62 y2 0 4 200009 t u hI hu (by decide) (by decide) (by decide) (by decide), by decide⟩
  · intro y1 y2 y3 t hI u hu c1 c2 c3
    have hI2 := hI
    obtain ⟨b, _, hS, _⟩ := hI2
    have e1 : y1 = 62 := by have := hS.2; omega
    subst e1
    exact ⟨mk152 62 y2 y3 3 200008 t u hI hu (by rw [if_neg c3]; decide) (by decide) (by decide) (by decide), by decide⟩
  · intro y1 y2 y3 t hI u hu c1 c2
    have hI2 := hI
    obtain ⟨b, _, hS, hF, _⟩ := hI2
    have e3 : y3 = 0 := by
      rcases hF with y | y
      · exact y.1
      · exact absurd c2 y.2.1
    subst e3; subst c2
    exact ⟨mk152 61 y2 0 2 200007 t u hI hu (by decide) (by decide) (by decide) (by decide), by decide⟩
  · intro y1 y2 y3 t hI u hu c1 c3
    subst c1; subst c3
    exact ⟨mk152 60 y2 0 0 200005 t u hI hu (by decide) (by decide) (by decide) (by decide), by decide⟩
  · intro y1 y2 y3 t hI u hu c1 c3
    subst c1
    exact ⟨mk152 60 y2 y3 1 200006 t u hI hu (by rw [if_neg c3]; decide) (by decide) (by decide) (by decide), by decide⟩
  · rintro y1 y2 y3 t ⟨b, eb, hS, hF, hP, ek⟩ u ⟨hk, eu⟩
    have kd := knd hP.2.1 hS hF
    have nz : ¬ cmC (tkK (TR s) (nR s) b) = -1 := by
      rw [kd.1]
      have hy := hS.2
      rcases hF with ⟨rfl, _⟩ | ⟨rfl, f1, _⟩
      · rw [if_pos rfl]; unfold cmC
        rcases hy with rfl | rfl | rfl <;> decide
      · rw [if_neg (by decide)]
        rcases hy with rfl | rfl | rfl
        · decide
        · exact absurd rfl f1
        · decide
    refine k0 u (fun L hL => ?_)
    obtain ⟨M, hM, eM⟩ := hP.2.2.2.2 L hL
    unfold cpR
    rw [cpF_e (q := (0, b, t 407 12, M)) eM rfl, if_pos rfl, if_neg nz, if_pos (show 60 ≤ t 407 12 by omega)]
    refine ⟨by rw [eu, uS_at, if_pos rfl, eb]; rfl, by show 0 < fuA b 3; unfold fuA; omega, ?_⟩
    rw [eu]; exact fRv_u hP.1.2.2.2.2 _ (by decide)
  · rintro y1 y2 y3 w t ⟨b, x, ex, hx, he, hw, hP, h60, ek⟩
    have nb := nxA_b (TR s) (Nat.le_of_lt hP.2.1)
    have p4 := hP.2.2.2.1
    obtain ⟨M, hM, _⟩ := hP.2.2.2.2 L0 hL0
    exact ⟨RG_H h hP.1, by omega, M, hM⟩
  · rintro y1 y2 y3 w t ⟨b, x, ex, hx, he, hw, hP, h60, ek⟩ u ⟨⟨g, z1, z2⟩, _⟩
    have nb := nxA_b (TR s) (Nat.le_of_lt hP.2.1)
    have lt := nb.2.2 hP.2.1
    have p4 := hP.2.2.2.1
    have gx := RG_t hP.1 g
    have hx2 := RG_H h gx
    have bx := skR_b gx.1
    rw [w32_of (by omega)]
    exact ⟨hx2.2.2.2.2, ⟨hx2.2.2.2.1, by omega⟩, by omega, by decide⟩
  · rintro y1 y2 y3 w t ⟨b, x, ex, hx, he, hw, hP, h60, ek⟩ u ⟨⟨g, z1, z2⟩, hM1⟩ y ey
    have nb := nxA_b (TR s) (Nat.le_of_lt hP.2.1)
    have lt := nb.2.2 hP.2.1
    have p4 := hP.2.2.2.1
    have gx := RG_t hP.1 g
    have bx := skR_b gx.1
    have xt := RG_x hP.1
    have r := put_fin (s := u) gx.1 gx.2.1 gx.2.2.1 (fRv_0 u) rfl rfl ⟨gx.2.2.2.1, by omega⟩ ey
    have r1 := r.2.1
    have r2 := r.2.2.2.2
    have p3 := hP.2.2.1
    refine k1 y ⟨⟨RG_t gx r.1, by omega, by omega⟩, fun L hL => ?_⟩
    obtain ⟨M, hM, eM⟩ := hP.2.2.2.2 L hL
    have m := hM1 M hM
    have es : smR t M = sumF (TR s) (nR s) (nxA (TR s) (nR s) b) (t 407 12 - 1 + 1) M (-1) (-1) := by
      unfold smR; rw [xt.1, xt.2.1, ek, show t 407 12 - 1 + 1 = t 407 12 by omega]
    have ec : cpR s L = (0, (smR t M).2.1, (smR t M).2.2.1, (smR t M).2.2.2 ++ [x]) := by
      unfold cpR
      rw [cpF_e (q := (0, b, t 407 12 - 1, M)) eM es.symm, if_pos rfl, if_neg (by rw [← ex]; exact hx), if_neg (show ¬ 60 ≤ t 407 12 - 1 by omega), if_pos m.1, ← ex]
    rw [ec]
    refine ⟨rfl, by rw [r1]; exact m.2.1, by rw [r.2.2.1]; exact m.2.2.1, ?_⟩
    have hM' : sgB u = ((smR t M).2.2.2).map encC := m.2.2.2
    show sgB y = ((smR t M).2.2.2 ++ [x]).map encC
    rw [r.2.2.2.1, hM', w32_of (by omega), show 6 + w + 16 * (0 : Int) = encC x by omega, map_1]
  · rintro y1 y2 y3 w t ⟨b, x, ex, hx, he, hw, hP, h60, ek⟩ u hz
    have xt := RG_x hP.1
    refine k0 u (fun L hL => ?_)
    obtain ⟨M, hM, eM⟩ := hP.2.2.2.2 L hL
    have m := hz M hM
    have es : smR t M = sumF (TR s) (nR s) (nxA (TR s) (nR s) b) (t 407 12 - 1 + 1) M (-1) (-1) := by
      unfold smR; rw [xt.1, xt.2.1, ek, show t 407 12 - 1 + 1 = t 407 12 by omega]
    unfold cpR
    rw [cpF_e (q := (0, b, t 407 12 - 1, M)) eM es.symm, if_pos rfl, if_neg (by rw [← ex]; exact hx), if_neg (show ¬ 60 ≤ t 407 12 - 1 by omega), if_neg (by have := m.2.1; omega)]
    exact RZ_t hP.1 m
  · rintro t ⟨⟨g, _⟩, _⟩
    exact g.1
  · intro t ht v u hu hv
    exact go44 t ht v u hu (Or.inl hv)
  · intro t ht v u hu _ hv
    exact go44 t ht v u hu (Or.inr (Or.inl hv))
  · intro t ht v u hu _ _ hv
    exact go44 t ht v u hu (Or.inr (Or.inr hv))
  · intro t ht v u hu _ _ _
    have q := sum1 t ht v u hu
    have bx := skR_b ht.1.1.1
    rw [q.2.1]
    exact ⟨by decide, by omega⟩
  · rintro t ht v u hu h60 h61 h62 v2 w ⟨ev, ew⟩
    have q := sum1 t ht v u hu
    rw [q.1] at h60 h61 h62
    have cn := cm_n hT h60 h61 h62
    rw [ev]
    have e9 : u 407 9 = 0 := q.2.2.1.2.1
    have ew2 : w = uS u 407 9 (fuA (skR t) 0) := by rw [ew, q.2.1]; unfold flR fuA; rw [if_pos e9]
    refine k0 w (fun L hL => ?_)
    obtain ⟨M, eM⟩ := q.2.2.2.2 L hL
    unfold cpR
    rw [cpF_e (q := (0, skR t, t 407 12, M)) eM rfl, if_pos rfl, if_pos cn]
    refine ⟨by rw [ew2, uS_at, if_pos rfl], by show 0 < fuA (skR t) 0; unfold fuA; omega, ?_⟩
    rw [ew2]; exact fRv_u q.2.2.1.2.2.2.2 _ (by decide)
  · intro t ht v u hu _ _ _ v2 w e
    exact Or.inl e.1
  · rintro t hz
    refine k0 t (fun L hL => ?_)
    have m := hz L hL
    unfold cpR
    rw [cpF_e (q := smR s L) rfl rfl, if_neg (by have := m.2.1; omega)]
    exact m
