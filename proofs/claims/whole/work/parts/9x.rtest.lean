/-! tests: the reference -/
def tsR (s : mSt) (L : List Int) : Int × Nat × Int × List Int × List Int := tsF (TR s) (nR s) (skR s) (s 407 12) L
def TE1 (s t : mSt) : Prop := (RHq t ∧ fRt s t ∧ lnR t ≤ (skR t : Int) ∧ skR s < skR t) ∧ ∀ L, SGq s L → (tsR s L).1 = 0 ∧ skR t = (tsR s L).2.1 ∧ t 407 12 = (tsR s L).2.2.1 ∧ SGq t (tsR s L).2.2.2.1
def TE0 (s t : mSt) : Prop := 0 < t 407 9 ∧ fRt s t ∧ ∀ L, SGq s L → (tsR s L).1 = t 407 9
theorem v194 {X : (Nat → Int) × Nat} {d : Nat} {s : mSt} {Q : mQ}
  (I12 : Int → mSt → Prop) (m12 : Int → mSt → Nat)
  (I54 : Int → Int → mSt → Prop) (m54 : Int → Int → mSt → Nat)
  (I76 : Int → Int → mSt → Prop) (m76 : Int → Int → mSt → Nat)
  (z1 : ∀ y1 : Int, ∀ s : mSt, I12 y1 s → y1 = 0 → 0 ≤ s 407 16 ∧ s 407 16 ≤ 400)
  (z2 : ∀ y1 : Int, ∀ s : mSt, I12 y1 s → y1 = 0 → inB s = true → TRq s)
  (z3 : ∀ y1 : Int, ∀ s : mSt, I12 y1 s → y1 = 0 → inB s = true → ∀ v3 : Int, ∀ s3 : mSt, (v3 = (if nR s ≤ skR s then -1 else TR s (skR s)) ∧ s3 = uS s 407 8 (skR s : Int)) → (0 ≤ (0 : Int) ∧ (0 : Int) ≤ 4) ∧ (0 ≤ (s3 407 8) ∧ (s3 407 8) ≤ 400))
  (z4 : ∀ y1 : Int, ∀ s : mSt, I12 y1 s → y1 = 0 → inB s = true → ∀ v3 : Int, ∀ s3 : mSt, (v3 = (if nR s ≤ skR s then -1 else TR s (skR s)) ∧ s3 = uS s 407 8 (skR s : Int)) → ∀ v4 : Int, ∀ s4 : mSt, (v4 = 0 ∧ s4 = flR s3 (0 : Int) (s3 407 8)) → Q (some (mI v4)) s4)
  (z5 : ∀ y1 : Int, ∀ s : mSt, I12 y1 s → y1 = 0 → inB s = true → ∀ v3 : Int, ∀ s3 : mSt, (v3 = (if nR s ≤ skR s then -1 else TR s (skR s)) ∧ s3 = uS s 407 8 (skR s : Int)) → ∀ v4 : Int, ∀ s4 : mSt, (v4 = 0 ∧ s4 = flR s3 (0 : Int) (s3 407 8)) → v4 = 0 ∨ v4 = 1)
  (z6 : ∀ y1 : Int, ∀ s : mSt, I12 y1 s → y1 = 0 → ¬ (inB s = true) → RHq s ∧ (0 ≤ s 407 16 ∧ lnR s + s 407 16 ≤ 400) ∧ (∃ L K, KRq s L K) ∧ (1 ≤ (1 : Int) ∧ (1 : Int) ≤ 3))
  (z7 : ∀ y1 : Int, ∀ s : mSt, I12 y1 s → y1 = 0 → ¬ (inB s = true) → ∀ s6 : mSt, (LDq s s6 ∧ ∀ L K, KRq s L K → KRq s6 (lyD (1 : Int).toNat L K).1 (lyD (1 : Int).toNat L K).2) → Q (some (mI 1)) s6)
  (z8 : ∀ y1 : Int, ∀ s : mSt, I12 y1 s → ¬ y1 = 0 → FPq s s ∧ ∃ L K, KRq s L K)
  (z9 : ∀ y1 : Int, ∀ s : mSt, I12 y1 s → ¬ y1 = 0 → ∀ s8 : mSt, FT1 s s8 → RHq s8 ∧ (0 ≤ s8 407 16 ∧ lnR s8 + s8 407 16 ≤ (skR s8 : Int)) ∧ ∃ L K, KRq s8 L K)
  (z10 : ∀ y1 : Int, ∀ s : mSt, I12 y1 s → ¬ y1 = 0 → ∀ s8 : mSt, FT1 s s8 → ∀ s9 : mSt, CLq s8 s9 → TRq s9)
  (z11 : ∀ y1 : Int, ∀ s : mSt, I12 y1 s → ¬ y1 = 0 → ∀ s8 : mSt, FT1 s s8 → ∀ s9 : mSt, CLq s8 s9 → ∀ s10 : mSt, (iwR s9 (1476 : Int) ∧ s10 = uS s9 407 8 (skR s9 : Int)) → I54 y1 1 s10 ∧ m54 y1 1 s10 < m12 y1 s)
  (z12 : ∀ y1 : Int, ∀ s : mSt, I12 y1 s → ¬ y1 = 0 → ∀ s8 : mSt, FT1 s s8 → ∀ s9 : mSt, CLq s8 s9 → ∀ s11 : mSt, (¬ iwR s9 (1476 : Int) ∧ s11 = uS s9 407 8 (skR s9 : Int)) → TRq s11)
  (z13 : ∀ y1 : Int, ∀ s : mSt, I12 y1 s → ¬ y1 = 0 → ∀ s8 : mSt, FT1 s s8 → ∀ s9 : mSt, CLq s8 s9 → ∀ s11 : mSt, (¬ iwR s9 (1476 : Int) ∧ s11 = uS s9 407 8 (skR s9 : Int)) → ∀ s12 : mSt, (iwR s11 (498 : Int) ∧ s12 = uS s11 407 8 (skR s11 : Int)) → I54 y1 1 s12 ∧ m54 y1 1 s12 < m12 y1 s)
  (z14 : ∀ y1 : Int, ∀ s : mSt, I12 y1 s → ¬ y1 = 0 → ∀ s8 : mSt, FT1 s s8 → ∀ s9 : mSt, CLq s8 s9 → ∀ s11 : mSt, (¬ iwR s9 (1476 : Int) ∧ s11 = uS s9 407 8 (skR s9 : Int)) → ∀ s13 : mSt, (¬ iwR s11 (498 : Int) ∧ s13 = uS s11 407 8 (skR s11 : Int)) → I54 y1 0 s13 ∧ m54 y1 0 s13 < m12 y1 s)
  (z15 : ∀ y1 : Int, ∀ s : mSt, I12 y1 s → ¬ y1 = 0 → ∀ s14 : mSt, FT0 s s14 → Q (some (mI 0)) s14)
  (z16 : ∀ y1 : Int, ∀ w0 : Int, ∀ s : mSt, I54 y1 w0 s → w0 = 0 → I12 w0 s ∧ m12 w0 s < m54 y1 w0 s)
  (z17 : ∀ y1 : Int, ∀ w0 : Int, ∀ s : mSt, I54 y1 w0 s → ¬ w0 = 0 → TRq s)
  (z18 : ∀ y1 : Int, ∀ w0 : Int, ∀ s : mSt, I54 y1 w0 s → ¬ w0 = 0 → ∀ s17 : mSt, (iwR s (1476 : Int) ∧ s17 = uS s 407 8 (skR s : Int)) → I76 w0 12 s17 ∧ m76 w0 12 s17 < m54 y1 w0 s)
  (z19 : ∀ y1 : Int, ∀ w0 : Int, ∀ s : mSt, I54 y1 w0 s → ¬ w0 = 0 → ∀ s18 : mSt, (¬ iwR s (1476 : Int) ∧ s18 = uS s 407 8 (skR s : Int)) → I76 w0 13 s18 ∧ m76 w0 13 s18 < m54 y1 w0 s)
  (z20 : ∀ y1 : Int, ∀ w0 : Int, ∀ s : mSt, I76 y1 w0 s → TRq s)
  (z21 : ∀ y1 : Int, ∀ w0 : Int, ∀ s : mSt, I76 y1 w0 s → ∀ s19 : mSt, s19 = uS s 407 8 (leT (TR s) (nR s) (s 407 8).toNat : Int) → RHq s19 ∧ (0 ≤ s19 407 16 ∧ lnR s19 + s19 407 16 ≤ 400) ∧ (∃ L K, KRq s19 L K) ∧ (1 ≤ (strR w0) ∧ (strR w0) ≤ 3))
  (z22 : ∀ y1 : Int, ∀ w0 : Int, ∀ s : mSt, I76 y1 w0 s → ∀ s19 : mSt, s19 = uS s 407 8 (leT (TR s) (nR s) (s 407 8).toNat : Int) → ∀ s20 : mSt, (LDq s19 s20 ∧ ∀ L K, KRq s19 L K → KRq s20 (lyD (strR w0).toNat L K).1 (lyD (strR w0).toNat L K).2) → 0 ≤ (s20 407 16) ∧ (s20 407 16) < 400)
  (z23 : ∀ y1 : Int, ∀ w0 : Int, ∀ s : mSt, I76 y1 w0 s → ∀ s19 : mSt, s19 = uS s 407 8 (leT (TR s) (nR s) (s 407 8).toNat : Int) → ∀ s20 : mSt, (LDq s19 s20 ∧ ∀ L K, KRq s19 L K → KRq s20 (lyD (strR w0).toNat L K).1 (lyD (strR w0).toNat L K).2) → I12 y1 (uS (uS s20 414 ((s20 407 16).toNat) w0) 407 16 (w32 (((uS s20 414 ((s20 407 16).toNat) w0) 407 16) + 1))) ∧ m12 y1 (uS (uS s20 414 ((s20 407 16).toNat) w0) 407 16 (w32 (((uS s20 414 ((s20 407 16).toNat) w0) 407 16) + 1))) < m76 y1 w0 s)
  (z24 : I12 1 (uS (uS s 407 16 0) 407 13 0)) :
  Sp X (d + 8) 194 [mR 407] s Q := by
  have L : ∀ k : Nat, (∀ (y1 : Int) (l2 : Option mV) (s : mSt), I12 y1 s → m12 y1 s < k → Wp X (d + 8) 194 12 [some (mR 407), some (mI y1), l2] [] s Q) ∧ (∀ (y1 : Int) (l2 : Option mV) (w0 : Int) (s : mSt), I54 y1 w0 s → m54 y1 w0 s < k → Wp X (d + 8) 194 54 [some (mR 407), some (mI y1), l2] [mI w0] s Q) ∧ (∀ (y1 : Int) (l2 : Option mV) (w0 : Int) (s : mSt), I76 y1 w0 s → m76 y1 w0 s < k → Wp X (d + 8) 194 76 [some (mR 407), some (mI y1), l2] [mI w0] s Q) := by
    intro k
    induction k with
    | zero => exact ⟨fun _ _ _ _ h => absurd h (Nat.not_lt_zero _), fun _ _ _ _ _ h => absurd h (Nat.not_lt_zero _), fun _ _ _ _ _ h => absurd h (Nat.not_lt_zero _)⟩
    | succ k ih => exact ⟨fun y1 l2 s hI hm => b194_12 (fun q1 => b194_112 (c192 (z1 y1 s hI q1) (fun q2 => ⟨1, rfl, b194_116 (fun q => absurd q (by decide)) (fun _ => b194_119 (c174 (z2 y1 s hI q1 q2) (fun v3 s3 q3 => ⟨v3, rfl, b194_123 (c173 (z3 y1 s hI q1 q2 v3 s3 q3) (fun v4 s4 q4 => ⟨v4, rfl, b194_133 (z4 y1 s hI q1 q2 v3 s3 q3 v4 s4 q4) (z5 y1 s hI q1 q2 v3 s3 q3 v4 s4 q4)⟩))⟩)))⟩) (fun q5 => ⟨0, rfl, b194_116 (fun _ => b194_134 (c186 (z6 y1 s hI q1 q5) (fun s6 q6 => ⟨rfl, b194_139 (z7 y1 s hI q1 q5 s6 q6)⟩))) (fun q => absurd q (by decide))⟩))) (fun q7 => b194_16 (c191 (z8 y1 s hI q7) (fun s8 q8 => ⟨1, rfl, b194_20 (fun _ => b194_25 (c193 (z9 y1 s hI q7 s8 q8) (fun s9 q9 => ⟨rfl, b194_29 (c177 (z10 y1 s hI q7 s8 q8 s9 q9) (fun s10 q10 => ⟨1, rfl, b194_36 (fun _ => b194_49 (ih.2.1 y1 l2 1 s10 (z11 y1 s hI q7 s8 q8 s9 q9 s10 q10).1 (Nat.lt_of_lt_of_le (z11 y1 s hI q7 s8 q8 s9 q9 s10 q10).2 (Nat.le_of_lt_succ hm)))) (fun q => absurd q (by decide))⟩) (fun s11 q11 => ⟨0, rfl, b194_36 (fun q => absurd q (by decide)) (fun _ => b194_39 (c177 (z12 y1 s hI q7 s8 q8 s9 q9 s11 q11) (fun s12 q12 => ⟨1, rfl, b194_46 (fun q => absurd q (by decide)) (fun _ => b194_49 (ih.2.1 y1 l2 1 s12 (z13 y1 s hI q7 s8 q8 s9 q9 s11 q11 s12 q12).1 (Nat.lt_of_lt_of_le (z13 y1 s hI q7 s8 q8 s9 q9 s11 q11 s12 q12).2 (Nat.le_of_lt_succ hm))))⟩) (fun s13 q13 => ⟨0, rfl, b194_46 (fun _ => b194_53 (ih.2.1 y1 l2 0 s13 (z14 y1 s hI q7 s8 q8 s9 q9 s11 q11 s13 q13).1 (Nat.lt_of_lt_of_le (z14 y1 s hI q7 s8 q8 s9 q9 s11 q11 s13 q13).2 (Nat.le_of_lt_succ hm)))) (fun q => absurd q (by decide))⟩)))⟩))⟩))) (fun q => absurd q (by decide))⟩) (fun s14 q14 => ⟨0, rfl, b194_20 (fun q => absurd q (by decide)) (fun _ => b194_23 (z15 y1 s hI q7 s14 q14))⟩))), fun y1 l2 w0 s hI hm => b194_54 (fun q15 => ih.1 w0 l2 s (z16 y1 w0 s hI q15).1 (Nat.lt_of_lt_of_le (z16 y1 w0 s hI q15).2 (Nat.le_of_lt_succ hm))) (fun q16 => b194_59 (c177 (z17 y1 w0 s hI q16) (fun s17 q17 => ⟨1, rfl, b194_66 (fun q => absurd q (by decide)) (fun _ => b194_69 (ih.2.2 w0 l2 12 s17 (z18 y1 w0 s hI q16 s17 q17).1 (Nat.lt_of_lt_of_le (z18 y1 w0 s hI q16 s17 q17).2 (Nat.le_of_lt_succ hm))))⟩) (fun s18 q18 => ⟨0, rfl, b194_66 (fun _ => b194_74 (ih.2.2 w0 l2 13 s18 (z19 y1 w0 s hI q16 s18 q18).1 (Nat.lt_of_lt_of_le (z19 y1 w0 s hI q16 s18 q18).2 (Nat.le_of_lt_succ hm)))) (fun q => absurd q (by decide))⟩))), fun y1 l2 w0 s hI hm => b194_76 (c178 (z20 y1 w0 s hI) (fun s19 q19 => ⟨rfl, b194_81 (c185  ⟨_, rfl, b194_86 (c186 (z21 y1 w0 s hI s19 q19) (fun s20 q20 => ⟨rfl, b194_89 (z22 y1 w0 s hI s19 q19 s20 q20) (ih.1 y1 (some (mI w0)) (uS (uS s20 414 ((s20 407 16).toNat) w0) 407 16 (w32 (((uS s20 414 ((s20 407 16).toNat) w0) 407 16) + 1))) (z23 y1 w0 s hI s19 q19 s20 q20).1 (Nat.lt_of_lt_of_le (z23 y1 w0 s hI s19 q19 s20 q20).2 (Nat.le_of_lt_succ hm)))⟩))⟩)⟩))⟩
  exact e194 (b194_0 ((L (m12 1 (uS (uS s 407 16 0) 407 13 0) + 1)).1 1 none (uS (uS s 407 16 0) 407 13 0) z24 (Nat.lt_succ_self _)))

theorem lyD_d (m : Nat) : ∀ (K L : List Int), dpK (lyD m L K).2 ≤ dpK K
  | [], L => Int.le_refl _
  | x :: K, L => by
    have a := (dpK_b [x]).1
    have e : dpK (x :: K) = dpK [x] + dpK K := by
      show (if x = 200012 ∨ x = 91 then 1 else 0) + dpK K = ((if x = 200012 ∨ x = 91 then 1 else 0) + 0) + dpK K
      rw [Int.add_zero]
    by_cases z : m ≤ stg x
    · have q := lyD_d m K (L ++ [x])
      show dpK (if m ≤ stg x then lyD m (L ++ [x]) K else (L, x :: K)).2 ≤ _
      rw [if_pos z]; omega
    · show dpK (if m ≤ stg x then lyD m (L ++ [x]) K else (L, x :: K)).2 ≤ _
      rw [if_neg z]; exact Int.le_refl _
theorem dp_t (K : List Int) : dpK K.tail ≤ dpK K := by
  cases K with
  | nil => exact Int.le_refl _
  | cons x K =>
    show dpK K ≤ (if x = 200012 ∨ x = 91 then 1 else 0) + dpK K
    split <;> omega
theorem dp_m {T : Nat → Int} {n : Nat} (x : Int × Nat × Int × List Int × List Int) (h : dpK x.2.2.2.2 ≤ 10) : dpK (mtP T n x).2.2.2.2 ≤ 10 := by
  unfold mtP
  by_cases h1 : x.1 = -1
  · rw [if_pos h1]
    unfold mtF
    by_cases a1 : wnA T n x.2.1 = 18
    · rw [if_pos a1]
      by_cases a2 : 10 ≤ dpK x.2.2.2.2
      · rw [if_pos a2]; show dpK [] ≤ 10; decide
      · rw [if_neg a2]; show dpK (200012 :: x.2.2.2.2) ≤ 10; rw [dp_n]; omega
    · rw [if_neg a1]
      by_cases a3 : tkK T n x.2.1 = 91
      · rw [if_pos a3]
        by_cases a2 : 10 ≤ dpK x.2.2.2.2
        · rw [if_pos a2]; show dpK [] ≤ 10; decide
        · rw [if_neg a2]; show dpK (91 :: x.2.2.2.2) ≤ 10; rw [dp_b]; omega
      · rw [if_neg a3]
        by_cases a4 : (cpF T n x.2.1 x.2.2.1 x.2.2.2.1).1 = 0
        · rw [if_pos a4]; exact h
        · rw [if_neg a4]; show dpK [] ≤ 10; decide
  · rw [if_neg h1]
    by_cases h2 : x.1 = -2
    · rw [if_pos h2]
      unfold mtA
      have g := lyD_d 3 x.2.2.2.2 x.2.2.2.1
      have h' : dpK (lyD 3 x.2.2.2.1 x.2.2.2.2).2 ≤ 10 := by omega
      generalize lyD 3 x.2.2.2.1 x.2.2.2.2 = y at h'
      unfold mtB
      by_cases b1 : tkK T n x.2.1 = 93 ∧ 91 ∈ y.2
      · rw [if_pos b1]
        show dpK (lyD 1 y.1 y.2).2.tail ≤ 10
        have g1 := lyD_d 1 y.2 y.1
        have g2 := dp_t (lyD 1 y.1 y.2).2
        omega
      · rw [if_neg b1]
        by_cases b2 : wnA T n x.2.1 = 17
        · rw [if_pos b2]
          show dpK (200010 :: (lyD 2 y.1 y.2).2) ≤ 10
          rw [dp_0 _ (by decide) (by decide)]
          have g1 := lyD_d 2 y.2 y.1
          omega
        · rw [if_neg b2]
          by_cases b3 : wnA T n x.2.1 = 16
          · rw [if_pos b3]
            show dpK (200011 :: (lyD 1 y.1 y.2).2) ≤ 10
            rw [dp_0 _ (by decide) (by decide)]
            have g1 := lyD_d 1 y.2 y.1
            omega
          · rw [if_neg b3]
            by_cases b4 : 91 ∈ y.2
            · rw [if_pos b4]; show dpK [] ≤ 10; decide
            · rw [if_neg b4]; show dpK [] ≤ 10; decide
    · rw [if_neg h2]; exact h
theorem dp_i {T : Nat → Int} {n : Nat} : ∀ (m : Nat) (x : Int × Nat × Int × List Int × List Int), dpK x.2.2.2.2 ≤ 10 → dpK (itr T n m x).2.2.2.2 ≤ 10
  | 0, _, h => h
  | m + 1, x, h => dp_i m (mtP T n x) (dp_m x h)
theorem dp_r {T : Nat → Int} {n : Nat} {x y : Int × Nat × Int × List Int × List Int} (h : rch T n x y) (hx : dpK x.2.2.2.2 ≤ 10) : dpK y.2.2.2.2 ≤ 10 := by
  obtain ⟨m, rfl⟩ := h
  exact dp_i m x hx
/-- an open AND or OR pushed -/
theorem psh_a {u w : mSt} {x c : Int} {L J : List Int} (hx : x = 200010 ∨ x = 200011) (hc : c = enK x) (h : KRq u L J) (e : w = uS (uS u 414 (u 407 16).toNat c) 407 16 (u 407 16 + 1)) : KRq w L (x :: J) := by
  have o := h.2.1
  have w7 : ∀ j, w 407 j = if j = 16 then u 407 16 + 1 else u 407 j := fun j => by rw [e, uS_at, uS_cell (show 407 ≠ 414 by decide)]
  have w4 : ∀ j, w 414 j = if j = (u 407 16).toNat then c else u 414 j := fun j => by rw [e, uS_cell (by decide), uS_at]
  have w16 : w 407 16 = u 407 16 + 1 := by rw [w7]; rfl
  have n1 : (w 407 16).toNat - 1 = (u 407 16).toNat := by omega
  have wt : txR w = txR u := by unfold txR; rw [w7]; rfl
  have wb : sgB w = sgB u := by
    unfold sgB lnR
    rw [wt, e, uS_cell (by decide), uS_cell (by decide), uS_cell (by decide), uS_cell (by decide)]
  have hk : isK x := by
    rcases hx with z | z
    · exact Or.inr (Or.inl z)
    · exact Or.inr (Or.inr (Or.inl z))
  refine ⟨⟨by omega, by rw [n1, w4, if_pos rfl, hc], hk, ?_⟩, by omega, ?_, by unfold SGq; rw [wb]; exact h.2.2.2⟩
  · rw [n1]; exact KS_up h.1 (fun i hi => by rw [w4, if_neg (by omega)])
  · have d := h.2.2.1
    rw [w7]
    show u 407 13 = _
    rw [d]
    rcases hx with rfl | rfl
    · exact (dp_0 _ (by decide) (by decide)).symm
    · exact (dp_0 _ (by decide) (by decide)).symm
theorem psh_g {u w : mSt} {c : Int} (e : w = uS (uS u 414 (u 407 16).toNat c) 407 16 (u 407 16 + 1)) : fRt u w ∧ lnR w = lnR u ∧ skR w = skR u ∧ w 407 12 = u 407 12 ∧ w 407 16 = u 407 16 + 1 ∧ (RHq u → RHq w) := by
  have w7 : ∀ j, w 407 j = if j = 16 then u 407 16 + 1 else u 407 j := fun j => by rw [e, uS_at, uS_cell (show 407 ≠ 414 by decide)]
  have f2 : fRt u (uS u 414 (u 407 16).toNat c) := ⟨fun b _ _ _ a4 => uS_cell a4, fun j _ _ _ => by rw [uS_cell (by decide)], fun j _ => by rw [uS_cell (by decide)], fun j _ => by rw [uS_cell (by decide)]⟩
  have fw : fRt u w := by rw [e]; exact fRt_u f2 _ (by decide)
  have x := fRt_x fw
  have e8 : w 407 8 = u 407 8 := by rw [w7]; rfl
  have el : lnR w = lnR u := by
    unfold lnR
    rw [x.1, e, uS_cell (by decide), uS_cell (by decide)]
  refine ⟨fw, el, ?_, by rw [w7]; rfl, by rw [w7]; rfl, fun h => ⟨?_, by rw [w7]; exact h.2.1, by rw [w7]; exact h.2.2.1, by rw [el]; exact h.2.2.2.1, by rw [w7]; exact h.2.2.2.2⟩⟩
  · unfold skR; rw [x.2.1, x.2.2, e8]
  · have a := h.1
    have w48 : w 408 = u 408 := by rw [e, uS_cell (by decide), uS_cell (by decide)]
    exact ⟨by rw [w48]; exact a.1, by rw [w7]; exact a.2.1, by rw [w7, w7]; exact a.2.2⟩
theorem c194 {X : (Nat → Int) × Nat} {d : Nat} {s : mSt} {Q : mQ} (p1 : RHq s ∧ lnR s ≤ (skR s : Int) ∧ ∃ L, SGq s L) (k1 : ∀ t : mSt, (TE1 s t) → Q (some (mI 1)) t) (k0 : ∀ t : mSt, (TE0 s t) → Q (some (mI 0)) t) : Sp X (d + 8) 194 [mR 407] s Q := by
  obtain ⟨h, hl, L0, hL0⟩ := p1
  have hT := TR_t h.1
  have hb := skR_b h.1
  let P : mSt → Prop := fun t => RHq t ∧ fRt s t ∧ 0 ≤ t 407 16 ∧ lnR t + t 407 16 ≤ (skR t : Int) ∧ skR s ≤ skR t ∧ skR t ≤ 400
  let rS : List Int → Int × Nat × Int × List Int × List Int := fun L => (-1, skR s, s 407 12, L, [])
  let BH : mSt → Prop := fun t => P t ∧ skR s < skR t ∧ ∀ L, SGq s L → ∃ M J, KRq t M J ∧ ¬ (tkK (TR s) (nR s) (skR t) = 93 ∧ 91 ∈ J) ∧ rch (TR s) (nR s) (rS L) (mtB (TR s) (nR s) (skR t) (t 407 12) M J)
  let GO : mSt → Prop := fun t => P t ∧ ∀ L, SGq s L → ∃ M J, KRq t M J ∧ rch (TR s) (nR s) (rS L) (-1, skR t, t 407 12, M, J)
  let W : mSt → Int := fun t => wnA (TR s) (nR s) (skR t)
  let I12 : Int → mSt → Prop := fun y t => (y = 0 → BH t ∧ ¬ W t = 17 ∧ ¬ W t = 16) ∧ (¬ y = 0 → GO t)
  let I54 : Int → Int → mSt → Prop := fun _ w t => BH t ∧ (w = 0 → ¬ W t = 17 ∧ ¬ W t = 16) ∧ (¬ w = 0 → W t = 17 ∨ W t = 16)
  let I76 : Int → Int → mSt → Prop := fun y w t => BH t ∧ t 407 8 = (skR t : Int) ∧ ¬ y = 0 ∧ (w = 12 ∧ W t = 17 ∨ w = 13 ∧ W t = 16)
  have see : ∀ (t u : mSt), BH t → u = uS t 407 8 (skR t : Int) → BH u ∧ u 407 8 = (skR u : Int) ∧ skR u = skR t := by
    rintro t u ⟨⟨q1, q2, q3, q4, q5, q6⟩, q7, hR⟩ e
    have w := see_s q1 e
    have e1 := w.2.1
    have e2 := w.2.2.1
    have u16 : u 407 16 = t 407 16 := by rw [e, uS_at, if_neg (by decide)]
    have u12 := w.2.2.2.2.1
    refine ⟨⟨⟨RG_H q1 w.1, fRt_t q2 (by rw [e]; exact fRt_u (fRt_0 t) _ (by decide)), by omega, by omega, by omega, by omega⟩, by omega, fun L hL => ?_⟩, w.2.2.2.2.2, e1⟩
    obtain ⟨M, J, hJ, r1, r2⟩ := hR L hL
    exact ⟨M, J, by rw [e]; exact KR_8 hJ _, by rw [e1]; exact r1, by rw [e1, u12]; exact r2⟩
  have wrd : ∀ {t : mSt} {x : Int} {k : Nat}, BH t → k < 19 → x = cW k → (iwR t x ↔ W t = (k : Int)) := fun {t x k} hI hk hx => by
    have y := fRt_x hI.1.2.1
    rw [iw_k hI.1.1.1 hk hx, y.2.1, y.2.2]
  have mid : ∀ t u v : mSt, GO t → FT1 t u → CLq u v → BH v ∧ skR t < skR v := by
    rintro t u v ⟨⟨q1, q2, q3, q4, q5, q6⟩, hR⟩ ⟨⟨f1, f2, f3, f4, f5⟩, f6, f7⟩ ⟨⟨c1, c2, c3, c4, c5, c6, c7⟩, c8⟩
    have xt := fRt_x q2
    have xu := fRt_x (fRt_t q2 f2)
    have xv := fRt_x (fRt_t (fRt_t q2 f2) c2)
    have bv := skR_b c1.1
    rw [xv.2.2] at bv
    rw [xt.2.1, xt.2.2] at f7
    rw [xu.2.1, xu.2.2] at c8
    refine ⟨⟨⟨c1, fRt_t (fRt_t q2 f2) c2, c4, c5, by omega, by omega⟩, by omega, fun L hL => ?_⟩, by omega⟩
    obtain ⟨M, J, hJ, r⟩ := hR L hL
    obtain ⟨M1, J1, hJ1, r1⟩ := f7 M J hJ
    obtain ⟨M2, J2, hJ2, n2, r2⟩ := c8 M1 J1 hJ1
    rw [c3]
    exact ⟨M2, J2, hJ2, n2, rch_t r (rch_t r1 r2)⟩
  have dep : ∀ t : mSt, GO t → FPq t t ∧ ∃ L K, KRq t L K := by
    rintro t ⟨⟨q1, q2, q3, q4, q5, q6⟩, hR⟩
    obtain ⟨M, J, hJ, r⟩ := hR L0 hL0
    have a : dpK J ≤ 10 := dp_r r (show dpK [] ≤ 10 by decide)
    have b := (dpK_b J).1
    have c := hJ.2.2.1
    exact ⟨⟨q1, fRt_0 t, q3, q4, by omega⟩, M, J, hJ⟩
  have ex : ∀ t : mSt, BH t → ∃ L K, KRq t L K := fun t hI => by
    obtain ⟨M, J, hJ, _⟩ := hI.2.2 L0 hL0
    exact ⟨M, J, hJ⟩
  have pas : ∀ (y w : Int) (t u : mSt), I76 y w t → u = uS t 407 8 (leT (TR t) (nR t) (t 407 8).toNat : Int) → RHq u ∧ fRt s u ∧ skR u = nxA (TR s) (nR s) (skR t) ∧ (∀ L K, KRq t L K → KRq u L K) ∧ (u 407 16 = t 407 16 ∧ u 407 12 = t 407 12 ∧ lnR u = lnR t) ∧ skR t < nR s ∧ skR t < skR u := by
    rintro y w t u ⟨⟨⟨q1, q2, q3, q4, q5, q6⟩, q7, hR⟩, e8, _, hw⟩ e
    have x := fRt_x q2
    have hk : tkK (TR s) (nR s) (skR t) = 257 := by
      rcases hw with z | z
      · exact w_257 (w := 17) (by decide) z.2
      · exact w_257 (w := 16) (by decide) z.2
    have tL := (tkL hT).1 hk
    have tp := tkP_L tL
    have nb := nxA_b (TR s) (Nat.le_of_lt tL.1)
    rw [x.2.1, x.2.2, e8, tnc] at e
    have lb := (leT_b (TR s) (nR s) (skR t)).2 (Nat.le_of_lt tL.1)
    have g := RG_8 q1 (a := leT (TR s) (nR s) (skR t)) (by rw [x.2.2]; exact lb)
    rw [← e] at g
    have ku : skR u = nxA (TR s) (nR s) (skR t) := by
      rw [g.2.1, x.2.1, x.2.2]; unfold nxA; rw [tp]
    exact ⟨RG_H q1 g.1, fRt_t q2 (fRv_T g.1.2.2.2.2), ku, fun L K hK => by rw [e]; exact KR_8 hK _, ⟨by rw [e, uS_at, if_neg (by decide)], g.2.2.2.2.1, g.2.2.1⟩, tL.1, by have := nb.2.2 tL.1; omega⟩
  refine v194 I12 (fun _ t => 6 * (1000 - skR t)) I54 (fun _ _ t => 6 * (1000 - skR t) + 5) I76 (fun _ _ t => 6 * (1000 - skR t) + 4) ?_ ?_ ?_ ?_ ?_ ?_ ?_ ?_ ?_ ?_ ?_ ?_ ?_ ?_ ?_ ?_ ?_ ?_ ?_ ?_ ?_ ?_ ?_ ?_
  · intro y t hI hy
    obtain ⟨q1, q2, q3, q4, q5, q6⟩ := (hI.1 hy).1.1
    have := q1.2.2.2.1
    omega
  · intro y t hI hy _
    exact (hI.1 hy).1.1.1.1
  · rintro y t hI hy _ v u ⟨_, e⟩
    have q := see t u (hI.1 hy).1 e
    have l := q.1.1.2.2.2.2.2
    refine ⟨by decide, ?_⟩
    rw [q.2.1]; omega
  · rintro y t hI hy hin v u ⟨_, e⟩ v4 w ⟨rfl, e2⟩
    have hB := (hI.1 hy).1
    have q := see t u hB e
    obtain ⟨⟨q1, q2, q3, q4, q5, q6⟩, q7, hR⟩ := q.1
    have e9 := q1.2.1
    have e3 := q.2.2
    have ew : w = uS u 407 9 (fuA (skR t) 0) := by
      rw [e2]; unfold flR; rw [if_pos e9, q.2.1, e3]; rfl
    have w9 : w 407 9 = fuA (skR t) 0 := by rw [ew, uS_at, if_pos rfl]
    refine k0 w ⟨by rw [w9]; unfold fuA; omega, by rw [ew]; exact fRt_u q2 _ (by decide), fun L hL => ?_⟩
    obtain ⟨M, J, hJ, n1, r⟩ := hB.2.2 L hL
    have m91 := (in_K hJ).1 hin
    have eB : mtB (TR s) (nR s) (skR t) (t 407 12) M J = bad (fuA (skR t) 0) := by
      unfold mtB
      rw [if_neg n1, if_neg (hI.1 hy).2.1, if_neg (hI.1 hy).2.2, if_pos m91]
    rw [eB] at r
    have z := ts_e hb.2.1 r (by show 0 ≤ fuA (skR t) 0; unfold fuA; omega)
    show (tsF (TR s) (nR s) (skR s) (s 407 12) L).1 = _
    rw [z, w9]; rfl
  · rintro y t hI hy _ v u _ v4 w ⟨rfl, _⟩
    exact Or.inl rfl
  · intro y t hI hy _
    have hB := (hI.1 hy).1
    obtain ⟨q1, q2, q3, q4, q5, q6⟩ := hB.1
    exact ⟨q1, ⟨q3, by omega⟩, ex t hB, by decide⟩
  · rintro y t hI hy hin u ⟨hD, hu⟩
    have hB := (hI.1 hy).1
    have hB2 := hB
    obtain ⟨⟨q1, q2, q3, q4, q5, q6⟩, q7, hR⟩ := hB
    have ku := LD_k hD
    have lD := hD.2.2.2.2
    obtain ⟨M0, J0, hJ0, _⟩ := hR L0 hL0
    have u16 := (hu M0 J0 hJ0).2.1
    refine k1 u ⟨⟨hD.1, fRt_t q2 hD.2.1, by omega, by omega⟩, fun L hL => ?_⟩
    obtain ⟨M, J, hJ, n1, r⟩ := hR L hL
    have m91 : ¬ 91 ∈ J := fun z => hin ((in_K hJ).2 z)
    have eB : mtB (TR s) (nR s) (skR t) (t 407 12) M J = (0, skR t, t 407 12, (lyD 1 M J).1, []) := by
      unfold mtB
      rw [if_neg n1, if_neg (hI.1 hy).2.1, if_neg (hI.1 hy).2.2, if_neg m91]
    rw [eB] at r
    have z := ts_e hb.2.1 r (by show (0 : Int) ≤ 0; decide)
    have z2 : tsR s L = (0, skR t, t 407 12, (lyD 1 M J).1, []) := z
    rw [z2]
    exact ⟨rfl, ku, hD.2.2.2.1.2, (hu M J hJ).2.2.2⟩
  · intro y t hI hy
    exact dep t (hI.2 hy)
  · rintro y t hI hy u ⟨⟨f1, f2, f3, f4, f5⟩, f6, f7⟩
    obtain ⟨_, L1, K1, hK1⟩ := dep t (hI.2 hy)
    obtain ⟨M1, J1, hJ1, _⟩ := f7 L1 K1 hK1
    exact ⟨f1, ⟨f3, f4⟩, M1, J1, hJ1⟩
  · intro y t hI hy u hu v hv
    exact hv.1.1.1
  · rintro y t hI hy u hu v hv w ⟨hw, e⟩
    have m := mid t u v (hI.2 hy) hu hv
    have q := see v w m.1 e
    have e3 := q.2.2
    have l := m.1.1.2.2.2.2.2
    have h17 := (wrd m.1 (k := 17) (by decide) cWd.2.2.2.1).1 hw
    refine ⟨⟨q.1, fun z => absurd z (by decide), fun _ => Or.inl ?_⟩, by show 6 * (1000 - skR w) + 5 < 6 * (1000 - skR t); have := m.2; omega⟩
    show wnA (TR s) (nR s) (skR w) = 17
    rw [e3]; exact h17
  · intro y t hI hy u hu v hv w hw
    have m := mid t u v (hI.2 hy) hu hv
    exact (see v w m.1 hw.2).1.1.1.1
  · rintro y t hI hy u hu v hv w ⟨hw, e⟩ x ⟨hx, e2⟩
    have m := mid t u v (hI.2 hy) hu hv
    have q := see v x m.1 (R8q e e2)
    have e3 := q.2.2
    have l := m.1.1.2.2.2.2.2
    have h16 := (wrd m.1 (k := 16) (by decide) cWd.2.2.1).1 ((iw9 e _).1 hx)
    refine ⟨⟨q.1, fun z => absurd z (by decide), fun _ => Or.inr ?_⟩, by show 6 * (1000 - skR x) + 5 < 6 * (1000 - skR t); have := m.2; omega⟩
    show wnA (TR s) (nR s) (skR x) = 16
    rw [e3]; exact h16
  · rintro y t hI hy u hu v hv w ⟨hw, e⟩ x ⟨hx, e2⟩
    have m := mid t u v (hI.2 hy) hu hv
    have q := see v x m.1 (R8q e e2)
    have e3 := q.2.2
    have l := m.1.1.2.2.2.2.2
    refine ⟨⟨q.1, fun _ => ⟨fun z => hw ((wrd m.1 (k := 17) (by decide) cWd.2.2.2.1).2 ?_), fun z => hx ((iw9 e _).2 ((wrd m.1 (k := 16) (by decide) cWd.2.2.1).2 ?_))⟩, fun z => absurd rfl z⟩, by show 6 * (1000 - skR x) + 5 < 6 * (1000 - skR t); have := m.2; omega⟩
    · show wnA (TR s) (nR s) (skR v) = 17
      rw [← e3]; exact z
    · show wnA (TR s) (nR s) (skR v) = 16
      rw [← e3]; exact z
  · rintro y t hI hy u ⟨f1, f2, f3⟩
    obtain ⟨⟨q1, q2, q3, q4, q5, q6⟩, hR⟩ := hI.2 hy
    have xt := fRt_x q2
    rw [xt.2.1, xt.2.2] at f3
    refine k0 u ⟨f1, fRt_t q2 f2, fun L hL => ?_⟩
    obtain ⟨M, J, hJ, r⟩ := hR L hL
    have z := ts_e hb.2.1 (rch_t r (f3 M J hJ)) (by show 0 ≤ u 407 9; omega)
    show (tsF (TR s) (nR s) (skR s) (s 407 12) L).1 = _
    rw [z]; rfl
  · rintro y w t ⟨h1, h2, h3⟩ rfl
    exact ⟨⟨fun _ => ⟨h1, h2 rfl⟩, fun z => absurd rfl z⟩, by show 6 * (1000 - skR t) < 6 * (1000 - skR t) + 5; omega⟩
  · rintro y w t ⟨h1, h2, h3⟩ _
    exact h1.1.1.1
  · rintro y w t ⟨h1, h2, h3⟩ hw u ⟨hu, e⟩
    have q := see t u h1 e
    have e3 := q.2.2
    have h17 := (wrd h1 (k := 17) (by decide) cWd.2.2.2.1).1 hu
    refine ⟨⟨q.1, q.2.1, hw, Or.inl ⟨rfl, ?_⟩⟩, by show 6 * (1000 - skR u) + 4 < 6 * (1000 - skR t) + 5; omega⟩
    show wnA (TR s) (nR s) (skR u) = 17
    rw [e3]; exact h17
  · rintro y w t ⟨h1, h2, h3⟩ hw u ⟨hu, e⟩
    have q := see t u h1 e
    have e3 := q.2.2
    have h16 : wnA (TR s) (nR s) (skR t) = 16 := by
      rcases h3 hw with z | z
      · exact absurd ((wrd h1 (k := 17) (by decide) cWd.2.2.2.1).2 z) hu
      · exact z
    refine ⟨⟨q.1, q.2.1, hw, Or.inr ⟨rfl, ?_⟩⟩, by show 6 * (1000 - skR u) + 4 < 6 * (1000 - skR t) + 5; omega⟩
    show wnA (TR s) (nR s) (skR u) = 16
    rw [e3]; exact h16
  · intro y w t hI
    exact hI.1.1.1.1
  · intro y w t hI u e
    have q := pas y w t u hI e
    obtain ⟨L1, K1, hK1⟩ := ex t hI.1
    obtain ⟨q1, q2, q3, q4, q5, q6⟩ := hI.1.1
    refine ⟨q.1, ⟨by rw [q.2.2.2.2.1.1]; exact q3, by rw [q.2.2.2.2.1.1, q.2.2.2.2.1.2.2]; omega⟩, ⟨L1, K1, q.2.2.2.1 L1 K1 hK1⟩, ?_⟩
    rcases hI.2.2.2 with ⟨rfl, _⟩ | ⟨rfl, _⟩ <;> decide
  · rintro y w t hI u e v ⟨hD, hv⟩
    have q := pas y w t u hI e
    obtain ⟨L1, K1, hK1⟩ := ex t hI.1
    obtain ⟨q1, q2, q3, q4, q5, q6⟩ := hI.1.1
    have a := (hv _ _ (q.2.2.2.1 L1 K1 hK1)).2.1
    have lD := hD.2.2.2.2
    have l0 := hD.1.2.2.2.1
    have a1 := q.2.2.2.2.1.1
    have a2 := q.2.2.2.2.1.2.2
    have a3 := q.2.2.2.2.2.1
    omega
  · rintro y w t hI u e v ⟨hD, hv⟩
    have q := pas y w t u hI e
    obtain ⟨L1, K1, hK1⟩ := ex t hI.1
    have hw := hI.2.2.2
    obtain ⟨⟨q1, q2, q3, q4, q5, q6⟩, q7, hR⟩ := hI.1
    have a := (hv _ _ (q.2.2.2.1 L1 K1 hK1)).2.1
    have lD := hD.2.2.2.2
    have l0 := hD.1.2.2.2.1
    have a1 := q.2.2.2.2.1.1
    have a2 := q.2.2.2.2.1.2.2
    have a3 := q.2.2.2.2.2.1
    have a4 := q.2.2.2.2.2.2
    have kv := LD_k hD
    have i16 : (uS v 414 (v 407 16).toNat w) 407 16 = v 407 16 := by rw [uS_cell (by decide)]
    rw [i16, w32_of (by omega)]
    generalize ez : uS (uS v 414 (v 407 16).toNat w) 407 16 (v 407 16 + 1) = z
    have g := psh_g ez.symm
    have ku := q.2.2.1
    have xz := fRt_x (fRt_t (fRt_t q.2.1 hD.2.1) g.1)
    have bz := skR_b (g.2.2.2.2.2 hD.1).1
    rw [xz.2.2] at bz
    have g1 := g.2.1
    have g2 := g.2.2.1
    have g3 := g.2.2.2.2.1
    refine ⟨⟨fun z => absurd z hI.2.2.1, fun _ => ⟨⟨g.2.2.2.2.2 hD.1, fRt_t (fRt_t q.2.1 hD.2.1) g.1, by omega, by omega, by omega, by omega⟩, fun L hL => ?_⟩⟩, by show 6 * (1000 - skR z) < 6 * (1000 - skR t) + 4; omega⟩
    obtain ⟨M, J, hJ, n1, r⟩ := hR L hL
    have kz : skR z = nxA (TR s) (nR s) (skR t) := by omega
    have z12 : z 407 12 = t 407 12 := by rw [g.2.2.2.1, hD.2.2.2.1.2, q.2.2.2.2.1.2.1]
    have hJv := hv M J (q.2.2.2.1 M J hJ)
    rw [kz, z12]
    rcases hw with ⟨rfl, h17⟩ | ⟨rfl, h16⟩
    · refine ⟨_, _, psh_a (Or.inl rfl) (by decide) hJv ez.symm, ?_⟩
      have eB : mtB (TR s) (nR s) (skR t) (t 407 12) M J = (-1, nxA (TR s) (nR s) (skR t), t 407 12, (lyD 2 M J).1, 200010 :: (lyD 2 M J).2) := by
        unfold mtB
        rw [if_neg n1, if_pos h17]
      rw [eB] at r
      exact r
    · refine ⟨_, _, psh_a (Or.inr rfl) (by decide) hJv ez.symm, ?_⟩
      have n17 : ¬ wnA (TR s) (nR s) (skR t) = 17 := fun y => by have h16' : wnA (TR s) (nR s) (skR t) = 16 := h16; omega
      have eB : mtB (TR s) (nR s) (skR t) (t 407 12) M J = (-1, nxA (TR s) (nR s) (skR t), t 407 12, (lyD 1 M J).1, 200011 :: (lyD 1 M J).2) := by
        unfold mtB
        rw [if_neg n1, if_neg n17, if_pos h16]
      rw [eB] at r
      exact r
  · generalize et : uS (uS s 407 16 0) 407 13 0 = t
    have t7 : ∀ j, t 407 j = if j = 13 then 0 else if j = 16 then 0 else s 407 j := fun j => by rw [← et, uS_at, uS_at]
    have ft : fRt s t := by rw [← et]; exact fRt_u (fRt_u (fRt_0 s) _ (by decide)) _ (by decide)
    have tl : lnR t = lnR s := by rw [← et, lnR_u _ _ (by decide), lnR_u _ _ (by decide)]
    have tb : sgB t = sgB s := by rw [← et, sgB_8 _ _ (by decide), sgB_8 _ _ (by decide)]
    have tk : skR t = skR s := by rw [← et, skR_o _ _ (by decide) (by decide), skR_o _ _ (by decide) (by decide)]
    have t16 : t 407 16 = 0 := by rw [t7]; rfl
    have t13 : t 407 13 = 0 := by rw [t7]; rfl
    have t12 : t 407 12 = s 407 12 := by rw [t7]; rfl
    have hR : RHq t := ⟨by rw [← et]; exact TRq_o (TRq_o h.1 _ (by decide) (by decide)) _ (by decide) (by decide), by rw [t7]; exact h.2.1, by rw [t7]; exact h.2.2.1, by rw [tl]; exact h.2.2.2.1, by rw [t7]; exact h.2.2.2.2⟩
    refine ⟨fun z => absurd z (by decide), fun _ => ⟨⟨hR, ft, by omega, by omega, by omega, by omega⟩, fun L hL => ⟨L, [], ⟨by rw [t16]; rfl, by omega, by rw [t13]; rfl, by unfold SGq; rw [tb]; exact hL⟩, by rw [tk, t12]; exact rch_0 _⟩⟩⟩
