/-! days of drawn illness: the faces -/
theorem v159 {X : (Nat → Int) × Nat} {d : Nat} {s : mSt} {Q : mQ} {x1 : Int} {x2 : Int} {x3 : Int} {x4 : Int}
  (z1 : 0 < s 18 0 → x1 < 1 → Q (some (mI (-1))) s)
  (z2 : 0 < s 18 0 → ¬ x1 < 1 → 5 < x1 → Q (some (mI (-1))) s)
  (z3 : 0 < s 18 0 → ¬ x1 < 1 → ¬ 5 < x1 → x2 < 1 → Q (some (mI (-1))) s)
  (z4 : 0 < s 18 0 → ¬ x1 < 1 → ¬ 5 < x1 → ¬ x2 < 1 → 9 < x2 → Q (some (mI (-1))) s)
  (z5 : 0 < s 18 0 → ¬ x1 < 1 → ¬ 5 < x1 → ¬ x2 < 1 → ¬ 9 < x2 → x3 < 0 → Q (some (mI (-1))) s)
  (z6 : 0 < s 18 0 → ¬ x1 < 1 → ¬ 5 < x1 → ¬ x2 < 1 → ¬ 9 < x2 → ¬ x3 < 0 → 100 < x3 → Q (some (mI (-1))) s)
  (z7 : 0 < s 18 0 → ¬ x1 < 1 → ¬ 5 < x1 → ¬ x2 < 1 → ¬ 9 < x2 → ¬ x3 < 0 → ¬ 100 < x3 → x4 < 0 → Q (some (mI (-1))) s)
  (z8 : 0 < s 18 0 → ¬ x1 < 1 → ¬ 5 < x1 → ¬ x2 < 1 → ¬ 9 < x2 → ¬ x3 < 0 → ¬ 100 < x3 → ¬ x4 < 0 → x4 ≤ 1 → FCq s)
  (z9 : 0 < s 18 0 → ¬ x1 < 1 → ¬ 5 < x1 → ¬ x2 < 1 → ¬ 9 < x2 → ¬ x3 < 0 → ¬ 100 < x3 → ¬ x4 < 0 → x4 ≤ 1 → BI s (7 + 11) ∧ ¬ s (7 + 11) 0 = 0 ∧ oRq s (frC s) ∧ brow s (7 + 11) 5 ≤ 999 ∧ (0 ≤ s 7 4 ∧ s 7 4 < 2147483648) ∧ (0 ≤ x1 ∧ x1 ≤ 5) ∧ (0 ≤ x2 ∧ x2 ≤ 9))
  (z10 : 0 < s 18 0 → ¬ x1 < 1 → ¬ 5 < x1 → ¬ x2 < 1 → ¬ 9 < x2 → ¬ x3 < 0 → ¬ 100 < x3 → ¬ x4 < 0 → x4 ≤ 1 → ∀ s17 : mSt, (s17 53 7 = (ilY (ruC s (frC s)) x3 x2.toNat (brow s (7 + 11)) (s 7 4) x1.toNat).1 ∧ s17 53 8 = (ilY (ruC s (frC s)) x3 x2.toNat (brow s (7 + 11)) (s 7 4) x1.toNat).2.1 ∧ fIl s s17) → ¬ x4 = 0 → Q (some (mI (s17 53 8))) s17)
  (z11 : 0 < s 18 0 → ¬ x1 < 1 → ¬ 5 < x1 → ¬ x2 < 1 → ¬ 9 < x2 → ¬ x3 < 0 → ¬ 100 < x3 → ¬ x4 < 0 → x4 ≤ 1 → ∀ s17 : mSt, (s17 53 7 = (ilY (ruC s (frC s)) x3 x2.toNat (brow s (7 + 11)) (s 7 4) x1.toNat).1 ∧ s17 53 8 = (ilY (ruC s (frC s)) x3 x2.toNat (brow s (7 + 11)) (s 7 4) x1.toNat).2.1 ∧ fIl s s17) → x4 = 0 → Q (some (mI (s17 53 7))) s17)
  (z12 : 0 < s 18 0 → ¬ x1 < 1 → ¬ 5 < x1 → ¬ x2 < 1 → ¬ 9 < x2 → ¬ x3 < 0 → ¬ 100 < x3 → ¬ x4 < 0 → ¬ x4 ≤ 1 → Q (some (mI (-1))) s)
  (z13 : ¬ (0 < s 18 0) → Q (some (mI (-1))) s) :
  Sp X (d + 12) 159 [mR 0, mI x1, mI x2, mI x3, mI x4] s Q := e159 (b159_0 (c6 (bdm rfl) (fun q1 => ⟨1, rfl, b159_10 (fun q => absurd q (by decide)) (fun _ => b159_13 (fun q2 => b159_55 (z1 q1 q2)) (fun q3 => b159_18 (fun q4 => b159_55 (z2 q1 q3 q4)) (fun q5 => b159_23 (fun q6 => b159_55 (z3 q1 q3 q5 q6)) (fun q7 => b159_28 (fun q8 => b159_55 (z4 q1 q3 q5 q7 q8)) (fun q9 => b159_34 (fun q10 => b159_55 (z5 q1 q3 q5 q7 q9 q10)) (fun q11 => b159_38 (fun q12 => b159_55 (z6 q1 q3 q5 q7 q9 q11 q12)) (fun q13 => b159_44 (fun q14 => b159_55 (z7 q1 q3 q5 q7 q9 q11 q13 q14)) (fun q15 => b159_49 (fun q16 => b159_57 (c164 (z8 q1 q3 q5 q7 q9 q11 q13 q15 q16) ⟨_, rfl, b159_69 (c113 (scm rfl) (z9 q1 q3 q5 q7 q9 q11 q13 q15 q16) (fun s17 q17 => ⟨rfl, b159_75 (fun q18 => b159_90 (b159_97 (z10 q1 q3 q5 q7 q9 q11 q13 q15 q16 s17 q17 q18))) (fun q19 => b159_80 (b159_97 (z11 q1 q3 q5 q7 q9 q11 q13 q15 q16 s17 q17 q19)))⟩))⟩)) (fun q20 => b159_55 (z12 q1 q3 q5 q7 q9 q11 q13 q15 q20))))))))))⟩) (fun q21 => ⟨0, rfl, b159_10 (fun _ => b159_55 (z13 q21)) (fun q => absurd q (by decide))⟩)))

theorem c159 {X : (Nat → Int) × Nat} {d : Nat} {s : mSt} {Q : mQ} {x1 : Int} {x2 : Int} {x3 : Int} {x4 : Int} (p1 : BI s 18 ∧ FCq s ∧ oRq s (frC s) ∧ brow s 18 5 ≤ 999 ∧ (0 ≤ s 7 4 ∧ s 7 4 < 2147483648)) (k : ∀ (v : Int) (t : mSt), (iqQ (brow s 18) (ruC s (frC s)) (s 7 4) x1 x2 x3 x4 v ∧ fIl s t) → Q (some (mI v)) t) : Sp X (d + 12) 159 [mR 0, mI x1, mI x2, mI x3, mI x4] s Q := by
  obtain ⟨hB, hF, hO, h5, hx⟩ := p1
  have b0 := hB.2.2.2.2.1
  have e0 := brw_0 (s := s) (k := 18)
  have no : ¬ (0 < s 18 0 ∧ (1 ≤ x1 ∧ x1 ≤ 5) ∧ (1 ≤ x2 ∧ x2 ≤ 9) ∧ (0 ≤ x3 ∧ x3 ≤ 100) ∧ (0 ≤ x4 ∧ x4 ≤ 1)) → Q (some (mI (-1))) s := fun w => k _ s ⟨YN_n (fun z => w ⟨by
    by_cases z0 : s 18 0 = 0
    · rw [if_pos z0] at e0; omega
    · omega, z.2⟩) rfl, ⟨fun _ _ _ _ => rfl, fun _ _ => rfl⟩⟩
  have ys : ∀ (r : Int) (t : mSt), 0 < s 18 0 → ((1 ≤ x1 ∧ x1 ≤ 5) ∧ (1 ≤ x2 ∧ x2 ≤ 9) ∧ (0 ≤ x3 ∧ x3 ≤ 100) ∧ (0 ≤ x4 ∧ x4 ≤ 1)) → (r = if x4 = 0 then (ilY (ruC s (frC s)) x3 x2.toNat (brow s 18) (s 7 4) x1.toNat).1 else (ilY (ruC s (frC s)) x3 x2.toNat (brow s 18) (s 7 4) x1.toNat).2.1) → fIl s t → Q (some (mI r)) t := fun r t g1 g2 e ht => k _ t ⟨YN_y ⟨by rw [if_neg (by omega)] at e0; exact e0, g2⟩ e, ht⟩
  refine v159 (fun g1 g2 => no (by omega)) (fun g1 g2 g3 => no (by omega)) (fun g1 g2 g3 g4 => no (by omega)) (fun g1 g2 g3 g4 g5 => no (by omega)) (fun g1 g2 g3 g4 g5 g6 => no (by omega)) (fun g1 g2 g3 g4 g5 g6 g7 => no (by omega)) (fun g1 g2 g3 g4 g5 g6 g7 g8 => no (by omega)) (fun _ _ _ _ _ _ _ _ _ => hF) (fun g1 g2 g3 g4 g5 g6 g7 g8 g9 => ⟨hB, by show ¬ s 18 0 = 0; omega, hO, h5, hx, by omega, by omega⟩) (fun g1 g2 g3 g4 g5 g6 g7 g8 g9 t ht q => ?_) (fun g1 g2 g3 g4 g5 g6 g7 g8 g9 t ht q => ?_) (fun g1 g2 g3 g4 g5 g6 g7 g8 g9 => no (by omega)) (fun g1 => no (fun z => g1 z.1))
  · exact ys _ t g1 (by omega) (by rw [if_neg q]; exact ht.2.1) ht.2.2
  · exact ys _ t g1 (by omega) (by rw [if_pos q]; exact ht.1) ht.2.2
def fXi (s t : mSt) : Prop := (∀ b, ¬ (b = 407 ∨ b = 415 ∨ b = 416 ∨ 418 ≤ b ∧ b ≤ 422 ∨ b = 429) → t b = s b) ∧ ∀ j, ¬ (j = 18 ∨ 28 ≤ j ∧ j ≤ 35 ∨ j = 53) → t 407 j = s 407 j
theorem v305 {X : (Nat → Int) × Nat} {d : Nat} {s : mSt} {Q : mQ} {x1 : Int} {x2 : Int} {x3 : Int} {x4 : Int}
  (I78 : Int → Int → Int → mSt → Prop) (m78 : Int → Int → Int → mSt → Nat)
  (I87 : Int → Int → Int → Int → mSt → Prop) (m87 : Int → Int → Int → Int → mSt → Nat)
  (z1 : ∀ y5 : Int, ∀ y6 : Int, ∀ y7 : Int, ∀ s : mSt, I78 y5 y6 y7 s → x1 ≤ y7 → ¬ x4 = 0 → Q (some (mI y6)) s)
  (z2 : ∀ y5 : Int, ∀ y6 : Int, ∀ y7 : Int, ∀ s : mSt, I78 y5 y6 y7 s → x1 ≤ y7 → x4 = 0 → Q (some (mI y5)) s)
  (z3 : ∀ y5 : Int, ∀ y6 : Int, ∀ y7 : Int, ∀ s : mSt, I78 y5 y6 y7 s → ¬ x1 ≤ y7 → I87 y5 y6 y7 0 s ∧ m87 y5 y6 y7 0 s < m78 y5 y6 y7 s)
  (z4 : ∀ y5 : Int, ∀ y6 : Int, ∀ y7 : Int, ∀ y8 : Int, ∀ s : mSt, I87 y5 y6 y7 y8 s → x2 ≤ y8 → Ok (s 417))
  (z5 : ∀ y5 : Int, ∀ y6 : Int, ∀ y7 : Int, ∀ y8 : Int, ∀ s : mSt, I87 y5 y6 y7 y8 s → x2 ≤ y8 → ∀ t6 : mSt, t6 = uR s (lbk (s 417) (s 429)) → I78 (w32 (y5 + (cn (pl (s 417)) (nc (s 417))))) (w32 (y6 + (kpa (s 417)))) (w32 (y7 + 1)) t6 ∧ m78 (w32 (y5 + (cn (pl (s 417)) (nc (s 417))))) (w32 (y6 + (kpa (s 417)))) (w32 (y7 + 1)) t6 < m87 y5 y6 y7 y8 s)
  (z6 : ∀ y5 : Int, ∀ y6 : Int, ∀ y7 : Int, ∀ y8 : Int, ∀ s : mSt, I87 y5 y6 y7 y8 s → ¬ x2 ≤ y8 → (0 ≤ s 407 53 ∧ s 407 53 < 2147483648) ∧ 0 < (100 : Int))
  (z7 : ∀ y5 : Int, ∀ y6 : Int, ∀ y7 : Int, ∀ y8 : Int, ∀ s : mSt, I87 y5 y6 y7 y8 s → ¬ x2 ≤ y8 → ∀ t8 : mSt, t8 = uS s 407 53 (drN (s 407 53)) → x3 ≤ (drN (s 407 53) / 65536 % (100 : Int)) → Ok (t8 417) ∧ FOq t8 ∧ t8 417 5 < 1000000)
  (z8 : ∀ y5 : Int, ∀ y6 : Int, ∀ y7 : Int, ∀ y8 : Int, ∀ s : mSt, I87 y5 y6 y7 y8 s → ¬ x2 ≤ y8 → ∀ t8 : mSt, t8 = uS s 407 53 (drN (s 407 53)) → x3 ≤ (drN (s 407 53) / 65536 % (100 : Int)) → ∀ v10 : Int, ∀ s10 : mSt, (v10 = chA (ruR t8 (t8 417)) (t8 417) ∧ s10 417 = stR (ruR t8 (t8 417)) (t8 417) ∧ fV t8 s10) → I87 y5 y6 y7 (w32 (y8 + 1)) s10 ∧ m87 y5 y6 y7 (w32 (y8 + 1)) s10 < m87 y5 y6 y7 y8 s)
  (z9 : ∀ y5 : Int, ∀ y6 : Int, ∀ y7 : Int, ∀ y8 : Int, ∀ s : mSt, I87 y5 y6 y7 y8 s → ¬ x2 ≤ y8 → ∀ t8 : mSt, t8 = uS s 407 53 (drN (s 407 53)) → ¬ x3 ≤ (drN (s 407 53) / 65536 % (100 : Int)) → (t8 417 4) ≤ 0 → Ok (t8 417) ∧ FOq t8 ∧ t8 417 5 < 1000000)
  (z10 : ∀ y5 : Int, ∀ y6 : Int, ∀ y7 : Int, ∀ y8 : Int, ∀ s : mSt, I87 y5 y6 y7 y8 s → ¬ x2 ≤ y8 → ∀ t8 : mSt, t8 = uS s 407 53 (drN (s 407 53)) → ¬ x3 ≤ (drN (s 407 53) / 65536 % (100 : Int)) → (t8 417 4) ≤ 0 → ∀ v13 : Int, ∀ s13 : mSt, (v13 = chA (ruR t8 (t8 417)) (t8 417) ∧ s13 417 = stR (ruR t8 (t8 417)) (t8 417) ∧ fV t8 s13) → I87 y5 y6 y7 (w32 (y8 + 1)) s13 ∧ m87 y5 y6 y7 (w32 (y8 + 1)) s13 < m87 y5 y6 y7 y8 s)
  (z11 : ∀ y5 : Int, ∀ y6 : Int, ∀ y7 : Int, ∀ y8 : Int, ∀ s : mSt, I87 y5 y6 y7 y8 s → ¬ x2 ≤ y8 → ∀ t8 : mSt, t8 = uS s 407 53 (drN (s 407 53)) → ¬ x3 ≤ (drN (s 407 53) / 65536 % (100 : Int)) → ¬ (t8 417 4) ≤ 0 → (0 ≤ t8 407 53 ∧ t8 407 53 < 2147483648) ∧ 0 < (t8 417 4))
  (z12 : ∀ y5 : Int, ∀ y6 : Int, ∀ y7 : Int, ∀ y8 : Int, ∀ s : mSt, I87 y5 y6 y7 y8 s → ¬ x2 ≤ y8 → ∀ t8 : mSt, t8 = uS s 407 53 (drN (s 407 53)) → ¬ x3 ≤ (drN (s 407 53) / 65536 % (100 : Int)) → ¬ (t8 417 4) ≤ 0 → ∀ t15 : mSt, t15 = uS t8 407 53 (drN (t8 407 53)) → 0 ≤ (drN (t8 407 53) / 65536 % (t8 417 4)) ∧ (drN (t8 407 53) / 65536 % (t8 417 4)) < 6)
  (z13 : ∀ y5 : Int, ∀ y6 : Int, ∀ y7 : Int, ∀ y8 : Int, ∀ s : mSt, I87 y5 y6 y7 y8 s → ¬ x2 ≤ y8 → ∀ t8 : mSt, t8 = uS s 407 53 (drN (s 407 53)) → ¬ x3 ≤ (drN (s 407 53) / 65536 % (100 : Int)) → ¬ (t8 417 4) ≤ 0 → ∀ t15 : mSt, t15 = uS t8 407 53 (drN (t8 407 53)) → ∀ t16 : mSt, t16 = uR t15 (wtR (t15 417) (drN (t8 407 53) / 65536 % (t8 417 4)).toNat) → Ok (t16 417) ∧ FOq t16 ∧ t16 417 5 < 1000000)
  (z14 : ∀ y5 : Int, ∀ y6 : Int, ∀ y7 : Int, ∀ y8 : Int, ∀ s : mSt, I87 y5 y6 y7 y8 s → ¬ x2 ≤ y8 → ∀ t8 : mSt, t8 = uS s 407 53 (drN (s 407 53)) → ¬ x3 ≤ (drN (s 407 53) / 65536 % (100 : Int)) → ¬ (t8 417 4) ≤ 0 → ∀ t15 : mSt, t15 = uS t8 407 53 (drN (t8 407 53)) → ∀ t16 : mSt, t16 = uR t15 (wtR (t15 417) (drN (t8 407 53) / 65536 % (t8 417 4)).toNat) → ∀ v17 : Int, ∀ s17 : mSt, (v17 = chA (ruR t16 (t16 417)) (t16 417) ∧ s17 417 = stR (ruR t16 (t16 417)) (t16 417) ∧ fV t16 s17) → I87 y5 y6 y7 (w32 (y8 + 1)) s17 ∧ m87 y5 y6 y7 (w32 (y8 + 1)) s17 < m87 y5 y6 y7 y8 s)
  (z15 : s 417 0 = 1 → ((1 : Int) ≤ x1 ∧ x1 ≤ (5 : Int)) → ((1 : Int) ≤ x2 ∧ x2 ≤ (9 : Int)) → ((0 : Int) ≤ x3 ∧ x3 ≤ (100 : Int)) → ((0 : Int) ≤ x4 ∧ x4 ≤ (1 : Int)) → ∀ t23 : mSt, t23 = uS s 407 53 (s 407 22) → ∀ t24 : mSt, t24 = uC t23 429 (kpR (t23 417) (t23 429)) → I78 0 0 0 t24)
  (z16 : s 417 0 = 1 → ((1 : Int) ≤ x1 ∧ x1 ≤ (5 : Int)) → ((1 : Int) ≤ x2 ∧ x2 ≤ (9 : Int)) → ((0 : Int) ≤ x3 ∧ x3 ≤ (100 : Int)) → (¬ ((0 : Int) ≤ x4 ∧ x4 ≤ (1 : Int))) → Q (some (mI (-1))) s)
  (z17 : s 417 0 = 1 → ((1 : Int) ≤ x1 ∧ x1 ≤ (5 : Int)) → ((1 : Int) ≤ x2 ∧ x2 ≤ (9 : Int)) → (¬ ((0 : Int) ≤ x3 ∧ x3 ≤ (100 : Int))) → Q (some (mI (-1))) s)
  (z18 : s 417 0 = 1 → ((1 : Int) ≤ x1 ∧ x1 ≤ (5 : Int)) → (¬ ((1 : Int) ≤ x2 ∧ x2 ≤ (9 : Int))) → Q (some (mI (-1))) s)
  (z19 : s 417 0 = 1 → (¬ ((1 : Int) ≤ x1 ∧ x1 ≤ (5 : Int))) → Q (some (mI (-1))) s)
  (z20 : ¬ (s 417 0 = 1) → Q (some (mI (-1))) s) :
  Sp X (d + 8) 305 [mR 407, mI x1, mI x2, mI x3, mI x4] s Q := by
  have L : ∀ k : Nat, (∀ (y5 : Int) (y6 : Int) (y7 : Int) (l8 : Option mV) (s : mSt), I78 y5 y6 y7 s → m78 y5 y6 y7 s < k → Wp X (d + 8) 305 78 [some (mR 407), some (mI x1), some (mI x2), some (mI x3), some (mI x4), some (mI y5), some (mI y6), some (mI y7), l8] [] s Q) ∧ (∀ (y5 : Int) (y6 : Int) (y7 : Int) (y8 : Int) (s : mSt), I87 y5 y6 y7 y8 s → m87 y5 y6 y7 y8 s < k → Wp X (d + 8) 305 87 [some (mR 407), some (mI x1), some (mI x2), some (mI x3), some (mI x4), some (mI y5), some (mI y6), some (mI y7), some (mI y8)] [] s Q) := by
    intro k
    induction k with
    | zero => exact ⟨fun _ _ _ _ _ _ h => absurd h (Nat.not_lt_zero _), fun _ _ _ _ _ _ h => absurd h (Nat.not_lt_zero _)⟩
    | succ k ih => exact ⟨fun y5 y6 y7 l8 s hI hm => b305_78 (fun q1 => b305_165 (fun q2 => b305_175 (b305_177 (z1 y5 y6 y7 s hI q1 q2))) (fun q3 => b305_170 (b305_177 (z2 y5 y6 y7 s hI q1 q3)))) (fun q4 => b305_84 (ih.2 y5 y6 y7 0 s (z3 y5 y6 y7 s hI q4).1 (Nat.lt_of_lt_of_le (z3 y5 y6 y7 s hI q4).2 (Nat.le_of_lt_succ hm)))), fun y5 y6 y7 y8 s hI hm => b305_87 (fun q5 => b305_137 (c285 (z4 y5 y6 y7 y8 s hI q5) ⟨_, rfl, b305_143 (c226 (z4 y5 y6 y7 y8 s hI q5) ⟨_, rfl, b305_152 (c278  ⟨rfl, Wp_gen (fun t6 e6 => b305_159 (ih.1 (w32 (y5 + (cn (pl (s 417)) (nc (s 417))))) (w32 (y6 + (kpa (s 417)))) (w32 (y7 + 1)) (some (mI y8)) t6 (z5 y5 y6 y7 y8 s hI q5 t6 e6).1 (Nat.lt_of_lt_of_le (z5 y5 y6 y7 y8 s hI q5 t6 e6).2 (Nat.le_of_lt_succ hm))))⟩)⟩)⟩)) (fun q7 => b305_93 (c304 (z6 y5 y6 y7 y8 s hI q7) ⟨_, rfl, Wp_gen (fun t8 e8 => b305_99 (fun q9 => b305_126 (c251 (z7 y5 y6 y7 y8 s hI q7 t8 e8 q9) (fun v10 s10 q10 => ⟨v10, rfl, b305_130 (ih.2 y5 y6 y7 (w32 (y8 + 1)) s10 (z8 y5 y6 y7 y8 s hI q7 t8 e8 q9 v10 s10 q10).1 (Nat.lt_of_lt_of_le (z8 y5 y6 y7 y8 s hI q7 t8 e8 q9 v10 s10 q10).2 (Nat.le_of_lt_succ hm)))⟩))) (fun q11 => b305_103 (fun q12 => b305_126 (c251 (z9 y5 y6 y7 y8 s hI q7 t8 e8 q11 q12) (fun v13 s13 q13 => ⟨v13, rfl, b305_130 (ih.2 y5 y6 y7 (w32 (y8 + 1)) s13 (z10 y5 y6 y7 y8 s hI q7 t8 e8 q11 q12 v13 s13 q13).1 (Nat.lt_of_lt_of_le (z10 y5 y6 y7 y8 s hI q7 t8 e8 q11 q12 v13 s13 q13).2 (Nat.le_of_lt_succ hm)))⟩))) (fun q14 => b305_112 (c304 (z11 y5 y6 y7 y8 s hI q7 t8 e8 q11 q14) ⟨_, rfl, Wp_gen (fun t15 e15 => b305_123 (c246 (z12 y5 y6 y7 y8 s hI q7 t8 e8 q11 q14 t15 e15) ⟨rfl, Wp_gen (fun t16 e16 => b305_126 (c251 (z13 y5 y6 y7 y8 s hI q7 t8 e8 q11 q14 t15 e15 t16 e16) (fun v17 s17 q17 => ⟨v17, rfl, b305_130 (ih.2 y5 y6 y7 (w32 (y8 + 1)) s17 (z14 y5 y6 y7 y8 s hI q7 t8 e8 q11 q14 t15 e15 t16 e16 v17 s17 q17).1 (Nat.lt_of_lt_of_le (z14 y5 y6 y7 y8 s hI q7 t8 e8 q11 q14 t15 e15 t16 e16 v17 s17 q17).2 (Nat.le_of_lt_succ hm)))⟩)))⟩))⟩))))⟩))⟩
  exact e305 (b305_0 (c212  (fun q18 => ⟨1, rfl, b305_4 (fun q => absurd q (by decide)) (fun _ => b305_7 (c167  (fun q19 => ⟨1, rfl, b305_16 (fun q => absurd q (by decide)) (fun _ => b305_19 (c167  (fun q20 => ⟨1, rfl, b305_28 (fun q => absurd q (by decide)) (fun _ => b305_31 (c167  (fun q21 => ⟨1, rfl, b305_40 (fun q => absurd q (by decide)) (fun _ => b305_43 (c167  (fun q22 => ⟨1, rfl, b305_51 (fun _ => b305_56 (Sp_gen (fun t23 e23 => (c277  ⟨rfl, Wp_gen (fun t24 e24 => b305_75 ((L (m78 0 0 0 t24 + 1)).1 0 0 0 none t24 (z15 q18 q19 q20 q21 q22 t23 e23 t24 e24) (Nat.lt_succ_self _)))⟩)))) (fun q => absurd q (by decide))⟩) (fun q25 => ⟨0, rfl, b305_51 (fun q => absurd q (by decide)) (fun _ => b305_54 (z16 q18 q19 q20 q21 q25))⟩)))⟩) (fun q26 => ⟨0, rfl, b305_40 (fun _ => b305_54 (z17 q18 q19 q20 q26)) (fun q => absurd q (by decide))⟩)))⟩) (fun q27 => ⟨0, rfl, b305_28 (fun _ => b305_54 (z18 q18 q19 q27)) (fun q => absurd q (by decide))⟩)))⟩) (fun q28 => ⟨0, rfl, b305_16 (fun _ => b305_54 (z19 q18 q28)) (fun q => absurd q (by decide))⟩)))⟩) (fun q29 => ⟨0, rfl, b305_4 (fun _ => b305_54 (z20 q29)) (fun q => absurd q (by decide))⟩)))

theorem c305 {X : (Nat → Int) × Nat} {d : Nat} {s : mSt} {Q : mQ} {x1 : Int} {x2 : Int} {x3 : Int} {x4 : Int} (p1 : Ok (s 417) ∧ FOq s ∧ s 417 5 ≤ 999 ∧ (0 ≤ s 407 22 ∧ s 407 22 < 2147483648)) (k : ∀ (v : Int) (t : mSt), (iqQ (s 417) (ruR s) (s 407 22) x1 x2 x3 x4 v ∧ fXi s t) → Q (some (mI v)) t) : Sp X (d + 8) 305 [mR 407, mI x1, mI x2, mI x3, mI x4] s Q := by
  obtain ⟨h, hF, h5, hx⟩ := p1
  have b5 := ok5 h
  let R := ruR s
  let a := s 417
  let n : Nat := x2.toNat
  have hn : n = x2.toNat := rfl
  let G : Prop := s 417 0 = 1 ∧ (1 ≤ x1 ∧ x1 ≤ 5) ∧ (1 ≤ x2 ∧ x2 ≤ 9) ∧ (0 ≤ x3 ∧ x3 ≤ 100) ∧ (0 ≤ x4 ∧ x4 ≤ 1)
  have no : ¬ G → Q (some (mI (-1))) s := fun w => k _ s ⟨YN_n w rfl, ⟨fun _ _ => rfl, fun _ _ => rfl⟩⟩
  let Y := ilY R x3 n a (s 407 22)
  let D : Nat → Nat → Rw × Int := fun y j => ilD R x3 j (a, (Y y).2.2)
  have hn5 : ∀ j : Nat, j ≤ 9 → a 5 + j ≤ 1000000 := fun j hj => by have : a 5 ≤ 999 := h5; omega
  have Yb : G → ∀ y, (0 ≤ (Y y).1 ∧ (Y y).1 ≤ 6 * y) ∧ (0 ≤ (Y y).2.1 ∧ (Y y).2.1 ≤ 180 * y) ∧ (0 ≤ (Y y).2.2 ∧ (Y y).2.2 < 2147483648) := fun g y => ilY_b h hx (hn5 n (by have := g.2.2.1; omega)) y
  have Db : G → ∀ y j : Nat, j ≤ 9 → Ok (D y j).1 ∧ (D y j).1 5 = a 5 + j ∧ (0 ≤ (D y j).2 ∧ (D y j).2 < 2147483648) ∧ ∀ i, (i < 5 ∨ 77 ≤ i) → (D y j).1 i = a i := fun g y j hj => ilD_ok h (Yb g y).2.2 j (hn5 j hj)
  have Ys : ∀ y, Y (y + 1) = ((Y y).1 + cn (pl (D y n).1) (nc (D y n).1), (Y y).2.1 + kpa (D y n).1, (D y n).2) := fun y => rfl
  have Ds : ∀ y j, D y (j + 1) = (stR (R (ilA (D y j).1 (D y j).2 x3).1) (ilA (D y j).1 (D y j).2 x3).1, (ilA (D y j).1 (D y j).2 x3).2) := fun y j => rfl
  let fr : mSt → Prop := fun t => (∀ b, ¬ (b = 407 ∨ 415 ≤ b ∧ b ≤ 422 ∨ b = 429) → t b = s b) ∧ ∀ j, ¬ (j = 18 ∨ 28 ≤ j ∧ j ≤ 35 ∨ j = 53) → t 407 j = s 407 j
  have fo : ∀ t : mSt, fr t → FOq t ∧ ∀ r, ruR t r = R r := fun t ht => fo_cells hF (fun b hb => ht.1 b (by omega)) (ht.2 21 (by decide))
  let J : Int → Int → Int → mSt → Prop := fun y5 y6 y7 t => ∃ y : Nat, y7 = y ∧ y ≤ x1.toNat ∧ G ∧ y5 = (Y y).1 ∧ y6 = (Y y).2.1 ∧ t 407 53 = (Y y).2.2 ∧ t 417 = s 417 ∧ t 429 = kpR (s 417) (s 429) ∧ fr t
  let K : Int → Int → Int → Int → mSt → Prop := fun y5 y6 y7 y8 t => ∃ y j : Nat, y7 = y ∧ y < x1.toNat ∧ y8 = j ∧ j ≤ n ∧ G ∧ y5 = (Y y).1 ∧ y6 = (Y y).2.1 ∧ t 407 53 = (D y j).2 ∧ t 417 = (D y j).1 ∧ t 429 = kpR (s 417) (s 429) ∧ fr t
  let I : Nat → Nat → mSt → Prop := fun y j t => t 417 = (ilA (D y j).1 (D y j).2 x3).1 ∧ t 407 53 = (ilA (D y j).1 (D y j).2 x3).2 ∧ t 429 = kpR (s 417) (s 429) ∧ fr t
  have I1 : ∀ (y j : Nat) (t t8 : mSt), t 407 53 = (D y j).2 → t 417 = (D y j).1 → t 429 = kpR (s 417) (s 429) → fr t → t8 = uS t 407 53 (drN (t 407 53)) → t8 407 53 = drN (D y j).2 ∧ t8 417 = (D y j).1 ∧ t8 429 = kpR (s 417) (s 429) ∧ fr t8 := fun y j t t8 e1 e2 e3 ht h8 => by
    have c8 : ∀ b, b ≠ 407 → t8 b = t b := fun b hb => by rw [h8]; exact uS_cell hb
    refine ⟨by rw [h8, uS_at, if_pos rfl, e1], (c8 417 (by decide)).trans e2, (c8 429 (by decide)).trans e3, fun b hb => (c8 b (by omega)).trans (ht.1 b hb), fun i hi => ?_⟩
    rw [h8, uS_at, if_neg (by omega)]; exact ht.2 i hi
  have In : ∀ (y j : Nat) (t8 : mSt), ¬ (drN (D y j).2 / 65536 % 100 < x3 ∧ 0 < (D y j).1 4) → t8 407 53 = drN (D y j).2 ∧ t8 417 = (D y j).1 ∧ t8 429 = kpR (s 417) (s 429) ∧ fr t8 → I y j t8 := fun y j t8 z h8 => by
    have e : ilA (D y j).1 (D y j).2 x3 = ((D y j).1, drN (D y j).2) := by unfold ilA; rw [if_neg z]
    show t8 417 = (ilA (D y j).1 (D y j).2 x3).1 ∧ t8 407 53 = (ilA (D y j).1 (D y j).2 x3).2 ∧ _
    rw [e]; exact ⟨h8.2.1, h8.1, h8.2.2⟩
  have Iy : ∀ (y j : Nat) (t8 t15 t16 : mSt), (drN (D y j).2 / 65536 % 100 < x3 ∧ 0 < (D y j).1 4) → t8 407 53 = drN (D y j).2 ∧ t8 417 = (D y j).1 ∧ t8 429 = kpR (s 417) (s 429) ∧ fr t8 → t15 = uS t8 407 53 (drN (t8 407 53)) → t16 = uR t15 (wtR (t15 417) (drN (t8 407 53) / 65536 % (t8 417 4)).toNat) → I y j t16 := fun y j t8 t15 t16 z h8 h15 h16 => by
    have e : ilA (D y j).1 (D y j).2 x3 = (wtR (D y j).1 (drN (drN (D y j).2) / 65536 % (D y j).1 4).toNat, drN (drN (D y j).2)) := by unfold ilA; rw [if_pos z]
    have c15 : ∀ b, b ≠ 407 → t15 b = t8 b := fun b hb => by rw [h15]; exact uS_cell hb
    have c16 : ∀ b, b ≠ 417 → t16 b = t15 b := fun b hb => by rw [h16]; exact uC_ne hb
    show t16 417 = (ilA (D y j).1 (D y j).2 x3).1 ∧ t16 407 53 = (ilA (D y j).1 (D y j).2 x3).2 ∧ _
    rw [e]
    refine ⟨?_, ?_, ?_, fun b hb => ?_, fun i hi => ?_⟩
    · rw [h16, show uR t15 (wtR (t15 417) (drN (t8 407 53) / 65536 % (t8 417 4)).toNat) 417 = wtR (t15 417) (drN (t8 407 53) / 65536 % (t8 417 4)).toNat from uC_at _ _ _, c15 417 (by decide), h8.2.1, h8.1]
    · rw [c16 407 (by decide), h15, uS_at, if_pos rfl, h8.1]
    · rw [c16 429 (by decide), c15 429 (by decide)]; exact h8.2.2.1
    · rw [c16 b (by omega), c15 b (by omega)]; exact h8.2.2.2.1 b hb
    · rw [c16 407 (by decide), h15, uS_at, if_neg (by omega)]; exact h8.2.2.2.2 i hi
  have pre : ∀ (y j : Nat) (t : mSt), G → j < n → I y j t → Ok (t 417) ∧ FOq t ∧ t 417 5 < 1000000 := fun y j t g hj i => by
    have g2 := g.2.2.1
    have db := Db g y j (by omega)
    have da := ilA_ok db.1 (D y j).2 x3
    have h5a : a 5 ≤ 999 := h5
    rw [i.1]
    refine ⟨da.1, (fo t i.2.2.2).1, ?_⟩
    rw [da.2.2 5 (by omega), db.2.1]; omega
  have toK : ∀ (y j : Nat) (t w : mSt) (v : Int), G → y < x1.toNat → j < n → I y j t → (v = chA (ruR t (t 417)) (t 417) ∧ w 417 = stR (ruR t (t 417)) (t 417) ∧ fV t w) → K (Y y).1 (Y y).2.1 (y : Int) (w32 ((j : Int) + 1)) w ∧ ((6 - (y : Int)) * 20 - 1 - w32 ((j : Int) + 1)).toNat < ((6 - (y : Int)) * 20 - 1 - (j : Int)).toNat := fun y j t w v g hy hj i hw => by
    have g2 := g.2.2.1
    have g1 := g.2.1
    rw [(fo t i.2.2.2).2, i.1] at hw
    rw [w32_of (by omega)]
    refine ⟨⟨y, j + 1, rfl, hy, by omega, by omega, g, rfl, rfl, ?_, ?_, ?_, fun b hb => ?_, fun q hq => ?_⟩, by omega⟩
    · rw [hw.2.2.2 53 (by decide), Ds]; exact i.2.1
    · rw [Ds]; exact hw.2.1
    · rw [hw.2.2.1 429 (by decide)]; exact i.2.2.1
    · rw [hw.2.2.1 b (by omega)]; exact i.2.2.2.1 b hb
    · rw [hw.2.2.2 q (by omega)]; exact i.2.2.2.2 q hq
  have fin : ∀ (t : mSt), t 417 = s 417 → fr t → fXi s t := fun t e ht => ⟨fun b hb => by
    by_cases z : b = 417
    · rw [z]; exact e
    · exact ht.1 b (by omega), ht.2⟩
  refine v305 J (fun _ _ y _ => ((6 - y) * 20).toNat) K (fun _ _ y7 y8 _ => ((6 - y7) * 20 - 1 - y8).toNat) ?_ ?_ ?_ ?_ ?_ ?_ ?_ ?_ ?_ ?_ ?_ ?_ ?_ ?_ (fun g1 g2 g3 g4 g5 t23 h23 t24 h24 => ?_) (fun g1 g2 g3 g4 g5 => no (fun z => g5 z.2.2.2.2)) (fun g1 g2 g3 g4 => no (fun z => g4 z.2.2.2.1)) (fun g1 g2 g3 => no (fun z => g3 z.2.2.1)) (fun g1 g2 => no (fun z => g2 z.2.1)) (fun g1 => no (fun z => g1 z.1))
  · rintro _ _ _ t ⟨y, rfl, hy, g, rfl, rfl, e3, e7, e9, ht⟩ hc q
    have : y = x1.toNat := by omega
    subst this
    exact k _ t ⟨YN_y g (by rw [if_neg q]), fin t e7 ht⟩
  · rintro _ _ _ t ⟨y, rfl, hy, g, rfl, rfl, e3, e7, e9, ht⟩ hc q
    have : y = x1.toNat := by omega
    subst this
    exact k _ t ⟨YN_y g (by rw [if_pos q]), fin t e7 ht⟩
  · rintro _ _ _ t ⟨y, rfl, hy, g, rfl, rfl, e3, e7, e9, ht⟩ hc
    have g1 := g.2.1
    exact ⟨⟨y, 0, rfl, by omega, rfl, by omega, g, rfl, rfl, e3, e7, e9, ht⟩, by omega⟩
  · rintro _ _ _ _ t ⟨y, j, rfl, hy, rfl, hj, g, rfl, rfl, e3, e7, e9, ht⟩ hc
    have g2 := g.2.2.1
    rw [e7]; exact (Db g y j (by omega)).1
  · rintro _ _ _ _ t ⟨y, j, rfl, hy, rfl, hj, g, rfl, rfl, e3, e7, e9, ht⟩ hc t6 h6
    have g2 := g.2.2.1
    have g1 := g.2.1
    have hj' : j = n := by omega
    subst hj'
    have db := Db g y n (by omega)
    have yb := Yb g y
    have cb := cn_le (f := pl (D y n).1) (n := nc (D y n).1)
    have kb := kpa_bd db.1
    have n6 := nc_le db.1
    have c6 : ∀ b, b ≠ 417 → t6 b = t b := fun b hb => by rw [h6]; exact uC_ne hb
    rw [e7, w32_of (x := (Y y).1 + _) (by omega), w32_of (x := (Y y).2.1 + _) (by omega), w32_of (by omega)]
    refine ⟨⟨y + 1, by omega, by omega, g, by rw [Ys], by rw [Ys], ?_, ?_, ?_, fun b hb => ?_, fun i hi => ?_⟩, by omega⟩
    · rw [c6 407 (by decide), Ys]; exact e3
    · rw [h6, show uR t (lbk (t 417) (t 429)) 417 = lbk (t 417) (t 429) from uC_at _ _ _, e9, e7]
      funext i
      unfold lbk kpR
      by_cases z : 5 ≤ i ∧ i < 77
      · rw [if_pos z, if_pos (by omega), show 5 + (i - 5) = i by omega]
      · rw [if_neg z]; exact db.2.2.2 i (by omega)
    · rw [c6 429 (by decide)]; exact e9
    · rw [c6 b (by omega)]; exact ht.1 b hb
    · rw [c6 407 (by decide)]; exact ht.2 i hi
  · rintro _ _ _ _ t ⟨y, j, rfl, hy, rfl, hj, g, rfl, rfl, e3, e7, e9, ht⟩ hc
    have g2 := g.2.2.1
    rw [e3]; exact ⟨(Db g y j (by omega)).2.2.1, by decide⟩
  · rintro _ _ _ _ t ⟨y, j, rfl, hy, rfl, hj, g, rfl, rfl, e3, e7, e9, ht⟩ hc t8 h8 q
    have i := I1 y j t t8 e3 e7 e9 ht h8
    rw [e3] at q
    exact pre y j t8 g (by omega) (In y j t8 (by omega) i)
  · rintro _ _ _ _ t ⟨y, j, rfl, hy, rfl, hj, g, rfl, rfl, e3, e7, e9, ht⟩ hc t8 h8 q v w hw
    have i := I1 y j t t8 e3 e7 e9 ht h8
    rw [e3] at q
    exact toK y j t8 w v g hy (by omega) (In y j t8 (by omega) i) hw
  · rintro _ _ _ _ t ⟨y, j, rfl, hy, rfl, hj, g, rfl, rfl, e3, e7, e9, ht⟩ hc t8 h8 q q2
    have i := I1 y j t t8 e3 e7 e9 ht h8
    rw [i.2.1] at q2
    exact pre y j t8 g (by omega) (In y j t8 (by omega) i)
  · rintro _ _ _ _ t ⟨y, j, rfl, hy, rfl, hj, g, rfl, rfl, e3, e7, e9, ht⟩ hc t8 h8 q q2 v w hw
    have i := I1 y j t t8 e3 e7 e9 ht h8
    rw [i.2.1] at q2
    exact toK y j t8 w v g hy (by omega) (In y j t8 (by omega) i) hw
  · rintro _ _ _ _ t ⟨y, j, rfl, hy, rfl, hj, g, rfl, rfl, e3, e7, e9, ht⟩ hc t8 h8 q q2
    have i := I1 y j t t8 e3 e7 e9 ht h8
    rw [i.1]; exact ⟨drN_b _, by omega⟩
  · rintro _ _ _ _ t ⟨y, j, rfl, hy, rfl, hj, g, rfl, rfl, e3, e7, e9, ht⟩ hc t8 h8 q q2 t15 h15
    have g2 := g.2.2.1
    have i := I1 y j t t8 e3 e7 e9 ht h8
    have db := Db g y j (by omega)
    have b4 := ok4 db.1
    rw [i.2.1] at q2
    have := il_i db.1 (by omega) (drN (D y j).2)
    rw [i.1, i.2.1]; omega
  · rintro _ _ _ _ t ⟨y, j, rfl, hy, rfl, hj, g, rfl, rfl, e3, e7, e9, ht⟩ hc t8 h8 q q2 t15 h15 t16 h16
    have i := I1 y j t t8 e3 e7 e9 ht h8
    rw [i.2.1] at q2
    rw [e3] at q
    exact pre y j t16 g (by omega) (Iy y j t8 t15 t16 (by omega) i h15 h16)
  · rintro _ _ _ _ t ⟨y, j, rfl, hy, rfl, hj, g, rfl, rfl, e3, e7, e9, ht⟩ hc t8 h8 q q2 t15 h15 t16 h16 v w hw
    have i := I1 y j t t8 e3 e7 e9 ht h8
    rw [i.2.1] at q2
    rw [e3] at q
    exact toK y j t16 w v g hy (by omega) (Iy y j t8 t15 t16 (by omega) i h15 h16) hw
  · have c23 : ∀ b, b ≠ 407 → t23 b = s b := fun b hb => by rw [h23]; exact uS_cell hb
    have c24 : ∀ b, b ≠ 429 → t24 b = t23 b := fun b hb => by rw [h24]; exact uC_ne hb
    refine ⟨0, rfl, by omega, ⟨g1, g2, g3, g4, g5⟩, rfl, rfl, ?_, ?_, ?_, fun b hb => ?_, fun i hi => ?_⟩
    · rw [c24 407 (by decide), h23, uS_at, if_pos rfl]; rfl
    · rw [c24 417 (by decide), c23 417 (by decide)]
    · rw [h24, c23 417 (by decide), c23 429 (by decide)]; exact uC_at _ _ _
    · rw [c24 b (by omega), c23 b (by omega)]
    · rw [c24 407 (by decide), h23, uS_at, if_neg (by omega)]
