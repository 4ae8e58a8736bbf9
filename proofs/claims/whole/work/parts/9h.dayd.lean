/-! a DAY read: clauses -/
def rngA (w : Int) (r : Rw) : List (Int × Int) := if w = 11 then [(1, 9), (1, 20)] else if w = 12 then [(0, 15), (1, 6)] else if w = 0 then [(1, 2 ^ (r 3).toNat - 1), (0, 100), (0, 3)] else [(0, 29), (0, 9)]
def rowA (w : Int) (r : Rw) (v : List Int) : Rw := if w = 11 then rdD r (v.getD 0 0) (v.getD 1 0) else if w = 12 then rdP r (v.getD 0 0) (v.getD 1 0) else if w = 0 then rdC r (v.getD 0 0) (v.getD 1 0) (v.getD 2 0) else rdT r (v.getD 0 0) (v.getD 1 0)
def dwP (w : Int) : Prop := w = 11 ∨ w = 12 ∨ w = 0 ∨ w = 13
def tmP (i w : Int) (r : Rw) : Prop := 40 ≤ i ∨ (w = 11 ∧ ¬ i = 0) ∨ (¬ w = 11 ∧ i = 0) ∨ (w = 12 ∧ 5 ≤ r 3) ∨ (w = 0 ∧ 6 ≤ r 4)
/-- a clause of a DAY: the fault, the place behind it, the row -/
def dcA (T : Nat → Int) (n : Nat) (i : Int) (a : Nat) (r : Rw) : Int × Nat × Rw :=
  if wnA T n a = 11 ∨ wnA T n a = 12 ∨ wnA T n a = 0 ∨ wnA T n a = 13 then
    (if 40 ≤ i ∨ (wnA T n a = 11 ∧ ¬ i = 0) ∨ (¬ wnA T n a = 11 ∧ i = 0) ∨ (wnA T n a = 12 ∧ 5 ≤ r 3) ∨ (wnA T n a = 0 ∧ 6 ≤ r 4) then (fuA a 4, a, r)
     else ((seqA T n (rngA (wnA T n a) r) (nxA T n a)).1, (seqA T n (rngA (wnA T n a) r) (nxA T n a)).2.1, rowA (wnA T n a) r (seqA T n (rngA (wnA T n a) r) (nxA T n a)).2.2))
  else (fuA a 0, a, r)
theorem dcA_0 {T : Nat → Int} {n a : Nat} {i : Int} {r : Rw} (h : ¬ dwP (wnA T n a)) : dcA T n i a r = (fuA a 0, a, r) := if_neg h
theorem dcA_4 {T : Nat → Int} {n a : Nat} {i : Int} {r : Rw} (h : dwP (wnA T n a)) (h2 : tmP i (wnA T n a) r) : dcA T n i a r = (fuA a 4, a, r) := (if_pos h).trans (if_pos h2)
theorem dcA_1 {T : Nat → Int} {n a : Nat} {i : Int} {r : Rw} (h : dwP (wnA T n a)) (h2 : ¬ tmP i (wnA T n a) r) : dcA T n i a r = ((seqA T n (rngA (wnA T n a) r) (nxA T n a)).1, (seqA T n (rngA (wnA T n a) r) (nxA T n a)).2.1, rowA (wnA T n a) r (seqA T n (rngA (wnA T n a) r) (nxA T n a)).2.2) := (if_pos h).trans (if_neg h2)
def fD (s t : mSt) (k : Nat) : Prop := ∀ b, b ≠ 1 → b ≠ 4 → ¬ (k ≤ b ∧ b ≤ k + 9) → t b = s b
theorem v35 {X : (Nat → Int) × Nat} {d : Nat} {s : mSt} {Q : mQ} {a1 : Nat} {x2 : Int} (h1 : isBd a1)
  (I30 : Int → mSt → Prop) (m30 : Int → mSt → Nat)
  (I39 : Int → mSt → Prop) (m39 : Int → mSt → Nat)
  (I68 : Int → mSt → Prop) (m68 : Int → mSt → Nat)
  (I95 : Int → mSt → Prop) (m95 : Int → mSt → Nat)
  (I116 : Int → Int → mSt → Prop) (m116 : Int → Int → mSt → Nat)
  (z1 : ∀ y3 : Int, ∀ s : mSt, I30 y3 s → (0 ≤ s 1 3 ∧ s 1 3 ≤ 400) ∧ (0 ≤ (0 : Int) ∧ (0 : Int) ≤ 4))
  (z2 : ∀ y3 : Int, ∀ s : mSt, I30 y3 s → ∀ v1 : Int, ∀ s1 : mSt, (v1 = 0 ∧ s1 = flC s (0 : Int)) → Q (some (mI v1)) s1)
  (z3 : ∀ y3 : Int, ∀ s : mSt, I30 y3 s → ∀ v1 : Int, ∀ s1 : mSt, (v1 = 0 ∧ s1 = flC s (0 : Int)) → v1 = 0 ∨ v1 = 1)
  (z4 : ∀ y3 : Int, ∀ s : mSt, I39 y3 s → 40 ≤ x2 → I95 y3 s ∧ m95 y3 s < m39 y3 s)
  (z5 : ∀ y3 : Int, ∀ s : mSt, I39 y3 s → ¬ 40 ≤ x2 → ¬ y3 = 11 → ¬ x2 = 0 → I68 y3 s ∧ m68 y3 s < m39 y3 s)
  (z6 : ∀ y3 : Int, ∀ s : mSt, I39 y3 s → ¬ 40 ≤ x2 → ¬ y3 = 11 → x2 = 0 → I95 y3 s ∧ m95 y3 s < m39 y3 s)
  (z7 : ∀ y3 : Int, ∀ s : mSt, I39 y3 s → ¬ 40 ≤ x2 → y3 = 11 → ¬ x2 = 0 → I95 y3 s ∧ m95 y3 s < m39 y3 s)
  (z8 : ∀ y3 : Int, ∀ s : mSt, I39 y3 s → ¬ 40 ≤ x2 → y3 = 11 → x2 = 0 → I68 y3 s ∧ m68 y3 s < m39 y3 s)
  (z9 : ∀ y3 : Int, ∀ s : mSt, I68 y3 s → ¬ y3 = 12 → ¬ y3 = 0 → I116 y3 0 s ∧ m116 y3 0 s < m68 y3 s)
  (z10 : ∀ y3 : Int, ∀ s : mSt, I68 y3 s → ¬ y3 = 12 → y3 = 0 → (s a1 3) < 6 → I116 y3 0 s ∧ m116 y3 0 s < m68 y3 s)
  (z11 : ∀ y3 : Int, ∀ s : mSt, I68 y3 s → ¬ y3 = 12 → y3 = 0 → ¬ (s a1 3) < 6 → I95 y3 s ∧ m95 y3 s < m68 y3 s)
  (z12 : ∀ y3 : Int, ∀ s : mSt, I68 y3 s → y3 = 12 → 5 ≤ (s a1 2) → I95 y3 s ∧ m95 y3 s < m68 y3 s)
  (z13 : ∀ y3 : Int, ∀ s : mSt, I68 y3 s → y3 = 12 → ¬ 5 ≤ (s a1 2) → ¬ y3 = 0 → I116 y3 0 s ∧ m116 y3 0 s < m68 y3 s)
  (z14 : ∀ y3 : Int, ∀ s : mSt, I68 y3 s → y3 = 12 → ¬ 5 ≤ (s a1 2) → y3 = 0 → (s a1 3) < 6 → I116 y3 0 s ∧ m116 y3 0 s < m68 y3 s)
  (z15 : ∀ y3 : Int, ∀ s : mSt, I68 y3 s → y3 = 12 → ¬ 5 ≤ (s a1 2) → y3 = 0 → ¬ (s a1 3) < 6 → I95 y3 s ∧ m95 y3 s < m68 y3 s)
  (z16 : ∀ y3 : Int, ∀ s : mSt, I95 y3 s → (0 ≤ s 1 3 ∧ s 1 3 ≤ 400) ∧ (0 ≤ (4 : Int) ∧ (4 : Int) ≤ 4))
  (z17 : ∀ y3 : Int, ∀ s : mSt, I95 y3 s → ∀ v22 : Int, ∀ s22 : mSt, (v22 = 0 ∧ s22 = flC s (4 : Int)) → Q (some (mI v22)) s22)
  (z18 : ∀ y3 : Int, ∀ s : mSt, I95 y3 s → ∀ v22 : Int, ∀ s22 : mSt, (v22 = 0 ∧ s22 = flC s (4 : Int)) → v22 = 0 ∨ v22 = 1)
  (z19 : ∀ y3 : Int, ∀ y4 : Int, ∀ s : mSt, I116 y3 y4 s → (0 ≤ s 1 4 ∧ s 1 4 ≤ s 1 1 ∧ s 1 1 ≤ 400) ∧ BYq s)
  (z20 : ∀ y3 : Int, ∀ y4 : Int, ∀ s : mSt, I116 y3 y4 s → ∀ s23 : mSt, (TKq (s 2) (s 1 1).toNat (sk (s 2) (s 1 1).toNat (s 1 4).toNat) s23 ∧ f1 s s23) → y3 = 0 → TSq s23 ∧ s23 1 6 = 0 ∧ (0 ≤ s23 a1 3 ∧ s23 a1 3 < 6) ∧ (0 ≤ s23 a1 2 ∧ s23 a1 2 ≤ 5))
  (z21 : ∀ y3 : Int, ∀ y4 : Int, ∀ s : mSt, I116 y3 y4 s → ∀ s23 : mSt, (TKq (s 2) (s 1 1).toNat (sk (s 2) (s 1 1).toNat (s 1 4).toNat) s23 ∧ f1 s s23) → y3 = 0 → ∀ s25 : mSt, C1q s23 s25 a1 [(1, 2 ^ (s23 a1 2).toNat - 1), (0, 100), (0, 3)] (fun r v => rdC r (v.getD 0 0) (v.getD 1 0) (v.getD 2 0)) → Q (some (mI 1)) s25)
  (z22 : ∀ y3 : Int, ∀ y4 : Int, ∀ s : mSt, I116 y3 y4 s → ∀ s23 : mSt, (TKq (s 2) (s 1 1).toNat (sk (s 2) (s 1 1).toNat (s 1 4).toNat) s23 ∧ f1 s s23) → y3 = 0 → ∀ s26 : mSt, C0q s23 s26 a1 [(1, 2 ^ (s23 a1 2).toNat - 1), (0, 100), (0, 3)] → Q (some (mI 0)) s26)
  (z23 : ∀ y3 : Int, ∀ y4 : Int, ∀ s : mSt, I116 y3 y4 s → ∀ s23 : mSt, (TKq (s 2) (s 1 1).toNat (sk (s 2) (s 1 1).toNat (s 1 4).toNat) s23 ∧ f1 s s23) → y3 = 11 → TSq s23 ∧ s23 1 6 = 0)
  (z24 : ∀ y3 : Int, ∀ y4 : Int, ∀ s : mSt, I116 y3 y4 s → ∀ s23 : mSt, (TKq (s 2) (s 1 1).toNat (sk (s 2) (s 1 1).toNat (s 1 4).toNat) s23 ∧ f1 s s23) → y3 = 11 → ∀ s28 : mSt, C1q s23 s28 a1 [(1, 9), (1, 20)] (fun r v => rdD r (v.getD 0 0) (v.getD 1 0)) → Q (some (mI 1)) s28)
  (z25 : ∀ y3 : Int, ∀ y4 : Int, ∀ s : mSt, I116 y3 y4 s → ∀ s23 : mSt, (TKq (s 2) (s 1 1).toNat (sk (s 2) (s 1 1).toNat (s 1 4).toNat) s23 ∧ f1 s s23) → y3 = 11 → ∀ s29 : mSt, C0q s23 s29 a1 [(1, 9), (1, 20)] → Q (some (mI 0)) s29)
  (z26 : ∀ y3 : Int, ∀ y4 : Int, ∀ s : mSt, I116 y3 y4 s → ∀ s23 : mSt, (TKq (s 2) (s 1 1).toNat (sk (s 2) (s 1 1).toNat (s 1 4).toNat) s23 ∧ f1 s s23) → y3 = 12 → TSq s23 ∧ s23 1 6 = 0 ∧ (0 ≤ s23 a1 2 ∧ s23 a1 2 < 5))
  (z27 : ∀ y3 : Int, ∀ y4 : Int, ∀ s : mSt, I116 y3 y4 s → ∀ s23 : mSt, (TKq (s 2) (s 1 1).toNat (sk (s 2) (s 1 1).toNat (s 1 4).toNat) s23 ∧ f1 s s23) → y3 = 12 → ∀ s31 : mSt, C1q s23 s31 a1 [(0, 15), (1, 6)] (fun r v => rdP r (v.getD 0 0) (v.getD 1 0)) → Q (some (mI 1)) s31)
  (z28 : ∀ y3 : Int, ∀ y4 : Int, ∀ s : mSt, I116 y3 y4 s → ∀ s23 : mSt, (TKq (s 2) (s 1 1).toNat (sk (s 2) (s 1 1).toNat (s 1 4).toNat) s23 ∧ f1 s s23) → y3 = 12 → ∀ s32 : mSt, C0q s23 s32 a1 [(0, 15), (1, 6)] → Q (some (mI 0)) s32)
  (z29 : ∀ y3 : Int, ∀ y4 : Int, ∀ s : mSt, I116 y3 y4 s → ∀ s23 : mSt, (TKq (s 2) (s 1 1).toNat (sk (s 2) (s 1 1).toNat (s 1 4).toNat) s23 ∧ f1 s s23) → ¬ y3 = 0 → ¬ y3 = 11 → ¬ y3 = 12 → TSq s23 ∧ s23 1 6 = 0)
  (z30 : ∀ y3 : Int, ∀ y4 : Int, ∀ s : mSt, I116 y3 y4 s → ∀ s23 : mSt, (TKq (s 2) (s 1 1).toNat (sk (s 2) (s 1 1).toNat (s 1 4).toNat) s23 ∧ f1 s s23) → ¬ y3 = 0 → ¬ y3 = 11 → ¬ y3 = 12 → ∀ s36 : mSt, C1q s23 s36 a1 [(0, 29), (0, 9)] (fun r v => rdT r (v.getD 0 0) (v.getD 1 0)) → Q (some (mI 1)) s36)
  (z31 : ∀ y3 : Int, ∀ y4 : Int, ∀ s : mSt, I116 y3 y4 s → ∀ s23 : mSt, (TKq (s 2) (s 1 1).toNat (sk (s 2) (s 1 1).toNat (s 1 4).toNat) s23 ∧ f1 s s23) → ¬ y3 = 0 → ¬ y3 = 11 → ¬ y3 = 12 → ∀ s37 : mSt, C0q s23 s37 a1 [(0, 29), (0, 9)] → Q (some (mI 0)) s37)
  (z32 : 0 ≤ s 1 3 ∧ s 1 3 ≤ s 1 4 ∧ s 1 4 ≤ 400)
  (z33 : (wnC s) = 11 → I39 (wnC s) s)
  (z34 : ¬ (wnC s) = 11 → (wnC s) = 12 → I39 (wnC s) s)
  (z35 : ¬ (wnC s) = 11 → ¬ (wnC s) = 12 → (wnC s) = 0 → I39 (wnC s) s)
  (z36 : ¬ (wnC s) = 11 → ¬ (wnC s) = 12 → ¬ (wnC s) = 0 → (wnC s) = 13 → I39 (wnC s) s)
  (z37 : ¬ (wnC s) = 11 → ¬ (wnC s) = 12 → ¬ (wnC s) = 0 → ¬ (wnC s) = 13 → I30 (wnC s) s) :
  Sp X (d + 6) 35 [mR 3, mR a1, mI x2] s Q := by
  have L : ∀ k : Nat, (∀ (y3 : Int) (l4 : Option mV) (s : mSt), I30 y3 s → m30 y3 s < k → Wp X (d + 6) 35 30 [some (mR 3), some (mR a1), some (mI x2), some (mI y3), l4] [] s Q) ∧ (∀ (y3 : Int) (l4 : Option mV) (s : mSt), I39 y3 s → m39 y3 s < k → Wp X (d + 6) 35 39 [some (mR 3), some (mR a1), some (mI x2), some (mI y3), l4] [] s Q) ∧ (∀ (y3 : Int) (l4 : Option mV) (s : mSt), I68 y3 s → m68 y3 s < k → Wp X (d + 6) 35 68 [some (mR 3), some (mR a1), some (mI x2), some (mI y3), l4] [] s Q) ∧ (∀ (y3 : Int) (l4 : Option mV) (s : mSt), I95 y3 s → m95 y3 s < k → Wp X (d + 6) 35 95 [some (mR 3), some (mR a1), some (mI x2), some (mI y3), l4] [] s Q) ∧ (∀ (y3 : Int) (y4 : Int) (s : mSt), I116 y3 y4 s → m116 y3 y4 s < k → Wp X (d + 6) 35 116 [some (mR 3), some (mR a1), some (mI x2), some (mI y3), some (mI y4)] [] s Q) := by
    intro k
    induction k with
    | zero => exact ⟨fun _ _ _ _ h => absurd h (Nat.not_lt_zero _), fun _ _ _ _ h => absurd h (Nat.not_lt_zero _), fun _ _ _ _ h => absurd h (Nat.not_lt_zero _), fun _ _ _ _ h => absurd h (Nat.not_lt_zero _), fun _ _ _ _ h => absurd h (Nat.not_lt_zero _)⟩
    | succ k ih => exact ⟨fun y3 l4 s hI hm => b35_30 h1 (c94 (z1 y3 s hI) (fun v1 s1 q1 => ⟨v1, rfl, b35_38 h1 (z2 y3 s hI v1 s1 q1) (z3 y3 s hI v1 s1 q1)⟩)), fun y3 l4 s hI hm => b35_39 h1 (fun q2 => ih.2.2.2.1 y3 l4 s (z4 y3 s hI q2).1 (Nat.lt_of_lt_of_le (z4 y3 s hI q2).2 (Nat.le_of_lt_succ hm))) (fun q3 => b35_45 h1 (fun q4 => b35_55 h1 (b35_56 h1 (fun q5 => b35_64 h1 (b35_65 h1 (fun q => absurd q (by decide)) (fun _ => ih.2.2.1 y3 l4 s (z5 y3 s hI q3 q4 q5).1 (Nat.lt_of_lt_of_le (z5 y3 s hI q3 q4 q5).2 (Nat.le_of_lt_succ hm))))) (fun q6 => b35_60 h1 (b35_65 h1 (fun _ => ih.2.2.2.1 y3 l4 s (z6 y3 s hI q3 q4 q6).1 (Nat.lt_of_lt_of_le (z6 y3 s hI q3 q4 q6).2 (Nat.le_of_lt_succ hm))) (fun q => absurd q (by decide)))))) (fun q7 => b35_51 h1 (b35_56 h1 (fun q8 => b35_64 h1 (b35_65 h1 (fun _ => ih.2.2.2.1 y3 l4 s (z7 y3 s hI q3 q7 q8).1 (Nat.lt_of_lt_of_le (z7 y3 s hI q3 q7 q8).2 (Nat.le_of_lt_succ hm))) (fun q => absurd q (by decide)))) (fun q9 => b35_60 h1 (b35_65 h1 (fun q => absurd q (by decide)) (fun _ => ih.2.2.1 y3 l4 s (z8 y3 s hI q3 q7 q9).1 (Nat.lt_of_lt_of_le (z8 y3 s hI q3 q7 q9).2 (Nat.le_of_lt_succ hm)))))))), fun y3 l4 s hI hm => b35_68 h1 (fun q10 => b35_82 h1 (fun q11 => b35_99 h1 (b35_100 h1 (fun _ => ih.2.2.2.2 y3 0 s (z9 y3 s hI q10 q11).1 (Nat.lt_of_lt_of_le (z9 y3 s hI q10 q11).2 (Nat.le_of_lt_succ hm))) (fun q => absurd q (by decide)))) (fun q12 => b35_86 h1 (fun q13 => b35_99 h1 (b35_100 h1 (fun _ => ih.2.2.2.2 y3 0 s (z10 y3 s hI q10 q12 q13).1 (Nat.lt_of_lt_of_le (z10 y3 s hI q10 q12 q13).2 (Nat.le_of_lt_succ hm))) (fun q => absurd q (by decide)))) (fun q14 => ih.2.2.2.1 y3 l4 s (z11 y3 s hI q10 q12 q14).1 (Nat.lt_of_lt_of_le (z11 y3 s hI q10 q12 q14).2 (Nat.le_of_lt_succ hm))))) (fun q15 => b35_74 h1 (fun q16 => ih.2.2.2.1 y3 l4 s (z12 y3 s hI q15 q16).1 (Nat.lt_of_lt_of_le (z12 y3 s hI q15 q16).2 (Nat.le_of_lt_succ hm))) (fun q17 => b35_82 h1 (fun q18 => b35_99 h1 (b35_100 h1 (fun _ => ih.2.2.2.2 y3 0 s (z13 y3 s hI q15 q17 q18).1 (Nat.lt_of_lt_of_le (z13 y3 s hI q15 q17 q18).2 (Nat.le_of_lt_succ hm))) (fun q => absurd q (by decide)))) (fun q19 => b35_86 h1 (fun q20 => b35_99 h1 (b35_100 h1 (fun _ => ih.2.2.2.2 y3 0 s (z14 y3 s hI q15 q17 q19 q20).1 (Nat.lt_of_lt_of_le (z14 y3 s hI q15 q17 q19 q20).2 (Nat.le_of_lt_succ hm))) (fun q => absurd q (by decide)))) (fun q21 => ih.2.2.2.1 y3 l4 s (z15 y3 s hI q15 q17 q19 q21).1 (Nat.lt_of_lt_of_le (z15 y3 s hI q15 q17 q19 q21).2 (Nat.le_of_lt_succ hm)))))), fun y3 l4 s hI hm => b35_95 h1 (b35_100 h1 (fun q => absurd q (by decide)) (fun _ => b35_107 h1 (c94 (z16 y3 s hI) (fun v22 s22 q22 => ⟨v22, rfl, b35_115 h1 (z17 y3 s hI v22 s22 q22) (z18 y3 s hI v22 s22 q22)⟩)))), fun y3 y4 s hI hm => b35_116 h1 (c90 (z19 y3 y4 s hI) (fun s23 q23 => ⟨rfl, b35_123 h1 (fun q24 => b35_172 h1 (c38 h1 (z20 y3 y4 s hI s23 q23 q24) (fun s25 q25 => ⟨1, rfl, b35_177 h1 (z21 y3 y4 s hI s23 q23 q24 s25 q25) (Or.inr rfl)⟩) (fun s26 q26 => ⟨0, rfl, b35_177 h1 (z22 y3 y4 s hI s23 q23 q24 s26 q26) (Or.inl rfl)⟩))) (fun q27 => b35_160 h1 (c36 h1 (z23 y3 y4 s hI s23 q23 q27) (fun s28 q28 => ⟨1, rfl, b35_165 h1 (z24 y3 y4 s hI s23 q23 q27 s28 q28) (Or.inr rfl)⟩) (fun s29 q29 => ⟨0, rfl, b35_165 h1 (z25 y3 y4 s hI s23 q23 q27 s29 q29) (Or.inl rfl)⟩))) (fun q30 => b35_166 h1 (c37 h1 (z26 y3 y4 s hI s23 q23 q30) (fun s31 q31 => ⟨1, rfl, b35_171 h1 (z27 y3 y4 s hI s23 q23 q30 s31 q31) (Or.inr rfl)⟩) (fun s32 q32 => ⟨0, rfl, b35_171 h1 (z28 y3 y4 s hI s23 q23 q30 s32 q32) (Or.inl rfl)⟩))) (fun q33 q34 q35 => b35_178 h1 (c39 h1 (z29 y3 y4 s hI s23 q23 q33 q34 q35) (fun s36 q36 => ⟨1, rfl, b35_183 h1 (z30 y3 y4 s hI s23 q23 q33 q34 q35 s36 q36) (Or.inr rfl)⟩) (fun s37 q37 => ⟨0, rfl, b35_183 h1 (z31 y3 y4 s hI s23 q23 q33 q34 q35 s37 q37) (Or.inl rfl)⟩)))⟩))⟩
  exact e35 (b35_0 h1 (c91 z32 ⟨_, rfl, b35_7 h1 (fun q38 => (L (m39 (wnC s) s + 1)).2.1 (wnC s) none s (z33 q38) (Nat.lt_succ_self _)) (fun q39 => b35_14 h1 (fun q40 => (L (m39 (wnC s) s + 1)).2.1 (wnC s) none s (z34 q39 q40) (Nat.lt_succ_self _)) (fun q41 => b35_20 h1 (fun q42 => (L (m39 (wnC s) s + 1)).2.1 (wnC s) none s (z35 q39 q41 q42) (Nat.lt_succ_self _)) (fun q43 => b35_24 h1 (fun q44 => (L (m39 (wnC s) s + 1)).2.1 (wnC s) none s (z36 q39 q41 q43 q44) (Nat.lt_succ_self _)) (fun q45 => (L (m30 (wnC s) s + 1)).1 (wnC s) none s (z37 q39 q41 q43 q45) (Nat.lt_succ_self _)))))⟩))

theorem c35 {X : (Nat → Int) × Nat} {d : Nat} {s : mSt} {Q : mQ} {a1 : Nat} {x2 : Int} (h1 : isBd a1) (p1 : TSq s ∧ s 1 6 = 0 ∧ (∃ r, DRq s a1 r)) (k1 : ∀ t : mSt, ((∀ r, DRq s a1 r → (dcA (s 2) (nO s) x2 (aO s) r).1 = 0 ∧ TSa s t (dcA (s 2) (nO s) x2 (aO s) r).2.1 ∧ DRq t a1 (dcA (s 2) (nO s) x2 (aO s) r).2.2) ∧ t 1 6 = 0 ∧ fD s t a1) → Q (some (mI 1)) t) (k0 : ∀ t : mSt, ((∀ r, DRq s a1 r → ¬ (dcA (s 2) (nO s) x2 (aO s) r).1 = 0 ∧ t 1 6 = (dcA (s 2) (nO s) x2 (aO s) r).1) ∧ t 1 1 = s 1 1 ∧ fD s t a1) → Q (some (mI 0)) t) : Sp X (d + 6) 35 [mR 3, mR a1, mI x2] s Q := by
  obtain ⟨h, hz, ⟨r0, hr0⟩⟩ := p1
  have l8 := bd_8 h1
  have b4 := ts_400 h
  have ew := wnC_A h
  let W := wnA (s 2) (nO s) (aO s)
  have e3 : ∀ r, DRq s a1 r → s a1 2 = r 3 ∧ s a1 3 = r 4 := fun r hr => ⟨hr.1.2.2.1, hr.1.2.2.2.1⟩
  let B : Int → mSt → Prop := fun y t => y = W ∧ ¬ dwP W ∧ t = s
  let A : Int → mSt → Prop := fun y t => y = W ∧ dwP W ∧ t = s
  let P : Int → mSt → Prop := fun y t => y = W ∧ dwP W ∧ ¬ 40 ≤ x2 ∧ (W = 11 ↔ x2 = 0) ∧ t = s
  let M : Int → mSt → Prop := fun y t => y = W ∧ dwP W ∧ (∀ r, DRq s a1 r → tmP x2 W r) ∧ t = s
  let G : Int → Int → mSt → Prop := fun y _ t => y = W ∧ dwP W ∧ (∀ r, DRq s a1 r → ¬ tmP x2 W r) ∧ t = s
  have sc : ∀ t : mSt, (TKq (s 2) (s 1 1).toNat (sk (s 2) (s 1 1).toNat (s 1 4).toNat) t ∧ f1 s t) → TSq t ∧ t 1 6 = 0 ∧ t 2 = s 2 ∧ nO t = nO s ∧ t 1 1 = s 1 1 ∧ aO t = nxA (s 2) (nO s) (aO s) ∧ ∀ b, b ≠ 1 → t b = s b := fun t ht => by
    have q := ts_scan h ht
    exact ⟨q.1.1, by rw [q.2]; exact hz, q.1.2.1, by unfold nO; rw [q.1.2.2.1], q.1.2.2.1, q.1.2.2.2, ht.2.1⟩
  have fl : ∀ (x : Int) (r : Rw), fuA (aO s) 0 ≠ 0 ∧ fuA (aO s) 4 ≠ 0 := fun _ _ => by unfold fuA; omega
  have fin0 : ∀ (x : Int), (∀ r, DRq s a1 r → dcA (s 2) (nO s) x2 (aO s) r = (fuA (aO s) x, aO s, r)) → (0 ≤ x ∧ x ≤ 4) → ∀ (v : Int) (t : mSt), (v = 0 ∧ t = flC s x) → Q (some (mI v)) t := fun x hx hb v t hv => by
    rw [hv.1, hv.2, flC_z h hz]
    refine k0 _ ⟨fun r hr => ?_, by rw [uS_at, if_neg (by decide)], fun b g1 _ _ => uS_cell g1⟩
    rw [hx r hr]
    exact ⟨by show ¬ fuA (aO s) x = 0; unfold fuA; omega, by rw [uS_at, if_pos rfl]⟩
  have finC : ∀ (L : List (Int × Int)) (F : Rw → List Int → Rw) (u t : mSt), dwP W → (∀ r, DRq s a1 r → ¬ tmP x2 W r) → (∀ r, DRq s a1 r → rngA W r = L ∧ ∀ v, rowA W r v = F r v) → (TKq (s 2) (s 1 1).toNat (sk (s 2) (s 1 1).toNat (s 1 4).toNat) u ∧ f1 s u) → C1q u t a1 L F → Q (some (mI 1)) t := fun L F u t hd hm hL hu hC => by
    have q := sc u hu
    obtain ⟨c1, c2, c3, c4, c5⟩ := hC
    rw [q.2.2.1, q.2.2.2.1, q.2.2.2.2.2.1] at c1 c2 c4
    refine k1 t ⟨fun r hr => ?_, c3, fun b g1 g2 g3 => (c5 b g1 g2 g3).trans (q.2.2.2.2.2.2 b g1)⟩
    have e := dcA_1 hd (hm r hr)
    rw [(hL r hr).1, (hL r hr).2] at e
    rw [e]
    refine ⟨c1, ⟨c2.1, c2.2.1.trans q.2.2.1, c2.2.2.1.trans q.2.2.2.2.1, c2.2.2.2⟩, ?_⟩
    exact c4 r (DR_cells hr (fun x hx => q.2.2.2.2.2.2 x (by omega)))
  have finD : ∀ (L : List (Int × Int)) (u t : mSt), dwP W → (∀ r, DRq s a1 r → ¬ tmP x2 W r) → (∀ r, DRq s a1 r → rngA W r = L) → (TKq (s 2) (s 1 1).toNat (sk (s 2) (s 1 1).toNat (s 1 4).toNat) u ∧ f1 s u) → C0q u t a1 L → Q (some (mI 0)) t := fun L u t hd hm hL hu hC => by
    have q := sc u hu
    obtain ⟨c1, c2, c3, c5⟩ := hC
    rw [q.2.2.1, q.2.2.2.1, q.2.2.2.2.2.1] at c1 c2
    refine k0 t ⟨fun r hr => ?_, c3.trans q.2.2.2.2.1, fun b g1 g2 g3 => (c5 b g1 g2 g3).trans (q.2.2.2.2.2.2 b g1)⟩
    have e := dcA_1 hd (hm r hr)
    rw [hL r hr] at e
    rw [e]
    exact ⟨c1, c2⟩
  have r11 : W = 11 → ∀ r, rngA W r = [(1, 9), (1, 20)] ∧ ∀ v, rowA W r v = rdD r (v.getD 0 0) (v.getD 1 0) := fun z r => by unfold rngA rowA; rw [if_pos z]; exact ⟨rfl, fun v => by rw [if_pos z]⟩
  have r12 : W = 12 → ∀ r, rngA W r = [(0, 15), (1, 6)] ∧ ∀ v, rowA W r v = rdP r (v.getD 0 0) (v.getD 1 0) := fun z r => by unfold rngA rowA; rw [if_neg (by omega), if_pos z]; exact ⟨rfl, fun v => by rw [if_neg (by omega), if_pos z]⟩
  have r0' : W = 0 → ∀ r, rngA W r = [(1, 2 ^ (r 3).toNat - 1), (0, 100), (0, 3)] ∧ ∀ v, rowA W r v = rdC r (v.getD 0 0) (v.getD 1 0) (v.getD 2 0) := fun z r => by unfold rngA rowA; rw [if_neg (by omega), if_neg (by omega), if_pos z]; exact ⟨rfl, fun v => by rw [if_neg (by omega), if_neg (by omega), if_pos z]⟩
  have r13 : ¬ W = 11 → ¬ W = 12 → ¬ W = 0 → ∀ r, rngA W r = [(0, 29), (0, 9)] ∧ ∀ v, rowA W r v = rdT r (v.getD 0 0) (v.getD 1 0) := fun z1 z2 z3 r => by unfold rngA rowA; rw [if_neg z1, if_neg z2, if_neg z3]; exact ⟨rfl, fun v => by rw [if_neg z1, if_neg z2, if_neg z3]⟩
  refine v35 h1 B (fun _ _ => 10) A (fun _ _ => 50) P (fun _ _ => 40) M (fun _ _ => 30) G (fun _ _ _ => 20) ?_ ?_ ?_ ?_ ?_ ?_ ?_ ?_ ?_ ?_ ?_ ?_ ?_ ?_ ?_ ?_ ?_ ?_ ?_ ?_ ?_ ?_ ?_ ?_ ?_ ?_ ?_ ?_ ?_ ?_ ?_ b4.1 (fun z => ⟨ew, Or.inl (ew.symm.trans z), rfl⟩) (fun _ z => ⟨ew, Or.inr (Or.inl (ew.symm.trans z)), rfl⟩) (fun _ _ z => ⟨ew, Or.inr (Or.inr (Or.inl (ew.symm.trans z))), rfl⟩) (fun _ _ _ z => ⟨ew, Or.inr (Or.inr (Or.inr (ew.symm.trans z))), rfl⟩) (fun z1 z2 z3 z4 => ⟨ew, fun w => by rw [ew] at z1 z2 z3 z4; rcases w with w | w | w | w; exact z1 w; exact z2 w; exact z3 w; exact z4 w, rfl⟩)
  · rintro _ _ ⟨rfl, hd, rfl⟩
    exact ⟨b4.2.2, by decide⟩
  · rintro _ _ ⟨rfl, hd, rfl⟩ v t hv
    exact fin0 0 (fun r _ => dcA_0 hd) (by decide) v t hv
  · rintro _ _ ⟨rfl, hd, rfl⟩ v t hv
    exact Or.inl hv.1
  · rintro _ _ ⟨rfl, hd, rfl⟩ z
    exact ⟨⟨rfl, hd, fun r _ => Or.inl z, rfl⟩, by decide⟩
  · rintro _ _ ⟨rfl, hd, rfl⟩ z z1 z2
    exact ⟨⟨rfl, hd, z, ⟨fun w => absurd w z1, fun w => absurd w z2⟩, rfl⟩, by decide⟩
  · rintro _ _ ⟨rfl, hd, rfl⟩ z z1 z2
    exact ⟨⟨rfl, hd, fun r _ => Or.inr (Or.inr (Or.inl ⟨z1, z2⟩)), rfl⟩, by decide⟩
  · rintro _ _ ⟨rfl, hd, rfl⟩ z z1 z2
    exact ⟨⟨rfl, hd, fun r _ => Or.inr (Or.inl ⟨z1, z2⟩), rfl⟩, by decide⟩
  · rintro _ _ ⟨rfl, hd, rfl⟩ z z1 z2
    exact ⟨⟨rfl, hd, z, ⟨fun _ => z2, fun _ => z1⟩, rfl⟩, by decide⟩
  · rintro _ _ ⟨rfl, hd, z, z0, rfl⟩ z1 z2
    refine ⟨⟨rfl, hd, fun r _ w => ?_, rfl⟩, by decide⟩
    rcases w with w | w | w | w | w
    · exact z w
    · exact w.2 (z0.1 w.1)
    · exact w.1 (z0.2 w.2)
    · exact z1 w.1
    · exact z2 w.1
  · rintro _ _ ⟨rfl, hd, z, z0, rfl⟩ z1 z2 z3
    refine ⟨⟨rfl, hd, fun r hr w => ?_, rfl⟩, by decide⟩
    have e := e3 r hr
    rcases w with w | w | w | w | w
    · exact z w
    · exact w.2 (z0.1 w.1)
    · exact w.1 (z0.2 w.2)
    · exact z1 w.1
    · have := w.2; omega
  · rintro _ _ ⟨rfl, hd, z, z0, rfl⟩ z1 z2 z3
    exact ⟨⟨rfl, hd, fun r hr => Or.inr (Or.inr (Or.inr (Or.inr ⟨z2, by have := e3 r hr; omega⟩))), rfl⟩, by decide⟩
  · rintro _ _ ⟨rfl, hd, z, z0, rfl⟩ z1 z2
    exact ⟨⟨rfl, hd, fun r hr => Or.inr (Or.inr (Or.inr (Or.inl ⟨z1, by have := e3 r hr; omega⟩))), rfl⟩, by decide⟩
  · rintro _ _ ⟨rfl, hd, z, z0, rfl⟩ z1 z2 z3
    refine ⟨⟨rfl, hd, fun r hr w => ?_, rfl⟩, by decide⟩
    have e := e3 r hr
    rcases w with w | w | w | w | w
    · exact z w
    · exact w.2 (z0.1 w.1)
    · exact w.1 (z0.2 w.2)
    · have := w.2; omega
    · exact z3 w.1
  · rintro _ _ ⟨rfl, hd, z, z0, rfl⟩ z1 z2 z3
    omega
  · rintro _ _ ⟨rfl, hd, z, z0, rfl⟩ z1 z2 z3
    omega
  · rintro _ _ ⟨rfl, hd, hm, rfl⟩
    exact ⟨b4.2.2, by decide⟩
  · rintro _ _ ⟨rfl, hd, hm, rfl⟩ v t hv
    exact fin0 4 (fun r hr => dcA_4 hd (hm r hr)) (by decide) v t hv
  · rintro _ _ ⟨rfl, hd, hm, rfl⟩ v t hv
    exact Or.inl hv.1
  · rintro _ _ _ ⟨rfl, hd, hm, rfl⟩
    exact ⟨b4.2.1, h.1⟩
  · rintro _ _ _ ⟨rfl, hd, hm, rfl⟩ u hu z
    have q := sc u hu
    have e := e3 r0 hr0
    have nt := hm r0 hr0
    have r3 := hr0.2.2.2.2.2.1
    have r4 := hr0.2.2.2.2.2.2
    rw [q.2.2.2.2.2.2 a1 (by omega)]
    exact ⟨q.1, q.2.1, ⟨by omega, by
      apply Int.not_le.1
      intro w
      exact nt (Or.inr (Or.inr (Or.inr (Or.inr ⟨z, by omega⟩))))⟩, by omega⟩
  · rintro _ _ _ ⟨rfl, hd, hm, rfl⟩ u hu z t ht
    have q := sc u hu
    refine finC _ _ u t hd hm (fun r hr => ?_) hu ht
    have e := r0' z r
    rw [q.2.2.2.2.2.2 a1 (by omega), (e3 r hr).1]
    exact e
  · rintro _ _ _ ⟨rfl, hd, hm, rfl⟩ u hu z t ht
    have q := sc u hu
    refine finD _ u t hd hm (fun r hr => ?_) hu ht
    rw [q.2.2.2.2.2.2 a1 (by omega), (e3 r hr).1]
    exact (r0' z r).1
  · rintro _ _ _ ⟨rfl, hd, hm, rfl⟩ u hu z
    have q := sc u hu
    exact ⟨q.1, q.2.1⟩
  · rintro _ _ _ ⟨rfl, hd, hm, rfl⟩ u hu z t ht
    exact finC _ _ u t hd hm (fun r _ => r11 z r) hu ht
  · rintro _ _ _ ⟨rfl, hd, hm, rfl⟩ u hu z t ht
    exact finD _ u t hd hm (fun r _ => (r11 z r).1) hu ht
  · rintro _ _ _ ⟨rfl, hd, hm, rfl⟩ u hu z
    have q := sc u hu
    have e := e3 r0 hr0
    have nt := hm r0 hr0
    have r3 := hr0.2.2.2.2.2.1
    rw [q.2.2.2.2.2.2 a1 (by omega)]
    exact ⟨q.1, q.2.1, by omega, by
      apply Int.not_le.1
      intro w
      exact nt (Or.inr (Or.inr (Or.inr (Or.inl ⟨z, by omega⟩))))⟩
  · rintro _ _ _ ⟨rfl, hd, hm, rfl⟩ u hu z t ht
    exact finC _ _ u t hd hm (fun r _ => r12 z r) hu ht
  · rintro _ _ _ ⟨rfl, hd, hm, rfl⟩ u hu z t ht
    exact finD _ u t hd hm (fun r _ => (r12 z r).1) hu ht
  · rintro _ _ _ ⟨rfl, hd, hm, rfl⟩ u hu z z1 z2
    have q := sc u hu
    exact ⟨q.1, q.2.1⟩
  · rintro _ _ _ ⟨rfl, hd, hm, rfl⟩ u hu z z1 z2 t ht
    exact finC _ _ u t hd hm (fun r _ => r13 z1 z2 z r) hu ht
  · rintro _ _ _ ⟨rfl, hd, hm, rfl⟩ u hu z z1 z2 t ht
    exact finD _ u t hd hm (fun r _ => (r13 z1 z2 z r).1) hu ht
def dyA (T : Nat → Int) (n : Nat) : Nat → Int → Nat → Rw → Int × Rw
  | 0, _, _, r => (0, r)
  | f + 1, i, a, r => if (dcA T n i a r).1 = 0 then (if tkK T n (dcA T n i a r).2.1 = 59 then dyA T n f (i + 1) (nxA T n (dcA T n i a r).2.1) (dcA T n i a r).2.2 else (if tkK T n (dcA T n i a r).2.1 = -1 then 0 else fuA (dcA T n i a r).2.1 0, (dcA T n i a r).2.2)) else ((dcA T n i a r).1, r)
theorem dyA_s (T : Nat → Int) (n f : Nat) (i : Int) (a : Nat) (r : Rw) : dyA T n (f + 1) i a r = if (dcA T n i a r).1 = 0 then (if tkK T n (dcA T n i a r).2.1 = 59 then dyA T n f (i + 1) (nxA T n (dcA T n i a r).2.1) (dcA T n i a r).2.2 else (if tkK T n (dcA T n i a r).2.1 = -1 then 0 else fuA (dcA T n i a r).2.1 0, (dcA T n i a r).2.2)) else ((dcA T n i a r).1, r) := rfl
def rd0 : Rw := fun _ => 0
/-- the fault of a DAY's text, and what it tells -/
def dyP (T : Nat → Int) (n : Nat) : Int × Rw := dyA T n 41 0 (sk T n 0) rd0
theorem dcA_40 {T : Nat → Int} {n a : Nat} {i : Int} {r : Rw} (h : 40 ≤ i) : ¬ (dcA T n i a r).1 = 0 := by
  by_cases z : dwP (wnA T n a)
  · rw [dcA_4 z (Or.inl h)]; show ¬ fuA a 4 = 0; unfold fuA; omega
  · rw [dcA_0 z]; show ¬ fuA a 0 = 0; unfold fuA; omega
theorem v34 {X : (Nat → Int) × Nat} {d : Nat} {s : mSt} {Q : mQ} {a1 : Nat} (h1 : isBd a1)
  (I13 : Int → mSt → Prop) (m13 : Int → mSt → Nat)
  (z1 : ∀ y2 : Int, ∀ s : mSt, I13 y2 s → 40 < y2 → Q (some (mI (s 1 6))) s)
  (z2 : ∀ y2 : Int, ∀ s : mSt, I13 y2 s → ¬ 40 < y2 → TSq s ∧ s 1 6 = 0 ∧ (∃ r, DRq s a1 r))
  (z3 : ∀ y2 : Int, ∀ s : mSt, I13 y2 s → ¬ 40 < y2 → ∀ s3 : mSt, ((∀ r, DRq s a1 r → (dcA (s 2) (nO s) y2 (aO s) r).1 = 0 ∧ TSa s s3 (dcA (s 2) (nO s) y2 (aO s) r).2.1 ∧ DRq s3 a1 (dcA (s 2) (nO s) y2 (aO s) r).2.2) ∧ s3 1 6 = 0 ∧ fD s s3 a1) → TSq s3 ∧ s3 1 6 = 0)
  (z4 : ∀ y2 : Int, ∀ s : mSt, I13 y2 s → ¬ 40 < y2 → ∀ s3 : mSt, ((∀ r, DRq s a1 r → (dcA (s 2) (nO s) y2 (aO s) r).1 = 0 ∧ TSa s s3 (dcA (s 2) (nO s) y2 (aO s) r).2.1 ∧ DRq s3 a1 (dcA (s 2) (nO s) y2 (aO s) r).2.2) ∧ s3 1 6 = 0 ∧ fD s s3 a1) → ∀ s4 : mSt, (tkK (s3 2) (nO s3) (aO s3) = 59 ∧ TSa s3 s4 (nxA (s3 2) (nO s3) (aO s3)) ∧ s4 1 6 = 0 ∧ ∀ b, b ≠ 1 → s4 b = s3 b) → I13 (w32 (y2 + 1)) s4 ∧ m13 (w32 (y2 + 1)) s4 < m13 y2 s)
  (z5 : ∀ y2 : Int, ∀ s : mSt, I13 y2 s → ¬ 40 < y2 → ∀ s3 : mSt, ((∀ r, DRq s a1 r → (dcA (s 2) (nO s) y2 (aO s) r).1 = 0 ∧ TSa s s3 (dcA (s 2) (nO s) y2 (aO s) r).2.1 ∧ DRq s3 a1 (dcA (s 2) (nO s) y2 (aO s) r).2.2) ∧ s3 1 6 = 0 ∧ fD s s3 a1) → ∀ s5 : mSt, (¬ tkK (s3 2) (nO s3) (aO s3) = 59 ∧ s5 1 6 = (if tkK (s3 2) (nO s3) (aO s3) = -1 then 0 else fuA (aO s3) 0) ∧ s5 1 1 = s3 1 1 ∧ ∀ b, b ≠ 1 → s5 b = s3 b) → Q (some (mI (s5 1 6))) s5)
  (z6 : ∀ y2 : Int, ∀ s : mSt, I13 y2 s → ¬ 40 < y2 → ∀ s6 : mSt, ((∀ r, DRq s a1 r → ¬ (dcA (s 2) (nO s) y2 (aO s) r).1 = 0 ∧ s6 1 6 = (dcA (s 2) (nO s) y2 (aO s) r).1) ∧ s6 1 1 = s 1 1 ∧ fD s s6 a1) → Q (some (mI (s6 1 6))) s6)
  (z7 : (0 ≤ s 1 1 ∧ s 1 1 ≤ 400) ∧ BYq s)
  (z8 : ∀ s7 : mSt, (TSa s s7 (sk (s 2) (nO s) 0) ∧ s7 1 6 = 0 ∧ ∀ b, b ≠ 1 → s7 b = s b) → ∀ s8 : mSt, (DRq s8 a1 (fun _ => 0) ∧ fB s7 s8 a1) → I13 0 s8) :
  Sp X (d + 7) 34 [mR 3, mR a1] s Q := by
  have L : ∀ k : Nat, (∀ (y2 : Int) (s : mSt), I13 y2 s → m13 y2 s < k → Wp X (d + 7) 34 13 [some (mR 3), some (mR a1), some (mI y2)] [] s Q) := by
    intro k
    induction k with
    | zero => exact fun _ _ _ h => absurd h (Nat.not_lt_zero _)
    | succ k ih => exact fun y2 s hI hm => b34_13 h1 (fun q1 => b34_47 h1 (z1 y2 s hI q1)) (fun q2 => b34_19 h1 (c35 h1 (z2 y2 s hI q2) (fun s3 q3 => ⟨1, rfl, b34_25 h1 (fun q => absurd q (by decide)) (fun _ => b34_28 h1 (c93 (z3 y2 s hI q2 s3 q3) (fun s4 q4 => ⟨1, rfl, b34_35 h1 (fun _ => b34_41 h1 (ih (w32 (y2 + 1)) s4 (z4 y2 s hI q2 s3 q3 s4 q4).1 (Nat.lt_of_lt_of_le (z4 y2 s hI q2 s3 q3 s4 q4).2 (Nat.le_of_lt_succ hm)))) (fun q => absurd q (by decide))⟩) (fun s5 q5 => ⟨0, rfl, b34_35 h1 (fun q => absurd q (by decide)) (fun _ => b34_38 h1 (b34_47 h1 (z5 y2 s hI q2 s3 q3 s5 q5)))⟩)))⟩) (fun s6 q6 => ⟨0, rfl, b34_25 h1 (fun _ => b34_47 h1 (z6 y2 s hI q2 s6 q6)) (fun q => absurd q (by decide))⟩)))
  exact e34 (b34_0 h1 (c89 z7 (fun s7 q7 => ⟨rfl, b34_7 h1 (c2 h1 (fun s8 q8 => ⟨rfl, b34_11 h1 ((L (m13 0 s8 + 1)) 0 s8 (z8 s7 q7 s8 q8) (Nat.lt_succ_self _))⟩))⟩)))

theorem TSa_t {s t u : mSt} {a b : Nat} (h1 : TSa s t a) (h2 : TSa t u b) : TSa s u b := ⟨h2.1, h2.2.1.trans h1.2.1, h2.2.2.1.trans h1.2.2.1, h2.2.2.2⟩
theorem TSa_n {s t : mSt} {a : Nat} (h : TSa s t a) : nO t = nO s := by unfold nO; rw [h.2.2.1]
theorem fD_t {s t u : mSt} {k : Nat} (h1 : fD s t k) (h2 : fD t u k) : fD s u k := fun b g1 g2 g3 => (h2 b g1 g2 g3).trans (h1 b g1 g2 g3)
theorem c34 {X : (Nat → Int) × Nat} {d : Nat} {s : mSt} {Q : mQ} {a1 : Nat} (h1 : isBd a1) (p1 : (0 ≤ s 1 1 ∧ s 1 1 ≤ 400) ∧ BYq s) (k : ∀ (v : Int) (t : mSt), (v = (dyP (s 2) (nO s)).1 ∧ ((dyP (s 2) (nO s)).1 = 0 → DRq t a1 (dyP (s 2) (nO s)).2) ∧ t 1 1 = s 1 1 ∧ fD s t a1) → Q (some (mI v)) t) : Sp X (d + 7) 34 [mR 3, mR a1] s Q := by
  have l8 := bd_8 h1
  let T := s 2
  let n := nO s
  let J : Int → mSt → Prop := fun y t => ∃ i : Nat, y = i ∧ i ≤ 40 ∧ ∃ a r, dyA T n (41 - i) i a r = dyP T n ∧ TSa s t a ∧ t 1 6 = 0 ∧ DRq t a1 r ∧ fD s t a1
  refine v34 h1 J (fun y _ => (50 - y).toNat) ?_ ?_ ?_ ?_ ?_ ?_ p1 ?_
  · rintro _ t ⟨i, rfl, hi, a, r, eR, ht, hz, hr, hf⟩ hc
    omega
  · rintro _ t ⟨i, rfl, hi, a, r, eR, ht, hz, hr, hf⟩ hc
    exact ⟨ht.1, hz, r, hr⟩
  · rintro _ t ⟨i, rfl, hi, a, r, eR, ht, hz, hr, hf⟩ hc u hu
    exact ⟨(hu.1 r hr).2.1.1, hu.2.1⟩
  · rintro _ t ⟨i, rfl, hi, a, r, eR, ht, hz, hr, hf⟩ hc u hu v hv
    have q := hu.1 r hr
    rw [ht.2.1, TSa_n ht, ht.2.2.2] at q
    have tu := TSa_t ht q.2.1
    rw [tu.2.1, TSa_n tu, tu.2.2.2] at hv
    have i40 : i < 40 := by
      apply Nat.not_le.1
      intro w
      exact dcA_40 (by omega) q.1
    have e : dyA T n (41 - i) i a r = dyA T n (41 - (i + 1)) ((i + 1 : Nat) : Int) (nxA T n (dcA T n i a r).2.1) (dcA T n i a r).2.2 := by
      rw [show 41 - i = (41 - (i + 1)) + 1 by omega, dyA_s, if_pos q.1, if_pos hv.1]; rfl
    rw [w32_of (by omega)]
    exact ⟨⟨i + 1, by omega, by omega, _, _, e.symm.trans eR, TSa_t tu hv.2.1, hv.2.2.1, DR_cells q.2.2 (fun x hx => hv.2.2.2 x (by omega)), fD_t hf (fD_t hu.2.2 (fun b g1 _ _ => hv.2.2.2 b g1))⟩, by omega⟩
  · rintro _ t ⟨i, rfl, hi, a, r, eR, ht, hz, hr, hf⟩ hc u hu v hv
    have q := hu.1 r hr
    rw [ht.2.1, TSa_n ht, ht.2.2.2] at q
    have tu := TSa_t ht q.2.1
    rw [tu.2.1, TSa_n tu, tu.2.2.2] at hv
    have e : dyA T n (41 - i) i a r = (if tkK T n (dcA T n i a r).2.1 = -1 then 0 else fuA (dcA T n i a r).2.1 0, (dcA T n i a r).2.2) := by
      rw [show 41 - i = (41 - (i + 1)) + 1 by omega, dyA_s, if_pos q.1, if_neg hv.1]
    rw [e] at eR
    refine k _ v ⟨?_, fun _ => ?_, hv.2.2.1.trans tu.2.2.1, fD_t hf (fD_t hu.2.2 (fun b g1 _ _ => hv.2.2.2 b g1))⟩
    · show v 1 6 = (dyP T n).1
      rw [← eR]; exact hv.2.1
    · show DRq v a1 (dyP T n).2
      rw [← eR]
      exact DR_cells q.2.2 (fun x hx => hv.2.2.2 x (by omega))
  · rintro _ t ⟨i, rfl, hi, a, r, eR, ht, hz, hr, hf⟩ hc u hu
    have q := hu.1 r hr
    rw [ht.2.1, TSa_n ht, ht.2.2.2] at q
    have e : dyA T n (41 - i) i a r = ((dcA T n i a r).1, r) := by
      rw [show 41 - i = (41 - (i + 1)) + 1 by omega, dyA_s, if_neg q.1]
    rw [e] at eR
    refine k _ u ⟨?_, fun w => ?_, hu.2.1.trans ht.2.2.1, fD_t hf hu.2.2⟩
    · show u 1 6 = (dyP T n).1
      rw [← eR]; exact q.2
    · have w' : (dyP T n).1 = 0 := w
      rw [← eR] at w'; exact absurd w' q.1
  · rintro a ha b hb
    have c1 : b 1 = a 1 := hb.2 1 (by omega)
    have c2 : b 2 = a 2 := hb.2 2 (by omega)
    refine ⟨0, rfl, by omega, _, _, rfl, TSa_c ha.1 c1 c2, by rw [c1]; exact ha.2.1, hb.1, fun x g1 g2 g3 => (hb.2 x (by omega)).trans (ha.2.2 x g1)⟩
