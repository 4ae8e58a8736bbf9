/-! tests: the class -/
theorem v80 {X : (Nat → Int) × Nat} {d : Nat} {s : mSt} {Q : mQ} {a1 : Nat} {x2 : Int} (h1 : isRl a1)
  (I8 : Int → Int → Int → mSt → Prop) (m8 : Int → Int → Int → mSt → Nat)
  (I22 : Int → Int → Int → Int → mSt → Prop) (m22 : Int → Int → Int → Int → mSt → Nat)
  (I37 : Int → Int → Int → mSt → Prop) (m37 : Int → Int → Int → mSt → Nat)
  (I62 : Int → Int → Int → mSt → Prop) (m62 : Int → Int → Int → mSt → Nat)
  (I80 : Int → Int → Int → mSt → Prop) (m80 : Int → Int → Int → mSt → Nat)
  (z1 : ∀ y3 : Int, ∀ y4 : Int, ∀ y5 : Int, ∀ s : mSt, I8 y3 y4 y5 s → 400 ≤ y5 → (0 ≤ s 1 3 ∧ s 1 3 ≤ 400) ∧ (0 ≤ (0 : Int) ∧ (0 : Int) ≤ 4))
  (z2 : ∀ y3 : Int, ∀ y4 : Int, ∀ y5 : Int, ∀ s : mSt, I8 y3 y4 y5 s → 400 ≤ y5 → ∀ v2 : Int, ∀ s2 : mSt, (v2 = 0 ∧ s2 = flC s (0 : Int)) → Q (some (mI v2)) s2)
  (z3 : ∀ y3 : Int, ∀ y4 : Int, ∀ y5 : Int, ∀ s : mSt, I8 y3 y4 y5 s → 400 ≤ y5 → ∀ v2 : Int, ∀ s2 : mSt, (v2 = 0 ∧ s2 = flC s (0 : Int)) → v2 = 0 ∨ v2 = 1)
  (z4 : ∀ y3 : Int, ∀ y4 : Int, ∀ y5 : Int, ∀ s : mSt, I8 y3 y4 y5 s → ¬ 400 ≤ y5 → Sp X (d + 6) 81 [mR 5, mR a1, mI x2] s (fun r t4 => ∃ v4 : Int, r = some (mI v4) ∧ (I22 y3 y4 y5 v4 t4 ∧ m22 y3 y4 y5 v4 t4 < m8 y3 y4 y5 s)))
  (z5 : ∀ y3 : Int, ∀ y4 : Int, ∀ y5 : Int, ∀ w0 : Int, ∀ s : mSt, I22 y3 y4 y5 w0 s → ¬ w0 = 0 → y3 = 0 → I37 y3 y4 y5 s ∧ m37 y3 y4 y5 s < m22 y3 y4 y5 w0 s)
  (z6 : ∀ y3 : Int, ∀ y4 : Int, ∀ y5 : Int, ∀ w0 : Int, ∀ s : mSt, I22 y3 y4 y5 w0 s → ¬ w0 = 0 → ¬ y3 = 0 → 0 ≤ s a1 1 ∧ s a1 1 < 400)
  (z7 : ∀ y3 : Int, ∀ y4 : Int, ∀ y5 : Int, ∀ w0 : Int, ∀ s : mSt, I22 y3 y4 y5 w0 s → ¬ w0 = 0 → ¬ y3 = 0 → ∀ s8 : mSt, s8 = uS (uS s (a1 + 1) (s a1 1).toNat (200010 : Int)) a1 1 (s a1 1 + 1) → I37 y3 y4 y5 s8 ∧ m37 y3 y4 y5 s8 < m22 y3 y4 y5 w0 s)
  (z8 : ∀ y3 : Int, ∀ y4 : Int, ∀ y5 : Int, ∀ w0 : Int, ∀ s : mSt, I22 y3 y4 y5 w0 s → w0 = 0 → Q (some (mI 0)) s)
  (z9 : ∀ y3 : Int, ∀ y4 : Int, ∀ y5 : Int, ∀ s : mSt, I37 y3 y4 y5 s → TSq s)
  (z10 : ∀ y3 : Int, ∀ y4 : Int, ∀ y5 : Int, ∀ s : mSt, I37 y3 y4 y5 s → wnC s = (17 : Int) → I80 1 y4 y5 s ∧ m80 1 y4 y5 s < m37 y3 y4 y5 s)
  (z11 : ∀ y3 : Int, ∀ y4 : Int, ∀ y5 : Int, ∀ s : mSt, I37 y3 y4 y5 s → ¬ (wnC s = (17 : Int)) → y4 = 0 → I62 0 y4 y5 s ∧ m62 0 y4 y5 s < m37 y3 y4 y5 s)
  (z12 : ∀ y3 : Int, ∀ y4 : Int, ∀ y5 : Int, ∀ s : mSt, I37 y3 y4 y5 s → ¬ (wnC s = (17 : Int)) → ¬ y4 = 0 → 0 ≤ s a1 1 ∧ s a1 1 < 400)
  (z13 : ∀ y3 : Int, ∀ y4 : Int, ∀ y5 : Int, ∀ s : mSt, I37 y3 y4 y5 s → ¬ (wnC s = (17 : Int)) → ¬ y4 = 0 → ∀ s14 : mSt, s14 = uS (uS s (a1 + 1) (s a1 1).toNat (200011 : Int)) a1 1 (s a1 1 + 1) → I62 0 y4 y5 s14 ∧ m62 0 y4 y5 s14 < m37 y3 y4 y5 s)
  (z14 : ∀ y3 : Int, ∀ y4 : Int, ∀ y5 : Int, ∀ s : mSt, I62 y3 y4 y5 s → TSq s)
  (z15 : ∀ y3 : Int, ∀ y4 : Int, ∀ y5 : Int, ∀ s : mSt, I62 y3 y4 y5 s → wnC s = (16 : Int) → I80 y3 1 y5 s ∧ m80 y3 1 y5 s < m62 y3 y4 y5 s)
  (z16 : ∀ y3 : Int, ∀ y4 : Int, ∀ y5 : Int, ∀ s : mSt, I62 y3 y4 y5 s → ¬ (wnC s = (16 : Int)) → Q (some (mI 1)) s)
  (z17 : ∀ y3 : Int, ∀ y4 : Int, ∀ y5 : Int, ∀ s : mSt, I80 y3 y4 y5 s → (0 ≤ s 1 4 ∧ s 1 4 ≤ s 1 1 ∧ s 1 1 ≤ 400) ∧ BYq s)
  (z18 : ∀ y3 : Int, ∀ y4 : Int, ∀ y5 : Int, ∀ s : mSt, I80 y3 y4 y5 s → ∀ s17 : mSt, (TKq (s 2) (s 1 1).toNat (sk (s 2) (s 1 1).toNat (s 1 4).toNat) s17 ∧ f1 s s17) → I8 y3 y4 (w32 (y5 + 1)) s17 ∧ m8 y3 y4 (w32 (y5 + 1)) s17 < m80 y3 y4 y5 s)
  (z19 : I8 0 0 0 s) :
  Sp X (d + 7) 80 [mR 5, mR a1, mI x2] s Q := by
  have L : ∀ k : Nat, (∀ (y3 : Int) (y4 : Int) (y5 : Int) (s : mSt), I8 y3 y4 y5 s → m8 y3 y4 y5 s < k → Wp X (d + 7) 80 8 [some (mR 5), some (mR a1), some (mI x2), some (mI y3), some (mI y4), some (mI y5)] [] s Q) ∧ (∀ (y3 : Int) (y4 : Int) (y5 : Int) (w0 : Int) (s : mSt), I22 y3 y4 y5 w0 s → m22 y3 y4 y5 w0 s < k → Wp X (d + 7) 80 22 [some (mR 5), some (mR a1), some (mI x2), some (mI y3), some (mI y4), some (mI y5)] [mI w0] s Q) ∧ (∀ (y3 : Int) (y4 : Int) (y5 : Int) (s : mSt), I37 y3 y4 y5 s → m37 y3 y4 y5 s < k → Wp X (d + 7) 80 37 [some (mR 5), some (mR a1), some (mI x2), some (mI y3), some (mI y4), some (mI y5)] [] s Q) ∧ (∀ (y3 : Int) (y4 : Int) (y5 : Int) (s : mSt), I62 y3 y4 y5 s → m62 y3 y4 y5 s < k → Wp X (d + 7) 80 62 [some (mR 5), some (mR a1), some (mI x2), some (mI y3), some (mI y4), some (mI y5)] [] s Q) ∧ (∀ (y3 : Int) (y4 : Int) (y5 : Int) (s : mSt), I80 y3 y4 y5 s → m80 y3 y4 y5 s < k → Wp X (d + 7) 80 80 [some (mR 5), some (mR a1), some (mI x2), some (mI y3), some (mI y4), some (mI y5)] [] s Q) := by
    intro k
    induction k with
    | zero => exact ⟨fun _ _ _ _ _ h => absurd h (Nat.not_lt_zero _), fun _ _ _ _ _ _ h => absurd h (Nat.not_lt_zero _), fun _ _ _ _ _ h => absurd h (Nat.not_lt_zero _), fun _ _ _ _ _ h => absurd h (Nat.not_lt_zero _), fun _ _ _ _ _ h => absurd h (Nat.not_lt_zero _)⟩
    | succ k ih => exact ⟨fun y3 y4 y5 s hI hm => b80_8 h1 (fun q1 => b80_93 h1 (c94 (z1 y3 y4 y5 s hI q1) (fun v2 s2 q2 => ⟨v2, rfl, b80_101 h1 (z2 y3 y4 y5 s hI q1 v2 s2 q2) (z3 y3 y4 y5 s hI q1 v2 s2 q2)⟩))) (fun q3 => b80_16 h1 (Sp.imp (z4 y3 y4 y5 s hI q3) (fun r t4 ⟨v4, e, zI⟩ => ⟨v4, e, ih.2.1 y3 y4 y5 v4 t4 zI.1 (Nat.lt_of_lt_of_le zI.2 (Nat.le_of_lt_succ hm))⟩))), fun y3 y4 y5 w0 s hI hm => b80_22 h1 (fun q5 => b80_27 h1 (fun q6 => ih.2.2.1 y3 y4 y5 s (z5 y3 y4 y5 w0 s hI q5 q6).1 (Nat.lt_of_lt_of_le (z5 y3 y4 y5 w0 s hI q5 q6).2 (Nat.le_of_lt_succ hm))) (fun q7 => b80_31 h1 (c72 h1 (z6 y3 y4 y5 w0 s hI q5 q7) (fun s8 q8 => ⟨rfl, ih.2.2.1 y3 y4 y5 s8 (z7 y3 y4 y5 w0 s hI q5 q7 s8 q8).1 (Nat.lt_of_lt_of_le (z7 y3 y4 y5 w0 s hI q5 q7 s8 q8).2 (Nat.le_of_lt_succ hm))⟩)))) (fun q9 => b80_25 h1 (z8 y3 y4 y5 w0 s hI q9)), fun y3 y4 y5 s hI hm => b80_37 h1 (c92 (z9 y3 y4 y5 s hI) (fun q10 => ⟨1, rfl, b80_46 h1 (fun _ => ih.2.2.2.2 1 y4 y5 s (z10 y3 y4 y5 s hI q10).1 (Nat.lt_of_lt_of_le (z10 y3 y4 y5 s hI q10).2 (Nat.le_of_lt_succ hm))) (fun q => absurd q (by decide))⟩) (fun q11 => ⟨0, rfl, b80_46 h1 (fun q => absurd q (by decide)) (fun _ => b80_51 h1 (fun q12 => ih.2.2.2.1 0 y4 y5 s (z11 y3 y4 y5 s hI q11 q12).1 (Nat.lt_of_lt_of_le (z11 y3 y4 y5 s hI q11 q12).2 (Nat.le_of_lt_succ hm))) (fun q13 => b80_56 h1 (c72 h1 (z12 y3 y4 y5 s hI q11 q13) (fun s14 q14 => ⟨rfl, ih.2.2.2.1 0 y4 y5 s14 (z13 y3 y4 y5 s hI q11 q13 s14 q14).1 (Nat.lt_of_lt_of_le (z13 y3 y4 y5 s hI q11 q13 s14 q14).2 (Nat.le_of_lt_succ hm))⟩))))⟩)), fun y3 y4 y5 s hI hm => b80_62 h1 (c92 (z14 y3 y4 y5 s hI) (fun q15 => ⟨1, rfl, b80_71 h1 (fun _ => ih.2.2.2.2 y3 1 y5 s (z15 y3 y4 y5 s hI q15).1 (Nat.lt_of_lt_of_le (z15 y3 y4 y5 s hI q15).2 (Nat.le_of_lt_succ hm))) (fun q => absurd q (by decide))⟩) (fun q16 => ⟨0, rfl, b80_71 h1 (fun q => absurd q (by decide)) (fun _ => b80_78 h1 (z16 y3 y4 y5 s hI q16))⟩)), fun y3 y4 y5 s hI hm => b80_80 h1 (c90 (z17 y3 y4 y5 s hI) (fun s17 q17 => ⟨rfl, b80_87 h1 (ih.1 y3 y4 (w32 (y5 + 1)) s17 (z18 y3 y4 y5 s hI s17 q17).1 (Nat.lt_of_lt_of_le (z18 y3 y4 y5 s hI s17 q17).2 (Nat.le_of_lt_succ hm)))⟩))⟩
  exact e80 (b80_0 h1 ((L (m8 0 0 0 s + 1)).1 0 0 0 s z19 (Nat.lt_succ_self _)))

theorem v81 {X : (Nat → Int) × Nat} {d : Nat} {s : mSt} {Q : mQ} {a1 : Nat} {x2 : Int} (h1 : isRl a1)
  (I72 : Int → Int → Int → mSt → Prop) (m72 : Int → Int → Int → mSt → Nat)
  (I105 : Int → Int → Int → mSt → Prop) (m105 : Int → Int → Int → mSt → Nat)
  (z1 : ∀ y3 : Int, ∀ y4 : Int, ∀ w0 : Int, ∀ s : mSt, I72 y3 y4 w0 s → ¬ w0 = 0 → 0 ≤ s a1 1 ∧ s a1 1 < 400)
  (z2 : ∀ y3 : Int, ∀ y4 : Int, ∀ w0 : Int, ∀ s : mSt, I72 y3 y4 w0 s → ¬ w0 = 0 → ∀ s2 : mSt, s2 = uS (uS s (a1 + 1) (s a1 1).toNat (200012 : Int)) a1 1 (s a1 1 + 1) → Q (some (mI 1)) s2)
  (z3 : ∀ y3 : Int, ∀ y4 : Int, ∀ w0 : Int, ∀ s : mSt, I72 y3 y4 w0 s → w0 = 0 → Q (some (mI 0)) s)
  (z4 : ∀ y3 : Int, ∀ y4 : Int, ∀ w0 : Int, ∀ s : mSt, I105 y3 y4 w0 s → ¬ w0 = 0 → (s 1 2) = 93 → (0 ≤ s 1 4 ∧ s 1 4 ≤ s 1 1 ∧ s 1 1 ≤ 400) ∧ BYq s)
  (z5 : ∀ y3 : Int, ∀ y4 : Int, ∀ w0 : Int, ∀ s : mSt, I105 y3 y4 w0 s → ¬ w0 = 0 → (s 1 2) = 93 → ∀ s6 : mSt, (TKq (s 2) (s 1 1).toNat (sk (s 2) (s 1 1).toNat (s 1 4).toNat) s6 ∧ f1 s s6) → Q (some (mI 1)) s6)
  (z6 : ∀ y3 : Int, ∀ y4 : Int, ∀ w0 : Int, ∀ s : mSt, I105 y3 y4 w0 s → ¬ w0 = 0 → ¬ (s 1 2) = 93 → (0 ≤ s 1 3 ∧ s 1 3 ≤ 400) ∧ (0 ≤ (0 : Int) ∧ (0 : Int) ≤ 4))
  (z7 : ∀ y3 : Int, ∀ y4 : Int, ∀ w0 : Int, ∀ s : mSt, I105 y3 y4 w0 s → ¬ w0 = 0 → ¬ (s 1 2) = 93 → ∀ v8 : Int, ∀ s8 : mSt, (v8 = 0 ∧ s8 = flC s (0 : Int)) → Q (some (mI v8)) s8)
  (z8 : ∀ y3 : Int, ∀ y4 : Int, ∀ w0 : Int, ∀ s : mSt, I105 y3 y4 w0 s → ¬ w0 = 0 → ¬ (s 1 2) = 93 → ∀ v8 : Int, ∀ s8 : mSt, (v8 = 0 ∧ s8 = flC s (0 : Int)) → v8 = 0 ∨ v8 = 1)
  (z9 : ∀ y3 : Int, ∀ y4 : Int, ∀ w0 : Int, ∀ s : mSt, I105 y3 y4 w0 s → w0 = 0 → Q (some (mI 0)) s)
  (z10 : TSq s)
  (z11 : wnC s = (18 : Int) → ¬ (s 1 2) = 91 → x2 < 10 → (0 ≤ s 1 4 ∧ s 1 4 ≤ s 1 1 ∧ s 1 1 ≤ 400) ∧ BYq s)
  (z12 : wnC s = (18 : Int) → ¬ (s 1 2) = 91 → x2 < 10 → ∀ s13 : mSt, (TKq (s 2) (s 1 1).toNat (sk (s 2) (s 1 1).toNat (s 1 4).toNat) s13 ∧ f1 s s13) → Sp X (d + 7) 81 [mR 5, mR a1, mI (w32 (x2 + 1))] s13 (fun r t14 => ∃ v14 : Int, r = some (mI v14) ∧ I72 1 0 v14 t14))
  (z13 : wnC s = (18 : Int) → ¬ (s 1 2) = 91 → ¬ x2 < 10 → (0 ≤ s 1 3 ∧ s 1 3 ≤ 400) ∧ (0 ≤ (2 : Int) ∧ (2 : Int) ≤ 4))
  (z14 : wnC s = (18 : Int) → ¬ (s 1 2) = 91 → ¬ x2 < 10 → ∀ v16 : Int, ∀ s16 : mSt, (v16 = 0 ∧ s16 = flC s (2 : Int)) → Q (some (mI v16)) s16)
  (z15 : wnC s = (18 : Int) → ¬ (s 1 2) = 91 → ¬ x2 < 10 → ∀ v16 : Int, ∀ s16 : mSt, (v16 = 0 ∧ s16 = flC s (2 : Int)) → v16 = 0 ∨ v16 = 1)
  (z16 : wnC s = (18 : Int) → (s 1 2) = 91 → x2 < 10 → (0 ≤ s 1 4 ∧ s 1 4 ≤ s 1 1 ∧ s 1 1 ≤ 400) ∧ BYq s)
  (z17 : wnC s = (18 : Int) → (s 1 2) = 91 → x2 < 10 → ∀ s19 : mSt, (TKq (s 2) (s 1 1).toNat (sk (s 2) (s 1 1).toNat (s 1 4).toNat) s19 ∧ f1 s s19) → Sp X (d + 7) 81 [mR 5, mR a1, mI (w32 (x2 + 1))] s19 (fun r t20 => ∃ v20 : Int, r = some (mI v20) ∧ I72 1 1 v20 t20))
  (z18 : wnC s = (18 : Int) → (s 1 2) = 91 → ¬ x2 < 10 → (0 ≤ s 1 3 ∧ s 1 3 ≤ 400) ∧ (0 ≤ (2 : Int) ∧ (2 : Int) ≤ 4))
  (z19 : wnC s = (18 : Int) → (s 1 2) = 91 → ¬ x2 < 10 → ∀ v22 : Int, ∀ s22 : mSt, (v22 = 0 ∧ s22 = flC s (2 : Int)) → Q (some (mI v22)) s22)
  (z20 : wnC s = (18 : Int) → (s 1 2) = 91 → ¬ x2 < 10 → ∀ v22 : Int, ∀ s22 : mSt, (v22 = 0 ∧ s22 = flC s (2 : Int)) → v22 = 0 ∨ v22 = 1)
  (z21 : ¬ (wnC s = (18 : Int)) → ¬ (s 1 2) = 91 → RIq s a1 ∧ s a1 1 ≤ (aO s : Int))
  (z22 : ¬ (wnC s = (18 : Int)) → ¬ (s 1 2) = 91 → ∀ s25 : mSt, ((smC s a1).1 = 0 ∧ RQ1 s s25 a1 (smC s a1).2.1 (smC s a1).2.2.1 (smC s a1).2.2.2 ∧ (s25 a1 1 + aO s ≤ s a1 1 + aO s25 ∧ aO s < aO s25) ∧ (0 ≤ s25 5 1 ∧ s25 5 1 ≤ 60)) → ¬ (cmC (s25 1 2)) = (-1) → (s25 5 1) < 60 → ∀ t28 : mSt, t28 = uS s25 5 1 (w32 ((s25 5 1) + 1)) → (0 ≤ t28 1 4 ∧ t28 1 4 ≤ t28 1 1 ∧ t28 1 1 ≤ 400) ∧ BYq t28)
  (z23 : ¬ (wnC s = (18 : Int)) → ¬ (s 1 2) = 91 → ∀ s25 : mSt, ((smC s a1).1 = 0 ∧ RQ1 s s25 a1 (smC s a1).2.1 (smC s a1).2.2.1 (smC s a1).2.2.2 ∧ (s25 a1 1 + aO s ≤ s a1 1 + aO s25 ∧ aO s < aO s25) ∧ (0 ≤ s25 5 1 ∧ s25 5 1 ≤ 60)) → ¬ (cmC (s25 1 2)) = (-1) → (s25 5 1) < 60 → ∀ t28 : mSt, t28 = uS s25 5 1 (w32 ((s25 5 1) + 1)) → ∀ s29 : mSt, (TKq (t28 2) (t28 1 1).toNat (sk (t28 2) (t28 1 1).toNat (t28 1 4).toNat) s29 ∧ f1 t28 s29) → RIq s29 a1 ∧ s29 a1 1 ≤ (aO s29 : Int))
  (z24 : ¬ (wnC s = (18 : Int)) → ¬ (s 1 2) = 91 → ∀ s25 : mSt, ((smC s a1).1 = 0 ∧ RQ1 s s25 a1 (smC s a1).2.1 (smC s a1).2.2.1 (smC s a1).2.2.2 ∧ (s25 a1 1 + aO s ≤ s a1 1 + aO s25 ∧ aO s < aO s25) ∧ (0 ≤ s25 5 1 ∧ s25 5 1 ≤ 60)) → ¬ (cmC (s25 1 2)) = (-1) → (s25 5 1) < 60 → ∀ t28 : mSt, t28 = uS s25 5 1 (w32 ((s25 5 1) + 1)) → ∀ s29 : mSt, (TKq (t28 2) (t28 1 1).toNat (sk (t28 2) (t28 1 1).toNat (t28 1 4).toNat) s29 ∧ f1 t28 s29) → ∀ s30 : mSt, ((smC s29 a1).1 = 0 ∧ RQ1 s29 s30 a1 (smC s29 a1).2.1 (smC s29 a1).2.2.1 (smC s29 a1).2.2.2 ∧ (s30 a1 1 + aO s29 ≤ s29 a1 1 + aO s30 ∧ aO s29 < aO s30) ∧ (0 ≤ s30 5 1 ∧ s30 5 1 ≤ 60)) → 0 ≤ s30 a1 1 ∧ s30 a1 1 < 400)
  (z25 : ¬ (wnC s = (18 : Int)) → ¬ (s 1 2) = 91 → ∀ s25 : mSt, ((smC s a1).1 = 0 ∧ RQ1 s s25 a1 (smC s a1).2.1 (smC s a1).2.2.1 (smC s a1).2.2.2 ∧ (s25 a1 1 + aO s ≤ s a1 1 + aO s25 ∧ aO s < aO s25) ∧ (0 ≤ s25 5 1 ∧ s25 5 1 ≤ 60)) → ¬ (cmC (s25 1 2)) = (-1) → (s25 5 1) < 60 → ∀ t28 : mSt, t28 = uS s25 5 1 (w32 ((s25 5 1) + 1)) → ∀ s29 : mSt, (TKq (t28 2) (t28 1 1).toNat (sk (t28 2) (t28 1 1).toNat (t28 1 4).toNat) s29 ∧ f1 t28 s29) → ∀ s30 : mSt, ((smC s29 a1).1 = 0 ∧ RQ1 s29 s30 a1 (smC s29 a1).2.1 (smC s29 a1).2.2.1 (smC s29 a1).2.2.2 ∧ (s30 a1 1 + aO s29 ≤ s29 a1 1 + aO s30 ∧ aO s29 < aO s30) ∧ (0 ≤ s30 5 1 ∧ s30 5 1 ≤ 60)) → ∀ s31 : mSt, s31 = uS (uS s30 (a1 + 1) (s30 a1 1).toNat (cmC (s25 1 2))) a1 1 (s30 a1 1 + 1) → Q (some (mI 1)) s31)
  (z26 : ¬ (wnC s = (18 : Int)) → ¬ (s 1 2) = 91 → ∀ s25 : mSt, ((smC s a1).1 = 0 ∧ RQ1 s s25 a1 (smC s a1).2.1 (smC s a1).2.2.1 (smC s a1).2.2.2 ∧ (s25 a1 1 + aO s ≤ s a1 1 + aO s25 ∧ aO s < aO s25) ∧ (0 ≤ s25 5 1 ∧ s25 5 1 ≤ 60)) → ¬ (cmC (s25 1 2)) = (-1) → (s25 5 1) < 60 → ∀ t28 : mSt, t28 = uS s25 5 1 (w32 ((s25 5 1) + 1)) → ∀ s29 : mSt, (TKq (t28 2) (t28 1 1).toNat (sk (t28 2) (t28 1 1).toNat (t28 1 4).toNat) s29 ∧ f1 t28 s29) → ∀ s32 : mSt, RQ0 s29 s32 a1 (smC s29 a1).1 → Q (some (mI 0)) s32)
  (z27 : ¬ (wnC s = (18 : Int)) → ¬ (s 1 2) = 91 → ∀ s25 : mSt, ((smC s a1).1 = 0 ∧ RQ1 s s25 a1 (smC s a1).2.1 (smC s a1).2.2.1 (smC s a1).2.2.2 ∧ (s25 a1 1 + aO s ≤ s a1 1 + aO s25 ∧ aO s < aO s25) ∧ (0 ≤ s25 5 1 ∧ s25 5 1 ≤ 60)) → ¬ (cmC (s25 1 2)) = (-1) → ¬ (s25 5 1) < 60 → (0 ≤ s25 1 3 ∧ s25 1 3 ≤ 400) ∧ (0 ≤ (3 : Int) ∧ (3 : Int) ≤ 4))
  (z28 : ¬ (wnC s = (18 : Int)) → ¬ (s 1 2) = 91 → ∀ s25 : mSt, ((smC s a1).1 = 0 ∧ RQ1 s s25 a1 (smC s a1).2.1 (smC s a1).2.2.1 (smC s a1).2.2.2 ∧ (s25 a1 1 + aO s ≤ s a1 1 + aO s25 ∧ aO s < aO s25) ∧ (0 ≤ s25 5 1 ∧ s25 5 1 ≤ 60)) → ¬ (cmC (s25 1 2)) = (-1) → ¬ (s25 5 1) < 60 → ∀ v34 : Int, ∀ s34 : mSt, (v34 = 0 ∧ s34 = flC s25 (3 : Int)) → Q (some (mI v34)) s34)
  (z29 : ¬ (wnC s = (18 : Int)) → ¬ (s 1 2) = 91 → ∀ s25 : mSt, ((smC s a1).1 = 0 ∧ RQ1 s s25 a1 (smC s a1).2.1 (smC s a1).2.2.1 (smC s a1).2.2.2 ∧ (s25 a1 1 + aO s ≤ s a1 1 + aO s25 ∧ aO s < aO s25) ∧ (0 ≤ s25 5 1 ∧ s25 5 1 ≤ 60)) → ¬ (cmC (s25 1 2)) = (-1) → ¬ (s25 5 1) < 60 → ∀ v34 : Int, ∀ s34 : mSt, (v34 = 0 ∧ s34 = flC s25 (3 : Int)) → v34 = 0 ∨ v34 = 1)
  (z30 : ¬ (wnC s = (18 : Int)) → ¬ (s 1 2) = 91 → ∀ s25 : mSt, ((smC s a1).1 = 0 ∧ RQ1 s s25 a1 (smC s a1).2.1 (smC s a1).2.2.1 (smC s a1).2.2.2 ∧ (s25 a1 1 + aO s ≤ s a1 1 + aO s25 ∧ aO s < aO s25) ∧ (0 ≤ s25 5 1 ∧ s25 5 1 ≤ 60)) → (cmC (s25 1 2)) = (-1) → (0 ≤ s25 1 3 ∧ s25 1 3 ≤ 400) ∧ (0 ≤ (0 : Int) ∧ (0 : Int) ≤ 4))
  (z31 : ¬ (wnC s = (18 : Int)) → ¬ (s 1 2) = 91 → ∀ s25 : mSt, ((smC s a1).1 = 0 ∧ RQ1 s s25 a1 (smC s a1).2.1 (smC s a1).2.2.1 (smC s a1).2.2.2 ∧ (s25 a1 1 + aO s ≤ s a1 1 + aO s25 ∧ aO s < aO s25) ∧ (0 ≤ s25 5 1 ∧ s25 5 1 ≤ 60)) → (cmC (s25 1 2)) = (-1) → ∀ v36 : Int, ∀ s36 : mSt, (v36 = 0 ∧ s36 = flC s25 (0 : Int)) → Q (some (mI v36)) s36)
  (z32 : ¬ (wnC s = (18 : Int)) → ¬ (s 1 2) = 91 → ∀ s25 : mSt, ((smC s a1).1 = 0 ∧ RQ1 s s25 a1 (smC s a1).2.1 (smC s a1).2.2.1 (smC s a1).2.2.2 ∧ (s25 a1 1 + aO s ≤ s a1 1 + aO s25 ∧ aO s < aO s25) ∧ (0 ≤ s25 5 1 ∧ s25 5 1 ≤ 60)) → (cmC (s25 1 2)) = (-1) → ∀ v36 : Int, ∀ s36 : mSt, (v36 = 0 ∧ s36 = flC s25 (0 : Int)) → v36 = 0 ∨ v36 = 1)
  (z33 : ¬ (wnC s = (18 : Int)) → ¬ (s 1 2) = 91 → ∀ s37 : mSt, RQ0 s s37 a1 (smC s a1).1 → Q (some (mI 0)) s37)
  (z34 : ¬ (wnC s = (18 : Int)) → (s 1 2) = 91 → x2 < 10 → (0 ≤ s 1 4 ∧ s 1 4 ≤ s 1 1 ∧ s 1 1 ≤ 400) ∧ BYq s)
  (z35 : ¬ (wnC s = (18 : Int)) → (s 1 2) = 91 → x2 < 10 → ∀ s40 : mSt, (TKq (s 2) (s 1 1).toNat (sk (s 2) (s 1 1).toNat (s 1 4).toNat) s40 ∧ f1 s s40) → Sp X (d + 7) 80 [mR 5, mR a1, mI (w32 (x2 + 1))] s40 (fun r t41 => ∃ v41 : Int, r = some (mI v41) ∧ I105 0 1 v41 t41))
  (z36 : ¬ (wnC s = (18 : Int)) → (s 1 2) = 91 → ¬ x2 < 10 → (0 ≤ s 1 3 ∧ s 1 3 ≤ 400) ∧ (0 ≤ (2 : Int) ∧ (2 : Int) ≤ 4))
  (z37 : ¬ (wnC s = (18 : Int)) → (s 1 2) = 91 → ¬ x2 < 10 → ∀ v43 : Int, ∀ s43 : mSt, (v43 = 0 ∧ s43 = flC s (2 : Int)) → Q (some (mI v43)) s43)
  (z38 : ¬ (wnC s = (18 : Int)) → (s 1 2) = 91 → ¬ x2 < 10 → ∀ v43 : Int, ∀ s43 : mSt, (v43 = 0 ∧ s43 = flC s (2 : Int)) → v43 = 0 ∨ v43 = 1) :
  Sp X (d + 8) 81 [mR 5, mR a1, mI x2] s Q := by
  have L : ∀ k : Nat, (∀ (y3 : Int) (y4 : Int) (l5 : Option mV) (w0 : Int) (s : mSt), I72 y3 y4 w0 s → m72 y3 y4 w0 s < k → Wp X (d + 8) 81 72 [some (mR 5), some (mR a1), some (mI x2), some (mI y3), some (mI y4), l5] [mI w0] s Q) ∧ (∀ (y3 : Int) (y4 : Int) (l5 : Option mV) (w0 : Int) (s : mSt), I105 y3 y4 w0 s → m105 y3 y4 w0 s < k → Wp X (d + 8) 81 105 [some (mR 5), some (mR a1), some (mI x2), some (mI y3), some (mI y4), l5] [mI w0] s Q) := by
    intro k
    induction k with
    | zero => exact ⟨fun _ _ _ _ _ _ h => absurd h (Nat.not_lt_zero _), fun _ _ _ _ _ _ h => absurd h (Nat.not_lt_zero _)⟩
    | succ k ih => exact ⟨fun y3 y4 l5 w0 s hI hm => b81_72 h1 (fun q1 => b81_77 h1 (c72 h1 (z1 y3 y4 w0 s hI q1) (fun s2 q2 => ⟨rfl, b81_83 h1 (z2 y3 y4 w0 s hI q1 s2 q2)⟩))) (fun q3 => b81_75 h1 (z3 y3 y4 w0 s hI q3)), fun y3 y4 l5 w0 s hI hm => b81_105 h1 (fun q4 => b81_110 h1 (fun q5 => b81_131 h1 (c90 (z4 y3 y4 w0 s hI q4 q5) (fun s6 q6 => ⟨rfl, b81_138 h1 (z5 y3 y4 w0 s hI q4 q5 s6 q6)⟩))) (fun q7 => b81_122 h1 (c94 (z6 y3 y4 w0 s hI q4 q7) (fun v8 s8 q8 => ⟨v8, rfl, b81_130 h1 (z7 y3 y4 w0 s hI q4 q7 v8 s8 q8) (z8 y3 y4 w0 s hI q4 q7 v8 s8 q8)⟩)))) (fun q9 => b81_108 h1 (z9 y3 y4 w0 s hI q9))⟩
  exact e81 (b81_0 h1 (c92 z10 (fun q10 => ⟨1, rfl, b81_9 h1 (fun q11 => b81_26 h1 (b81_27 h1 (fun _ => b81_38 h1 (fun q12 => b81_53 h1 (fun q => absurd q (by decide)) (fun _ => b81_57 h1 (c90 (z11 q10 q11 q12) (fun s13 q13 => ⟨rfl, b81_64 h1 (Sp.imp (z12 q10 q11 q12 s13 q13) (fun r t14 ⟨v14, e, zI⟩ => ⟨v14, e, (L (m72 1 0 v14 t14 + 1)).1 1 0 none v14 t14 zI (Nat.lt_succ_self _)⟩))⟩)))) (fun q15 => b81_44 h1 (c94 (z13 q10 q11 q15) (fun v16 s16 q16 => ⟨v16, rfl, b81_52 h1 (z14 q10 q11 q15 v16 s16 q16) (z15 q10 q11 q15 v16 s16 q16)⟩)))) (fun q => absurd q (by decide)))) (fun q17 => b81_22 h1 (b81_27 h1 (fun _ => b81_38 h1 (fun q18 => b81_53 h1 (fun q => absurd q (by decide)) (fun _ => b81_57 h1 (c90 (z16 q10 q17 q18) (fun s19 q19 => ⟨rfl, b81_64 h1 (Sp.imp (z17 q10 q17 q18 s19 q19) (fun r t20 ⟨v20, e, zI⟩ => ⟨v20, e, (L (m72 1 1 v20 t20 + 1)).1 1 1 none v20 t20 zI (Nat.lt_succ_self _)⟩))⟩)))) (fun q21 => b81_44 h1 (c94 (z18 q10 q17 q21) (fun v22 s22 q22 => ⟨v22, rfl, b81_52 h1 (z19 q10 q17 q21 v22 s22 q22) (z20 q10 q17 q21 v22 s22 q22)⟩)))) (fun q => absurd q (by decide))))⟩) (fun q23 => ⟨0, rfl, b81_9 h1 (fun q24 => b81_26 h1 (b81_27 h1 (fun q => absurd q (by decide)) (fun _ => b81_33 h1 (fun _ => b81_53 h1 (fun _ => b81_85 h1 (fun _ => b81_140 h1 (c82 h1 (z21 q23 q24) (fun s25 q25 => ⟨1, rfl, b81_145 h1 (fun _ => b81_150 h1 (c68  ⟨_, rfl, b81_160 h1 (fun q26 => b81_177 h1 (fun q27 => b81_195 h1 (Sp_gen (fun t28 e28 => (c90 (z22 q23 q24 s25 q25 q26 q27 t28 e28) (fun s29 q29 => ⟨rfl, b81_212 h1 (c82 h1 (z23 q23 q24 s25 q25 q26 q27 t28 e28 s29 q29) (fun s30 q30 => ⟨1, rfl, b81_217 h1 (fun _ => b81_222 h1 (c72 h1 (z24 q23 q24 s25 q25 q26 q27 t28 e28 s29 q29 s30 q30) (fun s31 q31 => ⟨rfl, b81_228 h1 (z25 q23 q24 s25 q25 q26 q27 t28 e28 s29 q29 s30 q30 s31 q31)⟩))) (fun q => absurd q (by decide))⟩) (fun s32 q32 => ⟨0, rfl, b81_217 h1 (fun q => absurd q (by decide)) (fun _ => b81_220 h1 (z26 q23 q24 s25 q25 q26 q27 t28 e28 s29 q29 s32 q32))⟩))⟩))))) (fun q33 => b81_186 h1 (c94 (z27 q23 q24 s25 q25 q26 q33) (fun v34 s34 q34 => ⟨v34, rfl, b81_194 h1 (z28 q23 q24 s25 q25 q26 q33 v34 s34 q34) (z29 q23 q24 s25 q25 q26 q33 v34 s34 q34)⟩)))) (fun q35 => b81_168 h1 (c94 (z30 q23 q24 s25 q25 q35) (fun v36 s36 q36 => ⟨v36, rfl, b81_176 h1 (z31 q23 q24 s25 q25 q35 v36 s36 q36) (z32 q23 q24 s25 q25 q35 v36 s36 q36)⟩)))⟩)) (fun q => absurd q (by decide))⟩) (fun s37 q37 => ⟨0, rfl, b81_145 h1 (fun q => absurd q (by decide)) (fun _ => b81_148 h1 (z33 q23 q24 s37 q37))⟩))) (fun q => absurd q (by decide))) (fun q => absurd q (by decide))) (fun q => absurd q (by decide))))) (fun q38 => b81_22 h1 (b81_27 h1 (fun q => absurd q (by decide)) (fun _ => b81_33 h1 (fun q => absurd q (by decide)) (fun _ => b81_38 h1 (fun q39 => b81_53 h1 (fun _ => b81_85 h1 (fun q => absurd q (by decide)) (fun _ => b81_90 h1 (c90 (z34 q23 q38 q39) (fun s40 q40 => ⟨rfl, b81_97 h1 (Sp.imp (z35 q23 q38 q39 s40 q40) (fun r t41 ⟨v41, e, zI⟩ => ⟨v41, e, (L (m105 0 1 v41 t41 + 1)).2 0 1 none v41 t41 zI (Nat.lt_succ_self _)⟩))⟩)))) (fun q => absurd q (by decide))) (fun q42 => b81_44 h1 (c94 (z36 q23 q38 q42) (fun v43 s43 q43 => ⟨v43, rfl, b81_52 h1 (z37 q23 q38 q42 v43 s43 q43) (z38 q23 q38 q42 v43 s43 q43)⟩)))))))⟩)))

theorem RB_t {s t u : mSt} {k : Nat} (h1 : RBq s t k) (h2 : RBq t u k) : RBq s u k := ⟨TSa_t h1.1 h2.1, h2.2.1, h2.2.2.1, h2.2.2.2.1, fRl_t h1.2.2.2.2 h2.2.2.2.2⟩
theorem RB_0 {s : mSt} {k : Nat} (h : RIq s k) : RBq s s k := ⟨⟨h.1, rfl, rfl, rfl⟩, h.2.1, h.2.2.1, h.2.2.2, ⟨fun _ _ _ _ _ => rfl, fun _ _ => rfl, fun _ _ => rfl⟩⟩
def ctS (s t : mSt) (k : Nat) (K : List Int) : Int × Nat × Int × List Int × List Int := (-1, aO t, t 5 1, cdL t k, K)
def ctA (s t : mSt) (k : Nat) (K : List Int) : Int × Nat × Int × List Int × List Int := mtA (s 2) (nO s) (aO t) (t 5 1) (cdL t k) K
def FZ1 (s t : mSt) (k : Nat) (x : Int) : Prop := RBq s t k ∧ (t k 1 + aO s ≤ s k 1 + aO t ∧ aO s < aO t) ∧ ∀ K, dpK K = x → rch (s 2) (nO s) (ctS s s k K) (ctA s t k K)
def FZ0 (s t : mSt) (k : Nat) (x : Int) : Prop := RQ0 s t k (t 1 6) ∧ ∀ K, dpK K = x → rch (s 2) (nO s) (ctS s s k K) (bad (t 1 6))
def TQ1 (s t : mSt) (k : Nat) (x : Int) : Prop := RBq s t k ∧ (t k 1 + aO s ≤ s k 1 + aO t ∧ aO s < aO t) ∧ (¬ wnA (s 2) (nO s) (aO t) = 17 ∧ ¬ wnA (s 2) (nO s) (aO t) = 16) ∧ ∀ K, dpK K = x → okK K → rch (s 2) (nO s) (ctS s s k K) (ctA s t k K)
def TQ0 (s t : mSt) (k : Nat) (x : Int) : Prop := RQ0 s t k (t 1 6) ∧ ∀ K, dpK K = x → okK K → rch (s 2) (nO s) (ctS s s k K) (bad (t 1 6))
theorem S_37 {T : Nat → Int} {n a : Nat} {k : Int} {L K : List Int} (h : okK K) (y3 y4 : Int) : mtA T n a k L (pnd y3 y4 ++ K) = mtA T n a k (L ++ (if y3 = 0 then [] else [200010])) (pnd 0 y4 ++ K) := by
  have e : L ++ (if y3 = 0 then [] else [200010]) ++ pnd 0 y4 = L ++ pnd y3 y4 := by
    unfold pnd
    rw [if_pos (rfl : (0 : Int) = 0), List.append_assoc, List.nil_append]
  by_cases w : wnA T n a = 17
  · rw [S_and h _ _ w, S_and h _ _ w, if_pos (rfl : (0 : Int) = 0), List.append_nil]
  · by_cases w2 : wnA T n a = 16
    · rw [S_or h _ _ w2, S_or h _ _ w2, e]
    · rw [S_end h _ _ w w2, S_end h _ _ w w2, e]
theorem S_62 {T : Nat → Int} {n a : Nat} {k : Int} {L K : List Int} (h : okK K) (y4 : Int) (w : ¬ wnA T n a = 17) : mtA T n a k L (pnd 0 y4 ++ K) = mtA T n a k (L ++ (if y4 = 0 then [] else [200011])) K := by
  have e : ∀ y, pnd 0 y = (if y = 0 then [] else [200011]) := fun y => by
    unfold pnd; rw [if_pos (rfl : (0 : Int) = 0), List.nil_append]
  by_cases w2 : wnA T n a = 16
  · have q := S_or (T := T) (n := n) (a := a) (k := k) (L := L ++ (if y4 = 0 then [] else [200011])) (K := K) h 0 0 w2
    have e0 : pnd 0 0 = [] := rfl
    rw [e0, List.nil_append, List.append_nil] at q
    rw [S_or h _ _ w2, q, e]
  · rw [S_end h _ _ w w2, e]
def pc1 (y : Int) : Int := if y = 0 then 0 else 1
theorem pc1_b (y : Int) : 0 ≤ pc1 y ∧ pc1 y ≤ 1 := by unfold pc1; split <;> omega
theorem wnC_R {s t : mSt} {k : Nat} (h : RBq s t k) : wnC t = wnA (s 2) (nO s) (aO t) := by
  have kb := RB_k h
  rw [wnC_A h.1.1, kb.2.2.2.1, kb.2.2.2.2]
theorem tst_of {X : (Nat → Int) × Nat} {r k : Nat} {x : Int} (hk : isRl k)
    (F : ∀ {d : Nat} {s : mSt} {Q : mQ}, RIq s k → s k 1 ≤ (aO s : Int) → (∀ t, FZ1 s t k x → Q (some (mI 1)) t) → (∀ t, FZ0 s t k x → Q (some (mI 0)) t) → Sp X (d + (8 + 2 * r)) 81 [mR 5, mR k, mI x] s Q) :
    ∀ {d : Nat} {s : mSt} {Q : mQ}, RIq s k → s k 1 ≤ (aO s : Int) → (∀ t, TQ1 s t k x → Q (some (mI 1)) t) → (∀ t, TQ0 s t k x → Q (some (mI 0)) t) → Sp X (d + (9 + 2 * r)) 80 [mR 5, mR k, mI x] s Q := by
  intro d s Q h hs k1 k0
  have l := rl_8 hk
  have h0 := h.2.2.2
  let I8 : Int → Int → Int → mSt → Prop := fun y3 y4 y5 t => RBq s t k ∧ (∀ K, dpK K = x → okK K → rch (s 2) (nO s) (ctS s s k K) (ctS s t k (pnd y3 y4 ++ K))) ∧ t k 1 + pc1 y3 + pc1 y4 + aO s ≤ s k 1 + aO t ∧ 0 ≤ y5 ∧ 2 * y5 + aO s ≤ aO t
  let J : Int → Int → Int → mSt → Prop := fun y3 y4 y5 t => RBq s t k ∧ (∀ K, dpK K = x → okK K → rch (s 2) (nO s) (ctS s s k K) (ctA s t k (pnd y3 y4 ++ K))) ∧ t k 1 + pc1 y3 + pc1 y4 + aO s ≤ s k 1 + aO t ∧ 0 ≤ y5 ∧ 2 * y5 + 1 + aO s ≤ aO t
  let I22 : Int → Int → Int → Int → mSt → Prop := fun y3 y4 y5 w t => (w = 0 ∧ TQ0 s t k x) ∨ (w = 1 ∧ J y3 y4 y5 t)
  let I37 : Int → Int → Int → mSt → Prop := fun _ y4 y5 t => J 0 y4 y5 t
  let I62 : Int → Int → Int → mSt → Prop := fun y3 _ y5 t => y3 = 0 ∧ J 0 0 y5 t ∧ ¬ wnA (s 2) (nO s) (aO t) = 17
  let I80 : Int → Int → Int → mSt → Prop := fun y3 y4 y5 t => RBq s t k ∧ aO t < nO s ∧ (∀ K, dpK K = x → okK K → rch (s 2) (nO s) (ctS s s k K) (-1, nxA (s 2) (nO s) (aO t), t 5 1, cdL t k, pnd y3 y4 ++ K)) ∧ t k 1 + pc1 y3 + pc1 y4 + aO s ≤ s k 1 + aO t + 1 ∧ 0 ≤ y5 ∧ 2 * y5 + 1 + aO s ≤ aO t
  have p0 : pc1 0 = 0 := rfl
  have p1 : pc1 1 = 1 := rfl
  have py : ∀ {y : Int}, ¬ y = 0 → pc1 y = 1 := fun z => if_neg z
  rw [show d + (9 + 2 * r) = (d + (2 + 2 * r)) + 7 by omega]
  refine v80 hk I8 (fun _ _ _ t => 8 * (1000 - aO t)) I22 (fun _ _ _ w t => if w = 0 then 0 else 8 * (1000 - aO t) + 5) I37 (fun _ _ _ t => 8 * (1000 - aO t) + 4) I62 (fun _ _ _ t => 8 * (1000 - aO t) + 3) I80 (fun _ _ _ t => 8 * (1000 - aO t) + 2) ?_ ?_ ?_ ?_ ?_ ?_ ?_ ?_ ?_ ?_ ?_ ?_ ?_ ?_ ?_ ?_ ?_ ?_ ?_
  · rintro y3 y4 y5 t ⟨hB, hR, hz, g5, g6⟩ hy
    have kb := RB_k hB
    omega
  · rintro y3 y4 y5 t ⟨hB, hR, hz, g5, g6⟩ hy
    have kb := RB_k hB
    omega
  · rintro y3 y4 y5 t ⟨hB, hR, hz, g5, g6⟩ hy
    have kb := RB_k hB
    omega
  · rintro y3 y4 y5 t ⟨hB, hR, hz, g5, g6⟩ hy
    have kb := RB_k hB
    have b3 := pc1_b y3
    have b4 := pc1_b y4
    rw [show d + (2 + 2 * r) + 6 = d + (8 + 2 * r) by omega]
    refine F (RB_I hB) (by omega) ?_ ?_
    · rintro u ⟨hB2, ⟨hz2, ha2⟩, hR2⟩
      have kb2 := RB_k (RB_t hB hB2)
      rw [kb.2.2.2.1, kb.2.2.2.2] at hR2
      refine ⟨1, rfl, Or.inr ⟨rfl, RB_t hB hB2, fun K e1 e2 => ?_, by omega, g5, by omega⟩, ?_⟩
      · refine rch_t (hR K e1 e2) ?_
        have q := hR2 (pnd y3 y4 ++ K) (by rw [dp_p]; exact e1)
        unfold ctA at q
        rw [kb.2.2.2.1, kb.2.2.2.2] at q
        exact q
      · rw [if_neg (by decide)]
        omega
    · rintro u ⟨q0, hR2⟩
      rw [kb.2.2.2.1, kb.2.2.2.2] at hR2
      refine ⟨0, rfl, Or.inl ⟨rfl, RQ0_t hB q0, fun K e1 e2 => rch_t (hR K e1 e2) (hR2 (pnd y3 y4 ++ K) (by rw [dp_p]; exact e1))⟩, ?_⟩
      rw [if_pos rfl]; omega
  · rintro y3 y4 y5 w t (⟨e, _⟩ | ⟨e, hJ⟩) hw z
    · exact absurd e hw
    · subst z
      exact ⟨hJ, by rw [if_neg hw]; omega⟩
  · rintro y3 y4 y5 w t (⟨e, _⟩ | ⟨e, hB, hR, hz, g5, g6⟩) hw z
    · exact absurd e hw
    · have kb := RB_k hB
      have b4 := pc1_b y4
      rw [py z] at hz
      have := hB.2.2.2.1
      omega
  · rintro y3 y4 y5 w t (⟨e, _⟩ | ⟨e, hB, hR, hz, g5, g6⟩) hw z u eu
    · exact absurd e hw
    · have q := RB_e hk hB eu
      have ea := q.2.1
      have ez := q.2.2.2.2
      rw [py z] at hz
      refine ⟨⟨q.1, fun K e1 e2 => ?_, by rw [p0]; omega, g5, by omega⟩, by rw [if_neg hw]; omega⟩
      have y := hR K e1 e2
      unfold ctA at y ⊢
      rw [S_37 e2, if_neg z] at y
      rw [q.2.1, q.2.2.1, q.2.2.2.1]
      exact y
  · rintro y3 y4 y5 w t (⟨e, hT⟩ | ⟨e, _⟩) hw
    · exact k0 t hT
    · omega
  · rintro y3 y4 y5 t ⟨hB, _⟩
    exact hB.1.1
  · rintro y3 y4 y5 t ⟨hB, hR, hz, g5, g6⟩ hw
    rw [wnC_R hB] at hw
    rw [p0] at hz
    refine ⟨⟨hB, k_lt (by rw [w_257 (by decide) hw]; decide), fun K e1 e2 => ?_, by rw [p1]; omega, g5, g6⟩, by omega⟩
    have y := hR K e1 e2
    unfold ctA at y
    rw [S_and e2 _ _ hw, if_pos rfl, List.append_nil] at y
    exact y
  · rintro y3 y4 y5 t ⟨hB, hR, hz, g5, g6⟩ hw z
    rw [wnC_R hB] at hw
    subst z
    exact ⟨⟨rfl, ⟨hB, hR, hz, g5, g6⟩, hw⟩, by omega⟩
  · rintro y3 y4 y5 t ⟨hB, hR, hz, g5, g6⟩ hw z
    have kb := RB_k hB
    rw [py z, p0] at hz
    have := hB.2.2.2.1
    omega
  · rintro y3 y4 y5 t ⟨hB, hR, hz, g5, g6⟩ hw z u eu
    rw [wnC_R hB] at hw
    have q := RB_e hk hB eu
    have ea := q.2.1
    have ez := q.2.2.2.2
    rw [py z, p0] at hz
    refine ⟨⟨rfl, ⟨q.1, fun K e1 e2 => ?_, by rw [p0]; omega, g5, by omega⟩, by rw [ea]; exact hw⟩, by omega⟩
    have y := hR K e1 e2
    unfold ctA at y ⊢
    rw [S_62 e2 _ hw, if_neg z] at y
    rw [q.2.1, q.2.2.1, q.2.2.2.1]
    exact y
  · rintro y3 y4 y5 t ⟨_, ⟨hB, _⟩, _⟩
    exact hB.1.1
  · rintro y3 y4 y5 t ⟨rfl, ⟨hB, hR, hz, g5, g6⟩, w17⟩ hw
    rw [wnC_R hB] at hw
    rw [p0] at hz
    refine ⟨⟨hB, k_lt (by rw [w_257 (by decide) hw]; decide), fun K e1 e2 => ?_, by rw [p1, p0]; omega, g5, g6⟩, by omega⟩
    have y := hR K e1 e2
    unfold ctA at y
    rw [S_or e2 _ _ hw, show pnd 0 0 = [] from rfl, List.append_nil] at y
    exact y
  · rintro y3 y4 y5 t ⟨e3, ⟨hB, hR, hz, g5, g6⟩, w17⟩ hw
    rw [wnC_R hB] at hw
    rw [p0] at hz
    exact k1 t ⟨hB, ⟨by omega, by omega⟩, ⟨w17, hw⟩, hR⟩
  · rintro y3 y4 y5 t ⟨hB, _⟩
    exact ⟨(ts_400 hB.1.1).2.1, hB.1.1.1⟩
  · rintro y3 y4 y5 t ⟨hB, hn, hR, hz, g5, g6⟩ u q
    have kb := RB_k hB
    have e := RB_s hk hB q
    have nb := nxA_b (s 2) kb.2.1
    have lt := nb.2.2 hn
    have ea := e.2.1
    have ez := e.2.2.2.2
    rw [w32_of (by omega)]
    refine ⟨⟨e.1, fun K e1 e2 => ?_, by omega, by omega, by omega⟩, by omega⟩
    unfold ctS
    rw [e.2.1, e.2.2.1, e.2.2.2.1]
    exact hR K e1 e2
  · exact ⟨RB_0 h, fun K _ _ => rch_0 _, by rw [p0]; omega, Int.le_refl 0, by omega⟩
theorem cpF_e {T : Nat → Int} {n a : Nat} {k : Int} {L : List Int} {q r : Int × Nat × Int × List Int} (hq : sumF T n a k L (-1) (-1) = q) (hr : sumF T n (nxA T n q.2.1) (q.2.2.1 + 1) q.2.2.2 (-1) (-1) = r) : cpF T n a k L = if q.1 = 0 then (if cmC (tkK T n q.2.1) = -1 then (fuA q.2.1 0, a, k, L) else if 60 ≤ q.2.2.1 then (fuA q.2.1 3, a, k, L) else if r.1 = 0 then (0, r.2.1, r.2.2.1, r.2.2.2 ++ [cmC (tkK T n q.2.1)]) else (r.1, a, k, L)) else (q.1, a, k, L) := by
  subst hq; subst hr; rfl
theorem st_F (T : Nat → Int) (n a : Nat) (k : Int) (L K : List Int) : mtP T n (-1, a, k, L, K) = mtF T n a k L K := if_pos rfl
theorem st_A (T : Nat → Int) (n a : Nat) (k : Int) (L K : List Int) : mtP T n (-2, a, k, L, K) = mtA T n a k L K := by
  unfold mtP; rw [if_neg (show ¬ (-2 : Int) = -1 by decide), if_pos rfl]
theorem B_93 {T : Nat → Int} {n a : Nat} {k : Int} {L K : List Int} (h : tkK T n a = 93) : mtA T n a k L (91 :: K) = (-2, nxA T n a, k, L, K) := by
  have o : okK (91 :: K) := Or.inr ⟨K, rfl⟩
  unfold mtA
  rw [lyD_ok o (by decide)]
  unfold mtB
  rw [if_pos ⟨h, List.mem_cons_self⟩, lyD_ok o (by decide)]
  rfl
theorem B_no {T : Nat → Int} {n a : Nat} {k : Int} {L K : List Int} (h : ¬ tkK T n a = 93) (w : ¬ wnA T n a = 17) (w2 : ¬ wnA T n a = 16) : mtA T n a k L (91 :: K) = bad (fuA a 0) := by
  have o : okK (91 :: K) := Or.inr ⟨K, rfl⟩
  unfold mtA
  rw [lyD_ok o (by decide)]
  unfold mtB
  rw [if_neg (fun z => h z.1), if_neg w, if_neg w2, if_pos List.mem_cons_self]
theorem dp_n (K : List Int) : dpK (200012 :: K) = 1 + dpK K := rfl
theorem dp_b (K : List Int) : dpK (91 :: K) = 1 + dpK K := rfl
theorem smC_B {s u : mSt} {k : Nat} (h : RIq s k) (q : (smC s k).1 = 0 ∧ RQ1 s u k (smC s k).2.1 (smC s k).2.2.1 (smC s k).2.2.2 ∧ (u k 1 + aO s ≤ s k 1 + aO u ∧ aO s < aO u) ∧ (0 ≤ u 5 1 ∧ u 5 1 ≤ 60)) : RBq s u k ∧ smC s k = (0, aO u, u 5 1, cdL u k) := by
  obtain ⟨q0, q1, _, q3⟩ := q
  have e := q1.2.2.1
  have w := RB_1 (RB_0 h) q1 (by rw [← e]; exact q3)
  refine ⟨w.1, ?_⟩
  rw [w.2.1, w.2.2.1, w.2.2.2.1, ← q0]
theorem u51 {s t : mSt} {k : Nat} (hk : isRl k) (h : RIq s k) (h5 : s 5 1 < 60) (e : t = uS s 5 1 (w32 (s 5 1 + 1))) : RBq s t k ∧ aO t = aO s ∧ t 5 1 = s 5 1 + 1 ∧ cdL t k = cdL s k ∧ t k 1 = s k 1 := by
  have l := rl_8 hk
  have g := h.2.2.1
  rw [w32_of (by omega)] at e
  have t1 : t 1 = s 1 := by rw [e, uS_cell (by decide)]
  have t2 : t 2 = s 2 := by rw [e, uS_cell (by decide)]
  have tk : t k = s k := by rw [e, uS_cell (by omega)]
  have tk1 : t (k + 1) = s (k + 1) := by rw [e, uS_cell (by omega)]
  have t5 : t 5 1 = s 5 1 + 1 := by rw [e, uS_at, if_pos rfl]
  have ea : aO t = aO s := by unfold aO; rw [t1]
  refine ⟨⟨by rw [ea]; exact TSa_c (s := s) (t := s) (a := aO s) ⟨h.1, rfl, rfl, rfl⟩ t1 t2, by rw [t1]; exact h.2.1, by omega, by rw [tk]; exact h.2.2.2, ⟨fun b _ a2 _ _ => by rw [e, uS_cell a2], fun j _ => by rw [tk], fun j hj => by rw [e, uS_at, if_neg hj]⟩⟩, ea, t5, cdL_c (by rw [tk]) tk1, by rw [tk]⟩
theorem fac_st {X : (Nat → Int) × Nat} {d k : Nat} {s : mSt} {Q : mQ} {x : Int} (hk : isRl k) (hx : 0 ≤ x ∧ x ≤ 10) (h : RIq s k) (hs : s k 1 ≤ (aO s : Int))
    (F : x < 10 → ∀ {s : mSt} {Q : mQ}, RIq s k → s k 1 ≤ (aO s : Int) → (∀ t, FZ1 s t k (x + 1) → Q (some (mI 1)) t) → (∀ t, FZ0 s t k (x + 1) → Q (some (mI 0)) t) → Sp X (d + 7) 81 [mR 5, mR k, mI (x + 1)] s Q)
    (G : x < 10 → ∀ {s : mSt} {Q : mQ}, RIq s k → s k 1 ≤ (aO s : Int) → (∀ t, TQ1 s t k (x + 1) → Q (some (mI 1)) t) → (∀ t, TQ0 s t k (x + 1) → Q (some (mI 0)) t) → Sp X (d + 7) 80 [mR 5, mR k, mI (x + 1)] s Q)
    (k1 : ∀ t, FZ1 s t k x → Q (some (mI 1)) t) (k0 : ∀ t, FZ0 s t k x → Q (some (mI 0)) t) : Sp X (d + 8) 81 [mR 5, mR k, mI x] s Q := by
  have l := rl_8 hk
  have h0 := h.2.2.2
  have hB0 := RB_0 h
  have kb := RB_k hB0
  have ew := wnC_R hB0
  have ts := ts_400 h.1
  let I72 : Int → Int → Int → mSt → Prop := fun _ _ v t => (v = 0 ∧ FZ0 s t k x) ∨ (v = 1 ∧ RBq s t k ∧ (t k 1 + 1 + aO s ≤ s k 1 + aO t ∧ aO s < aO t) ∧ ∀ K, dpK K = x → rch (s 2) (nO s) (ctS s s k K) (ctA s t k (200012 :: K)))
  let I105 : Int → Int → Int → mSt → Prop := fun _ _ v t => (v = 0 ∧ FZ0 s t k x) ∨ (v = 1 ∧ RBq s t k ∧ (t k 1 + 1 + aO s ≤ s k 1 + aO t ∧ aO s < aO t) ∧ (¬ wnA (s 2) (nO s) (aO t) = 17 ∧ ¬ wnA (s 2) (nO s) (aO t) = 16) ∧ ∀ K, dpK K = x → rch (s 2) (nO s) (ctS s s k K) (ctA s t k (91 :: K)))
  have wx : x < 10 → w32 (x + 1) = x + 1 := fun _ => w32_of (by omega)
  have no : wnC s = 18 → s 1 2 = 91 → False := fun a b => by
    rw [ew] at a; rw [kb.1, w_257 (by decide) a] at b; exact absurd b (by decide)
  have f2 : (wnC s = 18 ∨ s 1 2 = 91) → ¬ x < 10 → ∀ (v : Int) (u : mSt), (v = 0 ∧ u = flC s 2) → Q (some (mI v)) u := by
    rintro a b v u ⟨rfl, e⟩
    have q := fl_0 hk h.1 h.2.1 (by decide) e
    have e6 : u 1 6 = fuA (aO s) 2 := q.1
    refine k0 u ⟨by rw [e6]; exact q, fun K hK => ?_⟩
    have y := rch_s (T := s 2) (n := nO s) (ctS s s k K)
    rw [show mtP (s 2) (nO s) (ctS s s k K) = mtF (s 2) (nO s) (aO s) (s 5 1) (cdL s k) K from st_F _ _ _ _ _ _] at y
    unfold mtF at y
    rw [e6]
    by_cases w : wnA (s 2) (nO s) (aO s) = 18
    · rw [if_pos w, if_pos (by omega)] at y; exact y
    · rw [if_neg w] at y
      have z : s 1 2 = 91 := by
        rcases a with a | a
        · rw [ew] at a; exact absurd a w
        · exact a
      rw [kb.1] at z
      rw [if_pos z, if_pos (by omega)] at y; exact y
  -- the first step, for a comparison
  have cst : ¬ wnC s = 18 → ¬ s 1 2 = 91 → ∀ K, rch (s 2) (nO s) (ctS s s k K) (if (cpF (s 2) (nO s) (aO s) (s 5 1) (cdL s k)).1 = 0 then (-2, (cpF (s 2) (nO s) (aO s) (s 5 1) (cdL s k)).2.1, (cpF (s 2) (nO s) (aO s) (s 5 1) (cdL s k)).2.2.1, (cpF (s 2) (nO s) (aO s) (s 5 1) (cdL s k)).2.2.2, K) else bad (cpF (s 2) (nO s) (aO s) (s 5 1) (cdL s k)).1) := fun a b K => by
    have y := rch_s (T := s 2) (n := nO s) (ctS s s k K)
    rw [show mtP (s 2) (nO s) (ctS s s k K) = mtF (s 2) (nO s) (aO s) (s 5 1) (cdL s k) K from st_F _ _ _ _ _ _] at y
    rw [ew] at a
    rw [kb.1] at b
    unfold mtF at y
    rw [if_neg a, if_neg b] at y
    exact y
  have cbad : ¬ wnC s = 18 → ¬ s 1 2 = 91 → ∀ u : mSt, RQ0 s u k (u 1 6) → (cpF (s 2) (nO s) (aO s) (s 5 1) (cdL s k)).1 = u 1 6 → Q (some (mI 0)) u := fun a b u q e => by
    refine k0 u ⟨q, fun K hK => ?_⟩
    have y := cst a b K
    rw [e, if_neg (by have := q.2.1; omega)] at y
    exact y
  have sc2 : ∀ {u v w : mSt}, RBq s u k → u 5 1 < 60 → v = uS u 5 1 (w32 (u 5 1 + 1)) → (TKq (v 2) (v 1 1).toNat (sk (v 2) (v 1 1).toNat (v 1 4).toNat) w ∧ f1 v w) → RBq s w k ∧ aO w = nxA (s 2) (nO s) (aO u) ∧ w 5 1 = u 5 1 + 1 ∧ cdL w k = cdL u k ∧ w k 1 = u k 1 := by
    intro u v w hu h5 e q
    have a := u51 hk (RB_I hu) h5 e
    have hv := RB_t hu a.1
    have b := RB_s hk hv q
    exact ⟨b.1, by rw [b.2.1, a.2.1], by rw [b.2.2.1, a.2.2.1], by rw [b.2.2.2.1, a.2.2.2.1], by rw [b.2.2.2.2, a.2.2.2.2]⟩
  refine v81 hk I72 (fun _ _ _ _ => 0) I105 (fun _ _ _ _ => 0) ?_ ?_ ?_ ?_ ?_ ?_ ?_ ?_ ?_ h.1 ?_ ?_ ?_ ?_ ?_ ?_ ?_ ?_ ?_ ?_ ?_ ?_ ?_ ?_ ?_ ?_ ?_ ?_ ?_ ?_ ?_ ?_ ?_ ?_ ?_ ?_ ?_ ?_
  · rintro y3 y4 w t (⟨e, _⟩ | ⟨e, hB, hz, _⟩) hw
    · exact absurd e hw
    · have kt := RB_k hB
      have := hB.2.2.2.1
      omega
  · rintro y3 y4 w t (⟨e, _⟩ | ⟨e, hB, hz, hR⟩) hw u eu
    · exact absurd e hw
    · have q := RB_e hk hB eu
      have ea := q.2.1
      have ez := q.2.2.2.2
      refine k1 u ⟨q.1, ⟨by omega, by omega⟩, fun K hK => ?_⟩
      have y := hR K hK
      unfold ctA at y ⊢
      rw [S_not] at y
      rw [q.2.1, q.2.2.1, q.2.2.2.1]
      exact y
  · rintro y3 y4 w t (⟨e, hZ⟩ | ⟨e, _⟩) hw
    · exact k0 t hZ
    · omega
  · rintro y3 y4 w t (⟨e, _⟩ | ⟨e, hB, _⟩) hw z
    · exact absurd e hw
    · exact ⟨(ts_400 hB.1.1).2.1, hB.1.1.1⟩
  · rintro y3 y4 w t (⟨e, _⟩ | ⟨e, hB, hz, hw2, hR⟩) hw z u q
    · exact absurd e hw
    · have kt := RB_k hB
      have b := RB_s hk hB q
      have nb := nxA_b (s 2) kt.2.1
      have ea := b.2.1
      have ez := b.2.2.2.2
      rw [kt.1] at z
      refine k1 u ⟨b.1, ⟨by omega, by omega⟩, fun K hK => ?_⟩
      have y := hR K hK
      unfold ctA at y ⊢
      rw [B_93 z] at y
      refine rch_t y ?_
      have y2 := rch_s (T := s 2) (n := nO s) (-2, nxA (s 2) (nO s) (aO t), t 5 1, cdL t k, K)
      rw [st_A] at y2
      rw [b.2.1, b.2.2.1, b.2.2.2.1]
      exact y2
  · rintro y3 y4 w t (⟨e, _⟩ | ⟨e, hB, _⟩) hw z
    · exact absurd e hw
    · exact ⟨(ts_400 hB.1.1).2.2, by decide⟩
  · rintro y3 y4 w t (⟨e, _⟩ | ⟨e, hB, hz, hw2, hR⟩) hw z v u ⟨ev, eu⟩
    · exact absurd e hw
    · have kt := RB_k hB
      rw [kt.1] at z
      have q := fl_0 hk hB.1.1 hB.2.1 (by decide) eu
      have e6 : u 1 6 = fuA (aO t) 0 := q.1
      rw [ev]
      refine k0 u ⟨RQ0_t hB (by rw [e6]; exact q), fun K hK => ?_⟩
      have y := hR K hK
      unfold ctA at y
      rw [B_no z hw2.1 hw2.2] at y
      rw [e6]; exact y
  · rintro y3 y4 w t _ hw z v u ⟨ev, eu⟩
    exact Or.inl ev
  · rintro y3 y4 w t (⟨e, hZ⟩ | ⟨e, _⟩) hw
    · exact k0 t hZ
    · omega
  · intro a b c; exact ⟨ts.2.1, h.1.1⟩
  · intro a b c u q
    have e := RB_s hk hB0 q
    have ke := RB_k e.1
    have nb := nxA_b (s 2) kb.2.1
    have w18 : wnA (s 2) (nO s) (aO s) = 18 := by rw [← ew]; exact a
    have lt := nb.2.2 (k_lt (by rw [w_257 (by decide) w18]; decide))
    have ea := e.2.1
    have ez := e.2.2.2.2
    have st : ∀ K, dpK K = x → rch (s 2) (nO s) (ctS s s k K) (ctS s u k (200012 :: K)) := fun K hK => by
      have y := rch_s (T := s 2) (n := nO s) (ctS s s k K)
      rw [show mtP (s 2) (nO s) (ctS s s k K) = mtF (s 2) (nO s) (aO s) (s 5 1) (cdL s k) K from st_F _ _ _ _ _ _] at y
      unfold mtF at y
      rw [if_pos w18, if_neg (by omega)] at y
      unfold ctS at y ⊢
      rw [e.2.1, e.2.2.1, e.2.2.2.1]
      exact y
    rw [wx c]
    refine F c (RB_I e.1) (by omega) ?_ ?_
    · rintro t ⟨hB, ⟨hz, ha⟩, hR⟩
      rw [ke.2.2.2.1, ke.2.2.2.2] at hR
      refine ⟨1, rfl, Or.inr ⟨rfl, RB_t e.1 hB, ⟨by omega, by omega⟩, fun K hK => rch_t (st K hK) ?_⟩⟩
      have y := hR (200012 :: K) (by rw [dp_n]; omega)
      unfold ctA at y ⊢
      rw [ke.2.2.2.1, ke.2.2.2.2] at y
      exact y
    · rintro t ⟨q0, hR⟩
      rw [ke.2.2.2.1, ke.2.2.2.2] at hR
      exact ⟨0, rfl, Or.inl ⟨rfl, RQ0_t e.1 q0, fun K hK => rch_t (st K hK) (hR (200012 :: K) (by rw [dp_n]; omega))⟩⟩
  · intro a b c; exact ⟨ts.2.2, by decide⟩
  · intro a b c v u e; exact f2 (Or.inl a) c v u e
  · intro a b c v u e; exact Or.inl e.1
  · intro a b c; exact (no a b).elim
  · intro a b c u q; exact (no a b).elim
  · intro a b c; exact (no a b).elim
  · intro a b c v u e; exact (no a b).elim
  · intro a b c v u e; exact Or.inl e.1
  · intro a b; exact ⟨h, hs⟩
  · intro a b u q hc h5 v ev
    have w := smC_B h q
    have r := u51 hk (RB_I w.1) h5 ev
    exact ⟨(ts_400 r.1.1.1).2.1, r.1.1.1.1⟩
  · intro a b u q hc h5 v ev t et
    have w := smC_B h q
    have r := sc2 w.1 h5 ev et
    have ku := RB_k w.1
    have nb := nxA_b (s 2) ku.2.1
    have ea := r.2.1
    have ez := r.2.2.2.2
    have hz := q.2.2.1
    exact ⟨RB_I r.1, by omega⟩
  · intro a b u q hc h5 v ev t et t2 q2
    have w := smC_B h q
    have r := sc2 w.1 h5 ev et
    have ku := RB_k w.1
    have nb := nxA_b (s 2) ku.2.1
    have lt := nb.2.2 (by
      rw [ku.1] at hc
      exact k_lt (fun z => hc (by rw [z]; rfl)))
    have w2 := smC_B (RB_I r.1) q2
    have k2 := RB_k (RB_t r.1 w2.1)
    have := w2.1.2.2.2.1
    have ea := r.2.1
    have ez := r.2.2.2.2
    have hz := q.2.2.1
    have hz2 := q2.2.2.1
    omega
  · intro a b u q hc h5 v ev t et t2 q2 t3 e3
    have w := smC_B h q
    have r := sc2 w.1 h5 ev et
    have ku := RB_k w.1
    have kt := RB_k r.1
    have nb := nxA_b (s 2) ku.2.1
    rw [ku.1] at hc e3
    have lt := nb.2.2 (k_lt (fun z => hc (by rw [z]; rfl)))
    have w2 := smC_B (RB_I r.1) q2
    have hB2 := RB_t r.1 w2.1
    have q3 := RB_e hk hB2 e3
    have ea := r.2.1
    have ez := r.2.2.2.2
    have ea3 := q3.2.1
    have ez3 := q3.2.2.2.2
    have hz := q.2.2.1
    have hz2 := q2.2.2.1
    have ec : cpF (s 2) (nO s) (aO s) (s 5 1) (cdL s k) = (0, aO t3, t3 5 1, cdL t3 k) := by
      have e2 := w2.2
      unfold smC at e2
      rw [kt.2.2.2.1, kt.2.2.2.2, r.2.1, r.2.2.1, r.2.2.2.1] at e2
      rw [cpF_e (q := (0, aO u, u 5 1, cdL u k)) w.2 e2, if_pos rfl, if_neg hc, if_neg (show ¬ 60 ≤ u 5 1 by omega), if_pos rfl, q3.2.1, q3.2.2.1, q3.2.2.2.1]
    refine k1 t3 ⟨q3.1, ⟨by omega, by omega⟩, fun K hK => ?_⟩
    have y := cst a b K
    rw [ec, if_pos rfl] at y
    refine rch_t y ?_
    have y2 := rch_s (T := s 2) (n := nO s) (-2, aO t3, t3 5 1, cdL t3 k, K)
    rw [st_A] at y2
    exact y2
  · intro a b u q hc h5 v ev t et t2 q0
    have w := smC_B h q
    have r := sc2 w.1 h5 ev et
    have ku := RB_k w.1
    have kt := RB_k r.1
    rw [ku.1] at hc
    have e6 : t2 1 6 = (smC t k).1 := q0.1
    have nz : ¬ (smC t k).1 = 0 := by have := q0.2.1; omega
    refine cbad a b t2 (by rw [e6]; exact RQ0_t r.1 q0) ?_
    rw [e6]
    have e2 : sumF (s 2) (nO s) (nxA (s 2) (nO s) (aO u)) (u 5 1 + 1) (cdL u k) (-1) (-1) = smC t k := by
      unfold smC
      rw [kt.2.2.2.1, kt.2.2.2.2, r.2.1, r.2.2.1, r.2.2.2.1]
    rw [cpF_e (q := (0, aO u, u 5 1, cdL u k)) w.2 e2, if_pos rfl, if_neg hc, if_neg (show ¬ 60 ≤ u 5 1 by omega), if_neg nz]
  · intro a b u q hc h5
    have w := smC_B h q
    exact ⟨(ts_400 w.1.1.1).2.2, by decide⟩
  · rintro a b u q hc h5 v t ⟨ev, et⟩
    have w := smC_B h q
    have ku := RB_k w.1
    rw [ku.1] at hc
    have q0 := fl_0 hk w.1.1.1 w.1.2.1 (by decide) et
    have e6 : t 1 6 = fuA (aO u) 3 := q0.1
    rw [ev]
    refine cbad a b t (by rw [e6]; exact RQ0_t w.1 q0) ?_
    rw [e6, cpF_e (q := (0, aO u, u 5 1, cdL u k)) w.2 rfl, if_pos rfl, if_neg hc, if_pos (show 60 ≤ u 5 1 by omega)]
  · intro a b u q hc h5 v t e; exact Or.inl e.1
  · intro a b u q hc
    have w := smC_B h q
    exact ⟨(ts_400 w.1.1.1).2.2, by decide⟩
  · rintro a b u q hc v t ⟨ev, et⟩
    have w := smC_B h q
    have ku := RB_k w.1
    rw [ku.1] at hc
    have q0 := fl_0 hk w.1.1.1 w.1.2.1 (by decide) et
    have e6 : t 1 6 = fuA (aO u) 0 := q0.1
    rw [ev]
    refine cbad a b t (by rw [e6]; exact RQ0_t w.1 q0) ?_
    rw [e6, cpF_e (q := (0, aO u, u 5 1, cdL u k)) w.2 rfl, if_pos rfl, if_pos hc]
  · intro a b u q hc v t e; exact Or.inl e.1
  · intro a b u q0
    have e6 : u 1 6 = (smC s k).1 := q0.1
    have nz : ¬ (smC s k).1 = 0 := by have := q0.2.1; omega
    refine cbad a b u (by rw [e6]; exact q0) ?_
    rw [e6, cpF_e (q := smC s k) rfl rfl, if_neg nz]
  · intro a b c; exact ⟨ts.2.1, h.1.1⟩
  · intro a b c u q
    have e := RB_s hk hB0 q
    have ke := RB_k e.1
    have nb := nxA_b (s 2) kb.2.1
    rw [kb.1] at b
    rw [ew] at a
    have lt := nb.2.2 (k_lt (by rw [b]; decide))
    have ea := e.2.1
    have ez := e.2.2.2.2
    have st : ∀ K, dpK K = x → rch (s 2) (nO s) (ctS s s k K) (ctS s u k (91 :: K)) := fun K hK => by
      have y := rch_s (T := s 2) (n := nO s) (ctS s s k K)
      rw [show mtP (s 2) (nO s) (ctS s s k K) = mtF (s 2) (nO s) (aO s) (s 5 1) (cdL s k) K from st_F _ _ _ _ _ _] at y
      unfold mtF at y
      rw [if_neg a, if_pos b, if_neg (by omega)] at y
      unfold ctS at y ⊢
      rw [e.2.1, e.2.2.1, e.2.2.2.1]
      exact y
    rw [wx c]
    refine G c (RB_I e.1) (by omega) ?_ ?_
    · rintro t ⟨hB, ⟨hz, ha⟩, hw2, hR⟩
      rw [ke.2.2.2.1, ke.2.2.2.2] at hR hw2
      refine ⟨1, rfl, Or.inr ⟨rfl, RB_t e.1 hB, ⟨by omega, by omega⟩, hw2, fun K hK => rch_t (st K hK) ?_⟩⟩
      have y := hR (91 :: K) (by rw [dp_b]; omega) (Or.inr ⟨K, rfl⟩)
      unfold ctA at y ⊢
      rw [ke.2.2.2.1, ke.2.2.2.2] at y
      exact y
    · rintro t ⟨q0, hR⟩
      rw [ke.2.2.2.1, ke.2.2.2.2] at hR
      exact ⟨0, rfl, Or.inl ⟨rfl, RQ0_t e.1 q0, fun K hK => rch_t (st K hK) (hR (91 :: K) (by rw [dp_b]; omega) (Or.inr ⟨K, rfl⟩))⟩⟩
  · intro a b c; exact ⟨ts.2.2, by decide⟩
  · intro a b c v u e; exact f2 (Or.inr b) c v u e
  · intro a b c v u e; exact Or.inl e.1
theorem fac {X : (Nat → Int) × Nat} {k : Nat} (hk : isRl k) : ∀ (r : Nat) {x : Int}, x + r = 10 → 0 ≤ x → ∀ {d : Nat} {s : mSt} {Q : mQ}, RIq s k → s k 1 ≤ (aO s : Int) → (∀ t, FZ1 s t k x → Q (some (mI 1)) t) → (∀ t, FZ0 s t k x → Q (some (mI 0)) t) → Sp X (d + (8 + 2 * r)) 81 [mR 5, mR k, mI x] s Q
  | 0, x, hr, hx, d, s, Q, h, hs, k1, k0 => fac_st (d := d) hk (by omega) h hs (fun z => by omega) (fun z => by omega) k1 k0
  | r + 1, x, hr, hx, d, s, Q, h, hs, k1, k0 => by
    rw [show d + (8 + 2 * (r + 1)) = (d + (2 + 2 * r)) + 8 by omega]
    refine fac_st hk (by omega) h hs (fun _ {s} {Q} a b c e => ?_) (fun _ {s} {Q} a b c e => ?_) k1 k0
    · rw [show d + (2 + 2 * r) + 7 = (d + 1) + (8 + 2 * r) by omega]
      exact fac hk r (by omega) (by omega) a b c e
    · rw [show d + (2 + 2 * r) + 7 = d + (9 + 2 * r) by omega]
      exact tst_of hk (fun {d} {s} {Q} a b c e => fac hk r (by omega) (by omega) a b c e) a b c e
theorem tst {X : (Nat → Int) × Nat} {d k : Nat} {s : mSt} {Q : mQ} (hk : isRl k) (h : RIq s k) (hs : s k 1 ≤ (aO s : Int)) (k1 : ∀ t, TQ1 s t k 0 → Q (some (mI 1)) t) (k0 : ∀ t, TQ0 s t k 0 → Q (some (mI 0)) t) : Sp X (d + 29) 80 [mR 5, mR k, mI 0] s Q :=
  tst_of (r := 10) hk (fun {d} {s} {Q} a b c e => fac hk 10 (by omega) (by omega) a b c e) h hs k1 k0
theorem c80q {X : (Nat → Int) × Nat} {d : Nat} {s : mSt} {Q : mQ} {a1 : Nat} {x2 : Int} (h1 : isRl a1) (p1 : RIq s a1 ∧ s a1 1 ≤ (aO s : Int) ∧ x2 = 0) (k1 : ∀ t : mSt, (TQ1 s t a1 0) → Q (some (mI 1)) t) (k0 : ∀ t : mSt, (TQ0 s t a1 0) → Q (some (mI 0)) t) : Sp X (d + 29) 80 [mR 5, mR a1, mI x2] s Q := by
  obtain ⟨h, hs, hx⟩ := p1
  subst hx
  exact tst h1 h hs k1 k0
