/-! tokens -/
def rnF (P : Nat → Bool) (n : Nat) : Nat → Nat → Nat
  | 0, i => i
  | f + 1, i => if i < n ∧ P i = true then rnF P n f (i + 1) else i
/-- the first place from i on where P ends -/
def rnT (P : Nat → Bool) (n i : Nat) : Nat := rnF P n (n - i) i
theorem rnT_e (P : Nat → Bool) (n i : Nat) : rnT P n i = if i < n ∧ P i = true then rnT P n (i + 1) else i := by
  unfold rnT
  by_cases z : i < n
  · rw [show n - i = (n - (i + 1)) + 1 by omega, rnF]
  · rw [show n - i = 0 by omega, if_neg (fun w => z w.1)]; rfl
theorem rnF_b (P : Nat → Bool) (n : Nat) : ∀ f i, i ≤ rnF P n f i ∧ (i ≤ n → rnF P n f i ≤ n)
  | 0, i => ⟨Nat.le_refl i, fun h => h⟩
  | f + 1, i => by
    rw [rnF]
    split
    · next z =>
      have := rnF_b P n f (i + 1)
      exact ⟨by omega, fun h => this.2 (by omega)⟩
    · exact ⟨Nat.le_refl i, fun h => h⟩
theorem rnT_b (P : Nat → Bool) (n i : Nat) : i ≤ rnT P n i ∧ (i ≤ n → rnT P n i ≤ n) := rnF_b P n _ i
def isL (T : Nat → Int) (k : Nat) : Bool := decide (97 ≤ T k) && decide (T k ≤ 122)
def isD (T : Nat → Int) (k : Nat) : Bool := decide (48 ≤ T k) && decide (T k ≤ 57)
theorem isL_i {T : Nat → Int} {k : Nat} : isL T k = true ↔ 97 ≤ T k ∧ T k ≤ 122 := by unfold isL; rw [Bool.and_eq_true, decide_eq_true_eq, decide_eq_true_eq]
theorem isD_i {T : Nat → Int} {k : Nat} : isD T k = true ↔ 48 ≤ T k ∧ T k ≤ 57 := by unfold isD; rw [Bool.and_eq_true, decide_eq_true_eq, decide_eq_true_eq]
def sk (T : Nat → Int) (n i : Nat) : Nat := rnT (fun k => decide (T k = 32)) n i
def leT (T : Nat → Int) (n i : Nat) : Nat := rnT (isL T) n i
def deT (T : Nat → Int) (n i : Nat) : Nat := rnT (isD T) n i
def nv (T : Nat → Int) (a : Nat) : Nat → Int
  | 0 => 0
  | k + 1 => w32 (w32 (w32 (nv T a k * 10) + T (a + k)) - 48)
/-- the token that stands at a place: its kind, the place behind it -/
def tkK (T : Nat → Int) (n a : Nat) : Int := if n ≤ a then -1 else if isL T a = true then 257 else if isD T a = true then 256 else
  if (a + 1 < n ∧ T (a + 1) = 61) ∧ T a = 60 then 258 else if (a + 1 < n ∧ T (a + 1) = 61) ∧ T a = 62 then 259 else T a
def tkP (T : Nat → Int) (n a : Nat) : Nat := if n ≤ a then a else if isL T a = true then leT T n a else if isD T a = true then deT T n a else
  if (a + 1 < n ∧ T (a + 1) = 61) ∧ T a = 60 then a + 2 else if (a + 1 < n ∧ T (a + 1) = 61) ∧ T a = 62 then a + 2 else a + 1
/-- the token of the tape -/
def TKq (T : Nat → Int) (n a : Nat) (t : mSt) : Prop := t 1 3 = (a : Int) ∧ t 1 2 = tkK T n a ∧ t 1 4 = (tkP T n a : Int) ∧ (tkK T n a = 256 → t 1 5 = nv T a (tkP T n a - a))
def f1 (s t : mSt) : Prop := (∀ b, b ≠ 1 → t b = s b) ∧ ∀ j, ¬ (2 ≤ j ∧ j ≤ 5) → t 1 j = s 1 j
theorem f1_t {s t u : mSt} (h1 : f1 s t) (h2 : f1 t u) : f1 s u := ⟨fun b hb => (h2.1 b hb).trans (h1.1 b hb), fun j hj => (h2.2 j hj).trans (h1.2 j hj)⟩
theorem f1_u {s : mSt} {j : Nat} (x : Int) (h : 2 ≤ j ∧ j ≤ 5) : f1 s (uS s 1 j x) := ⟨fun b hb => uS_cell hb, fun i hi => by rw [uS_at, if_neg (by omega)]⟩
def BYq (s : mSt) : Prop := ∀ i, 0 ≤ s 2 i ∧ s 2 i ≤ 255
theorem v90 {X : (Nat → Int) × Nat} {d : Nat} {s : mSt} {Q : mQ}
  (I0 : mSt → Prop) (m0 : mSt → Nat)
  (I38 : mSt → Prop) (m38 : mSt → Nat)
  (I99 : mSt → Prop) (m99 : mSt → Nat)
  (I151 : mSt → Prop) (m151 : mSt → Nat)
  (I181 : mSt → Prop) (m181 : mSt → Nat)
  (I257 : mSt → Prop) (m257 : mSt → Nat)
  (I310 : Int → mSt → Prop) (m310 : Int → mSt → Nat)
  (z1 : ∀ s : mSt, I0  s → (s 1 1) ≤ (s 1 4) → I38  s ∧ m38  s < m0  s)
  (z2 : ∀ s : mSt, I0  s → ¬ (s 1 1) ≤ (s 1 4) → 0 ≤ (s 1 4) ∧ (s 1 4) < 400)
  (z3 : ∀ s : mSt, I0  s → ¬ (s 1 1) ≤ (s 1 4) → ¬ (s 2 (s 1 4).toNat) = 32 → I38  s ∧ m38  s < m0  s)
  (z4 : ∀ s : mSt, I0  s → ¬ (s 1 1) ≤ (s 1 4) → (s 2 (s 1 4).toNat) = 32 → I0  (uS s 1 4 (w32 ((s 1 4) + 1))) ∧ m0  (uS s 1 4 (w32 ((s 1 4) + 1))) < m0  s)
  (z5 : ∀ s : mSt, I38  s → ((uS s 1 3 (s 1 4)) 1 1) ≤ ((uS s 1 3 (s 1 4)) 1 4) → ∀ t6 : mSt, t6 = uS s 1 3 (s 1 4) → ((uS t6 1 2 (-1)) 1 2) < 97 → I151  (uS t6 1 2 (-1)) ∧ m151  (uS t6 1 2 (-1)) < m38  s)
  (z6 : ∀ s : mSt, I38  s → ((uS s 1 3 (s 1 4)) 1 1) ≤ ((uS s 1 3 (s 1 4)) 1 4) → ∀ t6 : mSt, t6 = uS s 1 3 (s 1 4) → ¬ ((uS t6 1 2 (-1)) 1 2) < 97 → ∀ t9 : mSt, t9 = uS t6 1 2 (-1) → 122 < (t9 1 2) → I151  t9 ∧ m151  t9 < m38  s)
  (z7 : ∀ s : mSt, I38  s → ((uS s 1 3 (s 1 4)) 1 1) ≤ ((uS s 1 3 (s 1 4)) 1 4) → ∀ t6 : mSt, t6 = uS s 1 3 (s 1 4) → ¬ ((uS t6 1 2 (-1)) 1 2) < 97 → ∀ t9 : mSt, t9 = uS t6 1 2 (-1) → ¬ 122 < (t9 1 2) → I99  (uS t9 1 2 257) ∧ m99  (uS t9 1 2 257) < m38  s)
  (z8 : ∀ s : mSt, I38  s → ¬ ((uS s 1 3 (s 1 4)) 1 1) ≤ ((uS s 1 3 (s 1 4)) 1 4) → ∀ t13 : mSt, t13 = uS s 1 3 (s 1 4) → 0 ≤ (t13 1 4) ∧ (t13 1 4) < 400)
  (z9 : ∀ s : mSt, I38  s → ¬ ((uS s 1 3 (s 1 4)) 1 1) ≤ ((uS s 1 3 (s 1 4)) 1 4) → ∀ t13 : mSt, t13 = uS s 1 3 (s 1 4) → ((uS t13 1 2 (t13 2 (t13 1 4).toNat)) 1 2) < 97 → I151  (uS t13 1 2 (t13 2 (t13 1 4).toNat)) ∧ m151  (uS t13 1 2 (t13 2 (t13 1 4).toNat)) < m38  s)
  (z10 : ∀ s : mSt, I38  s → ¬ ((uS s 1 3 (s 1 4)) 1 1) ≤ ((uS s 1 3 (s 1 4)) 1 4) → ∀ t13 : mSt, t13 = uS s 1 3 (s 1 4) → ¬ ((uS t13 1 2 (t13 2 (t13 1 4).toNat)) 1 2) < 97 → ∀ t16 : mSt, t16 = uS t13 1 2 (t13 2 (t13 1 4).toNat) → 122 < (t16 1 2) → I151  t16 ∧ m151  t16 < m38  s)
  (z11 : ∀ s : mSt, I38  s → ¬ ((uS s 1 3 (s 1 4)) 1 1) ≤ ((uS s 1 3 (s 1 4)) 1 4) → ∀ t13 : mSt, t13 = uS s 1 3 (s 1 4) → ¬ ((uS t13 1 2 (t13 2 (t13 1 4).toNat)) 1 2) < 97 → ∀ t16 : mSt, t16 = uS t13 1 2 (t13 2 (t13 1 4).toNat) → ¬ 122 < (t16 1 2) → I99  (uS t16 1 2 257) ∧ m99  (uS t16 1 2 257) < m38  s)
  (z12 : ∀ s : mSt, I99  s → (s 1 1) ≤ (s 1 4) → Q none s)
  (z13 : ∀ s : mSt, I99  s → ¬ (s 1 1) ≤ (s 1 4) → 0 ≤ (s 1 4) ∧ (s 1 4) < 400)
  (z14 : ∀ s : mSt, I99  s → ¬ (s 1 1) ≤ (s 1 4) → (s 2 (s 1 4).toNat) < 97 → Q none s)
  (z15 : ∀ s : mSt, I99  s → ¬ (s 1 1) ≤ (s 1 4) → ¬ (s 2 (s 1 4).toNat) < 97 → 0 ≤ (s 1 4) ∧ (s 1 4) < 400)
  (z16 : ∀ s : mSt, I99  s → ¬ (s 1 1) ≤ (s 1 4) → ¬ (s 2 (s 1 4).toNat) < 97 → 122 < (s 2 (s 1 4).toNat) → Q none s)
  (z17 : ∀ s : mSt, I99  s → ¬ (s 1 1) ≤ (s 1 4) → ¬ (s 2 (s 1 4).toNat) < 97 → ¬ 122 < (s 2 (s 1 4).toNat) → I99  (uS s 1 4 (w32 ((s 1 4) + 1))) ∧ m99  (uS s 1 4 (w32 ((s 1 4) + 1))) < m99  s)
  (z18 : ∀ s : mSt, I151  s → (s 1 2) < 48 → I257  s ∧ m257  s < m151  s)
  (z19 : ∀ s : mSt, I151  s → ¬ (s 1 2) < 48 → 57 < (s 1 2) → I257  s ∧ m257  s < m151  s)
  (z20 : ∀ s : mSt, I151  s → ¬ (s 1 2) < 48 → ¬ 57 < (s 1 2) → I181  (uS (uS s 1 2 256) 1 5 0) ∧ m181  (uS (uS s 1 2 256) 1 5 0) < m151  s)
  (z21 : ∀ s : mSt, I181  s → (s 1 1) ≤ (s 1 4) → Q none s)
  (z22 : ∀ s : mSt, I181  s → ¬ (s 1 1) ≤ (s 1 4) → 0 ≤ (s 1 4) ∧ (s 1 4) < 400)
  (z23 : ∀ s : mSt, I181  s → ¬ (s 1 1) ≤ (s 1 4) → (s 2 (s 1 4).toNat) < 48 → Q none s)
  (z24 : ∀ s : mSt, I181  s → ¬ (s 1 1) ≤ (s 1 4) → ¬ (s 2 (s 1 4).toNat) < 48 → 0 ≤ (s 1 4) ∧ (s 1 4) < 400)
  (z25 : ∀ s : mSt, I181  s → ¬ (s 1 1) ≤ (s 1 4) → ¬ (s 2 (s 1 4).toNat) < 48 → 57 < (s 2 (s 1 4).toNat) → Q none s)
  (z26 : ∀ s : mSt, I181  s → ¬ (s 1 1) ≤ (s 1 4) → ¬ (s 2 (s 1 4).toNat) < 48 → ¬ 57 < (s 2 (s 1 4).toNat) → 0 ≤ (s 1 4) ∧ (s 1 4) < 400)
  (z27 : ∀ s : mSt, I181  s → ¬ (s 1 1) ≤ (s 1 4) → ¬ (s 2 (s 1 4).toNat) < 48 → ¬ 57 < (s 2 (s 1 4).toNat) → I181  (uS (uS s 1 5 (w32 ((w32 ((w32 ((s 1 5) * 10)) + (s 2 (s 1 4).toNat))) - 48))) 1 4 (w32 (((uS s 1 5 (w32 ((w32 ((w32 ((s 1 5) * 10)) + (s 2 (s 1 4).toNat))) - 48))) 1 4) + 1))) ∧ m181  (uS (uS s 1 5 (w32 ((w32 ((w32 ((s 1 5) * 10)) + (s 2 (s 1 4).toNat))) - 48))) 1 4 (w32 (((uS s 1 5 (w32 ((w32 ((w32 ((s 1 5) * 10)) + (s 2 (s 1 4).toNat))) - 48))) 1 4) + 1))) < m181  s)
  (z28 : ∀ s : mSt, I257  s → (s 1 2) = (-1) → Q none s)
  (z29 : ∀ s : mSt, I257  s → ¬ (s 1 2) = (-1) → ((uS s 1 4 (w32 ((s 1 4) + 1))) 1 1) ≤ ((uS s 1 4 (w32 ((s 1 4) + 1))) 1 4) → ∀ t38 : mSt, t38 = uS s 1 4 (w32 ((s 1 4) + 1)) → Q none t38)
  (z30 : ∀ s : mSt, I257  s → ¬ (s 1 2) = (-1) → ¬ ((uS s 1 4 (w32 ((s 1 4) + 1))) 1 1) ≤ ((uS s 1 4 (w32 ((s 1 4) + 1))) 1 4) → ∀ t40 : mSt, t40 = uS s 1 4 (w32 ((s 1 4) + 1)) → 0 ≤ (t40 1 4) ∧ (t40 1 4) < 400)
  (z31 : ∀ s : mSt, I257  s → ¬ (s 1 2) = (-1) → ¬ ((uS s 1 4 (w32 ((s 1 4) + 1))) 1 1) ≤ ((uS s 1 4 (w32 ((s 1 4) + 1))) 1 4) → ∀ t40 : mSt, t40 = uS s 1 4 (w32 ((s 1 4) + 1)) → ¬ (t40 2 (t40 1 4).toNat) = 61 → Q none t40)
  (z32 : ∀ s : mSt, I257  s → ¬ (s 1 2) = (-1) → ¬ ((uS s 1 4 (w32 ((s 1 4) + 1))) 1 1) ≤ ((uS s 1 4 (w32 ((s 1 4) + 1))) 1 4) → ∀ t40 : mSt, t40 = uS s 1 4 (w32 ((s 1 4) + 1)) → (t40 2 (t40 1 4).toNat) = 61 → I310 1 t40 ∧ m310 1 t40 < m257  s)
  (z33 : ∀ y1 : Int, ∀ s : mSt, I310 y1 s → (s 1 2) = 60 → ¬ (s 1 2) = 60 → ∀ t45 : mSt, t45 = uS (uS s 1 2 259) 1 4 (w32 (((uS s 1 2 259) 1 4) + 1)) → Q none t45)
  (z34 : ∀ y1 : Int, ∀ s : mSt, I310 y1 s → (s 1 2) = 60 → (s 1 2) = 60 → ∀ t47 : mSt, t47 = uS (uS s 1 2 258) 1 4 (w32 (((uS s 1 2 258) 1 4) + 1)) → Q none t47)
  (z35 : ∀ y1 : Int, ∀ s : mSt, I310 y1 s → ¬ (s 1 2) = 60 → ¬ (s 1 2) = 62 → Q none s)
  (z36 : ∀ y1 : Int, ∀ s : mSt, I310 y1 s → ¬ (s 1 2) = 60 → (s 1 2) = 62 → ¬ (s 1 2) = 60 → ∀ t52 : mSt, t52 = uS (uS s 1 2 259) 1 4 (w32 (((uS s 1 2 259) 1 4) + 1)) → Q none t52)
  (z37 : ∀ y1 : Int, ∀ s : mSt, I310 y1 s → ¬ (s 1 2) = 60 → (s 1 2) = 62 → (s 1 2) = 60 → ∀ t54 : mSt, t54 = uS (uS s 1 2 258) 1 4 (w32 (((uS s 1 2 258) 1 4) + 1)) → Q none t54)
  (z38 : I0  s) :
  Sp X d 90 [mR 1] s Q := by
  have L : ∀ k : Nat, (∀ (l1 : Option mV) (s : mSt), I0  s → m0  s < k → Wp X d 90 0 [some (mR 1), l1] [] s Q) ∧ (∀ (l1 : Option mV) (s : mSt), I38  s → m38  s < k → Wp X d 90 38 [some (mR 1), l1] [] s Q) ∧ (∀ (l1 : Option mV) (s : mSt), I99  s → m99  s < k → Wp X d 90 99 [some (mR 1), l1] [] s Q) ∧ (∀ (l1 : Option mV) (s : mSt), I151  s → m151  s < k → Wp X d 90 151 [some (mR 1), l1] [] s Q) ∧ (∀ (l1 : Option mV) (s : mSt), I181  s → m181  s < k → Wp X d 90 181 [some (mR 1), l1] [] s Q) ∧ (∀ (l1 : Option mV) (s : mSt), I257  s → m257  s < k → Wp X d 90 257 [some (mR 1), l1] [] s Q) ∧ (∀ (y1 : Int) (s : mSt), I310 y1 s → m310 y1 s < k → Wp X d 90 310 [some (mR 1), some (mI y1)] [] s Q) := by
    intro k
    induction k with
    | zero => exact ⟨fun _ _ _ h => absurd h (Nat.not_lt_zero _), fun _ _ _ h => absurd h (Nat.not_lt_zero _), fun _ _ _ h => absurd h (Nat.not_lt_zero _), fun _ _ _ h => absurd h (Nat.not_lt_zero _), fun _ _ _ h => absurd h (Nat.not_lt_zero _), fun _ _ _ h => absurd h (Nat.not_lt_zero _), fun _ _ _ h => absurd h (Nat.not_lt_zero _)⟩
    | succ k ih => exact ⟨fun l1 s hI hm => b90_0 (fun q1 => ih.2.1 l1 s (z1 s hI q1).1 (Nat.lt_of_lt_of_le (z1 s hI q1).2 (Nat.le_of_lt_succ hm))) (fun q2 => b90_11 (z2 s hI q2) (fun q3 => ih.2.1 l1 s (z3 s hI q2 q3).1 (Nat.lt_of_lt_of_le (z3 s hI q2 q3).2 (Nat.le_of_lt_succ hm))) (fun q4 => b90_25 (ih.1 l1 (uS s 1 4 (w32 ((s 1 4) + 1))) (z4 s hI q2 q4).1 (Nat.lt_of_lt_of_le (z4 s hI q2 q4).2 (Nat.le_of_lt_succ hm))))), fun l1 s hI hm => b90_38 (fun q5 => Wp_gen (fun t6 e6 => b90_70 (b90_71 (fun q7 => ih.2.2.2.1 l1 (uS t6 1 2 (-1)) (z5 s hI q5 t6 e6 q7).1 (Nat.lt_of_lt_of_le (z5 s hI q5 t6 e6 q7).2 (Nat.le_of_lt_succ hm))) (fun q8 => Wp_gen (fun t9 e9 => b90_83 (fun q10 => ih.2.2.2.1 l1 t9 (z6 s hI q5 t6 e6 q8 t9 e9 q10).1 (Nat.lt_of_lt_of_le (z6 s hI q5 t6 e6 q8 t9 e9 q10).2 (Nat.le_of_lt_succ hm))) (fun q11 => b90_92 (ih.2.2.1 l1 (uS t9 1 2 257) (z7 s hI q5 t6 e6 q8 t9 e9 q11).1 (Nat.lt_of_lt_of_le (z7 s hI q5 t6 e6 q8 t9 e9 q11).2 (Nat.le_of_lt_succ hm))))))))) (fun q12 => Wp_gen (fun t13 e13 => b90_58 (z8 s hI q12 t13 e13) (b90_71 (fun q14 => ih.2.2.2.1 l1 (uS t13 1 2 (t13 2 (t13 1 4).toNat)) (z9 s hI q12 t13 e13 q14).1 (Nat.lt_of_lt_of_le (z9 s hI q12 t13 e13 q14).2 (Nat.le_of_lt_succ hm))) (fun q15 => Wp_gen (fun t16 e16 => b90_83 (fun q17 => ih.2.2.2.1 l1 t16 (z10 s hI q12 t13 e13 q15 t16 e16 q17).1 (Nat.lt_of_lt_of_le (z10 s hI q12 t13 e13 q15 t16 e16 q17).2 (Nat.le_of_lt_succ hm))) (fun q18 => b90_92 (ih.2.2.1 l1 (uS t16 1 2 257) (z11 s hI q12 t13 e13 q15 t16 e16 q18).1 (Nat.lt_of_lt_of_le (z11 s hI q12 t13 e13 q15 t16 e16 q18).2 (Nat.le_of_lt_succ hm))))))))), fun l1 s hI hm => b90_99 (fun q19 => b90_360 (z12 s hI q19)) (fun q20 => b90_110 (z13 s hI q20) (fun q21 => b90_360 (z14 s hI q20 q21)) (fun q22 => b90_124 (z15 s hI q20 q22) (fun q23 => b90_360 (z16 s hI q20 q22 q23)) (fun q24 => b90_138 (ih.2.2.1 l1 (uS s 1 4 (w32 ((s 1 4) + 1))) (z17 s hI q20 q22 q24).1 (Nat.lt_of_lt_of_le (z17 s hI q20 q22 q24).2 (Nat.le_of_lt_succ hm)))))), fun l1 s hI hm => b90_151 (fun q25 => ih.2.2.2.2.2.1 l1 s (z18 s hI q25).1 (Nat.lt_of_lt_of_le (z18 s hI q25).2 (Nat.le_of_lt_succ hm))) (fun q26 => b90_160 (fun q27 => ih.2.2.2.2.2.1 l1 s (z19 s hI q26 q27).1 (Nat.lt_of_lt_of_le (z19 s hI q26 q27).2 (Nat.le_of_lt_succ hm))) (fun q28 => b90_169 (ih.2.2.2.2.1 l1 (uS (uS s 1 2 256) 1 5 0) (z20 s hI q26 q28).1 (Nat.lt_of_lt_of_le (z20 s hI q26 q28).2 (Nat.le_of_lt_succ hm))))), fun l1 s hI hm => b90_181 (fun q29 => b90_360 (z21 s hI q29)) (fun q30 => b90_192 (z22 s hI q30) (fun q31 => b90_360 (z23 s hI q30 q31)) (fun q32 => b90_206 (z24 s hI q30 q32) (fun q33 => b90_360 (z25 s hI q30 q32 q33)) (fun q34 => b90_220 (z26 s hI q30 q32 q34) (ih.2.2.2.2.1 l1 (uS (uS s 1 5 (w32 ((w32 ((w32 ((s 1 5) * 10)) + (s 2 (s 1 4).toNat))) - 48))) 1 4 (w32 (((uS s 1 5 (w32 ((w32 ((w32 ((s 1 5) * 10)) + (s 2 (s 1 4).toNat))) - 48))) 1 4) + 1))) (z27 s hI q30 q32 q34).1 (Nat.lt_of_lt_of_le (z27 s hI q30 q32 q34).2 (Nat.le_of_lt_succ hm)))))), fun l1 s hI hm => b90_257 (fun q35 => b90_360 (z28 s hI q35)) (fun q36 => b90_265 (fun q37 => Wp_gen (fun t38 e38 => b90_304 (b90_305 (fun _ => b90_360 (z29 s hI q36 q37 t38 e38)) (fun q => absurd q (by decide))))) (fun q39 => Wp_gen (fun t40 e40 => b90_286 (z30 s hI q36 q39 t40 e40) (fun q41 => b90_304 (b90_305 (fun _ => b90_360 (z31 s hI q36 q39 t40 e40 q41)) (fun q => absurd q (by decide)))) (fun q42 => b90_300 (b90_305 (fun q => absurd q (by decide)) (fun _ => ih.2.2.2.2.2.2 1 t40 (z32 s hI q36 q39 t40 e40 q42).1 (Nat.lt_of_lt_of_le (z32 s hI q36 q39 t40 e40 q42).2 (Nat.le_of_lt_succ hm)))))))), fun y1 s hI hm => b90_310 (fun q43 => b90_328 (fun q44 => b90_344 (b90_347 (Wp_gen (fun t45 e45 => b90_360 (z33 y1 s hI q43 q44 t45 e45))))) (fun q46 => b90_338 (b90_347 (Wp_gen (fun t47 e47 => b90_360 (z34 y1 s hI q43 q46 t47 e47)))))) (fun q48 => b90_319 (fun q49 => b90_360 (z35 y1 s hI q48 q49)) (fun q50 => b90_328 (fun q51 => b90_344 (b90_347 (Wp_gen (fun t52 e52 => b90_360 (z36 y1 s hI q48 q50 q51 t52 e52))))) (fun q53 => b90_338 (b90_347 (Wp_gen (fun t54 e54 => b90_360 (z37 y1 s hI q48 q50 q53 t54 e54)))))))⟩
  exact e90 ((L (m0  s + 1)).1 none s z38 (Nat.lt_succ_self _))

theorem c90 {X : (Nat → Int) × Nat} {d : Nat} {s : mSt} {Q : mQ} (p1 : (0 ≤ s 1 4 ∧ s 1 4 ≤ s 1 1 ∧ s 1 1 ≤ 400) ∧ BYq s) (k : ∀ t : mSt, (TKq (s 2) (s 1 1).toNat (sk (s 2) (s 1 1).toNat (s 1 4).toNat) t ∧ f1 s t) → Q none t) : Sp X d 90 [mR 1] s Q := by
  obtain ⟨hp, hby⟩ := p1
  let T := s 2
  let n := (s 1 1).toNat
  have hn : n = (s 1 1).toNat := rfl
  let i0 := (s 1 4).toNat
  let a := sk (s 2) (s 1 1).toNat (s 1 4).toNat
  have ab : i0 ≤ a ∧ (i0 ≤ n → a ≤ n) := rnT_b _ _ _
  have ha : a ≤ n := ab.2 (by show (s 1 4).toNat ≤ (s 1 1).toNat; omega)
  have hn4 : n ≤ 400 := by show (s 1 1).toNat ≤ 400; omega
  have eT : ∀ t : mSt, f1 s t → t 2 = s 2 := fun t ht => ht.1 2 (by decide)
  have e1 : ∀ t : mSt, f1 s t → t 1 1 = (n : Int) := fun t ht => by rw [ht.2 1 (by decide)]; show s 1 1 = ((s 1 1).toNat : Int); omega
  let I0 : mSt → Prop := fun t => ∃ i : Nat, t 1 4 = i ∧ i ≤ n ∧ sk T n i = a ∧ f1 s t
  let I38 : mSt → Prop := fun t => t 1 4 = (a : Int) ∧ f1 s t
  let I99 : mSt → Prop := fun t => ∃ k : Nat, a < n ∧ isL T a = true ∧ t 1 3 = (a : Int) ∧ t 1 2 = 257 ∧ t 1 4 = (k : Int) ∧ k ≤ n ∧ leT T n k = leT T n a ∧ f1 s t
  let c : Int := if n ≤ a then -1 else T a
  have hT : ∀ i, 0 ≤ T i ∧ T i ≤ 255 := hby
  let I151 : mSt → Prop := fun t => t 1 3 = (a : Int) ∧ t 1 4 = (a : Int) ∧ t 1 2 = c ∧ ¬ (97 ≤ c ∧ c ≤ 122) ∧ f1 s t
  let I181 : mSt → Prop := fun t => ∃ k : Nat, a < n ∧ isD T a = true ∧ ¬ isL T a = true ∧ t 1 3 = (a : Int) ∧ t 1 2 = 256 ∧ t 1 4 = (k : Int) ∧ (a ≤ k ∧ k ≤ n) ∧ deT T n k = deT T n a ∧ t 1 5 = nv T a (k - a) ∧ f1 s t
  let I257 : mSt → Prop := fun t => t 1 3 = (a : Int) ∧ t 1 4 = (a : Int) ∧ t 1 2 = c ∧ ¬ (97 ≤ c ∧ c ≤ 122) ∧ ¬ (48 ≤ c ∧ c ≤ 57) ∧ f1 s t
  let I310 : Int → mSt → Prop := fun _ t => t 1 3 = (a : Int) ∧ t 1 4 = ((a + 1 : Nat) : Int) ∧ t 1 2 = T a ∧ a + 1 < n ∧ T (a + 1) = 61 ∧ ¬ isL T a = true ∧ ¬ isD T a = true ∧ f1 s t
  have K1 : ∀ t : mSt, TKq T n a t → f1 s t → Q none t := fun t ht hf => k t ⟨ht, hf⟩
  have kL : a < n → isL T a = true → tkK T n a = 257 ∧ tkP T n a = leT T n a := fun z1 z2 => by unfold tkK tkP; rw [if_neg (by omega), if_pos z2, if_neg (by omega), if_pos z2]; exact ⟨rfl, rfl⟩
  have kD : a < n → ¬ isL T a = true → isD T a = true → tkK T n a = 256 ∧ tkP T n a = deT T n a := fun z1 z2 z3 => by unfold tkK tkP; rw [if_neg (by omega), if_neg z2, if_pos z3, if_neg (by omega), if_neg z2, if_pos z3]; exact ⟨rfl, rfl⟩
  have endL : ∀ (t : mSt) (k : Nat), a < n → isL T a = true → t 1 3 = (a : Int) → t 1 2 = 257 → t 1 4 = (k : Int) → leT T n k = leT T n a → ¬ (k < n ∧ isL T k = true) → f1 s t → Q none t := fun t k z1 z2 e3 e2 e4 el hz hf => by
    have q := kL z1 z2
    have ek : leT T n k = k := by unfold leT; rw [rnT_e, if_neg hz]
    exact K1 t ⟨e3, by rw [q.1]; exact e2, by rw [q.2, ← el, ek]; exact e4, fun w => by rw [q.1] at w; exact absurd w (by decide)⟩ hf
  have endD : ∀ (t : mSt) (k : Nat), a < n → isD T a = true → ¬ isL T a = true → t 1 3 = (a : Int) → t 1 2 = 256 → t 1 4 = (k : Int) → deT T n k = deT T n a → t 1 5 = nv T a (k - a) → ¬ (k < n ∧ isD T k = true) → f1 s t → Q none t := fun t k z1 z2 z3 e3 e2 e4 el e5 hz hf => by
    have q := kD z1 z3 z2
    have ek : deT T n k = k := by unfold deT; rw [rnT_e, if_neg hz]
    exact K1 t ⟨e3, by rw [q.1]; exact e2, by rw [q.2, ← el, ek]; exact e4, fun _ => by rw [q.2, ← el, ek]; exact e5⟩ hf
  have kO : a < n → ¬ isL T a = true → ¬ isD T a = true → ¬ ((a + 1 < n ∧ T (a + 1) = 61) ∧ (T a = 60 ∨ T a = 62)) → tkK T n a = T a ∧ tkP T n a = a + 1 := fun z1 z2 z3 z4 => by
    unfold tkK tkP
    rw [if_neg (by omega), if_neg z2, if_neg z3, if_neg (fun w => z4 ⟨w.1, Or.inl w.2⟩), if_neg (fun w => z4 ⟨w.1, Or.inr w.2⟩), if_neg (by omega), if_neg z2, if_neg z3, if_neg (fun w => z4 ⟨w.1, Or.inl w.2⟩), if_neg (fun w => z4 ⟨w.1, Or.inr w.2⟩)]; exact ⟨rfl, rfl⟩
  have endO : ∀ t : mSt, a < n → ¬ isL T a = true → ¬ isD T a = true → ¬ ((a + 1 < n ∧ T (a + 1) = 61) ∧ (T a = 60 ∨ T a = 62)) → t 1 3 = (a : Int) → t 1 4 = ((a + 1 : Nat) : Int) → t 1 2 = T a → f1 s t → Q none t := fun t z1 z2 z3 z4 e3 e4 e2 hf => by
    have q := kO z1 z2 z3 z4
    refine K1 t ⟨e3, by rw [q.1]; exact e2, by rw [q.2]; exact e4, fun w => ?_⟩ hf
    rw [q.1] at w
    have := hT a
    omega
  refine v90 I0 (fun t => (2000 - t 1 4).toNat) I38 (fun _ => 1500) I99 (fun t => (900 - t 1 4).toNat) I151 (fun _ => 1400) I181 (fun t => (900 - t 1 4).toNat) I257 (fun _ => 1300) I310 (fun _ _ => 1200) ?_ ?_ ?_ ?_ ?_ ?_ ?_ ?_ ?_ ?_ ?_ ?_ ?_ ?_ ?_ ?_ ?_ ?_ ?_ ?_ ?_ ?_ ?_ ?_ ?_ ?_ ?_ ?_ ?_ ?_ ?_ ?_ ?_ ?_ ?_ ?_ ?_ ?_
  · rintro t ⟨i, e4, hi, ei, hf⟩ hc
    rw [e1 t hf, e4] at hc
    have : sk T n i = i := by unfold sk; rw [rnT_e, if_neg (by omega)]
    exact ⟨⟨by rw [e4, ← ei, this], hf⟩, by omega⟩
  · rintro t ⟨i, e4, hi, ei, hf⟩ hc
    rw [e1 t hf, e4] at hc
    omega
  · rintro t ⟨i, e4, hi, ei, hf⟩ hc q
    rw [eT t hf, e4, tnc] at q
    have : sk T n i = i := by unfold sk; rw [rnT_e, if_neg (fun w => q (by have := w.2; simp at this; exact this))]
    exact ⟨⟨by rw [e4, ← ei, this], hf⟩, by omega⟩
  · rintro t ⟨i, e4, hi, ei, hf⟩ hc q
    rw [e1 t hf, e4] at hc
    rw [eT t hf, e4, tnc] at q
    rw [e4, w32_of (by omega)]
    have : sk T n i = sk T n (i + 1) := by unfold sk; rw [rnT_e, if_pos ⟨by omega, by simp; exact q⟩]
    refine ⟨⟨i + 1, by rw [uS_at, if_pos rfl]; omega, by omega, by rw [← this]; exact ei, f1_t hf (f1_u _ (by decide))⟩, ?_⟩
    rw [uS_at, if_pos rfl]; omega
  · rintro t ⟨e4, hf⟩ hc t6 h6 q
    rw [uS_at, if_neg (by decide), uS_at, if_neg (by decide), e1 t hf, e4] at hc
    have ec : c = -1 := if_pos (by omega)
    subst h6
    refine ⟨⟨?_, ?_, ?_, by omega, f1_t hf (f1_t (f1_u _ (by decide)) (f1_u _ (by decide)))⟩, by decide⟩
    · rw [uS_at, if_neg (by decide), uS_at, if_pos rfl]; exact e4
    · rw [uS_at, if_neg (by decide), uS_at, if_neg (by decide)]; exact e4
    · rw [uS_at, if_pos rfl, ec]
  · rintro t ⟨e4, hf⟩ hc t6 h6 q
    rw [uS_at, if_pos rfl] at q
    omega
  · rintro t ⟨e4, hf⟩ hc t6 h6 q
    rw [uS_at, if_pos rfl] at q
    omega
  · rintro t ⟨e4, hf⟩ hc t13 h13
    rw [uS_at, if_neg (by decide), uS_at, if_neg (by decide), e1 t hf, e4] at hc
    rw [h13, uS_at, if_neg (by decide), e4]; omega
  · rintro t ⟨e4, hf⟩ hc t13 h13 q
    rw [uS_at, if_neg (by decide), uS_at, if_neg (by decide), e1 t hf, e4] at hc
    have f13 : f1 s t13 := f1_t hf (by rw [h13]; exact f1_u _ (by decide))
    have e134 : t13 1 4 = (a : Int) := by rw [h13, uS_at, if_neg (by decide)]; exact e4
    have e133 : t13 1 3 = (a : Int) := by rw [h13, uS_at, if_pos rfl]; exact e4
    rw [uS_at, if_pos rfl, eT t13 f13, e134, tnc] at q
    have ec : c = T a := if_neg (by omega)
    have q' : T a < 97 := q
    rw [eT t13 f13, e134, tnc]
    refine ⟨⟨?_, ?_, ?_, by omega, f1_t f13 (f1_u _ (by decide))⟩, by decide⟩
    · rw [uS_at, if_neg (by decide)]; exact e133
    · rw [uS_at, if_neg (by decide)]; exact e134
    · rw [uS_at, if_pos rfl, ec]
  · rintro t ⟨e4, hf⟩ hc t13 h13 q t16 h16 q2
    rw [uS_at, if_neg (by decide), uS_at, if_neg (by decide), e1 t hf, e4] at hc
    have f13 : f1 s t13 := f1_t hf (by rw [h13]; exact f1_u _ (by decide))
    have e134 : t13 1 4 = (a : Int) := by rw [h13, uS_at, if_neg (by decide)]; exact e4
    have e133 : t13 1 3 = (a : Int) := by rw [h13, uS_at, if_pos rfl]; exact e4
    rw [eT t13 f13, e134, tnc] at h16
    have ec : c = T a := if_neg (by omega)
    have e2 : t16 1 2 = T a := by rw [h16, uS_at, if_pos rfl]
    rw [e2] at q2
    refine ⟨⟨?_, ?_, by rw [e2, ec], by omega, f1_t f13 (by rw [h16]; exact f1_u _ (by decide))⟩, by decide⟩
    · rw [h16, uS_at, if_neg (by decide)]; exact e133
    · rw [h16, uS_at, if_neg (by decide)]; exact e134
  · rintro t ⟨e4, hf⟩ hc t13 h13 q t16 h16 q2
    rw [uS_at, if_neg (by decide), uS_at, if_neg (by decide), e1 t hf, e4] at hc
    have f13 : f1 s t13 := f1_t hf (by rw [h13]; exact f1_u _ (by decide))
    have e134 : t13 1 4 = (a : Int) := by rw [h13, uS_at, if_neg (by decide)]; exact e4
    have e133 : t13 1 3 = (a : Int) := by rw [h13, uS_at, if_pos rfl]; exact e4
    rw [uS_at, if_pos rfl, eT t13 f13, e134, tnc] at q
    rw [eT t13 f13, e134, tnc] at h16
    have e2 : t16 1 2 = T a := by rw [h16, uS_at, if_pos rfl]
    have f16 : f1 s t16 := f1_t f13 (by rw [h16]; exact f1_u _ (by decide))
    rw [e2] at q2
    have q' : ¬ T a < 97 := q
    refine ⟨⟨a, by omega, isL_i.2 (by omega), ?_, by rw [uS_at, if_pos rfl], ?_, by omega, rfl, f1_t f16 (f1_u _ (by decide))⟩, ?_⟩
    · rw [uS_at, if_neg (by decide), h16, uS_at, if_neg (by decide)]; exact e133
    · rw [uS_at, if_neg (by decide), h16, uS_at, if_neg (by decide)]; exact e134
    · show (900 - uS t16 1 2 257 1 4).toNat < 1500
      rw [uS_at, if_neg (by decide), h16, uS_at, if_neg (by decide), e134]; omega
  · rintro t ⟨kk, z1, z2, e3, e2, e4, hk, el, hf⟩ hc
    rw [e1 t hf, e4] at hc
    exact endL t kk z1 z2 e3 e2 e4 el (by omega) hf
  · rintro t ⟨kk, z1, z2, e3, e2, e4, hk, el, hf⟩ hc
    rw [e1 t hf, e4] at hc
    omega
  · rintro t ⟨kk, z1, z2, e3, e2, e4, hk, el, hf⟩ hc q
    rw [eT t hf, e4, tnc] at q
    exact endL t kk z1 z2 e3 e2 e4 el (fun w => by have := isL_i.1 w.2; have q' : T kk < 97 := q; omega) hf
  · rintro t ⟨kk, z1, z2, e3, e2, e4, hk, el, hf⟩ hc q
    rw [e1 t hf, e4] at hc
    omega
  · rintro t ⟨kk, z1, z2, e3, e2, e4, hk, el, hf⟩ hc q q2
    rw [eT t hf, e4, tnc] at q2
    exact endL t kk z1 z2 e3 e2 e4 el (fun w => by have := isL_i.1 w.2; have q' : 122 < T kk := q2; omega) hf
  · rintro t ⟨kk, z1, z2, e3, e2, e4, hk, el, hf⟩ hc q q2
    rw [e1 t hf, e4] at hc
    rw [eT t hf, e4, tnc] at q q2
    have q' : ¬ T kk < 97 := q
    have q2' : ¬ 122 < T kk := q2
    have : leT T n kk = leT T n (kk + 1) := by unfold leT; rw [rnT_e, if_pos ⟨by omega, isL_i.2 (by omega)⟩]
    rw [e4, w32_of (by omega)]
    refine ⟨⟨kk + 1, z1, z2, ?_, ?_, by rw [uS_at, if_pos rfl]; omega, by omega, by rw [← this]; exact el, f1_t hf (f1_u _ (by decide))⟩, ?_⟩
    · rw [uS_at, if_neg (by decide)]; exact e3
    · rw [uS_at, if_neg (by decide)]; exact e2
    · rw [uS_at, if_pos rfl]; omega
  · rintro t ⟨e3, e4, e2, z1, hf⟩ q
    rw [e2] at q
    exact ⟨⟨e3, e4, e2, z1, by omega, hf⟩, by decide⟩
  · rintro t ⟨e3, e4, e2, z1, hf⟩ q q2
    rw [e2] at q2
    exact ⟨⟨e3, e4, e2, z1, by omega, hf⟩, by decide⟩
  · rintro t ⟨e3, e4, e2, z1, hf⟩ q q2
    rw [e2] at q q2
    have hlt : ¬ n ≤ a := fun w => by
      have : c = -1 := if_pos w
      omega
    have ec : c = T a := if_neg hlt
    rw [ec] at q q2 z1
    refine ⟨⟨a, by omega, isD_i.2 (by omega), fun w => z1 (isL_i.1 w), ?_, ?_, ?_, by omega, rfl, ?_, f1_t hf (f1_t (f1_u _ (by decide)) (f1_u _ (by decide)))⟩, ?_⟩
    · rw [uS_at, if_neg (by decide), uS_at, if_neg (by decide)]; exact e3
    · rw [uS_at, if_neg (by decide), uS_at, if_pos rfl]
    · rw [uS_at, if_neg (by decide), uS_at, if_neg (by decide)]; exact e4
    · rw [uS_at, if_pos rfl, Nat.sub_self]; rfl
    · show (900 - uS (uS t 1 2 256) 1 5 0 1 4).toNat < 1400
      rw [uS_at, if_neg (by decide), uS_at, if_neg (by decide), e4]; omega
  · rintro t ⟨kk, z1, z2, z3, e3, e2, e4, hk, el, e5, hf⟩ hc
    rw [e1 t hf, e4] at hc
    exact endD t kk z1 z2 z3 e3 e2 e4 el e5 (by omega) hf
  · rintro t ⟨kk, z1, z2, z3, e3, e2, e4, hk, el, e5, hf⟩ hc
    rw [e1 t hf, e4] at hc
    omega
  · rintro t ⟨kk, z1, z2, z3, e3, e2, e4, hk, el, e5, hf⟩ hc q
    rw [eT t hf, e4, tnc] at q
    exact endD t kk z1 z2 z3 e3 e2 e4 el e5 (fun w => by have := isD_i.1 w.2; have q' : T kk < 48 := q; omega) hf
  · rintro t ⟨kk, z1, z2, z3, e3, e2, e4, hk, el, e5, hf⟩ hc q
    rw [e1 t hf, e4] at hc
    omega
  · rintro t ⟨kk, z1, z2, z3, e3, e2, e4, hk, el, e5, hf⟩ hc q q2
    rw [eT t hf, e4, tnc] at q2
    exact endD t kk z1 z2 z3 e3 e2 e4 el e5 (fun w => by have := isD_i.1 w.2; have q' : 57 < T kk := q2; omega) hf
  · rintro t ⟨kk, z1, z2, z3, e3, e2, e4, hk, el, e5, hf⟩ hc q q2
    rw [e1 t hf, e4] at hc
    omega
  · rintro t ⟨kk, z1, z2, z3, e3, e2, e4, hk, el, e5, hf⟩ hc q q2
    rw [e1 t hf, e4] at hc
    rw [eT t hf, e4, tnc] at q q2 ⊢
    have q' : ¬ T kk < 48 := q
    have q2' : ¬ 57 < T kk := q2
    have : deT T n kk = deT T n (kk + 1) := by unfold deT; rw [rnT_e, if_pos ⟨by omega, isD_i.2 (by omega)⟩]
    rw [uS_at, if_neg (by decide), e4, w32_of (x := (kk : Int) + 1) (by omega), e5]
    refine ⟨⟨kk + 1, z1, z2, z3, ?_, ?_, by rw [uS_at, if_pos rfl]; omega, by omega, by rw [← this]; exact el, ?_, f1_t hf (f1_t (f1_u _ (by decide)) (f1_u _ (by decide)))⟩, ?_⟩
    · rw [uS_at, if_neg (by decide), uS_at, if_neg (by decide)]; exact e3
    · rw [uS_at, if_neg (by decide), uS_at, if_neg (by decide)]; exact e2
    · rw [uS_at, if_neg (by decide), uS_at, if_pos rfl, show kk + 1 - a = (kk - a) + 1 by omega, nv, show a + (kk - a) = kk by omega]
    · rw [uS_at, if_pos rfl]; omega
  · rintro t ⟨e3, e4, e2, z1, z2, hf⟩ q
    rw [e2] at q
    have hge : n ≤ a := by
      apply Nat.not_lt.1
      intro w
      have : c = T a := if_neg (by omega)
      have := hT a
      omega
    have q1 : tkK T n a = -1 := by unfold tkK; rw [if_pos hge]
    have q2 : tkP T n a = a := by unfold tkP; rw [if_pos hge]
    exact K1 t ⟨e3, by rw [q1, e2]; exact q, by rw [q2]; exact e4, fun w => by rw [q1] at w; exact absurd w (by decide)⟩ hf
  · rintro t ⟨e3, e4, e2, z1, z2, hf⟩ q hc t38 h38
    rw [uS_at, if_neg (by decide), uS_at, if_pos rfl, e1 t hf, e4, w32_of (by omega)] at hc
    rw [e4, w32_of (by omega)] at h38
    have hlt : ¬ n ≤ a := fun w => by
      have : c = -1 := if_pos w
      omega
    have ec : c = T a := if_neg hlt
    rw [ec] at z1 z2
    refine endO t38 (by omega) (fun w => z1 (isL_i.1 w)) (fun w => z2 (isD_i.1 w)) (fun w => by have := w.1.1; omega) ?_ ?_ ?_ (f1_t hf (by rw [h38]; exact f1_u _ (by decide)))
    · rw [h38, uS_at, if_neg (by decide)]; exact e3
    · rw [h38, uS_at, if_pos rfl]; omega
    · rw [h38, uS_at, if_neg (by decide), e2]; exact ec
  · rintro t ⟨e3, e4, e2, z1, z2, hf⟩ q hc t40 h40
    rw [uS_at, if_neg (by decide), uS_at, if_pos rfl, e1 t hf, e4, w32_of (by omega)] at hc
    rw [e4, w32_of (by omega)] at h40
    rw [h40, uS_at, if_pos rfl]; omega
  · rintro t ⟨e3, e4, e2, z1, z2, hf⟩ q hc t40 h40 q2
    rw [uS_at, if_neg (by decide), uS_at, if_pos rfl, e1 t hf, e4, w32_of (by omega)] at hc
    rw [e4, w32_of (by omega)] at h40
    have f40 : f1 s t40 := f1_t hf (by rw [h40]; exact f1_u _ (by decide))
    have e44 : t40 1 4 = ((a + 1 : Nat) : Int) := by rw [h40, uS_at, if_pos rfl]; omega
    rw [eT t40 f40, e44, tnc] at q2
    have ec : c = T a := if_neg (by omega)
    rw [ec] at z1 z2
    refine endO t40 (by omega) (fun w => z1 (isL_i.1 w)) (fun w => z2 (isD_i.1 w)) (fun w => q2 w.1.2) ?_ e44 ?_ f40
    · rw [h40, uS_at, if_neg (by decide)]; exact e3
    · rw [h40, uS_at, if_neg (by decide), e2]; exact ec
  · rintro t ⟨e3, e4, e2, z1, z2, hf⟩ q hc t40 h40 q2
    rw [uS_at, if_neg (by decide), uS_at, if_pos rfl, e1 t hf, e4, w32_of (by omega)] at hc
    rw [e4, w32_of (by omega)] at h40
    have f40 : f1 s t40 := f1_t hf (by rw [h40]; exact f1_u _ (by decide))
    have e44 : t40 1 4 = ((a + 1 : Nat) : Int) := by rw [h40, uS_at, if_pos rfl]; omega
    rw [eT t40 f40, e44, tnc] at q2
    have ec : c = T a := if_neg (by omega)
    rw [ec] at z1 z2
    refine ⟨⟨?_, e44, ?_, by omega, q2, fun w => z1 (isL_i.1 w), fun w => z2 (isD_i.1 w), f40⟩, by decide⟩
    · rw [h40, uS_at, if_neg (by decide)]; exact e3
    · rw [h40, uS_at, if_neg (by decide), e2]; exact ec
  · rintro _ t ⟨e3, e4, e2, z1, z2, z3, z4, hf⟩ q q2
    exact absurd q q2
  · rintro _ t ⟨e3, e4, e2, z1, z2, z3, z4, hf⟩ q _ t47 h47
    rw [e2] at q
    rw [uS_at, if_neg (by decide), e4, w32_of (by omega)] at h47
    have k1 : tkK T n a = 258 := by unfold tkK; rw [if_neg (by omega), if_neg z3, if_neg z4, if_pos ⟨⟨z1, z2⟩, q⟩]
    have k2 : tkP T n a = a + 2 := by unfold tkP; rw [if_neg (by omega), if_neg z3, if_neg z4, if_pos ⟨⟨z1, z2⟩, q⟩]
    refine K1 t47 ⟨?_, ?_, ?_, fun w => by rw [k1] at w; exact absurd w (by decide)⟩ (f1_t hf (by rw [h47]; exact f1_t (f1_u _ (by decide)) (f1_u _ (by decide))))
    · rw [h47, uS_at, if_neg (by decide), uS_at, if_neg (by decide)]; exact e3
    · rw [h47, uS_at, if_neg (by decide), uS_at, if_pos rfl, k1]
    · rw [h47, uS_at, if_pos rfl, k2]; omega
  · rintro _ t ⟨e3, e4, e2, z1, z2, z3, z4, hf⟩ q q2
    rw [e2] at q q2
    exact endO t (by omega) z3 z4 (fun w => w.2.elim q q2) e3 e4 e2 hf
  · rintro _ t ⟨e3, e4, e2, z1, z2, z3, z4, hf⟩ q q2 _ t52 h52
    rw [e2] at q q2
    rw [uS_at, if_neg (by decide), e4, w32_of (by omega)] at h52
    have k1 : tkK T n a = 259 := by unfold tkK; rw [if_neg (by omega), if_neg z3, if_neg z4, if_neg (fun w => q w.2), if_pos ⟨⟨z1, z2⟩, q2⟩]
    have k2 : tkP T n a = a + 2 := by unfold tkP; rw [if_neg (by omega), if_neg z3, if_neg z4, if_neg (fun w => q w.2), if_pos ⟨⟨z1, z2⟩, q2⟩]
    refine K1 t52 ⟨?_, ?_, ?_, fun w => by rw [k1] at w; exact absurd w (by decide)⟩ (f1_t hf (by rw [h52]; exact f1_t (f1_u _ (by decide)) (f1_u _ (by decide))))
    · rw [h52, uS_at, if_neg (by decide), uS_at, if_neg (by decide)]; exact e3
    · rw [h52, uS_at, if_neg (by decide), uS_at, if_pos rfl, k1]
    · rw [h52, uS_at, if_pos rfl, k2]; omega
  · rintro _ t ⟨e3, e4, e2, z1, z2, z3, z4, hf⟩ q q2 q3
    exact absurd q3 q
  · have : sk T n (s 1 4).toNat = a := rfl
    exact ⟨(s 1 4).toNat, by omega, by show (s 1 4).toNat ≤ (s 1 1).toNat; omega, rfl, ⟨fun _ _ => rfl, fun _ _ => rfl⟩⟩
