/-! notes -/
def noC (a : Rw) (x y z : Int) : Prop := a 0 = 1 ∧ (0 ≤ x ∧ x ≤ 9) ∧ (0 ≤ y ∧ y < 30) ∧ (0 ≤ z ∧ z ≤ 9) ∧ a 165 < 10
def noR (a : Rw) (x y z : Int) : Rw := up (up (up (up a (135 + 3 * (a 165).toNat) x) (135 + 3 * (a 165).toNat + 1) y) (135 + 3 * (a 165).toNat + 2) z) 165 (a 165 + 1)
theorem v293 {X : (Nat → Int) × Nat} {d : Nat} {s : mSt} {Q : mQ} {x1 : Int} {x2 : Int} {x3 : Int}
  (z1 : ¬ x1 = (-1) → s 417 0 = 1 → (0 ≤ x1 ∧ x1 ≤ 9) → (0 ≤ x2 ∧ x2 ≤ 29) → (0 ≤ x3 ∧ x3 ≤ 9) → ¬ (s 417 165) = 10 → 0 ≤ (w32 (135 + (w32 (3 * (s 417 165))))) ∧ (w32 (135 + (w32 (3 * (s 417 165))))) < 166)
  (z2 : ¬ x1 = (-1) → s 417 0 = 1 → (0 ≤ x1 ∧ x1 ≤ 9) → (0 ≤ x2 ∧ x2 ≤ 29) → (0 ≤ x3 ∧ x3 ≤ 9) → ¬ (s 417 165) = 10 → 0 ≤ (w32 ((w32 (135 + (w32 (3 * (s 417 165))))) + 1)) ∧ (w32 ((w32 (135 + (w32 (3 * (s 417 165))))) + 1)) < 166)
  (z3 : ¬ x1 = (-1) → s 417 0 = 1 → (0 ≤ x1 ∧ x1 ≤ 9) → (0 ≤ x2 ∧ x2 ≤ 29) → (0 ≤ x3 ∧ x3 ≤ 9) → ¬ (s 417 165) = 10 → 0 ≤ (w32 ((w32 (135 + (w32 (3 * (s 417 165))))) + 2)) ∧ (w32 ((w32 (135 + (w32 (3 * (s 417 165))))) + 2)) < 166)
  (z4 : ¬ x1 = (-1) → s 417 0 = 1 → (0 ≤ x1 ∧ x1 ≤ 9) → (0 ≤ x2 ∧ x2 ≤ 29) → (0 ≤ x3 ∧ x3 ≤ 9) → ¬ (s 417 165) = 10 → Q (some (mI ((uS (uS (uS (uS s 417 ((w32 (135 + (w32 (3 * (s 417 165))))).toNat) x1) 417 ((w32 ((w32 (135 + (w32 (3 * (s 417 165))))) + 1)).toNat) x2) 417 ((w32 ((w32 (135 + (w32 (3 * (s 417 165))))) + 2)).toNat) x3) 417 165 (w32 (((uS (uS (uS s 417 ((w32 (135 + (w32 (3 * (s 417 165))))).toNat) x1) 417 ((w32 ((w32 (135 + (w32 (3 * (s 417 165))))) + 1)).toNat) x2) 417 ((w32 ((w32 (135 + (w32 (3 * (s 417 165))))) + 2)).toNat) x3) 417 165) + 1))) 417 165))) (uS (uS (uS (uS s 417 ((w32 (135 + (w32 (3 * (s 417 165))))).toNat) x1) 417 ((w32 ((w32 (135 + (w32 (3 * (s 417 165))))) + 1)).toNat) x2) 417 ((w32 ((w32 (135 + (w32 (3 * (s 417 165))))) + 2)).toNat) x3) 417 165 (w32 (((uS (uS (uS s 417 ((w32 (135 + (w32 (3 * (s 417 165))))).toNat) x1) 417 ((w32 ((w32 (135 + (w32 (3 * (s 417 165))))) + 1)).toNat) x2) 417 ((w32 ((w32 (135 + (w32 (3 * (s 417 165))))) + 2)).toNat) x3) 417 165) + 1))))
  (z5 : ¬ x1 = (-1) → s 417 0 = 1 → (0 ≤ x1 ∧ x1 ≤ 9) → (0 ≤ x2 ∧ x2 ≤ 29) → (0 ≤ x3 ∧ x3 ≤ 9) → (s 417 165) = 10 → Q (some (mI (-2))) s)
  (z6 : ¬ x1 = (-1) → s 417 0 = 1 → (0 ≤ x1 ∧ x1 ≤ 9) → (0 ≤ x2 ∧ x2 ≤ 29) → (¬ (0 ≤ x3 ∧ x3 ≤ 9)) → Q (some (mI (-2))) s)
  (z7 : ¬ x1 = (-1) → s 417 0 = 1 → (0 ≤ x1 ∧ x1 ≤ 9) → (¬ (0 ≤ x2 ∧ x2 ≤ 29)) → Q (some (mI (-2))) s)
  (z8 : ¬ x1 = (-1) → s 417 0 = 1 → (¬ (0 ≤ x1 ∧ x1 ≤ 9)) → Q (some (mI (-2))) s)
  (z9 : ¬ x1 = (-1) → ¬ (s 417 0 = 1) → Q (some (mI (-2))) s)
  (z10 : x1 = (-1) → Q (some (mI 0)) (uS s 417 165 0)) :
  Sp X (d + 1) 293 [mR 407, mI x1, mI x2, mI x3] s Q := e293 (b293_0 (fun q1 => b293_16 (c212  (fun q2 => ⟨1, rfl, b293_20 (fun q => absurd q (by decide)) (fun _ => b293_23 (c167  (fun q3 => ⟨1, rfl, b293_32 (fun q => absurd q (by decide)) (fun _ => b293_35 (c167  (fun q4 => ⟨1, rfl, b293_44 (fun q => absurd q (by decide)) (fun _ => b293_47 (c167  (fun q5 => ⟨1, rfl, b293_56 (fun q => absurd q (by decide)) (fun _ => b293_59 (fun q6 => b293_75 (z1 q1 q2 q3 q4 q5 q6) (z2 q1 q2 q3 q4 q5 q6) (z3 q1 q2 q3 q4 q5 q6) (z4 q1 q2 q3 q4 q5 q6)) (fun q7 => b293_72 (z5 q1 q2 q3 q4 q5 q7)))⟩) (fun q8 => ⟨0, rfl, b293_56 (fun _ => b293_72 (z6 q1 q2 q3 q4 q8)) (fun q => absurd q (by decide))⟩)))⟩) (fun q9 => ⟨0, rfl, b293_44 (fun _ => b293_72 (z7 q1 q2 q3 q9)) (fun q => absurd q (by decide))⟩)))⟩) (fun q10 => ⟨0, rfl, b293_32 (fun _ => b293_72 (z8 q1 q2 q10)) (fun q => absurd q (by decide))⟩)))⟩) (fun q11 => ⟨0, rfl, b293_20 (fun _ => b293_72 (z9 q1 q11)) (fun q => absurd q (by decide))⟩))) (fun q12 => b293_5 (z10 q12)))

theorem c293 {X : (Nat → Int) × Nat} {d : Nat} {s : mSt} {Q : mQ} {x1 : Int} {x2 : Int} {x3 : Int} (p1 : Ok (s 417)) (k : ∀ (v : Int) (t : mSt), (YN (x1 = -1) (v = 0 ∧ t = uS s 417 165 0) (YN (noC (s 417) x1 x2 x3) (v = s 417 165 + 1 ∧ t 417 = noR (s 417) x1 x2 x3 ∧ ∀ b, b ≠ 417 → t b = s b) (v = -2 ∧ t = s))) → Q (some (mI v)) t) : Sp X (d + 1) 293 [mR 407, mI x1, mI x2, mI x3] s Q := by
  have hN := okNM p1
  let n := (s 417 165).toNat
  have i1 : ¬ s 417 165 = 10 → w32 (135 + w32 (3 * s 417 165)) = ((135 + 3 * (s 417 165).toNat : Nat) : Int) := fun q => by
    rw [w32_of (x := 3 * s 417 165) (by omega), w32_of (by omega)]; omega
  have up7 : ∀ (q : mSt) (i : Nat) (x : Int), uS q 417 i x 417 = up (q 417) i x := fun q i x => by funext j; rw [uS_at]; rfl
  have no : ∀ g : ¬ x1 = -1, ¬ noC (s 417) x1 x2 x3 → Q (some (mI (-2))) s := fun g g' => k _ s (YN_n g (YN_n g' ⟨rfl, rfl⟩))
  refine v293 (fun g0 g1 g2 g3 g4 q => ?_) (fun g0 g1 g2 g3 g4 q => ?_) (fun g0 g1 g2 g3 g4 q => ?_) (fun g0 g1 g2 g3 g4 q => ?_) (fun g0 g1 g2 g3 g4 q => no g0 (fun z => by have := z.2.2.2.2; omega)) (fun g0 g1 g2 g3 g4 => no g0 (fun z => g4 z.2.2.2.1)) (fun g0 g1 g2 g3 => no g0 (fun z => by have := z.2.2.1; omega)) (fun g0 g1 g2 => no g0 (fun z => g2 z.2.1)) (fun g0 g1 => no g0 (fun z => g1 z.1)) (fun g0 => k _ _ (YN_y g0 ⟨rfl, rfl⟩))
  · rw [i1 q]; omega
  · rw [i1 q, w32_of (by omega)]; omega
  · rw [i1 q, w32_of (by omega)]; omega
  · rw [i1 q]
    rw [wt (x := ((135 + 3 * (s 417 165).toNat : Nat) : Int) + 1) (n := 135 + 3 * (s 417 165).toNat + 1) (by omega) (by omega), wt (x := ((135 + 3 * (s 417 165).toNat : Nat) : Int) + 2) (n := 135 + 3 * (s 417 165).toNat + 2) (by omega) (by omega), tnc]
    have e165 : (uS (uS (uS s 417 (135 + 3 * (s 417 165).toNat) x1) 417 (135 + 3 * (s 417 165).toNat + 1) x2) 417 (135 + 3 * (s 417 165).toNat + 2) x3) 417 165 = s 417 165 := by
      rw [up7, up_ne (by omega), up7, up_ne (by omega), up7, up_ne (by omega)]
    rw [e165, w32_of (by omega)]
    refine k _ _ (YN_n g0 (YN_y ⟨g1, g2, by omega, g4, by omega⟩ ⟨?_, ?_, fun b hb => ?_⟩))
    · rw [uS_at, if_pos rfl]
    · rw [up7, up7, up7, up7]; rfl
    · rw [uS_cell hb, uS_cell hb, uS_cell hb, uS_cell hb]
theorem v55 {X : (Nat → Int) × Nat} {d : Nat} {s : mSt} {Q : mQ} {a0 : Nat} {x1 : Int} {x2 : Int} {x3 : Int} (h0 : isNt a0)
  (z1 : 10 ≤ s a0 0 → Q none s)
  (z2 : ¬ (10 ≤ s a0 0) → 0 ≤ (s a0 0) ∧ (s a0 0) < 10)
  (z3 : ¬ (10 ≤ s a0 0) → 0 ≤ ((uS s (a0 + 1) ((s a0 0).toNat) x1) a0 0) ∧ ((uS s (a0 + 1) ((s a0 0).toNat) x1) a0 0) < 10)
  (z4 : ¬ (10 ≤ s a0 0) → 0 ≤ ((uS (uS s (a0 + 1) ((s a0 0).toNat) x1) (a0 + 2) (((uS s (a0 + 1) ((s a0 0).toNat) x1) a0 0).toNat) x2) a0 0) ∧ ((uS (uS s (a0 + 1) ((s a0 0).toNat) x1) (a0 + 2) (((uS s (a0 + 1) ((s a0 0).toNat) x1) a0 0).toNat) x2) a0 0) < 10)
  (z5 : ¬ (10 ≤ s a0 0) → Q none (uS (uS (uS (uS s (a0 + 1) ((s a0 0).toNat) x1) (a0 + 2) (((uS s (a0 + 1) ((s a0 0).toNat) x1) a0 0).toNat) x2) (a0 + 3) (((uS (uS s (a0 + 1) ((s a0 0).toNat) x1) (a0 + 2) (((uS s (a0 + 1) ((s a0 0).toNat) x1) a0 0).toNat) x2) a0 0).toNat) x3) a0 0 (w32 (((uS (uS (uS s (a0 + 1) ((s a0 0).toNat) x1) (a0 + 2) (((uS s (a0 + 1) ((s a0 0).toNat) x1) a0 0).toNat) x2) (a0 + 3) (((uS (uS s (a0 + 1) ((s a0 0).toNat) x1) (a0 + 2) (((uS s (a0 + 1) ((s a0 0).toNat) x1) a0 0).toNat) x2) a0 0).toNat) x3) a0 0) + 1)))) :
  Sp X (d + 1) 55 [mR a0, mI x1, mI x2, mI x3] s Q := e55 (b55_0 h0 (c54 h0 (fun q1 => ⟨1, rfl, b55_4 h0 (fun _ => b55_47 h0 (z1 q1)) (fun q => absurd q (by decide))⟩) (fun q2 => ⟨0, rfl, b55_4 h0 (fun q => absurd q (by decide)) (fun _ => b55_7 h0 (z2 q2) (z3 q2) (z4 q2) (b55_47 h0 (z5 q2)))⟩)))

theorem c55 {X : (Nat → Int) × Nat} {d : Nat} {s : mSt} {Q : mQ} {a0 : Nat} {x1 : Int} {x2 : Int} {x3 : Int} (h0 : isNt a0) (p1 : 0 ≤ s a0 0 ∧ s a0 0 < 10) (k : ∀ t : mSt, (t a0 = up (s a0) 0 (s a0 0 + 1) ∧ t (a0 + 1) = up (s (a0 + 1)) (s a0 0).toNat x1 ∧ t (a0 + 2) = up (s (a0 + 2)) (s a0 0).toNat x2 ∧ t (a0 + 3) = up (s (a0 + 3)) (s a0 0).toNat x3 ∧ ∀ b, ¬ (a0 ≤ b ∧ b ≤ a0 + 3) → t b = s b) → Q none t) : Sp X (d + 1) 55 [mR a0, mI x1, mI x2, mI x3] s Q := by
  have c1 : ∀ (q : mSt) (i : Nat) (x : Int), uS q (a0 + 1) i x a0 = q a0 := fun q i x => uS_cell (by omega)
  have c2 : ∀ (q : mSt) (i : Nat) (x : Int), uS q (a0 + 2) i x a0 = q a0 := fun q i x => uS_cell (by omega)
  have c3 : ∀ (q : mSt) (i : Nat) (x : Int), uS q (a0 + 3) i x a0 = q a0 := fun q i x => uS_cell (by omega)
  have upk : ∀ (q : mSt) (b i : Nat) (x : Int), uS q b i x b = up (q b) i x := fun q b i x => by funext j; rw [uS_at]; rfl
  refine v55 h0 (fun q => by omega) (fun q => p1) (fun q => by rw [c1]; exact p1) (fun q => by rw [c2, c1]; exact p1) (fun q => ?_)
  simp only [c1, c2, c3]
  rw [w32_of (by omega)]
  refine k _ ⟨?_, ?_, ?_, ?_, fun b hb => ?_⟩
  · rw [upk, c3, c2, c1]
  · rw [uS_cell (by omega), uS_cell (by omega), uS_cell (by omega), upk]
  · rw [uS_cell (by omega), uS_cell (by omega), upk, uS_cell (by omega)]
  · rw [uS_cell (by omega), upk, uS_cell (by omega), uS_cell (by omega)]
  · rw [uS_cell (by omega), uS_cell (by omega), uS_cell (by omega), uS_cell (by omega)]
def APq (s t : mSt) (k : Nat) (x y z : Int) : Prop := t k = up (s k) 0 (s k 0 + 1) ∧ t (k + 1) = up (s (k + 1)) (s k 0).toNat x ∧ t (k + 2) = up (s (k + 2)) (s k 0).toNat y ∧ t (k + 3) = up (s (k + 3)) (s k 0).toNat z ∧ ∀ b, ¬ (k ≤ b ∧ b ≤ k + 3) → t b = s b
theorem v155 {X : (Nat → Int) × Nat} {d : Nat} {s : mSt} {Q : mQ} {x1 : Int} {x2 : Int} {x3 : Int}
  (z1 : ¬ x1 = (-1) → x1 < 0 → 0 < s 18 0 → Q (some (mI (-2))) s)
  (z2 : ¬ x1 = (-1) → x1 < 0 → ¬ (0 < s 18 0) → Q (some (mI (-2))) s)
  (z3 : ¬ x1 = (-1) → ¬ x1 < 0 → 9 < x1 → 0 < s 18 0 → Q (some (mI (-2))) s)
  (z4 : ¬ x1 = (-1) → ¬ x1 < 0 → 9 < x1 → ¬ (0 < s 18 0) → Q (some (mI (-2))) s)
  (z5 : ¬ x1 = (-1) → ¬ x1 < 0 → ¬ 9 < x1 → (0 ≤ x2 ∧ x2 < 30) → x3 < 0 → 0 < s 18 0 → Q (some (mI (-2))) s)
  (z6 : ¬ x1 = (-1) → ¬ x1 < 0 → ¬ 9 < x1 → (0 ≤ x2 ∧ x2 < 30) → x3 < 0 → ¬ (0 < s 18 0) → Q (some (mI (-2))) s)
  (z7 : ¬ x1 = (-1) → ¬ x1 < 0 → ¬ 9 < x1 → (0 ≤ x2 ∧ x2 < 30) → ¬ x3 < 0 → 9 < x3 → 0 < s 18 0 → Q (some (mI (-2))) s)
  (z8 : ¬ x1 = (-1) → ¬ x1 < 0 → ¬ 9 < x1 → (0 ≤ x2 ∧ x2 < 30) → ¬ x3 < 0 → 9 < x3 → ¬ (0 < s 18 0) → Q (some (mI (-2))) s)
  (z9 : ¬ x1 = (-1) → ¬ x1 < 0 → ¬ 9 < x1 → (0 ≤ x2 ∧ x2 < 30) → ¬ x3 < 0 → ¬ 9 < x3 → 0 < s 18 0 → 10 ≤ s 28 0 → Q (some (mI (-2))) s)
  (z10 : ¬ x1 = (-1) → ¬ x1 < 0 → ¬ 9 < x1 → (0 ≤ x2 ∧ x2 < 30) → ¬ x3 < 0 → ¬ 9 < x3 → 0 < s 18 0 → ¬ (10 ≤ s 28 0) → 0 ≤ s 28 0 ∧ s 28 0 < 10)
  (z11 : ¬ x1 = (-1) → ¬ x1 < 0 → ¬ 9 < x1 → (0 ≤ x2 ∧ x2 < 30) → ¬ x3 < 0 → ¬ 9 < x3 → 0 < s 18 0 → ¬ (10 ≤ s 28 0) → ∀ s22 : mSt, (s22 28 = up (s 28) 0 (s 28 0 + 1) ∧ s22 (28 + 1) = up (s (28 + 1)) (s 28 0).toNat x1 ∧ s22 (28 + 2) = up (s (28 + 2)) (s 28 0).toNat x2 ∧ s22 (28 + 3) = up (s (28 + 3)) (s 28 0).toNat x3 ∧ ∀ b, ¬ (28 ≤ b ∧ b ≤ 28 + 3) → s22 b = s b) → Q (some (mI (s22 28 0))) s22)
  (z12 : ¬ x1 = (-1) → ¬ x1 < 0 → ¬ 9 < x1 → (0 ≤ x2 ∧ x2 < 30) → ¬ x3 < 0 → ¬ 9 < x3 → ¬ (0 < s 18 0) → Q (some (mI (-2))) s)
  (z13 : ¬ x1 = (-1) → ¬ x1 < 0 → ¬ 9 < x1 → (¬ (0 ≤ x2 ∧ x2 < 30)) → 0 < s 18 0 → Q (some (mI (-2))) s)
  (z14 : ¬ x1 = (-1) → ¬ x1 < 0 → ¬ 9 < x1 → (¬ (0 ≤ x2 ∧ x2 < 30)) → ¬ (0 < s 18 0) → Q (some (mI (-2))) s)
  (z15 : x1 = (-1) → Q (some (mI 0)) (uS s 28 0 0)) :
  Sp X (d + 2) 155 [mR 0, mI x1, mI x2, mI x3] s Q := e155 (b155_0 (fun q1 => b155_22 (fun q2 => b155_53 (b155_54 (c6 (bdm rfl) (fun q3 => ⟨1, rfl, b155_66 (fun q => absurd q (by decide)) (fun _ => b155_69 (fun _ => b155_82 (z1 q1 q2 q3)) (fun q => absurd q (by decide)))⟩) (fun q4 => ⟨0, rfl, b155_66 (fun _ => b155_82 (z2 q1 q2 q4)) (fun q => absurd q (by decide))⟩)))) (fun q5 => b155_26 (fun q6 => b155_53 (b155_54 (c6 (bdm rfl) (fun q7 => ⟨1, rfl, b155_66 (fun q => absurd q (by decide)) (fun _ => b155_69 (fun _ => b155_82 (z3 q1 q5 q6 q7)) (fun q => absurd q (by decide)))⟩) (fun q8 => ⟨0, rfl, b155_66 (fun _ => b155_82 (z4 q1 q5 q6 q8)) (fun q => absurd q (by decide))⟩)))) (fun q9 => b155_32 (c163  (fun q10 => ⟨1, rfl, b155_36 (fun q => absurd q (by decide)) (fun _ => b155_39 (fun q11 => b155_53 (b155_54 (c6 (bdm rfl) (fun q12 => ⟨1, rfl, b155_66 (fun q => absurd q (by decide)) (fun _ => b155_69 (fun _ => b155_82 (z5 q1 q5 q9 q10 q11 q12)) (fun q => absurd q (by decide)))⟩) (fun q13 => ⟨0, rfl, b155_66 (fun _ => b155_82 (z6 q1 q5 q9 q10 q11 q13)) (fun q => absurd q (by decide))⟩)))) (fun q14 => b155_43 (fun q15 => b155_53 (b155_54 (c6 (bdm rfl) (fun q16 => ⟨1, rfl, b155_66 (fun q => absurd q (by decide)) (fun _ => b155_69 (fun _ => b155_82 (z7 q1 q5 q9 q10 q14 q15 q16)) (fun q => absurd q (by decide)))⟩) (fun q17 => ⟨0, rfl, b155_66 (fun _ => b155_82 (z8 q1 q5 q9 q10 q14 q15 q17)) (fun q => absurd q (by decide))⟩)))) (fun q18 => b155_49 (b155_54 (c6 (bdm rfl) (fun q19 => ⟨1, rfl, b155_66 (fun q => absurd q (by decide)) (fun _ => b155_69 (fun q => absurd q (by decide)) (fun _ => b155_74 (c54 (ntm rfl) (fun q20 => ⟨1, rfl, b155_79 (fun q => absurd q (by decide)) (fun _ => b155_82 (z9 q1 q5 q9 q10 q14 q18 q19 q20))⟩) (fun q21 => ⟨0, rfl, b155_79 (fun _ => b155_85 (c55 (ntm rfl) (z10 q1 q5 q9 q10 q14 q18 q19 q21) (fun s22 q22 => ⟨rfl, b155_93 (z11 q1 q5 q9 q10 q14 q18 q19 q21 s22 q22)⟩))) (fun q => absurd q (by decide))⟩))))⟩) (fun q23 => ⟨0, rfl, b155_66 (fun _ => b155_82 (z12 q1 q5 q9 q10 q14 q18 q23)) (fun q => absurd q (by decide))⟩))))))⟩) (fun q24 => ⟨0, rfl, b155_36 (fun _ => b155_53 (b155_54 (c6 (bdm rfl) (fun q25 => ⟨1, rfl, b155_66 (fun q => absurd q (by decide)) (fun _ => b155_69 (fun _ => b155_82 (z13 q1 q5 q9 q24 q25)) (fun q => absurd q (by decide)))⟩) (fun q26 => ⟨0, rfl, b155_66 (fun _ => b155_82 (z14 q1 q5 q9 q24 q26)) (fun q => absurd q (by decide))⟩)))) (fun q => absurd q (by decide))⟩))))) (fun q27 => b155_14 (z15 q27)))

theorem c155 {X : (Nat → Int) × Nat} {d : Nat} {s : mSt} {Q : mQ} {x1 : Int} {x2 : Int} {x3 : Int} (p1 : BI s 18 ∧ 0 ≤ s 28 0) (k : ∀ (v : Int) (t : mSt), (YN (x1 = -1) (v = 0 ∧ t = uS s 28 0 0) (YN (brow s 18 0 = 1 ∧ (0 ≤ x1 ∧ x1 ≤ 9) ∧ (0 ≤ x2 ∧ x2 < 30) ∧ (0 ≤ x3 ∧ x3 ≤ 9) ∧ s 28 0 < 10) (v = s 28 0 + 1 ∧ APq s t 28 x1 x2 x3) (v = -2 ∧ t = s))) → Q (some (mI v)) t) : Sp X (d + 2) 155 [mR 0, mI x1, mI x2, mI x3] s Q := by
  obtain ⟨hB, hN⟩ := p1
  have b0 := hB.2.2.2.2.1
  have e0 := brw_0 (s := s) (k := 18)
  have d0 : ¬ (0 < s 18 0) → ¬ brow s 18 0 = 1 := fun g => by rw [if_pos (by omega)] at e0; omega
  have d1 : 0 < s 18 0 → brow s 18 0 = 1 := fun g => by rw [if_neg (by omega)] at e0; exact e0
  have no : ∀ g : ¬ x1 = -1, ¬ (brow s 18 0 = 1 ∧ (0 ≤ x1 ∧ x1 ≤ 9) ∧ (0 ≤ x2 ∧ x2 < 30) ∧ (0 ≤ x3 ∧ x3 ≤ 9) ∧ s 28 0 < 10) → Q (some (mI (-2))) s := fun g g' => k _ s (YN_n g (YN_n g' ⟨rfl, rfl⟩))
  refine v155 (fun g0 g1 _ => no g0 (by omega)) (fun g0 g1 _ => no g0 (by omega)) (fun g0 g1 g2 _ => no g0 (by omega)) (fun g0 g1 g2 _ => no g0 (by omega)) (fun g0 g1 g2 g3 g4 _ => no g0 (by omega)) (fun g0 g1 g2 g3 g4 _ => no g0 (by omega)) (fun g0 g1 g2 g3 g4 g5 _ => no g0 (by omega)) (fun g0 g1 g2 g3 g4 g5 _ => no g0 (by omega)) (fun g0 g1 g2 g3 g4 g5 g6 g7 => no g0 (by omega)) (fun g0 g1 g2 g3 g4 g5 g6 g7 => by omega) (fun g0 g1 g2 g3 g4 g5 g6 g7 t ht => ?_) (fun g0 g1 g2 g3 g4 g5 g6 => no g0 (fun z => d0 g6 z.1)) (fun g0 g1 g2 g3 _ => no g0 (fun z => g3 z.2.2.1)) (fun g0 g1 g2 g3 _ => no g0 (fun z => g3 z.2.2.1)) (fun g0 => k _ _ (YN_y g0 ⟨rfl, rfl⟩))
  have e : t 28 0 = s 28 0 + 1 := by rw [ht.1]; exact up_at _ _ _
  rw [e]
  exact k _ t (YN_n g0 (YN_y ⟨d1 g6, by omega, g3, by omega, by omega⟩ ⟨rfl, ht⟩))
/-- do the notes of a turn agree with a row -/
def ntB (T S F : Nat → Int) (a : Rw) (x : Int) (i : Nat) : Bool := decide (T i = x) && !decide (fre a (S i).toNat = F i)
theorem ntB_iff {T S F : Nat → Int} {a : Rw} {x : Int} {i : Nat} : ntB T S F a x i = true ↔ T i = x ∧ ¬ fre a (S i).toNat = F i := by unfold ntB; simp
def NSq (s : mSt) (k : Nat) : Prop := (0 ≤ s k 0 ∧ s k 0 ≤ 10) ∧ ∀ i, i < (s k 0).toNat → 0 ≤ s (k + 2) i ∧ s (k + 2) i < 30
theorem v57 {X : (Nat → Int) × Nat} {d : Nat} {s : mSt} {Q : mQ} {a0 : Nat} {a1 : Nat} {x2 : Int} (h0 : isNt a0) (h1 : isBd a1)
  (I2 : Int → Prop) (m2 : Int → Nat)
  (z1 : ∀ y3 : Int, I2 y3 → (s a0 0) ≤ y3 → Q (some (mI 1)) s)
  (z2 : ∀ y3 : Int, I2 y3 → ¬ (s a0 0) ≤ y3 → 0 ≤ y3 ∧ y3 < 10)
  (z3 : ∀ y3 : Int, I2 y3 → ¬ (s a0 0) ≤ y3 → ¬ (s (a0 + 1) y3.toNat) = x2 → I2 (w32 (y3 + 1)) ∧ m2 (w32 (y3 + 1)) < m2 y3)
  (z4 : ∀ y3 : Int, I2 y3 → ¬ (s a0 0) ≤ y3 → (s (a0 + 1) y3.toNat) = x2 → 0 ≤ y3 ∧ y3 < 10)
  (z5 : ∀ y3 : Int, I2 y3 → ¬ (s a0 0) ≤ y3 → (s (a0 + 1) y3.toNat) = x2 → BI s a1 ∧ ¬ s a1 0 = 0 ∧ (0 ≤ (s (a0 + 2) y3.toNat) ∧ (s (a0 + 2) y3.toNat) < 30))
  (z6 : ∀ y3 : Int, I2 y3 → ¬ (s a0 0) ≤ y3 → (s (a0 + 1) y3.toNat) = x2 → (fre (brow s a1) (s (a0 + 2) y3.toNat).toNat) = (s (a0 + 3) y3.toNat) → I2 (w32 (y3 + 1)) ∧ m2 (w32 (y3 + 1)) < m2 y3)
  (z7 : ∀ y3 : Int, I2 y3 → ¬ (s a0 0) ≤ y3 → (s (a0 + 1) y3.toNat) = x2 → ¬ (fre (brow s a1) (s (a0 + 2) y3.toNat).toNat) = (s (a0 + 3) y3.toNat) → Q (some (mI 0)) s)
  (z8 : I2 0) :
  Sp X (d + 2) 57 [mR a0, mR a1, mI x2] s Q := by
  have L : ∀ k : Nat, (∀ (y3 : Int), I2 y3 → m2 y3 < k → Wp X (d + 2) 57 2 [some (mR a0), some (mR a1), some (mI x2), some (mI y3)] [] s Q) := by
    intro k
    induction k with
    | zero => exact fun _ _ h => absurd h (Nat.not_lt_zero _)
    | succ k ih => exact fun y3 hI hm => b57_2 h0 h1 (fun q1 => b57_47 h0 h1 (z1 y3 hI q1)) (fun q2 => b57_10 h0 h1 (z2 y3 hI q2) (fun q3 => b57_41 h0 h1 (ih (w32 (y3 + 1)) (z3 y3 hI q2 q3).1 (Nat.lt_of_lt_of_le (z3 y3 hI q2 q3).2 (Nat.le_of_lt_succ hm)))) (fun q4 => b57_20 h0 h1 (z4 y3 hI q2 q4) (c17 h1 (z5 y3 hI q2 q4) ⟨_, rfl, b57_30 h0 h1 (z4 y3 hI q2 q4) (fun q5 => b57_41 h0 h1 (ih (w32 (y3 + 1)) (z6 y3 hI q2 q4 q5).1 (Nat.lt_of_lt_of_le (z6 y3 hI q2 q4 q5).2 (Nat.le_of_lt_succ hm)))) (fun q6 => b57_39 h0 h1 (z7 y3 hI q2 q4 q6))⟩)))
  exact e57 (b57_0 h0 h1 ((L (m2 0 + 1)) 0 z8 (Nat.lt_succ_self _)))

theorem c57 {X : (Nat → Int) × Nat} {d : Nat} {s : mSt} {Q : mQ} {a0 : Nat} {a1 : Nat} {x2 : Int} (h0 : isNt a0) (h1 : isBd a1) (p1 : NSq s a0 ∧ BI s a1 ∧ ¬ s a1 0 = 0) (k1 : (an (ntB (s (a0 + 1)) (s (a0 + 2)) (s (a0 + 3)) (brow s a1) x2) (s a0 0).toNat = false) → Q (some (mI 1)) s) (k0 : ¬ (an (ntB (s (a0 + 1)) (s (a0 + 2)) (s (a0 + 3)) (brow s a1) x2) (s a0 0).toNat = false) → Q (some (mI 0)) s) : Sp X (d + 2) 57 [mR a0, mR a1, mI x2] s Q := by
  obtain ⟨⟨hn, hs⟩, hB, hd⟩ := p1
  let f := ntB (s (a0 + 1)) (s (a0 + 2)) (s (a0 + 3)) (brow s a1) x2
  have hf : ∀ i, f i = true ↔ s (a0 + 1) i = x2 ∧ ¬ fre (brow s a1) (s (a0 + 2) i).toNat = s (a0 + 3) i := fun i => ntB_iff
  let J : Int → Prop := fun y => ∃ j : Nat, y = j ∧ j ≤ (s a0 0).toNat ∧ ∀ i, i < j → f i = false
  have nx : ∀ j : Nat, j < (s a0 0).toNat → (∀ i, i < j → f i = false) → ¬ f j = true → J (w32 ((j : Int) + 1)) ∧ (11 - w32 ((j : Int) + 1)).toNat < (11 - (j : Int)).toNat := fun j hj ha hz => by
    rw [w32_of (by omega)]
    refine ⟨⟨j + 1, by omega, by omega, fun i hi => ?_⟩, by omega⟩
    by_cases z : i = j
    · subst z; exact Bool.eq_false_iff.2 hz
    · exact ha i (by omega)
  refine v57 h0 h1 J (fun y => (11 - y).toNat) ?_ ?_ ?_ ?_ ?_ ?_ ?_ ?_
  · rintro _ ⟨j, rfl, hj, ha⟩ hc
    refine k1 (an_false.2 (fun i hi => ha i (by omega)))
  · rintro _ ⟨j, rfl, hj, ha⟩ hc
    omega
  · rintro _ ⟨j, rfl, hj, ha⟩ hc q
    rw [tnc] at q
    exact nx j (by omega) ha (fun z => q ((hf j).1 z).1)
  · rintro _ ⟨j, rfl, hj, ha⟩ hc q
    omega
  · rintro _ ⟨j, rfl, hj, ha⟩ hc q
    rw [tnc]
    exact ⟨hB, hd, hs j (by omega)⟩
  · rintro _ ⟨j, rfl, hj, ha⟩ hc q q2
    rw [tnc] at q q2
    exact nx j (by omega) ha (fun z => ((hf j).1 z).2 q2)
  · rintro _ ⟨j, rfl, hj, ha⟩ hc q q2
    rw [tnc] at q q2
    refine k0 (fun z => ?_)
    have z1 := an_false.1 z j (by omega)
    have z2 : f j = true := (hf j).2 ⟨q, q2⟩
    have z3 : f j = false := z1
    rw [z2] at z3; exact absurd z3 (by decide)
  · exact ⟨0, rfl, by omega, fun i hi => by omega⟩
theorem v294 {X : (Nat → Int) × Nat} {d : Nat} {s : mSt} {Q : mQ} {x1 : Int}
  (I2 : Int → Prop) (m2 : Int → Nat)
  (z1 : ∀ y2 : Int, I2 y2 → (w32 (3 * (s 417 165))) ≤ y2 → Q (some (mI 1)) s)
  (z2 : ∀ y2 : Int, I2 y2 → ¬ (w32 (3 * (s 417 165))) ≤ y2 → 0 ≤ (w32 (135 + y2)) ∧ (w32 (135 + y2)) < 166)
  (z3 : ∀ y2 : Int, I2 y2 → ¬ (w32 (3 * (s 417 165))) ≤ y2 → ¬ (s 417 (w32 (135 + y2)).toNat) = x1 → I2 (w32 (y2 + 3)) ∧ m2 (w32 (y2 + 3)) < m2 y2)
  (z4 : ∀ y2 : Int, I2 y2 → ¬ (w32 (3 * (s 417 165))) ≤ y2 → (s 417 (w32 (135 + y2)).toNat) = x1 → 0 ≤ (w32 ((w32 (135 + y2)) + 1)) ∧ (w32 ((w32 (135 + y2)) + 1)) < 166)
  (z5 : ∀ y2 : Int, I2 y2 → ¬ (w32 (3 * (s 417 165))) ≤ y2 → (s 417 (w32 (135 + y2)).toNat) = x1 → Ok (s 417) ∧ (0 ≤ (s 417 (w32 ((w32 (135 + y2)) + 1)).toNat) ∧ (s 417 (w32 ((w32 (135 + y2)) + 1)).toNat) < 30))
  (z6 : ∀ y2 : Int, I2 y2 → ¬ (w32 (3 * (s 417 165))) ≤ y2 → (s 417 (w32 (135 + y2)).toNat) = x1 → 0 ≤ (w32 ((w32 (135 + y2)) + 2)) ∧ (w32 ((w32 (135 + y2)) + 2)) < 166)
  (z7 : ∀ y2 : Int, I2 y2 → ¬ (w32 (3 * (s 417 165))) ≤ y2 → (s 417 (w32 (135 + y2)).toNat) = x1 → (fre (s 417) (s 417 (w32 ((w32 (135 + y2)) + 1)).toNat).toNat) = (s 417 (w32 ((w32 (135 + y2)) + 2)).toNat) → I2 (w32 (y2 + 3)) ∧ m2 (w32 (y2 + 3)) < m2 y2)
  (z8 : ∀ y2 : Int, I2 y2 → ¬ (w32 (3 * (s 417 165))) ≤ y2 → (s 417 (w32 (135 + y2)).toNat) = x1 → ¬ (fre (s 417) (s 417 (w32 ((w32 (135 + y2)) + 1)).toNat).toNat) = (s 417 (w32 ((w32 (135 + y2)) + 2)).toNat) → Q (some (mI 0)) s)
  (z9 : I2 0) :
  Sp X (d + 4) 294 [mR 407, mI x1] s Q := by
  have L : ∀ k : Nat, (∀ (y2 : Int), I2 y2 → m2 y2 < k → Wp X (d + 4) 294 2 [some (mR 407), some (mI x1), some (mI y2)] [] s Q) := by
    intro k
    induction k with
    | zero => exact fun _ _ h => absurd h (Nat.not_lt_zero _)
    | succ k ih => exact fun y2 hI hm => b294_2 (fun q1 => b294_69 (z1 y2 hI q1)) (fun q2 => b294_16 (z2 y2 hI q2) (fun q3 => b294_63 (ih (w32 (y2 + 3)) (z3 y2 hI q2 q3).1 (Nat.lt_of_lt_of_le (z3 y2 hI q2 q3).2 (Nat.le_of_lt_succ hm)))) (fun q4 => b294_30 (z4 y2 hI q2 q4) (c223 (z5 y2 hI q2 q4) ⟨_, rfl, b294_46 (z6 y2 hI q2 q4) (fun q5 => b294_63 (ih (w32 (y2 + 3)) (z7 y2 hI q2 q4 q5).1 (Nat.lt_of_lt_of_le (z7 y2 hI q2 q4 q5).2 (Nat.le_of_lt_succ hm)))) (fun q6 => b294_61 (z8 y2 hI q2 q4 q6))⟩)))
  exact e294 (b294_0 ((L (m2 0 + 1)) 0 z9 (Nat.lt_succ_self _)))

theorem c294 {X : (Nat → Int) × Nat} {d : Nat} {s : mSt} {Q : mQ} {x1 : Int} (p1 : Ok (s 417)) (k1 : (an (ntB (fun i => s 417 (135 + 3 * i)) (fun i => s 417 (135 + 3 * i + 1)) (fun i => s 417 (135 + 3 * i + 2)) (s 417) x1) (s 417 165).toNat = false) → Q (some (mI 1)) s) (k0 : ¬ (an (ntB (fun i => s 417 (135 + 3 * i)) (fun i => s 417 (135 + 3 * i + 1)) (fun i => s 417 (135 + 3 * i + 2)) (s 417) x1) (s 417 165).toNat = false) → Q (some (mI 0)) s) : Sp X (d + 4) 294 [mR 407, mI x1] s Q := by
  have h := p1
  have hN := okNM h
  let f := ntB (fun i => s 417 (135 + 3 * i)) (fun i => s 417 (135 + 3 * i + 1)) (fun i => s 417 (135 + 3 * i + 2)) (s 417) x1
  have hf : ∀ i, f i = true ↔ s 417 (135 + 3 * i) = x1 ∧ ¬ fre (s 417) (s 417 (135 + 3 * i + 1)).toNat = s 417 (135 + 3 * i + 2) := fun i => ntB_iff
  have e3 : w32 (3 * s 417 165) = 3 * s 417 165 := w32_of (by omega)
  have i0 : ∀ j : Nat, j < 10 → w32 (135 + ((3 * j : Nat) : Int)) = ((135 + 3 * j : Nat) : Int) := fun j hj => by rw [w32_of (by omega)]; omega
  have i1 : ∀ j : Nat, j < 10 → w32 (((135 + 3 * j : Nat) : Int) + 1) = ((135 + 3 * j + 1 : Nat) : Int) := fun j hj => by rw [w32_of (by omega)]; omega
  have i2 : ∀ j : Nat, j < 10 → w32 (((135 + 3 * j : Nat) : Int) + 2) = ((135 + 3 * j + 2 : Nat) : Int) := fun j hj => by rw [w32_of (by omega)]; omega
  let J : Int → Prop := fun y => ∃ j : Nat, y = ((3 * j : Nat) : Int) ∧ j ≤ (s 417 165).toNat ∧ ∀ i, i < j → f i = false
  have nx : ∀ j : Nat, j < (s 417 165).toNat → (∀ i, i < j → f i = false) → ¬ f j = true → J (w32 (((3 * j : Nat) : Int) + 3)) ∧ (40 - w32 (((3 * j : Nat) : Int) + 3)).toNat < (40 - ((3 * j : Nat) : Int)).toNat := fun j hj ha hz => by
    rw [w32_of (by omega)]
    refine ⟨⟨j + 1, by omega, by omega, fun i hi => ?_⟩, by omega⟩
    by_cases z : i = j
    · subst z; exact Bool.eq_false_iff.2 hz
    · exact ha i (by omega)
  refine v294 J (fun y => (40 - y).toNat) ?_ ?_ ?_ ?_ ?_ ?_ ?_ ?_ ?_
  · rintro _ ⟨j, rfl, hj, ha⟩ hc
    rw [e3] at hc
    refine k1 (an_false.2 (fun i hi => ha i (by omega)))
  · rintro _ ⟨j, rfl, hj, ha⟩ hc
    rw [e3] at hc
    rw [i0 j (by omega)]; omega
  · rintro _ ⟨j, rfl, hj, ha⟩ hc q
    rw [e3] at hc
    rw [i0 j (by omega), tnc] at q
    exact nx j (by omega) ha (fun z => q ((hf j).1 z).1)
  · rintro _ ⟨j, rfl, hj, ha⟩ hc q
    rw [e3] at hc
    rw [i0 j (by omega), i1 j (by omega)]; omega
  · rintro _ ⟨j, rfl, hj, ha⟩ hc q
    rw [e3] at hc
    have b := okN h (p := 3 * j + 1) (by omega)
    rw [i0 j (by omega), i1 j (by omega), tnc, show 135 + 3 * j + 1 = 135 + (3 * j + 1) by omega]
    exact ⟨h, by omega⟩
  · rintro _ ⟨j, rfl, hj, ha⟩ hc q
    rw [e3] at hc
    rw [i0 j (by omega), i2 j (by omega)]; omega
  · rintro _ ⟨j, rfl, hj, ha⟩ hc q q2
    rw [e3] at hc
    rw [i0 j (by omega)] at q q2
    rw [i1 j (by omega), i2 j (by omega), tnc, tnc] at q2
    exact nx j (by omega) ha (fun z => ((hf j).1 z).2 q2)
  · rintro _ ⟨j, rfl, hj, ha⟩ hc q q2
    rw [e3] at hc
    rw [i0 j (by omega)] at q q2
    rw [i1 j (by omega), i2 j (by omega), tnc, tnc] at q2
    rw [tnc] at q
    refine k0 (fun z => ?_)
    have z1 : f j = false := an_false.1 z j (by omega)
    have z2 : f j = true := (hf j).2 ⟨q, q2⟩
    rw [z2] at z1; exact absurd z1 (by decide)
  · exact ⟨0, rfl, by omega, fun i hi => by omega⟩
