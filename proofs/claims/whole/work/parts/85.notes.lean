/-! notes -/
def noC (a : Rw) (x y z : Int) : Prop := a 0 = 1 ∧ (0 ≤ x ∧ x ≤ 9) ∧ (0 ≤ y ∧ y < 30) ∧ (0 ≤ z ∧ z ≤ 9) ∧ a 165 < 10
def noR (a : Rw) (x y z : Int) : Rw := up (up (up (up a (135 + 3 * (a 165).toNat) x) (135 + 3 * (a 165).toNat + 1) y) (135 + 3 * (a 165).toNat + 2) z) 165 (a 165 + 1)
theorem v293 {X : (Nat → Int) × Nat} {d : Nat} {s : mSt} {Q : mQ} {x1 : Int} {x2 : Int} {x3 : Int}
  (z1 : ¬ x1 = (-1) → s 417 0 = 1 → (0 ≤ x1 ∧ x1 ≤ 9) → (0 ≤ x2 ∧ x2 ≤ 29) → (0 ≤ x3 ∧ x3 ≤ 9) → ¬ (s 417 165) = 10 → 0 ≤ (w32 (135 + (w32 (3 * (s 417 165))))) ∧ (w32 (135 + (w32 (3 * (s 417 165))))) < 166)
  (z2 : ¬ x1 = (-1) → s 417 0 = 1 → (0 ≤ x1 ∧ x1 ≤ 9) → (0 ≤ x2 ∧ x2 ≤ 29) → (0 ≤ x3 ∧ x3 ≤ 9) → ¬ (s 417 165) = 10 → 0 ≤ (w32 ((w32 (135 + (w32 (3 * (s 417 165))))) + 1)) ∧ (w32 ((w32 (135 + (w32 (3 * (s 417 165))))) + 1)) < 166)
  (z3 : ¬ x1 = (-1) → s 417 0 = 1 → (0 ≤ x1 ∧ x1 ≤ 9) → (0 ≤ x2 ∧ x2 ≤ 29) → (0 ≤ x3 ∧ x3 ≤ 9) → ¬ (s 417 165) = 10 → 0 ≤ (w32 ((w32 (135 + (w32 (3 * (s 417 165))))) + 2)) ∧ (w32 ((w32 (135 + (w32 (3 * (s 417 165))))) + 2)) < 166)
  (z4 : ¬ x1 = (-1) → s 417 0 = 1 → (0 ≤ x1 ∧ x1 ≤ 9) → (0 ≤ x2 ∧ x2 ≤ 29) → (0 ≤ x3 ∧ x3 ≤ 9) → ¬ (s 417 165) = 10 → Q (some (mI ((uS (uS (uS (uS s 417 ((w32 (135 + (w32 (3 * (s 417 165))))).toNat) x1) 417 ((w32 ((w32 (135 + (w32 (3 * (s 417 165))))) + 1)).toNat) x2) 417 ((w32 ((w32 (135 + (w32 (3 * (s 417 165))))) + 2)).toNat) x3) 417 165 (w32 (((uS (uS (uS s 417 ((w32 (135 + (w32 (3 * (s 417 165))))).toNat) x1) 417 ((w32 ((w32 (135 + (w32 (3 * (s 417 165))))) + 1)).toNat) x2) 417 ((w32 ((w32 (135 + (w32 (3 * (s 417 165))))) + 2)).toNat) x3) 417 165) + 1))) 417 165))) (uS (uS (uS (uS s 417 ((w32 (135 + (w32 (3 * (s 417 165))))).toNat) x1) 417 ((w32 ((w32 (135 + (w32 (3 * (s 417 165))))) + 1)).toNat) x2) 417 ((w32 ((w32 (135 + (w32 (3 * (s 417 165))))) + 2)).toNat) x3) 417 165 (w32 (((uS (uS (uS s 417 ((w32 (135 + (w32 (3 * (s 417 165))))).toNat) x1) 417 ((w32 ((w32 (135 + (w32 (3 * (s 417 165))))) + 1)).toNat) x2) 417 ((w32 ((w32 (135 + (w32 (3 * (s 417 165))))) + 2)).toNat) x3) 417 165) + 1))))
  (z5 : ¬ x1 = (-1) → s 417 0 = 1 → (0 ≤ x1 ∧ x1 ≤ 9) → (0 ≤ x2 ∧ x2 ≤ 29) → (0 ≤ x3 ∧ x3 ≤ 9) → (s 417 165) = 10 → Q (some (mI (-2))) s)
  (z6 : ¬ x1 = (-1) → s 417 0 = 1 → (0 ≤ x1 ∧ x1 ≤ 9) → (0 ≤ x2 ∧ x2 ≤ 29) → (¬ (0 ≤ x3 ∧ x3 ≤ 9)) → Q (some (mI (-2))) s)
  (z7 : ¬ x1 = (-1) → s 417 0 = 1 → (0 ≤ x1 ∧ x1 ≤ 9) → (¬ (0 ≤ x2 ∧ x2 ≤ 29)) → Q (some (mI (-2))) s)
  (z8 : ¬ x1 = (-1) → s 417 0 = 1 → (¬ (0 ≤ x1 ∧ x1 ≤ 9)) → Q (some (mI (-2))) s)
  (z9 : ¬ x1 = (-1) → ¬ (s 417 0 = 1) → Q (some (mI (-2))) s)
  (z10 : x1 = (-1) → Q (some (mI 0)) (uS s 417 165 0)) :
  Sp X (d + 1) 293 [mR 407, mI x1, mI x2, mI x3] s Q := e293 (b293_0 (fun q1 => b293_16 (c212  (fun q2 => ⟨1, rfl, b293_20 (fun q => absurd q (by decide)) (fun _ => b293_23 (c167  (fun q3 => ⟨1, rfl, b293_32 (fun q => absurd q (by decide)) (fun _ => b293_35 (c167  (fun q4 => ⟨1, rfl, b293_44 (fun q => absurd q (by decide)) (fun _ => b293_47 (c167  (fun q5 => ⟨1, rfl, b293_56 (fun q => absurd q (by decide)) (fun _ => b293_59 (fun q6 => b293_75 (z1 q1 q2 q3 q4 q5 q6) (z2 q1 q2 q3 q4 q5 q6) (z3 q1 q2 q3 q4 q5 q6) (z4 q1 q2 q3 q4 q5 q6)) (fun q7 => b293_72 (z5 q1 q2 q3 q4 q5 q7)))⟩) (fun q8 => ⟨0, rfl, b293_56 (fun _ => b293_72 (z6 q1 q2 q3 q4 q8)) (fun q => absurd q (by decide))⟩)))⟩) (fun q9 => ⟨0, rfl, b293_44 (fun _ => b293_72 (z7 q1 q2 q3 q9)) (fun q => absurd q (by decide))⟩)))⟩) (fun q10 => ⟨0, rfl, b293_32 (fun _ => b293_72 (z8 q1 q2 q10)) (fun q => absurd q (by decide))⟩)))⟩) (fun q11 => ⟨0, rfl, b293_20 (fun _ => b293_72 (z9 q1 q11)) (fun q => absurd q (by decide))⟩))) (fun q12 => b293_5 (z10 q12)))

theorem c293 {X : (Nat → Int) × Nat} {d : Nat} {s : mSt} {Q : mQ} {x1 : Int} {x2 : Int} {x3 : Int} (p1 : Ok (s 417)) (k : ∀ (v : Int) (t : mSt), (YN (x1 = -1) (v = 0 ∧ t = uS s 417 165 0) (YN (noC (s 417) x1 x2 x3) (v = s 417 165 + 1 ∧ t 417 = noR (s 417) x1 x2 x3 ∧ ∀ b, b ≠ 417 → t b = s b) (v = -2 ∧ t = s))) → Q (some (mI v)) t) : Sp X (d + 1) 293 [mR 407, mI x1, mI x2, mI x3] s Q := by
  have hN := okNM p1
  let n := (s 417 165).toNat
  have i1 : ¬ s 417 165 = 10 → w32 (135 + w32 (3 * s 417 165)) = ((135 + 3 * (s 417 165).toNat : Nat) : Int) := fun q => by
    rw [w32_of (x := 3 * s 417 165) (by omega), w32_of (by omega)]; omega
  have up7 : ∀ (q : mSt) (i : Nat) (x : Int), uS q 417 i x 417 = up (q 417) i x := fun q i x => by funext j; rw [uS_at]; rfl
  have no : ∀ g : ¬ x1 = -1, ¬ noC (s 417) x1 x2 x3 → Q (some (mI (-2))) s := fun g g' => k _ s (YN_n g (YN_n g' ⟨rfl, rfl⟩))
  refine v293 (fun g0 g1 g2 g3 g4 q => ?_) (fun g0 g1 g2 g3 g4 q => ?_) (fun g0 g1 g2 g3 g4 q => ?_) (fun g0 g1 g2 g3 g4 q => ?_) (fun g0 g1 g2 g3 g4 q => no g0 (fun z => by have := z.2.2.2.2; omega)) (fun g0 g1 g2 g3 g4 => no g0 (fun z => g4 z.2.2.2.1)) (fun g0 g1 g2 g3 => no g0 (fun z => by have := z.2.2.1; omega)) (fun g0 g1 g2 => no g0 (fun z => g2 z.2.1)) (fun g0 g1 => no g0 (fun z => g1 z.1)) (fun g0 => k _ _ (YN_y g0 ⟨rfl, rfl⟩))
  · rw [i1 q]; omega
  · rw [i1 q, w32_of (by omega)]; omega
  · rw [i1 q, w32_of (by omega)]; omega
  · rw [i1 q]
    rw [wt (x := ((135 + 3 * (s 417 165).toNat : Nat) : Int) + 1) (n := 135 + 3 * (s 417 165).toNat + 1) (by omega) (by omega), wt (x := ((135 + 3 * (s 417 165).toNat : Nat) : Int) + 2) (n := 135 + 3 * (s 417 165).toNat + 2) (by omega) (by omega), tnc]
    have e165 : (uS (uS (uS s 417 (135 + 3 * (s 417 165).toNat) x1) 417 (135 + 3 * (s 417 165).toNat + 1) x2) 417 (135 + 3 * (s 417 165).toNat + 2) x3) 417 165 = s 417 165 := by
      rw [up7, up_ne (by omega), up7, up_ne (by omega), up7, up_ne (by omega)]
    rw [e165, w32_of (by omega)]
    refine k _ _ (YN_n g0 (YN_y ⟨g1, g2, by omega, g4, by omega⟩ ⟨?_, ?_, fun b hb => ?_⟩))
    · rw [uS_at, if_pos rfl]
    · rw [up7, up7, up7, up7]; rfl
    · rw [uS_cell hb, uS_cell hb, uS_cell hb, uS_cell hb]
theorem v55 {X : (Nat → Int) × Nat} {d : Nat} {s : mSt} {Q : mQ} {a0 : Nat} {x1 : Int} {x2 : Int} {x3 : Int} (h0 : isNt a0)
  (z1 : 10 ≤ s a0 0 → Q none s)
  (z2 : ¬ (10 ≤ s a0 0) → 0 ≤ (s a0 0) ∧ (s a0 0) < 10)
  (z3 : ¬ (10 ≤ s a0 0) → 0 ≤ ((uS s (a0 + 1) ((s a0 0).toNat) x1) a0 0) ∧ ((uS s (a0 + 1) ((s a0 0).toNat) x1) a0 0) < 10)
  (z4 : ¬ (10 ≤ s a0 0) → 0 ≤ ((uS (uS s (a0 + 1) ((s a0 0).toNat) x1) (a0 + 2) (((uS s (a0 + 1) ((s a0 0).toNat) x1) a0 0).toNat) x2) a0 0) ∧ ((uS (uS s (a0 + 1) ((s a0 0).toNat) x1) (a0 + 2) (((uS s (a0 + 1) ((s a0 0).toNat) x1) a0 0).toNat) x2) a0 0) < 10)
  (z5 : ¬ (10 ≤ s a0 0) → Q none (uS (uS (uS (uS s (a0 + 1) ((s a0 0).toNat) x1) (a0 + 2) (((uS s (a0 + 1) ((s a0 0).toNat) x1) a0 0).toNat) x2) (a0 + 3) (((uS (uS s (a0 + 1) ((s a0 0).toNat) x1) (a0 + 2) (((uS s (a0 + 1) ((s a0 0).toNat) x1) a0 0).toNat) x2) a0 0).toNat) x3) a0 0 (w32 (((uS (uS (uS s (a0 + 1) ((s a0 0).toNat) x1) (a0 + 2) (((uS s (a0 + 1) ((s a0 0).toNat) x1) a0 0).toNat) x2) (a0 + 3) (((uS (uS s (a0 + 1) ((s a0 0).toNat) x1) (a0 + 2) (((uS s (a0 + 1) ((s a0 0).toNat) x1) a0 0).toNat) x2) a0 0).toNat) x3) a0 0) + 1)))) :
  Sp X (d + 1) 55 [mR a0, mI x1, mI x2, mI x3] s Q := e55 (b55_0 h0 (c54 h0 (fun q1 => ⟨1, rfl, b55_4 h0 (fun _ => b55_47 h0 (z1 q1)) (fun q => absurd q (by decide))⟩) (fun q2 => ⟨0, rfl, b55_4 h0 (fun q => absurd q (by decide)) (fun _ => b55_7 h0 (z2 q2) (z3 q2) (z4 q2) (b55_47 h0 (z5 q2)))⟩)))

theorem c55 {X : (Nat → Int) × Nat} {d : Nat} {s : mSt} {Q : mQ} {a0 : Nat} {x1 : Int} {x2 : Int} {x3 : Int} (h0 : isNt a0) (p1 : 0 ≤ s a0 0 ∧ s a0 0 < 10) (k : ∀ t : mSt, (t a0 = up (s a0) 0 (s a0 0 + 1) ∧ t (a0 + 1) = up (s (a0 + 1)) (s a0 0).toNat x1 ∧ t (a0 + 2) = up (s (a0 + 2)) (s a0 0).toNat x2 ∧ t (a0 + 3) = up (s (a0 + 3)) (s a0 0).toNat x3 ∧ ∀ b, ¬ (a0 ≤ b ∧ b ≤ a0 + 3) → t b = s b) → Q none t) : Sp X (d + 1) 55 [mR a0, mI x1, mI x2, mI x3] s Q := by
  have c1 : ∀ (q : mSt) (i : Nat) (x : Int), uS q (a0 + 1) i x a0 = q a0 := fun q i x => uS_cell (by omega)
  have c2 : ∀ (q : mSt) (i : Nat) (x : Int), uS q (a0 + 2) i x a0 = q a0 := fun q i x => uS_cell (by omega)
  have c3 : ∀ (q : mSt) (i : Nat) (x : Int), uS q (a0 + 3) i x a0 = q a0 := fun q i x => uS_cell (by omega)
  have upk : ∀ (q : mSt) (b i : Nat) (x : Int), uS q b i x b = up (q b) i x := fun q b i x => by funext j; rw [uS_at]; rfl
  refine v55 h0 (fun q => by omega) (fun q => p1) (fun q => by rw [c1]; exact p1) (fun q => by rw [c2, c1]; exact p1) (fun q => ?_)
  simp only [c1, c2, c3]
  rw [w32_of (by omega)]
  refine k _ ⟨?_, ?_, ?_, ?_, fun b hb => ?_⟩
  · rw [upk, c3, c2, c1]
  · rw [uS_cell (by omega), uS_cell (by omega), uS_cell (by omega), upk]
  · rw [uS_cell (by omega), uS_cell (by omega), upk, uS_cell (by omega)]
  · rw [uS_cell (by omega), upk, uS_cell (by omega), uS_cell (by omega)]
  · rw [uS_cell (by omega), uS_cell (by omega), uS_cell (by omega), uS_cell (by omega)]
