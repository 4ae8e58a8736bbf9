/-! faces that only ask -/
def frA (a : Rw) (x : Int) : Int := if a 0 = 1 ∧ (0 ≤ x ∧ x < 30) then fre a x.toNat else -1
def tiA (a : Rw) (x y : Int) : Int := if (0 ≤ x ∧ x < a 4) ∧ (0 ≤ y ∧ y < a 3) ∧ ss a x.toNat y.toNat = true then tm a x.toNat y.toNat else -1
def paA (a : Rw) (x y : Int) : Int := if 0 ≤ x ∧ x < a 3 then (if y = 0 then a (6 + x.toNat) else if y = 1 then a (77 + x.toNat) else if y = 2 then os (fun c => ss a c x.toNat) (nc a) else -1) else -1
def caA (a : Rw) (x y : Int) : Int := if 0 ≤ x ∧ x < a 4 then (if y = 0 then a (117 + x.toNat) else if y = 1 then a (123 + x.toNat) else if y = 2 then a (129 + x.toNat) else if y = 3 then a (41 + x.toNat) else -1) else -1
theorem v163 {X : (Nat → Int) × Nat} {d : Nat} {s : mSt} {Q : mQ} {x0 : Int}
  (z1 : x0 < 0 → Q (some (mI 0)) s)
  (z2 : ¬ x0 < 0 → 30 ≤ x0 → Q (some (mI 0)) s)
  (z3 : ¬ x0 < 0 → ¬ 30 ≤ x0 → Q (some (mI 1)) s) :
  Sp X d 163 [mI x0] s Q := e163 (b163_0 (fun q1 => b163_14 (b163_15 (z1 q1) (Or.inl rfl))) (fun q2 => b163_4 (fun q3 => b163_14 (b163_15 (z2 q2 q3) (Or.inl rfl))) (fun q4 => b163_10 (b163_15 (z3 q2 q4) (Or.inr rfl)))))

theorem c163 {X : (Nat → Int) × Nat} {d : Nat} {s : mSt} {Q : mQ} {x0 : Int} (k1 : (0 ≤ x0 ∧ x0 < 30) → Q (some (mI 1)) s) (k0 : ¬ (0 ≤ x0 ∧ x0 < 30) → Q (some (mI 0)) s) : Sp X d 163 [mI x0] s Q := by
  refine v163 (fun h => k0 (by omega)) (fun h1 h2 => k0 (by omega)) (fun h1 h2 => k1 (by omega))
theorem v231 {X : (Nat → Int) × Nat} {d : Nat} {s : mSt} {Q : mQ} {x1 : Int}
  (z1 : s 417 0 = 1 → (0 ≤ x1 ∧ x1 ≤ 29) → Ok (s 417) ∧ (0 ≤ x1 ∧ x1 < 30))
  (z2 : s 417 0 = 1 → (0 ≤ x1 ∧ x1 ≤ 29) → Q (some (mI (fre (s 417) x1.toNat))) s)
  (z3 : s 417 0 = 1 → (¬ (0 ≤ x1 ∧ x1 ≤ 29)) → Q (some (mI (-1))) s)
  (z4 : ¬ (s 417 0 = 1) → Q (some (mI (-1))) s) :
  Sp X (d + 4) 231 [mR 407, mI x1] s Q := e231 (b231_0 (c212  (fun q1 => ⟨1, rfl, b231_4 (fun q => absurd q (by decide)) (fun _ => b231_7 (c167  (fun q2 => ⟨1, rfl, b231_16 (fun q => absurd q (by decide)) (fun _ => b231_19 (c223 (z1 q1 q2) ⟨_, rfl, b231_24 (b231_28 (z2 q1 q2))⟩))⟩) (fun q3 => ⟨0, rfl, b231_16 (fun _ => b231_27 (b231_28 (z3 q1 q3))) (fun q => absurd q (by decide))⟩)))⟩) (fun q4 => ⟨0, rfl, b231_4 (fun _ => b231_27 (b231_28 (z4 q4))) (fun q => absurd q (by decide))⟩)))

theorem c231 {X : (Nat → Int) × Nat} {d : Nat} {s : mSt} {Q : mQ} {x1 : Int} (p1 : Ok (s 417)) (k : Q (some (mI (frA (s 417) x1))) s) : Sp X (d + 4) 231 [mR 407, mI x1] s Q := by
  unfold frA at k
  refine v231 (fun h1 h2 => ⟨p1, by omega⟩) (fun h1 h2 => ?_) (fun h1 h2 => ?_) (fun h1 => ?_)
  · rw [if_pos ⟨h1, by omega⟩] at k; exact k
  · rw [if_neg (by omega)] at k; exact k
  · rw [if_neg (fun z => h1 z.1)] at k; exact k
theorem v232 {X : (Nat → Int) × Nat} {d : Nat} {s : mSt} {Q : mQ} {x1 : Int} {x2 : Int}
  (z1 : (0 ≤ x1 ∧ x1 < s 417 4) → (0 ≤ x2 ∧ x2 < s 417 3) → (0 ≤ x1 ∧ x1 < 6) ∧ (0 ≤ x2 ∧ x2 < 5))
  (z2 : (0 ≤ x1 ∧ x1 < s 417 4) → (0 ≤ x2 ∧ x2 < s 417 3) → ss (s 417) x1.toNat x2.toNat = true → Ok (s 417) ∧ (0 ≤ x1 ∧ x1 < 6) ∧ (0 ≤ x2 ∧ x2 < 5))
  (z3 : (0 ≤ x1 ∧ x1 < s 417 4) → (0 ≤ x2 ∧ x2 < s 417 3) → ss (s 417) x1.toNat x2.toNat = true → Q (some (mI (tm (s 417) x1.toNat x2.toNat))) s)
  (z4 : (0 ≤ x1 ∧ x1 < s 417 4) → (0 ≤ x2 ∧ x2 < s 417 3) → ¬ (ss (s 417) x1.toNat x2.toNat = true) → Q (some (mI (-1))) s)
  (z5 : (0 ≤ x1 ∧ x1 < s 417 4) → (¬ (0 ≤ x2 ∧ x2 < s 417 3)) → Q (some (mI (-1))) s)
  (z6 : (¬ (0 ≤ x1 ∧ x1 < s 417 4)) → Q (some (mI (-1))) s) :
  Sp X (d + 2) 232 [mR 407, mI x1, mI x2] s Q := e232 (b232_0 (c214  (fun q1 => ⟨1, rfl, b232_5 (fun q => absurd q (by decide)) (fun _ => b232_8 (c213  (fun q2 => ⟨1, rfl, b232_13 (fun q => absurd q (by decide)) (fun _ => b232_16 (c217 (z1 q1 q2) (fun q3 => ⟨1, rfl, b232_22 (fun q => absurd q (by decide)) (fun _ => b232_25 (c219 (z2 q1 q2 q3) ⟨_, rfl, b232_31 (b232_35 (z3 q1 q2 q3))⟩))⟩) (fun q4 => ⟨0, rfl, b232_22 (fun _ => b232_34 (b232_35 (z4 q1 q2 q4))) (fun q => absurd q (by decide))⟩)))⟩) (fun q5 => ⟨0, rfl, b232_13 (fun _ => b232_34 (b232_35 (z5 q1 q5))) (fun q => absurd q (by decide))⟩)))⟩) (fun q6 => ⟨0, rfl, b232_5 (fun _ => b232_34 (b232_35 (z6 q6))) (fun q => absurd q (by decide))⟩)))

theorem c232 {X : (Nat → Int) × Nat} {d : Nat} {s : mSt} {Q : mQ} {x1 : Int} {x2 : Int} (p1 : Ok (s 417)) (k : Q (some (mI (tiA (s 417) x1 x2))) s) : Sp X (d + 2) 232 [mR 407, mI x1, mI x2] s Q := by
  have h3 := ok3 p1
  have h4 := ok4 p1
  unfold tiA at k
  refine v232 (fun h1 h2 => by omega) (fun h1 h2 q => ⟨p1, by omega, by omega⟩) (fun h1 h2 q => ?_) (fun h1 h2 q => ?_) (fun h1 h2 => ?_) (fun h1 => ?_)
  · rw [if_pos ⟨h1, h2, q⟩] at k; exact k
  · rw [if_neg (fun z => q z.2.2)] at k; exact k
  · rw [if_neg (fun z => h2 z.2.1)] at k; exact k
  · rw [if_neg (fun z => h1 z.1)] at k; exact k
theorem v230 {X : (Nat → Int) × Nat} {d : Nat} {s : mSt} {Q : mQ} {x1 : Int} {x2 : Int}
  (z1 : (0 ≤ x1 ∧ x1 < s 417 4) → x2 = 0 → 0 ≤ (w32 (117 + x1)) ∧ (w32 (117 + x1)) < 166)
  (z2 : (0 ≤ x1 ∧ x1 < s 417 4) → x2 = 0 → Q (some (mI (s 417 (w32 (117 + x1)).toNat))) s)
  (z3 : (0 ≤ x1 ∧ x1 < s 417 4) → x2 = 1 → 0 ≤ (w32 (123 + x1)) ∧ (w32 (123 + x1)) < 166)
  (z4 : (0 ≤ x1 ∧ x1 < s 417 4) → x2 = 1 → Q (some (mI (s 417 (w32 (123 + x1)).toNat))) s)
  (z5 : (0 ≤ x1 ∧ x1 < s 417 4) → x2 = 2 → 0 ≤ (w32 (129 + x1)) ∧ (w32 (129 + x1)) < 166)
  (z6 : (0 ≤ x1 ∧ x1 < s 417 4) → x2 = 2 → Q (some (mI (s 417 (w32 (129 + x1)).toNat))) s)
  (z7 : (0 ≤ x1 ∧ x1 < s 417 4) → x2 = 3 → 0 ≤ (w32 (41 + x1)) ∧ (w32 (41 + x1)) < 166)
  (z8 : (0 ≤ x1 ∧ x1 < s 417 4) → x2 = 3 → Q (some (mI (s 417 (w32 (41 + x1)).toNat))) s)
  (z9 : (0 ≤ x1 ∧ x1 < s 417 4) → ¬ x2 = 0 → ¬ x2 = 1 → ¬ x2 = 2 → ¬ x2 = 3 → Q (some (mI (-1))) s)
  (z10 : (¬ (0 ≤ x1 ∧ x1 < s 417 4)) → Q (some (mI (-1))) s) :
  Sp X (d + 1) 230 [mR 407, mI x1, mI x2] s Q := e230 (b230_0 (c214  (fun q1 => ⟨1, rfl, b230_5 (fun _ => b230_10 (fun q2 => b230_40 (z1 q1 q2) (z2 q1 q2)) (fun q3 => b230_50 (z3 q1 q3) (z4 q1 q3)) (fun q4 => b230_60 (z5 q1 q4) (z6 q1 q4)) (fun q5 => b230_71 (z7 q1 q5) (z8 q1 q5)) (fun q6 q7 q8 q9 => b230_81 (z9 q1 q6 q7 q8 q9))) (fun q => absurd q (by decide))⟩) (fun q10 => ⟨0, rfl, b230_5 (fun q => absurd q (by decide)) (fun _ => b230_8 (z10 q10))⟩)))

theorem c230 {X : (Nat → Int) × Nat} {d : Nat} {s : mSt} {Q : mQ} {x1 : Int} {x2 : Int} (p1 : Ok (s 417)) (k : Q (some (mI (caA (s 417) x1 x2))) s) : Sp X (d + 1) 230 [mR 407, mI x1, mI x2] s Q := by
  have h4 := ok4 p1
  unfold caA at k
  by_cases h1 : 0 ≤ x1 ∧ x1 < s 417 4
  rotate_left
  · rw [if_neg h1] at k
    exact v230 (fun z => absurd z h1) (fun z => absurd z h1) (fun z => absurd z h1) (fun z => absurd z h1) (fun z => absurd z h1) (fun z => absurd z h1) (fun z => absurd z h1) (fun z => absurd z h1) (fun z => absurd z h1) (fun _ => k)
  rw [if_pos h1] at k
  have e1 : (w32 (117 + x1)).toNat = 117 + x1.toNat := wt (by omega) (by omega)
  have e2 : (w32 (123 + x1)).toNat = 123 + x1.toNat := wt (by omega) (by omega)
  have e3 : (w32 (129 + x1)).toNat = 129 + x1.toNat := wt (by omega) (by omega)
  have e4 : (w32 (41 + x1)).toNat = 41 + x1.toNat := wt (by omega) (by omega)
  refine v230 ?_ ?_ ?_ ?_ ?_ ?_ ?_ ?_ ?_ (fun z => absurd h1 z)
  · intro _ _; rw [w32_of (by omega)]; omega
  · intro _ q; rw [if_pos q] at k; rw [e1]; exact k
  · intro _ _; rw [w32_of (by omega)]; omega
  · intro _ q; rw [if_neg (by omega), if_pos q] at k; rw [e2]; exact k
  · intro _ _; rw [w32_of (by omega)]; omega
  · intro _ q; rw [if_neg (by omega), if_neg (by omega), if_pos q] at k; rw [e3]; exact k
  · intro _ _; rw [w32_of (by omega)]; omega
  · intro _ q; rw [if_neg (by omega), if_neg (by omega), if_neg (by omega), if_pos q] at k; rw [e4]; exact k
  · intro _ q0 q1 q2 q3; rw [if_neg q0, if_neg q1, if_neg q2, if_neg q3] at k; exact k
theorem v229 {X : (Nat → Int) × Nat} {d : Nat} {s : mSt} {Q : mQ} {x1 : Int} {x2 : Int}
  (I58 : Int → Int → Prop) (m58 : Int → Int → Nat)
  (z1 : ∀ y3 : Int, ∀ y4 : Int, I58 y3 y4 → (s 417 4) ≤ y4 → Q (some (mI y3)) s)
  (z2 : ∀ y3 : Int, ∀ y4 : Int, I58 y3 y4 → ¬ (s 417 4) ≤ y4 → (0 ≤ y4 ∧ y4 < 6) ∧ (0 ≤ x1 ∧ x1 < 5))
  (z3 : ∀ y3 : Int, ∀ y4 : Int, I58 y3 y4 → ¬ (s 417 4) ≤ y4 → ss (s 417) y4.toNat x1.toNat = true → I58 (iOr y3 (iShl 1 y4)) (w32 (y4 + 1)) ∧ m58 (iOr y3 (iShl 1 y4)) (w32 (y4 + 1)) < m58 y3 y4)
  (z4 : ∀ y3 : Int, ∀ y4 : Int, I58 y3 y4 → ¬ (s 417 4) ≤ y4 → ¬ (ss (s 417) y4.toNat x1.toNat = true) → I58 (iOr y3 0) (w32 (y4 + 1)) ∧ m58 (iOr y3 0) (w32 (y4 + 1)) < m58 y3 y4)
  (z5 : (0 ≤ x1 ∧ x1 < s 417 3) → (0 ≤ x2 ∧ x2 ≤ 2) → 2 ≤ x2 → I58 0 0)
  (z6 : (0 ≤ x1 ∧ x1 < s 417 3) → (0 ≤ x2 ∧ x2 ≤ 2) → ¬ 2 ≤ x2 → ¬ x2 = 0 → 0 ≤ (w32 (77 + x1)) ∧ (w32 (77 + x1)) < 166)
  (z7 : (0 ≤ x1 ∧ x1 < s 417 3) → (0 ≤ x2 ∧ x2 ≤ 2) → ¬ 2 ≤ x2 → ¬ x2 = 0 → Q (some (mI (s 417 (w32 (77 + x1)).toNat))) s)
  (z8 : (0 ≤ x1 ∧ x1 < s 417 3) → (0 ≤ x2 ∧ x2 ≤ 2) → ¬ 2 ≤ x2 → x2 = 0 → 0 ≤ (w32 (6 + x1)) ∧ (w32 (6 + x1)) < 166)
  (z9 : (0 ≤ x1 ∧ x1 < s 417 3) → (0 ≤ x2 ∧ x2 ≤ 2) → ¬ 2 ≤ x2 → x2 = 0 → Q (some (mI (s 417 (w32 (6 + x1)).toNat))) s)
  (z10 : (0 ≤ x1 ∧ x1 < s 417 3) → (¬ (0 ≤ x2 ∧ x2 ≤ 2)) → Q (some (mI (-1))) s)
  (z11 : (¬ (0 ≤ x1 ∧ x1 < s 417 3)) → Q (some (mI (-1))) s) :
  Sp X (d + 2) 229 [mR 407, mI x1, mI x2] s Q := by
  have L : ∀ k : Nat, (∀ (y3 : Int) (y4 : Int), I58 y3 y4 → m58 y3 y4 < k → Wp X (d + 2) 229 58 [some (mR 407), some (mI x1), some (mI x2), some (mI y3), some (mI y4)] [] s Q) := by
    intro k
    induction k with
    | zero => exact fun _ _ _ h => absurd h (Nat.not_lt_zero _)
    | succ k ih => exact fun y3 y4 hI hm => b229_58 (fun q1 => b229_96 (z1 y3 y4 hI q1)) (fun q2 => b229_69 (c217 (z2 y3 y4 hI q2) (fun q3 => ⟨1, rfl, b229_77 (fun q => absurd q (by decide)) (fun _ => b229_80 (b229_88 (ih (iOr y3 (iShl 1 y4)) (w32 (y4 + 1)) (z3 y3 y4 hI q2 q3).1 (Nat.lt_of_lt_of_le (z3 y3 y4 hI q2 q3).2 (Nat.le_of_lt_succ hm)))))⟩) (fun q4 => ⟨0, rfl, b229_77 (fun _ => b229_87 (b229_88 (ih (iOr y3 0) (w32 (y4 + 1)) (z4 y3 y4 hI q2 q4).1 (Nat.lt_of_lt_of_le (z4 y3 y4 hI q2 q4).2 (Nat.le_of_lt_succ hm))))) (fun q => absurd q (by decide))⟩)))
  exact e229 (b229_0 (c213  (fun q5 => ⟨1, rfl, b229_5 (fun q => absurd q (by decide)) (fun _ => b229_8 (c167  (fun q6 => ⟨1, rfl, b229_17 (fun _ => b229_22 (fun q7 => b229_53 ((L (m58 0 0 + 1)) 0 0 (z5 q5 q6 q7) (Nat.lt_succ_self _))) (fun q8 => b229_27 (fun q9 => b229_43 (z6 q5 q6 q8 q9) (b229_52 (z7 q5 q6 q8 q9))) (fun q10 => b229_31 (z8 q5 q6 q8 q10) (b229_52 (z9 q5 q6 q8 q10))))) (fun q => absurd q (by decide))⟩) (fun q11 => ⟨0, rfl, b229_17 (fun q => absurd q (by decide)) (fun _ => b229_20 (z10 q5 q11))⟩)))⟩) (fun q12 => ⟨0, rfl, b229_5 (fun _ => b229_20 (z11 q12)) (fun q => absurd q (by decide))⟩)))

theorem c229 {X : (Nat → Int) × Nat} {d : Nat} {s : mSt} {Q : mQ} {x1 : Int} {x2 : Int} (p1 : Ok (s 417)) (k : Q (some (mI (paA (s 417) x1 x2))) s) : Sp X (d + 2) 229 [mR 407, mI x1, mI x2] s Q := by
  have h3 := ok3 p1
  have h4 := ncI p1
  have n6 := nc_le p1
  unfold paA at k
  have e1 : (0 ≤ x1 ∧ x1 < s 417 3) → (w32 (77 + x1)).toNat = 77 + x1.toNat := fun h => wt (by omega) (by omega)
  have e2 : (0 ≤ x1 ∧ x1 < s 417 3) → (w32 (6 + x1)).toNat = 6 + x1.toNat := fun h => wt (by omega) (by omega)
  refine v229 (fun y3 y4 => ∃ j : Nat, y4 = j ∧ j ≤ nc (s 417) ∧ (0 ≤ x1 ∧ x1 < s 417 3) ∧ x2 = 2 ∧ y3 = os (fun c => ss (s 417) c x1.toNat) j) (fun _ y => (6 - y).toNat) ?_ ?_ ?_ ?_ ?_ ?_ ?_ ?_ ?_ ?_ ?_
  · rintro _ _ ⟨j, rfl, hj, g1, g2, rfl⟩ hc
    have : j = nc (s 417) := by omega
    subst this
    rw [if_pos g1, if_neg (by omega), if_neg (by omega), if_pos g2] at k
    exact k
  · rintro _ _ ⟨j, rfl, hj, g1, g2, rfl⟩ hc
    omega
  · rintro _ _ ⟨j, rfl, hj, g1, g2, rfl⟩ hc q
    rw [tnc] at q
    rw [w32_of (by omega), shl1 (by omega), or_os (by omega)]
    refine ⟨⟨j + 1, by omega, by omega, g1, g2, ?_⟩, by omega⟩
    rw [os_s, if_pos q]
  · rintro _ _ ⟨j, rfl, hj, g1, g2, rfl⟩ hc q
    rw [tnc] at q
    rw [w32_of (by omega), or_0 (by have := os_30 (f := fun c => ss (s 417) c x1.toNat) (n := j) (by omega); unfold i3; omega)]
    refine ⟨⟨j + 1, by omega, by omega, g1, g2, ?_⟩, by omega⟩
    rw [os_s, if_neg q, Int.add_zero]
  · intro g1 g2 g3; exact ⟨0, rfl, by omega, g1, by omega, rfl⟩
  · intro g1 _ _ _; rw [w32_of (by omega)]; omega
  · intro g1 g2 g3 g4
    rw [if_pos g1, if_neg g4, if_pos (by omega)] at k
    rw [e1 g1]; exact k
  · intro g1 _ _ _; rw [w32_of (by omega)]; omega
  · intro g1 g2 g3 g4
    rw [if_pos g1, if_pos g4] at k
    rw [e2 g1]; exact k
  · intro g1 g2
    rw [if_pos g1, if_neg (by omega), if_neg (by omega), if_neg (by omega)] at k
    exact k
  · intro g1
    rw [if_neg g1] at k
    exact k
theorem v130 {X : (Nat → Int) × Nat} {d : Nat} {s : mSt} {Q : mQ} {x1 : Int} {x2 : Int}
  (z1 : (0 ≤ x1 ∧ x1 < s 18 3) → (0 ≤ x2 ∧ x2 < s 18 2) → BI s 18 ∧ (0 ≤ x1 ∧ x1 < s 18 3) ∧ (0 ≤ x2 ∧ x2 < 5))
  (z2 : (0 ≤ x1 ∧ x1 < s 18 3) → (0 ≤ x2 ∧ x2 < s 18 2) → ss (brow s 18) x1.toNat x2.toNat = true → BI s 18 ∧ (0 ≤ x1 ∧ x1 < s 18 3) ∧ (0 ≤ x2 ∧ x2 < s 18 2))
  (z3 : (0 ≤ x1 ∧ x1 < s 18 3) → (0 ≤ x2 ∧ x2 < s 18 2) → ss (brow s 18) x1.toNat x2.toNat = true → Q (some (mI (tm (brow s 18) x1.toNat x2.toNat))) s)
  (z4 : (0 ≤ x1 ∧ x1 < s 18 3) → (0 ≤ x2 ∧ x2 < s 18 2) → ¬ (ss (brow s 18) x1.toNat x2.toNat = true) → Q (some (mI (-1))) s)
  (z5 : (0 ≤ x1 ∧ x1 < s 18 3) → (¬ (0 ≤ x2 ∧ x2 < s 18 2)) → Q (some (mI (-1))) s)
  (z6 : (¬ (0 ≤ x1 ∧ x1 < s 18 3)) → Q (some (mI (-1))) s) :
  Sp X (d + 1) 130 [mR 0, mI x1, mI x2] s Q := e130 (b130_0 (c8 (bdm rfl) (fun q1 => ⟨1, rfl, b130_13 (fun q => absurd q (by decide)) (fun _ => b130_16 (c7 (bdm rfl) (fun q2 => ⟨1, rfl, b130_21 (fun q => absurd q (by decide)) (fun _ => b130_24 (c12 (bdm rfl) (z1 q1 q2) (fun q3 => ⟨1, rfl, b130_30 (fun _ => b130_35 (c14 (bdm rfl) (z2 q1 q2 q3) ⟨_, rfl, b130_41 (z3 q1 q2 q3)⟩)) (fun q => absurd q (by decide))⟩) (fun q4 => ⟨0, rfl, b130_30 (fun q => absurd q (by decide)) (fun _ => b130_33 (z4 q1 q2 q4))⟩)))⟩) (fun q5 => ⟨0, rfl, b130_21 (fun _ => b130_33 (z5 q1 q5)) (fun q => absurd q (by decide))⟩)))⟩) (fun q6 => ⟨0, rfl, b130_13 (fun _ => b130_33 (z6 q6)) (fun q => absurd q (by decide))⟩)))

theorem c130 {X : (Nat → Int) × Nat} {d : Nat} {s : mSt} {Q : mQ} {x1 : Int} {x2 : Int} (p1 : BI s 18) (k : Q (some (mI (tiA (brow s 18) x1 x2))) s) : Sp X (d + 1) 130 [mR 0, mI x1, mI x2] s Q := by
  have h3 := bi3 p1
  have h4 := bi4 p1
  have b3 := ok3 p1.1
  have b4 := ok4 p1.1
  unfold tiA at k
  rw [← h3, ← h4] at k
  refine v130 (fun h1 h2 => ⟨p1, h1, by omega⟩) (fun h1 h2 q => ⟨p1, h1, h2⟩) (fun h1 h2 q => ?_) (fun h1 h2 q => ?_) (fun h1 h2 => ?_) (fun h1 => ?_)
  · rw [if_pos ⟨h1, h2, q⟩] at k; exact k
  · rw [if_neg (fun z => q z.2.2)] at k; exact k
  · rw [if_neg (fun z => h2 z.2.1)] at k; exact k
  · rw [if_neg (fun z => h1 z.1)] at k; exact k
theorem v127 {X : (Nat → Int) × Nat} {d : Nat} {s : mSt} {Q : mQ} {x1 : Int} {x2 : Int}
  (z1 : (0 ≤ x1 ∧ x1 < s 18 2) → x2 = 0 → 0 ≤ x1 ∧ x1 < 5)
  (z2 : (0 ≤ x1 ∧ x1 < s 18 2) → x2 = 0 → Q (some (mI (s 19 x1.toNat))) s)
  (z3 : (0 ≤ x1 ∧ x1 < s 18 2) → x2 = 1 → 0 ≤ x1 ∧ x1 < 5)
  (z4 : (0 ≤ x1 ∧ x1 < s 18 2) → x2 = 1 → Q (some (mI (s 20 x1.toNat))) s)
  (z5 : (0 ≤ x1 ∧ x1 < s 18 2) → x2 = 2 → BI s 18 ∧ (0 ≤ x1 ∧ x1 < 5))
  (z6 : (0 ≤ x1 ∧ x1 < s 18 2) → x2 = 2 → Q (some (mI (os (fun c => ss (brow s 18) c x1.toNat) (nc (brow s 18))))) s)
  (z7 : (0 ≤ x1 ∧ x1 < s 18 2) → ¬ x2 = 0 → ¬ x2 = 1 → ¬ x2 = 2 → Q (some (mI (-1))) s)
  (z8 : (¬ (0 ≤ x1 ∧ x1 < s 18 2)) → Q (some (mI (-1))) s) :
  Sp X (d + 2) 127 [mR 0, mI x1, mI x2] s Q := e127 (b127_0 (c7 (bdm rfl) (fun q1 => ⟨1, rfl, b127_13 (fun _ => b127_18 (fun q2 => b127_44 (z1 q1 q2) (z2 q1 q2)) (fun q3 => b127_51 (z3 q1 q3) (z4 q1 q3)) (fun q4 => b127_58 (c13 (bdm rfl) (z5 q1 q4) ⟨_, rfl, b127_63 (z6 q1 q4)⟩)) (fun q5 q6 q7 => b127_64 (z7 q1 q5 q6 q7))) (fun q => absurd q (by decide))⟩) (fun q8 => ⟨0, rfl, b127_13 (fun q => absurd q (by decide)) (fun _ => b127_16 (z8 q8))⟩)))

theorem c127 {X : (Nat → Int) × Nat} {d : Nat} {s : mSt} {Q : mQ} {x1 : Int} {x2 : Int} (p1 : BI s 18) (k : Q (some (mI (paA (brow s 18) x1 x2))) s) : Sp X (d + 2) 127 [mR 0, mI x1, mI x2] s Q := by
  have h3 := bi3 p1
  have h3n := bi_np p1
  have b3 := ok3 p1.1
  unfold paA at k
  by_cases g : 0 ≤ x1 ∧ x1 < s 18 2
  rotate_left
  · rw [← h3, if_neg g] at k
    exact v127 (fun z => absurd z g) (fun z => absurd z g) (fun z => absurd z g) (fun z => absurd z g) (fun z => absurd z g) (fun z => absurd z g) (fun z => absurd z g) (fun _ => k)
  have eS := biS p1 (p := x1.toNat) (by omega)
  have eL := biL p1 (p := x1.toNat) (by omega)
  rw [← h3, if_pos g] at k
  refine v127 (fun _ _ => by omega) (fun _ q => ?_) (fun _ _ => by omega) (fun _ q => ?_) (fun _ _ => ⟨p1, by omega⟩) (fun _ q => ?_) (fun _ q0 q1 q2 => ?_) (fun z => absurd g z)
  · rw [if_pos q, ← eS] at k; exact k
  · rw [if_neg (by omega), if_pos q, ← eL] at k; exact k
  · rw [if_neg (by omega), if_neg (by omega), if_pos q] at k; exact k
  · rw [if_neg q0, if_neg q1, if_neg q2] at k; exact k
theorem v128 {X : (Nat → Int) × Nat} {d : Nat} {s : mSt} {Q : mQ} {x1 : Int} {x2 : Int}
  (z1 : (0 ≤ x1 ∧ x1 < s 18 3) → x2 = 0 → 0 ≤ x1 ∧ x1 < 6)
  (z2 : (0 ≤ x1 ∧ x1 < s 18 3) → x2 = 0 → Q (some (mI (s 21 x1.toNat))) s)
  (z3 : (0 ≤ x1 ∧ x1 < s 18 3) → x2 = 1 → 0 ≤ x1 ∧ x1 < 6)
  (z4 : (0 ≤ x1 ∧ x1 < s 18 3) → x2 = 1 → Q (some (mI (s 22 x1.toNat))) s)
  (z5 : (0 ≤ x1 ∧ x1 < s 18 3) → x2 = 2 → 0 ≤ x1 ∧ x1 < 6)
  (z6 : (0 ≤ x1 ∧ x1 < s 18 3) → x2 = 2 → Q (some (mI (s 23 x1.toNat))) s)
  (z7 : (0 ≤ x1 ∧ x1 < s 18 3) → x2 = 3 → BI s 18)
  (z8 : (0 ≤ x1 ∧ x1 < s 18 3) → x2 = 3 → ((0 ≤ x1 ∧ x1 < s 18 3) ∧ ¬ pl (brow s 18) x1.toNat = true) → Q (some (mI 1)) s)
  (z9 : (0 ≤ x1 ∧ x1 < s 18 3) → x2 = 3 → (¬ ((0 ≤ x1 ∧ x1 < s 18 3) ∧ ¬ pl (brow s 18) x1.toNat = true)) → Q (some (mI 0)) s)
  (z10 : (0 ≤ x1 ∧ x1 < s 18 3) → ¬ x2 = 0 → ¬ x2 = 1 → ¬ x2 = 2 → ¬ x2 = 3 → Q (some (mI (-1))) s)
  (z11 : (¬ (0 ≤ x1 ∧ x1 < s 18 3)) → Q (some (mI (-1))) s) :
  Sp X (d + 2) 128 [mR 0, mI x1, mI x2] s Q := e128 (b128_0 (c8 (bdm rfl) (fun q1 => ⟨1, rfl, b128_13 (fun _ => b128_18 (fun q2 => b128_48 (z1 q1 q2) (z2 q1 q2)) (fun q3 => b128_55 (z3 q1 q3) (z4 q1 q3)) (fun q4 => b128_62 (z5 q1 q4) (z6 q1 q4)) (fun q5 => b128_69 (c10 (bdm rfl) (z7 q1 q5) (fun q6 => ⟨1, rfl, b128_74 (fun q => absurd q (by decide)) (fun _ => b128_77 (b128_82 (z8 q1 q5 q6)))⟩) (fun q7 => ⟨0, rfl, b128_74 (fun _ => b128_81 (b128_82 (z9 q1 q5 q7))) (fun q => absurd q (by decide))⟩))) (fun q8 q9 q10 q11 => b128_83 (z10 q1 q8 q9 q10 q11))) (fun q => absurd q (by decide))⟩) (fun q12 => ⟨0, rfl, b128_13 (fun q => absurd q (by decide)) (fun _ => b128_16 (z11 q12))⟩)))

theorem c128 {X : (Nat → Int) × Nat} {d : Nat} {s : mSt} {Q : mQ} {x1 : Int} {x2 : Int} (p1 : BI s 18) (k : Q (some (mI (caA (brow s 18) x1 x2))) s) : Sp X (d + 2) 128 [mR 0, mI x1, mI x2] s Q := by
  have h4 := bi4 p1
  have h4n := bi_nc p1
  have b4 := ok4 p1.1
  unfold caA at k
  by_cases g : 0 ≤ x1 ∧ x1 < s 18 3
  rotate_left
  · rw [← h4, if_neg g] at k
    exact v128 (fun z => absurd z g) (fun z => absurd z g) (fun z => absurd z g) (fun z => absurd z g) (fun z => absurd z g) (fun z => absurd z g) (fun z => absurd z g) (fun z => absurd z g) (fun z => absurd z g) (fun z => absurd z g) (fun _ => k)
  have eP := biP p1 (c := x1.toNat) (by omega)
  have eE := biE p1 (c := x1.toNat) (by omega)
  have eR := biR p1 (c := x1.toNat) (by omega)
  have bW := okW p1.1 (p := x1.toNat) (by omega)
  rw [← h4, if_pos g] at k
  refine v128 (fun _ _ => by omega) (fun _ q => ?_) (fun _ _ => by omega) (fun _ q => ?_) (fun _ _ => by omega) (fun _ q => ?_) (fun _ _ => p1) (fun _ q w => ?_) (fun _ q w => ?_) (fun _ q0 q1 q2 q3 => ?_) (fun z => absurd g z)
  · rw [if_pos q, ← eP] at k; exact k
  · rw [if_neg (by omega), if_pos q, ← eE] at k; exact k
  · rw [if_neg (by omega), if_neg (by omega), if_pos q, ← eR] at k; exact k
  · rw [if_neg (by omega), if_neg (by omega), if_neg (by omega), if_pos q, show brow s 18 (41 + x1.toNat) = 1 from by have := w.2; rw [pl_0] at this; omega] at k; exact k
  · rw [if_neg (by omega), if_neg (by omega), if_neg (by omega), if_pos q, show brow s 18 (41 + x1.toNat) = 0 from pl_0.1 (by apply Classical.byContradiction; intro z; exact w ⟨g, z⟩)] at k; exact k
  · rw [if_neg q0, if_neg q1, if_neg q2, if_neg q3] at k; exact k
theorem v129 {X : (Nat → Int) × Nat} {d : Nat} {s : mSt} {Q : mQ} {x1 : Int}
  (z1 : 0 < s 18 0 → (0 ≤ x1 ∧ x1 < 30) → BI s 18 ∧ ¬ s 18 0 = 0 ∧ (0 ≤ x1 ∧ x1 < 30))
  (z2 : 0 < s 18 0 → (0 ≤ x1 ∧ x1 < 30) → Q (some (mI (fre (brow s 18) x1.toNat))) s)
  (z3 : 0 < s 18 0 → (¬ (0 ≤ x1 ∧ x1 < 30)) → Q (some (mI (-1))) s)
  (z4 : ¬ (0 < s 18 0) → Q (some (mI (-1))) s) :
  Sp X (d + 2) 129 [mR 0, mI x1] s Q := e129 (b129_0 (c6 (bdm rfl) (fun q1 => ⟨1, rfl, b129_10 (fun q => absurd q (by decide)) (fun _ => b129_13 (c163  (fun q2 => ⟨1, rfl, b129_17 (fun _ => b129_22 (c17 (bdm rfl) (z1 q1 q2) ⟨_, rfl, b129_33 (z2 q1 q2)⟩)) (fun q => absurd q (by decide))⟩) (fun q3 => ⟨0, rfl, b129_17 (fun q => absurd q (by decide)) (fun _ => b129_20 (z3 q1 q3))⟩)))⟩) (fun q4 => ⟨0, rfl, b129_10 (fun _ => b129_20 (z4 q4)) (fun q => absurd q (by decide))⟩)))

theorem c129 {X : (Nat → Int) × Nat} {d : Nat} {s : mSt} {Q : mQ} {x1 : Int} (p1 : BI s 18) (k : Q (some (mI (frA (brow s 18) x1))) s) : Sp X (d + 2) 129 [mR 0, mI x1] s Q := by
  have h0 := p1.2.2.2.2.1
  have e0 := brw_0 (s := s) (k := 18)
  unfold frA at k
  refine v129 (fun h1 h2 => ⟨p1, by omega, h2⟩) (fun h1 h2 => ?_) (fun h1 h2 => ?_) (fun h1 => ?_)
  · rw [if_neg (by omega)] at e0
    rw [if_pos ⟨e0, h2⟩] at k; exact k
  · rw [if_neg (fun z => h2 z.2)] at k; exact k
  · rw [if_pos (by omega)] at e0
    rw [if_neg (fun z => by omega)] at k; exact k
