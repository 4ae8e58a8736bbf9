/-! the reference: a plan laid -/
theorem v244 {X : (Nat → Int) × Nat} {d : Nat} {s : mSt} {Q : mQ} {x1 : Int}
  (z1 : 0 ≤ (w32 (117 + x1)) ∧ (w32 (117 + x1)) < 166)
  (z2 : Ok (s 417) ∧ (0 ≤ x1 ∧ x1 < 6) ∧ (0 ≤ (s 417 (w32 (117 + x1)).toNat) ∧ (s 417 (w32 (117 + x1)).toNat) < 32) ∧ ∀ p, (s 417 (w32 (117 + x1)).toNat).toNat.testBit p = true → p < np (s 417))
  (z3 : ∀ s1 : mSt, (0 < (plB (s 417) x1.toNat (s 417 (w32 (117 + x1)).toNat).toNat).1 ∧ PQ s1 (np (s 417)) (plB (s 417) x1.toNat (s 417 (w32 (117 + x1)).toNat).toNat) ∧ fQ s s1) → Q (some (mI 1)) s1)
  (z4 : ∀ s2 : mSt, ((plB (s 417) x1.toNat (s 417 (w32 (117 + x1)).toNat).toNat).1 = 0 ∧ PQ s2 (np (s 417)) (plB (s 417) x1.toNat (s 417 (w32 (117 + x1)).toNat).toNat) ∧ fQ s s2) → Q (some (mI 0)) s2) :
  Sp X (d + 5) 244 [mR 407, mI x1] s Q := e244 (b244_0 z1 (c243 z2 (fun s1 q1 => ⟨1, rfl, b244_14 (z3 s1 q1) (Or.inr rfl)⟩) (fun s2 q2 => ⟨0, rfl, b244_14 (z4 s2 q2) (Or.inl rfl)⟩)))

theorem c244 {X : (Nat → Int) × Nat} {d : Nat} {s : mSt} {Q : mQ} {x1 : Int} (p1 : Ok (s 417) ∧ (0 ≤ x1 ∧ x1 < s 417 4)) (k1 : ∀ t : mSt, (0 < (pA1 (s 417) x1.toNat).1 ∧ PQ t (np (s 417)) (pA1 (s 417) x1.toNat) ∧ fQ s t) → Q (some (mI 1)) t) (k0 : ∀ t : mSt, ((pA1 (s 417) x1.toNat).1 = 0 ∧ PQ t (np (s 417)) (pA1 (s 417) x1.toNat) ∧ fQ s t) → Q (some (mI 0)) t) : Sp X (d + 5) 244 [mR 407, mI x1] s Q := by
  obtain ⟨h, h1⟩ := p1
  have h4 := ncI h
  have n6 := nc_le h
  have e : (w32 (117 + x1)).toNat = 117 + x1.toNat := wt (by omega) (by omega)
  have w := sM_b h (c := x1.toNat) (by omega)
  have eM : (s 417 (w32 (117 + x1)).toNat).toNat = sM (s 417) x1.toNat := by rw [e]; rfl
  refine v244 (by rw [w32_of (by omega)]; omega) ⟨h, by omega, ?_, ?_⟩ (fun s2 q => ?_) (fun s2 q => ?_)
  · rw [e, ← w.2.1]; omega
  · rw [eM]; exact w.2.2.2
  · rw [eM] at q; exact k1 s2 q
  · rw [eM] at q; exact k0 s2 q
def fL (s t : mSt) : Prop := (∀ b, ¬ (b = 407 ∨ 417 ≤ b ∧ b ≤ 422) → t b = s b) ∧ ∀ j, ¬ (28 ≤ j ∧ j ≤ 35) → t 407 j = s 407 j
theorem v245 {X : (Nat → Int) × Nat} {d : Nat} {s : mSt} {Q : mQ} {x1 : Int}
  (I12 : Int → mSt → Prop) (m12 : Int → mSt → Nat)
  (z1 : ∀ y2 : Int, ∀ s : mSt, I12 y2 s → (s 417 3) ≤ y2 → 0 ≤ (w32 (41 + x1)) ∧ (w32 (41 + x1)) < 166)
  (z2 : ∀ y2 : Int, ∀ s : mSt, I12 y2 s → (s 417 3) ≤ y2 → Q (some (mI 1)) (uS s 417 ((w32 (41 + x1)).toNat) 0))
  (z3 : ∀ y2 : Int, ∀ s : mSt, I12 y2 s → ¬ (s 417 3) ≤ y2 → 0 ≤ y2 ∧ y2 < 5)
  (z4 : ∀ y2 : Int, ∀ s : mSt, I12 y2 s → ¬ (s 417 3) ≤ y2 → 0 ≤ (w32 ((w32 (47 + (w32 (5 * x1)))) + y2)) ∧ (w32 ((w32 (47 + (w32 (5 * x1)))) + y2)) < 166)
  (z5 : ∀ y2 : Int, ∀ s : mSt, I12 y2 s → ¬ (s 417 3) ≤ y2 → I12 (w32 (y2 + 1)) (uS s 417 ((w32 ((w32 (47 + (w32 (5 * x1)))) + y2)).toNat) (s 422 y2.toNat)) ∧ m12 (w32 (y2 + 1)) (uS s 417 ((w32 ((w32 (47 + (w32 (5 * x1)))) + y2)).toNat) (s 422 y2.toNat)) < m12 y2 s)
  (z6 : Ok (s 417) ∧ (0 ≤ x1 ∧ x1 < s 417 4))
  (z7 : ∀ s3 : mSt, (0 < (pA1 (s 417) x1.toNat).1 ∧ PQ s3 (np (s 417)) (pA1 (s 417) x1.toNat) ∧ fQ s s3) → I12 0 s3)
  (z8 : ∀ s4 : mSt, ((pA1 (s 417) x1.toNat).1 = 0 ∧ PQ s4 (np (s 417)) (pA1 (s 417) x1.toNat) ∧ fQ s s4) → Q (some (mI 0)) s4) :
  Sp X (d + 6) 245 [mR 407, mI x1] s Q := by
  have L : ∀ k : Nat, (∀ (y2 : Int) (s : mSt), I12 y2 s → m12 y2 s < k → Wp X (d + 6) 245 12 [some (mR 407), some (mI x1), some (mI y2)] [] s Q) := by
    intro k
    induction k with
    | zero => exact fun _ _ _ h => absurd h (Nat.not_lt_zero _)
    | succ k ih => exact fun y2 s hI hm => b245_12 (fun q1 => b245_47 (z1 y2 s hI q1) (z2 y2 s hI q1)) (fun q2 => b245_22 (z3 y2 s hI q2) (z4 y2 s hI q2) (ih (w32 (y2 + 1)) (uS s 417 ((w32 ((w32 (47 + (w32 (5 * x1)))) + y2)).toNat) (s 422 y2.toNat)) (z5 y2 s hI q2).1 (Nat.lt_of_lt_of_le (z5 y2 s hI q2).2 (Nat.le_of_lt_succ hm))))
  exact e245 (b245_0 (c244 z6 (fun s3 q3 => ⟨1, rfl, b245_5 (fun _ => b245_10 ((L (m12 0 s3 + 1)) 0 s3 (z7 s3 q3) (Nat.lt_succ_self _))) (fun q => absurd q (by decide))⟩) (fun s4 q4 => ⟨0, rfl, b245_5 (fun q => absurd q (by decide)) (fun _ => b245_8 (z8 s4 q4))⟩)))

theorem c245 {X : (Nat → Int) × Nat} {d : Nat} {s : mSt} {Q : mQ} {x1 : Int} (p1 : Ok (s 417) ∧ (0 ≤ x1 ∧ x1 < s 417 4)) (k1 : ∀ t : mSt, (0 < (pA1 (s 417) x1.toNat).1 ∧ t 417 = lyR (s 417) x1.toNat (pA1 (s 417) x1.toNat).2.2.2.2 ∧ PQ t (np (s 417)) (pA1 (s 417) x1.toNat) ∧ fL s t) → Q (some (mI 1)) t) (k0 : ∀ t : mSt, ((pA1 (s 417) x1.toNat).1 = 0 ∧ t 417 = s 417 ∧ fL s t) → Q (some (mI 0)) t) : Sp X (d + 6) 245 [mR 407, mI x1] s Q := by
  obtain ⟨h, h1⟩ := p1
  have h4 := ncI h
  have h3 := npI h
  have n6 := nc_le h
  have n5 := np_le h
  obtain ⟨c, rfl⟩ := nat_of h1.1
  rw [tnc] at k1 k0
  have e1 : w32 (5 * (c : Int)) = 5 * (c : Int) := w32_of (by omega)
  have e2 : w32 (47 + 5 * (c : Int)) = 47 + 5 * (c : Int) := w32_of (by omega)
  let R : Nat → Rw := fun j i => if 47 + 5 * c ≤ i ∧ i < 47 + 5 * c + j then (pA1 (s 417) c).2.2.2.2 (i - (47 + 5 * c)) else s 417 i
  refine v245 (fun y t => ∃ (j : Nat) (u : mSt), y = j ∧ j ≤ np (s 417) ∧ 0 < (pA1 (s 417) c).1 ∧ PQ u (np (s 417)) (pA1 (s 417) c) ∧ fQ s u ∧ t = uC u 417 (R j)) (fun y _ => (5 - y).toNat) ?_ ?_ ?_ ?_ ?_ ?_ ?_ ?_
  · rintro _ _ ⟨j, u, rfl, hj, hw, hP, hf, rfl⟩ hc
    rw [w32_of (by omega)]; omega
  · rintro _ _ ⟨j, u, rfl, hj, hw, hP, hf, rfl⟩ hc
    have e3 : R j 3 = s 417 3 := if_neg (by omega)
    rw [uC_at, e3] at hc
    have : j = np (s 417) := by omega
    subst this
    rw [wt (n := 41 + c) (by omega) (by omega), uS_uC2]
    refine k1 _ ⟨hw, ?_, ?_, fun b hb => ?_, fun i hi => ?_⟩
    · rw [uC_at]
      funext i
      unfold up lyR
      by_cases z : i = 41 + c
      · rw [if_pos z]
      · rw [if_neg z]
    · unfold PQ
      rw [uC_ne (by decide), uC_ne (by decide)]; exact hP
    · rw [uC_ne (by omega)]; exact hf.1 b (by omega)
    · rw [uC_ne (by decide)]; exact hf.2 i hi
  · rintro _ _ ⟨j, u, rfl, hj, hw, hP, hf, rfl⟩ hc
    have e3 : R j 3 = s 417 3 := if_neg (by omega)
    rw [uC_at, e3] at hc
    omega
  · rintro _ _ ⟨j, u, rfl, hj, hw, hP, hf, rfl⟩ hc
    have e3 : R j 3 = s 417 3 := if_neg (by omega)
    rw [uC_at, e3] at hc
    rw [e1, e2, w32_of (by omega)]; omega
  · rintro _ _ ⟨j, u, rfl, hj, hw, hP, hf, rfl⟩ hc
    have e3 : R j 3 = s 417 3 := if_neg (by omega)
    rw [uC_at, e3] at hc
    rw [e1, e2, wt (n := 47 + 5 * c + j) (by omega) (by omega), w32_of (by omega), uS_uC2, tnc, uC_ne (by decide), hP.2.2 j (by omega), if_neg (by omega)]
    refine ⟨⟨j + 1, u, by omega, by omega, hw, hP, hf, ?_⟩, by omega⟩
    refine congrArg (uC u 417) ?_
    funext i
    show up (R j) (47 + 5 * c + j) _ i = R (j + 1) i
    unfold up
    by_cases z : i = 47 + 5 * c + j
    · rw [if_pos z]
      show _ = if 47 + 5 * c ≤ i ∧ i < 47 + 5 * c + (j + 1) then (pA1 (s 417) c).2.2.2.2 (i - (47 + 5 * c)) else s 417 i
      rw [if_pos (by omega), z, Nat.add_sub_cancel_left]
    · rw [if_neg z]
      show (if 47 + 5 * c ≤ i ∧ i < 47 + 5 * c + j then (pA1 (s 417) c).2.2.2.2 (i - (47 + 5 * c)) else s 417 i) = if 47 + 5 * c ≤ i ∧ i < 47 + 5 * c + (j + 1) then (pA1 (s 417) c).2.2.2.2 (i - (47 + 5 * c)) else s 417 i
      by_cases w : 47 + 5 * c ≤ i ∧ i < 47 + 5 * c + j
      · rw [if_pos w, if_pos (by omega)]
      · rw [if_neg w, if_neg (by omega)]
  · exact ⟨h, h1⟩
  · intro s3 q
    rw [tnc] at q
    refine ⟨0, s3, rfl, by omega, q.1, q.2.1, q.2.2, ?_⟩
    have : R 0 = s3 417 := by
      funext i
      rw [q.2.2.1 417 (by omega)]
      exact if_neg (by omega)
    rw [this, uC_self]
  · intro s4 q
    rw [tnc] at q
    exact k0 s4 ⟨q.1, q.2.2.1 417 (by omega), fun b hb => q.2.2.1 b (by omega), q.2.2.2⟩
/-! rules: items, what they do to a stack -/
def ik (x : Int) : Int := x % 16
def iv (x : Int) : Nat := (x / 16).toNat
def opA (k a b : Int) : Int := if k = 2 then w64 (a + b) else if k = 3 then w64 (a - b) else if k = 4 then w64 (a * b) else if k = 5 then (if b = 0 then 0 else w64 (Int.tdiv a b)) else if k = 14 then (if b = 0 then 0 else Int.tmod a b) else
  if k = 6 then (if a < b then 1 else 0) else if k = 7 then (if a ≤ b then 1 else 0) else if k = 8 then (if a = b then 1 else 0) else if k = 9 then (if b ≤ a then 1 else 0) else if k = 10 then (if b < a then 1 else 0) else if k = 12 then lAnd a b else lOr a b
/-- the stack, its lowest first -/
def evN (x : Int) (n : Nat) : Nat := if ik x ≤ 1 then n + 1 else if ik x = 11 then n else n - 1
def evF (fa : Rw) (x : Int) (n : Nat) (f : Rw) : Rw := if ik x = 0 then up f n (iv x : Int) else if ik x = 1 then up f n (fa (iv x)) else if ik x = 11 then up f (n - 1) (w64 (1 - f (n - 1))) else up f (n - 2) (opA (ik x) (f (n - 2)) (f (n - 1)))
/-- kinds on the stack: true for what is 0 or 1 -/
def tyS (x : Int) (st : List Bool) : Option (List Bool) := if ik x ≤ 1 then (if 0 ≤ x ∧ x < 1600000 ∧ (ik x = 1 → iv x < 11) then some (false :: st) else none) else
  match st with
  | true :: r => if ik x = 11 ∧ x = 11 then some (true :: r) else match r with
    | true :: q => if (ik x = 12 ∧ x = 12) ∨ (ik x = 13 ∧ x = 13) then some (true :: q) else none
    | _ => none
  | false :: false :: q => if x = 2 ∨ x = 3 ∨ x = 4 ∨ x = 5 ∨ x = 14 then some (false :: q) else if 6 ≤ x ∧ x ≤ 10 then some (true :: q) else none
  | _ => none
def tyL : List Int → List Bool → Option (List Bool)
  | [], st => some st
  | x :: l, st => match tyS x st with
    | none => none
    | some q => tyL l q
theorem tyL_app (l l' : List Int) : ∀ st : List Bool, tyL (l ++ l') st = match tyL l st with
    | none => none
    | some q => tyL l' q := by
  induction l with
  | nil => intro st; rfl
  | cons x l ih =>
    intro st
    rw [List.cons_append, tyL, tyL]
    cases tyS x st with
    | none => rfl
    | some q => exact ih q
def evL (fa : Rw) : List Int → Nat → Rw → Nat × Rw
  | [], n, f => (n, f)
  | x :: l, n, f => evL fa l (evN x n) (evF fa x n f)
