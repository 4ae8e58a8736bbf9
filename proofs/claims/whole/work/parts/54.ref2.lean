/-! the reference: rows changed; small questions -/
def uC (s : mSt) (c : Nat) (r : Rw) : mSt := fun b => if b = c then r else s b
theorem uC_at (s : mSt) (c : Nat) (r : Rw) : uC s c r c = r := if_pos rfl
theorem uC_ne {s : mSt} {c : Nat} {r : Rw} {b : Nat} (h : b ≠ c) : uC s c r b = s b := if_neg h
theorem uC_uC (s : mSt) (c : Nat) (r r' : Rw) : uC (uC s c r) c r' = uC s c r' := by
  funext b; unfold uC; by_cases h : b = c <;> simp [h]
theorem uC_self (s : mSt) (c : Nat) : uC s c (s c) = s := by
  funext b; unfold uC; by_cases h : b = c <;> simp [h]
def up (a : Rw) (k : Nat) (x : Int) : Rw := fun j => if j = k then x else a j
theorem up_at (a : Rw) (k : Nat) (x : Int) : up a k x k = x := if_pos rfl
theorem up_ne {a : Rw} {k : Nat} {x : Int} {j : Nat} (h : j ≠ k) : up a k x j = a j := if_neg h
theorem uS_uC (s : mSt) (b k : Nat) (x : Int) : uS s b k x = uC s b (up (s b) k x) := by
  funext c j; unfold uS uC up
  by_cases h : c = b
  · subst h; simp
  · simp [h]
theorem uS_uC2 (s : mSt) (b k : Nat) (x : Int) (r : Rw) : uS (uC s b r) b k x = uC s b (up r k x) := by
  rw [uS_uC, uC_at, uC_uC]
abbrev uR (s : mSt) (r : Rw) : mSt := uC s 417 r
def fct : Nat → Int
  | 0 => 1
  | n + 1 => (n + 1) * fct n
theorem fct_s (n : Nat) : fct (n + 1) = (n + 1) * fct n := rfl
theorem fct_b {n : Nat} (h : n ≤ 5) : 1 ≤ fct n ∧ fct n ≤ 120 := (show ∀ n : Fin 6, 1 ≤ fct n.val ∧ fct n.val ≤ 120 by decide) ⟨n, by omega⟩
theorem v233 {X : (Nat → Int) × Nat} {d : Nat} {s : mSt} {Q : mQ} {x0 : Int}
  (I4 : Int → Int → Prop) (m4 : Int → Int → Nat)
  (z1 : ∀ y1 : Int, ∀ y2 : Int, I4 y1 y2 → x0 < y2 → Q (some (mI y1)) s)
  (z2 : ∀ y1 : Int, ∀ y2 : Int, I4 y1 y2 → ¬ x0 < y2 → I4 (w32 (y1 * y2)) (w32 (y2 + 1)) ∧ m4 (w32 (y1 * y2)) (w32 (y2 + 1)) < m4 y1 y2)
  (z3 : I4 1 2) :
  Sp X d 233 [mI x0] s Q := by
  have L : ∀ k : Nat, (∀ (y1 : Int) (y2 : Int), I4 y1 y2 → m4 y1 y2 < k → Wp X d 233 4 [some (mI x0), some (mI y1), some (mI y2)] [] s Q) := by
    intro k
    induction k with
    | zero => exact fun _ _ _ h => absurd h (Nat.not_lt_zero _)
    | succ k ih => exact fun y1 y2 hI hm => b233_4 (fun q1 => b233_19 (z1 y1 y2 hI q1)) (fun q2 => b233_9 (ih (w32 (y1 * y2)) (w32 (y2 + 1)) (z2 y1 y2 hI q2).1 (Nat.lt_of_lt_of_le (z2 y1 y2 hI q2).2 (Nat.le_of_lt_succ hm))))
  exact e233 (b233_0 ((L (m4 1 2 + 1)) 1 2 z3 (Nat.lt_succ_self _)))

theorem c233 {X : (Nat → Int) × Nat} {d : Nat} {s : mSt} {Q : mQ} {x0 : Int} (p1 : 0 ≤ x0 ∧ x0 ≤ 5) (k : Q (some (mI (fct x0.toNat))) s) : Sp X d 233 [mI x0] s Q := by
  obtain ⟨m, rfl⟩ := nat_of p1.1
  rw [tnc] at k
  refine v233 (fun y1 y2 => ∃ j : Nat, y2 = j + 1 ∧ y1 = fct j ∧ 1 ≤ j ∧ (j ≤ m ∨ j = 1)) (fun _ y => (7 - y).toNat) ?_ ?_ ?_
  · rintro _ _ ⟨j, rfl, rfl, h1, h2⟩ hc
    rcases (show j = m ∨ (j = 1 ∧ m = 0) by omega) with e | ⟨e, e'⟩
    · subst e; exact k
    · subst e; subst e'; exact k
  · rintro _ _ ⟨j, rfl, rfl, h1, h2⟩ hc
    have b := fct_b (show j + 1 ≤ 5 by omega)
    rw [fct_s] at b
    have e : fct j * ((j : Int) + 1) = ((j : Int) + 1) * fct j := Int.mul_comm _ _
    rw [e, w32_of (by omega), w32_of (by omega)]
    exact ⟨⟨j + 1, by omega, rfl, by omega, by omega⟩, by omega⟩
  · exact ⟨1, rfl, rfl, by omega, Or.inr rfl⟩
def dyo (t : Int) : Int := if t < 20 then 0 else 1
theorem v236 {X : (Nat → Int) × Nat} {d : Nat} {s : mSt} {Q : mQ} {x0 : Int}
  (z1 : 20 ≤ x0 → Q (some (mI 1)) s)
  (z2 : ¬ 20 ≤ x0 → Q (some (mI 0)) s) :
  Sp X d 236 [mI x0] s Q := e236 (b236_0 (fun q1 => b236_10 (b236_11 (z1 q1))) (fun q2 => b236_6 (b236_11 (z2 q2))))

theorem c236 {X : (Nat → Int) × Nat} {d : Nat} {s : mSt} {Q : mQ} {x0 : Int} (k : Q (some (mI (dyo x0))) s) : Sp X d 236 [mI x0] s Q := by
  refine v236 (fun h => ?_) (fun h => ?_)
  · unfold dyo at k; rw [if_neg (by omega)] at k; exact k
  · unfold dyo at k; rw [if_pos (by omega)] at k; exact k
theorem v246 {X : (Nat → Int) × Nat} {d : Nat} {s : mSt} {Q : mQ} {x1 : Int}
  (I12 : Int → mSt → Prop) (m12 : Int → mSt → Nat)
  (z1 : ∀ y2 : Int, ∀ s : mSt, I12 y2 s → 5 ≤ y2 → Q none s)
  (z2 : ∀ y2 : Int, ∀ s : mSt, I12 y2 s → ¬ 5 ≤ y2 → 0 ≤ (w32 ((w32 (47 + (w32 (5 * x1)))) + y2)) ∧ (w32 ((w32 (47 + (w32 (5 * x1)))) + y2)) < 166)
  (z3 : ∀ y2 : Int, ∀ s : mSt, I12 y2 s → ¬ 5 ≤ y2 → I12 (w32 (y2 + 1)) (uS s 417 ((w32 ((w32 (47 + (w32 (5 * x1)))) + y2)).toNat) (-1)) ∧ m12 (w32 (y2 + 1)) (uS s 417 ((w32 ((w32 (47 + (w32 (5 * x1)))) + y2)).toNat) (-1)) < m12 y2 s)
  (z4 : 0 ≤ (w32 (41 + x1)) ∧ (w32 (41 + x1)) < 166)
  (z5 : I12 0 (uS s 417 ((w32 (41 + x1)).toNat) 1)) :
  Sp X d 246 [mR 407, mI x1] s Q := by
  have L : ∀ k : Nat, (∀ (y2 : Int) (s : mSt), I12 y2 s → m12 y2 s < k → Wp X d 246 12 [some (mR 407), some (mI x1), some (mI y2)] [] s Q) := by
    intro k
    induction k with
    | zero => exact fun _ _ _ h => absurd h (Nat.not_lt_zero _)
    | succ k ih => exact fun y2 s hI hm => b246_12 (fun q1 => b246_37 (z1 y2 s hI q1)) (fun q2 => b246_17 (z2 y2 s hI q2) (ih (w32 (y2 + 1)) (uS s 417 ((w32 ((w32 (47 + (w32 (5 * x1)))) + y2)).toNat) (-1)) (z3 y2 s hI q2).1 (Nat.lt_of_lt_of_le (z3 y2 s hI q2).2 (Nat.le_of_lt_succ hm))))
  exact e246 (b246_0 z4 ((L (m12 0 (uS s 417 ((w32 (41 + x1)).toNat) 1) + 1)) 0 (uS s 417 ((w32 (41 + x1)).toNat) 1) z5 (Nat.lt_succ_self _)))

theorem c246 {X : (Nat → Int) × Nat} {d : Nat} {s : mSt} {Q : mQ} {x1 : Int} (p1 : 0 ≤ x1 ∧ x1 < 6) (k : Q none (uR s (wtR (s 417) x1.toNat))) : Sp X d 246 [mR 407, mI x1] s Q := by
  obtain ⟨c, rfl⟩ := nat_of p1.1
  rw [tnc] at k
  have e1 : w32 (5 * (c : Int)) = 5 * (c : Int) := w32_of (by omega)
  have e2 : w32 (47 + 5 * (c : Int)) = 47 + 5 * (c : Int) := w32_of (by omega)
  refine v246 (fun y t => ∃ j : Nat, y = j ∧ j ≤ 5 ∧ t = uC s 417 (fun i => if i = 41 + c then 1 else if 47 + 5 * c ≤ i ∧ i < 47 + 5 * c + j then -1 else s 417 i)) (fun y _ => (5 - y).toNat) ?_ ?_ ?_ ?_ ?_
  · rintro _ _ ⟨j, rfl, hj, rfl⟩ hc
    have : j = 5 := by omega
    subst this
    have e3 : wtR (s 417) c = (fun i => if i = 41 + c then 1 else if 47 + 5 * c ≤ i ∧ i < 47 + 5 * c + 5 then -1 else s 417 i) := by
      funext i; unfold wtR; simp only [show 47 + 5 * c + 5 = 52 + 5 * c by omega]
    unfold uR at k
    rw [e3] at k
    exact k
  · rintro _ _ ⟨j, rfl, hj, rfl⟩ hc
    rw [e1, e2, w32_of (by omega)]; omega
  · rintro _ _ ⟨j, rfl, hj, rfl⟩ hc
    rw [e1, e2, wt (n := 47 + 5 * c + j) (by omega) (by omega), w32_of (by omega)]
    refine ⟨⟨j + 1, by omega, by omega, ?_⟩, by omega⟩
    rw [uS_uC2]
    refine congrArg (uC s 417) ?_
    funext i
    unfold up
    try dsimp only
    by_cases h1 : i = 47 + 5 * c + j
    · rw [if_pos h1, if_neg (by omega), if_pos (by omega)]
    · rw [if_neg h1]
      by_cases h2 : i = 41 + c
      · rw [if_pos h2, if_pos h2]
      · rw [if_neg h2, if_neg h2]
        by_cases h3 : 47 + 5 * c ≤ i ∧ i < 47 + 5 * c + j
        · rw [if_pos h3, if_pos (by omega)]
        · rw [if_neg h3, if_neg (by omega)]
  · rw [w32_of (by omega)]; omega
  · refine ⟨0, rfl, by omega, ?_⟩
    rw [wt (n := 41 + c) (by omega) (by omega), uS_uC]
    refine congrArg (uC s 417) ?_
    funext i
    unfold up
    try dsimp only
    by_cases h2 : i = 41 + c
    · rw [if_pos h2, if_pos h2]
    · rw [if_neg h2, if_neg h2, if_neg (by omega)]
def dlK (a : Rw) (p : Nat) (n : Int) (m : Nat) : Rw := fun j => if j = 6 + p then dlS a p n else
  if 41 ≤ j ∧ j < 47 then (if j - 41 < m ∧ ss a (j - 41) p = true then 1 else a j) else
  if 47 ≤ j ∧ j < 77 then (if (j - 47) / 5 < m ∧ ss a ((j - 47) / 5) p = true then -1 else a j) else a j
theorem dlK_o {a : Rw} {p j m : Nat} {n : Int} (hp : p < 5) (h : j < 41 ∨ 77 ≤ j) : dlK a p n m j = if j = 6 + p then dlS a p n else a j := by
  unfold dlK
  by_cases e : j = 6 + p
  · rw [if_pos e, if_pos e]
  · rw [if_neg e, if_neg (by omega), if_neg (by omega), if_neg e]
theorem dlK_W {a : Rw} {p c m : Nat} {n : Int} (hp : p < 5) (hc : c < 6) : dlK a p n m (41 + c) = if c < m ∧ ss a c p = true then 1 else a (41 + c) := by
  unfold dlK
  rw [if_neg (by omega), if_pos (by omega), Nat.add_sub_cancel_left]
theorem dlK_B {a : Rw} {p c q m : Nat} {n : Int} (hp : p < 5) (hc : c < 6) (hq : q < 5) : bg (dlK a p n m) c q = if c < m ∧ ss a c p = true then -1 else bg a c q := by
  unfold bg dlK
  rw [if_neg (by omega), if_neg (by omega), if_pos (by omega), show (47 + 5 * c + q - 47) / 5 = c by omega]
theorem v258 {X : (Nat → Int) × Nat} {d : Nat} {s : mSt} {Q : mQ} {x1 : Int} {x2 : Int}
  (I43 : Int → mSt → Prop) (m43 : Int → mSt → Nat)
  (z1 : ∀ y3 : Int, ∀ s : mSt, I43 y3 s → (s 417 4) ≤ y3 → Q none s)
  (z2 : ∀ y3 : Int, ∀ s : mSt, I43 y3 s → ¬ (s 417 4) ≤ y3 → (0 ≤ y3 ∧ y3 < 6) ∧ (0 ≤ x1 ∧ x1 < 5))
  (z3 : ∀ y3 : Int, ∀ s : mSt, I43 y3 s → ¬ (s 417 4) ≤ y3 → ss (s 417) y3.toNat x1.toNat = true → 0 ≤ y3 ∧ y3 < 6)
  (z4 : ∀ y3 : Int, ∀ s : mSt, I43 y3 s → ¬ (s 417 4) ≤ y3 → ss (s 417) y3.toNat x1.toNat = true → I43 (w32 (y3 + 1)) (uR s (wtR (s 417) y3.toNat)) ∧ m43 (w32 (y3 + 1)) (uR s (wtR (s 417) y3.toNat)) < m43 y3 s)
  (z5 : ∀ y3 : Int, ∀ s : mSt, I43 y3 s → ¬ (s 417 4) ≤ y3 → ¬ (ss (s 417) y3.toNat x1.toNat = true) → I43 (w32 (y3 + 1)) s ∧ m43 (w32 (y3 + 1)) s < m43 y3 s)
  (z6 : 0 ≤ (w32 (6 + x1)) ∧ (w32 (6 + x1)) < 166)
  (z7 : 15 ≤ (w32 ((s 417 (w32 (6 + x1)).toNat) + x2)) → 0 ≤ (w32 (6 + x1)) ∧ (w32 (6 + x1)) < 166)
  (z8 : 15 ≤ (w32 ((s 417 (w32 (6 + x1)).toNat) + x2)) → I43 0 (uS s 417 (w32 (6 + x1)).toNat 15))
  (z9 : ¬ 15 ≤ (w32 ((s 417 (w32 (6 + x1)).toNat) + x2)) → 0 ≤ (w32 (6 + x1)) ∧ (w32 (6 + x1)) < 166)
  (z10 : ¬ 15 ≤ (w32 ((s 417 (w32 (6 + x1)).toNat) + x2)) → I43 0 (uS s 417 (w32 (6 + x1)).toNat (w32 ((s 417 (w32 (6 + x1)).toNat) + x2)))) :
  Sp X (d + 2) 258 [mR 407, mI x1, mI x2] s Q := by
  have L : ∀ k : Nat, (∀ (y3 : Int) (s : mSt), I43 y3 s → m43 y3 s < k → Wp X (d + 2) 258 43 [some (mR 407), some (mI x1), some (mI x2), some (mI y3)] [] s Q) := by
    intro k
    induction k with
    | zero => exact fun _ _ _ h => absurd h (Nat.not_lt_zero _)
    | succ k ih => exact fun y3 s hI hm => b258_43 (fun q1 => b258_73 (z1 y3 s hI q1)) (fun q2 => b258_53 (c217 (z2 y3 s hI q2) (fun q3 => ⟨1, rfl, b258_59 (fun q => absurd q (by decide)) (fun _ => b258_62 (c246 (z3 y3 s hI q2 q3) ⟨rfl, b258_67 (ih (w32 (y3 + 1)) (uR s (wtR (s 417) y3.toNat)) (z4 y3 s hI q2 q3).1 (Nat.lt_of_lt_of_le (z4 y3 s hI q2 q3).2 (Nat.le_of_lt_succ hm)))⟩))⟩) (fun q4 => ⟨0, rfl, b258_59 (fun _ => b258_67 (ih (w32 (y3 + 1)) s (z5 y3 s hI q2 q4).1 (Nat.lt_of_lt_of_le (z5 y3 s hI q2 q4).2 (Nat.le_of_lt_succ hm)))) (fun q => absurd q (by decide))⟩)))
  exact e258 (b258_0 z6 (fun q5 => b258_38 (b258_40 (z7 q5) ((L (m43 0 (uS s 417 (w32 (6 + x1)).toNat 15) + 1)) 0 (uS s 417 (w32 (6 + x1)).toNat 15) (z8 q5) (Nat.lt_succ_self _)))) (fun q6 => b258_24 (z9 q6) (b258_40 (z9 q6) ((L (m43 0 (uS s 417 (w32 (6 + x1)).toNat (w32 ((s 417 (w32 (6 + x1)).toNat) + x2))) + 1)) 0 (uS s 417 (w32 (6 + x1)).toNat (w32 ((s 417 (w32 (6 + x1)).toNat) + x2))) (z10 q6) (Nat.lt_succ_self _)))))

theorem c258 {X : (Nat → Int) × Nat} {d : Nat} {s : mSt} {Q : mQ} {x1 : Int} {x2 : Int} (p1 : Ok (s 417) ∧ (0 ≤ x1 ∧ x1 < s 417 3) ∧ (1 ≤ x2 ∧ x2 ≤ 9)) (k : Q none (uR s (dlR (s 417) x1.toNat x2))) : Sp X (d + 2) 258 [mR 407, mI x1, mI x2] s Q := by
  obtain ⟨h, h1, h2⟩ := p1
  have h3 := npI h
  have h4 := ncI h
  have n5 := np_le h
  have n6 := nc_le h
  obtain ⟨p, rfl⟩ := nat_of h1.1
  rw [tnc] at k
  have bS := okS h (p := p) (by omega)
  have e6 : (w32 (6 + (p : Int))).toNat = 6 + p := wt (by omega) (by omega)
  have e7 : w32 (s 417 (6 + p) + x2) = s 417 (6 + p) + x2 := w32_of (by omega)
  have hss : ∀ m i : Nat, i < 6 → ss (dlK (s 417) p x2 m) i p = ss (s 417) i p := fun m i hi => by
    unfold ss; rw [dlK_o (by omega) (by omega), if_neg (by omega)]
  have h4' : ∀ m : Nat, dlK (s 417) p x2 m 4 = s 417 4 := fun m => by rw [dlK_o (by omega) (by omega), if_neg (by omega)]
  have st0 : up (s 417) (6 + p) (dlS (s 417) p x2) = dlK (s 417) p x2 0 := by
    refine row_ext (fun j hj => ?_) (fun c hc => ?_) (fun c hc q hq => ?_)
    · rw [dlK_o (by omega) hj]; rfl
    · rw [dlK_W (by omega) hc, up_ne (by omega), if_neg (by omega)]
    · rw [dlK_B (by omega) hc hq, if_neg (by omega)]; unfold bg; rw [up_ne (by omega)]
  refine v258 (fun y t => ∃ j : Nat, y = j ∧ j ≤ nc (s 417) ∧ t = uC s 417 (dlK (s 417) p x2 j)) (fun y _ => (6 - y).toNat) ?_ ?_ ?_ ?_ ?_ ?_ ?_ ?_ ?_ ?_
  · rintro _ _ ⟨j, rfl, hj, rfl⟩ hc
    rw [uC_at, h4'] at hc
    have : j = nc (s 417) := by omega
    subst this
    exact k
  · rintro _ _ ⟨j, rfl, hj, rfl⟩ hc
    rw [uC_at, h4'] at hc
    omega
  · rintro _ _ ⟨j, rfl, hj, rfl⟩ hc _
    rw [uC_at, h4'] at hc
    omega
  · rintro _ _ ⟨j, rfl, hj, rfl⟩ hc q
    rw [uC_at, h4'] at hc
    rw [uC_at, tnc, tnc, hss _ _ (by omega)] at q
    rw [w32_of (by omega), uC_at, tnc]
    refine ⟨⟨j + 1, by omega, by omega, ?_⟩, by omega⟩
    unfold uR
    rw [uC_uC]
    refine congrArg (uC s 417) ?_
    refine row_ext (fun i hi => ?_) (fun i hi => ?_) (fun i hi q' hq => ?_)
    · rw [wtR_o hi (by omega), dlK_o (by omega) hi, dlK_o (by omega) hi]
    · rw [wtR_W hi, dlK_W (by omega) hi, dlK_W (by omega) hi]
      by_cases z : i = j
      · subst z; rw [if_pos rfl, if_pos ⟨by omega, q⟩]
      · rw [if_neg z]
        by_cases w : i < j ∧ ss (s 417) i p = true
        · rw [if_pos w, if_pos ⟨by omega, w.2⟩]
        · rw [if_neg w, if_neg (fun v => w ⟨by omega, v.2⟩)]
    · rw [wtR_B (by omega) hq, dlK_B (by omega) hi hq, dlK_B (by omega) hi hq]
      by_cases z : i = j
      · subst z; rw [if_pos rfl, if_pos ⟨by omega, q⟩]
      · rw [if_neg z]
        by_cases w : i < j ∧ ss (s 417) i p = true
        · rw [if_pos w, if_pos ⟨by omega, w.2⟩]
        · rw [if_neg w, if_neg (fun v => w ⟨by omega, v.2⟩)]
  · rintro _ _ ⟨j, rfl, hj, rfl⟩ hc q
    rw [uC_at, h4'] at hc
    rw [uC_at, tnc, tnc, hss _ _ (by omega)] at q
    rw [w32_of (by omega)]
    refine ⟨⟨j + 1, by omega, by omega, ?_⟩, by omega⟩
    refine congrArg (uC s 417) ?_
    have hz : ∀ i, (i < j + 1 ∧ ss (s 417) i p = true) ↔ (i < j ∧ ss (s 417) i p = true) := fun i => by
      constructor
      · rintro ⟨z1, z2⟩
        refine ⟨?_, z2⟩
        rcases Nat.lt_or_eq_of_le (Nat.le_of_lt_succ z1) with z | z
        · exact z
        · subst z; exact absurd z2 q
      · rintro ⟨z1, z2⟩; exact ⟨by omega, z2⟩
    unfold dlK
    simp only [hz]
  · rw [w32_of (by omega)]; omega
  · intro _; rw [w32_of (by omega)]; omega
  · intro q
    rw [e6, e7] at q
    refine ⟨0, rfl, by omega, ?_⟩
    rw [e6, uS_uC, ← st0]
    refine congrArg (fun x => uC s 417 (up (s 417) (6 + p) x)) ?_
    unfold dlS; split <;> omega
  · intro _; rw [w32_of (by omega)]; omega
  · intro q
    rw [e6, e7] at q
    refine ⟨0, rfl, by omega, ?_⟩
    rw [e6, e7, uS_uC, ← st0]
    refine congrArg (fun x => uC s 417 (up (s 417) (6 + p) x)) ?_
    unfold dlS; split <;> omega
/-- what is kept, what is laid back -/
def kpR (a r : Rw) : Rw := fun j => if j < 72 then a (5 + j) else r j
def lbk (a r : Rw) : Rw := fun j => if 5 ≤ j ∧ j < 77 then r (j - 5) else a j
theorem v277 {X : (Nat → Int) × Nat} {d : Nat} {s : mSt} {Q : mQ}
  (I2 : Int → mSt → Prop) (m2 : Int → mSt → Nat)
  (z1 : ∀ y1 : Int, ∀ s : mSt, I2 y1 s → 72 ≤ y1 → Q none s)
  (z2 : ∀ y1 : Int, ∀ s : mSt, I2 y1 s → ¬ 72 ≤ y1 → 0 ≤ (w32 (5 + y1)) ∧ (w32 (5 + y1)) < 166)
  (z3 : ∀ y1 : Int, ∀ s : mSt, I2 y1 s → ¬ 72 ≤ y1 → 0 ≤ y1 ∧ y1 < 72)
  (z4 : ∀ y1 : Int, ∀ s : mSt, I2 y1 s → ¬ 72 ≤ y1 → I2 (w32 (y1 + 1)) (uS s 429 y1.toNat (s 417 (w32 (5 + y1)).toNat)) ∧ m2 (w32 (y1 + 1)) (uS s 429 y1.toNat (s 417 (w32 (5 + y1)).toNat)) < m2 y1 s)
  (z5 : I2 0 s) :
  Sp X d 277 [mR 407] s Q := by
  have L : ∀ k : Nat, (∀ (y1 : Int) (s : mSt), I2 y1 s → m2 y1 s < k → Wp X d 277 2 [some (mR 407), some (mI y1)] [] s Q) := by
    intro k
    induction k with
    | zero => exact fun _ _ _ h => absurd h (Nat.not_lt_zero _)
    | succ k ih => exact fun y1 s hI hm => b277_2 (fun q1 => b277_28 (z1 y1 s hI q1)) (fun q2 => b277_8 (z2 y1 s hI q2) (z3 y1 s hI q2) (ih (w32 (y1 + 1)) (uS s 429 y1.toNat (s 417 (w32 (5 + y1)).toNat)) (z4 y1 s hI q2).1 (Nat.lt_of_lt_of_le (z4 y1 s hI q2).2 (Nat.le_of_lt_succ hm))))
  exact e277 (b277_0 ((L (m2 0 s + 1)) 0 s z5 (Nat.lt_succ_self _)))

theorem c277 {X : (Nat → Int) × Nat} {d : Nat} {s : mSt} {Q : mQ} (k : Q none (uC s 429 (kpR (s 417) (s 429)))) : Sp X d 277 [mR 407] s Q := by
  refine v277 (fun y t => ∃ j : Nat, y = j ∧ j ≤ 72 ∧ t = uC s 429 (fun i => if i < j then s 417 (5 + i) else s 429 i)) (fun y _ => (72 - y).toNat) ?_ ?_ ?_ ?_ ?_
  · rintro _ _ ⟨j, rfl, hj, rfl⟩ hc
    have : j = 72 := by omega
    subst this
    exact k
  · rintro _ _ ⟨j, rfl, hj, rfl⟩ hc
    rw [w32_of (by omega)]; omega
  · rintro _ _ ⟨j, rfl, hj, rfl⟩ hc
    omega
  · rintro _ _ ⟨j, rfl, hj, rfl⟩ hc
    rw [wt (n := 5 + j) (by omega) (by omega), w32_of (by omega), tnc]
    refine ⟨⟨j + 1, by omega, by omega, ?_⟩, by omega⟩
    rw [uS_uC2, uC_ne (by decide)]
    refine congrArg (uC s 429) ?_
    funext i
    unfold up
    try dsimp only
    by_cases h1 : i = j
    · subst h1; rw [if_pos rfl, if_pos (by omega)]
    · rw [if_neg h1]
      by_cases h2 : i < j
      · rw [if_pos h2, if_pos (by omega)]
      · rw [if_neg h2, if_neg (by omega)]
  · refine ⟨0, rfl, by omega, ?_⟩
    simp only [Nat.not_lt_zero, if_false]
    exact (uC_self s 429).symm
theorem v278 {X : (Nat → Int) × Nat} {d : Nat} {s : mSt} {Q : mQ}
  (I2 : Int → mSt → Prop) (m2 : Int → mSt → Nat)
  (z1 : ∀ y1 : Int, ∀ s : mSt, I2 y1 s → 72 ≤ y1 → Q none s)
  (z2 : ∀ y1 : Int, ∀ s : mSt, I2 y1 s → ¬ 72 ≤ y1 → 0 ≤ y1 ∧ y1 < 72)
  (z3 : ∀ y1 : Int, ∀ s : mSt, I2 y1 s → ¬ 72 ≤ y1 → 0 ≤ (w32 (5 + y1)) ∧ (w32 (5 + y1)) < 166)
  (z4 : ∀ y1 : Int, ∀ s : mSt, I2 y1 s → ¬ 72 ≤ y1 → I2 (w32 (y1 + 1)) (uS s 417 ((w32 (5 + y1)).toNat) (s 429 y1.toNat)) ∧ m2 (w32 (y1 + 1)) (uS s 417 ((w32 (5 + y1)).toNat) (s 429 y1.toNat)) < m2 y1 s)
  (z5 : I2 0 s) :
  Sp X d 278 [mR 407] s Q := by
  have L : ∀ k : Nat, (∀ (y1 : Int) (s : mSt), I2 y1 s → m2 y1 s < k → Wp X d 278 2 [some (mR 407), some (mI y1)] [] s Q) := by
    intro k
    induction k with
    | zero => exact fun _ _ _ h => absurd h (Nat.not_lt_zero _)
    | succ k ih => exact fun y1 s hI hm => b278_2 (fun q1 => b278_28 (z1 y1 s hI q1)) (fun q2 => b278_8 (z2 y1 s hI q2) (z3 y1 s hI q2) (ih (w32 (y1 + 1)) (uS s 417 ((w32 (5 + y1)).toNat) (s 429 y1.toNat)) (z4 y1 s hI q2).1 (Nat.lt_of_lt_of_le (z4 y1 s hI q2).2 (Nat.le_of_lt_succ hm))))
  exact e278 (b278_0 ((L (m2 0 s + 1)) 0 s z5 (Nat.lt_succ_self _)))

theorem c278 {X : (Nat → Int) × Nat} {d : Nat} {s : mSt} {Q : mQ} (k : Q none (uR s (lbk (s 417) (s 429)))) : Sp X d 278 [mR 407] s Q := by
  refine v278 (fun y t => ∃ j : Nat, y = j ∧ j ≤ 72 ∧ t = uC s 417 (fun i => if 5 ≤ i ∧ i < 5 + j then s 429 (i - 5) else s 417 i)) (fun y _ => (72 - y).toNat) ?_ ?_ ?_ ?_ ?_
  · rintro _ _ ⟨j, rfl, hj, rfl⟩ hc
    have : j = 72 := by omega
    subst this
    exact k
  · rintro _ _ ⟨j, rfl, hj, rfl⟩ hc
    omega
  · rintro _ _ ⟨j, rfl, hj, rfl⟩ hc
    rw [w32_of (by omega)]; omega
  · rintro _ _ ⟨j, rfl, hj, rfl⟩ hc
    rw [wt (n := 5 + j) (by omega) (by omega), w32_of (by omega), tnc]
    refine ⟨⟨j + 1, by omega, by omega, ?_⟩, by omega⟩
    rw [uS_uC2, uC_ne (by decide)]
    refine congrArg (uC s 417) ?_
    funext i
    unfold up
    try dsimp only
    by_cases h1 : i = 5 + j
    · subst h1; rw [if_pos rfl, if_pos (by omega), Nat.add_sub_cancel_left]
    · rw [if_neg h1]
      by_cases h2 : 5 ≤ i ∧ i < 5 + j
      · rw [if_pos h2, if_pos (by omega)]
      · rw [if_neg h2, if_neg (by omega)]
  · refine ⟨0, rfl, by omega, ?_⟩
    have : (fun i => if 5 ≤ i ∧ i < 5 + 0 then s 429 (i - 5) else s 417 i) = s 417 := by
      funext i; rw [if_neg (by omega)]
    rw [this, uC_self]
/-- all as the text told it -/
def anK (a : Rw) (j1 j2 j3 j4 : Nat) : Rw := fun i => if i = 5 then 0 else if 6 ≤ i ∧ i < 6 + j1 then a (i + 76) else if 11 ≤ i ∧ i < 11 + j2 then a (i + 76) else if 41 ≤ i ∧ i < 41 + j3 then 1 else if 47 ≤ i ∧ i < 47 + j4 then -1 else a i
def anew (a : Rw) : Rw := anK a 5 30 6 30
theorem anK_t {a : Rw} {j1 j2 j3 j4 i : Nat} (h1 : j1 ≤ 5) (h2 : j2 ≤ 30) (h3 : j3 ≤ 6) (h4 : j4 ≤ 30) (hi : 77 ≤ i) : anK a j1 j2 j3 j4 i = a i := by
  unfold anK
  rw [if_neg (by omega), if_neg (by omega), if_neg (by omega), if_neg (by omega), if_neg (by omega)]
theorem anK_1 {a : Rw} {j : Nat} (hj : j < 5) : up (anK a j 0 0 0) (6 + j) (a (82 + j)) = anK a (j + 1) 0 0 0 := by
  funext i
  unfold up anK
  by_cases h1 : i = 6 + j
  · subst h1; rw [if_pos rfl, if_neg (by omega), if_pos (by omega), show 6 + j + 76 = 82 + j by omega]
  · rw [if_neg h1]
    simp only [show (6 ≤ i ∧ i < 6 + (j + 1)) ↔ (6 ≤ i ∧ i < 6 + j) from by omega]
theorem anK_2 {a : Rw} {j : Nat} (hj : j < 30) : up (anK a 5 j 0 0) (11 + j) (a (87 + j)) = anK a 5 (j + 1) 0 0 := by
  funext i
  unfold up anK
  by_cases h1 : i = 11 + j
  · subst h1; rw [if_pos rfl, if_neg (by omega), if_neg (by omega), if_pos (by omega), show 11 + j + 76 = 87 + j by omega]
  · rw [if_neg h1]
    simp only [show (11 ≤ i ∧ i < 11 + (j + 1)) ↔ (11 ≤ i ∧ i < 11 + j) from by omega]
theorem anK_3 {a : Rw} {j : Nat} (hj : j < 6) : up (anK a 5 30 j 0) (41 + j) 1 = anK a 5 30 (j + 1) 0 := by
  funext i
  unfold up anK
  by_cases h1 : i = 41 + j
  · subst h1; rw [if_pos rfl, if_neg (by omega), if_neg (by omega), if_neg (by omega), if_pos (by omega)]
  · rw [if_neg h1]
    simp only [show (41 ≤ i ∧ i < 41 + (j + 1)) ↔ (41 ≤ i ∧ i < 41 + j) from by omega]
theorem anK_4 {a : Rw} {j : Nat} (hj : j < 30) : up (anK a 5 30 6 j) (47 + j) (-1) = anK a 5 30 6 (j + 1) := by
  funext i
  unfold up anK
  by_cases h1 : i = 47 + j
  · subst h1; rw [if_pos rfl, if_neg (by omega), if_neg (by omega), if_neg (by omega), if_neg (by omega), if_pos (by omega)]
  · rw [if_neg h1]
    simp only [show (47 ≤ i ∧ i < 47 + (j + 1)) ↔ (47 ≤ i ∧ i < 47 + j) from by omega]
theorem anK_0 (a : Rw) : up a 5 0 = anK a 0 0 0 0 := by
  funext i
  unfold up anK
  by_cases h1 : i = 5
  · rw [if_pos h1, if_pos h1]
  · rw [if_neg h1, if_neg h1, if_neg (by omega), if_neg (by omega), if_neg (by omega), if_neg (by omega)]
theorem v227 {X : (Nat → Int) × Nat} {d : Nat} {s : mSt} {Q : mQ}
  (I9 : Int → mSt → Prop) (m9 : Int → mSt → Nat)
  (I40 : Int → mSt → Prop) (m40 : Int → mSt → Nat)
  (I72 : Int → mSt → Prop) (m72 : Int → mSt → Nat)
  (I96 : Int → mSt → Prop) (m96 : Int → mSt → Nat)
  (z1 : ∀ y1 : Int, ∀ s : mSt, I9 y1 s → 5 ≤ y1 → I40 0 s ∧ m40 0 s < m9 y1 s)
  (z2 : ∀ y1 : Int, ∀ s : mSt, I9 y1 s → ¬ 5 ≤ y1 → 0 ≤ (w32 (82 + y1)) ∧ (w32 (82 + y1)) < 166)
  (z3 : ∀ y1 : Int, ∀ s : mSt, I9 y1 s → ¬ 5 ≤ y1 → 0 ≤ (w32 (6 + y1)) ∧ (w32 (6 + y1)) < 166)
  (z4 : ∀ y1 : Int, ∀ s : mSt, I9 y1 s → ¬ 5 ≤ y1 → I9 (w32 (y1 + 1)) (uS s 417 ((w32 (6 + y1)).toNat) (s 417 (w32 (82 + y1)).toNat)) ∧ m9 (w32 (y1 + 1)) (uS s 417 ((w32 (6 + y1)).toNat) (s 417 (w32 (82 + y1)).toNat)) < m9 y1 s)
  (z5 : ∀ y1 : Int, ∀ s : mSt, I40 y1 s → 30 ≤ y1 → I72 0 s ∧ m72 0 s < m40 y1 s)
  (z6 : ∀ y1 : Int, ∀ s : mSt, I40 y1 s → ¬ 30 ≤ y1 → 0 ≤ (w32 (87 + y1)) ∧ (w32 (87 + y1)) < 166)
  (z7 : ∀ y1 : Int, ∀ s : mSt, I40 y1 s → ¬ 30 ≤ y1 → 0 ≤ (w32 (11 + y1)) ∧ (w32 (11 + y1)) < 166)
  (z8 : ∀ y1 : Int, ∀ s : mSt, I40 y1 s → ¬ 30 ≤ y1 → I40 (w32 (y1 + 1)) (uS s 417 ((w32 (11 + y1)).toNat) (s 417 (w32 (87 + y1)).toNat)) ∧ m40 (w32 (y1 + 1)) (uS s 417 ((w32 (11 + y1)).toNat) (s 417 (w32 (87 + y1)).toNat)) < m40 y1 s)
  (z9 : ∀ y1 : Int, ∀ s : mSt, I72 y1 s → 6 ≤ y1 → I96 0 s ∧ m96 0 s < m72 y1 s)
  (z10 : ∀ y1 : Int, ∀ s : mSt, I72 y1 s → ¬ 6 ≤ y1 → 0 ≤ (w32 (41 + y1)) ∧ (w32 (41 + y1)) < 166)
  (z11 : ∀ y1 : Int, ∀ s : mSt, I72 y1 s → ¬ 6 ≤ y1 → I72 (w32 (y1 + 1)) (uS s 417 ((w32 (41 + y1)).toNat) 1) ∧ m72 (w32 (y1 + 1)) (uS s 417 ((w32 (41 + y1)).toNat) 1) < m72 y1 s)
  (z12 : ∀ y1 : Int, ∀ s : mSt, I96 y1 s → 30 ≤ y1 → Q none s)
  (z13 : ∀ y1 : Int, ∀ s : mSt, I96 y1 s → ¬ 30 ≤ y1 → 0 ≤ (w32 (47 + y1)) ∧ (w32 (47 + y1)) < 166)
  (z14 : ∀ y1 : Int, ∀ s : mSt, I96 y1 s → ¬ 30 ≤ y1 → I96 (w32 (y1 + 1)) (uS s 417 ((w32 (47 + y1)).toNat) (-1)) ∧ m96 (w32 (y1 + 1)) (uS s 417 ((w32 (47 + y1)).toNat) (-1)) < m96 y1 s)
  (z15 : I9 0 (uS s 417 5 0)) :
  Sp X d 227 [mR 407] s Q := by
  have L : ∀ k : Nat, (∀ (y1 : Int) (s : mSt), I9 y1 s → m9 y1 s < k → Wp X d 227 9 [some (mR 407), some (mI y1)] [] s Q) ∧ (∀ (y1 : Int) (s : mSt), I40 y1 s → m40 y1 s < k → Wp X d 227 40 [some (mR 407), some (mI y1)] [] s Q) ∧ (∀ (y1 : Int) (s : mSt), I72 y1 s → m72 y1 s < k → Wp X d 227 72 [some (mR 407), some (mI y1)] [] s Q) ∧ (∀ (y1 : Int) (s : mSt), I96 y1 s → m96 y1 s < k → Wp X d 227 96 [some (mR 407), some (mI y1)] [] s Q) := by
    intro k
    induction k with
    | zero => exact ⟨fun _ _ _ h => absurd h (Nat.not_lt_zero _), fun _ _ _ h => absurd h (Nat.not_lt_zero _), fun _ _ _ h => absurd h (Nat.not_lt_zero _), fun _ _ _ h => absurd h (Nat.not_lt_zero _)⟩
    | succ k ih => exact ⟨fun y1 s hI hm => b227_9 (fun q1 => b227_38 (ih.2.1 0 s (z1 y1 s hI q1).1 (Nat.lt_of_lt_of_le (z1 y1 s hI q1).2 (Nat.le_of_lt_succ hm)))) (fun q2 => b227_14 (z2 y1 s hI q2) (z3 y1 s hI q2) (ih.1 (w32 (y1 + 1)) (uS s 417 ((w32 (6 + y1)).toNat) (s 417 (w32 (82 + y1)).toNat)) (z4 y1 s hI q2).1 (Nat.lt_of_lt_of_le (z4 y1 s hI q2).2 (Nat.le_of_lt_succ hm)))), fun y1 s hI hm => b227_40 (fun q3 => b227_70 (ih.2.2.1 0 s (z5 y1 s hI q3).1 (Nat.lt_of_lt_of_le (z5 y1 s hI q3).2 (Nat.le_of_lt_succ hm)))) (fun q4 => b227_46 (z6 y1 s hI q4) (z7 y1 s hI q4) (ih.2.1 (w32 (y1 + 1)) (uS s 417 ((w32 (11 + y1)).toNat) (s 417 (w32 (87 + y1)).toNat)) (z8 y1 s hI q4).1 (Nat.lt_of_lt_of_le (z8 y1 s hI q4).2 (Nat.le_of_lt_succ hm)))), fun y1 s hI hm => b227_72 (fun q5 => b227_94 (ih.2.2.2 0 s (z9 y1 s hI q5).1 (Nat.lt_of_lt_of_le (z9 y1 s hI q5).2 (Nat.le_of_lt_succ hm)))) (fun q6 => b227_78 (z10 y1 s hI q6) (ih.2.2.1 (w32 (y1 + 1)) (uS s 417 ((w32 (41 + y1)).toNat) 1) (z11 y1 s hI q6).1 (Nat.lt_of_lt_of_le (z11 y1 s hI q6).2 (Nat.le_of_lt_succ hm)))), fun y1 s hI hm => b227_96 (fun q7 => b227_118 (z12 y1 s hI q7)) (fun q8 => b227_102 (z13 y1 s hI q8) (ih.2.2.2 (w32 (y1 + 1)) (uS s 417 ((w32 (47 + y1)).toNat) (-1)) (z14 y1 s hI q8).1 (Nat.lt_of_lt_of_le (z14 y1 s hI q8).2 (Nat.le_of_lt_succ hm))))⟩
  exact e227 (b227_0 ((L (m9 0 (uS s 417 5 0) + 1)).1 0 (uS s 417 5 0) z15 (Nat.lt_succ_self _)))

theorem c227 {X : (Nat → Int) × Nat} {d : Nat} {s : mSt} {Q : mQ} (k : Q none (uR s (anew (s 417)))) : Sp X d 227 [mR 407] s Q := by
  refine v227 (fun y t => ∃ j : Nat, y = j ∧ j ≤ 5 ∧ t = uC s 417 (anK (s 417) j 0 0 0)) (fun y _ => (200 - y).toNat) (fun y t => ∃ j : Nat, y = j ∧ j ≤ 30 ∧ t = uC s 417 (anK (s 417) 5 j 0 0)) (fun y _ => (150 - y).toNat)
    (fun y t => ∃ j : Nat, y = j ∧ j ≤ 6 ∧ t = uC s 417 (anK (s 417) 5 30 j 0)) (fun y _ => (100 - y).toNat) (fun y t => ∃ j : Nat, y = j ∧ j ≤ 30 ∧ t = uC s 417 (anK (s 417) 5 30 6 j)) (fun y _ => (50 - y).toNat) ?_ ?_ ?_ ?_ ?_ ?_ ?_ ?_ ?_ ?_ ?_ ?_ ?_ ?_ ?_
  · rintro _ _ ⟨j, rfl, hj, rfl⟩ hc
    have : j = 5 := by omega
    subst this
    exact ⟨⟨0, rfl, by omega, rfl⟩, by omega⟩
  · rintro _ _ ⟨j, rfl, hj, rfl⟩ hc
    rw [w32_of (by omega)]; omega
  · rintro _ _ ⟨j, rfl, hj, rfl⟩ hc
    rw [w32_of (by omega)]; omega
  · rintro _ _ ⟨j, rfl, hj, rfl⟩ hc
    rw [wt (n := 6 + j) (by omega) (by omega), wt (n := 82 + j) (by omega) (by omega), w32_of (by omega), uS_uC2, uC_at, anK_t (by omega) (by omega) (by omega) (by omega) (by omega), anK_1 (by omega)]
    exact ⟨⟨j + 1, by omega, by omega, rfl⟩, by omega⟩
  · rintro _ _ ⟨j, rfl, hj, rfl⟩ hc
    have : j = 30 := by omega
    subst this
    exact ⟨⟨0, rfl, by omega, rfl⟩, by omega⟩
  · rintro _ _ ⟨j, rfl, hj, rfl⟩ hc
    rw [w32_of (by omega)]; omega
  · rintro _ _ ⟨j, rfl, hj, rfl⟩ hc
    rw [w32_of (by omega)]; omega
  · rintro _ _ ⟨j, rfl, hj, rfl⟩ hc
    rw [wt (n := 11 + j) (by omega) (by omega), wt (n := 87 + j) (by omega) (by omega), w32_of (by omega), uS_uC2, uC_at, anK_t (by omega) (by omega) (by omega) (by omega) (by omega), anK_2 (by omega)]
    exact ⟨⟨j + 1, by omega, by omega, rfl⟩, by omega⟩
  · rintro _ _ ⟨j, rfl, hj, rfl⟩ hc
    have : j = 6 := by omega
    subst this
    exact ⟨⟨0, rfl, by omega, rfl⟩, by omega⟩
  · rintro _ _ ⟨j, rfl, hj, rfl⟩ hc
    rw [w32_of (by omega)]; omega
  · rintro _ _ ⟨j, rfl, hj, rfl⟩ hc
    rw [wt (n := 41 + j) (by omega) (by omega), w32_of (by omega), uS_uC2, anK_3 (by omega)]
    exact ⟨⟨j + 1, by omega, by omega, rfl⟩, by omega⟩
  · rintro _ _ ⟨j, rfl, hj, rfl⟩ hc
    have : j = 30 := by omega
    subst this
    exact k
  · rintro _ _ ⟨j, rfl, hj, rfl⟩ hc
    rw [w32_of (by omega)]; omega
  · rintro _ _ ⟨j, rfl, hj, rfl⟩ hc
    rw [wt (n := 47 + j) (by omega) (by omega), w32_of (by omega), uS_uC2, anK_4 (by omega)]
    exact ⟨⟨j + 1, by omega, by omega, rfl⟩, by omega⟩
  · exact ⟨0, rfl, by omega, by rw [uS_uC, anK_0]⟩
theorem v248 {X : (Nat → Int) × Nat} {d : Nat} {s : mSt} {Q : mQ}
  (I4 : Int → Int → Prop) (m4 : Int → Int → Nat)
  (z1 : ∀ y1 : Int, ∀ y2 : Int, I4 y1 y2 → 30 ≤ y2 → Q (some (mI y1)) s)
  (z2 : ∀ y1 : Int, ∀ y2 : Int, I4 y1 y2 → ¬ 30 ≤ y2 → Ok (s 417) ∧ (0 ≤ y2 ∧ y2 < 30))
  (z3 : ∀ y1 : Int, ∀ y2 : Int, I4 y1 y2 → ¬ 30 ≤ y2 → (w32 ((s 417 1) - (fre (s 417) y2.toNat))) ≤ y1 → I4 y1 (w32 (y2 + 1)) ∧ m4 y1 (w32 (y2 + 1)) < m4 y1 y2)
  (z4 : ∀ y1 : Int, ∀ y2 : Int, I4 y1 y2 → ¬ 30 ≤ y2 → ¬ (w32 ((s 417 1) - (fre (s 417) y2.toNat))) ≤ y1 → Ok (s 417) ∧ (0 ≤ y2 ∧ y2 < 30))
  (z5 : ∀ y1 : Int, ∀ y2 : Int, I4 y1 y2 → ¬ 30 ≤ y2 → ¬ (w32 ((s 417 1) - (fre (s 417) y2.toNat))) ≤ y1 → I4 (w32 ((s 417 1) - (fre (s 417) y2.toNat))) (w32 (y2 + 1)) ∧ m4 (w32 ((s 417 1) - (fre (s 417) y2.toNat))) (w32 (y2 + 1)) < m4 y1 y2)
  (z6 : I4 0 0) :
  Sp X (d + 4) 248 [mR 407] s Q := by
  have L : ∀ k : Nat, (∀ (y1 : Int) (y2 : Int), I4 y1 y2 → m4 y1 y2 < k → Wp X (d + 4) 248 4 [some (mR 407), some (mI y1), some (mI y2)] [] s Q) := by
    intro k
    induction k with
    | zero => exact fun _ _ _ h => absurd h (Nat.not_lt_zero _)
    | succ k ih => exact fun y1 y2 hI hm => b248_4 (fun q1 => b248_49 (z1 y1 y2 hI q1)) (fun q2 => b248_10 (c223 (z2 y1 y2 hI q2) ⟨_, rfl, b248_21 (fun q3 => b248_41 (b248_42 (ih y1 (w32 (y2 + 1)) (z3 y1 y2 hI q2 q3).1 (Nat.lt_of_lt_of_le (z3 y1 y2 hI q2 q3).2 (Nat.le_of_lt_succ hm))))) (fun q4 => b248_26 (c223 (z4 y1 y2 hI q2 q4) ⟨_, rfl, b248_37 (b248_42 (ih (w32 ((s 417 1) - (fre (s 417) y2.toNat))) (w32 (y2 + 1)) (z5 y1 y2 hI q2 q4).1 (Nat.lt_of_lt_of_le (z5 y1 y2 hI q2 q4).2 (Nat.le_of_lt_succ hm))))⟩))⟩))
  exact e248 (b248_0 ((L (m4 0 0 + 1)) 0 0 z6 (Nat.lt_succ_self _)))

theorem c248 {X : (Nat → Int) × Nat} {d : Nat} {s : mSt} {Q : mQ} (p1 : Ok (s 417)) (k : Q (some (mI (mx (fun t => s 417 1 - fre (s 417) t) 30))) s) : Sp X (d + 4) 248 [mR 407] s Q := by
  have b1 := ok1 p1
  refine v248 (fun y1 y2 => ∃ j : Nat, y2 = j ∧ j ≤ 30 ∧ y1 = mx (fun t => s 417 1 - fre (s 417) t) j) (fun _ y => (30 - y).toNat) ?_ ?_ ?_ ?_ ?_ ?_
  · rintro _ _ ⟨j, rfl, hj, rfl⟩ hc
    have : j = 30 := by omega
    subst this
    exact k
  · rintro _ _ ⟨j, rfl, hj, rfl⟩ hc
    exact ⟨p1, by omega⟩
  · rintro _ _ ⟨j, rfl, hj, rfl⟩ hc q
    have b2 := fre_bd p1 (t := j) (by omega)
    rw [tnc, w32_of (by omega)] at q
    rw [w32_of (by omega)]
    refine ⟨⟨j + 1, by omega, by omega, ?_⟩, by omega⟩
    rw [mx_s, if_neg (by omega)]
  · rintro _ _ ⟨j, rfl, hj, rfl⟩ hc q
    exact ⟨p1, by omega⟩
  · rintro _ _ ⟨j, rfl, hj, rfl⟩ hc q
    have b2 := fre_bd p1 (t := j) (by omega)
    rw [tnc, w32_of (by omega)] at q
    rw [tnc, w32_of (by omega), w32_of (by omega)]
    refine ⟨⟨j + 1, by omega, by omega, ?_⟩, by omega⟩
    rw [mx_s, if_pos (by omega)]
  · exact ⟨0, rfl, by omega, rfl⟩
/-- a sign of a line -/
def sgL (a : Rw) (c t : Nat) : Int := if fd (sIn a c t) (np a) < 0 then (if kpt a c t = true then 107 else 46) else 65 + fd (sIn a c t) (np a)
theorem v265 {X : (Nat → Int) × Nat} {d : Nat} {s : mSt} {Q : mQ} {x1 : Int} {x2 : Int}
  (z1 : Ok (s 417) ∧ (0 ≤ x1 ∧ x1 < 6) ∧ (0 ≤ x2 ∧ x2 < 30))
  (z2 : (fd (sIn (s 417) x1.toNat x2.toNat) (np (s 417))) < 0 → Ok (s 417) ∧ (0 ≤ x1 ∧ x1 < 6) ∧ (0 ≤ x2 ∧ x2 < 30))
  (z3 : (fd (sIn (s 417) x1.toNat x2.toNat) (np (s 417))) < 0 → kpt (s 417) x1.toNat x2.toNat = true → Q (some (mI 107)) s)
  (z4 : (fd (sIn (s 417) x1.toNat x2.toNat) (np (s 417))) < 0 → ¬ (kpt (s 417) x1.toNat x2.toNat = true) → Q (some (mI 46)) s)
  (z5 : ¬ (fd (sIn (s 417) x1.toNat x2.toNat) (np (s 417))) < 0 → Q (some (mI (w32 (65 + (fd (sIn (s 417) x1.toNat x2.toNat) (np (s 417))))))) s) :
  Sp X (d + 4) 265 [mR 407, mI x1, mI x2] s Q := e265 (b265_0 (c222 z1 ⟨_, rfl, b265_6 (fun q1 => b265_18 (c224 (z2 q1) (fun q2 => ⟨1, rfl, b265_24 (fun q => absurd q (by decide)) (fun _ => b265_27 (b265_34 (z3 q1 q2)))⟩) (fun q3 => ⟨0, rfl, b265_24 (fun _ => b265_32 (b265_34 (z4 q1 q3))) (fun q => absurd q (by decide))⟩))) (fun q4 => b265_11 (b265_34 (z5 q4)))⟩))

theorem c265 {X : (Nat → Int) × Nat} {d : Nat} {s : mSt} {Q : mQ} {x1 : Int} {x2 : Int} (p1 : Ok (s 417) ∧ (0 ≤ x1 ∧ x1 < 6) ∧ (0 ≤ x2 ∧ x2 < 30)) (k : Q (some (mI (sgL (s 417) x1.toNat x2.toNat))) s) : Sp X (d + 4) 265 [mR 407, mI x1, mI x2] s Q := by
  have n5 := np_le p1.1
  have b := fd_ge (f := sIn (s 417) x1.toNat x2.toNat) (n := np (s 417))
  unfold sgL at k
  refine v265 p1 (fun _ => p1) (fun q1 q2 => ?_) (fun q1 q2 => ?_) (fun q1 => ?_)
  · rw [if_pos q1, if_pos q2] at k; exact k
  · rw [if_pos q1, if_neg q2] at k; exact k
  · rw [if_neg q1] at k; rw [w32_of (by omega)]; exact k
theorem v271 {X : (Nat → Int) × Nat} {d : Nat} {s : mSt} {Q : mQ} {x1 : Int}
  (I4 : Int → Int → Prop) (m4 : Int → Int → Nat)
  (z1 : ∀ y2 : Int, ∀ y3 : Int, I4 y2 y3 → (s 417 4) ≤ y3 → Q (some (mI y2)) s)
  (z2 : ∀ y2 : Int, ∀ y3 : Int, I4 y2 y3 → ¬ (s 417 4) ≤ y3 → Ok (s 417))
  (z3 : ∀ y2 : Int, ∀ y3 : Int, I4 y2 y3 → ¬ (s 417 4) ≤ y3 → ((0 ≤ y3 ∧ y3 < s 417 4) ∧ s 417 (41 + y3.toNat) = 0) → Ok (s 417) ∧ (0 ≤ y3 ∧ y3 < 6) ∧ (0 ≤ x1 ∧ x1 < 30))
  (z4 : ∀ y2 : Int, ∀ y3 : Int, I4 y2 y3 → ¬ (s 417 4) ≤ y3 → ((0 ≤ y3 ∧ y3 < s 417 4) ∧ s 417 (41 + y3.toNat) = 0) → kpt (s 417) y3.toNat x1.toNat = true → I4 (w32 (y2 + 1)) (w32 (y3 + 1)) ∧ m4 (w32 (y2 + 1)) (w32 (y3 + 1)) < m4 y2 y3)
  (z5 : ∀ y2 : Int, ∀ y3 : Int, I4 y2 y3 → ¬ (s 417 4) ≤ y3 → ((0 ≤ y3 ∧ y3 < s 417 4) ∧ s 417 (41 + y3.toNat) = 0) → ¬ (kpt (s 417) y3.toNat x1.toNat = true) → I4 (w32 (y2 + 0)) (w32 (y3 + 1)) ∧ m4 (w32 (y2 + 0)) (w32 (y3 + 1)) < m4 y2 y3)
  (z6 : ∀ y2 : Int, ∀ y3 : Int, I4 y2 y3 → ¬ (s 417 4) ≤ y3 → (¬ ((0 ≤ y3 ∧ y3 < s 417 4) ∧ s 417 (41 + y3.toNat) = 0)) → I4 (w32 (y2 + 0)) (w32 (y3 + 1)) ∧ m4 (w32 (y2 + 0)) (w32 (y3 + 1)) < m4 y2 y3)
  (z7 : I4 0 0) :
  Sp X (d + 4) 271 [mR 407, mI x1] s Q := by
  have L : ∀ k : Nat, (∀ (y2 : Int) (y3 : Int), I4 y2 y3 → m4 y2 y3 < k → Wp X (d + 4) 271 4 [some (mR 407), some (mI x1), some (mI y2), some (mI y3)] [] s Q) := by
    intro k
    induction k with
    | zero => exact fun _ _ _ h => absurd h (Nat.not_lt_zero _)
    | succ k ih => exact fun y2 y3 hI hm => b271_4 (fun q1 => b271_45 (z1 y2 y3 hI q1)) (fun q2 => b271_14 (c216 (z2 y2 y3 hI q2) (fun q3 => ⟨1, rfl, b271_20 (fun q => absurd q (by decide)) (fun _ => b271_23 (c224 (z3 y2 y3 hI q2 q3) (fun q4 => ⟨1, rfl, b271_29 (fun q => absurd q (by decide)) (fun _ => b271_32 (b271_37 (ih (w32 (y2 + 1)) (w32 (y3 + 1)) (z4 y2 y3 hI q2 q3 q4).1 (Nat.lt_of_lt_of_le (z4 y2 y3 hI q2 q3 q4).2 (Nat.le_of_lt_succ hm)))))⟩) (fun q5 => ⟨0, rfl, b271_29 (fun _ => b271_36 (b271_37 (ih (w32 (y2 + 0)) (w32 (y3 + 1)) (z5 y2 y3 hI q2 q3 q5).1 (Nat.lt_of_lt_of_le (z5 y2 y3 hI q2 q3 q5).2 (Nat.le_of_lt_succ hm))))) (fun q => absurd q (by decide))⟩)))⟩) (fun q6 => ⟨0, rfl, b271_20 (fun _ => b271_36 (b271_37 (ih (w32 (y2 + 0)) (w32 (y3 + 1)) (z6 y2 y3 hI q2 q6).1 (Nat.lt_of_lt_of_le (z6 y2 y3 hI q2 q6).2 (Nat.le_of_lt_succ hm))))) (fun q => absurd q (by decide))⟩)))
  exact e271 (b271_0 ((L (m4 0 0 + 1)) 0 0 z7 (Nat.lt_succ_self _)))

theorem c271 {X : (Nat → Int) × Nat} {d : Nat} {s : mSt} {Q : mQ} {x1 : Int} (p1 : Ok (s 417) ∧ (0 ≤ x1 ∧ x1 < 30)) (k : Q (some (mI (cn (fun c => pl (s 417) c && kpt (s 417) c x1.toNat) (nc (s 417))))) s) : Sp X (d + 4) 271 [mR 407, mI x1] s Q := by
  obtain ⟨h, h1⟩ := p1
  have h4 := ncI h
  have n6 := nc_le h
  refine v271 (fun y1 y2 => ∃ j : Nat, y2 = j ∧ j ≤ nc (s 417) ∧ y1 = cn (fun c => pl (s 417) c && kpt (s 417) c x1.toNat) j) (fun _ y => (6 - y).toNat) ?_ ?_ ?_ ?_ ?_ ?_ ?_
  · rintro _ _ ⟨j, rfl, hj, rfl⟩ hc
    have : j = nc (s 417) := by omega
    subst this
    exact k
  · rintro _ _ ⟨j, rfl, hj, rfl⟩ hc
    exact h
  · rintro _ _ ⟨j, rfl, hj, rfl⟩ hc q
    exact ⟨h, by omega, h1⟩
  · rintro _ _ ⟨j, rfl, hj, rfl⟩ hc q q2
    rw [tnc] at q q2
    have b := cn_le (f := fun c => pl (s 417) c && kpt (s 417) c x1.toNat) (n := j)
    rw [w32_of (by omega), w32_of (by omega)]
    refine ⟨⟨j + 1, by omega, by omega, ?_⟩, by omega⟩
    rw [cn_s, if_pos (by rw [Bool.and_eq_true]; exact ⟨by simp [pl, q.2], q2⟩)]
  · rintro _ _ ⟨j, rfl, hj, rfl⟩ hc q q2
    rw [tnc] at q q2
    have b := cn_le (f := fun c => pl (s 417) c && kpt (s 417) c x1.toNat) (n := j)
    rw [w32_of (by omega), w32_of (by omega)]
    refine ⟨⟨j + 1, by omega, by omega, ?_⟩, by omega⟩
    rw [cn_s, if_neg (by rw [Bool.and_eq_true]; exact fun z => q2 z.2)]
  · rintro _ _ ⟨j, rfl, hj, rfl⟩ hc q
    rw [tnc] at q
    have b := cn_le (f := fun c => pl (s 417) c && kpt (s 417) c x1.toNat) (n := j)
    rw [w32_of (by omega), w32_of (by omega)]
    refine ⟨⟨j + 1, by omega, by omega, ?_⟩, by omega⟩
    rw [cn_s, if_neg (by rw [Bool.and_eq_true]; exact fun z => q ⟨by omega, by simpa [pl] using z.1⟩)]
  · exact ⟨0, rfl, by omega, rfl⟩
theorem mnp_iff {a : Rw} {c c' t p : Nat} : mnp a c c' t p = true ↔ (ss a c p = true ∧ ss a c' p = true) ∧ bg a c' p ≤ t ∧ (t : Int) < bg a c p := by simp [mnp]
theorem v275 {X : (Nat → Int) × Nat} {d : Nat} {s : mSt} {Q : mQ} {x1 : Int} {x2 : Int} {x3 : Int}
  (I23 : Int → Prop) (m23 : Int → Nat)
  (z1 : ∀ y4 : Int, I23 y4 → (s 417 3) ≤ y4 → Q (some (mI 0)) s)
  (z2 : ∀ y4 : Int, I23 y4 → ¬ (s 417 3) ≤ y4 → (0 ≤ x1 ∧ x1 < 6) ∧ (0 ≤ y4 ∧ y4 < 5))
  (z3 : ∀ y4 : Int, I23 y4 → ¬ (s 417 3) ≤ y4 → ss (s 417) x1.toNat y4.toNat = true → (0 ≤ x2 ∧ x2 < 6) ∧ (0 ≤ y4 ∧ y4 < 5))
  (z4 : ∀ y4 : Int, I23 y4 → ¬ (s 417 3) ≤ y4 → ss (s 417) x1.toNat y4.toNat = true → ss (s 417) x2.toNat y4.toNat = true → (0 ≤ x1 ∧ x1 < 6) ∧ (0 ≤ y4 ∧ y4 < 5))
  (z5 : ∀ y4 : Int, I23 y4 → ¬ (s 417 3) ≤ y4 → ss (s 417) x1.toNat y4.toNat = true → ss (s 417) x2.toNat y4.toNat = true → (bg (s 417) x1.toNat y4.toNat) ≤ x3 → I23 (w32 (y4 + 1)) ∧ m23 (w32 (y4 + 1)) < m23 y4)
  (z6 : ∀ y4 : Int, I23 y4 → ¬ (s 417 3) ≤ y4 → ss (s 417) x1.toNat y4.toNat = true → ss (s 417) x2.toNat y4.toNat = true → ¬ (bg (s 417) x1.toNat y4.toNat) ≤ x3 → (0 ≤ x2 ∧ x2 < 6) ∧ (0 ≤ y4 ∧ y4 < 5))
  (z7 : ∀ y4 : Int, I23 y4 → ¬ (s 417 3) ≤ y4 → ss (s 417) x1.toNat y4.toNat = true → ss (s 417) x2.toNat y4.toNat = true → ¬ (bg (s 417) x1.toNat y4.toNat) ≤ x3 → x3 < (bg (s 417) x2.toNat y4.toNat) → I23 (w32 (y4 + 1)) ∧ m23 (w32 (y4 + 1)) < m23 y4)
  (z8 : ∀ y4 : Int, I23 y4 → ¬ (s 417 3) ≤ y4 → ss (s 417) x1.toNat y4.toNat = true → ss (s 417) x2.toNat y4.toNat = true → ¬ (bg (s 417) x1.toNat y4.toNat) ≤ x3 → ¬ x3 < (bg (s 417) x2.toNat y4.toNat) → Q (some (mI 1)) s)
  (z9 : ∀ y4 : Int, I23 y4 → ¬ (s 417 3) ≤ y4 → ss (s 417) x1.toNat y4.toNat = true → ¬ (ss (s 417) x2.toNat y4.toNat = true) → I23 (w32 (y4 + 1)) ∧ m23 (w32 (y4 + 1)) < m23 y4)
  (z10 : ∀ y4 : Int, I23 y4 → ¬ (s 417 3) ≤ y4 → ¬ (ss (s 417) x1.toNat y4.toNat = true) → I23 (w32 (y4 + 1)) ∧ m23 (w32 (y4 + 1)) < m23 y4)
  (z11 : Ok (s 417) ∧ (0 ≤ x1 ∧ x1 < 6) ∧ (0 ≤ x3 ∧ x3 < 30))
  (z12 : 0 ≤ (fd (sIn (s 417) x1.toNat x3.toNat) (np (s 417))) → Q (some (mI 0)) s)
  (z13 : ¬ 0 ≤ (fd (sIn (s 417) x1.toNat x3.toNat) (np (s 417))) → Ok (s 417) ∧ (0 ≤ x2 ∧ x2 < 6) ∧ (0 ≤ x3 ∧ x3 < 30))
  (z14 : ¬ 0 ≤ (fd (sIn (s 417) x1.toNat x3.toNat) (np (s 417))) → (fd (sIn (s 417) x2.toNat x3.toNat) (np (s 417))) < 0 → I23 0)
  (z15 : ¬ 0 ≤ (fd (sIn (s 417) x1.toNat x3.toNat) (np (s 417))) → ¬ (fd (sIn (s 417) x2.toNat x3.toNat) (np (s 417))) < 0 → Q (some (mI 0)) s) :
  Sp X (d + 3) 275 [mR 407, mI x1, mI x2, mI x3] s Q := by
  have L : ∀ k : Nat, (∀ (y4 : Int), I23 y4 → m23 y4 < k → Wp X (d + 3) 275 23 [some (mR 407), some (mI x1), some (mI x2), some (mI x3), some (mI y4)] [] s Q) := by
    intro k
    induction k with
    | zero => exact fun _ _ h => absurd h (Nat.not_lt_zero _)
    | succ k ih => exact fun y4 hI hm => b275_23 (fun q1 => b275_84 (z1 y4 hI q1)) (fun q2 => b275_34 (c217 (z2 y4 hI q2) (fun q3 => ⟨1, rfl, b275_41 (fun q => absurd q (by decide)) (fun _ => b275_44 (c217 (z3 y4 hI q2 q3) (fun q4 => ⟨1, rfl, b275_51 (fun q => absurd q (by decide)) (fun _ => b275_54 (c218 (z4 y4 hI q2 q3 q4) ⟨_, rfl, b275_61 (fun q5 => b275_78 (ih (w32 (y4 + 1)) (z5 y4 hI q2 q3 q4 q5).1 (Nat.lt_of_lt_of_le (z5 y4 hI q2 q3 q4 q5).2 (Nat.le_of_lt_succ hm)))) (fun q6 => b275_65 (c218 (z6 y4 hI q2 q3 q4 q6) ⟨_, rfl, b275_72 (fun q7 => b275_78 (ih (w32 (y4 + 1)) (z7 y4 hI q2 q3 q4 q6 q7).1 (Nat.lt_of_lt_of_le (z7 y4 hI q2 q3 q4 q6 q7).2 (Nat.le_of_lt_succ hm)))) (fun q8 => b275_76 (z8 y4 hI q2 q3 q4 q6 q8))⟩))⟩))⟩) (fun q9 => ⟨0, rfl, b275_51 (fun _ => b275_78 (ih (w32 (y4 + 1)) (z9 y4 hI q2 q3 q9).1 (Nat.lt_of_lt_of_le (z9 y4 hI q2 q3 q9).2 (Nat.le_of_lt_succ hm)))) (fun q => absurd q (by decide))⟩)))⟩) (fun q10 => ⟨0, rfl, b275_41 (fun _ => b275_78 (ih (w32 (y4 + 1)) (z10 y4 hI q2 q10).1 (Nat.lt_of_lt_of_le (z10 y4 hI q2 q10).2 (Nat.le_of_lt_succ hm)))) (fun q => absurd q (by decide))⟩)))
  exact e275 (b275_0 (c222 z11 ⟨_, rfl, b275_6 (fun q11 => b275_18 (z12 q11)) (fun q12 => b275_9 (c222 (z13 q12) ⟨_, rfl, b275_15 (fun q13 => b275_20 ((L (m23 0 + 1)) 0 (z14 q12 q13) (Nat.lt_succ_self _))) (fun q14 => b275_18 (z15 q12 q14))⟩))⟩))

theorem c275 {X : (Nat → Int) × Nat} {d : Nat} {s : mSt} {Q : mQ} {x1 : Int} {x2 : Int} {x3 : Int} (p1 : Ok (s 417) ∧ (0 ≤ x1 ∧ x1 < 6) ∧ (0 ≤ x2 ∧ x2 < 6) ∧ (0 ≤ x3 ∧ x3 < 30)) (k1 : (mnm (s 417) x1.toNat x2.toNat x3.toNat = true) → Q (some (mI 1)) s) (k0 : ¬ (mnm (s 417) x1.toNat x2.toNat x3.toNat = true) → Q (some (mI 0)) s) : Sp X (d + 3) 275 [mR 407, mI x1, mI x2, mI x3] s Q := by
  obtain ⟨h, h1, h2, h3⟩ := p1
  have hn := npI h
  have n5 := np_le h
  obtain ⟨t, rfl⟩ := nat_of h3.1
  rw [tnc] at k1 k0
  have hs : ∀ c : Nat, sat (s 417) c t = true ↔ 0 ≤ fd (sIn (s 417) c t) (np (s 417)) := fun c => by unfold sat; rw [← fd_an]
  have nxt : ∀ j : Nat, an (mnp (s 417) x1.toNat x2.toNat t) j = false → ¬ mnp (s 417) x1.toNat x2.toNat t j = true → an (mnp (s 417) x1.toNat x2.toNat t) (j + 1) = false := fun j q z => by
    rw [an_s, q, bf z]; rfl
  refine v275 (fun y => ∃ j : Nat, y = j ∧ j ≤ np (s 417) ∧ an (mnp (s 417) x1.toNat x2.toNat t) j = false ∧ ¬ sat (s 417) x1.toNat t = true ∧ ¬ sat (s 417) x2.toNat t = true) (fun y => (5 - y).toNat) ?_ ?_ ?_ ?_ ?_ ?_ ?_ ?_ ?_ ?_ ?_ ?_ ?_ ?_ ?_
  · rintro _ ⟨j, rfl, hj, ha, hs1, hs2⟩ hc
    have : j = np (s 417) := by omega
    subst this
    exact k0 (by unfold mnm; rw [ha]; simp)
  · rintro _ ⟨j, rfl, hj, ha, hs1, hs2⟩ hc
    omega
  · rintro _ ⟨j, rfl, hj, ha, hs1, hs2⟩ hc _
    omega
  · rintro _ ⟨j, rfl, hj, ha, hs1, hs2⟩ hc _ _
    omega
  · rintro _ ⟨j, rfl, hj, ha, hs1, hs2⟩ hc q1 q2 q3
    rw [tnc] at q3
    rw [w32_of (by omega)]
    exact ⟨⟨j + 1, by omega, by omega, nxt j ha (fun z => by have := (mnp_iff.1 z).2; omega), hs1, hs2⟩, by omega⟩
  · rintro _ ⟨j, rfl, hj, ha, hs1, hs2⟩ hc _ _ _
    omega
  · rintro _ ⟨j, rfl, hj, ha, hs1, hs2⟩ hc q1 q2 q3 q4
    rw [tnc] at q4
    rw [w32_of (by omega)]
    exact ⟨⟨j + 1, by omega, by omega, nxt j ha (fun z => by have := (mnp_iff.1 z).2; omega), hs1, hs2⟩, by omega⟩
  · rintro _ ⟨j, rfl, hj, ha, hs1, hs2⟩ hc q1 q2 q3 q4
    rw [tnc] at q1 q2 q3 q4
    refine k1 ?_
    unfold mnm
    rw [an_iff.2 ⟨j, by omega, mnp_iff.2 ⟨⟨q1, q2⟩, by omega, by omega⟩⟩, bf hs1, bf hs2]; rfl
  · rintro _ ⟨j, rfl, hj, ha, hs1, hs2⟩ hc q1 q2
    rw [tnc] at q1 q2
    rw [w32_of (by omega)]
    exact ⟨⟨j + 1, by omega, by omega, nxt j ha (fun z => q2 (mnp_iff.1 z).1.2), hs1, hs2⟩, by omega⟩
  · rintro _ ⟨j, rfl, hj, ha, hs1, hs2⟩ hc q1
    rw [tnc] at q1
    rw [w32_of (by omega)]
    exact ⟨⟨j + 1, by omega, by omega, nxt j ha (fun z => q1 (mnp_iff.1 z).1.1), hs1, hs2⟩, by omega⟩
  · exact ⟨h, h1, h3⟩
  · intro q
    rw [tnc] at q
    exact k0 (by unfold mnm; rw [(hs _).2 q]; simp)
  · intro _; exact ⟨h, h2, h3⟩
  · intro q q2
    rw [tnc] at q q2
    exact ⟨0, rfl, by omega, rfl, fun z => q ((hs _).1 z), fun z => by have := (hs _).1 z; omega⟩
  · intro q q2
    rw [tnc] at q2
    exact k0 (by unfold mnm; rw [(hs x2.toNat).2 (by omega)]; simp)
theorem v284 {X : (Nat → Int) × Nat} {d : Nat} {s : mSt} {Q : mQ}
  (I4 : Int → Int → Prop) (m4 : Int → Int → Nat)
  (z1 : ∀ y1 : Int, ∀ y2 : Int, I4 y1 y2 → 30 ≤ y2 → Q (some (mI y1)) s)
  (z2 : ∀ y1 : Int, ∀ y2 : Int, I4 y1 y2 → ¬ 30 ≤ y2 → Ok (s 417) ∧ (0 ≤ y2 ∧ y2 < 30))
  (z3 : ∀ y1 : Int, ∀ y2 : Int, I4 y1 y2 → ¬ 30 ≤ y2 → ¬ (fre (s 417) y2.toNat) = 0 → I4 (iOr y1 0) (w32 (y2 + 1)) ∧ m4 (iOr y1 0) (w32 (y2 + 1)) < m4 y1 y2)
  (z4 : ∀ y1 : Int, ∀ y2 : Int, I4 y1 y2 → ¬ 30 ≤ y2 → (fre (s 417) y2.toNat) = 0 → I4 (iOr y1 (iShl 1 y2)) (w32 (y2 + 1)) ∧ m4 (iOr y1 (iShl 1 y2)) (w32 (y2 + 1)) < m4 y1 y2)
  (z5 : I4 0 0) :
  Sp X (d + 4) 284 [mR 407] s Q := by
  have L : ∀ k : Nat, (∀ (y1 : Int) (y2 : Int), I4 y1 y2 → m4 y1 y2 < k → Wp X (d + 4) 284 4 [some (mR 407), some (mI y1), some (mI y2)] [] s Q) := by
    intro k
    induction k with
    | zero => exact fun _ _ _ h => absurd h (Nat.not_lt_zero _)
    | succ k ih => exact fun y1 y2 hI hm => b284_4 (fun q1 => b284_34 (z1 y1 y2 hI q1)) (fun q2 => b284_10 (c223 (z2 y1 y2 hI q2) ⟨_, rfl, b284_16 (fun q3 => b284_25 (b284_26 (ih (iOr y1 0) (w32 (y2 + 1)) (z3 y1 y2 hI q2 q3).1 (Nat.lt_of_lt_of_le (z3 y1 y2 hI q2 q3).2 (Nat.le_of_lt_succ hm))))) (fun q4 => b284_19 (b284_26 (ih (iOr y1 (iShl 1 y2)) (w32 (y2 + 1)) (z4 y1 y2 hI q2 q4).1 (Nat.lt_of_lt_of_le (z4 y1 y2 hI q2 q4).2 (Nat.le_of_lt_succ hm)))))⟩))
  exact e284 (b284_0 ((L (m4 0 0 + 1)) 0 0 z5 (Nat.lt_succ_self _)))

theorem c284 {X : (Nat → Int) × Nat} {d : Nat} {s : mSt} {Q : mQ} (p1 : Ok (s 417)) (k : Q (some (mI (os (fun t => decide (fre (s 417) t = 0)) 30))) s) : Sp X (d + 4) 284 [mR 407] s Q := by
  refine v284 (fun y1 y2 => ∃ j : Nat, y2 = j ∧ j ≤ 30 ∧ y1 = os (fun t => decide (fre (s 417) t = 0)) j) (fun _ y => (30 - y).toNat) ?_ ?_ ?_ ?_ ?_
  · rintro _ _ ⟨j, rfl, hj, rfl⟩ hc
    have : j = 30 := by omega
    subst this
    exact k
  · rintro _ _ ⟨j, rfl, hj, rfl⟩ hc
    exact ⟨p1, by omega⟩
  · rintro _ _ ⟨j, rfl, hj, rfl⟩ hc q
    rw [tnc] at q
    have b := os_30 (f := fun t => decide (fre (s 417) t = 0)) (n := j) hj
    rw [w32_of (by omega), or_0 (by unfold i3; omega)]
    refine ⟨⟨j + 1, by omega, by omega, ?_⟩, by omega⟩
    rw [os_s, if_neg (by simpa using q), Int.add_zero]
  · rintro _ _ ⟨j, rfl, hj, rfl⟩ hc q
    rw [tnc] at q
    rw [w32_of (by omega), shl1 (by omega), or_os (by omega)]
    refine ⟨⟨j + 1, by omega, by omega, ?_⟩, by omega⟩
    rw [os_s, if_pos (by simpa using q)]
  · exact ⟨0, rfl, by omega, rfl⟩
theorem cn_not {f : Nat → Bool} : ∀ {n : Nat}, cn f n + cn (fun i => !f i) n = n
  | 0 => rfl
  | n + 1 => by
    have := cn_not (f := f) (n := n)
    rw [cn_s, cn_s]
    cases f n <;> simp <;> omega
theorem v285 {X : (Nat → Int) × Nat} {d : Nat} {s : mSt} {Q : mQ}
  (z1 : Ok (s 417))
  (z2 : 0 ≤ (wts (s 417)) ∧ (wts (s 417)) < 1073741824)
  (z3 : Q (some (mI (w32 ((s 417 4) - (cn (bq (wts (s 417))) 30))))) s) :
  Sp X (d + 3) 285 [mR 407] s Q := e285 (b285_0 (c221 z1 ⟨_, rfl, b285_10 (c169 z2 ⟨_, rfl, b285_13 z3⟩)⟩))

theorem c285 {X : (Nat → Int) × Nat} {d : Nat} {s : mSt} {Q : mQ} (p1 : Ok (s 417)) (k : Q (some (mI (cn (pl (s 417)) (nc (s 417))))) s) : Sp X (d + 3) 285 [mR 407] s Q := by
  have b := wts_bd p1
  have h4 := ncI p1
  have n6 := nc_le p1
  refine v285 p1 (by omega) ?_
  have e : cn (bq (wts (s 417))) 30 = cn (fun c => !pl (s 417) c) (nc (s 417)) := cn_os (by omega)
  have e2 := cn_not (f := pl (s 417)) (n := nc (s 417))
  have e3 := cn_le (f := pl (s 417)) (n := nc (s 417))
  have e4 := cn_le (f := fun c => !pl (s 417) c) (n := nc (s 417))
  rw [e, w32_of (by omega), show s 417 4 - cn (fun c => !pl (s 417) c) (nc (s 417)) = cn (pl (s 417)) (nc (s 417)) by omega]
  exact k
