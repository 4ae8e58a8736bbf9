/-! turns, undo: the reference -/
theorem stR_ok {w : Nat → Int} {a : Rw} (h : Ok a) (h5 : a 5 < 1000000) : Ok (stR w a) ∧ stR w a 5 = a 5 + 1 := by
  have b5 := ok5 h
  have n6 := nc_le h
  have hc := chA_ok (w := w) (a := a)
  unfold stR
  refine ⟨?_, by unfold up; rw [if_pos rfl]⟩
  by_cases z : chA w a < 0
  · rw [if_pos z]; exact up5_ok h (by omega)
  · rw [if_neg z]
    have hg := plB_g (sM_b h (c := (chA w a).toNat) (by omega)).1.2 (show (plB a (chA w a).toNat (sM a (chA w a).toNat)).1 ≠ 0 from by have := (hc.2 (by omega)).2; unfold pA1 at this; omega)
    exact up5_ok (lay_ok h (by omega) (GP_bd hg)) (by omega)
/-- turns upon turns -/
def stN (R : Rw → Nat → Int) : Nat → Rw → Rw
  | 0, a => a
  | n + 1, a => stR (R (stN R n a)) (stN R n a)
theorem stN_ok {R : Rw → Nat → Int} {a : Rw} (h : Ok a) : ∀ n : Nat, a 5 + n ≤ 1000000 → Ok (stN R n a) ∧ stN R n a 5 = a 5 + n
  | 0, _ => ⟨h, by simp [stN]⟩
  | n + 1, hn => by
    have ih := stN_ok (R := R) h n (by omega)
    have q := stR_ok (w := R (stN R n a)) ih.1 (by omega)
    exact ⟨q.1, by rw [stN, q.2, ih.2]; omega⟩
theorem v252 {X : (Nat → Int) × Nat} {d : Nat} {s : mSt} {Q : mQ} {x1 : Int}
  (I2 : Int → mSt → Prop) (m2 : Int → mSt → Nat)
  (z1 : ∀ y2 : Int, ∀ s : mSt, I2 y2 s → x1 ≤ y2 → Q none s)
  (z2 : ∀ y2 : Int, ∀ s : mSt, I2 y2 s → ¬ x1 ≤ y2 → Ok (s 417) ∧ FOq s ∧ s 417 5 < 1000000)
  (z3 : ∀ y2 : Int, ∀ s : mSt, I2 y2 s → ¬ x1 ≤ y2 → ∀ v3 : Int, ∀ s3 : mSt, (v3 = chA (ruR s (s 417)) (s 417) ∧ s3 417 = stR (ruR s (s 417)) (s 417) ∧ fV s s3) → I2 (w32 (y2 + 1)) s3 ∧ m2 (w32 (y2 + 1)) s3 < m2 y2 s)
  (z4 : I2 0 s) :
  Sp X (d + 8) 252 [mR 407, mI x1] s Q := by
  have L : ∀ k : Nat, (∀ (y2 : Int) (s : mSt), I2 y2 s → m2 y2 s < k → Wp X (d + 8) 252 2 [some (mR 407), some (mI x1), some (mI y2)] [] s Q) := by
    intro k
    induction k with
    | zero => exact fun _ _ _ h => absurd h (Nat.not_lt_zero _)
    | succ k ih => exact fun y2 s hI hm => b252_2 (fun q1 => b252_18 (z1 y2 s hI q1)) (fun q2 => b252_7 (c251 (z2 y2 s hI q2) (fun v3 s3 q3 => ⟨v3, rfl, b252_11 (ih (w32 (y2 + 1)) s3 (z3 y2 s hI q2 v3 s3 q3).1 (Nat.lt_of_lt_of_le (z3 y2 s hI q2 v3 s3 q3).2 (Nat.le_of_lt_succ hm)))⟩)))
  exact e252 (b252_0 ((L (m2 0 s + 1)) 0 s z4 (Nat.lt_succ_self _)))

theorem c252 {X : (Nat → Int) × Nat} {d : Nat} {s : mSt} {Q : mQ} {x1 : Int} (p1 : Ok (s 417) ∧ FOq s ∧ 0 ≤ x1 ∧ s 417 5 + x1 ≤ 1000000) (k : ∀ t : mSt, (t 417 = stN (ruR s) x1.toNat (s 417) ∧ fV s t) → Q none t) : Sp X (d + 8) 252 [mR 407, mI x1] s Q := by
  obtain ⟨h, hF, h1, h5⟩ := p1
  have b5 := ok5 h
  refine v252 (fun y t => ∃ j : Nat, y = j ∧ (j : Int) ≤ x1 ∧ t 417 = stN (ruR s) j (s 417) ∧ fV s t) (fun y _ => (x1 - y).toNat) ?_ ?_ ?_ ?_
  · rintro _ t ⟨j, rfl, hj, e, ht⟩ hc
    have : x1.toNat = j := by omega
    exact k t ⟨by rw [this]; exact e, ht⟩
  · rintro _ t ⟨j, rfl, hj, e, ht⟩ hc
    have q := stN_ok (R := ruR s) h j (by omega)
    rw [e]
    exact ⟨q.1, (fV_fo hF ht).1, by omega⟩
  · rintro _ t ⟨j, rfl, hj, e, ht⟩ hc v u hu
    rw [(fV_fo hF ht).2, e] at hu
    rw [w32_of (by omega)]
    exact ⟨⟨j + 1, by omega, by omega, hu.2.1, fV_tr ht hu.2.2⟩, by omega⟩
  · exact ⟨0, rfl, by omega, rfl, fV_rfl s⟩
/-- who waits and has no plan -/
def stk (a : Rw) (c : Nat) : Bool := !pl a c && decide ((pA1 a c).1 = 0)
theorem pl_0 {a : Rw} {c : Nat} : pl a c = true ↔ a (41 + c) = 0 := by unfold pl; rw [decide_eq_true_iff]
theorem pl_1 {a : Rw} (h : Ok a) {c : Nat} (hc : c < 6) : (a (41 + c) = 1 ↔ ¬ pl a c = true) := by
  have := okW h (p := c) hc
  rw [pl_0]; omega
theorem stk_iff {a : Rw} {c : Nat} : stk a c = true ↔ ¬ pl a c = true ∧ (pA1 a c).1 = 0 := by unfold stk; simp
theorem fQ_rfl (s : mSt) : fQ s s := ⟨fun _ _ => rfl, fun _ _ => rfl⟩
theorem fQ_tr {s t u : mSt} (a : fQ s t) (b : fQ t u) : fQ s u := ⟨fun x h => (b.1 x h).trans (a.1 x h), fun j h => (b.2 j h).trans (a.2 j h)⟩
theorem v282 {X : (Nat → Int) × Nat} {d : Nat} {s : mSt} {Q : mQ}
  (I4 : Int → Int → mSt → Prop) (m4 : Int → Int → mSt → Nat)
  (z1 : ∀ y1 : Int, ∀ y2 : Int, ∀ s : mSt, I4 y1 y2 s → (s 417 4) ≤ y2 → Q (some (mI y1)) s)
  (z2 : ∀ y1 : Int, ∀ y2 : Int, ∀ s : mSt, I4 y1 y2 s → ¬ (s 417 4) ≤ y2 → Ok (s 417))
  (z3 : ∀ y1 : Int, ∀ y2 : Int, ∀ s : mSt, I4 y1 y2 s → ¬ (s 417 4) ≤ y2 → ((0 ≤ y2 ∧ y2 < s 417 4) ∧ s 417 (41 + y2.toNat) = 1) → Ok (s 417) ∧ (0 ≤ y2 ∧ y2 < s 417 4))
  (z4 : ∀ y1 : Int, ∀ y2 : Int, ∀ s : mSt, I4 y1 y2 s → ¬ (s 417 4) ≤ y2 → ((0 ≤ y2 ∧ y2 < s 417 4) ∧ s 417 (41 + y2.toNat) = 1) → ∀ s4 : mSt, (0 < (pA1 (s 417) y2.toNat).1 ∧ PQ s4 (np (s 417)) (pA1 (s 417) y2.toNat) ∧ fQ s s4) → I4 (w32 (y1 + 0)) (w32 (y2 + 1)) s4 ∧ m4 (w32 (y1 + 0)) (w32 (y2 + 1)) s4 < m4 y1 y2 s)
  (z5 : ∀ y1 : Int, ∀ y2 : Int, ∀ s : mSt, I4 y1 y2 s → ¬ (s 417 4) ≤ y2 → ((0 ≤ y2 ∧ y2 < s 417 4) ∧ s 417 (41 + y2.toNat) = 1) → ∀ s5 : mSt, ((pA1 (s 417) y2.toNat).1 = 0 ∧ PQ s5 (np (s 417)) (pA1 (s 417) y2.toNat) ∧ fQ s s5) → I4 (w32 (y1 + 1)) (w32 (y2 + 1)) s5 ∧ m4 (w32 (y1 + 1)) (w32 (y2 + 1)) s5 < m4 y1 y2 s)
  (z6 : ∀ y1 : Int, ∀ y2 : Int, ∀ s : mSt, I4 y1 y2 s → ¬ (s 417 4) ≤ y2 → (¬ ((0 ≤ y2 ∧ y2 < s 417 4) ∧ s 417 (41 + y2.toNat) = 1)) → I4 (w32 (y1 + 0)) (w32 (y2 + 1)) s ∧ m4 (w32 (y1 + 0)) (w32 (y2 + 1)) s < m4 y1 y2 s)
  (z7 : I4 0 0 s) :
  Sp X (d + 6) 282 [mR 407] s Q := by
  have L : ∀ k : Nat, (∀ (y1 : Int) (y2 : Int) (s : mSt), I4 y1 y2 s → m4 y1 y2 s < k → Wp X (d + 6) 282 4 [some (mR 407), some (mI y1), some (mI y2)] [] s Q) := by
    intro k
    induction k with
    | zero => exact fun _ _ _ _ h => absurd h (Nat.not_lt_zero _)
    | succ k ih => exact fun y1 y2 s hI hm => b282_4 (fun q1 => b282_44 (z1 y1 y2 s hI q1)) (fun q2 => b282_14 (c215 (z2 y1 y2 s hI q2) (fun q3 => ⟨1, rfl, b282_20 (fun q => absurd q (by decide)) (fun _ => b282_23 (c244 (z3 y1 y2 s hI q2 q3) (fun s4 q4 => ⟨1, rfl, b282_28 (fun _ => b282_35 (b282_36 (ih (w32 (y1 + 0)) (w32 (y2 + 1)) s4 (z4 y1 y2 s hI q2 q3 s4 q4).1 (Nat.lt_of_lt_of_le (z4 y1 y2 s hI q2 q3 s4 q4).2 (Nat.le_of_lt_succ hm))))) (fun q => absurd q (by decide))⟩) (fun s5 q5 => ⟨0, rfl, b282_28 (fun q => absurd q (by decide)) (fun _ => b282_31 (b282_36 (ih (w32 (y1 + 1)) (w32 (y2 + 1)) s5 (z5 y1 y2 s hI q2 q3 s5 q5).1 (Nat.lt_of_lt_of_le (z5 y1 y2 s hI q2 q3 s5 q5).2 (Nat.le_of_lt_succ hm)))))⟩)))⟩) (fun q6 => ⟨0, rfl, b282_20 (fun _ => b282_35 (b282_36 (ih (w32 (y1 + 0)) (w32 (y2 + 1)) s (z6 y1 y2 s hI q2 q6).1 (Nat.lt_of_lt_of_le (z6 y1 y2 s hI q2 q6).2 (Nat.le_of_lt_succ hm))))) (fun q => absurd q (by decide))⟩)))
  exact e282 (b282_0 ((L (m4 0 0 s + 1)) 0 0 s z7 (Nat.lt_succ_self _)))

theorem c282 {X : (Nat → Int) × Nat} {d : Nat} {s : mSt} {Q : mQ} (p1 : Ok (s 417)) (k : ∀ (v : Int) (t : mSt), (v = cn (stk (s 417)) (nc (s 417)) ∧ fQ s t) → Q (some (mI v)) t) : Sp X (d + 6) 282 [mR 407] s Q := by
  have h := p1
  have h4 := ncI h
  have n6 := nc_le h
  let J : Int → Int → mSt → Prop := fun y1 y2 t => ∃ j : Nat, y2 = j ∧ j ≤ nc (s 417) ∧ y1 = cn (stk (s 417)) j ∧ fQ s t
  have nx : ∀ (j : Nat) (t : mSt) (x : Int), j < nc (s 417) → fQ s t → x = (if stk (s 417) j = true then 1 else 0) → J (w32 (cn (stk (s 417)) j + x)) (w32 ((j : Int) + 1)) t ∧ (6 - w32 ((j : Int) + 1)).toNat < (6 - (j : Int)).toNat := fun j t x hj ht hx => by
    have b := cn_le (f := stk (s 417)) (n := j)
    have bx : 0 ≤ x ∧ x ≤ 1 := by rw [hx]; split <;> omega
    rw [w32_of (by omega), w32_of (by omega)]
    refine ⟨⟨j + 1, by omega, by omega, ?_, ht⟩, by omega⟩
    rw [cn_s, hx]
  refine v282 J (fun _ y _ => (6 - y).toNat) ?_ ?_ ?_ ?_ ?_ ?_ ?_
  · rintro _ _ t ⟨j, rfl, hj, rfl, ht⟩ hc
    rw [ht.1 417 (by decide)] at hc
    have : j = nc (s 417) := by omega
    subst this
    exact k _ t ⟨rfl, ht⟩
  · rintro _ _ t ⟨j, rfl, hj, rfl, ht⟩ hc
    rw [ht.1 417 (by decide)]; exact h
  · rintro _ _ t ⟨j, rfl, hj, rfl, ht⟩ hc q
    rw [ht.1 417 (by decide)] at q ⊢
    exact ⟨h, q.1⟩
  · rintro _ _ t ⟨j, rfl, hj, rfl, ht⟩ hc q u hu
    rw [ht.1 417 (by decide)] at hc hu q
    rw [tnc] at hu q
    refine nx j u 0 (by omega) (fQ_tr ht hu.2.2) (by rw [if_neg (fun z => by have := (stk_iff.1 z).2; omega)])
  · rintro _ _ t ⟨j, rfl, hj, rfl, ht⟩ hc q u hu
    rw [ht.1 417 (by decide)] at hc hu q
    rw [tnc] at hu q
    refine nx j u 1 (by omega) (fQ_tr ht hu.2.2) (by rw [if_pos (stk_iff.2 ⟨(pl_1 h (by omega)).1 q.2, hu.1⟩)])
  · rintro _ _ t ⟨j, rfl, hj, rfl, ht⟩ hc q
    rw [ht.1 417 (by decide)] at hc q
    rw [tnc] at q
    refine nx j t 0 (by omega) ht (by rw [if_neg (fun z => q ⟨by omega, (pl_1 h (by omega)).2 (stk_iff.1 z).1⟩)])
  · exact ⟨0, rfl, by omega, rfl, fQ_rfl s⟩
/-! what is kept for undoing -/
def kaR (s : mSt) : Rw := fun j => if s 407 37 = 20 then (if j < 1368 then s 423 (j + 72) else if j < 1440 then s 417 (j - 1363) else s 423 j) else if 72 * (s 407 37).toNat ≤ j ∧ j < 72 * (s 407 37).toNat + 72 then s 417 (5 + (j - 72 * (s 407 37).toNat)) else s 423 j
def unR (s : mSt) : Rw := fun j => if 5 ≤ j ∧ j < 77 then s 423 (72 * ((s 407 37).toNat - 1) + (j - 5)) else s 417 j
theorem v253 {X : (Nat → Int) × Nat} {d : Nat} {s : mSt} {Q : mQ}
  (I12 : Int → mSt → Prop) (m12 : Int → mSt → Nat)
  (I52 : Int → mSt → Prop) (m52 : Int → mSt → Nat)
  (z1 : ∀ y1 : Int, ∀ s : mSt, I12 y1 s → 1440 ≤ y1 → ∀ t2 : mSt, t2 = uS s 407 37 (w32 ((s 407 37) - 1)) → I52 0 t2 ∧ m52 0 t2 < m12 y1 s)
  (z2 : ∀ y1 : Int, ∀ s : mSt, I12 y1 s → ¬ 1440 ≤ y1 → 0 ≤ y1 ∧ y1 < 1440)
  (z3 : ∀ y1 : Int, ∀ s : mSt, I12 y1 s → ¬ 1440 ≤ y1 → 0 ≤ (w32 (y1 - 72)) ∧ (w32 (y1 - 72)) < 1440)
  (z4 : ∀ y1 : Int, ∀ s : mSt, I12 y1 s → ¬ 1440 ≤ y1 → I12 (w32 (y1 + 1)) (uS s 423 ((w32 (y1 - 72)).toNat) (s 423 y1.toNat)) ∧ m12 (w32 (y1 + 1)) (uS s 423 ((w32 (y1 - 72)).toNat) (s 423 y1.toNat)) < m12 y1 s)
  (z5 : ∀ y1 : Int, ∀ s : mSt, I52 y1 s → 72 ≤ y1 → Q none (uS s 407 37 (w32 ((s 407 37) + 1))))
  (z6 : ∀ y1 : Int, ∀ s : mSt, I52 y1 s → ¬ 72 ≤ y1 → 0 ≤ (w32 (5 + y1)) ∧ (w32 (5 + y1)) < 166)
  (z7 : ∀ y1 : Int, ∀ s : mSt, I52 y1 s → ¬ 72 ≤ y1 → 0 ≤ (w32 ((w32 (72 * (s 407 37))) + y1)) ∧ (w32 ((w32 (72 * (s 407 37))) + y1)) < 1440)
  (z8 : ∀ y1 : Int, ∀ s : mSt, I52 y1 s → ¬ 72 ≤ y1 → I52 (w32 (y1 + 1)) (uS s 423 ((w32 ((w32 (72 * (s 407 37))) + y1)).toNat) (s 417 (w32 (5 + y1)).toNat)) ∧ m52 (w32 (y1 + 1)) (uS s 423 ((w32 ((w32 (72 * (s 407 37))) + y1)).toNat) (s 417 (w32 (5 + y1)).toNat)) < m52 y1 s)
  (z9 : ¬ (s 407 37) = 20 → I52 0 s)
  (z10 : (s 407 37) = 20 → I12 72 s) :
  Sp X d 253 [mR 407] s Q := by
  have L : ∀ k : Nat, (∀ (y1 : Int) (s : mSt), I12 y1 s → m12 y1 s < k → Wp X d 253 12 [some (mR 407), some (mI y1)] [] s Q) ∧ (∀ (y1 : Int) (s : mSt), I52 y1 s → m52 y1 s < k → Wp X d 253 52 [some (mR 407), some (mI y1)] [] s Q) := by
    intro k
    induction k with
    | zero => exact ⟨fun _ _ _ h => absurd h (Nat.not_lt_zero _), fun _ _ _ h => absurd h (Nat.not_lt_zero _)⟩
    | succ k ih => exact ⟨fun y1 s hI hm => b253_12 (fun q1 => b253_40 (Wp_gen (fun t2 e2 => b253_50 (ih.2 0 t2 (z1 y1 s hI q1 t2 e2).1 (Nat.lt_of_lt_of_le (z1 y1 s hI q1 t2 e2).2 (Nat.le_of_lt_succ hm)))))) (fun q3 => b253_19 (z2 y1 s hI q3) (z3 y1 s hI q3) (ih.1 (w32 (y1 + 1)) (uS s 423 ((w32 (y1 - 72)).toNat) (s 423 y1.toNat)) (z4 y1 s hI q3).1 (Nat.lt_of_lt_of_le (z4 y1 s hI q3).2 (Nat.le_of_lt_succ hm)))), fun y1 s hI hm => b253_52 (fun q4 => b253_86 (z5 y1 s hI q4)) (fun q5 => b253_58 (z6 y1 s hI q5) (z7 y1 s hI q5) (ih.2 (w32 (y1 + 1)) (uS s 423 ((w32 ((w32 (72 * (s 407 37))) + y1)).toNat) (s 417 (w32 (5 + y1)).toNat)) (z8 y1 s hI q5).1 (Nat.lt_of_lt_of_le (z8 y1 s hI q5).2 (Nat.le_of_lt_succ hm))))⟩
  exact e253 (b253_0 (fun q6 => b253_50 ((L (m52 0 s + 1)).2 0 s (z9 q6) (Nat.lt_succ_self _))) (fun q7 => b253_9 ((L (m12 72 s + 1)).1 72 s (z10 q7) (Nat.lt_succ_self _))))

theorem c253 {X : (Nat → Int) × Nat} {d : Nat} {s : mSt} {Q : mQ} (p1 : 0 ≤ s 407 37 ∧ s 407 37 ≤ 20) (k : ∀ t : mSt, (t 423 = kaR s ∧ t 407 = up (s 407) 37 (if s 407 37 = 20 then 20 else s 407 37 + 1) ∧ ∀ b, b ≠ 407 → b ≠ 423 → t b = s b) → Q none t) : Sp X d 253 [mR 407] s Q := by
  obtain ⟨h0, h1⟩ := p1
  let n : Nat := if s 407 37 = 20 then 19 else (s 407 37).toNat
  have hn : n ≤ 19 ∧ (if s 407 37 = 20 then (20 : Int) else s 407 37 + 1) = (n : Int) + 1 := by
    show (if s 407 37 = 20 then 19 else (s 407 37).toNat) ≤ 19 ∧ _
    by_cases z : s 407 37 = 20
    · simp [z, n]
    · simp only [z, n, if_false]; omega
  let B : Rw := fun j => if s 407 37 = 20 then (if j < 1368 then s 423 (j + 72) else s 423 j) else s 423 j
  have fin : ∀ j, kaR s j = if 72 * n ≤ j ∧ j < 72 * n + 72 then s 417 (5 + (j - 72 * n)) else B j := fun j => by
    show kaR s j = if 72 * n ≤ j ∧ j < 72 * n + 72 then s 417 (5 + (j - 72 * n)) else if s 407 37 = 20 then (if j < 1368 then s 423 (j + 72) else s 423 j) else s 423 j
    unfold kaR
    by_cases z : s 407 37 = 20
    · have en : n = 19 := by show (if s 407 37 = 20 then 19 else (s 407 37).toNat) = 19; rw [if_pos z]
      rw [if_pos z, if_pos z, en]
      by_cases z1 : j < 1368
      · rw [if_pos z1, if_neg (by omega), if_pos z1]
      · rw [if_neg z1, if_neg z1]
        by_cases z2 : j < 1440
        · rw [if_pos z2, if_pos (by omega), show j - 1363 = 5 + (j - 72 * 19) by omega]
        · rw [if_neg z2, if_neg (by omega)]
    · have en : n = (s 407 37).toNat := by show (if s 407 37 = 20 then 19 else (s 407 37).toNat) = _; rw [if_neg z]
      rw [if_neg z, if_neg z, en]
  refine v253 (fun y t => ∃ j : Nat, y = j + 72 ∧ j ≤ 1368 ∧ s 407 37 = 20 ∧ (∀ i, t 423 i = if i < j then s 423 (i + 72) else s 423 i) ∧ ∀ b, b ≠ 423 → t b = s b) (fun y _ => (1600 - y).toNat)
    (fun y t => ∃ j : Nat, y = j ∧ j ≤ 72 ∧ (∀ i, t 423 i = if 72 * n ≤ i ∧ i < 72 * n + j then s 417 (5 + (i - 72 * n)) else B i) ∧ t 407 = up (s 407) 37 (n : Int) ∧ ∀ b, b ≠ 407 → b ≠ 423 → t b = s b) (fun y _ => (72 - y).toNat) ?_ ?_ ?_ ?_ ?_ ?_ ?_ ?_ ?_ ?_
  · rintro _ t ⟨j, rfl, hj, e20, e, ht⟩ hc t2 e2
    have : j = 1368 := by omega
    subst this
    have en : n = 19 := by show (if s 407 37 = 20 then 19 else (s 407 37).toNat) = 19; rw [if_pos e20]
    refine ⟨⟨0, rfl, by omega, fun i => ?_, ?_, fun b h1 h2 => ?_⟩, by omega⟩
    · rw [if_neg (by omega), e2, uS_cell (by decide), e]
      show _ = if s 407 37 = 20 then (if i < 1368 then s 423 (i + 72) else s 423 i) else s 423 i
      rw [if_pos e20]
    · rw [e2, en]
      funext i
      rw [uS_at, ht 407 (by decide), e20]
      unfold up
      by_cases z : i = 37
      · rw [if_pos z, if_pos z]; decide
      · rw [if_neg z, if_neg z]
    · rw [e2, uS_cell h1]; exact ht b h2
  · rintro _ t ⟨j, rfl, hj, e20, e, ht⟩ hc
    omega
  · rintro _ t ⟨j, rfl, hj, e20, e, ht⟩ hc
    rw [w32_of (by omega)]; omega
  · rintro _ t ⟨j, rfl, hj, e20, e, ht⟩ hc
    rw [w32_of (x := (j : Int) + 72 - 72) (by omega), w32_of (by omega), show ((j : Int) + 72 - 72).toNat = j by omega, show ((j : Int) + 72).toNat = j + 72 by omega]
    refine ⟨⟨j + 1, by omega, by omega, e20, fun i => ?_, fun b hb => by rw [uS_cell hb]; exact ht b hb⟩, by omega⟩
    rw [uS_at, e (j + 72), if_neg (show ¬ j + 72 < j by omega), e i]
    by_cases z : i = j
    · rw [if_pos z, if_pos (by omega), z]
    · rw [if_neg z]
      by_cases z1 : i < j
      · rw [if_pos z1, if_pos (by omega)]
      · rw [if_neg z1, if_neg (by omega)]
  · rintro _ t ⟨j, rfl, hj, e, e7, ht⟩ hc
    have : j = 72 := by omega
    subst this
    have e37 : t 407 37 = (n : Int) := by rw [e7]; unfold up; rw [if_pos rfl]
    refine k _ ⟨?_, ?_, fun b h1 h2 => by rw [uS_cell h1]; exact ht b h1 h2⟩
    · funext i
      rw [uS_cell (by decide), fin, e]
    · funext i
      rw [uS_at, e37, w32_of (by omega), hn.2, e7]
      unfold up
      by_cases z : i = 37
      · rw [if_pos z, if_pos z]
      · rw [if_neg z, if_neg z, if_neg z]
  · rintro _ t ⟨j, rfl, hj, e, e7, ht⟩ hc
    rw [w32_of (by omega)]; omega
  · rintro _ t ⟨j, rfl, hj, e, e7, ht⟩ hc
    have e37 : t 407 37 = (n : Int) := by rw [e7]; unfold up; rw [if_pos rfl]
    rw [e37, w32_of (x := 72 * (n : Int)) (by omega), w32_of (by omega)]; omega
  · rintro _ t ⟨j, rfl, hj, e, e7, ht⟩ hc
    have e37 : t 407 37 = (n : Int) := by rw [e7]; unfold up; rw [if_pos rfl]
    rw [e37, w32_of (x := 72 * (n : Int)) (by omega), wt (n := 72 * n + j) (by omega) (by omega), wt (x := 5 + (j : Int)) (n := 5 + j) (by omega) (by omega), w32_of (by omega)]
    refine ⟨⟨j + 1, by omega, by omega, fun i => ?_, by rw [uS_cell (by decide)]; exact e7, fun b h1 h2 => by rw [uS_cell h2]; exact ht b h1 h2⟩, by omega⟩
    rw [uS_at, ht 417 (by decide) (by decide), e]
    by_cases z : i = 72 * n + j
    · rw [if_pos z, if_pos (by omega), show 5 + (i - 72 * n) = 5 + j by omega]
    · rw [if_neg z]
      by_cases z1 : 72 * n ≤ i ∧ i < 72 * n + j
      · rw [if_pos z1, if_pos (by omega)]
      · rw [if_neg z1, if_neg (by omega)]
  · intro z
    have en : n = (s 407 37).toNat := by show (if s 407 37 = 20 then 19 else (s 407 37).toNat) = _; rw [if_neg z]
    refine ⟨0, rfl, by omega, fun i => ?_, ?_, fun _ _ _ => rfl⟩
    · rw [if_neg (by omega)]
      show _ = if s 407 37 = 20 then (if i < 1368 then s 423 (i + 72) else s 423 i) else s 423 i
      rw [if_neg z]
    · funext i
      unfold up
      by_cases z1 : i = 37
      · rw [if_pos z1, z1]; omega
      · rw [if_neg z1]
  · intro z
    exact ⟨0, rfl, by omega, z, fun i => by rw [if_neg (by omega)], fun _ _ => rfl⟩
theorem v254 {X : (Nat → Int) × Nat} {d : Nat} {s : mSt} {Q : mQ}
  (I21 : Int → mSt → Prop) (m21 : Int → mSt → Nat)
  (z1 : ∀ y1 : Int, ∀ s : mSt, I21 y1 s → 72 ≤ y1 → Q (some (mI (s 407 37))) s)
  (z2 : ∀ y1 : Int, ∀ s : mSt, I21 y1 s → ¬ 72 ≤ y1 → 0 ≤ (w32 ((w32 (72 * (s 407 37))) + y1)) ∧ (w32 ((w32 (72 * (s 407 37))) + y1)) < 1440)
  (z3 : ∀ y1 : Int, ∀ s : mSt, I21 y1 s → ¬ 72 ≤ y1 → 0 ≤ (w32 (5 + y1)) ∧ (w32 (5 + y1)) < 166)
  (z4 : ∀ y1 : Int, ∀ s : mSt, I21 y1 s → ¬ 72 ≤ y1 → I21 (w32 (y1 + 1)) (uS s 417 ((w32 (5 + y1)).toNat) (s 423 (w32 ((w32 (72 * (s 407 37))) + y1)).toNat)) ∧ m21 (w32 (y1 + 1)) (uS s 417 ((w32 (5 + y1)).toNat) (s 423 (w32 ((w32 (72 * (s 407 37))) + y1)).toNat)) < m21 y1 s)
  (z5 : ¬ (s 407 37) = 0 → I21 0 (uS s 407 37 (w32 ((s 407 37) - 1))))
  (z6 : (s 407 37) = 0 → Q (some (mI (-1))) s) :
  Sp X d 254 [mR 407] s Q := by
  have L : ∀ k : Nat, (∀ (y1 : Int) (s : mSt), I21 y1 s → m21 y1 s < k → Wp X d 254 21 [some (mR 407), some (mI y1)] [] s Q) := by
    intro k
    induction k with
    | zero => exact fun _ _ _ h => absurd h (Nat.not_lt_zero _)
    | succ k ih => exact fun y1 s hI hm => b254_21 (fun q1 => b254_55 (z1 y1 s hI q1)) (fun q2 => b254_27 (z2 y1 s hI q2) (z3 y1 s hI q2) (ih (w32 (y1 + 1)) (uS s 417 ((w32 (5 + y1)).toNat) (s 423 (w32 ((w32 (72 * (s 407 37))) + y1)).toNat)) (z4 y1 s hI q2).1 (Nat.lt_of_lt_of_le (z4 y1 s hI q2).2 (Nat.le_of_lt_succ hm))))
  exact e254 (b254_0 (fun q3 => b254_9 ((L (m21 0 (uS s 407 37 (w32 ((s 407 37) - 1))) + 1)) 0 (uS s 407 37 (w32 ((s 407 37) - 1))) (z5 q3) (Nat.lt_succ_self _))) (fun q4 => b254_7 (z6 q4)))

theorem c254 {X : (Nat → Int) × Nat} {d : Nat} {s : mSt} {Q : mQ} (p1 : 0 ≤ s 407 37 ∧ s 407 37 ≤ 20) (k : ∀ (v : Int) (t : mSt), ((s 407 37 = 0 → v = -1 ∧ t = s) ∧ (¬ s 407 37 = 0 → v = s 407 37 - 1 ∧ t 407 = up (s 407) 37 (s 407 37 - 1) ∧ t 417 = unR s ∧ ∀ b, b ≠ 407 → b ≠ 417 → t b = s b)) → Q (some (mI v)) t) : Sp X d 254 [mR 407] s Q := by
  obtain ⟨h0, h1⟩ := p1
  refine v254 (fun y t => ∃ j : Nat, y = j ∧ j ≤ 72 ∧ ¬ s 407 37 = 0 ∧ (∀ i, t 417 i = if 5 ≤ i ∧ i < 5 + j then s 423 (72 * ((s 407 37).toNat - 1) + (i - 5)) else s 417 i) ∧ t 407 = up (s 407) 37 (s 407 37 - 1) ∧ ∀ b, b ≠ 407 → b ≠ 417 → t b = s b) (fun y _ => (72 - y).toNat) ?_ ?_ ?_ ?_ ?_ ?_
  · rintro _ t ⟨j, rfl, hj, hz, e, e7, ht⟩ hc
    have : j = 72 := by omega
    subst this
    have e37 : t 407 37 = s 407 37 - 1 := by rw [e7]; unfold up; rw [if_pos rfl]
    refine k _ t ⟨fun z => absurd z hz, fun _ => ⟨e37, e7, ?_, ht⟩⟩
    funext i
    rw [e]; rfl
  · rintro _ t ⟨j, rfl, hj, hz, e, e7, ht⟩ hc
    have e37 : t 407 37 = s 407 37 - 1 := by rw [e7]; unfold up; rw [if_pos rfl]
    rw [e37, w32_of (x := 72 * (s 407 37 - 1)) (by omega), w32_of (by omega)]; omega
  · rintro _ t ⟨j, rfl, hj, hz, e, e7, ht⟩ hc
    rw [w32_of (by omega)]; omega
  · rintro _ t ⟨j, rfl, hj, hz, e, e7, ht⟩ hc
    have e37 : t 407 37 = s 407 37 - 1 := by rw [e7]; unfold up; rw [if_pos rfl]
    rw [e37, w32_of (x := 72 * (s 407 37 - 1)) (by omega), wt (x := 72 * (s 407 37 - 1) + (j : Int)) (n := 72 * ((s 407 37).toNat - 1) + j) (by omega) (by omega), wt (x := 5 + (j : Int)) (n := 5 + j) (by omega) (by omega), w32_of (by omega)]
    refine ⟨⟨j + 1, by omega, by omega, hz, fun i => ?_, by rw [uS_cell (by decide)]; exact e7, fun b h1 h2 => by rw [uS_cell h2]; exact ht b h1 h2⟩, by omega⟩
    rw [uS_at, ht 423 (by decide) (by decide), e]
    by_cases z : i = 5 + j
    · rw [if_pos z, if_pos (by omega), show i - 5 = j by omega]
    · rw [if_neg z]
      by_cases z1 : 5 ≤ i ∧ i < 5 + j
      · rw [if_pos z1, if_pos (by omega)]
      · rw [if_neg z1, if_neg (by omega)]
  · intro z
    refine ⟨0, rfl, by omega, z, fun i => by rw [if_neg (by omega), uS_cell (by decide)], ?_, fun b h1 _ => uS_cell h1⟩
    funext i
    rw [uS_at, w32_of (by omega)]; rfl
  · intro z
    exact k _ s ⟨fun _ => ⟨rfl, rfl⟩, fun q => absurd z q⟩
/-! shares -/
theorem v292 {X : (Nat → Int) × Nat} {d : Nat} {s : mSt} {Q : mQ} {x1 : Int} {x2 : Int}
  (I27 : Int → Int → Prop) (m27 : Int → Int → Nat)
  (I94 : Int → Int → Int → Int → Int → Prop) (m94 : Int → Int → Int → Int → Int → Nat)
  (z1 : ∀ y3 : Int, ∀ y4 : Int, I27 y3 y4 → (s 417 4) ≤ y4 → Ok (s 417))
  (z2 : ∀ y3 : Int, ∀ y4 : Int, I27 y3 y4 → (s 417 4) ≤ y4 → ((0 ≤ x2 ∧ x2 < s 417 4) ∧ s 417 (41 + x2.toNat) = 0) → Ok (s 417) ∧ (0 ≤ x2 ∧ x2 < 6))
  (z3 : ∀ y3 : Int, ∀ y4 : Int, I27 y3 y4 → (s 417 4) ≤ y4 → ((0 ≤ x2 ∧ x2 < s 417 4) ∧ s 417 (41 + x2.toNat) = 0) → I94 y3 (w32 (x1 * (wrk (s 417) x2.toNat))) x1 0 0 ∧ m94 y3 (w32 (x1 * (wrk (s 417) x2.toNat))) x1 0 0 < m27 y3 y4)
  (z4 : ∀ y3 : Int, ∀ y4 : Int, I27 y3 y4 → (s 417 4) ≤ y4 → (¬ ((0 ≤ x2 ∧ x2 < s 417 4) ∧ s 417 (41 + x2.toNat) = 0)) → Q (some (mI 0)) s)
  (z5 : ∀ y3 : Int, ∀ y4 : Int, I27 y3 y4 → ¬ (s 417 4) ≤ y4 → Ok (s 417))
  (z6 : ∀ y3 : Int, ∀ y4 : Int, I27 y3 y4 → ¬ (s 417 4) ≤ y4 → ((0 ≤ y4 ∧ y4 < s 417 4) ∧ s 417 (41 + y4.toNat) = 0) → Ok (s 417) ∧ (0 ≤ y4 ∧ y4 < 6))
  (z7 : ∀ y3 : Int, ∀ y4 : Int, I27 y3 y4 → ¬ (s 417 4) ≤ y4 → ((0 ≤ y4 ∧ y4 < s 417 4) ∧ s 417 (41 + y4.toNat) = 0) → I27 (w32 (y3 + (wrk (s 417) y4.toNat))) (w32 (y4 + 1)) ∧ m27 (w32 (y3 + (wrk (s 417) y4.toNat))) (w32 (y4 + 1)) < m27 y3 y4)
  (z8 : ∀ y3 : Int, ∀ y4 : Int, I27 y3 y4 → ¬ (s 417 4) ≤ y4 → (¬ ((0 ≤ y4 ∧ y4 < s 417 4) ∧ s 417 (41 + y4.toNat) = 0)) → I27 (w32 (y3 + 0)) (w32 (y4 + 1)) ∧ m27 (w32 (y3 + 0)) (w32 (y4 + 1)) < m27 y3 y4)
  (z9 : ∀ y3 : Int, ∀ y4 : Int, ∀ y5 : Int, ∀ y6 : Int, ∀ y7 : Int, I94 y3 y4 y5 y6 y7 → (s 417 4) ≤ y7 → y3 ≠ 0)
  (z10 : ∀ y3 : Int, ∀ y4 : Int, ∀ y5 : Int, ∀ y6 : Int, ∀ y7 : Int, I94 y3 y4 y5 y6 y7 → (s 417 4) ≤ y7 → y5 ≤ y6 → Q (some (mI (w32 ((w32 (Int.tdiv y4 y3)) + 0)))) s)
  (z11 : ∀ y3 : Int, ∀ y4 : Int, ∀ y5 : Int, ∀ y6 : Int, ∀ y7 : Int, I94 y3 y4 y5 y6 y7 → (s 417 4) ≤ y7 → ¬ y5 ≤ y6 → Q (some (mI (w32 ((w32 (Int.tdiv y4 y3)) + 1)))) s)
  (z12 : ∀ y3 : Int, ∀ y4 : Int, ∀ y5 : Int, ∀ y6 : Int, ∀ y7 : Int, I94 y3 y4 y5 y6 y7 → ¬ (s 417 4) ≤ y7 → Ok (s 417))
  (z13 : ∀ y3 : Int, ∀ y4 : Int, ∀ y5 : Int, ∀ y6 : Int, ∀ y7 : Int, I94 y3 y4 y5 y6 y7 → ¬ (s 417 4) ≤ y7 → ((0 ≤ y7 ∧ y7 < s 417 4) ∧ s 417 (41 + y7.toNat) = 0) → Ok (s 417) ∧ (0 ≤ y7 ∧ y7 < 6))
  (z14 : ∀ y3 : Int, ∀ y4 : Int, ∀ y5 : Int, ∀ y6 : Int, ∀ y7 : Int, I94 y3 y4 y5 y6 y7 → ¬ (s 417 4) ≤ y7 → ((0 ≤ y7 ∧ y7 < s 417 4) ∧ s 417 (41 + y7.toNat) = 0) → y3 ≠ 0)
  (z15 : ∀ y3 : Int, ∀ y4 : Int, ∀ y5 : Int, ∀ y6 : Int, ∀ y7 : Int, I94 y3 y4 y5 y6 y7 → ¬ (s 417 4) ≤ y7 → ((0 ≤ y7 ∧ y7 < s 417 4) ∧ s 417 (41 + y7.toNat) = 0) → (Int.tmod y4 y3) < (Int.tmod (w32 (x1 * (wrk (s 417) y7.toNat))) y3) → I94 y3 y4 (w32 (y5 - (w32 (Int.tdiv (w32 (x1 * (wrk (s 417) y7.toNat))) y3)))) (w32 (y6 + 1)) (w32 (y7 + 1)) ∧ m94 y3 y4 (w32 (y5 - (w32 (Int.tdiv (w32 (x1 * (wrk (s 417) y7.toNat))) y3)))) (w32 (y6 + 1)) (w32 (y7 + 1)) < m94 y3 y4 y5 y6 y7)
  (z16 : ∀ y3 : Int, ∀ y4 : Int, ∀ y5 : Int, ∀ y6 : Int, ∀ y7 : Int, I94 y3 y4 y5 y6 y7 → ¬ (s 417 4) ≤ y7 → ((0 ≤ y7 ∧ y7 < s 417 4) ∧ s 417 (41 + y7.toNat) = 0) → ¬ (Int.tmod y4 y3) < (Int.tmod (w32 (x1 * (wrk (s 417) y7.toNat))) y3) → y3 ≠ 0)
  (z17 : ∀ y3 : Int, ∀ y4 : Int, ∀ y5 : Int, ∀ y6 : Int, ∀ y7 : Int, I94 y3 y4 y5 y6 y7 → ¬ (s 417 4) ≤ y7 → ((0 ≤ y7 ∧ y7 < s 417 4) ∧ s 417 (41 + y7.toNat) = 0) → ¬ (Int.tmod y4 y3) < (Int.tmod (w32 (x1 * (wrk (s 417) y7.toNat))) y3) → ¬ (Int.tmod (w32 (x1 * (wrk (s 417) y7.toNat))) y3) = (Int.tmod y4 y3) → I94 y3 y4 (w32 (y5 - (w32 (Int.tdiv (w32 (x1 * (wrk (s 417) y7.toNat))) y3)))) (w32 (y6 + 0)) (w32 (y7 + 1)) ∧ m94 y3 y4 (w32 (y5 - (w32 (Int.tdiv (w32 (x1 * (wrk (s 417) y7.toNat))) y3)))) (w32 (y6 + 0)) (w32 (y7 + 1)) < m94 y3 y4 y5 y6 y7)
  (z18 : ∀ y3 : Int, ∀ y4 : Int, ∀ y5 : Int, ∀ y6 : Int, ∀ y7 : Int, I94 y3 y4 y5 y6 y7 → ¬ (s 417 4) ≤ y7 → ((0 ≤ y7 ∧ y7 < s 417 4) ∧ s 417 (41 + y7.toNat) = 0) → ¬ (Int.tmod y4 y3) < (Int.tmod (w32 (x1 * (wrk (s 417) y7.toNat))) y3) → (Int.tmod (w32 (x1 * (wrk (s 417) y7.toNat))) y3) = (Int.tmod y4 y3) → x2 ≤ y7 → I94 y3 y4 (w32 (y5 - (w32 (Int.tdiv (w32 (x1 * (wrk (s 417) y7.toNat))) y3)))) (w32 (y6 + 0)) (w32 (y7 + 1)) ∧ m94 y3 y4 (w32 (y5 - (w32 (Int.tdiv (w32 (x1 * (wrk (s 417) y7.toNat))) y3)))) (w32 (y6 + 0)) (w32 (y7 + 1)) < m94 y3 y4 y5 y6 y7)
  (z19 : ∀ y3 : Int, ∀ y4 : Int, ∀ y5 : Int, ∀ y6 : Int, ∀ y7 : Int, I94 y3 y4 y5 y6 y7 → ¬ (s 417 4) ≤ y7 → ((0 ≤ y7 ∧ y7 < s 417 4) ∧ s 417 (41 + y7.toNat) = 0) → ¬ (Int.tmod y4 y3) < (Int.tmod (w32 (x1 * (wrk (s 417) y7.toNat))) y3) → (Int.tmod (w32 (x1 * (wrk (s 417) y7.toNat))) y3) = (Int.tmod y4 y3) → ¬ x2 ≤ y7 → I94 y3 y4 (w32 (y5 - (w32 (Int.tdiv (w32 (x1 * (wrk (s 417) y7.toNat))) y3)))) (w32 (y6 + 1)) (w32 (y7 + 1)) ∧ m94 y3 y4 (w32 (y5 - (w32 (Int.tdiv (w32 (x1 * (wrk (s 417) y7.toNat))) y3)))) (w32 (y6 + 1)) (w32 (y7 + 1)) < m94 y3 y4 y5 y6 y7)
  (z20 : ∀ y3 : Int, ∀ y4 : Int, ∀ y5 : Int, ∀ y6 : Int, ∀ y7 : Int, I94 y3 y4 y5 y6 y7 → ¬ (s 417 4) ≤ y7 → (¬ ((0 ≤ y7 ∧ y7 < s 417 4) ∧ s 417 (41 + y7.toNat) = 0)) → I94 y3 y4 y5 y6 (w32 (y7 + 1)) ∧ m94 y3 y4 y5 y6 (w32 (y7 + 1)) < m94 y3 y4 y5 y6 y7)
  (z21 : (0 ≤ x2 ∧ x2 < s 417 4) → (0 ≤ x1 ∧ x1 ≤ 9999) → I27 0 0)
  (z22 : (0 ≤ x2 ∧ x2 < s 417 4) → (¬ (0 ≤ x1 ∧ x1 ≤ 9999)) → Q (some (mI (-1))) s)
  (z23 : (¬ (0 ≤ x2 ∧ x2 < s 417 4)) → Q (some (mI (-1))) s) :
  Sp X (d + 3) 292 [mR 407, mI x1, mI x2] s Q := by
  have L : ∀ k : Nat, (∀ (y3 : Int) (y4 : Int) (l5 : Option mV) (l6 : Option mV) (l7 : Option mV) (l8 : Option mV), I27 y3 y4 → m27 y3 y4 < k → Wp X (d + 3) 292 27 [some (mR 407), some (mI x1), some (mI x2), some (mI y3), some (mI y4), l5, l6, l7, l8] [] s Q) ∧ (∀ (y3 : Int) (y4 : Int) (y5 : Int) (y6 : Int) (y7 : Int) (l8 : Option mV), I94 y3 y4 y5 y6 y7 → m94 y3 y4 y5 y6 y7 < k → Wp X (d + 3) 292 94 [some (mR 407), some (mI x1), some (mI x2), some (mI y3), some (mI y4), some (mI y5), some (mI y6), some (mI y7), l8] [] s Q) := by
    intro k
    induction k with
    | zero => exact ⟨fun _ _ _ _ _ _ _ h => absurd h (Nat.not_lt_zero _), fun _ _ _ _ _ _ _ h => absurd h (Nat.not_lt_zero _)⟩
    | succ k ih => exact ⟨fun y3 y4 l5 l6 l7 l8 hI hm => b292_27 (fun q1 => b292_66 (c216 (z1 y3 y4 hI q1) (fun q2 => ⟨1, rfl, b292_71 (fun _ => b292_76 (c220 (z2 y3 y4 hI q1 q2) ⟨_, rfl, b292_82 (ih.2 y3 (w32 (x1 * (wrk (s 417) x2.toNat))) x1 0 0 l8 (z3 y3 y4 hI q1 q2).1 (Nat.lt_of_lt_of_le (z3 y3 y4 hI q1 q2).2 (Nat.le_of_lt_succ hm)))⟩)) (fun q => absurd q (by decide))⟩) (fun q3 => ⟨0, rfl, b292_71 (fun q => absurd q (by decide)) (fun _ => b292_74 (z4 y3 y4 hI q1 q3))⟩))) (fun q4 => b292_38 (c216 (z5 y3 y4 hI q4) (fun q5 => ⟨1, rfl, b292_45 (fun q => absurd q (by decide)) (fun _ => b292_48 (c220 (z6 y3 y4 hI q4 q5) ⟨_, rfl, b292_54 (b292_58 (ih.1 (w32 (y3 + (wrk (s 417) y4.toNat))) (w32 (y4 + 1)) l5 l6 l7 l8 (z7 y3 y4 hI q4 q5).1 (Nat.lt_of_lt_of_le (z7 y3 y4 hI q4 q5).2 (Nat.le_of_lt_succ hm))))⟩))⟩) (fun q6 => ⟨0, rfl, b292_45 (fun _ => b292_57 (b292_58 (ih.1 (w32 (y3 + 0)) (w32 (y4 + 1)) l5 l6 l7 l8 (z8 y3 y4 hI q4 q6).1 (Nat.lt_of_lt_of_le (z8 y3 y4 hI q4 q6).2 (Nat.le_of_lt_succ hm))))) (fun q => absurd q (by decide))⟩))), fun y3 y4 y5 y6 y7 l8 hI hm => b292_94 (fun q7 => b292_180 (z9 y3 y4 y5 y6 y7 hI q7) (fun q8 => b292_195 (b292_196 (z10 y3 y4 y5 y6 y7 hI q7 q8))) (fun q9 => b292_191 (b292_196 (z11 y3 y4 y5 y6 y7 hI q7 q9)))) (fun q10 => b292_105 (c216 (z12 y3 y4 y5 y6 y7 hI q10) (fun q11 => ⟨1, rfl, b292_111 (fun _ => b292_117 (c220 (z13 y3 y4 y5 y6 y7 hI q10 q11) ⟨_, rfl, b292_124 (z14 y3 y4 y5 y6 y7 hI q10 q11) (z14 y3 y4 y5 y6 y7 hI q10 q11) (z14 y3 y4 y5 y6 y7 hI q10 q11) (fun q12 => b292_166 (b292_171 (b292_174 (ih.2 y3 y4 (w32 (y5 - (w32 (Int.tdiv (w32 (x1 * (wrk (s 417) y7.toNat))) y3)))) (w32 (y6 + 1)) (w32 (y7 + 1)) (some (mI (w32 (x1 * (wrk (s 417) y7.toNat))))) (z15 y3 y4 y5 y6 y7 hI q10 q11 q12).1 (Nat.lt_of_lt_of_le (z15 y3 y4 y5 y6 y7 hI q10 q11 q12).2 (Nat.le_of_lt_succ hm)))))) (fun q13 => b292_149 (z16 y3 y4 y5 y6 y7 hI q10 q11 q13) (z16 y3 y4 y5 y6 y7 hI q10 q11 q13) (fun q14 => b292_170 (b292_171 (b292_174 (ih.2 y3 y4 (w32 (y5 - (w32 (Int.tdiv (w32 (x1 * (wrk (s 417) y7.toNat))) y3)))) (w32 (y6 + 0)) (w32 (y7 + 1)) (some (mI (w32 (x1 * (wrk (s 417) y7.toNat))))) (z17 y3 y4 y5 y6 y7 hI q10 q11 q13 q14).1 (Nat.lt_of_lt_of_le (z17 y3 y4 y5 y6 y7 hI q10 q11 q13 q14).2 (Nat.le_of_lt_succ hm)))))) (fun q15 => b292_160 (fun q16 => b292_170 (b292_171 (b292_174 (ih.2 y3 y4 (w32 (y5 - (w32 (Int.tdiv (w32 (x1 * (wrk (s 417) y7.toNat))) y3)))) (w32 (y6 + 0)) (w32 (y7 + 1)) (some (mI (w32 (x1 * (wrk (s 417) y7.toNat))))) (z18 y3 y4 y5 y6 y7 hI q10 q11 q13 q15 q16).1 (Nat.lt_of_lt_of_le (z18 y3 y4 y5 y6 y7 hI q10 q11 q13 q15 q16).2 (Nat.le_of_lt_succ hm)))))) (fun q17 => b292_166 (b292_171 (b292_174 (ih.2 y3 y4 (w32 (y5 - (w32 (Int.tdiv (w32 (x1 * (wrk (s 417) y7.toNat))) y3)))) (w32 (y6 + 1)) (w32 (y7 + 1)) (some (mI (w32 (x1 * (wrk (s 417) y7.toNat))))) (z19 y3 y4 y5 y6 y7 hI q10 q11 q13 q15 q17).1 (Nat.lt_of_lt_of_le (z19 y3 y4 y5 y6 y7 hI q10 q11 q13 q15 q17).2 (Nat.le_of_lt_succ hm))))))))⟩)) (fun q => absurd q (by decide))⟩) (fun q18 => ⟨0, rfl, b292_111 (fun q => absurd q (by decide)) (fun _ => b292_114 (b292_174 (ih.2 y3 y4 y5 y6 (w32 (y7 + 1)) l8 (z20 y3 y4 y5 y6 y7 hI q10 q18).1 (Nat.lt_of_lt_of_le (z20 y3 y4 y5 y6 y7 hI q10 q18).2 (Nat.le_of_lt_succ hm)))))⟩)))⟩
  exact e292 (b292_0 (c214  (fun q19 => ⟨1, rfl, b292_5 (fun q => absurd q (by decide)) (fun _ => b292_8 (c167  (fun q20 => ⟨1, rfl, b292_17 (fun _ => b292_22 ((L (m27 0 0 + 1)).1 0 0 none none none none (z21 q19 q20) (Nat.lt_succ_self _))) (fun q => absurd q (by decide))⟩) (fun q21 => ⟨0, rfl, b292_17 (fun q => absurd q (by decide)) (fun _ => b292_20 (z22 q19 q21))⟩)))⟩) (fun q22 => ⟨0, rfl, b292_5 (fun _ => b292_20 (z23 q22)) (fun q => absurd q (by decide))⟩)))

theorem c292 {X : (Nat → Int) × Nat} {d : Nat} {s : mSt} {Q : mQ} {x1 : Int} {x2 : Int} (p1 : Ok (s 417)) (k : Q (some (mI (if (0 ≤ x2 ∧ x2 < s 417 4) ∧ (0 ≤ x1 ∧ x1 ≤ 9999) then (if pl (s 417) x2.toNat = true then shA (s 417) x1 x2.toNat else 0) else -1))) s) : Sp X (d + 3) 292 [mR 407, mI x1, mI x2] s Q := by
  have h := p1
  have h4 := ncI h
  have n6 := nc_le h
  by_cases g1 : (0 ≤ x2 ∧ x2 < s 417 4)
  rotate_left
  · rw [if_neg (fun z => g1 z.1)] at k
    refine v292 (fun _ _ => False) (fun _ _ => 0) (fun _ _ _ _ _ => False) (fun _ _ _ _ _ => 0) ?_ ?_ ?_ ?_ ?_ ?_ ?_ ?_ ?_ ?_ ?_ ?_ ?_ ?_ ?_ ?_ ?_ ?_ ?_ ?_ (fun z => absurd z g1) (fun z => absurd z g1) (fun _ => k)
    all_goals (intros; contradiction)
  by_cases hm : (0 ≤ x1 ∧ x1 ≤ 9999)
  rotate_left
  · rw [if_neg (fun z => hm z.2)] at k
    refine v292 (fun _ _ => False) (fun _ _ => 0) (fun _ _ _ _ _ => False) (fun _ _ _ _ _ => 0) ?_ ?_ ?_ ?_ ?_ ?_ ?_ ?_ ?_ ?_ ?_ ?_ ?_ ?_ ?_ ?_ ?_ ?_ ?_ ?_ (fun _ z => absurd z hm) (fun _ _ => k) (fun z => absurd g1 z)
    all_goals (intros; contradiction)
  rw [if_pos ⟨g1, hm⟩] at k
  obtain ⟨c, rfl⟩ := nat_of g1.1
  rw [tnc] at k
  have alw : ∀ {Pq : Prop}, (pl (s 417) c = true → 1 ≤ alW (s 417) → Pq) → pl (s 417) c = true → Pq := fun f z => f z (alW_pos h (c := c) (by omega) z)
  refine v292 (fun y3 y4 => ∃ j : Nat, y4 = j ∧ j ≤ nc (s 417) ∧ y3 = sm (fun i => if pl (s 417) i = true then wrk (s 417) i else 0) j) (fun _ y => (20 - y).toNat)
    (fun y3 y4 y5 y6 y7 => ∃ j : Nat, y7 = j ∧ j ≤ nc (s 417) ∧ y3 = alW (s 417) ∧ y5 = lfW (s 417) x1 j ∧ y6 = cn (ahB (s 417) x1 c) j ∧ y4 = x1 * wrk (s 417) c ∧ pl (s 417) c = true ∧ 1 ≤ alW (s 417)) (fun _ _ _ _ y => (6 - y).toNat) ?_ ?_ ?_ ?_ ?_ ?_ ?_ ?_ ?_ ?_ ?_ ?_ ?_ ?_ ?_ ?_ ?_ ?_ ?_ ?_ ?_ ?_ ?_
  · rintro _ _ ⟨j, rfl, hj, rfl⟩ hc
    exact h
  · rintro _ _ ⟨j, rfl, hj, rfl⟩ hc q
    exact ⟨h, by omega⟩
  · rintro _ _ ⟨j, rfl, hj, rfl⟩ hc q
    have : j = nc (s 417) := by omega
    subst this
    rw [tnc] at q ⊢
    have hp := pl_0.2 q.2
    have b := prt_bd h hm (show c < 6 by omega)
    rw [w32_of (by omega)]
    refine ⟨⟨0, rfl, by omega, rfl, ?_, rfl, rfl, hp, alW_pos h (c := c) (by omega) hp⟩, by omega⟩
    simp [lfW, sm]
  · rintro _ _ ⟨j, rfl, hj, rfl⟩ hc q
    rw [tnc] at q
    rw [if_neg (fun z => q ⟨g1, pl_0.1 z⟩)] at k
    exact k
  · rintro _ _ ⟨j, rfl, hj, rfl⟩ hc
    exact h
  · rintro _ _ ⟨j, rfl, hj, rfl⟩ hc q
    exact ⟨h, by omega⟩
  · rintro _ _ ⟨j, rfl, hj, rfl⟩ hc q
    rw [tnc] at q ⊢
    have b := alW_bd h j (by omega)
    have b2 := wrk_bd h (c := j) (by omega)
    rw [w32_of (by omega), w32_of (by omega)]
    refine ⟨⟨j + 1, by omega, by omega, ?_⟩, by omega⟩
    rw [sm_s, if_pos (pl_0.2 q.2)]
  · rintro _ _ ⟨j, rfl, hj, rfl⟩ hc q
    rw [tnc] at q
    have b := alW_bd h j (by omega)
    rw [w32_of (by omega), w32_of (by omega)]
    refine ⟨⟨j + 1, by omega, by omega, ?_⟩, by omega⟩
    rw [sm_s, if_neg (fun z => q ⟨by omega, pl_0.1 z⟩)]
  · rintro _ _ _ _ _ ⟨j, rfl, hj, rfl, rfl, rfl, rfl, hp, hw⟩ hc
    omega
  · rintro _ _ _ _ _ ⟨j, rfl, hj, rfl, rfl, rfl, rfl, hp, hw⟩ hc q
    have : j = nc (s 417) := by omega
    subst this
    have b := prt_bd h hm (show c < 6 by omega)
    have down := dv_bd b hw
    rw [w32_of (x := x1 * wrk (s 417) c) (by omega)] at down
    rw [down.2.2.1, w32_of (by omega)]
    rw [if_pos hp] at k
    unfold shA at k
    rw [if_neg (by omega)] at k
    exact k
  · rintro _ _ _ _ _ ⟨j, rfl, hj, rfl, rfl, rfl, rfl, hp, hw⟩ hc q
    have : j = nc (s 417) := by omega
    subst this
    have b := prt_bd h hm (show c < 6 by omega)
    have down := dv_bd b hw
    rw [w32_of (x := x1 * wrk (s 417) c) (by omega)] at down
    rw [down.2.2.1, w32_of (by omega)]
    rw [if_pos hp] at k
    unfold shA at k
    rw [if_pos (by omega)] at k
    exact k
  · rintro _ _ _ _ _ ⟨j, rfl, hj, rfl, rfl, rfl, rfl, hp, hw⟩ hc
    exact h
  · rintro _ _ _ _ _ ⟨j, rfl, hj, rfl, rfl, rfl, rfl, hp, hw⟩ hc _
    exact ⟨h, by omega⟩
  · rintro _ _ _ _ _ ⟨j, rfl, hj, rfl, rfl, rfl, rfl, hp, hw⟩ hc _
    omega
  · rintro _ _ _ _ _ ⟨j, rfl, hj, rfl, rfl, rfl, rfl, hp, hw⟩ hc q q2
    rw [tnc] at q q2 ⊢
    have b := prt_bd h hm (show c < 6 by omega)
    have dc := dv_bd b hw
    rw [w32_of (x := x1 * wrk (s 417) c) (by omega)] at dc
    have dj := dv_bd (prt_bd h hm (show j < 6 by omega)) hw
    have bl := lfW_bd h hm hw (show j ≤ 6 by omega)
    have bc := cn_le (f := ahB (s 417) x1 c) (n := j)
    rw [dj.2.2.2, dc.2.2.2] at q2
    rw [dj.2.2.1, w32_of (by omega), w32_of (by omega), w32_of (by omega)]
    refine ⟨⟨j + 1, by omega, by omega, rfl, ?_, ?_, rfl, hp, hw⟩, by omega⟩
    · unfold lfW; rw [sm_s, if_pos (pl_0.2 q.2)]; omega
    · rw [cn_s, if_pos (by unfold ahB; rw [pl_0.2 q.2]; simp [q2])]
  · rintro _ _ _ _ _ ⟨j, rfl, hj, rfl, rfl, rfl, rfl, hp, hw⟩ hc _ _
    omega
  · rintro _ _ _ _ _ ⟨j, rfl, hj, rfl, rfl, rfl, rfl, hp, hw⟩ hc q q2 q3
    rw [tnc] at q q2 q3 ⊢
    have b := prt_bd h hm (show c < 6 by omega)
    have dc := dv_bd b hw
    rw [w32_of (x := x1 * wrk (s 417) c) (by omega)] at dc
    have dj := dv_bd (prt_bd h hm (show j < 6 by omega)) hw
    have bl := lfW_bd h hm hw (show j ≤ 6 by omega)
    have bc := cn_le (f := ahB (s 417) x1 c) (n := j)
    rw [dj.2.2.2, dc.2.2.2] at q2 q3
    rw [dj.2.2.1, w32_of (by omega), w32_of (by omega), w32_of (by omega)]
    refine ⟨⟨j + 1, by omega, by omega, rfl, ?_, ?_, rfl, hp, hw⟩, by omega⟩
    · unfold lfW; rw [sm_s, if_pos (pl_0.2 q.2)]; omega
    · rw [cn_s, if_neg (by unfold ahB; rw [pl_0.2 q.2]; simp [q2, q3])]
  · rintro _ _ _ _ _ ⟨j, rfl, hj, rfl, rfl, rfl, rfl, hp, hw⟩ hc q q2 q3 q4
    rw [tnc] at q q2 q3 ⊢
    have b := prt_bd h hm (show c < 6 by omega)
    have dc := dv_bd b hw
    rw [w32_of (x := x1 * wrk (s 417) c) (by omega)] at dc
    have dj := dv_bd (prt_bd h hm (show j < 6 by omega)) hw
    have bl := lfW_bd h hm hw (show j ≤ 6 by omega)
    have bc := cn_le (f := ahB (s 417) x1 c) (n := j)
    rw [dj.2.2.2, dc.2.2.2] at q2 q3
    rw [dj.2.2.1, w32_of (by omega), w32_of (by omega), w32_of (by omega)]
    refine ⟨⟨j + 1, by omega, by omega, rfl, ?_, ?_, rfl, hp, hw⟩, by omega⟩
    · unfold lfW; rw [sm_s, if_pos (pl_0.2 q.2)]; omega
    · rw [cn_s, if_neg (by unfold ahB; rw [pl_0.2 q.2]; simp [q2, show ¬ j < c by omega])]
  · rintro _ _ _ _ _ ⟨j, rfl, hj, rfl, rfl, rfl, rfl, hp, hw⟩ hc q q2 q3 q4
    rw [tnc] at q q2 q3 ⊢
    have b := prt_bd h hm (show c < 6 by omega)
    have dc := dv_bd b hw
    rw [w32_of (x := x1 * wrk (s 417) c) (by omega)] at dc
    have dj := dv_bd (prt_bd h hm (show j < 6 by omega)) hw
    have bl := lfW_bd h hm hw (show j ≤ 6 by omega)
    have bc := cn_le (f := ahB (s 417) x1 c) (n := j)
    rw [dj.2.2.2, dc.2.2.2] at q2 q3
    rw [dj.2.2.1, w32_of (by omega), w32_of (by omega), w32_of (by omega)]
    refine ⟨⟨j + 1, by omega, by omega, rfl, ?_, ?_, rfl, hp, hw⟩, by omega⟩
    · unfold lfW; rw [sm_s, if_pos (pl_0.2 q.2)]; omega
    · rw [cn_s, if_pos (by unfold ahB; rw [pl_0.2 q.2]; simp [q3, show j < c by omega])]
  · rintro _ _ _ _ _ ⟨j, rfl, hj, rfl, rfl, rfl, rfl, hp, hw⟩ hc q
    rw [tnc] at q
    rw [w32_of (by omega)]
    refine ⟨⟨j + 1, by omega, by omega, rfl, ?_, ?_, rfl, hp, hw⟩, by omega⟩
    · unfold lfW; rw [sm_s, if_neg (fun z => q ⟨by omega, pl_0.1 z⟩), Int.add_zero]
    · rw [cn_s, if_neg (by unfold ahB; intro z; simp at z; exact q ⟨by omega, pl_0.1 z.1⟩), Int.add_zero]
  · exact fun _ _ => ⟨0, rfl, by omega, rfl⟩
  · exact fun _ z => absurd hm z
  · exact fun z => absurd g1 z
