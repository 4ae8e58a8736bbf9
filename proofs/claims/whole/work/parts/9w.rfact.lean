/-! facts: the reference -/
def FPq (s t : mSt) : Prop := RHq t ∧ fRt s t ∧ 0 ≤ t 407 16 ∧ lnR t + t 407 16 ≤ (skR t : Int) ∧ (0 ≤ t 407 13 ∧ t 407 13 ≤ 10)
def FT1 (s t : mSt) : Prop := FPq s t ∧ skR s < skR t ∧ ∀ L K, KRq s L K → ∃ M J, KRq t M J ∧ rch (TR s) (nR s) (-1, skR s, s 407 12, L, K) (-2, skR t, t 407 12, M, J)
def FT0 (s t : mSt) : Prop := 0 < t 407 9 ∧ fRt s t ∧ ∀ L K, KRq s L K → rch (TR s) (nR s) (-1, skR s, s 407 12, L, K) (bad (t 407 9))
/-- an open sign pushed, the token passed -/
theorem psh_s {u w : mSt} {x : Int} {a : Nat} {L J : List Int} (hk : isK x) (hx : x = 200012 ∨ x = 91) (h : KRq u L J) (e : w = uS (uS (uS (uS u 407 13 (u 407 13 + 1)) 414 (u 407 16).toNat (enK x)) 407 16 (u 407 16 + 1)) 407 8 (a : Int)) : KRq w L (x :: J) := by
  have o := h.2.1
  have w7 : ∀ j, w 407 j = if j = 8 then (a : Int) else if j = 16 then u 407 16 + 1 else if j = 13 then u 407 13 + 1 else u 407 j := fun j => by rw [e, uS_at, uS_at, uS_cell (show 407 ≠ 414 by decide), uS_at]
  have w4 : ∀ j, w 414 j = if j = (u 407 16).toNat then enK x else u 414 j := fun j => by rw [e, uS_cell (by decide), uS_cell (by decide), uS_at, uS_cell (by decide)]
  have w16 : w 407 16 = u 407 16 + 1 := by rw [w7]; rfl
  have n1 : (w 407 16).toNat - 1 = (u 407 16).toNat := by omega
  have wt : txR w = txR u := by unfold txR; rw [w7]; rfl
  have wb : sgB w = sgB u := by
    unfold sgB lnR
    rw [wt, e, uS_cell (by decide), uS_cell (by decide), uS_cell (by decide), uS_cell (by decide), uS_cell (by decide), uS_cell (by decide), uS_cell (by decide), uS_cell (by decide)]
  refine ⟨⟨by omega, by rw [n1, w4, if_pos rfl], hk, ?_⟩, by omega, ?_, by unfold SGq; rw [wb]; exact h.2.2.2⟩
  · rw [n1]; exact KS_up h.1 (fun i hi => by rw [w4, if_neg (by omega)])
  · have d := h.2.2.1
    rw [w7]
    show u 407 13 + 1 = _
    rcases hx with rfl | rfl
    · rw [dp_n]; omega
    · rw [dp_b]; omega
theorem psh_f {s u w : mSt} {x : Int} {a : Nat} (hf : fRt s u) (e : w = uS (uS (uS (uS u 407 13 (u 407 13 + 1)) 414 (u 407 16).toNat x) 407 16 (u 407 16 + 1)) 407 8 (a : Int)) : fRt s w ∧ lnR w = lnR u := by
  have f1 : fRt s (uS u 407 13 (u 407 13 + 1)) := fRt_u hf _ (by decide)
  have f2 : fRt (uS u 407 13 (u 407 13 + 1)) (uS (uS u 407 13 (u 407 13 + 1)) 414 (u 407 16).toNat x) := ⟨fun b _ _ _ a4 => uS_cell a4, fun j _ _ _ => by rw [uS_cell (by decide)], fun j _ => by rw [uS_cell (by decide)], fun j _ => by rw [uS_cell (by decide)]⟩
  refine ⟨by rw [e]; exact fRt_u (fRt_u (fRt_t f1 f2) _ (by decide)) _ (by decide), ?_⟩
  have e1 : lnR (uS (uS u 407 13 (u 407 13 + 1)) 414 (u 407 16).toNat x) = lnR u := by
    unfold lnR txR
    rw [uS_cell (show 410 ≠ 414 by decide), uS_cell (show 407 ≠ 414 by decide), uS_cell (show 410 ≠ 407 by decide), uS_at, if_neg (by decide)]
  rw [e, lnR_u _ _ (by decide), lnR_u _ _ (by decide), e1]
theorem v191 {X : (Nat → Int) × Nat} {d : Nat} {s : mSt} {Q : mQ}
  (I2 : Int → mSt → Prop) (m2 : Int → mSt → Nat)
  (z1 : ∀ y1 : Int, ∀ s : mSt, I2 y1 s → y1 = 0 → RHq s ∧ lnR s ≤ (skR s : Int) ∧ ∃ L, SGq s L)
  (z2 : ∀ y1 : Int, ∀ s : mSt, I2 y1 s → y1 = 0 → ∀ s2 : mSt, (TZq s s2 ∧ ∀ L, SGq s L → TM1 s s2 (cpR s L)) → Q (some (mI 1)) s2)
  (z3 : ∀ y1 : Int, ∀ s : mSt, I2 y1 s → y1 = 0 → ∀ s3 : mSt, (∀ L, SGq s L → RZ0 s s3 (cpR s L).1) → Q (some (mI 0)) s3)
  (z4 : ∀ y1 : Int, ∀ s : mSt, I2 y1 s → ¬ y1 = 0 → TRq s)
  (z5 : ∀ y1 : Int, ∀ s : mSt, I2 y1 s → ¬ y1 = 0 → ∀ v5 : Int, ∀ s5 : mSt, (v5 = (if nR s ≤ skR s then -1 else TR s (skR s)) ∧ s5 = uS s 407 8 (skR s : Int)) → TRq s5)
  (z6 : ∀ y1 : Int, ∀ s : mSt, I2 y1 s → ¬ y1 = 0 → ∀ v5 : Int, ∀ s5 : mSt, (v5 = (if nR s ≤ skR s then -1 else TR s (skR s)) ∧ s5 = uS s 407 8 (skR s : Int)) → ∀ s6 : mSt, (iwR s5 (14836 : Int) ∧ s6 = uS s5 407 8 (skR s5 : Int)) → TRq s6 ∧ s6 407 9 = 0 ∧ (0 ≤ s6 407 13 ∧ s6 407 13 ≤ 10) ∧ (0 ≤ s6 407 16 ∧ s6 407 16 < 400))
  (z7 : ∀ y1 : Int, ∀ s : mSt, I2 y1 s → ¬ y1 = 0 → ∀ v5 : Int, ∀ s5 : mSt, (v5 = (if nR s ≤ skR s then -1 else TR s (skR s)) ∧ s5 = uS s 407 8 (skR s : Int)) → ∀ s6 : mSt, (iwR s5 (14836 : Int) ∧ s6 = uS s5 407 8 (skR s5 : Int)) → ∀ s7 : mSt, (s6 407 13 < 10 ∧ s7 = uS (uS (uS s6 407 13 (s6 407 13 + 1)) 414 (s6 407 16).toNat (11 : Int)) 407 16 (s6 407 16 + 1)) → TRq s7)
  (z8 : ∀ y1 : Int, ∀ s : mSt, I2 y1 s → ¬ y1 = 0 → ∀ v5 : Int, ∀ s5 : mSt, (v5 = (if nR s ≤ skR s then -1 else TR s (skR s)) ∧ s5 = uS s 407 8 (skR s : Int)) → ∀ s6 : mSt, (iwR s5 (14836 : Int) ∧ s6 = uS s5 407 8 (skR s5 : Int)) → ∀ s7 : mSt, (s6 407 13 < 10 ∧ s7 = uS (uS (uS s6 407 13 (s6 407 13 + 1)) 414 (s6 407 16).toNat (11 : Int)) 407 16 (s6 407 16 + 1)) → ∀ s8 : mSt, s8 = uS s7 407 8 (leT (TR s7) (nR s7) (s7 407 8).toNat : Int) → I2 1 s8 ∧ m2 1 s8 < m2 y1 s)
  (z9 : ∀ y1 : Int, ∀ s : mSt, I2 y1 s → ¬ y1 = 0 → ∀ v5 : Int, ∀ s5 : mSt, (v5 = (if nR s ≤ skR s then -1 else TR s (skR s)) ∧ s5 = uS s 407 8 (skR s : Int)) → ∀ s6 : mSt, (iwR s5 (14836 : Int) ∧ s6 = uS s5 407 8 (skR s5 : Int)) → ∀ s9 : mSt, (¬ s6 407 13 < 10 ∧ s9 = uS s6 407 9 (1 + 8 * s6 407 8 + 2)) → Q (some (mI 0)) s9)
  (z10 : ∀ y1 : Int, ∀ s : mSt, I2 y1 s → ¬ y1 = 0 → ∀ v5 : Int, ∀ s5 : mSt, (v5 = (if nR s ≤ skR s then -1 else TR s (skR s)) ∧ s5 = uS s 407 8 (skR s : Int)) → ∀ s10 : mSt, (¬ iwR s5 (14836 : Int) ∧ s10 = uS s5 407 8 (skR s5 : Int)) → ¬ v5 = 91 → I2 0 s10 ∧ m2 0 s10 < m2 y1 s)
  (z11 : ∀ y1 : Int, ∀ s : mSt, I2 y1 s → ¬ y1 = 0 → ∀ v5 : Int, ∀ s5 : mSt, (v5 = (if nR s ≤ skR s then -1 else TR s (skR s)) ∧ s5 = uS s 407 8 (skR s : Int)) → ∀ s10 : mSt, (¬ iwR s5 (14836 : Int) ∧ s10 = uS s5 407 8 (skR s5 : Int)) → v5 = 91 → TRq s10 ∧ s10 407 9 = 0 ∧ (0 ≤ s10 407 13 ∧ s10 407 13 ≤ 10) ∧ (0 ≤ s10 407 16 ∧ s10 407 16 < 400))
  (z12 : ∀ y1 : Int, ∀ s : mSt, I2 y1 s → ¬ y1 = 0 → ∀ v5 : Int, ∀ s5 : mSt, (v5 = (if nR s ≤ skR s then -1 else TR s (skR s)) ∧ s5 = uS s 407 8 (skR s : Int)) → ∀ s10 : mSt, (¬ iwR s5 (14836 : Int) ∧ s10 = uS s5 407 8 (skR s5 : Int)) → v5 = 91 → ∀ s13 : mSt, (s10 407 13 < 10 ∧ s13 = uS (uS (uS s10 407 13 (s10 407 13 + 1)) 414 (s10 407 16).toNat (91 : Int)) 407 16 (s10 407 16 + 1)) → ∀ t14 : mSt, t14 = uS s13 407 8 (w32 ((s13 407 8) + 1)) → I2 1 t14 ∧ m2 1 t14 < m2 y1 s)
  (z13 : ∀ y1 : Int, ∀ s : mSt, I2 y1 s → ¬ y1 = 0 → ∀ v5 : Int, ∀ s5 : mSt, (v5 = (if nR s ≤ skR s then -1 else TR s (skR s)) ∧ s5 = uS s 407 8 (skR s : Int)) → ∀ s10 : mSt, (¬ iwR s5 (14836 : Int) ∧ s10 = uS s5 407 8 (skR s5 : Int)) → v5 = 91 → ∀ s15 : mSt, (¬ s10 407 13 < 10 ∧ s15 = uS s10 407 9 (1 + 8 * s10 407 8 + 2)) → Q (some (mI 0)) s15)
  (z14 : I2 1 s) :
  Sp X (d + 7) 191 [mR 407] s Q := by
  have L : ∀ k : Nat, (∀ (y1 : Int) (l2 : Option mV) (s : mSt), I2 y1 s → m2 y1 s < k → Wp X (d + 7) 191 2 [some (mR 407), some (mI y1), l2] [] s Q) := by
    intro k
    induction k with
    | zero => exact fun _ _ _ _ h => absurd h (Nat.not_lt_zero _)
    | succ k ih => exact fun y1 l2 s hI hm => b191_2 (fun q1 => b191_75 (c190 (z1 y1 s hI q1) (fun s2 q2 => ⟨1, rfl, b191_79 (z2 y1 s hI q1 s2 q2) (Or.inr rfl)⟩) (fun s3 q3 => ⟨0, rfl, b191_79 (z3 y1 s hI q1 s3 q3) (Or.inl rfl)⟩))) (fun q4 => b191_6 (c174 (z4 y1 s hI q4) (fun v5 s5 q5 => ⟨v5, rfl, b191_12 (c177 (z5 y1 s hI q4 v5 s5 q5) (fun s6 q6 => ⟨1, rfl, b191_20 (fun q => absurd q (by decide)) (fun _ => b191_23 (c184 (z6 y1 s hI q4 v5 s5 q5 s6 q6) (fun s7 q7 => ⟨1, rfl, b191_29 (fun _ => b191_34 (c178 (z7 y1 s hI q4 v5 s5 q5 s6 q6 s7 q7) (fun s8 q8 => ⟨rfl, b191_38 (b191_72 (ih 1 (some (mI v5)) s8 (z8 y1 s hI q4 v5 s5 q5 s6 q6 s7 q7 s8 q8).1 (Nat.lt_of_lt_of_le (z8 y1 s hI q4 v5 s5 q5 s6 q6 s7 q7 s8 q8).2 (Nat.le_of_lt_succ hm))))⟩))) (fun q => absurd q (by decide))⟩) (fun s9 q9 => ⟨0, rfl, b191_29 (fun q => absurd q (by decide)) (fun _ => b191_32 (z9 y1 s hI q4 v5 s5 q5 s6 q6 s9 q9))⟩)))⟩) (fun s10 q10 => ⟨0, rfl, b191_20 (fun _ => b191_43 (fun q11 => b191_72 (ih 0 (some (mI v5)) s10 (z10 y1 s hI q4 v5 s5 q5 s10 q10 q11).1 (Nat.lt_of_lt_of_le (z10 y1 s hI q4 v5 s5 q5 s10 q10 q11).2 (Nat.le_of_lt_succ hm)))) (fun q12 => b191_49 (c184 (z11 y1 s hI q4 v5 s5 q5 s10 q10 q12) (fun s13 q13 => ⟨1, rfl, b191_55 (fun _ => b191_60 (Wp_gen (fun t14 e14 => b191_72 (ih 1 (some (mI v5)) t14 (z12 y1 s hI q4 v5 s5 q5 s10 q10 q12 s13 q13 t14 e14).1 (Nat.lt_of_lt_of_le (z12 y1 s hI q4 v5 s5 q5 s10 q10 q12 s13 q13 t14 e14).2 (Nat.le_of_lt_succ hm)))))) (fun q => absurd q (by decide))⟩) (fun s15 q15 => ⟨0, rfl, b191_55 (fun q => absurd q (by decide)) (fun _ => b191_58 (z13 y1 s hI q4 v5 s5 q5 s10 q10 q12 s15 q15))⟩)))) (fun q => absurd q (by decide))⟩))⟩)))
  exact e191 (b191_0 ((L (m2 1 s + 1)) 1 none s z14 (Nat.lt_succ_self _)))

