/-! numbers: the reference -/
def fR (s t : mSt) : Prop := (∀ b, b ≠ 407 → t b = s b) ∧ ∀ j, ¬ (8 ≤ j ∧ j ≤ 10) → t 407 j = s 407 j
theorem fR_t {s t u : mSt} (h1 : fR s t) (h2 : fR t u) : fR s u := ⟨fun b hb => (h2.1 b hb).trans (h1.1 b hb), fun j hj => (h2.2 j hj).trans (h1.2 j hj)⟩
theorem fR_u {s t : mSt} (h : fR s t) {j : Nat} (x : Int) (hj : 8 ≤ j ∧ j ≤ 10) : fR s (uS t 407 j x) := ⟨fun b hb => (uS_cell hb).trans (h.1 b hb), fun i hi => by rw [uS_at, if_neg (by omega)]; exact h.2 i hi⟩
theorem fR_0 (s : mSt) : fR s s := ⟨fun _ _ => rfl, fun _ _ => rfl⟩
def tkR (s : mSt) : Nat := tkP (TR s) (nR s) (skR s)
theorem v180 {X : (Nat → Int) × Nat} {d : Nat} {s : mSt} {Q : mQ} {x1 : Int} {x2 : Int}
  (I34 : Int → Int → mSt → Prop) (m34 : Int → Int → mSt → Nat)
  (z1 : ∀ y3 : Int, ∀ y4 : Int, ∀ s : mSt, I34 y3 y4 s → TRq s ∧ 0 ≤ (s 407 8))
  (z2 : ∀ y3 : Int, ∀ y4 : Int, ∀ s : mSt, I34 y3 y4 s → ((s 407 8).toNat < nR s ∧ isD (TR s) (s 407 8).toNat = true) → 5 ≤ (w32 ((s 407 8) - y3)) → I34 y3 y4 (uS s 407 8 (w32 ((s 407 8) + 1))) ∧ m34 y3 y4 (uS s 407 8 (w32 ((s 407 8) + 1))) < m34 y3 y4 s)
  (z3 : ∀ y3 : Int, ∀ y4 : Int, ∀ s : mSt, I34 y3 y4 s → ((s 407 8).toNat < nR s ∧ isD (TR s) (s 407 8).toNat = true) → ¬ 5 ≤ (w32 ((s 407 8) - y3)) → 0 ≤ (s 407 8) ∧ (s 407 8) < 400)
  (z4 : ∀ y3 : Int, ∀ y4 : Int, ∀ s : mSt, I34 y3 y4 s → ((s 407 8).toNat < nR s ∧ isD (TR s) (s 407 8).toNat = true) → ¬ 5 ≤ (w32 ((s 407 8) - y3)) → I34 y3 (w32 ((w32 ((w32 (10 * y4)) + (s 408 (s 407 8).toNat))) - 48)) (uS s 407 8 (w32 ((s 407 8) + 1))) ∧ m34 y3 (w32 ((w32 ((w32 (10 * y4)) + (s 408 (s 407 8).toNat))) - 48)) (uS s 407 8 (w32 ((s 407 8) + 1))) < m34 y3 y4 s)
  (z5 : ∀ y3 : Int, ∀ y4 : Int, ∀ s : mSt, I34 y3 y4 s → (¬ ((s 407 8).toNat < nR s ∧ isD (TR s) (s 407 8).toNat = true)) → 5 < (w32 (((uS s 407 10 y4) 407 8) - y3)) → ∀ t6 : mSt, t6 = uS s 407 10 y4 → (0 ≤ (1 : Int) ∧ (1 : Int) ≤ 4) ∧ (0 ≤ y3 ∧ y3 ≤ 400))
  (z6 : ∀ y3 : Int, ∀ y4 : Int, ∀ s : mSt, I34 y3 y4 s → (¬ ((s 407 8).toNat < nR s ∧ isD (TR s) (s 407 8).toNat = true)) → 5 < (w32 (((uS s 407 10 y4) 407 8) - y3)) → ∀ t6 : mSt, t6 = uS s 407 10 y4 → ∀ v7 : Int, ∀ s7 : mSt, (v7 = 0 ∧ s7 = flR t6 (1 : Int) y3) → v7 = 0 → Q (some (mI 0)) s7)
  (z7 : ∀ y3 : Int, ∀ y4 : Int, ∀ s : mSt, I34 y3 y4 s → (¬ ((s 407 8).toNat < nR s ∧ isD (TR s) (s 407 8).toNat = true)) → 5 < (w32 (((uS s 407 10 y4) 407 8) - y3)) → ∀ t6 : mSt, t6 = uS s 407 10 y4 → ∀ v7 : Int, ∀ s7 : mSt, (v7 = 0 ∧ s7 = flR t6 (1 : Int) y3) → ¬ v7 = 0 → Q (some (mI 1)) s7)
  (z8 : ∀ y3 : Int, ∀ y4 : Int, ∀ s : mSt, I34 y3 y4 s → (¬ ((s 407 8).toNat < nR s ∧ isD (TR s) (s 407 8).toNat = true)) → ¬ 5 < (w32 (((uS s 407 10 y4) 407 8) - y3)) → ∀ t11 : mSt, t11 = uS s 407 10 y4 → (x1 ≤ y4 ∧ y4 ≤ x2) → Q (some (mI 1)) t11)
  (z9 : ∀ y3 : Int, ∀ y4 : Int, ∀ s : mSt, I34 y3 y4 s → (¬ ((s 407 8).toNat < nR s ∧ isD (TR s) (s 407 8).toNat = true)) → ¬ 5 < (w32 (((uS s 407 10 y4) 407 8) - y3)) → ∀ t11 : mSt, t11 = uS s 407 10 y4 → (¬ (x1 ≤ y4 ∧ y4 ≤ x2)) → (0 ≤ (1 : Int) ∧ (1 : Int) ≤ 4) ∧ (0 ≤ y3 ∧ y3 ≤ 400))
  (z10 : ∀ y3 : Int, ∀ y4 : Int, ∀ s : mSt, I34 y3 y4 s → (¬ ((s 407 8).toNat < nR s ∧ isD (TR s) (s 407 8).toNat = true)) → ¬ 5 < (w32 (((uS s 407 10 y4) 407 8) - y3)) → ∀ t11 : mSt, t11 = uS s 407 10 y4 → (¬ (x1 ≤ y4 ∧ y4 ≤ x2)) → ∀ v14 : Int, ∀ s14 : mSt, (v14 = 0 ∧ s14 = flR t11 (1 : Int) y3) → v14 = 0 → Q (some (mI 0)) s14)
  (z11 : ∀ y3 : Int, ∀ y4 : Int, ∀ s : mSt, I34 y3 y4 s → (¬ ((s 407 8).toNat < nR s ∧ isD (TR s) (s 407 8).toNat = true)) → ¬ 5 < (w32 (((uS s 407 10 y4) 407 8) - y3)) → ∀ t11 : mSt, t11 = uS s 407 10 y4 → (¬ (x1 ≤ y4 ∧ y4 ≤ x2)) → ∀ v14 : Int, ∀ s14 : mSt, (v14 = 0 ∧ s14 = flR t11 (1 : Int) y3) → ¬ v14 = 0 → Q (some (mI 1)) s14)
  (z12 : TRq s)
  (z13 : ∀ v17 : Int, ∀ s17 : mSt, (v17 = (if nR s ≤ skR s then -1 else TR s (skR s)) ∧ s17 = uS s 407 8 (skR s : Int)) → TRq s17 ∧ 0 ≤ (s17 407 8))
  (z14 : ∀ v17 : Int, ∀ s17 : mSt, (v17 = (if nR s ≤ skR s then -1 else TR s (skR s)) ∧ s17 = uS s 407 8 (skR s : Int)) → ((s17 407 8).toNat < nR s17 ∧ isD (TR s17) (s17 407 8).toNat = true) → I34 (s17 407 8) 0 s17)
  (z15 : ∀ v17 : Int, ∀ s17 : mSt, (v17 = (if nR s ≤ skR s then -1 else TR s (skR s)) ∧ s17 = uS s 407 8 (skR s : Int)) → (¬ ((s17 407 8).toNat < nR s17 ∧ isD (TR s17) (s17 407 8).toNat = true)) → (0 ≤ (0 : Int) ∧ (0 : Int) ≤ 4) ∧ (0 ≤ (s17 407 8) ∧ (s17 407 8) ≤ 400))
  (z16 : ∀ v17 : Int, ∀ s17 : mSt, (v17 = (if nR s ≤ skR s then -1 else TR s (skR s)) ∧ s17 = uS s 407 8 (skR s : Int)) → (¬ ((s17 407 8).toNat < nR s17 ∧ isD (TR s17) (s17 407 8).toNat = true)) → ∀ v20 : Int, ∀ s20 : mSt, (v20 = 0 ∧ s20 = flR s17 (0 : Int) (s17 407 8)) → Q (some (mI v20)) s20)
  (z17 : ∀ v17 : Int, ∀ s17 : mSt, (v17 = (if nR s ≤ skR s then -1 else TR s (skR s)) ∧ s17 = uS s 407 8 (skR s : Int)) → (¬ ((s17 407 8).toNat < nR s17 ∧ isD (TR s17) (s17 407 8).toNat = true)) → ∀ v20 : Int, ∀ s20 : mSt, (v20 = 0 ∧ s20 = flR s17 (0 : Int) (s17 407 8)) → v20 = 0 ∨ v20 = 1) :
  Sp X (d + 1) 180 [mR 407, mI x1, mI x2] s Q := by
  have L : ∀ k : Nat, (∀ (y3 : Int) (y4 : Int) (s : mSt), I34 y3 y4 s → m34 y3 y4 s < k → Wp X (d + 1) 180 34 [some (mR 407), some (mI x1), some (mI x2), some (mI y3), some (mI y4)] [] s Q) := by
    intro k
    induction k with
    | zero => exact fun _ _ _ _ h => absurd h (Nat.not_lt_zero _)
    | succ k ih => exact fun y3 y4 s hI hm => b180_34 (c175 (z1 y3 y4 s hI) (fun q1 => ⟨1, rfl, b180_42 (fun q => absurd q (by decide)) (fun _ => b180_45 (fun q2 => b180_75 (ih y3 y4 (uS s 407 8 (w32 ((s 407 8) + 1))) (z2 y3 y4 s hI q1 q2).1 (Nat.lt_of_lt_of_le (z2 y3 y4 s hI q1 q2).2 (Nat.le_of_lt_succ hm)))) (fun q3 => b180_55 (z3 y3 y4 s hI q1 q3) (b180_75 (ih y3 (w32 ((w32 ((w32 (10 * y4)) + (s 408 (s 407 8).toNat))) - 48)) (uS s 407 8 (w32 ((s 407 8) + 1))) (z4 y3 y4 s hI q1 q3).1 (Nat.lt_of_lt_of_le (z4 y3 y4 s hI q1 q3).2 (Nat.le_of_lt_succ hm))))))⟩) (fun q4 => ⟨0, rfl, b180_42 (fun _ => b180_88 (fun q5 => Wp_gen (fun t6 e6 => b180_117 (c173 (z5 y3 y4 s hI q4 q5 t6 e6) (fun v7 s7 q7 => ⟨v7, rfl, b180_123 (fun q8 => b180_130 (b180_131 (z6 y3 y4 s hI q4 q5 t6 e6 v7 s7 q7 q8) (Or.inl rfl))) (fun q9 => b180_126 (b180_131 (z7 y3 y4 s hI q4 q5 t6 e6 v7 s7 q7 q9) (Or.inr rfl)))⟩)))) (fun q10 => Wp_gen (fun t11 e11 => b180_104 (c167  (fun q12 => ⟨1, rfl, b180_114 (fun _ => b180_126 (b180_131 (z8 y3 y4 s hI q4 q10 t11 e11 q12) (Or.inr rfl))) (fun q => absurd q (by decide))⟩) (fun q13 => ⟨0, rfl, b180_114 (fun q => absurd q (by decide)) (fun _ => b180_117 (c173 (z9 y3 y4 s hI q4 q10 t11 e11 q13) (fun v14 s14 q14 => ⟨v14, rfl, b180_123 (fun q15 => b180_130 (b180_131 (z10 y3 y4 s hI q4 q10 t11 e11 q13 v14 s14 q14 q15) (Or.inl rfl))) (fun q16 => b180_126 (b180_131 (z11 y3 y4 s hI q4 q10 t11 e11 q13 v14 s14 q14 q16) (Or.inr rfl)))⟩)))⟩))))) (fun q => absurd q (by decide))⟩))
  exact e180 (b180_0 (c174 z12 (fun v17 s17 q17 => ⟨v17, rfl, b180_4 (c175 (z13 v17 s17 q17) (fun q18 => ⟨1, rfl, b180_13 (fun _ => b180_26 ((L (m34 (s17 407 8) 0 s17 + 1)) (s17 407 8) 0 s17 (z14 v17 s17 q17 q18) (Nat.lt_succ_self _))) (fun q => absurd q (by decide))⟩) (fun q19 => ⟨0, rfl, b180_13 (fun q => absurd q (by decide)) (fun _ => b180_16 (c173 (z15 v17 s17 q17 q19) (fun v20 s20 q20 => ⟨v20, rfl, b180_25 (z16 v17 s17 q17 q19 v20 s20 q20) (z17 v17 s17 q17 q19 v20 s20 q20)⟩)))⟩))⟩)))

theorem c180 {X : (Nat → Int) × Nat} {d : Nat} {s : mSt} {Q : mQ} {x1 : Int} {x2 : Int} (p1 : TRq s ∧ s 407 9 = 0) (k1 : ∀ t : mSt, (nuA (TR s) (nR s) (skR s) x1 x2 = -1 ∧ t = uS (uS s 407 8 (tkR s : Int)) 407 10 (vA (TR s) (nR s) (skR s))) → Q (some (mI 1)) t) (k0 : ∀ t : mSt, (¬ nuA (TR s) (nR s) (skR s) x1 x2 = -1 ∧ t 407 9 = fuA (skR s) (nuA (TR s) (nR s) (skR s) x1 x2) ∧ fR s t) → Q (some (mI 0)) t) : Sp X (d + 1) 180 [mR 407, mI x1, mI x2] s Q := by
  obtain ⟨h, h9⟩ := p1
  have hb := skR_b h
  have hT := TR_t h
  let a := skR s
  have ea : a = skR s := rfl
  let J : Int → Int → mSt → Prop := fun y3 y4 t => ∃ i : Nat, y3 = (skR s : Int) ∧ (skR s < nR s ∧ isD (TR s) (skR s) = true) ∧ skR s + i ≤ nR s ∧ deT (TR s) (nR s) (skR s + i) = deT (TR s) (nR s) (skR s) ∧ t = uS s 407 8 ((skR s + i : Nat) : Int) ∧ (i ≤ 5 → y4 = nv (TR s) (skR s) i)
  have tt : ∀ t (i : Nat), skR s + i ≤ nR s → t = uS s 407 8 ((skR s + i : Nat) : Int) → t 407 8 = ((skR s + i : Nat) : Int) ∧ nR t = nR s ∧ TR t = TR s ∧ TRq t ∧ t 408 = s 408 := fun t i hi ht => by
    rw [ht]
    exact ⟨by rw [uS_at, if_pos rfl], nR_u s _ (by decide), TR_u s _ _, TRq_8 h hi, uS_cell (by decide)⟩
  have en : ∀ i : Nat, ¬ (skR s + i < nR s ∧ isD (TR s) (skR s + i) = true) → deT (TR s) (nR s) (skR s + i) = deT (TR s) (nR s) (skR s) → deT (TR s) (nR s) (skR s) = skR s + i := fun i h1 h2 => by
    rw [← h2]; unfold deT; rw [rnT_e, if_neg h1]
  have go : ∀ i : Nat, skR s + i < nR s ∧ isD (TR s) (skR s + i) = true → deT (TR s) (nR s) (skR s + i) = deT (TR s) (nR s) (skR s) → deT (TR s) (nR s) (skR s + (i + 1)) = deT (TR s) (nR s) (skR s) := fun i h1 h2 => by
    rw [← h2]; unfold deT; rw [rnT_e _ _ (skR s + i), if_pos h1]; rfl
  have fl : ∀ (t : mSt) (v y : Int), t = uS s 407 8 v → flR (uS t 407 10 y) 1 (skR s : Int) = uS (uS t 407 10 y) 407 9 (fuA (skR s) 1) := fun t v y ht => by
    have e : (uS t 407 10 y) 407 9 = 0 := by rw [uS_at, if_neg (by decide), ht, uS_at, if_neg (by decide)]; exact h9
    unfold flR fuA; rw [if_pos e]
  have fr : ∀ (t : mSt) (v y z : Int), t = uS s 407 8 v → fR s (uS (uS t 407 10 y) 407 9 z) := fun t v y z ht => by
    rw [ht]; exact fR_u (fR_u (fR_u (fR_0 s) _ (by decide)) _ (by decide)) _ (by decide)
  have nuS : ∀ i : Nat, (skR s < nR s ∧ isD (TR s) (skR s) = true) → deT (TR s) (nR s) (skR s) = skR s + i → tkR s = skR s + i ∧ vA (TR s) (nR s) (skR s) = nv (TR s) (skR s) i ∧ nuA (TR s) (nR s) (skR s) x1 x2 = (if (i : Int) ≤ 5 ∧ x1 ≤ nv (TR s) (skR s) i ∧ nv (TR s) (skR s) i ≤ x2 then -1 else 1) := fun i hd e => by
    have ep : tkP (TR s) (nR s) (skR s) = skR s + i := by rw [tkP_D hd, e]
    have ev : vA (TR s) (nR s) (skR s) = nv (TR s) (skR s) i := by unfold vA; rw [ep, show skR s + i - skR s = i by omega]
    refine ⟨ep, ev, ?_⟩
    unfold nuA
    rw [if_pos ((tkD hT).2 hd), ev, ep, show ((skR s + i : Nat) : Int) - (skR s : Int) = (i : Int) by omega]
  refine v180 J (fun _ _ t => (500 - t 407 8).toNat) ?_ ?_ ?_ ?_ ?_ ?_ ?_ ?_ ?_ ?_ ?_ h ?_ ?_ ?_ ?_ ?_
  · rintro y3 y4 t ⟨i, rfl, hd, hi, hl, ht, hv⟩
    have q := tt t i hi ht
    exact ⟨q.2.2.2.1, by rw [q.1]; omega⟩
  · rintro y3 y4 t ⟨i, rfl, hd, hi, hl, ht, hv⟩ hc h5
    have q := tt t i hi ht
    rw [q.1, tnc, q.2.1, q.2.2.1] at hc
    rw [q.1, w32_of (by omega)] at h5
    rw [q.1, w32_of (by omega)]
    refine ⟨⟨i + 1, rfl, hd, by omega, go i hc hl, ?_, fun w => by omega⟩, ?_⟩
    · rw [ht, uS_uS]; rfl
    · rw [uS_at, if_pos rfl]; omega
  · rintro y3 y4 t ⟨i, rfl, hd, hi, hl, ht, hv⟩ hc h5
    have q := tt t i hi ht
    rw [q.1, tnc, q.2.1, q.2.2.1] at hc
    rw [q.1]; omega
  · rintro y3 y4 t ⟨i, rfl, hd, hi, hl, ht, hv⟩ hc h5
    have q := tt t i hi ht
    rw [q.1, tnc, q.2.1, q.2.2.1] at hc
    rw [q.1, w32_of (by omega)] at h5
    rw [q.1, w32_of (x := ((skR s + i : Nat) : Int) + 1) (by omega), tnc, q.2.2.2.2]
    refine ⟨⟨i + 1, rfl, hd, by omega, go i hc hl, ?_, fun w => ?_⟩, ?_⟩
    · rw [ht, uS_uS]; rfl
    · have e8 : s 408 (skR s + i) = TR s (skR s + i) := by
        have b := h.1 (skR s + i)
        have c := isD_i.1 hc.2
        unfold TR ub at c ⊢
        split at c <;> omega
      rw [hv (by omega), e8, Int.mul_comm]
      rfl
    · rw [uS_at, if_pos rfl]; omega
  · rintro y3 y4 t ⟨i, rfl, hd, hi, hl, ht, hv⟩ hc h5 t6 e6
    exact ⟨by decide, by omega⟩
  · rintro y3 y4 t ⟨i, rfl, hd, hi, hl, ht, hv⟩ hc h5 t6 e6 v7 s7 ⟨_, e7⟩ _
    have q := tt t i hi ht
    rw [q.1, tnc, q.2.1, q.2.2.1] at hc
    rw [uS_at, if_neg (by decide), q.1, w32_of (by omega)] at h5
    have w := nuS i hd (en i hc hl)
    rw [if_neg (by omega)] at w
    rw [e6, fl t _ _ ht] at e7
    refine k0 s7 ⟨by rw [w.2.2]; decide, by rw [w.2.2, e7, uS_at, if_pos rfl], by rw [e7]; exact fr t _ _ _ ht⟩
  · rintro y3 y4 t ⟨i, rfl, hd, hi, hl, ht, hv⟩ hc h5 t6 e6 v7 s7 ⟨e, _⟩ z
    exact absurd e z
  · rintro y3 y4 t ⟨i, rfl, hd, hi, hl, ht, hv⟩ hc h5 t6 e6 hr
    have q := tt t i hi ht
    rw [q.1, tnc, q.2.1, q.2.2.1] at hc
    rw [uS_at, if_neg (by decide), q.1, w32_of (by omega)] at h5
    have w := nuS i hd (en i hc hl)
    have e4 := hv (by omega)
    rw [e4] at hr
    rw [if_pos ⟨by omega, hr⟩] at w
    refine k1 t6 ⟨w.2.2, ?_⟩
    rw [e6, ht, w.1, w.2.1, e4]
  · rintro y3 y4 t ⟨i, rfl, hd, hi, hl, ht, hv⟩ hc h5 t6 e6 hr
    exact ⟨by decide, by omega⟩
  · rintro y3 y4 t ⟨i, rfl, hd, hi, hl, ht, hv⟩ hc h5 t6 e6 hr v7 s7 ⟨_, e7⟩ _
    have q := tt t i hi ht
    rw [q.1, tnc, q.2.1, q.2.2.1] at hc
    rw [uS_at, if_neg (by decide), q.1, w32_of (by omega)] at h5
    have w := nuS i hd (en i hc hl)
    have e4 := hv (by omega)
    rw [e4] at hr
    rw [if_neg (fun x => hr x.2)] at w
    rw [e6, fl t _ _ ht] at e7
    refine k0 s7 ⟨by rw [w.2.2]; decide, by rw [w.2.2, e7, uS_at, if_pos rfl], by rw [e7]; exact fr t _ _ _ ht⟩
  · rintro y3 y4 t ⟨i, rfl, hd, hi, hl, ht, hv⟩ hc h5 t6 e6 hr v7 s7 ⟨e, _⟩ z
    exact absurd e z
  · rintro v t ⟨_, ht⟩
    rw [ht]
    exact ⟨TRq_s h, by rw [uS_at, if_pos rfl]; omega⟩
  · rintro v t ⟨_, ht⟩ hc
    have q := tt t 0 hb.2.1 ht
    rw [q.1, tnc, q.2.1, q.2.2.1] at hc
    refine ⟨0, q.1, hc, hb.2.1, rfl, ht, fun _ => rfl⟩
  · rintro v t ⟨_, ht⟩ hc
    have q := tt t 0 hb.2.1 ht
    rw [q.1]
    exact ⟨by decide, by omega⟩
  · rintro v t ⟨_, ht⟩ hc v2 t2 ⟨rfl, e2⟩
    have q := tt t 0 hb.2.1 ht
    rw [q.1, tnc, q.2.1, q.2.2.1] at hc
    have w : nuA (TR s) (nR s) (skR s) x1 x2 = 0 := if_neg (fun z => hc ((tkD hT).1 z))
    have e : t 407 9 = 0 := by rw [ht, uS_at, if_neg (by decide)]; exact h9
    have e3 : t2 = uS t 407 9 (fuA (skR s) 0) := by
      rw [e2, q.1]; unfold flR fuA; rw [if_pos e]; rfl
    refine k0 t2 ⟨by rw [w]; decide, by rw [w, e3, uS_at, if_pos rfl], ?_⟩
    rw [e3, ht]
    exact fR_u (fR_u (fR_0 s) _ (by decide)) _ (by decide)
  · rintro v t ⟨_, ht⟩ hc v2 t2 ⟨e, _⟩
    exact Or.inl e
def fWr (s t : mSt) : Prop := (∀ b, b ≠ 407 → b ≠ 413 → t b = s b) ∧ ∀ j, ¬ (8 ≤ j ∧ j ≤ 10) → t 407 j = s 407 j
theorem fWr_t {s t u : mSt} (h1 : fWr s t) (h2 : fWr t u) : fWr s u := ⟨fun b hb hc => (h2.1 b hb hc).trans (h1.1 b hb hc), fun j hj => (h2.2 j hj).trans (h1.2 j hj)⟩
theorem fR_Wr {s t : mSt} (h : fR s t) : fWr s t := ⟨fun b hb _ => h.1 b hb, h.2⟩
theorem fWr_0 (s : mSt) : fWr s s := ⟨fun _ _ _ => rfl, fun _ _ => rfl⟩
theorem fWr_u {s t : mSt} (h : fWr s t) (j : Nat) (x : Int) : fWr s (uS t 413 j x) := ⟨fun b hb hc => (uS_cell hc).trans (h.1 b hb hc), fun i hi => by rw [uS_cell (by decide)]; exact h.2 i hi⟩
theorem fWr_T {s t : mSt} (h : fWr s t) : TR t = TR s ∧ nR t = nR s := by
  refine ⟨?_, ?_⟩
  · unfold TR; rw [h.1 408 (by decide) (by decide)]
  · unfold nR; rw [h.2 1 (by decide)]
def RPq (s t : mSt) (a : Nat) : Prop := TRq t ∧ skR t = a ∧ t 407 9 = 0 ∧ fWr s t
def M1q (s t : mSt) (c : Nat) (l m : Int) : Prop := nuA (TR s) (nR s) (skR s) l m = -1 ∧ RPq s t (nxA (TR s) (nR s) (skR s)) ∧ t 413 = up (s 413) c (vA (TR s) (nR s) (skR s))
def M0q (s t : mSt) (l m : Int) : Prop := ¬ nuA (TR s) (nR s) (skR s) l m = -1 ∧ t 407 9 = fuA (skR s) (nuA (TR s) (nR s) (skR s) l m) ∧ fWr s t
theorem v196 {X : (Nat → Int) × Nat} {d : Nat} {s : mSt} {Q : mQ} {x1 : Int} {x2 : Int} {x3 : Int}
  (z1 : TRq s ∧ s 407 9 = 0)
  (z2 : ∀ s1 : mSt, (nuA (TR s) (nR s) (skR s) x2 x3 = -1 ∧ s1 = uS (uS s 407 8 (tkR s : Int)) 407 10 (vA (TR s) (nR s) (skR s))) → 0 ≤ x1 ∧ x1 < 135)
  (z3 : ∀ s1 : mSt, (nuA (TR s) (nR s) (skR s) x2 x3 = -1 ∧ s1 = uS (uS s 407 8 (tkR s : Int)) 407 10 (vA (TR s) (nR s) (skR s))) → Q (some (mI 1)) (uS s1 413 x1.toNat (s1 407 10)))
  (z4 : ∀ s2 : mSt, (¬ nuA (TR s) (nR s) (skR s) x2 x3 = -1 ∧ s2 407 9 = fuA (skR s) (nuA (TR s) (nR s) (skR s) x2 x3) ∧ fR s s2) → Q (some (mI 0)) s2) :
  Sp X (d + 2) 196 [mR 407, mI x1, mI x2, mI x3] s Q := e196 (b196_0 (c180 z1 (fun s1 q1 => ⟨1, rfl, b196_6 (fun _ => b196_11 (z2 s1 q1) (z3 s1 q1)) (fun q => absurd q (by decide))⟩) (fun s2 q2 => ⟨0, rfl, b196_6 (fun q => absurd q (by decide)) (fun _ => b196_9 (z4 s2 q2))⟩)))

theorem c196 {X : (Nat → Int) × Nat} {d : Nat} {s : mSt} {Q : mQ} {x1 : Int} {x2 : Int} {x3 : Int} (p1 : TRq s ∧ s 407 9 = 0 ∧ (0 ≤ x1 ∧ x1 < 135)) (k1 : ∀ t : mSt, (M1q s t x1.toNat x2 x3) → Q (some (mI 1)) t) (k0 : ∀ t : mSt, (M0q s t x2 x3) → Q (some (mI 0)) t) : Sp X (d + 2) 196 [mR 407, mI x1, mI x2, mI x3] s Q := by
  obtain ⟨h, h9, h1⟩ := p1
  have hb := skR_b h
  have pb := tkP_b (TR s) hb.2.1
  refine v196 ⟨h, h9⟩ (fun _ _ => h1) (fun s1 w => k1 _ ⟨w.1, ⟨?_, ?_, ?_, ?_⟩, ?_⟩) (fun s2 w => k0 s2 ⟨w.1, w.2.1, fR_Wr w.2.2⟩)
  · have a := TRq_o (TRq_8 h (a := tkR s) pb.2.1) (j := 10) (vA (TR s) (nR s) (skR s)) (by decide) (by decide)
    rw [← w.2] at a
    unfold TRq at a ⊢
    rw [uS_cell (by decide), uS_cell (by decide)]
    exact a
  · have e : skR (uS s1 413 x1.toNat (s1 407 10)) = skR s1 := by
      unfold skR TR nR; rw [uS_cell (by decide), uS_cell (by decide)]
    rw [e, w.2, skR_o _ _ (by decide) (by decide), skR_8]
    rfl
  · rw [uS_cell (by decide), w.2, uS_at, if_neg (by decide), uS_at, if_neg (by decide)]; exact h9
  · refine fWr_u ?_ _ _
    rw [w.2]
    exact fR_Wr (fR_u (fR_u (fR_0 s) _ (by decide)) _ (by decide))
  · rw [w.2]
    funext j
    rw [uS_at, uS_at, if_pos rfl]
    rw [uS_cell (by decide), uS_cell (by decide)]
    rfl
theorem M1c {s a : mSt} {c : Nat} {l m : Int} (h : M1q s a c l m) (L : List (Int × Int)) : seqA (TR s) (nR s) ((l, m) :: L) (skR s) = ((seqA (TR a) (nR a) L (skR a)).1, (seqA (TR a) (nR a) L (skR a)).2.1, vA (TR s) (nR s) (skR s) :: (seqA (TR a) (nR a) L (skR a)).2.2) := by
  have e := fWr_T h.2.1.2.2.2
  rw [e.1, e.2, h.2.1.2.1]
  exact if_pos h.1
theorem M0c {s b : mSt} {l m : Int} (h : M0q s b l m) (L : List (Int × Int)) : (seqA (TR s) (nR s) ((l, m) :: L) (skR s)).1 = b 407 9 ∧ ¬ b 407 9 = 0 := by
  have nb := nuA_b (TR s) (nR s) (skR s) l m
  have e : (seqA (TR s) (nR s) ((l, m) :: L) (skR s)) = (fuA (skR s) (nuA (TR s) (nR s) (skR s) l m), skR s, []) := if_neg h.1
  have h1 : ¬ nuA (TR s) (nR s) (skR s) l m = -1 := h.1
  refine ⟨by rw [e]; exact h.2.1.symm, by rw [h.2.1]; unfold fuA; omega⟩
def RWq (s : mSt) : Prop := TRq s ∧ s 407 9 = 0 ∧ s 407 8 = (skR s : Int) ∧ (skR s < nR s ∧ isL (TR s) (skR s) = true)
def nxR (s : mSt) : Nat := nxA (TR s) (nR s) (skR s)
def sqR (s : mSt) (L : List (Int × Int)) : Int × Nat × List Int := seqA (TR s) (nR s) L (nxR s)
def E1q (s t : mSt) (L : List (Int × Int)) (w : Rw → List Int → Rw) : Prop := (sqR s L).1 = 0 ∧ RPq s t (sqR s L).2.1 ∧ t 413 = w (s 413) (sqR s L).2.2
def E0q (s t : mSt) (L : List (Int × Int)) : Prop := ¬ (sqR s L).1 = 0 ∧ t 407 9 = (sqR s L).1 ∧ fWr s t
def E4q (s t : mSt) : Prop := t 407 9 = fuA (skR s) 4 ∧ fWr s t
def EAq (s t : mSt) (C : Prop) (L : List (Int × Int)) : Prop := (C ∧ E4q s t) ∨ (¬ C ∧ E0q s t L)
/-- behind the word -/
theorem pass {s t : mSt} (h : RWq s) (e : t = uS s 407 8 (leT (TR s) (nR s) (s 407 8).toNat : Int)) : RPq s t (nxR s) ∧ t 413 = s 413 ∧ ∀ L, seqA (TR t) (nR t) L (skR t) = sqR s L := by
  obtain ⟨h1, h9, h8, hl⟩ := h
  have hb := skR_b h1
  rw [h8, tnc, ← tkP_L hl] at e
  have pb := tkP_b (TR s) hb.2.1
  have es : skR t = nxR s := by rw [e, skR_8]; rfl
  have fw : fWr s t := by rw [e]; exact fR_Wr (fR_u (fR_0 s) _ (by decide))
  have q := fWr_T fw
  refine ⟨⟨by rw [e]; exact TRq_8 h1 pb.2.1, es, by rw [e, uS_at, if_neg (by decide)]; exact h9, fw⟩, by rw [e, uS_cell (by decide)], fun L => by rw [q.1, q.2, es]; rfl⟩
theorem RP_u {s t : mSt} {a : Nat} (h : RPq s t a) (j : Nat) (x : Int) : RPq s (uS t 413 j x) a := by
  obtain ⟨h1, h2, h3, h4⟩ := h
  refine ⟨?_, ?_, by rw [uS_cell (by decide)]; exact h3, fWr_u h4 _ _⟩
  · unfold TRq at h1 ⊢
    rw [uS_cell (by decide), uS_cell (by decide)]
    exact h1
  · rw [← h2]; unfold skR TR nR; rw [uS_cell (by decide), uS_cell (by decide)]
theorem RP_t {s t u : mSt} {a b : Nat} (h1 : RPq s t a) (h2 : RPq t u b) : RPq s u b := ⟨h2.1, h2.2.1, h2.2.2.1, fWr_t h1.2.2.2 h2.2.2.2⟩
theorem E2 {s a b c : mSt} {i j : Nat} {l m l' m' : Int} (p : RPq s a (nxR s) ∧ a 413 = s 413 ∧ ∀ L, seqA (TR a) (nR a) L (skR a) = sqR s L) (h1 : M1q a b i l m) (h2 : M1q b c j l' m') : ∃ x y, sqR s [(l, m), (l', m')] = (0, skR c, [x, y]) ∧ RPq s c (skR c) ∧ c 413 = up (up (s 413) i x) j y ∧ nuA (TR a) (nR a) (skR a) l m = -1 ∧ x = vA (TR a) (nR a) (skR a) := by
  refine ⟨_, _, ?_, RP_t p.1 (RP_t h1.2.1 ⟨h2.2.1.1, rfl, h2.2.1.2.2⟩), by rw [h2.2.2, h1.2.2, p.2.1], h1.1, rfl⟩
  rw [← p.2.2, M1c h1, M1c h2]
  rfl
theorem E2f {s a b c : mSt} {i : Nat} {l m l' m' : Int} (L : List (Int × Int)) (p : RPq s a (nxR s) ∧ a 413 = s 413 ∧ ∀ L, seqA (TR a) (nR a) L (skR a) = sqR s L) (h1 : M1q a b i l m) (h2 : M0q b c l' m') : E0q s c ((l, m) :: (l', m') :: L) := by
  have e := M0c h2 L
  have f : (sqR s ((l, m) :: (l', m') :: L)).1 = c 407 9 := by
    rw [← p.2.2, M1c h1]; exact e.1
  exact ⟨by rw [f]; exact e.2, f.symm, fWr_t p.1.2.2.2 (fWr_t h1.2.1.2.2.2 h2.2.2)⟩
theorem E1f {s a c : mSt} {l m : Int} (L : List (Int × Int)) (p : RPq s a (nxR s) ∧ a 413 = s 413 ∧ ∀ L, seqA (TR a) (nR a) L (skR a) = sqR s L) (h2 : M0q a c l m) : E0q s c ((l, m) :: L) := by
  have e := M0c h2 L
  have f : (sqR s ((l, m) :: L)).1 = c 407 9 := by
    rw [← p.2.2]; exact e.1
  exact ⟨by rw [f]; exact e.2, f.symm, fWr_t p.1.2.2.2 h2.2.2⟩
theorem E4_of {s t : mSt} (h : RWq s) {x : Int} (hx : x = (skR s : Int)) (e : t = flR s 4 x) : E4q s t := by
  have e2 : t = uS s 407 9 (fuA (skR s) 4) := by rw [e, hx]; unfold flR fuA; rw [if_pos h.2.1]
  exact ⟨by rw [e2, uS_at, if_pos rfl], by rw [e2]; exact fR_Wr (fR_u (fR_0 s) _ (by decide))⟩
theorem RW_x {s : mSt} (h : RWq s) : 0 ≤ (skR s : Int) ∧ (skR s : Int) ≤ 400 := by have := skR_b h.1; omega
theorem u413 (s : mSt) (j : Nat) (x : Int) : uS s 413 j x 413 = up (s 413) j x := by
  funext i; rw [uS_at]; rfl
theorem v197 {X : (Nat → Int) × Nat} {d : Nat} {s : mSt} {Q : mQ} {x1 : Int}
  (z1 : (s 413 0) ≤ 0 → TRq s)
  (z2 : (s 413 0) ≤ 0 → ∀ s2 : mSt, s2 = uS s 407 8 (leT (TR s) (nR s) (s 407 8).toNat : Int) → TRq s2 ∧ s2 407 9 = 0 ∧ (0 ≤ (1 : Int) ∧ (1 : Int) < 135))
  (z3 : (s 413 0) ≤ 0 → ∀ s2 : mSt, s2 = uS s 407 8 (leT (TR s) (nR s) (s 407 8).toNat : Int) → ∀ s3 : mSt, M1q s2 s3 (1 : Int).toNat (1 : Int) (9 : Int) → TRq s3 ∧ s3 407 9 = 0 ∧ (0 ≤ (2 : Int) ∧ (2 : Int) < 135))
  (z4 : (s 413 0) ≤ 0 → ∀ s2 : mSt, s2 = uS s 407 8 (leT (TR s) (nR s) (s 407 8).toNat : Int) → ∀ s3 : mSt, M1q s2 s3 (1 : Int).toNat (1 : Int) (9 : Int) → ∀ s4 : mSt, M1q s3 s4 (2 : Int).toNat (1 : Int) (20 : Int) → Q (some (mI 1)) (uS s4 413 0 1))
  (z5 : (s 413 0) ≤ 0 → ∀ s2 : mSt, s2 = uS s 407 8 (leT (TR s) (nR s) (s 407 8).toNat : Int) → ∀ s3 : mSt, M1q s2 s3 (1 : Int).toNat (1 : Int) (9 : Int) → ∀ s5 : mSt, M0q s3 s5 (1 : Int) (20 : Int) → Q (some (mI 0)) s5)
  (z6 : (s 413 0) ≤ 0 → ∀ s2 : mSt, s2 = uS s 407 8 (leT (TR s) (nR s) (s 407 8).toNat : Int) → ∀ s6 : mSt, M0q s2 s6 (1 : Int) (9 : Int) → Q (some (mI 0)) s6)
  (z7 : ¬ (s 413 0) ≤ 0 → (0 ≤ (4 : Int) ∧ (4 : Int) ≤ 4) ∧ (0 ≤ x1 ∧ x1 ≤ 400))
  (z8 : ¬ (s 413 0) ≤ 0 → ∀ v8 : Int, ∀ s8 : mSt, (v8 = 0 ∧ s8 = flR s (4 : Int) x1) → Q (some (mI v8)) s8)
  (z9 : ¬ (s 413 0) ≤ 0 → ∀ v8 : Int, ∀ s8 : mSt, (v8 = 0 ∧ s8 = flR s (4 : Int) x1) → v8 = 0 ∨ v8 = 1) :
  Sp X (d + 3) 197 [mR 407, mI x1] s Q := e197 (b197_0 (fun q1 => b197_16 (c178 (z1 q1) (fun s2 q2 => ⟨rfl, b197_20 (c196 (z2 q1 s2 q2) (fun s3 q3 => ⟨1, rfl, b197_28 (fun q => absurd q (by decide)) (fun _ => b197_31 (c196 (z3 q1 s2 q2 s3 q3) (fun s4 q4 => ⟨1, rfl, b197_39 (fun _ => b197_44 (z4 q1 s2 q2 s3 q3 s4 q4)) (fun q => absurd q (by decide))⟩) (fun s5 q5 => ⟨0, rfl, b197_39 (fun q => absurd q (by decide)) (fun _ => b197_42 (z5 q1 s2 q2 s3 q3 s5 q5))⟩)))⟩) (fun s6 q6 => ⟨0, rfl, b197_28 (fun _ => b197_42 (z6 q1 s2 q2 s6 q6)) (fun q => absurd q (by decide))⟩))⟩))) (fun q7 => b197_9 (c173 (z7 q7) (fun v8 s8 q8 => ⟨v8, rfl, b197_15 (z8 q7 v8 s8 q8) (z9 q7 v8 s8 q8)⟩))))

theorem c197 {X : (Nat → Int) × Nat} {d : Nat} {s : mSt} {Q : mQ} {x1 : Int} (p1 : RWq s ∧ x1 = (skR s : Int)) (k1 : ∀ t : mSt, (¬ 0 < s 413 0 ∧ E1q s t [(1, 9), (1, 20)] (fun r v => rdD r (v.getD 0 0) (v.getD 1 0))) → Q (some (mI 1)) t) (k0 : ∀ t : mSt, (EAq s t (0 < s 413 0) [(1, 9), (1, 20)]) → Q (some (mI 0)) t) : Sp X (d + 3) 197 [mR 407, mI x1] s Q := by
  obtain ⟨h, hx⟩ := p1
  refine v197 (fun _ => h.1) ?_ ?_ ?_ ?_ ?_ (fun _ => ⟨by decide, by rw [hx]; exact RW_x h⟩) (fun z v8 s8 w => by rw [w.1]; exact k0 s8 (Or.inl ⟨by omega, E4_of h hx w.2⟩)) (fun _ _ _ w => Or.inl w.1)
  · intro z s2 e
    have p := pass h e
    exact ⟨p.1.1, p.1.2.2.1, by decide⟩
  · intro z s2 e s3 h1
    exact ⟨h1.2.1.1, h1.2.1.2.2.1, by decide⟩
  · intro z s2 e s3 h1 s4 h2
    obtain ⟨x, y, e1, e2, e3, _⟩ := E2 (pass h e) h1 h2
    refine k1 _ ⟨by omega, by rw [e1], RP_u (by rw [e1]; exact e2) _ _, ?_⟩
    rw [u413, e3, e1]
    rfl
  · intro z s2 e s3 h1 s5 h2
    exact k0 s5 (Or.inr ⟨by omega, E2f [] (pass h e) h1 h2⟩)
  · intro z s2 e s6 h2
    exact k0 s6 (Or.inr ⟨by omega, E1f _ (pass h e) h2⟩)
theorem v198 {X : (Nat → Int) × Nat} {d : Nat} {s : mSt} {Q : mQ} {x1 : Int}
  (z1 : ¬ (s 413 3) = 5 → TRq s)
  (z2 : ¬ (s 413 3) = 5 → ∀ s2 : mSt, s2 = uS s 407 8 (leT (TR s) (nR s) (s 407 8).toNat : Int) → TRq s2 ∧ s2 407 9 = 0 ∧ (0 ≤ (w32 (82 + (s2 413 3))) ∧ (w32 (82 + (s2 413 3))) < 135))
  (z3 : ¬ (s 413 3) = 5 → ∀ s2 : mSt, s2 = uS s 407 8 (leT (TR s) (nR s) (s 407 8).toNat : Int) → ∀ s3 : mSt, M1q s2 s3 (w32 (82 + (s2 413 3))).toNat (0 : Int) (15 : Int) → TRq s3 ∧ s3 407 9 = 0 ∧ (0 ≤ (w32 (77 + (s2 413 3))) ∧ (w32 (77 + (s2 413 3))) < 135))
  (z4 : ¬ (s 413 3) = 5 → ∀ s2 : mSt, s2 = uS s 407 8 (leT (TR s) (nR s) (s 407 8).toNat : Int) → ∀ s3 : mSt, M1q s2 s3 (w32 (82 + (s2 413 3))).toNat (0 : Int) (15 : Int) → ∀ s4 : mSt, M1q s3 s4 (w32 (77 + (s2 413 3))).toNat (1 : Int) (6 : Int) → Q (some (mI 1)) (uS s4 413 3 (w32 ((s4 413 3) + 1))))
  (z5 : ¬ (s 413 3) = 5 → ∀ s2 : mSt, s2 = uS s 407 8 (leT (TR s) (nR s) (s 407 8).toNat : Int) → ∀ s3 : mSt, M1q s2 s3 (w32 (82 + (s2 413 3))).toNat (0 : Int) (15 : Int) → ∀ s5 : mSt, M0q s3 s5 (1 : Int) (6 : Int) → Q (some (mI 0)) s5)
  (z6 : ¬ (s 413 3) = 5 → ∀ s2 : mSt, s2 = uS s 407 8 (leT (TR s) (nR s) (s 407 8).toNat : Int) → ∀ s6 : mSt, M0q s2 s6 (0 : Int) (15 : Int) → Q (some (mI 0)) s6)
  (z7 : (s 413 3) = 5 → (0 ≤ (4 : Int) ∧ (4 : Int) ≤ 4) ∧ (0 ≤ x1 ∧ x1 ≤ 400))
  (z8 : (s 413 3) = 5 → ∀ v8 : Int, ∀ s8 : mSt, (v8 = 0 ∧ s8 = flR s (4 : Int) x1) → Q (some (mI v8)) s8)
  (z9 : (s 413 3) = 5 → ∀ v8 : Int, ∀ s8 : mSt, (v8 = 0 ∧ s8 = flR s (4 : Int) x1) → v8 = 0 ∨ v8 = 1) :
  Sp X (d + 3) 198 [mR 407, mI x1] s Q := e198 (b198_0 (fun q1 => b198_17 (c178 (z1 q1) (fun s2 q2 => ⟨rfl, b198_21 (c196 (z2 q1 s2 q2) (fun s3 q3 => ⟨1, rfl, b198_39 (fun q => absurd q (by decide)) (fun _ => b198_42 (c196 (z3 q1 s2 q2 s3 q3) (fun s4 q4 => ⟨1, rfl, b198_53 (fun _ => b198_58 (z4 q1 s2 q2 s3 q3 s4 q4)) (fun q => absurd q (by decide))⟩) (fun s5 q5 => ⟨0, rfl, b198_53 (fun q => absurd q (by decide)) (fun _ => b198_56 (z5 q1 s2 q2 s3 q3 s5 q5))⟩)))⟩) (fun s6 q6 => ⟨0, rfl, b198_39 (fun _ => b198_56 (z6 q1 s2 q2 s6 q6)) (fun q => absurd q (by decide))⟩))⟩))) (fun q7 => b198_10 (c173 (z7 q7) (fun v8 s8 q8 => ⟨v8, rfl, b198_16 (z8 q7 v8 s8 q8) (z9 q7 v8 s8 q8)⟩))))

theorem c198 {X : (Nat → Int) × Nat} {d : Nat} {s : mSt} {Q : mQ} {x1 : Int} (p1 : RWq s ∧ x1 = (skR s : Int) ∧ (0 ≤ s 413 3 ∧ s 413 3 ≤ 5)) (k1 : ∀ t : mSt, (¬ s 413 3 = 5 ∧ E1q s t [(0, 15), (1, 6)] (fun r v => rdP r (v.getD 0 0) (v.getD 1 0))) → Q (some (mI 1)) t) (k0 : ∀ t : mSt, (EAq s t (s 413 3 = 5) [(0, 15), (1, 6)]) → Q (some (mI 0)) t) : Sp X (d + 3) 198 [mR 407, mI x1] s Q := by
  obtain ⟨h, hx, h3⟩ := p1
  have w1 : ∀ s2 : mSt, s2 413 = s 413 → ¬ s 413 3 = 5 → w32 (82 + s2 413 3) = ((82 + (s 413 3).toNat : Nat) : Int) ∧ w32 (77 + s2 413 3) = ((77 + (s 413 3).toNat : Nat) : Int) := fun s2 e z => by
    rw [e, w32_of (by omega), w32_of (by omega)]; omega
  refine v198 (fun _ => h.1) ?_ ?_ ?_ ?_ ?_ (fun _ => ⟨by decide, by rw [hx]; exact RW_x h⟩) (fun z v8 s8 w => by rw [w.1]; exact k0 s8 (Or.inl ⟨z, E4_of h hx w.2⟩)) (fun _ _ _ w => Or.inl w.1)
  · intro z s2 e
    have p := pass h e
    have w := w1 s2 p.2.1 z
    exact ⟨p.1.1, p.1.2.2.1, by rw [w.1]; omega⟩
  · intro z s2 e s3 h1
    have p := pass h e
    have w := w1 s2 p.2.1 z
    exact ⟨h1.2.1.1, h1.2.1.2.2.1, by rw [w.2]; omega⟩
  · intro z s2 e s3 h1 s4 h2
    have p := pass h e
    have w := w1 s2 p.2.1 z
    rw [w.1, tnc] at h1
    rw [w.2, tnc] at h2
    obtain ⟨x, y, e1, e2, e3, _⟩ := E2 (pass h e) h1 h2
    refine k1 _ ⟨z, by rw [e1], RP_u (by rw [e1]; exact e2) _ _, ?_⟩
    rw [u413, e3, e1, up_ne (show 3 ≠ 77 + (s 413 3).toNat by omega), up_ne (show 3 ≠ 82 + (s 413 3).toNat by omega), w32_of (x := s 413 3 + 1) (by omega)]
    rfl
  · intro z s2 e s3 h1 s5 h2
    exact k0 s5 (Or.inr ⟨z, E2f [] (pass h e) h1 h2⟩)
  · intro z s2 e s6 h2
    exact k0 s6 (Or.inr ⟨z, E1f _ (pass h e) h2⟩)
theorem v199 {X : (Nat → Int) × Nat} {d : Nat} {s : mSt} {Q : mQ} {x1 : Int}
  (z1 : ¬ (s 413 4) = 6 → TRq s)
  (z2 : ¬ (s 413 4) = 6 → ∀ s2 : mSt, s2 = uS s 407 8 (leT (TR s) (nR s) (s 407 8).toNat : Int) → TRq s2 ∧ s2 407 9 = 0 ∧ (0 ≤ (w32 (117 + (s2 413 4))) ∧ (w32 (117 + (s2 413 4))) < 135))
  (z3 : ¬ (s 413 4) = 6 → ∀ s2 : mSt, s2 = uS s 407 8 (leT (TR s) (nR s) (s 407 8).toNat : Int) → ∀ s3 : mSt, M1q s2 s3 (w32 (117 + (s2 413 4))).toNat (1 : Int) (w32 ((iShl 1 (s2 413 3)) - 1)) → TRq s3 ∧ s3 407 9 = 0 ∧ (0 ≤ (w32 (123 + (s2 413 4))) ∧ (w32 (123 + (s2 413 4))) < 135))
  (z4 : ¬ (s 413 4) = 6 → ∀ s2 : mSt, s2 = uS s 407 8 (leT (TR s) (nR s) (s 407 8).toNat : Int) → ∀ s3 : mSt, M1q s2 s3 (w32 (117 + (s2 413 4))).toNat (1 : Int) (w32 ((iShl 1 (s2 413 3)) - 1)) → ∀ s4 : mSt, M1q s3 s4 (w32 (123 + (s2 413 4))).toNat (0 : Int) (100 : Int) → TRq s4 ∧ s4 407 9 = 0 ∧ (0 ≤ (w32 (129 + (s2 413 4))) ∧ (w32 (129 + (s2 413 4))) < 135))
  (z5 : ¬ (s 413 4) = 6 → ∀ s2 : mSt, s2 = uS s 407 8 (leT (TR s) (nR s) (s 407 8).toNat : Int) → ∀ s3 : mSt, M1q s2 s3 (w32 (117 + (s2 413 4))).toNat (1 : Int) (w32 ((iShl 1 (s2 413 3)) - 1)) → ∀ s4 : mSt, M1q s3 s4 (w32 (123 + (s2 413 4))).toNat (0 : Int) (100 : Int) → ∀ s5 : mSt, M1q s4 s5 (w32 (129 + (s2 413 4))).toNat (0 : Int) (3 : Int) → Q (some (mI 1)) (uS s5 413 4 (w32 ((s5 413 4) + 1))))
  (z6 : ¬ (s 413 4) = 6 → ∀ s2 : mSt, s2 = uS s 407 8 (leT (TR s) (nR s) (s 407 8).toNat : Int) → ∀ s3 : mSt, M1q s2 s3 (w32 (117 + (s2 413 4))).toNat (1 : Int) (w32 ((iShl 1 (s2 413 3)) - 1)) → ∀ s4 : mSt, M1q s3 s4 (w32 (123 + (s2 413 4))).toNat (0 : Int) (100 : Int) → ∀ s6 : mSt, M0q s4 s6 (0 : Int) (3 : Int) → Q (some (mI 0)) s6)
  (z7 : ¬ (s 413 4) = 6 → ∀ s2 : mSt, s2 = uS s 407 8 (leT (TR s) (nR s) (s 407 8).toNat : Int) → ∀ s3 : mSt, M1q s2 s3 (w32 (117 + (s2 413 4))).toNat (1 : Int) (w32 ((iShl 1 (s2 413 3)) - 1)) → ∀ s7 : mSt, M0q s3 s7 (0 : Int) (100 : Int) → Q (some (mI 0)) s7)
  (z8 : ¬ (s 413 4) = 6 → ∀ s2 : mSt, s2 = uS s 407 8 (leT (TR s) (nR s) (s 407 8).toNat : Int) → ∀ s8 : mSt, M0q s2 s8 (1 : Int) (w32 ((iShl 1 (s2 413 3)) - 1)) → Q (some (mI 0)) s8)
  (z9 : (s 413 4) = 6 → (0 ≤ (4 : Int) ∧ (4 : Int) ≤ 4) ∧ (0 ≤ x1 ∧ x1 ≤ 400))
  (z10 : (s 413 4) = 6 → ∀ v10 : Int, ∀ s10 : mSt, (v10 = 0 ∧ s10 = flR s (4 : Int) x1) → Q (some (mI v10)) s10)
  (z11 : (s 413 4) = 6 → ∀ v10 : Int, ∀ s10 : mSt, (v10 = 0 ∧ s10 = flR s (4 : Int) x1) → v10 = 0 ∨ v10 = 1) :
  Sp X (d + 3) 199 [mR 407, mI x1] s Q := e199 (b199_0 (fun q1 => b199_18 (c178 (z1 q1) (fun s2 q2 => ⟨rfl, b199_22 (c196 (z2 q1 s2 q2) (fun s3 q3 => ⟨1, rfl, b199_48 (fun q => absurd q (by decide)) (fun _ => b199_51 (c196 (z3 q1 s2 q2 s3 q3) (fun s4 q4 => ⟨1, rfl, b199_62 (fun q => absurd q (by decide)) (fun _ => b199_65 (c196 (z4 q1 s2 q2 s3 q3 s4 q4) (fun s5 q5 => ⟨1, rfl, b199_76 (fun _ => b199_81 (z5 q1 s2 q2 s3 q3 s4 q4 s5 q5)) (fun q => absurd q (by decide))⟩) (fun s6 q6 => ⟨0, rfl, b199_76 (fun q => absurd q (by decide)) (fun _ => b199_79 (z6 q1 s2 q2 s3 q3 s4 q4 s6 q6))⟩)))⟩) (fun s7 q7 => ⟨0, rfl, b199_62 (fun _ => b199_79 (z7 q1 s2 q2 s3 q3 s7 q7)) (fun q => absurd q (by decide))⟩)))⟩) (fun s8 q8 => ⟨0, rfl, b199_48 (fun _ => b199_79 (z8 q1 s2 q2 s8 q8)) (fun q => absurd q (by decide))⟩))⟩))) (fun q9 => b199_11 (c173 (z9 q9) (fun v10 s10 q10 => ⟨v10, rfl, b199_17 (z10 q9 v10 s10 q10) (z11 q9 v10 s10 q10)⟩))))

theorem E3 {s a b c e : mSt} {i j k : Nat} {l m l' m' l'' m'' : Int} (p : RPq s a (nxR s) ∧ a 413 = s 413 ∧ ∀ L, seqA (TR a) (nR a) L (skR a) = sqR s L) (h1 : M1q a b i l m) (h2 : M1q b c j l' m') (h3 : M1q c e k l'' m'') : ∃ x y z, sqR s [(l, m), (l', m'), (l'', m'')] = (0, skR e, [x, y, z]) ∧ RPq s e (skR e) ∧ e 413 = up (up (up (s 413) i x) j y) k z := by
  refine ⟨_, _, _, ?_, RP_t p.1 (RP_t h1.2.1 (RP_t h2.2.1 ⟨h3.2.1.1, rfl, h3.2.1.2.2⟩)), by rw [h3.2.2, h2.2.2, h1.2.2, p.2.1]⟩
  rw [← p.2.2, M1c h1, M1c h2, M1c h3]
  rfl
theorem E3f {s a b c e : mSt} {i j : Nat} {l m l' m' l'' m'' : Int} (L : List (Int × Int)) (p : RPq s a (nxR s) ∧ a 413 = s 413 ∧ ∀ L, seqA (TR a) (nR a) L (skR a) = sqR s L) (h1 : M1q a b i l m) (h2 : M1q b c j l' m') (h3 : M0q c e l'' m'') : E0q s e ((l, m) :: (l', m') :: (l'', m'') :: L) := by
  have q := M0c h3 L
  have f : (sqR s ((l, m) :: (l', m') :: (l'', m'') :: L)).1 = e 407 9 := by
    rw [← p.2.2, M1c h1, M1c h2]; exact q.1
  exact ⟨by rw [f]; exact q.2, f.symm, fWr_t p.1.2.2.2 (fWr_t h1.2.1.2.2.2 (fWr_t h2.2.1.2.2.2 h3.2.2))⟩
theorem c199 {X : (Nat → Int) × Nat} {d : Nat} {s : mSt} {Q : mQ} {x1 : Int} (p1 : RWq s ∧ x1 = (skR s : Int) ∧ (0 ≤ s 413 3 ∧ s 413 3 ≤ 5) ∧ (0 ≤ s 413 4 ∧ s 413 4 ≤ 6)) (k1 : ∀ t : mSt, (¬ s 413 4 = 6 ∧ E1q s t [(1, 2 ^ (s 413 3).toNat - 1), (0, 100), (0, 3)] (fun r v => rdC r (v.getD 0 0) (v.getD 1 0) (v.getD 2 0))) → Q (some (mI 1)) t) (k0 : ∀ t : mSt, (EAq s t (s 413 4 = 6) [(1, 2 ^ (s 413 3).toNat - 1), (0, 100), (0, 3)]) → Q (some (mI 0)) t) : Sp X (d + 3) 199 [mR 407, mI x1] s Q := by
  obtain ⟨h, hx, h3, h4⟩ := p1
  have w1 : ∀ s2 : mSt, s2 413 = s 413 → ¬ s 413 4 = 6 → w32 (117 + s2 413 4) = ((117 + (s 413 4).toNat : Nat) : Int) ∧ w32 (123 + s2 413 4) = ((123 + (s 413 4).toNat : Nat) : Int) ∧ w32 (129 + s2 413 4) = ((129 + (s 413 4).toNat : Nat) : Int) ∧ w32 (iShl 1 (s2 413 3) - 1) = 2 ^ (s 413 3).toNat - 1 := fun s2 e z => by
    rw [e, w32_of (x := 117 + s 413 4) (by omega), w32_of (x := 123 + s 413 4) (by omega), w32_of (x := 129 + s 413 4) (by omega)]
    refine ⟨by omega, by omega, by omega, ?_⟩
    have e3 : s 413 3 = ((s 413 3).toNat : Int) := by omega
    rw [e3, shl1 (by omega), tnc]
    have pw := pw_m (show (s 413 3).toNat ≤ 5 by omega)
    have pp : (0 : Int) < 2 ^ (s 413 3).toNat := Int.pow_pos (by decide)
    rw [w32_of (by omega)]
  refine v199 (fun _ => h.1) ?_ ?_ ?_ ?_ ?_ ?_ ?_ (fun _ => ⟨by decide, by rw [hx]; exact RW_x h⟩) (fun z v8 s8 w => by rw [w.1]; exact k0 s8 (Or.inl ⟨z, E4_of h hx w.2⟩)) (fun _ _ _ w => Or.inl w.1)
  · intro z s2 e
    have p := pass h e
    have w := w1 s2 p.2.1 z
    exact ⟨p.1.1, p.1.2.2.1, by rw [w.1]; omega⟩
  · intro z s2 e s3 h1
    have p := pass h e
    have w := w1 s2 p.2.1 z
    exact ⟨h1.2.1.1, h1.2.1.2.2.1, by rw [w.2.1]; omega⟩
  · intro z s2 e s3 h1 s4 h2
    have p := pass h e
    have w := w1 s2 p.2.1 z
    exact ⟨h2.2.1.1, h2.2.1.2.2.1, by rw [w.2.2.1]; omega⟩
  · intro z s2 e s3 h1 s4 h2 s5 h5
    have p := pass h e
    have w := w1 s2 p.2.1 z
    rw [w.1, tnc, w.2.2.2] at h1
    rw [w.2.1, tnc] at h2
    rw [w.2.2.1, tnc] at h5
    obtain ⟨x, y, v, e1, e2, e3⟩ := E3 (pass h e) h1 h2 h5
    refine k1 _ ⟨z, by rw [e1], RP_u (by rw [e1]; exact e2) _ _, ?_⟩
    rw [u413, e3, e1, up_ne (show 4 ≠ 129 + (s 413 4).toNat by omega), up_ne (show 4 ≠ 123 + (s 413 4).toNat by omega), up_ne (show 4 ≠ 117 + (s 413 4).toNat by omega), w32_of (x := s 413 4 + 1) (by omega)]
    rfl
  · intro z s2 e s3 h1 s4 h2 s6 h6
    have w := w1 s2 (pass h e).2.1 z
    rw [w.2.2.2] at h1
    exact k0 s6 (Or.inr ⟨z, E3f [] (pass h e) h1 h2 h6⟩)
  · intro z s2 e s3 h1 s5 h2
    have w := w1 s2 (pass h e).2.1 z
    rw [w.2.2.2] at h1
    exact k0 s5 (Or.inr ⟨z, E2f _ (pass h e) h1 h2⟩)
  · intro z s2 e s6 h2
    have w := w1 s2 (pass h e).2.1 z
    rw [w.2.2.2] at h2
    exact k0 s6 (Or.inr ⟨z, E1f _ (pass h e) h2⟩)
theorem v200 {X : (Nat → Int) × Nat} {d : Nat} {s : mSt} {Q : mQ}
  (z1 : TRq s)
  (z2 : ∀ s1 : mSt, s1 = uS s 407 8 (leT (TR s) (nR s) (s 407 8).toNat : Int) → TRq s1 ∧ s1 407 9 = 0)
  (z3 : ∀ s1 : mSt, s1 = uS s 407 8 (leT (TR s) (nR s) (s 407 8).toNat : Int) → ∀ s2 : mSt, (nuA (TR s1) (nR s1) (skR s1) (0 : Int) (29 : Int) = -1 ∧ s2 = uS (uS s1 407 8 (tkR s1 : Int)) 407 10 (vA (TR s1) (nR s1) (skR s1))) → TRq s2 ∧ s2 407 9 = 0 ∧ (0 ≤ (w32 (87 + (s2 407 10))) ∧ (w32 (87 + (s2 407 10))) < 135))
  (z4 : ∀ s1 : mSt, s1 = uS s 407 8 (leT (TR s) (nR s) (s 407 8).toNat : Int) → ∀ s2 : mSt, (nuA (TR s1) (nR s1) (skR s1) (0 : Int) (29 : Int) = -1 ∧ s2 = uS (uS s1 407 8 (tkR s1 : Int)) 407 10 (vA (TR s1) (nR s1) (skR s1))) → ∀ s3 : mSt, M1q s2 s3 (w32 (87 + (s2 407 10))).toNat (0 : Int) (9 : Int) → Q (some (mI 1)) s3)
  (z5 : ∀ s1 : mSt, s1 = uS s 407 8 (leT (TR s) (nR s) (s 407 8).toNat : Int) → ∀ s2 : mSt, (nuA (TR s1) (nR s1) (skR s1) (0 : Int) (29 : Int) = -1 ∧ s2 = uS (uS s1 407 8 (tkR s1 : Int)) 407 10 (vA (TR s1) (nR s1) (skR s1))) → ∀ s4 : mSt, M0q s2 s4 (0 : Int) (9 : Int) → Q (some (mI 0)) s4)
  (z6 : ∀ s1 : mSt, s1 = uS s 407 8 (leT (TR s) (nR s) (s 407 8).toNat : Int) → ∀ s5 : mSt, (¬ nuA (TR s1) (nR s1) (skR s1) (0 : Int) (29 : Int) = -1 ∧ s5 407 9 = fuA (skR s1) (nuA (TR s1) (nR s1) (skR s1) (0 : Int) (29 : Int)) ∧ fR s1 s5) → Q (some (mI 0)) s5) :
  Sp X (d + 3) 200 [mR 407] s Q := e200 (b200_0 (c178 z1 (fun s1 q1 => ⟨rfl, b200_4 (c180 (z2 s1 q1) (fun s2 q2 => ⟨1, rfl, b200_11 (fun _ => b200_16 (c196 (z3 s1 q1 s2 q2) (fun s3 q3 => ⟨1, rfl, b200_32 (z4 s1 q1 s2 q2 s3 q3) (Or.inr rfl)⟩) (fun s4 q4 => ⟨0, rfl, b200_32 (z5 s1 q1 s2 q2 s4 q4) (Or.inl rfl)⟩))) (fun q => absurd q (by decide))⟩) (fun s5 q5 => ⟨0, rfl, b200_11 (fun q => absurd q (by decide)) (fun _ => b200_14 (z6 s1 q1 s5 q5))⟩))⟩)))

theorem c200 {X : (Nat → Int) × Nat} {d : Nat} {s : mSt} {Q : mQ} (p1 : RWq s) (k1 : ∀ t : mSt, (E1q s t [(0, 29), (0, 9)] (fun r v => rdT r (v.getD 0 0) (v.getD 1 0))) → Q (some (mI 1)) t) (k0 : ∀ t : mSt, (E0q s t [(0, 29), (0, 9)]) → Q (some (mI 0)) t) : Sp X (d + 3) 200 [mR 407] s Q := by
  have h := p1
  have mk : ∀ s1 s2 : mSt, (TRq s1 ∧ s1 407 9 = 0) → (nuA (TR s1) (nR s1) (skR s1) (0 : Int) (29 : Int) = -1 ∧ s2 = uS (uS s1 407 8 (tkR s1 : Int)) 407 10 (vA (TR s1) (nR s1) (skR s1))) → RPq s1 s2 (nxA (TR s1) (nR s1) (skR s1)) ∧ s2 413 = s1 413 ∧ s2 407 10 = vA (TR s1) (nR s1) (skR s1) := by
    rintro s1 s2 ⟨q1, q2⟩ ⟨e0, e⟩
    have hb := skR_b q1
    have pb := tkP_b (TR s1) hb.2.1
    refine ⟨⟨?_, ?_, ?_, ?_⟩, ?_, ?_⟩
    · rw [e]; exact TRq_o (TRq_8 q1 pb.2.1) _ (by decide) (by decide)
    · rw [e, skR_o _ _ (by decide) (by decide), skR_8]; rfl
    · rw [e, uS_at, if_neg (by decide), uS_at, if_neg (by decide)]; exact q2
    · rw [e]; exact fR_Wr (fR_u (fR_u (fR_0 s1) _ (by decide)) _ (by decide))
    · rw [e, uS_cell (by decide), uS_cell (by decide)]
    · rw [e, uS_at, if_pos rfl]
  have v0 : ∀ s1 : mSt, nuA (TR s1) (nR s1) (skR s1) (0 : Int) (29 : Int) = -1 → w32 (87 + vA (TR s1) (nR s1) (skR s1)) = ((87 + (vA (TR s1) (nR s1) (skR s1)).toNat : Nat) : Int) ∧ vA (TR s1) (nR s1) (skR s1) ≤ 29 := fun s1 e => by
    have := nuA_v e
    rw [w32_of (by omega)]; omega
  refine v200 h.1 ?_ ?_ ?_ ?_ ?_
  · intro s1 e
    have p := pass h e
    exact ⟨p.1.1, p.1.2.2.1⟩
  · intro s1 e s2 w
    have p := pass h e
    have q := mk s1 s2 ⟨p.1.1, p.1.2.2.1⟩ w
    have v := v0 s1 w.1
    rw [q.2.2, v.1]
    exact ⟨q.1.1, q.1.2.2.1, by omega⟩
  · intro s1 e s2 w s3 h2
    have p := pass h e
    have q := mk s1 s2 ⟨p.1.1, p.1.2.2.1⟩ w
    have v := v0 s1 w.1
    rw [q.2.2, v.1, tnc] at h2
    have ft := fWr_T q.1.2.2.2
    have e1 : sqR s [(0, 29), (0, 9)] = (0, skR s3, [vA (TR s1) (nR s1) (skR s1), vA (TR s2) (nR s2) (skR s2)]) := by
      rw [← p.2.2]
      have a := M1c h2 []
      rw [ft.1, ft.2, q.1.2.1] at a ⊢
      rw [seqA, if_pos w.1, a]
      rfl
    refine k1 s3 ⟨by rw [e1], by rw [e1]; exact RP_t p.1 (RP_t q.1 ⟨h2.2.1.1, rfl, h2.2.1.2.2⟩), ?_⟩
    rw [h2.2.2, q.2.1, p.2.1, e1]
    rfl
  · intro s1 e s2 w s4 h2
    have p := pass h e
    have q := mk s1 s2 ⟨p.1.1, p.1.2.2.1⟩ w
    have ft := fWr_T q.1.2.2.2
    have a := M0c h2 []
    have e1 : (sqR s [(0, 29), (0, 9)]).1 = s4 407 9 := by
      rw [← p.2.2]
      rw [ft.1, ft.2, q.1.2.1] at a
      rw [seqA, if_pos w.1]
      exact a.1
    exact k0 s4 ⟨by rw [e1]; exact a.2, e1.symm, fWr_t p.1.2.2.2 (fWr_t q.1.2.2.2 h2.2.2)⟩
  · intro s1 e s5 w
    have p := pass h e
    exact k0 s5 (E1f _ p ⟨w.1, w.2.1, fR_Wr w.2.2⟩)
theorem cWd : ((4153 : Int) = cW 11 ∧ (16826546 : Int) = cW 12 ∧ (3348070794885 : Int) = cW 0 ∧ (21015726 : Int) = cW 13 ∧ (536622 : Int) = cW 14) ∧ ((294 : Int) = cW 15 ∧ (498 : Int) = cW 16 ∧ (1476 : Int) = cW 17 ∧ (14836 : Int) = cW 18) := by decide +kernel
theorem v202 {X : (Nat → Int) × Nat} {d : Nat} {s : mSt} {Q : mQ}
  (z1 : TRq s)
  (z2 : ∀ s1 : mSt, (iwR s (4153 : Int) ∧ s1 = uS s 407 8 (skR s : Int)) → Q (some (mI 1)) s1)
  (z3 : ∀ s2 : mSt, (¬ iwR s (4153 : Int) ∧ s2 = uS s 407 8 (skR s : Int)) → TRq s2)
  (z4 : ∀ s2 : mSt, (¬ iwR s (4153 : Int) ∧ s2 = uS s 407 8 (skR s : Int)) → ∀ s3 : mSt, (iwR s2 (16826546 : Int) ∧ s3 = uS s2 407 8 (skR s2 : Int)) → Q (some (mI 1)) s3)
  (z5 : ∀ s2 : mSt, (¬ iwR s (4153 : Int) ∧ s2 = uS s 407 8 (skR s : Int)) → ∀ s4 : mSt, (¬ iwR s2 (16826546 : Int) ∧ s4 = uS s2 407 8 (skR s2 : Int)) → TRq s4)
  (z6 : ∀ s2 : mSt, (¬ iwR s (4153 : Int) ∧ s2 = uS s 407 8 (skR s : Int)) → ∀ s4 : mSt, (¬ iwR s2 (16826546 : Int) ∧ s4 = uS s2 407 8 (skR s2 : Int)) → ∀ s5 : mSt, (iwR s4 (3348070794885 : Int) ∧ s5 = uS s4 407 8 (skR s4 : Int)) → Q (some (mI 1)) s5)
  (z7 : ∀ s2 : mSt, (¬ iwR s (4153 : Int) ∧ s2 = uS s 407 8 (skR s : Int)) → ∀ s4 : mSt, (¬ iwR s2 (16826546 : Int) ∧ s4 = uS s2 407 8 (skR s2 : Int)) → ∀ s6 : mSt, (¬ iwR s4 (3348070794885 : Int) ∧ s6 = uS s4 407 8 (skR s4 : Int)) → TRq s6)
  (z8 : ∀ s2 : mSt, (¬ iwR s (4153 : Int) ∧ s2 = uS s 407 8 (skR s : Int)) → ∀ s4 : mSt, (¬ iwR s2 (16826546 : Int) ∧ s4 = uS s2 407 8 (skR s2 : Int)) → ∀ s6 : mSt, (¬ iwR s4 (3348070794885 : Int) ∧ s6 = uS s4 407 8 (skR s4 : Int)) → ∀ s7 : mSt, (iwR s6 (21015726 : Int) ∧ s7 = uS s6 407 8 (skR s6 : Int)) → Q (some (mI 1)) s7)
  (z9 : ∀ s2 : mSt, (¬ iwR s (4153 : Int) ∧ s2 = uS s 407 8 (skR s : Int)) → ∀ s4 : mSt, (¬ iwR s2 (16826546 : Int) ∧ s4 = uS s2 407 8 (skR s2 : Int)) → ∀ s6 : mSt, (¬ iwR s4 (3348070794885 : Int) ∧ s6 = uS s4 407 8 (skR s4 : Int)) → ∀ s8 : mSt, (¬ iwR s6 (21015726 : Int) ∧ s8 = uS s6 407 8 (skR s6 : Int)) → Q (some (mI 0)) s8) :
  Sp X (d + 2) 202 [mR 407] s Q := e202 (b202_0 (c177 z1 (fun s1 q1 => ⟨1, rfl, b202_7 (fun _ => b202_40 (b202_45 (z2 s1 q1) (Or.inr rfl))) (fun q => absurd q (by decide))⟩) (fun s2 q2 => ⟨0, rfl, b202_7 (fun q => absurd q (by decide)) (fun _ => b202_10 (c177 (z3 s2 q2) (fun s3 q3 => ⟨1, rfl, b202_17 (fun _ => b202_40 (b202_45 (z4 s2 q2 s3 q3) (Or.inr rfl))) (fun q => absurd q (by decide))⟩) (fun s4 q4 => ⟨0, rfl, b202_17 (fun q => absurd q (by decide)) (fun _ => b202_20 (c177 (z5 s2 q2 s4 q4) (fun s5 q5 => ⟨1, rfl, b202_27 (fun _ => b202_40 (b202_45 (z6 s2 q2 s4 q4 s5 q5) (Or.inr rfl))) (fun q => absurd q (by decide))⟩) (fun s6 q6 => ⟨0, rfl, b202_27 (fun q => absurd q (by decide)) (fun _ => b202_30 (c177 (z7 s2 q2 s4 q4 s6 q6) (fun s7 q7 => ⟨1, rfl, b202_37 (fun q => absurd q (by decide)) (fun _ => b202_40 (b202_45 (z8 s2 q2 s4 q4 s6 q6 s7 q7) (Or.inr rfl)))⟩) (fun s8 q8 => ⟨0, rfl, b202_37 (fun _ => b202_44 (b202_45 (z9 s2 q2 s4 q4 s6 q6 s8 q8) (Or.inl rfl))) (fun q => absurd q (by decide))⟩)))⟩)))⟩)))⟩)))

theorem R8s (s : mSt) : uS (uS s 407 8 (skR s : Int)) 407 8 (skR (uS s 407 8 (skR s : Int)) : Int) = uS s 407 8 (skR s : Int) := by
  rw [skR_id, uS_uS]
theorem R8w {s : mSt} : TR (uS s 407 8 (skR s : Int)) = TR s ∧ nR (uS s 407 8 (skR s : Int)) = nR s ∧ skR (uS s 407 8 (skR s : Int)) = skR s := ⟨TR_u s _ _, nR_u s _ (by decide), skR_id s⟩
theorem iw8 {s : mSt} (x : Int) : iwR (uS s 407 8 (skR s : Int)) x ↔ iwR s x := by
  unfold iwR ltR
  rw [R8w.1, R8w.2.1, R8w.2.2]
theorem c202 {X : (Nat → Int) × Nat} {d : Nat} {s : mSt} {Q : mQ} (p1 : TRq s) (k1 : ∀ t : mSt, (dwP (wnA (TR s) (nR s) (skR s)) ∧ t = uS s 407 8 (skR s : Int)) → Q (some (mI 1)) t) (k0 : ∀ t : mSt, (¬ dwP (wnA (TR s) (nR s) (skR s)) ∧ t = uS s 407 8 (skR s : Int)) → Q (some (mI 0)) t) : Sp X (d + 2) 202 [mR 407] s Q := by
  have h := p1
  have c := cWd.1
  have w11 := iw_k h (k := 11) (by decide) c.1
  have w12 := iw_k h (k := 12) (by decide) c.2.1
  have w0 := iw_k h (k := 0) (by decide) c.2.2.1
  have w13 := iw_k h (k := 13) (by decide) c.2.2.2.1
  refine v202 h ?_ ?_ ?_ ?_ ?_ ?_ ?_ ?_
  · rintro t ⟨a, e⟩
    exact k1 t ⟨Or.inl (w11.1 a), e⟩
  · rintro t ⟨a, rfl⟩
    exact TRq_s h
  · rintro t ⟨a, rfl⟩ t2 ⟨b, e⟩
    rw [iw8] at b
    rw [R8s] at e
    exact k1 t2 ⟨Or.inr (Or.inl (w12.1 b)), e⟩
  · rintro t ⟨a, rfl⟩ t2 ⟨b, rfl⟩
    rw [R8s]
    exact TRq_s h
  · rintro t ⟨a, rfl⟩ t2 ⟨b, rfl⟩ t3 ⟨g, e⟩
    rw [R8s, iw8] at g
    rw [R8s, R8s] at e
    exact k1 t3 ⟨Or.inr (Or.inr (Or.inl (w0.1 g))), e⟩
  · rintro t ⟨a, rfl⟩ t2 ⟨b, rfl⟩ t3 ⟨g, rfl⟩
    rw [R8s, R8s]
    exact TRq_s h
  · rintro t ⟨a, rfl⟩ t2 ⟨b, rfl⟩ t3 ⟨g, rfl⟩ t4 ⟨f, e⟩
    rw [R8s, R8s, iw8] at f
    rw [R8s, R8s, R8s] at e
    exact k1 t4 ⟨Or.inr (Or.inr (Or.inr (w13.1 f))), e⟩
  · rintro t ⟨a, rfl⟩ t2 ⟨b, rfl⟩ t3 ⟨g, rfl⟩ t4 ⟨f, e⟩
    rw [iw8] at b
    rw [R8s, iw8] at g
    rw [R8s, R8s, iw8] at f
    rw [R8s, R8s, R8s] at e
    refine k0 t4 ⟨?_, e⟩
    rintro (z | z | z | z)
    · exact a (w11.2 z)
    · exact b (w12.2 z)
    · exact g (w0.2 z)
    · exact f (w13.2 z)
/-- the clause of a DAY is one too many, or read as the class reads it -/
def DLt (s : mSt) : Prop := tmP (if s 413 0 = 0 then 0 else 1) (wnA (TR s) (nR s) (skR s)) (s 413)
def DL1 (s t : mSt) : Prop := ¬ DLt s ∧ E1q s t (rngA (wnA (TR s) (nR s) (skR s)) (s 413)) (rowA (wnA (TR s) (nR s) (skR s)))
def DL0 (s t : mSt) : Prop := EAq s t (DLt s) (rngA (wnA (TR s) (nR s) (skR s)) (s 413))
theorem v201 {X : (Nat → Int) × Nat} {d : Nat} {s : mSt} {Q : mQ} {x1 : Int}
  (z1 : TRq s)
  (z2 : ∀ s1 : mSt, (iwR s (4153 : Int) ∧ s1 = uS s 407 8 (skR s : Int)) → RWq s1 ∧ x1 = (skR s1 : Int))
  (z3 : ∀ s1 : mSt, (iwR s (4153 : Int) ∧ s1 = uS s 407 8 (skR s : Int)) → ∀ s2 : mSt, (¬ 0 < s1 413 0 ∧ E1q s1 s2 [(1, 9), (1, 20)] (fun r v => rdD r (v.getD 0 0) (v.getD 1 0))) → Q (some (mI 1)) s2)
  (z4 : ∀ s1 : mSt, (iwR s (4153 : Int) ∧ s1 = uS s 407 8 (skR s : Int)) → ∀ s3 : mSt, EAq s1 s3 (0 < s1 413 0) [(1, 9), (1, 20)] → Q (some (mI 0)) s3)
  (z5 : ∀ s4 : mSt, (¬ iwR s (4153 : Int) ∧ s4 = uS s 407 8 (skR s : Int)) → ¬ (s4 413 0) = 0 → TRq s4)
  (z6 : ∀ s4 : mSt, (¬ iwR s (4153 : Int) ∧ s4 = uS s 407 8 (skR s : Int)) → ¬ (s4 413 0) = 0 → ∀ s6 : mSt, (iwR s4 (16826546 : Int) ∧ s6 = uS s4 407 8 (skR s4 : Int)) → RWq s6 ∧ x1 = (skR s6 : Int) ∧ (0 ≤ s6 413 3 ∧ s6 413 3 ≤ 5))
  (z7 : ∀ s4 : mSt, (¬ iwR s (4153 : Int) ∧ s4 = uS s 407 8 (skR s : Int)) → ¬ (s4 413 0) = 0 → ∀ s6 : mSt, (iwR s4 (16826546 : Int) ∧ s6 = uS s4 407 8 (skR s4 : Int)) → ∀ s7 : mSt, (¬ s6 413 3 = 5 ∧ E1q s6 s7 [(0, 15), (1, 6)] (fun r v => rdP r (v.getD 0 0) (v.getD 1 0))) → Q (some (mI 1)) s7)
  (z8 : ∀ s4 : mSt, (¬ iwR s (4153 : Int) ∧ s4 = uS s 407 8 (skR s : Int)) → ¬ (s4 413 0) = 0 → ∀ s6 : mSt, (iwR s4 (16826546 : Int) ∧ s6 = uS s4 407 8 (skR s4 : Int)) → ∀ s8 : mSt, EAq s6 s8 (s6 413 3 = 5) [(0, 15), (1, 6)] → Q (some (mI 0)) s8)
  (z9 : ∀ s4 : mSt, (¬ iwR s (4153 : Int) ∧ s4 = uS s 407 8 (skR s : Int)) → ¬ (s4 413 0) = 0 → ∀ s9 : mSt, (¬ iwR s4 (16826546 : Int) ∧ s9 = uS s4 407 8 (skR s4 : Int)) → TRq s9)
  (z10 : ∀ s4 : mSt, (¬ iwR s (4153 : Int) ∧ s4 = uS s 407 8 (skR s : Int)) → ¬ (s4 413 0) = 0 → ∀ s9 : mSt, (¬ iwR s4 (16826546 : Int) ∧ s9 = uS s4 407 8 (skR s4 : Int)) → ∀ s10 : mSt, (iwR s9 (3348070794885 : Int) ∧ s10 = uS s9 407 8 (skR s9 : Int)) → RWq s10 ∧ x1 = (skR s10 : Int) ∧ (0 ≤ s10 413 3 ∧ s10 413 3 ≤ 5) ∧ (0 ≤ s10 413 4 ∧ s10 413 4 ≤ 6))
  (z11 : ∀ s4 : mSt, (¬ iwR s (4153 : Int) ∧ s4 = uS s 407 8 (skR s : Int)) → ¬ (s4 413 0) = 0 → ∀ s9 : mSt, (¬ iwR s4 (16826546 : Int) ∧ s9 = uS s4 407 8 (skR s4 : Int)) → ∀ s10 : mSt, (iwR s9 (3348070794885 : Int) ∧ s10 = uS s9 407 8 (skR s9 : Int)) → ∀ s11 : mSt, (¬ s10 413 4 = 6 ∧ E1q s10 s11 [(1, 2 ^ (s10 413 3).toNat - 1), (0, 100), (0, 3)] (fun r v => rdC r (v.getD 0 0) (v.getD 1 0) (v.getD 2 0))) → Q (some (mI 1)) s11)
  (z12 : ∀ s4 : mSt, (¬ iwR s (4153 : Int) ∧ s4 = uS s 407 8 (skR s : Int)) → ¬ (s4 413 0) = 0 → ∀ s9 : mSt, (¬ iwR s4 (16826546 : Int) ∧ s9 = uS s4 407 8 (skR s4 : Int)) → ∀ s10 : mSt, (iwR s9 (3348070794885 : Int) ∧ s10 = uS s9 407 8 (skR s9 : Int)) → ∀ s12 : mSt, EAq s10 s12 (s10 413 4 = 6) [(1, 2 ^ (s10 413 3).toNat - 1), (0, 100), (0, 3)] → Q (some (mI 0)) s12)
  (z13 : ∀ s4 : mSt, (¬ iwR s (4153 : Int) ∧ s4 = uS s 407 8 (skR s : Int)) → ¬ (s4 413 0) = 0 → ∀ s9 : mSt, (¬ iwR s4 (16826546 : Int) ∧ s9 = uS s4 407 8 (skR s4 : Int)) → ∀ s13 : mSt, (¬ iwR s9 (3348070794885 : Int) ∧ s13 = uS s9 407 8 (skR s9 : Int)) → RWq s13)
  (z14 : ∀ s4 : mSt, (¬ iwR s (4153 : Int) ∧ s4 = uS s 407 8 (skR s : Int)) → ¬ (s4 413 0) = 0 → ∀ s9 : mSt, (¬ iwR s4 (16826546 : Int) ∧ s9 = uS s4 407 8 (skR s4 : Int)) → ∀ s13 : mSt, (¬ iwR s9 (3348070794885 : Int) ∧ s13 = uS s9 407 8 (skR s9 : Int)) → ∀ s14 : mSt, E1q s13 s14 [(0, 29), (0, 9)] (fun r v => rdT r (v.getD 0 0) (v.getD 1 0)) → Q (some (mI 1)) s14)
  (z15 : ∀ s4 : mSt, (¬ iwR s (4153 : Int) ∧ s4 = uS s 407 8 (skR s : Int)) → ¬ (s4 413 0) = 0 → ∀ s9 : mSt, (¬ iwR s4 (16826546 : Int) ∧ s9 = uS s4 407 8 (skR s4 : Int)) → ∀ s13 : mSt, (¬ iwR s9 (3348070794885 : Int) ∧ s13 = uS s9 407 8 (skR s9 : Int)) → ∀ s15 : mSt, E0q s13 s15 [(0, 29), (0, 9)] → Q (some (mI 0)) s15)
  (z16 : ∀ s4 : mSt, (¬ iwR s (4153 : Int) ∧ s4 = uS s 407 8 (skR s : Int)) → (s4 413 0) = 0 → (0 ≤ (4 : Int) ∧ (4 : Int) ≤ 4) ∧ (0 ≤ x1 ∧ x1 ≤ 400))
  (z17 : ∀ s4 : mSt, (¬ iwR s (4153 : Int) ∧ s4 = uS s 407 8 (skR s : Int)) → (s4 413 0) = 0 → ∀ v17 : Int, ∀ s17 : mSt, (v17 = 0 ∧ s17 = flR s4 (4 : Int) x1) → Q (some (mI v17)) s17)
  (z18 : ∀ s4 : mSt, (¬ iwR s (4153 : Int) ∧ s4 = uS s 407 8 (skR s : Int)) → (s4 413 0) = 0 → ∀ v17 : Int, ∀ s17 : mSt, (v17 = 0 ∧ s17 = flR s4 (4 : Int) x1) → v17 = 0 ∨ v17 = 1) :
  Sp X (d + 4) 201 [mR 407, mI x1] s Q := e201 (b201_0 (c177 z1 (fun s1 q1 => ⟨1, rfl, b201_7 (fun q => absurd q (by decide)) (fun _ => b201_10 (c197 (z2 s1 q1) (fun s2 q2 => ⟨1, rfl, b201_15 (z3 s1 q1 s2 q2) (Or.inr rfl)⟩) (fun s3 q3 => ⟨0, rfl, b201_15 (z4 s1 q1 s3 q3) (Or.inl rfl)⟩)))⟩) (fun s4 q4 => ⟨0, rfl, b201_7 (fun _ => b201_16 (fun q5 => b201_32 (c177 (z5 s4 q4 q5) (fun s6 q6 => ⟨1, rfl, b201_39 (fun q => absurd q (by decide)) (fun _ => b201_42 (c198 (z6 s4 q4 q5 s6 q6) (fun s7 q7 => ⟨1, rfl, b201_47 (z7 s4 q4 q5 s6 q6 s7 q7) (Or.inr rfl)⟩) (fun s8 q8 => ⟨0, rfl, b201_47 (z8 s4 q4 q5 s6 q6 s8 q8) (Or.inl rfl)⟩)))⟩) (fun s9 q9 => ⟨0, rfl, b201_39 (fun _ => b201_48 (c177 (z9 s4 q4 q5 s9 q9) (fun s10 q10 => ⟨1, rfl, b201_55 (fun q => absurd q (by decide)) (fun _ => b201_58 (c199 (z10 s4 q4 q5 s9 q9 s10 q10) (fun s11 q11 => ⟨1, rfl, b201_63 (b201_70 (z11 s4 q4 q5 s9 q9 s10 q10 s11 q11) (Or.inr rfl))⟩) (fun s12 q12 => ⟨0, rfl, b201_63 (b201_70 (z12 s4 q4 q5 s9 q9 s10 q10 s12 q12) (Or.inl rfl))⟩)))⟩) (fun s13 q13 => ⟨0, rfl, b201_55 (fun _ => b201_66 (c200 (z13 s4 q4 q5 s9 q9 s13 q13) (fun s14 q14 => ⟨1, rfl, b201_70 (z14 s4 q4 q5 s9 q9 s13 q13 s14 q14) (Or.inr rfl)⟩) (fun s15 q15 => ⟨0, rfl, b201_70 (z15 s4 q4 q5 s9 q9 s13 q13 s15 q15) (Or.inl rfl)⟩))) (fun q => absurd q (by decide))⟩))) (fun q => absurd q (by decide))⟩))) (fun q16 => b201_25 (c173 (z16 s4 q4 q16) (fun v17 s17 q17 => ⟨v17, rfl, b201_31 (z17 s4 q4 q16 v17 s17 q17) (z18 s4 q4 q16 v17 s17 q17)⟩)))) (fun q => absurd q (by decide))⟩)))

theorem c201 {X : (Nat → Int) × Nat} {d : Nat} {s : mSt} {Q : mQ} {x1 : Int} (p1 : RWq s ∧ x1 = (skR s : Int) ∧ (0 ≤ s 413 3 ∧ s 413 3 ≤ 5) ∧ (0 ≤ s 413 4 ∧ s 413 4 ≤ 6) ∧ (s 413 0 = 0 ∨ s 413 0 = 1) ∧ dwP (wnA (TR s) (nR s) (skR s))) (k1 : ∀ t : mSt, (DL1 s t) → Q (some (mI 1)) t) (k0 : ∀ t : mSt, (DL0 s t) → Q (some (mI 0)) t) : Sp X (d + 4) 201 [mR 407, mI x1] s Q := by
  obtain ⟨h, hx, h3, h4, h0, hw⟩ := p1
  have e0 : uS s 407 8 (skR s : Int) = s := by rw [← h.2.2.1]; exact uS_self s 407 8
  have c := cWd.1
  have w11 := iw_k h.1 (k := 11) (by decide) c.1
  have w12 := iw_k h.1 (k := 12) (by decide) c.2.1
  have w0 := iw_k h.1 (k := 0) (by decide) c.2.2.1
  have el : wnA (TR s) (nR s) (skR s) = 11 → rngA (wnA (TR s) (nR s) (skR s)) (s 413) = [(1, 9), (1, 20)] ∧ rowA (wnA (TR s) (nR s) (skR s)) = (fun r v => rdD r (v.getD 0 0) (v.getD 1 0)) ∧ (DLt s ↔ 0 < s 413 0) := fun z => by
    unfold DLt
    rw [z]
    refine ⟨rfl, rfl, ?_⟩
    unfold tmP
    rcases h0 with y | y
    · rw [y, if_pos rfl]; omega
    · rw [y, if_neg (by decide)]; omega
  have e12 : ¬ s 413 0 = 0 → wnA (TR s) (nR s) (skR s) = 12 → rngA (wnA (TR s) (nR s) (skR s)) (s 413) = [(0, 15), (1, 6)] ∧ rowA (wnA (TR s) (nR s) (skR s)) = (fun r v => rdP r (v.getD 0 0) (v.getD 1 0)) ∧ (DLt s ↔ s 413 3 = 5) := fun y z => by
    unfold DLt
    rw [z]
    refine ⟨rfl, rfl, ?_⟩
    unfold tmP
    rw [if_neg y]; omega
  have e00 : ¬ s 413 0 = 0 → wnA (TR s) (nR s) (skR s) = 0 → rngA (wnA (TR s) (nR s) (skR s)) (s 413) = [(1, 2 ^ (s 413 3).toNat - 1), (0, 100), (0, 3)] ∧ rowA (wnA (TR s) (nR s) (skR s)) = (fun r v => rdC r (v.getD 0 0) (v.getD 1 0) (v.getD 2 0)) ∧ (DLt s ↔ s 413 4 = 6) := fun y z => by
    unfold DLt
    rw [z]
    refine ⟨rfl, rfl, ?_⟩
    unfold tmP
    rw [if_neg y]; omega
  have e13 : ¬ s 413 0 = 0 → wnA (TR s) (nR s) (skR s) = 13 → rngA (wnA (TR s) (nR s) (skR s)) (s 413) = [(0, 29), (0, 9)] ∧ rowA (wnA (TR s) (nR s) (skR s)) = (fun r v => rdT r (v.getD 0 0) (v.getD 1 0)) ∧ ¬ DLt s := fun y z => by
    unfold DLt
    rw [z]
    refine ⟨rfl, rfl, ?_⟩
    unfold tmP
    rw [if_neg y]; omega
  refine v201 h.1 ?_ ?_ ?_ ?_ ?_ ?_ ?_ ?_ ?_ ?_ ?_ ?_ ?_ ?_ ?_ ?_ ?_
  · rintro t ⟨a, e⟩
    rw [e0] at e; rw [e]
    exact ⟨h, hx⟩
  · rintro t ⟨a, e⟩ t2 w
    rw [e0] at e; rw [e] at w
    have q := el (w11.1 a)
    refine k1 t2 ⟨fun z => w.1 (q.2.2.1 z), ?_⟩
    rw [q.1, q.2.1]
    exact w.2
  · rintro t ⟨a, e⟩ t2 w
    rw [e0] at e; rw [e] at w
    have q := el (w11.1 a)
    refine k0 t2 ?_
    unfold DL0 EAq
    rw [q.1, q.2.2]
    exact w
  · rintro t ⟨a, e⟩ z
    rw [e0] at e; rw [e]
    exact h.1
  · rintro t ⟨a, e⟩ z t2 ⟨b, e2⟩
    rw [e0] at e; rw [e, e0] at e2; rw [e2]
    exact ⟨h, hx, h3⟩
  · rintro t ⟨a, e⟩ z t2 ⟨b, e2⟩ t3 w
    rw [e0] at e; rw [e, e0] at e2; rw [e2] at w; rw [e] at z b
    have q := e12 z (w12.1 b)
    refine k1 t3 ⟨fun z => w.1 (q.2.2.1 z), ?_⟩
    rw [q.1, q.2.1]
    exact w.2
  · rintro t ⟨a, e⟩ z t2 ⟨b, e2⟩ t3 w
    rw [e0] at e; rw [e, e0] at e2; rw [e2] at w; rw [e] at z b
    have q := e12 z (w12.1 b)
    refine k0 t3 ?_
    unfold DL0 EAq
    rw [q.1, q.2.2]
    exact w
  · rintro t ⟨a, e⟩ z t2 ⟨b, e2⟩
    rw [e0] at e; rw [e, e0] at e2; rw [e2]
    exact h.1
  · rintro t ⟨a, e⟩ z t2 ⟨b, e2⟩ t3 ⟨g, e3⟩
    rw [e0] at e; rw [e, e0] at e2; rw [e2, e0] at e3; rw [e3]
    exact ⟨h, hx, h3, h4⟩
  · rintro t ⟨a, e⟩ z t2 ⟨b, e2⟩ t3 ⟨g, e3⟩ t4 w
    rw [e0] at e; rw [e, e0] at e2; rw [e2, e0] at e3; rw [e3] at w; rw [e] at z; rw [e2] at g
    have q := e00 z (w0.1 g)
    refine k1 t4 ⟨fun z => w.1 (q.2.2.1 z), ?_⟩
    rw [q.1, q.2.1]
    exact w.2
  · rintro t ⟨a, e⟩ z t2 ⟨b, e2⟩ t3 ⟨g, e3⟩ t4 w
    rw [e0] at e; rw [e, e0] at e2; rw [e2, e0] at e3; rw [e3] at w; rw [e] at z; rw [e2] at g
    have q := e00 z (w0.1 g)
    refine k0 t4 ?_
    unfold DL0 EAq
    rw [q.1, q.2.2]
    exact w
  · rintro t ⟨a, e⟩ z t2 ⟨b, e2⟩ t3 ⟨g, e3⟩
    rw [e0] at e; rw [e, e0] at e2; rw [e2, e0] at e3; rw [e3]
    exact h
  · rintro t ⟨a, e⟩ z t2 ⟨b, e2⟩ t3 ⟨g, e3⟩ t4 w
    rw [e0] at e; rw [e, e0] at e2; rw [e2, e0] at e3; rw [e3] at w; rw [e] at z b; rw [e2] at g
    have q := e13 z (by
      rcases hw with y | y | y | y
      · exact absurd (w11.2 y) a
      · exact absurd (w12.2 y) b
      · exact absurd (w0.2 y) g
      · exact y)
    refine k1 t4 ⟨q.2.2, ?_⟩
    rw [q.1, q.2.1]
    exact w
  · rintro t ⟨a, e⟩ z t2 ⟨b, e2⟩ t3 ⟨g, e3⟩ t4 w
    rw [e0] at e; rw [e, e0] at e2; rw [e2, e0] at e3; rw [e3] at w; rw [e] at z b; rw [e2] at g
    have q := e13 z (by
      rcases hw with y | y | y | y
      · exact absurd (w11.2 y) a
      · exact absurd (w12.2 y) b
      · exact absurd (w0.2 y) g
      · exact y)
    refine k0 t4 (Or.inr ⟨q.2.2, ?_⟩)
    rw [q.1]
    exact w
  · rintro t ⟨a, e⟩ z
    exact ⟨by decide, by rw [hx]; exact RW_x h⟩
  · rintro t ⟨a, e⟩ z v t2 ⟨ev, e2⟩
    rw [e0] at e; rw [e] at z e2
    rw [ev]
    refine k0 t2 (Or.inl ⟨?_, E4_of h hx e2⟩)
    unfold DLt tmP
    rw [if_pos z]
    exact Or.inr (Or.inr (Or.inl ⟨fun y => a (w11.2 y), rfl⟩))
  · rintro t ⟨a, e⟩ z v t2 ⟨ev, e2⟩
    exact Or.inl ev
