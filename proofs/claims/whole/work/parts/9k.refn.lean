/-! numbers: the reference -/
def fR (s t : mSt) : Prop := (∀ b, b ≠ 407 → t b = s b) ∧ ∀ j, ¬ (8 ≤ j ∧ j ≤ 10) → t 407 j = s 407 j
theorem fR_t {s t u : mSt} (h1 : fR s t) (h2 : fR t u) : fR s u := ⟨fun b hb => (h2.1 b hb).trans (h1.1 b hb), fun j hj => (h2.2 j hj).trans (h1.2 j hj)⟩
theorem fR_u {s t : mSt} (h : fR s t) {j : Nat} (x : Int) (hj : 8 ≤ j ∧ j ≤ 10) : fR s (uS t 407 j x) := ⟨fun b hb => (uS_cell hb).trans (h.1 b hb), fun i hi => by rw [uS_at, if_neg (by omega)]; exact h.2 i hi⟩
theorem fR_0 (s : mSt) : fR s s := ⟨fun _ _ => rfl, fun _ _ => rfl⟩
def tkR (s : mSt) : Nat := tkP (TR s) (nR s) (skR s)
theorem v180 {X : (Nat → Int) × Nat} {d : Nat} {s : mSt} {Q : mQ} {x1 : Int} {x2 : Int}
  (I34 : Int → Int → mSt → Prop) (m34 : Int → Int → mSt → Nat)
  (z1 : ∀ y3 : Int, ∀ y4 : Int, ∀ s : mSt, I34 y3 y4 s → TRq s ∧ 0 ≤ (s 407 8))
  (z2 : ∀ y3 : Int, ∀ y4 : Int, ∀ s : mSt, I34 y3 y4 s → ((s 407 8).toNat < nR s ∧ isD (TR s) (s 407 8).toNat = true) → 5 ≤ (w32 ((s 407 8) - y3)) → I34 y3 y4 (uS s 407 8 (w32 ((s 407 8) + 1))) ∧ m34 y3 y4 (uS s 407 8 (w32 ((s 407 8) + 1))) < m34 y3 y4 s)
  (z3 : ∀ y3 : Int, ∀ y4 : Int, ∀ s : mSt, I34 y3 y4 s → ((s 407 8).toNat < nR s ∧ isD (TR s) (s 407 8).toNat = true) → ¬ 5 ≤ (w32 ((s 407 8) - y3)) → 0 ≤ (s 407 8) ∧ (s 407 8) < 400)
  (z4 : ∀ y3 : Int, ∀ y4 : Int, ∀ s : mSt, I34 y3 y4 s → ((s 407 8).toNat < nR s ∧ isD (TR s) (s 407 8).toNat = true) → ¬ 5 ≤ (w32 ((s 407 8) - y3)) → I34 y3 (w32 ((w32 ((w32 (10 * y4)) + (s 408 (s 407 8).toNat))) - 48)) (uS s 407 8 (w32 ((s 407 8) + 1))) ∧ m34 y3 (w32 ((w32 ((w32 (10 * y4)) + (s 408 (s 407 8).toNat))) - 48)) (uS s 407 8 (w32 ((s 407 8) + 1))) < m34 y3 y4 s)
  (z5 : ∀ y3 : Int, ∀ y4 : Int, ∀ s : mSt, I34 y3 y4 s → (¬ ((s 407 8).toNat < nR s ∧ isD (TR s) (s 407 8).toNat = true)) → 5 < (w32 (((uS s 407 10 y4) 407 8) - y3)) → ∀ t6 : mSt, t6 = uS s 407 10 y4 → (0 ≤ (1 : Int) ∧ (1 : Int) ≤ 4) ∧ (0 ≤ y3 ∧ y3 ≤ 400))
  (z6 : ∀ y3 : Int, ∀ y4 : Int, ∀ s : mSt, I34 y3 y4 s → (¬ ((s 407 8).toNat < nR s ∧ isD (TR s) (s 407 8).toNat = true)) → 5 < (w32 (((uS s 407 10 y4) 407 8) - y3)) → ∀ t6 : mSt, t6 = uS s 407 10 y4 → ∀ v7 : Int, ∀ s7 : mSt, (v7 = 0 ∧ s7 = flR t6 (1 : Int) y3) → v7 = 0 → Q (some (mI 0)) s7)
  (z7 : ∀ y3 : Int, ∀ y4 : Int, ∀ s : mSt, I34 y3 y4 s → (¬ ((s 407 8).toNat < nR s ∧ isD (TR s) (s 407 8).toNat = true)) → 5 < (w32 (((uS s 407 10 y4) 407 8) - y3)) → ∀ t6 : mSt, t6 = uS s 407 10 y4 → ∀ v7 : Int, ∀ s7 : mSt, (v7 = 0 ∧ s7 = flR t6 (1 : Int) y3) → ¬ v7 = 0 → Q (some (mI 1)) s7)
  (z8 : ∀ y3 : Int, ∀ y4 : Int, ∀ s : mSt, I34 y3 y4 s → (¬ ((s 407 8).toNat < nR s ∧ isD (TR s) (s 407 8).toNat = true)) → ¬ 5 < (w32 (((uS s 407 10 y4) 407 8) - y3)) → ∀ t11 : mSt, t11 = uS s 407 10 y4 → (x1 ≤ y4 ∧ y4 ≤ x2) → Q (some (mI 1)) t11)
  (z9 : ∀ y3 : Int, ∀ y4 : Int, ∀ s : mSt, I34 y3 y4 s → (¬ ((s 407 8).toNat < nR s ∧ isD (TR s) (s 407 8).toNat = true)) → ¬ 5 < (w32 (((uS s 407 10 y4) 407 8) - y3)) → ∀ t11 : mSt, t11 = uS s 407 10 y4 → (¬ (x1 ≤ y4 ∧ y4 ≤ x2)) → (0 ≤ (1 : Int) ∧ (1 : Int) ≤ 4) ∧ (0 ≤ y3 ∧ y3 ≤ 400))
  (z10 : ∀ y3 : Int, ∀ y4 : Int, ∀ s : mSt, I34 y3 y4 s → (¬ ((s 407 8).toNat < nR s ∧ isD (TR s) (s 407 8).toNat = true)) → ¬ 5 < (w32 (((uS s 407 10 y4) 407 8) - y3)) → ∀ t11 : mSt, t11 = uS s 407 10 y4 → (¬ (x1 ≤ y4 ∧ y4 ≤ x2)) → ∀ v14 : Int, ∀ s14 : mSt, (v14 = 0 ∧ s14 = flR t11 (1 : Int) y3) → v14 = 0 → Q (some (mI 0)) s14)
  (z11 : ∀ y3 : Int, ∀ y4 : Int, ∀ s : mSt, I34 y3 y4 s → (¬ ((s 407 8).toNat < nR s ∧ isD (TR s) (s 407 8).toNat = true)) → ¬ 5 < (w32 (((uS s 407 10 y4) 407 8) - y3)) → ∀ t11 : mSt, t11 = uS s 407 10 y4 → (¬ (x1 ≤ y4 ∧ y4 ≤ x2)) → ∀ v14 : Int, ∀ s14 : mSt, (v14 = 0 ∧ s14 = flR t11 (1 : Int) y3) → ¬ v14 = 0 → Q (some (mI 1)) s14)
  (z12 : TRq s)
  (z13 : ∀ v17 : Int, ∀ s17 : mSt, (v17 = (if nR s ≤ skR s then -1 else TR s (skR s)) ∧ s17 = uS s 407 8 (skR s : Int)) → TRq s17 ∧ 0 ≤ (s17 407 8))
  (z14 : ∀ v17 : Int, ∀ s17 : mSt, (v17 = (if nR s ≤ skR s then -1 else TR s (skR s)) ∧ s17 = uS s 407 8 (skR s : Int)) → ((s17 407 8).toNat < nR s17 ∧ isD (TR s17) (s17 407 8).toNat = true) → I34 (s17 407 8) 0 s17)
  (z15 : ∀ v17 : Int, ∀ s17 : mSt, (v17 = (if nR s ≤ skR s then -1 else TR s (skR s)) ∧ s17 = uS s 407 8 (skR s : Int)) → (¬ ((s17 407 8).toNat < nR s17 ∧ isD (TR s17) (s17 407 8).toNat = true)) → (0 ≤ (0 : Int) ∧ (0 : Int) ≤ 4) ∧ (0 ≤ (s17 407 8) ∧ (s17 407 8) ≤ 400))
  (z16 : ∀ v17 : Int, ∀ s17 : mSt, (v17 = (if nR s ≤ skR s then -1 else TR s (skR s)) ∧ s17 = uS s 407 8 (skR s : Int)) → (¬ ((s17 407 8).toNat < nR s17 ∧ isD (TR s17) (s17 407 8).toNat = true)) → ∀ v20 : Int, ∀ s20 : mSt, (v20 = 0 ∧ s20 = flR s17 (0 : Int) (s17 407 8)) → Q (some (mI v20)) s20)
  (z17 : ∀ v17 : Int, ∀ s17 : mSt, (v17 = (if nR s ≤ skR s then -1 else TR s (skR s)) ∧ s17 = uS s 407 8 (skR s : Int)) → (¬ ((s17 407 8).toNat < nR s17 ∧ isD (TR s17) (s17 407 8).toNat = true)) → ∀ v20 : Int, ∀ s20 : mSt, (v20 = 0 ∧ s20 = flR s17 (0 : Int) (s17 407 8)) → v20 = 0 ∨ v20 = 1) :
  Sp X (d + 1) 180 [mR 407, mI x1, mI x2] s Q := by
  have L : ∀ k : Nat, (∀ (y3 : Int) (y4 : Int) (s : mSt), I34 y3 y4 s → m34 y3 y4 s < k → Wp X (d + 1) 180 34 [some (mR 407), some (mI x1), some (mI x2), some (mI y3), some (mI y4)] [] s Q) := by
    intro k
    induction k with
    | zero => exact fun _ _ _ _ h => absurd h (Nat.not_lt_zero _)
    | succ k ih => exact fun y3 y4 s hI hm => b180_34 (c175 (z1 y3 y4 s hI) (fun q1 => ⟨1, rfl, b180_42 (fun q => absurd q (by decide)) (fun _ => b180_45 (fun q2 => b180_75 (ih y3 y4 (uS s 407 8 (w32 ((s 407 8) + 1))) (z2 y3 y4 s hI q1 q2).1 (Nat.lt_of_lt_of_le (z2 y3 y4 s hI q1 q2).2 (Nat.le_of_lt_succ hm)))) (fun q3 => b180_55 (z3 y3 y4 s hI q1 q3) (b180_75 (ih y3 (w32 ((w32 ((w32 (10 * y4)) + (s 408 (s 407 8).toNat))) - 48)) (uS s 407 8 (w32 ((s 407 8) + 1))) (z4 y3 y4 s hI q1 q3).1 (Nat.lt_of_lt_of_le (z4 y3 y4 s hI q1 q3).2 (Nat.le_of_lt_succ hm))))))⟩) (fun q4 => ⟨0, rfl, b180_42 (fun _ => b180_88 (fun q5 => Wp_gen (fun t6 e6 => b180_117 (c173 (z5 y3 y4 s hI q4 q5 t6 e6) (fun v7 s7 q7 => ⟨v7, rfl, b180_123 (fun q8 => b180_130 (b180_131 (z6 y3 y4 s hI q4 q5 t6 e6 v7 s7 q7 q8) (Or.inl rfl))) (fun q9 => b180_126 (b180_131 (z7 y3 y4 s hI q4 q5 t6 e6 v7 s7 q7 q9) (Or.inr rfl)))⟩)))) (fun q10 => Wp_gen (fun t11 e11 => b180_104 (c167  (fun q12 => ⟨1, rfl, b180_114 (fun _ => b180_126 (b180_131 (z8 y3 y4 s hI q4 q10 t11 e11 q12) (Or.inr rfl))) (fun q => absurd q (by decide))⟩) (fun q13 => ⟨0, rfl, b180_114 (fun q => absurd q (by decide)) (fun _ => b180_117 (c173 (z9 y3 y4 s hI q4 q10 t11 e11 q13) (fun v14 s14 q14 => ⟨v14, rfl, b180_123 (fun q15 => b180_130 (b180_131 (z10 y3 y4 s hI q4 q10 t11 e11 q13 v14 s14 q14 q15) (Or.inl rfl))) (fun q16 => b180_126 (b180_131 (z11 y3 y4 s hI q4 q10 t11 e11 q13 v14 s14 q14 q16) (Or.inr rfl)))⟩)))⟩))))) (fun q => absurd q (by decide))⟩))
  exact e180 (b180_0 (c174 z12 (fun v17 s17 q17 => ⟨v17, rfl, b180_4 (c175 (z13 v17 s17 q17) (fun q18 => ⟨1, rfl, b180_13 (fun _ => b180_26 ((L (m34 (s17 407 8) 0 s17 + 1)) (s17 407 8) 0 s17 (z14 v17 s17 q17 q18) (Nat.lt_succ_self _))) (fun q => absurd q (by decide))⟩) (fun q19 => ⟨0, rfl, b180_13 (fun q => absurd q (by decide)) (fun _ => b180_16 (c173 (z15 v17 s17 q17 q19) (fun v20 s20 q20 => ⟨v20, rfl, b180_25 (z16 v17 s17 q17 q19 v20 s20 q20) (z17 v17 s17 q17 q19 v20 s20 q20)⟩)))⟩))⟩)))

theorem c180 {X : (Nat → Int) × Nat} {d : Nat} {s : mSt} {Q : mQ} {x1 : Int} {x2 : Int} (p1 : TRq s ∧ s 407 9 = 0) (k1 : ∀ t : mSt, (nuA (TR s) (nR s) (skR s) x1 x2 = -1 ∧ t = uS (uS s 407 8 (tkR s : Int)) 407 10 (vA (TR s) (nR s) (skR s))) → Q (some (mI 1)) t) (k0 : ∀ t : mSt, (¬ nuA (TR s) (nR s) (skR s) x1 x2 = -1 ∧ t 407 9 = fuA (skR s) (nuA (TR s) (nR s) (skR s) x1 x2) ∧ fR s t) → Q (some (mI 0)) t) : Sp X (d + 1) 180 [mR 407, mI x1, mI x2] s Q := by
  obtain ⟨h, h9⟩ := p1
  have hb := skR_b h
  have hT := TR_t h
  let a := skR s
  have ea : a = skR s := rfl
  let J : Int → Int → mSt → Prop := fun y3 y4 t => ∃ i : Nat, y3 = (skR s : Int) ∧ (skR s < nR s ∧ isD (TR s) (skR s) = true) ∧ skR s + i ≤ nR s ∧ deT (TR s) (nR s) (skR s + i) = deT (TR s) (nR s) (skR s) ∧ t = uS s 407 8 ((skR s + i : Nat) : Int) ∧ (i ≤ 5 → y4 = nv (TR s) (skR s) i)
  have tt : ∀ t (i : Nat), skR s + i ≤ nR s → t = uS s 407 8 ((skR s + i : Nat) : Int) → t 407 8 = ((skR s + i : Nat) : Int) ∧ nR t = nR s ∧ TR t = TR s ∧ TRq t ∧ t 408 = s 408 := fun t i hi ht => by
    rw [ht]
    exact ⟨by rw [uS_at, if_pos rfl], nR_u s _ (by decide), TR_u s _ _, TRq_8 h hi, uS_cell (by decide)⟩
  have en : ∀ i : Nat, ¬ (skR s + i < nR s ∧ isD (TR s) (skR s + i) = true) → deT (TR s) (nR s) (skR s + i) = deT (TR s) (nR s) (skR s) → deT (TR s) (nR s) (skR s) = skR s + i := fun i h1 h2 => by
    rw [← h2]; unfold deT; rw [rnT_e, if_neg h1]
  have go : ∀ i : Nat, skR s + i < nR s ∧ isD (TR s) (skR s + i) = true → deT (TR s) (nR s) (skR s + i) = deT (TR s) (nR s) (skR s) → deT (TR s) (nR s) (skR s + (i + 1)) = deT (TR s) (nR s) (skR s) := fun i h1 h2 => by
    rw [← h2]; unfold deT; rw [rnT_e _ _ (skR s + i), if_pos h1]; rfl
  have fl : ∀ (t : mSt) (v y : Int), t = uS s 407 8 v → flR (uS t 407 10 y) 1 (skR s : Int) = uS (uS t 407 10 y) 407 9 (fuA (skR s) 1) := fun t v y ht => by
    have e : (uS t 407 10 y) 407 9 = 0 := by rw [uS_at, if_neg (by decide), ht, uS_at, if_neg (by decide)]; exact h9
    unfold flR fuA; rw [if_pos e]
  have fr : ∀ (t : mSt) (v y z : Int), t = uS s 407 8 v → fR s (uS (uS t 407 10 y) 407 9 z) := fun t v y z ht => by
    rw [ht]; exact fR_u (fR_u (fR_u (fR_0 s) _ (by decide)) _ (by decide)) _ (by decide)
  have nuS : ∀ i : Nat, (skR s < nR s ∧ isD (TR s) (skR s) = true) → deT (TR s) (nR s) (skR s) = skR s + i → tkR s = skR s + i ∧ vA (TR s) (nR s) (skR s) = nv (TR s) (skR s) i ∧ nuA (TR s) (nR s) (skR s) x1 x2 = (if (i : Int) ≤ 5 ∧ x1 ≤ nv (TR s) (skR s) i ∧ nv (TR s) (skR s) i ≤ x2 then -1 else 1) := fun i hd e => by
    have ep : tkP (TR s) (nR s) (skR s) = skR s + i := by rw [tkP_D hd, e]
    have ev : vA (TR s) (nR s) (skR s) = nv (TR s) (skR s) i := by unfold vA; rw [ep, show skR s + i - skR s = i by omega]
    refine ⟨ep, ev, ?_⟩
    unfold nuA
    rw [if_pos ((tkD hT).2 hd), ev, ep, show ((skR s + i : Nat) : Int) - (skR s : Int) = (i : Int) by omega]
  refine v180 J (fun _ _ t => (500 - t 407 8).toNat) ?_ ?_ ?_ ?_ ?_ ?_ ?_ ?_ ?_ ?_ ?_ h ?_ ?_ ?_ ?_ ?_
  · rintro y3 y4 t ⟨i, rfl, hd, hi, hl, ht, hv⟩
    have q := tt t i hi ht
    exact ⟨q.2.2.2.1, by rw [q.1]; omega⟩
  · rintro y3 y4 t ⟨i, rfl, hd, hi, hl, ht, hv⟩ hc h5
    have q := tt t i hi ht
    rw [q.1, tnc, q.2.1, q.2.2.1] at hc
    rw [q.1, w32_of (by omega)] at h5
    rw [q.1, w32_of (by omega)]
    refine ⟨⟨i + 1, rfl, hd, by omega, go i hc hl, ?_, fun w => by omega⟩, ?_⟩
    · rw [ht, uS_uS]; rfl
    · rw [uS_at, if_pos rfl]; omega
  · rintro y3 y4 t ⟨i, rfl, hd, hi, hl, ht, hv⟩ hc h5
    have q := tt t i hi ht
    rw [q.1, tnc, q.2.1, q.2.2.1] at hc
    rw [q.1]; omega
  · rintro y3 y4 t ⟨i, rfl, hd, hi, hl, ht, hv⟩ hc h5
    have q := tt t i hi ht
    rw [q.1, tnc, q.2.1, q.2.2.1] at hc
    rw [q.1, w32_of (by omega)] at h5
    rw [q.1, w32_of (x := ((skR s + i : Nat) : Int) + 1) (by omega), tnc, q.2.2.2.2]
    refine ⟨⟨i + 1, rfl, hd, by omega, go i hc hl, ?_, fun w => ?_⟩, ?_⟩
    · rw [ht, uS_uS]; rfl
    · have e8 : s 408 (skR s + i) = TR s (skR s + i) := by
        have b := h.1 (skR s + i)
        have c := isD_i.1 hc.2
        unfold TR ub at c ⊢
        split at c <;> omega
      rw [hv (by omega), e8, Int.mul_comm]
      rfl
    · rw [uS_at, if_pos rfl]; omega
  · rintro y3 y4 t ⟨i, rfl, hd, hi, hl, ht, hv⟩ hc h5 t6 e6
    exact ⟨by decide, by omega⟩
  · rintro y3 y4 t ⟨i, rfl, hd, hi, hl, ht, hv⟩ hc h5 t6 e6 v7 s7 ⟨_, e7⟩ _
    have q := tt t i hi ht
    rw [q.1, tnc, q.2.1, q.2.2.1] at hc
    rw [uS_at, if_neg (by decide), q.1, w32_of (by omega)] at h5
    have w := nuS i hd (en i hc hl)
    rw [if_neg (by omega)] at w
    rw [e6, fl t _ _ ht] at e7
    refine k0 s7 ⟨by rw [w.2.2]; decide, by rw [w.2.2, e7, uS_at, if_pos rfl], by rw [e7]; exact fr t _ _ _ ht⟩
  · rintro y3 y4 t ⟨i, rfl, hd, hi, hl, ht, hv⟩ hc h5 t6 e6 v7 s7 ⟨e, _⟩ z
    exact absurd e z
  · rintro y3 y4 t ⟨i, rfl, hd, hi, hl, ht, hv⟩ hc h5 t6 e6 hr
    have q := tt t i hi ht
    rw [q.1, tnc, q.2.1, q.2.2.1] at hc
    rw [uS_at, if_neg (by decide), q.1, w32_of (by omega)] at h5
    have w := nuS i hd (en i hc hl)
    have e4 := hv (by omega)
    rw [e4] at hr
    rw [if_pos ⟨by omega, hr⟩] at w
    refine k1 t6 ⟨w.2.2, ?_⟩
    rw [e6, ht, w.1, w.2.1, e4]
  · rintro y3 y4 t ⟨i, rfl, hd, hi, hl, ht, hv⟩ hc h5 t6 e6 hr
    exact ⟨by decide, by omega⟩
  · rintro y3 y4 t ⟨i, rfl, hd, hi, hl, ht, hv⟩ hc h5 t6 e6 hr v7 s7 ⟨_, e7⟩ _
    have q := tt t i hi ht
    rw [q.1, tnc, q.2.1, q.2.2.1] at hc
    rw [uS_at, if_neg (by decide), q.1, w32_of (by omega)] at h5
    have w := nuS i hd (en i hc hl)
    have e4 := hv (by omega)
    rw [e4] at hr
    rw [if_neg (fun x => hr x.2)] at w
    rw [e6, fl t _ _ ht] at e7
    refine k0 s7 ⟨by rw [w.2.2]; decide, by rw [w.2.2, e7, uS_at, if_pos rfl], by rw [e7]; exact fr t _ _ _ ht⟩
  · rintro y3 y4 t ⟨i, rfl, hd, hi, hl, ht, hv⟩ hc h5 t6 e6 hr v7 s7 ⟨e, _⟩ z
    exact absurd e z
  · rintro v t ⟨_, ht⟩
    rw [ht]
    exact ⟨TRq_s h, by rw [uS_at, if_pos rfl]; omega⟩
  · rintro v t ⟨_, ht⟩ hc
    have q := tt t 0 hb.2.1 ht
    rw [q.1, tnc, q.2.1, q.2.2.1] at hc
    refine ⟨0, q.1, hc, hb.2.1, rfl, ht, fun _ => rfl⟩
  · rintro v t ⟨_, ht⟩ hc
    have q := tt t 0 hb.2.1 ht
    rw [q.1]
    exact ⟨by decide, by omega⟩
  · rintro v t ⟨_, ht⟩ hc v2 t2 ⟨rfl, e2⟩
    have q := tt t 0 hb.2.1 ht
    rw [q.1, tnc, q.2.1, q.2.2.1] at hc
    have w : nuA (TR s) (nR s) (skR s) x1 x2 = 0 := if_neg (fun z => hc ((tkD hT).1 z))
    have e : t 407 9 = 0 := by rw [ht, uS_at, if_neg (by decide)]; exact h9
    have e3 : t2 = uS t 407 9 (fuA (skR s) 0) := by
      rw [e2, q.1]; unfold flR fuA; rw [if_pos e]; rfl
    refine k0 t2 ⟨by rw [w]; decide, by rw [w, e3, uS_at, if_pos rfl], ?_⟩
    rw [e3, ht]
    exact fR_u (fR_u (fR_0 s) _ (by decide)) _ (by decide)
  · rintro v t ⟨_, ht⟩ hc v2 t2 ⟨e, _⟩
    exact Or.inl e
