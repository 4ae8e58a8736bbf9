/-! tokens: the reference -/
def ub (v : Int) : Int := if v < 0 then v + 256 else v
def TR (s : mSt) : Nat → Int := fun i => ub (s 408 i)
def nR (s : mSt) : Nat := (s 407 1).toNat
def TRq (s : mSt) : Prop := (∀ i, -128 ≤ s 408 i ∧ s 408 i < 128) ∧ (0 ≤ s 407 1 ∧ s 407 1 ≤ 400) ∧ (0 ≤ s 407 8 ∧ s 407 8 ≤ s 407 1)
theorem and_ub {v : Int} (h : -128 ≤ v ∧ v < 128) : iAnd v 255 = ub v := by
  rw [and255, ← mod256 (by unfold i3; omega)]
  unfold ub; split <;> omega
def flR (s : mSt) (x a : Int) : mSt := if s 407 9 = 0 then uS s 407 9 (1 + 8 * a + x) else s
theorem v173 {X : (Nat → Int) × Nat} {d : Nat} {s : mSt} {Q : mQ} {x1 : Int} {x2 : Int}
  (z1 : ¬ (s 407 9) = 0 → Q (some (mI 0)) s)
  (z2 : (s 407 9) = 0 → ∀ t3 : mSt, t3 = uS s 407 9 (w32 ((w32 (1 + (w32 (8 * x2)))) + x1)) → Q (some (mI 0)) t3) :
  Sp X d 173 [mR 407, mI x1, mI x2] s Q := e173 (b173_0 (fun q1 => b173_19 (z1 q1)) (fun q2 => b173_7 (Wp_gen (fun t3 e3 => b173_19 (z2 q2 t3 e3)))))

theorem c173 {X : (Nat → Int) × Nat} {d : Nat} {s : mSt} {Q : mQ} {x1 : Int} {x2 : Int} (p1 : (0 ≤ x1 ∧ x1 ≤ 4) ∧ (0 ≤ x2 ∧ x2 ≤ 400)) (k : ∀ (v : Int) (t : mSt), (v = 0 ∧ t = flR s x1 x2) → Q (some (mI v)) t) : Sp X d 173 [mR 407, mI x1, mI x2] s Q := by
  refine v173 (fun z => k _ s ⟨rfl, by unfold flR; rw [if_neg z]⟩) (fun z t ht => k _ t ⟨rfl, ?_⟩)
  rw [w32_of (x := 8 * x2) (by omega), w32_of (x := 1 + 8 * x2) (by omega), w32_of (by omega)] at ht
  unfold flR; rw [if_pos z]; exact ht
def skR (s : mSt) : Nat := sk (TR s) (nR s) (s 407 8).toNat
theorem skR_b {s : mSt} (h : TRq s) : (s 407 8).toNat ≤ skR s ∧ skR s ≤ nR s ∧ nR s ≤ 400 := by
  have b := rnT_b (fun k => decide (TR s k = 32)) (nR s) (s 407 8).toNat
  have h1 := h.2.1
  have h2 := h.2.2
  refine ⟨b.1, b.2 (by unfold nR; omega), by unfold nR; omega⟩
theorem v174 {X : (Nat → Int) × Nat} {d : Nat} {s : mSt} {Q : mQ}
  (I0 : mSt → Prop) (m0 : mSt → Nat)
  (z1 : ∀ s : mSt, I0  s → (s 407 1) ≤ (s 407 8) → (s 407 1) ≤ (s 407 8) → Q (some (mI (-1))) s)
  (z2 : ∀ s : mSt, I0  s → (s 407 1) ≤ (s 407 8) → ¬ (s 407 1) ≤ (s 407 8) → 0 ≤ (s 407 8) ∧ (s 407 8) < 400)
  (z3 : ∀ s : mSt, I0  s → (s 407 1) ≤ (s 407 8) → ¬ (s 407 1) ≤ (s 407 8) → Q (some (mI (iAnd (s 408 (s 407 8).toNat) 255))) s)
  (z4 : ∀ s : mSt, I0  s → ¬ (s 407 1) ≤ (s 407 8) → 0 ≤ (s 407 8) ∧ (s 407 8) < 400)
  (z5 : ∀ s : mSt, I0  s → ¬ (s 407 1) ≤ (s 407 8) → ¬ (s 408 (s 407 8).toNat) = 32 → (s 407 1) ≤ (s 407 8) → Q (some (mI (-1))) s)
  (z6 : ∀ s : mSt, I0  s → ¬ (s 407 1) ≤ (s 407 8) → ¬ (s 408 (s 407 8).toNat) = 32 → ¬ (s 407 1) ≤ (s 407 8) → 0 ≤ (s 407 8) ∧ (s 407 8) < 400)
  (z7 : ∀ s : mSt, I0  s → ¬ (s 407 1) ≤ (s 407 8) → ¬ (s 408 (s 407 8).toNat) = 32 → ¬ (s 407 1) ≤ (s 407 8) → Q (some (mI (iAnd (s 408 (s 407 8).toNat) 255))) s)
  (z8 : ∀ s : mSt, I0  s → ¬ (s 407 1) ≤ (s 407 8) → (s 408 (s 407 8).toNat) = 32 → I0  (uS s 407 8 (w32 ((s 407 8) + 1))) ∧ m0  (uS s 407 8 (w32 ((s 407 8) + 1))) < m0  s)
  (z9 : I0  s) :
  Sp X d 174 [mR 407] s Q := by
  have L : ∀ k : Nat, (∀ (s : mSt), I0  s → m0  s < k → Wp X d 174 0 [some (mR 407)] [] s Q) := by
    intro k
    induction k with
    | zero => exact fun _ _ h => absurd h (Nat.not_lt_zero _)
    | succ k ih => exact fun s hI hm => b174_0 (fun q1 => b174_38 (fun q2 => b174_65 (b174_66 (z1 s hI q1 q2))) (fun q3 => b174_49 (z2 s hI q1 q3) (b174_66 (z3 s hI q1 q3)))) (fun q4 => b174_11 (z4 s hI q4) (fun q5 => b174_38 (fun q6 => b174_65 (b174_66 (z5 s hI q4 q5 q6))) (fun q7 => b174_49 (z6 s hI q4 q5 q7) (b174_66 (z7 s hI q4 q5 q7)))) (fun q8 => b174_25 (ih  (uS s 407 8 (w32 ((s 407 8) + 1))) (z8 s hI q4 q8).1 (Nat.lt_of_lt_of_le (z8 s hI q4 q8).2 (Nat.le_of_lt_succ hm)))))
  exact e174 ((L (m0  s + 1))  s z9 (Nat.lt_succ_self _))

theorem c174 {X : (Nat → Int) × Nat} {d : Nat} {s : mSt} {Q : mQ} (p1 : TRq s) (k : ∀ (v : Int) (t : mSt), (v = (if nR s ≤ skR s then -1 else TR s (skR s)) ∧ t = uS s 407 8 (skR s : Int)) → Q (some (mI v)) t) : Sp X d 174 [mR 407] s Q := by
  have h := p1
  have hb := skR_b h
  have en : s 407 1 = (nR s : Int) := by have := h.2.1; unfold nR; omega
  let J : mSt → Prop := fun t => ∃ i : Nat, i ≤ nR s ∧ sk (TR s) (nR s) i = skR s ∧ t = uS s 407 8 (i : Int)
  have tt : ∀ t i, t = uS s 407 8 ((i : Nat) : Int) → t 407 8 = (i : Int) ∧ t 407 1 = (nR s : Int) ∧ t 408 = s 408 := fun t i ht => by
    rw [ht]
    exact ⟨by rw [uS_at, if_pos rfl], by rw [uS_at, if_neg (by decide)]; exact en, uS_cell (by decide)⟩
  have e32 : ∀ i : Nat, (s 408 i = 32 ↔ TR s i = 32) := fun i => by
    have := h.1 i
    unfold TR ub
    split <;> omega
  have kEnd : ∀ (t : mSt) (i : Nat), nR s ≤ i → i ≤ nR s → sk (TR s) (nR s) i = skR s → t = uS s 407 8 (i : Int) → Q (some (mI (-1))) t := fun t i h1 h2 h3 h4 => by
    have e : sk (TR s) (nR s) i = i := by unfold sk; rw [rnT_e, if_neg (by omega)]
    have e2 : skR s = i := by rw [← h3, e]
    exact k _ t ⟨by rw [if_pos (by omega)], by rw [e2]; exact h4⟩
  refine v174 J (fun t => (500 - t 407 8).toNat) ?_ ?_ ?_ ?_ ?_ ?_ ?_ ?_ ?_
  · rintro t ⟨i, hi, e, ht⟩ hc _
    have q := tt t i ht
    rw [q.1, q.2.1] at hc
    exact kEnd t i (by omega) hi e ht
  · rintro t ⟨i, hi, e, ht⟩ hc hc2
    exact absurd hc hc2
  · rintro t ⟨i, hi, e, ht⟩ hc hc2
    exact absurd hc hc2
  · rintro t ⟨i, hi, e, ht⟩ hc
    have q := tt t i ht
    rw [q.1, q.2.1] at hc
    rw [q.1]; omega
  · rintro t ⟨i, hi, e, ht⟩ hc q1 hc2
    exact absurd hc2 hc
  · rintro t ⟨i, hi, e, ht⟩ hc q1 hc2
    have q := tt t i ht
    rw [q.1, q.2.1] at hc
    rw [q.1]; omega
  · rintro t ⟨i, hi, e, ht⟩ hc q1 hc2
    have q := tt t i ht
    rw [q.1, q.2.1] at hc
    rw [q.1, q.2.2, tnc] at q1 ⊢
    have e' : sk (TR s) (nR s) i = i := by unfold sk; rw [rnT_e, if_neg (fun w => q1 ((e32 i).2 (by have := w.2; simpa using this)))]
    have e2 : skR s = i := by rw [← e, e']
    rw [and_ub (h.1 i)]
    exact k _ t ⟨by rw [if_neg (by omega), e2]; rfl, by rw [e2]; exact ht⟩
  · rintro t ⟨i, hi, e, ht⟩ hc q1
    have q := tt t i ht
    rw [q.1, q.2.1] at hc
    rw [q.1, q.2.2, tnc] at q1
    rw [q.1, w32_of (by omega)]
    have e' : sk (TR s) (nR s) i = sk (TR s) (nR s) (i + 1) := by unfold sk; rw [rnT_e, if_pos ⟨by omega, by simp; exact (e32 i).1 q1⟩]
    refine ⟨⟨i + 1, by omega, by rw [← e']; exact e, ?_⟩, ?_⟩
    · rw [ht, uS_uS]; rfl
    · rw [uS_at, if_pos rfl]; omega
  · refine ⟨(s 407 8).toNat, by have := h.2.2; unfold nR; omega, rfl, ?_⟩
    have e : (((s 407 8).toNat : Nat) : Int) = s 407 8 := by have := h.2.2; omega
    rw [e]
    funext c j
    unfold uS
    by_cases z : c = 407 ∧ j = 8
    · rw [if_pos z, z.1, z.2]
    · rw [if_neg z]
theorem v175 {X : (Nat → Int) × Nat} {d : Nat} {s : mSt} {Q : mQ} {x1 : Int}
  (z1 : (s 407 1) ≤ x1 → Q (some (mI 0)) s)
  (z2 : ¬ (s 407 1) ≤ x1 → 0 ≤ x1 ∧ x1 < 400)
  (z3 : ¬ (s 407 1) ≤ x1 → (s 408 x1.toNat) < 48 → Q (some (mI 0)) s)
  (z4 : ¬ (s 407 1) ≤ x1 → ¬ (s 408 x1.toNat) < 48 → 0 ≤ x1 ∧ x1 < 400)
  (z5 : ¬ (s 407 1) ≤ x1 → ¬ (s 408 x1.toNat) < 48 → 57 < (s 408 x1.toNat) → Q (some (mI 0)) s)
  (z6 : ¬ (s 407 1) ≤ x1 → ¬ (s 408 x1.toNat) < 48 → ¬ 57 < (s 408 x1.toNat) → Q (some (mI 1)) s) :
  Sp X d 175 [mR 407, mI x1] s Q := e175 (b175_0 (fun q1 => b175_34 (b175_35 (z1 q1) (Or.inl rfl))) (fun q2 => b175_8 (z2 q2) (fun q3 => b175_34 (b175_35 (z3 q2 q3) (Or.inl rfl))) (fun q4 => b175_19 (z4 q2 q4) (fun q5 => b175_34 (b175_35 (z5 q2 q4 q5) (Or.inl rfl))) (fun q6 => b175_30 (b175_35 (z6 q2 q4 q6) (Or.inr rfl))))))

theorem c175 {X : (Nat → Int) × Nat} {d : Nat} {s : mSt} {Q : mQ} {x1 : Int} (p1 : TRq s ∧ 0 ≤ x1) (k1 : (x1.toNat < nR s ∧ isD (TR s) x1.toNat = true) → Q (some (mI 1)) s) (k0 : ¬ (x1.toNat < nR s ∧ isD (TR s) x1.toNat = true) → Q (some (mI 0)) s) : Sp X d 175 [mR 407, mI x1] s Q := by
  obtain ⟨h, hx⟩ := p1
  have en : s 407 1 = (nR s : Int) := by have := h.2.1; unfold nR; omega
  have nb := (skR_b h).2.2
  have b := h.1 x1.toNat
  have eT : TR s x1.toNat = ub (s 408 x1.toNat) := rfl
  have iD : isD (TR s) x1.toNat = true ↔ 48 ≤ s 408 x1.toNat ∧ s 408 x1.toNat ≤ 57 := by
    rw [isD_i, eT]; unfold ub; split <;> omega
  refine v175 (fun z => k0 (fun w => by have := w.1; omega)) (fun z => by omega) (fun z z1 => k0 (fun w => by have := iD.1 w.2; omega)) (fun z _ => by omega) (fun z z1 z2 => k0 (fun w => by have := iD.1 w.2; omega)) (fun z z1 z2 => k1 ⟨by omega, iD.2 (by omega)⟩)
theorem v176 {X : (Nat → Int) × Nat} {d : Nat} {s : mSt} {Q : mQ} {x1 : Int}
  (z1 : (s 407 1) ≤ x1 → Q (some (mI 0)) s)
  (z2 : ¬ (s 407 1) ≤ x1 → 0 ≤ x1 ∧ x1 < 400)
  (z3 : ¬ (s 407 1) ≤ x1 → (s 408 x1.toNat) < 97 → Q (some (mI 0)) s)
  (z4 : ¬ (s 407 1) ≤ x1 → ¬ (s 408 x1.toNat) < 97 → 0 ≤ x1 ∧ x1 < 400)
  (z5 : ¬ (s 407 1) ≤ x1 → ¬ (s 408 x1.toNat) < 97 → 122 < (s 408 x1.toNat) → Q (some (mI 0)) s)
  (z6 : ¬ (s 407 1) ≤ x1 → ¬ (s 408 x1.toNat) < 97 → ¬ 122 < (s 408 x1.toNat) → Q (some (mI 1)) s) :
  Sp X d 176 [mR 407, mI x1] s Q := e176 (b176_0 (fun q1 => b176_34 (b176_35 (z1 q1) (Or.inl rfl))) (fun q2 => b176_8 (z2 q2) (fun q3 => b176_34 (b176_35 (z3 q2 q3) (Or.inl rfl))) (fun q4 => b176_19 (z4 q2 q4) (fun q5 => b176_34 (b176_35 (z5 q2 q4 q5) (Or.inl rfl))) (fun q6 => b176_30 (b176_35 (z6 q2 q4 q6) (Or.inr rfl))))))

theorem c176 {X : (Nat → Int) × Nat} {d : Nat} {s : mSt} {Q : mQ} {x1 : Int} (p1 : TRq s ∧ 0 ≤ x1) (k1 : (x1.toNat < nR s ∧ isL (TR s) x1.toNat = true) → Q (some (mI 1)) s) (k0 : ¬ (x1.toNat < nR s ∧ isL (TR s) x1.toNat = true) → Q (some (mI 0)) s) : Sp X d 176 [mR 407, mI x1] s Q := by
  obtain ⟨h, hx⟩ := p1
  have en : s 407 1 = (nR s : Int) := by have := h.2.1; unfold nR; omega
  have nb := (skR_b h).2.2
  have b := h.1 x1.toNat
  have eT : TR s x1.toNat = ub (s 408 x1.toNat) := rfl
  have iD : isL (TR s) x1.toNat = true ↔ 97 ≤ s 408 x1.toNat ∧ s 408 x1.toNat ≤ 122 := by
    rw [isL_i, eT]; unfold ub; split <;> omega
  refine v176 (fun z => k0 (fun w => by have := w.1; omega)) (fun z => by omega) (fun z z1 => k0 (fun w => by have := iD.1 w.2; omega)) (fun z _ => by omega) (fun z z1 z2 => k0 (fun w => by have := iD.1 w.2; omega)) (fun z z1 z2 => k1 ⟨by omega, iD.2 (by omega)⟩)
theorem v177 {X : (Nat → Int) × Nat} {d : Nat} {s : mSt} {Q : mQ} {x1 : Int}
  (I10 : Int → Int → mSt → Prop) (m10 : Int → Int → mSt → Nat)
  (z1 : ∀ y3 : Int, ∀ y5 : Int, ∀ s : mSt, I10 y3 y5 s → TRq s ∧ 0 ≤ (w32 ((s 407 8) + y5)))
  (z2 : ∀ y3 : Int, ∀ y5 : Int, ∀ s : mSt, I10 y3 y5 s → ((w32 ((s 407 8) + y5)).toNat < nR s ∧ isL (TR s) (w32 ((s 407 8) + y5)).toNat = true) → 12 ≤ y5 → I10 y3 (w32 (y5 + 1)) s ∧ m10 y3 (w32 (y5 + 1)) s < m10 y3 y5 s)
  (z3 : ∀ y3 : Int, ∀ y5 : Int, ∀ s : mSt, I10 y3 y5 s → ((w32 ((s 407 8) + y5)).toNat < nR s ∧ isL (TR s) (w32 ((s 407 8) + y5)).toNat = true) → ¬ 12 ≤ y5 → 0 ≤ (w32 ((s 407 8) + y5)) ∧ (w32 ((s 407 8) + y5)) < 400)
  (z4 : ∀ y3 : Int, ∀ y5 : Int, ∀ s : mSt, I10 y3 y5 s → ((w32 ((s 407 8) + y5)).toNat < nR s ∧ isL (TR s) (w32 ((s 407 8) + y5)).toNat = true) → ¬ 12 ≤ y5 → I10 (lOr (lShl y3 5) (iAnd (s 408 (w32 ((s 407 8) + y5)).toNat) 31)) (w32 (y5 + 1)) s ∧ m10 (lOr (lShl y3 5) (iAnd (s 408 (w32 ((s 407 8) + y5)).toNat) 31)) (w32 (y5 + 1)) s < m10 y3 y5 s)
  (z5 : ∀ y3 : Int, ∀ y5 : Int, ∀ s : mSt, I10 y3 y5 s → (¬ ((w32 ((s 407 8) + y5)).toNat < nR s ∧ isL (TR s) (w32 ((s 407 8) + y5)).toNat = true)) → y5 ≤ 0 → Q (some (mI 0)) s)
  (z6 : ∀ y3 : Int, ∀ y5 : Int, ∀ s : mSt, I10 y3 y5 s → (¬ ((w32 ((s 407 8) + y5)).toNat < nR s ∧ isL (TR s) (w32 ((s 407 8) + y5)).toNat = true)) → ¬ y5 ≤ 0 → 13 ≤ y5 → Q (some (mI 0)) s)
  (z7 : ∀ y3 : Int, ∀ y5 : Int, ∀ s : mSt, I10 y3 y5 s → (¬ ((w32 ((s 407 8) + y5)).toNat < nR s ∧ isL (TR s) (w32 ((s 407 8) + y5)).toNat = true)) → ¬ y5 ≤ 0 → ¬ 13 ≤ y5 → ¬ (lCmp y3 x1) = 0 → Q (some (mI 0)) s)
  (z8 : ∀ y3 : Int, ∀ y5 : Int, ∀ s : mSt, I10 y3 y5 s → (¬ ((w32 ((s 407 8) + y5)).toNat < nR s ∧ isL (TR s) (w32 ((s 407 8) + y5)).toNat = true)) → ¬ y5 ≤ 0 → ¬ 13 ≤ y5 → (lCmp y3 x1) = 0 → Q (some (mI 1)) s)
  (z9 : TRq s)
  (z10 : ∀ v11 : Int, ∀ s11 : mSt, (v11 = (if nR s ≤ skR s then -1 else TR s (skR s)) ∧ s11 = uS s 407 8 (skR s : Int)) → I10 0 0 s11) :
  Sp X (d + 1) 177 [mR 407, mJ x1] s Q := by
  have L : ∀ k : Nat, (∀ (l2 : Option mV) (y3 : Int) (l4 : Option mV) (y5 : Int) (s : mSt), I10 y3 y5 s → m10 y3 y5 s < k → Wp X (d + 1) 177 10 [some (mR 407), some (mJ x1), l2, some (mJ y3), l4, some (mI y5)] [] s Q) := by
    intro k
    induction k with
    | zero => exact fun _ _ _ _ _ _ h => absurd h (Nat.not_lt_zero _)
    | succ k ih => exact fun l2 y3 l4 y5 s hI hm => b177_10 (c176 (z1 y3 y5 s hI) (fun q1 => ⟨1, rfl, b177_21 (fun q => absurd q (by decide)) (fun _ => b177_24 (fun q2 => b177_52 (ih l2 y3 (kL 0 l4) (w32 (y5 + 1)) s (z2 y3 y5 s hI q1 q2).1 (Nat.lt_of_lt_of_le (z2 y3 y5 s hI q1 q2).2 (Nat.le_of_lt_succ hm)))) (fun q3 => b177_31 (z3 y3 y5 s hI q1 q3) (b177_52 (ih (kL 0 l2) (lOr (lShl y3 5) (iAnd (s 408 (w32 ((s 407 8) + y5)).toNat) 31)) (kL 0 none) (w32 (y5 + 1)) s (z4 y3 y5 s hI q1 q3).1 (Nat.lt_of_lt_of_le (z4 y3 y5 s hI q1 q3).2 (Nat.le_of_lt_succ hm))))))⟩) (fun q4 => ⟨0, rfl, b177_21 (fun _ => b177_58 (fun q5 => b177_80 (b177_81 (z5 y3 y5 s hI q4 q5) (Or.inl rfl))) (fun q6 => b177_63 (fun q7 => b177_80 (b177_81 (z6 y3 y5 s hI q4 q6 q7) (Or.inl rfl))) (fun q8 => b177_70 (fun q9 => b177_80 (b177_81 (z7 y3 y5 s hI q4 q6 q8 q9) (Or.inl rfl))) (fun q10 => b177_76 (b177_81 (z8 y3 y5 s hI q4 q6 q8 q10) (Or.inr rfl)))))) (fun q => absurd q (by decide))⟩))
  exact e177 (b177_0 (c174 z9 (fun v11 s11 q11 => ⟨v11, rfl, b177_4 ((L (m10 0 0 s11 + 1)) (kL 0 none) 0 none 0 s11 (z10 v11 s11 q11) (Nat.lt_succ_self _))⟩)))

