/-! words -/
def lnL : List Nat := [9, 6, 5, 4, 6, 4, 6, 4, 4, 7, 4, 3, 5, 5, 4, 2, 2, 3, 3]
def lnW (k : Nat) : Nat := lnL.getD k 0
def stW : Nat → Nat
  | 0 => 0
  | k + 1 => stW k + lnW k + 1
def chW (k i : Nat) : Nat := mTx.getD (stW k + i) 0
theorem wd_f : ∀ k : Fin 19, (1 ≤ lnW k.val ∧ lnW k.val ≤ 9) ∧ stW k.val + lnW k.val < 105 ∧ chW k.val (lnW k.val) = 32 ∧ ∀ j : Fin 10, j.val < lnW k.val → 97 ≤ chW k.val j.val ∧ chW k.val j.val ≤ 122 := by decide +kernel
theorem wd_e : stW 19 = 105 := by decide +kernel
/-- do the bytes from a to p spell the word -/
def isWb (T : Nat → Int) (a p k : Nat) : Bool := decide (p = a + lnW k) && !an (fun i => !decide (T (a + i) = (chW k i : Int))) (lnW k)
theorem isWb_i {T : Nat → Int} {a p k : Nat} : isWb T a p k = true ↔ p = a + lnW k ∧ ∀ i, i < lnW k → T (a + i) = (chW k i : Int) := by
  unfold isWb
  rw [Bool.and_eq_true, decide_eq_true_eq, Bool.not_eq_true', an_false]
  constructor
  · rintro ⟨h1, h2⟩
    refine ⟨h1, fun i hi => ?_⟩
    have := h2 i hi
    simpa using this
  · rintro ⟨h1, h2⟩
    refine ⟨h1, fun i hi => ?_⟩
    simp [h2 i hi]
def wnC (s : mSt) : Int := if s 1 2 = 257 then fd (isWb (s 2) (s 1 3).toNat (s 1 4).toNat) 19 else -1
theorem v91 {X : (Nat → Int) × Nat} {d : Nat} {s : mSt} {Q : mQ}
  (I23 : Int → Int → Int → Int → Prop) (m23 : Int → Int → Int → Int → Nat)
  (z1 : ∀ y1 : Int, ∀ y2 : Int, ∀ y3 : Int, ∀ y4 : Int, I23 y1 y2 y3 y4 → 105 ≤ y4 → Q (some (mI (-1))) s)
  (z2 : ∀ y1 : Int, ∀ y2 : Int, ∀ y3 : Int, ∀ y4 : Int, I23 y1 y2 y3 y4 → ¬ 105 ≤ y4 → 0 ≤ y4 ∧ y4 < 105)
  (z3 : ∀ y1 : Int, ∀ y2 : Int, ∀ y3 : Int, ∀ y4 : Int, I23 y1 y2 y3 y4 → ¬ 105 ≤ y4 → ¬ ((mTx.getD y4.toNat 0 : Nat) : Int) = 32 → (s 1 4) ≤ (w32 ((w32 ((s 1 3) + y4)) - y2)) → I23 y1 y2 0 (w32 (y4 + 1)) ∧ m23 y1 y2 0 (w32 (y4 + 1)) < m23 y1 y2 y3 y4)
  (z4 : ∀ y1 : Int, ∀ y2 : Int, ∀ y3 : Int, ∀ y4 : Int, I23 y1 y2 y3 y4 → ¬ 105 ≤ y4 → ¬ ((mTx.getD y4.toNat 0 : Nat) : Int) = 32 → ¬ (s 1 4) ≤ (w32 ((w32 ((s 1 3) + y4)) - y2)) → 0 ≤ (w32 ((w32 ((s 1 3) + y4)) - y2)) ∧ (w32 ((w32 ((s 1 3) + y4)) - y2)) < 400)
  (z5 : ∀ y1 : Int, ∀ y2 : Int, ∀ y3 : Int, ∀ y4 : Int, I23 y1 y2 y3 y4 → ¬ 105 ≤ y4 → ¬ ((mTx.getD y4.toNat 0 : Nat) : Int) = 32 → ¬ (s 1 4) ≤ (w32 ((w32 ((s 1 3) + y4)) - y2)) → (s 2 (w32 ((w32 ((s 1 3) + y4)) - y2)).toNat) = ((mTx.getD y4.toNat 0 : Nat) : Int) → I23 y1 y2 y3 (w32 (y4 + 1)) ∧ m23 y1 y2 y3 (w32 (y4 + 1)) < m23 y1 y2 y3 y4)
  (z6 : ∀ y1 : Int, ∀ y2 : Int, ∀ y3 : Int, ∀ y4 : Int, I23 y1 y2 y3 y4 → ¬ 105 ≤ y4 → ¬ ((mTx.getD y4.toNat 0 : Nat) : Int) = 32 → ¬ (s 1 4) ≤ (w32 ((w32 ((s 1 3) + y4)) - y2)) → ¬ (s 2 (w32 ((w32 ((s 1 3) + y4)) - y2)).toNat) = ((mTx.getD y4.toNat 0 : Nat) : Int) → I23 y1 y2 0 (w32 (y4 + 1)) ∧ m23 y1 y2 0 (w32 (y4 + 1)) < m23 y1 y2 y3 y4)
  (z7 : ∀ y1 : Int, ∀ y2 : Int, ∀ y3 : Int, ∀ y4 : Int, I23 y1 y2 y3 y4 → ¬ 105 ≤ y4 → ((mTx.getD y4.toNat 0 : Nat) : Int) = 32 → y3 = 0 → ¬ (s 1 2) = 257 → I23 (w32 (y1 + 1)) (w32 (y4 + 1)) 0 (w32 (y4 + 1)) ∧ m23 (w32 (y1 + 1)) (w32 (y4 + 1)) 0 (w32 (y4 + 1)) < m23 y1 y2 y3 y4)
  (z8 : ∀ y1 : Int, ∀ y2 : Int, ∀ y3 : Int, ∀ y4 : Int, I23 y1 y2 y3 y4 → ¬ 105 ≤ y4 → ((mTx.getD y4.toNat 0 : Nat) : Int) = 32 → y3 = 0 → (s 1 2) = 257 → I23 (w32 (y1 + 1)) (w32 (y4 + 1)) 1 (w32 (y4 + 1)) ∧ m23 (w32 (y1 + 1)) (w32 (y4 + 1)) 1 (w32 (y4 + 1)) < m23 y1 y2 y3 y4)
  (z9 : ∀ y1 : Int, ∀ y2 : Int, ∀ y3 : Int, ∀ y4 : Int, I23 y1 y2 y3 y4 → ¬ 105 ≤ y4 → ((mTx.getD y4.toNat 0 : Nat) : Int) = 32 → ¬ y3 = 0 → ¬ (w32 ((w32 ((s 1 3) + y4)) - y2)) = (s 1 4) → ¬ (s 1 2) = 257 → I23 (w32 (y1 + 1)) (w32 (y4 + 1)) 0 (w32 (y4 + 1)) ∧ m23 (w32 (y1 + 1)) (w32 (y4 + 1)) 0 (w32 (y4 + 1)) < m23 y1 y2 y3 y4)
  (z10 : ∀ y1 : Int, ∀ y2 : Int, ∀ y3 : Int, ∀ y4 : Int, I23 y1 y2 y3 y4 → ¬ 105 ≤ y4 → ((mTx.getD y4.toNat 0 : Nat) : Int) = 32 → ¬ y3 = 0 → ¬ (w32 ((w32 ((s 1 3) + y4)) - y2)) = (s 1 4) → (s 1 2) = 257 → I23 (w32 (y1 + 1)) (w32 (y4 + 1)) 1 (w32 (y4 + 1)) ∧ m23 (w32 (y1 + 1)) (w32 (y4 + 1)) 1 (w32 (y4 + 1)) < m23 y1 y2 y3 y4)
  (z11 : ∀ y1 : Int, ∀ y2 : Int, ∀ y3 : Int, ∀ y4 : Int, I23 y1 y2 y3 y4 → ¬ 105 ≤ y4 → ((mTx.getD y4.toNat 0 : Nat) : Int) = 32 → ¬ y3 = 0 → (w32 ((w32 ((s 1 3) + y4)) - y2)) = (s 1 4) → Q (some (mI y1)) s)
  (z12 : ¬ (s 1 2) = 257 → I23 0 0 0 0)
  (z13 : (s 1 2) = 257 → I23 0 0 1 0) :
  Sp X (d + 5) 91 [mR 1] s Q := by
  have L : ∀ k : Nat, (∀ (y1 : Int) (y2 : Int) (y3 : Int) (y4 : Int) (l5 : Option mV) (l6 : Option mV), I23 y1 y2 y3 y4 → m23 y1 y2 y3 y4 < k → Wp X (d + 5) 91 23 [some (mR 1), some (mI y1), some (mI y2), some (mI y3), some (mI y4), l5, l6] [] s Q) := by
    intro k
    induction k with
    | zero => exact fun _ _ _ _ _ _ _ h => absurd h (Nat.not_lt_zero _)
    | succ k ih => exact fun y1 y2 y3 y4 l5 l6 hI hm => b91_23 (fun q1 => b91_131 (z1 y1 y2 y3 y4 hI q1)) (fun q2 => b91_33 (z2 y1 y2 y3 y4 hI q2) (fun q3 => b91_102 (fun q4 => b91_123 (b91_125 (ih y1 y2 0 (w32 (y4 + 1)) (some (mI ((mTx.getD y4.toNat 0 : Nat) : Int))) (some (mI (w32 ((w32 ((s 1 3) + y4)) - y2)))) (z3 y1 y2 y3 y4 hI q2 q3 q4).1 (Nat.lt_of_lt_of_le (z3 y1 y2 y3 y4 hI q2 q3 q4).2 (Nat.le_of_lt_succ hm))))) (fun q5 => b91_111 (z4 y1 y2 y3 y4 hI q2 q3 q5) (fun q6 => b91_125 (ih y1 y2 y3 (w32 (y4 + 1)) (some (mI ((mTx.getD y4.toNat 0 : Nat) : Int))) (some (mI (w32 ((w32 ((s 1 3) + y4)) - y2)))) (z5 y1 y2 y3 y4 hI q2 q3 q5 q6).1 (Nat.lt_of_lt_of_le (z5 y1 y2 y3 y4 hI q2 q3 q5 q6).2 (Nat.le_of_lt_succ hm)))) (fun q7 => b91_123 (b91_125 (ih y1 y2 0 (w32 (y4 + 1)) (some (mI ((mTx.getD y4.toNat 0 : Nat) : Int))) (some (mI (w32 ((w32 ((s 1 3) + y4)) - y2)))) (z6 y1 y2 y3 y4 hI q2 q3 q5 q7).1 (Nat.lt_of_lt_of_le (z6 y1 y2 y3 y4 hI q2 q3 q5 q7).2 (Nat.le_of_lt_succ hm))))))) (fun q8 => b91_60 (fun q9 => b91_75 (fun q10 => b91_97 (b91_98 (b91_125 (ih (w32 (y1 + 1)) (w32 (y4 + 1)) 0 (w32 (y4 + 1)) (some (mI ((mTx.getD y4.toNat 0 : Nat) : Int))) (some (mI (w32 ((w32 ((s 1 3) + y4)) - y2)))) (z7 y1 y2 y3 y4 hI q2 q8 q9 q10).1 (Nat.lt_of_lt_of_le (z7 y1 y2 y3 y4 hI q2 q8 q9 q10).2 (Nat.le_of_lt_succ hm)))))) (fun q11 => b91_93 (b91_98 (b91_125 (ih (w32 (y1 + 1)) (w32 (y4 + 1)) 1 (w32 (y4 + 1)) (some (mI ((mTx.getD y4.toNat 0 : Nat) : Int))) (some (mI (w32 ((w32 ((s 1 3) + y4)) - y2)))) (z8 y1 y2 y3 y4 hI q2 q8 q9 q11).1 (Nat.lt_of_lt_of_le (z8 y1 y2 y3 y4 hI q2 q8 q9 q11).2 (Nat.le_of_lt_succ hm))))))) (fun q12 => b91_64 (fun q13 => b91_75 (fun q14 => b91_97 (b91_98 (b91_125 (ih (w32 (y1 + 1)) (w32 (y4 + 1)) 0 (w32 (y4 + 1)) (some (mI ((mTx.getD y4.toNat 0 : Nat) : Int))) (some (mI (w32 ((w32 ((s 1 3) + y4)) - y2)))) (z9 y1 y2 y3 y4 hI q2 q8 q12 q13 q14).1 (Nat.lt_of_lt_of_le (z9 y1 y2 y3 y4 hI q2 q8 q12 q13 q14).2 (Nat.le_of_lt_succ hm)))))) (fun q15 => b91_93 (b91_98 (b91_125 (ih (w32 (y1 + 1)) (w32 (y4 + 1)) 1 (w32 (y4 + 1)) (some (mI ((mTx.getD y4.toNat 0 : Nat) : Int))) (some (mI (w32 ((w32 ((s 1 3) + y4)) - y2)))) (z10 y1 y2 y3 y4 hI q2 q8 q12 q13 q15).1 (Nat.lt_of_lt_of_le (z10 y1 y2 y3 y4 hI q2 q8 q12 q13 q15).2 (Nat.le_of_lt_succ hm))))))) (fun q16 => b91_73 (z11 y1 y2 y3 y4 hI q2 q8 q12 q16)))))
  exact e91 (b91_0 (fun q17 => b91_18 (b91_19 ((L (m23 0 0 0 0 + 1)) 0 0 0 0 none none (z12 q17) (Nat.lt_succ_self _)))) (fun q18 => b91_14 (b91_19 ((L (m23 0 0 1 0 + 1)) 0 0 1 0 none none (z13 q18) (Nat.lt_succ_self _)))))

theorem c91 {X : (Nat → Int) × Nat} {d : Nat} {s : mSt} {Q : mQ} (p1 : 0 ≤ s 1 3 ∧ s 1 3 ≤ s 1 4 ∧ s 1 4 ≤ 400) (k : Q (some (mI (wnC s))) s) : Sp X (d + 5) 91 [mR 1] s Q := by
  let T := s 2
  let a := (s 1 3).toNat
  let p := (s 1 4).toNat
  have ea : s 1 3 = (a : Int) := by show s 1 3 = ((s 1 3).toNat : Int); omega
  have ep : s 1 4 = (p : Int) := by show s 1 4 = ((s 1 4).toNat : Int); omega
  have hp : p ≤ 400 := by show (s 1 4).toNat ≤ 400; omega
  let AL : Nat → Nat → Prop := fun k j => s 1 2 = 257 ∧ ∀ i, i < j → a + i < p ∧ T (a + i) = (chW k i : Int)
  let J : Int → Int → Int → Int → Prop := fun y1 y2 y3 y4 => ∃ k j : Nat, y1 = k ∧ k ≤ 19 ∧ y2 = (stW k : Int) ∧ y4 = ((stW k + j : Nat) : Int) ∧ (k < 19 → j ≤ lnW k) ∧ (k = 19 → j = 0) ∧ ((y3 = 1 ∧ AL k j) ∨ (y3 = 0 ∧ ¬ AL k j)) ∧ ∀ i, i < k → ¬ (s 1 2 = 257 ∧ isWb T a p i = true)
  have wf : ∀ k : Nat, k < 19 → (1 ≤ lnW k ∧ lnW k ≤ 9) ∧ stW k + lnW k < 105 ∧ chW k (lnW k) = 32 ∧ ∀ j, j < lnW k → 97 ≤ chW k j ∧ chW k j ≤ 122 := fun k hk => by
    have q := wd_f ⟨k, hk⟩
    simp only at q
    exact ⟨q.1, q.2.1, q.2.2.1, fun j hj => q.2.2.2 ⟨j, by omega⟩ hj⟩
  have lt19 : ∀ (k j : Nat), k ≤ 19 → (k = 19 → j = 0) → ¬ 105 ≤ ((stW k + j : Nat) : Int) → k < 19 := fun k j h1 h2 h3 => by
    by_cases z : k = 19
    · rw [z, wd_e] at h3; omega
    · omega
  have here : ∀ k j : Nat, k < 19 → j ≤ lnW k → w32 (w32 (s 1 3 + ((stW k + j : Nat) : Int)) - (stW k : Int)) = ((a + j : Nat) : Int) := fun k j hk hj => by
    have := wf k hk
    rw [ea, w32_of (x := (a : Int) + _) (by omega), w32_of (by omega)]; omega
  have nextW : ∀ (k j : Nat), k < 19 → j = lnW k → (∀ i, i < k → ¬ (s 1 2 = 257 ∧ isWb T a p i = true)) → ¬ (s 1 2 = 257 ∧ isWb T a p k = true) → (¬ s 1 2 = 257 → J (w32 ((k : Int) + 1)) (w32 (((stW k + j : Nat) : Int) + 1)) 0 (w32 (((stW k + j : Nat) : Int) + 1)) ∧ (200 - w32 (((stW k + j : Nat) : Int) + 1)).toNat < (200 - ((stW k + j : Nat) : Int)).toNat) ∧ (s 1 2 = 257 → J (w32 ((k : Int) + 1)) (w32 (((stW k + j : Nat) : Int) + 1)) 1 (w32 (((stW k + j : Nat) : Int) + 1)) ∧ (200 - w32 (((stW k + j : Nat) : Int) + 1)).toNat < (200 - ((stW k + j : Nat) : Int)).toNat) := fun k j hk hj hv hz => by
    have f := wf k hk
    have es : stW (k + 1) = stW k + lnW k + 1 := rfl
    rw [w32_of (x := (k : Int) + 1) (by omega), w32_of (by omega)]
    have hv' : ∀ i, i < k + 1 → ¬ (s 1 2 = 257 ∧ isWb T a p i = true) := fun i hi => by
      by_cases y : i = k
      · rw [y]; exact hz
      · exact hv i (by omega)
    refine ⟨fun q => ⟨⟨k + 1, 0, by omega, by omega, by omega, by omega, fun _ => by omega, fun _ => rfl, Or.inr ⟨rfl, fun w => q w.1⟩, hv'⟩, by omega⟩, fun q => ⟨⟨k + 1, 0, by omega, by omega, by omega, by omega, fun _ => by omega, fun _ => rfl, Or.inl ⟨rfl, q, fun i hi => by omega⟩, hv'⟩, by omega⟩⟩
  have sp : ∀ k j : Nat, k < 19 → j ≤ lnW k → (((mTx.getD (((stW k + j : Nat) : Int)).toNat 0 : Nat) : Int) = 32 ↔ j = lnW k) ∧ ((mTx.getD (((stW k + j : Nat) : Int)).toNat 0 : Nat) : Int) = (chW k j : Int) := fun k j hk hj => by
    have f := wf k hk
    rw [tnc]
    have e : mTx.getD (stW k + j) 0 = chW k j := rfl
    rw [e]
    refine ⟨⟨fun z => ?_, fun z => by rw [z, f.2.2.1]; rfl⟩, rfl⟩
    by_cases y : j < lnW k
    · have := f.2.2.2 j y; omega
    · omega
  refine v91 J (fun _ _ _ y => (200 - y).toNat) ?_ ?_ ?_ ?_ ?_ ?_ ?_ ?_ ?_ ?_ ?_ (fun z => ⟨0, 0, rfl, by omega, rfl, rfl, fun _ => by omega, fun w => by omega, Or.inr ⟨rfl, fun w => z w.1⟩, fun i hi => by omega⟩) (fun z => ⟨0, 0, rfl, by omega, rfl, rfl, fun _ => by omega, fun w => by omega, Or.inl ⟨rfl, z, fun i hi => by omega⟩, fun i hi => by omega⟩)
  · rintro _ _ y3 _ ⟨k', j, rfl, hk, rfl, rfl, hj, hj0, ha, hv⟩ hc
    have e : k' = 19 := by
      by_cases y : k' < 19
      · have f := wf k' y
        have := hj y
        omega
      · omega
    subst e
    have ew : wnC s = -1 := by
      unfold wnC
      by_cases z : s 1 2 = 257
      · rw [if_pos z]
        have : fd (isWb T a p) 19 < 0 := fd_neg.2 (fun i hi => Bool.eq_false_iff.2 (fun w => hv i hi ⟨z, w⟩))
        have g := fd_ge (f := isWb T a p) (n := 19)
        show fd (isWb T a p) 19 = -1
        omega
      · rw [if_neg z]
    rw [ew] at k; exact k
  · rintro _ _ y3 _ ⟨k', j, rfl, hk, rfl, rfl, hj, hj0, ha, hv⟩ hc
    omega
  · rintro _ _ y3 _ ⟨k', j, rfl, hk, rfl, rfl, hj, hj0, ha, hv⟩ hc q q2
    have hk' := lt19 k' j hk hj0 hc
    have f := wf k' hk'
    rw [here k' j hk' (hj hk'), ep] at q2
    rw [(sp k' j hk' (hj hk')).1] at q
    have := hj hk'
    rw [w32_of (by omega)]
    exact ⟨⟨k', j + 1, rfl, hk, rfl, by omega, fun _ => by omega, fun w => by omega, Or.inr ⟨rfl, fun w => by have := (w.2 j (by omega)).1; omega⟩, hv⟩, by omega⟩
  · rintro _ _ y3 _ ⟨k', j, rfl, hk, rfl, rfl, hj, hj0, ha, hv⟩ hc q q2
    have hk' := lt19 k' j hk hj0 hc
    rw [here k' j hk' (hj hk')] at q2 ⊢
    omega
  · rintro _ _ y3 _ ⟨k', j, rfl, hk, rfl, rfl, hj, hj0, ha, hv⟩ hc q q2 q3
    have hk' := lt19 k' j hk hj0 hc
    have f := wf k' hk'
    rw [here k' j hk' (hj hk'), ep] at q2
    rw [here k' j hk' (hj hk'), tnc, (sp k' j hk' (hj hk')).2] at q3
    rw [(sp k' j hk' (hj hk')).1] at q
    have := hj hk'
    rw [w32_of (by omega)]
    refine ⟨⟨k', j + 1, rfl, hk, rfl, by omega, fun _ => by omega, fun w => by omega, ?_, hv⟩, by omega⟩
    rcases ha with ⟨y, w1, w2⟩ | ⟨y, w⟩
    · refine Or.inl ⟨y, w1, fun i hi => ?_⟩
      by_cases z : i = j
      · rw [z]; exact ⟨by omega, q3⟩
      · exact w2 i (by omega)
    · exact Or.inr ⟨y, fun v => w ⟨v.1, fun i hi => v.2 i (by omega)⟩⟩
  · rintro _ _ y3 _ ⟨k', j, rfl, hk, rfl, rfl, hj, hj0, ha, hv⟩ hc q q2 q3
    have hk' := lt19 k' j hk hj0 hc
    have f := wf k' hk'
    rw [here k' j hk' (hj hk'), tnc, (sp k' j hk' (hj hk')).2] at q3
    rw [(sp k' j hk' (hj hk')).1] at q
    have := hj hk'
    rw [w32_of (by omega)]
    exact ⟨⟨k', j + 1, rfl, hk, rfl, by omega, fun _ => by omega, fun w => by omega, Or.inr ⟨rfl, fun w => q3 (w.2 j (by omega)).2⟩, hv⟩, by omega⟩
  · rintro _ _ y3 _ ⟨k', j, rfl, hk, rfl, rfl, hj, hj0, ha, hv⟩ hc q q2 q3
    have hk' := lt19 k' j hk hj0 hc
    rw [(sp k' j hk' (hj hk')).1] at q
    exact (nextW k' j hk' q hv (fun w => q3 w.1)).1 q3
  · rintro _ _ y3 _ ⟨k', j, rfl, hk, rfl, rfl, hj, hj0, ha, hv⟩ hc q q2 q3
    have hk' := lt19 k' j hk hj0 hc
    rw [(sp k' j hk' (hj hk')).1] at q
    refine (nextW k' j hk' q hv (fun w => ?_)).2 q3
    rcases ha with y | y
    · omega
    · have z := isWb_i.1 w.2
      exact y.2 ⟨q3, fun i hi => ⟨by omega, z.2 i (by omega)⟩⟩
  · rintro _ _ y3 _ ⟨k', j, rfl, hk, rfl, rfl, hj, hj0, ha, hv⟩ hc q q2 q3 q4
    have hk' := lt19 k' j hk hj0 hc
    rw [(sp k' j hk' (hj hk')).1] at q
    exact (nextW k' j hk' q hv (fun w => q4 w.1)).1 q4
  · rintro _ _ y3 _ ⟨k', j, rfl, hk, rfl, rfl, hj, hj0, ha, hv⟩ hc q q2 q3 q4
    have hk' := lt19 k' j hk hj0 hc
    rw [(sp k' j hk' (hj hk')).1] at q
    rw [here k' j hk' (hj hk'), ep] at q3
    refine (nextW k' j hk' q hv (fun w => ?_)).2 q4
    have z := isWb_i.1 w.2
    omega
  · rintro _ _ y3 _ ⟨k', j, rfl, hk, rfl, rfl, hj, hj0, ha, hv⟩ hc q q2 q3
    have hk' := lt19 k' j hk hj0 hc
    rw [(sp k' j hk' (hj hk')).1] at q
    rw [here k' j hk' (hj hk'), ep] at q3
    rcases ha with ⟨_, w1, w2⟩ | ⟨y, _⟩
    · have iw : isWb T a p k' = true := isWb_i.2 ⟨by omega, fun i hi => (w2 i (by omega)).2⟩
      have ew : wnC s = (k' : Int) := by
        unfold wnC
        rw [if_pos w1]
        exact fd_eq (f := isWb T a p) hk' iw (fun i hi => Bool.eq_false_iff.2 (fun w => hv i hi ⟨w1, w⟩))
      rw [ew] at k; exact k
    · exact absurd y q2
def flC (s : mSt) (x : Int) : mSt := if s 1 6 = 0 then uS s 1 6 (1 + 8 * s 1 3 + x) else s
theorem v94 {X : (Nat → Int) × Nat} {d : Nat} {s : mSt} {Q : mQ} {x1 : Int}
  (z1 : ¬ (s 1 6) = 0 → Q (some (mI 0)) s)
  (z2 : (s 1 6) = 0 → ∀ t3 : mSt, t3 = uS s 1 6 (w32 ((w32 (1 + (w32 (8 * (s 1 3))))) + x1)) → Q (some (mI 0)) t3) :
  Sp X d 94 [mR 1, mI x1] s Q := e94 (b94_0 (fun q1 => b94_22 (z1 q1)) (fun q2 => b94_7 (Wp_gen (fun t3 e3 => b94_22 (z2 q2 t3 e3)))))

theorem c94 {X : (Nat → Int) × Nat} {d : Nat} {s : mSt} {Q : mQ} {x1 : Int} (p1 : (0 ≤ s 1 3 ∧ s 1 3 ≤ 400) ∧ (0 ≤ x1 ∧ x1 ≤ 4)) (k : ∀ (v : Int) (t : mSt), (v = 0 ∧ t = flC s x1) → Q (some (mI v)) t) : Sp X d 94 [mR 1, mI x1] s Q := by
  refine v94 (fun z => k _ s ⟨rfl, by unfold flC; rw [if_neg z]⟩) (fun z t ht => k _ t ⟨rfl, ?_⟩)
  rw [w32_of (x := 8 * s 1 3) (by omega), w32_of (x := 1 + 8 * s 1 3) (by omega), w32_of (by omega)] at ht
  unfold flC; rw [if_pos z]; exact ht
/-- what is wrong with a token as a number -/
def nfC (s : mSt) (l m : Int) : Int := if s 1 2 = 256 then (if s 1 4 - s 1 3 ≤ 5 ∧ l ≤ s 1 5 ∧ s 1 5 ≤ m then -1 else 1) else 0
theorem v95 {X : (Nat → Int) × Nat} {d : Nat} {s : mSt} {Q : mQ} {x1 : Int} {x2 : Int}
  (z1 : (s 1 2) = 256 → (w32 ((s 1 4) - (s 1 3))) ≤ 5 → (s 1 5) < x1 → Q (some (mI 1)) s)
  (z2 : (s 1 2) = 256 → (w32 ((s 1 4) - (s 1 3))) ≤ 5 → ¬ (s 1 5) < x1 → (s 1 5) ≤ x2 → Q (some (mI (-1))) s)
  (z3 : (s 1 2) = 256 → (w32 ((s 1 4) - (s 1 3))) ≤ 5 → ¬ (s 1 5) < x1 → ¬ (s 1 5) ≤ x2 → Q (some (mI 1)) s)
  (z4 : (s 1 2) = 256 → ¬ (w32 ((s 1 4) - (s 1 3))) ≤ 5 → Q (some (mI 1)) s)
  (z5 : ¬ (s 1 2) = 256 → Q (some (mI 0)) s) :
  Sp X d 95 [mR 1, mI x1, mI x2] s Q := e95 (b95_0 (fun q1 => b95_12 (fun q2 => b95_29 (b95_30 (fun q => absurd q (by decide)) (fun _ => b95_35 (fun q3 => b95_51 (b95_56 (z1 q1 q2 q3))) (fun q4 => b95_43 (fun q5 => b95_55 (b95_56 (z2 q1 q2 q4 q5))) (fun q6 => b95_51 (b95_56 (z3 q1 q2 q4 q6))))))) (fun q7 => b95_25 (b95_30 (fun _ => b95_51 (b95_56 (z4 q1 q7))) (fun q => absurd q (by decide))))) (fun q8 => b95_10 (z5 q8)))

theorem c95 {X : (Nat → Int) × Nat} {d : Nat} {s : mSt} {Q : mQ} {x1 : Int} {x2 : Int} (p1 : 0 ≤ s 1 3 ∧ s 1 3 ≤ s 1 4 ∧ s 1 4 ≤ 400) (k : Q (some (mI (nfC s x1 x2))) s) : Sp X d 95 [mR 1, mI x1, mI x2] s Q := by
  have e : w32 (s 1 4 - s 1 3) = s 1 4 - s 1 3 := w32_of (by omega)
  unfold nfC at k
  refine v95 (fun z z2 z3 => ?_) (fun z z2 z3 z4 => ?_) (fun z z2 z3 z4 => ?_) (fun z z2 => ?_) (fun z => ?_)
  · rw [if_pos z, if_neg (by omega)] at k; exact k
  · rw [e] at z2; rw [if_pos z, if_pos (by omega)] at k; exact k
  · rw [if_pos z, if_neg (by omega)] at k; exact k
  · rw [e] at z2; rw [if_pos z, if_neg (by omega)] at k; exact k
  · rw [if_neg z] at k; exact k
/-- the tape stands at a token -/
def nO (s : mSt) : Nat := (s 1 1).toNat
def aO (s : mSt) : Nat := (s 1 3).toNat
def TSq (s : mSt) : Prop := BYq s ∧ (0 ≤ s 1 1 ∧ s 1 1 ≤ 400) ∧ (0 ≤ s 1 3 ∧ s 1 3 ≤ s 1 1) ∧ sk (s 2) (nO s) (aO s) = aO s ∧ TKq (s 2) (nO s) (aO s) s
theorem sk_sk (T : Nat → Int) (n : Nat) : ∀ f i, n - i ≤ f → sk T n (sk T n i) = sk T n i
  | 0, i, h => by
    have e : sk T n i = i := by unfold sk; rw [rnT_e, if_neg (by omega)]
    rw [e, e]
  | f + 1, i, h => by
    by_cases z : i < n ∧ decide (T i = 32) = true
    · have e : sk T n i = sk T n (i + 1) := by unfold sk; rw [rnT_e, if_pos z]
      rw [e]; exact sk_sk T n f (i + 1) (by omega)
    · have e : sk T n i = i := by unfold sk; rw [rnT_e, if_neg z]
      rw [e, e]
theorem tkP_b (T : Nat → Int) {n a : Nat} (h : a ≤ n) : a ≤ tkP T n a ∧ tkP T n a ≤ n ∧ (a < n → a < tkP T n a) := by
  unfold tkP
  by_cases z : n ≤ a
  · rw [if_pos z]; omega
  · rw [if_neg z]
    by_cases z1 : isL T a = true
    · rw [if_pos z1]
      have e : leT T n a = leT T n (a + 1) := by unfold leT; rw [rnT_e, if_pos ⟨by omega, z1⟩]
      have b := rnT_b (isL T) n (a + 1)
      have b2 : a + 1 ≤ leT T n (a + 1) ∧ leT T n (a + 1) ≤ n := ⟨b.1, b.2 (by omega)⟩
      rw [e]; omega
    · rw [if_neg z1]
      by_cases z2 : isD T a = true
      · rw [if_pos z2]
        have e : deT T n a = deT T n (a + 1) := by unfold deT; rw [rnT_e, if_pos ⟨by omega, z2⟩]
        have b := rnT_b (isD T) n (a + 1)
        have b2 : a + 1 ≤ deT T n (a + 1) ∧ deT T n (a + 1) ≤ n := ⟨b.1, b.2 (by omega)⟩
        rw [e]; omega
      · rw [if_neg z2]
        by_cases z3 : (a + 1 < n ∧ T (a + 1) = 61) ∧ T a = 60
        · rw [if_pos z3]; omega
        · rw [if_neg z3]
          by_cases z4 : (a + 1 < n ∧ T (a + 1) = 61) ∧ T a = 62
          · rw [if_pos z4]; omega
          · rw [if_neg z4]; omega
/-- the next token's place -/
def nxA (T : Nat → Int) (n a : Nat) : Nat := sk T n (tkP T n a)
theorem nxA_b (T : Nat → Int) {n a : Nat} (h : a ≤ n) : a ≤ nxA T n a ∧ nxA T n a ≤ n ∧ (a < n → a < nxA T n a) := by
  have b := tkP_b T h
  have c := rnT_b (fun k => decide (T k = 32)) n (tkP T n a)
  have c1 : tkP T n a ≤ nxA T n a := c.1
  have c2 : nxA T n a ≤ n := c.2 (by omega)
  exact ⟨by omega, c2, fun z => by have := b.2.2 z; omega⟩
theorem ts_b {s : mSt} (h : TSq s) : aO s ≤ nO s ∧ nO s ≤ 400 ∧ s 1 3 = (aO s : Int) ∧ s 1 1 = (nO s : Int) ∧ s 1 4 = (tkP (s 2) (nO s) (aO s) : Int) ∧ (0 ≤ s 1 3 ∧ s 1 3 ≤ s 1 4 ∧ s 1 4 ≤ s 1 1) := by
  have h1 := h.2.1
  have h2 := h.2.2.1
  have e4 := h.2.2.2.2.2.2.1
  have b := tkP_b (s 2) (n := nO s) (a := aO s) (by unfold nO aO; omega)
  unfold aO nO at *
  refine ⟨by omega, by omega, by omega, by omega, e4, by omega⟩
/-- the tape stands at a place of the same text -/
def TSa (s t : mSt) (a : Nat) : Prop := TSq t ∧ t 2 = s 2 ∧ t 1 1 = s 1 1 ∧ aO t = a
theorem ts_scan {s t : mSt} (h : TSq s) (q : TKq (s 2) (s 1 1).toNat (sk (s 2) (s 1 1).toNat (s 1 4).toNat) t ∧ f1 s t) : TSa s t (nxA (s 2) (nO s) (aO s)) ∧ t 1 6 = s 1 6 := by
  have b := ts_b h
  have e2 : t 2 = s 2 := q.2.1 2 (by decide)
  have e1 : t 1 1 = s 1 1 := q.2.2 1 (by decide)
  have en : nO t = nO s := by unfold nO; rw [e1]
  have e4 : (s 1 4).toNat = tkP (s 2) (nO s) (aO s) := by omega
  have q1 : TKq (s 2) (nO s) (nxA (s 2) (nO s) (aO s)) t := by
    have := q.1
    rw [e4] at this; exact this
  have ea : aO t = nxA (s 2) (nO s) (aO s) := by show (t 1 3).toNat = _; rw [q1.1, tnc]
  have nb := nxA_b (s 2) (n := nO s) (a := aO s) b.1
  refine ⟨⟨⟨?_, by rw [e1]; exact h.2.1, ?_, ?_, ?_⟩, e2, e1, ea⟩, q.2.2 6 (by decide)⟩
  · unfold BYq; rw [e2]; exact h.1
  · rw [q1.1, e1, b.2.2.2.1]; omega
  · rw [e2, en, ea]; exact sk_sk _ _ _ _ (Nat.le_refl _)
  · rw [e2, en, ea]; exact q1
theorem v89 {X : (Nat → Int) × Nat} {d : Nat} {s : mSt} {Q : mQ}
  (z1 : ∀ t1 : mSt, t1 = uS (uS s 1 4 0) 1 6 0 → (0 ≤ t1 1 4 ∧ t1 1 4 ≤ t1 1 1 ∧ t1 1 1 ≤ 400) ∧ BYq t1)
  (z2 : ∀ t1 : mSt, t1 = uS (uS s 1 4 0) 1 6 0 → ∀ s2 : mSt, (TKq (t1 2) (t1 1 1).toNat (sk (t1 2) (t1 1 1).toNat (t1 1 4).toNat) s2 ∧ f1 t1 s2) → Q none s2) :
  Sp X (d + 1) 89 [mR 1] s Q := e89 (b89_0 (Sp_gen (fun t1 e1 => (c90 (z1 t1 e1) (fun s2 q2 => ⟨rfl, b89_14 (z2 t1 e1 s2 q2)⟩)))))

theorem c89 {X : (Nat → Int) × Nat} {d : Nat} {s : mSt} {Q : mQ} (p1 : (0 ≤ s 1 1 ∧ s 1 1 ≤ 400) ∧ BYq s) (k : ∀ t : mSt, (TSa s t (sk (s 2) (nO s) 0) ∧ t 1 6 = 0 ∧ ∀ b, b ≠ 1 → t b = s b) → Q none t) : Sp X (d + 1) 89 [mR 1] s Q := by
  obtain ⟨h1, hby⟩ := p1
  have cu : ∀ t1 : mSt, t1 = uS (uS s 1 4 0) 1 6 0 → t1 1 1 = s 1 1 ∧ t1 1 4 = 0 ∧ t1 1 6 = 0 ∧ ∀ b, b ≠ 1 → t1 b = s b := fun t1 ht => by
    rw [ht]
    exact ⟨by rw [uS_at, if_neg (by decide), uS_at, if_neg (by decide)], by rw [uS_at, if_neg (by decide), uS_at, if_pos rfl], by rw [uS_at, if_pos rfl], fun b hb => by rw [uS_cell hb, uS_cell hb]⟩
  refine v89 (fun t1 ht => ?_) (fun t1 ht t hq => ?_)
  · have c := cu t1 ht
    rw [c.1, c.2.1]
    exact ⟨by omega, by unfold BYq; rw [c.2.2.2 2 (by decide)]; exact hby⟩
  · have c := cu t1 ht
    have e2 : t 2 = s 2 := (hq.2.1 2 (by decide)).trans (c.2.2.2 2 (by decide))
    have e1 : t 1 1 = s 1 1 := (hq.2.2 1 (by decide)).trans c.1
    have q1 : TKq (s 2) (nO s) (sk (s 2) (nO s) 0) t := by
      have := hq.1
      rw [c.2.2.2 2 (by decide), c.1, c.2.1] at this; exact this
    have ea : aO t = sk (s 2) (nO s) 0 := by show (t 1 3).toNat = _; rw [q1.1, tnc]
    have en : nO t = nO s := by unfold nO; rw [e1]
    have nb := rnT_b (fun k => decide (s 2 k = 32)) (nO s) 0
    have nb2 : sk (s 2) (nO s) 0 ≤ nO s := nb.2 (by omega)
    refine k t ⟨⟨⟨by unfold BYq; rw [e2]; exact hby, by rw [e1]; exact h1, ?_, ?_, ?_⟩, e2, e1, ea⟩, (hq.2.2 6 (by decide)).trans c.2.2.1, fun b hb => (hq.2.1 b hb).trans (c.2.2.2 b hb)⟩
    · rw [q1.1, e1]
      have : (nO s : Int) = s 1 1 := by unfold nO; omega
      omega
    · rw [e2, en, ea]; exact sk_sk _ _ _ _ (Nat.le_refl _)
    · rw [e2, en, ea]; exact q1
