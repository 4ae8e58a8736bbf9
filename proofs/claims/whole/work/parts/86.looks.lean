/-! looking ahead by the notes -/
theorem v56 {X : (Nat → Int) × Nat} {d : Nat} {s : mSt} {Q : mQ} {a0 : Nat} (h0 : isNt a0)
  (I4 : Int → Int → Prop) (m4 : Int → Int → Nat)
  (z1 : ∀ y1 : Int, ∀ y2 : Int, I4 y1 y2 → (s a0 0) ≤ y2 → Q (some (mI y1)) s)
  (z2 : ∀ y1 : Int, ∀ y2 : Int, I4 y1 y2 → ¬ (s a0 0) ≤ y2 → 0 ≤ y2 ∧ y2 < 10)
  (z3 : ∀ y1 : Int, ∀ y2 : Int, I4 y1 y2 → ¬ (s a0 0) ≤ y2 → I4 (iMax y1 (s (a0 + 1) y2.toNat)) (w32 (y2 + 1)) ∧ m4 (iMax y1 (s (a0 + 1) y2.toNat)) (w32 (y2 + 1)) < m4 y1 y2)
  (z4 : I4 (-1) 0) :
  Sp X (d + 1) 56 [mR a0] s Q := by
  have L : ∀ k : Nat, (∀ (y1 : Int) (y2 : Int), I4 y1 y2 → m4 y1 y2 < k → Wp X (d + 1) 56 4 [some (mR a0), some (mI y1), some (mI y2)] [] s Q) := by
    intro k
    induction k with
    | zero => exact fun _ _ _ h => absurd h (Nat.not_lt_zero _)
    | succ k ih => exact fun y1 y2 hI hm => b56_4 h0 (fun q1 => b56_29 h0 (z1 y1 y2 hI q1)) (fun q2 => b56_12 h0 (z2 y1 y2 hI q2) (ih (iMax y1 (s (a0 + 1) y2.toNat)) (w32 (y2 + 1)) (z3 y1 y2 hI q2).1 (Nat.lt_of_lt_of_le (z3 y1 y2 hI q2).2 (Nat.le_of_lt_succ hm))))
  exact e56 (b56_0 h0 ((L (m4 (-1) 0 + 1)) (-1) 0 z4 (Nat.lt_succ_self _)))

theorem c56 {X : (Nat → Int) × Nat} {d : Nat} {s : mSt} {Q : mQ} {a0 : Nat} (h0 : isNt a0) (p1 : NSq s a0 ∧ ∀ i, i < (s a0 0).toNat → 0 ≤ s (a0 + 1) i ∧ s (a0 + 1) i ≤ 9) (k : ∀ (v : Int) (t : mSt), (((∀ i, i < (s a0 0).toNat → s (a0 + 1) i ≤ v) ∧ (-1 ≤ v ∧ v ≤ 9)) ∧ t = s) → Q (some (mI v)) t) : Sp X (d + 1) 56 [mR a0] s Q := by
  obtain ⟨⟨hn, _⟩, ht⟩ := p1
  refine v56 h0 (fun y1 y2 => ∃ j : Nat, y2 = j ∧ j ≤ (s a0 0).toNat ∧ (∀ i, i < j → s (a0 + 1) i ≤ y1) ∧ (-1 ≤ y1 ∧ y1 ≤ 9)) (fun _ y => (11 - y).toNat) ?_ ?_ ?_ ?_
  · rintro y1 _ ⟨j, rfl, hj, ha, hb⟩ hc
    have : j = (s a0 0).toNat := by omega
    subst this
    exact k _ s ⟨⟨ha, hb⟩, rfl⟩
  · rintro y1 _ ⟨j, rfl, hj, ha, hb⟩ hc
    omega
  · rintro y1 _ ⟨j, rfl, hj, ha, hb⟩ hc
    have q := ht j (by omega)
    have em : iMax y1 (s (a0 + 1) j) = if y1 ≤ s (a0 + 1) j then s (a0 + 1) j else y1 := by unfold iMax; split <;> split <;> omega
    rw [tnc, w32_of (by omega), em]
    refine ⟨⟨j + 1, by omega, by omega, fun i hi => ?_, ?_⟩, by omega⟩
    · by_cases z : i = j
      · subst z; split <;> omega
      · have := ha i (by omega); split <;> omega
    · split <;> omega
  · exact ⟨0, rfl, by omega, fun i hi => by omega, by omega⟩
