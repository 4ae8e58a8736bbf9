/-! copies -/
theorem nt_ne {a b : Nat} (h : isNt a) (h' : isNt b) (hn : a ≠ b) : a + 3 < b ∨ b + 3 < a := (show ∀ a ∈ ntL, ∀ b ∈ ntL, a ≠ b → a + 3 < b ∨ b + 3 < a by decide +kernel) a h b h' hn
theorem v53 {X : (Nat → Int) × Nat} {d : Nat} {s : mSt} {Q : mQ} {a0 : Nat} {a1 : Nat} (h0 : isNt a0) (h1 : isNt a1)
  (z1 : Q none (cS (cS (cS (uS s a0 0 (s a1 0)) (a1 + 1) 0 (a0 + 1) 0 10) (a1 + 2) 0 (a0 + 2) 0 10) (a1 + 3) 0 (a0 + 3) 0 10)) :
  Sp X (d + 1) 53 [mR a0, mR a1] s Q := e53 (b53_0 h0 h1 z1)

theorem c53 {X : (Nat → Int) × Nat} {d : Nat} {s : mSt} {Q : mQ} {a0 : Nat} {a1 : Nat} (h0 : isNt a0) (h1 : isNt a1) (p1 : a0 ≠ a1) (k : ∀ t : mSt, (t a0 0 = s a1 0 ∧ (∀ i, i < 10 → t (a0 + 1) i = s (a1 + 1) i ∧ t (a0 + 2) i = s (a1 + 2) i ∧ t (a0 + 3) i = s (a1 + 3) i) ∧ ∀ b, ¬ (a0 ≤ b ∧ b ≤ a0 + 3) → t b = s b) → Q none t) : Sp X (d + 1) 53 [mR a0, mR a1] s Q := by
  have hp := nt_ne h0 h1 p1
  refine v53 h0 h1 (k _ ⟨?_, fun i hi => ⟨?_, ?_, ?_⟩, fun b hb => ?_⟩)
  · rw [cS_cell (by omega), cS_cell (by omega), cS_cell (by omega), uS_at, if_pos rfl]
  · rw [cS_cell (by omega), cS_cell (by omega), cS_at, if_pos (by omega), uS_cell (by omega), show 0 + (i - 0) = i by omega]
  · rw [cS_cell (by omega), cS_at, if_pos (by omega), cS_cell (by omega), uS_cell (by omega), show 0 + (i - 0) = i by omega]
  · rw [cS_at, if_pos (by omega), cS_cell (by omega), cS_cell (by omega), uS_cell (by omega), show 0 + (i - 0) = i by omega]
  · rw [cS_cell (by omega), cS_cell (by omega), cS_cell (by omega), uS_cell (by omega)]
