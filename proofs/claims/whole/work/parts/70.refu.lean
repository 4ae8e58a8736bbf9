/-! turns: the reference -/
theorem Sp_gen {X : (Nat → Int) × Nat} {d mj : Nat} {as : List mV} {e : mSt} {Q : mQ} (h : ∀ t : mSt, t = e → Sp X d mj as t Q) : Sp X d mj as e Q := h e rfl
def fS (s t : mSt) : Prop := (∀ b, b ≠ 407 → b ≠ 415 → b ≠ 416 → t b = s b) ∧ ∀ j, j ≠ 18 → t 407 j = s 407 j
/-- by which number the reference chooses -/
def ruR (s : mSt) (a : Rw) : Nat → Int := if s 407 21 < 0 then fun _ => 1 else fun c => wrF (fcA a c) (sgR s (s 407 21).toNat) (E1r s (s 407 21).toNat) (E3r s (s 407 21).toNat) (s 412 (s 407 21).toNat).toNat 0
def FOq (s : mSt) : Prop := (-1 ≤ s 407 21 ∧ s 407 21 < 6) ∧ (0 ≤ s 407 21 → SKq s (s 407 21).toNat)
theorem ch7 {s t : mSt} {v0 v1 v2 v3 v4 v5 v6 : Int} (e : t = uS (uS (uS (uS (uS (uS (uS s 416 0 v0) 416 1 v1) 416 2 v2) 416 3 v3) 416 4 v4) 416 5 v5) 416 6 v6) : (∀ b, b ≠ 416 → t b = s b) ∧ t 416 0 = v0 ∧ t 416 1 = v1 ∧ t 416 2 = v2 ∧ t 416 3 = v3 ∧ t 416 4 = v4 ∧ t 416 5 = v5 ∧ t 416 6 = v6 := by
  subst e
  refine ⟨fun b hb => ?_, ?_⟩
  · rw [uS_cell hb, uS_cell hb, uS_cell hb, uS_cell hb, uS_cell hb, uS_cell hb, uS_cell hb]
  · simp only [uS_at]; simp
theorem sk_cells {s t : mSt} {r : Nat} (h : SKq s r) (e : ∀ b, 409 ≤ b ∧ b ≤ 412 → t b = s b) : SKq t r ∧ sgR t r = sgR s r ∧ E1r t r = E1r s r ∧ E3r t r = E3r s r := by
  have a1 : sgR t r = sgR s r := by funext i; unfold sgR; rw [e 409 (by decide)]
  have a2 : E1r t r = E1r s r := by funext i; unfold E1r; rw [e 411 (by decide)]
  have a3 : E3r t r = E3r s r := by funext i; unfold E3r; rw [e 411 (by decide)]
  refine ⟨?_, a1, a2, a3⟩
  unfold SKq at h ⊢
  rw [a1, a2, a3, e 412 (by decide), e 411 (by decide)]; exact h
def WQq (s : mSt) (x : Int) : Prop := Ok (s 417) ∧ (0 ≤ x ∧ x < s 417 4) ∧ 0 < (pA1 (s 417) x.toNat).1 ∧ PQ s (np (s 417)) (pA1 (s 417) x.toNat) ∧ (0 ≤ s 407 21 ∧ s 407 21 < 6) ∧ SKq s (s 407 21).toNat
theorem v249 {X : (Nat → Int) × Nat} {d : Nat} {s : mSt} {Q : mQ} {x1 : Int}
  (z1 : 0 ≤ (w32 (117 + x1)) ∧ (w32 (117 + x1)) < 166)
  (z2 : ∀ t1 : mSt, t1 = uS s 416 0 x1 → 0 ≤ ((uS s 416 0 x1) 417 (w32 (117 + x1)).toNat) ∧ ((uS s 416 0 x1) 417 (w32 (117 + x1)).toNat) < 1073741824)
  (z3 : ∀ t1 : mSt, t1 = uS s 416 0 x1 → 0 ≤ (w32 (123 + x1)) ∧ (w32 (123 + x1)) < 166)
  (z4 : ∀ t1 : mSt, t1 = uS s 416 0 x1 → 0 ≤ (w32 (129 + x1)) ∧ (w32 (129 + x1)) < 166)
  (z5 : ∀ t1 : mSt, t1 = uS s 416 0 x1 → ∀ t2 : mSt, t2 = uS (uS (uS (uS (uS (uS t1 416 (1 : Int).toNat (cn (bq ((uS s 416 0 x1) 417 (w32 (117 + x1)).toNat)) 30)) 416 2 ((uS t1 416 (1 : Int).toNat (cn (bq ((uS s 416 0 x1) 417 (w32 (117 + x1)).toNat)) 30)) 417 (w32 (123 + x1)).toNat)) 416 3 ((uS (uS t1 416 (1 : Int).toNat (cn (bq ((uS s 416 0 x1) 417 (w32 (117 + x1)).toNat)) 30)) 416 2 ((uS t1 416 (1 : Int).toNat (cn (bq ((uS s 416 0 x1) 417 (w32 (117 + x1)).toNat)) 30)) 417 (w32 (123 + x1)).toNat)) 417 (w32 (129 + x1)).toNat)) 416 4 ((uS (uS (uS t1 416 (1 : Int).toNat (cn (bq ((uS s 416 0 x1) 417 (w32 (117 + x1)).toNat)) 30)) 416 2 ((uS t1 416 (1 : Int).toNat (cn (bq ((uS s 416 0 x1) 417 (w32 (117 + x1)).toNat)) 30)) 417 (w32 (123 + x1)).toNat)) 416 3 ((uS (uS t1 416 (1 : Int).toNat (cn (bq ((uS s 416 0 x1) 417 (w32 (117 + x1)).toNat)) 30)) 416 2 ((uS t1 416 (1 : Int).toNat (cn (bq ((uS s 416 0 x1) 417 (w32 (117 + x1)).toNat)) 30)) 417 (w32 (123 + x1)).toNat)) 417 (w32 (129 + x1)).toNat)) 407 29)) 416 5 ((uS (uS (uS (uS t1 416 (1 : Int).toNat (cn (bq ((uS s 416 0 x1) 417 (w32 (117 + x1)).toNat)) 30)) 416 2 ((uS t1 416 (1 : Int).toNat (cn (bq ((uS s 416 0 x1) 417 (w32 (117 + x1)).toNat)) 30)) 417 (w32 (123 + x1)).toNat)) 416 3 ((uS (uS t1 416 (1 : Int).toNat (cn (bq ((uS s 416 0 x1) 417 (w32 (117 + x1)).toNat)) 30)) 416 2 ((uS t1 416 (1 : Int).toNat (cn (bq ((uS s 416 0 x1) 417 (w32 (117 + x1)).toNat)) 30)) 417 (w32 (123 + x1)).toNat)) 417 (w32 (129 + x1)).toNat)) 416 4 ((uS (uS (uS t1 416 (1 : Int).toNat (cn (bq ((uS s 416 0 x1) 417 (w32 (117 + x1)).toNat)) 30)) 416 2 ((uS t1 416 (1 : Int).toNat (cn (bq ((uS s 416 0 x1) 417 (w32 (117 + x1)).toNat)) 30)) 417 (w32 (123 + x1)).toNat)) 416 3 ((uS (uS t1 416 (1 : Int).toNat (cn (bq ((uS s 416 0 x1) 417 (w32 (117 + x1)).toNat)) 30)) 416 2 ((uS t1 416 (1 : Int).toNat (cn (bq ((uS s 416 0 x1) 417 (w32 (117 + x1)).toNat)) 30)) 417 (w32 (123 + x1)).toNat)) 417 (w32 (129 + x1)).toNat)) 407 29)) 407 30)) 416 6 ((uS (uS (uS (uS (uS t1 416 (1 : Int).toNat (cn (bq ((uS s 416 0 x1) 417 (w32 (117 + x1)).toNat)) 30)) 416 2 ((uS t1 416 (1 : Int).toNat (cn (bq ((uS s 416 0 x1) 417 (w32 (117 + x1)).toNat)) 30)) 417 (w32 (123 + x1)).toNat)) 416 3 ((uS (uS t1 416 (1 : Int).toNat (cn (bq ((uS s 416 0 x1) 417 (w32 (117 + x1)).toNat)) 30)) 416 2 ((uS t1 416 (1 : Int).toNat (cn (bq ((uS s 416 0 x1) 417 (w32 (117 + x1)).toNat)) 30)) 417 (w32 (123 + x1)).toNat)) 417 (w32 (129 + x1)).toNat)) 416 4 ((uS (uS (uS t1 416 (1 : Int).toNat (cn (bq ((uS s 416 0 x1) 417 (w32 (117 + x1)).toNat)) 30)) 416 2 ((uS t1 416 (1 : Int).toNat (cn (bq ((uS s 416 0 x1) 417 (w32 (117 + x1)).toNat)) 30)) 417 (w32 (123 + x1)).toNat)) 416 3 ((uS (uS t1 416 (1 : Int).toNat (cn (bq ((uS s 416 0 x1) 417 (w32 (117 + x1)).toNat)) 30)) 416 2 ((uS t1 416 (1 : Int).toNat (cn (bq ((uS s 416 0 x1) 417 (w32 (117 + x1)).toNat)) 30)) 417 (w32 (123 + x1)).toNat)) 417 (w32 (129 + x1)).toNat)) 407 29)) 416 5 ((uS (uS (uS (uS t1 416 (1 : Int).toNat (cn (bq ((uS s 416 0 x1) 417 (w32 (117 + x1)).toNat)) 30)) 416 2 ((uS t1 416 (1 : Int).toNat (cn (bq ((uS s 416 0 x1) 417 (w32 (117 + x1)).toNat)) 30)) 417 (w32 (123 + x1)).toNat)) 416 3 ((uS (uS t1 416 (1 : Int).toNat (cn (bq ((uS s 416 0 x1) 417 (w32 (117 + x1)).toNat)) 30)) 416 2 ((uS t1 416 (1 : Int).toNat (cn (bq ((uS s 416 0 x1) 417 (w32 (117 + x1)).toNat)) 30)) 417 (w32 (123 + x1)).toNat)) 417 (w32 (129 + x1)).toNat)) 416 4 ((uS (uS (uS t1 416 (1 : Int).toNat (cn (bq ((uS s 416 0 x1) 417 (w32 (117 + x1)).toNat)) 30)) 416 2 ((uS t1 416 (1 : Int).toNat (cn (bq ((uS s 416 0 x1) 417 (w32 (117 + x1)).toNat)) 30)) 417 (w32 (123 + x1)).toNat)) 416 3 ((uS (uS t1 416 (1 : Int).toNat (cn (bq ((uS s 416 0 x1) 417 (w32 (117 + x1)).toNat)) 30)) 416 2 ((uS t1 416 (1 : Int).toNat (cn (bq ((uS s 416 0 x1) 417 (w32 (117 + x1)).toNat)) 30)) 417 (w32 (123 + x1)).toNat)) 417 (w32 (129 + x1)).toNat)) 407 29)) 407 30)) 407 31) → Ok (t2 417) ∧ (0 ≤ x1 ∧ x1 < 6))
  (z6 : ∀ t1 : mSt, t1 = uS s 416 0 x1 → ∀ t2 : mSt, t2 = uS (uS (uS (uS (uS (uS t1 416 (1 : Int).toNat (cn (bq ((uS s 416 0 x1) 417 (w32 (117 + x1)).toNat)) 30)) 416 2 ((uS t1 416 (1 : Int).toNat (cn (bq ((uS s 416 0 x1) 417 (w32 (117 + x1)).toNat)) 30)) 417 (w32 (123 + x1)).toNat)) 416 3 ((uS (uS t1 416 (1 : Int).toNat (cn (bq ((uS s 416 0 x1) 417 (w32 (117 + x1)).toNat)) 30)) 416 2 ((uS t1 416 (1 : Int).toNat (cn (bq ((uS s 416 0 x1) 417 (w32 (117 + x1)).toNat)) 30)) 417 (w32 (123 + x1)).toNat)) 417 (w32 (129 + x1)).toNat)) 416 4 ((uS (uS (uS t1 416 (1 : Int).toNat (cn (bq ((uS s 416 0 x1) 417 (w32 (117 + x1)).toNat)) 30)) 416 2 ((uS t1 416 (1 : Int).toNat (cn (bq ((uS s 416 0 x1) 417 (w32 (117 + x1)).toNat)) 30)) 417 (w32 (123 + x1)).toNat)) 416 3 ((uS (uS t1 416 (1 : Int).toNat (cn (bq ((uS s 416 0 x1) 417 (w32 (117 + x1)).toNat)) 30)) 416 2 ((uS t1 416 (1 : Int).toNat (cn (bq ((uS s 416 0 x1) 417 (w32 (117 + x1)).toNat)) 30)) 417 (w32 (123 + x1)).toNat)) 417 (w32 (129 + x1)).toNat)) 407 29)) 416 5 ((uS (uS (uS (uS t1 416 (1 : Int).toNat (cn (bq ((uS s 416 0 x1) 417 (w32 (117 + x1)).toNat)) 30)) 416 2 ((uS t1 416 (1 : Int).toNat (cn (bq ((uS s 416 0 x1) 417 (w32 (117 + x1)).toNat)) 30)) 417 (w32 (123 + x1)).toNat)) 416 3 ((uS (uS t1 416 (1 : Int).toNat (cn (bq ((uS s 416 0 x1) 417 (w32 (117 + x1)).toNat)) 30)) 416 2 ((uS t1 416 (1 : Int).toNat (cn (bq ((uS s 416 0 x1) 417 (w32 (117 + x1)).toNat)) 30)) 417 (w32 (123 + x1)).toNat)) 417 (w32 (129 + x1)).toNat)) 416 4 ((uS (uS (uS t1 416 (1 : Int).toNat (cn (bq ((uS s 416 0 x1) 417 (w32 (117 + x1)).toNat)) 30)) 416 2 ((uS t1 416 (1 : Int).toNat (cn (bq ((uS s 416 0 x1) 417 (w32 (117 + x1)).toNat)) 30)) 417 (w32 (123 + x1)).toNat)) 416 3 ((uS (uS t1 416 (1 : Int).toNat (cn (bq ((uS s 416 0 x1) 417 (w32 (117 + x1)).toNat)) 30)) 416 2 ((uS t1 416 (1 : Int).toNat (cn (bq ((uS s 416 0 x1) 417 (w32 (117 + x1)).toNat)) 30)) 417 (w32 (123 + x1)).toNat)) 417 (w32 (129 + x1)).toNat)) 407 29)) 407 30)) 416 6 ((uS (uS (uS (uS (uS t1 416 (1 : Int).toNat (cn (bq ((uS s 416 0 x1) 417 (w32 (117 + x1)).toNat)) 30)) 416 2 ((uS t1 416 (1 : Int).toNat (cn (bq ((uS s 416 0 x1) 417 (w32 (117 + x1)).toNat)) 30)) 417 (w32 (123 + x1)).toNat)) 416 3 ((uS (uS t1 416 (1 : Int).toNat (cn (bq ((uS s 416 0 x1) 417 (w32 (117 + x1)).toNat)) 30)) 416 2 ((uS t1 416 (1 : Int).toNat (cn (bq ((uS s 416 0 x1) 417 (w32 (117 + x1)).toNat)) 30)) 417 (w32 (123 + x1)).toNat)) 417 (w32 (129 + x1)).toNat)) 416 4 ((uS (uS (uS t1 416 (1 : Int).toNat (cn (bq ((uS s 416 0 x1) 417 (w32 (117 + x1)).toNat)) 30)) 416 2 ((uS t1 416 (1 : Int).toNat (cn (bq ((uS s 416 0 x1) 417 (w32 (117 + x1)).toNat)) 30)) 417 (w32 (123 + x1)).toNat)) 416 3 ((uS (uS t1 416 (1 : Int).toNat (cn (bq ((uS s 416 0 x1) 417 (w32 (117 + x1)).toNat)) 30)) 416 2 ((uS t1 416 (1 : Int).toNat (cn (bq ((uS s 416 0 x1) 417 (w32 (117 + x1)).toNat)) 30)) 417 (w32 (123 + x1)).toNat)) 417 (w32 (129 + x1)).toNat)) 407 29)) 416 5 ((uS (uS (uS (uS t1 416 (1 : Int).toNat (cn (bq ((uS s 416 0 x1) 417 (w32 (117 + x1)).toNat)) 30)) 416 2 ((uS t1 416 (1 : Int).toNat (cn (bq ((uS s 416 0 x1) 417 (w32 (117 + x1)).toNat)) 30)) 417 (w32 (123 + x1)).toNat)) 416 3 ((uS (uS t1 416 (1 : Int).toNat (cn (bq ((uS s 416 0 x1) 417 (w32 (117 + x1)).toNat)) 30)) 416 2 ((uS t1 416 (1 : Int).toNat (cn (bq ((uS s 416 0 x1) 417 (w32 (117 + x1)).toNat)) 30)) 417 (w32 (123 + x1)).toNat)) 417 (w32 (129 + x1)).toNat)) 416 4 ((uS (uS (uS t1 416 (1 : Int).toNat (cn (bq ((uS s 416 0 x1) 417 (w32 (117 + x1)).toNat)) 30)) 416 2 ((uS t1 416 (1 : Int).toNat (cn (bq ((uS s 416 0 x1) 417 (w32 (117 + x1)).toNat)) 30)) 417 (w32 (123 + x1)).toNat)) 416 3 ((uS (uS t1 416 (1 : Int).toNat (cn (bq ((uS s 416 0 x1) 417 (w32 (117 + x1)).toNat)) 30)) 416 2 ((uS t1 416 (1 : Int).toNat (cn (bq ((uS s 416 0 x1) 417 (w32 (117 + x1)).toNat)) 30)) 417 (w32 (123 + x1)).toNat)) 417 (w32 (129 + x1)).toNat)) 407 29)) 407 30)) 407 31) → ∀ t3 : mSt, t3 = uS t2 416 (7 : Int).toNat (wrk (t2 417) x1.toNat) → Ok (t3 417))
  (z7 : ∀ t1 : mSt, t1 = uS s 416 0 x1 → ∀ t2 : mSt, t2 = uS (uS (uS (uS (uS (uS t1 416 (1 : Int).toNat (cn (bq ((uS s 416 0 x1) 417 (w32 (117 + x1)).toNat)) 30)) 416 2 ((uS t1 416 (1 : Int).toNat (cn (bq ((uS s 416 0 x1) 417 (w32 (117 + x1)).toNat)) 30)) 417 (w32 (123 + x1)).toNat)) 416 3 ((uS (uS t1 416 (1 : Int).toNat (cn (bq ((uS s 416 0 x1) 417 (w32 (117 + x1)).toNat)) 30)) 416 2 ((uS t1 416 (1 : Int).toNat (cn (bq ((uS s 416 0 x1) 417 (w32 (117 + x1)).toNat)) 30)) 417 (w32 (123 + x1)).toNat)) 417 (w32 (129 + x1)).toNat)) 416 4 ((uS (uS (uS t1 416 (1 : Int).toNat (cn (bq ((uS s 416 0 x1) 417 (w32 (117 + x1)).toNat)) 30)) 416 2 ((uS t1 416 (1 : Int).toNat (cn (bq ((uS s 416 0 x1) 417 (w32 (117 + x1)).toNat)) 30)) 417 (w32 (123 + x1)).toNat)) 416 3 ((uS (uS t1 416 (1 : Int).toNat (cn (bq ((uS s 416 0 x1) 417 (w32 (117 + x1)).toNat)) 30)) 416 2 ((uS t1 416 (1 : Int).toNat (cn (bq ((uS s 416 0 x1) 417 (w32 (117 + x1)).toNat)) 30)) 417 (w32 (123 + x1)).toNat)) 417 (w32 (129 + x1)).toNat)) 407 29)) 416 5 ((uS (uS (uS (uS t1 416 (1 : Int).toNat (cn (bq ((uS s 416 0 x1) 417 (w32 (117 + x1)).toNat)) 30)) 416 2 ((uS t1 416 (1 : Int).toNat (cn (bq ((uS s 416 0 x1) 417 (w32 (117 + x1)).toNat)) 30)) 417 (w32 (123 + x1)).toNat)) 416 3 ((uS (uS t1 416 (1 : Int).toNat (cn (bq ((uS s 416 0 x1) 417 (w32 (117 + x1)).toNat)) 30)) 416 2 ((uS t1 416 (1 : Int).toNat (cn (bq ((uS s 416 0 x1) 417 (w32 (117 + x1)).toNat)) 30)) 417 (w32 (123 + x1)).toNat)) 417 (w32 (129 + x1)).toNat)) 416 4 ((uS (uS (uS t1 416 (1 : Int).toNat (cn (bq ((uS s 416 0 x1) 417 (w32 (117 + x1)).toNat)) 30)) 416 2 ((uS t1 416 (1 : Int).toNat (cn (bq ((uS s 416 0 x1) 417 (w32 (117 + x1)).toNat)) 30)) 417 (w32 (123 + x1)).toNat)) 416 3 ((uS (uS t1 416 (1 : Int).toNat (cn (bq ((uS s 416 0 x1) 417 (w32 (117 + x1)).toNat)) 30)) 416 2 ((uS t1 416 (1 : Int).toNat (cn (bq ((uS s 416 0 x1) 417 (w32 (117 + x1)).toNat)) 30)) 417 (w32 (123 + x1)).toNat)) 417 (w32 (129 + x1)).toNat)) 407 29)) 407 30)) 416 6 ((uS (uS (uS (uS (uS t1 416 (1 : Int).toNat (cn (bq ((uS s 416 0 x1) 417 (w32 (117 + x1)).toNat)) 30)) 416 2 ((uS t1 416 (1 : Int).toNat (cn (bq ((uS s 416 0 x1) 417 (w32 (117 + x1)).toNat)) 30)) 417 (w32 (123 + x1)).toNat)) 416 3 ((uS (uS t1 416 (1 : Int).toNat (cn (bq ((uS s 416 0 x1) 417 (w32 (117 + x1)).toNat)) 30)) 416 2 ((uS t1 416 (1 : Int).toNat (cn (bq ((uS s 416 0 x1) 417 (w32 (117 + x1)).toNat)) 30)) 417 (w32 (123 + x1)).toNat)) 417 (w32 (129 + x1)).toNat)) 416 4 ((uS (uS (uS t1 416 (1 : Int).toNat (cn (bq ((uS s 416 0 x1) 417 (w32 (117 + x1)).toNat)) 30)) 416 2 ((uS t1 416 (1 : Int).toNat (cn (bq ((uS s 416 0 x1) 417 (w32 (117 + x1)).toNat)) 30)) 417 (w32 (123 + x1)).toNat)) 416 3 ((uS (uS t1 416 (1 : Int).toNat (cn (bq ((uS s 416 0 x1) 417 (w32 (117 + x1)).toNat)) 30)) 416 2 ((uS t1 416 (1 : Int).toNat (cn (bq ((uS s 416 0 x1) 417 (w32 (117 + x1)).toNat)) 30)) 417 (w32 (123 + x1)).toNat)) 417 (w32 (129 + x1)).toNat)) 407 29)) 416 5 ((uS (uS (uS (uS t1 416 (1 : Int).toNat (cn (bq ((uS s 416 0 x1) 417 (w32 (117 + x1)).toNat)) 30)) 416 2 ((uS t1 416 (1 : Int).toNat (cn (bq ((uS s 416 0 x1) 417 (w32 (117 + x1)).toNat)) 30)) 417 (w32 (123 + x1)).toNat)) 416 3 ((uS (uS t1 416 (1 : Int).toNat (cn (bq ((uS s 416 0 x1) 417 (w32 (117 + x1)).toNat)) 30)) 416 2 ((uS t1 416 (1 : Int).toNat (cn (bq ((uS s 416 0 x1) 417 (w32 (117 + x1)).toNat)) 30)) 417 (w32 (123 + x1)).toNat)) 417 (w32 (129 + x1)).toNat)) 416 4 ((uS (uS (uS t1 416 (1 : Int).toNat (cn (bq ((uS s 416 0 x1) 417 (w32 (117 + x1)).toNat)) 30)) 416 2 ((uS t1 416 (1 : Int).toNat (cn (bq ((uS s 416 0 x1) 417 (w32 (117 + x1)).toNat)) 30)) 417 (w32 (123 + x1)).toNat)) 416 3 ((uS (uS t1 416 (1 : Int).toNat (cn (bq ((uS s 416 0 x1) 417 (w32 (117 + x1)).toNat)) 30)) 416 2 ((uS t1 416 (1 : Int).toNat (cn (bq ((uS s 416 0 x1) 417 (w32 (117 + x1)).toNat)) 30)) 417 (w32 (123 + x1)).toNat)) 417 (w32 (129 + x1)).toNat)) 407 29)) 407 30)) 407 31) → ∀ t3 : mSt, t3 = uS t2 416 (7 : Int).toNat (wrk (t2 417) x1.toNat) → ∀ t4 : mSt, t4 = uS t3 416 (8 : Int).toNat (mx (fun t => t3 417 1 - fre (t3 417) t) 30) → Ok (t4 417))
  (z8 : ∀ t1 : mSt, t1 = uS s 416 0 x1 → ∀ t2 : mSt, t2 = uS (uS (uS (uS (uS (uS t1 416 (1 : Int).toNat (cn (bq ((uS s 416 0 x1) 417 (w32 (117 + x1)).toNat)) 30)) 416 2 ((uS t1 416 (1 : Int).toNat (cn (bq ((uS s 416 0 x1) 417 (w32 (117 + x1)).toNat)) 30)) 417 (w32 (123 + x1)).toNat)) 416 3 ((uS (uS t1 416 (1 : Int).toNat (cn (bq ((uS s 416 0 x1) 417 (w32 (117 + x1)).toNat)) 30)) 416 2 ((uS t1 416 (1 : Int).toNat (cn (bq ((uS s 416 0 x1) 417 (w32 (117 + x1)).toNat)) 30)) 417 (w32 (123 + x1)).toNat)) 417 (w32 (129 + x1)).toNat)) 416 4 ((uS (uS (uS t1 416 (1 : Int).toNat (cn (bq ((uS s 416 0 x1) 417 (w32 (117 + x1)).toNat)) 30)) 416 2 ((uS t1 416 (1 : Int).toNat (cn (bq ((uS s 416 0 x1) 417 (w32 (117 + x1)).toNat)) 30)) 417 (w32 (123 + x1)).toNat)) 416 3 ((uS (uS t1 416 (1 : Int).toNat (cn (bq ((uS s 416 0 x1) 417 (w32 (117 + x1)).toNat)) 30)) 416 2 ((uS t1 416 (1 : Int).toNat (cn (bq ((uS s 416 0 x1) 417 (w32 (117 + x1)).toNat)) 30)) 417 (w32 (123 + x1)).toNat)) 417 (w32 (129 + x1)).toNat)) 407 29)) 416 5 ((uS (uS (uS (uS t1 416 (1 : Int).toNat (cn (bq ((uS s 416 0 x1) 417 (w32 (117 + x1)).toNat)) 30)) 416 2 ((uS t1 416 (1 : Int).toNat (cn (bq ((uS s 416 0 x1) 417 (w32 (117 + x1)).toNat)) 30)) 417 (w32 (123 + x1)).toNat)) 416 3 ((uS (uS t1 416 (1 : Int).toNat (cn (bq ((uS s 416 0 x1) 417 (w32 (117 + x1)).toNat)) 30)) 416 2 ((uS t1 416 (1 : Int).toNat (cn (bq ((uS s 416 0 x1) 417 (w32 (117 + x1)).toNat)) 30)) 417 (w32 (123 + x1)).toNat)) 417 (w32 (129 + x1)).toNat)) 416 4 ((uS (uS (uS t1 416 (1 : Int).toNat (cn (bq ((uS s 416 0 x1) 417 (w32 (117 + x1)).toNat)) 30)) 416 2 ((uS t1 416 (1 : Int).toNat (cn (bq ((uS s 416 0 x1) 417 (w32 (117 + x1)).toNat)) 30)) 417 (w32 (123 + x1)).toNat)) 416 3 ((uS (uS t1 416 (1 : Int).toNat (cn (bq ((uS s 416 0 x1) 417 (w32 (117 + x1)).toNat)) 30)) 416 2 ((uS t1 416 (1 : Int).toNat (cn (bq ((uS s 416 0 x1) 417 (w32 (117 + x1)).toNat)) 30)) 417 (w32 (123 + x1)).toNat)) 417 (w32 (129 + x1)).toNat)) 407 29)) 407 30)) 416 6 ((uS (uS (uS (uS (uS t1 416 (1 : Int).toNat (cn (bq ((uS s 416 0 x1) 417 (w32 (117 + x1)).toNat)) 30)) 416 2 ((uS t1 416 (1 : Int).toNat (cn (bq ((uS s 416 0 x1) 417 (w32 (117 + x1)).toNat)) 30)) 417 (w32 (123 + x1)).toNat)) 416 3 ((uS (uS t1 416 (1 : Int).toNat (cn (bq ((uS s 416 0 x1) 417 (w32 (117 + x1)).toNat)) 30)) 416 2 ((uS t1 416 (1 : Int).toNat (cn (bq ((uS s 416 0 x1) 417 (w32 (117 + x1)).toNat)) 30)) 417 (w32 (123 + x1)).toNat)) 417 (w32 (129 + x1)).toNat)) 416 4 ((uS (uS (uS t1 416 (1 : Int).toNat (cn (bq ((uS s 416 0 x1) 417 (w32 (117 + x1)).toNat)) 30)) 416 2 ((uS t1 416 (1 : Int).toNat (cn (bq ((uS s 416 0 x1) 417 (w32 (117 + x1)).toNat)) 30)) 417 (w32 (123 + x1)).toNat)) 416 3 ((uS (uS t1 416 (1 : Int).toNat (cn (bq ((uS s 416 0 x1) 417 (w32 (117 + x1)).toNat)) 30)) 416 2 ((uS t1 416 (1 : Int).toNat (cn (bq ((uS s 416 0 x1) 417 (w32 (117 + x1)).toNat)) 30)) 417 (w32 (123 + x1)).toNat)) 417 (w32 (129 + x1)).toNat)) 407 29)) 416 5 ((uS (uS (uS (uS t1 416 (1 : Int).toNat (cn (bq ((uS s 416 0 x1) 417 (w32 (117 + x1)).toNat)) 30)) 416 2 ((uS t1 416 (1 : Int).toNat (cn (bq ((uS s 416 0 x1) 417 (w32 (117 + x1)).toNat)) 30)) 417 (w32 (123 + x1)).toNat)) 416 3 ((uS (uS t1 416 (1 : Int).toNat (cn (bq ((uS s 416 0 x1) 417 (w32 (117 + x1)).toNat)) 30)) 416 2 ((uS t1 416 (1 : Int).toNat (cn (bq ((uS s 416 0 x1) 417 (w32 (117 + x1)).toNat)) 30)) 417 (w32 (123 + x1)).toNat)) 417 (w32 (129 + x1)).toNat)) 416 4 ((uS (uS (uS t1 416 (1 : Int).toNat (cn (bq ((uS s 416 0 x1) 417 (w32 (117 + x1)).toNat)) 30)) 416 2 ((uS t1 416 (1 : Int).toNat (cn (bq ((uS s 416 0 x1) 417 (w32 (117 + x1)).toNat)) 30)) 417 (w32 (123 + x1)).toNat)) 416 3 ((uS (uS t1 416 (1 : Int).toNat (cn (bq ((uS s 416 0 x1) 417 (w32 (117 + x1)).toNat)) 30)) 416 2 ((uS t1 416 (1 : Int).toNat (cn (bq ((uS s 416 0 x1) 417 (w32 (117 + x1)).toNat)) 30)) 417 (w32 (123 + x1)).toNat)) 417 (w32 (129 + x1)).toNat)) 407 29)) 407 30)) 407 31) → ∀ t3 : mSt, t3 = uS t2 416 (7 : Int).toNat (wrk (t2 417) x1.toNat) → ∀ t4 : mSt, t4 = uS t3 416 (8 : Int).toNat (mx (fun t => t3 417 1 - fre (t3 417) t) 30) → 0 ≤ (wts (t4 417)) ∧ (wts (t4 417)) < 1073741824)
  (z9 : ∀ t1 : mSt, t1 = uS s 416 0 x1 → ∀ t2 : mSt, t2 = uS (uS (uS (uS (uS (uS t1 416 (1 : Int).toNat (cn (bq ((uS s 416 0 x1) 417 (w32 (117 + x1)).toNat)) 30)) 416 2 ((uS t1 416 (1 : Int).toNat (cn (bq ((uS s 416 0 x1) 417 (w32 (117 + x1)).toNat)) 30)) 417 (w32 (123 + x1)).toNat)) 416 3 ((uS (uS t1 416 (1 : Int).toNat (cn (bq ((uS s 416 0 x1) 417 (w32 (117 + x1)).toNat)) 30)) 416 2 ((uS t1 416 (1 : Int).toNat (cn (bq ((uS s 416 0 x1) 417 (w32 (117 + x1)).toNat)) 30)) 417 (w32 (123 + x1)).toNat)) 417 (w32 (129 + x1)).toNat)) 416 4 ((uS (uS (uS t1 416 (1 : Int).toNat (cn (bq ((uS s 416 0 x1) 417 (w32 (117 + x1)).toNat)) 30)) 416 2 ((uS t1 416 (1 : Int).toNat (cn (bq ((uS s 416 0 x1) 417 (w32 (117 + x1)).toNat)) 30)) 417 (w32 (123 + x1)).toNat)) 416 3 ((uS (uS t1 416 (1 : Int).toNat (cn (bq ((uS s 416 0 x1) 417 (w32 (117 + x1)).toNat)) 30)) 416 2 ((uS t1 416 (1 : Int).toNat (cn (bq ((uS s 416 0 x1) 417 (w32 (117 + x1)).toNat)) 30)) 417 (w32 (123 + x1)).toNat)) 417 (w32 (129 + x1)).toNat)) 407 29)) 416 5 ((uS (uS (uS (uS t1 416 (1 : Int).toNat (cn (bq ((uS s 416 0 x1) 417 (w32 (117 + x1)).toNat)) 30)) 416 2 ((uS t1 416 (1 : Int).toNat (cn (bq ((uS s 416 0 x1) 417 (w32 (117 + x1)).toNat)) 30)) 417 (w32 (123 + x1)).toNat)) 416 3 ((uS (uS t1 416 (1 : Int).toNat (cn (bq ((uS s 416 0 x1) 417 (w32 (117 + x1)).toNat)) 30)) 416 2 ((uS t1 416 (1 : Int).toNat (cn (bq ((uS s 416 0 x1) 417 (w32 (117 + x1)).toNat)) 30)) 417 (w32 (123 + x1)).toNat)) 417 (w32 (129 + x1)).toNat)) 416 4 ((uS (uS (uS t1 416 (1 : Int).toNat (cn (bq ((uS s 416 0 x1) 417 (w32 (117 + x1)).toNat)) 30)) 416 2 ((uS t1 416 (1 : Int).toNat (cn (bq ((uS s 416 0 x1) 417 (w32 (117 + x1)).toNat)) 30)) 417 (w32 (123 + x1)).toNat)) 416 3 ((uS (uS t1 416 (1 : Int).toNat (cn (bq ((uS s 416 0 x1) 417 (w32 (117 + x1)).toNat)) 30)) 416 2 ((uS t1 416 (1 : Int).toNat (cn (bq ((uS s 416 0 x1) 417 (w32 (117 + x1)).toNat)) 30)) 417 (w32 (123 + x1)).toNat)) 417 (w32 (129 + x1)).toNat)) 407 29)) 407 30)) 416 6 ((uS (uS (uS (uS (uS t1 416 (1 : Int).toNat (cn (bq ((uS s 416 0 x1) 417 (w32 (117 + x1)).toNat)) 30)) 416 2 ((uS t1 416 (1 : Int).toNat (cn (bq ((uS s 416 0 x1) 417 (w32 (117 + x1)).toNat)) 30)) 417 (w32 (123 + x1)).toNat)) 416 3 ((uS (uS t1 416 (1 : Int).toNat (cn (bq ((uS s 416 0 x1) 417 (w32 (117 + x1)).toNat)) 30)) 416 2 ((uS t1 416 (1 : Int).toNat (cn (bq ((uS s 416 0 x1) 417 (w32 (117 + x1)).toNat)) 30)) 417 (w32 (123 + x1)).toNat)) 417 (w32 (129 + x1)).toNat)) 416 4 ((uS (uS (uS t1 416 (1 : Int).toNat (cn (bq ((uS s 416 0 x1) 417 (w32 (117 + x1)).toNat)) 30)) 416 2 ((uS t1 416 (1 : Int).toNat (cn (bq ((uS s 416 0 x1) 417 (w32 (117 + x1)).toNat)) 30)) 417 (w32 (123 + x1)).toNat)) 416 3 ((uS (uS t1 416 (1 : Int).toNat (cn (bq ((uS s 416 0 x1) 417 (w32 (117 + x1)).toNat)) 30)) 416 2 ((uS t1 416 (1 : Int).toNat (cn (bq ((uS s 416 0 x1) 417 (w32 (117 + x1)).toNat)) 30)) 417 (w32 (123 + x1)).toNat)) 417 (w32 (129 + x1)).toNat)) 407 29)) 416 5 ((uS (uS (uS (uS t1 416 (1 : Int).toNat (cn (bq ((uS s 416 0 x1) 417 (w32 (117 + x1)).toNat)) 30)) 416 2 ((uS t1 416 (1 : Int).toNat (cn (bq ((uS s 416 0 x1) 417 (w32 (117 + x1)).toNat)) 30)) 417 (w32 (123 + x1)).toNat)) 416 3 ((uS (uS t1 416 (1 : Int).toNat (cn (bq ((uS s 416 0 x1) 417 (w32 (117 + x1)).toNat)) 30)) 416 2 ((uS t1 416 (1 : Int).toNat (cn (bq ((uS s 416 0 x1) 417 (w32 (117 + x1)).toNat)) 30)) 417 (w32 (123 + x1)).toNat)) 417 (w32 (129 + x1)).toNat)) 416 4 ((uS (uS (uS t1 416 (1 : Int).toNat (cn (bq ((uS s 416 0 x1) 417 (w32 (117 + x1)).toNat)) 30)) 416 2 ((uS t1 416 (1 : Int).toNat (cn (bq ((uS s 416 0 x1) 417 (w32 (117 + x1)).toNat)) 30)) 417 (w32 (123 + x1)).toNat)) 416 3 ((uS (uS t1 416 (1 : Int).toNat (cn (bq ((uS s 416 0 x1) 417 (w32 (117 + x1)).toNat)) 30)) 416 2 ((uS t1 416 (1 : Int).toNat (cn (bq ((uS s 416 0 x1) 417 (w32 (117 + x1)).toNat)) 30)) 417 (w32 (123 + x1)).toNat)) 417 (w32 (129 + x1)).toNat)) 407 29)) 407 30)) 407 31) → ∀ t3 : mSt, t3 = uS t2 416 (7 : Int).toNat (wrk (t2 417) x1.toNat) → ∀ t4 : mSt, t4 = uS t3 416 (8 : Int).toNat (mx (fun t => t3 417 1 - fre (t3 417) t) 30) → ∀ t5 : mSt, t5 = uS (uS t4 416 (9 : Int).toNat (cn (bq (wts (t4 417))) 30)) 416 10 ((uS t4 416 (9 : Int).toNat (cn (bq (wts (t4 417))) 30)) 417 5) → (0 ≤ ((uS (uS t4 416 (9 : Int).toNat (cn (bq (wts (t4 417))) 30)) 416 10 ((uS t4 416 (9 : Int).toNat (cn (bq (wts (t4 417))) 30)) 417 5)) 407 21) ∧ ((uS (uS t4 416 (9 : Int).toNat (cn (bq (wts (t4 417))) 30)) 416 10 ((uS t4 416 (9 : Int).toNat (cn (bq (wts (t4 417))) 30)) 417 5)) 407 21) < 6) ∧ SKq t5 ((uS (uS t4 416 (9 : Int).toNat (cn (bq (wts (t4 417))) 30)) 416 10 ((uS t4 416 (9 : Int).toNat (cn (bq (wts (t4 417))) 30)) 417 5)) 407 21).toNat)
  (z10 : ∀ t1 : mSt, t1 = uS s 416 0 x1 → ∀ t2 : mSt, t2 = uS (uS (uS (uS (uS (uS t1 416 (1 : Int).toNat (cn (bq ((uS s 416 0 x1) 417 (w32 (117 + x1)).toNat)) 30)) 416 2 ((uS t1 416 (1 : Int).toNat (cn (bq ((uS s 416 0 x1) 417 (w32 (117 + x1)).toNat)) 30)) 417 (w32 (123 + x1)).toNat)) 416 3 ((uS (uS t1 416 (1 : Int).toNat (cn (bq ((uS s 416 0 x1) 417 (w32 (117 + x1)).toNat)) 30)) 416 2 ((uS t1 416 (1 : Int).toNat (cn (bq ((uS s 416 0 x1) 417 (w32 (117 + x1)).toNat)) 30)) 417 (w32 (123 + x1)).toNat)) 417 (w32 (129 + x1)).toNat)) 416 4 ((uS (uS (uS t1 416 (1 : Int).toNat (cn (bq ((uS s 416 0 x1) 417 (w32 (117 + x1)).toNat)) 30)) 416 2 ((uS t1 416 (1 : Int).toNat (cn (bq ((uS s 416 0 x1) 417 (w32 (117 + x1)).toNat)) 30)) 417 (w32 (123 + x1)).toNat)) 416 3 ((uS (uS t1 416 (1 : Int).toNat (cn (bq ((uS s 416 0 x1) 417 (w32 (117 + x1)).toNat)) 30)) 416 2 ((uS t1 416 (1 : Int).toNat (cn (bq ((uS s 416 0 x1) 417 (w32 (117 + x1)).toNat)) 30)) 417 (w32 (123 + x1)).toNat)) 417 (w32 (129 + x1)).toNat)) 407 29)) 416 5 ((uS (uS (uS (uS t1 416 (1 : Int).toNat (cn (bq ((uS s 416 0 x1) 417 (w32 (117 + x1)).toNat)) 30)) 416 2 ((uS t1 416 (1 : Int).toNat (cn (bq ((uS s 416 0 x1) 417 (w32 (117 + x1)).toNat)) 30)) 417 (w32 (123 + x1)).toNat)) 416 3 ((uS (uS t1 416 (1 : Int).toNat (cn (bq ((uS s 416 0 x1) 417 (w32 (117 + x1)).toNat)) 30)) 416 2 ((uS t1 416 (1 : Int).toNat (cn (bq ((uS s 416 0 x1) 417 (w32 (117 + x1)).toNat)) 30)) 417 (w32 (123 + x1)).toNat)) 417 (w32 (129 + x1)).toNat)) 416 4 ((uS (uS (uS t1 416 (1 : Int).toNat (cn (bq ((uS s 416 0 x1) 417 (w32 (117 + x1)).toNat)) 30)) 416 2 ((uS t1 416 (1 : Int).toNat (cn (bq ((uS s 416 0 x1) 417 (w32 (117 + x1)).toNat)) 30)) 417 (w32 (123 + x1)).toNat)) 416 3 ((uS (uS t1 416 (1 : Int).toNat (cn (bq ((uS s 416 0 x1) 417 (w32 (117 + x1)).toNat)) 30)) 416 2 ((uS t1 416 (1 : Int).toNat (cn (bq ((uS s 416 0 x1) 417 (w32 (117 + x1)).toNat)) 30)) 417 (w32 (123 + x1)).toNat)) 417 (w32 (129 + x1)).toNat)) 407 29)) 407 30)) 416 6 ((uS (uS (uS (uS (uS t1 416 (1 : Int).toNat (cn (bq ((uS s 416 0 x1) 417 (w32 (117 + x1)).toNat)) 30)) 416 2 ((uS t1 416 (1 : Int).toNat (cn (bq ((uS s 416 0 x1) 417 (w32 (117 + x1)).toNat)) 30)) 417 (w32 (123 + x1)).toNat)) 416 3 ((uS (uS t1 416 (1 : Int).toNat (cn (bq ((uS s 416 0 x1) 417 (w32 (117 + x1)).toNat)) 30)) 416 2 ((uS t1 416 (1 : Int).toNat (cn (bq ((uS s 416 0 x1) 417 (w32 (117 + x1)).toNat)) 30)) 417 (w32 (123 + x1)).toNat)) 417 (w32 (129 + x1)).toNat)) 416 4 ((uS (uS (uS t1 416 (1 : Int).toNat (cn (bq ((uS s 416 0 x1) 417 (w32 (117 + x1)).toNat)) 30)) 416 2 ((uS t1 416 (1 : Int).toNat (cn (bq ((uS s 416 0 x1) 417 (w32 (117 + x1)).toNat)) 30)) 417 (w32 (123 + x1)).toNat)) 416 3 ((uS (uS t1 416 (1 : Int).toNat (cn (bq ((uS s 416 0 x1) 417 (w32 (117 + x1)).toNat)) 30)) 416 2 ((uS t1 416 (1 : Int).toNat (cn (bq ((uS s 416 0 x1) 417 (w32 (117 + x1)).toNat)) 30)) 417 (w32 (123 + x1)).toNat)) 417 (w32 (129 + x1)).toNat)) 407 29)) 416 5 ((uS (uS (uS (uS t1 416 (1 : Int).toNat (cn (bq ((uS s 416 0 x1) 417 (w32 (117 + x1)).toNat)) 30)) 416 2 ((uS t1 416 (1 : Int).toNat (cn (bq ((uS s 416 0 x1) 417 (w32 (117 + x1)).toNat)) 30)) 417 (w32 (123 + x1)).toNat)) 416 3 ((uS (uS t1 416 (1 : Int).toNat (cn (bq ((uS s 416 0 x1) 417 (w32 (117 + x1)).toNat)) 30)) 416 2 ((uS t1 416 (1 : Int).toNat (cn (bq ((uS s 416 0 x1) 417 (w32 (117 + x1)).toNat)) 30)) 417 (w32 (123 + x1)).toNat)) 417 (w32 (129 + x1)).toNat)) 416 4 ((uS (uS (uS t1 416 (1 : Int).toNat (cn (bq ((uS s 416 0 x1) 417 (w32 (117 + x1)).toNat)) 30)) 416 2 ((uS t1 416 (1 : Int).toNat (cn (bq ((uS s 416 0 x1) 417 (w32 (117 + x1)).toNat)) 30)) 417 (w32 (123 + x1)).toNat)) 416 3 ((uS (uS t1 416 (1 : Int).toNat (cn (bq ((uS s 416 0 x1) 417 (w32 (117 + x1)).toNat)) 30)) 416 2 ((uS t1 416 (1 : Int).toNat (cn (bq ((uS s 416 0 x1) 417 (w32 (117 + x1)).toNat)) 30)) 417 (w32 (123 + x1)).toNat)) 417 (w32 (129 + x1)).toNat)) 407 29)) 407 30)) 407 31) → ∀ t3 : mSt, t3 = uS t2 416 (7 : Int).toNat (wrk (t2 417) x1.toNat) → ∀ t4 : mSt, t4 = uS t3 416 (8 : Int).toNat (mx (fun t => t3 417 1 - fre (t3 417) t) 30) → ∀ t5 : mSt, t5 = uS (uS t4 416 (9 : Int).toNat (cn (bq (wts (t4 417))) 30)) 416 10 ((uS t4 416 (9 : Int).toNat (cn (bq (wts (t4 417))) 30)) 417 5) → ∀ v6 : Int, ∀ s6 : mSt, (v6 = wrR t5 ((uS (uS t4 416 (9 : Int).toNat (cn (bq (wts (t4 417))) 30)) 416 10 ((uS t4 416 (9 : Int).toNat (cn (bq (wts (t4 417))) 30)) 417 5)) 407 21).toNat ∧ fK t5 s6) → Q (some (mJ v6)) s6) :
  Sp X (d + 5) 249 [mR 407, mI x1] s Q := e249 (b249_0 z1 (Sp_gen (fun t1 e1 => (c169 (z2 t1 e1) ⟨_, rfl, b249_25 ⟨by decide, by decide⟩ (z3 t1 e1) (z4 t1 e1) (Sp_gen (fun t2 e2 => (c220 (z5 t1 e1 t2 e2) ⟨_, rfl, b249_105 ⟨by decide, by decide⟩ (Sp_gen (fun t3 e3 => (c248 (z6 t1 e1 t2 e2 t3 e3) ⟨_, rfl, b249_117 ⟨by decide, by decide⟩ (Sp_gen (fun t4 e4 => (c221 (z7 t1 e1 t2 e2 t3 e3 t4 e4) ⟨_, rfl, b249_129 (c169 (z8 t1 e1 t2 e2 t3 e3 t4 e4) ⟨_, rfl, b249_132 ⟨by decide, by decide⟩ (Sp_gen (fun t5 e5 => (c247 (z9 t1 e1 t2 e2 t3 e3 t4 e4 t5 e5) (fun v6 s6 q6 => ⟨v6, rfl, b249_156 (z10 t1 e1 t2 e2 t3 e3 t4 e4 t5 e5 v6 s6 q6)⟩))))⟩)⟩)))⟩)))⟩)))⟩))))

theorem c249 {X : (Nat → Int) × Nat} {d : Nat} {s : mSt} {Q : mQ} {x1 : Int} (p1 : WQq s x1) (k : ∀ (v : Int) (t : mSt), (v = ruR s (s 417) x1.toNat ∧ fS s t) → Q (some (mJ v)) t) : Sp X (d + 5) 249 [mR 407, mI x1] s Q := by
  obtain ⟨h, h1, hw, hP, hf, hK⟩ := p1
  have h4 := ncI h
  have n6 := nc_le h
  obtain ⟨c, rfl⟩ := nat_of h1.1
  rw [tnc] at hw hP k
  have b1 := okP h (p := c) (by omega)
  have k417 : ∀ (q : mSt) (i : Nat) (x : Int), uS q 416 i x 417 = q 417 := fun q i x => uS_cell (by decide)
  have k407 : ∀ (q : mSt) (i : Nat) (x : Int), uS q 416 i x 407 = q 407 := fun q i x => uS_cell (by decide)
  have i1 : (w32 (117 + (c : Int))).toNat = 117 + c := wt (by omega) (by omega)
  have i2 : (w32 (123 + (c : Int))).toNat = 123 + c := wt (by omega) (by omega)
  have i3 : (w32 (129 + (c : Int))).toNat = 129 + c := wt (by omega) (by omega)
  have bW := wts_bd h
  have pq := hP.2.1 (by omega)
  have g2 : ∀ t1 t2 : mSt, t1 = uS s 416 0 (c : Int) → (t2 = (let a := uS t1 416 (1 : Int).toNat (cn (bq ((uS s 416 0 (c : Int)) 417 (w32 (117 + (c : Int))).toNat)) 30); let b := uS a 416 2 (a 417 (w32 (123 + (c : Int))).toNat); let e := uS b 416 3 (b 417 (w32 (129 + (c : Int))).toNat); let f := uS e 416 4 (e 407 29); let g := uS f 416 5 (f 407 30); uS g 416 6 (g 407 31))) →
      (∀ b, b ≠ 416 → t2 b = s b) ∧ ∀ i, i < 7 → t2 416 i = fcA (s 417) c i := fun t1 t2 e1 e2 => by
    subst e1
    dsimp only at e2
    simp only [k417, k407, i1, i2, i3, show (1 : Int).toNat = 1 from rfl] at e2
    have q := ch7 e2
    refine ⟨q.1, fun i hi => ?_⟩
    rcases (show i = 0 ∨ i = 1 ∨ i = 2 ∨ i = 3 ∨ i = 4 ∨ i = 5 ∨ i = 6 by omega) with e | e | e | e | e | e | e <;> subst e
    · rw [q.2.1]; simp [fcA]
    · rw [q.2.2.1]; simp [fcA]
    · rw [q.2.2.2.1]; simp [fcA]
    · rw [q.2.2.2.2.1]; simp [fcA]
    · rw [q.2.2.2.2.2.1, pq.1]; simp [fcA]
    · rw [q.2.2.2.2.2.2.1, pq.2.1]; simp [fcA]
    · rw [q.2.2.2.2.2.2.2, pq.2.2]; simp [fcA]
  have g3 : ∀ (t2 t3 : mSt) (j : Nat) (x : Int), ((∀ b, b ≠ 416 → t2 b = s b) ∧ ∀ i, i < j → t2 416 i = fcA (s 417) c i) → t3 = uS t2 416 j x → x = fcA (s 417) c j → ((∀ b, b ≠ 416 → t3 b = s b) ∧ ∀ i, i < j + 1 → t3 416 i = fcA (s 417) c i) := fun t2 t3 j x g e ex => by
    subst e
    refine ⟨fun b hb => by rw [uS_cell hb]; exact g.1 b hb, fun i hi => ?_⟩
    rw [uS_at]
    by_cases z : i = j
    · rw [if_pos z, ex, z]
    · rw [if_neg z]; exact g.2 i (by omega)
  have g37 : ∀ t2 t3 : mSt, ((∀ b, b ≠ 416 → t2 b = s b) ∧ ∀ i, i < 7 → t2 416 i = fcA (s 417) c i) → t3 = uS t2 416 (7 : Int).toNat (wrk (t2 417) (c : Int).toNat) → ((∀ b, b ≠ 416 → t3 b = s b) ∧ ∀ i, i < 8 → t3 416 i = fcA (s 417) c i) := fun t2 t3 g e =>
    g3 t2 t3 7 _ g e (by rw [g.1 417 (by decide), tnc]; simp [fcA])
  have g38 : ∀ t2 t3 : mSt, ((∀ b, b ≠ 416 → t2 b = s b) ∧ ∀ i, i < 8 → t2 416 i = fcA (s 417) c i) → t3 = uS t2 416 (8 : Int).toNat (mx (fun t => t2 417 1 - fre (t2 417) t) 30) → ((∀ b, b ≠ 416 → t3 b = s b) ∧ ∀ i, i < 9 → t3 416 i = fcA (s 417) c i) := fun t2 t3 g e =>
    g3 t2 t3 8 _ g e (by rw [g.1 417 (by decide)]; simp [fcA])
  have g39 : ∀ t4 t5 : mSt, ((∀ b, b ≠ 416 → t4 b = s b) ∧ ∀ i, i < 9 → t4 416 i = fcA (s 417) c i) → t5 = uS (uS t4 416 (9 : Int).toNat (cn (bq (wts (t4 417))) 30)) 416 10 ((uS t4 416 (9 : Int).toNat (cn (bq (wts (t4 417))) 30)) 417 5) → ((∀ b, b ≠ 416 → t5 b = s b) ∧ ∀ i, i < 11 → t5 416 i = fcA (s 417) c i) := fun t4 t5 g e =>
    g3 _ t5 10 _ (g3 t4 _ 9 _ g rfl (by rw [g.1 417 (by decide)]; simp [fcA])) e (by rw [k417, g.1 417 (by decide)]; simp [fcA])
  have k9 : ∀ t4 : mSt, ((∀ b, b ≠ 416 → t4 b = s b) ∧ ∀ i, i < 9 → t4 416 i = fcA (s 417) c i) → (uS (uS t4 416 (9 : Int).toNat (cn (bq (wts (t4 417))) 30)) 416 10 ((uS t4 416 (9 : Int).toNat (cn (bq (wts (t4 417))) 30)) 417 5)) 407 21 = s 407 21 := fun t4 g => by rw [k407, k407, g.1 407 (by decide)]
  refine v249 ?_ ?_ ?_ ?_ ?_ ?_ ?_ ?_ ?_ ?_
  · rw [w32_of (by omega)]; omega
  · intro t1 e1; rw [k417, i1]; omega
  · intro t1 e1; rw [w32_of (by omega)]; omega
  · intro t1 e1; rw [w32_of (by omega)]; omega
  · intro t1 e1 t2 e2
    have g := g2 t1 t2 e1 e2
    rw [g.1 417 (by decide)]; exact ⟨h, by omega⟩
  · intro t1 e1 t2 e2 t3 e3
    have g := g37 t2 t3 (g2 t1 t2 e1 e2) e3
    rw [g.1 417 (by decide)]; exact h
  · intro t1 e1 t2 e2 t3 e3 t4 e4
    have g := g38 t3 t4 (g37 t2 t3 (g2 t1 t2 e1 e2) e3) e4
    rw [g.1 417 (by decide)]; exact h
  · intro t1 e1 t2 e2 t3 e3 t4 e4
    have g := g38 t3 t4 (g37 t2 t3 (g2 t1 t2 e1 e2) e3) e4
    rw [g.1 417 (by decide)]; omega
  · intro t1 e1 t2 e2 t3 e3 t4 e4 t5 e5
    have g4 := g38 t3 t4 (g37 t2 t3 (g2 t1 t2 e1 e2) e3) e4
    have g := g39 t4 t5 g4 e5
    rw [k9 t4 g4]
    exact ⟨hf, (sk_cells hK (fun b hb => g.1 b (by omega))).1⟩
  · intro t1 e1 t2 e2 t3 e3 t4 e4 t5 e5 v6 s6 hv
    have g4 := g38 t3 t4 (g37 t2 t3 (g2 t1 t2 e1 e2) e3) e4
    have g := g39 t4 t5 g4 e5
    rw [k9 t4 g4] at hv
    refine k _ s6 ⟨?_, fun b h1 h2 h3 => ?_, fun j hj => ?_⟩
    · have q := sk_cells hK (fun b hb => g.1 b (by omega))
      rw [hv.1]
      unfold wrR ruR
      rw [if_neg (by omega), q.2.1, q.2.2.1, q.2.2.2, g.1 412 (by decide)]
      exact wrF_fa hK.1 g.2 (by omega)
    · rw [hv.2.1 b h1 h2]; exact g.1 b h3
    · rw [hv.2.2 j hj, g.1 407 (by decide)]
def fH (s t : mSt) : Prop := (∀ b, ¬ (b = 407 ∨ b = 415 ∨ b = 416 ∨ 418 ≤ b ∧ b ≤ 422) → t b = s b) ∧ ∀ j, ¬ (j = 18 ∨ 28 ≤ j ∧ j ≤ 35) → t 407 j = s 407 j
theorem fH_rfl (s : mSt) : fH s s := ⟨fun _ _ => rfl, fun _ _ => rfl⟩
theorem fH_tr {s t u : mSt} (a : fH s t) (b : fH t u) : fH s u := ⟨fun x h => (b.1 x h).trans (a.1 x h), fun j h => (b.2 j h).trans (a.2 j h)⟩
theorem fH_Q {s t : mSt} (a : fQ s t) : fH s t := ⟨fun x h => a.1 x (by omega), fun j h => a.2 j (by omega)⟩
theorem fH_S {s t : mSt} (a : fS s t) : fH s t := ⟨fun x h => a.1 x (by omega) (by omega) (by omega), fun j h => a.2 j (by omega)⟩
theorem fo_cells {s t : mSt} (h : FOq s) (e1 : ∀ b, 409 ≤ b ∧ b ≤ 412 → t b = s b) (e2 : t 407 21 = s 407 21) : FOq t ∧ ∀ a, ruR t a = ruR s a := by
  unfold FOq ruR
  rw [e2]
  refine ⟨⟨h.1, fun z => (sk_cells (h.2 z) e1).1⟩, fun a => ?_⟩
  by_cases z : s 407 21 < 0
  · rw [if_pos z, if_pos z]
  · have q := sk_cells (h.2 (by omega)) e1
    rw [if_neg z, if_neg z, q.2.1, q.2.2.1, q.2.2.2, e1 412 (by decide)]
theorem v250 {X : (Nat → Int) × Nat} {d : Nat} {s : mSt} {Q : mQ}
  (I7 : Int → Int → Int → mSt → Prop) (m7 : Int → Int → Int → mSt → Nat)
  (z1 : ∀ y1 : Int, ∀ y2 : Int, ∀ y4 : Int, ∀ s : mSt, I7 y1 y2 y4 s → (s 417 4) ≤ y4 → Q (some (mI y1)) s)
  (z2 : ∀ y1 : Int, ∀ y2 : Int, ∀ y4 : Int, ∀ s : mSt, I7 y1 y2 y4 s → ¬ (s 417 4) ≤ y4 → Ok (s 417))
  (z3 : ∀ y1 : Int, ∀ y2 : Int, ∀ y4 : Int, ∀ s : mSt, I7 y1 y2 y4 s → ¬ (s 417 4) ≤ y4 → ((0 ≤ y4 ∧ y4 < s 417 4) ∧ s 417 (41 + y4.toNat) = 1) → Ok (s 417) ∧ (0 ≤ y4 ∧ y4 < s 417 4))
  (z4 : ∀ y1 : Int, ∀ y2 : Int, ∀ y4 : Int, ∀ s : mSt, I7 y1 y2 y4 s → ¬ (s 417 4) ≤ y4 → ((0 ≤ y4 ∧ y4 < s 417 4) ∧ s 417 (41 + y4.toNat) = 1) → ∀ s4 : mSt, (0 < (pA1 (s 417) y4.toNat).1 ∧ PQ s4 (np (s 417)) (pA1 (s 417) y4.toNat) ∧ fQ s s4) → 0 ≤ (s4 407 21) → WQq s4 y4)
  (z5 : ∀ y1 : Int, ∀ y2 : Int, ∀ y4 : Int, ∀ s : mSt, I7 y1 y2 y4 s → ¬ (s 417 4) ≤ y4 → ((0 ≤ y4 ∧ y4 < s 417 4) ∧ s 417 (41 + y4.toNat) = 1) → ∀ s4 : mSt, (0 < (pA1 (s 417) y4.toNat).1 ∧ PQ s4 (np (s 417)) (pA1 (s 417) y4.toNat) ∧ fQ s s4) → 0 ≤ (s4 407 21) → ∀ v6 : Int, ∀ s6 : mSt, (v6 = ruR s4 (s4 417) y4.toNat ∧ fS s4 s6) → 0 < (lCmp v6 y2) → I7 y4 v6 (w32 (y4 + 1)) s6 ∧ m7 y4 v6 (w32 (y4 + 1)) s6 < m7 y1 y2 y4 s)
  (z6 : ∀ y1 : Int, ∀ y2 : Int, ∀ y4 : Int, ∀ s : mSt, I7 y1 y2 y4 s → ¬ (s 417 4) ≤ y4 → ((0 ≤ y4 ∧ y4 < s 417 4) ∧ s 417 (41 + y4.toNat) = 1) → ∀ s4 : mSt, (0 < (pA1 (s 417) y4.toNat).1 ∧ PQ s4 (np (s 417)) (pA1 (s 417) y4.toNat) ∧ fQ s s4) → 0 ≤ (s4 407 21) → ∀ v6 : Int, ∀ s6 : mSt, (v6 = ruR s4 (s4 417) y4.toNat ∧ fS s4 s6) → ¬ 0 < (lCmp v6 y2) → I7 y1 y2 (w32 (y4 + 1)) s6 ∧ m7 y1 y2 (w32 (y4 + 1)) s6 < m7 y1 y2 y4 s)
  (z7 : ∀ y1 : Int, ∀ y2 : Int, ∀ y4 : Int, ∀ s : mSt, I7 y1 y2 y4 s → ¬ (s 417 4) ≤ y4 → ((0 ≤ y4 ∧ y4 < s 417 4) ∧ s 417 (41 + y4.toNat) = 1) → ∀ s4 : mSt, (0 < (pA1 (s 417) y4.toNat).1 ∧ PQ s4 (np (s 417)) (pA1 (s 417) y4.toNat) ∧ fQ s s4) → ¬ 0 ≤ (s4 407 21) → 0 < (lCmp 1 y2) → I7 y4 1 (w32 (y4 + 1)) s4 ∧ m7 y4 1 (w32 (y4 + 1)) s4 < m7 y1 y2 y4 s)
  (z8 : ∀ y1 : Int, ∀ y2 : Int, ∀ y4 : Int, ∀ s : mSt, I7 y1 y2 y4 s → ¬ (s 417 4) ≤ y4 → ((0 ≤ y4 ∧ y4 < s 417 4) ∧ s 417 (41 + y4.toNat) = 1) → ∀ s4 : mSt, (0 < (pA1 (s 417) y4.toNat).1 ∧ PQ s4 (np (s 417)) (pA1 (s 417) y4.toNat) ∧ fQ s s4) → ¬ 0 ≤ (s4 407 21) → ¬ 0 < (lCmp 1 y2) → I7 y1 y2 (w32 (y4 + 1)) s4 ∧ m7 y1 y2 (w32 (y4 + 1)) s4 < m7 y1 y2 y4 s)
  (z9 : ∀ y1 : Int, ∀ y2 : Int, ∀ y4 : Int, ∀ s : mSt, I7 y1 y2 y4 s → ¬ (s 417 4) ≤ y4 → ((0 ≤ y4 ∧ y4 < s 417 4) ∧ s 417 (41 + y4.toNat) = 1) → ∀ s12 : mSt, ((pA1 (s 417) y4.toNat).1 = 0 ∧ PQ s12 (np (s 417)) (pA1 (s 417) y4.toNat) ∧ fQ s s12) → I7 y1 y2 (w32 (y4 + 1)) s12 ∧ m7 y1 y2 (w32 (y4 + 1)) s12 < m7 y1 y2 y4 s)
  (z10 : ∀ y1 : Int, ∀ y2 : Int, ∀ y4 : Int, ∀ s : mSt, I7 y1 y2 y4 s → ¬ (s 417 4) ≤ y4 → (¬ ((0 ≤ y4 ∧ y4 < s 417 4) ∧ s 417 (41 + y4.toNat) = 1)) → I7 y1 y2 (w32 (y4 + 1)) s ∧ m7 y1 y2 (w32 (y4 + 1)) s < m7 y1 y2 y4 s)
  (z11 : I7 (-1) 0 0 s) :
  Sp X (d + 6) 250 [mR 407] s Q := by
  have L : ∀ k : Nat, (∀ (y1 : Int) (y2 : Int) (l3 : Option mV) (y4 : Int) (l5 : Option mV) (l6 : Option mV) (s : mSt), I7 y1 y2 y4 s → m7 y1 y2 y4 s < k → Wp X (d + 6) 250 7 [some (mR 407), some (mI y1), some (mJ y2), l3, some (mI y4), l5, l6] [] s Q) := by
    intro k
    induction k with
    | zero => exact fun _ _ _ _ _ _ _ _ h => absurd h (Nat.not_lt_zero _)
    | succ k ih => exact fun y1 y2 l3 y4 l5 l6 s hI hm => b250_7 (fun q1 => b250_80 (z1 y1 y2 y4 s hI q1)) (fun q2 => b250_18 (c215 (z2 y1 y2 y4 s hI q2) (fun q3 => ⟨1, rfl, b250_24 (fun q => absurd q (by decide)) (fun _ => b250_27 (c244 (z3 y1 y2 y4 s hI q2 q3) (fun s4 q4 => ⟨1, rfl, b250_33 (fun _ => b250_39 (fun q5 => b250_50 (c249 (z4 y1 y2 y4 s hI q2 q3 s4 q4 q5) (fun v6 s6 q6 => ⟨v6, rfl, b250_56 (fun q7 => b250_68 (b250_74 (ih y4 v6 (kL 0 none) (w32 (y4 + 1)) (some (mJ v6)) none s6 (z5 y1 y2 y4 s hI q2 q3 s4 q4 q5 v6 s6 q6 q7).1 (Nat.lt_of_lt_of_le (z5 y1 y2 y4 s hI q2 q3 s4 q4 q5 v6 s6 q6 q7).2 (Nat.le_of_lt_succ hm))))) (fun q8 => b250_65 (b250_74 (ih y1 y2 (kL 0 l3) (w32 (y4 + 1)) (some (mJ v6)) none s6 (z6 y1 y2 y4 s hI q2 q3 s4 q4 q5 v6 s6 q6 q8).1 (Nat.lt_of_lt_of_le (z6 y1 y2 y4 s hI q2 q3 s4 q4 q5 v6 s6 q6 q8).2 (Nat.le_of_lt_succ hm)))))⟩))) (fun q9 => b250_46 (b250_56 (fun q10 => b250_68 (b250_74 (ih y4 1 (kL 0 none) (w32 (y4 + 1)) (some (mJ 1)) none s4 (z7 y1 y2 y4 s hI q2 q3 s4 q4 q9 q10).1 (Nat.lt_of_lt_of_le (z7 y1 y2 y4 s hI q2 q3 s4 q4 q9 q10).2 (Nat.le_of_lt_succ hm))))) (fun q11 => b250_65 (b250_74 (ih y1 y2 (kL 0 l3) (w32 (y4 + 1)) (some (mJ 1)) none s4 (z8 y1 y2 y4 s hI q2 q3 s4 q4 q9 q11).1 (Nat.lt_of_lt_of_le (z8 y1 y2 y4 s hI q2 q3 s4 q4 q9 q11).2 (Nat.le_of_lt_succ hm)))))))) (fun q => absurd q (by decide))⟩) (fun s12 q12 => ⟨0, rfl, b250_33 (fun q => absurd q (by decide)) (fun _ => b250_36 (b250_74 (ih y1 y2 (kL 0 l3) (w32 (y4 + 1)) l5 l6 s12 (z9 y1 y2 y4 s hI q2 q3 s12 q12).1 (Nat.lt_of_lt_of_le (z9 y1 y2 y4 s hI q2 q3 s12 q12).2 (Nat.le_of_lt_succ hm)))))⟩)))⟩) (fun q13 => ⟨0, rfl, b250_24 (fun _ => b250_74 (ih y1 y2 (kL 0 l3) (w32 (y4 + 1)) l5 l6 s (z10 y1 y2 y4 s hI q2 q13).1 (Nat.lt_of_lt_of_le (z10 y1 y2 y4 s hI q2 q13).2 (Nat.le_of_lt_succ hm)))) (fun q => absurd q (by decide))⟩)))
  exact e250 (b250_0 ((L (m7 (-1) 0 0 s + 1)) (-1) 0 none 0 none none s z11 (Nat.lt_succ_self _)))

theorem c250 {X : (Nat → Int) × Nat} {d : Nat} {s : mSt} {Q : mQ} (p1 : Ok (s 417) ∧ FOq s) (k : ∀ (v : Int) (t : mSt), (v = chA (ruR s (s 417)) (s 417) ∧ fH s t) → Q (some (mI v)) t) : Sp X (d + 6) 250 [mR 407] s Q := by
  obtain ⟨h, hF⟩ := p1
  have h4 := ncI h
  have n6 := nc_le h
  let W : Nat → Int := ruR s (s 417)
  have hW : W = ruR s (s 417) := rfl
  let G : Nat → Int × Int := chF W (okP1 (s 417))
  have hG : ∀ j, G (j + 1) = if okP1 (s 417) j = true ∧ (G j).2 < W j then ((j : Int), W j) else G j := fun j => chF_s _ _ _
  have ok1 : ∀ j : Nat, okP1 (s 417) j = true ↔ ¬ pl (s 417) j = true ∧ 0 < (pA1 (s 417) j).1 := fun j => by
    unfold okP1; simp
  have wt1 : ∀ j : Nat, j < 6 → (s 417 (41 + j) = 1 ↔ ¬ pl (s 417) j = true) := fun j hj => by
    have := okW h (p := j) hj
    unfold pl; rw [decide_eq_true_iff]; omega
  let J : Int → Int → Int → mSt → Prop := fun y1 y2 y4 t => ∃ j : Nat, y4 = j ∧ j ≤ nc (s 417) ∧ y1 = (G j).1 ∧ y2 = (G j).2 ∧ fH s t
  have jj : ∀ y1 y2 y4 t, J y1 y2 y4 t → ¬ t 417 4 ≤ y4 → ∃ j : Nat, y4 = j ∧ j < nc (s 417) ∧ y1 = (G j).1 ∧ y2 = (G j).2 ∧ fH s t ∧ t 417 = s 417 := fun y1 y2 y4 t ⟨j, e, hj, e1, e2, e3⟩ hy => by
    have z : t 417 = s 417 := e3.1 417 (by decide)
    rw [z] at hy
    exact ⟨j, e, by omega, e1, e2, e3, z⟩
  have nx1 : ∀ (j : Nat) (v : Int) (u : mSt), j < nc (s 417) → okP1 (s 417) j = true → v = W j → (G j).2 < v → fH s u → J (j : Int) v (w32 ((j : Int) + 1)) u ∧ (6 - w32 ((j : Int) + 1)).toNat < (6 - (j : Int)).toNat := fun j v u hj ho hv hl hu => by
    rw [w32_of (by omega)]
    refine ⟨⟨j + 1, by omega, by omega, ?_, ?_, hu⟩, by omega⟩
    · rw [hG, if_pos ⟨ho, hv ▸ hl⟩]
    · rw [hG, if_pos ⟨ho, hv ▸ hl⟩]; exact hv
  have nx0 : ∀ (j : Nat) (u : mSt), j < nc (s 417) → ¬ (okP1 (s 417) j = true ∧ (G j).2 < W j) → fH s u → J (G j).1 (G j).2 (w32 ((j : Int) + 1)) u ∧ (6 - w32 ((j : Int) + 1)).toNat < (6 - (j : Int)).toNat := fun j u hj ho hu => by
    rw [w32_of (by omega)]
    refine ⟨⟨j + 1, by omega, by omega, ?_, ?_, hu⟩, by omega⟩
    · rw [hG, if_neg ho]
    · rw [hG, if_neg ho]
  have fo : ∀ t : mSt, fH s t → FOq t ∧ ∀ a, ruR t a = ruR s a := fun t ht => fo_cells hF (fun b hb => ht.1 b (by omega)) (ht.2 21 (by decide))
  have w1 : ∀ (t : mSt) (j : Nat), fH s t → ¬ 0 ≤ t 407 21 → W j = 1 := fun t j ht hz => by
    rw [ht.2 21 (by decide)] at hz
    rw [hW]; unfold ruR; rw [if_pos (by omega)]
  refine v250 J (fun _ _ y _ => (6 - y).toNat) ?_ ?_ ?_ ?_ ?_ ?_ ?_ ?_ ?_ ?_ ?_
  · rintro _ _ _ t ⟨j, rfl, hj, rfl, rfl, ht⟩ hc
    rw [ht.1 417 (by decide)] at hc
    have : j = nc (s 417) := by omega
    subst this
    exact k _ t ⟨rfl, ht⟩
  · intro y1 y2 y4 t hJ hc
    obtain ⟨j, rfl, hj, rfl, rfl, ht, e7⟩ := jj _ _ _ t hJ hc
    rw [e7]; exact h
  · intro y1 y2 y4 t hJ hc q
    obtain ⟨j, rfl, hj, rfl, rfl, ht, e7⟩ := jj _ _ _ t hJ hc
    rw [e7] at q ⊢; exact ⟨h, q.1⟩
  · intro y1 y2 y4 t hJ hc q u hu hz
    obtain ⟨j, rfl, hj, rfl, rfl, ht, e7⟩ := jj _ _ _ t hJ hc
    have hf := fH_tr ht (fH_Q hu.2.2)
    have f := (fo u hf).1
    have e8 : u 417 = s 417 := hf.1 417 (by decide)
    rw [e7] at hu
    unfold WQq
    rw [e8]
    exact ⟨h, by omega, hu.1, hu.2.1, ⟨hz, f.1.2⟩, f.2 hz⟩
  · intro y1 y2 y4 t hJ hc q u hu hz v w hv hl
    obtain ⟨j, rfl, hj, rfl, rfl, ht, e7⟩ := jj _ _ _ t hJ hc
    have hf := fH_tr ht (fH_Q hu.2.2)
    rw [(fo u hf).2, hf.1 417 (by decide), tnc] at hv
    rw [e7, tnc] at hu q
    rw [lCmp_gt] at hl
    exact nx1 j v w hj ((ok1 j).2 ⟨(wt1 j (by omega)).1 q.2, hu.1⟩) hv.1 hl (fH_tr hf (fH_S hv.2))
  · intro y1 y2 y4 t hJ hc q u hu hz v w hv hl
    obtain ⟨j, rfl, hj, rfl, rfl, ht, e7⟩ := jj _ _ _ t hJ hc
    have hf := fH_tr ht (fH_Q hu.2.2)
    rw [(fo u hf).2, hf.1 417 (by decide), tnc] at hv
    rw [lCmp_gt, hv.1] at hl
    exact nx0 j w hj (fun z => hl z.2) (fH_tr hf (fH_S hv.2))
  · intro y1 y2 y4 t hJ hc q u hu hz hl
    obtain ⟨j, rfl, hj, rfl, rfl, ht, e7⟩ := jj _ _ _ t hJ hc
    have hf := fH_tr ht (fH_Q hu.2.2)
    rw [e7, tnc] at hu q
    rw [lCmp_gt] at hl
    exact nx1 j 1 u hj ((ok1 j).2 ⟨(wt1 j (by omega)).1 q.2, hu.1⟩) (w1 u j hf hz).symm hl hf
  · intro y1 y2 y4 t hJ hc q u hu hz hl
    obtain ⟨j, rfl, hj, rfl, rfl, ht, e7⟩ := jj _ _ _ t hJ hc
    have hf := fH_tr ht (fH_Q hu.2.2)
    rw [lCmp_gt] at hl
    exact nx0 j u hj (fun z => hl (by rw [w1 u j hf hz] at z; exact z.2)) hf
  · intro y1 y2 y4 t hJ hc q u hu
    obtain ⟨j, rfl, hj, rfl, rfl, ht, e7⟩ := jj _ _ _ t hJ hc
    have hf := fH_tr ht (fH_Q hu.2.2)
    rw [e7, tnc] at hu
    exact nx0 j u hj (fun z => by have := ((ok1 j).1 z.1).2; omega) hf
  · intro y1 y2 y4 t hJ hc q
    obtain ⟨j, rfl, hj, rfl, rfl, ht, e7⟩ := jj _ _ _ t hJ hc
    rw [e7, tnc] at q
    exact nx0 j t hj (fun z => q ⟨by omega, (wt1 j (by omega)).2 ((ok1 j).1 z.1).1⟩) ht
  · exact ⟨0, rfl, by omega, rfl, rfl, fH_rfl s⟩
def fV (s t : mSt) : Prop := (∀ b, ¬ (b = 407 ∨ 415 ≤ b ∧ b ≤ 422) → t b = s b) ∧ ∀ j, ¬ (j = 18 ∨ 28 ≤ j ∧ j ≤ 35) → t 407 j = s 407 j
theorem fV_rfl (s : mSt) : fV s s := ⟨fun _ _ => rfl, fun _ _ => rfl⟩
theorem fV_tr {s t u : mSt} (a : fV s t) (b : fV t u) : fV s u := ⟨fun x h => (b.1 x h).trans (a.1 x h), fun j h => (b.2 j h).trans (a.2 j h)⟩
theorem fV_H {s t : mSt} (a : fH s t) : fV s t := ⟨fun x h => a.1 x (by omega), fun j h => a.2 j (by omega)⟩
theorem fV_L {s t : mSt} (a : fL s t) : fV s t := ⟨fun x h => a.1 x (by omega), fun j h => a.2 j (by omega)⟩
theorem fV_7 {s : mSt} {j : Nat} {x : Int} : fV s (uS s 417 j x) := ⟨fun b h => uS_cell (by omega), fun j h => by rw [uS_cell (by decide)]⟩
theorem fV_fo {s t : mSt} (h : FOq s) (a : fV s t) : FOq t ∧ ∀ r, ruR t r = ruR s r := fo_cells h (fun b hb => a.1 b (by omega)) (a.2 21 (by decide))
theorem v251 {X : (Nat → Int) × Nat} {d : Nat} {s : mSt} {Q : mQ}
  (z1 : Ok (s 417) ∧ FOq s)
  (z2 : ∀ v1 : Int, ∀ s1 : mSt, (v1 = chA (ruR s (s 417)) (s 417) ∧ fH s s1) → v1 < 0 → Q (some (mI v1)) (uS s1 417 5 (w32 ((s1 417 5) + 1))))
  (z3 : ∀ v1 : Int, ∀ s1 : mSt, (v1 = chA (ruR s (s 417)) (s 417) ∧ fH s s1) → ¬ v1 < 0 → Ok (s1 417) ∧ (0 ≤ v1 ∧ v1 < s1 417 4))
  (z4 : ∀ v1 : Int, ∀ s1 : mSt, (v1 = chA (ruR s (s 417)) (s 417) ∧ fH s s1) → ¬ v1 < 0 → ∀ s4 : mSt, (0 < (pA1 (s1 417) v1.toNat).1 ∧ s4 417 = lyR (s1 417) v1.toNat (pA1 (s1 417) v1.toNat).2.2.2.2 ∧ PQ s4 (np (s1 417)) (pA1 (s1 417) v1.toNat) ∧ fL s1 s4) → Q (some (mI v1)) (uS s4 417 5 (w32 ((s4 417 5) + 1))))
  (z5 : ∀ v1 : Int, ∀ s1 : mSt, (v1 = chA (ruR s (s 417)) (s 417) ∧ fH s s1) → ¬ v1 < 0 → ∀ s5 : mSt, ((pA1 (s1 417) v1.toNat).1 = 0 ∧ s5 417 = s1 417 ∧ fL s1 s5) → Q (some (mI v1)) (uS s5 417 5 (w32 ((s5 417 5) + 1)))) :
  Sp X (d + 7) 251 [mR 407] s Q := e251 (b251_0 (c250 z1 (fun v1 s1 q1 => ⟨v1, rfl, b251_4 (fun q2 => b251_15 (z2 v1 s1 q1 q2)) (fun q3 => b251_9 (c245 (z3 v1 s1 q1 q3) (fun s4 q4 => ⟨1, rfl, b251_14 (b251_15 (z4 v1 s1 q1 q3 s4 q4))⟩) (fun s5 q5 => ⟨0, rfl, b251_14 (b251_15 (z5 v1 s1 q1 q3 s5 q5))⟩)))⟩)))

theorem c251 {X : (Nat → Int) × Nat} {d : Nat} {s : mSt} {Q : mQ} (p1 : Ok (s 417) ∧ FOq s ∧ s 417 5 < 1000000) (k : ∀ (v : Int) (t : mSt), (v = chA (ruR s (s 417)) (s 417) ∧ t 417 = stR (ruR s (s 417)) (s 417) ∧ fV s t) → Q (some (mI v)) t) : Sp X (d + 7) 251 [mR 407] s Q := by
  obtain ⟨h, hF, h5⟩ := p1
  have b5 := ok5 h
  have n5 := np_le h
  have n6 := nc_le h
  have h4 := ncI h
  have hc := chA_ok (w := ruR s (s 417)) (a := s 417)
  have up7 : ∀ (t : mSt) (x : Int), uS t 417 5 x 417 = up (t 417) 5 x := fun t x => by funext j; rw [uS_at]; rfl
  refine v251 ⟨h, hF⟩ ?_ ?_ ?_ ?_
  · intro v t hv hz
    have e7 : t 417 = s 417 := hv.2.1 417 (by decide)
    refine k _ _ ⟨hv.1, ?_, fV_tr (fV_H hv.2) fV_7⟩
    rw [up7, e7, w32_of (by omega)]
    rw [hv.1] at hz
    unfold stR; rw [if_pos hz]
  · intro v t hv hz
    have e7 : t 417 = s 417 := hv.2.1 417 (by decide)
    rw [e7]
    exact ⟨h, by omega⟩
  · intro v t hv hz u hu
    have e7 : t 417 = s 417 := hv.2.1 417 (by decide)
    rw [e7] at hu
    refine k _ _ ⟨hv.1, ?_, fV_tr (fV_tr (fV_H hv.2) (fV_L hu.2.2.2)) fV_7⟩
    rw [hv.1] at hz hu
    have e5 : u 417 5 = s 417 5 := by rw [hu.2.1]; unfold lyR; rw [if_neg (by omega), if_neg (by omega)]
    rw [up7, e5, w32_of (by omega), hu.2.1]
    unfold stR; rw [if_neg hz]
  · intro v t hv hz u hu
    have e7 : t 417 = s 417 := hv.2.1 417 (by decide)
    rw [e7, hv.1] at hu
    rw [hv.1] at hz
    have := (hc.2 (by omega)).2
    omega
