/-! facts: the reference -/
def FPq (s t : mSt) : Prop := RHq t ∧ fRt s t ∧ 0 ≤ t 407 16 ∧ lnR t + t 407 16 ≤ (skR t : Int) ∧ (0 ≤ t 407 13 ∧ t 407 13 ≤ 10)
def FT1 (s t : mSt) : Prop := FPq s t ∧ skR s < skR t ∧ ∀ L K, KRq s L K → ∃ M J, KRq t M J ∧ rch (TR s) (nR s) (-1, skR s, s 407 12, L, K) (-2, skR t, t 407 12, M, J)
def FT0 (s t : mSt) : Prop := 0 < t 407 9 ∧ fRt s t ∧ ∀ L K, KRq s L K → rch (TR s) (nR s) (-1, skR s, s 407 12, L, K) (bad (t 407 9))
/-- an open sign pushed, the token passed -/
theorem psh_s {u w : mSt} {x : Int} {a : Nat} {L J : List Int} (hk : isK x) (hx : x = 200012 ∨ x = 91) (h : KRq u L J) (e : w = uS (uS (uS (uS u 407 13 (u 407 13 + 1)) 414 (u 407 16).toNat (enK x)) 407 16 (u 407 16 + 1)) 407 8 (a : Int)) : KRq w L (x :: J) := by
  have o := h.2.1
  have w7 : ∀ j, w 407 j = if j = 8 then (a : Int) else if j = 16 then u 407 16 + 1 else if j = 13 then u 407 13 + 1 else u 407 j := fun j => by rw [e, uS_at, uS_at, uS_cell (show 407 ≠ 414 by decide), uS_at]
  have w4 : ∀ j, w 414 j = if j = (u 407 16).toNat then enK x else u 414 j := fun j => by rw [e, uS_cell (by decide), uS_cell (by decide), uS_at, uS_cell (by decide)]
  have w16 : w 407 16 = u 407 16 + 1 := by rw [w7]; rfl
  have n1 : (w 407 16).toNat - 1 = (u 407 16).toNat := by omega
  have wt : txR w = txR u := by unfold txR; rw [w7]; rfl
  have wb : sgB w = sgB u := by
    unfold sgB lnR
    rw [wt, e, uS_cell (by decide), uS_cell (by decide), uS_cell (by decide), uS_cell (by decide), uS_cell (by decide), uS_cell (by decide), uS_cell (by decide), uS_cell (by decide)]
  refine ⟨⟨by omega, by rw [n1, w4, if_pos rfl], hk, ?_⟩, by omega, ?_, by unfold SGq; rw [wb]; exact h.2.2.2⟩
  · rw [n1]; exact KS_up h.1 (fun i hi => by rw [w4, if_neg (by omega)])
  · have d := h.2.2.1
    rw [w7]
    show u 407 13 + 1 = _
    rcases hx with rfl | rfl
    · rw [dp_n]; omega
    · rw [dp_b]; omega
theorem psh_f {s u w : mSt} {x : Int} {a : Nat} (hf : fRt s u) (e : w = uS (uS (uS (uS u 407 13 (u 407 13 + 1)) 414 (u 407 16).toNat x) 407 16 (u 407 16 + 1)) 407 8 (a : Int)) : fRt s w ∧ lnR w = lnR u := by
  have f1 : fRt s (uS u 407 13 (u 407 13 + 1)) := fRt_u hf _ (by decide)
  have f2 : fRt (uS u 407 13 (u 407 13 + 1)) (uS (uS u 407 13 (u 407 13 + 1)) 414 (u 407 16).toNat x) := ⟨fun b _ _ _ a4 => uS_cell a4, fun j _ _ _ => by rw [uS_cell (by decide)], fun j _ => by rw [uS_cell (by decide)], fun j _ => by rw [uS_cell (by decide)]⟩
  refine ⟨by rw [e]; exact fRt_u (fRt_u (fRt_t f1 f2) _ (by decide)) _ (by decide), ?_⟩
  have e1 : lnR (uS (uS u 407 13 (u 407 13 + 1)) 414 (u 407 16).toNat x) = lnR u := by
    unfold lnR txR
    rw [uS_cell (show 410 ≠ 414 by decide), uS_cell (show 407 ≠ 414 by decide), uS_cell (show 410 ≠ 407 by decide), uS_at, if_neg (by decide)]
  rw [e, lnR_u _ _ (by decide), lnR_u _ _ (by decide), e1]
