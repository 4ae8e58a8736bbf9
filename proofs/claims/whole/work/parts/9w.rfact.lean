/-! facts: the reference -/
def FPq (s t : mSt) : Prop := RHq t ∧ fRt s t ∧ 0 ≤ t 407 16 ∧ lnR t + t 407 16 ≤ (skR t : Int) ∧ (0 ≤ t 407 13 ∧ t 407 13 ≤ 10)
def FT1 (s t : mSt) : Prop := FPq s t ∧ skR s < skR t ∧ ∀ L K, KRq s L K → ∃ M J, KRq t M J ∧ rch (TR s) (nR s) (-1, skR s, s 407 12, L, K) (-2, skR t, t 407 12, M, J)
def FT0 (s t : mSt) : Prop := 0 < t 407 9 ∧ fRt s t ∧ ∀ L K, KRq s L K → rch (TR s) (nR s) (-1, skR s, s 407 12, L, K) (bad (t 407 9))
/-- an open sign pushed, the token passed -/
theorem psh_s {u w : mSt} {x : Int} {a : Nat} {L J : List Int} (hk : isK x) (hx : x = 200012 ∨ x = 91) (h : KRq u L J) (e : w = uS (uS (uS (uS u 407 13 (u 407 13 + 1)) 414 (u 407 16).toNat (enK x)) 407 16 (u 407 16 + 1)) 407 8 (a : Int)) : KRq w L (x :: J) := by
  have o := h.2.1
  have w7 : ∀ j, w 407 j = if j = 8 then (a : Int) else if j = 16 then u 407 16 + 1 else if j = 13 then u 407 13 + 1 else u 407 j := fun j => by rw [e, uS_at, uS_at, uS_cell (show 407 ≠ 414 by decide), uS_at]
  have w4 : ∀ j, w 414 j = if j = (u 407 16).toNat then enK x else u 414 j := fun j => by rw [e, uS_cell (by decide), uS_cell (by decide), uS_at, uS_cell (by decide)]
  have w16 : w 407 16 = u 407 16 + 1 := by rw [w7]; rfl
  have n1 : (w 407 16).toNat - 1 = (u 407 16).toNat := by omega
  have wt : txR w = txR u := by unfold txR; rw [w7]; rfl
  have wb : sgB w = sgB u := by
    unfold sgB lnR
    rw [wt, e, uS_cell (by decide), uS_cell (by decide), uS_cell (by decide), uS_cell (by decide), uS_cell (by decide), uS_cell (by decide), uS_cell (by decide), uS_cell (by decide)]
  refine ⟨⟨by omega, by rw [n1, w4, if_pos rfl], hk, ?_⟩, by omega, ?_, by unfold SGq; rw [wb]; exact h.2.2.2⟩
  · rw [n1]; exact KS_up h.1 (fun i hi => by rw [w4, if_neg (by omega)])
  · have d := h.2.2.1
    rw [w7]
    show u 407 13 + 1 = _
    rcases hx with rfl | rfl
    · rw [dp_n]; omega
    · rw [dp_b]; omega
theorem psh_f {s u w : mSt} {x : Int} {a : Nat} (hf : fRt s u) (e : w = uS (uS (uS (uS u 407 13 (u 407 13 + 1)) 414 (u 407 16).toNat x) 407 16 (u 407 16 + 1)) 407 8 (a : Int)) : fRt s w ∧ lnR w = lnR u := by
  have f1 : fRt s (uS u 407 13 (u 407 13 + 1)) := fRt_u hf _ (by decide)
  have f2 : fRt (uS u 407 13 (u 407 13 + 1)) (uS (uS u 407 13 (u 407 13 + 1)) 414 (u 407 16).toNat x) := ⟨fun b _ _ _ a4 => uS_cell a4, fun j _ _ _ => by rw [uS_cell (by decide)], fun j _ => by rw [uS_cell (by decide)], fun j _ => by rw [uS_cell (by decide)]⟩
  refine ⟨by rw [e]; exact fRt_u (fRt_u (fRt_t f1 f2) _ (by decide)) _ (by decide), ?_⟩
  have e1 : lnR (uS (uS u 407 13 (u 407 13 + 1)) 414 (u 407 16).toNat x) = lnR u := by
    unfold lnR txR
    rw [uS_cell (show 410 ≠ 414 by decide), uS_cell (show 407 ≠ 414 by decide), uS_cell (show 410 ≠ 407 by decide), uS_at, if_neg (by decide)]
  rw [e, lnR_u _ _ (by decide), lnR_u _ _ (by decide), e1]
theorem v191 {X : (Nat → Int) × Nat} {d : Nat} {s : mSt} {Q : mQ}
  (I2 : Int → mSt → Prop) (m2 : Int → mSt → Nat)
  (z1 : ∀ y1 : Int, ∀ s : mSt, I2 y1 s → y1 = 0 → RHq s ∧ lnR s ≤ (skR s : Int) ∧ ∃ L, SGq s L)
  (z2 : ∀ y1 : Int, ∀ s : mSt, I2 y1 s → y1 = 0 → ∀ s2 : mSt, (TZq s s2 ∧ ∀ L, SGq s L → TM1 s s2 (cpR s L)) → Q (some (mI 1)) s2)
  (z3 : ∀ y1 : Int, ∀ s : mSt, I2 y1 s → y1 = 0 → ∀ s3 : mSt, (∀ L, SGq s L → RZ0 s s3 (cpR s L).1) → Q (some (mI 0)) s3)
  (z4 : ∀ y1 : Int, ∀ s : mSt, I2 y1 s → ¬ y1 = 0 → TRq s)
  (z5 : ∀ y1 : Int, ∀ s : mSt, I2 y1 s → ¬ y1 = 0 → ∀ v5 : Int, ∀ s5 : mSt, (v5 = (if nR s ≤ skR s then -1 else TR s (skR s)) ∧ s5 = uS s 407 8 (skR s : Int)) → TRq s5)
  (z6 : ∀ y1 : Int, ∀ s : mSt, I2 y1 s → ¬ y1 = 0 → ∀ v5 : Int, ∀ s5 : mSt, (v5 = (if nR s ≤ skR s then -1 else TR s (skR s)) ∧ s5 = uS s 407 8 (skR s : Int)) → ∀ s6 : mSt, (iwR s5 (14836 : Int) ∧ s6 = uS s5 407 8 (skR s5 : Int)) → TRq s6 ∧ s6 407 9 = 0 ∧ (0 ≤ s6 407 13 ∧ s6 407 13 ≤ 10) ∧ (0 ≤ s6 407 16 ∧ s6 407 16 < 400))
  (z7 : ∀ y1 : Int, ∀ s : mSt, I2 y1 s → ¬ y1 = 0 → ∀ v5 : Int, ∀ s5 : mSt, (v5 = (if nR s ≤ skR s then -1 else TR s (skR s)) ∧ s5 = uS s 407 8 (skR s : Int)) → ∀ s6 : mSt, (iwR s5 (14836 : Int) ∧ s6 = uS s5 407 8 (skR s5 : Int)) → ∀ s7 : mSt, (s6 407 13 < 10 ∧ s7 = uS (uS (uS s6 407 13 (s6 407 13 + 1)) 414 (s6 407 16).toNat (11 : Int)) 407 16 (s6 407 16 + 1)) → TRq s7)
  (z8 : ∀ y1 : Int, ∀ s : mSt, I2 y1 s → ¬ y1 = 0 → ∀ v5 : Int, ∀ s5 : mSt, (v5 = (if nR s ≤ skR s then -1 else TR s (skR s)) ∧ s5 = uS s 407 8 (skR s : Int)) → ∀ s6 : mSt, (iwR s5 (14836 : Int) ∧ s6 = uS s5 407 8 (skR s5 : Int)) → ∀ s7 : mSt, (s6 407 13 < 10 ∧ s7 = uS (uS (uS s6 407 13 (s6 407 13 + 1)) 414 (s6 407 16).toNat (11 : Int)) 407 16 (s6 407 16 + 1)) → ∀ s8 : mSt, s8 = uS s7 407 8 (leT (TR s7) (nR s7) (s7 407 8).toNat : Int) → I2 1 s8 ∧ m2 1 s8 < m2 y1 s)
  (z9 : ∀ y1 : Int, ∀ s : mSt, I2 y1 s → ¬ y1 = 0 → ∀ v5 : Int, ∀ s5 : mSt, (v5 = (if nR s ≤ skR s then -1 else TR s (skR s)) ∧ s5 = uS s 407 8 (skR s : Int)) → ∀ s6 : mSt, (iwR s5 (14836 : Int) ∧ s6 = uS s5 407 8 (skR s5 : Int)) → ∀ s9 : mSt, (¬ s6 407 13 < 10 ∧ s9 = uS s6 407 9 (1 + 8 * s6 407 8 + 2)) → Q (some (mI 0)) s9)
  (z10 : ∀ y1 : Int, ∀ s : mSt, I2 y1 s → ¬ y1 = 0 → ∀ v5 : Int, ∀ s5 : mSt, (v5 = (if nR s ≤ skR s then -1 else TR s (skR s)) ∧ s5 = uS s 407 8 (skR s : Int)) → ∀ s10 : mSt, (¬ iwR s5 (14836 : Int) ∧ s10 = uS s5 407 8 (skR s5 : Int)) → ¬ v5 = 91 → I2 0 s10 ∧ m2 0 s10 < m2 y1 s)
  (z11 : ∀ y1 : Int, ∀ s : mSt, I2 y1 s → ¬ y1 = 0 → ∀ v5 : Int, ∀ s5 : mSt, (v5 = (if nR s ≤ skR s then -1 else TR s (skR s)) ∧ s5 = uS s 407 8 (skR s : Int)) → ∀ s10 : mSt, (¬ iwR s5 (14836 : Int) ∧ s10 = uS s5 407 8 (skR s5 : Int)) → v5 = 91 → TRq s10 ∧ s10 407 9 = 0 ∧ (0 ≤ s10 407 13 ∧ s10 407 13 ≤ 10) ∧ (0 ≤ s10 407 16 ∧ s10 407 16 < 400))
  (z12 : ∀ y1 : Int, ∀ s : mSt, I2 y1 s → ¬ y1 = 0 → ∀ v5 : Int, ∀ s5 : mSt, (v5 = (if nR s ≤ skR s then -1 else TR s (skR s)) ∧ s5 = uS s 407 8 (skR s : Int)) → ∀ s10 : mSt, (¬ iwR s5 (14836 : Int) ∧ s10 = uS s5 407 8 (skR s5 : Int)) → v5 = 91 → ∀ s13 : mSt, (s10 407 13 < 10 ∧ s13 = uS (uS (uS s10 407 13 (s10 407 13 + 1)) 414 (s10 407 16).toNat (91 : Int)) 407 16 (s10 407 16 + 1)) → ∀ t14 : mSt, t14 = uS s13 407 8 (w32 ((s13 407 8) + 1)) → I2 1 t14 ∧ m2 1 t14 < m2 y1 s)
  (z13 : ∀ y1 : Int, ∀ s : mSt, I2 y1 s → ¬ y1 = 0 → ∀ v5 : Int, ∀ s5 : mSt, (v5 = (if nR s ≤ skR s then -1 else TR s (skR s)) ∧ s5 = uS s 407 8 (skR s : Int)) → ∀ s10 : mSt, (¬ iwR s5 (14836 : Int) ∧ s10 = uS s5 407 8 (skR s5 : Int)) → v5 = 91 → ∀ s15 : mSt, (¬ s10 407 13 < 10 ∧ s15 = uS s10 407 9 (1 + 8 * s10 407 8 + 2)) → Q (some (mI 0)) s15)
  (z14 : I2 1 s) :
  Sp X (d + 7) 191 [mR 407] s Q := by
  have L : ∀ k : Nat, (∀ (y1 : Int) (l2 : Option mV) (s : mSt), I2 y1 s → m2 y1 s < k → Wp X (d + 7) 191 2 [some (mR 407), some (mI y1), l2] [] s Q) := by
    intro k
    induction k with
    | zero => exact fun _ _ _ _ h => absurd h (Nat.not_lt_zero _)
    | succ k ih => exact fun y1 l2 s hI hm => b191_2 (fun q1 => b191_75 (c190 (z1 y1 s hI q1) (fun s2 q2 => ⟨1, rfl, b191_79 (z2 y1 s hI q1 s2 q2) (Or.inr rfl)⟩) (fun s3 q3 => ⟨0, rfl, b191_79 (z3 y1 s hI q1 s3 q3) (Or.inl rfl)⟩))) (fun q4 => b191_6 (c174 (z4 y1 s hI q4) (fun v5 s5 q5 => ⟨v5, rfl, b191_12 (c177 (z5 y1 s hI q4 v5 s5 q5) (fun s6 q6 => ⟨1, rfl, b191_20 (fun q => absurd q (by decide)) (fun _ => b191_23 (c184 (z6 y1 s hI q4 v5 s5 q5 s6 q6) (fun s7 q7 => ⟨1, rfl, b191_29 (fun _ => b191_34 (c178 (z7 y1 s hI q4 v5 s5 q5 s6 q6 s7 q7) (fun s8 q8 => ⟨rfl, b191_38 (b191_72 (ih 1 (some (mI v5)) s8 (z8 y1 s hI q4 v5 s5 q5 s6 q6 s7 q7 s8 q8).1 (Nat.lt_of_lt_of_le (z8 y1 s hI q4 v5 s5 q5 s6 q6 s7 q7 s8 q8).2 (Nat.le_of_lt_succ hm))))⟩))) (fun q => absurd q (by decide))⟩) (fun s9 q9 => ⟨0, rfl, b191_29 (fun q => absurd q (by decide)) (fun _ => b191_32 (z9 y1 s hI q4 v5 s5 q5 s6 q6 s9 q9))⟩)))⟩) (fun s10 q10 => ⟨0, rfl, b191_20 (fun _ => b191_43 (fun q11 => b191_72 (ih 0 (some (mI v5)) s10 (z10 y1 s hI q4 v5 s5 q5 s10 q10 q11).1 (Nat.lt_of_lt_of_le (z10 y1 s hI q4 v5 s5 q5 s10 q10 q11).2 (Nat.le_of_lt_succ hm)))) (fun q12 => b191_49 (c184 (z11 y1 s hI q4 v5 s5 q5 s10 q10 q12) (fun s13 q13 => ⟨1, rfl, b191_55 (fun _ => b191_60 (Wp_gen (fun t14 e14 => b191_72 (ih 1 (some (mI v5)) t14 (z12 y1 s hI q4 v5 s5 q5 s10 q10 q12 s13 q13 t14 e14).1 (Nat.lt_of_lt_of_le (z12 y1 s hI q4 v5 s5 q5 s10 q10 q12 s13 q13 t14 e14).2 (Nat.le_of_lt_succ hm)))))) (fun q => absurd q (by decide))⟩) (fun s15 q15 => ⟨0, rfl, b191_55 (fun q => absurd q (by decide)) (fun _ => b191_58 (z13 y1 s hI q4 v5 s5 q5 s10 q10 q12 s15 q15))⟩)))) (fun q => absurd q (by decide))⟩))⟩)))
  exact e191 (b191_0 ((L (m2 1 s + 1)) 1 none s z14 (Nat.lt_succ_self _)))

theorem c191 {X : (Nat → Int) × Nat} {d : Nat} {s : mSt} {Q : mQ} (p1 : FPq s s ∧ ∃ L K, KRq s L K) (k1 : ∀ t : mSt, (FT1 s t) → Q (some (mI 1)) t) (k0 : ∀ t : mSt, (FT0 s t) → Q (some (mI 0)) t) : Sp X (d + 7) 191 [mR 407] s Q := by
  obtain ⟨hF, L0, K0, hK0⟩ := p1
  have h := hF.1
  have hT := TR_t h.1
  have hb := skR_b h.1
  let I2 : Int → mSt → Prop := fun y t => FPq s t ∧ (skR s ≤ skR t ∧ t 407 12 = s 407 12 ∧ skR t ≤ 400) ∧ (∃ L K, KRq t L K) ∧ (y = 0 → ¬ wnA (TR s) (nR s) (skR t) = 18 ∧ ¬ tkK (TR s) (nR s) (skR t) = 91) ∧ ∀ L K, KRq s L K → ∃ J, KRq t L J ∧ rch (TR s) (nR s) (-1, skR s, s 407 12, L, K) (-1, skR t, s 407 12, L, J)
  have one : ∀ {y : Int} {t : mSt}, I2 y t → I2 1 t := fun {y t} hI => ⟨hI.1, hI.2.1, hI.2.2.1, fun z => absurd z (by decide), hI.2.2.2.2⟩
  have see : ∀ (t u : mSt), I2 1 t → u = uS t 407 8 (skR t : Int) → I2 1 u ∧ u 407 8 = (skR u : Int) ∧ skR u = skR t := by
    rintro t u ⟨⟨q1, q2, q3, q4, q5⟩, q6, ⟨L1, K1, hK1⟩, q8, hR⟩ e
    have w := see_s q1 e
    have e1 := w.2.1
    have e2 := w.2.2.1
    have u16 : u 407 16 = t 407 16 := by rw [e, uS_at, if_neg (by decide)]
    have u13 : u 407 13 = t 407 13 := by rw [e, uS_at, if_neg (by decide)]
    refine ⟨⟨⟨RG_H q1 w.1, fRt_t q2 (by rw [e]; exact fRt_u (fRt_0 t) _ (by decide)), by omega, by omega, by omega⟩, ⟨by omega, by rw [w.2.2.2.2.1]; exact q6.2.1, by omega⟩, ⟨L1, K1, by rw [e]; exact KR_8 hK1 _⟩, fun z => absurd z (by decide), fun L K hK => ?_⟩, w.2.2.2.2.2, e1⟩
    obtain ⟨J, hJ, r⟩ := hR L K hK
    exact ⟨J, by rw [e]; exact KR_8 hJ _, by rw [e1]; exact r⟩
  have opn : ∀ (u w : mSt) (x : Int) (a : Nat), I2 1 u → u 407 13 < 10 → (x = 200012 ∧ wnA (TR s) (nR s) (skR u) = 18 ∨ x = 91 ∧ ¬ wnA (TR s) (nR s) (skR u) = 18 ∧ tkK (TR s) (nR s) (skR u) = 91) → a ≤ nR s → sk (TR s) (nR s) a = nxA (TR s) (nR s) (skR u) → w = uS (uS (uS (uS u 407 13 (u 407 13 + 1)) 414 (u 407 16).toNat (enK x)) 407 16 (u 407 16 + 1)) 407 8 (a : Int) → I2 1 w ∧ skR u < skR w := by
    rintro u w x a ⟨⟨q1, q2, q3, q4, q5⟩, q6, ⟨L1, K1, hK1⟩, q8, hR⟩ h13 hx ha hsk e
    have xu := fRt_x q2
    have hx2 : x = 200012 ∨ x = 91 := by
      rcases hx with z | z
      · exact Or.inl z.1
      · exact Or.inr z.1
    have hk : isK x := by
      rcases hx2 with z | z
      · exact Or.inr (Or.inr (Or.inr z))
      · exact Or.inl z
    have pf := psh_f q2 e
    have xw := fRt_x pf.1
    have w7 : ∀ j, w 407 j = if j = 8 then (a : Int) else if j = 16 then u 407 16 + 1 else if j = 13 then u 407 13 + 1 else u 407 j := fun j => by rw [e, uS_at, uS_at, uS_cell (show 407 ≠ 414 by decide), uS_at]
    have w8 : w 407 8 = (a : Int) := by rw [w7]; rfl
    have w16 : w 407 16 = u 407 16 + 1 := by rw [w7]; rfl
    have w13 : w 407 13 = u 407 13 + 1 := by rw [w7]; rfl
    have kw : skR w = nxA (TR s) (nR s) (skR u) := by
      show sk (TR w) (nR w) (w 407 8).toNat = _
      rw [xw.2.1, xw.2.2, w8, tnc]; exact hsk
    have lt : skR u < nR s := by
      rcases hx with z | z
      · exact k_lt (by rw [w_257 (by decide) z.2]; decide)
      · exact k_lt (by rw [z.2.2]; decide)
    have nb := nxA_b (TR s) (Nat.le_of_lt lt)
    have lt2 := nb.2.2 lt
    have wl := pf.2
    refine ⟨⟨⟨⟨?_, by rw [w7]; exact q1.2.1, by rw [w7]; exact q1.2.2.1, by rw [wl]; exact q1.2.2.2.1, by rw [w7]; exact q1.2.2.2.2⟩, pf.1, by omega, by omega, by omega⟩, ⟨by omega, by rw [w7]; exact q6.2.1, by omega⟩, ⟨L1, x :: K1, psh_s hk hx2 hK1 e⟩, fun z => absurd z (by decide), fun L K hK => ?_⟩, by omega⟩
    · have a0 := q1.1
      have n1 := nR_e a0
      rw [xu.2.2] at n1
      have w1 : w 407 1 = u 407 1 := by rw [w7]; rfl
      have w48 : w 408 = u 408 := by rw [e, uS_cell (by decide), uS_cell (by decide), uS_cell (by decide), uS_cell (by decide)]
      exact ⟨by rw [w48]; exact a0.1, by rw [w1]; exact a0.2.1, by rw [w8]; omega, by rw [w8, w1]; omega⟩
    · obtain ⟨J, hJ, r⟩ := hR L K hK
      refine ⟨x :: J, psh_s hk hx2 hJ e, rch_t r ?_⟩
      rw [kw]
      have y2 := rch_s (T := TR s) (n := nR s) (-1, skR u, s 407 12, L, J)
      rw [st_F] at y2
      have dj : ¬ 10 ≤ dpK J := by have := hJ.2.2.1; omega
      have ef : mtF (TR s) (nR s) (skR u) (s 407 12) L J = (-1, nxA (TR s) (nR s) (skR u), s 407 12, L, x :: J) := by
        unfold mtF
        rcases hx with ⟨rfl, z⟩ | ⟨rfl, z1, z2⟩
        · rw [if_pos z, if_neg dj]
        · rw [if_neg z1, if_pos z2, if_neg dj]
      rw [ef] at y2; exact y2
  have fal : ∀ u w : mSt, I2 1 u → u 407 8 = (skR u : Int) → ¬ u 407 13 < 10 → (wnA (TR s) (nR s) (skR u) = 18 ∨ ¬ wnA (TR s) (nR s) (skR u) = 18 ∧ tkK (TR s) (nR s) (skR u) = 91) → w = uS u 407 9 (1 + 8 * u 407 8 + 2) → FT0 s w := by
    rintro u w ⟨⟨q1, q2, q3, q4, q5⟩, q6, ⟨L1, K1, hK1⟩, q8, hR⟩ e8 h13 hx e
    have w9 : w 407 9 = fuA (skR u) 2 := by rw [e, uS_at, if_pos rfl, e8]; rfl
    refine ⟨by rw [w9]; unfold fuA; omega, by rw [e]; exact fRt_u q2 _ (by decide), fun L K hK => ?_⟩
    obtain ⟨J, hJ, r⟩ := hR L K hK
    refine rch_t r ?_
    have y2 := rch_s (T := TR s) (n := nR s) (-1, skR u, s 407 12, L, J)
    rw [st_F] at y2
    have dj : 10 ≤ dpK J := by have := hJ.2.2.1; omega
    have ef : mtF (TR s) (nR s) (skR u) (s 407 12) L J = bad (w 407 9) := by
      unfold mtF
      rw [w9]
      rcases hx with z | ⟨z1, z2⟩
      · rw [if_pos z, if_pos dj]
      · rw [if_neg z1, if_pos z2, if_pos dj]
    rw [ef] at y2; exact y2
  have wrd : ∀ {t u : mSt}, I2 1 t → u = uS t 407 8 (skR t : Int) → (iwR u (14836 : Int) ↔ wnA (TR s) (nR s) (skR t) = 18) := fun {t u} hI e => by
    have x := fRt_x hI.1.2.1
    rw [iw9 e, iw_k hI.1.1.1 (by decide) cWd.2.2.2.2, x.2.1, x.2.2]
    exact Iff.rfl
  have raw : ∀ {t : mSt} {v : Int}, I2 1 t → v = (if nR t ≤ skR t then -1 else TR t (skR t)) → (v = 91 ↔ tkK (TR s) (nR s) (skR t) = 91) := fun {t v} hI ev => by
    have x := fRt_x hI.1.2.1
    rw [x.2.1, x.2.2] at ev
    rw [ev]
    exact rw_k hT (by decide) (by decide) (by decide) (by decide)
  have cpe : ∀ {t : mSt} (L : List Int), I2 0 t → cpR t L = cpF (TR s) (nR s) (skR t) (s 407 12) L := fun {t} L hI => by
    have x := fRt_x hI.1.2.1
    unfold cpR
    rw [x.2.1, x.2.2, hI.2.1.2.1]
  have stp : ∀ {t : mSt} (L J : List Int), I2 0 t → mtF (TR s) (nR s) (skR t) (s 407 12) L J = if (cpR t L).1 = 0 then (-2, (cpR t L).2.1, (cpR t L).2.2.1, (cpR t L).2.2.2, J) else bad (cpR t L).1 := fun {t} L J hI => by
    have z := hI.2.2.2.1 rfl
    unfold mtF
    rw [if_neg z.1, if_neg z.2, cpe L hI]
  refine v191 I2 (fun y t => 2 * (1000 - skR t) + (if y = 0 then 0 else 1)) ?_ ?_ ?_ ?_ ?_ ?_ ?_ ?_ ?_ ?_ ?_ ?_ ?_ ?_
  · rintro y1 t hI rfl
    obtain ⟨⟨q1, q2, q3, q4, q5⟩, q6, ⟨L1, K1, hK1⟩, q8, hR⟩ := hI
    exact ⟨q1, by omega, L1, hK1.2.2.2⟩
  · rintro y1 t hI rfl u ⟨⟨g, gl, gk⟩, hL⟩
    have hI' := hI
    obtain ⟨⟨q1, q2, q3, q4, q5⟩, q6, ⟨L1, K1, hK1⟩, q8, hR⟩ := hI
    have u16 : u 407 16 = t 407 16 := g.2.2.2.2.2.1 16 (by decide) (by decide)
    have u13 : u 407 13 = t 407 13 := g.2.2.2.2.2.1 13 (by decide) (by decide)
    have u4 : u 414 = t 414 := g.2.2.2.2.1 414 (by decide) (by decide) (by decide)
    refine k1 u ⟨⟨RG_H q1 g, fRt_t q2 (fRv_T g.2.2.2.2), by omega, by omega, by omega⟩, by omega, fun L K hK => ?_⟩
    obtain ⟨J, hJ, r⟩ := hR L K hK
    obtain ⟨z1, z2, z3, z4⟩ := hL L hJ.2.2.2
    refine ⟨(cpR t L).2.2.2, J, ⟨by rw [u4, u16]; exact hJ.1, by rw [u16]; exact hJ.2.1, by rw [u13]; exact hJ.2.2.1, z4⟩, rch_t r ?_⟩
    have y2 := rch_s (T := TR s) (n := nR s) (-1, skR t, s 407 12, L, J)
    rw [st_F, stp L J hI', if_pos z1] at y2
    rw [z2, z3]; exact y2
  · rintro y1 t hI rfl u hL
    have hI' := hI
    obtain ⟨⟨q1, q2, q3, q4, q5⟩, q6, ⟨L1, K1, hK1⟩, q8, hR⟩ := hI
    have f1 := hL L1 hK1.2.2.2
    refine k0 u ⟨by rw [f1.1]; exact f1.2.1, fRt_t q2 (fRv_T f1.2.2), fun L K hK => ?_⟩
    obtain ⟨J, hJ, r⟩ := hR L K hK
    obtain ⟨z1, z2, z3⟩ := hL L hJ.2.2.2
    have y2 := rch_s (T := TR s) (n := nR s) (-1, skR t, s 407 12, L, J)
    rw [st_F, stp L J hI', if_neg (by omega)] at y2
    rw [z1]; exact rch_t r y2
  · intro y1 t hI _
    exact hI.1.1.1
  · rintro y1 t hI _ v u ⟨_, e⟩
    exact (see t u (one hI) e).1.1.1.1
  · rintro y1 t hI _ v u ⟨_, e⟩ w ⟨hw, e2⟩
    have q := see t w (one hI) (R8q e e2)
    obtain ⟨⟨q1, q2, q3, q4, q5⟩, q6, _⟩ := q.1
    have lt : skR t < nR s := k_lt (by rw [w_257 (by decide) ((wrd (one hI) e).1 hw)]; decide)
    have e3 := q.2.2
    have l0 := q1.2.2.2.1
    exact ⟨q1.1, q1.2.1, q5, q3, by omega⟩
  · rintro y1 t hI _ v u ⟨_, e⟩ w ⟨hw, e2⟩ x ⟨_, ex⟩
    have q := see t w (one hI) (R8q e e2)
    have a := q.1.1.1.1
    have x7 : ∀ j, x 407 j = if j = 16 then w 407 16 + 1 else if j = 13 then w 407 13 + 1 else w 407 j := fun j => by rw [ex, uS_at, uS_cell (show 407 ≠ 414 by decide), uS_at]
    have x48 : x 408 = w 408 := by rw [ex, uS_cell (by decide), uS_cell (by decide), uS_cell (by decide)]
    refine ⟨by rw [x48]; exact a.1, by rw [x7]; exact a.2.1, by rw [x7, x7]; exact a.2.2⟩
  · rintro y1 t hI hy v u ⟨_, e⟩ w ⟨hw, e2⟩ x ⟨h13, ex⟩ y ey
    have q := see t w (one hI) (R8q e e2)
    have hn := (wrd (one hI) e).1 hw
    have e3 := q.2.2
    rw [← e3] at hn
    have xw := fRt_x q.1.1.2.1
    have x7 : ∀ j, x 407 j = if j = 16 then w 407 16 + 1 else if j = 13 then w 407 13 + 1 else w 407 j := fun j => by rw [ex, uS_at, uS_cell (show 407 ≠ 414 by decide), uS_at]
    have x48 : x 408 = w 408 := by rw [ex, uS_cell (by decide), uS_cell (by decide), uS_cell (by decide)]
    have xT : TR x = TR s := by rw [← xw.2.1]; unfold TR; rw [x48]
    have xn : nR x = nR s := by rw [← xw.2.2]; unfold nR; rw [x7]; rfl
    have x8 : x 407 8 = (skR w : Int) := by rw [x7]; exact q.2.1
    rw [xT, xn, x8, tnc] at ey
    have tL := (tkL hT).1 (w_257 (by decide) hn)
    have tp := tkP_L tL
    have o := opn w y 200012 (leT (TR s) (nR s) (skR w)) q.1 h13 (Or.inl ⟨rfl, hn⟩) ((leT_b (TR s) (nR s) (skR w)).2 (by omega)) (by unfold nxA; rw [tp]) (by rw [ey, ex]; rfl)
    have l := o.1.2.1.2.2
    refine ⟨o.1, ?_⟩
    show 2 * (1000 - skR y) + 1 < 2 * (1000 - skR t) + (if y1 = 0 then 0 else 1)
    rw [if_neg hy]
    have := o.2
    omega
  · rintro y1 t hI hy v u ⟨_, e⟩ w ⟨hw, e2⟩ x ⟨h13, ex⟩
    have q := see t w (one hI) (R8q e e2)
    have hn := (wrd (one hI) e).1 hw
    rw [← q.2.2] at hn
    exact k0 x (fal w x q.1 q.2.1 h13 (Or.inl hn) ex)
  · rintro y1 t hI hy v u ⟨ev, e⟩ w ⟨hw, e2⟩ hv
    have q := see t w (one hI) (R8q e e2)
    have hn : ¬ wnA (TR s) (nR s) (skR t) = 18 := fun z => hw ((wrd (one hI) e).2 z)
    have hk : ¬ tkK (TR s) (nR s) (skR t) = 91 := fun z => hv ((raw (one hI) ev).2 z)
    have e3 := q.2.2
    refine ⟨⟨q.1.1, q.1.2.1, q.1.2.2.1, fun _ => by rw [e3]; exact ⟨hn, hk⟩, q.1.2.2.2.2⟩, ?_⟩
    show 2 * (1000 - skR w) + 0 < 2 * (1000 - skR t) + (if y1 = 0 then 0 else 1)
    rw [if_neg hy, e3]
    omega
  · rintro y1 t hI _ v u ⟨ev, e⟩ w ⟨hw, e2⟩ hv
    have q := see t w (one hI) (R8q e e2)
    obtain ⟨⟨q1, q2, q3, q4, q5⟩, q6, _⟩ := q.1
    have lt : skR t < nR s := k_lt (by rw [(raw (one hI) ev).1 hv]; decide)
    have e3 := q.2.2
    have l0 := q1.2.2.2.1
    exact ⟨q1.1, q1.2.1, q5, q3, by omega⟩
  · rintro y1 t hI hy v u ⟨ev, e⟩ w ⟨hw, e2⟩ hv x ⟨h13, ex⟩ y ey
    have q := see t w (one hI) (R8q e e2)
    have hn : ¬ wnA (TR s) (nR s) (skR t) = 18 := fun z => hw ((wrd (one hI) e).2 z)
    have hk := (raw (one hI) ev).1 hv
    have e3 := q.2.2
    rw [← e3] at hn hk
    have lt : skR w < nR s := k_lt (by rw [hk]; decide)
    have x8 : x 407 8 = (skR w : Int) := by rw [ex, uS_at, if_neg (by decide), uS_cell (by decide), uS_at, if_neg (by decide)]; exact q.2.1
    have a8 : w32 ((skR w : Int) + 1) = ((skR w + 1 : Nat) : Int) := by rw [w32_of (by omega)]; omega
    rw [x8, a8] at ey
    clear x8 a8
    have b1 := one_b hT lt (c := 91) (by
        have := (rw_k hT (n := nR s) (a := skR w) (c := 91) (by decide) (by decide) (by decide) (by decide)).2 hk
        unfold rwA at this
        rw [if_neg (by omega)] at this
        exact this) (by decide) (by decide) (by decide)
    have o := opn w y 91 (skR w + 1) q.1 h13 (Or.inr ⟨rfl, hn, hk⟩) (by omega) (by unfold nxA; rw [b1]) (by rw [ey, ex]; rfl)
    have l := o.1.2.1.2.2
    refine ⟨o.1, ?_⟩
    show 2 * (1000 - skR y) + 1 < 2 * (1000 - skR t) + (if y1 = 0 then 0 else 1)
    rw [if_neg hy]
    have := o.2
    omega
  · rintro y1 t hI hy v u ⟨ev, e⟩ w ⟨hw, e2⟩ hv x ⟨h13, ex⟩
    have q := see t w (one hI) (R8q e e2)
    have hn : ¬ wnA (TR s) (nR s) (skR t) = 18 := fun z => hw ((wrd (one hI) e).2 z)
    have hk := (raw (one hI) ev).1 hv
    rw [← q.2.2] at hn hk
    exact k0 x (fal w x q.1 q.2.1 h13 (Or.inr ⟨hn, hk⟩) ex)
  · exact ⟨hF, ⟨Nat.le_refl _, rfl, by omega⟩, ⟨L0, K0, hK0⟩, fun z => absurd z (by decide), fun L K hK => ⟨K, hK, rch_0 _⟩⟩
