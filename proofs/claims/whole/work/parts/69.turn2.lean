/-! turns: the class -/
def fT (s t : mSt) : Prop := ∀ b, ¬ (44 ≤ b ∧ b ≤ 52) → t b = s b
theorem bd_52 {a : Nat} (h : isBd a) : a + 9 < 44 ∨ 52 < a := (show ∀ a ∈ bdL, a + 9 < 44 ∨ 52 < a by decide +kernel) a h
theorem BI_fT {s t : mSt} {k : Nat} (hk : isBd k) (h : BI s k) (e : fT s t) : BI t k ∧ brow t k = brow s k := by
  have hp := bd_52 hk
  have hl := bd_lt hk
  exact BI_cells h (fun x hx => e x (by omega)) (e 417 (by omega))
theorem rl_cells {s t : mSt} {k : Nat} (hk : isRl k) (e : ∀ b, 83 ≤ b ∧ b < 107 → t b = s b) : sgC t k = sgC s k ∧ E1c t k = E1c s k ∧ E3c t k = E3c s k ∧ t k = s k ∧ (WKq s k → WKq t k) := by
  have hb := rl_b hk
  have e1 : sgC t k = sgC s k := by funext i; unfold sgC; rw [e _ (by omega)]
  have e2 : E1c t k = E1c s k := by funext i; unfold E1c; rw [e _ (by omega)]
  have e3 : E3c t k = E3c s k := by funext i; unfold E3c; rw [e _ (by omega)]
  refine ⟨e1, e2, e3, e k (by omega), fun h => ?_⟩
  unfold WKq at h ⊢
  rw [e1, e2, e3, e k (by omega), e (k + 2) (by omega), e (k + 3) (by omega)]; exact h
theorem v119 {X : (Nat → Int) × Nat} {d : Nat} {s : mSt} {Q : mQ} {a1 : Nat} {a2 : Nat} (h1 : isBd a1) (h2 : isRl a2)
  (I48 : Int → Int → Int → mSt → Prop) (m48 : Int → Int → Int → mSt → Nat)
  (z1 : ∀ y3 : Int, ∀ y4 : Int, ∀ y6 : Int, ∀ s : mSt, I48 y3 y4 y6 s → (s a1 3) ≤ y6 → Q (some (mI y3)) s)
  (z2 : ∀ y3 : Int, ∀ y4 : Int, ∀ y6 : Int, ∀ s : mSt, I48 y3 y4 y6 s → ¬ (s a1 3) ≤ y6 → BI s a1)
  (z3 : ∀ y3 : Int, ∀ y4 : Int, ∀ y6 : Int, ∀ s : mSt, I48 y3 y4 y6 s → ¬ (s a1 3) ≤ y6 → ((0 ≤ y6 ∧ y6 < s a1 3) ∧ ¬ pl (brow s a1) y6.toNat = true) → 0 ≤ y6 ∧ y6 < 6)
  (z4 : ∀ y3 : Int, ∀ y4 : Int, ∀ y6 : Int, ∀ s : mSt, I48 y3 y4 y6 s → ¬ (s a1 3) ≤ y6 → ((0 ≤ y6 ∧ y6 < s a1 3) ∧ ¬ pl (brow s a1) y6.toNat = true) → BI s a1 ∧ ¬ s a1 0 = 0 ∧ (0 ≤ y6 ∧ y6 < s a1 3) ∧ (0 < (s (a1 + 3) y6.toNat) ∧ (s (a1 + 3) y6.toNat) < 32) ∧ ∀ p, (s (a1 + 3) y6.toNat).toNat.testBit p = true → p < np (brow s a1))
  (z5 : ∀ y3 : Int, ∀ y4 : Int, ∀ y6 : Int, ∀ s : mSt, I48 y3 y4 y6 s → ¬ (s a1 3) ≤ y6 → ((0 ≤ y6 ∧ y6 < s a1 3) ∧ ¬ pl (brow s a1) y6.toNat = true) → ∀ s4 : mSt, (0 < (plB (brow s a1) y6.toNat (s (a1 + 3) y6.toNat).toNat).1 ∧ PB s4 (brow s a1) y6.toNat (s (a1 + 3) y6.toNat).toNat (plB (brow s a1) y6.toNat (s (a1 + 3) y6.toNat).toNat) ∧ fP s s4) → GFq s4 a1 y6)
  (z6 : ∀ y3 : Int, ∀ y4 : Int, ∀ y6 : Int, ∀ s : mSt, I48 y3 y4 y6 s → ¬ (s a1 3) ≤ y6 → ((0 ≤ y6 ∧ y6 < s a1 3) ∧ ¬ pl (brow s a1) y6.toNat = true) → ∀ s4 : mSt, (0 < (plB (brow s a1) y6.toNat (s (a1 + 3) y6.toNat).toNat).1 ∧ PB s4 (brow s a1) y6.toNat (s (a1 + 3) y6.toNat).toNat (plB (brow s a1) y6.toNat (s (a1 + 3) y6.toNat).toNat) ∧ fP s s4) → ∀ s5 : mSt, ((∀ i, i < 8 → s5 51 i = fcA (brow s4 a1) y6.toNat i) ∧ (∀ i, 8 ≤ i → s5 51 i = s4 51 i) ∧ (∀ b, b ≠ 51 → s5 b = s4 b)) → WKq s5 a2)
  (z7 : ∀ y3 : Int, ∀ y4 : Int, ∀ y6 : Int, ∀ s : mSt, I48 y3 y4 y6 s → ¬ (s a1 3) ≤ y6 → ((0 ≤ y6 ∧ y6 < s a1 3) ∧ ¬ pl (brow s a1) y6.toNat = true) → ∀ s4 : mSt, (0 < (plB (brow s a1) y6.toNat (s (a1 + 3) y6.toNat).toNat).1 ∧ PB s4 (brow s a1) y6.toNat (s (a1 + 3) y6.toNat).toNat (plB (brow s a1) y6.toNat (s (a1 + 3) y6.toNat).toNat) ∧ fP s s4) → ∀ s5 : mSt, ((∀ i, i < 8 → s5 51 i = fcA (brow s4 a1) y6.toNat i) ∧ (∀ i, 8 ≤ i → s5 51 i = s4 51 i) ∧ (∀ b, b ≠ 51 → s5 b = s4 b)) → ∀ v6 : Int, ∀ s6 : mSt, (v6 = wrC s5 a2 ∧ (∀ b, b ≠ 52 → s6 b = s5 b)) → (lCmp v6 y4) ≤ 0 → I48 y3 y4 (w32 (y6 + 1)) s6 ∧ m48 y3 y4 (w32 (y6 + 1)) s6 < m48 y3 y4 y6 s)
  (z8 : ∀ y3 : Int, ∀ y4 : Int, ∀ y6 : Int, ∀ s : mSt, I48 y3 y4 y6 s → ¬ (s a1 3) ≤ y6 → ((0 ≤ y6 ∧ y6 < s a1 3) ∧ ¬ pl (brow s a1) y6.toNat = true) → ∀ s4 : mSt, (0 < (plB (brow s a1) y6.toNat (s (a1 + 3) y6.toNat).toNat).1 ∧ PB s4 (brow s a1) y6.toNat (s (a1 + 3) y6.toNat).toNat (plB (brow s a1) y6.toNat (s (a1 + 3) y6.toNat).toNat) ∧ fP s s4) → ∀ s5 : mSt, ((∀ i, i < 8 → s5 51 i = fcA (brow s4 a1) y6.toNat i) ∧ (∀ i, 8 ≤ i → s5 51 i = s4 51 i) ∧ (∀ b, b ≠ 51 → s5 b = s4 b)) → ∀ v6 : Int, ∀ s6 : mSt, (v6 = wrC s5 a2 ∧ (∀ b, b ≠ 52 → s6 b = s5 b)) → ¬ (lCmp v6 y4) ≤ 0 → I48 y6 v6 (w32 (y6 + 1)) s6 ∧ m48 y6 v6 (w32 (y6 + 1)) s6 < m48 y3 y4 y6 s)
  (z9 : ∀ y3 : Int, ∀ y4 : Int, ∀ y6 : Int, ∀ s : mSt, I48 y3 y4 y6 s → ¬ (s a1 3) ≤ y6 → ((0 ≤ y6 ∧ y6 < s a1 3) ∧ ¬ pl (brow s a1) y6.toNat = true) → ∀ s9 : mSt, ((plB (brow s a1) y6.toNat (s (a1 + 3) y6.toNat).toNat).1 = 0 ∧ PB s9 (brow s a1) y6.toNat (s (a1 + 3) y6.toNat).toNat (plB (brow s a1) y6.toNat (s (a1 + 3) y6.toNat).toNat) ∧ fP s s9) → I48 y3 y4 (w32 (y6 + 1)) s9 ∧ m48 y3 y4 (w32 (y6 + 1)) s9 < m48 y3 y4 y6 s)
  (z10 : ∀ y3 : Int, ∀ y4 : Int, ∀ y6 : Int, ∀ s : mSt, I48 y3 y4 y6 s → ¬ (s a1 3) ≤ y6 → (¬ ((0 ≤ y6 ∧ y6 < s a1 3) ∧ ¬ pl (brow s a1) y6.toNat = true)) → I48 y3 y4 (w32 (y6 + 1)) s ∧ m48 y3 y4 (w32 (y6 + 1)) s < m48 y3 y4 y6 s)
  (z11 : BI s a1 ∧ ¬ s a1 0 = 0)
  (z12 : BI (uS s 51 (8 : Int).toNat (mx (fun t => s a1 0 - fre (brow s a1) t) 30)) a1)
  (z13 : ∀ t11 : mSt, t11 = uS s 51 (8 : Int).toNat (mx (fun t => s a1 0 - fre (brow s a1) t) 30) → 0 ≤ (wts (brow (uS s 51 (8 : Int).toNat (mx (fun t => s a1 0 - fre (brow s a1) t) 30)) a1)) ∧ (wts (brow (uS s 51 (8 : Int).toNat (mx (fun t => s a1 0 - fre (brow s a1) t) 30)) a1)) < 1073741824)
  (z14 : ∀ t11 : mSt, t11 = uS s 51 (8 : Int).toNat (mx (fun t => s a1 0 - fre (brow s a1) t) 30) → I48 (-2) 0 0 (uS (uS t11 51 (9 : Int).toNat (cn (bq (wts (brow (uS s 51 (8 : Int).toNat (mx (fun t => s a1 0 - fre (brow s a1) t) 30)) a1))) 30)) 51 10 ((uS t11 51 (9 : Int).toNat (cn (bq (wts (brow (uS s 51 (8 : Int).toNat (mx (fun t => s a1 0 - fre (brow s a1) t) 30)) a1))) 30)) a1 4))) :
  Sp X (d + 9) 119 [mR 50, mR a1, mR a2] s Q := by
  have L : ∀ k : Nat, (∀ (y3 : Int) (y4 : Int) (l5 : Option mV) (y6 : Int) (l7 : Option mV) (l8 : Option mV) (s : mSt), I48 y3 y4 y6 s → m48 y3 y4 y6 s < k → Wp X (d + 9) 119 48 [some (mR 50), some (mR a1), some (mR a2), some (mI y3), some (mJ y4), l5, some (mI y6), l7, l8] [] s Q) := by
    intro k
    induction k with
    | zero => exact fun _ _ _ _ _ _ _ _ h => absurd h (Nat.not_lt_zero _)
    | succ k ih => exact fun y3 y4 l5 y6 l7 l8 s hI hm => b119_48 h1 h2 (fun q1 => b119_128 h1 h2 (z1 y3 y4 y6 s hI q1)) (fun q2 => b119_57 h1 h2 (c10 h1 (z2 y3 y4 y6 s hI q2) (fun q3 => ⟨1, rfl, b119_63 h1 h2 (fun q => absurd q (by decide)) (fun _ => b119_66 h1 h2 (z3 y3 y4 y6 s hI q2 q3) (c59 h1 (z4 y3 y4 y6 s hI q2 q3) (fun s4 q4 => ⟨1, rfl, b119_83 h1 h2 (fun q => absurd q (by decide)) (fun _ => b119_86 h1 h2 (c120 h1 (z5 y3 y4 y6 s hI q2 q3 s4 q4) (fun s5 q5 => ⟨rfl, b119_93 h1 h2 (c74 h2 (z6 y3 y4 y6 s hI q2 q3 s4 q4 s5 q5) (fun v6 s6 q6 => ⟨v6, rfl, b119_105 h1 h2 (fun q7 => b119_122 h1 h2 (ih y3 y4 (kL 0 l5) (w32 (y6 + 1)) (some (mJ v6)) none s6 (z7 y3 y4 y6 s hI q2 q3 s4 q4 s5 q5 v6 s6 q6 q7).1 (Nat.lt_of_lt_of_le (z7 y3 y4 y6 s hI q2 q3 s4 q4 s5 q5 v6 s6 q6 q7).2 (Nat.le_of_lt_succ hm)))) (fun q8 => b119_115 h1 h2 (b119_122 h1 h2 (ih y6 v6 (kL 0 none) (w32 (y6 + 1)) (some (mJ v6)) none s6 (z8 y3 y4 y6 s hI q2 q3 s4 q4 s5 q5 v6 s6 q6 q8).1 (Nat.lt_of_lt_of_le (z8 y3 y4 y6 s hI q2 q3 s4 q4 s5 q5 v6 s6 q6 q8).2 (Nat.le_of_lt_succ hm)))))⟩))⟩)))⟩) (fun s9 q9 => ⟨0, rfl, b119_83 h1 h2 (fun _ => b119_122 h1 h2 (ih y3 y4 (kL 0 l5) (w32 (y6 + 1)) l7 l8 s9 (z9 y3 y4 y6 s hI q2 q3 s9 q9).1 (Nat.lt_of_lt_of_le (z9 y3 y4 y6 s hI q2 q3 s9 q9).2 (Nat.le_of_lt_succ hm)))) (fun q => absurd q (by decide))⟩)))⟩) (fun q10 => ⟨0, rfl, b119_63 h1 h2 (fun _ => b119_122 h1 h2 (ih y3 y4 (kL 0 l5) (w32 (y6 + 1)) l7 l8 s (z10 y3 y4 y6 s hI q2 q10).1 (Nat.lt_of_lt_of_le (z10 y3 y4 y6 s hI q2 q10).2 (Nat.le_of_lt_succ hm)))) (fun q => absurd q (by decide))⟩)))
  exact e119 (b119_0 h1 h2 (c19 h1 z11 ⟨_, rfl, b119_10 h1 h2 ⟨by decide, by decide⟩ (c11 h1 z12 ⟨_, rfl, Wp_gen (fun t11 e11 => b119_22 h1 h2 (c309 (z13 t11 e11) ⟨_, rfl, b119_25 h1 h2 ⟨by decide, by decide⟩ ((L (m48 (-2) 0 0 (uS (uS t11 51 (9 : Int).toNat (cn (bq (wts (brow (uS s 51 (8 : Int).toNat (mx (fun t => s a1 0 - fre (brow s a1) t) 30)) a1))) 30)) 51 10 ((uS t11 51 (9 : Int).toNat (cn (bq (wts (brow (uS s 51 (8 : Int).toNat (mx (fun t => s a1 0 - fre (brow s a1) t) 30)) a1))) 30)) a1 4)) + 1)) (-2) 0 none 0 none none (uS (uS t11 51 (9 : Int).toNat (cn (bq (wts (brow (uS s 51 (8 : Int).toNat (mx (fun t => s a1 0 - fre (brow s a1) t) 30)) a1))) 30)) 51 10 ((uS t11 51 (9 : Int).toNat (cn (bq (wts (brow (uS s 51 (8 : Int).toNat (mx (fun t => s a1 0 - fre (brow s a1) t) 30)) a1))) 30)) a1 4)) (z14 t11 e11) (Nat.lt_succ_self _))⟩))⟩)⟩))

theorem c119 {X : (Nat → Int) × Nat} {d : Nat} {s : mSt} {Q : mQ} {a1 : Nat} {a2 : Nat} (h1 : isBd a1) (h2 : isRl a2) (p1 : BI s a1 ∧ ¬ s a1 0 = 0 ∧ WKq s a2) (k : ∀ (v : Int) (t : mSt), (v = (if chA (ruC s (some a2) (brow s a1)) (brow s a1) < 0 then -2 else chA (ruC s (some a2) (brow s a1)) (brow s a1)) ∧ fT s t) → Q (some (mI v)) t) : Sp X (d + 9) 119 [mR 50, mR a1, mR a2] s Q := by
  obtain ⟨h, hd, hK⟩ := p1
  have h4 := bi_nc h
  have n6 := nc_le h.1
  have hl := bd_lt h1
  have hp := bd_52 h1
  have hrl := rl_b h2
  have bW := wts_bd h.1
  have bM := mx_ge (f := fun t => s a1 0 - fre (brow s a1) t) (n := 30)
  let W : Nat → Int := ruC s (some a2) (brow s a1)
  have hW : ∀ c, W c = wrF (fcA (brow s a1) c) (sgC s a2) (E1c s a2) (E3c s a2) (s a2 4).toNat 0 := fun _ => rfl
  have ok1 : ∀ j : Nat, okP1 (brow s a1) j = true ↔ ¬ pl (brow s a1) j = true ∧ 0 < (plB (brow s a1) j (sM (brow s a1) j)).1 := fun j => by
    unfold okP1 pA1; simp
  have eM : ∀ t : mSt, fT s t → ∀ y : Int, (0 ≤ y ∧ y < s a1 3) → (t (a1 + 3) y.toNat).toNat = sM (brow s a1) y.toNat := fun t ht y hy => by
    rw [ht _ (by omega), biP h (by omega)]; rfl
  let J : Int → Int → Int → mSt → Prop := fun y3 y4 y6 t => ∃ j : Nat, y6 = j ∧ j ≤ nc (brow s a1) ∧ y3 = (if (chF W (okP1 (brow s a1)) j).1 < 0 then -2 else (chF W (okP1 (brow s a1)) j).1) ∧ y4 = (chF W (okP1 (brow s a1)) j).2 ∧ (t 51 8 = mx (fun t => brow s a1 1 - fre (brow s a1) t) 30 ∧ t 51 9 = cn (bq (wts (brow s a1))) 30 ∧ t 51 10 = brow s a1 5) ∧ fT s t
  -- what is gathered
  have gat : ∀ (j : Nat) (t s4 s5 : mSt), j < nc (brow s a1) → (t 51 8 = mx (fun t => brow s a1 1 - fre (brow s a1) t) 30 ∧ t 51 9 = cn (bq (wts (brow s a1))) 30 ∧ t 51 10 = brow s a1 5) → fT s t → fP t s4 → ((∀ i, i < 8 → s5 51 i = fcA (brow s4 a1) j i) ∧ (∀ i, 8 ≤ i → s5 51 i = s4 51 i) ∧ (∀ b, b ≠ 51 → s5 b = s4 b)) →
      (∀ i, i < 11 → s5 51 i = fcA (brow s a1) j i) ∧ fT s s5 ∧ (s5 51 8 = t 51 8 ∧ s5 51 9 = t 51 9 ∧ s5 51 10 = t 51 10) := fun j t s4 s5 hj e8 ht h4' h5 => by
    have hs4 : fT s s4 := fun b hb => by rw [h4' b (by omega)]; exact ht b hb
    have w := BI_fT h1 h hs4
    rw [w.2] at h5
    have e51 : s4 51 = t 51 := h4' 51 (by omega)
    have e8' : s5 51 8 = t 51 8 ∧ s5 51 9 = t 51 9 ∧ s5 51 10 = t 51 10 := ⟨by rw [h5.2.1 8 (by decide), e51], by rw [h5.2.1 9 (by decide), e51], by rw [h5.2.1 10 (by decide), e51]⟩
    refine ⟨fun i hi => ?_, fun b hb => by rw [h5.2.2 b (by omega)]; exact hs4 b hb, e8'⟩
    by_cases z : i < 8
    · exact h5.1 i z
    · rcases (show i = 8 ∨ i = 9 ∨ i = 10 by omega) with e | e | e <;> subst e
      · rw [e8'.1, e8.1]; simp [fcA]
      · rw [e8'.2.1, e8.2.1]; simp [fcA]
      · rw [e8'.2.2, e8.2.2]; simp [fcA]
  have wrt : ∀ (j : Nat) (s5 : mSt), j < nc (brow s a1) → (∀ i, i < 11 → s5 51 i = fcA (brow s a1) j i) → fT s s5 → wrC s5 a2 = W j ∧ WKq s5 a2 := fun j s5 hj hf ht => by
    have w := rl_cells (t := s5) h2 (fun b hb => ht b (by omega))
    refine ⟨?_, w.2.2.2.2 hK⟩
    unfold wrC
    rw [w.1, w.2.1, w.2.2.1, w.2.2.2.1, hW]
    exact wrF_fa hK.1 hf (by omega)
  refine v119 h1 h2 J (fun _ _ y _ => (6 - y).toNat) ?_ ?_ ?_ ?_ ?_ ?_ ?_ ?_ ?_ ?_ ?_ ?_ ?_ ?_
  · rintro _ _ _ t ⟨j, rfl, hj, rfl, rfl, e8, ht⟩ hc
    rw [ht a1 (by omega)] at hc
    have : j = nc (brow s a1) := by omega
    subst this
    exact k _ t ⟨rfl, ht⟩
  · rintro _ _ _ t ⟨j, rfl, hj, rfl, rfl, e8, ht⟩ hc
    exact (BI_fT h1 h ht).1
  · rintro _ _ _ t ⟨j, rfl, hj, rfl, rfl, e8, ht⟩ hc q
    rw [ht a1 (by omega)] at hc
    omega
  · rintro _ _ _ t ⟨j, rfl, hj, rfl, rfl, e8, ht⟩ hc q
    have w := BI_fT h1 h ht
    rw [ht a1 (by omega)] at hc
    have m := sM_b h.1 (c := j) (by omega)
    have e := biP h (c := j) (by omega)
    refine ⟨w.1, ?_, ?_, ?_, ?_⟩
    · rw [ht a1 (by omega)]; exact hd
    · rw [ht a1 (by omega)]; omega
    · rw [tnc, ht (a1 + 3) (by omega), e]; omega
    · rw [w.2, eM t ht j (by omega), tnc]; exact m.2.2.2
  · rintro _ _ _ t ⟨j, rfl, hj, rfl, rfl, e8, ht⟩ hc q s4 q4
    have w := BI_fT h1 h ht
    rw [ht a1 (by omega)] at hc
    rw [w.2, eM t ht j (by omega), tnc] at q4
    have hs4 : fT s s4 := fun b hb => by rw [q4.2.2 b (by omega)]; exact ht b hb
    have w4 := BI_fT h1 h hs4
    refine ⟨w4.1, ?_, ?_, ?_⟩
    · rw [hs4 a1 (by omega)]; omega
    · rw [w4.2, tnc]; exact q4.1
    · rw [w4.2, tnc]; exact q4.2.1
  · rintro _ _ _ t ⟨j, rfl, hj, rfl, rfl, e8, ht⟩ hc q s4 q4 s5 q5
    rw [ht a1 (by omega)] at hc
    rw [tnc] at q5
    have g := gat j t s4 s5 (by omega) e8 ht q4.2.2 q5
    exact (wrt j s5 (by omega) g.1 g.2.1).2
  · rintro _ _ _ t ⟨j, rfl, hj, rfl, rfl, e8, ht⟩ hc q s4 q4 s5 q5 v6 s6 q6 q7
    have w := BI_fT h1 h ht
    rw [ht a1 (by omega)] at hc
    rw [w.2, tnc] at q
    rw [w.2, eM t ht j (by omega), tnc] at q4
    rw [tnc] at q5
    have g := gat j t s4 s5 (by omega) e8 ht q4.2.2 q5
    have ew := (wrt j s5 (by omega) g.1 g.2.1).1
    rw [q6.1, ew, lCmp_le] at q7
    rw [w32_of (by omega)]
    have hch : chF W (okP1 (brow s a1)) (j + 1) = chF W (okP1 (brow s a1)) j := by rw [chF_s, if_neg (fun z => by have := z.2; omega)]
    refine ⟨⟨j + 1, by omega, by omega, by rw [hch], by rw [hch], ?_, fun b hb => by rw [q6.2 b (by omega)]; exact g.2.1 b hb⟩, by omega⟩
    rw [q6.2 51 (by decide), g.2.2.1, g.2.2.2.1, g.2.2.2.2]; exact e8
  · rintro _ _ _ t ⟨j, rfl, hj, rfl, rfl, e8, ht⟩ hc q s4 q4 s5 q5 v6 s6 q6 q7
    have w := BI_fT h1 h ht
    rw [ht a1 (by omega)] at hc
    rw [w.2, tnc] at q
    rw [w.2, eM t ht j (by omega), tnc] at q4
    rw [tnc] at q5
    have g := gat j t s4 s5 (by omega) e8 ht q4.2.2 q5
    have ew := (wrt j s5 (by omega) g.1 g.2.1).1
    rw [q6.1, ew, lCmp_le] at q7
    rw [w32_of (by omega)]
    have hch : chF W (okP1 (brow s a1)) (j + 1) = ((j : Int), W j) := by rw [chF_s, if_pos ⟨(ok1 j).2 ⟨q.2, q4.1⟩, by omega⟩]
    refine ⟨⟨j + 1, by omega, by omega, by rw [hch]; dsimp only; rw [if_neg (by omega)], by rw [hch, q6.1, ew], ?_, fun b hb => by rw [q6.2 b (by omega)]; exact g.2.1 b hb⟩, by omega⟩
    rw [q6.2 51 (by decide), g.2.2.1, g.2.2.2.1, g.2.2.2.2]; exact e8
  · rintro _ _ _ t ⟨j, rfl, hj, rfl, rfl, e8, ht⟩ hc q s4 q4
    have w := BI_fT h1 h ht
    rw [ht a1 (by omega)] at hc
    rw [w.2, eM t ht j (by omega), tnc] at q4
    rw [w32_of (by omega)]
    have hch : chF W (okP1 (brow s a1)) (j + 1) = chF W (okP1 (brow s a1)) j := by rw [chF_s, if_neg (fun z => by have := ((ok1 j).1 z.1).2; omega)]
    exact ⟨⟨j + 1, by omega, by omega, by rw [hch], by rw [hch], by rw [q4.2.2 51 (by omega)]; exact e8, fun b hb => by rw [q4.2.2 b (by omega)]; exact ht b hb⟩, by omega⟩
  · rintro _ _ _ t ⟨j, rfl, hj, rfl, rfl, e8, ht⟩ hc q
    have w := BI_fT h1 h ht
    rw [ht a1 (by omega)] at hc q
    rw [w.2, tnc] at q
    rw [w32_of (by omega)]
    have hch : chF W (okP1 (brow s a1)) (j + 1) = chF W (okP1 (brow s a1)) j := by rw [chF_s, if_neg (fun z => q ⟨by omega, ((ok1 j).1 z.1).1⟩)]
    exact ⟨⟨j + 1, by omega, by omega, by rw [hch], by rw [hch], e8, ht⟩, by omega⟩
  · exact ⟨h, hd⟩
  · exact (BI_fT h1 h (t := uS s 51 (8 : Int).toNat (mx (fun t => s a1 0 - fre (brow s a1) t) 30)) (fun b hb => uS_cell (by omega))).1
  · intro t11 e11
    rw [(BI_fT h1 h (t := uS s 51 (8 : Int).toNat (mx (fun t => s a1 0 - fre (brow s a1) t) 30)) (fun b hb => uS_cell (by omega))).2]
    omega
  · intro t11 e11
    rw [(BI_fT h1 h (t := uS s 51 (8 : Int).toNat (mx (fun t => s a1 0 - fre (brow s a1) t) 30)) (fun b hb => uS_cell (by omega))).2]
    refine ⟨0, rfl, by omega, rfl, rfl, ⟨?_, ?_, ?_⟩, fun b hb => ?_⟩
    · rw [uS_at, if_neg (by decide), uS_at, if_neg (by decide), e11, uS_at, if_pos (by decide)]
      exact mx_congr (fun i _ => by rw [bi1 (s := s) (k := a1)])
    · rw [uS_at, if_neg (by decide), uS_at, if_pos (by decide)]
    · rw [uS_at, if_pos rfl, uS_cell (by omega), e11, uS_cell (by omega), bi5 h]
    · rw [uS_cell (by omega), uS_cell (by omega), e11, uS_cell (by omega)]
/-- a rule, or none, that can be used -/
def oRq (s : mSt) (r : Option Nat) : Prop := ∀ k, r = some k → isRl k ∧ WKq s k
def D1q (s : mSt) (a1 : Nat) (r : Option Nat) : Prop := BI s a1 ∧ ¬ s a1 0 = 0 ∧ ¬ r = none ∧ oRq s r
theorem c119o {X : (Nat → Int) × Nat} {d : Nat} {s : mSt} {Q : mQ} {a1 : Nat} {o2 : Option Nat} (h1 : isBd a1) (p1 : D1q s a1 o2) (k : ∀ (v : Int) (t : mSt), (v = (if chA (ruC s o2 (brow s a1)) (brow s a1) < 0 then -2 else chA (ruC s o2 (brow s a1)) (brow s a1)) ∧ fT s t) → Q (some (mI v)) t) : Sp X (d + 9) 119 [mR 50, mR a1, Sum.inr (Sum.inr (Sum.inl o2))] s Q := by
  obtain ⟨h, hd, hn, hr⟩ := p1
  cases o2 with
  | none => exact absurd rfl hn
  | some a2 => exact c119 h1 (hr a2 rfl).1 ⟨h, hd, (hr a2 rfl).2⟩ k
def fTB (s t : mSt) (k : Nat) : Prop := ∀ b, ¬ (44 ≤ b ∧ b ≤ 52) → ¬ (k ≤ b ∧ b ≤ k + 9) → t b = s b
theorem v117 {X : (Nat → Int) × Nat} {d : Nat} {s : mSt} {Q : mQ} {a1 : Nat} {o2 : Option Nat} (h1 : isBd a1)
  (z1 : ¬ o2 = none → D1q s a1 o2)
  (z2 : ¬ o2 = none → ∀ v2 : Int, ∀ s2 : mSt, (v2 = (if chA (ruC s o2 (brow s a1)) (brow s a1) < 0 then -2 else chA (ruC s o2 (brow s a1)) (brow s a1)) ∧ fT s s2) → BI s2 a1)
  (z3 : ¬ o2 = none → ∀ v2 : Int, ∀ s2 : mSt, (v2 = (if chA (ruC s o2 (brow s a1)) (brow s a1) < 0 then -2 else chA (ruC s o2 (brow s a1)) (brow s a1)) ∧ fT s s2) → ∀ s3 : mSt, (((0 ≤ v2 ∧ v2 < s2 a1 3) ∧ ¬ pl (brow s2 a1) v2.toNat = true) ∧ 0 < (pA1 (brow s2 a1) v2.toNat).1 ∧ BI s3 a1 ∧ brow s3 a1 = lyR (brow s2 a1) v2.toNat (pA1 (brow s2 a1) v2.toNat).2.2.2.2 ∧ PB s3 (brow s2 a1) v2.toNat (sM (brow s2 a1) v2.toNat) (pA1 (brow s2 a1) v2.toNat) ∧ fBP s2 s3 a1) → Q (some (mI v2)) (uS s3 a1 4 (w32 ((s3 a1 4) + 1))))
  (z4 : ¬ o2 = none → ∀ v2 : Int, ∀ s2 : mSt, (v2 = (if chA (ruC s o2 (brow s a1)) (brow s a1) < 0 then -2 else chA (ruC s o2 (brow s a1)) (brow s a1)) ∧ fT s s2) → ∀ s4 : mSt, (¬ (((0 ≤ v2 ∧ v2 < s2 a1 3) ∧ ¬ pl (brow s2 a1) v2.toNat = true) ∧ 0 < (pA1 (brow s2 a1) v2.toNat).1) ∧ BI s4 a1 ∧ brow s4 a1 = brow s2 a1 ∧ fP s2 s4) → Q (some (mI v2)) (uS s4 a1 4 (w32 ((s4 a1 4) + 1))))
  (z5 : o2 = none → BI s a1)
  (z6 : o2 = none → ∀ v6 : Int, ∀ s6 : mSt, (v6 = (if chA (fun _ => 1) (brow s a1) < 0 then -2 else chA (fun _ => 1) (brow s a1)) ∧ fP s s6) → BI s6 a1)
  (z7 : o2 = none → ∀ v6 : Int, ∀ s6 : mSt, (v6 = (if chA (fun _ => 1) (brow s a1) < 0 then -2 else chA (fun _ => 1) (brow s a1)) ∧ fP s s6) → ∀ s7 : mSt, (((0 ≤ v6 ∧ v6 < s6 a1 3) ∧ ¬ pl (brow s6 a1) v6.toNat = true) ∧ 0 < (pA1 (brow s6 a1) v6.toNat).1 ∧ BI s7 a1 ∧ brow s7 a1 = lyR (brow s6 a1) v6.toNat (pA1 (brow s6 a1) v6.toNat).2.2.2.2 ∧ PB s7 (brow s6 a1) v6.toNat (sM (brow s6 a1) v6.toNat) (pA1 (brow s6 a1) v6.toNat) ∧ fBP s6 s7 a1) → Q (some (mI v6)) (uS s7 a1 4 (w32 ((s7 a1 4) + 1))))
  (z8 : o2 = none → ∀ v6 : Int, ∀ s6 : mSt, (v6 = (if chA (fun _ => 1) (brow s a1) < 0 then -2 else chA (fun _ => 1) (brow s a1)) ∧ fP s s6) → ∀ s8 : mSt, (¬ (((0 ≤ v6 ∧ v6 < s6 a1 3) ∧ ¬ pl (brow s6 a1) v6.toNat = true) ∧ 0 < (pA1 (brow s6 a1) v6.toNat).1) ∧ BI s8 a1 ∧ brow s8 a1 = brow s6 a1 ∧ fP s6 s8) → Q (some (mI v6)) (uS s8 a1 4 (w32 ((s8 a1 4) + 1)))) :
  Sp X (d + 10) 117 [mR 50, mR a1, Sum.inr (Sum.inr (Sum.inl o2))] s Q := e117 (b117_0 h1 (fun q1 => b117_12 h1 (c119o h1 (z1 q1) (fun v2 s2 q2 => ⟨v2, rfl, b117_18 h1 (c60 h1 (z2 q1 v2 s2 q2) (fun s3 q3 => ⟨1, rfl, b117_28 h1 (z3 q1 v2 s2 q2 s3 q3)⟩) (fun s4 q4 => ⟨0, rfl, b117_28 h1 (z4 q1 v2 s2 q2 s4 q4)⟩))⟩))) (fun q5 => b117_4 h1 (c118 h1 (z5 q5) (fun v6 s6 q6 => ⟨v6, rfl, b117_9 h1 (b117_18 h1 (c60 h1 (z6 q5 v6 s6 q6) (fun s7 q7 => ⟨1, rfl, b117_28 h1 (z7 q5 v6 s6 q6 s7 q7)⟩) (fun s8 q8 => ⟨0, rfl, b117_28 h1 (z8 q5 v6 s6 q6 s8 q8)⟩)))⟩))))

theorem up5_rc (a : Rw) (x : Int) (c : Nat) (h5 : np a ≤ 5) : rc (up a 5 x) a c := by
  refine ⟨up_ne (by omega), fun p hp => ⟨?_, ?_, ?_⟩⟩
  · unfold ss; rw [up_ne (by omega)]
  · exact tm_eq (up_ne (by omega)) (up_ne (by omega))
  · unfold bg; rw [up_ne (by omega)]
theorem up5_ok {a : Rw} (h : Ok a) {x : Int} (hx : 0 ≤ x ∧ x ≤ 1000000) : Ok (up a 5 x) := by
  refine Ok_row h (fun j hj => ?_) (up_ne (by omega)) (up_ne (by omega)) (fun c _ => up_ne (by omega)) (fun p _ => up_ne (by omega))
  unfold up
  by_cases e : j = 5
  · rw [if_pos e]; right; subst e; exact hx
  · rw [if_neg e]; exact Or.inl rfl
theorem turn_row0 {t : mSt} {k j : Nat} {x : Int} (hk : k + 9 < 407) (hd : ¬ t k 0 = 0) (z : j ≠ 5) : brow (uS t k 4 x) k j = brow t k j := by
  have cz : ∀ i, i ≠ 4 → uS t k 4 x k i = t k i := fun i hi => by rw [uS_at, if_neg hi]
  have cx : ∀ b, b ≠ k → uS t k 4 x b = t b := fun b hb => uS_cell hb
  unfold brow
  rw [cz 0 (by decide), cz 2 (by decide), cz 3 (by decide), cz 5 (by decide), cx 417 (by omega), cx (k + 1) (by omega), cx (k + 2) (by omega), cx (k + 3) (by omega), cx (k + 4) (by omega), cx (k + 5) (by omega), cx (k + 6) (by omega), cx (k + 7) (by omega)]
  by_cases z3 : 1 ≤ j ∧ j < 6
  · rw [cz _ (by omega)]
  by_cases z0 : j = 0
  · subst z0; simp
  have z4 : ¬ j < 6 := by omega
  simp only [if_neg z0, if_neg z4]
theorem turn_row {t : mSt} {k : Nat} (h : BI t k) (hk : k + 9 < 407) (hd : ¬ t k 0 = 0) (h5 : brow t k 5 < 1000000) : BI (uS t k 4 (w32 (t k 4 + 1))) k ∧ brow (uS t k 4 (w32 (t k 4 + 1))) k = up (brow t k) 5 (brow t k 5 + 1) := by
  have b5 := ok5 h.1
  have e5 := bi5 h
  have n5 := np_le h.1
  have n6 := nc_le h.1
  rw [e5, w32_of (by omega)]
  have cz : ∀ i, i ≠ 4 → uS t k 4 (brow t k 5 + 1) k i = t k i := fun i hi => by rw [uS_at, if_neg hi]
  have cx : ∀ b, b ≠ k → uS t k 4 (brow t k 5 + 1) b = t b := fun b hb => uS_cell hb
  have hd' : ¬ uS t k 4 (brow t k 5 + 1) k 0 = 0 := by rw [cz 0 (by decide)]; exact hd
  have e : brow (uS t k 4 (brow t k 5 + 1)) k = up (brow t k) 5 (brow t k 5 + 1) := by
    refine row_ext (fun j hj => ?_) (fun i hi => ?_) (fun i hi p hp => ?_)
    · unfold up
      by_cases z : j = 5
      · subst z
        rw [if_pos rfl, brw_f (by omega), if_neg hd', uS_at, if_pos rfl]
      · rw [if_neg z]
        exact turn_row0 hk hd z
    · rw [up_ne (by omega), biW hd' hi, biW hd hi, cz 5 (by decide)]
    · have q : bg (up (brow t k) 5 (brow t k 5 + 1)) i p = bg (brow t k) i p := by unfold bg; rw [up_ne (by omega)]
      rw [q, brow_B hd' hi hp, brow_B hd hi hp, cz 5 (by decide), cz 2 (by decide), cx (k + 7) (by omega)]
  refine ⟨⟨?_, ?_, ?_, ?_, ?_⟩, e⟩
  · rw [e]; exact up5_ok h.1 (by omega)
  · rw [e, cz 5 (by decide), show nc (up (brow t k) 5 (brow t k 5 + 1)) = nc (brow t k) from by unfold nc; rw [up_ne (by omega)]]; exact h.2.1
  · intro c hc
    rw [cx _ (by omega), cz 5 (by decide), e, h.2.2.1 c hc, os_congr (fun t' _ => sat_rc (up5_rc _ _ c n5) t')]
  · intro c hc
    rw [cx _ (by omega), cz 5 (by decide), e, h.2.2.2.1 c hc, os_congr (fun t' _ => kpt_rc (up5_rc _ _ c n5) (fun p _ _ => up_ne (by omega)) t')]
  · rw [cz 0 (by decide), cz 1 (by decide), cz 2 (by decide), cz 3 (by decide), uS_at, if_pos rfl]
    refine ⟨h.2.2.2.2.1, fun z => absurd z hd⟩
theorem chA_ok {w : Nat → Int} {a : Rw} : (-1 ≤ chA w a ∧ chA w a < (nc a : Int)) ∧ (0 ≤ chA w a → ¬ pl a (chA w a).toNat = true ∧ 0 < (pA1 a (chA w a).toNat).1) := by
  have b := chF_b w (okP1 a) (nc a)
  refine ⟨⟨b.1, b.2.1⟩, fun h => ?_⟩
  have q : okP1 a (chA w a).toNat = true := b.2.2.1 h
  generalize (chA w a).toNat = n at q ⊢
  unfold okP1 at q
  simpa using q
theorem c117 {X : (Nat → Int) × Nat} {d : Nat} {s : mSt} {Q : mQ} {a1 : Nat} {o2 : Option Nat} (h1 : isBd a1) (p1 : BI s a1 ∧ ¬ s a1 0 = 0 ∧ brow s a1 5 < 1000000 ∧ oRq s o2) (k : ∀ (v : Int) (t : mSt), (v = (if chA (ruC s o2 (brow s a1)) (brow s a1) < 0 then -2 else chA (ruC s o2 (brow s a1)) (brow s a1)) ∧ BI t a1 ∧ brow t a1 = stR (ruC s o2 (brow s a1)) (brow s a1) ∧ fTB s t a1) → Q (some (mI v)) t) : Sp X (d + 10) 117 [mR 50, mR a1, Sum.inr (Sum.inr (Sum.inl o2))] s Q := by
  obtain ⟨h, hd, h5, hr⟩ := p1
  have h4 := bi_nc h
  have n5 := np_le h.1
  have n6 := nc_le h.1
  have hl := bd_lt h1
  have hp := bd_52 h1
  have hp2 := bd_pl h1
  -- the end, with what was chosen
  have fin1 : ∀ (w : Nat → Int) (v : Int) (s2 s3 : mSt), fT s s2 → v = (if chA w (brow s a1) < 0 then -2 else chA w (brow s a1)) → (((0 ≤ v ∧ v < s2 a1 3) ∧ ¬ pl (brow s2 a1) v.toNat = true) ∧ 0 < (pA1 (brow s2 a1) v.toNat).1 ∧ BI s3 a1 ∧ brow s3 a1 = lyR (brow s2 a1) v.toNat (pA1 (brow s2 a1) v.toNat).2.2.2.2 ∧ PB s3 (brow s2 a1) v.toNat (sM (brow s2 a1) v.toNat) (pA1 (brow s2 a1) v.toNat) ∧ fBP s2 s3 a1) →
      BI (uS s3 a1 4 (w32 (s3 a1 4 + 1))) a1 ∧ brow (uS s3 a1 4 (w32 (s3 a1 4 + 1))) a1 = stR w (brow s a1) ∧ fTB s (uS s3 a1 4 (w32 (s3 a1 4 + 1))) a1 := fun w v s2 s3 ht hv q => by
    have w2 := BI_fT h1 h ht
    have hc := chA_ok (w := w) (a := brow s a1)
    rw [w2.2] at q
    have hv0 : ¬ chA w (brow s a1) < 0 := fun z => by rw [if_pos z] at hv; omega
    rw [if_neg hv0] at hv
    have e5 : brow s3 a1 5 = brow s a1 5 := by rw [q.2.2.2.1, lyR_o n5 (by omega) (by omega)]
    have hd3 : ¬ s3 a1 0 = 0 := by
      have e1 : brow s3 a1 1 = brow s a1 1 := by rw [q.2.2.2.1, lyR_o n5 (by omega) (by omega)]
      rw [bi1 (s := s3) (k := a1), e1, ← bi1 (s := s) (k := a1)]; exact hd
    have r := turn_row q.2.2.1 hl hd3 (by omega)
    refine ⟨r.1, ?_, fun b hb1 hb2 => ?_⟩
    · rw [r.2, e5, q.2.2.2.1, hv]
      unfold stR
      rw [if_neg hv0]
    · rw [uS_cell (by omega), q.2.2.2.2.2 b hb2 (by omega)]; exact ht b hb1
  have fin0 : ∀ (w : Nat → Int) (v : Int) (s2 s4 : mSt), fT s s2 → v = (if chA w (brow s a1) < 0 then -2 else chA w (brow s a1)) → (¬ (((0 ≤ v ∧ v < s2 a1 3) ∧ ¬ pl (brow s2 a1) v.toNat = true) ∧ 0 < (pA1 (brow s2 a1) v.toNat).1) ∧ BI s4 a1 ∧ brow s4 a1 = brow s2 a1 ∧ fP s2 s4) →
      BI (uS s4 a1 4 (w32 (s4 a1 4 + 1))) a1 ∧ brow (uS s4 a1 4 (w32 (s4 a1 4 + 1))) a1 = stR w (brow s a1) ∧ fTB s (uS s4 a1 4 (w32 (s4 a1 4 + 1))) a1 := fun w v s2 s4 ht hv q => by
    have w2 := BI_fT h1 h ht
    have hc := chA_ok (w := w) (a := brow s a1)
    rw [w2.2, ht a1 (by omega)] at q
    have hv0 : chA w (brow s a1) < 0 := by
      apply Classical.byContradiction; intro z
      rw [if_neg z] at hv
      have := hc.2 (by omega)
      exact q.1 ⟨⟨by omega, by rw [hv]; exact this.1⟩, by rw [hv]; exact this.2⟩
    have hd4 : ¬ s4 a1 0 = 0 := by rw [q.2.2.2 a1 (by omega), ht a1 (by omega)]; exact hd
    have r := turn_row q.2.1 hl hd4 (by rw [q.2.2.1]; exact h5)
    refine ⟨r.1, ?_, fun b hb1 hb2 => ?_⟩
    · rw [r.2, q.2.2.1]
      unfold stR
      rw [if_pos hv0]
    · rw [uS_cell (by omega), q.2.2.2 b (by omega)]; exact ht b hb1
  have fPT : ∀ t : mSt, fP s t → fT s t := fun t ht b hb => ht b (by omega)
  refine v117 h1 (fun z => ⟨h, hd, z, hr⟩) (fun _ v s2 q => (BI_fT h1 h q.2).1) (fun _ v s2 q s3 q3 => k _ _ ⟨q.1, fin1 _ v s2 s3 q.2 q.1 q3⟩) (fun _ v s2 q s4 q4 => k _ _ ⟨q.1, fin0 _ v s2 s4 q.2 q.1 q4⟩) (fun _ => h) (fun _ v s2 q => (BI_fT h1 h (fPT s2 q.2)).1) (fun z v s2 q s3 q3 => ?_) (fun z v s2 q s4 q4 => ?_)
  · subst z
    exact k _ _ ⟨q.1, fin1 (fun _ => 1) v s2 s3 (fPT s2 q.2) q.1 q3⟩
  · subst z
    exact k _ _ ⟨q.1, fin0 (fun _ => 1) v s2 s4 (fPT s2 q.2) q.1 q4⟩
