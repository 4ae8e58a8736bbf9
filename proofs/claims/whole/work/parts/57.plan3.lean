/-! plans: the search of the class -/
theorem v64 {X : (Nat → Int) × Nat} {d : Nat} {s : mSt} {Q : mQ} {x1 : Int} {x2 : Int} {x3 : Int} {x4 : Int} {x5 : Int}
  (I22 : Int → mSt → Prop) (m22 : Int → mSt → Nat)
  (I134 : Int → mSt → Prop) (m134 : Int → mSt → Nat)
  (z1 : ∀ y6 : Int, ∀ s : mSt, I22 y6 s → 5 ≤ y6 → Q none s)
  (z2 : ∀ y6 : Int, ∀ s : mSt, I22 y6 s → ¬ 5 ≤ y6 → ¬ (iAnd (iShr x1 y6) 1) = 1 → I134 y6 s ∧ m134 y6 s < m22 y6 s)
  (z3 : ∀ y6 : Int, ∀ s : mSt, I22 y6 s → ¬ 5 ≤ y6 → (iAnd (iShr x1 y6) 1) = 1 → (0 ≤ y6 ∧ y6 < 5) ∧ (0 ≤ s 47 y6.toNat ∧ s 47 y6.toNat < 1073741824) ∧ (x2 = -1 ∨ 0 ≤ x2 ∧ x2 ≤ 30) ∧ (0 ≤ s 44 5 ∧ s 44 5 ≤ 3) ∧ (0 ≤ x3 ∧ x3 ≤ 100) ∧ (0 ≤ s 46 y6.toNat ∧ s 46 y6.toNat ≤ 12))
  (z4 : ∀ y6 : Int, ∀ s : mSt, I22 y6 s → ¬ 5 ≤ y6 → (iAnd (iShr x1 y6) 1) = 1 → (fd (lsB s y6.toNat x2 x3) 30) = (-1) → I134 y6 s ∧ m134 y6 s < m22 y6 s)
  (z5 : ∀ y6 : Int, ∀ s : mSt, I22 y6 s → ¬ 5 ≤ y6 → (iAnd (iShr x1 y6) 1) = 1 → ¬ (fd (lsB s y6.toNat x2 x3) 30) = (-1) → 0 ≤ y6 ∧ y6 < 5)
  (z6 : ∀ y6 : Int, ∀ s : mSt, I22 y6 s → ¬ 5 ≤ y6 → (iAnd (iShr x1 y6) 1) = 1 → ¬ (fd (lsB s y6.toNat x2 x3) 30) = (-1) → 20 ≤ (fd (lsB s y6.toNat x2 x3) 30) → ∀ t8 : mSt, t8 = uS s 48 y6.toNat (fd (lsB s y6.toNat x2 x3) 30) → 0 ≤ (fd (lsB s y6.toNat x2 x3) 30) ∧ 0 ≤ (w32 ((fd (lsB s y6.toNat x2 x3) 30) + (s 46 y6.toNat))))
  (z7 : ∀ y6 : Int, ∀ s : mSt, I22 y6 s → ¬ 5 ≤ y6 → (iAnd (iShr x1 y6) 1) = 1 → ¬ (fd (lsB s y6.toNat x2 x3) 30) = (-1) → 20 ≤ (fd (lsB s y6.toNat x2 x3) 30) → ∀ t8 : mSt, t8 = uS s 48 y6.toNat (fd (lsB s y6.toNat x2 x3) 30) → 0 ≤ y6 ∧ y6 < 5)
  (z8 : ∀ y6 : Int, ∀ s : mSt, I22 y6 s → ¬ 5 ≤ y6 → (iAnd (iShr x1 y6) 1) = 1 → ¬ (fd (lsB s y6.toNat x2 x3) 30) = (-1) → 20 ≤ (fd (lsB s y6.toNat x2 x3) 30) → ∀ t8 : mSt, t8 = uS s 48 y6.toNat (fd (lsB s y6.toNat x2 x3) 30) → 0 ≤ (t8 45 y6.toNat) ∧ 0 ≤ (fd (lsB s y6.toNat x2 x3) 30))
  (z9 : ∀ y6 : Int, ∀ s : mSt, I22 y6 s → ¬ 5 ≤ y6 → (iAnd (iShr x1 y6) 1) = 1 → ¬ (fd (lsB s y6.toNat x2 x3) 30) = (-1) → 20 ≤ (fd (lsB s y6.toNat x2 x3) 30) → ∀ t8 : mSt, t8 = uS s 48 y6.toNat (fd (lsB s y6.toNat x2 x3) 30) → Sp X (d + 1) 64 [mR 44, mI (iAnd x1 (iXor (iShl 1 y6) (-1))), mI (w32 ((fd (lsB s y6.toNat x2 x3) 30) + (s 46 y6.toNat))), mI x3, mI (iOr x4 (os (fun t => decide ((fd (lsB s y6.toNat x2 x3) 30) ≤ (t : Int)) && decide ((t : Int) < (w32 ((fd (lsB s y6.toNat x2 x3) 30) + (s 46 y6.toNat))))) 30)), mI (iOr x5 (os (fun t => decide ((t8 45 y6.toNat) ≤ (t : Int)) && decide ((t : Int) < (fd (lsB s y6.toNat x2 x3) 30))) 30))] t8 (fun r t9 => r = none ∧ (I134 y6 t9 ∧ m134 y6 t9 < m22 y6 s)))
  (z10 : ∀ y6 : Int, ∀ s : mSt, I22 y6 s → ¬ 5 ≤ y6 → (iAnd (iShr x1 y6) 1) = 1 → ¬ (fd (lsB s y6.toNat x2 x3) 30) = (-1) → ¬ 20 ≤ (fd (lsB s y6.toNat x2 x3) 30) → ∀ t11 : mSt, t11 = uS s 48 y6.toNat (fd (lsB s y6.toNat x2 x3) 30) → 0 ≤ y6 ∧ y6 < 5)
  (z11 : ∀ y6 : Int, ∀ s : mSt, I22 y6 s → ¬ 5 ≤ y6 → (iAnd (iShr x1 y6) 1) = 1 → ¬ (fd (lsB s y6.toNat x2 x3) 30) = (-1) → ¬ 20 ≤ (fd (lsB s y6.toNat x2 x3) 30) → ∀ t11 : mSt, t11 = uS s 48 y6.toNat (fd (lsB s y6.toNat x2 x3) 30) → 0 ≤ (fd (lsB s y6.toNat x2 x3) 30) ∧ 0 ≤ (w32 ((fd (lsB s y6.toNat x2 x3) 30) + (s 46 y6.toNat))))
  (z12 : ∀ y6 : Int, ∀ s : mSt, I22 y6 s → ¬ 5 ≤ y6 → (iAnd (iShr x1 y6) 1) = 1 → ¬ (fd (lsB s y6.toNat x2 x3) 30) = (-1) → ¬ 20 ≤ (fd (lsB s y6.toNat x2 x3) 30) → ∀ t11 : mSt, t11 = uS s 48 y6.toNat (fd (lsB s y6.toNat x2 x3) 30) → 0 ≤ (t11 45 y6.toNat) ∧ 0 ≤ (fd (lsB s y6.toNat x2 x3) 30))
  (z13 : ∀ y6 : Int, ∀ s : mSt, I22 y6 s → ¬ 5 ≤ y6 → (iAnd (iShr x1 y6) 1) = 1 → ¬ (fd (lsB s y6.toNat x2 x3) 30) = (-1) → ¬ 20 ≤ (fd (lsB s y6.toNat x2 x3) 30) → ∀ t11 : mSt, t11 = uS s 48 y6.toNat (fd (lsB s y6.toNat x2 x3) 30) → Sp X (d + 1) 64 [mR 44, mI (iAnd x1 (iXor (iShl 1 y6) (-1))), mI (w32 ((fd (lsB s y6.toNat x2 x3) 30) + (s 46 y6.toNat))), mI (w32 (x3 + (t11 46 y6.toNat))), mI (iOr x4 (os (fun t => decide ((fd (lsB s y6.toNat x2 x3) 30) ≤ (t : Int)) && decide ((t : Int) < (w32 ((fd (lsB s y6.toNat x2 x3) 30) + (s 46 y6.toNat))))) 30)), mI (iOr x5 (os (fun t => decide ((t11 45 y6.toNat) ≤ (t : Int)) && decide ((t : Int) < (fd (lsB s y6.toNat x2 x3) 30))) 30))] t11 (fun r t12 => r = none ∧ (I134 y6 t12 ∧ m134 y6 t12 < m22 y6 s)))
  (z14 : ∀ y6 : Int, ∀ s : mSt, I134 y6 s → I22 (w32 (y6 + 1)) s ∧ m22 (w32 (y6 + 1)) s < m134 y6 s)
  (z15 : ¬ x1 = 0 → I22 0 s)
  (z16 : x1 = 0 → (0 ≤ s 44 6 ∧ s 44 6 ≤ 1000) ∧ (0 ≤ (iAnd x5 (iXor x4 (-1))) ∧ (iAnd x5 (iXor x4 (-1))) < 1073741824) ∧ (0 ≤ x2 ∧ x2 ≤ 30))
  (z17 : x1 = 0 → ∀ s15 : mSt, (((s 44 6 = 0 ∨ wgV s x2 (iAnd x5 (iXor x4 (-1))) < s 44 12) → s15 = cS (uS (uS (uS (uS (uS (uS s 44 6 (s 44 6 + 1)) 44 12 (wgV s x2 (iAnd x5 (iXor x4 (-1))))) 44 7 (wgN s)) 44 8 (iAnd x5 (iXor x4 (-1)))) 44 9 x4) 44 10 x2) 48 0 49 0 5) ∧ (¬ (s 44 6 = 0 ∨ wgV s x2 (iAnd x5 (iXor x4 (-1))) < s 44 12) → s15 = uS s 44 6 (s 44 6 + 1))) → Q none s15) :
  Sp X (d + 2) 64 [mR 44, mI x1, mI x2, mI x3, mI x4, mI x5] s Q := by
  have L : ∀ k : Nat, (∀ (y6 : Int) (l7 : Option mV) (l8 : Option mV) (s : mSt), I22 y6 s → m22 y6 s < k → Wp X (d + 2) 64 22 [some (mR 44), some (mI x1), some (mI x2), some (mI x3), some (mI x4), some (mI x5), some (mI y6), l7, l8] [] s Q) ∧ (∀ (y6 : Int) (l7 : Option mV) (l8 : Option mV) (s : mSt), I134 y6 s → m134 y6 s < k → Wp X (d + 2) 64 134 [some (mR 44), some (mI x1), some (mI x2), some (mI x3), some (mI x4), some (mI x5), some (mI y6), l7, l8] [] s Q) := by
    intro k
    induction k with
    | zero => exact ⟨fun _ _ _ _ _ h => absurd h (Nat.not_lt_zero _), fun _ _ _ _ _ h => absurd h (Nat.not_lt_zero _)⟩
    | succ k ih => exact ⟨fun y6 l7 l8 s hI hm => b64_22 (fun q1 => b64_140 (z1 y6 s hI q1)) (fun q2 => b64_28 (fun q3 => ih.2 y6 l7 l8 s (z2 y6 s hI q2 q3).1 (Nat.lt_of_lt_of_le (z2 y6 s hI q2 q3).2 (Nat.le_of_lt_succ hm))) (fun q4 => b64_38 (c65 (z3 y6 s hI q2 q4) ⟨_, rfl, b64_46 (fun q5 => ih.2 y6 (some (mI (fd (lsB s y6.toNat x2 x3) 30))) l8 s (z4 y6 s hI q2 q4 q5).1 (Nat.lt_of_lt_of_le (z4 y6 s hI q2 q4 q5).2 (Nat.le_of_lt_succ hm))) (fun q6 => b64_54 (z5 y6 s hI q2 q4 q6) (z5 y6 s hI q2 q4 q6) (fun q7 => Wp_gen (fun t8 e8 => b64_105 (b64_106 (c32 (z6 y6 s hI q2 q4 q6 q7 t8 e8) ⟨_, rfl, b64_115 (z7 y6 s hI q2 q4 q6 q7 t8 e8) (c32 (z8 y6 s hI q2 q4 q6 q7 t8 e8) ⟨_, rfl, b64_130 (Sp.imp (z9 y6 s hI q2 q4 q6 q7 t8 e8) (fun r t9 ⟨e, zI⟩ => ⟨e, ih.2 y6 (some (mI (fd (lsB s y6.toNat x2 x3) 30))) (some (mI (w32 ((fd (lsB s y6.toNat x2 x3) 30) + (s 46 y6.toNat))))) t9 zI.1 (Nat.lt_of_lt_of_le zI.2 (Nat.le_of_lt_succ hm))⟩))⟩)⟩)))) (fun q10 => Wp_gen (fun t11 e11 => b64_93 (z10 y6 s hI q2 q4 q6 q10 t11 e11) (b64_106 (c32 (z11 y6 s hI q2 q4 q6 q10 t11 e11) ⟨_, rfl, b64_115 (z10 y6 s hI q2 q4 q6 q10 t11 e11) (c32 (z12 y6 s hI q2 q4 q6 q10 t11 e11) ⟨_, rfl, b64_130 (Sp.imp (z13 y6 s hI q2 q4 q6 q10 t11 e11) (fun r t12 ⟨e, zI⟩ => ⟨e, ih.2 y6 (some (mI (fd (lsB s y6.toNat x2 x3) 30))) (some (mI (w32 ((fd (lsB s y6.toNat x2 x3) 30) + (s 46 y6.toNat))))) t12 zI.1 (Nat.lt_of_lt_of_le zI.2 (Nat.le_of_lt_succ hm))⟩))⟩)⟩)))))⟩))), fun y6 l7 l8 s hI hm => b64_134 (ih.1 (w32 (y6 + 1)) l7 l8 s (z14 y6 s hI).1 (Nat.lt_of_lt_of_le (z14 y6 s hI).2 (Nat.le_of_lt_succ hm)))⟩
  exact e64 (b64_0 (fun q13 => b64_19 ((L (m22 0 s + 1)).1 0 none none s (z15 q13) (Nat.lt_succ_self _))) (fun q14 => b64_4 (c66 (z16 q14) (fun s15 q15 => ⟨rfl, b64_18 (z17 q14 s15 q15)⟩))))

/-- the state of the search within the loop over papers -/
def FI (a : Rw) (c m n l : Nat) (st : St) (b : Bt) (s : mSt) (y : Int) (t : mSt) : Prop := ∃ j : Nat, y = j ∧ j ≤ 5 ∧ PR t a c m ∧ PB t a c m ((fm (fun p => if l.testBit p = true then (ords n (l - 2 ^ p)).map (fun o => p :: o) else []) j).foldl (stp a c m st) b) ∧ (∀ p, p < 5 → l.testBit p = false → t 48 p = s 48 p) ∧ (∀ x, x ≠ 44 → x ≠ 48 → x ≠ 49 → t x = s x)
theorem ft_end {a : Rw} {c p t : Nat} (h : ftA a c p t = true) (h1 : 1 ≤ tm a c p) : (t : Int) + tm a c p ≤ 30 ∧ ((t : Int) < 20 ↔ (t : Int) + tm a c p ≤ 20) := by
  unfold ftA at h
  simp only [Bool.and_eq_true, decide_eq_true_iff] at h
  obtain ⟨_, h2, h3, _⟩ := h
  refine ⟨h2, ?_⟩
  unfold dyo at h3
  by_cases w1 : (t : Int) < 20 <;> by_cases w2 : (t : Int) + tm a c p - 1 < 20 <;> simp only [w1, w2, if_true, if_false] at h3 <;> omega
theorem ls_ft {a : Rw} {c p : Nat} {ah en hr : Int} (h : 0 ≤ lsA a c p ah en hr) : ftA a c p (lsA a c p ah en hr).toNat = true ∧ lsA a c p ah en hr < 30 := by
  have h1 := (fd_spec h).1
  have h2 := fd_ge (f := okA a c p ah en hr) (n := 30)
  refine ⟨?_, by unfold lsA; omega⟩
  unfold okA at h1
  rw [Bool.and_eq_true] at h1
  exact h1.1
theorem nxS_1 (a : Rw) (c p : Nat) (st : St) : (nxS a c p st).1 = lsA a c p st.1 st.2.1 st.2.2.1 := by simp only [nxS]
theorem nxS_2 (a : Rw) (c p : Nat) (st : St) : (nxS a c p st).2.1 = lsA a c p st.1 st.2.1 st.2.2.1 + tm a c p := by simp only [nxS]
/-- a step down the search -/
theorem FP_down {a : Rw} {c m n l j : Nat} {st : St} {b : Bt} {en wk si ow : Int} {s t u : mSt} (hok : Ok a) (hc : c < 6) (hm : ∀ p, m.testBit p = true → p < np a)
    (h : FP a c m (n + 1) l st b en wk si ow s) (hl : ¬ l = 0) (hj : j < 5) (hb : l.testBit j = true)
    (hi : FI a c m n l st b s j t) (hs : 0 ≤ lsA a c j st.1 st.2.1 st.2.2.1) (hu : u = uS t 48 j (lsA a c j st.1 st.2.1 st.2.2.1)) :
    FP a c m n (l - 2 ^ j) (nxS a c j st) ((fm (fun p => if l.testBit p = true then (ords n (l - 2 ^ p)).map (fun o => p :: o) else []) j).foldl (stp a c m st) b) (lsA a c j st.1 st.2.1 st.2.2.1 + tm a c j) (if lsA a c j st.1 st.2.1 st.2.2.1 < 20 then wk + tm a c j else wk)
      (iOr si (os (fun t' => decide (lsA a c j st.1 st.2.1 st.2.2.1 ≤ (t' : Int)) && decide ((t' : Int) < lsA a c j st.1 st.2.1 st.2.2.1 + tm a c j)) 30)) (iOr ow (os (fun t' => decide (a (6 + j) ≤ (t' : Int)) && decide ((t' : Int) < lsA a c j st.1 st.2.1 st.2.2.1)) 30)) u := by
  obtain ⟨hr, hbb, hl3, he, hw, ht, hso, hlen⟩ := h
  obtain ⟨j', ej, hj5, ir, ib, it, ix⟩ := hi
  have : j' = j := by omega
  subst this
  subst hu
  have hmj := hl3.2.2 j' hb
  have hnp := hm j' hmj
  have n5 := np_le hok
  obtain ⟨q1, q2, q3, q4⟩ := cntB_s hl3.1 hj hb hl3.2.1
  obtain ⟨f1, f2⟩ := ls_ft hs
  have t1 := tm_pos hok hc hnp
  have t2 := tm_bd hok hc (show j' < 5 by omega)
  have f3 := ft_end f1 t1
  rw [Int.toNat_of_nonneg hs] at f3
  have ng : ∀ g : Rw, ∀ x : Int, ∀ p, (l - 2 ^ j').testBit p = false → (p = j' ∨ (p ≠ j' ∧ l.testBit p = false)) := fun g x p hp => by
    rw [q4] at hp
    by_cases e : p = j'
    · exact Or.inl e
    · right; refine ⟨e, ?_⟩
      simpa [e] using hp
  refine ⟨PR_cell ir ?_ ?_ ?_ ?_ ?_, ⟨?_, ib.2.1, fun w => ⟨⟨?_, ?_, ?_, ?_, ?_, ?_⟩, (ib.2.2 w).2⟩⟩, ⟨q2, q1, fun p hp => ?_⟩, Or.inr (by rw [nxS_1, nxS_2]; exact ⟨hs, rfl, ⟨by omega, f3.1⟩, f3.2⟩), ⟨?_, ?_, ?_⟩, ⟨fun p hp hq => ?_, fun p hp => ?_⟩, ⟨?_, ?_⟩, ?_⟩
  · rw [uS_cell (by decide)]
  · rw [uS_cell (by decide)]
  · rw [uS_cell (by decide)]
  · rw [uS_cell (by decide)]
  · rw [uS_cell (by decide)]
  · rw [uS_cell (by decide)]; exact ib.1
  · rw [uS_cell (by decide)]; exact (ib.2.2 w).1.1
  · rw [uS_cell (by decide)]; exact (ib.2.2 w).1.2.1
  · rw [uS_cell (by decide)]; exact (ib.2.2 w).1.2.2.1
  · rw [uS_cell (by decide)]; exact (ib.2.2 w).1.2.2.2.1
  · rw [uS_cell (by decide)]; exact (ib.2.2 w).1.2.2.2.2.1
  · intro p hp; rw [uS_cell (by decide)]; exact (ib.2.2 w).1.2.2.2.2.2 p hp
  · rw [q4, Bool.and_eq_true] at hp; exact hl3.2.2 p hp.1
  · unfold nxS; dsimp only; rw [hw.1]
  · split <;> omega
  · split <;> omega
  · unfold nxS; dsimp only
    rw [uS_at]
    unfold up
    rcases ng st.2.2.2 0 p hq with e | ⟨e, e2⟩
    · rw [if_pos e, if_pos e]
    · rw [if_neg e, if_neg e, it p hp e2, ht.1 p hp e2]
  · unfold nxS; dsimp only
    rw [q4, Bool.and_eq_true] at hp
    have e : ¬ p = j' := by simpa using hp.2
    rw [up_ne e]; exact ht.2 p hp.1
  · unfold nxS; dsimp only
    rw [hso.1]
    have b := os_30 (f := sNl a c m (l - 2 ^ j') (up st.2.2.2 j' (lsA a c j' st.1 st.2.1 st.2.2.1))) (n := 30) (by decide)
    apply bq_ext (i3_or _ _) (by unfold i3; omega)
    intro i hi
    rw [bq_or, os_bq (by decide), os_bq (by decide), os_bq (by decide)]
    by_cases w : i < 30
    · simp only [w, decide_true, Bool.true_and]
      unfold sNl
      refine (an_up (j := j') hj ?_ ?_ ?_).symm
      · rw [hb]; simp
      · rw [q4, hmj, up_at]; simp
      · intro p hp
        rw [q4, up_ne hp]; simp [hp]
    · simp [w]
  · unfold nxS; dsimp only
    rw [hso.2]
    have b := os_30 (f := dNl a m (l - 2 ^ j') (up st.2.2.2 j' (lsA a c j' st.1 st.2.1 st.2.2.1))) (n := 30) (by decide)
    apply bq_ext (i3_or _ _) (by unfold i3; omega)
    intro i hi
    rw [bq_or, os_bq (by decide), os_bq (by decide), os_bq (by decide)]
    by_cases w : i < 30
    · simp only [w, decide_true, Bool.true_and]
      unfold dNl
      refine (an_up (j := j') hj ?_ ?_ ?_).symm
      · rw [hb]; simp
      · rw [q4, hmj, up_at]; simp
      · intro p hp
        rw [q4, up_ne hp]; simp [hp]
    · simp [w]
  · have g1 := (fold_w a c m st (fm (fun p => if l.testBit p = true then (ords n (l - 2 ^ p)).map (fun o => p :: o) else []) j') b).2
    have g2 := fm_len (fun p => if l.testBit p = true then (ords n (l - 2 ^ p)).map (fun o => p :: o) else []) (i := j' + 1) (k := 5) (by omega)
    rw [fm_s, List.length_append] at g2
    try dsimp only at g2
    rw [if_pos hb, List.length_map] at g2
    unfold ords at hlen
    rw [if_neg hl] at hlen
    omega
theorem fol {X : (Nat → Int) × Nat} {a : Rw} {c m : Nat} (hok : Ok a) (hc : c < 6) (hm : ∀ p, m.testBit p = true → p < np a) : ∀ (n : Nat) {d : Nat} {l : Nat} {st : St} {b : Bt} {en wk si ow : Int} {s : mSt} {Q : mQ},
    FP a c m n l st b en wk si ow s → (∀ t : mSt, FR a c m n l st b s t → Q none t) → Sp X (d + (n + 2)) 64 [mR 44, mI (l : Int), mI en, mI wk, mI si, mI ow] s Q := by
  intro n
  induction n with
  | zero =>
    intro d l st b en wk si ow s Q h k
    have hl : l = 0 := cntB_0 h.2.2.1.1 h.2.2.1.2.1
    subst hl
    have hk : iAnd ow (iXor si (-1)) = os (kN a c m st.2.2.2) 30 := by rw [h.2.2.2.2.2.2.1.1, h.2.2.2.2.2.2.1.2]; exact kp_bits
    have he : 0 ≤ en ∧ en ≤ 30 := by
      rcases h.2.2.2.1 with z | z
      · exact absurd rfl z.2.2
      · exact z.2.2.1
    have hb := h.2.1
    have hlen := h.2.2.2.2.2.2.2
    refine v64 (fun _ _ => False) (fun _ _ => 0) (fun _ _ => False) (fun _ _ => 0) ?_ ?_ ?_ ?_ ?_ ?_ ?_ ?_ ?_ ?_ ?_ ?_ ?_ ?_ ?_ ?_ ?_
    all_goals first
      | exact fun _ _ z => z.elim
      | skip
    · intro z; exact absurd rfl z
    · intro _
      refine ⟨⟨by rw [hb.1]; exact hb.2.1, by rw [hb.1]; omega⟩, ?_, he⟩
      rw [hk]; exact os_30 (by decide)
    · intro _ t z
      exact k t (fol_leaf h hk z.1 z.2)
  | succ n ih =>
    intro d l st b en wk si ow s Q h k
    have hb := h.2.1
    have hlen := h.2.2.2.2.2.2.2
    obtain ⟨_, _, hl3, he, hw, ht, hso, _⟩ := h
    have hR := okRe hok hc
    have hcond : ∀ j : Nat, j < 5 → (iAnd (iShr (l : Int) (j : Int)) 1 = 1 ↔ l.testBit j = true) := fun j hj => by
      rw [bt_iff _ (by omega)]; unfold bt; rw [tnc, bq_nat (by omega)]
    have he2 : (st.1 = -1 ∧ en = -1) ∨ (0 ≤ st.1 ∧ en = st.2.1 ∧ (0 ≤ en ∧ en ≤ 30) ∧ (st.1 < 20 ↔ en ≤ 20)) := by
      rcases he with z | z
      · exact Or.inl ⟨z.1, z.2.1⟩
      · exact Or.inr z
    have hls : ∀ (j : Nat) (t : mSt), j < 5 → l.testBit j = true → PR t a c m → fd (lsB t j en wk) 30 = lsA a c j st.1 st.2.1 st.2.2.1 := fun j t hj hb hr => by
      rw [hw.1]
      exact fd_congr (fun u hu => lsB_okA hr hj (hl3.2.2 j hb) hR.1 hu he2)
    have hout : ∀ j : Nat, j < 5 → l.testBit j = true → (iAnd (l : Int) (iXor (iShl 1 (j : Int)) (-1))) = ((l - 2 ^ j : Nat) : Int) := fun j hj hb => by
      obtain ⟨q1, q2, q3, q4⟩ := cntB_s hl3.1 hj hb hl3.2.1
      have hlt : l - 2 ^ j < 32 := q2
      apply bq_ext (i3_and _ _) (by unfold i3; omega)
      intro i hi
      rw [shl1 (by omega), bq_and, bq_not, bq_pow (by omega), bq_nat (by omega), bq_nat (by omega), q4]
      simp [hi]
    by_cases hl0 : l = 0
    · subst hl0
      have h' : FP a c m (n + 1) 0 st b en wk si ow s := ⟨‹_›, hb, hl3, he, hw, ht, hso, hlen⟩
      have hk : iAnd ow (iXor si (-1)) = os (kN a c m st.2.2.2) 30 := by rw [hso.1, hso.2]; exact kp_bits
      have he3 : 0 ≤ en ∧ en ≤ 30 := by
        rcases he with z | z
        · exact absurd rfl z.2.2
        · exact z.2.2.1
      refine v64 (fun _ _ => False) (fun _ _ => 0) (fun _ _ => False) (fun _ _ => 0) ?_ ?_ ?_ ?_ ?_ ?_ ?_ ?_ ?_ ?_ ?_ ?_ ?_ ?_ ?_ ?_ ?_
      all_goals first
        | exact fun _ _ z => z.elim
        | skip
      · intro z; exact absurd rfl z
      · intro _
        refine ⟨⟨by rw [hb.1]; exact hb.2.1, by rw [hb.1]; omega⟩, ?_, he3⟩
        rw [hk]; exact os_30 (by decide)
      · intro _ t z
        exact k t (fol_leaf h' hk z.1 z.2)
    · have h' : FP a c m (n + 1) l st b en wk si ow s := ⟨‹_›, hb, hl3, he, hw, ht, hso, hlen⟩
      have fin : ∀ t, FI a c m n l st b s 5 t → FR a c m (n + 1) l st b s t := fun t hi => by
        obtain ⟨j, ej, hj5, ir, ib, it, ix⟩ := hi
        have : j = 5 := by omega
        subst this
        refine ⟨ir, ?_, it, ix⟩
        unfold ords
        rw [if_neg hl0]
        exact ib
      have stay : ∀ (j : Nat) (t : mSt), j < 5 → FI a c m n l st b s j t → (l.testBit j = false ∨ lsA a c j st.1 st.2.1 st.2.2.1 < 0) → FI a c m n l st b s ((j + 1 : Nat) : Int) t := fun j t hj hi z => by
        obtain ⟨j', ej, hj5, ir, ib, it, ix⟩ := hi
        have : j' = j := by omega
        subst this
        refine ⟨j' + 1, rfl, by omega, ir, ?_, it, ix⟩
        rw [fm_s, List.foldl_append]
        rcases z with z | z
        · try dsimp only
          rw [if_neg (by rw [z]; decide)]; exact ib
        · try dsimp only
          by_cases w : l.testBit j' = true
          · rw [if_pos w, fold_cons, if_pos z]; exact ib
          · rw [if_neg w]; exact ib
      have pre65 : ∀ (j : Nat) (t : mSt), j < 5 → l.testBit j = true → FI a c m n l st b s j t → (0 ≤ t 47 j ∧ t 47 j < 1073741824) ∧ (en = -1 ∨ 0 ≤ en ∧ en ≤ 30) ∧ (0 ≤ t 44 5 ∧ t 44 5 ≤ 3) ∧ (0 ≤ wk ∧ wk ≤ 100) ∧ (0 ≤ t 46 j ∧ t 46 j ≤ 12) := fun j t hj hbj hi => by
        obtain ⟨j', ej, hj5, ir, ib, it, ix⟩ := hi
        obtain ⟨r1, r2, r3⟩ := ir.2.2 j hj (hl3.2.2 j hbj)
        have t2 := tm_bd hok hc hj
        rw [r2, r3, ir.2.1]
        refine ⟨os_30 (by decide), ?_, hR, by omega, t2⟩
        rcases he with z | z
        · exact Or.inl z.2.1
        · exact Or.inr z.2.2.1
      have down : ∀ (j : Nat) (t : mSt) (wk' : Int), j < 5 → l.testBit j = true → FI a c m n l st b s j t → ¬ fd (lsB t j en wk) 30 = -1 → wk' = (if lsA a c j st.1 st.2.1 st.2.2.1 < 20 then wk + tm a c j else wk) → ∀ u : mSt, u = uS t 48 j (fd (lsB t j en wk) 30) →
          Sp X (d + (n + 2)) 64 [mR 44, mI (iAnd (l : Int) (iXor (iShl 1 (j : Int)) (-1))), mI (w32 (fd (lsB t j en wk) 30 + t 46 j)), mI wk', mI (iOr si (os (fun t' => decide (fd (lsB t j en wk) 30 ≤ (t' : Int)) && decide ((t' : Int) < w32 (fd (lsB t j en wk) 30 + t 46 j))) 30)), mI (iOr ow (os (fun t' => decide (u 45 j ≤ (t' : Int)) && decide ((t' : Int) < fd (lsB t j en wk) 30)) 30))] u (fun r t9 => r = none ∧ FI a c m n l st b s ((j + 1 : Nat) : Int) t9) := fun j t wk' hj hbj hi hne hwk u hu => by
        have hi' := hi
        obtain ⟨j', ej, hj5, ir, ib, it, ix⟩ := hi
        have : j' = j := by omega
        subst this
        have hmj := hl3.2.2 j' hbj
        rw [hls j' t hj hbj ir] at hne hu ⊢
        have hge := fd_ge (f := okA a c j' st.1 st.2.1 st.2.2.1) (n := 30)
        have hs0 : 0 ≤ lsA a c j' st.1 st.2.1 st.2.2.1 := by unfold lsA at hne ⊢; omega
        have t2 := tm_bd hok hc hj
        have hlt := (ls_ft hs0).2
        have e46 : t 46 j' = tm a c j' := (ir.2.2 j' hj hmj).2.1
        have e45 : u 45 j' = a (6 + j') := by rw [hu, uS_cell (by decide)]; exact (ir.2.2 j' hj hmj).1
        rw [hout j' hj hbj, e46, e45, w32_of (by omega), hwk]
        refine ih (FP_down hok hc hm h' hl0 hj hbj hi' hs0 hu) (fun t9 h9 => ⟨rfl, j' + 1, rfl, by omega, h9.1, ?_, fun p hp hq => ?_, fun x hx1 hx2 hx3 => ?_⟩)
        · rw [fm_s, List.foldl_append]
          try dsimp only
          rw [if_pos hbj, fold_cons, if_neg (by omega)]
          exact h9.2.1
        · have q4 := (cntB_s hl3.1 hj hbj hl3.2.1).2.2.2
          rw [h9.2.2.1 p hp (by rw [q4, hq]; rfl), hu, uS_at, if_neg (fun e => by subst e; rw [hbj] at hq; exact absurd hq (by decide))]
          exact it p hp hq
        · rw [h9.2.2.2 x hx1 hx2 hx3, hu, uS_cell hx2]; exact ix x hx1 hx2 hx3
      have hjj : ∀ y t, FI a c m n l st b s y t → ¬ 5 ≤ y → ∃ j : Nat, y = j ∧ j < 5 := fun y t hi hy => by
        obtain ⟨j, ej, hj5, _⟩ := hi
        exact ⟨j, ej, by omega⟩
      refine v64 (FI a c m n l st b s) (fun y _ => (20 - 2 * y).toNat) (fun y t => (0 ≤ y ∧ y < 5) ∧ FI a c m n l st b s (y + 1) t) (fun y _ => (19 - 2 * y).toNat) ?_ ?_ ?_ ?_ ?_ ?_ ?_ ?_ ?_ ?_ ?_ ?_ ?_ ?_ ?_ ?_ ?_
      · intro y t hi hy
        obtain ⟨j, ej, hj5, hh⟩ := hi
        have : j = 5 := by omega
        subst this
        exact k t (fin t ⟨5, rfl, by omega, hh⟩)
      · intro y t hi hy q
        obtain ⟨j, rfl, hj⟩ := hjj y t hi hy
        rw [hcond j hj] at q
        exact ⟨⟨by omega, stay j t hj hi (Or.inl (bf q))⟩, by omega⟩
      · intro y t hi hy q
        obtain ⟨j, rfl, hj⟩ := hjj y t hi hy
        rw [hcond j hj] at q
        rw [tnc]
        exact ⟨by omega, pre65 j t hj q hi⟩
      · intro y t hi hy q q2
        obtain ⟨j, rfl, hj⟩ := hjj y t hi hy
        rw [hcond j hj] at q
        obtain ⟨j', ej, hj5, ir, _⟩ := id hi
        rw [tnc, hls j t hj q ir] at q2
        exact ⟨⟨by omega, stay j t hj hi (Or.inr (by omega))⟩, by omega⟩
      · intro y t hi hy q q2
        obtain ⟨j, rfl, hj⟩ := hjj y t hi hy
        omega
      · intro y t hi hy q q2 q3 u hu
        obtain ⟨j, rfl, hj⟩ := hjj y t hi hy
        rw [hcond j hj] at q
        have := (pre65 j t hj q hi).2.2.2.2
        have hge := fd_ge (f := lsB t j en wk) (n := 30)
        rw [tnc] at q2 q3 ⊢
        rw [w32_of (by omega)]
        omega
      · intro y t hi hy q q2 q3 u hu
        obtain ⟨j, rfl, hj⟩ := hjj y t hi hy
        omega
      · intro y t hi hy q q2 q3 u hu
        obtain ⟨j, rfl, hj⟩ := hjj y t hi hy
        rw [hcond j hj] at q
        obtain ⟨j', ej, hj5, ir, _⟩ := id hi
        rw [tnc] at q3 hu ⊢
        have bS := okS hok (p := j) hj
        rw [hu, uS_cell (by decide), (ir.2.2 j hj (hl3.2.2 j q)).1]
        omega
      · intro y t hi hy q q2 q3 u hu
        obtain ⟨j, rfl, hj⟩ := hjj y t hi hy
        rw [hcond j hj] at q
        obtain ⟨j', ej, hj5, ir, _⟩ := id hi
        rw [tnc] at q2 q3 hu ⊢
        refine (down j t wk hj q hi q2 ?_ u hu).imp (fun r t9 z => ⟨z.1, ⟨by omega, z.2⟩, by omega⟩)
        rw [hls j t hj q ir] at q3
        rw [if_neg (by omega)]
      · intro y t hi hy q q2 q3 u hu
        obtain ⟨j, rfl, hj⟩ := hjj y t hi hy
        omega
      · intro y t hi hy q q2 q3 u hu
        obtain ⟨j, rfl, hj⟩ := hjj y t hi hy
        rw [hcond j hj] at q
        have := (pre65 j t hj q hi).2.2.2.2
        have hge := fd_ge (f := lsB t j en wk) (n := 30)
        rw [tnc] at q2 q3 ⊢
        rw [w32_of (by omega)]
        omega
      · intro y t hi hy q q2 q3 u hu
        obtain ⟨j, rfl, hj⟩ := hjj y t hi hy
        rw [hcond j hj] at q
        obtain ⟨j', ej, hj5, ir, _⟩ := id hi
        have hge := fd_ge (f := lsB t j en wk) (n := 30)
        rw [tnc] at q2 q3 hu ⊢
        have bS := okS hok (p := j) hj
        rw [hu, uS_cell (by decide), (ir.2.2 j hj (hl3.2.2 j q)).1]
        omega
      · intro y t hi hy q q2 q3 u hu
        obtain ⟨j, rfl, hj⟩ := hjj y t hi hy
        rw [hcond j hj] at q
        obtain ⟨j', ej, hj5, ir, _⟩ := id hi
        rw [tnc] at q2 q3 hu ⊢
        refine (down j t (w32 (wk + u 46 j)) hj q hi q2 ?_ u hu).imp (fun r t9 z => ⟨z.1, ⟨by omega, z.2⟩, by omega⟩)
        have t2 := tm_bd hok hc hj
        rw [hls j t hj q ir] at q3
        rw [if_pos (by omega), hu, uS_cell (by decide), (ir.2.2 j hj (hl3.2.2 j q)).2.1, w32_of (by omega)]
      · intro y t hi
        rw [w32_of (by omega)]
        exact ⟨hi.2, by omega⟩
      · intro _
        exact ⟨0, rfl, by omega, ‹PR s a c m›, hb, fun _ _ _ => rfl, fun _ _ _ _ => rfl⟩
      · intro z; exfalso; omega
      · intro z; exfalso; omega
