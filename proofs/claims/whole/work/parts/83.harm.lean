/-! harm -/
def haF (a : Rw) (p : Nat) (n : Int) : Int := cn (stk (dlR a p n)) (nc (dlR a p n))
theorem wait_k {s : mSt} {k : Nat} (hB : BI s k) {x : Int} (g : (0 ≤ x ∧ x < s k 3) ∧ ¬ pl (brow s k) x.toNat = true) :
    (s (k + 3) x.toNat).toNat = sM (brow s k) x.toNat ∧ (BI s k ∧ ¬ s k 0 = 0 ∧ (0 ≤ x ∧ x < s k 3) ∧ (0 < s (k + 3) x.toNat ∧ s (k + 3) x.toNat < 32) ∧ ∀ p, (s (k + 3) x.toNat).toNat.testBit p = true → p < np (brow s k)) := by
  have h4n := bi_nc hB
  have n6 := nc_le hB.1
  have e := biP hB (c := x.toNat) (by omega)
  have eM : (s (k + 3) x.toNat).toNat = sM (brow s k) x.toNat := by rw [e]; rfl
  have m := sM_b hB.1 (c := x.toNat) (by omega)
  refine ⟨eM, hB, bi_dc hB (by omega), g.1, ?_, ?_⟩
  · rw [e]; omega
  · rw [eM]; exact m.2.2.2
theorem v100 {X : (Nat → Int) × Nat} {d : Nat} {s : mSt} {Q : mQ} {a1 : Nat} {x2 : Int} {x3 : Int} (h1 : isBd a1)
  (I23 : Int → Int → mSt → Prop) (m23 : Int → Int → mSt → Nat)
  (z1 : ∀ y4 : Int, ∀ y5 : Int, ∀ s : mSt, I23 y4 y5 s → (s 54 3) ≤ y5 → Q (some (mI y4)) s)
  (z2 : ∀ y4 : Int, ∀ y5 : Int, ∀ s : mSt, I23 y4 y5 s → ¬ (s 54 3) ≤ y5 → BI s 54)
  (z3 : ∀ y4 : Int, ∀ y5 : Int, ∀ s : mSt, I23 y4 y5 s → ¬ (s 54 3) ≤ y5 → ((0 ≤ y5 ∧ y5 < s 54 3) ∧ ¬ pl (brow s 54) y5.toNat = true) → 0 ≤ y5 ∧ y5 < 6)
  (z4 : ∀ y4 : Int, ∀ y5 : Int, ∀ s : mSt, I23 y4 y5 s → ¬ (s 54 3) ≤ y5 → ((0 ≤ y5 ∧ y5 < s 54 3) ∧ ¬ pl (brow s 54) y5.toNat = true) → BI s 54 ∧ ¬ s 54 0 = 0 ∧ (0 ≤ y5 ∧ y5 < s 54 3) ∧ (0 < (s 57 y5.toNat) ∧ (s 57 y5.toNat) < 32) ∧ ∀ p, (s 57 y5.toNat).toNat.testBit p = true → p < np (brow s 54))
  (z5 : ∀ y4 : Int, ∀ y5 : Int, ∀ s : mSt, I23 y4 y5 s → ¬ (s 54 3) ≤ y5 → ((0 ≤ y5 ∧ y5 < s 54 3) ∧ ¬ pl (brow s 54) y5.toNat = true) → ∀ s4 : mSt, (0 < (plB (brow s 54) y5.toNat (s 57 y5.toNat).toNat).1 ∧ PB s4 (brow s 54) y5.toNat (s 57 y5.toNat).toNat (plB (brow s 54) y5.toNat (s 57 y5.toNat).toNat) ∧ fP s s4) → I23 y4 (w32 (y5 + 1)) s4 ∧ m23 y4 (w32 (y5 + 1)) s4 < m23 y4 y5 s)
  (z6 : ∀ y4 : Int, ∀ y5 : Int, ∀ s : mSt, I23 y4 y5 s → ¬ (s 54 3) ≤ y5 → ((0 ≤ y5 ∧ y5 < s 54 3) ∧ ¬ pl (brow s 54) y5.toNat = true) → ∀ s5 : mSt, ((plB (brow s 54) y5.toNat (s 57 y5.toNat).toNat).1 = 0 ∧ PB s5 (brow s 54) y5.toNat (s 57 y5.toNat).toNat (plB (brow s 54) y5.toNat (s 57 y5.toNat).toNat) ∧ fP s s5) → I23 (w32 (y4 + 1)) (w32 (y5 + 1)) s5 ∧ m23 (w32 (y4 + 1)) (w32 (y5 + 1)) s5 < m23 y4 y5 s)
  (z7 : ∀ y4 : Int, ∀ y5 : Int, ∀ s : mSt, I23 y4 y5 s → ¬ (s 54 3) ≤ y5 → (¬ ((0 ≤ y5 ∧ y5 < s 54 3) ∧ ¬ pl (brow s 54) y5.toNat = true)) → I23 y4 (w32 (y5 + 1)) s ∧ m23 y4 (w32 (y5 + 1)) s < m23 y4 y5 s)
  (z8 : 54 ≠ a1 ∧ BI s a1)
  (z9 : ∀ s7 : mSt, (BI s7 54 ∧ brow s7 54 = brow s a1 ∧ fB s s7 54) → BI s7 54 ∧ (0 ≤ x2 ∧ x2 < s7 54 2) ∧ (1 ≤ x3 ∧ x3 ≤ 9))
  (z10 : ∀ s7 : mSt, (BI s7 54 ∧ brow s7 54 = brow s a1 ∧ fB s s7 54) → ∀ s8 : mSt, (BI s8 54 ∧ brow s8 54 = dlR (brow s7 54) x2.toNat x3 ∧ fB s7 s8 54) → I23 0 0 s8) :
  Sp X (d + 9) 100 [mR 53, mR a1, mI x2, mI x3] s Q := by
  have L : ∀ k : Nat, (∀ (y4 : Int) (y5 : Int) (s : mSt), I23 y4 y5 s → m23 y4 y5 s < k → Wp X (d + 9) 100 23 [some (mR 53), some (mR a1), some (mI x2), some (mI x3), some (mI y4), some (mI y5)] [] s Q) := by
    intro k
    induction k with
    | zero => exact fun _ _ _ _ h => absurd h (Nat.not_lt_zero _)
    | succ k ih => exact fun y4 y5 s hI hm => b100_23 h1 (fun q1 => b100_82 h1 (z1 y4 y5 s hI q1)) (fun q2 => b100_35 h1 (c10 (bdm rfl) (z2 y4 y5 s hI q2) (fun q3 => ⟨1, rfl, b100_44 h1 (fun q => absurd q (by decide)) (fun _ => b100_47 h1 (z3 y4 y5 s hI q2 q3) (c59 (bdm rfl) (z4 y4 y5 s hI q2 q3) (fun s4 q4 => ⟨1, rfl, b100_70 h1 (fun _ => b100_76 h1 (ih y4 (w32 (y5 + 1)) s4 (z5 y4 y5 s hI q2 q3 s4 q4).1 (Nat.lt_of_lt_of_le (z5 y4 y5 s hI q2 q3 s4 q4).2 (Nat.le_of_lt_succ hm)))) (fun q => absurd q (by decide))⟩) (fun s5 q5 => ⟨0, rfl, b100_70 h1 (fun q => absurd q (by decide)) (fun _ => b100_73 h1 (b100_76 h1 (ih (w32 (y4 + 1)) (w32 (y5 + 1)) s5 (z6 y4 y5 s hI q2 q3 s5 q5).1 (Nat.lt_of_lt_of_le (z6 y4 y5 s hI q2 q3 s5 q5).2 (Nat.le_of_lt_succ hm)))))⟩)))⟩) (fun q6 => ⟨0, rfl, b100_44 h1 (fun _ => b100_76 h1 (ih y4 (w32 (y5 + 1)) s (z7 y4 y5 s hI q2 q6).1 (Nat.lt_of_lt_of_le (z7 y4 y5 s hI q2 q6).2 (Nat.le_of_lt_succ hm)))) (fun q => absurd q (by decide))⟩)))
  exact e100 (b100_0 h1 (c3 (bdm rfl) h1 z8 (fun s7 q7 => ⟨rfl, b100_8 h1 (c26 (bdm rfl) (z9 s7 q7) (fun s8 q8 => ⟨rfl, b100_17 h1 ((L (m23 0 0 s8 + 1)) 0 0 s8 (z10 s7 q7 s8 q8) (Nat.lt_succ_self _))⟩))⟩)))

theorem c100 {X : (Nat → Int) × Nat} {d : Nat} {s : mSt} {Q : mQ} {a1 : Nat} {x2 : Int} {x3 : Int} (h1 : isBd a1) (p1 : a1 ≠ 54 ∧ BI s a1 ∧ (0 ≤ x2 ∧ x2 < s a1 2) ∧ (1 ≤ x3 ∧ x3 ≤ 9)) (k : ∀ (v : Int) (t : mSt), (v = haF (brow s a1) x2.toNat x3 ∧ fW s t) → Q (some (mI v)) t) : Sp X (d + 9) 100 [mR 53, mR a1, mI x2, mI x3] s Q := by
  obtain ⟨hn, hB, hp, hx⟩ := p1
  let b := dlR (brow s a1) x2.toNat x3
  have hb : b = dlR (brow s a1) x2.toNat x3 := rfl
  let J : Int → Int → mSt → Prop := fun y4 y5 t => ∃ j : Nat, y5 = j ∧ j ≤ nc b ∧ y4 = cn (stk b) j ∧ BI t 54 ∧ brow t 54 = b ∧ fW s t
  have w54 : ∀ t u : mSt, BI t 54 → fP t u → BI u 54 ∧ brow u 54 = brow t 54 := fun t u h hu => BI_cells h (fun x hx => hu x (by omega)) (hu 417 (by decide))
  have fw : ∀ t u : mSt, fW s t → fP t u → fW s u := fun t u ht hu b h1 h2 => (hu b (by omega)).trans (ht b h1 h2)
  have nx : ∀ (j : Nat) (u : mSt) (x : Int), j < nc b → nc b ≤ 6 → BI u 54 → brow u 54 = b → fW s u → x = cn (stk b) j + (if stk b j = true then 1 else 0) → J x (w32 ((j : Int) + 1)) u ∧ (6 - w32 ((j : Int) + 1)).toNat < (6 - (j : Int)).toNat := fun j u x hj h6 h1 h2 h3 hx => by
    rw [w32_of (by omega)]
    exact ⟨⟨j + 1, by omega, by omega, by rw [cn_s, hx], h1, h2, h3⟩, by omega⟩
  refine v100 h1 J (fun _ y _ => (6 - y).toNat) ?_ ?_ ?_ ?_ ?_ ?_ ?_ ?_ ?_ ?_
  · rintro _ _ t ⟨j, rfl, hj, rfl, h, e, ht⟩ hc
    have h4 := bi_nc h
    rw [e] at h4
    have : j = nc b := by omega
    subst this
    exact k _ t ⟨rfl, ht⟩
  · rintro _ _ t ⟨j, rfl, hj, rfl, h, e, ht⟩ hc
    exact h
  · rintro _ _ t ⟨j, rfl, hj, rfl, h, e, ht⟩ hc q
    have h4 := bi_nc h
    have n6 := nc_le h.1
    omega
  · rintro _ _ t ⟨j, rfl, hj, rfl, h, e, ht⟩ hc q
    exact (wait_k h q).2
  · rintro _ _ t ⟨j, rfl, hj, rfl, h, e, ht⟩ hc q u hu
    have h4 := bi_nc h
    have n6 := nc_le h.1
    have wk : (t 57 ((j : Int)).toNat).toNat = sM (brow t 54) ((j : Int)).toNat := (wait_k h q).1
    rw [wk, e, tnc] at hu
    rw [e] at h4 n6 q
    rw [tnc] at q
    have w := w54 t u h hu.2.2
    refine nx j u _ (by omega) n6 w.1 (w.2.trans e) (fw t u ht hu.2.2) ?_
    have hz : 0 < (pA1 b j).1 := hu.1
    rw [if_neg (fun z => by have := (stk_iff.1 z).2; omega), Int.add_zero]
  · rintro _ _ t ⟨j, rfl, hj, rfl, h, e, ht⟩ hc q u hu
    have h4 := bi_nc h
    have n6 := nc_le h.1
    have wk : (t 57 ((j : Int)).toNat).toNat = sM (brow t 54) ((j : Int)).toNat := (wait_k h q).1
    rw [wk, e, tnc] at hu
    rw [e] at h4 n6 q
    rw [tnc] at q
    have w := w54 t u h hu.2.2
    have bc := cn_le (f := stk b) (n := j)
    have hz : (pA1 b j).1 = 0 := hu.1
    rw [w32_of (x := cn (stk b) j + 1) (by omega)]
    refine nx j u _ (by omega) n6 w.1 (w.2.trans e) (fw t u ht hu.2.2) ?_
    rw [if_pos (stk_iff.2 ⟨q.2, hz⟩)]
  · rintro _ _ t ⟨j, rfl, hj, rfl, h, e, ht⟩ hc q
    have h4 := bi_nc h
    have n6 := nc_le h.1
    rw [e] at h4 n6 q
    rw [tnc] at q
    refine nx j t _ (by omega) n6 h e ht ?_
    rw [if_neg (fun z => q ⟨by omega, (stk_iff.1 z).1⟩), Int.add_zero]
  · exact ⟨fun z => hn z.symm, hB⟩
  · intro u hu
    refine ⟨hu.1, ?_, hx⟩
    rw [bi3 hu.1, hu.2.1, ← bi3 hB]; exact hp
  · intro u hu v hv
    rw [hu.2.1] at hv
    exact ⟨0, rfl, by omega, rfl, hv.1, hv.2.1, fun b _ hb => (hv.2.2 b hb).trans (hu.2.2 b hb)⟩
theorem bd_54 {a : Nat} (h : isBd a) (hn : a ≠ 54) : a + 9 < 44 ∨ 63 < a := (show ∀ a ∈ bdL, a ≠ 54 → a + 9 < 44 ∨ 63 < a by decide +kernel) a h hn
theorem BI_fW {s t : mSt} {k : Nat} (hk : isBd k) (hn : k ≠ 54) (h : BI s k) (e : fW s t) : BI t k ∧ brow t k = brow s k := by
  have hp := bd_54 hk hn
  have hl := bd_lt hk
  exact BI_cells h (fun x hx => e x (by omega) (by omega)) (e 417 (by omega) (by omega))
theorem fW_tr {s t u : mSt} (a : fW s t) (b : fW t u) : fW s u := fun x h1 h2 => (b x h1 h2).trans (a x h1 h2)
/-- the delay that harms most -/
def wdF (a : Rw) (n : Int) : Nat → Int × Int
  | 0 => (-2, -2)
  | p + 1 => if ¬ a (6 + p) = 15 ∧ (wdF a n p).2 < haF a p n then ((p : Int), haF a p n) else wdF a n p
theorem wdF_s (a : Rw) (n : Int) (p : Nat) : wdF a n (p + 1) = if ¬ a (6 + p) = 15 ∧ (wdF a n p).2 < haF a p n then ((p : Int), haF a p n) else wdF a n p := rfl
theorem haF_b (a : Rw) (p : Nat) (n : Int) : 0 ≤ haF a p n := by unfold haF; exact (cn_le).1
theorem wdF_b (a : Rw) (n : Int) : ∀ p : Nat, ((wdF a n p).1 = -2 ∧ (wdF a n p).2 = -2) ∨ ((0 ≤ (wdF a n p).1 ∧ (wdF a n p).1 < p) ∧ 0 ≤ (wdF a n p).2 ∧ (wdF a n p).2 = haF a (wdF a n p).1.toNat n ∧ ¬ a (6 + (wdF a n p).1.toNat) = 15)
  | 0 => Or.inl ⟨rfl, rfl⟩
  | p + 1 => by
    have ih := wdF_b a n p
    rw [wdF_s]
    by_cases z : ¬ a (6 + p) = 15 ∧ (wdF a n p).2 < haF a p n
    · rw [if_pos z]
      refine Or.inr ⟨⟨by dsimp only; omega, by dsimp only; omega⟩, haF_b a p n, ?_, ?_⟩
      · dsimp only; rw [tnc]
      · dsimp only; rw [tnc]; exact z.1
    · rw [if_neg z]
      rcases ih with w | w
      · exact Or.inl w
      · exact Or.inr ⟨⟨w.1.1, by omega⟩, w.2⟩
theorem v99 {X : (Nat → Int) × Nat} {d : Nat} {s : mSt} {Q : mQ} {a1 : Nat} {x2 : Int} (h1 : isBd a1)
  (I8 : Int → Int → Int → mSt → Prop) (m8 : Int → Int → Int → mSt → Nat)
  (z1 : ∀ y3 : Int, ∀ y4 : Int, ∀ y5 : Int, ∀ s : mSt, I8 y3 y4 y5 s → (s a1 2) ≤ y5 → Q (some (mI y3)) s)
  (z2 : ∀ y3 : Int, ∀ y4 : Int, ∀ y5 : Int, ∀ s : mSt, I8 y3 y4 y5 s → ¬ (s a1 2) ≤ y5 → BI s a1)
  (z3 : ∀ y3 : Int, ∀ y4 : Int, ∀ y5 : Int, ∀ s : mSt, I8 y3 y4 y5 s → ¬ (s a1 2) ≤ y5 → ((0 ≤ y5 ∧ y5 < s a1 2) ∧ ¬ brow s a1 (6 + y5.toNat) = 15) → a1 ≠ 54 ∧ BI s a1 ∧ (0 ≤ y5 ∧ y5 < s a1 2) ∧ (1 ≤ x2 ∧ x2 ≤ 9))
  (z4 : ∀ y3 : Int, ∀ y4 : Int, ∀ y5 : Int, ∀ s : mSt, I8 y3 y4 y5 s → ¬ (s a1 2) ≤ y5 → ((0 ≤ y5 ∧ y5 < s a1 2) ∧ ¬ brow s a1 (6 + y5.toNat) = 15) → ∀ v4 : Int, ∀ s4 : mSt, (v4 = haF (brow s a1) y5.toNat x2 ∧ fW s s4) → v4 ≤ y4 → I8 y3 y4 (w32 (y5 + 1)) s4 ∧ m8 y3 y4 (w32 (y5 + 1)) s4 < m8 y3 y4 y5 s)
  (z5 : ∀ y3 : Int, ∀ y4 : Int, ∀ y5 : Int, ∀ s : mSt, I8 y3 y4 y5 s → ¬ (s a1 2) ≤ y5 → ((0 ≤ y5 ∧ y5 < s a1 2) ∧ ¬ brow s a1 (6 + y5.toNat) = 15) → ∀ v4 : Int, ∀ s4 : mSt, (v4 = haF (brow s a1) y5.toNat x2 ∧ fW s s4) → ¬ v4 ≤ y4 → I8 y5 v4 (w32 (y5 + 1)) s4 ∧ m8 y5 v4 (w32 (y5 + 1)) s4 < m8 y3 y4 y5 s)
  (z6 : ∀ y3 : Int, ∀ y4 : Int, ∀ y5 : Int, ∀ s : mSt, I8 y3 y4 y5 s → ¬ (s a1 2) ≤ y5 → (¬ ((0 ≤ y5 ∧ y5 < s a1 2) ∧ ¬ brow s a1 (6 + y5.toNat) = 15)) → I8 y3 y4 (w32 (y5 + 1)) s ∧ m8 y3 y4 (w32 (y5 + 1)) s < m8 y3 y4 y5 s)
  (z7 : I8 (-1) (-1) 0 s) :
  Sp X (d + 10) 99 [mR 53, mR a1, mI x2] s Q := by
  have L : ∀ k : Nat, (∀ (y3 : Int) (y4 : Int) (y5 : Int) (l6 : Option mV) (s : mSt), I8 y3 y4 y5 s → m8 y3 y4 y5 s < k → Wp X (d + 10) 99 8 [some (mR 53), some (mR a1), some (mI x2), some (mI y3), some (mI y4), some (mI y5), l6] [] s Q) := by
    intro k
    induction k with
    | zero => exact fun _ _ _ _ _ _ h => absurd h (Nat.not_lt_zero _)
    | succ k ih => exact fun y3 y4 y5 l6 s hI hm => b99_8 h1 (fun q1 => b99_56 h1 (z1 y3 y4 y5 s hI q1)) (fun q2 => b99_17 h1 (c25 h1 (z2 y3 y4 y5 s hI q2) (fun q3 => ⟨1, rfl, b99_23 h1 (fun q => absurd q (by decide)) (fun _ => b99_26 h1 (c100 h1 (z3 y3 y4 y5 s hI q2 q3) (fun v4 s4 q4 => ⟨v4, rfl, b99_34 h1 (fun q5 => b99_50 h1 (ih y3 y4 (w32 (y5 + 1)) (some (mI v4)) s4 (z4 y3 y4 y5 s hI q2 q3 v4 s4 q4 q5).1 (Nat.lt_of_lt_of_le (z4 y3 y4 y5 s hI q2 q3 v4 s4 q4 q5).2 (Nat.le_of_lt_succ hm)))) (fun q6 => b99_43 h1 (b99_50 h1 (ih y5 v4 (w32 (y5 + 1)) (some (mI v4)) s4 (z5 y3 y4 y5 s hI q2 q3 v4 s4 q4 q6).1 (Nat.lt_of_lt_of_le (z5 y3 y4 y5 s hI q2 q3 v4 s4 q4 q6).2 (Nat.le_of_lt_succ hm)))))⟩)))⟩) (fun q7 => ⟨0, rfl, b99_23 h1 (fun _ => b99_50 h1 (ih y3 y4 (w32 (y5 + 1)) l6 s (z6 y3 y4 y5 s hI q2 q7).1 (Nat.lt_of_lt_of_le (z6 y3 y4 y5 s hI q2 q7).2 (Nat.le_of_lt_succ hm)))) (fun q => absurd q (by decide))⟩)))
  exact e99 (b99_0 h1 ((L (m8 (-1) (-1) 0 s + 1)) (-1) (-1) 0 none s z7 (Nat.lt_succ_self _)))

theorem c99 {X : (Nat → Int) × Nat} {d : Nat} {s : mSt} {Q : mQ} {a1 : Nat} {x2 : Int} (h1 : isBd a1) (p1 : a1 ≠ 54 ∧ BI s a1 ∧ (1 ≤ x2 ∧ x2 ≤ 9)) (k : ∀ (v : Int) (t : mSt), (v = (if (wdF (brow s a1) x2 (np (brow s a1))).1 < 0 then -1 else (wdF (brow s a1) x2 (np (brow s a1))).1) ∧ fW s t) → Q (some (mI v)) t) : Sp X (d + 10) 99 [mR 53, mR a1, mI x2] s Q := by
  obtain ⟨hn, hB, hx⟩ := p1
  have h3 := bi_np hB
  have n5 := np_le hB.1
  have hp := bd_54 h1 hn
  let a := brow s a1
  let W := wdF a x2
  have hWb := wdF_b a x2
  have hWs : ∀ p, W (p + 1) = if ¬ a (6 + p) = 15 ∧ (W p).2 < haF a p x2 then ((p : Int), haF a p x2) else W p := fun p => wdF_s a x2 p
  let J : Int → Int → Int → mSt → Prop := fun y3 y4 y5 t => ∃ j : Nat, y5 = j ∧ j ≤ np (brow s a1) ∧ y3 = (if (W j).1 < 0 then -1 else (W j).1) ∧ y4 = (if (W j).1 < 0 then -1 else (W j).2) ∧ fW s t
  have jj : ∀ y3 y4 y5 t, J y3 y4 y5 t → ¬ t a1 2 ≤ y5 → ∃ j : Nat, y5 = j ∧ j < np (brow s a1) ∧ y3 = (if (W j).1 < 0 then -1 else (W j).1) ∧ y4 = (if (W j).1 < 0 then -1 else (W j).2) ∧ fW s t ∧ BI t a1 ∧ brow t a1 = a ∧ t a1 2 = s a1 2 := fun y3 y4 y5 t ⟨j, e, hj, e3, e4, ht⟩ hc => by
    have w := BI_fW h1 hn hB ht
    have e2 : t a1 2 = s a1 2 := by rw [ht a1 (by omega) (by omega)]
    rw [e2] at hc
    exact ⟨j, e, by omega, e3, e4, ht, w.1, w.2, e2⟩
  have nx0 : ∀ (j : Nat) (t : mSt), j < np (brow s a1) → ¬ (¬ a (6 + j) = 15 ∧ (W j).2 < haF a j x2) → fW s t → J (if (W j).1 < 0 then -1 else (W j).1) (if (W j).1 < 0 then -1 else (W j).2) (w32 ((j : Int) + 1)) t ∧ (6 - w32 ((j : Int) + 1)).toNat < (6 - (j : Int)).toNat := fun j t hj hz ht => by
    rw [w32_of (by omega)]
    refine ⟨⟨j + 1, by omega, by omega, ?_, ?_, ht⟩, by omega⟩
    · rw [hWs, if_neg hz]
    · rw [hWs, if_neg hz]
  refine v99 h1 J (fun _ _ y _ => (6 - y).toNat) ?_ ?_ ?_ ?_ ?_ ?_ ?_
  · rintro _ _ _ t ⟨j, rfl, hj, rfl, rfl, ht⟩ hc
    rw [ht a1 (by omega) (by omega)] at hc
    have : j = np (brow s a1) := by omega
    subst this
    exact k _ t ⟨rfl, ht⟩
  · intro y3 y4 y5 t hJ hc
    obtain ⟨j, rfl, hj, rfl, rfl, ht, hb, e, e2⟩ := jj _ _ _ t hJ hc
    exact hb
  · intro y3 y4 y5 t hJ hc q
    obtain ⟨j, rfl, hj, rfl, rfl, ht, hb, e, e2⟩ := jj _ _ _ t hJ hc
    exact ⟨hn, hb, q.1, hx⟩
  · intro y3 y4 y5 t hJ hc q v u hu hv
    obtain ⟨j, rfl, hj, rfl, rfl, ht, hb, e, e2⟩ := jj _ _ _ t hJ hc
    rw [e, tnc] at hu
    have hh := haF_b a j x2
    refine nx0 j u hj (fun z => ?_) (fW_tr ht hu.2)
    have z2 := z.2
    rcases hWb j with w | w
    · have w1 : (W j).1 = -2 := w.1
      rw [if_pos (by omega)] at hv; omega
    · have w1 : 0 ≤ (W j).1 := w.1.1
      rw [if_neg (by omega)] at hv; omega
  · intro y3 y4 y5 t hJ hc q v u hu hv
    obtain ⟨j, rfl, hj, rfl, rfl, ht, hb, e, e2⟩ := jj _ _ _ t hJ hc
    rw [e, tnc] at hu q
    have z : ¬ a (6 + j) = 15 ∧ (W j).2 < haF a j x2 := by
      refine ⟨q.2, ?_⟩
      have hh := haF_b a j x2
      rcases hWb j with w | w
      · have w2 : (W j).2 = -2 := w.2
        omega
      · have w1 : 0 ≤ (W j).1 := w.1.1
        rw [if_neg (by omega)] at hv; omega
    rw [w32_of (by omega)]
    refine ⟨⟨j + 1, by omega, by omega, ?_, ?_, fW_tr ht hu.2⟩, by omega⟩
    · rw [hWs, if_pos z, if_neg (by dsimp only; omega)]
    · rw [hWs, if_pos z, if_neg (by dsimp only; omega)]; exact hu.1
  · intro y3 y4 y5 t hJ hc q
    obtain ⟨j, rfl, hj, rfl, rfl, ht, hb, e, e2⟩ := jj _ _ _ t hJ hc
    rw [e, tnc] at q
    exact nx0 j t hj (fun z => q ⟨by omega, z.1⟩) ht
  · exact ⟨0, rfl, by omega, rfl, rfl, fun _ _ _ => rfl⟩
