/-! harm -/
def haF (a : Rw) (p : Nat) (n : Int) : Int := cn (stk (dlR a p n)) (nc (dlR a p n))
theorem wait_k {s : mSt} {k : Nat} (hB : BI s k) {x : Int} (g : (0 ≤ x ∧ x < s k 3) ∧ ¬ pl (brow s k) x.toNat = true) :
    (s (k + 3) x.toNat).toNat = sM (brow s k) x.toNat ∧ (BI s k ∧ ¬ s k 0 = 0 ∧ (0 ≤ x ∧ x < s k 3) ∧ (0 < s (k + 3) x.toNat ∧ s (k + 3) x.toNat < 32) ∧ ∀ p, (s (k + 3) x.toNat).toNat.testBit p = true → p < np (brow s k)) := by
  have h4n := bi_nc hB
  have n6 := nc_le hB.1
  have e := biP hB (c := x.toNat) (by omega)
  have eM : (s (k + 3) x.toNat).toNat = sM (brow s k) x.toNat := by rw [e]; rfl
  have m := sM_b hB.1 (c := x.toNat) (by omega)
  refine ⟨eM, hB, bi_dc hB (by omega), g.1, ?_, ?_⟩
  · rw [e]; omega
  · rw [eM]; exact m.2.2.2
theorem v100 {X : (Nat → Int) × Nat} {d : Nat} {s : mSt} {Q : mQ} {a1 : Nat} {x2 : Int} {x3 : Int} (h1 : isBd a1)
  (I23 : Int → Int → mSt → Prop) (m23 : Int → Int → mSt → Nat)
  (z1 : ∀ y4 : Int, ∀ y5 : Int, ∀ s : mSt, I23 y4 y5 s → (s 54 3) ≤ y5 → Q (some (mI y4)) s)
  (z2 : ∀ y4 : Int, ∀ y5 : Int, ∀ s : mSt, I23 y4 y5 s → ¬ (s 54 3) ≤ y5 → BI s 54)
  (z3 : ∀ y4 : Int, ∀ y5 : Int, ∀ s : mSt, I23 y4 y5 s → ¬ (s 54 3) ≤ y5 → ((0 ≤ y5 ∧ y5 < s 54 3) ∧ ¬ pl (brow s 54) y5.toNat = true) → 0 ≤ y5 ∧ y5 < 6)
  (z4 : ∀ y4 : Int, ∀ y5 : Int, ∀ s : mSt, I23 y4 y5 s → ¬ (s 54 3) ≤ y5 → ((0 ≤ y5 ∧ y5 < s 54 3) ∧ ¬ pl (brow s 54) y5.toNat = true) → BI s 54 ∧ ¬ s 54 0 = 0 ∧ (0 ≤ y5 ∧ y5 < s 54 3) ∧ (0 < (s 57 y5.toNat) ∧ (s 57 y5.toNat) < 32) ∧ ∀ p, (s 57 y5.toNat).toNat.testBit p = true → p < np (brow s 54))
  (z5 : ∀ y4 : Int, ∀ y5 : Int, ∀ s : mSt, I23 y4 y5 s → ¬ (s 54 3) ≤ y5 → ((0 ≤ y5 ∧ y5 < s 54 3) ∧ ¬ pl (brow s 54) y5.toNat = true) → ∀ s4 : mSt, (0 < (plB (brow s 54) y5.toNat (s 57 y5.toNat).toNat).1 ∧ PB s4 (brow s 54) y5.toNat (s 57 y5.toNat).toNat (plB (brow s 54) y5.toNat (s 57 y5.toNat).toNat) ∧ fP s s4) → I23 y4 (w32 (y5 + 1)) s4 ∧ m23 y4 (w32 (y5 + 1)) s4 < m23 y4 y5 s)
  (z6 : ∀ y4 : Int, ∀ y5 : Int, ∀ s : mSt, I23 y4 y5 s → ¬ (s 54 3) ≤ y5 → ((0 ≤ y5 ∧ y5 < s 54 3) ∧ ¬ pl (brow s 54) y5.toNat = true) → ∀ s5 : mSt, ((plB (brow s 54) y5.toNat (s 57 y5.toNat).toNat).1 = 0 ∧ PB s5 (brow s 54) y5.toNat (s 57 y5.toNat).toNat (plB (brow s 54) y5.toNat (s 57 y5.toNat).toNat) ∧ fP s s5) → I23 (w32 (y4 + 1)) (w32 (y5 + 1)) s5 ∧ m23 (w32 (y4 + 1)) (w32 (y5 + 1)) s5 < m23 y4 y5 s)
  (z7 : ∀ y4 : Int, ∀ y5 : Int, ∀ s : mSt, I23 y4 y5 s → ¬ (s 54 3) ≤ y5 → (¬ ((0 ≤ y5 ∧ y5 < s 54 3) ∧ ¬ pl (brow s 54) y5.toNat = true)) → I23 y4 (w32 (y5 + 1)) s ∧ m23 y4 (w32 (y5 + 1)) s < m23 y4 y5 s)
  (z8 : 54 ≠ a1 ∧ BI s a1)
  (z9 : ∀ s7 : mSt, (BI s7 54 ∧ brow s7 54 = brow s a1 ∧ fB s s7 54) → BI s7 54 ∧ (0 ≤ x2 ∧ x2 < s7 54 2) ∧ (1 ≤ x3 ∧ x3 ≤ 9))
  (z10 : ∀ s7 : mSt, (BI s7 54 ∧ brow s7 54 = brow s a1 ∧ fB s s7 54) → ∀ s8 : mSt, (BI s8 54 ∧ brow s8 54 = dlR (brow s7 54) x2.toNat x3 ∧ fB s7 s8 54) → I23 0 0 s8) :
  Sp X (d + 9) 100 [mR 53, mR a1, mI x2, mI x3] s Q := by
  have L : ∀ k : Nat, (∀ (y4 : Int) (y5 : Int) (s : mSt), I23 y4 y5 s → m23 y4 y5 s < k → Wp X (d + 9) 100 23 [some (mR 53), some (mR a1), some (mI x2), some (mI x3), some (mI y4), some (mI y5)] [] s Q) := by
    intro k
    induction k with
    | zero => exact fun _ _ _ _ h => absurd h (Nat.not_lt_zero _)
    | succ k ih => exact fun y4 y5 s hI hm => b100_23 h1 (fun q1 => b100_82 h1 (z1 y4 y5 s hI q1)) (fun q2 => b100_35 h1 (c10 (bdm rfl) (z2 y4 y5 s hI q2) (fun q3 => ⟨1, rfl, b100_44 h1 (fun q => absurd q (by decide)) (fun _ => b100_47 h1 (z3 y4 y5 s hI q2 q3) (c59 (bdm rfl) (z4 y4 y5 s hI q2 q3) (fun s4 q4 => ⟨1, rfl, b100_70 h1 (fun _ => b100_76 h1 (ih y4 (w32 (y5 + 1)) s4 (z5 y4 y5 s hI q2 q3 s4 q4).1 (Nat.lt_of_lt_of_le (z5 y4 y5 s hI q2 q3 s4 q4).2 (Nat.le_of_lt_succ hm)))) (fun q => absurd q (by decide))⟩) (fun s5 q5 => ⟨0, rfl, b100_70 h1 (fun q => absurd q (by decide)) (fun _ => b100_73 h1 (b100_76 h1 (ih (w32 (y4 + 1)) (w32 (y5 + 1)) s5 (z6 y4 y5 s hI q2 q3 s5 q5).1 (Nat.lt_of_lt_of_le (z6 y4 y5 s hI q2 q3 s5 q5).2 (Nat.le_of_lt_succ hm)))))⟩)))⟩) (fun q6 => ⟨0, rfl, b100_44 h1 (fun _ => b100_76 h1 (ih y4 (w32 (y5 + 1)) s (z7 y4 y5 s hI q2 q6).1 (Nat.lt_of_lt_of_le (z7 y4 y5 s hI q2 q6).2 (Nat.le_of_lt_succ hm)))) (fun q => absurd q (by decide))⟩)))
  exact e100 (b100_0 h1 (c3 (bdm rfl) h1 z8 (fun s7 q7 => ⟨rfl, b100_8 h1 (c26 (bdm rfl) (z9 s7 q7) (fun s8 q8 => ⟨rfl, b100_17 h1 ((L (m23 0 0 s8 + 1)) 0 0 s8 (z10 s7 q7 s8 q8) (Nat.lt_succ_self _))⟩))⟩)))

theorem c100 {X : (Nat → Int) × Nat} {d : Nat} {s : mSt} {Q : mQ} {a1 : Nat} {x2 : Int} {x3 : Int} (h1 : isBd a1) (p1 : a1 ≠ 54 ∧ BI s a1 ∧ (0 ≤ x2 ∧ x2 < s a1 2) ∧ (1 ≤ x3 ∧ x3 ≤ 9)) (k : ∀ (v : Int) (t : mSt), (v = haF (brow s a1) x2.toNat x3 ∧ fW s t) → Q (some (mI v)) t) : Sp X (d + 9) 100 [mR 53, mR a1, mI x2, mI x3] s Q := by
  obtain ⟨hn, hB, hp, hx⟩ := p1
  let b := dlR (brow s a1) x2.toNat x3
  have hb : b = dlR (brow s a1) x2.toNat x3 := rfl
  let J : Int → Int → mSt → Prop := fun y4 y5 t => ∃ j : Nat, y5 = j ∧ j ≤ nc b ∧ y4 = cn (stk b) j ∧ BI t 54 ∧ brow t 54 = b ∧ fW s t
  have w54 : ∀ t u : mSt, BI t 54 → fP t u → BI u 54 ∧ brow u 54 = brow t 54 := fun t u h hu => BI_cells h (fun x hx => hu x (by omega)) (hu 417 (by decide))
  have fw : ∀ t u : mSt, fW s t → fP t u → fW s u := fun t u ht hu b h1 h2 => (hu b (by omega)).trans (ht b h1 h2)
  have nx : ∀ (j : Nat) (u : mSt) (x : Int), j < nc b → nc b ≤ 6 → BI u 54 → brow u 54 = b → fW s u → x = cn (stk b) j + (if stk b j = true then 1 else 0) → J x (w32 ((j : Int) + 1)) u ∧ (6 - w32 ((j : Int) + 1)).toNat < (6 - (j : Int)).toNat := fun j u x hj h6 h1 h2 h3 hx => by
    rw [w32_of (by omega)]
    exact ⟨⟨j + 1, by omega, by omega, by rw [cn_s, hx], h1, h2, h3⟩, by omega⟩
  refine v100 h1 J (fun _ y _ => (6 - y).toNat) ?_ ?_ ?_ ?_ ?_ ?_ ?_ ?_ ?_ ?_
  · rintro _ _ t ⟨j, rfl, hj, rfl, h, e, ht⟩ hc
    have h4 := bi_nc h
    rw [e] at h4
    have : j = nc b := by omega
    subst this
    exact k _ t ⟨rfl, ht⟩
  · rintro _ _ t ⟨j, rfl, hj, rfl, h, e, ht⟩ hc
    exact h
  · rintro _ _ t ⟨j, rfl, hj, rfl, h, e, ht⟩ hc q
    have h4 := bi_nc h
    have n6 := nc_le h.1
    omega
  · rintro _ _ t ⟨j, rfl, hj, rfl, h, e, ht⟩ hc q
    exact (wait_k h q).2
  · rintro _ _ t ⟨j, rfl, hj, rfl, h, e, ht⟩ hc q u hu
    have h4 := bi_nc h
    have n6 := nc_le h.1
    have wk : (t 57 ((j : Int)).toNat).toNat = sM (brow t 54) ((j : Int)).toNat := (wait_k h q).1
    rw [wk, e, tnc] at hu
    rw [e] at h4 n6 q
    rw [tnc] at q
    have w := w54 t u h hu.2.2
    refine nx j u _ (by omega) n6 w.1 (w.2.trans e) (fw t u ht hu.2.2) ?_
    have hz : 0 < (pA1 b j).1 := hu.1
    rw [if_neg (fun z => by have := (stk_iff.1 z).2; omega), Int.add_zero]
  · rintro _ _ t ⟨j, rfl, hj, rfl, h, e, ht⟩ hc q u hu
    have h4 := bi_nc h
    have n6 := nc_le h.1
    have wk : (t 57 ((j : Int)).toNat).toNat = sM (brow t 54) ((j : Int)).toNat := (wait_k h q).1
    rw [wk, e, tnc] at hu
    rw [e] at h4 n6 q
    rw [tnc] at q
    have w := w54 t u h hu.2.2
    have bc := cn_le (f := stk b) (n := j)
    have hz : (pA1 b j).1 = 0 := hu.1
    rw [w32_of (x := cn (stk b) j + 1) (by omega)]
    refine nx j u _ (by omega) n6 w.1 (w.2.trans e) (fw t u ht hu.2.2) ?_
    rw [if_pos (stk_iff.2 ⟨q.2, hz⟩)]
  · rintro _ _ t ⟨j, rfl, hj, rfl, h, e, ht⟩ hc q
    have h4 := bi_nc h
    have n6 := nc_le h.1
    rw [e] at h4 n6 q
    rw [tnc] at q
    refine nx j t _ (by omega) n6 h e ht ?_
    rw [if_neg (fun z => q ⟨by omega, (stk_iff.1 z).1⟩), Int.add_zero]
  · exact ⟨fun z => hn z.symm, hB⟩
  · intro u hu
    refine ⟨hu.1, ?_, hx⟩
    rw [bi3 hu.1, hu.2.1, ← bi3 hB]; exact hp
  · intro u hu v hv
    rw [hu.2.1] at hv
    exact ⟨0, rfl, by omega, rfl, hv.1, hv.2.1, fun b _ hb => (hv.2.2 b hb).trans (hu.2.2 b hb)⟩
theorem bd_54 {a : Nat} (h : isBd a) (hn : a ≠ 54) : a + 9 < 44 ∨ 63 < a := (show ∀ a ∈ bdL, a ≠ 54 → a + 9 < 44 ∨ 63 < a by decide +kernel) a h hn
theorem BI_fW {s t : mSt} {k : Nat} (hk : isBd k) (hn : k ≠ 54) (h : BI s k) (e : fW s t) : BI t k ∧ brow t k = brow s k := by
  have hp := bd_54 hk hn
  have hl := bd_lt hk
  exact BI_cells h (fun x hx => e x (by omega) (by omega)) (e 417 (by omega) (by omega))
theorem fW_tr {s t u : mSt} (a : fW s t) (b : fW t u) : fW s u := fun x h1 h2 => (b x h1 h2).trans (a x h1 h2)
/-- the delay that harms most -/
def wdF (a : Rw) (n : Int) : Nat → Int × Int
  | 0 => (-2, -2)
  | p + 1 => if ¬ a (6 + p) = 15 ∧ (wdF a n p).2 < haF a p n then ((p : Int), haF a p n) else wdF a n p
theorem wdF_s (a : Rw) (n : Int) (p : Nat) : wdF a n (p + 1) = if ¬ a (6 + p) = 15 ∧ (wdF a n p).2 < haF a p n then ((p : Int), haF a p n) else wdF a n p := rfl
theorem haF_b (a : Rw) (p : Nat) (n : Int) : 0 ≤ haF a p n := by unfold haF; exact (cn_le).1
theorem wdF_b (a : Rw) (n : Int) : ∀ p : Nat, ((wdF a n p).1 = -2 ∧ (wdF a n p).2 = -2) ∨ ((0 ≤ (wdF a n p).1 ∧ (wdF a n p).1 < p) ∧ 0 ≤ (wdF a n p).2 ∧ (wdF a n p).2 = haF a (wdF a n p).1.toNat n ∧ ¬ a (6 + (wdF a n p).1.toNat) = 15)
  | 0 => Or.inl ⟨rfl, rfl⟩
  | p + 1 => by
    have ih := wdF_b a n p
    rw [wdF_s]
    by_cases z : ¬ a (6 + p) = 15 ∧ (wdF a n p).2 < haF a p n
    · rw [if_pos z]
      refine Or.inr ⟨⟨by dsimp only; omega, by dsimp only; omega⟩, haF_b a p n, ?_, ?_⟩
      · dsimp only; rw [tnc]
      · dsimp only; rw [tnc]; exact z.1
    · rw [if_neg z]
      rcases ih with w | w
      · exact Or.inl w
      · exact Or.inr ⟨⟨w.1.1, by omega⟩, w.2⟩
theorem v99 {X : (Nat → Int) × Nat} {d : Nat} {s : mSt} {Q : mQ} {a1 : Nat} {x2 : Int} (h1 : isBd a1)
  (I8 : Int → Int → Int → mSt → Prop) (m8 : Int → Int → Int → mSt → Nat)
  (z1 : ∀ y3 : Int, ∀ y4 : Int, ∀ y5 : Int, ∀ s : mSt, I8 y3 y4 y5 s → (s a1 2) ≤ y5 → Q (some (mI y3)) s)
  (z2 : ∀ y3 : Int, ∀ y4 : Int, ∀ y5 : Int, ∀ s : mSt, I8 y3 y4 y5 s → ¬ (s a1 2) ≤ y5 → BI s a1)
  (z3 : ∀ y3 : Int, ∀ y4 : Int, ∀ y5 : Int, ∀ s : mSt, I8 y3 y4 y5 s → ¬ (s a1 2) ≤ y5 → ((0 ≤ y5 ∧ y5 < s a1 2) ∧ ¬ brow s a1 (6 + y5.toNat) = 15) → a1 ≠ 54 ∧ BI s a1 ∧ (0 ≤ y5 ∧ y5 < s a1 2) ∧ (1 ≤ x2 ∧ x2 ≤ 9))
  (z4 : ∀ y3 : Int, ∀ y4 : Int, ∀ y5 : Int, ∀ s : mSt, I8 y3 y4 y5 s → ¬ (s a1 2) ≤ y5 → ((0 ≤ y5 ∧ y5 < s a1 2) ∧ ¬ brow s a1 (6 + y5.toNat) = 15) → ∀ v4 : Int, ∀ s4 : mSt, (v4 = haF (brow s a1) y5.toNat x2 ∧ fW s s4) → v4 ≤ y4 → I8 y3 y4 (w32 (y5 + 1)) s4 ∧ m8 y3 y4 (w32 (y5 + 1)) s4 < m8 y3 y4 y5 s)
  (z5 : ∀ y3 : Int, ∀ y4 : Int, ∀ y5 : Int, ∀ s : mSt, I8 y3 y4 y5 s → ¬ (s a1 2) ≤ y5 → ((0 ≤ y5 ∧ y5 < s a1 2) ∧ ¬ brow s a1 (6 + y5.toNat) = 15) → ∀ v4 : Int, ∀ s4 : mSt, (v4 = haF (brow s a1) y5.toNat x2 ∧ fW s s4) → ¬ v4 ≤ y4 → I8 y5 v4 (w32 (y5 + 1)) s4 ∧ m8 y5 v4 (w32 (y5 + 1)) s4 < m8 y3 y4 y5 s)
  (z6 : ∀ y3 : Int, ∀ y4 : Int, ∀ y5 : Int, ∀ s : mSt, I8 y3 y4 y5 s → ¬ (s a1 2) ≤ y5 → (¬ ((0 ≤ y5 ∧ y5 < s a1 2) ∧ ¬ brow s a1 (6 + y5.toNat) = 15)) → I8 y3 y4 (w32 (y5 + 1)) s ∧ m8 y3 y4 (w32 (y5 + 1)) s < m8 y3 y4 y5 s)
  (z7 : I8 (-1) (-1) 0 s) :
  Sp X (d + 10) 99 [mR 53, mR a1, mI x2] s Q := by
  have L : ∀ k : Nat, (∀ (y3 : Int) (y4 : Int) (y5 : Int) (l6 : Option mV) (s : mSt), I8 y3 y4 y5 s → m8 y3 y4 y5 s < k → Wp X (d + 10) 99 8 [some (mR 53), some (mR a1), some (mI x2), some (mI y3), some (mI y4), some (mI y5), l6] [] s Q) := by
    intro k
    induction k with
    | zero => exact fun _ _ _ _ _ _ h => absurd h (Nat.not_lt_zero _)
    | succ k ih => exact fun y3 y4 y5 l6 s hI hm => b99_8 h1 (fun q1 => b99_56 h1 (z1 y3 y4 y5 s hI q1)) (fun q2 => b99_17 h1 (c25 h1 (z2 y3 y4 y5 s hI q2) (fun q3 => ⟨1, rfl, b99_23 h1 (fun q => absurd q (by decide)) (fun _ => b99_26 h1 (c100 h1 (z3 y3 y4 y5 s hI q2 q3) (fun v4 s4 q4 => ⟨v4, rfl, b99_34 h1 (fun q5 => b99_50 h1 (ih y3 y4 (w32 (y5 + 1)) (some (mI v4)) s4 (z4 y3 y4 y5 s hI q2 q3 v4 s4 q4 q5).1 (Nat.lt_of_lt_of_le (z4 y3 y4 y5 s hI q2 q3 v4 s4 q4 q5).2 (Nat.le_of_lt_succ hm)))) (fun q6 => b99_43 h1 (b99_50 h1 (ih y5 v4 (w32 (y5 + 1)) (some (mI v4)) s4 (z5 y3 y4 y5 s hI q2 q3 v4 s4 q4 q6).1 (Nat.lt_of_lt_of_le (z5 y3 y4 y5 s hI q2 q3 v4 s4 q4 q6).2 (Nat.le_of_lt_succ hm)))))⟩)))⟩) (fun q7 => ⟨0, rfl, b99_23 h1 (fun _ => b99_50 h1 (ih y3 y4 (w32 (y5 + 1)) l6 s (z6 y3 y4 y5 s hI q2 q7).1 (Nat.lt_of_lt_of_le (z6 y3 y4 y5 s hI q2 q7).2 (Nat.le_of_lt_succ hm)))) (fun q => absurd q (by decide))⟩)))
  exact e99 (b99_0 h1 ((L (m8 (-1) (-1) 0 s + 1)) (-1) (-1) 0 none s z7 (Nat.lt_succ_self _)))

theorem c99 {X : (Nat → Int) × Nat} {d : Nat} {s : mSt} {Q : mQ} {a1 : Nat} {x2 : Int} (h1 : isBd a1) (p1 : a1 ≠ 54 ∧ BI s a1 ∧ (1 ≤ x2 ∧ x2 ≤ 9)) (k : ∀ (v : Int) (t : mSt), (v = (if (wdF (brow s a1) x2 (np (brow s a1))).1 < 0 then -1 else (wdF (brow s a1) x2 (np (brow s a1))).1) ∧ fW s t) → Q (some (mI v)) t) : Sp X (d + 10) 99 [mR 53, mR a1, mI x2] s Q := by
  obtain ⟨hn, hB, hx⟩ := p1
  have h3 := bi_np hB
  have n5 := np_le hB.1
  have hp := bd_54 h1 hn
  let a := brow s a1
  let W := wdF a x2
  have hWb := wdF_b a x2
  have hWs : ∀ p, W (p + 1) = if ¬ a (6 + p) = 15 ∧ (W p).2 < haF a p x2 then ((p : Int), haF a p x2) else W p := fun p => wdF_s a x2 p
  let J : Int → Int → Int → mSt → Prop := fun y3 y4 y5 t => ∃ j : Nat, y5 = j ∧ j ≤ np (brow s a1) ∧ y3 = (if (W j).1 < 0 then -1 else (W j).1) ∧ y4 = (if (W j).1 < 0 then -1 else (W j).2) ∧ fW s t
  have jj : ∀ y3 y4 y5 t, J y3 y4 y5 t → ¬ t a1 2 ≤ y5 → ∃ j : Nat, y5 = j ∧ j < np (brow s a1) ∧ y3 = (if (W j).1 < 0 then -1 else (W j).1) ∧ y4 = (if (W j).1 < 0 then -1 else (W j).2) ∧ fW s t ∧ BI t a1 ∧ brow t a1 = a ∧ t a1 2 = s a1 2 := fun y3 y4 y5 t ⟨j, e, hj, e3, e4, ht⟩ hc => by
    have w := BI_fW h1 hn hB ht
    have e2 : t a1 2 = s a1 2 := by rw [ht a1 (by omega) (by omega)]
    rw [e2] at hc
    exact ⟨j, e, by omega, e3, e4, ht, w.1, w.2, e2⟩
  have nx0 : ∀ (j : Nat) (t : mSt), j < np (brow s a1) → ¬ (¬ a (6 + j) = 15 ∧ (W j).2 < haF a j x2) → fW s t → J (if (W j).1 < 0 then -1 else (W j).1) (if (W j).1 < 0 then -1 else (W j).2) (w32 ((j : Int) + 1)) t ∧ (6 - w32 ((j : Int) + 1)).toNat < (6 - (j : Int)).toNat := fun j t hj hz ht => by
    rw [w32_of (by omega)]
    refine ⟨⟨j + 1, by omega, by omega, ?_, ?_, ht⟩, by omega⟩
    · rw [hWs, if_neg hz]
    · rw [hWs, if_neg hz]
  refine v99 h1 J (fun _ _ y _ => (6 - y).toNat) ?_ ?_ ?_ ?_ ?_ ?_ ?_
  · rintro _ _ _ t ⟨j, rfl, hj, rfl, rfl, ht⟩ hc
    rw [ht a1 (by omega) (by omega)] at hc
    have : j = np (brow s a1) := by omega
    subst this
    exact k _ t ⟨rfl, ht⟩
  · intro y3 y4 y5 t hJ hc
    obtain ⟨j, rfl, hj, rfl, rfl, ht, hb, e, e2⟩ := jj _ _ _ t hJ hc
    exact hb
  · intro y3 y4 y5 t hJ hc q
    obtain ⟨j, rfl, hj, rfl, rfl, ht, hb, e, e2⟩ := jj _ _ _ t hJ hc
    exact ⟨hn, hb, q.1, hx⟩
  · intro y3 y4 y5 t hJ hc q v u hu hv
    obtain ⟨j, rfl, hj, rfl, rfl, ht, hb, e, e2⟩ := jj _ _ _ t hJ hc
    rw [e, tnc] at hu
    have hh := haF_b a j x2
    refine nx0 j u hj (fun z => ?_) (fW_tr ht hu.2)
    have z2 := z.2
    rcases hWb j with w | w
    · have w1 : (W j).1 = -2 := w.1
      rw [if_pos (by omega)] at hv; omega
    · have w1 : 0 ≤ (W j).1 := w.1.1
      rw [if_neg (by omega)] at hv; omega
  · intro y3 y4 y5 t hJ hc q v u hu hv
    obtain ⟨j, rfl, hj, rfl, rfl, ht, hb, e, e2⟩ := jj _ _ _ t hJ hc
    rw [e, tnc] at hu q
    have z : ¬ a (6 + j) = 15 ∧ (W j).2 < haF a j x2 := by
      refine ⟨q.2, ?_⟩
      have hh := haF_b a j x2
      rcases hWb j with w | w
      · have w2 : (W j).2 = -2 := w.2
        omega
      · have w1 : 0 ≤ (W j).1 := w.1.1
        rw [if_neg (by omega)] at hv; omega
    rw [w32_of (by omega)]
    refine ⟨⟨j + 1, by omega, by omega, ?_, ?_, fW_tr ht hu.2⟩, by omega⟩
    · rw [hWs, if_pos z, if_neg (by dsimp only; omega)]
    · rw [hWs, if_pos z, if_neg (by dsimp only; omega)]; exact hu.1
  · intro y3 y4 y5 t hJ hc q
    obtain ⟨j, rfl, hj, rfl, rfl, ht, hb, e, e2⟩ := jj _ _ _ t hJ hc
    rw [e, tnc] at q
    exact nx0 j t hj (fun z => q ⟨by omega, z.1⟩) ht
  · exact ⟨0, rfl, by omega, rfl, rfl, fun _ _ _ => rfl⟩
def hmQ (a : Rw) (x y r : Int) : Prop := YN (a 0 = 1 ∧ (1 ≤ x ∧ x ≤ 9) ∧ (0 ≤ y ∧ y ≤ 1)) (r = if y = 0 then (wdF a x (np a)).1 else (wdF a x (np a)).2) (r = -1)
theorem v148 {X : (Nat → Int) × Nat} {d : Nat} {s : mSt} {Q : mQ} {x1 : Int} {x2 : Int}
  (z1 : 0 < s 18 0 → x1 < 1 → Q (some (mI (-1))) s)
  (z2 : 0 < s 18 0 → ¬ x1 < 1 → 9 < x1 → Q (some (mI (-1))) s)
  (z3 : 0 < s 18 0 → ¬ x1 < 1 → ¬ 9 < x1 → x2 < 0 → Q (some (mI (-1))) s)
  (z4 : 0 < s 18 0 → ¬ x1 < 1 → ¬ 9 < x1 → ¬ x2 < 0 → x2 ≤ 1 → 18 ≠ 54 ∧ BI s 18 ∧ (1 ≤ x1 ∧ x1 ≤ 9))
  (z5 : 0 < s 18 0 → ¬ x1 < 1 → ¬ 9 < x1 → ¬ x2 < 0 → x2 ≤ 1 → ∀ v9 : Int, ∀ s9 : mSt, (v9 = (if (wdF (brow s 18) x1 (np (brow s 18))).1 < 0 then -1 else (wdF (brow s 18) x1 (np (brow s 18))).1) ∧ fW s s9) → ¬ v9 = (-1) → ¬ x2 = 0 → 18 ≠ 54 ∧ BI s9 18 ∧ (0 ≤ v9 ∧ v9 < s9 18 2) ∧ (1 ≤ x1 ∧ x1 ≤ 9))
  (z6 : 0 < s 18 0 → ¬ x1 < 1 → ¬ 9 < x1 → ¬ x2 < 0 → x2 ≤ 1 → ∀ v9 : Int, ∀ s9 : mSt, (v9 = (if (wdF (brow s 18) x1 (np (brow s 18))).1 < 0 then -1 else (wdF (brow s 18) x1 (np (brow s 18))).1) ∧ fW s s9) → ¬ v9 = (-1) → ¬ x2 = 0 → ∀ v12 : Int, ∀ s12 : mSt, (v12 = haF (brow s9 18) v9.toNat x1 ∧ fW s9 s12) → Q (some (mI v12)) s12)
  (z7 : 0 < s 18 0 → ¬ x1 < 1 → ¬ 9 < x1 → ¬ x2 < 0 → x2 ≤ 1 → ∀ v9 : Int, ∀ s9 : mSt, (v9 = (if (wdF (brow s 18) x1 (np (brow s 18))).1 < 0 then -1 else (wdF (brow s 18) x1 (np (brow s 18))).1) ∧ fW s s9) → ¬ v9 = (-1) → x2 = 0 → Q (some (mI v9)) s9)
  (z8 : 0 < s 18 0 → ¬ x1 < 1 → ¬ 9 < x1 → ¬ x2 < 0 → x2 ≤ 1 → ∀ v9 : Int, ∀ s9 : mSt, (v9 = (if (wdF (brow s 18) x1 (np (brow s 18))).1 < 0 then -1 else (wdF (brow s 18) x1 (np (brow s 18))).1) ∧ fW s s9) → v9 = (-1) → Q (some (mI (-2))) s9)
  (z9 : 0 < s 18 0 → ¬ x1 < 1 → ¬ 9 < x1 → ¬ x2 < 0 → ¬ x2 ≤ 1 → Q (some (mI (-1))) s)
  (z10 : ¬ (0 < s 18 0) → Q (some (mI (-1))) s) :
  Sp X (d + 11) 148 [mR 0, mI x1, mI x2] s Q := e148 (b148_0 (c6 (bdm rfl) (fun q1 => ⟨1, rfl, b148_10 (fun q => absurd q (by decide)) (fun _ => b148_13 (fun q2 => b148_33 (z1 q1 q2)) (fun q3 => b148_18 (fun q4 => b148_33 (z2 q1 q3 q4)) (fun q5 => b148_24 (fun q6 => b148_33 (z3 q1 q3 q5 q6)) (fun q7 => b148_28 (fun q8 => b148_35 (c99 (bdm rfl) (z4 q1 q3 q5 q7 q8) (fun v9 s9 q9 => ⟨v9, rfl, b148_50 (fun q10 => b148_59 (fun q11 => b148_67 (c100 (bdm rfl) (z5 q1 q3 q5 q7 q8 v9 s9 q9 q10 q11) (fun v12 s12 q12 => ⟨v12, rfl, b148_83 (z6 q1 q3 q5 q7 q8 v9 s9 q9 q10 q11 v12 s12 q12)⟩))) (fun q13 => b148_63 (b148_83 (z7 q1 q3 q5 q7 q8 v9 s9 q9 q10 q13)))) (fun q14 => b148_56 (z8 q1 q3 q5 q7 q8 v9 s9 q9 q14))⟩))) (fun q15 => b148_33 (z9 q1 q3 q5 q7 q15))))))⟩) (fun q16 => ⟨0, rfl, b148_10 (fun _ => b148_33 (z10 q16)) (fun q => absurd q (by decide))⟩)))

theorem c148 {X : (Nat → Int) × Nat} {d : Nat} {s : mSt} {Q : mQ} {x1 : Int} {x2 : Int} (p1 : BI s 18) (k : ∀ (v : Int) (t : mSt), (hmQ (brow s 18) x1 x2 v ∧ fW s t) → Q (some (mI v)) t) : Sp X (d + 11) 148 [mR 0, mI x1, mI x2] s Q := by
  have hB := p1
  have b0 := hB.2.2.2.2.1
  have e0 := brw_0 (s := s) (k := 18)
  have h3 := bi_np hB
  have is18 : isBd 18 := (show 18 ∈ bdL by decide +kernel)
  have no : ∀ g : ¬ (brow s 18 0 = 1 ∧ (1 ≤ x1 ∧ x1 ≤ 9) ∧ (0 ≤ x2 ∧ x2 ≤ 1)), Q (some (mI (-1))) s := fun g => k _ s ⟨YN_n g rfl, fun _ _ _ => rfl⟩
  have hW := wdF_b (brow s 18) x1 (np (brow s 18))
  refine v148 (fun g0 g => no (by omega)) (fun g0 g1 g2 => no (by omega)) (fun g0 g1 g2 g3 => no (by omega)) (fun g0 g1 g2 g3 g4 => ⟨by decide, hB, by omega⟩) (fun g0 g1 g2 g3 g4 v t ht q q2 => ?_) (fun g0 g1 g2 g3 g4 v t ht q q2 v' u hu => ?_) (fun g0 g1 g2 g3 g4 v t ht q q2 => ?_) (fun g0 g1 g2 g3 g4 v t ht q => ?_) (fun g0 g1 g2 g3 g4 => no (by omega)) (fun g0 => ?_)
  · have w := BI_fW is18 (by decide) hB ht.2
    rw [ht.2 18 (by decide) (by decide)]
    rcases hW with y | y
    · rw [if_pos (by omega)] at ht; exact absurd ht.1 q
    · rw [if_neg (by omega)] at ht
      exact ⟨by decide, w.1, by omega, by omega⟩
  · have w := BI_fW is18 (by decide) hB ht.2
    rw [w.2] at hu
    rw [if_neg (by omega)] at e0
    rcases hW with y | y
    · rw [if_pos (by omega)] at ht; exact absurd ht.1 q
    · rw [if_neg (by omega)] at ht
      refine k _ u ⟨YN_y ⟨e0, by omega, by omega⟩ ?_, fW_tr ht.2 hu.2⟩
      rw [if_neg q2, hu.1, ht.1]; exact y.2.2.1.symm
  · rw [if_neg (by omega)] at e0
    rcases hW with y | y
    · rw [if_pos (by omega)] at ht; exact absurd ht.1 q
    · rw [if_neg (by omega)] at ht
      refine k _ t ⟨YN_y ⟨e0, by omega, by omega⟩ ?_, ht.2⟩
      rw [if_pos q2]; exact ht.1
  · rw [if_neg (by omega)] at e0
    rcases hW with y | y
    · refine k _ t ⟨YN_y ⟨e0, by omega, by omega⟩ ?_, ht.2⟩
      rw [y.1, y.2]; split <;> rfl
    · rw [if_neg (by omega)] at ht; omega
  · rw [if_pos (by omega)] at e0
    exact no (by omega)
theorem v283 {X : (Nat → Int) × Nat} {d : Nat} {s : mSt} {Q : mQ} {x1 : Int} {x2 : Int}
  (I45 : Int → Int → Int → mSt → Prop) (m45 : Int → Int → Int → mSt → Nat)
  (z1 : ∀ y3 : Int, ∀ y4 : Int, ∀ y5 : Int, ∀ s : mSt, I45 y3 y4 y5 s → (s 417 3) ≤ y5 → ¬ x2 = 0 → Q (some (mI y4)) s)
  (z2 : ∀ y3 : Int, ∀ y4 : Int, ∀ y5 : Int, ∀ s : mSt, I45 y3 y4 y5 s → (s 417 3) ≤ y5 → x2 = 0 → Q (some (mI y3)) s)
  (z3 : ∀ y3 : Int, ∀ y4 : Int, ∀ y5 : Int, ∀ s : mSt, I45 y3 y4 y5 s → ¬ (s 417 3) ≤ y5 → 0 ≤ (w32 (6 + y5)) ∧ (w32 (6 + y5)) < 166)
  (z4 : ∀ y3 : Int, ∀ y4 : Int, ∀ y5 : Int, ∀ s : mSt, I45 y3 y4 y5 s → ¬ (s 417 3) ≤ y5 → ¬ (s 417 (w32 (6 + y5)).toNat) = 15 → Ok (s 417) ∧ (0 ≤ y5 ∧ y5 < s 417 3) ∧ (1 ≤ x1 ∧ x1 ≤ 9))
  (z5 : ∀ y3 : Int, ∀ y4 : Int, ∀ y5 : Int, ∀ s : mSt, I45 y3 y4 y5 s → ¬ (s 417 3) ≤ y5 → ¬ (s 417 (w32 (6 + y5)).toNat) = 15 → ∀ t6 : mSt, t6 = uR s (dlR (s 417) y5.toNat x1) → Ok (t6 417))
  (z6 : ∀ y3 : Int, ∀ y4 : Int, ∀ y5 : Int, ∀ s : mSt, I45 y3 y4 y5 s → ¬ (s 417 3) ≤ y5 → ¬ (s 417 (w32 (6 + y5)).toNat) = 15 → ∀ t6 : mSt, t6 = uR s (dlR (s 417) y5.toNat x1) → ∀ v7 : Int, ∀ s7 : mSt, (v7 = cn (stk (t6 417)) (nc (t6 417)) ∧ fQ t6 s7) → ∀ t8 : mSt, t8 = uR s7 (lbk (s7 417) (s7 429)) → y4 < v7 → I45 y5 v7 (w32 (y5 + 1)) t8 ∧ m45 y5 v7 (w32 (y5 + 1)) t8 < m45 y3 y4 y5 s)
  (z7 : ∀ y3 : Int, ∀ y4 : Int, ∀ y5 : Int, ∀ s : mSt, I45 y3 y4 y5 s → ¬ (s 417 3) ≤ y5 → ¬ (s 417 (w32 (6 + y5)).toNat) = 15 → ∀ t6 : mSt, t6 = uR s (dlR (s 417) y5.toNat x1) → ∀ v7 : Int, ∀ s7 : mSt, (v7 = cn (stk (t6 417)) (nc (t6 417)) ∧ fQ t6 s7) → ∀ t8 : mSt, t8 = uR s7 (lbk (s7 417) (s7 429)) → ¬ y4 < v7 → I45 y3 y4 (w32 (y5 + 1)) t8 ∧ m45 y3 y4 (w32 (y5 + 1)) t8 < m45 y3 y4 y5 s)
  (z8 : ∀ y3 : Int, ∀ y4 : Int, ∀ y5 : Int, ∀ s : mSt, I45 y3 y4 y5 s → ¬ (s 417 3) ≤ y5 → (s 417 (w32 (6 + y5)).toNat) = 15 → I45 y3 y4 (w32 (y5 + 1)) s ∧ m45 y3 y4 (w32 (y5 + 1)) s < m45 y3 y4 y5 s)
  (z9 : s 417 0 = 1 → (1 ≤ x1 ∧ x1 ≤ 9) → (0 ≤ x2 ∧ x2 ≤ 1) → ∀ t15 : mSt, t15 = uC s 429 (kpR (s 417) (s 429)) → I45 (-2) (-2) 0 t15)
  (z10 : s 417 0 = 1 → (1 ≤ x1 ∧ x1 ≤ 9) → (¬ (0 ≤ x2 ∧ x2 ≤ 1)) → Q (some (mI (-1))) s)
  (z11 : s 417 0 = 1 → (¬ (1 ≤ x1 ∧ x1 ≤ 9)) → Q (some (mI (-1))) s)
  (z12 : ¬ (s 417 0 = 1) → Q (some (mI (-1))) s) :
  Sp X (d + 7) 283 [mR 407, mI x1, mI x2] s Q := by
  have L : ∀ k : Nat, (∀ (y3 : Int) (y4 : Int) (y5 : Int) (l6 : Option mV) (s : mSt), I45 y3 y4 y5 s → m45 y3 y4 y5 s < k → Wp X (d + 7) 283 45 [some (mR 407), some (mI x1), some (mI x2), some (mI y3), some (mI y4), some (mI y5), l6] [] s Q) := by
    intro k
    induction k with
    | zero => exact fun _ _ _ _ _ _ h => absurd h (Nat.not_lt_zero _)
    | succ k ih => exact fun y3 y4 y5 l6 s hI hm => b283_45 (fun q1 => b283_114 (fun q2 => b283_122 (b283_124 (z1 y3 y4 y5 s hI q1 q2))) (fun q3 => b283_118 (b283_124 (z2 y3 y4 y5 s hI q1 q3)))) (fun q4 => b283_56 (z3 y3 y4 y5 s hI q4) (fun q5 => b283_74 (c258 (z4 y3 y4 y5 s hI q4 q5) ⟨rfl, Wp_gen (fun t6 e6 => b283_81 (c282 (z5 y3 y4 y5 s hI q4 q5 t6 e6) (fun v7 s7 q7 => ⟨v7, rfl, b283_85 (c278  ⟨rfl, Wp_gen (fun t8 e8 => b283_91 (fun q9 => b283_101 (b283_108 (ih y5 v7 (w32 (y5 + 1)) (some (mI v7)) t8 (z6 y3 y4 y5 s hI q4 q5 t6 e6 v7 s7 q7 t8 e8 q9).1 (Nat.lt_of_lt_of_le (z6 y3 y4 y5 s hI q4 q5 t6 e6 v7 s7 q7 t8 e8 q9).2 (Nat.le_of_lt_succ hm))))) (fun q10 => b283_98 (b283_108 (ih y3 y4 (w32 (y5 + 1)) (some (mI v7)) t8 (z7 y3 y4 y5 s hI q4 q5 t6 e6 v7 s7 q7 t8 e8 q10).1 (Nat.lt_of_lt_of_le (z7 y3 y4 y5 s hI q4 q5 t6 e6 v7 s7 q7 t8 e8 q10).2 (Nat.le_of_lt_succ hm))))))⟩)⟩)))⟩)) (fun q11 => b283_71 (b283_108 (ih y3 y4 (w32 (y5 + 1)) l6 s (z8 y3 y4 y5 s hI q4 q11).1 (Nat.lt_of_lt_of_le (z8 y3 y4 y5 s hI q4 q11).2 (Nat.le_of_lt_succ hm))))))
  exact e283 (b283_0 (c212  (fun q12 => ⟨1, rfl, b283_4 (fun q => absurd q (by decide)) (fun _ => b283_7 (c167  (fun q13 => ⟨1, rfl, b283_16 (fun q => absurd q (by decide)) (fun _ => b283_19 (c167  (fun q14 => ⟨1, rfl, b283_26 (fun _ => b283_31 (c277  ⟨rfl, Wp_gen (fun t15 e15 => b283_42 ((L (m45 (-2) (-2) 0 t15 + 1)) (-2) (-2) 0 none t15 (z9 q12 q13 q14 t15 e15) (Nat.lt_succ_self _)))⟩)) (fun q => absurd q (by decide))⟩) (fun q16 => ⟨0, rfl, b283_26 (fun q => absurd q (by decide)) (fun _ => b283_29 (z10 q12 q13 q16))⟩)))⟩) (fun q17 => ⟨0, rfl, b283_16 (fun _ => b283_29 (z11 q12 q17)) (fun q => absurd q (by decide))⟩)))⟩) (fun q18 => ⟨0, rfl, b283_4 (fun _ => b283_29 (z12 q18)) (fun q => absurd q (by decide))⟩)))

theorem c283 {X : (Nat → Int) × Nat} {d : Nat} {s : mSt} {Q : mQ} {x1 : Int} {x2 : Int} (p1 : Ok (s 417)) (k : ∀ (v : Int) (t : mSt), (hmQ (s 417) x1 x2 v ∧ fX s t) → Q (some (mI v)) t) : Sp X (d + 7) 283 [mR 407, mI x1, mI x2] s Q := by
  have h := p1
  have h3 := npI h
  have n5 := np_le h
  let a := s 417
  have ha : a = s 417 := rfl
  let W := wdF a x1
  have hWs : ∀ p, W (p + 1) = if ¬ a (6 + p) = 15 ∧ (W p).2 < haF a p x1 then ((p : Int), haF a p x1) else W p := fun p => wdF_s a x1 p
  let G : Prop := s 417 0 = 1 ∧ (1 ≤ x1 ∧ x1 ≤ 9) ∧ (0 ≤ x2 ∧ x2 ≤ 1)
  let J : Int → Int → Int → mSt → Prop := fun y3 y4 y5 t => ∃ j : Nat, y5 = j ∧ j ≤ np (s 417) ∧ G ∧ y3 = (W j).1 ∧ y4 = (W j).2 ∧ t 417 = s 417 ∧ t 429 = kpR (s 417) (s 429) ∧ fX s t
  have step : ∀ (j : Nat) (t t6 s7 t8 : mSt), j < np (s 417) → (1 ≤ x1 ∧ x1 ≤ 9) → t 417 = s 417 → t 429 = kpR (s 417) (s 429) → fX s t → t6 = uR t (dlR (t 417) ((j : Int)).toNat x1) → fQ t6 s7 → t8 = uR s7 (lbk (s7 417) (s7 429)) → t8 417 = s 417 ∧ t8 429 = kpR (s 417) (s 429) ∧ fX s t8 := fun j t t6 s7 t8 hj hx e7 e9 hf h6 h7 h8 => by
    rw [e7, tnc] at h6
    have c6 : ∀ b, b ≠ 417 → t6 b = t b := fun b hb => by rw [h6]; exact uC_ne hb
    have c67 : t6 417 = dlR (s 417) j x1 := by rw [h6]; exact uC_at _ _ _
    have c77 : s7 417 = dlR (s 417) j x1 := by rw [h7.1 417 (by decide)]; exact c67
    have c79 : s7 429 = kpR (s 417) (s 429) := by rw [h7.1 429 (by decide), c6 429 (by decide)]; exact e9
    have c8 : ∀ b, b ≠ 417 → t8 b = s7 b := fun b hb => by rw [h8]; exact uC_ne hb
    have c87 : t8 417 = s 417 := by
      rw [h8, show uR s7 (lbk (s7 417) (s7 429)) 417 = lbk (s7 417) (s7 429) from uC_at _ _ _, c77, c79]
      funext i
      unfold lbk kpR
      by_cases z : 5 ≤ i ∧ i < 77
      · rw [if_pos z, if_pos (by omega), show 5 + (i - 5) = i by omega]
      · rw [if_neg z, dlR_o (by omega) (by omega), if_neg (by omega)]
    refine ⟨c87, by rw [c8 429 (by decide)]; exact c79, fun b hb => ?_, fun i hi => ?_⟩
    · by_cases z : b = 417
      · rw [z]; exact c87
      · rw [c8 b z, h7.1 b (by omega), c6 b z]; exact hf.1 b hb
    · rw [c8 407 (by decide), h7.2 i (by omega), c6 407 (by decide)]; exact hf.2 i hi
  have val : ∀ (j : Nat) (t t6 : mSt), t 417 = s 417 → t6 = uR t (dlR (t 417) ((j : Int)).toNat x1) → cn (stk (t6 417)) (nc (t6 417)) = haF a j x1 ∧ t6 417 = dlR (s 417) j x1 := fun j t t6 e7 h6 => by
    rw [e7, tnc] at h6
    have c67 : t6 417 = dlR (s 417) j x1 := by rw [h6]; exact uC_at _ _ _
    rw [c67]; exact ⟨rfl, rfl⟩
  have e6 : ∀ j : Nat, j < 5 → (w32 (6 + (j : Int))).toNat = 6 + j := fun j hj => wt (by omega) (by omega)
  refine v283 J (fun _ _ y _ => (6 - y).toNat) ?_ ?_ ?_ ?_ ?_ ?_ ?_ ?_ ?_ ?_ ?_ ?_
  · rintro _ _ _ t ⟨j, rfl, hj, g, rfl, rfl, e7, e9, ht⟩ hc q
    rw [e7] at hc
    have : j = np (s 417) := by omega
    subst this
    exact k _ t ⟨YN_y g (by rw [if_neg q]), ht⟩
  · rintro _ _ _ t ⟨j, rfl, hj, g, rfl, rfl, e7, e9, ht⟩ hc q
    rw [e7] at hc
    have : j = np (s 417) := by omega
    subst this
    exact k _ t ⟨YN_y g (by rw [if_pos q]), ht⟩
  · rintro _ _ _ t ⟨j, rfl, hj, g, rfl, rfl, e7, e9, ht⟩ hc
    rw [w32_of (by omega)]; omega
  · rintro _ _ _ t ⟨j, rfl, hj, g, rfl, rfl, e7, e9, ht⟩ hc q
    rw [e7] at hc ⊢
    exact ⟨h, by omega, g.2.1⟩
  · rintro _ _ _ t ⟨j, rfl, hj, g, rfl, rfl, e7, e9, ht⟩ hc q t6 h6
    rw [e7] at hc
    have gx := g.2.1
    rw [(val j t t6 e7 h6).2]; exact dlR_ok h (by omega) (by omega)
  · rintro _ _ _ t ⟨j, rfl, hj, g, rfl, rfl, e7, e9, ht⟩ hc q t6 h6 v s7 hv t8 h8 hl
    rw [e7] at hc q
    rw [e6 j (by omega)] at q
    have st := step j t t6 s7 t8 (by omega) g.2.1 e7 e9 ht h6 hv.2 h8
    have hv1 : v = haF a j x1 := hv.1.trans (val j t t6 e7 h6).1
    rw [w32_of (by omega)]
    have z : ¬ a (6 + j) = 15 ∧ (W j).2 < haF a j x1 := ⟨q, by rw [← hv1]; exact hl⟩
    refine ⟨⟨j + 1, by omega, by omega, g, ?_, ?_, st⟩, by omega⟩
    · rw [hWs, if_pos z]
    · rw [hWs, if_pos z]; exact hv1
  · rintro _ _ _ t ⟨j, rfl, hj, g, rfl, rfl, e7, e9, ht⟩ hc q t6 h6 v s7 hv t8 h8 hl
    rw [e7] at hc
    have st := step j t t6 s7 t8 (by omega) g.2.1 e7 e9 ht h6 hv.2 h8
    have hv1 : v = haF a j x1 := hv.1.trans (val j t t6 e7 h6).1
    rw [w32_of (by omega)]
    have z : ¬ (¬ a (6 + j) = 15 ∧ (W j).2 < haF a j x1) := fun z => hl (by rw [hv1]; exact z.2)
    refine ⟨⟨j + 1, by omega, by omega, g, ?_, ?_, st⟩, by omega⟩
    · rw [hWs, if_neg z]
    · rw [hWs, if_neg z]
  · rintro _ _ _ t ⟨j, rfl, hj, g, rfl, rfl, e7, e9, ht⟩ hc q
    rw [e7] at hc q
    rw [e6 j (by omega)] at q
    rw [w32_of (by omega)]
    have z : ¬ (¬ a (6 + j) = 15 ∧ (W j).2 < haF a j x1) := fun z => z.1 q
    refine ⟨⟨j + 1, by omega, by omega, g, ?_, ?_, e7, e9, ht⟩, by omega⟩
    · rw [hWs, if_neg z]
    · rw [hWs, if_neg z]
  · intro g0 g1 g2 u hu
    have cu : ∀ b, b ≠ 429 → u b = s b := fun b hb => by rw [hu]; exact uC_ne hb
    refine ⟨0, rfl, by omega, ⟨g0, g1, g2⟩, rfl, rfl, cu 417 (by decide), by rw [hu]; exact uC_at _ _ _, fun b hb => cu b (by omega), fun j _ => by rw [cu 407 (by decide)]⟩
  · intro g0 g1 g2; exact k _ s ⟨YN_n (fun z => g2 z.2.2) rfl, fX_rfl s⟩
  · intro g0 g1; exact k _ s ⟨YN_n (fun z => g1 z.2.1) rfl, fX_rfl s⟩
  · intro g0; exact k _ s ⟨YN_n (fun z => g0 z.1) rfl, fX_rfl s⟩
