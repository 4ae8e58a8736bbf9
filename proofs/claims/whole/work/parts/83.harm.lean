/-! harm -/
def haF (a : Rw) (p : Nat) (n : Int) : Int := cn (stk (dlR a p n)) (nc (dlR a p n))
theorem wait_k {s : mSt} {k : Nat} (hB : BI s k) {x : Int} (g : (0 ≤ x ∧ x < s k 3) ∧ ¬ pl (brow s k) x.toNat = true) :
    (s (k + 3) x.toNat).toNat = sM (brow s k) x.toNat ∧ (BI s k ∧ ¬ s k 0 = 0 ∧ (0 ≤ x ∧ x < s k 3) ∧ (0 < s (k + 3) x.toNat ∧ s (k + 3) x.toNat < 32) ∧ ∀ p, (s (k + 3) x.toNat).toNat.testBit p = true → p < np (brow s k)) := by
  have h4n := bi_nc hB
  have n6 := nc_le hB.1
  have e := biP hB (c := x.toNat) (by omega)
  have eM : (s (k + 3) x.toNat).toNat = sM (brow s k) x.toNat := by rw [e]; rfl
  have m := sM_b hB.1 (c := x.toNat) (by omega)
  refine ⟨eM, hB, bi_dc hB (by omega), g.1, ?_, ?_⟩
  · rw [e]; omega
  · rw [eM]; exact m.2.2.2
theorem v100 {X : (Nat → Int) × Nat} {d : Nat} {s : mSt} {Q : mQ} {a1 : Nat} {x2 : Int} {x3 : Int} (h1 : isBd a1)
  (I23 : Int → Int → mSt → Prop) (m23 : Int → Int → mSt → Nat)
  (z1 : ∀ y4 : Int, ∀ y5 : Int, ∀ s : mSt, I23 y4 y5 s → (s 54 3) ≤ y5 → Q (some (mI y4)) s)
  (z2 : ∀ y4 : Int, ∀ y5 : Int, ∀ s : mSt, I23 y4 y5 s → ¬ (s 54 3) ≤ y5 → BI s 54)
  (z3 : ∀ y4 : Int, ∀ y5 : Int, ∀ s : mSt, I23 y4 y5 s → ¬ (s 54 3) ≤ y5 → ((0 ≤ y5 ∧ y5 < s 54 3) ∧ ¬ pl (brow s 54) y5.toNat = true) → 0 ≤ y5 ∧ y5 < 6)
  (z4 : ∀ y4 : Int, ∀ y5 : Int, ∀ s : mSt, I23 y4 y5 s → ¬ (s 54 3) ≤ y5 → ((0 ≤ y5 ∧ y5 < s 54 3) ∧ ¬ pl (brow s 54) y5.toNat = true) → BI s 54 ∧ ¬ s 54 0 = 0 ∧ (0 ≤ y5 ∧ y5 < s 54 3) ∧ (0 < (s 57 y5.toNat) ∧ (s 57 y5.toNat) < 32) ∧ ∀ p, (s 57 y5.toNat).toNat.testBit p = true → p < np (brow s 54))
  (z5 : ∀ y4 : Int, ∀ y5 : Int, ∀ s : mSt, I23 y4 y5 s → ¬ (s 54 3) ≤ y5 → ((0 ≤ y5 ∧ y5 < s 54 3) ∧ ¬ pl (brow s 54) y5.toNat = true) → ∀ s4 : mSt, (0 < (plB (brow s 54) y5.toNat (s 57 y5.toNat).toNat).1 ∧ PB s4 (brow s 54) y5.toNat (s 57 y5.toNat).toNat (plB (brow s 54) y5.toNat (s 57 y5.toNat).toNat) ∧ fP s s4) → I23 y4 (w32 (y5 + 1)) s4 ∧ m23 y4 (w32 (y5 + 1)) s4 < m23 y4 y5 s)
  (z6 : ∀ y4 : Int, ∀ y5 : Int, ∀ s : mSt, I23 y4 y5 s → ¬ (s 54 3) ≤ y5 → ((0 ≤ y5 ∧ y5 < s 54 3) ∧ ¬ pl (brow s 54) y5.toNat = true) → ∀ s5 : mSt, ((plB (brow s 54) y5.toNat (s 57 y5.toNat).toNat).1 = 0 ∧ PB s5 (brow s 54) y5.toNat (s 57 y5.toNat).toNat (plB (brow s 54) y5.toNat (s 57 y5.toNat).toNat) ∧ fP s s5) → I23 (w32 (y4 + 1)) (w32 (y5 + 1)) s5 ∧ m23 (w32 (y4 + 1)) (w32 (y5 + 1)) s5 < m23 y4 y5 s)
  (z7 : ∀ y4 : Int, ∀ y5 : Int, ∀ s : mSt, I23 y4 y5 s → ¬ (s 54 3) ≤ y5 → (¬ ((0 ≤ y5 ∧ y5 < s 54 3) ∧ ¬ pl (brow s 54) y5.toNat = true)) → I23 y4 (w32 (y5 + 1)) s ∧ m23 y4 (w32 (y5 + 1)) s < m23 y4 y5 s)
  (z8 : 54 ≠ a1 ∧ BI s a1)
  (z9 : ∀ s7 : mSt, (BI s7 54 ∧ brow s7 54 = brow s a1 ∧ fB s s7 54) → BI s7 54 ∧ (0 ≤ x2 ∧ x2 < s7 54 2) ∧ (1 ≤ x3 ∧ x3 ≤ 9))
  (z10 : ∀ s7 : mSt, (BI s7 54 ∧ brow s7 54 = brow s a1 ∧ fB s s7 54) → ∀ s8 : mSt, (BI s8 54 ∧ brow s8 54 = dlR (brow s7 54) x2.toNat x3 ∧ fB s7 s8 54) → I23 0 0 s8) :
  Sp X (d + 9) 100 [mR 53, mR a1, mI x2, mI x3] s Q := by
  have L : ∀ k : Nat, (∀ (y4 : Int) (y5 : Int) (s : mSt), I23 y4 y5 s → m23 y4 y5 s < k → Wp X (d + 9) 100 23 [some (mR 53), some (mR a1), some (mI x2), some (mI x3), some (mI y4), some (mI y5)] [] s Q) := by
    intro k
    induction k with
    | zero => exact fun _ _ _ _ h => absurd h (Nat.not_lt_zero _)
    | succ k ih => exact fun y4 y5 s hI hm => b100_23 h1 (fun q1 => b100_82 h1 (z1 y4 y5 s hI q1)) (fun q2 => b100_35 h1 (c10 (bdm rfl) (z2 y4 y5 s hI q2) (fun q3 => ⟨1, rfl, b100_44 h1 (fun q => absurd q (by decide)) (fun _ => b100_47 h1 (z3 y4 y5 s hI q2 q3) (c59 (bdm rfl) (z4 y4 y5 s hI q2 q3) (fun s4 q4 => ⟨1, rfl, b100_70 h1 (fun _ => b100_76 h1 (ih y4 (w32 (y5 + 1)) s4 (z5 y4 y5 s hI q2 q3 s4 q4).1 (Nat.lt_of_lt_of_le (z5 y4 y5 s hI q2 q3 s4 q4).2 (Nat.le_of_lt_succ hm)))) (fun q => absurd q (by decide))⟩) (fun s5 q5 => ⟨0, rfl, b100_70 h1 (fun q => absurd q (by decide)) (fun _ => b100_73 h1 (b100_76 h1 (ih (w32 (y4 + 1)) (w32 (y5 + 1)) s5 (z6 y4 y5 s hI q2 q3 s5 q5).1 (Nat.lt_of_lt_of_le (z6 y4 y5 s hI q2 q3 s5 q5).2 (Nat.le_of_lt_succ hm)))))⟩)))⟩) (fun q6 => ⟨0, rfl, b100_44 h1 (fun _ => b100_76 h1 (ih y4 (w32 (y5 + 1)) s (z7 y4 y5 s hI q2 q6).1 (Nat.lt_of_lt_of_le (z7 y4 y5 s hI q2 q6).2 (Nat.le_of_lt_succ hm)))) (fun q => absurd q (by decide))⟩)))
  exact e100 (b100_0 h1 (c3 (bdm rfl) h1 z8 (fun s7 q7 => ⟨rfl, b100_8 h1 (c26 (bdm rfl) (z9 s7 q7) (fun s8 q8 => ⟨rfl, b100_17 h1 ((L (m23 0 0 s8 + 1)) 0 0 s8 (z10 s7 q7 s8 q8) (Nat.lt_succ_self _))⟩))⟩)))

theorem c100 {X : (Nat → Int) × Nat} {d : Nat} {s : mSt} {Q : mQ} {a1 : Nat} {x2 : Int} {x3 : Int} (h1 : isBd a1) (p1 : a1 ≠ 54 ∧ BI s a1 ∧ (0 ≤ x2 ∧ x2 < s a1 2) ∧ (1 ≤ x3 ∧ x3 ≤ 9)) (k : ∀ (v : Int) (t : mSt), (v = haF (brow s a1) x2.toNat x3 ∧ fW s t) → Q (some (mI v)) t) : Sp X (d + 9) 100 [mR 53, mR a1, mI x2, mI x3] s Q := by
  obtain ⟨hn, hB, hp, hx⟩ := p1
  let b := dlR (brow s a1) x2.toNat x3
  have hb : b = dlR (brow s a1) x2.toNat x3 := rfl
  let J : Int → Int → mSt → Prop := fun y4 y5 t => ∃ j : Nat, y5 = j ∧ j ≤ nc b ∧ y4 = cn (stk b) j ∧ BI t 54 ∧ brow t 54 = b ∧ fW s t
  have w54 : ∀ t u : mSt, BI t 54 → fP t u → BI u 54 ∧ brow u 54 = brow t 54 := fun t u h hu => BI_cells h (fun x hx => hu x (by omega)) (hu 417 (by decide))
  have fw : ∀ t u : mSt, fW s t → fP t u → fW s u := fun t u ht hu b h1 h2 => (hu b (by omega)).trans (ht b h1 h2)
  have nx : ∀ (j : Nat) (u : mSt) (x : Int), j < nc b → nc b ≤ 6 → BI u 54 → brow u 54 = b → fW s u → x = cn (stk b) j + (if stk b j = true then 1 else 0) → J x (w32 ((j : Int) + 1)) u ∧ (6 - w32 ((j : Int) + 1)).toNat < (6 - (j : Int)).toNat := fun j u x hj h6 h1 h2 h3 hx => by
    rw [w32_of (by omega)]
    exact ⟨⟨j + 1, by omega, by omega, by rw [cn_s, hx], h1, h2, h3⟩, by omega⟩
  refine v100 h1 J (fun _ y _ => (6 - y).toNat) ?_ ?_ ?_ ?_ ?_ ?_ ?_ ?_ ?_ ?_
  · rintro _ _ t ⟨j, rfl, hj, rfl, h, e, ht⟩ hc
    have h4 := bi_nc h
    rw [e] at h4
    have : j = nc b := by omega
    subst this
    exact k _ t ⟨rfl, ht⟩
  · rintro _ _ t ⟨j, rfl, hj, rfl, h, e, ht⟩ hc
    exact h
  · rintro _ _ t ⟨j, rfl, hj, rfl, h, e, ht⟩ hc q
    have h4 := bi_nc h
    have n6 := nc_le h.1
    omega
  · rintro _ _ t ⟨j, rfl, hj, rfl, h, e, ht⟩ hc q
    exact (wait_k h q).2
  · rintro _ _ t ⟨j, rfl, hj, rfl, h, e, ht⟩ hc q u hu
    have h4 := bi_nc h
    have n6 := nc_le h.1
    have wk : (t 57 ((j : Int)).toNat).toNat = sM (brow t 54) ((j : Int)).toNat := (wait_k h q).1
    rw [wk, e, tnc] at hu
    rw [e] at h4 n6 q
    rw [tnc] at q
    have w := w54 t u h hu.2.2
    refine nx j u _ (by omega) n6 w.1 (w.2.trans e) (fw t u ht hu.2.2) ?_
    have hz : 0 < (pA1 b j).1 := hu.1
    rw [if_neg (fun z => by have := (stk_iff.1 z).2; omega), Int.add_zero]
  · rintro _ _ t ⟨j, rfl, hj, rfl, h, e, ht⟩ hc q u hu
    have h4 := bi_nc h
    have n6 := nc_le h.1
    have wk : (t 57 ((j : Int)).toNat).toNat = sM (brow t 54) ((j : Int)).toNat := (wait_k h q).1
    rw [wk, e, tnc] at hu
    rw [e] at h4 n6 q
    rw [tnc] at q
    have w := w54 t u h hu.2.2
    have bc := cn_le (f := stk b) (n := j)
    have hz : (pA1 b j).1 = 0 := hu.1
    rw [w32_of (x := cn (stk b) j + 1) (by omega)]
    refine nx j u _ (by omega) n6 w.1 (w.2.trans e) (fw t u ht hu.2.2) ?_
    rw [if_pos (stk_iff.2 ⟨q.2, hz⟩)]
  · rintro _ _ t ⟨j, rfl, hj, rfl, h, e, ht⟩ hc q
    have h4 := bi_nc h
    have n6 := nc_le h.1
    rw [e] at h4 n6 q
    rw [tnc] at q
    refine nx j t _ (by omega) n6 h e ht ?_
    rw [if_neg (fun z => q ⟨by omega, (stk_iff.1 z).1⟩), Int.add_zero]
  · exact ⟨fun z => hn z.symm, hB⟩
  · intro u hu
    refine ⟨hu.1, ?_, hx⟩
    rw [bi3 hu.1, hu.2.1, ← bi3 hB]; exact hp
  · intro u hu v hv
    rw [hu.2.1] at hv
    exact ⟨0, rfl, by omega, rfl, hv.1, hv.2.1, fun b _ hb => (hv.2.2 b hb).trans (hu.2.2 b hb)⟩
