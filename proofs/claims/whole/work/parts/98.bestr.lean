/-! the best order: the reference -/
def ordS (s : mSt) (m : Nat) (n : Nat) : Rw := fun i => if i < n then s 430 (oK (s 407 47).toNat m i) else s 431 i
theorem v279 {X : (Nat → Int) × Nat} {d : Nat} {s : mSt} {Q : mQ} {x1 : Int}
  (I7 : Int → Int → Int → mSt → Prop) (m7 : Int → Int → Int → mSt → Nat)
  (I39 : Int → Int → Int → Int → Int → Int → mSt → Prop) (m39 : Int → Int → Int → Int → Int → Int → mSt → Nat)
  (z1 : ∀ y2 : Int, ∀ y3 : Int, ∀ y4 : Int, ∀ s : mSt, I7 y2 y3 y4 s → (s 407 47) ≤ y4 → Q none s)
  (z2 : ∀ y2 : Int, ∀ y3 : Int, ∀ y4 : Int, ∀ s : mSt, I7 y2 y3 y4 s → ¬ (s 407 47) ≤ y4 → 0 ≤ (w32 ((w32 ((s 407 47) - 1)) - y4)) ∧ (w32 ((w32 ((s 407 47) - 1)) - y4)) ≤ 5)
  (z3 : ∀ y2 : Int, ∀ y3 : Int, ∀ y4 : Int, ∀ s : mSt, I7 y2 y3 y4 s → ¬ (s 407 47) ≤ y4 → (fct (w32 ((w32 ((s 407 47) - 1)) - y4)).toNat) ≠ 0)
  (z4 : ∀ y2 : Int, ∀ y3 : Int, ∀ y4 : Int, ∀ s : mSt, I7 y2 y3 y4 s → ¬ (s 407 47) ≤ y4 → I39 y2 y3 y4 (fct (w32 ((w32 ((s 407 47) - 1)) - y4)).toNat) (w32 (Int.tdiv y2 (fct (w32 ((w32 ((s 407 47) - 1)) - y4)).toNat))) 0 s ∧ m39 y2 y3 y4 (fct (w32 ((w32 ((s 407 47) - 1)) - y4)).toNat) (w32 (Int.tdiv y2 (fct (w32 ((w32 ((s 407 47) - 1)) - y4)).toNat))) 0 s < m7 y2 y3 y4 s)
  (z5 : ∀ y2 : Int, ∀ y3 : Int, ∀ y4 : Int, ∀ y5 : Int, ∀ y6 : Int, ∀ y7 : Int, ∀ s : mSt, I39 y2 y3 y4 y5 y6 y7 s → 0 ≤ y7 ∧ y7 < 32)
  (z6 : ∀ y2 : Int, ∀ y3 : Int, ∀ y4 : Int, ∀ y5 : Int, ∀ y6 : Int, ∀ y7 : Int, ∀ s : mSt, I39 y2 y3 y4 y5 y6 y7 s → bt y3 y7 → 0 ≤ y7 ∧ y7 < 32)
  (z7 : ∀ y2 : Int, ∀ y3 : Int, ∀ y4 : Int, ∀ y5 : Int, ∀ y6 : Int, ∀ y7 : Int, ∀ s : mSt, I39 y2 y3 y4 y5 y6 y7 s → bt y3 y7 → bt y3 y7 → I39 y2 y3 y4 y5 (w32 (y6 - 0)) (w32 (y7 + 1)) s ∧ m39 y2 y3 y4 y5 (w32 (y6 - 0)) (w32 (y7 + 1)) s < m39 y2 y3 y4 y5 y6 y7 s)
  (z8 : ∀ y2 : Int, ∀ y3 : Int, ∀ y4 : Int, ∀ y5 : Int, ∀ y6 : Int, ∀ y7 : Int, ∀ s : mSt, I39 y2 y3 y4 y5 y6 y7 s → bt y3 y7 → ¬ (bt y3 y7) → I39 y2 y3 y4 y5 (w32 (y6 - 1)) (w32 (y7 + 1)) s ∧ m39 y2 y3 y4 y5 (w32 (y6 - 1)) (w32 (y7 + 1)) s < m39 y2 y3 y4 y5 y6 y7 s)
  (z9 : ∀ y2 : Int, ∀ y3 : Int, ∀ y4 : Int, ∀ y5 : Int, ∀ y6 : Int, ∀ y7 : Int, ∀ s : mSt, I39 y2 y3 y4 y5 y6 y7 s → ¬ (bt y3 y7) → y6 ≤ 0 → 0 ≤ y7 ∧ y7 < 4)
  (z10 : ∀ y2 : Int, ∀ y3 : Int, ∀ y4 : Int, ∀ y5 : Int, ∀ y6 : Int, ∀ y7 : Int, ∀ s : mSt, I39 y2 y3 y4 y5 y6 y7 s → ¬ (bt y3 y7) → y6 ≤ 0 → 0 ≤ y4 ∧ y4 < 4)
  (z11 : ∀ y2 : Int, ∀ y3 : Int, ∀ y4 : Int, ∀ y5 : Int, ∀ y6 : Int, ∀ y7 : Int, ∀ s : mSt, I39 y2 y3 y4 y5 y6 y7 s → ¬ (bt y3 y7) → y6 ≤ 0 → y5 ≠ 0)
  (z12 : ∀ y2 : Int, ∀ y3 : Int, ∀ y4 : Int, ∀ y5 : Int, ∀ y6 : Int, ∀ y7 : Int, ∀ s : mSt, I39 y2 y3 y4 y5 y6 y7 s → ¬ (bt y3 y7) → y6 ≤ 0 → I7 (Int.tmod y2 y5) (iOr y3 (iShl 1 y7)) (w32 (y4 + 1)) (uS s 431 y4.toNat (s 430 y7.toNat)) ∧ m7 (Int.tmod y2 y5) (iOr y3 (iShl 1 y7)) (w32 (y4 + 1)) (uS s 431 y4.toNat (s 430 y7.toNat)) < m39 y2 y3 y4 y5 y6 y7 s)
  (z13 : ∀ y2 : Int, ∀ y3 : Int, ∀ y4 : Int, ∀ y5 : Int, ∀ y6 : Int, ∀ y7 : Int, ∀ s : mSt, I39 y2 y3 y4 y5 y6 y7 s → ¬ (bt y3 y7) → ¬ y6 ≤ 0 → 0 ≤ y7 ∧ y7 < 32)
  (z14 : ∀ y2 : Int, ∀ y3 : Int, ∀ y4 : Int, ∀ y5 : Int, ∀ y6 : Int, ∀ y7 : Int, ∀ s : mSt, I39 y2 y3 y4 y5 y6 y7 s → ¬ (bt y3 y7) → ¬ y6 ≤ 0 → bt y3 y7 → I39 y2 y3 y4 y5 (w32 (y6 - 0)) (w32 (y7 + 1)) s ∧ m39 y2 y3 y4 y5 (w32 (y6 - 0)) (w32 (y7 + 1)) s < m39 y2 y3 y4 y5 y6 y7 s)
  (z15 : ∀ y2 : Int, ∀ y3 : Int, ∀ y4 : Int, ∀ y5 : Int, ∀ y6 : Int, ∀ y7 : Int, ∀ s : mSt, I39 y2 y3 y4 y5 y6 y7 s → ¬ (bt y3 y7) → ¬ y6 ≤ 0 → ¬ (bt y3 y7) → I39 y2 y3 y4 y5 (w32 (y6 - 1)) (w32 (y7 + 1)) s ∧ m39 y2 y3 y4 y5 (w32 (y6 - 1)) (w32 (y7 + 1)) s < m39 y2 y3 y4 y5 y6 y7 s)
  (z16 : I7 x1 0 0 s) :
  Sp X (d + 1) 279 [mR 407, mI x1] s Q := by
  have L : ∀ k : Nat, (∀ (y2 : Int) (y3 : Int) (y4 : Int) (l5 : Option mV) (l6 : Option mV) (l7 : Option mV) (s : mSt), I7 y2 y3 y4 s → m7 y2 y3 y4 s < k → Wp X (d + 1) 279 7 [some (mR 407), some (mI x1), some (mI y2), some (mI y3), some (mI y4), l5, l6, l7] [] s Q) ∧ (∀ (y2 : Int) (y3 : Int) (y4 : Int) (y5 : Int) (y6 : Int) (y7 : Int) (s : mSt), I39 y2 y3 y4 y5 y6 y7 s → m39 y2 y3 y4 y5 y6 y7 s < k → Wp X (d + 1) 279 39 [some (mR 407), some (mI x1), some (mI y2), some (mI y3), some (mI y4), some (mI y5), some (mI y6), some (mI y7)] [] s Q) := by
    intro k
    induction k with
    | zero => exact ⟨fun _ _ _ _ _ _ _ _ h => absurd h (Nat.not_lt_zero _), fun _ _ _ _ _ _ _ _ h => absurd h (Nat.not_lt_zero _)⟩
    | succ k ih => exact ⟨fun y2 y3 y4 l5 l6 l7 s hI hm => b279_7 (fun q1 => b279_110 (z1 y2 y3 y4 s hI q1)) (fun q2 => b279_16 (c233 (z2 y2 y3 y4 s hI q2) ⟨_, rfl, b279_28 (z3 y2 y3 y4 s hI q2) (ih.2 y2 y3 y4 (fct (w32 ((w32 ((s 407 47) - 1)) - y4)).toNat) (w32 (Int.tdiv y2 (fct (w32 ((w32 ((s 407 47) - 1)) - y4)).toNat))) 0 s (z4 y2 y3 y4 s hI q2).1 (Nat.lt_of_lt_of_le (z4 y2 y3 y4 s hI q2).2 (Nat.le_of_lt_succ hm)))⟩)), fun y2 y3 y4 y5 y6 y7 s hI hm => b279_39 (c168 (z5 y2 y3 y4 y5 y6 y7 s hI) (fun q3 => ⟨1, rfl, b279_45 (fun _ => b279_53 (c168 (z6 y2 y3 y4 y5 y6 y7 s hI q3) (fun q4 => ⟨1, rfl, b279_61 (fun q => absurd q (by decide)) (fun _ => b279_64 (b279_69 (ih.2 y2 y3 y4 y5 (w32 (y6 - 0)) (w32 (y7 + 1)) s (z7 y2 y3 y4 y5 y6 y7 s hI q3 q4).1 (Nat.lt_of_lt_of_le (z7 y2 y3 y4 y5 y6 y7 s hI q3 q4).2 (Nat.le_of_lt_succ hm)))))⟩) (fun q5 => ⟨0, rfl, b279_61 (fun _ => b279_68 (b279_69 (ih.2 y2 y3 y4 y5 (w32 (y6 - 1)) (w32 (y7 + 1)) s (z8 y2 y3 y4 y5 y6 y7 s hI q3 q5).1 (Nat.lt_of_lt_of_le (z8 y2 y3 y4 y5 y6 y7 s hI q3 q5).2 (Nat.le_of_lt_succ hm))))) (fun q => absurd q (by decide))⟩))) (fun q => absurd q (by decide))⟩) (fun q6 => ⟨0, rfl, b279_45 (fun q => absurd q (by decide)) (fun _ => b279_48 (fun q7 => b279_78 (z9 y2 y3 y4 y5 y6 y7 s hI q6 q7) (z10 y2 y3 y4 y5 y6 y7 s hI q6 q7) (z11 y2 y3 y4 y5 y6 y7 s hI q6 q7) (ih.1 (Int.tmod y2 y5) (iOr y3 (iShl 1 y7)) (w32 (y4 + 1)) (some (mI y5)) (some (mI y6)) (some (mI y7)) (uS s 431 y4.toNat (s 430 y7.toNat)) (z12 y2 y3 y4 y5 y6 y7 s hI q6 q7).1 (Nat.lt_of_lt_of_le (z12 y2 y3 y4 y5 y6 y7 s hI q6 q7).2 (Nat.le_of_lt_succ hm)))) (fun q8 => b279_53 (c168 (z13 y2 y3 y4 y5 y6 y7 s hI q6 q8) (fun q9 => ⟨1, rfl, b279_61 (fun q => absurd q (by decide)) (fun _ => b279_64 (b279_69 (ih.2 y2 y3 y4 y5 (w32 (y6 - 0)) (w32 (y7 + 1)) s (z14 y2 y3 y4 y5 y6 y7 s hI q6 q8 q9).1 (Nat.lt_of_lt_of_le (z14 y2 y3 y4 y5 y6 y7 s hI q6 q8 q9).2 (Nat.le_of_lt_succ hm)))))⟩) (fun q10 => ⟨0, rfl, b279_61 (fun _ => b279_68 (b279_69 (ih.2 y2 y3 y4 y5 (w32 (y6 - 1)) (w32 (y7 + 1)) s (z15 y2 y3 y4 y5 y6 y7 s hI q6 q8 q10).1 (Nat.lt_of_lt_of_le (z15 y2 y3 y4 y5 y6 y7 s hI q6 q8 q10).2 (Nat.le_of_lt_succ hm))))) (fun q => absurd q (by decide))⟩))))⟩))⟩
  exact e279 (b279_0 ((L (m7 x1 0 0 s + 1)).1 x1 0 0 none none none s z16 (Nat.lt_succ_self _)))

theorem c279 {X : (Nat → Int) × Nat} {d : Nat} {s : mSt} {Q : mQ} {x1 : Int} (p1 : (0 ≤ s 407 47 ∧ s 407 47 ≤ 4) ∧ (0 ≤ x1 ∧ x1 < fct (s 407 47).toNat)) (k : Q none (uC s 431 (ordS s x1.toNat (s 407 47).toNat))) : Sp X (d + 1) 279 [mR 407, mI x1] s Q := by
  obtain ⟨h1, h2⟩ := p1
  obtain ⟨m, rfl⟩ := nat_of h2.1
  rw [tnc] at k
  obtain ⟨n, hn⟩ := nat_of h1.1
  have en : (s 407 47).toNat = n := by omega
  rw [en] at k h2
  have hn5 : n ≤ 5 := by omega
  have hn4 : n ≤ 4 := by omega
  have f0 := fcN_I hn5
  rw [f0.1] at h2
  have hm : m < fcN n := by omega
  have e407 : ∀ r : Rw, uC s 431 r 407 = s 407 := fun r => uC_ne (by decide)
  have e430 : ∀ r : Rw, uC s 431 r 430 = s 430 := fun r => uC_ne (by decide)
  have eby : ∀ i : Nat, i < n → (w32 (w32 ((n : Int) - 1) - (i : Int))).toNat = n - 1 - i ∧ 0 ≤ w32 (w32 ((n : Int) - 1) - (i : Int)) ∧ w32 (w32 ((n : Int) - 1) - (i : Int)) ≤ 5 := fun i hi => by
    rw [w32_of (x := (n : Int) - 1) (by omega), w32_of (by omega)]; omega
  have tb : ∀ i j : Nat, i < n → (bt ((oR n m i).2 : Int) (j : Int) ↔ (oR n m i).2.testBit j = true) := fun i j hi => by
    have := (oK_f hn5 hm hi).2.1
    unfold bt; rw [tnc, bq_nat (by omega)]
  refine v279 (fun y2 y3 y4 t => ∃ i : Nat, y4 = i ∧ i ≤ n ∧ y2 = ((oR n m i).1 : Int) ∧ y3 = ((oR n m i).2 : Int) ∧ t = uC s 431 (ordS s m i)) (fun _ _ y4 _ => ((6 - y4) * 100 + 50).toNat)
    (fun y2 y3 y4 y5 y6 y7 t => ∃ i j : Nat, y4 = i ∧ i < n ∧ y2 = ((oR n m i).1 : Int) ∧ y3 = ((oR n m i).2 : Int) ∧ y5 = (fcN (n - 1 - i) : Int) ∧ y7 = j ∧ j ≤ oK n m i ∧ y6 = lfN (oR n m i).2 ((oR n m i).1 / fcN (n - 1 - i)) j ∧ t = uC s 431 (ordS s m i)) (fun _ _ y4 _ _ y7 _ => ((6 - y4) * 100 + 20 - y7).toNat) ?_ ?_ ?_ ?_ ?_ ?_ ?_ ?_ ?_ ?_ ?_ ?_ ?_ ?_ ?_ ?_
  · rintro _ _ _ _ ⟨i, rfl, hi, rfl, rfl, rfl⟩ hc
    rw [e407] at hc
    have : i = n := by omega
    subst this
    exact k
  · rintro _ _ _ _ ⟨i, rfl, hi, rfl, rfl, rfl⟩ hc
    rw [e407, hn] at hc ⊢
    have := eby i (by omega)
    omega
  · rintro _ _ _ _ ⟨i, rfl, hi, rfl, rfl, rfl⟩ hc
    rw [e407, hn] at hc ⊢
    rw [(eby i (by omega)).1]
    have := fct_b (show n - 1 - i ≤ 5 by omega)
    omega
  · rintro _ _ _ _ ⟨i, rfl, hi, rfl, rfl, rfl⟩ hc
    rw [e407, hn] at hc ⊢
    rw [(eby i (by omega)).1, (fcN_I (show n - 1 - i ≤ 5 by omega)).1]
    have hf := oK_f hn5 hm (show i < n by omega)
    have hd : (oR n m i).1 / fcN (n - 1 - i) ≤ (oR n m i).1 := Nat.div_le_self _ _
    have hq : (((oR n m i).1 / fcN (n - 1 - i) : Nat) : Int) < 120 := by exact_mod_cast Nat.lt_of_le_of_lt hd hf.2.2.1
    have hq0 : 0 ≤ (((oR n m i).1 / fcN (n - 1 - i) : Nat) : Int) := Int.natCast_nonneg _
    rw [Int.tdiv_eq_ediv_of_nonneg (by omega), ← Int.natCast_ediv, w32_of ⟨Int.le_trans (by decide) hq0, Int.lt_trans hq (by decide)⟩]
    exact ⟨⟨i, 0, rfl, by omega, rfl, rfl, rfl, rfl, by omega, rfl, rfl⟩, by omega⟩
  · rintro _ _ _ _ _ _ _ ⟨i, j, rfl, hi, rfl, rfl, rfl, rfl, hj, rfl, rfl⟩
    have hf := oK_f hn5 hm hi
    omega
  · rintro _ _ _ _ _ _ _ ⟨i, j, rfl, hi, rfl, rfl, rfl, rfl, hj, rfl, rfl⟩ _
    have hf := oK_f hn5 hm hi
    omega
  · rintro _ _ _ _ _ _ _ ⟨i, j, rfl, hi, rfl, rfl, rfl, rfl, hj, rfl, rfl⟩ q _
    rw [tb i j hi] at q
    have hf := oK_f hn5 hm hi
    have hb := oK_b hn5 hm hi hj
    have hne : j ≠ oK n m i := fun z => by rw [z, hf.2.2.2.1] at q; exact absurd q (by decide)
    rw [w32_of (by omega), w32_of (by omega)]
    refine ⟨⟨i, j + 1, rfl, hi, rfl, rfl, rfl, by omega, by omega, ?_, rfl⟩, by omega⟩
    rw [lfN, if_pos q]; omega
  · rintro _ _ _ _ _ _ _ ⟨i, j, rfl, hi, rfl, rfl, rfl, rfl, hj, rfl, rfl⟩ q q2
    exact absurd q q2
  · rintro _ _ _ _ _ _ _ ⟨i, j, rfl, hi, rfl, rfl, rfl, rfl, hj, rfl, rfl⟩ q q2
    have hf := oK_f hn5 hm hi
    omega
  · rintro _ _ _ _ _ _ _ ⟨i, j, rfl, hi, rfl, rfl, rfl, rfl, hj, rfl, rfl⟩ q q2
    omega
  · rintro _ _ _ _ _ _ _ ⟨i, j, rfl, hi, rfl, rfl, rfl, rfl, hj, rfl, rfl⟩ q q2
    have := (fcN_I (show n - 1 - i ≤ 5 by omega)).2.1
    omega
  · rintro _ _ _ _ _ _ _ ⟨i, j, rfl, hi, rfl, rfl, rfl, rfl, hj, rfl, rfl⟩ q q2
    rw [tb i j hi] at q
    have hf := oK_f hn5 hm hi
    have hb := oK_b hn5 hm hi hj
    have ej : j = oK n m i := by
      rcases Nat.lt_or_eq_of_le hj with z | z
      · rcases hb.2 z with w | w
        · exact absurd w q
        · omega
      · exact z
    subst ej
    have hk5 : oK n m i < 5 := by omega
    rw [tnc, tnc, e430, w32_of (by omega), Int.tmod_eq_emod_of_nonneg (by omega), ← Int.natCast_emod, uS_uC2]
    refine ⟨⟨i + 1, by omega, by omega, ?_, ?_, ?_⟩, by omega⟩
    · rw [oR]
    · rw [oR]
      have hq : bq ((oR n m i).2 : Int) (oK n m i) = false := by rw [bq_nat (by omega)]; exact hf.2.2.2.1
      rw [shl1 (by omega)]
      have hp : (2:Nat) ^ oK n m i ≤ 2 ^ 4 := Nat.pow_le_pow_right (by decide) (by omega)
      have hp2 : ((2:Int) ^ oK n m i) = ((2 ^ oK n m i : Nat) : Int) := by simp
      have hsum : (oR n m i).2 + 2 ^ oK n m i < 64 := by omega
      apply bq_ext (i3_or _ _) (by show i3 (((oR n m i).2 + 2 ^ oK n m i : Nat) : Int); revert hsum; generalize (oR n m i).2 + 2 ^ oK n m i = S; intro hsum; unfold i3; omega)
      intro b hb'
      rw [bq_or, bq_pow (by omega)]
      show _ = bq ((((oR n m i).2 + 2 ^ oK n m i : Nat)) : Int) b
      have key : ∀ u : Fin 32, ∀ q : Fin 5, u.val.testBit q.val = false → ∀ b : Fin 32, (u.val + 2 ^ q.val).testBit b.val = (u.val.testBit b.val || decide (b.val = q.val)) := by decide +kernel
      have := key ⟨(oR n m i).2, hf.2.1⟩ ⟨oK n m i, hk5⟩ hf.2.2.2.1 ⟨b, hb'⟩
      simp only at this
      rw [bq_nat (by omega), bq_nat (Nat.lt_trans hsum (by decide)), this]
    · refine congrArg (uC s 431) ?_
      funext q'
      unfold up ordS
      by_cases z : q' = i
      · subst z; rw [if_pos rfl, if_pos (by omega), en]
      · rw [if_neg z]
        by_cases w : q' < i
        · rw [if_pos w, if_pos (by omega)]
        · rw [if_neg w, if_neg (by omega)]
  · rintro _ _ _ _ _ _ _ ⟨i, j, rfl, hi, rfl, rfl, rfl, rfl, hj, rfl, rfl⟩ q q2
    have hf := oK_f hn5 hm hi
    omega
  · rintro _ _ _ _ _ _ _ ⟨i, j, rfl, hi, rfl, rfl, rfl, rfl, hj, rfl, rfl⟩ q q2 q3
    exact absurd q3 q
  · rintro _ _ _ _ _ _ _ ⟨i, j, rfl, hi, rfl, rfl, rfl, rfl, hj, rfl, rfl⟩ q q2 _
    rw [tb i j hi] at q
    have hf := oK_f hn5 hm hi
    have hb := oK_b hn5 hm hi hj
    have hne : j ≠ oK n m i := fun z => by rw [z] at q2; omega
    rw [w32_of (by omega), w32_of (by omega)]
    refine ⟨⟨i, j + 1, rfl, hi, rfl, rfl, rfl, by omega, by omega, ?_, rfl⟩, by omega⟩
    rw [lfN, if_neg q]
  · refine ⟨0, rfl, by omega, rfl, rfl, ?_⟩
    have : ordS s m 0 = s 431 := by funext i; unfold ordS; rw [if_neg (by omega)]
    rw [this, uC_self]

theorem fold_k {a : Rw} {c m : Nat} : ∀ (L : List (List Nat)) (b : Bt), (b.1 ≠ 0 → b.2.2.1 = cn (kN a c m b.2.2.2.2) 30) → 0 ≤ b.1 → ((L.foldl (stp a c m ini) b).1 ≠ 0 → (L.foldl (stp a c m ini) b).2.2.1 = cn (kN a c m (L.foldl (stp a c m ini) b).2.2.2.2) 30)
  | [], b, hb, _ => hb
  | o :: L, b, hb, h0 => by
    rw [List.foldl_cons]
    refine fold_k L _ ?_ (by have := stp_w a c m ini b o; omega)
    unfold stp
    cases hpf : pf a c o ini with
    | none => exact hb
    | some q =>
      dsimp only
      unfold wgB
      split
      · intro _; rfl
      · next hbt =>
        intro _
        refine hb (fun z => hbt ?_)
        unfold bet; simp [z]
theorem pA1_k {a : Rw} {c : Nat} (hz : (pA1 a c).1 ≠ 0) : 0 ≤ (pA1 a c).2.2.1 ∧ (pA1 a c).2.2.1 ≤ 30 := by
  have : (pA1 a c).2.2.1 = cn (kN a c (sM a c) (pA1 a c).2.2.2.2) 30 := fold_k (a := a) (c := c) (m := sM a c) _ _ (fun z => absurd rfl z) (Int.le_refl 0) hz
  rw [this]; exact cn_le
theorem ev1_ok {q : Rw × Int × Int} {c : Nat} (h : Ok q.1) (hc : c < nc q.1) : Ok (ev1 q c).1 ∧ (∀ j, (j < 41 ∨ 77 ≤ j) → (ev1 q c).1 j = q.1 j) ∧ (q.2.1 ≤ (ev1 q c).2.1 ∧ (ev1 q c).2.1 ≤ q.2.1 + 1) ∧ (q.2.2 ≤ (ev1 q c).2.2 ∧ (ev1 q c).2.2 ≤ q.2.2 + 30) := by
  have n6 := nc_le h
  have n5 := np_le h
  unfold ev1
  by_cases z : 0 < (pA1 q.1 c).1
  · rw [if_pos z]
    have kb := pA1_k (a := q.1) (c := c) (by omega)
    refine ⟨lay_ok h (by omega) (GP_bd (plB_g (sM_b h hc).1.2 (by show (pA1 q.1 c).1 ≠ 0; omega))), fun j hj => lyR_o n5 (by omega) hj, ?_, ?_⟩
    · dsimp only; omega
    · dsimp only; omega
  · rw [if_neg z]
    exact ⟨h, fun _ _ => rfl, by omega, by omega⟩
/-- the row that stands, the trial of its first ones -/
def rwS (s : mSt) (n : Nat) : List Nat := (List.range n).map (fun i => (s 431 i).toNat)
def trF (s : mSt) (n : Nat) : Rw × Int × Int := (rwS s n).foldl ev1 (s 417, 0, 0)
theorem trF_s (s : mSt) (n : Nat) : trF s (n + 1) = ev1 (trF s n) (s 431 n).toNat := by
  unfold trF rwS; rw [List.range_succ, List.map_append, List.foldl_append]; rfl
theorem trF_ok {s : mSt} (h : Ok (s 417)) : ∀ n : Nat, (∀ i, i < n → 0 ≤ s 431 i ∧ s 431 i < s 417 4) → Ok (trF s n).1 ∧ (∀ j, (j < 41 ∨ 77 ≤ j) → (trF s n).1 j = s 417 j) ∧ (0 ≤ (trF s n).2.1 ∧ (trF s n).2.1 ≤ n) ∧ (0 ≤ (trF s n).2.2 ∧ (trF s n).2.2 ≤ 30 * n)
  | 0, _ => ⟨h, fun _ _ => rfl, by show (0 : Int) ≤ 0 ∧ (0 : Int) ≤ ((0 : Nat) : Int); decide, by show (0 : Int) ≤ 0 ∧ (0 : Int) ≤ 30 * ((0 : Nat) : Int); decide⟩
  | n + 1, hr => by
    have ih := trF_ok h n (fun i hi => hr i (by omega))
    have r := hr n (by omega)
    have e4 : nc (trF s n).1 = nc (s 417) := by unfold nc; rw [ih.2.1 4 (by omega)]
    have h4 := ncI h
    have q := ev1_ok (q := trF s n) (c := (s 431 n).toNat) ih.1 (by omega)
    rw [trF_s]
    exact ⟨q.1, fun j hj => (q.2.1 j hj).trans (ih.2.1 j hj), by omega, by omega⟩
def frT (s t : mSt) : Prop := (∀ b, ¬ (b = 407 ∨ 418 ≤ b ∧ b ≤ 422 ∨ b = 432) → t b = s b) ∧ ∀ j, ¬ (28 ≤ j ∧ j ≤ 35 ∨ 48 ≤ j ∧ j ≤ 49) → t 407 j = s 407 j
theorem v280 {X : (Nat → Int) × Nat} {d : Nat} {s : mSt} {Q : mQ}
  (I6 : Int → Int → Int → mSt → Prop) (m6 : Int → Int → Int → mSt → Nat)
  (I87 : Int → Int → Int → mSt → Prop) (m87 : Int → Int → Int → mSt → Nat)
  (z1 : ∀ y1 : Int, ∀ y2 : Int, ∀ y3 : Int, ∀ s : mSt, I6 y1 y2 y3 s → (s 407 47) ≤ y3 → ∀ t2 : mSt, t2 = uR s (lbk (s 417) (s 429)) → y1 < (t2 407 48) → Q none t2)
  (z2 : ∀ y1 : Int, ∀ y2 : Int, ∀ y3 : Int, ∀ s : mSt, I6 y1 y2 y3 s → (s 407 47) ≤ y3 → ∀ t2 : mSt, t2 = uR s (lbk (s 417) (s 429)) → ¬ y1 < (t2 407 48) → ¬ y1 = (t2 407 48) → I87 y1 y2 0 (uS (uS t2 407 48 y1) 407 49 y2) ∧ m87 y1 y2 0 (uS (uS t2 407 48 y1) 407 49 y2) < m6 y1 y2 y3 s)
  (z3 : ∀ y1 : Int, ∀ y2 : Int, ∀ y3 : Int, ∀ s : mSt, I6 y1 y2 y3 s → (s 407 47) ≤ y3 → ∀ t2 : mSt, t2 = uR s (lbk (s 417) (s 429)) → ¬ y1 < (t2 407 48) → y1 = (t2 407 48) → y2 < (t2 407 49) → I87 y1 y2 0 (uS (uS t2 407 48 y1) 407 49 y2) ∧ m87 y1 y2 0 (uS (uS t2 407 48 y1) 407 49 y2) < m6 y1 y2 y3 s)
  (z4 : ∀ y1 : Int, ∀ y2 : Int, ∀ y3 : Int, ∀ s : mSt, I6 y1 y2 y3 s → (s 407 47) ≤ y3 → ∀ t2 : mSt, t2 = uR s (lbk (s 417) (s 429)) → ¬ y1 < (t2 407 48) → y1 = (t2 407 48) → ¬ y2 < (t2 407 49) → Q none t2)
  (z5 : ∀ y1 : Int, ∀ y2 : Int, ∀ y3 : Int, ∀ s : mSt, I6 y1 y2 y3 s → ¬ (s 407 47) ≤ y3 → 0 ≤ y3 ∧ y3 < 4)
  (z6 : ∀ y1 : Int, ∀ y2 : Int, ∀ y3 : Int, ∀ s : mSt, I6 y1 y2 y3 s → ¬ (s 407 47) ≤ y3 → Ok (s 417) ∧ (0 ≤ (s 431 y3.toNat) ∧ (s 431 y3.toNat) < s 417 4))
  (z7 : ∀ y1 : Int, ∀ y2 : Int, ∀ y3 : Int, ∀ s : mSt, I6 y1 y2 y3 s → ¬ (s 407 47) ≤ y3 → ∀ s10 : mSt, (0 < (pA1 (s 417) (s 431 y3.toNat).toNat).1 ∧ s10 417 = lyR (s 417) (s 431 y3.toNat).toNat (pA1 (s 417) (s 431 y3.toNat).toNat).2.2.2.2 ∧ PQ s10 (np (s 417)) (pA1 (s 417) (s 431 y3.toNat).toNat) ∧ fL s s10) → I6 (w32 (y1 + 1)) (w32 (y2 + (s10 407 30))) (w32 (y3 + 1)) s10 ∧ m6 (w32 (y1 + 1)) (w32 (y2 + (s10 407 30))) (w32 (y3 + 1)) s10 < m6 y1 y2 y3 s)
  (z8 : ∀ y1 : Int, ∀ y2 : Int, ∀ y3 : Int, ∀ s : mSt, I6 y1 y2 y3 s → ¬ (s 407 47) ≤ y3 → ∀ s11 : mSt, ((pA1 (s 417) (s 431 y3.toNat).toNat).1 = 0 ∧ s11 417 = s 417 ∧ fL s s11) → I6 y1 y2 (w32 (y3 + 1)) s11 ∧ m6 y1 y2 (w32 (y3 + 1)) s11 < m6 y1 y2 y3 s)
  (z9 : ∀ y1 : Int, ∀ y2 : Int, ∀ y3 : Int, ∀ s : mSt, I87 y1 y2 y3 s → (s 407 47) ≤ y3 → Q none s)
  (z10 : ∀ y1 : Int, ∀ y2 : Int, ∀ y3 : Int, ∀ s : mSt, I87 y1 y2 y3 s → ¬ (s 407 47) ≤ y3 → 0 ≤ y3 ∧ y3 < 4)
  (z11 : ∀ y1 : Int, ∀ y2 : Int, ∀ y3 : Int, ∀ s : mSt, I87 y1 y2 y3 s → ¬ (s 407 47) ≤ y3 → I87 y1 y2 (w32 (y3 + 1)) (uS s 432 y3.toNat (s 431 y3.toNat)) ∧ m87 y1 y2 (w32 (y3 + 1)) (uS s 432 y3.toNat (s 431 y3.toNat)) < m87 y1 y2 y3 s)
  (z12 : I6 0 0 0 s) :
  Sp X (d + 7) 280 [mR 407] s Q := by
  have L : ∀ k : Nat, (∀ (y1 : Int) (y2 : Int) (y3 : Int) (s : mSt), I6 y1 y2 y3 s → m6 y1 y2 y3 s < k → Wp X (d + 7) 280 6 [some (mR 407), some (mI y1), some (mI y2), some (mI y3)] [] s Q) ∧ (∀ (y1 : Int) (y2 : Int) (y3 : Int) (s : mSt), I87 y1 y2 y3 s → m87 y1 y2 y3 s < k → Wp X (d + 7) 280 87 [some (mR 407), some (mI y1), some (mI y2), some (mI y3)] [] s Q) := by
    intro k
    induction k with
    | zero => exact ⟨fun _ _ _ _ _ h => absurd h (Nat.not_lt_zero _), fun _ _ _ _ _ h => absurd h (Nat.not_lt_zero _)⟩
    | succ k ih => exact ⟨fun y1 y2 y3 s hI hm => b280_6 (fun q1 => b280_46 (c278  ⟨rfl, Wp_gen (fun t2 e2 => b280_50 (fun q3 => b280_74 (z1 y1 y2 y3 s hI q1 t2 e2 q3)) (fun q4 => b280_58 (fun q5 => b280_75 (ih.2 y1 y2 0 (uS (uS t2 407 48 y1) 407 49 y2) (z2 y1 y2 y3 s hI q1 t2 e2 q4 q5).1 (Nat.lt_of_lt_of_le (z2 y1 y2 y3 s hI q1 t2 e2 q4 q5).2 (Nat.le_of_lt_succ hm)))) (fun q6 => b280_66 (fun q7 => b280_75 (ih.2 y1 y2 0 (uS (uS t2 407 48 y1) 407 49 y2) (z3 y1 y2 y3 s hI q1 t2 e2 q4 q6 q7).1 (Nat.lt_of_lt_of_le (z3 y1 y2 y3 s hI q1 t2 e2 q4 q6 q7).2 (Nat.le_of_lt_succ hm)))) (fun q8 => b280_74 (z4 y1 y2 y3 s hI q1 t2 e2 q4 q6 q8)))))⟩)) (fun q9 => b280_14 (z5 y1 y2 y3 s hI q9) (c245 (z6 y1 y2 y3 s hI q9) (fun s10 q10 => ⟨1, rfl, b280_24 (fun _ => b280_30 (b280_40 (ih.1 (w32 (y1 + 1)) (w32 (y2 + (s10 407 30))) (w32 (y3 + 1)) s10 (z7 y1 y2 y3 s hI q9 s10 q10).1 (Nat.lt_of_lt_of_le (z7 y1 y2 y3 s hI q9 s10 q10).2 (Nat.le_of_lt_succ hm))))) (fun q => absurd q (by decide))⟩) (fun s11 q11 => ⟨0, rfl, b280_24 (fun q => absurd q (by decide)) (fun _ => b280_27 (b280_40 (ih.1 y1 y2 (w32 (y3 + 1)) s11 (z8 y1 y2 y3 s hI q9 s11 q11).1 (Nat.lt_of_lt_of_le (z8 y1 y2 y3 s hI q9 s11 q11).2 (Nat.le_of_lt_succ hm)))))⟩))), fun y1 y2 y3 s hI hm => b280_87 (fun q12 => b280_113 (z9 y1 y2 y3 s hI q12)) (fun q13 => b280_95 (z10 y1 y2 y3 s hI q13) (z10 y1 y2 y3 s hI q13) (ih.2 y1 y2 (w32 (y3 + 1)) (uS s 432 y3.toNat (s 431 y3.toNat)) (z11 y1 y2 y3 s hI q13).1 (Nat.lt_of_lt_of_le (z11 y1 y2 y3 s hI q13).2 (Nat.le_of_lt_succ hm))))⟩
  exact e280 (b280_0 ((L (m6 0 0 0 s + 1)).1 0 0 0 s z12 (Nat.lt_succ_self _)))

theorem c280 {X : (Nat → Int) × Nat} {d : Nat} {s : mSt} {Q : mQ} (p1 : Ok (s 417) ∧ (0 ≤ s 407 47 ∧ s 407 47 ≤ 4) ∧ (∀ i, i < (s 407 47).toNat → 0 ≤ s 431 i ∧ s 431 i < s 417 4) ∧ ∀ j, j < 72 → s 429 j = s 417 (5 + j)) (k : ∀ t : mSt, (YN (s 407 48 < (trF s (s 407 47).toNat).2.1 ∨ ((trF s (s 407 47).toNat).2.1 = s 407 48 ∧ (trF s (s 407 47).toNat).2.2 < s 407 49)) (t 407 48 = (trF s (s 407 47).toNat).2.1 ∧ t 407 49 = (trF s (s 407 47).toNat).2.2 ∧ ∀ i, i < (s 407 47).toNat → t 432 i = s 431 i) (t 407 48 = s 407 48 ∧ t 407 49 = s 407 49 ∧ t 432 = s 432) ∧ frT s t) → Q none t) : Sp X (d + 7) 280 [mR 407] s Q := by
  obtain ⟨h, h7, hr, h9⟩ := p1
  let n : Nat := (s 407 47).toNat
  have hn : n = (s 407 47).toNat := rfl
  let q : Rw × Int × Int := trF s n
  have hq := trF_ok h n hr
  have fr : ∀ (t : mSt), (∀ b, ¬ (b = 407 ∨ 417 ≤ b ∧ b ≤ 422) → t b = s b) → t 407 47 = s 407 47 ∧ t 431 = s 431 ∧ t 432 = s 432 ∧ t 429 = s 429 → True := fun _ _ _ => trivial
  let K : mSt → Prop := fun t => (∀ b, ¬ (b = 407 ∨ 417 ≤ b ∧ b ≤ 422) → t b = s b) ∧ ∀ j, ¬ (28 ≤ j ∧ j ≤ 35) → t 407 j = s 407 j
  have kk : ∀ t u : mSt, K t → fL t u → K u := fun t u a b => ⟨fun x hx => (b.1 x hx).trans (a.1 x hx), fun j hj => (b.2 j hj).trans (a.2 j hj)⟩
  have lb : ∀ t t2 : mSt, t 417 = q.1 → K t → t2 = uR t (lbk (t 417) (t 429)) → t2 417 = s 417 ∧ ∀ b, b ≠ 417 → t2 b = t b := fun t t2 e kt h2 => by
    refine ⟨?_, fun b hb => by rw [h2]; exact uC_ne hb⟩
    rw [h2, show uR t (lbk (t 417) (t 429)) 417 = lbk (t 417) (t 429) from uC_at _ _ _, kt.1 429 (by decide), e]
    funext j
    unfold lbk
    by_cases z : 5 ≤ j ∧ j < 77
    · rw [if_pos z, h9 _ (by omega), show 5 + (j - 5) = j by omega]
    · rw [if_neg z]; exact hq.2.1 j (by omega)
  let I : Int → Int → Int → mSt → Prop := fun y1 y2 y3 t => ∃ i : Nat, y3 = i ∧ i ≤ n ∧ y1 = (trF s i).2.1 ∧ y2 = (trF s i).2.2 ∧ t 417 = (trF s i).1 ∧ K t
  let L : Int → Int → Int → mSt → Prop := fun y1 y2 y3 t => ∃ i : Nat, y3 = i ∧ i ≤ n ∧ (s 407 48 < q.2.1 ∨ (q.2.1 = s 407 48 ∧ q.2.2 < s 407 49)) ∧ t 407 48 = q.2.1 ∧ t 407 49 = q.2.2 ∧ (∀ j, j < i → t 432 j = s 431 j) ∧ t 431 = s 431 ∧ frT s t
  have fT : ∀ t t2 : mSt, t2 417 = s 417 → K t → (∀ b, b ≠ 417 → t2 b = t b) → frT s t2 ∧ t2 407 48 = s 407 48 ∧ t2 407 49 = s 407 49 ∧ t2 432 = s 432 ∧ t2 431 = s 431 := fun t t2 e kt c => by
    refine ⟨⟨fun b hb => ?_, fun j hj => by rw [c 407 (by decide)]; exact kt.2 j (by omega)⟩, by rw [c 407 (by decide)]; exact kt.2 48 (by decide), by rw [c 407 (by decide)]; exact kt.2 49 (by decide), (c 432 (by decide)).trans (kt.1 432 (by decide)), (c 431 (by decide)).trans (kt.1 431 (by decide))⟩
    by_cases z : b = 417
    · rw [z]; exact e
    · rw [c b z]; exact kt.1 b (by omega)
  have toL : ∀ (t t2 : mSt), t 417 = q.1 → K t → t2 = uR t (lbk (t 417) (t 429)) → (s 407 48 < q.2.1 ∨ (q.2.1 = s 407 48 ∧ q.2.2 < s 407 49)) → L q.2.1 q.2.2 0 (uS (uS t2 407 48 q.2.1) 407 49 q.2.2) := fun t t2 e kt h2 z => by
    have l := lb t t2 e kt h2
    have f := fT t t2 l.1 kt l.2
    have c : ∀ b, b ≠ 407 → uS (uS t2 407 48 q.2.1) 407 49 q.2.2 b = t2 b := fun b hb => by rw [uS_cell hb, uS_cell hb]
    have c7 : ∀ j, uS (uS t2 407 48 q.2.1) 407 49 q.2.2 407 j = if j = 49 then q.2.2 else if j = 48 then q.2.1 else t2 407 j := fun j => by rw [uS_at, uS_at]
    refine ⟨0, rfl, by omega, z, by rw [c7, if_neg (by decide), if_pos rfl], by rw [c7, if_pos rfl], fun j hj => by omega, by rw [c 431 (by decide)]; exact f.2.2.2.2, fun b hb => by rw [c b (by omega)]; exact f.1.1 b hb, fun j hj => by rw [c7, if_neg (by omega), if_neg (by omega)]; exact f.1.2 j hj⟩
  refine v280 I (fun _ _ y _ => (20 - y).toNat) L (fun _ _ y _ => (10 - y).toNat) ?_ ?_ ?_ ?_ ?_ ?_ ?_ ?_ ?_ ?_ ?_ ⟨0, rfl, by omega, rfl, rfl, rfl, fun _ _ => rfl, fun _ _ => rfl⟩
  · rintro _ _ _ t ⟨i, rfl, hi, rfl, rfl, e, kt⟩ hc t2 h2 hz
    rw [kt.2 47 (by decide)] at hc
    have : i = n := by omega
    subst this
    have l := lb t t2 e kt h2
    have f := fT t t2 l.1 kt l.2
    rw [f.2.1] at hz
    have hz' : q.2.1 < s 407 48 := hz
    exact k t2 ⟨YN_n (by show ¬ (s 407 48 < q.2.1 ∨ (q.2.1 = s 407 48 ∧ q.2.2 < s 407 49)); omega) ⟨f.2.1, f.2.2.1, f.2.2.2.1⟩, f.1⟩
  · rintro _ _ _ t ⟨i, rfl, hi, rfl, rfl, e, kt⟩ hc t2 h2 hz hz2
    rw [kt.2 47 (by decide)] at hc
    have : i = n := by omega
    subst this
    have l := lb t t2 e kt h2
    have f := fT t t2 l.1 kt l.2
    rw [f.2.1] at hz hz2
    have hz' : ¬ q.2.1 < s 407 48 := hz
    have hz2' : ¬ q.2.1 = s 407 48 := hz2
    exact ⟨toL t t2 e kt h2 (by omega), by omega⟩
  · rintro _ _ _ t ⟨i, rfl, hi, rfl, rfl, e, kt⟩ hc t2 h2 hz hz2 hz3
    rw [kt.2 47 (by decide)] at hc
    have : i = n := by omega
    subst this
    have l := lb t t2 e kt h2
    have f := fT t t2 l.1 kt l.2
    rw [f.2.1] at hz2
    rw [f.2.2.1] at hz3
    exact ⟨toL t t2 e kt h2 (Or.inr ⟨hz2, hz3⟩), by omega⟩
  · rintro _ _ _ t ⟨i, rfl, hi, rfl, rfl, e, kt⟩ hc t2 h2 hz hz2 hz3
    rw [kt.2 47 (by decide)] at hc
    have : i = n := by omega
    subst this
    have l := lb t t2 e kt h2
    have f := fT t t2 l.1 kt l.2
    rw [f.2.1] at hz hz2
    rw [f.2.2.1] at hz3
    have hz' : ¬ q.2.1 < s 407 48 := hz
    have hz2' : q.2.1 = s 407 48 := hz2
    have hz3' : ¬ q.2.2 < s 407 49 := hz3
    exact k t2 ⟨YN_n (by show ¬ (s 407 48 < q.2.1 ∨ (q.2.1 = s 407 48 ∧ q.2.2 < s 407 49)); omega) ⟨f.2.1, f.2.2.1, f.2.2.2.1⟩, f.1⟩
  · rintro _ _ _ t ⟨i, rfl, hi, rfl, rfl, e, kt⟩ hc
    rw [kt.2 47 (by decide)] at hc
    omega
  · rintro _ _ _ t ⟨i, rfl, hi, rfl, rfl, e, kt⟩ hc
    rw [kt.2 47 (by decide)] at hc
    have w := trF_ok h i (fun j hj => hr j (by omega))
    rw [e, kt.1 431 (by decide), tnc, w.2.1 4 (by omega)]
    exact ⟨w.1, hr i (by omega)⟩
  · rintro _ _ _ t ⟨i, rfl, hi, rfl, rfl, e, kt⟩ hc u hu
    rw [kt.2 47 (by decide)] at hc
    rw [e, kt.1 431 (by decide), tnc] at hu
    have w := trF_ok h i (fun j hj => hr j (by omega))
    have kb := pA1_k (a := (trF s i).1) (c := (s 431 i).toNat) (by omega)
    have e30 : u 407 30 = (pA1 (trF s i).1 (s 431 i).toNat).2.2.1 := (hu.2.2.1.2.1 (by omega)).2.1
    have es : trF s (i + 1) = (lyR (trF s i).1 (s 431 i).toNat (pA1 (trF s i).1 (s 431 i).toNat).2.2.2.2, (trF s i).2.1 + 1, (trF s i).2.2 + (pA1 (trF s i).1 (s 431 i).toNat).2.2.1) := by
      rw [trF_s]; unfold ev1; rw [if_pos hu.1]
    rw [e30, w32_of (x := (trF s i).2.1 + 1) (by omega), w32_of (x := (trF s i).2.2 + _) (by omega), w32_of (by omega)]
    exact ⟨⟨i + 1, by omega, by omega, by rw [es], by rw [es], by rw [es]; exact hu.2.1, kk t u kt hu.2.2.2⟩, by omega⟩
  · rintro _ _ _ t ⟨i, rfl, hi, rfl, rfl, e, kt⟩ hc u hu
    rw [kt.2 47 (by decide)] at hc
    rw [e, kt.1 431 (by decide), tnc] at hu
    have es : trF s (i + 1) = trF s i := by
      rw [trF_s]; unfold ev1; rw [if_neg (by omega)]
    rw [w32_of (by omega)]
    exact ⟨⟨i + 1, by omega, by omega, by rw [es], by rw [es], by rw [es]; exact hu.2.1, kk t u kt hu.2.2⟩, by omega⟩
  · rintro _ _ _ t ⟨i, rfl, hi, z, e8, e9, er, e1, ft⟩ hc
    rw [ft.2 47 (by decide)] at hc
    exact k t ⟨YN_y z ⟨e8, e9, fun j hj => er j (by omega)⟩, ft⟩
  · rintro _ _ _ t ⟨i, rfl, hi, z, e8, e9, er, e1, ft⟩ hc
    rw [ft.2 47 (by decide)] at hc
    omega
  · rintro _ _ _ t ⟨i, rfl, hi, z, e8, e9, er, e1, ft⟩ hc
    rw [ft.2 47 (by decide)] at hc
    rw [tnc, w32_of (by omega)]
    have c : ∀ b, b ≠ 432 → uS t 432 i (t 431 i) b = t b := fun b hb => uS_cell hb
    refine ⟨⟨i + 1, by omega, by omega, z, by rw [c 407 (by decide)]; exact e8, by rw [c 407 (by decide)]; exact e9, fun j hj => ?_, by rw [c 431 (by decide)]; exact e1, fun b hb => by rw [c b (by omega)]; exact ft.1 b hb, fun j hj => by rw [c 407 (by decide)]; exact ft.2 j hj⟩, by omega⟩
    rw [uS_at]
    by_cases y : j = i
    · rw [if_pos y, y, e1]
    · rw [if_neg y]; exact er j (by omega)
def bsQ (a : Rw) (y r : Int) : Prop := YN (a 0 = 1 ∧ (0 ≤ y ∧ y ≤ 5)) (r = if y = 0 then (bsB a (wS a (nc a))).1 else if y = 1 then (bsB a (wS a (nc a))).2.1 else rwL (bsB a (wS a (nc a))).2.2 (y - 2).toNat) (r = -2)
def rowG (m u : Nat) : List Nat := (List.range (cnW m)).map (fun i => (elW m).getD (oK (cnW m) u i) 0)
theorem ordW_eq {m : Nat} (hm : m < 64) (hc : cnW m ≤ 4) : ordW 4 m = (List.range (fcN (cnW m))).map (rowG m) := (show ∀ m : Fin 64, cnW m.val ≤ 4 → ordW 4 m.val = (List.range (fcN (cnW m.val))).map (rowG m.val) by decide +kernel) ⟨m, hm⟩ hc
theorem elW_m {m i : Nat} (hi : i < cnW m) : m.testBit ((elW m).getD i 0) = true := by
  have hi' : i < (elW m).length := hi
  have e : (elW m).getD i 0 = (elW m)[i] := by rw [List.getD_eq_getElem?_getD, List.getElem?_eq_getElem hi']; rfl
  have h := List.getElem_mem hi'
  rw [e]
  exact (List.mem_filter.1 h).2
def bNu (a : Rw) (m u : Nat) : Bs := ((List.range u).map (rowG m)).foldl (tryR [] (a, 0, 0)) bs0
theorem bNu_s (a : Rw) (m u : Nat) : bNu a m (u + 1) = updB (bNu a m u) ((rowG m u).foldl ev1 (a, 0, 0)).2.1 ((rowG m u).foldl ev1 (a, 0, 0)).2.2 (rowG m u) := by
  unfold bNu; rw [List.range_succ, List.map_append, List.foldl_append]; rfl
def frS (s t : mSt) : Prop := (∀ b, ¬ (b = 407 ∨ b = 415 ∨ b = 416 ∨ 418 ≤ b ∧ b ≤ 422 ∨ 429 ≤ b ∧ b ≤ 432) → t b = s b) ∧ ∀ j, ¬ (j = 18 ∨ 28 ≤ j ∧ j ≤ 35 ∨ 47 ≤ j ∧ j ≤ 49) → t 407 j = s 407 j
theorem v281 {X : (Nat → Int) × Nat} {d : Nat} {s : mSt} {Q : mQ} {x1 : Int}
  (I29 : Int → mSt → Prop) (m29 : Int → mSt → Nat)
  (I95 : Int → mSt → Prop) (m95 : Int → mSt → Nat)
  (z1 : ∀ y2 : Int, ∀ s : mSt, I29 y2 s → (s 417 4) ≤ y2 → ∀ t2 : mSt, t2 = uS s 407 48 (-1) → ∀ t3 : mSt, t3 = uC t2 429 (kpR (t2 417) (t2 429)) → I95 0 t3 ∧ m95 0 t3 < m29 y2 s)
  (z2 : ∀ y2 : Int, ∀ s : mSt, I29 y2 s → ¬ (s 417 4) ≤ y2 → 4 ≤ (s 407 47) → ∀ t6 : mSt, t6 = uS s 407 48 (-1) → ∀ t7 : mSt, t7 = uC t6 429 (kpR (t6 417) (t6 429)) → I95 0 t7 ∧ m95 0 t7 < m29 y2 s)
  (z3 : ∀ y2 : Int, ∀ s : mSt, I29 y2 s → ¬ (s 417 4) ≤ y2 → ¬ 4 ≤ (s 407 47) → Ok (s 417))
  (z4 : ∀ y2 : Int, ∀ s : mSt, I29 y2 s → ¬ (s 417 4) ≤ y2 → ¬ 4 ≤ (s 407 47) → ((0 ≤ y2 ∧ y2 < s 417 4) ∧ s 417 (41 + y2.toNat) = 1) → 0 ≤ (s 407 47) ∧ (s 407 47) < 4)
  (z5 : ∀ y2 : Int, ∀ s : mSt, I29 y2 s → ¬ (s 417 4) ≤ y2 → ¬ 4 ≤ (s 407 47) → ((0 ≤ y2 ∧ y2 < s 417 4) ∧ s 417 (41 + y2.toNat) = 1) → ∀ t10 : mSt, t10 = uS (uS s 430 ((s 407 47).toNat) y2) 407 47 (w32 (((uS s 430 ((s 407 47).toNat) y2) 407 47) + 1)) → I29 (w32 (y2 + 1)) t10 ∧ m29 (w32 (y2 + 1)) t10 < m29 y2 s)
  (z6 : ∀ y2 : Int, ∀ s : mSt, I29 y2 s → ¬ (s 417 4) ≤ y2 → ¬ 4 ≤ (s 407 47) → (¬ ((0 ≤ y2 ∧ y2 < s 417 4) ∧ s 417 (41 + y2.toNat) = 1)) → I29 (w32 (y2 + 1)) s ∧ m29 (w32 (y2 + 1)) s < m29 y2 s)
  (z7 : ∀ y2 : Int, ∀ s : mSt, I95 y2 s → 0 ≤ (s 407 47) ∧ (s 407 47) ≤ 5)
  (z8 : ∀ y2 : Int, ∀ s : mSt, I95 y2 s → (fct (s 407 47).toNat) ≤ y2 → ¬ x1 = 0 → ¬ x1 = 1 → (s 407 47) ≤ (w32 (x1 - 2)) → Q (some (mI (-1))) s)
  (z9 : ∀ y2 : Int, ∀ s : mSt, I95 y2 s → (fct (s 407 47).toNat) ≤ y2 → ¬ x1 = 0 → ¬ x1 = 1 → ¬ (s 407 47) ≤ (w32 (x1 - 2)) → 0 ≤ (w32 (x1 - 2)) ∧ (w32 (x1 - 2)) < 4)
  (z10 : ∀ y2 : Int, ∀ s : mSt, I95 y2 s → (fct (s 407 47).toNat) ≤ y2 → ¬ x1 = 0 → ¬ x1 = 1 → ¬ (s 407 47) ≤ (w32 (x1 - 2)) → Q (some (mI (s 432 (w32 (x1 - 2)).toNat))) s)
  (z11 : ∀ y2 : Int, ∀ s : mSt, I95 y2 s → (fct (s 407 47).toNat) ≤ y2 → ¬ x1 = 0 → x1 = 1 → Q (some (mI (s 407 49))) s)
  (z12 : ∀ y2 : Int, ∀ s : mSt, I95 y2 s → (fct (s 407 47).toNat) ≤ y2 → x1 = 0 → Q (some (mI (s 407 48))) s)
  (z13 : ∀ y2 : Int, ∀ s : mSt, I95 y2 s → ¬ (fct (s 407 47).toNat) ≤ y2 → (0 ≤ s 407 47 ∧ s 407 47 ≤ 4) ∧ (0 ≤ y2 ∧ y2 < fct (s 407 47).toNat))
  (z14 : ∀ y2 : Int, ∀ s : mSt, I95 y2 s → ¬ (fct (s 407 47).toNat) ≤ y2 → ∀ t20 : mSt, t20 = uC s 431 (ordS s y2.toNat (s 407 47).toNat) → Ok (t20 417) ∧ (0 ≤ t20 407 47 ∧ t20 407 47 ≤ 4) ∧ (∀ i, i < (t20 407 47).toNat → 0 ≤ t20 431 i ∧ t20 431 i < t20 417 4) ∧ ∀ j, j < 72 → t20 429 j = t20 417 (5 + j))
  (z15 : ∀ y2 : Int, ∀ s : mSt, I95 y2 s → ¬ (fct (s 407 47).toNat) ≤ y2 → ∀ t20 : mSt, t20 = uC s 431 (ordS s y2.toNat (s 407 47).toNat) → ∀ s21 : mSt, (YN (t20 407 48 < (trF t20 (t20 407 47).toNat).2.1 ∨ ((trF t20 (t20 407 47).toNat).2.1 = t20 407 48 ∧ (trF t20 (t20 407 47).toNat).2.2 < t20 407 49)) (s21 407 48 = (trF t20 (t20 407 47).toNat).2.1 ∧ s21 407 49 = (trF t20 (t20 407 47).toNat).2.2 ∧ ∀ i, i < (t20 407 47).toNat → s21 432 i = t20 431 i) (s21 407 48 = t20 407 48 ∧ s21 407 49 = t20 407 49 ∧ s21 432 = t20 432) ∧ frT t20 s21) → I95 (w32 (y2 + 1)) s21 ∧ m95 (w32 (y2 + 1)) s21 < m95 y2 s)
  (z16 : s 417 0 = 1 → ((0 : Int) ≤ x1 ∧ x1 ≤ (5 : Int)) → I29 0 (uS s 407 47 0))
  (z17 : s 417 0 = 1 → (¬ ((0 : Int) ≤ x1 ∧ x1 ≤ (5 : Int))) → Q (some (mI (-2))) s)
  (z18 : ¬ (s 417 0 = 1) → Q (some (mI (-2))) s) :
  Sp X (d + 8) 281 [mR 407, mI x1] s Q := by
  have L : ∀ k : Nat, (∀ (y2 : Int) (s : mSt), I29 y2 s → m29 y2 s < k → Wp X (d + 8) 281 29 [some (mR 407), some (mI x1), some (mI y2)] [] s Q) ∧ (∀ (y2 : Int) (s : mSt), I95 y2 s → m95 y2 s < k → Wp X (d + 8) 281 95 [some (mR 407), some (mI x1), some (mI y2)] [] s Q) := by
    intro k
    induction k with
    | zero => exact ⟨fun _ _ _ h => absurd h (Nat.not_lt_zero _), fun _ _ _ h => absurd h (Nat.not_lt_zero _)⟩
    | succ k ih => exact ⟨fun y2 s hI hm => b281_29 (fun q1 => b281_84 (Sp_gen (fun t2 e2 => (c277  ⟨rfl, Wp_gen (fun t3 e3 => b281_93 (ih.2 0 t3 (z1 y2 s hI q1 t2 e2 t3 e3).1 (Nat.lt_of_lt_of_le (z1 y2 s hI q1 t2 e2 t3 e3).2 (Nat.le_of_lt_succ hm))))⟩)))) (fun q4 => b281_39 (fun q5 => b281_84 (Sp_gen (fun t6 e6 => (c277  ⟨rfl, Wp_gen (fun t7 e7 => b281_93 (ih.2 0 t7 (z2 y2 s hI q4 q5 t6 e6 t7 e7).1 (Nat.lt_of_lt_of_le (z2 y2 s hI q4 q5 t6 e6 t7 e7).2 (Nat.le_of_lt_succ hm))))⟩)))) (fun q8 => b281_47 (c215 (z3 y2 s hI q4 q8) (fun q9 => ⟨1, rfl, b281_52 (fun _ => b281_58 (z4 y2 s hI q4 q8 q9) (Wp_gen (fun t10 e10 => b281_78 (ih.1 (w32 (y2 + 1)) t10 (z5 y2 s hI q4 q8 q9 t10 e10).1 (Nat.lt_of_lt_of_le (z5 y2 s hI q4 q8 q9 t10 e10).2 (Nat.le_of_lt_succ hm)))))) (fun q => absurd q (by decide))⟩) (fun q11 => ⟨0, rfl, b281_52 (fun q => absurd q (by decide)) (fun _ => b281_55 (b281_78 (ih.1 (w32 (y2 + 1)) s (z6 y2 s hI q4 q8 q11).1 (Nat.lt_of_lt_of_le (z6 y2 s hI q4 q8 q11).2 (Nat.le_of_lt_succ hm)))))⟩)))), fun y2 s hI hm => b281_95 (c233 (z7 y2 s hI) ⟨_, rfl, b281_103 (fun q12 => b281_121 (fun q13 => b281_130 (fun q14 => b281_140 (fun q15 => b281_161 (b281_162 (z8 y2 s hI q12 q13 q14 q15))) (fun q16 => b281_150 (z9 y2 s hI q12 q13 q14 q16) (b281_162 (z10 y2 s hI q12 q13 q14 q16)))) (fun q17 => b281_135 (z11 y2 s hI q12 q13 q17))) (fun q18 => b281_125 (z12 y2 s hI q12 q18))) (fun q19 => b281_106 (c279 (z13 y2 s hI q19) ⟨rfl, Wp_gen (fun t20 e20 => b281_111 (c280 (z14 y2 s hI q19 t20 e20) (fun s21 q21 => ⟨rfl, b281_115 (ih.2 (w32 (y2 + 1)) s21 (z15 y2 s hI q19 t20 e20 s21 q21).1 (Nat.lt_of_lt_of_le (z15 y2 s hI q19 t20 e20 s21 q21).2 (Nat.le_of_lt_succ hm)))⟩)))⟩))⟩)⟩
  exact e281 (b281_0 (c212  (fun q22 => ⟨1, rfl, b281_4 (fun q => absurd q (by decide)) (fun _ => b281_7 (c167  (fun q23 => ⟨1, rfl, b281_16 (fun _ => b281_22 ((L (m29 0 (uS s 407 47 0) + 1)).1 0 (uS s 407 47 0) (z16 q22 q23) (Nat.lt_succ_self _))) (fun q => absurd q (by decide))⟩) (fun q24 => ⟨0, rfl, b281_16 (fun q => absurd q (by decide)) (fun _ => b281_19 (z17 q22 q24))⟩)))⟩) (fun q25 => ⟨0, rfl, b281_4 (fun _ => b281_19 (z18 q25)) (fun q => absurd q (by decide))⟩)))

theorem c281 {X : (Nat → Int) × Nat} {d : Nat} {s : mSt} {Q : mQ} {x1 : Int} (p1 : Ok (s 417)) (k : ∀ (v : Int) (t : mSt), (bsQ (s 417) x1 v ∧ frS s t) → Q (some (mI v)) t) : Sp X (d + 8) 281 [mR 407, mI x1] s Q := by
  have h := p1
  have h4 := ncI h
  have n6 := nc_le h
  let a := s 417
  let N := nc (s 417)
  have hN : N = nc (s 417) := rfl
  let M := wS a N
  let n := cnW M
  have Wb := wS_b a
  have hM := Wb N (by omega)
  have lt : ∀ j, j ≤ N → wS a j < 64 := fun j hj => Nat.lt_of_lt_of_le (Wb j (by omega)).1 (show 2 ^ j ≤ 64 from Nat.pow_le_pow_right (n := 2) (by decide) (show j ≤ 6 by omega))
  have hM64 : M < 64 := lt N (by omega)
  have hn4 : n ≤ 4 := hM.2.1
  have fcI := fcN_I (show n ≤ 5 by omega)
  have en : ∀ t : mSt, t 407 47 = (n : Int) → (t 407 47).toNat = n := fun t e => by rw [e, tnc]
  let G : Prop := s 417 0 = 1 ∧ (0 ≤ x1 ∧ x1 ≤ 5)
  have no : ¬ G → Q (some (mI (-2))) s := fun w => k _ s ⟨YN_n w rfl, ⟨fun _ _ => rfl, fun _ _ => rfl⟩⟩
  let EL : mSt → Nat → Prop := fun t m => ∀ i, i < cnW m → t 430 i = (((elW m).getD i 0 : Nat) : Int)
  let f0 : mSt → Prop := fun t => (∀ b, ¬ (b = 407 ∨ b = 430) → t b = s b) ∧ ∀ j, j ≠ 47 → t 407 j = s 407 j
  let I : Int → mSt → Prop := fun y t => ∃ j : Nat, y = j ∧ j ≤ N ∧ G ∧ t 407 47 = (cnW (wS a j) : Int) ∧ EL t (wS a j) ∧ f0 t
  let RB : Bs → mSt → Prop := fun b t => t 407 48 = b.1 ∧ (-1 ≤ b.1) ∧ (b.1 ≠ -1 → t 407 49 = b.2.1 ∧ b.2.2.length = n ∧ ∀ i, i < n → t 432 i = rwL b.2.2 i)
  let J : Int → mSt → Prop := fun y t => ∃ u : Nat, y = u ∧ u ≤ fcN n ∧ G ∧ t 407 47 = (n : Int) ∧ EL t M ∧ (∀ j, j < 72 → t 429 j = s 417 (5 + j)) ∧ t 417 = s 417 ∧ RB (bNu a M u) t ∧ frS s t
  have toJ : ∀ t t2 t3 : mSt, G → t 407 47 = (n : Int) → EL t M → f0 t → t2 = uS t 407 48 (-1) → t3 = uC t2 429 (kpR (t2 417) (t2 429)) → J 0 t3 := fun t t2 t3 g e7 el ft h2 h3 => by
    have c2 : ∀ b, b ≠ 407 → t2 b = t b := fun b hb => by rw [h2]; exact uS_cell hb
    have c3 : ∀ b, b ≠ 429 → t3 b = t2 b := fun b hb => by rw [h3]; exact uC_ne hb
    have e17 : t3 417 = s 417 := by rw [c3 417 (by decide), c2 417 (by decide)]; exact ft.1 417 (by decide)
    refine ⟨0, rfl, by omega, g, ?_, ?_, fun j hj => ?_, e17, ⟨?_, by show (-1 : Int) ≤ -1; decide, fun z => absurd rfl z⟩, fun b hb => ?_, fun j hj => ?_⟩
    · rw [c3 407 (by decide), h2, uS_at, if_neg (by decide)]; exact e7
    · intro i hi
      rw [c3 430 (by decide), c2 430 (by decide)]; exact el i hi
    · rw [h3, show uC t2 429 (kpR (t2 417) (t2 429)) 429 = kpR (t2 417) (t2 429) from uC_at _ _ _]
      unfold kpR
      rw [if_pos hj, c2 417 (by decide), ft.1 417 (by decide)]
    · rw [c3 407 (by decide), h2, uS_at, if_pos rfl]; rfl
    · rw [c3 b (by omega), c2 b (by omega)]; exact ft.1 b (by omega)
    · rw [c3 407 (by decide), h2, uS_at, if_neg (by omega)]; exact ft.2 j (by omega)
  have bEnd : bNu a M (fcN n) = bsB a (wS a (nc a)) := by
    show ((List.range (fcN n)).map (rowG M)).foldl (tryR [] (a, 0, 0)) bs0 = (ordW 4 M).foldl (tryR [] (a, 0, 0)) bs0
    rw [ordW_eq hM64 hn4]
  have b0 : 0 ≤ (bsB a (wS a (nc a))).1 := bsB_0 a hM64
  have t20s : ∀ (u : Nat) (t t20 : mSt), u < fcN n → t 407 47 = (n : Int) → EL t M → t20 = uC t 431 (ordS t ((u : Int)).toNat (t 407 47).toNat) → (∀ b, b ≠ 431 → t20 b = t b) ∧ ∀ i, i < n → t20 431 i = (((elW M).getD (oK n u i) 0 : Nat) : Int) ∧ (elW M).getD (oK n u i) 0 < N := fun u t t20 hu e7 el h20 => by
    rw [tnc, e7, tnc] at h20
    refine ⟨fun b hb => by rw [h20]; exact uC_ne hb, fun i hi => ⟨?_, ?_⟩⟩
    · rw [h20, show uC t 431 (ordS t u n) 431 = ordS t u n from uC_at _ _ _]
      unfold ordS
      rw [if_pos hi, e7, tnc]
      exact el _ (oK_f (by omega) hu hi).1
    · have := elW_m (m := M) (i := oK n u i) (oK_f (by omega) hu hi).1
      exact (hM.2.2 _ this).1
  refine v281 I (fun y _ => (300 - y).toNat) J (fun y _ => (150 - y).toNat) ?_ ?_ ?_ ?_ ?_ ?_ ?_ ?_ ?_ ?_ ?_ ?_ ?_ ?_ ?_ (fun g1 g2 => ?_) (fun g1 g2 => no (fun z => g2 z.2)) (fun g1 => no (fun z => g1 z.1))
  · rintro _ t ⟨j, rfl, hj, g, e7, el, ft⟩ hc t2 h2 t3 h3
    rw [ft.1 417 (by decide)] at hc
    have : j = N := by omega
    subst this
    exact ⟨toJ t t2 t3 g e7 el ft h2 h3, by omega⟩
  · rintro _ t ⟨j, rfl, hj, g, e7, el, ft⟩ hc hz t2 h2 t3 h3
    rw [e7] at hz
    have e2 := wS_4 (a := a) (j := j) (by omega) (N - j)
    rw [show j + (N - j) = N by omega] at e2
    rw [← e2] at e7 el
    exact ⟨toJ t t2 t3 g e7 el ft h2 h3, by omega⟩
  · rintro _ t ⟨j, rfl, hj, g, e7, el, ft⟩ hc hz
    rw [ft.1 417 (by decide)]; exact h
  · rintro _ t ⟨j, rfl, hj, g, e7, el, ft⟩ hc hz hw
    omega
  · rintro _ t ⟨j, rfl, hj, g, e7, el, ft⟩ hc hz hw t10 h10
    rw [ft.1 417 (by decide)] at hc hw
    rw [tnc] at hw
    rw [e7] at hz h10
    have es := elW_s (show j < 6 by omega) (Wb j (by omega)).1
    have hpl : pl a j = false := Bool.eq_false_iff.2 ((pl_1 h (by omega)).1 hw.2)
    have e1 : wS a (j + 1) = wS a j + 2 ^ j := by rw [wS_s, if_pos ⟨hpl, by omega⟩]
    have ec : cnW (wS a j + 2 ^ j) = cnW (wS a j) + 1 := by unfold cnW; rw [es.2.2.1, List.length_append]; rfl
    rw [tnc, uS_cell (by decide), e7, w32_of (by omega)] at h10
    have c : ∀ b, b ≠ 407 → b ≠ 430 → t10 b = t b := fun b g1 g2 => by rw [h10, uS_cell g1, uS_cell g2]
    rw [w32_of (by omega)]
    refine ⟨⟨j + 1, by omega, by omega, g, ?_, fun i hi => ?_, fun b hb => (c b (by omega) (by omega)).trans (ft.1 b hb), fun i hi => ?_⟩, by omega⟩
    · rw [h10, uS_at, if_pos rfl, e1, ec]; omega
    · rw [e1, ec] at hi
      rw [e1, es.2.2.1, h10, uS_cell (by decide), uS_at]
      by_cases z : i = cnW (wS a j)
      · rw [if_pos z, z]; unfold cnW; rw [gd_r]
      · rw [if_neg z, gd_l (show i < (elW (wS a j)).length from (by unfold cnW at hi z; omega))]; exact el i (by omega)
    · rw [h10, uS_at, if_neg hi, uS_cell (by decide)]; exact ft.2 i hi
  · rintro _ t ⟨j, rfl, hj, g, e7, el, ft⟩ hc hz hw
    rw [ft.1 417 (by decide)] at hc hw
    rw [tnc] at hw
    have e1 : wS a (j + 1) = wS a j := by
      rw [wS_s, if_neg (fun z => hw ⟨by omega, (pl_1 h (by omega)).2 (by rw [show pl (s 417) j = false from z.1]; decide)⟩)]
    rw [w32_of (by omega)]
    exact ⟨⟨j + 1, by omega, by omega, g, by rw [e1]; exact e7, by rw [e1]; exact el, ft⟩, by omega⟩
  · rintro _ t ⟨u, rfl, hu, g, e7, el, e9, e17, rb, ft⟩
    rw [e7]; omega
  · rintro _ t ⟨u, rfl, hu, g, e7, el, e9, e17, rb, ft⟩ hc q1 q2 q3
    rw [en t e7, fcI.1] at hc
    have : u = fcN n := by omega
    subst this
    rw [bEnd] at rb
    have r := rb.2.2 (by omega)
    have gx := g.2
    rw [e7, w32_of (by omega)] at q3
    refine k _ t ⟨YN_y g ?_, ft⟩
    rw [if_neg q1, if_neg q2]
    unfold rwL
    rw [if_neg (by show ¬ (x1 - 2).toNat < (bsB a (wS a (nc a))).2.2.length; omega)]
  · rintro _ t ⟨u, rfl, hu, g, e7, el, e9, e17, rb, ft⟩ hc q1 q2 q3
    have gx := g.2
    rw [w32_of (by omega)]; omega
  · rintro _ t ⟨u, rfl, hu, g, e7, el, e9, e17, rb, ft⟩ hc q1 q2 q3
    rw [en t e7, fcI.1] at hc
    have : u = fcN n := by omega
    subst this
    rw [bEnd] at rb
    have r := rb.2.2 (by omega)
    have gx := g.2
    rw [e7, w32_of (by omega)] at q3
    rw [w32_of (by omega)]
    refine k _ t ⟨YN_y g ?_, ft⟩
    rw [if_neg q1, if_neg q2]
    exact r.2.2 _ (by omega)
  · rintro _ t ⟨u, rfl, hu, g, e7, el, e9, e17, rb, ft⟩ hc q1 q2
    rw [en t e7, fcI.1] at hc
    have : u = fcN n := by omega
    subst this
    rw [bEnd] at rb
    have r := rb.2.2 (by omega)
    refine k _ t ⟨YN_y g ?_, ft⟩
    rw [if_neg q1, if_pos q2]; exact r.1
  · rintro _ t ⟨u, rfl, hu, g, e7, el, e9, e17, rb, ft⟩ hc q1
    rw [en t e7, fcI.1] at hc
    have : u = fcN n := by omega
    subst this
    rw [bEnd] at rb
    refine k _ t ⟨YN_y g ?_, ft⟩
    rw [if_pos q1]; exact rb.1
  · rintro _ t ⟨u, rfl, hu, g, e7, el, e9, e17, rb, ft⟩ hc
    rw [en t e7, fcI.1] at hc ⊢
    rw [e7]; omega
  · rintro _ t ⟨u, rfl, hu, g, e7, el, e9, e17, rb, ft⟩ hc t20 h20
    rw [en t e7, fcI.1] at hc
    have w := t20s u t t20 (by omega) e7 el h20
    have e7' : t20 407 47 = (n : Int) := by rw [w.1 407 (by decide)]; exact e7
    rw [w.1 417 (by decide), e17, e7', tnc]
    refine ⟨h, by omega, fun i hi => ?_, fun j hj => by rw [w.1 429 (by decide)]; exact e9 j hj⟩
    have := w.2 i hi
    rw [this.1]; omega
  · rintro _ t ⟨u, rfl, hu, g, e7, el, e9, e17, rb, ft⟩ hc t20 h20 v hv
    rw [en t e7, fcI.1] at hc
    have w := t20s u t t20 (by omega) e7 el h20
    have e7' : t20 407 47 = (n : Int) := by rw [w.1 407 (by decide)]; exact e7
    have er : rwS t20 n = rowG M u := by
      unfold rwS rowG
      refine List.map_congr_left (fun i hi => ?_)
      rw [(w.2 i (List.mem_range.1 hi)).1, tnc]
    have eq : trF t20 n = (rowG M u).foldl ev1 (a, 0, 0) := by
      unfold trF; rw [er, w.1 417 (by decide), e17]
    rw [e7', tnc, eq, w.1 407 (by decide), rb.1, w.1 432 (by decide)] at hv
    have q0 : 0 ≤ ((rowG M u).foldl ev1 (a, 0, 0)).2.1 := ev1_1 (rowG M u) (a, 0, 0)
    have cs : ∀ b, ¬ (b = 407 ∨ 418 ≤ b ∧ b ≤ 422 ∨ b = 431 ∨ b = 432) → v b = t b := fun b hb => (hv.2.1 b (by omega)).trans (w.1 b (by omega))
    have c7 : ∀ j, ¬ (28 ≤ j ∧ j ≤ 35 ∨ 48 ≤ j ∧ j ≤ 49) → v 407 j = t 407 j := fun j hj => by rw [hv.2.2 j hj, w.1 407 (by decide)]
    have len : (rowG M u).length = n := by unfold rowG; rw [List.length_map, List.length_range]
    rw [w32_of (by omega)]
    refine ⟨⟨u + 1, by omega, by omega, g, ?_, fun i hi => ?_, fun j hj => ?_, ?_, ?_, fun b hb => (cs b (by omega)).trans (ft.1 b hb), fun j hj => (c7 j (by omega)).trans (ft.2 j hj)⟩, by omega⟩
    · rw [c7 47 (by decide)]; exact e7
    · rw [cs 430 (by decide)]; exact el i hi
    · rw [cs 429 (by decide)]; exact e9 j hj
    · rw [cs 417 (by decide)]; exact e17
    · rw [bNu_s]
      unfold updB
      by_cases z : (bNu a M u).1 < ((rowG M u).foldl ev1 (a, 0, 0)).2.1 ∨ (((rowG M u).foldl ev1 (a, 0, 0)).2.1 = (bNu a M u).1 ∧ ((rowG M u).foldl ev1 (a, 0, 0)).2.2 < (bNu a M u).2.1)
      · rw [if_pos z]
        have y := hv.1.1 (by
          rcases z with z | z
          · exact Or.inl z
          · exact Or.inr ⟨z.1, by rw [(rb.2.2 (by omega)).1]; exact z.2⟩)
        refine ⟨y.1, by dsimp only; omega, fun _ => ⟨y.2.1, len, fun i hi => ?_⟩⟩
        rw [y.2.2 i hi, (w.2 i hi).1]
        unfold rwL
        rw [if_pos (show i < (rowG M u).length by rw [len]; exact hi)]
        have : (rowG M u).getD i 0 = (elW M).getD (oK n u i) 0 := by
          unfold rowG
          rw [List.getD_eq_getElem?_getD, List.getElem?_map, List.getElem?_range hi]; rfl
        rw [this]
      · rw [if_neg z]
        have y := hv.1.2 (by
          rintro (w1 | w1)
          · exact z (Or.inl w1)
          · exact z (Or.inr ⟨w1.1, by rw [← (rb.2.2 (by omega)).1]; exact w1.2⟩))
        refine ⟨y.1, rb.2.1, fun hne => ?_⟩
        have r := rb.2.2 hne
        exact ⟨by rw [y.2.1]; exact r.1, r.2.1, fun i hi => by rw [y.2.2]; exact r.2.2 i hi⟩
  · refine ⟨0, rfl, by omega, ⟨g1, g2⟩, ?_, fun i hi => ?_, fun b hb => uS_cell (by omega), fun j hj => by rw [uS_at, if_neg hj]⟩
    · rw [uS_at, if_pos rfl]; show (0 : Int) = (cnW 0 : Int); decide +kernel
    · have : cnW (wS a 0) = 0 := by show cnW 0 = 0; decide +kernel
      omega
theorem v147 {X : (Nat → Int) × Nat} {d : Nat} {s : mSt} {Q : mQ} {x1 : Int}
  (z1 : 0 < s 18 0 → x1 < 0 → Q (some (mI (-2))) s)
  (z2 : 0 < s 18 0 → ¬ x1 < 0 → x1 ≤ 5 → 18 ≠ 54 ∧ ¬ (53 ≤ 18 + 9 ∧ 18 ≤ 65) ∧ BI s 18)
  (z3 : 0 < s 18 0 → ¬ x1 < 0 → x1 ≤ 5 → ∀ s5 : mSt, ((s5 53 3 = (bsB (brow s 18) (wS (brow s 18) (nc (brow s 18)))).1 ∧ s5 53 4 = (bsB (brow s 18) (wS (brow s 18) (nc (brow s 18)))).2.1 ∧ ∀ i, i < 4 → s5 64 i = rwL (bsB (brow s 18) (wS (brow s 18) (nc (brow s 18)))).2.2 i) ∧ frB s s5) → x1 = 0 → Q (some (mI (s5 53 3))) s5)
  (z4 : 0 < s 18 0 → ¬ x1 < 0 → x1 ≤ 5 → ∀ s5 : mSt, ((s5 53 3 = (bsB (brow s 18) (wS (brow s 18) (nc (brow s 18)))).1 ∧ s5 53 4 = (bsB (brow s 18) (wS (brow s 18) (nc (brow s 18)))).2.1 ∧ ∀ i, i < 4 → s5 64 i = rwL (bsB (brow s 18) (wS (brow s 18) (nc (brow s 18)))).2.2 i) ∧ frB s s5) → x1 = 1 → Q (some (mI (s5 53 4))) s5)
  (z5 : 0 < s 18 0 → ¬ x1 < 0 → x1 ≤ 5 → ∀ s5 : mSt, ((s5 53 3 = (bsB (brow s 18) (wS (brow s 18) (nc (brow s 18)))).1 ∧ s5 53 4 = (bsB (brow s 18) (wS (brow s 18) (nc (brow s 18)))).2.1 ∧ ∀ i, i < 4 → s5 64 i = rwL (bsB (brow s 18) (wS (brow s 18) (nc (brow s 18)))).2.2 i) ∧ frB s s5) → ¬ x1 = 0 → ¬ x1 = 1 → 0 ≤ (w32 (x1 - 2)) ∧ (w32 (x1 - 2)) < 4)
  (z6 : 0 < s 18 0 → ¬ x1 < 0 → x1 ≤ 5 → ∀ s5 : mSt, ((s5 53 3 = (bsB (brow s 18) (wS (brow s 18) (nc (brow s 18)))).1 ∧ s5 53 4 = (bsB (brow s 18) (wS (brow s 18) (nc (brow s 18)))).2.1 ∧ ∀ i, i < 4 → s5 64 i = rwL (bsB (brow s 18) (wS (brow s 18) (nc (brow s 18)))).2.2 i) ∧ frB s s5) → ¬ x1 = 0 → ¬ x1 = 1 → Q (some (mI (s5 64 (w32 (x1 - 2)).toNat))) s5)
  (z7 : 0 < s 18 0 → ¬ x1 < 0 → ¬ x1 ≤ 5 → Q (some (mI (-2))) s)
  (z8 : ¬ (0 < s 18 0) → Q (some (mI (-2))) s) :
  Sp X (d + 16) 147 [mR 0, mI x1] s Q := e147 (b147_0 (c6 (bdm rfl) (fun q1 => ⟨1, rfl, b147_10 (fun q => absurd q (by decide)) (fun _ => b147_13 (fun q2 => b147_22 (z1 q1 q2)) (fun q3 => b147_17 (fun q4 => b147_25 (c97 (bdm rfl) (z2 q1 q3 q4) (fun s5 q5 => ⟨rfl, b147_39 (fun q6 => b147_68 (z3 q1 q3 q4 s5 q5 q6)) (fun q7 => b147_76 (z4 q1 q3 q4 s5 q5 q7)) (fun q8 q9 => b147_84 (z5 q1 q3 q4 s5 q5 q8 q9) (z6 q1 q3 q4 s5 q5 q8 q9))⟩))) (fun q10 => b147_22 (z7 q1 q3 q10))))⟩) (fun q11 => ⟨0, rfl, b147_10 (fun _ => b147_22 (z8 q11)) (fun q => absurd q (by decide))⟩)))

theorem c147 {X : (Nat → Int) × Nat} {d : Nat} {s : mSt} {Q : mQ} {x1 : Int} (p1 : BI s 18) (k : ∀ (v : Int) (t : mSt), (bsQ (brow s 18) x1 v ∧ frB s t) → Q (some (mI v)) t) : Sp X (d + 16) 147 [mR 0, mI x1] s Q := by
  have hB := p1
  have b0 := hB.2.2.2.2.1
  have e0 := brw_0 (s := s) (k := 18)
  have no : ¬ (0 < s 18 0 ∧ (0 ≤ x1 ∧ x1 ≤ 5)) → Q (some (mI (-2))) s := fun w => k _ s ⟨YN_n (fun z => w ⟨by
    by_cases z0 : s 18 0 = 0
    · rw [if_pos z0] at e0; omega
    · omega, z.2⟩) rfl, frB_r s⟩
  have e1 : 0 < s 18 0 → brow s 18 0 = 1 := fun g => by rw [if_neg (by omega)] at e0; exact e0
  refine v147 (fun g1 g2 => no (by omega)) (fun g1 g2 g3 => ⟨by decide, by decide, hB⟩) (fun g1 g2 g3 t ht q => ?_) (fun g1 g2 g3 t ht q => ?_) (fun g1 g2 g3 t ht q q2 => ?_) (fun g1 g2 g3 t ht q q2 => ?_) (fun g1 g2 g3 => no (by omega)) (fun g1 => no (fun z => g1 z.1))
  · exact k _ t ⟨YN_y ⟨e1 g1, by omega⟩ (by rw [if_pos q]; exact ht.1.1), ht.2⟩
  · exact k _ t ⟨YN_y ⟨e1 g1, by omega⟩ (by rw [if_neg (by omega), if_pos q]; exact ht.1.2.1), ht.2⟩
  · rw [w32_of (by omega)]; omega
  · rw [w32_of (by omega)]
    exact k _ t ⟨YN_y ⟨e1 g1, by omega⟩ (by rw [if_neg q, if_neg q2]; exact ht.1.2.2 _ (by omega)), ht.2⟩
