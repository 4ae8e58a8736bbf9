/-! the best order: the reference -/
def ordS (s : mSt) (m : Nat) (n : Nat) : Rw := fun i => if i < n then s 430 (oK (s 407 47).toNat m i) else s 431 i
theorem v279 {X : (Nat → Int) × Nat} {d : Nat} {s : mSt} {Q : mQ} {x1 : Int}
  (I7 : Int → Int → Int → mSt → Prop) (m7 : Int → Int → Int → mSt → Nat)
  (I39 : Int → Int → Int → Int → Int → Int → mSt → Prop) (m39 : Int → Int → Int → Int → Int → Int → mSt → Nat)
  (z1 : ∀ y2 : Int, ∀ y3 : Int, ∀ y4 : Int, ∀ s : mSt, I7 y2 y3 y4 s → (s 407 47) ≤ y4 → Q none s)
  (z2 : ∀ y2 : Int, ∀ y3 : Int, ∀ y4 : Int, ∀ s : mSt, I7 y2 y3 y4 s → ¬ (s 407 47) ≤ y4 → 0 ≤ (w32 ((w32 ((s 407 47) - 1)) - y4)) ∧ (w32 ((w32 ((s 407 47) - 1)) - y4)) ≤ 5)
  (z3 : ∀ y2 : Int, ∀ y3 : Int, ∀ y4 : Int, ∀ s : mSt, I7 y2 y3 y4 s → ¬ (s 407 47) ≤ y4 → (fct (w32 ((w32 ((s 407 47) - 1)) - y4)).toNat) ≠ 0)
  (z4 : ∀ y2 : Int, ∀ y3 : Int, ∀ y4 : Int, ∀ s : mSt, I7 y2 y3 y4 s → ¬ (s 407 47) ≤ y4 → I39 y2 y3 y4 (fct (w32 ((w32 ((s 407 47) - 1)) - y4)).toNat) (w32 (Int.tdiv y2 (fct (w32 ((w32 ((s 407 47) - 1)) - y4)).toNat))) 0 s ∧ m39 y2 y3 y4 (fct (w32 ((w32 ((s 407 47) - 1)) - y4)).toNat) (w32 (Int.tdiv y2 (fct (w32 ((w32 ((s 407 47) - 1)) - y4)).toNat))) 0 s < m7 y2 y3 y4 s)
  (z5 : ∀ y2 : Int, ∀ y3 : Int, ∀ y4 : Int, ∀ y5 : Int, ∀ y6 : Int, ∀ y7 : Int, ∀ s : mSt, I39 y2 y3 y4 y5 y6 y7 s → 0 ≤ y7 ∧ y7 < 32)
  (z6 : ∀ y2 : Int, ∀ y3 : Int, ∀ y4 : Int, ∀ y5 : Int, ∀ y6 : Int, ∀ y7 : Int, ∀ s : mSt, I39 y2 y3 y4 y5 y6 y7 s → bt y3 y7 → 0 ≤ y7 ∧ y7 < 32)
  (z7 : ∀ y2 : Int, ∀ y3 : Int, ∀ y4 : Int, ∀ y5 : Int, ∀ y6 : Int, ∀ y7 : Int, ∀ s : mSt, I39 y2 y3 y4 y5 y6 y7 s → bt y3 y7 → bt y3 y7 → I39 y2 y3 y4 y5 (w32 (y6 - 0)) (w32 (y7 + 1)) s ∧ m39 y2 y3 y4 y5 (w32 (y6 - 0)) (w32 (y7 + 1)) s < m39 y2 y3 y4 y5 y6 y7 s)
  (z8 : ∀ y2 : Int, ∀ y3 : Int, ∀ y4 : Int, ∀ y5 : Int, ∀ y6 : Int, ∀ y7 : Int, ∀ s : mSt, I39 y2 y3 y4 y5 y6 y7 s → bt y3 y7 → ¬ (bt y3 y7) → I39 y2 y3 y4 y5 (w32 (y6 - 1)) (w32 (y7 + 1)) s ∧ m39 y2 y3 y4 y5 (w32 (y6 - 1)) (w32 (y7 + 1)) s < m39 y2 y3 y4 y5 y6 y7 s)
  (z9 : ∀ y2 : Int, ∀ y3 : Int, ∀ y4 : Int, ∀ y5 : Int, ∀ y6 : Int, ∀ y7 : Int, ∀ s : mSt, I39 y2 y3 y4 y5 y6 y7 s → ¬ (bt y3 y7) → y6 ≤ 0 → 0 ≤ y7 ∧ y7 < 4)
  (z10 : ∀ y2 : Int, ∀ y3 : Int, ∀ y4 : Int, ∀ y5 : Int, ∀ y6 : Int, ∀ y7 : Int, ∀ s : mSt, I39 y2 y3 y4 y5 y6 y7 s → ¬ (bt y3 y7) → y6 ≤ 0 → 0 ≤ y4 ∧ y4 < 4)
  (z11 : ∀ y2 : Int, ∀ y3 : Int, ∀ y4 : Int, ∀ y5 : Int, ∀ y6 : Int, ∀ y7 : Int, ∀ s : mSt, I39 y2 y3 y4 y5 y6 y7 s → ¬ (bt y3 y7) → y6 ≤ 0 → y5 ≠ 0)
  (z12 : ∀ y2 : Int, ∀ y3 : Int, ∀ y4 : Int, ∀ y5 : Int, ∀ y6 : Int, ∀ y7 : Int, ∀ s : mSt, I39 y2 y3 y4 y5 y6 y7 s → ¬ (bt y3 y7) → y6 ≤ 0 → I7 (Int.tmod y2 y5) (iOr y3 (iShl 1 y7)) (w32 (y4 + 1)) (uS s 431 y4.toNat (s 430 y7.toNat)) ∧ m7 (Int.tmod y2 y5) (iOr y3 (iShl 1 y7)) (w32 (y4 + 1)) (uS s 431 y4.toNat (s 430 y7.toNat)) < m39 y2 y3 y4 y5 y6 y7 s)
  (z13 : ∀ y2 : Int, ∀ y3 : Int, ∀ y4 : Int, ∀ y5 : Int, ∀ y6 : Int, ∀ y7 : Int, ∀ s : mSt, I39 y2 y3 y4 y5 y6 y7 s → ¬ (bt y3 y7) → ¬ y6 ≤ 0 → 0 ≤ y7 ∧ y7 < 32)
  (z14 : ∀ y2 : Int, ∀ y3 : Int, ∀ y4 : Int, ∀ y5 : Int, ∀ y6 : Int, ∀ y7 : Int, ∀ s : mSt, I39 y2 y3 y4 y5 y6 y7 s → ¬ (bt y3 y7) → ¬ y6 ≤ 0 → bt y3 y7 → I39 y2 y3 y4 y5 (w32 (y6 - 0)) (w32 (y7 + 1)) s ∧ m39 y2 y3 y4 y5 (w32 (y6 - 0)) (w32 (y7 + 1)) s < m39 y2 y3 y4 y5 y6 y7 s)
  (z15 : ∀ y2 : Int, ∀ y3 : Int, ∀ y4 : Int, ∀ y5 : Int, ∀ y6 : Int, ∀ y7 : Int, ∀ s : mSt, I39 y2 y3 y4 y5 y6 y7 s → ¬ (bt y3 y7) → ¬ y6 ≤ 0 → ¬ (bt y3 y7) → I39 y2 y3 y4 y5 (w32 (y6 - 1)) (w32 (y7 + 1)) s ∧ m39 y2 y3 y4 y5 (w32 (y6 - 1)) (w32 (y7 + 1)) s < m39 y2 y3 y4 y5 y6 y7 s)
  (z16 : I7 x1 0 0 s) :
  Sp X (d + 1) 279 [mR 407, mI x1] s Q := by
  have L : ∀ k : Nat, (∀ (y2 : Int) (y3 : Int) (y4 : Int) (l5 : Option mV) (l6 : Option mV) (l7 : Option mV) (s : mSt), I7 y2 y3 y4 s → m7 y2 y3 y4 s < k → Wp X (d + 1) 279 7 [some (mR 407), some (mI x1), some (mI y2), some (mI y3), some (mI y4), l5, l6, l7] [] s Q) ∧ (∀ (y2 : Int) (y3 : Int) (y4 : Int) (y5 : Int) (y6 : Int) (y7 : Int) (s : mSt), I39 y2 y3 y4 y5 y6 y7 s → m39 y2 y3 y4 y5 y6 y7 s < k → Wp X (d + 1) 279 39 [some (mR 407), some (mI x1), some (mI y2), some (mI y3), some (mI y4), some (mI y5), some (mI y6), some (mI y7)] [] s Q) := by
    intro k
    induction k with
    | zero => exact ⟨fun _ _ _ _ _ _ _ _ h => absurd h (Nat.not_lt_zero _), fun _ _ _ _ _ _ _ _ h => absurd h (Nat.not_lt_zero _)⟩
    | succ k ih => exact ⟨fun y2 y3 y4 l5 l6 l7 s hI hm => b279_7 (fun q1 => b279_110 (z1 y2 y3 y4 s hI q1)) (fun q2 => b279_16 (c233 (z2 y2 y3 y4 s hI q2) ⟨_, rfl, b279_28 (z3 y2 y3 y4 s hI q2) (ih.2 y2 y3 y4 (fct (w32 ((w32 ((s 407 47) - 1)) - y4)).toNat) (w32 (Int.tdiv y2 (fct (w32 ((w32 ((s 407 47) - 1)) - y4)).toNat))) 0 s (z4 y2 y3 y4 s hI q2).1 (Nat.lt_of_lt_of_le (z4 y2 y3 y4 s hI q2).2 (Nat.le_of_lt_succ hm)))⟩)), fun y2 y3 y4 y5 y6 y7 s hI hm => b279_39 (c168 (z5 y2 y3 y4 y5 y6 y7 s hI) (fun q3 => ⟨1, rfl, b279_45 (fun _ => b279_53 (c168 (z6 y2 y3 y4 y5 y6 y7 s hI q3) (fun q4 => ⟨1, rfl, b279_61 (fun q => absurd q (by decide)) (fun _ => b279_64 (b279_69 (ih.2 y2 y3 y4 y5 (w32 (y6 - 0)) (w32 (y7 + 1)) s (z7 y2 y3 y4 y5 y6 y7 s hI q3 q4).1 (Nat.lt_of_lt_of_le (z7 y2 y3 y4 y5 y6 y7 s hI q3 q4).2 (Nat.le_of_lt_succ hm)))))⟩) (fun q5 => ⟨0, rfl, b279_61 (fun _ => b279_68 (b279_69 (ih.2 y2 y3 y4 y5 (w32 (y6 - 1)) (w32 (y7 + 1)) s (z8 y2 y3 y4 y5 y6 y7 s hI q3 q5).1 (Nat.lt_of_lt_of_le (z8 y2 y3 y4 y5 y6 y7 s hI q3 q5).2 (Nat.le_of_lt_succ hm))))) (fun q => absurd q (by decide))⟩))) (fun q => absurd q (by decide))⟩) (fun q6 => ⟨0, rfl, b279_45 (fun q => absurd q (by decide)) (fun _ => b279_48 (fun q7 => b279_78 (z9 y2 y3 y4 y5 y6 y7 s hI q6 q7) (z10 y2 y3 y4 y5 y6 y7 s hI q6 q7) (z11 y2 y3 y4 y5 y6 y7 s hI q6 q7) (ih.1 (Int.tmod y2 y5) (iOr y3 (iShl 1 y7)) (w32 (y4 + 1)) (some (mI y5)) (some (mI y6)) (some (mI y7)) (uS s 431 y4.toNat (s 430 y7.toNat)) (z12 y2 y3 y4 y5 y6 y7 s hI q6 q7).1 (Nat.lt_of_lt_of_le (z12 y2 y3 y4 y5 y6 y7 s hI q6 q7).2 (Nat.le_of_lt_succ hm)))) (fun q8 => b279_53 (c168 (z13 y2 y3 y4 y5 y6 y7 s hI q6 q8) (fun q9 => ⟨1, rfl, b279_61 (fun q => absurd q (by decide)) (fun _ => b279_64 (b279_69 (ih.2 y2 y3 y4 y5 (w32 (y6 - 0)) (w32 (y7 + 1)) s (z14 y2 y3 y4 y5 y6 y7 s hI q6 q8 q9).1 (Nat.lt_of_lt_of_le (z14 y2 y3 y4 y5 y6 y7 s hI q6 q8 q9).2 (Nat.le_of_lt_succ hm)))))⟩) (fun q10 => ⟨0, rfl, b279_61 (fun _ => b279_68 (b279_69 (ih.2 y2 y3 y4 y5 (w32 (y6 - 1)) (w32 (y7 + 1)) s (z15 y2 y3 y4 y5 y6 y7 s hI q6 q8 q10).1 (Nat.lt_of_lt_of_le (z15 y2 y3 y4 y5 y6 y7 s hI q6 q8 q10).2 (Nat.le_of_lt_succ hm))))) (fun q => absurd q (by decide))⟩))))⟩))⟩
  exact e279 (b279_0 ((L (m7 x1 0 0 s + 1)).1 x1 0 0 none none none s z16 (Nat.lt_succ_self _)))

theorem c279 {X : (Nat → Int) × Nat} {d : Nat} {s : mSt} {Q : mQ} {x1 : Int} (p1 : (0 ≤ s 407 47 ∧ s 407 47 ≤ 4) ∧ (0 ≤ x1 ∧ x1 < fct (s 407 47).toNat)) (k : Q none (uC s 431 (ordS s x1.toNat (s 407 47).toNat))) : Sp X (d + 1) 279 [mR 407, mI x1] s Q := by
  obtain ⟨h1, h2⟩ := p1
  obtain ⟨m, rfl⟩ := nat_of h2.1
  rw [tnc] at k
  obtain ⟨n, hn⟩ := nat_of h1.1
  have en : (s 407 47).toNat = n := by omega
  rw [en] at k h2
  have hn5 : n ≤ 5 := by omega
  have hn4 : n ≤ 4 := by omega
  have f0 := fcN_I hn5
  rw [f0.1] at h2
  have hm : m < fcN n := by omega
  have e407 : ∀ r : Rw, uC s 431 r 407 = s 407 := fun r => uC_ne (by decide)
  have e430 : ∀ r : Rw, uC s 431 r 430 = s 430 := fun r => uC_ne (by decide)
  have eby : ∀ i : Nat, i < n → (w32 (w32 ((n : Int) - 1) - (i : Int))).toNat = n - 1 - i ∧ 0 ≤ w32 (w32 ((n : Int) - 1) - (i : Int)) ∧ w32 (w32 ((n : Int) - 1) - (i : Int)) ≤ 5 := fun i hi => by
    rw [w32_of (x := (n : Int) - 1) (by omega), w32_of (by omega)]; omega
  have tb : ∀ i j : Nat, i < n → (bt ((oR n m i).2 : Int) (j : Int) ↔ (oR n m i).2.testBit j = true) := fun i j hi => by
    have := (oK_f hn5 hm hi).2.1
    unfold bt; rw [tnc, bq_nat (by omega)]
  refine v279 (fun y2 y3 y4 t => ∃ i : Nat, y4 = i ∧ i ≤ n ∧ y2 = ((oR n m i).1 : Int) ∧ y3 = ((oR n m i).2 : Int) ∧ t = uC s 431 (ordS s m i)) (fun _ _ y4 _ => ((6 - y4) * 100 + 50).toNat)
    (fun y2 y3 y4 y5 y6 y7 t => ∃ i j : Nat, y4 = i ∧ i < n ∧ y2 = ((oR n m i).1 : Int) ∧ y3 = ((oR n m i).2 : Int) ∧ y5 = (fcN (n - 1 - i) : Int) ∧ y7 = j ∧ j ≤ oK n m i ∧ y6 = lfN (oR n m i).2 ((oR n m i).1 / fcN (n - 1 - i)) j ∧ t = uC s 431 (ordS s m i)) (fun _ _ y4 _ _ y7 _ => ((6 - y4) * 100 + 20 - y7).toNat) ?_ ?_ ?_ ?_ ?_ ?_ ?_ ?_ ?_ ?_ ?_ ?_ ?_ ?_ ?_ ?_
  · rintro _ _ _ _ ⟨i, rfl, hi, rfl, rfl, rfl⟩ hc
    rw [e407] at hc
    have : i = n := by omega
    subst this
    exact k
  · rintro _ _ _ _ ⟨i, rfl, hi, rfl, rfl, rfl⟩ hc
    rw [e407, hn] at hc ⊢
    have := eby i (by omega)
    omega
  · rintro _ _ _ _ ⟨i, rfl, hi, rfl, rfl, rfl⟩ hc
    rw [e407, hn] at hc ⊢
    rw [(eby i (by omega)).1]
    have := fct_b (show n - 1 - i ≤ 5 by omega)
    omega
  · rintro _ _ _ _ ⟨i, rfl, hi, rfl, rfl, rfl⟩ hc
    rw [e407, hn] at hc ⊢
    rw [(eby i (by omega)).1, (fcN_I (show n - 1 - i ≤ 5 by omega)).1]
    have hf := oK_f hn5 hm (show i < n by omega)
    have hd : (oR n m i).1 / fcN (n - 1 - i) ≤ (oR n m i).1 := Nat.div_le_self _ _
    have hq : (((oR n m i).1 / fcN (n - 1 - i) : Nat) : Int) < 120 := by exact_mod_cast Nat.lt_of_le_of_lt hd hf.2.2.1
    have hq0 : 0 ≤ (((oR n m i).1 / fcN (n - 1 - i) : Nat) : Int) := Int.natCast_nonneg _
    rw [Int.tdiv_eq_ediv_of_nonneg (by omega), ← Int.natCast_ediv, w32_of ⟨Int.le_trans (by decide) hq0, Int.lt_trans hq (by decide)⟩]
    exact ⟨⟨i, 0, rfl, by omega, rfl, rfl, rfl, rfl, by omega, rfl, rfl⟩, by omega⟩
  · rintro _ _ _ _ _ _ _ ⟨i, j, rfl, hi, rfl, rfl, rfl, rfl, hj, rfl, rfl⟩
    have hf := oK_f hn5 hm hi
    omega
  · rintro _ _ _ _ _ _ _ ⟨i, j, rfl, hi, rfl, rfl, rfl, rfl, hj, rfl, rfl⟩ _
    have hf := oK_f hn5 hm hi
    omega
  · rintro _ _ _ _ _ _ _ ⟨i, j, rfl, hi, rfl, rfl, rfl, rfl, hj, rfl, rfl⟩ q _
    rw [tb i j hi] at q
    have hf := oK_f hn5 hm hi
    have hb := oK_b hn5 hm hi hj
    have hne : j ≠ oK n m i := fun z => by rw [z, hf.2.2.2.1] at q; exact absurd q (by decide)
    rw [w32_of (by omega), w32_of (by omega)]
    refine ⟨⟨i, j + 1, rfl, hi, rfl, rfl, rfl, by omega, by omega, ?_, rfl⟩, by omega⟩
    rw [lfN, if_pos q]; omega
  · rintro _ _ _ _ _ _ _ ⟨i, j, rfl, hi, rfl, rfl, rfl, rfl, hj, rfl, rfl⟩ q q2
    exact absurd q q2
  · rintro _ _ _ _ _ _ _ ⟨i, j, rfl, hi, rfl, rfl, rfl, rfl, hj, rfl, rfl⟩ q q2
    have hf := oK_f hn5 hm hi
    omega
  · rintro _ _ _ _ _ _ _ ⟨i, j, rfl, hi, rfl, rfl, rfl, rfl, hj, rfl, rfl⟩ q q2
    omega
  · rintro _ _ _ _ _ _ _ ⟨i, j, rfl, hi, rfl, rfl, rfl, rfl, hj, rfl, rfl⟩ q q2
    have := (fcN_I (show n - 1 - i ≤ 5 by omega)).2.1
    omega
  · rintro _ _ _ _ _ _ _ ⟨i, j, rfl, hi, rfl, rfl, rfl, rfl, hj, rfl, rfl⟩ q q2
    rw [tb i j hi] at q
    have hf := oK_f hn5 hm hi
    have hb := oK_b hn5 hm hi hj
    have ej : j = oK n m i := by
      rcases Nat.lt_or_eq_of_le hj with z | z
      · rcases hb.2 z with w | w
        · exact absurd w q
        · omega
      · exact z
    subst ej
    have hk5 : oK n m i < 5 := by omega
    rw [tnc, tnc, e430, w32_of (by omega), Int.tmod_eq_emod_of_nonneg (by omega), ← Int.natCast_emod, uS_uC2]
    refine ⟨⟨i + 1, by omega, by omega, ?_, ?_, ?_⟩, by omega⟩
    · rw [oR]
    · rw [oR]
      have hq : bq ((oR n m i).2 : Int) (oK n m i) = false := by rw [bq_nat (by omega)]; exact hf.2.2.2.1
      rw [shl1 (by omega)]
      have hp : (2:Nat) ^ oK n m i ≤ 2 ^ 4 := Nat.pow_le_pow_right (by decide) (by omega)
      have hp2 : ((2:Int) ^ oK n m i) = ((2 ^ oK n m i : Nat) : Int) := by simp
      have hsum : (oR n m i).2 + 2 ^ oK n m i < 64 := by omega
      apply bq_ext (i3_or _ _) (by show i3 (((oR n m i).2 + 2 ^ oK n m i : Nat) : Int); revert hsum; generalize (oR n m i).2 + 2 ^ oK n m i = S; intro hsum; unfold i3; omega)
      intro b hb'
      rw [bq_or, bq_pow (by omega)]
      show _ = bq ((((oR n m i).2 + 2 ^ oK n m i : Nat)) : Int) b
      have key : ∀ u : Fin 32, ∀ q : Fin 5, u.val.testBit q.val = false → ∀ b : Fin 32, (u.val + 2 ^ q.val).testBit b.val = (u.val.testBit b.val || decide (b.val = q.val)) := by decide +kernel
      have := key ⟨(oR n m i).2, hf.2.1⟩ ⟨oK n m i, hk5⟩ hf.2.2.2.1 ⟨b, hb'⟩
      simp only at this
      rw [bq_nat (by omega), bq_nat (Nat.lt_trans hsum (by decide)), this]
    · refine congrArg (uC s 431) ?_
      funext q'
      unfold up ordS
      by_cases z : q' = i
      · subst z; rw [if_pos rfl, if_pos (by omega), en]
      · rw [if_neg z]
        by_cases w : q' < i
        · rw [if_pos w, if_pos (by omega)]
        · rw [if_neg w, if_neg (by omega)]
  · rintro _ _ _ _ _ _ _ ⟨i, j, rfl, hi, rfl, rfl, rfl, rfl, hj, rfl, rfl⟩ q q2
    have hf := oK_f hn5 hm hi
    omega
  · rintro _ _ _ _ _ _ _ ⟨i, j, rfl, hi, rfl, rfl, rfl, rfl, hj, rfl, rfl⟩ q q2 q3
    exact absurd q3 q
  · rintro _ _ _ _ _ _ _ ⟨i, j, rfl, hi, rfl, rfl, rfl, rfl, hj, rfl, rfl⟩ q q2 _
    rw [tb i j hi] at q
    have hf := oK_f hn5 hm hi
    have hb := oK_b hn5 hm hi hj
    have hne : j ≠ oK n m i := fun z => by rw [z] at q2; omega
    rw [w32_of (by omega), w32_of (by omega)]
    refine ⟨⟨i, j + 1, rfl, hi, rfl, rfl, rfl, by omega, by omega, ?_, rfl⟩, by omega⟩
    rw [lfN, if_neg q]
  · refine ⟨0, rfl, by omega, rfl, rfl, ?_⟩
    have : ordS s m 0 = s 431 := by funext i; unfold ordS; rw [if_neg (by omega)]
    rw [this, uC_self]

theorem fold_k {a : Rw} {c m : Nat} : ∀ (L : List (List Nat)) (b : Bt), (b.1 ≠ 0 → b.2.2.1 = cn (kN a c m b.2.2.2.2) 30) → 0 ≤ b.1 → ((L.foldl (stp a c m ini) b).1 ≠ 0 → (L.foldl (stp a c m ini) b).2.2.1 = cn (kN a c m (L.foldl (stp a c m ini) b).2.2.2.2) 30)
  | [], b, hb, _ => hb
  | o :: L, b, hb, h0 => by
    rw [List.foldl_cons]
    refine fold_k L _ ?_ (by have := stp_w a c m ini b o; omega)
    unfold stp
    cases hpf : pf a c o ini with
    | none => exact hb
    | some q =>
      dsimp only
      unfold wgB
      split
      · intro _; rfl
      · next hbt =>
        intro _
        refine hb (fun z => hbt ?_)
        unfold bet; simp [z]
theorem pA1_k {a : Rw} {c : Nat} (hz : (pA1 a c).1 ≠ 0) : 0 ≤ (pA1 a c).2.2.1 ∧ (pA1 a c).2.2.1 ≤ 30 := by
  have : (pA1 a c).2.2.1 = cn (kN a c (sM a c) (pA1 a c).2.2.2.2) 30 := fold_k (a := a) (c := c) (m := sM a c) _ _ (fun z => absurd rfl z) (Int.le_refl 0) hz
  rw [this]; exact cn_le
theorem ev1_ok {q : Rw × Int × Int} {c : Nat} (h : Ok q.1) (hc : c < nc q.1) : Ok (ev1 q c).1 ∧ (∀ j, (j < 41 ∨ 77 ≤ j) → (ev1 q c).1 j = q.1 j) ∧ (q.2.1 ≤ (ev1 q c).2.1 ∧ (ev1 q c).2.1 ≤ q.2.1 + 1) ∧ (q.2.2 ≤ (ev1 q c).2.2 ∧ (ev1 q c).2.2 ≤ q.2.2 + 30) := by
  have n6 := nc_le h
  have n5 := np_le h
  unfold ev1
  by_cases z : 0 < (pA1 q.1 c).1
  · rw [if_pos z]
    have kb := pA1_k (a := q.1) (c := c) (by omega)
    refine ⟨lay_ok h (by omega) (GP_bd (plB_g (sM_b h hc).1.2 (by show (pA1 q.1 c).1 ≠ 0; omega))), fun j hj => lyR_o n5 (by omega) hj, ?_, ?_⟩
    · dsimp only; omega
    · dsimp only; omega
  · rw [if_neg z]
    exact ⟨h, fun _ _ => rfl, by omega, by omega⟩
/-- the row that stands, the trial of its first ones -/
def rwS (s : mSt) (n : Nat) : List Nat := (List.range n).map (fun i => (s 431 i).toNat)
def trF (s : mSt) (n : Nat) : Rw × Int × Int := (rwS s n).foldl ev1 (s 417, 0, 0)
theorem trF_s (s : mSt) (n : Nat) : trF s (n + 1) = ev1 (trF s n) (s 431 n).toNat := by
  unfold trF rwS; rw [List.range_succ, List.map_append, List.foldl_append]; rfl
theorem trF_ok {s : mSt} (h : Ok (s 417)) : ∀ n : Nat, (∀ i, i < n → 0 ≤ s 431 i ∧ s 431 i < s 417 4) → Ok (trF s n).1 ∧ (∀ j, (j < 41 ∨ 77 ≤ j) → (trF s n).1 j = s 417 j) ∧ (0 ≤ (trF s n).2.1 ∧ (trF s n).2.1 ≤ n) ∧ (0 ≤ (trF s n).2.2 ∧ (trF s n).2.2 ≤ 30 * n)
  | 0, _ => ⟨h, fun _ _ => rfl, by show (0 : Int) ≤ 0 ∧ (0 : Int) ≤ ((0 : Nat) : Int); decide, by show (0 : Int) ≤ 0 ∧ (0 : Int) ≤ 30 * ((0 : Nat) : Int); decide⟩
  | n + 1, hr => by
    have ih := trF_ok h n (fun i hi => hr i (by omega))
    have r := hr n (by omega)
    have e4 : nc (trF s n).1 = nc (s 417) := by unfold nc; rw [ih.2.1 4 (by omega)]
    have h4 := ncI h
    have q := ev1_ok (q := trF s n) (c := (s 431 n).toNat) ih.1 (by omega)
    rw [trF_s]
    exact ⟨q.1, fun j hj => (q.2.1 j hj).trans (ih.2.1 j hj), by omega, by omega⟩
def frT (s t : mSt) : Prop := (∀ b, ¬ (b = 407 ∨ 418 ≤ b ∧ b ≤ 422 ∨ b = 432) → t b = s b) ∧ ∀ j, ¬ (28 ≤ j ∧ j ≤ 35 ∨ 48 ≤ j ∧ j ≤ 49) → t 407 j = s 407 j
theorem v280 {X : (Nat → Int) × Nat} {d : Nat} {s : mSt} {Q : mQ}
  (I6 : Int → Int → Int → mSt → Prop) (m6 : Int → Int → Int → mSt → Nat)
  (I87 : Int → Int → Int → mSt → Prop) (m87 : Int → Int → Int → mSt → Nat)
  (z1 : ∀ y1 : Int, ∀ y2 : Int, ∀ y3 : Int, ∀ s : mSt, I6 y1 y2 y3 s → (s 407 47) ≤ y3 → ∀ t2 : mSt, t2 = uR s (lbk (s 417) (s 429)) → y1 < (t2 407 48) → Q none t2)
  (z2 : ∀ y1 : Int, ∀ y2 : Int, ∀ y3 : Int, ∀ s : mSt, I6 y1 y2 y3 s → (s 407 47) ≤ y3 → ∀ t2 : mSt, t2 = uR s (lbk (s 417) (s 429)) → ¬ y1 < (t2 407 48) → ¬ y1 = (t2 407 48) → I87 y1 y2 0 (uS (uS t2 407 48 y1) 407 49 y2) ∧ m87 y1 y2 0 (uS (uS t2 407 48 y1) 407 49 y2) < m6 y1 y2 y3 s)
  (z3 : ∀ y1 : Int, ∀ y2 : Int, ∀ y3 : Int, ∀ s : mSt, I6 y1 y2 y3 s → (s 407 47) ≤ y3 → ∀ t2 : mSt, t2 = uR s (lbk (s 417) (s 429)) → ¬ y1 < (t2 407 48) → y1 = (t2 407 48) → y2 < (t2 407 49) → I87 y1 y2 0 (uS (uS t2 407 48 y1) 407 49 y2) ∧ m87 y1 y2 0 (uS (uS t2 407 48 y1) 407 49 y2) < m6 y1 y2 y3 s)
  (z4 : ∀ y1 : Int, ∀ y2 : Int, ∀ y3 : Int, ∀ s : mSt, I6 y1 y2 y3 s → (s 407 47) ≤ y3 → ∀ t2 : mSt, t2 = uR s (lbk (s 417) (s 429)) → ¬ y1 < (t2 407 48) → y1 = (t2 407 48) → ¬ y2 < (t2 407 49) → Q none t2)
  (z5 : ∀ y1 : Int, ∀ y2 : Int, ∀ y3 : Int, ∀ s : mSt, I6 y1 y2 y3 s → ¬ (s 407 47) ≤ y3 → 0 ≤ y3 ∧ y3 < 4)
  (z6 : ∀ y1 : Int, ∀ y2 : Int, ∀ y3 : Int, ∀ s : mSt, I6 y1 y2 y3 s → ¬ (s 407 47) ≤ y3 → Ok (s 417) ∧ (0 ≤ (s 431 y3.toNat) ∧ (s 431 y3.toNat) < s 417 4))
  (z7 : ∀ y1 : Int, ∀ y2 : Int, ∀ y3 : Int, ∀ s : mSt, I6 y1 y2 y3 s → ¬ (s 407 47) ≤ y3 → ∀ s10 : mSt, (0 < (pA1 (s 417) (s 431 y3.toNat).toNat).1 ∧ s10 417 = lyR (s 417) (s 431 y3.toNat).toNat (pA1 (s 417) (s 431 y3.toNat).toNat).2.2.2.2 ∧ PQ s10 (np (s 417)) (pA1 (s 417) (s 431 y3.toNat).toNat) ∧ fL s s10) → I6 (w32 (y1 + 1)) (w32 (y2 + (s10 407 30))) (w32 (y3 + 1)) s10 ∧ m6 (w32 (y1 + 1)) (w32 (y2 + (s10 407 30))) (w32 (y3 + 1)) s10 < m6 y1 y2 y3 s)
  (z8 : ∀ y1 : Int, ∀ y2 : Int, ∀ y3 : Int, ∀ s : mSt, I6 y1 y2 y3 s → ¬ (s 407 47) ≤ y3 → ∀ s11 : mSt, ((pA1 (s 417) (s 431 y3.toNat).toNat).1 = 0 ∧ s11 417 = s 417 ∧ fL s s11) → I6 y1 y2 (w32 (y3 + 1)) s11 ∧ m6 y1 y2 (w32 (y3 + 1)) s11 < m6 y1 y2 y3 s)
  (z9 : ∀ y1 : Int, ∀ y2 : Int, ∀ y3 : Int, ∀ s : mSt, I87 y1 y2 y3 s → (s 407 47) ≤ y3 → Q none s)
  (z10 : ∀ y1 : Int, ∀ y2 : Int, ∀ y3 : Int, ∀ s : mSt, I87 y1 y2 y3 s → ¬ (s 407 47) ≤ y3 → 0 ≤ y3 ∧ y3 < 4)
  (z11 : ∀ y1 : Int, ∀ y2 : Int, ∀ y3 : Int, ∀ s : mSt, I87 y1 y2 y3 s → ¬ (s 407 47) ≤ y3 → I87 y1 y2 (w32 (y3 + 1)) (uS s 432 y3.toNat (s 431 y3.toNat)) ∧ m87 y1 y2 (w32 (y3 + 1)) (uS s 432 y3.toNat (s 431 y3.toNat)) < m87 y1 y2 y3 s)
  (z12 : I6 0 0 0 s) :
  Sp X (d + 7) 280 [mR 407] s Q := by
  have L : ∀ k : Nat, (∀ (y1 : Int) (y2 : Int) (y3 : Int) (s : mSt), I6 y1 y2 y3 s → m6 y1 y2 y3 s < k → Wp X (d + 7) 280 6 [some (mR 407), some (mI y1), some (mI y2), some (mI y3)] [] s Q) ∧ (∀ (y1 : Int) (y2 : Int) (y3 : Int) (s : mSt), I87 y1 y2 y3 s → m87 y1 y2 y3 s < k → Wp X (d + 7) 280 87 [some (mR 407), some (mI y1), some (mI y2), some (mI y3)] [] s Q) := by
    intro k
    induction k with
    | zero => exact ⟨fun _ _ _ _ _ h => absurd h (Nat.not_lt_zero _), fun _ _ _ _ _ h => absurd h (Nat.not_lt_zero _)⟩
    | succ k ih => exact ⟨fun y1 y2 y3 s hI hm => b280_6 (fun q1 => b280_46 (c278  ⟨rfl, Wp_gen (fun t2 e2 => b280_50 (fun q3 => b280_74 (z1 y1 y2 y3 s hI q1 t2 e2 q3)) (fun q4 => b280_58 (fun q5 => b280_75 (ih.2 y1 y2 0 (uS (uS t2 407 48 y1) 407 49 y2) (z2 y1 y2 y3 s hI q1 t2 e2 q4 q5).1 (Nat.lt_of_lt_of_le (z2 y1 y2 y3 s hI q1 t2 e2 q4 q5).2 (Nat.le_of_lt_succ hm)))) (fun q6 => b280_66 (fun q7 => b280_75 (ih.2 y1 y2 0 (uS (uS t2 407 48 y1) 407 49 y2) (z3 y1 y2 y3 s hI q1 t2 e2 q4 q6 q7).1 (Nat.lt_of_lt_of_le (z3 y1 y2 y3 s hI q1 t2 e2 q4 q6 q7).2 (Nat.le_of_lt_succ hm)))) (fun q8 => b280_74 (z4 y1 y2 y3 s hI q1 t2 e2 q4 q6 q8)))))⟩)) (fun q9 => b280_14 (z5 y1 y2 y3 s hI q9) (c245 (z6 y1 y2 y3 s hI q9) (fun s10 q10 => ⟨1, rfl, b280_24 (fun _ => b280_30 (b280_40 (ih.1 (w32 (y1 + 1)) (w32 (y2 + (s10 407 30))) (w32 (y3 + 1)) s10 (z7 y1 y2 y3 s hI q9 s10 q10).1 (Nat.lt_of_lt_of_le (z7 y1 y2 y3 s hI q9 s10 q10).2 (Nat.le_of_lt_succ hm))))) (fun q => absurd q (by decide))⟩) (fun s11 q11 => ⟨0, rfl, b280_24 (fun q => absurd q (by decide)) (fun _ => b280_27 (b280_40 (ih.1 y1 y2 (w32 (y3 + 1)) s11 (z8 y1 y2 y3 s hI q9 s11 q11).1 (Nat.lt_of_lt_of_le (z8 y1 y2 y3 s hI q9 s11 q11).2 (Nat.le_of_lt_succ hm)))))⟩))), fun y1 y2 y3 s hI hm => b280_87 (fun q12 => b280_113 (z9 y1 y2 y3 s hI q12)) (fun q13 => b280_95 (z10 y1 y2 y3 s hI q13) (z10 y1 y2 y3 s hI q13) (ih.2 y1 y2 (w32 (y3 + 1)) (uS s 432 y3.toNat (s 431 y3.toNat)) (z11 y1 y2 y3 s hI q13).1 (Nat.lt_of_lt_of_le (z11 y1 y2 y3 s hI q13).2 (Nat.le_of_lt_succ hm))))⟩
  exact e280 (b280_0 ((L (m6 0 0 0 s + 1)).1 0 0 0 s z12 (Nat.lt_succ_self _)))

theorem c280 {X : (Nat → Int) × Nat} {d : Nat} {s : mSt} {Q : mQ} (p1 : Ok (s 417) ∧ (0 ≤ s 407 47 ∧ s 407 47 ≤ 4) ∧ (∀ i, i < (s 407 47).toNat → 0 ≤ s 431 i ∧ s 431 i < s 417 4) ∧ ∀ j, j < 72 → s 429 j = s 417 (5 + j)) (k : ∀ t : mSt, (YN (s 407 48 < (trF s (s 407 47).toNat).2.1 ∨ ((trF s (s 407 47).toNat).2.1 = s 407 48 ∧ (trF s (s 407 47).toNat).2.2 < s 407 49)) (t 407 48 = (trF s (s 407 47).toNat).2.1 ∧ t 407 49 = (trF s (s 407 47).toNat).2.2 ∧ ∀ i, i < (s 407 47).toNat → t 432 i = s 431 i) (t 407 48 = s 407 48 ∧ t 407 49 = s 407 49 ∧ t 432 = s 432) ∧ frT s t) → Q none t) : Sp X (d + 7) 280 [mR 407] s Q := by
  obtain ⟨h, h7, hr, h9⟩ := p1
  let n : Nat := (s 407 47).toNat
  have hn : n = (s 407 47).toNat := rfl
  let q : Rw × Int × Int := trF s n
  have hq := trF_ok h n hr
  have fr : ∀ (t : mSt), (∀ b, ¬ (b = 407 ∨ 417 ≤ b ∧ b ≤ 422) → t b = s b) → t 407 47 = s 407 47 ∧ t 431 = s 431 ∧ t 432 = s 432 ∧ t 429 = s 429 → True := fun _ _ _ => trivial
  let K : mSt → Prop := fun t => (∀ b, ¬ (b = 407 ∨ 417 ≤ b ∧ b ≤ 422) → t b = s b) ∧ ∀ j, ¬ (28 ≤ j ∧ j ≤ 35) → t 407 j = s 407 j
  have kk : ∀ t u : mSt, K t → fL t u → K u := fun t u a b => ⟨fun x hx => (b.1 x hx).trans (a.1 x hx), fun j hj => (b.2 j hj).trans (a.2 j hj)⟩
  have lb : ∀ t t2 : mSt, t 417 = q.1 → K t → t2 = uR t (lbk (t 417) (t 429)) → t2 417 = s 417 ∧ ∀ b, b ≠ 417 → t2 b = t b := fun t t2 e kt h2 => by
    refine ⟨?_, fun b hb => by rw [h2]; exact uC_ne hb⟩
    rw [h2, show uR t (lbk (t 417) (t 429)) 417 = lbk (t 417) (t 429) from uC_at _ _ _, kt.1 429 (by decide), e]
    funext j
    unfold lbk
    by_cases z : 5 ≤ j ∧ j < 77
    · rw [if_pos z, h9 _ (by omega), show 5 + (j - 5) = j by omega]
    · rw [if_neg z]; exact hq.2.1 j (by omega)
  let I : Int → Int → Int → mSt → Prop := fun y1 y2 y3 t => ∃ i : Nat, y3 = i ∧ i ≤ n ∧ y1 = (trF s i).2.1 ∧ y2 = (trF s i).2.2 ∧ t 417 = (trF s i).1 ∧ K t
  let L : Int → Int → Int → mSt → Prop := fun y1 y2 y3 t => ∃ i : Nat, y3 = i ∧ i ≤ n ∧ (s 407 48 < q.2.1 ∨ (q.2.1 = s 407 48 ∧ q.2.2 < s 407 49)) ∧ t 407 48 = q.2.1 ∧ t 407 49 = q.2.2 ∧ (∀ j, j < i → t 432 j = s 431 j) ∧ t 431 = s 431 ∧ frT s t
  have fT : ∀ t t2 : mSt, t2 417 = s 417 → K t → (∀ b, b ≠ 417 → t2 b = t b) → frT s t2 ∧ t2 407 48 = s 407 48 ∧ t2 407 49 = s 407 49 ∧ t2 432 = s 432 ∧ t2 431 = s 431 := fun t t2 e kt c => by
    refine ⟨⟨fun b hb => ?_, fun j hj => by rw [c 407 (by decide)]; exact kt.2 j (by omega)⟩, by rw [c 407 (by decide)]; exact kt.2 48 (by decide), by rw [c 407 (by decide)]; exact kt.2 49 (by decide), (c 432 (by decide)).trans (kt.1 432 (by decide)), (c 431 (by decide)).trans (kt.1 431 (by decide))⟩
    by_cases z : b = 417
    · rw [z]; exact e
    · rw [c b z]; exact kt.1 b (by omega)
  have toL : ∀ (t t2 : mSt), t 417 = q.1 → K t → t2 = uR t (lbk (t 417) (t 429)) → (s 407 48 < q.2.1 ∨ (q.2.1 = s 407 48 ∧ q.2.2 < s 407 49)) → L q.2.1 q.2.2 0 (uS (uS t2 407 48 q.2.1) 407 49 q.2.2) := fun t t2 e kt h2 z => by
    have l := lb t t2 e kt h2
    have f := fT t t2 l.1 kt l.2
    have c : ∀ b, b ≠ 407 → uS (uS t2 407 48 q.2.1) 407 49 q.2.2 b = t2 b := fun b hb => by rw [uS_cell hb, uS_cell hb]
    have c7 : ∀ j, uS (uS t2 407 48 q.2.1) 407 49 q.2.2 407 j = if j = 49 then q.2.2 else if j = 48 then q.2.1 else t2 407 j := fun j => by rw [uS_at, uS_at]
    refine ⟨0, rfl, by omega, z, by rw [c7, if_neg (by decide), if_pos rfl], by rw [c7, if_pos rfl], fun j hj => by omega, by rw [c 431 (by decide)]; exact f.2.2.2.2, fun b hb => by rw [c b (by omega)]; exact f.1.1 b hb, fun j hj => by rw [c7, if_neg (by omega), if_neg (by omega)]; exact f.1.2 j hj⟩
  refine v280 I (fun _ _ y _ => (20 - y).toNat) L (fun _ _ y _ => (10 - y).toNat) ?_ ?_ ?_ ?_ ?_ ?_ ?_ ?_ ?_ ?_ ?_ ⟨0, rfl, by omega, rfl, rfl, rfl, fun _ _ => rfl, fun _ _ => rfl⟩
  · rintro _ _ _ t ⟨i, rfl, hi, rfl, rfl, e, kt⟩ hc t2 h2 hz
    rw [kt.2 47 (by decide)] at hc
    have : i = n := by omega
    subst this
    have l := lb t t2 e kt h2
    have f := fT t t2 l.1 kt l.2
    rw [f.2.1] at hz
    have hz' : q.2.1 < s 407 48 := hz
    exact k t2 ⟨YN_n (by show ¬ (s 407 48 < q.2.1 ∨ (q.2.1 = s 407 48 ∧ q.2.2 < s 407 49)); omega) ⟨f.2.1, f.2.2.1, f.2.2.2.1⟩, f.1⟩
  · rintro _ _ _ t ⟨i, rfl, hi, rfl, rfl, e, kt⟩ hc t2 h2 hz hz2
    rw [kt.2 47 (by decide)] at hc
    have : i = n := by omega
    subst this
    have l := lb t t2 e kt h2
    have f := fT t t2 l.1 kt l.2
    rw [f.2.1] at hz hz2
    have hz' : ¬ q.2.1 < s 407 48 := hz
    have hz2' : ¬ q.2.1 = s 407 48 := hz2
    exact ⟨toL t t2 e kt h2 (by omega), by omega⟩
  · rintro _ _ _ t ⟨i, rfl, hi, rfl, rfl, e, kt⟩ hc t2 h2 hz hz2 hz3
    rw [kt.2 47 (by decide)] at hc
    have : i = n := by omega
    subst this
    have l := lb t t2 e kt h2
    have f := fT t t2 l.1 kt l.2
    rw [f.2.1] at hz2
    rw [f.2.2.1] at hz3
    exact ⟨toL t t2 e kt h2 (Or.inr ⟨hz2, hz3⟩), by omega⟩
  · rintro _ _ _ t ⟨i, rfl, hi, rfl, rfl, e, kt⟩ hc t2 h2 hz hz2 hz3
    rw [kt.2 47 (by decide)] at hc
    have : i = n := by omega
    subst this
    have l := lb t t2 e kt h2
    have f := fT t t2 l.1 kt l.2
    rw [f.2.1] at hz hz2
    rw [f.2.2.1] at hz3
    have hz' : ¬ q.2.1 < s 407 48 := hz
    have hz2' : q.2.1 = s 407 48 := hz2
    have hz3' : ¬ q.2.2 < s 407 49 := hz3
    exact k t2 ⟨YN_n (by show ¬ (s 407 48 < q.2.1 ∨ (q.2.1 = s 407 48 ∧ q.2.2 < s 407 49)); omega) ⟨f.2.1, f.2.2.1, f.2.2.2.1⟩, f.1⟩
  · rintro _ _ _ t ⟨i, rfl, hi, rfl, rfl, e, kt⟩ hc
    rw [kt.2 47 (by decide)] at hc
    omega
  · rintro _ _ _ t ⟨i, rfl, hi, rfl, rfl, e, kt⟩ hc
    rw [kt.2 47 (by decide)] at hc
    have w := trF_ok h i (fun j hj => hr j (by omega))
    rw [e, kt.1 431 (by decide), tnc, w.2.1 4 (by omega)]
    exact ⟨w.1, hr i (by omega)⟩
  · rintro _ _ _ t ⟨i, rfl, hi, rfl, rfl, e, kt⟩ hc u hu
    rw [kt.2 47 (by decide)] at hc
    rw [e, kt.1 431 (by decide), tnc] at hu
    have w := trF_ok h i (fun j hj => hr j (by omega))
    have kb := pA1_k (a := (trF s i).1) (c := (s 431 i).toNat) (by omega)
    have e30 : u 407 30 = (pA1 (trF s i).1 (s 431 i).toNat).2.2.1 := (hu.2.2.1.2.1 (by omega)).2.1
    have es : trF s (i + 1) = (lyR (trF s i).1 (s 431 i).toNat (pA1 (trF s i).1 (s 431 i).toNat).2.2.2.2, (trF s i).2.1 + 1, (trF s i).2.2 + (pA1 (trF s i).1 (s 431 i).toNat).2.2.1) := by
      rw [trF_s]; unfold ev1; rw [if_pos hu.1]
    rw [e30, w32_of (x := (trF s i).2.1 + 1) (by omega), w32_of (x := (trF s i).2.2 + _) (by omega), w32_of (by omega)]
    exact ⟨⟨i + 1, by omega, by omega, by rw [es], by rw [es], by rw [es]; exact hu.2.1, kk t u kt hu.2.2.2⟩, by omega⟩
  · rintro _ _ _ t ⟨i, rfl, hi, rfl, rfl, e, kt⟩ hc u hu
    rw [kt.2 47 (by decide)] at hc
    rw [e, kt.1 431 (by decide), tnc] at hu
    have es : trF s (i + 1) = trF s i := by
      rw [trF_s]; unfold ev1; rw [if_neg (by omega)]
    rw [w32_of (by omega)]
    exact ⟨⟨i + 1, by omega, by omega, by rw [es], by rw [es], by rw [es]; exact hu.2.1, kk t u kt hu.2.2⟩, by omega⟩
  · rintro _ _ _ t ⟨i, rfl, hi, z, e8, e9, er, e1, ft⟩ hc
    rw [ft.2 47 (by decide)] at hc
    exact k t ⟨YN_y z ⟨e8, e9, fun j hj => er j (by omega)⟩, ft⟩
  · rintro _ _ _ t ⟨i, rfl, hi, z, e8, e9, er, e1, ft⟩ hc
    rw [ft.2 47 (by decide)] at hc
    omega
  · rintro _ _ _ t ⟨i, rfl, hi, z, e8, e9, er, e1, ft⟩ hc
    rw [ft.2 47 (by decide)] at hc
    rw [tnc, w32_of (by omega)]
    have c : ∀ b, b ≠ 432 → uS t 432 i (t 431 i) b = t b := fun b hb => uS_cell hb
    refine ⟨⟨i + 1, by omega, by omega, z, by rw [c 407 (by decide)]; exact e8, by rw [c 407 (by decide)]; exact e9, fun j hj => ?_, by rw [c 431 (by decide)]; exact e1, fun b hb => by rw [c b (by omega)]; exact ft.1 b hb, fun j hj => by rw [c 407 (by decide)]; exact ft.2 j hj⟩, by omega⟩
    rw [uS_at]
    by_cases y : j = i
    · rw [if_pos y, y, e1]
    · rw [if_neg y]; exact er j (by omega)
