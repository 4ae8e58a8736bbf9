/-! rests of two that wait: the faces -/
def fXr (s t : mSt) : Prop := (∀ b, ¬ (b = 407 ∨ b = 415 ∨ b = 416 ∨ 418 ≤ b ∧ b ≤ 422 ∨ b = 429 ∨ b = 433) → t b = s b) ∧ ∀ j, ¬ (j = 18 ∨ 28 ≤ j ∧ j ≤ 35) → t 407 j = s 407 j
theorem v290 {X : (Nat → Int) × Nat} {d : Nat} {s : mSt} {Q : mQ} {x1 : Int} {x2 : Int}
  (I30 : Int → Int → Int → mSt → Prop) (m30 : Int → Int → Int → mSt → Nat)
  (z1 : ∀ y3 : Int, ∀ y4 : Int, ∀ y5 : Int, ∀ s : mSt, I30 y3 y4 y5 s → 16 ≤ y5 → 0 ≤ (w32 (129 + x1)) ∧ (w32 (129 + x1)) < 166)
  (z2 : ∀ y3 : Int, ∀ y4 : Int, ∀ y5 : Int, ∀ s : mSt, I30 y3 y4 y5 s → 16 ≤ y5 → 0 ≤ (w32 (129 + x2)) ∧ (w32 (129 + x2)) < 166)
  (z3 : ∀ y3 : Int, ∀ y4 : Int, ∀ y5 : Int, ∀ s : mSt, I30 y3 y4 y5 s → 16 ≤ y5 → Q none (uS (uS s 417 ((w32 (129 + x1)).toNat) y3) 417 ((w32 (129 + x2)).toNat) y4))
  (z4 : ∀ y3 : Int, ∀ y4 : Int, ∀ y5 : Int, ∀ s : mSt, I30 y3 y4 y5 s → ¬ 16 ≤ y5 → 0 ≤ (w32 (129 + x1)) ∧ (w32 (129 + x1)) < 166)
  (z5 : ∀ y3 : Int, ∀ y4 : Int, ∀ y5 : Int, ∀ s : mSt, I30 y3 y4 y5 s → ¬ 16 ≤ y5 → 0 ≤ (w32 (129 + x2)) ∧ (w32 (129 + x2)) < 166)
  (z6 : ∀ y3 : Int, ∀ y4 : Int, ∀ y5 : Int, ∀ s : mSt, I30 y3 y4 y5 s → ¬ 16 ≤ y5 → ∀ t3 : mSt, t3 = uS (uS s 417 ((w32 (129 + x1)).toNat) (w32 (Int.tdiv y5 4))) 417 ((w32 (129 + x2)).toNat) (Int.tmod y5 4) → Ok (t3 417) ∧ (0 ≤ x1 ∧ x1 < t3 417 4))
  (z7 : ∀ y3 : Int, ∀ y4 : Int, ∀ y5 : Int, ∀ s : mSt, I30 y3 y4 y5 s → ¬ 16 ≤ y5 → ∀ t3 : mSt, t3 = uS (uS s 417 ((w32 (129 + x1)).toNat) (w32 (Int.tdiv y5 4))) 417 ((w32 (129 + x2)).toNat) (Int.tmod y5 4) → ∀ v4 : Int, ∀ s4 : mSt, (v4 = gnV (t3 417) x1.toNat ∧ s4 417 = gnR (t3 417) x1.toNat ∧ fL t3 s4) → 0 ≤ (w32 (2 * y5)) ∧ (w32 (2 * y5)) < 32)
  (z8 : ∀ y3 : Int, ∀ y4 : Int, ∀ y5 : Int, ∀ s : mSt, I30 y3 y4 y5 s → ¬ 16 ≤ y5 → ∀ t3 : mSt, t3 = uS (uS s 417 ((w32 (129 + x1)).toNat) (w32 (Int.tdiv y5 4))) 417 ((w32 (129 + x2)).toNat) (Int.tmod y5 4) → ∀ v4 : Int, ∀ s4 : mSt, (v4 = gnV (t3 417) x1.toNat ∧ s4 417 = gnR (t3 417) x1.toNat ∧ fL t3 s4) → ∀ t5 : mSt, t5 = uS s4 433 (w32 (2 * y5)).toNat v4 → Ok (t5 417) ∧ (0 ≤ x2 ∧ x2 < t5 417 4))
  (z9 : ∀ y3 : Int, ∀ y4 : Int, ∀ y5 : Int, ∀ s : mSt, I30 y3 y4 y5 s → ¬ 16 ≤ y5 → ∀ t3 : mSt, t3 = uS (uS s 417 ((w32 (129 + x1)).toNat) (w32 (Int.tdiv y5 4))) 417 ((w32 (129 + x2)).toNat) (Int.tmod y5 4) → ∀ v4 : Int, ∀ s4 : mSt, (v4 = gnV (t3 417) x1.toNat ∧ s4 417 = gnR (t3 417) x1.toNat ∧ fL t3 s4) → ∀ t5 : mSt, t5 = uS s4 433 (w32 (2 * y5)).toNat v4 → ∀ v6 : Int, ∀ s6 : mSt, (v6 = gnV (t5 417) x2.toNat ∧ s6 417 = gnR (t5 417) x2.toNat ∧ fL t5 s6) → 0 ≤ (w32 ((w32 (2 * y5)) + 1)) ∧ (w32 ((w32 (2 * y5)) + 1)) < 32)
  (z10 : ∀ y3 : Int, ∀ y4 : Int, ∀ y5 : Int, ∀ s : mSt, I30 y3 y4 y5 s → ¬ 16 ≤ y5 → ∀ t3 : mSt, t3 = uS (uS s 417 ((w32 (129 + x1)).toNat) (w32 (Int.tdiv y5 4))) 417 ((w32 (129 + x2)).toNat) (Int.tmod y5 4) → ∀ v4 : Int, ∀ s4 : mSt, (v4 = gnV (t3 417) x1.toNat ∧ s4 417 = gnR (t3 417) x1.toNat ∧ fL t3 s4) → ∀ t5 : mSt, t5 = uS s4 433 (w32 (2 * y5)).toNat v4 → ∀ v6 : Int, ∀ s6 : mSt, (v6 = gnV (t5 417) x2.toNat ∧ s6 417 = gnR (t5 417) x2.toNat ∧ fL t5 s6) → ∀ t7 : mSt, t7 = uS s6 433 (w32 ((w32 (2 * y5)) + 1)).toNat v6 → ∀ t8 : mSt, t8 = uR t7 (lbk (t7 417) (t7 429)) → I30 y3 y4 (w32 (y5 + 1)) t8 ∧ m30 y3 y4 (w32 (y5 + 1)) t8 < m30 y3 y4 y5 s)
  (z11 : 0 ≤ (w32 (129 + x1)) ∧ (w32 (129 + x1)) < 166)
  (z12 : 0 ≤ (w32 (129 + x2)) ∧ (w32 (129 + x2)) < 166)
  (z13 : ∀ t9 : mSt, t9 = uC s 429 (kpR (s 417) (s 429)) → I30 (s 417 (w32 (129 + x1)).toNat) (s 417 (w32 (129 + x2)).toNat) 0 t9) :
  Sp X (d + 8) 290 [mR 407, mI x1, mI x2] s Q := by
  have L : ∀ k : Nat, (∀ (y3 : Int) (y4 : Int) (y5 : Int) (s : mSt), I30 y3 y4 y5 s → m30 y3 y4 y5 s < k → Wp X (d + 8) 290 30 [some (mR 407), some (mI x1), some (mI x2), some (mI y3), some (mI y4), some (mI y5)] [] s Q) := by
    intro k
    induction k with
    | zero => exact fun _ _ _ _ _ h => absurd h (Nat.not_lt_zero _)
    | succ k ih => exact fun y3 y4 y5 s hI hm => b290_30 (fun q1 => b290_105 (z1 y3 y4 y5 s hI q1) (z2 y3 y4 y5 s hI q1) (z3 y3 y4 y5 s hI q1)) (fun q2 => b290_37 (z4 y3 y4 y5 s hI q2) (z5 y3 y4 y5 s hI q2) (Sp_gen (fun t3 e3 => (c289 (z6 y3 y4 y5 s hI q2 t3 e3) (fun v4 s4 q4 => ⟨v4, rfl, b290_78 (z7 y3 y4 y5 s hI q2 t3 e3 v4 s4 q4) (Sp_gen (fun t5 e5 => (c289 (z8 y3 y4 y5 s hI q2 t3 e3 v4 s4 q4 t5 e5) (fun v6 s6 q6 => ⟨v6, rfl, b290_94 (z9 y3 y4 y5 s hI q2 t3 e3 v4 s4 q4 t5 e5 v6 s6 q6) (Sp_gen (fun t7 e7 => (c278  ⟨rfl, Wp_gen (fun t8 e8 => b290_99 (ih y3 y4 (w32 (y5 + 1)) t8 (z10 y3 y4 y5 s hI q2 t3 e3 v4 s4 q4 t5 e5 v6 s6 q6 t7 e7 t8 e8).1 (Nat.lt_of_lt_of_le (z10 y3 y4 y5 s hI q2 t3 e3 v4 s4 q4 t5 e5 v6 s6 q6 t7 e7 t8 e8).2 (Nat.le_of_lt_succ hm))))⟩)))⟩))))⟩)))))
  exact e290 (b290_0 z11 z12 (c277  ⟨rfl, Wp_gen (fun t9 e9 => b290_27 ((L (m30 (s 417 (w32 (129 + x1)).toNat) (s 417 (w32 (129 + x2)).toNat) 0 t9 + 1)) (s 417 (w32 (129 + x1)).toNat) (s 417 (w32 (129 + x2)).toNat) 0 t9 (z13 t9 e9) (Nat.lt_succ_self _)))⟩))

theorem c290 {X : (Nat → Int) × Nat} {d : Nat} {s : mSt} {Q : mQ} {x1 : Int} {x2 : Int} (p1 : Ok (s 417) ∧ (0 ≤ x1 ∧ x1 < s 417 4) ∧ (0 ≤ x2 ∧ x2 < s 417 4) ∧ ¬ x1 = x2) (k : ∀ t : mSt, ((∀ n, n < 16 → t 433 (2 * n) = tw1 (s 417) x1.toNat x2.toNat n ∧ t 433 (2 * n + 1) = tw2 (s 417) x1.toNat x2.toNat n) ∧ fXr s t) → Q none t) : Sp X (d + 8) 290 [mR 407, mI x1, mI x2] s Q := by
  obtain ⟨h, hx, hy, hne⟩ := p1
  have h4 := ncI h
  have n6 := nc_le h
  let a := s 417
  have w1 : w32 (129 + x1) = ((129 + x1.toNat : Nat) : Int) := by rw [w32_of (by omega)]; omega
  have w2 : w32 (129 + x2) = ((129 + x2.toNat : Nat) : Int) := by rw [w32_of (by omega)]; omega
  have d1 : ∀ n : Nat, n < 16 → w32 (Int.tdiv (n : Int) 4) = ((n / 4 : Nat) : Int) := fun n hn => by rw [Int.tdiv_eq_ediv_of_nonneg (by omega), w32_of (by omega)]; omega
  have d2 : ∀ n : Nat, Int.tmod (n : Int) 4 = ((n % 4 : Nat) : Int) := fun n => by rw [Int.tmod_eq_emod_of_nonneg (by omega)]; omega
  let T : Nat → Rw := fun n => twR (s 417) x1.toNat x2.toNat n
  have okT' : ∀ n, n < 16 → Ok (T n) := fun n hn => twR_ok h (by omega) (by omega) hn
  have ncT : ∀ n, nc (T n) = nc (s 417) := fun n => by unfold nc; show (twR (s 417) x1.toNat x2.toNat n 4).toNat = _; rw [twR_o (by omega) (by omega) (by omega)]
  have up7 : ∀ (q : mSt) (i : Nat) (x : Int), uS q 417 i x 417 = up (q 417) i x := fun q i x => by funext j; rw [uS_at]; rfl
  let fr : mSt → Prop := fun t => (∀ b, ¬ (b = 407 ∨ 417 ≤ b ∧ b ≤ 422 ∨ b = 429 ∨ b = 433) → t b = s b) ∧ ∀ j, ¬ (28 ≤ j ∧ j ≤ 35) → t 407 j = s 407 j
  let K : mSt → Prop := fun t => (∀ j, j ≠ 129 + x1.toNat → j ≠ 129 + x2.toNat → t 417 j = s 417 j) ∧ t 429 = kpR (s 417) (s 429) ∧ fr t
  have s3 : ∀ (n : Nat) (t t3 : mSt), n < 16 → K t → t3 = uS (uS t 417 ((w32 (129 + x1)).toNat) (w32 (Int.tdiv (n : Int) 4))) 417 ((w32 (129 + x2)).toNat) (Int.tmod (n : Int) 4) → t3 417 = T n ∧ ∀ b, b ≠ 417 → t3 b = t b := fun n t t3 hn hk h3 => by
    rw [w1, w2, tnc, tnc, d1 n hn, d2] at h3
    refine ⟨?_, fun b hb => by rw [h3, uS_cell hb, uS_cell hb]⟩
    rw [h3, up7, up7]
    funext j
    show up (up (t 417) _ _) _ _ j = up (up (s 417) _ _) _ _ j
    by_cases z2 : j = 129 + x2.toNat
    · rw [z2, up_at, up_at]
    · rw [up_ne z2, up_ne z2]
      by_cases z1 : j = 129 + x1.toNat
      · rw [z1, up_at, up_at]
      · rw [up_ne z1, up_ne z1]; exact hk.1 j z1 z2
  have cT : ∀ n, T n 4 = s 417 4 := fun n => twR_o (by omega) (by omega) (by omega)
  have s5 : ∀ (n : Nat) (t3 s4 t5 : mSt) (v4 : Int), n < 16 → t3 417 = T n → (v4 = gnV (t3 417) x1.toNat ∧ s4 417 = gnR (t3 417) x1.toNat ∧ fL t3 s4) → t5 = uS s4 433 (w32 (2 * (n : Int))).toNat v4 → v4 = tw1 (s 417) x1.toNat x2.toNat n ∧ t5 417 = gnR (T n) x1.toNat ∧ t5 433 = up (t3 433) (2 * n) v4 ∧ (∀ b, ¬ (b = 407 ∨ 417 ≤ b ∧ b ≤ 422 ∨ b = 433) → t5 b = t3 b) ∧ ∀ j, ¬ (28 ≤ j ∧ j ≤ 35) → t5 407 j = t3 407 j := fun n t3 s4 t5 v4 hn e h4' h5 => by
    rw [e] at h4'
    rw [wt (n := 2 * n) (by omega) (by omega)] at h5
    have c5 : ∀ b, b ≠ 433 → t5 b = s4 b := fun b hb => by rw [h5]; exact uS_cell hb
    refine ⟨h4'.1, (c5 417 (by decide)).trans h4'.2.1, ?_, fun b hb => (c5 b (by omega)).trans (h4'.2.2.1 b (by omega)), fun j hj => by rw [c5 407 (by decide)]; exact h4'.2.2.2 j hj⟩
    rw [h5]; funext j; rw [uS_at, h4'.2.2.1 433 (by decide)]; rfl
  have ok5' : ∀ n, n < 16 → Ok (gnR (T n) x1.toNat) ∧ gnR (T n) x1.toNat 4 = s 417 4 := fun n hn => ⟨gnR_ok (okT' n hn) (by rw [ncT]; omega), by rw [gnR_o (okT' n hn) (by rw [ncT]; omega) (by omega)]; exact cT n⟩
  let V : mSt → Nat → Prop := fun t n => ∀ i, i < n → t 433 (2 * i) = tw1 (s 417) x1.toNat x2.toNat i ∧ t 433 (2 * i + 1) = tw2 (s 417) x1.toNat x2.toNat i
  let J : Int → Int → Int → mSt → Prop := fun y3 y4 y5 t => ∃ n : Nat, y5 = n ∧ n ≤ 16 ∧ y3 = s 417 (129 + x1.toNat) ∧ y4 = s 417 (129 + x2.toNat) ∧ K t ∧ V t n
  refine v290 J (fun _ _ y _ => (20 - y).toNat) ?_ ?_ ?_ ?_ ?_ ?_ ?_ ?_ ?_ ?_ ?_ ?_ ?_
  · rintro _ _ _ t ⟨n, rfl, hn, rfl, rfl, hk, hv⟩ hc
    rw [w1]; omega
  · rintro _ _ _ t ⟨n, rfl, hn, rfl, rfl, hk, hv⟩ hc
    rw [w2]; omega
  · rintro _ _ _ t ⟨n, rfl, hn, rfl, rfl, hk, hv⟩ hc
    rw [w1, w2, tnc, tnc]
    have e : uS (uS t 417 (129 + x1.toNat) (s 417 (129 + x1.toNat))) 417 (129 + x2.toNat) (s 417 (129 + x2.toNat)) 417 = s 417 := by
      rw [up7, up7]
      funext j
      by_cases z2 : j = 129 + x2.toNat
      · rw [z2, up_at]
      · rw [up_ne z2]
        by_cases z1 : j = 129 + x1.toNat
        · rw [z1, up_at]
        · rw [up_ne z1]; exact hk.1 j z1 z2
    have cu : ∀ b, b ≠ 417 → uS (uS t 417 (129 + x1.toNat) (s 417 (129 + x1.toNat))) 417 (129 + x2.toNat) (s 417 (129 + x2.toNat)) b = t b := fun b hb => by rw [uS_cell hb, uS_cell hb]
    refine k _ ⟨fun i hi => ?_, fun b hb => ?_, fun j hj => ?_⟩
    · rw [cu 433 (by decide)]; exact hv i (by omega)
    · by_cases z : b = 417
      · rw [z]; exact e
      · rw [cu b z]; exact hk.2.2.1 b (by omega)
    · rw [cu 407 (by decide)]; exact hk.2.2.2 j (by omega)
  · rintro _ _ _ t ⟨n, rfl, hn, rfl, rfl, hk, hv⟩ hc
    rw [w1]; omega
  · rintro _ _ _ t ⟨n, rfl, hn, rfl, rfl, hk, hv⟩ hc
    rw [w2]; omega
  · rintro _ _ _ t ⟨n, rfl, hn, rfl, rfl, hk, hv⟩ hc t3 h3
    have q := s3 n t t3 (by omega) hk h3
    rw [q.1, cT]; exact ⟨okT' n (by omega), hx⟩
  · rintro _ _ _ t ⟨n, rfl, hn, rfl, rfl, hk, hv⟩ hc t3 h3 v4 s4 h4'
    rw [w32_of (by omega)]; omega
  · rintro _ _ _ t ⟨n, rfl, hn, rfl, rfl, hk, hv⟩ hc t3 h3 v4 s4 h4' t5 h5
    have q := s3 n t t3 (by omega) hk h3
    have r := s5 n t3 s4 t5 v4 (by omega) q.1 h4' h5
    have o := ok5' n (by omega)
    rw [r.2.1, o.2]; exact ⟨o.1, hy⟩
  · rintro _ _ _ t ⟨n, rfl, hn, rfl, rfl, hk, hv⟩ hc t3 h3 v4 s4 h4' t5 h5 v6 s6 h6
    rw [w32_of (x := 2 * (n : Int)) (by omega), w32_of (by omega)]; omega
  · rintro _ _ _ t ⟨n, rfl, hn, rfl, rfl, hk, hv⟩ hc t3 h3 v4 s4 h4' t5 h5 v6 s6 h6 t7 h7 t8 h8
    have q := s3 n t t3 (by omega) hk h3
    have r := s5 n t3 s4 t5 v4 (by omega) q.1 h4' h5
    have o := ok5' n (by omega)
    rw [r.2.1] at h6
    rw [w32_of (x := 2 * (n : Int)) (by omega), wt (n := 2 * n + 1) (by omega) (by omega)] at h7
    have c7 : ∀ b, b ≠ 433 → t7 b = s6 b := fun b hb => by rw [h7]; exact uS_cell hb
    have c8 : ∀ b, b ≠ 417 → t8 b = t7 b := fun b hb => by rw [h8]; exact uC_ne hb
    have e9 : t7 429 = kpR (s 417) (s 429) := by rw [c7 429 (by decide), h6.2.2.1 429 (by decide), r.2.2.2.1 429 (by decide), q.2 429 (by decide)]; exact hk.2.1
    have e33 : t8 433 = up (up (t 433) (2 * n) v4) (2 * n + 1) v6 := by
      rw [c8 433 (by decide), h7]
      funext j
      rw [uS_at, h6.2.2.1 433 (by decide), r.2.2.1, q.2 433 (by decide)]; rfl
    have nc5 : nc (gnR (T n) x1.toNat) = nc (s 417) := by unfold nc; rw [o.2]
    rw [w32_of (by omega)]
    refine ⟨⟨n + 1, by omega, by omega, rfl, rfl, ⟨fun j z1 z2 => ?_, ?_, fun b hb => ?_, fun j hj => ?_⟩, fun i hi => ?_⟩, by omega⟩
    · rw [h8, show uR t7 (lbk (t7 417) (t7 429)) 417 = lbk (t7 417) (t7 429) from uC_at _ _ _, e9]
      unfold lbk kpR
      by_cases z : 5 ≤ j ∧ j < 77
      · rw [if_pos z, if_pos (by omega), show 5 + (j - 5) = j by omega]
      · rw [if_neg z, c7 417 (by decide), h6.2.1, gnR_o o.1 (by rw [nc5]; omega) (by omega), gnR_o (okT' n (by omega)) (by rw [ncT]; omega) (by omega)]
        show up (up (s 417) _ _) _ _ j = s 417 j
        rw [up_ne z2, up_ne z1]
    · rw [c8 429 (by decide)]; exact e9
    · rw [c8 b (by omega), c7 b (by omega), h6.2.2.1 b (by omega), r.2.2.2.1 b (by omega), q.2 b (by omega)]; exact hk.2.2.1 b hb
    · rw [c8 407 (by decide), c7 407 (by decide), h6.2.2.2 j hj, r.2.2.2.2 j hj, q.2 407 (by decide)]; exact hk.2.2.2 j hj
    · rw [e33]
      by_cases z : i = n
      · rw [z, up_at, up_ne (by omega), up_at]
        exact ⟨r.1, h6.1⟩
      · rw [up_ne (by omega), up_ne (by omega), up_ne (by omega), up_ne (by omega)]; exact hv i (by omega)
  · rw [w1]; omega
  · rw [w2]; omega
  · intro u hu
    have cu : ∀ b, b ≠ 429 → u b = s b := fun b hb => by rw [hu]; exact uC_ne hb
    rw [w1, w2, tnc, tnc]
    exact ⟨0, rfl, by omega, rfl, rfl, ⟨fun j _ _ => by rw [cu 417 (by decide)], by rw [hu]; exact uC_at _ _ _, fun b hb => cu b (by omega), fun j _ => by rw [cu 407 (by decide)]⟩, fun i hi => by omega⟩
def reV (g : Nat → Bool) (w : Int) : Int := if w = 0 then cn g 16 else if fd g 16 < 0 then -2 else if w = 1 then fd g 16 / 4 else fd g 16 % 4
def reQ (a : Rw) (x y w r : Int) : Prop := YN (wtC a x ∧ wtC a y ∧ ¬ x = y ∧ (0 ≤ w ∧ w ≤ 2)) (r = reV (stB (tw1 a x.toNat y.toNat) (tw2 a x.toNat y.toNat)) w) (r = -1)
theorem v291 {X : (Nat → Int) × Nat} {d : Nat} {s : mSt} {Q : mQ} {x1 : Int} {x2 : Int} {x3 : Int}
  (I51 : Int → Int → Int → mSt → Prop) (m51 : Int → Int → Int → mSt → Nat)
  (z1 : ∀ y4 : Int, ∀ y5 : Int, ∀ y6 : Int, ∀ s : mSt, I51 y4 y5 y6 s → y6 < 0 → ¬ x3 = 0 → 0 ≤ y5 → ¬ x3 = 1 → Q (some (mI (Int.tmod y5 4))) s)
  (z2 : ∀ y4 : Int, ∀ y5 : Int, ∀ y6 : Int, ∀ s : mSt, I51 y4 y5 y6 s → y6 < 0 → ¬ x3 = 0 → 0 ≤ y5 → x3 = 1 → Q (some (mI (w32 (Int.tdiv y5 4)))) s)
  (z3 : ∀ y4 : Int, ∀ y5 : Int, ∀ y6 : Int, ∀ s : mSt, I51 y4 y5 y6 s → y6 < 0 → ¬ x3 = 0 → ¬ 0 ≤ y5 → Q (some (mI (-2))) s)
  (z4 : ∀ y4 : Int, ∀ y5 : Int, ∀ y6 : Int, ∀ s : mSt, I51 y4 y5 y6 s → y6 < 0 → x3 = 0 → Q (some (mI y4)) s)
  (z5 : ∀ y4 : Int, ∀ y5 : Int, ∀ y6 : Int, ∀ s : mSt, I51 y4 y5 y6 s → ¬ y6 < 0 → (0 ≤ (w32 (Int.tdiv y6 4)) ∧ (w32 (Int.tdiv y6 4)) < 4) ∧ (0 ≤ (Int.tmod y6 4) ∧ (Int.tmod y6 4) < 4))
  (z6 : ∀ y4 : Int, ∀ y5 : Int, ∀ y6 : Int, ∀ s : mSt, I51 y4 y5 y6 s → ¬ y6 < 0 → stB (fun i => s 433 (2 * i)) (fun i => s 433 (2 * i + 1)) (4 * (w32 (Int.tdiv y6 4)).toNat + (Int.tmod y6 4).toNat) = true → I51 (w32 (y4 + 1)) y6 (w32 (y6 + (-1))) s ∧ m51 (w32 (y4 + 1)) y6 (w32 (y6 + (-1))) s < m51 y4 y5 y6 s)
  (z7 : ∀ y4 : Int, ∀ y5 : Int, ∀ y6 : Int, ∀ s : mSt, I51 y4 y5 y6 s → ¬ y6 < 0 → ¬ (stB (fun i => s 433 (2 * i)) (fun i => s 433 (2 * i + 1)) (4 * (w32 (Int.tdiv y6 4)).toNat + (Int.tmod y6 4).toNat) = true) → I51 y4 y5 (w32 (y6 + (-1))) s ∧ m51 y4 y5 (w32 (y6 + (-1))) s < m51 y4 y5 y6 s)
  (z8 : Ok (s 417))
  (z9 : ((0 ≤ x1 ∧ x1 < s 417 4) ∧ s 417 (41 + x1.toNat) = 1) → Ok (s 417))
  (z10 : ((0 ≤ x1 ∧ x1 < s 417 4) ∧ s 417 (41 + x1.toNat) = 1) → ((0 ≤ x2 ∧ x2 < s 417 4) ∧ s 417 (41 + x2.toNat) = 1) → x1 = x2 → Q (some (mI (-1))) s)
  (z11 : ((0 ≤ x1 ∧ x1 < s 417 4) ∧ s 417 (41 + x1.toNat) = 1) → ((0 ≤ x2 ∧ x2 < s 417 4) ∧ s 417 (41 + x2.toNat) = 1) → ¬ x1 = x2 → ((0 : Int) ≤ x3 ∧ x3 ≤ (2 : Int)) → Ok (s 417) ∧ (0 ≤ x1 ∧ x1 < s 417 4) ∧ (0 ≤ x2 ∧ x2 < s 417 4) ∧ ¬ x1 = x2)
  (z12 : ((0 ≤ x1 ∧ x1 < s 417 4) ∧ s 417 (41 + x1.toNat) = 1) → ((0 ≤ x2 ∧ x2 < s 417 4) ∧ s 417 (41 + x2.toNat) = 1) → ¬ x1 = x2 → ((0 : Int) ≤ x3 ∧ x3 ≤ (2 : Int)) → ∀ s16 : mSt, ((∀ n, n < 16 → s16 433 (2 * n) = tw1 (s 417) x1.toNat x2.toNat n ∧ s16 433 (2 * n + 1) = tw2 (s 417) x1.toNat x2.toNat n) ∧ fXr s s16) → I51 0 (-1) 15 s16)
  (z13 : ((0 ≤ x1 ∧ x1 < s 417 4) ∧ s 417 (41 + x1.toNat) = 1) → ((0 ≤ x2 ∧ x2 < s 417 4) ∧ s 417 (41 + x2.toNat) = 1) → ¬ x1 = x2 → (¬ ((0 : Int) ≤ x3 ∧ x3 ≤ (2 : Int))) → Q (some (mI (-1))) s)
  (z14 : ((0 ≤ x1 ∧ x1 < s 417 4) ∧ s 417 (41 + x1.toNat) = 1) → (¬ ((0 ≤ x2 ∧ x2 < s 417 4) ∧ s 417 (41 + x2.toNat) = 1)) → Q (some (mI (-1))) s)
  (z15 : (¬ ((0 ≤ x1 ∧ x1 < s 417 4) ∧ s 417 (41 + x1.toNat) = 1)) → Q (some (mI (-1))) s) :
  Sp X (d + 9) 291 [mR 407, mI x1, mI x2, mI x3] s Q := by
  have L : ∀ k : Nat, (∀ (y4 : Int) (y5 : Int) (y6 : Int) (s : mSt), I51 y4 y5 y6 s → m51 y4 y5 y6 s < k → Wp X (d + 9) 291 51 [some (mR 407), some (mI x1), some (mI x2), some (mI x3), some (mI y4), some (mI y5), some (mI y6)] [] s Q) := by
    intro k
    induction k with
    | zero => exact fun _ _ _ _ _ h => absurd h (Nat.not_lt_zero _)
    | succ k ih => exact fun y4 y5 y6 s hI hm => b291_51 (fun q1 => b291_87 (fun q2 => b291_94 (fun q3 => b291_104 (fun q4 => b291_116 (b291_120 (z1 y4 y5 y6 s hI q1 q2 q3 q4))) (fun q5 => b291_109 (b291_120 (z2 y4 y5 y6 s hI q1 q2 q3 q5)))) (fun q6 => b291_99 (b291_120 (z3 y4 y5 y6 s hI q1 q2 q6)))) (fun q7 => b291_91 (z4 y4 y5 y6 s hI q1 q7))) (fun q8 => b291_56 (c288 (z5 y4 y5 y6 s hI q8) (fun q9 => ⟨1, rfl, b291_68 (fun _ => b291_74 (b291_81 (ih (w32 (y4 + 1)) y6 (w32 (y6 + (-1))) s (z6 y4 y5 y6 s hI q8 q9).1 (Nat.lt_of_lt_of_le (z6 y4 y5 y6 s hI q8 q9).2 (Nat.le_of_lt_succ hm))))) (fun q => absurd q (by decide))⟩) (fun q10 => ⟨0, rfl, b291_68 (fun q => absurd q (by decide)) (fun _ => b291_71 (b291_81 (ih y4 y5 (w32 (y6 + (-1))) s (z7 y4 y5 y6 s hI q8 q10).1 (Nat.lt_of_lt_of_le (z7 y4 y5 y6 s hI q8 q10).2 (Nat.le_of_lt_succ hm)))))⟩)))
  exact e291 (b291_0 (c215 z8 (fun q11 => ⟨1, rfl, b291_5 (fun q => absurd q (by decide)) (fun _ => b291_8 (c215 (z9 q11) (fun q12 => ⟨1, rfl, b291_13 (fun q => absurd q (by decide)) (fun _ => b291_16 (fun q13 => b291_33 (z10 q11 q12 q13)) (fun q14 => b291_21 (c167  (fun q15 => ⟨1, rfl, b291_30 (fun _ => b291_35 (c290 (z11 q11 q12 q14 q15) (fun s16 q16 => ⟨rfl, b291_41 ((L (m51 0 (-1) 15 s16 + 1)) 0 (-1) 15 s16 (z12 q11 q12 q14 q15 s16 q16) (Nat.lt_succ_self _))⟩))) (fun q => absurd q (by decide))⟩) (fun q17 => ⟨0, rfl, b291_30 (fun q => absurd q (by decide)) (fun _ => b291_33 (z13 q11 q12 q14 q17))⟩))))⟩) (fun q18 => ⟨0, rfl, b291_13 (fun _ => b291_33 (z14 q11 q18)) (fun q => absurd q (by decide))⟩)))⟩) (fun q19 => ⟨0, rfl, b291_5 (fun _ => b291_33 (z15 q19)) (fun q => absurd q (by decide))⟩)))

theorem c291 {X : (Nat → Int) × Nat} {d : Nat} {s : mSt} {Q : mQ} {x1 : Int} {x2 : Int} {x3 : Int} (p1 : Ok (s 417)) (k : ∀ (v : Int) (t : mSt), (reQ (s 417) x1 x2 x3 v ∧ fXr s t) → Q (some (mI v)) t) : Sp X (d + 9) 291 [mR 407, mI x1, mI x2, mI x3] s Q := by
  have h := p1
  have h4 := ok4 h
  have wI : ∀ x : Int, ((0 ≤ x ∧ x < s 417 4) ∧ s 417 (41 + x.toNat) = 1) ↔ wtC (s 417) x := fun x => by
    constructor
    · rintro ⟨z1, z2⟩; exact ⟨z1, (pl_1 h (by omega)).1 z2⟩
    · rintro ⟨z1, z2⟩; exact ⟨z1, (pl_1 h (by omega)).2 z2⟩
  let g : Nat → Bool := stB (tw1 (s 417) x1.toNat x2.toNat) (tw2 (s 417) x1.toNat x2.toNat)
  let D : Int → Nat → Bool := fun k i => decide (k < (i : Int)) && g i
  have hD : ∀ (k : Int) (i : Nat), D k i = true ↔ k < (i : Int) ∧ g i = true := fun k i => by show (decide (k < (i : Int)) && g i) = true ↔ _; simp
  let G : Prop := wtC (s 417) x1 ∧ wtC (s 417) x2 ∧ ¬ x1 = x2 ∧ (0 ≤ x3 ∧ x3 ≤ 2)
  have no : ¬ G → Q (some (mI (-1))) s := fun w => k _ s ⟨YN_n w rfl, ⟨fun _ _ => rfl, fun _ _ => rfl⟩⟩
  let J : Int → Int → Int → mSt → Prop := fun y4 y5 y6 t => G ∧ (-1 ≤ y6 ∧ y6 ≤ 15) ∧ y4 = cn (D y6) 16 ∧ y5 = fd (D y6) 16 ∧ (∀ n, n < 16 → t 433 (2 * n) = tw1 (s 417) x1.toNat x2.toNat n ∧ t 433 (2 * n + 1) = tw2 (s 417) x1.toNat x2.toNat n) ∧ fXr s t
  have Dm : ∀ i, i < 16 → D (-1) i = g i := fun i _ => by
    have : decide ((-1 : Int) < (i : Int)) = true := by simp; omega
    show (decide ((-1 : Int) < (i : Int)) && g i) = g i
    rw [this, Bool.true_and]
  have fb := fd_ge (f := g) (n := 16)
  have sb : ∀ (t : mSt) (j : Nat), j < 16 → (∀ n, n < 16 → t 433 (2 * n) = tw1 (s 417) x1.toNat x2.toNat n ∧ t 433 (2 * n + 1) = tw2 (s 417) x1.toNat x2.toNat n) → stB (fun i => t 433 (2 * i)) (fun i => t 433 (2 * i + 1)) (4 * (w32 (Int.tdiv (j : Int) 4)).toNat + (Int.tmod (j : Int) 4).toNat) = g j := fun t j hj hv => by
    have e : 4 * (w32 (Int.tdiv (j : Int) 4)).toNat + (Int.tmod (j : Int) 4).toNat = j := by
      rw [Int.tdiv_eq_ediv_of_nonneg (by omega), Int.tmod_eq_emod_of_nonneg (by omega), w32_of (by omega)]; omega
    rw [e]
    exact stB_congr hj (fun i hi => (hv i hi).1) (fun i hi => (hv i hi).2)
  refine v291 J (fun _ _ y _ => (y + 1).toNat) ?_ ?_ ?_ ?_ ?_ ?_ ?_ h (fun _ => h) (fun g1 g2 g3 => no (fun z => z.2.2.1 g3)) (fun g1 g2 g3 g4 => ⟨h, g1.1, g2.1, g3⟩) (fun g1 g2 g3 g4 t ht => ?_) (fun g1 g2 g3 g4 => no (fun z => g4 z.2.2.2)) (fun g1 g2 => no (fun z => g2 ((wI x2).2 z.2.1))) (fun g1 => no (fun z => g1 ((wI x1).2 z.1)))
  · rintro _ _ y6 t ⟨gg, hy, rfl, rfl, hv, ht⟩ hc hx hz hx1
    have : y6 = -1 := by omega
    subst this
    rw [fd_congr Dm] at hz ⊢
    refine k _ t ⟨YN_y gg ?_, ht⟩
    unfold reV
    rw [if_neg hx, if_neg (show ¬ fd g 16 < 0 by omega), if_neg hx1, Int.tmod_eq_emod_of_nonneg hz]
  · rintro _ _ y6 t ⟨gg, hy, rfl, rfl, hv, ht⟩ hc hx hz hx1
    have : y6 = -1 := by omega
    subst this
    rw [fd_congr Dm] at hz ⊢
    refine k _ t ⟨YN_y gg ?_, ht⟩
    unfold reV
    rw [if_neg hx, if_neg (show ¬ fd g 16 < 0 by omega), if_pos hx1, Int.tdiv_eq_ediv_of_nonneg hz, w32_of (by omega)]
  · rintro _ _ y6 t ⟨gg, hy, rfl, rfl, hv, ht⟩ hc hx hz
    have : y6 = -1 := by omega
    subst this
    rw [fd_congr Dm] at hz
    refine k _ t ⟨YN_y gg ?_, ht⟩
    unfold reV
    rw [if_neg hx, if_pos (show fd g 16 < 0 by omega)]
  · rintro _ _ y6 t ⟨gg, hy, rfl, rfl, hv, ht⟩ hc hx
    have : y6 = -1 := by omega
    subst this
    refine k _ t ⟨YN_y gg ?_, ht⟩
    unfold reV
    rw [if_pos hx, cn_congr Dm]
  · rintro _ _ y6 t ⟨gg, hy, rfl, rfl, hv, ht⟩ hc
    rw [Int.tdiv_eq_ediv_of_nonneg (by omega), Int.tmod_eq_emod_of_nonneg (by omega), w32_of (by omega)]; omega
  · rintro _ _ y6 t ⟨gg, hy, rfl, rfl, hv, ht⟩ hc hz
    obtain ⟨j, rfl⟩ : ∃ j : Nat, y6 = j := ⟨y6.toNat, by omega⟩
    rw [sb t j (by omega) hv] at hz
    have bc := cn_le (f := D (j : Int)) (n := 16)
    have c1 : cn (D ((j : Int) + -1)) 16 = cn (D (j : Int)) 16 + 1 := by
      rw [cn_up (f := D (j : Int)) (f' := D ((j : Int) + -1)) (h := true) (j := j) (by omega) (Bool.eq_false_iff.2 (fun z => by have := ((hD _ _).1 z).1; omega)) ((hD _ _).2 ⟨by omega, hz⟩) (fun p hp => ?_), if_pos rfl]
      rw [Bool.eq_iff_iff, hD, hD]
      constructor
      · rintro ⟨z1, z2⟩; exact ⟨by omega, z2⟩
      · rintro ⟨z1, z2⟩; exact ⟨by omega, z2⟩
    have c2 : fd (D ((j : Int) + -1)) 16 = (j : Int) := fd_eq (by omega) ((hD _ _).2 ⟨by omega, hz⟩) (fun i hi => Bool.eq_false_iff.2 (fun z => by have := ((hD _ _).1 z).1; omega))
    rw [w32_of (x := (j : Int) + -1) (by omega), w32_of (by omega)]
    exact ⟨⟨gg, by omega, c1.symm, c2.symm, hv, ht⟩, by omega⟩
  · rintro _ _ y6 t ⟨gg, hy, rfl, rfl, hv, ht⟩ hc hz
    obtain ⟨j, rfl⟩ : ∃ j : Nat, y6 = j := ⟨y6.toNat, by omega⟩
    rw [sb t j (by omega) hv] at hz
    have c0 : D ((j : Int) + -1) = D (j : Int) := by
      funext i
      rw [Bool.eq_iff_iff, hD, hD]
      constructor
      · rintro ⟨z1, z2⟩
        refine ⟨?_, z2⟩
        by_cases z : i = j
        · rw [z] at z2; exact absurd z2 hz
        · omega
      · rintro ⟨z1, z2⟩; exact ⟨by omega, z2⟩
    rw [w32_of (x := (j : Int) + -1) (by omega)]
    exact ⟨⟨gg, by omega, by rw [c0], by rw [c0], hv, ht⟩, by omega⟩
  · have z0 : ∀ i, i < 16 → D 15 i = false := fun i hi => Bool.eq_false_iff.2 (fun z => by have := ((hD _ _).1 z).1; omega)
    refine ⟨⟨(wI x1).1 g1, (wI x2).1 g2, g3, g4⟩, by omega, ?_, ?_, ht.1, ht.2⟩
    · rw [cn_congr (g := fun _ => false) z0]; exact (cn_ff 16).symm
    · have := fd_neg.2 z0
      have := fd_ge (f := D 15) (n := 16)
      omega
theorem v153 {X : (Nat → Int) × Nat} {d : Nat} {s : mSt} {Q : mQ} {x1 : Int} {x2 : Int} {x3 : Int}
  (z1 : BI s 18)
  (z2 : ((0 ≤ x1 ∧ x1 < s 18 3) ∧ ¬ pl (brow s 18) x1.toNat = true) → BI s 18)
  (z3 : ((0 ≤ x1 ∧ x1 < s 18 3) ∧ ¬ pl (brow s 18) x1.toNat = true) → ((0 ≤ x2 ∧ x2 < s 18 3) ∧ ¬ pl (brow s 18) x2.toNat = true) → x1 = x2 → Q (some (mI (-1))) s)
  (z4 : ((0 ≤ x1 ∧ x1 < s 18 3) ∧ ¬ pl (brow s 18) x1.toNat = true) → ((0 ≤ x2 ∧ x2 < s 18 3) ∧ ¬ pl (brow s 18) x2.toNat = true) → ¬ x1 = x2 → x3 < 0 → Q (some (mI (-1))) s)
  (z5 : ((0 ≤ x1 ∧ x1 < s 18 3) ∧ ¬ pl (brow s 18) x1.toNat = true) → ((0 ≤ x2 ∧ x2 < s 18 3) ∧ ¬ pl (brow s 18) x2.toNat = true) → ¬ x1 = x2 → ¬ x3 < 0 → x3 ≤ 2 → 18 ≠ 54 ∧ ¬ (66 ≤ 18 + 9 ∧ 18 ≤ 67) ∧ BI s 18 ∧ ((0 ≤ x1 ∧ x1 < s 18 3) ∧ ¬ pl (brow s 18) x1.toNat = true) ∧ ((0 ≤ x2 ∧ x2 < s 18 3) ∧ ¬ pl (brow s 18) x2.toNat = true) ∧ ¬ x1 = x2)
  (z6 : ((0 ≤ x1 ∧ x1 < s 18 3) ∧ ¬ pl (brow s 18) x1.toNat = true) → ((0 ≤ x2 ∧ x2 < s 18 3) ∧ ¬ pl (brow s 18) x2.toNat = true) → ¬ x1 = x2 → ¬ x3 < 0 → x3 ≤ 2 → ∀ v8 : Int, ∀ s8 : mSt, (v8 = os (stB (tw1 (brow s 18) x1.toNat x2.toNat) (tw2 (brow s 18) x1.toNat x2.toNat)) 16 ∧ fRs s s8) → ¬ x3 = 0 → ¬ v8 = 0 → 0 < v8 ∧ v8 < 1073741824)
  (z7 : ((0 ≤ x1 ∧ x1 < s 18 3) ∧ ¬ pl (brow s 18) x1.toNat = true) → ((0 ≤ x2 ∧ x2 < s 18 3) ∧ ¬ pl (brow s 18) x2.toNat = true) → ¬ x1 = x2 → ¬ x3 < 0 → x3 ≤ 2 → ∀ v8 : Int, ∀ s8 : mSt, (v8 = os (stB (tw1 (brow s 18) x1.toNat x2.toNat) (tw2 (brow s 18) x1.toNat x2.toNat)) 16 ∧ fRs s s8) → ¬ x3 = 0 → ¬ v8 = 0 → ¬ x3 = 1 → Q (some (mI (Int.tmod (fd (bq v8) 30) 4))) s8)
  (z8 : ((0 ≤ x1 ∧ x1 < s 18 3) ∧ ¬ pl (brow s 18) x1.toNat = true) → ((0 ≤ x2 ∧ x2 < s 18 3) ∧ ¬ pl (brow s 18) x2.toNat = true) → ¬ x1 = x2 → ¬ x3 < 0 → x3 ≤ 2 → ∀ v8 : Int, ∀ s8 : mSt, (v8 = os (stB (tw1 (brow s 18) x1.toNat x2.toNat) (tw2 (brow s 18) x1.toNat x2.toNat)) 16 ∧ fRs s s8) → ¬ x3 = 0 → ¬ v8 = 0 → x3 = 1 → Q (some (mI (w32 (Int.tdiv (fd (bq v8) 30) 4)))) s8)
  (z9 : ((0 ≤ x1 ∧ x1 < s 18 3) ∧ ¬ pl (brow s 18) x1.toNat = true) → ((0 ≤ x2 ∧ x2 < s 18 3) ∧ ¬ pl (brow s 18) x2.toNat = true) → ¬ x1 = x2 → ¬ x3 < 0 → x3 ≤ 2 → ∀ v8 : Int, ∀ s8 : mSt, (v8 = os (stB (tw1 (brow s 18) x1.toNat x2.toNat) (tw2 (brow s 18) x1.toNat x2.toNat)) 16 ∧ fRs s s8) → ¬ x3 = 0 → v8 = 0 → Q (some (mI (-2))) s8)
  (z10 : ((0 ≤ x1 ∧ x1 < s 18 3) ∧ ¬ pl (brow s 18) x1.toNat = true) → ((0 ≤ x2 ∧ x2 < s 18 3) ∧ ¬ pl (brow s 18) x2.toNat = true) → ¬ x1 = x2 → ¬ x3 < 0 → x3 ≤ 2 → ∀ v8 : Int, ∀ s8 : mSt, (v8 = os (stB (tw1 (brow s 18) x1.toNat x2.toNat) (tw2 (brow s 18) x1.toNat x2.toNat)) 16 ∧ fRs s s8) → x3 = 0 → 0 ≤ v8 ∧ v8 < 1073741824)
  (z11 : ((0 ≤ x1 ∧ x1 < s 18 3) ∧ ¬ pl (brow s 18) x1.toNat = true) → ((0 ≤ x2 ∧ x2 < s 18 3) ∧ ¬ pl (brow s 18) x2.toNat = true) → ¬ x1 = x2 → ¬ x3 < 0 → x3 ≤ 2 → ∀ v8 : Int, ∀ s8 : mSt, (v8 = os (stB (tw1 (brow s 18) x1.toNat x2.toNat) (tw2 (brow s 18) x1.toNat x2.toNat)) 16 ∧ fRs s s8) → x3 = 0 → Q (some (mI (cn (bq v8) 30))) s8)
  (z12 : ((0 ≤ x1 ∧ x1 < s 18 3) ∧ ¬ pl (brow s 18) x1.toNat = true) → ((0 ≤ x2 ∧ x2 < s 18 3) ∧ ¬ pl (brow s 18) x2.toNat = true) → ¬ x1 = x2 → ¬ x3 < 0 → ¬ x3 ≤ 2 → Q (some (mI (-1))) s)
  (z13 : ((0 ≤ x1 ∧ x1 < s 18 3) ∧ ¬ pl (brow s 18) x1.toNat = true) → (¬ ((0 ≤ x2 ∧ x2 < s 18 3) ∧ ¬ pl (brow s 18) x2.toNat = true)) → Q (some (mI (-1))) s)
  (z14 : (¬ ((0 ≤ x1 ∧ x1 < s 18 3) ∧ ¬ pl (brow s 18) x1.toNat = true)) → Q (some (mI (-1))) s) :
  Sp X (d + 12) 153 [mR 0, mI x1, mI x2, mI x3] s Q := e153 (b153_0 (c10 (bdm rfl) z1 (fun q1 => ⟨1, rfl, b153_15 (fun q => absurd q (by decide)) (fun _ => b153_18 (c10 (bdm rfl) (z2 q1) (fun q2 => ⟨1, rfl, b153_24 (fun q => absurd q (by decide)) (fun _ => b153_27 (fun q3 => b153_41 (z3 q1 q2 q3)) (fun q4 => b153_32 (fun q5 => b153_41 (z4 q1 q2 q4 q5)) (fun q6 => b153_36 (fun q7 => b153_43 (c110 (bdm rfl) (z5 q1 q2 q4 q6 q7) (fun v8 s8 q8 => ⟨v8, rfl, b153_54 (fun q9 => b153_66 (fun q10 => b153_74 (c310 (z6 q1 q2 q4 q6 q7 v8 s8 q8 q9 q10) ⟨_, rfl, b153_79 (fun q11 => b153_93 (b153_97 (z7 q1 q2 q4 q6 q7 v8 s8 q8 q9 q10 q11))) (fun q12 => b153_86 (b153_97 (z8 q1 q2 q4 q6 q7 v8 s8 q8 q9 q10 q12)))⟩)) (fun q13 => b153_71 (z9 q1 q2 q4 q6 q7 v8 s8 q8 q9 q13))) (fun q14 => b153_60 (c309 (z10 q1 q2 q4 q6 q7 v8 s8 q8 q14) ⟨_, rfl, b153_65 (z11 q1 q2 q4 q6 q7 v8 s8 q8 q14)⟩))⟩))) (fun q15 => b153_41 (z12 q1 q2 q4 q6 q15)))))⟩) (fun q16 => ⟨0, rfl, b153_24 (fun _ => b153_41 (z13 q1 q16)) (fun q => absurd q (by decide))⟩)))⟩) (fun q17 => ⟨0, rfl, b153_15 (fun _ => b153_41 (z14 q17)) (fun q => absurd q (by decide))⟩)))

theorem c153 {X : (Nat → Int) × Nat} {d : Nat} {s : mSt} {Q : mQ} {x1 : Int} {x2 : Int} {x3 : Int} (p1 : BI s 18) (k : ∀ (v : Int) (t : mSt), (reQ (brow s 18) x1 x2 x3 v ∧ fRs s t) → Q (some (mI v)) t) : Sp X (d + 12) 153 [mR 0, mI x1, mI x2, mI x3] s Q := by
  have hB := p1
  have e4 := bi4 hB
  have wI : ∀ x : Int, ((0 ≤ x ∧ x < s 18 3) ∧ ¬ pl (brow s 18) x.toNat = true) ↔ wtC (brow s 18) x := fun x => by unfold wtC; rw [← e4]
  let g : Nat → Bool := stB (tw1 (brow s 18) x1.toNat x2.toNat) (tw2 (brow s 18) x1.toNat x2.toNat)
  let G : Prop := wtC (brow s 18) x1 ∧ wtC (brow s 18) x2 ∧ ¬ x1 = x2 ∧ (0 ≤ x3 ∧ x3 ≤ 2)
  have no : ¬ G → Q (some (mI (-1))) s := fun w => k _ s ⟨YN_n w rfl, fun _ _ _ _ => rfl⟩
  have ys : ∀ (r : Int) (t : mSt), G → r = reV g x3 → fRs s t → Q (some (mI r)) t := fun r t gg e ht => k _ t ⟨YN_y gg e, ht⟩
  have fb := fd_ge (f := g) (n := 16)
  refine v153 hB (fun _ => hB) (fun g1 g2 g3 => no (fun z => z.2.2.1 g3)) (fun g1 g2 g3 g4 => no (fun z => by have := z.2.2.2; omega)) (fun g1 g2 g3 g4 g5 => ⟨by decide, by decide, hB, g1, g2, g3⟩) (fun g1 g2 g3 g4 g5 v t ht q1 q2 => ?_) (fun g1 g2 g3 g4 g5 v t ht q1 q2 q3 => ?_) (fun g1 g2 g3 g4 g5 v t ht q1 q2 q3 => ?_) (fun g1 g2 g3 g4 g5 v t ht q1 q2 => ?_) (fun g1 g2 g3 g4 g5 v t ht q1 => ?_) (fun g1 g2 g3 g4 g5 v t ht q1 => ?_) (fun g1 g2 g3 g4 g5 => no (fun z => by have := z.2.2.2; omega)) (fun g1 g2 => no (fun z => g2 ((wI x2).2 z.2.1))) (fun g1 => no (fun z => g1 ((wI x1).2 z.1)))
  · have hv : v = os g 16 := ht.1
    have b := os_30 (f := g) (n := 16) (by decide)
    omega
  · have hv : v = os g 16 := ht.1
    have z : ¬ fd g 16 < 0 := fun w => q2 (hv.trans ((os_z (by decide)).2 w))
    refine ys _ t ⟨(wI x1).1 g1, (wI x2).1 g2, g3, by omega⟩ ?_ ht.2
    unfold reV
    rw [hv, fd_os (by decide), if_neg q1, if_neg z, if_neg q3, Int.tmod_eq_emod_of_nonneg (by omega)]
  · have hv : v = os g 16 := ht.1
    have z : ¬ fd g 16 < 0 := fun w => q2 (hv.trans ((os_z (by decide)).2 w))
    refine ys _ t ⟨(wI x1).1 g1, (wI x2).1 g2, g3, by omega⟩ ?_ ht.2
    unfold reV
    rw [hv, fd_os (by decide), if_neg q1, if_neg z, if_pos q3, Int.tdiv_eq_ediv_of_nonneg (by omega), w32_of (by omega)]
  · have hv : v = os g 16 := ht.1
    refine ys _ t ⟨(wI x1).1 g1, (wI x2).1 g2, g3, by omega⟩ ?_ ht.2
    unfold reV
    rw [if_neg q1, if_pos ((os_z (by decide)).1 (hv.symm.trans q2))]
  · have hv : v = os g 16 := ht.1
    have b := os_30 (f := g) (n := 16) (by decide)
    omega
  · have hv : v = os g 16 := ht.1
    refine ys _ t ⟨(wI x1).1 g1, (wI x2).1 g2, g3, by omega⟩ ?_ ht.2
    unfold reV
    rw [hv, cn_os (by decide), if_pos q1]
