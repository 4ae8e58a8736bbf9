/-! a Board: delays, watchers, who must not meet, pence -/
theorem c12w {X : (Nat → Int) × Nat} {d : Nat} {s : mSt} {Q : mQ} {a0 : Nat} {x1 : Int} {x2 : Int} (h0 : isBd a0) (p1 : (0 ≤ x1 ∧ x1 < 6) ∧ (0 ≤ x2 ∧ x2 < 5)) (k1 : (bq (s (a0 + 3) x1.toNat) x2.toNat = true) → Q (some (mI 1)) s) (k0 : ¬ (bq (s (a0 + 3) x1.toNat) x2.toNat = true) → Q (some (mI 0)) s) : Sp X d 12 [mR a0, mI x1, mI x2] s Q := v12 h0 p1.1 (fun q => k0 (fun z => q ((bt_iff _ (by omega)).2 z))) (fun q => k1 ((bt_iff _ (by omega)).1 q))
theorem c24w {X : (Nat → Int) × Nat} {d : Nat} {s : mSt} {Q : mQ} {a0 : Nat} {x1 : Int} (h0 : isBd a0) (p1 : 0 ≤ x1 ∧ x1 < 6) (k : Q none (uS (uS (uS s a0 5 (iAnd (s a0 5) (iXor (iShl 1 x1) (-1)))) (a0 + 8) x1.toNat 0) (a0 + 9) x1.toNat 0)) : Sp X d 24 [mR a0, mI x1] s Q := v24 h0 p1 k
theorem v26 {X : (Nat → Int) × Nat} {d : Nat} {s : mSt} {Q : mQ} {a0 : Nat} {x1 : Int} {x2 : Int} (h0 : isBd a0)
  (I21 : Int → mSt → Prop) (m21 : Int → mSt → Nat)
  (z1 : ∀ y3 : Int, ∀ s : mSt, I21 y3 s → (s a0 3) ≤ y3 → Q none s)
  (z2 : ∀ y3 : Int, ∀ s : mSt, I21 y3 s → ¬ (s a0 3) ≤ y3 → (0 ≤ y3 ∧ y3 < 6) ∧ (0 ≤ x1 ∧ x1 < 5))
  (z3 : ∀ y3 : Int, ∀ s : mSt, I21 y3 s → ¬ (s a0 3) ≤ y3 → bq (s (a0 + 3) y3.toNat) x1.toNat = true → 0 ≤ y3 ∧ y3 < 6)
  (z4 : ∀ y3 : Int, ∀ s : mSt, I21 y3 s → ¬ (s a0 3) ≤ y3 → bq (s (a0 + 3) y3.toNat) x1.toNat = true → I21 (w32 (y3 + 1)) (uS (uS (uS s a0 5 (iAnd (s a0 5) (iXor (iShl 1 y3) (-1)))) (a0 + 8) y3.toNat 0) (a0 + 9) y3.toNat 0) ∧ m21 (w32 (y3 + 1)) (uS (uS (uS s a0 5 (iAnd (s a0 5) (iXor (iShl 1 y3) (-1)))) (a0 + 8) y3.toNat 0) (a0 + 9) y3.toNat 0) < m21 y3 s)
  (z5 : ∀ y3 : Int, ∀ s : mSt, I21 y3 s → ¬ (s a0 3) ≤ y3 → ¬ (bq (s (a0 + 3) y3.toNat) x1.toNat = true) → I21 (w32 (y3 + 1)) s ∧ m21 (w32 (y3 + 1)) s < m21 y3 s)
  (z6 : 0 ≤ x1 ∧ x1 < 5)
  (z7 : I21 0 (uS s (a0 + 1) x1.toNat (iMin (w32 ((s (a0 + 1) x1.toNat) + x2)) 15))) :
  Sp X (d + 1) 26 [mR a0, mI x1, mI x2] s Q := by
  have L : ∀ k : Nat, (∀ (y3 : Int) (s : mSt), I21 y3 s → m21 y3 s < k → Wp X (d + 1) 26 21 [some (mR a0), some (mI x1), some (mI x2), some (mI y3)] [] s Q) := by
    intro k
    induction k with
    | zero => exact fun _ _ _ h => absurd h (Nat.not_lt_zero _)
    | succ k ih => exact fun y3 s hI hm => b26_21 h0 (fun q1 => b26_49 h0 (z1 y3 s hI q1)) (fun q2 => b26_29 h0 (c12w h0 (z2 y3 s hI q2) (fun q3 => ⟨1, rfl, b26_35 h0 (fun q => absurd q (by decide)) (fun _ => b26_38 h0 (c24w h0 (z3 y3 s hI q2 q3) ⟨rfl, b26_43 h0 (ih (w32 (y3 + 1)) (uS (uS (uS s a0 5 (iAnd (s a0 5) (iXor (iShl 1 y3) (-1)))) (a0 + 8) y3.toNat 0) (a0 + 9) y3.toNat 0) (z4 y3 s hI q2 q3).1 (Nat.lt_of_lt_of_le (z4 y3 s hI q2 q3).2 (Nat.le_of_lt_succ hm)))⟩))⟩) (fun q4 => ⟨0, rfl, b26_35 h0 (fun _ => b26_43 h0 (ih (w32 (y3 + 1)) s (z5 y3 s hI q2 q4).1 (Nat.lt_of_lt_of_le (z5 y3 s hI q2 q4).2 (Nat.le_of_lt_succ hm)))) (fun q => absurd q (by decide))⟩)))
  exact e26 (b26_0 h0 z6 z6 ((L (m21 0 (uS s (a0 + 1) x1.toNat (iMin (w32 ((s (a0 + 1) x1.toNat) + x2)) 15)) + 1)) 0 (uS s (a0 + 1) x1.toNat (iMin (w32 ((s (a0 + 1) x1.toNat) + x2)) 15)) z7 (Nat.lt_succ_self _)))

/-- what stands in a Board when those below j who sit the paper have been released -/
def dlM (s t : mSt) (k p j : Nat) (x : Int) : Prop := (∀ i, i < 5 → t k i = s k i) ∧ (∀ i, t (k + 1) i = if i = p then x else s (k + 1) i) ∧ (∀ b, ¬ (b = k ∨ b = k + 1 ∨ b = k + 8 ∨ b = k + 9) → t b = s b) ∧
  (0 ≤ t k 5 ∧ t k 5 < 2 ^ nc (brow s k)) ∧ (∀ i, bq (t k 5) i = (bq (s k 5) i && !(decide (i < j) && ss (brow s k) i p))) ∧
  (∀ i, t (k + 8) i = if i < j ∧ ss (brow s k) i p = true then 0 else s (k + 8) i) ∧ (∀ i, t (k + 9) i = if i < j ∧ ss (brow s k) i p = true then 0 else s (k + 9) i)
theorem dl_rc {a : Rw} {p c : Nat} {n : Int} (hp : p < 5) (hc : c < 6) (h5 : np a ≤ 5) (h : ¬ (c < nc a ∧ ss a c p = true)) : rc (dlR a p n) a c := by
  have e : np (dlR a p n) = np a := by unfold np; rw [dlR_o hp (by omega), if_neg (by omega)]
  refine ⟨by rw [dlR_o hp (by omega), if_neg (by omega)], fun q hq => ?_⟩
  rw [e] at hq
  refine ⟨?_, ?_, ?_⟩
  · unfold ss; rw [dlR_o hp (by omega), if_neg (by omega)]
  · exact tm_eq (by rw [dlR_o hp (by omega), if_neg (by omega)]) (by rw [dlR_o hp (by omega), if_neg (by omega)])
  · rw [dlR_B hp hc (by omega), if_neg h]
theorem del_row {s t : mSt} {k p : Nat} {n : Int} (h : BI s k) (hp : p < np (brow s k)) (hn : 0 ≤ n) (hk : k + 9 < 407) (hm : dlM s t k p (nc (brow s k)) (dlS (brow s k) p n)) : BI t k ∧ brow t k = dlR (brow s k) p n := by
  obtain ⟨m1, m2, m3, m4, m5, m6, m7⟩ := hm
  have n6 := nc_le h.1
  have n5 := np_le h.1
  have h3 := bi_np h
  have hd : ¬ s k 0 = 0 := bi_dp h (by omega)
  have hd' : ¬ t k 0 = 0 := by rw [m1 0 (by omega)]; exact hd
  have c7 : t (k + 7) = s (k + 7) := m3 _ (by omega)
  have e : brow t k = dlR (brow s k) p n := by
    refine row_ext (fun j hj => ?_) (fun i hi => ?_) (fun i hi q hq => ?_)
    · rw [dlR_o (by omega) hj]
      by_cases e : j = 6 + p
      · rw [if_pos e]
        subst e
        unfold brow
        rw [if_neg (by omega), if_neg hd', if_neg (by omega), if_neg (by omega), if_pos (by omega), m1 2 (by omega), if_pos (by omega), Nat.add_sub_cancel_left, m2, if_pos rfl]
        rfl
      · rw [if_neg e]
        by_cases z : 6 ≤ j ∧ j < 11
        · unfold brow
          rw [if_neg (by omega), if_neg hd', if_neg (by omega), if_neg (by omega), if_pos (by omega), if_neg (show ¬ (82 ≤ j ∧ (j < 117 ∨ 135 ≤ j)) by omega), if_neg hd, if_neg (show ¬ j = 0 by omega), if_neg (show ¬ j < 6 by omega), if_pos (show j < 11 by omega), m1 2 (by omega), m2, if_neg (show ¬ j - 6 = p by omega)]
        · exact (show brow t k j = brow s k j from by
            unfold brow
            rw [m1 0 (by omega), m1 2 (by omega), m1 3 (by omega), m3 417 (by omega), m3 (k + 6) (by omega), m3 (k + 2) (by omega), m3 (k + 3) (by omega), m3 (k + 4) (by omega), m3 (k + 5) (by omega)]
            by_cases z1 : 82 ≤ j ∧ (j < 117 ∨ 135 ≤ j)
            · rw [if_pos z1, if_pos z1]
            rw [if_neg z1, if_neg z1, if_neg hd, if_neg hd]
            by_cases z2 : j = 0
            · rw [if_pos z2, if_pos z2]
            rw [if_neg z2, if_neg z2]
            by_cases z3 : j < 6
            · rw [if_pos z3, if_pos z3, m1 _ (by omega)]
            rw [if_neg z3, if_neg z3, if_neg (show ¬ j < 11 by omega), if_neg (show ¬ j < 11 by omega)]
            by_cases z4 : j < 41
            · rw [if_pos z4, if_pos z4]
            rw [if_neg z4, if_neg z4, if_neg (show ¬ j < 47 by omega), if_neg (show ¬ j < 77 by omega), if_neg (show ¬ j < 47 by omega), if_neg (show ¬ j < 77 by omega)])
    · rw [dlR_W (by omega) hi, biW hd' hi, biW hd hi, m5]
      by_cases e : i < nc (brow s k) ∧ ss (brow s k) i p = true
      · simp [e.1, e.2]
      · rw [if_neg e]
        rw [show (decide (i < nc (brow s k)) && ss (brow s k) i p) = false from by
          apply bf; rw [Bool.and_eq_true, decide_eq_true_iff]; exact e]
        simp
    · rw [dlR_B (by omega) hi hq, brow_B hd' hi hq, brow_B hd hi hq, m5, c7, m1 2 (by omega)]
      by_cases e : i < nc (brow s k) ∧ ss (brow s k) i p = true
      · simp [e.1, e.2]
      · rw [if_neg e]
        rw [show (decide (i < nc (brow s k)) && ss (brow s k) i p) = false from by
          apply bf; rw [Bool.and_eq_true, decide_eq_true_iff]; exact e]
        simp
  have enc : nc (dlR (brow s k) p n) = nc (brow s k) := by unfold nc; rw [dlR_o (by omega) (by omega), if_neg (by omega)]
  have enp : np (dlR (brow s k) p n) = np (brow s k) := by unfold np; rw [dlR_o (by omega) (by omega), if_neg (by omega)]
  refine ⟨⟨?_, ?_, ?_, ?_, ?_⟩, e⟩
  · rw [e]; exact dlR_ok h.1 (by omega) hn
  · rw [e, enc]; exact m4
  · intro i hi
    rw [m6, m5, e]
    by_cases q : i < nc (brow s k) ∧ ss (brow s k) i p = true
    · rw [if_pos q, q.2]; simp [q.1]
    · rw [if_neg q, h.2.2.1 i hi]
      rw [os_congr (fun t' _ => sat_rc (dl_rc (by omega) hi n5 q) t')]
      rw [show (decide (i < nc (brow s k)) && ss (brow s k) i p) = false from by
        apply bf; rw [Bool.and_eq_true, decide_eq_true_iff]; exact q]
      simp
  · intro i hi
    rw [m7, m5, e]
    by_cases q : i < nc (brow s k) ∧ ss (brow s k) i p = true
    · rw [if_pos q, q.2]; simp [q.1]
    · rw [if_neg q, h.2.2.2.1 i hi]
      rw [show (decide (i < nc (brow s k)) && ss (brow s k) i p) = false from by
        apply bf; rw [Bool.and_eq_true, decide_eq_true_iff]; exact q]
      by_cases hb : bq (s k 5) i = true
      · have hin : i < nc (brow s k) := by
          apply Classical.byContradiction; intro z
          rw [bq_lt h.2.1 (by omega) (Nat.le_of_not_lt z)] at hb
          exact absurd hb (by decide)
        rw [os_congr (fun t' _ => kpt_rc (dl_rc (by omega) hi n5 q) (fun p' hp' hs' => by
          rw [enp] at hp'
          rw [dlR_o (by omega) (by omega)]
          by_cases z : 6 + p' = 6 + p
          · exfalso
            have : p' = p := by omega
            subst this
            apply q; refine ⟨hin, ?_⟩
            unfold ss at hs' ⊢
            rw [dlR_o (by omega) (by omega), if_neg (by omega)] at hs'
            exact hs'
          · rw [if_neg z]) t')]
        simp
      · simp [hb]
  · rw [m1 0 (by omega), m1 1 (by omega), m1 2 (by omega), m1 3 (by omega), m1 4 (by omega)]; exact h.2.2.2.2
theorem c26 {X : (Nat → Int) × Nat} {d : Nat} {s : mSt} {Q : mQ} {a0 : Nat} {x1 : Int} {x2 : Int} (h0 : isBd a0) (p1 : BI s a0 ∧ (0 ≤ x1 ∧ x1 < s a0 2) ∧ (1 ≤ x2 ∧ x2 ≤ 9)) (k : ∀ t : mSt, (BI t a0 ∧ brow t a0 = dlR (brow s a0) x1.toNat x2 ∧ fB s t a0) → Q none t) : Sp X (d + 1) 26 [mR a0, mI x1, mI x2] s Q := by
  obtain ⟨h, h1, h2⟩ := p1
  have h3 := bi_np h
  have h4 := bi_nc h
  have n5 := np_le h.1
  have n6 := nc_le h.1
  have hl := bd_lt h0
  obtain ⟨p, rfl⟩ := nat_of h1.1
  rw [tnc] at k
  have bS := okS h.1 (p := p) (by omega)
  have eS := biS h (p := p) (by omega)
  have ex : iMin (w32 (s (a0 + 1) p + x2)) 15 = dlS (brow s a0) p x2 := by
    rw [eS, w32_of (by omega)]; rfl
  have hss : ∀ t : mSt, (∀ b, ¬ (b = a0 ∨ b = a0 + 1 ∨ b = a0 + 8 ∨ b = a0 + 9) → t b = s b) → ∀ j : Nat, j < nc (brow s a0) → bq (t (a0 + 3) j) p = ss (brow s a0) j p := fun t ht j hj => by
    rw [ht _ (by omega), biP h hj]; rfl
  refine v26 h0 (fun y t => ∃ j : Nat, y = j ∧ j ≤ nc (brow s a0) ∧ dlM s t a0 p j (dlS (brow s a0) p x2)) (fun y _ => (6 - y).toNat) ?_ ?_ ?_ ?_ ?_ ?_ ?_
  · rintro _ t ⟨j, rfl, hj, hm⟩ hc
    have : j = nc (brow s a0) := by rw [hm.1 3 (by omega)] at hc; omega
    subst this
    have r := del_row h (by omega) (by omega) hl hm
    exact k _ ⟨r.1, r.2, fun b hb => hm.2.2.1 b (by omega)⟩
  · rintro _ t ⟨j, rfl, hj, hm⟩ hc
    rw [hm.1 3 (by omega)] at hc
    omega
  · rintro _ t ⟨j, rfl, hj, hm⟩ hc _
    rw [hm.1 3 (by omega)] at hc
    omega
  · rintro _ t ⟨j, rfl, hj, hm⟩ hc q
    rw [hm.1 3 (by omega)] at hc
    rw [tnc, tnc, hss t hm.2.2.1 j (by omega)] at q
    rw [tnc, w32_of (by omega)]
    obtain ⟨m1, m2, m3, m4, m5, m6, m7⟩ := hm
    have ⟨o1, o2⟩ := bit_out n6 m4 (show j < 6 by omega)
    refine ⟨⟨j + 1, by omega, by omega, ?_, ?_, ?_, ?_, ?_, ?_, ?_⟩, by omega⟩
    · intro i hi
      rw [uS_cell (by omega), uS_cell (by omega), uS_at, if_neg (by omega)]; exact m1 i hi
    · intro i
      rw [uS_cell (by omega), uS_cell (by omega), uS_cell (by omega)]; exact m2 i
    · intro b hb
      rw [uS_cell (by omega), uS_cell (by omega), uS_cell (by omega)]; exact m3 b hb
    · rw [uS_cell (by omega), uS_cell (by omega), uS_at, if_pos rfl]; exact o1
    · intro i
      rw [uS_cell (by omega), uS_cell (by omega), uS_at, if_pos rfl, o2, m5]
      by_cases e : i = j
      · subst e; rw [q]; simp
      · rw [show decide (i < j + 1) = decide (i < j) from by simp; omega]; simp [e]
    · intro i
      rw [uS_cell (by omega), uS_at]
      by_cases e : i = j
      · subst e; rw [if_pos rfl, if_pos ⟨by omega, q⟩]
      · rw [if_neg e, uS_cell (by omega), m6]
        by_cases z : i < j ∧ ss (brow s a0) i p = true
        · rw [if_pos z, if_pos ⟨by omega, z.2⟩]
        · rw [if_neg z, if_neg (fun w => z ⟨by omega, w.2⟩)]
    · intro i
      rw [uS_at]
      by_cases e : i = j
      · subst e; rw [if_pos rfl, if_pos ⟨by omega, q⟩]
      · rw [if_neg e, uS_cell (by omega), uS_cell (by omega), m7]
        by_cases z : i < j ∧ ss (brow s a0) i p = true
        · rw [if_pos z, if_pos ⟨by omega, z.2⟩]
        · rw [if_neg z, if_neg (fun w => z ⟨by omega, w.2⟩)]
  · rintro _ t ⟨j, rfl, hj, hm⟩ hc q
    rw [hm.1 3 (by omega)] at hc
    rw [tnc, tnc, hss t hm.2.2.1 j (by omega)] at q
    rw [w32_of (by omega)]
    obtain ⟨m1, m2, m3, m4, m5, m6, m7⟩ := hm
    have hz : ∀ i, (i < j + 1 ∧ ss (brow s a0) i p = true) ↔ (i < j ∧ ss (brow s a0) i p = true) := fun i => by
      constructor
      · rintro ⟨z1, z2⟩
        refine ⟨?_, z2⟩
        rcases Nat.lt_or_eq_of_le (Nat.le_of_lt_succ z1) with z | z
        · exact z
        · subst z; exact absurd z2 q
      · rintro ⟨z1, z2⟩; exact ⟨by omega, z2⟩
    refine ⟨⟨j + 1, by omega, by omega, m1, m2, m3, m4, ?_, ?_, ?_⟩, by omega⟩
    · intro i
      rw [m5]
      congr 2
      have := hz i
      rw [← decide_eq_true_iff (p := i < j + 1), ← decide_eq_true_iff (p := i < j), ← Bool.and_eq_true, ← Bool.and_eq_true] at this
      exact (Bool.eq_iff_iff.2 this).symm
    · intro i; rw [m6]; simp only [hz i]
    · intro i; rw [m7]; simp only [hz i]
  · omega
  · rw [tnc, ex]
    refine ⟨0, rfl, by omega, fun i hi => ?_, fun i => ?_, fun b hb => ?_, ?_, fun i => ?_, fun i => ?_, fun i => ?_⟩
    · rw [uS_cell (by omega)]
    · rw [uS_at]
    · rw [uS_cell (by omega)]
    · rw [uS_cell (by omega)]; exact h.2.1
    · rw [uS_cell (by omega)]; simp
    · rw [uS_cell (by omega)]; simp
    · rw [uS_cell (by omega)]; simp
/-- where it is most, the first -/
def am (f : Nat → Int) : Nat → Nat
  | 0 => 0
  | n + 1 => if f (am f n) < f n then n else am f n
theorem am_s (f : Nat → Int) (n : Nat) : am f (n + 1) = if f (am f n) < f n then n else am f n := rfl
theorem am_lt {f : Nat → Int} : ∀ {n : Nat}, am f n ≤ n
  | 0 => Nat.le_refl 0
  | n + 1 => by
    have := am_lt (f := f) (n := n)
    rw [am_s]; split <;> omega
theorem am_lt2 {f : Nat → Int} : ∀ {n : Nat}, 0 < n → am f n < n
  | 0, h => absurd h (by decide)
  | n + 1, _ => by
    have := am_lt (f := f) (n := n)
    rw [am_s]; split <;> omega
theorem am_mx {f : Nat → Int} (h : ∀ i, 0 ≤ f i) : ∀ {n : Nat}, 0 < n → f (am f n) = mx f n
  | 0, h => absurd h (by decide)
  | 1, _ => by
    have h0 := h 0
    rw [am_s, mx_s]
    simp only [am, mx]
    by_cases z : (0:Int) < f 0
    · simp [z]
    · simp [z]; omega
  | n + 2, _ => by
    have ih := am_mx h (n := n + 1) (by omega)
    rw [am_s, mx_s, ← ih]
    split <;> rfl
theorem v28 {X : (Nat → Int) × Nat} {d : Nat} {s : mSt} {Q : mQ} {a0 : Nat} {x1 : Int} (h0 : isBd a0)
  (I4 : Int → Int → Prop) (m4 : Int → Int → Nat)
  (z1 : ∀ y2 : Int, ∀ y3 : Int, I4 y2 y3 → 30 ≤ y3 → Q (some (mI y2)) s)
  (z2 : ∀ y2 : Int, ∀ y3 : Int, I4 y2 y3 → ¬ 30 ≤ y3 → BI s a0 ∧ (0 ≤ y3 ∧ y3 < 30) ∧ (1 ≤ x1 ∧ x1 ≤ 6))
  (z3 : ∀ y2 : Int, ∀ y3 : Int, I4 y2 y3 → ¬ 30 ≤ y3 → BI s a0 ∧ (0 ≤ y2 ∧ y2 < 30) ∧ (1 ≤ x1 ∧ x1 ≤ 6))
  (z4 : ∀ y2 : Int, ∀ y3 : Int, I4 y2 y3 → ¬ 30 ≤ y3 → ((cn (fun c => pl (brow s a0) c && kpt (brow s a0) c y3.toNat) (nc (brow s a0)) + x1 - 1) / x1) ≤ ((cn (fun c => pl (brow s a0) c && kpt (brow s a0) c y2.toNat) (nc (brow s a0)) + x1 - 1) / x1) → I4 y2 (w32 (y3 + 1)) ∧ m4 y2 (w32 (y3 + 1)) < m4 y2 y3)
  (z5 : ∀ y2 : Int, ∀ y3 : Int, I4 y2 y3 → ¬ 30 ≤ y3 → ¬ ((cn (fun c => pl (brow s a0) c && kpt (brow s a0) c y3.toNat) (nc (brow s a0)) + x1 - 1) / x1) ≤ ((cn (fun c => pl (brow s a0) c && kpt (brow s a0) c y2.toNat) (nc (brow s a0)) + x1 - 1) / x1) → I4 y3 (w32 (y3 + 1)) ∧ m4 y3 (w32 (y3 + 1)) < m4 y2 y3)
  (z6 : I4 0 1) :
  Sp X (d + 2) 28 [mR a0, mI x1] s Q := by
  have L : ∀ k : Nat, (∀ (y2 : Int) (y3 : Int), I4 y2 y3 → m4 y2 y3 < k → Wp X (d + 2) 28 4 [some (mR a0), some (mI x1), some (mI y2), some (mI y3)] [] s Q) := by
    intro k
    induction k with
    | zero => exact fun _ _ _ h => absurd h (Nat.not_lt_zero _)
    | succ k ih => exact fun y2 y3 hI hm => b28_4 h0 (fun q1 => b28_33 h0 (z1 y2 y3 hI q1)) (fun q2 => b28_10 h0 (c27 h0 (z2 y2 y3 hI q2) ⟨_, rfl, b28_16 h0 (c27 h0 (z3 y2 y3 hI q2) ⟨_, rfl, b28_22 h0 (fun q3 => b28_27 h0 (ih y2 (w32 (y3 + 1)) (z4 y2 y3 hI q2 q3).1 (Nat.lt_of_lt_of_le (z4 y2 y3 hI q2 q3).2 (Nat.le_of_lt_succ hm)))) (fun q4 => b28_25 h0 (b28_27 h0 (ih y3 (w32 (y3 + 1)) (z5 y2 y3 hI q2 q4).1 (Nat.lt_of_lt_of_le (z5 y2 y3 hI q2 q4).2 (Nat.le_of_lt_succ hm)))))⟩)⟩))
  exact e28 (b28_0 h0 ((L (m4 0 1 + 1)) 0 1 z6 (Nat.lt_succ_self _)))

theorem c28 {X : (Nat → Int) × Nat} {d : Nat} {s : mSt} {Q : mQ} {a0 : Nat} {x1 : Int} (h0 : isBd a0) (p1 : BI s a0 ∧ (1 ≤ x1 ∧ x1 ≤ 6)) (k : Q (some (mI (am (fun t => (cn (fun c => pl (brow s a0) c && kpt (brow s a0) c t) (nc (brow s a0)) + x1 - 1) / x1) 30 : Int))) s) : Sp X (d + 2) 28 [mR a0, mI x1] s Q := by
  obtain ⟨h, h1⟩ := p1
  refine v28 h0 (fun y2 y3 => ∃ j : Nat, y3 = j ∧ 1 ≤ j ∧ j ≤ 30 ∧ y2 = (am (fun t => (cn (fun c => pl (brow s a0) c && kpt (brow s a0) c t) (nc (brow s a0)) + x1 - 1) / x1) j : Int)) (fun _ y => (30 - y).toNat) ?_ ?_ ?_ ?_ ?_ ?_
  · rintro _ _ ⟨j, rfl, hj1, hj, rfl⟩ hc
    have : j = 30 := by omega
    subst this
    exact k
  · rintro _ _ ⟨j, rfl, hj1, hj, rfl⟩ hc
    exact ⟨h, by omega, h1⟩
  · rintro _ _ ⟨j, rfl, hj1, hj, rfl⟩ hc
    have b := am_lt2 (f := fun t => (cn (fun c => pl (brow s a0) c && kpt (brow s a0) c t) (nc (brow s a0)) + x1 - 1) / x1) (n := j) (by omega)
    exact ⟨h, by omega, h1⟩
  · rintro _ _ ⟨j, rfl, hj1, hj, rfl⟩ hc q
    rw [tnc, tnc] at q
    rw [w32_of (by omega)]
    refine ⟨⟨j + 1, by omega, by omega, by omega, ?_⟩, by omega⟩
    rw [am_s, if_neg (Int.not_lt.2 q)]
  · rintro _ _ ⟨j, rfl, hj1, hj, rfl⟩ hc q
    rw [tnc, tnc] at q
    rw [w32_of (by omega)]
    refine ⟨⟨j + 1, by omega, by omega, by omega, ?_⟩, by omega⟩
    rw [am_s, if_pos (Int.not_le.1 q)]
  · exact ⟨1, rfl, by omega, by omega, by simp [am]⟩
/-- begins of who is planned -/
def Pg (a : Rw) : Prop := ∀ c, c < nc a → pl a c = true → ∀ p, p < np a → ss a c p = true → 0 ≤ bg a c p
def mnp (a : Rw) (c c' t p : Nat) : Bool := (ss a c p && ss a c' p) && (decide (bg a c' p ≤ t) && decide ((t : Int) < bg a c p))
def mnm (a : Rw) (c c' t : Nat) : Bool := an (mnp a c c' t) (np a) && (!sat a c t && !sat a c' t)
theorem v29 {X : (Nat → Int) × Nat} {d : Nat} {s : mSt} {Q : mQ} {a0 : Nat} {x1 : Int} {x2 : Int} (h0 : isBd a0)
  (I5 : Int → Int → Prop) (m5 : Int → Int → Nat)
  (z1 : ∀ y3 : Int, ∀ y4 : Int, I5 y3 y4 → (s a0 2) ≤ y4 → 0 ≤ x1 ∧ x1 < 6)
  (z2 : ∀ y3 : Int, ∀ y4 : Int, I5 y3 y4 → (s a0 2) ≤ y4 → 0 ≤ x2 ∧ x2 < 6)
  (z3 : ∀ y3 : Int, ∀ y4 : Int, I5 y3 y4 → (s a0 2) ≤ y4 → Q (some (mI (iAnd (iAnd y3 (iXor (s (a0 + 8) x1.toNat) (-1))) (iXor (s (a0 + 8) x2.toNat) (-1))))) s)
  (z4 : ∀ y3 : Int, ∀ y4 : Int, I5 y3 y4 → ¬ (s a0 2) ≤ y4 → BI s a0 ∧ (0 ≤ x1 ∧ x1 < s a0 3) ∧ (0 ≤ y4 ∧ y4 < 5))
  (z5 : ∀ y3 : Int, ∀ y4 : Int, I5 y3 y4 → ¬ (s a0 2) ≤ y4 → ss (brow s a0) x1.toNat y4.toNat = true → BI s a0 ∧ (0 ≤ x2 ∧ x2 < s a0 3) ∧ (0 ≤ y4 ∧ y4 < 5))
  (z6 : ∀ y3 : Int, ∀ y4 : Int, I5 y3 y4 → ¬ (s a0 2) ≤ y4 → ss (brow s a0) x1.toNat y4.toNat = true → ss (brow s a0) x2.toNat y4.toNat = true → BI s a0 ∧ (0 ≤ x2 ∧ x2 < s a0 3) ∧ (0 ≤ y4 ∧ y4 < s a0 2) ∧ pl (brow s a0) x2.toNat = true)
  (z7 : ∀ y3 : Int, ∀ y4 : Int, I5 y3 y4 → ¬ (s a0 2) ≤ y4 → ss (brow s a0) x1.toNat y4.toNat = true → ss (brow s a0) x2.toNat y4.toNat = true → BI s a0 ∧ (0 ≤ x1 ∧ x1 < s a0 3) ∧ (0 ≤ y4 ∧ y4 < s a0 2) ∧ pl (brow s a0) x1.toNat = true)
  (z8 : ∀ y3 : Int, ∀ y4 : Int, I5 y3 y4 → ¬ (s a0 2) ≤ y4 → ss (brow s a0) x1.toNat y4.toNat = true → ss (brow s a0) x2.toNat y4.toNat = true → 0 ≤ (bg (brow s a0) x2.toNat y4.toNat) ∧ 0 ≤ (bg (brow s a0) x1.toNat y4.toNat))
  (z9 : ∀ y3 : Int, ∀ y4 : Int, I5 y3 y4 → ¬ (s a0 2) ≤ y4 → ss (brow s a0) x1.toNat y4.toNat = true → ss (brow s a0) x2.toNat y4.toNat = true → I5 (iOr y3 (os (fun t => decide ((bg (brow s a0) x2.toNat y4.toNat) ≤ (t : Int)) && decide ((t : Int) < (bg (brow s a0) x1.toNat y4.toNat))) 30)) (w32 (y4 + 1)) ∧ m5 (iOr y3 (os (fun t => decide ((bg (brow s a0) x2.toNat y4.toNat) ≤ (t : Int)) && decide ((t : Int) < (bg (brow s a0) x1.toNat y4.toNat))) 30)) (w32 (y4 + 1)) < m5 y3 y4)
  (z10 : ∀ y3 : Int, ∀ y4 : Int, I5 y3 y4 → ¬ (s a0 2) ≤ y4 → ss (brow s a0) x1.toNat y4.toNat = true → ¬ (ss (brow s a0) x2.toNat y4.toNat = true) → I5 y3 (w32 (y4 + 1)) ∧ m5 y3 (w32 (y4 + 1)) < m5 y3 y4)
  (z11 : ∀ y3 : Int, ∀ y4 : Int, I5 y3 y4 → ¬ (s a0 2) ≤ y4 → ¬ (ss (brow s a0) x1.toNat y4.toNat = true) → I5 y3 (w32 (y4 + 1)) ∧ m5 y3 (w32 (y4 + 1)) < m5 y3 y4)
  (z12 : I5 0 0) :
  Sp X (d + 2) 29 [mR a0, mI x1, mI x2] s Q := by
  have L : ∀ k : Nat, (∀ (y3 : Int) (y4 : Int), I5 y3 y4 → m5 y3 y4 < k → Wp X (d + 2) 29 5 [some (mR a0), some (mI x1), some (mI x2), some (mI y3), some (mI y4)] [] s Q) := by
    intro k
    induction k with
    | zero => exact fun _ _ _ h => absurd h (Nat.not_lt_zero _)
    | succ k ih => exact fun y3 y4 hI hm => b29_5 h0 (fun q1 => b29_60 h0 (z1 y3 y4 hI q1) (z2 y3 y4 hI q1) (z3 y3 y4 hI q1)) (fun q2 => b29_14 h0 (c12 h0 (z4 y3 y4 hI q2) (fun q3 => ⟨1, rfl, b29_21 h0 (fun q => absurd q (by decide)) (fun _ => b29_24 h0 (c12 h0 (z5 y3 y4 hI q2 q3) (fun q4 => ⟨1, rfl, b29_31 h0 (fun q => absurd q (by decide)) (fun _ => b29_34 h0 (c16 h0 (z6 y3 y4 hI q2 q3 q4) ⟨_, rfl, b29_42 h0 (c16 h0 (z7 y3 y4 hI q2 q3 q4) ⟨_, rfl, b29_49 h0 (c32 (z8 y3 y4 hI q2 q3 q4) ⟨_, rfl, b29_52 h0 (b29_54 h0 (ih (iOr y3 (os (fun t => decide ((bg (brow s a0) x2.toNat y4.toNat) ≤ (t : Int)) && decide ((t : Int) < (bg (brow s a0) x1.toNat y4.toNat))) 30)) (w32 (y4 + 1)) (z9 y3 y4 hI q2 q3 q4).1 (Nat.lt_of_lt_of_le (z9 y3 y4 hI q2 q3 q4).2 (Nat.le_of_lt_succ hm))))⟩)⟩)⟩))⟩) (fun q5 => ⟨0, rfl, b29_31 h0 (fun _ => b29_54 h0 (ih y3 (w32 (y4 + 1)) (z10 y3 y4 hI q2 q3 q5).1 (Nat.lt_of_lt_of_le (z10 y3 y4 hI q2 q3 q5).2 (Nat.le_of_lt_succ hm)))) (fun q => absurd q (by decide))⟩)))⟩) (fun q6 => ⟨0, rfl, b29_21 h0 (fun _ => b29_54 h0 (ih y3 (w32 (y4 + 1)) (z11 y3 y4 hI q2 q6).1 (Nat.lt_of_lt_of_le (z11 y3 y4 hI q2 q6).2 (Nat.le_of_lt_succ hm)))) (fun q => absurd q (by decide))⟩)))
  exact e29 (b29_0 h0 ((L (m5 0 0 + 1)) 0 0 z12 (Nat.lt_succ_self _)))

theorem c29 {X : (Nat → Int) × Nat} {d : Nat} {s : mSt} {Q : mQ} {a0 : Nat} {x1 : Int} {x2 : Int} (h0 : isBd a0) (p1 : BI s a0 ∧ Pg (brow s a0) ∧ ((0 ≤ x1 ∧ x1 < s a0 3) ∧ pl (brow s a0) x1.toNat = true) ∧ (0 ≤ x2 ∧ x2 < s a0 3) ∧ pl (brow s a0) x2.toNat = true) (k : Q (some (mI (os (mnm (brow s a0) x1.toNat x2.toNat) 30))) s) : Sp X (d + 2) 29 [mR a0, mI x1, mI x2] s Q := by
  obtain ⟨h, hg, ⟨h1, h1p⟩, h2, h2p⟩ := p1
  have h3 := bi_np h
  have h4 := bi_nc h
  have n5 := np_le h.1
  have n6 := nc_le h.1
  have i3r : ∀ j : Nat, i3 (os (fun t => an (mnp (brow s a0) x1.toNat x2.toNat t) j) 30) := fun j => by
    have := os_30 (f := fun t => an (mnp (brow s a0) x1.toNat x2.toNat t) j) (n := 30) (by decide); unfold i3; omega
  have stay : ∀ j : Nat, j < np (brow s a0) → ¬ (ss (brow s a0) x1.toNat j = true ∧ ss (brow s a0) x2.toNat j = true) → os (fun t => an (mnp (brow s a0) x1.toNat x2.toNat t) (j + 1)) 30 = os (fun t => an (mnp (brow s a0) x1.toNat x2.toNat t) j) 30 := fun j hj q => by
    apply os_congr
    intro t _
    rw [an_s, show mnp (brow s a0) x1.toNat x2.toNat t j = false from by
      apply bf; unfold mnp; rw [Bool.and_eq_true, Bool.and_eq_true]; exact fun z => q z.1]
    simp
  refine v29 h0 (fun y3 y4 => ∃ j : Nat, y4 = j ∧ j ≤ np (brow s a0) ∧ y3 = os (fun t => an (mnp (brow s a0) x1.toNat x2.toNat t) j) 30) (fun _ y => (5 - y).toNat) ?_ ?_ ?_ ?_ ?_ ?_ ?_ ?_ ?_ ?_ ?_ ?_
  · rintro _ _ ⟨j, rfl, hj, rfl⟩ hc
    omega
  · rintro _ _ ⟨j, rfl, hj, rfl⟩ hc
    omega
  · rintro _ _ ⟨j, rfl, hj, rfl⟩ hc
    have : j = np (brow s a0) := by omega
    subst this
    have b := os_30 (f := mnm (brow s a0) x1.toNat x2.toNat) (n := 30) (by decide)
    have e : iAnd (iAnd (os (fun t => an (mnp (brow s a0) x1.toNat x2.toNat t) (np (brow s a0))) 30) (iXor (s (a0 + 8) x1.toNat) (-1))) (iXor (s (a0 + 8) x2.toNat) (-1)) = os (mnm (brow s a0) x1.toNat x2.toNat) 30 := by
      apply bq_ext (i3_and _ _) (by unfold i3; omega)
      intro i hi
      rw [bq_and, bq_and, bq_not, bq_not, os_bq (by decide), os_bq (by decide)]
      by_cases q : i < 30
      · rw [satb h (by omega) q, satb h (by omega) q, h1p, h2p]
        unfold mnm
        simp [q, hi, Bool.and_assoc]
      · simp [q]
    rw [e]; exact k
  · rintro _ _ ⟨j, rfl, hj, rfl⟩ hc
    exact ⟨h, h1, by omega⟩
  · rintro _ _ ⟨j, rfl, hj, rfl⟩ hc _
    exact ⟨h, h2, by omega⟩
  · rintro _ _ ⟨j, rfl, hj, rfl⟩ hc _ _
    exact ⟨h, h2, by omega, h2p⟩
  · rintro _ _ ⟨j, rfl, hj, rfl⟩ hc _ _
    exact ⟨h, h1, by omega, h1p⟩
  · rintro _ _ ⟨j, rfl, hj, rfl⟩ hc q1 q2
    rw [tnc] at q1 q2 ⊢
    exact ⟨hg _ (by omega) h2p _ (by omega) q2, hg _ (by omega) h1p _ (by omega) q1⟩
  · rintro _ _ ⟨j, rfl, hj, rfl⟩ hc q1 q2
    rw [tnc] at q1 q2 ⊢
    rw [w32_of (by omega)]
    refine ⟨⟨j + 1, by omega, by omega, ?_⟩, by omega⟩
    apply bq_ext (i3_or _ _) (i3r _)
    intro i hi
    rw [bq_or, os_bq (by decide), os_bq (by decide), os_bq (by decide), an_s]
    unfold mnp
    rw [q1, q2]
    by_cases q : i < 30
    · simp [q]
    · simp [q]
  · rintro _ _ ⟨j, rfl, hj, rfl⟩ hc q1 q2
    rw [tnc] at q1 q2
    rw [w32_of (by omega)]
    exact ⟨⟨j + 1, by omega, by omega, (stay j (by omega) (fun z => q2 z.2)).symm⟩, by omega⟩
  · rintro _ _ ⟨j, rfl, hj, rfl⟩ hc q1
    rw [tnc] at q1
    rw [w32_of (by omega)]
    exact ⟨⟨j + 1, by omega, by omega, (stay j (by omega) (fun z => q1 z.1)).symm⟩, by omega⟩
  · exact ⟨0, rfl, by omega, by
      have : ∀ n : Nat, os (fun _ => an (mnp (brow s a0) x1.toNat x2.toNat 0) 0) n = 0 := fun n => by
        induction n with
        | zero => rfl
        | succ n ih => rw [os_s, ih]; rfl
      exact (this 30).symm⟩
/-! pence -/
theorem sm_ge {f : Nat → Int} : ∀ {n i : Nat}, (∀ j, j < n → 0 ≤ f j) → i < n → f i ≤ sm f n
  | 0, _, _, h => absurd h (by omega)
  | n + 1, i, h0, h => by
    rw [sm_s]
    have hn := h0 n (by omega)
    rcases Nat.lt_or_eq_of_le (Nat.le_of_lt_succ h) with z | z
    · have := sm_ge (f := f) (n := n) (i := i) (fun j hj => h0 j (by omega)) z
      omega
    · subst z
      have : ∀ m, (∀ j, j < m → 0 ≤ f j) → 0 ≤ sm f m := fun m => by
        induction m with
        | zero => intro _; exact Int.le_refl 0
        | succ m ih => intro hm; rw [sm_s]; have := ih (fun j hj => hm j (by omega)); have := hm m (by omega); omega
      have := this i (fun j hj => h0 j (by omega))
      omega
theorem wrk_pos {a : Rw} (h : Ok a) {c : Nat} (hc : c < nc a) : 1 ≤ wrk a c := by
  have n5 := np_le h
  have n6 := nc_le h
  have h1 := h.2.1 c hc
  have hx : ∃ p, p < np a ∧ ss a c p = true := by
    apply Classical.byContradiction; intro hn
    have : a (117 + c) = 0 := by
      have b := okP h (p := c) (by omega)
      apply bq_ext (by unfold i3; omega) (by unfold i3; omega)
      intro i hi
      rw [bq_0]
      by_cases q : i < np a
      · exact bf (fun z => hn ⟨i, q, z⟩)
      · exact bq_lt ⟨by omega, h1.2⟩ (by omega) (by omega)
    omega
  obtain ⟨p, hp, hs⟩ := hx
  have := sm_ge (f := fun p => if ss a c p = true then tm a c p else 0) (n := np a) (i := p) (fun j hj => by
    have := tm_bd h (c := c) (p := j) (by omega) (by omega)
    try dsimp only
    split <;> omega) hp
  try dsimp only at this
  rw [if_pos hs] at this
  have := tm_pos h (c := c) (by omega) hp
  unfold wrk
  omega
def alW (a : Rw) : Int := sm (fun i => if pl a i = true then wrk a i else 0) (nc a)
def lfW (a : Rw) (m : Int) (n : Nat) : Int := m - sm (fun i => if pl a i = true then m * wrk a i / alW a else 0) n
def ahB (a : Rw) (m : Int) (c i : Nat) : Bool := pl a i && (decide (m * wrk a c % alW a < m * wrk a i % alW a) || (decide (m * wrk a i % alW a = m * wrk a c % alW a) && decide (i < c)))
def shA (a : Rw) (m : Int) (c : Nat) : Int := m * wrk a c / alW a + (if cn (ahB a m c) (nc a) < lfW a m (nc a) then 1 else 0)
theorem alW_bd {a : Rw} (h : Ok a) (j : Nat) (hj : j ≤ 6) : 0 ≤ sm (fun i => if pl a i = true then wrk a i else 0) j ∧ sm (fun i => if pl a i = true then wrk a i else 0) j ≤ 360 := by
  have := sm_bd (f := fun i => if pl a i = true then wrk a i else 0) (b := 60) (n := j) (fun i hi => by
    have := wrk_bd h (c := i) (by omega)
    try dsimp only
    split <;> omega)
  omega
theorem alW_pos {a : Rw} (h : Ok a) {c : Nat} (hc : c < nc a) (hp : pl a c = true) : 1 ≤ alW a := by
  have n6 := nc_le h
  have := sm_ge (f := fun i => if pl a i = true then wrk a i else 0) (n := nc a) (i := c) (fun j hj => by
    have := wrk_bd h (c := j) (by omega)
    try dsimp only
    split <;> omega) hc
  try dsimp only at this
  rw [if_pos hp] at this
  have := wrk_pos h hc
  unfold alW
  omega
theorem prt_bd {a : Rw} (h : Ok a) {m : Int} (hm : 0 ≤ m ∧ m ≤ 9999) {i : Nat} (hi : i < 6) : 0 ≤ m * wrk a i ∧ m * wrk a i ≤ 599940 := by
  have b := wrk_bd h hi
  refine ⟨Int.mul_nonneg hm.1 b.1, ?_⟩
  exact Int.le_trans (Int.mul_le_mul hm.2 b.2 b.1 (by omega)) (by omega)
theorem dv_bd {x y : Int} (h1 : 0 ≤ x ∧ x ≤ 599940) (h2 : 1 ≤ y) : (0 ≤ x / y ∧ x / y ≤ 599940) ∧ (0 ≤ x % y ∧ x % y < y) ∧ w32 (Int.tdiv (w32 x) y) = x / y ∧ Int.tmod (w32 x) y = x % y := by
  have q1 := Int.ediv_nonneg (a := x) (b := y) h1.1 (by omega)
  have q2 := Int.ediv_le_self (a := x) y h1.1
  have q3 := Int.emod_nonneg x (show y ≠ 0 by omega)
  have q4 := Int.emod_lt_of_pos x (show 0 < y by omega)
  have e : w32 x = x := w32_of (by omega)
  refine ⟨⟨q1, by omega⟩, ⟨q3, q4⟩, ?_, ?_⟩
  · rw [e, Int.tdiv_eq_ediv_of_nonneg h1.1, w32_of (by omega)]
  · rw [e, Int.tmod_eq_emod_of_nonneg h1.1]
theorem lfW_bd {a : Rw} (h : Ok a) {m : Int} (hm : 0 ≤ m ∧ m ≤ 9999) (hw : 1 ≤ alW a) {j : Nat} (hj : j ≤ 6) : -3599640 ≤ lfW a m j ∧ lfW a m j ≤ 9999 := by
  have := sm_bd (f := fun i => if pl a i = true then m * wrk a i / alW a else 0) (b := 599940) (n := j) (fun i hi => by
    have := dv_bd (prt_bd h hm (show i < 6 by omega)) hw
    try dsimp only
    split <;> omega)
  unfold lfW
  omega
theorem v30 {X : (Nat → Int) × Nat} {d : Nat} {s : mSt} {Q : mQ} {a0 : Nat} {x1 : Int} {x2 : Int} (h0 : isBd a0)
  (I5 : Int → Int → Prop) (m5 : Int → Int → Nat)
  (I68 : Int → Int → Int → Int → Int → Prop) (m68 : Int → Int → Int → Int → Int → Nat)
  (z1 : ∀ y3 : Int, ∀ y4 : Int, I5 y3 y4 → (s a0 3) ≤ y4 → ¬ y3 = 0 → BI s a0 ∧ (0 ≤ x2 ∧ x2 < s a0 3))
  (z2 : ∀ y3 : Int, ∀ y4 : Int, I5 y3 y4 → (s a0 3) ≤ y4 → ¬ y3 = 0 → y3 ≠ 0)
  (z3 : ∀ y3 : Int, ∀ y4 : Int, I5 y3 y4 → (s a0 3) ≤ y4 → ¬ y3 = 0 → I68 y3 x1 0 (Int.tmod (w32 (x1 * (wrk (brow s a0) x2.toNat))) y3) 0 ∧ m68 y3 x1 0 (Int.tmod (w32 (x1 * (wrk (brow s a0) x2.toNat))) y3) 0 < m5 y3 y4)
  (z4 : ∀ y3 : Int, ∀ y4 : Int, I5 y3 y4 → (s a0 3) ≤ y4 → y3 = 0 → Q (some (mI 0)) s)
  (z5 : ∀ y3 : Int, ∀ y4 : Int, I5 y3 y4 → ¬ (s a0 3) ≤ y4 → BI s a0)
  (z6 : ∀ y3 : Int, ∀ y4 : Int, I5 y3 y4 → ¬ (s a0 3) ≤ y4 → ((0 ≤ y4 ∧ y4 < s a0 3) ∧ pl (brow s a0) y4.toNat = true) → BI s a0 ∧ (0 ≤ y4 ∧ y4 < s a0 3))
  (z7 : ∀ y3 : Int, ∀ y4 : Int, I5 y3 y4 → ¬ (s a0 3) ≤ y4 → ((0 ≤ y4 ∧ y4 < s a0 3) ∧ pl (brow s a0) y4.toNat = true) → I5 (w32 (y3 + (wrk (brow s a0) y4.toNat))) (w32 (y4 + 1)) ∧ m5 (w32 (y3 + (wrk (brow s a0) y4.toNat))) (w32 (y4 + 1)) < m5 y3 y4)
  (z8 : ∀ y3 : Int, ∀ y4 : Int, I5 y3 y4 → ¬ (s a0 3) ≤ y4 → (¬ ((0 ≤ y4 ∧ y4 < s a0 3) ∧ pl (brow s a0) y4.toNat = true)) → I5 (w32 (y3 + 0)) (w32 (y4 + 1)) ∧ m5 (w32 (y3 + 0)) (w32 (y4 + 1)) < m5 y3 y4)
  (z9 : ∀ y3 : Int, ∀ y4 : Int, ∀ y5 : Int, ∀ y6 : Int, ∀ y7 : Int, I68 y3 y4 y5 y6 y7 → (s a0 3) ≤ y7 → BI s a0 ∧ (0 ≤ x2 ∧ x2 < s a0 3))
  (z10 : ∀ y3 : Int, ∀ y4 : Int, ∀ y5 : Int, ∀ y6 : Int, ∀ y7 : Int, I68 y3 y4 y5 y6 y7 → (s a0 3) ≤ y7 → y3 ≠ 0)
  (z11 : ∀ y3 : Int, ∀ y4 : Int, ∀ y5 : Int, ∀ y6 : Int, ∀ y7 : Int, I68 y3 y4 y5 y6 y7 → (s a0 3) ≤ y7 → y4 ≤ y5 → Q (some (mI (w32 ((w32 (Int.tdiv (w32 (x1 * (wrk (brow s a0) x2.toNat))) y3)) + 0)))) s)
  (z12 : ∀ y3 : Int, ∀ y4 : Int, ∀ y5 : Int, ∀ y6 : Int, ∀ y7 : Int, I68 y3 y4 y5 y6 y7 → (s a0 3) ≤ y7 → ¬ y4 ≤ y5 → Q (some (mI (w32 ((w32 (Int.tdiv (w32 (x1 * (wrk (brow s a0) x2.toNat))) y3)) + 1)))) s)
  (z13 : ∀ y3 : Int, ∀ y4 : Int, ∀ y5 : Int, ∀ y6 : Int, ∀ y7 : Int, I68 y3 y4 y5 y6 y7 → ¬ (s a0 3) ≤ y7 → BI s a0)
  (z14 : ∀ y3 : Int, ∀ y4 : Int, ∀ y5 : Int, ∀ y6 : Int, ∀ y7 : Int, I68 y3 y4 y5 y6 y7 → ¬ (s a0 3) ≤ y7 → ((0 ≤ y7 ∧ y7 < s a0 3) ∧ pl (brow s a0) y7.toNat = true) → BI s a0 ∧ (0 ≤ y7 ∧ y7 < s a0 3))
  (z15 : ∀ y3 : Int, ∀ y4 : Int, ∀ y5 : Int, ∀ y6 : Int, ∀ y7 : Int, I68 y3 y4 y5 y6 y7 → ¬ (s a0 3) ≤ y7 → ((0 ≤ y7 ∧ y7 < s a0 3) ∧ pl (brow s a0) y7.toNat = true) → y3 ≠ 0)
  (z16 : ∀ y3 : Int, ∀ y4 : Int, ∀ y5 : Int, ∀ y6 : Int, ∀ y7 : Int, I68 y3 y4 y5 y6 y7 → ¬ (s a0 3) ≤ y7 → ((0 ≤ y7 ∧ y7 < s a0 3) ∧ pl (brow s a0) y7.toNat = true) → y6 < (Int.tmod (w32 (x1 * (wrk (brow s a0) y7.toNat))) y3) → I68 y3 (w32 (y4 - (w32 (Int.tdiv (w32 (x1 * (wrk (brow s a0) y7.toNat))) y3)))) (w32 (y5 + 1)) y6 (w32 (y7 + 1)) ∧ m68 y3 (w32 (y4 - (w32 (Int.tdiv (w32 (x1 * (wrk (brow s a0) y7.toNat))) y3)))) (w32 (y5 + 1)) y6 (w32 (y7 + 1)) < m68 y3 y4 y5 y6 y7)
  (z17 : ∀ y3 : Int, ∀ y4 : Int, ∀ y5 : Int, ∀ y6 : Int, ∀ y7 : Int, I68 y3 y4 y5 y6 y7 → ¬ (s a0 3) ≤ y7 → ((0 ≤ y7 ∧ y7 < s a0 3) ∧ pl (brow s a0) y7.toNat = true) → ¬ y6 < (Int.tmod (w32 (x1 * (wrk (brow s a0) y7.toNat))) y3) → y3 ≠ 0)
  (z18 : ∀ y3 : Int, ∀ y4 : Int, ∀ y5 : Int, ∀ y6 : Int, ∀ y7 : Int, I68 y3 y4 y5 y6 y7 → ¬ (s a0 3) ≤ y7 → ((0 ≤ y7 ∧ y7 < s a0 3) ∧ pl (brow s a0) y7.toNat = true) → ¬ y6 < (Int.tmod (w32 (x1 * (wrk (brow s a0) y7.toNat))) y3) → ¬ (Int.tmod (w32 (x1 * (wrk (brow s a0) y7.toNat))) y3) = y6 → I68 y3 (w32 (y4 - (w32 (Int.tdiv (w32 (x1 * (wrk (brow s a0) y7.toNat))) y3)))) y5 y6 (w32 (y7 + 1)) ∧ m68 y3 (w32 (y4 - (w32 (Int.tdiv (w32 (x1 * (wrk (brow s a0) y7.toNat))) y3)))) y5 y6 (w32 (y7 + 1)) < m68 y3 y4 y5 y6 y7)
  (z19 : ∀ y3 : Int, ∀ y4 : Int, ∀ y5 : Int, ∀ y6 : Int, ∀ y7 : Int, I68 y3 y4 y5 y6 y7 → ¬ (s a0 3) ≤ y7 → ((0 ≤ y7 ∧ y7 < s a0 3) ∧ pl (brow s a0) y7.toNat = true) → ¬ y6 < (Int.tmod (w32 (x1 * (wrk (brow s a0) y7.toNat))) y3) → (Int.tmod (w32 (x1 * (wrk (brow s a0) y7.toNat))) y3) = y6 → x2 ≤ y7 → I68 y3 (w32 (y4 - (w32 (Int.tdiv (w32 (x1 * (wrk (brow s a0) y7.toNat))) y3)))) y5 y6 (w32 (y7 + 1)) ∧ m68 y3 (w32 (y4 - (w32 (Int.tdiv (w32 (x1 * (wrk (brow s a0) y7.toNat))) y3)))) y5 y6 (w32 (y7 + 1)) < m68 y3 y4 y5 y6 y7)
  (z20 : ∀ y3 : Int, ∀ y4 : Int, ∀ y5 : Int, ∀ y6 : Int, ∀ y7 : Int, I68 y3 y4 y5 y6 y7 → ¬ (s a0 3) ≤ y7 → ((0 ≤ y7 ∧ y7 < s a0 3) ∧ pl (brow s a0) y7.toNat = true) → ¬ y6 < (Int.tmod (w32 (x1 * (wrk (brow s a0) y7.toNat))) y3) → (Int.tmod (w32 (x1 * (wrk (brow s a0) y7.toNat))) y3) = y6 → ¬ x2 ≤ y7 → I68 y3 (w32 (y4 - (w32 (Int.tdiv (w32 (x1 * (wrk (brow s a0) y7.toNat))) y3)))) (w32 (y5 + 1)) y6 (w32 (y7 + 1)) ∧ m68 y3 (w32 (y4 - (w32 (Int.tdiv (w32 (x1 * (wrk (brow s a0) y7.toNat))) y3)))) (w32 (y5 + 1)) y6 (w32 (y7 + 1)) < m68 y3 y4 y5 y6 y7)
  (z21 : ∀ y3 : Int, ∀ y4 : Int, ∀ y5 : Int, ∀ y6 : Int, ∀ y7 : Int, I68 y3 y4 y5 y6 y7 → ¬ (s a0 3) ≤ y7 → (¬ ((0 ≤ y7 ∧ y7 < s a0 3) ∧ pl (brow s a0) y7.toNat = true)) → I68 y3 y4 y5 y6 (w32 (y7 + 1)) ∧ m68 y3 y4 y5 y6 (w32 (y7 + 1)) < m68 y3 y4 y5 y6 y7)
  (z22 : I5 0 0) :
  Sp X (d + 2) 30 [mR a0, mI x1, mI x2] s Q := by
  have L : ∀ k : Nat, (∀ (y3 : Int) (y4 : Int) (l5 : Option mV) (l6 : Option mV) (l7 : Option mV) (l8 : Option mV), I5 y3 y4 → m5 y3 y4 < k → Wp X (d + 2) 30 5 [some (mR a0), some (mI x1), some (mI x2), some (mI y3), some (mI y4), l5, l6, l7, l8] [] s Q) ∧ (∀ (y3 : Int) (y4 : Int) (y5 : Int) (y6 : Int) (y7 : Int) (l8 : Option mV), I68 y3 y4 y5 y6 y7 → m68 y3 y4 y5 y6 y7 < k → Wp X (d + 2) 30 68 [some (mR a0), some (mI x1), some (mI x2), some (mI y3), some (mI y4), some (mI y5), some (mI y6), some (mI y7), l8] [] s Q) := by
    intro k
    induction k with
    | zero => exact ⟨fun _ _ _ _ _ _ _ h => absurd h (Nat.not_lt_zero _), fun _ _ _ _ _ _ _ h => absurd h (Nat.not_lt_zero _)⟩
    | succ k ih => exact ⟨fun y3 y4 l5 l6 l7 l8 hI hm => b30_5 h0 (fun q1 => b30_42 h0 (fun q2 => b30_48 h0 (c15 h0 (z1 y3 y4 hI q1 q2) ⟨_, rfl, b30_60 h0 (z2 y3 y4 hI q1 q2) (ih.2 y3 x1 0 (Int.tmod (w32 (x1 * (wrk (brow s a0) x2.toNat))) y3) 0 l8 (z3 y3 y4 hI q1 q2).1 (Nat.lt_of_lt_of_le (z3 y3 y4 hI q1 q2).2 (Nat.le_of_lt_succ hm)))⟩)) (fun q3 => b30_46 h0 (z4 y3 y4 hI q1 q3))) (fun q4 => b30_14 h0 (c9 h0 (z5 y3 y4 hI q4) (fun q5 => ⟨1, rfl, b30_21 h0 (fun q => absurd q (by decide)) (fun _ => b30_24 h0 (c15 h0 (z6 y3 y4 hI q4 q5) ⟨_, rfl, b30_30 h0 (b30_34 h0 (ih.1 (w32 (y3 + (wrk (brow s a0) y4.toNat))) (w32 (y4 + 1)) l5 l6 l7 l8 (z7 y3 y4 hI q4 q5).1 (Nat.lt_of_lt_of_le (z7 y3 y4 hI q4 q5).2 (Nat.le_of_lt_succ hm))))⟩))⟩) (fun q6 => ⟨0, rfl, b30_21 h0 (fun _ => b30_33 h0 (b30_34 h0 (ih.1 (w32 (y3 + 0)) (w32 (y4 + 1)) l5 l6 l7 l8 (z8 y3 y4 hI q4 q6).1 (Nat.lt_of_lt_of_le (z8 y3 y4 hI q4 q6).2 (Nat.le_of_lt_succ hm))))) (fun q => absurd q (by decide))⟩))), fun y3 y4 y5 y6 y7 l8 hI hm => b30_68 h0 (fun q7 => b30_138 h0 (c15 h0 (z9 y3 y4 y5 y6 y7 hI q7) ⟨_, rfl, b30_144 h0 (z10 y3 y4 y5 y6 y7 hI q7) (fun q8 => b30_158 h0 (b30_159 h0 (z11 y3 y4 y5 y6 y7 hI q7 q8))) (fun q9 => b30_154 h0 (b30_159 h0 (z12 y3 y4 y5 y6 y7 hI q7 q9)))⟩)) (fun q10 => b30_77 h0 (c9 h0 (z13 y3 y4 y5 y6 y7 hI q10) (fun q11 => ⟨1, rfl, b30_83 h0 (fun q => absurd q (by decide)) (fun _ => b30_86 h0 (c15 h0 (z14 y3 y4 y5 y6 y7 hI q10 q11) ⟨_, rfl, b30_93 h0 (z15 y3 y4 y5 y6 y7 hI q10 q11) (z15 y3 y4 y5 y6 y7 hI q10 q11) (fun q12 => b30_129 h0 (b30_132 h0 (ih.2 y3 (w32 (y4 - (w32 (Int.tdiv (w32 (x1 * (wrk (brow s a0) y7.toNat))) y3)))) (w32 (y5 + 1)) y6 (w32 (y7 + 1)) (some (mI (w32 (x1 * (wrk (brow s a0) y7.toNat))))) (z16 y3 y4 y5 y6 y7 hI q10 q11 q12).1 (Nat.lt_of_lt_of_le (z16 y3 y4 y5 y6 y7 hI q10 q11 q12).2 (Nat.le_of_lt_succ hm))))) (fun q13 => b30_114 h0 (z17 y3 y4 y5 y6 y7 hI q10 q11 q13) (fun q14 => b30_132 h0 (ih.2 y3 (w32 (y4 - (w32 (Int.tdiv (w32 (x1 * (wrk (brow s a0) y7.toNat))) y3)))) y5 y6 (w32 (y7 + 1)) (some (mI (w32 (x1 * (wrk (brow s a0) y7.toNat))))) (z18 y3 y4 y5 y6 y7 hI q10 q11 q13 q14).1 (Nat.lt_of_lt_of_le (z18 y3 y4 y5 y6 y7 hI q10 q11 q13 q14).2 (Nat.le_of_lt_succ hm)))) (fun q15 => b30_123 h0 (fun q16 => b30_132 h0 (ih.2 y3 (w32 (y4 - (w32 (Int.tdiv (w32 (x1 * (wrk (brow s a0) y7.toNat))) y3)))) y5 y6 (w32 (y7 + 1)) (some (mI (w32 (x1 * (wrk (brow s a0) y7.toNat))))) (z19 y3 y4 y5 y6 y7 hI q10 q11 q13 q15 q16).1 (Nat.lt_of_lt_of_le (z19 y3 y4 y5 y6 y7 hI q10 q11 q13 q15 q16).2 (Nat.le_of_lt_succ hm)))) (fun q17 => b30_129 h0 (b30_132 h0 (ih.2 y3 (w32 (y4 - (w32 (Int.tdiv (w32 (x1 * (wrk (brow s a0) y7.toNat))) y3)))) (w32 (y5 + 1)) y6 (w32 (y7 + 1)) (some (mI (w32 (x1 * (wrk (brow s a0) y7.toNat))))) (z20 y3 y4 y5 y6 y7 hI q10 q11 q13 q15 q17).1 (Nat.lt_of_lt_of_le (z20 y3 y4 y5 y6 y7 hI q10 q11 q13 q15 q17).2 (Nat.le_of_lt_succ hm)))))))⟩))⟩) (fun q18 => ⟨0, rfl, b30_83 h0 (fun _ => b30_132 h0 (ih.2 y3 y4 y5 y6 (w32 (y7 + 1)) l8 (z21 y3 y4 y5 y6 y7 hI q10 q18).1 (Nat.lt_of_lt_of_le (z21 y3 y4 y5 y6 y7 hI q10 q18).2 (Nat.le_of_lt_succ hm)))) (fun q => absurd q (by decide))⟩)))⟩
  exact e30 (b30_0 h0 ((L (m5 0 0 + 1)).1 0 0 none none none none z22 (Nat.lt_succ_self _)))

theorem c30 {X : (Nat → Int) × Nat} {d : Nat} {s : mSt} {Q : mQ} {a0 : Nat} {x1 : Int} {x2 : Int} (h0 : isBd a0) (p1 : BI s a0 ∧ (0 ≤ x1 ∧ x1 ≤ 9999) ∧ (0 ≤ x2 ∧ x2 < s a0 3) ∧ pl (brow s a0) x2.toNat = true) (k : Q (some (mI (shA (brow s a0) x1 x2.toNat))) s) : Sp X (d + 2) 30 [mR a0, mI x1, mI x2] s Q := by
  obtain ⟨h, hm, h2, hp⟩ := p1
  have h4 := bi_nc h
  have n6 := nc_le h.1
  obtain ⟨c, rfl⟩ := nat_of h2.1
  rw [tnc] at hp k
  have hw := alW_pos h.1 (c := c) (by omega) hp
  have down := dv_bd (prt_bd h.1 hm (show c < 6 by omega)) hw
  have d0 : alW (brow s a0) ≠ 0 := by omega
  refine v30 h0 (fun y3 y4 => ∃ j : Nat, y4 = j ∧ j ≤ nc (brow s a0) ∧ y3 = sm (fun i => if pl (brow s a0) i = true then wrk (brow s a0) i else 0) j) (fun _ y => (20 - y).toNat)
    (fun y3 y4 y5 y6 y7 => ∃ j : Nat, y7 = j ∧ j ≤ nc (brow s a0) ∧ y3 = alW (brow s a0) ∧ y4 = lfW (brow s a0) x1 j ∧ y5 = cn (ahB (brow s a0) x1 c) j ∧ y6 = x1 * wrk (brow s a0) c % alW (brow s a0)) (fun _ _ _ _ y => (6 - y).toNat) ?_ ?_ ?_ ?_ ?_ ?_ ?_ ?_ ?_ ?_ ?_ ?_ ?_ ?_ ?_ ?_ ?_ ?_ ?_ ?_ ?_ ?_
  · rintro _ _ ⟨j, rfl, hj, rfl⟩ hc _
    exact ⟨h, h2⟩
  · rintro _ _ ⟨j, rfl, hj, rfl⟩ hc q
    exact q
  · rintro _ _ ⟨j, rfl, hj, rfl⟩ hc q
    have : j = nc (brow s a0) := by omega
    subst this
    refine ⟨⟨0, rfl, by omega, rfl, ?_, rfl, ?_⟩, by omega⟩
    · simp [lfW, sm]
    · rw [tnc]; exact down.2.2.2
  · rintro _ _ ⟨j, rfl, hj, rfl⟩ hc q
    have : j = nc (brow s a0) := by omega
    subst this
    exact absurd q d0
  · rintro _ _ ⟨j, rfl, hj, rfl⟩ hc
    exact h
  · rintro _ _ ⟨j, rfl, hj, rfl⟩ hc _
    exact ⟨h, by omega⟩
  · rintro _ _ ⟨j, rfl, hj, rfl⟩ hc q
    rw [tnc] at q ⊢
    have b := alW_bd h.1 j (by omega)
    have b2 := wrk_bd h.1 (c := j) (by omega)
    rw [w32_of (by omega), w32_of (by omega)]
    refine ⟨⟨j + 1, by omega, by omega, ?_⟩, by omega⟩
    rw [sm_s, if_pos q.2]
  · rintro _ _ ⟨j, rfl, hj, rfl⟩ hc q
    rw [tnc] at q
    have b := alW_bd h.1 j (by omega)
    rw [w32_of (by omega), w32_of (by omega)]
    refine ⟨⟨j + 1, by omega, by omega, ?_⟩, by omega⟩
    rw [sm_s, if_neg (fun z => q ⟨by omega, z⟩)]
  · rintro _ _ _ _ _ ⟨j, rfl, hj, rfl, rfl, rfl, rfl⟩ hc
    exact ⟨h, h2⟩
  · rintro _ _ _ _ _ ⟨j, rfl, hj, rfl, rfl, rfl, rfl⟩ hc
    exact d0
  · rintro _ _ _ _ _ ⟨j, rfl, hj, rfl, rfl, rfl, rfl⟩ hc q
    have : j = nc (brow s a0) := by omega
    subst this
    rw [tnc, down.2.2.1, w32_of (by omega)]
    unfold shA at k
    rw [if_neg (by omega)] at k
    exact k
  · rintro _ _ _ _ _ ⟨j, rfl, hj, rfl, rfl, rfl, rfl⟩ hc q
    have : j = nc (brow s a0) := by omega
    subst this
    rw [tnc, down.2.2.1, w32_of (by omega)]
    unfold shA at k
    rw [if_pos (by omega)] at k
    exact k
  · rintro _ _ _ _ _ ⟨j, rfl, hj, rfl, rfl, rfl, rfl⟩ hc
    exact h
  · rintro _ _ _ _ _ ⟨j, rfl, hj, rfl, rfl, rfl, rfl⟩ hc _
    exact ⟨h, by omega⟩
  · rintro _ _ _ _ _ ⟨j, rfl, hj, rfl, rfl, rfl, rfl⟩ hc _
    exact d0
  · rintro _ _ _ _ _ ⟨j, rfl, hj, rfl, rfl, rfl, rfl⟩ hc q q2
    rw [tnc] at q q2 ⊢
    have dj := dv_bd (prt_bd h.1 hm (show j < 6 by omega)) hw
    have bl := lfW_bd h.1 hm hw (show j ≤ 6 by omega)
    have bc := cn_le (f := ahB (brow s a0) x1 c) (n := j)
    rw [dj.2.2.2] at q2
    rw [dj.2.2.1, w32_of (by omega), w32_of (by omega), w32_of (by omega)]
    refine ⟨⟨j + 1, by omega, by omega, rfl, ?_, ?_, rfl⟩, by omega⟩
    · unfold lfW; rw [sm_s, if_pos q.2]; omega
    · rw [cn_s, if_pos (by unfold ahB; rw [q.2]; simp [q2])]
  · rintro _ _ _ _ _ ⟨j, rfl, hj, rfl, rfl, rfl, rfl⟩ hc _ _
    exact d0
  · rintro _ _ _ _ _ ⟨j, rfl, hj, rfl, rfl, rfl, rfl⟩ hc q q2 q3
    rw [tnc] at q q2 q3 ⊢
    have dj := dv_bd (prt_bd h.1 hm (show j < 6 by omega)) hw
    have bl := lfW_bd h.1 hm hw (show j ≤ 6 by omega)
    have bc := cn_le (f := ahB (brow s a0) x1 c) (n := j)
    rw [dj.2.2.2] at q2 q3
    rw [dj.2.2.1, w32_of (by omega), w32_of (by omega)]
    refine ⟨⟨j + 1, by omega, by omega, rfl, ?_, ?_, rfl⟩, by omega⟩
    · unfold lfW; rw [sm_s, if_pos q.2]; omega
    · rw [cn_s, if_neg (by unfold ahB; rw [q.2]; simp [q2, q3]), Int.add_zero]
  · rintro _ _ _ _ _ ⟨j, rfl, hj, rfl, rfl, rfl, rfl⟩ hc q q2 q3 q4
    rw [tnc] at q q2 q3 ⊢
    have dj := dv_bd (prt_bd h.1 hm (show j < 6 by omega)) hw
    have bl := lfW_bd h.1 hm hw (show j ≤ 6 by omega)
    have bc := cn_le (f := ahB (brow s a0) x1 c) (n := j)
    rw [dj.2.2.2] at q2 q3
    rw [dj.2.2.1, w32_of (by omega), w32_of (by omega)]
    refine ⟨⟨j + 1, by omega, by omega, rfl, ?_, ?_, rfl⟩, by omega⟩
    · unfold lfW; rw [sm_s, if_pos q.2]; omega
    · rw [cn_s, if_neg (by unfold ahB; rw [q.2]; simp [q2, show ¬ j < c by omega]), Int.add_zero]
  · rintro _ _ _ _ _ ⟨j, rfl, hj, rfl, rfl, rfl, rfl⟩ hc q q2 q3 q4
    rw [tnc] at q q2 q3 ⊢
    have dj := dv_bd (prt_bd h.1 hm (show j < 6 by omega)) hw
    have bl := lfW_bd h.1 hm hw (show j ≤ 6 by omega)
    have bc := cn_le (f := ahB (brow s a0) x1 c) (n := j)
    rw [dj.2.2.2] at q2 q3
    rw [dj.2.2.1, w32_of (by omega), w32_of (by omega), w32_of (by omega)]
    refine ⟨⟨j + 1, by omega, by omega, rfl, ?_, ?_, rfl⟩, by omega⟩
    · unfold lfW; rw [sm_s, if_pos q.2]; omega
    · rw [cn_s, if_pos (by unfold ahB; rw [q.2]; simp [q3, show j < c by omega])]
  · rintro _ _ _ _ _ ⟨j, rfl, hj, rfl, rfl, rfl, rfl⟩ hc q
    rw [tnc] at q
    rw [w32_of (by omega)]
    have np' : pl (brow s a0) j = false := bf (fun z => q ⟨by omega, z⟩)
    refine ⟨⟨j + 1, by omega, by omega, rfl, ?_, ?_, rfl⟩, by omega⟩
    · unfold lfW; rw [sm_s, if_neg (by rw [np']; decide)]; omega
    · rw [cn_s, if_neg (by unfold ahB; rw [np']; simp), Int.add_zero]
  · exact ⟨0, rfl, by omega, rfl⟩
