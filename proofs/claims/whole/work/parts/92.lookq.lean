/-! where to look next -/
/-- how many are alike, of those that fit, behind the one -/
def alF (g : Nat → Bool) (F : Nat → Int) (i n : Nat) : Int := if g i = true then cn (fun j => g j && decide (F i = F j)) n else 0
def mal (g : Nat → Bool) (F : Nat → Nat → Int) (n t : Nat) : Int := mx (fun i => alF g (fun j => F j t) i n) n
theorem alF_b {g : Nat → Bool} {F : Nat → Int} {i n : Nat} : 0 ≤ alF g F i n ∧ alF g F i n ≤ n := by
  unfold alF; split
  · exact cn_le
  · omega
theorem mx_b {f : Nat → Int} {m : Int} : ∀ {n : Nat}, (∀ i, i < n → f i ≤ m) → 0 ≤ m → 0 ≤ mx f n ∧ mx f n ≤ m
  | 0, _, hm => ⟨Int.le_refl 0, hm⟩
  | n + 1, h, hm => by
    have ih := mx_b (n := n) (fun i hi => h i (by omega)) hm
    have := h n (by omega)
    rw [mx_s]; split <;> omega
theorem mx_at {f : Nat → Int} : ∀ {n : Nat}, ∀ i, i < n → f i ≤ mx f n
  | n + 1, i, hi => by
    rw [mx_s]
    by_cases z : i = n
    · subst z; split <;> omega
    · have := mx_at (f := f) (n := n) i (by omega)
      split <;> omega
theorem mx_trim {f : Nat → Int} {n : Nat} : ∀ {k : Nat}, n ≤ k → (∀ i, n ≤ i → i < k → f i = 0) → mx f k = mx f n
  | 0, h, _ => by rw [show n = 0 by omega]
  | k + 1, h, hz => by
    by_cases z : n = k + 1
    · rw [z]
    · have ih := mx_trim (f := f) (n := n) (k := k) (by omega) (fun i h1 h2 => hz i h1 (by omega))
      have z0 := hz k (by omega) (by omega)
      have p : 0 ≤ mx f n := mx_ge
      rw [mx_s, z0, ih, if_neg (by omega)]
theorem cn_trim {f : Nat → Bool} {n : Nat} : ∀ {k : Nat}, n ≤ k → (∀ i, n ≤ i → i < k → f i = false) → cn f k = cn f n
  | 0, h, _ => by rw [show n = 0 by omega]
  | k + 1, h, hz => by
    by_cases z : n = k + 1
    · rw [z]
    · rw [cn_s, cn_trim (f := f) (n := n) (k := k) (by omega) (fun i h1 h2 => hz i h1 (by omega)), hz k (by omega) (by omega)]; simp
theorem mal_congr {g g' : Nat → Bool} {F F' : Nat → Nat → Int} {n t : Nat} (hg : ∀ i, i < n → g i = g' i) (hF : ∀ i, i < n → g i = true → F i t = F' i t) : mal g F n t = mal g' F' n t := by
  unfold mal
  refine mx_congr (fun i hi => ?_)
  try dsimp only
  unfold alF
  rw [← hg i hi]
  by_cases z : g i = true
  · rw [if_pos z, if_pos z]
    refine cn_congr (fun j hj => ?_)
    rw [← hg j hj]
    by_cases w : g j = true
    · show (g j && decide (F i t = F j t)) = (g j && decide (F' i t = F' j t))
      rw [hF i hi z, hF j hj w]
    · rw [Bool.eq_false_iff.2 w, Bool.false_and, Bool.false_and]
  · rw [if_neg z, if_neg z]
theorem mal_trim {g : Nat → Bool} {F : Nat → Nat → Int} {n k t : Nat} (h : n ≤ k) (hz : ∀ i, n ≤ i → i < k → g i = false) : mal g F k t = mal g F n t := by
  unfold mal
  rw [mx_trim (n := n) (k := k) h (fun i h1 h2 => by show alF g (fun j => F j t) i k = 0; unfold alF; rw [hz i h1 h2]; rfl)]
  refine mx_congr (fun i hi => ?_)
  try dsimp only
  unfold alF
  by_cases z : g i = true
  · rw [if_pos z, if_pos z]
    exact cn_trim h (fun j h1 h2 => by rw [hz j h1 h2, Bool.false_and])
  · rw [if_neg z, if_neg z]
theorem mal_b {g : Nat → Bool} {F : Nat → Nat → Int} {n t : Nat} : 0 ≤ mal g F n t ∧ mal g F n t ≤ n := mx_b (fun _ _ => (alF_b).2) (by omega)
theorem mal_0 {g : Nat → Bool} {F : Nat → Nat → Int} {n t : Nat} (h : fd g n < 0) : mal g F n t = 0 := by
  have hz := fd_neg.1 h
  rw [mal_trim (n := 0) (k := n) (by omega) (fun i _ hi => hz i hi)]; rfl
theorem cn_pos {f : Nat → Bool} : ∀ {n : Nat}, ∀ i, i < n → f i = true → 1 ≤ cn f n
  | n + 1, i, hi, h => by
    rw [cn_s]
    have := (cn_le (f := f) (n := n)).1
    by_cases z : i = n
    · subst z; rw [if_pos h]; omega
    · have := cn_pos (f := f) (n := n) i (by omega) h
      split <;> omega
theorem mal_1 {g : Nat → Bool} {F : Nat → Nat → Int} {n t : Nat} (h : ¬ fd g n < 0) : 1 ≤ mal g F n t := by
  have b := fd_ge (f := g) (n := n)
  have q := fd_spec (f := g) (n := n) (by omega)
  have r := mx_at (f := fun i => alF g (fun j => F j t) i n) (n := n) (fd g n).toNat (by omega)
  have : 1 ≤ alF g (fun j => F j t) (fd g n).toNat n := by
    unfold alF
    rw [if_pos q.1]
    exact cn_pos (fd g n).toNat (by omega) (by rw [q.1]; simp)
  try dsimp only at r
  unfold mal
  omega
def sgQ (s : mSt) : Prop := ∀ i, i < 7 → s 68 i = ((69 + i : Nat) : Int)
theorem fs_a {i : Nat} (h : i < 7) : aS S0 (69 + i) 22 30 := (show ∀ i : Fin 7, kS S0 (69 + i.val) = 22 ∧ nS S0 (69 + i.val) = 30 by decide +kernel) ⟨i, h⟩
theorem v109 {X : (Nat → Int) × Nat} {d : Nat} {s : mSt} {Q : mQ} {x1 : Int} {x2 : Int}
  (I5 : Int → Int → Prop) (m5 : Int → Int → Nat)
  (I21 : Int → Int → Int → Int → Prop) (m21 : Int → Int → Int → Int → Nat)
  (z1 : ∀ y3 : Int, ∀ y4 : Int, I5 y3 y4 → 7 ≤ y4 → Q (some (mI y3)) s)
  (z2 : ∀ y3 : Int, ∀ y4 : Int, I5 y3 y4 → ¬ 7 ≤ y4 → I21 y3 y4 0 0 ∧ m21 y3 y4 0 0 < m5 y3 y4)
  (z3 : ∀ y3 : Int, ∀ y4 : Int, ∀ y5 : Int, ∀ y6 : Int, I21 y3 y4 y5 y6 → 7 ≤ y6 → I5 (iMax y3 y5) (w32 (y4 + 1)) ∧ m5 (iMax y3 y5) (w32 (y4 + 1)) < m21 y3 y4 y5 y6)
  (z4 : ∀ y3 : Int, ∀ y4 : Int, ∀ y5 : Int, ∀ y6 : Int, I21 y3 y4 y5 y6 → ¬ 7 ≤ y6 → ¬ (iAnd (iShr x1 y4) 1) = 1 → I21 y3 y4 y5 (w32 (y6 + 1)) ∧ m21 y3 y4 y5 (w32 (y6 + 1)) < m21 y3 y4 y5 y6)
  (z5 : ∀ y3 : Int, ∀ y4 : Int, ∀ y5 : Int, ∀ y6 : Int, I21 y3 y4 y5 y6 → ¬ 7 ≤ y6 → (iAnd (iShr x1 y4) 1) = 1 → ¬ (iAnd (iShr x1 y6) 1) = 1 → I21 y3 y4 y5 (w32 (y6 + 1)) ∧ m21 y3 y4 y5 (w32 (y6 + 1)) < m21 y3 y4 y5 y6)
  (z6 : ∀ y3 : Int, ∀ y4 : Int, ∀ y5 : Int, ∀ y6 : Int, I21 y3 y4 y5 y6 → ¬ 7 ≤ y6 → (iAnd (iShr x1 y4) 1) = 1 → (iAnd (iShr x1 y6) 1) = 1 → aS S0 (s 68 y4.toNat).toNat 22 30)
  (z7 : ∀ y3 : Int, ∀ y4 : Int, ∀ y5 : Int, ∀ y6 : Int, I21 y3 y4 y5 y6 → ¬ 7 ≤ y6 → (iAnd (iShr x1 y4) 1) = 1 → (iAnd (iShr x1 y6) 1) = 1 → aS S0 (s 68 y6.toNat).toNat 22 30)
  (z8 : ∀ y3 : Int, ∀ y4 : Int, ∀ y5 : Int, ∀ y6 : Int, I21 y3 y4 y5 y6 → ¬ 7 ≤ y6 → (iAnd (iShr x1 y4) 1) = 1 → (iAnd (iShr x1 y6) 1) = 1 → 0 ≤ y4 ∧ y4 < 7)
  (z9 : ∀ y3 : Int, ∀ y4 : Int, ∀ y5 : Int, ∀ y6 : Int, I21 y3 y4 y5 y6 → ¬ 7 ≤ y6 → (iAnd (iShr x1 y4) 1) = 1 → (iAnd (iShr x1 y6) 1) = 1 → s 68 y4.toNat = (((s 68 y4.toNat).toNat : Nat) : Int))
  (z10 : ∀ y3 : Int, ∀ y4 : Int, ∀ y5 : Int, ∀ y6 : Int, I21 y3 y4 y5 y6 → ¬ 7 ≤ y6 → (iAnd (iShr x1 y4) 1) = 1 → (iAnd (iShr x1 y6) 1) = 1 → 0 ≤ x2 ∧ x2 < 30)
  (z11 : ∀ y3 : Int, ∀ y4 : Int, ∀ y5 : Int, ∀ y6 : Int, I21 y3 y4 y5 y6 → ¬ 7 ≤ y6 → (iAnd (iShr x1 y4) 1) = 1 → (iAnd (iShr x1 y6) 1) = 1 → 0 ≤ y6 ∧ y6 < 7)
  (z12 : ∀ y3 : Int, ∀ y4 : Int, ∀ y5 : Int, ∀ y6 : Int, I21 y3 y4 y5 y6 → ¬ 7 ≤ y6 → (iAnd (iShr x1 y4) 1) = 1 → (iAnd (iShr x1 y6) 1) = 1 → s 68 y6.toNat = (((s 68 y6.toNat).toNat : Nat) : Int))
  (z13 : ∀ y3 : Int, ∀ y4 : Int, ∀ y5 : Int, ∀ y6 : Int, I21 y3 y4 y5 y6 → ¬ 7 ≤ y6 → (iAnd (iShr x1 y4) 1) = 1 → (iAnd (iShr x1 y6) 1) = 1 → ¬ (s (s 68 y4.toNat).toNat x2.toNat) = (s (s 68 y6.toNat).toNat x2.toNat) → I21 y3 y4 y5 (w32 (y6 + 1)) ∧ m21 y3 y4 y5 (w32 (y6 + 1)) < m21 y3 y4 y5 y6)
  (z14 : ∀ y3 : Int, ∀ y4 : Int, ∀ y5 : Int, ∀ y6 : Int, I21 y3 y4 y5 y6 → ¬ 7 ≤ y6 → (iAnd (iShr x1 y4) 1) = 1 → (iAnd (iShr x1 y6) 1) = 1 → (s (s 68 y4.toNat).toNat x2.toNat) = (s (s 68 y6.toNat).toNat x2.toNat) → I21 y3 y4 (w32 (y5 + 1)) (w32 (y6 + 1)) ∧ m21 y3 y4 (w32 (y5 + 1)) (w32 (y6 + 1)) < m21 y3 y4 y5 y6)
  (z15 : I5 0 0) :
  Sp X (d + 1) 109 [mR 53, mI x1, mI x2] s Q := by
  have L : ∀ k : Nat, (∀ (y3 : Int) (y4 : Int) (l5 : Option mV) (l6 : Option mV) (l7 : Option mV), I5 y3 y4 → m5 y3 y4 < k → Wp X (d + 1) 109 5 [some (mR 53), some (mI x1), some (mI x2), some (mI y3), some (mI y4), l5, l6, l7] [] s Q) ∧ (∀ (y3 : Int) (y4 : Int) (y5 : Int) (y6 : Int) (l7 : Option mV), I21 y3 y4 y5 y6 → m21 y3 y4 y5 y6 < k → Wp X (d + 1) 109 21 [some (mR 53), some (mI x1), some (mI x2), some (mI y3), some (mI y4), some (mI y5), some (mI y6), l7] [] s Q) := by
    intro k
    induction k with
    | zero => exact ⟨fun _ _ _ _ _ _ h => absurd h (Nat.not_lt_zero _), fun _ _ _ _ _ _ h => absurd h (Nat.not_lt_zero _)⟩
    | succ k ih => exact ⟨fun y3 y4 l5 l6 l7 hI hm => b109_5 (fun q1 => b109_106 (z1 y3 y4 hI q1)) (fun q2 => b109_15 (ih.2 y3 y4 0 0 l7 (z2 y3 y4 hI q2).1 (Nat.lt_of_lt_of_le (z2 y3 y4 hI q2).2 (Nat.le_of_lt_succ hm)))), fun y3 y4 y5 y6 l7 hI hm => b109_21 (fun q3 => b109_93 (ih.1 (iMax y3 y5) (w32 (y4 + 1)) (some (mI y5)) (some (mI y6)) l7 (z3 y3 y4 y5 y6 hI q3).1 (Nat.lt_of_lt_of_le (z3 y3 y4 y5 y6 hI q3).2 (Nat.le_of_lt_succ hm)))) (fun q4 => b109_31 (fun q5 => b109_55 (b109_56 (fun _ => b109_87 (ih.2 y3 y4 y5 (w32 (y6 + 1)) (some (mI 0)) (z4 y3 y4 y5 y6 hI q4 q5).1 (Nat.lt_of_lt_of_le (z4 y3 y4 y5 y6 hI q4 q5).2 (Nat.le_of_lt_succ hm)))) (fun q => absurd q (by decide)))) (fun q6 => b109_41 (fun q7 => b109_55 (b109_56 (fun _ => b109_87 (ih.2 y3 y4 y5 (w32 (y6 + 1)) (some (mI 0)) (z5 y3 y4 y5 y6 hI q4 q6 q7).1 (Nat.lt_of_lt_of_le (z5 y3 y4 y5 y6 hI q4 q6 q7).2 (Nat.le_of_lt_succ hm)))) (fun q => absurd q (by decide)))) (fun q8 => b109_51 (b109_56 (fun q => absurd q (by decide)) (fun _ => b109_63 (r1 := (s 68 y4.toNat).toNat) (r2 := (s 68 y6.toNat).toNat) (z6 y3 y4 y5 y6 hI q4 q6 q8) (z7 y3 y4 y5 y6 hI q4 q6 q8) (z8 y3 y4 y5 y6 hI q4 q6 q8) (z9 y3 y4 y5 y6 hI q4 q6 q8) (z10 y3 y4 y5 y6 hI q4 q6 q8) (z11 y3 y4 y5 y6 hI q4 q6 q8) (z12 y3 y4 y5 y6 hI q4 q6 q8) (z10 y3 y4 y5 y6 hI q4 q6 q8) (fun q9 => b109_87 (ih.2 y3 y4 y5 (w32 (y6 + 1)) (some (mI 1)) (z13 y3 y4 y5 y6 hI q4 q6 q8 q9).1 (Nat.lt_of_lt_of_le (z13 y3 y4 y5 y6 hI q4 q6 q8 q9).2 (Nat.le_of_lt_succ hm)))) (fun q10 => b109_84 (b109_87 (ih.2 y3 y4 (w32 (y5 + 1)) (w32 (y6 + 1)) (some (mI 1)) (z14 y3 y4 y5 y6 hI q4 q6 q8 q10).1 (Nat.lt_of_lt_of_le (z14 y3 y4 y5 y6 hI q4 q6 q8 q10).2 (Nat.le_of_lt_succ hm))))))))))⟩
  exact e109 (b109_0 ((L (m5 0 0 + 1)).1 0 0 none none none z15 (Nat.lt_succ_self _)))

theorem c109 {X : (Nat → Int) × Nat} {d : Nat} {s : mSt} {Q : mQ} {x1 : Int} {x2 : Int} (p1 : sgQ s ∧ (0 ≤ x2 ∧ x2 < 30)) (k : Q (some (mI (mal (bq x1) (fun i t => s (69 + i) t) 7 x2.toNat))) s) : Sp X (d + 1) 109 [mR 53, mI x1, mI x2] s Q := by
  obtain ⟨hs, hx⟩ := p1
  let g := bq x1
  let F : Nat → Int := fun i => s (69 + i) x2.toNat
  let al : Nat → Nat → Int := fun i j => if g i = true then cn (fun j => g j && decide (F i = F j)) j else 0
  have ab : ∀ i j, 0 ≤ al i j ∧ al i j ≤ j := fun i j => alF_b (g := g) (F := F) (i := i) (n := j)
  let M : Nat → Int := mx (fun i => al i 7)
  have Ms : ∀ i, M (i + 1) = if M i < al i 7 then al i 7 else M i := fun i => rfl
  let J : Int → Int → Prop := fun y3 y4 => ∃ i : Nat, y4 = i ∧ i ≤ 7 ∧ y3 = M i
  let K : Int → Int → Int → Int → Prop := fun y3 y4 y5 y6 => ∃ i j : Nat, y4 = i ∧ i < 7 ∧ y3 = M i ∧ y6 = j ∧ j ≤ 7 ∧ y5 = al i j
  have bi : ∀ i : Nat, i < 7 → (iAnd (iShr x1 (i : Int)) 1 = 1 ↔ g i = true) := fun i hi => by
    rw [bt_iff _ (by omega)]; unfold bt; rw [tnc]
  have al0 : ∀ i j, ¬ (g i = true ∧ g j = true ∧ F i = F j) → al i (j + 1) = al i j := fun i j h => by
    show (if g i = true then cn (fun j => g j && decide (F i = F j)) (j + 1) else 0) = if g i = true then cn (fun j => g j && decide (F i = F j)) j else 0
    by_cases z : g i = true
    · rw [if_pos z, if_pos z, cn_s, if_neg (by simp; intro w1 w2; exact h ⟨z, w1, w2⟩), Int.add_zero]
    · rw [if_neg z, if_neg z]
  have al1 : ∀ i j, g i = true → g j = true → F i = F j → al i (j + 1) = al i j + 1 := fun i j h1 h2 h3 => by
    show (if g i = true then cn (fun j => g j && decide (F i = F j)) (j + 1) else 0) = (if g i = true then cn (fun j => g j && decide (F i = F j)) j else 0) + 1
    rw [if_pos h1, if_pos h1, cn_s, if_pos (by simp [h2, h3])]
  have nx : ∀ i j : Nat, i < 7 → j < 7 → ¬ (g i = true ∧ g j = true ∧ F i = F j) → K (M i) (i : Int) (al i j) (w32 ((j : Int) + 1)) ∧ (80 - 10 * (i : Int) - w32 ((j : Int) + 1)).toNat < (80 - 10 * (i : Int) - (j : Int)).toNat := fun i j hi hj h => by
    rw [w32_of (by omega)]
    exact ⟨⟨i, j + 1, rfl, hi, rfl, by omega, by omega, (al0 i j h).symm⟩, by omega⟩
  have rw6 : ∀ i : Nat, i < 7 → (s 68 (i : Int).toNat).toNat = 69 + i := fun i hi => by rw [tnc, hs i hi, tnc]
  refine v109 J (fun _ y => (81 - 10 * y).toNat) K (fun _ y4 _ y6 => (80 - 10 * y4 - y6).toNat) ?_ ?_ ?_ ?_ ?_ ?_ ?_ ?_ ?_ ?_ ?_ ?_ ?_ ?_ ?_
  · rintro _ _ ⟨i, rfl, hi, rfl⟩ hc
    have : i = 7 := by omega
    subst this
    exact k
  · rintro _ _ ⟨i, rfl, hi, rfl⟩ hc
    refine ⟨⟨i, 0, rfl, by omega, rfl, rfl, by omega, ?_⟩, by omega⟩
    show 0 = if g i = true then cn (fun j => g j && decide (F i = F j)) 0 else 0
    split <;> rfl
  · rintro _ _ _ _ ⟨i, j, rfl, hi, rfl, rfl, hj, rfl⟩ hc
    have : j = 7 := by omega
    subst this
    rw [w32_of (by omega)]
    refine ⟨⟨i + 1, by omega, by omega, ?_⟩, by omega⟩
    rw [Ms]
    unfold iMax
    split <;> first | rfl | omega | (split <;> omega)
  · rintro _ _ _ _ ⟨i, j, rfl, hi, rfl, rfl, hj, rfl⟩ hc hz
    exact nx i j hi (by omega) (fun w => hz ((bi i hi).2 w.1))
  · rintro _ _ _ _ ⟨i, j, rfl, hi, rfl, rfl, hj, rfl⟩ hc hz hz2
    exact nx i j hi (by omega) (fun w => hz2 ((bi j (by omega)).2 w.2.1))
  · rintro _ _ _ _ ⟨i, j, rfl, hi, rfl, rfl, hj, rfl⟩ hc hz hz2
    rw [rw6 i hi]; exact fs_a hi
  · rintro _ _ _ _ ⟨i, j, rfl, hi, rfl, rfl, hj, rfl⟩ hc hz hz2
    rw [rw6 j (by omega)]; exact fs_a (by omega)
  · rintro _ _ _ _ ⟨i, j, rfl, hi, rfl, rfl, hj, rfl⟩ hc hz hz2
    omega
  · rintro _ _ _ _ ⟨i, j, rfl, hi, rfl, rfl, hj, rfl⟩ hc hz hz2
    rw [tnc, hs i hi, tnc]
  · rintro _ _ _ _ ⟨i, j, rfl, hi, rfl, rfl, hj, rfl⟩ hc hz hz2
    exact hx
  · rintro _ _ _ _ ⟨i, j, rfl, hi, rfl, rfl, hj, rfl⟩ hc hz hz2
    omega
  · rintro _ _ _ _ ⟨i, j, rfl, hi, rfl, rfl, hj, rfl⟩ hc hz hz2
    rw [tnc, hs j (by omega), tnc]
  · rintro _ _ _ _ ⟨i, j, rfl, hi, rfl, rfl, hj, rfl⟩ hc hz hz2 hn
    rw [rw6 i hi, rw6 j (by omega)] at hn
    exact nx i j hi (by omega) (fun w => hn w.2.2)
  · rintro _ _ _ _ ⟨i, j, rfl, hi, rfl, rfl, hj, rfl⟩ hc hz hz2 hn
    rw [rw6 i hi, rw6 j (by omega)] at hn
    have b := ab i j
    rw [w32_of (x := (j : Int) + 1) (by omega), w32_of (by omega)]
    exact ⟨⟨i, j + 1, rfl, hi, rfl, by omega, by omega, (al1 i j ((bi i hi).1 hz) ((bi j (by omega)).1 hz2) hn).symm⟩, by omega⟩
  · exact ⟨0, rfl, by omega, rfl⟩
theorem v298 {X : (Nat → Int) × Nat} {d : Nat} {s : mSt} {Q : mQ} {x1 : Int}
  (I4 : Int → Int → Prop) (m4 : Int → Int → Nat)
  (I18 : Int → Int → Int → Int → Prop) (m18 : Int → Int → Int → Int → Nat)
  (z1 : ∀ y2 : Int, ∀ y3 : Int, I4 y2 y3 → (s 407 2) < y3 → Q (some (mI y2)) s)
  (z2 : ∀ y2 : Int, ∀ y3 : Int, I4 y2 y3 → ¬ (s 407 2) < y3 → I18 y2 y3 0 0 ∧ m18 y2 y3 0 0 < m4 y2 y3)
  (z3 : ∀ y2 : Int, ∀ y3 : Int, ∀ y4 : Int, ∀ y5 : Int, I18 y2 y3 y4 y5 → (s 407 2) < y5 → y4 ≤ y2 → I4 y2 (w32 (y3 + 1)) ∧ m4 y2 (w32 (y3 + 1)) < m18 y2 y3 y4 y5)
  (z4 : ∀ y2 : Int, ∀ y3 : Int, ∀ y4 : Int, ∀ y5 : Int, I18 y2 y3 y4 y5 → (s 407 2) < y5 → ¬ y4 ≤ y2 → I4 y4 (w32 (y3 + 1)) ∧ m4 y4 (w32 (y3 + 1)) < m18 y2 y3 y4 y5)
  (z5 : ∀ y2 : Int, ∀ y3 : Int, ∀ y4 : Int, ∀ y5 : Int, I18 y2 y3 y4 y5 → ¬ (s 407 2) < y5 → 0 ≤ y3 ∧ y3 < 7)
  (z6 : ∀ y2 : Int, ∀ y3 : Int, ∀ y4 : Int, ∀ y5 : Int, I18 y2 y3 y4 y5 → ¬ (s 407 2) < y5 → (s 434 y3.toNat) = 0 → y4 ≤ y2 → I4 y2 (w32 (y3 + 1)) ∧ m4 y2 (w32 (y3 + 1)) < m18 y2 y3 y4 y5)
  (z7 : ∀ y2 : Int, ∀ y3 : Int, ∀ y4 : Int, ∀ y5 : Int, I18 y2 y3 y4 y5 → ¬ (s 407 2) < y5 → (s 434 y3.toNat) = 0 → ¬ y4 ≤ y2 → I4 y4 (w32 (y3 + 1)) ∧ m4 y4 (w32 (y3 + 1)) < m18 y2 y3 y4 y5)
  (z8 : ∀ y2 : Int, ∀ y3 : Int, ∀ y4 : Int, ∀ y5 : Int, I18 y2 y3 y4 y5 → ¬ (s 407 2) < y5 → ¬ (s 434 y3.toNat) = 0 → 0 ≤ y5 ∧ y5 < 7)
  (z9 : ∀ y2 : Int, ∀ y3 : Int, ∀ y4 : Int, ∀ y5 : Int, I18 y2 y3 y4 y5 → ¬ (s 407 2) < y5 → ¬ (s 434 y3.toNat) = 0 → (s 434 y5.toNat) = 0 → I18 y2 y3 (w32 (y4 + 0)) (w32 (y5 + 1)) ∧ m18 y2 y3 (w32 (y4 + 0)) (w32 (y5 + 1)) < m18 y2 y3 y4 y5)
  (z10 : ∀ y2 : Int, ∀ y3 : Int, ∀ y4 : Int, ∀ y5 : Int, I18 y2 y3 y4 y5 → ¬ (s 407 2) < y5 → ¬ (s 434 y3.toNat) = 0 → ¬ (s 434 y5.toNat) = 0 → 0 ≤ (w32 ((w32 (30 * y3)) + x1)) ∧ (w32 ((w32 (30 * y3)) + x1)) < 210)
  (z11 : ∀ y2 : Int, ∀ y3 : Int, ∀ y4 : Int, ∀ y5 : Int, I18 y2 y3 y4 y5 → ¬ (s 407 2) < y5 → ¬ (s 434 y3.toNat) = 0 → ¬ (s 434 y5.toNat) = 0 → 0 ≤ (w32 ((w32 (30 * y5)) + x1)) ∧ (w32 ((w32 (30 * y5)) + x1)) < 210)
  (z12 : ∀ y2 : Int, ∀ y3 : Int, ∀ y4 : Int, ∀ y5 : Int, I18 y2 y3 y4 y5 → ¬ (s 407 2) < y5 → ¬ (s 434 y3.toNat) = 0 → ¬ (s 434 y5.toNat) = 0 → ¬ (s 435 (w32 ((w32 (30 * y3)) + x1)).toNat) = (s 435 (w32 ((w32 (30 * y5)) + x1)).toNat) → I18 y2 y3 (w32 (y4 + 0)) (w32 (y5 + 1)) ∧ m18 y2 y3 (w32 (y4 + 0)) (w32 (y5 + 1)) < m18 y2 y3 y4 y5)
  (z13 : ∀ y2 : Int, ∀ y3 : Int, ∀ y4 : Int, ∀ y5 : Int, I18 y2 y3 y4 y5 → ¬ (s 407 2) < y5 → ¬ (s 434 y3.toNat) = 0 → ¬ (s 434 y5.toNat) = 0 → (s 435 (w32 ((w32 (30 * y3)) + x1)).toNat) = (s 435 (w32 ((w32 (30 * y5)) + x1)).toNat) → I18 y2 y3 (w32 (y4 + 1)) (w32 (y5 + 1)) ∧ m18 y2 y3 (w32 (y4 + 1)) (w32 (y5 + 1)) < m18 y2 y3 y4 y5)
  (z14 : I4 0 0) :
  Sp X d 298 [mR 407, mI x1] s Q := by
  have L : ∀ k : Nat, (∀ (y2 : Int) (y3 : Int) (l4 : Option mV) (l5 : Option mV), I4 y2 y3 → m4 y2 y3 < k → Wp X d 298 4 [some (mR 407), some (mI x1), some (mI y2), some (mI y3), l4, l5] [] s Q) ∧ (∀ (y2 : Int) (y3 : Int) (y4 : Int) (y5 : Int), I18 y2 y3 y4 y5 → m18 y2 y3 y4 y5 < k → Wp X d 298 18 [some (mR 407), some (mI x1), some (mI y2), some (mI y3), some (mI y4), some (mI y5)] [] s Q) := by
    intro k
    induction k with
    | zero => exact ⟨fun _ _ _ _ _ h => absurd h (Nat.not_lt_zero _), fun _ _ _ _ _ h => absurd h (Nat.not_lt_zero _)⟩
    | succ k ih => exact ⟨fun y2 y3 l4 l5 hI hm => b298_4 (fun q1 => b298_107 (z1 y2 y3 hI q1)) (fun q2 => b298_12 (ih.2 y2 y3 0 0 (z2 y2 y3 hI q2).1 (Nat.lt_of_lt_of_le (z2 y2 y3 hI q2).2 (Nat.le_of_lt_succ hm)))), fun y2 y3 y4 y5 hI hm => b298_18 (fun q3 => b298_88 (fun q4 => b298_99 (b298_100 (ih.1 y2 (w32 (y3 + 1)) (some (mI y4)) (some (mI y5)) (z3 y2 y3 y4 y5 hI q3 q4).1 (Nat.lt_of_lt_of_le (z3 y2 y3 y4 y5 hI q3 q4).2 (Nat.le_of_lt_succ hm))))) (fun q5 => b298_94 (b298_100 (ih.1 y4 (w32 (y3 + 1)) (some (mI y4)) (some (mI y5)) (z4 y2 y3 y4 y5 hI q3 q5).1 (Nat.lt_of_lt_of_le (z4 y2 y3 y4 y5 hI q3 q5).2 (Nat.le_of_lt_succ hm)))))) (fun q6 => b298_27 (z5 y2 y3 y4 y5 hI q6) (fun q7 => b298_88 (fun q8 => b298_99 (b298_100 (ih.1 y2 (w32 (y3 + 1)) (some (mI y4)) (some (mI y5)) (z6 y2 y3 y4 y5 hI q6 q7 q8).1 (Nat.lt_of_lt_of_le (z6 y2 y3 y4 y5 hI q6 q7 q8).2 (Nat.le_of_lt_succ hm))))) (fun q9 => b298_94 (b298_100 (ih.1 y4 (w32 (y3 + 1)) (some (mI y4)) (some (mI y5)) (z7 y2 y3 y4 y5 hI q6 q7 q9).1 (Nat.lt_of_lt_of_le (z7 y2 y3 y4 y5 hI q6 q7 q9).2 (Nat.le_of_lt_succ hm)))))) (fun q10 => b298_36 (z8 y2 y3 y4 y5 hI q6 q10) (fun q11 => b298_78 (b298_79 (ih.2 y2 y3 (w32 (y4 + 0)) (w32 (y5 + 1)) (z9 y2 y3 y4 y5 hI q6 q10 q11).1 (Nat.lt_of_lt_of_le (z9 y2 y3 y4 y5 hI q6 q10 q11).2 (Nat.le_of_lt_succ hm))))) (fun q12 => b298_48 (z10 y2 y3 y4 y5 hI q6 q10 q12) (z11 y2 y3 y4 y5 hI q6 q10 q12) (fun q13 => b298_78 (b298_79 (ih.2 y2 y3 (w32 (y4 + 0)) (w32 (y5 + 1)) (z12 y2 y3 y4 y5 hI q6 q10 q12 q13).1 (Nat.lt_of_lt_of_le (z12 y2 y3 y4 y5 hI q6 q10 q12 q13).2 (Nat.le_of_lt_succ hm))))) (fun q14 => b298_74 (b298_79 (ih.2 y2 y3 (w32 (y4 + 1)) (w32 (y5 + 1)) (z13 y2 y3 y4 y5 hI q6 q10 q12 q14).1 (Nat.lt_of_lt_of_le (z13 y2 y3 y4 y5 hI q6 q10 q12 q14).2 (Nat.le_of_lt_succ hm))))))))⟩
  exact e298 (b298_0 ((L (m4 0 0 + 1)).1 0 0 none none z14 (Nat.lt_succ_self _)))

theorem c298 {X : (Nat → Int) × Nat} {d : Nat} {s : mSt} {Q : mQ} {x1 : Int} (p1 : (0 ≤ s 407 2 ∧ s 407 2 ≤ 6) ∧ (0 ≤ x1 ∧ x1 < 30)) (k : Q (some (mI (mal (fun i => !decide (s 434 i = 0)) (fun i t => s 435 (30 * i + t)) ((s 407 2).toNat + 1) x1.toNat))) s) : Sp X d 298 [mR 407, mI x1] s Q := by
  obtain ⟨h2, hx⟩ := p1
  let g : Nat → Bool := fun i => !decide (s 434 i = 0)
  have hg : ∀ i, g i = true ↔ ¬ s 434 i = 0 := fun i => by show (!decide (s 434 i = 0)) = true ↔ _; simp
  let F : Nat → Int := fun i => s 435 (30 * i + x1.toNat)
  let n : Nat := (s 407 2).toNat + 1
  have hn : n = (s 407 2).toNat + 1 := rfl
  let al : Nat → Nat → Int := fun i j => if g i = true then cn (fun j => g j && decide (F i = F j)) j else 0
  have ab : ∀ i j, 0 ≤ al i j ∧ al i j ≤ j := fun i j => alF_b (g := g) (F := F) (i := i) (n := j)
  let M : Nat → Int := mx (fun i => al i n)
  have Ms : ∀ i, M (i + 1) = if M i < al i n then al i n else M i := fun i => rfl
  let J : Int → Int → Prop := fun y3 y4 => ∃ i : Nat, y4 = i ∧ i ≤ n ∧ y3 = M i
  let K : Int → Int → Int → Int → Prop := fun y3 y4 y5 y6 => ∃ i j : Nat, y4 = i ∧ i < n ∧ y3 = M i ∧ y6 = j ∧ j ≤ n ∧ y5 = al i j
  have al0 : ∀ i j, ¬ (g i = true ∧ g j = true ∧ F i = F j) → al i (j + 1) = al i j := fun i j h => by
    show (if g i = true then cn (fun j => g j && decide (F i = F j)) (j + 1) else 0) = if g i = true then cn (fun j => g j && decide (F i = F j)) j else 0
    by_cases z : g i = true
    · rw [if_pos z, if_pos z, cn_s, if_neg (by rw [Bool.and_eq_true, decide_eq_true_eq]; intro w; exact h ⟨z, w.1, w.2⟩), Int.add_zero]
    · rw [if_neg z, if_neg z]
  have al1 : ∀ i j, g i = true → g j = true → F i = F j → al i (j + 1) = al i j + 1 := fun i j h1 h2 h3 => by
    show (if g i = true then cn (fun j => g j && decide (F i = F j)) (j + 1) else 0) = (if g i = true then cn (fun j => g j && decide (F i = F j)) j else 0) + 1
    rw [if_pos h1, if_pos h1, cn_s, if_pos (by rw [Bool.and_eq_true, decide_eq_true_eq]; exact ⟨h2, h3⟩)]
  have alz : ∀ i j, ¬ g i = true → al i j = 0 := fun i j h => if_neg h
  have nx : ∀ i j : Nat, i < n → j < n → ¬ (g i = true ∧ g j = true ∧ F i = F j) → K (M i) (i : Int) (w32 (al i j + 0)) (w32 ((j : Int) + 1)) ∧ (80 - 10 * (i : Int) - w32 ((j : Int) + 1)).toNat < (80 - 10 * (i : Int) - (j : Int)).toNat := fun i j hi hj h => by
    have b := ab i j
    rw [w32_of (x := (j : Int) + 1) (by omega), w32_of (by omega), Int.add_zero]
    exact ⟨⟨i, j + 1, rfl, hi, rfl, by omega, by omega, (al0 i j h).symm⟩, by omega⟩
  have toJ : ∀ (i j : Nat), i < n → j ≤ n → al i n = al i j → (al i j ≤ M i → J (M i) (w32 ((i : Int) + 1)) ∧ (81 - 10 * w32 ((i : Int) + 1)).toNat < (80 - 10 * (i : Int) - (j : Int)).toNat) ∧ (¬ al i j ≤ M i → J (al i j) (w32 ((i : Int) + 1)) ∧ (81 - 10 * w32 ((i : Int) + 1)).toNat < (80 - 10 * (i : Int) - (j : Int)).toNat) := fun i j hi hj e => by
    rw [w32_of (by omega)]
    refine ⟨fun z => ⟨⟨i + 1, by omega, by omega, ?_⟩, by omega⟩, fun z => ⟨⟨i + 1, by omega, by omega, ?_⟩, by omega⟩⟩
    · rw [Ms, e, if_neg (by omega)]
    · rw [Ms, e, if_pos (by omega)]
  have ix : ∀ i : Nat, i < n → w32 (w32 (30 * (i : Int)) + x1) = ((30 * i + x1.toNat : Nat) : Int) := fun i hi => by
    rw [w32_of (x := 30 * (i : Int)) (by omega), w32_of (by omega)]; omega
  refine v298 J (fun _ y => (81 - 10 * y).toNat) K (fun _ y4 _ y6 => (80 - 10 * y4 - y6).toNat) ?_ ?_ ?_ ?_ ?_ ?_ ?_ ?_ ?_ ?_ ?_ ?_ ?_ ?_
  · rintro _ _ ⟨i, rfl, hi, rfl⟩ hc
    have : i = n := by omega
    subst this
    exact k
  · rintro _ _ ⟨i, rfl, hi, rfl⟩ hc
    refine ⟨⟨i, 0, rfl, by omega, rfl, rfl, by omega, ?_⟩, by omega⟩
    show 0 = if g i = true then cn (fun j => g j && decide (F i = F j)) 0 else 0
    split <;> rfl
  · rintro _ _ _ _ ⟨i, j, rfl, hi, rfl, rfl, hj, rfl⟩ hc hz
    have : j = n := by omega
    exact (toJ i j hi hj (by rw [this])).1 hz
  · rintro _ _ _ _ ⟨i, j, rfl, hi, rfl, rfl, hj, rfl⟩ hc hz
    have : j = n := by omega
    exact (toJ i j hi hj (by rw [this])).2 hz
  · rintro _ _ _ _ ⟨i, j, rfl, hi, rfl, rfl, hj, rfl⟩ hc
    omega
  · rintro _ _ _ _ ⟨i, j, rfl, hi, rfl, rfl, hj, rfl⟩ hc hg0 hz
    rw [tnc] at hg0
    have z : ¬ g i = true := fun w => (hg i).1 w hg0
    exact (toJ i j hi hj (by rw [alz i n z, alz i j z])).1 hz
  · rintro _ _ _ _ ⟨i, j, rfl, hi, rfl, rfl, hj, rfl⟩ hc hg0 hz
    rw [tnc] at hg0
    have z : ¬ g i = true := fun w => (hg i).1 w hg0
    exact (toJ i j hi hj (by rw [alz i n z, alz i j z])).2 hz
  · rintro _ _ _ _ ⟨i, j, rfl, hi, rfl, rfl, hj, rfl⟩ hc hg0
    omega
  · rintro _ _ _ _ ⟨i, j, rfl, hi, rfl, rfl, hj, rfl⟩ hc hg0 hg1
    rw [tnc] at hg1
    exact nx i j hi (by omega) (fun w => (hg j).1 w.2.1 hg1)
  · rintro _ _ _ _ ⟨i, j, rfl, hi, rfl, rfl, hj, rfl⟩ hc hg0 hg1
    rw [ix i hi]; omega
  · rintro _ _ _ _ ⟨i, j, rfl, hi, rfl, rfl, hj, rfl⟩ hc hg0 hg1
    rw [ix j (by omega)]; omega
  · rintro _ _ _ _ ⟨i, j, rfl, hi, rfl, rfl, hj, rfl⟩ hc hg0 hg1 he
    rw [ix i hi, ix j (by omega), tnc, tnc] at he
    exact nx i j hi (by omega) (fun w => he w.2.2)
  · rintro _ _ _ _ ⟨i, j, rfl, hi, rfl, rfl, hj, rfl⟩ hc hg0 hg1 he
    rw [ix i hi, ix j (by omega), tnc, tnc] at he
    rw [tnc] at hg0 hg1
    have b := ab i j
    rw [w32_of (x := (j : Int) + 1) (by omega), w32_of (by omega)]
    exact ⟨⟨i, j + 1, rfl, hi, rfl, by omega, by omega, (al1 i j ((hg i).2 hg0) ((hg j).2 hg1) he).symm⟩, by omega⟩
  · exact ⟨0, rfl, by omega, rfl⟩
/-- the slot by which the rules part best -/
def bsS (M : Nat → Int) : Nat → Nat
  | 0 => 0
  | k + 1 => if M (k + 1) < M (bsS M k) then k + 1 else bsS M k
theorem bsS_s (M : Nat → Int) (k : Nat) : bsS M (k + 1) = if M (k + 1) < M (bsS M k) then k + 1 else bsS M k := rfl
theorem bsS_b (M : Nat → Int) : ∀ k, bsS M k ≤ k
  | 0 => Nat.le_refl 0
  | k + 1 => by have := bsS_b M k; rw [bsS_s]; split <;> omega
theorem bsS_congr {M M' : Nat → Int} : ∀ {k : Nat}, (∀ i, i ≤ k → M i = M' i) → bsS M k = bsS M' k
  | 0, _ => rfl
  | k + 1, h => by
    have b := bsS_b M' k
    rw [bsS_s, bsS_s, bsS_congr (k := k) (fun i hi => h i (by omega)), h (k + 1) (by omega), h _ (by omega)]
theorem v108 {X : (Nat → Int) × Nat} {d : Nat} {s : mSt} {Q : mQ} {x1 : Int}
  (I4 : Int → Int → Prop) (m4 : Int → Int → Nat)
  (z1 : ∀ y2 : Int, ∀ y3 : Int, I4 y2 y3 → 30 ≤ y3 → Q (some (mI y2)) s)
  (z2 : ∀ y2 : Int, ∀ y3 : Int, I4 y2 y3 → ¬ 30 ≤ y3 → sgQ s ∧ (0 ≤ y3 ∧ y3 < 30))
  (z3 : ∀ y2 : Int, ∀ y3 : Int, I4 y2 y3 → ¬ 30 ≤ y3 → sgQ s ∧ (0 ≤ y2 ∧ y2 < 30))
  (z4 : ∀ y2 : Int, ∀ y3 : Int, I4 y2 y3 → ¬ 30 ≤ y3 → (mal (bq x1) (fun i t => s (69 + i) t) 7 y2.toNat) ≤ (mal (bq x1) (fun i t => s (69 + i) t) 7 y3.toNat) → I4 y2 (w32 (y3 + 1)) ∧ m4 y2 (w32 (y3 + 1)) < m4 y2 y3)
  (z5 : ∀ y2 : Int, ∀ y3 : Int, I4 y2 y3 → ¬ 30 ≤ y3 → ¬ (mal (bq x1) (fun i t => s (69 + i) t) 7 y2.toNat) ≤ (mal (bq x1) (fun i t => s (69 + i) t) 7 y3.toNat) → I4 y3 (w32 (y3 + 1)) ∧ m4 y3 (w32 (y3 + 1)) < m4 y2 y3)
  (z6 : I4 0 1) :
  Sp X (d + 2) 108 [mR 53, mI x1] s Q := by
  have L : ∀ k : Nat, (∀ (y2 : Int) (y3 : Int), I4 y2 y3 → m4 y2 y3 < k → Wp X (d + 2) 108 4 [some (mR 53), some (mI x1), some (mI y2), some (mI y3)] [] s Q) := by
    intro k
    induction k with
    | zero => exact fun _ _ _ h => absurd h (Nat.not_lt_zero _)
    | succ k ih => exact fun y2 y3 hI hm => b108_4 (fun q1 => b108_33 (z1 y2 y3 hI q1)) (fun q2 => b108_10 (c109 (z2 y2 y3 hI q2) ⟨_, rfl, b108_16 (c109 (z3 y2 y3 hI q2) ⟨_, rfl, b108_22 (fun q3 => b108_27 (ih y2 (w32 (y3 + 1)) (z4 y2 y3 hI q2 q3).1 (Nat.lt_of_lt_of_le (z4 y2 y3 hI q2 q3).2 (Nat.le_of_lt_succ hm)))) (fun q4 => b108_25 (b108_27 (ih y3 (w32 (y3 + 1)) (z5 y2 y3 hI q2 q4).1 (Nat.lt_of_lt_of_le (z5 y2 y3 hI q2 q4).2 (Nat.le_of_lt_succ hm)))))⟩)⟩))
  exact e108 (b108_0 ((L (m4 0 1 + 1)) 0 1 z6 (Nat.lt_succ_self _)))

theorem c108 {X : (Nat → Int) × Nat} {d : Nat} {s : mSt} {Q : mQ} {x1 : Int} (p1 : sgQ s) (k : Q (some (mI ((bsS (mal (bq x1) (fun i t => s (69 + i) t) 7) 29 : Nat) : Int))) s) : Sp X (d + 2) 108 [mR 53, mI x1] s Q := by
  let M := mal (bq x1) (fun i t => s (69 + i) t) 7
  have hM : ∀ t, M t = mal (bq x1) (fun i t => s (69 + i) t) 7 t := fun _ => rfl
  let J : Int → Int → Prop := fun y2 y3 => ∃ j : Nat, y3 = ((j + 1 : Nat) : Int) ∧ j ≤ 29 ∧ y2 = ((bsS M j : Nat) : Int)
  refine v108 J (fun _ y => (31 - y).toNat) ?_ ?_ ?_ ?_ ?_ ⟨0, rfl, by omega, rfl⟩
  · rintro _ _ ⟨j, rfl, hj, rfl⟩ hc
    have : j = 29 := by omega
    subst this
    exact k
  · rintro _ _ ⟨j, rfl, hj, rfl⟩ hc
    exact ⟨p1, by omega⟩
  · rintro _ _ ⟨j, rfl, hj, rfl⟩ hc
    have := bsS_b M j
    exact ⟨p1, by omega⟩
  · rintro _ _ ⟨j, rfl, hj, rfl⟩ hc hz
    rw [tnc, tnc, ← hM, ← hM] at hz
    rw [w32_of (by omega)]
    refine ⟨⟨j + 1, by omega, by omega, ?_⟩, by omega⟩
    rw [bsS_s, if_neg (by omega)]
  · rintro _ _ ⟨j, rfl, hj, rfl⟩ hc hz
    rw [tnc, tnc, ← hM, ← hM] at hz
    rw [w32_of (by omega)]
    refine ⟨⟨j + 1, by omega, by omega, ?_⟩, by omega⟩
    rw [bsS_s, if_pos (by omega)]
def lkV (g : Nat → Bool) (F : Nat → Nat → Int) (n : Nat) (y : Int) : Int := if fd g n < 0 then -2 else if y = 0 then ((bsS (mal g F n) 29 : Nat) : Int) else mal g F n (bsS (mal g F n) 29)
def lkQ (a : Rw) (n : Int) (g : Nat → Bool) (R : Nat → Rw → Nat → Int) (x y r : Int) : Prop := YN (a 0 = 1 ∧ (0 ≤ x ∧ x ≤ 9) ∧ (0 ≤ y ∧ y ≤ 1)) (r = lkV g (fun i t => fre (stN (R i) (x.toNat + 1) (anew a)) t) (n.toNat + 1) y) (r = -1)
theorem lkV_congr {g g' : Nat → Bool} {F F' : Nat → Nat → Int} {n : Nat} {y : Int} (hg : ∀ i, i < n → g i = g' i) (hF : ∀ i t, i < n → g i = true → t < 30 → F i t = F' i t) : lkV g F n y = lkV g' F' n y := by
  have hm : ∀ t, t < 30 → mal g F n t = mal g' F' n t := fun t ht => mal_congr hg (fun i hi z => hF i t hi z ht)
  have b := bsS_b (mal g' F' n) 29
  unfold lkV
  rw [fd_congr hg, bsS_congr (fun i hi => hm i (by omega)), hm _ (by omega)]
theorem v299 {X : (Nat → Int) × Nat} {d : Nat} {s : mSt} {Q : mQ} {x1 : Int} {x2 : Int}
  (I46 : Int → Int → Int → mSt → Prop) (m46 : Int → Int → Int → mSt → Nat)
  (z1 : ∀ y3 : Int, ∀ y4 : Int, ∀ y5 : Int, ∀ s : mSt, I46 y3 y4 y5 s → 30 ≤ y5 → ¬ x2 = 0 → Q (some (mI y4)) s)
  (z2 : ∀ y3 : Int, ∀ y4 : Int, ∀ y5 : Int, ∀ s : mSt, I46 y3 y4 y5 s → 30 ≤ y5 → x2 = 0 → Q (some (mI y3)) s)
  (z3 : ∀ y3 : Int, ∀ y4 : Int, ∀ y5 : Int, ∀ s : mSt, I46 y3 y4 y5 s → ¬ 30 ≤ y5 → (0 ≤ s 407 2 ∧ s 407 2 ≤ 6) ∧ (0 ≤ y5 ∧ y5 < 30))
  (z4 : ∀ y3 : Int, ∀ y4 : Int, ∀ y5 : Int, ∀ s : mSt, I46 y3 y4 y5 s → ¬ 30 ≤ y5 → (mal (fun i => !decide (s 434 i = 0)) (fun i t => s 435 (30 * i + t)) ((s 407 2).toNat + 1) y5.toNat) = 0 → I46 y3 y4 (w32 (y5 + 1)) s ∧ m46 y3 y4 (w32 (y5 + 1)) s < m46 y3 y4 y5 s)
  (z5 : ∀ y3 : Int, ∀ y4 : Int, ∀ y5 : Int, ∀ s : mSt, I46 y3 y4 y5 s → ¬ 30 ≤ y5 → ¬ (mal (fun i => !decide (s 434 i = 0)) (fun i t => s 435 (30 * i + t)) ((s 407 2).toNat + 1) y5.toNat) = 0 → y3 < 0 → I46 y5 (mal (fun i => !decide (s 434 i = 0)) (fun i t => s 435 (30 * i + t)) ((s 407 2).toNat + 1) y5.toNat) (w32 (y5 + 1)) s ∧ m46 y5 (mal (fun i => !decide (s 434 i = 0)) (fun i t => s 435 (30 * i + t)) ((s 407 2).toNat + 1) y5.toNat) (w32 (y5 + 1)) s < m46 y3 y4 y5 s)
  (z6 : ∀ y3 : Int, ∀ y4 : Int, ∀ y5 : Int, ∀ s : mSt, I46 y3 y4 y5 s → ¬ 30 ≤ y5 → ¬ (mal (fun i => !decide (s 434 i = 0)) (fun i t => s 435 (30 * i + t)) ((s 407 2).toNat + 1) y5.toNat) = 0 → ¬ y3 < 0 → (mal (fun i => !decide (s 434 i = 0)) (fun i t => s 435 (30 * i + t)) ((s 407 2).toNat + 1) y5.toNat) < y4 → I46 y5 (mal (fun i => !decide (s 434 i = 0)) (fun i t => s 435 (30 * i + t)) ((s 407 2).toNat + 1) y5.toNat) (w32 (y5 + 1)) s ∧ m46 y5 (mal (fun i => !decide (s 434 i = 0)) (fun i t => s 435 (30 * i + t)) ((s 407 2).toNat + 1) y5.toNat) (w32 (y5 + 1)) s < m46 y3 y4 y5 s)
  (z7 : ∀ y3 : Int, ∀ y4 : Int, ∀ y5 : Int, ∀ s : mSt, I46 y3 y4 y5 s → ¬ 30 ≤ y5 → ¬ (mal (fun i => !decide (s 434 i = 0)) (fun i t => s 435 (30 * i + t)) ((s 407 2).toNat + 1) y5.toNat) = 0 → ¬ y3 < 0 → ¬ (mal (fun i => !decide (s 434 i = 0)) (fun i t => s 435 (30 * i + t)) ((s 407 2).toNat + 1) y5.toNat) < y4 → I46 y3 y4 (w32 (y5 + 1)) s ∧ m46 y3 y4 (w32 (y5 + 1)) s < m46 y3 y4 y5 s)
  (z8 : s 417 0 = 1 → ((0 : Int) ≤ x1 ∧ x1 ≤ (9 : Int)) → ((0 : Int) ≤ x2 ∧ x2 ≤ (1 : Int)) → Ok (s 417) ∧ RLq s)
  (z9 : s 417 0 = 1 → ((0 : Int) ≤ x1 ∧ x1 ≤ (9 : Int)) → ((0 : Int) ≤ x2 ∧ x2 ≤ (1 : Int)) → ∀ s14 : mSt, ((∀ i : Nat, (i : Int) ≤ s 407 2 → s14 434 i = (if fitN s i = true then 1 else 0) ∧ (0 ≤ x1 ∧ x1 < 10 → ∀ j, j < 30 → s14 435 (30 * i + j) = fre (stN (ruN s i) (x1.toNat + 1) (anew (s 417))) j)) ∧ fY s s14) → I46 (-2) (-2) 0 s14)
  (z10 : s 417 0 = 1 → ((0 : Int) ≤ x1 ∧ x1 ≤ (9 : Int)) → (¬ ((0 : Int) ≤ x2 ∧ x2 ≤ (1 : Int))) → Q (some (mI (-1))) s)
  (z11 : s 417 0 = 1 → (¬ ((0 : Int) ≤ x1 ∧ x1 ≤ (9 : Int))) → Q (some (mI (-1))) s)
  (z12 : ¬ (s 417 0 = 1) → Q (some (mI (-1))) s) :
  Sp X (d + 10) 299 [mR 407, mI x1, mI x2] s Q := by
  have L : ∀ k : Nat, (∀ (y3 : Int) (y4 : Int) (y5 : Int) (l6 : Option mV) (s : mSt), I46 y3 y4 y5 s → m46 y3 y4 y5 s < k → Wp X (d + 10) 299 46 [some (mR 407), some (mI x1), some (mI x2), some (mI y3), some (mI y4), some (mI y5), l6] [] s Q) := by
    intro k
    induction k with
    | zero => exact fun _ _ _ _ _ _ h => absurd h (Nat.not_lt_zero _)
    | succ k ih => exact fun y3 y4 y5 l6 s hI hm => b299_46 (fun q1 => b299_93 (fun q2 => b299_101 (b299_103 (z1 y3 y4 y5 s hI q1 q2))) (fun q3 => b299_97 (b299_103 (z2 y3 y4 y5 s hI q1 q3)))) (fun q4 => b299_53 (c298 (z3 y3 y4 y5 s hI q4) ⟨_, rfl, b299_59 (fun q5 => b299_87 (ih y3 y4 (w32 (y5 + 1)) (some (mI (mal (fun i => !decide (s 434 i = 0)) (fun i t => s 435 (30 * i + t)) ((s 407 2).toNat + 1) y5.toNat))) s (z4 y3 y4 y5 s hI q4 q5).1 (Nat.lt_of_lt_of_le (z4 y3 y4 y5 s hI q4 q5).2 (Nat.le_of_lt_succ hm)))) (fun q6 => b299_66 (fun q7 => b299_80 (b299_87 (ih y5 (mal (fun i => !decide (s 434 i = 0)) (fun i t => s 435 (30 * i + t)) ((s 407 2).toNat + 1) y5.toNat) (w32 (y5 + 1)) (some (mI (mal (fun i => !decide (s 434 i = 0)) (fun i t => s 435 (30 * i + t)) ((s 407 2).toNat + 1) y5.toNat))) s (z5 y3 y4 y5 s hI q4 q6 q7).1 (Nat.lt_of_lt_of_le (z5 y3 y4 y5 s hI q4 q6 q7).2 (Nat.le_of_lt_succ hm))))) (fun q8 => b299_70 (fun q9 => b299_80 (b299_87 (ih y5 (mal (fun i => !decide (s 434 i = 0)) (fun i t => s 435 (30 * i + t)) ((s 407 2).toNat + 1) y5.toNat) (w32 (y5 + 1)) (some (mI (mal (fun i => !decide (s 434 i = 0)) (fun i t => s 435 (30 * i + t)) ((s 407 2).toNat + 1) y5.toNat))) s (z6 y3 y4 y5 s hI q4 q6 q8 q9).1 (Nat.lt_of_lt_of_le (z6 y3 y4 y5 s hI q4 q6 q8 q9).2 (Nat.le_of_lt_succ hm))))) (fun q10 => b299_77 (b299_87 (ih y3 y4 (w32 (y5 + 1)) (some (mI (mal (fun i => !decide (s 434 i = 0)) (fun i t => s 435 (30 * i + t)) ((s 407 2).toNat + 1) y5.toNat))) s (z7 y3 y4 y5 s hI q4 q6 q8 q10).1 (Nat.lt_of_lt_of_le (z7 y3 y4 y5 s hI q4 q6 q8 q10).2 (Nat.le_of_lt_succ hm)))))))⟩))
  exact e299 (b299_0 (c212  (fun q11 => ⟨1, rfl, b299_4 (fun q => absurd q (by decide)) (fun _ => b299_7 (c167  (fun q12 => ⟨1, rfl, b299_16 (fun q => absurd q (by decide)) (fun _ => b299_19 (c167  (fun q13 => ⟨1, rfl, b299_26 (fun _ => b299_31 (c296 (z8 q11 q12 q13) (fun s14 q14 => ⟨rfl, b299_36 ((L (m46 (-2) (-2) 0 s14 + 1)) (-2) (-2) 0 none s14 (z9 q11 q12 q13 s14 q14) (Nat.lt_succ_self _))⟩))) (fun q => absurd q (by decide))⟩) (fun q15 => ⟨0, rfl, b299_26 (fun q => absurd q (by decide)) (fun _ => b299_29 (z10 q11 q12 q15))⟩)))⟩) (fun q16 => ⟨0, rfl, b299_16 (fun _ => b299_29 (z11 q11 q16)) (fun q => absurd q (by decide))⟩)))⟩) (fun q17 => ⟨0, rfl, b299_4 (fun _ => b299_29 (z12 q17)) (fun q => absurd q (by decide))⟩)))

theorem c299 {X : (Nat → Int) × Nat} {d : Nat} {s : mSt} {Q : mQ} {x1 : Int} {x2 : Int} (p1 : Ok (s 417) ∧ RLq s) (k : ∀ (v : Int) (t : mSt), (lkQ (s 417) (s 407 2) (fitN s) (ruN s) x1 x2 v ∧ fY s t) → Q (some (mI v)) t) : Sp X (d + 10) 299 [mR 407, mI x1, mI x2] s Q := by
  obtain ⟨h, hR⟩ := p1
  have h2 := hR.1
  let n : Nat := (s 407 2).toNat + 1
  have hn : n = (s 407 2).toNat + 1 := rfl
  let g : Nat → Bool := fitN s
  let F : Nat → Nat → Int := fun i t => fre (stN (ruN s i) (x1.toNat + 1) (anew (s 417))) t
  let M : Nat → Int := mal g F n
  let G : Prop := s 417 0 = 1 ∧ (0 ≤ x1 ∧ x1 ≤ 9) ∧ (0 ≤ x2 ∧ x2 ≤ 1)
  have no : ¬ G → Q (some (mI (-1))) s := fun g => k _ s ⟨YN_n g rfl, ⟨fun _ _ => rfl, fun _ _ => rfl⟩⟩
  let T : mSt → Prop := fun t => (∀ i : Nat, (i : Int) ≤ s 407 2 → t 434 i = (if g i = true then 1 else 0) ∧ ∀ j, j < 30 → t 435 (30 * i + j) = F i j) ∧ fY s t
  have mM : ∀ (t : mSt) (j : Nat), T t → j < 30 → mal (fun i => !decide (t 434 i = 0)) (fun i u => t 435 (30 * i + u)) ((t 407 2).toNat + 1) ((j : Int)).toNat = M j := fun t j ht hj => by
    rw [ht.2.2 2 (by decide), tnc]
    refine mal_congr (fun i hi => ?_) (fun i hi _ => (ht.1 i (by omega)).2 j hj)
    rw [(ht.1 i (by omega)).1]
    by_cases z : g i = true
    · rw [if_pos z, z]; rfl
    · rw [if_neg z, Bool.eq_false_iff.2 z]; rfl
  let J : Int → Int → Int → mSt → Prop := fun y3 y4 y5 t => ∃ j : Nat, y5 = j ∧ j ≤ 30 ∧ G ∧ T t ∧ ((fd g n < 0 ∧ y3 = -2 ∧ y4 = -2) ∨ (¬ fd g n < 0 ∧ j = 0 ∧ y3 = -2 ∧ y4 = -2) ∨ (¬ fd g n < 0 ∧ 0 < j ∧ y3 = ((bsS M (j - 1) : Nat) : Int) ∧ y4 = M (bsS M (j - 1))))
  have m0 : fd g n < 0 → ∀ t, M t = 0 := fun z t => mal_0 z
  have m1 : ¬ fd g n < 0 → ∀ t, 1 ≤ M t := fun z t => mal_1 z
  have fin : ∀ (y3 y4 : Int) (j : Nat), 30 ≤ (j : Int) → ((fd g n < 0 ∧ y3 = -2 ∧ y4 = -2) ∨ (¬ fd g n < 0 ∧ j = 0 ∧ y3 = -2 ∧ y4 = -2) ∨ (¬ fd g n < 0 ∧ 0 < j ∧ y3 = ((bsS M (j - 1) : Nat) : Int) ∧ y4 = M (bsS M (j - 1)))) → j ≤ 30 → (if x2 = 0 then y3 else y4) = lkV g F n x2 := fun y3 y4 j hj w hj2 => by
    have : j = 30 := by omega
    subst this
    unfold lkV
    rcases w with ⟨w1, w2, w3⟩ | ⟨w1, w2, w3⟩ | ⟨w1, w2, w3, w4⟩
    · rw [if_pos w1, w2, w3]; split <;> rfl
    · omega
    · rw [if_neg w1, w3, w4]
  refine v299 J (fun _ _ y _ => (30 - y).toNat) ?_ ?_ ?_ ?_ ?_ ?_ ?_ (fun _ _ _ => ⟨h, hR⟩) (fun g1 g2 g3 t ht => ?_) (fun g1 g2 g3 => no (fun z => g3 z.2.2)) (fun g1 g2 => no (fun z => g2 z.2.1)) (fun g1 => no (fun z => g1 z.1))
  · rintro y3 y4 _ t ⟨j, rfl, hj, gg, ht, w⟩ hc hx
    have e := fin y3 y4 j hc w hj
    rw [if_neg hx] at e
    exact k _ t ⟨YN_y gg e, ht.2⟩
  · rintro y3 y4 _ t ⟨j, rfl, hj, gg, ht, w⟩ hc hx
    have e := fin y3 y4 j hc w hj
    rw [if_pos hx] at e
    exact k _ t ⟨YN_y gg e, ht.2⟩
  · rintro y3 y4 _ t ⟨j, rfl, hj, gg, ht, w⟩ hc
    rw [ht.2.2 2 (by decide)]; exact ⟨h2, by omega⟩
  · rintro y3 y4 _ t ⟨j, rfl, hj, gg, ht, w⟩ hc hz
    rw [mM t j ht (by omega)] at hz
    rw [w32_of (by omega)]
    refine ⟨⟨j + 1, by omega, by omega, gg, ht, ?_⟩, by omega⟩
    rcases w with w | w | w
    · exact Or.inl w
    · have := m1 w.1 j; omega
    · have := m1 w.1 j; omega
  · rintro y3 y4 _ t ⟨j, rfl, hj, gg, ht, w⟩ hc hz hy
    rw [mM t j ht (by omega)] at hz ⊢
    rw [w32_of (by omega)]
    refine ⟨⟨j + 1, by omega, by omega, gg, ht, ?_⟩, by omega⟩
    rcases w with w | w | w
    · exact absurd (m0 w.1 j) hz
    · refine Or.inr (Or.inr ⟨w.1, by omega, ?_, ?_⟩)
      · rw [w.2.1]; rfl
      · rw [w.2.1]; rfl
    · omega
  · rintro y3 y4 _ t ⟨j, rfl, hj, gg, ht, w⟩ hc hz hy hl
    rw [mM t j ht (by omega)] at hz hl ⊢
    rw [w32_of (by omega)]
    refine ⟨⟨j + 1, by omega, by omega, gg, ht, ?_⟩, by omega⟩
    rcases w with w | w | w
    · omega
    · omega
    · have e : bsS M j = j := by
        rw [show j = (j - 1) + 1 by omega, bsS_s, show j - 1 + 1 = j by omega, if_pos (by rw [← w.2.2.2]; exact hl)]
      exact Or.inr (Or.inr ⟨w.1, by omega, by rw [show j + 1 - 1 = j by omega, e], by rw [show j + 1 - 1 = j by omega, e]⟩)
  · rintro y3 y4 _ t ⟨j, rfl, hj, gg, ht, w⟩ hc hz hy hl
    rw [mM t j ht (by omega)] at hz hl
    rw [w32_of (by omega)]
    refine ⟨⟨j + 1, by omega, by omega, gg, ht, ?_⟩, by omega⟩
    rcases w with w | w | w
    · omega
    · omega
    · have e : bsS M j = bsS M (j - 1) := by
        rw [show j = (j - 1) + 1 by omega, bsS_s, show j - 1 + 1 = j by omega, if_neg (by rw [← w.2.2.2]; exact hl)]
      exact Or.inr (Or.inr ⟨w.1, by omega, by rw [show j + 1 - 1 = j by omega, e]; exact w.2.2.1, by rw [show j + 1 - 1 = j by omega, e]; exact w.2.2.2⟩)
  · refine ⟨0, rfl, by omega, ⟨g1, g2, g3⟩, ⟨fun i hi => ⟨(ht.1 i hi).1, (ht.1 i hi).2 (by omega)⟩, ht.2⟩, ?_⟩
    by_cases z : fd g n < 0
    · exact Or.inl ⟨z, rfl, rfl⟩
    · exact Or.inr (Or.inl ⟨z, rfl, rfl, rfl⟩)
def fZ (s t : mSt) : Prop := ∀ b, ¬ (44 ≤ b ∧ b ≤ 52) → ¬ (54 ≤ b ∧ b ≤ 54 + 9) → ¬ (69 ≤ b ∧ b ≤ 75) → t b = s b
theorem v107 {X : (Nat → Int) × Nat} {d : Nat} {s : mSt} {Q : mQ} {a1 : Nat} {x3 : Int} {x4 : Int} (h1 : isBd a1)
  (I3 : Int → mSt → Prop) (m3 : Int → mSt → Nat)
  (I58 : Int → Int → mSt → Prop) (m58 : Int → Int → mSt → Nat)
  (z1 : ∀ y5 : Int, ∀ s : mSt, I3 y5 s → 7 ≤ y5 → Q none s)
  (z2 : ∀ y5 : Int, ∀ s : mSt, I3 y5 s → ¬ 7 ≤ y5 → ¬ (iAnd (iShr x3 y5) 1) = 1 → I3 (w32 (y5 + 1)) s ∧ m3 (w32 (y5 + 1)) s < m3 y5 s)
  (z3 : ∀ y5 : Int, ∀ s : mSt, I3 y5 s → ¬ 7 ≤ y5 → (iAnd (iShr x3 y5) 1) = 1 → y5 = 0 → a1 ≠ 54 ∧ BI s a1 ∧ ¬ s a1 0 = 0 ∧ oRq s none ∧ 0 ≤ (w32 (x4 + 1)) ∧ brow s a1 5 + (w32 (x4 + 1)) ≤ 1000000)
  (z4 : ∀ y5 : Int, ∀ s : mSt, I3 y5 s → ¬ 7 ≤ y5 → (iAnd (iShr x3 y5) 1) = 1 → y5 = 0 → ∀ s6 : mSt, (BI s6 54 ∧ brow s6 54 = stN (ruC s none) (w32 (x4 + 1)).toNat (brow s a1) ∧ fW s s6) → I58 y5 0 s6 ∧ m58 y5 0 s6 < m3 y5 s)
  (z5 : ∀ y5 : Int, ∀ s : mSt, I3 y5 s → ¬ 7 ≤ y5 → (iAnd (iShr x3 y5) 1) = 1 → ¬ y5 = 0 → y5 ≤ 6 → isRl (s 6 (w32 (y5 - 1)).toNat).toNat)
  (z6 : ∀ y5 : Int, ∀ s : mSt, I3 y5 s → ¬ 7 ≤ y5 → (iAnd (iShr x3 y5) 1) = 1 → ¬ y5 = 0 → y5 ≤ 6 → 0 ≤ (w32 (y5 - 1)) ∧ (w32 (y5 - 1)) < 6)
  (z7 : ∀ y5 : Int, ∀ s : mSt, I3 y5 s → ¬ 7 ≤ y5 → (iAnd (iShr x3 y5) 1) = 1 → ¬ y5 = 0 → y5 ≤ 6 → s 6 (w32 (y5 - 1)).toNat = (((s 6 (w32 (y5 - 1)).toNat).toNat : Nat) : Int))
  (z8 : ∀ y5 : Int, ∀ s : mSt, I3 y5 s → ¬ 7 ≤ y5 → (iAnd (iShr x3 y5) 1) = 1 → ¬ y5 = 0 → y5 ≤ 6 → a1 ≠ 54 ∧ BI s a1 ∧ ¬ s a1 0 = 0 ∧ oRq s (some ((s 6 (w32 (y5 - 1)).toNat).toNat)) ∧ 0 ≤ (w32 (x4 + 1)) ∧ brow s a1 5 + (w32 (x4 + 1)) ≤ 1000000)
  (z9 : ∀ y5 : Int, ∀ s : mSt, I3 y5 s → ¬ 7 ≤ y5 → (iAnd (iShr x3 y5) 1) = 1 → ¬ y5 = 0 → y5 ≤ 6 → ∀ s9 : mSt, (BI s9 54 ∧ brow s9 54 = stN (ruC s (some ((s 6 (w32 (y5 - 1)).toNat).toNat))) (w32 (x4 + 1)).toNat (brow s a1) ∧ fW s s9) → I58 y5 0 s9 ∧ m58 y5 0 s9 < m3 y5 s)
  (z10 : ∀ y5 : Int, ∀ s : mSt, I3 y5 s → ¬ 7 ≤ y5 → (iAnd (iShr x3 y5) 1) = 1 → ¬ y5 = 0 → ¬ y5 ≤ 6 → a1 ≠ 54 ∧ BI s a1 ∧ ¬ s a1 0 = 0 ∧ oRq s none ∧ 0 ≤ (w32 (x4 + 1)) ∧ brow s a1 5 + (w32 (x4 + 1)) ≤ 1000000)
  (z11 : ∀ y5 : Int, ∀ s : mSt, I3 y5 s → ¬ 7 ≤ y5 → (iAnd (iShr x3 y5) 1) = 1 → ¬ y5 = 0 → ¬ y5 ≤ 6 → ∀ s11 : mSt, (BI s11 54 ∧ brow s11 54 = stN (ruC s none) (w32 (x4 + 1)).toNat (brow s a1) ∧ fW s s11) → I58 y5 0 s11 ∧ m58 y5 0 s11 < m3 y5 s)
  (z12 : ∀ y5 : Int, ∀ y6 : Int, ∀ s : mSt, I58 y5 y6 s → 30 ≤ y6 → I3 (w32 (y5 + 1)) s ∧ m3 (w32 (y5 + 1)) s < m58 y5 y6 s)
  (z13 : ∀ y5 : Int, ∀ y6 : Int, ∀ s : mSt, I58 y5 y6 s → ¬ 30 ≤ y6 → aS S0 (s 68 y5.toNat).toNat 22 30)
  (z14 : ∀ y5 : Int, ∀ y6 : Int, ∀ s : mSt, I58 y5 y6 s → ¬ 30 ≤ y6 → 0 ≤ y5 ∧ y5 < 7)
  (z15 : ∀ y5 : Int, ∀ y6 : Int, ∀ s : mSt, I58 y5 y6 s → ¬ 30 ≤ y6 → s 68 y5.toNat = (((s 68 y5.toNat).toNat : Nat) : Int))
  (z16 : ∀ y5 : Int, ∀ y6 : Int, ∀ s : mSt, I58 y5 y6 s → ¬ 30 ≤ y6 → BI s 54 ∧ ¬ s 54 0 = 0 ∧ (0 ≤ y6 ∧ y6 < 30))
  (z17 : ∀ y5 : Int, ∀ y6 : Int, ∀ s : mSt, I58 y5 y6 s → ¬ 30 ≤ y6 → 0 ≤ y6 ∧ y6 < 30)
  (z18 : ∀ y5 : Int, ∀ y6 : Int, ∀ s : mSt, I58 y5 y6 s → ¬ 30 ≤ y6 → I58 y5 (w32 (y6 + 1)) (uS s ((s 68 y5.toNat).toNat) y6.toNat (fre (brow s 54) y6.toNat)) ∧ m58 y5 (w32 (y6 + 1)) (uS s ((s 68 y5.toNat).toNat) y6.toNat (fre (brow s 54) y6.toNat)) < m58 y5 y6 s)
  (z19 : I3 0 s) :
  Sp X (d + 12) 107 [mR 53, mR a1, mR 6, mI x3, mI x4] s Q := by
  have L : ∀ k : Nat, (∀ (y5 : Int) (l6 : Option mV) (s : mSt), I3 y5 s → m3 y5 s < k → Wp X (d + 12) 107 3 [some (mR 53), some (mR a1), some (mR 6), some (mI x3), some (mI x4), some (mI y5), l6] [] s Q) ∧ (∀ (y5 : Int) (y6 : Int) (s : mSt), I58 y5 y6 s → m58 y5 y6 s < k → Wp X (d + 12) 107 58 [some (mR 53), some (mR a1), some (mR 6), some (mI x3), some (mI x4), some (mI y5), some (mI y6)] [] s Q) := by
    intro k
    induction k with
    | zero => exact ⟨fun _ _ _ _ h => absurd h (Nat.not_lt_zero _), fun _ _ _ _ h => absurd h (Nat.not_lt_zero _)⟩
    | succ k ih => exact ⟨fun y5 l6 s hI hm => b107_3 h1 (fun q1 => b107_96 h1 (z1 y5 s hI q1)) (fun q2 => b107_13 h1 (fun q3 => b107_90 h1 (ih.1 (w32 (y5 + 1)) l6 s (z2 y5 s hI q2 q3).1 (Nat.lt_of_lt_of_le (z2 y5 s hI q2 q3).2 (Nat.le_of_lt_succ hm)))) (fun q4 => b107_23 h1 (fun q5 => b107_37 h1 h1 (b107_47 h1 h1 (c101 h1 (z3 y5 s hI q2 q4 q5) (fun s6 q6 => ⟨rfl, b107_54 h1 (ih.2 y5 0 s6 (z4 y5 s hI q2 q4 q5 s6 q6).1 (Nat.lt_of_lt_of_le (z4 y5 s hI q2 q4 q5 s6 q6).2 (Nat.le_of_lt_succ hm)))⟩)))) (fun q7 => b107_30 h1 h1 (fun q8 => b107_41 (r1 := (s 6 (w32 (y5 - 1)).toNat).toNat) h1 h1 (z5 y5 s hI q2 q4 q7 q8) (z6 y5 s hI q2 q4 q7 q8) (z7 y5 s hI q2 q4 q7 q8) (b107_47 h1 h1 (c101 h1 (z8 y5 s hI q2 q4 q7 q8) (fun s9 q9 => ⟨rfl, b107_54 h1 (ih.2 y5 0 s9 (z9 y5 s hI q2 q4 q7 q8 s9 q9).1 (Nat.lt_of_lt_of_le (z9 y5 s hI q2 q4 q7 q8 s9 q9).2 (Nat.le_of_lt_succ hm)))⟩)))) (fun q10 => b107_37 h1 h1 (b107_47 h1 h1 (c101 h1 (z10 y5 s hI q2 q4 q7 q10) (fun s11 q11 => ⟨rfl, b107_54 h1 (ih.2 y5 0 s11 (z11 y5 s hI q2 q4 q7 q10 s11 q11).1 (Nat.lt_of_lt_of_le (z11 y5 s hI q2 q4 q7 q10 s11 q11).2 (Nat.le_of_lt_succ hm)))⟩))))))), fun y5 y6 s hI hm => b107_58 h1 (fun q12 => b107_90 h1 (ih.1 (w32 (y5 + 1)) (some (mI y6)) s (z12 y5 y6 s hI q12).1 (Nat.lt_of_lt_of_le (z12 y5 y6 s hI q12).2 (Nat.le_of_lt_succ hm)))) (fun q13 => b107_65 (r1 := (s 68 y5.toNat).toNat) h1 (z13 y5 y6 s hI q13) (z14 y5 y6 s hI q13) (z15 y5 y6 s hI q13) (c17 (bdm rfl) (z16 y5 y6 s hI q13) ⟨_, rfl, b107_83 h1 (z13 y5 y6 s hI q13) (z17 y5 y6 s hI q13) (ih.2 y5 (w32 (y6 + 1)) (uS s ((s 68 y5.toNat).toNat) y6.toNat (fre (brow s 54) y6.toNat)) (z18 y5 y6 s hI q13).1 (Nat.lt_of_lt_of_le (z18 y5 y6 s hI q13).2 (Nat.le_of_lt_succ hm)))⟩))⟩
  exact e107 (b107_0 h1 ((L (m3 0 s + 1)).1 0 none s z19 (Nat.lt_succ_self _)))

theorem c107 {X : (Nat → Int) × Nat} {d : Nat} {s : mSt} {Q : mQ} {a1 : Nat} {x3 : Int} {x4 : Int} (h1 : isBd a1) (p1 : a1 ≠ 54 ∧ ¬ (69 ≤ a1 + 9 ∧ a1 ≤ 75) ∧ BI s a1 ∧ ¬ s a1 0 = 0 ∧ brow s a1 5 ≤ 999 ∧ (0 ≤ x4 ∧ x4 ≤ 9) ∧ sgQ s ∧ (∀ r, r < 6 → s 6 r = ((83 + 4 * r : Nat) : Int)) ∧ ∀ i, i < 7 → bq x3 i = true → oRq s (rlI i)) (k : ∀ t : mSt, ((∀ i, i < 7 → bq x3 i = true → ∀ j, j < 30 → t (69 + i) j = fre (stN (ruC s (rlI i)) (x4.toNat + 1) (brow s a1)) j) ∧ fZ s t) → Q none t) : Sp X (d + 12) 107 [mR 53, mR a1, mR 6, mI x3, mI x4] s Q := by
  obtain ⟨hn, hq, hB, hd, h5, hx, hs, h6, hO⟩ := p1
  have hp := bd_54 h1 hn
  have hl := bd_lt h1
  let b := brow s a1
  let g := bq x3
  let B : Nat → Rw := fun i => stN (ruC s (rlI i)) (x4.toNat + 1) b
  have e1 : (w32 (x4 + 1)).toNat = x4.toNat + 1 := wt (by omega) (by omega)
  have told : ∀ t : mSt, fZ s t → BI t a1 ∧ brow t a1 = b := fun t ht => BI_cells hB (fun x hx => ht x (by omega) (by omega) (by omega)) (ht 417 (by omega) (by omega) (by omega))
  have bi : ∀ i : Nat, i < 7 → (iAnd (iShr x3 (i : Int)) 1 = 1 ↔ g i = true) := fun i hi => by
    rw [bt_iff _ (by omega)]; unfold bt; rw [tnc]
  let V : mSt → Nat → Prop := fun t n => ∀ i, i < n → g i = true → ∀ j, j < 30 → t (69 + i) j = fre (B i) j
  let J : Int → mSt → Prop := fun y5 t => ∃ i : Nat, y5 = i ∧ i ≤ 7 ∧ V t i ∧ fZ s t
  let K : Int → Int → mSt → Prop := fun y5 y6 t => ∃ i j : Nat, y5 = i ∧ i < 7 ∧ y6 = j ∧ j ≤ 30 ∧ g i = true ∧ V t i ∧ (∀ u, u < j → t (69 + i) u = fre (B i) u) ∧ BI t 54 ∧ brow t 54 = B i ∧ fZ s t
  have pre : ∀ (t : mSt) (i : Nat) (o : Option Nat), fZ s t → i < 7 → g i = true → o = rlI i → a1 ≠ 54 ∧ BI t a1 ∧ ¬ t a1 0 = 0 ∧ oRq t o ∧ 0 ≤ w32 (x4 + 1) ∧ brow t a1 5 + w32 (x4 + 1) ≤ 1000000 := fun t i o ht hi hg e => by
    have q := told t ht
    have e5 : b 5 ≤ 999 := h5
    rw [w32_of (by omega), q.2, e]
    refine ⟨hn, q.1, by rw [ht a1 (by omega) (by omega) (by omega)]; exact hd, (ruC_cells (hO i hi hg) (fun x hx => ht x (by omega) (by omega) (by omega))).2, by omega, by omega⟩
  have toK : ∀ (t u : mSt) (i : Nat) (o : Option Nat), V t i → fZ s t → i < 7 → g i = true → o = rlI i → (BI u 54 ∧ brow u 54 = stN (ruC t o) (w32 (x4 + 1)).toNat (brow t a1) ∧ fW t u) → K (i : Int) 0 u ∧ (349 - 40 * (i : Int) - 0).toNat < (350 - 40 * (i : Int)).toNat := fun t u i o hv ht hi hg e hu => by
    have q := told t ht
    have er : ruC t o = ruC s (rlI i) := by rw [e]; exact funext (ruC_cells (hO i hi hg) (fun x hx => ht x (by omega) (by omega) (by omega))).1
    rw [e1, q.2, er] at hu
    refine ⟨⟨i, 0, rfl, hi, rfl, by omega, hg, fun i' hi' hg' j hj => ?_, fun u hu => by omega, hu.1, hu.2.1, fun x g1 g2 g3 => (hu.2.2 x g1 g2).trans (ht x g1 g2 g3)⟩, by omega⟩
    rw [hu.2.2 (69 + i') (by omega) (by omega)]; exact hv i' hi' hg' j hj
  have ri : ∀ (i : Nat) (t : mSt), ¬ (i : Int) = 0 → i ≤ 6 → fZ s t → t 6 (w32 ((i : Int) - 1)).toNat = ((83 + 4 * (i - 1) : Nat) : Int) ∧ some (83 + 4 * (i - 1)) = rlI i := fun i t hi hi6 h => by
    rw [wt (n := i - 1) (by omega) (by omega), h 6 (by omega) (by omega) (by omega), h6 _ (by omega)]
    exact ⟨rfl, by unfold rlI; rw [if_neg (by omega)]⟩
  have r68 : ∀ (i : Nat) (t : mSt), i < 7 → fZ s t → t 68 (i : Int).toNat = ((69 + i : Nat) : Int) := fun i t hi ht => by
    rw [tnc, ht 68 (by omega) (by omega) (by omega), hs i hi]
  refine v107 h1 J (fun y _ => (350 - 40 * y).toNat) K (fun y5 y6 _ => (349 - 40 * y5 - y6).toNat) ?_ ?_ ?_ ?_ ?_ ?_ ?_ ?_ ?_ ?_ ?_ ?_ ?_ ?_ ?_ ?_ ?_ ?_ ?_
  · rintro _ t ⟨i, rfl, hi, hv, ht⟩ hc
    have : i = 7 := by omega
    subst this
    exact k t ⟨hv, ht⟩
  · rintro _ t ⟨i, rfl, hi, hv, ht⟩ hc hz
    rw [w32_of (by omega)]
    refine ⟨⟨i + 1, by omega, by omega, fun i' hi' hg' j hj => ?_, ht⟩, by omega⟩
    by_cases z : i' = i
    · rw [z] at hg'; exact absurd ((bi i (by omega)).2 hg') hz
    · exact hv i' (by omega) hg' j hj
  · rintro _ t ⟨i, rfl, hi, hv, ht⟩ hc hz h0
    exact pre t i none ht (by omega) ((bi i (by omega)).1 hz) (by unfold rlI; rw [if_pos (by omega)])
  · rintro _ t ⟨i, rfl, hi, hv, ht⟩ hc hz h0 u hu
    exact toK t u i none hv ht (by omega) ((bi i (by omega)).1 hz) (by unfold rlI; rw [if_pos (by omega)]) hu
  · rintro _ t ⟨i, rfl, hi, hv, ht⟩ hc hz h0 h6'
    rw [(ri i t h0 (by omega) ht).1, tnc]; exact rl_of (by omega)
  · rintro _ t ⟨i, rfl, hi, hv, ht⟩ hc hz h0 h6'
    rw [w32_of (by omega)]; omega
  · rintro _ t ⟨i, rfl, hi, hv, ht⟩ hc hz h0 h6'
    rw [(ri i t h0 (by omega) ht).1, tnc]
  · rintro _ t ⟨i, rfl, hi, hv, ht⟩ hc hz h0 h6'
    have r := ri i t h0 (by omega) ht
    rw [r.1, tnc]
    exact pre t i _ ht (by omega) ((bi i (by omega)).1 hz) r.2
  · rintro _ t ⟨i, rfl, hi, hv, ht⟩ hc hz h0 h6' u hu
    have r := ri i t h0 (by omega) ht
    rw [r.1, tnc] at hu
    exact toK t u i _ hv ht (by omega) ((bi i (by omega)).1 hz) r.2 hu
  · rintro _ t ⟨i, rfl, hi, hv, ht⟩ hc hz h0 h6'
    omega
  · rintro _ t ⟨i, rfl, hi, hv, ht⟩ hc hz h0 h6' u hu
    omega
  · rintro _ _ t ⟨i, j, rfl, hi, rfl, hj, hg, hv, hf, hb, e, ht⟩ hc
    rw [w32_of (by omega)]
    refine ⟨⟨i + 1, by omega, by omega, fun i' hi' hg' u hu => ?_, ht⟩, by omega⟩
    by_cases z : i' = i
    · rw [z]; exact hf u (by omega)
    · exact hv i' (by omega) hg' u hu
  · rintro _ _ t ⟨i, j, rfl, hi, rfl, hj, hg, hv, hf, hb, e, ht⟩ hc
    rw [r68 i t hi ht, tnc]; exact fs_a hi
  · rintro _ _ t ⟨i, j, rfl, hi, rfl, hj, hg, hv, hf, hb, e, ht⟩ hc
    omega
  · rintro _ _ t ⟨i, j, rfl, hi, rfl, hj, hg, hv, hf, hb, e, ht⟩ hc
    rw [r68 i t hi ht, tnc]
  · rintro _ _ t ⟨i, j, rfl, hi, rfl, hj, hg, hv, hf, hb, e, ht⟩ hc
    refine ⟨hb, ?_, by omega⟩
    have e5 : b 5 ≤ 999 := h5
    have e50 := ok5 hB.1
    rw [bi1 (s := t) (k := 54), e]
    show ¬ stN (ruC s (rlI i)) (x4.toNat + 1) b 1 = 0
    rw [stN_o hB.1 (by omega) _ (by show b 5 + _ ≤ _; omega), ← bi1]; exact hd
  · rintro _ _ t ⟨i, j, rfl, hi, rfl, hj, hg, hv, hf, hb, e, ht⟩ hc
    omega
  · rintro _ _ t ⟨i, j, rfl, hi, rfl, hj, hg, hv, hf, hb, e, ht⟩ hc
    rw [r68 i t hi ht, tnc, tnc, w32_of (by omega), e]
    have cu : ∀ x, x ≠ 69 + i → uS t (69 + i) j (fre (B i) j) x = t x := fun x hx => uS_cell hx
    have q := BI_cells (t := uS t (69 + i) j (fre (B i) j)) hb (fun x hx => cu x (by omega)) (cu 417 (by omega))
    refine ⟨⟨i, j + 1, rfl, hi, by omega, by omega, hg, fun i' hi' hg' u hu => ?_, fun u hu => ?_, q.1, q.2.trans e, fun x g1 g2 g3 => (cu x (by omega)).trans (ht x g1 g2 g3)⟩, by omega⟩
    · rw [cu _ (by omega)]; exact hv i' hi' hg' u hu
    · rw [uS_at]
      by_cases z : u = j
      · rw [if_pos z, z]
      · rw [if_neg z]; exact hf u (by omega)
  · exact ⟨0, rfl, by omega, fun i hi => by omega, fun _ _ _ _ => rfl⟩
theorem v157 {X : (Nat → Int) × Nat} {d : Nat} {s : mSt} {Q : mQ} {x1 : Int} {x2 : Int}
  (z1 : 0 < s 18 0 → x1 < 0 → Q (some (mI (-1))) s)
  (z2 : 0 < s 18 0 → ¬ x1 < 0 → 9 < x1 → Q (some (mI (-1))) s)
  (z3 : 0 < s 18 0 → ¬ x1 < 0 → ¬ 9 < x1 → x2 < 0 → Q (some (mI (-1))) s)
  (z4 : 0 < s 18 0 → ¬ x1 < 0 → ¬ 9 < x1 → ¬ x2 < 0 → x2 ≤ 1 → NTq s (7 + 21) ∧ BI s (7 + 1) ∧ ¬ s (7 + 1) 0 = 0 ∧ brow s (7 + 1) 5 ≤ 999 ∧ (0 ≤ (s 0 4) ∧ (s 0 4) ≤ 6) ∧ (∀ r, r < 6 → s 6 r = ((83 + 4 * r : Nat) : Int)) ∧ ∀ i, i ≤ (s 0 4).toNat → oRq s (rlI i))
  (z5 : 0 < s 18 0 → ¬ x1 < 0 → ¬ 9 < x1 → ¬ x2 < 0 → x2 ≤ 1 → ∀ v9 : Int, ∀ s9 : mSt, (v9 = os (fun i => agC s (7 + 21) (ruC s (rlI i)) (brow s (7 + 1))) ((s 0 4).toNat + 1) ∧ fW s s9) → ¬ v9 = 0 → 8 ≠ 54 ∧ ¬ (69 ≤ 8 + 9 ∧ 8 ≤ 75) ∧ BI s9 8 ∧ ¬ s9 8 0 = 0 ∧ brow s9 8 5 ≤ 999 ∧ (0 ≤ x1 ∧ x1 ≤ 9) ∧ sgQ s9 ∧ (∀ r, r < 6 → s9 6 r = ((83 + 4 * r : Nat) : Int)) ∧ ∀ i, i < 7 → bq v9 i = true → oRq s9 (rlI i))
  (z6 : 0 < s 18 0 → ¬ x1 < 0 → ¬ 9 < x1 → ¬ x2 < 0 → x2 ≤ 1 → ∀ v9 : Int, ∀ s9 : mSt, (v9 = os (fun i => agC s (7 + 21) (ruC s (rlI i)) (brow s (7 + 1))) ((s 0 4).toNat + 1) ∧ fW s s9) → ¬ v9 = 0 → ∀ s11 : mSt, ((∀ i, i < 7 → bq v9 i = true → ∀ j, j < 30 → s11 (69 + i) j = fre (stN (ruC s9 (rlI i)) (x1.toNat + 1) (brow s9 8)) j) ∧ fZ s9 s11) → sgQ s11)
  (z7 : 0 < s 18 0 → ¬ x1 < 0 → ¬ 9 < x1 → ¬ x2 < 0 → x2 ≤ 1 → ∀ v9 : Int, ∀ s9 : mSt, (v9 = os (fun i => agC s (7 + 21) (ruC s (rlI i)) (brow s (7 + 1))) ((s 0 4).toNat + 1) ∧ fW s s9) → ¬ v9 = 0 → ∀ s11 : mSt, ((∀ i, i < 7 → bq v9 i = true → ∀ j, j < 30 → s11 (69 + i) j = fre (stN (ruC s9 (rlI i)) (x1.toNat + 1) (brow s9 8)) j) ∧ fZ s9 s11) → ¬ x2 = 0 → sgQ s11 ∧ (0 ≤ ((bsS (mal (bq v9) (fun i t => s11 (69 + i) t) 7) 29 : Nat) : Int) ∧ ((bsS (mal (bq v9) (fun i t => s11 (69 + i) t) 7) 29 : Nat) : Int) < 30))
  (z8 : 0 < s 18 0 → ¬ x1 < 0 → ¬ 9 < x1 → ¬ x2 < 0 → x2 ≤ 1 → ∀ v9 : Int, ∀ s9 : mSt, (v9 = os (fun i => agC s (7 + 21) (ruC s (rlI i)) (brow s (7 + 1))) ((s 0 4).toNat + 1) ∧ fW s s9) → ¬ v9 = 0 → ∀ s11 : mSt, ((∀ i, i < 7 → bq v9 i = true → ∀ j, j < 30 → s11 (69 + i) j = fre (stN (ruC s9 (rlI i)) (x1.toNat + 1) (brow s9 8)) j) ∧ fZ s9 s11) → ¬ x2 = 0 → Q (some (mI (mal (bq v9) (fun i t => s11 (69 + i) t) 7 ((bsS (mal (bq v9) (fun i t => s11 (69 + i) t) 7) 29 : Nat) : Int).toNat))) s11)
  (z9 : 0 < s 18 0 → ¬ x1 < 0 → ¬ 9 < x1 → ¬ x2 < 0 → x2 ≤ 1 → ∀ v9 : Int, ∀ s9 : mSt, (v9 = os (fun i => agC s (7 + 21) (ruC s (rlI i)) (brow s (7 + 1))) ((s 0 4).toNat + 1) ∧ fW s s9) → ¬ v9 = 0 → ∀ s11 : mSt, ((∀ i, i < 7 → bq v9 i = true → ∀ j, j < 30 → s11 (69 + i) j = fre (stN (ruC s9 (rlI i)) (x1.toNat + 1) (brow s9 8)) j) ∧ fZ s9 s11) → x2 = 0 → Q (some (mI ((bsS (mal (bq v9) (fun i t => s11 (69 + i) t) 7) 29 : Nat) : Int))) s11)
  (z10 : 0 < s 18 0 → ¬ x1 < 0 → ¬ 9 < x1 → ¬ x2 < 0 → x2 ≤ 1 → ∀ v9 : Int, ∀ s9 : mSt, (v9 = os (fun i => agC s (7 + 21) (ruC s (rlI i)) (brow s (7 + 1))) ((s 0 4).toNat + 1) ∧ fW s s9) → v9 = 0 → Q (some (mI (-2))) s9)
  (z11 : 0 < s 18 0 → ¬ x1 < 0 → ¬ 9 < x1 → ¬ x2 < 0 → ¬ x2 ≤ 1 → Q (some (mI (-1))) s)
  (z12 : ¬ (0 < s 18 0) → Q (some (mI (-1))) s) :
  Sp X (d + 13) 157 [mR 0, mI x1, mI x2] s Q := e157 (b157_0 (c6 (bdm rfl) (fun q1 => ⟨1, rfl, b157_10 (fun q => absurd q (by decide)) (fun _ => b157_13 (fun q2 => b157_32 (z1 q1 q2)) (fun q3 => b157_17 (fun q4 => b157_32 (z2 q1 q3 q4)) (fun q5 => b157_23 (fun q6 => b157_32 (z3 q1 q3 q5 q6)) (fun q7 => b157_27 (fun q8 => b157_34 (c105 (scm rfl) (z4 q1 q3 q5 q7 q8) (fun v9 s9 q9 => ⟨v9, rfl, b157_53 (fun q10 => b157_61 (c107 (bdm rfl) (z5 q1 q3 q5 q7 q8 v9 s9 q9 q10) (fun s11 q11 => ⟨rfl, b157_81 (c108 (z6 q1 q3 q5 q7 q8 v9 s9 q9 q10 s11 q11) ⟨_, rfl, b157_89 (fun q12 => b157_100 (c109 (z7 q1 q3 q5 q7 q8 v9 s9 q9 q10 s11 q11 q12) ⟨_, rfl, b157_110 (z8 q1 q3 q5 q7 q8 v9 s9 q9 q10 s11 q11 q12)⟩)) (fun q13 => b157_95 (b157_110 (z9 q1 q3 q5 q7 q8 v9 s9 q9 q10 s11 q11 q13)))⟩)⟩))) (fun q14 => b157_58 (z10 q1 q3 q5 q7 q8 v9 s9 q9 q14))⟩))) (fun q15 => b157_32 (z11 q1 q3 q5 q7 q15))))))⟩) (fun q16 => ⟨0, rfl, b157_10 (fun _ => b157_32 (z12 q16)) (fun q => absurd q (by decide))⟩)))

theorem c157 {X : (Nat → Int) × Nat} {d : Nat} {s : mSt} {Q : mQ} {x1 : Int} {x2 : Int} (p1 : TDq s ∧ rlQ s ∧ sgQ s) (k : ∀ (v : Int) (t : mSt), (lkQ (brow s 18) (s 0 4) (fun i => agC s 28 (ruC s (rlI i)) (anew (brow s 18))) (fun i => ruC s (rlI i)) x1 x2 v ∧ fZ s t) → Q (some (mI v)) t) : Sp X (d + 13) 157 [mR 0, mI x1, mI x2] s Q := by
  obtain ⟨hT, hR, hs⟩ := p1
  have hB := hT.2.2.1
  have b0 := hB.2.2.2.2.1
  have e0 := brw_0 (s := s) (k := 18)
  have h4 := hR.1
  have is8 : isBd 8 := (show 8 ∈ bdL by decide +kernel)
  let g : Nat → Bool := fun i => agC s 28 (ruC s (rlI i)) (anew (brow s 18))
  let n : Nat := (s 0 4).toNat + 1
  have hn : n = (s 0 4).toNat + 1 := rfl
  let F : Nat → Nat → Int := fun i t => fre (stN (ruC s (rlI i)) (x1.toNat + 1) (anew (brow s 18))) t
  have no : ¬ (0 < s 18 0 ∧ (0 ≤ x1 ∧ x1 ≤ 9) ∧ (0 ≤ x2 ∧ x2 ≤ 1)) → Q (some (mI (-1))) s := fun w => k _ s ⟨YN_n (fun z => w ⟨by
    by_cases z0 : s 18 0 = 0
    · rw [if_pos z0] at e0; omega
    · omega, z.2⟩) rfl, fun _ _ _ _ => rfl⟩
  have ys : ∀ (r : Int) (t : mSt), 0 < s 18 0 → (0 ≤ x1 ∧ x1 ≤ 9) → (0 ≤ x2 ∧ x2 ≤ 1) → r = lkV g F n x2 → fZ s t → Q (some (mI r)) t := fun r t g1 g2 g3 e ht => k _ t ⟨YN_y ⟨by rw [if_neg (by omega)] at e0; exact e0, g2, g3⟩ e, ht⟩
  have eb : 0 < s 18 0 → brow s (7 + 1) = anew (brow s 18) := fun g => (td_of hT g).2.2.2.2.2.1
  have ev : 0 < s 18 0 → ∀ v : Int, v = os (fun i => agC s (7 + 21) (ruC s (rlI i)) (brow s (7 + 1))) ((s 0 4).toNat + 1) → v = os g n ∧ ∀ i, bq v i = (decide (i < n) && g i) := fun hd v hv => by
    rw [eb hd] at hv
    have e : v = os g n := hv
    exact ⟨e, fun i => by rw [e]; exact os_bq (by omega) i⟩
  have ru : ∀ t : mSt, fW s t → ∀ i, i < n → (∀ a, ruC t (rlI i) a = ruC s (rlI i) a) ∧ oRq t (rlI i) := fun t ht i hi => ruC_cells (hR.2.2 i (by omega)) (fun x hx => ht x (by omega) (by omega))
  have t8 : ∀ t : mSt, 0 < s 18 0 → fW s t → BI t 8 ∧ brow t 8 = anew (brow s 18) := fun t hd ht => by
    have q := BI_fW is8 (by decide) hT.2.1 ht
    exact ⟨q.1, q.2.trans (eb hd)⟩
  have mM : ∀ (v : Int) (t u : mSt), 0 < s 18 0 → (∀ i, bq v i = (decide (i < n) && g i)) → fW s t → (∀ i, i < 7 → bq v i = true → ∀ j, j < 30 → u (69 + i) j = fre (stN (ruC t (rlI i)) (x1.toNat + 1) (brow t 8)) j) → ∀ j, j < 30 → mal (bq v) (fun i t => u (69 + i) t) 7 j = mal g F n j := fun v t u hd hv ht hu j hj => by
    rw [mal_trim (n := n) (k := 7) (by omega) (fun i h1 _ => by rw [hv]; simp; omega)]
    refine mal_congr (fun i hi => by rw [hv]; simp [hi]) (fun i hi z => ?_)
    try dsimp only
    rw [hu i (by omega) z j hj, (t8 t hd ht).2, show ruC t (rlI i) = ruC s (rlI i) from funext (ru t ht i hi).1]
  have tr : ∀ t u : mSt, fW s t → fZ t u → fZ s u := fun t u ht hu x g1 g2 g3 => (hu x g1 g2 g3).trans (ht x g1 g2)
  refine v157 (fun g1 g2 => no (by omega)) (fun g1 g2 g3 => no (by omega)) (fun g1 g2 g3 g4 => no (by omega)) (fun g1 g2 g3 g4 g5 => ?_) (fun g1 g2 g3 g4 g5 v t ht hz => ?_) (fun g1 g2 g3 g4 g5 v t ht hz u hu => ?_) (fun g1 g2 g3 g4 g5 v t ht hz u hu q => ?_) (fun g1 g2 g3 g4 g5 v t ht hz u hu q => ?_) (fun g1 g2 g3 g4 g5 v t ht hz u hu q => ?_) (fun g1 g2 g3 g4 g5 v t ht hz => ?_) (fun g1 g2 g3 g4 g5 => no (by omega)) (fun g1 => no (fun z => g1 z.1))
  · have q := td_of hT g1
    exact ⟨q.1, q.2.1, q.2.2.1, q.2.2.2.1, hR⟩
  · have q := td_of hT g1
    have w := t8 t g1 ht.2
    have hv := ev g1 v ht.1
    refine ⟨by decide, by decide, w.1, ?_, ?_, by omega, ?_, ?_, fun i hi hb => ?_⟩
    · rw [ht.2 8 (by decide) (by decide)]; exact q.2.2.1
    · rw [w.2, ← eb g1]; exact q.2.2.2.1
    · unfold sgQ; rw [ht.2 68 (by decide) (by decide)]; exact hs
    · rw [ht.2 6 (by decide) (by decide)]; exact hR.2.1
    · rw [hv.2] at hb
      simp at hb
      exact (ru t ht.2 i hb.1).2
  · unfold sgQ; rw [hu.2 68 (by decide) (by decide) (by decide), ht.2 68 (by decide) (by decide)]; exact hs
  · refine ⟨?_, ?_⟩
    · unfold sgQ; rw [hu.2 68 (by decide) (by decide) (by decide), ht.2 68 (by decide) (by decide)]; exact hs
    · have := bsS_b (mal (bq v) (fun i t => u (69 + i) t) 7) 29
      omega
  · have hv := ev g1 v ht.1
    have m := mM v t u g1 hv.2 ht.2 hu.1
    refine ys _ u g1 (by omega) (by omega) ?_ (tr t u ht.2 hu.2)
    have b := bsS_b (mal g F n) 29
    rw [tnc, bsS_congr (fun i hi => m i (by omega)), m _ (by omega)]
    unfold lkV
    rw [if_neg (fun w => hz (hv.1.trans ((os_z (by omega)).2 w))), if_neg q]
  · have hv := ev g1 v ht.1
    have m := mM v t u g1 hv.2 ht.2 hu.1
    refine ys _ u g1 (by omega) (by omega) ?_ (tr t u ht.2 hu.2)
    rw [bsS_congr (fun i hi => m i (by omega))]
    unfold lkV
    rw [if_neg (fun w => hz (hv.1.trans ((os_z (by omega)).2 w))), if_pos q]
  · have hv := ev g1 v ht.1
    refine ys _ t g1 (by omega) (by omega) ?_ (fun x h1 h2 _ => ht.2 x h1 h2)
    unfold lkV
    rw [if_pos ((os_z (by omega)).1 (hv.1.symm.trans hz))]
