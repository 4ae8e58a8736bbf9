/-! spelt, first -/
def spQ (a : Rw) (x y r : Int) : Prop := YN (drC a x ∧ -1 ≤ y) (r = if y = -1 then ((tx (sgL a x.toNat) 30).1.length : Int) else if ((tx (sgL a x.toNat) 30).1.length : Int) ≤ y then -2 else (tx (sgL a x.toNat) 30).1.getD y.toNat 0) (r = -1)
def fl2 (s t : mSt) : Prop := ∀ b, ¬ (78 ≤ b ∧ b ≤ 80) → t b = s b
def fv2 (s t : mSt) : Prop := ∀ b, b ≠ 424 → b ≠ 425 → t b = s b
theorem txL (f : Nat → Int) : (tx f 30).1.length ≤ 30 := by have := tx_b f 30; omega
theorem v142 {X : (Nat → Int) × Nat} {d : Nat} {s : mSt} {Q : mQ} {x1 : Int} {x2 : Int}
  (z1 : BI s 18)
  (z2 : ((0 ≤ x1 ∧ x1 < s 18 3) ∧ pl (brow s 18) x1.toNat = true) → (-1) ≤ x2 → BI s 18 ∧ ((0 ≤ x1 ∧ x1 < s 18 3) ∧ pl (brow s 18) x1.toNat = true) ∧ (0 ≤ (0 : Int) ∧ (0 : Int) < 2) ∧ LRq s ∧ ¬ (77 ≤ 18 + 9 ∧ 18 ≤ 80))
  (z3 : ((0 ≤ x1 ∧ x1 < s 18 3) ∧ pl (brow s 18) x1.toNat = true) → (-1) ≤ x2 → ∀ s3 : mSt, (TXc s3 (0 : Int).toNat (tx (sgL (brow s 18) x1.toNat) 30).1 ∧ frW s s3 (0 : Int).toNat) → ¬ x2 = (-1) → (s3 80 0) ≤ x2 → Q (some (mI (-2))) s3)
  (z4 : ((0 ≤ x1 ∧ x1 < s 18 3) ∧ pl (brow s 18) x1.toNat = true) → (-1) ≤ x2 → ∀ s3 : mSt, (TXc s3 (0 : Int).toNat (tx (sgL (brow s 18) x1.toNat) 30).1 ∧ frW s s3 (0 : Int).toNat) → ¬ x2 = (-1) → ¬ (s3 80 0) ≤ x2 → aS S0 (s3 77 0).toNat 22 30)
  (z5 : ((0 ≤ x1 ∧ x1 < s 18 3) ∧ pl (brow s 18) x1.toNat = true) → (-1) ≤ x2 → ∀ s3 : mSt, (TXc s3 (0 : Int).toNat (tx (sgL (brow s 18) x1.toNat) 30).1 ∧ frW s s3 (0 : Int).toNat) → ¬ x2 = (-1) → ¬ (s3 80 0) ≤ x2 → s3 77 0 = (((s3 77 0).toNat : Nat) : Int))
  (z6 : ((0 ≤ x1 ∧ x1 < s 18 3) ∧ pl (brow s 18) x1.toNat = true) → (-1) ≤ x2 → ∀ s3 : mSt, (TXc s3 (0 : Int).toNat (tx (sgL (brow s 18) x1.toNat) 30).1 ∧ frW s s3 (0 : Int).toNat) → ¬ x2 = (-1) → ¬ (s3 80 0) ≤ x2 → 0 ≤ x2 ∧ x2 < 30)
  (z7 : ((0 ≤ x1 ∧ x1 < s 18 3) ∧ pl (brow s 18) x1.toNat = true) → (-1) ≤ x2 → ∀ s3 : mSt, (TXc s3 (0 : Int).toNat (tx (sgL (brow s 18) x1.toNat) 30).1 ∧ frW s s3 (0 : Int).toNat) → ¬ x2 = (-1) → ¬ (s3 80 0) ≤ x2 → Q (some (mI (s3 (s3 77 0).toNat x2.toNat))) s3)
  (z8 : ((0 ≤ x1 ∧ x1 < s 18 3) ∧ pl (brow s 18) x1.toNat = true) → (-1) ≤ x2 → ∀ s3 : mSt, (TXc s3 (0 : Int).toNat (tx (sgL (brow s 18) x1.toNat) 30).1 ∧ frW s s3 (0 : Int).toNat) → x2 = (-1) → Q (some (mI (s3 80 0))) s3)
  (z9 : ((0 ≤ x1 ∧ x1 < s 18 3) ∧ pl (brow s 18) x1.toNat = true) → ¬ (-1) ≤ x2 → Q (some (mI (-1))) s)
  (z10 : (¬ ((0 ≤ x1 ∧ x1 < s 18 3) ∧ pl (brow s 18) x1.toNat = true)) → Q (some (mI (-1))) s) :
  Sp X (d + 3) 142 [mR 0, mI x1, mI x2] s Q := e142 (b142_0 (c9 (bdm rfl) z1 (fun q1 => ⟨1, rfl, b142_11 (fun q => absurd q (by decide)) (fun _ => b142_14 (fun q2 => b142_21 (c43 (bdm rfl) (z2 q1 q2) (fun s3 q3 => ⟨rfl, b142_37 (fun q4 => b142_52 (fun q5 => b142_79 (b142_81 (z3 q1 q2 s3 q3 q4 q5))) (fun q6 => b142_65 (r1 := (s3 77 0).toNat) (z4 q1 q2 s3 q3 q4 q6) (z5 q1 q2 s3 q3 q4 q6) (z6 q1 q2 s3 q3 q4 q6) (b142_81 (z7 q1 q2 s3 q3 q4 q6)))) (fun q7 => b142_42 (z8 q1 q2 s3 q3 q7))⟩))) (fun q8 => b142_19 (z9 q1 q8)))⟩) (fun q9 => ⟨0, rfl, b142_11 (fun _ => b142_19 (z10 q9)) (fun q => absurd q (by decide))⟩)))

theorem c142 {X : (Nat → Int) × Nat} {d : Nat} {s : mSt} {Q : mQ} {x1 : Int} {x2 : Int} (p1 : BI s 18 ∧ LRq s) (k : ∀ (v : Int) (t : mSt), (spQ (brow s 18) x1 x2 v ∧ fl2 s t) → Q (some (mI v)) t) : Sp X (d + 3) 142 [mR 0, mI x1, mI x2] s Q := by
  obtain ⟨hB, hl⟩ := p1
  have e4 := bi4 hB
  have dI : ((0 ≤ x1 ∧ x1 < s 18 3) ∧ pl (brow s 18) x1.toNat = true) ↔ drC (brow s 18) x1 := by unfold drC; rw [← e4]
  have tl := txL (sgL (brow s 18) x1.toNat)
  have no : ¬ (drC (brow s 18) x1 ∧ -1 ≤ x2) → Q (some (mI (-1))) s := fun w => k _ s ⟨YN_n w rfl, fun _ _ => rfl⟩
  have f2 : ∀ t : mSt, frW s t (0 : Int).toNat → fl2 s t := fun t ht b hb => ht.1 b (by omega) (by show b ≠ 78; omega)
  have e0 : ∀ t : mSt, TXc t (0 : Int).toNat (tx (sgL (brow s 18) x1.toNat) 30).1 → t 80 0 = ((tx (sgL (brow s 18) x1.toNat) 30).1.length : Int) := fun t ht => ht.1
  have l77 : ∀ t : mSt, frW s t (0 : Int).toNat → t 77 0 = 78 := fun t ht => by rw [ht.1 77 (by decide) (by decide)]; exact hl 0 (by decide)
  refine v142 hB (fun g1 g2 => ⟨hB, g1, by decide, hl, by decide⟩) (fun g1 g2 t ht q1 q2 => ?_) (fun g1 g2 t ht q1 q2 => ?_) (fun g1 g2 t ht q1 q2 => ?_) (fun g1 g2 t ht q1 q2 => ?_) (fun g1 g2 t ht q1 q2 => ?_) (fun g1 g2 t ht q1 => ?_) (fun g1 g2 => no (fun z => g2 z.2)) (fun g1 => no (fun z => g1 (dI.2 z.1)))
  · rw [e0 t ht.1] at q2
    exact k _ t ⟨YN_y ⟨dI.1 g1, g2⟩ (by rw [if_neg q1, if_pos q2]), f2 t ht.2⟩
  · rw [l77 t ht.2]; exact ln_a (w := 0) (by decide)
  · rw [l77 t ht.2]; rfl
  · rw [e0 t ht.1] at q2; omega
  · rw [e0 t ht.1] at q2
    rw [l77 t ht.2]
    refine k _ t ⟨YN_y ⟨dI.1 g1, g2⟩ ?_, f2 t ht.2⟩
    rw [if_neg q1, if_neg q2]
    exact ht.1.2 x2.toNat (by omega)
  · exact k _ t ⟨YN_y ⟨dI.1 g1, g2⟩ (by rw [if_pos q1]; exact e0 t ht.1), f2 t ht.2⟩
theorem v269 {X : (Nat → Int) × Nat} {d : Nat} {s : mSt} {Q : mQ} {x1 : Int} {x2 : Int}
  (z1 : Ok (s 417))
  (z2 : ((0 ≤ x1 ∧ x1 < s 417 4) ∧ s 417 (41 + x1.toNat) = 0) → (-1) ≤ x2 → Ok (s 417) ∧ (0 ≤ x1 ∧ x1 < 6) ∧ (0 ≤ (0 : Int) ∧ (0 : Int) < 2))
  (z3 : ((0 ≤ x1 ∧ x1 < s 417 4) ∧ s 417 (41 + x1.toNat) = 0) → (-1) ≤ x2 → ∀ s3 : mSt, (TXr s3 (0 : Int).toNat (tx (sgL (s 417) x1.toNat) 30).1 ∧ frV s s3 (0 : Int).toNat) → ¬ x2 = (-1) → (s3 425 0) ≤ x2 → Q (some (mI (-2))) s3)
  (z4 : ((0 ≤ x1 ∧ x1 < s 417 4) ∧ s 417 (41 + x1.toNat) = 0) → (-1) ≤ x2 → ∀ s3 : mSt, (TXr s3 (0 : Int).toNat (tx (sgL (s 417) x1.toNat) 30).1 ∧ frV s s3 (0 : Int).toNat) → ¬ x2 = (-1) → ¬ (s3 425 0) ≤ x2 → 0 ≤ x2 ∧ x2 < 120)
  (z5 : ((0 ≤ x1 ∧ x1 < s 417 4) ∧ s 417 (41 + x1.toNat) = 0) → (-1) ≤ x2 → ∀ s3 : mSt, (TXr s3 (0 : Int).toNat (tx (sgL (s 417) x1.toNat) 30).1 ∧ frV s s3 (0 : Int).toNat) → ¬ x2 = (-1) → ¬ (s3 425 0) ≤ x2 → Q (some (mI (s3 424 x2.toNat))) s3)
  (z6 : ((0 ≤ x1 ∧ x1 < s 417 4) ∧ s 417 (41 + x1.toNat) = 0) → (-1) ≤ x2 → ∀ s3 : mSt, (TXr s3 (0 : Int).toNat (tx (sgL (s 417) x1.toNat) 30).1 ∧ frV s s3 (0 : Int).toNat) → x2 = (-1) → Q (some (mI (s3 425 0))) s3)
  (z7 : ((0 ≤ x1 ∧ x1 < s 417 4) ∧ s 417 (41 + x1.toNat) = 0) → ¬ (-1) ≤ x2 → Q (some (mI (-1))) s)
  (z8 : (¬ ((0 ≤ x1 ∧ x1 < s 417 4) ∧ s 417 (41 + x1.toNat) = 0)) → Q (some (mI (-1))) s) :
  Sp X (d + 6) 269 [mR 407, mI x1, mI x2] s Q := e269 (b269_0 (c216 z1 (fun q1 => ⟨1, rfl, b269_5 (fun q => absurd q (by decide)) (fun _ => b269_8 (fun q2 => b269_15 (c268 (z2 q1 q2) (fun s3 q3 => ⟨rfl, b269_21 (fun q4 => b269_35 (fun q5 => b269_54 (b269_56 (z3 q1 q2 s3 q3 q4 q5))) (fun q6 => b269_45 (z4 q1 q2 s3 q3 q4 q6) (b269_56 (z5 q1 q2 s3 q3 q4 q6)))) (fun q7 => b269_26 (b269_56 (z6 q1 q2 s3 q3 q7)))⟩))) (fun q8 => b269_13 (z7 q1 q8)))⟩) (fun q9 => ⟨0, rfl, b269_5 (fun _ => b269_13 (z8 q9)) (fun q => absurd q (by decide))⟩)))

theorem c269 {X : (Nat → Int) × Nat} {d : Nat} {s : mSt} {Q : mQ} {x1 : Int} {x2 : Int} (p1 : Ok (s 417)) (k : ∀ (v : Int) (t : mSt), (spQ (s 417) x1 x2 v ∧ fv2 s t) → Q (some (mI v)) t) : Sp X (d + 6) 269 [mR 407, mI x1, mI x2] s Q := by
  have h := p1
  have h4 := ok4 h
  have dI : ((0 ≤ x1 ∧ x1 < s 417 4) ∧ s 417 (41 + x1.toNat) = 0) ↔ drC (s 417) x1 := by unfold drC; rw [pl_0]
  have tl := txL (sgL (s 417) x1.toNat)
  have no : ¬ (drC (s 417) x1 ∧ -1 ≤ x2) → Q (some (mI (-1))) s := fun w => k _ s ⟨YN_n w rfl, fun _ _ _ => rfl⟩
  have f2 : ∀ t : mSt, frV s t (0 : Int).toNat → fv2 s t := fun t ht => ht.1
  have e0 : ∀ t : mSt, TXr t (0 : Int).toNat (tx (sgL (s 417) x1.toNat) 30).1 → t 425 0 = ((tx (sgL (s 417) x1.toNat) 30).1.length : Int) := fun t ht => ht.1
  refine v269 h (fun g1 g2 => ⟨h, by omega, by decide⟩) (fun g1 g2 t ht q1 q2 => ?_) (fun g1 g2 t ht q1 q2 => ?_) (fun g1 g2 t ht q1 q2 => ?_) (fun g1 g2 t ht q1 => ?_) (fun g1 g2 => no (fun z => g2 z.2)) (fun g1 => no (fun z => g1 (dI.2 z.1)))
  · rw [e0 t ht.1] at q2
    exact k _ t ⟨YN_y ⟨dI.1 g1, g2⟩ (by rw [if_neg q1, if_pos q2]), f2 t ht.2⟩
  · rw [e0 t ht.1] at q2; omega
  · rw [e0 t ht.1] at q2
    refine k _ t ⟨YN_y ⟨dI.1 g1, g2⟩ ?_, f2 t ht.2⟩
    rw [if_neg q1, if_neg q2]
    have := ht.1.2 x2.toNat (by omega)
    rw [show 60 * (0 : Int).toNat + x2.toNat = x2.toNat by omega] at this
    exact this
  · exact k _ t ⟨YN_y ⟨dI.1 g1, g2⟩ (by rw [if_pos q1]; exact e0 t ht.1), f2 t ht.2⟩
/-- how many signs in common -/
def mnN (m n : Nat) : Nat := if m ≤ n then m else n
def cpI (m n : Nat) (f g : Nat → Int) : Nat := if fd (fun i => !decide (f i = g i)) (mnN m n) < 0 then mnN m n else (fd (fun i => !decide (f i = g i)) (mnN m n)).toNat
theorem cpI_b (m n : Nat) (f g : Nat → Int) : cpI m n f g ≤ m ∧ cpI m n f g ≤ n := by
  have b := fd_ge (f := fun i => !decide (f i = g i)) (n := mnN m n)
  have mb : mnN m n ≤ m ∧ mnN m n ≤ n := by unfold mnN; split <;> omega
  unfold cpI
  split <;> omega
theorem cpI_at {m n j : Nat} {f g : Nat → Int} (hj : j < m ∧ j < n) (h1 : ∀ i, i < j → f i = g i) (h2 : ¬ f j = g j) : cpI m n f g = j := by
  have hm : j < mnN m n := by unfold mnN; split <;> omega
  have e : fd (fun i => !decide (f i = g i)) (mnN m n) = (j : Int) := fd_eq hm (by simp [h2]) (fun i hi => by simp [h1 i hi])
  unfold cpI
  rw [e, if_neg (by omega), tnc]
theorem cpI_all {m n : Nat} {f g : Nat → Int} (h1 : ∀ i, i < mnN m n → f i = g i) : cpI m n f g = mnN m n := by
  unfold cpI
  rw [if_pos (fd_neg.2 (fun i hi => by simp [h1 i hi]))]
theorem cpI_congr {m n : Nat} {f g f' g' : Nat → Int} (h1 : ∀ i, i < m → f i = f' i) (h2 : ∀ i, i < n → g i = g' i) : cpI m n f g = cpI m n f' g' := by
  have mb : mnN m n ≤ m ∧ mnN m n ≤ n := by unfold mnN; split <;> omega
  have e : fd (fun i => !decide (f i = g i)) (mnN m n) = fd (fun i => !decide (f' i = g' i)) (mnN m n) := fd_congr (fun i hi => by rw [h1 i (by omega), h2 i (by omega)])
  unfold cpI
  rw [e]
def whI (m n : Nat) (f g : Nat → Int) : Int := if cpI m n f g < m ∧ cpI m n f g < n then (if f (cpI m n f g) < g (cpI m n f g) then 0 else 1) else if m = n then -1 else if m < n then 0 else 1
def szQ (s : mSt) : Prop := (0 ≤ s 80 0 ∧ s 80 0 ≤ 30) ∧ (0 ≤ s 80 1 ∧ s 80 1 ≤ 30)
theorem v46 {X : (Nat → Int) × Nat} {d : Nat} {s : mSt} {Q : mQ}
  (I18 : Int → Int → Prop) (m18 : Int → Int → Nat)
  (z1 : ∀ y1 : Int, ∀ y2 : Int, I18 y1 y2 → y1 ≤ y2 → Q (some (mI y1)) s)
  (z2 : ∀ y1 : Int, ∀ y2 : Int, I18 y1 y2 → ¬ y1 ≤ y2 → aS S0 (s 77 0).toNat 22 30)
  (z3 : ∀ y1 : Int, ∀ y2 : Int, I18 y1 y2 → ¬ y1 ≤ y2 → aS S0 (s 77 1).toNat 22 30)
  (z4 : ∀ y1 : Int, ∀ y2 : Int, I18 y1 y2 → ¬ y1 ≤ y2 → s 77 0 = (((s 77 0).toNat : Nat) : Int))
  (z5 : ∀ y1 : Int, ∀ y2 : Int, I18 y1 y2 → ¬ y1 ≤ y2 → 0 ≤ y2 ∧ y2 < 30)
  (z6 : ∀ y1 : Int, ∀ y2 : Int, I18 y1 y2 → ¬ y1 ≤ y2 → s 77 1 = (((s 77 1).toNat : Nat) : Int))
  (z7 : ∀ y1 : Int, ∀ y2 : Int, I18 y1 y2 → ¬ y1 ≤ y2 → (s (s 77 0).toNat y2.toNat) = (s (s 77 1).toNat y2.toNat) → I18 y1 (w32 (y2 + 1)) ∧ m18 y1 (w32 (y2 + 1)) < m18 y1 y2)
  (z8 : ∀ y1 : Int, ∀ y2 : Int, I18 y1 y2 → ¬ y1 ≤ y2 → ¬ (s (s 77 0).toNat y2.toNat) = (s (s 77 1).toNat y2.toNat) → Q (some (mI y2)) s)
  (z9 : I18 (iMin (s 80 0) (s 80 1)) 0) :
  Sp X (d + 1) 46 [mR 76] s Q := by
  have L : ∀ k : Nat, (∀ (y1 : Int) (y2 : Int), I18 y1 y2 → m18 y1 y2 < k → Wp X (d + 1) 46 18 [some (mR 76), some (mI y1), some (mI y2)] [] s Q) := by
    intro k
    induction k with
    | zero => exact fun _ _ _ h => absurd h (Nat.not_lt_zero _)
    | succ k ih => exact fun y1 y2 hI hm => b46_18 (fun q1 => b46_50 (z1 y1 y2 hI q1)) (fun q2 => b46_23 (r1 := (s 77 0).toNat) (r2 := (s 77 1).toNat) (z2 y1 y2 hI q2) (z3 y1 y2 hI q2) (z4 y1 y2 hI q2) (z5 y1 y2 hI q2) (z6 y1 y2 hI q2) (z5 y1 y2 hI q2) (fun q3 => b46_44 (ih y1 (w32 (y2 + 1)) (z7 y1 y2 hI q2 q3).1 (Nat.lt_of_lt_of_le (z7 y1 y2 hI q2 q3).2 (Nat.le_of_lt_succ hm)))) (fun q4 => b46_42 (z8 y1 y2 hI q2 q4)))
  exact e46 (b46_0 ((L (m18 (iMin (s 80 0) (s 80 1)) 0 + 1)) (iMin (s 80 0) (s 80 1)) 0 z9 (Nat.lt_succ_self _)))

theorem c46 {X : (Nat → Int) × Nat} {d : Nat} {s : mSt} {Q : mQ} (p1 : LRq s ∧ szQ s) (k : Q (some (mI ((cpI (s 80 0).toNat (s 80 1).toNat (s 78) (s 79) : Nat) : Int))) s) : Sp X (d + 1) 46 [mR 76] s Q := by
  obtain ⟨hl, hz⟩ := p1
  have e0 : s 77 0 = 78 := hl 0 (by decide)
  have e1 : s 77 1 = 79 := hl 1 (by decide)
  let m := (s 80 0).toNat
  let n := (s 80 1).toNat
  have em : iMin (s 80 0) (s 80 1) = ((mnN (s 80 0).toNat (s 80 1).toNat : Nat) : Int) := by
    unfold iMin mnN
    have := hz.1; have := hz.2
    split <;> split <;> omega
  have mb : mnN (s 80 0).toNat (s 80 1).toNat ≤ (s 80 0).toNat ∧ mnN (s 80 0).toNat (s 80 1).toNat ≤ (s 80 1).toNat := by unfold mnN; split <;> omega
  have hz0 := hz.1
  let J : Int → Int → Prop := fun y1 y2 => ∃ j : Nat, y2 = j ∧ y1 = ((mnN (s 80 0).toNat (s 80 1).toNat : Nat) : Int) ∧ j ≤ mnN (s 80 0).toNat (s 80 1).toNat ∧ ∀ i, i < j → s 78 i = s 79 i
  refine v46 J (fun _ y => (40 - y).toNat) ?_ ?_ ?_ ?_ ?_ ?_ ?_ ?_ ⟨0, rfl, em, by omega, fun i hi => by omega⟩
  · rintro _ _ ⟨j, rfl, rfl, hj, ha⟩ hc
    rw [cpI_all (fun i hi => ha i (by omega))] at k; exact k
  · rintro _ _ ⟨j, rfl, rfl, hj, ha⟩ hc
    rw [e0]; exact ln_a (w := 0) (by decide)
  · rintro _ _ ⟨j, rfl, rfl, hj, ha⟩ hc
    rw [e1]; exact ln_a (w := 1) (by decide)
  · rintro _ _ ⟨j, rfl, rfl, hj, ha⟩ hc
    rw [e0]; rfl
  · rintro _ _ ⟨j, rfl, rfl, hj, ha⟩ hc
    omega
  · rintro _ _ ⟨j, rfl, rfl, hj, ha⟩ hc
    rw [e1]; rfl
  · rintro _ _ ⟨j, rfl, rfl, hj, ha⟩ hc q
    rw [e0, e1, tnc] at q
    have q' : s 78 j = s 79 j := q
    rw [w32_of (by omega)]
    refine ⟨⟨j + 1, by omega, rfl, by omega, fun i hi => ?_⟩, by omega⟩
    by_cases z : i = j
    · rw [z]; exact q'
    · exact ha i (by omega)
  · rintro _ _ ⟨j, rfl, rfl, hj, ha⟩ hc q
    rw [e0, e1, tnc] at q
    have q' : ¬ s 78 j = s 79 j := q
    rw [cpI_at (j := j) (by omega) ha q'] at k; exact k
theorem v47 {X : (Nat → Int) × Nat} {d : Nat} {s : mSt} {Q : mQ}
  (z1 : LRq s ∧ szQ s)
  (z2 : (s 80 0) ≤ ((cpI (s 80 0).toNat (s 80 1).toNat (s 78) (s 79) : Nat) : Int) → ¬ (s 80 0) = (s 80 1) → (s 80 1) ≤ (s 80 0) → Q (some (mI 1)) s)
  (z3 : (s 80 0) ≤ ((cpI (s 80 0).toNat (s 80 1).toNat (s 78) (s 79) : Nat) : Int) → ¬ (s 80 0) = (s 80 1) → ¬ (s 80 1) ≤ (s 80 0) → Q (some (mI 0)) s)
  (z4 : (s 80 0) ≤ ((cpI (s 80 0).toNat (s 80 1).toNat (s 78) (s 79) : Nat) : Int) → (s 80 0) = (s 80 1) → Q (some (mI (-1))) s)
  (z5 : ¬ (s 80 0) ≤ ((cpI (s 80 0).toNat (s 80 1).toNat (s 78) (s 79) : Nat) : Int) → (s 80 1) ≤ ((cpI (s 80 0).toNat (s 80 1).toNat (s 78) (s 79) : Nat) : Int) → ¬ (s 80 0) = (s 80 1) → (s 80 1) ≤ (s 80 0) → Q (some (mI 1)) s)
  (z6 : ¬ (s 80 0) ≤ ((cpI (s 80 0).toNat (s 80 1).toNat (s 78) (s 79) : Nat) : Int) → (s 80 1) ≤ ((cpI (s 80 0).toNat (s 80 1).toNat (s 78) (s 79) : Nat) : Int) → ¬ (s 80 0) = (s 80 1) → ¬ (s 80 1) ≤ (s 80 0) → Q (some (mI 0)) s)
  (z7 : ¬ (s 80 0) ≤ ((cpI (s 80 0).toNat (s 80 1).toNat (s 78) (s 79) : Nat) : Int) → (s 80 1) ≤ ((cpI (s 80 0).toNat (s 80 1).toNat (s 78) (s 79) : Nat) : Int) → (s 80 0) = (s 80 1) → Q (some (mI (-1))) s)
  (z8 : ¬ (s 80 0) ≤ ((cpI (s 80 0).toNat (s 80 1).toNat (s 78) (s 79) : Nat) : Int) → ¬ (s 80 1) ≤ ((cpI (s 80 0).toNat (s 80 1).toNat (s 78) (s 79) : Nat) : Int) → aS S0 (s 77 0).toNat 22 30)
  (z9 : ¬ (s 80 0) ≤ ((cpI (s 80 0).toNat (s 80 1).toNat (s 78) (s 79) : Nat) : Int) → ¬ (s 80 1) ≤ ((cpI (s 80 0).toNat (s 80 1).toNat (s 78) (s 79) : Nat) : Int) → aS S0 (s 77 1).toNat 22 30)
  (z10 : ¬ (s 80 0) ≤ ((cpI (s 80 0).toNat (s 80 1).toNat (s 78) (s 79) : Nat) : Int) → ¬ (s 80 1) ≤ ((cpI (s 80 0).toNat (s 80 1).toNat (s 78) (s 79) : Nat) : Int) → s 77 0 = (((s 77 0).toNat : Nat) : Int))
  (z11 : ¬ (s 80 0) ≤ ((cpI (s 80 0).toNat (s 80 1).toNat (s 78) (s 79) : Nat) : Int) → ¬ (s 80 1) ≤ ((cpI (s 80 0).toNat (s 80 1).toNat (s 78) (s 79) : Nat) : Int) → 0 ≤ ((cpI (s 80 0).toNat (s 80 1).toNat (s 78) (s 79) : Nat) : Int) ∧ ((cpI (s 80 0).toNat (s 80 1).toNat (s 78) (s 79) : Nat) : Int) < 30)
  (z12 : ¬ (s 80 0) ≤ ((cpI (s 80 0).toNat (s 80 1).toNat (s 78) (s 79) : Nat) : Int) → ¬ (s 80 1) ≤ ((cpI (s 80 0).toNat (s 80 1).toNat (s 78) (s 79) : Nat) : Int) → s 77 1 = (((s 77 1).toNat : Nat) : Int))
  (z13 : ¬ (s 80 0) ≤ ((cpI (s 80 0).toNat (s 80 1).toNat (s 78) (s 79) : Nat) : Int) → ¬ (s 80 1) ≤ ((cpI (s 80 0).toNat (s 80 1).toNat (s 78) (s 79) : Nat) : Int) → (s (s 77 1).toNat ((cpI (s 80 0).toNat (s 80 1).toNat (s 78) (s 79) : Nat) : Int).toNat) ≤ (s (s 77 0).toNat ((cpI (s 80 0).toNat (s 80 1).toNat (s 78) (s 79) : Nat) : Int).toNat) → Q (some (mI 1)) s)
  (z14 : ¬ (s 80 0) ≤ ((cpI (s 80 0).toNat (s 80 1).toNat (s 78) (s 79) : Nat) : Int) → ¬ (s 80 1) ≤ ((cpI (s 80 0).toNat (s 80 1).toNat (s 78) (s 79) : Nat) : Int) → ¬ (s (s 77 1).toNat ((cpI (s 80 0).toNat (s 80 1).toNat (s 78) (s 79) : Nat) : Int).toNat) ≤ (s (s 77 0).toNat ((cpI (s 80 0).toNat (s 80 1).toNat (s 78) (s 79) : Nat) : Int).toNat) → Q (some (mI 0)) s) :
  Sp X (d + 2) 47 [mR 76] s Q := e47 (b47_0 (c46 z1 ⟨_, rfl, b47_4 (fun q1 => b47_50 (fun q2 => b47_67 (fun q3 => b47_86 (b47_87 (z2 q1 q2 q3))) (fun q4 => b47_82 (b47_87 (z3 q1 q2 q4)))) (fun q5 => b47_65 (z4 q1 q5))) (fun q6 => b47_15 (fun q7 => b47_50 (fun q8 => b47_67 (fun q9 => b47_86 (b47_87 (z5 q6 q7 q8 q9))) (fun q10 => b47_82 (b47_87 (z6 q6 q7 q8 q10)))) (fun q11 => b47_65 (z7 q6 q7 q11))) (fun q12 => b47_25 (r1 := (s 77 0).toNat) (r2 := (s 77 1).toNat) (z8 q6 q12) (z9 q6 q12) (z10 q6 q12) (z11 q6 q12) (z12 q6 q12) (z11 q6 q12) (fun q13 => b47_48 (b47_49 (z13 q6 q12 q13))) (fun q14 => b47_44 (b47_49 (z14 q6 q12 q14)))))⟩))

theorem c47 {X : (Nat → Int) × Nat} {d : Nat} {s : mSt} {Q : mQ} (p1 : LRq s ∧ szQ s) (k : Q (some (mI (whI (s 80 0).toNat (s 80 1).toNat (s 78) (s 79)))) s) : Sp X (d + 2) 47 [mR 76] s Q := by
  obtain ⟨hl, hz⟩ := p1
  have e0 : s 77 0 = 78 := hl 0 (by decide)
  have e1 : s 77 1 = 79 := hl 1 (by decide)
  have z0 := hz.1
  have z1 := hz.2
  let c := cpI (s 80 0).toNat (s 80 1).toNat (s 78) (s 79)
  have cb := cpI_b (s 80 0).toNat (s 80 1).toNat (s 78) (s 79)
  have y1 : ¬ (cpI (s 80 0).toNat (s 80 1).toNat (s 78) (s 79) < (s 80 0).toNat ∧ cpI (s 80 0).toNat (s 80 1).toNat (s 78) (s 79) < (s 80 1).toNat) → whI (s 80 0).toNat (s 80 1).toNat (s 78) (s 79) = if (s 80 0).toNat = (s 80 1).toNat then -1 else if (s 80 0).toNat < (s 80 1).toNat then 0 else 1 := fun z => by unfold whI; rw [if_neg z]
  have y2 : (cpI (s 80 0).toNat (s 80 1).toNat (s 78) (s 79) < (s 80 0).toNat ∧ cpI (s 80 0).toNat (s 80 1).toNat (s 78) (s 79) < (s 80 1).toNat) → whI (s 80 0).toNat (s 80 1).toNat (s 78) (s 79) = if s 78 (cpI (s 80 0).toNat (s 80 1).toNat (s 78) (s 79)) < s 79 (cpI (s 80 0).toNat (s 80 1).toNat (s 78) (s 79)) then 0 else 1 := fun z => by unfold whI; rw [if_pos z]
  refine v47 ⟨hl, hz⟩ (fun g1 g2 g3 => ?_) (fun g1 g2 g3 => ?_) (fun g1 g2 => ?_) (fun g0 g1 g2 g3 => ?_) (fun g0 g1 g2 g3 => ?_) (fun g0 g1 g2 => ?_) (fun _ _ => by rw [e0]; exact ln_a (w := 0) (by decide)) (fun _ _ => by rw [e1]; exact ln_a (w := 1) (by decide)) (fun _ _ => by rw [e0]; rfl) (fun g0 g1 => by omega) (fun _ _ => by rw [e1]; rfl) (fun g0 g1 g2 => ?_) (fun g0 g1 g2 => ?_)
  · rw [y1 (by omega), if_neg (by omega), if_neg (by omega)] at k; exact k
  · rw [y1 (by omega), if_neg (by omega), if_pos (by omega)] at k; exact k
  · rw [y1 (by omega), if_pos (by omega)] at k; exact k
  · rw [y1 (by omega), if_neg (by omega), if_neg (by omega)] at k; exact k
  · rw [y1 (by omega), if_neg (by omega), if_pos (by omega)] at k; exact k
  · rw [y1 (by omega), if_pos (by omega)] at k; exact k
  · rw [e0, e1, tnc] at g2
    have g2' : s 79 (cpI (s 80 0).toNat (s 80 1).toNat (s 78) (s 79)) ≤ s 78 (cpI (s 80 0).toNat (s 80 1).toNat (s 78) (s 79)) := g2
    rw [y2 (by omega), if_neg (by omega)] at k; exact k
  · rw [e0, e1, tnc] at g2
    have g2' : ¬ s 79 (cpI (s 80 0).toNat (s 80 1).toNat (s 78) (s 79)) ≤ s 78 (cpI (s 80 0).toNat (s 80 1).toNat (s 78) (s 79)) := g2
    rw [y2 (by omega), if_pos (by omega)] at k; exact k
def fiV (L1 L2 : List Int) (x y w : Int) : Int := if w = 1 then ((cpI L1.length L2.length (fun i => L1.getD i 0) (fun i => L2.getD i 0) : Nat) : Int) else
  if whI L1.length L2.length (fun i => L1.getD i 0) (fun i => L2.getD i 0) = 0 then x else if whI L1.length L2.length (fun i => L1.getD i 0) (fun i => L2.getD i 0) = 1 then y else -2
def fiQ (a : Rw) (x y w r : Int) : Prop := YN (drC a x ∧ drC a y ∧ ¬ x = y ∧ (0 ≤ w ∧ w ≤ 1)) (r = fiV (tx (sgL a x.toNat) 30).1 (tx (sgL a y.toNat) 30).1 x y w) (r = -1)
theorem whI_congr {m n : Nat} {f g f' g' : Nat → Int} (h1 : ∀ i, i < m → f i = f' i) (h2 : ∀ i, i < n → g i = g' i) : whI m n f g = whI m n f' g' := by
  unfold whI
  rw [cpI_congr h1 h2]
  by_cases z : cpI m n f' g' < m ∧ cpI m n f' g' < n
  · rw [if_pos z, if_pos z, h1 _ z.1, h2 _ z.2]
  · rw [if_neg z, if_neg z]
theorem v143 {X : (Nat → Int) × Nat} {d : Nat} {s : mSt} {Q : mQ} {x1 : Int} {x2 : Int} {x3 : Int}
  (z1 : BI s 18)
  (z2 : ((0 ≤ x1 ∧ x1 < s 18 3) ∧ pl (brow s 18) x1.toNat = true) → BI s 18)
  (z3 : ((0 ≤ x1 ∧ x1 < s 18 3) ∧ pl (brow s 18) x1.toNat = true) → ((0 ≤ x2 ∧ x2 < s 18 3) ∧ pl (brow s 18) x2.toNat = true) → x1 = x2 → Q (some (mI (-1))) s)
  (z4 : ((0 ≤ x1 ∧ x1 < s 18 3) ∧ pl (brow s 18) x1.toNat = true) → ((0 ≤ x2 ∧ x2 < s 18 3) ∧ pl (brow s 18) x2.toNat = true) → ¬ x1 = x2 → x3 < 0 → Q (some (mI (-1))) s)
  (z5 : ((0 ≤ x1 ∧ x1 < s 18 3) ∧ pl (brow s 18) x1.toNat = true) → ((0 ≤ x2 ∧ x2 < s 18 3) ∧ pl (brow s 18) x2.toNat = true) → ¬ x1 = x2 → ¬ x3 < 0 → x3 ≤ 1 → BI s 18 ∧ ((0 ≤ x1 ∧ x1 < s 18 3) ∧ pl (brow s 18) x1.toNat = true) ∧ (0 ≤ (0 : Int) ∧ (0 : Int) < 2) ∧ LRq s ∧ ¬ (77 ≤ 18 + 9 ∧ 18 ≤ 80))
  (z6 : ((0 ≤ x1 ∧ x1 < s 18 3) ∧ pl (brow s 18) x1.toNat = true) → ((0 ≤ x2 ∧ x2 < s 18 3) ∧ pl (brow s 18) x2.toNat = true) → ¬ x1 = x2 → ¬ x3 < 0 → x3 ≤ 1 → ∀ s8 : mSt, (TXc s8 (0 : Int).toNat (tx (sgL (brow s 18) x1.toNat) 30).1 ∧ frW s s8 (0 : Int).toNat) → BI s8 18 ∧ ((0 ≤ x2 ∧ x2 < s8 18 3) ∧ pl (brow s8 18) x2.toNat = true) ∧ (0 ≤ (1 : Int) ∧ (1 : Int) < 2) ∧ LRq s8 ∧ ¬ (77 ≤ 18 + 9 ∧ 18 ≤ 80))
  (z7 : ((0 ≤ x1 ∧ x1 < s 18 3) ∧ pl (brow s 18) x1.toNat = true) → ((0 ≤ x2 ∧ x2 < s 18 3) ∧ pl (brow s 18) x2.toNat = true) → ¬ x1 = x2 → ¬ x3 < 0 → x3 ≤ 1 → ∀ s8 : mSt, (TXc s8 (0 : Int).toNat (tx (sgL (brow s 18) x1.toNat) 30).1 ∧ frW s s8 (0 : Int).toNat) → ∀ s9 : mSt, (TXc s9 (1 : Int).toNat (tx (sgL (brow s8 18) x2.toNat) 30).1 ∧ frW s8 s9 (1 : Int).toNat) → ¬ x3 = 1 → LRq s9 ∧ szQ s9)
  (z8 : ((0 ≤ x1 ∧ x1 < s 18 3) ∧ pl (brow s 18) x1.toNat = true) → ((0 ≤ x2 ∧ x2 < s 18 3) ∧ pl (brow s 18) x2.toNat = true) → ¬ x1 = x2 → ¬ x3 < 0 → x3 ≤ 1 → ∀ s8 : mSt, (TXc s8 (0 : Int).toNat (tx (sgL (brow s 18) x1.toNat) 30).1 ∧ frW s s8 (0 : Int).toNat) → ∀ s9 : mSt, (TXc s9 (1 : Int).toNat (tx (sgL (brow s8 18) x2.toNat) 30).1 ∧ frW s8 s9 (1 : Int).toNat) → ¬ x3 = 1 → ¬ (whI (s9 80 0).toNat (s9 80 1).toNat (s9 78) (s9 79)) = 0 → ¬ (whI (s9 80 0).toNat (s9 80 1).toNat (s9 78) (s9 79)) = 1 → Q (some (mI (-2))) s9)
  (z9 : ((0 ≤ x1 ∧ x1 < s 18 3) ∧ pl (brow s 18) x1.toNat = true) → ((0 ≤ x2 ∧ x2 < s 18 3) ∧ pl (brow s 18) x2.toNat = true) → ¬ x1 = x2 → ¬ x3 < 0 → x3 ≤ 1 → ∀ s8 : mSt, (TXc s8 (0 : Int).toNat (tx (sgL (brow s 18) x1.toNat) 30).1 ∧ frW s s8 (0 : Int).toNat) → ∀ s9 : mSt, (TXc s9 (1 : Int).toNat (tx (sgL (brow s8 18) x2.toNat) 30).1 ∧ frW s8 s9 (1 : Int).toNat) → ¬ x3 = 1 → ¬ (whI (s9 80 0).toNat (s9 80 1).toNat (s9 78) (s9 79)) = 0 → (whI (s9 80 0).toNat (s9 80 1).toNat (s9 78) (s9 79)) = 1 → Q (some (mI x2)) s9)
  (z10 : ((0 ≤ x1 ∧ x1 < s 18 3) ∧ pl (brow s 18) x1.toNat = true) → ((0 ≤ x2 ∧ x2 < s 18 3) ∧ pl (brow s 18) x2.toNat = true) → ¬ x1 = x2 → ¬ x3 < 0 → x3 ≤ 1 → ∀ s8 : mSt, (TXc s8 (0 : Int).toNat (tx (sgL (brow s 18) x1.toNat) 30).1 ∧ frW s s8 (0 : Int).toNat) → ∀ s9 : mSt, (TXc s9 (1 : Int).toNat (tx (sgL (brow s8 18) x2.toNat) 30).1 ∧ frW s8 s9 (1 : Int).toNat) → ¬ x3 = 1 → (whI (s9 80 0).toNat (s9 80 1).toNat (s9 78) (s9 79)) = 0 → Q (some (mI x1)) s9)
  (z11 : ((0 ≤ x1 ∧ x1 < s 18 3) ∧ pl (brow s 18) x1.toNat = true) → ((0 ≤ x2 ∧ x2 < s 18 3) ∧ pl (brow s 18) x2.toNat = true) → ¬ x1 = x2 → ¬ x3 < 0 → x3 ≤ 1 → ∀ s8 : mSt, (TXc s8 (0 : Int).toNat (tx (sgL (brow s 18) x1.toNat) 30).1 ∧ frW s s8 (0 : Int).toNat) → ∀ s9 : mSt, (TXc s9 (1 : Int).toNat (tx (sgL (brow s8 18) x2.toNat) 30).1 ∧ frW s8 s9 (1 : Int).toNat) → x3 = 1 → LRq s9 ∧ szQ s9)
  (z12 : ((0 ≤ x1 ∧ x1 < s 18 3) ∧ pl (brow s 18) x1.toNat = true) → ((0 ≤ x2 ∧ x2 < s 18 3) ∧ pl (brow s 18) x2.toNat = true) → ¬ x1 = x2 → ¬ x3 < 0 → x3 ≤ 1 → ∀ s8 : mSt, (TXc s8 (0 : Int).toNat (tx (sgL (brow s 18) x1.toNat) 30).1 ∧ frW s s8 (0 : Int).toNat) → ∀ s9 : mSt, (TXc s9 (1 : Int).toNat (tx (sgL (brow s8 18) x2.toNat) 30).1 ∧ frW s8 s9 (1 : Int).toNat) → x3 = 1 → Q (some (mI ((cpI (s9 80 0).toNat (s9 80 1).toNat (s9 78) (s9 79) : Nat) : Int))) s9)
  (z13 : ((0 ≤ x1 ∧ x1 < s 18 3) ∧ pl (brow s 18) x1.toNat = true) → ((0 ≤ x2 ∧ x2 < s 18 3) ∧ pl (brow s 18) x2.toNat = true) → ¬ x1 = x2 → ¬ x3 < 0 → ¬ x3 ≤ 1 → Q (some (mI (-1))) s)
  (z14 : ((0 ≤ x1 ∧ x1 < s 18 3) ∧ pl (brow s 18) x1.toNat = true) → (¬ ((0 ≤ x2 ∧ x2 < s 18 3) ∧ pl (brow s 18) x2.toNat = true)) → Q (some (mI (-1))) s)
  (z15 : (¬ ((0 ≤ x1 ∧ x1 < s 18 3) ∧ pl (brow s 18) x1.toNat = true)) → Q (some (mI (-1))) s) :
  Sp X (d + 3) 143 [mR 0, mI x1, mI x2, mI x3] s Q := e143 (b143_0 (c9 (bdm rfl) z1 (fun q1 => ⟨1, rfl, b143_15 (fun q => absurd q (by decide)) (fun _ => b143_18 (c9 (bdm rfl) (z2 q1) (fun q2 => ⟨1, rfl, b143_24 (fun q => absurd q (by decide)) (fun _ => b143_27 (fun q3 => b143_41 (z3 q1 q2 q3)) (fun q4 => b143_32 (fun q5 => b143_41 (z4 q1 q2 q4 q5)) (fun q6 => b143_36 (fun q7 => b143_43 (c43 (bdm rfl) (z5 q1 q2 q4 q6 q7) (fun s8 q8 => ⟨rfl, b143_54 (c43 (bdm rfl) (z6 q1 q2 q4 q6 q7 s8 q8) (fun s9 q9 => ⟨rfl, b143_65 (fun q10 => b143_78 (c47 (z7 q1 q2 q4 q6 q7 s8 q8 s9 q9 q10) ⟨_, rfl, b143_85 (fun q11 => b143_96 (fun q12 => b143_106 (b143_108 (z8 q1 q2 q4 q6 q7 s8 q8 s9 q9 q10 q11 q12))) (fun q13 => b143_102 (b143_108 (z9 q1 q2 q4 q6 q7 s8 q8 s9 q9 q10 q11 q13)))) (fun q14 => b143_92 (b143_108 (z10 q1 q2 q4 q6 q7 s8 q8 s9 q9 q10 q14)))⟩)) (fun q15 => b143_70 (c46 (z11 q1 q2 q4 q6 q7 s8 q8 s9 q9 q15) ⟨_, rfl, b143_77 (z12 q1 q2 q4 q6 q7 s8 q8 s9 q9 q15)⟩))⟩))⟩))) (fun q16 => b143_41 (z13 q1 q2 q4 q6 q16)))))⟩) (fun q17 => ⟨0, rfl, b143_24 (fun _ => b143_41 (z14 q1 q17)) (fun q => absurd q (by decide))⟩)))⟩) (fun q18 => ⟨0, rfl, b143_15 (fun _ => b143_41 (z15 q18)) (fun q => absurd q (by decide))⟩)))

theorem c143 {X : (Nat → Int) × Nat} {d : Nat} {s : mSt} {Q : mQ} {x1 : Int} {x2 : Int} {x3 : Int} (p1 : BI s 18 ∧ LRq s) (k : ∀ (v : Int) (t : mSt), (fiQ (brow s 18) x1 x2 x3 v ∧ fl2 s t) → Q (some (mI v)) t) : Sp X (d + 3) 143 [mR 0, mI x1, mI x2, mI x3] s Q := by
  obtain ⟨hB, hl⟩ := p1
  have e4 := bi4 hB
  have dI : ∀ x : Int, ((0 ≤ x ∧ x < s 18 3) ∧ pl (brow s 18) x.toNat = true) ↔ drC (brow s 18) x := fun x => by unfold drC; rw [← e4]
  let L1 := (tx (sgL (brow s 18) x1.toNat) 30).1
  let L2 := (tx (sgL (brow s 18) x2.toNat) 30).1
  have t1 : L1.length ≤ 30 := txL (sgL (brow s 18) x1.toNat)
  have t2 : L2.length ≤ 30 := txL (sgL (brow s 18) x2.toNat)
  have no : ¬ (drC (brow s 18) x1 ∧ drC (brow s 18) x2 ∧ ¬ x1 = x2 ∧ (0 ≤ x3 ∧ x3 ≤ 1)) → Q (some (mI (-1))) s := fun w => k _ s ⟨YN_n w rfl, fun _ _ => rfl⟩
  have now : ∀ t : mSt, frW s t 0 → BI t 18 ∧ brow t 18 = brow s 18 ∧ t 18 = s 18 := fun t ht => by
    have q := BI_cells (t := t) hB (fun x hx => ht.1 x (by omega) (by omega)) (ht.1 417 (by omega) (by omega))
    exact ⟨q.1, q.2, ht.1 18 (by omega) (by omega)⟩
  have two : ∀ t u : mSt, (TXc t (0 : Int).toNat (tx (sgL (brow s 18) x1.toNat) 30).1 ∧ frW s t (0 : Int).toNat) → (TXc u (1 : Int).toNat (tx (sgL (brow t 18) x2.toNat) 30).1 ∧ frW t u (1 : Int).toNat) → (LRq u ∧ szQ u) ∧ fl2 s u ∧ (u 80 0).toNat = L1.length ∧ (u 80 1).toNat = L2.length ∧ (∀ i, i < L1.length → u 78 i = L1.getD i 0) ∧ ∀ i, i < L2.length → u 79 i = L2.getD i 0 := fun t u ht hu => by
    have f1 : frW s t 0 := ht.2
    have f2 : frW t u 1 := hu.2
    rw [(now t f1).2.1] at hu
    have a0 : u 80 0 = (L1.length : Int) := by rw [f2.2 0 (by decide)]; exact ht.1.1
    have a1 : u 80 1 = (L2.length : Int) := hu.1.1
    refine ⟨⟨LRq_f (by decide) (LRq_f (by decide) hl f1) f2, by unfold szQ; rw [a0, a1]; omega⟩, fun b hb => (f2.1 b (by omega) (by omega)).trans (f1.1 b (by omega) (by omega)), by rw [a0, tnc], by rw [a1, tnc], fun i hi => ?_, fun i hi => ?_⟩
    · rw [f2.1 78 (by decide) (by decide)]; exact ht.1.2 i hi
    · exact hu.1.2 i hi
  have ys : ∀ (u : mSt) (r : Int), ((0 ≤ x1 ∧ x1 < s 18 3) ∧ pl (brow s 18) x1.toNat = true) → ((0 ≤ x2 ∧ x2 < s 18 3) ∧ pl (brow s 18) x2.toNat = true) → ¬ x1 = x2 → (0 ≤ x3 ∧ x3 ≤ 1) → fl2 s u → r = fiV L1 L2 x1 x2 x3 → Q (some (mI r)) u := fun u r g1 g2 g3 g4 hf e => k _ u ⟨YN_y ⟨(dI x1).1 g1, (dI x2).1 g2, g3, g4⟩ e, hf⟩
  have wq : ∀ u : mSt, (u 80 0).toNat = L1.length → (u 80 1).toNat = L2.length → (∀ i, i < L1.length → u 78 i = L1.getD i 0) → (∀ i, i < L2.length → u 79 i = L2.getD i 0) → whI (u 80 0).toNat (u 80 1).toNat (u 78) (u 79) = whI L1.length L2.length (fun i => L1.getD i 0) (fun i => L2.getD i 0) := fun u e0 e1 a0 a1 => by rw [e0, e1]; exact whI_congr a0 a1
  refine v143 hB (fun _ => hB) (fun g1 g2 g3 => no (fun z => z.2.2.1 g3)) (fun g1 g2 g3 g4 => no (fun z => by have := z.2.2.2; omega)) (fun g1 g2 g3 g4 g5 => ⟨hB, g1, by decide, hl, by decide⟩) (fun g1 g2 g3 g4 g5 t ht => ?_) (fun g1 g2 g3 g4 g5 t ht u hu q => (two t u ht hu).1) (fun g1 g2 g3 g4 g5 t ht u hu q q1 q2 => ?_) (fun g1 g2 g3 g4 g5 t ht u hu q q1 q2 => ?_) (fun g1 g2 g3 g4 g5 t ht u hu q q1 => ?_) (fun g1 g2 g3 g4 g5 t ht u hu q => (two t u ht hu).1) (fun g1 g2 g3 g4 g5 t ht u hu q => ?_) (fun g1 g2 g3 g4 g5 => no (fun z => by have := z.2.2.2; omega)) (fun g1 g2 => no (fun z => g2 ((dI x2).2 z.2.1))) (fun g1 => no (fun z => g1 ((dI x1).2 z.1)))
  · have w := now t ht.2
    rw [w.2.1, w.2.2]
    exact ⟨w.1, g2, by decide, LRq_f (by decide) hl ht.2, by decide⟩
  · have w := two t u ht hu
    rw [wq u w.2.2.1 w.2.2.2.1 w.2.2.2.2.1 w.2.2.2.2.2] at q1 q2
    exact ys u _ g1 g2 g3 (by omega) w.2.1 (by unfold fiV; rw [if_neg q, if_neg q1, if_neg q2])
  · have w := two t u ht hu
    rw [wq u w.2.2.1 w.2.2.2.1 w.2.2.2.2.1 w.2.2.2.2.2] at q1 q2
    exact ys u _ g1 g2 g3 (by omega) w.2.1 (by unfold fiV; rw [if_neg q, if_neg q1, if_pos q2])
  · have w := two t u ht hu
    rw [wq u w.2.2.1 w.2.2.2.1 w.2.2.2.2.1 w.2.2.2.2.2] at q1
    exact ys u _ g1 g2 g3 (by omega) w.2.1 (by unfold fiV; rw [if_neg q, if_pos q1])
  · have w := two t u ht hu
    refine ys u _ g1 g2 g3 (by omega) w.2.1 ?_
    unfold fiV
    rw [if_pos q, w.2.2.1, w.2.2.2.1, cpI_congr w.2.2.2.2.1 w.2.2.2.2.2]
theorem v270 {X : (Nat → Int) × Nat} {d : Nat} {s : mSt} {Q : mQ} {x1 : Int} {x2 : Int} {x3 : Int}
  (I48 : Int → mSt → Prop) (m48 : Int → mSt → Nat)
  (z1 : ∀ y4 : Int, ∀ s : mSt, I48 y4 s → (s 425 0) ≤ y4 → ¬ x3 = 1 → y4 = (s 425 0) → ¬ (s 425 0) = (s 425 1) → (s 425 1) ≤ (s 425 0) → Q (some (mI x2)) s)
  (z2 : ∀ y4 : Int, ∀ s : mSt, I48 y4 s → (s 425 0) ≤ y4 → ¬ x3 = 1 → y4 = (s 425 0) → ¬ (s 425 0) = (s 425 1) → ¬ (s 425 1) ≤ (s 425 0) → Q (some (mI x1)) s)
  (z3 : ∀ y4 : Int, ∀ s : mSt, I48 y4 s → (s 425 0) ≤ y4 → ¬ x3 = 1 → y4 = (s 425 0) → (s 425 0) = (s 425 1) → Q (some (mI (-2))) s)
  (z4 : ∀ y4 : Int, ∀ s : mSt, I48 y4 s → (s 425 0) ≤ y4 → ¬ x3 = 1 → ¬ y4 = (s 425 0) → ¬ y4 = (s 425 1) → 0 ≤ y4 ∧ y4 < 120)
  (z5 : ∀ y4 : Int, ∀ s : mSt, I48 y4 s → (s 425 0) ≤ y4 → ¬ x3 = 1 → ¬ y4 = (s 425 0) → ¬ y4 = (s 425 1) → 0 ≤ (w32 (60 + y4)) ∧ (w32 (60 + y4)) < 120)
  (z6 : ∀ y4 : Int, ∀ s : mSt, I48 y4 s → (s 425 0) ≤ y4 → ¬ x3 = 1 → ¬ y4 = (s 425 0) → ¬ y4 = (s 425 1) → (s 424 (w32 (60 + y4)).toNat) ≤ (s 424 y4.toNat) → Q (some (mI x2)) s)
  (z7 : ∀ y4 : Int, ∀ s : mSt, I48 y4 s → (s 425 0) ≤ y4 → ¬ x3 = 1 → ¬ y4 = (s 425 0) → ¬ y4 = (s 425 1) → ¬ (s 424 (w32 (60 + y4)).toNat) ≤ (s 424 y4.toNat) → Q (some (mI x1)) s)
  (z8 : ∀ y4 : Int, ∀ s : mSt, I48 y4 s → (s 425 0) ≤ y4 → ¬ x3 = 1 → ¬ y4 = (s 425 0) → y4 = (s 425 1) → ¬ (s 425 0) = (s 425 1) → (s 425 1) ≤ (s 425 0) → Q (some (mI x2)) s)
  (z9 : ∀ y4 : Int, ∀ s : mSt, I48 y4 s → (s 425 0) ≤ y4 → ¬ x3 = 1 → ¬ y4 = (s 425 0) → y4 = (s 425 1) → ¬ (s 425 0) = (s 425 1) → ¬ (s 425 1) ≤ (s 425 0) → Q (some (mI x1)) s)
  (z10 : ∀ y4 : Int, ∀ s : mSt, I48 y4 s → (s 425 0) ≤ y4 → ¬ x3 = 1 → ¬ y4 = (s 425 0) → y4 = (s 425 1) → (s 425 0) = (s 425 1) → Q (some (mI (-2))) s)
  (z11 : ∀ y4 : Int, ∀ s : mSt, I48 y4 s → (s 425 0) ≤ y4 → x3 = 1 → Q (some (mI y4)) s)
  (z12 : ∀ y4 : Int, ∀ s : mSt, I48 y4 s → ¬ (s 425 0) ≤ y4 → (s 425 1) ≤ y4 → ¬ x3 = 1 → y4 = (s 425 0) → ¬ (s 425 0) = (s 425 1) → (s 425 1) ≤ (s 425 0) → Q (some (mI x2)) s)
  (z13 : ∀ y4 : Int, ∀ s : mSt, I48 y4 s → ¬ (s 425 0) ≤ y4 → (s 425 1) ≤ y4 → ¬ x3 = 1 → y4 = (s 425 0) → ¬ (s 425 0) = (s 425 1) → ¬ (s 425 1) ≤ (s 425 0) → Q (some (mI x1)) s)
  (z14 : ∀ y4 : Int, ∀ s : mSt, I48 y4 s → ¬ (s 425 0) ≤ y4 → (s 425 1) ≤ y4 → ¬ x3 = 1 → y4 = (s 425 0) → (s 425 0) = (s 425 1) → Q (some (mI (-2))) s)
  (z15 : ∀ y4 : Int, ∀ s : mSt, I48 y4 s → ¬ (s 425 0) ≤ y4 → (s 425 1) ≤ y4 → ¬ x3 = 1 → ¬ y4 = (s 425 0) → ¬ y4 = (s 425 1) → 0 ≤ y4 ∧ y4 < 120)
  (z16 : ∀ y4 : Int, ∀ s : mSt, I48 y4 s → ¬ (s 425 0) ≤ y4 → (s 425 1) ≤ y4 → ¬ x3 = 1 → ¬ y4 = (s 425 0) → ¬ y4 = (s 425 1) → 0 ≤ (w32 (60 + y4)) ∧ (w32 (60 + y4)) < 120)
  (z17 : ∀ y4 : Int, ∀ s : mSt, I48 y4 s → ¬ (s 425 0) ≤ y4 → (s 425 1) ≤ y4 → ¬ x3 = 1 → ¬ y4 = (s 425 0) → ¬ y4 = (s 425 1) → (s 424 (w32 (60 + y4)).toNat) ≤ (s 424 y4.toNat) → Q (some (mI x2)) s)
  (z18 : ∀ y4 : Int, ∀ s : mSt, I48 y4 s → ¬ (s 425 0) ≤ y4 → (s 425 1) ≤ y4 → ¬ x3 = 1 → ¬ y4 = (s 425 0) → ¬ y4 = (s 425 1) → ¬ (s 424 (w32 (60 + y4)).toNat) ≤ (s 424 y4.toNat) → Q (some (mI x1)) s)
  (z19 : ∀ y4 : Int, ∀ s : mSt, I48 y4 s → ¬ (s 425 0) ≤ y4 → (s 425 1) ≤ y4 → ¬ x3 = 1 → ¬ y4 = (s 425 0) → y4 = (s 425 1) → ¬ (s 425 0) = (s 425 1) → (s 425 1) ≤ (s 425 0) → Q (some (mI x2)) s)
  (z20 : ∀ y4 : Int, ∀ s : mSt, I48 y4 s → ¬ (s 425 0) ≤ y4 → (s 425 1) ≤ y4 → ¬ x3 = 1 → ¬ y4 = (s 425 0) → y4 = (s 425 1) → ¬ (s 425 0) = (s 425 1) → ¬ (s 425 1) ≤ (s 425 0) → Q (some (mI x1)) s)
  (z21 : ∀ y4 : Int, ∀ s : mSt, I48 y4 s → ¬ (s 425 0) ≤ y4 → (s 425 1) ≤ y4 → ¬ x3 = 1 → ¬ y4 = (s 425 0) → y4 = (s 425 1) → (s 425 0) = (s 425 1) → Q (some (mI (-2))) s)
  (z22 : ∀ y4 : Int, ∀ s : mSt, I48 y4 s → ¬ (s 425 0) ≤ y4 → (s 425 1) ≤ y4 → x3 = 1 → Q (some (mI y4)) s)
  (z23 : ∀ y4 : Int, ∀ s : mSt, I48 y4 s → ¬ (s 425 0) ≤ y4 → ¬ (s 425 1) ≤ y4 → 0 ≤ y4 ∧ y4 < 120)
  (z24 : ∀ y4 : Int, ∀ s : mSt, I48 y4 s → ¬ (s 425 0) ≤ y4 → ¬ (s 425 1) ≤ y4 → 0 ≤ (w32 (60 + y4)) ∧ (w32 (60 + y4)) < 120)
  (z25 : ∀ y4 : Int, ∀ s : mSt, I48 y4 s → ¬ (s 425 0) ≤ y4 → ¬ (s 425 1) ≤ y4 → ¬ (s 424 y4.toNat) = (s 424 (w32 (60 + y4)).toNat) → ¬ x3 = 1 → y4 = (s 425 0) → ¬ (s 425 0) = (s 425 1) → (s 425 1) ≤ (s 425 0) → Q (some (mI x2)) s)
  (z26 : ∀ y4 : Int, ∀ s : mSt, I48 y4 s → ¬ (s 425 0) ≤ y4 → ¬ (s 425 1) ≤ y4 → ¬ (s 424 y4.toNat) = (s 424 (w32 (60 + y4)).toNat) → ¬ x3 = 1 → y4 = (s 425 0) → ¬ (s 425 0) = (s 425 1) → ¬ (s 425 1) ≤ (s 425 0) → Q (some (mI x1)) s)
  (z27 : ∀ y4 : Int, ∀ s : mSt, I48 y4 s → ¬ (s 425 0) ≤ y4 → ¬ (s 425 1) ≤ y4 → ¬ (s 424 y4.toNat) = (s 424 (w32 (60 + y4)).toNat) → ¬ x3 = 1 → y4 = (s 425 0) → (s 425 0) = (s 425 1) → Q (some (mI (-2))) s)
  (z28 : ∀ y4 : Int, ∀ s : mSt, I48 y4 s → ¬ (s 425 0) ≤ y4 → ¬ (s 425 1) ≤ y4 → ¬ (s 424 y4.toNat) = (s 424 (w32 (60 + y4)).toNat) → ¬ x3 = 1 → ¬ y4 = (s 425 0) → ¬ y4 = (s 425 1) → 0 ≤ y4 ∧ y4 < 120)
  (z29 : ∀ y4 : Int, ∀ s : mSt, I48 y4 s → ¬ (s 425 0) ≤ y4 → ¬ (s 425 1) ≤ y4 → ¬ (s 424 y4.toNat) = (s 424 (w32 (60 + y4)).toNat) → ¬ x3 = 1 → ¬ y4 = (s 425 0) → ¬ y4 = (s 425 1) → 0 ≤ (w32 (60 + y4)) ∧ (w32 (60 + y4)) < 120)
  (z30 : ∀ y4 : Int, ∀ s : mSt, I48 y4 s → ¬ (s 425 0) ≤ y4 → ¬ (s 425 1) ≤ y4 → ¬ (s 424 y4.toNat) = (s 424 (w32 (60 + y4)).toNat) → ¬ x3 = 1 → ¬ y4 = (s 425 0) → ¬ y4 = (s 425 1) → (s 424 (w32 (60 + y4)).toNat) ≤ (s 424 y4.toNat) → Q (some (mI x2)) s)
  (z31 : ∀ y4 : Int, ∀ s : mSt, I48 y4 s → ¬ (s 425 0) ≤ y4 → ¬ (s 425 1) ≤ y4 → ¬ (s 424 y4.toNat) = (s 424 (w32 (60 + y4)).toNat) → ¬ x3 = 1 → ¬ y4 = (s 425 0) → ¬ y4 = (s 425 1) → ¬ (s 424 (w32 (60 + y4)).toNat) ≤ (s 424 y4.toNat) → Q (some (mI x1)) s)
  (z32 : ∀ y4 : Int, ∀ s : mSt, I48 y4 s → ¬ (s 425 0) ≤ y4 → ¬ (s 425 1) ≤ y4 → ¬ (s 424 y4.toNat) = (s 424 (w32 (60 + y4)).toNat) → ¬ x3 = 1 → ¬ y4 = (s 425 0) → y4 = (s 425 1) → ¬ (s 425 0) = (s 425 1) → (s 425 1) ≤ (s 425 0) → Q (some (mI x2)) s)
  (z33 : ∀ y4 : Int, ∀ s : mSt, I48 y4 s → ¬ (s 425 0) ≤ y4 → ¬ (s 425 1) ≤ y4 → ¬ (s 424 y4.toNat) = (s 424 (w32 (60 + y4)).toNat) → ¬ x3 = 1 → ¬ y4 = (s 425 0) → y4 = (s 425 1) → ¬ (s 425 0) = (s 425 1) → ¬ (s 425 1) ≤ (s 425 0) → Q (some (mI x1)) s)
  (z34 : ∀ y4 : Int, ∀ s : mSt, I48 y4 s → ¬ (s 425 0) ≤ y4 → ¬ (s 425 1) ≤ y4 → ¬ (s 424 y4.toNat) = (s 424 (w32 (60 + y4)).toNat) → ¬ x3 = 1 → ¬ y4 = (s 425 0) → y4 = (s 425 1) → (s 425 0) = (s 425 1) → Q (some (mI (-2))) s)
  (z35 : ∀ y4 : Int, ∀ s : mSt, I48 y4 s → ¬ (s 425 0) ≤ y4 → ¬ (s 425 1) ≤ y4 → ¬ (s 424 y4.toNat) = (s 424 (w32 (60 + y4)).toNat) → x3 = 1 → Q (some (mI y4)) s)
  (z36 : ∀ y4 : Int, ∀ s : mSt, I48 y4 s → ¬ (s 425 0) ≤ y4 → ¬ (s 425 1) ≤ y4 → (s 424 y4.toNat) = (s 424 (w32 (60 + y4)).toNat) → I48 (w32 (y4 + 1)) s ∧ m48 (w32 (y4 + 1)) s < m48 y4 s)
  (z37 : Ok (s 417))
  (z38 : ((0 ≤ x1 ∧ x1 < s 417 4) ∧ s 417 (41 + x1.toNat) = 0) → Ok (s 417))
  (z39 : ((0 ≤ x1 ∧ x1 < s 417 4) ∧ s 417 (41 + x1.toNat) = 0) → ((0 ≤ x2 ∧ x2 < s 417 4) ∧ s 417 (41 + x2.toNat) = 0) → x1 = x2 → Q (some (mI (-1))) s)
  (z40 : ((0 ≤ x1 ∧ x1 < s 417 4) ∧ s 417 (41 + x1.toNat) = 0) → ((0 ≤ x2 ∧ x2 < s 417 4) ∧ s 417 (41 + x2.toNat) = 0) → ¬ x1 = x2 → ((0 : Int) ≤ x3 ∧ x3 ≤ (1 : Int)) → Ok (s 417) ∧ (0 ≤ x1 ∧ x1 < 6) ∧ (0 ≤ (0 : Int) ∧ (0 : Int) < 2))
  (z41 : ((0 ≤ x1 ∧ x1 < s 417 4) ∧ s 417 (41 + x1.toNat) = 0) → ((0 ≤ x2 ∧ x2 < s 417 4) ∧ s 417 (41 + x2.toNat) = 0) → ¬ x1 = x2 → ((0 : Int) ≤ x3 ∧ x3 ≤ (1 : Int)) → ∀ s60 : mSt, (TXr s60 (0 : Int).toNat (tx (sgL (s 417) x1.toNat) 30).1 ∧ frV s s60 (0 : Int).toNat) → Ok (s60 417) ∧ (0 ≤ x2 ∧ x2 < 6) ∧ (0 ≤ (1 : Int) ∧ (1 : Int) < 2))
  (z42 : ((0 ≤ x1 ∧ x1 < s 417 4) ∧ s 417 (41 + x1.toNat) = 0) → ((0 ≤ x2 ∧ x2 < s 417 4) ∧ s 417 (41 + x2.toNat) = 0) → ¬ x1 = x2 → ((0 : Int) ≤ x3 ∧ x3 ≤ (1 : Int)) → ∀ s60 : mSt, (TXr s60 (0 : Int).toNat (tx (sgL (s 417) x1.toNat) 30).1 ∧ frV s s60 (0 : Int).toNat) → ∀ s61 : mSt, (TXr s61 (1 : Int).toNat (tx (sgL (s60 417) x2.toNat) 30).1 ∧ frV s60 s61 (1 : Int).toNat) → I48 0 s61)
  (z43 : ((0 ≤ x1 ∧ x1 < s 417 4) ∧ s 417 (41 + x1.toNat) = 0) → ((0 ≤ x2 ∧ x2 < s 417 4) ∧ s 417 (41 + x2.toNat) = 0) → ¬ x1 = x2 → (¬ ((0 : Int) ≤ x3 ∧ x3 ≤ (1 : Int))) → Q (some (mI (-1))) s)
  (z44 : ((0 ≤ x1 ∧ x1 < s 417 4) ∧ s 417 (41 + x1.toNat) = 0) → (¬ ((0 ≤ x2 ∧ x2 < s 417 4) ∧ s 417 (41 + x2.toNat) = 0)) → Q (some (mI (-1))) s)
  (z45 : (¬ ((0 ≤ x1 ∧ x1 < s 417 4) ∧ s 417 (41 + x1.toNat) = 0)) → Q (some (mI (-1))) s) :
  Sp X (d + 6) 270 [mR 407, mI x1, mI x2, mI x3] s Q := by
  have L : ∀ k : Nat, (∀ (y4 : Int) (s : mSt), I48 y4 s → m48 y4 s < k → Wp X (d + 6) 270 48 [some (mR 407), some (mI x1), some (mI x2), some (mI x3), some (mI y4)] [] s Q) := by
    intro k
    induction k with
    | zero => exact fun _ _ _ h => absurd h (Nat.not_lt_zero _)
    | succ k ih => exact fun y4 s hI hm => b270_48 (fun q1 => b270_96 (fun q2 => b270_104 (fun q3 => b270_126 (fun q4 => b270_146 (fun q5 => b270_165 (b270_166 (z1 y4 s hI q1 q2 q3 q4 q5))) (fun q6 => b270_161 (b270_166 (z2 y4 s hI q1 q2 q3 q4 q6)))) (fun q7 => b270_141 (b270_166 (z3 y4 s hI q1 q2 q3 q7)))) (fun q8 => b270_115 (fun q9 => b270_167 (z4 y4 s hI q1 q2 q8 q9) (z5 y4 s hI q1 q2 q8 q9) (fun q10 => b270_191 (b270_192 (z6 y4 s hI q1 q2 q8 q9 q10))) (fun q11 => b270_187 (b270_192 (z7 y4 s hI q1 q2 q8 q9 q11)))) (fun q12 => b270_126 (fun q13 => b270_146 (fun q14 => b270_165 (b270_166 (z8 y4 s hI q1 q2 q8 q12 q13 q14))) (fun q15 => b270_161 (b270_166 (z9 y4 s hI q1 q2 q8 q12 q13 q15)))) (fun q16 => b270_141 (b270_166 (z10 y4 s hI q1 q2 q8 q12 q16)))))) (fun q17 => b270_101 (z11 y4 s hI q1 q17))) (fun q18 => b270_59 (fun q19 => b270_96 (fun q20 => b270_104 (fun q21 => b270_126 (fun q22 => b270_146 (fun q23 => b270_165 (b270_166 (z12 y4 s hI q18 q19 q20 q21 q22 q23))) (fun q24 => b270_161 (b270_166 (z13 y4 s hI q18 q19 q20 q21 q22 q24)))) (fun q25 => b270_141 (b270_166 (z14 y4 s hI q18 q19 q20 q21 q25)))) (fun q26 => b270_115 (fun q27 => b270_167 (z15 y4 s hI q18 q19 q20 q26 q27) (z16 y4 s hI q18 q19 q20 q26 q27) (fun q28 => b270_191 (b270_192 (z17 y4 s hI q18 q19 q20 q26 q27 q28))) (fun q29 => b270_187 (b270_192 (z18 y4 s hI q18 q19 q20 q26 q27 q29)))) (fun q30 => b270_126 (fun q31 => b270_146 (fun q32 => b270_165 (b270_166 (z19 y4 s hI q18 q19 q20 q26 q30 q31 q32))) (fun q33 => b270_161 (b270_166 (z20 y4 s hI q18 q19 q20 q26 q30 q31 q33)))) (fun q34 => b270_141 (b270_166 (z21 y4 s hI q18 q19 q20 q26 q30 q34)))))) (fun q35 => b270_101 (z22 y4 s hI q18 q19 q35))) (fun q36 => b270_70 (z23 y4 s hI q18 q36) (z24 y4 s hI q18 q36) (fun q37 => b270_96 (fun q38 => b270_104 (fun q39 => b270_126 (fun q40 => b270_146 (fun q41 => b270_165 (b270_166 (z25 y4 s hI q18 q36 q37 q38 q39 q40 q41))) (fun q42 => b270_161 (b270_166 (z26 y4 s hI q18 q36 q37 q38 q39 q40 q42)))) (fun q43 => b270_141 (b270_166 (z27 y4 s hI q18 q36 q37 q38 q39 q43)))) (fun q44 => b270_115 (fun q45 => b270_167 (z28 y4 s hI q18 q36 q37 q38 q44 q45) (z29 y4 s hI q18 q36 q37 q38 q44 q45) (fun q46 => b270_191 (b270_192 (z30 y4 s hI q18 q36 q37 q38 q44 q45 q46))) (fun q47 => b270_187 (b270_192 (z31 y4 s hI q18 q36 q37 q38 q44 q45 q47)))) (fun q48 => b270_126 (fun q49 => b270_146 (fun q50 => b270_165 (b270_166 (z32 y4 s hI q18 q36 q37 q38 q44 q48 q49 q50))) (fun q51 => b270_161 (b270_166 (z33 y4 s hI q18 q36 q37 q38 q44 q48 q49 q51)))) (fun q52 => b270_141 (b270_166 (z34 y4 s hI q18 q36 q37 q38 q44 q48 q52)))))) (fun q53 => b270_101 (z35 y4 s hI q18 q36 q37 q53))) (fun q54 => b270_90 (ih (w32 (y4 + 1)) s (z36 y4 s hI q18 q36 q54).1 (Nat.lt_of_lt_of_le (z36 y4 s hI q18 q36 q54).2 (Nat.le_of_lt_succ hm))))))
  exact e270 (b270_0 (c216 z37 (fun q55 => ⟨1, rfl, b270_5 (fun q => absurd q (by decide)) (fun _ => b270_8 (c216 (z38 q55) (fun q56 => ⟨1, rfl, b270_13 (fun q => absurd q (by decide)) (fun _ => b270_16 (fun q57 => b270_31 (z39 q55 q56 q57)) (fun q58 => b270_21 (c167  (fun q59 => ⟨1, rfl, b270_28 (fun _ => b270_33 (c268 (z40 q55 q56 q58 q59) (fun s60 q60 => ⟨rfl, b270_39 (c268 (z41 q55 q56 q58 q59 s60 q60) (fun s61 q61 => ⟨rfl, b270_45 ((L (m48 0 s61 + 1)) 0 s61 (z42 q55 q56 q58 q59 s60 q60 s61 q61) (Nat.lt_succ_self _))⟩))⟩))) (fun q => absurd q (by decide))⟩) (fun q62 => ⟨0, rfl, b270_28 (fun q => absurd q (by decide)) (fun _ => b270_31 (z43 q55 q56 q58 q62))⟩))))⟩) (fun q63 => ⟨0, rfl, b270_13 (fun _ => b270_31 (z44 q55 q63)) (fun q => absurd q (by decide))⟩)))⟩) (fun q64 => ⟨0, rfl, b270_5 (fun _ => b270_31 (z45 q64)) (fun q => absurd q (by decide))⟩)))

theorem c270 {X : (Nat → Int) × Nat} {d : Nat} {s : mSt} {Q : mQ} {x1 : Int} {x2 : Int} {x3 : Int} (p1 : Ok (s 417)) (k : ∀ (v : Int) (t : mSt), (fiQ (s 417) x1 x2 x3 v ∧ fv2 s t) → Q (some (mI v)) t) : Sp X (d + 6) 270 [mR 407, mI x1, mI x2, mI x3] s Q := by
  have h := p1
  have h4 := ok4 h
  have dI : ∀ x : Int, ((0 ≤ x ∧ x < s 417 4) ∧ s 417 (41 + x.toNat) = 0) ↔ drC (s 417) x := fun x => by unfold drC; rw [pl_0]
  let L1 := (tx (sgL (s 417) x1.toNat) 30).1
  let L2 := (tx (sgL (s 417) x2.toNat) 30).1
  let l1 := L1.length
  let l2 := L2.length
  have t1 : L1.length ≤ 30 := txL (sgL (s 417) x1.toNat)
  have t2 : L2.length ≤ 30 := txL (sgL (s 417) x2.toNat)
  let f : Nat → Int := fun i => L1.getD i 0
  let g : Nat → Int := fun i => L2.getD i 0
  let G : Prop := drC (s 417) x1 ∧ drC (s 417) x2 ∧ ¬ x1 = x2 ∧ (0 ≤ x3 ∧ x3 ≤ 1)
  have no : ¬ G → Q (some (mI (-1))) s := fun w => k _ s ⟨YN_n w rfl, fun _ _ _ => rfl⟩
  let J : Int → mSt → Prop := fun y t => ∃ j : Nat, y = j ∧ j ≤ l1 ∧ j ≤ l2 ∧ (∀ i, i < j → f i = g i) ∧ G ∧ TXr t 0 L1 ∧ TXr t 1 L2 ∧ fv2 s t
  have fin : ∀ (j : Nat) (t : mSt) (v : Int), j ≤ l1 → j ≤ l2 → (∀ i, i < j → f i = g i) → G → fv2 s t → (l1 ≤ j ∨ l2 ≤ j ∨ ¬ f j = g j) → ((x3 = 1 ∧ v = j) ∨ (¬ x3 = 1 ∧ ((j < l1 ∧ j < l2 ∧ ((f j < g j ∧ v = x1) ∨ (g j ≤ f j ∧ v = x2))) ∨ (¬ (j < l1 ∧ j < l2) ∧ ((l1 = l2 ∧ v = -2) ∨ (l1 < l2 ∧ v = x1) ∨ (l2 < l1 ∧ v = x2)))))) → Q (some (mI v)) t := fun j t v h1 h2 ha gg hf hE hv => by
    have cp : cpI l1 l2 f g = j := by
      by_cases z : j < l1 ∧ j < l2
      · exact cpI_at z ha (hE.elim (fun w => by omega) (fun w => w.elim (fun w => by omega) (fun w => w)))
      · have em : mnN l1 l2 = j := by unfold mnN; split <;> omega
        rw [cpI_all (by rw [em]; exact ha), em]
    have wh : whI l1 l2 f g = if j < l1 ∧ j < l2 then (if f j < g j then 0 else 1) else if l1 = l2 then -1 else if l1 < l2 then 0 else 1 := by unfold whI; rw [cp]
    refine k _ t ⟨YN_y gg ?_, hf⟩
    show v = if x3 = 1 then ((cpI l1 l2 f g : Nat) : Int) else if whI l1 l2 f g = 0 then x1 else if whI l1 l2 f g = 1 then x2 else -2
    rcases hv with ⟨z, e⟩ | ⟨z, ⟨z1, z2, e⟩ | ⟨z1, e⟩⟩
    · rw [if_pos z, cp]; exact e
    · rw [if_pos (show j < l1 ∧ j < l2 from ⟨z1, z2⟩)] at wh
      rcases e with ⟨e1, e⟩ | ⟨e1, e⟩
      · rw [if_pos e1] at wh
        rw [if_neg z, wh, if_pos rfl]; exact e
      · rw [if_neg (show ¬ f j < g j by omega)] at wh
        rw [if_neg z, wh, if_neg (by decide), if_pos rfl]; exact e
    · rw [if_neg z1] at wh
      rcases e with ⟨e1, e⟩ | ⟨e1, e⟩ | ⟨e1, e⟩
      · rw [if_pos e1] at wh
        rw [if_neg z, wh, if_neg (by decide), if_neg (by decide)]; exact e
      · rw [if_neg (show ¬ l1 = l2 by omega), if_pos e1] at wh
        rw [if_neg z, wh, if_pos rfl]; exact e
      · rw [if_neg (show ¬ l1 = l2 by omega), if_neg (show ¬ l1 < l2 by omega)] at wh
        rw [if_neg z, wh, if_neg (by decide), if_pos rfl]; exact e
  have a0 : ∀ (t : mSt) (j : Nat), TXr t 0 L1 → j < l1 → t 424 ((j : Int)).toNat = f j := fun t j ht hj => by
    have := ht.2 j hj
    rw [show 60 * 0 + j = j by omega] at this
    rw [tnc]; exact this
  have a1 : ∀ (t : mSt) (j : Nat), TXr t 1 L2 → j < l2 → t 424 (w32 (60 + (j : Int))).toNat = g j := fun t j ht hj => by
    rw [wt (n := 60 * 1 + j) (by omega) (by omega)]; exact ht.2 j hj
  refine v270 J (fun y _ => (40 - y).toNat) ?_ ?_ ?_ ?_ ?_ ?_ ?_ ?_ ?_ ?_ ?_ ?_ ?_ ?_ ?_ ?_ ?_ ?_ ?_ ?_ ?_ ?_ ?_ ?_ ?_ ?_ ?_ ?_ ?_ ?_ ?_ ?_ ?_ ?_ ?_ ?_ h (fun _ => h) (fun g1 g2 g3 => no (fun z => z.2.2.1 g3)) (fun g1 g2 g3 g4 => ⟨h, by omega, by decide⟩) (fun g1 g2 g3 g4 t ht => by rw [ht.2.1 417 (by decide) (by decide)]; exact ⟨h, by omega, by decide⟩) (fun g1 g2 g3 g4 t ht u hu => ?_) (fun g1 g2 g3 g4 => no (fun z => g4 z.2.2.2)) (fun g1 g2 => no (fun z => g2 ((dI x2).2 z.2.1))) (fun g1 => no (fun z => g1 ((dI x1).2 z.1)))
  · rintro _ t ⟨j, rfl, h1, h2, ha, gg, x0, x1', hf⟩ q1 q2 q3 q4 q5
    have e0 : t 425 0 = (l1 : Int) := x0.1
    have e1 : t 425 1 = (l2 : Int) := x1'.1
    have d1 : (l1 : Int) ≤ 30 := by show (L1.length : Int) ≤ 30; omega
    exact fin j t _ h1 h2 ha gg hf (by omega) (by omega)
  · rintro _ t ⟨j, rfl, h1, h2, ha, gg, x0, x1', hf⟩ q1 q2 q3 q4 q5
    have e0 : t 425 0 = (l1 : Int) := x0.1
    have e1 : t 425 1 = (l2 : Int) := x1'.1
    have d1 : (l1 : Int) ≤ 30 := by show (L1.length : Int) ≤ 30; omega
    exact fin j t _ h1 h2 ha gg hf (by omega) (by omega)
  · rintro _ t ⟨j, rfl, h1, h2, ha, gg, x0, x1', hf⟩ q1 q2 q3 q4
    have e0 : t 425 0 = (l1 : Int) := x0.1
    have e1 : t 425 1 = (l2 : Int) := x1'.1
    have d1 : (l1 : Int) ≤ 30 := by show (L1.length : Int) ≤ 30; omega
    exact fin j t _ h1 h2 ha gg hf (by omega) (by omega)
  · rintro _ t ⟨j, rfl, h1, h2, ha, gg, x0, x1', hf⟩ q1 q2 q3 q4
    have e0 : t 425 0 = (l1 : Int) := x0.1
    have e1 : t 425 1 = (l2 : Int) := x1'.1
    have d1 : (l1 : Int) ≤ 30 := by show (L1.length : Int) ≤ 30; omega
    omega
  · rintro _ t ⟨j, rfl, h1, h2, ha, gg, x0, x1', hf⟩ q1 q2 q3 q4
    have e0 : t 425 0 = (l1 : Int) := x0.1
    have e1 : t 425 1 = (l2 : Int) := x1'.1
    have d1 : (l1 : Int) ≤ 30 := by show (L1.length : Int) ≤ 30; omega
    rw [w32_of (by omega)]; omega
  · rintro _ t ⟨j, rfl, h1, h2, ha, gg, x0, x1', hf⟩ q1 q2 q3 q4 q5
    have e0 : t 425 0 = (l1 : Int) := x0.1
    have e1 : t 425 1 = (l2 : Int) := x1'.1
    have d1 : (l1 : Int) ≤ 30 := by show (L1.length : Int) ≤ 30; omega
    by_cases z : j < l1 ∧ j < l2
    · have b0 := a0 t j x0 z.1
      have b1 := a1 t j x1' z.2
      exact fin j t _ h1 h2 ha gg hf (by omega) (by omega)
    · omega
  · rintro _ t ⟨j, rfl, h1, h2, ha, gg, x0, x1', hf⟩ q1 q2 q3 q4 q5
    have e0 : t 425 0 = (l1 : Int) := x0.1
    have e1 : t 425 1 = (l2 : Int) := x1'.1
    have d1 : (l1 : Int) ≤ 30 := by show (L1.length : Int) ≤ 30; omega
    by_cases z : j < l1 ∧ j < l2
    · have b0 := a0 t j x0 z.1
      have b1 := a1 t j x1' z.2
      exact fin j t _ h1 h2 ha gg hf (by omega) (by omega)
    · omega
  · rintro _ t ⟨j, rfl, h1, h2, ha, gg, x0, x1', hf⟩ q1 q2 q3 q4 q5 q6
    have e0 : t 425 0 = (l1 : Int) := x0.1
    have e1 : t 425 1 = (l2 : Int) := x1'.1
    have d1 : (l1 : Int) ≤ 30 := by show (L1.length : Int) ≤ 30; omega
    exact fin j t _ h1 h2 ha gg hf (by omega) (by omega)
  · rintro _ t ⟨j, rfl, h1, h2, ha, gg, x0, x1', hf⟩ q1 q2 q3 q4 q5 q6
    have e0 : t 425 0 = (l1 : Int) := x0.1
    have e1 : t 425 1 = (l2 : Int) := x1'.1
    have d1 : (l1 : Int) ≤ 30 := by show (L1.length : Int) ≤ 30; omega
    exact fin j t _ h1 h2 ha gg hf (by omega) (by omega)
  · rintro _ t ⟨j, rfl, h1, h2, ha, gg, x0, x1', hf⟩ q1 q2 q3 q4 q5
    have e0 : t 425 0 = (l1 : Int) := x0.1
    have e1 : t 425 1 = (l2 : Int) := x1'.1
    have d1 : (l1 : Int) ≤ 30 := by show (L1.length : Int) ≤ 30; omega
    exact fin j t _ h1 h2 ha gg hf (by omega) (by omega)
  · rintro _ t ⟨j, rfl, h1, h2, ha, gg, x0, x1', hf⟩ q1 q2
    have e0 : t 425 0 = (l1 : Int) := x0.1
    have e1 : t 425 1 = (l2 : Int) := x1'.1
    have d1 : (l1 : Int) ≤ 30 := by show (L1.length : Int) ≤ 30; omega
    exact fin j t _ h1 h2 ha gg hf (by omega) (by omega)
  · rintro _ t ⟨j, rfl, h1, h2, ha, gg, x0, x1', hf⟩ q1 q2 q3 q4 q5 q6
    have e0 : t 425 0 = (l1 : Int) := x0.1
    have e1 : t 425 1 = (l2 : Int) := x1'.1
    have d1 : (l1 : Int) ≤ 30 := by show (L1.length : Int) ≤ 30; omega
    exact fin j t _ h1 h2 ha gg hf (by omega) (by omega)
  · rintro _ t ⟨j, rfl, h1, h2, ha, gg, x0, x1', hf⟩ q1 q2 q3 q4 q5 q6
    have e0 : t 425 0 = (l1 : Int) := x0.1
    have e1 : t 425 1 = (l2 : Int) := x1'.1
    have d1 : (l1 : Int) ≤ 30 := by show (L1.length : Int) ≤ 30; omega
    exact fin j t _ h1 h2 ha gg hf (by omega) (by omega)
  · rintro _ t ⟨j, rfl, h1, h2, ha, gg, x0, x1', hf⟩ q1 q2 q3 q4 q5
    have e0 : t 425 0 = (l1 : Int) := x0.1
    have e1 : t 425 1 = (l2 : Int) := x1'.1
    have d1 : (l1 : Int) ≤ 30 := by show (L1.length : Int) ≤ 30; omega
    exact fin j t _ h1 h2 ha gg hf (by omega) (by omega)
  · rintro _ t ⟨j, rfl, h1, h2, ha, gg, x0, x1', hf⟩ q1 q2 q3 q4 q5
    have e0 : t 425 0 = (l1 : Int) := x0.1
    have e1 : t 425 1 = (l2 : Int) := x1'.1
    have d1 : (l1 : Int) ≤ 30 := by show (L1.length : Int) ≤ 30; omega
    omega
  · rintro _ t ⟨j, rfl, h1, h2, ha, gg, x0, x1', hf⟩ q1 q2 q3 q4 q5
    have e0 : t 425 0 = (l1 : Int) := x0.1
    have e1 : t 425 1 = (l2 : Int) := x1'.1
    have d1 : (l1 : Int) ≤ 30 := by show (L1.length : Int) ≤ 30; omega
    rw [w32_of (by omega)]; omega
  · rintro _ t ⟨j, rfl, h1, h2, ha, gg, x0, x1', hf⟩ q1 q2 q3 q4 q5 q6
    have e0 : t 425 0 = (l1 : Int) := x0.1
    have e1 : t 425 1 = (l2 : Int) := x1'.1
    have d1 : (l1 : Int) ≤ 30 := by show (L1.length : Int) ≤ 30; omega
    by_cases z : j < l1 ∧ j < l2
    · have b0 := a0 t j x0 z.1
      have b1 := a1 t j x1' z.2
      exact fin j t _ h1 h2 ha gg hf (by omega) (by omega)
    · omega
  · rintro _ t ⟨j, rfl, h1, h2, ha, gg, x0, x1', hf⟩ q1 q2 q3 q4 q5 q6
    have e0 : t 425 0 = (l1 : Int) := x0.1
    have e1 : t 425 1 = (l2 : Int) := x1'.1
    have d1 : (l1 : Int) ≤ 30 := by show (L1.length : Int) ≤ 30; omega
    by_cases z : j < l1 ∧ j < l2
    · have b0 := a0 t j x0 z.1
      have b1 := a1 t j x1' z.2
      exact fin j t _ h1 h2 ha gg hf (by omega) (by omega)
    · omega
  · rintro _ t ⟨j, rfl, h1, h2, ha, gg, x0, x1', hf⟩ q1 q2 q3 q4 q5 q6 q7
    have e0 : t 425 0 = (l1 : Int) := x0.1
    have e1 : t 425 1 = (l2 : Int) := x1'.1
    have d1 : (l1 : Int) ≤ 30 := by show (L1.length : Int) ≤ 30; omega
    exact fin j t _ h1 h2 ha gg hf (by omega) (by omega)
  · rintro _ t ⟨j, rfl, h1, h2, ha, gg, x0, x1', hf⟩ q1 q2 q3 q4 q5 q6 q7
    have e0 : t 425 0 = (l1 : Int) := x0.1
    have e1 : t 425 1 = (l2 : Int) := x1'.1
    have d1 : (l1 : Int) ≤ 30 := by show (L1.length : Int) ≤ 30; omega
    exact fin j t _ h1 h2 ha gg hf (by omega) (by omega)
  · rintro _ t ⟨j, rfl, h1, h2, ha, gg, x0, x1', hf⟩ q1 q2 q3 q4 q5 q6
    have e0 : t 425 0 = (l1 : Int) := x0.1
    have e1 : t 425 1 = (l2 : Int) := x1'.1
    have d1 : (l1 : Int) ≤ 30 := by show (L1.length : Int) ≤ 30; omega
    exact fin j t _ h1 h2 ha gg hf (by omega) (by omega)
  · rintro _ t ⟨j, rfl, h1, h2, ha, gg, x0, x1', hf⟩ q1 q2 q3
    have e0 : t 425 0 = (l1 : Int) := x0.1
    have e1 : t 425 1 = (l2 : Int) := x1'.1
    have d1 : (l1 : Int) ≤ 30 := by show (L1.length : Int) ≤ 30; omega
    exact fin j t _ h1 h2 ha gg hf (by omega) (by omega)
  · rintro _ t ⟨j, rfl, h1, h2, ha, gg, x0, x1', hf⟩ q1 q2
    have e0 : t 425 0 = (l1 : Int) := x0.1
    have e1 : t 425 1 = (l2 : Int) := x1'.1
    have d1 : (l1 : Int) ≤ 30 := by show (L1.length : Int) ≤ 30; omega
    omega
  · rintro _ t ⟨j, rfl, h1, h2, ha, gg, x0, x1', hf⟩ q1 q2
    have e0 : t 425 0 = (l1 : Int) := x0.1
    have e1 : t 425 1 = (l2 : Int) := x1'.1
    have d1 : (l1 : Int) ≤ 30 := by show (L1.length : Int) ≤ 30; omega
    rw [w32_of (by omega)]; omega
  · rintro _ t ⟨j, rfl, h1, h2, ha, gg, x0, x1', hf⟩ q1 q2 q3 q4 q5 q6 q7
    have e0 : t 425 0 = (l1 : Int) := x0.1
    have e1 : t 425 1 = (l2 : Int) := x1'.1
    have d1 : (l1 : Int) ≤ 30 := by show (L1.length : Int) ≤ 30; omega
    by_cases z : j < l1 ∧ j < l2
    · have b0 := a0 t j x0 z.1
      have b1 := a1 t j x1' z.2
      exact fin j t _ h1 h2 ha gg hf (by omega) (by omega)
    · omega
  · rintro _ t ⟨j, rfl, h1, h2, ha, gg, x0, x1', hf⟩ q1 q2 q3 q4 q5 q6 q7
    have e0 : t 425 0 = (l1 : Int) := x0.1
    have e1 : t 425 1 = (l2 : Int) := x1'.1
    have d1 : (l1 : Int) ≤ 30 := by show (L1.length : Int) ≤ 30; omega
    by_cases z : j < l1 ∧ j < l2
    · have b0 := a0 t j x0 z.1
      have b1 := a1 t j x1' z.2
      exact fin j t _ h1 h2 ha gg hf (by omega) (by omega)
    · omega
  · rintro _ t ⟨j, rfl, h1, h2, ha, gg, x0, x1', hf⟩ q1 q2 q3 q4 q5 q6
    have e0 : t 425 0 = (l1 : Int) := x0.1
    have e1 : t 425 1 = (l2 : Int) := x1'.1
    have d1 : (l1 : Int) ≤ 30 := by show (L1.length : Int) ≤ 30; omega
    by_cases z : j < l1 ∧ j < l2
    · have b0 := a0 t j x0 z.1
      have b1 := a1 t j x1' z.2
      exact fin j t _ h1 h2 ha gg hf (by omega) (by omega)
    · omega
  · rintro _ t ⟨j, rfl, h1, h2, ha, gg, x0, x1', hf⟩ q1 q2 q3 q4 q5 q6
    have e0 : t 425 0 = (l1 : Int) := x0.1
    have e1 : t 425 1 = (l2 : Int) := x1'.1
    have d1 : (l1 : Int) ≤ 30 := by show (L1.length : Int) ≤ 30; omega
    by_cases z : j < l1 ∧ j < l2
    · have b0 := a0 t j x0 z.1
      have b1 := a1 t j x1' z.2
      omega
    · omega
  · rintro _ t ⟨j, rfl, h1, h2, ha, gg, x0, x1', hf⟩ q1 q2 q3 q4 q5 q6
    have e0 : t 425 0 = (l1 : Int) := x0.1
    have e1 : t 425 1 = (l2 : Int) := x1'.1
    have d1 : (l1 : Int) ≤ 30 := by show (L1.length : Int) ≤ 30; omega
    by_cases z : j < l1 ∧ j < l2
    · have b0 := a0 t j x0 z.1
      have b1 := a1 t j x1' z.2
      rw [w32_of (by omega)]; omega
    · omega
  · rintro _ t ⟨j, rfl, h1, h2, ha, gg, x0, x1', hf⟩ q1 q2 q3 q4 q5 q6 q7
    have e0 : t 425 0 = (l1 : Int) := x0.1
    have e1 : t 425 1 = (l2 : Int) := x1'.1
    have d1 : (l1 : Int) ≤ 30 := by show (L1.length : Int) ≤ 30; omega
    by_cases z : j < l1 ∧ j < l2
    · have b0 := a0 t j x0 z.1
      have b1 := a1 t j x1' z.2
      exact fin j t _ h1 h2 ha gg hf (by omega) (by omega)
    · omega
  · rintro _ t ⟨j, rfl, h1, h2, ha, gg, x0, x1', hf⟩ q1 q2 q3 q4 q5 q6 q7
    have e0 : t 425 0 = (l1 : Int) := x0.1
    have e1 : t 425 1 = (l2 : Int) := x1'.1
    have d1 : (l1 : Int) ≤ 30 := by show (L1.length : Int) ≤ 30; omega
    by_cases z : j < l1 ∧ j < l2
    · have b0 := a0 t j x0 z.1
      have b1 := a1 t j x1' z.2
      exact fin j t _ h1 h2 ha gg hf (by omega) (by omega)
    · omega
  · rintro _ t ⟨j, rfl, h1, h2, ha, gg, x0, x1', hf⟩ q1 q2 q3 q4 q5 q6 q7 q8
    have e0 : t 425 0 = (l1 : Int) := x0.1
    have e1 : t 425 1 = (l2 : Int) := x1'.1
    have d1 : (l1 : Int) ≤ 30 := by show (L1.length : Int) ≤ 30; omega
    by_cases z : j < l1 ∧ j < l2
    · have b0 := a0 t j x0 z.1
      have b1 := a1 t j x1' z.2
      exact fin j t _ h1 h2 ha gg hf (by omega) (by omega)
    · omega
  · rintro _ t ⟨j, rfl, h1, h2, ha, gg, x0, x1', hf⟩ q1 q2 q3 q4 q5 q6 q7 q8
    have e0 : t 425 0 = (l1 : Int) := x0.1
    have e1 : t 425 1 = (l2 : Int) := x1'.1
    have d1 : (l1 : Int) ≤ 30 := by show (L1.length : Int) ≤ 30; omega
    by_cases z : j < l1 ∧ j < l2
    · have b0 := a0 t j x0 z.1
      have b1 := a1 t j x1' z.2
      exact fin j t _ h1 h2 ha gg hf (by omega) (by omega)
    · omega
  · rintro _ t ⟨j, rfl, h1, h2, ha, gg, x0, x1', hf⟩ q1 q2 q3 q4 q5 q6 q7
    have e0 : t 425 0 = (l1 : Int) := x0.1
    have e1 : t 425 1 = (l2 : Int) := x1'.1
    have d1 : (l1 : Int) ≤ 30 := by show (L1.length : Int) ≤ 30; omega
    by_cases z : j < l1 ∧ j < l2
    · have b0 := a0 t j x0 z.1
      have b1 := a1 t j x1' z.2
      exact fin j t _ h1 h2 ha gg hf (by omega) (by omega)
    · omega
  · rintro _ t ⟨j, rfl, h1, h2, ha, gg, x0, x1', hf⟩ q1 q2 q3 q4
    have e0 : t 425 0 = (l1 : Int) := x0.1
    have e1 : t 425 1 = (l2 : Int) := x1'.1
    have d1 : (l1 : Int) ≤ 30 := by show (L1.length : Int) ≤ 30; omega
    by_cases z : j < l1 ∧ j < l2
    · have b0 := a0 t j x0 z.1
      have b1 := a1 t j x1' z.2
      exact fin j t _ h1 h2 ha gg hf (by omega) (by omega)
    · omega
  · rintro _ t ⟨j, rfl, h1, h2, ha, gg, x0, x1', hf⟩ q1 q2 q3
    have e0 : t 425 0 = (l1 : Int) := x0.1
    have e1 : t 425 1 = (l2 : Int) := x1'.1
    have d1 : (l1 : Int) ≤ 30 := by show (L1.length : Int) ≤ 30; omega
    by_cases z : j < l1 ∧ j < l2
    · have b0 := a0 t j x0 z.1
      have b1 := a1 t j x1' z.2
      rw [b0, b1] at q3
      rw [w32_of (by omega)]
      refine ⟨⟨j + 1, by omega, by omega, by omega, fun i hi => ?_, gg, x0, x1', hf⟩, by omega⟩
      by_cases y : i = j
      · rw [y]; exact q3
      · exact ha i (by omega)
    · omega
  · have f1 : frV s t 0 := ht.2
    have f2 : frV t u 1 := hu.2
    rw [f1.1 417 (by decide) (by decide)] at hu
    refine ⟨0, rfl, by omega, by omega, fun i hi => by omega, ⟨(dI x1).1 g1, (dI x2).1 g2, g3, g4⟩, ⟨?_, fun i hi => ?_⟩, hu.1, fun b h1 h2 => (f2.1 b h1 h2).trans (f1.1 b h1 h2)⟩
    · rw [f2.2.1 0 (by decide)]; exact ht.1.1
    · rw [f2.2.2 _ (by have hi' : i < L1.length := hi; omega)]; exact ht.1.2 i hi
