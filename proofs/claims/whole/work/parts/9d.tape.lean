/-! the tape -/
def byB (x : Int) (k : Nat) : Int := os (fun i => bq x (i + k)) 8
def sb (r : Int) : Int := if r < 128 then r else r - 256
theorem byB_b (x : Int) (k : Nat) : 0 ≤ byB x k ∧ byB x k < 256 := by
  have := os_lt (f := fun i => bq x (i + k)) (n := 8)
  unfold byB
  omega
theorem bq_255 (i : Nat) : bq 255 i = decide (i < 8) := by
  have e : (255 : Int) = os (fun _ => true) 8 := by decide +kernel
  rw [e, os_bq (by decide)]; simp
theorem and255 (z : Int) : iAnd z 255 = os (bq z) 8 := by
  have b := os_lt (f := bq z) (n := 8)
  refine bq_ext (i3_and _ _) (by unfold i3; omega) (fun i hi => ?_)
  rw [bq_and, bq_255, os_bq (by decide)]
  by_cases h : i < 8 <;> simp [h]
theorem bq_wrap (v : Int) (i : Nat) : bq (v + 4294967296) i = bq v i := by
  have e : BitVec.ofInt 32 (v + 4294967296) = BitVec.ofInt 32 v := by
    apply BitVec.eq_of_toNat_eq
    rw [BitVec.toNat_ofInt, BitVec.toNat_ofInt]
    congr 1
    omega
  unfold bq
  rw [e]
theorem mod256n {u : Int} (h : 0 ≤ u ∧ u < 4294967296) : u % 256 = os (bq u) 8 := by
  have b := os_lt (f := bq u) (n := 8)
  refine bq_ext (by unfold i3; omega) (by unfold i3; omega) (fun i hi => ?_)
  rw [os_bq (by decide), bq_int (by omega), bq_int h]
  have e : (u % 256).toNat = u.toNat % 2 ^ 8 := by
    have : ((u.toNat % 2 ^ 8 : Nat) : Int) = u % 256 := by omega
    omega
  rw [e, Nat.testBit_mod_two_pow]
theorem mod256 {v : Int} (h : i3 v) : v % 256 = os (bq v) 8 := by
  unfold i3 at h
  by_cases z : 0 ≤ v
  · exact mod256n (by omega)
  · have e := mod256n (u := v + 4294967296) (by omega)
    rw [os_congr (fun i _ => bq_wrap v i)] at e
    rw [← e]; omega
theorem byC (x : Int) {k : Int} (h : 0 ≤ k ∧ k < 32) : iAnd (iUsh x k) 255 = byB x k.toNat := by
  rw [and255]; exact os_congr (fun i _ => bq_ush x h i)
theorem byR (x : Int) {k : Int} (h : 0 ≤ k ∧ k ≤ 24) : w8 (iShr x k) = sb (byB x k.toNat) := by
  have e : iShr x k % 256 = byB x k.toNat := by
    rw [mod256 (i3_shr _ _)]
    refine os_congr (fun i hi => ?_)
    rw [bq_shr x (by omega)]
    simp [show i < 32 by omega, show i + k.toNat < 32 by omega]
  rw [← e]
  unfold w8 sb
  rw [Int.bmod_def]
  split <;> split <;> omega
def pt4 (r : Rw) (n : Nat) (x : Int) : Rw := fun i => if n ≤ i ∧ i < n + 4 then byB x (24 - 8 * (i - n)) else r i
def pt4s (r : Rw) (n : Nat) (x : Int) : Rw := fun i => if n ≤ i ∧ i < n + 4 then sb (byB x (24 - 8 * (i - n))) else r i
theorem v87 {X : (Nat → Int) × Nat} {d : Nat} {s : mSt} {Q : mQ} {x1 : Int}
  (z1 : 400 < (w32 ((s 1 1) + x1)) → Q (some (mI 0)) s)
  (z2 : ¬ 400 < (w32 ((s 1 1) + x1)) → Q (some (mI 1)) s) :
  Sp X d 87 [mR 1, mI x1] s Q := e87 (b87_0 (fun q1 => b87_16 (b87_17 (z1 q1) (Or.inl rfl))) (fun q2 => b87_12 (b87_17 (z2 q2) (Or.inr rfl))))

theorem c87 {X : (Nat → Int) × Nat} {d : Nat} {s : mSt} {Q : mQ} {x1 : Int} (p1 : 0 ≤ s 1 1 ∧ s 1 1 ≤ 400 ∧ 0 ≤ x1 ∧ x1 ≤ 1000) (k1 : (s 1 1 + x1 ≤ 400) → Q (some (mI 1)) s) (k0 : ¬ (s 1 1 + x1 ≤ 400) → Q (some (mI 0)) s) : Sp X d 87 [mR 1, mI x1] s Q := by
  have e : w32 (s 1 1 + x1) = s 1 1 + x1 := w32_of (by omega)
  exact v87 (fun z => k0 (by rw [e] at z; omega)) (fun z => k1 (by rw [e] at z; omega))
theorem v88 {X : (Nat → Int) × Nat} {d : Nat} {s : mSt} {Q : mQ} {x1 : Int}
  (I3 : Int → mSt → Prop) (m3 : Int → mSt → Nat)
  (z1 : ∀ y2 : Int, ∀ s : mSt, I3 y2 s → y2 < 0 → Q none s)
  (z2 : ∀ y2 : Int, ∀ s : mSt, I3 y2 s → ¬ y2 < 0 → 400 ≤ (s 1 1) → I3 (w32 (y2 + (-8))) s ∧ m3 (w32 (y2 + (-8))) s < m3 y2 s)
  (z3 : ∀ y2 : Int, ∀ s : mSt, I3 y2 s → ¬ y2 < 0 → ¬ 400 ≤ (s 1 1) → 0 ≤ (s 1 1) ∧ (s 1 1) < 400)
  (z4 : ∀ y2 : Int, ∀ s : mSt, I3 y2 s → ¬ y2 < 0 → ¬ 400 ≤ (s 1 1) → 0 ≤ ((iAnd (iUsh x1 y2) 255) % 65536) ∧ ((iAnd (iUsh x1 y2) 255) % 65536) < 65536)
  (z5 : ∀ y2 : Int, ∀ s : mSt, I3 y2 s → ¬ y2 < 0 → ¬ 400 ≤ (s 1 1) → ∀ t5 : mSt, t5 = uS (uS s 2 ((s 1 1).toNat) ((iAnd (iUsh x1 y2) 255) % 65536)) 1 1 (w32 (((uS s 2 ((s 1 1).toNat) ((iAnd (iUsh x1 y2) 255) % 65536)) 1 1) + 1)) → I3 (w32 (y2 + (-8))) t5 ∧ m3 (w32 (y2 + (-8))) t5 < m3 y2 s)
  (z6 : I3 24 s) :
  Sp X d 88 [mR 1, mI x1] s Q := by
  have L : ∀ k : Nat, (∀ (y2 : Int) (s : mSt), I3 y2 s → m3 y2 s < k → Wp X d 88 3 [some (mR 1), some (mI x1), some (mI y2)] [] s Q) := by
    intro k
    induction k with
    | zero => exact fun _ _ _ h => absurd h (Nat.not_lt_zero _)
    | succ k ih => exact fun y2 s hI hm => b88_3 (fun q1 => b88_50 (z1 y2 s hI q1)) (fun q2 => b88_7 (fun q3 => b88_44 (ih (w32 (y2 + (-8))) s (z2 y2 s hI q2 q3).1 (Nat.lt_of_lt_of_le (z2 y2 s hI q2 q3).2 (Nat.le_of_lt_succ hm)))) (fun q4 => b88_17 (z3 y2 s hI q2 q4) (z4 y2 s hI q2 q4) (Wp_gen (fun t5 e5 => b88_44 (ih (w32 (y2 + (-8))) t5 (z5 y2 s hI q2 q4 t5 e5).1 (Nat.lt_of_lt_of_le (z5 y2 s hI q2 q4 t5 e5).2 (Nat.le_of_lt_succ hm)))))))
  exact e88 (b88_0 ((L (m3 24 s + 1)) 24 s z6 (Nat.lt_succ_self _)))

theorem c88 {X : (Nat → Int) × Nat} {d : Nat} {s : mSt} {Q : mQ} {x1 : Int} (p1 : 0 ≤ s 1 1 ∧ s 1 1 + 4 ≤ 400) (k : ∀ t : mSt, (t 1 1 = s 1 1 + 4 ∧ t 2 = pt4 (s 2) (s 1 1).toNat x1 ∧ (∀ j, j ≠ 1 → t 1 j = s 1 j) ∧ ∀ b, b ≠ 1 → b ≠ 2 → t b = s b) → Q none t) : Sp X d 88 [mR 1, mI x1] s Q := by
  let n := (s 1 1).toNat
  let J : Int → mSt → Prop := fun y t => ∃ i : Nat, y = 24 - 8 * (i : Int) ∧ i ≤ 4 ∧ t 1 1 = s 1 1 + i ∧ (∀ j, t 2 j = if (s 1 1).toNat ≤ j ∧ j < (s 1 1).toNat + i then byB x1 (24 - 8 * (j - (s 1 1).toNat)) else s 2 j) ∧ (∀ j, j ≠ 1 → t 1 j = s 1 j) ∧ ∀ b, b ≠ 1 → b ≠ 2 → t b = s b
  refine v88 J (fun y _ => (y + 8).toNat) ?_ ?_ ?_ ?_ ?_ ?_
  · rintro _ t ⟨i, rfl, hi, e1, e2, e3, ht⟩ hc
    have : i = 4 := by omega
    subst this
    exact k t ⟨e1, funext e2, e3, ht⟩
  · rintro _ t ⟨i, rfl, hi, e1, e2, e3, ht⟩ hc q
    omega
  · rintro _ t ⟨i, rfl, hi, e1, e2, e3, ht⟩ hc q
    omega
  · rintro _ t ⟨i, rfl, hi, e1, e2, e3, ht⟩ hc q
    omega
  · rintro _ t ⟨i, rfl, hi, e1, e2, e3, ht⟩ hc q t5 h5
    have bb := byB_b x1 (24 - 8 * i)
    rw [byC x1 (by omega), show (24 - 8 * (i : Int)).toNat = 24 - 8 * i by omega, uS_cell (by decide), e1, w32_of (by omega), show (s 1 1 + (i : Int)).toNat = (s 1 1).toNat + i by omega, show byB x1 (24 - 8 * i) % 65536 = byB x1 (24 - 8 * i) by omega] at h5
    rw [w32_of (by omega)]
    refine ⟨⟨i + 1, by omega, by omega, by rw [h5, uS_at, if_pos rfl]; omega, fun j => ?_, fun j hj => by rw [h5, uS_at, if_neg hj, uS_cell (by decide)]; exact e3 j hj, fun b g1 g2 => by rw [h5, uS_cell g1, uS_cell g2]; exact ht b g1 g2⟩, by omega⟩
    rw [h5, uS_cell (by decide), uS_at, e2]
    by_cases z : j = (s 1 1).toNat + i
    · rw [if_pos z, if_pos (by omega), show j - (s 1 1).toNat = i by omega]
    · rw [if_neg z]
      by_cases y : (s 1 1).toNat ≤ j ∧ j < (s 1 1).toNat + i
      · rw [if_pos y, if_pos (by omega)]
      · rw [if_neg y, if_neg (by omega)]
  · exact ⟨0, rfl, by omega, by omega, fun j => by rw [if_neg (by omega)], fun _ _ => rfl, fun _ _ _ => rfl⟩
theorem v170 {X : (Nat → Int) × Nat} {d : Nat} {s : mSt} {Q : mQ} {x1 : Int}
  (I3 : Int → mSt → Prop) (m3 : Int → mSt → Nat)
  (z1 : ∀ y2 : Int, ∀ s : mSt, I3 y2 s → y2 < 0 → Q none s)
  (z2 : ∀ y2 : Int, ∀ s : mSt, I3 y2 s → ¬ y2 < 0 → 0 ≤ (s 407 1) ∧ (s 407 1) < 400)
  (z3 : ∀ y2 : Int, ∀ s : mSt, I3 y2 s → ¬ y2 < 0 → -128 ≤ (w8 (iShr x1 y2)) ∧ (w8 (iShr x1 y2)) < 128)
  (z4 : ∀ y2 : Int, ∀ s : mSt, I3 y2 s → ¬ y2 < 0 → I3 (w32 (y2 + (-8))) (uS (uS s 408 ((s 407 1).toNat) (w8 (iShr x1 y2))) 407 1 (w32 (((uS s 408 ((s 407 1).toNat) (w8 (iShr x1 y2))) 407 1) + 1))) ∧ m3 (w32 (y2 + (-8))) (uS (uS s 408 ((s 407 1).toNat) (w8 (iShr x1 y2))) 407 1 (w32 (((uS s 408 ((s 407 1).toNat) (w8 (iShr x1 y2))) 407 1) + 1))) < m3 y2 s)
  (z5 : I3 24 s) :
  Sp X d 170 [mR 407, mI x1] s Q := by
  have L : ∀ k : Nat, (∀ (y2 : Int) (s : mSt), I3 y2 s → m3 y2 s < k → Wp X d 170 3 [some (mR 407), some (mI x1), some (mI y2)] [] s Q) := by
    intro k
    induction k with
    | zero => exact fun _ _ _ h => absurd h (Nat.not_lt_zero _)
    | succ k ih => exact fun y2 s hI hm => b170_3 (fun q1 => b170_36 (z1 y2 s hI q1)) (fun q2 => b170_7 (z2 y2 s hI q2) (z3 y2 s hI q2) (ih (w32 (y2 + (-8))) (uS (uS s 408 ((s 407 1).toNat) (w8 (iShr x1 y2))) 407 1 (w32 (((uS s 408 ((s 407 1).toNat) (w8 (iShr x1 y2))) 407 1) + 1))) (z4 y2 s hI q2).1 (Nat.lt_of_lt_of_le (z4 y2 s hI q2).2 (Nat.le_of_lt_succ hm))))
  exact e170 (b170_0 ((L (m3 24 s + 1)) 24 s z5 (Nat.lt_succ_self _)))

theorem c170 {X : (Nat → Int) × Nat} {d : Nat} {s : mSt} {Q : mQ} {x1 : Int} (p1 : 0 ≤ s 407 1 ∧ s 407 1 + 4 ≤ 400) (k : ∀ t : mSt, (t 407 1 = s 407 1 + 4 ∧ t 408 = pt4s (s 408) (s 407 1).toNat x1 ∧ (∀ j, j ≠ 1 → t 407 j = s 407 j) ∧ ∀ b, b ≠ 407 → b ≠ 408 → t b = s b) → Q none t) : Sp X d 170 [mR 407, mI x1] s Q := by
  let J : Int → mSt → Prop := fun y t => ∃ i : Nat, y = 24 - 8 * (i : Int) ∧ i ≤ 4 ∧ t 407 1 = s 407 1 + i ∧ (∀ j, t 408 j = if (s 407 1).toNat ≤ j ∧ j < (s 407 1).toNat + i then sb (byB x1 (24 - 8 * (j - (s 407 1).toNat))) else s 408 j) ∧ (∀ j, j ≠ 1 → t 407 j = s 407 j) ∧ ∀ b, b ≠ 407 → b ≠ 408 → t b = s b
  refine v170 J (fun y _ => (y + 8).toNat) ?_ ?_ ?_ ?_ ?_
  · rintro _ t ⟨i, rfl, hi, e1, e2, e3, ht⟩ hc
    have : i = 4 := by omega
    subst this
    exact k t ⟨e1, funext e2, e3, ht⟩
  · rintro _ t ⟨i, rfl, hi, e1, e2, e3, ht⟩ hc
    omega
  · rintro _ t ⟨i, rfl, hi, e1, e2, e3, ht⟩ hc
    have bb := byB_b x1 (24 - 8 * (i : Int)).toNat
    rw [byR x1 (by omega)]
    unfold sb
    split <;> omega
  · rintro _ t ⟨i, rfl, hi, e1, e2, e3, ht⟩ hc
    have bb := byB_b x1 (24 - 8 * i)
    rw [byR x1 (by omega), show (24 - 8 * (i : Int)).toNat = 24 - 8 * i by omega, uS_cell (by decide), e1, w32_of (x := s 407 1 + (i : Int) + 1) (by omega), show (s 407 1 + (i : Int)).toNat = (s 407 1).toNat + i by omega, w32_of (by omega)]
    refine ⟨⟨i + 1, by omega, by omega, by rw [uS_at, if_pos rfl]; omega, fun j => ?_, fun j hj => by rw [uS_at, if_neg hj, uS_cell (by decide)]; exact e3 j hj, fun b g1 g2 => by rw [uS_cell g1, uS_cell g2]; exact ht b g1 g2⟩, by omega⟩
    rw [uS_cell (by decide), uS_at, e2]
    by_cases z : j = (s 407 1).toNat + i
    · rw [if_pos z, if_pos (by omega), show j - (s 407 1).toNat = i by omega]
    · rw [if_neg z]
      by_cases y : (s 407 1).toNat ≤ j ∧ j < (s 407 1).toNat + i
      · rw [if_pos y, if_pos (by omega)]
      · rw [if_neg y, if_neg (by omega)]
  · exact ⟨0, rfl, by omega, by omega, fun j => by rw [if_neg (by omega)], fun _ _ => rfl, fun _ _ _ => rfl⟩
theorem v123 {X : (Nat → Int) × Nat} {d : Nat} {s : mSt} {Q : mQ} {x1 : Int}
  (z1 : x1 < 0 → Q (some (mI (-1))) s)
  (z2 : ¬ x1 < 0 → x1 ≤ (s 1 1) → Q (some (mI x1)) (uS s 1 1 x1))
  (z3 : ¬ x1 < 0 → ¬ x1 ≤ (s 1 1) → Q (some (mI (-1))) s) :
  Sp X d 123 [mR 0, mI x1] s Q := e123 (b123_0 (fun q1 => b123_15 (z1 q1)) (fun q2 => b123_4 (fun q3 => b123_17 (z2 q2 q3)) (fun q4 => b123_15 (z3 q2 q4))))

theorem c123 {X : (Nat → Int) × Nat} {d : Nat} {s : mSt} {Q : mQ} {x1 : Int} (k : ∀ (v : Int) (t : mSt), (YN (0 ≤ x1 ∧ x1 ≤ s 1 1) (v = x1 ∧ t = uS s 1 1 x1) (v = -1 ∧ t = s)) → Q (some (mI v)) t) : Sp X d 123 [mR 0, mI x1] s Q := v123 (fun z => k _ s (YN_n (by omega) ⟨rfl, rfl⟩)) (fun z z2 => k _ _ (YN_y (by omega) ⟨rfl, rfl⟩)) (fun z z2 => k _ s (YN_n (by omega) ⟨rfl, rfl⟩))
theorem v172 {X : (Nat → Int) × Nat} {d : Nat} {s : mSt} {Q : mQ} {x1 : Int}
  (z1 : x1 < 0 → Q (some (mI (-1))) s)
  (z2 : ¬ x1 < 0 → x1 ≤ (s 407 1) → Q (some (mI x1)) (uS s 407 1 x1))
  (z3 : ¬ x1 < 0 → ¬ x1 ≤ (s 407 1) → Q (some (mI (-1))) s) :
  Sp X d 172 [mR 407, mI x1] s Q := e172 (b172_0 (fun q1 => b172_12 (z1 q1)) (fun q2 => b172_4 (fun q3 => b172_14 (z2 q2 q3)) (fun q4 => b172_12 (z3 q2 q4))))

theorem c172 {X : (Nat → Int) × Nat} {d : Nat} {s : mSt} {Q : mQ} {x1 : Int} (k : ∀ (v : Int) (t : mSt), (YN (0 ≤ x1 ∧ x1 ≤ s 407 1) (v = x1 ∧ t = uS s 407 1 x1) (v = -1 ∧ t = s)) → Q (some (mI v)) t) : Sp X d 172 [mR 407, mI x1] s Q := v172 (fun z => k _ s (YN_n (by omega) ⟨rfl, rfl⟩)) (fun z z2 => k _ _ (YN_y (by omega) ⟨rfl, rfl⟩)) (fun z z2 => k _ s (YN_n (by omega) ⟨rfl, rfl⟩))
def fe5 (P : Rw → Nat → Int → Rw) (r : Rw) (n : Nat) (a b c d e : Int) : Rw := P (P (P (P (P r n a) (n + 4) b) (n + 8) c) (n + 12) d) (n + 16) e
theorem v122 {X : (Nat → Int) × Nat} {d : Nat} {s : mSt} {Q : mQ} {x1 : Int} {x2 : Int} {x3 : Int} {x4 : Int} {x5 : Int}
  (z1 : 0 ≤ s 1 1 ∧ s 1 1 ≤ 400 ∧ 0 ≤ (20 : Int) ∧ (20 : Int) ≤ 1000)
  (z2 : s 1 1 + (20 : Int) ≤ 400 → 0 ≤ s 1 1 ∧ s 1 1 + 4 ≤ 400)
  (z3 : s 1 1 + (20 : Int) ≤ 400 → ∀ s2 : mSt, (s2 1 1 = s 1 1 + 4 ∧ s2 2 = pt4 (s 2) (s 1 1).toNat x1 ∧ (∀ j, j ≠ 1 → s2 1 j = s 1 j) ∧ ∀ b, b ≠ 1 → b ≠ 2 → s2 b = s b) → 0 ≤ s2 1 1 ∧ s2 1 1 + 4 ≤ 400)
  (z4 : s 1 1 + (20 : Int) ≤ 400 → ∀ s2 : mSt, (s2 1 1 = s 1 1 + 4 ∧ s2 2 = pt4 (s 2) (s 1 1).toNat x1 ∧ (∀ j, j ≠ 1 → s2 1 j = s 1 j) ∧ ∀ b, b ≠ 1 → b ≠ 2 → s2 b = s b) → ∀ s3 : mSt, (s3 1 1 = s2 1 1 + 4 ∧ s3 2 = pt4 (s2 2) (s2 1 1).toNat x2 ∧ (∀ j, j ≠ 1 → s3 1 j = s2 1 j) ∧ ∀ b, b ≠ 1 → b ≠ 2 → s3 b = s2 b) → 0 ≤ s3 1 1 ∧ s3 1 1 + 4 ≤ 400)
  (z5 : s 1 1 + (20 : Int) ≤ 400 → ∀ s2 : mSt, (s2 1 1 = s 1 1 + 4 ∧ s2 2 = pt4 (s 2) (s 1 1).toNat x1 ∧ (∀ j, j ≠ 1 → s2 1 j = s 1 j) ∧ ∀ b, b ≠ 1 → b ≠ 2 → s2 b = s b) → ∀ s3 : mSt, (s3 1 1 = s2 1 1 + 4 ∧ s3 2 = pt4 (s2 2) (s2 1 1).toNat x2 ∧ (∀ j, j ≠ 1 → s3 1 j = s2 1 j) ∧ ∀ b, b ≠ 1 → b ≠ 2 → s3 b = s2 b) → ∀ s4 : mSt, (s4 1 1 = s3 1 1 + 4 ∧ s4 2 = pt4 (s3 2) (s3 1 1).toNat x3 ∧ (∀ j, j ≠ 1 → s4 1 j = s3 1 j) ∧ ∀ b, b ≠ 1 → b ≠ 2 → s4 b = s3 b) → 0 ≤ s4 1 1 ∧ s4 1 1 + 4 ≤ 400)
  (z6 : s 1 1 + (20 : Int) ≤ 400 → ∀ s2 : mSt, (s2 1 1 = s 1 1 + 4 ∧ s2 2 = pt4 (s 2) (s 1 1).toNat x1 ∧ (∀ j, j ≠ 1 → s2 1 j = s 1 j) ∧ ∀ b, b ≠ 1 → b ≠ 2 → s2 b = s b) → ∀ s3 : mSt, (s3 1 1 = s2 1 1 + 4 ∧ s3 2 = pt4 (s2 2) (s2 1 1).toNat x2 ∧ (∀ j, j ≠ 1 → s3 1 j = s2 1 j) ∧ ∀ b, b ≠ 1 → b ≠ 2 → s3 b = s2 b) → ∀ s4 : mSt, (s4 1 1 = s3 1 1 + 4 ∧ s4 2 = pt4 (s3 2) (s3 1 1).toNat x3 ∧ (∀ j, j ≠ 1 → s4 1 j = s3 1 j) ∧ ∀ b, b ≠ 1 → b ≠ 2 → s4 b = s3 b) → ∀ s5 : mSt, (s5 1 1 = s4 1 1 + 4 ∧ s5 2 = pt4 (s4 2) (s4 1 1).toNat x4 ∧ (∀ j, j ≠ 1 → s5 1 j = s4 1 j) ∧ ∀ b, b ≠ 1 → b ≠ 2 → s5 b = s4 b) → 0 ≤ s5 1 1 ∧ s5 1 1 + 4 ≤ 400)
  (z7 : s 1 1 + (20 : Int) ≤ 400 → ∀ s2 : mSt, (s2 1 1 = s 1 1 + 4 ∧ s2 2 = pt4 (s 2) (s 1 1).toNat x1 ∧ (∀ j, j ≠ 1 → s2 1 j = s 1 j) ∧ ∀ b, b ≠ 1 → b ≠ 2 → s2 b = s b) → ∀ s3 : mSt, (s3 1 1 = s2 1 1 + 4 ∧ s3 2 = pt4 (s2 2) (s2 1 1).toNat x2 ∧ (∀ j, j ≠ 1 → s3 1 j = s2 1 j) ∧ ∀ b, b ≠ 1 → b ≠ 2 → s3 b = s2 b) → ∀ s4 : mSt, (s4 1 1 = s3 1 1 + 4 ∧ s4 2 = pt4 (s3 2) (s3 1 1).toNat x3 ∧ (∀ j, j ≠ 1 → s4 1 j = s3 1 j) ∧ ∀ b, b ≠ 1 → b ≠ 2 → s4 b = s3 b) → ∀ s5 : mSt, (s5 1 1 = s4 1 1 + 4 ∧ s5 2 = pt4 (s4 2) (s4 1 1).toNat x4 ∧ (∀ j, j ≠ 1 → s5 1 j = s4 1 j) ∧ ∀ b, b ≠ 1 → b ≠ 2 → s5 b = s4 b) → ∀ s6 : mSt, (s6 1 1 = s5 1 1 + 4 ∧ s6 2 = pt4 (s5 2) (s5 1 1).toNat x5 ∧ (∀ j, j ≠ 1 → s6 1 j = s5 1 j) ∧ ∀ b, b ≠ 1 → b ≠ 2 → s6 b = s5 b) → Q (some (mI (s6 1 1))) s6)
  (z8 : ¬ (s 1 1 + (20 : Int) ≤ 400) → Q (some (mI (-1))) s) :
  Sp X (d + 1) 122 [mR 0, mI x1, mI x2, mI x3, mI x4, mI x5] s Q := e122 (b122_0 (c87 z1 (fun q1 => ⟨1, rfl, b122_9 (fun _ => b122_14 (c88 (z2 q1) (fun s2 q2 => ⟨rfl, b122_22 (c88 (z3 q1 s2 q2) (fun s3 q3 => ⟨rfl, b122_30 (c88 (z4 q1 s2 q2 s3 q3) (fun s4 q4 => ⟨rfl, b122_38 (c88 (z5 q1 s2 q2 s3 q3 s4 q4) (fun s5 q5 => ⟨rfl, b122_47 (c88 (z6 q1 s2 q2 s3 q3 s4 q4 s5 q5) (fun s6 q6 => ⟨rfl, b122_56 (z7 q1 s2 q2 s3 q3 s4 q4 s5 q5 s6 q6)⟩))⟩))⟩))⟩))⟩))) (fun q => absurd q (by decide))⟩) (fun q7 => ⟨0, rfl, b122_9 (fun q => absurd q (by decide)) (fun _ => b122_12 (z8 q7))⟩)))

theorem c122 {X : (Nat → Int) × Nat} {d : Nat} {s : mSt} {Q : mQ} {x1 : Int} {x2 : Int} {x3 : Int} {x4 : Int} {x5 : Int} (p1 : 0 ≤ s 1 1 ∧ s 1 1 ≤ 400) (k : ∀ (v : Int) (t : mSt), (YN (s 1 1 + 20 ≤ 400) (v = s 1 1 + 20 ∧ t 1 1 = s 1 1 + 20 ∧ t 2 = fe5 pt4 (s 2) (s 1 1).toNat x1 x2 x3 x4 x5 ∧ (∀ j, j ≠ 1 → t 1 j = s 1 j) ∧ ∀ b, b ≠ 1 → b ≠ 2 → t b = s b) (v = -1 ∧ t = s)) → Q (some (mI v)) t) : Sp X (d + 1) 122 [mR 0, mI x1, mI x2, mI x3, mI x4, mI x5] s Q := by
  have n0 := p1
  refine v122 (by omega) (fun z => by omega) (fun z a ha => by omega) (fun z a ha b hb => by omega) (fun z a ha b hb c hc => by omega) (fun z a ha b hb c hc e he => by omega) (fun z a ha b hb c hc e he t ht => ?_) (fun z => k _ s (YN_n z ⟨rfl, rfl⟩))
  have n1 : (a 1 1).toNat = (s 1 1).toNat + 4 := by omega
  have n2 : (b 1 1).toNat = (s 1 1).toNat + 8 := by omega
  have n3 : (c 1 1).toNat = (s 1 1).toNat + 12 := by omega
  have n4 : (e 1 1).toNat = (s 1 1).toNat + 16 := by omega
  have et : t 1 1 = s 1 1 + 20 := by omega
  rw [et]
  refine k _ t (YN_y z ⟨rfl, et, ?_, fun j hj => ?_, fun x g1 g2 => ?_⟩)
  · rw [ht.2.1, he.2.1, hc.2.1, hb.2.1, ha.2.1, n1, n2, n3, n4]; rfl
  · rw [ht.2.2.1 j hj, he.2.2.1 j hj, hc.2.2.1 j hj, hb.2.2.1 j hj]; exact ha.2.2.1 j hj
  · rw [ht.2.2.2 x g1 g2, he.2.2.2 x g1 g2, hc.2.2.2 x g1 g2, hb.2.2.2 x g1 g2]; exact ha.2.2.2 x g1 g2
theorem v171 {X : (Nat → Int) × Nat} {d : Nat} {s : mSt} {Q : mQ} {x1 : Int} {x2 : Int} {x3 : Int} {x4 : Int} {x5 : Int}
  (z1 : (w32 ((s 407 1) + 20)) ≤ 400 → 0 ≤ s 407 1 ∧ s 407 1 + 4 ≤ 400)
  (z2 : (w32 ((s 407 1) + 20)) ≤ 400 → ∀ s2 : mSt, (s2 407 1 = s 407 1 + 4 ∧ s2 408 = pt4s (s 408) (s 407 1).toNat x1 ∧ (∀ j, j ≠ 1 → s2 407 j = s 407 j) ∧ ∀ b, b ≠ 407 → b ≠ 408 → s2 b = s b) → 0 ≤ s2 407 1 ∧ s2 407 1 + 4 ≤ 400)
  (z3 : (w32 ((s 407 1) + 20)) ≤ 400 → ∀ s2 : mSt, (s2 407 1 = s 407 1 + 4 ∧ s2 408 = pt4s (s 408) (s 407 1).toNat x1 ∧ (∀ j, j ≠ 1 → s2 407 j = s 407 j) ∧ ∀ b, b ≠ 407 → b ≠ 408 → s2 b = s b) → ∀ s3 : mSt, (s3 407 1 = s2 407 1 + 4 ∧ s3 408 = pt4s (s2 408) (s2 407 1).toNat x2 ∧ (∀ j, j ≠ 1 → s3 407 j = s2 407 j) ∧ ∀ b, b ≠ 407 → b ≠ 408 → s3 b = s2 b) → 0 ≤ s3 407 1 ∧ s3 407 1 + 4 ≤ 400)
  (z4 : (w32 ((s 407 1) + 20)) ≤ 400 → ∀ s2 : mSt, (s2 407 1 = s 407 1 + 4 ∧ s2 408 = pt4s (s 408) (s 407 1).toNat x1 ∧ (∀ j, j ≠ 1 → s2 407 j = s 407 j) ∧ ∀ b, b ≠ 407 → b ≠ 408 → s2 b = s b) → ∀ s3 : mSt, (s3 407 1 = s2 407 1 + 4 ∧ s3 408 = pt4s (s2 408) (s2 407 1).toNat x2 ∧ (∀ j, j ≠ 1 → s3 407 j = s2 407 j) ∧ ∀ b, b ≠ 407 → b ≠ 408 → s3 b = s2 b) → ∀ s4 : mSt, (s4 407 1 = s3 407 1 + 4 ∧ s4 408 = pt4s (s3 408) (s3 407 1).toNat x3 ∧ (∀ j, j ≠ 1 → s4 407 j = s3 407 j) ∧ ∀ b, b ≠ 407 → b ≠ 408 → s4 b = s3 b) → 0 ≤ s4 407 1 ∧ s4 407 1 + 4 ≤ 400)
  (z5 : (w32 ((s 407 1) + 20)) ≤ 400 → ∀ s2 : mSt, (s2 407 1 = s 407 1 + 4 ∧ s2 408 = pt4s (s 408) (s 407 1).toNat x1 ∧ (∀ j, j ≠ 1 → s2 407 j = s 407 j) ∧ ∀ b, b ≠ 407 → b ≠ 408 → s2 b = s b) → ∀ s3 : mSt, (s3 407 1 = s2 407 1 + 4 ∧ s3 408 = pt4s (s2 408) (s2 407 1).toNat x2 ∧ (∀ j, j ≠ 1 → s3 407 j = s2 407 j) ∧ ∀ b, b ≠ 407 → b ≠ 408 → s3 b = s2 b) → ∀ s4 : mSt, (s4 407 1 = s3 407 1 + 4 ∧ s4 408 = pt4s (s3 408) (s3 407 1).toNat x3 ∧ (∀ j, j ≠ 1 → s4 407 j = s3 407 j) ∧ ∀ b, b ≠ 407 → b ≠ 408 → s4 b = s3 b) → ∀ s5 : mSt, (s5 407 1 = s4 407 1 + 4 ∧ s5 408 = pt4s (s4 408) (s4 407 1).toNat x4 ∧ (∀ j, j ≠ 1 → s5 407 j = s4 407 j) ∧ ∀ b, b ≠ 407 → b ≠ 408 → s5 b = s4 b) → 0 ≤ s5 407 1 ∧ s5 407 1 + 4 ≤ 400)
  (z6 : (w32 ((s 407 1) + 20)) ≤ 400 → ∀ s2 : mSt, (s2 407 1 = s 407 1 + 4 ∧ s2 408 = pt4s (s 408) (s 407 1).toNat x1 ∧ (∀ j, j ≠ 1 → s2 407 j = s 407 j) ∧ ∀ b, b ≠ 407 → b ≠ 408 → s2 b = s b) → ∀ s3 : mSt, (s3 407 1 = s2 407 1 + 4 ∧ s3 408 = pt4s (s2 408) (s2 407 1).toNat x2 ∧ (∀ j, j ≠ 1 → s3 407 j = s2 407 j) ∧ ∀ b, b ≠ 407 → b ≠ 408 → s3 b = s2 b) → ∀ s4 : mSt, (s4 407 1 = s3 407 1 + 4 ∧ s4 408 = pt4s (s3 408) (s3 407 1).toNat x3 ∧ (∀ j, j ≠ 1 → s4 407 j = s3 407 j) ∧ ∀ b, b ≠ 407 → b ≠ 408 → s4 b = s3 b) → ∀ s5 : mSt, (s5 407 1 = s4 407 1 + 4 ∧ s5 408 = pt4s (s4 408) (s4 407 1).toNat x4 ∧ (∀ j, j ≠ 1 → s5 407 j = s4 407 j) ∧ ∀ b, b ≠ 407 → b ≠ 408 → s5 b = s4 b) → ∀ s6 : mSt, (s6 407 1 = s5 407 1 + 4 ∧ s6 408 = pt4s (s5 408) (s5 407 1).toNat x5 ∧ (∀ j, j ≠ 1 → s6 407 j = s5 407 j) ∧ ∀ b, b ≠ 407 → b ≠ 408 → s6 b = s5 b) → Q (some (mI (s6 407 1))) s6)
  (z7 : ¬ (w32 ((s 407 1) + 20)) ≤ 400 → Q (some (mI (-1))) s) :
  Sp X (d + 1) 171 [mR 407, mI x1, mI x2, mI x3, mI x4, mI x5] s Q := e171 (b171_0 (fun q1 => b171_15 (c170 (z1 q1) (fun s2 q2 => ⟨rfl, b171_20 (c170 (z2 q1 s2 q2) (fun s3 q3 => ⟨rfl, b171_25 (c170 (z3 q1 s2 q2 s3 q3) (fun s4 q4 => ⟨rfl, b171_30 (c170 (z4 q1 s2 q2 s3 q3 s4 q4) (fun s5 q5 => ⟨rfl, b171_36 (c170 (z5 q1 s2 q2 s3 q3 s4 q4 s5 q5) (fun s6 q6 => ⟨rfl, b171_42 (z6 q1 s2 q2 s3 q3 s4 q4 s5 q5 s6 q6)⟩))⟩))⟩))⟩))⟩))) (fun q7 => b171_13 (z7 q7)))

theorem c171 {X : (Nat → Int) × Nat} {d : Nat} {s : mSt} {Q : mQ} {x1 : Int} {x2 : Int} {x3 : Int} {x4 : Int} {x5 : Int} (p1 : 0 ≤ s 407 1 ∧ s 407 1 ≤ 400) (k : ∀ (v : Int) (t : mSt), (YN (s 407 1 + 20 ≤ 400) (v = s 407 1 + 20 ∧ t 407 1 = s 407 1 + 20 ∧ t 408 = fe5 pt4s (s 408) (s 407 1).toNat x1 x2 x3 x4 x5 ∧ (∀ j, j ≠ 1 → t 407 j = s 407 j) ∧ ∀ b, b ≠ 407 → b ≠ 408 → t b = s b) (v = -1 ∧ t = s)) → Q (some (mI v)) t) : Sp X (d + 1) 171 [mR 407, mI x1, mI x2, mI x3, mI x4, mI x5] s Q := by
  have n0 := p1
  have w : w32 (s 407 1 + 20) = s 407 1 + 20 := w32_of (by omega)
  refine v171 (fun z => by omega) (fun z a ha => by omega) (fun z a ha b hb => by omega) (fun z a ha b hb c hc => by omega) (fun z a ha b hb c hc e he => by omega) (fun z a ha b hb c hc e he t ht => ?_) (fun z => k _ s (YN_n (by rw [← w]; exact z) ⟨rfl, rfl⟩))
  have n1 : (a 407 1).toNat = (s 407 1).toNat + 4 := by omega
  have n2 : (b 407 1).toNat = (s 407 1).toNat + 8 := by omega
  have n3 : (c 407 1).toNat = (s 407 1).toNat + 12 := by omega
  have n4 : (e 407 1).toNat = (s 407 1).toNat + 16 := by omega
  have et : t 407 1 = s 407 1 + 20 := by omega
  rw [et]
  refine k _ t (YN_y (by rw [← w]; exact z) ⟨rfl, et, ?_, fun j hj => ?_, fun x g1 g2 => ?_⟩)
  · rw [ht.2.1, he.2.1, hc.2.1, hb.2.1, ha.2.1, n1, n2, n3, n4]; rfl
  · rw [ht.2.2.1 j hj, he.2.2.1 j hj, hc.2.2.1 j hj, hb.2.2.1 j hj]; exact ha.2.2.1 j hj
  · rw [ht.2.2.2 x g1 g2, he.2.2.2 x g1 g2, hc.2.2.2 x g1 g2, hb.2.2.2 x g1 g2]; exact ha.2.2.2 x g1 g2
