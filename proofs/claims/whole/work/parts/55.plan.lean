/-! plans: the least slot, runs of free slots -/
theorem Wp_gen {X : (Nat → Int) × Nat} {d mi pc : Nat} {ls : mLo} {st : List mV} {e : mSt} {Q : mQ} (h : ∀ t : mSt, t = e → Wp X d mi pc ls st t Q) : Wp X d mi pc ls st e Q := h e rfl
def ftA (a : Rw) (c p t : Nat) : Bool := decide (a (6 + p) ≤ (t : Int)) && (decide ((t : Int) + tm a c p ≤ 30) && (decide (dyo t = dyo (t + tm a c p - 1)) && !an (fun i => decide (fre a (t + i) = 0)) (tm a c p).toNat))
def okA (a : Rw) (c p : Nat) (ah en hr : Int) (t : Nat) : Bool := ftA a c p t && (!(decide ((t : Int) < 20) && decide (a 2 < hr + tm a c p)) && !(decide (0 ≤ ah) && decide ((t : Int) < en + (if dyo ah = dyo t then a (129 + c) else 0))))
def lsA (a : Rw) (c p : Nat) (ah en hr : Int) : Int := fd (okA a c p ah en hr) 30
theorem an_false {f : Nat → Bool} {n : Nat} : an f n = false ↔ ∀ i, i < n → f i = false := by
  constructor
  · intro h i hi
    apply bf; intro z
    rw [an_iff.2 ⟨i, hi, z⟩] at h; exact absurd h (by decide)
  · intro h
    apply bf; intro z
    obtain ⟨i, hi, q⟩ := an_iff.1 z
    rw [h i hi] at q; exact absurd q (by decide)
/-- runs -/
def rn (x : Int) : Nat → Int
  | 0 => x
  | n + 1 => iAnd (rn x n) (iUsh x ((n + 1 : Nat) : Int))
theorem rn_bq {x : Int} (t : Nat) : ∀ {n : Nat}, n < 31 → bq (rn x n) t = !an (fun i => !bq x (t + i)) (n + 1)
  | 0, _ => by simp [rn, an]
  | n + 1, h => by
    rw [an_s]
    unfold rn
    rw [bq_and, rn_bq t (n := n) (by omega), bq_ush _ (by omega), tnc]
    simp
theorem rn_i3 {x : Int} (hx : i3 x) : ∀ n : Nat, i3 (rn x n)
  | 0 => hx
  | _ + 1 => i3_and _ _
theorem v63 {X : (Nat → Int) × Nat} {d : Nat} {s : mSt} {Q : mQ} {x0 : Int} {x1 : Int}
  (I4 : Int → Int → Prop) (m4 : Int → Int → Nat)
  (z1 : ∀ y2 : Int, ∀ y3 : Int, I4 y2 y3 → x1 ≤ y3 → Q (some (mI y2)) s)
  (z2 : ∀ y2 : Int, ∀ y3 : Int, I4 y2 y3 → ¬ x1 ≤ y3 → 30 ≤ y3 → Q (some (mI y2)) s)
  (z3 : ∀ y2 : Int, ∀ y3 : Int, I4 y2 y3 → ¬ x1 ≤ y3 → ¬ 30 ≤ y3 → I4 (iAnd y2 (iUsh x0 y3)) (w32 (y3 + 1)) ∧ m4 (iAnd y2 (iUsh x0 y3)) (w32 (y3 + 1)) < m4 y2 y3)
  (z4 : I4 x0 1) :
  Sp X d 63 [mI x0, mI x1] s Q := by
  have L : ∀ k : Nat, (∀ (y2 : Int) (y3 : Int), I4 y2 y3 → m4 y2 y3 < k → Wp X d 63 4 [some (mI x0), some (mI x1), some (mI y2), some (mI y3)] [] s Q) := by
    intro k
    induction k with
    | zero => exact fun _ _ _ h => absurd h (Nat.not_lt_zero _)
    | succ k ih => exact fun y2 y3 hI hm => b63_4 (fun q1 => b63_27 (z1 y2 y3 hI q1)) (fun q2 => b63_9 (fun q3 => b63_27 (z2 y2 y3 hI q2 q3)) (fun q4 => b63_15 (ih (iAnd y2 (iUsh x0 y3)) (w32 (y3 + 1)) (z3 y2 y3 hI q2 q4).1 (Nat.lt_of_lt_of_le (z3 y2 y3 hI q2 q4).2 (Nat.le_of_lt_succ hm)))))
  exact e63 (b63_0 ((L (m4 x0 1 + 1)) x0 1 z4 (Nat.lt_succ_self _)))

theorem c63 {X : (Nat → Int) × Nat} {d : Nat} {s : mSt} {Q : mQ} {x0 : Int} {x1 : Int} (p1 : 1 ≤ x1 ∧ x1 ≤ 12) (k : Q (some (mI (rn x0 (x1.toNat - 1)))) s) : Sp X d 63 [mI x0, mI x1] s Q := by
  refine v63 (fun y2 y3 => ∃ j : Nat, y3 = j + 1 ∧ (j : Int) + 1 ≤ x1 ∧ y2 = rn x0 j) (fun _ y => (12 - y).toNat) ?_ ?_ ?_ ?_
  · rintro _ _ ⟨j, rfl, hj, rfl⟩ hc
    rw [show x1.toNat - 1 = j by omega] at k
    exact k
  · rintro _ _ ⟨j, rfl, hj, rfl⟩ hc q
    omega
  · rintro _ _ ⟨j, rfl, hj, rfl⟩ hc q
    rw [w32_of (by omega)]
    exact ⟨⟨j + 1, by omega, by omega, rfl⟩, by omega⟩
  · exact ⟨0, rfl, by omega, rfl⟩
theorem bq_lo20 (i : Nat) : bq 1048575 i = decide (i < 20) := by
  rw [show (1048575 : Int) = ((2 ^ 20 - 1 : Nat) : Int) from rfl, bq_nat (by decide), Nat.testBit_two_pow_sub_one]
theorem bq_hi20 {i : Nat} (h : i < 32) : bq (-1048576) i = decide (20 ≤ i) := (show ∀ i : Fin 32, bq (-1048576) i.val = decide (20 ≤ i.val) by decide +kernel) ⟨i, h⟩
theorem bq_hj20 (i : Nat) : bq (-1048576) i = (decide (20 ≤ i) && decide (i < 32)) := by
  by_cases h : i < 32
  · rw [bq_hi20 h]; simp [h]
  · rw [bq_hi _ (by omega)]; simp [h]
/-- where a paper fits, by bits -/
theorem fits_bits {a : Rw} {c p : Nat} (h1 : 1 ≤ tm a c p) (h2 : tm a c p ≤ 12) (hf : ∀ t, 0 ≤ fre a t) :
    iAnd (iOr (rn (iAnd (os (fun t => decide (0 < fre a t)) 30) 1048575) ((tm a c p).toNat - 1)) (rn (iAnd (os (fun t => decide (0 < fre a t)) 30) (-1048576)) ((tm a c p).toNat - 1))) (os (fun t => decide (a (6 + p) ≤ (t : Int))) 30) = os (ftA a c p) 30 := by
  have b := os_30 (f := ftA a c p) (n := 30) (by decide)
  apply bq_ext (i3_and _ _) (by unfold i3; omega)
  intro t ht
  rw [bq_and, bq_or, rn_bq t (by omega), rn_bq t (by omega), os_bq (by decide), os_bq (by decide), show (tm a c p).toNat - 1 + 1 = (tm a c p).toNat by omega]
  by_cases h30 : t < 30
  · simp only [h30, decide_true, Bool.true_and]
    unfold ftA
    by_cases hs : a (6 + p) ≤ (t : Int)
    · simp only [hs, decide_true, Bool.and_true, Bool.true_and]
      have q1 : (!an (fun i => !bq (iAnd (os (fun t => decide (0 < fre a t)) 30) 1048575) (t + i)) (tm a c p).toNat) = true ↔ ∀ i, i < (tm a c p).toNat → t + i < 20 ∧ 0 < fre a (t + i) := by
        rw [Bool.not_eq_true', an_false]
        constructor
        · intro q i hi
          have := q i hi
          rw [bq_and, os_bq (by decide), bq_lo20] at this
          simp at this
          omega
        · intro q i hi
          have := q i hi
          rw [bq_and, os_bq (by decide), bq_lo20]
          simp; omega
      have q2 : (!an (fun i => !bq (iAnd (os (fun t => decide (0 < fre a t)) 30) (-1048576)) (t + i)) (tm a c p).toNat) = true ↔ ∀ i, i < (tm a c p).toNat → (20 ≤ t + i ∧ t + i < 30) ∧ 0 < fre a (t + i) := by
        rw [Bool.not_eq_true', an_false]
        constructor
        · intro q i hi
          have := q i hi
          rw [bq_and, os_bq (by decide), bq_hj20] at this
          simp at this
          omega
        · intro q i hi
          have := q i hi
          rw [bq_and, os_bq (by decide), bq_hj20]
          simp; omega
      rw [Bool.eq_iff_iff, Bool.or_eq_true, q1, q2, Bool.and_eq_true, Bool.and_eq_true, decide_eq_true_iff, decide_eq_true_iff, Bool.not_eq_true', an_false]
      constructor
      · rintro (q | q)
        · have w1 := q ((tm a c p).toNat - 1) (by omega)
          have w0 := q 0 (by omega)
          refine ⟨by omega, ?_, fun i hi => ?_⟩
          · unfold dyo; rw [if_pos (by omega), if_pos (by omega)]
          · have := (q i hi).2; simp; omega
        · have w1 := q ((tm a c p).toNat - 1) (by omega)
          have w0 := q 0 (by omega)
          refine ⟨by omega, ?_, fun i hi => ?_⟩
          · unfold dyo; rw [if_neg (by omega), if_neg (by omega)]
          · have := (q i hi).2; simp; omega
      · rintro ⟨w1, w2, w3⟩
        have w4 : ∀ i, i < (tm a c p).toNat → 0 < fre a (t + i) := fun i hi => by
          have := w3 i hi; have := hf (t + i); simp at *; omega
        unfold dyo at w2
        by_cases hd : (t : Int) < 20
        · rw [if_pos hd] at w2
          left; intro i hi
          refine ⟨?_, w4 i hi⟩
          by_cases hd2 : (t : Int) + tm a c p - 1 < 20
          · omega
          · rw [if_neg hd2] at w2; omega
        · right; intro i hi
          exact ⟨by omega, w4 i hi⟩
    · simp [hs]
  · simp [h30]
theorem ls_go {E : Int} {f : Nat → Bool} (hE : i3 E) (hb : ∀ t, t < 30 → bq E t = f t) (hh : ∀ t, 30 ≤ t → t < 32 → bq E t = false) : (¬ E = 0 → 0 < E ∧ E < 1073741824) ∧ fd (bq E) 30 = fd f 30 ∧ (E = 0 → fd f 30 = -1) := by
  have b := lt_of_bq hE (k := 30) (by decide) hh
  have e : fd (bq E) 30 = fd f 30 := fd_congr hb
  refine ⟨fun h => by omega, e, fun h => ?_⟩
  rw [← e, h]
  have := fd_ge (f := bq 0) (n := 30)
  have : fd (bq 0) 30 < 0 := fd_neg.2 (fun i _ => bq_0 i)
  omega
def lsB (s : mSt) (p : Nat) (en wk : Int) (t : Nat) : Bool := bq (s 47 p) t && ((decide (en = -1) || (decide (en + s 44 5 ≤ (t : Int)) || (decide (en ≤ 20) && decide (20 ≤ t)))) && !(decide (s 44 4 < wk + s 46 p) && decide (t < 20)))
theorem v65 {X : (Nat → Int) × Nat} {d : Nat} {s : mSt} {Q : mQ} {x1 : Int} {x2 : Int} {x3 : Int}
  (z1 : 0 ≤ x1 ∧ x1 < 5)
  (z2 : x2 = (-1) → 0 ≤ x1 ∧ x1 < 5)
  (z3 : x2 = (-1) → (w32 (x3 + (s 46 x1.toNat))) ≤ (s 44 4) → ¬ (s 47 x1.toNat) = 0 → 0 < (s 47 x1.toNat) ∧ (s 47 x1.toNat) < 1073741824)
  (z4 : x2 = (-1) → (w32 (x3 + (s 46 x1.toNat))) ≤ (s 44 4) → ¬ (s 47 x1.toNat) = 0 → Q (some (mI (fd (bq (s 47 x1.toNat)) 30))) s)
  (z5 : x2 = (-1) → (w32 (x3 + (s 46 x1.toNat))) ≤ (s 44 4) → (s 47 x1.toNat) = 0 → Q (some (mI (-1))) s)
  (z6 : x2 = (-1) → ¬ (w32 (x3 + (s 46 x1.toNat))) ≤ (s 44 4) → ¬ (iAnd (s 47 x1.toNat) (-1048576)) = 0 → 0 < (iAnd (s 47 x1.toNat) (-1048576)) ∧ (iAnd (s 47 x1.toNat) (-1048576)) < 1073741824)
  (z7 : x2 = (-1) → ¬ (w32 (x3 + (s 46 x1.toNat))) ≤ (s 44 4) → ¬ (iAnd (s 47 x1.toNat) (-1048576)) = 0 → Q (some (mI (fd (bq (iAnd (s 47 x1.toNat) (-1048576))) 30))) s)
  (z8 : x2 = (-1) → ¬ (w32 (x3 + (s 46 x1.toNat))) ≤ (s 44 4) → (iAnd (s 47 x1.toNat) (-1048576)) = 0 → Q (some (mI (-1))) s)
  (z9 : ¬ x2 = (-1) → 20 < x2 → 0 ≤ x1 ∧ x1 < 5)
  (z10 : ¬ x2 = (-1) → 20 < x2 → (w32 (x3 + (s 46 x1.toNat))) ≤ (s 44 4) → ¬ (iAnd (s 47 x1.toNat) (iShl (-1) (iMin (w32 (x2 + (s 44 5))) 30))) = 0 → 0 < (iAnd (s 47 x1.toNat) (iShl (-1) (iMin (w32 (x2 + (s 44 5))) 30))) ∧ (iAnd (s 47 x1.toNat) (iShl (-1) (iMin (w32 (x2 + (s 44 5))) 30))) < 1073741824)
  (z11 : ¬ x2 = (-1) → 20 < x2 → (w32 (x3 + (s 46 x1.toNat))) ≤ (s 44 4) → ¬ (iAnd (s 47 x1.toNat) (iShl (-1) (iMin (w32 (x2 + (s 44 5))) 30))) = 0 → Q (some (mI (fd (bq (iAnd (s 47 x1.toNat) (iShl (-1) (iMin (w32 (x2 + (s 44 5))) 30)))) 30))) s)
  (z12 : ¬ x2 = (-1) → 20 < x2 → (w32 (x3 + (s 46 x1.toNat))) ≤ (s 44 4) → (iAnd (s 47 x1.toNat) (iShl (-1) (iMin (w32 (x2 + (s 44 5))) 30))) = 0 → Q (some (mI (-1))) s)
  (z13 : ¬ x2 = (-1) → 20 < x2 → ¬ (w32 (x3 + (s 46 x1.toNat))) ≤ (s 44 4) → ¬ (iAnd (iAnd (s 47 x1.toNat) (iShl (-1) (iMin (w32 (x2 + (s 44 5))) 30))) (-1048576)) = 0 → 0 < (iAnd (iAnd (s 47 x1.toNat) (iShl (-1) (iMin (w32 (x2 + (s 44 5))) 30))) (-1048576)) ∧ (iAnd (iAnd (s 47 x1.toNat) (iShl (-1) (iMin (w32 (x2 + (s 44 5))) 30))) (-1048576)) < 1073741824)
  (z14 : ¬ x2 = (-1) → 20 < x2 → ¬ (w32 (x3 + (s 46 x1.toNat))) ≤ (s 44 4) → ¬ (iAnd (iAnd (s 47 x1.toNat) (iShl (-1) (iMin (w32 (x2 + (s 44 5))) 30))) (-1048576)) = 0 → Q (some (mI (fd (bq (iAnd (iAnd (s 47 x1.toNat) (iShl (-1) (iMin (w32 (x2 + (s 44 5))) 30))) (-1048576))) 30))) s)
  (z15 : ¬ x2 = (-1) → 20 < x2 → ¬ (w32 (x3 + (s 46 x1.toNat))) ≤ (s 44 4) → (iAnd (iAnd (s 47 x1.toNat) (iShl (-1) (iMin (w32 (x2 + (s 44 5))) 30))) (-1048576)) = 0 → Q (some (mI (-1))) s)
  (z16 : ¬ x2 = (-1) → ¬ 20 < x2 → 0 ≤ x1 ∧ x1 < 5)
  (z17 : ¬ x2 = (-1) → ¬ 20 < x2 → (w32 (x3 + (s 46 x1.toNat))) ≤ (s 44 4) → ¬ (iAnd (s 47 x1.toNat) (iOr (iShl (-1) (iMin (w32 (x2 + (s 44 5))) 30)) (-1048576))) = 0 → 0 < (iAnd (s 47 x1.toNat) (iOr (iShl (-1) (iMin (w32 (x2 + (s 44 5))) 30)) (-1048576))) ∧ (iAnd (s 47 x1.toNat) (iOr (iShl (-1) (iMin (w32 (x2 + (s 44 5))) 30)) (-1048576))) < 1073741824)
  (z18 : ¬ x2 = (-1) → ¬ 20 < x2 → (w32 (x3 + (s 46 x1.toNat))) ≤ (s 44 4) → ¬ (iAnd (s 47 x1.toNat) (iOr (iShl (-1) (iMin (w32 (x2 + (s 44 5))) 30)) (-1048576))) = 0 → Q (some (mI (fd (bq (iAnd (s 47 x1.toNat) (iOr (iShl (-1) (iMin (w32 (x2 + (s 44 5))) 30)) (-1048576)))) 30))) s)
  (z19 : ¬ x2 = (-1) → ¬ 20 < x2 → (w32 (x3 + (s 46 x1.toNat))) ≤ (s 44 4) → (iAnd (s 47 x1.toNat) (iOr (iShl (-1) (iMin (w32 (x2 + (s 44 5))) 30)) (-1048576))) = 0 → Q (some (mI (-1))) s)
  (z20 : ¬ x2 = (-1) → ¬ 20 < x2 → ¬ (w32 (x3 + (s 46 x1.toNat))) ≤ (s 44 4) → ¬ (iAnd (iAnd (s 47 x1.toNat) (iOr (iShl (-1) (iMin (w32 (x2 + (s 44 5))) 30)) (-1048576))) (-1048576)) = 0 → 0 < (iAnd (iAnd (s 47 x1.toNat) (iOr (iShl (-1) (iMin (w32 (x2 + (s 44 5))) 30)) (-1048576))) (-1048576)) ∧ (iAnd (iAnd (s 47 x1.toNat) (iOr (iShl (-1) (iMin (w32 (x2 + (s 44 5))) 30)) (-1048576))) (-1048576)) < 1073741824)
  (z21 : ¬ x2 = (-1) → ¬ 20 < x2 → ¬ (w32 (x3 + (s 46 x1.toNat))) ≤ (s 44 4) → ¬ (iAnd (iAnd (s 47 x1.toNat) (iOr (iShl (-1) (iMin (w32 (x2 + (s 44 5))) 30)) (-1048576))) (-1048576)) = 0 → Q (some (mI (fd (bq (iAnd (iAnd (s 47 x1.toNat) (iOr (iShl (-1) (iMin (w32 (x2 + (s 44 5))) 30)) (-1048576))) (-1048576))) 30))) s)
  (z22 : ¬ x2 = (-1) → ¬ 20 < x2 → ¬ (w32 (x3 + (s 46 x1.toNat))) ≤ (s 44 4) → (iAnd (iAnd (s 47 x1.toNat) (iOr (iShl (-1) (iMin (w32 (x2 + (s 44 5))) 30)) (-1048576))) (-1048576)) = 0 → Q (some (mI (-1))) s) :
  Sp X (d + 1) 65 [mR 44, mI x1, mI x2, mI x3] s Q := e65 (b65_0 z1 (fun q1 => b65_49 (z2 q1) (fun q2 => b65_71 (fun q3 => b65_80 (c310 (z3 q1 q2 q3) ⟨_, rfl, b65_85 (z4 q1 q2 q3)⟩)) (fun q4 => b65_76 (b65_85 (z5 q1 q2 q4)))) (fun q5 => b65_64 (b65_71 (fun q6 => b65_80 (c310 (z6 q1 q5 q6) ⟨_, rfl, b65_85 (z7 q1 q5 q6)⟩)) (fun q7 => b65_76 (b65_85 (z8 q1 q5 q7)))))) (fun q8 => b65_13 (fun q9 => b65_44 (b65_46 (b65_49 (z9 q8 q9) (fun q10 => b65_71 (fun q11 => b65_80 (c310 (z10 q8 q9 q10 q11) ⟨_, rfl, b65_85 (z11 q8 q9 q10 q11)⟩)) (fun q12 => b65_76 (b65_85 (z12 q8 q9 q10 q12)))) (fun q13 => b65_64 (b65_71 (fun q14 => b65_80 (c310 (z13 q8 q9 q13 q14) ⟨_, rfl, b65_85 (z14 q8 q9 q13 q14)⟩)) (fun q15 => b65_76 (b65_85 (z15 q8 q9 q13 q15)))))))) (fun q16 => b65_36 (b65_46 (b65_49 (z16 q8 q16) (fun q17 => b65_71 (fun q18 => b65_80 (c310 (z17 q8 q16 q17 q18) ⟨_, rfl, b65_85 (z18 q8 q16 q17 q18)⟩)) (fun q19 => b65_76 (b65_85 (z19 q8 q16 q17 q19)))) (fun q20 => b65_64 (b65_71 (fun q21 => b65_80 (c310 (z20 q8 q16 q20 q21) ⟨_, rfl, b65_85 (z21 q8 q16 q20 q21)⟩)) (fun q22 => b65_76 (b65_85 (z22 q8 q16 q20 q22))))))))))

theorem c65 {X : (Nat → Int) × Nat} {d : Nat} {s : mSt} {Q : mQ} {x1 : Int} {x2 : Int} {x3 : Int} (p1 : (0 ≤ x1 ∧ x1 < 5) ∧ (0 ≤ s 47 x1.toNat ∧ s 47 x1.toNat < 1073741824) ∧ (x2 = -1 ∨ 0 ≤ x2 ∧ x2 ≤ 30) ∧ (0 ≤ s 44 5 ∧ s 44 5 ≤ 3) ∧ (0 ≤ x3 ∧ x3 ≤ 100) ∧ (0 ≤ s 46 x1.toNat ∧ s 46 x1.toNat ≤ 12)) (k : Q (some (mI (fd (lsB s x1.toNat x2 x3) 30))) s) : Sp X (d + 1) 65 [mR 44, mI x1, mI x2, mI x3] s Q := by
  obtain ⟨h1, h2, h3, h4, h5, h6⟩ := p1
  have ew : w32 (x3 + s 46 x1.toNat) = x3 + s 46 x1.toNat := w32_of (by omega)
  have i47 : i3 (s 47 x1.toNat) := by unfold i3; omega
  have hi47 : ∀ t, 30 ≤ t → t < 32 → bq (s 47 x1.toNat) t = false := fun t ht _ => bq_lt (k := 30) h2 (by decide) ht
  have g1 : x2 = -1 → w32 (x3 + s 46 x1.toNat) ≤ s 44 4 → (¬ s 47 x1.toNat = 0 → 0 < s 47 x1.toNat ∧ s 47 x1.toNat < 1073741824) ∧ fd (bq (s 47 x1.toNat)) 30 = fd (lsB s x1.toNat x2 x3) 30 ∧ (s 47 x1.toNat = 0 → fd (lsB s x1.toNat x2 x3) 30 = -1) := fun e q => by
    rw [ew] at q
    refine ls_go i47 (fun t ht => ?_) hi47
    unfold lsB
    simp [e, show ¬ s 44 4 < x3 + s 46 x1.toNat by omega]
  have g2 : x2 = -1 → ¬ w32 (x3 + s 46 x1.toNat) ≤ s 44 4 → (¬ iAnd (s 47 x1.toNat) (-1048576) = 0 → 0 < iAnd (s 47 x1.toNat) (-1048576) ∧ iAnd (s 47 x1.toNat) (-1048576) < 1073741824) ∧ fd (bq (iAnd (s 47 x1.toNat) (-1048576))) 30 = fd (lsB s x1.toNat x2 x3) 30 ∧ (iAnd (s 47 x1.toNat) (-1048576) = 0 → fd (lsB s x1.toNat x2 x3) 30 = -1) := fun e q => by
    rw [ew] at q
    refine ls_go (i3_and _ _) (fun t ht => ?_) (fun t h1 h2 => by rw [bq_and, hi47 t h1 h2]; rfl)
    unfold lsB
    rw [bq_and, bq_hi20 (by omega)]
    by_cases w : t < 20
    · simp [e, w, show s 44 4 < x3 + s 46 x1.toNat by omega]
    · simp [e, w, show 20 ≤ t by omega]
  have er : ¬ x2 = -1 → w32 (x2 + s 44 5) = x2 + s 44 5 := fun e => w32_of (by omega)
  have g3 : ¬ x2 = -1 → 20 < x2 → w32 (x3 + s 46 x1.toNat) ≤ s 44 4 → (¬ iAnd (s 47 x1.toNat) (iShl (-1) (iMin (w32 (x2 + s 44 5)) 30)) = 0 → 0 < iAnd (s 47 x1.toNat) (iShl (-1) (iMin (w32 (x2 + s 44 5)) 30)) ∧ iAnd (s 47 x1.toNat) (iShl (-1) (iMin (w32 (x2 + s 44 5)) 30)) < 1073741824) ∧ fd (bq (iAnd (s 47 x1.toNat) (iShl (-1) (iMin (w32 (x2 + s 44 5)) 30)))) 30 = fd (lsB s x1.toNat x2 x3) 30 ∧ (iAnd (s 47 x1.toNat) (iShl (-1) (iMin (w32 (x2 + s 44 5)) 30)) = 0 → fd (lsB s x1.toNat x2 x3) 30 = -1) := fun e l q => by
    rw [ew] at q
    refine ls_go (i3_and _ _) (fun t ht => ?_) (fun t h1 h2 => by rw [bq_and, hi47 t h1 h2]; rfl)
    unfold lsB
    rw [bq_and, er e, bq_fr (by omega) t ht]
    simp [e, show ¬ x2 ≤ 20 by omega, show ¬ s 44 4 < x3 + s 46 x1.toNat by omega]
  have g4 : ¬ x2 = -1 → 20 < x2 → ¬ w32 (x3 + s 46 x1.toNat) ≤ s 44 4 → (¬ iAnd (iAnd (s 47 x1.toNat) (iShl (-1) (iMin (w32 (x2 + s 44 5)) 30))) (-1048576) = 0 → 0 < iAnd (iAnd (s 47 x1.toNat) (iShl (-1) (iMin (w32 (x2 + s 44 5)) 30))) (-1048576) ∧ iAnd (iAnd (s 47 x1.toNat) (iShl (-1) (iMin (w32 (x2 + s 44 5)) 30))) (-1048576) < 1073741824) ∧ fd (bq (iAnd (iAnd (s 47 x1.toNat) (iShl (-1) (iMin (w32 (x2 + s 44 5)) 30))) (-1048576))) 30 = fd (lsB s x1.toNat x2 x3) 30 ∧ (iAnd (iAnd (s 47 x1.toNat) (iShl (-1) (iMin (w32 (x2 + s 44 5)) 30))) (-1048576) = 0 → fd (lsB s x1.toNat x2 x3) 30 = -1) := fun e l q => by
    rw [ew] at q
    refine ls_go (i3_and _ _) (fun t ht => ?_) (fun t h1 h2 => by rw [bq_and, bq_and, hi47 t h1 h2]; rfl)
    unfold lsB
    rw [bq_and, bq_and, er e, bq_fr (by omega) t ht, bq_hi20 (by omega)]
    by_cases w : t < 20
    · simp [e, w, show ¬ x2 ≤ 20 by omega, show s 44 4 < x3 + s 46 x1.toNat by omega]
    · simp [e, w, show ¬ x2 ≤ 20 by omega, show 20 ≤ t by omega]
  have g5 : ¬ x2 = -1 → ¬ 20 < x2 → w32 (x3 + s 46 x1.toNat) ≤ s 44 4 → (¬ iAnd (s 47 x1.toNat) (iOr (iShl (-1) (iMin (w32 (x2 + s 44 5)) 30)) (-1048576)) = 0 → 0 < iAnd (s 47 x1.toNat) (iOr (iShl (-1) (iMin (w32 (x2 + s 44 5)) 30)) (-1048576)) ∧ iAnd (s 47 x1.toNat) (iOr (iShl (-1) (iMin (w32 (x2 + s 44 5)) 30)) (-1048576)) < 1073741824) ∧ fd (bq (iAnd (s 47 x1.toNat) (iOr (iShl (-1) (iMin (w32 (x2 + s 44 5)) 30)) (-1048576)))) 30 = fd (lsB s x1.toNat x2 x3) 30 ∧ (iAnd (s 47 x1.toNat) (iOr (iShl (-1) (iMin (w32 (x2 + s 44 5)) 30)) (-1048576)) = 0 → fd (lsB s x1.toNat x2 x3) 30 = -1) := fun e l q => by
    rw [ew] at q
    refine ls_go (i3_and _ _) (fun t ht => ?_) (fun t h1 h2 => by rw [bq_and, hi47 t h1 h2]; rfl)
    unfold lsB
    rw [bq_and, bq_or, er e, bq_fr (by omega) t ht, bq_hi20 (by omega)]
    simp [e, show x2 ≤ 20 by omega, show ¬ s 44 4 < x3 + s 46 x1.toNat by omega]
  have g6 : ¬ x2 = -1 → ¬ 20 < x2 → ¬ w32 (x3 + s 46 x1.toNat) ≤ s 44 4 → (¬ iAnd (iAnd (s 47 x1.toNat) (iOr (iShl (-1) (iMin (w32 (x2 + s 44 5)) 30)) (-1048576))) (-1048576) = 0 → 0 < iAnd (iAnd (s 47 x1.toNat) (iOr (iShl (-1) (iMin (w32 (x2 + s 44 5)) 30)) (-1048576))) (-1048576) ∧ iAnd (iAnd (s 47 x1.toNat) (iOr (iShl (-1) (iMin (w32 (x2 + s 44 5)) 30)) (-1048576))) (-1048576) < 1073741824) ∧ fd (bq (iAnd (iAnd (s 47 x1.toNat) (iOr (iShl (-1) (iMin (w32 (x2 + s 44 5)) 30)) (-1048576))) (-1048576))) 30 = fd (lsB s x1.toNat x2 x3) 30 ∧ (iAnd (iAnd (s 47 x1.toNat) (iOr (iShl (-1) (iMin (w32 (x2 + s 44 5)) 30)) (-1048576))) (-1048576) = 0 → fd (lsB s x1.toNat x2 x3) 30 = -1) := fun e l q => by
    rw [ew] at q
    refine ls_go (i3_and _ _) (fun t ht => ?_) (fun t h1 h2 => by rw [bq_and, bq_and, hi47 t h1 h2]; rfl)
    unfold lsB
    rw [bq_and, bq_and, bq_or, er e, bq_fr (by omega) t ht, bq_hi20 (by omega)]
    by_cases w : t < 20
    · simp [e, w, show s 44 4 < x3 + s 46 x1.toNat by omega]
    · simp [e, w, show x2 ≤ 20 by omega, show 20 ≤ t by omega]
  refine v65 h1 (fun _ => h1) (fun e q w => (g1 e q).1 w) (fun e q w => ?_) (fun e q w => ?_) (fun e q w => (g2 e q).1 w) (fun e q w => ?_) (fun e q w => ?_) (fun _ _ => h1) (fun e l q w => (g3 e l q).1 w) (fun e l q w => ?_) (fun e l q w => ?_) (fun e l q w => (g4 e l q).1 w) (fun e l q w => ?_) (fun e l q w => ?_) (fun _ _ => h1) (fun e l q w => (g5 e l q).1 w) (fun e l q w => ?_) (fun e l q w => ?_) (fun e l q w => (g6 e l q).1 w) (fun e l q w => ?_) (fun e l q w => ?_)
  · rw [(g1 e q).2.1]; exact k
  · rw [(g1 e q).2.2 w] at k; exact k
  · rw [(g2 e q).2.1]; exact k
  · rw [(g2 e q).2.2 w] at k; exact k
  · rw [(g3 e l q).2.1]; exact k
  · rw [(g3 e l q).2.2 w] at k; exact k
  · rw [(g4 e l q).2.1]; exact k
  · rw [(g4 e l q).2.2 w] at k; exact k
  · rw [(g5 e l q).2.1]; exact k
  · rw [(g5 e l q).2.2 w] at k; exact k
  · rw [(g6 e l q).2.1]; exact k
  · rw [(g6 e l q).2.2 w] at k; exact k
def wgN (s : mSt) : Int := cn (fun p => decide (20 ≤ s 48 p)) 5
def wgV (s : mSt) (en kp : Int) : Int := (wgN s * 100 + cn (bq kp) 30) * 100 + en
theorem v66 {X : (Nat → Int) × Nat} {d : Nat} {s : mSt} {Q : mQ} {x1 : Int} {x2 : Int} {x3 : Int}
  (I6 : Int → Int → mSt → Prop) (m6 : Int → Int → mSt → Nat)
  (z1 : ∀ y4 : Int, ∀ y5 : Int, ∀ s : mSt, I6 y4 y5 s → 5 ≤ y5 → 0 ≤ x3 ∧ x3 < 1073741824)
  (z2 : ∀ y4 : Int, ∀ y5 : Int, ∀ s : mSt, I6 y4 y5 s → 5 ≤ y5 → ((uS s 44 6 (w32 ((s 44 6) + 1))) 44 6) = 1 → Q none (cS (uS (uS (uS (uS (uS (uS s 44 6 (w32 ((s 44 6) + 1))) 44 12 (w32 ((w32 ((w32 ((w32 (y4 * 100)) + (cn (bq x3) 30))) * 100)) + x1))) 44 7 y4) 44 8 x3) 44 9 x2) 44 10 x1) 48 0 49 0 5))
  (z3 : ∀ y4 : Int, ∀ y5 : Int, ∀ s : mSt, I6 y4 y5 s → 5 ≤ y5 → ¬ ((uS s 44 6 (w32 ((s 44 6) + 1))) 44 6) = 1 → ((uS s 44 6 (w32 ((s 44 6) + 1))) 44 12) ≤ (w32 ((w32 ((w32 ((w32 (y4 * 100)) + (cn (bq x3) 30))) * 100)) + x1)) → Q none (uS s 44 6 (w32 ((s 44 6) + 1))))
  (z4 : ∀ y4 : Int, ∀ y5 : Int, ∀ s : mSt, I6 y4 y5 s → 5 ≤ y5 → ¬ ((uS s 44 6 (w32 ((s 44 6) + 1))) 44 6) = 1 → ¬ ((uS s 44 6 (w32 ((s 44 6) + 1))) 44 12) ≤ (w32 ((w32 ((w32 ((w32 (y4 * 100)) + (cn (bq x3) 30))) * 100)) + x1)) → Q none (cS (uS (uS (uS (uS (uS (uS s 44 6 (w32 ((s 44 6) + 1))) 44 12 (w32 ((w32 ((w32 ((w32 (y4 * 100)) + (cn (bq x3) 30))) * 100)) + x1))) 44 7 y4) 44 8 x3) 44 9 x2) 44 10 x1) 48 0 49 0 5))
  (z5 : ∀ y4 : Int, ∀ y5 : Int, ∀ s : mSt, I6 y4 y5 s → ¬ 5 ≤ y5 → 0 ≤ y5 ∧ y5 < 5)
  (z6 : ∀ y4 : Int, ∀ y5 : Int, ∀ s : mSt, I6 y4 y5 s → ¬ 5 ≤ y5 → (s 48 y5.toNat) < 20 → I6 y4 (w32 (y5 + 1)) s ∧ m6 y4 (w32 (y5 + 1)) s < m6 y4 y5 s)
  (z7 : ∀ y4 : Int, ∀ y5 : Int, ∀ s : mSt, I6 y4 y5 s → ¬ 5 ≤ y5 → ¬ (s 48 y5.toNat) < 20 → I6 (w32 (y4 + 1)) (w32 (y5 + 1)) s ∧ m6 (w32 (y4 + 1)) (w32 (y5 + 1)) s < m6 y4 y5 s)
  (z8 : I6 0 0 s) :
  Sp X (d + 1) 66 [mR 44, mI x1, mI x2, mI x3] s Q := by
  have L : ∀ k : Nat, (∀ (y4 : Int) (y5 : Int) (s : mSt), I6 y4 y5 s → m6 y4 y5 s < k → Wp X (d + 1) 66 6 [some (mR 44), some (mI x1), some (mI x2), some (mI x3), some (mI y4), some (mI y5)] [] s Q) := by
    intro k
    induction k with
    | zero => exact fun _ _ _ _ h => absurd h (Nat.not_lt_zero _)
    | succ k ih => exact fun y4 y5 s hI hm => b66_6 (fun q1 => b66_33 (c309 (z1 y4 y5 s hI q1) ⟨_, rfl, b66_52 (fun q2 => b66_77 (b66_118 (z2 y4 y5 s hI q1 q2))) (fun q3 => b66_68 (fun q4 => b66_118 (z3 y4 y5 s hI q1 q3 q4)) (fun q5 => b66_77 (b66_118 (z4 y4 y5 s hI q1 q3 q5))))⟩)) (fun q6 => b66_12 (z5 y4 y5 s hI q6) (fun q7 => b66_27 (ih y4 (w32 (y5 + 1)) s (z6 y4 y5 s hI q6 q7).1 (Nat.lt_of_lt_of_le (z6 y4 y5 s hI q6 q7).2 (Nat.le_of_lt_succ hm)))) (fun q8 => b66_24 (b66_27 (ih (w32 (y4 + 1)) (w32 (y5 + 1)) s (z7 y4 y5 s hI q6 q8).1 (Nat.lt_of_lt_of_le (z7 y4 y5 s hI q6 q8).2 (Nat.le_of_lt_succ hm))))))
  exact e66 (b66_0 ((L (m6 0 0 s + 1)) 0 0 s z8 (Nat.lt_succ_self _)))

theorem c66 {X : (Nat → Int) × Nat} {d : Nat} {s : mSt} {Q : mQ} {x1 : Int} {x2 : Int} {x3 : Int} (p1 : (0 ≤ s 44 6 ∧ s 44 6 ≤ 1000) ∧ (0 ≤ x3 ∧ x3 < 1073741824) ∧ (0 ≤ x1 ∧ x1 ≤ 30)) (k : ∀ t : mSt, (((s 44 6 = 0 ∨ wgV s x1 x3 < s 44 12) → t = cS (uS (uS (uS (uS (uS (uS s 44 6 (s 44 6 + 1)) 44 12 (wgV s x1 x3)) 44 7 (wgN s)) 44 8 x3) 44 9 x2) 44 10 x1) 48 0 49 0 5) ∧ (¬ (s 44 6 = 0 ∨ wgV s x1 x3 < s 44 12) → t = uS s 44 6 (s 44 6 + 1))) → Q none t) : Sp X (d + 1) 66 [mR 44, mI x1, mI x2, mI x3] s Q := by
  obtain ⟨h1, h2, h3⟩ := p1
  have e1 : w32 (s 44 6 + 1) = s 44 6 + 1 := w32_of (by omega)
  have bk := cn_le (f := bq x3) (n := 30)
  have bn := cn_le (f := fun p => decide (20 ≤ s 48 p)) (n := 5)
  have ev : w32 (w32 (w32 (w32 (wgN s * 100) + cn (bq x3) 30) * 100) + x1) = wgV s x1 x3 := by
    unfold wgV
    have : 0 ≤ wgN s ∧ wgN s ≤ 5 := bn
    rw [w32_of (x := wgN s * 100) (by omega), w32_of (x := wgN s * 100 + cn (bq x3) 30) (by omega), w32_of (x := (wgN s * 100 + cn (bq x3) 30) * 100) (by omega), w32_of (by omega)]
  refine v66 (fun y4 y5 t => ∃ j : Nat, y5 = j ∧ j ≤ 5 ∧ s = t ∧ y4 = cn (fun p => decide (20 ≤ s 48 p)) j) (fun _ y _ => (5 - y).toNat) ?_ ?_ ?_ ?_ ?_ ?_ ?_ ?_
  · rintro _ _ _ ⟨j, rfl, hj, rfl, rfl⟩ hc
    exact h2
  · rintro _ _ _ ⟨j, rfl, hj, rfl, rfl⟩ hc q
    have : j = 5 := by omega
    subst this
    rw [uS_at, if_pos rfl, e1] at q
    have ev' := ev
    unfold wgN at ev'
    rw [ev', e1]
    exact k _ ⟨fun _ => rfl, fun z => absurd (Or.inl (by omega)) z⟩
  · rintro _ _ _ ⟨j, rfl, hj, rfl, rfl⟩ hc q q2
    have : j = 5 := by omega
    subst this
    rw [uS_at, if_pos rfl, e1] at q
    have ev' := ev
    unfold wgN at ev'
    rw [uS_at, if_neg (by decide), ev'] at q2
    rw [e1]
    refine k _ ⟨fun z => ?_, fun _ => rfl⟩
    exfalso
    rcases z with z | z <;> omega
  · rintro _ _ _ ⟨j, rfl, hj, rfl, rfl⟩ hc q q2
    have : j = 5 := by omega
    subst this
    have ev' := ev
    unfold wgN at ev'
    rw [uS_at, if_neg (by decide), ev'] at q2
    rw [ev', e1]
    exact k _ ⟨fun _ => rfl, fun z => absurd (Or.inr (by omega)) z⟩
  · rintro _ _ _ ⟨j, rfl, hj, rfl, rfl⟩ hc
    omega
  · rintro _ _ _ ⟨j, rfl, hj, rfl, rfl⟩ hc q
    rw [tnc] at q
    rw [w32_of (by omega)]
    refine ⟨⟨j + 1, by omega, by omega, rfl, ?_⟩, by omega⟩
    rw [cn_s, if_neg (by simp; omega), Int.add_zero]
  · rintro _ _ _ ⟨j, rfl, hj, rfl, rfl⟩ hc q
    rw [tnc] at q
    have b := cn_le (f := fun p => decide (20 ≤ s 48 p)) (n := j)
    rw [w32_of (by omega), w32_of (by omega)]
    refine ⟨⟨j + 1, by omega, by omega, rfl, ?_⟩, by omega⟩
    rw [cn_s, if_pos (by simp; omega)]
  · exact ⟨0, rfl, by omega, rfl, rfl⟩
