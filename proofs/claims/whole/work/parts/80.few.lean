/-! force, seed, line -/
theorem v126 {X : (Nat → Int) × Nat} {d : Nat} {s : mSt} {Q : mQ} {x1 : Int}
  (z1 : x1 < (-1) → Q (some (mI (-2))) s)
  (z2 : ¬ x1 < (-1) → x1 < (s 0 4) → Q (some (mI (s 7 3))) (uS s 7 3 x1))
  (z3 : ¬ x1 < (-1) → ¬ x1 < (s 0 4) → Q (some (mI (-2))) s) :
  Sp X d 126 [mR 0, mI x1] s Q := e126 (b126_0 (fun q1 => b126_13 (z1 q1)) (fun q2 => b126_5 (fun q3 => b126_16 (z2 q2 q3)) (fun q4 => b126_13 (z3 q2 q4))))

theorem c126 {X : (Nat → Int) × Nat} {d : Nat} {s : mSt} {Q : mQ} {x1 : Int} (k : ∀ (v : Int) (t : mSt), (YN (-1 ≤ x1 ∧ x1 < s 0 4) (v = s 7 3 ∧ t = uS s 7 3 x1) (v = -2 ∧ t = s)) → Q (some (mI v)) t) : Sp X d 126 [mR 0, mI x1] s Q := by
  refine v126 (fun g => ?_) (fun g1 g2 => ?_) (fun g1 g2 => ?_)
  · exact k _ s (YN_n (by omega) ⟨rfl, rfl⟩)
  · exact k _ _ (YN_y (by omega) ⟨rfl, rfl⟩)
  · exact k _ s (YN_n (by omega) ⟨rfl, rfl⟩)
theorem v207 {X : (Nat → Int) × Nat} {d : Nat} {s : mSt} {Q : mQ} {x1 : Int}
  (z1 : x1 < 0 → Q (some (mI 0)) s)
  (z2 : ¬ x1 < 0 → (s 407 2) ≤ x1 → Q (some (mI 0)) s)
  (z3 : ¬ x1 < 0 → ¬ (s 407 2) ≤ x1 → Q (some (mI 1)) s) :
  Sp X d 207 [mR 407, mI x1] s Q := e207 (b207_0 (fun q1 => b207_16 (b207_17 (z1 q1) (Or.inl rfl))) (fun q2 => b207_4 (fun q3 => b207_16 (b207_17 (z2 q2 q3) (Or.inl rfl))) (fun q4 => b207_12 (b207_17 (z3 q2 q4) (Or.inr rfl)))))

theorem c207 {X : (Nat → Int) × Nat} {d : Nat} {s : mSt} {Q : mQ} {x1 : Int} (k1 : (0 ≤ x1 ∧ x1 < s 407 2) → Q (some (mI 1)) s) (k0 : ¬ (0 ≤ x1 ∧ x1 < s 407 2) → Q (some (mI 0)) s) : Sp X d 207 [mR 407, mI x1] s Q := by
  refine v207 (fun h => k0 (by omega)) (fun h1 h2 => k0 (by omega)) (fun h1 h2 => k1 (by omega))
theorem v228 {X : (Nat → Int) × Nat} {d : Nat} {s : mSt} {Q : mQ} {x1 : Int}
  (z1 : x1 = (-1) → Q (some (mI (s 407 21))) (uS s 407 21 x1))
  (z2 : ¬ x1 = (-1) → (0 ≤ x1 ∧ x1 < s 407 2) → Q (some (mI (s 407 21))) (uS s 407 21 x1))
  (z3 : ¬ x1 = (-1) → (¬ (0 ≤ x1 ∧ x1 < s 407 2)) → Q (some (mI (-2))) s) :
  Sp X (d + 1) 228 [mR 407, mI x1] s Q := e228 (b228_0 (fun q1 => b228_16 (z1 q1)) (fun q2 => b228_5 (c207  (fun q3 => ⟨1, rfl, b228_10 (fun _ => b228_16 (z2 q2 q3)) (fun q => absurd q (by decide))⟩) (fun q4 => ⟨0, rfl, b228_10 (fun q => absurd q (by decide)) (fun _ => b228_13 (z3 q2 q4))⟩))))

theorem c228 {X : (Nat → Int) × Nat} {d : Nat} {s : mSt} {Q : mQ} {x1 : Int} (p1 : 0 ≤ s 407 2) (k : ∀ (v : Int) (t : mSt), (YN (-1 ≤ x1 ∧ x1 < s 407 2) (v = s 407 21 ∧ t = uS s 407 21 x1) (v = -2 ∧ t = s)) → Q (some (mI v)) t) : Sp X (d + 1) 228 [mR 407, mI x1] s Q := by
  refine v228 ?_ ?_ ?_
  all_goals intros
  all_goals first
    | exact k _ _ (YN_y (by omega) ⟨rfl, rfl⟩)
    | exact k _ s (YN_n (by omega) ⟨rfl, rfl⟩)
theorem v158 {X : (Nat → Int) × Nat} {d : Nat} {s : mSt} {Q : mQ} {x1 : Int}
  (z1 : 0 ≤ x1 → Q (some (mI (s 7 4))) (uS s 7 4 x1))
  (z2 : ¬ 0 ≤ x1 → Q (some (mI (-1))) s) :
  Sp X d 158 [mR 0, mI x1] s Q := e158 (b158_0 (fun q1 => b158_6 (z1 q1)) (fun q2 => b158_4 (z2 q2)))

theorem c158 {X : (Nat → Int) × Nat} {d : Nat} {s : mSt} {Q : mQ} {x1 : Int} (k : ∀ (v : Int) (t : mSt), (YN (0 ≤ x1) (v = s 7 4 ∧ t = uS s 7 4 x1) (v = -1 ∧ t = s)) → Q (some (mI v)) t) : Sp X d 158 [mR 0, mI x1] s Q := by
  exact v158 (fun g => k _ _ (YN_y g ⟨rfl, rfl⟩)) (fun g => k _ s (YN_n g ⟨rfl, rfl⟩))
theorem v303 {X : (Nat → Int) × Nat} {d : Nat} {s : mSt} {Q : mQ} {x1 : Int}
  (z1 : 0 ≤ x1 → Q (some (mI (s 407 22))) (uS s 407 22 x1))
  (z2 : ¬ 0 ≤ x1 → Q (some (mI (-1))) s) :
  Sp X d 303 [mR 407, mI x1] s Q := e303 (b303_0 (fun q1 => b303_6 (z1 q1)) (fun q2 => b303_4 (z2 q2)))

theorem c303 {X : (Nat → Int) × Nat} {d : Nat} {s : mSt} {Q : mQ} {x1 : Int} (k : ∀ (v : Int) (t : mSt), (YN (0 ≤ x1) (v = s 407 22 ∧ t = uS s 407 22 x1) (v = -1 ∧ t = s)) → Q (some (mI v)) t) : Sp X d 303 [mR 407, mI x1] s Q := by
  exact v303 (fun g => k _ _ (YN_y g ⟨rfl, rfl⟩)) (fun g => k _ s (YN_n g ⟨rfl, rfl⟩))
theorem v42 {X : (Nat → Int) × Nat} {d : Nat} {s : mSt} {Q : mQ} {a0 : Nat} {x1 : Int} {x2 : Int} (h0 : isBd a0)
  (I14 : Int → Prop) (m14 : Int → Nat)
  (z1 : ∀ y3 : Int, I14 y3 → (s a0 2) ≤ y3 → Q (some (mI 46)) s)
  (z2 : ∀ y3 : Int, I14 y3 → ¬ (s a0 2) ≤ y3 → BI s a0 ∧ (0 ≤ x1 ∧ x1 < s a0 3) ∧ (0 ≤ y3 ∧ y3 < 5))
  (z3 : ∀ y3 : Int, I14 y3 → ¬ (s a0 2) ≤ y3 → ss (brow s a0) x1.toNat y3.toNat = true → BI s a0 ∧ (0 ≤ x1 ∧ x1 < s a0 3) ∧ (0 ≤ y3 ∧ y3 < s a0 2) ∧ pl (brow s a0) x1.toNat = true)
  (z4 : ∀ y3 : Int, I14 y3 → ¬ (s a0 2) ≤ y3 → ss (brow s a0) x1.toNat y3.toNat = true → (w32 (x2 - (bg (brow s a0) x1.toNat y3.toNat))) < 0 → I14 (w32 (y3 + 1)) ∧ m14 (w32 (y3 + 1)) < m14 y3)
  (z5 : ∀ y3 : Int, I14 y3 → ¬ (s a0 2) ≤ y3 → ss (brow s a0) x1.toNat y3.toNat = true → ¬ (w32 (x2 - (bg (brow s a0) x1.toNat y3.toNat))) < 0 → BI s a0 ∧ (0 ≤ x1 ∧ x1 < s a0 3) ∧ (0 ≤ y3 ∧ y3 < s a0 2))
  (z6 : ∀ y3 : Int, I14 y3 → ¬ (s a0 2) ≤ y3 → ss (brow s a0) x1.toNat y3.toNat = true → ¬ (w32 (x2 - (bg (brow s a0) x1.toNat y3.toNat))) < 0 → (tm (brow s a0) x1.toNat y3.toNat) ≤ (w32 (x2 - (bg (brow s a0) x1.toNat y3.toNat))) → I14 (w32 (y3 + 1)) ∧ m14 (w32 (y3 + 1)) < m14 y3)
  (z7 : ∀ y3 : Int, I14 y3 → ¬ (s a0 2) ≤ y3 → ss (brow s a0) x1.toNat y3.toNat = true → ¬ (w32 (x2 - (bg (brow s a0) x1.toNat y3.toNat))) < 0 → ¬ (tm (brow s a0) x1.toNat y3.toNat) ≤ (w32 (x2 - (bg (brow s a0) x1.toNat y3.toNat))) → Q (some (mI ((w32 (65 + y3)) % 65536))) s)
  (z8 : ∀ y3 : Int, I14 y3 → ¬ (s a0 2) ≤ y3 → ss (brow s a0) x1.toNat y3.toNat = true → ¬ (w32 (x2 - (bg (brow s a0) x1.toNat y3.toNat))) < 0 → ¬ (tm (brow s a0) x1.toNat y3.toNat) ≤ (w32 (x2 - (bg (brow s a0) x1.toNat y3.toNat))) → 0 ≤ ((w32 (65 + y3)) % 65536) ∧ ((w32 (65 + y3)) % 65536) < 65536)
  (z9 : ∀ y3 : Int, I14 y3 → ¬ (s a0 2) ≤ y3 → ¬ (ss (brow s a0) x1.toNat y3.toNat = true) → I14 (w32 (y3 + 1)) ∧ m14 (w32 (y3 + 1)) < m14 y3)
  (z10 : BI s a0 ∧ (0 ≤ x1 ∧ x1 < s a0 3) ∧ (0 ≤ x2 ∧ x2 < 30))
  (z11 : (pl (brow s a0) x1.toNat = true ∧ kpt (brow s a0) x1.toNat x2.toNat = true) → Q (some (mI 107)) s)
  (z12 : (¬ (pl (brow s a0) x1.toNat = true ∧ kpt (brow s a0) x1.toNat x2.toNat = true)) → I14 0) :
  Sp X (d + 1) 42 [mR a0, mI x1, mI x2] s Q := by
  have L : ∀ k : Nat, (∀ (y3 : Int) (l4 : Option mV), I14 y3 → m14 y3 < k → Wp X (d + 1) 42 14 [some (mR a0), some (mI x1), some (mI x2), some (mI y3), l4] [] s Q) := by
    intro k
    induction k with
    | zero => exact fun _ _ _ h => absurd h (Nat.not_lt_zero _)
    | succ k ih => exact fun y3 l4 hI hm => b42_14 h0 (fun q1 => b42_69 h0 (z1 y3 hI q1)) (fun q2 => b42_22 h0 (c12 h0 (z2 y3 hI q2) (fun q3 => ⟨1, rfl, b42_28 h0 (fun q => absurd q (by decide)) (fun _ => b42_31 h0 (c16 h0 (z3 y3 hI q2 q3) ⟨_, rfl, b42_38 h0 (fun q4 => b42_63 h0 (ih (w32 (y3 + 1)) (some (mI (w32 (x2 - (bg (brow s a0) x1.toNat y3.toNat))))) (z4 y3 hI q2 q3 q4).1 (Nat.lt_of_lt_of_le (z4 y3 hI q2 q3 q4).2 (Nat.le_of_lt_succ hm)))) (fun q5 => b42_46 h0 (c14 h0 (z5 y3 hI q2 q3 q5) ⟨_, rfl, b42_54 h0 (fun q6 => b42_63 h0 (ih (w32 (y3 + 1)) (some (mI (w32 (x2 - (bg (brow s a0) x1.toNat y3.toNat))))) (z6 y3 hI q2 q3 q5 q6).1 (Nat.lt_of_lt_of_le (z6 y3 hI q2 q3 q5 q6).2 (Nat.le_of_lt_succ hm)))) (fun q7 => b42_57 h0 (z7 y3 hI q2 q3 q5 q7) (z8 y3 hI q2 q3 q5 q7))⟩))⟩))⟩) (fun q8 => ⟨0, rfl, b42_28 h0 (fun _ => b42_63 h0 (ih (w32 (y3 + 1)) l4 (z9 y3 hI q2 q8).1 (Nat.lt_of_lt_of_le (z9 y3 hI q2 q8).2 (Nat.le_of_lt_succ hm)))) (fun q => absurd q (by decide))⟩)))
  exact e42 (b42_0 h0 (c20 h0 z10 (fun q9 => ⟨1, rfl, b42_6 h0 (fun q => absurd q (by decide)) (fun _ => b42_9 h0 (z11 q9))⟩) (fun q10 => ⟨0, rfl, b42_6 h0 (fun _ => b42_12 h0 ((L (m14 0 + 1)) 0 none (z12 q10) (Nat.lt_succ_self _))) (fun q => absurd q (by decide))⟩)))

theorem c42 {X : (Nat → Int) × Nat} {d : Nat} {s : mSt} {Q : mQ} {a0 : Nat} {x1 : Int} {x2 : Int} (h0 : isBd a0) (p1 : BI s a0 ∧ (0 ≤ x1 ∧ x1 < s a0 3) ∧ pl (brow s a0) x1.toNat = true ∧ (0 ≤ x2 ∧ x2 < 30)) (k : Q (some (mI (sgL (brow s a0) x1.toNat x2.toNat))) s) : Sp X (d + 1) 42 [mR a0, mI x1, mI x2] s Q := by
  obtain ⟨h, h1, hp, h2⟩ := p1
  have h3 := bi_np h
  have h4 := bi_nc h
  have n5 := np_le h.1
  have n6 := nc_le h.1
  obtain ⟨c, rfl⟩ := nat_of h1.1
  obtain ⟨t, rfl⟩ := nat_of h2.1
  rw [tnc] at hp
  rw [tnc, tnc] at k
  unfold sgL at k
  have sf : kpt (brow s a0) c t = true → fd (sIn (brow s a0) c t) (np (brow s a0)) < 0 := fun z => by
    have e : sat (brow s a0) c t = false := by
      cases hb : sat (brow s a0) c t
      · rfl
      · unfold kpt at z; rw [hb] at z; simp at z
    exact fd_neg.2 (an_false.1 e)
  have nx : ∀ j : Nat, j < np (brow s a0) → ¬ kpt (brow s a0) c t = true → (∀ i, i < j → sIn (brow s a0) c t i = false) → ¬ sIn (brow s a0) c t j = true → (∃ j' : Nat, w32 ((j : Int) + 1) = j' ∧ j' ≤ np (brow s a0) ∧ ¬ kpt (brow s a0) c t = true ∧ ∀ i, i < j' → sIn (brow s a0) c t i = false) ∧ (6 - w32 ((j : Int) + 1)).toNat < (6 - (j : Int)).toNat := fun j hj hk ha hs => by
    rw [w32_of (by omega)]
    refine ⟨⟨j + 1, by omega, by omega, hk, fun i hi => ?_⟩, by omega⟩
    by_cases z : i = j
    · subst z; exact Bool.eq_false_iff.2 hs
    · exact ha i (by omega)
  have bb : ∀ j : Nat, j < np (brow s a0) → -1 ≤ bg (brow s a0) c j ∧ bg (brow s a0) c j ≤ 29 := fun j hj => okB h.1 (by omega) (by omega)
  have sI : ∀ j : Nat, sIn (brow s a0) c t j = true ↔ ss (brow s a0) c j = true ∧ bg (brow s a0) c j ≤ t ∧ (t : Int) < bg (brow s a0) c j + tm (brow s a0) c j := fun j => by unfold sIn; simp
  refine v42 h0 (fun y => ∃ j : Nat, y = j ∧ j ≤ np (brow s a0) ∧ ¬ kpt (brow s a0) c t = true ∧ ∀ i, i < j → sIn (brow s a0) c t i = false) (fun y => (6 - y).toNat) ?_ ?_ ?_ ?_ ?_ ?_ ?_ ?_ ?_ ?_ ?_ ?_
  · rintro _ ⟨j, rfl, hj, hk, ha⟩ hc
    rw [show j = np (brow s a0) by omega] at ha
    rw [if_pos (fd_neg.2 ha), if_neg hk] at k
    exact k
  · rintro _ ⟨j, rfl, hj, hk, ha⟩ hc
    exact ⟨h, h1, by omega⟩
  · rintro _ ⟨j, rfl, hj, hk, ha⟩ hc q
    rw [tnc]
    exact ⟨h, h1, by omega, hp⟩
  · rintro _ ⟨j, rfl, hj, hk, ha⟩ hc q q2
    rw [tnc, tnc] at q q2
    have b := bb j (by omega)
    rw [w32_of (by omega)] at q2
    exact nx j (by omega) hk ha (fun z => by have := (sI j).1 z; omega)
  · rintro _ ⟨j, rfl, hj, hk, ha⟩ hc q q2
    exact ⟨h, h1, by omega⟩
  · rintro _ ⟨j, rfl, hj, hk, ha⟩ hc q q2 q3
    rw [tnc, tnc] at q q2 q3
    have b := bb j (by omega)
    rw [w32_of (by omega)] at q2 q3
    exact nx j (by omega) hk ha (fun z => by have := (sI j).1 z; omega)
  · rintro _ ⟨j, rfl, hj, hk, ha⟩ hc q q2 q3
    rw [tnc, tnc] at q q2 q3
    have b := bb j (by omega)
    rw [w32_of (by omega)] at q2 q3
    have e := fd_eq (f := sIn (brow s a0) c t) (n := np (brow s a0)) (k := j) (by omega) ((sI j).2 ⟨q, by omega, by omega⟩) ha
    rw [e, if_neg (by omega)] at k
    rw [w32_of (by omega), Int.emod_eq_of_lt (by omega) (by omega)]
    exact k
  · rintro _ ⟨j, rfl, hj, hk, ha⟩ hc q q2 q3
    rw [w32_of (by omega), Int.emod_eq_of_lt (by omega) (by omega)]; omega
  · rintro _ ⟨j, rfl, hj, hk, ha⟩ hc q
    rw [tnc, tnc] at q
    exact nx j (by omega) hk ha (fun z => q ((sI j).1 z).1)
  · exact ⟨h, h1, h2⟩
  · intro q
    rw [tnc, tnc] at q
    rw [if_pos (sf q.2), if_pos q.2] at k
    exact k
  · intro q
    rw [tnc, tnc] at q
    exact ⟨0, rfl, by omega, fun z => q ⟨hp, z⟩, fun i hi => by omega⟩
def liA (a : Rw) (x y : Int) (r : Int) : Prop := YN (drC a x ∧ (0 ≤ y ∧ y < 30)) (r = sgL a x.toNat y.toNat) (r = -1)
theorem v141 {X : (Nat → Int) × Nat} {d : Nat} {s : mSt} {Q : mQ} {x1 : Int} {x2 : Int}
  (z1 : BI s 18)
  (z2 : ((0 ≤ x1 ∧ x1 < s 18 3) ∧ pl (brow s 18) x1.toNat = true) → (0 ≤ x2 ∧ x2 < 30) → BI s 18 ∧ (0 ≤ x1 ∧ x1 < s 18 3) ∧ pl (brow s 18) x1.toNat = true ∧ (0 ≤ x2 ∧ x2 < 30))
  (z3 : ((0 ≤ x1 ∧ x1 < s 18 3) ∧ pl (brow s 18) x1.toNat = true) → (0 ≤ x2 ∧ x2 < 30) → Q (some (mI (sgL (brow s 18) x1.toNat x2.toNat))) s)
  (z4 : ((0 ≤ x1 ∧ x1 < s 18 3) ∧ pl (brow s 18) x1.toNat = true) → (¬ (0 ≤ x2 ∧ x2 < 30)) → Q (some (mI (-1))) s)
  (z5 : (¬ ((0 ≤ x1 ∧ x1 < s 18 3) ∧ pl (brow s 18) x1.toNat = true)) → Q (some (mI (-1))) s) :
  Sp X (d + 2) 141 [mR 0, mI x1, mI x2] s Q := e141 (b141_0 (c9 (bdm rfl) z1 (fun q1 => ⟨1, rfl, b141_11 (fun q => absurd q (by decide)) (fun _ => b141_14 (c163  (fun q2 => ⟨1, rfl, b141_18 (fun _ => b141_23 (c42 (bdm rfl) (z2 q1 q2) ⟨_, rfl, b141_35 (z3 q1 q2)⟩)) (fun q => absurd q (by decide))⟩) (fun q3 => ⟨0, rfl, b141_18 (fun q => absurd q (by decide)) (fun _ => b141_21 (z4 q1 q3))⟩)))⟩) (fun q4 => ⟨0, rfl, b141_11 (fun _ => b141_21 (z5 q4)) (fun q => absurd q (by decide))⟩)))

theorem c141 {X : (Nat → Int) × Nat} {d : Nat} {s : mSt} {Q : mQ} {x1 : Int} {x2 : Int} (p1 : BI s 18) (k : ∀ (v : Int) (t : mSt), (liA (brow s 18) x1 x2 v ∧ t = s) → Q (some (mI v)) t) : Sp X (d + 2) 141 [mR 0, mI x1, mI x2] s Q := by
  have h4 := bi4 p1
  have dr : ∀ x : Int, ((0 ≤ x ∧ x < s 18 3) ∧ pl (brow s 18) x.toNat = true) ↔ drC (brow s 18) x := fun x => by unfold drC; rw [h4]
  refine v141 ?_ ?_ ?_ ?_ ?_
  · exact p1
  all_goals intros
  all_goals first
    | exact ⟨p1, by omega, (by assumption : _ ∧ _).2, by omega⟩
    | exact k _ s ⟨YN_y ⟨(dr _).1 (by assumption), by assumption⟩ rfl, rfl⟩
    | exact k _ s ⟨YN_n (fun z => by have := (dr _).2 z.1; have := z.2; contradiction) rfl, rfl⟩
theorem v266 {X : (Nat → Int) × Nat} {d : Nat} {s : mSt} {Q : mQ} {x1 : Int} {x2 : Int}
  (z1 : Ok (s 417))
  (z2 : ((0 ≤ x1 ∧ x1 < s 417 4) ∧ s 417 (41 + x1.toNat) = 0) → (0 ≤ x2 ∧ x2 ≤ 29) → Ok (s 417) ∧ (0 ≤ x1 ∧ x1 < 6) ∧ (0 ≤ x2 ∧ x2 < 30))
  (z3 : ((0 ≤ x1 ∧ x1 < s 417 4) ∧ s 417 (41 + x1.toNat) = 0) → (0 ≤ x2 ∧ x2 ≤ 29) → Q (some (mI (sgL (s 417) x1.toNat x2.toNat))) s)
  (z4 : ((0 ≤ x1 ∧ x1 < s 417 4) ∧ s 417 (41 + x1.toNat) = 0) → (¬ (0 ≤ x2 ∧ x2 ≤ 29)) → Q (some (mI (-1))) s)
  (z5 : (¬ ((0 ≤ x1 ∧ x1 < s 417 4) ∧ s 417 (41 + x1.toNat) = 0)) → Q (some (mI (-1))) s) :
  Sp X (d + 5) 266 [mR 407, mI x1, mI x2] s Q := e266 (b266_0 (c216 z1 (fun q1 => ⟨1, rfl, b266_5 (fun q => absurd q (by decide)) (fun _ => b266_8 (c167  (fun q2 => ⟨1, rfl, b266_17 (fun q => absurd q (by decide)) (fun _ => b266_20 (c265 (z2 q1 q2) ⟨_, rfl, b266_26 (b266_30 (z3 q1 q2))⟩))⟩) (fun q3 => ⟨0, rfl, b266_17 (fun _ => b266_29 (b266_30 (z4 q1 q3))) (fun q => absurd q (by decide))⟩)))⟩) (fun q4 => ⟨0, rfl, b266_5 (fun _ => b266_29 (b266_30 (z5 q4))) (fun q => absurd q (by decide))⟩)))

theorem c266 {X : (Nat → Int) × Nat} {d : Nat} {s : mSt} {Q : mQ} {x1 : Int} {x2 : Int} (p1 : Ok (s 417)) (k : ∀ (v : Int) (t : mSt), (liA (s 417) x1 x2 v ∧ t = s) → Q (some (mI v)) t) : Sp X (d + 5) 266 [mR 407, mI x1, mI x2] s Q := by
  have h4 := ok4 p1
  refine v266 p1 (fun g1 g2 => ⟨p1, by omega, by omega⟩) (fun g1 g2 => ?_) (fun g1 g2 => ?_) (fun g1 => ?_)
  · exact k _ s ⟨YN_y ⟨⟨g1.1, pl_0.2 g1.2⟩, by omega⟩ rfl, rfl⟩
  · exact k _ s ⟨YN_n (fun z => by have := z.2; omega) rfl, rfl⟩
  · exact k _ s ⟨YN_n (fun z => g1 ⟨z.1.1, pl_0.1 z.1.2⟩) rfl, rfl⟩
