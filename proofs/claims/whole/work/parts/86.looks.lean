/-! looking ahead by the notes -/
theorem v56 {X : (Nat → Int) × Nat} {d : Nat} {s : mSt} {Q : mQ} {a0 : Nat} (h0 : isNt a0)
  (I4 : Int → Int → Prop) (m4 : Int → Int → Nat)
  (z1 : ∀ y1 : Int, ∀ y2 : Int, I4 y1 y2 → (s a0 0) ≤ y2 → Q (some (mI y1)) s)
  (z2 : ∀ y1 : Int, ∀ y2 : Int, I4 y1 y2 → ¬ (s a0 0) ≤ y2 → 0 ≤ y2 ∧ y2 < 10)
  (z3 : ∀ y1 : Int, ∀ y2 : Int, I4 y1 y2 → ¬ (s a0 0) ≤ y2 → I4 (iMax y1 (s (a0 + 1) y2.toNat)) (w32 (y2 + 1)) ∧ m4 (iMax y1 (s (a0 + 1) y2.toNat)) (w32 (y2 + 1)) < m4 y1 y2)
  (z4 : I4 (-1) 0) :
  Sp X (d + 1) 56 [mR a0] s Q := by
  have L : ∀ k : Nat, (∀ (y1 : Int) (y2 : Int), I4 y1 y2 → m4 y1 y2 < k → Wp X (d + 1) 56 4 [some (mR a0), some (mI y1), some (mI y2)] [] s Q) := by
    intro k
    induction k with
    | zero => exact fun _ _ _ h => absurd h (Nat.not_lt_zero _)
    | succ k ih => exact fun y1 y2 hI hm => b56_4 h0 (fun q1 => b56_29 h0 (z1 y1 y2 hI q1)) (fun q2 => b56_12 h0 (z2 y1 y2 hI q2) (ih (iMax y1 (s (a0 + 1) y2.toNat)) (w32 (y2 + 1)) (z3 y1 y2 hI q2).1 (Nat.lt_of_lt_of_le (z3 y1 y2 hI q2).2 (Nat.le_of_lt_succ hm))))
  exact e56 (b56_0 h0 ((L (m4 (-1) 0 + 1)) (-1) 0 z4 (Nat.lt_succ_self _)))

theorem c56 {X : (Nat → Int) × Nat} {d : Nat} {s : mSt} {Q : mQ} {a0 : Nat} (h0 : isNt a0) (p1 : NSq s a0 ∧ ∀ i, i < (s a0 0).toNat → 0 ≤ s (a0 + 1) i ∧ s (a0 + 1) i ≤ 9) (k : ∀ (v : Int) (t : mSt), (((∀ i, i < (s a0 0).toNat → s (a0 + 1) i ≤ v) ∧ (-1 ≤ v ∧ v ≤ 9)) ∧ t = s) → Q (some (mI v)) t) : Sp X (d + 1) 56 [mR a0] s Q := by
  obtain ⟨⟨hn, _⟩, ht⟩ := p1
  refine v56 h0 (fun y1 y2 => ∃ j : Nat, y2 = j ∧ j ≤ (s a0 0).toNat ∧ (∀ i, i < j → s (a0 + 1) i ≤ y1) ∧ (-1 ≤ y1 ∧ y1 ≤ 9)) (fun _ y => (11 - y).toNat) ?_ ?_ ?_ ?_
  · rintro y1 _ ⟨j, rfl, hj, ha, hb⟩ hc
    have : j = (s a0 0).toNat := by omega
    subst this
    exact k _ s ⟨⟨ha, hb⟩, rfl⟩
  · rintro y1 _ ⟨j, rfl, hj, ha, hb⟩ hc
    omega
  · rintro y1 _ ⟨j, rfl, hj, ha, hb⟩ hc
    have q := ht j (by omega)
    have em : iMax y1 (s (a0 + 1) j) = if y1 ≤ s (a0 + 1) j then s (a0 + 1) j else y1 := by unfold iMax; split <;> split <;> omega
    rw [tnc, w32_of (by omega), em]
    refine ⟨⟨j + 1, by omega, by omega, fun i hi => ?_, ?_⟩, by omega⟩
    · by_cases z : i = j
      · subst z; split <;> omega
      · have := ha i (by omega); split <;> omega
    · split <;> omega
  · exact ⟨0, rfl, by omega, fun i hi => by omega, by omega⟩
theorem nt_54 {a : Nat} (h : isNt a) : a + 3 < 44 ∨ 63 < a := (show ∀ a ∈ ntL, a + 3 < 44 ∨ 63 < a by decide +kernel) a h
/-- the turns to come agree with all notes -/
def agA (T S F : Nat → Int) (n : Nat) (R : Rw → Nat → Int) (a : Rw) : Prop := ∀ t : Nat, t < 10 → an (ntB T S F (stN R (t + 1) a) (t : Int)) n = false
theorem v106 {X : (Nat → Int) × Nat} {d : Nat} {s : mSt} {Q : mQ} {a1 : Nat} {o2 : Option Nat} (h1 : isNt a1)
  (I8 : Int → Int → mSt → Prop) (m8 : Int → Int → mSt → Nat)
  (z1 : ∀ y3 : Int, ∀ y4 : Int, ∀ s : mSt, I8 y3 y4 s → y3 < y4 → Q (some (mI 1)) s)
  (z2 : ∀ y3 : Int, ∀ y4 : Int, ∀ s : mSt, I8 y3 y4 s → ¬ y3 < y4 → BI s 54 ∧ ¬ s 54 0 = 0 ∧ brow s 54 5 < 1000000 ∧ oRq s o2)
  (z3 : ∀ y3 : Int, ∀ y4 : Int, ∀ s : mSt, I8 y3 y4 s → ¬ y3 < y4 → ∀ v3 : Int, ∀ s3 : mSt, (v3 = (if chA (ruC s o2 (brow s 54)) (brow s 54) < 0 then -2 else chA (ruC s o2 (brow s 54)) (brow s 54)) ∧ BI s3 54 ∧ brow s3 54 = stR (ruC s o2 (brow s 54)) (brow s 54) ∧ fTB s s3 54) → NSq s3 a1 ∧ BI s3 54 ∧ ¬ s3 54 0 = 0)
  (z4 : ∀ y3 : Int, ∀ y4 : Int, ∀ s : mSt, I8 y3 y4 s → ¬ y3 < y4 → ∀ v3 : Int, ∀ s3 : mSt, (v3 = (if chA (ruC s o2 (brow s 54)) (brow s 54) < 0 then -2 else chA (ruC s o2 (brow s 54)) (brow s 54)) ∧ BI s3 54 ∧ brow s3 54 = stR (ruC s o2 (brow s 54)) (brow s 54) ∧ fTB s s3 54) → an (ntB (s3 (a1 + 1)) (s3 (a1 + 2)) (s3 (a1 + 3)) (brow s3 54) y4) (s3 a1 0).toNat = false → I8 y3 (w32 (y4 + 1)) s3 ∧ m8 y3 (w32 (y4 + 1)) s3 < m8 y3 y4 s)
  (z5 : ∀ y3 : Int, ∀ y4 : Int, ∀ s : mSt, I8 y3 y4 s → ¬ y3 < y4 → ∀ v3 : Int, ∀ s3 : mSt, (v3 = (if chA (ruC s o2 (brow s 54)) (brow s 54) < 0 then -2 else chA (ruC s o2 (brow s 54)) (brow s 54)) ∧ BI s3 54 ∧ brow s3 54 = stR (ruC s o2 (brow s 54)) (brow s 54) ∧ fTB s s3 54) → ¬ (an (ntB (s3 (a1 + 1)) (s3 (a1 + 2)) (s3 (a1 + 3)) (brow s3 54) y4) (s3 a1 0).toNat = false) → Q (some (mI 0)) s3)
  (z6 : NSq s a1 ∧ ∀ i, i < (s a1 0).toNat → 0 ≤ s (a1 + 1) i ∧ s (a1 + 1) i ≤ 9)
  (z7 : ∀ v6 : Int, ∀ s6 : mSt, (((∀ i, i < (s a1 0).toNat → s (a1 + 1) i ≤ v6) ∧ (-1 ≤ v6 ∧ v6 ≤ 9)) ∧ s6 = s) → I8 v6 0 s6) :
  Sp X (d + 11) 106 [mR 53, mR a1, Sum.inr (Sum.inr (Sum.inl o2))] s Q := by
  have L : ∀ k : Nat, (∀ (y3 : Int) (y4 : Int) (s : mSt), I8 y3 y4 s → m8 y3 y4 s < k → Wp X (d + 11) 106 8 [some (mR 53), some (mR a1), some (Sum.inr (Sum.inr (Sum.inl o2))), some (mI y3), some (mI y4)] [] s Q) := by
    intro k
    induction k with
    | zero => exact fun _ _ _ _ h => absurd h (Nat.not_lt_zero _)
    | succ k ih => exact fun y3 y4 s hI hm => b106_8 h1 (fun q1 => b106_48 h1 (z1 y3 y4 s hI q1)) (fun q2 => b106_14 h1 (c117 (bdm rfl) (z2 y3 y4 s hI q2) (fun v3 s3 q3 => ⟨v3, rfl, b106_26 h1 (c57 h1 (bdm rfl) (z3 y3 y4 s hI q2 v3 s3 q3) (fun q4 => ⟨1, rfl, b106_37 h1 (fun _ => b106_42 h1 (ih y3 (w32 (y4 + 1)) s3 (z4 y3 y4 s hI q2 v3 s3 q3 q4).1 (Nat.lt_of_lt_of_le (z4 y3 y4 s hI q2 v3 s3 q3 q4).2 (Nat.le_of_lt_succ hm)))) (fun q => absurd q (by decide))⟩) (fun q5 => ⟨0, rfl, b106_37 h1 (fun q => absurd q (by decide)) (fun _ => b106_40 h1 (z5 y3 y4 s hI q2 v3 s3 q3 q5))⟩))⟩)))
  exact e106 (b106_0 h1 (c56 h1 z6 (fun v6 s6 q6 => ⟨v6, rfl, b106_4 h1 ((L (m8 v6 0 s6 + 1)) v6 0 s6 (z7 v6 s6 q6) (Nat.lt_succ_self _))⟩)))

theorem c106 {X : (Nat → Int) × Nat} {d : Nat} {s : mSt} {Q : mQ} {a1 : Nat} {o2 : Option Nat} (h1 : isNt a1) (p1 : (NSq s a1 ∧ ∀ i, i < (s a1 0).toNat → 0 ≤ s (a1 + 1) i ∧ s (a1 + 1) i ≤ 9) ∧ BI s 54 ∧ ¬ s 54 0 = 0 ∧ oRq s o2 ∧ brow s 54 5 ≤ 999) (k1 : ∀ t : mSt, (agA (s (a1 + 1)) (s (a1 + 2)) (s (a1 + 3)) (s a1 0).toNat (ruC s o2) (brow s 54) ∧ fW s t) → Q (some (mI 1)) t) (k0 : ∀ t : mSt, (¬ agA (s (a1 + 1)) (s (a1 + 2)) (s (a1 + 3)) (s a1 0).toNat (ruC s o2) (brow s 54) ∧ fW s t) → Q (some (mI 0)) t) : Sp X (d + 11) 106 [mR 53, mR a1, Sum.inr (Sum.inr (Sum.inl o2))] s Q := by
  obtain ⟨hN, hB, hd, hO, h5⟩ := p1
  have b5 := ok5 hB.1
  have e1 := bi1 (s := s) (k := 54)
  have hp := nt_54 h1
  let R := ruC s o2
  let a := brow s 54
  have ru : ∀ t : mSt, fW s t → (∀ a, ruC t o2 a = ruC s o2 a) ∧ oRq t o2 := fun t ht => ruC_cells hO (fun b hb => ht b (by omega) (by omega))
  have cn4 : ∀ t : mSt, fW s t → t a1 = s a1 ∧ t (a1 + 1) = s (a1 + 1) ∧ t (a1 + 2) = s (a1 + 2) ∧ t (a1 + 3) = s (a1 + 3) := fun t ht => ⟨ht _ (by omega) (by omega), ht _ (by omega) (by omega), ht _ (by omega) (by omega), ht _ (by omega) (by omega)⟩
  let J : Int → Int → mSt → Prop := fun y3 y4 t => ∃ j : Nat, y4 = j ∧ (-1 ≤ y3 ∧ y3 ≤ 9) ∧ (j : Int) ≤ y3 + 1 ∧ (∀ i, i < (s a1 0).toNat → s (a1 + 1) i ≤ y3) ∧ BI t 54 ∧ brow t 54 = stN R j a ∧ (∀ i : Nat, i < j → an (ntB (s (a1 + 1)) (s (a1 + 2)) (s (a1 + 3)) (stN R (i + 1) a) (i : Int)) (s a1 0).toNat = false) ∧ fW s t
  have d54 : ∀ (t : mSt) (j : Nat), j ≤ 10 → brow t 54 = stN R j a → ¬ t 54 0 = 0 := fun t j hj e => by
    rw [bi1 (s := t) (k := 54), e, stN_o hB.1 (by omega) _ (by omega), ← e1]; exact hd
  refine v106 h1 J (fun _ y _ => (11 - y).toNat) ?_ ?_ ?_ ?_ ?_ hN ?_
  · rintro y3 _ t ⟨j, rfl, hy, hj, hT, hb, e, ha, ht⟩ hc
    refine k1 t ⟨fun i hi => ?_, ht⟩
    by_cases z : i < j
    · exact ha i z
    · refine an_false.2 (fun q hq => ?_)
      have := hT q hq
      apply Bool.eq_false_iff.2
      intro w
      have := (ntB_iff.1 w).1
      omega
  · rintro y3 _ t ⟨j, rfl, hy, hj, hT, hb, e, ha, ht⟩ hc
    have q := stN_ok (R := R) hB.1 j (by omega)
    exact ⟨hb, d54 t j (by omega) e, by rw [e, q.2]; omega, (ru t ht).2⟩
  · rintro y3 _ t ⟨j, rfl, hy, hj, hT, hb, e, ha, ht⟩ hc v u hu
    rw [(ru t ht).1, e] at hu
    have hw : fW s u := fun b h1 h2 => (hu.2.2.2 b h1 h2).trans (ht b h1 h2)
    have c := cn4 u hw
    refine ⟨?_, hu.2.1, d54 u (j + 1) (by omega) hu.2.2.1⟩
    unfold NSq
    rw [c.1, c.2.2.1]; exact hN.1
  · rintro y3 _ t ⟨j, rfl, hy, hj, hT, hb, e, ha, ht⟩ hc v u hu q
    rw [(ru t ht).1, e] at hu
    have hw : fW s u := fun b h1 h2 => (hu.2.2.2 b h1 h2).trans (ht b h1 h2)
    have c := cn4 u hw
    have eb : brow u 54 = stN R (j + 1) a := hu.2.2.1
    rw [c.1, c.2.1, c.2.2.1, c.2.2.2, eb] at q
    rw [w32_of (by omega)]
    refine ⟨⟨j + 1, by omega, hy, by omega, hT, hu.2.1, eb, fun i hi => ?_, hw⟩, by omega⟩
    by_cases z : i = j
    · subst z; exact q
    · exact ha i (by omega)
  · rintro y3 _ t ⟨j, rfl, hy, hj, hT, hb, e, ha, ht⟩ hc v u hu q
    rw [(ru t ht).1, e] at hu
    have hw : fW s u := fun b h1 h2 => (hu.2.2.2 b h1 h2).trans (ht b h1 h2)
    have c := cn4 u hw
    have eb : brow u 54 = stN R (j + 1) a := hu.2.2.1
    rw [c.1, c.2.1, c.2.2.1, c.2.2.2, eb] at q
    exact k0 u ⟨fun z => q (z j (by omega)), hw⟩
  · rintro v u ⟨⟨hT, hv⟩, rfl⟩
    exact ⟨0, rfl, hv, by omega, hT, hB, rfl, fun i hi => by omega, fun _ _ _ => rfl⟩
theorem anew_o {a : Rw} {j : Nat} (hj : j < 5 ∨ 77 ≤ j) : anew a j = a j := by
  unfold anew anK
  rw [if_neg (by omega), if_neg (by omega), if_neg (by omega), if_neg (by omega), if_neg (by omega)]
theorem anew_ok {a : Rw} (h : Ok a) : Ok (anew a) ∧ anew a 5 = 0 := by
  refine ⟨Ok_row h (fun j hj => ?_) (anew_o (by omega)) (anew_o (by omega)) (fun c _ => anew_o (by omega)) (fun p _ => anew_o (by omega)), by unfold anew anK; rw [if_pos rfl]⟩
  by_cases z : j < 5 ∨ 77 ≤ j
  · exact Or.inl (anew_o z)
  · right
    unfold anew anK
    by_cases z5 : j = 5
    · subst z5; rw [if_pos rfl]; decide
    · rw [if_neg z5]
      by_cases z1 : 6 ≤ j ∧ j < 6 + 5
      · rw [if_pos z1]
        have b := okTS h (p := j - 6) (by omega)
        have l := (show ∀ i : Fin 5, loA (6 + i.val) = 0 ∧ hiA (6 + i.val) = 15 by decide +kernel) ⟨j - 6, by omega⟩
        simp only [show 6 + (j - 6) = j by omega] at l
        rw [show 82 + (j - 6) = j + 76 by omega] at b
        omega
      · rw [if_neg z1]
        by_cases z2 : 11 ≤ j ∧ j < 11 + 30
        · rw [if_pos z2]
          have b := okTT h (p := j - 11) (by omega)
          have l := (show ∀ i : Fin 30, loA (11 + i.val) = 0 ∧ hiA (11 + i.val) = 9 by decide +kernel) ⟨j - 11, by omega⟩
          simp only [show 11 + (j - 11) = j by omega] at l
          rw [show 87 + (j - 11) = j + 76 by omega] at b
          omega
        · rw [if_neg z2]
          by_cases z3 : 41 ≤ j ∧ j < 41 + 6
          · rw [if_pos z3]
            exact (show ∀ i : Fin 166, 41 ≤ i.val ∧ i.val < 41 + 6 → loA i.val ≤ 1 ∧ 1 ≤ hiA i.val by decide +kernel) ⟨j, hj⟩ z3
          · rw [if_neg z3, if_pos (by omega)]
            exact (show ∀ i : Fin 166, 47 ≤ i.val ∧ i.val < 77 → loA i.val ≤ -1 ∧ -1 ≤ hiA i.val by decide +kernel) ⟨j, hj⟩ (show 47 ≤ j ∧ j < 77 by omega)
