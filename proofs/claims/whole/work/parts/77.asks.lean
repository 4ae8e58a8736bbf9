/-! faces that ask: begins, could, orders -/
def beA (a : Rw) (x y : Int) : Int := if ((0 ≤ x ∧ x < a 4) ∧ pl a x.toNat = true) ∧ (0 ≤ y ∧ y < a 3) then (if ss a x.toNat y.toNat = true then bg a x.toNat y.toNat else -2) else -1
def wtC (a : Rw) (x : Int) : Prop := (0 ≤ x ∧ x < a 4) ∧ ¬ pl a x.toNat = true
def coA (a : Rw) (x y : Int) : Int := if (pA1 a x.toNat).1 = 0 then -2 else if y = 0 then (pA1 a x.toNat).2.1 else if y = 1 then (pA1 a x.toNat).2.2.1 else if y = 2 then (pA1 a x.toNat).2.2.2.1 else (pA1 a x.toNat).2.2.2.2 (y - 3).toNat
theorem v137 {X : (Nat → Int) × Nat} {d : Nat} {s : mSt} {Q : mQ} {x1 : Int} {x2 : Int}
  (z1 : BI s 18)
  (z2 : ((0 ≤ x1 ∧ x1 < s 18 3) ∧ pl (brow s 18) x1.toNat = true) → (0 ≤ x2 ∧ x2 < s 18 2) → BI s 18 ∧ (0 ≤ x1 ∧ x1 < s 18 3) ∧ (0 ≤ x2 ∧ x2 < 5))
  (z3 : ((0 ≤ x1 ∧ x1 < s 18 3) ∧ pl (brow s 18) x1.toNat = true) → (0 ≤ x2 ∧ x2 < s 18 2) → ss (brow s 18) x1.toNat x2.toNat = true → BI s 18 ∧ (0 ≤ x1 ∧ x1 < s 18 3) ∧ (0 ≤ x2 ∧ x2 < s 18 2) ∧ pl (brow s 18) x1.toNat = true)
  (z4 : ((0 ≤ x1 ∧ x1 < s 18 3) ∧ pl (brow s 18) x1.toNat = true) → (0 ≤ x2 ∧ x2 < s 18 2) → ss (brow s 18) x1.toNat x2.toNat = true → Q (some (mI (bg (brow s 18) x1.toNat x2.toNat))) s)
  (z5 : ((0 ≤ x1 ∧ x1 < s 18 3) ∧ pl (brow s 18) x1.toNat = true) → (0 ≤ x2 ∧ x2 < s 18 2) → ¬ (ss (brow s 18) x1.toNat x2.toNat = true) → Q (some (mI (-2))) s)
  (z6 : ((0 ≤ x1 ∧ x1 < s 18 3) ∧ pl (brow s 18) x1.toNat = true) → (¬ (0 ≤ x2 ∧ x2 < s 18 2)) → Q (some (mI (-1))) s)
  (z7 : (¬ ((0 ≤ x1 ∧ x1 < s 18 3) ∧ pl (brow s 18) x1.toNat = true)) → Q (some (mI (-1))) s) :
  Sp X (d + 2) 137 [mR 0, mI x1, mI x2] s Q := e137 (b137_0 (c9 (bdm rfl) z1 (fun q1 => ⟨1, rfl, b137_13 (fun q => absurd q (by decide)) (fun _ => b137_16 (c7 (bdm rfl) (fun q2 => ⟨1, rfl, b137_21 (fun _ => b137_26 (c12 (bdm rfl) (z2 q1 q2) (fun q3 => ⟨1, rfl, b137_32 (fun q => absurd q (by decide)) (fun _ => b137_35 (c16 (bdm rfl) (z3 q1 q2 q3) ⟨_, rfl, b137_41 (b137_46 (z4 q1 q2 q3))⟩))⟩) (fun q4 => ⟨0, rfl, b137_32 (fun _ => b137_44 (b137_46 (z5 q1 q2 q4))) (fun q => absurd q (by decide))⟩))) (fun q => absurd q (by decide))⟩) (fun q5 => ⟨0, rfl, b137_21 (fun q => absurd q (by decide)) (fun _ => b137_24 (z6 q1 q5))⟩)))⟩) (fun q6 => ⟨0, rfl, b137_13 (fun _ => b137_24 (z7 q6)) (fun q => absurd q (by decide))⟩)))

theorem c137 {X : (Nat → Int) × Nat} {d : Nat} {s : mSt} {Q : mQ} {x1 : Int} {x2 : Int} (p1 : BI s 18) (k : Q (some (mI (beA (brow s 18) x1 x2))) s) : Sp X (d + 2) 137 [mR 0, mI x1, mI x2] s Q := by
  have h3 := bi3 p1
  have h4 := bi4 p1
  have b3 := ok3 p1.1
  unfold beA at k
  rw [← h3, ← h4] at k
  refine v137 p1 (fun g1 g2 => ⟨p1, g1.1, by omega⟩) (fun g1 g2 q => ⟨p1, g1.1, g2, g1.2⟩) (fun g1 g2 q => ?_) (fun g1 g2 q => ?_) (fun g1 g2 => ?_) (fun g1 => ?_)
  · rw [if_pos ⟨g1, g2⟩, if_pos q] at k; exact k
  · rw [if_pos ⟨g1, g2⟩, if_neg q] at k; exact k
  · rw [if_neg (fun z => g2 z.2)] at k; exact k
  · rw [if_neg (fun z => g1 z.1)] at k; exact k
theorem v261 {X : (Nat → Int) × Nat} {d : Nat} {s : mSt} {Q : mQ} {x1 : Int} {x2 : Int}
  (z1 : Ok (s 417))
  (z2 : ((0 ≤ x1 ∧ x1 < s 417 4) ∧ s 417 (41 + x1.toNat) = 0) → (0 ≤ x2 ∧ x2 < s 417 3) → (0 ≤ x1 ∧ x1 < 6) ∧ (0 ≤ x2 ∧ x2 < 5))
  (z3 : ((0 ≤ x1 ∧ x1 < s 417 4) ∧ s 417 (41 + x1.toNat) = 0) → (0 ≤ x2 ∧ x2 < s 417 3) → ss (s 417) x1.toNat x2.toNat = true → (0 ≤ x1 ∧ x1 < 6) ∧ (0 ≤ x2 ∧ x2 < 5))
  (z4 : ((0 ≤ x1 ∧ x1 < s 417 4) ∧ s 417 (41 + x1.toNat) = 0) → (0 ≤ x2 ∧ x2 < s 417 3) → ss (s 417) x1.toNat x2.toNat = true → Q (some (mI (bg (s 417) x1.toNat x2.toNat))) s)
  (z5 : ((0 ≤ x1 ∧ x1 < s 417 4) ∧ s 417 (41 + x1.toNat) = 0) → (0 ≤ x2 ∧ x2 < s 417 3) → ¬ (ss (s 417) x1.toNat x2.toNat = true) → Q (some (mI (-2))) s)
  (z6 : ((0 ≤ x1 ∧ x1 < s 417 4) ∧ s 417 (41 + x1.toNat) = 0) → (¬ (0 ≤ x2 ∧ x2 < s 417 3)) → Q (some (mI (-1))) s)
  (z7 : (¬ ((0 ≤ x1 ∧ x1 < s 417 4) ∧ s 417 (41 + x1.toNat) = 0)) → Q (some (mI (-1))) s) :
  Sp X (d + 2) 261 [mR 407, mI x1, mI x2] s Q := e261 (b261_0 (c216 z1 (fun q1 => ⟨1, rfl, b261_5 (fun q => absurd q (by decide)) (fun _ => b261_8 (c213  (fun q2 => ⟨1, rfl, b261_13 (fun _ => b261_18 (c217 (z2 q1 q2) (fun q3 => ⟨1, rfl, b261_24 (fun q => absurd q (by decide)) (fun _ => b261_27 (c218 (z3 q1 q2 q3) ⟨_, rfl, b261_33 (b261_38 (z4 q1 q2 q3))⟩))⟩) (fun q4 => ⟨0, rfl, b261_24 (fun _ => b261_36 (b261_38 (z5 q1 q2 q4))) (fun q => absurd q (by decide))⟩))) (fun q => absurd q (by decide))⟩) (fun q5 => ⟨0, rfl, b261_13 (fun q => absurd q (by decide)) (fun _ => b261_16 (z6 q1 q5))⟩)))⟩) (fun q6 => ⟨0, rfl, b261_5 (fun _ => b261_16 (z7 q6)) (fun q => absurd q (by decide))⟩)))

theorem c261 {X : (Nat → Int) × Nat} {d : Nat} {s : mSt} {Q : mQ} {x1 : Int} {x2 : Int} (p1 : Ok (s 417)) (k : Q (some (mI (beA (s 417) x1 x2))) s) : Sp X (d + 2) 261 [mR 407, mI x1, mI x2] s Q := by
  have h3 := ok3 p1
  have h4 := ok4 p1
  unfold beA at k
  refine v261 p1 (fun g1 g2 => by omega) (fun g1 g2 q => by omega) (fun g1 g2 q => ?_) (fun g1 g2 q => ?_) (fun g1 g2 => ?_) (fun g1 => ?_)
  · rw [if_pos ⟨⟨g1.1, pl_0.2 g1.2⟩, g2⟩, if_pos q] at k; exact k
  · rw [if_pos ⟨⟨g1.1, pl_0.2 g1.2⟩, g2⟩, if_neg q] at k; exact k
  · rw [if_neg (fun z => g2 z.2)] at k; exact k
  · rw [if_neg (fun z => g1 ⟨z.1.1, pl_0.1 z.1.2⟩)] at k; exact k
theorem wait_x {s : mSt} (hB : BI s 18) {x : Int} (g : (0 ≤ x ∧ x < s 18 3) ∧ ¬ pl (brow s 18) x.toNat = true) :
    (s 21 x.toNat).toNat = sM (brow s 18) x.toNat ∧ (BI s 18 ∧ ¬ s 18 0 = 0 ∧ (0 ≤ x ∧ x < s 18 3) ∧ (0 < s 21 x.toNat ∧ s 21 x.toNat < 32) ∧ ∀ p, (s 21 x.toNat).toNat.testBit p = true → p < np (brow s 18)) := by
  have h4n := bi_nc hB
  have n6 := nc_le hB.1
  have e := biP hB (c := x.toNat) (by omega)
  have eM : (s 21 x.toNat).toNat = sM (brow s 18) x.toNat := by
    show (s (18 + 3) x.toNat).toNat = _
    rw [e]; rfl
  have m := sM_b hB.1 (c := x.toNat) (by omega)
  refine ⟨eM, hB, bi_dc hB (by omega), g.1, ?_, ?_⟩
  · show 0 < s (18 + 3) x.toNat ∧ s (18 + 3) x.toNat < 32
    rw [e]; omega
  · rw [eM]; exact m.2.2.2
theorem v139 {X : (Nat → Int) × Nat} {d : Nat} {s : mSt} {Q : mQ} {x1 : Int}
  (z1 : BI s 18)
  (z2 : ((0 ≤ x1 ∧ x1 < s 18 3) ∧ ¬ pl (brow s 18) x1.toNat = true) → 0 ≤ x1 ∧ x1 < 6)
  (z3 : ((0 ≤ x1 ∧ x1 < s 18 3) ∧ ¬ pl (brow s 18) x1.toNat = true) → BI s 18 ∧ ¬ s 18 0 = 0 ∧ (0 ≤ x1 ∧ x1 < s 18 3) ∧ (0 < (s 21 x1.toNat) ∧ (s 21 x1.toNat) < 32) ∧ ∀ p, (s 21 x1.toNat).toNat.testBit p = true → p < np (brow s 18))
  (z4 : ((0 ≤ x1 ∧ x1 < s 18 3) ∧ ¬ pl (brow s 18) x1.toNat = true) → ∀ s2 : mSt, (0 < (plB (brow s 18) x1.toNat (s 21 x1.toNat).toNat).1 ∧ PB s2 (brow s 18) x1.toNat (s 21 x1.toNat).toNat (plB (brow s 18) x1.toNat (s 21 x1.toNat).toNat) ∧ fP s s2) → Q (some (mI (s2 44 6))) s2)
  (z5 : ((0 ≤ x1 ∧ x1 < s 18 3) ∧ ¬ pl (brow s 18) x1.toNat = true) → ∀ s3 : mSt, ((plB (brow s 18) x1.toNat (s 21 x1.toNat).toNat).1 = 0 ∧ PB s3 (brow s 18) x1.toNat (s 21 x1.toNat).toNat (plB (brow s 18) x1.toNat (s 21 x1.toNat).toNat) ∧ fP s s3) → Q (some (mI (s3 44 6))) s3)
  (z6 : (¬ ((0 ≤ x1 ∧ x1 < s 18 3) ∧ ¬ pl (brow s 18) x1.toNat = true)) → Q (some (mI (-1))) s) :
  Sp X (d + 9) 139 [mR 0, mI x1] s Q := e139 (b139_0 (c10 (bdm rfl) z1 (fun q1 => ⟨1, rfl, b139_13 (fun _ => b139_18 (z2 q1) (c59 (bdm rfl) (z3 q1) (fun s2 q2 => ⟨1, rfl, b139_33 (z4 q1 s2 q2)⟩) (fun s3 q3 => ⟨0, rfl, b139_33 (z5 q1 s3 q3)⟩))) (fun q => absurd q (by decide))⟩) (fun q4 => ⟨0, rfl, b139_13 (fun q => absurd q (by decide)) (fun _ => b139_16 (z6 q4))⟩)))

theorem c139 {X : (Nat → Int) × Nat} {d : Nat} {s : mSt} {Q : mQ} {x1 : Int} (p1 : BI s 18) (k : ∀ (v : Int) (t : mSt), (YN (wtC (brow s 18) x1) (v = (pA1 (brow s 18) x1.toNat).1) (v = -1) ∧ fT s t) → Q (some (mI v)) t) : Sp X (d + 9) 139 [mR 0, mI x1] s Q := by
  have hB := p1
  have h4 := bi4 hB
  have b4 := ok4 hB.1
  refine v139 hB (fun g => by omega) (fun g => (wait_x hB g).2) (fun g t ht => ?_) (fun g t ht => ?_) (fun g => ?_)
  · rw [(wait_x hB g).1] at ht
    exact k _ t ⟨YN_y ⟨by rw [← h4]; exact g.1, g.2⟩ ht.2.1.1, fT_P ht.2.2⟩
  · rw [(wait_x hB g).1] at ht
    exact k _ t ⟨YN_y ⟨by rw [← h4]; exact g.1, g.2⟩ ht.2.1.1, fT_P ht.2.2⟩
  · exact k _ s ⟨YN_n (fun z => g ⟨by rw [h4]; exact z.1, z.2⟩) rfl, fun _ _ => rfl⟩
theorem v263 {X : (Nat → Int) × Nat} {d : Nat} {s : mSt} {Q : mQ} {x1 : Int}
  (z1 : Ok (s 417))
  (z2 : ((0 ≤ x1 ∧ x1 < s 417 4) ∧ s 417 (41 + x1.toNat) = 1) → Ok (s 417) ∧ (0 ≤ x1 ∧ x1 < s 417 4))
  (z3 : ((0 ≤ x1 ∧ x1 < s 417 4) ∧ s 417 (41 + x1.toNat) = 1) → ∀ s2 : mSt, (0 < (pA1 (s 417) x1.toNat).1 ∧ PQ s2 (np (s 417)) (pA1 (s 417) x1.toNat) ∧ fQ s s2) → Q (some (mI (s2 407 32))) s2)
  (z4 : ((0 ≤ x1 ∧ x1 < s 417 4) ∧ s 417 (41 + x1.toNat) = 1) → ∀ s3 : mSt, ((pA1 (s 417) x1.toNat).1 = 0 ∧ PQ s3 (np (s 417)) (pA1 (s 417) x1.toNat) ∧ fQ s s3) → Q (some (mI (s3 407 32))) s3)
  (z5 : (¬ ((0 ≤ x1 ∧ x1 < s 417 4) ∧ s 417 (41 + x1.toNat) = 1)) → Q (some (mI (-1))) s) :
  Sp X (d + 6) 263 [mR 407, mI x1] s Q := e263 (b263_0 (c215 z1 (fun q1 => ⟨1, rfl, b263_5 (fun _ => b263_10 (c244 (z2 q1) (fun s2 q2 => ⟨1, rfl, b263_15 (z3 q1 s2 q2)⟩) (fun s3 q3 => ⟨0, rfl, b263_15 (z4 q1 s3 q3)⟩))) (fun q => absurd q (by decide))⟩) (fun q4 => ⟨0, rfl, b263_5 (fun q => absurd q (by decide)) (fun _ => b263_8 (z5 q4))⟩)))

theorem c263 {X : (Nat → Int) × Nat} {d : Nat} {s : mSt} {Q : mQ} {x1 : Int} (p1 : Ok (s 417)) (k : ∀ (v : Int) (t : mSt), (YN (wtC (s 417) x1) (v = (pA1 (s 417) x1.toNat).1) (v = -1) ∧ fQ s t) → Q (some (mI v)) t) : Sp X (d + 6) 263 [mR 407, mI x1] s Q := by
  have h := p1
  have h4 := ok4 h
  refine v263 h (fun g => ⟨h, g.1⟩) (fun g t ht => ?_) (fun g t ht => ?_) (fun g => ?_)
  · exact k _ t ⟨YN_y ⟨g.1, (pl_1 h (by omega)).1 g.2⟩ ht.2.1.1, ht.2.2⟩
  · exact k _ t ⟨YN_y ⟨g.1, (pl_1 h (by omega)).1 g.2⟩ ht.2.1.1, ht.2.2⟩
  · exact k _ s ⟨YN_n (fun z => g ⟨z.1, (pl_1 h (by have := z.1; omega)).2 z.2⟩) rfl, fQ_rfl s⟩
theorem v138 {X : (Nat → Int) × Nat} {d : Nat} {s : mSt} {Q : mQ} {x1 : Int} {x2 : Int}
  (z1 : BI s 18)
  (z2 : ((0 ≤ x1 ∧ x1 < s 18 3) ∧ ¬ pl (brow s 18) x1.toNat = true) → x2 < 0 → Q (some (mI (-3))) s)
  (z3 : ((0 ≤ x1 ∧ x1 < s 18 3) ∧ ¬ pl (brow s 18) x1.toNat = true) → ¬ x2 < 0 → x2 ≤ 7 → 0 ≤ x1 ∧ x1 < 6)
  (z4 : ((0 ≤ x1 ∧ x1 < s 18 3) ∧ ¬ pl (brow s 18) x1.toNat = true) → ¬ x2 < 0 → x2 ≤ 7 → BI s 18 ∧ ¬ s 18 0 = 0 ∧ (0 ≤ x1 ∧ x1 < s 18 3) ∧ (0 < (s 21 x1.toNat) ∧ (s 21 x1.toNat) < 32) ∧ ∀ p, (s 21 x1.toNat).toNat.testBit p = true → p < np (brow s 18))
  (z5 : ((0 ≤ x1 ∧ x1 < s 18 3) ∧ ¬ pl (brow s 18) x1.toNat = true) → ¬ x2 < 0 → x2 ≤ 7 → ∀ s5 : mSt, (0 < (plB (brow s 18) x1.toNat (s 21 x1.toNat).toNat).1 ∧ PB s5 (brow s 18) x1.toNat (s 21 x1.toNat).toNat (plB (brow s 18) x1.toNat (s 21 x1.toNat).toNat) ∧ fP s s5) → x2 = 0 → Q (some (mI (s5 44 7))) s5)
  (z6 : ((0 ≤ x1 ∧ x1 < s 18 3) ∧ ¬ pl (brow s 18) x1.toNat = true) → ¬ x2 < 0 → x2 ≤ 7 → ∀ s5 : mSt, (0 < (plB (brow s 18) x1.toNat (s 21 x1.toNat).toNat).1 ∧ PB s5 (brow s 18) x1.toNat (s 21 x1.toNat).toNat (plB (brow s 18) x1.toNat (s 21 x1.toNat).toNat) ∧ fP s s5) → x2 = 1 → 0 ≤ (s5 44 8) ∧ (s5 44 8) < 1073741824)
  (z7 : ((0 ≤ x1 ∧ x1 < s 18 3) ∧ ¬ pl (brow s 18) x1.toNat = true) → ¬ x2 < 0 → x2 ≤ 7 → ∀ s5 : mSt, (0 < (plB (brow s 18) x1.toNat (s 21 x1.toNat).toNat).1 ∧ PB s5 (brow s 18) x1.toNat (s 21 x1.toNat).toNat (plB (brow s 18) x1.toNat (s 21 x1.toNat).toNat) ∧ fP s s5) → x2 = 1 → Q (some (mI (cn (bq (s5 44 8)) 30))) s5)
  (z8 : ((0 ≤ x1 ∧ x1 < s 18 3) ∧ ¬ pl (brow s 18) x1.toNat = true) → ¬ x2 < 0 → x2 ≤ 7 → ∀ s5 : mSt, (0 < (plB (brow s 18) x1.toNat (s 21 x1.toNat).toNat).1 ∧ PB s5 (brow s 18) x1.toNat (s 21 x1.toNat).toNat (plB (brow s 18) x1.toNat (s 21 x1.toNat).toNat) ∧ fP s s5) → x2 = 2 → Q (some (mI (s5 44 10))) s5)
  (z9 : ((0 ≤ x1 ∧ x1 < s 18 3) ∧ ¬ pl (brow s 18) x1.toNat = true) → ¬ x2 < 0 → x2 ≤ 7 → ∀ s5 : mSt, (0 < (plB (brow s 18) x1.toNat (s 21 x1.toNat).toNat).1 ∧ PB s5 (brow s 18) x1.toNat (s 21 x1.toNat).toNat (plB (brow s 18) x1.toNat (s 21 x1.toNat).toNat) ∧ fP s s5) → ¬ x2 = 0 → ¬ x2 = 1 → ¬ x2 = 2 → 0 ≤ (w32 (x2 - 3)) ∧ (w32 (x2 - 3)) < 5)
  (z10 : ((0 ≤ x1 ∧ x1 < s 18 3) ∧ ¬ pl (brow s 18) x1.toNat = true) → ¬ x2 < 0 → x2 ≤ 7 → ∀ s5 : mSt, (0 < (plB (brow s 18) x1.toNat (s 21 x1.toNat).toNat).1 ∧ PB s5 (brow s 18) x1.toNat (s 21 x1.toNat).toNat (plB (brow s 18) x1.toNat (s 21 x1.toNat).toNat) ∧ fP s s5) → ¬ x2 = 0 → ¬ x2 = 1 → ¬ x2 = 2 → Q (some (mI (s5 49 (w32 (x2 - 3)).toNat))) s5)
  (z11 : ((0 ≤ x1 ∧ x1 < s 18 3) ∧ ¬ pl (brow s 18) x1.toNat = true) → ¬ x2 < 0 → x2 ≤ 7 → ∀ s12 : mSt, ((plB (brow s 18) x1.toNat (s 21 x1.toNat).toNat).1 = 0 ∧ PB s12 (brow s 18) x1.toNat (s 21 x1.toNat).toNat (plB (brow s 18) x1.toNat (s 21 x1.toNat).toNat) ∧ fP s s12) → Q (some (mI (-2))) s12)
  (z12 : ((0 ≤ x1 ∧ x1 < s 18 3) ∧ ¬ pl (brow s 18) x1.toNat = true) → ¬ x2 < 0 → ¬ x2 ≤ 7 → Q (some (mI (-3))) s)
  (z13 : (¬ ((0 ≤ x1 ∧ x1 < s 18 3) ∧ ¬ pl (brow s 18) x1.toNat = true)) → Q (some (mI (-3))) s) :
  Sp X (d + 9) 138 [mR 0, mI x1, mI x2] s Q := e138 (b138_0 (c10 (bdm rfl) z1 (fun q1 => ⟨1, rfl, b138_13 (fun q => absurd q (by decide)) (fun _ => b138_16 (fun q2 => b138_26 (z2 q1 q2)) (fun q3 => b138_20 (fun q4 => b138_29 (z3 q1 q3 q4) (c59 (bdm rfl) (z4 q1 q3 q4) (fun s5 q5 => ⟨1, rfl, b138_44 (fun _ => b138_50 (fun q6 => b138_76 (z5 q1 q3 q4 s5 q5 q6)) (fun q7 => b138_84 (c309 (z6 q1 q3 q4 s5 q5 q7) ⟨_, rfl, b138_94 (z7 q1 q3 q4 s5 q5 q7)⟩)) (fun q8 => b138_95 (z8 q1 q3 q4 s5 q5 q8)) (fun q9 q10 q11 => b138_103 (z9 q1 q3 q4 s5 q5 q9 q10 q11) (z10 q1 q3 q4 s5 q5 q9 q10 q11))) (fun q => absurd q (by decide))⟩) (fun s12 q12 => ⟨0, rfl, b138_44 (fun q => absurd q (by decide)) (fun _ => b138_47 (z11 q1 q3 q4 s12 q12))⟩))) (fun q13 => b138_26 (z12 q1 q3 q13))))⟩) (fun q14 => ⟨0, rfl, b138_13 (fun _ => b138_26 (z13 q14)) (fun q => absurd q (by decide))⟩)))

theorem c138 {X : (Nat → Int) × Nat} {d : Nat} {s : mSt} {Q : mQ} {x1 : Int} {x2 : Int} (p1 : BI s 18) (k : ∀ (v : Int) (t : mSt), (YN (wtC (brow s 18) x1 ∧ (0 ≤ x2 ∧ x2 ≤ 7)) (v = coA (brow s 18) x1 x2) (v = -3) ∧ fT s t) → Q (some (mI v)) t) : Sp X (d + 9) 138 [mR 0, mI x1, mI x2] s Q := by
  have hB := p1
  have h4 := bi4 hB
  have b4 := ok4 hB.1
  by_cases g : ((0 ≤ x1 ∧ x1 < s 18 3) ∧ ¬ pl (brow s 18) x1.toNat = true)
  rotate_left
  · refine v138 hB (fun z => absurd z g) (fun z => absurd z g) (fun z => absurd z g) (fun z => absurd z g) (fun z => absurd z g) (fun z => absurd z g) (fun z => absurd z g) (fun z => absurd z g) (fun z => absurd z g) (fun z => absurd z g) (fun z => absurd z g) (fun _ => ?_)
    exact k _ s ⟨YN_n (fun z => g ⟨by rw [h4]; exact z.1.1, z.1.2⟩) rfl, fun _ _ => rfl⟩
  have w := wait_x hB g
  have gw : wtC (brow s 18) x1 := ⟨by rw [← h4]; exact g.1, g.2⟩
  have eA : plB (brow s 18) x1.toNat (sM (brow s 18) x1.toNat) = pA1 (brow s 18) x1.toNat := rfl
  refine v138 hB (fun _ q => ?_) (fun _ _ _ => by omega) (fun _ _ _ => w.2) (fun _ q1 q2 t ht q => ?_) (fun _ q1 q2 t ht q => ?_) (fun _ q1 q2 t ht q => ?_) (fun _ q1 q2 t ht q => ?_) (fun _ q1 q2 t ht n0 n1 n2 => by rw [w32_of (by omega)]; omega) (fun _ q1 q2 t ht n0 n1 n2 => ?_) (fun _ q1 q2 t ht => ?_) (fun _ q1 q2 => ?_) (fun z => absurd g z)
  · exact k _ s ⟨YN_n (fun z => by have := z.2; omega) rfl, fun _ _ => rfl⟩
  · rw [w.1, eA] at ht
    have pb := ht.2.1.2.2 (by omega)
    refine k _ t ⟨YN_y ⟨gw, by omega⟩ ?_, fT_P ht.2.2⟩
    unfold coA; rw [if_neg (by omega), if_pos q]; exact pb.1.1
  · rw [w.1, eA] at ht
    have pb := ht.2.1.2.2 (by omega)
    rw [pb.1.2.1]; exact os_30 (by decide)
  · rw [w.1, eA] at ht
    have pb := ht.2.1.2.2 (by omega)
    refine k _ t ⟨YN_y ⟨gw, by omega⟩ ?_, fT_P ht.2.2⟩
    unfold coA; rw [if_neg (by omega), if_neg (by omega), if_pos q, pb.1.2.1, pb.2.2.1, cn_os (by decide)]
  · rw [w.1, eA] at ht
    have pb := ht.2.1.2.2 (by omega)
    refine k _ t ⟨YN_y ⟨gw, by omega⟩ ?_, fT_P ht.2.2⟩
    unfold coA; rw [if_neg (by omega), if_neg (by omega), if_neg (by omega), if_pos q]; exact pb.1.2.2.2.1
  · rw [w.1, eA] at ht
    have pb := ht.2.1.2.2 (by omega)
    refine k _ t ⟨YN_y ⟨gw, by omega⟩ ?_, fT_P ht.2.2⟩
    unfold coA
    rw [if_neg (by omega), if_neg n0, if_neg n1, if_neg n2, w32_of (by omega)]; exact pb.1.2.2.2.2.2 _ (by omega)
  · rw [w.1, eA] at ht
    refine k _ t ⟨YN_y ⟨gw, by omega⟩ ?_, fT_P ht.2.2⟩
    unfold coA; rw [if_pos ht.1]
  · exact k _ s ⟨YN_n (fun z => by have := z.2; omega) rfl, fun _ _ => rfl⟩
theorem v262 {X : (Nat → Int) × Nat} {d : Nat} {s : mSt} {Q : mQ} {x1 : Int} {x2 : Int}
  (z1 : Ok (s 417))
  (z2 : ((0 ≤ x1 ∧ x1 < s 417 4) ∧ s 417 (41 + x1.toNat) = 1) → (0 ≤ x2 ∧ x2 ≤ 7) → Ok (s 417) ∧ (0 ≤ x1 ∧ x1 < s 417 4))
  (z3 : ((0 ≤ x1 ∧ x1 < s 417 4) ∧ s 417 (41 + x1.toNat) = 1) → (0 ≤ x2 ∧ x2 ≤ 7) → ∀ s3 : mSt, (0 < (pA1 (s 417) x1.toNat).1 ∧ PQ s3 (np (s 417)) (pA1 (s 417) x1.toNat) ∧ fQ s s3) → x2 ≤ 2 → ¬ x2 = 0 → ¬ x2 = 1 → ¬ x2 = 2 → 0 ≤ (w32 (x2 - 3)) ∧ (w32 (x2 - 3)) < 5)
  (z4 : ((0 ≤ x1 ∧ x1 < s 417 4) ∧ s 417 (41 + x1.toNat) = 1) → (0 ≤ x2 ∧ x2 ≤ 7) → ∀ s3 : mSt, (0 < (pA1 (s 417) x1.toNat).1 ∧ PQ s3 (np (s 417)) (pA1 (s 417) x1.toNat) ∧ fQ s s3) → x2 ≤ 2 → ¬ x2 = 0 → ¬ x2 = 1 → ¬ x2 = 2 → Q (some (mI (s3 422 (w32 (x2 - 3)).toNat))) s3)
  (z5 : ((0 ≤ x1 ∧ x1 < s 417 4) ∧ s 417 (41 + x1.toNat) = 1) → (0 ≤ x2 ∧ x2 ≤ 7) → ∀ s3 : mSt, (0 < (pA1 (s 417) x1.toNat).1 ∧ PQ s3 (np (s 417)) (pA1 (s 417) x1.toNat) ∧ fQ s s3) → x2 ≤ 2 → ¬ x2 = 0 → ¬ x2 = 1 → x2 = 2 → Q (some (mI (s3 407 31))) s3)
  (z6 : ((0 ≤ x1 ∧ x1 < s 417 4) ∧ s 417 (41 + x1.toNat) = 1) → (0 ≤ x2 ∧ x2 ≤ 7) → ∀ s3 : mSt, (0 < (pA1 (s 417) x1.toNat).1 ∧ PQ s3 (np (s 417)) (pA1 (s 417) x1.toNat) ∧ fQ s s3) → x2 ≤ 2 → ¬ x2 = 0 → x2 = 1 → Q (some (mI (s3 407 30))) s3)
  (z7 : ((0 ≤ x1 ∧ x1 < s 417 4) ∧ s 417 (41 + x1.toNat) = 1) → (0 ≤ x2 ∧ x2 ≤ 7) → ∀ s3 : mSt, (0 < (pA1 (s 417) x1.toNat).1 ∧ PQ s3 (np (s 417)) (pA1 (s 417) x1.toNat) ∧ fQ s s3) → x2 ≤ 2 → x2 = 0 → Q (some (mI (s3 407 29))) s3)
  (z8 : ((0 ≤ x1 ∧ x1 < s 417 4) ∧ s 417 (41 + x1.toNat) = 1) → (0 ≤ x2 ∧ x2 ≤ 7) → ∀ s3 : mSt, (0 < (pA1 (s 417) x1.toNat).1 ∧ PQ s3 (np (s 417)) (pA1 (s 417) x1.toNat) ∧ fQ s s3) → ¬ x2 ≤ 2 → (0 ≤ (w32 (x2 - 3)) ∧ (w32 (x2 - 3)) < s3 417 3) → ¬ x2 = 0 → ¬ x2 = 1 → ¬ x2 = 2 → 0 ≤ (w32 (x2 - 3)) ∧ (w32 (x2 - 3)) < 5)
  (z9 : ((0 ≤ x1 ∧ x1 < s 417 4) ∧ s 417 (41 + x1.toNat) = 1) → (0 ≤ x2 ∧ x2 ≤ 7) → ∀ s3 : mSt, (0 < (pA1 (s 417) x1.toNat).1 ∧ PQ s3 (np (s 417)) (pA1 (s 417) x1.toNat) ∧ fQ s s3) → ¬ x2 ≤ 2 → (0 ≤ (w32 (x2 - 3)) ∧ (w32 (x2 - 3)) < s3 417 3) → ¬ x2 = 0 → ¬ x2 = 1 → ¬ x2 = 2 → Q (some (mI (s3 422 (w32 (x2 - 3)).toNat))) s3)
  (z10 : ((0 ≤ x1 ∧ x1 < s 417 4) ∧ s 417 (41 + x1.toNat) = 1) → (0 ≤ x2 ∧ x2 ≤ 7) → ∀ s3 : mSt, (0 < (pA1 (s 417) x1.toNat).1 ∧ PQ s3 (np (s 417)) (pA1 (s 417) x1.toNat) ∧ fQ s s3) → ¬ x2 ≤ 2 → (0 ≤ (w32 (x2 - 3)) ∧ (w32 (x2 - 3)) < s3 417 3) → ¬ x2 = 0 → ¬ x2 = 1 → x2 = 2 → Q (some (mI (s3 407 31))) s3)
  (z11 : ((0 ≤ x1 ∧ x1 < s 417 4) ∧ s 417 (41 + x1.toNat) = 1) → (0 ≤ x2 ∧ x2 ≤ 7) → ∀ s3 : mSt, (0 < (pA1 (s 417) x1.toNat).1 ∧ PQ s3 (np (s 417)) (pA1 (s 417) x1.toNat) ∧ fQ s s3) → ¬ x2 ≤ 2 → (0 ≤ (w32 (x2 - 3)) ∧ (w32 (x2 - 3)) < s3 417 3) → ¬ x2 = 0 → x2 = 1 → Q (some (mI (s3 407 30))) s3)
  (z12 : ((0 ≤ x1 ∧ x1 < s 417 4) ∧ s 417 (41 + x1.toNat) = 1) → (0 ≤ x2 ∧ x2 ≤ 7) → ∀ s3 : mSt, (0 < (pA1 (s 417) x1.toNat).1 ∧ PQ s3 (np (s 417)) (pA1 (s 417) x1.toNat) ∧ fQ s s3) → ¬ x2 ≤ 2 → (0 ≤ (w32 (x2 - 3)) ∧ (w32 (x2 - 3)) < s3 417 3) → x2 = 0 → Q (some (mI (s3 407 29))) s3)
  (z13 : ((0 ≤ x1 ∧ x1 < s 417 4) ∧ s 417 (41 + x1.toNat) = 1) → (0 ≤ x2 ∧ x2 ≤ 7) → ∀ s3 : mSt, (0 < (pA1 (s 417) x1.toNat).1 ∧ PQ s3 (np (s 417)) (pA1 (s 417) x1.toNat) ∧ fQ s s3) → ¬ x2 ≤ 2 → (¬ (0 ≤ (w32 (x2 - 3)) ∧ (w32 (x2 - 3)) < s3 417 3)) → Q (some (mI (-1))) s3)
  (z14 : ((0 ≤ x1 ∧ x1 < s 417 4) ∧ s 417 (41 + x1.toNat) = 1) → (0 ≤ x2 ∧ x2 ≤ 7) → ∀ s20 : mSt, ((pA1 (s 417) x1.toNat).1 = 0 ∧ PQ s20 (np (s 417)) (pA1 (s 417) x1.toNat) ∧ fQ s s20) → Q (some (mI (-2))) s20)
  (z15 : ((0 ≤ x1 ∧ x1 < s 417 4) ∧ s 417 (41 + x1.toNat) = 1) → (¬ (0 ≤ x2 ∧ x2 ≤ 7)) → Q (some (mI (-3))) s)
  (z16 : (¬ ((0 ≤ x1 ∧ x1 < s 417 4) ∧ s 417 (41 + x1.toNat) = 1)) → Q (some (mI (-3))) s) :
  Sp X (d + 6) 262 [mR 407, mI x1, mI x2] s Q := e262 (b262_0 (c215 z1 (fun q1 => ⟨1, rfl, b262_5 (fun q => absurd q (by decide)) (fun _ => b262_8 (c167  (fun q2 => ⟨1, rfl, b262_17 (fun _ => b262_23 (c244 (z2 q1 q2) (fun s3 q3 => ⟨1, rfl, b262_28 (fun _ => b262_34 (fun q4 => b262_51 (fun q5 => b262_62 (fun q6 => b262_74 (fun q7 => b262_86 (z3 q1 q2 s3 q3 q4 q5 q6 q7) (b262_94 (z4 q1 q2 s3 q3 q4 q5 q6 q7))) (fun q8 => b262_79 (b262_94 (z5 q1 q2 s3 q3 q4 q5 q6 q8)))) (fun q9 => b262_67 (b262_94 (z6 q1 q2 s3 q3 q4 q5 q9)))) (fun q10 => b262_55 (b262_94 (z7 q1 q2 s3 q3 q4 q10)))) (fun q11 => b262_39 (c213  (fun q12 => ⟨1, rfl, b262_46 (fun _ => b262_51 (fun q13 => b262_62 (fun q14 => b262_74 (fun q15 => b262_86 (z8 q1 q2 s3 q3 q11 q12 q13 q14 q15) (b262_94 (z9 q1 q2 s3 q3 q11 q12 q13 q14 q15))) (fun q16 => b262_79 (b262_94 (z10 q1 q2 s3 q3 q11 q12 q13 q14 q16)))) (fun q17 => b262_67 (b262_94 (z11 q1 q2 s3 q3 q11 q12 q13 q17)))) (fun q18 => b262_55 (b262_94 (z12 q1 q2 s3 q3 q11 q12 q18)))) (fun q => absurd q (by decide))⟩) (fun q19 => ⟨0, rfl, b262_46 (fun q => absurd q (by decide)) (fun _ => b262_49 (z13 q1 q2 s3 q3 q11 q19))⟩)))) (fun q => absurd q (by decide))⟩) (fun s20 q20 => ⟨0, rfl, b262_28 (fun q => absurd q (by decide)) (fun _ => b262_31 (z14 q1 q2 s20 q20))⟩))) (fun q => absurd q (by decide))⟩) (fun q21 => ⟨0, rfl, b262_17 (fun q => absurd q (by decide)) (fun _ => b262_20 (z15 q1 q21))⟩)))⟩) (fun q22 => ⟨0, rfl, b262_5 (fun _ => b262_20 (z16 q22)) (fun q => absurd q (by decide))⟩)))

theorem c262 {X : (Nat → Int) × Nat} {d : Nat} {s : mSt} {Q : mQ} {x1 : Int} {x2 : Int} (p1 : Ok (s 417)) (k : ∀ (v : Int) (t : mSt), (YN (wtC (s 417) x1 ∧ (0 ≤ x2 ∧ x2 ≤ 7)) (v = coA (s 417) x1 x2) (v = -3) ∧ fQ s t) → Q (some (mI v)) t) : Sp X (d + 6) 262 [mR 407, mI x1, mI x2] s Q := by
  have h := p1
  have h4 := ok4 h
  have h4n := ncI h
  have h3 := npI h
  have n5 := np_le h
  by_cases g : ((0 ≤ x1 ∧ x1 < s 417 4) ∧ s 417 (41 + x1.toNat) = 1)
  rotate_left
  · refine v262 h (fun z => absurd z g) (fun z => absurd z g) (fun z => absurd z g) (fun z => absurd z g) (fun z => absurd z g) (fun z => absurd z g) (fun z => absurd z g) (fun z => absurd z g) (fun z => absurd z g) (fun z => absurd z g) (fun z => absurd z g) (fun z => absurd z g) (fun z => absurd z g) (fun z => absurd z g) (fun _ => ?_)
    exact k _ s ⟨YN_n (fun z => g ⟨z.1.1, (pl_1 h (by have := z.1.1; omega)).2 z.1.2⟩) rfl, fQ_rfl s⟩
  have gw : wtC (s 417) x1 := ⟨g.1, (pl_1 h (by omega)).1 g.2⟩
  have m := sM_b h (c := x1.toNat) (by omega)
  have e3 : (0 ≤ x2 ∧ x2 ≤ 7) → w32 (x2 - 3) = x2 - 3 := fun q => w32_of (by omega)
  refine v262 h (fun _ _ => ⟨h, g.1⟩) (fun _ q t ht _ n0 n1 n2 => by omega) (fun _ q t ht _ n0 n1 n2 => by omega) (fun _ q t ht _ n0 n1 n2 => ?_) (fun _ q t ht _ n0 n1 => ?_) (fun _ q t ht _ n0 => ?_) (fun _ q t ht q2 q3 n0 n1 n2 => by rw [e3 q]; omega) (fun _ q t ht q2 q3 n0 n1 n2 => ?_) (fun _ q t ht q2 q3 n0 n1 n2 => by omega) (fun _ q t ht q2 q3 n0 n1 => by omega) (fun _ q t ht q2 q3 n0 => by omega) (fun _ q t ht q2 q3 => ?_) (fun _ q t ht => ?_) (fun _ q => ?_) (fun z => absurd g z)
  · refine k _ t ⟨YN_y ⟨gw, q⟩ ?_, ht.2.2⟩
    unfold coA; rw [if_neg (by omega), if_neg n0, if_neg n1, if_pos n2]; exact (ht.2.1.2.1 (by omega)).2.2
  · refine k _ t ⟨YN_y ⟨gw, q⟩ ?_, ht.2.2⟩
    unfold coA; rw [if_neg (by omega), if_neg n0, if_pos n1]; exact (ht.2.1.2.1 (by omega)).2.1
  · refine k _ t ⟨YN_y ⟨gw, q⟩ ?_, ht.2.2⟩
    unfold coA; rw [if_neg (by omega), if_pos n0]; exact (ht.2.1.2.1 (by omega)).1
  · rw [e3 q] at q3 ⊢
    rw [ht.2.2.1 417 (by decide)] at q3
    refine k _ t ⟨YN_y ⟨gw, q⟩ ?_, ht.2.2⟩
    unfold coA; rw [if_neg (by omega), if_neg n0, if_neg n1, if_neg n2, ht.2.1.2.2 _ (by omega), if_neg (by omega)]
  · rw [e3 q, ht.2.2.1 417 (by decide)] at q3
    refine k _ t ⟨YN_y ⟨gw, q⟩ ?_, ht.2.2⟩
    have hg := plB_g m.1.2 (show (plB (s 417) x1.toNat (sM (s 417) x1.toNat)).1 ≠ 0 from by have := ht.1; unfold pA1 at this; omega)
    unfold coA; rw [if_neg (by omega), if_neg (by omega), if_neg (by omega), if_neg (by omega)]
    refine ((hg (x2 - 3).toNat).2 ?_).symm
    cases hb : (sM (s 417) x1.toNat).testBit (x2 - 3).toNat
    · rfl
    · have := m.2.2.2 _ hb; omega
  · refine k _ t ⟨YN_y ⟨gw, q⟩ ?_, ht.2.2⟩
    unfold coA; rw [if_pos ht.1]
  · exact k _ s ⟨YN_n (fun z => q z.2) rfl, fQ_rfl s⟩
