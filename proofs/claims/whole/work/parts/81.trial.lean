/-! trials: turns upon a board of its own -/
theorem stR_o {w : Nat → Int} {a : Rw} (h : Ok a) {j : Nat} (hj : j < 5 ∨ 77 ≤ j) : stR w a j = a j := by
  have n5 := np_le h
  have n6 := nc_le h
  have hc := chA_ok (w := w) (a := a)
  unfold stR
  rw [up_ne (by omega)]
  by_cases z : chA w a < 0
  · rw [if_pos z]
  · rw [if_neg z]; exact lyR_o n5 (by omega) (by omega)
theorem stN_o {R : Rw → Nat → Int} {a : Rw} (h : Ok a) {j : Nat} (hj : j < 5 ∨ 77 ≤ j) : ∀ n : Nat, a 5 + n ≤ 1000000 → stN R n a j = a j
  | 0, _ => rfl
  | n + 1, hn => by
    have ih := stN_o (R := R) h hj n (by omega)
    rw [stN, stR_o (stN_ok h n (by omega)).1 hj, ih]
def fW (s t : mSt) : Prop := ∀ b, ¬ (44 ≤ b ∧ b ≤ 52) → ¬ (54 ≤ b ∧ b ≤ 54 + 9) → t b = s b
theorem is54 : isBd 54 := (show 54 ∈ bdL by decide +kernel)
theorem v101 {X : (Nat → Int) × Nat} {d : Nat} {s : mSt} {Q : mQ} {a1 : Nat} {o2 : Option Nat} {x3 : Int} (h1 : isBd a1)
  (I11 : Int → mSt → Prop) (m11 : Int → mSt → Nat)
  (z1 : ∀ y4 : Int, ∀ s : mSt, I11 y4 s → x3 ≤ y4 → Q (some (mR 54)) s)
  (z2 : ∀ y4 : Int, ∀ s : mSt, I11 y4 s → ¬ x3 ≤ y4 → BI s 54 ∧ ¬ s 54 0 = 0 ∧ brow s 54 5 < 1000000 ∧ oRq s o2)
  (z3 : ∀ y4 : Int, ∀ s : mSt, I11 y4 s → ¬ x3 ≤ y4 → ∀ v3 : Int, ∀ s3 : mSt, (v3 = (if chA (ruC s o2 (brow s 54)) (brow s 54) < 0 then -2 else chA (ruC s o2 (brow s 54)) (brow s 54)) ∧ BI s3 54 ∧ brow s3 54 = stR (ruC s o2 (brow s 54)) (brow s 54) ∧ fTB s s3 54) → I11 (w32 (y4 + 1)) s3 ∧ m11 (w32 (y4 + 1)) s3 < m11 y4 s)
  (z4 : 54 ≠ a1 ∧ BI s a1)
  (z5 : ∀ s4 : mSt, (BI s4 54 ∧ brow s4 54 = brow s a1 ∧ fB s s4 54) → I11 0 s4) :
  Sp X (d + 11) 101 [mR 53, mR a1, Sum.inr (Sum.inr (Sum.inl o2)), mI x3] s Q := by
  have L : ∀ k : Nat, (∀ (y4 : Int) (s : mSt), I11 y4 s → m11 y4 s < k → Wp X (d + 11) 101 11 [some (mR 53), some (mR a1), some (Sum.inr (Sum.inr (Sum.inl o2))), some (mI x3), some (mI y4)] [] s Q) := by
    intro k
    induction k with
    | zero => exact fun _ _ _ h => absurd h (Nat.not_lt_zero _)
    | succ k ih => exact fun y4 s hI hm => b101_11 h1 (fun q1 => b101_36 h1 (z1 y4 s hI q1)) (fun q2 => b101_17 h1 (c117 (bdm rfl) (z2 y4 s hI q2) (fun v3 s3 q3 => ⟨v3, rfl, b101_29 h1 (ih (w32 (y4 + 1)) s3 (z3 y4 s hI q2 v3 s3 q3).1 (Nat.lt_of_lt_of_le (z3 y4 s hI q2 v3 s3 q3).2 (Nat.le_of_lt_succ hm)))⟩)))
  exact e101 (b101_0 h1 (c3 (bdm rfl) h1 z4 (fun s4 q4 => ⟨rfl, b101_8 h1 ((L (m11 0 s4 + 1)) 0 s4 (z5 s4 q4) (Nat.lt_succ_self _))⟩)))

theorem c101 {X : (Nat → Int) × Nat} {d : Nat} {s : mSt} {Q : mQ} {a1 : Nat} {o2 : Option Nat} {x3 : Int} (h1 : isBd a1) (p1 : a1 ≠ 54 ∧ BI s a1 ∧ ¬ s a1 0 = 0 ∧ oRq s o2 ∧ 0 ≤ x3 ∧ brow s a1 5 + x3 ≤ 1000000) (k : ∀ t : mSt, (BI t 54 ∧ brow t 54 = stN (ruC s o2) x3.toNat (brow s a1) ∧ fW s t) → Q (some (mR 54)) t) : Sp X (d + 11) 101 [mR 53, mR a1, Sum.inr (Sum.inr (Sum.inl o2)), mI x3] s Q := by
  obtain ⟨hn, hB, hd, hO, h3, h5⟩ := p1
  have b5 := ok5 hB.1
  have e1 := bi1 (s := s) (k := a1)
  have ru : ∀ t : mSt, fW s t → (∀ a, ruC t o2 a = ruC s o2 a) ∧ oRq t o2 := fun t ht => ruC_cells hO (fun b hb => ht b (by omega) (by omega))
  refine v101 h1 (fun y t => ∃ j : Nat, y = j ∧ (j : Int) ≤ x3 ∧ BI t 54 ∧ brow t 54 = stN (ruC s o2) j (brow s a1) ∧ fW s t) (fun y _ => (x3 - y).toNat) ?_ ?_ ?_ ?_ ?_
  · rintro _ t ⟨j, rfl, hj, hb, e, ht⟩ hc
    have : x3.toNat = j := by omega
    exact k t ⟨hb, by rw [this]; exact e, ht⟩
  · rintro _ t ⟨j, rfl, hj, hb, e, ht⟩ hc
    have q := stN_ok (R := ruC s o2) hB.1 j (by omega)
    refine ⟨hb, ?_, by rw [e, q.2]; omega, (ru t ht).2⟩
    rw [bi1 (s := t) (k := 54), e, stN_o hB.1 (by omega) j (by omega), ← e1]; exact hd
  · rintro _ t ⟨j, rfl, hj, hb, e, ht⟩ hc v u hu
    rw [(ru t ht).1, e] at hu
    rw [w32_of (by omega)]
    exact ⟨⟨j + 1, by omega, by omega, hu.2.1, hu.2.2.1, fun b h1 h2 => (hu.2.2.2 b h1 h2).trans (ht b h1 h2)⟩, by omega⟩
  · exact ⟨fun z => hn z.symm, hB⟩
  · intro u hu
    exact ⟨0, rfl, by omega, hu.1, hu.2.1, fun b _ hb => hu.2.2 b hb⟩
def ahV (b : Rw) (y : Int) : Int := if y = 0 then cn (pl b) (nc b) else if y = 1 then kpa b else os (fun t => decide (fre b t = 0)) 30
def ahQ (a : Rw) (R : Rw → Nat → Int) (x y r : Int) : Prop := YN (a 0 = 1 ∧ (0 ≤ x ∧ x ≤ 20) ∧ (0 ≤ y ∧ y ≤ 2)) (r = ahV (stN R x.toNat a) y) (r = -1)
theorem fre_0 (a : Rw) (t : Nat) : 0 ≤ fre a t := by unfold fre; split <;> omega
theorem full_not (f : Nat → Bool) : iAnd 1073741823 (iXor (os f 30) (-1)) = os (fun t => !f t) 30 := by
  have b1 := os_30 (f := f) (n := 30) (by decide)
  have b2 := os_30 (f := fun t => !f t) (n := 30) (by decide)
  refine bq_ext (i3_and _ _) (by unfold i3; omega) (fun i hi => ?_)
  rw [bq_and, bq_not, os_bq (by decide), os_bq (by decide), bq_all]
  by_cases z : i < 30 <;> simp [z, hi]
theorem v149 {X : (Nat → Int) × Nat} {d : Nat} {s : mSt} {Q : mQ} {x1 : Int} {x2 : Int}
  (z1 : 0 < s 18 0 → x1 < 0 → Q (some (mI (-1))) s)
  (z2 : 0 < s 18 0 → ¬ x1 < 0 → 20 < x1 → Q (some (mI (-1))) s)
  (z3 : 0 < s 18 0 → ¬ x1 < 0 → ¬ 20 < x1 → x2 < 0 → Q (some (mI (-1))) s)
  (z4 : 0 < s 18 0 → ¬ x1 < 0 → ¬ 20 < x1 → ¬ x2 < 0 → x2 ≤ 2 → FCq s)
  (z5 : 0 < s 18 0 → ¬ x1 < 0 → ¬ 20 < x1 → ¬ x2 < 0 → x2 ≤ 2 → 18 ≠ 54 ∧ BI s 18 ∧ ¬ s 18 0 = 0 ∧ oRq s (frC s) ∧ 0 ≤ x1 ∧ brow s 18 5 + x1 ≤ 1000000)
  (z6 : 0 < s 18 0 → ¬ x1 < 0 → ¬ 20 < x1 → ¬ x2 < 0 → x2 ≤ 2 → ∀ s9 : mSt, (BI s9 54 ∧ brow s9 54 = stN (ruC s (frC s)) x1.toNat (brow s 18) ∧ fW s s9) → x2 = 0 → 0 ≤ (s9 54 5) ∧ (s9 54 5) < 1073741824)
  (z7 : 0 < s 18 0 → ¬ x1 < 0 → ¬ 20 < x1 → ¬ x2 < 0 → x2 ≤ 2 → ∀ s9 : mSt, (BI s9 54 ∧ brow s9 54 = stN (ruC s (frC s)) x1.toNat (brow s 18) ∧ fW s s9) → x2 = 0 → Q (some (mI (cn (bq (s9 54 5)) 30))) s9)
  (z8 : 0 < s 18 0 → ¬ x1 < 0 → ¬ 20 < x1 → ¬ x2 < 0 → x2 ≤ 2 → ∀ s9 : mSt, (BI s9 54 ∧ brow s9 54 = stN (ruC s (frC s)) x1.toNat (brow s 18) ∧ fW s s9) → x2 = 1 → BI s9 54)
  (z9 : 0 < s 18 0 → ¬ x1 < 0 → ¬ 20 < x1 → ¬ x2 < 0 → x2 ≤ 2 → ∀ s9 : mSt, (BI s9 54 ∧ brow s9 54 = stN (ruC s (frC s)) x1.toNat (brow s 18) ∧ fW s s9) → x2 = 1 → Q (some (mI (kpa (brow s9 54)))) s9)
  (z10 : 0 < s 18 0 → ¬ x1 < 0 → ¬ 20 < x1 → ¬ x2 < 0 → x2 ≤ 2 → ∀ s9 : mSt, (BI s9 54 ∧ brow s9 54 = stN (ruC s (frC s)) x1.toNat (brow s 18) ∧ fW s s9) → ¬ x2 = 0 → ¬ x2 = 1 → BI s9 54 ∧ ¬ s9 54 0 = 0)
  (z11 : 0 < s 18 0 → ¬ x1 < 0 → ¬ 20 < x1 → ¬ x2 < 0 → x2 ≤ 2 → ∀ s9 : mSt, (BI s9 54 ∧ brow s9 54 = stN (ruC s (frC s)) x1.toNat (brow s 18) ∧ fW s s9) → ¬ x2 = 0 → ¬ x2 = 1 → Q (some (mI (iAnd 1073741823 (iXor (os (fun t => decide (0 < fre (brow s9 54) t)) 30) (-1))))) s9)
  (z12 : 0 < s 18 0 → ¬ x1 < 0 → ¬ 20 < x1 → ¬ x2 < 0 → ¬ x2 ≤ 2 → Q (some (mI (-1))) s)
  (z13 : ¬ (0 < s 18 0) → Q (some (mI (-1))) s) :
  Sp X (d + 12) 149 [mR 0, mI x1, mI x2] s Q := e149 (b149_0 (c6 (bdm rfl) (fun q1 => ⟨1, rfl, b149_10 (fun q => absurd q (by decide)) (fun _ => b149_13 (fun q2 => b149_32 (z1 q1 q2)) (fun q3 => b149_17 (fun q4 => b149_32 (z2 q1 q3 q4)) (fun q5 => b149_23 (fun q6 => b149_32 (z3 q1 q3 q5 q6)) (fun q7 => b149_27 (fun q8 => b149_34 (c164 (z4 q1 q3 q5 q7 q8) ⟨_, rfl, b149_49 (c101 (bdm rfl) (z5 q1 q3 q5 q7 q8) (fun s9 q9 => ⟨rfl, b149_53 (fun q10 => b149_80 (c309 (z6 q1 q3 q5 q7 q8 s9 q9 q10) ⟨_, rfl, b149_87 (z7 q1 q3 q5 q7 q8 s9 q9 q10)⟩)) (fun q11 => b149_88 (c22 (bdm rfl) (z8 q1 q3 q5 q7 q8 s9 q9 q11) ⟨_, rfl, b149_92 (z9 q1 q3 q5 q7 q8 s9 q9 q11)⟩)) (fun q12 q13 => b149_93 (c18 (bdm rfl) (z10 q1 q3 q5 q7 q8 s9 q9 q12 q13) ⟨_, rfl, b149_100 (z11 q1 q3 q5 q7 q8 s9 q9 q12 q13)⟩))⟩))⟩)) (fun q14 => b149_32 (z12 q1 q3 q5 q7 q14))))))⟩) (fun q15 => ⟨0, rfl, b149_10 (fun _ => b149_32 (z13 q15)) (fun q => absurd q (by decide))⟩)))

theorem c149 {X : (Nat → Int) × Nat} {d : Nat} {s : mSt} {Q : mQ} {x1 : Int} {x2 : Int} (p1 : BI s 18 ∧ FCq s ∧ oRq s (frC s) ∧ brow s 18 5 ≤ 999) (k : ∀ (v : Int) (t : mSt), (ahQ (brow s 18) (ruC s (frC s)) x1 x2 v ∧ fW s t) → Q (some (mI v)) t) : Sp X (d + 12) 149 [mR 0, mI x1, mI x2] s Q := by
  obtain ⟨hB, hF, hO, h5⟩ := p1
  have b0 := hB.2.2.2.2.1
  have e0 := brw_0 (s := s) (k := 18)
  have e1 := bi1 (s := s) (k := 18)
  have no : ∀ g : ¬ (brow s 18 0 = 1 ∧ (0 ≤ x1 ∧ x1 ≤ 20) ∧ (0 ≤ x2 ∧ x2 ≤ 2)), Q (some (mI (-1))) s := fun g => k _ s ⟨YN_n g rfl, fun _ _ _ => rfl⟩
  have d54 : ∀ t : mSt, 0 < s 18 0 → (0 ≤ x1 ∧ x1 ≤ 20) → brow t 54 = stN (ruC s (frC s)) x1.toNat (brow s 18) → ¬ t 54 0 = 0 := fun t g gx e => by
    rw [bi1 (s := t) (k := 54), e, stN_o hB.1 (by omega) _ (by omega), ← e1]; omega
  refine v149 (fun g0 g => no (by omega)) (fun g0 g1 g2 => no (by omega)) (fun g0 g1 g2 g3 => no (by omega)) (fun _ _ _ _ _ => hF) (fun g0 g1 g2 g3 g4 => ⟨by decide, hB, by omega, hO, by omega, by omega⟩) (fun g0 g1 g2 g3 g4 t ht q => ?_) (fun g0 g1 g2 g3 g4 t ht q => ?_) (fun g0 g1 g2 g3 g4 t ht q => ht.1) (fun g0 g1 g2 g3 g4 t ht q => ?_) (fun g0 g1 g2 g3 g4 t ht q q2 => ⟨ht.1, d54 t g0 (by omega) ht.2.1⟩) (fun g0 g1 g2 g3 g4 t ht q q2 => ?_) (fun g0 g1 g2 g3 g4 => no (by omega)) (fun g0 => ?_)
  · have n6 := nc_le ht.1.1
    rw [bi_pln ht.1]; exact os_30 (by omega)
  · have n6 := nc_le ht.1.1
    rw [if_neg (by omega)] at e0
    refine k _ t ⟨YN_y ⟨e0, by omega, by omega⟩ ?_, ht.2.2⟩
    unfold ahV
    rw [if_pos q, bi_pln ht.1, cn_os (by omega), ht.2.1]
  · rw [if_neg (by omega)] at e0
    refine k _ t ⟨YN_y ⟨e0, by omega, by omega⟩ ?_, ht.2.2⟩
    unfold ahV
    rw [if_neg (by omega), if_pos q, ht.2.1]
  · rw [if_neg (by omega)] at e0
    refine k _ t ⟨YN_y ⟨e0, by omega, by omega⟩ ?_, ht.2.2⟩
    unfold ahV
    rw [if_neg q, if_neg q2, full_not, ht.2.1]
    refine os_congr (fun i _ => ?_)
    have := fre_0 (stN (ruC s (frC s)) x1.toNat (brow s 18)) i
    by_cases z : fre (stN (ruC s (frC s)) x1.toNat (brow s 18)) i = 0
    · simp [z]
    · simp [z]; omega
  · rw [if_pos (by omega)] at e0
    exact no (by omega)
/-- laid back, as if nothing had been -/
def fX (s t : mSt) : Prop := (∀ b, ¬ (b = 407 ∨ b = 415 ∨ b = 416 ∨ 418 ≤ b ∧ b ≤ 422 ∨ b = 429) → t b = s b) ∧ ∀ j, ¬ (j = 18 ∨ 28 ≤ j ∧ j ≤ 35) → t 407 j = s 407 j
theorem fX_rfl (s : mSt) : fX s s := ⟨fun _ _ => rfl, fun _ _ => rfl⟩
theorem back_x {s u v t : mSt} (hu : u = uC s 429 (kpR (s 417) (s 429))) (hv : fV u v) (ho : ∀ j, (j < 5 ∨ 77 ≤ j) → v 417 j = s 417 j) (ht : t = uR v (lbk (v 417) (v 429))) : fX s t := by
  have c9 : v 429 = kpR (s 417) (s 429) := by rw [hv.1 429 (by decide), hu]; exact uC_at _ _ _
  have e : t 417 = s 417 := by
    rw [ht, show uR v (lbk (v 417) (v 429)) 417 = lbk (v 417) (v 429) from uC_at _ _ _, c9]
    funext j
    unfold lbk kpR
    by_cases z : 5 ≤ j ∧ j < 77
    · rw [if_pos z, if_pos (by omega), show 5 + (j - 5) = j by omega]
    · rw [if_neg z]; exact ho j (by omega)
  have cb : ∀ b, b ≠ 417 → t b = v b := fun b hb => by rw [ht]; exact uC_ne hb
  have cu : ∀ b, b ≠ 429 → u b = s b := fun b hb => by rw [hu]; exact uC_ne hb
  refine ⟨fun b hb => ?_, fun j hj => ?_⟩
  · by_cases z : b = 417
    · rw [z]; exact e
    · rw [cb b z, hv.1 b (by omega)]; exact cu b (by omega)
  · rw [cb 407 (by decide), hv.2 j hj, cu 407 (by decide)]
theorem v286 {X : (Nat → Int) × Nat} {d : Nat} {s : mSt} {Q : mQ} {x1 : Int} {x2 : Int}
  (z1 : s 417 0 = 1 → (0 ≤ x1 ∧ x1 ≤ 20) → (0 ≤ x2 ∧ x2 ≤ 2) → ∀ t4 : mSt, t4 = uC s 429 (kpR (s 417) (s 429)) → Ok (t4 417) ∧ FOq t4 ∧ 0 ≤ x1 ∧ t4 417 5 + x1 ≤ 1000000)
  (z2 : s 417 0 = 1 → (0 ≤ x1 ∧ x1 ≤ 20) → (0 ≤ x2 ∧ x2 ≤ 2) → ∀ t4 : mSt, t4 = uC s 429 (kpR (s 417) (s 429)) → ∀ s5 : mSt, (s5 417 = stN (ruR t4) x1.toNat (t4 417) ∧ fV t4 s5) → ¬ x2 = 0 → ¬ x2 = 1 → Ok (s5 417))
  (z3 : s 417 0 = 1 → (0 ≤ x1 ∧ x1 ≤ 20) → (0 ≤ x2 ∧ x2 ≤ 2) → ∀ t4 : mSt, t4 = uC s 429 (kpR (s 417) (s 429)) → ∀ s5 : mSt, (s5 417 = stN (ruR t4) x1.toNat (t4 417) ∧ fV t4 s5) → ¬ x2 = 0 → ¬ x2 = 1 → ∀ t8 : mSt, t8 = uR s5 (lbk (s5 417) (s5 429)) → Q (some (mI (os (fun t => decide (fre (s5 417) t = 0)) 30))) t8)
  (z4 : s 417 0 = 1 → (0 ≤ x1 ∧ x1 ≤ 20) → (0 ≤ x2 ∧ x2 ≤ 2) → ∀ t4 : mSt, t4 = uC s 429 (kpR (s 417) (s 429)) → ∀ s5 : mSt, (s5 417 = stN (ruR t4) x1.toNat (t4 417) ∧ fV t4 s5) → ¬ x2 = 0 → x2 = 1 → Ok (s5 417))
  (z5 : s 417 0 = 1 → (0 ≤ x1 ∧ x1 ≤ 20) → (0 ≤ x2 ∧ x2 ≤ 2) → ∀ t4 : mSt, t4 = uC s 429 (kpR (s 417) (s 429)) → ∀ s5 : mSt, (s5 417 = stN (ruR t4) x1.toNat (t4 417) ∧ fV t4 s5) → ¬ x2 = 0 → x2 = 1 → ∀ t10 : mSt, t10 = uR s5 (lbk (s5 417) (s5 429)) → Q (some (mI (kpa (s5 417)))) t10)
  (z6 : s 417 0 = 1 → (0 ≤ x1 ∧ x1 ≤ 20) → (0 ≤ x2 ∧ x2 ≤ 2) → ∀ t4 : mSt, t4 = uC s 429 (kpR (s 417) (s 429)) → ∀ s5 : mSt, (s5 417 = stN (ruR t4) x1.toNat (t4 417) ∧ fV t4 s5) → x2 = 0 → Ok (s5 417))
  (z7 : s 417 0 = 1 → (0 ≤ x1 ∧ x1 ≤ 20) → (0 ≤ x2 ∧ x2 ≤ 2) → ∀ t4 : mSt, t4 = uC s 429 (kpR (s 417) (s 429)) → ∀ s5 : mSt, (s5 417 = stN (ruR t4) x1.toNat (t4 417) ∧ fV t4 s5) → x2 = 0 → ∀ t12 : mSt, t12 = uR s5 (lbk (s5 417) (s5 429)) → Q (some (mI (cn (pl (s5 417)) (nc (s5 417))))) t12)
  (z8 : s 417 0 = 1 → (0 ≤ x1 ∧ x1 ≤ 20) → (¬ (0 ≤ x2 ∧ x2 ≤ 2)) → Q (some (mI (-1))) s)
  (z9 : s 417 0 = 1 → (¬ (0 ≤ x1 ∧ x1 ≤ 20)) → Q (some (mI (-1))) s)
  (z10 : ¬ (s 417 0 = 1) → Q (some (mI (-1))) s) :
  Sp X (d + 9) 286 [mR 407, mI x1, mI x2] s Q := e286 (b286_0 (c212  (fun q1 => ⟨1, rfl, b286_4 (fun q => absurd q (by decide)) (fun _ => b286_7 (c167  (fun q2 => ⟨1, rfl, b286_16 (fun q => absurd q (by decide)) (fun _ => b286_19 (c167  (fun q3 => ⟨1, rfl, b286_28 (fun _ => b286_33 (c277  ⟨rfl, Wp_gen (fun t4 e4 => b286_37 (c252 (z1 q1 q2 q3 t4 e4) (fun s5 q5 => ⟨rfl, b286_42 (fun q6 => b286_53 (fun q7 => b286_65 (c284 (z2 q1 q2 q3 t4 e4 s5 q5 q6 q7) ⟨_, rfl, b286_69 (c278  ⟨rfl, Wp_gen (fun t8 e8 => b286_74 (z3 q1 q2 q3 t4 e4 s5 q5 q6 q7 t8 e8))⟩)⟩)) (fun q9 => b286_58 (c226 (z4 q1 q2 q3 t4 e4 s5 q5 q6 q9) ⟨_, rfl, b286_62 (b286_69 (c278  ⟨rfl, Wp_gen (fun t10 e10 => b286_74 (z5 q1 q2 q3 t4 e4 s5 q5 q6 q9 t10 e10))⟩))⟩))) (fun q11 => b286_46 (c285 (z6 q1 q2 q3 t4 e4 s5 q5 q11) ⟨_, rfl, b286_50 (b286_69 (c278  ⟨rfl, Wp_gen (fun t12 e12 => b286_74 (z7 q1 q2 q3 t4 e4 s5 q5 q11 t12 e12))⟩))⟩))⟩)))⟩)) (fun q => absurd q (by decide))⟩) (fun q13 => ⟨0, rfl, b286_28 (fun q => absurd q (by decide)) (fun _ => b286_31 (z8 q1 q2 q13))⟩)))⟩) (fun q14 => ⟨0, rfl, b286_16 (fun _ => b286_31 (z9 q1 q14)) (fun q => absurd q (by decide))⟩)))⟩) (fun q15 => ⟨0, rfl, b286_4 (fun _ => b286_31 (z10 q15)) (fun q => absurd q (by decide))⟩)))

theorem c286 {X : (Nat → Int) × Nat} {d : Nat} {s : mSt} {Q : mQ} {x1 : Int} {x2 : Int} (p1 : Ok (s 417) ∧ FOq s ∧ s 417 5 ≤ 999) (k : ∀ (v : Int) (t : mSt), (ahQ (s 417) (ruR s) x1 x2 v ∧ fX s t) → Q (some (mI v)) t) : Sp X (d + 9) 286 [mR 407, mI x1, mI x2] s Q := by
  obtain ⟨h, hF, h5⟩ := p1
  have b5 := ok5 h
  have c7 : ∀ u : mSt, u = uC s 429 (kpR (s 417) (s 429)) → u 417 = s 417 ∧ FOq u ∧ ∀ a, ruR u a = ruR s a := fun u hu => by
    have cu : ∀ b, b ≠ 429 → u b = s b := fun b hb => by rw [hu]; exact uC_ne hb
    exact ⟨cu 417 (by decide), fo_cells hF (fun b hb => cu b (by omega)) (by rw [cu 407 (by decide)])⟩
  have st : ∀ u v : mSt, u = uC s 429 (kpR (s 417) (s 429)) → (v 417 = stN (ruR u) x1.toNat (u 417) ∧ fV u v) → v 417 = stN (ruR s) x1.toNat (s 417) := fun u v hu hv => by
    have q := c7 u hu
    rw [hv.1, q.1, show ruR u = ruR s from funext q.2.2]
  have okv : (0 ≤ x1 ∧ x1 ≤ 20) → Ok (stN (ruR s) x1.toNat (s 417)) := fun g => (stN_ok h _ (by omega)).1
  have fin : ∀ (u v t : mSt) (r : Int), s 417 0 = 1 → (0 ≤ x1 ∧ x1 ≤ 20) → (0 ≤ x2 ∧ x2 ≤ 2) → u = uC s 429 (kpR (s 417) (s 429)) → (v 417 = stN (ruR u) x1.toNat (u 417) ∧ fV u v) → t = uR v (lbk (v 417) (v 429)) → r = ahV (stN (ruR s) x1.toNat (s 417)) x2 → Q (some (mI r)) t := fun u v t r g0 g1 g2 hu hv ht hr => by
    refine k _ t ⟨YN_y ⟨g0, g1, g2⟩ hr, back_x hu hv.2 (fun j hj => ?_) ht⟩
    rw [st u v hu hv]; exact stN_o h hj _ (by omega)
  refine v286 (fun g0 g1 g2 u hu => ?_) (fun g0 g1 g2 u hu v hv q q2 => ?_) (fun g0 g1 g2 u hu v hv q q2 t ht => ?_) (fun g0 g1 g2 u hu v hv q q2 => ?_) (fun g0 g1 g2 u hu v hv q q2 t ht => ?_) (fun g0 g1 g2 u hu v hv q => ?_) (fun g0 g1 g2 u hu v hv q t ht => ?_) (fun g0 g1 g2 => ?_) (fun g0 g1 => ?_) (fun g0 => ?_)
  · have q := c7 u hu
    rw [q.1]; exact ⟨h, q.2.1, g1.1, by omega⟩
  · rw [st u v hu hv]; exact okv g1
  · refine fin u v t _ g0 g1 g2 hu hv ht ?_
    unfold ahV; rw [if_neg q, if_neg q2, st u v hu hv]
  · rw [st u v hu hv]; exact okv g1
  · refine fin u v t _ g0 g1 g2 hu hv ht ?_
    unfold ahV; rw [if_neg q, if_pos q2, st u v hu hv]
  · rw [st u v hu hv]; exact okv g1
  · refine fin u v t _ g0 g1 g2 hu hv ht ?_
    unfold ahV; rw [if_pos q, st u v hu hv]
  · exact k _ s ⟨YN_n (fun z => g2 z.2.2) rfl, fX_rfl s⟩
  · exact k _ s ⟨YN_n (fun z => g1 z.2.1) rfl, fX_rfl s⟩
  · exact k _ s ⟨YN_n (fun z => g0 z.1) rfl, fX_rfl s⟩
