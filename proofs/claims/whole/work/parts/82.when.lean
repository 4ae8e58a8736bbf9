/-! when -/
def whB (R : Rw → Nat → Int) (a : Rw) (x : Int) (j : Nat) : Bool := decide (chA (R (stN R j a)) (stN R j a) = x)
def whA (R : Rw → Nat → Int) (a : Rw) (x : Int) : Int := if fd (whB R a x) 20 < 0 then -2 else a 5 + fd (whB R a x) 20
theorem v102 {X : (Nat → Int) × Nat} {d : Nat} {s : mSt} {Q : mQ} {a1 : Nat} {o2 : Option Nat} {x3 : Int} (h1 : isBd a1)
  (I11 : Int → mSt → Prop) (m11 : Int → mSt → Nat)
  (z1 : ∀ y4 : Int, ∀ s : mSt, I11 y4 s → 20 ≤ y4 → Q (some (mI (-2))) s)
  (z2 : ∀ y4 : Int, ∀ s : mSt, I11 y4 s → ¬ 20 ≤ y4 → BI s 54 ∧ ¬ s 54 0 = 0 ∧ brow s 54 5 < 1000000 ∧ oRq s o2)
  (z3 : ∀ y4 : Int, ∀ s : mSt, I11 y4 s → ¬ 20 ≤ y4 → ∀ v3 : Int, ∀ s3 : mSt, (v3 = (if chA (ruC s o2 (brow s 54)) (brow s 54) < 0 then -2 else chA (ruC s o2 (brow s 54)) (brow s 54)) ∧ BI s3 54 ∧ brow s3 54 = stR (ruC s o2 (brow s 54)) (brow s 54) ∧ fTB s s3 54) → ¬ v3 = x3 → I11 (w32 (y4 + 1)) s3 ∧ m11 (w32 (y4 + 1)) s3 < m11 y4 s)
  (z4 : ∀ y4 : Int, ∀ s : mSt, I11 y4 s → ¬ 20 ≤ y4 → ∀ v3 : Int, ∀ s3 : mSt, (v3 = (if chA (ruC s o2 (brow s 54)) (brow s 54) < 0 then -2 else chA (ruC s o2 (brow s 54)) (brow s 54)) ∧ BI s3 54 ∧ brow s3 54 = stR (ruC s o2 (brow s 54)) (brow s 54) ∧ fTB s s3 54) → v3 = x3 → Q (some (mI (s 54 4))) s3)
  (z5 : 54 ≠ a1 ∧ BI s a1)
  (z6 : ∀ s6 : mSt, (BI s6 54 ∧ brow s6 54 = brow s a1 ∧ fB s s6 54) → I11 0 s6) :
  Sp X (d + 11) 102 [mR 53, mR a1, Sum.inr (Sum.inr (Sum.inl o2)), mI x3] s Q := by
  have L : ∀ k : Nat, (∀ (y4 : Int) (l5 : Option mV) (s : mSt), I11 y4 s → m11 y4 s < k → Wp X (d + 11) 102 11 [some (mR 53), some (mR a1), some (Sum.inr (Sum.inr (Sum.inl o2))), some (mI x3), some (mI y4), l5] [] s Q) := by
    intro k
    induction k with
    | zero => exact fun _ _ _ _ h => absurd h (Nat.not_lt_zero _)
    | succ k ih => exact fun y4 l5 s hI hm => b102_11 h1 (fun q1 => b102_52 h1 (z1 y4 s hI q1)) (fun q2 => b102_18 h1 (c117 (bdm rfl) (z2 y4 s hI q2) (fun v3 s3 q3 => ⟨v3, rfl, b102_39 h1 (fun q4 => b102_46 h1 (ih (w32 (y4 + 1)) (some (mI (s 54 4))) s3 (z3 y4 s hI q2 v3 s3 q3 q4).1 (Nat.lt_of_lt_of_le (z3 y4 s hI q2 v3 s3 q3 q4).2 (Nat.le_of_lt_succ hm)))) (fun q5 => b102_43 h1 (z4 y4 s hI q2 v3 s3 q3 q5))⟩)))
  exact e102 (b102_0 h1 (c3 (bdm rfl) h1 z5 (fun s6 q6 => ⟨rfl, b102_8 h1 ((L (m11 0 s6 + 1)) 0 none s6 (z6 s6 q6) (Nat.lt_succ_self _))⟩)))

theorem c102 {X : (Nat → Int) × Nat} {d : Nat} {s : mSt} {Q : mQ} {a1 : Nat} {o2 : Option Nat} {x3 : Int} (h1 : isBd a1) (p1 : a1 ≠ 54 ∧ BI s a1 ∧ ¬ s a1 0 = 0 ∧ oRq s o2 ∧ 0 ≤ x3 ∧ brow s a1 5 ≤ 999) (k : ∀ (v : Int) (t : mSt), (v = whA (ruC s o2) (brow s a1) x3 ∧ fW s t) → Q (some (mI v)) t) : Sp X (d + 11) 102 [mR 53, mR a1, Sum.inr (Sum.inr (Sum.inl o2)), mI x3] s Q := by
  obtain ⟨hn, hB, hd, hO, h3, h5⟩ := p1
  have b5 := ok5 hB.1
  have e1 := bi1 (s := s) (k := a1)
  have ru : ∀ t : mSt, fW s t → (∀ a, ruC t o2 a = ruC s o2 a) ∧ oRq t o2 := fun t ht => ruC_cells hO (fun b hb => ht b (by omega) (by omega))
  refine v102 h1 (fun y t => ∃ j : Nat, y = j ∧ j ≤ 20 ∧ BI t 54 ∧ brow t 54 = stN (ruC s o2) j (brow s a1) ∧ (∀ i, i < j → whB (ruC s o2) (brow s a1) x3 i = false) ∧ fW s t) (fun y _ => (20 - y).toNat) ?_ ?_ ?_ ?_ ?_ ?_
  · rintro _ t ⟨j, rfl, hj, hb, e, ha, ht⟩ hc
    have : j = 20 := by omega
    subst this
    refine k _ t ⟨?_, ht⟩
    unfold whA; rw [if_pos (fd_neg.2 ha)]
  · rintro _ t ⟨j, rfl, hj, hb, e, ha, ht⟩ hc
    have q := stN_ok (R := ruC s o2) hB.1 j (by omega)
    refine ⟨hb, ?_, by rw [e, q.2]; omega, (ru t ht).2⟩
    rw [bi1 (s := t) (k := 54), e, stN_o hB.1 (by omega) j (by omega), ← e1]; exact hd
  · rintro _ t ⟨j, rfl, hj, hb, e, ha, ht⟩ hc v u hu hv
    rw [(ru t ht).1, e] at hu
    rw [w32_of (by omega)]
    refine ⟨⟨j + 1, by omega, by omega, hu.2.1, hu.2.2.1, fun i hi => ?_, fun b h1 h2 => (hu.2.2.2 b h1 h2).trans (ht b h1 h2)⟩, by omega⟩
    by_cases z : i = j
    · subst z
      unfold whB
      rw [decide_eq_false_iff_not]
      intro w
      rw [w, if_neg (by omega)] at hu
      exact hv hu.1
    · exact ha i (by omega)
  · rintro _ t ⟨j, rfl, hj, hb, e, ha, ht⟩ hc v u hu hv
    rw [(ru t ht).1, e] at hu
    have w : whB (ruC s o2) (brow s a1) x3 j = true := by
      unfold whB
      rw [decide_eq_true_iff]
      by_cases z : chA (ruC s o2 (stN (ruC s o2) j (brow s a1))) (stN (ruC s o2) j (brow s a1)) < 0
      · rw [if_pos z] at hu; omega
      · rw [if_neg z] at hu; omega
    have f := fd_eq (f := whB (ruC s o2) (brow s a1) x3) (n := 20) (k := j) (by omega) w ha
    refine k _ u ⟨?_, fun b h1 h2 => (hu.2.2.2 b h1 h2).trans (ht b h1 h2)⟩
    unfold whA
    rw [f, if_neg (by omega), bi5 hb, e, (stN_ok (R := ruC s o2) hB.1 j (by omega)).2]
  · exact ⟨fun z => hn z.symm, hB⟩
  · intro u hu
    exact ⟨0, rfl, by omega, hu.1, hu.2.1, fun i hi => by omega, fun b _ hb => hu.2.2 b hb⟩
theorem v287 {X : (Nat → Int) × Nat} {d : Nat} {s : mSt} {Q : mQ} {x1 : Int}
  (I19 : Int → Int → mSt → Prop) (m19 : Int → Int → mSt → Nat)
  (z1 : ∀ y2 : Int, ∀ y3 : Int, ∀ s : mSt, I19 y2 y3 s → 20 ≤ y3 → ∀ t2 : mSt, t2 = uR s (lbk (s 417) (s 429)) → Q (some (mI y2)) t2)
  (z2 : ∀ y2 : Int, ∀ y3 : Int, ∀ s : mSt, I19 y2 y3 s → ¬ 20 ≤ y3 → 0 ≤ y2 → ∀ t5 : mSt, t5 = uR s (lbk (s 417) (s 429)) → Q (some (mI y2)) t5)
  (z3 : ∀ y2 : Int, ∀ y3 : Int, ∀ s : mSt, I19 y2 y3 s → ¬ 20 ≤ y3 → ¬ 0 ≤ y2 → Ok (s 417) ∧ FOq s ∧ s 417 5 < 1000000)
  (z4 : ∀ y2 : Int, ∀ y3 : Int, ∀ s : mSt, I19 y2 y3 s → ¬ 20 ≤ y3 → ¬ 0 ≤ y2 → ∀ v7 : Int, ∀ s7 : mSt, (v7 = chA (ruR s (s 417)) (s 417) ∧ s7 417 = stR (ruR s (s 417)) (s 417) ∧ fV s s7) → ¬ v7 = x1 → I19 y2 (w32 (y3 + 1)) s7 ∧ m19 y2 (w32 (y3 + 1)) s7 < m19 y2 y3 s)
  (z5 : ∀ y2 : Int, ∀ y3 : Int, ∀ s : mSt, I19 y2 y3 s → ¬ 20 ≤ y3 → ¬ 0 ≤ y2 → ∀ v7 : Int, ∀ s7 : mSt, (v7 = chA (ruR s (s 417)) (s 417) ∧ s7 417 = stR (ruR s (s 417)) (s 417) ∧ fV s s7) → v7 = x1 → I19 (w32 ((s7 417 5) - 1)) (w32 (y3 + 1)) s7 ∧ m19 (w32 ((s7 417 5) - 1)) (w32 (y3 + 1)) s7 < m19 y2 y3 s)
  (z6 : Ok (s 417))
  (z7 : ((0 ≤ x1 ∧ x1 < s 417 4) ∧ s 417 (41 + x1.toNat) = 1) → ∀ t11 : mSt, t11 = uC s 429 (kpR (s 417) (s 429)) → I19 (-2) 0 t11)
  (z8 : (¬ ((0 ≤ x1 ∧ x1 < s 417 4) ∧ s 417 (41 + x1.toNat) = 1)) → Q (some (mI (-1))) s) :
  Sp X (d + 8) 287 [mR 407, mI x1] s Q := by
  have L : ∀ k : Nat, (∀ (y2 : Int) (y3 : Int) (s : mSt), I19 y2 y3 s → m19 y2 y3 s < k → Wp X (d + 8) 287 19 [some (mR 407), some (mI x1), some (mI y2), some (mI y3)] [] s Q) := by
    intro k
    induction k with
    | zero => exact fun _ _ _ _ h => absurd h (Nat.not_lt_zero _)
    | succ k ih => exact fun y2 y3 s hI hm => b287_19 (fun q1 => b287_52 (c278  ⟨rfl, Wp_gen (fun t2 e2 => b287_56 (z1 y2 y3 s hI q1 t2 e2))⟩)) (fun q3 => b287_25 (fun q4 => b287_52 (c278  ⟨rfl, Wp_gen (fun t5 e5 => b287_56 (z2 y2 y3 s hI q3 q4 t5 e5))⟩)) (fun q6 => b287_29 (c251 (z3 y2 y3 s hI q3 q6) (fun v7 s7 q7 => ⟨v7, rfl, b287_33 (fun q8 => b287_46 (ih y2 (w32 (y3 + 1)) s7 (z4 y2 y3 s hI q3 q6 v7 s7 q7 q8).1 (Nat.lt_of_lt_of_le (z4 y2 y3 s hI q3 q6 v7 s7 q7 q8).2 (Nat.le_of_lt_succ hm)))) (fun q9 => b287_37 (b287_46 (ih (w32 ((s7 417 5) - 1)) (w32 (y3 + 1)) s7 (z5 y2 y3 s hI q3 q6 v7 s7 q7 q9).1 (Nat.lt_of_lt_of_le (z5 y2 y3 s hI q3 q6 v7 s7 q7 q9).2 (Nat.le_of_lt_succ hm)))))⟩))))
  exact e287 (b287_0 (c215 z6 (fun q10 => ⟨1, rfl, b287_5 (fun _ => b287_10 (c277  ⟨rfl, Wp_gen (fun t11 e11 => b287_17 ((L (m19 (-2) 0 t11 + 1)) (-2) 0 t11 (z7 q10 t11 e11) (Nat.lt_succ_self _)))⟩)) (fun q => absurd q (by decide))⟩) (fun q12 => ⟨0, rfl, b287_5 (fun q => absurd q (by decide)) (fun _ => b287_8 (z8 q12))⟩)))

theorem c287 {X : (Nat → Int) × Nat} {d : Nat} {s : mSt} {Q : mQ} {x1 : Int} (p1 : Ok (s 417) ∧ FOq s ∧ s 417 5 ≤ 999) (k : ∀ (v : Int) (t : mSt), (YN (wtC (s 417) x1) (v = whA (ruR s) (s 417) x1) (v = -1) ∧ fX s t) → Q (some (mI v)) t) : Sp X (d + 8) 287 [mR 407, mI x1] s Q := by
  obtain ⟨h, hF, h5⟩ := p1
  have b5 := ok5 h
  have h4 := ok4 h
  let u0 := uC s 429 (kpR (s 417) (s 429))
  have cu : ∀ b, b ≠ 429 → u0 b = s b := fun b hb => uC_ne hb
  have fo : ∀ t : mSt, fV u0 t → FOq t ∧ ∀ a, ruR t a = ruR s a := fun t ht => fo_cells hF (fun b hb => by rw [ht.1 b (by omega)]; exact cu b (by omega)) (by rw [ht.2 21 (by decide), cu 407 (by decide)])
  let J : Int → Int → mSt → Prop := fun y2 y3 t => ∃ j n : Nat, y3 = j ∧ j ≤ 20 ∧ wtC (s 417) x1 ∧ n ≤ 20 ∧ t 417 = stN (ruR s) n (s 417) ∧ fV u0 t ∧ ((y2 = -2 ∧ n = j ∧ ∀ i, i < j → whB (ruR s) (s 417) x1 i = false) ∨ (0 ≤ y2 ∧ y2 = whA (ruR s) (s 417) x1))
  have fin : ∀ (y2 y3 : Int) (t v : mSt), J y2 y3 t → y2 = whA (ruR s) (s 417) x1 → v = uR t (lbk (t 417) (t 429)) → Q (some (mI y2)) v := fun y2 y3 t v ⟨j, n, e3, hj, g, hn, e, ht, _⟩ hy hv => by
    refine k _ v ⟨YN_y g hy, back_x (u := u0) rfl ht (fun i hi => ?_) hv⟩
    rw [e]; exact stN_o h hi n (by omega)
  refine v287 J (fun _ y _ => (20 - y).toNat) ?_ ?_ ?_ ?_ ?_ h ?_ ?_
  · rintro y2 y3 t hJ hc v hv
    refine fin y2 y3 t v hJ ?_ hv
    obtain ⟨j, n, rfl, hj, g, hn, e, ht, q⟩ := hJ
    rcases q with q | q
    · have : j = 20 := by omega
      subst this
      unfold whA; rw [if_pos (fd_neg.2 q.2.2)]; exact q.1
    · exact q.2
  · rintro y2 y3 t hJ hc hz v hv
    refine fin y2 y3 t v hJ ?_ hv
    obtain ⟨j, n, rfl, hj, g, hn, e, ht, q⟩ := hJ
    rcases q with q | q
    · omega
    · exact q.2
  · rintro y2 y3 t ⟨j, n, rfl, hj, g, hn, e, ht, q⟩ hc hz
    have w := stN_ok (R := ruR s) h n (by omega)
    rw [e]
    exact ⟨w.1, (fo t ht).1, by omega⟩
  · rintro y2 y3 t ⟨j, n, rfl, hj, g, hn, e, ht, q⟩ hc hz v u hu hv
    rcases q with q | q
    rotate_left
    · omega
    obtain ⟨q1, rfl, q3⟩ := q
    rw [(fo t ht).2, e] at hu
    rw [w32_of (by omega)]
    refine ⟨⟨n + 1, n + 1, by omega, by omega, g, by omega, hu.2.1, fV_tr ht hu.2.2, Or.inl ⟨q1, rfl, fun i hi => ?_⟩⟩, by omega⟩
    by_cases z : i = n
    · subst z
      unfold whB
      rw [decide_eq_false_iff_not]
      intro w
      exact hv (hu.1.trans w)
    · exact q3 i (by omega)
  · rintro y2 y3 t ⟨j, n, rfl, hj, g, hn, e, ht, q⟩ hc hz v u hu hv
    rcases q with q | q
    rotate_left
    · omega
    obtain ⟨q1, rfl, q3⟩ := q
    rw [(fo t ht).2, e] at hu
    have w : whB (ruR s) (s 417) x1 n = true := by
      unfold whB; rw [decide_eq_true_iff]; exact hu.1.symm.trans hv
    have f := fd_eq (f := whB (ruR s) (s 417) x1) (n := 20) (k := n) (by omega) w q3
    have w2 := stN_ok (R := ruR s) h (n + 1) (by omega)
    have e5 : u 417 5 = s 417 5 + ((n + 1 : Nat) : Int) := by rw [hu.2.1]; exact w2.2
    have eA : whA (ruR s) (s 417) x1 = s 417 5 + n := by unfold whA; rw [f, if_neg (by omega)]
    rw [e5, w32_of (by omega), w32_of (by omega)]
    refine ⟨⟨n + 1, n + 1, by omega, by omega, g, by omega, hu.2.1, fV_tr ht hu.2.2, Or.inr ⟨by omega, by rw [eA]; omega⟩⟩, by omega⟩
  · intro g u hu
    subst hu
    exact ⟨0, 0, rfl, by omega, ⟨g.1, (pl_1 h (by omega)).1 g.2⟩, by omega, cu 417 (by decide), fV_rfl _, Or.inl ⟨rfl, rfl, fun i hi => by omega⟩⟩
  · intro g
    exact k _ s ⟨YN_n (fun z => g ⟨z.1, (pl_1 h (by have := z.1; omega)).2 z.2⟩) rfl, fX_rfl s⟩
theorem v150 {X : (Nat → Int) × Nat} {d : Nat} {s : mSt} {Q : mQ} {x1 : Int}
  (z1 : BI s 18)
  (z2 : ((0 ≤ x1 ∧ x1 < s 18 3) ∧ ¬ pl (brow s 18) x1.toNat = true) → FCq s)
  (z3 : ((0 ≤ x1 ∧ x1 < s 18 3) ∧ ¬ pl (brow s 18) x1.toNat = true) → 18 ≠ 54 ∧ BI s 18 ∧ ¬ s 18 0 = 0 ∧ oRq s (frC s) ∧ 0 ≤ x1 ∧ brow s 18 5 ≤ 999)
  (z4 : ((0 ≤ x1 ∧ x1 < s 18 3) ∧ ¬ pl (brow s 18) x1.toNat = true) → ∀ v2 : Int, ∀ s2 : mSt, (v2 = whA (ruC s (frC s)) (brow s 18) x1 ∧ fW s s2) → Q (some (mI v2)) s2)
  (z5 : (¬ ((0 ≤ x1 ∧ x1 < s 18 3) ∧ ¬ pl (brow s 18) x1.toNat = true)) → Q (some (mI (-1))) s) :
  Sp X (d + 12) 150 [mR 0, mI x1] s Q := e150 (b150_0 (c10 (bdm rfl) z1 (fun q1 => ⟨1, rfl, b150_11 (fun _ => b150_16 (c164 (z2 q1) ⟨_, rfl, b150_31 (c102 (bdm rfl) (z3 q1) (fun v2 s2 q2 => ⟨v2, rfl, b150_35 (z4 q1 v2 s2 q2)⟩))⟩)) (fun q => absurd q (by decide))⟩) (fun q3 => ⟨0, rfl, b150_11 (fun q => absurd q (by decide)) (fun _ => b150_14 (z5 q3))⟩)))

theorem c150 {X : (Nat → Int) × Nat} {d : Nat} {s : mSt} {Q : mQ} {x1 : Int} (p1 : BI s 18 ∧ FCq s ∧ oRq s (frC s) ∧ brow s 18 5 ≤ 999) (k : ∀ (v : Int) (t : mSt), (YN (wtC (brow s 18) x1) (v = whA (ruC s (frC s)) (brow s 18) x1) (v = -1) ∧ fW s t) → Q (some (mI v)) t) : Sp X (d + 12) 150 [mR 0, mI x1] s Q := by
  obtain ⟨hB, hF, hO, h5⟩ := p1
  have h4 := bi4 hB
  have h4n := bi_nc hB
  refine v150 hB (fun _ => hF) (fun g => ⟨by decide, hB, bi_dc hB (by omega), hO, g.1.1, h5⟩) (fun g v t hv => ?_) (fun g => ?_)
  · exact k _ t ⟨YN_y ⟨by rw [← h4]; exact g.1, g.2⟩ hv.1, hv.2⟩
  · exact k _ s ⟨YN_n (fun z => g ⟨by rw [h4]; exact z.1, z.2⟩) rfl, fun _ _ _ => rfl⟩
