/-! acts: drop, delay, plan, take, undo -/
def YN (C P Q : Prop) : Prop := (C → P) ∧ (¬ C → Q)
theorem YN_y {C P Q : Prop} (c : C) (p : P) : YN C P Q := ⟨fun _ => p, fun z => absurd c z⟩
theorem YN_n {C P Q : Prop} (c : ¬ C) (q : Q) : YN C P Q := ⟨fun z => absurd z c, fun _ => q⟩
def drC (a : Rw) (x : Int) : Prop := (0 ≤ x ∧ x < a 4) ∧ pl a x.toNat = true
def drA (a : Rw) (x : Int) : Int := cn (bq (wts (wtR a x.toNat))) 30
def dlC (a : Rw) (x y : Int) : Prop := (1 ≤ y ∧ y ≤ 9) ∧ (0 ≤ x ∧ x < a 3) ∧ ¬ a (6 + x.toNat) = 15
def plC (a : Rw) (x : Int) : Prop := ((0 ≤ x ∧ x < a 4) ∧ ¬ pl a x.toNat = true) ∧ 0 < (pA1 a x.toNat).1
def tkC (a : Rw) (x y : Int) : Prop := a 0 = 1 ∧ (0 ≤ x ∧ x < 30) ∧ (0 ≤ y ∧ y ≤ 9) ∧ ¬ a (11 + x.toNat) = y
theorem fB_f {u t : mSt} (h : fB u t 18) : ∀ b, ¬ (44 ≤ b ∧ b ≤ 52) → ¬ (18 ≤ b ∧ b ≤ 18 + 9) → t b = u b := fun b _ h2 => h b h2
theorem v133 {X : (Nat → Int) × Nat} {d : Nat} {s : mSt} {Q : mQ} {x1 : Int}
  (z1 : BI s 18)
  (z2 : ((0 ≤ x1 ∧ x1 < s 18 3) ∧ pl (brow s 18) x1.toNat = true) → PPq s ∧ BI s 18)
  (z3 : ((0 ≤ x1 ∧ x1 < s 18 3) ∧ pl (brow s 18) x1.toNat = true) → ∀ s2 : mSt, RMq s s2 → BI s2 18 ∧ (0 ≤ x1 ∧ x1 < s2 18 3))
  (z4 : ((0 ≤ x1 ∧ x1 < s 18 3) ∧ pl (brow s 18) x1.toNat = true) → ∀ s2 : mSt, RMq s s2 → ∀ s3 : mSt, (BI s3 18 ∧ brow s3 18 = wtR (brow s2 18) x1.toNat ∧ fB s2 s3 18) → BI s3 18)
  (z5 : ((0 ≤ x1 ∧ x1 < s 18 3) ∧ pl (brow s 18) x1.toNat = true) → ∀ s2 : mSt, RMq s s2 → ∀ s3 : mSt, (BI s3 18 ∧ brow s3 18 = wtR (brow s2 18) x1.toNat ∧ fB s2 s3 18) → 0 ≤ (wts (brow s3 18)) ∧ (wts (brow s3 18)) < 1073741824)
  (z6 : ((0 ≤ x1 ∧ x1 < s 18 3) ∧ pl (brow s 18) x1.toNat = true) → ∀ s2 : mSt, RMq s s2 → ∀ s3 : mSt, (BI s3 18 ∧ brow s3 18 = wtR (brow s2 18) x1.toNat ∧ fB s2 s3 18) → Q (some (mI (cn (bq (wts (brow s3 18))) 30))) s3)
  (z7 : (¬ ((0 ≤ x1 ∧ x1 < s 18 3) ∧ pl (brow s 18) x1.toNat = true)) → Q (some (mI (-1))) s) :
  Sp X (d + 3) 133 [mR 0, mI x1] s Q := e133 (b133_0 (c9 (bdm rfl) z1 (fun q1 => ⟨1, rfl, b133_11 (fun _ => b133_16 (c165 (z2 q1) (fun s2 q2 => ⟨rfl, b133_20 (c24 (bdm rfl) (z3 q1 s2 q2) (fun s3 q3 => ⟨rfl, b133_31 (c11 (bdm rfl) (z4 q1 s2 q2 s3 q3) ⟨_, rfl, b133_41 (c309 (z5 q1 s2 q2 s3 q3) ⟨_, rfl, b133_44 (z6 q1 s2 q2 s3 q3)⟩)⟩)⟩))⟩))) (fun q => absurd q (by decide))⟩) (fun q4 => ⟨0, rfl, b133_11 (fun q => absurd q (by decide)) (fun _ => b133_14 (z7 q4))⟩)))

theorem c133 {X : (Nat → Int) × Nat} {d : Nat} {s : mSt} {Q : mQ} {x1 : Int} (p1 : PPq s ∧ BI s 18) (k : ∀ (v : Int) (t : mSt), (YN (drC (brow s 18) x1) (v = drA (brow s 18) x1 ∧ ACq s t (wtR (brow s 18) x1.toNat)) (v = -1 ∧ t = s)) → Q (some (mI v)) t) : Sp X (d + 3) 133 [mR 0, mI x1] s Q := by
  obtain ⟨hP, hB⟩ := p1
  have h4 := bi4 hB
  have wb : ∀ t : mSt, BI t 18 → 0 ≤ wts (brow t 18) ∧ wts (brow t 18) < 1073741824 := fun t ht => by have := wts_bd ht.1; omega
  refine v133 hB (fun g => ⟨hP, hB⟩) (fun g u hu => ?_) (fun g u hu t ht => ht.1) (fun g u hu t ht => wb t ht.1) (fun g u hu t ht => ?_) (fun g => ?_)
  · rw [hu.2.2.2 18 (by decide) (by decide) (by decide)]
    exact ⟨(rm_8 hB hu).1, g.1⟩
  · rw [(rm_8 hB hu).2] at ht
    rw [ht.2.1]
    exact k _ t (YN_y ⟨by rw [← h4]; exact g.1, g.2⟩ ⟨rfl, ac_of hu ⟨ht.1, ht.2.1⟩ (fB_f ht.2.2)⟩)
  · exact k _ s (YN_n (fun z => g ⟨by rw [h4]; exact z.1, z.2⟩) ⟨rfl, rfl⟩)
theorem v257 {X : (Nat → Int) × Nat} {d : Nat} {s : mSt} {Q : mQ} {x1 : Int}
  (z1 : Ok (s 417))
  (z2 : ((0 ≤ x1 ∧ x1 < s 417 4) ∧ s 417 (41 + x1.toNat) = 0) → 0 ≤ s 407 37 ∧ s 407 37 ≤ 20)
  (z3 : ((0 ≤ x1 ∧ x1 < s 417 4) ∧ s 417 (41 + x1.toNat) = 0) → ∀ s2 : mSt, (s2 423 = kaR s ∧ s2 407 = up (s 407) 37 (if s 407 37 = 20 then 20 else s 407 37 + 1) ∧ ∀ b, b ≠ 407 → b ≠ 423 → s2 b = s b) → 0 ≤ x1 ∧ x1 < 6)
  (z4 : ((0 ≤ x1 ∧ x1 < s 417 4) ∧ s 417 (41 + x1.toNat) = 0) → ∀ s2 : mSt, (s2 423 = kaR s ∧ s2 407 = up (s 407) 37 (if s 407 37 = 20 then 20 else s 407 37 + 1) ∧ ∀ b, b ≠ 407 → b ≠ 423 → s2 b = s b) → ∀ t3 : mSt, t3 = uR s2 (wtR (s2 417) x1.toNat) → Ok (t3 417))
  (z5 : ((0 ≤ x1 ∧ x1 < s 417 4) ∧ s 417 (41 + x1.toNat) = 0) → ∀ s2 : mSt, (s2 423 = kaR s ∧ s2 407 = up (s 407) 37 (if s 407 37 = 20 then 20 else s 407 37 + 1) ∧ ∀ b, b ≠ 407 → b ≠ 423 → s2 b = s b) → ∀ t3 : mSt, t3 = uR s2 (wtR (s2 417) x1.toNat) → 0 ≤ (wts (t3 417)) ∧ (wts (t3 417)) < 1073741824)
  (z6 : ((0 ≤ x1 ∧ x1 < s 417 4) ∧ s 417 (41 + x1.toNat) = 0) → ∀ s2 : mSt, (s2 423 = kaR s ∧ s2 407 = up (s 407) 37 (if s 407 37 = 20 then 20 else s 407 37 + 1) ∧ ∀ b, b ≠ 407 → b ≠ 423 → s2 b = s b) → ∀ t3 : mSt, t3 = uR s2 (wtR (s2 417) x1.toNat) → Q (some (mI (cn (bq (wts (t3 417))) 30))) t3)
  (z7 : (¬ ((0 ≤ x1 ∧ x1 < s 417 4) ∧ s 417 (41 + x1.toNat) = 0)) → Q (some (mI (-1))) s) :
  Sp X (d + 3) 257 [mR 407, mI x1] s Q := e257 (b257_0 (c216 z1 (fun q1 => ⟨1, rfl, b257_5 (fun _ => b257_10 (c253 (z2 q1) (fun s2 q2 => ⟨rfl, b257_14 (c246 (z3 q1 s2 q2) ⟨rfl, Wp_gen (fun t3 e3 => b257_19 (c221 (z4 q1 s2 q2 t3 e3) ⟨_, rfl, b257_23 (c169 (z5 q1 s2 q2 t3 e3) ⟨_, rfl, b257_26 (z6 q1 s2 q2 t3 e3)⟩)⟩))⟩)⟩))) (fun q => absurd q (by decide))⟩) (fun q4 => ⟨0, rfl, b257_5 (fun q => absurd q (by decide)) (fun _ => b257_8 (z7 q4))⟩)))

theorem c257 {X : (Nat → Int) × Nat} {d : Nat} {s : mSt} {Q : mQ} {x1 : Int} (p1 : Ok (s 417) ∧ (0 ≤ s 407 37 ∧ s 407 37 ≤ 20)) (k : ∀ (v : Int) (t : mSt), (YN (drC (s 417) x1) (v = drA (s 417) x1 ∧ ACr s t (wtR (s 417) x1.toNat)) (v = -1 ∧ t = s)) → Q (some (mI v)) t) : Sp X (d + 3) 257 [mR 407, mI x1] s Q := by
  obtain ⟨h, hn⟩ := p1
  have h4 := ok4 h
  have uu : ∀ (u t : mSt), KAr s u → t = uR u (wtR (u 417) x1.toNat) → t 417 = wtR (s 417) x1.toNat ∧ fV u t := fun u t hu e => by
    rw [hu.2.2 417 (by decide) (by decide)] at e
    subst e
    exact ⟨uC_at _ _ _, fun b hb => uC_ne (by omega), fun j _ => by rw [show uR u (wtR (s 417) x1.toNat) 407 = u 407 from uC_ne (by decide)]⟩
  refine v257 h (fun g => hn) (fun g u hu => by omega) (fun g u hu t ht => ?_) (fun g u hu t ht => ?_) (fun g u hu t ht => ?_) (fun g => ?_)
  · rw [(uu u t hu ht).1]; exact wtR_ok h (by omega)
  · rw [(uu u t hu ht).1]
    have := wts_bd (wtR_ok h (c := x1.toNat) (by omega)); omega
  · have q := uu u t hu ht
    rw [q.1]
    exact k _ t (YN_y ⟨g.1, pl_0.2 g.2⟩ ⟨rfl, acr_of hu q.1 q.2⟩)
  · exact k _ s (YN_n (fun z => g ⟨z.1, pl_0.1 z.2⟩) ⟨rfl, rfl⟩)
theorem v134 {X : (Nat → Int) × Nat} {d : Nat} {s : mSt} {Q : mQ} {x1 : Int} {x2 : Int}
  (z1 : x2 < 1 → Q (some (mI (-1))) s)
  (z2 : ¬ x2 < 1 → 9 < x2 → Q (some (mI (-1))) s)
  (z3 : ¬ x2 < 1 → ¬ 9 < x2 → BI s 18)
  (z4 : ¬ x2 < 1 → ¬ 9 < x2 → ((0 ≤ x1 ∧ x1 < s 18 2) ∧ ¬ brow s 18 (6 + x1.toNat) = 15) → PPq s ∧ BI s 18)
  (z5 : ¬ x2 < 1 → ¬ 9 < x2 → ((0 ≤ x1 ∧ x1 < s 18 2) ∧ ¬ brow s 18 (6 + x1.toNat) = 15) → ∀ s6 : mSt, RMq s s6 → BI s6 18 ∧ (0 ≤ x1 ∧ x1 < s6 18 2) ∧ (1 ≤ x2 ∧ x2 ≤ 9))
  (z6 : ¬ x2 < 1 → ¬ 9 < x2 → ((0 ≤ x1 ∧ x1 < s 18 2) ∧ ¬ brow s 18 (6 + x1.toNat) = 15) → ∀ s6 : mSt, RMq s s6 → ∀ s7 : mSt, (BI s7 18 ∧ brow s7 18 = dlR (brow s6 18) x1.toNat x2 ∧ fB s6 s7 18) → 0 ≤ x1 ∧ x1 < 5)
  (z7 : ¬ x2 < 1 → ¬ 9 < x2 → ((0 ≤ x1 ∧ x1 < s 18 2) ∧ ¬ brow s 18 (6 + x1.toNat) = 15) → ∀ s6 : mSt, RMq s s6 → ∀ s7 : mSt, (BI s7 18 ∧ brow s7 18 = dlR (brow s6 18) x1.toNat x2 ∧ fB s6 s7 18) → Q (some (mI (s7 19 x1.toNat))) s7)
  (z8 : ¬ x2 < 1 → ¬ 9 < x2 → (¬ ((0 ≤ x1 ∧ x1 < s 18 2) ∧ ¬ brow s 18 (6 + x1.toNat) = 15)) → Q (some (mI (-1))) s) :
  Sp X (d + 3) 134 [mR 0, mI x1, mI x2] s Q := e134 (b134_0 (fun q1 => b134_27 (z1 q1)) (fun q2 => b134_13 (fun q3 => b134_27 (z2 q2 q3)) (fun q4 => b134_19 (c25 (bdm rfl) (z3 q2 q4) (fun q5 => ⟨1, rfl, b134_24 (fun _ => b134_29 (c165 (z4 q2 q4 q5) (fun s6 q6 => ⟨rfl, b134_33 (c26 (bdm rfl) (z5 q2 q4 q5 s6 q6) (fun s7 q7 => ⟨rfl, b134_39 (z6 q2 q4 q5 s6 q6 s7 q7) (z7 q2 q4 q5 s6 q6 s7 q7)⟩))⟩))) (fun q => absurd q (by decide))⟩) (fun q8 => ⟨0, rfl, b134_24 (fun q => absurd q (by decide)) (fun _ => b134_27 (z8 q2 q4 q8))⟩)))))

theorem c134 {X : (Nat → Int) × Nat} {d : Nat} {s : mSt} {Q : mQ} {x1 : Int} {x2 : Int} (p1 : PPq s ∧ BI s 18) (k : ∀ (v : Int) (t : mSt), (YN (dlC (brow s 18) x1 x2) (v = dlR (brow s 18) x1.toNat x2 (6 + x1.toNat) ∧ ACq s t (dlR (brow s 18) x1.toNat x2)) (v = -1 ∧ t = s)) → Q (some (mI v)) t) : Sp X (d + 3) 134 [mR 0, mI x1, mI x2] s Q := by
  obtain ⟨hP, hB⟩ := p1
  have h3 := bi3 hB
  have h3n := bi_np hB
  have b3 := ok3 hB.1
  refine v134 (fun g => ?_) (fun g1 g2 => ?_) (fun _ _ => hB) (fun _ _ _ => ⟨hP, hB⟩) (fun g1 g2 g u hu => ?_) (fun g1 g2 g u hu t ht => by omega) (fun g1 g2 g u hu t ht => ?_) (fun g1 g2 g => ?_)
  · exact k _ s (YN_n (fun z => by have := z.1; omega) ⟨rfl, rfl⟩)
  · exact k _ s (YN_n (fun z => by have := z.1; omega) ⟨rfl, rfl⟩)
  · rw [hu.2.2.2 18 (by decide) (by decide) (by decide)]
    exact ⟨(rm_8 hB hu).1, g.1, by omega⟩
  · rw [(rm_8 hB hu).2] at ht
    have enp : np (brow t 18) = np (brow s 18) := by rw [ht.2.1]; unfold np; rw [dlR_o (by omega) (by omega), if_neg (by omega)]
    have e := biS ht.1 (p := x1.toNat) (by omega)
    rw [show (19 : Nat) = 18 + 1 from rfl, e, ht.2.1]
    exact k _ t (YN_y ⟨by omega, by rw [← h3]; exact g.1, g.2⟩ ⟨rfl, ac_of hu ⟨ht.1, ht.2.1⟩ (fB_f ht.2.2)⟩)
  · exact k _ s (YN_n (fun z => g ⟨by rw [h3]; exact z.2.1, z.2.2⟩) ⟨rfl, rfl⟩)
theorem v259 {X : (Nat → Int) × Nat} {d : Nat} {s : mSt} {Q : mQ} {x1 : Int} {x2 : Int}
  (z1 : (0 ≤ x1 ∧ x1 < s 417 3) → (1 ≤ x2 ∧ x2 ≤ 9) → 0 ≤ (w32 (6 + x1)) ∧ (w32 (6 + x1)) < 166)
  (z2 : (0 ≤ x1 ∧ x1 < s 417 3) → (1 ≤ x2 ∧ x2 ≤ 9) → ¬ (s 417 (w32 (6 + x1)).toNat) = 15 → 0 ≤ s 407 37 ∧ s 407 37 ≤ 20)
  (z3 : (0 ≤ x1 ∧ x1 < s 417 3) → (1 ≤ x2 ∧ x2 ≤ 9) → ¬ (s 417 (w32 (6 + x1)).toNat) = 15 → ∀ s4 : mSt, (s4 423 = kaR s ∧ s4 407 = up (s 407) 37 (if s 407 37 = 20 then 20 else s 407 37 + 1) ∧ ∀ b, b ≠ 407 → b ≠ 423 → s4 b = s b) → Ok (s4 417) ∧ (0 ≤ x1 ∧ x1 < s4 417 3) ∧ (1 ≤ x2 ∧ x2 ≤ 9))
  (z4 : (0 ≤ x1 ∧ x1 < s 417 3) → (1 ≤ x2 ∧ x2 ≤ 9) → ¬ (s 417 (w32 (6 + x1)).toNat) = 15 → ∀ s4 : mSt, (s4 423 = kaR s ∧ s4 407 = up (s 407) 37 (if s 407 37 = 20 then 20 else s 407 37 + 1) ∧ ∀ b, b ≠ 407 → b ≠ 423 → s4 b = s b) → ∀ t5 : mSt, t5 = uR s4 (dlR (s4 417) x1.toNat x2) → 0 ≤ (w32 (6 + x1)) ∧ (w32 (6 + x1)) < 166)
  (z5 : (0 ≤ x1 ∧ x1 < s 417 3) → (1 ≤ x2 ∧ x2 ≤ 9) → ¬ (s 417 (w32 (6 + x1)).toNat) = 15 → ∀ s4 : mSt, (s4 423 = kaR s ∧ s4 407 = up (s 407) 37 (if s 407 37 = 20 then 20 else s 407 37 + 1) ∧ ∀ b, b ≠ 407 → b ≠ 423 → s4 b = s b) → ∀ t5 : mSt, t5 = uR s4 (dlR (s4 417) x1.toNat x2) → Q (some (mI (t5 417 (w32 (6 + x1)).toNat))) t5)
  (z6 : (0 ≤ x1 ∧ x1 < s 417 3) → (1 ≤ x2 ∧ x2 ≤ 9) → (s 417 (w32 (6 + x1)).toNat) = 15 → Q (some (mI (-1))) s)
  (z7 : (0 ≤ x1 ∧ x1 < s 417 3) → (¬ (1 ≤ x2 ∧ x2 ≤ 9)) → Q (some (mI (-1))) s)
  (z8 : (¬ (0 ≤ x1 ∧ x1 < s 417 3)) → Q (some (mI (-1))) s) :
  Sp X (d + 3) 259 [mR 407, mI x1, mI x2] s Q := e259 (b259_0 (c213  (fun q1 => ⟨1, rfl, b259_5 (fun q => absurd q (by decide)) (fun _ => b259_8 (c167  (fun q2 => ⟨1, rfl, b259_17 (fun q => absurd q (by decide)) (fun _ => b259_20 (z1 q1 q2) (fun q3 => b259_36 (c253 (z2 q1 q2 q3) (fun s4 q4 => ⟨rfl, b259_40 (c258 (z3 q1 q2 q3 s4 q4) ⟨rfl, Wp_gen (fun t5 e5 => b259_46 (z4 q1 q2 q3 s4 q4 t5 e5) (z5 q1 q2 q3 s4 q4 t5 e5))⟩)⟩))) (fun q6 => b259_34 (z6 q1 q2 q6)))⟩) (fun q7 => ⟨0, rfl, b259_17 (fun _ => b259_34 (z7 q1 q7)) (fun q => absurd q (by decide))⟩)))⟩) (fun q8 => ⟨0, rfl, b259_5 (fun _ => b259_34 (z8 q8)) (fun q => absurd q (by decide))⟩)))

theorem c259 {X : (Nat → Int) × Nat} {d : Nat} {s : mSt} {Q : mQ} {x1 : Int} {x2 : Int} (p1 : Ok (s 417) ∧ (0 ≤ s 407 37 ∧ s 407 37 ≤ 20)) (k : ∀ (v : Int) (t : mSt), (YN (dlC (s 417) x1 x2) (v = dlR (s 417) x1.toNat x2 (6 + x1.toNat) ∧ ACr s t (dlR (s 417) x1.toNat x2)) (v = -1 ∧ t = s)) → Q (some (mI v)) t) : Sp X (d + 3) 259 [mR 407, mI x1, mI x2] s Q := by
  obtain ⟨h, hn⟩ := p1
  have h3 := ok3 h
  have e6 : (0 ≤ x1 ∧ x1 < s 417 3) → (w32 (6 + x1)).toNat = 6 + x1.toNat := fun g => wt (by omega) (by omega)
  have uu : ∀ (u t : mSt), KAr s u → t = uR u (dlR (u 417) x1.toNat x2) → t 417 = dlR (s 417) x1.toNat x2 ∧ fV u t := fun u t hu e => by
    rw [hu.2.2 417 (by decide) (by decide)] at e
    subst e
    exact ⟨uC_at _ _ _, fun b hb => uC_ne (by omega), fun j _ => by rw [show uR u (dlR (s 417) x1.toNat x2) 407 = u 407 from uC_ne (by decide)]⟩
  refine v259 (fun g1 g2 => by rw [w32_of (by omega)]; omega) (fun _ _ _ => hn) (fun g1 g2 g3 u hu => ?_) (fun g1 g2 g3 u hu t ht => by rw [w32_of (by omega)]; omega) (fun g1 g2 g3 u hu t ht => ?_) (fun g1 g2 g3 => ?_) (fun g1 g2 => ?_) (fun g1 => ?_)
  · rw [hu.2.2 417 (by decide) (by decide)]; exact ⟨h, g1, g2⟩
  · have q := uu u t hu ht
    rw [e6 g1] at g3 ⊢
    rw [q.1]
    exact k _ t (YN_y ⟨g2, g1, g3⟩ ⟨rfl, acr_of hu q.1 q.2⟩)
  · rw [e6 g1] at g3
    exact k _ s (YN_n (fun z => z.2.2 g3) ⟨rfl, rfl⟩)
  · exact k _ s (YN_n (fun z => g2 z.1) ⟨rfl, rfl⟩)
  · exact k _ s (YN_n (fun z => g1 z.2.1) ⟨rfl, rfl⟩)
theorem ac_pre {s u t : mSt} {a : Rw} (hP : PPq s) (hB : BI s 18) (hu : fT s u) (h : ACq u t a) : ACq s t a := by
  have c0 : u 0 = s 0 := hu 0 (by decide)
  have q := pp_cells hP c0 (hu 33 (by decide)) (fun b hb => hu b (by omega)) (hu 417 (by decide))
  have w := (BI_cells hB (fun x hx => hu x (by omega)) (hu 417 (by decide))).2
  have hh := hP.1
  refine ⟨h.1, by rw [h.2.1, c0], h.2.2.1, fun i hi => ?_, fun b hb => by rw [h.2.2.2.2 b hb]; exact hu b (by omega)⟩
  rw [h.2.2.2.1 i hi]
  unfold pshB
  rw [c0, w]
  by_cases z : s 0 8 = 20
  · rw [if_pos z, if_pos z]
    by_cases z1 : i < 19
    · rw [if_pos z1, if_pos z1, q.2 (i + 1) (by omega)]
    · rw [if_neg z1, if_neg z1]
  · rw [if_neg z, if_neg z]
    by_cases z1 : i < (s 0 8).toNat
    · rw [if_pos z1, if_pos z1, q.2 i z1]
    · rw [if_neg z1, if_neg z1]
theorem pp_fT {s u : mSt} (hP : PPq s) (hu : fT s u) : PPq u := (pp_cells hP (hu 0 (by decide)) (hu 33 (by decide)) (fun b hb => hu b (by omega)) (hu 417 (by decide))).1
theorem fT_P {s t : mSt} (h : fP s t) : fT s t := fun b hb => h b (by omega)
theorem v132 {X : (Nat → Int) × Nat} {d : Nat} {s : mSt} {Q : mQ} {x1 : Int}
  (z1 : BI s 18)
  (z2 : ((0 ≤ x1 ∧ x1 < s 18 3) ∧ ¬ pl (brow s 18) x1.toNat = true) → 0 ≤ x1 ∧ x1 < 6)
  (z3 : ((0 ≤ x1 ∧ x1 < s 18 3) ∧ ¬ pl (brow s 18) x1.toNat = true) → BI s 18 ∧ ¬ s 18 0 = 0 ∧ (0 ≤ x1 ∧ x1 < s 18 3) ∧ (0 < (s 21 x1.toNat) ∧ (s 21 x1.toNat) < 32) ∧ ∀ p, (s 21 x1.toNat).toNat.testBit p = true → p < np (brow s 18))
  (z4 : ((0 ≤ x1 ∧ x1 < s 18 3) ∧ ¬ pl (brow s 18) x1.toNat = true) → ∀ s2 : mSt, (0 < (plB (brow s 18) x1.toNat (s 21 x1.toNat).toNat).1 ∧ PB s2 (brow s 18) x1.toNat (s 21 x1.toNat).toNat (plB (brow s 18) x1.toNat (s 21 x1.toNat).toNat) ∧ fP s s2) → PPq s2 ∧ BI s2 18)
  (z5 : ((0 ≤ x1 ∧ x1 < s 18 3) ∧ ¬ pl (brow s 18) x1.toNat = true) → ∀ s2 : mSt, (0 < (plB (brow s 18) x1.toNat (s 21 x1.toNat).toNat).1 ∧ PB s2 (brow s 18) x1.toNat (s 21 x1.toNat).toNat (plB (brow s 18) x1.toNat (s 21 x1.toNat).toNat) ∧ fP s s2) → ∀ s3 : mSt, RMq s2 s3 → BI s3 18 ∧ ((0 ≤ x1 ∧ x1 < s3 18 3) ∧ ¬ pl (brow s3 18) x1.toNat = true) ∧ 0 < (pA1 (brow s3 18) x1.toNat).1 ∧ PB s3 (brow s3 18) x1.toNat (sM (brow s3 18) x1.toNat) (pA1 (brow s3 18) x1.toNat))
  (z6 : ((0 ≤ x1 ∧ x1 < s 18 3) ∧ ¬ pl (brow s 18) x1.toNat = true) → ∀ s2 : mSt, (0 < (plB (brow s 18) x1.toNat (s 21 x1.toNat).toNat).1 ∧ PB s2 (brow s 18) x1.toNat (s 21 x1.toNat).toNat (plB (brow s 18) x1.toNat (s 21 x1.toNat).toNat) ∧ fP s s2) → ∀ s3 : mSt, RMq s2 s3 → ∀ s4 : mSt, (BI s4 18 ∧ brow s4 18 = lyR (brow s3 18) x1.toNat (pA1 (brow s3 18) x1.toNat).2.2.2.2 ∧ fB s3 s4 18) → Q (some (mI (s4 44 10))) s4)
  (z7 : ((0 ≤ x1 ∧ x1 < s 18 3) ∧ ¬ pl (brow s 18) x1.toNat = true) → ∀ s5 : mSt, ((plB (brow s 18) x1.toNat (s 21 x1.toNat).toNat).1 = 0 ∧ PB s5 (brow s 18) x1.toNat (s 21 x1.toNat).toNat (plB (brow s 18) x1.toNat (s 21 x1.toNat).toNat) ∧ fP s s5) → Q (some (mI (-1))) s5)
  (z8 : (¬ ((0 ≤ x1 ∧ x1 < s 18 3) ∧ ¬ pl (brow s 18) x1.toNat = true)) → Q (some (mI (-1))) s) :
  Sp X (d + 9) 132 [mR 0, mI x1] s Q := e132 (b132_0 (c10 (bdm rfl) z1 (fun q1 => ⟨1, rfl, b132_13 (fun q => absurd q (by decide)) (fun _ => b132_16 (z2 q1) (c59 (bdm rfl) (z3 q1) (fun s2 q2 => ⟨1, rfl, b132_31 (fun _ => b132_36 (c165 (z4 q1 s2 q2) (fun s3 q3 => ⟨rfl, b132_40 (c23 (bdm rfl) (z5 q1 s2 q2 s3 q3) (fun s4 q4 => ⟨rfl, b132_49 (z6 q1 s2 q2 s3 q3 s4 q4)⟩))⟩))) (fun q => absurd q (by decide))⟩) (fun s5 q5 => ⟨0, rfl, b132_31 (fun q => absurd q (by decide)) (fun _ => b132_34 (z7 q1 s5 q5))⟩)))⟩) (fun q6 => ⟨0, rfl, b132_13 (fun _ => b132_34 (z8 q6)) (fun q => absurd q (by decide))⟩)))

theorem c132 {X : (Nat → Int) × Nat} {d : Nat} {s : mSt} {Q : mQ} {x1 : Int} (p1 : PPq s ∧ BI s 18) (k : ∀ (v : Int) (t : mSt), (YN (plC (brow s 18) x1) (v = (pA1 (brow s 18) x1.toNat).2.2.2.1 ∧ ACq s t (lyR (brow s 18) x1.toNat (pA1 (brow s 18) x1.toNat).2.2.2.2)) (v = -1 ∧ fT s t)) → Q (some (mI v)) t) : Sp X (d + 9) 132 [mR 0, mI x1] s Q := by
  obtain ⟨hP, hB⟩ := p1
  have h4 := bi4 hB
  have h4n := bi_nc hB
  have n6 := nc_le hB.1
  by_cases g : ((0 ≤ x1 ∧ x1 < s 18 3) ∧ ¬ pl (brow s 18) x1.toNat = true)
  rotate_left
  · refine v132 hB (fun z => absurd z g) (fun z => absurd z g) (fun z => absurd z g) (fun z => absurd z g) (fun z => absurd z g) (fun z => absurd z g) (fun _ => ?_)
    exact k _ s (YN_n (fun z => g ⟨by rw [h4]; exact z.1.1, z.1.2⟩) ⟨rfl, fun _ _ => rfl⟩)
  have eM : (s 21 x1.toNat).toNat = sM (brow s 18) x1.toNat := by
    show (s (18 + 3) x1.toNat).toNat = _
    rw [biP hB (by omega)]; rfl
  have m := sM_b hB.1 (c := x1.toNat) (by omega)
  have e := biP hB (c := x1.toNat) (by omega)
  have eA : plB (brow s 18) x1.toNat (sM (brow s 18) x1.toNat) = pA1 (brow s 18) x1.toNat := rfl
  have g' : (0 ≤ x1 ∧ x1 < brow s 18 4) ∧ ¬ pl (brow s 18) x1.toNat = true := ⟨by rw [← h4]; exact g.1, g.2⟩
  have w2 : ∀ u : mSt, fP s u → BI u 18 ∧ brow u 18 = brow s 18 := fun u hu => BI_cells hB (fun x hx => hu x (by omega)) (hu 417 (by decide))
  refine v132 hB (fun _ => by omega) (fun _ => ?_) (fun _ u hu => ?_) (fun _ u hu v hv => ?_) (fun _ u hu v hv t ht => ?_) (fun _ u hu => ?_) (fun z => absurd g z)
  · refine ⟨hB, bi_dc hB (by omega), g.1, ?_, ?_⟩
    · show 0 < s (18 + 3) x1.toNat ∧ s (18 + 3) x1.toNat < 32
      rw [e]; omega
    · rw [eM]; exact m.2.2.2
  · exact ⟨pp_fT hP (fT_P hu.2.2), (w2 u hu.2.2).1⟩
  · have a1 := w2 u hu.2.2
    have a2 := rm_8 a1.1 hv
    rw [eM, eA] at hu
    rw [a2.2, a1.2, hv.2.2.2 18 (by decide) (by decide) (by decide), hu.2.2 18 (by decide)]
    refine ⟨a2.1, g, hu.1, ?_⟩
    have hb := hu.2.1
    unfold PB at hb ⊢
    rw [hv.2.2.2 44 (by decide) (by decide) (by decide), hv.2.2.2 49 (by decide) (by decide) (by decide)]
    exact hb
  · have a1 := w2 u hu.2.2
    have a2 := rm_8 a1.1 hv
    rw [eM, eA] at hu
    rw [a2.2, a1.2] at ht
    have hb := (hu.2.1.2.2 (by omega)).1
    refine k _ t (YN_y ⟨g', hu.1⟩ ⟨?_, ac_pre hP hB (fT_P hu.2.2) (ac_of hv ⟨ht.1, ht.2.1⟩ (fB_f ht.2.2))⟩)
    rw [ht.2.2 44 (by omega), hv.2.2.2 44 (by decide) (by decide) (by decide)]
    exact hb.2.2.2.1
  · rw [eM, eA] at hu
    exact k _ u (YN_n (fun z => by have := z.2; omega) ⟨rfl, fT_P hu.2.2⟩)
theorem acr_pre {s u t : mSt} {a : Rw} (hu : fQ s u) (h : ACr u t a) : ACr s t a := by
  have c7 : u 407 37 = s 407 37 := hu.2 37 (by decide)
  have ek : kaR u = kaR s := by funext j; unfold kaR; rw [c7, hu.1 417 (by decide), hu.1 423 (by decide)]
  refine ⟨h.1, by rw [h.2.1, ek], by rw [h.2.2.1, c7], fun b hb => by rw [h.2.2.2.1 b hb]; exact hu.1 b (by omega), fun j hj => by rw [h.2.2.2.2 j hj]; exact hu.2 j (by omega)⟩
theorem v256 {X : (Nat → Int) × Nat} {d : Nat} {s : mSt} {Q : mQ} {x1 : Int}
  (z1 : Ok (s 417))
  (z2 : ((0 ≤ x1 ∧ x1 < s 417 4) ∧ s 417 (41 + x1.toNat) = 1) → Ok (s 417) ∧ (0 ≤ x1 ∧ x1 < s 417 4))
  (z3 : ((0 ≤ x1 ∧ x1 < s 417 4) ∧ s 417 (41 + x1.toNat) = 1) → ∀ s2 : mSt, (0 < (pA1 (s 417) x1.toNat).1 ∧ PQ s2 (np (s 417)) (pA1 (s 417) x1.toNat) ∧ fQ s s2) → 0 ≤ s2 407 37 ∧ s2 407 37 ≤ 20)
  (z4 : ((0 ≤ x1 ∧ x1 < s 417 4) ∧ s 417 (41 + x1.toNat) = 1) → ∀ s2 : mSt, (0 < (pA1 (s 417) x1.toNat).1 ∧ PQ s2 (np (s 417)) (pA1 (s 417) x1.toNat) ∧ fQ s s2) → ∀ s3 : mSt, (s3 423 = kaR s2 ∧ s3 407 = up (s2 407) 37 (if s2 407 37 = 20 then 20 else s2 407 37 + 1) ∧ ∀ b, b ≠ 407 → b ≠ 423 → s3 b = s2 b) → Ok (s3 417) ∧ (0 ≤ x1 ∧ x1 < s3 417 4))
  (z5 : ((0 ≤ x1 ∧ x1 < s 417 4) ∧ s 417 (41 + x1.toNat) = 1) → ∀ s2 : mSt, (0 < (pA1 (s 417) x1.toNat).1 ∧ PQ s2 (np (s 417)) (pA1 (s 417) x1.toNat) ∧ fQ s s2) → ∀ s3 : mSt, (s3 423 = kaR s2 ∧ s3 407 = up (s2 407) 37 (if s2 407 37 = 20 then 20 else s2 407 37 + 1) ∧ ∀ b, b ≠ 407 → b ≠ 423 → s3 b = s2 b) → ∀ s4 : mSt, (0 < (pA1 (s3 417) x1.toNat).1 ∧ s4 417 = lyR (s3 417) x1.toNat (pA1 (s3 417) x1.toNat).2.2.2.2 ∧ PQ s4 (np (s3 417)) (pA1 (s3 417) x1.toNat) ∧ fL s3 s4) → Q (some (mI (s4 407 31))) s4)
  (z6 : ((0 ≤ x1 ∧ x1 < s 417 4) ∧ s 417 (41 + x1.toNat) = 1) → ∀ s2 : mSt, (0 < (pA1 (s 417) x1.toNat).1 ∧ PQ s2 (np (s 417)) (pA1 (s 417) x1.toNat) ∧ fQ s s2) → ∀ s3 : mSt, (s3 423 = kaR s2 ∧ s3 407 = up (s2 407) 37 (if s2 407 37 = 20 then 20 else s2 407 37 + 1) ∧ ∀ b, b ≠ 407 → b ≠ 423 → s3 b = s2 b) → ∀ s5 : mSt, ((pA1 (s3 417) x1.toNat).1 = 0 ∧ s5 417 = s3 417 ∧ fL s3 s5) → Q (some (mI (s5 407 31))) s5)
  (z7 : ((0 ≤ x1 ∧ x1 < s 417 4) ∧ s 417 (41 + x1.toNat) = 1) → ∀ s6 : mSt, ((pA1 (s 417) x1.toNat).1 = 0 ∧ PQ s6 (np (s 417)) (pA1 (s 417) x1.toNat) ∧ fQ s s6) → Q (some (mI (-1))) s6)
  (z8 : (¬ ((0 ≤ x1 ∧ x1 < s 417 4) ∧ s 417 (41 + x1.toNat) = 1)) → Q (some (mI (-1))) s) :
  Sp X (d + 7) 256 [mR 407, mI x1] s Q := e256 (b256_0 (c215 z1 (fun q1 => ⟨1, rfl, b256_5 (fun q => absurd q (by decide)) (fun _ => b256_8 (c244 (z2 q1) (fun s2 q2 => ⟨1, rfl, b256_13 (fun _ => b256_18 (c253 (z3 q1 s2 q2) (fun s3 q3 => ⟨rfl, b256_22 (c245 (z4 q1 s2 q2 s3 q3) (fun s4 q4 => ⟨1, rfl, b256_27 (z5 q1 s2 q2 s3 q3 s4 q4)⟩) (fun s5 q5 => ⟨0, rfl, b256_27 (z6 q1 s2 q2 s3 q3 s5 q5)⟩))⟩))) (fun q => absurd q (by decide))⟩) (fun s6 q6 => ⟨0, rfl, b256_13 (fun q => absurd q (by decide)) (fun _ => b256_16 (z7 q1 s6 q6))⟩)))⟩) (fun q7 => ⟨0, rfl, b256_5 (fun _ => b256_16 (z8 q7)) (fun q => absurd q (by decide))⟩)))

theorem c256 {X : (Nat → Int) × Nat} {d : Nat} {s : mSt} {Q : mQ} {x1 : Int} (p1 : Ok (s 417) ∧ (0 ≤ s 407 37 ∧ s 407 37 ≤ 20)) (k : ∀ (v : Int) (t : mSt), (YN (plC (s 417) x1) (v = (pA1 (s 417) x1.toNat).2.2.2.1 ∧ ACr s t (lyR (s 417) x1.toNat (pA1 (s 417) x1.toNat).2.2.2.2)) (v = -1 ∧ fQ s t)) → Q (some (mI v)) t) : Sp X (d + 7) 256 [mR 407, mI x1] s Q := by
  obtain ⟨h, hn⟩ := p1
  have h4 := ok4 h
  have pw : ((0 ≤ x1 ∧ x1 < s 417 4) ∧ s 417 (41 + x1.toNat) = 1) → (0 ≤ x1 ∧ x1 < s 417 4) ∧ ¬ pl (s 417) x1.toNat = true := fun g => ⟨g.1, (pl_1 h (by omega)).1 g.2⟩
  refine v256 h (fun g => ⟨h, g.1⟩) (fun g u hu => ?_) (fun g u hu v hv => ?_) (fun g u hu v hv t ht => ?_) (fun g u hu v hv t ht => ?_) (fun g u hu => ?_) (fun g => ?_)
  · rw [hu.2.2.2 37 (by decide)]; exact hn
  · rw [hv.2.2 417 (by decide) (by decide), hu.2.2.1 417 (by decide)]; exact ⟨h, g.1⟩
  · rw [hv.2.2 417 (by decide) (by decide), hu.2.2.1 417 (by decide)] at ht
    refine k _ t (YN_y ⟨pw g, hu.1⟩ ⟨(ht.2.2.1.2.1 (by omega)).2.2, acr_pre hu.2.2 (acr_of hv ht.2.1 (fV_L ht.2.2.2))⟩)
  · rw [hv.2.2 417 (by decide) (by decide), hu.2.2.1 417 (by decide)] at ht
    omega
  · exact k _ u (YN_n (fun z => by have := z.2; omega) ⟨rfl, hu.2.2⟩)
  · exact k _ s (YN_n (fun z => g ⟨z.1.1, (pl_1 h (by have := z.1.1; omega)).2 z.1.2⟩) ⟨rfl, fQ_rfl s⟩)
