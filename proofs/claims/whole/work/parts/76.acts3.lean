/-! acts: take, undo -/
theorem take_row0 {t : mSt} {k i j : Nat} {x : Int} (hk : k + 9 < 407) (z : j ≠ 11 + i) : brow (uS t (k + 6) i x) k j = brow t k j := by
  have cx : ∀ b, b ≠ k + 6 → uS t (k + 6) i x b = t b := fun b hb => uS_cell hb
  unfold brow
  rw [cx k (by omega), cx 417 (by omega), cx (k + 1) (by omega), cx (k + 2) (by omega), cx (k + 3) (by omega), cx (k + 4) (by omega), cx (k + 5) (by omega), cx (k + 7) (by omega), uS_at]
  by_cases z1 : 11 ≤ j
  · rw [if_neg (show ¬ j - 11 = i by omega)]
  · by_cases z2 : 82 ≤ j ∧ (j < 117 ∨ 135 ≤ j)
    · omega
    · have z3 : j < 11 := by omega
      simp only [if_pos z3]
theorem upT_rc (a : Rw) (x : Int) (i c : Nat) (hi : i < 30) (hc : c < 6) (h5 : np a ≤ 5) : rc (up a (11 + i) x) a c := by
  have e3 : up a (11 + i) x 3 = a 3 := up_ne (by omega)
  have en : np (up a (11 + i) x) = np a := by unfold np; rw [e3]
  refine ⟨e3, fun p hp => ⟨?_, ?_, ?_⟩⟩
  · unfold ss; rw [up_ne (by omega)]
  · exact tm_eq (up_ne (by omega)) (up_ne (by omega))
  · unfold bg; rw [up_ne (by omega)]
theorem upT_ok {a : Rw} (h : Ok a) {x : Int} {i : Nat} (hi : i < 30) (hx : 0 ≤ x ∧ x ≤ 9) : Ok (up a (11 + i) x) := by
  refine Ok_row h (fun j hj => ?_) (up_ne (by omega)) (up_ne (by omega)) (fun c _ => up_ne (by omega)) (fun p _ => up_ne (by omega))
  unfold up
  by_cases e : j = 11 + i
  · rw [if_pos e]; right; subst e
    have l := (show ∀ i : Fin 30, loA (11 + i.val) ≤ 0 ∧ 9 ≤ hiA (11 + i.val) by decide +kernel) ⟨i, hi⟩
    try dsimp only at l
    omega
  · rw [if_neg e]; exact Or.inl rfl
theorem take_row {t : mSt} {k i : Nat} {x : Int} (h : BI t k) (hk : k + 9 < 407) (hd : ¬ t k 0 = 0) (hi : i < 30) (hx : 0 ≤ x ∧ x ≤ 9) : BI (uS t (k + 6) i x) k ∧ brow (uS t (k + 6) i x) k = up (brow t k) (11 + i) x := by
  have n5 := np_le h.1
  have ck : uS t (k + 6) i x k = t k := uS_cell (by omega)
  have cx : ∀ b, b ≠ k + 6 → uS t (k + 6) i x b = t b := fun b hb => uS_cell hb
  have e : brow (uS t (k + 6) i x) k = up (brow t k) (11 + i) x := by
    funext j
    unfold up
    by_cases z : j = 11 + i
    · subst z
      rw [if_pos rfl, ← biT (t := i) (by rw [ck]; exact hd) hi, uS_at, if_pos rfl]
    · rw [if_neg z]; exact take_row0 hk z
  refine ⟨⟨?_, ?_, ?_, ?_, ?_⟩, e⟩
  · rw [e]; exact upT_ok h.1 hi hx
  · rw [e, ck, show nc (up (brow t k) (11 + i) x) = nc (brow t k) from by unfold nc; rw [up_ne (by omega)]]; exact h.2.1
  · intro c hc
    rw [cx _ (by omega), ck, e, h.2.2.1 c hc, os_congr (fun t' _ => sat_rc (upT_rc (brow t k) x i c hi hc n5) t')]
  · intro c hc
    have en : np (up (brow t k) (11 + i) x) = np (brow t k) := by unfold np; rw [up_ne (by omega)]
    rw [cx _ (by omega), ck, e, h.2.2.2.1 c hc, os_congr (fun t' _ => kpt_rc (upT_rc (brow t k) x i c hi hc n5) (fun p hp _ => up_ne (by omega)) t')]
  · rw [ck]; exact h.2.2.2.2
theorem v135 {X : (Nat → Int) × Nat} {d : Nat} {s : mSt} {Q : mQ} {x1 : Int} {x2 : Int}
  (z1 : 0 < s 18 0 → (0 ≤ x1 ∧ x1 < 30) → x2 < 0 → Q (some (mI (-1))) s)
  (z2 : 0 < s 18 0 → (0 ≤ x1 ∧ x1 < 30) → ¬ x2 < 0 → 9 < x2 → Q (some (mI (-1))) s)
  (z3 : 0 < s 18 0 → (0 ≤ x1 ∧ x1 < 30) → ¬ x2 < 0 → ¬ 9 < x2 → 0 ≤ x1 ∧ x1 < 30)
  (z4 : 0 < s 18 0 → (0 ≤ x1 ∧ x1 < 30) → ¬ x2 < 0 → ¬ 9 < x2 → ¬ (s 24 x1.toNat) = x2 → PPq s ∧ BI s 18)
  (z5 : 0 < s 18 0 → (0 ≤ x1 ∧ x1 < 30) → ¬ x2 < 0 → ¬ 9 < x2 → ¬ (s 24 x1.toNat) = x2 → ∀ s8 : mSt, RMq s s8 → 0 ≤ x1 ∧ x1 < 30)
  (z6 : 0 < s 18 0 → (0 ≤ x1 ∧ x1 < 30) → ¬ x2 < 0 → ¬ 9 < x2 → ¬ (s 24 x1.toNat) = x2 → ∀ s8 : mSt, RMq s s8 → Q (some (mI (s8 24 x1.toNat))) (uS s8 24 x1.toNat x2))
  (z7 : 0 < s 18 0 → (0 ≤ x1 ∧ x1 < 30) → ¬ x2 < 0 → ¬ 9 < x2 → (s 24 x1.toNat) = x2 → Q (some (mI (-1))) s)
  (z8 : 0 < s 18 0 → (¬ (0 ≤ x1 ∧ x1 < 30)) → Q (some (mI (-1))) s)
  (z9 : ¬ (0 < s 18 0) → Q (some (mI (-1))) s) :
  Sp X (d + 3) 135 [mR 0, mI x1, mI x2] s Q := e135 (b135_0 (c6 (bdm rfl) (fun q1 => ⟨1, rfl, b135_12 (fun q => absurd q (by decide)) (fun _ => b135_15 (c163  (fun q2 => ⟨1, rfl, b135_19 (fun q => absurd q (by decide)) (fun _ => b135_22 (fun q3 => b135_42 (z1 q1 q2 q3)) (fun q4 => b135_26 (fun q5 => b135_42 (z2 q1 q2 q4 q5)) (fun q6 => b135_32 (z3 q1 q2 q4 q6) (fun q7 => b135_44 (c165 (z4 q1 q2 q4 q6 q7) (fun s8 q8 => ⟨rfl, b135_48 (z5 q1 q2 q4 q6 q7 s8 q8) (z5 q1 q2 q4 q6 q7 s8 q8) (z6 q1 q2 q4 q6 q7 s8 q8)⟩))) (fun q9 => b135_42 (z7 q1 q2 q4 q6 q9)))))⟩) (fun q10 => ⟨0, rfl, b135_19 (fun _ => b135_42 (z8 q1 q10)) (fun q => absurd q (by decide))⟩)))⟩) (fun q11 => ⟨0, rfl, b135_12 (fun _ => b135_42 (z9 q11)) (fun q => absurd q (by decide))⟩)))

theorem c135 {X : (Nat → Int) × Nat} {d : Nat} {s : mSt} {Q : mQ} {x1 : Int} {x2 : Int} (p1 : PPq s ∧ BI s 18) (k : ∀ (v : Int) (t : mSt), (YN (tkC (brow s 18) x1 x2) (v = brow s 18 (11 + x1.toNat) ∧ ACq s t (up (brow s 18) (11 + x1.toNat) x2)) (v = -1 ∧ t = s)) → Q (some (mI v)) t) : Sp X (d + 3) 135 [mR 0, mI x1, mI x2] s Q := by
  obtain ⟨hP, hB⟩ := p1
  have b0 := hB.2.2.2.2.1
  have e0 := brw_0 (s := s) (k := 18)
  have eT : 0 < s 18 0 → (0 ≤ x1 ∧ x1 < 30) → s 24 x1.toNat = brow s 18 (11 + x1.toNat) := fun g1 g2 => biT (k := 18) (by omega) (by omega)
  refine v135 (fun g1 g2 g3 => ?_) (fun g1 g2 g3 g4 => ?_) (fun _ g2 _ _ => g2) (fun _ _ _ _ _ => ⟨hP, hB⟩) (fun _ g2 _ _ _ _ _ => g2) (fun g1 g2 g3 g4 g5 u hu => ?_) (fun g1 g2 g3 g4 g5 => ?_) (fun g1 g2 => ?_) (fun g1 => ?_)
  · exact k _ s (YN_n (fun z => by have := z.2.2.1; omega) ⟨rfl, rfl⟩)
  · exact k _ s (YN_n (fun z => by have := z.2.2.1; omega) ⟨rfl, rfl⟩)
  · have w := rm_8 hB hu
    have c18 := hu.2.2.2 18 (by decide) (by decide) (by decide)
    have r := take_row (i := x1.toNat) (x := x2) w.1 (by decide) (by rw [c18]; omega) (by omega) (by omega)
    rw [w.2] at r
    rw [if_neg (by omega)] at e0
    rw [hu.2.2.2 24 (by decide) (by decide) (by decide), eT g1 g2]
    rw [eT g1 g2] at g5
    exact k _ _ (YN_y ⟨e0, g2, by omega, g5⟩ ⟨rfl, ac_of hu r (fun b _ hb => uS_cell (by omega))⟩)
  · rw [eT g1 g2] at g5
    exact k _ s (YN_n (fun z => z.2.2.2 g5) ⟨rfl, rfl⟩)
  · exact k _ s (YN_n (fun z => g2 z.2.1) ⟨rfl, rfl⟩)
  · rw [if_pos (by omega)] at e0
    exact k _ s (YN_n (fun z => by have := z.1; omega) ⟨rfl, rfl⟩)
theorem v260 {X : (Nat → Int) × Nat} {d : Nat} {s : mSt} {Q : mQ} {x1 : Int} {x2 : Int}
  (z1 : s 417 0 = 1 → (0 ≤ x1 ∧ x1 ≤ 29) → (0 ≤ x2 ∧ x2 ≤ 9) → 0 ≤ (w32 (11 + x1)) ∧ (w32 (11 + x1)) < 166)
  (z2 : s 417 0 = 1 → (0 ≤ x1 ∧ x1 ≤ 29) → (0 ≤ x2 ∧ x2 ≤ 9) → ¬ (s 417 (w32 (11 + x1)).toNat) = x2 → 0 ≤ s 407 37 ∧ s 407 37 ≤ 20)
  (z3 : s 417 0 = 1 → (0 ≤ x1 ∧ x1 ≤ 29) → (0 ≤ x2 ∧ x2 ≤ 9) → ¬ (s 417 (w32 (11 + x1)).toNat) = x2 → ∀ s5 : mSt, (s5 423 = kaR s ∧ s5 407 = up (s 407) 37 (if s 407 37 = 20 then 20 else s 407 37 + 1) ∧ ∀ b, b ≠ 407 → b ≠ 423 → s5 b = s b) → 0 ≤ (w32 (11 + x1)) ∧ (w32 (11 + x1)) < 166)
  (z4 : s 417 0 = 1 → (0 ≤ x1 ∧ x1 ≤ 29) → (0 ≤ x2 ∧ x2 ≤ 9) → ¬ (s 417 (w32 (11 + x1)).toNat) = x2 → ∀ s5 : mSt, (s5 423 = kaR s ∧ s5 407 = up (s 407) 37 (if s 407 37 = 20 then 20 else s 407 37 + 1) ∧ ∀ b, b ≠ 407 → b ≠ 423 → s5 b = s b) → Q (some (mI (s5 417 (w32 (11 + x1)).toNat))) (uS s5 417 ((w32 (11 + x1)).toNat) x2))
  (z5 : s 417 0 = 1 → (0 ≤ x1 ∧ x1 ≤ 29) → (0 ≤ x2 ∧ x2 ≤ 9) → (s 417 (w32 (11 + x1)).toNat) = x2 → Q (some (mI (-1))) s)
  (z6 : s 417 0 = 1 → (0 ≤ x1 ∧ x1 ≤ 29) → (¬ (0 ≤ x2 ∧ x2 ≤ 9)) → Q (some (mI (-1))) s)
  (z7 : s 417 0 = 1 → (¬ (0 ≤ x1 ∧ x1 ≤ 29)) → Q (some (mI (-1))) s)
  (z8 : ¬ (s 417 0 = 1) → Q (some (mI (-1))) s) :
  Sp X (d + 1) 260 [mR 407, mI x1, mI x2] s Q := e260 (b260_0 (c212  (fun q1 => ⟨1, rfl, b260_4 (fun q => absurd q (by decide)) (fun _ => b260_7 (c167  (fun q2 => ⟨1, rfl, b260_16 (fun q => absurd q (by decide)) (fun _ => b260_19 (c167  (fun q3 => ⟨1, rfl, b260_28 (fun q => absurd q (by decide)) (fun _ => b260_31 (z1 q1 q2 q3) (fun q4 => b260_46 (c253 (z2 q1 q2 q3 q4) (fun s5 q5 => ⟨rfl, b260_50 (z3 q1 q2 q3 q4 s5 q5) (z3 q1 q2 q3 q4 s5 q5) (z4 q1 q2 q3 q4 s5 q5)⟩))) (fun q6 => b260_44 (z5 q1 q2 q3 q6)))⟩) (fun q7 => ⟨0, rfl, b260_28 (fun _ => b260_44 (z6 q1 q2 q7)) (fun q => absurd q (by decide))⟩)))⟩) (fun q8 => ⟨0, rfl, b260_16 (fun _ => b260_44 (z7 q1 q8)) (fun q => absurd q (by decide))⟩)))⟩) (fun q9 => ⟨0, rfl, b260_4 (fun _ => b260_44 (z8 q9)) (fun q => absurd q (by decide))⟩)))

theorem c260 {X : (Nat → Int) × Nat} {d : Nat} {s : mSt} {Q : mQ} {x1 : Int} {x2 : Int} (p1 : (0 ≤ s 407 37 ∧ s 407 37 ≤ 20)) (k : ∀ (v : Int) (t : mSt), (YN (tkC (s 417) x1 x2) (v = s 417 (11 + x1.toNat) ∧ ACr s t (up (s 417) (11 + x1.toNat) x2)) (v = -1 ∧ t = s)) → Q (some (mI v)) t) : Sp X (d + 1) 260 [mR 407, mI x1, mI x2] s Q := by
  have hn := p1
  have e : (0 ≤ x1 ∧ x1 ≤ 29) → (w32 (11 + x1)).toNat = 11 + x1.toNat := fun g => wt (by omega) (by omega)
  refine v260 (fun g1 g2 g3 => by rw [w32_of (by omega)]; omega) (fun _ _ _ _ => hn) (fun g1 g2 g3 g4 u hu => by rw [w32_of (by omega)]; omega) (fun g1 g2 g3 g4 u hu => ?_) (fun g1 g2 g3 g4 => ?_) (fun g1 g2 g3 => ?_) (fun g1 g2 => ?_) (fun g1 => ?_)
  · rw [e g2] at g4 ⊢
    rw [hu.2.2 417 (by decide) (by decide)]
    refine k _ _ (YN_y ⟨g1, by omega, g3, g4⟩ ⟨rfl, acr_of (u := u) hu ?_ fV_7⟩)
    funext j; rw [uS_at, hu.2.2 417 (by decide) (by decide)]; rfl
  · rw [e g2] at g4
    exact k _ s (YN_n (fun z => z.2.2.2 g4) ⟨rfl, rfl⟩)
  · exact k _ s (YN_n (fun z => g3 z.2.2.1) ⟨rfl, rfl⟩)
  · exact k _ s (YN_n (fun z => by have := z.2.1; omega) ⟨rfl, rfl⟩)
  · exact k _ s (YN_n (fun z => g1 z.1) ⟨rfl, rfl⟩)
/-- undone -/
def UNq (s t : mSt) : Prop := (BI t 18 ∧ brow t 18 = brow s (pst s ((s 0 8).toNat - 1))) ∧ t 0 = up (s 0) 8 (s 0 8 - 1) ∧ PPq t ∧ (∀ i, i < (s 0 8).toNat - 1 → brow t (pst t i) = brow s (pst s i)) ∧ ∀ b, ¬ (b = 0 ∨ 18 ≤ b ∧ b ≤ 27) → t b = s b
theorem v136 {X : (Nat → Int) × Nat} {d : Nat} {s : mSt} {Q : mQ}
  (z1 : ¬ (s 0 8) = 0 → isBd ((uS s 0 8 (w32 ((s 0 8) - 1))) 33 ((uS s 0 8 (w32 ((s 0 8) - 1))) 0 8).toNat).toNat)
  (z2 : ¬ (s 0 8) = 0 → 0 ≤ ((uS s 0 8 (w32 ((s 0 8) - 1))) 0 8) ∧ ((uS s 0 8 (w32 ((s 0 8) - 1))) 0 8) < 20)
  (z3 : ¬ (s 0 8) = 0 → (uS s 0 8 (w32 ((s 0 8) - 1))) 33 ((uS s 0 8 (w32 ((s 0 8) - 1))) 0 8).toNat = ((((uS s 0 8 (w32 ((s 0 8) - 1))) 33 ((uS s 0 8 (w32 ((s 0 8) - 1))) 0 8).toNat).toNat : Nat) : Int))
  (z4 : ¬ (s 0 8) = 0 → ∀ t2 : mSt, t2 = uS s 0 8 (w32 ((s 0 8) - 1)) → 18 ≠ (((uS s 0 8 (w32 ((s 0 8) - 1))) 33 ((uS s 0 8 (w32 ((s 0 8) - 1))) 0 8).toNat).toNat) ∧ BI t2 (((uS s 0 8 (w32 ((s 0 8) - 1))) 33 ((uS s 0 8 (w32 ((s 0 8) - 1))) 0 8).toNat).toNat))
  (z5 : ¬ (s 0 8) = 0 → ∀ t2 : mSt, t2 = uS s 0 8 (w32 ((s 0 8) - 1)) → ∀ s3 : mSt, (BI s3 18 ∧ brow s3 18 = brow t2 (((uS s 0 8 (w32 ((s 0 8) - 1))) 33 ((uS s 0 8 (w32 ((s 0 8) - 1))) 0 8).toNat).toNat) ∧ fB t2 s3 18) → Q (some (mI (s3 0 8))) s3)
  (z6 : (s 0 8) = 0 → Q (some (mI (-1))) s) :
  Sp X (d + 2) 136 [mR 0] s Q := e136 (b136_0 (fun q1 => b136_9 (r1 := ((uS s 0 8 (w32 ((s 0 8) - 1))) 33 ((uS s 0 8 (w32 ((s 0 8) - 1))) 0 8).toNat).toNat) (z1 q1) (z2 q1) (z3 q1) (Sp_gen (fun t2 e2 => (c3 (bdm rfl) (z1 q1) (z4 q1 t2 e2) (fun s3 q3 => ⟨rfl, b136_38 (z5 q1 t2 e2 s3 q3)⟩))))) (fun q4 => b136_7 (z6 q4)))

theorem c136 {X : (Nat → Int) × Nat} {d : Nat} {s : mSt} {Q : mQ} (p1 : PPq s) (k : ∀ (v : Int) (t : mSt), (YN (¬ s 0 8 = 0) (v = s 0 8 - 1 ∧ UNq s t) (v = -1 ∧ t = s)) → Q (some (mI v)) t) : Sp X (d + 2) 136 [mR 0] s Q := by
  have hP := p1
  have hn := hP.1
  by_cases g : s 0 8 = 0
  · refine v136 (fun z => absurd g z) (fun z => absurd g z) (fun z => absurd g z) (fun z => absurd g z) (fun z => absurd g z) (fun _ => ?_)
    exact k _ s (YN_n (fun z => z g) ⟨rfl, rfl⟩)
  have c33 : ∀ x : Int, uS s 0 8 x 33 = s 33 := fun x => uS_cell (by decide)
  have c08 : uS s 0 8 (w32 (s 0 8 - 1)) 0 8 = (((s 0 8).toNat - 1 : Nat) : Int) := by rw [uS_at, if_pos rfl, w32_of (by omega)]; omega
  have b := pp_bd hP.2.1 (i := (s 0 8).toNat - 1) (by omega)
  have pe : (uS s 0 8 (w32 (s 0 8 - 1)) 33 (uS s 0 8 (w32 (s 0 8 - 1)) 0 8).toNat).toNat = pst s ((s 0 8).toNat - 1) := by rw [c08, c33, tnc]; rfl
  have hb := hP.2.2 ((s 0 8).toNat - 1) (by omega)
  have w := BI_cells (t := uS s 0 8 (w32 (s 0 8 - 1))) hb (fun x hx => uS_cell (by omega)) (uS_cell (by decide))
  refine v136 (fun _ => ?_) (fun _ => ?_) (fun _ => ?_) (fun _ t2 e2 => ?_) (fun _ t2 e2 t ht => ?_) (fun z => absurd z g)
  · rw [pe]; exact b.1
  · rw [c08]; omega
  · rw [pe, c08, c33, tnc]; exact b.2.2
  · rw [pe, e2]; exact ⟨by omega, w.1⟩
  · rw [pe, e2] at ht
    have t0 : t 0 = up (s 0) 8 (s 0 8 - 1) := by
      rw [ht.2.2 0 (by decide)]; funext j; rw [uS_at, w32_of (by omega)]; rfl
    have t8 : t 0 8 = s 0 8 - 1 := by rw [t0]; rfl
    have t33 : t 33 = s 33 := by rw [ht.2.2 33 (by decide)]; exact c33 _
    have tb : ∀ b, ¬ (b = 0 ∨ 18 ≤ b ∧ b ≤ 27) → t b = s b := fun b hb => by rw [ht.2.2 b (by omega)]; exact uS_cell (by omega)
    have q : ∀ i, i < (s 0 8).toNat - 1 → BI t (pst s i) ∧ brow t (pst s i) = brow s (pst s i) := fun i hi => by
      have bi := pp_bd hP.2.1 (i := i) (by omega)
      exact BI_cells (hP.2.2 i (by omega)) (fun x hx => tb x (by omega)) (tb 417 (by decide))
    have ep : ∀ i, pst t i = pst s i := fun i => by unfold pst; rw [t33]
    rw [t8]
    refine k _ t (YN_y g ⟨rfl, ⟨ht.1, by rw [ht.2.1]; exact w.2⟩, t0, ⟨by rw [t8]; omega, ?_, fun i hi => ?_⟩, fun i hi => by rw [ep]; exact (q i hi).2, tb⟩)
    · have := hP.2.1; unfold PPp at this ⊢; rw [t33]; exact this
    · rw [t8] at hi; rw [ep]; exact (q i (by omega)).1
