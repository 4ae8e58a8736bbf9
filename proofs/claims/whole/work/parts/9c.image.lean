/-! images; a Board beside another row -/
theorem BI_r {s t : mSt} {k : Nat} (h : BI s k) (e : ∀ x, k ≤ x ∧ x ≤ k + 9 → t x = s x) (hr : ∀ j, 82 ≤ j → j < 166 → (j < 117 ∨ 135 ≤ j) → loA j ≤ t 417 j ∧ t 417 j ≤ hiA j) : BI t k ∧ ∀ j, brow t k j = if 82 ≤ j ∧ (j < 117 ∨ 135 ≤ j) then t 417 j else brow s k j := by
  have eb : ∀ j, brow t k j = if 82 ≤ j ∧ (j < 117 ∨ 135 ≤ j) then t 417 j else brow s k j := fun j => by
    unfold brow
    by_cases z : 82 ≤ j ∧ (j < 117 ∨ 135 ≤ j)
    · rw [if_pos z, if_pos z]
    · rw [if_neg z, if_neg z, if_neg z, e k (by omega), e (k + 1) (by omega), e (k + 2) (by omega), e (k + 3) (by omega), e (k + 4) (by omega), e (k + 5) (by omega), e (k + 6) (by omega), e (k + 7) (by omega)]
  have eo : ∀ j, (j < 82 ∨ 117 ≤ j ∧ j < 135) → brow t k j = brow s k j := fun j hj => by rw [eb, if_neg (by omega)]
  have en : np (brow t k) = np (brow s k) := by unfold np; rw [eo 3 (by omega)]
  have ec : nc (brow t k) = nc (brow s k) := by unfold nc; rw [eo 4 (by omega)]
  have n5 := np_le h.1
  have ok : Ok (brow t k) := Ok_row h.1 (fun j hj => by
    by_cases z : 82 ≤ j ∧ (j < 117 ∨ 135 ≤ j)
    · right; rw [eb, if_pos z]; exact hr j z.1 hj z.2
    · left; rw [eb, if_neg z]) (eo 3 (by omega)) (eo 4 (by omega)) (fun c hc => eo _ (by omega)) (fun p hp => eo _ (by omega))
  have rcc : ∀ c, c < 6 → rc (brow t k) (brow s k) c := fun c hc => ⟨eo 3 (by omega), fun p hp => by
    rw [en] at hp
    refine ⟨?_, tm_eq (eo _ (by omega)) (eo _ (by omega)), ?_⟩
    · unfold ss; rw [eo _ (by omega)]
    · unfold bg; rw [eo _ (by omega)]⟩
  refine ⟨⟨ok, ?_, fun c hc => ?_, fun c hc => ?_, ?_⟩, eb⟩
  · rw [ec, e k (by omega)]; exact h.2.1
  · rw [e (k + 8) (by omega), e k (by omega), h.2.2.1 c hc]
    by_cases z : bq (s k 5) c = true
    · rw [if_pos z, if_pos z]; exact os_congr (fun i _ => (sat_rc (rcc c hc) i).symm)
    · rw [if_neg z, if_neg z]
  · rw [e (k + 9) (by omega), e k (by omega), h.2.2.2.1 c hc]
    by_cases z : bq (s k 5) c = true
    · rw [if_pos z, if_pos z]; exact os_congr (fun i _ => (kpt_rc (rcc c hc) (fun p hp _ => eo _ (by have := en; omega)) i).symm)
    · rw [if_neg z, if_neg z]
  · rw [e k (by omega)]; exact h.2.2.2.2
/-- a scene is another's copy -/
def SCq (s : mSt) (k : Nat) (t : mSt) (k' : Nat) : Prop := ((BI t (k' + 1) ∧ brow t (k' + 1) = brow s (k + 1)) ∧ BI t (k' + 11) ∧ brow t (k' + 11) = brow s (k + 11)) ∧ (t (k' + 21) 0 = s (k + 21) 0 ∧ ∀ i, i < 10 → t (k' + 21 + 1) i = s (k + 21 + 1) i ∧ t (k' + 21 + 2) i = s (k + 21 + 2) i ∧ t (k' + 21 + 3) i = s (k + 21 + 3) i) ∧ (t k' 3 = s k 3 ∧ t k' 4 = s k 4)
def IMc (s : mSt) : Prop := ∀ j, j < 4 → s 32 j = ((107 + 25 * j : Nat) : Int)
theorem im_sc {j : Nat} (h : j < 4) : isSc (107 + 25 * j) := (show ∀ j : Fin 4, isSc (107 + 25 * j.val) by unfold isSc; decide +kernel) ⟨j, h⟩
theorem v161 {X : (Nat → Int) × Nat} {d : Nat} {s : mSt} {Q : mQ} {x1 : Int}
  (z1 : x1 < 0 → Q (some (mI (-1))) s)
  (z2 : ¬ x1 < 0 → x1 < 4 → isSc (s 32 x1.toNat).toNat)
  (z3 : ¬ x1 < 0 → x1 < 4 → 0 ≤ x1 ∧ x1 < 4)
  (z4 : ¬ x1 < 0 → x1 < 4 → s 32 x1.toNat = (((s 32 x1.toNat).toNat : Nat) : Int))
  (z5 : ¬ x1 < 0 → x1 < 4 → ((s 32 x1.toNat).toNat) ≠ 7 ∧ BI s (7 + 1) ∧ BI s (7 + 11))
  (z6 : ¬ x1 < 0 → x1 < 4 → ∀ s4 : mSt, (((BI s4 (((s 32 x1.toNat).toNat) + 1) ∧ brow s4 (((s 32 x1.toNat).toNat) + 1) = brow s (7 + 1)) ∧ BI s4 (((s 32 x1.toNat).toNat) + 11) ∧ brow s4 (((s 32 x1.toNat).toNat) + 11) = brow s (7 + 11)) ∧ (s4 (((s 32 x1.toNat).toNat) + 21) 0 = s (7 + 21) 0 ∧ ∀ i, i < 10 → s4 (((s 32 x1.toNat).toNat) + 21 + 1) i = s (7 + 21 + 1) i ∧ s4 (((s 32 x1.toNat).toNat) + 21 + 2) i = s (7 + 21 + 2) i ∧ s4 (((s 32 x1.toNat).toNat) + 21 + 3) i = s (7 + 21 + 3) i) ∧ (s4 ((s 32 x1.toNat).toNat) 3 = s 7 3 ∧ s4 ((s 32 x1.toNat).toNat) 4 = s 7 4) ∧ ∀ b, ¬ (((s 32 x1.toNat).toNat) ≤ b ∧ b ≤ ((s 32 x1.toNat).toNat) + 24) → s4 b = s b) → isSc (s4 32 x1.toNat).toNat)
  (z7 : ¬ x1 < 0 → x1 < 4 → ∀ s4 : mSt, (((BI s4 (((s 32 x1.toNat).toNat) + 1) ∧ brow s4 (((s 32 x1.toNat).toNat) + 1) = brow s (7 + 1)) ∧ BI s4 (((s 32 x1.toNat).toNat) + 11) ∧ brow s4 (((s 32 x1.toNat).toNat) + 11) = brow s (7 + 11)) ∧ (s4 (((s 32 x1.toNat).toNat) + 21) 0 = s (7 + 21) 0 ∧ ∀ i, i < 10 → s4 (((s 32 x1.toNat).toNat) + 21 + 1) i = s (7 + 21 + 1) i ∧ s4 (((s 32 x1.toNat).toNat) + 21 + 2) i = s (7 + 21 + 2) i ∧ s4 (((s 32 x1.toNat).toNat) + 21 + 3) i = s (7 + 21 + 3) i) ∧ (s4 ((s 32 x1.toNat).toNat) 3 = s 7 3 ∧ s4 ((s 32 x1.toNat).toNat) 4 = s 7 4) ∧ ∀ b, ¬ (((s 32 x1.toNat).toNat) ≤ b ∧ b ≤ ((s 32 x1.toNat).toNat) + 24) → s4 b = s b) → 0 ≤ x1 ∧ x1 < 4)
  (z8 : ¬ x1 < 0 → x1 < 4 → ∀ s4 : mSt, (((BI s4 (((s 32 x1.toNat).toNat) + 1) ∧ brow s4 (((s 32 x1.toNat).toNat) + 1) = brow s (7 + 1)) ∧ BI s4 (((s 32 x1.toNat).toNat) + 11) ∧ brow s4 (((s 32 x1.toNat).toNat) + 11) = brow s (7 + 11)) ∧ (s4 (((s 32 x1.toNat).toNat) + 21) 0 = s (7 + 21) 0 ∧ ∀ i, i < 10 → s4 (((s 32 x1.toNat).toNat) + 21 + 1) i = s (7 + 21 + 1) i ∧ s4 (((s 32 x1.toNat).toNat) + 21 + 2) i = s (7 + 21 + 2) i ∧ s4 (((s 32 x1.toNat).toNat) + 21 + 3) i = s (7 + 21 + 3) i) ∧ (s4 ((s 32 x1.toNat).toNat) 3 = s 7 3 ∧ s4 ((s 32 x1.toNat).toNat) 4 = s 7 4) ∧ ∀ b, ¬ (((s 32 x1.toNat).toNat) ≤ b ∧ b ≤ ((s 32 x1.toNat).toNat) + 24) → s4 b = s b) → s4 32 x1.toNat = (((s4 32 x1.toNat).toNat : Nat) : Int))
  (z9 : ¬ x1 < 0 → x1 < 4 → ∀ s4 : mSt, (((BI s4 (((s 32 x1.toNat).toNat) + 1) ∧ brow s4 (((s 32 x1.toNat).toNat) + 1) = brow s (7 + 1)) ∧ BI s4 (((s 32 x1.toNat).toNat) + 11) ∧ brow s4 (((s 32 x1.toNat).toNat) + 11) = brow s (7 + 11)) ∧ (s4 (((s 32 x1.toNat).toNat) + 21) 0 = s (7 + 21) 0 ∧ ∀ i, i < 10 → s4 (((s 32 x1.toNat).toNat) + 21 + 1) i = s (7 + 21 + 1) i ∧ s4 (((s 32 x1.toNat).toNat) + 21 + 2) i = s (7 + 21 + 2) i ∧ s4 (((s 32 x1.toNat).toNat) + 21 + 3) i = s (7 + 21 + 3) i) ∧ (s4 ((s 32 x1.toNat).toNat) 3 = s 7 3 ∧ s4 ((s 32 x1.toNat).toNat) 4 = s 7 4) ∧ ∀ b, ¬ (((s 32 x1.toNat).toNat) ≤ b ∧ b ≤ ((s 32 x1.toNat).toNat) + 24) → s4 b = s b) → Q (some (mI ((uS s4 (s4 32 x1.toNat).toNat 5 1) 18 4))) (uS s4 (s4 32 x1.toNat).toNat 5 1))
  (z10 : ¬ x1 < 0 → ¬ x1 < 4 → Q (some (mI (-1))) s) :
  Sp X (d + 3) 161 [mR 0, mI x1] s Q := e161 (b161_0 (fun q1 => b161_9 (z1 q1)) (fun q2 => b161_4 (fun q3 => b161_11 (r1 := (s 32 x1.toNat).toNat) (z2 q2 q3) (z3 q2 q3) (z4 q2 q3) (c85 (z2 q2 q3) (scm rfl) (z5 q2 q3) (fun s4 q4 => ⟨rfl, b161_24 (r1 := (s4 32 x1.toNat).toNat) (z6 q2 q3 s4 q4) (z7 q2 q3 s4 q4) (z8 q2 q3 s4 q4) (z9 q2 q3 s4 q4)⟩))) (fun q5 => b161_9 (z10 q2 q5))))

theorem v162 {X : (Nat → Int) × Nat} {d : Nat} {s : mSt} {Q : mQ} {x1 : Int}
  (z1 : x1 < 0 → Q (some (mI (-1))) s)
  (z2 : ¬ x1 < 0 → 4 ≤ x1 → Q (some (mI (-1))) s)
  (z3 : ¬ x1 < 0 → ¬ 4 ≤ x1 → isSc (s 32 x1.toNat).toNat)
  (z4 : ¬ x1 < 0 → ¬ 4 ≤ x1 → 0 ≤ x1 ∧ x1 < 4)
  (z5 : ¬ x1 < 0 → ¬ 4 ≤ x1 → s 32 x1.toNat = (((s 32 x1.toNat).toNat : Nat) : Int))
  (z6 : ¬ x1 < 0 → ¬ 4 ≤ x1 → ¬ (s (s 32 x1.toNat).toNat 5) = 0 → isSc (s 32 x1.toNat).toNat)
  (z7 : ¬ x1 < 0 → ¬ 4 ≤ x1 → ¬ (s (s 32 x1.toNat).toNat 5) = 0 → 0 ≤ x1 ∧ x1 < 4)
  (z8 : ¬ x1 < 0 → ¬ 4 ≤ x1 → ¬ (s (s 32 x1.toNat).toNat 5) = 0 → s 32 x1.toNat = (((s 32 x1.toNat).toNat : Nat) : Int))
  (z9 : ¬ x1 < 0 → ¬ 4 ≤ x1 → ¬ (s (s 32 x1.toNat).toNat 5) = 0 → 7 ≠ ((s 32 x1.toNat).toNat) ∧ BI s (((s 32 x1.toNat).toNat) + 1) ∧ BI s (((s 32 x1.toNat).toNat) + 11))
  (z10 : ¬ x1 < 0 → ¬ 4 ≤ x1 → ¬ (s (s 32 x1.toNat).toNat 5) = 0 → ∀ s6 : mSt, (((BI s6 (7 + 1) ∧ brow s6 (7 + 1) = brow s (((s 32 x1.toNat).toNat) + 1)) ∧ BI s6 (7 + 11) ∧ brow s6 (7 + 11) = brow s (((s 32 x1.toNat).toNat) + 11)) ∧ (s6 (7 + 21) 0 = s (((s 32 x1.toNat).toNat) + 21) 0 ∧ ∀ i, i < 10 → s6 (7 + 21 + 1) i = s (((s 32 x1.toNat).toNat) + 21 + 1) i ∧ s6 (7 + 21 + 2) i = s (((s 32 x1.toNat).toNat) + 21 + 2) i ∧ s6 (7 + 21 + 3) i = s (((s 32 x1.toNat).toNat) + 21 + 3) i) ∧ (s6 7 3 = s ((s 32 x1.toNat).toNat) 3 ∧ s6 7 4 = s ((s 32 x1.toNat).toNat) 4) ∧ ∀ b, ¬ (7 ≤ b ∧ b ≤ 7 + 24) → s6 b = s b) → Q (some (mI ((uS s6 0 8 0) 18 4))) (uS s6 0 8 0))
  (z11 : ¬ x1 < 0 → ¬ 4 ≤ x1 → (s (s 32 x1.toNat).toNat 5) = 0 → Q (some (mI (-1))) s) :
  Sp X (d + 3) 162 [mR 0, mI x1] s Q := e162 (b162_0 (fun q1 => b162_21 (z1 q1)) (fun q2 => b162_4 (fun q3 => b162_21 (z2 q2 q3)) (fun q4 => b162_9 (r1 := (s 32 x1.toNat).toNat) (z3 q2 q4) (z4 q2 q4) (z5 q2 q4) (fun q5 => b162_23 (r1 := (s 32 x1.toNat).toNat) (z6 q2 q4 q5) (z7 q2 q4 q5) (z8 q2 q4 q5) (c85 (scm rfl) (z6 q2 q4 q5) (z9 q2 q4 q5) (fun s6 q6 => ⟨rfl, b162_36 (z10 q2 q4 q5 s6 q6)⟩))) (fun q7 => b162_21 (z11 q2 q4 q7)))))

/-- the row of an image -/
def imR (s : mSt) (j : Nat) : Rw := fun i => if i < 166 then s 436 (166 * j + i) else s 417 i
theorem v307 {X : (Nat → Int) × Nat} {d : Nat} {s : mSt} {Q : mQ} {x1 : Int}
  (I43 : Int → mSt → Prop) (m43 : Int → mSt → Nat)
  (z1 : ∀ y2 : Int, ∀ s : mSt, I43 y2 s → 166 ≤ y2 → Q (some (mI (s 417 5))) s)
  (z2 : ∀ y2 : Int, ∀ s : mSt, I43 y2 s → ¬ 166 ≤ y2 → 0 ≤ y2 ∧ y2 < 166)
  (z3 : ∀ y2 : Int, ∀ s : mSt, I43 y2 s → ¬ 166 ≤ y2 → 0 ≤ (w32 ((w32 (166 * x1)) + y2)) ∧ (w32 ((w32 (166 * x1)) + y2)) < 664)
  (z4 : ∀ y2 : Int, ∀ s : mSt, I43 y2 s → ¬ 166 ≤ y2 → I43 (w32 (y2 + 1)) (uS s 436 ((w32 ((w32 (166 * x1)) + y2)).toNat) (s 417 y2.toNat)) ∧ m43 (w32 (y2 + 1)) (uS s 436 ((w32 ((w32 (166 * x1)) + y2)).toNat) (s 417 y2.toNat)) < m43 y2 s)
  (z5 : ((0 : Int) ≤ x1 ∧ x1 ≤ (3 : Int)) → 0 ≤ x1 ∧ x1 < 4)
  (z6 : ((0 : Int) ≤ x1 ∧ x1 ≤ (3 : Int)) → I43 0 (uS (uS (uS s 439 x1.toNat 1) 437 x1.toNat ((uS s 439 x1.toNat 1) 407 21)) 438 x1.toNat ((uS (uS s 439 x1.toNat 1) 437 x1.toNat ((uS s 439 x1.toNat 1) 407 21)) 407 22)))
  (z7 : (¬ ((0 : Int) ≤ x1 ∧ x1 ≤ (3 : Int))) → Q (some (mI (-1))) s) :
  Sp X (d + 1) 307 [mR 407, mI x1] s Q := by
  have L : ∀ k : Nat, (∀ (y2 : Int) (s : mSt), I43 y2 s → m43 y2 s < k → Wp X (d + 1) 307 43 [some (mR 407), some (mI x1), some (mI y2)] [] s Q) := by
    intro k
    induction k with
    | zero => exact fun _ _ _ h => absurd h (Nat.not_lt_zero _)
    | succ k ih => exact fun y2 s hI hm => b307_43 (fun q1 => b307_74 (z1 y2 s hI q1)) (fun q2 => b307_50 (z2 y2 s hI q2) (z3 y2 s hI q2) (ih (w32 (y2 + 1)) (uS s 436 ((w32 ((w32 (166 * x1)) + y2)).toNat) (s 417 y2.toNat)) (z4 y2 s hI q2).1 (Nat.lt_of_lt_of_le (z4 y2 s hI q2).2 (Nat.le_of_lt_succ hm))))
  exact e307 (b307_0 (c167  (fun q3 => ⟨1, rfl, b307_9 (fun _ => b307_14 (z5 q3) (z5 q3) (z5 q3) ((L (m43 0 (uS (uS (uS s 439 x1.toNat 1) 437 x1.toNat ((uS s 439 x1.toNat 1) 407 21)) 438 x1.toNat ((uS (uS s 439 x1.toNat 1) 437 x1.toNat ((uS s 439 x1.toNat 1) 407 21)) 407 22)) + 1)) 0 (uS (uS (uS s 439 x1.toNat 1) 437 x1.toNat ((uS s 439 x1.toNat 1) 407 21)) 438 x1.toNat ((uS (uS s 439 x1.toNat 1) 437 x1.toNat ((uS s 439 x1.toNat 1) 407 21)) 407 22)) (z6 q3) (Nat.lt_succ_self _))) (fun q => absurd q (by decide))⟩) (fun q4 => ⟨0, rfl, b307_9 (fun q => absurd q (by decide)) (fun _ => b307_12 (z7 q4))⟩)))

theorem c307 {X : (Nat → Int) × Nat} {d : Nat} {s : mSt} {Q : mQ} {x1 : Int} (k : ∀ (v : Int) (t : mSt), (YN (0 ≤ x1 ∧ x1 < 4) (v = s 417 5 ∧ imR t x1.toNat = s 417 ∧ (∀ j, j < 4 → j ≠ x1.toNat → imR t j = imR s j ∧ t 437 j = s 437 j ∧ t 438 j = s 438 j ∧ t 439 j = s 439 j) ∧ (t 437 x1.toNat = s 407 21 ∧ t 438 x1.toNat = s 407 22 ∧ t 439 x1.toNat = 1) ∧ ∀ b, ¬ (436 ≤ b ∧ b ≤ 439) → t b = s b) (v = -1 ∧ t = s)) → Q (some (mI v)) t) : Sp X (d + 1) 307 [mR 407, mI x1] s Q := by
  let x := x1.toNat
  have hx0 : 0 ≤ x1 ∧ x1 ≤ 3 → x1.toNat < 4 := fun h => by omega
  let G : Prop := 0 ≤ x1 ∧ x1 < 4
  have ix : ∀ i : Nat, G → i < 166 → w32 (w32 (166 * x1) + (i : Int)) = ((166 * x1.toNat + i : Nat) : Int) := fun i g hi => by
    have g' : 0 ≤ x1 ∧ x1 < 4 := g
    rw [w32_of (x := 166 * x1) (by omega), w32_of (by omega)]; omega
  let J : Int → mSt → Prop := fun y t => ∃ i : Nat, y = i ∧ i ≤ 166 ∧ G ∧ (∀ j, t 436 j = if 166 * x1.toNat ≤ j ∧ j < 166 * x1.toNat + i then s 417 (j - 166 * x1.toNat) else s 436 j) ∧ t 439 = up (s 439) x1.toNat 1 ∧ t 437 = up (s 437) x1.toNat (s 407 21) ∧ t 438 = up (s 438) x1.toNat (s 407 22) ∧ ∀ b, ¬ (436 ≤ b ∧ b ≤ 439) → t b = s b
  have upk : ∀ (q : mSt) (b i : Nat) (x : Int), uS q b i x b = up (q b) i x := fun q b i x => by funext j; rw [uS_at]; rfl
  refine v307 J (fun y _ => (166 - y).toNat) ?_ ?_ ?_ ?_ (fun g => by omega) (fun g => ?_) (fun g => k _ s (YN_n (by omega) ⟨rfl, rfl⟩))
  · rintro _ t ⟨i, rfl, hi, g, h6, h9, h7, h8, ht⟩ hc
    have : i = 166 := by omega
    subst this
    have g' : 0 ≤ x1 ∧ x1 < 4 := g
    refine k _ t (YN_y g ⟨by rw [ht 417 (by decide)], ?_, fun j hj hne => ⟨?_, ?_, ?_, ?_⟩, ⟨by rw [h7, up_at], by rw [h8, up_at], by rw [h9, up_at]⟩, ht⟩)
    · funext i
      unfold imR
      by_cases z : i < 166
      · rw [if_pos z, h6, if_pos (by omega), show 166 * x1.toNat + i - 166 * x1.toNat = i by omega]
      · rw [if_neg z, ht 417 (by decide)]
    · funext i
      unfold imR
      by_cases z : i < 166
      · rw [if_pos z, if_pos z, h6, if_neg (by omega)]
      · rw [if_neg z, if_neg z, ht 417 (by decide)]
    · rw [h7, up_ne hne]
    · rw [h8, up_ne hne]
    · rw [h9, up_ne hne]
  · rintro _ t ⟨i, rfl, hi, g, h6, h9, h7, h8, ht⟩ hc
    omega
  · rintro _ t ⟨i, rfl, hi, g, h6, h9, h7, h8, ht⟩ hc
    have g' : 0 ≤ x1 ∧ x1 < 4 := g
    rw [ix i g (by omega)]; omega
  · rintro _ t ⟨i, rfl, hi, g, h6, h9, h7, h8, ht⟩ hc
    rw [ix i g (by omega), tnc, tnc, w32_of (by omega), ht 417 (by decide)]
    refine ⟨⟨i + 1, by omega, by omega, g, fun j => ?_, by rw [uS_cell (by decide)]; exact h9, by rw [uS_cell (by decide)]; exact h7, by rw [uS_cell (by decide)]; exact h8, fun b hb => by rw [uS_cell (by omega)]; exact ht b hb⟩, by omega⟩
    rw [uS_at, h6]
    by_cases z : j = 166 * x1.toNat + i
    · rw [if_pos z, if_pos (by omega), show j - 166 * x1.toNat = i by omega]
    · rw [if_neg z]
      by_cases y : 166 * x1.toNat ≤ j ∧ j < 166 * x1.toNat + i
      · rw [if_pos y, if_pos (by omega)]
      · rw [if_neg y, if_neg (by omega)]
  · refine ⟨0, rfl, by omega, by show 0 ≤ x1 ∧ x1 < 4; omega, fun j => ?_, ?_, ?_, ?_, fun b hb => ?_⟩
    · rw [if_neg (by omega), uS_cell (by decide), uS_cell (by decide), uS_cell (by decide)]
    · rw [uS_cell (by decide), uS_cell (by decide), upk]
    · rw [uS_cell (by decide), upk, uS_cell (by decide), uS_cell (by decide)]
    · rw [upk, uS_cell (by decide), uS_cell (by decide), uS_cell (by decide), uS_cell (by decide)]
    · rw [uS_cell (by omega), uS_cell (by omega), uS_cell (by omega)]
theorem v308 {X : (Nat → Int) × Nat} {d : Nat} {s : mSt} {Q : mQ} {x1 : Int}
  (I50 : Int → mSt → Prop) (m50 : Int → mSt → Nat)
  (z1 : ∀ y2 : Int, ∀ s : mSt, I50 y2 s → 166 ≤ y2 → Q (some (mI (s 417 5))) s)
  (z2 : ∀ y2 : Int, ∀ s : mSt, I50 y2 s → ¬ 166 ≤ y2 → 0 ≤ (w32 ((w32 (166 * x1)) + y2)) ∧ (w32 ((w32 (166 * x1)) + y2)) < 664)
  (z3 : ∀ y2 : Int, ∀ s : mSt, I50 y2 s → ¬ 166 ≤ y2 → 0 ≤ y2 ∧ y2 < 166)
  (z4 : ∀ y2 : Int, ∀ s : mSt, I50 y2 s → ¬ 166 ≤ y2 → I50 (w32 (y2 + 1)) (uS s 417 y2.toNat (s 436 (w32 ((w32 (166 * x1)) + y2)).toNat)) ∧ m50 (w32 (y2 + 1)) (uS s 417 y2.toNat (s 436 (w32 ((w32 (166 * x1)) + y2)).toNat)) < m50 y2 s)
  (z5 : ((0 : Int) ≤ x1 ∧ x1 ≤ (3 : Int)) → 0 ≤ x1 ∧ x1 < 4)
  (z6 : ((0 : Int) ≤ x1 ∧ x1 ≤ (3 : Int)) → ¬ (s 439 x1.toNat) = 0 → 0 ≤ x1 ∧ x1 < 4)
  (z7 : ((0 : Int) ≤ x1 ∧ x1 ≤ (3 : Int)) → ¬ (s 439 x1.toNat) = 0 → I50 0 (uS (uS (uS s 407 21 (s 437 x1.toNat)) 407 22 ((uS s 407 21 (s 437 x1.toNat)) 438 x1.toNat)) 407 37 0))
  (z8 : ((0 : Int) ≤ x1 ∧ x1 ≤ (3 : Int)) → (s 439 x1.toNat) = 0 → Q (some (mI (-1))) s)
  (z9 : (¬ ((0 : Int) ≤ x1 ∧ x1 ≤ (3 : Int))) → Q (some (mI (-1))) s) :
  Sp X (d + 1) 308 [mR 407, mI x1] s Q := by
  have L : ∀ k : Nat, (∀ (y2 : Int) (s : mSt), I50 y2 s → m50 y2 s < k → Wp X (d + 1) 308 50 [some (mR 407), some (mI x1), some (mI y2)] [] s Q) := by
    intro k
    induction k with
    | zero => exact fun _ _ _ h => absurd h (Nat.not_lt_zero _)
    | succ k ih => exact fun y2 s hI hm => b308_50 (fun q1 => b308_81 (z1 y2 s hI q1)) (fun q2 => b308_57 (z2 y2 s hI q2) (z3 y2 s hI q2) (ih (w32 (y2 + 1)) (uS s 417 y2.toNat (s 436 (w32 ((w32 (166 * x1)) + y2)).toNat)) (z4 y2 s hI q2).1 (Nat.lt_of_lt_of_le (z4 y2 s hI q2).2 (Nat.le_of_lt_succ hm))))
  exact e308 (b308_0 (c167  (fun q3 => ⟨1, rfl, b308_9 (fun q => absurd q (by decide)) (fun _ => b308_12 (z5 q3) (fun q4 => b308_23 (z6 q3 q4) (z6 q3 q4) ((L (m50 0 (uS (uS (uS s 407 21 (s 437 x1.toNat)) 407 22 ((uS s 407 21 (s 437 x1.toNat)) 438 x1.toNat)) 407 37 0) + 1)) 0 (uS (uS (uS s 407 21 (s 437 x1.toNat)) 407 22 ((uS s 407 21 (s 437 x1.toNat)) 438 x1.toNat)) 407 37 0) (z7 q3 q4) (Nat.lt_succ_self _))) (fun q5 => b308_21 (z8 q3 q5)))⟩) (fun q6 => ⟨0, rfl, b308_9 (fun _ => b308_21 (z9 q6)) (fun q => absurd q (by decide))⟩)))

theorem c308 {X : (Nat → Int) × Nat} {d : Nat} {s : mSt} {Q : mQ} {x1 : Int} (k : ∀ (v : Int) (t : mSt), (YN ((0 ≤ x1 ∧ x1 < 4) ∧ ¬ s 439 x1.toNat = 0) (v = t 417 5 ∧ t 417 = imR s x1.toNat ∧ (t 407 21 = s 437 x1.toNat ∧ t 407 22 = s 438 x1.toNat ∧ t 407 37 = 0) ∧ (∀ j, ¬ (j = 21 ∨ j = 22 ∨ j = 37) → t 407 j = s 407 j) ∧ ∀ b, b ≠ 407 → b ≠ 417 → t b = s b) (v = -1 ∧ t = s)) → Q (some (mI v)) t) : Sp X (d + 1) 308 [mR 407, mI x1] s Q := by
  let G : Prop := (0 ≤ x1 ∧ x1 < 4) ∧ ¬ s 439 x1.toNat = 0
  have ix : ∀ i : Nat, G → i < 166 → w32 (w32 (166 * x1) + (i : Int)) = ((166 * x1.toNat + i : Nat) : Int) := fun i g hi => by
    have g' : 0 ≤ x1 ∧ x1 < 4 := g.1
    rw [w32_of (x := 166 * x1) (by omega), w32_of (by omega)]; omega
  let J : Int → mSt → Prop := fun y t => ∃ i : Nat, y = i ∧ i ≤ 166 ∧ G ∧ (∀ j, t 417 j = if j < i then s 436 (166 * x1.toNat + j) else s 417 j) ∧ (t 407 21 = s 437 x1.toNat ∧ t 407 22 = s 438 x1.toNat ∧ t 407 37 = 0) ∧ (∀ j, ¬ (j = 21 ∨ j = 22 ∨ j = 37) → t 407 j = s 407 j) ∧ ∀ b, b ≠ 407 → b ≠ 417 → t b = s b
  refine v308 J (fun y _ => (166 - y).toNat) ?_ ?_ ?_ ?_ (fun g => by omega) (fun g _ => by omega) (fun g g2 => ?_) (fun g g2 => k _ s (YN_n (fun z => z.2 g2) ⟨rfl, rfl⟩)) (fun g => k _ s (YN_n (fun z => g (by have := z.1; omega)) ⟨rfl, rfl⟩))
  · rintro _ t ⟨i, rfl, hi, g, h7, hc3, h4, ht⟩ hc
    have : i = 166 := by omega
    subst this
    refine k _ t (YN_y g ⟨rfl, ?_, hc3, h4, ht⟩)
    funext j
    rw [h7]; rfl
  · rintro _ t ⟨i, rfl, hi, g, h7, hc3, h4, ht⟩ hc
    have g' : 0 ≤ x1 ∧ x1 < 4 := g.1
    rw [ix i g (by omega)]; omega
  · rintro _ t ⟨i, rfl, hi, g, h7, hc3, h4, ht⟩ hc
    omega
  · rintro _ t ⟨i, rfl, hi, g, h7, hc3, h4, ht⟩ hc
    rw [ix i g (by omega), tnc, tnc, w32_of (by omega), ht 436 (by decide) (by decide)]
    refine ⟨⟨i + 1, by omega, by omega, g, fun j => ?_, by rw [uS_cell (by decide)]; exact hc3, by rw [uS_cell (by decide)]; exact h4, fun b g1 g2 => by rw [uS_cell g2]; exact ht b g1 g2⟩, by omega⟩
    rw [uS_at, h7]
    by_cases z : j = i
    · rw [if_pos z, if_pos (by omega), z]
    · rw [if_neg z]
      by_cases y : j < i
      · rw [if_pos y, if_pos (by omega)]
      · rw [if_neg y, if_neg (by omega)]
  · refine ⟨0, rfl, by omega, ⟨by omega, g2⟩, fun j => ?_, ⟨?_, ?_, ?_⟩, fun j hj => ?_, fun b g1 _ => ?_⟩
    · rw [if_neg (by omega), uS_cell (by decide), uS_cell (by decide), uS_cell (by decide)]
    · rw [uS_at, if_neg (by decide), uS_at, if_neg (by decide), uS_at, if_pos rfl]
    · rw [uS_at, if_neg (by decide), uS_at, if_pos rfl, uS_cell (by decide)]
    · rw [uS_at, if_pos rfl]
    · rw [uS_at, if_neg (by omega), uS_at, if_neg (by omega), uS_at, if_neg (by omega)]
    · rw [uS_cell g1, uS_cell g1, uS_cell g1]
theorem SCq_f {s t u : mSt} {k k' : Nat} (hk : isSc k') (h : SCq s k t k') (e : ∀ x, k' + 1 ≤ x ∧ x ≤ k' + 24 → u x = t x) (e3 : u k' 3 = t k' 3) (e4 : u k' 4 = t k' 4) (e7 : u 417 = t 417) : SCq s k u k' := by
  have l := sc_lt hk
  have q1 := BI_cells (t := u) h.1.1.1 (fun x hx => e x (by omega)) e7
  have q2 := BI_cells (t := u) h.1.2.1 (fun x hx => e x (by omega)) e7
  refine ⟨⟨⟨q1.1, q1.2.trans h.1.1.2⟩, q2.1, q2.2.trans h.1.2.2⟩, ⟨?_, fun i hi => ?_⟩, by rw [e3]; exact h.2.2.1, by rw [e4]; exact h.2.2.2⟩
  · rw [e _ (by omega)]; exact h.2.1.1
  · rw [e _ (by omega), e _ (by omega), e _ (by omega)]; exact h.2.1.2 i hi
theorem c161 {X : (Nat → Int) × Nat} {d : Nat} {s : mSt} {Q : mQ} {x1 : Int} (p1 : IMc s ∧ BI s 8 ∧ BI s 18) (k : ∀ (v : Int) (t : mSt), (YN (0 ≤ x1 ∧ x1 < 4) (v = s 18 4 ∧ SCq s 7 t (107 + 25 * x1.toNat) ∧ t (107 + 25 * x1.toNat) 5 = 1 ∧ ∀ b, ¬ (107 + 25 * x1.toNat ≤ b ∧ b ≤ 107 + 25 * x1.toNat + 24) → t b = s b) (v = -1 ∧ t = s)) → Q (some (mI v)) t) : Sp X (d + 3) 161 [mR 0, mI x1] s Q := by
  obtain ⟨hI, hB8, hB18⟩ := p1
  have e32 : 0 ≤ x1 ∧ x1 < 4 → s 32 x1.toNat = ((107 + 25 * x1.toNat : Nat) : Int) := fun g => hI _ (by omega)
  have t32 : 0 ≤ x1 ∧ x1 < 4 → (s 32 x1.toNat).toNat = 107 + 25 * x1.toNat := fun g => by rw [e32 g, tnc]
  refine v161 (fun g => k _ s (YN_n (by omega) ⟨rfl, rfl⟩)) (fun g1 g2 => ?_) (fun g1 g2 => by omega) (fun g1 g2 => ?_) (fun g1 g2 => ?_) (fun g1 g2 t ht => ?_) (fun g1 g2 t ht => by omega) (fun g1 g2 t ht => ?_) (fun g1 g2 t ht => ?_) (fun g1 g2 => k _ s (YN_n (by omega) ⟨rfl, rfl⟩))
  · rw [t32 (by omega)]; exact im_sc (by omega)
  · rw [e32 (by omega), tnc]
  · rw [t32 (by omega)]; exact ⟨by omega, hB8, hB18⟩
  · rw [t32 (by omega)] at ht
    rw [ht.2.2.2 32 (by omega), t32 (by omega)]; exact im_sc (by omega)
  · rw [t32 (by omega)] at ht
    rw [ht.2.2.2 32 (by omega), e32 (by omega), tnc]
  · rw [t32 (by omega)] at ht
    rw [ht.2.2.2 32 (by omega), t32 (by omega)]
    have sc := im_sc (j := x1.toNat) (by omega)
    refine k _ _ (YN_y (by omega) ⟨?_, SCq_f (t := t) sc ⟨ht.1, ht.2.1, ht.2.2.1⟩ (fun x hx => uS_cell (by omega)) ?_ ?_ (uS_cell (by omega)), ?_, fun b hb => ?_⟩)
    · rw [uS_cell (by omega), ht.2.2.2 18 (by omega)]
    · rw [uS_at, if_neg (by decide)]
    · rw [uS_at, if_neg (by decide)]
    · rw [uS_at, if_pos rfl]
    · rw [uS_cell (by omega)]; exact ht.2.2.2 b hb
theorem c162 {X : (Nat → Int) × Nat} {d : Nat} {s : mSt} {Q : mQ} {x1 : Int} (p1 : IMc s ∧ ∀ j, j < 4 → ¬ s (107 + 25 * j) 5 = 0 → BI s (107 + 25 * j + 1) ∧ BI s (107 + 25 * j + 11)) (k : ∀ (v : Int) (t : mSt), (YN ((0 ≤ x1 ∧ x1 < 4) ∧ ¬ s (107 + 25 * x1.toNat) 5 = 0) (v = t 18 4 ∧ SCq s (107 + 25 * x1.toNat) t 7 ∧ t 0 8 = 0 ∧ (∀ b, b ≠ 0 → ¬ (7 ≤ b ∧ b ≤ 31) → t b = s b) ∧ ∀ j, j ≠ 8 → t 0 j = s 0 j) (v = -1 ∧ t = s)) → Q (some (mI v)) t) : Sp X (d + 3) 162 [mR 0, mI x1] s Q := by
  obtain ⟨hI, hB⟩ := p1
  have e32 : 0 ≤ x1 ∧ x1 < 4 → s 32 x1.toNat = ((107 + 25 * x1.toNat : Nat) : Int) := fun g => hI _ (by omega)
  have t32 : 0 ≤ x1 ∧ x1 < 4 → (s 32 x1.toNat).toNat = 107 + 25 * x1.toNat := fun g => by rw [e32 g, tnc]
  refine v162 (fun g => k _ s (YN_n (fun z => by have := z.1; omega) ⟨rfl, rfl⟩)) (fun g1 g2 => k _ s (YN_n (fun z => by have := z.1; omega) ⟨rfl, rfl⟩)) (fun g1 g2 => ?_) (fun g1 g2 => by omega) (fun g1 g2 => ?_) (fun g1 g2 g3 => ?_) (fun g1 g2 g3 => by omega) (fun g1 g2 g3 => ?_) (fun g1 g2 g3 => ?_) (fun g1 g2 g3 t ht => ?_) (fun g1 g2 g3 => ?_)
  · rw [t32 (by omega)]; exact im_sc (by omega)
  · rw [e32 (by omega), tnc]
  · rw [t32 (by omega)]; exact im_sc (by omega)
  · rw [e32 (by omega), tnc]
  · rw [t32 (by omega)] at g3 ⊢
    have := hB x1.toNat (by omega) g3
    exact ⟨by omega, this⟩
  · rw [t32 (by omega)] at g3 ht
    have sc : isSc 7 := (show 7 ∈ scL by decide +kernel)
    refine k _ _ (YN_y ⟨by omega, g3⟩ ⟨rfl, SCq_f (t := t) sc ⟨ht.1, ht.2.1, ht.2.2.1⟩ (fun x hx => uS_cell (by omega)) (by rw [uS_cell (by decide)]) (by rw [uS_cell (by decide)]) (uS_cell (by decide)), by rw [uS_at, if_pos rfl], fun b g1 g2 => ?_, fun j hj => ?_⟩)
    · rw [uS_cell g1]; exact ht.2.2.2 b (by omega)
    · rw [uS_at, if_neg hj, ht.2.2.2 0 (by omega)]
  · rw [t32 (by omega)] at g3
    exact k _ s (YN_n (fun z => z.2 g3) ⟨rfl, rfl⟩)
