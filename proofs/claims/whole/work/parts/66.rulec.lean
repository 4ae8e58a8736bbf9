/-! rules reckoned: the class; clauses -/
def okC (y : Int) : Int := if y = 200000 then 2 else if y = 200001 then 3 else if y = 200002 then 4 else if y = 200003 then 5 else if y = 200004 then 14 else if y = 200005 then 6 else if y = 200006 then 7 else if y = 200007 then 8 else if y = 200008 then 9 else if y = 200009 then 10 else if y = 200010 then 12 else if y = 200011 then 13 else if y = 200012 then 11 else 15
def encC (y : Int) : Int := if y < 100000 then 16 * y else if y < 200000 then 1 + 16 * (y - 100000) else okC y
theorem okC_b (y : Int) : (2 ≤ okC y ∧ okC y ≤ 15) ∧ (okC y = 11 ↔ y = 200012) ∧ (¬ okC y = 15 → 200000 ≤ y ∧ y ≤ 200012) := by
  by_cases h : 200000 ≤ y ∧ y ≤ 200012
  · have := (show ∀ k : Fin 13, (2 ≤ okC (200000 + (k.val : Int)) ∧ okC (200000 + (k.val : Int)) ≤ 15) ∧ (okC (200000 + (k.val : Int)) = 11 ↔ (200000 + (k.val : Int)) = 200012) by decide +kernel) ⟨(y - 200000).toNat, by omega⟩
    simp only at this
    rw [show 200000 + (((y - 200000).toNat : Nat) : Int) = y by omega] at this
    exact ⟨this.1, this.2, fun _ => h⟩
  · have e : okC y = 15 := by
      unfold okC
      rw [if_neg (by omega), if_neg (by omega), if_neg (by omega), if_neg (by omega), if_neg (by omega), if_neg (by omega), if_neg (by omega), if_neg (by omega), if_neg (by omega), if_neg (by omega), if_neg (by omega), if_neg (by omega), if_neg (by omega)]
    rw [e]
    exact ⟨by decide, ⟨fun z => absurd z (by decide), fun z => by omega⟩, fun z => absurd rfl z⟩
theorem enc_c (y : Int) : (y < 100000 ∧ encC y = 16 * y ∧ ik (encC y) = 0 ∧ iv (encC y) = y.toNat) ∨ ((100000 ≤ y ∧ y < 200000) ∧ encC y = 1 + 16 * (y - 100000) ∧ ik (encC y) = 1 ∧ iv (encC y) = (y - 100000).toNat) ∨ (200000 ≤ y ∧ encC y = okC y ∧ ik (encC y) = okC y) := by
  unfold encC
  by_cases h1 : y < 100000
  · left; rw [if_pos h1]; refine ⟨h1, rfl, ?_, ?_⟩
    · unfold ik; omega
    · unfold iv; omega
  · right
    rw [if_neg h1]
    by_cases h2 : y < 200000
    · left; rw [if_pos h2]; refine ⟨by omega, rfl, ?_, ?_⟩
      · unfold ik; omega
      · unfold iv; omega
    · right; rw [if_neg h2]
      refine ⟨by omega, rfl, ?_⟩
      have := (okC_b y).1
      exact ik_s (by omega)
def sgC (s : mSt) (k : Nat) : Rw := fun i => encC (s (k + 1) i)
theorem v76 {X : (Nat → Int) × Nat} {d : Nat} {s : mSt} {Q : mQ} {x0 : Int} {x1 : Int} {x3 : Int}
  (z1 : x0 = 200000 → Q (some (mJ (w64 (x1 + x3)))) s)
  (z2 : x0 = 200001 → Q (some (mJ (w64 (x1 - x3)))) s)
  (z3 : x0 = 200002 → Q (some (mJ (w64 (x1 * x3)))) s)
  (z4 : x0 = 200003 → ¬ (lCmp x3 0) = 0 → x3 ≠ 0)
  (z5 : x0 = 200003 → ¬ (lCmp x3 0) = 0 → Q (some (mJ (w64 (Int.tdiv x1 x3)))) s)
  (z6 : x0 = 200003 → (lCmp x3 0) = 0 → Q (some (mJ 0)) s)
  (z7 : x0 = 200004 → ¬ (lCmp x3 0) = 0 → x3 ≠ 0)
  (z8 : x0 = 200004 → ¬ (lCmp x3 0) = 0 → Q (some (mJ (Int.tmod x1 x3))) s)
  (z9 : x0 = 200004 → (lCmp x3 0) = 0 → Q (some (mJ 0)) s)
  (z10 : x0 = 200005 → 0 ≤ (lCmp x1 x3) → Q (some (mJ 0)) s)
  (z11 : x0 = 200005 → ¬ 0 ≤ (lCmp x1 x3) → Q (some (mJ 1)) s)
  (z12 : x0 = 200006 → 0 < (lCmp x1 x3) → Q (some (mJ 0)) s)
  (z13 : x0 = 200006 → ¬ 0 < (lCmp x1 x3) → Q (some (mJ 1)) s)
  (z14 : x0 = 200007 → ¬ (lCmp x1 x3) = 0 → Q (some (mJ 0)) s)
  (z15 : x0 = 200007 → (lCmp x1 x3) = 0 → Q (some (mJ 1)) s)
  (z16 : x0 = 200008 → (lCmp x1 x3) < 0 → Q (some (mJ 0)) s)
  (z17 : x0 = 200008 → ¬ (lCmp x1 x3) < 0 → Q (some (mJ 1)) s)
  (z18 : x0 = 200009 → (lCmp x1 x3) ≤ 0 → Q (some (mJ 0)) s)
  (z19 : x0 = 200009 → ¬ (lCmp x1 x3) ≤ 0 → Q (some (mJ 1)) s)
  (z20 : x0 = 200010 → Q (some (mJ (lAnd x1 x3))) s)
  (z21 : ¬ x0 = 200000 → ¬ x0 = 200001 → ¬ x0 = 200002 → ¬ x0 = 200003 → ¬ x0 = 200004 → ¬ x0 = 200005 → ¬ x0 = 200006 → ¬ x0 = 200007 → ¬ x0 = 200008 → ¬ x0 = 200009 → ¬ x0 = 200010 → Q (some (mJ (lOr x1 x3))) s) :
  Sp X d 76 [mI x0, mJ x1, mJ x3] s Q := e76 (b76_0 (fun q1 => b76_60 (z1 q1)) (fun q2 => b76_64 (z2 q2)) (fun q3 => b76_68 (z3 q3)) (fun q4 => b76_72 (fun q5 => b76_82 (z4 q4 q5) (b76_85 (z5 q4 q5))) (fun q6 => b76_78 (b76_85 (z6 q4 q6)))) (fun q7 => b76_86 (fun q8 => b76_96 (z7 q7 q8) (b76_99 (z8 q7 q8))) (fun q9 => b76_92 (b76_99 (z9 q7 q9)))) (fun q10 => b76_100 (fun q11 => b76_110 (b76_111 (z10 q10 q11))) (fun q12 => b76_106 (b76_111 (z11 q10 q12)))) (fun q13 => b76_112 (fun q14 => b76_122 (b76_123 (z12 q13 q14))) (fun q15 => b76_118 (b76_123 (z13 q13 q15)))) (fun q16 => b76_124 (fun q17 => b76_134 (b76_135 (z14 q16 q17))) (fun q18 => b76_130 (b76_135 (z15 q16 q18)))) (fun q19 => b76_136 (fun q20 => b76_146 (b76_147 (z16 q19 q20))) (fun q21 => b76_142 (b76_147 (z17 q19 q21)))) (fun q22 => b76_148 (fun q23 => b76_158 (b76_159 (z18 q22 q23))) (fun q24 => b76_154 (b76_159 (z19 q22 q24)))) (fun q25 => b76_160 (z20 q25)) (fun q26 q27 q28 q29 q30 q31 q32 q33 q34 q35 q36 => b76_164 (z21 q26 q27 q28 q29 q30 q31 q32 q33 q34 q35 q36)))

theorem c76 {X : (Nat → Int) × Nat} {d : Nat} {s : mSt} {Q : mQ} {x0 : Int} {x1 : Int} {x3 : Int} (p1 : 200000 ≤ x0 ∧ x0 ≤ 200011) (k : Q (some (mJ (opA (okC x0) x1 x3))) s) : Sp X d 76 [mI x0, mJ x1, mJ x3] s Q := by
  refine v76 ?_ ?_ ?_ ?_ ?_ ?_ ?_ ?_ ?_ ?_ ?_ ?_ ?_ ?_ ?_ ?_ ?_ ?_ ?_ ?_ ?_
  all_goals (try simp only [lCmp_eq, lCmp_ge, lCmp_gt, lCmp_lt, lCmp_le])
  · rintro rfl; exact k
  · rintro rfl; exact k
  · rintro rfl; exact k
  · rintro rfl h; exact h
  · rintro rfl h; rw [show okC 200003 = 5 from rfl] at k; unfold opA at k; simp (config := { decide := true }) only [if_true, if_false] at k; rw [if_neg h] at k; exact k
  · rintro rfl h; rw [show okC 200003 = 5 from rfl] at k; unfold opA at k; simp (config := { decide := true }) only [if_true, if_false] at k; rw [if_pos h] at k; exact k
  · rintro rfl h; exact h
  · rintro rfl h; rw [show okC 200004 = 14 from rfl] at k; unfold opA at k; simp (config := { decide := true }) only [if_true, if_false] at k; rw [if_neg h] at k; exact k
  · rintro rfl h; rw [show okC 200004 = 14 from rfl] at k; unfold opA at k; simp (config := { decide := true }) only [if_true, if_false] at k; rw [if_pos h] at k; exact k
  · rintro rfl h; rw [show okC 200005 = 6 from rfl] at k; unfold opA at k; simp (config := { decide := true }) only [if_true, if_false] at k; rw [if_neg (by omega)] at k; exact k
  · rintro rfl h; rw [show okC 200005 = 6 from rfl] at k; unfold opA at k; simp (config := { decide := true }) only [if_true, if_false] at k; rw [if_pos (by omega)] at k; exact k
  · rintro rfl h; rw [show okC 200006 = 7 from rfl] at k; unfold opA at k; simp (config := { decide := true }) only [if_true, if_false] at k; rw [if_neg (by omega)] at k; exact k
  · rintro rfl h; rw [show okC 200006 = 7 from rfl] at k; unfold opA at k; simp (config := { decide := true }) only [if_true, if_false] at k; rw [if_pos (by omega)] at k; exact k
  · rintro rfl h; rw [show okC 200007 = 8 from rfl] at k; unfold opA at k; simp (config := { decide := true }) only [if_true, if_false] at k; rw [if_neg (by omega)] at k; exact k
  · rintro rfl h; rw [show okC 200007 = 8 from rfl] at k; unfold opA at k; simp (config := { decide := true }) only [if_true, if_false] at k; rw [if_pos (by omega)] at k; exact k
  · rintro rfl h; rw [show okC 200008 = 9 from rfl] at k; unfold opA at k; simp (config := { decide := true }) only [if_true, if_false] at k; rw [if_neg (by omega)] at k; exact k
  · rintro rfl h; rw [show okC 200008 = 9 from rfl] at k; unfold opA at k; simp (config := { decide := true }) only [if_true, if_false] at k; rw [if_pos (by omega)] at k; exact k
  · rintro rfl h; rw [show okC 200009 = 10 from rfl] at k; unfold opA at k; simp (config := { decide := true }) only [if_true, if_false] at k; rw [if_neg (by omega)] at k; exact k
  · rintro rfl h; rw [show okC 200009 = 10 from rfl] at k; unfold opA at k; simp (config := { decide := true }) only [if_true, if_false] at k; rw [if_pos (by omega)] at k; exact k
  · rintro rfl; exact k
  · intros
    have e : x0 = 200011 := by omega
    subst e
    exact k
theorem rl_b {a : Nat} (h : isRl a) : 83 ≤ a ∧ a + 3 < 107 := (show ∀ a ∈ rlL, 83 ≤ a ∧ a + 3 < 107 by decide +kernel) a h
def VKq (s : mSt) (k : Nat) (x1 x2 : Int) : Prop := (0 ≤ x1 ∧ x1 ≤ x2 ∧ x2 ≤ 400) ∧ ∃ b, WS (sgC s k) x1.toNat (x2 - x1).toNat b
theorem v75 {X : (Nat → Int) × Nat} {d : Nat} {s : mSt} {Q : mQ} {a0 : Nat} {x1 : Int} {x2 : Int} (h0 : isRl a0)
  (I6 : Int → Int → mSt → Prop) (m6 : Int → Int → mSt → Nat)
  (z1 : ∀ y5 : Int, ∀ y6 : Int, ∀ s : mSt, I6 y5 y6 s → x2 ≤ y6 → 0 ≤ y5 → Q (some (mJ (s 52 0))) s)
  (z2 : ∀ y5 : Int, ∀ y6 : Int, ∀ s : mSt, I6 y5 y6 s → x2 ≤ y6 → ¬ 0 ≤ y5 → Q (some (mJ 0)) s)
  (z3 : ∀ y5 : Int, ∀ y6 : Int, ∀ s : mSt, I6 y5 y6 s → ¬ x2 ≤ y6 → 0 ≤ y6 ∧ y6 < 400)
  (z4 : ∀ y5 : Int, ∀ y6 : Int, ∀ s : mSt, I6 y5 y6 s → ¬ x2 ≤ y6 → 200000 ≤ (s (a0 + 1) y6.toNat) → ¬ (s (a0 + 1) y6.toNat) = 200012 → y5 < 1 → I6 y5 (w32 (y6 + 1)) s ∧ m6 y5 (w32 (y6 + 1)) s < m6 y5 y6 s)
  (z5 : ∀ y5 : Int, ∀ y6 : Int, ∀ s : mSt, I6 y5 y6 s → ¬ x2 ≤ y6 → 200000 ≤ (s (a0 + 1) y6.toNat) → ¬ (s (a0 + 1) y6.toNat) = 200012 → ¬ y5 < 1 → 0 ≤ (w32 (y5 + (-1))) ∧ (w32 (y5 + (-1))) < 60)
  (z6 : ∀ y5 : Int, ∀ y6 : Int, ∀ s : mSt, I6 y5 y6 s → ¬ x2 ≤ y6 → 200000 ≤ (s (a0 + 1) y6.toNat) → ¬ (s (a0 + 1) y6.toNat) = 200012 → ¬ y5 < 1 → 0 ≤ (w32 ((w32 (y5 + (-1))) + 1)) ∧ (w32 ((w32 (y5 + (-1))) + 1)) < 60)
  (z7 : ∀ y5 : Int, ∀ y6 : Int, ∀ s : mSt, I6 y5 y6 s → ¬ x2 ≤ y6 → 200000 ≤ (s (a0 + 1) y6.toNat) → ¬ (s (a0 + 1) y6.toNat) = 200012 → ¬ y5 < 1 → 200000 ≤ (s (a0 + 1) y6.toNat) ∧ (s (a0 + 1) y6.toNat) ≤ 200011)
  (z8 : ∀ y5 : Int, ∀ y6 : Int, ∀ s : mSt, I6 y5 y6 s → ¬ x2 ≤ y6 → 200000 ≤ (s (a0 + 1) y6.toNat) → ¬ (s (a0 + 1) y6.toNat) = 200012 → ¬ y5 < 1 → ∀ t9 : mSt, t9 = uS s 52 (w32 (y5 + (-1))).toNat (opA (okC (s (a0 + 1) y6.toNat)) (s 52 (w32 (y5 + (-1))).toNat) (s 52 (w32 ((w32 (y5 + (-1))) + 1)).toNat)) → I6 (w32 (y5 + (-1))) (w32 (y6 + 1)) t9 ∧ m6 (w32 (y5 + (-1))) (w32 (y6 + 1)) t9 < m6 y5 y6 s)
  (z9 : ∀ y5 : Int, ∀ y6 : Int, ∀ s : mSt, I6 y5 y6 s → ¬ x2 ≤ y6 → 200000 ≤ (s (a0 + 1) y6.toNat) → (s (a0 + 1) y6.toNat) = 200012 → y5 < 0 → y5 < 1 → I6 y5 (w32 (y6 + 1)) s ∧ m6 y5 (w32 (y6 + 1)) s < m6 y5 y6 s)
  (z10 : ∀ y5 : Int, ∀ y6 : Int, ∀ s : mSt, I6 y5 y6 s → ¬ x2 ≤ y6 → 200000 ≤ (s (a0 + 1) y6.toNat) → (s (a0 + 1) y6.toNat) = 200012 → y5 < 0 → ¬ y5 < 1 → 0 ≤ (w32 (y5 + (-1))) ∧ (w32 (y5 + (-1))) < 60)
  (z11 : ∀ y5 : Int, ∀ y6 : Int, ∀ s : mSt, I6 y5 y6 s → ¬ x2 ≤ y6 → 200000 ≤ (s (a0 + 1) y6.toNat) → (s (a0 + 1) y6.toNat) = 200012 → y5 < 0 → ¬ y5 < 1 → 0 ≤ (w32 ((w32 (y5 + (-1))) + 1)) ∧ (w32 ((w32 (y5 + (-1))) + 1)) < 60)
  (z12 : ∀ y5 : Int, ∀ y6 : Int, ∀ s : mSt, I6 y5 y6 s → ¬ x2 ≤ y6 → 200000 ≤ (s (a0 + 1) y6.toNat) → (s (a0 + 1) y6.toNat) = 200012 → y5 < 0 → ¬ y5 < 1 → 200000 ≤ (s (a0 + 1) y6.toNat) ∧ (s (a0 + 1) y6.toNat) ≤ 200011)
  (z13 : ∀ y5 : Int, ∀ y6 : Int, ∀ s : mSt, I6 y5 y6 s → ¬ x2 ≤ y6 → 200000 ≤ (s (a0 + 1) y6.toNat) → (s (a0 + 1) y6.toNat) = 200012 → y5 < 0 → ¬ y5 < 1 → ∀ t14 : mSt, t14 = uS s 52 (w32 (y5 + (-1))).toNat (opA (okC (s (a0 + 1) y6.toNat)) (s 52 (w32 (y5 + (-1))).toNat) (s 52 (w32 ((w32 (y5 + (-1))) + 1)).toNat)) → I6 (w32 (y5 + (-1))) (w32 (y6 + 1)) t14 ∧ m6 (w32 (y5 + (-1))) (w32 (y6 + 1)) t14 < m6 y5 y6 s)
  (z14 : ∀ y5 : Int, ∀ y6 : Int, ∀ s : mSt, I6 y5 y6 s → ¬ x2 ≤ y6 → 200000 ≤ (s (a0 + 1) y6.toNat) → (s (a0 + 1) y6.toNat) = 200012 → ¬ y5 < 0 → 0 ≤ y5 ∧ y5 < 60)
  (z15 : ∀ y5 : Int, ∀ y6 : Int, ∀ s : mSt, I6 y5 y6 s → ¬ x2 ≤ y6 → 200000 ≤ (s (a0 + 1) y6.toNat) → (s (a0 + 1) y6.toNat) = 200012 → ¬ y5 < 0 → ∀ t16 : mSt, t16 = uS s 52 y5.toNat (w64 (1 - (s 52 y5.toNat))) → I6 y5 (w32 (y6 + 1)) t16 ∧ m6 y5 (w32 (y6 + 1)) t16 < m6 y5 y6 s)
  (z16 : ∀ y5 : Int, ∀ y6 : Int, ∀ s : mSt, I6 y5 y6 s → ¬ x2 ≤ y6 → ¬ 200000 ≤ (s (a0 + 1) y6.toNat) → 100000 ≤ (s (a0 + 1) y6.toNat) → 0 ≤ (w32 ((s (a0 + 1) y6.toNat) - 100000)) ∧ (w32 ((s (a0 + 1) y6.toNat) - 100000)) < 11)
  (z17 : ∀ y5 : Int, ∀ y6 : Int, ∀ s : mSt, I6 y5 y6 s → ¬ x2 ≤ y6 → ¬ 200000 ≤ (s (a0 + 1) y6.toNat) → 100000 ≤ (s (a0 + 1) y6.toNat) → 0 ≤ (iMin (w32 (y5 + 1)) (w32 (60 - 1))) ∧ (iMin (w32 (y5 + 1)) (w32 (60 - 1))) < 60)
  (z18 : ∀ y5 : Int, ∀ y6 : Int, ∀ s : mSt, I6 y5 y6 s → ¬ x2 ≤ y6 → ¬ 200000 ≤ (s (a0 + 1) y6.toNat) → 100000 ≤ (s (a0 + 1) y6.toNat) → ∀ t19 : mSt, t19 = uS s 52 (iMin (w32 (y5 + 1)) (w32 (60 - 1))).toNat (s 51 (w32 ((s (a0 + 1) y6.toNat) - 100000)).toNat) → I6 (iMin (w32 (y5 + 1)) (w32 (60 - 1))) (w32 (y6 + 1)) t19 ∧ m6 (iMin (w32 (y5 + 1)) (w32 (60 - 1))) (w32 (y6 + 1)) t19 < m6 y5 y6 s)
  (z19 : ∀ y5 : Int, ∀ y6 : Int, ∀ s : mSt, I6 y5 y6 s → ¬ x2 ≤ y6 → ¬ 200000 ≤ (s (a0 + 1) y6.toNat) → ¬ 100000 ≤ (s (a0 + 1) y6.toNat) → 0 ≤ (iMin (w32 (y5 + 1)) (w32 (60 - 1))) ∧ (iMin (w32 (y5 + 1)) (w32 (60 - 1))) < 60)
  (z20 : ∀ y5 : Int, ∀ y6 : Int, ∀ s : mSt, I6 y5 y6 s → ¬ x2 ≤ y6 → ¬ 200000 ≤ (s (a0 + 1) y6.toNat) → ¬ 100000 ≤ (s (a0 + 1) y6.toNat) → ∀ t21 : mSt, t21 = uS s 52 (iMin (w32 (y5 + 1)) (w32 (60 - 1))).toNat (s (a0 + 1) y6.toNat) → I6 (iMin (w32 (y5 + 1)) (w32 (60 - 1))) (w32 (y6 + 1)) t21 ∧ m6 (iMin (w32 (y5 + 1)) (w32 (60 - 1))) (w32 (y6 + 1)) t21 < m6 y5 y6 s)
  (z21 : I6 (-1) x1 s) :
  Sp X (d + 1) 75 [mR a0, mI x1, mI x2, mR 51, mR 52] s Q := by
  have L : ∀ k : Nat, (∀ (y5 : Int) (y6 : Int) (l7 : Option mV) (s : mSt), I6 y5 y6 s → m6 y5 y6 s < k → Wp X (d + 1) 75 6 [some (mR a0), some (mI x1), some (mI x2), some (mR 51), some (mR 52), some (mI y5), some (mI y6), l7] [] s Q) := by
    intro k
    induction k with
    | zero => exact fun _ _ _ _ _ h => absurd h (Nat.not_lt_zero _)
    | succ k ih => exact fun y5 y6 l7 s hI hm => b75_6 h0 (fun q1 => b75_134 h0 (fun q2 => b75_143 h0 (b75_147 h0 (z1 y5 y6 s hI q1 q2))) (fun q3 => b75_139 h0 (b75_147 h0 (z2 y5 y6 s hI q1 q3)))) (fun q4 => b75_12 h0 (z3 y5 y6 s hI q4) (fun q5 => b75_70 h0 (fun q6 => b75_97 h0 (fun q7 => b75_128 h0 (ih y5 (w32 (y6 + 1)) (some (mI (s (a0 + 1) y6.toNat))) s (z4 y5 y6 s hI q4 q5 q6 q7).1 (Nat.lt_of_lt_of_le (z4 y5 y6 s hI q4 q5 q6 q7).2 (Nat.le_of_lt_succ hm)))) (fun q8 => b75_103 h0 (z5 y5 y6 s hI q4 q5 q6 q8) (z6 y5 y6 s hI q4 q5 q6 q8) (c76 (z7 y5 y6 s hI q4 q5 q6 q8) ⟨_, rfl, b75_127 h0 (z5 y5 y6 s hI q4 q5 q6 q8) (Wp_gen (fun t9 e9 => b75_128 h0 (ih (w32 (y5 + (-1))) (w32 (y6 + 1)) (some (mI (s (a0 + 1) y6.toNat))) t9 (z8 y5 y6 s hI q4 q5 q6 q8 t9 e9).1 (Nat.lt_of_lt_of_le (z8 y5 y6 s hI q4 q5 q6 q8 t9 e9).2 (Nat.le_of_lt_succ hm)))))⟩))) (fun q10 => b75_77 h0 (fun q11 => b75_97 h0 (fun q12 => b75_128 h0 (ih y5 (w32 (y6 + 1)) (some (mI (s (a0 + 1) y6.toNat))) s (z9 y5 y6 s hI q4 q5 q10 q11 q12).1 (Nat.lt_of_lt_of_le (z9 y5 y6 s hI q4 q5 q10 q11 q12).2 (Nat.le_of_lt_succ hm)))) (fun q13 => b75_103 h0 (z10 y5 y6 s hI q4 q5 q10 q11 q13) (z11 y5 y6 s hI q4 q5 q10 q11 q13) (c76 (z12 y5 y6 s hI q4 q5 q10 q11 q13) ⟨_, rfl, b75_127 h0 (z10 y5 y6 s hI q4 q5 q10 q11 q13) (Wp_gen (fun t14 e14 => b75_128 h0 (ih (w32 (y5 + (-1))) (w32 (y6 + 1)) (some (mI (s (a0 + 1) y6.toNat))) t14 (z13 y5 y6 s hI q4 q5 q10 q11 q13 t14 e14).1 (Nat.lt_of_lt_of_le (z13 y5 y6 s hI q4 q5 q10 q11 q13 t14 e14).2 (Nat.le_of_lt_succ hm)))))⟩))) (fun q15 => b75_82 h0 (z14 y5 y6 s hI q4 q5 q10 q15) (z14 y5 y6 s hI q4 q5 q10 q15) (Wp_gen (fun t16 e16 => b75_128 h0 (ih y5 (w32 (y6 + 1)) (some (mI (s (a0 + 1) y6.toNat))) t16 (z15 y5 y6 s hI q4 q5 q10 q15 t16 e16).1 (Nat.lt_of_lt_of_le (z15 y5 y6 s hI q4 q5 q10 q15 t16 e16).2 (Nat.le_of_lt_succ hm)))))))) (fun q17 => b75_28 h0 (fun q18 => b75_59 h0 (z16 y5 y6 s hI q4 q17 q18) (b75_66 h0 (z17 y5 y6 s hI q4 q17 q18) (Wp_gen (fun t19 e19 => b75_128 h0 (ih (iMin (w32 (y5 + 1)) (w32 (60 - 1))) (w32 (y6 + 1)) (some (mI (s (a0 + 1) y6.toNat))) t19 (z18 y5 y6 s hI q4 q17 q18 t19 e19).1 (Nat.lt_of_lt_of_le (z18 y5 y6 s hI q4 q17 q18 t19 e19).2 (Nat.le_of_lt_succ hm))))))) (fun q20 => b75_53 h0 (b75_66 h0 (z19 y5 y6 s hI q4 q17 q20) (Wp_gen (fun t21 e21 => b75_128 h0 (ih (iMin (w32 (y5 + 1)) (w32 (60 - 1))) (w32 (y6 + 1)) (some (mI (s (a0 + 1) y6.toNat))) t21 (z20 y5 y6 s hI q4 q17 q20 t21 e21).1 (Nat.lt_of_lt_of_le (z20 y5 y6 s hI q4 q17 q20 t21 e21).2 (Nat.le_of_lt_succ hm)))))))))
  exact e75 (b75_0 h0 ((L (m6 (-1) x1 s + 1)) (-1) x1 none s z21 (Nat.lt_succ_self _)))

theorem c75 {X : (Nat → Int) × Nat} {d : Nat} {s : mSt} {Q : mQ} {a0 : Nat} {x1 : Int} {x2 : Int} (h0 : isRl a0) (p1 : VKq s a0 x1 x2) (k : ∀ (v : Int) (t : mSt), (v = evV (s 51) (sgC s a0) x1.toNat (x2 - x1).toNat ∧ (∀ b, b ≠ 52 → t b = s b)) → Q (some (mJ v)) t) : Sp X (d + 1) 75 [mR a0, mI x1, mI x2, mR 51, mR 52] s Q := by
  obtain ⟨h2, b, hW⟩ := p1
  have hrl := rl_b h0
  obtain ⟨o, rfl⟩ := nat_of h2.1
  rw [tnc] at hW k
  let n := (x2 - (o : Int)).toNat
  have hn : n = (x2 - (o : Int)).toNat := rfl
  rw [← hn] at hW k
  let P : Nat → Nat × Rw := evP (s 51) (sgC s a0) o
  have hP : ∀ j, P j = evP (s 51) (sgC s a0) o j := fun _ => rfl
  let J : Int → Int → mSt → Prop := fun y5 y6 t => ∃ j : Nat, y6 = ((o + j : Nat) : Int) ∧ j ≤ n ∧ y5 = ((P j).1 : Int) - 1 ∧ (∀ i, i < (P j).1 → t 52 i = (P j).2 i) ∧ (∀ b, b ≠ 52 → t b = s b)
  have hst := fun (j : Nat) (hj : j < n) => WS_step (fa := s 51) hW hj
  have hsg : ∀ i, sgC s a0 i = encC (s (a0 + 1) i) := fun _ => rfl
  have hs : ∀ j : Nat, P (j + 1) = (evN (encC (s (a0 + 1) (o + j))) (P j).1, evF (s 51) (encC (s (a0 + 1) (o + j))) (P j).1 (P j).2) := fun j => rfl
  have jj : ∀ y5 y6 t, J y5 y6 t → ¬ x2 ≤ y6 → ∃ j : Nat, y6 = ((o + j : Nat) : Int) ∧ j < n ∧ y5 = ((P j).1 : Int) - 1 ∧ (∀ i, i < (P j).1 → t 52 i = (P j).2 i) ∧ (∀ b, b ≠ 52 → t b = s b) := fun y5 y6 t ⟨j, e, hj, e1, e2, e3⟩ hy => ⟨j, e, by omega, e1, e2, e3⟩
  -- the three sorts of items
  have lo : ∀ j : Nat, j < n → s (a0 + 1) (o + j) < 200000 → (P j).1 < 60 ∧ 0 ≤ s (a0 + 1) (o + j) ∧ (100000 ≤ s (a0 + 1) (o + j) → s (a0 + 1) (o + j) < 100011) := fun j hj hy => by
    have w := (hst j hj).2
    rw [hsg, ← hP] at w
    rcases enc_c (s (a0 + 1) (o + j)) with ⟨c1, c2, c3, c4⟩ | ⟨c1, c2, c3, c4⟩ | ⟨c1, c2, c3⟩
    · rcases w with z | z | z
      · refine ⟨z.2.2.2, by omega, fun _ => by omega⟩
      · exfalso; rw [z.1] at c3; exact absurd c3 (by decide)
      · exfalso; rw [ik_s (by omega)] at c3; omega
    · rcases w with z | z | z
      · have := z.2.2.1 c3
        refine ⟨z.2.2.2, by omega, fun _ => by omega⟩
      · exfalso; rw [z.1] at c3; exact absurd c3 (by decide)
      · exfalso; rw [ik_s (by omega)] at c3; omega
    · omega
  have hi : ∀ j : Nat, j < n → 200000 ≤ s (a0 + 1) (o + j) → encC (s (a0 + 1) (o + j)) = okC (s (a0 + 1) (o + j)) ∧ (s (a0 + 1) (o + j) = 200012 → 1 ≤ (P j).1) ∧ (¬ s (a0 + 1) (o + j) = 200012 → 2 ≤ (P j).1 ∧ s (a0 + 1) (o + j) ≤ 200011) ∧ (P j).1 ≤ 60 := fun j hj hy => by
    have w := hst j hj
    rw [hsg, ← hP] at w
    rcases enc_c (s (a0 + 1) (o + j)) with ⟨c1, _⟩ | ⟨c1, _⟩ | ⟨c1, c2, c3⟩
    · omega
    · omega
    · have ob := okC_b (s (a0 + 1) (o + j))
      rw [c2] at w c3
      refine ⟨c2, fun e => ?_, fun e => ?_, w.1⟩
      · rcases w.2 with z | z | z
        · omega
        · exact z.2
        · have := ob.2.1.2 e; omega
      · rcases w.2 with z | z | z
        · omega
        · exact absurd (ob.2.1.1 z.1) e
        · have := ob.2.2 (by omega); omega
  have push : ∀ (j : Nat) (t u : mSt) (v : Int), j < n → (P j).1 < 60 → (∀ i, i < (P j).1 → t 52 i = (P j).2 i) → (∀ b, b ≠ 52 → t b = s b) → P (j + 1) = ((P j).1 + 1, up (P j).2 (P j).1 v) → u = uS t 52 (iMin (w32 (((P j).1 : Int) - 1 + 1)) (w32 (60 - 1))).toNat v →
      J (iMin (w32 (((P j).1 : Int) - 1 + 1)) (w32 (60 - 1))) (w32 (((o + j : Nat) : Int) + 1)) u ∧ (401 - w32 (((o + j : Nat) : Int) + 1)).toNat < (401 - ((o + j : Nat) : Int)).toNat := fun j t u v hj h60 e2 e3 e4 hu => by
    have em : iMin (w32 (((P j).1 : Int) - 1 + 1)) (w32 (60 - 1)) = ((P j).1 : Int) := by
      rw [w32_of (x := ((P j).1 : Int) - 1 + 1) (by omega), w32_of (by decide)]
      unfold iMin; rw [if_neg (by omega)]; omega
    rw [em, tnc] at hu
    rw [em, w32_of (by omega)]
    refine ⟨⟨j + 1, by omega, by omega, by rw [e4]; dsimp only; omega, fun i hi => ?_, fun b hb => ?_⟩, by omega⟩
    · rw [e4] at hi ⊢
      dsimp only at hi ⊢
      rw [hu, uS_at]
      unfold up
      by_cases z : i = (P j).1
      · rw [if_pos z, if_pos z]
      · rw [if_neg z, if_neg z]; exact e2 i (by omega)
    · rw [hu, uS_cell hb]; exact e3 b hb
  refine v75 h0 J (fun _ y _ => (401 - y).toNat) ?_ ?_ ?_ ?_ ?_ ?_ ?_ ?_ ?_ ?_ ?_ ?_ ?_ ?_ ?_ ?_ ?_ ?_ ?_ ?_ ?_
  · rintro _ _ t ⟨j, rfl, hj, rfl, e2, e3⟩ hc q
    have : j = n := by omega
    subst this
    have e0 := WS_end (fa := s 51) hW
    exact k _ t ⟨e2 0 (by rw [hP, e0]; decide), e3⟩
  · rintro _ _ t ⟨j, rfl, hj, rfl, e2, e3⟩ hc q
    have : j = n := by omega
    subst this
    have e0 := WS_end (fa := s 51) hW
    rw [hP, e0] at q
    exact absurd (show (0:Int) ≤ ((1 : Nat) : Int) - 1 by decide) q
  · intro y5 y6 t hJ hc
    obtain ⟨j, rfl, hj, rfl, e2, e3⟩ := jj _ _ t hJ hc
    omega
  · intro y5 y6 t hJ hc q q2 q3
    obtain ⟨j, rfl, hj, rfl, e2, e3⟩ := jj _ _ t hJ hc
    rw [e3 _ (by omega), tnc] at q q2
    have := (hi j hj q).2.2.1 q2
    omega
  · intro y5 y6 t hJ hc q q2 q3
    obtain ⟨j, rfl, hj, rfl, e2, e3⟩ := jj _ _ t hJ hc
    rw [e3 _ (by omega), tnc] at q q2
    have := (hi j hj q).2.2
    rw [w32_of (by omega)]; omega
  · intro y5 y6 t hJ hc q q2 q3
    obtain ⟨j, rfl, hj, rfl, e2, e3⟩ := jj _ _ t hJ hc
    rw [e3 _ (by omega), tnc] at q q2
    have := (hi j hj q).2.2
    rw [w32_of (x := ((P j).1 : Int) - 1 + -1) (by omega), w32_of (by omega)]; omega
  · intro y5 y6 t hJ hc q q2 q3
    obtain ⟨j, rfl, hj, rfl, e2, e3⟩ := jj _ _ t hJ hc
    rw [e3 _ (by omega), tnc] at q q2 ⊢
    exact ⟨q, ((hi j hj q).2.2.1 q2).2⟩
  · intro y5 y6 t hJ hc q q2 q3 u hu
    obtain ⟨j, rfl, hj, rfl, e2, e3⟩ := jj _ _ t hJ hc
    rw [e3 _ (by omega), tnc] at q q2 hu
    have w := hi j hj q
    have w2 := w.2.2.1 q2
    have ob := okC_b (s (a0 + 1) (o + j))
    rw [w32_of (x := ((P j).1 : Int) - 1 + -1) (by omega), w32_of (by omega), show ((P j).1 : Int) - 1 + -1 + 1 = (((P j).1 - 1 : Nat) : Int) by omega, show ((P j).1 : Int) - 1 + -1 = (((P j).1 - 2 : Nat) : Int) by omega, tnc, tnc, e2 _ (by omega), e2 _ (by omega)] at hu
    have hPn : P (j + 1) = ((P j).1 - 1, up (P j).2 ((P j).1 - 2) (opA (okC (s (a0 + 1) (o + j))) ((P j).2 ((P j).1 - 2)) ((P j).2 ((P j).1 - 1)))) := by
      have e := ik_s (x := okC (s (a0 + 1) (o + j))) (by omega)
      rw [hs]; unfold evN evF
      rw [w.1, e, if_neg (by omega), if_neg (fun z => q2 (ob.2.1.1 z)), if_neg (by omega), if_neg (by omega), if_neg (fun z => q2 (ob.2.1.1 z))]
    rw [w32_of (by omega), w32_of (by omega)]
    refine ⟨⟨j + 1, by omega, by omega, by rw [hPn]; dsimp only; omega, fun i hi' => ?_, fun b hb => ?_⟩, by omega⟩
    · rw [hPn] at hi' ⊢
      dsimp only at hi' ⊢
      rw [hu, uS_at]
      unfold up
      by_cases v : i = (P j).1 - 2
      · rw [if_pos v, if_pos v]
      · rw [if_neg v, if_neg v]; exact e2 i (by omega)
    · rw [hu, uS_cell hb]; exact e3 b hb
  · intro y5 y6 t hJ hc q q2 q3 q4
    obtain ⟨j, rfl, hj, rfl, e2, e3⟩ := jj _ _ t hJ hc
    rw [e3 _ (by omega), tnc] at q q2
    have := (hi j hj q).2.1 q2
    omega
  · intro y5 y6 t hJ hc q q2 q3 q4
    omega
  · intro y5 y6 t hJ hc q q2 q3 q4
    omega
  · intro y5 y6 t hJ hc q q2 q3 q4
    omega
  · intro y5 y6 t hJ hc q q2 q3 q4
    omega
  · intro y5 y6 t hJ hc q q2 q3
    obtain ⟨j, rfl, hj, rfl, e2, e3⟩ := jj _ _ t hJ hc
    rw [e3 _ (by omega), tnc] at q q2
    have := (hi j hj q).2.2.2
    omega
  · intro y5 y6 t hJ hc q q2 q3 u hu
    obtain ⟨j, rfl, hj, rfl, e2, e3⟩ := jj _ _ t hJ hc
    rw [e3 _ (by omega), tnc] at q q2
    have w := hi j hj q
    have w1 := w.2.1 q2
    rw [show ((P j).1 : Int) - 1 = (((P j).1 - 1 : Nat) : Int) by omega, tnc, e2 _ (by omega)] at hu
    have hPn : P (j + 1) = ((P j).1, up (P j).2 ((P j).1 - 1) (w64 (1 - (P j).2 ((P j).1 - 1)))) := by
      rw [hs]; unfold evN evF
      rw [w.1, q2, show ik (okC 200012) = 11 from by decide, if_neg (by decide), if_pos rfl, if_neg (by decide), if_neg (by decide), if_pos rfl]
    rw [w32_of (by omega)]
    refine ⟨⟨j + 1, by omega, by omega, by rw [hPn], fun i hi' => ?_, fun b hb => ?_⟩, by omega⟩
    · rw [hPn] at hi' ⊢
      dsimp only at hi' ⊢
      rw [hu, uS_at]
      unfold up
      by_cases v : i = (P j).1 - 1
      · rw [if_pos v, if_pos v]
      · rw [if_neg v, if_neg v]; exact e2 i (by omega)
    · rw [hu, uS_cell hb]; exact e3 b hb
  · intro y5 y6 t hJ hc q q2
    obtain ⟨j, rfl, hj, rfl, e2, e3⟩ := jj _ _ t hJ hc
    rw [e3 _ (by omega), tnc] at q q2 ⊢
    have := lo j hj (by omega)
    have := this.2.2 q2
    rw [w32_of (by omega)]; omega
  · intro y5 y6 t hJ hc q q2
    obtain ⟨j, rfl, hj, rfl, e2, e3⟩ := jj _ _ t hJ hc
    rw [e3 _ (by omega), tnc] at q q2
    have := lo j hj (by omega)
    rw [w32_of (x := ((P j).1 : Int) - 1 + 1) (by omega), w32_of (by decide)]
    unfold iMin; split <;> omega
  · intro y5 y6 t hJ hc q q2 u hu
    obtain ⟨j, rfl, hj, rfl, e2, e3⟩ := jj _ _ t hJ hc
    rw [e3 (a0 + 1) (by omega), tnc, e3 51 (by decide)] at hu
    rw [e3 _ (by omega), tnc] at q q2
    have w := lo j hj (by omega)
    have w2 := w.2.2 q2
    rw [wt (n := (s (a0 + 1) (o + j) - 100000).toNat) (by omega) (by omega)] at hu
    refine push j t u _ hj w.1 e2 e3 ?_ hu
    rw [hs]; unfold evN evF
    rcases enc_c (s (a0 + 1) (o + j)) with ⟨c1, _⟩ | ⟨c1, c2, c3, c4⟩ | ⟨c1, _⟩
    · omega
    · rw [c3, c4, if_pos (by decide), if_neg (by decide), if_pos rfl]
    · omega
  · intro y5 y6 t hJ hc q q2
    obtain ⟨j, rfl, hj, rfl, e2, e3⟩ := jj _ _ t hJ hc
    rw [e3 _ (by omega), tnc] at q q2
    have := lo j hj (by omega)
    rw [w32_of (x := ((P j).1 : Int) - 1 + 1) (by omega), w32_of (by decide)]
    unfold iMin; split <;> omega
  · intro y5 y6 t hJ hc q q2 u hu
    obtain ⟨j, rfl, hj, rfl, e2, e3⟩ := jj _ _ t hJ hc
    rw [e3 (a0 + 1) (by omega), tnc] at hu
    rw [e3 _ (by omega), tnc] at q q2
    have w := lo j hj (by omega)
    refine push j t u _ hj w.1 e2 e3 ?_ hu
    rw [hs]; unfold evN evF
    rcases enc_c (s (a0 + 1) (o + j)) with ⟨c1, c2, c3, c4⟩ | ⟨c1, _⟩ | ⟨c1, _⟩
    · rw [c3, c4, if_pos (by decide), if_pos rfl, Int.toNat_of_nonneg w.2.1]
    · omega
    · omega
  · exact ⟨0, rfl, by omega, rfl, fun i hi => absurd hi (Nat.not_lt_zero _), fun _ _ => rfl⟩
