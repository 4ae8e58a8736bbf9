/-! turns: what is known of a candidate, who is chosen -/
def fcA (a : Rw) (c : Nat) : Rw := fun i => if i = 0 then (c : Int) else if i = 1 then cn (bq (a (117 + c))) 30 else if i = 2 then a (123 + c) else if i = 3 then a (129 + c) else if i = 4 then (pA1 a c).2.1 else if i = 5 then (pA1 a c).2.2.1 else if i = 6 then (pA1 a c).2.2.2.1 else if i = 7 then wrk a c else if i = 8 then mx (fun t => a 1 - fre a t) 30 else if i = 9 then cn (bq (wts a)) 30 else a 5
theorem evP_fa {fa fa' sg : Rw} {o n : Nat} {b : Bool} (h : WS sg o n b) (hf : ∀ i, i < 11 → fa i = fa' i) : ∀ {j : Nat}, j ≤ n → evP fa sg o j = evP fa' sg o j
  | 0, _ => rfl
  | j + 1, hj => by
    have ih := evP_fa h hf (j := j) (by omega)
    have w := (WS_step (fa := fa) h (j := j) (by omega)).2
    rw [evP, evP, ← ih]
    refine congrArg (fun x => (evN (sg (o + j)) (evP fa sg o j).1, x)) ?_
    unfold evF
    by_cases h0 : ik (sg (o + j)) = 0
    · rw [if_pos h0, if_pos h0]
    · rw [if_neg h0, if_neg h0]
      by_cases h1 : ik (sg (o + j)) = 1
      · rw [if_pos h1, if_pos h1]
        rcases w with z | z | z
        · rw [hf _ (z.2.2.1 h1)]
        · exfalso; rw [z.1] at h1; exact absurd h1 (by decide)
        · exfalso; rw [ik_s (by omega)] at h1; omega
      · rw [if_neg h1, if_neg h1]
theorem evV_fa {fa fa' sg : Rw} {o n : Nat} {b : Bool} (h : WS sg o n b) (hf : ∀ i, i < 11 → fa i = fa' i) : evV fa sg o n = evV fa' sg o n := by
  unfold evV; rw [evP_fa h hf (Nat.le_refl n)]
theorem wrF_fa {fa fa' sg : Rw} {E1 E3 : Nat → Nat} {n : Nat} (h : RV sg E1 E3 n) (hf : ∀ i, i < 11 → fa i = fa' i) : ∀ {k c : Nat}, c + k = n → wrF fa sg E1 E3 k c = wrF fa' sg E1 E3 k c
  | 0, _, _ => rfl
  | k + 1, c, hk => by
    obtain ⟨w1, w2, w3⟩ := h.2 c (by omega)
    rw [wrF, wrF, wrF_fa h hf (k := k) (c := c + 1) (by omega), evV_fa w2 hf]
    by_cases z : E3 c ≤ E1 c
    · rw [if_pos (Or.inl z), if_pos (Or.inl z)]
    · rw [evV_fa (w3 (by omega)) hf]
/-- by which number a candidate is chosen: one rule, or none -/
def ruC (s : mSt) (r : Option Nat) (a : Rw) : Nat → Int := match r with
  | none => fun _ => 1
  | some k => fun c => wrF (fcA a c) (sgC s k) (E1c s k) (E3c s k) (s k 4).toNat 0
def okP1 (a : Rw) (c : Nat) : Bool := !pl a c && decide (0 < (pA1 a c).1)
def chF (w : Nat → Int) (ok : Nat → Bool) : Nat → Int × Int
  | 0 => (-1, 0)
  | c + 1 => if ok c = true ∧ (chF w ok c).2 < w c then ((c : Int), w c) else chF w ok c
theorem chF_s (w : Nat → Int) (ok : Nat → Bool) (c : Nat) : chF w ok (c + 1) = if ok c = true ∧ (chF w ok c).2 < w c then ((c : Int), w c) else chF w ok c := rfl
theorem chF_b (w : Nat → Int) (ok : Nat → Bool) : ∀ n : Nat, -1 ≤ (chF w ok n).1 ∧ (chF w ok n).1 < n ∧ (0 ≤ (chF w ok n).1 → ok (chF w ok n).1.toNat = true) ∧ 0 ≤ (chF w ok n).2
  | 0 => ⟨(by decide : (-1:Int) ≤ -1), (by decide : (-1:Int) < 0), fun h => absurd h (by decide : ¬ (0:Int) ≤ -1), (by decide : (0:Int) ≤ 0)⟩
  | n + 1 => by
    have ih := chF_b w ok n
    rw [chF_s]
    split
    · next h => exact ⟨by dsimp only; omega, by dsimp only; omega, fun _ => by dsimp only; rw [tnc]; exact h.1, by dsimp only; omega⟩
    · exact ⟨ih.1, by omega, ih.2.2.1, ih.2.2.2⟩
theorem chF_1 (ok : Nat → Bool) : ∀ n : Nat, (chF (fun _ => 1) ok n).1 = fd ok n ∧ (fd ok n < 0 → (chF (fun _ => 1) ok n).2 = 0) ∧ (¬ fd ok n < 0 → (chF (fun _ => 1) ok n).2 = 1)
  | 0 => ⟨rfl, fun _ => rfl, fun h => absurd (show (-1 : Int) < 0 by decide) h⟩
  | n + 1 => by
    obtain ⟨i1, i2, i3⟩ := chF_1 ok n
    rw [chF_s, fd_s]
    by_cases h : fd ok n < 0
    · rw [if_pos h, i2 h]
      by_cases z : ok n = true
      · rw [if_pos ⟨z, by decide⟩, if_pos z]
        exact ⟨rfl, fun q => by omega, fun _ => rfl⟩
      · rw [if_neg (fun q => z q.1), if_neg z]
        exact ⟨by have := fd_ge (f := ok) (n := n); omega, fun _ => i2 h, fun q => absurd (show (-1 : Int) < 0 by decide) q⟩
    · rw [if_neg h, i3 h, if_neg (fun q => absurd q.2 (by decide))]
      exact ⟨i1, fun q => absurd q h, i3⟩
/-- a turn -/
def chA (w : Nat → Int) (a : Rw) : Int := (chF w (okP1 a) (nc a)).1
def stR (w : Nat → Int) (a : Rw) : Rw := up (if chA w a < 0 then a else lyR a (chA w a).toNat (pA1 a (chA w a).toNat).2.2.2.2) 5 (a 5 + 1)
theorem v118 {X : (Nat → Int) × Nat} {d : Nat} {s : mSt} {Q : mQ} {a1 : Nat} (h1 : isBd a1)
  (I2 : Int → mSt → Prop) (m2 : Int → mSt → Nat)
  (z1 : ∀ y2 : Int, ∀ s : mSt, I2 y2 s → (s a1 3) ≤ y2 → Q (some (mI (-2))) s)
  (z2 : ∀ y2 : Int, ∀ s : mSt, I2 y2 s → ¬ (s a1 3) ≤ y2 → BI s a1)
  (z3 : ∀ y2 : Int, ∀ s : mSt, I2 y2 s → ¬ (s a1 3) ≤ y2 → ((0 ≤ y2 ∧ y2 < s a1 3) ∧ ¬ pl (brow s a1) y2.toNat = true) → 0 ≤ y2 ∧ y2 < 6)
  (z4 : ∀ y2 : Int, ∀ s : mSt, I2 y2 s → ¬ (s a1 3) ≤ y2 → ((0 ≤ y2 ∧ y2 < s a1 3) ∧ ¬ pl (brow s a1) y2.toNat = true) → BI s a1 ∧ ¬ s a1 0 = 0 ∧ (0 ≤ y2 ∧ y2 < s a1 3) ∧ (0 < (s (a1 + 3) y2.toNat) ∧ (s (a1 + 3) y2.toNat) < 32) ∧ ∀ p, (s (a1 + 3) y2.toNat).toNat.testBit p = true → p < np (brow s a1))
  (z5 : ∀ y2 : Int, ∀ s : mSt, I2 y2 s → ¬ (s a1 3) ≤ y2 → ((0 ≤ y2 ∧ y2 < s a1 3) ∧ ¬ pl (brow s a1) y2.toNat = true) → ∀ s4 : mSt, (0 < (plB (brow s a1) y2.toNat (s (a1 + 3) y2.toNat).toNat).1 ∧ PB s4 (brow s a1) y2.toNat (s (a1 + 3) y2.toNat).toNat (plB (brow s a1) y2.toNat (s (a1 + 3) y2.toNat).toNat) ∧ fP s s4) → Q (some (mI y2)) s4)
  (z6 : ∀ y2 : Int, ∀ s : mSt, I2 y2 s → ¬ (s a1 3) ≤ y2 → ((0 ≤ y2 ∧ y2 < s a1 3) ∧ ¬ pl (brow s a1) y2.toNat = true) → ∀ s5 : mSt, ((plB (brow s a1) y2.toNat (s (a1 + 3) y2.toNat).toNat).1 = 0 ∧ PB s5 (brow s a1) y2.toNat (s (a1 + 3) y2.toNat).toNat (plB (brow s a1) y2.toNat (s (a1 + 3) y2.toNat).toNat) ∧ fP s s5) → I2 (w32 (y2 + 1)) s5 ∧ m2 (w32 (y2 + 1)) s5 < m2 y2 s)
  (z7 : ∀ y2 : Int, ∀ s : mSt, I2 y2 s → ¬ (s a1 3) ≤ y2 → (¬ ((0 ≤ y2 ∧ y2 < s a1 3) ∧ ¬ pl (brow s a1) y2.toNat = true)) → I2 (w32 (y2 + 1)) s ∧ m2 (w32 (y2 + 1)) s < m2 y2 s)
  (z8 : I2 0 s) :
  Sp X (d + 9) 118 [mR 50, mR a1] s Q := by
  have L : ∀ k : Nat, (∀ (y2 : Int) (s : mSt), I2 y2 s → m2 y2 s < k → Wp X (d + 9) 118 2 [some (mR 50), some (mR a1), some (mI y2)] [] s Q) := by
    intro k
    induction k with
    | zero => exact fun _ _ _ h => absurd h (Nat.not_lt_zero _)
    | succ k ih => exact fun y2 s hI hm => b118_2 h1 (fun q1 => b118_44 h1 (z1 y2 s hI q1)) (fun q2 => b118_10 h1 (c10 h1 (z2 y2 s hI q2) (fun q3 => ⟨1, rfl, b118_15 h1 (fun q => absurd q (by decide)) (fun _ => b118_18 h1 (z3 y2 s hI q2 q3) (c59 h1 (z4 y2 s hI q2 q3) (fun s4 q4 => ⟨1, rfl, b118_33 h1 (fun q => absurd q (by decide)) (fun _ => b118_36 h1 (z5 y2 s hI q2 q3 s4 q4))⟩) (fun s5 q5 => ⟨0, rfl, b118_33 h1 (fun _ => b118_38 h1 (ih (w32 (y2 + 1)) s5 (z6 y2 s hI q2 q3 s5 q5).1 (Nat.lt_of_lt_of_le (z6 y2 s hI q2 q3 s5 q5).2 (Nat.le_of_lt_succ hm)))) (fun q => absurd q (by decide))⟩)))⟩) (fun q6 => ⟨0, rfl, b118_15 h1 (fun _ => b118_38 h1 (ih (w32 (y2 + 1)) s (z7 y2 s hI q2 q6).1 (Nat.lt_of_lt_of_le (z7 y2 s hI q2 q6).2 (Nat.le_of_lt_succ hm)))) (fun q => absurd q (by decide))⟩)))
  exact e118 (b118_0 h1 ((L (m2 0 s + 1)) 0 s z8 (Nat.lt_succ_self _)))

theorem c118 {X : (Nat → Int) × Nat} {d : Nat} {s : mSt} {Q : mQ} {a1 : Nat} (h1 : isBd a1) (p1 : BI s a1) (k : ∀ (v : Int) (t : mSt), (v = (if chA (fun _ => 1) (brow s a1) < 0 then -2 else chA (fun _ => 1) (brow s a1)) ∧ fP s t) → Q (some (mI v)) t) : Sp X (d + 9) 118 [mR 50, mR a1] s Q := by
  have h4 := bi_nc p1
  have n6 := nc_le p1.1
  have hl := bd_lt h1
  have hp := bd_pl h1
  have ch : chA (fun _ => 1) (brow s a1) = fd (okP1 (brow s a1)) (nc (brow s a1)) := (chF_1 _ _).1
  rw [ch] at k
  have eM : ∀ t : mSt, fP s t → ∀ y : Int, (0 ≤ y ∧ y < s a1 3) → (t (a1 + 3) y.toNat).toNat = sM (brow s a1) y.toNat := fun t ht y hy => by
    rw [ht _ (by omega), biP p1 (by omega)]; rfl
  have ok1 : ∀ j : Nat, okP1 (brow s a1) j = true ↔ ¬ pl (brow s a1) j = true ∧ 0 < (plB (brow s a1) j (sM (brow s a1) j)).1 := fun j => by
    unfold okP1 pA1; simp
  refine v118 h1 (fun y t => ∃ j : Nat, y = j ∧ j ≤ nc (brow s a1) ∧ fd (okP1 (brow s a1)) j < 0 ∧ fP s t) (fun y _ => (6 - y).toNat) ?_ ?_ ?_ ?_ ?_ ?_ ?_ ?_
  · rintro _ t ⟨j, rfl, hj, hf, ht⟩ hc
    rw [ht a1 (by omega)] at hc
    have : j = nc (brow s a1) := by omega
    subst this
    exact k _ t ⟨by rw [if_pos hf], ht⟩
  · rintro _ t ⟨j, rfl, hj, hf, ht⟩ hc
    exact (BI_fP h1 p1 ht).1
  · rintro _ t ⟨j, rfl, hj, hf, ht⟩ hc q
    rw [ht a1 (by omega)] at hc
    omega
  · rintro _ t ⟨j, rfl, hj, hf, ht⟩ hc q
    have w := BI_fP h1 p1 ht
    rw [ht a1 (by omega)] at hc
    have m := sM_b p1.1 (c := j) (by omega)
    have e := biP p1 (c := j) (by omega)
    refine ⟨w.1, ?_, ?_, ?_, ?_⟩
    · rw [ht a1 (by omega)]; exact bi_dc p1 (by omega)
    · rw [ht a1 (by omega)]; omega
    · rw [tnc, ht (a1 + 3) (by omega), e]; omega
    · rw [w.2, eM t ht j (by omega), tnc]; exact m.2.2.2
  · rintro _ t ⟨j, rfl, hj, hf, ht⟩ hc q u hu
    have w := BI_fP h1 p1 ht
    rw [ht a1 (by omega)] at hc
    rw [w.2, eM t ht j (by omega), tnc] at hu
    rw [w.2, tnc] at q
    have hfd : fd (okP1 (brow s a1)) (nc (brow s a1)) = j := fd_eq (by omega) ((ok1 j).2 ⟨q.2, hu.1⟩) (fd_neg.1 hf)
    refine k _ u ⟨by rw [hfd, if_neg (by omega)], fun x hx => (hu.2.2 x hx).trans (ht x hx)⟩
  · rintro _ t ⟨j, rfl, hj, hf, ht⟩ hc q u hu
    have w := BI_fP h1 p1 ht
    rw [ht a1 (by omega)] at hc
    rw [w.2, eM t ht j (by omega), tnc] at hu
    rw [w32_of (by omega)]
    exact ⟨⟨j + 1, by omega, by omega, fd_sn hf (fun z => by have := ((ok1 j).1 z).2; omega), fun x hx => (hu.2.2 x hx).trans (ht x hx)⟩, by omega⟩
  · rintro _ t ⟨j, rfl, hj, hf, ht⟩ hc q
    have w := BI_fP h1 p1 ht
    rw [ht a1 (by omega)] at hc q
    rw [w.2, tnc] at q
    rw [w32_of (by omega)]
    exact ⟨⟨j + 1, by omega, by omega, fd_sn hf (fun z => q ⟨by omega, ((ok1 j).1 z).1⟩), ht⟩, by omega⟩
  · exact ⟨0, rfl, by omega, (show (-1 : Int) < 0 by decide), fun _ _ => rfl⟩
/-- the facts of one, as the class gathers them -/
def GFq (s : mSt) (k : Nat) (x : Int) : Prop := BI s k ∧ (0 ≤ x ∧ x < s k 3) ∧ 0 < (pA1 (brow s k) x.toNat).1 ∧ PB s (brow s k) x.toNat (sM (brow s k) x.toNat) (pA1 (brow s k) x.toNat)
theorem v120 {X : (Nat → Int) × Nat} {d : Nat} {s : mSt} {Q : mQ} {a1 : Nat} {x2 : Int} (h1 : isBd a1)
  (z1 : 0 ≤ x2 ∧ x2 < 6)
  (z2 : 0 ≤ ((uS s 51 0 x2) (a1 + 3) x2.toNat) ∧ ((uS s 51 0 x2) (a1 + 3) x2.toNat) < 1073741824)
  (z3 : 0 ≤ ((uS (uS (uS (uS (uS s 51 0 x2) 51 (1 : Int).toNat (cn (bq ((uS s 51 0 x2) (a1 + 3) x2.toNat)) 30)) 51 2 ((uS (uS s 51 0 x2) 51 (1 : Int).toNat (cn (bq ((uS s 51 0 x2) (a1 + 3) x2.toNat)) 30)) (a1 + 4) x2.toNat)) 51 3 ((uS (uS (uS s 51 0 x2) 51 (1 : Int).toNat (cn (bq ((uS s 51 0 x2) (a1 + 3) x2.toNat)) 30)) 51 2 ((uS (uS s 51 0 x2) 51 (1 : Int).toNat (cn (bq ((uS s 51 0 x2) (a1 + 3) x2.toNat)) 30)) (a1 + 4) x2.toNat)) (a1 + 5) x2.toNat)) 51 4 ((uS (uS (uS (uS s 51 0 x2) 51 (1 : Int).toNat (cn (bq ((uS s 51 0 x2) (a1 + 3) x2.toNat)) 30)) 51 2 ((uS (uS s 51 0 x2) 51 (1 : Int).toNat (cn (bq ((uS s 51 0 x2) (a1 + 3) x2.toNat)) 30)) (a1 + 4) x2.toNat)) 51 3 ((uS (uS (uS s 51 0 x2) 51 (1 : Int).toNat (cn (bq ((uS s 51 0 x2) (a1 + 3) x2.toNat)) 30)) 51 2 ((uS (uS s 51 0 x2) 51 (1 : Int).toNat (cn (bq ((uS s 51 0 x2) (a1 + 3) x2.toNat)) 30)) (a1 + 4) x2.toNat)) (a1 + 5) x2.toNat)) 44 7)) 44 8) ∧ ((uS (uS (uS (uS (uS s 51 0 x2) 51 (1 : Int).toNat (cn (bq ((uS s 51 0 x2) (a1 + 3) x2.toNat)) 30)) 51 2 ((uS (uS s 51 0 x2) 51 (1 : Int).toNat (cn (bq ((uS s 51 0 x2) (a1 + 3) x2.toNat)) 30)) (a1 + 4) x2.toNat)) 51 3 ((uS (uS (uS s 51 0 x2) 51 (1 : Int).toNat (cn (bq ((uS s 51 0 x2) (a1 + 3) x2.toNat)) 30)) 51 2 ((uS (uS s 51 0 x2) 51 (1 : Int).toNat (cn (bq ((uS s 51 0 x2) (a1 + 3) x2.toNat)) 30)) (a1 + 4) x2.toNat)) (a1 + 5) x2.toNat)) 51 4 ((uS (uS (uS (uS s 51 0 x2) 51 (1 : Int).toNat (cn (bq ((uS s 51 0 x2) (a1 + 3) x2.toNat)) 30)) 51 2 ((uS (uS s 51 0 x2) 51 (1 : Int).toNat (cn (bq ((uS s 51 0 x2) (a1 + 3) x2.toNat)) 30)) (a1 + 4) x2.toNat)) 51 3 ((uS (uS (uS s 51 0 x2) 51 (1 : Int).toNat (cn (bq ((uS s 51 0 x2) (a1 + 3) x2.toNat)) 30)) 51 2 ((uS (uS s 51 0 x2) 51 (1 : Int).toNat (cn (bq ((uS s 51 0 x2) (a1 + 3) x2.toNat)) 30)) (a1 + 4) x2.toNat)) (a1 + 5) x2.toNat)) 44 7)) 44 8) < 1073741824)
  (z4 : BI (uS (uS (uS (uS (uS (uS (uS s 51 0 x2) 51 (1 : Int).toNat (cn (bq ((uS s 51 0 x2) (a1 + 3) x2.toNat)) 30)) 51 2 ((uS (uS s 51 0 x2) 51 (1 : Int).toNat (cn (bq ((uS s 51 0 x2) (a1 + 3) x2.toNat)) 30)) (a1 + 4) x2.toNat)) 51 3 ((uS (uS (uS s 51 0 x2) 51 (1 : Int).toNat (cn (bq ((uS s 51 0 x2) (a1 + 3) x2.toNat)) 30)) 51 2 ((uS (uS s 51 0 x2) 51 (1 : Int).toNat (cn (bq ((uS s 51 0 x2) (a1 + 3) x2.toNat)) 30)) (a1 + 4) x2.toNat)) (a1 + 5) x2.toNat)) 51 4 ((uS (uS (uS (uS s 51 0 x2) 51 (1 : Int).toNat (cn (bq ((uS s 51 0 x2) (a1 + 3) x2.toNat)) 30)) 51 2 ((uS (uS s 51 0 x2) 51 (1 : Int).toNat (cn (bq ((uS s 51 0 x2) (a1 + 3) x2.toNat)) 30)) (a1 + 4) x2.toNat)) 51 3 ((uS (uS (uS s 51 0 x2) 51 (1 : Int).toNat (cn (bq ((uS s 51 0 x2) (a1 + 3) x2.toNat)) 30)) 51 2 ((uS (uS s 51 0 x2) 51 (1 : Int).toNat (cn (bq ((uS s 51 0 x2) (a1 + 3) x2.toNat)) 30)) (a1 + 4) x2.toNat)) (a1 + 5) x2.toNat)) 44 7)) 51 (5 : Int).toNat (cn (bq ((uS (uS (uS (uS (uS s 51 0 x2) 51 (1 : Int).toNat (cn (bq ((uS s 51 0 x2) (a1 + 3) x2.toNat)) 30)) 51 2 ((uS (uS s 51 0 x2) 51 (1 : Int).toNat (cn (bq ((uS s 51 0 x2) (a1 + 3) x2.toNat)) 30)) (a1 + 4) x2.toNat)) 51 3 ((uS (uS (uS s 51 0 x2) 51 (1 : Int).toNat (cn (bq ((uS s 51 0 x2) (a1 + 3) x2.toNat)) 30)) 51 2 ((uS (uS s 51 0 x2) 51 (1 : Int).toNat (cn (bq ((uS s 51 0 x2) (a1 + 3) x2.toNat)) 30)) (a1 + 4) x2.toNat)) (a1 + 5) x2.toNat)) 51 4 ((uS (uS (uS (uS s 51 0 x2) 51 (1 : Int).toNat (cn (bq ((uS s 51 0 x2) (a1 + 3) x2.toNat)) 30)) 51 2 ((uS (uS s 51 0 x2) 51 (1 : Int).toNat (cn (bq ((uS s 51 0 x2) (a1 + 3) x2.toNat)) 30)) (a1 + 4) x2.toNat)) 51 3 ((uS (uS (uS s 51 0 x2) 51 (1 : Int).toNat (cn (bq ((uS s 51 0 x2) (a1 + 3) x2.toNat)) 30)) 51 2 ((uS (uS s 51 0 x2) 51 (1 : Int).toNat (cn (bq ((uS s 51 0 x2) (a1 + 3) x2.toNat)) 30)) (a1 + 4) x2.toNat)) (a1 + 5) x2.toNat)) 44 7)) 44 8)) 30)) 51 6 ((uS (uS (uS (uS (uS (uS s 51 0 x2) 51 (1 : Int).toNat (cn (bq ((uS s 51 0 x2) (a1 + 3) x2.toNat)) 30)) 51 2 ((uS (uS s 51 0 x2) 51 (1 : Int).toNat (cn (bq ((uS s 51 0 x2) (a1 + 3) x2.toNat)) 30)) (a1 + 4) x2.toNat)) 51 3 ((uS (uS (uS s 51 0 x2) 51 (1 : Int).toNat (cn (bq ((uS s 51 0 x2) (a1 + 3) x2.toNat)) 30)) 51 2 ((uS (uS s 51 0 x2) 51 (1 : Int).toNat (cn (bq ((uS s 51 0 x2) (a1 + 3) x2.toNat)) 30)) (a1 + 4) x2.toNat)) (a1 + 5) x2.toNat)) 51 4 ((uS (uS (uS (uS s 51 0 x2) 51 (1 : Int).toNat (cn (bq ((uS s 51 0 x2) (a1 + 3) x2.toNat)) 30)) 51 2 ((uS (uS s 51 0 x2) 51 (1 : Int).toNat (cn (bq ((uS s 51 0 x2) (a1 + 3) x2.toNat)) 30)) (a1 + 4) x2.toNat)) 51 3 ((uS (uS (uS s 51 0 x2) 51 (1 : Int).toNat (cn (bq ((uS s 51 0 x2) (a1 + 3) x2.toNat)) 30)) 51 2 ((uS (uS s 51 0 x2) 51 (1 : Int).toNat (cn (bq ((uS s 51 0 x2) (a1 + 3) x2.toNat)) 30)) (a1 + 4) x2.toNat)) (a1 + 5) x2.toNat)) 44 7)) 51 (5 : Int).toNat (cn (bq ((uS (uS (uS (uS (uS s 51 0 x2) 51 (1 : Int).toNat (cn (bq ((uS s 51 0 x2) (a1 + 3) x2.toNat)) 30)) 51 2 ((uS (uS s 51 0 x2) 51 (1 : Int).toNat (cn (bq ((uS s 51 0 x2) (a1 + 3) x2.toNat)) 30)) (a1 + 4) x2.toNat)) 51 3 ((uS (uS (uS s 51 0 x2) 51 (1 : Int).toNat (cn (bq ((uS s 51 0 x2) (a1 + 3) x2.toNat)) 30)) 51 2 ((uS (uS s 51 0 x2) 51 (1 : Int).toNat (cn (bq ((uS s 51 0 x2) (a1 + 3) x2.toNat)) 30)) (a1 + 4) x2.toNat)) (a1 + 5) x2.toNat)) 51 4 ((uS (uS (uS (uS s 51 0 x2) 51 (1 : Int).toNat (cn (bq ((uS s 51 0 x2) (a1 + 3) x2.toNat)) 30)) 51 2 ((uS (uS s 51 0 x2) 51 (1 : Int).toNat (cn (bq ((uS s 51 0 x2) (a1 + 3) x2.toNat)) 30)) (a1 + 4) x2.toNat)) 51 3 ((uS (uS (uS s 51 0 x2) 51 (1 : Int).toNat (cn (bq ((uS s 51 0 x2) (a1 + 3) x2.toNat)) 30)) 51 2 ((uS (uS s 51 0 x2) 51 (1 : Int).toNat (cn (bq ((uS s 51 0 x2) (a1 + 3) x2.toNat)) 30)) (a1 + 4) x2.toNat)) (a1 + 5) x2.toNat)) 44 7)) 44 8)) 30)) 44 10)) a1 ∧ (0 ≤ x2 ∧ x2 < (uS (uS (uS (uS (uS (uS (uS s 51 0 x2) 51 (1 : Int).toNat (cn (bq ((uS s 51 0 x2) (a1 + 3) x2.toNat)) 30)) 51 2 ((uS (uS s 51 0 x2) 51 (1 : Int).toNat (cn (bq ((uS s 51 0 x2) (a1 + 3) x2.toNat)) 30)) (a1 + 4) x2.toNat)) 51 3 ((uS (uS (uS s 51 0 x2) 51 (1 : Int).toNat (cn (bq ((uS s 51 0 x2) (a1 + 3) x2.toNat)) 30)) 51 2 ((uS (uS s 51 0 x2) 51 (1 : Int).toNat (cn (bq ((uS s 51 0 x2) (a1 + 3) x2.toNat)) 30)) (a1 + 4) x2.toNat)) (a1 + 5) x2.toNat)) 51 4 ((uS (uS (uS (uS s 51 0 x2) 51 (1 : Int).toNat (cn (bq ((uS s 51 0 x2) (a1 + 3) x2.toNat)) 30)) 51 2 ((uS (uS s 51 0 x2) 51 (1 : Int).toNat (cn (bq ((uS s 51 0 x2) (a1 + 3) x2.toNat)) 30)) (a1 + 4) x2.toNat)) 51 3 ((uS (uS (uS s 51 0 x2) 51 (1 : Int).toNat (cn (bq ((uS s 51 0 x2) (a1 + 3) x2.toNat)) 30)) 51 2 ((uS (uS s 51 0 x2) 51 (1 : Int).toNat (cn (bq ((uS s 51 0 x2) (a1 + 3) x2.toNat)) 30)) (a1 + 4) x2.toNat)) (a1 + 5) x2.toNat)) 44 7)) 51 (5 : Int).toNat (cn (bq ((uS (uS (uS (uS (uS s 51 0 x2) 51 (1 : Int).toNat (cn (bq ((uS s 51 0 x2) (a1 + 3) x2.toNat)) 30)) 51 2 ((uS (uS s 51 0 x2) 51 (1 : Int).toNat (cn (bq ((uS s 51 0 x2) (a1 + 3) x2.toNat)) 30)) (a1 + 4) x2.toNat)) 51 3 ((uS (uS (uS s 51 0 x2) 51 (1 : Int).toNat (cn (bq ((uS s 51 0 x2) (a1 + 3) x2.toNat)) 30)) 51 2 ((uS (uS s 51 0 x2) 51 (1 : Int).toNat (cn (bq ((uS s 51 0 x2) (a1 + 3) x2.toNat)) 30)) (a1 + 4) x2.toNat)) (a1 + 5) x2.toNat)) 51 4 ((uS (uS (uS (uS s 51 0 x2) 51 (1 : Int).toNat (cn (bq ((uS s 51 0 x2) (a1 + 3) x2.toNat)) 30)) 51 2 ((uS (uS s 51 0 x2) 51 (1 : Int).toNat (cn (bq ((uS s 51 0 x2) (a1 + 3) x2.toNat)) 30)) (a1 + 4) x2.toNat)) 51 3 ((uS (uS (uS s 51 0 x2) 51 (1 : Int).toNat (cn (bq ((uS s 51 0 x2) (a1 + 3) x2.toNat)) 30)) 51 2 ((uS (uS s 51 0 x2) 51 (1 : Int).toNat (cn (bq ((uS s 51 0 x2) (a1 + 3) x2.toNat)) 30)) (a1 + 4) x2.toNat)) (a1 + 5) x2.toNat)) 44 7)) 44 8)) 30)) 51 6 ((uS (uS (uS (uS (uS (uS s 51 0 x2) 51 (1 : Int).toNat (cn (bq ((uS s 51 0 x2) (a1 + 3) x2.toNat)) 30)) 51 2 ((uS (uS s 51 0 x2) 51 (1 : Int).toNat (cn (bq ((uS s 51 0 x2) (a1 + 3) x2.toNat)) 30)) (a1 + 4) x2.toNat)) 51 3 ((uS (uS (uS s 51 0 x2) 51 (1 : Int).toNat (cn (bq ((uS s 51 0 x2) (a1 + 3) x2.toNat)) 30)) 51 2 ((uS (uS s 51 0 x2) 51 (1 : Int).toNat (cn (bq ((uS s 51 0 x2) (a1 + 3) x2.toNat)) 30)) (a1 + 4) x2.toNat)) (a1 + 5) x2.toNat)) 51 4 ((uS (uS (uS (uS s 51 0 x2) 51 (1 : Int).toNat (cn (bq ((uS s 51 0 x2) (a1 + 3) x2.toNat)) 30)) 51 2 ((uS (uS s 51 0 x2) 51 (1 : Int).toNat (cn (bq ((uS s 51 0 x2) (a1 + 3) x2.toNat)) 30)) (a1 + 4) x2.toNat)) 51 3 ((uS (uS (uS s 51 0 x2) 51 (1 : Int).toNat (cn (bq ((uS s 51 0 x2) (a1 + 3) x2.toNat)) 30)) 51 2 ((uS (uS s 51 0 x2) 51 (1 : Int).toNat (cn (bq ((uS s 51 0 x2) (a1 + 3) x2.toNat)) 30)) (a1 + 4) x2.toNat)) (a1 + 5) x2.toNat)) 44 7)) 51 (5 : Int).toNat (cn (bq ((uS (uS (uS (uS (uS s 51 0 x2) 51 (1 : Int).toNat (cn (bq ((uS s 51 0 x2) (a1 + 3) x2.toNat)) 30)) 51 2 ((uS (uS s 51 0 x2) 51 (1 : Int).toNat (cn (bq ((uS s 51 0 x2) (a1 + 3) x2.toNat)) 30)) (a1 + 4) x2.toNat)) 51 3 ((uS (uS (uS s 51 0 x2) 51 (1 : Int).toNat (cn (bq ((uS s 51 0 x2) (a1 + 3) x2.toNat)) 30)) 51 2 ((uS (uS s 51 0 x2) 51 (1 : Int).toNat (cn (bq ((uS s 51 0 x2) (a1 + 3) x2.toNat)) 30)) (a1 + 4) x2.toNat)) (a1 + 5) x2.toNat)) 51 4 ((uS (uS (uS (uS s 51 0 x2) 51 (1 : Int).toNat (cn (bq ((uS s 51 0 x2) (a1 + 3) x2.toNat)) 30)) 51 2 ((uS (uS s 51 0 x2) 51 (1 : Int).toNat (cn (bq ((uS s 51 0 x2) (a1 + 3) x2.toNat)) 30)) (a1 + 4) x2.toNat)) 51 3 ((uS (uS (uS s 51 0 x2) 51 (1 : Int).toNat (cn (bq ((uS s 51 0 x2) (a1 + 3) x2.toNat)) 30)) 51 2 ((uS (uS s 51 0 x2) 51 (1 : Int).toNat (cn (bq ((uS s 51 0 x2) (a1 + 3) x2.toNat)) 30)) (a1 + 4) x2.toNat)) (a1 + 5) x2.toNat)) 44 7)) 44 8)) 30)) 44 10)) a1 3))
  (z5 : Q none (uS (uS (uS (uS (uS (uS (uS (uS s 51 0 x2) 51 (1 : Int).toNat (cn (bq ((uS s 51 0 x2) (a1 + 3) x2.toNat)) 30)) 51 2 ((uS (uS s 51 0 x2) 51 (1 : Int).toNat (cn (bq ((uS s 51 0 x2) (a1 + 3) x2.toNat)) 30)) (a1 + 4) x2.toNat)) 51 3 ((uS (uS (uS s 51 0 x2) 51 (1 : Int).toNat (cn (bq ((uS s 51 0 x2) (a1 + 3) x2.toNat)) 30)) 51 2 ((uS (uS s 51 0 x2) 51 (1 : Int).toNat (cn (bq ((uS s 51 0 x2) (a1 + 3) x2.toNat)) 30)) (a1 + 4) x2.toNat)) (a1 + 5) x2.toNat)) 51 4 ((uS (uS (uS (uS s 51 0 x2) 51 (1 : Int).toNat (cn (bq ((uS s 51 0 x2) (a1 + 3) x2.toNat)) 30)) 51 2 ((uS (uS s 51 0 x2) 51 (1 : Int).toNat (cn (bq ((uS s 51 0 x2) (a1 + 3) x2.toNat)) 30)) (a1 + 4) x2.toNat)) 51 3 ((uS (uS (uS s 51 0 x2) 51 (1 : Int).toNat (cn (bq ((uS s 51 0 x2) (a1 + 3) x2.toNat)) 30)) 51 2 ((uS (uS s 51 0 x2) 51 (1 : Int).toNat (cn (bq ((uS s 51 0 x2) (a1 + 3) x2.toNat)) 30)) (a1 + 4) x2.toNat)) (a1 + 5) x2.toNat)) 44 7)) 51 (5 : Int).toNat (cn (bq ((uS (uS (uS (uS (uS s 51 0 x2) 51 (1 : Int).toNat (cn (bq ((uS s 51 0 x2) (a1 + 3) x2.toNat)) 30)) 51 2 ((uS (uS s 51 0 x2) 51 (1 : Int).toNat (cn (bq ((uS s 51 0 x2) (a1 + 3) x2.toNat)) 30)) (a1 + 4) x2.toNat)) 51 3 ((uS (uS (uS s 51 0 x2) 51 (1 : Int).toNat (cn (bq ((uS s 51 0 x2) (a1 + 3) x2.toNat)) 30)) 51 2 ((uS (uS s 51 0 x2) 51 (1 : Int).toNat (cn (bq ((uS s 51 0 x2) (a1 + 3) x2.toNat)) 30)) (a1 + 4) x2.toNat)) (a1 + 5) x2.toNat)) 51 4 ((uS (uS (uS (uS s 51 0 x2) 51 (1 : Int).toNat (cn (bq ((uS s 51 0 x2) (a1 + 3) x2.toNat)) 30)) 51 2 ((uS (uS s 51 0 x2) 51 (1 : Int).toNat (cn (bq ((uS s 51 0 x2) (a1 + 3) x2.toNat)) 30)) (a1 + 4) x2.toNat)) 51 3 ((uS (uS (uS s 51 0 x2) 51 (1 : Int).toNat (cn (bq ((uS s 51 0 x2) (a1 + 3) x2.toNat)) 30)) 51 2 ((uS (uS s 51 0 x2) 51 (1 : Int).toNat (cn (bq ((uS s 51 0 x2) (a1 + 3) x2.toNat)) 30)) (a1 + 4) x2.toNat)) (a1 + 5) x2.toNat)) 44 7)) 44 8)) 30)) 51 6 ((uS (uS (uS (uS (uS (uS s 51 0 x2) 51 (1 : Int).toNat (cn (bq ((uS s 51 0 x2) (a1 + 3) x2.toNat)) 30)) 51 2 ((uS (uS s 51 0 x2) 51 (1 : Int).toNat (cn (bq ((uS s 51 0 x2) (a1 + 3) x2.toNat)) 30)) (a1 + 4) x2.toNat)) 51 3 ((uS (uS (uS s 51 0 x2) 51 (1 : Int).toNat (cn (bq ((uS s 51 0 x2) (a1 + 3) x2.toNat)) 30)) 51 2 ((uS (uS s 51 0 x2) 51 (1 : Int).toNat (cn (bq ((uS s 51 0 x2) (a1 + 3) x2.toNat)) 30)) (a1 + 4) x2.toNat)) (a1 + 5) x2.toNat)) 51 4 ((uS (uS (uS (uS s 51 0 x2) 51 (1 : Int).toNat (cn (bq ((uS s 51 0 x2) (a1 + 3) x2.toNat)) 30)) 51 2 ((uS (uS s 51 0 x2) 51 (1 : Int).toNat (cn (bq ((uS s 51 0 x2) (a1 + 3) x2.toNat)) 30)) (a1 + 4) x2.toNat)) 51 3 ((uS (uS (uS s 51 0 x2) 51 (1 : Int).toNat (cn (bq ((uS s 51 0 x2) (a1 + 3) x2.toNat)) 30)) 51 2 ((uS (uS s 51 0 x2) 51 (1 : Int).toNat (cn (bq ((uS s 51 0 x2) (a1 + 3) x2.toNat)) 30)) (a1 + 4) x2.toNat)) (a1 + 5) x2.toNat)) 44 7)) 51 (5 : Int).toNat (cn (bq ((uS (uS (uS (uS (uS s 51 0 x2) 51 (1 : Int).toNat (cn (bq ((uS s 51 0 x2) (a1 + 3) x2.toNat)) 30)) 51 2 ((uS (uS s 51 0 x2) 51 (1 : Int).toNat (cn (bq ((uS s 51 0 x2) (a1 + 3) x2.toNat)) 30)) (a1 + 4) x2.toNat)) 51 3 ((uS (uS (uS s 51 0 x2) 51 (1 : Int).toNat (cn (bq ((uS s 51 0 x2) (a1 + 3) x2.toNat)) 30)) 51 2 ((uS (uS s 51 0 x2) 51 (1 : Int).toNat (cn (bq ((uS s 51 0 x2) (a1 + 3) x2.toNat)) 30)) (a1 + 4) x2.toNat)) (a1 + 5) x2.toNat)) 51 4 ((uS (uS (uS (uS s 51 0 x2) 51 (1 : Int).toNat (cn (bq ((uS s 51 0 x2) (a1 + 3) x2.toNat)) 30)) 51 2 ((uS (uS s 51 0 x2) 51 (1 : Int).toNat (cn (bq ((uS s 51 0 x2) (a1 + 3) x2.toNat)) 30)) (a1 + 4) x2.toNat)) 51 3 ((uS (uS (uS s 51 0 x2) 51 (1 : Int).toNat (cn (bq ((uS s 51 0 x2) (a1 + 3) x2.toNat)) 30)) 51 2 ((uS (uS s 51 0 x2) 51 (1 : Int).toNat (cn (bq ((uS s 51 0 x2) (a1 + 3) x2.toNat)) 30)) (a1 + 4) x2.toNat)) (a1 + 5) x2.toNat)) 44 7)) 44 8)) 30)) 44 10)) 51 (7 : Int).toNat (wrk (brow (uS (uS (uS (uS (uS (uS (uS s 51 0 x2) 51 (1 : Int).toNat (cn (bq ((uS s 51 0 x2) (a1 + 3) x2.toNat)) 30)) 51 2 ((uS (uS s 51 0 x2) 51 (1 : Int).toNat (cn (bq ((uS s 51 0 x2) (a1 + 3) x2.toNat)) 30)) (a1 + 4) x2.toNat)) 51 3 ((uS (uS (uS s 51 0 x2) 51 (1 : Int).toNat (cn (bq ((uS s 51 0 x2) (a1 + 3) x2.toNat)) 30)) 51 2 ((uS (uS s 51 0 x2) 51 (1 : Int).toNat (cn (bq ((uS s 51 0 x2) (a1 + 3) x2.toNat)) 30)) (a1 + 4) x2.toNat)) (a1 + 5) x2.toNat)) 51 4 ((uS (uS (uS (uS s 51 0 x2) 51 (1 : Int).toNat (cn (bq ((uS s 51 0 x2) (a1 + 3) x2.toNat)) 30)) 51 2 ((uS (uS s 51 0 x2) 51 (1 : Int).toNat (cn (bq ((uS s 51 0 x2) (a1 + 3) x2.toNat)) 30)) (a1 + 4) x2.toNat)) 51 3 ((uS (uS (uS s 51 0 x2) 51 (1 : Int).toNat (cn (bq ((uS s 51 0 x2) (a1 + 3) x2.toNat)) 30)) 51 2 ((uS (uS s 51 0 x2) 51 (1 : Int).toNat (cn (bq ((uS s 51 0 x2) (a1 + 3) x2.toNat)) 30)) (a1 + 4) x2.toNat)) (a1 + 5) x2.toNat)) 44 7)) 51 (5 : Int).toNat (cn (bq ((uS (uS (uS (uS (uS s 51 0 x2) 51 (1 : Int).toNat (cn (bq ((uS s 51 0 x2) (a1 + 3) x2.toNat)) 30)) 51 2 ((uS (uS s 51 0 x2) 51 (1 : Int).toNat (cn (bq ((uS s 51 0 x2) (a1 + 3) x2.toNat)) 30)) (a1 + 4) x2.toNat)) 51 3 ((uS (uS (uS s 51 0 x2) 51 (1 : Int).toNat (cn (bq ((uS s 51 0 x2) (a1 + 3) x2.toNat)) 30)) 51 2 ((uS (uS s 51 0 x2) 51 (1 : Int).toNat (cn (bq ((uS s 51 0 x2) (a1 + 3) x2.toNat)) 30)) (a1 + 4) x2.toNat)) (a1 + 5) x2.toNat)) 51 4 ((uS (uS (uS (uS s 51 0 x2) 51 (1 : Int).toNat (cn (bq ((uS s 51 0 x2) (a1 + 3) x2.toNat)) 30)) 51 2 ((uS (uS s 51 0 x2) 51 (1 : Int).toNat (cn (bq ((uS s 51 0 x2) (a1 + 3) x2.toNat)) 30)) (a1 + 4) x2.toNat)) 51 3 ((uS (uS (uS s 51 0 x2) 51 (1 : Int).toNat (cn (bq ((uS s 51 0 x2) (a1 + 3) x2.toNat)) 30)) 51 2 ((uS (uS s 51 0 x2) 51 (1 : Int).toNat (cn (bq ((uS s 51 0 x2) (a1 + 3) x2.toNat)) 30)) (a1 + 4) x2.toNat)) (a1 + 5) x2.toNat)) 44 7)) 44 8)) 30)) 51 6 ((uS (uS (uS (uS (uS (uS s 51 0 x2) 51 (1 : Int).toNat (cn (bq ((uS s 51 0 x2) (a1 + 3) x2.toNat)) 30)) 51 2 ((uS (uS s 51 0 x2) 51 (1 : Int).toNat (cn (bq ((uS s 51 0 x2) (a1 + 3) x2.toNat)) 30)) (a1 + 4) x2.toNat)) 51 3 ((uS (uS (uS s 51 0 x2) 51 (1 : Int).toNat (cn (bq ((uS s 51 0 x2) (a1 + 3) x2.toNat)) 30)) 51 2 ((uS (uS s 51 0 x2) 51 (1 : Int).toNat (cn (bq ((uS s 51 0 x2) (a1 + 3) x2.toNat)) 30)) (a1 + 4) x2.toNat)) (a1 + 5) x2.toNat)) 51 4 ((uS (uS (uS (uS s 51 0 x2) 51 (1 : Int).toNat (cn (bq ((uS s 51 0 x2) (a1 + 3) x2.toNat)) 30)) 51 2 ((uS (uS s 51 0 x2) 51 (1 : Int).toNat (cn (bq ((uS s 51 0 x2) (a1 + 3) x2.toNat)) 30)) (a1 + 4) x2.toNat)) 51 3 ((uS (uS (uS s 51 0 x2) 51 (1 : Int).toNat (cn (bq ((uS s 51 0 x2) (a1 + 3) x2.toNat)) 30)) 51 2 ((uS (uS s 51 0 x2) 51 (1 : Int).toNat (cn (bq ((uS s 51 0 x2) (a1 + 3) x2.toNat)) 30)) (a1 + 4) x2.toNat)) (a1 + 5) x2.toNat)) 44 7)) 51 (5 : Int).toNat (cn (bq ((uS (uS (uS (uS (uS s 51 0 x2) 51 (1 : Int).toNat (cn (bq ((uS s 51 0 x2) (a1 + 3) x2.toNat)) 30)) 51 2 ((uS (uS s 51 0 x2) 51 (1 : Int).toNat (cn (bq ((uS s 51 0 x2) (a1 + 3) x2.toNat)) 30)) (a1 + 4) x2.toNat)) 51 3 ((uS (uS (uS s 51 0 x2) 51 (1 : Int).toNat (cn (bq ((uS s 51 0 x2) (a1 + 3) x2.toNat)) 30)) 51 2 ((uS (uS s 51 0 x2) 51 (1 : Int).toNat (cn (bq ((uS s 51 0 x2) (a1 + 3) x2.toNat)) 30)) (a1 + 4) x2.toNat)) (a1 + 5) x2.toNat)) 51 4 ((uS (uS (uS (uS s 51 0 x2) 51 (1 : Int).toNat (cn (bq ((uS s 51 0 x2) (a1 + 3) x2.toNat)) 30)) 51 2 ((uS (uS s 51 0 x2) 51 (1 : Int).toNat (cn (bq ((uS s 51 0 x2) (a1 + 3) x2.toNat)) 30)) (a1 + 4) x2.toNat)) 51 3 ((uS (uS (uS s 51 0 x2) 51 (1 : Int).toNat (cn (bq ((uS s 51 0 x2) (a1 + 3) x2.toNat)) 30)) 51 2 ((uS (uS s 51 0 x2) 51 (1 : Int).toNat (cn (bq ((uS s 51 0 x2) (a1 + 3) x2.toNat)) 30)) (a1 + 4) x2.toNat)) (a1 + 5) x2.toNat)) 44 7)) 44 8)) 30)) 44 10)) a1) x2.toNat))) :
  Sp X (d + 2) 120 [mR 50, mR a1, mI x2] s Q := e120 (b120_0 h1 z1 (c309 z2 ⟨_, rfl, b120_22 h1 ⟨by decide, by decide⟩ z1 z1 (c309 z3 ⟨_, rfl, b120_79 h1 ⟨by decide, by decide⟩ (c15 h1 z4 ⟨_, rfl, b120_107 h1 ⟨by decide, by decide⟩ z5⟩)⟩)⟩))

theorem c120 {X : (Nat → Int) × Nat} {d : Nat} {s : mSt} {Q : mQ} {a1 : Nat} {x2 : Int} (h1 : isBd a1) (p1 : GFq s a1 x2) (k : ∀ t : mSt, ((∀ i, i < 8 → t 51 i = fcA (brow s a1) x2.toNat i) ∧ (∀ i, 8 ≤ i → t 51 i = s 51 i) ∧ (∀ b, b ≠ 51 → t b = s b)) → Q none t) : Sp X (d + 2) 120 [mR 50, mR a1, mI x2] s Q := by
  obtain ⟨h, hx, hw, hb⟩ := p1
  have h4 := bi_nc h
  have n6 := nc_le h.1
  have hl := bd_lt h1
  have hp := bd_pl h1
  have hp2 : a1 + 9 < 50 ∨ 52 < a1 := (show ∀ a ∈ bdL, a + 9 < 50 ∨ 52 < a by decide +kernel) a1 h1
  have b1 := okP h.1 (p := x2.toNat) (by omega)
  obtain ⟨_, _, hb3⟩ := hb
  have hb4 := hb3 (by omega)
  have bk := os_30 (f := kN (brow s a1) x2.toNat (sM (brow s a1) x2.toNat) (pA1 (brow s a1) x2.toNat).2.2.2.2) (n := 30) (by decide)
  have hBu : ∀ u : mSt, (∀ b, b ≠ 51 → u b = s b) → BI u a1 ∧ brow u a1 = brow s a1 := fun u hu => BI_cells h (fun x hx => hu x (by omega)) (hu 417 (by decide))
  have cc : ∀ (q : mSt) (i : Nat) (x : Int) (b : Nat), b ≠ 51 → uS q 51 i x b = q b := fun q i x b hb => uS_cell hb
  have k44 : ∀ (q : mSt) (i : Nat) (x : Int), uS q 51 i x 44 = q 44 := fun q i x => uS_cell (by decide)
  have k3 : ∀ (q : mSt) (i : Nat) (x : Int), uS q 51 i x (a1 + 3) = q (a1 + 3) := fun q i x => uS_cell (by omega)
  have k4 : ∀ (q : mSt) (i : Nat) (x : Int), uS q 51 i x (a1 + 4) = q (a1 + 4) := fun q i x => uS_cell (by omega)
  have k5 : ∀ (q : mSt) (i : Nat) (x : Int), uS q 51 i x (a1 + 5) = q (a1 + 5) := fun q i x => uS_cell (by omega)
  have k0 : ∀ (q : mSt) (i : Nat) (x : Int), uS q 51 i x a1 = q a1 := fun q i x => uS_cell (by omega)
  have e3 := biP h (c := x2.toNat) (by omega)
  have e4 := biE h (c := x2.toNat) (by omega)
  have e5 := biR h (c := x2.toNat) (by omega)
  have e8 : s 44 8 = os (kN (brow s a1) x2.toNat (sM (brow s a1) x2.toNat) (pA1 (brow s a1) x2.toNat).2.2.2.2) 30 := hb4.1.2.1
  refine v120 h1 ?_ ?_ ?_ ?_ ?_
  · omega
  · rw [k3, e3]; omega
  · simp only [k44, k3, k4, k5]; rw [e8]; exact bk
  · simp only [k0]
    refine ⟨(hBu _ (fun b hb => ?_)).1, hx⟩
    simp only [cc _ _ _ _ hb]
  · rw [(hBu _ (fun b hb => by simp only [cc _ _ _ _ hb])).2]
    simp only [k44, k3, k4, k5]
    rw [e3, e4, e5, e8, cn_os (by decide), hb4.1.1, hb4.1.2.2.2.1]
    refine k _ ⟨fun i hi => ?_, fun i hi => ?_, fun b hb => by simp only [cc _ _ _ _ hb]⟩
    · have e6 := hb4.2.2.1
      rcases (show i = 0 ∨ i = 1 ∨ i = 2 ∨ i = 3 ∨ i = 4 ∨ i = 5 ∨ i = 6 ∨ i = 7 by omega) with e | e | e | e | e | e | e | e <;> subst e <;> simp [uS_at, fcA]
      · omega
      · exact e6.symm
    · simp only [uS_at]
      rw [if_neg (by omega), if_neg (by omega), if_neg (by omega), if_neg (by omega), if_neg (by omega), if_neg (by omega), if_neg (by omega), if_neg (by omega)]
