/-! who watches whom -/
def wp1 (K : Nat → Bool) (W : Nat → Int) : Nat → (Nat → Int) × (Nat → Int)
  | 0 => (fun _ => -1, fun _ => 0)
  | c + 1 => if K c = true ∧ 0 ≤ W c then (up (wp1 K W c).1 c (W c), up (wp1 K W c).2 (W c).toNat ((wp1 K W c).2 (W c).toNat + 1)) else wp1 K W c
theorem wp1_s (K : Nat → Bool) (W : Nat → Int) (c : Nat) : wp1 K W (c + 1) = if K c = true ∧ 0 ≤ W c then (up (wp1 K W c).1 c (W c), up (wp1 K W c).2 (W c).toNat ((wp1 K W c).2 (W c).toNat + 1)) else wp1 K W c := rfl
def ldW (q : Nat → Int) (n : Int) : Int := fd (fun w => decide (q w < n)) 6
def wp2 (K : Nat → Bool) (n : Int) (p : (Nat → Int) × (Nat → Int)) : Nat → (Nat → Int) × (Nat → Int)
  | 0 => p
  | c + 1 => if K c = true ∧ (wp2 K n p c).1 c < 0 then (up (wp2 K n p c).1 c (ldW (wp2 K n p c).2 n), up (wp2 K n p c).2 (ldW (wp2 K n p c).2 n).toNat ((wp2 K n p c).2 (ldW (wp2 K n p c).2 n).toNat + 1)) else wp2 K n p c
theorem wp2_s (K : Nat → Bool) (n : Int) (p : (Nat → Int) × (Nat → Int)) (c : Nat) : wp2 K n p (c + 1) = if K c = true ∧ (wp2 K n p c).1 c < 0 then (up (wp2 K n p c).1 c (ldW (wp2 K n p c).2 n), up (wp2 K n p c).2 (ldW (wp2 K n p c).2 n).toNat ((wp2 K n p c).2 (ldW (wp2 K n p c).2 n).toNat + 1)) else wp2 K n p c := rfl
def WT (K : Nat → Nat → Bool) (N : Nat) (n : Int) : Nat → Nat → Int
  | 0 => fun _ => -1
  | t + 1 => (wp2 (fun c => K c t) n (wp1 (fun c => K c t) (WT K N n t) N) N).1
theorem WT_s (K : Nat → Nat → Bool) (N : Nat) (n : Int) (t : Nat) : WT K N n (t + 1) = (wp2 (fun c => K c t) n (wp1 (fun c => K c t) (WT K N n t) N) N).1 := rfl
theorem sm_up {q : Nat → Int} {w : Nat} {x : Int} : ∀ {n : Nat}, sm (up q w x) n = sm q n + (if w < n then x - q w else 0)
  | 0 => by simp [sm]
  | n + 1 => by
    rw [sm_s, sm_s, sm_up (n := n)]
    by_cases z : w = n
    · subst z; rw [up_at, if_neg (by omega), if_pos (by omega)]; omega
    · rw [up_ne (fun y => z y.symm)]
      by_cases y : w < n
      · rw [if_pos y, if_pos (by omega)]; omega
      · rw [if_neg y, if_neg (by omega)]; omega
theorem sm_g1 {q : Nat → Int} : ∀ {n : Nat}, (∀ i, i < n → 1 ≤ q i) → (n : Int) ≤ sm q n
  | 0, _ => by simp [sm]
  | n + 1, h => by
    have := sm_g1 (q := q) (n := n) (fun i hi => h i (by omega))
    have := h n (by omega)
    rw [sm_s]; omega
theorem cn_l1 {f : Nat → Bool} {j : Nat} : ∀ {n : Nat}, j < n → f j = false → cn f n + 1 ≤ n
  | n + 1, hj, h => by
    rw [cn_s]
    by_cases z : j = n
    · subst z
      have := (cn_le (f := f) (n := j)).2
      rw [h]; simp; omega
    · have := cn_l1 (f := f) (n := n) (j := j) (by omega) h
      split <;> omega
/-- watchers and how many each keeps -/
def WI (p : (Nat → Int) × (Nat → Int)) : Prop := (∀ c, -1 ≤ p.1 c ∧ p.1 c < 6) ∧ (∀ w, 0 ≤ p.2 w) ∧ sm p.2 6 = cn (fun c => decide (0 ≤ p.1 c)) 6
theorem WI_up {p : (Nat → Int) × (Nat → Int)} (h : WI p) {c : Nat} (hc : c < 6) (hp : p.1 c < 0) {x : Int} (hx : 0 ≤ x ∧ x < 6) : WI (up p.1 c x, up p.2 x.toNat (p.2 x.toNat + 1)) := by
  obtain ⟨h1, h2, h3⟩ := h
  refine ⟨fun i => ?_, fun w => ?_, ?_⟩
  · dsimp only
    by_cases z : i = c
    · rw [z, up_at]; omega
    · rw [up_ne z]; exact h1 i
  · dsimp only
    by_cases z : w = x.toNat
    · rw [z, up_at]; have := h2 x.toNat; omega
    · rw [up_ne z]; exact h2 w
  · dsimp only
    rw [sm_up, if_pos (by omega), h3]
    have e : cn (fun i => decide (0 ≤ up p.1 c x i)) 6 = cn (fun i => decide (0 ≤ p.1 i)) 6 + (if true = true then 1 else 0) := cn_up (f := fun i => decide (0 ≤ p.1 i)) (f' := fun i => decide (0 ≤ up p.1 c x i)) (h := true) hc (by simp; omega) (by show decide (0 ≤ up p.1 c x c) = true; rw [up_at]; simp; omega) (fun q hq => by show decide (0 ≤ up p.1 c x q) = decide (0 ≤ p.1 q); rw [up_ne hq])
    rw [e, if_pos rfl]; omega
theorem WI_ld {p : (Nat → Int) × (Nat → Int)} (h : WI p) {c : Nat} (hc : c < 6) (hp : p.1 c < 0) {n : Int} (hn : 1 ≤ n) : 0 ≤ ldW p.2 n ∧ ldW p.2 n < 6 := by
  have b := fd_ge (f := fun w => decide (p.2 w < n)) (n := 6)
  refine ⟨?_, by unfold ldW; omega⟩
  apply Int.not_lt.1
  intro z
  have a := fd_neg.1 z
  have s1 := sm_g1 (q := p.2) (n := 6) (fun i hi => by
    have := a i hi
    simp at this; omega)
  have s2 := cn_l1 (f := fun c => decide (0 ≤ p.1 c)) (j := c) (n := 6) hc (by simp; omega)
  have := h.2.2
  omega
theorem wp1_i {K : Nat → Bool} {W : Nat → Int} (hW : ∀ c, -1 ≤ W c ∧ W c < 6) : ∀ j, j ≤ 6 → WI (wp1 K W j) ∧ ∀ c, (wp1 K W j).1 c = if c < j ∧ K c = true ∧ 0 ≤ W c then W c else -1
  | 0, _ => ⟨⟨fun _ => by show (-1 : Int) ≤ -1 ∧ (-1 : Int) < 6; decide, fun _ => Int.le_refl 0, by show sm (fun _ => 0) 6 = cn (fun c => decide ((0 : Int) ≤ -1)) 6; decide +kernel⟩, fun c => by rw [if_neg (by omega)]; rfl⟩
  | j + 1, hj => by
    have ih := wp1_i (K := K) hW j (by omega)
    rw [wp1_s]
    by_cases z : K j = true ∧ 0 ≤ W j
    · rw [if_pos z]
      have e := ih.2 j
      rw [if_neg (by omega)] at e
      refine ⟨WI_up ih.1 (by omega) (by omega) ⟨z.2, (hW j).2⟩, fun c => ?_⟩
      dsimp only
      by_cases y : c = j
      · rw [y, up_at, if_pos ⟨by omega, z⟩]
      · rw [up_ne y, ih.2 c]
        by_cases w : c < j ∧ K c = true ∧ 0 ≤ W c
        · rw [if_pos w, if_pos ⟨by omega, w.2⟩]
        · rw [if_neg w, if_neg (fun v => w ⟨by omega, v.2⟩)]
    · rw [if_neg z]
      refine ⟨ih.1, fun c => ?_⟩
      rw [ih.2 c]
      by_cases w : c < j ∧ K c = true ∧ 0 ≤ W c
      · rw [if_pos w, if_pos ⟨by omega, w.2⟩]
      · rw [if_neg w, if_neg (fun v => w ⟨by
          by_cases y : c = j
          · rw [y] at v; exact absurd v.2 z
          · omega, v.2⟩)]
theorem wp2_i {K : Nat → Bool} {n : Int} {p : (Nat → Int) × (Nat → Int)} (hn : 1 ≤ n) (hp : WI p) : ∀ j, j ≤ 6 → WI (wp2 K n p j) ∧ (∀ c, j ≤ c → (wp2 K n p j).1 c = p.1 c) ∧ (∀ c, 0 ≤ p.1 c → (wp2 K n p j).1 c = p.1 c) ∧ ∀ c, c < j → (0 ≤ (wp2 K n p j).1 c ↔ K c = true ∨ 0 ≤ p.1 c)
  | 0, _ => ⟨hp, fun _ _ => rfl, fun _ _ => rfl, fun c hc => by omega⟩
  | j + 1, hj => by
    have ih := wp2_i (K := K) hn hp j (by omega)
    have ej := ih.2.1 j (by omega)
    rw [wp2_s]
    by_cases z : K j = true ∧ (wp2 K n p j).1 j < 0
    · rw [if_pos z]
      have l := WI_ld ih.1 (show j < 6 by omega) z.2 hn
      refine ⟨WI_up ih.1 (by omega) z.2 l, fun c hc => ?_, fun c hc => ?_, fun c hc => ?_⟩
      · dsimp only; rw [up_ne (by omega)]; exact ih.2.1 c (by omega)
      · dsimp only
        by_cases y : c = j
        · rw [y] at hc; omega
        · rw [up_ne y]; exact ih.2.2.1 c hc
      · dsimp only
        by_cases y : c = j
        · rw [y, up_at]; exact ⟨fun _ => Or.inl z.1, fun _ => l.1⟩
        · rw [up_ne y]; exact ih.2.2.2 c (by omega)
    · rw [if_neg z]
      refine ⟨ih.1, fun c hc => ih.2.1 c (by omega), ih.2.2.1, fun c hc => ?_⟩
      by_cases y : c = j
      · rw [y, ej]
        constructor
        · exact fun w => Or.inr w
        · rintro (w | w)
          · apply Int.not_lt.1; intro v; exact z ⟨w, by rw [ej]; exact v⟩
          · exact w
      · exact ih.2.2.2 c (by omega)
theorem WT_i {K : Nat → Nat → Bool} {N : Nat} {n : Int} (hN : N ≤ 6) (hn : 1 ≤ n) : ∀ t, (∀ c, -1 ≤ WT K N n t c ∧ WT K N n t c < 6) ∧ ∀ c, 0 ≤ WT K N n (t + 1) c ↔ c < N ∧ K c t = true
  | t => by
    have base : ∀ c, -1 ≤ WT K N n t c ∧ WT K N n t c < 6 := by
      induction t with
      | zero => exact fun _ => by show (-1 : Int) ≤ -1 ∧ (-1 : Int) < 6; decide
      | succ t ih => exact (wp2_i (K := fun c => K c t) hn (wp1_i (K := fun c => K c t) ih N hN).1 N hN).1.1
    refine ⟨base, fun c => ?_⟩
    have i1 := wp1_i (K := fun c => K c t) base N hN
    have i2 := wp2_i (K := fun c => K c t) hn i1.1 N hN
    rw [WT_s]
    by_cases z : c < N
    · rw [i2.2.2.2 c z, i1.2 c]
      constructor
      · rintro (w | w)
        · exact ⟨z, w⟩
        · by_cases y : c < N ∧ K c t = true ∧ 0 ≤ WT K N n t c
          · exact ⟨z, y.2.1⟩
          · rw [if_neg y] at w; omega
      · exact fun w => Or.inl w.2
    · rw [i2.2.1 c (by omega), i1.2 c, if_neg (fun w => z w.1)]
      exact ⟨fun w => by omega, fun w => absurd w.1 z⟩
def kaB (a : Rw) (c t : Nat) : Bool := pl a c && kpt a c t
theorem kaB_i {a : Rw} {c t : Nat} : kaB a c t = true ↔ pl a c = true ∧ kpt a c t = true := by unfold kaB; rw [Bool.and_eq_true]
theorem v50 {X : (Nat → Int) × Nat} {d : Nat} {s : mSt} {Q : mQ} {a0 : Nat} {x1 : Int} {x2 : Int} (h0 : isBd a0)
  (z1 : x2 ≤ 0 → Q (some (mI 0)) s)
  (z2 : ¬ x2 ≤ 0 → BI s a0 ∧ (0 ≤ x1 ∧ x1 < s a0 3) ∧ (0 ≤ (w32 (x2 - 1)) ∧ (w32 (x2 - 1)) < 30))
  (z3 : ¬ x2 ≤ 0 → (pl (brow s a0) x1.toNat = true ∧ kpt (brow s a0) x1.toNat (w32 (x2 - 1)).toNat = true) → Q (some (mI 1)) s)
  (z4 : ¬ x2 ≤ 0 → (¬ (pl (brow s a0) x1.toNat = true ∧ kpt (brow s a0) x1.toNat (w32 (x2 - 1)).toNat = true)) → Q (some (mI 0)) s) :
  Sp X (d + 1) 50 [mR a0, mI x1, mI x2] s Q := e50 (b50_0 h0 (fun q1 => b50_19 h0 (b50_20 h0 (z1 q1) (Or.inl rfl))) (fun q2 => b50_4 h0 (c20 h0 (z2 q2) (fun q3 => ⟨1, rfl, b50_12 h0 (fun q => absurd q (by decide)) (fun _ => b50_15 h0 (b50_20 h0 (z3 q2 q3) (Or.inr rfl)))⟩) (fun q4 => ⟨0, rfl, b50_12 h0 (fun _ => b50_19 h0 (b50_20 h0 (z4 q2 q4) (Or.inl rfl))) (fun q => absurd q (by decide))⟩))))

theorem c50 {X : (Nat → Int) × Nat} {d : Nat} {s : mSt} {Q : mQ} {a0 : Nat} {x1 : Int} {x2 : Int} (h0 : isBd a0) (p1 : BI s a0 ∧ (0 ≤ x1 ∧ x1 < s a0 3) ∧ (0 ≤ x2 ∧ x2 < 30)) (k1 : (0 < x2 ∧ kaB (brow s a0) x1.toNat (x2.toNat - 1) = true) → Q (some (mI 1)) s) (k0 : ¬ (0 < x2 ∧ kaB (brow s a0) x1.toNat (x2.toNat - 1) = true) → Q (some (mI 0)) s) : Sp X (d + 1) 50 [mR a0, mI x1, mI x2] s Q := by
  obtain ⟨hB, h1, h2⟩ := p1
  have e : ¬ x2 ≤ 0 → (w32 (x2 - 1)).toNat = x2.toNat - 1 := fun z => wt (by omega) (by omega)
  refine v50 h0 (fun z => k0 (fun w => by omega)) (fun z => ⟨hB, h1, by rw [w32_of (by omega)]; omega⟩) (fun z q => ?_) (fun z q => ?_)
  · rw [e z] at q
    exact k1 ⟨by omega, kaB_i.2 q⟩
  · rw [e z] at q
    exact k0 (fun w => q (kaB_i.1 w.2))
theorem v51 {X : (Nat → Int) × Nat} {d : Nat} {s : mSt} {Q : mQ} {x1 : Int}
  (I2 : Int → Prop) (m2 : Int → Nat)
  (z1 : ∀ y2 : Int, I2 y2 → 5 ≤ y2 → Q (some (mI 5)) s)
  (z2 : ∀ y2 : Int, I2 y2 → ¬ 5 ≤ y2 → 0 ≤ y2 ∧ y2 < 6)
  (z3 : ∀ y2 : Int, I2 y2 → ¬ 5 ≤ y2 → x1 ≤ (s 82 y2.toNat) → I2 (w32 (y2 + 1)) ∧ m2 (w32 (y2 + 1)) < m2 y2)
  (z4 : ∀ y2 : Int, I2 y2 → ¬ 5 ≤ y2 → ¬ x1 ≤ (s 82 y2.toNat) → Q (some (mI y2)) s)
  (z5 : I2 0) :
  Sp X d 51 [mR 76, mI x1] s Q := by
  have L : ∀ k : Nat, (∀ (y2 : Int), I2 y2 → m2 y2 < k → Wp X d 51 2 [some (mR 76), some (mI x1), some (mI y2)] [] s Q) := by
    intro k
    induction k with
    | zero => exact fun _ _ h => absurd h (Nat.not_lt_zero _)
    | succ k ih => exact fun y2 hI hm => b51_2 (fun q1 => b51_25 (z1 y2 hI q1)) (fun q2 => b51_7 (z2 y2 hI q2) (fun q3 => b51_19 (ih (w32 (y2 + 1)) (z3 y2 hI q2 q3).1 (Nat.lt_of_lt_of_le (z3 y2 hI q2 q3).2 (Nat.le_of_lt_succ hm)))) (fun q4 => b51_17 (z4 y2 hI q2 q4)))
  exact e51 (b51_0 ((L (m2 0 + 1)) 0 z5 (Nat.lt_succ_self _)))

theorem c51 {X : (Nat → Int) × Nat} {d : Nat} {s : mSt} {Q : mQ} {x1 : Int} (p1 : 1 ≤ x1) (k : ∀ (v : Int) (t : mSt), ((0 ≤ ldW (s 82) x1 → v = ldW (s 82) x1) ∧ t = s) → Q (some (mI v)) t) : Sp X d 51 [mR 76, mI x1] s Q := by
  let f : Nat → Bool := fun w => decide (s 82 w < x1)
  have hf : ∀ i, f i = true ↔ s 82 i < x1 := fun i => by show decide (s 82 i < x1) = true ↔ _; simp
  refine v51 (fun y => ∃ j : Nat, y = j ∧ j ≤ 5 ∧ ∀ i, i < j → f i = false) (fun y => (6 - y).toNat) ?_ ?_ ?_ ?_ ⟨0, rfl, by omega, fun i hi => by omega⟩
  · rintro _ ⟨j, rfl, hj, ha⟩ hc
    have : j = 5 := by omega
    subst this
    refine k _ s ⟨fun z => ?_, rfl⟩
    have sp := fd_spec (f := f) (n := 6) z
    have ge := fd_ge (f := f) (n := 6)
    have e : ldW (s 82) x1 = fd f 6 := rfl
    rw [e]
    by_cases y : (fd f 6).toNat < 5
    · have := ha _ y
      rw [sp.1] at this; exact absurd this (by decide)
    · omega
  · rintro _ ⟨j, rfl, hj, ha⟩ hc
    omega
  · rintro _ ⟨j, rfl, hj, ha⟩ hc q
    rw [tnc] at q
    rw [w32_of (by omega)]
    refine ⟨⟨j + 1, by omega, by omega, fun i hi => ?_⟩, by omega⟩
    by_cases z : i = j
    · rw [z]; exact Bool.eq_false_iff.2 (fun w => by have := (hf j).1 w; omega)
    · exact ha i (by omega)
  · rintro _ ⟨j, rfl, hj, ha⟩ hc q
    rw [tnc] at q
    refine k _ s ⟨fun z => ?_, rfl⟩
    have e : fd f 6 = (j : Int) := fd_eq (by omega) ((hf j).2 (by omega)) ha
    show (j : Int) = fd f 6
    rw [e]
def f12 (s t : mSt) : Prop := ∀ b, b ≠ 81 → b ≠ 82 → t b = s b
theorem v49 {X : (Nat → Int) × Nat} {d : Nat} {s : mSt} {Q : mQ} {a1 : Nat} {x2 : Int} {x3 : Int} (h1 : isBd a1)
  (I3 : Int → mSt → Prop) (m3 : Int → mSt → Nat)
  (I27 : Int → mSt → Prop) (m27 : Int → mSt → Nat)
  (I81 : Int → mSt → Prop) (m81 : Int → mSt → Nat)
  (z1 : ∀ y4 : Int, ∀ s : mSt, I3 y4 s → 6 ≤ y4 → I27 0 s ∧ m27 0 s < m3 y4 s)
  (z2 : ∀ y4 : Int, ∀ s : mSt, I3 y4 s → ¬ 6 ≤ y4 → 0 ≤ y4 ∧ y4 < 6)
  (z3 : ∀ y4 : Int, ∀ s : mSt, I3 y4 s → ¬ 6 ≤ y4 → I3 (w32 (y4 + 1)) (uS s 82 y4.toNat 0) ∧ m3 (w32 (y4 + 1)) (uS s 82 y4.toNat 0) < m3 y4 s)
  (z4 : ∀ y4 : Int, ∀ s : mSt, I27 y4 s → (s a1 3) ≤ y4 → I81 0 s ∧ m81 0 s < m27 y4 s)
  (z5 : ∀ y4 : Int, ∀ s : mSt, I27 y4 s → ¬ (s a1 3) ≤ y4 → BI s a1 ∧ (0 ≤ y4 ∧ y4 < s a1 3) ∧ (0 ≤ x3 ∧ x3 < 30))
  (z6 : ∀ y4 : Int, ∀ s : mSt, I27 y4 s → ¬ (s a1 3) ≤ y4 → (pl (brow s a1) y4.toNat = true ∧ kpt (brow s a1) y4.toNat x3.toNat = true) → BI s a1 ∧ (0 ≤ y4 ∧ y4 < s a1 3) ∧ (0 ≤ x3 ∧ x3 < 30))
  (z7 : ∀ y4 : Int, ∀ s : mSt, I27 y4 s → ¬ (s a1 3) ≤ y4 → (pl (brow s a1) y4.toNat = true ∧ kpt (brow s a1) y4.toNat x3.toNat = true) → (0 < x3 ∧ kaB (brow s a1) y4.toNat (x3.toNat - 1) = true) → 0 ≤ y4 ∧ y4 < 6)
  (z8 : ∀ y4 : Int, ∀ s : mSt, I27 y4 s → ¬ (s a1 3) ≤ y4 → (pl (brow s a1) y4.toNat = true ∧ kpt (brow s a1) y4.toNat x3.toNat = true) → (0 < x3 ∧ kaB (brow s a1) y4.toNat (x3.toNat - 1) = true) → 0 ≤ (s 81 y4.toNat) ∧ (s 81 y4.toNat) < 6)
  (z9 : ∀ y4 : Int, ∀ s : mSt, I27 y4 s → ¬ (s a1 3) ≤ y4 → (pl (brow s a1) y4.toNat = true ∧ kpt (brow s a1) y4.toNat x3.toNat = true) → (0 < x3 ∧ kaB (brow s a1) y4.toNat (x3.toNat - 1) = true) → ∀ t7 : mSt, t7 = uS s 82 ((s 81 y4.toNat).toNat) (w32 ((s 82 (s 81 y4.toNat).toNat) + 1)) → I27 (w32 (y4 + 1)) t7 ∧ m27 (w32 (y4 + 1)) t7 < m27 y4 s)
  (z10 : ∀ y4 : Int, ∀ s : mSt, I27 y4 s → ¬ (s a1 3) ≤ y4 → (pl (brow s a1) y4.toNat = true ∧ kpt (brow s a1) y4.toNat x3.toNat = true) → (¬ (0 < x3 ∧ kaB (brow s a1) y4.toNat (x3.toNat - 1) = true)) → I27 (w32 (y4 + 1)) s ∧ m27 (w32 (y4 + 1)) s < m27 y4 s)
  (z11 : ∀ y4 : Int, ∀ s : mSt, I27 y4 s → ¬ (s a1 3) ≤ y4 → (¬ (pl (brow s a1) y4.toNat = true ∧ kpt (brow s a1) y4.toNat x3.toNat = true)) → I27 (w32 (y4 + 1)) s ∧ m27 (w32 (y4 + 1)) s < m27 y4 s)
  (z12 : ∀ y4 : Int, ∀ s : mSt, I81 y4 s → (s a1 3) ≤ y4 → Q none s)
  (z13 : ∀ y4 : Int, ∀ s : mSt, I81 y4 s → ¬ (s a1 3) ≤ y4 → BI s a1 ∧ (0 ≤ y4 ∧ y4 < s a1 3) ∧ (0 ≤ x3 ∧ x3 < 30))
  (z14 : ∀ y4 : Int, ∀ s : mSt, I81 y4 s → ¬ (s a1 3) ≤ y4 → (pl (brow s a1) y4.toNat = true ∧ kpt (brow s a1) y4.toNat x3.toNat = true) → BI s a1 ∧ (0 ≤ y4 ∧ y4 < s a1 3) ∧ (0 ≤ x3 ∧ x3 < 30))
  (z15 : ∀ y4 : Int, ∀ s : mSt, I81 y4 s → ¬ (s a1 3) ≤ y4 → (pl (brow s a1) y4.toNat = true ∧ kpt (brow s a1) y4.toNat x3.toNat = true) → (0 < x3 ∧ kaB (brow s a1) y4.toNat (x3.toNat - 1) = true) → I81 (w32 (y4 + 1)) s ∧ m81 (w32 (y4 + 1)) s < m81 y4 s)
  (z16 : ∀ y4 : Int, ∀ s : mSt, I81 y4 s → ¬ (s a1 3) ≤ y4 → (pl (brow s a1) y4.toNat = true ∧ kpt (brow s a1) y4.toNat x3.toNat = true) → (¬ (0 < x3 ∧ kaB (brow s a1) y4.toNat (x3.toNat - 1) = true)) → 1 ≤ x2)
  (z17 : ∀ y4 : Int, ∀ s : mSt, I81 y4 s → ¬ (s a1 3) ≤ y4 → (pl (brow s a1) y4.toNat = true ∧ kpt (brow s a1) y4.toNat x3.toNat = true) → (¬ (0 < x3 ∧ kaB (brow s a1) y4.toNat (x3.toNat - 1) = true)) → ∀ v15 : Int, ∀ s15 : mSt, ((0 ≤ ldW (s 82) x2 → v15 = ldW (s 82) x2) ∧ s15 = s) → 0 ≤ y4 ∧ y4 < 6)
  (z18 : ∀ y4 : Int, ∀ s : mSt, I81 y4 s → ¬ (s a1 3) ≤ y4 → (pl (brow s a1) y4.toNat = true ∧ kpt (brow s a1) y4.toNat x3.toNat = true) → (¬ (0 < x3 ∧ kaB (brow s a1) y4.toNat (x3.toNat - 1) = true)) → ∀ v15 : Int, ∀ s15 : mSt, ((0 ≤ ldW (s 82) x2 → v15 = ldW (s 82) x2) ∧ s15 = s) → 0 ≤ ((uS s15 81 y4.toNat v15) 81 y4.toNat) ∧ ((uS s15 81 y4.toNat v15) 81 y4.toNat) < 6)
  (z19 : ∀ y4 : Int, ∀ s : mSt, I81 y4 s → ¬ (s a1 3) ≤ y4 → (pl (brow s a1) y4.toNat = true ∧ kpt (brow s a1) y4.toNat x3.toNat = true) → (¬ (0 < x3 ∧ kaB (brow s a1) y4.toNat (x3.toNat - 1) = true)) → ∀ v15 : Int, ∀ s15 : mSt, ((0 ≤ ldW (s 82) x2 → v15 = ldW (s 82) x2) ∧ s15 = s) → ∀ t16 : mSt, t16 = uS (uS s15 81 y4.toNat v15) 82 (((uS s15 81 y4.toNat v15) 81 y4.toNat).toNat) (w32 (((uS s15 81 y4.toNat v15) 82 ((uS s15 81 y4.toNat v15) 81 y4.toNat).toNat) + 1)) → I81 (w32 (y4 + 1)) t16 ∧ m81 (w32 (y4 + 1)) t16 < m81 y4 s)
  (z20 : ∀ y4 : Int, ∀ s : mSt, I81 y4 s → ¬ (s a1 3) ≤ y4 → (¬ (pl (brow s a1) y4.toNat = true ∧ kpt (brow s a1) y4.toNat x3.toNat = true)) → I81 (w32 (y4 + 1)) s ∧ m81 (w32 (y4 + 1)) s < m81 y4 s)
  (z21 : I3 0 s) :
  Sp X (d + 2) 49 [mR 76, mR a1, mI x2, mI x3] s Q := by
  have L : ∀ k : Nat, (∀ (y4 : Int) (s : mSt), I3 y4 s → m3 y4 s < k → Wp X (d + 2) 49 3 [some (mR 76), some (mR a1), some (mI x2), some (mI x3), some (mI y4)] [] s Q) ∧ (∀ (y4 : Int) (s : mSt), I27 y4 s → m27 y4 s < k → Wp X (d + 2) 49 27 [some (mR 76), some (mR a1), some (mI x2), some (mI x3), some (mI y4)] [] s Q) ∧ (∀ (y4 : Int) (s : mSt), I81 y4 s → m81 y4 s < k → Wp X (d + 2) 49 81 [some (mR 76), some (mR a1), some (mI x2), some (mI x3), some (mI y4)] [] s Q) := by
    intro k
    induction k with
    | zero => exact ⟨fun _ _ _ h => absurd h (Nat.not_lt_zero _), fun _ _ _ h => absurd h (Nat.not_lt_zero _), fun _ _ _ h => absurd h (Nat.not_lt_zero _)⟩
    | succ k ih => exact ⟨fun y4 s hI hm => b49_3 h1 (fun q1 => b49_24 h1 (ih.2.1 0 s (z1 y4 s hI q1).1 (Nat.lt_of_lt_of_le (z1 y4 s hI q1).2 (Nat.le_of_lt_succ hm)))) (fun q2 => b49_10 h1 (z2 y4 s hI q2) (ih.1 (w32 (y4 + 1)) (uS s 82 y4.toNat 0) (z3 y4 s hI q2).1 (Nat.lt_of_lt_of_le (z3 y4 s hI q2).2 (Nat.le_of_lt_succ hm)))), fun y4 s hI hm => b49_27 h1 (fun q3 => b49_78 h1 (ih.2.2 0 s (z4 y4 s hI q3).1 (Nat.lt_of_lt_of_le (z4 y4 s hI q3).2 (Nat.le_of_lt_succ hm)))) (fun q4 => b49_36 h1 (c20 h1 (z5 y4 s hI q4) (fun q5 => ⟨1, rfl, b49_43 h1 (fun q => absurd q (by decide)) (fun _ => b49_46 h1 (c50 h1 (z6 y4 s hI q4 q5) (fun q6 => ⟨1, rfl, b49_53 h1 (fun q => absurd q (by decide)) (fun _ => b49_56 h1 (z7 y4 s hI q4 q5 q6) (z8 y4 s hI q4 q5 q6) (z8 y4 s hI q4 q5 q6) (Wp_gen (fun t7 e7 => b49_72 h1 (ih.2.1 (w32 (y4 + 1)) t7 (z9 y4 s hI q4 q5 q6 t7 e7).1 (Nat.lt_of_lt_of_le (z9 y4 s hI q4 q5 q6 t7 e7).2 (Nat.le_of_lt_succ hm))))))⟩) (fun q8 => ⟨0, rfl, b49_53 h1 (fun _ => b49_72 h1 (ih.2.1 (w32 (y4 + 1)) s (z10 y4 s hI q4 q5 q8).1 (Nat.lt_of_lt_of_le (z10 y4 s hI q4 q5 q8).2 (Nat.le_of_lt_succ hm)))) (fun q => absurd q (by decide))⟩)))⟩) (fun q9 => ⟨0, rfl, b49_43 h1 (fun _ => b49_72 h1 (ih.2.1 (w32 (y4 + 1)) s (z11 y4 s hI q4 q9).1 (Nat.lt_of_lt_of_le (z11 y4 s hI q4 q9).2 (Nat.le_of_lt_succ hm)))) (fun q => absurd q (by decide))⟩))), fun y4 s hI hm => b49_81 h1 (fun q10 => b49_144 h1 (z12 y4 s hI q10)) (fun q11 => b49_90 h1 (c20 h1 (z13 y4 s hI q11) (fun q12 => ⟨1, rfl, b49_97 h1 (fun q => absurd q (by decide)) (fun _ => b49_100 h1 (c50 h1 (z14 y4 s hI q11 q12) (fun q13 => ⟨1, rfl, b49_107 h1 (fun _ => b49_138 h1 (ih.2.2 (w32 (y4 + 1)) s (z15 y4 s hI q11 q12 q13).1 (Nat.lt_of_lt_of_le (z15 y4 s hI q11 q12 q13).2 (Nat.le_of_lt_succ hm)))) (fun q => absurd q (by decide))⟩) (fun q14 => ⟨0, rfl, b49_107 h1 (fun q => absurd q (by decide)) (fun _ => b49_110 h1 (c51 (z16 y4 s hI q11 q12 q14) (fun v15 s15 q15 => ⟨v15, rfl, b49_121 h1 (z17 y4 s hI q11 q12 q14 v15 s15 q15) (z17 y4 s hI q11 q12 q14 v15 s15 q15) (z18 y4 s hI q11 q12 q14 v15 s15 q15) (z18 y4 s hI q11 q12 q14 v15 s15 q15) (Wp_gen (fun t16 e16 => b49_138 h1 (ih.2.2 (w32 (y4 + 1)) t16 (z19 y4 s hI q11 q12 q14 v15 s15 q15 t16 e16).1 (Nat.lt_of_lt_of_le (z19 y4 s hI q11 q12 q14 v15 s15 q15 t16 e16).2 (Nat.le_of_lt_succ hm)))))⟩)))⟩)))⟩) (fun q17 => ⟨0, rfl, b49_97 h1 (fun _ => b49_138 h1 (ih.2.2 (w32 (y4 + 1)) s (z20 y4 s hI q11 q17).1 (Nat.lt_of_lt_of_le (z20 y4 s hI q11 q17).2 (Nat.le_of_lt_succ hm)))) (fun q => absurd q (by decide))⟩)))⟩
  exact e49 (b49_0 h1 ((L (m3 0 s + 1)).1 0 s z21 (Nat.lt_succ_self _)))

theorem c49 {X : (Nat → Int) × Nat} {d : Nat} {s : mSt} {Q : mQ} {a1 : Nat} {x2 : Int} {x3 : Int} (h1 : isBd a1) (p1 : BI s a1 ∧ ¬ (81 ≤ a1 + 9 ∧ a1 ≤ 82) ∧ (1 ≤ x2 ∧ x2 ≤ 6) ∧ (0 ≤ x3 ∧ x3 < 30) ∧ ∀ c, 0 ≤ WT (kaB (brow s a1)) (nc (brow s a1)) x2 x3.toNat c → s 81 c = WT (kaB (brow s a1)) (nc (brow s a1)) x2 x3.toNat c) (k : ∀ t : mSt, ((∀ c, 0 ≤ WT (kaB (brow s a1)) (nc (brow s a1)) x2 (x3.toNat + 1) c → t 81 c = WT (kaB (brow s a1)) (nc (brow s a1)) x2 (x3.toNat + 1) c) ∧ f12 s t) → Q none t) : Sp X (d + 2) 49 [mR 76, mR a1, mI x2, mI x3] s Q := by
  obtain ⟨hB, hf, hn, hx, hw⟩ := p1
  have lt := bd_lt h1
  have h4 := bi_nc hB
  have n6 := nc_le hB.1
  let K := kaB (brow s a1)
  let N := nc (brow s a1)
  have hN : N = nc (brow s a1) := rfl
  let W := WT K N x2 x3.toNat
  let K' : Nat → Bool := fun c => K c x3.toNat
  have Wi := WT_i (K := K) (N := N) (n := x2) n6 hn.1 x3.toNat
  have W0 : ∀ c, c < N → (0 ≤ W c ↔ 0 < x3 ∧ K c (x3.toNat - 1) = true) := fun c hc => by
    by_cases z : x3 = 0
    · subst z
      exact ⟨fun w => absurd (show (0 : Int) ≤ -1 from w) (by decide), fun w => by omega⟩
    · have q := (WT_i (K := K) (N := N) (n := x2) n6 hn.1 (x3.toNat - 1)).2 c
      rw [show x3.toNat - 1 + 1 = x3.toNat by omega] at q
      exact ⟨fun w => ⟨by omega, (q.1 w).2⟩, fun w => q.2 ⟨hc, w.2⟩⟩
  let P := wp1 K' W N
  have P1 := wp1_i (K := K') (W := W) Wi.1
  have Pi := P1 N n6
  have P2 := wp2_i (K := K') (n := x2) hn.1 Pi.1
  have now : ∀ t : mSt, f12 s t → BI t a1 ∧ brow t a1 = brow s a1 ∧ t a1 = s a1 := fun t ht => by
    have q := BI_cells (t := t) hB (fun x hx => ht x (by omega) (by omega)) (ht 417 (by omega) (by omega))
    exact ⟨q.1, q.2, ht a1 (by omega) (by omega)⟩
  have pre : ∀ (t : mSt) (y : Int), f12 s t → (0 ≤ y ∧ ¬ s a1 3 ≤ y) → BI t a1 ∧ (0 ≤ y ∧ y < t a1 3) ∧ (0 ≤ x3 ∧ x3 < 30) := fun t y ht hy => by
    have q := now t ht
    rw [q.2.2]; exact ⟨q.1, by omega, hx⟩
  let A : Int → mSt → Prop := fun y t => ∃ j : Nat, y = j ∧ j ≤ 6 ∧ (∀ w, w < j → t 82 w = 0) ∧ t 81 = s 81 ∧ f12 s t
  let B : Int → mSt → Prop := fun y t => ∃ j : Nat, y = j ∧ j ≤ N ∧ (∀ w, w < 6 → t 82 w = (wp1 K' W j).2 w) ∧ t 81 = s 81 ∧ f12 s t
  let C : Int → mSt → Prop := fun y t => ∃ j : Nat, y = j ∧ j ≤ N ∧ (∀ w, w < 6 → t 82 w = (wp2 K' x2 P j).2 w) ∧ (∀ c, 0 ≤ (wp2 K' x2 P j).1 c → t 81 c = (wp2 K' x2 P j).1 c) ∧ f12 s t
  have smb : ∀ (q : (Nat → Int) × (Nat → Int)), WI q → ∀ w, w < 6 → 0 ≤ q.2 w ∧ q.2 w ≤ 6 := fun q hq w hw' => by
    refine ⟨hq.2.1 w, ?_⟩
    have e := hq.2.2
    have c := (cn_le (f := fun c => decide (0 ≤ q.1 c)) (n := 6)).2
    have s6 : sm q.2 6 = q.2 0 + q.2 1 + q.2 2 + q.2 3 + q.2 4 + q.2 5 := by simp only [sm]; omega
    have a0 := hq.2.1 0; have a1 := hq.2.1 1; have a2 := hq.2.1 2; have a3 := hq.2.1 3; have a4 := hq.2.1 4; have a5 := hq.2.1 5
    rcases (show w = 0 ∨ w = 1 ∨ w = 2 ∨ w = 3 ∨ w = 4 ∨ w = 5 by omega) with z | z | z | z | z | z <;> subst z <;> omega
  have cc : ∀ (y : Int) (t : mSt), C y t → ¬ t a1 3 ≤ y → ∃ j : Nat, y = j ∧ j < N ∧ (∀ w, w < 6 → t 82 w = (wp2 K' x2 P j).2 w) ∧ (∀ c, 0 ≤ (wp2 K' x2 P j).1 c → t 81 c = (wp2 K' x2 P j).1 c) ∧ f12 s t := fun y t ⟨j, e, hj, h2, h3, hft⟩ hc => by
    rw [(now t hft).2.2] at hc
    exact ⟨j, e, by omega, h2, h3, hft⟩
  have eK : ∀ (t : mSt) (j : Nat), f12 s t → ((pl (brow t a1) ((j : Int)).toNat = true ∧ kpt (brow t a1) ((j : Int)).toNat x3.toNat = true) ↔ K' j = true) := fun t j ht => by
    rw [(now t ht).2.1, tnc]; exact kaB_i.symm
  have eP : ∀ (t : mSt) (j : Nat), f12 s t → j < N → ((0 < x3 ∧ kaB (brow t a1) ((j : Int)).toNat (x3.toNat - 1) = true) ↔ 0 ≤ W j) := fun t j ht hj => by
    rw [(now t ht).2.1, tnc]; exact (W0 j hj).symm
  have v2 : ∀ j, j < N → K' j = true → ((wp2 K' x2 P j).1 j < 0 ↔ ¬ 0 ≤ W j) := fun j hj hk => by
    rw [(P2 j (by omega)).2.1 j (by omega), Pi.2 j]
    by_cases z : 0 ≤ W j
    · rw [if_pos ⟨hj, hk, z⟩]; omega
    · rw [if_neg (fun w => z w.2.2)]; omega
  refine v49 h1 A (fun y _ => (100 - y).toNat) B (fun y _ => (60 - y).toNat) C (fun y _ => (20 - y).toNat) ?_ ?_ ?_ ?_ ?_ ?_ ?_ ?_ ?_ ?_ ?_ ?_ ?_ ?_ ?_ ?_ ?_ ?_ ?_ ?_ ⟨0, rfl, by omega, fun w hw => by omega, rfl, fun _ _ _ => rfl⟩
  · rintro _ t ⟨j, rfl, hj, h2, e1, ht⟩ hc
    exact ⟨⟨0, rfl, by omega, fun w hw' => h2 w (by omega), e1, ht⟩, by omega⟩
  · rintro _ t ⟨j, rfl, hj, h2, e1, ht⟩ hc
    omega
  · rintro _ t ⟨j, rfl, hj, h2, e1, ht⟩ hc
    rw [tnc, w32_of (by omega)]
    refine ⟨⟨j + 1, by omega, by omega, fun w hw' => ?_, by rw [uS_cell (by decide)]; exact e1, fun b g1 g2 => by rw [uS_cell g2]; exact ht b g1 g2⟩, by omega⟩
    rw [uS_at]
    by_cases z : w = j
    · rw [if_pos z]
    · rw [if_neg z]; exact h2 w (by omega)
  · rintro _ t ⟨j, rfl, hj, h2, e1, ht⟩ hc
    rw [(now t ht).2.2] at hc
    have : j = N := by omega
    subst this
    refine ⟨⟨0, rfl, by omega, h2, fun c hc' => ?_, ht⟩, by omega⟩
    have e := Pi.2 c
    have hc2 : 0 ≤ P.1 c := hc'
    by_cases z : c < N ∧ K' c = true ∧ 0 ≤ W c
    · rw [if_pos z] at e
      show t 81 c = P.1 c
      rw [show P.1 c = W c from e, e1]; exact hw c z.2.2
    · rw [if_neg z] at e
      have e' : P.1 c = -1 := e
      omega
  · rintro _ t ⟨j, rfl, hj, h2, e1, ht⟩ hc
    rw [(now t ht).2.2] at hc
    exact pre t _ ht (by omega)
  · rintro _ t ⟨j, rfl, hj, h2, e1, ht⟩ hc q
    rw [(now t ht).2.2] at hc
    exact pre t _ ht (by omega)
  · rintro _ t ⟨j, rfl, hj, h2, e1, ht⟩ hc q q2
    rw [(now t ht).2.2] at hc
    omega
  · rintro _ t ⟨j, rfl, hj, h2, e1, ht⟩ hc q q2
    rw [(now t ht).2.2] at hc
    have z := (eP t j ht (by omega)).1 q2
    have := (Wi.1 j).2
    rw [e1, tnc, hw j z]; exact ⟨z, this⟩
  · rintro _ t ⟨j, rfl, hj, h2, e1, ht⟩ hc q q2 t7 h7
    rw [(now t ht).2.2] at hc
    have z := (eP t j ht (by omega)).1 q2
    have z1 := (eK t j ht).1 q
    have w6 := (Wi.1 j).2
    have b := smb _ (P1 j (by omega)).1 (W j).toNat (by show (W j).toNat < 6; have : W j < 6 := w6; omega)
    have ew : s 81 j = W j := hw j z
    have lt6 : (W j).toNat < 6 := by have : W j < 6 := w6; omega
    rw [e1, tnc, ew, h2 _ lt6, w32_of (by omega)] at h7
    have es : wp1 K' W (j + 1) = (up (wp1 K' W j).1 j (W j), up (wp1 K' W j).2 (W j).toNat ((wp1 K' W j).2 (W j).toNat + 1)) := by rw [wp1_s, if_pos ⟨z1, z⟩]
    rw [w32_of (by omega)]
    refine ⟨⟨j + 1, by omega, by omega, fun w hw' => ?_, by rw [h7, uS_cell (by decide)]; exact e1, fun b g1 g2 => by rw [h7, uS_cell g2]; exact ht b g1 g2⟩, by omega⟩
    rw [es, h7, uS_at]
    by_cases y : w = (W j).toNat
    · rw [if_pos y]; dsimp only; rw [y, up_at]
    · rw [if_neg y]; dsimp only; rw [up_ne y]; exact h2 w hw'
  · rintro _ t ⟨j, rfl, hj, h2, e1, ht⟩ hc q q2
    rw [(now t ht).2.2] at hc
    have z : ¬ 0 ≤ W j := fun w => q2 ((eP t j ht (by omega)).2 w)
    have es : wp1 K' W (j + 1) = wp1 K' W j := by rw [wp1_s, if_neg (fun w => z w.2)]
    rw [w32_of (by omega)]
    exact ⟨⟨j + 1, by omega, by omega, by rw [es]; exact h2, e1, ht⟩, by omega⟩
  · rintro _ t ⟨j, rfl, hj, h2, e1, ht⟩ hc q
    rw [(now t ht).2.2] at hc
    have z : ¬ K' j = true := fun w => q ((eK t j ht).2 w)
    have es : wp1 K' W (j + 1) = wp1 K' W j := by rw [wp1_s, if_neg (fun w => z w.1)]
    rw [w32_of (by omega)]
    exact ⟨⟨j + 1, by omega, by omega, by rw [es]; exact h2, e1, ht⟩, by omega⟩
  · rintro _ t ⟨j, rfl, hj, h2, h3, ht⟩ hc
    rw [(now t ht).2.2] at hc
    have : j = N := by omega
    subst this
    exact k t ⟨h3, ht⟩
  · intro y t hC hc
    obtain ⟨j, rfl, hj, h2, h3, ht⟩ := cc y t hC hc
    exact pre t _ ht (by omega)
  · intro y t hC hc q
    obtain ⟨j, rfl, hj, h2, h3, ht⟩ := cc y t hC hc
    exact pre t _ ht (by omega)
  · intro y t hC hc q q2
    obtain ⟨j, rfl, hj, h2, h3, ht⟩ := cc y t hC hc
    have z1 := (eK t j ht).1 q
    have z := (eP t j ht hj).1 q2
    have es : wp2 K' x2 P (j + 1) = wp2 K' x2 P j := by rw [wp2_s, if_neg (fun w => (v2 j hj z1).1 w.2 z)]
    rw [w32_of (by omega)]
    exact ⟨⟨j + 1, by omega, by omega, by rw [es]; exact h2, by rw [es]; exact h3, ht⟩, by omega⟩
  · intro y t hC hc q q2
    exact hn.1
  · intro y t hC hc q q2 v u hu
    obtain ⟨j, rfl, hj, h2, h3, ht⟩ := cc y t hC hc
    omega
  · intro y t hC hc q q2 v u hu
    obtain ⟨j, rfl, hj, h2, h3, ht⟩ := cc y t hC hc
    have z1 := (eK t j ht).1 q
    have z : ¬ 0 ≤ W j := fun w => q2 ((eP t j ht hj).2 w)
    have l : 0 ≤ ldW (wp2 K' x2 P j).2 x2 ∧ ldW (wp2 K' x2 P j).2 x2 < 6 := WI_ld (P2 j (by omega)).1 (show j < 6 by omega) ((v2 j hj z1).2 z) hn.1
    have el : ldW (t 82) x2 = ldW (wp2 K' x2 P j).2 x2 := fd_congr (fun w hw' => by rw [h2 w hw'])
    rw [el] at hu
    rw [uS_at, if_pos rfl, hu.1 l.1]; exact l
  · intro y t hC hc q q2 v u hu t16 h16
    obtain ⟨j, rfl, hj, h2, h3, ht⟩ := cc y t hC hc
    have z1 := (eK t j ht).1 q
    have z : ¬ 0 ≤ W j := fun w => q2 ((eP t j ht hj).2 w)
    have l : 0 ≤ ldW (wp2 K' x2 P j).2 x2 ∧ ldW (wp2 K' x2 P j).2 x2 < 6 := WI_ld (P2 j (by omega)).1 (show j < 6 by omega) ((v2 j hj z1).2 z) hn.1
    have el : ldW (t 82) x2 = ldW (wp2 K' x2 P j).2 x2 := fd_congr (fun w hw' => by rw [h2 w hw'])
    rw [el] at hu
    have ev := hu.1 l.1
    have b : 0 ≤ (wp2 K' x2 P j).2 (ldW (wp2 K' x2 P j).2 x2).toNat ∧ (wp2 K' x2 P j).2 (ldW (wp2 K' x2 P j).2 x2).toNat ≤ 6 := smb _ (P2 j (by omega)).1 (ldW (wp2 K' x2 P j).2 x2).toNat (by omega)
    rw [hu.2, tnc, ev, uS_at, if_pos rfl, uS_cell (by decide), h2 _ (by omega), w32_of (by omega)] at h16
    have es : wp2 K' x2 P (j + 1) = (up (wp2 K' x2 P j).1 j (ldW (wp2 K' x2 P j).2 x2), up (wp2 K' x2 P j).2 (ldW (wp2 K' x2 P j).2 x2).toNat ((wp2 K' x2 P j).2 (ldW (wp2 K' x2 P j).2 x2).toNat + 1)) := by rw [wp2_s, if_pos ⟨z1, (v2 j hj z1).2 z⟩]
    rw [w32_of (by omega)]
    refine ⟨⟨j + 1, by omega, by omega, fun w hw' => ?_, fun c hc' => ?_, fun b g1 g2 => by rw [h16, uS_cell g2, uS_cell g1]; exact ht b g1 g2⟩, by omega⟩
    · rw [es, h16, uS_at]
      by_cases y : w = (ldW (wp2 K' x2 P j).2 x2).toNat
      · rw [if_pos y]; dsimp only; rw [y, up_at]
      · rw [if_neg y, uS_cell (by decide)]; dsimp only; rw [up_ne y]; exact h2 w hw'
    · rw [es] at hc' ⊢
      dsimp only at hc' ⊢
      rw [h16, uS_cell (by decide), uS_at]
      by_cases y : c = j
      · rw [if_pos y, y, up_at]
      · rw [if_neg y, up_ne y]
        rw [up_ne y] at hc'
        exact h3 c hc'
  · intro y t hC hc q
    obtain ⟨j, rfl, hj, h2, h3, ht⟩ := cc y t hC hc
    have z : ¬ K' j = true := fun w => q ((eK t j ht).2 w)
    have es : wp2 K' x2 P (j + 1) = wp2 K' x2 P j := by rw [wp2_s, if_neg (fun w => z w.1)]
    rw [w32_of (by omega)]
    exact ⟨⟨j + 1, by omega, by omega, by rw [es]; exact h2, by rw [es]; exact h3, ht⟩, by omega⟩
theorem v48 {X : (Nat → Int) × Nat} {d : Nat} {s : mSt} {Q : mQ} {a1 : Nat} {x2 : Int} {x3 : Int} {x4 : Int} (h1 : isBd a1)
  (I3 : Int → mSt → Prop) (m3 : Int → mSt → Nat)
  (z1 : ∀ y5 : Int, ∀ s : mSt, I3 y5 s → x4 < y5 → 0 ≤ x3 ∧ x3 < 6)
  (z2 : ∀ y5 : Int, ∀ s : mSt, I3 y5 s → x4 < y5 → Q (some (mI (s 81 x3.toNat))) s)
  (z3 : ∀ y5 : Int, ∀ s : mSt, I3 y5 s → ¬ x4 < y5 → 30 ≤ y5 → 0 ≤ x3 ∧ x3 < 6)
  (z4 : ∀ y5 : Int, ∀ s : mSt, I3 y5 s → ¬ x4 < y5 → 30 ≤ y5 → Q (some (mI (s 81 x3.toNat))) s)
  (z5 : ∀ y5 : Int, ∀ s : mSt, I3 y5 s → ¬ x4 < y5 → ¬ 30 ≤ y5 → BI s a1 ∧ ¬ (81 ≤ a1 + 9 ∧ a1 ≤ 82) ∧ (1 ≤ x2 ∧ x2 ≤ 6) ∧ (0 ≤ y5 ∧ y5 < 30) ∧ ∀ c, 0 ≤ WT (kaB (brow s a1)) (nc (brow s a1)) x2 y5.toNat c → s 81 c = WT (kaB (brow s a1)) (nc (brow s a1)) x2 y5.toNat c)
  (z6 : ∀ y5 : Int, ∀ s : mSt, I3 y5 s → ¬ x4 < y5 → ¬ 30 ≤ y5 → ∀ s5 : mSt, ((∀ c, 0 ≤ WT (kaB (brow s a1)) (nc (brow s a1)) x2 (y5.toNat + 1) c → s5 81 c = WT (kaB (brow s a1)) (nc (brow s a1)) x2 (y5.toNat + 1) c) ∧ f12 s s5) → I3 (w32 (y5 + 1)) s5 ∧ m3 (w32 (y5 + 1)) s5 < m3 y5 s)
  (z7 : I3 0 s) :
  Sp X (d + 3) 48 [mR 76, mR a1, mI x2, mI x3, mI x4] s Q := by
  have L : ∀ k : Nat, (∀ (y5 : Int) (s : mSt), I3 y5 s → m3 y5 s < k → Wp X (d + 3) 48 3 [some (mR 76), some (mR a1), some (mI x2), some (mI x3), some (mI x4), some (mI y5)] [] s Q) := by
    intro k
    induction k with
    | zero => exact fun _ _ _ h => absurd h (Nat.not_lt_zero _)
    | succ k ih => exact fun y5 s hI hm => b48_3 h1 (fun q1 => b48_31 h1 (z1 y5 s hI q1) (z2 y5 s hI q1)) (fun q2 => b48_10 h1 (fun q3 => b48_31 h1 (z3 y5 s hI q2 q3) (z4 y5 s hI q2 q3)) (fun q4 => b48_17 h1 (c49 h1 (z5 y5 s hI q2 q4) (fun s5 q5 => ⟨rfl, b48_25 h1 (ih (w32 (y5 + 1)) s5 (z6 y5 s hI q2 q4 s5 q5).1 (Nat.lt_of_lt_of_le (z6 y5 s hI q2 q4 s5 q5).2 (Nat.le_of_lt_succ hm)))⟩))))
  exact e48 (b48_0 h1 ((L (m3 0 s + 1)) 0 s z7 (Nat.lt_succ_self _)))

theorem c48 {X : (Nat → Int) × Nat} {d : Nat} {s : mSt} {Q : mQ} {a1 : Nat} {x2 : Int} {x3 : Int} {x4 : Int} (h1 : isBd a1) (p1 : BI s a1 ∧ ¬ (81 ≤ a1 + 9 ∧ a1 ≤ 82) ∧ (1 ≤ x2 ∧ x2 ≤ 6) ∧ (0 ≤ x3 ∧ x3 < s a1 3) ∧ (0 ≤ x4 ∧ x4 < 30)) (k : ∀ (v : Int) (t : mSt), ((kaB (brow s a1) x3.toNat x4.toNat = true → v = WT (kaB (brow s a1)) (nc (brow s a1)) x2 (x4.toNat + 1) x3.toNat) ∧ f12 s t) → Q (some (mI v)) t) : Sp X (d + 3) 48 [mR 76, mR a1, mI x2, mI x3, mI x4] s Q := by
  obtain ⟨hB, hf, hn, hx, h4'⟩ := p1
  have lt := bd_lt h1
  have h4 := bi_nc hB
  have n6 := nc_le hB.1
  have now : ∀ t : mSt, f12 s t → BI t a1 ∧ brow t a1 = brow s a1 := fun t ht => BI_cells (t := t) hB (fun x hx => ht x (by omega) (by omega)) (ht 417 (by omega) (by omega))
  let W := WT (kaB (brow s a1)) (nc (brow s a1)) x2
  let J : Int → mSt → Prop := fun y t => ∃ j : Nat, y = j ∧ (j : Int) ≤ x4 + 1 ∧ (∀ c, 0 ≤ W j c → t 81 c = W j c) ∧ f12 s t
  refine v48 h1 J (fun y _ => (40 - y).toNat) ?_ ?_ ?_ ?_ ?_ ?_ ⟨0, rfl, by omega, fun c hc => absurd (show (0 : Int) ≤ -1 from hc) (by decide), fun _ _ _ => rfl⟩
  · rintro _ t ⟨j, rfl, hj, ha, ht⟩ hc
    omega
  · rintro _ t ⟨j, rfl, hj, ha, ht⟩ hc
    have e : j = x4.toNat + 1 := by omega
    refine k _ t ⟨fun z => ?_, ht⟩
    rw [e] at ha
    exact ha _ (((WT_i (K := kaB (brow s a1)) (N := nc (brow s a1)) (n := x2) n6 hn.1 x4.toNat).2 _).2 ⟨by omega, z⟩)
  · rintro _ t ⟨j, rfl, hj, ha, ht⟩ hc hc2
    omega
  · rintro _ t ⟨j, rfl, hj, ha, ht⟩ hc hc2
    omega
  · rintro _ t ⟨j, rfl, hj, ha, ht⟩ hc hc2
    have q := now t ht
    rw [q.2, tnc]
    exact ⟨q.1, hf, hn, by omega, ha⟩
  · rintro _ t ⟨j, rfl, hj, ha, ht⟩ hc hc2 u hu
    rw [(now t ht).2, tnc] at hu
    rw [w32_of (by omega)]
    exact ⟨⟨j + 1, by omega, by omega, hu.1, fun b g1 g2 => (hu.2 b g1 g2).trans (ht b g1 g2)⟩, by omega⟩
def caQ (a : Rw) (n x y r : Int) : Prop := YN ((1 ≤ n ∧ n ≤ 6) ∧ drC a x ∧ (0 ≤ y ∧ y < 30)) (r = if kaB a x.toNat y.toNat = true then WT (kaB a) (nc a) n (y.toNat + 1) x.toNat else -2) (r = -1)
theorem v145 {X : (Nat → Int) × Nat} {d : Nat} {s : mSt} {Q : mQ} {x1 : Int} {x2 : Int} {x3 : Int}
  (z1 : x1 < 1 → Q (some (mI (-1))) s)
  (z2 : ¬ x1 < 1 → 6 < x1 → Q (some (mI (-1))) s)
  (z3 : ¬ x1 < 1 → ¬ 6 < x1 → BI s 18)
  (z4 : ¬ x1 < 1 → ¬ 6 < x1 → ((0 ≤ x2 ∧ x2 < s 18 3) ∧ pl (brow s 18) x2.toNat = true) → (0 ≤ x3 ∧ x3 < 30) → BI s 18 ∧ (0 ≤ x2 ∧ x2 < s 18 3) ∧ (0 ≤ x3 ∧ x3 < 30))
  (z5 : ¬ x1 < 1 → ¬ 6 < x1 → ((0 ≤ x2 ∧ x2 < s 18 3) ∧ pl (brow s 18) x2.toNat = true) → (0 ≤ x3 ∧ x3 < 30) → (pl (brow s 18) x2.toNat = true ∧ kpt (brow s 18) x2.toNat x3.toNat = true) → BI s 18 ∧ ¬ (81 ≤ 18 + 9 ∧ 18 ≤ 82) ∧ (1 ≤ x1 ∧ x1 ≤ 6) ∧ (0 ≤ x2 ∧ x2 < s 18 3) ∧ (0 ≤ x3 ∧ x3 < 30))
  (z6 : ¬ x1 < 1 → ¬ 6 < x1 → ((0 ≤ x2 ∧ x2 < s 18 3) ∧ pl (brow s 18) x2.toNat = true) → (0 ≤ x3 ∧ x3 < 30) → (pl (brow s 18) x2.toNat = true ∧ kpt (brow s 18) x2.toNat x3.toNat = true) → ∀ v8 : Int, ∀ s8 : mSt, ((kaB (brow s 18) x2.toNat x3.toNat = true → v8 = WT (kaB (brow s 18)) (nc (brow s 18)) x1 (x3.toNat + 1) x2.toNat) ∧ f12 s s8) → Q (some (mI v8)) s8)
  (z7 : ¬ x1 < 1 → ¬ 6 < x1 → ((0 ≤ x2 ∧ x2 < s 18 3) ∧ pl (brow s 18) x2.toNat = true) → (0 ≤ x3 ∧ x3 < 30) → (¬ (pl (brow s 18) x2.toNat = true ∧ kpt (brow s 18) x2.toNat x3.toNat = true)) → Q (some (mI (-2))) s)
  (z8 : ¬ x1 < 1 → ¬ 6 < x1 → ((0 ≤ x2 ∧ x2 < s 18 3) ∧ pl (brow s 18) x2.toNat = true) → (¬ (0 ≤ x3 ∧ x3 < 30)) → Q (some (mI (-1))) s)
  (z9 : ¬ x1 < 1 → ¬ 6 < x1 → (¬ ((0 ≤ x2 ∧ x2 < s 18 3) ∧ pl (brow s 18) x2.toNat = true)) → Q (some (mI (-1))) s) :
  Sp X (d + 4) 145 [mR 0, mI x1, mI x2, mI x3] s Q := e145 (b145_0 (fun q1 => b145_36 (z1 q1)) (fun q2 => b145_14 (fun q3 => b145_36 (z2 q2 q3)) (fun q4 => b145_20 (c9 (bdm rfl) (z3 q2 q4) (fun q5 => ⟨1, rfl, b145_26 (fun q => absurd q (by decide)) (fun _ => b145_29 (c163  (fun q6 => ⟨1, rfl, b145_33 (fun _ => b145_38 (c20 (bdm rfl) (z4 q2 q4 q5 q6) (fun q7 => ⟨1, rfl, b145_45 (fun q => absurd q (by decide)) (fun _ => b145_48 (c48 (bdm rfl) (z5 q2 q4 q5 q6 q7) (fun v8 s8 q8 => ⟨v8, rfl, b145_60 (b145_65 (z6 q2 q4 q5 q6 q7 v8 s8 q8))⟩)))⟩) (fun q9 => ⟨0, rfl, b145_45 (fun _ => b145_63 (b145_65 (z7 q2 q4 q5 q6 q9))) (fun q => absurd q (by decide))⟩))) (fun q => absurd q (by decide))⟩) (fun q10 => ⟨0, rfl, b145_33 (fun q => absurd q (by decide)) (fun _ => b145_36 (z8 q2 q4 q5 q10))⟩)))⟩) (fun q11 => ⟨0, rfl, b145_26 (fun _ => b145_36 (z9 q2 q4 q11)) (fun q => absurd q (by decide))⟩)))))

theorem WI_b {q : (Nat → Int) × (Nat → Int)} (hq : WI q) {w : Nat} (hw : w < 6) : 0 ≤ q.2 w ∧ q.2 w ≤ 6 := by
  refine ⟨hq.2.1 w, ?_⟩
  have e := hq.2.2
  have c := (cn_le (f := fun c => decide (0 ≤ q.1 c)) (n := 6)).2
  have s6 : sm q.2 6 = q.2 0 + q.2 1 + q.2 2 + q.2 3 + q.2 4 + q.2 5 := by simp only [sm]; omega
  have a0 := hq.2.1 0; have a1 := hq.2.1 1; have a2 := hq.2.1 2; have a3 := hq.2.1 3; have a4 := hq.2.1 4; have a5 := hq.2.1 5
  rcases (show w = 0 ∨ w = 1 ∨ w = 2 ∨ w = 3 ∨ w = 4 ∨ w = 5 by omega) with z | z | z | z | z | z <;> subst z <;> omega
def f48 (s t : mSt) : Prop := ∀ b, ¬ (426 ≤ b ∧ b ≤ 428) → t b = s b
theorem v273 {X : (Nat → Int) × Nat} {d : Nat} {s : mSt} {Q : mQ} {x1 : Int} {x2 : Int}
  (I2 : Int → mSt → Prop) (m2 : Int → mSt → Nat)
  (I42 : Int → mSt → Prop) (m42 : Int → mSt → Nat)
  (I116 : Int → mSt → Prop) (m116 : Int → mSt → Nat)
  (I158 : Int → Int → mSt → Prop) (m158 : Int → Int → mSt → Nat)
  (z1 : ∀ y3 : Int, ∀ s : mSt, I2 y3 s → 6 ≤ y3 → I42 0 s ∧ m42 0 s < m2 y3 s)
  (z2 : ∀ y3 : Int, ∀ s : mSt, I2 y3 s → ¬ 6 ≤ y3 → 0 ≤ y3 ∧ y3 < 6)
  (z3 : ∀ y3 : Int, ∀ s : mSt, I2 y3 s → ¬ 6 ≤ y3 → I2 (w32 (y3 + 1)) (uS (uS (uS s 427 y3.toNat (s 426 y3.toNat)) 426 y3.toNat (-1)) 428 y3.toNat 0) ∧ m2 (w32 (y3 + 1)) (uS (uS (uS s 427 y3.toNat (s 426 y3.toNat)) 426 y3.toNat (-1)) 428 y3.toNat 0) < m2 y3 s)
  (z4 : ∀ y3 : Int, ∀ s : mSt, I42 y3 s → (s 417 4) ≤ y3 → I116 0 s ∧ m116 0 s < m42 y3 s)
  (z5 : ∀ y3 : Int, ∀ s : mSt, I42 y3 s → ¬ (s 417 4) ≤ y3 → Ok (s 417))
  (z6 : ∀ y3 : Int, ∀ s : mSt, I42 y3 s → ¬ (s 417 4) ≤ y3 → ((0 ≤ y3 ∧ y3 < s 417 4) ∧ s 417 (41 + y3.toNat) = 0) → Ok (s 417) ∧ (0 ≤ y3 ∧ y3 < 6) ∧ (0 ≤ x2 ∧ x2 < 30))
  (z7 : ∀ y3 : Int, ∀ s : mSt, I42 y3 s → ¬ (s 417 4) ≤ y3 → ((0 ≤ y3 ∧ y3 < s 417 4) ∧ s 417 (41 + y3.toNat) = 0) → kpt (s 417) y3.toNat x2.toNat = true → 0 ≤ y3 ∧ y3 < 6)
  (z8 : ∀ y3 : Int, ∀ s : mSt, I42 y3 s → ¬ (s 417 4) ≤ y3 → ((0 ≤ y3 ∧ y3 < s 417 4) ∧ s 417 (41 + y3.toNat) = 0) → kpt (s 417) y3.toNat x2.toNat = true → 0 ≤ (s 427 y3.toNat) → 0 ≤ y3 ∧ y3 < 6)
  (z9 : ∀ y3 : Int, ∀ s : mSt, I42 y3 s → ¬ (s 417 4) ≤ y3 → ((0 ≤ y3 ∧ y3 < s 417 4) ∧ s 417 (41 + y3.toNat) = 0) → kpt (s 417) y3.toNat x2.toNat = true → 0 ≤ (s 427 y3.toNat) → 0 ≤ ((uS s 426 y3.toNat (s 427 y3.toNat)) 426 y3.toNat) ∧ ((uS s 426 y3.toNat (s 427 y3.toNat)) 426 y3.toNat) < 6)
  (z10 : ∀ y3 : Int, ∀ s : mSt, I42 y3 s → ¬ (s 417 4) ≤ y3 → ((0 ≤ y3 ∧ y3 < s 417 4) ∧ s 417 (41 + y3.toNat) = 0) → kpt (s 417) y3.toNat x2.toNat = true → 0 ≤ (s 427 y3.toNat) → ∀ t8 : mSt, t8 = uS (uS s 426 y3.toNat (s 427 y3.toNat)) 428 (((uS s 426 y3.toNat (s 427 y3.toNat)) 426 y3.toNat).toNat) (w32 (((uS s 426 y3.toNat (s 427 y3.toNat)) 428 ((uS s 426 y3.toNat (s 427 y3.toNat)) 426 y3.toNat).toNat) + 1)) → I42 (w32 (y3 + 1)) t8 ∧ m42 (w32 (y3 + 1)) t8 < m42 y3 s)
  (z11 : ∀ y3 : Int, ∀ s : mSt, I42 y3 s → ¬ (s 417 4) ≤ y3 → ((0 ≤ y3 ∧ y3 < s 417 4) ∧ s 417 (41 + y3.toNat) = 0) → kpt (s 417) y3.toNat x2.toNat = true → ¬ 0 ≤ (s 427 y3.toNat) → I42 (w32 (y3 + 1)) s ∧ m42 (w32 (y3 + 1)) s < m42 y3 s)
  (z12 : ∀ y3 : Int, ∀ s : mSt, I42 y3 s → ¬ (s 417 4) ≤ y3 → ((0 ≤ y3 ∧ y3 < s 417 4) ∧ s 417 (41 + y3.toNat) = 0) → ¬ (kpt (s 417) y3.toNat x2.toNat = true) → I42 (w32 (y3 + 1)) s ∧ m42 (w32 (y3 + 1)) s < m42 y3 s)
  (z13 : ∀ y3 : Int, ∀ s : mSt, I42 y3 s → ¬ (s 417 4) ≤ y3 → (¬ ((0 ≤ y3 ∧ y3 < s 417 4) ∧ s 417 (41 + y3.toNat) = 0)) → I42 (w32 (y3 + 1)) s ∧ m42 (w32 (y3 + 1)) s < m42 y3 s)
  (z14 : ∀ y3 : Int, ∀ s : mSt, I116 y3 s → (s 417 4) ≤ y3 → Q none s)
  (z15 : ∀ y3 : Int, ∀ s : mSt, I116 y3 s → ¬ (s 417 4) ≤ y3 → Ok (s 417))
  (z16 : ∀ y3 : Int, ∀ s : mSt, I116 y3 s → ¬ (s 417 4) ≤ y3 → ((0 ≤ y3 ∧ y3 < s 417 4) ∧ s 417 (41 + y3.toNat) = 0) → Ok (s 417) ∧ (0 ≤ y3 ∧ y3 < 6) ∧ (0 ≤ x2 ∧ x2 < 30))
  (z17 : ∀ y3 : Int, ∀ s : mSt, I116 y3 s → ¬ (s 417 4) ≤ y3 → ((0 ≤ y3 ∧ y3 < s 417 4) ∧ s 417 (41 + y3.toNat) = 0) → kpt (s 417) y3.toNat x2.toNat = true → 0 ≤ y3 ∧ y3 < 6)
  (z18 : ∀ y3 : Int, ∀ s : mSt, I116 y3 s → ¬ (s 417 4) ≤ y3 → ((0 ≤ y3 ∧ y3 < s 417 4) ∧ s 417 (41 + y3.toNat) = 0) → kpt (s 417) y3.toNat x2.toNat = true → (s 426 y3.toNat) < 0 → I158 y3 0 s ∧ m158 y3 0 s < m116 y3 s)
  (z19 : ∀ y3 : Int, ∀ s : mSt, I116 y3 s → ¬ (s 417 4) ≤ y3 → ((0 ≤ y3 ∧ y3 < s 417 4) ∧ s 417 (41 + y3.toNat) = 0) → kpt (s 417) y3.toNat x2.toNat = true → ¬ (s 426 y3.toNat) < 0 → I116 (w32 (y3 + 1)) s ∧ m116 (w32 (y3 + 1)) s < m116 y3 s)
  (z20 : ∀ y3 : Int, ∀ s : mSt, I116 y3 s → ¬ (s 417 4) ≤ y3 → ((0 ≤ y3 ∧ y3 < s 417 4) ∧ s 417 (41 + y3.toNat) = 0) → ¬ (kpt (s 417) y3.toNat x2.toNat = true) → I116 (w32 (y3 + 1)) s ∧ m116 (w32 (y3 + 1)) s < m116 y3 s)
  (z21 : ∀ y3 : Int, ∀ s : mSt, I116 y3 s → ¬ (s 417 4) ≤ y3 → (¬ ((0 ≤ y3 ∧ y3 < s 417 4) ∧ s 417 (41 + y3.toNat) = 0)) → I116 (w32 (y3 + 1)) s ∧ m116 (w32 (y3 + 1)) s < m116 y3 s)
  (z22 : ∀ y3 : Int, ∀ y4 : Int, ∀ s : mSt, I158 y3 y4 s → 0 ≤ y4 ∧ y4 < 6)
  (z23 : ∀ y3 : Int, ∀ y4 : Int, ∀ s : mSt, I158 y3 y4 s → (s 428 y4.toNat) < x1 → 0 ≤ y3 ∧ y3 < 6)
  (z24 : ∀ y3 : Int, ∀ y4 : Int, ∀ s : mSt, I158 y3 y4 s → (s 428 y4.toNat) < x1 → 0 ≤ y4 ∧ y4 < 6)
  (z25 : ∀ y3 : Int, ∀ y4 : Int, ∀ s : mSt, I158 y3 y4 s → (s 428 y4.toNat) < x1 → ∀ t21 : mSt, t21 = uS (uS s 426 y3.toNat y4) 428 y4.toNat (w32 (((uS s 426 y3.toNat y4) 428 y4.toNat) + 1)) → I116 (w32 (y3 + 1)) t21 ∧ m116 (w32 (y3 + 1)) t21 < m158 y3 y4 s)
  (z26 : ∀ y3 : Int, ∀ y4 : Int, ∀ s : mSt, I158 y3 y4 s → ¬ (s 428 y4.toNat) < x1 → I158 y3 (w32 (y4 + 1)) s ∧ m158 y3 (w32 (y4 + 1)) s < m158 y3 y4 s)
  (z27 : I2 0 s) :
  Sp X (d + 4) 273 [mR 407, mI x1, mI x2] s Q := by
  have L : ∀ k : Nat, (∀ (y3 : Int) (l4 : Option mV) (s : mSt), I2 y3 s → m2 y3 s < k → Wp X (d + 4) 273 2 [some (mR 407), some (mI x1), some (mI x2), some (mI y3), l4] [] s Q) ∧ (∀ (y3 : Int) (l4 : Option mV) (s : mSt), I42 y3 s → m42 y3 s < k → Wp X (d + 4) 273 42 [some (mR 407), some (mI x1), some (mI x2), some (mI y3), l4] [] s Q) ∧ (∀ (y3 : Int) (l4 : Option mV) (s : mSt), I116 y3 s → m116 y3 s < k → Wp X (d + 4) 273 116 [some (mR 407), some (mI x1), some (mI x2), some (mI y3), l4] [] s Q) ∧ (∀ (y3 : Int) (y4 : Int) (s : mSt), I158 y3 y4 s → m158 y3 y4 s < k → Wp X (d + 4) 273 158 [some (mR 407), some (mI x1), some (mI x2), some (mI y3), some (mI y4)] [] s Q) := by
    intro k
    induction k with
    | zero => exact ⟨fun _ _ _ _ h => absurd h (Nat.not_lt_zero _), fun _ _ _ _ h => absurd h (Nat.not_lt_zero _), fun _ _ _ _ h => absurd h (Nat.not_lt_zero _), fun _ _ _ _ h => absurd h (Nat.not_lt_zero _)⟩
    | succ k ih => exact ⟨fun y3 l4 s hI hm => b273_2 (fun q1 => b273_40 (ih.2.1 0 l4 s (z1 y3 s hI q1).1 (Nat.lt_of_lt_of_le (z1 y3 s hI q1).2 (Nat.le_of_lt_succ hm)))) (fun q2 => b273_8 (z2 y3 s hI q2) (z2 y3 s hI q2) (z2 y3 s hI q2) (z2 y3 s hI q2) (ih.1 (w32 (y3 + 1)) l4 (uS (uS (uS s 427 y3.toNat (s 426 y3.toNat)) 426 y3.toNat (-1)) 428 y3.toNat 0) (z3 y3 s hI q2).1 (Nat.lt_of_lt_of_le (z3 y3 s hI q2).2 (Nat.le_of_lt_succ hm)))), fun y3 l4 s hI hm => b273_42 (fun q3 => b273_114 (ih.2.2.1 0 l4 s (z4 y3 s hI q3).1 (Nat.lt_of_lt_of_le (z4 y3 s hI q3).2 (Nat.le_of_lt_succ hm)))) (fun q4 => b273_52 (c216 (z5 y3 s hI q4) (fun q5 => ⟨1, rfl, b273_57 (fun q => absurd q (by decide)) (fun _ => b273_60 (c224 (z6 y3 s hI q4 q5) (fun q6 => ⟨1, rfl, b273_66 (fun q => absurd q (by decide)) (fun _ => b273_69 (z7 y3 s hI q4 q5 q6) (fun q7 => b273_81 (z8 y3 s hI q4 q5 q6 q7) (z8 y3 s hI q4 q5 q6 q7) (z8 y3 s hI q4 q5 q6 q7) (z9 y3 s hI q4 q5 q6 q7) (z9 y3 s hI q4 q5 q6 q7) (Wp_gen (fun t8 e8 => b273_108 (ih.2.1 (w32 (y3 + 1)) l4 t8 (z10 y3 s hI q4 q5 q6 q7 t8 e8).1 (Nat.lt_of_lt_of_le (z10 y3 s hI q4 q5 q6 q7 t8 e8).2 (Nat.le_of_lt_succ hm)))))) (fun q9 => b273_78 (b273_108 (ih.2.1 (w32 (y3 + 1)) l4 s (z11 y3 s hI q4 q5 q6 q9).1 (Nat.lt_of_lt_of_le (z11 y3 s hI q4 q5 q6 q9).2 (Nat.le_of_lt_succ hm))))))⟩) (fun q10 => ⟨0, rfl, b273_66 (fun _ => b273_108 (ih.2.1 (w32 (y3 + 1)) l4 s (z12 y3 s hI q4 q5 q10).1 (Nat.lt_of_lt_of_le (z12 y3 s hI q4 q5 q10).2 (Nat.le_of_lt_succ hm)))) (fun q => absurd q (by decide))⟩)))⟩) (fun q11 => ⟨0, rfl, b273_57 (fun _ => b273_108 (ih.2.1 (w32 (y3 + 1)) l4 s (z13 y3 s hI q4 q11).1 (Nat.lt_of_lt_of_le (z13 y3 s hI q4 q11).2 (Nat.le_of_lt_succ hm)))) (fun q => absurd q (by decide))⟩))), fun y3 l4 s hI hm => b273_116 (fun q12 => b273_200 (z14 y3 s hI q12)) (fun q13 => b273_126 (c216 (z15 y3 s hI q13) (fun q14 => ⟨1, rfl, b273_131 (fun q => absurd q (by decide)) (fun _ => b273_134 (c224 (z16 y3 s hI q13 q14) (fun q15 => ⟨1, rfl, b273_140 (fun q => absurd q (by decide)) (fun _ => b273_143 (z17 y3 s hI q13 q14 q15) (fun q16 => b273_155 (ih.2.2.2 y3 0 s (z18 y3 s hI q13 q14 q15 q16).1 (Nat.lt_of_lt_of_le (z18 y3 s hI q13 q14 q15 q16).2 (Nat.le_of_lt_succ hm)))) (fun q17 => b273_152 (b273_194 (ih.2.2.1 (w32 (y3 + 1)) l4 s (z19 y3 s hI q13 q14 q15 q17).1 (Nat.lt_of_lt_of_le (z19 y3 s hI q13 q14 q15 q17).2 (Nat.le_of_lt_succ hm))))))⟩) (fun q18 => ⟨0, rfl, b273_140 (fun _ => b273_194 (ih.2.2.1 (w32 (y3 + 1)) l4 s (z20 y3 s hI q13 q14 q18).1 (Nat.lt_of_lt_of_le (z20 y3 s hI q13 q14 q18).2 (Nat.le_of_lt_succ hm)))) (fun q => absurd q (by decide))⟩)))⟩) (fun q19 => ⟨0, rfl, b273_131 (fun _ => b273_194 (ih.2.2.1 (w32 (y3 + 1)) l4 s (z21 y3 s hI q13 q19).1 (Nat.lt_of_lt_of_le (z21 y3 s hI q13 q19).2 (Nat.le_of_lt_succ hm)))) (fun q => absurd q (by decide))⟩))), fun y3 y4 s hI hm => b273_158 (z22 y3 y4 s hI) (fun q20 => b273_175 (z23 y3 y4 s hI q20) (z24 y3 y4 s hI q20) (z24 y3 y4 s hI q20) (Wp_gen (fun t21 e21 => b273_194 (ih.2.2.1 (w32 (y3 + 1)) (some (mI y4)) t21 (z25 y3 y4 s hI q20 t21 e21).1 (Nat.lt_of_lt_of_le (z25 y3 y4 s hI q20 t21 e21).2 (Nat.le_of_lt_succ hm)))))) (fun q22 => b273_169 (ih.2.2.2 y3 (w32 (y4 + 1)) s (z26 y3 y4 s hI q22).1 (Nat.lt_of_lt_of_le (z26 y3 y4 s hI q22).2 (Nat.le_of_lt_succ hm))))⟩
  exact e273 (b273_0 ((L (m2 0 s + 1)).1 0 none s z27 (Nat.lt_succ_self _)))

theorem c273 {X : (Nat → Int) × Nat} {d : Nat} {s : mSt} {Q : mQ} {x1 : Int} {x2 : Int} (p1 : Ok (s 417) ∧ (1 ≤ x1 ∧ x1 ≤ 6) ∧ (0 ≤ x2 ∧ x2 < 30) ∧ ∀ c, c < 6 → s 426 c = WT (kaB (s 417)) (nc (s 417)) x1 x2.toNat c) (k : ∀ t : mSt, ((∀ c, c < 6 → t 426 c = WT (kaB (s 417)) (nc (s 417)) x1 (x2.toNat + 1) c) ∧ f48 s t) → Q none t) : Sp X (d + 4) 273 [mR 407, mI x1, mI x2] s Q := by
  obtain ⟨h, hn, hx, hw⟩ := p1
  have h4 := ncI h
  have n6 := nc_le h
  let K := kaB (s 417)
  let N := nc (s 417)
  have hN : N = nc (s 417) := rfl
  let W := WT K N x1 x2.toNat
  let K' : Nat → Bool := fun c => K c x2.toNat
  have Wi := WT_i (K := K) (N := N) (n := x1) n6 hn.1 x2.toNat
  let P := wp1 K' W N
  have P1 := wp1_i (K := K') (W := W) Wi.1
  have Pi : WI P ∧ ∀ c, P.1 c = if c < N ∧ K' c = true ∧ 0 ≤ W c then W c else -1 := P1 N n6
  have P2 : ∀ j, j ≤ 6 → WI (wp2 K' x1 P j) ∧ (∀ c, j ≤ c → (wp2 K' x1 P j).1 c = P.1 c) ∧ _ := wp2_i (K := K') (n := x1) hn.1 Pi.1
  have e7 : ∀ t : mSt, f48 s t → t 417 = s 417 := fun t ht => ht 417 (by decide)
  have wb : ∀ c, -1 ≤ W c ∧ W c < 6 := Wi.1
  let A : Int → mSt → Prop := fun y t => ∃ j : Nat, y = j ∧ j ≤ 6 ∧ (∀ c, c < j → t 427 c = W c ∧ t 426 c = -1 ∧ t 428 c = 0) ∧ (∀ c, j ≤ c → c < 6 → t 426 c = W c) ∧ f48 s t
  let B : Int → mSt → Prop := fun y t => ∃ j : Nat, y = j ∧ j ≤ N ∧ (∀ c, c < 6 → t 427 c = W c ∧ t 426 c = (wp1 K' W j).1 c ∧ t 428 c = (wp1 K' W j).2 c) ∧ f48 s t
  let C : Int → mSt → Prop := fun y t => ∃ j : Nat, y = j ∧ j ≤ N ∧ (∀ c, c < 6 → t 426 c = (wp2 K' x1 P j).1 c ∧ t 428 c = (wp2 K' x1 P j).2 c) ∧ f48 s t
  let E : Int → Int → mSt → Prop := fun y z t => ∃ j w : Nat, y = j ∧ j < N ∧ z = w ∧ K' j = true ∧ (wp2 K' x1 P j).1 j < 0 ∧ (w : Int) ≤ ldW (wp2 K' x1 P j).2 x1 ∧ (∀ c, c < 6 → t 426 c = (wp2 K' x1 P j).1 c ∧ t 428 c = (wp2 K' x1 P j).2 c) ∧ f48 s t
  have bb : ∀ (y : Int) (t : mSt), B y t → ¬ t 417 4 ≤ y → ∃ j : Nat, y = j ∧ j < N ∧ (∀ c, c < 6 → t 427 c = W c ∧ t 426 c = (wp1 K' W j).1 c ∧ t 428 c = (wp1 K' W j).2 c) ∧ f48 s t := fun y t ⟨j, e, hj, h2, ht⟩ hc => by
    rw [e7 t ht] at hc
    exact ⟨j, e, by omega, h2, ht⟩
  have cc : ∀ (y : Int) (t : mSt), C y t → ¬ t 417 4 ≤ y → ∃ j : Nat, y = j ∧ j < N ∧ (∀ c, c < 6 → t 426 c = (wp2 K' x1 P j).1 c ∧ t 428 c = (wp2 K' x1 P j).2 c) ∧ f48 s t := fun y t ⟨j, e, hj, h2, ht⟩ hc => by
    rw [e7 t ht] at hc
    exact ⟨j, e, by omega, h2, ht⟩
  have eK : ∀ (t : mSt) (j : Nat), f48 s t → j < N → ((((0 ≤ (j : Int) ∧ (j : Int) < t 417 4) ∧ t 417 (41 + ((j : Int)).toNat) = 0) ∧ kpt (t 417) ((j : Int)).toNat x2.toNat = true) ↔ K' j = true) := fun t j ht hj => by
    rw [e7 t ht, tnc]
    constructor
    · rintro ⟨⟨_, z⟩, z2⟩; exact kaB_i.2 ⟨pl_0.2 z, z2⟩
    · intro z
      have := kaB_i.1 z
      exact ⟨⟨by omega, pl_0.1 this.1⟩, this.2⟩
  have nb : ∀ (j : Nat) (t : mSt), j < N → ¬ (K' j = true ∧ 0 ≤ W j) → (∀ c, c < 6 → t 427 c = W c ∧ t 426 c = (wp1 K' W j).1 c ∧ t 428 c = (wp1 K' W j).2 c) → f48 s t → B (w32 ((j : Int) + 1)) t ∧ (160 - w32 ((j : Int) + 1)).toNat < (160 - (j : Int)).toNat := fun j t hj hz h2 ht => by
    have es : wp1 K' W (j + 1) = wp1 K' W j := by rw [wp1_s, if_neg hz]
    rw [w32_of (by omega)]
    exact ⟨⟨j + 1, by omega, by omega, by rw [es]; exact h2, ht⟩, by omega⟩
  have nc' : ∀ (j : Nat) (t : mSt), j < N → ¬ (K' j = true ∧ (wp2 K' x1 P j).1 j < 0) → (∀ c, c < 6 → t 426 c = (wp2 K' x1 P j).1 c ∧ t 428 c = (wp2 K' x1 P j).2 c) → f48 s t → C (w32 ((j : Int) + 1)) t ∧ (100 - 10 * w32 ((j : Int) + 1)).toNat < (100 - 10 * (j : Int)).toNat := fun j t hj hz h2 ht => by
    have es : wp2 K' x1 P (j + 1) = wp2 K' x1 P j := by rw [wp2_s, if_neg hz]
    rw [w32_of (by omega)]
    exact ⟨⟨j + 1, by omega, by omega, by rw [es]; exact h2, ht⟩, by omega⟩
  have nd : 0 = 0 := rfl
  refine v273 A (fun y _ => (200 - y).toNat) B (fun y _ => (160 - y).toNat) C (fun y _ => (100 - 10 * y).toNat) E (fun y z _ => (99 - 10 * y - z).toNat) ?_ ?_ ?_ ?_ ?_ ?_ ?_ ?_ ?_ ?_ ?_ ?_ ?_ ?_ ?_ ?_ ?_ ?_ ?_ ?_ ?_ ?_ ?_ ?_ ?_ ?_ ⟨0, rfl, by omega, fun c hc => by omega, fun c _ hc => hw c hc, fun _ _ => rfl⟩
  · rintro _ t ⟨j, rfl, hj, h2, h3, ht⟩ hc
    exact ⟨⟨0, rfl, by omega, fun c hc' => h2 c (by omega), ht⟩, by omega⟩
  · rintro _ t ⟨j, rfl, hj, h2, h3, ht⟩ hc
    omega
  · rintro _ t ⟨j, rfl, hj, h2, h3, ht⟩ hc
    rw [tnc, w32_of (by omega)]
    refine ⟨⟨j + 1, by omega, by omega, fun c hc' => ?_, fun c h1 hc' => ?_, fun b hb => by rw [uS_cell (by omega), uS_cell (by omega), uS_cell (by omega)]; exact ht b hb⟩, by omega⟩
    · rw [uS_cell (by decide), uS_cell (by decide), uS_cell (show (426 : Nat) ≠ 428 by decide), uS_at, uS_at, uS_at, uS_cell (show (426 : Nat) ≠ 427 by decide), uS_cell (show (428 : Nat) ≠ 426 by decide), uS_cell (show (428 : Nat) ≠ 427 by decide)]
      by_cases z : c = j
      · rw [if_pos z, if_pos z, if_pos z]; exact ⟨by rw [z]; exact h3 j (by omega) (by omega), rfl, rfl⟩
      · rw [if_neg z, if_neg z, if_neg z]; exact h2 c (by omega)
    · rw [uS_cell (by decide), uS_at, if_neg (by omega), uS_cell (by decide)]; exact h3 c (by omega) hc'
  · rintro _ t ⟨j, rfl, hj, h2, ht⟩ hc
    rw [e7 t ht] at hc
    have : j = N := by omega
    subst this
    exact ⟨⟨0, rfl, by omega, fun c hc' => (h2 c hc').2, ht⟩, by omega⟩
  · rintro _ t ⟨j, rfl, hj, h2, ht⟩ hc
    rw [e7 t ht]; exact h
  · intro y t hB hc q
    obtain ⟨j, rfl, hj, h2, ht⟩ := bb y t hB hc
    rw [e7 t ht]; exact ⟨h, by omega, hx⟩
  · intro y t hB hc q q2
    obtain ⟨j, rfl, hj, h2, ht⟩ := bb y t hB hc
    omega
  · intro y t hB hc q q2 q3
    obtain ⟨j, rfl, hj, h2, ht⟩ := bb y t hB hc
    omega
  · intro y t hB hc q q2 q3
    obtain ⟨j, rfl, hj, h2, ht⟩ := bb y t hB hc
    rw [tnc] at q3
    rw [uS_at, if_pos rfl, tnc, (h2 j (by omega)).1]
    rw [(h2 j (by omega)).1] at q3
    exact ⟨q3, (wb j).2⟩
  · intro y t hB hc q q2 q3 t8 h8
    obtain ⟨j, rfl, hj, h2, ht⟩ := bb y t hB hc
    rw [tnc, (h2 j (by omega)).1] at q3
    have z1 := (eK t j ht hj).1 ⟨q, q2⟩
    have w6 := wb j
    have b : 0 ≤ (wp1 K' W j).2 (W j).toNat ∧ (wp1 K' W j).2 (W j).toNat ≤ 6 := WI_b (P1 j (by omega)).1 (by omega)
    rw [tnc, uS_at, if_pos rfl, uS_cell (by decide), (h2 j (by omega)).1, (h2 (W j).toNat (by omega)).2.2, w32_of (by omega)] at h8
    have es : wp1 K' W (j + 1) = (up (wp1 K' W j).1 j (W j), up (wp1 K' W j).2 (W j).toNat ((wp1 K' W j).2 (W j).toNat + 1)) := by rw [wp1_s, if_pos ⟨z1, q3⟩]
    rw [w32_of (by omega)]
    refine ⟨⟨j + 1, by omega, by omega, fun c hc' => ?_, fun b hb => by rw [h8, uS_cell (by omega), uS_cell (by omega)]; exact ht b hb⟩, by omega⟩
    rw [es, h8]
    refine ⟨by rw [uS_cell (by decide), uS_cell (by decide)]; exact (h2 c hc').1, ?_, ?_⟩
    · rw [uS_cell (by decide), uS_at]
      dsimp only
      by_cases y : c = j
      · rw [if_pos y, y, up_at]
      · rw [if_neg y, up_ne y]; exact (h2 c hc').2.1
    · rw [uS_at, uS_cell (by decide)]
      dsimp only
      by_cases y : c = (W j).toNat
      · rw [if_pos y, y, up_at]
      · rw [if_neg y, up_ne y]; exact (h2 c hc').2.2
  · intro y t hB hc q q2 q3
    obtain ⟨j, rfl, hj, h2, ht⟩ := bb y t hB hc
    rw [tnc, (h2 j (by omega)).1] at q3
    have z := nb j t hj (fun w => q3 w.2) h2 ht
    exact z
  · intro y t hB hc q q2
    obtain ⟨j, rfl, hj, h2, ht⟩ := bb y t hB hc
    have z := nb j t hj (fun w => q2 ((eK t j ht hj).2 w.1).2) h2 ht
    exact z
  · intro y t hB hc q
    obtain ⟨j, rfl, hj, h2, ht⟩ := bb y t hB hc
    have z := nb j t hj (fun w => q ((eK t j ht hj).2 w.1).1) h2 ht
    exact z
  · rintro _ t ⟨j, rfl, hj, h2, ht⟩ hc
    rw [e7 t ht] at hc
    have : j = N := by omega
    subst this
    exact k t ⟨fun c hc' => (h2 c hc').1, ht⟩
  · intro y t hC hc
    obtain ⟨j, rfl, hj, h2, ht⟩ := cc y t hC hc
    rw [e7 t ht]; exact h
  · intro y t hC hc q
    obtain ⟨j, rfl, hj, h2, ht⟩ := cc y t hC hc
    rw [e7 t ht]; exact ⟨h, by omega, hx⟩
  · intro y t hC hc q q2
    obtain ⟨j, rfl, hj, h2, ht⟩ := cc y t hC hc
    omega
  · intro y t hC hc q q2 q3
    obtain ⟨j, rfl, hj, h2, ht⟩ := cc y t hC hc
    have z1 := (eK t j ht hj).1 ⟨q, q2⟩
    rw [tnc, (h2 j (by omega)).1] at q3
    have l : 0 ≤ ldW (wp2 K' x1 P j).2 x1 ∧ ldW (wp2 K' x1 P j).2 x1 < 6 := WI_ld (P2 j (by omega)).1 (show j < 6 by omega) q3 hn.1
    exact ⟨⟨j, 0, rfl, hj, rfl, z1, q3, by omega, h2, ht⟩, by omega⟩
  · intro y t hC hc q q2 q3
    obtain ⟨j, rfl, hj, h2, ht⟩ := cc y t hC hc
    rw [tnc, (h2 j (by omega)).1] at q3
    have z := nc' j t hj (fun w => q3 w.2) h2 ht
    exact z
  · intro y t hC hc q q2
    obtain ⟨j, rfl, hj, h2, ht⟩ := cc y t hC hc
    have z := nc' j t hj (fun w => q2 ((eK t j ht hj).2 w.1).2) h2 ht
    exact z
  · intro y t hC hc q
    obtain ⟨j, rfl, hj, h2, ht⟩ := cc y t hC hc
    have z := nc' j t hj (fun w => q ((eK t j ht hj).2 w.1).1) h2 ht
    exact z
  · rintro _ _ t ⟨j, w, rfl, hj, rfl, z1, z2, hl, h2, ht⟩
    have l : 0 ≤ ldW (wp2 K' x1 P j).2 x1 ∧ ldW (wp2 K' x1 P j).2 x1 < 6 := WI_ld (P2 j (by omega)).1 (show j < 6 by omega) z2 hn.1
    omega
  · rintro _ _ t ⟨j, w, rfl, hj, rfl, z1, z2, hl, h2, ht⟩ q
    omega
  · rintro _ _ t ⟨j, w, rfl, hj, rfl, z1, z2, hl, h2, ht⟩ q
    have l : 0 ≤ ldW (wp2 K' x1 P j).2 x1 ∧ ldW (wp2 K' x1 P j).2 x1 < 6 := WI_ld (P2 j (by omega)).1 (show j < 6 by omega) z2 hn.1
    omega
  · rintro _ _ t ⟨j, w, rfl, hj, rfl, z1, z2, hl, h2, ht⟩ q t21 h21
    have l : 0 ≤ ldW (wp2 K' x1 P j).2 x1 ∧ ldW (wp2 K' x1 P j).2 x1 < 6 := WI_ld (P2 j (by omega)).1 (show j < 6 by omega) z2 hn.1
    rw [tnc, (h2 w (by omega)).2] at q
    have ew : ldW (wp2 K' x1 P j).2 x1 = (w : Int) := by
      have sp := fd_spec (f := fun v => decide ((wp2 K' x1 P j).2 v < x1)) (n := 6) l.1
      by_cases y : (w : Int) < ldW (wp2 K' x1 P j).2 x1
      · have := sp.2 w (by show w < (ldW (wp2 K' x1 P j).2 x1).toNat; omega)
        simp at this; omega
      · omega
    have b : 0 ≤ (wp2 K' x1 P j).2 w ∧ (wp2 K' x1 P j).2 w ≤ 6 := WI_b (P2 j (by omega)).1 (by omega)
    rw [tnc, tnc, uS_cell (by decide), (h2 w (by omega)).2, w32_of (by omega)] at h21
    have es : wp2 K' x1 P (j + 1) = (up (wp2 K' x1 P j).1 j (w : Int), up (wp2 K' x1 P j).2 w ((wp2 K' x1 P j).2 w + 1)) := by rw [wp2_s, if_pos ⟨z1, z2⟩, ew, tnc]
    rw [w32_of (by omega)]
    refine ⟨⟨j + 1, by omega, by omega, fun c hc' => ?_, fun b hb => by rw [h21, uS_cell (by omega), uS_cell (by omega)]; exact ht b hb⟩, by omega⟩
    rw [es, h21]
    refine ⟨?_, ?_⟩
    · rw [uS_cell (by decide), uS_at]
      dsimp only
      by_cases y : c = j
      · rw [if_pos y, y, up_at]
      · rw [if_neg y, up_ne y]; exact (h2 c hc').1
    · rw [uS_at, uS_cell (by decide)]
      dsimp only
      by_cases y : c = w
      · rw [if_pos y, y, up_at]
      · rw [if_neg y, up_ne y]; exact (h2 c hc').2
  · rintro _ _ t ⟨j, w, rfl, hj, rfl, z1, z2, hl, h2, ht⟩ q
    have l : 0 ≤ ldW (wp2 K' x1 P j).2 x1 ∧ ldW (wp2 K' x1 P j).2 x1 < 6 := WI_ld (P2 j (by omega)).1 (show j < 6 by omega) z2 hn.1
    rw [tnc, (h2 w (by omega)).2] at q
    have ne : ¬ (w : Int) = ldW (wp2 K' x1 P j).2 x1 := fun y => by
      have sp := fd_spec (f := fun v => decide ((wp2 K' x1 P j).2 v < x1)) (n := 6) l.1
      have e : (fd (fun v => decide ((wp2 K' x1 P j).2 v < x1)) 6).toNat = w := by show (ldW (wp2 K' x1 P j).2 x1).toNat = w; omega
      rw [e] at sp
      have := sp.1
      simp at this; omega
    rw [w32_of (by omega)]
    exact ⟨⟨j, w + 1, rfl, hj, by omega, z1, z2, by omega, h2, ht⟩, by omega⟩
theorem v274 {X : (Nat → Int) × Nat} {d : Nat} {s : mSt} {Q : mQ} {x1 : Int} {x2 : Int} {x3 : Int}
  (I37 : Int → mSt → Prop) (m37 : Int → mSt → Nat)
  (I61 : Int → mSt → Prop) (m61 : Int → mSt → Nat)
  (z1 : ∀ y4 : Int, ∀ s : mSt, I37 y4 s → 6 ≤ y4 → I61 0 s ∧ m61 0 s < m37 y4 s)
  (z2 : ∀ y4 : Int, ∀ s : mSt, I37 y4 s → ¬ 6 ≤ y4 → 0 ≤ y4 ∧ y4 < 6)
  (z3 : ∀ y4 : Int, ∀ s : mSt, I37 y4 s → ¬ 6 ≤ y4 → I37 (w32 (y4 + 1)) (uS s 426 y4.toNat (-1)) ∧ m37 (w32 (y4 + 1)) (uS s 426 y4.toNat (-1)) < m37 y4 s)
  (z4 : ∀ y4 : Int, ∀ s : mSt, I61 y4 s → x3 < y4 → 0 ≤ x2 ∧ x2 < 6)
  (z5 : ∀ y4 : Int, ∀ s : mSt, I61 y4 s → x3 < y4 → 0 ≤ (s 426 x2.toNat) → 0 ≤ x2 ∧ x2 < 6)
  (z6 : ∀ y4 : Int, ∀ s : mSt, I61 y4 s → x3 < y4 → 0 ≤ (s 426 x2.toNat) → Q (some (mI (s 426 x2.toNat))) s)
  (z7 : ∀ y4 : Int, ∀ s : mSt, I61 y4 s → x3 < y4 → ¬ 0 ≤ (s 426 x2.toNat) → Q (some (mI (-2))) s)
  (z8 : ∀ y4 : Int, ∀ s : mSt, I61 y4 s → ¬ x3 < y4 → Ok (s 417) ∧ (1 ≤ x1 ∧ x1 ≤ 6) ∧ (0 ≤ y4 ∧ y4 < 30) ∧ ∀ c, c < 6 → s 426 c = WT (kaB (s 417)) (nc (s 417)) x1 y4.toNat c)
  (z9 : ∀ y4 : Int, ∀ s : mSt, I61 y4 s → ¬ x3 < y4 → ∀ s7 : mSt, ((∀ c, c < 6 → s7 426 c = WT (kaB (s 417)) (nc (s 417)) x1 (y4.toNat + 1) c) ∧ f48 s s7) → I61 (w32 (y4 + 1)) s7 ∧ m61 (w32 (y4 + 1)) s7 < m61 y4 s)
  (z10 : ((1 : Int) ≤ x1 ∧ x1 ≤ (6 : Int)) → Ok (s 417))
  (z11 : ((1 : Int) ≤ x1 ∧ x1 ≤ (6 : Int)) → ((0 ≤ x2 ∧ x2 < s 417 4) ∧ s 417 (41 + x2.toNat) = 0) → ((0 : Int) ≤ x3 ∧ x3 ≤ (29 : Int)) → I37 0 s)
  (z12 : ((1 : Int) ≤ x1 ∧ x1 ≤ (6 : Int)) → ((0 ≤ x2 ∧ x2 < s 417 4) ∧ s 417 (41 + x2.toNat) = 0) → (¬ ((0 : Int) ≤ x3 ∧ x3 ≤ (29 : Int))) → Q (some (mI (-1))) s)
  (z13 : ((1 : Int) ≤ x1 ∧ x1 ≤ (6 : Int)) → (¬ ((0 ≤ x2 ∧ x2 < s 417 4) ∧ s 417 (41 + x2.toNat) = 0)) → Q (some (mI (-1))) s)
  (z14 : (¬ ((1 : Int) ≤ x1 ∧ x1 ≤ (6 : Int))) → Q (some (mI (-1))) s) :
  Sp X (d + 5) 274 [mR 407, mI x1, mI x2, mI x3] s Q := by
  have L : ∀ k : Nat, (∀ (y4 : Int) (s : mSt), I37 y4 s → m37 y4 s < k → Wp X (d + 5) 274 37 [some (mR 407), some (mI x1), some (mI x2), some (mI x3), some (mI y4)] [] s Q) ∧ (∀ (y4 : Int) (s : mSt), I61 y4 s → m61 y4 s < k → Wp X (d + 5) 274 61 [some (mR 407), some (mI x1), some (mI x2), some (mI x3), some (mI y4)] [] s Q) := by
    intro k
    induction k with
    | zero => exact ⟨fun _ _ _ h => absurd h (Nat.not_lt_zero _), fun _ _ _ h => absurd h (Nat.not_lt_zero _)⟩
    | succ k ih => exact ⟨fun y4 s hI hm => b274_37 (fun q1 => b274_58 (ih.2 0 s (z1 y4 s hI q1).1 (Nat.lt_of_lt_of_le (z1 y4 s hI q1).2 (Nat.le_of_lt_succ hm)))) (fun q2 => b274_44 (z2 y4 s hI q2) (ih.1 (w32 (y4 + 1)) (uS s 426 y4.toNat (-1)) (z3 y4 s hI q2).1 (Nat.lt_of_lt_of_le (z3 y4 s hI q2).2 (Nat.le_of_lt_succ hm)))), fun y4 s hI hm => b274_61 (fun q3 => b274_80 (z4 y4 s hI q3) (fun q4 => b274_94 (z5 y4 s hI q3 q4) (b274_100 (z6 y4 s hI q3 q4))) (fun q5 => b274_89 (b274_100 (z7 y4 s hI q3 q5)))) (fun q6 => b274_67 (c273 (z8 y4 s hI q6) (fun s7 q7 => ⟨rfl, b274_74 (ih.2 (w32 (y4 + 1)) s7 (z9 y4 s hI q6 s7 q7).1 (Nat.lt_of_lt_of_le (z9 y4 s hI q6 s7 q7).2 (Nat.le_of_lt_succ hm)))⟩)))⟩
  exact e274 (b274_0 (c167  (fun q8 => ⟨1, rfl, b274_9 (fun q => absurd q (by decide)) (fun _ => b274_12 (c216 (z10 q8) (fun q9 => ⟨1, rfl, b274_17 (fun q => absurd q (by decide)) (fun _ => b274_20 (c167  (fun q10 => ⟨1, rfl, b274_29 (fun _ => b274_34 ((L (m37 0 s + 1)).1 0 s (z11 q8 q9 q10) (Nat.lt_succ_self _))) (fun q => absurd q (by decide))⟩) (fun q11 => ⟨0, rfl, b274_29 (fun q => absurd q (by decide)) (fun _ => b274_32 (z12 q8 q9 q11))⟩)))⟩) (fun q12 => ⟨0, rfl, b274_17 (fun _ => b274_32 (z13 q8 q12)) (fun q => absurd q (by decide))⟩)))⟩) (fun q13 => ⟨0, rfl, b274_9 (fun _ => b274_32 (z14 q13)) (fun q => absurd q (by decide))⟩)))

theorem c145 {X : (Nat → Int) × Nat} {d : Nat} {s : mSt} {Q : mQ} {x1 : Int} {x2 : Int} {x3 : Int} (p1 : BI s 18) (k : ∀ (v : Int) (t : mSt), (caQ (brow s 18) x1 x2 x3 v ∧ f12 s t) → Q (some (mI v)) t) : Sp X (d + 4) 145 [mR 0, mI x1, mI x2, mI x3] s Q := by
  have hB := p1
  have e4 := bi4 hB
  have dI : ((0 ≤ x2 ∧ x2 < s 18 3) ∧ pl (brow s 18) x2.toNat = true) ↔ drC (brow s 18) x2 := by unfold drC; rw [← e4]
  have no : ¬ ((1 ≤ x1 ∧ x1 ≤ 6) ∧ drC (brow s 18) x2 ∧ (0 ≤ x3 ∧ x3 < 30)) → Q (some (mI (-1))) s := fun w => k _ s ⟨YN_n w rfl, fun _ _ _ => rfl⟩
  refine v145 (fun g => no (by omega)) (fun g1 g2 => no (by omega)) (fun _ _ => hB) (fun g1 g2 g3 g4 => ⟨hB, g3.1, g4⟩) (fun g1 g2 g3 g4 g5 => ⟨hB, by decide, by omega, g3.1, g4⟩) (fun g1 g2 g3 g4 g5 v t ht => ?_) (fun g1 g2 g3 g4 g5 => ?_) (fun g1 g2 g3 g4 => no (fun z => g4 z.2.2)) (fun g1 g2 g3 => no (fun z => g3 (dI.2 z.2.1)))
  · have z := kaB_i.2 g5
    exact k _ t ⟨YN_y ⟨by omega, dI.1 g3, g4⟩ (by rw [if_pos z]; exact ht.1 z), ht.2⟩
  · exact k _ s ⟨YN_y ⟨by omega, dI.1 g3, g4⟩ (by rw [if_neg (fun z => g5 (kaB_i.1 z))]), fun _ _ _ => rfl⟩
theorem c274 {X : (Nat → Int) × Nat} {d : Nat} {s : mSt} {Q : mQ} {x1 : Int} {x2 : Int} {x3 : Int} (p1 : Ok (s 417)) (k : ∀ (v : Int) (t : mSt), (caQ (s 417) x1 x2 x3 v ∧ f48 s t) → Q (some (mI v)) t) : Sp X (d + 5) 274 [mR 407, mI x1, mI x2, mI x3] s Q := by
  have h := p1
  have h4 := ncI h
  have n6 := nc_le h
  have dI : ((0 ≤ x2 ∧ x2 < s 417 4) ∧ s 417 (41 + x2.toNat) = 0) ↔ drC (s 417) x2 := by unfold drC; rw [pl_0]
  let G : Prop := (1 ≤ x1 ∧ x1 ≤ 6) ∧ drC (s 417) x2 ∧ (0 ≤ x3 ∧ x3 < 30)
  have no : ¬ G → Q (some (mI (-1))) s := fun w => k _ s ⟨YN_n w rfl, fun _ _ => rfl⟩
  let W := WT (kaB (s 417)) (nc (s 417)) x1
  have e7 : ∀ t : mSt, f48 s t → t 417 = s 417 := fun t ht => ht 417 (by decide)
  let A : Int → mSt → Prop := fun y t => ∃ j : Nat, y = j ∧ j ≤ 6 ∧ G ∧ (∀ c, c < j → t 426 c = -1) ∧ f48 s t
  let B : Int → mSt → Prop := fun y t => ∃ j : Nat, y = j ∧ (j : Int) ≤ x3 + 1 ∧ G ∧ (∀ c, c < 6 → t 426 c = W j c) ∧ f48 s t
  have wi : G → (0 ≤ W (x3.toNat + 1) x2.toNat ↔ kaB (s 417) x2.toNat x3.toNat = true) := fun g => by
    have q := (WT_i (K := kaB (s 417)) (N := nc (s 417)) (n := x1) n6 g.1.1 x3.toNat).2 x2.toNat
    have := g.2.1.1
    exact ⟨fun z => (q.1 z).2, fun z => q.2 ⟨by omega, z⟩⟩
  refine v274 A (fun y _ => (100 - y).toNat) B (fun y _ => (50 - y).toNat) ?_ ?_ ?_ ?_ ?_ ?_ ?_ ?_ ?_ (fun _ => h) (fun g1 g2 g3 => ⟨0, rfl, by omega, ⟨g1, dI.1 g2, by omega⟩, fun c hc => by omega, fun _ _ => rfl⟩) (fun g1 g2 g3 => no (fun z => g3 (by have := z.2.2; omega))) (fun g1 g2 => no (fun z => g2 (dI.2 z.2.1))) (fun g1 => no (fun z => g1 z.1))
  · rintro _ t ⟨j, rfl, hj, g, ha, ht⟩ hc
    have g3 := g.2.2
    exact ⟨⟨0, rfl, by omega, g, fun c hc' => ha c (by omega), ht⟩, by omega⟩
  · rintro _ t ⟨j, rfl, hj, g, ha, ht⟩ hc
    omega
  · rintro _ t ⟨j, rfl, hj, g, ha, ht⟩ hc
    rw [tnc, w32_of (by omega)]
    refine ⟨⟨j + 1, by omega, by omega, g, fun c hc' => ?_, fun b hb => by rw [uS_cell (by omega)]; exact ht b hb⟩, by omega⟩
    rw [uS_at]
    by_cases z : c = j
    · rw [if_pos z]
    · rw [if_neg z]; exact ha c (by omega)
  · rintro _ t ⟨j, rfl, hj, g, ha, ht⟩ hc
    have := g.2.1.1
    omega
  · rintro _ t ⟨j, rfl, hj, g, ha, ht⟩ hc q
    have := g.2.1.1
    omega
  · rintro _ t ⟨j, rfl, hj, g, ha, ht⟩ hc q
    have g2 := g.2.1.1
    have g3 := g.2.2
    have e : j = x3.toNat + 1 := by omega
    rw [ha _ (by omega), e] at q ⊢
    exact k _ t ⟨YN_y g (by rw [if_pos ((wi g).1 q)]), ht⟩
  · rintro _ t ⟨j, rfl, hj, g, ha, ht⟩ hc q
    have g2 := g.2.1.1
    have g3 := g.2.2
    have e : j = x3.toNat + 1 := by omega
    rw [ha _ (by omega), e] at q
    exact k _ t ⟨YN_y g (by rw [if_neg (fun z => q ((wi g).2 z))]), ht⟩
  · rintro _ t ⟨j, rfl, hj, g, ha, ht⟩ hc
    have g3 := g.2.2
    rw [e7 t ht, tnc]; exact ⟨h, g.1, by omega, ha⟩
  · rintro _ t ⟨j, rfl, hj, g, ha, ht⟩ hc u hu
    have g3 := g.2.2
    rw [e7 t ht, tnc] at hu
    rw [w32_of (by omega)]
    exact ⟨⟨j + 1, by omega, by omega, g, hu.1, fun b hb => (hu.2 b hb).trans (ht b hb)⟩, by omega⟩
