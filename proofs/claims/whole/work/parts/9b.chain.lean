/-! who watches whom -/
def wp1 (K : Nat → Bool) (W : Nat → Int) : Nat → (Nat → Int) × (Nat → Int)
  | 0 => (fun _ => -1, fun _ => 0)
  | c + 1 => if K c = true ∧ 0 ≤ W c then (up (wp1 K W c).1 c (W c), up (wp1 K W c).2 (W c).toNat ((wp1 K W c).2 (W c).toNat + 1)) else wp1 K W c
theorem wp1_s (K : Nat → Bool) (W : Nat → Int) (c : Nat) : wp1 K W (c + 1) = if K c = true ∧ 0 ≤ W c then (up (wp1 K W c).1 c (W c), up (wp1 K W c).2 (W c).toNat ((wp1 K W c).2 (W c).toNat + 1)) else wp1 K W c := rfl
def ldW (q : Nat → Int) (n : Int) : Int := fd (fun w => decide (q w < n)) 6
def wp2 (K : Nat → Bool) (n : Int) (p : (Nat → Int) × (Nat → Int)) : Nat → (Nat → Int) × (Nat → Int)
  | 0 => p
  | c + 1 => if K c = true ∧ (wp2 K n p c).1 c < 0 then (up (wp2 K n p c).1 c (ldW (wp2 K n p c).2 n), up (wp2 K n p c).2 (ldW (wp2 K n p c).2 n).toNat ((wp2 K n p c).2 (ldW (wp2 K n p c).2 n).toNat + 1)) else wp2 K n p c
theorem wp2_s (K : Nat → Bool) (n : Int) (p : (Nat → Int) × (Nat → Int)) (c : Nat) : wp2 K n p (c + 1) = if K c = true ∧ (wp2 K n p c).1 c < 0 then (up (wp2 K n p c).1 c (ldW (wp2 K n p c).2 n), up (wp2 K n p c).2 (ldW (wp2 K n p c).2 n).toNat ((wp2 K n p c).2 (ldW (wp2 K n p c).2 n).toNat + 1)) else wp2 K n p c := rfl
def WT (K : Nat → Nat → Bool) (N : Nat) (n : Int) : Nat → Nat → Int
  | 0 => fun _ => -1
  | t + 1 => (wp2 (fun c => K c t) n (wp1 (fun c => K c t) (WT K N n t) N) N).1
theorem WT_s (K : Nat → Nat → Bool) (N : Nat) (n : Int) (t : Nat) : WT K N n (t + 1) = (wp2 (fun c => K c t) n (wp1 (fun c => K c t) (WT K N n t) N) N).1 := rfl
theorem sm_up {q : Nat → Int} {w : Nat} {x : Int} : ∀ {n : Nat}, sm (up q w x) n = sm q n + (if w < n then x - q w else 0)
  | 0 => by simp [sm]
  | n + 1 => by
    rw [sm_s, sm_s, sm_up (n := n)]
    by_cases z : w = n
    · subst z; rw [up_at, if_neg (by omega), if_pos (by omega)]; omega
    · rw [up_ne (fun y => z y.symm)]
      by_cases y : w < n
      · rw [if_pos y, if_pos (by omega)]; omega
      · rw [if_neg y, if_neg (by omega)]; omega
theorem sm_g1 {q : Nat → Int} : ∀ {n : Nat}, (∀ i, i < n → 1 ≤ q i) → (n : Int) ≤ sm q n
  | 0, _ => by simp [sm]
  | n + 1, h => by
    have := sm_g1 (q := q) (n := n) (fun i hi => h i (by omega))
    have := h n (by omega)
    rw [sm_s]; omega
theorem cn_l1 {f : Nat → Bool} {j : Nat} : ∀ {n : Nat}, j < n → f j = false → cn f n + 1 ≤ n
  | n + 1, hj, h => by
    rw [cn_s]
    by_cases z : j = n
    · subst z
      have := (cn_le (f := f) (n := j)).2
      rw [h]; simp; omega
    · have := cn_l1 (f := f) (n := n) (j := j) (by omega) h
      split <;> omega
/-- watchers and how many each keeps -/
def WI (p : (Nat → Int) × (Nat → Int)) : Prop := (∀ c, -1 ≤ p.1 c ∧ p.1 c < 6) ∧ (∀ w, 0 ≤ p.2 w) ∧ sm p.2 6 = cn (fun c => decide (0 ≤ p.1 c)) 6
theorem WI_up {p : (Nat → Int) × (Nat → Int)} (h : WI p) {c : Nat} (hc : c < 6) (hp : p.1 c < 0) {x : Int} (hx : 0 ≤ x ∧ x < 6) : WI (up p.1 c x, up p.2 x.toNat (p.2 x.toNat + 1)) := by
  obtain ⟨h1, h2, h3⟩ := h
  refine ⟨fun i => ?_, fun w => ?_, ?_⟩
  · dsimp only
    by_cases z : i = c
    · rw [z, up_at]; omega
    · rw [up_ne z]; exact h1 i
  · dsimp only
    by_cases z : w = x.toNat
    · rw [z, up_at]; have := h2 x.toNat; omega
    · rw [up_ne z]; exact h2 w
  · dsimp only
    rw [sm_up, if_pos (by omega), h3]
    have e : cn (fun i => decide (0 ≤ up p.1 c x i)) 6 = cn (fun i => decide (0 ≤ p.1 i)) 6 + (if true = true then 1 else 0) := cn_up (f := fun i => decide (0 ≤ p.1 i)) (f' := fun i => decide (0 ≤ up p.1 c x i)) (h := true) hc (by simp; omega) (by show decide (0 ≤ up p.1 c x c) = true; rw [up_at]; simp; omega) (fun q hq => by show decide (0 ≤ up p.1 c x q) = decide (0 ≤ p.1 q); rw [up_ne hq])
    rw [e, if_pos rfl]; omega
theorem WI_ld {p : (Nat → Int) × (Nat → Int)} (h : WI p) {c : Nat} (hc : c < 6) (hp : p.1 c < 0) {n : Int} (hn : 1 ≤ n) : 0 ≤ ldW p.2 n ∧ ldW p.2 n < 6 := by
  have b := fd_ge (f := fun w => decide (p.2 w < n)) (n := 6)
  refine ⟨?_, by unfold ldW; omega⟩
  apply Int.not_lt.1
  intro z
  have a := fd_neg.1 z
  have s1 := sm_g1 (q := p.2) (n := 6) (fun i hi => by
    have := a i hi
    simp at this; omega)
  have s2 := cn_l1 (f := fun c => decide (0 ≤ p.1 c)) (j := c) (n := 6) hc (by simp; omega)
  have := h.2.2
  omega
theorem wp1_i {K : Nat → Bool} {W : Nat → Int} (hW : ∀ c, -1 ≤ W c ∧ W c < 6) : ∀ j, j ≤ 6 → WI (wp1 K W j) ∧ ∀ c, (wp1 K W j).1 c = if c < j ∧ K c = true ∧ 0 ≤ W c then W c else -1
  | 0, _ => ⟨⟨fun _ => by show (-1 : Int) ≤ -1 ∧ (-1 : Int) < 6; decide, fun _ => Int.le_refl 0, by show sm (fun _ => 0) 6 = cn (fun c => decide ((0 : Int) ≤ -1)) 6; decide +kernel⟩, fun c => by rw [if_neg (by omega)]; rfl⟩
  | j + 1, hj => by
    have ih := wp1_i (K := K) hW j (by omega)
    rw [wp1_s]
    by_cases z : K j = true ∧ 0 ≤ W j
    · rw [if_pos z]
      have e := ih.2 j
      rw [if_neg (by omega)] at e
      refine ⟨WI_up ih.1 (by omega) (by omega) ⟨z.2, (hW j).2⟩, fun c => ?_⟩
      dsimp only
      by_cases y : c = j
      · rw [y, up_at, if_pos ⟨by omega, z⟩]
      · rw [up_ne y, ih.2 c]
        by_cases w : c < j ∧ K c = true ∧ 0 ≤ W c
        · rw [if_pos w, if_pos ⟨by omega, w.2⟩]
        · rw [if_neg w, if_neg (fun v => w ⟨by omega, v.2⟩)]
    · rw [if_neg z]
      refine ⟨ih.1, fun c => ?_⟩
      rw [ih.2 c]
      by_cases w : c < j ∧ K c = true ∧ 0 ≤ W c
      · rw [if_pos w, if_pos ⟨by omega, w.2⟩]
      · rw [if_neg w, if_neg (fun v => w ⟨by
          by_cases y : c = j
          · rw [y] at v; exact absurd v.2 z
          · omega, v.2⟩)]
theorem wp2_i {K : Nat → Bool} {n : Int} {p : (Nat → Int) × (Nat → Int)} (hn : 1 ≤ n) (hp : WI p) : ∀ j, j ≤ 6 → WI (wp2 K n p j) ∧ (∀ c, j ≤ c → (wp2 K n p j).1 c = p.1 c) ∧ (∀ c, 0 ≤ p.1 c → (wp2 K n p j).1 c = p.1 c) ∧ ∀ c, c < j → (0 ≤ (wp2 K n p j).1 c ↔ K c = true ∨ 0 ≤ p.1 c)
  | 0, _ => ⟨hp, fun _ _ => rfl, fun _ _ => rfl, fun c hc => by omega⟩
  | j + 1, hj => by
    have ih := wp2_i (K := K) hn hp j (by omega)
    have ej := ih.2.1 j (by omega)
    rw [wp2_s]
    by_cases z : K j = true ∧ (wp2 K n p j).1 j < 0
    · rw [if_pos z]
      have l := WI_ld ih.1 (show j < 6 by omega) z.2 hn
      refine ⟨WI_up ih.1 (by omega) z.2 l, fun c hc => ?_, fun c hc => ?_, fun c hc => ?_⟩
      · dsimp only; rw [up_ne (by omega)]; exact ih.2.1 c (by omega)
      · dsimp only
        by_cases y : c = j
        · rw [y] at hc; omega
        · rw [up_ne y]; exact ih.2.2.1 c hc
      · dsimp only
        by_cases y : c = j
        · rw [y, up_at]; exact ⟨fun _ => Or.inl z.1, fun _ => l.1⟩
        · rw [up_ne y]; exact ih.2.2.2 c (by omega)
    · rw [if_neg z]
      refine ⟨ih.1, fun c hc => ih.2.1 c (by omega), ih.2.2.1, fun c hc => ?_⟩
      by_cases y : c = j
      · rw [y, ej]
        constructor
        · exact fun w => Or.inr w
        · rintro (w | w)
          · apply Int.not_lt.1; intro v; exact z ⟨w, by rw [ej]; exact v⟩
          · exact w
      · exact ih.2.2.2 c (by omega)
theorem WT_i {K : Nat → Nat → Bool} {N : Nat} {n : Int} (hN : N ≤ 6) (hn : 1 ≤ n) : ∀ t, (∀ c, -1 ≤ WT K N n t c ∧ WT K N n t c < 6) ∧ ∀ c, 0 ≤ WT K N n (t + 1) c ↔ c < N ∧ K c t = true
  | t => by
    have base : ∀ c, -1 ≤ WT K N n t c ∧ WT K N n t c < 6 := by
      induction t with
      | zero => exact fun _ => by show (-1 : Int) ≤ -1 ∧ (-1 : Int) < 6; decide
      | succ t ih => exact (wp2_i (K := fun c => K c t) hn (wp1_i (K := fun c => K c t) ih N hN).1 N hN).1.1
    refine ⟨base, fun c => ?_⟩
    have i1 := wp1_i (K := fun c => K c t) base N hN
    have i2 := wp2_i (K := fun c => K c t) hn i1.1 N hN
    rw [WT_s]
    by_cases z : c < N
    · rw [i2.2.2.2 c z, i1.2 c]
      constructor
      · rintro (w | w)
        · exact ⟨z, w⟩
        · by_cases y : c < N ∧ K c t = true ∧ 0 ≤ WT K N n t c
          · exact ⟨z, y.2.1⟩
          · rw [if_neg y] at w; omega
      · exact fun w => Or.inl w.2
    · rw [i2.2.1 c (by omega), i1.2 c, if_neg (fun w => z w.1)]
      exact ⟨fun w => by omega, fun w => absurd w.1 z⟩
def kaB (a : Rw) (c t : Nat) : Bool := pl a c && kpt a c t
theorem kaB_i {a : Rw} {c t : Nat} : kaB a c t = true ↔ pl a c = true ∧ kpt a c t = true := by unfold kaB; rw [Bool.and_eq_true]
theorem v50 {X : (Nat → Int) × Nat} {d : Nat} {s : mSt} {Q : mQ} {a0 : Nat} {x1 : Int} {x2 : Int} (h0 : isBd a0)
  (z1 : x2 ≤ 0 → Q (some (mI 0)) s)
  (z2 : ¬ x2 ≤ 0 → BI s a0 ∧ (0 ≤ x1 ∧ x1 < s a0 3) ∧ (0 ≤ (w32 (x2 - 1)) ∧ (w32 (x2 - 1)) < 30))
  (z3 : ¬ x2 ≤ 0 → (pl (brow s a0) x1.toNat = true ∧ kpt (brow s a0) x1.toNat (w32 (x2 - 1)).toNat = true) → Q (some (mI 1)) s)
  (z4 : ¬ x2 ≤ 0 → (¬ (pl (brow s a0) x1.toNat = true ∧ kpt (brow s a0) x1.toNat (w32 (x2 - 1)).toNat = true)) → Q (some (mI 0)) s) :
  Sp X (d + 1) 50 [mR a0, mI x1, mI x2] s Q := e50 (b50_0 h0 (fun q1 => b50_19 h0 (b50_20 h0 (z1 q1) (Or.inl rfl))) (fun q2 => b50_4 h0 (c20 h0 (z2 q2) (fun q3 => ⟨1, rfl, b50_12 h0 (fun q => absurd q (by decide)) (fun _ => b50_15 h0 (b50_20 h0 (z3 q2 q3) (Or.inr rfl)))⟩) (fun q4 => ⟨0, rfl, b50_12 h0 (fun _ => b50_19 h0 (b50_20 h0 (z4 q2 q4) (Or.inl rfl))) (fun q => absurd q (by decide))⟩))))

theorem c50 {X : (Nat → Int) × Nat} {d : Nat} {s : mSt} {Q : mQ} {a0 : Nat} {x1 : Int} {x2 : Int} (h0 : isBd a0) (p1 : BI s a0 ∧ (0 ≤ x1 ∧ x1 < s a0 3) ∧ (0 ≤ x2 ∧ x2 < 30)) (k1 : (0 < x2 ∧ kaB (brow s a0) x1.toNat (x2.toNat - 1) = true) → Q (some (mI 1)) s) (k0 : ¬ (0 < x2 ∧ kaB (brow s a0) x1.toNat (x2.toNat - 1) = true) → Q (some (mI 0)) s) : Sp X (d + 1) 50 [mR a0, mI x1, mI x2] s Q := by
  obtain ⟨hB, h1, h2⟩ := p1
  have e : ¬ x2 ≤ 0 → (w32 (x2 - 1)).toNat = x2.toNat - 1 := fun z => wt (by omega) (by omega)
  refine v50 h0 (fun z => k0 (fun w => by omega)) (fun z => ⟨hB, h1, by rw [w32_of (by omega)]; omega⟩) (fun z q => ?_) (fun z q => ?_)
  · rw [e z] at q
    exact k1 ⟨by omega, kaB_i.2 q⟩
  · rw [e z] at q
    exact k0 (fun w => q (kaB_i.1 w.2))
theorem v51 {X : (Nat → Int) × Nat} {d : Nat} {s : mSt} {Q : mQ} {x1 : Int}
  (I2 : Int → Prop) (m2 : Int → Nat)
  (z1 : ∀ y2 : Int, I2 y2 → 5 ≤ y2 → Q (some (mI 5)) s)
  (z2 : ∀ y2 : Int, I2 y2 → ¬ 5 ≤ y2 → 0 ≤ y2 ∧ y2 < 6)
  (z3 : ∀ y2 : Int, I2 y2 → ¬ 5 ≤ y2 → x1 ≤ (s 82 y2.toNat) → I2 (w32 (y2 + 1)) ∧ m2 (w32 (y2 + 1)) < m2 y2)
  (z4 : ∀ y2 : Int, I2 y2 → ¬ 5 ≤ y2 → ¬ x1 ≤ (s 82 y2.toNat) → Q (some (mI y2)) s)
  (z5 : I2 0) :
  Sp X d 51 [mR 76, mI x1] s Q := by
  have L : ∀ k : Nat, (∀ (y2 : Int), I2 y2 → m2 y2 < k → Wp X d 51 2 [some (mR 76), some (mI x1), some (mI y2)] [] s Q) := by
    intro k
    induction k with
    | zero => exact fun _ _ h => absurd h (Nat.not_lt_zero _)
    | succ k ih => exact fun y2 hI hm => b51_2 (fun q1 => b51_25 (z1 y2 hI q1)) (fun q2 => b51_7 (z2 y2 hI q2) (fun q3 => b51_19 (ih (w32 (y2 + 1)) (z3 y2 hI q2 q3).1 (Nat.lt_of_lt_of_le (z3 y2 hI q2 q3).2 (Nat.le_of_lt_succ hm)))) (fun q4 => b51_17 (z4 y2 hI q2 q4)))
  exact e51 (b51_0 ((L (m2 0 + 1)) 0 z5 (Nat.lt_succ_self _)))

theorem c51 {X : (Nat → Int) × Nat} {d : Nat} {s : mSt} {Q : mQ} {x1 : Int} (p1 : 1 ≤ x1) (k : ∀ (v : Int) (t : mSt), ((0 ≤ ldW (s 82) x1 → v = ldW (s 82) x1) ∧ t = s) → Q (some (mI v)) t) : Sp X d 51 [mR 76, mI x1] s Q := by
  let f : Nat → Bool := fun w => decide (s 82 w < x1)
  have hf : ∀ i, f i = true ↔ s 82 i < x1 := fun i => by show decide (s 82 i < x1) = true ↔ _; simp
  refine v51 (fun y => ∃ j : Nat, y = j ∧ j ≤ 5 ∧ ∀ i, i < j → f i = false) (fun y => (6 - y).toNat) ?_ ?_ ?_ ?_ ⟨0, rfl, by omega, fun i hi => by omega⟩
  · rintro _ ⟨j, rfl, hj, ha⟩ hc
    have : j = 5 := by omega
    subst this
    refine k _ s ⟨fun z => ?_, rfl⟩
    have sp := fd_spec (f := f) (n := 6) z
    have ge := fd_ge (f := f) (n := 6)
    have e : ldW (s 82) x1 = fd f 6 := rfl
    rw [e]
    by_cases y : (fd f 6).toNat < 5
    · have := ha _ y
      rw [sp.1] at this; exact absurd this (by decide)
    · omega
  · rintro _ ⟨j, rfl, hj, ha⟩ hc
    omega
  · rintro _ ⟨j, rfl, hj, ha⟩ hc q
    rw [tnc] at q
    rw [w32_of (by omega)]
    refine ⟨⟨j + 1, by omega, by omega, fun i hi => ?_⟩, by omega⟩
    by_cases z : i = j
    · rw [z]; exact Bool.eq_false_iff.2 (fun w => by have := (hf j).1 w; omega)
    · exact ha i (by omega)
  · rintro _ ⟨j, rfl, hj, ha⟩ hc q
    rw [tnc] at q
    refine k _ s ⟨fun z => ?_, rfl⟩
    have e : fd f 6 = (j : Int) := fd_eq (by omega) ((hf j).2 (by omega)) ha
    show (j : Int) = fd f 6
    rw [e]
def f12 (s t : mSt) : Prop := ∀ b, b ≠ 81 → b ≠ 82 → t b = s b
theorem v49 {X : (Nat → Int) × Nat} {d : Nat} {s : mSt} {Q : mQ} {a1 : Nat} {x2 : Int} {x3 : Int} (h1 : isBd a1)
  (I3 : Int → mSt → Prop) (m3 : Int → mSt → Nat)
  (I27 : Int → mSt → Prop) (m27 : Int → mSt → Nat)
  (I81 : Int → mSt → Prop) (m81 : Int → mSt → Nat)
  (z1 : ∀ y4 : Int, ∀ s : mSt, I3 y4 s → 6 ≤ y4 → I27 0 s ∧ m27 0 s < m3 y4 s)
  (z2 : ∀ y4 : Int, ∀ s : mSt, I3 y4 s → ¬ 6 ≤ y4 → 0 ≤ y4 ∧ y4 < 6)
  (z3 : ∀ y4 : Int, ∀ s : mSt, I3 y4 s → ¬ 6 ≤ y4 → I3 (w32 (y4 + 1)) (uS s 82 y4.toNat 0) ∧ m3 (w32 (y4 + 1)) (uS s 82 y4.toNat 0) < m3 y4 s)
  (z4 : ∀ y4 : Int, ∀ s : mSt, I27 y4 s → (s a1 3) ≤ y4 → I81 0 s ∧ m81 0 s < m27 y4 s)
  (z5 : ∀ y4 : Int, ∀ s : mSt, I27 y4 s → ¬ (s a1 3) ≤ y4 → BI s a1 ∧ (0 ≤ y4 ∧ y4 < s a1 3) ∧ (0 ≤ x3 ∧ x3 < 30))
  (z6 : ∀ y4 : Int, ∀ s : mSt, I27 y4 s → ¬ (s a1 3) ≤ y4 → (pl (brow s a1) y4.toNat = true ∧ kpt (brow s a1) y4.toNat x3.toNat = true) → BI s a1 ∧ (0 ≤ y4 ∧ y4 < s a1 3) ∧ (0 ≤ x3 ∧ x3 < 30))
  (z7 : ∀ y4 : Int, ∀ s : mSt, I27 y4 s → ¬ (s a1 3) ≤ y4 → (pl (brow s a1) y4.toNat = true ∧ kpt (brow s a1) y4.toNat x3.toNat = true) → (0 < x3 ∧ kaB (brow s a1) y4.toNat (x3.toNat - 1) = true) → 0 ≤ y4 ∧ y4 < 6)
  (z8 : ∀ y4 : Int, ∀ s : mSt, I27 y4 s → ¬ (s a1 3) ≤ y4 → (pl (brow s a1) y4.toNat = true ∧ kpt (brow s a1) y4.toNat x3.toNat = true) → (0 < x3 ∧ kaB (brow s a1) y4.toNat (x3.toNat - 1) = true) → 0 ≤ (s 81 y4.toNat) ∧ (s 81 y4.toNat) < 6)
  (z9 : ∀ y4 : Int, ∀ s : mSt, I27 y4 s → ¬ (s a1 3) ≤ y4 → (pl (brow s a1) y4.toNat = true ∧ kpt (brow s a1) y4.toNat x3.toNat = true) → (0 < x3 ∧ kaB (brow s a1) y4.toNat (x3.toNat - 1) = true) → ∀ t7 : mSt, t7 = uS s 82 ((s 81 y4.toNat).toNat) (w32 ((s 82 (s 81 y4.toNat).toNat) + 1)) → I27 (w32 (y4 + 1)) t7 ∧ m27 (w32 (y4 + 1)) t7 < m27 y4 s)
  (z10 : ∀ y4 : Int, ∀ s : mSt, I27 y4 s → ¬ (s a1 3) ≤ y4 → (pl (brow s a1) y4.toNat = true ∧ kpt (brow s a1) y4.toNat x3.toNat = true) → (¬ (0 < x3 ∧ kaB (brow s a1) y4.toNat (x3.toNat - 1) = true)) → I27 (w32 (y4 + 1)) s ∧ m27 (w32 (y4 + 1)) s < m27 y4 s)
  (z11 : ∀ y4 : Int, ∀ s : mSt, I27 y4 s → ¬ (s a1 3) ≤ y4 → (¬ (pl (brow s a1) y4.toNat = true ∧ kpt (brow s a1) y4.toNat x3.toNat = true)) → I27 (w32 (y4 + 1)) s ∧ m27 (w32 (y4 + 1)) s < m27 y4 s)
  (z12 : ∀ y4 : Int, ∀ s : mSt, I81 y4 s → (s a1 3) ≤ y4 → Q none s)
  (z13 : ∀ y4 : Int, ∀ s : mSt, I81 y4 s → ¬ (s a1 3) ≤ y4 → BI s a1 ∧ (0 ≤ y4 ∧ y4 < s a1 3) ∧ (0 ≤ x3 ∧ x3 < 30))
  (z14 : ∀ y4 : Int, ∀ s : mSt, I81 y4 s → ¬ (s a1 3) ≤ y4 → (pl (brow s a1) y4.toNat = true ∧ kpt (brow s a1) y4.toNat x3.toNat = true) → BI s a1 ∧ (0 ≤ y4 ∧ y4 < s a1 3) ∧ (0 ≤ x3 ∧ x3 < 30))
  (z15 : ∀ y4 : Int, ∀ s : mSt, I81 y4 s → ¬ (s a1 3) ≤ y4 → (pl (brow s a1) y4.toNat = true ∧ kpt (brow s a1) y4.toNat x3.toNat = true) → (0 < x3 ∧ kaB (brow s a1) y4.toNat (x3.toNat - 1) = true) → I81 (w32 (y4 + 1)) s ∧ m81 (w32 (y4 + 1)) s < m81 y4 s)
  (z16 : ∀ y4 : Int, ∀ s : mSt, I81 y4 s → ¬ (s a1 3) ≤ y4 → (pl (brow s a1) y4.toNat = true ∧ kpt (brow s a1) y4.toNat x3.toNat = true) → (¬ (0 < x3 ∧ kaB (brow s a1) y4.toNat (x3.toNat - 1) = true)) → 1 ≤ x2)
  (z17 : ∀ y4 : Int, ∀ s : mSt, I81 y4 s → ¬ (s a1 3) ≤ y4 → (pl (brow s a1) y4.toNat = true ∧ kpt (brow s a1) y4.toNat x3.toNat = true) → (¬ (0 < x3 ∧ kaB (brow s a1) y4.toNat (x3.toNat - 1) = true)) → ∀ v15 : Int, ∀ s15 : mSt, ((0 ≤ ldW (s 82) x2 → v15 = ldW (s 82) x2) ∧ s15 = s) → 0 ≤ y4 ∧ y4 < 6)
  (z18 : ∀ y4 : Int, ∀ s : mSt, I81 y4 s → ¬ (s a1 3) ≤ y4 → (pl (brow s a1) y4.toNat = true ∧ kpt (brow s a1) y4.toNat x3.toNat = true) → (¬ (0 < x3 ∧ kaB (brow s a1) y4.toNat (x3.toNat - 1) = true)) → ∀ v15 : Int, ∀ s15 : mSt, ((0 ≤ ldW (s 82) x2 → v15 = ldW (s 82) x2) ∧ s15 = s) → 0 ≤ ((uS s15 81 y4.toNat v15) 81 y4.toNat) ∧ ((uS s15 81 y4.toNat v15) 81 y4.toNat) < 6)
  (z19 : ∀ y4 : Int, ∀ s : mSt, I81 y4 s → ¬ (s a1 3) ≤ y4 → (pl (brow s a1) y4.toNat = true ∧ kpt (brow s a1) y4.toNat x3.toNat = true) → (¬ (0 < x3 ∧ kaB (brow s a1) y4.toNat (x3.toNat - 1) = true)) → ∀ v15 : Int, ∀ s15 : mSt, ((0 ≤ ldW (s 82) x2 → v15 = ldW (s 82) x2) ∧ s15 = s) → ∀ t16 : mSt, t16 = uS (uS s15 81 y4.toNat v15) 82 (((uS s15 81 y4.toNat v15) 81 y4.toNat).toNat) (w32 (((uS s15 81 y4.toNat v15) 82 ((uS s15 81 y4.toNat v15) 81 y4.toNat).toNat) + 1)) → I81 (w32 (y4 + 1)) t16 ∧ m81 (w32 (y4 + 1)) t16 < m81 y4 s)
  (z20 : ∀ y4 : Int, ∀ s : mSt, I81 y4 s → ¬ (s a1 3) ≤ y4 → (¬ (pl (brow s a1) y4.toNat = true ∧ kpt (brow s a1) y4.toNat x3.toNat = true)) → I81 (w32 (y4 + 1)) s ∧ m81 (w32 (y4 + 1)) s < m81 y4 s)
  (z21 : I3 0 s) :
  Sp X (d + 2) 49 [mR 76, mR a1, mI x2, mI x3] s Q := by
  have L : ∀ k : Nat, (∀ (y4 : Int) (s : mSt), I3 y4 s → m3 y4 s < k → Wp X (d + 2) 49 3 [some (mR 76), some (mR a1), some (mI x2), some (mI x3), some (mI y4)] [] s Q) ∧ (∀ (y4 : Int) (s : mSt), I27 y4 s → m27 y4 s < k → Wp X (d + 2) 49 27 [some (mR 76), some (mR a1), some (mI x2), some (mI x3), some (mI y4)] [] s Q) ∧ (∀ (y4 : Int) (s : mSt), I81 y4 s → m81 y4 s < k → Wp X (d + 2) 49 81 [some (mR 76), some (mR a1), some (mI x2), some (mI x3), some (mI y4)] [] s Q) := by
    intro k
    induction k with
    | zero => exact ⟨fun _ _ _ h => absurd h (Nat.not_lt_zero _), fun _ _ _ h => absurd h (Nat.not_lt_zero _), fun _ _ _ h => absurd h (Nat.not_lt_zero _)⟩
    | succ k ih => exact ⟨fun y4 s hI hm => b49_3 h1 (fun q1 => b49_24 h1 (ih.2.1 0 s (z1 y4 s hI q1).1 (Nat.lt_of_lt_of_le (z1 y4 s hI q1).2 (Nat.le_of_lt_succ hm)))) (fun q2 => b49_10 h1 (z2 y4 s hI q2) (ih.1 (w32 (y4 + 1)) (uS s 82 y4.toNat 0) (z3 y4 s hI q2).1 (Nat.lt_of_lt_of_le (z3 y4 s hI q2).2 (Nat.le_of_lt_succ hm)))), fun y4 s hI hm => b49_27 h1 (fun q3 => b49_78 h1 (ih.2.2 0 s (z4 y4 s hI q3).1 (Nat.lt_of_lt_of_le (z4 y4 s hI q3).2 (Nat.le_of_lt_succ hm)))) (fun q4 => b49_36 h1 (c20 h1 (z5 y4 s hI q4) (fun q5 => ⟨1, rfl, b49_43 h1 (fun q => absurd q (by decide)) (fun _ => b49_46 h1 (c50 h1 (z6 y4 s hI q4 q5) (fun q6 => ⟨1, rfl, b49_53 h1 (fun q => absurd q (by decide)) (fun _ => b49_56 h1 (z7 y4 s hI q4 q5 q6) (z8 y4 s hI q4 q5 q6) (z8 y4 s hI q4 q5 q6) (Wp_gen (fun t7 e7 => b49_72 h1 (ih.2.1 (w32 (y4 + 1)) t7 (z9 y4 s hI q4 q5 q6 t7 e7).1 (Nat.lt_of_lt_of_le (z9 y4 s hI q4 q5 q6 t7 e7).2 (Nat.le_of_lt_succ hm))))))⟩) (fun q8 => ⟨0, rfl, b49_53 h1 (fun _ => b49_72 h1 (ih.2.1 (w32 (y4 + 1)) s (z10 y4 s hI q4 q5 q8).1 (Nat.lt_of_lt_of_le (z10 y4 s hI q4 q5 q8).2 (Nat.le_of_lt_succ hm)))) (fun q => absurd q (by decide))⟩)))⟩) (fun q9 => ⟨0, rfl, b49_43 h1 (fun _ => b49_72 h1 (ih.2.1 (w32 (y4 + 1)) s (z11 y4 s hI q4 q9).1 (Nat.lt_of_lt_of_le (z11 y4 s hI q4 q9).2 (Nat.le_of_lt_succ hm)))) (fun q => absurd q (by decide))⟩))), fun y4 s hI hm => b49_81 h1 (fun q10 => b49_144 h1 (z12 y4 s hI q10)) (fun q11 => b49_90 h1 (c20 h1 (z13 y4 s hI q11) (fun q12 => ⟨1, rfl, b49_97 h1 (fun q => absurd q (by decide)) (fun _ => b49_100 h1 (c50 h1 (z14 y4 s hI q11 q12) (fun q13 => ⟨1, rfl, b49_107 h1 (fun _ => b49_138 h1 (ih.2.2 (w32 (y4 + 1)) s (z15 y4 s hI q11 q12 q13).1 (Nat.lt_of_lt_of_le (z15 y4 s hI q11 q12 q13).2 (Nat.le_of_lt_succ hm)))) (fun q => absurd q (by decide))⟩) (fun q14 => ⟨0, rfl, b49_107 h1 (fun q => absurd q (by decide)) (fun _ => b49_110 h1 (c51 (z16 y4 s hI q11 q12 q14) (fun v15 s15 q15 => ⟨v15, rfl, b49_121 h1 (z17 y4 s hI q11 q12 q14 v15 s15 q15) (z17 y4 s hI q11 q12 q14 v15 s15 q15) (z18 y4 s hI q11 q12 q14 v15 s15 q15) (z18 y4 s hI q11 q12 q14 v15 s15 q15) (Wp_gen (fun t16 e16 => b49_138 h1 (ih.2.2 (w32 (y4 + 1)) t16 (z19 y4 s hI q11 q12 q14 v15 s15 q15 t16 e16).1 (Nat.lt_of_lt_of_le (z19 y4 s hI q11 q12 q14 v15 s15 q15 t16 e16).2 (Nat.le_of_lt_succ hm)))))⟩)))⟩)))⟩) (fun q17 => ⟨0, rfl, b49_97 h1 (fun _ => b49_138 h1 (ih.2.2 (w32 (y4 + 1)) s (z20 y4 s hI q11 q17).1 (Nat.lt_of_lt_of_le (z20 y4 s hI q11 q17).2 (Nat.le_of_lt_succ hm)))) (fun q => absurd q (by decide))⟩)))⟩
  exact e49 (b49_0 h1 ((L (m3 0 s + 1)).1 0 s z21 (Nat.lt_succ_self _)))

theorem c49 {X : (Nat → Int) × Nat} {d : Nat} {s : mSt} {Q : mQ} {a1 : Nat} {x2 : Int} {x3 : Int} (h1 : isBd a1) (p1 : BI s a1 ∧ ¬ (81 ≤ a1 + 9 ∧ a1 ≤ 82) ∧ (1 ≤ x2 ∧ x2 ≤ 6) ∧ (0 ≤ x3 ∧ x3 < 30) ∧ ∀ c, 0 ≤ WT (kaB (brow s a1)) (nc (brow s a1)) x2 x3.toNat c → s 81 c = WT (kaB (brow s a1)) (nc (brow s a1)) x2 x3.toNat c) (k : ∀ t : mSt, ((∀ c, 0 ≤ WT (kaB (brow s a1)) (nc (brow s a1)) x2 (x3.toNat + 1) c → t 81 c = WT (kaB (brow s a1)) (nc (brow s a1)) x2 (x3.toNat + 1) c) ∧ f12 s t) → Q none t) : Sp X (d + 2) 49 [mR 76, mR a1, mI x2, mI x3] s Q := by
  obtain ⟨hB, hf, hn, hx, hw⟩ := p1
  have lt := bd_lt h1
  have h4 := bi_nc hB
  have n6 := nc_le hB.1
  let K := kaB (brow s a1)
  let N := nc (brow s a1)
  have hN : N = nc (brow s a1) := rfl
  let W := WT K N x2 x3.toNat
  let K' : Nat → Bool := fun c => K c x3.toNat
  have Wi := WT_i (K := K) (N := N) (n := x2) n6 hn.1 x3.toNat
  have W0 : ∀ c, c < N → (0 ≤ W c ↔ 0 < x3 ∧ K c (x3.toNat - 1) = true) := fun c hc => by
    by_cases z : x3 = 0
    · subst z
      exact ⟨fun w => absurd (show (0 : Int) ≤ -1 from w) (by decide), fun w => by omega⟩
    · have q := (WT_i (K := K) (N := N) (n := x2) n6 hn.1 (x3.toNat - 1)).2 c
      rw [show x3.toNat - 1 + 1 = x3.toNat by omega] at q
      exact ⟨fun w => ⟨by omega, (q.1 w).2⟩, fun w => q.2 ⟨hc, w.2⟩⟩
  let P := wp1 K' W N
  have P1 := wp1_i (K := K') (W := W) Wi.1
  have Pi := P1 N n6
  have P2 := wp2_i (K := K') (n := x2) hn.1 Pi.1
  have now : ∀ t : mSt, f12 s t → BI t a1 ∧ brow t a1 = brow s a1 ∧ t a1 = s a1 := fun t ht => by
    have q := BI_cells (t := t) hB (fun x hx => ht x (by omega) (by omega)) (ht 417 (by omega) (by omega))
    exact ⟨q.1, q.2, ht a1 (by omega) (by omega)⟩
  have pre : ∀ (t : mSt) (y : Int), f12 s t → (0 ≤ y ∧ ¬ s a1 3 ≤ y) → BI t a1 ∧ (0 ≤ y ∧ y < t a1 3) ∧ (0 ≤ x3 ∧ x3 < 30) := fun t y ht hy => by
    have q := now t ht
    rw [q.2.2]; exact ⟨q.1, by omega, hx⟩
  let A : Int → mSt → Prop := fun y t => ∃ j : Nat, y = j ∧ j ≤ 6 ∧ (∀ w, w < j → t 82 w = 0) ∧ t 81 = s 81 ∧ f12 s t
  let B : Int → mSt → Prop := fun y t => ∃ j : Nat, y = j ∧ j ≤ N ∧ (∀ w, w < 6 → t 82 w = (wp1 K' W j).2 w) ∧ t 81 = s 81 ∧ f12 s t
  let C : Int → mSt → Prop := fun y t => ∃ j : Nat, y = j ∧ j ≤ N ∧ (∀ w, w < 6 → t 82 w = (wp2 K' x2 P j).2 w) ∧ (∀ c, 0 ≤ (wp2 K' x2 P j).1 c → t 81 c = (wp2 K' x2 P j).1 c) ∧ f12 s t
  have smb : ∀ (q : (Nat → Int) × (Nat → Int)), WI q → ∀ w, w < 6 → 0 ≤ q.2 w ∧ q.2 w ≤ 6 := fun q hq w hw' => by
    refine ⟨hq.2.1 w, ?_⟩
    have e := hq.2.2
    have c := (cn_le (f := fun c => decide (0 ≤ q.1 c)) (n := 6)).2
    have s6 : sm q.2 6 = q.2 0 + q.2 1 + q.2 2 + q.2 3 + q.2 4 + q.2 5 := by simp only [sm]; omega
    have a0 := hq.2.1 0; have a1 := hq.2.1 1; have a2 := hq.2.1 2; have a3 := hq.2.1 3; have a4 := hq.2.1 4; have a5 := hq.2.1 5
    rcases (show w = 0 ∨ w = 1 ∨ w = 2 ∨ w = 3 ∨ w = 4 ∨ w = 5 by omega) with z | z | z | z | z | z <;> subst z <;> omega
  have cc : ∀ (y : Int) (t : mSt), C y t → ¬ t a1 3 ≤ y → ∃ j : Nat, y = j ∧ j < N ∧ (∀ w, w < 6 → t 82 w = (wp2 K' x2 P j).2 w) ∧ (∀ c, 0 ≤ (wp2 K' x2 P j).1 c → t 81 c = (wp2 K' x2 P j).1 c) ∧ f12 s t := fun y t ⟨j, e, hj, h2, h3, hft⟩ hc => by
    rw [(now t hft).2.2] at hc
    exact ⟨j, e, by omega, h2, h3, hft⟩
  have eK : ∀ (t : mSt) (j : Nat), f12 s t → ((pl (brow t a1) ((j : Int)).toNat = true ∧ kpt (brow t a1) ((j : Int)).toNat x3.toNat = true) ↔ K' j = true) := fun t j ht => by
    rw [(now t ht).2.1, tnc]; exact kaB_i.symm
  have eP : ∀ (t : mSt) (j : Nat), f12 s t → j < N → ((0 < x3 ∧ kaB (brow t a1) ((j : Int)).toNat (x3.toNat - 1) = true) ↔ 0 ≤ W j) := fun t j ht hj => by
    rw [(now t ht).2.1, tnc]; exact (W0 j hj).symm
  have v2 : ∀ j, j < N → K' j = true → ((wp2 K' x2 P j).1 j < 0 ↔ ¬ 0 ≤ W j) := fun j hj hk => by
    rw [(P2 j (by omega)).2.1 j (by omega), Pi.2 j]
    by_cases z : 0 ≤ W j
    · rw [if_pos ⟨hj, hk, z⟩]; omega
    · rw [if_neg (fun w => z w.2.2)]; omega
  refine v49 h1 A (fun y _ => (100 - y).toNat) B (fun y _ => (60 - y).toNat) C (fun y _ => (20 - y).toNat) ?_ ?_ ?_ ?_ ?_ ?_ ?_ ?_ ?_ ?_ ?_ ?_ ?_ ?_ ?_ ?_ ?_ ?_ ?_ ?_ ⟨0, rfl, by omega, fun w hw => by omega, rfl, fun _ _ _ => rfl⟩
  · rintro _ t ⟨j, rfl, hj, h2, e1, ht⟩ hc
    exact ⟨⟨0, rfl, by omega, fun w hw' => h2 w (by omega), e1, ht⟩, by omega⟩
  · rintro _ t ⟨j, rfl, hj, h2, e1, ht⟩ hc
    omega
  · rintro _ t ⟨j, rfl, hj, h2, e1, ht⟩ hc
    rw [tnc, w32_of (by omega)]
    refine ⟨⟨j + 1, by omega, by omega, fun w hw' => ?_, by rw [uS_cell (by decide)]; exact e1, fun b g1 g2 => by rw [uS_cell g2]; exact ht b g1 g2⟩, by omega⟩
    rw [uS_at]
    by_cases z : w = j
    · rw [if_pos z]
    · rw [if_neg z]; exact h2 w (by omega)
  · rintro _ t ⟨j, rfl, hj, h2, e1, ht⟩ hc
    rw [(now t ht).2.2] at hc
    have : j = N := by omega
    subst this
    refine ⟨⟨0, rfl, by omega, h2, fun c hc' => ?_, ht⟩, by omega⟩
    have e := Pi.2 c
    have hc2 : 0 ≤ P.1 c := hc'
    by_cases z : c < N ∧ K' c = true ∧ 0 ≤ W c
    · rw [if_pos z] at e
      show t 81 c = P.1 c
      rw [show P.1 c = W c from e, e1]; exact hw c z.2.2
    · rw [if_neg z] at e
      have e' : P.1 c = -1 := e
      omega
  · rintro _ t ⟨j, rfl, hj, h2, e1, ht⟩ hc
    rw [(now t ht).2.2] at hc
    exact pre t _ ht (by omega)
  · rintro _ t ⟨j, rfl, hj, h2, e1, ht⟩ hc q
    rw [(now t ht).2.2] at hc
    exact pre t _ ht (by omega)
  · rintro _ t ⟨j, rfl, hj, h2, e1, ht⟩ hc q q2
    rw [(now t ht).2.2] at hc
    omega
  · rintro _ t ⟨j, rfl, hj, h2, e1, ht⟩ hc q q2
    rw [(now t ht).2.2] at hc
    have z := (eP t j ht (by omega)).1 q2
    have := (Wi.1 j).2
    rw [e1, tnc, hw j z]; exact ⟨z, this⟩
  · rintro _ t ⟨j, rfl, hj, h2, e1, ht⟩ hc q q2 t7 h7
    rw [(now t ht).2.2] at hc
    have z := (eP t j ht (by omega)).1 q2
    have z1 := (eK t j ht).1 q
    have w6 := (Wi.1 j).2
    have b := smb _ (P1 j (by omega)).1 (W j).toNat (by show (W j).toNat < 6; have : W j < 6 := w6; omega)
    have ew : s 81 j = W j := hw j z
    have lt6 : (W j).toNat < 6 := by have : W j < 6 := w6; omega
    rw [e1, tnc, ew, h2 _ lt6, w32_of (by omega)] at h7
    have es : wp1 K' W (j + 1) = (up (wp1 K' W j).1 j (W j), up (wp1 K' W j).2 (W j).toNat ((wp1 K' W j).2 (W j).toNat + 1)) := by rw [wp1_s, if_pos ⟨z1, z⟩]
    rw [w32_of (by omega)]
    refine ⟨⟨j + 1, by omega, by omega, fun w hw' => ?_, by rw [h7, uS_cell (by decide)]; exact e1, fun b g1 g2 => by rw [h7, uS_cell g2]; exact ht b g1 g2⟩, by omega⟩
    rw [es, h7, uS_at]
    by_cases y : w = (W j).toNat
    · rw [if_pos y]; dsimp only; rw [y, up_at]
    · rw [if_neg y]; dsimp only; rw [up_ne y]; exact h2 w hw'
  · rintro _ t ⟨j, rfl, hj, h2, e1, ht⟩ hc q q2
    rw [(now t ht).2.2] at hc
    have z : ¬ 0 ≤ W j := fun w => q2 ((eP t j ht (by omega)).2 w)
    have es : wp1 K' W (j + 1) = wp1 K' W j := by rw [wp1_s, if_neg (fun w => z w.2)]
    rw [w32_of (by omega)]
    exact ⟨⟨j + 1, by omega, by omega, by rw [es]; exact h2, e1, ht⟩, by omega⟩
  · rintro _ t ⟨j, rfl, hj, h2, e1, ht⟩ hc q
    rw [(now t ht).2.2] at hc
    have z : ¬ K' j = true := fun w => q ((eK t j ht).2 w)
    have es : wp1 K' W (j + 1) = wp1 K' W j := by rw [wp1_s, if_neg (fun w => z w.1)]
    rw [w32_of (by omega)]
    exact ⟨⟨j + 1, by omega, by omega, by rw [es]; exact h2, e1, ht⟩, by omega⟩
  · rintro _ t ⟨j, rfl, hj, h2, h3, ht⟩ hc
    rw [(now t ht).2.2] at hc
    have : j = N := by omega
    subst this
    exact k t ⟨h3, ht⟩
  · intro y t hC hc
    obtain ⟨j, rfl, hj, h2, h3, ht⟩ := cc y t hC hc
    exact pre t _ ht (by omega)
  · intro y t hC hc q
    obtain ⟨j, rfl, hj, h2, h3, ht⟩ := cc y t hC hc
    exact pre t _ ht (by omega)
  · intro y t hC hc q q2
    obtain ⟨j, rfl, hj, h2, h3, ht⟩ := cc y t hC hc
    have z1 := (eK t j ht).1 q
    have z := (eP t j ht hj).1 q2
    have es : wp2 K' x2 P (j + 1) = wp2 K' x2 P j := by rw [wp2_s, if_neg (fun w => (v2 j hj z1).1 w.2 z)]
    rw [w32_of (by omega)]
    exact ⟨⟨j + 1, by omega, by omega, by rw [es]; exact h2, by rw [es]; exact h3, ht⟩, by omega⟩
  · intro y t hC hc q q2
    exact hn.1
  · intro y t hC hc q q2 v u hu
    obtain ⟨j, rfl, hj, h2, h3, ht⟩ := cc y t hC hc
    omega
  · intro y t hC hc q q2 v u hu
    obtain ⟨j, rfl, hj, h2, h3, ht⟩ := cc y t hC hc
    have z1 := (eK t j ht).1 q
    have z : ¬ 0 ≤ W j := fun w => q2 ((eP t j ht hj).2 w)
    have l : 0 ≤ ldW (wp2 K' x2 P j).2 x2 ∧ ldW (wp2 K' x2 P j).2 x2 < 6 := WI_ld (P2 j (by omega)).1 (show j < 6 by omega) ((v2 j hj z1).2 z) hn.1
    have el : ldW (t 82) x2 = ldW (wp2 K' x2 P j).2 x2 := fd_congr (fun w hw' => by rw [h2 w hw'])
    rw [el] at hu
    rw [uS_at, if_pos rfl, hu.1 l.1]; exact l
  · intro y t hC hc q q2 v u hu t16 h16
    obtain ⟨j, rfl, hj, h2, h3, ht⟩ := cc y t hC hc
    have z1 := (eK t j ht).1 q
    have z : ¬ 0 ≤ W j := fun w => q2 ((eP t j ht hj).2 w)
    have l : 0 ≤ ldW (wp2 K' x2 P j).2 x2 ∧ ldW (wp2 K' x2 P j).2 x2 < 6 := WI_ld (P2 j (by omega)).1 (show j < 6 by omega) ((v2 j hj z1).2 z) hn.1
    have el : ldW (t 82) x2 = ldW (wp2 K' x2 P j).2 x2 := fd_congr (fun w hw' => by rw [h2 w hw'])
    rw [el] at hu
    have ev := hu.1 l.1
    have b : 0 ≤ (wp2 K' x2 P j).2 (ldW (wp2 K' x2 P j).2 x2).toNat ∧ (wp2 K' x2 P j).2 (ldW (wp2 K' x2 P j).2 x2).toNat ≤ 6 := smb _ (P2 j (by omega)).1 (ldW (wp2 K' x2 P j).2 x2).toNat (by omega)
    rw [hu.2, tnc, ev, uS_at, if_pos rfl, uS_cell (by decide), h2 _ (by omega), w32_of (by omega)] at h16
    have es : wp2 K' x2 P (j + 1) = (up (wp2 K' x2 P j).1 j (ldW (wp2 K' x2 P j).2 x2), up (wp2 K' x2 P j).2 (ldW (wp2 K' x2 P j).2 x2).toNat ((wp2 K' x2 P j).2 (ldW (wp2 K' x2 P j).2 x2).toNat + 1)) := by rw [wp2_s, if_pos ⟨z1, (v2 j hj z1).2 z⟩]
    rw [w32_of (by omega)]
    refine ⟨⟨j + 1, by omega, by omega, fun w hw' => ?_, fun c hc' => ?_, fun b g1 g2 => by rw [h16, uS_cell g2, uS_cell g1]; exact ht b g1 g2⟩, by omega⟩
    · rw [es, h16, uS_at]
      by_cases y : w = (ldW (wp2 K' x2 P j).2 x2).toNat
      · rw [if_pos y]; dsimp only; rw [y, up_at]
      · rw [if_neg y, uS_cell (by decide)]; dsimp only; rw [up_ne y]; exact h2 w hw'
    · rw [es] at hc' ⊢
      dsimp only at hc' ⊢
      rw [h16, uS_cell (by decide), uS_at]
      by_cases y : c = j
      · rw [if_pos y, y, up_at]
      · rw [if_neg y, up_ne y]
        rw [up_ne y] at hc'
        exact h3 c hc'
  · intro y t hC hc q
    obtain ⟨j, rfl, hj, h2, h3, ht⟩ := cc y t hC hc
    have z : ¬ K' j = true := fun w => q ((eK t j ht).2 w)
    have es : wp2 K' x2 P (j + 1) = wp2 K' x2 P j := by rw [wp2_s, if_neg (fun w => z w.1)]
    rw [w32_of (by omega)]
    exact ⟨⟨j + 1, by omega, by omega, by rw [es]; exact h2, by rw [es]; exact h3, ht⟩, by omega⟩
theorem v48 {X : (Nat → Int) × Nat} {d : Nat} {s : mSt} {Q : mQ} {a1 : Nat} {x2 : Int} {x3 : Int} {x4 : Int} (h1 : isBd a1)
  (I3 : Int → mSt → Prop) (m3 : Int → mSt → Nat)
  (z1 : ∀ y5 : Int, ∀ s : mSt, I3 y5 s → x4 < y5 → 0 ≤ x3 ∧ x3 < 6)
  (z2 : ∀ y5 : Int, ∀ s : mSt, I3 y5 s → x4 < y5 → Q (some (mI (s 81 x3.toNat))) s)
  (z3 : ∀ y5 : Int, ∀ s : mSt, I3 y5 s → ¬ x4 < y5 → 30 ≤ y5 → 0 ≤ x3 ∧ x3 < 6)
  (z4 : ∀ y5 : Int, ∀ s : mSt, I3 y5 s → ¬ x4 < y5 → 30 ≤ y5 → Q (some (mI (s 81 x3.toNat))) s)
  (z5 : ∀ y5 : Int, ∀ s : mSt, I3 y5 s → ¬ x4 < y5 → ¬ 30 ≤ y5 → BI s a1 ∧ ¬ (81 ≤ a1 + 9 ∧ a1 ≤ 82) ∧ (1 ≤ x2 ∧ x2 ≤ 6) ∧ (0 ≤ y5 ∧ y5 < 30) ∧ ∀ c, 0 ≤ WT (kaB (brow s a1)) (nc (brow s a1)) x2 y5.toNat c → s 81 c = WT (kaB (brow s a1)) (nc (brow s a1)) x2 y5.toNat c)
  (z6 : ∀ y5 : Int, ∀ s : mSt, I3 y5 s → ¬ x4 < y5 → ¬ 30 ≤ y5 → ∀ s5 : mSt, ((∀ c, 0 ≤ WT (kaB (brow s a1)) (nc (brow s a1)) x2 (y5.toNat + 1) c → s5 81 c = WT (kaB (brow s a1)) (nc (brow s a1)) x2 (y5.toNat + 1) c) ∧ f12 s s5) → I3 (w32 (y5 + 1)) s5 ∧ m3 (w32 (y5 + 1)) s5 < m3 y5 s)
  (z7 : I3 0 s) :
  Sp X (d + 3) 48 [mR 76, mR a1, mI x2, mI x3, mI x4] s Q := by
  have L : ∀ k : Nat, (∀ (y5 : Int) (s : mSt), I3 y5 s → m3 y5 s < k → Wp X (d + 3) 48 3 [some (mR 76), some (mR a1), some (mI x2), some (mI x3), some (mI x4), some (mI y5)] [] s Q) := by
    intro k
    induction k with
    | zero => exact fun _ _ _ h => absurd h (Nat.not_lt_zero _)
    | succ k ih => exact fun y5 s hI hm => b48_3 h1 (fun q1 => b48_31 h1 (z1 y5 s hI q1) (z2 y5 s hI q1)) (fun q2 => b48_10 h1 (fun q3 => b48_31 h1 (z3 y5 s hI q2 q3) (z4 y5 s hI q2 q3)) (fun q4 => b48_17 h1 (c49 h1 (z5 y5 s hI q2 q4) (fun s5 q5 => ⟨rfl, b48_25 h1 (ih (w32 (y5 + 1)) s5 (z6 y5 s hI q2 q4 s5 q5).1 (Nat.lt_of_lt_of_le (z6 y5 s hI q2 q4 s5 q5).2 (Nat.le_of_lt_succ hm)))⟩))))
  exact e48 (b48_0 h1 ((L (m3 0 s + 1)) 0 s z7 (Nat.lt_succ_self _)))

