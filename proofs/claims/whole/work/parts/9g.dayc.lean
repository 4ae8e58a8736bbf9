/-! a DAY read: the class -/
def vA (T : Nat → Int) (n a : Nat) : Int := nv T a (tkP T n a - a)
def nuA (T : Nat → Int) (n a : Nat) (l m : Int) : Int := if tkK T n a = 256 then (if (tkP T n a : Int) - (a : Int) ≤ 5 ∧ l ≤ vA T n a ∧ vA T n a ≤ m then -1 else 1) else 0
theorem nuA_b (T : Nat → Int) (n a : Nat) (l m : Int) : -1 ≤ nuA T n a l m ∧ nuA T n a l m ≤ 1 := by
  unfold nuA; split
  · split <;> omega
  · omega
def fuA (a : Nat) (c : Int) : Int := 1 + 8 * (a : Int) + c
theorem nfC_A {s : mSt} (h : TSq s) (l m : Int) : nfC s l m = nuA (s 2) (nO s) (aO s) l m ∧ (nuA (s 2) (nO s) (aO s) l m = -1 → s 1 5 = vA (s 2) (nO s) (aO s)) := by
  have q := h.2.2.2.2
  unfold nfC nuA
  rw [q.2.1, q.1, q.2.2.1]
  by_cases z : tkK (s 2) (nO s) (aO s) = 256
  · rw [if_pos z, if_pos z, q.2.2.2 z]
    exact ⟨rfl, fun _ => rfl⟩
  · rw [if_neg z, if_neg z]
    exact ⟨rfl, fun w => absurd w (by decide)⟩
theorem flC_z {s : mSt} (h : TSq s) (z : s 1 6 = 0) (x : Int) : flC s x = uS s 1 6 (fuA (aO s) x) := by
  have b := ts_b h
  unfold flC fuA
  rw [if_pos z, b.2.2.1]
theorem ts_400 {s : mSt} (h : TSq s) : (0 ≤ s 1 3 ∧ s 1 3 ≤ s 1 4 ∧ s 1 4 ≤ 400) ∧ (0 ≤ s 1 4 ∧ s 1 4 ≤ s 1 1 ∧ s 1 1 ≤ 400) ∧ (0 ≤ s 1 3 ∧ s 1 3 ≤ 400) := by
  have b := ts_b h
  have h1 := h.2.1
  omega
def N1q (s t : mSt) (i : Nat) (l m : Int) : Prop := nuA (s 2) (nO s) (aO s) l m = -1 ∧ TSa s t (nxA (s 2) (nO s) (aO s)) ∧ t 1 6 = 0 ∧ t 4 = up (s 4) i (vA (s 2) (nO s) (aO s)) ∧ ∀ b, b ≠ 1 → b ≠ 4 → t b = s b
def N0q (s t : mSt) (l m : Int) : Prop := ¬ nuA (s 2) (nO s) (aO s) l m = -1 ∧ t 1 6 = fuA (aO s) (nuA (s 2) (nO s) (aO s) l m) ∧ t 1 1 = s 1 1 ∧ ∀ b, b ≠ 1 → t b = s b
theorem v40 {X : (Nat → Int) × Nat} {d : Nat} {s : mSt} {Q : mQ} {x1 : Int} {x2 : Int} {x3 : Int}
  (z1 : 0 ≤ s 1 3 ∧ s 1 3 ≤ s 1 4 ∧ s 1 4 ≤ 400)
  (z2 : (nfC s x2 x3) = (-1) → 0 ≤ x1 ∧ x1 < 3)
  (z3 : (nfC s x2 x3) = (-1) → ∀ t2 : mSt, t2 = uS s 4 x1.toNat (s 1 5) → (0 ≤ t2 1 4 ∧ t2 1 4 ≤ t2 1 1 ∧ t2 1 1 ≤ 400) ∧ BYq t2)
  (z4 : (nfC s x2 x3) = (-1) → ∀ t2 : mSt, t2 = uS s 4 x1.toNat (s 1 5) → ∀ s3 : mSt, (TKq (t2 2) (t2 1 1).toNat (sk (t2 2) (t2 1 1).toNat (t2 1 4).toNat) s3 ∧ f1 t2 s3) → Q (some (mI 1)) s3)
  (z5 : ¬ (nfC s x2 x3) = (-1) → (0 ≤ s 1 3 ∧ s 1 3 ≤ 400) ∧ (0 ≤ (nfC s x2 x3) ∧ (nfC s x2 x3) ≤ 4))
  (z6 : ¬ (nfC s x2 x3) = (-1) → ∀ v5 : Int, ∀ s5 : mSt, (v5 = 0 ∧ s5 = flC s (nfC s x2 x3)) → Q (some (mI v5)) s5)
  (z7 : ¬ (nfC s x2 x3) = (-1) → ∀ v5 : Int, ∀ s5 : mSt, (v5 = 0 ∧ s5 = flC s (nfC s x2 x3)) → v5 = 0 ∨ v5 = 1) :
  Sp X (d + 1) 40 [mR 3, mI x1, mI x2, mI x3] s Q := e40 (b40_0 (c95 z1 ⟨_, rfl, b40_9 (fun q1 => b40_27 (z2 q1) (Sp_gen (fun t2 e2 => (c90 (z3 q1 t2 e2) (fun s3 q3 => ⟨rfl, b40_47 (z4 q1 t2 e2 s3 q3)⟩))))) (fun q4 => b40_17 (c94 (z5 q4) (fun v5 s5 q5 => ⟨v5, rfl, b40_26 (z6 q4 v5 s5 q5) (z7 q4 v5 s5 q5)⟩)))⟩))

theorem c40 {X : (Nat → Int) × Nat} {d : Nat} {s : mSt} {Q : mQ} {x1 : Int} {x2 : Int} {x3 : Int} (p1 : TSq s ∧ s 1 6 = 0 ∧ (0 ≤ x1 ∧ x1 < 3)) (k1 : ∀ t : mSt, (N1q s t x1.toNat x2 x3) → Q (some (mI 1)) t) (k0 : ∀ t : mSt, (N0q s t x2 x3) → Q (some (mI 0)) t) : Sp X (d + 1) 40 [mR 3, mI x1, mI x2, mI x3] s Q := by
  obtain ⟨h, hz, hx⟩ := p1
  have b4 := ts_400 h
  have e := nfC_A h x2 x3
  have nb := nuA_b (s 2) (nO s) (aO s) x2 x3
  have c2 : ∀ t2 : mSt, t2 = uS s 4 x1.toNat (s 1 5) → (∀ b, b ≠ 4 → t2 b = s b) ∧ TSq t2 ∧ nO t2 = nO s ∧ aO t2 = aO s := fun t2 h2 => by
    have c : ∀ b, b ≠ 4 → t2 b = s b := fun b hb => by rw [h2]; exact uS_cell hb
    have e1 := c 1 (by decide)
    have e2 := c 2 (by decide)
    have en : nO t2 = nO s := by unfold nO; rw [e1]
    have ea : aO t2 = aO s := by unfold aO; rw [e1]
    refine ⟨c, ?_, en, ea⟩
    unfold TSq BYq TKq
    rw [e1, e2, en, ea]; exact h
  refine v40 b4.1 (fun z => hx) (fun z t2 h2 => ?_) (fun z t2 h2 t ht => ?_) (fun z => ⟨b4.2.2, by rw [e.1] at z ⊢; omega⟩) (fun z v t hv => ?_) (fun z v t hv => Or.inl hv.1)
  · have c := c2 t2 h2
    exact ⟨(ts_400 c.2.1).2.1, c.2.1.1⟩
  · have c := c2 t2 h2
    have q := ts_scan c.2.1 ht
    rw [c.1 2 (by decide), c.2.2.1, c.2.2.2] at q
    rw [e.1] at z
    refine k1 t ⟨z, ⟨q.1.1, ?_, ?_, q.1.2.2.2⟩, ?_, ?_, fun b g1 g2 => (ht.2.1 b g1).trans (c.1 b g2)⟩
    · rw [q.1.2.1, c.1 2 (by decide)]
    · rw [q.1.2.2.1, c.1 1 (by decide)]
    · rw [q.2, c.1 1 (by decide)]; exact hz
    · rw [ht.2.1 4 (by decide), h2, ← e.2 z]
      funext j; rw [uS_at]; rfl
  · rw [e.1] at z hv
    rw [flC_z h hz] at hv
    rw [hv.1, hv.2]
    exact k0 _ ⟨z, by rw [uS_at, if_pos rfl], by rw [uS_at, if_neg (by decide)], fun b hb => uS_cell hb⟩
theorem v93 {X : (Nat → Int) × Nat} {d : Nat} {s : mSt} {Q : mQ}
  (z1 : ¬ (s 1 2) = 59 → (s 1 2) = (-1) → Q (some (mI 0)) s)
  (z2 : ¬ (s 1 2) = 59 → ¬ (s 1 2) = (-1) → (0 ≤ s 1 3 ∧ s 1 3 ≤ 400) ∧ (0 ≤ (0 : Int) ∧ (0 : Int) ≤ 4))
  (z3 : ¬ (s 1 2) = 59 → ¬ (s 1 2) = (-1) → ∀ v4 : Int, ∀ s4 : mSt, (v4 = 0 ∧ s4 = flC s (0 : Int)) → v4 = 0 → Q (some (mI 0)) s4)
  (z4 : ¬ (s 1 2) = 59 → ¬ (s 1 2) = (-1) → ∀ v4 : Int, ∀ s4 : mSt, (v4 = 0 ∧ s4 = flC s (0 : Int)) → ¬ v4 = 0 → Q (some (mI 1)) s4)
  (z5 : (s 1 2) = 59 → (0 ≤ s 1 4 ∧ s 1 4 ≤ s 1 1 ∧ s 1 1 ≤ 400) ∧ BYq s)
  (z6 : (s 1 2) = 59 → ∀ s8 : mSt, (TKq (s 2) (s 1 1).toNat (sk (s 2) (s 1 1).toNat (s 1 4).toNat) s8 ∧ f1 s s8) → Q (some (mI 1)) s8) :
  Sp X (d + 1) 93 [mR 1] s Q := e93 (b93_0 (fun q1 => b93_15 (fun q2 => b93_35 (b93_36 (z1 q1 q2) (Or.inl rfl))) (fun q3 => b93_23 (c94 (z2 q1 q3) (fun v4 s4 q4 => ⟨v4, rfl, b93_28 (fun q5 => b93_35 (b93_36 (z3 q1 q3 v4 s4 q4 q5) (Or.inl rfl))) (fun q6 => b93_31 (b93_36 (z4 q1 q3 v4 s4 q4 q6) (Or.inr rfl)))⟩)))) (fun q7 => b93_9 (c90 (z5 q7) (fun s8 q8 => ⟨rfl, b93_13 (z6 q7 s8 q8)⟩))))

theorem c93 {X : (Nat → Int) × Nat} {d : Nat} {s : mSt} {Q : mQ} (p1 : TSq s ∧ s 1 6 = 0) (k1 : ∀ t : mSt, (tkK (s 2) (nO s) (aO s) = 59 ∧ TSa s t (nxA (s 2) (nO s) (aO s)) ∧ t 1 6 = 0 ∧ ∀ b, b ≠ 1 → t b = s b) → Q (some (mI 1)) t) (k0 : ∀ t : mSt, (¬ tkK (s 2) (nO s) (aO s) = 59 ∧ t 1 6 = (if tkK (s 2) (nO s) (aO s) = -1 then 0 else fuA (aO s) 0) ∧ t 1 1 = s 1 1 ∧ ∀ b, b ≠ 1 → t b = s b) → Q (some (mI 0)) t) : Sp X (d + 1) 93 [mR 1] s Q := by
  obtain ⟨h, hz⟩ := p1
  have b4 := ts_400 h
  have ek : s 1 2 = tkK (s 2) (nO s) (aO s) := h.2.2.2.2.2.1
  refine v93 (fun z z2 => ?_) (fun z z2 => ⟨b4.2.2, by decide⟩) (fun z z2 v t hv _ => ?_) (fun z z2 v t hv q => absurd hv.1 q) (fun z => ⟨b4.2.1, h.1⟩) (fun z t ht => ?_)
  · rw [ek] at z z2
    exact k0 s ⟨z, by rw [if_pos z2]; exact hz, rfl, fun _ _ => rfl⟩
  · rw [ek] at z z2
    rw [hv.2, flC_z h hz]
    exact k0 _ ⟨z, by rw [uS_at, if_pos rfl, if_neg z2], by rw [uS_at, if_neg (by decide)], fun b hb => uS_cell hb⟩
  · rw [ek] at z
    have q := ts_scan h ht
    exact k1 t ⟨z, q.1, by rw [q.2]; exact hz, ht.2.1⟩
theorem v92 {X : (Nat → Int) × Nat} {d : Nat} {s : mSt} {Q : mQ} {x1 : Int}
  (z1 : 0 ≤ s 1 3 ∧ s 1 3 ≤ s 1 4 ∧ s 1 4 ≤ 400)
  (z2 : ¬ (wnC s) = x1 → Q (some (mI 0)) s)
  (z3 : (wnC s) = x1 → Q (some (mI 1)) s) :
  Sp X (d + 6) 92 [mR 1, mI x1] s Q := e92 (b92_0 (c91 z1 ⟨_, rfl, b92_4 (fun q1 => b92_12 (b92_13 (z2 q1) (Or.inl rfl))) (fun q2 => b92_8 (b92_13 (z3 q2) (Or.inr rfl)))⟩))

theorem c92 {X : (Nat → Int) × Nat} {d : Nat} {s : mSt} {Q : mQ} {x1 : Int} (p1 : TSq s) (k1 : (wnC s = x1) → Q (some (mI 1)) s) (k0 : ¬ (wnC s = x1) → Q (some (mI 0)) s) : Sp X (d + 6) 92 [mR 1, mI x1] s Q := v92 (ts_400 p1).1 k0 k1
def wnA (T : Nat → Int) (n a : Nat) : Int := if tkK T n a = 257 then fd (isWb T a (tkP T n a)) 19 else -1
theorem wnC_A {s : mSt} (h : TSq s) : wnC s = wnA (s 2) (nO s) (aO s) := by
  have q := h.2.2.2.2
  unfold wnC wnA
  rw [q.2.1, q.1, q.2.2.1, tnc, tnc]
/-- numbers one behind another -/
def seqA (T : Nat → Int) (n : Nat) : List (Int × Int) → Nat → Int × Nat × List Int
  | [], a => (0, a, [])
  | x :: L, a => if nuA T n a x.1 x.2 = -1 then ((seqA T n L (nxA T n a)).1, (seqA T n L (nxA T n a)).2.1, vA T n a :: (seqA T n L (nxA T n a)).2.2) else (fuA a (nuA T n a x.1 x.2), a, [])
/-- what is read, a Board that holds it -/
def DRq (s : mSt) (k : Nat) (r : Rw) : Prop := (s k 0 = r 1 ∧ s k 1 = r 2 ∧ s k 2 = r 3 ∧ s k 3 = r 4 ∧ s k 4 = 0 ∧ s k 5 = 0) ∧ (∀ p : Nat, (p : Int) < r 3 → s (k + 1) p = r (82 + p) ∧ s (k + 2) p = r (77 + p)) ∧ (∀ c : Nat, (c : Int) < r 4 → s (k + 3) c = r (117 + c) ∧ s (k + 4) c = r (123 + c) ∧ s (k + 5) c = r (129 + c)) ∧ (∀ t : Nat, t < 30 → s (k + 6) t = r (87 + t)) ∧ (∀ c : Nat, c < 6 → s (k + 8) c = 0 ∧ s (k + 9) c = 0) ∧ (0 ≤ r 3 ∧ r 3 ≤ 5) ∧ (0 ≤ r 4 ∧ r 4 ≤ 6)
theorem DR_cells {s t : mSt} {k : Nat} {r : Rw} (h : DRq s k r) (e : ∀ x, k ≤ x ∧ x ≤ k + 9 → t x = s x) : DRq t k r := by
  unfold DRq
  rw [e k (by omega), e (k + 1) (by omega), e (k + 2) (by omega), e (k + 3) (by omega), e (k + 4) (by omega), e (k + 5) (by omega), e (k + 6) (by omega), e (k + 8) (by omega), e (k + 9) (by omega)]
  exact h
def rdD (r : Rw) (x y : Int) : Rw := up (up (up r 1 x) 2 y) 0 1
def rdP (r : Rw) (x y : Int) : Rw := up (up (up r (82 + (r 3).toNat) x) (77 + (r 3).toNat) y) 3 (r 3 + 1)
def rdC (r : Rw) (x y z : Int) : Rw := up (up (up (up r (117 + (r 4).toNat) x) (123 + (r 4).toNat) y) (129 + (r 4).toNat) z) 4 (r 4 + 1)
def rdT (r : Rw) (x y : Int) : Rw := up r (87 + x.toNat) y
theorem bd_8 {a : Nat} (h : isBd a) : 8 ≤ a := (show ∀ a ∈ bdL, 8 ≤ a by decide +kernel) a h
theorem v2 {X : (Nat → Int) × Nat} {d : Nat} {s : mSt} {Q : mQ} {a0 : Nat} (h0 : isBd a0)
  (I32 : Int → mSt → Prop) (m32 : Int → mSt → Nat)
  (I53 : Int → mSt → Prop) (m53 : Int → mSt → Nat)
  (z1 : ∀ y1 : Int, ∀ s : mSt, I32 y1 s → 30 ≤ y1 → I53 0 s ∧ m53 0 s < m32 y1 s)
  (z2 : ∀ y1 : Int, ∀ s : mSt, I32 y1 s → ¬ 30 ≤ y1 → 0 ≤ y1 ∧ y1 < 30)
  (z3 : ∀ y1 : Int, ∀ s : mSt, I32 y1 s → ¬ 30 ≤ y1 → I32 (w32 (y1 + 1)) (uS s (a0 + 6) y1.toNat 0) ∧ m32 (w32 (y1 + 1)) (uS s (a0 + 6) y1.toNat 0) < m32 y1 s)
  (z4 : ∀ y1 : Int, ∀ s : mSt, I53 y1 s → 6 ≤ y1 → Q none s)
  (z5 : ∀ y1 : Int, ∀ s : mSt, I53 y1 s → ¬ 6 ≤ y1 → 0 ≤ y1 ∧ y1 < 6)
  (z6 : ∀ y1 : Int, ∀ s : mSt, I53 y1 s → ¬ 6 ≤ y1 → I53 (w32 (y1 + 1)) (uS (uS s (a0 + 8) y1.toNat 0) (a0 + 9) y1.toNat 0) ∧ m53 (w32 (y1 + 1)) (uS (uS s (a0 + 8) y1.toNat 0) (a0 + 9) y1.toNat 0) < m53 y1 s)
  (z7 : I32 0 (uS (uS (uS (uS (uS (uS s a0 0 0) a0 1 0) a0 2 0) a0 3 0) a0 4 0) a0 5 0)) :
  Sp X d 2 [mR a0] s Q := by
  have L : ∀ k : Nat, (∀ (y1 : Int) (s : mSt), I32 y1 s → m32 y1 s < k → Wp X d 2 32 [some (mR a0), some (mI y1)] [] s Q) ∧ (∀ (y1 : Int) (s : mSt), I53 y1 s → m53 y1 s < k → Wp X d 2 53 [some (mR a0), some (mI y1)] [] s Q) := by
    intro k
    induction k with
    | zero => exact ⟨fun _ _ _ h => absurd h (Nat.not_lt_zero _), fun _ _ _ h => absurd h (Nat.not_lt_zero _)⟩
    | succ k ih => exact ⟨fun y1 s hI hm => b2_32 h0 (fun q1 => b2_51 h0 (ih.2 0 s (z1 y1 s hI q1).1 (Nat.lt_of_lt_of_le (z1 y1 s hI q1).2 (Nat.le_of_lt_succ hm)))) (fun q2 => b2_38 h0 (z2 y1 s hI q2) (ih.1 (w32 (y1 + 1)) (uS s (a0 + 6) y1.toNat 0) (z3 y1 s hI q2).1 (Nat.lt_of_lt_of_le (z3 y1 s hI q2).2 (Nat.le_of_lt_succ hm)))), fun y1 s hI hm => b2_53 h0 (fun q3 => b2_79 h0 (z4 y1 s hI q3)) (fun q4 => b2_59 h0 (z5 y1 s hI q4) (z5 y1 s hI q4) (ih.2 (w32 (y1 + 1)) (uS (uS s (a0 + 8) y1.toNat 0) (a0 + 9) y1.toNat 0) (z6 y1 s hI q4).1 (Nat.lt_of_lt_of_le (z6 y1 s hI q4).2 (Nat.le_of_lt_succ hm))))⟩
  exact e2 (b2_0 h0 ((L (m32 0 (uS (uS (uS (uS (uS (uS s a0 0 0) a0 1 0) a0 2 0) a0 3 0) a0 4 0) a0 5 0) + 1)).1 0 (uS (uS (uS (uS (uS (uS s a0 0 0) a0 1 0) a0 2 0) a0 3 0) a0 4 0) a0 5 0) z7 (Nat.lt_succ_self _)))

theorem c2 {X : (Nat → Int) × Nat} {d : Nat} {s : mSt} {Q : mQ} {a0 : Nat} (h0 : isBd a0) (k : ∀ t : mSt, (DRq t a0 (fun _ => 0) ∧ fB s t a0) → Q none t) : Sp X d 2 [mR a0] s Q := by
  let I : Int → mSt → Prop := fun y t => ∃ j : Nat, y = j ∧ j ≤ 30 ∧ (∀ i, i < j → t (a0 + 6) i = 0) ∧ (∀ i, i < 6 → t a0 i = 0) ∧ fB s t a0
  let J : Int → mSt → Prop := fun y t => ∃ j : Nat, y = j ∧ j ≤ 6 ∧ (∀ i, i < 30 → t (a0 + 6) i = 0) ∧ (∀ i, i < j → t (a0 + 8) i = 0 ∧ t (a0 + 9) i = 0) ∧ (∀ i, i < 6 → t a0 i = 0) ∧ fB s t a0
  refine v2 h0 I (fun y _ => (100 - y).toNat) J (fun y _ => (50 - y).toNat) ?_ ?_ ?_ ?_ ?_ ?_ ?_
  · rintro _ t ⟨j, rfl, hj, h1, h2, hf⟩ hc
    exact ⟨⟨0, rfl, by omega, fun i hi => h1 i (by omega), fun i hi => by omega, h2, hf⟩, by omega⟩
  · rintro _ t ⟨j, rfl, hj, h1, h2, hf⟩ hc
    omega
  · rintro _ t ⟨j, rfl, hj, h1, h2, hf⟩ hc
    rw [tnc, w32_of (by omega)]
    refine ⟨⟨j + 1, by omega, by omega, fun i hi => ?_, fun i hi => by rw [uS_cell (by omega)]; exact h2 i hi, fun b hb => by rw [uS_cell (by omega)]; exact hf b hb⟩, by omega⟩
    rw [uS_at]
    by_cases z : i = j
    · rw [if_pos z]
    · rw [if_neg z]; exact h1 i (by omega)
  · rintro _ t ⟨j, rfl, hj, h1, h3, h2, hf⟩ hc
    refine k t ⟨⟨⟨h2 0 (by decide), h2 1 (by decide), h2 2 (by decide), h2 3 (by decide), h2 4 (by decide), h2 5 (by decide)⟩, fun p hp => absurd (show (p : Int) < 0 from hp) (by omega), fun c hc => absurd (show (c : Int) < 0 from hc) (by omega), fun t' ht => h1 t' ht, fun c hc' => h3 c (by omega), by decide, by decide⟩, hf⟩
  · rintro _ t ⟨j, rfl, hj, h1, h3, h2, hf⟩ hc
    omega
  · rintro _ t ⟨j, rfl, hj, h1, h3, h2, hf⟩ hc
    rw [tnc, w32_of (by omega)]
    refine ⟨⟨j + 1, by omega, by omega, fun i hi => by rw [uS_cell (by omega), uS_cell (by omega)]; exact h1 i hi, fun i hi => ?_, fun i hi => by rw [uS_cell (by omega), uS_cell (by omega)]; exact h2 i hi, fun b hb => by rw [uS_cell (by omega), uS_cell (by omega)]; exact hf b hb⟩, by omega⟩
    rw [uS_cell (show a0 + 8 ≠ a0 + 9 by omega), uS_at, uS_at, uS_cell (show a0 + 9 ≠ a0 + 8 by omega)]
    by_cases z : i = j
    · rw [if_pos z, if_pos z]; exact ⟨rfl, rfl⟩
    · rw [if_neg z, if_neg z]; exact h3 i (by omega)
  · refine ⟨0, rfl, by omega, fun i hi => by omega, fun i hi => ?_, fun b hb => ?_⟩
    · rw [uS_at, uS_at, uS_at, uS_at, uS_at, uS_at]
      rcases (show i = 0 ∨ i = 1 ∨ i = 2 ∨ i = 3 ∨ i = 4 ∨ i = 5 by omega) with e | e | e | e | e | e <;> subst e <;> simp
    · rw [uS_cell (by omega), uS_cell (by omega), uS_cell (by omega), uS_cell (by omega), uS_cell (by omega), uS_cell (by omega)]
theorem v4 {X : (Nat → Int) × Nat} {d : Nat} {s : mSt} {Q : mQ} {a0 : Nat} {x1 : Int} {x2 : Int} (h0 : isBd a0)
  (z1 : 5 ≤ (s a0 2) → Q none s)
  (z2 : ¬ 5 ≤ (s a0 2) → 0 ≤ (s a0 2) ∧ (s a0 2) < 5)
  (z3 : ¬ 5 ≤ (s a0 2) → 0 ≤ ((uS s (a0 + 1) ((s a0 2).toNat) x1) a0 2) ∧ ((uS s (a0 + 1) ((s a0 2).toNat) x1) a0 2) < 5)
  (z4 : ¬ 5 ≤ (s a0 2) → ∀ t3 : mSt, t3 = uS (uS (uS s (a0 + 1) ((s a0 2).toNat) x1) (a0 + 2) (((uS s (a0 + 1) ((s a0 2).toNat) x1) a0 2).toNat) x2) a0 2 (w32 (((uS (uS s (a0 + 1) ((s a0 2).toNat) x1) (a0 + 2) (((uS s (a0 + 1) ((s a0 2).toNat) x1) a0 2).toNat) x2) a0 2) + 1)) → Q none t3) :
  Sp X d 4 [mR a0, mI x1, mI x2] s Q := e4 (b4_0 h0 (fun q1 => b4_38 h0 (z1 q1)) (fun q2 => b4_8 h0 (z2 q2) (z3 q2) (Wp_gen (fun t3 e3 => b4_38 h0 (z4 q2 t3 e3)))))

theorem c4 {X : (Nat → Int) × Nat} {d : Nat} {s : mSt} {Q : mQ} {a0 : Nat} {x1 : Int} {x2 : Int} (h0 : isBd a0) (p1 : 0 ≤ s a0 2 ∧ s a0 2 < 5) (k : ∀ t : mSt, (t = uS (uS (uS s (a0 + 1) (s a0 2).toNat x1) (a0 + 2) (s a0 2).toNat x2) a0 2 (s a0 2 + 1)) → Q none t) : Sp X d 4 [mR a0, mI x1, mI x2] s Q := by
  have c : ∀ (q : mSt) (i : Nat) (x : Int), uS q (a0 + 1) i x a0 = q a0 := fun q i x => uS_cell (by omega)
  have c2 : ∀ (q : mSt) (i : Nat) (x : Int), uS q (a0 + 2) i x a0 = q a0 := fun q i x => uS_cell (by omega)
  refine v4 h0 (fun z => by omega) (fun z => p1) (fun z => by rw [c]; exact p1) (fun z t ht => k t ?_)
  rw [c2, c, w32_of (by omega)] at ht
  exact ht
theorem v5 {X : (Nat → Int) × Nat} {d : Nat} {s : mSt} {Q : mQ} {a0 : Nat} {x1 : Int} {x2 : Int} {x3 : Int} (h0 : isBd a0)
  (z1 : 6 ≤ (s a0 3) → Q none s)
  (z2 : ¬ 6 ≤ (s a0 3) → 0 ≤ (s a0 3) ∧ (s a0 3) < 6)
  (z3 : ¬ 6 ≤ (s a0 3) → 0 ≤ ((uS s (a0 + 3) ((s a0 3).toNat) x1) a0 3) ∧ ((uS s (a0 + 3) ((s a0 3).toNat) x1) a0 3) < 6)
  (z4 : ¬ 6 ≤ (s a0 3) → 0 ≤ ((uS (uS s (a0 + 3) ((s a0 3).toNat) x1) (a0 + 4) (((uS s (a0 + 3) ((s a0 3).toNat) x1) a0 3).toNat) x2) a0 3) ∧ ((uS (uS s (a0 + 3) ((s a0 3).toNat) x1) (a0 + 4) (((uS s (a0 + 3) ((s a0 3).toNat) x1) a0 3).toNat) x2) a0 3) < 6)
  (z5 : ¬ 6 ≤ (s a0 3) → ∀ t3 : mSt, t3 = uS (uS (uS (uS s (a0 + 3) ((s a0 3).toNat) x1) (a0 + 4) (((uS s (a0 + 3) ((s a0 3).toNat) x1) a0 3).toNat) x2) (a0 + 5) (((uS (uS s (a0 + 3) ((s a0 3).toNat) x1) (a0 + 4) (((uS s (a0 + 3) ((s a0 3).toNat) x1) a0 3).toNat) x2) a0 3).toNat) x3) a0 3 (w32 (((uS (uS (uS s (a0 + 3) ((s a0 3).toNat) x1) (a0 + 4) (((uS s (a0 + 3) ((s a0 3).toNat) x1) a0 3).toNat) x2) (a0 + 5) (((uS (uS s (a0 + 3) ((s a0 3).toNat) x1) (a0 + 4) (((uS s (a0 + 3) ((s a0 3).toNat) x1) a0 3).toNat) x2) a0 3).toNat) x3) a0 3) + 1)) → Q none t3) :
  Sp X d 5 [mR a0, mI x1, mI x2, mI x3] s Q := e5 (b5_0 h0 (fun q1 => b5_49 h0 (z1 q1)) (fun q2 => b5_9 h0 (z2 q2) (z3 q2) (z4 q2) (Wp_gen (fun t3 e3 => b5_49 h0 (z5 q2 t3 e3)))))

theorem c5 {X : (Nat → Int) × Nat} {d : Nat} {s : mSt} {Q : mQ} {a0 : Nat} {x1 : Int} {x2 : Int} {x3 : Int} (h0 : isBd a0) (p1 : 0 ≤ s a0 3 ∧ s a0 3 < 6) (k : ∀ t : mSt, (t = uS (uS (uS (uS s (a0 + 3) (s a0 3).toNat x1) (a0 + 4) (s a0 3).toNat x2) (a0 + 5) (s a0 3).toNat x3) a0 3 (s a0 3 + 1)) → Q none t) : Sp X d 5 [mR a0, mI x1, mI x2, mI x3] s Q := by
  have c : ∀ (q : mSt) (i : Nat) (x : Int), uS q (a0 + 3) i x a0 = q a0 := fun q i x => uS_cell (by omega)
  have c2 : ∀ (q : mSt) (i : Nat) (x : Int), uS q (a0 + 4) i x a0 = q a0 := fun q i x => uS_cell (by omega)
  have c3 : ∀ (q : mSt) (i : Nat) (x : Int), uS q (a0 + 5) i x a0 = q a0 := fun q i x => uS_cell (by omega)
  refine v5 h0 (fun z => by omega) (fun z => p1) (fun z => by rw [c]; exact p1) (fun z => by rw [c2, c]; exact p1) (fun z t ht => k t ?_)
  rw [c3, c2, c, w32_of (by omega)] at ht
  exact ht
def f14 (s t : mSt) : Prop := (∀ b, b ≠ 1 → b ≠ 4 → t b = s b)
/-- two numbers read, three -/
theorem N2 {s a b : mSt} {l m l' m' : Int} (h1 : N1q s a 0 l m) (h2 : N1q a b 1 l' m') : seqA (s 2) (nO s) [(l, m), (l', m')] (aO s) = (0, aO b, [b 4 0, b 4 1]) ∧ TSa s b (aO b) ∧ b 1 6 = 0 ∧ f14 s b := by
  obtain ⟨n1, t1, z1, e1, f1'⟩ := h1
  obtain ⟨n2, t2, z2, e2, f2'⟩ := h2
  have en : nO a = nO s := by unfold nO; rw [t1.2.2.1]
  rw [t1.2.1, en, t1.2.2.2] at n2 t2 e2
  refine ⟨?_, ⟨t2.1, t2.2.1.trans t1.2.1, t2.2.2.1.trans t1.2.2.1, rfl⟩, z2, fun x g1 g2 => (f2' x g1 g2).trans (f1' x g1 g2)⟩
  rw [e2, up_at, up_ne (by decide), e1, up_at]
  simp only [seqA, n1, n2, if_true]
  rw [t2.2.2.2]
theorem N2f {s a b : mSt} {l m l' m' : Int} (h1 : N1q s a 0 l m) (h2 : N0q a b l' m') : (seqA (s 2) (nO s) [(l, m), (l', m')] (aO s)).1 = b 1 6 ∧ ¬ b 1 6 = 0 ∧ b 1 1 = s 1 1 ∧ f14 s b := by
  obtain ⟨n1, t1, z1, e1, f1'⟩ := h1
  obtain ⟨n2, t2, z2, f2'⟩ := h2
  have en : nO a = nO s := by unfold nO; rw [t1.2.2.1]
  rw [t1.2.1, en, t1.2.2.2] at n2 t2
  have nb := nuA_b (s 2) (nO s) (nxA (s 2) (nO s) (aO s)) l' m'
  refine ⟨?_, by rw [t2]; unfold fuA; omega, z2.trans t1.2.2.1, fun x g1 g2 => (f2' x g1).trans (f1' x g1 g2)⟩
  simp only [seqA, n1, n2, if_true, if_false, ite_false, ite_true]
  rw [t2]
theorem N1f {s b : mSt} {l m : Int} {L : List (Int × Int)} (h2 : N0q s b l m) : (seqA (s 2) (nO s) ((l, m) :: L) (aO s)).1 = b 1 6 ∧ ¬ b 1 6 = 0 ∧ b 1 1 = s 1 1 ∧ f14 s b := by
  obtain ⟨n2, t2, z2, f2'⟩ := h2
  have nb := nuA_b (s 2) (nO s) (aO s) l m
  refine ⟨?_, by rw [t2]; unfold fuA; omega, z2, fun x g1 g2 => f2' x g1⟩
  rw [seqA, if_neg n2, t2]
/-- a clause read by a Board, in the row x; or not -/
def C1q (s t : mSt) (k : Nat) (L : List (Int × Int)) (w : Rw → List Int → Rw) : Prop := (seqA (s 2) (nO s) L (aO s)).1 = 0 ∧ TSa s t (seqA (s 2) (nO s) L (aO s)).2.1 ∧ t 1 6 = 0 ∧ (∀ r, DRq s k r → DRq t k (w r (seqA (s 2) (nO s) L (aO s)).2.2)) ∧ ∀ b, b ≠ 1 → b ≠ 4 → ¬ (k ≤ b ∧ b ≤ k + 9) → t b = s b
def C0q (s t : mSt) (k : Nat) (L : List (Int × Int)) : Prop := ¬ (seqA (s 2) (nO s) L (aO s)).1 = 0 ∧ t 1 6 = (seqA (s 2) (nO s) L (aO s)).1 ∧ t 1 1 = s 1 1 ∧ ∀ b, b ≠ 1 → b ≠ 4 → ¬ (k ≤ b ∧ b ≤ k + 9) → t b = s b
theorem TSa_c {s t u : mSt} {a : Nat} (h : TSa s t a) (e1 : u 1 = t 1) (e2 : u 2 = t 2) : TSa s u a := by
  have en : nO u = nO t := by unfold nO; rw [e1]
  have ea : aO u = aO t := by unfold aO; rw [e1]
  refine ⟨?_, by rw [e2]; exact h.2.1, by rw [e1]; exact h.2.2.1, by rw [ea]; exact h.2.2.2⟩
  unfold TSq BYq TKq
  rw [e1, e2, en, ea]; exact h.1
theorem v36 {X : (Nat → Int) × Nat} {d : Nat} {s : mSt} {Q : mQ} {a1 : Nat} (h1 : isBd a1)
  (z1 : TSq s ∧ s 1 6 = 0 ∧ (0 ≤ (0 : Int) ∧ (0 : Int) < 3))
  (z2 : ∀ s1 : mSt, N1q s s1 (0 : Int).toNat (1 : Int) (9 : Int) → TSq s1 ∧ s1 1 6 = 0 ∧ (0 ≤ (1 : Int) ∧ (1 : Int) < 3))
  (z3 : ∀ s1 : mSt, N1q s s1 (0 : Int).toNat (1 : Int) (9 : Int) → ∀ s2 : mSt, N1q s1 s2 (1 : Int).toNat (1 : Int) (20 : Int) → Q (some (mI 1)) (uS (uS s2 a1 0 (s2 4 0)) a1 1 ((uS s2 a1 0 (s2 4 0)) 4 1)))
  (z4 : ∀ s1 : mSt, N1q s s1 (0 : Int).toNat (1 : Int) (9 : Int) → ∀ s3 : mSt, N0q s1 s3 (1 : Int) (20 : Int) → Q (some (mI 0)) s3)
  (z5 : ∀ s4 : mSt, N0q s s4 (1 : Int) (9 : Int) → Q (some (mI 0)) s4) :
  Sp X (d + 2) 36 [mR 3, mR a1] s Q := e36 (b36_0 h1 (c40 z1 (fun s1 q1 => ⟨1, rfl, b36_8 h1 (fun q => absurd q (by decide)) (fun _ => b36_11 h1 (c40 (z2 s1 q1) (fun s2 q2 => ⟨1, rfl, b36_19 h1 (fun _ => b36_24 h1 (z3 s1 q1 s2 q2)) (fun q => absurd q (by decide))⟩) (fun s3 q3 => ⟨0, rfl, b36_19 h1 (fun q => absurd q (by decide)) (fun _ => b36_22 h1 (z4 s1 q1 s3 q3))⟩)))⟩) (fun s4 q4 => ⟨0, rfl, b36_8 h1 (fun _ => b36_22 h1 (z5 s4 q4)) (fun q => absurd q (by decide))⟩)))

