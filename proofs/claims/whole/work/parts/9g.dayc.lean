/-! a DAY read: the class -/
def vA (T : Nat → Int) (n a : Nat) : Int := nv T a (tkP T n a - a)
def nuA (T : Nat → Int) (n a : Nat) (l m : Int) : Int := if tkK T n a = 256 then (if (tkP T n a : Int) - (a : Int) ≤ 5 ∧ l ≤ vA T n a ∧ vA T n a ≤ m then -1 else 1) else 0
theorem nuA_b (T : Nat → Int) (n a : Nat) (l m : Int) : -1 ≤ nuA T n a l m ∧ nuA T n a l m ≤ 1 := by
  unfold nuA; split
  · split <;> omega
  · omega
def fuA (a : Nat) (c : Int) : Int := 1 + 8 * (a : Int) + c
theorem nfC_A {s : mSt} (h : TSq s) (l m : Int) : nfC s l m = nuA (s 2) (nO s) (aO s) l m ∧ (nuA (s 2) (nO s) (aO s) l m = -1 → s 1 5 = vA (s 2) (nO s) (aO s)) := by
  have q := h.2.2.2.2
  unfold nfC nuA
  rw [q.2.1, q.1, q.2.2.1]
  by_cases z : tkK (s 2) (nO s) (aO s) = 256
  · rw [if_pos z, if_pos z, q.2.2.2 z]
    exact ⟨rfl, fun _ => rfl⟩
  · rw [if_neg z, if_neg z]
    exact ⟨rfl, fun w => absurd w (by decide)⟩
theorem flC_z {s : mSt} (h : TSq s) (z : s 1 6 = 0) (x : Int) : flC s x = uS s 1 6 (fuA (aO s) x) := by
  have b := ts_b h
  unfold flC fuA
  rw [if_pos z, b.2.2.1]
theorem ts_400 {s : mSt} (h : TSq s) : (0 ≤ s 1 3 ∧ s 1 3 ≤ s 1 4 ∧ s 1 4 ≤ 400) ∧ (0 ≤ s 1 4 ∧ s 1 4 ≤ s 1 1 ∧ s 1 1 ≤ 400) ∧ (0 ≤ s 1 3 ∧ s 1 3 ≤ 400) := by
  have b := ts_b h
  have h1 := h.2.1
  omega
def N1q (s t : mSt) (i : Nat) (l m : Int) : Prop := nuA (s 2) (nO s) (aO s) l m = -1 ∧ TSa s t (nxA (s 2) (nO s) (aO s)) ∧ t 1 6 = 0 ∧ t 4 = up (s 4) i (vA (s 2) (nO s) (aO s)) ∧ ∀ b, b ≠ 1 → b ≠ 4 → t b = s b
def N0q (s t : mSt) (l m : Int) : Prop := ¬ nuA (s 2) (nO s) (aO s) l m = -1 ∧ t 1 6 = fuA (aO s) (nuA (s 2) (nO s) (aO s) l m) ∧ t 1 1 = s 1 1 ∧ ∀ b, b ≠ 1 → t b = s b
theorem v40 {X : (Nat → Int) × Nat} {d : Nat} {s : mSt} {Q : mQ} {x1 : Int} {x2 : Int} {x3 : Int}
  (z1 : 0 ≤ s 1 3 ∧ s 1 3 ≤ s 1 4 ∧ s 1 4 ≤ 400)
  (z2 : (nfC s x2 x3) = (-1) → 0 ≤ x1 ∧ x1 < 3)
  (z3 : (nfC s x2 x3) = (-1) → ∀ t2 : mSt, t2 = uS s 4 x1.toNat (s 1 5) → (0 ≤ t2 1 4 ∧ t2 1 4 ≤ t2 1 1 ∧ t2 1 1 ≤ 400) ∧ BYq t2)
  (z4 : (nfC s x2 x3) = (-1) → ∀ t2 : mSt, t2 = uS s 4 x1.toNat (s 1 5) → ∀ s3 : mSt, (TKq (t2 2) (t2 1 1).toNat (sk (t2 2) (t2 1 1).toNat (t2 1 4).toNat) s3 ∧ f1 t2 s3) → Q (some (mI 1)) s3)
  (z5 : ¬ (nfC s x2 x3) = (-1) → (0 ≤ s 1 3 ∧ s 1 3 ≤ 400) ∧ (0 ≤ (nfC s x2 x3) ∧ (nfC s x2 x3) ≤ 4))
  (z6 : ¬ (nfC s x2 x3) = (-1) → ∀ v5 : Int, ∀ s5 : mSt, (v5 = 0 ∧ s5 = flC s (nfC s x2 x3)) → Q (some (mI v5)) s5)
  (z7 : ¬ (nfC s x2 x3) = (-1) → ∀ v5 : Int, ∀ s5 : mSt, (v5 = 0 ∧ s5 = flC s (nfC s x2 x3)) → v5 = 0 ∨ v5 = 1) :
  Sp X (d + 1) 40 [mR 3, mI x1, mI x2, mI x3] s Q := e40 (b40_0 (c95 z1 ⟨_, rfl, b40_9 (fun q1 => b40_27 (z2 q1) (Sp_gen (fun t2 e2 => (c90 (z3 q1 t2 e2) (fun s3 q3 => ⟨rfl, b40_47 (z4 q1 t2 e2 s3 q3)⟩))))) (fun q4 => b40_17 (c94 (z5 q4) (fun v5 s5 q5 => ⟨v5, rfl, b40_26 (z6 q4 v5 s5 q5) (z7 q4 v5 s5 q5)⟩)))⟩))

theorem c40 {X : (Nat → Int) × Nat} {d : Nat} {s : mSt} {Q : mQ} {x1 : Int} {x2 : Int} {x3 : Int} (p1 : TSq s ∧ s 1 6 = 0 ∧ (0 ≤ x1 ∧ x1 < 3)) (k1 : ∀ t : mSt, (N1q s t x1.toNat x2 x3) → Q (some (mI 1)) t) (k0 : ∀ t : mSt, (N0q s t x2 x3) → Q (some (mI 0)) t) : Sp X (d + 1) 40 [mR 3, mI x1, mI x2, mI x3] s Q := by
  obtain ⟨h, hz, hx⟩ := p1
  have b4 := ts_400 h
  have e := nfC_A h x2 x3
  have nb := nuA_b (s 2) (nO s) (aO s) x2 x3
  have c2 : ∀ t2 : mSt, t2 = uS s 4 x1.toNat (s 1 5) → (∀ b, b ≠ 4 → t2 b = s b) ∧ TSq t2 ∧ nO t2 = nO s ∧ aO t2 = aO s := fun t2 h2 => by
    have c : ∀ b, b ≠ 4 → t2 b = s b := fun b hb => by rw [h2]; exact uS_cell hb
    have e1 := c 1 (by decide)
    have e2 := c 2 (by decide)
    have en : nO t2 = nO s := by unfold nO; rw [e1]
    have ea : aO t2 = aO s := by unfold aO; rw [e1]
    refine ⟨c, ?_, en, ea⟩
    unfold TSq BYq TKq
    rw [e1, e2, en, ea]; exact h
  refine v40 b4.1 (fun z => hx) (fun z t2 h2 => ?_) (fun z t2 h2 t ht => ?_) (fun z => ⟨b4.2.2, by rw [e.1] at z ⊢; omega⟩) (fun z v t hv => ?_) (fun z v t hv => Or.inl hv.1)
  · have c := c2 t2 h2
    exact ⟨(ts_400 c.2.1).2.1, c.2.1.1⟩
  · have c := c2 t2 h2
    have q := ts_scan c.2.1 ht
    rw [c.1 2 (by decide), c.2.2.1, c.2.2.2] at q
    rw [e.1] at z
    refine k1 t ⟨z, ⟨q.1.1, ?_, ?_, q.1.2.2.2⟩, ?_, ?_, fun b g1 g2 => (ht.2.1 b g1).trans (c.1 b g2)⟩
    · rw [q.1.2.1, c.1 2 (by decide)]
    · rw [q.1.2.2.1, c.1 1 (by decide)]
    · rw [q.2, c.1 1 (by decide)]; exact hz
    · rw [ht.2.1 4 (by decide), h2, ← e.2 z]
      funext j; rw [uS_at]; rfl
  · rw [e.1] at z hv
    rw [flC_z h hz] at hv
    rw [hv.1, hv.2]
    exact k0 _ ⟨z, by rw [uS_at, if_pos rfl], by rw [uS_at, if_neg (by decide)], fun b hb => uS_cell hb⟩
theorem v93 {X : (Nat → Int) × Nat} {d : Nat} {s : mSt} {Q : mQ}
  (z1 : ¬ (s 1 2) = 59 → (s 1 2) = (-1) → Q (some (mI 0)) s)
  (z2 : ¬ (s 1 2) = 59 → ¬ (s 1 2) = (-1) → (0 ≤ s 1 3 ∧ s 1 3 ≤ 400) ∧ (0 ≤ (0 : Int) ∧ (0 : Int) ≤ 4))
  (z3 : ¬ (s 1 2) = 59 → ¬ (s 1 2) = (-1) → ∀ v4 : Int, ∀ s4 : mSt, (v4 = 0 ∧ s4 = flC s (0 : Int)) → v4 = 0 → Q (some (mI 0)) s4)
  (z4 : ¬ (s 1 2) = 59 → ¬ (s 1 2) = (-1) → ∀ v4 : Int, ∀ s4 : mSt, (v4 = 0 ∧ s4 = flC s (0 : Int)) → ¬ v4 = 0 → Q (some (mI 1)) s4)
  (z5 : (s 1 2) = 59 → (0 ≤ s 1 4 ∧ s 1 4 ≤ s 1 1 ∧ s 1 1 ≤ 400) ∧ BYq s)
  (z6 : (s 1 2) = 59 → ∀ s8 : mSt, (TKq (s 2) (s 1 1).toNat (sk (s 2) (s 1 1).toNat (s 1 4).toNat) s8 ∧ f1 s s8) → Q (some (mI 1)) s8) :
  Sp X (d + 1) 93 [mR 1] s Q := e93 (b93_0 (fun q1 => b93_15 (fun q2 => b93_35 (b93_36 (z1 q1 q2) (Or.inl rfl))) (fun q3 => b93_23 (c94 (z2 q1 q3) (fun v4 s4 q4 => ⟨v4, rfl, b93_28 (fun q5 => b93_35 (b93_36 (z3 q1 q3 v4 s4 q4 q5) (Or.inl rfl))) (fun q6 => b93_31 (b93_36 (z4 q1 q3 v4 s4 q4 q6) (Or.inr rfl)))⟩)))) (fun q7 => b93_9 (c90 (z5 q7) (fun s8 q8 => ⟨rfl, b93_13 (z6 q7 s8 q8)⟩))))

theorem c93 {X : (Nat → Int) × Nat} {d : Nat} {s : mSt} {Q : mQ} (p1 : TSq s ∧ s 1 6 = 0) (k1 : ∀ t : mSt, (tkK (s 2) (nO s) (aO s) = 59 ∧ TSa s t (nxA (s 2) (nO s) (aO s)) ∧ t 1 6 = 0 ∧ ∀ b, b ≠ 1 → t b = s b) → Q (some (mI 1)) t) (k0 : ∀ t : mSt, (¬ tkK (s 2) (nO s) (aO s) = 59 ∧ t 1 6 = (if tkK (s 2) (nO s) (aO s) = -1 then 0 else fuA (aO s) 0) ∧ t 1 1 = s 1 1 ∧ ∀ b, b ≠ 1 → t b = s b) → Q (some (mI 0)) t) : Sp X (d + 1) 93 [mR 1] s Q := by
  obtain ⟨h, hz⟩ := p1
  have b4 := ts_400 h
  have ek : s 1 2 = tkK (s 2) (nO s) (aO s) := h.2.2.2.2.2.1
  refine v93 (fun z z2 => ?_) (fun z z2 => ⟨b4.2.2, by decide⟩) (fun z z2 v t hv _ => ?_) (fun z z2 v t hv q => absurd hv.1 q) (fun z => ⟨b4.2.1, h.1⟩) (fun z t ht => ?_)
  · rw [ek] at z z2
    exact k0 s ⟨z, by rw [if_pos z2]; exact hz, rfl, fun _ _ => rfl⟩
  · rw [ek] at z z2
    rw [hv.2, flC_z h hz]
    exact k0 _ ⟨z, by rw [uS_at, if_pos rfl, if_neg z2], by rw [uS_at, if_neg (by decide)], fun b hb => uS_cell hb⟩
  · rw [ek] at z
    have q := ts_scan h ht
    exact k1 t ⟨z, q.1, by rw [q.2]; exact hz, ht.2.1⟩
theorem v92 {X : (Nat → Int) × Nat} {d : Nat} {s : mSt} {Q : mQ} {x1 : Int}
  (z1 : 0 ≤ s 1 3 ∧ s 1 3 ≤ s 1 4 ∧ s 1 4 ≤ 400)
  (z2 : ¬ (wnC s) = x1 → Q (some (mI 0)) s)
  (z3 : (wnC s) = x1 → Q (some (mI 1)) s) :
  Sp X (d + 6) 92 [mR 1, mI x1] s Q := e92 (b92_0 (c91 z1 ⟨_, rfl, b92_4 (fun q1 => b92_12 (b92_13 (z2 q1) (Or.inl rfl))) (fun q2 => b92_8 (b92_13 (z3 q2) (Or.inr rfl)))⟩))

theorem c92 {X : (Nat → Int) × Nat} {d : Nat} {s : mSt} {Q : mQ} {x1 : Int} (p1 : TSq s) (k1 : (wnC s = x1) → Q (some (mI 1)) s) (k0 : ¬ (wnC s = x1) → Q (some (mI 0)) s) : Sp X (d + 6) 92 [mR 1, mI x1] s Q := v92 (ts_400 p1).1 k0 k1
def wnA (T : Nat → Int) (n a : Nat) : Int := if tkK T n a = 257 then fd (isWb T a (tkP T n a)) 19 else -1
theorem wnC_A {s : mSt} (h : TSq s) : wnC s = wnA (s 2) (nO s) (aO s) := by
  have q := h.2.2.2.2
  unfold wnC wnA
  rw [q.2.1, q.1, q.2.2.1, tnc, tnc]
/-- numbers one behind another -/
def seqA (T : Nat → Int) (n : Nat) : List (Int × Int) → Nat → Int × Nat × List Int
  | [], a => (0, a, [])
  | x :: L, a => if nuA T n a x.1 x.2 = -1 then ((seqA T n L (nxA T n a)).1, (seqA T n L (nxA T n a)).2.1, vA T n a :: (seqA T n L (nxA T n a)).2.2) else (fuA a (nuA T n a x.1 x.2), a, [])
/-- what is read, a Board that holds it -/
def DRq (s : mSt) (k : Nat) (r : Rw) : Prop := (s k 0 = r 1 ∧ s k 1 = r 2 ∧ s k 2 = r 3 ∧ s k 3 = r 4 ∧ s k 4 = 0 ∧ s k 5 = 0) ∧ (∀ p : Nat, (p : Int) < r 3 → s (k + 1) p = r (82 + p) ∧ s (k + 2) p = r (77 + p)) ∧ (∀ c : Nat, (c : Int) < r 4 → s (k + 3) c = r (117 + c) ∧ s (k + 4) c = r (123 + c) ∧ s (k + 5) c = r (129 + c)) ∧ (∀ t : Nat, t < 30 → s (k + 6) t = r (87 + t)) ∧ (∀ c : Nat, c < 6 → s (k + 8) c = 0 ∧ s (k + 9) c = 0) ∧ (0 ≤ r 3 ∧ r 3 ≤ 5) ∧ (0 ≤ r 4 ∧ r 4 ≤ 6)
theorem DR_cells {s t : mSt} {k : Nat} {r : Rw} (h : DRq s k r) (e : ∀ x, k ≤ x ∧ x ≤ k + 9 → t x = s x) : DRq t k r := by
  unfold DRq
  rw [e k (by omega), e (k + 1) (by omega), e (k + 2) (by omega), e (k + 3) (by omega), e (k + 4) (by omega), e (k + 5) (by omega), e (k + 6) (by omega), e (k + 8) (by omega), e (k + 9) (by omega)]
  exact h
def rdD (r : Rw) (x y : Int) : Rw := up (up (up r 1 x) 2 y) 0 1
def rdP (r : Rw) (x y : Int) : Rw := up (up (up r (82 + (r 3).toNat) x) (77 + (r 3).toNat) y) 3 (r 3 + 1)
def rdC (r : Rw) (x y z : Int) : Rw := up (up (up (up r (117 + (r 4).toNat) x) (123 + (r 4).toNat) y) (129 + (r 4).toNat) z) 4 (r 4 + 1)
def rdT (r : Rw) (x y : Int) : Rw := up r (87 + x.toNat) y
theorem bd_8 {a : Nat} (h : isBd a) : 8 ≤ a := (show ∀ a ∈ bdL, 8 ≤ a by decide +kernel) a h
theorem v2 {X : (Nat → Int) × Nat} {d : Nat} {s : mSt} {Q : mQ} {a0 : Nat} (h0 : isBd a0)
  (I32 : Int → mSt → Prop) (m32 : Int → mSt → Nat)
  (I53 : Int → mSt → Prop) (m53 : Int → mSt → Nat)
  (z1 : ∀ y1 : Int, ∀ s : mSt, I32 y1 s → 30 ≤ y1 → I53 0 s ∧ m53 0 s < m32 y1 s)
  (z2 : ∀ y1 : Int, ∀ s : mSt, I32 y1 s → ¬ 30 ≤ y1 → 0 ≤ y1 ∧ y1 < 30)
  (z3 : ∀ y1 : Int, ∀ s : mSt, I32 y1 s → ¬ 30 ≤ y1 → I32 (w32 (y1 + 1)) (uS s (a0 + 6) y1.toNat 0) ∧ m32 (w32 (y1 + 1)) (uS s (a0 + 6) y1.toNat 0) < m32 y1 s)
  (z4 : ∀ y1 : Int, ∀ s : mSt, I53 y1 s → 6 ≤ y1 → Q none s)
  (z5 : ∀ y1 : Int, ∀ s : mSt, I53 y1 s → ¬ 6 ≤ y1 → 0 ≤ y1 ∧ y1 < 6)
  (z6 : ∀ y1 : Int, ∀ s : mSt, I53 y1 s → ¬ 6 ≤ y1 → I53 (w32 (y1 + 1)) (uS (uS s (a0 + 8) y1.toNat 0) (a0 + 9) y1.toNat 0) ∧ m53 (w32 (y1 + 1)) (uS (uS s (a0 + 8) y1.toNat 0) (a0 + 9) y1.toNat 0) < m53 y1 s)
  (z7 : I32 0 (uS (uS (uS (uS (uS (uS s a0 0 0) a0 1 0) a0 2 0) a0 3 0) a0 4 0) a0 5 0)) :
  Sp X d 2 [mR a0] s Q := by
  have L : ∀ k : Nat, (∀ (y1 : Int) (s : mSt), I32 y1 s → m32 y1 s < k → Wp X d 2 32 [some (mR a0), some (mI y1)] [] s Q) ∧ (∀ (y1 : Int) (s : mSt), I53 y1 s → m53 y1 s < k → Wp X d 2 53 [some (mR a0), some (mI y1)] [] s Q) := by
    intro k
    induction k with
    | zero => exact ⟨fun _ _ _ h => absurd h (Nat.not_lt_zero _), fun _ _ _ h => absurd h (Nat.not_lt_zero _)⟩
    | succ k ih => exact ⟨fun y1 s hI hm => b2_32 h0 (fun q1 => b2_51 h0 (ih.2 0 s (z1 y1 s hI q1).1 (Nat.lt_of_lt_of_le (z1 y1 s hI q1).2 (Nat.le_of_lt_succ hm)))) (fun q2 => b2_38 h0 (z2 y1 s hI q2) (ih.1 (w32 (y1 + 1)) (uS s (a0 + 6) y1.toNat 0) (z3 y1 s hI q2).1 (Nat.lt_of_lt_of_le (z3 y1 s hI q2).2 (Nat.le_of_lt_succ hm)))), fun y1 s hI hm => b2_53 h0 (fun q3 => b2_79 h0 (z4 y1 s hI q3)) (fun q4 => b2_59 h0 (z5 y1 s hI q4) (z5 y1 s hI q4) (ih.2 (w32 (y1 + 1)) (uS (uS s (a0 + 8) y1.toNat 0) (a0 + 9) y1.toNat 0) (z6 y1 s hI q4).1 (Nat.lt_of_lt_of_le (z6 y1 s hI q4).2 (Nat.le_of_lt_succ hm))))⟩
  exact e2 (b2_0 h0 ((L (m32 0 (uS (uS (uS (uS (uS (uS s a0 0 0) a0 1 0) a0 2 0) a0 3 0) a0 4 0) a0 5 0) + 1)).1 0 (uS (uS (uS (uS (uS (uS s a0 0 0) a0 1 0) a0 2 0) a0 3 0) a0 4 0) a0 5 0) z7 (Nat.lt_succ_self _)))

theorem c2 {X : (Nat → Int) × Nat} {d : Nat} {s : mSt} {Q : mQ} {a0 : Nat} (h0 : isBd a0) (k : ∀ t : mSt, (DRq t a0 (fun _ => 0) ∧ fB s t a0) → Q none t) : Sp X d 2 [mR a0] s Q := by
  let I : Int → mSt → Prop := fun y t => ∃ j : Nat, y = j ∧ j ≤ 30 ∧ (∀ i, i < j → t (a0 + 6) i = 0) ∧ (∀ i, i < 6 → t a0 i = 0) ∧ fB s t a0
  let J : Int → mSt → Prop := fun y t => ∃ j : Nat, y = j ∧ j ≤ 6 ∧ (∀ i, i < 30 → t (a0 + 6) i = 0) ∧ (∀ i, i < j → t (a0 + 8) i = 0 ∧ t (a0 + 9) i = 0) ∧ (∀ i, i < 6 → t a0 i = 0) ∧ fB s t a0
  refine v2 h0 I (fun y _ => (100 - y).toNat) J (fun y _ => (50 - y).toNat) ?_ ?_ ?_ ?_ ?_ ?_ ?_
  · rintro _ t ⟨j, rfl, hj, h1, h2, hf⟩ hc
    exact ⟨⟨0, rfl, by omega, fun i hi => h1 i (by omega), fun i hi => by omega, h2, hf⟩, by omega⟩
  · rintro _ t ⟨j, rfl, hj, h1, h2, hf⟩ hc
    omega
  · rintro _ t ⟨j, rfl, hj, h1, h2, hf⟩ hc
    rw [tnc, w32_of (by omega)]
    refine ⟨⟨j + 1, by omega, by omega, fun i hi => ?_, fun i hi => by rw [uS_cell (by omega)]; exact h2 i hi, fun b hb => by rw [uS_cell (by omega)]; exact hf b hb⟩, by omega⟩
    rw [uS_at]
    by_cases z : i = j
    · rw [if_pos z]
    · rw [if_neg z]; exact h1 i (by omega)
  · rintro _ t ⟨j, rfl, hj, h1, h3, h2, hf⟩ hc
    refine k t ⟨⟨⟨h2 0 (by decide), h2 1 (by decide), h2 2 (by decide), h2 3 (by decide), h2 4 (by decide), h2 5 (by decide)⟩, fun p hp => absurd (show (p : Int) < 0 from hp) (by omega), fun c hc => absurd (show (c : Int) < 0 from hc) (by omega), fun t' ht => h1 t' ht, fun c hc' => h3 c (by omega), by decide, by decide⟩, hf⟩
  · rintro _ t ⟨j, rfl, hj, h1, h3, h2, hf⟩ hc
    omega
  · rintro _ t ⟨j, rfl, hj, h1, h3, h2, hf⟩ hc
    rw [tnc, w32_of (by omega)]
    refine ⟨⟨j + 1, by omega, by omega, fun i hi => by rw [uS_cell (by omega), uS_cell (by omega)]; exact h1 i hi, fun i hi => ?_, fun i hi => by rw [uS_cell (by omega), uS_cell (by omega)]; exact h2 i hi, fun b hb => by rw [uS_cell (by omega), uS_cell (by omega)]; exact hf b hb⟩, by omega⟩
    rw [uS_cell (show a0 + 8 ≠ a0 + 9 by omega), uS_at, uS_at, uS_cell (show a0 + 9 ≠ a0 + 8 by omega)]
    by_cases z : i = j
    · rw [if_pos z, if_pos z]; exact ⟨rfl, rfl⟩
    · rw [if_neg z, if_neg z]; exact h3 i (by omega)
  · refine ⟨0, rfl, by omega, fun i hi => by omega, fun i hi => ?_, fun b hb => ?_⟩
    · rw [uS_at, uS_at, uS_at, uS_at, uS_at, uS_at]
      rcases (show i = 0 ∨ i = 1 ∨ i = 2 ∨ i = 3 ∨ i = 4 ∨ i = 5 by omega) with e | e | e | e | e | e <;> subst e <;> simp
    · rw [uS_cell (by omega), uS_cell (by omega), uS_cell (by omega), uS_cell (by omega), uS_cell (by omega), uS_cell (by omega)]
theorem v4 {X : (Nat → Int) × Nat} {d : Nat} {s : mSt} {Q : mQ} {a0 : Nat} {x1 : Int} {x2 : Int} (h0 : isBd a0)
  (z1 : 5 ≤ (s a0 2) → Q none s)
  (z2 : ¬ 5 ≤ (s a0 2) → 0 ≤ (s a0 2) ∧ (s a0 2) < 5)
  (z3 : ¬ 5 ≤ (s a0 2) → 0 ≤ ((uS s (a0 + 1) ((s a0 2).toNat) x1) a0 2) ∧ ((uS s (a0 + 1) ((s a0 2).toNat) x1) a0 2) < 5)
  (z4 : ¬ 5 ≤ (s a0 2) → ∀ t3 : mSt, t3 = uS (uS (uS s (a0 + 1) ((s a0 2).toNat) x1) (a0 + 2) (((uS s (a0 + 1) ((s a0 2).toNat) x1) a0 2).toNat) x2) a0 2 (w32 (((uS (uS s (a0 + 1) ((s a0 2).toNat) x1) (a0 + 2) (((uS s (a0 + 1) ((s a0 2).toNat) x1) a0 2).toNat) x2) a0 2) + 1)) → Q none t3) :
  Sp X d 4 [mR a0, mI x1, mI x2] s Q := e4 (b4_0 h0 (fun q1 => b4_38 h0 (z1 q1)) (fun q2 => b4_8 h0 (z2 q2) (z3 q2) (Wp_gen (fun t3 e3 => b4_38 h0 (z4 q2 t3 e3)))))

theorem c4 {X : (Nat → Int) × Nat} {d : Nat} {s : mSt} {Q : mQ} {a0 : Nat} {x1 : Int} {x2 : Int} (h0 : isBd a0) (p1 : 0 ≤ s a0 2 ∧ s a0 2 < 5) (k : ∀ t : mSt, (t = uS (uS (uS s (a0 + 1) (s a0 2).toNat x1) (a0 + 2) (s a0 2).toNat x2) a0 2 (s a0 2 + 1)) → Q none t) : Sp X d 4 [mR a0, mI x1, mI x2] s Q := by
  have c : ∀ (q : mSt) (i : Nat) (x : Int), uS q (a0 + 1) i x a0 = q a0 := fun q i x => uS_cell (by omega)
  have c2 : ∀ (q : mSt) (i : Nat) (x : Int), uS q (a0 + 2) i x a0 = q a0 := fun q i x => uS_cell (by omega)
  refine v4 h0 (fun z => by omega) (fun z => p1) (fun z => by rw [c]; exact p1) (fun z t ht => k t ?_)
  rw [c2, c, w32_of (by omega)] at ht
  exact ht
theorem v5 {X : (Nat → Int) × Nat} {d : Nat} {s : mSt} {Q : mQ} {a0 : Nat} {x1 : Int} {x2 : Int} {x3 : Int} (h0 : isBd a0)
  (z1 : 6 ≤ (s a0 3) → Q none s)
  (z2 : ¬ 6 ≤ (s a0 3) → 0 ≤ (s a0 3) ∧ (s a0 3) < 6)
  (z3 : ¬ 6 ≤ (s a0 3) → 0 ≤ ((uS s (a0 + 3) ((s a0 3).toNat) x1) a0 3) ∧ ((uS s (a0 + 3) ((s a0 3).toNat) x1) a0 3) < 6)
  (z4 : ¬ 6 ≤ (s a0 3) → 0 ≤ ((uS (uS s (a0 + 3) ((s a0 3).toNat) x1) (a0 + 4) (((uS s (a0 + 3) ((s a0 3).toNat) x1) a0 3).toNat) x2) a0 3) ∧ ((uS (uS s (a0 + 3) ((s a0 3).toNat) x1) (a0 + 4) (((uS s (a0 + 3) ((s a0 3).toNat) x1) a0 3).toNat) x2) a0 3) < 6)
  (z5 : ¬ 6 ≤ (s a0 3) → ∀ t3 : mSt, t3 = uS (uS (uS (uS s (a0 + 3) ((s a0 3).toNat) x1) (a0 + 4) (((uS s (a0 + 3) ((s a0 3).toNat) x1) a0 3).toNat) x2) (a0 + 5) (((uS (uS s (a0 + 3) ((s a0 3).toNat) x1) (a0 + 4) (((uS s (a0 + 3) ((s a0 3).toNat) x1) a0 3).toNat) x2) a0 3).toNat) x3) a0 3 (w32 (((uS (uS (uS s (a0 + 3) ((s a0 3).toNat) x1) (a0 + 4) (((uS s (a0 + 3) ((s a0 3).toNat) x1) a0 3).toNat) x2) (a0 + 5) (((uS (uS s (a0 + 3) ((s a0 3).toNat) x1) (a0 + 4) (((uS s (a0 + 3) ((s a0 3).toNat) x1) a0 3).toNat) x2) a0 3).toNat) x3) a0 3) + 1)) → Q none t3) :
  Sp X d 5 [mR a0, mI x1, mI x2, mI x3] s Q := e5 (b5_0 h0 (fun q1 => b5_49 h0 (z1 q1)) (fun q2 => b5_9 h0 (z2 q2) (z3 q2) (z4 q2) (Wp_gen (fun t3 e3 => b5_49 h0 (z5 q2 t3 e3)))))

theorem c5 {X : (Nat → Int) × Nat} {d : Nat} {s : mSt} {Q : mQ} {a0 : Nat} {x1 : Int} {x2 : Int} {x3 : Int} (h0 : isBd a0) (p1 : 0 ≤ s a0 3 ∧ s a0 3 < 6) (k : ∀ t : mSt, (t = uS (uS (uS (uS s (a0 + 3) (s a0 3).toNat x1) (a0 + 4) (s a0 3).toNat x2) (a0 + 5) (s a0 3).toNat x3) a0 3 (s a0 3 + 1)) → Q none t) : Sp X d 5 [mR a0, mI x1, mI x2, mI x3] s Q := by
  have c : ∀ (q : mSt) (i : Nat) (x : Int), uS q (a0 + 3) i x a0 = q a0 := fun q i x => uS_cell (by omega)
  have c2 : ∀ (q : mSt) (i : Nat) (x : Int), uS q (a0 + 4) i x a0 = q a0 := fun q i x => uS_cell (by omega)
  have c3 : ∀ (q : mSt) (i : Nat) (x : Int), uS q (a0 + 5) i x a0 = q a0 := fun q i x => uS_cell (by omega)
  refine v5 h0 (fun z => by omega) (fun z => p1) (fun z => by rw [c]; exact p1) (fun z => by rw [c2, c]; exact p1) (fun z t ht => k t ?_)
  rw [c3, c2, c, w32_of (by omega)] at ht
  exact ht
def f14 (s t : mSt) : Prop := (∀ b, b ≠ 1 → b ≠ 4 → t b = s b)
/-- two numbers read, three -/
theorem N2 {s a b : mSt} {l m l' m' : Int} (h1 : N1q s a 0 l m) (h2 : N1q a b 1 l' m') : seqA (s 2) (nO s) [(l, m), (l', m')] (aO s) = (0, aO b, [b 4 0, b 4 1]) ∧ TSa s b (aO b) ∧ b 1 6 = 0 ∧ f14 s b := by
  obtain ⟨n1, t1, z1, e1, f1'⟩ := h1
  obtain ⟨n2, t2, z2, e2, f2'⟩ := h2
  have en : nO a = nO s := by unfold nO; rw [t1.2.2.1]
  rw [t1.2.1, en, t1.2.2.2] at n2 t2 e2
  refine ⟨?_, ⟨t2.1, t2.2.1.trans t1.2.1, t2.2.2.1.trans t1.2.2.1, rfl⟩, z2, fun x g1 g2 => (f2' x g1 g2).trans (f1' x g1 g2)⟩
  rw [e2, up_at, up_ne (by decide), e1, up_at]
  simp only [seqA, n1, n2, if_true]
  rw [t2.2.2.2]
theorem N2f {s a b : mSt} {l m l' m' : Int} (h1 : N1q s a 0 l m) (h2 : N0q a b l' m') : (seqA (s 2) (nO s) [(l, m), (l', m')] (aO s)).1 = b 1 6 ∧ ¬ b 1 6 = 0 ∧ b 1 1 = s 1 1 ∧ f14 s b := by
  obtain ⟨n1, t1, z1, e1, f1'⟩ := h1
  obtain ⟨n2, t2, z2, f2'⟩ := h2
  have en : nO a = nO s := by unfold nO; rw [t1.2.2.1]
  rw [t1.2.1, en, t1.2.2.2] at n2 t2
  have nb := nuA_b (s 2) (nO s) (nxA (s 2) (nO s) (aO s)) l' m'
  refine ⟨?_, by rw [t2]; unfold fuA; omega, z2.trans t1.2.2.1, fun x g1 g2 => (f2' x g1).trans (f1' x g1 g2)⟩
  simp only [seqA, n1, n2, if_true, if_false, ite_false, ite_true]
  rw [t2]
theorem N1f {s b : mSt} {l m : Int} {L : List (Int × Int)} (h2 : N0q s b l m) : (seqA (s 2) (nO s) ((l, m) :: L) (aO s)).1 = b 1 6 ∧ ¬ b 1 6 = 0 ∧ b 1 1 = s 1 1 ∧ f14 s b := by
  obtain ⟨n2, t2, z2, f2'⟩ := h2
  have nb := nuA_b (s 2) (nO s) (aO s) l m
  refine ⟨?_, by rw [t2]; unfold fuA; omega, z2, fun x g1 g2 => f2' x g1⟩
  rw [seqA, if_neg n2, t2]
/-- a clause read by a Board, in the row x; or not -/
def C1q (s t : mSt) (k : Nat) (L : List (Int × Int)) (w : Rw → List Int → Rw) : Prop := (seqA (s 2) (nO s) L (aO s)).1 = 0 ∧ TSa s t (seqA (s 2) (nO s) L (aO s)).2.1 ∧ t 1 6 = 0 ∧ (∀ r, DRq s k r → DRq t k (w r (seqA (s 2) (nO s) L (aO s)).2.2)) ∧ ∀ b, b ≠ 1 → b ≠ 4 → ¬ (k ≤ b ∧ b ≤ k + 9) → t b = s b
def C0q (s t : mSt) (k : Nat) (L : List (Int × Int)) : Prop := ¬ (seqA (s 2) (nO s) L (aO s)).1 = 0 ∧ t 1 6 = (seqA (s 2) (nO s) L (aO s)).1 ∧ t 1 1 = s 1 1 ∧ ∀ b, b ≠ 1 → b ≠ 4 → ¬ (k ≤ b ∧ b ≤ k + 9) → t b = s b
theorem TSa_c {s t u : mSt} {a : Nat} (h : TSa s t a) (e1 : u 1 = t 1) (e2 : u 2 = t 2) : TSa s u a := by
  have en : nO u = nO t := by unfold nO; rw [e1]
  have ea : aO u = aO t := by unfold aO; rw [e1]
  refine ⟨?_, by rw [e2]; exact h.2.1, by rw [e1]; exact h.2.2.1, by rw [ea]; exact h.2.2.2⟩
  unfold TSq BYq TKq
  rw [e1, e2, en, ea]; exact h.1
theorem v36 {X : (Nat → Int) × Nat} {d : Nat} {s : mSt} {Q : mQ} {a1 : Nat} (h1 : isBd a1)
  (z1 : TSq s ∧ s 1 6 = 0 ∧ (0 ≤ (0 : Int) ∧ (0 : Int) < 3))
  (z2 : ∀ s1 : mSt, N1q s s1 (0 : Int).toNat (1 : Int) (9 : Int) → TSq s1 ∧ s1 1 6 = 0 ∧ (0 ≤ (1 : Int) ∧ (1 : Int) < 3))
  (z3 : ∀ s1 : mSt, N1q s s1 (0 : Int).toNat (1 : Int) (9 : Int) → ∀ s2 : mSt, N1q s1 s2 (1 : Int).toNat (1 : Int) (20 : Int) → Q (some (mI 1)) (uS (uS s2 a1 0 (s2 4 0)) a1 1 ((uS s2 a1 0 (s2 4 0)) 4 1)))
  (z4 : ∀ s1 : mSt, N1q s s1 (0 : Int).toNat (1 : Int) (9 : Int) → ∀ s3 : mSt, N0q s1 s3 (1 : Int) (20 : Int) → Q (some (mI 0)) s3)
  (z5 : ∀ s4 : mSt, N0q s s4 (1 : Int) (9 : Int) → Q (some (mI 0)) s4) :
  Sp X (d + 2) 36 [mR 3, mR a1] s Q := e36 (b36_0 h1 (c40 z1 (fun s1 q1 => ⟨1, rfl, b36_8 h1 (fun q => absurd q (by decide)) (fun _ => b36_11 h1 (c40 (z2 s1 q1) (fun s2 q2 => ⟨1, rfl, b36_19 h1 (fun _ => b36_24 h1 (z3 s1 q1 s2 q2)) (fun q => absurd q (by decide))⟩) (fun s3 q3 => ⟨0, rfl, b36_19 h1 (fun q => absurd q (by decide)) (fun _ => b36_22 h1 (z4 s1 q1 s3 q3))⟩)))⟩) (fun s4 q4 => ⟨0, rfl, b36_8 h1 (fun _ => b36_22 h1 (z5 s4 q4)) (fun q => absurd q (by decide))⟩)))

theorem DR_D {s : mSt} {k : Nat} {r : Rw} (h : DRq s k r) (x y : Int) : DRq (uS (uS s k 0 x) k 1 y) k (rdD r x y) := by
  obtain ⟨⟨a0, a1, a2, a3, a4, a5⟩, hp, hc, ht, hz, b3, b4⟩ := h
  have c : ∀ b, b ≠ k → uS (uS s k 0 x) k 1 y b = s b := fun b hb => by rw [uS_cell hb, uS_cell hb]
  have ck : ∀ j, uS (uS s k 0 x) k 1 y k j = if j = 1 then y else if j = 0 then x else s k j := fun j => by rw [uS_at, uS_at]
  have e : ∀ j, 3 ≤ j → rdD r x y j = r j := fun j hj => by unfold rdD; rw [up_ne (by omega), up_ne (by omega), up_ne (by omega)]
  unfold DRq
  rw [c (k + 1) (by omega), c (k + 2) (by omega), c (k + 3) (by omega), c (k + 4) (by omega), c (k + 5) (by omega), c (k + 6) (by omega), c (k + 8) (by omega), c (k + 9) (by omega), e 3 (by omega), e 4 (by omega)]
  refine ⟨⟨?_, ?_, by rw [ck]; exact a2, by rw [ck]; exact a3, by rw [ck]; exact a4, by rw [ck]; exact a5⟩, fun p h' => by rw [e _ (by omega), e _ (by omega)]; exact hp p h', fun q h' => by rw [e _ (by omega), e _ (by omega), e _ (by omega)]; exact hc q h', fun t h' => by rw [e _ (by omega)]; exact ht t h', hz, b3, b4⟩
  · rw [ck, if_neg (by decide), if_pos rfl]; unfold rdD; rw [up_ne (by decide), up_ne (by decide), up_at]
  · rw [ck, if_pos rfl]; unfold rdD; rw [up_ne (by decide), up_at]
theorem DR_P {s : mSt} {k : Nat} {r : Rw} (h : DRq s k r) (h5 : r 3 < 5) (x y : Int) : DRq (uS (uS (uS s (k + 1) (s k 2).toNat x) (k + 2) (s k 2).toNat y) k 2 (s k 2 + 1)) k (rdP r x y) := by
  obtain ⟨⟨a0, a1, a2, a3, a4, a5⟩, hp, hc, ht, hz, b3, b4⟩ := h
  rw [a2]
  have c : ∀ b, b ≠ k → b ≠ k + 1 → b ≠ k + 2 → uS (uS (uS s (k + 1) (r 3).toNat x) (k + 2) (r 3).toNat y) k 2 (r 3 + 1) b = s b := fun b h1 h2 h3 => by rw [uS_cell h1, uS_cell h3, uS_cell h2]
  have ck : ∀ j, uS (uS (uS s (k + 1) (r 3).toNat x) (k + 2) (r 3).toNat y) k 2 (r 3 + 1) k j = if j = 2 then r 3 + 1 else s k j := fun j => by rw [uS_at, uS_cell (by omega), uS_cell (by omega)]
  have c1 : ∀ j, uS (uS (uS s (k + 1) (r 3).toNat x) (k + 2) (r 3).toNat y) k 2 (r 3 + 1) (k + 1) j = if j = (r 3).toNat then x else s (k + 1) j := fun j => by rw [uS_cell (by omega), uS_cell (by omega), uS_at]
  have c2 : ∀ j, uS (uS (uS s (k + 1) (r 3).toNat x) (k + 2) (r 3).toNat y) k 2 (r 3 + 1) (k + 2) j = if j = (r 3).toNat then y else s (k + 2) j := fun j => by rw [uS_cell (by omega), uS_at, uS_cell (by omega)]
  have e : ∀ j, j ≠ 3 → j ≠ 82 + (r 3).toNat → j ≠ 77 + (r 3).toNat → rdP r x y j = r j := fun j g1 g2 g3 => by unfold rdP; rw [up_ne g1, up_ne g3, up_ne g2]
  have e3 : rdP r x y 3 = r 3 + 1 := by unfold rdP; rw [up_at]
  unfold DRq
  rw [c (k + 3) (by omega) (by omega) (by omega), c (k + 4) (by omega) (by omega) (by omega), c (k + 5) (by omega) (by omega) (by omega), c (k + 6) (by omega) (by omega) (by omega), c (k + 8) (by omega) (by omega) (by omega), c (k + 9) (by omega) (by omega) (by omega), e3, e 4 (by omega) (by omega) (by omega), e 1 (by omega) (by omega) (by omega), e 2 (by omega) (by omega) (by omega)]
  refine ⟨⟨by rw [ck]; exact a0, by rw [ck]; exact a1, by rw [ck, if_pos rfl], by rw [ck]; exact a3, by rw [ck]; exact a4, by rw [ck]; exact a5⟩, fun p h' => ?_, fun q h' => by rw [e _ (by omega) (by omega) (by omega), e _ (by omega) (by omega) (by omega), e _ (by omega) (by omega) (by omega)]; exact hc q h', fun t h' => by rw [e _ (by omega) (by omega) (by omega)]; exact ht t h', hz, by omega, b4⟩
  rw [c1, c2]
  by_cases z : p = (r 3).toNat
  · rw [if_pos z, if_pos z, z]
    unfold rdP
    rw [up_ne (by omega), up_ne (by omega), up_at, up_ne (by omega), up_at]; exact ⟨rfl, rfl⟩
  · rw [if_neg z, if_neg z, e _ (by omega) (by omega) (by omega), e _ (by omega) (by omega) (by omega)]; exact hp p (by omega)
theorem DR_C {s : mSt} {k : Nat} {r : Rw} (h : DRq s k r) (h6 : r 4 < 6) (x y v : Int) : DRq (uS (uS (uS (uS s (k + 3) (s k 3).toNat x) (k + 4) (s k 3).toNat y) (k + 5) (s k 3).toNat v) k 3 (s k 3 + 1)) k (rdC r x y v) := by
  obtain ⟨⟨a0, a1, a2, a3, a4, a5⟩, hp, hc, ht, hz, b3, b4⟩ := h
  rw [a3]
  let u := uS (uS (uS (uS s (k + 3) (r 4).toNat x) (k + 4) (r 4).toNat y) (k + 5) (r 4).toNat v) k 3 (r 4 + 1)
  have c : ∀ b, b ≠ k → ¬ (k + 3 ≤ b ∧ b ≤ k + 5) → u b = s b := fun b h1 h2 => by show uS (uS (uS (uS s _ _ _) _ _ _) _ _ _) _ _ _ b = s b; rw [uS_cell h1, uS_cell (by omega), uS_cell (by omega), uS_cell (by omega)]
  have ck : ∀ j, u k j = if j = 3 then r 4 + 1 else s k j := fun j => by show uS (uS (uS (uS s _ _ _) _ _ _) _ _ _) _ _ _ k j = _; rw [uS_at, uS_cell (by omega), uS_cell (by omega), uS_cell (by omega)]
  have c1 : ∀ j, u (k + 3) j = if j = (r 4).toNat then x else s (k + 3) j := fun j => by show uS (uS (uS (uS s _ _ _) _ _ _) _ _ _) _ _ _ (k + 3) j = _; rw [uS_cell (by omega), uS_cell (by omega), uS_cell (by omega), uS_at]
  have c2 : ∀ j, u (k + 4) j = if j = (r 4).toNat then y else s (k + 4) j := fun j => by show uS (uS (uS (uS s _ _ _) _ _ _) _ _ _) _ _ _ (k + 4) j = _; rw [uS_cell (by omega), uS_cell (by omega), uS_at, uS_cell (by omega)]
  have c3 : ∀ j, u (k + 5) j = if j = (r 4).toNat then v else s (k + 5) j := fun j => by show uS (uS (uS (uS s _ _ _) _ _ _) _ _ _) _ _ _ (k + 5) j = _; rw [uS_cell (by omega), uS_at, uS_cell (by omega), uS_cell (by omega)]
  have e : ∀ j, j ≠ 4 → j ≠ 117 + (r 4).toNat → j ≠ 123 + (r 4).toNat → j ≠ 129 + (r 4).toNat → rdC r x y v j = r j := fun j g1 g2 g3 g4 => by unfold rdC; rw [up_ne g1, up_ne g4, up_ne g3, up_ne g2]
  have e4 : rdC r x y v 4 = r 4 + 1 := by unfold rdC; rw [up_at]
  show DRq u k (rdC r x y v)
  unfold DRq
  rw [c (k + 1) (by omega) (by omega), c (k + 2) (by omega) (by omega), c (k + 6) (by omega) (by omega), c (k + 8) (by omega) (by omega), c (k + 9) (by omega) (by omega), e4, e 3 (by omega) (by omega) (by omega) (by omega), e 1 (by omega) (by omega) (by omega) (by omega), e 2 (by omega) (by omega) (by omega) (by omega)]
  refine ⟨⟨by rw [ck]; exact a0, by rw [ck]; exact a1, by rw [ck]; exact a2, by rw [ck, if_pos rfl], by rw [ck]; exact a4, by rw [ck]; exact a5⟩, fun p h' => by rw [e _ (by omega) (by omega) (by omega) (by omega), e _ (by omega) (by omega) (by omega) (by omega)]; exact hp p h', fun q h' => ?_, fun t h' => by rw [e _ (by omega) (by omega) (by omega) (by omega)]; exact ht t h', hz, b3, by omega⟩
  rw [c1, c2, c3]
  by_cases z : q = (r 4).toNat
  · rw [if_pos z, if_pos z, if_pos z, z]
    unfold rdC
    rw [up_ne (by omega), up_ne (by omega), up_ne (by omega), up_at, up_ne (by omega), up_ne (by omega), up_at, up_ne (by omega), up_at]; exact ⟨rfl, rfl, rfl⟩
  · rw [if_neg z, if_neg z, if_neg z, e _ (by omega) (by omega) (by omega) (by omega), e _ (by omega) (by omega) (by omega) (by omega), e _ (by omega) (by omega) (by omega) (by omega)]; exact hc q (by omega)
theorem DR_T {s : mSt} {k : Nat} {r : Rw} (h : DRq s k r) {x : Int} (hx : 0 ≤ x ∧ x < 30) (y : Int) : DRq (uS s (k + 6) x.toNat y) k (rdT r x y) := by
  obtain ⟨⟨a0, a1, a2, a3, a4, a5⟩, hp, hc, ht, hz, b3, b4⟩ := h
  have c : ∀ b, b ≠ k + 6 → uS s (k + 6) x.toNat y b = s b := fun b h1 => uS_cell h1
  have e : ∀ j, j ≠ 87 + x.toNat → rdT r x y j = r j := fun j g1 => by unfold rdT; rw [up_ne g1]
  unfold DRq
  rw [c k (by omega), c (k + 1) (by omega), c (k + 2) (by omega), c (k + 3) (by omega), c (k + 4) (by omega), c (k + 5) (by omega), c (k + 8) (by omega), c (k + 9) (by omega), e 1 (by omega), e 2 (by omega), e 3 (by omega), e 4 (by omega)]
  refine ⟨⟨a0, a1, a2, a3, a4, a5⟩, fun p h' => by rw [e _ (by omega), e _ (by omega)]; exact hp p h', fun q h' => by rw [e _ (by omega), e _ (by omega), e _ (by omega)]; exact hc q h', fun t h' => ?_, hz, b3, b4⟩
  rw [uS_at]
  by_cases z : t = x.toNat
  · rw [if_pos z, z]; unfold rdT; rw [up_at]
  · rw [if_neg z, e _ (by omega)]; exact ht t h'
theorem c36 {X : (Nat → Int) × Nat} {d : Nat} {s : mSt} {Q : mQ} {a1 : Nat} (h1 : isBd a1) (p1 : TSq s ∧ s 1 6 = 0) (k1 : ∀ t : mSt, (C1q s t a1 [(1, 9), (1, 20)] (fun r v => rdD r (v.getD 0 0) (v.getD 1 0))) → Q (some (mI 1)) t) (k0 : ∀ t : mSt, (C0q s t a1 [(1, 9), (1, 20)]) → Q (some (mI 0)) t) : Sp X (d + 2) 36 [mR 3, mR a1] s Q := by
  obtain ⟨h, hz⟩ := p1
  have l := bd_8 h1
  refine v36 h1 ⟨h, hz, by decide⟩ (fun a ha => ⟨ha.2.1.1, ha.2.2.1, by decide⟩) (fun a ha b hb => ?_) (fun a ha b hb => ?_) (fun b hb => ?_)
  · have q := N2 ha hb
    rw [uS_cell (show (4 : Nat) ≠ a1 by omega)]
    have c : ∀ x, x ≠ a1 → uS (uS b a1 0 (b 4 0)) a1 1 (b 4 1) x = b x := fun x hx => by rw [uS_cell hx, uS_cell hx]
    refine k1 _ ⟨by rw [q.1], TSa_c (by rw [q.1]; exact q.2.1) (c 1 (by omega)) (c 2 (by omega)), by rw [c 1 (by omega)]; exact q.2.2.1, fun r hr => ?_, fun x g1 g2 g3 => (c x (by omega)).trans (q.2.2.2 x g1 g2)⟩
    rw [q.1]
    exact DR_D (DR_cells hr (fun x hx => q.2.2.2 x (by omega) (by omega))) _ _
  · have q := N2f ha hb
    exact k0 b ⟨fun w => q.2.1 (q.1.symm.trans w), q.1.symm, q.2.2.1, fun x g1 g2 _ => q.2.2.2 x g1 g2⟩
  · have q := N1f (L := [(1, 20)]) hb
    exact k0 b ⟨fun w => q.2.1 (q.1.symm.trans w), q.1.symm, q.2.2.1, fun x g1 g2 _ => q.2.2.2 x g1 g2⟩
theorem v37 {X : (Nat → Int) × Nat} {d : Nat} {s : mSt} {Q : mQ} {a1 : Nat} (h1 : isBd a1)
  (z1 : TSq s ∧ s 1 6 = 0 ∧ (0 ≤ (0 : Int) ∧ (0 : Int) < 3))
  (z2 : ∀ s1 : mSt, N1q s s1 (0 : Int).toNat (0 : Int) (15 : Int) → TSq s1 ∧ s1 1 6 = 0 ∧ (0 ≤ (1 : Int) ∧ (1 : Int) < 3))
  (z3 : ∀ s1 : mSt, N1q s s1 (0 : Int).toNat (0 : Int) (15 : Int) → ∀ s2 : mSt, N1q s1 s2 (1 : Int).toNat (1 : Int) (6 : Int) → 0 ≤ s2 a1 2 ∧ s2 a1 2 < 5)
  (z4 : ∀ s1 : mSt, N1q s s1 (0 : Int).toNat (0 : Int) (15 : Int) → ∀ s2 : mSt, N1q s1 s2 (1 : Int).toNat (1 : Int) (6 : Int) → ∀ s3 : mSt, s3 = uS (uS (uS s2 (a1 + 1) (s2 a1 2).toNat (s2 4 0)) (a1 + 2) (s2 a1 2).toNat (s2 4 1)) a1 2 (s2 a1 2 + 1) → Q (some (mI 1)) s3)
  (z5 : ∀ s1 : mSt, N1q s s1 (0 : Int).toNat (0 : Int) (15 : Int) → ∀ s4 : mSt, N0q s1 s4 (1 : Int) (6 : Int) → Q (some (mI 0)) s4)
  (z6 : ∀ s5 : mSt, N0q s s5 (0 : Int) (15 : Int) → Q (some (mI 0)) s5) :
  Sp X (d + 2) 37 [mR 3, mR a1] s Q := e37 (b37_0 h1 (c40 z1 (fun s1 q1 => ⟨1, rfl, b37_8 h1 (fun q => absurd q (by decide)) (fun _ => b37_11 h1 (c40 (z2 s1 q1) (fun s2 q2 => ⟨1, rfl, b37_19 h1 (fun _ => b37_24 h1 (c4 h1 (z3 s1 q1 s2 q2) (fun s3 q3 => ⟨rfl, b37_40 h1 (z4 s1 q1 s2 q2 s3 q3)⟩))) (fun q => absurd q (by decide))⟩) (fun s4 q4 => ⟨0, rfl, b37_19 h1 (fun q => absurd q (by decide)) (fun _ => b37_22 h1 (z5 s1 q1 s4 q4))⟩)))⟩) (fun s5 q5 => ⟨0, rfl, b37_8 h1 (fun _ => b37_22 h1 (z6 s5 q5)) (fun q => absurd q (by decide))⟩)))

theorem c37 {X : (Nat → Int) × Nat} {d : Nat} {s : mSt} {Q : mQ} {a1 : Nat} (h1 : isBd a1) (p1 : TSq s ∧ s 1 6 = 0 ∧ (0 ≤ s a1 2 ∧ s a1 2 < 5)) (k1 : ∀ t : mSt, (C1q s t a1 [(0, 15), (1, 6)] (fun r v => rdP r (v.getD 0 0) (v.getD 1 0))) → Q (some (mI 1)) t) (k0 : ∀ t : mSt, (C0q s t a1 [(0, 15), (1, 6)]) → Q (some (mI 0)) t) : Sp X (d + 2) 37 [mR 3, mR a1] s Q := by
  obtain ⟨h, hz, h5⟩ := p1
  have l := bd_8 h1
  refine v37 h1 ⟨h, hz, by decide⟩ (fun a ha => ⟨ha.2.1.1, ha.2.2.1, by decide⟩) (fun a ha b hb => ?_) (fun a ha b hb t ht => ?_) (fun a ha b hb => ?_) (fun b hb => ?_)
  · rw [(N2 ha hb).2.2.2 a1 (by omega) (by omega)]; exact h5
  · have q := N2 ha hb
    have c : ∀ x, ¬ (a1 ≤ x ∧ x ≤ a1 + 9) → t x = b x := fun x hx => by rw [ht, uS_cell (by omega), uS_cell (by omega), uS_cell (by omega)]
    refine k1 _ ⟨by rw [q.1], TSa_c (by rw [q.1]; exact q.2.1) (c 1 (by omega)) (c 2 (by omega)), by rw [c 1 (by omega)]; exact q.2.2.1, fun r hr => ?_, fun x g1 g2 g3 => (c x g3).trans (q.2.2.2 x g1 g2)⟩
    rw [q.1, ht]
    exact DR_P (DR_cells hr (fun x hx => q.2.2.2 x (by omega) (by omega))) (by rw [← hr.1.2.2.1]; exact h5.2) _ _
  · have q := N2f ha hb
    exact k0 b ⟨fun w => q.2.1 (q.1.symm.trans w), q.1.symm, q.2.2.1, fun x g1 g2 _ => q.2.2.2 x g1 g2⟩
  · have q := N1f (L := [(1, 6)]) hb
    exact k0 b ⟨fun w => q.2.1 (q.1.symm.trans w), q.1.symm, q.2.2.1, fun x g1 g2 _ => q.2.2.2 x g1 g2⟩
theorem v39 {X : (Nat → Int) × Nat} {d : Nat} {s : mSt} {Q : mQ} {a1 : Nat} (h1 : isBd a1)
  (z1 : TSq s ∧ s 1 6 = 0 ∧ (0 ≤ (0 : Int) ∧ (0 : Int) < 3))
  (z2 : ∀ s1 : mSt, N1q s s1 (0 : Int).toNat (0 : Int) (29 : Int) → TSq s1 ∧ s1 1 6 = 0 ∧ (0 ≤ (1 : Int) ∧ (1 : Int) < 3))
  (z3 : ∀ s1 : mSt, N1q s s1 (0 : Int).toNat (0 : Int) (29 : Int) → ∀ s2 : mSt, N1q s1 s2 (1 : Int).toNat (0 : Int) (9 : Int) → 0 ≤ (s2 4 0) ∧ (s2 4 0) < 30)
  (z4 : ∀ s1 : mSt, N1q s s1 (0 : Int).toNat (0 : Int) (29 : Int) → ∀ s2 : mSt, N1q s1 s2 (1 : Int).toNat (0 : Int) (9 : Int) → Q (some (mI 1)) (uS s2 (a1 + 6) ((s2 4 0).toNat) (s2 4 1)))
  (z5 : ∀ s1 : mSt, N1q s s1 (0 : Int).toNat (0 : Int) (29 : Int) → ∀ s3 : mSt, N0q s1 s3 (0 : Int) (9 : Int) → Q (some (mI 0)) s3)
  (z6 : ∀ s4 : mSt, N0q s s4 (0 : Int) (29 : Int) → Q (some (mI 0)) s4) :
  Sp X (d + 2) 39 [mR 3, mR a1] s Q := e39 (b39_0 h1 (c40 z1 (fun s1 q1 => ⟨1, rfl, b39_8 h1 (fun q => absurd q (by decide)) (fun _ => b39_11 h1 (c40 (z2 s1 q1) (fun s2 q2 => ⟨1, rfl, b39_19 h1 (fun _ => b39_24 h1 (z3 s1 q1 s2 q2) (z4 s1 q1 s2 q2)) (fun q => absurd q (by decide))⟩) (fun s3 q3 => ⟨0, rfl, b39_19 h1 (fun q => absurd q (by decide)) (fun _ => b39_22 h1 (z5 s1 q1 s3 q3))⟩)))⟩) (fun s4 q4 => ⟨0, rfl, b39_8 h1 (fun _ => b39_22 h1 (z6 s4 q4)) (fun q => absurd q (by decide))⟩)))

theorem N1v {s a : mSt} {i : Nat} {l m : Int} (h : N1q s a i l m) : l ≤ a 4 i ∧ a 4 i ≤ m := by
  obtain ⟨n1, t1, z1, e1, f1'⟩ := h
  rw [e1, up_at]
  unfold nuA at n1
  by_cases z : tkK (s 2) (nO s) (aO s) = 256
  · rw [if_pos z] at n1
    by_cases w : (tkP (s 2) (nO s) (aO s) : Int) - (aO s : Int) ≤ 5 ∧ l ≤ vA (s 2) (nO s) (aO s) ∧ vA (s 2) (nO s) (aO s) ≤ m
    · exact w.2
    · rw [if_neg w] at n1; exact absurd n1 (by decide)
  · rw [if_neg z] at n1; exact absurd n1 (by decide)
theorem c39 {X : (Nat → Int) × Nat} {d : Nat} {s : mSt} {Q : mQ} {a1 : Nat} (h1 : isBd a1) (p1 : TSq s ∧ s 1 6 = 0) (k1 : ∀ t : mSt, (C1q s t a1 [(0, 29), (0, 9)] (fun r v => rdT r (v.getD 0 0) (v.getD 1 0))) → Q (some (mI 1)) t) (k0 : ∀ t : mSt, (C0q s t a1 [(0, 29), (0, 9)]) → Q (some (mI 0)) t) : Sp X (d + 2) 39 [mR 3, mR a1] s Q := by
  obtain ⟨h, hz⟩ := p1
  have l := bd_8 h1
  have v0 : ∀ a b : mSt, N1q s a (0 : Int).toNat 0 29 → N1q a b (1 : Int).toNat 0 9 → 0 ≤ b 4 0 ∧ b 4 0 < 30 := fun a b ha hb => by
    have := N1v ha
    have e : b 4 0 = a 4 0 := by rw [hb.2.2.2.1]; exact up_ne (by decide)
    have this' : 0 ≤ a 4 0 ∧ a 4 0 ≤ 29 := this
    omega
  refine v39 h1 ⟨h, hz, by decide⟩ (fun a ha => ⟨ha.2.1.1, ha.2.2.1, by decide⟩) (fun a ha b hb => v0 a b ha hb) (fun a ha b hb => ?_) (fun a ha b hb => ?_) (fun b hb => ?_)
  · have q := N2 ha hb
    have c : ∀ x, x ≠ a1 + 6 → uS b (a1 + 6) (b 4 0).toNat (b 4 1) x = b x := fun x hx => uS_cell hx
    refine k1 _ ⟨by rw [q.1], TSa_c (by rw [q.1]; exact q.2.1) (c 1 (by omega)) (c 2 (by omega)), by rw [c 1 (by omega)]; exact q.2.2.1, fun r hr => ?_, fun x g1 g2 g3 => (c x (by omega)).trans (q.2.2.2 x g1 g2)⟩
    rw [q.1]
    exact DR_T (DR_cells hr (fun x hx => q.2.2.2 x (by omega) (by omega))) (v0 a b ha hb) _
  · have q := N2f ha hb
    exact k0 b ⟨fun w => q.2.1 (q.1.symm.trans w), q.1.symm, q.2.2.1, fun x g1 g2 _ => q.2.2.2 x g1 g2⟩
  · have q := N1f (L := [(0, 9)]) hb
    exact k0 b ⟨fun w => q.2.1 (q.1.symm.trans w), q.1.symm, q.2.2.1, fun x g1 g2 _ => q.2.2.2 x g1 g2⟩
theorem v38 {X : (Nat → Int) × Nat} {d : Nat} {s : mSt} {Q : mQ} {a1 : Nat} (h1 : isBd a1)
  (z1 : TSq s ∧ s 1 6 = 0 ∧ (0 ≤ (0 : Int) ∧ (0 : Int) < 3))
  (z2 : ∀ s1 : mSt, N1q s s1 (0 : Int).toNat (1 : Int) (w32 ((iShl 1 (s a1 2)) - 1)) → TSq s1 ∧ s1 1 6 = 0 ∧ (0 ≤ (1 : Int) ∧ (1 : Int) < 3))
  (z3 : ∀ s1 : mSt, N1q s s1 (0 : Int).toNat (1 : Int) (w32 ((iShl 1 (s a1 2)) - 1)) → ∀ s2 : mSt, N1q s1 s2 (1 : Int).toNat (0 : Int) (100 : Int) → TSq s2 ∧ s2 1 6 = 0 ∧ (0 ≤ (2 : Int) ∧ (2 : Int) < 3))
  (z4 : ∀ s1 : mSt, N1q s s1 (0 : Int).toNat (1 : Int) (w32 ((iShl 1 (s a1 2)) - 1)) → ∀ s2 : mSt, N1q s1 s2 (1 : Int).toNat (0 : Int) (100 : Int) → ∀ s3 : mSt, N1q s2 s3 (2 : Int).toNat (0 : Int) (3 : Int) → 0 ≤ s3 a1 3 ∧ s3 a1 3 < 6)
  (z5 : ∀ s1 : mSt, N1q s s1 (0 : Int).toNat (1 : Int) (w32 ((iShl 1 (s a1 2)) - 1)) → ∀ s2 : mSt, N1q s1 s2 (1 : Int).toNat (0 : Int) (100 : Int) → ∀ s3 : mSt, N1q s2 s3 (2 : Int).toNat (0 : Int) (3 : Int) → ∀ s4 : mSt, s4 = uS (uS (uS (uS s3 (a1 + 3) (s3 a1 3).toNat (s3 4 0)) (a1 + 4) (s3 a1 3).toNat (s3 4 1)) (a1 + 5) (s3 a1 3).toNat (s3 4 2)) a1 3 (s3 a1 3 + 1) → Q (some (mI 1)) s4)
  (z6 : ∀ s1 : mSt, N1q s s1 (0 : Int).toNat (1 : Int) (w32 ((iShl 1 (s a1 2)) - 1)) → ∀ s2 : mSt, N1q s1 s2 (1 : Int).toNat (0 : Int) (100 : Int) → ∀ s5 : mSt, N0q s2 s5 (0 : Int) (3 : Int) → Q (some (mI 0)) s5)
  (z7 : ∀ s1 : mSt, N1q s s1 (0 : Int).toNat (1 : Int) (w32 ((iShl 1 (s a1 2)) - 1)) → ∀ s6 : mSt, N0q s1 s6 (0 : Int) (100 : Int) → Q (some (mI 0)) s6)
  (z8 : ∀ s7 : mSt, N0q s s7 (1 : Int) (w32 ((iShl 1 (s a1 2)) - 1)) → Q (some (mI 0)) s7) :
  Sp X (d + 2) 38 [mR 3, mR a1] s Q := e38 (b38_0 h1 (c40 z1 (fun s1 q1 => ⟨1, rfl, b38_16 h1 (fun q => absurd q (by decide)) (fun _ => b38_19 h1 (c40 (z2 s1 q1) (fun s2 q2 => ⟨1, rfl, b38_27 h1 (fun q => absurd q (by decide)) (fun _ => b38_30 h1 (c40 (z3 s1 q1 s2 q2) (fun s3 q3 => ⟨1, rfl, b38_37 h1 (fun _ => b38_42 h1 (c5 h1 (z4 s1 q1 s2 q2 s3 q3) (fun s4 q4 => ⟨rfl, b38_64 h1 (z5 s1 q1 s2 q2 s3 q3 s4 q4)⟩))) (fun q => absurd q (by decide))⟩) (fun s5 q5 => ⟨0, rfl, b38_37 h1 (fun q => absurd q (by decide)) (fun _ => b38_40 h1 (z6 s1 q1 s2 q2 s5 q5))⟩)))⟩) (fun s6 q6 => ⟨0, rfl, b38_27 h1 (fun _ => b38_40 h1 (z7 s1 q1 s6 q6)) (fun q => absurd q (by decide))⟩)))⟩) (fun s7 q7 => ⟨0, rfl, b38_16 h1 (fun _ => b38_40 h1 (z8 s7 q7)) (fun q => absurd q (by decide))⟩)))

theorem N3 {s a b c : mSt} {l m l' m' l'' m'' : Int} (h1 : N1q s a 0 l m) (h2 : N1q a b 1 l' m') (h3 : N1q b c 2 l'' m'') : seqA (s 2) (nO s) [(l, m), (l', m'), (l'', m'')] (aO s) = (0, aO c, [c 4 0, c 4 1, c 4 2]) ∧ TSa s c (aO c) ∧ c 1 6 = 0 ∧ f14 s c := by
  obtain ⟨n1, t1, z1, e1, f1'⟩ := h1
  obtain ⟨n2, t2, z2, e2, f2'⟩ := h2
  obtain ⟨n3, t3, z3, e3, f3'⟩ := h3
  have en : nO a = nO s := by unfold nO; rw [t1.2.2.1]
  rw [t1.2.1, en, t1.2.2.2] at n2 t2 e2
  have en2 : nO b = nO s := by unfold nO; rw [t2.2.2.1, t1.2.2.1]
  have e22 : b 2 = s 2 := t2.2.1.trans t1.2.1
  rw [e22, en2, t2.2.2.2] at n3 t3 e3
  refine ⟨?_, ⟨t3.1, t3.2.1.trans e22, t3.2.2.1.trans (t2.2.2.1.trans t1.2.2.1), rfl⟩, z3, fun x g1 g2 => ((f3' x g1 g2).trans (f2' x g1 g2)).trans (f1' x g1 g2)⟩
  rw [e3, up_at, up_ne (by decide), up_ne (by decide), e2, up_at, up_ne (by decide), e1, up_at]
  simp only [seqA, n1, n2, n3, if_true]
  rw [t3.2.2.2]
theorem N2g {s a b : mSt} {l m l' m' : Int} {L : List (Int × Int)} (h1 : N1q s a 0 l m) (h2 : N0q a b l' m') : (seqA (s 2) (nO s) ((l, m) :: (l', m') :: L) (aO s)).1 = b 1 6 ∧ ¬ b 1 6 = 0 ∧ b 1 1 = s 1 1 ∧ f14 s b := by
  obtain ⟨n1, t1, z1, e1, f1'⟩ := h1
  obtain ⟨n2, t2, z2, f2'⟩ := h2
  have en : nO a = nO s := by unfold nO; rw [t1.2.2.1]
  rw [t1.2.1, en, t1.2.2.2] at n2 t2
  have nb := nuA_b (s 2) (nO s) (nxA (s 2) (nO s) (aO s)) l' m'
  refine ⟨?_, by rw [t2]; unfold fuA; omega, z2.trans t1.2.2.1, fun x g1 g2 => (f2' x g1).trans (f1' x g1 g2)⟩
  simp only [seqA, n1, n2, if_true, if_false]
  rw [t2]
theorem N3f {s a b c : mSt} {l m l' m' l'' m'' : Int} (h1 : N1q s a 0 l m) (h2 : N1q a b 1 l' m') (h3 : N0q b c l'' m'') : (seqA (s 2) (nO s) [(l, m), (l', m'), (l'', m'')] (aO s)).1 = c 1 6 ∧ ¬ c 1 6 = 0 ∧ c 1 1 = s 1 1 ∧ f14 s c := by
  obtain ⟨n1, t1, z1, e1, f1'⟩ := h1
  obtain ⟨n2, t2, z2, e2, f2'⟩ := h2
  obtain ⟨n3, t3, z3, f3'⟩ := h3
  have en : nO a = nO s := by unfold nO; rw [t1.2.2.1]
  rw [t1.2.1, en, t1.2.2.2] at n2 t2
  have en2 : nO b = nO s := by unfold nO; rw [t2.2.2.1, t1.2.2.1]
  have e22 : b 2 = s 2 := t2.2.1.trans t1.2.1
  rw [e22, en2, t2.2.2.2] at n3 t3
  have nb := nuA_b (s 2) (nO s) (nxA (s 2) (nO s) (nxA (s 2) (nO s) (aO s))) l'' m''
  refine ⟨?_, by rw [t3]; unfold fuA; omega, z3.trans (t2.2.2.1.trans t1.2.2.1), fun x g1 g2 => ((f3' x g1).trans (f2' x g1 g2)).trans (f1' x g1 g2)⟩
  simp only [seqA, n1, n2, n3, if_true, if_false]
  rw [t3]
theorem c38 {X : (Nat → Int) × Nat} {d : Nat} {s : mSt} {Q : mQ} {a1 : Nat} (h1 : isBd a1) (p1 : TSq s ∧ s 1 6 = 0 ∧ (0 ≤ s a1 3 ∧ s a1 3 < 6) ∧ (0 ≤ s a1 2 ∧ s a1 2 ≤ 5)) (k1 : ∀ t : mSt, (C1q s t a1 [(1, 2 ^ (s a1 2).toNat - 1), (0, 100), (0, 3)] (fun r v => rdC r (v.getD 0 0) (v.getD 1 0) (v.getD 2 0))) → Q (some (mI 1)) t) (k0 : ∀ t : mSt, (C0q s t a1 [(1, 2 ^ (s a1 2).toNat - 1), (0, 100), (0, 3)]) → Q (some (mI 0)) t) : Sp X (d + 2) 38 [mR 3, mR a1] s Q := by
  obtain ⟨h, hz, h6, h5⟩ := p1
  have l := bd_8 h1
  have ew : w32 (iShl 1 (s a1 2) - 1) = 2 ^ (s a1 2).toNat - 1 := by
    have e : s a1 2 = (((s a1 2).toNat : Nat) : Int) := by omega
    have p : (2 : Int) ^ (s a1 2).toNat ≤ 2 ^ 5 := by
      have : (2 : Nat) ^ (s a1 2).toNat ≤ 2 ^ 5 := Nat.pow_le_pow_right (by decide) (by omega)
      exact_mod_cast this
    have p0 : (0 : Int) < 2 ^ (s a1 2).toNat := by
      have : (0 : Nat) < 2 ^ (s a1 2).toNat := Nat.pow_pos (by decide)
      exact_mod_cast this
    rw [e, shl1 (by omega), tnc, w32_of (by omega)]
  refine v38 h1 ⟨h, hz, by decide⟩ (fun a ha => ⟨ha.2.1.1, ha.2.2.1, by decide⟩) (fun a ha b hb => ⟨hb.2.1.1, hb.2.2.1, by decide⟩) (fun a ha b hb c hc => ?_) (fun a ha b hb c hc t ht => ?_) (fun a ha b hb c hc => ?_) (fun a ha b hb => ?_) (fun b hb => ?_)
  · rw [(N3 ha hb hc).2.2.2 a1 (by omega) (by omega)]; exact h6
  · have q := N3 ha hb hc
    rw [ew] at q
    have cc : ∀ x, ¬ (a1 ≤ x ∧ x ≤ a1 + 9) → t x = c x := fun x hx => by rw [ht, uS_cell (by omega), uS_cell (by omega), uS_cell (by omega), uS_cell (by omega)]
    refine k1 _ ⟨by rw [q.1], TSa_c (by rw [q.1]; exact q.2.1) (cc 1 (by omega)) (cc 2 (by omega)), by rw [cc 1 (by omega)]; exact q.2.2.1, fun r hr => ?_, fun x g1 g2 g3 => (cc x g3).trans (q.2.2.2 x g1 g2)⟩
    rw [q.1, ht]
    exact DR_C (DR_cells hr (fun x hx => q.2.2.2 x (by omega) (by omega))) (by rw [← hr.1.2.2.2.1]; exact h6.2) _ _ _
  · have q := N3f ha hb hc
    rw [ew] at q
    exact k0 c ⟨fun w => q.2.1 (q.1.symm.trans w), q.1.symm, q.2.2.1, fun x g1 g2 _ => q.2.2.2 x g1 g2⟩
  · have q := N2g (L := [(0, 3)]) ha hb
    rw [ew] at q
    exact k0 b ⟨fun w => q.2.1 (q.1.symm.trans w), q.1.symm, q.2.2.1, fun x g1 g2 _ => q.2.2.2 x g1 g2⟩
  · have q := N1f (L := [(0, 100), (0, 3)]) hb
    rw [ew] at q
    exact k0 b ⟨fun w => q.2.1 (q.1.symm.trans w), q.1.symm, q.2.2.1, fun x g1 g2 _ => q.2.2.2 x g1 g2⟩
