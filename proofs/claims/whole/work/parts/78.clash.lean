/-! the clash -/
theorem bN_lt {n M : Nat} (hM : M < 32) (hs : ∀ p, n.testBit p = true → M.testBit p = true) (hn : n < M) : bN n < bN M := by
  have e : n &&& M = n := by
    apply Nat.eq_of_testBit_eq
    intro i
    rw [Nat.testBit_and]
    cases hb : n.testBit i with
    | true => rw [hs i hb]; rfl
    | false => rfl
  exact (show ∀ M n : Fin 32, n.val &&& M.val = n.val → n.val < M.val → bN n.val < bN M.val by decide +kernel) ⟨M, hM⟩ ⟨n, by omega⟩ e hn
def ckQ (a : Rw) (x y r : Int) : Prop := YN (wtC a x ∧ (0 ≤ y ∧ y ≤ 1)) (YN ((pA1 a x.toNat).1 = 0) (∃ w : Nat, w < 32 ∧ clC a x.toNat w ∧ r = if y = 0 then bN w else (w : Int)) (r = -2)) (r = -1)
theorem ckQ_un {a : Rw} {x y r r' : Int} (h : ckQ a x y r) (h' : ckQ a x y r') : r = r' := by
  by_cases z : wtC a x ∧ (0 ≤ y ∧ y ≤ 1)
  · have h1 := h.1 z
    have h2 := h'.1 z
    by_cases z2 : (pA1 a x.toNat).1 = 0
    · obtain ⟨w, _, c1, e1⟩ := h1.1 z2
      obtain ⟨w', _, c2, e2⟩ := h2.1 z2
      have := clC_un c1 c2
      subst this
      rw [e1, e2]
    · rw [h1.2 z2, h2.2 z2]
  · rw [h.2 z, h'.2 z]
theorem v140 {X : (Nat → Int) × Nat} {d : Nat} {s : mSt} {Q : mQ} {x1 : Int} {x2 : Int}
  (z1 : BI s 18)
  (z2 : ((0 ≤ x1 ∧ x1 < s 18 3) ∧ ¬ pl (brow s 18) x1.toNat = true) → x2 < 0 → Q (some (mI (-1))) s)
  (z3 : ((0 ≤ x1 ∧ x1 < s 18 3) ∧ ¬ pl (brow s 18) x1.toNat = true) → ¬ x2 < 0 → x2 ≤ 1 → 0 ≤ x1 ∧ x1 < 6)
  (z4 : ((0 ≤ x1 ∧ x1 < s 18 3) ∧ ¬ pl (brow s 18) x1.toNat = true) → ¬ x2 < 0 → x2 ≤ 1 → BI s 18 ∧ ¬ s 18 0 = 0 ∧ (0 ≤ x1 ∧ x1 < s 18 3) ∧ (0 < (s 21 x1.toNat) ∧ (s 21 x1.toNat) < 32) ∧ ∀ p, (s 21 x1.toNat).toNat.testBit p = true → p < np (brow s 18))
  (z5 : ((0 ≤ x1 ∧ x1 < s 18 3) ∧ ¬ pl (brow s 18) x1.toNat = true) → ¬ x2 < 0 → x2 ≤ 1 → ∀ s5 : mSt, (0 < (plB (brow s 18) x1.toNat (s 21 x1.toNat).toNat).1 ∧ PB s5 (brow s 18) x1.toNat (s 21 x1.toNat).toNat (plB (brow s 18) x1.toNat (s 21 x1.toNat).toNat) ∧ fP s s5) → Q (some (mI (-2))) s5)
  (z6 : ((0 ≤ x1 ∧ x1 < s 18 3) ∧ ¬ pl (brow s 18) x1.toNat = true) → ¬ x2 < 0 → x2 ≤ 1 → ∀ s6 : mSt, ((plB (brow s 18) x1.toNat (s 21 x1.toNat).toNat).1 = 0 ∧ PB s6 (brow s 18) x1.toNat (s 21 x1.toNat).toNat (plB (brow s 18) x1.toNat (s 21 x1.toNat).toNat) ∧ fP s s6) → BI s6 18 ∧ (0 ≤ x1 ∧ x1 < s6 18 3) ∧ (pA1 (brow s6 18) x1.toNat).1 = 0)
  (z7 : ((0 ≤ x1 ∧ x1 < s 18 3) ∧ ¬ pl (brow s 18) x1.toNat = true) → ¬ x2 < 0 → x2 ≤ 1 → ∀ s6 : mSt, ((plB (brow s 18) x1.toNat (s 21 x1.toNat).toNat).1 = 0 ∧ PB s6 (brow s 18) x1.toNat (s 21 x1.toNat).toNat (plB (brow s 18) x1.toNat (s 21 x1.toNat).toNat) ∧ fP s s6) → ∀ v7 : Int, ∀ s7 : mSt, ((∃ w : Nat, v7 = w ∧ w < 32 ∧ clC (brow s6 18) x1.toNat w) ∧ fP s6 s7) → ¬ x2 = 0 → Q (some (mI v7)) s7)
  (z8 : ((0 ≤ x1 ∧ x1 < s 18 3) ∧ ¬ pl (brow s 18) x1.toNat = true) → ¬ x2 < 0 → x2 ≤ 1 → ∀ s6 : mSt, ((plB (brow s 18) x1.toNat (s 21 x1.toNat).toNat).1 = 0 ∧ PB s6 (brow s 18) x1.toNat (s 21 x1.toNat).toNat (plB (brow s 18) x1.toNat (s 21 x1.toNat).toNat) ∧ fP s s6) → ∀ v7 : Int, ∀ s7 : mSt, ((∃ w : Nat, v7 = w ∧ w < 32 ∧ clC (brow s6 18) x1.toNat w) ∧ fP s6 s7) → x2 = 0 → 0 ≤ v7 ∧ v7 < 1073741824)
  (z9 : ((0 ≤ x1 ∧ x1 < s 18 3) ∧ ¬ pl (brow s 18) x1.toNat = true) → ¬ x2 < 0 → x2 ≤ 1 → ∀ s6 : mSt, ((plB (brow s 18) x1.toNat (s 21 x1.toNat).toNat).1 = 0 ∧ PB s6 (brow s 18) x1.toNat (s 21 x1.toNat).toNat (plB (brow s 18) x1.toNat (s 21 x1.toNat).toNat) ∧ fP s s6) → ∀ v7 : Int, ∀ s7 : mSt, ((∃ w : Nat, v7 = w ∧ w < 32 ∧ clC (brow s6 18) x1.toNat w) ∧ fP s6 s7) → x2 = 0 → Q (some (mI (cn (bq v7) 30))) s7)
  (z10 : ((0 ≤ x1 ∧ x1 < s 18 3) ∧ ¬ pl (brow s 18) x1.toNat = true) → ¬ x2 < 0 → ¬ x2 ≤ 1 → Q (some (mI (-1))) s)
  (z11 : (¬ ((0 ≤ x1 ∧ x1 < s 18 3) ∧ ¬ pl (brow s 18) x1.toNat = true)) → Q (some (mI (-1))) s) :
  Sp X (d + 10) 140 [mR 0, mI x1, mI x2] s Q := e140 (b140_0 (c10 (bdm rfl) z1 (fun q1 => ⟨1, rfl, b140_13 (fun q => absurd q (by decide)) (fun _ => b140_16 (fun q2 => b140_25 (z2 q1 q2)) (fun q3 => b140_20 (fun q4 => b140_27 (z3 q1 q3 q4) (c59 (bdm rfl) (z4 q1 q3 q4) (fun s5 q5 => ⟨1, rfl, b140_42 (fun q => absurd q (by decide)) (fun _ => b140_45 (z5 q1 q3 q4 s5 q5))⟩) (fun s6 q6 => ⟨0, rfl, b140_42 (fun _ => b140_48 (c61 (bdm rfl) (z6 q1 q3 q4 s6 q6) (fun v7 s7 q7 => ⟨v7, rfl, b140_57 (fun q8 => b140_71 (b140_73 (z7 q1 q3 q4 s6 q6 v7 s7 q7 q8))) (fun q9 => b140_63 (c309 (z8 q1 q3 q4 s6 q6 v7 s7 q7 q9) ⟨_, rfl, b140_68 (b140_73 (z9 q1 q3 q4 s6 q6 v7 s7 q7 q9))⟩))⟩))) (fun q => absurd q (by decide))⟩))) (fun q10 => b140_25 (z10 q1 q3 q10))))⟩) (fun q11 => ⟨0, rfl, b140_13 (fun _ => b140_25 (z11 q11)) (fun q => absurd q (by decide))⟩)))

theorem c140 {X : (Nat → Int) × Nat} {d : Nat} {s : mSt} {Q : mQ} {x1 : Int} {x2 : Int} (p1 : BI s 18) (k : ∀ (v : Int) (t : mSt), (ckQ (brow s 18) x1 x2 v ∧ fT s t) → Q (some (mI v)) t) : Sp X (d + 10) 140 [mR 0, mI x1, mI x2] s Q := by
  have hB := p1
  have h4 := bi4 hB
  have b4 := ok4 hB.1
  by_cases g : ((0 ≤ x1 ∧ x1 < s 18 3) ∧ ¬ pl (brow s 18) x1.toNat = true)
  rotate_left
  · refine v140 hB (fun z => absurd z g) (fun z => absurd z g) (fun z => absurd z g) (fun z => absurd z g) (fun z => absurd z g) (fun z => absurd z g) (fun z => absurd z g) (fun z => absurd z g) (fun z => absurd z g) (fun _ => ?_)
    exact k _ s ⟨YN_n (fun z => g ⟨by rw [h4]; exact z.1.1, z.1.2⟩) rfl, fun _ _ => rfl⟩
  have w := wait_x hB g
  have gw : wtC (brow s 18) x1 := ⟨by rw [← h4]; exact g.1, g.2⟩
  have eA : plB (brow s 18) x1.toNat (sM (brow s 18) x1.toNat) = pA1 (brow s 18) x1.toNat := rfl
  have w2 : ∀ u : mSt, fP s u → BI u 18 ∧ brow u 18 = brow s 18 := fun u hu => BI_cells hB (fun x hx => hu x (by omega)) (hu 417 (by decide))
  refine v140 hB (fun _ q => ?_) (fun _ _ _ => by omega) (fun _ _ _ => w.2) (fun _ q1 q2 t ht => ?_) (fun _ q1 q2 t ht => ?_) (fun _ q1 q2 t ht v u hu q => ?_) (fun _ q1 q2 t ht v u hu q => ?_) (fun _ q1 q2 t ht v u hu q => ?_) (fun _ q1 q2 => ?_) (fun z => absurd g z)
  · exact k _ s ⟨YN_n (fun z => by have := z.2; omega) rfl, fun _ _ => rfl⟩
  · rw [w.1, eA] at ht
    exact k _ t ⟨YN_y ⟨gw, by omega⟩ (YN_n (by omega) rfl), fT_P ht.2.2⟩
  · rw [w.1, eA] at ht
    have v := w2 t ht.2.2
    rw [v.2, ht.2.2 18 (by decide)]
    exact ⟨v.1, g.1, ht.1⟩
  · rw [w.1, eA] at ht
    rw [(w2 t ht.2.2).2] at hu
    obtain ⟨⟨w', rfl, hw, hc⟩, hf⟩ := hu
    exact k _ u ⟨YN_y ⟨gw, by omega⟩ (YN_y ht.1 ⟨w', hw, hc, by rw [if_neg q]⟩), fT_P (fun x hx => (hf x hx).trans (ht.2.2 x hx))⟩
  · obtain ⟨⟨w', rfl, hw, hc⟩, hf⟩ := hu
    omega
  · rw [w.1, eA] at ht
    rw [(w2 t ht.2.2).2] at hu
    obtain ⟨⟨w', rfl, hw, hc⟩, hf⟩ := hu
    exact k _ u ⟨YN_y ⟨gw, by omega⟩ (YN_y ht.1 ⟨w', hw, hc, by rw [if_pos q]; rfl⟩), fT_P (fun x hx => (hf x hx).trans (ht.2.2 x hx))⟩
  · exact k _ s ⟨YN_n (fun z => by have := z.2; omega) rfl, fun _ _ => rfl⟩
theorem v264 {X : (Nat → Int) × Nat} {d : Nat} {s : mSt} {Q : mQ} {x1 : Int} {x2 : Int}
  (I47 : Int → Int → Int → mSt → Prop) (m47 : Int → Int → Int → mSt → Nat)
  (z1 : ∀ y3 : Int, ∀ y4 : Int, ∀ y5 : Int, ∀ s : mSt, I47 y3 y4 y5 s → y3 ≤ y5 → ¬ x2 = 0 → Q (some (mI y4)) s)
  (z2 : ∀ y3 : Int, ∀ y4 : Int, ∀ y5 : Int, ∀ s : mSt, I47 y3 y4 y5 s → y3 ≤ y5 → x2 = 0 → 0 ≤ y4 ∧ y4 < 1073741824)
  (z3 : ∀ y3 : Int, ∀ y4 : Int, ∀ y5 : Int, ∀ s : mSt, I47 y3 y4 y5 s → y3 ≤ y5 → x2 = 0 → Q (some (mI (cn (bq y4) 30))) s)
  (z4 : ∀ y3 : Int, ∀ y4 : Int, ∀ y5 : Int, ∀ s : mSt, I47 y3 y4 y5 s → ¬ y3 ≤ y5 → ¬ (iAnd y5 (iXor y3 (-1))) = 0 → I47 y3 y4 (w32 (y5 + 1)) s ∧ m47 y3 y4 (w32 (y5 + 1)) s < m47 y3 y4 y5 s)
  (z5 : ∀ y3 : Int, ∀ y4 : Int, ∀ y5 : Int, ∀ s : mSt, I47 y3 y4 y5 s → ¬ y3 ≤ y5 → (iAnd y5 (iXor y3 (-1))) = 0 → 0 ≤ y5 ∧ y5 < 1073741824)
  (z6 : ∀ y3 : Int, ∀ y4 : Int, ∀ y5 : Int, ∀ s : mSt, I47 y3 y4 y5 s → ¬ y3 ≤ y5 → (iAnd y5 (iXor y3 (-1))) = 0 → 0 ≤ y4 ∧ y4 < 1073741824)
  (z7 : ∀ y3 : Int, ∀ y4 : Int, ∀ y5 : Int, ∀ s : mSt, I47 y3 y4 y5 s → ¬ y3 ≤ y5 → (iAnd y5 (iXor y3 (-1))) = 0 → (cn (bq y4) 30) ≤ (cn (bq y5) 30) → I47 y3 y4 (w32 (y5 + 1)) s ∧ m47 y3 y4 (w32 (y5 + 1)) s < m47 y3 y4 y5 s)
  (z8 : ∀ y3 : Int, ∀ y4 : Int, ∀ y5 : Int, ∀ s : mSt, I47 y3 y4 y5 s → ¬ y3 ≤ y5 → (iAnd y5 (iXor y3 (-1))) = 0 → ¬ (cn (bq y4) 30) ≤ (cn (bq y5) 30) → Ok (s 417) ∧ (0 ≤ x1 ∧ x1 < 6) ∧ (0 ≤ y5 ∧ y5 < 32) ∧ ∀ p, y5.toNat.testBit p = true → p < np (s 417))
  (z9 : ∀ y3 : Int, ∀ y4 : Int, ∀ y5 : Int, ∀ s : mSt, I47 y3 y4 y5 s → ¬ y3 ≤ y5 → (iAnd y5 (iXor y3 (-1))) = 0 → ¬ (cn (bq y4) 30) ≤ (cn (bq y5) 30) → ∀ s9 : mSt, (0 < (plB (s 417) x1.toNat y5.toNat).1 ∧ PQ s9 (np (s 417)) (plB (s 417) x1.toNat y5.toNat) ∧ fQ s s9) → I47 y3 y4 (w32 (y5 + 1)) s9 ∧ m47 y3 y4 (w32 (y5 + 1)) s9 < m47 y3 y4 y5 s)
  (z10 : ∀ y3 : Int, ∀ y4 : Int, ∀ y5 : Int, ∀ s : mSt, I47 y3 y4 y5 s → ¬ y3 ≤ y5 → (iAnd y5 (iXor y3 (-1))) = 0 → ¬ (cn (bq y4) 30) ≤ (cn (bq y5) 30) → ∀ s10 : mSt, ((plB (s 417) x1.toNat y5.toNat).1 = 0 ∧ PQ s10 (np (s 417)) (plB (s 417) x1.toNat y5.toNat) ∧ fQ s s10) → I47 y3 y5 (w32 (y5 + 1)) s10 ∧ m47 y3 y5 (w32 (y5 + 1)) s10 < m47 y3 y4 y5 s)
  (z11 : Ok (s 417))
  (z12 : ((0 ≤ x1 ∧ x1 < s 417 4) ∧ s 417 (41 + x1.toNat) = 1) → (0 ≤ x2 ∧ x2 ≤ 1) → Ok (s 417) ∧ (0 ≤ x1 ∧ x1 < s 417 4))
  (z13 : ((0 ≤ x1 ∧ x1 < s 417 4) ∧ s 417 (41 + x1.toNat) = 1) → (0 ≤ x2 ∧ x2 ≤ 1) → ∀ s13 : mSt, (0 < (pA1 (s 417) x1.toNat).1 ∧ PQ s13 (np (s 417)) (pA1 (s 417) x1.toNat) ∧ fQ s s13) → Q (some (mI (-2))) s13)
  (z14 : ((0 ≤ x1 ∧ x1 < s 417 4) ∧ s 417 (41 + x1.toNat) = 1) → (0 ≤ x2 ∧ x2 ≤ 1) → ∀ s14 : mSt, ((pA1 (s 417) x1.toNat).1 = 0 ∧ PQ s14 (np (s 417)) (pA1 (s 417) x1.toNat) ∧ fQ s s14) → 0 ≤ (w32 (117 + x1)) ∧ (w32 (117 + x1)) < 166)
  (z15 : ((0 ≤ x1 ∧ x1 < s 417 4) ∧ s 417 (41 + x1.toNat) = 1) → (0 ≤ x2 ∧ x2 ≤ 1) → ∀ s14 : mSt, ((pA1 (s 417) x1.toNat).1 = 0 ∧ PQ s14 (np (s 417)) (pA1 (s 417) x1.toNat) ∧ fQ s s14) → I47 (s14 417 (w32 (117 + x1)).toNat) (s14 417 (w32 (117 + x1)).toNat) 1 s14)
  (z16 : ((0 ≤ x1 ∧ x1 < s 417 4) ∧ s 417 (41 + x1.toNat) = 1) → (¬ (0 ≤ x2 ∧ x2 ≤ 1)) → Q (some (mI (-1))) s)
  (z17 : (¬ ((0 ≤ x1 ∧ x1 < s 417 4) ∧ s 417 (41 + x1.toNat) = 1)) → Q (some (mI (-1))) s) :
  Sp X (d + 6) 264 [mR 407, mI x1, mI x2] s Q := by
  have L : ∀ k : Nat, (∀ (y3 : Int) (y4 : Int) (y5 : Int) (s : mSt), I47 y3 y4 y5 s → m47 y3 y4 y5 s < k → Wp X (d + 6) 264 47 [some (mR 407), some (mI x1), some (mI x2), some (mI y3), some (mI y4), some (mI y5)] [] s Q) := by
    intro k
    induction k with
    | zero => exact fun _ _ _ _ _ h => absurd h (Nat.not_lt_zero _)
    | succ k ih => exact fun y3 y4 y5 s hI hm => b264_47 (fun q1 => b264_98 (fun q2 => b264_110 (b264_112 (z1 y3 y4 y5 s hI q1 q2))) (fun q3 => b264_102 (c169 (z2 y3 y4 y5 s hI q1 q3) ⟨_, rfl, b264_107 (b264_112 (z3 y3 y4 y5 s hI q1 q3))⟩))) (fun q4 => b264_53 (fun q5 => b264_92 (ih y3 y4 (w32 (y5 + 1)) s (z4 y3 y4 y5 s hI q4 q5).1 (Nat.lt_of_lt_of_le (z4 y3 y4 y5 s hI q4 q5).2 (Nat.le_of_lt_succ hm)))) (fun q6 => b264_62 (c169 (z5 y3 y4 y5 s hI q4 q6) ⟨_, rfl, b264_67 (c169 (z6 y3 y4 y5 s hI q4 q6) ⟨_, rfl, b264_72 (fun q7 => b264_92 (ih y3 y4 (w32 (y5 + 1)) s (z7 y3 y4 y5 s hI q4 q6 q7).1 (Nat.lt_of_lt_of_le (z7 y3 y4 y5 s hI q4 q6 q7).2 (Nat.le_of_lt_succ hm)))) (fun q8 => b264_75 (c243 (z8 y3 y4 y5 s hI q4 q6 q8) (fun s9 q9 => ⟨1, rfl, b264_82 (fun q => absurd q (by decide)) (fun _ => b264_85 (b264_92 (ih y3 y4 (w32 (y5 + 1)) s9 (z9 y3 y4 y5 s hI q4 q6 q8 s9 q9).1 (Nat.lt_of_lt_of_le (z9 y3 y4 y5 s hI q4 q6 q8 s9 q9).2 (Nat.le_of_lt_succ hm)))))⟩) (fun s10 q10 => ⟨0, rfl, b264_82 (fun _ => b264_88 (b264_92 (ih y3 y5 (w32 (y5 + 1)) s10 (z10 y3 y4 y5 s hI q4 q6 q8 s10 q10).1 (Nat.lt_of_lt_of_le (z10 y3 y4 y5 s hI q4 q6 q8 s10 q10).2 (Nat.le_of_lt_succ hm))))) (fun q => absurd q (by decide))⟩)))⟩)⟩)))
  exact e264 (b264_0 (c215 z11 (fun q11 => ⟨1, rfl, b264_5 (fun q => absurd q (by decide)) (fun _ => b264_8 (c167  (fun q12 => ⟨1, rfl, b264_15 (fun _ => b264_20 (c244 (z12 q11 q12) (fun s13 q13 => ⟨1, rfl, b264_25 (fun q => absurd q (by decide)) (fun _ => b264_28 (z13 q11 q12 s13 q13))⟩) (fun s14 q14 => ⟨0, rfl, b264_25 (fun _ => b264_31 (z14 q11 q12 s14 q14) ((L (m47 (s14 417 (w32 (117 + x1)).toNat) (s14 417 (w32 (117 + x1)).toNat) 1 s14 + 1)) (s14 417 (w32 (117 + x1)).toNat) (s14 417 (w32 (117 + x1)).toNat) 1 s14 (z15 q11 q12 s14 q14) (Nat.lt_succ_self _))) (fun q => absurd q (by decide))⟩))) (fun q => absurd q (by decide))⟩) (fun q15 => ⟨0, rfl, b264_15 (fun q => absurd q (by decide)) (fun _ => b264_18 (z16 q11 q15))⟩)))⟩) (fun q16 => ⟨0, rfl, b264_5 (fun _ => b264_18 (z17 q16)) (fun q => absurd q (by decide))⟩)))

theorem c264 {X : (Nat → Int) × Nat} {d : Nat} {s : mSt} {Q : mQ} {x1 : Int} {x2 : Int} (p1 : Ok (s 417)) (k : ∀ (v : Int) (t : mSt), (ckQ (s 417) x1 x2 v ∧ fQ s t) → Q (some (mI v)) t) : Sp X (d + 6) 264 [mR 407, mI x1, mI x2] s Q := by
  have h := p1
  have h4 := ok4 h
  have h4n := ncI h
  let c := x1.toNat
  have hcd : c = x1.toNat := rfl
  let M := sM (s 417) c
  have hMd : M = sM (s 417) c := rfl
  let G : Prop := ((0 ≤ x1 ∧ x1 < s 417 4) ∧ s 417 (41 + x1.toNat) = 1) ∧ (0 ≤ x2 ∧ x2 ≤ 1) ∧ (pA1 (s 417) c).1 = 0
  have gw : G → wtC (s 417) x1 := fun g => ⟨g.1.1, (pl_1 h (by have := g.1.1; omega)).1 g.1.2⟩
  have gM : G → (0 < M ∧ M < 32) ∧ (M : Int) = s 417 (117 + c) ∧ (∀ p, M.testBit p = true → p < np (s 417)) ∧ isF (s 417) c M ∧ ∀ m, isF (s 417) c m → m ≤ M := fun g => by
    have m := sM_b h (c := c) (by have := g.1.1; omega)
    exact ⟨m.1, m.2.1, m.2.2.2, ⟨m.1.1, fun p hp => hp, g.2.2⟩, fun m' hm => sub_le hm.2.1⟩
  let J : Int → Int → Int → mSt → Prop := fun y3 y4 y5 t => ∃ n v : Nat, y5 = n ∧ y4 = v ∧ y3 = M ∧ G ∧ (1 ≤ n ∧ n ≤ M) ∧ isF (s 417) c v ∧ (v < n ∨ v = M) ∧ bN v ≤ bN M ∧ (∀ m, isF (s 417) c m → m < n → bN v < bN m ∨ (bN v = bN m ∧ v ≤ m)) ∧ fQ s t
  have fin : ∀ (n v : Nat), G → (1 ≤ n ∧ n ≤ M) → isF (s 417) c v → bN v ≤ bN M → (∀ m, isF (s 417) c m → m < n → bN v < bN m ∨ (bN v = bN m ∧ v ≤ m)) → M ≤ n → v < 32 ∧ clC (s 417) c v := fun n v g hn hv hb hm hMn => by
    have gm := gM g
    have := gm.2.2.2.2 v hv
    refine ⟨by omega, hv, fun m hm' => ?_⟩
    have := gm.2.2.2.2 m hm'
    by_cases z : m < n
    · exact hm m hm' z
    · have : m = M := by omega
      subst this
      rcases Int.lt_or_eq_of_le hb with y | y
      · exact Or.inl y
      · exact Or.inr ⟨y, by omega⟩
  refine v264 J (fun _ _ y _ => (40 - y).toNat) ?_ ?_ ?_ ?_ ?_ ?_ ?_ ?_ ?_ ?_ ?_ ?_ ?_ ?_ ?_ ?_ ?_
  · rintro _ _ _ t ⟨n, v, rfl, rfl, rfl, g, hn, hv, hv2, hb, hm, ht⟩ hc q
    have f := fin n v g hn hv hb hm (by omega)
    exact k _ t ⟨YN_y ⟨gw g, g.2.1⟩ (YN_y g.2.2 ⟨v, f.1, f.2, by rw [if_neg q]⟩), ht⟩
  · rintro _ _ _ t ⟨n, v, rfl, rfl, rfl, g, hn, hv, hv2, hb, hm, ht⟩ hc q
    have f := fin n v g hn hv hb hm (by omega)
    omega
  · rintro _ _ _ t ⟨n, v, rfl, rfl, rfl, g, hn, hv, hv2, hb, hm, ht⟩ hc q
    have f := fin n v g hn hv hb hm (by omega)
    exact k _ t ⟨YN_y ⟨gw g, g.2.1⟩ (YN_y g.2.2 ⟨v, f.1, f.2, by rw [if_pos q]; rfl⟩), ht⟩
  · rintro _ _ _ t ⟨n, v, rfl, rfl, rfl, g, hn, hv, hv2, hb, hm, ht⟩ hc q
    have gm := gM g
    rw [sub_iff (by omega) (by omega)] at q
    rw [w32_of (by omega)]
    refine ⟨⟨n + 1, v, by omega, rfl, rfl, g, by omega, hv, by omega, hb, fun m hm' hlt => ?_, ht⟩, by omega⟩
    by_cases z : m = n
    · subst z; exact absurd hm'.2.1 q
    · exact hm m hm' (by omega)
  · rintro _ _ _ t ⟨n, v, rfl, rfl, rfl, g, hn, hv, hv2, hb, hm, ht⟩ hc q
    have gm := gM g
    omega
  · rintro _ _ _ t ⟨n, v, rfl, rfl, rfl, g, hn, hv, hv2, hb, hm, ht⟩ hc q
    have gm := gM g
    have := gm.2.2.2.2 v hv
    omega
  · rintro _ _ _ t ⟨n, v, rfl, rfl, rfl, g, hn, hv, hv2, hb, hm, ht⟩ hc q q2
    have gm := gM g
    rw [sub_iff (by omega) (by omega)] at q
    have q2' : bN v ≤ bN n := q2
    rw [w32_of (by omega)]
    refine ⟨⟨n + 1, v, by omega, rfl, rfl, g, by omega, hv, by omega, hb, fun m hm' hlt => ?_, ht⟩, by omega⟩
    by_cases z : m = n
    · subst z
      rcases Int.lt_or_eq_of_le q2' with y | y
      · exact Or.inl y
      · refine Or.inr ⟨y, ?_⟩
        rcases hv2 with z1 | z1
        · omega
        · have := bN_lt gm.1.2 q (by omega)
          rw [z1] at q2'
          omega
    · exact hm m hm' (by omega)
  · rintro _ _ _ t ⟨n, v, rfl, rfl, rfl, g, hn, hv, hv2, hb, hm, ht⟩ hc q q2
    have gm := gM g
    rw [sub_iff (by omega) (by omega)] at q
    have := g.1.1
    rw [ht.1 417 (by decide), tnc]
    exact ⟨h, by omega, by omega, fun p hp => gm.2.2.1 p (q p hp)⟩
  · rintro _ _ _ t ⟨n, v, rfl, rfl, rfl, g, hn, hv, hv2, hb, hm, ht⟩ hc q q2 u hu
    have gm := gM g
    rw [ht.1 417 (by decide), tnc] at hu
    rw [w32_of (by omega)]
    refine ⟨⟨n + 1, v, by omega, rfl, rfl, g, by omega, hv, by omega, hb, fun m hm' hlt => ?_, fQ_tr ht hu.2.2⟩, by omega⟩
    by_cases z : m = n
    · subst z
      have q5 : (plB (s 417) c m).1 = 0 := hm'.2.2
      have q6 : 0 < (plB (s 417) c m).1 := hu.1
      omega
    · exact hm m hm' (by omega)
  · rintro _ _ _ t ⟨n, v, rfl, rfl, rfl, g, hn, hv, hv2, hb, hm, ht⟩ hc q q2 u hu
    have gm := gM g
    rw [sub_iff (by omega) (by omega)] at q
    have q2' : ¬ bN v ≤ bN n := q2
    rw [ht.1 417 (by decide), tnc] at hu
    rw [w32_of (by omega)]
    refine ⟨⟨n + 1, n, by omega, rfl, rfl, g, by omega, ⟨by omega, q, hu.1⟩, by omega, by omega, fun m hm' hlt => ?_, fQ_tr ht hu.2.2⟩, by omega⟩
    by_cases z : m = n
    · subst z; exact Or.inr ⟨rfl, Nat.le_refl _⟩
    · rcases hm m hm' (by omega) with y | y <;> (left; omega)
  · exact h
  · intro g1 g2; exact ⟨h, g1.1⟩
  · intro g1 g2 t ht
    exact k _ t ⟨YN_y ⟨⟨g1.1, (pl_1 h (by have := g1.1; omega)).1 g1.2⟩, g2⟩ (YN_n (by omega) rfl), ht.2.2⟩
  · intro g1 g2 t ht
    rw [w32_of (by omega)]; omega
  · intro g1 g2 t ht
    have g : G := ⟨g1, g2, ht.1⟩
    have gm := gM g
    rw [wt (n := 117 + c) (by omega) (by omega), ht.2.2.1 417 (by decide), ← gm.2.1]
    exact ⟨1, M, rfl, rfl, rfl, g, by omega, gm.2.2.2.1, Or.inr rfl, Int.le_refl _, fun m hm hlt => by have := hm.1; omega, ht.2.2⟩
  · intro g1 g2
    exact k _ s ⟨YN_n (fun z => g2 z.2) rfl, fQ_rfl s⟩
  · intro g1
    exact k _ s ⟨YN_n (fun z => g1 ⟨z.1.1, (pl_1 h (by have := z.1.1; omega)).2 z.1.2⟩) rfl, fQ_rfl s⟩
