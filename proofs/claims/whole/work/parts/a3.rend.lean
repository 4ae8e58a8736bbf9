/-! rule() and day(): the reference -/
def fRV (s t : mSt) : Prop := (∀ b, b ≠ 407 → ¬ (409 ≤ b ∧ b ≤ 414) → t b = s b) ∧ (∀ j, ¬ (1 ≤ j ∧ j ≤ 2) → ¬ (8 ≤ j ∧ j ≤ 14) → j ≠ 16 → t 407 j = s 407 j) ∧ (∀ j, ¬ (400 * (s 407 2).toNat ≤ j ∧ j < 400 * (s 407 2).toNat + 400) → t 409 j = s 409 j) ∧ (∀ j, j ≠ (s 407 2).toNat → t 412 j = s 412 j) ∧ ∀ j, ¬ (48 * (s 407 2).toNat ≤ j ∧ j < 48 * (s 407 2).toNat + 48) → t 411 j = s 411 j
def ruP (s : mSt) : Int × List Int × List (Nat × Nat) := rlP (TR s) (nR s)
theorem v205 {X : (Nat → Int) × Nat} {d : Nat} {s : mSt} {Q : mQ}
  (z1 : ¬ (s 407 2) = 6 → 0 ≤ ((uS s 407 11 (s 407 2)) 407 11) ∧ ((uS s 407 11 (s 407 2)) 407 11) < 6)
  (z2 : ¬ (s 407 2) = 6 → ∀ t2 : mSt, t2 = uS (uS s 407 11 (s 407 2)) 412 (((uS s 407 11 (s 407 2)) 407 11).toNat) 0 → PAR t2)
  (z3 : ¬ (s 407 2) = 6 → ∀ t2 : mSt, t2 = uS (uS s 407 11 (s 407 2)) 412 (((uS s 407 11 (s 407 2)) 407 11).toNat) 0 → ∀ s3 : mSt, PBR t2 s3 → Q (some (mI (w32 (((uS s3 407 2 (w32 ((s3 407 2) + 1))) 407 2) - 1)))) (uS s3 407 2 (w32 ((s3 407 2) + 1))))
  (z4 : ¬ (s 407 2) = 6 → ∀ t2 : mSt, t2 = uS (uS s 407 11 (s 407 2)) 412 (((uS s 407 11 (s 407 2)) 407 11).toNat) 0 → ∀ s4 : mSt, PCR t2 s4 → Q (some (mI (w32 ((-2) - (s4 407 9))))) s4)
  (z5 : (s 407 2) = 6 → Q (some (mI (-1))) s) :
  Sp X (d + 12) 205 [mR 407] s Q := e205 (b205_0 (fun q1 => b205_11 (z1 q1) (Sp_gen (fun t2 e2 => (c204 (z2 q1 t2 e2) (fun s3 q3 => ⟨1, rfl, b205_33 (fun _ => b205_44 (z3 q1 t2 e2 s3 q3)) (fun q => absurd q (by decide))⟩) (fun s4 q4 => ⟨0, rfl, b205_33 (fun q => absurd q (by decide)) (fun _ => b205_36 (z4 q1 t2 e2 s4 q4))⟩))))) (fun q5 => b205_9 (z5 q5)))

theorem c205 {X : (Nat → Int) × Nat} {d : Nat} {s : mSt} {Q : mQ} (p1 : (∀ i, -128 ≤ s 408 i ∧ s 408 i < 128) ∧ (0 ≤ s 407 1 ∧ s 407 1 ≤ 400) ∧ (0 ≤ s 407 2 ∧ s 407 2 ≤ 6)) (k : ∀ (v : Int) (t : mSt), (YN (s 407 2 < 6) (YN ((ruP s).1 = 0) (v = s 407 2 ∧ t 407 2 = s 407 2 + 1 ∧ RuR t (s 407 2).toNat (ruP s).2 ∧ t 407 1 = 0 ∧ fRV s t) (v = -2 - (ruP s).1 ∧ t 407 2 = s 407 2 ∧ t 407 1 = 0 ∧ fRV s t)) (v = -1 ∧ t = s)) → Q (some (mI v)) t) : Sp X (d + 12) 205 [mR 407] s Q := by
  obtain ⟨hB, h1, h2⟩ := p1
  have st : ¬ s 407 2 = 6 → ∀ t : mSt, t = uS (uS s 407 11 (s 407 2)) 412 (((uS s 407 11 (s 407 2)) 407 11).toNat) 0 → PAR t ∧ (TR t = TR s ∧ nR t = nR s) ∧ (t 407 11 = s 407 2 ∧ t 407 2 = s 407 2) ∧ txR t = (s 407 2).toNat ∧ ∀ u, fRA t u → fRV s (u) := by
    intro hn t e
    have i11 : (uS s 407 11 (s 407 2)) 407 11 = s 407 2 := by rw [uS_at, if_pos rfl]
    rw [i11] at e
    have t7 : ∀ j, t 407 j = if j = 11 then s 407 2 else s 407 j := fun j => by rw [e, uS_cell (by decide), uS_at]
    have tx : txR t = (s 407 2).toNat := by unfold txR; rw [t7]; rfl
    have t8 : t 408 = s 408 := by rw [e, uS_cell (by decide), uS_cell (by decide)]
    refine ⟨⟨by rw [t8]; exact hB, by rw [t7]; exact h1, Or.inr ⟨by rw [t7]; show 0 ≤ s 407 2 ∧ s 407 2 < 6; omega, by rw [tx, e, uS_at, if_pos rfl]⟩⟩, ⟨by unfold TR; rw [t8], by unfold nR; rw [t7]; rfl⟩, ⟨by rw [t7]; rfl, by rw [t7]; rfl⟩, tx, fun u hu => ?_⟩
    obtain ⟨f1, f2, f3, f4, f5⟩ := hu
    rw [tx] at f3 f4 f5
    refine ⟨fun b a1 a2 => ?_, fun j g1 g2 g3 => ?_, fun j g => ?_, fun j g => ?_, fun j g => ?_⟩
    · rw [f1 b a1 a2, e, uS_cell (by omega), uS_cell a1]
    · rw [f2 j (by omega) (by omega) (by omega) g3, t7, if_neg (by omega)]
    · rw [f3 j g, e, uS_cell (by decide), uS_cell (by decide)]
    · rw [f4 j g, e, uS_at, if_neg g, uS_cell (by decide)]
    · rw [f5 j g, e, uS_cell (by decide), uS_cell (by decide)]
  refine v205 ?_ ?_ ?_ ?_ ?_
  · intro hn
    rw [uS_at, if_pos rfl]; omega
  · intro hn t e
    exact (st hn t e).1
  · rintro hn t e u ⟨⟨u1, u2⟩, _, u4⟩
    obtain ⟨q1, q2, q3, q4, q5⟩ := st hn t e
    obtain ⟨r1, r2⟩ := u4 (by rw [q3.1]; omega)
    rw [q2.1, q2.2] at r1 r2
    rw [q4] at r2
    have f := q5 u u2
    have u7 : u 407 2 = s 407 2 := by rw [u2.2.1 2 (by decide) (by decide) (by decide) (by decide)]; exact q3.2
    rw [u7, uS_at, if_pos rfl, w32_of (show -2147483648 ≤ s 407 2 + 1 ∧ s 407 2 + 1 < 2147483648 by omega), w32_of (by omega), show s 407 2 + 1 - 1 = s 407 2 by omega]
    refine k _ _ (YN_y (by omega) (YN_y r1 ⟨rfl, by rw [uS_at, if_pos rfl], ?_, by rw [uS_at, if_neg (by decide)]; exact u1, ?_⟩))
    · exact ⟨fun i hi => by rw [uS_cell (by decide)]; exact r2.1 i hi, EDr_c r2.2 (by rw [uS_cell (by decide)]) (by rw [uS_cell (by decide)])⟩
    · exact ⟨fun b a1 a2 => by rw [uS_cell a1]; exact f.1 b a1 a2, fun j g1 g2 g3 => by rw [uS_at, if_neg (by omega)]; exact f.2.1 j g1 g2 g3, fun j g => by rw [uS_cell (by decide)]; exact f.2.2.1 j g, fun j g => by rw [uS_cell (by decide)]; exact f.2.2.2.1 j g, fun j g => by rw [uS_cell (by decide)]; exact f.2.2.2.2 j g⟩
  · rintro hn t e u ⟨⟨u1, u2⟩, _, u4⟩
    obtain ⟨q1, q2, q3, q4, q5⟩ := st hn t e
    obtain ⟨r1, r2⟩ := u4 (by rw [q3.1]; omega)
    rw [q2.1, q2.2] at r1 r2
    have f := q5 u u2
    have u7 : u 407 2 = s 407 2 := by rw [u2.2.1 2 (by decide) (by decide) (by decide) (by decide)]; exact q3.2
    have b := rlP_b (TR s) (nR s)
    have n4 : nR s ≤ 400 := by unfold nR; omega
    rw [r2, w32_of (by omega)]
    exact k _ _ (YN_y (by omega) (YN_n r1 ⟨rfl, u7, u1, f⟩))
  · intro hn
    exact k _ _ (YN_n (by omega) ⟨rfl, rfl⟩)
def dyR (s : mSt) : Int × Rw := dyP (TR s) (nR s)
def fRY (s t : mSt) : Prop := (∀ b, b ≠ 407 → b ≠ 417 → ¬ (409 ≤ b ∧ b ≤ 414) → t b = s b) ∧ (∀ j, j ≠ 1 → ¬ (8 ≤ j ∧ j ≤ 14) → j ≠ 16 → j ≠ 37 → t 407 j = s 407 j) ∧ (∀ j, j < 2400 → t 409 j = s 409 j) ∧ (∀ j, j < 6 → t 412 j = s 412 j) ∧ ∀ j, j < 288 → t 411 j = s 411 j
theorem v206 {X : (Nat → Int) × Nat} {d : Nat} {s : mSt} {Q : mQ}
  (I8 : Int → mSt → Prop) (m8 : Int → mSt → Nat)
  (I45 : Int → mSt → Prop) (m45 : Int → mSt → Nat)
  (z1 : ∀ y1 : Int, ∀ s : mSt, I8 y1 s → 135 ≤ y1 → PAR s)
  (z2 : ∀ y1 : Int, ∀ s : mSt, I8 y1 s → 135 ≤ y1 → ∀ s2 : mSt, PBR s s2 → I45 0 s2 ∧ m45 0 s2 < m8 y1 s)
  (z3 : ∀ y1 : Int, ∀ s : mSt, I8 y1 s → 135 ≤ y1 → ∀ s3 : mSt, PCR s s3 → Q (some (mI (w32 ((-2) - (s3 407 9))))) s3)
  (z4 : ∀ y1 : Int, ∀ s : mSt, I8 y1 s → ¬ 135 ≤ y1 → 0 ≤ y1 ∧ y1 < 135)
  (z5 : ∀ y1 : Int, ∀ s : mSt, I8 y1 s → ¬ 135 ≤ y1 → I8 (w32 (y1 + 1)) (uS s 413 y1.toNat 0) ∧ m8 (w32 (y1 + 1)) (uS s 413 y1.toNat 0) < m8 y1 s)
  (z6 : ∀ y1 : Int, ∀ s : mSt, I45 y1 s → 166 ≤ y1 → ∀ t6 : mSt, t6 = uR s (anew (s 417)) → Q (some (mI ((uS t6 407 37 0) 417 4))) (uS t6 407 37 0))
  (z7 : ∀ y1 : Int, ∀ s : mSt, I45 y1 s → ¬ 166 ≤ y1 → 135 ≤ y1 → 0 ≤ y1 ∧ y1 < 166)
  (z8 : ∀ y1 : Int, ∀ s : mSt, I45 y1 s → ¬ 166 ≤ y1 → 135 ≤ y1 → I45 (w32 (y1 + 1)) (uS s 417 y1.toNat 0) ∧ m45 (w32 (y1 + 1)) (uS s 417 y1.toNat 0) < m45 y1 s)
  (z9 : ∀ y1 : Int, ∀ s : mSt, I45 y1 s → ¬ 166 ≤ y1 → ¬ 135 ≤ y1 → 0 ≤ y1 ∧ y1 < 135)
  (z10 : ∀ y1 : Int, ∀ s : mSt, I45 y1 s → ¬ 166 ≤ y1 → ¬ 135 ≤ y1 → 0 ≤ y1 ∧ y1 < 166)
  (z11 : ∀ y1 : Int, ∀ s : mSt, I45 y1 s → ¬ 166 ≤ y1 → ¬ 135 ≤ y1 → I45 (w32 (y1 + 1)) (uS s 417 y1.toNat (s 413 y1.toNat)) ∧ m45 (w32 (y1 + 1)) (uS s 417 y1.toNat (s 413 y1.toNat)) < m45 y1 s)
  (z12 : I8 0 (uS s 407 11 6)) :
  Sp X (d + 12) 206 [mR 407] s Q := by
  have L : ∀ k : Nat, (∀ (y1 : Int) (s : mSt), I8 y1 s → m8 y1 s < k → Wp X (d + 12) 206 8 [some (mR 407), some (mI y1)] [] s Q) ∧ (∀ (y1 : Int) (s : mSt), I45 y1 s → m45 y1 s < k → Wp X (d + 12) 206 45 [some (mR 407), some (mI y1)] [] s Q) := by
    intro k
    induction k with
    | zero => exact ⟨fun _ _ _ h => absurd h (Nat.not_lt_zero _), fun _ _ _ h => absurd h (Nat.not_lt_zero _)⟩
    | succ k ih => exact ⟨fun y1 s hI hm => b206_8 (fun q1 => b206_28 (c204 (z1 y1 s hI q1) (fun s2 q2 => ⟨1, rfl, b206_32 (fun _ => b206_43 (ih.2 0 s2 (z2 y1 s hI q1 s2 q2).1 (Nat.lt_of_lt_of_le (z2 y1 s hI q1 s2 q2).2 (Nat.le_of_lt_succ hm)))) (fun q => absurd q (by decide))⟩) (fun s3 q3 => ⟨0, rfl, b206_32 (fun q => absurd q (by decide)) (fun _ => b206_35 (z3 y1 s hI q1 s3 q3))⟩))) (fun q4 => b206_15 (z4 y1 s hI q4) (ih.1 (w32 (y1 + 1)) (uS s 413 y1.toNat 0) (z5 y1 s hI q4).1 (Nat.lt_of_lt_of_le (z5 y1 s hI q4).2 (Nat.le_of_lt_succ hm)))), fun y1 s hI hm => b206_45 (fun q5 => b206_81 (c227  ⟨rfl, Wp_gen (fun t6 e6 => b206_85 (z6 y1 s hI q5 t6 e6))⟩)) (fun q7 => b206_52 (fun q8 => b206_73 (b206_74 (z7 y1 s hI q7 q8) (ih.2 (w32 (y1 + 1)) (uS s 417 y1.toNat 0) (z8 y1 s hI q7 q8).1 (Nat.lt_of_lt_of_le (z8 y1 s hI q7 q8).2 (Nat.le_of_lt_succ hm))))) (fun q9 => b206_64 (z9 y1 s hI q7 q9) (b206_74 (z10 y1 s hI q7 q9) (ih.2 (w32 (y1 + 1)) (uS s 417 y1.toNat (s 413 y1.toNat)) (z11 y1 s hI q7 q9).1 (Nat.lt_of_lt_of_le (z11 y1 s hI q7 q9).2 (Nat.le_of_lt_succ hm))))))⟩
  exact e206 (b206_0 ((L (m8 0 (uS s 407 11 6) + 1)).1 0 (uS s 407 11 6) z12 (Nat.lt_succ_self _)))

theorem anew_q {a b : Rw} (h : ∀ j, j < 166 → a j = b j) {j : Nat} (hj : j < 166) : anew a j = anew b j := by
  unfold anew anK
  by_cases z1 : j = 5
  · rw [if_pos z1, if_pos z1]
  · rw [if_neg z1, if_neg z1]
    by_cases z2 : 6 ≤ j ∧ j < 6 + 5
    · rw [if_pos z2, if_pos z2]; exact h _ (by omega)
    · rw [if_neg z2, if_neg z2]
      by_cases z3 : 11 ≤ j ∧ j < 11 + 30
      · rw [if_pos z3, if_pos z3]; exact h _ (by omega)
      · rw [if_neg z3, if_neg z3]
        by_cases z4 : 41 ≤ j ∧ j < 41 + 6
        · rw [if_pos z4, if_pos z4]
        · rw [if_neg z4, if_neg z4]
          by_cases z5 : 47 ≤ j ∧ j < 47 + 30
          · rw [if_pos z5, if_pos z5]
          · rw [if_neg z5, if_neg z5]; exact h _ hj
theorem c206 {X : (Nat → Int) × Nat} {d : Nat} {s : mSt} {Q : mQ} (p1 : (∀ i, -128 ≤ s 408 i ∧ s 408 i < 128) ∧ (0 ≤ s 407 1 ∧ s 407 1 ≤ 400)) (k : ∀ (v : Int) (t : mSt), (YN ((dyR s).1 = 0) (v = (dyR s).2 4 ∧ (∀ j, j < 166 → t 417 j = anew (dyR s).2 j) ∧ t 407 37 = 0) (v = -2 - (dyR s).1 ∧ t 417 = s 417 ∧ t 407 37 = s 407 37) ∧ t 407 1 = 0 ∧ fRY s t) → Q (some (mI v)) t) : Sp X (d + 12) 206 [mR 407] s Q := by
  obtain ⟨hB, h1⟩ := p1
  let s0 := uS s 407 11 6
  have s07 : ∀ j, s0 407 j = if j = 11 then 6 else s 407 j := fun j => uS_at s 407 11 6 j
  have s0b : ∀ b, b ≠ 407 → s0 b = s b := fun b hb => uS_cell hb
  let I8 : Int → mSt → Prop := fun y t => ∃ n : Nat, y = (n : Int) ∧ n ≤ 135 ∧ (∀ b, b ≠ 413 → t b = s0 b) ∧ ∀ j, j < n → t 413 j = 0
  let I45 : Int → mSt → Prop := fun y t => ∃ n : Nat, y = (n : Int) ∧ n ≤ 166 ∧ (dyR s).1 = 0 ∧ t 407 1 = 0 ∧ fRY s t ∧ t 407 37 = s 407 37 ∧ (∀ j, j < 135 → t 413 j = (dyR s).2 j) ∧ ∀ j, j < n → t 417 j = (dyR s).2 j
  have A : ∀ t, (∀ b, b ≠ 413 → t b = s0 b) → (TR t = TR s ∧ nR t = nR s) ∧ t 407 11 = 6 ∧ t 408 = s 408 ∧ t 407 1 = s 407 1 ∧ ∀ u, fRA t u → fRY s u ∧ u 417 = s 417 ∧ u 407 37 = s 407 37 := fun t h => by
    have t7 : ∀ j, t 407 j = if j = 11 then 6 else s 407 j := fun j => by rw [h 407 (by decide)]; exact s07 j
    have t8 : t 408 = s 408 := by rw [h 408 (by decide)]; exact s0b 408 (by decide)
    have tx : txR t = 6 := by unfold txR; rw [t7]; rfl
    refine ⟨⟨by unfold TR; rw [t8], by unfold nR; rw [t7]; rfl⟩, by rw [t7]; rfl, t8, by rw [t7]; rfl, fun u hu => ?_⟩
    obtain ⟨f1, f2, f3, f4, f5⟩ := hu
    rw [tx] at f3 f4 f5
    refine ⟨⟨fun b a1 a2 a3 => by rw [f1 b a1 a3, h b (by omega), s0b b a1], fun j g0 g1 g2 g3 => by rw [f2 j g0 (by omega) (by omega) g2, t7, if_neg (by omega)], fun j hj => by rw [f3 j (by omega), h 409 (by decide), s0b 409 (by decide)], fun j hj => by rw [f4 j (by omega), h 412 (by decide), s0b 412 (by decide)], fun j hj => by rw [f5 j (by omega), h 411 (by decide), s0b 411 (by decide)]⟩, by rw [f1 417 (by decide) (by decide), h 417 (by decide), s0b 417 (by decide)], by rw [f2 37 (by decide) (by decide) (by decide) (by decide), t7]; rfl⟩
  refine v206 I8 (fun y _ => (400 - y).toNat) I45 (fun y _ => (200 - y).toNat) ?_ ?_ ?_ ?_ ?_ ?_ ?_ ?_ ?_ ?_ ?_ ?_
  · rintro y t ⟨n, rfl, hn, hf, hz⟩ hy
    have a := A t hf
    exact ⟨by rw [a.2.2.1]; exact hB, by rw [a.2.2.2.1]; exact h1, Or.inl ⟨a.2.1, fun j hj => hz j (by omega)⟩⟩
  · rintro y t ⟨n, rfl, hn, hf, hz⟩ hy u ⟨⟨u1, u2⟩, u3, _⟩
    have a := A t hf
    have q := u3 a.2.1
    rw [a.1.1, a.1.2] at q
    have f := a.2.2.2.2 u u2
    exact ⟨⟨0, rfl, by decide, q.1, u1, f.1, f.2.2, q.2, fun j hj => absurd hj (Nat.not_lt_zero j)⟩, by show (200 - 0 : Int).toNat < (400 - (n : Int)).toNat; omega⟩
  · rintro y t ⟨n, rfl, hn, hf, hz⟩ hy u ⟨⟨u1, u2⟩, u3, _⟩
    have a := A t hf
    have q := u3 a.2.1
    rw [a.1.1, a.1.2] at q
    have f := a.2.2.2.2 u u2
    have b := dyP_b (TR s) (nR s)
    have n4 : nR s ≤ 400 := by unfold nR; omega
    rw [q.2, w32_of (by omega)]
    exact k _ _ ⟨YN_n q.1 ⟨rfl, f.2.1, f.2.2⟩, u1, f.1⟩
  · rintro y t ⟨n, rfl, hn, hf, hz⟩ hy
    omega
  · rintro y t ⟨n, rfl, hn, hf, hz⟩ hy
    rw [w32_of (by omega), tnc]
    refine ⟨⟨n + 1, by omega, by omega, fun b hb => by rw [uS_cell hb]; exact hf b hb, fun j hj => ?_⟩, by show (400 - ((n : Int) + 1)).toNat < (400 - (n : Int)).toNat; omega⟩
    rw [uS_at]
    by_cases z : j = n
    · rw [if_pos z]
    · rw [if_neg z]; exact hz j (by omega)
  · rintro y t ⟨n, rfl, hn, hd, ht1, hf, h37, h13, hz⟩ hy u e
    have uc : u 417 = anew (t 417) ∧ (∀ b, b ≠ 417 → u b = t b) := by
      rw [e]; exact ⟨uC_at .., fun b hb => uC_ne hb⟩
    have lw := (LW_dp hd).1
    have e417 : ∀ j, j < 166 → u 417 j = anew (dyR s).2 j := fun j hj => by
      rw [uc.1]
      exact anew_q (fun i hi => hz i (by omega)) hj
    have w417 : (uS u 407 37 0) 417 = u 417 := uS_cell (by decide)
    have w7 : ∀ j, (uS u 407 37 0) 407 j = if j = 37 then 0 else t 407 j := fun j => by rw [uS_at, uc.2 407 (by decide)]
    have a4 : (uS u 407 37 0) 417 4 = (dyR s).2 4 := by rw [w417, e417 4 (by decide), anew_o (by decide)]
    rw [a4]
    refine k _ _ ⟨YN_y hd ⟨rfl, fun j hj => by rw [w417]; exact e417 j hj, by rw [w7]; rfl⟩, by rw [w7]; exact ht1, ?_⟩
    exact ⟨fun b a1 a2 a3 => by rw [uS_cell a1, uc.2 b a2]; exact hf.1 b a1 a2 a3, fun j g0 g1 g2 g3 => by rw [w7, if_neg g3]; exact hf.2.1 j g0 g1 g2 g3, fun j hj => by rw [uS_cell (by decide), uc.2 409 (by decide)]; exact hf.2.2.1 j hj, fun j hj => by rw [uS_cell (by decide), uc.2 412 (by decide)]; exact hf.2.2.2.1 j hj, fun j hj => by rw [uS_cell (by decide), uc.2 411 (by decide)]; exact hf.2.2.2.2 j hj⟩
  · rintro y t ⟨n, rfl, hn, hd, ht1, hf, h37, h13, hz⟩ hy hy2
    omega
  · rintro y t ⟨n, rfl, hn, hd, ht1, hf, h37, h13, hz⟩ hy hy2
    rw [w32_of (by omega), tnc]
    refine ⟨⟨n + 1, by omega, by omega, hd, by rw [uS_cell (by decide)]; exact ht1, ?_, by rw [uS_cell (by decide)]; exact h37, fun j hj => by rw [uS_cell (by decide)]; exact h13 j hj, fun j hj => ?_⟩, by show (200 - ((n : Int) + 1)).toNat < (200 - (n : Int)).toNat; omega⟩
    · exact ⟨fun b a1 a2 a3 => by rw [uS_cell a2]; exact hf.1 b a1 a2 a3, fun j g0 g1 g2 g3 => by rw [uS_cell (by decide)]; exact hf.2.1 j g0 g1 g2 g3, fun j hj => by rw [uS_cell (by decide)]; exact hf.2.2.1 j hj, fun j hj => by rw [uS_cell (by decide)]; exact hf.2.2.2.1 j hj, fun j hj => by rw [uS_cell (by decide)]; exact hf.2.2.2.2 j hj⟩
    · rw [uS_at]
      by_cases z : j = n
      · rw [if_pos z, z]
        exact ((LW_dp hd).1.2.1 n (Or.inr (by omega))).symm
      · rw [if_neg z]; exact hz j (by omega)
  · rintro y t ⟨n, rfl, hn, hd, ht1, hf, h37, h13, hz⟩ hy hy2
    omega
  · rintro y t ⟨n, rfl, hn, hd, ht1, hf, h37, h13, hz⟩ hy hy2
    omega
  · rintro y t ⟨n, rfl, hn, hd, ht1, hf, h37, h13, hz⟩ hy hy2
    rw [w32_of (by omega), tnc]
    refine ⟨⟨n + 1, by omega, by omega, hd, by rw [uS_cell (by decide)]; exact ht1, ?_, by rw [uS_cell (by decide)]; exact h37, fun j hj => by rw [uS_cell (by decide)]; exact h13 j hj, fun j hj => ?_⟩, by show (200 - ((n : Int) + 1)).toNat < (200 - (n : Int)).toNat; omega⟩
    · exact ⟨fun b a1 a2 a3 => by rw [uS_cell a2]; exact hf.1 b a1 a2 a3, fun j g0 g1 g2 g3 => by rw [uS_cell (by decide)]; exact hf.2.1 j g0 g1 g2 g3, fun j hj => by rw [uS_cell (by decide)]; exact hf.2.2.1 j hj, fun j hj => by rw [uS_cell (by decide)]; exact hf.2.2.2.1 j hj, fun j hj => by rw [uS_cell (by decide)]; exact hf.2.2.2.2 j hj⟩
    · rw [uS_at]
      by_cases z : j = n
      · rw [if_pos z, z]; exact h13 n (by omega)
      · rw [if_neg z]; exact hz j (by omega)
  · exact ⟨0, rfl, by decide, fun b _ => rfl, fun j hj => absurd hj (Nat.not_lt_zero j)⟩
