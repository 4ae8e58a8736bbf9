/-! the class keeps what was, to undo -/
def pst (s : mSt) (i : Nat) : Nat := (s 33 i).toNat
def PPp (s : mSt) : Prop := (∀ i, i < 20 → 207 ≤ s 33 i ∧ s 33 i < 407 ∧ (s 33 i).toNat % 10 = 7) ∧ ∀ i j, i < 20 → j < 20 → i ≠ j → s 33 i ≠ s 33 j
def PPq (s : mSt) : Prop := (0 ≤ s 0 8 ∧ s 0 8 ≤ 20) ∧ PPp s ∧ ∀ i, i < (s 0 8).toNat → BI s (pst s i)
theorem past_bd {k : Nat} (h1 : 207 ≤ k) (h2 : k < 407) (h3 : k % 10 = 7) : isBd k :=
  (show ∀ k : Fin 407, 207 ≤ k.val → k.val % 10 = 7 → k.val ∈ bdL by decide +kernel) ⟨k, h2⟩ h1 h3
theorem pp_bd {s : mSt} (h : PPp s) {i : Nat} (hi : i < 20) : isBd (pst s i) ∧ (207 ≤ pst s i ∧ pst s i < 407 ∧ pst s i % 10 = 7) ∧ s 33 i = (pst s i : Int) := by
  have q := h.1 i hi
  have e : s 33 i = (pst s i : Int) := by unfold pst; omega
  have b : 207 ≤ pst s i ∧ pst s i < 407 ∧ pst s i % 10 = 7 := ⟨by omega, by omega, q.2.2⟩
  exact ⟨past_bd b.1 b.2.1 b.2.2, b, e⟩
theorem pp_ne {s : mSt} (h : PPp s) {i j : Nat} (hi : i < 20) (hj : j < 20) (hn : i ≠ j) : pst s i + 9 < pst s j ∨ pst s j + 9 < pst s i := by
  have q1 := pp_bd h hi
  have q2 := pp_bd h hj
  have := h.2 i j hi hj hn
  omega
def pshB (s : mSt) (i : Nat) : Rw := if s 0 8 = 20 then (if i < 19 then brow s (pst s (i + 1)) else brow s 18) else if i < (s 0 8).toNat then brow s (pst s i) else brow s 18
def RMq (s t : mSt) : Prop := t 0 = up (s 0) 8 (if s 0 8 = 20 then 20 else s 0 8 + 1) ∧ PPq t ∧ (∀ i, i < (t 0 8).toNat → brow t (pst t i) = pshB s i) ∧ ∀ b, b ≠ 0 → b ≠ 33 → (b < 207 ∨ 407 ≤ b) → t b = s b
theorem rm_fin {u v : mSt} {n : Nat} (h : PPq u) (hn : u 0 8 = n) (n20 : n < 20) (hv : BI v (pst u n) ∧ brow v (pst u n) = brow u 18 ∧ fB u v (pst u n)) :
    PPq (uS v 0 8 (w32 (v 0 8 + 1))) ∧ uS v 0 8 (w32 (v 0 8 + 1)) 0 = up (u 0) 8 ((n : Int) + 1) ∧ (∀ i, i < n + 1 → brow (uS v 0 8 (w32 (v 0 8 + 1))) (pst u i) = if i < n then brow u (pst u i) else brow u 18) ∧ uS v 0 8 (w32 (v 0 8 + 1)) 33 = u 33 ∧ ∀ b, b ≠ 0 → (b < 207 ∨ 407 ≤ b) → uS v 0 8 (w32 (v 0 8 + 1)) b = u b := by
  have bn := pp_bd h.2.1 n20
  have v0 : v 0 = u 0 := hv.2.2 0 (by omega)
  rw [v0, hn, w32_of (by omega)]
  have c33 : uS v 0 8 ((n : Int) + 1) 33 = u 33 := by rw [uS_cell (by decide)]; exact hv.2.2 33 (by omega)
  have cp : ∀ i, pst (uS v 0 8 ((n : Int) + 1)) i = pst u i := fun i => by unfold pst; rw [c33]
  have c08 : uS v 0 8 ((n : Int) + 1) 0 8 = (n : Int) + 1 := by rw [uS_at, if_pos rfl]
  have bo : ∀ i, i < n + 1 → BI (uS v 0 8 ((n : Int) + 1)) (pst u i) ∧ brow (uS v 0 8 ((n : Int) + 1)) (pst u i) = if i < n then brow u (pst u i) else brow u 18 := fun i hi => by
    have bi := pp_bd h.2.1 (i := i) (by omega)
    by_cases z : i = n
    · subst z
      rw [if_neg (by omega), ← hv.2.1]
      exact BI_cells hv.1 (fun x hx => uS_cell (by omega)) (uS_cell (by decide))
    · have ne := pp_ne h.2.1 (i := i) (j := n) (by omega) n20 z
      rw [if_pos (by omega)]
      exact BI_cells (h.2.2 i (by omega)) (fun x hx => by rw [uS_cell (by omega)]; exact hv.2.2 x (by omega)) (by rw [uS_cell (by decide)]; exact hv.2.2 417 (by omega))
  refine ⟨⟨?_, ?_, fun i hi => ?_⟩, ?_, fun i hi => (bo i hi).2, c33, fun b h1 h2 => ?_⟩
  · rw [c08]; omega
  · have := h.2.1; unfold PPp at this ⊢; rw [c33]; exact this
  · rw [c08] at hi; rw [cp]; exact (bo i (by omega)).1
  · funext i; rw [uS_at, v0]; rfl
  · rw [uS_cell h1]; exact hv.2.2 b (by omega)
theorem v165 {X : (Nat → Int) × Nat} {d : Nat} {s : mSt} {Q : mQ}
  (I18 : Nat → Int → mSt → Prop) (m18 : Nat → Int → mSt → Nat)
  (z1 : ∀ b1 : Nat, isBd b1 → ∀ y2 : Int, ∀ s : mSt, I18 b1 y2 s → 20 ≤ y2 → ∀ t2 : mSt, t2 = uS (uS s 33 19 (b1 : Nat)) 0 8 19 → isBd (t2 33 (t2 0 8).toNat).toNat)
  (z2 : ∀ b1 : Nat, isBd b1 → ∀ y2 : Int, ∀ s : mSt, I18 b1 y2 s → 20 ≤ y2 → ∀ t2 : mSt, t2 = uS (uS s 33 19 (b1 : Nat)) 0 8 19 → 0 ≤ (t2 0 8) ∧ (t2 0 8) < 20)
  (z3 : ∀ b1 : Nat, isBd b1 → ∀ y2 : Int, ∀ s : mSt, I18 b1 y2 s → 20 ≤ y2 → ∀ t2 : mSt, t2 = uS (uS s 33 19 (b1 : Nat)) 0 8 19 → t2 33 (t2 0 8).toNat = (((t2 33 (t2 0 8).toNat).toNat : Nat) : Int))
  (z4 : ∀ b1 : Nat, isBd b1 → ∀ y2 : Int, ∀ s : mSt, I18 b1 y2 s → 20 ≤ y2 → ∀ t2 : mSt, t2 = uS (uS s 33 19 (b1 : Nat)) 0 8 19 → ((t2 33 (t2 0 8).toNat).toNat) ≠ 18 ∧ BI t2 18)
  (z5 : ∀ b1 : Nat, isBd b1 → ∀ y2 : Int, ∀ s : mSt, I18 b1 y2 s → 20 ≤ y2 → ∀ t2 : mSt, t2 = uS (uS s 33 19 (b1 : Nat)) 0 8 19 → ∀ s3 : mSt, (BI s3 ((t2 33 (t2 0 8).toNat).toNat) ∧ brow s3 ((t2 33 (t2 0 8).toNat).toNat) = brow t2 18 ∧ fB t2 s3 ((t2 33 (t2 0 8).toNat).toNat)) → Q none (uS s3 0 8 (w32 ((s3 0 8) + 1))))
  (z6 : ∀ b1 : Nat, isBd b1 → ∀ y2 : Int, ∀ s : mSt, I18 b1 y2 s → ¬ 20 ≤ y2 → isBd (s 33 y2.toNat).toNat)
  (z7 : ∀ b1 : Nat, isBd b1 → ∀ y2 : Int, ∀ s : mSt, I18 b1 y2 s → ¬ 20 ≤ y2 → 0 ≤ y2 ∧ y2 < 20)
  (z8 : ∀ b1 : Nat, isBd b1 → ∀ y2 : Int, ∀ s : mSt, I18 b1 y2 s → ¬ 20 ≤ y2 → s 33 y2.toNat = (((s 33 y2.toNat).toNat : Nat) : Int))
  (z9 : ∀ b1 : Nat, isBd b1 → ∀ y2 : Int, ∀ s : mSt, I18 b1 y2 s → ¬ 20 ≤ y2 → 0 ≤ (w32 (y2 - 1)) ∧ (w32 (y2 - 1)) < 20)
  (z10 : ∀ b1 : Nat, isBd b1 → ∀ y2 : Int, ∀ s : mSt, I18 b1 y2 s → ¬ 20 ≤ y2 → I18 b1 (w32 (y2 + 1)) (uS s 33 ((w32 (y2 - 1)).toNat) ((s 33 y2.toNat).toNat : Nat)) ∧ m18 b1 (w32 (y2 + 1)) (uS s 33 ((w32 (y2 - 1)).toNat) ((s 33 y2.toNat).toNat : Nat)) < m18 b1 y2 s)
  (z11 : (s 0 8) < 20 → isBd (s 33 (s 0 8).toNat).toNat)
  (z12 : (s 0 8) < 20 → 0 ≤ (s 0 8) ∧ (s 0 8) < 20)
  (z13 : (s 0 8) < 20 → s 33 (s 0 8).toNat = (((s 33 (s 0 8).toNat).toNat : Nat) : Int))
  (z14 : (s 0 8) < 20 → ((s 33 (s 0 8).toNat).toNat) ≠ 18 ∧ BI s 18)
  (z15 : (s 0 8) < 20 → ∀ s6 : mSt, (BI s6 ((s 33 (s 0 8).toNat).toNat) ∧ brow s6 ((s 33 (s 0 8).toNat).toNat) = brow s 18 ∧ fB s s6 ((s 33 (s 0 8).toNat).toNat)) → Q none (uS s6 0 8 (w32 ((s6 0 8) + 1))))
  (z16 : ¬ (s 0 8) < 20 → isBd (s 33 0).toNat)
  (z17 : ¬ (s 0 8) < 20 → s 33 0 = (((s 33 0).toNat : Nat) : Int))
  (z18 : ¬ (s 0 8) < 20 → I18 ((s 33 0).toNat) 1 s) :
  Sp X (d + 2) 165 [mR 0] s Q := by
  have L : ∀ k : Nat, (∀ (b1 : Nat) (hb1 : isBd b1) (y2 : Int) (s : mSt), I18 b1 y2 s → m18 b1 y2 s < k → Wp X (d + 2) 165 18 [some (mR 0), some (mR b1), some (mI y2)] [] s Q) := by
    intro k
    induction k with
    | zero => exact fun _ _ _ _ _ h => absurd h (Nat.not_lt_zero _)
    | succ k ih => exact fun b1 hb1 y2 s hI hm => b165_18 hb1 (fun q1 => b165_44 hb1 (Wp_gen (fun t2 e2 => b165_58 (r1 := (t2 33 (t2 0 8).toNat).toNat) (z1 b1 hb1 y2 s hI q1 t2 e2) (z2 b1 hb1 y2 s hI q1 t2 e2) (z3 b1 hb1 y2 s hI q1 t2 e2) (c3 (z1 b1 hb1 y2 s hI q1 t2 e2) (bdm rfl) (z4 b1 hb1 y2 s hI q1 t2 e2) (fun s3 q3 => ⟨rfl, b165_77 (z5 b1 hb1 y2 s hI q1 t2 e2 s3 q3)⟩))))) (fun q4 => b165_24 (r1 := (s 33 y2.toNat).toNat) hb1 (z6 b1 hb1 y2 s hI q4) (z7 b1 hb1 y2 s hI q4) (z8 b1 hb1 y2 s hI q4) (z9 b1 hb1 y2 s hI q4) (ih b1 hb1 (w32 (y2 + 1)) (uS s 33 ((w32 (y2 - 1)).toNat) ((s 33 y2.toNat).toNat : Nat)) (z10 b1 hb1 y2 s hI q4).1 (Nat.lt_of_lt_of_le (z10 b1 hb1 y2 s hI q4).2 (Nat.le_of_lt_succ hm))))
  exact e165 (b165_0 (fun q5 => b165_58 (r1 := (s 33 (s 0 8).toNat).toNat) (z11 q5) (z12 q5) (z13 q5) (c3 (z11 q5) (bdm rfl) (z14 q5) (fun s6 q6 => ⟨rfl, b165_77 (z15 q5 s6 q6)⟩))) (fun q7 => b165_9 (r1 := (s 33 0).toNat) (z16 q7) (z17 q7) ((L (m18 ((s 33 0).toNat) 1 s + 1)) ((s 33 0).toNat) (z16 q7) 1 s (z18 q7) (Nat.lt_succ_self _))))

theorem c165 {X : (Nat → Int) × Nat} {d : Nat} {s : mSt} {Q : mQ} (p1 : PPq s ∧ BI s 18) (k : ∀ t : mSt, (RMq s t) → Q none t) : Sp X (d + 2) 165 [mR 0] s Q := by
  obtain ⟨h, hB⟩ := p1
  have hn := h.1
  have rot : ∀ t : mSt, s 0 8 = 20 → (∀ i, t 33 i = if i < 19 then s 33 (i + 1) else s 33 i) → (∀ b, b ≠ 33 → t b = s b) → ∀ t2 : mSt, t2 = uS (uS t 33 19 ((pst s 0 : Nat) : Int)) 0 8 19 →
      PPq t2 ∧ t2 0 8 = 19 ∧ t2 0 = up (s 0) 8 19 ∧ (∀ i, i < 20 → pst t2 i = pst s (if i < 19 then i + 1 else 0)) ∧ (∀ b, b ≠ 0 → b ≠ 33 → t2 b = s b) := fun t e20 e ht t2 e2 => by
    have p0 := pp_bd h.2.1 (i := 0) (by decide)
    have c33 : ∀ i, i < 20 → t2 33 i = s 33 (if i < 19 then i + 1 else 0) := fun i hi => by
      rw [e2, uS_cell (by decide), uS_at]
      by_cases z : i = 19
      · rw [if_pos z, if_neg (by omega)]; exact p0.2.2.symm
      · rw [if_neg z, e, if_pos (by omega), if_pos (by omega)]
    have cp : ∀ i, i < 20 → pst t2 i = pst s (if i < 19 then i + 1 else 0) := fun i hi => by unfold pst; rw [c33 i hi]
    have c0 : t2 0 = up (s 0) 8 19 := by rw [e2]; funext i; rw [uS_at, uS_cell (by decide), ht 0 (by decide)]; rfl
    have c08 : t2 0 8 = 19 := by rw [c0]; rfl
    have cb : ∀ b, b ≠ 0 → b ≠ 33 → t2 b = s b := fun b h1 h2 => by rw [e2, uS_cell h1, uS_cell h2]; exact ht b h2
    have lt : ∀ i, i < 20 → (if i < 19 then i + 1 else 0) < 20 := fun i hi => by split <;> omega
    refine ⟨⟨by omega, ⟨fun i hi => ?_, fun i j hi hj hij => ?_⟩, fun i hi => ?_⟩, c08, c0, cp, cb⟩
    · rw [c33 i hi]; exact h.2.1.1 _ (lt i hi)
    · rw [c33 i hi, c33 j hj]; exact h.2.1.2 _ _ (lt i hi) (lt j hj) (by split <;> split <;> omega)
    · rw [c08] at hi
      rw [cp i (by omega), if_pos (by omega)]
      have bb := pp_bd h.2.1 (i := i + 1) (by omega)
      exact (BI_cells (h.2.2 (i + 1) (by omega)) (fun x hx => cb x (by omega) (by omega)) (cb 417 (by decide) (by decide))).1
  refine v165 (fun b1 y t => ∃ j : Nat, y = j + 1 ∧ j ≤ 19 ∧ s 0 8 = 20 ∧ b1 = pst s 0 ∧ (∀ i, t 33 i = if i < j then s 33 (i + 1) else s 33 i) ∧ ∀ b, b ≠ 33 → t b = s b) (fun _ y _ => (21 - y).toNat) ?_ ?_ ?_ ?_ ?_ ?_ ?_ ?_ ?_ ?_ ?_ ?_ ?_ ?_ ?_ ?_ ?_ ?_
  · rintro _ _ _ t ⟨j, rfl, hj, e20, rfl, e, ht⟩ hc t2 e2
    have : j = 19 := by omega
    subst this
    have r := rot t e20 e ht t2 e2
    rw [r.2.1]; exact (pp_bd r.1.2.1 (i := 19) (by decide)).1
  · rintro _ _ _ t ⟨j, rfl, hj, e20, rfl, e, ht⟩ hc t2 e2
    have : j = 19 := by omega
    subst this
    have r := rot t e20 e ht t2 e2
    rw [r.2.1]; omega
  · rintro _ _ _ t ⟨j, rfl, hj, e20, rfl, e, ht⟩ hc t2 e2
    have : j = 19 := by omega
    subst this
    have r := rot t e20 e ht t2 e2
    rw [r.2.1]; exact (pp_bd r.1.2.1 (i := 19) (by decide)).2.2
  · rintro _ _ _ t ⟨j, rfl, hj, e20, rfl, e, ht⟩ hc t2 e2
    have : j = 19 := by omega
    subst this
    have r := rot t e20 e ht t2 e2
    have bb := (pp_bd r.1.2.1 (i := 19) (by decide)).2.1
    rw [r.2.1]
    refine ⟨fun z => ?_, (BI_cells hB (fun x hx => r.2.2.2.2 x (by omega) (by omega)) (r.2.2.2.2 417 (by decide) (by decide))).1⟩
    have z' : pst t2 19 = 18 := z
    omega
  · rintro _ _ _ t ⟨j, rfl, hj, e20, rfl, e, ht⟩ hc t2 e2 v hv
    have : j = 19 := by omega
    subst this
    have r := rot t e20 e ht t2 e2
    rw [r.2.1] at hv
    have f := rm_fin (n := 19) r.1 r.2.1 (by decide) hv
    have w8 := (BI_cells hB (fun x hx => r.2.2.2.2 x (by omega) (by omega)) (r.2.2.2.2 417 (by decide) (by decide))).2
    refine k _ ⟨?_, f.1, fun i hi => ?_, fun b h1 h2 h3 => ?_⟩
    · rw [f.2.1, r.2.2.1, if_pos e20]
      funext i; unfold up
      by_cases z : i = 8
      · rw [if_pos z, if_pos z]; rfl
      · rw [if_neg z, if_neg z, if_neg z]
    · have c8 : uS v 0 8 (w32 (v 0 8 + 1)) 0 8 = 20 := by rw [f.2.1]; rfl
      rw [c8] at hi
      have pe : pst (uS v 0 8 (w32 (v 0 8 + 1))) i = pst t2 i := by unfold pst; rw [f.2.2.2.1]
      rw [pe, f.2.2.1 i (by omega)]
      unfold pshB
      rw [if_pos e20, w8]
      by_cases z : i < 19
      · rw [if_pos z, if_pos z, r.2.2.2.1 i (by omega), if_pos z]
        have bb := pp_bd h.2.1 (i := i + 1) (by omega)
        exact (BI_cells (h.2.2 (i + 1) (by omega)) (fun x hx => r.2.2.2.2 x (by omega) (by omega)) (r.2.2.2.2 417 (by decide) (by decide))).2
      · rw [if_neg z, if_neg z]
    · rw [f.2.2.2.2 b h1 h3]; exact r.2.2.2.2 b h1 h2
  · rintro _ _ _ t ⟨j, rfl, hj, e20, rfl, e, ht⟩ hc
    rw [show ((j : Int) + 1).toNat = j + 1 by omega, e, if_neg (by omega)]
    exact (pp_bd h.2.1 (i := j + 1) (by omega)).1
  · rintro _ _ _ t ⟨j, rfl, hj, e20, rfl, e, ht⟩ hc
    omega
  · rintro _ _ _ t ⟨j, rfl, hj, e20, rfl, e, ht⟩ hc
    rw [show ((j : Int) + 1).toNat = j + 1 by omega, e, if_neg (by omega)]
    exact (pp_bd h.2.1 (i := j + 1) (by omega)).2.2
  · rintro _ _ _ t ⟨j, rfl, hj, e20, rfl, e, ht⟩ hc
    rw [w32_of (by omega)]; omega
  · rintro _ _ _ t ⟨j, rfl, hj, e20, rfl, e, ht⟩ hc
    have q := (pp_bd h.2.1 (i := j + 1) (by omega)).2.2
    have q2 : (((s 33 (j + 1)).toNat : Nat) : Int) = s 33 (j + 1) := q.symm
    rw [wt (n := j) (by omega) (by omega), show ((j : Int) + 1).toNat = j + 1 by omega, e (j + 1), if_neg (show ¬ j + 1 < j by omega), q2, w32_of (by omega)]
    refine ⟨⟨j + 1, by omega, by omega, e20, rfl, fun i => ?_, fun b hb => by rw [uS_cell hb]; exact ht b hb⟩, by omega⟩
    rw [uS_at, e i]
    by_cases z : i = j
    · rw [if_pos z, if_pos (by omega), z]
    · rw [if_neg z]
      by_cases z1 : i < j
      · rw [if_pos z1, if_pos (by omega)]
      · rw [if_neg z1, if_neg (by omega)]
  · intro z; exact (pp_bd h.2.1 (i := (s 0 8).toNat) (by omega)).1
  · intro z; omega
  · intro z; exact (pp_bd h.2.1 (i := (s 0 8).toNat) (by omega)).2.2
  · intro z
    refine ⟨fun w => ?_, hB⟩
    have bb := (pp_bd h.2.1 (i := (s 0 8).toNat) (by omega)).2.1
    have w' : pst s (s 0 8).toNat = 18 := w
    omega
  · intro z v hv
    have f := rm_fin (n := (s 0 8).toNat) h (by omega) (by omega) hv
    refine k _ ⟨?_, f.1, fun i hi => ?_, fun b h1 h2 h3 => f.2.2.2.2 b h1 h3⟩
    · rw [f.2.1, if_neg (by omega), show (((s 0 8).toNat : Nat) : Int) = s 0 8 by omega]
    · have c8 : uS v 0 8 (w32 (v 0 8 + 1)) 0 8 = (((s 0 8).toNat : Nat) : Int) + 1 := by rw [f.2.1]; rfl
      rw [c8] at hi
      have pe : pst (uS v 0 8 (w32 (v 0 8 + 1))) i = pst s i := by unfold pst; rw [f.2.2.2.1]
      rw [pe, f.2.2.1 i (by omega)]
      unfold pshB
      rw [if_neg (show ¬ s 0 8 = 20 by omega)]
  · intro z; exact (pp_bd h.2.1 (i := 0) (by decide)).1
  · intro z; exact (pp_bd h.2.1 (i := 0) (by decide)).2.2
  · intro z
    exact ⟨0, rfl, by omega, by omega, rfl, fun i => by rw [if_neg (by omega)], fun _ _ => rfl⟩
