/-! a DAY read: what is read is lawful -/
def LWq (r : Rw) : Prop := ((0 ≤ r 3 ∧ r 3 ≤ 5) ∧ (0 ≤ r 4 ∧ r 4 ≤ 6)) ∧ (∀ j, (5 ≤ j ∧ j < 77) ∨ 135 ≤ j → r j = 0) ∧
  (∀ p : Nat, p < 5 → ((p : Int) < r 3 → (0 ≤ r (82 + p) ∧ r (82 + p) ≤ 15) ∧ (1 ≤ r (77 + p) ∧ r (77 + p) ≤ 6)) ∧ (¬ (p : Int) < r 3 → r (82 + p) = 0 ∧ r (77 + p) = 0)) ∧
  (∀ c : Nat, c < 6 → ((c : Int) < r 4 → (1 ≤ r (117 + c) ∧ r (117 + c) < 2 ^ (r 3).toNat) ∧ (0 ≤ r (123 + c) ∧ r (123 + c) ≤ 100) ∧ (0 ≤ r (129 + c) ∧ r (129 + c) ≤ 3)) ∧ (¬ (c : Int) < r 4 → r (117 + c) = 0 ∧ r (123 + c) = 0 ∧ r (129 + c) = 0)) ∧
  (∀ t : Nat, t < 30 → 0 ≤ r (87 + t) ∧ r (87 + t) ≤ 9) ∧ ((r 0 = 0 ∧ r 1 = 0 ∧ r 2 = 0) ∨ (r 0 = 1 ∧ (1 ≤ r 1 ∧ r 1 ≤ 9) ∧ (1 ≤ r 2 ∧ r 2 ≤ 20)))
theorem LW_0 : LWq rd0 := ⟨⟨by decide, by decide⟩, fun _ _ => rfl, fun p _ => ⟨fun h => absurd (show (p : Int) < 0 from h) (by omega), fun _ => ⟨rfl, rfl⟩⟩, fun c _ => ⟨fun h => absurd (show (c : Int) < 0 from h) (by omega), fun _ => ⟨rfl, rfl, rfl⟩⟩, fun _ _ => (show (0 : Int) ≤ 0 ∧ (0 : Int) ≤ 9 by decide), Or.inl ⟨rfl, rfl, rfl⟩⟩
theorem LW_D {r : Rw} (h : LWq r) {x y : Int} (hx : 1 ≤ x ∧ x ≤ 9) (hy : 1 ≤ y ∧ y ≤ 20) : LWq (rdD r x y) ∧ rdD r x y 0 = 1 := by
  obtain ⟨b, z, hp, hc, ht, _⟩ := h
  have e : ∀ j, 3 ≤ j → rdD r x y j = r j := fun j hj => by unfold rdD; rw [up_ne (by omega), up_ne (by omega), up_ne (by omega)]
  have e0 : rdD r x y 0 = 1 := by unfold rdD; rw [up_at]
  have e1 : rdD r x y 1 = x := by unfold rdD; rw [up_ne (by decide), up_ne (by decide), up_at]
  have e2 : rdD r x y 2 = y := by unfold rdD; rw [up_ne (by decide), up_at]
  refine ⟨⟨by rw [e 3 (by omega), e 4 (by omega)]; exact b, fun j hj => by rw [e j (by omega)]; exact z j hj, fun p h' => by rw [e 3 (by omega), e _ (by omega), e _ (by omega)]; exact hp p h', fun c h' => by rw [e 4 (by omega), e 3 (by omega), e _ (by omega), e _ (by omega), e _ (by omega)]; exact hc c h', fun t h' => by rw [e _ (by omega)]; exact ht t h', Or.inr ⟨e0, by rw [e1]; exact hx, by rw [e2]; exact hy⟩⟩, e0⟩
theorem pw_m {m n : Nat} (h : m ≤ n) : (2 : Int) ^ m ≤ 2 ^ n := by
  have : (2 : Nat) ^ m ≤ 2 ^ n := Nat.pow_le_pow_right (by decide) h
  exact_mod_cast this
theorem LW_P {r : Rw} (h : LWq r) (h5 : r 3 < 5) {x y : Int} (hx : 0 ≤ x ∧ x ≤ 15) (hy : 1 ≤ y ∧ y ≤ 6) : LWq (rdP r x y) ∧ rdP r x y 0 = r 0 := by
  obtain ⟨b, z, hp, hc, ht, hs⟩ := h
  have e : ∀ j, j ≠ 3 → j ≠ 82 + (r 3).toNat → j ≠ 77 + (r 3).toNat → rdP r x y j = r j := fun j g1 g2 g3 => by unfold rdP; rw [up_ne g1, up_ne g3, up_ne g2]
  have e3 : rdP r x y 3 = r 3 + 1 := by unfold rdP; rw [up_at]
  have ea : rdP r x y (82 + (r 3).toNat) = x := by unfold rdP; rw [up_ne (by omega), up_ne (by omega), up_at]
  have eb : rdP r x y (77 + (r 3).toNat) = y := by unfold rdP; rw [up_ne (by omega), up_at]
  have e0 := e 0 (by omega) (by omega) (by omega)
  have e1 := e 1 (by omega) (by omega) (by omega)
  have e2 := e 2 (by omega) (by omega) (by omega)
  have e4 := e 4 (by omega) (by omega) (by omega)
  refine ⟨⟨by rw [e3, e4]; omega, fun j hj => by rw [e j (by omega) (by omega) (by omega)]; exact z j hj, fun p h' => ?_, fun c h' => ?_, fun t h' => by rw [e _ (by omega) (by omega) (by omega)]; exact ht t h', by rw [e0, e1, e2]; exact hs⟩, e0⟩
  · rw [e3]
    by_cases w : p = (r 3).toNat
    · rw [w, ea, eb]; exact ⟨fun _ => ⟨hx, hy⟩, fun v => by omega⟩
    · rw [e _ (by omega) (by omega) (by omega), e _ (by omega) (by omega) (by omega)]
      exact ⟨fun v => (hp p h').1 (by omega), fun v => (hp p h').2 (by omega)⟩
  · rw [e3, e4, e _ (by omega) (by omega) (by omega), e _ (by omega) (by omega) (by omega), e _ (by omega) (by omega) (by omega)]
    refine ⟨fun v => ?_, (hc c h').2⟩
    have q := (hc c h').1 v
    have m := pw_m (show (r 3).toNat ≤ (r 3 + 1).toNat by omega)
    exact ⟨⟨q.1.1, Int.lt_of_lt_of_le q.1.2 m⟩, q.2⟩
theorem LW_C {r : Rw} (h : LWq r) (h6 : r 4 < 6) {x y v : Int} (hx : 1 ≤ x ∧ x ≤ 2 ^ (r 3).toNat - 1) (hy : 0 ≤ y ∧ y ≤ 100) (hv : 0 ≤ v ∧ v ≤ 3) : LWq (rdC r x y v) ∧ rdC r x y v 0 = r 0 := by
  obtain ⟨b, z, hp, hc, ht, hs⟩ := h
  have e : ∀ j, j ≠ 4 → j ≠ 117 + (r 4).toNat → j ≠ 123 + (r 4).toNat → j ≠ 129 + (r 4).toNat → rdC r x y v j = r j := fun j g1 g2 g3 g4 => by unfold rdC; rw [up_ne g1, up_ne g4, up_ne g3, up_ne g2]
  have e4 : rdC r x y v 4 = r 4 + 1 := by unfold rdC; rw [up_at]
  have ea : rdC r x y v (117 + (r 4).toNat) = x := by unfold rdC; rw [up_ne (by omega), up_ne (by omega), up_ne (by omega), up_at]
  have eb : rdC r x y v (123 + (r 4).toNat) = y := by unfold rdC; rw [up_ne (by omega), up_ne (by omega), up_at]
  have ec : rdC r x y v (129 + (r 4).toNat) = v := by unfold rdC; rw [up_ne (by omega), up_at]
  have e0 := e 0 (by omega) (by omega) (by omega) (by omega)
  have e1 := e 1 (by omega) (by omega) (by omega) (by omega)
  have e2 := e 2 (by omega) (by omega) (by omega) (by omega)
  have e3 := e 3 (by omega) (by omega) (by omega) (by omega)
  refine ⟨⟨by rw [e3, e4]; omega, fun j hj => by rw [e j (by omega) (by omega) (by omega) (by omega)]; exact z j hj, fun p h' => by rw [e3, e _ (by omega) (by omega) (by omega) (by omega), e _ (by omega) (by omega) (by omega) (by omega)]; exact hp p h', fun c h' => ?_, fun t h' => by rw [e _ (by omega) (by omega) (by omega) (by omega)]; exact ht t h', by rw [e0, e1, e2]; exact hs⟩, e0⟩
  rw [e3, e4]
  by_cases w : c = (r 4).toNat
  · rw [w, ea, eb, ec]
    refine ⟨fun _ => ⟨⟨hx.1, ?_⟩, hy, hv⟩, fun u => by omega⟩
    have := hx.2
    revert this
    generalize (2 : Int) ^ (r 3).toNat = Z
    intro this; omega
  · rw [e _ (by omega) (by omega) (by omega) (by omega), e _ (by omega) (by omega) (by omega) (by omega), e _ (by omega) (by omega) (by omega) (by omega)]
    exact ⟨fun u => (hc c h').1 (by omega), fun u => (hc c h').2 (by omega)⟩
theorem LW_T {r : Rw} (h : LWq r) {x y : Int} (hx : 0 ≤ x ∧ x ≤ 29) (hy : 0 ≤ y ∧ y ≤ 9) : LWq (rdT r x y) ∧ rdT r x y 0 = r 0 := by
  obtain ⟨b, z, hp, hc, ht, hs⟩ := h
  have e : ∀ j, j ≠ 87 + x.toNat → rdT r x y j = r j := fun j g1 => by unfold rdT; rw [up_ne g1]
  have ea : rdT r x y (87 + x.toNat) = y := by unfold rdT; rw [up_at]
  have e0 := e 0 (by omega)
  refine ⟨⟨by rw [e 3 (by omega), e 4 (by omega)]; exact b, fun j hj => by rw [e j (by omega)]; exact z j hj, fun p h' => by rw [e 3 (by omega), e _ (by omega), e _ (by omega)]; exact hp p h', fun c h' => by rw [e 3 (by omega), e 4 (by omega), e _ (by omega), e _ (by omega), e _ (by omega)]; exact hc c h', fun t h' => ?_, by rw [e0, e 1 (by omega), e 2 (by omega)]; exact hs⟩, e0⟩
  by_cases w : t = x.toNat
  · rw [w, ea]; exact hy
  · rw [e _ (by omega)]; exact ht t h'
theorem nuA_v {T : Nat → Int} {n a : Nat} {l m : Int} (h : nuA T n a l m = -1) : l ≤ vA T n a ∧ vA T n a ≤ m := by
  unfold nuA at h
  by_cases z : tkK T n a = 256
  · rw [if_pos z] at h
    by_cases w : (tkP T n a : Int) - (a : Int) ≤ 5 ∧ l ≤ vA T n a ∧ vA T n a ≤ m
    · exact w.2
    · rw [if_neg w] at h; exact absurd h (by decide)
  · rw [if_neg z] at h; exact absurd h (by decide)
theorem seq_c {T : Nat → Int} {n a : Nat} {l m : Int} {L : List (Int × Int)} (h : (seqA T n ((l, m) :: L) a).1 = 0) : nuA T n a l m = -1 ∧ (seqA T n L (nxA T n a)).1 = 0 ∧ (seqA T n ((l, m) :: L) a).2.2 = vA T n a :: (seqA T n L (nxA T n a)).2.2 := by
  rw [seqA] at h ⊢
  by_cases z : nuA T n a l m = -1
  · rw [if_pos z] at h ⊢
    exact ⟨z, h, rfl⟩
  · rw [if_neg z] at h
    have nb := nuA_b T n a l m
    have h' : fuA a (nuA T n a l m) = 0 := h
    unfold fuA at h'
    omega
theorem seq_2 {T : Nat → Int} {n a : Nat} {l m l' m' : Int} (h : (seqA T n [(l, m), (l', m')] a).1 = 0) : (l ≤ (seqA T n [(l, m), (l', m')] a).2.2.getD 0 0 ∧ (seqA T n [(l, m), (l', m')] a).2.2.getD 0 0 ≤ m) ∧ (l' ≤ (seqA T n [(l, m), (l', m')] a).2.2.getD 1 0 ∧ (seqA T n [(l, m), (l', m')] a).2.2.getD 1 0 ≤ m') := by
  have c1 := seq_c h
  have c2 := seq_c c1.2.1
  rw [c1.2.2, c2.2.2]
  exact ⟨nuA_v c1.1, nuA_v c2.1⟩
theorem seq_3 {T : Nat → Int} {n a : Nat} {l m l' m' l'' m'' : Int} (h : (seqA T n [(l, m), (l', m'), (l'', m'')] a).1 = 0) : (l ≤ (seqA T n [(l, m), (l', m'), (l'', m'')] a).2.2.getD 0 0 ∧ (seqA T n [(l, m), (l', m'), (l'', m'')] a).2.2.getD 0 0 ≤ m) ∧ (l' ≤ (seqA T n [(l, m), (l', m'), (l'', m'')] a).2.2.getD 1 0 ∧ (seqA T n [(l, m), (l', m'), (l'', m'')] a).2.2.getD 1 0 ≤ m') ∧ (l'' ≤ (seqA T n [(l, m), (l', m'), (l'', m'')] a).2.2.getD 2 0 ∧ (seqA T n [(l, m), (l', m'), (l'', m'')] a).2.2.getD 2 0 ≤ m'') := by
  have c1 := seq_c h
  have c2 := seq_c c1.2.1
  have c3 := seq_c c2.2.1
  rw [c1.2.2, c2.2.2, c3.2.2]
  exact ⟨nuA_v c1.1, nuA_v c2.1, nuA_v c3.1⟩
theorem LW_dc {T : Nat → Int} {n a : Nat} {i : Int} {r : Rw} (h : LWq r) (hi : ¬ i = 0 → r 0 = 1) (h0 : (dcA T n i a r).1 = 0) : LWq (dcA T n i a r).2.2 ∧ (dcA T n i a r).2.2 0 = 1 := by
  by_cases d : dwP (wnA T n a)
  · by_cases m : tmP i (wnA T n a) r
    · rw [dcA_4 d m] at h0
      have h0' : fuA a 4 = 0 := h0
      unfold fuA at h0'; omega
    · have e := dcA_1 d m
      rw [e] at h0 ⊢
      have h0' : (seqA T n (rngA (wnA T n a) r) (nxA T n a)).1 = 0 := h0
      show LWq (rowA (wnA T n a) r (seqA T n (rngA (wnA T n a) r) (nxA T n a)).2.2) ∧ rowA (wnA T n a) r (seqA T n (rngA (wnA T n a) r) (nxA T n a)).2.2 0 = 1
      by_cases w11 : wnA T n a = 11
      · have er : rngA (wnA T n a) r = [(1, 9), (1, 20)] := by unfold rngA; rw [if_pos w11]
        rw [er] at h0' ⊢
        have v := seq_2 h0'
        unfold rowA
        rw [if_pos w11]
        exact LW_D h v.1 v.2
      · have i0 : ¬ i = 0 := fun z => m (Or.inr (Or.inr (Or.inl ⟨w11, z⟩)))
        by_cases w12 : wnA T n a = 12
        · have er : rngA (wnA T n a) r = [(0, 15), (1, 6)] := by unfold rngA; rw [if_neg w11, if_pos w12]
          rw [er] at h0' ⊢
          have v := seq_2 h0'
          unfold rowA
          rw [if_neg w11, if_pos w12]
          have q := LW_P h (by
            apply Int.not_le.1
            intro z
            exact m (Or.inr (Or.inr (Or.inr (Or.inl ⟨w12, z⟩))))) v.1 v.2
          exact ⟨q.1, q.2.trans (hi i0)⟩
        · by_cases w0 : wnA T n a = 0
          · have er : rngA (wnA T n a) r = [(1, 2 ^ (r 3).toNat - 1), (0, 100), (0, 3)] := by unfold rngA; rw [if_neg w11, if_neg w12, if_pos w0]
            rw [er] at h0' ⊢
            have v := seq_3 h0'
            unfold rowA
            rw [if_neg w11, if_neg w12, if_pos w0]
            have q := LW_C h (by
              apply Int.not_le.1
              intro z
              exact m (Or.inr (Or.inr (Or.inr (Or.inr ⟨w0, z⟩))))) v.1 v.2.1 v.2.2
            exact ⟨q.1, q.2.trans (hi i0)⟩
          · have er : rngA (wnA T n a) r = [(0, 29), (0, 9)] := by unfold rngA; rw [if_neg w11, if_neg w12, if_neg w0]
            rw [er] at h0' ⊢
            have v := seq_2 h0'
            unfold rowA
            rw [if_neg w11, if_neg w12, if_neg w0]
            have q := LW_T h v.1 v.2
            exact ⟨q.1, q.2.trans (hi i0)⟩
  · rw [dcA_0 d] at h0
    have h0' : fuA a 0 = 0 := h0
    unfold fuA at h0'; omega
theorem LW_dy {T : Nat → Int} {n : Nat} : ∀ (f : Nat) (i : Int) (a : Nat) (r : Rw), i + f = 41 → 0 ≤ i → LWq r → (¬ i = 0 → r 0 = 1) → (dyA T n f i a r).1 = 0 → LWq (dyA T n f i a r).2 ∧ (dyA T n f i a r).2 0 = 1
  | 0, i, a, r, hf, h0, h, hi, _ => ⟨h, hi (by omega)⟩
  | f + 1, i, a, r, hf, h0, h, hi, hz => by
    rw [dyA_s] at hz ⊢
    by_cases z : (dcA T n i a r).1 = 0
    · have q := LW_dc h hi z
      rw [if_pos z] at hz ⊢
      by_cases z2 : tkK T n (dcA T n i a r).2.1 = 59
      · rw [if_pos z2] at hz ⊢
        exact LW_dy f (i + 1) _ _ (by omega) (by omega) q.1 (fun _ => q.2) hz
      · rw [if_neg z2]; exact q
    · rw [if_neg z] at hz
      exact absurd hz z
theorem LW_dp {T : Nat → Int} {n : Nat} (h : (dyP T n).1 = 0) : LWq (dyP T n).2 ∧ (dyP T n).2 0 = 1 := LW_dy 41 0 _ _ (by omega) (by omega) LW_0 (fun z => absurd rfl z) h
/-- the row of a DAY that was told -/
theorem DR_BI {s : mSt} {k : Nat} {r : Rw} (h : DRq s k r) (hl : LWq r) (h0 : r 0 = 1) (hr : ∀ j, 82 ≤ j → j < 166 → (j < 117 ∨ 135 ≤ j) → loA j ≤ s 417 j ∧ s 417 j ≤ hiA j) : BI s k ∧ ∀ j, (j < 82 ∨ 117 ≤ j ∧ j < 135) → brow s k j = anew r j := by
  obtain ⟨⟨a0, a1, a2, a3, a4, a5⟩, hp, hc, ht, hz, b3, b4⟩ := h
  obtain ⟨_, lz, lp, lc, lt, ls⟩ := hl
  have hd : ¬ s k 0 = 0 := by rcases ls with w | w <;> omega
  have ls1 : (1 ≤ r 1 ∧ r 1 ≤ 9) ∧ (1 ≤ r 2 ∧ r 2 ≤ 20) := by rcases ls with w | w
                                                              · omega
                                                              · exact w.2
  have eb : ∀ j, (j < 82 ∨ 117 ≤ j ∧ j < 135) → brow s k j = anew r j := fun j hj => by
    unfold brow
    rw [if_neg (by omega), if_neg hd]
    by_cases j0 : j = 0
    · rw [if_pos j0, j0, anew_o (by decide), h0]
    rw [if_neg j0]
    by_cases j6 : j < 6
    · rw [if_pos j6]
      rcases (show j = 1 ∨ j = 2 ∨ j = 3 ∨ j = 4 ∨ j = 5 by omega) with e | e | e | e | e
      · subst e; rw [anew_o (by decide)]; exact a0
      · subst e; rw [anew_o (by decide)]; exact a1
      · subst e; rw [anew_o (by decide)]; exact a2
      · subst e; rw [anew_o (by decide)]; exact a3
      · subst e; rw [show s k (5 - 1) = 0 from a4]; unfold anew anK; rw [if_pos rfl]
    rw [if_neg j6]
    by_cases j11 : j < 11
    · rw [if_pos j11]
      have e : anew r j = r (j + 76) := by unfold anew anK; rw [if_neg (by omega), if_pos (by omega)]
      rw [e, a2]
      have l := lp (j - 6) (by omega)
      by_cases w : (j : Int) - 6 < r 3
      · rw [if_pos w, (hp (j - 6) (by omega)).1, show 82 + (j - 6) = j + 76 by omega]
      · rw [if_neg w]
        have := (l.2 (by omega)).1
        rw [show 82 + (j - 6) = j + 76 by omega] at this
        exact this.symm
    rw [if_neg j11]
    by_cases j41 : j < 41
    · rw [if_pos j41, ht _ (by omega)]
      unfold anew anK
      rw [if_neg (by omega), if_neg (by omega), if_pos (by omega), show 87 + (j - 11) = j + 76 by omega]
    rw [if_neg j41]
    by_cases j47 : j < 47
    · rw [if_pos j47, a5, bq_0, if_neg (by decide)]
      unfold anew anK
      rw [if_neg (by omega), if_neg (by omega), if_neg (by omega), if_pos (by omega)]
    rw [if_neg j47]
    by_cases j77 : j < 77
    · rw [if_pos j77, a5, bq_0, if_neg (fun w => absurd w.1 (by decide))]
      unfold anew anK
      rw [if_neg (by omega), if_neg (by omega), if_neg (by omega), if_neg (by omega), if_pos (by omega)]
    rw [if_neg j77, anew_o (by omega)]
    by_cases j82 : j < 82
    · rw [if_pos j82, a2]
      have l := lp (j - 77) (by omega)
      by_cases w : (j : Int) - 77 < r 3
      · rw [if_pos w, (hp (j - 77) (by omega)).2, show 77 + (j - 77) = j by omega]
      · rw [if_neg w]
        have := (l.2 (by omega)).2
        rw [show 77 + (j - 77) = j by omega] at this
        exact this.symm
    rw [if_neg j82]
    by_cases j123 : j < 123
    · rw [if_pos j123, a3]
      have l := lc (j - 117) (by omega)
      by_cases w : (j : Int) - 117 < r 4
      · rw [if_pos w, (hc (j - 117) (by omega)).1, show 117 + (j - 117) = j by omega]
      · rw [if_neg w]
        have := (l.2 (by omega)).1
        rw [show 117 + (j - 117) = j by omega] at this
        exact this.symm
    rw [if_neg j123]
    by_cases j129 : j < 129
    · rw [if_pos j129, a3]
      have l := lc (j - 123) (by omega)
      by_cases w : (j : Int) - 123 < r 4
      · rw [if_pos w, (hc (j - 123) (by omega)).2.1, show 123 + (j - 123) = j by omega]
      · rw [if_neg w]
        have := (l.2 (by omega)).2.1
        rw [show 123 + (j - 123) = j by omega] at this
        exact this.symm
    rw [if_neg j129, a3]
    have l := lc (j - 129) (by omega)
    by_cases w : (j : Int) - 129 < r 4
    · rw [if_pos w, (hc (j - 129) (by omega)).2.2, show 129 + (j - 129) = j by omega]
    · rw [if_neg w]
      have := (l.2 (by omega)).2.2
      rw [show 129 + (j - 129) = j by omega] at this
      exact this.symm
  have e3 : brow s k 3 = r 3 := by rw [eb 3 (by omega), anew_o (by omega)]
  have e4 : brow s k 4 = r 4 := by rw [eb 4 (by omega), anew_o (by omega)]
  have okk : Ok (brow s k) := by
    refine ⟨fun j hj => ?_, fun c h' => ?_, fun p h' => ?_⟩
    · by_cases w : j < 82 ∨ 117 ≤ j ∧ j < 135
      · rw [eb j w]
        by_cases j5 : j < 5
        · rw [anew_o (by omega)]
          rcases (show j = 0 ∨ j = 1 ∨ j = 2 ∨ j = 3 ∨ j = 4 by omega) with e | e | e | e | e <;> subst e <;> unfold loA hiA <;> simp <;> omega
        · by_cases j77 : 77 ≤ j
          · rw [anew_o (by omega)]
            by_cases j82 : j < 82
            · have l := lp (j - 77) (by omega)
              rw [show 77 + (j - 77) = j by omega] at l
              have f := (show ∀ i : Fin 5, loA (77 + i.val) = 0 ∧ hiA (77 + i.val) = 6 by decide +kernel) ⟨j - 77, by omega⟩
              simp only [show 77 + (j - 77) = j by omega] at f
              rw [f.1, f.2]
              by_cases v : ((j - 77 : Nat) : Int) < r 3
              · have := (l.1 v).2; omega
              · have := (l.2 v).2; omega
            · by_cases j123 : j < 123
              · have l := lc (j - 117) (by omega)
                rw [show 117 + (j - 117) = j by omega] at l
                have f := (show ∀ i : Fin 6, loA (117 + i.val) = 0 ∧ hiA (117 + i.val) = 31 by decide +kernel) ⟨j - 117, by omega⟩
                simp only [show 117 + (j - 117) = j by omega] at f
                rw [f.1, f.2]
                have m := pw_m (show (r 3).toNat ≤ 5 by omega)
                by_cases v : ((j - 117 : Nat) : Int) < r 4
                · have := (l.1 v).1; omega
                · have := (l.2 v).1; omega
              · by_cases j129 : j < 129
                · have l := lc (j - 123) (by omega)
                  rw [show 123 + (j - 123) = j by omega] at l
                  have f := (show ∀ i : Fin 6, loA (123 + i.val) = 0 ∧ hiA (123 + i.val) = 100 by decide +kernel) ⟨j - 123, by omega⟩
                  simp only [show 123 + (j - 123) = j by omega] at f
                  rw [f.1, f.2]
                  by_cases v : ((j - 123 : Nat) : Int) < r 4
                  · have := (l.1 v).2.1; omega
                  · have := (l.2 v).2.1; omega
                · have l := lc (j - 129) (by omega)
                  rw [show 129 + (j - 129) = j by omega] at l
                  have f := (show ∀ i : Fin 6, loA (129 + i.val) = 0 ∧ hiA (129 + i.val) = 3 by decide +kernel) ⟨j - 129, by omega⟩
                  simp only [show 129 + (j - 129) = j by omega] at f
                  rw [f.1, f.2]
                  by_cases v : ((j - 129 : Nat) : Int) < r 4
                  · have := (l.1 v).2.2; omega
                  · have := (l.2 v).2.2; omega
          · unfold anew anK
            by_cases j5' : j = 5
            · rw [if_pos j5', j5']; decide
            · rw [if_neg j5']
              by_cases j11 : 6 ≤ j ∧ j < 6 + 5
              · rw [if_pos j11]
                have l := lp (j - 6) (by omega)
                rw [show 82 + (j - 6) = j + 76 by omega] at l
                have f := (show ∀ i : Fin 5, loA (6 + i.val) = 0 ∧ hiA (6 + i.val) = 15 by decide +kernel) ⟨j - 6, by omega⟩
                simp only [show 6 + (j - 6) = j by omega] at f
                rw [f.1, f.2]
                by_cases v : ((j - 6 : Nat) : Int) < r 3
                · have := (l.1 v).1; omega
                · have := (l.2 v).1; omega
              · rw [if_neg j11]
                by_cases j41 : 11 ≤ j ∧ j < 11 + 30
                · rw [if_pos j41]
                  have l := lt (j - 11) (by omega)
                  rw [show 87 + (j - 11) = j + 76 by omega] at l
                  have f := (show ∀ i : Fin 30, loA (11 + i.val) = 0 ∧ hiA (11 + i.val) = 9 by decide +kernel) ⟨j - 11, by omega⟩
                  simp only [show 11 + (j - 11) = j by omega] at f
                  rw [f.1, f.2]; exact l
                · rw [if_neg j41]
                  by_cases j47 : 41 ≤ j ∧ j < 41 + 6
                  · rw [if_pos j47]
                    exact (show ∀ i : Fin 166, 41 ≤ i.val ∧ i.val < 41 + 6 → loA i.val ≤ 1 ∧ 1 ≤ hiA i.val by decide +kernel) ⟨j, hj⟩ j47
                  · rw [if_neg j47, if_pos (by omega)]
                    exact (show ∀ i : Fin 166, 47 ≤ i.val ∧ i.val < 77 → loA i.val ≤ -1 ∧ -1 ≤ hiA i.val by decide +kernel) ⟨j, hj⟩ (show 47 ≤ j ∧ j < 77 by omega)
      · have e : brow s k j = s 417 j := by unfold brow; rw [if_pos (by omega)]
        rw [e]; exact hr j (by omega) hj (by omega)
    · unfold nc at h'
      unfold np
      rw [e4] at h'
      rw [eb _ (by omega), anew_o (by omega), e3]
      have := (lc c (by omega)).1 (by omega)
      exact this.1
    · unfold np at h'
      rw [e3] at h'
      rw [eb _ (by omega), anew_o (by omega)]
      have := (lp p (by omega)).1 (by omega)
      exact this.2.1
  refine ⟨⟨okk, ?_, fun c h' => ?_, fun c h' => ?_, by omega, fun w => absurd w hd⟩, eb⟩
  · rw [a5]
    have : (0 : Int) < 2 ^ nc (brow s k) := by
      have : (0 : Nat) < 2 ^ nc (brow s k) := Nat.pow_pos (by decide)
      exact_mod_cast this
    omega
  · rw [(hz c h').1, a5, bq_0, if_neg (by decide)]
  · rw [(hz c h').2, a5, bq_0, if_neg (by decide)]
theorem seq_b {T : Nat → Int} {n : Nat} : ∀ (L : List (Int × Int)) (a : Nat), a ≤ n → (0 ≤ (seqA T n L a).1 ∧ (seqA T n L a).1 ≤ 8 * (n : Int) + 5) ∧ (seqA T n L a).2.1 ≤ n
  | [], a, h => ⟨⟨Int.le_refl 0, by show (0 : Int) ≤ 8 * (n : Int) + 5; omega⟩, h⟩
  | x :: L, a, h => by
    rw [seqA]
    have nb := nuA_b T n a x.1 x.2
    by_cases z : nuA T n a x.1 x.2 = -1
    · rw [if_pos z]
      exact seq_b L (nxA T n a) (nxA_b T h).2.1
    · rw [if_neg z]
      refine ⟨?_, h⟩
      show 0 ≤ fuA a (nuA T n a x.1 x.2) ∧ fuA a (nuA T n a x.1 x.2) ≤ 8 * (n : Int) + 5
      unfold fuA; omega
theorem dc_b {T : Nat → Int} {n a : Nat} {i : Int} {r : Rw} (h : a ≤ n) : (0 ≤ (dcA T n i a r).1 ∧ (dcA T n i a r).1 ≤ 8 * (n : Int) + 5) ∧ (dcA T n i a r).2.1 ≤ n := by
  by_cases d : dwP (wnA T n a)
  · by_cases m : tmP i (wnA T n a) r
    · rw [dcA_4 d m]
      refine ⟨?_, h⟩
      show 0 ≤ fuA a 4 ∧ fuA a 4 ≤ 8 * (n : Int) + 5
      unfold fuA; omega
    · rw [dcA_1 d m]
      exact seq_b _ _ (nxA_b T h).2.1
  · rw [dcA_0 d]
    refine ⟨?_, h⟩
    show 0 ≤ fuA a 0 ∧ fuA a 0 ≤ 8 * (n : Int) + 5
    unfold fuA; omega
theorem dy_b {T : Nat → Int} {n : Nat} : ∀ (f : Nat) (i : Int) (a : Nat) (r : Rw), a ≤ n → 0 ≤ (dyA T n f i a r).1 ∧ (dyA T n f i a r).1 ≤ 8 * (n : Int) + 5
  | 0, _, _, _, _ => ⟨Int.le_refl 0, by show (0 : Int) ≤ 8 * (n : Int) + 5; omega⟩
  | f + 1, i, a, r, h => by
    have d := dc_b (T := T) (i := i) (r := r) h
    rw [dyA_s]
    by_cases z : (dcA T n i a r).1 = 0
    · rw [if_pos z]
      by_cases z2 : tkK T n (dcA T n i a r).2.1 = 59
      · rw [if_pos z2]; exact dy_b f _ _ _ (nxA_b T d.2).2.1
      · rw [if_neg z2]
        show 0 ≤ (if tkK T n (dcA T n i a r).2.1 = -1 then 0 else fuA (dcA T n i a r).2.1 0) ∧ (if tkK T n (dcA T n i a r).2.1 = -1 then 0 else fuA (dcA T n i a r).2.1 0) ≤ 8 * (n : Int) + 5
        split
        · omega
        · unfold fuA; omega
    · rw [if_neg z]; exact d.1
theorem dyP_b (T : Nat → Int) (n : Nat) : 0 ≤ (dyP T n).1 ∧ (dyP T n).1 ≤ 8 * (n : Int) + 5 := dy_b 41 0 _ _ ((rnT_b (fun k => decide (T k = 32)) n 0).2 (by omega))
def TOq (s : mSt) : Prop := ∀ j, 82 ≤ j → j < 166 → (j < 117 ∨ 135 ≤ j) → loA j ≤ s 417 j ∧ s 417 j ≤ hiA j
def fDy (s t : mSt) : Prop := (∀ b, ¬ (b = 0 ∨ b = 1 ∨ b = 4 ∨ 8 ≤ b ∧ b ≤ 28 ∨ 34 ≤ b ∧ b ≤ 43) → t b = s b) ∧ (∀ j, j ≠ 8 → t 0 j = s 0 j)
theorem v124 {X : (Nat → Int) × Nat} {d : Nat} {s : mSt} {Q : mQ}
  (z1 : (0 ≤ s 1 1 ∧ s 1 1 ≤ 400) ∧ BYq s)
  (z2 : ∀ v1 : Int, ∀ s1 : mSt, (v1 = (dyP (s 2) (nO s)).1 ∧ ((dyP (s 2) (nO s)).1 = 0 → DRq s1 34 (dyP (s 2) (nO s)).2) ∧ s1 1 1 = s 1 1 ∧ fD s s1 34) → v1 = 0 → ∀ t3 : mSt, t3 = uS s1 1 1 0 → 8 ≠ 34 ∧ BI t3 34)
  (z3 : ∀ v1 : Int, ∀ s1 : mSt, (v1 = (dyP (s 2) (nO s)).1 ∧ ((dyP (s 2) (nO s)).1 = 0 → DRq s1 34 (dyP (s 2) (nO s)).2) ∧ s1 1 1 = s 1 1 ∧ fD s s1 34) → v1 = 0 → ∀ t3 : mSt, t3 = uS s1 1 1 0 → ∀ s4 : mSt, (BI s4 8 ∧ brow s4 8 = brow t3 34 ∧ fB t3 s4 8) → 18 ≠ 34 ∧ BI s4 34)
  (z4 : ∀ v1 : Int, ∀ s1 : mSt, (v1 = (dyP (s 2) (nO s)).1 ∧ ((dyP (s 2) (nO s)).1 = 0 → DRq s1 34 (dyP (s 2) (nO s)).2) ∧ s1 1 1 = s 1 1 ∧ fD s s1 34) → v1 = 0 → ∀ t3 : mSt, t3 = uS s1 1 1 0 → ∀ s4 : mSt, (BI s4 8 ∧ brow s4 8 = brow t3 34 ∧ fB t3 s4 8) → ∀ s5 : mSt, (BI s5 18 ∧ brow s5 18 = brow s4 34 ∧ fB s4 s5 18) → Q (some (mI ((uS (uS s5 28 0 0) 0 8 0) 18 3))) (uS (uS s5 28 0 0) 0 8 0))
  (z5 : ∀ v1 : Int, ∀ s1 : mSt, (v1 = (dyP (s 2) (nO s)).1 ∧ ((dyP (s 2) (nO s)).1 = 0 → DRq s1 34 (dyP (s 2) (nO s)).2) ∧ s1 1 1 = s 1 1 ∧ fD s s1 34) → ¬ v1 = 0 → ∀ t7 : mSt, t7 = uS s1 1 1 0 → Q (some (mI (w32 ((-2) - v1)))) t7) :
  Sp X (d + 8) 124 [mR 0] s Q := e124 (b124_0 (c34 (bdm rfl) z1 (fun v1 s1 q1 => ⟨v1, rfl, b124_11 (fun q2 => Wp_gen (fun t3 e3 => b124_29 (c3 (bdm rfl) (bdm rfl) (z2 v1 s1 q1 q2 t3 e3) (fun s4 q4 => ⟨rfl, b124_43 (c3 (bdm rfl) (bdm rfl) (z3 v1 s1 q1 q2 t3 e3 s4 q4) (fun s5 q5 => ⟨rfl, b124_57 (z4 v1 s1 q1 q2 t3 e3 s4 q4 s5 q5)⟩))⟩)))) (fun q6 => Wp_gen (fun t7 e7 => b124_24 (z5 v1 s1 q1 q6 t7 e7)))⟩)))

theorem c124 {X : (Nat → Int) × Nat} {d : Nat} {s : mSt} {Q : mQ} (p1 : (0 ≤ s 1 1 ∧ s 1 1 ≤ 400) ∧ BYq s ∧ TOq s) (k : ∀ (v : Int) (t : mSt), (YN ((dyP (s 2) (nO s)).1 = 0) (v = (dyP (s 2) (nO s)).2 4 ∧ (BI t 8 ∧ BI t 18 ∧ ∀ j, (j < 82 ∨ 117 ≤ j ∧ j < 135) → brow t 8 j = anew (dyP (s 2) (nO s)).2 j ∧ brow t 18 j = anew (dyP (s 2) (nO s)).2 j) ∧ t 28 0 = 0 ∧ t 0 8 = 0) (v = -2 - (dyP (s 2) (nO s)).1 ∧ t 0 8 = s 0 8 ∧ ∀ b, ¬ (b = 1 ∨ b = 4 ∨ 34 ≤ b ∧ b ≤ 43) → t b = s b) ∧ t 1 1 = 0 ∧ fDy s t) → Q (some (mI v)) t) : Sp X (d + 8) 124 [mR 0] s Q := by
  obtain ⟨h1, hby, hto⟩ := p1
  have pb := dyP_b (s 2) (nO s)
  have nb : (nO s : Int) ≤ 400 := by unfold nO; omega
  have q3 : ∀ (s1 t3 : mSt), ((dyP (s 2) (nO s)).1 = 0 → DRq s1 34 (dyP (s 2) (nO s)).2) ∧ s1 1 1 = s 1 1 ∧ fD s s1 34 → t3 = uS s1 1 1 0 → (∀ b, b ≠ 1 → b ≠ 4 → ¬ (34 ≤ b ∧ b ≤ 43) → t3 b = s b) ∧ t3 1 1 = 0 ∧ ((dyP (s 2) (nO s)).1 = 0 → BI t3 34 ∧ ∀ j, (j < 82 ∨ 117 ≤ j ∧ j < 135) → brow t3 34 j = anew (dyP (s 2) (nO s)).2 j) := fun s1 t3 hs h3 => by
    have c : ∀ b, b ≠ 1 → t3 b = s1 b := fun b hb => by rw [h3]; exact uS_cell hb
    have cs : ∀ b, b ≠ 1 → b ≠ 4 → ¬ (34 ≤ b ∧ b ≤ 43) → t3 b = s b := fun b g1 g2 g3 => (c b g1).trans (hs.2.2 b g1 g2 g3)
    refine ⟨cs, by rw [h3, uS_at, if_pos rfl], fun z => ?_⟩
    have l := LW_dp z
    have d : DRq t3 34 (dyP (s 2) (nO s)).2 := DR_cells (hs.1 z) (fun x hx => c x (by omega))
    exact DR_BI d l.1 l.2 (by rw [cs 417 (by decide) (by decide) (by decide)]; exact hto)
  refine v124 ⟨h1, hby⟩ (fun v s1 hs z t3 h3 => ?_) (fun v s1 hs z t3 h3 s4 h4 => ?_) (fun v s1 hs z t3 h3 s4 h4 s5 h5 => ?_) (fun v s1 hs z t7 h7 => ?_)
  · have q := q3 s1 t3 hs.2 h3
    exact ⟨by decide, (q.2.2 (hs.1.symm.trans z)).1⟩
  · have q := q3 s1 t3 hs.2 h3
    exact ⟨by decide, (BI_cells (t := s4) (q.2.2 (hs.1.symm.trans z)).1 (fun x hx => h4.2.2 x (by omega)) (h4.2.2 417 (by omega))).1⟩
  · have zz : (dyP (s 2) (nO s)).1 = 0 := hs.1.symm.trans z
    have q := q3 s1 t3 hs.2 h3
    have q34 := q.2.2 zz
    have w := BI_cells (t := s4) q34.1 (fun x hx => h4.2.2 x (by omega)) (h4.2.2 417 (by omega))
    have w8 := BI_cells (t := s5) h4.1 (fun x hx => h5.2.2 x (by omega)) (h5.2.2 417 (by omega))
    have c : ∀ b, b ≠ 0 → b ≠ 28 → uS (uS s5 28 0 0) 0 8 0 b = s5 b := fun b g1 g2 => by rw [uS_cell g1, uS_cell g2]
    have u18 := BI_cells (t := uS (uS s5 28 0 0) 0 8 0) h5.1 (fun x hx => c x (by omega) (by omega)) (c 417 (by decide) (by decide))
    have u8 := BI_cells (t := uS (uS s5 28 0 0) 0 8 0) w8.1 (fun x hx => c x (by omega) (by omega)) (c 417 (by decide) (by decide))
    have e18 : brow (uS (uS s5 28 0 0) 0 8 0) 18 = brow t3 34 := by rw [u18.2, h5.2.1, w.2]
    have e8 : brow (uS (uS s5 28 0 0) 0 8 0) 8 = brow t3 34 := by rw [u8.2, w8.2, h4.2.1]
    refine k _ _ ⟨YN_y zz ⟨?_, ⟨u8.1, u18.1, fun j hj => by rw [e8, e18]; exact ⟨q34.2 j hj, q34.2 j hj⟩⟩, ?_, by rw [uS_at, if_pos rfl]⟩, ?_, fun b hb => ?_, fun j hj => ?_⟩
    · have := bi4 u18.1
      rw [this, e18, q34.2 4 (by omega), anew_o (by omega)]
    · rw [uS_cell (by decide), uS_at, if_pos rfl]
    · rw [c 1 (by decide) (by decide), h5.2.2 1 (by decide), h4.2.2 1 (by decide)]; exact q.2.1
    · rw [c b (by omega) (by omega), h5.2.2 b (by omega), h4.2.2 b (by omega)]; exact q.1 b (by omega) (by omega) (by omega)
    · rw [uS_at, if_neg hj, uS_cell (by decide), h5.2.2 0 (by decide), h4.2.2 0 (by decide), q.1 0 (by decide) (by decide) (by decide)]
  · have q := q3 s1 t7 hs.2 h7
    have zz : ¬ (dyP (s 2) (nO s)).1 = 0 := fun w => z (hs.1.trans w)
    rw [hs.1, w32_of (by omega)]
    exact k _ _ ⟨YN_n zz ⟨rfl, by rw [q.1 0 (by decide) (by decide) (by decide)], fun b hb => q.1 b (by omega) (by omega) (by omega)⟩, q.2.1, fun b hb => q.1 b (by omega) (by omega) (by omega), fun j _ => by rw [q.1 0 (by decide) (by decide) (by decide)]⟩
