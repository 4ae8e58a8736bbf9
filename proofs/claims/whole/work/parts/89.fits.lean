/-! what was noted: extra time, rest, rules -/
theorem BI_set {s t : mSt} {k : Nat} {a' : Rw} (h : BI s k) (eb : brow t k = a') (ho : Ok a') (h4 : a' 4 = brow s k 4) (ce : ∀ b, b ≠ k + 4 → b ≠ k + 5 → t b = s b) (hr : ∀ c, c < 6 → bq (s k 5) c = true → rc a' (brow s k) c ∧ ∀ p, p < np a' → a' (6 + p) = brow s k (6 + p)) : BI t k := by
  have ek : t k = s k := ce k (by omega) (by omega)
  have e8 : t (k + 8) = s (k + 8) := ce _ (by omega) (by omega)
  have e9 : t (k + 9) = s (k + 9) := ce _ (by omega) (by omega)
  unfold BI
  rw [eb, ek, e8, e9]
  refine ⟨ho, ?_, fun c hc => ?_, fun c hc => ?_, h.2.2.2.2⟩
  · have : nc a' = nc (brow s k) := by unfold nc; rw [h4]
    rw [this]; exact h.2.1
  · rw [h.2.2.1 c hc]
    by_cases z : bq (s k 5) c = true
    · rw [if_pos z, if_pos z]; exact os_congr (fun i _ => (sat_rc (hr c hc z).1 i).symm)
    · rw [if_neg z, if_neg z]
  · rw [h.2.2.2.1 c hc]
    by_cases z : bq (s k 5) c = true
    · rw [if_pos z, if_pos z]; exact os_congr (fun i _ => (kpt_rc (hr c hc z).1 (fun p hp _ => (hr c hc z).2 p hp) i).symm)
    · rw [if_neg z, if_neg z]
theorem up_ok {a : Rw} (h : Ok a) {j : Nat} {x : Int} (hj : 123 ≤ j ∧ j < 135) (hx : 0 ≤ x ∧ x ≤ if j < 129 then 100 else 3) : Ok (up a j x) := by
  refine Ok_row h (fun i hi => ?_) (up_ne (by omega)) (up_ne (by omega)) (fun c _ => up_ne (by omega)) (fun p _ => up_ne (by omega))
  by_cases z : i = j
  · subst z
    right
    have q := (show ∀ i : Fin 12, loA (123 + i.val) = 0 ∧ hiA (123 + i.val) = if 123 + i.val < 129 then 100 else 3 by decide +kernel) ⟨i - 123, by omega⟩
    simp only [show 123 + (i - 123) = i by omega] at q
    rw [q.1, q.2, up_at]; exact hx
  · exact Or.inl (up_ne z)
theorem set_E {s : mSt} {k c : Nat} {x : Int} (hk : isBd k) (h : BI s k) (hc : c < nc (brow s k)) (hw : ¬ pl (brow s k) c = true) (hx : 0 ≤ x ∧ x ≤ 100) : BI (uS s (k + 4) c x) k ∧ brow (uS s (k + 4) c x) k = up (brow s k) (123 + c) x := by
  have hl := bd_lt hk
  have n6 := nc_le h.1
  have n5 := np_le h.1
  have e4 := bi_nc h
  have hd := bi_dc h (by omega)
  have ce : ∀ b, b ≠ k + 4 → uS s (k + 4) c x b = s b := fun b hb => uS_cell hb
  have eb : brow (uS s (k + 4) c x) k = up (brow s k) (123 + c) x := by
    funext j
    unfold up brow
    rw [ce 417 (by omega), ce k (by omega), ce (k + 1) (by omega), ce (k + 6) (by omega), ce (k + 7) (by omega), ce (k + 2) (by omega), ce (k + 3) (by omega), ce (k + 5) (by omega), uS_at]
    by_cases z : j = 123 + c
    · rw [if_pos (show j - 123 = c by omega), if_pos z, if_neg (show ¬ (82 ≤ j ∧ (j < 117 ∨ 135 ≤ j)) by omega), if_neg hd, if_neg (show ¬ j = 0 by omega), if_neg (show ¬ j < 6 by omega), if_neg (show ¬ j < 11 by omega), if_neg (show ¬ j < 41 by omega), if_neg (show ¬ j < 47 by omega), if_neg (show ¬ j < 77 by omega), if_neg (show ¬ j < 82 by omega), if_neg (show ¬ j < 123 by omega), if_pos (show j < 129 by omega), if_pos (show (j : Int) - 123 < s k 3 by omega)]
    · rw [if_neg z]
      by_cases z1 : j < 123
      · simp only [if_pos z1]
      · rw [if_neg (show ¬ j - 123 = c by omega)]
  refine ⟨BI_set h eb (up_ok h.1 (by omega) (by rw [if_pos (by omega)]; exact hx)) (up_ne (by omega)) (fun b h1 _ => ce b h1) (fun i hi z => ?_), eb⟩
  have hic : i ≠ c := fun q => by
    rw [q, ← bi_pl h hc] at z; exact hw z
  refine ⟨⟨up_ne (by omega), fun p hp => ⟨?_, tm_eq (up_ne ?_) (up_ne (by omega)), ?_⟩⟩, fun p hp => up_ne ?_⟩
  · unfold ss; rw [up_ne (by omega)]
  · have : np (up (brow s k) (123 + c) x) = np (brow s k) := by unfold np; rw [up_ne (by omega)]
    omega
  · have : np (up (brow s k) (123 + c) x) = np (brow s k) := by unfold np; rw [up_ne (by omega)]
    unfold bg; rw [up_ne (by omega)]
  · have : np (up (brow s k) (123 + c) x) = np (brow s k) := by unfold np; rw [up_ne (by omega)]
    omega
theorem set_R {s : mSt} {k c : Nat} {x : Int} (hk : isBd k) (h : BI s k) (hc : c < nc (brow s k)) (hx : 0 ≤ x ∧ x ≤ 3) : BI (uS s (k + 5) c x) k ∧ brow (uS s (k + 5) c x) k = up (brow s k) (129 + c) x := by
  have hl := bd_lt hk
  have n6 := nc_le h.1
  have n5 := np_le h.1
  have e4 := bi_nc h
  have hd := bi_dc h (by omega)
  have ce : ∀ b, b ≠ k + 5 → uS s (k + 5) c x b = s b := fun b hb => uS_cell hb
  have eb : brow (uS s (k + 5) c x) k = up (brow s k) (129 + c) x := by
    funext j
    unfold up brow
    rw [ce 417 (by omega), ce k (by omega), ce (k + 1) (by omega), ce (k + 6) (by omega), ce (k + 7) (by omega), ce (k + 2) (by omega), ce (k + 3) (by omega), ce (k + 4) (by omega), uS_at]
    by_cases z : j = 129 + c
    · rw [if_pos (show j - 129 = c by omega), if_pos z, if_neg (show ¬ (82 ≤ j ∧ (j < 117 ∨ 135 ≤ j)) by omega), if_neg hd, if_neg (show ¬ j = 0 by omega), if_neg (show ¬ j < 6 by omega), if_neg (show ¬ j < 11 by omega), if_neg (show ¬ j < 41 by omega), if_neg (show ¬ j < 47 by omega), if_neg (show ¬ j < 77 by omega), if_neg (show ¬ j < 82 by omega), if_neg (show ¬ j < 123 by omega), if_neg (show ¬ j < 129 by omega), if_pos (show (j : Int) - 129 < s k 3 by omega)]
    · rw [if_neg z]
      by_cases z1 : j < 129
      · simp only [if_pos z1]
      · rw [if_neg (show ¬ j - 129 = c by omega)]
  have en : np (up (brow s k) (129 + c) x) = np (brow s k) := by unfold np; rw [up_ne (by omega)]
  refine ⟨BI_set h eb (up_ok h.1 (by omega) (by rw [if_neg (by omega)]; exact hx)) (up_ne (by omega)) (fun b _ h1 => ce b h1) (fun i hi z => ?_), eb⟩
  refine ⟨⟨up_ne (by omega), fun p hp => ⟨?_, tm_eq (up_ne (by omega)) (up_ne (by omega)), ?_⟩⟩, fun p hp => up_ne (by omega)⟩
  · unfold ss; rw [up_ne (by omega)]
  · unfold bg; rw [up_ne (by omega)]
def agB (T S F : Nat → Int) (n : Nat) (R : Rw → Nat → Int) (a : Rw) : Bool := !an (fun t => an (ntB T S F (stN R (t + 1) a) (t : Int)) n) 10
theorem agB_iff {T S F : Nat → Int} {n : Nat} {R : Rw → Nat → Int} {a : Rw} : agB T S F n R a = true ↔ agA T S F n R a := by
  unfold agB agA
  rw [Bool.not_eq_true', an_false]
def agC (s : mSt) (k : Nat) (R : Rw → Nat → Int) (a : Rw) : Bool := agB (s (k + 1)) (s (k + 2)) (s (k + 3)) (s k 0).toNat R a
def NTq (s : mSt) (k : Nat) : Prop := NSq s k ∧ ∀ i, i < (s k 0).toNat → 0 ≤ s (k + 1) i ∧ s (k + 1) i ≤ 9
theorem nt_cells {s t : mSt} {k : Nat} (h : NTq s k) (e : ∀ b, k ≤ b ∧ b ≤ k + 3 → t b = s b) : NTq t k := by
  unfold NTq NSq
  rw [e k (by omega), e (k + 1) (by omega), e (k + 2) (by omega)]; exact h
theorem sc_54 {a : Nat} (h : isSc a) : (a + 24 < 44 ∨ 63 < a) ∧ isBd (a + 1) ∧ isBd (a + 11) ∧ isNt (a + 21) := (show ∀ a ∈ scL, (a + 24 < 44 ∨ 63 < a) ∧ (a + 1) ∈ bdL ∧ (a + 11) ∈ bdL ∧ (a + 21) ∈ ntL by decide +kernel) a h
theorem agC_cells {s t : mSt} {a : Nat} {r : Option Nat} (h1 : isSc a) (hO : oRq s r) (ht : fW s t) (x : Rw) : agA (t (a + 21 + 1)) (t (a + 21 + 2)) (t (a + 21 + 3)) (t (a + 21) 0).toNat (ruC t r) x ↔ agC s (a + 21) (ruC s r) x = true := by
  have hq := sc_54 h1
  unfold agC
  rw [agB_iff, show ruC t r = ruC s r from funext (ruC_cells hO (fun b hb => ht b (by omega) (by omega))).1, ht (a + 21) (by omega) (by omega), ht (a + 21 + 1) (by omega) (by omega), ht (a + 21 + 2) (by omega) (by omega), ht (a + 21 + 3) (by omega) (by omega)]
theorem os_or {f : Nat → Bool} {n : Nat} (hn : n < 31) (h : f n = true) : iOr (os f n) (iShl 1 (n : Int)) = os f (n + 1) := by
  rw [os_s, if_pos h, shl1 hn]; exact or_os hn
theorem os_no {f : Nat → Bool} {n : Nat} (h : ¬ f n = true) : os f n = os f (n + 1) := by rw [os_s, if_neg h, Int.add_zero]
theorem v103 {X : (Nat → Int) × Nat} {d : Nat} {s : mSt} {Q : mQ} {a1 : Nat} {o2 : Option Nat} {x3 : Int} (h1 : isSc a1)
  (I6 : Int → Int → mSt → Prop) (m6 : Int → Int → mSt → Nat)
  (z1 : ∀ y4 : Int, ∀ y5 : Int, ∀ s : mSt, I6 y4 y5 s → 100 < (w32 (y5 * 20)) → Q (some (mI y4)) s)
  (z2 : ∀ y4 : Int, ∀ y5 : Int, ∀ s : mSt, I6 y4 y5 s → ¬ 100 < (w32 (y5 * 20)) → 54 ≠ (a1 + 1) ∧ BI s (a1 + 1))
  (z3 : ∀ y4 : Int, ∀ y5 : Int, ∀ s : mSt, I6 y4 y5 s → ¬ 100 < (w32 (y5 * 20)) → ∀ s3 : mSt, (BI s3 54 ∧ brow s3 54 = brow s (a1 + 1) ∧ fB s s3 54) → 0 ≤ x3 ∧ x3 < 6)
  (z4 : ∀ y4 : Int, ∀ y5 : Int, ∀ s : mSt, I6 y4 y5 s → ¬ 100 < (w32 (y5 * 20)) → ∀ s3 : mSt, (BI s3 54 ∧ brow s3 54 = brow s (a1 + 1) ∧ fB s s3 54) → ∀ t4 : mSt, t4 = uS s3 58 x3.toNat (w32 (y5 * 20)) → (NSq t4 (a1 + 21) ∧ ∀ i, i < (t4 (a1 + 21) 0).toNat → 0 ≤ t4 ((a1 + 21) + 1) i ∧ t4 ((a1 + 21) + 1) i ≤ 9) ∧ BI t4 54 ∧ ¬ t4 54 0 = 0 ∧ oRq t4 o2 ∧ brow t4 54 5 ≤ 999)
  (z5 : ∀ y4 : Int, ∀ y5 : Int, ∀ s : mSt, I6 y4 y5 s → ¬ 100 < (w32 (y5 * 20)) → ∀ s3 : mSt, (BI s3 54 ∧ brow s3 54 = brow s (a1 + 1) ∧ fB s s3 54) → ∀ t4 : mSt, t4 = uS s3 58 x3.toNat (w32 (y5 * 20)) → ∀ s5 : mSt, (agA (t4 ((a1 + 21) + 1)) (t4 ((a1 + 21) + 2)) (t4 ((a1 + 21) + 3)) (t4 (a1 + 21) 0).toNat (ruC t4 o2) (brow t4 54) ∧ fW t4 s5) → I6 (iOr y4 (iShl 1 y5)) (w32 (y5 + 1)) s5 ∧ m6 (iOr y4 (iShl 1 y5)) (w32 (y5 + 1)) s5 < m6 y4 y5 s)
  (z6 : ∀ y4 : Int, ∀ y5 : Int, ∀ s : mSt, I6 y4 y5 s → ¬ 100 < (w32 (y5 * 20)) → ∀ s3 : mSt, (BI s3 54 ∧ brow s3 54 = brow s (a1 + 1) ∧ fB s s3 54) → ∀ t4 : mSt, t4 = uS s3 58 x3.toNat (w32 (y5 * 20)) → ∀ s6 : mSt, (¬ agA (t4 ((a1 + 21) + 1)) (t4 ((a1 + 21) + 2)) (t4 ((a1 + 21) + 3)) (t4 (a1 + 21) 0).toNat (ruC t4 o2) (brow t4 54) ∧ fW t4 s6) → I6 y4 (w32 (y5 + 1)) s6 ∧ m6 y4 (w32 (y5 + 1)) s6 < m6 y4 y5 s)
  (z7 : I6 0 0 s) :
  Sp X (d + 12) 103 [mR 53, mR a1, Sum.inr (Sum.inr (Sum.inl o2)), mI x3] s Q := by
  have L : ∀ k : Nat, (∀ (y4 : Int) (y5 : Int) (s : mSt), I6 y4 y5 s → m6 y4 y5 s < k → Wp X (d + 12) 103 6 [some (mR 53), some (mR a1), some (Sum.inr (Sum.inr (Sum.inl o2))), some (mI x3), some (mI y4), some (mI y5)] [] s Q) := by
    intro k
    induction k with
    | zero => exact fun _ _ _ _ h => absurd h (Nat.not_lt_zero _)
    | succ k ih => exact fun y4 y5 s hI hm => b103_6 h1 (fun q1 => b103_68 h1 (z1 y4 y5 s hI q1)) (fun q2 => b103_16 h1 (c3 (bdm rfl) (sc_o0 h1) (z2 y4 y5 s hI q2) (fun s3 q3 => ⟨rfl, b103_27 h1 (z3 y4 y5 s hI q2 s3 q3) (Sp_gen (fun t4 e4 => (c106 (sc_o2 h1) (z4 y4 y5 s hI q2 s3 q3 t4 e4) (fun s5 q5 => ⟨1, rfl, b103_50 h1 (fun q => absurd q (by decide)) (fun _ => b103_53 h1 (b103_62 h1 (ih (iOr y4 (iShl 1 y5)) (w32 (y5 + 1)) s5 (z5 y4 y5 s hI q2 s3 q3 t4 e4 s5 q5).1 (Nat.lt_of_lt_of_le (z5 y4 y5 s hI q2 s3 q3 t4 e4 s5 q5).2 (Nat.le_of_lt_succ hm)))))⟩) (fun s6 q6 => ⟨0, rfl, b103_50 h1 (fun _ => b103_62 h1 (ih y4 (w32 (y5 + 1)) s6 (z6 y4 y5 s hI q2 s3 q3 t4 e4 s6 q6).1 (Nat.lt_of_lt_of_le (z6 y4 y5 s hI q2 s3 q3 t4 e4 s6 q6).2 (Nat.le_of_lt_succ hm)))) (fun q => absurd q (by decide))⟩))))⟩)))
  exact e103 (b103_0 h1 ((L (m6 0 0 s + 1)) 0 0 s z7 (Nat.lt_succ_self _)))

theorem c103 {X : (Nat → Int) × Nat} {d : Nat} {s : mSt} {Q : mQ} {a1 : Nat} {o2 : Option Nat} {x3 : Int} (h1 : isSc a1) (p1 : NTq s (a1 + 21) ∧ BI s (a1 + 1) ∧ ¬ s (a1 + 1) 0 = 0 ∧ oRq s o2 ∧ brow s (a1 + 1) 5 ≤ 999 ∧ (0 ≤ x3 ∧ x3 < s (a1 + 1) 3) ∧ ¬ pl (brow s (a1 + 1)) x3.toNat = true) (k : ∀ (v : Int) (t : mSt), (v = os (fun i => agC s (a1 + 21) (ruC s o2) (up (brow s (a1 + 1)) (123 + x3.toNat) (20 * (i : Int)))) 6 ∧ fW s t) → Q (some (mI v)) t) : Sp X (d + 12) 103 [mR 53, mR a1, Sum.inr (Sum.inr (Sum.inl o2)), mI x3] s Q := by
  obtain ⟨hN, hB, hd, hO, h5, hx, hw⟩ := p1
  have hq := sc_54 h1
  have e4 := bi_nc hB
  have n6 := nc_le hB.1
  let b := brow s (a1 + 1)
  let f : Nat → Bool := fun i => agC s (a1 + 21) (ruC s o2) (up b (123 + x3.toNat) (20 * (i : Int)))
  have told : ∀ t : mSt, fW s t → BI t (a1 + 1) ∧ brow t (a1 + 1) = b := fun t ht => BI_fW hq.2.1 (by omega) hB ht
  have st : ∀ (j : Nat) (t s3 t4 : mSt), j ≤ 5 → fW s t → (BI s3 54 ∧ brow s3 54 = brow t (a1 + 1) ∧ fB t s3 54) → t4 = uS s3 58 x3.toNat (w32 ((j : Int) * 20)) → BI t4 54 ∧ brow t4 54 = up b (123 + x3.toNat) (20 * (j : Int)) ∧ fW s t4 := fun j t s3 t4 hj ht h3 h4 => by
    rw [(told t ht).2] at h3
    rw [w32_of (by omega), Int.mul_comm] at h4
    have e := set_E (s := s3) (k := 54) (c := x3.toNat) (x := 20 * (j : Int)) is54 h3.1 (by rw [h3.2.1]; show x3.toNat < nc (brow s (a1 + 1)); omega) (by rw [h3.2.1]; exact hw) (by omega)
    subst h4
    refine ⟨e.1, by rw [← h3.2.1]; exact e.2, fun x g1 g2 => ?_⟩
    rw [uS_cell (by omega)]; exact (h3.2.2 x (by omega)).trans (ht x g1 g2)
  have pr : ∀ (j : Nat) (t4 : mSt), (BI t4 54 ∧ brow t4 54 = up b (123 + x3.toNat) (20 * (j : Int)) ∧ fW s t4) → NTq t4 (a1 + 21) ∧ BI t4 54 ∧ ¬ t4 54 0 = 0 ∧ oRq t4 o2 ∧ brow t4 54 5 ≤ 999 := fun j t4 h => by
    refine ⟨nt_cells hN (fun x hx => h.2.2 x (by omega) (by omega)), h.1, ?_, (ruC_cells hO (fun x hx => h.2.2 x (by omega) (by omega))).2, ?_⟩
    · rw [bi1 (s := t4) (k := 54), h.2.1, up_ne (by omega)]; show ¬ brow s (a1 + 1) 1 = 0; rw [← bi1]; exact hd
    · rw [h.2.1, up_ne (by omega)]; exact h5
  let J : Int → Int → mSt → Prop := fun y4 y5 t => ∃ j : Nat, y5 = j ∧ j ≤ 6 ∧ y4 = os f j ∧ fW s t
  refine v103 h1 J (fun _ y _ => (6 - y).toNat) ?_ ?_ ?_ ?_ ?_ ?_ ?_
  · rintro _ _ t ⟨j, rfl, hj, rfl, ht⟩ hc
    rw [w32_of (by omega)] at hc
    have : j = 6 := by omega
    subst this
    exact k _ t ⟨rfl, ht⟩
  · rintro _ _ t ⟨j, rfl, hj, rfl, ht⟩ hc
    exact ⟨by omega, (told t ht).1⟩
  · rintro _ _ t ⟨j, rfl, hj, rfl, ht⟩ hc _ _
    omega
  · rintro _ _ t ⟨j, rfl, hj, rfl, ht⟩ hc s3 h3 t4 h4
    rw [w32_of (by omega)] at hc
    exact pr j t4 (st j t s3 t4 (by omega) ht h3 h4)
  · rintro _ _ t ⟨j, rfl, hj, rfl, ht⟩ hc s3 h3 t4 h4 u hu
    rw [w32_of (by omega)] at hc
    have q := st j t s3 t4 (by omega) ht h3 h4
    have hf : f j = true := (agC_cells h1 hO q.2.2 _).1 (by rw [← q.2.1]; exact hu.1)
    rw [os_or (by omega) hf, w32_of (by omega)]
    exact ⟨⟨j + 1, by omega, by omega, rfl, fW_tr q.2.2 hu.2⟩, by omega⟩
  · rintro _ _ t ⟨j, rfl, hj, rfl, ht⟩ hc s3 h3 t4 h4 u hu
    rw [w32_of (by omega)] at hc
    have q := st j t s3 t4 (by omega) ht h3 h4
    have hf : ¬ f j = true := fun z => hu.1 (by rw [q.2.1]; exact (agC_cells h1 hO q.2.2 _).2 z)
    rw [os_no hf, w32_of (by omega)]
    exact ⟨⟨j + 1, by omega, by omega, rfl, fW_tr q.2.2 hu.2⟩, by omega⟩
  · exact ⟨0, rfl, by omega, rfl, fun _ _ _ => rfl⟩
theorem v104 {X : (Nat → Int) × Nat} {d : Nat} {s : mSt} {Q : mQ} {a1 : Nat} {o2 : Option Nat} {x3 : Int} (h1 : isSc a1)
  (I6 : Int → Int → mSt → Prop) (m6 : Int → Int → mSt → Nat)
  (z1 : ∀ y4 : Int, ∀ y5 : Int, ∀ s : mSt, I6 y4 y5 s → 3 < y5 → Q (some (mI y4)) s)
  (z2 : ∀ y4 : Int, ∀ y5 : Int, ∀ s : mSt, I6 y4 y5 s → ¬ 3 < y5 → 54 ≠ (a1 + 1) ∧ BI s (a1 + 1))
  (z3 : ∀ y4 : Int, ∀ y5 : Int, ∀ s : mSt, I6 y4 y5 s → ¬ 3 < y5 → ∀ s3 : mSt, (BI s3 54 ∧ brow s3 54 = brow s (a1 + 1) ∧ fB s s3 54) → 0 ≤ x3 ∧ x3 < 6)
  (z4 : ∀ y4 : Int, ∀ y5 : Int, ∀ s : mSt, I6 y4 y5 s → ¬ 3 < y5 → ∀ s3 : mSt, (BI s3 54 ∧ brow s3 54 = brow s (a1 + 1) ∧ fB s s3 54) → ∀ t4 : mSt, t4 = uS s3 59 x3.toNat y5 → (NSq t4 (a1 + 21) ∧ ∀ i, i < (t4 (a1 + 21) 0).toNat → 0 ≤ t4 ((a1 + 21) + 1) i ∧ t4 ((a1 + 21) + 1) i ≤ 9) ∧ BI t4 54 ∧ ¬ t4 54 0 = 0 ∧ oRq t4 o2 ∧ brow t4 54 5 ≤ 999)
  (z5 : ∀ y4 : Int, ∀ y5 : Int, ∀ s : mSt, I6 y4 y5 s → ¬ 3 < y5 → ∀ s3 : mSt, (BI s3 54 ∧ brow s3 54 = brow s (a1 + 1) ∧ fB s s3 54) → ∀ t4 : mSt, t4 = uS s3 59 x3.toNat y5 → ∀ s5 : mSt, (agA (t4 ((a1 + 21) + 1)) (t4 ((a1 + 21) + 2)) (t4 ((a1 + 21) + 3)) (t4 (a1 + 21) 0).toNat (ruC t4 o2) (brow t4 54) ∧ fW t4 s5) → I6 (iOr y4 (iShl 1 y5)) (w32 (y5 + 1)) s5 ∧ m6 (iOr y4 (iShl 1 y5)) (w32 (y5 + 1)) s5 < m6 y4 y5 s)
  (z6 : ∀ y4 : Int, ∀ y5 : Int, ∀ s : mSt, I6 y4 y5 s → ¬ 3 < y5 → ∀ s3 : mSt, (BI s3 54 ∧ brow s3 54 = brow s (a1 + 1) ∧ fB s s3 54) → ∀ t4 : mSt, t4 = uS s3 59 x3.toNat y5 → ∀ s6 : mSt, (¬ agA (t4 ((a1 + 21) + 1)) (t4 ((a1 + 21) + 2)) (t4 ((a1 + 21) + 3)) (t4 (a1 + 21) 0).toNat (ruC t4 o2) (brow t4 54) ∧ fW t4 s6) → I6 y4 (w32 (y5 + 1)) s6 ∧ m6 y4 (w32 (y5 + 1)) s6 < m6 y4 y5 s)
  (z7 : I6 0 0 s) :
  Sp X (d + 12) 104 [mR 53, mR a1, Sum.inr (Sum.inr (Sum.inl o2)), mI x3] s Q := by
  have L : ∀ k : Nat, (∀ (y4 : Int) (y5 : Int) (s : mSt), I6 y4 y5 s → m6 y4 y5 s < k → Wp X (d + 12) 104 6 [some (mR 53), some (mR a1), some (Sum.inr (Sum.inr (Sum.inl o2))), some (mI x3), some (mI y4), some (mI y5)] [] s Q) := by
    intro k
    induction k with
    | zero => exact fun _ _ _ _ h => absurd h (Nat.not_lt_zero _)
    | succ k ih => exact fun y4 y5 s hI hm => b104_6 h1 (fun q1 => b104_61 h1 (z1 y4 y5 s hI q1)) (fun q2 => b104_12 h1 (c3 (bdm rfl) (sc_o0 h1) (z2 y4 y5 s hI q2) (fun s3 q3 => ⟨rfl, b104_23 h1 (z3 y4 y5 s hI q2 s3 q3) (Sp_gen (fun t4 e4 => (c106 (sc_o2 h1) (z4 y4 y5 s hI q2 s3 q3 t4 e4) (fun s5 q5 => ⟨1, rfl, b104_43 h1 (fun q => absurd q (by decide)) (fun _ => b104_46 h1 (b104_55 h1 (ih (iOr y4 (iShl 1 y5)) (w32 (y5 + 1)) s5 (z5 y4 y5 s hI q2 s3 q3 t4 e4 s5 q5).1 (Nat.lt_of_lt_of_le (z5 y4 y5 s hI q2 s3 q3 t4 e4 s5 q5).2 (Nat.le_of_lt_succ hm)))))⟩) (fun s6 q6 => ⟨0, rfl, b104_43 h1 (fun _ => b104_55 h1 (ih y4 (w32 (y5 + 1)) s6 (z6 y4 y5 s hI q2 s3 q3 t4 e4 s6 q6).1 (Nat.lt_of_lt_of_le (z6 y4 y5 s hI q2 s3 q3 t4 e4 s6 q6).2 (Nat.le_of_lt_succ hm)))) (fun q => absurd q (by decide))⟩))))⟩)))
  exact e104 (b104_0 h1 ((L (m6 0 0 s + 1)) 0 0 s z7 (Nat.lt_succ_self _)))

theorem c104 {X : (Nat → Int) × Nat} {d : Nat} {s : mSt} {Q : mQ} {a1 : Nat} {o2 : Option Nat} {x3 : Int} (h1 : isSc a1) (p1 : NTq s (a1 + 21) ∧ BI s (a1 + 1) ∧ ¬ s (a1 + 1) 0 = 0 ∧ oRq s o2 ∧ brow s (a1 + 1) 5 ≤ 999 ∧ (0 ≤ x3 ∧ x3 < s (a1 + 1) 3)) (k : ∀ (v : Int) (t : mSt), (v = os (fun i => agC s (a1 + 21) (ruC s o2) (up (brow s (a1 + 1)) (129 + x3.toNat) (1 * (i : Int)))) 4 ∧ fW s t) → Q (some (mI v)) t) : Sp X (d + 12) 104 [mR 53, mR a1, Sum.inr (Sum.inr (Sum.inl o2)), mI x3] s Q := by
  obtain ⟨hN, hB, hd, hO, h5, hx⟩ := p1
  have hq := sc_54 h1
  have e4 := bi_nc hB
  have n6 := nc_le hB.1
  let b := brow s (a1 + 1)
  let f : Nat → Bool := fun i => agC s (a1 + 21) (ruC s o2) (up b (129 + x3.toNat) (1 * (i : Int)))
  have told : ∀ t : mSt, fW s t → BI t (a1 + 1) ∧ brow t (a1 + 1) = b := fun t ht => BI_fW hq.2.1 (by omega) hB ht
  have st : ∀ (j : Nat) (t s3 t4 : mSt), j ≤ 3 → fW s t → (BI s3 54 ∧ brow s3 54 = brow t (a1 + 1) ∧ fB t s3 54) → t4 = uS s3 59 x3.toNat (j : Int) → BI t4 54 ∧ brow t4 54 = up b (129 + x3.toNat) (1 * (j : Int)) ∧ fW s t4 := fun j t s3 t4 hj ht h3 h4 => by
    rw [(told t ht).2] at h3
    have e := set_R (s := s3) (k := 54) (c := x3.toNat) (x := (j : Int)) is54 h3.1 (by rw [h3.2.1]; show x3.toNat < nc (brow s (a1 + 1)); omega) (by omega)
    subst h4
    refine ⟨e.1, by rw [← h3.2.1, Int.one_mul]; exact e.2, fun x g1 g2 => ?_⟩
    rw [uS_cell (by omega)]; exact (h3.2.2 x (by omega)).trans (ht x g1 g2)
  have pr : ∀ (j : Nat) (t4 : mSt), (BI t4 54 ∧ brow t4 54 = up b (129 + x3.toNat) (1 * (j : Int)) ∧ fW s t4) → NTq t4 (a1 + 21) ∧ BI t4 54 ∧ ¬ t4 54 0 = 0 ∧ oRq t4 o2 ∧ brow t4 54 5 ≤ 999 := fun j t4 h => by
    refine ⟨nt_cells hN (fun x hx => h.2.2 x (by omega) (by omega)), h.1, ?_, (ruC_cells hO (fun x hx => h.2.2 x (by omega) (by omega))).2, ?_⟩
    · rw [bi1 (s := t4) (k := 54), h.2.1, up_ne (by omega)]; show ¬ brow s (a1 + 1) 1 = 0; rw [← bi1]; exact hd
    · rw [h.2.1, up_ne (by omega)]; exact h5
  let J : Int → Int → mSt → Prop := fun y4 y5 t => ∃ j : Nat, y5 = j ∧ j ≤ 4 ∧ y4 = os f j ∧ fW s t
  refine v104 h1 J (fun _ y _ => (6 - y).toNat) ?_ ?_ ?_ ?_ ?_ ?_ ?_
  · rintro _ _ t ⟨j, rfl, hj, rfl, ht⟩ hc
    have : j = 4 := by omega
    subst this
    exact k _ t ⟨rfl, ht⟩
  · rintro _ _ t ⟨j, rfl, hj, rfl, ht⟩ hc
    exact ⟨by omega, (told t ht).1⟩
  · rintro _ _ t ⟨j, rfl, hj, rfl, ht⟩ hc _ _
    omega
  · rintro _ _ t ⟨j, rfl, hj, rfl, ht⟩ hc s3 h3 t4 h4
    exact pr j t4 (st j t s3 t4 (by omega) ht h3 h4)
  · rintro _ _ t ⟨j, rfl, hj, rfl, ht⟩ hc s3 h3 t4 h4 u hu
    have q := st j t s3 t4 (by omega) ht h3 h4
    have hf : f j = true := (agC_cells h1 hO q.2.2 _).1 (by rw [← q.2.1]; exact hu.1)
    rw [os_or (by omega) hf, w32_of (by omega)]
    exact ⟨⟨j + 1, by omega, by omega, rfl, fW_tr q.2.2 hu.2⟩, by omega⟩
  · rintro _ _ t ⟨j, rfl, hj, rfl, ht⟩ hc s3 h3 t4 h4 u hu
    have q := st j t s3 t4 (by omega) ht h3 h4
    have hf : ¬ f j = true := fun z => hu.1 (by rw [q.2.1]; exact (agC_cells h1 hO q.2.2 _).2 z)
    rw [os_no hf, w32_of (by omega)]
    exact ⟨⟨j + 1, by omega, by omega, rfl, fW_tr q.2.2 hu.2⟩, by omega⟩
  · exact ⟨0, rfl, by omega, rfl, fun _ _ _ => rfl⟩
def rlI (i : Nat) : Option Nat := if i = 0 then none else some (83 + 4 * (i - 1))
theorem v105 {X : (Nat → Int) × Nat} {d : Nat} {s : mSt} {Q : mQ} {a1 : Nat} {x3 : Int} (h1 : isSc a1)
  (I6 : Int → Int → mSt → Prop) (m6 : Int → Int → mSt → Nat)
  (z1 : ∀ y4 : Int, ∀ y5 : Int, ∀ s : mSt, I6 y4 y5 s → x3 < y5 → Q (some (mI y4)) s)
  (z2 : ∀ y4 : Int, ∀ y5 : Int, ∀ s : mSt, I6 y4 y5 s → ¬ x3 < y5 → 6 < y5 → Q (some (mI y4)) s)
  (z3 : ∀ y4 : Int, ∀ y5 : Int, ∀ s : mSt, I6 y4 y5 s → ¬ x3 < y5 → ¬ 6 < y5 → 54 ≠ (a1 + 1) ∧ BI s (a1 + 1))
  (z4 : ∀ y4 : Int, ∀ y5 : Int, ∀ s : mSt, I6 y4 y5 s → ¬ x3 < y5 → ¬ 6 < y5 → ∀ s5 : mSt, (BI s5 54 ∧ brow s5 54 = brow s (a1 + 1) ∧ fB s s5 54) → ¬ y5 = 0 → isRl (s5 6 (w32 (y5 - 1)).toNat).toNat)
  (z5 : ∀ y4 : Int, ∀ y5 : Int, ∀ s : mSt, I6 y4 y5 s → ¬ x3 < y5 → ¬ 6 < y5 → ∀ s5 : mSt, (BI s5 54 ∧ brow s5 54 = brow s (a1 + 1) ∧ fB s s5 54) → ¬ y5 = 0 → 0 ≤ (w32 (y5 - 1)) ∧ (w32 (y5 - 1)) < 6)
  (z6 : ∀ y4 : Int, ∀ y5 : Int, ∀ s : mSt, I6 y4 y5 s → ¬ x3 < y5 → ¬ 6 < y5 → ∀ s5 : mSt, (BI s5 54 ∧ brow s5 54 = brow s (a1 + 1) ∧ fB s s5 54) → ¬ y5 = 0 → s5 6 (w32 (y5 - 1)).toNat = (((s5 6 (w32 (y5 - 1)).toNat).toNat : Nat) : Int))
  (z7 : ∀ y4 : Int, ∀ y5 : Int, ∀ s : mSt, I6 y4 y5 s → ¬ x3 < y5 → ¬ 6 < y5 → ∀ s5 : mSt, (BI s5 54 ∧ brow s5 54 = brow s (a1 + 1) ∧ fB s s5 54) → ¬ y5 = 0 → (NSq s5 (a1 + 21) ∧ ∀ i, i < (s5 (a1 + 21) 0).toNat → 0 ≤ s5 ((a1 + 21) + 1) i ∧ s5 ((a1 + 21) + 1) i ≤ 9) ∧ BI s5 54 ∧ ¬ s5 54 0 = 0 ∧ oRq s5 (some ((s5 6 (w32 (y5 - 1)).toNat).toNat)) ∧ brow s5 54 5 ≤ 999)
  (z8 : ∀ y4 : Int, ∀ y5 : Int, ∀ s : mSt, I6 y4 y5 s → ¬ x3 < y5 → ¬ 6 < y5 → ∀ s5 : mSt, (BI s5 54 ∧ brow s5 54 = brow s (a1 + 1) ∧ fB s s5 54) → ¬ y5 = 0 → ∀ s7 : mSt, (agA (s5 ((a1 + 21) + 1)) (s5 ((a1 + 21) + 2)) (s5 ((a1 + 21) + 3)) (s5 (a1 + 21) 0).toNat (ruC s5 (some ((s5 6 (w32 (y5 - 1)).toNat).toNat))) (brow s5 54) ∧ fW s5 s7) → I6 (iOr y4 (iShl 1 y5)) (w32 (y5 + 1)) s7 ∧ m6 (iOr y4 (iShl 1 y5)) (w32 (y5 + 1)) s7 < m6 y4 y5 s)
  (z9 : ∀ y4 : Int, ∀ y5 : Int, ∀ s : mSt, I6 y4 y5 s → ¬ x3 < y5 → ¬ 6 < y5 → ∀ s5 : mSt, (BI s5 54 ∧ brow s5 54 = brow s (a1 + 1) ∧ fB s s5 54) → ¬ y5 = 0 → ∀ s8 : mSt, (¬ agA (s5 ((a1 + 21) + 1)) (s5 ((a1 + 21) + 2)) (s5 ((a1 + 21) + 3)) (s5 (a1 + 21) 0).toNat (ruC s5 (some ((s5 6 (w32 (y5 - 1)).toNat).toNat))) (brow s5 54) ∧ fW s5 s8) → I6 y4 (w32 (y5 + 1)) s8 ∧ m6 y4 (w32 (y5 + 1)) s8 < m6 y4 y5 s)
  (z10 : ∀ y4 : Int, ∀ y5 : Int, ∀ s : mSt, I6 y4 y5 s → ¬ x3 < y5 → ¬ 6 < y5 → ∀ s5 : mSt, (BI s5 54 ∧ brow s5 54 = brow s (a1 + 1) ∧ fB s s5 54) → y5 = 0 → (NSq s5 (a1 + 21) ∧ ∀ i, i < (s5 (a1 + 21) 0).toNat → 0 ≤ s5 ((a1 + 21) + 1) i ∧ s5 ((a1 + 21) + 1) i ≤ 9) ∧ BI s5 54 ∧ ¬ s5 54 0 = 0 ∧ oRq s5 none ∧ brow s5 54 5 ≤ 999)
  (z11 : ∀ y4 : Int, ∀ y5 : Int, ∀ s : mSt, I6 y4 y5 s → ¬ x3 < y5 → ¬ 6 < y5 → ∀ s5 : mSt, (BI s5 54 ∧ brow s5 54 = brow s (a1 + 1) ∧ fB s s5 54) → y5 = 0 → ∀ s10 : mSt, (agA (s5 ((a1 + 21) + 1)) (s5 ((a1 + 21) + 2)) (s5 ((a1 + 21) + 3)) (s5 (a1 + 21) 0).toNat (ruC s5 none) (brow s5 54) ∧ fW s5 s10) → I6 (iOr y4 (iShl 1 y5)) (w32 (y5 + 1)) s10 ∧ m6 (iOr y4 (iShl 1 y5)) (w32 (y5 + 1)) s10 < m6 y4 y5 s)
  (z12 : ∀ y4 : Int, ∀ y5 : Int, ∀ s : mSt, I6 y4 y5 s → ¬ x3 < y5 → ¬ 6 < y5 → ∀ s5 : mSt, (BI s5 54 ∧ brow s5 54 = brow s (a1 + 1) ∧ fB s s5 54) → y5 = 0 → ∀ s11 : mSt, (¬ agA (s5 ((a1 + 21) + 1)) (s5 ((a1 + 21) + 2)) (s5 ((a1 + 21) + 3)) (s5 (a1 + 21) 0).toNat (ruC s5 none) (brow s5 54) ∧ fW s5 s11) → I6 y4 (w32 (y5 + 1)) s11 ∧ m6 y4 (w32 (y5 + 1)) s11 < m6 y4 y5 s)
  (z13 : I6 0 0 s) :
  Sp X (d + 12) 105 [mR 53, mR a1, mR 6, mI x3] s Q := by
  have L : ∀ k : Nat, (∀ (y4 : Int) (y5 : Int) (s : mSt), I6 y4 y5 s → m6 y4 y5 s < k → Wp X (d + 12) 105 6 [some (mR 53), some (mR a1), some (mR 6), some (mI x3), some (mI y4), some (mI y5)] [] s Q) := by
    intro k
    induction k with
    | zero => exact fun _ _ _ _ h => absurd h (Nat.not_lt_zero _)
    | succ k ih => exact fun y4 y5 s hI hm => b105_6 h1 (fun q1 => b105_71 h1 (z1 y4 y5 s hI q1)) (fun q2 => b105_12 h1 (fun q3 => b105_71 h1 (z2 y4 y5 s hI q2 q3)) (fun q4 => b105_19 h1 (c3 (bdm rfl) (sc_o0 h1) (z3 y4 y5 s hI q2 q4) (fun s5 q5 => ⟨rfl, b105_30 h1 (fun q6 => b105_44 (r1 := (s5 6 (w32 (y5 - 1)).toNat).toNat) h1 (sc_o2 h1) (z4 y4 y5 s hI q2 q4 s5 q5 q6) (z5 y4 y5 s hI q2 q4 s5 q5 q6) (z6 y4 y5 s hI q2 q4 s5 q5 q6) (b105_50 h1 (sc_o2 h1) (c106 (sc_o2 h1) (z7 y4 y5 s hI q2 q4 s5 q5 q6) (fun s7 q7 => ⟨1, rfl, b105_53 h1 (fun q => absurd q (by decide)) (fun _ => b105_56 h1 (b105_65 h1 (ih (iOr y4 (iShl 1 y5)) (w32 (y5 + 1)) s7 (z8 y4 y5 s hI q2 q4 s5 q5 q6 s7 q7).1 (Nat.lt_of_lt_of_le (z8 y4 y5 s hI q2 q4 s5 q5 q6 s7 q7).2 (Nat.le_of_lt_succ hm)))))⟩) (fun s8 q8 => ⟨0, rfl, b105_53 h1 (fun _ => b105_65 h1 (ih y4 (w32 (y5 + 1)) s8 (z9 y4 y5 s hI q2 q4 s5 q5 q6 s8 q8).1 (Nat.lt_of_lt_of_le (z9 y4 y5 s hI q2 q4 s5 q5 q6 s8 q8).2 (Nat.le_of_lt_succ hm)))) (fun q => absurd q (by decide))⟩)))) (fun q9 => b105_40 h1 (sc_o2 h1) (b105_50 h1 (sc_o2 h1) (c106 (sc_o2 h1) (z10 y4 y5 s hI q2 q4 s5 q5 q9) (fun s10 q10 => ⟨1, rfl, b105_53 h1 (fun q => absurd q (by decide)) (fun _ => b105_56 h1 (b105_65 h1 (ih (iOr y4 (iShl 1 y5)) (w32 (y5 + 1)) s10 (z11 y4 y5 s hI q2 q4 s5 q5 q9 s10 q10).1 (Nat.lt_of_lt_of_le (z11 y4 y5 s hI q2 q4 s5 q5 q9 s10 q10).2 (Nat.le_of_lt_succ hm)))))⟩) (fun s11 q11 => ⟨0, rfl, b105_53 h1 (fun _ => b105_65 h1 (ih y4 (w32 (y5 + 1)) s11 (z12 y4 y5 s hI q2 q4 s5 q5 q9 s11 q11).1 (Nat.lt_of_lt_of_le (z12 y4 y5 s hI q2 q4 s5 q5 q9 s11 q11).2 (Nat.le_of_lt_succ hm)))) (fun q => absurd q (by decide))⟩))))⟩))))
  exact e105 (b105_0 h1 ((L (m6 0 0 s + 1)) 0 0 s z13 (Nat.lt_succ_self _)))

theorem c105 {X : (Nat → Int) × Nat} {d : Nat} {s : mSt} {Q : mQ} {a1 : Nat} {x3 : Int} (h1 : isSc a1) (p1 : NTq s (a1 + 21) ∧ BI s (a1 + 1) ∧ ¬ s (a1 + 1) 0 = 0 ∧ brow s (a1 + 1) 5 ≤ 999 ∧ (0 ≤ x3 ∧ x3 ≤ 6) ∧ (∀ r, r < 6 → s 6 r = ((83 + 4 * r : Nat) : Int)) ∧ ∀ i, i ≤ x3.toNat → oRq s (rlI i)) (k : ∀ (v : Int) (t : mSt), (v = os (fun i => agC s (a1 + 21) (ruC s (rlI i)) (brow s (a1 + 1))) (x3.toNat + 1) ∧ fW s t) → Q (some (mI v)) t) : Sp X (d + 12) 105 [mR 53, mR a1, mR 6, mI x3] s Q := by
  obtain ⟨hN, hB, hd, h5, hx, h6, hO⟩ := p1
  have hq := sc_54 h1
  let b := brow s (a1 + 1)
  let f : Nat → Bool := fun i => agC s (a1 + 21) (ruC s (rlI i)) b
  have told : ∀ t : mSt, fW s t → BI t (a1 + 1) ∧ brow t (a1 + 1) = b := fun t ht => BI_fW hq.2.1 (by omega) hB ht
  have st : ∀ (t s3 : mSt), fW s t → (BI s3 54 ∧ brow s3 54 = brow t (a1 + 1) ∧ fB t s3 54) → BI s3 54 ∧ brow s3 54 = b ∧ fW s s3 := fun t s3 ht h3 => by
    rw [(told t ht).2] at h3
    exact ⟨h3.1, h3.2.1, fun x g1 g2 => (h3.2.2 x (by omega)).trans (ht x g1 g2)⟩
  have pr : ∀ (j : Nat) (t4 : mSt), j ≤ x3.toNat → (BI t4 54 ∧ brow t4 54 = b ∧ fW s t4) → NTq t4 (a1 + 21) ∧ BI t4 54 ∧ ¬ t4 54 0 = 0 ∧ oRq t4 (rlI j) ∧ brow t4 54 5 ≤ 999 := fun j t4 hj h => by
    refine ⟨nt_cells hN (fun x hx => h.2.2 x (by omega) (by omega)), h.1, ?_, (ruC_cells (hO j hj) (fun x hx => h.2.2 x (by omega) (by omega))).2, ?_⟩
    · rw [bi1 (s := t4) (k := 54), h.2.1]; show ¬ brow s (a1 + 1) 1 = 0; rw [← bi1]; exact hd
    · rw [h.2.1]; exact h5
  have ri : ∀ (j : Nat) (t4 : mSt), ¬ (j : Int) = 0 → j ≤ 6 → fW s t4 → t4 6 (w32 ((j : Int) - 1)).toNat = ((83 + 4 * (j - 1) : Nat) : Int) ∧ rlI j = some (83 + 4 * (j - 1)) := fun j t4 hj hj6 h => by
    rw [wt (n := j - 1) (by omega) (by omega), h 6 (by omega) (by omega), h6 _ (by omega)]
    exact ⟨rfl, by unfold rlI; rw [if_neg (by omega)]⟩
  let J : Int → Int → mSt → Prop := fun y4 y5 t => ∃ j : Nat, y5 = j ∧ j ≤ x3.toNat + 1 ∧ y4 = os f j ∧ fW s t
  have nx1 : ∀ (j : Nat) (u : mSt), j ≤ x3.toNat → f j = true → fW s u → J (iOr (os f j) (iShl 1 (j : Int))) (w32 ((j : Int) + 1)) u ∧ (8 - w32 ((j : Int) + 1)).toNat < (8 - (j : Int)).toNat := fun j u hj hf hu => by
    rw [os_or (by omega) hf, w32_of (by omega)]
    exact ⟨⟨j + 1, by omega, by omega, rfl, hu⟩, by omega⟩
  have nx0 : ∀ (j : Nat) (u : mSt), j ≤ x3.toNat → ¬ f j = true → fW s u → J (os f j) (w32 ((j : Int) + 1)) u ∧ (8 - w32 ((j : Int) + 1)).toNat < (8 - (j : Int)).toNat := fun j u hj hf hu => by
    rw [os_no hf, w32_of (by omega)]
    exact ⟨⟨j + 1, by omega, by omega, rfl, hu⟩, by omega⟩
  refine v105 h1 J (fun _ y _ => (8 - y).toNat) ?_ ?_ ?_ ?_ ?_ ?_ ?_ ?_ ?_ ?_ ?_ ?_ ?_
  · rintro _ _ t ⟨j, rfl, hj, rfl, ht⟩ hc
    have : j = x3.toNat + 1 := by omega
    subst this
    exact k _ t ⟨rfl, ht⟩
  · rintro _ _ t ⟨j, rfl, hj, rfl, ht⟩ hc hc2
    omega
  · rintro _ _ t ⟨j, rfl, hj, rfl, ht⟩ hc _
    exact ⟨by omega, (told t ht).1⟩
  · rintro _ _ t ⟨j, rfl, hj, rfl, ht⟩ hc hc2 s3 h3 hz
    rw [(ri j s3 hz (by omega) (st t s3 ht h3).2.2).1, tnc]; exact rl_of (by omega)
  · rintro _ _ t ⟨j, rfl, hj, rfl, ht⟩ hc hc2 s3 h3 hz
    rw [w32_of (by omega)]; omega
  · rintro _ _ t ⟨j, rfl, hj, rfl, ht⟩ hc hc2 s3 h3 hz
    rw [(ri j s3 hz (by omega) (st t s3 ht h3).2.2).1, tnc]
  · rintro _ _ t ⟨j, rfl, hj, rfl, ht⟩ hc hc2 s3 h3 hz
    have q := st t s3 ht h3
    have r := ri j s3 hz (by omega) q.2.2
    rw [r.1, tnc, ← r.2]
    exact pr j s3 (by omega) q
  · rintro _ _ t ⟨j, rfl, hj, rfl, ht⟩ hc hc2 s3 h3 hz u hu
    have q := st t s3 ht h3
    have r := ri j s3 hz (by omega) q.2.2
    rw [r.1, tnc, ← r.2, q.2.1] at hu
    exact nx1 j u (by omega) ((agC_cells h1 (hO j (by omega)) q.2.2 _).1 hu.1) (fW_tr q.2.2 hu.2)
  · rintro _ _ t ⟨j, rfl, hj, rfl, ht⟩ hc hc2 s3 h3 hz u hu
    have q := st t s3 ht h3
    have r := ri j s3 hz (by omega) q.2.2
    rw [r.1, tnc, ← r.2, q.2.1] at hu
    exact nx0 j u (by omega) (fun z => hu.1 ((agC_cells h1 (hO j (by omega)) q.2.2 _).2 z)) (fW_tr q.2.2 hu.2)
  · rintro _ _ t ⟨j, rfl, hj, rfl, ht⟩ hc hc2 s3 h3 hz
    have q := st t s3 ht h3
    have r : rlI j = none := by unfold rlI; rw [if_pos (by omega)]
    rw [← r]
    exact pr j s3 (by omega) q
  · rintro _ _ t ⟨j, rfl, hj, rfl, ht⟩ hc hc2 s3 h3 hz u hu
    have q := st t s3 ht h3
    have r : rlI j = none := by unfold rlI; rw [if_pos (by omega)]
    rw [← r, q.2.1] at hu
    exact nx1 j u (by omega) ((agC_cells h1 (hO j (by omega)) q.2.2 _).1 hu.1) (fW_tr q.2.2 hu.2)
  · rintro _ _ t ⟨j, rfl, hj, rfl, ht⟩ hc hc2 s3 h3 hz u hu
    have q := st t s3 ht h3
    have r : rlI j = none := by unfold rlI; rw [if_pos (by omega)]
    rw [← r, q.2.1] at hu
    exact nx0 j u (by omega) (fun z => hu.1 ((agC_cells h1 (hO j (by omega)) q.2.2 _).2 z)) (fW_tr q.2.2 hu.2)
  · exact ⟨0, rfl, by omega, rfl, fun _ _ _ => rfl⟩
