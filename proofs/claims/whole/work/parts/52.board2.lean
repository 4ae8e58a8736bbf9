/-! a Board changed -/
theorem row_ext {a b : Rw} (h1 : ∀ j, j < 41 ∨ 77 ≤ j → a j = b j) (h2 : ∀ c, c < 6 → a (41 + c) = b (41 + c)) (h3 : ∀ c, c < 6 → ∀ p, p < 5 → bg a c p = bg b c p) : a = b := by
  funext j
  by_cases c1 : j < 41 ∨ 77 ≤ j
  · exact h1 j c1
  by_cases c2 : j < 47
  · have := h2 (j - 41) (by omega)
    rw [show 41 + (j - 41) = j by omega] at this
    exact this
  · have := h3 ((j - 47) / 5) (by omega) ((j - 47) % 5) (by omega)
    unfold bg at this
    rw [show 47 + 5 * ((j - 47) / 5) + (j - 47) % 5 = j by omega] at this
    exact this
theorem brow_out {s t : mSt} {k k' j : Nat} (hj : j < 41 ∨ 77 ≤ j) (e0 : ∀ i, i < 5 → t k' i = s k i) (e1 : ∀ p, p < 5 → t (k' + 1) p = s (k + 1) p) (e2 : ∀ p, p < 5 → t (k' + 2) p = s (k + 2) p)
    (e3 : ∀ p, p < 6 → t (k' + 3) p = s (k + 3) p) (e4 : ∀ p, p < 6 → t (k' + 4) p = s (k + 4) p) (e5 : ∀ p, p < 6 → t (k' + 5) p = s (k + 5) p) (e6 : ∀ p, p < 30 → t (k' + 6) p = s (k + 6) p) (e7 : t 417 = s 417) : brow t k' j = brow s k j := by
  unfold brow
  rw [e0 0 (by omega), e0 2 (by omega), e0 3 (by omega), e7]
  by_cases c1 : 82 ≤ j ∧ (j < 117 ∨ 135 ≤ j)
  · rw [if_pos c1, if_pos c1]
  rw [if_neg c1, if_neg c1]
  by_cases c2 : s k 0 = 0
  · rw [if_pos c2, if_pos c2]
  rw [if_neg c2, if_neg c2]
  by_cases c3 : j = 0
  · rw [if_pos c3, if_pos c3]
  rw [if_neg c3, if_neg c3]
  by_cases c4 : j < 6
  · rw [if_pos c4, if_pos c4, e0 _ (by omega)]
  rw [if_neg c4, if_neg c4]
  by_cases c5 : j < 11
  · rw [if_pos c5, if_pos c5, e1 _ (by omega)]
  rw [if_neg c5, if_neg c5]
  by_cases c6 : j < 41
  · rw [if_pos c6, if_pos c6, e6 _ (by omega)]
  rw [if_neg c6, if_neg c6, if_neg (show ¬ j < 47 by omega), if_neg (show ¬ j < 77 by omega), if_neg (show ¬ j < 47 by omega), if_neg (show ¬ j < 77 by omega)]
  by_cases c7 : j < 82
  · rw [if_pos c7, if_pos c7, e2 _ (by omega)]
  rw [if_neg c7, if_neg c7]
  by_cases c8 : j < 123
  · rw [if_pos c8, if_pos c8, e3 _ (by omega)]
  rw [if_neg c8, if_neg c8]
  by_cases c9 : j < 129
  · rw [if_pos c9, if_pos c9, e4 _ (by omega)]
  rw [if_neg c9, if_neg c9, e5 _ (by omega)]
theorem brow_B {s : mSt} {k c p : Nat} (hd : ¬ s k 0 = 0) (hc : c < 6) (hp : p < 5) : bg (brow s k) c p = if bq (s k 5) c = true ∧ (p : Int) < s k 2 then s (k + 7) (5 * c + p) else -1 := by
  unfold bg brow
  rw [if_neg (by omega), if_neg hd, if_neg (by omega), if_neg (by omega), if_neg (by omega), if_neg (by omega), if_neg (by omega), if_pos (by omega)]
  rw [show (47 + 5 * c + p - 47) / 5 = c by omega, show (47 + 5 * c + p - 47) % 5 = p by omega, show 47 + 5 * c + p - 47 = 5 * c + p by omega]
theorem brow_z {s : mSt} {k j : Nat} (hd : s k 0 = 0) (hj : j < 82 ∨ 117 ≤ j ∧ j < 135) : brow s k j = 0 := by
  unfold brow
  rw [if_neg (by omega), if_pos hd]
theorem bd_lt {a : Nat} (h : isBd a) : a + 9 < 407 := (show ∀ a ∈ bdL, a + 9 < 407 by decide +kernel) a h
theorem bd_far {a b : Nat} (h : isBd a) (h' : isBd b) (hn : a ≠ b) : a + 9 < b ∨ b + 9 < a := (show ∀ a ∈ bdL, ∀ b ∈ bdL, a ≠ b → a + 9 < b ∨ b + 9 < a by decide +kernel) a h b h' hn
/-- nothing but the Board at k has changed -/
def fB (s t : mSt) (k : Nat) : Prop := ∀ b, ¬ (k ≤ b ∧ b ≤ k + 9) → t b = s b
theorem fB_trans {s t u : mSt} {k : Nat} (h1 : fB s t k) (h2 : fB t u k) : fB s u k := fun b hb => (h2 b hb).trans (h1 b hb)
theorem fB_refl (s : mSt) (k : Nat) : fB s s k := fun _ _ => rfl
/-- what is told of one candidate is the same -/
def rc (a b : Rw) (c : Nat) : Prop := a 3 = b 3 ∧ ∀ p, p < np a → ss a c p = ss b c p ∧ tm a c p = tm b c p ∧ bg a c p = bg b c p
theorem sIn_rc {a b : Rw} {c t p : Nat} (h : rc a b c) (hp : p < np a) : sIn a c t p = sIn b c t p := by
  obtain ⟨h1, h2, h3⟩ := h.2 p hp
  unfold sIn; rw [h1, h2, h3]
theorem np_rc {a b : Rw} {c : Nat} (h : rc a b c) : np a = np b := by unfold np; rw [h.1]
theorem sat_rc {a b : Rw} {c : Nat} (h : rc a b c) (t : Nat) : sat a c t = sat b c t := by
  unfold sat; rw [← np_rc h]; exact an_congr (fun p hp => sIn_rc h hp)
theorem kpt_rc {a b : Rw} {c : Nat} (h : rc a b c) (h2 : ∀ p, p < np a → ss a c p = true → a (6 + p) = b (6 + p)) (t : Nat) : kpt a c t = kpt b c t := by
  unfold kpt; rw [sat_rc h, ← np_rc h]
  congr 1
  refine an_congr (fun p hp => ?_)
  obtain ⟨h1, _, h3⟩ := h.2 p hp
  unfold due; rw [h1, h3]
  cases hs : ss b c p
  · rfl
  · rw [h2 p hp (by rw [h1, hs])]
/-- one waits again -/
def wtR (a : Rw) (c : Nat) : Rw := fun j => if j = 41 + c then 1 else if 47 + 5 * c ≤ j ∧ j < 52 + 5 * c then -1 else a j
theorem wtR_o {a : Rw} {c j : Nat} (h : j < 41 ∨ 77 ≤ j) (hc : c < 6) : wtR a c j = a j := by
  unfold wtR; rw [if_neg (by omega), if_neg (by omega)]
theorem wtR_W {a : Rw} {c i : Nat} (hi : i < 6) : wtR a c (41 + i) = if i = c then 1 else a (41 + i) := by
  unfold wtR
  by_cases h : i = c
  · subst h; simp
  · rw [if_neg (by omega), if_neg (by omega), if_neg h]
theorem wtR_B {a : Rw} {c i p : Nat} (hc : c < 6) (hp : p < 5) : bg (wtR a c) i p = if i = c then -1 else bg a i p := by
  unfold bg wtR
  by_cases h : i = c
  · subst h; rw [if_neg (by omega), if_pos (by omega), if_pos rfl]
  · rw [if_neg (by omega), if_neg (by omega), if_neg h]
theorem tm_eq {a b : Rw} {c p : Nat} (h1 : a (77 + p) = b (77 + p)) (h2 : a (123 + c) = b (123 + c)) : tm a c p = tm b c p := by unfold tm; rw [h1, h2]
theorem wtR_rc {a : Rw} {c i : Nat} (hc : c < 6) (hi : i ≠ c) (hi6 : i < 6) (h5 : np a ≤ 5) : rc (wtR a c) a i := by
  have e : np (wtR a c) = np a := by unfold np; rw [wtR_o (by omega) hc]
  refine ⟨wtR_o (by omega) hc, fun p hp => ?_⟩
  rw [e] at hp
  refine ⟨?_, ?_, ?_⟩
  · unfold ss; rw [wtR_o (by omega) hc]
  · exact tm_eq (wtR_o (by omega) hc) (wtR_o (by omega) hc)
  · rw [wtR_B hc (by omega), if_neg hi]
theorem Ok_row {a b : Rw} (h : Ok a) (h1 : ∀ j, j < 166 → b j = a j ∨ loA j ≤ b j ∧ b j ≤ hiA j) (h3 : b 3 = a 3) (h4 : b 4 = a 4) (hs : ∀ c, c < 6 → b (117 + c) = a (117 + c)) (hl : ∀ p, p < 5 → b (77 + p) = a (77 + p)) : Ok b := by
  have en : np b = np a := by unfold np; rw [h3]
  have ec : nc b = nc a := by unfold nc; rw [h4]
  have n5 := np_le h
  have n6 := nc_le h
  refine ⟨fun j hj => ?_, fun c hc => ?_, fun p hp => ?_⟩
  · rcases h1 j hj with e | e
    · rw [e]; exact h.1 j hj
    · exact e
  · rw [ec] at hc; rw [hs c (by omega), en]; exact h.2.1 c hc
  · rw [en] at hp; rw [hl p (by omega)]; exact h.2.2 p hp
theorem wtR_ok {a : Rw} (h : Ok a) {c : Nat} (hc : c < 6) : Ok (wtR a c) := by
  refine Ok_row h (fun j hj => ?_) (wtR_o (by omega) hc) (wtR_o (by omega) hc) (fun c' h' => wtR_o (by omega) hc) (fun p h' => wtR_o (by omega) hc)
  unfold wtR
  by_cases e : j = 41 + c
  · rw [if_pos e]
    right; subst e
    exact (show ∀ c : Fin 6, loA (41 + c.val) ≤ 1 ∧ 1 ≤ hiA (41 + c.val) by decide +kernel) ⟨c, hc⟩
  · rw [if_neg e]
    by_cases e2 : 47 + 5 * c ≤ j ∧ j < 52 + 5 * c
    · rw [if_pos e2]
      right
      have := (show ∀ i : Fin 30, loA (47 + i.val) ≤ -1 ∧ -1 ≤ hiA (47 + i.val) by decide +kernel) ⟨j - 47, by omega⟩
      simp only at this
      rw [show 47 + (j - 47) = j by omega] at this
      exact this
    · rw [if_neg e2]; exact Or.inl rfl
/-- delayed -/
def dlS (a : Rw) (p : Nat) (n : Int) : Int := if 15 < a (6 + p) + n then 15 else a (6 + p) + n
def dlR (a : Rw) (p : Nat) (n : Int) : Rw := fun j => if j = 6 + p then dlS a p n else
  if 41 ≤ j ∧ j < 47 then (if j - 41 < nc a ∧ ss a (j - 41) p = true then 1 else a j) else
  if 47 ≤ j ∧ j < 77 then (if (j - 47) / 5 < nc a ∧ ss a ((j - 47) / 5) p = true then -1 else a j) else a j
theorem dlR_o {a : Rw} {p j : Nat} {n : Int} (hp : p < 5) (h : j < 41 ∨ 77 ≤ j) : dlR a p n j = if j = 6 + p then dlS a p n else a j := by
  unfold dlR
  by_cases e : j = 6 + p
  · rw [if_pos e, if_pos e]
  · rw [if_neg e, if_neg (by omega), if_neg (by omega), if_neg e]
theorem dlR_W {a : Rw} {p c : Nat} {n : Int} (hp : p < 5) (hc : c < 6) : dlR a p n (41 + c) = if c < nc a ∧ ss a c p = true then 1 else a (41 + c) := by
  unfold dlR
  rw [if_neg (by omega), if_pos (by omega), Nat.add_sub_cancel_left]
theorem dlR_B {a : Rw} {p c q : Nat} {n : Int} (hp : p < 5) (hc : c < 6) (hq : q < 5) : bg (dlR a p n) c q = if c < nc a ∧ ss a c p = true then -1 else bg a c q := by
  unfold bg dlR
  rw [if_neg (by omega), if_neg (by omega), if_pos (by omega), show (47 + 5 * c + q - 47) / 5 = c by omega]
theorem dlR_ok {a : Rw} (h : Ok a) {p : Nat} {n : Int} (hp : p < 5) (hn : 0 ≤ n) : Ok (dlR a p n) := by
  have b := okS h hp
  refine Ok_row h (fun j hj => ?_) (by rw [dlR_o hp (by omega), if_neg (by omega)]) (by rw [dlR_o hp (by omega), if_neg (by omega)]) (fun c' h' => by rw [dlR_o hp (by omega), if_neg (by omega)]) (fun p h' => by rw [dlR_o hp (by omega), if_neg (by omega)])
  unfold dlR
  by_cases e : j = 6 + p
  · rw [if_pos e]
    right; subst e
    have q := (show ∀ c : Fin 5, loA (6 + c.val) ≤ 0 ∧ 15 ≤ hiA (6 + c.val) by decide +kernel) ⟨p, hp⟩
    simp only at q
    unfold dlS
    split <;> omega
  rw [if_neg e]
  by_cases e1 : 41 ≤ j ∧ j < 47
  · rw [if_pos e1]
    split
    · right
      have := (show ∀ i : Fin 6, loA (41 + i.val) ≤ 1 ∧ 1 ≤ hiA (41 + i.val) by decide +kernel) ⟨j - 41, by omega⟩
      simp only at this
      rw [show 41 + (j - 41) = j by omega] at this
      exact this
    · exact Or.inl rfl
  rw [if_neg e1]
  by_cases e2 : 47 ≤ j ∧ j < 77
  · rw [if_pos e2]
    split
    · right
      have := (show ∀ i : Fin 30, loA (47 + i.val) ≤ -1 ∧ -1 ≤ hiA (47 + i.val) by decide +kernel) ⟨j - 47, by omega⟩
      simp only at this
      rw [show 47 + (j - 47) = j by omega] at this
      exact this
    · exact Or.inl rfl
  rw [if_neg e2]; exact Or.inl rfl
theorem v21 {X : (Nat → Int) × Nat} {d : Nat} {s : mSt} {Q : mQ} {a0 : Nat} {x1 : Int} (h0 : isBd a0)
  (z1 : 0 ≤ x1 ∧ x1 < 6)
  (z2 : 0 ≤ (s (a0 + 9) x1.toNat) ∧ (s (a0 + 9) x1.toNat) < 1073741824)
  (z3 : Q (some (mI (cn (bq (s (a0 + 9) x1.toNat)) 30))) s) :
  Sp X (d + 1) 21 [mR a0, mI x1] s Q := e21 (b21_0 h0 z1 (c309 z2 ⟨_, rfl, b21_9 h0 z3⟩))

theorem c21 {X : (Nat → Int) × Nat} {d : Nat} {s : mSt} {Q : mQ} {a0 : Nat} {x1 : Int} (h0 : isBd a0) (p1 : BI s a0 ∧ (0 ≤ x1 ∧ x1 < s a0 3)) (k : Q (some (mI (if pl (brow s a0) x1.toNat = true then kpo (brow s a0) x1.toNat else 0))) s) : Sp X (d + 1) 21 [mR a0, mI x1] s Q := by
  obtain ⟨h, h1⟩ := p1
  have h3 := nc_le h.1
  have h6 := bi_nc h
  have e := bi_kpt h (c := x1.toNat) (by omega)
  have b := os_30 (f := kpt (brow s a0) x1.toNat) (n := 30) (by decide)
  refine v21 h0 (by omega) ?_ ?_
  · rw [e]; split <;> omega
  · rw [e]
    by_cases hp : pl (brow s a0) x1.toNat = true
    · rw [if_pos hp, cn_os (by decide)]
      rw [if_pos hp] at k
      exact k
    · rw [if_neg hp, show cn (bq 0) 30 = 0 from by decide]
      rw [if_neg hp] at k
      exact k
theorem v22 {X : (Nat → Int) × Nat} {d : Nat} {s : mSt} {Q : mQ} {a0 : Nat} (h0 : isBd a0)
  (I4 : Int → Int → Prop) (m4 : Int → Int → Nat)
  (z1 : ∀ y1 : Int, ∀ y2 : Int, I4 y1 y2 → (s a0 3) ≤ y2 → Q (some (mI y1)) s)
  (z2 : ∀ y1 : Int, ∀ y2 : Int, I4 y1 y2 → ¬ (s a0 3) ≤ y2 → BI s a0 ∧ (0 ≤ y2 ∧ y2 < s a0 3))
  (z3 : ∀ y1 : Int, ∀ y2 : Int, I4 y1 y2 → ¬ (s a0 3) ≤ y2 → I4 (w32 (y1 + (if pl (brow s a0) y2.toNat = true then kpo (brow s a0) y2.toNat else 0))) (w32 (y2 + 1)) ∧ m4 (w32 (y1 + (if pl (brow s a0) y2.toNat = true then kpo (brow s a0) y2.toNat else 0))) (w32 (y2 + 1)) < m4 y1 y2)
  (z4 : I4 0 0) :
  Sp X (d + 2) 22 [mR a0] s Q := by
  have L : ∀ k : Nat, (∀ (y1 : Int) (y2 : Int), I4 y1 y2 → m4 y1 y2 < k → Wp X (d + 2) 22 4 [some (mR a0), some (mI y1), some (mI y2)] [] s Q) := by
    intro k
    induction k with
    | zero => exact fun _ _ _ h => absurd h (Nat.not_lt_zero _)
    | succ k ih => exact fun y1 y2 hI hm => b22_4 h0 (fun q1 => b22_26 h0 (z1 y1 y2 hI q1)) (fun q2 => b22_12 h0 (c21 h0 (z2 y1 y2 hI q2) ⟨_, rfl, b22_18 h0 (ih (w32 (y1 + (if pl (brow s a0) y2.toNat = true then kpo (brow s a0) y2.toNat else 0))) (w32 (y2 + 1)) (z3 y1 y2 hI q2).1 (Nat.lt_of_lt_of_le (z3 y1 y2 hI q2).2 (Nat.le_of_lt_succ hm)))⟩))
  exact e22 (b22_0 h0 ((L (m4 0 0 + 1)) 0 0 z4 (Nat.lt_succ_self _)))

theorem c22 {X : (Nat → Int) × Nat} {d : Nat} {s : mSt} {Q : mQ} {a0 : Nat} (h0 : isBd a0) (p1 : BI s a0) (k : Q (some (mI (kpa (brow s a0)))) s) : Sp X (d + 2) 22 [mR a0] s Q := by
  have h3 := bi_nc p1
  have h5 := nc_le p1.1
  have hb : ∀ j : Nat, j ≤ 6 → 0 ≤ sm (fun c => if pl (brow s a0) c = true then kpo (brow s a0) c else 0) j ∧ sm (fun c => if pl (brow s a0) c = true then kpo (brow s a0) c else 0) j ≤ 180 := fun j hj => by
    have := sm_bd (f := fun c => if pl (brow s a0) c = true then kpo (brow s a0) c else 0) (b := 30) (n := j) (fun i hi => by
      have := kpo_bd (a := brow s a0) (c := i)
      try dsimp only
      split <;> omega)
    omega
  refine v22 h0 (fun y1 y2 => ∃ j : Nat, y2 = j ∧ j ≤ nc (brow s a0) ∧ y1 = sm (fun c => if pl (brow s a0) c = true then kpo (brow s a0) c else 0) j) (fun _ y => (6 - y).toNat) ?_ ?_ ?_ ?_
  · rintro _ _ ⟨j, rfl, hj, rfl⟩ hc
    have : j = nc (brow s a0) := by omega
    subst this
    exact k
  · rintro _ _ ⟨j, rfl, hj, rfl⟩ hc
    exact ⟨p1, by omega⟩
  · rintro _ _ ⟨j, rfl, hj, rfl⟩ hc
    rw [tnc]
    have b := hb j (by omega)
    have b3 := hb (j + 1) (by omega)
    rw [sm_s] at b3
    rw [w32_of (by omega), w32_of (by omega)]
    exact ⟨⟨j + 1, by omega, by omega, rfl⟩, by omega⟩
  · exact ⟨0, rfl, by omega, rfl⟩
theorem v27 {X : (Nat → Int) × Nat} {d : Nat} {s : mSt} {Q : mQ} {a0 : Nat} {x1 : Int} {x2 : Int} (h0 : isBd a0)
  (I5 : Int → Int → Prop) (m5 : Int → Int → Nat)
  (z1 : ∀ y3 : Int, ∀ y4 : Int, I5 y3 y4 → (s a0 3) ≤ y4 → 1 ≤ x2 → x2 ≠ 0)
  (z2 : ∀ y3 : Int, ∀ y4 : Int, I5 y3 y4 → (s a0 3) ≤ y4 → 1 ≤ x2 → Q (some (mI (w32 (Int.tdiv (w32 ((w32 (y3 + x2)) - 1)) x2)))) s)
  (z3 : ∀ y3 : Int, ∀ y4 : Int, I5 y3 y4 → (s a0 3) ≤ y4 → ¬ 1 ≤ x2 → Q (some (mI y3)) s)
  (z4 : ∀ y3 : Int, ∀ y4 : Int, I5 y3 y4 → ¬ (s a0 3) ≤ y4 → BI s a0 ∧ (0 ≤ y4 ∧ y4 < s a0 3) ∧ (0 ≤ x1 ∧ x1 < 30))
  (z5 : ∀ y3 : Int, ∀ y4 : Int, I5 y3 y4 → ¬ (s a0 3) ≤ y4 → (pl (brow s a0) y4.toNat = true ∧ kpt (brow s a0) y4.toNat x1.toNat = true) → I5 (w32 (y3 + 1)) (w32 (y4 + 1)) ∧ m5 (w32 (y3 + 1)) (w32 (y4 + 1)) < m5 y3 y4)
  (z6 : ∀ y3 : Int, ∀ y4 : Int, I5 y3 y4 → ¬ (s a0 3) ≤ y4 → (¬ (pl (brow s a0) y4.toNat = true ∧ kpt (brow s a0) y4.toNat x1.toNat = true)) → I5 y3 (w32 (y4 + 1)) ∧ m5 y3 (w32 (y4 + 1)) < m5 y3 y4)
  (z7 : I5 0 0) :
  Sp X (d + 1) 27 [mR a0, mI x1, mI x2] s Q := by
  have L : ∀ k : Nat, (∀ (y3 : Int) (y4 : Int), I5 y3 y4 → m5 y3 y4 < k → Wp X (d + 1) 27 5 [some (mR a0), some (mI x1), some (mI x2), some (mI y3), some (mI y4)] [] s Q) := by
    intro k
    induction k with
    | zero => exact fun _ _ _ h => absurd h (Nat.not_lt_zero _)
    | succ k ih => exact fun y3 y4 hI hm => b27_5 h0 (fun q1 => b27_33 h0 (fun q2 => b27_42 h0 (z1 y3 y4 hI q1 q2) (b27_49 h0 (z2 y3 y4 hI q1 q2))) (fun q3 => b27_38 h0 (b27_49 h0 (z3 y3 y4 hI q1 q3)))) (fun q4 => b27_14 h0 (c20 h0 (z4 y3 y4 hI q4) (fun q5 => ⟨1, rfl, b27_21 h0 (fun q => absurd q (by decide)) (fun _ => b27_24 h0 (b27_27 h0 (ih (w32 (y3 + 1)) (w32 (y4 + 1)) (z5 y3 y4 hI q4 q5).1 (Nat.lt_of_lt_of_le (z5 y3 y4 hI q4 q5).2 (Nat.le_of_lt_succ hm)))))⟩) (fun q6 => ⟨0, rfl, b27_21 h0 (fun _ => b27_27 h0 (ih y3 (w32 (y4 + 1)) (z6 y3 y4 hI q4 q6).1 (Nat.lt_of_lt_of_le (z6 y3 y4 hI q4 q6).2 (Nat.le_of_lt_succ hm)))) (fun q => absurd q (by decide))⟩)))
  exact e27 (b27_0 h0 ((L (m5 0 0 + 1)) 0 0 z7 (Nat.lt_succ_self _)))

theorem c27 {X : (Nat → Int) × Nat} {d : Nat} {s : mSt} {Q : mQ} {a0 : Nat} {x1 : Int} {x2 : Int} (h0 : isBd a0) (p1 : BI s a0 ∧ (0 ≤ x1 ∧ x1 < 30) ∧ (1 ≤ x2 ∧ x2 ≤ 6)) (k : Q (some (mI ((cn (fun c => pl (brow s a0) c && kpt (brow s a0) c x1.toNat) (nc (brow s a0)) + x2 - 1) / x2))) s) : Sp X (d + 1) 27 [mR a0, mI x1, mI x2] s Q := by
  obtain ⟨h, h1, h2⟩ := p1
  have h3 := bi_nc h
  have h5 := nc_le h.1
  refine v27 h0 (fun y3 y4 => ∃ j : Nat, y4 = j ∧ j ≤ nc (brow s a0) ∧ y3 = cn (fun c => pl (brow s a0) c && kpt (brow s a0) c x1.toNat) j) (fun _ y => (6 - y).toNat) ?_ ?_ ?_ ?_ ?_ ?_ ?_
  · rintro _ _ ⟨j, rfl, hj, rfl⟩ hc _
    omega
  · rintro _ _ ⟨j, rfl, hj, rfl⟩ hc _
    have : j = nc (brow s a0) := by omega
    subst this
    have b := cn_le (f := fun c => pl (brow s a0) c && kpt (brow s a0) c x1.toNat) (n := nc (brow s a0))
    have e : ∀ y : Int, 0 ≤ y → y ≤ 6 → w32 (Int.tdiv (w32 (w32 (y + x2) - 1)) x2) = (y + x2 - 1) / x2 := fun y l u => by
      rw [w32_of (x := y + x2) (by omega), w32_of (x := y + x2 - 1) (by omega), Int.tdiv_eq_ediv_of_nonneg (by omega)]
      have q1 := Int.ediv_nonneg (a := y + x2 - 1) (b := x2) (by omega) (by omega)
      have q2 := Int.ediv_le_self (a := y + x2 - 1) x2 (by omega)
      exact w32_of (by omega)
    rw [e _ b.1 (by omega)]
    exact k
  · rintro _ _ ⟨j, rfl, hj, rfl⟩ hc q
    omega
  · rintro _ _ ⟨j, rfl, hj, rfl⟩ hc
    exact ⟨h, by omega, h1⟩
  · rintro _ _ ⟨j, rfl, hj, rfl⟩ hc q
    rw [tnc] at q
    have b := cn_le (f := fun c => pl (brow s a0) c && kpt (brow s a0) c x1.toNat) (n := j)
    rw [w32_of (by omega), w32_of (by omega)]
    refine ⟨⟨j + 1, by omega, by omega, ?_⟩, by omega⟩
    rw [cn_s, if_pos (by rw [Bool.and_eq_true]; exact q)]
  · rintro _ _ ⟨j, rfl, hj, rfl⟩ hc q
    rw [tnc] at q
    rw [w32_of (by omega)]
    refine ⟨⟨j + 1, by omega, by omega, ?_⟩, by omega⟩
    rw [cn_s, if_neg (by rw [Bool.and_eq_true]; exact q), Int.add_zero]
  · exact ⟨0, rfl, by omega, rfl⟩
theorem bq_all (i : Nat) : bq 1073741823 i = decide (i < 30) := by
  rw [show (1073741823 : Int) = ((2 ^ 30 - 1 : Nat) : Int) from rfl, bq_nat (by decide), Nat.testBit_two_pow_sub_one]
theorem iMin_30 {x : Int} (h : 0 ≤ x) : 0 ≤ iMin x 30 ∧ iMin x 30 < 32 := by unfold iMin; split <;> omega
theorem bq_fr {x : Int} (h : 0 ≤ x) (i : Nat) (hi : i < 30) : bq (iShl (-1) (iMin x 30)) i = decide (x ≤ (i : Int)) := by
  rw [bq_shl _ (iMin_30 h), bq_m1]
  by_cases hx : x ≤ (i : Int)
  · have : (iMin x 30).toNat ≤ i := by unfold iMin; split <;> omega
    simp [hx, this, show i < 32 by omega, show i - (iMin x 30).toNat < 32 by omega]
  · have : ¬ (iMin x 30).toNat ≤ i := by unfold iMin; split <;> omega
    simp [hx, this]
theorem v31 {X : (Nat → Int) × Nat} {d : Nat} {s : mSt} {Q : mQ} {x0 : Int}
  (z1 : Q (some (mI (iAnd 1073741823 (iShl (-1) (iMin x0 30))))) s) :
  Sp X (d + 1) 31 [mI x0] s Q := e31 (b31_0 z1)

theorem c31 {X : (Nat → Int) × Nat} {d : Nat} {s : mSt} {Q : mQ} {x0 : Int} (p1 : 0 ≤ x0) (k : Q (some (mI (os (fun t => decide (x0 ≤ (t : Int))) 30))) s) : Sp X (d + 1) 31 [mI x0] s Q := by
  refine v31 ?_
  have b := os_30 (f := fun t => decide (x0 ≤ (t : Int))) (n := 30) (by decide)
  have e : iAnd 1073741823 (iShl (-1) (iMin x0 30)) = os (fun t => decide (x0 ≤ (t : Int))) 30 := by
    apply bq_ext (i3_and _ _) (by unfold i3; omega)
    intro i hi
    rw [bq_and, bq_all, os_bq (by decide)]
    by_cases h : i < 30
    · rw [bq_fr p1 i h]
    · simp [h]
  rw [e]; exact k
theorem v32 {X : (Nat → Int) × Nat} {d : Nat} {s : mSt} {Q : mQ} {x0 : Int} {x1 : Int}
  (z1 : Q (some (mI (iAnd (iAnd 1073741823 (iShl (-1) (iMin x0 30))) (iXor (iShl (-1) (iMin x1 30)) (-1))))) s) :
  Sp X (d + 1) 32 [mI x0, mI x1] s Q := e32 (b32_0 z1)

theorem c32 {X : (Nat → Int) × Nat} {d : Nat} {s : mSt} {Q : mQ} {x0 : Int} {x1 : Int} (p1 : 0 ≤ x0 ∧ 0 ≤ x1) (k : Q (some (mI (os (fun t => decide (x0 ≤ (t : Int)) && decide ((t : Int) < x1)) 30))) s) : Sp X (d + 1) 32 [mI x0, mI x1] s Q := by
  refine v32 ?_
  have b := os_30 (f := fun t => decide (x0 ≤ (t : Int)) && decide ((t : Int) < x1)) (n := 30) (by decide)
  have e : iAnd (iAnd 1073741823 (iShl (-1) (iMin x0 30))) (iXor (iShl (-1) (iMin x1 30)) (-1)) = os (fun t => decide (x0 ≤ (t : Int)) && decide ((t : Int) < x1)) 30 := by
    apply bq_ext (i3_and _ _) (by unfold i3; omega)
    intro i hi
    rw [bq_and, bq_and, bq_not, bq_all, os_bq (by decide)]
    by_cases h : i < 30
    · rw [bq_fr p1.1 i h, bq_fr p1.2 i h]
      by_cases q : (i : Int) < x1
      · simp [h, hi, q, show ¬ x1 ≤ (i : Int) by omega]
      · simp [h, hi, q, show x1 ≤ (i : Int) by omega]
    · simp [h]
  rw [e]; exact k
theorem v25 {X : (Nat → Int) × Nat} {d : Nat} {s : mSt} {Q : mQ} {a0 : Nat} {x1 : Int} (h0 : isBd a0)
  (z1 : (0 ≤ x1 ∧ x1 < s a0 2) → 0 ≤ x1 ∧ x1 < 5)
  (z2 : (0 ≤ x1 ∧ x1 < s a0 2) → 15 ≤ (s (a0 + 1) x1.toNat) → Q (some (mI 0)) s)
  (z3 : (0 ≤ x1 ∧ x1 < s a0 2) → ¬ 15 ≤ (s (a0 + 1) x1.toNat) → Q (some (mI 1)) s)
  (z4 : (¬ (0 ≤ x1 ∧ x1 < s a0 2)) → Q (some (mI 0)) s) :
  Sp X (d + 1) 25 [mR a0, mI x1] s Q := e25 (b25_0 h0 (c7 h0 (fun q1 => ⟨1, rfl, b25_5 h0 (fun q => absurd q (by decide)) (fun _ => b25_8 h0 (z1 q1) (fun q2 => b25_23 h0 (b25_24 h0 (z2 q1 q2) (Or.inl rfl))) (fun q3 => b25_19 h0 (b25_24 h0 (z3 q1 q3) (Or.inr rfl))))⟩) (fun q4 => ⟨0, rfl, b25_5 h0 (fun _ => b25_23 h0 (b25_24 h0 (z4 q4) (Or.inl rfl))) (fun q => absurd q (by decide))⟩)))

theorem c25 {X : (Nat → Int) × Nat} {d : Nat} {s : mSt} {Q : mQ} {a0 : Nat} {x1 : Int} (h0 : isBd a0) (p1 : BI s a0) (k1 : ((0 ≤ x1 ∧ x1 < s a0 2) ∧ ¬ brow s a0 (6 + x1.toNat) = 15) → Q (some (mI 1)) s) (k0 : ¬ ((0 ≤ x1 ∧ x1 < s a0 2) ∧ ¬ brow s a0 (6 + x1.toNat) = 15) → Q (some (mI 0)) s) : Sp X (d + 1) 25 [mR a0, mI x1] s Q := by
  have h5 := np_le p1.1
  have h6 := bi_np p1
  have e : (0 ≤ x1 ∧ x1 < s a0 2) → s (a0 + 1) x1.toNat = brow s a0 (6 + x1.toNat) ∧ brow s a0 (6 + x1.toNat) ≤ 15 := fun h => ⟨biS p1 (by omega), (okS p1.1 (by omega)).2⟩
  refine v25 h0 (fun h => by omega) (fun h q => k0 (fun z => ?_)) (fun h q => k1 ⟨h, ?_⟩) (fun h => k0 (fun z => h z.1))
  · have := e h; omega
  · have := e h; omega
theorem pw2 {c : Nat} (hc : c < 6) : (2:Int) ^ c ≤ 32 ∧ 1 ≤ (2:Int) ^ c := (show ∀ c : Fin 6, (2:Int) ^ c.val ≤ 32 ∧ 1 ≤ (2:Int) ^ c.val by decide) ⟨c, hc⟩
theorem pw6 {n : Nat} (h : n ≤ 6) : (2:Int) ^ n ≤ 64 := (show ∀ c : Fin 7, (2:Int) ^ c.val ≤ 64 by decide) ⟨n, by omega⟩
/-- a bit taken out of a small set -/
theorem bit_out {x : Int} {n c : Nat} (hn : n ≤ 6) (h : 0 ≤ x ∧ x < 2 ^ n) (hc : c < 6) : (0 ≤ iAnd x (iXor (iShl 1 (c : Int)) (-1)) ∧ iAnd x (iXor (iShl 1 (c : Int)) (-1)) < 2 ^ n) ∧ ∀ i, bq (iAnd x (iXor (iShl 1 (c : Int)) (-1))) i = (bq x i && !decide (i = c)) := by
  have hb : ∀ i, bq (iAnd x (iXor (iShl 1 (c : Int)) (-1))) i = (bq x i && !decide (i = c)) := fun i => by
    rw [shl1 (by omega), bq_and, bq_not, bq_pow (by omega)]
    by_cases hi : i < 32
    · simp [hi]
    · rw [bq_hi x (by omega)]; rfl
  refine ⟨lt_of_bq (i3_and _ _) (by omega) (fun i h1 h2 => ?_), hb⟩
  rw [hb, bq_lt h (by omega) h1]; rfl
/-- a bit put into a small set -/
theorem bit_in {x : Int} {n c : Nat} (hn : n ≤ 6) (h : 0 ≤ x ∧ x < 2 ^ n) (hc : c < n) : (0 ≤ iOr x (iShl 1 (c : Int)) ∧ iOr x (iShl 1 (c : Int)) < 2 ^ n) ∧ ∀ i, bq (iOr x (iShl 1 (c : Int))) i = (bq x i || decide (i = c)) := by
  have hb : ∀ i, bq (iOr x (iShl 1 (c : Int))) i = (bq x i || decide (i = c)) := fun i => by
    rw [shl1 (by omega), bq_or, bq_pow (by omega)]
  refine ⟨lt_of_bq (i3_or _ _) (by omega) (fun i h1 h2 => ?_), hb⟩
  rw [hb, bq_lt h (by omega) h1]; simp; omega
/-- the cells of a Board but those of who is planned are the same -/
def sB (s t : mSt) (k k' : Nat) : Prop := (∀ i, i < 5 → t k' i = s k i) ∧ (∀ p, p < 5 → t (k' + 1) p = s (k + 1) p) ∧ (∀ p, p < 5 → t (k' + 2) p = s (k + 2) p) ∧ (∀ p, p < 6 → t (k' + 3) p = s (k + 3) p) ∧
  (∀ p, p < 6 → t (k' + 4) p = s (k + 4) p) ∧ (∀ p, p < 6 → t (k' + 5) p = s (k + 5) p) ∧ (∀ p, p < 30 → t (k' + 6) p = s (k + 6) p) ∧ t 417 = s 417
theorem sB_out {s t : mSt} {k k' j : Nat} (h : sB s t k k') (hj : j < 41 ∨ 77 ≤ j) : brow t k' j = brow s k j :=
  brow_out hj h.1 h.2.1 h.2.2.1 h.2.2.2.1 h.2.2.2.2.1 h.2.2.2.2.2.1 h.2.2.2.2.2.2.1 h.2.2.2.2.2.2.2
theorem v24 {X : (Nat → Int) × Nat} {d : Nat} {s : mSt} {Q : mQ} {a0 : Nat} {x1 : Int} (h0 : isBd a0)
  (z1 : 0 ≤ x1 ∧ x1 < 6)
  (z2 : Q none (uS (uS (uS s a0 5 (iAnd (s a0 5) (iXor (iShl 1 x1) (-1)))) (a0 + 8) x1.toNat 0) (a0 + 9) x1.toNat 0)) :
  Sp X d 24 [mR a0, mI x1] s Q := e24 (b24_0 h0 z1 z1 z2)

/-- one released: the row -/
theorem rel_row {s t : mSt} {k c : Nat} (h : BI s k) (hc : c < nc (brow s k)) (hs : sB s t k k) (h5 : ∀ i, bq (t k 5) i = (bq (s k 5) i && !decide (i = c))) (h5b : 0 ≤ t k 5 ∧ t k 5 < 2 ^ nc (brow s k))
    (h7 : t (k + 7) = s (k + 7)) (h8 : ∀ i, t (k + 8) i = if i = c then 0 else s (k + 8) i) (h9 : ∀ i, t (k + 9) i = if i = c then 0 else s (k + 9) i) : BI t k ∧ brow t k = wtR (brow s k) c := by
  have n6 := nc_le h.1
  have n5 := np_le h.1
  have hd : ¬ s k 0 = 0 := bi_dc h (by omega)
  have hd' : ¬ t k 0 = 0 := by rw [hs.1 0 (by omega)]; exact hd
  have e : brow t k = wtR (brow s k) c := by
    refine row_ext (fun j hj => ?_) (fun i hi => ?_) (fun i hi p hp => ?_)
    · rw [wtR_o hj (by omega)]; exact sB_out hs hj
    · rw [wtR_W hi, biW hd' hi, biW hd hi, h5]
      by_cases e : i = c
      · subst e; simp
      · simp [e]
    · rw [wtR_B (by omega) hp, brow_B hd' hi hp, brow_B hd hi hp, h5, h7, hs.1 2 (by omega)]
      by_cases e : i = c
      · subst e; simp
      · simp [e]
  refine ⟨⟨?_, ?_, ?_, ?_, ?_⟩, e⟩
  · rw [e]; exact wtR_ok h.1 (by omega)
  · rw [e, show nc (wtR (brow s k) c) = nc (brow s k) from by unfold nc; rw [wtR_o (by omega) (by omega)]]; exact h5b
  · intro i hi
    rw [h8, h5, e]
    by_cases q : i = c
    · subst q; simp
    · rw [if_neg q, h.2.2.1 i hi]
      rw [os_congr (fun t' _ => sat_rc (wtR_rc (by omega) q hi n5) t')]
      simp [q]
  · intro i hi
    rw [h9, h5, e]
    by_cases q : i = c
    · subst q; simp
    · rw [if_neg q, h.2.2.2.1 i hi]
      rw [os_congr (fun t' _ => kpt_rc (wtR_rc (by omega) q hi n5) (fun p hp _ => wtR_o (by unfold np at hp n5; rw [wtR_o (by omega) (by omega)] at hp; omega) (by omega)) t')]
      simp [q]
  · rw [hs.1 0 (by omega), hs.1 1 (by omega), hs.1 2 (by omega), hs.1 3 (by omega), hs.1 4 (by omega)]; exact h.2.2.2.2
theorem c24 {X : (Nat → Int) × Nat} {d : Nat} {s : mSt} {Q : mQ} {a0 : Nat} {x1 : Int} (h0 : isBd a0) (p1 : BI s a0 ∧ (0 ≤ x1 ∧ x1 < s a0 3)) (k : ∀ t : mSt, (BI t a0 ∧ brow t a0 = wtR (brow s a0) x1.toNat ∧ fB s t a0) → Q none t) : Sp X d 24 [mR a0, mI x1] s Q := by
  obtain ⟨h, h1⟩ := p1
  have h3 := bi_nc h
  have n6 := nc_le h.1
  have hl := bd_lt h0
  obtain ⟨c, rfl⟩ := nat_of h1.1
  rw [tnc] at k
  refine v24 h0 (by omega) ?_
  rw [tnc]
  have ⟨o1, o2⟩ := bit_out n6 h.2.1 (show c < 6 by omega)
  have r := rel_row (t := uS (uS (uS s a0 5 (iAnd (s a0 5) (iXor (iShl 1 (c : Int)) (-1)))) (a0 + 8) c 0) (a0 + 9) c 0) h (c := c) (by omega) ?_ ?_ ?_ ?_ ?_ ?_
  · refine k _ ⟨r.1, r.2, fun b hb => ?_⟩
    rw [uS_cell (by omega), uS_cell (by omega), uS_cell (by omega)]
  · refine ⟨fun i hi => ?_, fun p _ => ?_, fun p _ => ?_, fun p _ => ?_, fun p _ => ?_, fun p _ => ?_, fun p _ => ?_, ?_⟩
    · rw [uS_cell (by omega), uS_cell (by omega), uS_at, if_neg (by omega)]
    all_goals rw [uS_cell (by omega), uS_cell (by omega), uS_cell (by omega)]
  · intro i
    rw [uS_cell (by omega), uS_cell (by omega), uS_at, if_pos rfl, o2]
  · rw [uS_cell (by omega), uS_cell (by omega), uS_at, if_pos rfl]; exact o1
  · rw [uS_cell (by omega), uS_cell (by omega), uS_cell (by omega)]
  · intro i
    rw [uS_cell (by omega), uS_at]
    by_cases q : i = c
    · rw [if_pos q, if_pos q]
    · rw [if_neg q, if_neg q, uS_cell (by omega)]
  · intro i
    rw [uS_at]
    by_cases q : i = c
    · rw [if_pos q, if_pos q]
    · rw [if_neg q, if_neg q, uS_cell (by omega), uS_cell (by omega)]
theorem v3 {X : (Nat → Int) × Nat} {d : Nat} {s : mSt} {Q : mQ} {a0 : Nat} {a1 : Nat} (h0 : isBd a0) (h1 : isBd a1)
  (z1 : Q none (cS (cS (cS (cS (cS (cS (cS (cS (cS (uS (uS (uS (uS (uS (uS s a0 0 (s a1 0)) a0 1 ((uS s a0 0 (s a1 0)) a1 1)) a0 2 ((uS (uS s a0 0 (s a1 0)) a0 1 ((uS s a0 0 (s a1 0)) a1 1)) a1 2)) a0 3 ((uS (uS (uS s a0 0 (s a1 0)) a0 1 ((uS s a0 0 (s a1 0)) a1 1)) a0 2 ((uS (uS s a0 0 (s a1 0)) a0 1 ((uS s a0 0 (s a1 0)) a1 1)) a1 2)) a1 3)) a0 4 ((uS (uS (uS (uS s a0 0 (s a1 0)) a0 1 ((uS s a0 0 (s a1 0)) a1 1)) a0 2 ((uS (uS s a0 0 (s a1 0)) a0 1 ((uS s a0 0 (s a1 0)) a1 1)) a1 2)) a0 3 ((uS (uS (uS s a0 0 (s a1 0)) a0 1 ((uS s a0 0 (s a1 0)) a1 1)) a0 2 ((uS (uS s a0 0 (s a1 0)) a0 1 ((uS s a0 0 (s a1 0)) a1 1)) a1 2)) a1 3)) a1 4)) a0 5 ((uS (uS (uS (uS (uS s a0 0 (s a1 0)) a0 1 ((uS s a0 0 (s a1 0)) a1 1)) a0 2 ((uS (uS s a0 0 (s a1 0)) a0 1 ((uS s a0 0 (s a1 0)) a1 1)) a1 2)) a0 3 ((uS (uS (uS s a0 0 (s a1 0)) a0 1 ((uS s a0 0 (s a1 0)) a1 1)) a0 2 ((uS (uS s a0 0 (s a1 0)) a0 1 ((uS s a0 0 (s a1 0)) a1 1)) a1 2)) a1 3)) a0 4 ((uS (uS (uS (uS s a0 0 (s a1 0)) a0 1 ((uS s a0 0 (s a1 0)) a1 1)) a0 2 ((uS (uS s a0 0 (s a1 0)) a0 1 ((uS s a0 0 (s a1 0)) a1 1)) a1 2)) a0 3 ((uS (uS (uS s a0 0 (s a1 0)) a0 1 ((uS s a0 0 (s a1 0)) a1 1)) a0 2 ((uS (uS s a0 0 (s a1 0)) a0 1 ((uS s a0 0 (s a1 0)) a1 1)) a1 2)) a1 3)) a1 4)) a1 5)) (a1 + 1) 0 (a0 + 1) 0 5) (a1 + 2) 0 (a0 + 2) 0 5) (a1 + 3) 0 (a0 + 3) 0 6) (a1 + 4) 0 (a0 + 4) 0 6) (a1 + 5) 0 (a0 + 5) 0 6) (a1 + 6) 0 (a0 + 6) 0 30) (a1 + 7) 0 (a0 + 7) 0 30) (a1 + 8) 0 (a0 + 8) 0 6) (a1 + 9) 0 (a0 + 9) 0 6)) :
  Sp X (d + 1) 3 [mR a0, mR a1] s Q := e3 (b3_0 h0 h1 z1)

theorem copy_row {s t : mSt} {k k' : Nat} (h : BI s k) (hs : sB s t k k') (h5 : t k' 5 = s k 5)
    (h7 : ∀ i, i < 30 → t (k' + 7) i = s (k + 7) i) (h8 : ∀ i, i < 6 → t (k' + 8) i = s (k + 8) i) (h9 : ∀ i, i < 6 → t (k' + 9) i = s (k + 9) i) : BI t k' ∧ brow t k' = brow s k := by
  have e : brow t k' = brow s k := by
    by_cases hd : s k 0 = 0
    · have hd' : t k' 0 = 0 := by rw [hs.1 0 (by omega)]; exact hd
      refine row_ext (fun j hj => sB_out hs hj) (fun i hi => ?_) (fun i hi p hp => ?_)
      · rw [brow_z hd (by omega), brow_z hd' (by omega)]
      · unfold bg; rw [brow_z hd (by omega), brow_z hd' (by omega)]
    · have hd' : ¬ t k' 0 = 0 := by rw [hs.1 0 (by omega)]; exact hd
      refine row_ext (fun j hj => sB_out hs hj) (fun i hi => ?_) (fun i hi p hp => ?_)
      · rw [biW hd' hi, biW hd hi, h5]
      · rw [brow_B hd' hi hp, brow_B hd hi hp, h5, h7 _ (by omega), hs.1 2 (by omega)]
  refine ⟨⟨?_, ?_, ?_, ?_, ?_⟩, e⟩
  · rw [e]; exact h.1
  · rw [e, h5]; exact h.2.1
  · intro i hi
    rw [h8 i hi, h5, e]; exact h.2.2.1 i hi
  · intro i hi
    rw [h9 i hi, h5, e]; exact h.2.2.2.1 i hi
  · rw [hs.1 0 (by omega), hs.1 1 (by omega), hs.1 2 (by omega), hs.1 3 (by omega), hs.1 4 (by omega)]; exact h.2.2.2.2
theorem c3 {X : (Nat → Int) × Nat} {d : Nat} {s : mSt} {Q : mQ} {a0 : Nat} {a1 : Nat} (h0 : isBd a0) (h1 : isBd a1) (p1 : a0 ≠ a1 ∧ BI s a1) (k : ∀ t : mSt, (BI t a0 ∧ brow t a0 = brow s a1 ∧ fB s t a0) → Q none t) : Sp X (d + 1) 3 [mR a0, mR a1] s Q := by
  obtain ⟨hn, h⟩ := p1
  have hf := bd_far h0 h1 hn
  have hl := bd_lt h0
  have hl1 := bd_lt h1
  have hu : ∀ (q : mSt) (i : Nat) (x : Int), uS q a0 i x a1 = q a1 := fun q i x => uS_cell (by omega)
  refine v3 h0 h1 ?_
  simp only [hu]
  have r := copy_row (k' := a0) (t := cS (cS (cS (cS (cS (cS (cS (cS (cS (uS (uS (uS (uS (uS (uS s a0 0 (s a1 0)) a0 1 (s a1 1)) a0 2 (s a1 2)) a0 3 (s a1 3)) a0 4 (s a1 4)) a0 5 (s a1 5)) (a1 + 1) 0 (a0 + 1) 0 5) (a1 + 2) 0 (a0 + 2) 0 5) (a1 + 3) 0 (a0 + 3) 0 6) (a1 + 4) 0 (a0 + 4) 0 6) (a1 + 5) 0 (a0 + 5) 0 6) (a1 + 6) 0 (a0 + 6) 0 30) (a1 + 7) 0 (a0 + 7) 0 30) (a1 + 8) 0 (a0 + 8) 0 6) (a1 + 9) 0 (a0 + 9) 0 6) h ?_ ?_ ?_ ?_ ?_
  · refine k _ ⟨r.1, r.2, fun b hb => ?_⟩
    simp (disch := omega) only [cS_cell, uS_cell]
  · refine ⟨fun i hi => ?_, fun p hp => ?_, fun p hp => ?_, fun p hp => ?_, fun p hp => ?_, fun p hp => ?_, fun p hp => ?_, ?_⟩
    · simp (disch := omega) only [cS_cell, uS_at]
      rcases (show i = 0 ∨ i = 1 ∨ i = 2 ∨ i = 3 ∨ i = 4 by omega) with e | e | e | e | e <;> subst e <;> rfl
    all_goals simp (disch := omega) only [cS_cell, uS_cell, cS_at]
    all_goals rw [if_pos (by omega), Nat.zero_add, Nat.sub_zero]
  · simp (disch := omega) only [cS_cell, uS_at, if_true]
  · intro i hi
    simp (disch := omega) only [cS_cell, uS_cell, cS_at]
    rw [if_pos (by omega), Nat.zero_add, Nat.sub_zero]
  · intro i hi
    simp (disch := omega) only [cS_cell, uS_cell, cS_at]
    rw [if_pos (by omega), Nat.zero_add, Nat.sub_zero]
  · intro i hi
    simp (disch := omega) only [cS_cell, uS_cell, cS_at]
    rw [if_pos (by omega), Nat.zero_add, Nat.sub_zero]
