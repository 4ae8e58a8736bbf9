/-! plans: prepared, found, taken on -/
def ini : St := (-1, 0, 0, fun _ => -1)
def bt0 : Bt := (0, 0, 0, 0, fun _ => -1)
def plB (a : Rw) (c m : Nat) : Bt := (ords 5 m).foldl (stp a c m ini) bt0
def fP (s t : mSt) : Prop := ∀ x, ¬ (44 ≤ x ∧ x ≤ 49) → t x = s x
theorem bd_pl {a : Nat} (h : isBd a) : a + 9 < 44 ∨ 49 < a := (show ∀ a ∈ bdL, a + 9 < 44 ∨ 49 < a by decide +kernel) a h
/-- a Board whose cells are the same is the same -/
theorem BI_cells {s t : mSt} {k : Nat} (h : BI s k) (e : ∀ x, k ≤ x ∧ x ≤ k + 9 → t x = s x) (e7 : t 417 = s 417) : BI t k ∧ brow t k = brow s k := by
  have c0 := e k (by omega)
  refine copy_row h ⟨fun i _ => by rw [c0], fun p _ => by rw [e _ (by omega)], fun p _ => by rw [e _ (by omega)], fun p _ => by rw [e _ (by omega)], fun p _ => by rw [e _ (by omega)], fun p _ => by rw [e _ (by omega)], fun p _ => by rw [e _ (by omega)], e7⟩ (by rw [c0]) (fun i _ => by rw [e _ (by omega)]) (fun i _ => by rw [e _ (by omega)]) (fun i _ => by rw [e _ (by omega)])
theorem BI_fP {s t : mSt} {k : Nat} (hk : isBd k) (h : BI s k) (e : fP s t) : BI t k ∧ brow t k = brow s k := by
  have hp := bd_pl hk
  have hl := bd_lt hk
  exact BI_cells h (fun x hx => e x (by omega)) (e 417 (by omega))
theorem v62 {X : (Nat → Int) × Nat} {d : Nat} {s : mSt} {Q : mQ} {a1 : Nat} {x2 : Int} {x3 : Int} (h1 : isBd a1)
  (I27 : Int → Int → mSt → Prop) (m27 : Int → Int → mSt → Nat)
  (z1 : ∀ y4 : Int, ∀ y5 : Int, ∀ s : mSt, I27 y4 y5 s → 5 ≤ y5 → Q none s)
  (z2 : ∀ y4 : Int, ∀ y5 : Int, ∀ s : mSt, I27 y4 y5 s → ¬ 5 ≤ y5 → 0 ≤ y5 ∧ y5 < 5)
  (z3 : ∀ y4 : Int, ∀ y5 : Int, ∀ s : mSt, I27 y4 y5 s → ¬ 5 ≤ y5 → ¬ (iAnd (iShr x3 y5) 1) = 1 → ∀ t4 : mSt, t4 = uS s 48 y5.toNat (-1) → I27 y4 (w32 (y5 + 1)) t4 ∧ m27 y4 (w32 (y5 + 1)) t4 < m27 y4 y5 s)
  (z4 : ∀ y4 : Int, ∀ y5 : Int, ∀ s : mSt, I27 y4 y5 s → ¬ 5 ≤ y5 → (iAnd (iShr x3 y5) 1) = 1 → ∀ t6 : mSt, t6 = uS s 48 y5.toNat (-1) → 0 ≤ y5 ∧ y5 < 5)
  (z5 : ∀ y4 : Int, ∀ y5 : Int, ∀ s : mSt, I27 y4 y5 s → ¬ 5 ≤ y5 → (iAnd (iShr x3 y5) 1) = 1 → ∀ t6 : mSt, t6 = uS s 48 y5.toNat (-1) → BI (uS t6 45 y5.toNat (t6 (a1 + 1) y5.toNat)) a1 ∧ (0 ≤ x2 ∧ x2 < (uS t6 45 y5.toNat (t6 (a1 + 1) y5.toNat)) a1 3) ∧ (0 ≤ y5 ∧ y5 < (uS t6 45 y5.toNat (t6 (a1 + 1) y5.toNat)) a1 2))
  (z6 : ∀ y4 : Int, ∀ y5 : Int, ∀ s : mSt, I27 y4 y5 s → ¬ 5 ≤ y5 → (iAnd (iShr x3 y5) 1) = 1 → ∀ t6 : mSt, t6 = uS s 48 y5.toNat (-1) → ∀ t7 : mSt, t7 = uS t6 45 y5.toNat (t6 (a1 + 1) y5.toNat) → 0 ≤ y5 ∧ y5 < 5)
  (z7 : ∀ y4 : Int, ∀ y5 : Int, ∀ s : mSt, I27 y4 y5 s → ¬ 5 ≤ y5 → (iAnd (iShr x3 y5) 1) = 1 → ∀ t6 : mSt, t6 = uS s 48 y5.toNat (-1) → ∀ t7 : mSt, t7 = uS t6 45 y5.toNat (t6 (a1 + 1) y5.toNat) → 1 ≤ ((uS t7 46 y5.toNat (tm (brow (uS t6 45 y5.toNat (t6 (a1 + 1) y5.toNat)) a1) x2.toNat y5.toNat)) 46 y5.toNat) ∧ ((uS t7 46 y5.toNat (tm (brow (uS t6 45 y5.toNat (t6 (a1 + 1) y5.toNat)) a1) x2.toNat y5.toNat)) 46 y5.toNat) ≤ 12)
  (z8 : ∀ y4 : Int, ∀ y5 : Int, ∀ s : mSt, I27 y4 y5 s → ¬ 5 ≤ y5 → (iAnd (iShr x3 y5) 1) = 1 → ∀ t6 : mSt, t6 = uS s 48 y5.toNat (-1) → ∀ t7 : mSt, t7 = uS t6 45 y5.toNat (t6 (a1 + 1) y5.toNat) → ∀ t8 : mSt, t8 = uS t7 46 y5.toNat (tm (brow (uS t6 45 y5.toNat (t6 (a1 + 1) y5.toNat)) a1) x2.toNat y5.toNat) → 0 ≤ y5 ∧ y5 < 5)
  (z9 : ∀ y4 : Int, ∀ y5 : Int, ∀ s : mSt, I27 y4 y5 s → ¬ 5 ≤ y5 → (iAnd (iShr x3 y5) 1) = 1 → ∀ t6 : mSt, t6 = uS s 48 y5.toNat (-1) → ∀ t7 : mSt, t7 = uS t6 45 y5.toNat (t6 (a1 + 1) y5.toNat) → ∀ t8 : mSt, t8 = uS t7 46 y5.toNat (tm (brow (uS t6 45 y5.toNat (t6 (a1 + 1) y5.toNat)) a1) x2.toNat y5.toNat) → 1 ≤ (t8 46 y5.toNat) ∧ (t8 46 y5.toNat) ≤ 12)
  (z10 : ∀ y4 : Int, ∀ y5 : Int, ∀ s : mSt, I27 y4 y5 s → ¬ 5 ≤ y5 → (iAnd (iShr x3 y5) 1) = 1 → ∀ t6 : mSt, t6 = uS s 48 y5.toNat (-1) → ∀ t7 : mSt, t7 = uS t6 45 y5.toNat (t6 (a1 + 1) y5.toNat) → ∀ t8 : mSt, t8 = uS t7 46 y5.toNat (tm (brow (uS t6 45 y5.toNat (t6 (a1 + 1) y5.toNat)) a1) x2.toNat y5.toNat) → 0 ≤ (t8 45 y5.toNat))
  (z11 : ∀ y4 : Int, ∀ y5 : Int, ∀ s : mSt, I27 y4 y5 s → ¬ 5 ≤ y5 → (iAnd (iShr x3 y5) 1) = 1 → ∀ t6 : mSt, t6 = uS s 48 y5.toNat (-1) → ∀ t7 : mSt, t7 = uS t6 45 y5.toNat (t6 (a1 + 1) y5.toNat) → ∀ t8 : mSt, t8 = uS t7 46 y5.toNat (tm (brow (uS t6 45 y5.toNat (t6 (a1 + 1) y5.toNat)) a1) x2.toNat y5.toNat) → ∀ t9 : mSt, t9 = uS t8 47 y5.toNat (iAnd (iOr (rn (iAnd y4 1048575) (((uS t7 46 y5.toNat (tm (brow (uS t6 45 y5.toNat (t6 (a1 + 1) y5.toNat)) a1) x2.toNat y5.toNat)) 46 y5.toNat).toNat - 1)) (rn (iAnd y4 (-1048576)) ((t8 46 y5.toNat).toNat - 1))) (os (fun t => decide ((t8 45 y5.toNat) ≤ (t : Int))) 30)) → I27 y4 (w32 (y5 + 1)) t9 ∧ m27 y4 (w32 (y5 + 1)) t9 < m27 y4 y5 s)
  (z12 : BI s a1 ∧ ¬ s a1 0 = 0)
  (z13 : 0 ≤ x2 ∧ x2 < 6)
  (z14 : I27 (os (fun t => decide (0 < fre (brow s a1) t)) 30) 0 (uS (uS s 44 4 (s a1 1)) 44 5 ((uS s 44 4 (s a1 1)) (a1 + 5) x2.toNat))) :
  Sp X (d + 2) 62 [mR 44, mR a1, mI x2, mI x3] s Q := by
  have L : ∀ k : Nat, (∀ (y4 : Int) (y5 : Int) (l6 : Option mV) (s : mSt), I27 y4 y5 s → m27 y4 y5 s < k → Wp X (d + 2) 62 27 [some (mR 44), some (mR a1), some (mI x2), some (mI x3), some (mI y4), some (mI y5), l6] [] s Q) := by
    intro k
    induction k with
    | zero => exact fun _ _ _ _ _ h => absurd h (Nat.not_lt_zero _)
    | succ k ih => exact fun y4 y5 l6 s hI hm => b62_27 h1 (fun q1 => b62_138 h1 (z1 y4 y5 s hI q1)) (fun q2 => b62_33 h1 (z2 y4 y5 s hI q2) (fun q3 => Wp_gen (fun t4 e4 => b62_132 h1 (ih y4 (w32 (y5 + 1)) l6 t4 (z3 y4 y5 s hI q2 q3 t4 e4).1 (Nat.lt_of_lt_of_le (z3 y4 y5 s hI q2 q3 t4 e4).2 (Nat.le_of_lt_succ hm))))) (fun q5 => Wp_gen (fun t6 e6 => b62_51 h1 (z4 y4 y5 s hI q2 q5 t6 e6) (z4 y4 y5 s hI q2 q5 t6 e6) (c14 h1 (z5 y4 y5 s hI q2 q5 t6 e6) ⟨_, rfl, Wp_gen (fun t7 e7 => b62_78 h1 (z6 y4 y5 s hI q2 q5 t6 e6 t7 e7) (z6 y4 y5 s hI q2 q5 t6 e6 t7 e7) (c63 (z7 y4 y5 s hI q2 q5 t6 e6 t7 e7) ⟨_, rfl, Wp_gen (fun t8 e8 => b62_94 h1 (z8 y4 y5 s hI q2 q5 t6 e6 t7 e7 t8 e8) (c63 (z9 y4 y5 s hI q2 q5 t6 e6 t7 e7 t8 e8) ⟨_, rfl, b62_109 h1 (z8 y4 y5 s hI q2 q5 t6 e6 t7 e7 t8 e8) (c31 (z10 y4 y5 s hI q2 q5 t6 e6 t7 e7 t8 e8) ⟨_, rfl, b62_130 h1 (z8 y4 y5 s hI q2 q5 t6 e6 t7 e7 t8 e8) (Wp_gen (fun t9 e9 => b62_132 h1 (ih y4 (w32 (y5 + 1)) (some (mI (iOr (rn (iAnd y4 1048575) (((uS t7 46 y5.toNat (tm (brow (uS t6 45 y5.toNat (t6 (a1 + 1) y5.toNat)) a1) x2.toNat y5.toNat)) 46 y5.toNat).toNat - 1)) (rn (iAnd y4 (-1048576)) ((t8 46 y5.toNat).toNat - 1))))) t9 (z11 y4 y5 s hI q2 q5 t6 e6 t7 e7 t8 e8 t9 e9).1 (Nat.lt_of_lt_of_le (z11 y4 y5 s hI q2 q5 t6 e6 t7 e7 t8 e8 t9 e9).2 (Nat.le_of_lt_succ hm)))))⟩)⟩))⟩))⟩))))
  exact e62 (b62_0 h1 (c18 h1 z12 ⟨_, rfl, b62_4 h1 z13 ((L (m27 (os (fun t => decide (0 < fre (brow s a1) t)) 30) 0 (uS (uS s 44 4 (s a1 1)) 44 5 ((uS s 44 4 (s a1 1)) (a1 + 5) x2.toNat)) + 1)) (os (fun t => decide (0 < fre (brow s a1) t)) 30) 0 none (uS (uS s 44 4 (s a1 1)) 44 5 ((uS s 44 4 (s a1 1)) (a1 + 5) x2.toNat)) z14 (Nat.lt_succ_self _))⟩))

theorem c62 {X : (Nat → Int) × Nat} {d : Nat} {s : mSt} {Q : mQ} {a1 : Nat} {x2 : Int} {x3 : Int} (h1 : isBd a1) (p1 : BI s a1 ∧ ¬ s a1 0 = 0 ∧ (0 ≤ x2 ∧ x2 < s a1 3) ∧ (0 ≤ x3 ∧ x3 < 32) ∧ ∀ p, x3.toNat.testBit p = true → p < np (brow s a1)) (k : ∀ t : mSt, (PR t (brow s a1) x2.toNat x3.toNat ∧ (∀ p, p < 5 → t 48 p = -1) ∧ (∀ x, ¬ (44 ≤ x ∧ x ≤ 48) → t x = s x)) → Q none t) : Sp X (d + 2) 62 [mR 44, mR a1, mI x2, mI x3] s Q := by
  obtain ⟨h, hd, h2, h3, hm⟩ := p1
  have hp := bd_pl h1
  have hl := bd_lt h1
  have h4 := bi_nc h
  have h5 := bi_np h
  have n6 := nc_le h.1
  have n5 := np_le h.1
  obtain ⟨c, rfl⟩ := nat_of h2.1
  obtain ⟨m, rfl⟩ := nat_of h3.1
  rw [tnc] at hm
  rw [tnc, tnc] at k
  have hcond : ∀ j : Nat, j < 5 → (iAnd (iShr (m : Int) (j : Int)) 1 = 1 ↔ m.testBit j = true) := fun j hj => by
    rw [bt_iff _ (by omega)]; unfold bt; rw [tnc, bq_nat (by omega)]
  have hf : ∀ t, t < 30 → 0 ≤ fre (brow s a1) t := fun t ht => (fre_bd h.1 ht).1
  have hf2 : ∀ t, 0 ≤ fre (brow s a1) t := fun t => by unfold fre; split <;> omega
  -- what holds within the loop
  let J : Int → Int → mSt → Prop := fun y4 y5 t => ∃ j : Nat, y5 = j ∧ j ≤ 5 ∧ y4 = os (fun t => decide (0 < fre (brow s a1) t)) 30 ∧ t 44 4 = brow s a1 2 ∧ t 44 5 = brow s a1 (129 + c) ∧
    (∀ p, p < j → (m.testBit p = true → t 45 p = brow s a1 (6 + p) ∧ t 46 p = tm (brow s a1) c p ∧ t 47 p = os (ftA (brow s a1) c p) 30) ∧ t 48 p = -1) ∧ (∀ x, ¬ (44 ≤ x ∧ x ≤ 48) → t x = s x)
  have hB : ∀ y4 y5 t, J y4 y5 t → ∀ u : mSt, (∀ x, ¬ (44 ≤ x ∧ x ≤ 48) → u x = t x) → BI u a1 ∧ brow u a1 = brow s a1 ∧ (∀ x, ¬ (44 ≤ x ∧ x ≤ 48) → u x = s x) := fun y4 y5 t ⟨j, _, _, _, _, _, _, ex⟩ u hu => by
    have e : ∀ x, ¬ (44 ≤ x ∧ x ≤ 48) → u x = s x := fun x hx => (hu x hx).trans (ex x hx)
    have := BI_fP h1 h (t := u) (fun x hx => e x (by omega))
    exact ⟨this.1, this.2, e⟩
  refine v62 h1 J (fun _ y _ => (5 - y).toNat) ?_ ?_ ?_ ?_ ?_ ?_ ?_ ?_ ?_ ?_ ?_ ?_ ?_ ?_
  · rintro y4 _ t ⟨j, rfl, hj, e4, q1, q2, q3, q4⟩ hc
    have : j = 5 := by omega
    subst this
    exact k t ⟨⟨q1, q2, fun p hp hb => (q3 p hp).1 hb⟩, fun p hp => (q3 p hp).2, q4⟩
  · rintro y4 _ t ⟨j, rfl, hj, e4, q1, q2, q3, q4⟩ hc
    omega
  · rintro y4 _ t ⟨j, rfl, hj, e4, q1, q2, q3, q4⟩ hc q u hu
    rw [hcond j (by omega)] at q
    rw [tnc] at hu
    subst hu
    rw [w32_of (by omega)]
    refine ⟨⟨j + 1, by omega, by omega, e4, by rw [uS_cell (by decide)]; exact q1, by rw [uS_cell (by decide)]; exact q2, fun p hp => ?_, fun x hx => ?_⟩, by omega⟩
    · by_cases e : p = j
      · subst e
        exact ⟨fun z => absurd z q, by rw [uS_at, if_pos rfl]⟩
      · have := q3 p (by omega)
        rw [uS_cell (by decide), uS_cell (by decide), uS_cell (by decide), uS_at, if_neg e]
        exact this
    · rw [uS_cell (by omega)]; exact q4 x hx
  · rintro y4 _ t ⟨j, rfl, hj, e4, q1, q2, q3, q4⟩ hc q u hu
    omega
  · intro y4 y5 t hJ hc q u hu
    have ⟨j, ej, hj, _⟩ := hJ
    subst ej
    rw [hcond j (by omega)] at q
    have hw := hB _ _ _ hJ (uS u 45 (j : Int).toNat (u (a1 + 1) (j : Int).toNat)) (fun x hx => by rw [uS_cell (by omega), hu, uS_cell (by omega)])
    refine ⟨hw.1, ?_, ?_⟩
    · rw [hw.2.2 a1 (by omega)]; exact h2
    · rw [hw.2.2 a1 (by omega)]
      have := hm j q
      omega
  · rintro y4 _ t ⟨j, rfl, hj, e4, q1, q2, q3, q4⟩ hc q u hu v hv
    omega
  · intro y4 y5 t hJ hc q u hu v hv
    have ⟨j, ej, hj, _⟩ := hJ
    subst ej
    rw [hcond j (by omega)] at q
    have hw := hB _ _ _ hJ (uS u 45 (j : Int).toNat (u (a1 + 1) (j : Int).toNat)) (fun x hx => by rw [uS_cell (by omega), hu, uS_cell (by omega)])
    rw [uS_at, if_pos rfl, hw.2.1, tnc, tnc]
    exact ⟨tm_pos h.1 (by omega) (hm j q), (tm_bd h.1 (by omega) (by omega)).2⟩
  · rintro y4 _ t ⟨j, rfl, hj, e4, q1, q2, q3, q4⟩ hc q u hu v hv w hw
    omega
  · intro y4 y5 t hJ hc q u hu v hv w hw
    have ⟨j, ej, hj, _⟩ := hJ
    subst ej
    rw [hcond j (by omega)] at q
    have hx := hB _ _ _ hJ (uS u 45 (j : Int).toNat (u (a1 + 1) (j : Int).toNat)) (fun x hx => by rw [uS_cell (by omega), hu, uS_cell (by omega)])
    rw [hw, uS_at, if_pos rfl, hx.2.1, tnc, tnc]
    exact ⟨tm_pos h.1 (by omega) (hm j q), (tm_bd h.1 (by omega) (by omega)).2⟩
  · intro y4 y5 t hJ hc q u hu v hv w hw
    have ⟨j, ej, hj, _, _, _, _, ex⟩ := hJ
    subst ej
    rw [hcond j (by omega)] at q
    have bS := okS h.1 (p := j) (by omega)
    rw [hw, uS_cell (by decide), hv, tnc, uS_at, if_pos rfl, hu, uS_cell (by omega), ex _ (by omega), biS h (hm j q)]
    exact bS.1
  · intro y4 y5 t hJ hc q u hu v hv w hw z hz
    have ⟨j, ej, hj, e4, q1, q2, q3, ex⟩ := hJ
    subst ej
    rw [hcond j (by omega)] at q
    have hx := hB _ _ _ hJ (uS u 45 (j : Int).toNat (u (a1 + 1) (j : Int).toNat)) (fun x hx => by rw [uS_cell (by omega), hu, uS_cell (by omega)])
    have t1 := tm_pos h.1 (c := c) (by omega) (hm j q)
    have t2 := tm_bd h.1 (c := c) (p := j) (by omega) (by omega)
    rw [hx.2.1, tnc, tnc] at hw
    have e46 : w 46 j = tm (brow s a1) c j := by rw [hw, uS_at, if_pos rfl]
    have e45 : w 45 j = brow s a1 (6 + j) := by rw [hw, uS_cell (by decide), hv, tnc, uS_at, if_pos rfl, hu, uS_cell (by omega), ex _ (by omega), biS h (hm j q)]
    rw [hx.2.1, tnc, tnc, uS_at, if_pos rfl, e46, e45, e4, fits_bits t1 t2.2 hf2] at hz
    rw [w32_of (by omega)]
    refine ⟨⟨j + 1, by omega, by omega, e4, ?_, ?_, fun p hp => ?_, fun x hx => ?_⟩, by omega⟩
    · rw [hz, uS_cell (by decide), hw, uS_cell (by decide), hv, uS_cell (by decide), hu, uS_cell (by decide)]; exact q1
    · rw [hz, uS_cell (by decide), hw, uS_cell (by decide), hv, uS_cell (by decide), hu, uS_cell (by decide)]; exact q2
    · by_cases e : p = j
      · subst e
        refine ⟨fun _ => ⟨?_, ?_, ?_⟩, ?_⟩
        · rw [hz, uS_cell (by decide)]; exact e45
        · rw [hz, uS_cell (by decide)]; exact e46
        · rw [hz, uS_at, if_pos rfl]
        · rw [hz, uS_cell (by decide), hw, uS_cell (by decide), hv, uS_cell (by decide), hu, tnc, uS_at, if_pos rfl]
      · have := q3 p (by omega)
        have w45 : z 45 p = t 45 p := by rw [hz, uS_cell (by decide), hw, uS_cell (by decide), hv, tnc, uS_at, if_neg e, hu, uS_cell (by decide)]
        have w46 : z 46 p = t 46 p := by rw [hz, uS_cell (by decide), hw, uS_at, if_neg e, hv, uS_cell (by decide), hu, uS_cell (by decide)]
        have w47 : z 47 p = t 47 p := by rw [hz, uS_at, if_neg e, hw, uS_cell (by decide), hv, uS_cell (by decide), hu, uS_cell (by decide)]
        have w48 : z 48 p = t 48 p := by rw [hz, uS_cell (by decide), hw, uS_cell (by decide), hv, uS_cell (by decide), hu, tnc, uS_at, if_neg e]
        rw [w45, w46, w47, w48]
        exact this
    · rw [hz, uS_cell (by omega), hw, uS_cell (by omega), hv, uS_cell (by omega), hu, uS_cell (by omega)]; exact ex x hx
  · exact ⟨h, hd⟩
  · omega
  · refine ⟨0, rfl, by omega, rfl, ?_, ?_, fun p hp => absurd hp (by omega), fun x hx => ?_⟩
    · rw [uS_at, if_neg (by decide), uS_at, if_pos rfl, bi2 h]
    · rw [uS_at, if_pos rfl, uS_cell (by omega), tnc, biR h (by omega)]
    · rw [uS_cell (by omega), uS_cell (by omega)]
def FQ0 (a : Rw) (c m : Nat) (s : mSt) (x1 x2 x3 x4 x5 : Int) : Prop := Ok a ∧ c < 6 ∧ (∀ p, m.testBit p = true → p < np a) ∧ x1 = (m : Int) ∧ FP a c m 5 m ini bt0 x2 x3 x4 x5 s
theorem c64q {X : (Nat → Int) × Nat} {d : Nat} {s : mSt} {Q : mQ} {a : Rw} {c m : Nat} {x1 x2 x3 x4 x5 : Int} (p1 : FQ0 a c m s x1 x2 x3 x4 x5) (k : ∀ t : mSt, FR a c m 5 m ini bt0 s t → Q none t) : Sp X (d + 7) 64 [mR 44, mI x1, mI x2, mI x3, mI x4, mI x5] s Q := by
  obtain ⟨h1, h2, h3, rfl, h4⟩ := p1
  exact fol h1 h2 h3 5 h4 k
theorem os_f (n : Nat) : os (fun _ => false) n = 0 := by
  induction n with
  | zero => rfl
  | succ n ih => rw [os_s, ih]; rfl
theorem an_f (n : Nat) : an (fun _ => false) n = false := by
  induction n with
  | zero => rfl
  | succ n ih => rw [an_s, ih]; rfl
theorem ord_len {m : Nat} (h : m < 32) : (ords 5 m).length ≤ 1000 ∧ cntB m ≤ 5 := (show ∀ m : Fin 32, (ords 5 m.val).length ≤ 1000 ∧ cntB m.val ≤ 5 by decide +kernel) ⟨m, h⟩
theorem v59 {X : (Nat → Int) × Nat} {d : Nat} {s : mSt} {Q : mQ} {a1 : Nat} {x2 : Int} {x3 : Int} (h1 : isBd a1)
  (z1 : BI s a1 ∧ ¬ s a1 0 = 0 ∧ (0 ≤ x2 ∧ x2 < s a1 3) ∧ (0 ≤ x3 ∧ x3 < 32) ∧ ∀ p, x3.toNat.testBit p = true → p < np (brow s a1))
  (z2 : ∀ s1 : mSt, (PR s1 (brow s a1) x2.toNat x3.toNat ∧ (∀ p, p < 5 → s1 48 p = -1) ∧ (∀ x, ¬ (44 ≤ x ∧ x ≤ 48) → s1 x = s x)) → FQ0 (brow s a1) x2.toNat x3.toNat (uS s1 44 6 0) x3 (-1) 0 0 0)
  (z3 : ∀ s1 : mSt, (PR s1 (brow s a1) x2.toNat x3.toNat ∧ (∀ p, p < 5 → s1 48 p = -1) ∧ (∀ x, ¬ (44 ≤ x ∧ x ≤ 48) → s1 x = s x)) → ∀ s2 : mSt, FR (brow s a1) x2.toNat x3.toNat 5 x3.toNat ini bt0 (uS s1 44 6 0) s2 → (s2 44 6) ≤ 0 → Q (some (mI 0)) s2)
  (z4 : ∀ s1 : mSt, (PR s1 (brow s a1) x2.toNat x3.toNat ∧ (∀ p, p < 5 → s1 48 p = -1) ∧ (∀ x, ¬ (44 ≤ x ∧ x ≤ 48) → s1 x = s x)) → ∀ s2 : mSt, FR (brow s a1) x2.toNat x3.toNat 5 x3.toNat ini bt0 (uS s1 44 6 0) s2 → ¬ (s2 44 6) ≤ 0 → Q (some (mI 1)) s2) :
  Sp X (d + 8) 59 [mR 44, mR a1, mI x2, mI x3] s Q := e59 (b59_0 h1 (c62 h1 z1 (fun s1 q1 => ⟨rfl, b59_7 h1 (c64q (z2 s1 q1) (fun s2 q2 => ⟨rfl, b59_21 h1 (fun q3 => b59_32 h1 (b59_33 h1 (z3 s1 q1 s2 q2 q3) (Or.inl rfl))) (fun q4 => b59_28 h1 (b59_33 h1 (z4 s1 q1 s2 q2 q4) (Or.inr rfl)))⟩))⟩)))

theorem c59 {X : (Nat → Int) × Nat} {d : Nat} {s : mSt} {Q : mQ} {a1 : Nat} {x2 : Int} {x3 : Int} (h1 : isBd a1) (p1 : BI s a1 ∧ ¬ s a1 0 = 0 ∧ (0 ≤ x2 ∧ x2 < s a1 3) ∧ (0 < x3 ∧ x3 < 32) ∧ ∀ p, x3.toNat.testBit p = true → p < np (brow s a1)) (k1 : ∀ t : mSt, (0 < (plB (brow s a1) x2.toNat x3.toNat).1 ∧ PB t (brow s a1) x2.toNat x3.toNat (plB (brow s a1) x2.toNat x3.toNat) ∧ fP s t) → Q (some (mI 1)) t) (k0 : ∀ t : mSt, ((plB (brow s a1) x2.toNat x3.toNat).1 = 0 ∧ PB t (brow s a1) x2.toNat x3.toNat (plB (brow s a1) x2.toNat x3.toNat) ∧ fP s t) → Q (some (mI 0)) t) : Sp X (d + 8) 59 [mR 44, mR a1, mI x2, mI x3] s Q := by
  obtain ⟨h, hd, h2, h3, hm⟩ := p1
  have h4 := bi_nc h
  have n6 := nc_le h.1
  have key : ∀ s1 s2 : mSt, (PR s1 (brow s a1) x2.toNat x3.toNat ∧ (∀ p, p < 5 → s1 48 p = -1) ∧ (∀ x, ¬ (44 ≤ x ∧ x ≤ 48) → s1 x = s x)) → FR (brow s a1) x2.toNat x3.toNat 5 x3.toNat ini bt0 (uS s1 44 6 0) s2 →
      PB s2 (brow s a1) x2.toNat x3.toNat (plB (brow s a1) x2.toNat x3.toNat) ∧ fP s s2 := fun s1 s2 q1 q2 => by
    refine ⟨q2.2.1, fun x hx => ?_⟩
    rw [q2.2.2.2 x (by omega) (by omega) (by omega), uS_cell (by omega)]
    exact q1.2.2 x (by omega)
  refine v59 h1 ⟨h, hd, h2, by omega, hm⟩ (fun s1 q => ?_) (fun s1 q s2 q2 z => ?_) (fun s1 q s2 q2 z => ?_)
  · refine ⟨h.1, by omega, hm, by omega, PR_cell q.1 ?_ ?_ ?_ ?_ ?_, ⟨?_, ?_, fun z => absurd rfl z⟩, ⟨by omega, (ord_len (by omega)).2, fun p hp => hp⟩, Or.inl ⟨rfl, rfl, by omega⟩, ⟨rfl, by omega, by omega⟩, ⟨fun p hp _ => ?_, fun p _ => rfl⟩, ⟨?_, ?_⟩, ?_⟩
    · rw [uS_at, if_neg (by decide)]
    · rw [uS_at, if_neg (by decide)]
    · rw [uS_cell (by decide)]
    · rw [uS_cell (by decide)]
    · rw [uS_cell (by decide)]
    · rw [uS_at, if_pos rfl]; rfl
    · exact Int.le_refl 0
    · rw [uS_cell (by decide)]; exact q.2.1 p hp
    · rw [os_congr (g := fun _ => false) (fun t _ => by
        unfold sNl; rw [an_congr (g := fun _ => false) (fun p _ => by cases x3.toNat.testBit p <;> rfl), an_f]), os_f]
    · rw [os_congr (g := fun _ => false) (fun t _ => by
        unfold dNl; rw [an_congr (g := fun _ => false) (fun p _ => by cases x3.toNat.testBit p <;> rfl), an_f]), os_f]
    · have := (ord_len (m := x3.toNat) (by omega)).1
      show (0 : Int) + _ ≤ 1000
      omega
  · have w := key s1 s2 q q2
    have := w.1.1
    have := w.1.2.1
    exact k0 s2 ⟨by omega, w⟩
  · have w := key s1 s2 q q2
    have := w.1.1
    have := w.1.2.1
    exact k1 s2 ⟨by omega, w⟩
