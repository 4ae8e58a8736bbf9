/-! the best order: the class -/
theorem v98 {X : (Nat → Int) × Nat} {d : Nat} {s : mSt} {Q : mQ} {x1 : Int} {x2 : Int} {x3 : Int} {x4 : Int}
  (I63 : Int → mSt → Prop) (m63 : Int → mSt → Nat)
  (I143 : Int → Int → mSt → Prop) (m143 : Int → Int → mSt → Nat)
  (I167 : Int → mSt → Prop) (m167 : Int → mSt → Nat)
  (z1 : ∀ y5 : Int, ∀ s : mSt, I63 y5 s → (s 54 3) ≤ y5 → Q none s)
  (z2 : ∀ y5 : Int, ∀ s : mSt, I63 y5 s → ¬ (s 54 3) ≤ y5 → ¬ (iAnd (iShr x1 y5) 1) = 1 → I167 y5 s ∧ m167 y5 s < m63 y5 s)
  (z3 : ∀ y5 : Int, ∀ s : mSt, I63 y5 s → ¬ (s 54 3) ≤ y5 → (iAnd (iShr x1 y5) 1) = 1 → 0 ≤ x2 ∧ x2 < 4)
  (z4 : ∀ y5 : Int, ∀ s : mSt, I63 y5 s → ¬ (s 54 3) ≤ y5 → (iAnd (iShr x1 y5) 1) = 1 → ∀ t5 : mSt, t5 = uS s 65 x2.toNat y5 → BI t5 54)
  (z5 : ∀ y5 : Int, ∀ s : mSt, I63 y5 s → ¬ (s 54 3) ≤ y5 → (iAnd (iShr x1 y5) 1) = 1 → ∀ t5 : mSt, t5 = uS s 65 x2.toNat y5 → ∀ s6 : mSt, (((0 ≤ y5 ∧ y5 < t5 54 3) ∧ ¬ pl (brow t5 54) y5.toNat = true) ∧ 0 < (pA1 (brow t5 54) y5.toNat).1 ∧ BI s6 54 ∧ brow s6 54 = lyR (brow t5 54) y5.toNat (pA1 (brow t5 54) y5.toNat).2.2.2.2 ∧ PB s6 (brow t5 54) y5.toNat (sM (brow t5 54) y5.toNat) (pA1 (brow t5 54) y5.toNat) ∧ fBP t5 s6 54) → BI s6 54 ∧ (0 ≤ y5 ∧ y5 < s6 54 3))
  (z6 : ∀ y5 : Int, ∀ s : mSt, I63 y5 s → ¬ (s 54 3) ≤ y5 → (iAnd (iShr x1 y5) 1) = 1 → ∀ t5 : mSt, t5 = uS s 65 x2.toNat y5 → ∀ s6 : mSt, (((0 ≤ y5 ∧ y5 < t5 54 3) ∧ ¬ pl (brow t5 54) y5.toNat = true) ∧ 0 < (pA1 (brow t5 54) y5.toNat).1 ∧ BI s6 54 ∧ brow s6 54 = lyR (brow t5 54) y5.toNat (pA1 (brow t5 54) y5.toNat).2.2.2.2 ∧ PB s6 (brow t5 54) y5.toNat (sM (brow t5 54) y5.toNat) (pA1 (brow t5 54) y5.toNat) ∧ fBP t5 s6 54) → Sp X (d + 9) 98 [mR 53, mI (iAnd x1 (iXor (iShl 1 y5) (-1))), mI (w32 (x2 + 1)), mI (w32 (x3 + 1)), mI (w32 (x4 + (if pl (brow s6 54) y5.toNat = true then kpo (brow s6 54) y5.toNat else 0)))] s6 (fun r t7 => r = none ∧ (I143 y5 (iAnd x1 (iXor (iShl 1 y5) (-1))) t7 ∧ m143 y5 (iAnd x1 (iXor (iShl 1 y5) (-1))) t7 < m63 y5 s)))
  (z7 : ∀ y5 : Int, ∀ s : mSt, I63 y5 s → ¬ (s 54 3) ≤ y5 → (iAnd (iShr x1 y5) 1) = 1 → ∀ t5 : mSt, t5 = uS s 65 x2.toNat y5 → ∀ s8 : mSt, (¬ (((0 ≤ y5 ∧ y5 < t5 54 3) ∧ ¬ pl (brow t5 54) y5.toNat = true) ∧ 0 < (pA1 (brow t5 54) y5.toNat).1) ∧ BI s8 54 ∧ brow s8 54 = brow t5 54 ∧ fP t5 s8) → Sp X (d + 9) 98 [mR 53, mI (iAnd x1 (iXor (iShl 1 y5) (-1))), mI (w32 (x2 + 1)), mI x3, mI x4] s8 (fun r t9 => r = none ∧ (I167 y5 t9 ∧ m167 y5 t9 < m63 y5 s)))
  (z8 : ∀ y5 : Int, ∀ y6 : Int, ∀ s : mSt, I143 y5 y6 s → BI s 54 ∧ (0 ≤ y5 ∧ y5 < s 54 3))
  (z9 : ∀ y5 : Int, ∀ y6 : Int, ∀ s : mSt, I143 y5 y6 s → ∀ s10 : mSt, (BI s10 54 ∧ brow s10 54 = wtR (brow s 54) y5.toNat ∧ fB s s10 54) → I167 y5 s10 ∧ m167 y5 s10 < m143 y5 y6 s)
  (z10 : ∀ y5 : Int, ∀ s : mSt, I167 y5 s → I63 (w32 (y5 + 1)) s ∧ m63 (w32 (y5 + 1)) s < m167 y5 s)
  (z11 : x1 = 0 → (s 53 3) < x3 → ∀ t13 : mSt, t13 = cS (uS (uS s 53 3 x3) 53 4 x4) 65 0 64 0 4 → Q none t13)
  (z12 : x1 = 0 → ¬ (s 53 3) < x3 → ¬ x3 = (s 53 3) → Q none s)
  (z13 : x1 = 0 → ¬ (s 53 3) < x3 → x3 = (s 53 3) → (s 53 4) ≤ x4 → Q none s)
  (z14 : x1 = 0 → ¬ (s 53 3) < x3 → x3 = (s 53 3) → ¬ (s 53 4) ≤ x4 → ∀ t19 : mSt, t19 = cS (uS (uS s 53 3 x3) 53 4 x4) 65 0 64 0 4 → Q none t19)
  (z15 : ¬ x1 = 0 → x2 < 4 → I63 0 s)
  (z16 : ¬ x1 = 0 → ¬ x2 < 4 → (s 53 3) < x3 → ∀ t24 : mSt, t24 = cS (uS (uS s 53 3 x3) 53 4 x4) 65 0 64 0 4 → Q none t24)
  (z17 : ¬ x1 = 0 → ¬ x2 < 4 → ¬ (s 53 3) < x3 → ¬ x3 = (s 53 3) → Q none s)
  (z18 : ¬ x1 = 0 → ¬ x2 < 4 → ¬ (s 53 3) < x3 → x3 = (s 53 3) → (s 53 4) ≤ x4 → Q none s)
  (z19 : ¬ x1 = 0 → ¬ x2 < 4 → ¬ (s 53 3) < x3 → x3 = (s 53 3) → ¬ (s 53 4) ≤ x4 → ∀ t30 : mSt, t30 = cS (uS (uS s 53 3 x3) 53 4 x4) 65 0 64 0 4 → Q none t30) :
  Sp X (d + 10) 98 [mR 53, mI x1, mI x2, mI x3, mI x4] s Q := by
  have L : ∀ k : Nat, (∀ (y5 : Int) (l6 : Option mV) (s : mSt), I63 y5 s → m63 y5 s < k → Wp X (d + 10) 98 63 [some (mR 53), some (mI x1), some (mI x2), some (mI x3), some (mI x4), some (mI y5), l6] [] s Q) ∧ (∀ (y5 : Int) (y6 : Int) (s : mSt), I143 y5 y6 s → m143 y5 y6 s < k → Wp X (d + 10) 98 143 [some (mR 53), some (mI x1), some (mI x2), some (mI x3), some (mI x4), some (mI y5), some (mI y6)] [] s Q) ∧ (∀ (y5 : Int) (l6 : Option mV) (s : mSt), I167 y5 s → m167 y5 s < k → Wp X (d + 10) 98 167 [some (mR 53), some (mI x1), some (mI x2), some (mI x3), some (mI x4), some (mI y5), l6] [] s Q) := by
    intro k
    induction k with
    | zero => exact ⟨fun _ _ _ _ h => absurd h (Nat.not_lt_zero _), fun _ _ _ _ h => absurd h (Nat.not_lt_zero _), fun _ _ _ _ h => absurd h (Nat.not_lt_zero _)⟩
    | succ k ih => exact ⟨fun y5 l6 s hI hm => b98_63 (fun q1 => b98_173 (z1 y5 s hI q1)) (fun q2 => b98_75 (fun q3 => ih.2.2 y5 l6 s (z2 y5 s hI q2 q3).1 (Nat.lt_of_lt_of_le (z2 y5 s hI q2 q3).2 (Nat.le_of_lt_succ hm))) (fun q4 => b98_85 (z3 y5 s hI q2 q4) (Sp_gen (fun t5 e5 => (c60 (bdm rfl) (z4 y5 s hI q2 q4 t5 e5) (fun s6 q6 => ⟨1, rfl, b98_116 (fun q => absurd q (by decide)) (fun _ => b98_119 (c21 (bdm rfl) (z5 y5 s hI q2 q4 t5 e5 s6 q6) ⟨_, rfl, b98_139 (Sp.imp (z6 y5 s hI q2 q4 t5 e5 s6 q6) (fun r t7 ⟨e, zI⟩ => ⟨e, ih.2.1 y5 (iAnd x1 (iXor (iShl 1 y5) (-1))) t7 zI.1 (Nat.lt_of_lt_of_le zI.2 (Nat.le_of_lt_succ hm))⟩))⟩))⟩) (fun s8 q8 => ⟨0, rfl, b98_116 (fun _ => b98_155 (Sp.imp (z7 y5 s hI q2 q4 t5 e5 s8 q8) (fun r t9 ⟨e, zI⟩ => ⟨e, ih.2.2 y5 (some (mI (iAnd x1 (iXor (iShl 1 y5) (-1))))) t9 zI.1 (Nat.lt_of_lt_of_le zI.2 (Nat.le_of_lt_succ hm))⟩))) (fun q => absurd q (by decide))⟩)))))), fun y5 y6 s hI hm => b98_143 (c24 (bdm rfl) (z8 y5 y6 s hI) (fun s10 q10 => ⟨rfl, b98_152 (ih.2.2 y5 (some (mI y6)) s10 (z9 y5 y6 s hI s10 q10).1 (Nat.lt_of_lt_of_le (z9 y5 y6 s hI s10 q10).2 (Nat.le_of_lt_succ hm)))⟩)), fun y5 l6 s hI hm => b98_167 (ih.1 (w32 (y5 + 1)) l6 s (z10 y5 s hI).1 (Nat.lt_of_lt_of_le (z10 y5 s hI).2 (Nat.le_of_lt_succ hm)))⟩
  exact e98 (b98_0 (fun q11 => b98_9 (fun q12 => b98_34 (Wp_gen (fun t13 e13 => b98_59 (z11 q11 q12 t13 e13)))) (fun q14 => b98_17 (fun q15 => b98_59 (z12 q11 q14 q15)) (fun q16 => b98_25 (fun q17 => b98_59 (z13 q11 q14 q16 q17)) (fun q18 => b98_34 (Wp_gen (fun t19 e19 => b98_59 (z14 q11 q14 q16 q18 t19 e19))))))) (fun q20 => b98_4 (fun q21 => b98_60 ((L (m63 0 s + 1)).1 0 none s (z15 q20 q21) (Nat.lt_succ_self _))) (fun q22 => b98_9 (fun q23 => b98_34 (Wp_gen (fun t24 e24 => b98_59 (z16 q20 q22 q23 t24 e24)))) (fun q25 => b98_17 (fun q26 => b98_59 (z17 q20 q22 q25 q26)) (fun q27 => b98_25 (fun q28 => b98_59 (z18 q20 q22 q25 q27 q28)) (fun q29 => b98_34 (Wp_gen (fun t30 e30 => b98_59 (z19 q20 q22 q25 q27 q29 t30 e30)))))))))

def ordW : Nat → Nat → List (List Nat)
  | 0, _ => [[]]
  | n + 1, m => if m = 0 then [[]] else fm (fun p => if m.testBit p = true then (ordW n (m - 2 ^ p)).map (fun o => p :: o) else []) 6
def elW (m : Nat) : List Nat := (List.range 6).filter (fun p => m.testBit p)
def cnW (m : Nat) : Nat := (elW m).length
theorem cnW_0 {m : Nat} (h : m < 64) (hc : cnW m ≤ 0) : m = 0 := (show ∀ m : Fin 64, cnW m.val ≤ 0 → m.val = 0 by decide +kernel) ⟨m, h⟩ hc
theorem cnW_s {m p : Nat} (h : m < 64) (hp : p < 6) (hb : m.testBit p = true) : cnW (m - 2 ^ p) + 1 = cnW m ∧ 2 ^ p ≤ m ∧ ∀ q, q < 6 → (m - 2 ^ p).testBit q = (m.testBit q && !decide (q = p)) := by
  have h1 := (show ∀ m : Fin 64, ∀ p : Fin 6, m.val.testBit p.val = true → cnW (m.val - 2 ^ p.val) + 1 = cnW m.val ∧ 2 ^ p.val ≤ m.val ∧ ∀ q : Fin 6, (m.val - 2 ^ p.val).testBit q.val = (m.val.testBit q.val && !decide (q.val = p.val)) by decide +kernel) ⟨m, h⟩ ⟨p, hp⟩ hb
  exact ⟨h1.1, h1.2.1, fun q hq => h1.2.2 ⟨q, hq⟩⟩
theorem and_w {m p : Nat} (h : m < 64) (hp : p < 6) (hb : m.testBit p = true) : iAnd (m : Int) (iXor (iShl 1 (p : Int)) (-1)) = ((m - 2 ^ p : Nat) : Int) := (show ∀ m : Fin 64, ∀ p : Fin 6, m.val.testBit p.val = true → iAnd (m.val : Int) (iXor (iShl 1 (p.val : Int)) (-1)) = ((m.val - 2 ^ p.val : Nat) : Int) by decide +kernel) ⟨m, h⟩ ⟨p, hp⟩ hb
theorem fm_trim {α : Type} {F : Nat → List α} {n : Nat} : ∀ {k : Nat}, n ≤ k → (∀ i, n ≤ i → i < k → F i = []) → fm F k = fm F n
  | 0, h, _ => by rw [show n = 0 by omega]
  | k + 1, h, hz => by
    by_cases z : n = k + 1
    · rw [z]
    · rw [fm_s, fm_trim (F := F) (n := n) (k := k) (by omega) (fun i h1 h2 => hz i h1 (by omega)), hz k (by omega) (by omega), List.append_nil]
abbrev Bs : Type := Int × Int × List Nat
def updB (b : Bs) (m k : Int) (o : List Nat) : Bs := if b.1 < m ∨ (m = b.1 ∧ k < b.2.1) then (m, k, o) else b
def ev1 (q : Rw × Int × Int) (c : Nat) : Rw × Int × Int := if 0 < (pA1 q.1 c).1 then (lyR q.1 c (pA1 q.1 c).2.2.2.2, q.2.1 + 1, q.2.2 + (pA1 q.1 c).2.2.1) else q
def tryR (pre : List Nat) (q : Rw × Int × Int) (b : Bs) (o : List Nat) : Bs := updB b (o.foldl ev1 q).2.1 (o.foldl ev1 q).2.2 (pre ++ o)
theorem tryR_c (pre : List Nat) (q : Rw × Int × Int) (b : Bs) (p : Nat) (o : List Nat) : tryR pre q b (p :: o) = tryR (pre ++ [p]) (ev1 q p) b o := by
  unfold tryR; rw [List.foldl_cons, List.append_assoc]; rfl
theorem tryR_m (pre : List Nat) (q : Rw × Int × Int) (p : Nat) : ∀ (L : List (List Nat)) (b : Bs), (L.map (fun o => p :: o)).foldl (tryR pre q) b = L.foldl (tryR (pre ++ [p]) (ev1 q p)) b
  | [], _ => rfl
  | o :: L, b => by rw [List.map_cons, List.foldl_cons, List.foldl_cons, tryR_c]; exact tryR_m pre q p L _
def rwL (o : List Nat) (i : Nat) : Int := if i < o.length then ((o.getD i 0 : Nat) : Int) else -1
/-- the trial, the best row yet, the row's begin -/
def RP (a : Rw) (b : Bs) (pre : List Nat) (W : Nat) (t : mSt) : Prop := BI t 54 ∧ brow t 54 = a ∧ t 53 3 = b.1 ∧ (-1 ≤ b.1) ∧ (b.1 ≠ -1 → t 53 4 = b.2.1 ∧ ∀ i, i < 4 → t 64 i = rwL b.2.2 i) ∧ (∀ i, i < pre.length → t 65 i = ((pre.getD i 0 : Nat) : Int)) ∧ ∀ i, W ≤ i → i < 4 → t 65 i = -1
def frB (s t : mSt) : Prop := (∀ b, ¬ (44 ≤ b ∧ b ≤ 49) → ¬ (53 ≤ b ∧ b ≤ 65) → t b = s b) ∧ ∀ j, ¬ (j = 3 ∨ j = 4) → t 53 j = s 53 j
theorem frB_r (s : mSt) : frB s s := ⟨fun _ _ _ => rfl, fun _ _ => rfl⟩
theorem frB_t {s t u : mSt} (h1 : frB s t) (h2 : frB t u) : frB s u := ⟨fun b g1 g2 => (h2.1 b g1 g2).trans (h1.1 b g1 g2), fun j hj => (h2.2 j hj).trans (h1.2 j hj)⟩
theorem wt_ly {a g : Rw} {c : Nat} (n5 : np a ≤ 5) (h1 : a (41 + c) = 1) (hb : ∀ p, p < 5 → bg a c p = -1) : wtR (lyR a c g) c = a := by
  funext j
  unfold wtR lyR
  by_cases z1 : j = 41 + c
  · rw [if_pos z1, z1]; exact h1.symm
  rw [if_neg z1]
  by_cases z2 : 47 + 5 * c ≤ j ∧ j < 52 + 5 * c
  · rw [if_pos z2]
    have := hb (j - (47 + 5 * c)) (by omega)
    unfold bg at this
    rw [show 47 + 5 * c + (j - (47 + 5 * c)) = j by omega] at this
    exact this.symm
  · rw [if_neg z2, if_neg z1, if_neg (by omega)]
theorem bw_wait {t : mSt} {c : Nat} (h : BI t 54) (hc : c < nc (brow t 54)) (hw : ¬ pl (brow t 54) c = true) : brow t 54 (41 + c) = 1 ∧ ∀ p, p < 5 → bg (brow t 54) c p = -1 := by
  have n6 := nc_le h.1
  have hd := bi_dc h (by omega)
  have hb : ¬ bq (t 54 5) c = true := by rw [← bi_pl h hc]; exact hw
  refine ⟨by rw [biW hd (by omega), if_neg hb], fun p hp => ?_⟩
  rw [brow_B hd (by omega) hp, if_neg (fun z => hb z.1)]
theorem kpo_lay {a : Rw} {c : Nat} (h : Ok a) (hc : c < nc a) : kpo (lyR a c (pA1 a c).2.2.2.2) c = cn (kN a c (sM a c) (pA1 a c).2.2.2.2) 30 := by
  unfold kpo; exact cn_congr (fun t _ => kpt_lay h hc t)
/-- a leaf of the search -/
theorem RP_leaf {a : Rw} {b : Bs} {pre : List Nat} {W : Nat} {t : mSt} {m k : Int} (h : RP a b pre W t) (hW : pre.length = W) (hm : 0 ≤ m) :
    ((t 53 3 < m ∨ (m = t 53 3 ∧ ¬ t 53 4 ≤ k)) → ∀ u : mSt, u = cS (uS (uS t 53 3 m) 53 4 k) 65 0 64 0 4 → RP a (updB b m k pre) pre W u ∧ frB t u) ∧ ((¬ t 53 3 < m ∧ (m = t 53 3 → t 53 4 ≤ k)) → RP a (updB b m k pre) pre W t) := by
  obtain ⟨hB, e, e3, h1, hb, hp, hw⟩ := h
  refine ⟨fun z u hu => ?_, fun z => ?_⟩
  · have z' : b.1 < m ∨ (m = b.1 ∧ k < b.2.1) := by
      rw [e3] at z
      rcases z with z | z
      · exact Or.inl z
      · right
        have := (hb (by omega)).1
        exact ⟨z.1, by omega⟩
    have c : ∀ x, x ≠ 53 → x ≠ 64 → u x = t x := fun x h1 h2 => by rw [hu, cS_cell h2, uS_cell h1, uS_cell h1]
    have q := BI_cells (t := u) hB (fun x hx => c x (by omega) (by omega)) (c 417 (by omega) (by omega))
    have c53 : ∀ j, u 53 j = if j = 4 then k else if j = 3 then m else t 53 j := fun j => by rw [hu, cS_cell (by decide), uS_at, uS_at]
    refine ⟨⟨q.1, q.2.trans e, ?_, ?_, fun _ => ⟨?_, fun i hi => ?_⟩, ?_, ?_⟩, fun x g1 g2 => c x (by omega) (by omega), fun j hj => ?_⟩
    · unfold updB; rw [if_pos z', c53, if_neg (by decide), if_pos rfl]
    · unfold updB; rw [if_pos z']; dsimp only; omega
    · unfold updB; rw [if_pos z', c53, if_pos rfl]
    · unfold updB; rw [if_pos z']
      rw [hu, cS_at, if_pos (by omega), uS_cell (by decide), uS_cell (by decide), show 0 + (i - 0) = i by omega]
      unfold rwL
      by_cases y : i < pre.length
      · dsimp only; rw [if_pos y]; exact hp i y
      · dsimp only; rw [if_neg y]; exact hw i (by omega) hi
    · rw [c 65 (by decide) (by decide)]; exact hp
    · rw [c 65 (by decide) (by decide)]; exact hw
    · rw [c53, if_neg (by omega), if_neg (by omega)]
  · have z' : ¬ (b.1 < m ∨ (m = b.1 ∧ k < b.2.1)) := by
      rw [e3] at z
      rintro (w | w)
      · exact z.1 w
      · have := z.2 w.1
        have := (hb (by omega)).1
        omega
    unfold updB
    rw [if_neg z']
    exact ⟨hB, e, e3, h1, hb, hp, hw⟩
theorem gd_l {pre : List Nat} {j i : Nat} (h : i < pre.length) : (pre ++ [j]).getD i 0 = pre.getD i 0 := by
  rw [List.getD_eq_getElem?_getD, List.getD_eq_getElem?_getD, List.getElem?_append_left h]
theorem gd_r {pre : List Nat} {j : Nat} : (pre ++ [j]).getD pre.length 0 = j := by
  rw [List.getD_eq_getElem?_getD, List.getElem?_append_right (Nat.le_refl _), Nat.sub_self]; rfl
theorem gow0 {X : (Nat → Int) × Nat} {d m : Nat} {pre : List Nat} {q : Rw × Int × Int} {b : Bs} {s : mSt} {Q : mQ} {W : Nat} (h0 : m = 0) (hl : pre.length = W) (hq : 0 ≤ q.2.1) (h : RP q.1 b pre W s) (k : ∀ t, RP q.1 (tryR pre q b []) pre W t → frB s t → Q none t) : Sp X (d + 10) 98 [mR 53, mI (m : Int), mI (pre.length : Int), mI q.2.1, mI q.2.2] s Q := by
  have L := RP_leaf (m := q.2.1) (k := q.2.2) h hl hq
  have e : tryR pre q b [] = updB b q.2.1 q.2.2 pre := by unfold tryR; rw [List.append_nil]; rfl
  rw [e] at k
  have y1 : (s 53 3 < q.2.1 ∨ (q.2.1 = s 53 3 ∧ ¬ s 53 4 ≤ q.2.2)) → ∀ u : mSt, u = cS (uS (uS s 53 3 q.2.1) 53 4 q.2.2) 65 0 64 0 4 → Q none u := fun z u hu => k u (L.1 z u hu).1 (L.1 z u hu).2
  have y0 : (¬ s 53 3 < q.2.1 ∧ (q.2.1 = s 53 3 → s 53 4 ≤ q.2.2)) → Q none s := fun z => k s (L.2 z) (frB_r s)
  exact v98 (fun _ _ => False) (fun _ _ => 0) (fun _ _ _ => False) (fun _ _ _ => 0) (fun _ _ => False) (fun _ _ => 0) (fun _ _ z => z.elim) (fun _ _ z => z.elim) (fun _ _ z => z.elim) (fun _ _ z => z.elim) (fun _ _ z => z.elim) (fun _ _ z => z.elim) (fun _ _ z => z.elim) (fun _ _ _ z => z.elim) (fun _ _ _ z => z.elim) (fun _ _ z => z.elim)
    (fun _ z => y1 (Or.inl z)) (fun _ z1 z2 => y0 ⟨z1, fun w => absurd w z2⟩) (fun _ z1 z2 z3 => y0 ⟨z1, fun _ => z3⟩) (fun _ z1 z2 z3 => y1 (Or.inr ⟨z2, z3⟩)) (fun z => absurd (by rw [h0]; rfl) z) (fun z => absurd (by rw [h0]; rfl) z) (fun z => absurd (by rw [h0]; rfl) z) (fun z => absurd (by rw [h0]; rfl) z) (fun z => absurd (by rw [h0]; rfl) z)
theorem gow {X : (Nat → Int) × Nat} {W : Nat} (hW : W ≤ 4) : ∀ (n : Nat) {d m : Nat} {pre : List Nat} {q : Rw × Int × Int} {b : Bs} {s : mSt} {Q : mQ},
    m < 64 → cnW m ≤ n → pre.length + cnW m = W → (∀ p, m.testBit p = true → p < nc q.1 ∧ ¬ pl q.1 p = true) → (0 ≤ q.2.1 ∧ q.2.1 ≤ pre.length) → (0 ≤ q.2.2 ∧ q.2.2 ≤ 30 * pre.length) → RP q.1 b pre W s → (∀ t, RP q.1 ((ordW n m).foldl (tryR pre q) b) pre W t → frB s t → Q none t) → Sp X (d + (n + 10)) 98 [mR 53, mI (m : Int), mI (pre.length : Int), mI q.2.1, mI q.2.2] s Q := by
  intro n
  induction n with
  | zero =>
    intro d m pre q b s Q hm hc hl hb hq1 hq2 h k
    have h0 := cnW_0 hm hc
    have : cnW m = 0 := by omega
    exact gow0 h0 (by omega) hq1.1 h k
  | succ n ih =>
    intro d m pre q b s Q hm hc hl hb hq1 hq2 h k
    by_cases h0 : m = 0
    · have e0 : cnW m = 0 := by rw [h0]; decide +kernel
      have e1 : ordW (n + 1) m = [[]] := by rw [ordW, if_pos h0]
      rw [e1] at k
      exact gow0 (d := d + (n + 1)) h0 (by omega) hq1.1 h k
    have hpos : 0 < cnW m := Nat.pos_of_ne_zero (fun z => h0 (cnW_0 hm (by omega)))
    let a := q.1
    have okA : Ok q.1 := by have := h.1.1; rw [h.2.1] at this; exact this
    have n6 := nc_le okA
    have n5 := np_le okA
    let F : Nat → List (List Nat) := fun p => if m.testBit p = true then (ordW n (m - 2 ^ p)).map (fun o => p :: o) else []
    let B : Nat → Bs := fun j => (fm F j).foldl (tryR pre q) b
    have hB1 : ∀ j, m.testBit j = true → B (j + 1) = (ordW n (m - 2 ^ j)).foldl (tryR (pre ++ [j]) (ev1 q j)) (B j) := fun j hj => by
      show (fm F (j + 1)).foldl (tryR pre q) b = _
      rw [fm_s, List.foldl_append, show F j = (ordW n (m - 2 ^ j)).map (fun o => j :: o) from if_pos hj, tryR_m]
    have hB0 : ∀ j, ¬ m.testBit j = true → B (j + 1) = B j := fun j hj => by
      show (fm F (j + 1)).foldl (tryR pre q) b = _
      rw [fm_s, List.foldl_append, show F j = [] from if_neg hj]; rfl
    have hBe : (ordW (n + 1) m).foldl (tryR pre q) b = B (nc q.1) := by
      rw [ordW, if_neg h0]
      show (fm F 6).foldl (tryR pre q) b = (fm F (nc q.1)).foldl (tryR pre q) b
      rw [fm_trim (F := F) (n := nc q.1) (k := 6) n6 (fun i h1 _ => if_neg (fun z => by have := (hb i z).1; omega))]
    rw [hBe] at k
    have tb : ∀ j : Nat, j < 6 → (iAnd (iShr (m : Int) (j : Int)) 1 = 1 ↔ m.testBit j = true) := fun j hj => by
      rw [bt_iff _ (by omega)]; unfold bt; rw [tnc, bq_nat (by omega)]
    have wj : ∀ j, m.testBit j = true → q.1 (41 + j) = 1 ∧ ∀ p, p < 5 → bg q.1 j p = -1 := fun j hj => by
      have := bw_wait h.1 (c := j) (by rw [h.2.1]; exact (hb j hj).1) (by rw [h.2.1]; exact (hb j hj).2)
      rw [h.2.1] at this; exact this
    have s3 : ∀ (t : mSt) (a' : Rw) (b' : Bs), RP a' b' pre W t → nc a' = nc q.1 → t 54 3 = (nc q.1 : Int) := fun t a' b' hr e => by
      have := bi_nc hr.1
      rw [hr.2.1, e] at this; exact this.symm
    let LI : Int → mSt → Prop := fun y t => ∃ j : Nat, y = j ∧ j ≤ nc q.1 ∧ RP q.1 (B j) pre W t ∧ frB s t
    let L3 : Int → Int → mSt → Prop := fun y _ t => ∃ j : Nat, y = j ∧ j < nc q.1 ∧ m.testBit j = true ∧ RP (lyR q.1 j (pA1 q.1 j).2.2.2.2) (B (j + 1)) pre W t ∧ frB s t
    let L7 : Int → mSt → Prop := fun y t => ∃ j : Nat, y = j ∧ j < nc q.1 ∧ RP q.1 (B (j + 1)) pre W t ∧ frB s t
    -- the row's next place written
    have st5 : ∀ (j : Nat) (t t5 : mSt), RP q.1 (B j) pre W t → t5 = uS t 65 ((pre.length : Int)).toNat (j : Int) → BI t5 54 ∧ brow t5 54 = q.1 ∧ (∀ x, x ≠ 65 → t5 x = t x) ∧ (∀ i, i < (pre ++ [j]).length → t5 65 i = (((pre ++ [j]).getD i 0 : Nat) : Int)) ∧ ∀ i, W ≤ i → i < 4 → t5 65 i = -1 := fun j t t5 hr h5 => by
      rw [tnc] at h5
      have c5 : ∀ x, x ≠ 65 → t5 x = t x := fun x hx => by rw [h5]; exact uS_cell hx
      have w := BI_cells (t := t5) hr.1 (fun x hx => c5 x (by omega)) (c5 417 (by omega))
      refine ⟨w.1, w.2.trans hr.2.1, c5, fun i hi => ?_, fun i h1 h2 => ?_⟩
      · rw [List.length_append] at hi
        have hi' : i < pre.length + 1 := hi
        rw [h5, uS_at]
        by_cases z : i = pre.length
        · rw [if_pos z, z, gd_r]
        · rw [if_neg z, gd_l (by omega)]; exact hr.2.2.2.2.2.1 i (by omega)
      · rw [h5, uS_at, if_neg (by omega)]; exact hr.2.2.2.2.2.2 i h1 h2
    have len1 : ∀ j : Nat, ((pre ++ [j]).length : Int) = (pre.length : Int) + 1 := fun j => by rw [List.length_append]; simp
    have back : ∀ (j : Nat) (a' : Rw) (t : mSt), m.testBit j = true → RP a' ((ordW n (m - 2 ^ j)).foldl (tryR (pre ++ [j]) (ev1 q j)) (B j)) (pre ++ [j]) W t → RP a' (B (j + 1)) pre W t := fun j a' t hj hr => by
      rw [hB1 j hj]
      refine ⟨hr.1, hr.2.1, hr.2.2.1, hr.2.2.2.1, hr.2.2.2.2.1, fun i hi => ?_, hr.2.2.2.2.2.2⟩
      rw [hr.2.2.2.2.2.1 i (by rw [List.length_append]; omega), gd_l hi]
    have sub : ∀ j : Nat, j < nc q.1 → m.testBit j = true → m - 2 ^ j < 64 ∧ cnW (m - 2 ^ j) ≤ n ∧ (pre ++ [j]).length + cnW (m - 2 ^ j) = W ∧ ∀ p, (m - 2 ^ j).testBit p = true → m.testBit p = true ∧ p ≠ j := fun j hj hbj => by
      have c := cnW_s hm (show j < 6 by omega) hbj
      have lt : m - 2 ^ j < 64 := Nat.lt_of_le_of_lt (Nat.sub_le _ _) hm
      refine ⟨lt, by omega, by rw [List.length_append]; simp only [List.length_cons, List.length_nil]; omega, fun p hp => ?_⟩
      by_cases hp6 : p < 6
      · rw [c.2.2 p hp6] at hp
        simp at hp; exact hp
      · have : (m - 2 ^ j).testBit p = false := Nat.testBit_lt_two_pow (Nat.lt_of_lt_of_le (show m - 2 ^ j < 2 ^ 6 from lt) (Nat.pow_le_pow_right (by decide) (by omega)))
        rw [this] at hp; exact absurd hp (by decide)
    have jc : ∀ y t, LI y t → ¬ t 54 3 ≤ y → ∃ j : Nat, y = j ∧ j < nc q.1 ∧ RP q.1 (B j) pre W t ∧ frB s t := fun y t ⟨j, e, hj, hr, hf⟩ hy => by
      have := s3 t _ _ hr rfl
      exact ⟨j, e, by omega, hr, hf⟩
    refine v98 (d := d + (n + 1)) LI (fun y _ => (40 - 4 * y).toNat) L3 (fun y _ _ => (39 - 4 * y).toNat) L7 (fun y _ => (38 - 4 * y).toNat) ?_ ?_ ?_ ?_ ?_ ?_ ?_ ?_ ?_ ?_ (fun z => absurd z (by omega)) (fun z => absurd z (by omega)) (fun z => absurd z (by omega)) (fun z => absurd z (by omega)) (fun _ _ => ⟨0, rfl, by omega, h, frB_r s⟩) (fun _ z => absurd (show (pre.length : Int) < 4 by omega) z) (fun _ z => absurd (show (pre.length : Int) < 4 by omega) z) (fun _ z => absurd (show (pre.length : Int) < 4 by omega) z) (fun _ z => absurd (show (pre.length : Int) < 4 by omega) z)
    · rintro y t ⟨j, rfl, hj, hr, hf⟩ hy
      have := s3 t _ _ hr rfl
      have : j = nc q.1 := by omega
      subst this
      exact k t hr hf
    · intro y t hL hy hz
      obtain ⟨j, rfl, hj, hr, hf⟩ := jc y t hL hy
      rw [tb j (by omega)] at hz
      exact ⟨⟨j, rfl, hj, by rw [hB0 j hz]; exact hr, hf⟩, by omega⟩
    · intro y t hL hy hz
      omega
    · intro y t hL hy hz t5 h5
      obtain ⟨j, rfl, hj, hr, hf⟩ := jc y t hL hy
      exact (st5 j t t5 hr h5).1
    · intro y t hL hy hz t5 h5 s6 h6
      obtain ⟨j, rfl, hj, hr, hf⟩ := jc y t hL hy
      have w := st5 j t t5 hr h5
      rw [w.2.1, tnc] at h6
      refine ⟨h6.2.2.1, ?_⟩
      have := bi_nc h6.2.2.1
      rw [h6.2.2.2.1, nc_lay okA (by omega)] at this
      omega
    · intro y t hL hy hz t5 h5 s6 h6
      obtain ⟨j, rfl, hj, hr, hf⟩ := jc y t hL hy
      rw [tb j (by omega)] at hz
      have w := st5 j t t5 hr h5
      rw [w.2.1, tnc] at h6
      obtain ⟨_, hp, hB6, e6, hP, hf6⟩ := h6
      have su := sub j hj hz
      have hk : (pA1 q.1 j).2.2.1 = cn (kN q.1 j (sM q.1 j) (pA1 q.1 j).2.2.2.2) 30 := (hP.2.2 (by omega)).2.2.1
      have kb := cn_le (f := kN q.1 j (sM q.1 j) (pA1 q.1 j).2.2.2.2) (n := 30)
      have ee : ev1 q j = (lyR q.1 j (pA1 q.1 j).2.2.2.2, q.2.1 + 1, q.2.2 + (pA1 q.1 j).2.2.1) := by unfold ev1; rw [if_pos hp]
      have epl : pl (brow s6 54) ((j : Int)).toNat = true := by rw [e6, tnc]; unfold pl; rw [lyR_W (by omega), if_pos rfl]; rfl
      have ekp : kpo (brow s6 54) ((j : Int)).toNat = (pA1 q.1 j).2.2.1 := by rw [e6, tnc, kpo_lay okA hj, hk]
      have c6 : ∀ x, ¬ (54 ≤ x ∧ x ≤ 54 + 9) → ¬ (44 ≤ x ∧ x ≤ 49) → x ≠ 65 → s6 x = t x := fun x g1 g2 g3 => (hf6 x g1 g2).trans (w.2.2.1 x g3)
      rw [and_w hm (by omega) hz, if_pos epl, ekp, w32_of (x := (pre.length : Int) + 1) (by omega), w32_of (x := q.2.1 + 1) (by omega), w32_of (x := q.2.2 + (pA1 q.1 j).2.2.1) (by omega), ← len1 j]
      have IH := @ih d (m - 2 ^ j) (pre ++ [j]) (ev1 q j) (B j) s6 (fun r t7 => r = none ∧ (L3 (j : Int) ((m - 2 ^ j : Nat) : Int) t7 ∧ (39 - 4 * (j : Int)).toNat < (40 - 4 * (j : Int)).toNat)) su.1 su.2.1 su.2.2.1
      rw [ee] at IH
      have lj := len1 j
      refine IH (fun p hp' => ?_) (by dsimp only; omega) (by dsimp only; omega) ⟨hB6, e6, ?_, hr.2.2.2.1, fun hne => ?_, fun i hi => ?_, fun i h1 h2 => ?_⟩ (fun t7 h7 hf7 => ⟨rfl, ⟨j, rfl, hj, hz, ?_, ?_⟩, by omega⟩)
      · have m1 := su.2.2.2 p hp'
        have m2 := hb p m1.1
        refine ⟨by dsimp only; rw [nc_lay okA (by omega)]; exact m2.1, ?_⟩
        dsimp only
        unfold pl; rw [lyR_W (by omega), if_neg m1.2]; exact m2.2
      · rw [c6 53 (by omega) (by omega) (by omega)]; exact hr.2.2.1
      · have z := hr.2.2.2.2.1 hne
        rw [c6 53 (by omega) (by omega) (by omega), c6 64 (by omega) (by omega) (by omega)]; exact z
      · rw [hf6 65 (by omega) (by omega)]; exact w.2.2.2.1 i hi
      · rw [hf6 65 (by omega) (by omega)]; exact w.2.2.2.2 i h1 h2
      · exact back j _ t7 hz (by rw [ee]; exact h7)
      · refine frB_t hf (frB_t ⟨fun x g1 g2 => c6 x (by omega) g1 (by omega), fun i hi => by rw [c6 53 (by omega) (by omega) (by omega)]⟩ hf7)
    · intro y t hL hy hz t5 h5 s8 h8
      obtain ⟨j, rfl, hj, hr, hf⟩ := jc y t hL hy
      rw [tb j (by omega)] at hz
      have w := st5 j t t5 hr h5
      have e53 : t5 54 3 = (nc q.1 : Int) := by rw [w.2.2.1 54 (by decide)]; exact s3 t _ _ hr rfl
      rw [w.2.1, tnc, e53] at h8
      obtain ⟨hn0, hB8, e8, hf8⟩ := h8
      have hz0 : ¬ 0 < (pA1 q.1 j).1 := fun z => hn0 ⟨⟨by omega, (hb j hz).2⟩, z⟩
      have ee : ev1 q j = q := by unfold ev1; rw [if_neg hz0]
      have su := sub j hj hz
      have c6 : ∀ x, ¬ (44 ≤ x ∧ x ≤ 49) → x ≠ 65 → s8 x = t x := fun x g2 g3 => (hf8 x g2).trans (w.2.2.1 x g3)
      rw [and_w hm (by omega) hz, w32_of (x := (pre.length : Int) + 1) (by omega), ← len1 j]
      have IH := @ih d (m - 2 ^ j) (pre ++ [j]) (ev1 q j) (B j) s8 (fun r t9 => r = none ∧ (L7 (j : Int) t9 ∧ (38 - 4 * (j : Int)).toNat < (40 - 4 * (j : Int)).toNat)) su.1 su.2.1 su.2.2.1
      rw [ee] at IH
      have lj := len1 j
      refine IH (fun p hp' => hb p (su.2.2.2 p hp').1) (by omega) (by omega) ⟨hB8, e8, ?_, hr.2.2.2.1, fun hne => ?_, fun i hi => ?_, fun i h1 h2 => ?_⟩ (fun t7 h7 hf7 => ⟨rfl, ⟨j, rfl, hj, ?_, ?_⟩, by omega⟩)
      · rw [c6 53 (by omega) (by omega)]; exact hr.2.2.1
      · have z := hr.2.2.2.2.1 hne
        rw [c6 53 (by omega) (by omega), c6 64 (by omega) (by omega)]; exact z
      · rw [hf8 65 (by omega)]; exact w.2.2.2.1 i hi
      · rw [hf8 65 (by omega)]; exact w.2.2.2.2 i h1 h2
      · exact back j _ t7 hz (by rw [ee]; exact h7)
      · refine frB_t hf (frB_t ⟨fun x g1 g2 => c6 x g1 (by omega), fun i hi => by rw [c6 53 (by omega) (by omega)]⟩ hf7)
    · rintro y y6 t ⟨j, rfl, hj, hbj, hr, hf⟩
      have := s3 t _ _ hr (nc_lay okA (by omega))
      exact ⟨hr.1, by omega⟩
    · rintro y y6 t ⟨j, rfl, hj, hbj, hr, hf⟩ u hu
      rw [hr.2.1, tnc, wt_ly n5 (wj j hbj).1 (wj j hbj).2] at hu
      have cu : ∀ x, ¬ (54 ≤ x ∧ x ≤ 54 + 9) → u x = t x := hu.2.2
      refine ⟨⟨j, rfl, hj, ⟨hu.1, hu.2.1, ?_, hr.2.2.2.1, fun hne => ?_, ?_, ?_⟩, frB_t hf ⟨fun x g1 g2 => cu x (by omega), fun i _ => by rw [cu 53 (by omega)]⟩⟩, by omega⟩
      · rw [cu 53 (by omega)]; exact hr.2.2.1
      · rw [cu 53 (by omega), cu 64 (by omega)]; exact hr.2.2.2.2.1 hne
      · rw [cu 65 (by omega)]; exact hr.2.2.2.2.2.1
      · rw [cu 65 (by omega)]; exact hr.2.2.2.2.2.2
    · rintro y t ⟨j, rfl, hj, hr, hf⟩
      rw [w32_of (by omega)]
      exact ⟨⟨j + 1, by omega, by omega, hr, hf⟩, by omega⟩
def bs0 : Bs := (-1, 0, [])
def bsB (a : Rw) (m : Nat) : Bs := (ordW 4 m).foldl (tryR [] (a, 0, 0)) bs0
def WQ0 (s : mSt) (x1 x2 x3 x4 : Int) : Prop := x2 = 0 ∧ x3 = 0 ∧ x4 = 0 ∧ (0 ≤ x1 ∧ x1 < 64) ∧ cnW x1.toNat ≤ 4 ∧ (∀ p, x1.toNat.testBit p = true → p < nc (brow s 54) ∧ ¬ pl (brow s 54) p = true) ∧ RP (brow s 54) bs0 [] (cnW x1.toNat) s
def WR0 (s : mSt) (x1 : Int) (t : mSt) : Prop := RP (brow s 54) (bsB (brow s 54) x1.toNat) [] (cnW x1.toNat) t ∧ frB s t
theorem c98q {X : (Nat → Int) × Nat} {d : Nat} {s : mSt} {Q : mQ} {x1 x2 x3 x4 : Int} (p1 : WQ0 s x1 x2 x3 x4) (k : ∀ t : mSt, WR0 s x1 t → Q none t) : Sp X (d + 14) 98 [mR 53, mI x1, mI x2, mI x3, mI x4] s Q := by
  obtain ⟨rfl, rfl, rfl, h1, h2, h3, h4⟩ := p1
  obtain ⟨m, rfl⟩ : ∃ m : Nat, x1 = m := ⟨x1.toNat, by omega⟩
  rw [tnc] at h2 h3 h4
  refine gow (W := cnW m) h2 4 (q := (brow s 54, 0, 0)) (pre := []) (b := bs0) (by omega) h2 (by simp) h3 (by simp) (by simp) h4 (fun t ht hf => k t ⟨?_, hf⟩)
  rw [tnc]; exact ht
/-- the first four that wait -/
def wS (a : Rw) : Nat → Nat
  | 0 => 0
  | j + 1 => if pl a j = false ∧ cnW (wS a j) < 4 then wS a j + 2 ^ j else wS a j
theorem wS_s (a : Rw) (j : Nat) : wS a (j + 1) = if pl a j = false ∧ cnW (wS a j) < 4 then wS a j + 2 ^ j else wS a j := rfl
theorem tb6 {m q : Nat} (h : m < 64) (hb : m.testBit q = true) : q < 6 := by
  apply Classical.byContradiction; intro hq
  have e : (2:Nat) ^ 6 ≤ 2 ^ q := Nat.pow_le_pow_right (by decide) (by omega)
  rw [Nat.testBit_lt_two_pow (Nat.lt_of_lt_of_le h e)] at hb
  exact absurd hb (by decide)
theorem elW_s {m j : Nat} (hj : j < 6) (hm : m < 2 ^ j) : m < 64 ∧ m + 2 ^ j < 2 ^ (j + 1) ∧ elW (m + 2 ^ j) = elW m ++ [j] ∧ iOr (m : Int) (iShl 1 (j : Int)) = ((m + 2 ^ j : Nat) : Int) ∧ ∀ p, p < 6 → (m + 2 ^ j).testBit p = (m.testBit p || decide (p = j)) := by
  have h64 : m < 64 := Nat.lt_of_lt_of_le hm (show 2 ^ j ≤ 64 from Nat.pow_le_pow_right (n := 2) (by decide) (show j ≤ 6 by omega))
  have := (show ∀ m : Fin 64, ∀ j : Fin 6, m.val < 2 ^ j.val → m.val + 2 ^ j.val < 2 ^ (j.val + 1) ∧ elW (m.val + 2 ^ j.val) = elW m.val ++ [j.val] ∧ iOr (m.val : Int) (iShl 1 (j.val : Int)) = ((m.val + 2 ^ j.val : Nat) : Int) ∧ ∀ p : Fin 6, (m.val + 2 ^ j.val).testBit p.val = (m.val.testBit p.val || decide (p.val = j.val)) by decide +kernel) ⟨m, h64⟩ ⟨j, hj⟩ hm
  exact ⟨h64, this.1, this.2.1, this.2.2.1, fun p hp => this.2.2.2 ⟨p, hp⟩⟩
theorem wS_b (a : Rw) : ∀ j, j ≤ 6 → wS a j < 2 ^ j ∧ cnW (wS a j) ≤ 4 ∧ ∀ p, (wS a j).testBit p = true → p < j ∧ pl a p = false
  | 0, _ => ⟨by show 0 < 2 ^ 0; decide, by show cnW 0 ≤ 4; decide +kernel, fun p hp => by rw [show wS a 0 = 0 from rfl, Nat.zero_testBit] at hp; exact absurd hp (by decide)⟩
  | j + 1, hj => by
    have ih := wS_b a j (by omega)
    have e := elW_s (show j < 6 by omega) ih.1
    have l2 : (2 : Nat) ^ j < 2 ^ (j + 1) := Nat.pow_lt_pow_right (by decide) (by omega)
    rw [wS_s]
    by_cases z : pl a j = false ∧ cnW (wS a j) < 4
    · rw [if_pos z]
      refine ⟨e.2.1, ?_, fun p hp => ?_⟩
      · have : cnW (wS a j + 2 ^ j) = cnW (wS a j) + 1 := by unfold cnW; rw [e.2.2.1, List.length_append]; rfl
        omega
      · by_cases zp : p = j
        · rw [zp]; exact ⟨by omega, z.1⟩
        · have l6 : (2 : Nat) ^ (j + 1) ≤ 64 := Nat.pow_le_pow_right (n := 2) (by decide) (show j + 1 ≤ 6 by omega)
          have p6 : p < 6 := tb6 (m := wS a j + 2 ^ j) (by omega) hp
          rw [e.2.2.2.2 p p6] at hp
          simp [zp] at hp
          have := ih.2.2 p hp
          exact ⟨by omega, this.2⟩
    · rw [if_neg z]
      exact ⟨by omega, ih.2.1, fun p hp => ⟨by have := (ih.2.2 p hp).1; omega, (ih.2.2 p hp).2⟩⟩
theorem wS_4 {a : Rw} {j : Nat} (h : 4 ≤ cnW (wS a j)) : ∀ n, wS a (j + n) = wS a j
  | 0 => rfl
  | n + 1 => by
    have ih := wS_4 h n
    rw [show j + (n + 1) = (j + n) + 1 by omega, wS_s, ih, if_neg (fun z => by have := z.2; omega)]
theorem cn_cnW {m : Nat} (h : m < 64) : cn (bq (m : Int)) 30 = (cnW m : Int) := (show ∀ m : Fin 64, cn (bq (m.val : Int)) 30 = (cnW m.val : Int) by decide +kernel) ⟨m, h⟩
theorem updB_1 (b : Bs) (m k : Int) (o : List Nat) : b.1 ≤ (updB b m k o).1 ∧ m ≤ (updB b m k o).1 := by
  unfold updB; split
  · dsimp only; omega
  · next z => exact ⟨by omega, by apply Int.not_lt.1; exact fun w => z (Or.inl w)⟩
theorem ev1_1 : ∀ (o : List Nat) (q : Rw × Int × Int), q.2.1 ≤ (o.foldl ev1 q).2.1
  | [], _ => Int.le_refl _
  | c :: o, q => by
    rw [List.foldl_cons]
    refine Int.le_trans ?_ (ev1_1 o (ev1 q c))
    unfold ev1; split
    · dsimp only; omega
    · exact Int.le_refl _
theorem fold_1 (pre : List Nat) (q : Rw × Int × Int) : ∀ (L : List (List Nat)) (b : Bs), b.1 ≤ (L.foldl (tryR pre q) b).1
  | [], _ => Int.le_refl _
  | o :: L, b => by
    rw [List.foldl_cons]
    exact Int.le_trans (updB_1 b _ _ _).1 (fold_1 pre q L _)
theorem bsB_0 (a : Rw) {m : Nat} (hm : m < 64) : 0 ≤ (bsB a m).1 := by
  have hne := (show ∀ m : Fin 64, ordW 4 m.val ≠ [] by decide +kernel) ⟨m, hm⟩
  dsimp only at hne
  unfold bsB
  cases hL : ordW 4 m with
  | nil => exact absurd hL hne
  | cons o L =>
    rw [List.foldl_cons]
    exact Int.le_trans (Int.le_trans (ev1_1 o (a, 0, 0)) (updB_1 bs0 _ _ _).2) (fold_1 [] (a, 0, 0) L _)
theorem v97 {X : (Nat → Int) × Nat} {d : Nat} {s : mSt} {Q : mQ} {a1 : Nat} (h1 : isBd a1)
  (I12 : Int → Int → mSt → Prop) (m12 : Int → Int → mSt → Nat)
  (I50 : Int → Int → mSt → Prop) (m50 : Int → Int → mSt → Nat)
  (z1 : ∀ y2 : Int, ∀ y3 : Int, ∀ s : mSt, I12 y2 y3 s → (s a1 3) ≤ y3 → I50 y2 0 s ∧ m50 y2 0 s < m12 y2 y3 s)
  (z2 : ∀ y2 : Int, ∀ y3 : Int, ∀ s : mSt, I12 y2 y3 s → ¬ (s a1 3) ≤ y3 → 0 ≤ y2 ∧ y2 < 1073741824)
  (z3 : ∀ y2 : Int, ∀ y3 : Int, ∀ s : mSt, I12 y2 y3 s → ¬ (s a1 3) ≤ y3 → 4 ≤ (cn (bq y2) 30) → I50 y2 0 s ∧ m50 y2 0 s < m12 y2 y3 s)
  (z4 : ∀ y2 : Int, ∀ y3 : Int, ∀ s : mSt, I12 y2 y3 s → ¬ (s a1 3) ≤ y3 → ¬ 4 ≤ (cn (bq y2) 30) → BI s a1)
  (z5 : ∀ y2 : Int, ∀ y3 : Int, ∀ s : mSt, I12 y2 y3 s → ¬ (s a1 3) ≤ y3 → ¬ 4 ≤ (cn (bq y2) 30) → ((0 ≤ y3 ∧ y3 < s a1 3) ∧ ¬ pl (brow s a1) y3.toNat = true) → I12 (iOr y2 (iShl 1 y3)) (w32 (y3 + 1)) s ∧ m12 (iOr y2 (iShl 1 y3)) (w32 (y3 + 1)) s < m12 y2 y3 s)
  (z6 : ∀ y2 : Int, ∀ y3 : Int, ∀ s : mSt, I12 y2 y3 s → ¬ (s a1 3) ≤ y3 → ¬ 4 ≤ (cn (bq y2) 30) → (¬ ((0 ≤ y3 ∧ y3 < s a1 3) ∧ ¬ pl (brow s a1) y3.toNat = true)) → I12 y2 (w32 (y3 + 1)) s ∧ m12 y2 (w32 (y3 + 1)) s < m12 y2 y3 s)
  (z7 : ∀ y2 : Int, ∀ y3 : Int, ∀ s : mSt, I50 y2 y3 s → 4 ≤ y3 → ∀ t8 : mSt, t8 = uS s 53 3 (-1) → WQ0 t8 y2 (0 : Int) (0 : Int) (0 : Int))
  (z8 : ∀ y2 : Int, ∀ y3 : Int, ∀ s : mSt, I50 y2 y3 s → 4 ≤ y3 → ∀ t8 : mSt, t8 = uS s 53 3 (-1) → ∀ s9 : mSt, WR0 t8 y2 s9 → Q none s9)
  (z9 : ∀ y2 : Int, ∀ y3 : Int, ∀ s : mSt, I50 y2 y3 s → ¬ 4 ≤ y3 → 0 ≤ y3 ∧ y3 < 4)
  (z10 : ∀ y2 : Int, ∀ y3 : Int, ∀ s : mSt, I50 y2 y3 s → ¬ 4 ≤ y3 → I50 y2 (w32 (y3 + 1)) (uS s 65 y3.toNat (-1)) ∧ m50 y2 (w32 (y3 + 1)) (uS s 65 y3.toNat (-1)) < m50 y2 y3 s)
  (z11 : 54 ≠ a1 ∧ BI s a1)
  (z12 : ∀ s11 : mSt, (BI s11 54 ∧ brow s11 54 = brow s a1 ∧ fB s s11 54) → I12 0 0 s11) :
  Sp X (d + 15) 97 [mR 53, mR a1] s Q := by
  have L : ∀ k : Nat, (∀ (y2 : Int) (y3 : Int) (s : mSt), I12 y2 y3 s → m12 y2 y3 s < k → Wp X (d + 15) 97 12 [some (mR 53), some (mR a1), some (mI y2), some (mI y3)] [] s Q) ∧ (∀ (y2 : Int) (y3 : Int) (s : mSt), I50 y2 y3 s → m50 y2 y3 s < k → Wp X (d + 15) 97 50 [some (mR 53), some (mR a1), some (mI y2), some (mI y3)] [] s Q) := by
    intro k
    induction k with
    | zero => exact ⟨fun _ _ _ _ h => absurd h (Nat.not_lt_zero _), fun _ _ _ _ h => absurd h (Nat.not_lt_zero _)⟩
    | succ k ih => exact ⟨fun y2 y3 s hI hm => b97_12 h1 (fun q1 => b97_48 h1 (ih.2 y2 0 s (z1 y2 y3 s hI q1).1 (Nat.lt_of_lt_of_le (z1 y2 y3 s hI q1).2 (Nat.le_of_lt_succ hm)))) (fun q2 => b97_20 h1 (c309 (z2 y2 y3 s hI q2) ⟨_, rfl, b97_24 h1 (fun q3 => b97_48 h1 (ih.2 y2 0 s (z3 y2 y3 s hI q2 q3).1 (Nat.lt_of_lt_of_le (z3 y2 y3 s hI q2 q3).2 (Nat.le_of_lt_succ hm)))) (fun q4 => b97_28 h1 (c10 h1 (z4 y2 y3 s hI q2 q4) (fun q5 => ⟨1, rfl, b97_33 h1 (fun q => absurd q (by decide)) (fun _ => b97_36 h1 (b97_42 h1 (ih.1 (iOr y2 (iShl 1 y3)) (w32 (y3 + 1)) s (z5 y2 y3 s hI q2 q4 q5).1 (Nat.lt_of_lt_of_le (z5 y2 y3 s hI q2 q4 q5).2 (Nat.le_of_lt_succ hm)))))⟩) (fun q6 => ⟨0, rfl, b97_33 h1 (fun _ => b97_42 h1 (ih.1 y2 (w32 (y3 + 1)) s (z6 y2 y3 s hI q2 q4 q6).1 (Nat.lt_of_lt_of_le (z6 y2 y3 s hI q2 q4 q6).2 (Nat.le_of_lt_succ hm)))) (fun q => absurd q (by decide))⟩)))⟩)), fun y2 y3 s hI hm => b97_50 h1 (fun q7 => b97_68 h1 (Sp_gen (fun t8 e8 => (c98q (z7 y2 y3 s hI q7 t8 e8) (fun s9 q9 => ⟨rfl, b97_81 h1 (z8 y2 y3 s hI q7 t8 e8 s9 q9)⟩))))) (fun q10 => b97_55 h1 (z9 y2 y3 s hI q10) (ih.2 y2 (w32 (y3 + 1)) (uS s 65 y3.toNat (-1)) (z10 y2 y3 s hI q10).1 (Nat.lt_of_lt_of_le (z10 y2 y3 s hI q10).2 (Nat.le_of_lt_succ hm))))⟩
  exact e97 (b97_0 h1 (c3 (bdm rfl) h1 z11 (fun s11 q11 => ⟨rfl, b97_8 h1 ((L (m12 0 0 s11 + 1)).1 0 0 s11 (z12 s11 q11) (Nat.lt_succ_self _))⟩)))

theorem c97 {X : (Nat → Int) × Nat} {d : Nat} {s : mSt} {Q : mQ} {a1 : Nat} (h1 : isBd a1) (p1 : a1 ≠ 54 ∧ ¬ (53 ≤ a1 + 9 ∧ a1 ≤ 65) ∧ BI s a1) (k : ∀ t : mSt, ((t 53 3 = (bsB (brow s a1) (wS (brow s a1) (nc (brow s a1)))).1 ∧ t 53 4 = (bsB (brow s a1) (wS (brow s a1) (nc (brow s a1)))).2.1 ∧ ∀ i, i < 4 → t 64 i = rwL (bsB (brow s a1) (wS (brow s a1) (nc (brow s a1)))).2.2 i) ∧ frB s t) → Q none t) : Sp X (d + 15) 97 [mR 53, mR a1] s Q := by
  obtain ⟨hn, hf, hB⟩ := p1
  have hp := bd_54 h1 hn
  have hl := bd_lt h1
  have h4 := bi_nc hB
  have n6 := nc_le hB.1
  let a := brow s a1
  let N := nc (brow s a1)
  have hN : N = nc (brow s a1) := rfl
  have Wb := wS_b a
  have told : ∀ t : mSt, frB s t → BI t a1 ∧ brow t a1 = a ∧ t a1 = s a1 := fun t ht => by
    have q := BI_cells (t := t) hB (fun x hx => ht.1 x (by omega) (by omega)) (ht.1 417 (by omega) (by omega))
    exact ⟨q.1, q.2, ht.1 a1 (by omega) (by omega)⟩
  let I1 : Int → Int → mSt → Prop := fun y2 y3 t => ∃ j : Nat, y3 = j ∧ j ≤ N ∧ y2 = ((wS a j : Nat) : Int) ∧ BI t 54 ∧ brow t 54 = a ∧ frB s t
  let I2 : Int → Int → mSt → Prop := fun y2 y3 t => ∃ j : Nat, y3 = j ∧ j ≤ 4 ∧ y2 = ((wS a N : Nat) : Int) ∧ BI t 54 ∧ brow t 54 = a ∧ (∀ i, i < j → t 65 i = -1) ∧ frB s t
  have lt : ∀ j, j ≤ N → wS a j < 64 := fun j hj => Nat.lt_of_lt_of_le (Wb j (by omega)).1 (show 2 ^ j ≤ 64 from Nat.pow_le_pow_right (n := 2) (by decide) (show j ≤ 6 by omega))
  have WQ : ∀ (t t8 : mSt), BI t 54 → brow t 54 = a → (∀ i, i < 4 → t 65 i = -1) → t8 = uS t 53 3 (-1) → WQ0 t8 ((wS a N : Nat) : Int) 0 0 0 ∧ brow t8 54 = a := fun t t8 hb e hr h8 => by
    have c8 : ∀ x, x ≠ 53 → t8 x = t x := fun x hx => by rw [h8]; exact uS_cell hx
    have q := BI_cells (t := t8) hb (fun x hx => c8 x (by omega)) (c8 417 (by omega))
    have e8 : brow t8 54 = a := q.2.trans e
    have w := Wb N (by omega)
    refine ⟨⟨rfl, rfl, rfl, by have := lt N (by omega); omega, ?_, ?_, ?_⟩, e8⟩
    · rw [tnc]; exact w.2.1
    · rw [tnc, e8]
      intro p hp'
      have := w.2.2 p hp'
      exact ⟨this.1, by rw [this.2]; decide⟩
    · refine ⟨q.1, rfl, by rw [h8, uS_at, if_pos rfl]; rfl, by decide, fun z => absurd rfl z, fun i hi => absurd hi (by simp), fun i h1 h2 => ?_⟩
      rw [c8 65 (by decide)]; exact hr i h2
  refine v97 h1 I1 (fun _ y _ => (30 - y).toNat) I2 (fun _ y _ => (10 - y).toNat) ?_ ?_ ?_ ?_ ?_ ?_ ?_ ?_ ?_ ?_ ⟨fun z => hn z.symm, hB⟩ ?_
  · rintro _ _ t ⟨j, rfl, hj, rfl, hb, e, ht⟩ hc
    rw [(told t ht).2.2] at hc
    have : j = N := by omega
    subst this
    exact ⟨⟨0, rfl, by omega, rfl, hb, e, fun i hi => by omega, ht⟩, by omega⟩
  · rintro _ _ t ⟨j, rfl, hj, rfl, hb, e, ht⟩ hc
    have := lt j hj
    omega
  · rintro _ _ t ⟨j, rfl, hj, rfl, hb, e, ht⟩ hc hz
    rw [cn_cnW (lt j hj)] at hz
    have e2 := wS_4 (a := a) (j := j) (by omega) (N - j)
    rw [show j + (N - j) = N by omega] at e2
    exact ⟨⟨0, rfl, by omega, by rw [e2], hb, e, fun i hi => by omega, ht⟩, by omega⟩
  · rintro _ _ t ⟨j, rfl, hj, rfl, hb, e, ht⟩ hc hz
    exact (told t ht).1
  · rintro _ _ t ⟨j, rfl, hj, rfl, hb, e, ht⟩ hc hz hw
    have tt := told t ht
    rw [tt.2.2] at hc
    rw [cn_cnW (lt j hj)] at hz
    rw [tt.2.1, tnc] at hw
    have es := elW_s (show j < 6 by omega) (Wb j (by omega)).1
    rw [es.2.2.2.1, w32_of (by omega)]
    refine ⟨⟨j + 1, by omega, by omega, ?_, hb, e, ht⟩, by omega⟩
    rw [wS_s, if_pos ⟨Bool.eq_false_iff.2 hw.2, by omega⟩]
  · rintro _ _ t ⟨j, rfl, hj, rfl, hb, e, ht⟩ hc hz hw
    have tt := told t ht
    rw [tt.2.2] at hc
    rw [tt.2.1, tnc, tt.2.2] at hw
    rw [w32_of (by omega)]
    refine ⟨⟨j + 1, by omega, by omega, ?_, hb, e, ht⟩, by omega⟩
    rw [wS_s, if_neg (fun z => hw ⟨by omega, by rw [z.1]; decide⟩)]
  · rintro _ _ t ⟨j, rfl, hj, rfl, hb, e, hr, ht⟩ hc t8 h8
    exact (WQ t t8 hb e (fun i hi => hr i (by omega)) h8).1
  · rintro _ _ t ⟨j, rfl, hj, rfl, hb, e, hr, ht⟩ hc t8 h8 u hu
    have w := WQ t t8 hb e (fun i hi => hr i (by omega)) h8
    have f8 : frB t t8 := ⟨fun x g1 g2 => by rw [h8]; exact uS_cell (by omega), fun i hi => by rw [h8, uS_at, if_neg (by omega)]⟩
    unfold WR0 at hu
    rw [w.2, tnc] at hu
    have b0 := bsB_0 a (lt N (by omega))
    have hne := hu.1.2.2.2.2.1 (by omega)
    exact k u ⟨⟨hu.1.2.2.1, hne.1, hne.2⟩, frB_t ht (frB_t f8 hu.2)⟩
  · rintro _ _ t ⟨j, rfl, hj, rfl, hb, e, hr, ht⟩ hc
    omega
  · rintro _ _ t ⟨j, rfl, hj, rfl, hb, e, hr, ht⟩ hc
    rw [tnc, w32_of (by omega)]
    have cu : ∀ x, x ≠ 65 → uS t 65 j (-1) x = t x := fun x hx => uS_cell hx
    have q := BI_cells (t := uS t 65 j (-1)) hb (fun x hx => cu x (by omega)) (cu 417 (by omega))
    refine ⟨⟨j + 1, by omega, by omega, rfl, q.1, q.2.trans e, fun i hi => ?_, frB_t ht ⟨fun x g1 g2 => cu x (by omega), fun i _ => by rw [cu 53 (by decide)]⟩⟩, by omega⟩
    rw [uS_at]
    by_cases z : i = j
    · rw [if_pos z]
    · rw [if_neg z]; exact hr i (by omega)
  · intro u hu
    exact ⟨0, rfl, by omega, rfl, hu.1, hu.2.1, fun x g1 g2 => hu.2.2 x (by omega), fun i _ => by rw [hu.2.2 53 (by omega)]⟩
