/-! the lines as texts -/
def TXc (t : mSt) (w : Nat) (L : List Int) : Prop := t 80 w = (L.length : Int) ∧ ∀ i, i < L.length → t (78 + w) i = L.getD i 0
def TXr (t : mSt) (w : Nat) (L : List Int) : Prop := t 425 w = (L.length : Int) ∧ ∀ i, i < L.length → t 424 (60 * w + i) = L.getD i 0
def LRq (s : mSt) : Prop := ∀ w, w < 2 → s 77 w = ((78 + w : Nat) : Int)
def ptC (s : mSt) (w : Nat) (x : Int) : mSt := uS (uS s (78 + w) (s 80 w).toNat x) 80 w (s 80 w + 1)
def ptR (s : mSt) (w : Nat) (x : Int) : mSt := uS (uS s 424 (60 * w + (s 425 w).toNat) x) 425 w (s 425 w + 1)
theorem ln_a {w : Nat} (h : w < 2) : aS S0 (78 + w) 22 30 := (show ∀ i : Fin 2, kS S0 (78 + i.val) = 22 ∧ nS S0 (78 + i.val) = 30 by decide +kernel) ⟨w, h⟩
theorem gl_l {pre : List Int} {j : Int} {i : Nat} (h : i < pre.length) : (pre ++ [j]).getD i 0 = pre.getD i 0 := by
  rw [List.getD_eq_getElem?_getD, List.getD_eq_getElem?_getD, List.getElem?_append_left h]
theorem gl_r {pre : List Int} {j : Int} : (pre ++ [j]).getD pre.length 0 = j := by
  rw [List.getD_eq_getElem?_getD, List.getElem?_append_right (Nat.le_refl _), Nat.sub_self]; rfl
def frW (s t : mSt) (w : Nat) : Prop := (∀ b, b ≠ 80 → b ≠ 78 + w → t b = s b) ∧ ∀ j, j ≠ w → t 80 j = s 80 j
def frV (s t : mSt) (w : Nat) : Prop := (∀ b, b ≠ 424 → b ≠ 425 → t b = s b) ∧ (∀ j, j ≠ w → t 425 j = s 425 j) ∧ ∀ j, ¬ (60 * w ≤ j ∧ j < 60 * w + 60) → t 424 j = s 424 j
theorem frW_t {s t u : mSt} {w : Nat} (h1 : frW s t w) (h2 : frW t u w) : frW s u w := ⟨fun b g1 g2 => (h2.1 b g1 g2).trans (h1.1 b g1 g2), fun j hj => (h2.2 j hj).trans (h1.2 j hj)⟩
theorem frV_t {s t u : mSt} {w : Nat} (h1 : frV s t w) (h2 : frV t u w) : frV s u w := ⟨fun b g1 g2 => (h2.1 b g1 g2).trans (h1.1 b g1 g2), fun j hj => (h2.2.1 j hj).trans (h1.2.1 j hj), fun j hj => (h2.2.2 j hj).trans (h1.2.2 j hj)⟩
theorem ptC_x {s : mSt} {w : Nat} {L : List Int} (hw : w < 2) (x : Int) (h : TXc s w L) : TXc (ptC s w x) w (L ++ [x]) ∧ frW s (ptC s w x) w := by
  obtain ⟨h1, h2⟩ := h
  unfold ptC
  rw [h1, tnc]
  refine ⟨⟨?_, fun i hi => ?_⟩, fun b g1 g2 => by rw [uS_cell g1, uS_cell g2], fun j hj => by rw [uS_at, if_neg hj, uS_cell (by omega)]⟩
  · rw [uS_at, if_pos rfl, List.length_append]; simp
  · rw [List.length_append] at hi
    have hi' : i < L.length + 1 := hi
    rw [uS_cell (by omega), uS_at]
    by_cases z : i = L.length
    · rw [if_pos z, z, gl_r]
    · rw [if_neg z, gl_l (by omega)]; exact h2 i (by omega)
theorem ptR_x {s : mSt} {w : Nat} {L : List Int} (hL : L.length < 60) (x : Int) (h : TXr s w L) : TXr (ptR s w x) w (L ++ [x]) ∧ frV s (ptR s w x) w := by
  obtain ⟨h1, h2⟩ := h
  unfold ptR
  rw [h1, tnc]
  refine ⟨⟨?_, fun i hi => ?_⟩, fun b g1 g2 => by rw [uS_cell g2, uS_cell g1], fun j hj => by rw [uS_at, if_neg hj, uS_cell (by decide)], fun j hj => by rw [uS_cell (by decide), uS_at, if_neg (by omega)]⟩
  · rw [uS_at, if_pos rfl, List.length_append]; simp
  · rw [List.length_append] at hi
    have hi' : i < L.length + 1 := hi
    rw [uS_cell (by decide), uS_at]
    by_cases z : i = L.length
    · rw [if_pos (by omega), z, gl_r]
    · rw [if_neg (by omega), gl_l (by omega)]; exact h2 i (by omega)
theorem v45 {X : (Nat → Int) × Nat} {d : Nat} {s : mSt} {Q : mQ} {x1 : Int} {x2 : Int}
  (z1 : 0 ≤ x1 ∧ x1 < 2)
  (z2 : 30 ≤ (s 80 x1.toNat) → Q none s)
  (z3 : ¬ 30 ≤ (s 80 x1.toNat) → aS S0 (s 77 x1.toNat).toNat 22 30)
  (z4 : ¬ 30 ≤ (s 80 x1.toNat) → 0 ≤ x1 ∧ x1 < 2)
  (z5 : ¬ 30 ≤ (s 80 x1.toNat) → s 77 x1.toNat = (((s 77 x1.toNat).toNat : Nat) : Int))
  (z6 : ¬ 30 ≤ (s 80 x1.toNat) → 0 ≤ (s 80 x1.toNat) ∧ (s 80 x1.toNat) < 30)
  (z7 : ¬ 30 ≤ (s 80 x1.toNat) → ∀ t3 : mSt, t3 = uS (uS s (s 77 x1.toNat).toNat ((s 80 x1.toNat).toNat) x2) 80 x1.toNat (w32 (((uS s (s 77 x1.toNat).toNat ((s 80 x1.toNat).toNat) x2) 80 x1.toNat) + 1)) → Q none t3) :
  Sp X d 45 [mR 76, mI x1, mI x2] s Q := e45 (b45_0 z1 (fun q1 => b45_35 (z2 q1)) (fun q2 => b45_11 (r1 := (s 77 x1.toNat).toNat) (z3 q2) (z4 q2) (z5 q2) (z4 q2) (z6 q2) (z4 q2) (z4 q2) (Wp_gen (fun t3 e3 => b45_35 (z7 q2 t3 e3)))))

theorem c45 {X : (Nat → Int) × Nat} {d : Nat} {s : mSt} {Q : mQ} {x1 : Int} {x2 : Int} (p1 : (0 ≤ x1 ∧ x1 < 2) ∧ LRq s ∧ (0 ≤ s 80 x1.toNat ∧ s 80 x1.toNat < 30)) (k : Q none (ptC s x1.toNat x2)) : Sp X d 45 [mR 76, mI x1, mI x2] s Q := by
  obtain ⟨h1, h2, h3⟩ := p1
  have e := h2 x1.toNat (by omega)
  refine v45 h1 (fun z => by omega) (fun _ => ?_) (fun _ => h1) (fun _ => ?_) (fun _ => h3) (fun _ t ht => ?_)
  · rw [e, tnc]; exact ln_a (by omega)
  · rw [e, tnc]
  · rw [e, tnc, uS_cell (by omega), w32_of (by omega)] at ht
    rw [ht]; exact k
theorem v267 {X : (Nat → Int) × Nat} {d : Nat} {s : mSt} {Q : mQ} {x1 : Int} {x2 : Int}
  (z1 : 0 ≤ x1 ∧ x1 < 2)
  (z2 : 0 ≤ (w32 ((w32 (60 * x1)) + (s 425 x1.toNat))) ∧ (w32 ((w32 (60 * x1)) + (s 425 x1.toNat))) < 120)
  (z3 : Q none (uS (uS s 424 ((w32 ((w32 (60 * x1)) + (s 425 x1.toNat))).toNat) x2) 425 x1.toNat (w32 (((uS s 424 ((w32 ((w32 (60 * x1)) + (s 425 x1.toNat))).toNat) x2) 425 x1.toNat) + 1)))) :
  Sp X d 267 [mR 407, mI x1, mI x2] s Q := e267 (b267_0 z1 z2 z1 z1 z3)

theorem c267 {X : (Nat → Int) × Nat} {d : Nat} {s : mSt} {Q : mQ} {x1 : Int} {x2 : Int} (p1 : (0 ≤ x1 ∧ x1 < 2) ∧ (0 ≤ s 425 x1.toNat ∧ s 425 x1.toNat < 60)) (k : Q none (ptR s x1.toNat x2)) : Sp X d 267 [mR 407, mI x1, mI x2] s Q := by
  obtain ⟨h1, h3⟩ := p1
  have e : w32 (w32 (60 * x1) + s 425 x1.toNat) = ((60 * x1.toNat + (s 425 x1.toNat).toNat : Nat) : Int) := by rw [w32_of (x := 60 * x1) (by omega), w32_of (by omega)]; omega
  refine v267 h1 (by rw [e]; omega) ?_
  rw [e, tnc, uS_cell (by decide), w32_of (by omega)]; exact k
def runL (n x : Int) : List Int := (if 10 ≤ n then [48 + n / 10] else []) ++ ((if 2 ≤ n then [48 + n % 10] else []) ++ [x])
def rnN (n : Int) : Int := if 10 ≤ n then 3 else if 2 ≤ n then 2 else 1
theorem rnN_b {n : Int} (h : 1 ≤ n) : 1 ≤ rnN n ∧ rnN n ≤ n := by
  unfold rnN
  split
  · omega
  · split <;> omega
theorem runL_l (n x : Int) : ((runL n x).length : Int) = rnN n := by
  unfold runL rnN
  by_cases h1 : 10 ≤ n
  · rw [if_pos h1, if_pos (by omega), if_pos h1]; rfl
  · rw [if_neg h1, if_neg h1]
    by_cases h2 : 2 ≤ n
    · rw [if_pos h2, if_pos h2]; rfl
    · rw [if_neg h2, if_neg h2]; rfl
theorem v44 {X : (Nat → Int) × Nat} {d : Nat} {s : mSt} {Q : mQ} {x1 : Int} {x2 : Int} {x3 : Int}
  (z1 : x2 < 10 → x2 < 2 → (0 ≤ x1 ∧ x1 < 2) ∧ LRq s ∧ (0 ≤ s 80 x1.toNat ∧ s 80 x1.toNat < 30))
  (z2 : x2 < 10 → x2 < 2 → ∀ t3 : mSt, t3 = ptC s x1.toNat x3 → Q none t3)
  (z3 : x2 < 10 → ¬ x2 < 2 → (0 ≤ x1 ∧ x1 < 2) ∧ LRq s ∧ (0 ≤ s 80 x1.toNat ∧ s 80 x1.toNat < 30))
  (z4 : x2 < 10 → ¬ x2 < 2 → ∀ t5 : mSt, t5 = ptC s x1.toNat ((w32 (48 + (Int.tmod x2 10))) % 65536) → (0 ≤ x1 ∧ x1 < 2) ∧ LRq t5 ∧ (0 ≤ t5 80 x1.toNat ∧ t5 80 x1.toNat < 30))
  (z5 : x2 < 10 → ¬ x2 < 2 → ∀ t5 : mSt, t5 = ptC s x1.toNat ((w32 (48 + (Int.tmod x2 10))) % 65536) → ∀ t6 : mSt, t6 = ptC t5 x1.toNat x3 → Q none t6)
  (z6 : ¬ x2 < 10 → (0 ≤ x1 ∧ x1 < 2) ∧ LRq s ∧ (0 ≤ s 80 x1.toNat ∧ s 80 x1.toNat < 30))
  (z7 : ¬ x2 < 10 → ∀ t8 : mSt, t8 = ptC s x1.toNat ((w32 (48 + (w32 (Int.tdiv x2 10)))) % 65536) → x2 < 2 → (0 ≤ x1 ∧ x1 < 2) ∧ LRq t8 ∧ (0 ≤ t8 80 x1.toNat ∧ t8 80 x1.toNat < 30))
  (z8 : ¬ x2 < 10 → ∀ t8 : mSt, t8 = ptC s x1.toNat ((w32 (48 + (w32 (Int.tdiv x2 10)))) % 65536) → x2 < 2 → ∀ t10 : mSt, t10 = ptC t8 x1.toNat x3 → Q none t10)
  (z9 : ¬ x2 < 10 → ∀ t8 : mSt, t8 = ptC s x1.toNat ((w32 (48 + (w32 (Int.tdiv x2 10)))) % 65536) → ¬ x2 < 2 → (0 ≤ x1 ∧ x1 < 2) ∧ LRq t8 ∧ (0 ≤ t8 80 x1.toNat ∧ t8 80 x1.toNat < 30))
  (z10 : ¬ x2 < 10 → ∀ t8 : mSt, t8 = ptC s x1.toNat ((w32 (48 + (w32 (Int.tdiv x2 10)))) % 65536) → ¬ x2 < 2 → ∀ t12 : mSt, t12 = ptC t8 x1.toNat ((w32 (48 + (Int.tmod x2 10))) % 65536) → (0 ≤ x1 ∧ x1 < 2) ∧ LRq t12 ∧ (0 ≤ t12 80 x1.toNat ∧ t12 80 x1.toNat < 30))
  (z11 : ¬ x2 < 10 → ∀ t8 : mSt, t8 = ptC s x1.toNat ((w32 (48 + (w32 (Int.tdiv x2 10)))) % 65536) → ¬ x2 < 2 → ∀ t12 : mSt, t12 = ptC t8 x1.toNat ((w32 (48 + (Int.tmod x2 10))) % 65536) → ∀ t13 : mSt, t13 = ptC t12 x1.toNat x3 → Q none t13) :
  Sp X (d + 1) 44 [mR 76, mI x1, mI x2, mI x3] s Q := e44 (b44_0 (fun q1 => b44_19 (fun q2 => b44_37 (c45 (z1 q1 q2) ⟨rfl, Wp_gen (fun t3 e3 => b44_43 (z2 q1 q2 t3 e3))⟩)) (fun q4 => b44_24 (c45 (z3 q1 q4) ⟨rfl, Wp_gen (fun t5 e5 => b44_37 (c45 (z4 q1 q4 t5 e5) ⟨rfl, Wp_gen (fun t6 e6 => b44_43 (z5 q1 q4 t5 e5 t6 e6))⟩))⟩))) (fun q7 => b44_6 (c45 (z6 q7) ⟨rfl, Wp_gen (fun t8 e8 => b44_19 (fun q9 => b44_37 (c45 (z7 q7 t8 e8 q9) ⟨rfl, Wp_gen (fun t10 e10 => b44_43 (z8 q7 t8 e8 q9 t10 e10))⟩)) (fun q11 => b44_24 (c45 (z9 q7 t8 e8 q11) ⟨rfl, Wp_gen (fun t12 e12 => b44_37 (c45 (z10 q7 t8 e8 q11 t12 e12) ⟨rfl, Wp_gen (fun t13 e13 => b44_43 (z11 q7 t8 e8 q11 t12 e12 t13 e13))⟩))⟩)))⟩)))

theorem ptC_f {s : mSt} {w : Nat} (hw : w < 2) (x : Int) : frW s (ptC s w x) w ∧ ptC s w x 80 w = s 80 w + 1 := by
  unfold ptC
  exact ⟨⟨fun b g1 g2 => by rw [uS_cell g1, uS_cell g2], fun j hj => by rw [uS_at, if_neg hj, uS_cell (by omega)]⟩, by rw [uS_at, if_pos rfl]⟩
theorem LRq_f {s t : mSt} {w : Nat} (hw : w < 2) (h : LRq s) (f : frW s t w) : LRq t := fun v hv => by rw [f.1 77 (by omega) (by omega)]; exact h v hv
theorem c44 {X : (Nat → Int) × Nat} {d : Nat} {s : mSt} {Q : mQ} {x1 : Int} {x2 : Int} {x3 : Int} (p1 : (0 ≤ x1 ∧ x1 < 2) ∧ LRq s ∧ (1 ≤ x2 ∧ x2 ≤ 30) ∧ (0 ≤ s 80 x1.toNat ∧ s 80 x1.toNat + rnN x2 ≤ 30)) (k : ∀ t : mSt, ((∀ L, TXc s x1.toNat L → TXc t x1.toNat (L ++ runL x2 x3)) ∧ frW s t x1.toNat) → Q none t) : Sp X (d + 1) 44 [mR 76, mI x1, mI x2, mI x3] s Q := by
  obtain ⟨h1, h2, h3, h4⟩ := p1
  have hw : x1.toNat < 2 := by omega
  have d1 : ¬ x2 < 10 → w32 (48 + w32 (Int.tdiv x2 10)) % 65536 = 48 + x2 / 10 := fun z => by
    rw [Int.tdiv_eq_ediv_of_nonneg (by omega), w32_of (x := x2 / 10) (by omega), w32_of (by omega)]; omega
  have d2 : w32 (48 + Int.tmod x2 10) % 65536 = 48 + x2 % 10 := by
    rw [Int.tmod_eq_emod_of_nonneg (by omega), w32_of (by omega)]; omega
  have n1 : x2 < 2 → rnN x2 = 1 := fun z => by unfold rnN; rw [if_neg (by omega), if_neg (by omega)]
  have n2 : x2 < 10 → ¬ x2 < 2 → rnN x2 = 2 := fun z z2 => by unfold rnN; rw [if_neg (by omega), if_pos (by omega)]
  have n3 : ¬ x2 < 10 → rnN x2 = 3 := fun z => by unfold rnN; rw [if_pos (by omega)]
  have nb := (rnN_b h3.1).1
  refine v44 (fun _ _ => ⟨h1, h2, by omega⟩) (fun z z2 t ht => ?_) (fun z z2 => ⟨h1, h2, by omega⟩) (fun z z2 t5 h5 => ?_) (fun z z2 t5 h5 t6 h6 => ?_) (fun z => ⟨h1, h2, by omega⟩) (fun z t8 h8 z2 => by omega) (fun z t8 h8 z2 => by omega) (fun z t8 h8 z2 => ?_) (fun z t8 h8 z2 t12 h12 => ?_) (fun z t8 h8 z2 t12 h12 t13 h13 => ?_)
  · subst ht
    refine k _ ⟨fun L hL => ?_, (ptC_f hw _).1⟩
    unfold runL
    rw [if_neg (by omega), if_neg (by omega)]
    exact (ptC_x hw _ hL).1
  · have f := ptC_f (s := s) hw (w32 (48 + Int.tmod x2 10) % 65536)
    have := n2 z z2
    rw [h5, f.2]; exact ⟨h1, LRq_f hw h2 f.1, by omega⟩
  · rw [d2] at h5
    have f := ptC_f (s := s) hw (48 + x2 % 10)
    rw [h6, h5]
    refine k _ ⟨fun L hL => ?_, frW_t f.1 (ptC_f hw _).1⟩
    unfold runL
    rw [if_neg (by omega), if_pos (by omega)]
    have q := ptC_x hw x3 (ptC_x hw (48 + x2 % 10) hL).1
    rw [List.append_assoc] at q; exact q.1
  · have f := ptC_f (s := s) hw (w32 (48 + w32 (Int.tdiv x2 10)) % 65536)
    have := n3 z
    rw [h8, f.2]; exact ⟨h1, LRq_f hw h2 f.1, by omega⟩
  · have f := ptC_f (s := s) hw (w32 (48 + w32 (Int.tdiv x2 10)) % 65536)
    have f2 := ptC_f (s := t8) hw (w32 (48 + Int.tmod x2 10) % 65536)
    have := n3 z
    rw [h12, f2.2]
    have h80 : t8 80 x1.toNat = s 80 x1.toNat + 1 := by rw [h8]; exact f.2
    exact ⟨h1, LRq_f hw (LRq_f hw h2 (by rw [h8]; exact f.1)) f2.1, by omega⟩
  · rw [d1 z] at h8
    rw [d2] at h12
    rw [h13, h12, h8]
    refine k _ ⟨fun L hL => ?_, frW_t (ptC_f hw _).1 (frW_t (ptC_f hw _).1 (ptC_f hw _).1)⟩
    unfold runL
    rw [if_pos (by omega), if_pos (by omega)]
    have q := ptC_x hw x3 (ptC_x hw (48 + x2 % 10) (ptC_x hw (48 + x2 / 10) hL).1).1
    rw [List.append_assoc, List.append_assoc] at q; exact q.1
/-- the text of a line -/
def tx (f : Nat → Int) : Nat → List Int × Nat
  | 0 => ([], 0)
  | j + 1 => if j + 1 = 30 ∨ ¬ f (j + 1) = f (tx f j).2 then ((tx f j).1 ++ runL ((j + 1 : Nat) - ((tx f j).2 : Int)) (f (tx f j).2), j + 1) else tx f j
theorem tx_s (f : Nat → Int) (j : Nat) : tx f (j + 1) = if j + 1 = 30 ∨ ¬ f (j + 1) = f (tx f j).2 then ((tx f j).1 ++ runL ((j + 1 : Nat) - ((tx f j).2 : Int)) (f (tx f j).2), j + 1) else tx f j := rfl
theorem tx_b (f : Nat → Int) : ∀ j, (tx f j).2 ≤ j ∧ (tx f j).1.length ≤ (tx f j).2
  | 0 => ⟨Nat.le_refl 0, Nat.le_refl 0⟩
  | j + 1 => by
    have ih := tx_b f j
    rw [tx_s]
    split
    · refine ⟨Nat.le_refl _, ?_⟩
      dsimp only
      rw [List.length_append]
      have l := runL_l ((j + 1 : Nat) - ((tx f j).2 : Int)) (f (tx f j).2)
      have nb := (rnN_b (n := (j + 1 : Nat) - ((tx f j).2 : Int)) (by omega)).2
      omega
    · exact ⟨by omega, ih.2⟩
theorem v43 {X : (Nat → Int) × Nat} {d : Nat} {s : mSt} {Q : mQ} {a1 : Nat} {x2 : Int} {x3 : Int} (h1 : isBd a1)
  (I13 : Int → Int → mSt → Prop) (m13 : Int → Int → mSt → Nat)
  (z1 : ∀ y4 : Int, ∀ y5 : Int, ∀ s : mSt, I13 y4 y5 s → 30 < y5 → Q none s)
  (z2 : ∀ y4 : Int, ∀ y5 : Int, ∀ s : mSt, I13 y4 y5 s → ¬ 30 < y5 → BI s a1 ∧ (0 ≤ x2 ∧ x2 < s a1 3) ∧ pl (brow s a1) x2.toNat = true ∧ (0 ≤ y4 ∧ y4 < 30))
  (z3 : ∀ y4 : Int, ∀ y5 : Int, ∀ s : mSt, I13 y4 y5 s → ¬ 30 < y5 → y5 = 30 → (0 ≤ x3 ∧ x3 < 2) ∧ LRq s ∧ (1 ≤ (w32 (y5 - y4)) ∧ (w32 (y5 - y4)) ≤ 30) ∧ (0 ≤ s 80 x3.toNat ∧ s 80 x3.toNat + rnN (w32 (y5 - y4)) ≤ 30))
  (z4 : ∀ y4 : Int, ∀ y5 : Int, ∀ s : mSt, I13 y4 y5 s → ¬ 30 < y5 → y5 = 30 → ∀ s4 : mSt, ((∀ L, TXc s x3.toNat L → TXc s4 x3.toNat (L ++ runL (w32 (y5 - y4)) (sgL (brow s a1) x2.toNat y4.toNat))) ∧ frW s s4 x3.toNat) → I13 y5 (w32 (y5 + 1)) s4 ∧ m13 y5 (w32 (y5 + 1)) s4 < m13 y4 y5 s)
  (z5 : ∀ y4 : Int, ∀ y5 : Int, ∀ s : mSt, I13 y4 y5 s → ¬ 30 < y5 → ¬ y5 = 30 → BI s a1 ∧ (0 ≤ x2 ∧ x2 < s a1 3) ∧ pl (brow s a1) x2.toNat = true ∧ (0 ≤ y5 ∧ y5 < 30))
  (z6 : ∀ y4 : Int, ∀ y5 : Int, ∀ s : mSt, I13 y4 y5 s → ¬ 30 < y5 → ¬ y5 = 30 → (sgL (brow s a1) x2.toNat y5.toNat) = (sgL (brow s a1) x2.toNat y4.toNat) → I13 y4 (w32 (y5 + 1)) s ∧ m13 y4 (w32 (y5 + 1)) s < m13 y4 y5 s)
  (z7 : ∀ y4 : Int, ∀ y5 : Int, ∀ s : mSt, I13 y4 y5 s → ¬ 30 < y5 → ¬ y5 = 30 → ¬ (sgL (brow s a1) x2.toNat y5.toNat) = (sgL (brow s a1) x2.toNat y4.toNat) → (0 ≤ x3 ∧ x3 < 2) ∧ LRq s ∧ (1 ≤ (w32 (y5 - y4)) ∧ (w32 (y5 - y4)) ≤ 30) ∧ (0 ≤ s 80 x3.toNat ∧ s 80 x3.toNat + rnN (w32 (y5 - y4)) ≤ 30))
  (z8 : ∀ y4 : Int, ∀ y5 : Int, ∀ s : mSt, I13 y4 y5 s → ¬ 30 < y5 → ¬ y5 = 30 → ¬ (sgL (brow s a1) x2.toNat y5.toNat) = (sgL (brow s a1) x2.toNat y4.toNat) → ∀ s8 : mSt, ((∀ L, TXc s x3.toNat L → TXc s8 x3.toNat (L ++ runL (w32 (y5 - y4)) (sgL (brow s a1) x2.toNat y4.toNat))) ∧ frW s s8 x3.toNat) → I13 y5 (w32 (y5 + 1)) s8 ∧ m13 y5 (w32 (y5 + 1)) s8 < m13 y4 y5 s)
  (z9 : 0 ≤ x3 ∧ x3 < 2)
  (z10 : I13 0 1 (uS s 80 x3.toNat 0)) :
  Sp X (d + 2) 43 [mR 76, mR a1, mI x2, mI x3] s Q := by
  have L : ∀ k : Nat, (∀ (y4 : Int) (y5 : Int) (l6 : Option mV) (s : mSt), I13 y4 y5 s → m13 y4 y5 s < k → Wp X (d + 2) 43 13 [some (mR 76), some (mR a1), some (mI x2), some (mI x3), some (mI y4), some (mI y5), l6] [] s Q) := by
    intro k
    induction k with
    | zero => exact fun _ _ _ _ _ h => absurd h (Nat.not_lt_zero _)
    | succ k ih => exact fun y4 y5 l6 s hI hm => b43_13 h1 (fun q1 => b43_70 h1 (z1 y4 y5 s hI q1)) (fun q2 => b43_20 h1 (c42 h1 (z2 y4 y5 s hI q2) ⟨_, rfl, b43_27 h1 (fun q3 => b43_48 h1 (c44 (z3 y4 y5 s hI q2 q3) (fun s4 q4 => ⟨rfl, b43_60 h1 (b43_64 h1 (ih y5 (w32 (y5 + 1)) (some (mI (sgL (brow s a1) x2.toNat y4.toNat))) s4 (z4 y4 y5 s hI q2 q3 s4 q4).1 (Nat.lt_of_lt_of_le (z4 y4 y5 s hI q2 q3 s4 q4).2 (Nat.le_of_lt_succ hm))))⟩))) (fun q5 => b43_36 h1 (c42 h1 (z5 y4 y5 s hI q2 q5) ⟨_, rfl, b43_43 h1 (fun q6 => b43_64 h1 (ih y4 (w32 (y5 + 1)) (some (mI (sgL (brow s a1) x2.toNat y4.toNat))) s (z6 y4 y5 s hI q2 q5 q6).1 (Nat.lt_of_lt_of_le (z6 y4 y5 s hI q2 q5 q6).2 (Nat.le_of_lt_succ hm)))) (fun q7 => b43_48 h1 (c44 (z7 y4 y5 s hI q2 q5 q7) (fun s8 q8 => ⟨rfl, b43_60 h1 (b43_64 h1 (ih y5 (w32 (y5 + 1)) (some (mI (sgL (brow s a1) x2.toNat y4.toNat))) s8 (z8 y4 y5 s hI q2 q5 q7 s8 q8).1 (Nat.lt_of_lt_of_le (z8 y4 y5 s hI q2 q5 q7 s8 q8).2 (Nat.le_of_lt_succ hm))))⟩)))⟩))⟩))
  exact e43 (b43_0 h1 z9 ((L (m13 0 1 (uS s 80 x3.toNat 0) + 1)) 0 1 none (uS s 80 x3.toNat 0) z10 (Nat.lt_succ_self _)))

theorem c43 {X : (Nat → Int) × Nat} {d : Nat} {s : mSt} {Q : mQ} {a1 : Nat} {x2 : Int} {x3 : Int} (h1 : isBd a1) (p1 : BI s a1 ∧ ((0 ≤ x2 ∧ x2 < s a1 3) ∧ pl (brow s a1) x2.toNat = true) ∧ (0 ≤ x3 ∧ x3 < 2) ∧ LRq s ∧ ¬ (77 ≤ a1 + 9 ∧ a1 ≤ 80)) (k : ∀ t : mSt, (TXc t x3.toNat (tx (sgL (brow s a1) x2.toNat) 30).1 ∧ frW s t x3.toNat) → Q none t) : Sp X (d + 2) 43 [mR 76, mR a1, mI x2, mI x3] s Q := by
  obtain ⟨hB, hp, hx, hl, hf⟩ := p1
  have hw : x3.toNat < 2 := by omega
  have lt := bd_lt h1
  let f := sgL (brow s a1) x2.toNat
  have now : ∀ t : mSt, frW s t x3.toNat → BI t a1 ∧ brow t a1 = brow s a1 ∧ t a1 = s a1 := fun t ht => by
    have q := BI_cells (t := t) hB (fun x hx => ht.1 x (by omega) (by omega)) (ht.1 417 (by omega) (by omega))
    exact ⟨q.1, q.2, ht.1 a1 (by omega) (by omega)⟩
  have pre : ∀ (t : mSt) (y : Int), frW s t x3.toNat → (0 ≤ y ∧ y < 30) → BI t a1 ∧ (0 ≤ x2 ∧ x2 < t a1 3) ∧ pl (brow t a1) x2.toNat = true ∧ (0 ≤ y ∧ y < 30) := fun t y ht hy => by
    have q := now t ht
    rw [q.2.1, q.2.2]; exact ⟨q.1, hp.1, hp.2, hy⟩
  let J : Int → Int → mSt → Prop := fun y4 y5 t => ∃ j : Nat, y5 = ((j + 1 : Nat) : Int) ∧ j ≤ 30 ∧ y4 = ((tx f j).2 : Int) ∧ TXc t x3.toNat (tx f j).1 ∧ frW s t x3.toNat
  have p44 : ∀ (j : Nat) (t : mSt), j < 30 → TXc t x3.toNat (tx f j).1 → frW s t x3.toNat → (0 ≤ x3 ∧ x3 < 2) ∧ LRq t ∧ (1 ≤ w32 (((j + 1 : Nat) : Int) - ((tx f j).2 : Int)) ∧ w32 (((j + 1 : Nat) : Int) - ((tx f j).2 : Int)) ≤ 30) ∧ (0 ≤ t 80 x3.toNat ∧ t 80 x3.toNat + rnN (w32 (((j + 1 : Nat) : Int) - ((tx f j).2 : Int))) ≤ 30) := fun j t hj ht hft => by
    have b := tx_b f j
    have e := ht.1
    rw [w32_of (by omega)]
    have nb := rnN_b (n := ((j + 1 : Nat) : Int) - ((tx f j).2 : Int)) (by omega)
    exact ⟨hx, LRq_f hw hl hft, by omega, by omega⟩
  have nx : ∀ (j : Nat) (t u : mSt), j < 30 → (j + 1 = 30 ∨ ¬ f (j + 1) = f (tx f j).2) → TXc t x3.toNat (tx f j).1 → frW s t x3.toNat → ((∀ L, TXc t x3.toNat L → TXc u x3.toNat (L ++ runL (w32 (((j + 1 : Nat) : Int) - ((tx f j).2 : Int))) (sgL (brow t a1) x2.toNat (((tx f j).2 : Int)).toNat))) ∧ frW t u x3.toNat) → J ((j + 1 : Nat) : Int) (w32 (((j + 1 : Nat) : Int) + 1)) u ∧ (40 - w32 (((j + 1 : Nat) : Int) + 1)).toNat < (40 - ((j + 1 : Nat) : Int)).toNat := fun j t u hj hc ht hft hu => by
    have b := tx_b f j
    rw [w32_of (by omega), (now t hft).2.1, tnc] at hu
    rw [w32_of (by omega)]
    have e : tx f (j + 1) = ((tx f j).1 ++ runL ((j + 1 : Nat) - ((tx f j).2 : Int)) (f (tx f j).2), j + 1) := by rw [tx_s, if_pos hc]
    refine ⟨⟨j + 1, by omega, by omega, by rw [e], by rw [e]; exact hu.1 _ ht, frW_t hft hu.2⟩, by omega⟩
  refine v43 h1 J (fun _ y _ => (40 - y).toNat) ?_ ?_ ?_ ?_ ?_ ?_ ?_ ?_ hx ?_
  · rintro _ _ t ⟨j, rfl, hj, rfl, ht, hft⟩ hc
    have : j = 30 := by omega
    subst this
    exact k t ⟨ht, hft⟩
  · rintro _ _ t ⟨j, rfl, hj, rfl, ht, hft⟩ hc
    have b := tx_b f j
    exact pre t _ hft (by omega)
  · rintro _ _ t ⟨j, rfl, hj, rfl, ht, hft⟩ hc q
    exact p44 j t (by omega) ht hft
  · rintro _ _ t ⟨j, rfl, hj, rfl, ht, hft⟩ hc q u hu
    exact nx j t u (by omega) (Or.inl (by omega)) ht hft hu
  · rintro _ _ t ⟨j, rfl, hj, rfl, ht, hft⟩ hc q
    exact pre t _ hft (by omega)
  · rintro _ _ t ⟨j, rfl, hj, rfl, ht, hft⟩ hc q q2
    rw [(now t hft).2.1, tnc, tnc] at q2
    have q2' : f (j + 1) = f (tx f j).2 := q2
    have e : tx f (j + 1) = tx f j := by rw [tx_s, if_neg (fun z => z.elim (fun z => by omega) (fun z => z q2'))]
    rw [w32_of (by omega)]
    exact ⟨⟨j + 1, by omega, by omega, by rw [e], by rw [e]; exact ht, hft⟩, by omega⟩
  · rintro _ _ t ⟨j, rfl, hj, rfl, ht, hft⟩ hc q q2
    exact p44 j t (by omega) ht hft
  · rintro _ _ t ⟨j, rfl, hj, rfl, ht, hft⟩ hc q q2 u hu
    refine nx j t u (by omega) (Or.inr ?_) ht hft hu
    rw [(now t hft).2.1, tnc, tnc] at q2
    exact q2
  · refine ⟨0, rfl, by omega, rfl, ⟨by rw [uS_at, if_pos rfl]; rfl, fun i hi => absurd hi (by show ¬ i < 0; omega)⟩, fun b g1 _ => uS_cell g1, fun j hj => by rw [uS_at, if_neg hj]⟩
theorem v268 {X : (Nat → Int) × Nat} {d : Nat} {s : mSt} {Q : mQ} {x1 : Int} {x2 : Int}
  (I9 : Int → mSt → Prop) (m9 : Int → mSt → Nat)
  (I18 : Int → Int → mSt → Prop) (m18 : Int → Int → mSt → Nat)
  (z1 : ∀ y3 : Int, ∀ s : mSt, I9 y3 s → 30 ≤ y3 → Q none s)
  (z2 : ∀ y3 : Int, ∀ s : mSt, I9 y3 s → ¬ 30 ≤ y3 → I18 y3 y3 s ∧ m18 y3 y3 s < m9 y3 s)
  (z3 : ∀ y3 : Int, ∀ y4 : Int, ∀ s : mSt, I18 y3 y4 s → 30 ≤ y4 → (w32 (y4 - y3)) ≤ 9 → (w32 (y4 - y3)) ≤ 1 → Ok (s 417) ∧ (0 ≤ x2 ∧ x2 < 6) ∧ (0 ≤ y3 ∧ y3 < 30))
  (z4 : ∀ y3 : Int, ∀ y4 : Int, ∀ s : mSt, I18 y3 y4 s → 30 ≤ y4 → (w32 (y4 - y3)) ≤ 9 → (w32 (y4 - y3)) ≤ 1 → (0 ≤ x1 ∧ x1 < 2) ∧ (0 ≤ s 425 x1.toNat ∧ s 425 x1.toNat < 60))
  (z5 : ∀ y3 : Int, ∀ y4 : Int, ∀ s : mSt, I18 y3 y4 s → 30 ≤ y4 → (w32 (y4 - y3)) ≤ 9 → (w32 (y4 - y3)) ≤ 1 → ∀ t6 : mSt, t6 = ptR s x1.toNat (sgL (s 417) x2.toNat y3.toNat) → I9 y4 t6 ∧ m9 y4 t6 < m18 y3 y4 s)
  (z6 : ∀ y3 : Int, ∀ y4 : Int, ∀ s : mSt, I18 y3 y4 s → 30 ≤ y4 → (w32 (y4 - y3)) ≤ 9 → ¬ (w32 (y4 - y3)) ≤ 1 → (0 ≤ x1 ∧ x1 < 2) ∧ (0 ≤ s 425 x1.toNat ∧ s 425 x1.toNat < 60))
  (z7 : ∀ y3 : Int, ∀ y4 : Int, ∀ s : mSt, I18 y3 y4 s → 30 ≤ y4 → (w32 (y4 - y3)) ≤ 9 → ¬ (w32 (y4 - y3)) ≤ 1 → ∀ t8 : mSt, t8 = ptR s x1.toNat (w32 (48 + (Int.tmod (w32 (y4 - y3)) 10))) → Ok (t8 417) ∧ (0 ≤ x2 ∧ x2 < 6) ∧ (0 ≤ y3 ∧ y3 < 30))
  (z8 : ∀ y3 : Int, ∀ y4 : Int, ∀ s : mSt, I18 y3 y4 s → 30 ≤ y4 → (w32 (y4 - y3)) ≤ 9 → ¬ (w32 (y4 - y3)) ≤ 1 → ∀ t8 : mSt, t8 = ptR s x1.toNat (w32 (48 + (Int.tmod (w32 (y4 - y3)) 10))) → (0 ≤ x1 ∧ x1 < 2) ∧ (0 ≤ t8 425 x1.toNat ∧ t8 425 x1.toNat < 60))
  (z9 : ∀ y3 : Int, ∀ y4 : Int, ∀ s : mSt, I18 y3 y4 s → 30 ≤ y4 → (w32 (y4 - y3)) ≤ 9 → ¬ (w32 (y4 - y3)) ≤ 1 → ∀ t8 : mSt, t8 = ptR s x1.toNat (w32 (48 + (Int.tmod (w32 (y4 - y3)) 10))) → ∀ t9 : mSt, t9 = ptR t8 x1.toNat (sgL (t8 417) x2.toNat y3.toNat) → I9 y4 t9 ∧ m9 y4 t9 < m18 y3 y4 s)
  (z10 : ∀ y3 : Int, ∀ y4 : Int, ∀ s : mSt, I18 y3 y4 s → 30 ≤ y4 → ¬ (w32 (y4 - y3)) ≤ 9 → (0 ≤ x1 ∧ x1 < 2) ∧ (0 ≤ s 425 x1.toNat ∧ s 425 x1.toNat < 60))
  (z11 : ∀ y3 : Int, ∀ y4 : Int, ∀ s : mSt, I18 y3 y4 s → 30 ≤ y4 → ¬ (w32 (y4 - y3)) ≤ 9 → ∀ t11 : mSt, t11 = ptR s x1.toNat (w32 (48 + (w32 (Int.tdiv (w32 (y4 - y3)) 10)))) → (w32 (y4 - y3)) ≤ 1 → Ok (t11 417) ∧ (0 ≤ x2 ∧ x2 < 6) ∧ (0 ≤ y3 ∧ y3 < 30))
  (z12 : ∀ y3 : Int, ∀ y4 : Int, ∀ s : mSt, I18 y3 y4 s → 30 ≤ y4 → ¬ (w32 (y4 - y3)) ≤ 9 → ∀ t11 : mSt, t11 = ptR s x1.toNat (w32 (48 + (w32 (Int.tdiv (w32 (y4 - y3)) 10)))) → (w32 (y4 - y3)) ≤ 1 → (0 ≤ x1 ∧ x1 < 2) ∧ (0 ≤ t11 425 x1.toNat ∧ t11 425 x1.toNat < 60))
  (z13 : ∀ y3 : Int, ∀ y4 : Int, ∀ s : mSt, I18 y3 y4 s → 30 ≤ y4 → ¬ (w32 (y4 - y3)) ≤ 9 → ∀ t11 : mSt, t11 = ptR s x1.toNat (w32 (48 + (w32 (Int.tdiv (w32 (y4 - y3)) 10)))) → (w32 (y4 - y3)) ≤ 1 → ∀ t13 : mSt, t13 = ptR t11 x1.toNat (sgL (t11 417) x2.toNat y3.toNat) → I9 y4 t13 ∧ m9 y4 t13 < m18 y3 y4 s)
  (z14 : ∀ y3 : Int, ∀ y4 : Int, ∀ s : mSt, I18 y3 y4 s → 30 ≤ y4 → ¬ (w32 (y4 - y3)) ≤ 9 → ∀ t11 : mSt, t11 = ptR s x1.toNat (w32 (48 + (w32 (Int.tdiv (w32 (y4 - y3)) 10)))) → ¬ (w32 (y4 - y3)) ≤ 1 → (0 ≤ x1 ∧ x1 < 2) ∧ (0 ≤ t11 425 x1.toNat ∧ t11 425 x1.toNat < 60))
  (z15 : ∀ y3 : Int, ∀ y4 : Int, ∀ s : mSt, I18 y3 y4 s → 30 ≤ y4 → ¬ (w32 (y4 - y3)) ≤ 9 → ∀ t11 : mSt, t11 = ptR s x1.toNat (w32 (48 + (w32 (Int.tdiv (w32 (y4 - y3)) 10)))) → ¬ (w32 (y4 - y3)) ≤ 1 → ∀ t15 : mSt, t15 = ptR t11 x1.toNat (w32 (48 + (Int.tmod (w32 (y4 - y3)) 10))) → Ok (t15 417) ∧ (0 ≤ x2 ∧ x2 < 6) ∧ (0 ≤ y3 ∧ y3 < 30))
  (z16 : ∀ y3 : Int, ∀ y4 : Int, ∀ s : mSt, I18 y3 y4 s → 30 ≤ y4 → ¬ (w32 (y4 - y3)) ≤ 9 → ∀ t11 : mSt, t11 = ptR s x1.toNat (w32 (48 + (w32 (Int.tdiv (w32 (y4 - y3)) 10)))) → ¬ (w32 (y4 - y3)) ≤ 1 → ∀ t15 : mSt, t15 = ptR t11 x1.toNat (w32 (48 + (Int.tmod (w32 (y4 - y3)) 10))) → (0 ≤ x1 ∧ x1 < 2) ∧ (0 ≤ t15 425 x1.toNat ∧ t15 425 x1.toNat < 60))
  (z17 : ∀ y3 : Int, ∀ y4 : Int, ∀ s : mSt, I18 y3 y4 s → 30 ≤ y4 → ¬ (w32 (y4 - y3)) ≤ 9 → ∀ t11 : mSt, t11 = ptR s x1.toNat (w32 (48 + (w32 (Int.tdiv (w32 (y4 - y3)) 10)))) → ¬ (w32 (y4 - y3)) ≤ 1 → ∀ t15 : mSt, t15 = ptR t11 x1.toNat (w32 (48 + (Int.tmod (w32 (y4 - y3)) 10))) → ∀ t16 : mSt, t16 = ptR t15 x1.toNat (sgL (t15 417) x2.toNat y3.toNat) → I9 y4 t16 ∧ m9 y4 t16 < m18 y3 y4 s)
  (z18 : ∀ y3 : Int, ∀ y4 : Int, ∀ s : mSt, I18 y3 y4 s → ¬ 30 ≤ y4 → Ok (s 417) ∧ (0 ≤ x2 ∧ x2 < 6) ∧ (0 ≤ y4 ∧ y4 < 30))
  (z19 : ∀ y3 : Int, ∀ y4 : Int, ∀ s : mSt, I18 y3 y4 s → ¬ 30 ≤ y4 → Ok (s 417) ∧ (0 ≤ x2 ∧ x2 < 6) ∧ (0 ≤ y3 ∧ y3 < 30))
  (z20 : ∀ y3 : Int, ∀ y4 : Int, ∀ s : mSt, I18 y3 y4 s → ¬ 30 ≤ y4 → ¬ (sgL (s 417) x2.toNat y4.toNat) = (sgL (s 417) x2.toNat y3.toNat) → (w32 (y4 - y3)) ≤ 9 → (w32 (y4 - y3)) ≤ 1 → Ok (s 417) ∧ (0 ≤ x2 ∧ x2 < 6) ∧ (0 ≤ y3 ∧ y3 < 30))
  (z21 : ∀ y3 : Int, ∀ y4 : Int, ∀ s : mSt, I18 y3 y4 s → ¬ 30 ≤ y4 → ¬ (sgL (s 417) x2.toNat y4.toNat) = (sgL (s 417) x2.toNat y3.toNat) → (w32 (y4 - y3)) ≤ 9 → (w32 (y4 - y3)) ≤ 1 → (0 ≤ x1 ∧ x1 < 2) ∧ (0 ≤ s 425 x1.toNat ∧ s 425 x1.toNat < 60))
  (z22 : ∀ y3 : Int, ∀ y4 : Int, ∀ s : mSt, I18 y3 y4 s → ¬ 30 ≤ y4 → ¬ (sgL (s 417) x2.toNat y4.toNat) = (sgL (s 417) x2.toNat y3.toNat) → (w32 (y4 - y3)) ≤ 9 → (w32 (y4 - y3)) ≤ 1 → ∀ t21 : mSt, t21 = ptR s x1.toNat (sgL (s 417) x2.toNat y3.toNat) → I9 y4 t21 ∧ m9 y4 t21 < m18 y3 y4 s)
  (z23 : ∀ y3 : Int, ∀ y4 : Int, ∀ s : mSt, I18 y3 y4 s → ¬ 30 ≤ y4 → ¬ (sgL (s 417) x2.toNat y4.toNat) = (sgL (s 417) x2.toNat y3.toNat) → (w32 (y4 - y3)) ≤ 9 → ¬ (w32 (y4 - y3)) ≤ 1 → (0 ≤ x1 ∧ x1 < 2) ∧ (0 ≤ s 425 x1.toNat ∧ s 425 x1.toNat < 60))
  (z24 : ∀ y3 : Int, ∀ y4 : Int, ∀ s : mSt, I18 y3 y4 s → ¬ 30 ≤ y4 → ¬ (sgL (s 417) x2.toNat y4.toNat) = (sgL (s 417) x2.toNat y3.toNat) → (w32 (y4 - y3)) ≤ 9 → ¬ (w32 (y4 - y3)) ≤ 1 → ∀ t23 : mSt, t23 = ptR s x1.toNat (w32 (48 + (Int.tmod (w32 (y4 - y3)) 10))) → Ok (t23 417) ∧ (0 ≤ x2 ∧ x2 < 6) ∧ (0 ≤ y3 ∧ y3 < 30))
  (z25 : ∀ y3 : Int, ∀ y4 : Int, ∀ s : mSt, I18 y3 y4 s → ¬ 30 ≤ y4 → ¬ (sgL (s 417) x2.toNat y4.toNat) = (sgL (s 417) x2.toNat y3.toNat) → (w32 (y4 - y3)) ≤ 9 → ¬ (w32 (y4 - y3)) ≤ 1 → ∀ t23 : mSt, t23 = ptR s x1.toNat (w32 (48 + (Int.tmod (w32 (y4 - y3)) 10))) → (0 ≤ x1 ∧ x1 < 2) ∧ (0 ≤ t23 425 x1.toNat ∧ t23 425 x1.toNat < 60))
  (z26 : ∀ y3 : Int, ∀ y4 : Int, ∀ s : mSt, I18 y3 y4 s → ¬ 30 ≤ y4 → ¬ (sgL (s 417) x2.toNat y4.toNat) = (sgL (s 417) x2.toNat y3.toNat) → (w32 (y4 - y3)) ≤ 9 → ¬ (w32 (y4 - y3)) ≤ 1 → ∀ t23 : mSt, t23 = ptR s x1.toNat (w32 (48 + (Int.tmod (w32 (y4 - y3)) 10))) → ∀ t24 : mSt, t24 = ptR t23 x1.toNat (sgL (t23 417) x2.toNat y3.toNat) → I9 y4 t24 ∧ m9 y4 t24 < m18 y3 y4 s)
  (z27 : ∀ y3 : Int, ∀ y4 : Int, ∀ s : mSt, I18 y3 y4 s → ¬ 30 ≤ y4 → ¬ (sgL (s 417) x2.toNat y4.toNat) = (sgL (s 417) x2.toNat y3.toNat) → ¬ (w32 (y4 - y3)) ≤ 9 → (0 ≤ x1 ∧ x1 < 2) ∧ (0 ≤ s 425 x1.toNat ∧ s 425 x1.toNat < 60))
  (z28 : ∀ y3 : Int, ∀ y4 : Int, ∀ s : mSt, I18 y3 y4 s → ¬ 30 ≤ y4 → ¬ (sgL (s 417) x2.toNat y4.toNat) = (sgL (s 417) x2.toNat y3.toNat) → ¬ (w32 (y4 - y3)) ≤ 9 → ∀ t26 : mSt, t26 = ptR s x1.toNat (w32 (48 + (w32 (Int.tdiv (w32 (y4 - y3)) 10)))) → (w32 (y4 - y3)) ≤ 1 → Ok (t26 417) ∧ (0 ≤ x2 ∧ x2 < 6) ∧ (0 ≤ y3 ∧ y3 < 30))
  (z29 : ∀ y3 : Int, ∀ y4 : Int, ∀ s : mSt, I18 y3 y4 s → ¬ 30 ≤ y4 → ¬ (sgL (s 417) x2.toNat y4.toNat) = (sgL (s 417) x2.toNat y3.toNat) → ¬ (w32 (y4 - y3)) ≤ 9 → ∀ t26 : mSt, t26 = ptR s x1.toNat (w32 (48 + (w32 (Int.tdiv (w32 (y4 - y3)) 10)))) → (w32 (y4 - y3)) ≤ 1 → (0 ≤ x1 ∧ x1 < 2) ∧ (0 ≤ t26 425 x1.toNat ∧ t26 425 x1.toNat < 60))
  (z30 : ∀ y3 : Int, ∀ y4 : Int, ∀ s : mSt, I18 y3 y4 s → ¬ 30 ≤ y4 → ¬ (sgL (s 417) x2.toNat y4.toNat) = (sgL (s 417) x2.toNat y3.toNat) → ¬ (w32 (y4 - y3)) ≤ 9 → ∀ t26 : mSt, t26 = ptR s x1.toNat (w32 (48 + (w32 (Int.tdiv (w32 (y4 - y3)) 10)))) → (w32 (y4 - y3)) ≤ 1 → ∀ t28 : mSt, t28 = ptR t26 x1.toNat (sgL (t26 417) x2.toNat y3.toNat) → I9 y4 t28 ∧ m9 y4 t28 < m18 y3 y4 s)
  (z31 : ∀ y3 : Int, ∀ y4 : Int, ∀ s : mSt, I18 y3 y4 s → ¬ 30 ≤ y4 → ¬ (sgL (s 417) x2.toNat y4.toNat) = (sgL (s 417) x2.toNat y3.toNat) → ¬ (w32 (y4 - y3)) ≤ 9 → ∀ t26 : mSt, t26 = ptR s x1.toNat (w32 (48 + (w32 (Int.tdiv (w32 (y4 - y3)) 10)))) → ¬ (w32 (y4 - y3)) ≤ 1 → (0 ≤ x1 ∧ x1 < 2) ∧ (0 ≤ t26 425 x1.toNat ∧ t26 425 x1.toNat < 60))
  (z32 : ∀ y3 : Int, ∀ y4 : Int, ∀ s : mSt, I18 y3 y4 s → ¬ 30 ≤ y4 → ¬ (sgL (s 417) x2.toNat y4.toNat) = (sgL (s 417) x2.toNat y3.toNat) → ¬ (w32 (y4 - y3)) ≤ 9 → ∀ t26 : mSt, t26 = ptR s x1.toNat (w32 (48 + (w32 (Int.tdiv (w32 (y4 - y3)) 10)))) → ¬ (w32 (y4 - y3)) ≤ 1 → ∀ t30 : mSt, t30 = ptR t26 x1.toNat (w32 (48 + (Int.tmod (w32 (y4 - y3)) 10))) → Ok (t30 417) ∧ (0 ≤ x2 ∧ x2 < 6) ∧ (0 ≤ y3 ∧ y3 < 30))
  (z33 : ∀ y3 : Int, ∀ y4 : Int, ∀ s : mSt, I18 y3 y4 s → ¬ 30 ≤ y4 → ¬ (sgL (s 417) x2.toNat y4.toNat) = (sgL (s 417) x2.toNat y3.toNat) → ¬ (w32 (y4 - y3)) ≤ 9 → ∀ t26 : mSt, t26 = ptR s x1.toNat (w32 (48 + (w32 (Int.tdiv (w32 (y4 - y3)) 10)))) → ¬ (w32 (y4 - y3)) ≤ 1 → ∀ t30 : mSt, t30 = ptR t26 x1.toNat (w32 (48 + (Int.tmod (w32 (y4 - y3)) 10))) → (0 ≤ x1 ∧ x1 < 2) ∧ (0 ≤ t30 425 x1.toNat ∧ t30 425 x1.toNat < 60))
  (z34 : ∀ y3 : Int, ∀ y4 : Int, ∀ s : mSt, I18 y3 y4 s → ¬ 30 ≤ y4 → ¬ (sgL (s 417) x2.toNat y4.toNat) = (sgL (s 417) x2.toNat y3.toNat) → ¬ (w32 (y4 - y3)) ≤ 9 → ∀ t26 : mSt, t26 = ptR s x1.toNat (w32 (48 + (w32 (Int.tdiv (w32 (y4 - y3)) 10)))) → ¬ (w32 (y4 - y3)) ≤ 1 → ∀ t30 : mSt, t30 = ptR t26 x1.toNat (w32 (48 + (Int.tmod (w32 (y4 - y3)) 10))) → ∀ t31 : mSt, t31 = ptR t30 x1.toNat (sgL (t30 417) x2.toNat y3.toNat) → I9 y4 t31 ∧ m9 y4 t31 < m18 y3 y4 s)
  (z35 : ∀ y3 : Int, ∀ y4 : Int, ∀ s : mSt, I18 y3 y4 s → ¬ 30 ≤ y4 → (sgL (s 417) x2.toNat y4.toNat) = (sgL (s 417) x2.toNat y3.toNat) → I18 y3 (w32 (y4 + 1)) s ∧ m18 y3 (w32 (y4 + 1)) s < m18 y3 y4 s)
  (z36 : 0 ≤ x1 ∧ x1 < 2)
  (z37 : I9 0 (uS s 425 x1.toNat 0)) :
  Sp X (d + 5) 268 [mR 407, mI x1, mI x2] s Q := by
  have L : ∀ k : Nat, (∀ (y3 : Int) (l4 : Option mV) (s : mSt), I9 y3 s → m9 y3 s < k → Wp X (d + 5) 268 9 [some (mR 407), some (mI x1), some (mI x2), some (mI y3), l4] [] s Q) ∧ (∀ (y3 : Int) (y4 : Int) (s : mSt), I18 y3 y4 s → m18 y3 y4 s < k → Wp X (d + 5) 268 18 [some (mR 407), some (mI x1), some (mI x2), some (mI y3), some (mI y4)] [] s Q) := by
    intro k
    induction k with
    | zero => exact ⟨fun _ _ _ _ h => absurd h (Nat.not_lt_zero _), fun _ _ _ _ h => absurd h (Nat.not_lt_zero _)⟩
    | succ k ih => exact ⟨fun y3 l4 s hI hm => b268_9 (fun q1 => b268_111 (z1 y3 s hI q1)) (fun q2 => b268_15 (ih.2 y3 y3 s (z2 y3 s hI q2).1 (Nat.lt_of_lt_of_le (z2 y3 s hI q2).2 (Nat.le_of_lt_succ hm)))), fun y3 y4 s hI hm => b268_18 (fun q3 => b268_47 (fun q4 => b268_71 (fun q5 => b268_94 (c265 (z3 y3 y4 s hI q3 q4 q5) ⟨_, rfl, b268_102 (c267 (z4 y3 y4 s hI q3 q4 q5) ⟨rfl, Wp_gen (fun t6 e6 => b268_105 (ih.1 y4 (some (mI y4)) t6 (z5 y3 y4 s hI q3 q4 q5 t6 e6).1 (Nat.lt_of_lt_of_le (z5 y3 y4 s hI q3 q4 q5 t6 e6).2 (Nat.le_of_lt_succ hm))))⟩)⟩)) (fun q7 => b268_79 (c267 (z6 y3 y4 s hI q3 q4 q7) ⟨rfl, Wp_gen (fun t8 e8 => b268_94 (c265 (z7 y3 y4 s hI q3 q4 q7 t8 e8) ⟨_, rfl, b268_102 (c267 (z8 y3 y4 s hI q3 q4 q7 t8 e8) ⟨rfl, Wp_gen (fun t9 e9 => b268_105 (ih.1 y4 (some (mI y4)) t9 (z9 y3 y4 s hI q3 q4 q7 t8 e8 t9 e9).1 (Nat.lt_of_lt_of_le (z9 y3 y4 s hI q3 q4 q7 t8 e8 t9 e9).2 (Nat.le_of_lt_succ hm))))⟩)⟩))⟩))) (fun q10 => b268_56 (c267 (z10 y3 y4 s hI q3 q10) ⟨rfl, Wp_gen (fun t11 e11 => b268_71 (fun q12 => b268_94 (c265 (z11 y3 y4 s hI q3 q10 t11 e11 q12) ⟨_, rfl, b268_102 (c267 (z12 y3 y4 s hI q3 q10 t11 e11 q12) ⟨rfl, Wp_gen (fun t13 e13 => b268_105 (ih.1 y4 (some (mI y4)) t13 (z13 y3 y4 s hI q3 q10 t11 e11 q12 t13 e13).1 (Nat.lt_of_lt_of_le (z13 y3 y4 s hI q3 q10 t11 e11 q12 t13 e13).2 (Nat.le_of_lt_succ hm))))⟩)⟩)) (fun q14 => b268_79 (c267 (z14 y3 y4 s hI q3 q10 t11 e11 q14) ⟨rfl, Wp_gen (fun t15 e15 => b268_94 (c265 (z15 y3 y4 s hI q3 q10 t11 e11 q14 t15 e15) ⟨_, rfl, b268_102 (c267 (z16 y3 y4 s hI q3 q10 t11 e11 q14 t15 e15) ⟨rfl, Wp_gen (fun t16 e16 => b268_105 (ih.1 y4 (some (mI y4)) t16 (z17 y3 y4 s hI q3 q10 t11 e11 q14 t15 e15 t16 e16).1 (Nat.lt_of_lt_of_le (z17 y3 y4 s hI q3 q10 t11 e11 q14 t15 e15 t16 e16).2 (Nat.le_of_lt_succ hm))))⟩)⟩))⟩)))⟩))) (fun q17 => b268_25 (c265 (z18 y3 y4 s hI q17) ⟨_, rfl, b268_32 (c265 (z19 y3 y4 s hI q17) ⟨_, rfl, b268_38 (fun q18 => b268_47 (fun q19 => b268_71 (fun q20 => b268_94 (c265 (z20 y3 y4 s hI q17 q18 q19 q20) ⟨_, rfl, b268_102 (c267 (z21 y3 y4 s hI q17 q18 q19 q20) ⟨rfl, Wp_gen (fun t21 e21 => b268_105 (ih.1 y4 (some (mI y4)) t21 (z22 y3 y4 s hI q17 q18 q19 q20 t21 e21).1 (Nat.lt_of_lt_of_le (z22 y3 y4 s hI q17 q18 q19 q20 t21 e21).2 (Nat.le_of_lt_succ hm))))⟩)⟩)) (fun q22 => b268_79 (c267 (z23 y3 y4 s hI q17 q18 q19 q22) ⟨rfl, Wp_gen (fun t23 e23 => b268_94 (c265 (z24 y3 y4 s hI q17 q18 q19 q22 t23 e23) ⟨_, rfl, b268_102 (c267 (z25 y3 y4 s hI q17 q18 q19 q22 t23 e23) ⟨rfl, Wp_gen (fun t24 e24 => b268_105 (ih.1 y4 (some (mI y4)) t24 (z26 y3 y4 s hI q17 q18 q19 q22 t23 e23 t24 e24).1 (Nat.lt_of_lt_of_le (z26 y3 y4 s hI q17 q18 q19 q22 t23 e23 t24 e24).2 (Nat.le_of_lt_succ hm))))⟩)⟩))⟩))) (fun q25 => b268_56 (c267 (z27 y3 y4 s hI q17 q18 q25) ⟨rfl, Wp_gen (fun t26 e26 => b268_71 (fun q27 => b268_94 (c265 (z28 y3 y4 s hI q17 q18 q25 t26 e26 q27) ⟨_, rfl, b268_102 (c267 (z29 y3 y4 s hI q17 q18 q25 t26 e26 q27) ⟨rfl, Wp_gen (fun t28 e28 => b268_105 (ih.1 y4 (some (mI y4)) t28 (z30 y3 y4 s hI q17 q18 q25 t26 e26 q27 t28 e28).1 (Nat.lt_of_lt_of_le (z30 y3 y4 s hI q17 q18 q25 t26 e26 q27 t28 e28).2 (Nat.le_of_lt_succ hm))))⟩)⟩)) (fun q29 => b268_79 (c267 (z31 y3 y4 s hI q17 q18 q25 t26 e26 q29) ⟨rfl, Wp_gen (fun t30 e30 => b268_94 (c265 (z32 y3 y4 s hI q17 q18 q25 t26 e26 q29 t30 e30) ⟨_, rfl, b268_102 (c267 (z33 y3 y4 s hI q17 q18 q25 t26 e26 q29 t30 e30) ⟨rfl, Wp_gen (fun t31 e31 => b268_105 (ih.1 y4 (some (mI y4)) t31 (z34 y3 y4 s hI q17 q18 q25 t26 e26 q29 t30 e30 t31 e31).1 (Nat.lt_of_lt_of_le (z34 y3 y4 s hI q17 q18 q25 t26 e26 q29 t30 e30 t31 e31).2 (Nat.le_of_lt_succ hm))))⟩)⟩))⟩)))⟩))) (fun q32 => b268_41 (ih.2 y3 (w32 (y4 + 1)) s (z35 y3 y4 s hI q17 q32).1 (Nat.lt_of_lt_of_le (z35 y3 y4 s hI q17 q32).2 (Nat.le_of_lt_succ hm))))⟩)⟩))⟩
  exact e268 (b268_0 z36 ((L (m9 0 (uS s 425 x1.toNat 0) + 1)).1 0 none (uS s 425 x1.toNat 0) z37 (Nat.lt_succ_self _)))

theorem c268 {X : (Nat → Int) × Nat} {d : Nat} {s : mSt} {Q : mQ} {x1 : Int} {x2 : Int} (p1 : Ok (s 417) ∧ (0 ≤ x2 ∧ x2 < 6) ∧ (0 ≤ x1 ∧ x1 < 2)) (k : ∀ t : mSt, (TXr t x1.toNat (tx (sgL (s 417) x2.toNat) 30).1 ∧ frV s t x1.toNat) → Q none t) : Sp X (d + 5) 268 [mR 407, mI x1, mI x2] s Q := by
  obtain ⟨h, hx2, hx1⟩ := p1
  let w := x1.toNat
  have hw : x1.toNat < 2 := by omega
  let f := sgL (s 417) x2.toNat
  have e7 : ∀ t : mSt, frV s t x1.toNat → t 417 = s 417 := fun t ht => ht.1 417 (by decide) (by decide)
  have st : ∀ (t t' : mSt) (L : List Int) (v : Int), TXr t x1.toNat L → L.length < 60 → frV s t x1.toNat → t' = ptR t x1.toNat v → TXr t' x1.toNat (L ++ [v]) ∧ frV s t' x1.toNat := fun t t' L v hL hl hf ht => by
    have q := ptR_x hl v hL
    rw [ht]; exact ⟨q.1, frV_t hf q.2⟩
  have a1 : ∀ (t : mSt) (y : Int), frV s t x1.toNat → (0 ≤ y ∧ y < 30) → Ok (t 417) ∧ (0 ≤ x2 ∧ x2 < 6) ∧ (0 ≤ y ∧ y < 30) := fun t y hf hy => by rw [e7 t hf]; exact ⟨h, hx2, hy⟩
  have a2 : ∀ (t : mSt) (L : List Int), TXr t x1.toNat L → L.length < 60 → (0 ≤ x1 ∧ x1 < 2) ∧ (0 ≤ t 425 x1.toNat ∧ t 425 x1.toNat < 60) := fun t L hL hl => by rw [hL.1]; exact ⟨hx1, by omega⟩
  let J : Int → mSt → Prop := fun y3 t => ∃ m : Nat, y3 = m ∧ m ≤ 30 ∧ (tx f m).2 = m ∧ TXr t x1.toNat (tx f m).1 ∧ frV s t x1.toNat
  let K : Int → Int → mSt → Prop := fun y3 y4 t => ∃ m n : Nat, y3 = m ∧ m < 30 ∧ y4 = n ∧ m ≤ n ∧ n ≤ 30 ∧ (tx f m).2 = m ∧ (m < n → tx f (n - 1) = tx f m) ∧ TXr t x1.toNat (tx f m).1 ∧ frV s t x1.toNat
  have len1 : ∀ (L : List Int) (v : Int), (L ++ [v]).length = L.length + 1 := fun L v => by rw [List.length_append]; rfl
  have fin : ∀ (m n : Nat) (u : mSt), m < 30 → m ≤ n → n ≤ 30 → (tx f m).2 = m → (m < n → tx f (n - 1) = tx f m) → (n = 30 ∨ ¬ f n = f m) → TXr u x1.toNat ((tx f m).1 ++ runL ((n : Int) - (m : Int)) (f m)) → frV s u x1.toNat → J (n : Int) u ∧ (200 - 4 * (n : Int)).toNat < (199 - 2 * (m : Int) - 2 * (n : Int)).toNat := fun m n u hm hmn hn e2 et hE ht hf => by
    have hlt : m < n := by
      rcases Nat.lt_or_eq_of_le hmn with z | z
      · exact z
      · exfalso
        rcases hE with y | y
        · omega
        · exact y (by rw [z])
    have e1 := et hlt
    have e : tx f n = ((tx f m).1 ++ runL ((n : Int) - (m : Int)) (f m), n) := by
      have q := tx_s f (n - 1)
      rw [e1, e2, show n - 1 + 1 = n by omega, if_pos hE] at q
      exact q
    exact ⟨⟨n, rfl, hn, by rw [e], by rw [e]; exact ht, hf⟩, by omega⟩
  have r1 : ∀ (m n : Nat), m ≤ n → (n : Int) - (m : Int) ≤ 9 → (n : Int) - (m : Int) ≤ 1 → ∀ v, runL ((n : Int) - (m : Int)) v = [v] := fun m n _ h1 h2 v => by unfold runL; rw [if_neg (by omega), if_neg (by omega)]; rfl
  have r2 : ∀ (m n : Nat), m ≤ n → (n : Int) - (m : Int) ≤ 9 → ¬ (n : Int) - (m : Int) ≤ 1 → ∀ v, runL ((n : Int) - (m : Int)) v = [48 + ((n : Int) - (m : Int)) % 10, v] := fun m n _ h1 h2 v => by unfold runL; rw [if_neg (by omega), if_pos (by omega)]; rfl
  have r3 : ∀ (m n : Nat), m ≤ n → ¬ (n : Int) - (m : Int) ≤ 9 → ∀ v, runL ((n : Int) - (m : Int)) v = [48 + ((n : Int) - (m : Int)) / 10, 48 + ((n : Int) - (m : Int)) % 10, v] := fun m n _ h1 v => by unfold runL; rw [if_pos (by omega), if_pos (by omega)]; rfl
  have dm : ∀ (m n : Nat), m ≤ n → n ≤ 30 → w32 (48 + Int.tmod (w32 ((n : Int) - (m : Int))) 10) = 48 + ((n : Int) - (m : Int)) % 10 := fun m n h1 h2 => by rw [w32_of (x := (n : Int) - (m : Int)) (by omega), Int.tmod_eq_emod_of_nonneg (by omega), w32_of (by omega)]
  have dd : ∀ (m n : Nat), m ≤ n → n ≤ 30 → w32 (48 + w32 (Int.tdiv (w32 ((n : Int) - (m : Int))) 10)) = 48 + ((n : Int) - (m : Int)) / 10 := fun m n h1 h2 => by rw [w32_of (x := (n : Int) - (m : Int)) (by omega), Int.tdiv_eq_ediv_of_nonneg (by omega), w32_of (x := ((n : Int) - (m : Int)) / 10) (by omega), w32_of (by omega)]
  have wd : ∀ (m n : Nat), m ≤ n → n ≤ 30 → w32 ((n : Int) - (m : Int)) = (n : Int) - (m : Int) := fun m n h1 h2 => w32_of (by omega)
  have tl : ∀ m : Nat, m < 30 → (tx f m).2 = m → (tx f m).1.length < 30 := fun m hm e => by have := tx_b f m; omega
  refine v268 J (fun y _ => (200 - 4 * y).toNat) K (fun y3 y4 _ => (199 - 2 * y3 - 2 * y4).toNat) ?_ ?_ ?_ ?_ ?_ ?_ ?_ ?_ ?_ ?_ ?_ ?_ ?_ ?_ ?_ ?_ ?_ ?_ ?_ ?_ ?_ ?_ ?_ ?_ ?_ ?_ ?_ ?_ ?_ ?_ ?_ ?_ ?_ ?_ ?_ hx1 ?_
  · rintro _ t ⟨m, rfl, hm, e2, ht, hf⟩ hc
    have : m = 30 := by omega
    subst this
    exact k t ⟨ht, hf⟩
  · rintro _ t ⟨m, rfl, hm, e2, ht, hf⟩ hc
    exact ⟨⟨m, m, rfl, by omega, rfl, by omega, by omega, e2, fun z => by omega, ht, hf⟩, by omega⟩
  · rintro _ _ t ⟨m, n, rfl, hm, rfl, hmn, hn, e2, et, ht, hf⟩ hc q1 q2
    exact a1 t _ hf (by omega)
  · rintro _ _ t ⟨m, n, rfl, hm, rfl, hmn, hn, e2, et, ht, hf⟩ hc q1 q2
    have l := tl m hm e2
    exact a2 t _ ht (by omega)
  · rintro _ _ t ⟨m, n, rfl, hm, rfl, hmn, hn, e2, et, ht, hf⟩ hc q1 q2 u hu
    have hE : n = 30 ∨ ¬ f n = f m := Or.inl (by omega)
    have l := tl m hm e2
    rw [wd m n hmn hn] at q1 q2
    rw [e7 t hf, tnc] at hu
    have a := st t u _ _ ht (by omega) hf hu
    exact fin m n u hm hmn hn e2 et hE (by rw [r1 m n hmn q1 q2]; exact a.1) a.2
  · rintro _ _ t ⟨m, n, rfl, hm, rfl, hmn, hn, e2, et, ht, hf⟩ hc q1 q2
    have l := tl m hm e2
    exact a2 t _ ht (by omega)
  · rintro _ _ t ⟨m, n, rfl, hm, rfl, hmn, hn, e2, et, ht, hf⟩ hc q1 q2 t8 h8
    have l := tl m hm e2
    exact a1 t8 _ (st t t8 _ _ ht (by omega) hf h8).2 (by omega)
  · rintro _ _ t ⟨m, n, rfl, hm, rfl, hmn, hn, e2, et, ht, hf⟩ hc q1 q2 t8 h8
    have l := tl m hm e2
    exact a2 t8 _ (st t t8 _ _ ht (by omega) hf h8).1 (by rw [len1]; omega)
  · rintro _ _ t ⟨m, n, rfl, hm, rfl, hmn, hn, e2, et, ht, hf⟩ hc q1 q2 t8 h8 u hu
    have hE : n = 30 ∨ ¬ f n = f m := Or.inl (by omega)
    have l := tl m hm e2
    rw [wd m n hmn hn] at q1 q2
    rw [dm m n hmn hn] at h8
    have a := st t t8 _ _ ht (by omega) hf h8
    rw [e7 t8 a.2, tnc] at hu
    have b := st t8 u _ _ a.1 (by rw [len1]; omega) a.2 hu
    rw [List.append_assoc] at b
    exact fin m n u hm hmn hn e2 et hE (by rw [r2 m n hmn q1 q2]; exact b.1) b.2
  · rintro _ _ t ⟨m, n, rfl, hm, rfl, hmn, hn, e2, et, ht, hf⟩ hc q1
    have l := tl m hm e2
    exact a2 t _ ht (by omega)
  · rintro _ _ t ⟨m, n, rfl, hm, rfl, hmn, hn, e2, et, ht, hf⟩ hc q1 t11 h11 q2
    rw [wd m n hmn hn] at q1 q2
    omega
  · rintro _ _ t ⟨m, n, rfl, hm, rfl, hmn, hn, e2, et, ht, hf⟩ hc q1 t11 h11 q2
    rw [wd m n hmn hn] at q1 q2
    omega
  · rintro _ _ t ⟨m, n, rfl, hm, rfl, hmn, hn, e2, et, ht, hf⟩ hc q1 t11 h11 q2 u hu
    rw [wd m n hmn hn] at q1 q2
    omega
  · rintro _ _ t ⟨m, n, rfl, hm, rfl, hmn, hn, e2, et, ht, hf⟩ hc q1 t11 h11 q2
    have l := tl m hm e2
    exact a2 t11 _ (st t t11 _ _ ht (by omega) hf h11).1 (by rw [len1]; omega)
  · rintro _ _ t ⟨m, n, rfl, hm, rfl, hmn, hn, e2, et, ht, hf⟩ hc q1 t11 h11 q2 t15 h15
    have l := tl m hm e2
    have a := st t t11 _ _ ht (by omega) hf h11
    exact a1 t15 _ (st t11 t15 _ _ a.1 (by rw [len1]; omega) a.2 h15).2 (by omega)
  · rintro _ _ t ⟨m, n, rfl, hm, rfl, hmn, hn, e2, et, ht, hf⟩ hc q1 t11 h11 q2 t15 h15
    have l := tl m hm e2
    have a := st t t11 _ _ ht (by omega) hf h11
    exact a2 t15 _ (st t11 t15 _ _ a.1 (by rw [len1]; omega) a.2 h15).1 (by rw [len1, len1]; omega)
  · rintro _ _ t ⟨m, n, rfl, hm, rfl, hmn, hn, e2, et, ht, hf⟩ hc q1 t11 h11 q2 t15 h15 u hu
    have hE : n = 30 ∨ ¬ f n = f m := Or.inl (by omega)
    have l := tl m hm e2
    rw [wd m n hmn hn] at q1
    rw [dd m n hmn hn] at h11
    rw [dm m n hmn hn] at h15
    have a := st t t11 _ _ ht (by omega) hf h11
    have b := st t11 t15 _ _ a.1 (by rw [len1]; omega) a.2 h15
    rw [e7 t15 b.2, tnc] at hu
    have c := st t15 u _ _ b.1 (by rw [len1, len1]; omega) b.2 hu
    rw [List.append_assoc, List.append_assoc] at c
    exact fin m n u hm hmn hn e2 et hE (by rw [r3 m n hmn q1]; exact c.1) c.2
  · rintro _ _ t ⟨m, n, rfl, hm, rfl, hmn, hn, e2, et, ht, hf⟩ hc
    exact a1 t _ hf (by omega)
  · rintro _ _ t ⟨m, n, rfl, hm, rfl, hmn, hn, e2, et, ht, hf⟩ hc
    exact a1 t _ hf (by omega)
  · rintro _ _ t ⟨m, n, rfl, hm, rfl, hmn, hn, e2, et, ht, hf⟩ hc hq q1 q2
    exact a1 t _ hf (by omega)
  · rintro _ _ t ⟨m, n, rfl, hm, rfl, hmn, hn, e2, et, ht, hf⟩ hc hq q1 q2
    have l := tl m hm e2
    exact a2 t _ ht (by omega)
  · rintro _ _ t ⟨m, n, rfl, hm, rfl, hmn, hn, e2, et, ht, hf⟩ hc hq q1 q2 u hu
    have hE : n = 30 ∨ ¬ f n = f m := Or.inr (by rw [e7 t hf, tnc, tnc] at hq; exact hq)
    have l := tl m hm e2
    rw [wd m n hmn hn] at q1 q2
    rw [e7 t hf, tnc] at hu
    have a := st t u _ _ ht (by omega) hf hu
    exact fin m n u hm hmn hn e2 et hE (by rw [r1 m n hmn q1 q2]; exact a.1) a.2
  · rintro _ _ t ⟨m, n, rfl, hm, rfl, hmn, hn, e2, et, ht, hf⟩ hc hq q1 q2
    have l := tl m hm e2
    exact a2 t _ ht (by omega)
  · rintro _ _ t ⟨m, n, rfl, hm, rfl, hmn, hn, e2, et, ht, hf⟩ hc hq q1 q2 t8 h8
    have l := tl m hm e2
    exact a1 t8 _ (st t t8 _ _ ht (by omega) hf h8).2 (by omega)
  · rintro _ _ t ⟨m, n, rfl, hm, rfl, hmn, hn, e2, et, ht, hf⟩ hc hq q1 q2 t8 h8
    have l := tl m hm e2
    exact a2 t8 _ (st t t8 _ _ ht (by omega) hf h8).1 (by rw [len1]; omega)
  · rintro _ _ t ⟨m, n, rfl, hm, rfl, hmn, hn, e2, et, ht, hf⟩ hc hq q1 q2 t8 h8 u hu
    have hE : n = 30 ∨ ¬ f n = f m := Or.inr (by rw [e7 t hf, tnc, tnc] at hq; exact hq)
    have l := tl m hm e2
    rw [wd m n hmn hn] at q1 q2
    rw [dm m n hmn hn] at h8
    have a := st t t8 _ _ ht (by omega) hf h8
    rw [e7 t8 a.2, tnc] at hu
    have b := st t8 u _ _ a.1 (by rw [len1]; omega) a.2 hu
    rw [List.append_assoc] at b
    exact fin m n u hm hmn hn e2 et hE (by rw [r2 m n hmn q1 q2]; exact b.1) b.2
  · rintro _ _ t ⟨m, n, rfl, hm, rfl, hmn, hn, e2, et, ht, hf⟩ hc hq q1
    have l := tl m hm e2
    exact a2 t _ ht (by omega)
  · rintro _ _ t ⟨m, n, rfl, hm, rfl, hmn, hn, e2, et, ht, hf⟩ hc hq q1 t11 h11 q2
    rw [wd m n hmn hn] at q1 q2
    omega
  · rintro _ _ t ⟨m, n, rfl, hm, rfl, hmn, hn, e2, et, ht, hf⟩ hc hq q1 t11 h11 q2
    rw [wd m n hmn hn] at q1 q2
    omega
  · rintro _ _ t ⟨m, n, rfl, hm, rfl, hmn, hn, e2, et, ht, hf⟩ hc hq q1 t11 h11 q2 u hu
    rw [wd m n hmn hn] at q1 q2
    omega
  · rintro _ _ t ⟨m, n, rfl, hm, rfl, hmn, hn, e2, et, ht, hf⟩ hc hq q1 t11 h11 q2
    have l := tl m hm e2
    exact a2 t11 _ (st t t11 _ _ ht (by omega) hf h11).1 (by rw [len1]; omega)
  · rintro _ _ t ⟨m, n, rfl, hm, rfl, hmn, hn, e2, et, ht, hf⟩ hc hq q1 t11 h11 q2 t15 h15
    have l := tl m hm e2
    have a := st t t11 _ _ ht (by omega) hf h11
    exact a1 t15 _ (st t11 t15 _ _ a.1 (by rw [len1]; omega) a.2 h15).2 (by omega)
  · rintro _ _ t ⟨m, n, rfl, hm, rfl, hmn, hn, e2, et, ht, hf⟩ hc hq q1 t11 h11 q2 t15 h15
    have l := tl m hm e2
    have a := st t t11 _ _ ht (by omega) hf h11
    exact a2 t15 _ (st t11 t15 _ _ a.1 (by rw [len1]; omega) a.2 h15).1 (by rw [len1, len1]; omega)
  · rintro _ _ t ⟨m, n, rfl, hm, rfl, hmn, hn, e2, et, ht, hf⟩ hc hq q1 t11 h11 q2 t15 h15 u hu
    have hE : n = 30 ∨ ¬ f n = f m := Or.inr (by rw [e7 t hf, tnc, tnc] at hq; exact hq)
    have l := tl m hm e2
    rw [wd m n hmn hn] at q1
    rw [dd m n hmn hn] at h11
    rw [dm m n hmn hn] at h15
    have a := st t t11 _ _ ht (by omega) hf h11
    have b := st t11 t15 _ _ a.1 (by rw [len1]; omega) a.2 h15
    rw [e7 t15 b.2, tnc] at hu
    have c := st t15 u _ _ b.1 (by rw [len1, len1]; omega) b.2 hu
    rw [List.append_assoc, List.append_assoc] at c
    exact fin m n u hm hmn hn e2 et hE (by rw [r3 m n hmn q1]; exact c.1) c.2
  · rintro _ _ t ⟨m, n, rfl, hm, rfl, hmn, hn, e2, et, ht, hf⟩ hc hq
    rw [e7 t hf, tnc, tnc] at hq
    have hq' : f n = f m := hq
    rw [w32_of (by omega)]
    refine ⟨⟨m, n + 1, rfl, hm, by omega, by omega, by omega, e2, fun _ => ?_, ht, hf⟩, by omega⟩
    rw [show n + 1 - 1 = n by omega]
    rcases Nat.lt_or_eq_of_le hmn with z | z
    · have e1 := et z
      have q := tx_s f (n - 1)
      rw [e1, e2, show n - 1 + 1 = n by omega, if_neg (fun y => y.elim (fun y => by omega) (fun y => y hq'))] at q
      exact q
    · rw [z]
  · refine ⟨0, rfl, by omega, rfl, ⟨by rw [uS_at, if_pos rfl]; rfl, fun i hi => absurd hi (by show ¬ i < 0; omega)⟩, fun b _ g2 => uS_cell g2, fun j hj => by rw [uS_at, if_neg hj], fun j _ => by rw [uS_cell (by decide)]⟩
