/-! extras, resting, ruled -/
theorem os_z {f : Nat → Bool} {n : Nat} (hn : n ≤ 30) : os f n = 0 ↔ fd f n < 0 := by
  rw [fd_neg]
  constructor
  · intro h i hi
    have := os_bq (f := f) (n := n) (by omega) i
    rw [h, bq_0] at this
    simp [hi] at this; exact this
  · intro h
    rw [os_congr (g := fun _ => false) h]; exact os_f n
theorem fd_os {f : Nat → Bool} {n : Nat} (hn : n ≤ 30) : fd (bq (os f n)) 30 = fd f n := by
  by_cases z : fd f n < 0
  · have h1 := (os_z hn).2 z
    have g := fd_ge (f := f) (n := n)
    have h2 : fd (bq (os f n)) 30 < 0 := fd_neg.2 (fun i _ => by rw [h1]; exact bq_0 i)
    have g2 := fd_ge (f := bq (os f n)) (n := 30)
    omega
  · have g := fd_ge (f := f) (n := n)
    have q := fd_spec (f := f) (n := n) (by omega)
    rw [fd_eq (k := (fd f n).toNat) (by omega) (by rw [os_bq (by omega), q.1]; simp; omega) (fun i hi => by rw [os_bq (by omega), q.2 i hi]; simp)]
    omega
theorem cn_ff : ∀ n : Nat, cn (fun _ => false) n = 0
  | 0 => rfl
  | n + 1 => by rw [cn_s, cn_ff n]; rfl
def exV (f : Nat → Bool) (y : Int) : Int := if y = 0 then cn f 6 else if fd f 6 < 0 then -2 else 20 * fd f 6
def exQ (a : Rw) (ag : Rw → Bool) (x y r : Int) : Prop := YN ((0 ≤ x ∧ x < a 4) ∧ (0 ≤ y ∧ y ≤ 1)) (r = exV (fun i => ag (up (anew a) (123 + x.toNat) (20 * (i : Int)))) y) (r = -1)
def rsQ (a : Rw) (ag : Rw → Bool) (x r : Int) : Prop := YN (0 ≤ x ∧ x < a 4) (r = os (fun i => ag (up (anew a) (129 + x.toNat) (1 * (i : Int)))) 4) (r = -1)
def rdQ (a : Rw) (n : Int) (g : Nat → Bool) (y r : Int) : Prop := YN (a 0 = 1 ∧ (0 ≤ y ∧ y ≤ 1)) (r = if y = 0 then cn g (n.toNat + 1) else if fd g (n.toNat + 1) < 0 then -2 else fd g (n.toNat + 1) - 1) (r = -3)
def TDq (s : mSt) : Prop := NTq s 28 ∧ BI s 8 ∧ BI s 18 ∧ (0 < s 18 0 → brow s 8 = anew (brow s 18))
theorem td_of {s : mSt} (h : TDq s) (hd : 0 < s 18 0) : NTq s (7 + 21) ∧ BI s (7 + 1) ∧ ¬ s (7 + 1) 0 = 0 ∧ brow s (7 + 1) 5 ≤ 999 ∧ s (7 + 1) 3 = s 18 3 ∧ brow s (7 + 1) = anew (brow s 18) ∧ ∀ c, c < 6 → ¬ pl (brow s (7 + 1)) c = true := by
  obtain ⟨h1, h2, h3, h4⟩ := h
  have e : brow s (7 + 1) = anew (brow s 18) := h4 hd
  have q := anew_ok h3.1
  refine ⟨h1, h2, ?_, by rw [e, q.2]; decide, ?_, e, fun c hc => ?_⟩
  · rw [bi1 (s := s) (k := 7 + 1), e, anew_o (by omega), ← bi1]; omega
  · rw [bi4 h2, show brow s 8 = anew (brow s 18) from e, anew_o (by omega), ← bi4 h3]
  · rw [e]
    unfold pl anew anK
    rw [if_neg (by omega), if_neg (by omega), if_neg (by omega), if_pos (by omega)]; decide
theorem td_c {s : mSt} (h : TDq s) {x : Int} (hx : 0 ≤ x ∧ x < s 18 3) : 0 < s 18 0 ∧ x < 6 := by
  have hB := h.2.2.1
  have b0 := hB.2.2.2.2.1
  have b1 := hB.2.2.2.2.2
  have h4 := bi_nc hB
  have n6 := nc_le hB.1
  refine ⟨?_, by omega⟩
  by_cases z : s 18 0 = 0
  · have := (b1 z).2.2.1; omega
  · omega
theorem v151 {X : (Nat → Int) × Nat} {d : Nat} {s : mSt} {Q : mQ} {x1 : Int} {x2 : Int}
  (z1 : (0 ≤ x1 ∧ x1 < s 18 3) → x2 < 0 → Q (some (mI (-1))) s)
  (z2 : (0 ≤ x1 ∧ x1 < s 18 3) → ¬ x2 < 0 → x2 ≤ 1 → FCq s)
  (z3 : (0 ≤ x1 ∧ x1 < s 18 3) → ¬ x2 < 0 → x2 ≤ 1 → NTq s (7 + 21) ∧ BI s (7 + 1) ∧ ¬ s (7 + 1) 0 = 0 ∧ oRq s (frC s) ∧ brow s (7 + 1) 5 ≤ 999 ∧ (0 ≤ x1 ∧ x1 < s (7 + 1) 3) ∧ ¬ pl (brow s (7 + 1)) x1.toNat = true)
  (z4 : (0 ≤ x1 ∧ x1 < s 18 3) → ¬ x2 < 0 → x2 ≤ 1 → ∀ v5 : Int, ∀ s5 : mSt, (v5 = os (fun i => agC s (7 + 21) (ruC s (frC s)) (up (brow s (7 + 1)) (123 + x1.toNat) (20 * (i : Int)))) 6 ∧ fW s s5) → ¬ x2 = 0 → ¬ v5 = 0 → 0 < v5 ∧ v5 < 1073741824)
  (z5 : (0 ≤ x1 ∧ x1 < s 18 3) → ¬ x2 < 0 → x2 ≤ 1 → ∀ v5 : Int, ∀ s5 : mSt, (v5 = os (fun i => agC s (7 + 21) (ruC s (frC s)) (up (brow s (7 + 1)) (123 + x1.toNat) (20 * (i : Int)))) 6 ∧ fW s s5) → ¬ x2 = 0 → ¬ v5 = 0 → Q (some (mI (w32 (20 * (fd (bq v5) 30))))) s5)
  (z6 : (0 ≤ x1 ∧ x1 < s 18 3) → ¬ x2 < 0 → x2 ≤ 1 → ∀ v5 : Int, ∀ s5 : mSt, (v5 = os (fun i => agC s (7 + 21) (ruC s (frC s)) (up (brow s (7 + 1)) (123 + x1.toNat) (20 * (i : Int)))) 6 ∧ fW s s5) → ¬ x2 = 0 → v5 = 0 → Q (some (mI (-2))) s5)
  (z7 : (0 ≤ x1 ∧ x1 < s 18 3) → ¬ x2 < 0 → x2 ≤ 1 → ∀ v5 : Int, ∀ s5 : mSt, (v5 = os (fun i => agC s (7 + 21) (ruC s (frC s)) (up (brow s (7 + 1)) (123 + x1.toNat) (20 * (i : Int)))) 6 ∧ fW s s5) → x2 = 0 → 0 ≤ v5 ∧ v5 < 1073741824)
  (z8 : (0 ≤ x1 ∧ x1 < s 18 3) → ¬ x2 < 0 → x2 ≤ 1 → ∀ v5 : Int, ∀ s5 : mSt, (v5 = os (fun i => agC s (7 + 21) (ruC s (frC s)) (up (brow s (7 + 1)) (123 + x1.toNat) (20 * (i : Int)))) 6 ∧ fW s s5) → x2 = 0 → Q (some (mI (cn (bq v5) 30))) s5)
  (z9 : (0 ≤ x1 ∧ x1 < s 18 3) → ¬ x2 < 0 → ¬ x2 ≤ 1 → Q (some (mI (-1))) s)
  (z10 : (¬ (0 ≤ x1 ∧ x1 < s 18 3)) → Q (some (mI (-1))) s) :
  Sp X (d + 13) 151 [mR 0, mI x1, mI x2] s Q := e151 (b151_0 (c8 (bdm rfl) (fun q1 => ⟨1, rfl, b151_11 (fun q => absurd q (by decide)) (fun _ => b151_14 (fun q2 => b151_23 (z1 q1 q2)) (fun q3 => b151_18 (fun q4 => b151_25 (c164 (z2 q1 q3 q4) ⟨_, rfl, b151_37 (c103 (scm rfl) (z3 q1 q3 q4) (fun v5 s5 q5 => ⟨v5, rfl, b151_41 (fun q6 => b151_51 (fun q7 => b151_60 (c310 (z4 q1 q3 q4 v5 s5 q5 q6 q7) ⟨_, rfl, b151_66 (b151_67 (z5 q1 q3 q4 v5 s5 q5 q6 q7))⟩)) (fun q8 => b151_55 (b151_67 (z6 q1 q3 q4 v5 s5 q5 q6 q8)))) (fun q9 => b151_46 (c309 (z7 q1 q3 q4 v5 s5 q5 q9) ⟨_, rfl, b151_50 (z8 q1 q3 q4 v5 s5 q5 q9)⟩))⟩))⟩)) (fun q10 => b151_23 (z9 q1 q3 q10))))⟩) (fun q11 => ⟨0, rfl, b151_11 (fun _ => b151_23 (z10 q11)) (fun q => absurd q (by decide))⟩)))

theorem c151 {X : (Nat → Int) × Nat} {d : Nat} {s : mSt} {Q : mQ} {x1 : Int} {x2 : Int} (p1 : TDq s ∧ FCq s ∧ oRq s (frC s)) (k : ∀ (v : Int) (t : mSt), (exQ (brow s 18) (agC s 28 (ruC s (frC s))) x1 x2 v ∧ fW s t) → Q (some (mI v)) t) : Sp X (d + 13) 151 [mR 0, mI x1, mI x2] s Q := by
  obtain ⟨hT, hF, hO⟩ := p1
  have e4 := bi4 hT.2.2.1
  have no : ¬ ((0 ≤ x1 ∧ x1 < s 18 3) ∧ (0 ≤ x2 ∧ x2 ≤ 1)) → Q (some (mI (-1))) s := fun g => k _ s ⟨YN_n (by rw [← e4]; exact g) rfl, fun _ _ _ => rfl⟩
  have ys : ∀ (r : Int) (t : mSt), (0 ≤ x1 ∧ x1 < s 18 3) → (0 ≤ x2 ∧ x2 ≤ 1) → r = exV (fun i => agC s 28 (ruC s (frC s)) (up (anew (brow s 18)) (123 + x1.toNat) (20 * (i : Int)))) x2 → fW s t → Q (some (mI r)) t := fun r t g1 g2 e ht => k _ t ⟨YN_y ⟨by rw [← e4]; exact g1, g2⟩ e, ht⟩
  have eb : (0 ≤ x1 ∧ x1 < s 18 3) → brow s (7 + 1) = anew (brow s 18) := fun g => (td_of hT (td_c hT g).1).2.2.2.2.2.1
  refine v151 (fun g1 g2 => no (by omega)) (fun _ _ _ => hF) (fun g1 g2 g3 => ?_) (fun g1 g2 g3 v t ht q1 q2 => ?_) (fun g1 g2 g3 v t ht q1 q2 => ?_) (fun g1 g2 g3 v t ht q1 q2 => ?_) (fun g1 g2 g3 v t ht q1 => ?_) (fun g1 g2 g3 v t ht q1 => ?_) (fun g1 g2 g3 => no (by omega)) (fun g1 => no (fun z => g1 z.1))
  · have c := td_c hT g1
    have q := td_of hT c.1
    exact ⟨q.1, q.2.1, q.2.2.1, hO, q.2.2.2.1, by rw [q.2.2.2.2.1]; exact g1, q.2.2.2.2.2.2 _ (by omega)⟩
  · have b := os_30 (f := fun i => agC s (7 + 21) (ruC s (frC s)) (up (brow s (7 + 1)) (123 + x1.toNat) (20 * (i : Int)))) (n := 6) (by decide)
    have := ht.1
    omega
  · rw [eb g1] at ht
    have hv := ht.1
    have z : ¬ fd (fun i => agC s (7 + 21) (ruC s (frC s)) (up (anew (brow s 18)) (123 + x1.toNat) (20 * (i : Int)))) 6 < 0 := fun w => q2 (hv.trans ((os_z (by decide)).2 w))
    have b := fd_ge (f := fun i => agC s (7 + 21) (ruC s (frC s)) (up (anew (brow s 18)) (123 + x1.toNat) (20 * (i : Int)))) (n := 6)
    refine ys _ t g1 (by omega) ?_ ht.2
    rw [hv, fd_os (by decide), w32_of (by omega)]
    unfold exV
    rw [if_neg q1]
    exact (if_neg z).symm
  · rw [eb g1] at ht
    have hv := ht.1
    refine ys _ t g1 (by omega) ?_ ht.2
    unfold exV
    rw [if_neg q1]
    exact (if_pos ((os_z (by decide)).1 (hv.symm.trans q2))).symm
  · rw [ht.1]; exact os_30 (by decide)
  · rw [eb g1] at ht
    refine ys _ t g1 (by omega) ?_ ht.2
    rw [ht.1, cn_os (by decide)]
    unfold exV
    rw [if_pos q1]
theorem v152 {X : (Nat → Int) × Nat} {d : Nat} {s : mSt} {Q : mQ} {x1 : Int}
  (z1 : (0 ≤ x1 ∧ x1 < s 18 3) → FCq s)
  (z2 : (0 ≤ x1 ∧ x1 < s 18 3) → NTq s (7 + 21) ∧ BI s (7 + 1) ∧ ¬ s (7 + 1) 0 = 0 ∧ oRq s (frC s) ∧ brow s (7 + 1) 5 ≤ 999 ∧ (0 ≤ x1 ∧ x1 < s (7 + 1) 3))
  (z3 : (0 ≤ x1 ∧ x1 < s 18 3) → ∀ v2 : Int, ∀ s2 : mSt, (v2 = os (fun i => agC s (7 + 21) (ruC s (frC s)) (up (brow s (7 + 1)) (129 + x1.toNat) (1 * (i : Int)))) 4 ∧ fW s s2) → Q (some (mI v2)) s2)
  (z4 : (¬ (0 ≤ x1 ∧ x1 < s 18 3)) → Q (some (mI (-1))) s) :
  Sp X (d + 13) 152 [mR 0, mI x1] s Q := e152 (b152_0 (c8 (bdm rfl) (fun q1 => ⟨1, rfl, b152_11 (fun _ => b152_16 (c164 (z1 q1) ⟨_, rfl, b152_28 (c104 (scm rfl) (z2 q1) (fun v2 s2 q2 => ⟨v2, rfl, b152_32 (z3 q1 v2 s2 q2)⟩))⟩)) (fun q => absurd q (by decide))⟩) (fun q3 => ⟨0, rfl, b152_11 (fun q => absurd q (by decide)) (fun _ => b152_14 (z4 q3))⟩)))

theorem c152 {X : (Nat → Int) × Nat} {d : Nat} {s : mSt} {Q : mQ} {x1 : Int} (p1 : TDq s ∧ FCq s ∧ oRq s (frC s)) (k : ∀ (v : Int) (t : mSt), (rsQ (brow s 18) (agC s 28 (ruC s (frC s))) x1 v ∧ fW s t) → Q (some (mI v)) t) : Sp X (d + 13) 152 [mR 0, mI x1] s Q := by
  obtain ⟨hT, hF, hO⟩ := p1
  have e4 := bi4 hT.2.2.1
  refine v152 (fun _ => hF) (fun g1 => ?_) (fun g1 v t ht => ?_) (fun g1 => ?_)
  · have c := td_c hT g1
    have q := td_of hT c.1
    exact ⟨q.1, q.2.1, q.2.2.1, hO, q.2.2.2.1, by rw [q.2.2.2.2.1]; exact g1⟩
  · have c := td_c hT g1
    have q := td_of hT c.1
    rw [q.2.2.2.2.2.1] at ht
    exact k _ t ⟨YN_y (by rw [← e4]; exact g1) ht.1, ht.2⟩
  · exact k _ s ⟨YN_n (by rw [← e4]; exact g1) rfl, fun _ _ _ => rfl⟩
def rlQ (s : mSt) : Prop := (0 ≤ s 0 4 ∧ s 0 4 ≤ 6) ∧ (∀ r, r < 6 → s 6 r = ((83 + 4 * r : Nat) : Int)) ∧ ∀ i, i ≤ (s 0 4).toNat → oRq s (rlI i)
theorem v156 {X : (Nat → Int) × Nat} {d : Nat} {s : mSt} {Q : mQ} {x1 : Int}
  (z1 : 0 < s 18 0 → x1 < 0 → Q (some (mI (-3))) s)
  (z2 : 0 < s 18 0 → ¬ x1 < 0 → x1 ≤ 1 → NTq s (7 + 21) ∧ BI s (7 + 1) ∧ ¬ s (7 + 1) 0 = 0 ∧ brow s (7 + 1) 5 ≤ 999 ∧ (0 ≤ (s 0 4) ∧ (s 0 4) ≤ 6) ∧ (∀ r, r < 6 → s 6 r = ((83 + 4 * r : Nat) : Int)) ∧ ∀ i, i ≤ (s 0 4).toNat → oRq s (rlI i))
  (z3 : 0 < s 18 0 → ¬ x1 < 0 → x1 ≤ 1 → ∀ v5 : Int, ∀ s5 : mSt, (v5 = os (fun i => agC s (7 + 21) (ruC s (rlI i)) (brow s (7 + 1))) ((s 0 4).toNat + 1) ∧ fW s s5) → ¬ x1 = 0 → ¬ v5 = 0 → 0 < v5 ∧ v5 < 1073741824)
  (z4 : 0 < s 18 0 → ¬ x1 < 0 → x1 ≤ 1 → ∀ v5 : Int, ∀ s5 : mSt, (v5 = os (fun i => agC s (7 + 21) (ruC s (rlI i)) (brow s (7 + 1))) ((s 0 4).toNat + 1) ∧ fW s s5) → ¬ x1 = 0 → ¬ v5 = 0 → Q (some (mI (w32 ((fd (bq v5) 30) - 1)))) s5)
  (z5 : 0 < s 18 0 → ¬ x1 < 0 → x1 ≤ 1 → ∀ v5 : Int, ∀ s5 : mSt, (v5 = os (fun i => agC s (7 + 21) (ruC s (rlI i)) (brow s (7 + 1))) ((s 0 4).toNat + 1) ∧ fW s s5) → ¬ x1 = 0 → v5 = 0 → Q (some (mI (-2))) s5)
  (z6 : 0 < s 18 0 → ¬ x1 < 0 → x1 ≤ 1 → ∀ v5 : Int, ∀ s5 : mSt, (v5 = os (fun i => agC s (7 + 21) (ruC s (rlI i)) (brow s (7 + 1))) ((s 0 4).toNat + 1) ∧ fW s s5) → x1 = 0 → 0 ≤ v5 ∧ v5 < 1073741824)
  (z7 : 0 < s 18 0 → ¬ x1 < 0 → x1 ≤ 1 → ∀ v5 : Int, ∀ s5 : mSt, (v5 = os (fun i => agC s (7 + 21) (ruC s (rlI i)) (brow s (7 + 1))) ((s 0 4).toNat + 1) ∧ fW s s5) → x1 = 0 → Q (some (mI (cn (bq v5) 30))) s5)
  (z8 : 0 < s 18 0 → ¬ x1 < 0 → ¬ x1 ≤ 1 → Q (some (mI (-3))) s)
  (z9 : ¬ (0 < s 18 0) → Q (some (mI (-3))) s) :
  Sp X (d + 13) 156 [mR 0, mI x1] s Q := e156 (b156_0 (c6 (bdm rfl) (fun q1 => ⟨1, rfl, b156_10 (fun q => absurd q (by decide)) (fun _ => b156_13 (fun q2 => b156_22 (z1 q1 q2)) (fun q3 => b156_17 (fun q4 => b156_25 (c105 (scm rfl) (z2 q1 q3 q4) (fun v5 s5 q5 => ⟨v5, rfl, b156_44 (fun q6 => b156_54 (fun q7 => b156_63 (c310 (z3 q1 q3 q4 v5 s5 q5 q6 q7) ⟨_, rfl, b156_67 (b156_69 (z4 q1 q3 q4 v5 s5 q5 q6 q7))⟩)) (fun q8 => b156_58 (b156_69 (z5 q1 q3 q4 v5 s5 q5 q6 q8)))) (fun q9 => b156_49 (c309 (z6 q1 q3 q4 v5 s5 q5 q9) ⟨_, rfl, b156_53 (z7 q1 q3 q4 v5 s5 q5 q9)⟩))⟩))) (fun q10 => b156_22 (z8 q1 q3 q10))))⟩) (fun q11 => ⟨0, rfl, b156_10 (fun _ => b156_22 (z9 q11)) (fun q => absurd q (by decide))⟩)))

theorem c156 {X : (Nat → Int) × Nat} {d : Nat} {s : mSt} {Q : mQ} {x1 : Int} (p1 : TDq s ∧ rlQ s) (k : ∀ (v : Int) (t : mSt), (rdQ (brow s 18) (s 0 4) (fun i => agC s 28 (ruC s (rlI i)) (anew (brow s 18))) x1 v ∧ fW s t) → Q (some (mI v)) t) : Sp X (d + 13) 156 [mR 0, mI x1] s Q := by
  obtain ⟨hT, hR⟩ := p1
  have hB := hT.2.2.1
  have b0 := hB.2.2.2.2.1
  have e0 := brw_0 (s := s) (k := 18)
  let g : Nat → Bool := fun i => agC s 28 (ruC s (rlI i)) (anew (brow s 18))
  have no : ¬ (0 < s 18 0 ∧ (0 ≤ x1 ∧ x1 ≤ 1)) → Q (some (mI (-3))) s := fun w => k _ s ⟨YN_n (fun z => w ⟨by
    by_cases z0 : s 18 0 = 0
    · rw [if_pos z0] at e0; omega
    · omega, z.2⟩) rfl, fun _ _ _ => rfl⟩
  have ys : ∀ (r : Int) (t : mSt), 0 < s 18 0 → (0 ≤ x1 ∧ x1 ≤ 1) → (r = if x1 = 0 then cn g ((s 0 4).toNat + 1) else if fd g ((s 0 4).toNat + 1) < 0 then -2 else fd g ((s 0 4).toNat + 1) - 1) → fW s t → Q (some (mI r)) t := fun r t g1 g2 e ht => k _ t ⟨YN_y ⟨by rw [if_neg (by omega)] at e0; exact e0, g2⟩ e, ht⟩
  have eb : 0 < s 18 0 → brow s (7 + 1) = anew (brow s 18) := fun g => (td_of hT g).2.2.2.2.2.1
  have n7 : (s 0 4).toNat + 1 ≤ 30 := by have := hR.1; omega
  refine v156 (fun g1 g2 => no (by omega)) (fun g1 g2 g3 => ?_) (fun g1 g2 g3 v t ht q1 q2 => ?_) (fun g1 g2 g3 v t ht q1 q2 => ?_) (fun g1 g2 g3 v t ht q1 q2 => ?_) (fun g1 g2 g3 v t ht q1 => ?_) (fun g1 g2 g3 v t ht q1 => ?_) (fun g1 g2 g3 => no (by omega)) (fun g1 => no (fun z => g1 z.1))
  · have q := td_of hT g1
    exact ⟨q.1, q.2.1, q.2.2.1, q.2.2.2.1, hR⟩
  · rw [eb g1] at ht
    have hv : v = os g ((s 0 4).toNat + 1) := ht.1
    have b := os_30 (f := g) n7
    omega
  · rw [eb g1] at ht
    have hv : v = os g ((s 0 4).toNat + 1) := ht.1
    have z : ¬ fd g ((s 0 4).toNat + 1) < 0 := fun w => q2 (hv.trans ((os_z n7).2 w))
    have b := fd_ge (f := g) (n := (s 0 4).toNat + 1)
    refine ys _ t g1 (by omega) ?_ ht.2
    rw [hv, fd_os n7, w32_of (by omega), if_neg q1, if_neg z]
  · rw [eb g1] at ht
    have hv : v = os g ((s 0 4).toNat + 1) := ht.1
    refine ys _ t g1 (by omega) ?_ ht.2
    rw [if_neg q1, if_pos ((os_z n7).1 (hv.symm.trans q2))]
  · rw [ht.1]; exact os_30 n7
  · rw [eb g1] at ht
    have hv : v = os g ((s 0 4).toNat + 1) := ht.1
    refine ys _ t g1 (by omega) ?_ ht.2
    rw [hv, cn_os n7, if_pos q1]
theorem v301 {X : (Nat → Int) × Nat} {d : Nat} {s : mSt} {Q : mQ} {x1 : Int} {x2 : Int}
  (I45 : Int → Int → mSt → Prop) (m45 : Int → Int → mSt → Nat)
  (z1 : ∀ y3 : Int, ∀ y4 : Int, ∀ s : mSt, I45 y3 y4 s → 6 ≤ y4 → Q (some (mI (-2))) s)
  (z2 : ∀ y3 : Int, ∀ y4 : Int, ∀ s : mSt, I45 y3 y4 s → ¬ 6 ≤ y4 → 0 ≤ y4 ∧ y4 < 32)
  (z3 : ∀ y3 : Int, ∀ y4 : Int, ∀ s : mSt, I45 y3 y4 s → ¬ 6 ≤ y4 → bt y3 y4 → Q (some (mI (w32 (20 * y4)))) s)
  (z4 : ∀ y3 : Int, ∀ y4 : Int, ∀ s : mSt, I45 y3 y4 s → ¬ 6 ≤ y4 → ¬ (bt y3 y4) → I45 y3 (w32 (y4 + 1)) s ∧ m45 y3 (w32 (y4 + 1)) s < m45 y3 y4 s)
  (z5 : (0 ≤ x1 ∧ x1 < s 417 4) → ((0 : Int) ≤ x2 ∧ x2 ≤ (1 : Int)) → Ok (s 417) ∧ FOq s ∧ (123 ≤ (w32 (123 + x1)) ∧ (w32 (123 + x1)) < 135) ∧ (0 ≤ (6 : Int) ∧ (6 : Int) ≤ 6) ∧ ∀ n : Nat, (n : Int) < (6 : Int) → 0 ≤ (20 : Int) * (n : Int) ∧ (20 : Int) * (n : Int) ≤ if (w32 (123 + x1)).toNat < 129 then 100 else 3)
  (z6 : (0 ≤ x1 ∧ x1 < s 417 4) → ((0 : Int) ≤ x2 ∧ x2 ≤ (1 : Int)) → ∀ v7 : Int, ∀ s7 : mSt, (v7 = os (fun n => agN s (ruR s) (up (anew (s 417)) (w32 (123 + x1)).toNat ((20 : Int) * (n : Int)))) (6 : Int).toNat ∧ fX s s7) → ¬ x2 = 0 → I45 v7 0 s7)
  (z7 : (0 ≤ x1 ∧ x1 < s 417 4) → ((0 : Int) ≤ x2 ∧ x2 ≤ (1 : Int)) → ∀ v7 : Int, ∀ s7 : mSt, (v7 = os (fun n => agN s (ruR s) (up (anew (s 417)) (w32 (123 + x1)).toNat ((20 : Int) * (n : Int)))) (6 : Int).toNat ∧ fX s s7) → x2 = 0 → 0 ≤ v7 ∧ v7 < 1073741824)
  (z8 : (0 ≤ x1 ∧ x1 < s 417 4) → ((0 : Int) ≤ x2 ∧ x2 ≤ (1 : Int)) → ∀ v7 : Int, ∀ s7 : mSt, (v7 = os (fun n => agN s (ruR s) (up (anew (s 417)) (w32 (123 + x1)).toNat ((20 : Int) * (n : Int)))) (6 : Int).toNat ∧ fX s s7) → x2 = 0 → Q (some (mI (cn (bq v7) 30))) s7)
  (z9 : (0 ≤ x1 ∧ x1 < s 417 4) → (¬ ((0 : Int) ≤ x2 ∧ x2 ≤ (1 : Int))) → Q (some (mI (-1))) s)
  (z10 : (¬ (0 ≤ x1 ∧ x1 < s 417 4)) → Q (some (mI (-1))) s) :
  Sp X (d + 10) 301 [mR 407, mI x1, mI x2] s Q := by
  have L : ∀ k : Nat, (∀ (y3 : Int) (y4 : Int) (s : mSt), I45 y3 y4 s → m45 y3 y4 s < k → Wp X (d + 10) 301 45 [some (mR 407), some (mI x1), some (mI x2), some (mI y3), some (mI y4)] [] s Q) := by
    intro k
    induction k with
    | zero => exact fun _ _ _ _ h => absurd h (Nat.not_lt_zero _)
    | succ k ih => exact fun y3 y4 s hI hm => b301_45 (fun q1 => b301_73 (z1 y3 y4 s hI q1)) (fun q2 => b301_52 (c168 (z2 y3 y4 s hI q2) (fun q3 => ⟨1, rfl, b301_58 (fun q => absurd q (by decide)) (fun _ => b301_61 (z3 y3 y4 s hI q2 q3))⟩) (fun q4 => ⟨0, rfl, b301_58 (fun _ => b301_67 (ih y3 (w32 (y4 + 1)) s (z4 y3 y4 s hI q2 q4).1 (Nat.lt_of_lt_of_le (z4 y3 y4 s hI q2 q4).2 (Nat.le_of_lt_succ hm)))) (fun q => absurd q (by decide))⟩)))
  exact e301 (b301_0 (c214  (fun q5 => ⟨1, rfl, b301_5 (fun q => absurd q (by decide)) (fun _ => b301_8 (c167  (fun q6 => ⟨1, rfl, b301_15 (fun _ => b301_20 (c300 (z5 q5 q6) (fun v7 s7 q7 => ⟨v7, rfl, b301_32 (fun q8 => b301_42 ((L (m45 v7 0 s7 + 1)) v7 0 s7 (z6 q5 q6 v7 s7 q7 q8) (Nat.lt_succ_self _))) (fun q9 => b301_37 (c169 (z7 q5 q6 v7 s7 q7 q9) ⟨_, rfl, b301_41 (z8 q5 q6 v7 s7 q7 q9)⟩))⟩))) (fun q => absurd q (by decide))⟩) (fun q10 => ⟨0, rfl, b301_15 (fun q => absurd q (by decide)) (fun _ => b301_18 (z9 q5 q10))⟩)))⟩) (fun q11 => ⟨0, rfl, b301_5 (fun _ => b301_18 (z10 q11)) (fun q => absurd q (by decide))⟩)))

theorem c301 {X : (Nat → Int) × Nat} {d : Nat} {s : mSt} {Q : mQ} {x1 : Int} {x2 : Int} (p1 : Ok (s 417) ∧ FOq s) (k : ∀ (v : Int) (t : mSt), (exQ (s 417) (agN s (ruR s)) x1 x2 v ∧ fX s t) → Q (some (mI v)) t) : Sp X (d + 10) 301 [mR 407, mI x1, mI x2] s Q := by
  obtain ⟨h, hF⟩ := p1
  have n6 := ok4 h
  have ew : (0 ≤ x1 ∧ x1 < s 417 4) → (w32 (123 + x1)).toNat = 123 + x1.toNat := fun g => wt (by omega) (by omega)
  let f : Nat → Bool := fun i => agN s (ruR s) (up (anew (s 417)) (123 + x1.toNat) (20 * (i : Int)))
  let G : Prop := (0 ≤ x1 ∧ x1 < s 417 4) ∧ (0 ≤ x2 ∧ x2 ≤ 1)
  have b := os_30 (f := f) (n := 6) (by decide)
  let J : Int → Int → mSt → Prop := fun y3 y4 t => ∃ j : Nat, y4 = j ∧ j ≤ 6 ∧ y3 = os f 6 ∧ G ∧ ¬ x2 = 0 ∧ (∀ i, i < j → f i = false) ∧ fX s t
  refine v301 J (fun _ y _ => (6 - y).toNat) ?_ ?_ ?_ ?_ (fun g1 g2 => ?_) (fun g1 g2 v t ht q => ?_) (fun g1 g2 v t ht q => ?_) (fun g1 g2 v t ht q => ?_) (fun g1 g2 => k _ s ⟨YN_n (fun z => g2 z.2) rfl, fX_rfl s⟩) (fun g1 => k _ s ⟨YN_n (fun z => g1 z.1) rfl, fX_rfl s⟩)
  · rintro _ _ t ⟨j, rfl, hj, rfl, g, hx, ha, ht⟩ hc
    refine k _ t ⟨YN_y g ?_, ht⟩
    unfold exV
    rw [if_neg hx]
    exact (if_pos (fd_neg.2 (fun i hi => ha i (by omega)))).symm
  · rintro _ _ t ⟨j, rfl, hj, rfl, g, hx, ha, ht⟩ hc
    omega
  · rintro _ _ t ⟨j, rfl, hj, rfl, g, hx, ha, ht⟩ hc hb
    have hf : f j = true := by
      have this : bq (os f 6) ((j : Int)).toNat = true := hb
      rw [tnc, os_bq (by decide)] at this
      simp at this; exact this.2
    refine k _ t ⟨YN_y g ?_, ht⟩
    have e : fd f 6 = (j : Int) := fd_eq (by omega) hf ha
    unfold exV
    rw [if_neg hx, w32_of (by omega)]
    show 20 * (j : Int) = if fd f 6 < 0 then -2 else 20 * fd f 6
    rw [e, if_neg (by omega)]
  · rintro _ _ t ⟨j, rfl, hj, rfl, g, hx, ha, ht⟩ hc hb
    have hf : f j = false := by
      apply Bool.eq_false_iff.2
      intro z
      refine hb (show bq (os f 6) ((j : Int)).toNat = true from ?_)
      rw [tnc, os_bq (by decide), z]; simp; omega
    rw [w32_of (by omega)]
    refine ⟨⟨j + 1, by omega, by omega, rfl, g, hx, fun i hi => ?_, ht⟩, by omega⟩
    by_cases z : i = j
    · rw [z]; exact hf
    · exact ha i (by omega)
  · rw [ew g1, w32_of (by omega)]
    refine ⟨h, hF, by omega, by decide, fun n hn => ?_⟩
    rw [if_pos (by omega)]; omega
  · rw [ew g1] at ht
    exact ⟨0, rfl, by omega, ht.1, ⟨g1, g2⟩, q, fun i hi => by omega, ht.2⟩
  · rw [ht.1]; exact os_30 (by decide)
  · rw [ew g1] at ht
    refine k _ t ⟨YN_y ⟨g1, g2⟩ ?_, ht.2⟩
    unfold exV
    rw [if_pos q, ht.1]; exact cn_os (by decide)
theorem v302 {X : (Nat → Int) × Nat} {d : Nat} {s : mSt} {Q : mQ} {x1 : Int}
  (z1 : (0 ≤ x1 ∧ x1 < s 417 4) → Ok (s 417) ∧ FOq s ∧ (123 ≤ (w32 (129 + x1)) ∧ (w32 (129 + x1)) < 135) ∧ (0 ≤ (4 : Int) ∧ (4 : Int) ≤ 6) ∧ ∀ n : Nat, (n : Int) < (4 : Int) → 0 ≤ (1 : Int) * (n : Int) ∧ (1 : Int) * (n : Int) ≤ if (w32 (129 + x1)).toNat < 129 then 100 else 3)
  (z2 : (0 ≤ x1 ∧ x1 < s 417 4) → ∀ v2 : Int, ∀ s2 : mSt, (v2 = os (fun n => agN s (ruR s) (up (anew (s 417)) (w32 (129 + x1)).toNat ((1 : Int) * (n : Int)))) (4 : Int).toNat ∧ fX s s2) → Q (some (mI v2)) s2)
  (z3 : (¬ (0 ≤ x1 ∧ x1 < s 417 4)) → Q (some (mI (-1))) s) :
  Sp X (d + 10) 302 [mR 407, mI x1] s Q := e302 (b302_0 (c214  (fun q1 => ⟨1, rfl, b302_5 (fun q => absurd q (by decide)) (fun _ => b302_8 (c300 (z1 q1) (fun v2 s2 q2 => ⟨v2, rfl, b302_19 (b302_23 (z2 q1 v2 s2 q2))⟩)))⟩) (fun q3 => ⟨0, rfl, b302_5 (fun _ => b302_22 (b302_23 (z3 q3))) (fun q => absurd q (by decide))⟩)))

theorem c302 {X : (Nat → Int) × Nat} {d : Nat} {s : mSt} {Q : mQ} {x1 : Int} (p1 : Ok (s 417) ∧ FOq s) (k : ∀ (v : Int) (t : mSt), (rsQ (s 417) (agN s (ruR s)) x1 v ∧ fX s t) → Q (some (mI v)) t) : Sp X (d + 10) 302 [mR 407, mI x1] s Q := by
  obtain ⟨h, hF⟩ := p1
  have n6 := ok4 h
  have ew : (0 ≤ x1 ∧ x1 < s 417 4) → (w32 (129 + x1)).toNat = 129 + x1.toNat := fun g => wt (by omega) (by omega)
  refine v302 (fun g1 => ?_) (fun g1 v t ht => ?_) (fun g1 => k _ s ⟨YN_n g1 rfl, fX_rfl s⟩)
  · rw [ew g1, w32_of (by omega)]
    refine ⟨h, hF, by omega, by decide, fun n hn => ?_⟩
    rw [if_neg (by omega)]; omega
  · rw [ew g1] at ht
    exact k _ t ⟨YN_y g1 ht.1, ht.2⟩
theorem v297 {X : (Nat → Int) × Nat} {d : Nat} {s : mSt} {Q : mQ} {x1 : Int}
  (I36 : Int → Int → Int → mSt → Prop) (m36 : Int → Int → Int → mSt → Nat)
  (z1 : ∀ y2 : Int, ∀ y3 : Int, ∀ y4 : Int, ∀ s : mSt, I36 y2 y3 y4 s → y4 < 0 → ¬ x1 = 0 → Q (some (mI y3)) s)
  (z2 : ∀ y2 : Int, ∀ y3 : Int, ∀ y4 : Int, ∀ s : mSt, I36 y2 y3 y4 s → y4 < 0 → x1 = 0 → Q (some (mI y2)) s)
  (z3 : ∀ y2 : Int, ∀ y3 : Int, ∀ y4 : Int, ∀ s : mSt, I36 y2 y3 y4 s → ¬ y4 < 0 → 0 ≤ y4 ∧ y4 < 7)
  (z4 : ∀ y2 : Int, ∀ y3 : Int, ∀ y4 : Int, ∀ s : mSt, I36 y2 y3 y4 s → ¬ y4 < 0 → ¬ (s 434 y4.toNat) = 0 → I36 (w32 (y2 + 1)) (w32 (y4 - 1)) (w32 (y4 + (-1))) s ∧ m36 (w32 (y2 + 1)) (w32 (y4 - 1)) (w32 (y4 + (-1))) s < m36 y2 y3 y4 s)
  (z5 : ∀ y2 : Int, ∀ y3 : Int, ∀ y4 : Int, ∀ s : mSt, I36 y2 y3 y4 s → ¬ y4 < 0 → (s 434 y4.toNat) = 0 → I36 y2 y3 (w32 (y4 + (-1))) s ∧ m36 y2 y3 (w32 (y4 + (-1))) s < m36 y2 y3 y4 s)
  (z6 : s 417 0 = 1 → ((0 : Int) ≤ x1 ∧ x1 ≤ (1 : Int)) → Ok (s 417) ∧ RLq s)
  (z7 : s 417 0 = 1 → ((0 : Int) ≤ x1 ∧ x1 ≤ (1 : Int)) → ∀ s9 : mSt, ((∀ i : Nat, (i : Int) ≤ s 407 2 → s9 434 i = (if fitN s i = true then 1 else 0) ∧ (0 ≤ (0 : Int) ∧ (0 : Int) < 10 → ∀ j, j < 30 → s9 435 (30 * i + j) = fre (stN (ruN s i) ((0 : Int).toNat + 1) (anew (s 417))) j)) ∧ fY s s9) → I36 0 (-2) (s9 407 2) s9)
  (z8 : s 417 0 = 1 → (¬ ((0 : Int) ≤ x1 ∧ x1 ≤ (1 : Int))) → Q (some (mI (-3))) s)
  (z9 : ¬ (s 417 0 = 1) → Q (some (mI (-3))) s) :
  Sp X (d + 10) 297 [mR 407, mI x1] s Q := by
  have L : ∀ k : Nat, (∀ (y2 : Int) (y3 : Int) (y4 : Int) (s : mSt), I36 y2 y3 y4 s → m36 y2 y3 y4 s < k → Wp X (d + 10) 297 36 [some (mR 407), some (mI x1), some (mI y2), some (mI y3), some (mI y4)] [] s Q) := by
    intro k
    induction k with
    | zero => exact fun _ _ _ _ _ h => absurd h (Nat.not_lt_zero _)
    | succ k ih => exact fun y2 y3 y4 s hI hm => b297_36 (fun q1 => b297_68 (fun q2 => b297_76 (b297_77 (z1 y2 y3 y4 s hI q1 q2))) (fun q3 => b297_72 (b297_77 (z2 y2 y3 y4 s hI q1 q3)))) (fun q4 => b297_41 (z3 y2 y3 y4 s hI q4) (fun q5 => b297_54 (b297_62 (ih (w32 (y2 + 1)) (w32 (y4 - 1)) (w32 (y4 + (-1))) s (z4 y2 y3 y4 s hI q4 q5).1 (Nat.lt_of_lt_of_le (z4 y2 y3 y4 s hI q4 q5).2 (Nat.le_of_lt_succ hm))))) (fun q6 => b297_51 (b297_62 (ih y2 y3 (w32 (y4 + (-1))) s (z5 y2 y3 y4 s hI q4 q6).1 (Nat.lt_of_lt_of_le (z5 y2 y3 y4 s hI q4 q6).2 (Nat.le_of_lt_succ hm))))))
  exact e297 (b297_0 (c212  (fun q7 => ⟨1, rfl, b297_4 (fun q => absurd q (by decide)) (fun _ => b297_7 (c167  (fun q8 => ⟨1, rfl, b297_14 (fun _ => b297_20 (c296 (z6 q7 q8) (fun s9 q9 => ⟨rfl, b297_25 ((L (m36 0 (-2) (s9 407 2) s9 + 1)) 0 (-2) (s9 407 2) s9 (z7 q7 q8 s9 q9) (Nat.lt_succ_self _))⟩))) (fun q => absurd q (by decide))⟩) (fun q10 => ⟨0, rfl, b297_14 (fun q => absurd q (by decide)) (fun _ => b297_17 (z8 q7 q10))⟩)))⟩) (fun q11 => ⟨0, rfl, b297_4 (fun _ => b297_17 (z9 q11)) (fun q => absurd q (by decide))⟩)))

theorem c297 {X : (Nat → Int) × Nat} {d : Nat} {s : mSt} {Q : mQ} {x1 : Int} (p1 : Ok (s 417) ∧ RLq s) (k : ∀ (v : Int) (t : mSt), (rdQ (s 417) (s 407 2) (fitN s) x1 v ∧ fY s t) → Q (some (mI v)) t) : Sp X (d + 10) 297 [mR 407, mI x1] s Q := by
  obtain ⟨h, hR⟩ := p1
  have h2 := hR.1
  let n : Nat := (s 407 2).toNat + 1
  have hn : n = (s 407 2).toNat + 1 := rfl
  let g : Nat → Bool := fitN s
  let D : Int → Nat → Bool := fun k i => decide (k < (i : Int)) && g i
  have hD : ∀ (k : Int) (i : Nat), D k i = true ↔ k < (i : Int) ∧ g i = true := fun k i => by show (decide (k < (i : Int)) && g i) = true ↔ _; simp
  let G : Prop := s 417 0 = 1 ∧ (0 ≤ x1 ∧ x1 ≤ 1)
  let W : Int → Int := fun k => if fd (D k) n < 0 then -2 else fd (D k) n - 1
  let J : Int → Int → Int → mSt → Prop := fun y2 y3 y4 t => G ∧ (-1 ≤ y4 ∧ y4 ≤ s 407 2) ∧ y2 = cn (D y4) n ∧ y3 = W y4 ∧ (∀ i : Nat, (i : Int) ≤ s 407 2 → t 434 i = (if g i = true then 1 else 0)) ∧ fY s t
  have Dm : ∀ i, i < n → D (-1) i = g i := fun i _ => by
    have : decide ((-1 : Int) < (i : Int)) = true := by simp; omega
    show (decide ((-1 : Int) < (i : Int)) && g i) = g i
    rw [this, Bool.true_and]
  have W1 : W (-1) = if fd g n < 0 then -2 else fd g n - 1 := by
    show (if fd (D (-1)) n < 0 then -2 else fd (D (-1)) n - 1) = _
    rw [fd_congr Dm]
  refine v297 J (fun _ _ y _ => (y + 1).toNat) ?_ ?_ ?_ ?_ ?_ (fun _ _ => ⟨h, hR⟩) (fun g1 g2 t ht => ?_) (fun g1 g2 => k _ s ⟨YN_n (fun z => g2 z.2) rfl, ⟨fun _ _ => rfl, fun _ _ => rfl⟩⟩) (fun g1 => k _ s ⟨YN_n (fun z => g1 z.1) rfl, ⟨fun _ _ => rfl, fun _ _ => rfl⟩⟩)
  · rintro _ _ y4 t ⟨gg, hy, rfl, rfl, hv, ht⟩ hc hx
    have : y4 = -1 := by omega
    subst this
    exact k _ t ⟨YN_y gg (by rw [if_neg hx, W1]), ht⟩
  · rintro _ _ y4 t ⟨gg, hy, rfl, rfl, hv, ht⟩ hc hx
    have : y4 = -1 := by omega
    subst this
    exact k _ t ⟨YN_y gg (by rw [if_pos hx, cn_congr Dm]), ht⟩
  · rintro _ _ y4 t ⟨gg, hy, rfl, rfl, hv, ht⟩ hc
    omega
  · rintro _ _ y4 t ⟨gg, hy, rfl, rfl, hv, ht⟩ hc hz
    obtain ⟨j, rfl⟩ : ∃ j : Nat, y4 = j := ⟨y4.toNat, by omega⟩
    rw [tnc, hv j (by omega)] at hz
    have hg : g j = true := by
      by_cases z : g j = true
      · exact z
      · rw [if_neg z] at hz; exact absurd rfl hz
    have bc := cn_le (f := D (j : Int)) (n := n)
    have c1 : cn (D ((j : Int) + -1)) n = cn (D (j : Int)) n + 1 := by
      rw [cn_up (f := D (j : Int)) (f' := D ((j : Int) + -1)) (h := true) (j := j) (by omega) (Bool.eq_false_iff.2 (fun z => by have := ((hD _ _).1 z).1; omega)) ((hD _ _).2 ⟨by omega, hg⟩) (fun p hp => ?_), if_pos rfl]
      rw [Bool.eq_iff_iff, hD, hD]
      constructor
      · rintro ⟨z1, z2⟩; exact ⟨by omega, z2⟩
      · rintro ⟨z1, z2⟩; exact ⟨by omega, z2⟩
    have c2 : fd (D ((j : Int) + -1)) n = (j : Int) := fd_eq (by omega) ((hD _ _).2 ⟨by omega, hg⟩) (fun i hi => Bool.eq_false_iff.2 (fun z => by have := ((hD _ _).1 z).1; omega))
    rw [w32_of (x := (j : Int) + -1) (by omega), w32_of (x := (j : Int) - 1) (by omega), w32_of (by omega)]
    refine ⟨⟨gg, by omega, c1.symm, ?_, hv, ht⟩, by omega⟩
    show (j : Int) - 1 = if fd (D ((j : Int) + -1)) n < 0 then -2 else fd (D ((j : Int) + -1)) n - 1
    rw [c2, if_neg (by omega)]
  · rintro _ _ y4 t ⟨gg, hy, rfl, rfl, hv, ht⟩ hc hz
    obtain ⟨j, rfl⟩ : ∃ j : Nat, y4 = j := ⟨y4.toNat, by omega⟩
    rw [tnc, hv j (by omega)] at hz
    have hg : ¬ g j = true := fun z => by rw [if_pos z] at hz; exact absurd hz (by decide)
    have c0 : D ((j : Int) + -1) = D (j : Int) := by
      funext i
      rw [Bool.eq_iff_iff, hD, hD]
      constructor
      · rintro ⟨z1, z2⟩
        refine ⟨?_, z2⟩
        by_cases z : i = j
        · rw [z] at z2; exact absurd z2 hg
        · omega
      · rintro ⟨z1, z2⟩; exact ⟨by omega, z2⟩
    rw [w32_of (x := (j : Int) + -1) (by omega)]
    refine ⟨⟨gg, by omega, by rw [c0], ?_, hv, ht⟩, by omega⟩
    show (if fd (D (j : Int)) n < 0 then -2 else fd (D (j : Int)) n - 1) = if fd (D ((j : Int) + -1)) n < 0 then -2 else fd (D ((j : Int) + -1)) n - 1
    rw [c0]
  · have e2 : t 407 2 = s 407 2 := ht.2.2 2 (by decide)
    rw [e2]
    have z0 : ∀ i, i < n → D (s 407 2) i = false := fun i hi => Bool.eq_false_iff.2 (fun z => by have := ((hD _ _).1 z).1; omega)
    refine ⟨⟨g1, g2⟩, by omega, ?_, ?_, fun i hi => (ht.1 i hi).1, ht.2⟩
    · rw [cn_congr (g := fun _ => false) z0]; exact (cn_ff n).symm
    · show -2 = if fd (D (s 407 2)) n < 0 then -2 else fd (D (s 407 2)) n - 1
      rw [if_pos (fd_neg.2 z0)]
