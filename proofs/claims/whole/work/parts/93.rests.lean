/-! rests of two that wait -/
theorem pf_e {a : Rw} {c : Nat} (h : Ok a) (hc : c < 6) (o : List Nat) : ∀ (st q : St), pf a c o st = some q → (∀ p ∈ o, p < 5) → (0 ≤ st.2.1 ∧ st.2.1 ≤ 30) → 0 ≤ q.2.1 ∧ q.2.1 ≤ 30 := by
  induction o with
  | nil =>
    intro st q e _ hs
    simp only [pf, Option.some.injEq] at e
    subst e; exact hs
  | cons r o ih =>
    intro st q e hp hs
    rw [pf] at e
    by_cases hz : lsA a c r st.1 st.2.1 st.2.2.1 < 0
    · rw [if_pos hz] at e; exact absurd e (by simp)
    · rw [if_neg hz] at e
      refine ih (nxS a c r st) q e (fun p h' => hp p (List.mem_cons_of_mem _ h')) ?_
      have ft := (ls_ft (Int.not_lt.1 hz)).1
      have tb := tm_bd h hc (hp r List.mem_cons_self)
      unfold ftA at ft
      rw [Bool.and_eq_true, Bool.and_eq_true, decide_eq_true_eq, decide_eq_true_eq] at ft
      have f2 := ft.2.1
      have e2 : (nxS a c r st).2.1 = lsA a c r st.1 st.2.1 st.2.2.1 + tm a c r := rfl
      rw [e2]
      omega
theorem fold_e {a : Rw} {c m : Nat} (h : Ok a) (hc : c < 6) (hm : m < 32) : ∀ (L : List (List Nat)) (b : Bt), (∀ o ∈ L, o ∈ ords 5 m) → (b.1 ≠ 0 → 0 ≤ b.2.2.2.1 ∧ b.2.2.2.1 ≤ 30) → 0 ≤ b.1 → ((L.foldl (stp a c m ini) b).1 ≠ 0 → 0 ≤ (L.foldl (stp a c m ini) b).2.2.2.1 ∧ (L.foldl (stp a c m ini) b).2.2.2.1 ≤ 30)
  | [], b, _, hb, _ => hb
  | o :: L, b, hL, hb, h0 => by
    rw [List.foldl_cons]
    refine fold_e h hc hm L _ (fun o ho => hL o (List.mem_cons_of_mem _ ho)) ?_ (by have := stp_w a c m ini b o; omega)
    have ho := hL o List.mem_cons_self
    unfold stp
    cases hpf : pf a c o ini with
    | none => exact hb
    | some q =>
      dsimp only
      unfold wgB
      split
      · intro _
        exact pf_e h hc o ini q hpf (ord_lt hm o ho) (by decide)
      · next hbt =>
        intro _
        refine hb (fun z => hbt ?_)
        unfold bet; simp [z]
theorem pA1_e {a : Rw} {c : Nat} (h : Ok a) (hc : c < nc a) (hz : (pA1 a c).1 ≠ 0) : 0 ≤ (pA1 a c).2.2.2.1 ∧ (pA1 a c).2.2.2.1 ≤ 30 := by
  have n6 := nc_le h
  exact fold_e h (by omega) (sM_b h hc).1.2 _ _ (fun _ ho => ho) (fun z => absurd rfl z) (Int.le_refl 0) hz
def gnV (a : Rw) (c : Nat) : Int := if 0 < (pA1 a c).1 then 30 - (pA1 a c).2.2.2.1 + 2 * a (129 + c) else 0
def gnR (a : Rw) (c : Nat) : Rw := if 0 < (pA1 a c).1 then lyR a c (pA1 a c).2.2.2.2 else a
theorem gnR_ok {a : Rw} {c : Nat} (h : Ok a) (hc : c < nc a) : Ok (gnR a c) := by
  have n6 := nc_le h
  unfold gnR
  split
  · exact lay_ok h (by omega) (GP_bd (plB_g (sM_b h hc).1.2 (by show (pA1 a c).1 ≠ 0; omega)))
  · exact h
theorem gnR_o {a : Rw} {c j : Nat} (h : Ok a) (hc : c < nc a) (hj : j < 41 ∨ 77 ≤ j) : gnR a c j = a j := by
  have n6 := nc_le h
  have n5 := np_le h
  unfold gnR
  split
  · exact lyR_o n5 (by omega) hj
  · rfl
theorem gnR_w {a : Rw} {c i : Nat} (hi : i < 6) (hn : i ≠ c) : pl (gnR a c) i = pl a i := by
  unfold gnR pl
  split
  · rw [lyR_W hi, if_neg hn]
  · rfl
theorem v111 {X : (Nat → Int) × Nat} {d : Nat} {s : mSt} {Q : mQ} {x1 : Int}
  (z1 : BI s 54)
  (z2 : ∀ s1 : mSt, (((0 ≤ x1 ∧ x1 < s 54 3) ∧ ¬ pl (brow s 54) x1.toNat = true) ∧ 0 < (pA1 (brow s 54) x1.toNat).1 ∧ BI s1 54 ∧ brow s1 54 = lyR (brow s 54) x1.toNat (pA1 (brow s 54) x1.toNat).2.2.2.2 ∧ PB s1 (brow s 54) x1.toNat (sM (brow s 54) x1.toNat) (pA1 (brow s 54) x1.toNat) ∧ fBP s s1 54) → 0 ≤ x1 ∧ x1 < 6)
  (z3 : ∀ s1 : mSt, (((0 ≤ x1 ∧ x1 < s 54 3) ∧ ¬ pl (brow s 54) x1.toNat = true) ∧ 0 < (pA1 (brow s 54) x1.toNat).1 ∧ BI s1 54 ∧ brow s1 54 = lyR (brow s 54) x1.toNat (pA1 (brow s 54) x1.toNat).2.2.2.2 ∧ PB s1 (brow s 54) x1.toNat (sM (brow s 54) x1.toNat) (pA1 (brow s 54) x1.toNat) ∧ fBP s s1 54) → Q (some (mI (w32 ((w32 (30 - (s1 44 10))) + (w32 (2 * (s1 59 x1.toNat))))))) s1)
  (z4 : ∀ s2 : mSt, (¬ (((0 ≤ x1 ∧ x1 < s 54 3) ∧ ¬ pl (brow s 54) x1.toNat = true) ∧ 0 < (pA1 (brow s 54) x1.toNat).1) ∧ BI s2 54 ∧ brow s2 54 = brow s 54 ∧ fP s s2) → Q (some (mI 0)) s2) :
  Sp X (d + 10) 111 [mR 53, mI x1] s Q := e111 (b111_0 (c60 (bdm rfl) z1 (fun s1 q1 => ⟨1, rfl, b111_12 (fun q => absurd q (by decide)) (fun _ => b111_15 (z2 s1 q1) (b111_41 (z3 s1 q1)))⟩) (fun s2 q2 => ⟨0, rfl, b111_12 (fun _ => b111_40 (b111_41 (z4 s2 q2))) (fun q => absurd q (by decide))⟩)))

theorem c111 {X : (Nat → Int) × Nat} {d : Nat} {s : mSt} {Q : mQ} {x1 : Int} (p1 : BI s 54 ∧ (0 ≤ x1 ∧ x1 < s 54 3) ∧ ¬ pl (brow s 54) x1.toNat = true) (k : ∀ (v : Int) (t : mSt), (v = gnV (brow s 54) x1.toNat ∧ BI t 54 ∧ brow t 54 = gnR (brow s 54) x1.toNat ∧ fBP s t 54) → Q (some (mI v)) t) : Sp X (d + 10) 111 [mR 53, mI x1] s Q := by
  obtain ⟨hB, hx, hw⟩ := p1
  have h4 := bi_nc hB
  have n6 := nc_le hB.1
  have n5 := np_le hB.1
  refine v111 hB (fun t ht => by omega) (fun t ht => ?_) (fun t ht => ?_)
  · obtain ⟨_, hp, hb, e, hP, hf⟩ := ht
    have en := pA1_e hB.1 (c := x1.toNat) (by omega) (by omega)
    have r0 := okRe hB.1 (p := x1.toNat) (by omega)
    have e4 : nc (brow t 54) = nc (brow s 54) := by unfold nc; rw [e, lyR_o n5 (by omega) (by omega)]
    have e59 : t 59 x1.toNat = brow s 54 (129 + x1.toNat) := by
      have := biR hb (c := x1.toNat) (by omega)
      rw [e, lyR_o n5 (by omega) (by omega)] at this
      exact this
    have e10 : t 44 10 = (pA1 (brow s 54) x1.toNat).2.2.2.1 := (hP.2.2 (by omega)).1.2.2.2.1
    rw [e59, e10, w32_of (x := 30 - _) (by omega), w32_of (x := 2 * _) (by omega), w32_of (by omega)]
    refine k _ t ⟨?_, hb, ?_, hf⟩
    · unfold gnV; rw [if_pos hp]
    · unfold gnR; rw [if_pos hp]; exact e
  · obtain ⟨hz, hb, e, hf⟩ := ht
    have hp : ¬ 0 < (pA1 (brow s 54) x1.toNat).1 := fun z => hz ⟨⟨hx, hw⟩, z⟩
    refine k _ t ⟨?_, hb, ?_, fun x _ h2 => hf x h2⟩
    · unfold gnV; rw [if_neg hp]
    · unfold gnR; rw [if_neg hp]; exact e
theorem v289 {X : (Nat → Int) × Nat} {d : Nat} {s : mSt} {Q : mQ} {x1 : Int}
  (z1 : Ok (s 417) ∧ (0 ≤ x1 ∧ x1 < s 417 4))
  (z2 : ∀ s1 : mSt, (0 < (pA1 (s 417) x1.toNat).1 ∧ s1 417 = lyR (s 417) x1.toNat (pA1 (s 417) x1.toNat).2.2.2.2 ∧ PQ s1 (np (s 417)) (pA1 (s 417) x1.toNat) ∧ fL s s1) → 0 ≤ (w32 (129 + x1)) ∧ (w32 (129 + x1)) < 166)
  (z3 : ∀ s1 : mSt, (0 < (pA1 (s 417) x1.toNat).1 ∧ s1 417 = lyR (s 417) x1.toNat (pA1 (s 417) x1.toNat).2.2.2.2 ∧ PQ s1 (np (s 417)) (pA1 (s 417) x1.toNat) ∧ fL s s1) → Q (some (mI (w32 ((w32 (30 - (s1 407 31))) + (w32 (2 * (s1 417 (w32 (129 + x1)).toNat))))))) s1)
  (z4 : ∀ s2 : mSt, ((pA1 (s 417) x1.toNat).1 = 0 ∧ s2 417 = s 417 ∧ fL s s2) → Q (some (mI 0)) s2) :
  Sp X (d + 7) 289 [mR 407, mI x1] s Q := e289 (b289_0 (c245 z1 (fun s1 q1 => ⟨1, rfl, b289_5 (fun q => absurd q (by decide)) (fun _ => b289_8 (z2 s1 q1) (b289_32 (z3 s1 q1)))⟩) (fun s2 q2 => ⟨0, rfl, b289_5 (fun _ => b289_31 (b289_32 (z4 s2 q2))) (fun q => absurd q (by decide))⟩)))

theorem c289 {X : (Nat → Int) × Nat} {d : Nat} {s : mSt} {Q : mQ} {x1 : Int} (p1 : Ok (s 417) ∧ (0 ≤ x1 ∧ x1 < s 417 4)) (k : ∀ (v : Int) (t : mSt), (v = gnV (s 417) x1.toNat ∧ t 417 = gnR (s 417) x1.toNat ∧ fL s t) → Q (some (mI v)) t) : Sp X (d + 7) 289 [mR 407, mI x1] s Q := by
  obtain ⟨h, hx⟩ := p1
  have h4 := ncI h
  have n6 := nc_le h
  have n5 := np_le h
  have e9 : (w32 (129 + x1)).toNat = 129 + x1.toNat := wt (by omega) (by omega)
  refine v289 ⟨h, hx⟩ (fun t ht => ?_) (fun t ht => ?_) (fun t ht => ?_)
  · rw [w32_of (by omega)]; omega
  · obtain ⟨hp, e, hP, hf⟩ := ht
    have en := pA1_e h (c := x1.toNat) (by omega) (by omega)
    have r0 := okRe h (p := x1.toNat) (by omega)
    have e10 : t 407 31 = (pA1 (s 417) x1.toNat).2.2.2.1 := (hP.2.1 (by omega)).2.2
    rw [e9, e10, e, lyR_o n5 (by omega) (by omega), w32_of (x := 30 - _) (by omega), w32_of (x := 2 * _) (by omega), w32_of (by omega)]
    refine k _ t ⟨?_, ?_, hf⟩
    · unfold gnV; rw [if_pos hp]
    · unfold gnR; rw [if_pos hp]; exact e
  · obtain ⟨hz, e, hf⟩ := ht
    refine k _ t ⟨?_, ?_, hf⟩
    · unfold gnV; rw [if_neg (by omega)]
    · unfold gnR; rw [if_neg (by omega)]; exact e
/-- neither would have more by another one -/
def stB (o1 o2 : Nat → Int) (n : Nat) : Bool := !an (fun i => decide (o1 n < o1 (4 * i + n % 4)) || decide (o2 n < o2 (4 * (n / 4) + i))) 4
theorem stB_iff {o1 o2 : Nat → Int} {n : Nat} : stB o1 o2 n = true ↔ ∀ i, i < 4 → ¬ o1 n < o1 (4 * i + n % 4) ∧ ¬ o2 n < o2 (4 * (n / 4) + i) := by
  unfold stB
  rw [Bool.not_eq_true', an_false]
  constructor
  · intro h i hi
    have := h i hi
    rw [Bool.or_eq_false_iff, decide_eq_false_iff_not, decide_eq_false_iff_not] at this; exact this
  · intro h i hi
    have := h i hi
    rw [Bool.or_eq_false_iff, decide_eq_false_iff_not, decide_eq_false_iff_not]; exact this
theorem stB_congr {o1 o2 p1 p2 : Nat → Int} {n : Nat} (hn : n < 16) (h1 : ∀ i, i < 16 → o1 i = p1 i) (h2 : ∀ i, i < 16 → o2 i = p2 i) : stB o1 o2 n = stB p1 p2 n := by
  unfold stB
  congr 1
  refine an_congr (fun i hi => ?_)
  rw [h1 n hn, h2 n hn, h1 _ (by omega), h2 _ (by omega)]
theorem v112 {X : (Nat → Int) × Nat} {d : Nat} {s : mSt} {Q : mQ} {x1 : Int}
  (I11 : Int → Int → Int → Prop) (m11 : Int → Int → Int → Nat)
  (z1 : ∀ y2 : Int, ∀ y3 : Int, ∀ y4 : Int, I11 y2 y3 y4 → 4 ≤ y4 → Q (some (mI 1)) s)
  (z2 : ∀ y2 : Int, ∀ y3 : Int, ∀ y4 : Int, I11 y2 y3 y4 → ¬ 4 ≤ y4 → 0 ≤ (w32 ((w32 (y4 * 4)) + y3)) ∧ (w32 ((w32 (y4 * 4)) + y3)) < 16)
  (z3 : ∀ y2 : Int, ∀ y3 : Int, ∀ y4 : Int, I11 y2 y3 y4 → ¬ 4 ≤ y4 → 0 ≤ x1 ∧ x1 < 16)
  (z4 : ∀ y2 : Int, ∀ y3 : Int, ∀ y4 : Int, I11 y2 y3 y4 → ¬ 4 ≤ y4 → (s 66 x1.toNat) < (s 66 (w32 ((w32 (y4 * 4)) + y3)).toNat) → Q (some (mI 0)) s)
  (z5 : ∀ y2 : Int, ∀ y3 : Int, ∀ y4 : Int, I11 y2 y3 y4 → ¬ 4 ≤ y4 → ¬ (s 66 x1.toNat) < (s 66 (w32 ((w32 (y4 * 4)) + y3)).toNat) → 0 ≤ (w32 ((w32 (y2 * 4)) + y4)) ∧ (w32 ((w32 (y2 * 4)) + y4)) < 16)
  (z6 : ∀ y2 : Int, ∀ y3 : Int, ∀ y4 : Int, I11 y2 y3 y4 → ¬ 4 ≤ y4 → ¬ (s 66 x1.toNat) < (s 66 (w32 ((w32 (y4 * 4)) + y3)).toNat) → 0 ≤ x1 ∧ x1 < 16)
  (z7 : ∀ y2 : Int, ∀ y3 : Int, ∀ y4 : Int, I11 y2 y3 y4 → ¬ 4 ≤ y4 → ¬ (s 66 x1.toNat) < (s 66 (w32 ((w32 (y4 * 4)) + y3)).toNat) → (s 67 (w32 ((w32 (y2 * 4)) + y4)).toNat) ≤ (s 67 x1.toNat) → I11 y2 y3 (w32 (y4 + 1)) ∧ m11 y2 y3 (w32 (y4 + 1)) < m11 y2 y3 y4)
  (z8 : ∀ y2 : Int, ∀ y3 : Int, ∀ y4 : Int, I11 y2 y3 y4 → ¬ 4 ≤ y4 → ¬ (s 66 x1.toNat) < (s 66 (w32 ((w32 (y4 * 4)) + y3)).toNat) → ¬ (s 67 (w32 ((w32 (y2 * 4)) + y4)).toNat) ≤ (s 67 x1.toNat) → Q (some (mI 0)) s)
  (z9 : I11 (w32 (Int.tdiv x1 4)) (Int.tmod x1 4) 0) :
  Sp X d 112 [mR 53, mI x1] s Q := by
  have L : ∀ k : Nat, (∀ (y2 : Int) (y3 : Int) (y4 : Int), I11 y2 y3 y4 → m11 y2 y3 y4 < k → Wp X d 112 11 [some (mR 53), some (mI x1), some (mI y2), some (mI y3), some (mI y4)] [] s Q) := by
    intro k
    induction k with
    | zero => exact fun _ _ _ _ h => absurd h (Nat.not_lt_zero _)
    | succ k ih => exact fun y2 y3 y4 hI hm => b112_11 (fun q1 => b112_65 (z1 y2 y3 y4 hI q1)) (fun q2 => b112_17 (z2 y2 y3 y4 hI q2) (z3 y2 y3 y4 hI q2) (fun q3 => b112_57 (z4 y2 y3 y4 hI q2 q3)) (fun q4 => b112_37 (z5 y2 y3 y4 hI q2 q4) (z6 y2 y3 y4 hI q2 q4) (fun q5 => b112_59 (ih y2 y3 (w32 (y4 + 1)) (z7 y2 y3 y4 hI q2 q4 q5).1 (Nat.lt_of_lt_of_le (z7 y2 y3 y4 hI q2 q4 q5).2 (Nat.le_of_lt_succ hm)))) (fun q6 => b112_57 (z8 y2 y3 y4 hI q2 q4 q6))))
  exact e112 (b112_0 ((L (m11 (w32 (Int.tdiv x1 4)) (Int.tmod x1 4) 0 + 1)) (w32 (Int.tdiv x1 4)) (Int.tmod x1 4) 0 z9 (Nat.lt_succ_self _)))

theorem c112 {X : (Nat → Int) × Nat} {d : Nat} {s : mSt} {Q : mQ} {x1 : Int} (p1 : 0 ≤ x1 ∧ x1 < 16) (k1 : (stB (s 66) (s 67) x1.toNat = true) → Q (some (mI 1)) s) (k0 : ¬ (stB (s 66) (s 67) x1.toNat = true) → Q (some (mI 0)) s) : Sp X d 112 [mR 53, mI x1] s Q := by
  let n : Nat := x1.toNat
  have hn : n = x1.toNat := rfl
  have d1 : Int.tdiv x1 4 = ((n / 4 : Nat) : Int) := by rw [Int.tdiv_eq_ediv_of_nonneg p1.1]; omega
  have d2 : Int.tmod x1 4 = ((n % 4 : Nat) : Int) := by rw [Int.tmod_eq_emod_of_nonneg p1.1]; omega
  let J : Int → Int → Int → Prop := fun y2 y3 y4 => ∃ i : Nat, y2 = ((n / 4 : Nat) : Int) ∧ y3 = ((n % 4 : Nat) : Int) ∧ y4 = i ∧ i ≤ 4 ∧ ∀ u, u < i → ¬ s 66 n < s 66 (4 * u + n % 4) ∧ ¬ s 67 n < s 67 (4 * (n / 4) + u)
  have i1 : ∀ i : Nat, i < 4 → w32 (w32 ((i : Int) * 4) + ((n % 4 : Nat) : Int)) = ((4 * i + n % 4 : Nat) : Int) := fun i hi => by
    rw [w32_of (x := (i : Int) * 4) (by omega), w32_of (by omega)]; omega
  have i2 : ∀ i : Nat, i < 4 → w32 (w32 (((n / 4 : Nat) : Int) * 4) + (i : Int)) = ((4 * (n / 4) + i : Nat) : Int) := fun i hi => by
    rw [w32_of (x := ((n / 4 : Nat) : Int) * 4) (by omega), w32_of (by omega)]; omega
  refine v112 J (fun _ _ y => (4 - y).toNat) ?_ ?_ ?_ ?_ ?_ ?_ ?_ ?_ ⟨0, by rw [d1, w32_of (by omega)], d2, rfl, by omega, fun u hu => by omega⟩
  · rintro _ _ _ ⟨i, rfl, rfl, rfl, hi, hv⟩ hc
    exact k1 (stB_iff.2 (fun u hu => hv u (by omega)))
  · rintro _ _ _ ⟨i, rfl, rfl, rfl, hi, hv⟩ hc
    rw [i1 i (by omega)]; omega
  · rintro _ _ _ ⟨i, rfl, rfl, rfl, hi, hv⟩ hc
    exact p1
  · rintro _ _ _ ⟨i, rfl, rfl, rfl, hi, hv⟩ hc hz
    rw [i1 i (by omega), tnc] at hz
    exact k0 (fun w => (stB_iff.1 w i (by omega)).1 hz)
  · rintro _ _ _ ⟨i, rfl, rfl, rfl, hi, hv⟩ hc hz
    rw [i2 i (by omega)]; omega
  · rintro _ _ _ ⟨i, rfl, rfl, rfl, hi, hv⟩ hc hz
    exact p1
  · rintro _ _ _ ⟨i, rfl, rfl, rfl, hi, hv⟩ hc hz hz2
    rw [i1 i (by omega), tnc] at hz
    rw [i2 i (by omega), tnc] at hz2
    rw [w32_of (by omega)]
    refine ⟨⟨i + 1, rfl, rfl, by omega, by omega, fun u hu => ?_⟩, by omega⟩
    by_cases z : u = i
    · rw [z]; exact ⟨hz, fun w => by have : s 67 x1.toNat < s 67 (4 * (n / 4) + i) := w; omega⟩
    · exact hv u (by omega)
  · rintro _ _ _ ⟨i, rfl, rfl, rfl, hi, hv⟩ hc hz hz2
    rw [i2 i (by omega), tnc] at hz2
    refine k0 (fun w => (stB_iff.1 w i (by omega)).2 ?_)
    show s 67 x1.toNat < s 67 (4 * (n / 4) + i)
    omega
theorem v288 {X : (Nat → Int) × Nat} {d : Nat} {s : mSt} {Q : mQ} {x1 : Int} {x2 : Int}
  (I2 : Int → Prop) (m2 : Int → Nat)
  (z1 : ∀ y3 : Int, I2 y3 → 4 ≤ y3 → Q (some (mI 1)) s)
  (z2 : ∀ y3 : Int, I2 y3 → ¬ 4 ≤ y3 → 0 ≤ (w32 (2 * (w32 ((w32 (4 * y3)) + x2)))) ∧ (w32 (2 * (w32 ((w32 (4 * y3)) + x2)))) < 32)
  (z3 : ∀ y3 : Int, I2 y3 → ¬ 4 ≤ y3 → 0 ≤ (w32 (2 * (w32 ((w32 (4 * x1)) + x2)))) ∧ (w32 (2 * (w32 ((w32 (4 * x1)) + x2)))) < 32)
  (z4 : ∀ y3 : Int, I2 y3 → ¬ 4 ≤ y3 → (s 433 (w32 (2 * (w32 ((w32 (4 * x1)) + x2)))).toNat) < (s 433 (w32 (2 * (w32 ((w32 (4 * y3)) + x2)))).toNat) → Q (some (mI 0)) s)
  (z5 : ∀ y3 : Int, I2 y3 → ¬ 4 ≤ y3 → ¬ (s 433 (w32 (2 * (w32 ((w32 (4 * x1)) + x2)))).toNat) < (s 433 (w32 (2 * (w32 ((w32 (4 * y3)) + x2)))).toNat) → 0 ≤ (w32 ((w32 (2 * (w32 ((w32 (4 * x1)) + y3)))) + 1)) ∧ (w32 ((w32 (2 * (w32 ((w32 (4 * x1)) + y3)))) + 1)) < 32)
  (z6 : ∀ y3 : Int, I2 y3 → ¬ 4 ≤ y3 → ¬ (s 433 (w32 (2 * (w32 ((w32 (4 * x1)) + x2)))).toNat) < (s 433 (w32 (2 * (w32 ((w32 (4 * y3)) + x2)))).toNat) → 0 ≤ (w32 ((w32 (2 * (w32 ((w32 (4 * x1)) + x2)))) + 1)) ∧ (w32 ((w32 (2 * (w32 ((w32 (4 * x1)) + x2)))) + 1)) < 32)
  (z7 : ∀ y3 : Int, I2 y3 → ¬ 4 ≤ y3 → ¬ (s 433 (w32 (2 * (w32 ((w32 (4 * x1)) + x2)))).toNat) < (s 433 (w32 (2 * (w32 ((w32 (4 * y3)) + x2)))).toNat) → (s 433 (w32 ((w32 (2 * (w32 ((w32 (4 * x1)) + y3)))) + 1)).toNat) ≤ (s 433 (w32 ((w32 (2 * (w32 ((w32 (4 * x1)) + x2)))) + 1)).toNat) → I2 (w32 (y3 + 1)) ∧ m2 (w32 (y3 + 1)) < m2 y3)
  (z8 : ∀ y3 : Int, I2 y3 → ¬ 4 ≤ y3 → ¬ (s 433 (w32 (2 * (w32 ((w32 (4 * x1)) + x2)))).toNat) < (s 433 (w32 (2 * (w32 ((w32 (4 * y3)) + x2)))).toNat) → ¬ (s 433 (w32 ((w32 (2 * (w32 ((w32 (4 * x1)) + y3)))) + 1)).toNat) ≤ (s 433 (w32 ((w32 (2 * (w32 ((w32 (4 * x1)) + x2)))) + 1)).toNat) → Q (some (mI 0)) s)
  (z9 : I2 0) :
  Sp X d 288 [mR 407, mI x1, mI x2] s Q := by
  have L : ∀ k : Nat, (∀ (y3 : Int), I2 y3 → m2 y3 < k → Wp X d 288 2 [some (mR 407), some (mI x1), some (mI x2), some (mI y3)] [] s Q) := by
    intro k
    induction k with
    | zero => exact fun _ _ h => absurd h (Nat.not_lt_zero _)
    | succ k ih => exact fun y3 hI hm => b288_2 (fun q1 => b288_73 (z1 y3 hI q1)) (fun q2 => b288_7 (z2 y3 hI q2) (z3 y3 hI q2) (fun q3 => b288_65 (z4 y3 hI q2 q3)) (fun q4 => b288_34 (z5 y3 hI q2 q4) (z6 y3 hI q2 q4) (fun q5 => b288_67 (ih (w32 (y3 + 1)) (z7 y3 hI q2 q4 q5).1 (Nat.lt_of_lt_of_le (z7 y3 hI q2 q4 q5).2 (Nat.le_of_lt_succ hm)))) (fun q6 => b288_65 (z8 y3 hI q2 q4 q6))))
  exact e288 (b288_0 ((L (m2 0 + 1)) 0 z9 (Nat.lt_succ_self _)))

theorem c288 {X : (Nat → Int) × Nat} {d : Nat} {s : mSt} {Q : mQ} {x1 : Int} {x2 : Int} (p1 : (0 ≤ x1 ∧ x1 < 4) ∧ (0 ≤ x2 ∧ x2 < 4)) (k1 : (stB (fun i => s 433 (2 * i)) (fun i => s 433 (2 * i + 1)) (4 * x1.toNat + x2.toNat) = true) → Q (some (mI 1)) s) (k0 : ¬ (stB (fun i => s 433 (2 * i)) (fun i => s 433 (2 * i + 1)) (4 * x1.toNat + x2.toNat) = true) → Q (some (mI 0)) s) : Sp X d 288 [mR 407, mI x1, mI x2] s Q := by
  obtain ⟨h1, h2⟩ := p1
  let n : Nat := 4 * x1.toNat + x2.toNat
  have hn : n = 4 * x1.toNat + x2.toNat := rfl
  have m1 : n % 4 = x2.toNat := by omega
  have m2 : n / 4 = x1.toNat := by omega
  let J : Int → Prop := fun y => ∃ i : Nat, y = i ∧ i ≤ 4 ∧ ∀ u, u < i → ¬ s 433 (2 * n) < s 433 (2 * (4 * u + n % 4)) ∧ ¬ s 433 (2 * n + 1) < s 433 (2 * (4 * (n / 4) + u) + 1)
  have ii : ∀ a b : Int, (0 ≤ a ∧ a < 4) → (0 ≤ b ∧ b < 4) → w32 (2 * w32 (w32 (4 * a) + b)) = ((2 * (4 * a.toNat + b.toNat) : Nat) : Int) := fun a b ha hb => by
    rw [w32_of (x := 4 * a) (by omega), w32_of (x := 4 * a + b) (by omega), w32_of (by omega)]; omega
  have ij : ∀ m : Nat, m < 16 → w32 (((2 * m : Nat) : Int) + 1) = ((2 * m + 1 : Nat) : Int) := fun m hm => by rw [w32_of (by omega)]; omega
  refine v288 J (fun y => (4 - y).toNat) ?_ ?_ ?_ ?_ ?_ ?_ ?_ ?_ ⟨0, rfl, by omega, fun u hu => by omega⟩
  · rintro _ ⟨i, rfl, hi, hv⟩ hc
    exact k1 (stB_iff.2 (fun u hu => hv u (by omega)))
  · rintro _ ⟨i, rfl, hi, hv⟩ hc
    rw [ii _ _ (by omega) h2]; omega
  · rintro _ ⟨i, rfl, hi, hv⟩ hc
    rw [ii _ _ h1 h2]; omega
  · rintro _ ⟨i, rfl, hi, hv⟩ hc hz
    rw [ii _ _ h1 h2, ii _ _ (by omega) h2, tnc, tnc, tnc] at hz
    refine k0 (fun w => (stB_iff.1 w i (by omega)).1 ?_)
    show s 433 (2 * n) < s 433 (2 * (4 * i + n % 4))
    rw [m1]; exact hz
  · rintro _ ⟨i, rfl, hi, hv⟩ hc hz
    rw [ii _ _ h1 (by omega), ij _ (by omega)]; omega
  · rintro _ ⟨i, rfl, hi, hv⟩ hc hz
    rw [ii _ _ h1 h2, ij _ (by omega)]; omega
  · rintro _ ⟨i, rfl, hi, hv⟩ hc hz hz2
    rw [ii _ _ h1 h2, ii _ _ (by omega) h2, tnc, tnc, tnc] at hz
    rw [ii _ _ h1 (by omega), ii _ _ h1 h2, ij _ (by omega), ij _ (by omega), tnc, tnc, tnc] at hz2
    rw [w32_of (by omega)]
    refine ⟨⟨i + 1, by omega, by omega, fun u hu => ?_⟩, by omega⟩
    by_cases z : u = i
    · rw [z, m1, m2]
      refine ⟨hz, fun w => ?_⟩
      have w' : s 433 (2 * (4 * x1.toNat + x2.toNat) + 1) < s 433 (2 * (4 * x1.toNat + i) + 1) := w
      omega
    · exact hv u (by omega)
  · rintro _ ⟨i, rfl, hi, hv⟩ hc hz hz2
    rw [ii _ _ h1 (by omega), ii _ _ h1 h2, ij _ (by omega), ij _ (by omega), tnc, tnc, tnc] at hz2
    refine k0 (fun w => (stB_iff.1 w i (by omega)).2 ?_)
    show s 433 (2 * n + 1) < s 433 (2 * (4 * (n / 4) + i) + 1)
    rw [m2]
    show s 433 (2 * (4 * x1.toNat + x2.toNat) + 1) < s 433 (2 * (4 * x1.toNat + i) + 1)
    omega
/-- with two RESTS -/
def twR (a : Rw) (x y n : Nat) : Rw := up (up a (129 + x) ((n / 4 : Nat) : Int)) (129 + y) ((n % 4 : Nat) : Int)
def tw1 (a : Rw) (x y n : Nat) : Int := gnV (twR a x y n) x
def tw2 (a : Rw) (x y n : Nat) : Int := gnV (gnR (twR a x y n) x) y
theorem twR_ok {a : Rw} (h : Ok a) {x y n : Nat} (hx : x < 6) (hy : y < 6) (hn : n < 16) : Ok (twR a x y n) := by
  unfold twR
  exact up_ok (up_ok h (by omega) (by rw [if_neg (by omega)]; omega)) (by omega) (by rw [if_neg (by omega)]; omega)
theorem twR_o {a : Rw} {x y n j : Nat} (hj : j < 129 ∨ 135 ≤ j) (hx : x < 6) (hy : y < 6) : twR a x y n j = a j := by
  unfold twR; rw [up_ne (by omega), up_ne (by omega)]
def fRs (s t : mSt) : Prop := ∀ b, ¬ (44 ≤ b ∧ b ≤ 52) → ¬ (54 ≤ b ∧ b ≤ 54 + 9) → ¬ (66 ≤ b ∧ b ≤ 67) → t b = s b
theorem v110 {X : (Nat → Int) × Nat} {d : Nat} {s : mSt} {Q : mQ} {a1 : Nat} {x2 : Int} {x3 : Int} (h1 : isBd a1)
  (I3 : Int → mSt → Prop) (m3 : Int → mSt → Nat)
  (I80 : Int → Int → mSt → Prop) (m80 : Int → Int → mSt → Nat)
  (z1 : ∀ y4 : Int, ∀ s : mSt, I3 y4 s → 16 ≤ y4 → I80 0 0 s ∧ m80 0 0 s < m3 y4 s)
  (z2 : ∀ y4 : Int, ∀ s : mSt, I3 y4 s → ¬ 16 ≤ y4 → 54 ≠ a1 ∧ BI s a1)
  (z3 : ∀ y4 : Int, ∀ s : mSt, I3 y4 s → ¬ 16 ≤ y4 → ∀ s3 : mSt, (BI s3 54 ∧ brow s3 54 = brow s a1 ∧ fB s s3 54) → 0 ≤ x2 ∧ x2 < 6)
  (z4 : ∀ y4 : Int, ∀ s : mSt, I3 y4 s → ¬ 16 ≤ y4 → ∀ s3 : mSt, (BI s3 54 ∧ brow s3 54 = brow s a1 ∧ fB s s3 54) → 0 ≤ x3 ∧ x3 < 6)
  (z5 : ∀ y4 : Int, ∀ s : mSt, I3 y4 s → ¬ 16 ≤ y4 → ∀ s3 : mSt, (BI s3 54 ∧ brow s3 54 = brow s a1 ∧ fB s s3 54) → ∀ t4 : mSt, t4 = uS (uS s3 59 x2.toNat (w32 (Int.tdiv y4 4))) 59 x3.toNat (Int.tmod y4 4) → BI t4 54 ∧ (0 ≤ x2 ∧ x2 < t4 54 3) ∧ ¬ pl (brow t4 54) x2.toNat = true)
  (z6 : ∀ y4 : Int, ∀ s : mSt, I3 y4 s → ¬ 16 ≤ y4 → ∀ s3 : mSt, (BI s3 54 ∧ brow s3 54 = brow s a1 ∧ fB s s3 54) → ∀ t4 : mSt, t4 = uS (uS s3 59 x2.toNat (w32 (Int.tdiv y4 4))) 59 x3.toNat (Int.tmod y4 4) → ∀ v5 : Int, ∀ s5 : mSt, (v5 = gnV (brow t4 54) x2.toNat ∧ BI s5 54 ∧ brow s5 54 = gnR (brow t4 54) x2.toNat ∧ fBP t4 s5 54) → 0 ≤ y4 ∧ y4 < 16)
  (z7 : ∀ y4 : Int, ∀ s : mSt, I3 y4 s → ¬ 16 ≤ y4 → ∀ s3 : mSt, (BI s3 54 ∧ brow s3 54 = brow s a1 ∧ fB s s3 54) → ∀ t4 : mSt, t4 = uS (uS s3 59 x2.toNat (w32 (Int.tdiv y4 4))) 59 x3.toNat (Int.tmod y4 4) → ∀ v5 : Int, ∀ s5 : mSt, (v5 = gnV (brow t4 54) x2.toNat ∧ BI s5 54 ∧ brow s5 54 = gnR (brow t4 54) x2.toNat ∧ fBP t4 s5 54) → ∀ t6 : mSt, t6 = uS s5 66 y4.toNat v5 → BI t6 54 ∧ (0 ≤ x3 ∧ x3 < t6 54 3) ∧ ¬ pl (brow t6 54) x3.toNat = true)
  (z8 : ∀ y4 : Int, ∀ s : mSt, I3 y4 s → ¬ 16 ≤ y4 → ∀ s3 : mSt, (BI s3 54 ∧ brow s3 54 = brow s a1 ∧ fB s s3 54) → ∀ t4 : mSt, t4 = uS (uS s3 59 x2.toNat (w32 (Int.tdiv y4 4))) 59 x3.toNat (Int.tmod y4 4) → ∀ v5 : Int, ∀ s5 : mSt, (v5 = gnV (brow t4 54) x2.toNat ∧ BI s5 54 ∧ brow s5 54 = gnR (brow t4 54) x2.toNat ∧ fBP t4 s5 54) → ∀ t6 : mSt, t6 = uS s5 66 y4.toNat v5 → ∀ v7 : Int, ∀ s7 : mSt, (v7 = gnV (brow t6 54) x3.toNat ∧ BI s7 54 ∧ brow s7 54 = gnR (brow t6 54) x3.toNat ∧ fBP t6 s7 54) → 0 ≤ y4 ∧ y4 < 16)
  (z9 : ∀ y4 : Int, ∀ s : mSt, I3 y4 s → ¬ 16 ≤ y4 → ∀ s3 : mSt, (BI s3 54 ∧ brow s3 54 = brow s a1 ∧ fB s s3 54) → ∀ t4 : mSt, t4 = uS (uS s3 59 x2.toNat (w32 (Int.tdiv y4 4))) 59 x3.toNat (Int.tmod y4 4) → ∀ v5 : Int, ∀ s5 : mSt, (v5 = gnV (brow t4 54) x2.toNat ∧ BI s5 54 ∧ brow s5 54 = gnR (brow t4 54) x2.toNat ∧ fBP t4 s5 54) → ∀ t6 : mSt, t6 = uS s5 66 y4.toNat v5 → ∀ v7 : Int, ∀ s7 : mSt, (v7 = gnV (brow t6 54) x3.toNat ∧ BI s7 54 ∧ brow s7 54 = gnR (brow t6 54) x3.toNat ∧ fBP t6 s7 54) → I3 (w32 (y4 + 1)) (uS s7 67 y4.toNat v7) ∧ m3 (w32 (y4 + 1)) (uS s7 67 y4.toNat v7) < m3 y4 s)
  (z10 : ∀ y4 : Int, ∀ y5 : Int, ∀ s : mSt, I80 y4 y5 s → 16 ≤ y5 → Q (some (mI y4)) s)
  (z11 : ∀ y4 : Int, ∀ y5 : Int, ∀ s : mSt, I80 y4 y5 s → ¬ 16 ≤ y5 → 0 ≤ y5 ∧ y5 < 16)
  (z12 : ∀ y4 : Int, ∀ y5 : Int, ∀ s : mSt, I80 y4 y5 s → ¬ 16 ≤ y5 → stB (s 66) (s 67) y5.toNat = true → I80 (iOr y4 (iShl 1 y5)) (w32 (y5 + 1)) s ∧ m80 (iOr y4 (iShl 1 y5)) (w32 (y5 + 1)) s < m80 y4 y5 s)
  (z13 : ∀ y4 : Int, ∀ y5 : Int, ∀ s : mSt, I80 y4 y5 s → ¬ 16 ≤ y5 → ¬ (stB (s 66) (s 67) y5.toNat = true) → I80 y4 (w32 (y5 + 1)) s ∧ m80 y4 (w32 (y5 + 1)) s < m80 y4 y5 s)
  (z14 : I3 0 s) :
  Sp X (d + 11) 110 [mR 53, mR a1, mI x2, mI x3] s Q := by
  have L : ∀ k : Nat, (∀ (y4 : Int) (l5 : Option mV) (s : mSt), I3 y4 s → m3 y4 s < k → Wp X (d + 11) 110 3 [some (mR 53), some (mR a1), some (mI x2), some (mI x3), some (mI y4), l5] [] s Q) ∧ (∀ (y4 : Int) (y5 : Int) (s : mSt), I80 y4 y5 s → m80 y4 y5 s < k → Wp X (d + 11) 110 80 [some (mR 53), some (mR a1), some (mI x2), some (mI x3), some (mI y4), some (mI y5)] [] s Q) := by
    intro k
    induction k with
    | zero => exact ⟨fun _ _ _ _ h => absurd h (Nat.not_lt_zero _), fun _ _ _ _ h => absurd h (Nat.not_lt_zero _)⟩
    | succ k ih => exact ⟨fun y4 l5 s hI hm => b110_3 h1 (fun q1 => b110_74 h1 (ih.2 0 0 s (z1 y4 s hI q1).1 (Nat.lt_of_lt_of_le (z1 y4 s hI q1).2 (Nat.le_of_lt_succ hm)))) (fun q2 => b110_10 h1 (c3 (bdm rfl) h1 (z2 y4 s hI q2) (fun s3 q3 => ⟨rfl, b110_18 h1 (z3 y4 s hI q2 s3 q3) (z4 y4 s hI q2 s3 q3) (Sp_gen (fun t4 e4 => (c111 (z5 y4 s hI q2 s3 q3 t4 e4) (fun v5 s5 q5 => ⟨v5, rfl, b110_55 h1 (z6 y4 s hI q2 s3 q3 t4 e4 v5 s5 q5) (Sp_gen (fun t6 e6 => (c111 (z7 y4 s hI q2 s3 q3 t4 e4 v5 s5 q5 t6 e6) (fun v7 s7 q7 => ⟨v7, rfl, b110_67 h1 (z8 y4 s hI q2 s3 q3 t4 e4 v5 s5 q5 t6 e6 v7 s7 q7) (ih.1 (w32 (y4 + 1)) l5 (uS s7 67 y4.toNat v7) (z9 y4 s hI q2 s3 q3 t4 e4 v5 s5 q5 t6 e6 v7 s7 q7).1 (Nat.lt_of_lt_of_le (z9 y4 s hI q2 s3 q3 t4 e4 v5 s5 q5 t6 e6 v7 s7 q7).2 (Nat.le_of_lt_succ hm)))⟩))))⟩))))⟩))), fun y4 y5 s hI hm => b110_80 h1 (fun q8 => b110_111 h1 (z10 y4 y5 s hI q8)) (fun q9 => b110_87 h1 (c112 (z11 y4 y5 s hI q9) (fun q10 => ⟨1, rfl, b110_93 h1 (fun q => absurd q (by decide)) (fun _ => b110_96 h1 (b110_105 h1 (ih.2 (iOr y4 (iShl 1 y5)) (w32 (y5 + 1)) s (z12 y4 y5 s hI q9 q10).1 (Nat.lt_of_lt_of_le (z12 y4 y5 s hI q9 q10).2 (Nat.le_of_lt_succ hm)))))⟩) (fun q11 => ⟨0, rfl, b110_93 h1 (fun _ => b110_105 h1 (ih.2 y4 (w32 (y5 + 1)) s (z13 y4 y5 s hI q9 q11).1 (Nat.lt_of_lt_of_le (z13 y4 y5 s hI q9 q11).2 (Nat.le_of_lt_succ hm)))) (fun q => absurd q (by decide))⟩)))⟩
  exact e110 (b110_0 h1 ((L (m3 0 s + 1)).1 0 none s z14 (Nat.lt_succ_self _)))

theorem c110 {X : (Nat → Int) × Nat} {d : Nat} {s : mSt} {Q : mQ} {a1 : Nat} {x2 : Int} {x3 : Int} (h1 : isBd a1) (p1 : a1 ≠ 54 ∧ ¬ (66 ≤ a1 + 9 ∧ a1 ≤ 67) ∧ BI s a1 ∧ ((0 ≤ x2 ∧ x2 < s a1 3) ∧ ¬ pl (brow s a1) x2.toNat = true) ∧ ((0 ≤ x3 ∧ x3 < s a1 3) ∧ ¬ pl (brow s a1) x3.toNat = true) ∧ ¬ x2 = x3) (k : ∀ (v : Int) (t : mSt), (v = os (stB (tw1 (brow s a1) x2.toNat x3.toNat) (tw2 (brow s a1) x2.toNat x3.toNat)) 16 ∧ fRs s t) → Q (some (mI v)) t) : Sp X (d + 11) 110 [mR 53, mR a1, mI x2, mI x3] s Q := by
  obtain ⟨hn, hq, hB, ⟨hx, wx⟩, ⟨hy, wy⟩, hne⟩ := p1
  have hp := bd_54 h1 hn
  have hl := bd_lt h1
  have h4 := bi_nc hB
  have n6 := nc_le hB.1
  let X1 := x2.toNat
  let a := brow s a1
  let x := x2.toNat
  let y := x3.toNat
  have ex : x = x2.toNat := rfl
  have ey : y = x3.toNat := rfl
  let o1 := tw1 a x2.toNat x3.toNat
  let o2 := tw2 a x2.toNat x3.toNat
  have d1 : ∀ n : Nat, n < 16 → w32 (Int.tdiv (n : Int) 4) = ((n / 4 : Nat) : Int) := fun n hn => by rw [Int.tdiv_eq_ediv_of_nonneg (by omega), w32_of (by omega)]; omega
  have d2 : ∀ n : Nat, Int.tmod (n : Int) 4 = ((n % 4 : Nat) : Int) := fun n => by rw [Int.tmod_eq_emod_of_nonneg (by omega)]; omega
  have told : ∀ t : mSt, fRs s t → BI t a1 ∧ brow t a1 = a := fun t ht => BI_cells hB (fun x hx => ht x (by omega) (by omega) (by omega)) (ht 417 (by omega) (by omega) (by omega))
  have st1 : ∀ (n : Nat) (t s3 t4 : mSt), n < 16 → fRs s t → (BI s3 54 ∧ brow s3 54 = brow t a1 ∧ fB t s3 54) → t4 = uS (uS s3 59 x2.toNat (w32 (Int.tdiv (n : Int) 4))) 59 x3.toNat (Int.tmod (n : Int) 4) → BI t4 54 ∧ brow t4 54 = twR a x2.toNat x3.toNat n ∧ fB t t4 54 := fun n t s3 t4 hn16 ht h3 h4' => by
    rw [d1 n hn16, d2] at h4'
    rw [(told t ht).2] at h3
    have q1 := set_R (s := s3) (k := 54) (c := x2.toNat) (x := ((n / 4 : Nat) : Int)) is54 h3.1 (by rw [h3.2.1]; show x2.toNat < nc (brow s a1); omega) (by omega)
    have q2 := set_R (s := uS s3 (54 + 5) x2.toNat ((n / 4 : Nat) : Int)) (k := 54) (c := x3.toNat) (x := ((n % 4 : Nat) : Int)) is54 q1.1 (by rw [q1.2, h3.2.1]; show x3.toNat < nc (up (brow s a1) _ _); unfold nc; rw [up_ne (by omega)]; show x3.toNat < nc (brow s a1); omega) (by omega)
    rw [h4']
    refine ⟨q2.1, ?_, fun b hb => ?_⟩
    · rw [show brow (uS (uS s3 59 x2.toNat ((n / 4 : Nat) : Int)) 59 x3.toNat ((n % 4 : Nat) : Int)) 54 = _ from q2.2, q1.2, h3.2.1]; rfl
    · rw [uS_cell (by omega), uS_cell (by omega)]; exact h3.2.2 b hb
  have e4 : ∀ t4 : mSt, ∀ b : Rw, BI t4 54 → brow t4 54 = b → b 4 = a 4 → t4 54 3 = s a1 3 := fun t4 b hb e e' => by
    rw [bi4 hb, e, e', bi4 hB]
  have pre1 : ∀ (n : Nat) (t4 : mSt), BI t4 54 → brow t4 54 = twR a x2.toNat x3.toNat n → BI t4 54 ∧ (0 ≤ x2 ∧ x2 < t4 54 3) ∧ ¬ pl (brow t4 54) x2.toNat = true := fun n t4 hb e => by
    refine ⟨hb, ?_, ?_⟩
    · rw [e4 t4 _ hb e (twR_o (by omega) (by omega) (by omega))]; exact hx
    · rw [e]; unfold pl; rw [twR_o (by omega) (by omega) (by omega)]; exact wx
  have ncT : ∀ n, nc (twR a x2.toNat x3.toNat n) = nc (brow s a1) := fun n => by unfold nc; rw [twR_o (by omega) (by omega) (by omega)]
  have okT' : ∀ n, n < 16 → Ok (twR a x2.toNat x3.toNat n) := fun n hn => twR_ok hB.1 (by omega) (by omega) hn
  have st2 : ∀ (n : Nat) (t4 s5 t6 : mSt) (v5 : Int), n < 16 → brow t4 54 = twR a x2.toNat x3.toNat n → (v5 = gnV (brow t4 54) x2.toNat ∧ BI s5 54 ∧ brow s5 54 = gnR (brow t4 54) x2.toNat ∧ fBP t4 s5 54) → t6 = uS s5 66 ((n : Int)).toNat v5 → v5 = o1 n ∧ BI t6 54 ∧ brow t6 54 = gnR (twR a x2.toNat x3.toNat n) x2.toNat ∧ t6 66 = up (t4 66) n v5 ∧ t6 67 = t4 67 ∧ ∀ b, ¬ (44 ≤ b ∧ b ≤ 52) → ¬ (54 ≤ b ∧ b ≤ 54 + 9) → ¬ (66 ≤ b ∧ b ≤ 67) → t6 b = t4 b := fun n t4 s5 t6 v5 hn16 e h5 h6 => by
    rw [e, ] at h5
    rw [tnc] at h6
    have c6 : ∀ b, b ≠ 66 → t6 b = s5 b := fun b hb => by rw [h6]; exact uS_cell hb
    have q := BI_cells (t := t6) h5.2.1 (fun x hx => c6 x (by omega)) (c6 417 (by omega))
    refine ⟨h5.1, q.1, q.2.trans h5.2.2.1, ?_, ?_, fun b g1 g2 g3 => ?_⟩
    · rw [h6]; funext j; rw [uS_at, h5.2.2.2 66 (by omega) (by omega)]; rfl
    · rw [c6 67 (by omega), h5.2.2.2 67 (by omega) (by omega)]
    · rw [c6 b (by omega)]; exact h5.2.2.2 b (by omega) (by omega)
  have pre2 : ∀ (n : Nat) (t6 : mSt), n < 16 → BI t6 54 → brow t6 54 = gnR (twR a x2.toNat x3.toNat n) x2.toNat → BI t6 54 ∧ (0 ≤ x3 ∧ x3 < t6 54 3) ∧ ¬ pl (brow t6 54) x3.toNat = true := fun n t6 hn16 hb e => by
    have ok := okT' n hn16
    have hc : x2.toNat < nc (twR a x2.toNat x3.toNat n) := by rw [ncT]; omega
    refine ⟨hb, ?_, ?_⟩
    · rw [e4 t6 _ hb e (by rw [gnR_o ok hc (by omega)]; exact twR_o (by omega) (by omega) (by omega))]; exact hy
    · rw [e, gnR_w (by omega) (by omega)]; unfold pl; rw [twR_o (by omega) (by omega) (by omega)]; exact wy
  let V : mSt → Nat → Prop := fun t n => ∀ i, i < n → t 66 i = o1 i ∧ t 67 i = o2 i
  let J : Int → mSt → Prop := fun y4 t => ∃ n : Nat, y4 = n ∧ n ≤ 16 ∧ V t n ∧ fRs s t
  let K : Int → Int → mSt → Prop := fun y4 y5 t => ∃ n : Nat, y5 = n ∧ n ≤ 16 ∧ y4 = os (stB o1 o2) n ∧ V t 16 ∧ fRs s t
  have sb : ∀ (t : mSt) (n : Nat), V t 16 → n < 16 → stB (t 66) (t 67) ((n : Int)).toNat = stB o1 o2 n := fun t n hv hn => by
    rw [tnc]; exact stB_congr hn (fun i hi => (hv i hi).1) (fun i hi => (hv i hi).2)
  refine v110 h1 J (fun y _ => (50 - y).toNat) K (fun _ y _ => (20 - y).toNat) ?_ ?_ ?_ ?_ ?_ ?_ ?_ ?_ ?_ ?_ ?_ ?_ ?_ ?_
  · rintro _ t ⟨n, rfl, hn16, hv, ht⟩ hc
    have : n = 16 := by omega
    subst this
    exact ⟨⟨0, rfl, by omega, rfl, hv, ht⟩, by omega⟩
  · rintro _ t ⟨n, rfl, hn16, hv, ht⟩ hc
    exact ⟨fun z => hn z.symm, (told t ht).1⟩
  · rintro _ t ⟨n, rfl, hn16, hv, ht⟩ hc s3 h3
    omega
  · rintro _ t ⟨n, rfl, hn16, hv, ht⟩ hc s3 h3
    omega
  · rintro _ t ⟨n, rfl, hn16, hv, ht⟩ hc s3 h3 t4 h4'
    have q := st1 n t s3 t4 (by omega) ht h3 h4'
    exact pre1 n t4 q.1 q.2.1
  · rintro _ t ⟨n, rfl, hn16, hv, ht⟩ hc s3 h3 t4 h4' v5 s5 h5
    omega
  · rintro _ t ⟨n, rfl, hn16, hv, ht⟩ hc s3 h3 t4 h4' v5 s5 h5 t6 h6
    have q := st1 n t s3 t4 (by omega) ht h3 h4'
    have r := st2 n t4 s5 t6 v5 (by omega) q.2.1 h5 h6
    exact pre2 n t6 (by omega) r.2.1 r.2.2.1
  · rintro _ t ⟨n, rfl, hn16, hv, ht⟩ hc s3 h3 t4 h4' v5 s5 h5 t6 h6 v7 s7 h7
    omega
  · rintro _ t ⟨n, rfl, hn16, hv, ht⟩ hc s3 h3 t4 h4' v5 s5 h5 t6 h6 v7 s7 h7
    have q := st1 n t s3 t4 (by omega) ht h3 h4'
    have r := st2 n t4 s5 t6 v5 (by omega) q.2.1 h5 h6
    rw [r.2.2.1] at h7
    have c7 : ∀ b, ¬ (44 ≤ b ∧ b ≤ 49) → ¬ (54 ≤ b ∧ b ≤ 54 + 9) → s7 b = t6 b := fun b g1 g2 => h7.2.2.2 b g2 g1
    rw [tnc, w32_of (by omega)]
    refine ⟨⟨n + 1, by omega, by omega, fun i hi => ⟨?_, ?_⟩, fun b g1 g2 g3 => ?_⟩, by omega⟩
    · rw [uS_cell (by omega), c7 66 (by omega) (by omega), r.2.2.2.1]
      by_cases z : i = n
      · rw [z, up_at]; exact r.1
      · rw [up_ne z, q.2.2 66 (by omega)]; exact (hv i (by omega)).1
    · rw [uS_at]
      by_cases z : i = n
      · rw [if_pos z, z]; exact h7.1
      · rw [if_neg z, c7 67 (by omega) (by omega), r.2.2.2.2.1, q.2.2 67 (by omega)]; exact (hv i (by omega)).2
    · rw [uS_cell (by omega), c7 b (by omega) g2, r.2.2.2.2.2 b g1 g2 g3, q.2.2 b g2]; exact ht b g1 g2 g3
  · rintro _ _ t ⟨n, rfl, hn16, rfl, hv, ht⟩ hc
    have : n = 16 := by omega
    subst this
    exact k _ t ⟨rfl, ht⟩
  · rintro _ _ t ⟨n, rfl, hn16, rfl, hv, ht⟩ hc
    omega
  · rintro _ _ t ⟨n, rfl, hn16, rfl, hv, ht⟩ hc hb
    rw [sb t n hv (by omega)] at hb
    rw [os_or (by omega) hb, w32_of (by omega)]
    exact ⟨⟨n + 1, by omega, by omega, rfl, hv, ht⟩, by omega⟩
  · rintro _ _ t ⟨n, rfl, hn16, rfl, hv, ht⟩ hc hb
    rw [sb t n hv (by omega)] at hb
    rw [os_no hb, w32_of (by omega)]
    exact ⟨⟨n + 1, by omega, by omega, rfl, hv, ht⟩, by omega⟩
  · exact ⟨0, rfl, by omega, fun i hi => by omega, fun _ _ _ _ => rfl⟩
