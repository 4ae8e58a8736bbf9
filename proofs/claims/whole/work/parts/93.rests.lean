/-! rests of two that wait -/
theorem pf_e {a : Rw} {c : Nat} (h : Ok a) (hc : c < 6) (o : List Nat) : ∀ (st q : St), pf a c o st = some q → (∀ p ∈ o, p < 5) → (0 ≤ st.2.1 ∧ st.2.1 ≤ 30) → 0 ≤ q.2.1 ∧ q.2.1 ≤ 30 := by
  induction o with
  | nil =>
    intro st q e _ hs
    simp only [pf, Option.some.injEq] at e
    subst e; exact hs
  | cons r o ih =>
    intro st q e hp hs
    rw [pf] at e
    by_cases hz : lsA a c r st.1 st.2.1 st.2.2.1 < 0
    · rw [if_pos hz] at e; exact absurd e (by simp)
    · rw [if_neg hz] at e
      refine ih (nxS a c r st) q e (fun p h' => hp p (List.mem_cons_of_mem _ h')) ?_
      have ft := (ls_ft (Int.not_lt.1 hz)).1
      have tb := tm_bd h hc (hp r List.mem_cons_self)
      unfold ftA at ft
      rw [Bool.and_eq_true, Bool.and_eq_true, decide_eq_true_eq, decide_eq_true_eq] at ft
      have f2 := ft.2.1
      have e2 : (nxS a c r st).2.1 = lsA a c r st.1 st.2.1 st.2.2.1 + tm a c r := rfl
      rw [e2]
      omega
theorem fold_e {a : Rw} {c m : Nat} (h : Ok a) (hc : c < 6) (hm : m < 32) : ∀ (L : List (List Nat)) (b : Bt), (∀ o ∈ L, o ∈ ords 5 m) → (b.1 ≠ 0 → 0 ≤ b.2.2.2.1 ∧ b.2.2.2.1 ≤ 30) → 0 ≤ b.1 → ((L.foldl (stp a c m ini) b).1 ≠ 0 → 0 ≤ (L.foldl (stp a c m ini) b).2.2.2.1 ∧ (L.foldl (stp a c m ini) b).2.2.2.1 ≤ 30)
  | [], b, _, hb, _ => hb
  | o :: L, b, hL, hb, h0 => by
    rw [List.foldl_cons]
    refine fold_e h hc hm L _ (fun o ho => hL o (List.mem_cons_of_mem _ ho)) ?_ (by have := stp_w a c m ini b o; omega)
    have ho := hL o List.mem_cons_self
    unfold stp
    cases hpf : pf a c o ini with
    | none => exact hb
    | some q =>
      dsimp only
      unfold wgB
      split
      · intro _
        exact pf_e h hc o ini q hpf (ord_lt hm o ho) (by decide)
      · next hbt =>
        intro _
        refine hb (fun z => hbt ?_)
        unfold bet; simp [z]
theorem pA1_e {a : Rw} {c : Nat} (h : Ok a) (hc : c < nc a) (hz : (pA1 a c).1 ≠ 0) : 0 ≤ (pA1 a c).2.2.2.1 ∧ (pA1 a c).2.2.2.1 ≤ 30 := by
  have n6 := nc_le h
  exact fold_e h (by omega) (sM_b h hc).1.2 _ _ (fun _ ho => ho) (fun z => absurd rfl z) (Int.le_refl 0) hz
def gnV (a : Rw) (c : Nat) : Int := if 0 < (pA1 a c).1 then 30 - (pA1 a c).2.2.2.1 + 2 * a (129 + c) else 0
def gnR (a : Rw) (c : Nat) : Rw := if 0 < (pA1 a c).1 then lyR a c (pA1 a c).2.2.2.2 else a
theorem gnR_ok {a : Rw} {c : Nat} (h : Ok a) (hc : c < nc a) : Ok (gnR a c) := by
  have n6 := nc_le h
  unfold gnR
  split
  · exact lay_ok h (by omega) (GP_bd (plB_g (sM_b h hc).1.2 (by show (pA1 a c).1 ≠ 0; omega)))
  · exact h
theorem gnR_o {a : Rw} {c j : Nat} (h : Ok a) (hc : c < nc a) (hj : j < 41 ∨ 77 ≤ j) : gnR a c j = a j := by
  have n6 := nc_le h
  have n5 := np_le h
  unfold gnR
  split
  · exact lyR_o n5 (by omega) hj
  · rfl
theorem gnR_w {a : Rw} {c i : Nat} (hi : i < 6) (hn : i ≠ c) : pl (gnR a c) i = pl a i := by
  unfold gnR pl
  split
  · rw [lyR_W hi, if_neg hn]
  · rfl
theorem v111 {X : (Nat → Int) × Nat} {d : Nat} {s : mSt} {Q : mQ} {x1 : Int}
  (z1 : BI s 54)
  (z2 : ∀ s1 : mSt, (((0 ≤ x1 ∧ x1 < s 54 3) ∧ ¬ pl (brow s 54) x1.toNat = true) ∧ 0 < (pA1 (brow s 54) x1.toNat).1 ∧ BI s1 54 ∧ brow s1 54 = lyR (brow s 54) x1.toNat (pA1 (brow s 54) x1.toNat).2.2.2.2 ∧ PB s1 (brow s 54) x1.toNat (sM (brow s 54) x1.toNat) (pA1 (brow s 54) x1.toNat) ∧ fBP s s1 54) → 0 ≤ x1 ∧ x1 < 6)
  (z3 : ∀ s1 : mSt, (((0 ≤ x1 ∧ x1 < s 54 3) ∧ ¬ pl (brow s 54) x1.toNat = true) ∧ 0 < (pA1 (brow s 54) x1.toNat).1 ∧ BI s1 54 ∧ brow s1 54 = lyR (brow s 54) x1.toNat (pA1 (brow s 54) x1.toNat).2.2.2.2 ∧ PB s1 (brow s 54) x1.toNat (sM (brow s 54) x1.toNat) (pA1 (brow s 54) x1.toNat) ∧ fBP s s1 54) → Q (some (mI (w32 ((w32 (30 - (s1 44 10))) + (w32 (2 * (s1 59 x1.toNat))))))) s1)
  (z4 : ∀ s2 : mSt, (¬ (((0 ≤ x1 ∧ x1 < s 54 3) ∧ ¬ pl (brow s 54) x1.toNat = true) ∧ 0 < (pA1 (brow s 54) x1.toNat).1) ∧ BI s2 54 ∧ brow s2 54 = brow s 54 ∧ fP s s2) → Q (some (mI 0)) s2) :
  Sp X (d + 10) 111 [mR 53, mI x1] s Q := e111 (b111_0 (c60 (bdm rfl) z1 (fun s1 q1 => ⟨1, rfl, b111_12 (fun q => absurd q (by decide)) (fun _ => b111_15 (z2 s1 q1) (b111_41 (z3 s1 q1)))⟩) (fun s2 q2 => ⟨0, rfl, b111_12 (fun _ => b111_40 (b111_41 (z4 s2 q2))) (fun q => absurd q (by decide))⟩)))

theorem c111 {X : (Nat → Int) × Nat} {d : Nat} {s : mSt} {Q : mQ} {x1 : Int} (p1 : BI s 54 ∧ (0 ≤ x1 ∧ x1 < s 54 3) ∧ ¬ pl (brow s 54) x1.toNat = true) (k : ∀ (v : Int) (t : mSt), (v = gnV (brow s 54) x1.toNat ∧ BI t 54 ∧ brow t 54 = gnR (brow s 54) x1.toNat ∧ fBP s t 54) → Q (some (mI v)) t) : Sp X (d + 10) 111 [mR 53, mI x1] s Q := by
  obtain ⟨hB, hx, hw⟩ := p1
  have h4 := bi_nc hB
  have n6 := nc_le hB.1
  have n5 := np_le hB.1
  refine v111 hB (fun t ht => by omega) (fun t ht => ?_) (fun t ht => ?_)
  · obtain ⟨_, hp, hb, e, hP, hf⟩ := ht
    have en := pA1_e hB.1 (c := x1.toNat) (by omega) (by omega)
    have r0 := okRe hB.1 (p := x1.toNat) (by omega)
    have e4 : nc (brow t 54) = nc (brow s 54) := by unfold nc; rw [e, lyR_o n5 (by omega) (by omega)]
    have e59 : t 59 x1.toNat = brow s 54 (129 + x1.toNat) := by
      have := biR hb (c := x1.toNat) (by omega)
      rw [e, lyR_o n5 (by omega) (by omega)] at this
      exact this
    have e10 : t 44 10 = (pA1 (brow s 54) x1.toNat).2.2.2.1 := (hP.2.2 (by omega)).1.2.2.2.1
    rw [e59, e10, w32_of (x := 30 - _) (by omega), w32_of (x := 2 * _) (by omega), w32_of (by omega)]
    refine k _ t ⟨?_, hb, ?_, hf⟩
    · unfold gnV; rw [if_pos hp]
    · unfold gnR; rw [if_pos hp]; exact e
  · obtain ⟨hz, hb, e, hf⟩ := ht
    have hp : ¬ 0 < (pA1 (brow s 54) x1.toNat).1 := fun z => hz ⟨⟨hx, hw⟩, z⟩
    refine k _ t ⟨?_, hb, ?_, fun x _ h2 => hf x h2⟩
    · unfold gnV; rw [if_neg hp]
    · unfold gnR; rw [if_neg hp]; exact e
theorem v289 {X : (Nat → Int) × Nat} {d : Nat} {s : mSt} {Q : mQ} {x1 : Int}
  (z1 : Ok (s 417) ∧ (0 ≤ x1 ∧ x1 < s 417 4))
  (z2 : ∀ s1 : mSt, (0 < (pA1 (s 417) x1.toNat).1 ∧ s1 417 = lyR (s 417) x1.toNat (pA1 (s 417) x1.toNat).2.2.2.2 ∧ PQ s1 (np (s 417)) (pA1 (s 417) x1.toNat) ∧ fL s s1) → 0 ≤ (w32 (129 + x1)) ∧ (w32 (129 + x1)) < 166)
  (z3 : ∀ s1 : mSt, (0 < (pA1 (s 417) x1.toNat).1 ∧ s1 417 = lyR (s 417) x1.toNat (pA1 (s 417) x1.toNat).2.2.2.2 ∧ PQ s1 (np (s 417)) (pA1 (s 417) x1.toNat) ∧ fL s s1) → Q (some (mI (w32 ((w32 (30 - (s1 407 31))) + (w32 (2 * (s1 417 (w32 (129 + x1)).toNat))))))) s1)
  (z4 : ∀ s2 : mSt, ((pA1 (s 417) x1.toNat).1 = 0 ∧ s2 417 = s 417 ∧ fL s s2) → Q (some (mI 0)) s2) :
  Sp X (d + 7) 289 [mR 407, mI x1] s Q := e289 (b289_0 (c245 z1 (fun s1 q1 => ⟨1, rfl, b289_5 (fun q => absurd q (by decide)) (fun _ => b289_8 (z2 s1 q1) (b289_32 (z3 s1 q1)))⟩) (fun s2 q2 => ⟨0, rfl, b289_5 (fun _ => b289_31 (b289_32 (z4 s2 q2))) (fun q => absurd q (by decide))⟩)))

theorem c289 {X : (Nat → Int) × Nat} {d : Nat} {s : mSt} {Q : mQ} {x1 : Int} (p1 : Ok (s 417) ∧ (0 ≤ x1 ∧ x1 < s 417 4)) (k : ∀ (v : Int) (t : mSt), (v = gnV (s 417) x1.toNat ∧ t 417 = gnR (s 417) x1.toNat ∧ fL s t) → Q (some (mI v)) t) : Sp X (d + 7) 289 [mR 407, mI x1] s Q := by
  obtain ⟨h, hx⟩ := p1
  have h4 := ncI h
  have n6 := nc_le h
  have n5 := np_le h
  have e9 : (w32 (129 + x1)).toNat = 129 + x1.toNat := wt (by omega) (by omega)
  refine v289 ⟨h, hx⟩ (fun t ht => ?_) (fun t ht => ?_) (fun t ht => ?_)
  · rw [w32_of (by omega)]; omega
  · obtain ⟨hp, e, hP, hf⟩ := ht
    have en := pA1_e h (c := x1.toNat) (by omega) (by omega)
    have r0 := okRe h (p := x1.toNat) (by omega)
    have e10 : t 407 31 = (pA1 (s 417) x1.toNat).2.2.2.1 := (hP.2.1 (by omega)).2.2
    rw [e9, e10, e, lyR_o n5 (by omega) (by omega), w32_of (x := 30 - _) (by omega), w32_of (x := 2 * _) (by omega), w32_of (by omega)]
    refine k _ t ⟨?_, ?_, hf⟩
    · unfold gnV; rw [if_pos hp]
    · unfold gnR; rw [if_pos hp]; exact e
  · obtain ⟨hz, e, hf⟩ := ht
    refine k _ t ⟨?_, ?_, hf⟩
    · unfold gnV; rw [if_neg (by omega)]
    · unfold gnR; rw [if_neg (by omega)]; exact e
/-- neither would have more by another one -/
def stB (o1 o2 : Nat → Int) (n : Nat) : Bool := !an (fun i => decide (o1 n < o1 (4 * i + n % 4)) || decide (o2 n < o2 (4 * (n / 4) + i))) 4
theorem stB_iff {o1 o2 : Nat → Int} {n : Nat} : stB o1 o2 n = true ↔ ∀ i, i < 4 → ¬ o1 n < o1 (4 * i + n % 4) ∧ ¬ o2 n < o2 (4 * (n / 4) + i) := by
  unfold stB
  rw [Bool.not_eq_true', an_false]
  constructor
  · intro h i hi
    have := h i hi
    rw [Bool.or_eq_false_iff, decide_eq_false_iff_not, decide_eq_false_iff_not] at this; exact this
  · intro h i hi
    have := h i hi
    rw [Bool.or_eq_false_iff, decide_eq_false_iff_not, decide_eq_false_iff_not]; exact this
theorem stB_congr {o1 o2 p1 p2 : Nat → Int} {n : Nat} (hn : n < 16) (h1 : ∀ i, i < 16 → o1 i = p1 i) (h2 : ∀ i, i < 16 → o2 i = p2 i) : stB o1 o2 n = stB p1 p2 n := by
  unfold stB
  congr 1
  refine an_congr (fun i hi => ?_)
  rw [h1 n hn, h2 n hn, h1 _ (by omega), h2 _ (by omega)]
theorem v112 {X : (Nat → Int) × Nat} {d : Nat} {s : mSt} {Q : mQ} {x1 : Int}
  (I11 : Int → Int → Int → Prop) (m11 : Int → Int → Int → Nat)
  (z1 : ∀ y2 : Int, ∀ y3 : Int, ∀ y4 : Int, I11 y2 y3 y4 → 4 ≤ y4 → Q (some (mI 1)) s)
  (z2 : ∀ y2 : Int, ∀ y3 : Int, ∀ y4 : Int, I11 y2 y3 y4 → ¬ 4 ≤ y4 → 0 ≤ (w32 ((w32 (y4 * 4)) + y3)) ∧ (w32 ((w32 (y4 * 4)) + y3)) < 16)
  (z3 : ∀ y2 : Int, ∀ y3 : Int, ∀ y4 : Int, I11 y2 y3 y4 → ¬ 4 ≤ y4 → 0 ≤ x1 ∧ x1 < 16)
  (z4 : ∀ y2 : Int, ∀ y3 : Int, ∀ y4 : Int, I11 y2 y3 y4 → ¬ 4 ≤ y4 → (s 66 x1.toNat) < (s 66 (w32 ((w32 (y4 * 4)) + y3)).toNat) → Q (some (mI 0)) s)
  (z5 : ∀ y2 : Int, ∀ y3 : Int, ∀ y4 : Int, I11 y2 y3 y4 → ¬ 4 ≤ y4 → ¬ (s 66 x1.toNat) < (s 66 (w32 ((w32 (y4 * 4)) + y3)).toNat) → 0 ≤ (w32 ((w32 (y2 * 4)) + y4)) ∧ (w32 ((w32 (y2 * 4)) + y4)) < 16)
  (z6 : ∀ y2 : Int, ∀ y3 : Int, ∀ y4 : Int, I11 y2 y3 y4 → ¬ 4 ≤ y4 → ¬ (s 66 x1.toNat) < (s 66 (w32 ((w32 (y4 * 4)) + y3)).toNat) → 0 ≤ x1 ∧ x1 < 16)
  (z7 : ∀ y2 : Int, ∀ y3 : Int, ∀ y4 : Int, I11 y2 y3 y4 → ¬ 4 ≤ y4 → ¬ (s 66 x1.toNat) < (s 66 (w32 ((w32 (y4 * 4)) + y3)).toNat) → (s 67 (w32 ((w32 (y2 * 4)) + y4)).toNat) ≤ (s 67 x1.toNat) → I11 y2 y3 (w32 (y4 + 1)) ∧ m11 y2 y3 (w32 (y4 + 1)) < m11 y2 y3 y4)
  (z8 : ∀ y2 : Int, ∀ y3 : Int, ∀ y4 : Int, I11 y2 y3 y4 → ¬ 4 ≤ y4 → ¬ (s 66 x1.toNat) < (s 66 (w32 ((w32 (y4 * 4)) + y3)).toNat) → ¬ (s 67 (w32 ((w32 (y2 * 4)) + y4)).toNat) ≤ (s 67 x1.toNat) → Q (some (mI 0)) s)
  (z9 : I11 (w32 (Int.tdiv x1 4)) (Int.tmod x1 4) 0) :
  Sp X d 112 [mR 53, mI x1] s Q := by
  have L : ∀ k : Nat, (∀ (y2 : Int) (y3 : Int) (y4 : Int), I11 y2 y3 y4 → m11 y2 y3 y4 < k → Wp X d 112 11 [some (mR 53), some (mI x1), some (mI y2), some (mI y3), some (mI y4)] [] s Q) := by
    intro k
    induction k with
    | zero => exact fun _ _ _ _ h => absurd h (Nat.not_lt_zero _)
    | succ k ih => exact fun y2 y3 y4 hI hm => b112_11 (fun q1 => b112_65 (z1 y2 y3 y4 hI q1)) (fun q2 => b112_17 (z2 y2 y3 y4 hI q2) (z3 y2 y3 y4 hI q2) (fun q3 => b112_57 (z4 y2 y3 y4 hI q2 q3)) (fun q4 => b112_37 (z5 y2 y3 y4 hI q2 q4) (z6 y2 y3 y4 hI q2 q4) (fun q5 => b112_59 (ih y2 y3 (w32 (y4 + 1)) (z7 y2 y3 y4 hI q2 q4 q5).1 (Nat.lt_of_lt_of_le (z7 y2 y3 y4 hI q2 q4 q5).2 (Nat.le_of_lt_succ hm)))) (fun q6 => b112_57 (z8 y2 y3 y4 hI q2 q4 q6))))
  exact e112 (b112_0 ((L (m11 (w32 (Int.tdiv x1 4)) (Int.tmod x1 4) 0 + 1)) (w32 (Int.tdiv x1 4)) (Int.tmod x1 4) 0 z9 (Nat.lt_succ_self _)))

theorem c112 {X : (Nat → Int) × Nat} {d : Nat} {s : mSt} {Q : mQ} {x1 : Int} (p1 : 0 ≤ x1 ∧ x1 < 16) (k1 : (stB (s 66) (s 67) x1.toNat = true) → Q (some (mI 1)) s) (k0 : ¬ (stB (s 66) (s 67) x1.toNat = true) → Q (some (mI 0)) s) : Sp X d 112 [mR 53, mI x1] s Q := by
  let n : Nat := x1.toNat
  have hn : n = x1.toNat := rfl
  have d1 : Int.tdiv x1 4 = ((n / 4 : Nat) : Int) := by rw [Int.tdiv_eq_ediv_of_nonneg p1.1]; omega
  have d2 : Int.tmod x1 4 = ((n % 4 : Nat) : Int) := by rw [Int.tmod_eq_emod_of_nonneg p1.1]; omega
  let J : Int → Int → Int → Prop := fun y2 y3 y4 => ∃ i : Nat, y2 = ((n / 4 : Nat) : Int) ∧ y3 = ((n % 4 : Nat) : Int) ∧ y4 = i ∧ i ≤ 4 ∧ ∀ u, u < i → ¬ s 66 n < s 66 (4 * u + n % 4) ∧ ¬ s 67 n < s 67 (4 * (n / 4) + u)
  have i1 : ∀ i : Nat, i < 4 → w32 (w32 ((i : Int) * 4) + ((n % 4 : Nat) : Int)) = ((4 * i + n % 4 : Nat) : Int) := fun i hi => by
    rw [w32_of (x := (i : Int) * 4) (by omega), w32_of (by omega)]; omega
  have i2 : ∀ i : Nat, i < 4 → w32 (w32 (((n / 4 : Nat) : Int) * 4) + (i : Int)) = ((4 * (n / 4) + i : Nat) : Int) := fun i hi => by
    rw [w32_of (x := ((n / 4 : Nat) : Int) * 4) (by omega), w32_of (by omega)]; omega
  refine v112 J (fun _ _ y => (4 - y).toNat) ?_ ?_ ?_ ?_ ?_ ?_ ?_ ?_ ⟨0, by rw [d1, w32_of (by omega)], d2, rfl, by omega, fun u hu => by omega⟩
  · rintro _ _ _ ⟨i, rfl, rfl, rfl, hi, hv⟩ hc
    exact k1 (stB_iff.2 (fun u hu => hv u (by omega)))
  · rintro _ _ _ ⟨i, rfl, rfl, rfl, hi, hv⟩ hc
    rw [i1 i (by omega)]; omega
  · rintro _ _ _ ⟨i, rfl, rfl, rfl, hi, hv⟩ hc
    exact p1
  · rintro _ _ _ ⟨i, rfl, rfl, rfl, hi, hv⟩ hc hz
    rw [i1 i (by omega), tnc] at hz
    exact k0 (fun w => (stB_iff.1 w i (by omega)).1 hz)
  · rintro _ _ _ ⟨i, rfl, rfl, rfl, hi, hv⟩ hc hz
    rw [i2 i (by omega)]; omega
  · rintro _ _ _ ⟨i, rfl, rfl, rfl, hi, hv⟩ hc hz
    exact p1
  · rintro _ _ _ ⟨i, rfl, rfl, rfl, hi, hv⟩ hc hz hz2
    rw [i1 i (by omega), tnc] at hz
    rw [i2 i (by omega), tnc] at hz2
    rw [w32_of (by omega)]
    refine ⟨⟨i + 1, rfl, rfl, by omega, by omega, fun u hu => ?_⟩, by omega⟩
    by_cases z : u = i
    · rw [z]; exact ⟨hz, fun w => by have : s 67 n < s 67 (4 * (n / 4) + i) := w; omega⟩
    · exact hv u (by omega)
  · rintro _ _ _ ⟨i, rfl, rfl, rfl, hi, hv⟩ hc hz hz2
    rw [i2 i (by omega), tnc] at hz2
    refine k0 (fun w => (stB_iff.1 w i (by omega)).2 ?_)
    show s 67 n < s 67 (4 * (n / 4) + i)
    omega
theorem v288 {X : (Nat → Int) × Nat} {d : Nat} {s : mSt} {Q : mQ} {x1 : Int} {x2 : Int}
  (I2 : Int → Prop) (m2 : Int → Nat)
  (z1 : ∀ y3 : Int, I2 y3 → 4 ≤ y3 → Q (some (mI 1)) s)
  (z2 : ∀ y3 : Int, I2 y3 → ¬ 4 ≤ y3 → 0 ≤ (w32 (2 * (w32 ((w32 (4 * y3)) + x2)))) ∧ (w32 (2 * (w32 ((w32 (4 * y3)) + x2)))) < 32)
  (z3 : ∀ y3 : Int, I2 y3 → ¬ 4 ≤ y3 → 0 ≤ (w32 (2 * (w32 ((w32 (4 * x1)) + x2)))) ∧ (w32 (2 * (w32 ((w32 (4 * x1)) + x2)))) < 32)
  (z4 : ∀ y3 : Int, I2 y3 → ¬ 4 ≤ y3 → (s 433 (w32 (2 * (w32 ((w32 (4 * x1)) + x2)))).toNat) < (s 433 (w32 (2 * (w32 ((w32 (4 * y3)) + x2)))).toNat) → Q (some (mI 0)) s)
  (z5 : ∀ y3 : Int, I2 y3 → ¬ 4 ≤ y3 → ¬ (s 433 (w32 (2 * (w32 ((w32 (4 * x1)) + x2)))).toNat) < (s 433 (w32 (2 * (w32 ((w32 (4 * y3)) + x2)))).toNat) → 0 ≤ (w32 ((w32 (2 * (w32 ((w32 (4 * x1)) + y3)))) + 1)) ∧ (w32 ((w32 (2 * (w32 ((w32 (4 * x1)) + y3)))) + 1)) < 32)
  (z6 : ∀ y3 : Int, I2 y3 → ¬ 4 ≤ y3 → ¬ (s 433 (w32 (2 * (w32 ((w32 (4 * x1)) + x2)))).toNat) < (s 433 (w32 (2 * (w32 ((w32 (4 * y3)) + x2)))).toNat) → 0 ≤ (w32 ((w32 (2 * (w32 ((w32 (4 * x1)) + x2)))) + 1)) ∧ (w32 ((w32 (2 * (w32 ((w32 (4 * x1)) + x2)))) + 1)) < 32)
  (z7 : ∀ y3 : Int, I2 y3 → ¬ 4 ≤ y3 → ¬ (s 433 (w32 (2 * (w32 ((w32 (4 * x1)) + x2)))).toNat) < (s 433 (w32 (2 * (w32 ((w32 (4 * y3)) + x2)))).toNat) → (s 433 (w32 ((w32 (2 * (w32 ((w32 (4 * x1)) + y3)))) + 1)).toNat) ≤ (s 433 (w32 ((w32 (2 * (w32 ((w32 (4 * x1)) + x2)))) + 1)).toNat) → I2 (w32 (y3 + 1)) ∧ m2 (w32 (y3 + 1)) < m2 y3)
  (z8 : ∀ y3 : Int, I2 y3 → ¬ 4 ≤ y3 → ¬ (s 433 (w32 (2 * (w32 ((w32 (4 * x1)) + x2)))).toNat) < (s 433 (w32 (2 * (w32 ((w32 (4 * y3)) + x2)))).toNat) → ¬ (s 433 (w32 ((w32 (2 * (w32 ((w32 (4 * x1)) + y3)))) + 1)).toNat) ≤ (s 433 (w32 ((w32 (2 * (w32 ((w32 (4 * x1)) + x2)))) + 1)).toNat) → Q (some (mI 0)) s)
  (z9 : I2 0) :
  Sp X d 288 [mR 407, mI x1, mI x2] s Q := by
  have L : ∀ k : Nat, (∀ (y3 : Int), I2 y3 → m2 y3 < k → Wp X d 288 2 [some (mR 407), some (mI x1), some (mI x2), some (mI y3)] [] s Q) := by
    intro k
    induction k with
    | zero => exact fun _ _ h => absurd h (Nat.not_lt_zero _)
    | succ k ih => exact fun y3 hI hm => b288_2 (fun q1 => b288_73 (z1 y3 hI q1)) (fun q2 => b288_7 (z2 y3 hI q2) (z3 y3 hI q2) (fun q3 => b288_65 (z4 y3 hI q2 q3)) (fun q4 => b288_34 (z5 y3 hI q2 q4) (z6 y3 hI q2 q4) (fun q5 => b288_67 (ih (w32 (y3 + 1)) (z7 y3 hI q2 q4 q5).1 (Nat.lt_of_lt_of_le (z7 y3 hI q2 q4 q5).2 (Nat.le_of_lt_succ hm)))) (fun q6 => b288_65 (z8 y3 hI q2 q4 q6))))
  exact e288 (b288_0 ((L (m2 0 + 1)) 0 z9 (Nat.lt_succ_self _)))

theorem c288 {X : (Nat → Int) × Nat} {d : Nat} {s : mSt} {Q : mQ} {x1 : Int} {x2 : Int} (p1 : (0 ≤ x1 ∧ x1 < 4) ∧ (0 ≤ x2 ∧ x2 < 4)) (k1 : (stB (fun i => s 433 (2 * i)) (fun i => s 433 (2 * i + 1)) (4 * x1.toNat + x2.toNat) = true) → Q (some (mI 1)) s) (k0 : ¬ (stB (fun i => s 433 (2 * i)) (fun i => s 433 (2 * i + 1)) (4 * x1.toNat + x2.toNat) = true) → Q (some (mI 0)) s) : Sp X d 288 [mR 407, mI x1, mI x2] s Q := by
  obtain ⟨h1, h2⟩ := p1
  let n : Nat := 4 * x1.toNat + x2.toNat
  have hn : n = 4 * x1.toNat + x2.toNat := rfl
  have m1 : n % 4 = x2.toNat := by omega
  have m2 : n / 4 = x1.toNat := by omega
  let J : Int → Prop := fun y => ∃ i : Nat, y = i ∧ i ≤ 4 ∧ ∀ u, u < i → ¬ s 433 (2 * n) < s 433 (2 * (4 * u + n % 4)) ∧ ¬ s 433 (2 * n + 1) < s 433 (2 * (4 * (n / 4) + u) + 1)
  have ii : ∀ a b : Int, (0 ≤ a ∧ a < 4) → (0 ≤ b ∧ b < 4) → w32 (2 * w32 (w32 (4 * a) + b)) = ((2 * (4 * a.toNat + b.toNat) : Nat) : Int) := fun a b ha hb => by
    rw [w32_of (x := 4 * a) (by omega), w32_of (x := 4 * a + b) (by omega), w32_of (by omega)]; omega
  have ij : ∀ m : Nat, m < 16 → w32 (((2 * m : Nat) : Int) + 1) = ((2 * m + 1 : Nat) : Int) := fun m hm => by rw [w32_of (by omega)]; omega
  refine v288 J (fun y => (4 - y).toNat) ?_ ?_ ?_ ?_ ?_ ?_ ?_ ?_ ⟨0, rfl, by omega, fun u hu => by omega⟩
  · rintro _ ⟨i, rfl, hi, hv⟩ hc
    exact k1 (stB_iff.2 (fun u hu => hv u (by omega)))
  · rintro _ ⟨i, rfl, hi, hv⟩ hc
    rw [ii _ _ (by omega) h2]; omega
  · rintro _ ⟨i, rfl, hi, hv⟩ hc
    rw [ii _ _ h1 h2]; omega
  · rintro _ ⟨i, rfl, hi, hv⟩ hc hz
    rw [ii _ _ h1 h2, ii _ _ (by omega) h2, tnc, tnc, tnc] at hz
    refine k0 (fun w => (stB_iff.1 w i (by omega)).1 ?_)
    show s 433 (2 * n) < s 433 (2 * (4 * i + n % 4))
    rw [m1]; exact hz
  · rintro _ ⟨i, rfl, hi, hv⟩ hc hz
    rw [ii _ _ h1 (by omega), ij _ (by omega)]; omega
  · rintro _ ⟨i, rfl, hi, hv⟩ hc hz
    rw [ii _ _ h1 h2, ij _ (by omega)]; omega
  · rintro _ ⟨i, rfl, hi, hv⟩ hc hz hz2
    rw [ii _ _ h1 h2, ii _ _ (by omega) h2, tnc, tnc, tnc] at hz
    rw [ii _ _ h1 (by omega), ii _ _ h1 h2, ij _ (by omega), ij _ (by omega), tnc, tnc, tnc] at hz2
    rw [w32_of (by omega)]
    refine ⟨⟨i + 1, by omega, by omega, fun u hu => ?_⟩, by omega⟩
    by_cases z : u = i
    · rw [z, m1, m2]
      refine ⟨hz, fun w => ?_⟩
      have w' : s 433 (2 * (4 * x1.toNat + x2.toNat) + 1) < s 433 (2 * (4 * x1.toNat + i) + 1) := w
      omega
    · exact hv u (by omega)
  · rintro _ ⟨i, rfl, hi, hv⟩ hc hz hz2
    rw [ii _ _ h1 (by omega), ii _ _ h1 h2, ij _ (by omega), ij _ (by omega), tnc, tnc, tnc] at hz2
    refine k0 (fun w => (stB_iff.1 w i (by omega)).2 ?_)
    show s 433 (2 * n + 1) < s 433 (2 * (4 * (n / 4) + i) + 1)
    rw [m2]
    show s 433 (2 * (4 * x1.toNat + x2.toNat) + 1) < s 433 (2 * (4 * x1.toNat + i) + 1)
    omega
