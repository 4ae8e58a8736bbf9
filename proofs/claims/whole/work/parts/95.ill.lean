/-! days of drawn illness -/
def drN (x : Int) : Int := (x * 1103515245 + 12345) % 2147483648
theorem drN_b (x : Int) : 0 ≤ drN x ∧ drN x < 2147483648 := by unfold drN; omega
theorem drN_w {x : Int} (h : 0 ≤ x ∧ x < 2147483648) : Int.tmod (w64 (w64 (x * 1103515245) + 12345)) 2147483648 = drN x := by
  rw [w64_of (x := x * 1103515245) (by omega), w64_of (by omega), Int.tmod_eq_emod_of_nonneg (by omega)]; rfl
theorem v115 {X : (Nat → Int) × Nat} {d : Nat} {s : mSt} {Q : mQ}
  (z1 : Q (some (mI (w32 (Int.tdiv ((uS s 53 9 (w32 (Int.tmod (w64 ((w64 ((s 53 9) * 1103515245)) + 12345)) 2147483648))) 53 9) 65536)))) (uS s 53 9 (w32 (Int.tmod (w64 ((w64 ((s 53 9) * 1103515245)) + 12345)) 2147483648)))) :
  Sp X d 115 [mR 53] s Q := e115 (b115_0 z1)

theorem c115 {X : (Nat → Int) × Nat} {d : Nat} {s : mSt} {Q : mQ} (p1 : 0 ≤ s 53 9 ∧ s 53 9 < 2147483648) (k : Q (some (mI (drN (s 53 9) / 65536))) (uS s 53 9 (drN (s 53 9)))) : Sp X d 115 [mR 53] s Q := by
  have b := drN_b (s 53 9)
  refine v115 ?_
  rw [drN_w p1, w32_of (x := drN (s 53 9)) (by omega), uS_at, if_pos rfl, Int.tdiv_eq_ediv_of_nonneg b.1, w32_of (by omega)]
  exact k
theorem v304 {X : (Nat → Int) × Nat} {d : Nat} {s : mSt} {Q : mQ} {x1 : Int}
  (z1 : x1 ≠ 0)
  (z2 : Q (some (mI (w32 (Int.tmod (w64 (Int.tdiv ((uS s 407 53 (Int.tmod (w64 ((w64 ((s 407 53) * 1103515245)) + 12345)) 2147483648)) 407 53) 65536)) x1)))) (uS s 407 53 (Int.tmod (w64 ((w64 ((s 407 53) * 1103515245)) + 12345)) 2147483648))) :
  Sp X d 304 [mR 407, mI x1] s Q := e304 (b304_0 z1 z2)

theorem c304 {X : (Nat → Int) × Nat} {d : Nat} {s : mSt} {Q : mQ} {x1 : Int} (p1 : (0 ≤ s 407 53 ∧ s 407 53 < 2147483648) ∧ 0 < x1) (k : Q (some (mI (drN (s 407 53) / 65536 % x1))) (uS s 407 53 (drN (s 407 53)))) : Sp X d 304 [mR 407, mI x1] s Q := by
  have b := drN_b (s 407 53)
  refine v304 (by omega) ?_
  have m1 := Int.emod_nonneg (drN (s 407 53) / 65536) (show x1 ≠ 0 by omega)
  have m2 : drN (s 407 53) / 65536 % x1 ≤ drN (s 407 53) / 65536 := by
    have := Int.emod_add_mul_ediv (drN (s 407 53) / 65536) x1
    have h2 : 0 ≤ x1 * (drN (s 407 53) / 65536 / x1) := Int.mul_nonneg (by omega) (Int.ediv_nonneg (by omega) (by omega))
    omega
  rw [drN_w p1.1, uS_at, if_pos rfl, Int.tdiv_eq_ediv_of_nonneg b.1, w64_of (by omega), Int.tmod_eq_emod_of_nonneg (by omega), w32_of (by omega)]
  exact k
/-- an illness is drawn -/
def ilA (a : Rw) (x p : Int) : Rw × Int := if drN x / 65536 % 100 < p ∧ 0 < a 4 then (wtR a (drN (drN x) / 65536 % a 4).toNat, drN (drN x)) else (a, drN x)
theorem il_i {a : Rw} (h : Ok a) (hc : 0 < a 4) (x : Int) : 0 ≤ drN x / 65536 % a 4 ∧ drN x / 65536 % a 4 < a 4 := ⟨Int.emod_nonneg _ (by omega), Int.emod_lt_of_pos _ hc⟩
theorem ilA_ok {a : Rw} (h : Ok a) (x p : Int) : Ok (ilA a x p).1 ∧ (0 ≤ (ilA a x p).2 ∧ (ilA a x p).2 < 2147483648) ∧ ∀ j, (j < 41 ∨ 77 ≤ j) → (ilA a x p).1 j = a j := by
  have h4 := ok4 h
  unfold ilA
  split
  · next z =>
    have i := il_i h z.2 (drN x)
    exact ⟨wtR_ok h (by omega), drN_b _, fun j hj => wtR_o hj (by omega)⟩
  · exact ⟨h, drN_b _, fun _ _ => rfl⟩
def f53 (s t : mSt) : Prop := (∀ b, b ≠ 53 → ¬ (54 ≤ b ∧ b ≤ 54 + 9) → t b = s b) ∧ ∀ j, j ≠ 9 → t 53 j = s 53 j
theorem v114 {X : (Nat → Int) × Nat} {d : Nat} {s : mSt} {Q : mQ} {x1 : Int}
  (z1 : 0 ≤ s 53 9 ∧ s 53 9 < 2147483648)
  (z2 : ∀ t1 : mSt, t1 = uS s 53 9 (drN (s 53 9)) → x1 ≤ (Int.tmod (drN (s 53 9) / 65536) 100) → Q none t1)
  (z3 : ∀ t1 : mSt, t1 = uS s 53 9 (drN (s 53 9)) → ¬ x1 ≤ (Int.tmod (drN (s 53 9) / 65536) 100) → (t1 54 3) ≤ 0 → Q none t1)
  (z4 : ∀ t1 : mSt, t1 = uS s 53 9 (drN (s 53 9)) → ¬ x1 ≤ (Int.tmod (drN (s 53 9) / 65536) 100) → ¬ (t1 54 3) ≤ 0 → 0 ≤ t1 53 9 ∧ t1 53 9 < 2147483648)
  (z5 : ∀ t1 : mSt, t1 = uS s 53 9 (drN (s 53 9)) → ¬ x1 ≤ (Int.tmod (drN (s 53 9) / 65536) 100) → ¬ (t1 54 3) ≤ 0 → ∀ t6 : mSt, t6 = uS t1 53 9 (drN (t1 53 9)) → (t6 54 3) ≠ 0)
  (z6 : ∀ t1 : mSt, t1 = uS s 53 9 (drN (s 53 9)) → ¬ x1 ≤ (Int.tmod (drN (s 53 9) / 65536) 100) → ¬ (t1 54 3) ≤ 0 → ∀ t6 : mSt, t6 = uS t1 53 9 (drN (t1 53 9)) → BI t6 54 ∧ (0 ≤ (Int.tmod (drN (t1 53 9) / 65536) (t6 54 3)) ∧ (Int.tmod (drN (t1 53 9) / 65536) (t6 54 3)) < t6 54 3))
  (z7 : ∀ t1 : mSt, t1 = uS s 53 9 (drN (s 53 9)) → ¬ x1 ≤ (Int.tmod (drN (s 53 9) / 65536) 100) → ¬ (t1 54 3) ≤ 0 → ∀ t6 : mSt, t6 = uS t1 53 9 (drN (t1 53 9)) → ∀ s7 : mSt, (BI s7 54 ∧ brow s7 54 = wtR (brow t6 54) (Int.tmod (drN (t1 53 9) / 65536) (t6 54 3)).toNat ∧ fB t6 s7 54) → Q none s7) :
  Sp X (d + 1) 114 [mR 53, mI x1] s Q := e114 (b114_0 (c115 z1 ⟨_, rfl, Wp_gen (fun t1 e1 => b114_4 (fun q2 => b114_40 (z2 t1 e1 q2)) (fun q3 => b114_11 (fun q4 => b114_40 (z3 t1 e1 q3 q4)) (fun q5 => b114_21 (c115 (z4 t1 e1 q3 q5) ⟨_, rfl, Wp_gen (fun t6 e6 => b114_29 (z5 t1 e1 q3 q5 t6 e6) (c24 (bdm rfl) (z6 t1 e1 q3 q5 t6 e6) (fun s7 q7 => ⟨rfl, b114_40 (z7 t1 e1 q3 q5 t6 e6 s7 q7)⟩)))⟩))))⟩))

theorem c114 {X : (Nat → Int) × Nat} {d : Nat} {s : mSt} {Q : mQ} {x1 : Int} (p1 : BI s 54 ∧ (0 ≤ s 53 9 ∧ s 53 9 < 2147483648)) (k : ∀ t : mSt, (BI t 54 ∧ brow t 54 = (ilA (brow s 54) (s 53 9) x1).1 ∧ t 53 9 = (ilA (brow s 54) (s 53 9) x1).2 ∧ f53 s t) → Q none t) : Sp X (d + 1) 114 [mR 53, mI x1] s Q := by
  obtain ⟨hB, hx⟩ := p1
  have h4 := bi4 hB
  have b := drN_b (s 53 9)
  have b2 := drN_b (drN (s 53 9))
  have e1 : Int.tmod (drN (s 53 9) / 65536) 100 = drN (s 53 9) / 65536 % 100 := Int.tmod_eq_emod_of_nonneg (by omega)
  have c1 : ∀ t : mSt, t = uS s 53 9 (drN (s 53 9)) → (BI t 54 ∧ brow t 54 = brow s 54) ∧ t 54 = s 54 ∧ t 53 9 = drN (s 53 9) ∧ f53 s t := fun t ht => by
    have ce : ∀ b, b ≠ 53 → t b = s b := fun b hb => by rw [ht]; exact uS_cell hb
    refine ⟨BI_cells hB (fun x hx => ce x (by omega)) (ce 417 (by omega)), ce 54 (by decide), by rw [ht, uS_at, if_pos rfl], fun b hb _ => ce b hb, fun j hj => by rw [ht, uS_at, if_neg hj]⟩
  have no : ∀ t : mSt, t = uS s 53 9 (drN (s 53 9)) → ¬ (drN (s 53 9) / 65536 % 100 < x1 ∧ 0 < brow s 54 4) → Q none t := fun t ht z => by
    have c := c1 t ht
    refine k t ⟨c.1.1, ?_, ?_, c.2.2.2⟩
    · unfold ilA; rw [if_neg z]; exact c.1.2
    · unfold ilA; rw [if_neg z]; exact c.2.2.1
  have im : ∀ t1 t6 : mSt, t1 = uS s 53 9 (drN (s 53 9)) → ¬ t1 54 3 ≤ 0 → t6 = uS t1 53 9 (drN (t1 53 9)) → (BI t6 54 ∧ brow t6 54 = brow s 54) ∧ t6 54 3 = brow s 54 4 ∧ 0 < brow s 54 4 ∧ Int.tmod (drN (t1 53 9) / 65536) (t6 54 3) = drN (drN (s 53 9)) / 65536 % brow s 54 4 ∧ t6 53 9 = drN (drN (s 53 9)) ∧ f53 s t6 := fun t1 t6 h1 hz h6 => by
    have c := c1 t1 h1
    rw [c.2.1, h4] at hz
    have ce : ∀ b, b ≠ 53 → t6 b = t1 b := fun b hb => by rw [h6]; exact uS_cell hb
    have q := BI_cells (t := t6) c.1.1 (fun x hx => ce x (by omega)) (ce 417 (by omega))
    have e3 : t6 54 3 = brow s 54 4 := by rw [ce 54 (by decide), c.2.1, h4]
    refine ⟨⟨q.1, q.2.trans c.1.2⟩, e3, by omega, ?_, ?_, fun b hb g => (ce b hb).trans (c.2.2.2.1 b hb g), fun j hj => ?_⟩
    · rw [e3, c.2.2.1, Int.tmod_eq_emod_of_nonneg (by omega)]
    · rw [h6, uS_at, if_pos rfl, c.2.2.1]
    · rw [h6, uS_at, if_neg hj]; exact c.2.2.2.2 j hj
  refine v114 hx (fun t1 h1 q => ?_) (fun t1 h1 q q2 => ?_) (fun t1 h1 q q2 => ?_) (fun t1 h1 q q2 t6 h6 => ?_) (fun t1 h1 q q2 t6 h6 => ?_) (fun t1 h1 q q2 t6 h6 t ht => ?_)
  · rw [e1] at q
    exact no t1 h1 (by omega)
  · rw [(c1 t1 h1).2.1, h4] at q2
    exact no t1 h1 (by omega)
  · rw [(c1 t1 h1).2.2.1]; exact b
  · have i := im t1 t6 h1 q2 h6
    omega
  · have i := im t1 t6 h1 q2 h6
    have j := il_i hB.1 i.2.2.1 (drN (s 53 9))
    rw [i.2.2.2.1, i.2.1]; exact ⟨i.1.1, j⟩
  · have i := im t1 t6 h1 q2 h6
    rw [e1] at q
    rw [i.2.2.2.1, i.1.2] at ht
    refine k t ⟨ht.1, ?_, ?_, fun b hb g => (ht.2.2 b g).trans (i.2.2.2.2.2.1 b hb g), fun j hj => ?_⟩
    · unfold ilA; rw [if_pos ⟨by omega, i.2.2.1⟩]; exact ht.2.1
    · unfold ilA; rw [if_pos ⟨by omega, i.2.2.1⟩, ht.2.2 53 (by omega)]; exact i.2.2.2.2.1
    · rw [ht.2.2 53 (by omega)]; exact i.2.2.2.2.2.2 j hj
def ilS (R : Rw → Nat → Int) (p : Int) (q : Rw × Int) : Rw × Int := (stR (R (ilA q.1 q.2 p).1) (ilA q.1 q.2 p).1, (ilA q.1 q.2 p).2)
def ilD (R : Rw → Nat → Int) (p : Int) : Nat → Rw × Int → Rw × Int
  | 0, q => q
  | n + 1, q => ilS R p (ilD R p n q)
theorem ilD_s (R : Rw → Nat → Int) (p : Int) (n : Nat) (q : Rw × Int) : ilD R p (n + 1) q = ilS R p (ilD R p n q) := rfl
theorem ilD_ok {R : Rw → Nat → Int} {p : Int} {a : Rw} {x : Int} (h : Ok a) (hx : 0 ≤ x ∧ x < 2147483648) : ∀ n : Nat, a 5 + n ≤ 1000000 → Ok (ilD R p n (a, x)).1 ∧ (ilD R p n (a, x)).1 5 = a 5 + n ∧ (0 ≤ (ilD R p n (a, x)).2 ∧ (ilD R p n (a, x)).2 < 2147483648) ∧ ∀ j, (j < 5 ∨ 77 ≤ j) → (ilD R p n (a, x)).1 j = a j
  | 0, _ => ⟨h, by show a 5 = a 5 + ((0 : Nat) : Int); omega, hx, fun _ _ => rfl⟩
  | n + 1, hn => by
    have ih := ilD_ok (R := R) (p := p) h hx n (by omega)
    have q := ilA_ok ih.1 (ilD R p n (a, x)).2 p
    have q5 := q.2.2 5 (by omega)
    have r := stR_ok (w := R (ilA (ilD R p n (a, x)).1 (ilD R p n (a, x)).2 p).1) q.1 (by omega)
    rw [ilD_s]
    refine ⟨r.1, ?_, q.2.1, fun j hj => ?_⟩
    · refine r.2.trans ?_
      rw [q5, ih.2.1]; omega
    · refine (stR_o q.1 hj).trans ?_
      rw [q.2.2 j (by omega)]; exact ih.2.2.2 j hj
/-- so many days -/
def ilY (R : Rw → Nat → Int) (p : Int) (n : Nat) (a : Rw) (x : Int) : Nat → Int × Int × Int
  | 0 => (0, 0, x)
  | y + 1 => ((ilY R p n a x y).1 + cn (pl (ilD R p n (a, (ilY R p n a x y).2.2)).1) (nc (ilD R p n (a, (ilY R p n a x y).2.2)).1), (ilY R p n a x y).2.1 + kpa (ilD R p n (a, (ilY R p n a x y).2.2)).1, (ilD R p n (a, (ilY R p n a x y).2.2)).2)
theorem ilY_s (R : Rw → Nat → Int) (p : Int) (n : Nat) (a : Rw) (x : Int) (y : Nat) : ilY R p n a x (y + 1) = ((ilY R p n a x y).1 + cn (pl (ilD R p n (a, (ilY R p n a x y).2.2)).1) (nc (ilD R p n (a, (ilY R p n a x y).2.2)).1), (ilY R p n a x y).2.1 + kpa (ilD R p n (a, (ilY R p n a x y).2.2)).1, (ilD R p n (a, (ilY R p n a x y).2.2)).2) := rfl
theorem ilY_b {R : Rw → Nat → Int} {p : Int} {n : Nat} {a : Rw} {x : Int} (h : Ok a) (hx : 0 ≤ x ∧ x < 2147483648) (hn : a 5 + n ≤ 1000000) : ∀ y : Nat, (0 ≤ (ilY R p n a x y).1 ∧ (ilY R p n a x y).1 ≤ 6 * y) ∧ (0 ≤ (ilY R p n a x y).2.1 ∧ (ilY R p n a x y).2.1 ≤ 180 * y) ∧ (0 ≤ (ilY R p n a x y).2.2 ∧ (ilY R p n a x y).2.2 < 2147483648)
  | 0 => by refine ⟨?_, ?_, hx⟩ <;> · simp only [ilY]; omega
  | y + 1 => by
    have ih := ilY_b (R := R) (p := p) (n := n) h hx hn y
    have q := ilD_ok (R := R) (p := p) h ih.2.2 n hn
    have c := cn_le (f := pl (ilD R p n (a, (ilY R p n a x y).2.2)).1) (n := nc (ilD R p n (a, (ilY R p n a x y).2.2)).1)
    have n6 := nc_le q.1
    have kb := kpa_bd q.1
    rw [ilY_s]
    refine ⟨?_, ?_, q.2.2.1⟩
    · dsimp only; omega
    · dsimp only; omega
def fIl (s t : mSt) : Prop := (∀ b, b ≠ 53 → ¬ (44 ≤ b ∧ b ≤ 52) → ¬ (54 ≤ b ∧ b ≤ 54 + 9) → t b = s b) ∧ ∀ j, ¬ (7 ≤ j ∧ j ≤ 9) → t 53 j = s 53 j
theorem bn113_0 {X : (Nat → Int) × Nat} {d : Nat} {s : mSt} {Q : mQ} {a1 : Nat} {o2 : Option Nat} {x3 : Int} {x4 : Int} {x5 : Int} {l6 : Option mV} {l7 : Option mV} (h1 : isSc a1) (h_1 : Wp X d 113 21 [some (mR 53), some (mR a1), some (Sum.inr (Sum.inr (Sum.inl o2))), some (mI x3), some (mI x4), some (mI x5), some (mI 0), l7] [] (uS (uS (uS s 53 7 0) 53 8 0) 53 9 ((uS (uS s 53 7 0) 53 8 0) a1 4)) Q) : Wp X d 113 0 [some (mR 53), some (mR a1), some (Sum.inr (Sum.inr (Sum.inl o2))), some (mI x3), some (mI x4), some (mI x5), l6, l7] [] s Q := Wp_step k113 f113_0 (Wp_step k113 f113_1 (Wp_step k113 f113_2 ⟨kf_53, Wp_step k113 f113_5 (Wp_step k113 f113_6 (Wp_step k113 f113_7 ⟨kf_53, Wp_step k113 f113_10 (Wp_step k113 f113_11 (Wp_step k113 f113_12 ⟨(sc_k h1), Wp_step k113 f113_15 ⟨kf_53, Wp_step k113 f113_18 (Wp_step k113 f113_19 (h_1))⟩⟩))⟩))⟩))
theorem bn113_21 {X : (Nat → Int) × Nat} {d : Nat} {s : mSt} {Q : mQ} {a1 : Nat} {o2 : Option Nat} {x3 : Int} {x4 : Int} {x5 : Int} {x6 : Int} {l7 : Option mV} (h1 : isSc a1) (h_1 : x3 ≤ x6 → Wp X d 113 114 [some (mR 53), some (mR a1), some (Sum.inr (Sum.inr (Sum.inl o2))), some (mI x3), some (mI x4), some (mI x5), some (mI x6), l7] [] s Q) (h_2 : ¬ x3 ≤ x6 → Wp X d 113 27 [some (mR 53), some (mR a1), some (Sum.inr (Sum.inr (Sum.inl o2))), some (mI x3), some (mI x4), some (mI x5), some (mI x6), l7] [] s Q) : Wp X d 113 21 [some (mR 53), some (mR a1), some (Sum.inr (Sum.inr (Sum.inl o2))), some (mI x3), some (mI x4), some (mI x5), some (mI x6), l7] [] s Q := Wp_step k113 f113_21 (Wp_step k113 f113_23 (Wp_step k113 f113_24 ⟨h_1, h_2⟩))
theorem bn113_27 {X : (Nat → Int) × Nat} {d : Nat} {s : mSt} {Q : mQ} {a1 : Nat} {o2 : Option Nat} {x3 : Int} {x4 : Int} {x5 : Int} {x6 : Int} {l7 : Option mV} (h1 : isSc a1) (h_1 : Sp X d 3 [mR 54, mR (a1 + 11)] s (fun r s' => r = none ∧ Wp X (d + 1) 113 38 [some (mR 53), some (mR a1), some (Sum.inr (Sum.inr (Sum.inl o2))), some (mI x3), some (mI x4), some (mI x5), some (mI x6), l7] [] s' Q)) : Wp X (d + 1) 113 27 [some (mR 53), some (mR a1), some (Sum.inr (Sum.inr (Sum.inl o2))), some (mI x3), some (mI x4), some (mI x5), some (mI x6), l7] [] s Q := Wp_step k113 f113_27 (Wp_step k113 f113_28 ⟨kf_53, 54, rf_53_2, Wp_step k113 f113_31 (Wp_step k113 f113_32 ⟨(sc_k h1), (a1 + 11), (sc_r1 h1), Wp_step k113 f113_35 ⟨⟨kf_54, Nat.le_of_ble_eq_true rfl⟩, Nat.le_refl _, _, rfl, Sp_V h_1⟩⟩)⟩)
theorem bn113_38 {X : (Nat → Int) × Nat} {d : Nat} {s : mSt} {Q : mQ} {a1 : Nat} {o2 : Option Nat} {x3 : Int} {x4 : Int} {x5 : Int} {x6 : Int} {l7 : Option mV} (h1 : isSc a1) (h_1 : Wp X d 113 41 [some (mR 53), some (mR a1), some (Sum.inr (Sum.inr (Sum.inl o2))), some (mI x3), some (mI x4), some (mI x5), some (mI x6), some (mI 0)] [] s Q) : Wp X d 113 38 [some (mR 53), some (mR a1), some (Sum.inr (Sum.inr (Sum.inl o2))), some (mI x3), some (mI x4), some (mI x5), some (mI x6), l7] [] s Q := Wp_step k113 f113_38 (Wp_step k113 f113_39 (h_1))
theorem bn113_41 {X : (Nat → Int) × Nat} {d : Nat} {s : mSt} {Q : mQ} {a1 : Nat} {o2 : Option Nat} {x3 : Int} {x4 : Int} {x5 : Int} {x6 : Int} {x7 : Int} (h1 : isSc a1) (h_1 : x4 ≤ x7 → Wp X d 113 73 [some (mR 53), some (mR a1), some (Sum.inr (Sum.inr (Sum.inl o2))), some (mI x3), some (mI x4), some (mI x5), some (mI x6), some (mI x7)] [] s Q) (h_2 : ¬ x4 ≤ x7 → Wp X d 113 48 [some (mR 53), some (mR a1), some (Sum.inr (Sum.inr (Sum.inl o2))), some (mI x3), some (mI x4), some (mI x5), some (mI x6), some (mI x7)] [] s Q) : Wp X d 113 41 [some (mR 53), some (mR a1), some (Sum.inr (Sum.inr (Sum.inl o2))), some (mI x3), some (mI x4), some (mI x5), some (mI x6), some (mI x7)] [] s Q := Wp_step k113 f113_41 (Wp_step k113 f113_43 (Wp_step k113 f113_45 ⟨h_1, h_2⟩))
theorem bn113_48 {X : (Nat → Int) × Nat} {d : Nat} {s : mSt} {Q : mQ} {a1 : Nat} {o2 : Option Nat} {x3 : Int} {x4 : Int} {x5 : Int} {x6 : Int} {x7 : Int} (h1 : isSc a1) (h_1 : Sp X d 114 [mR 53, mI x5] s (fun r s' => r = none ∧ Wp X (d + 1) 113 54 [some (mR 53), some (mR a1), some (Sum.inr (Sum.inr (Sum.inl o2))), some (mI x3), some (mI x4), some (mI x5), some (mI x6), some (mI x7)] [] s' Q)) : Wp X (d + 1) 113 48 [some (mR 53), some (mR a1), some (Sum.inr (Sum.inr (Sum.inl o2))), some (mI x3), some (mI x4), some (mI x5), some (mI x6), some (mI x7)] [] s Q := Wp_step k113 f113_48 (Wp_step k113 f113_49 (Wp_step k113 f113_51 ⟨⟨kf_53, Nat.le_of_ble_eq_true rfl⟩, Nat.le_refl _, _, rfl, Sp_V h_1⟩))
theorem bn113_54 {X : (Nat → Int) × Nat} {d : Nat} {s : mSt} {Q : mQ} {a1 : Nat} {o2 : Option Nat} {x3 : Int} {x4 : Int} {x5 : Int} {x6 : Int} {x7 : Int} (h1 : isSc a1) (h_1 : Sp X d 117 [mR 50, mR 54, Sum.inr (Sum.inr (Sum.inl o2))] s (fun r s' => ∃ v : Int, r = some (mI v) ∧ Wp X (d + 1) 113 66 [some (mR 53), some (mR a1), some (Sum.inr (Sum.inr (Sum.inl o2))), some (mI x3), some (mI x4), some (mI x5), some (mI x6), some (mI x7)] [mI v] s' Q)) : Wp X (d + 1) 113 54 [some (mR 53), some (mR a1), some (Sum.inr (Sum.inr (Sum.inl o2))), some (mI x3), some (mI x4), some (mI x5), some (mI x6), some (mI x7)] [] s Q := Wp_step k113 f113_54 (Wp_step k113 f113_55 ⟨kf_53, 50, rf_53_1, Wp_step k113 f113_58 (Wp_step k113 f113_59 ⟨kf_53, 54, rf_53_2, Wp_step k113 f113_62 (Wp_step k113 f113_63 ⟨⟨kf_50, Nat.le_of_ble_eq_true rfl⟩, Nat.le_refl _, _, rfl, Sp_E h_1⟩)⟩)⟩)
theorem bn113_66 {X : (Nat → Int) × Nat} {d : Nat} {s : mSt} {Q : mQ} {a1 : Nat} {o2 : Option Nat} {x3 : Int} {x4 : Int} {x5 : Int} {x6 : Int} {x7 : Int} {xt0 : Int} (h1 : isSc a1) (h_1 : Wp X d 113 41 [some (mR 53), some (mR a1), some (Sum.inr (Sum.inr (Sum.inl o2))), some (mI x3), some (mI x4), some (mI x5), some (mI x6), some (mI (w32 (x7 + 1)))] [] s Q) : Wp X d 113 66 [some (mR 53), some (mR a1), some (Sum.inr (Sum.inr (Sum.inl o2))), some (mI x3), some (mI x4), some (mI x5), some (mI x6), some (mI x7)] [mI xt0] s Q := Wp_step k113 f113_66 (Wp_step k113 f113_67 (Wp_step k113 f113_70 (h_1)))
theorem bn113_73 {X : (Nat → Int) × Nat} {d : Nat} {s : mSt} {Q : mQ} {a1 : Nat} {o2 : Option Nat} {x3 : Int} {x4 : Int} {x5 : Int} {x6 : Int} {x7 : Int} (h1 : isSc a1) (h_1 : Sp X d 309 [mI (s 54 5)] s (fun r s' => ∃ v : Int, r = some (mI v) ∧ Wp X (d + 1) 113 88 [some (mR 53), some (mR a1), some (Sum.inr (Sum.inr (Sum.inl o2))), some (mI x3), some (mI x4), some (mI x5), some (mI x6), some (mI x7)] [mI v, mI (s 53 7), mR 53] s' Q)) : Wp X (d + 1) 113 73 [some (mR 53), some (mR a1), some (Sum.inr (Sum.inr (Sum.inl o2))), some (mI x3), some (mI x4), some (mI x5), some (mI x6), some (mI x7)] [] s Q := Wp_step k113 f113_73 (Wp_step k113 f113_74 (Wp_step k113 f113_75 ⟨kf_53, Wp_step k113 f113_78 (Wp_step k113 f113_79 ⟨kf_53, 54, rf_53_2, Wp_step k113 f113_82 ⟨kf_54, Wp_step k113 f113_85 ⟨⟨Nat.le_of_ble_eq_true rfl, Nat.le_refl _⟩, _, rfl, Sp_E h_1⟩⟩⟩)⟩))
theorem bn113_88 {X : (Nat → Int) × Nat} {d : Nat} {s : mSt} {Q : mQ} {a1 : Nat} {o2 : Option Nat} {x3 : Int} {x4 : Int} {x5 : Int} {x6 : Int} {x7 : Int} {xt1 : Int} {xt2 : Int} (h1 : isSc a1) (h_1 : Sp X d 22 [mR 54] (uS s 53 7 (w32 (xt1 + xt2))) (fun r s' => ∃ v : Int, r = some (mI v) ∧ Wp X (d + 1) 113 104 [some (mR 53), some (mR a1), some (Sum.inr (Sum.inr (Sum.inl o2))), some (mI x3), some (mI x4), some (mI x5), some (mI x6), some (mI x7)] [mI v, mI ((uS s 53 7 (w32 (xt1 + xt2))) 53 8), mR 53] s' Q)) : Wp X (d + 1) 113 88 [some (mR 53), some (mR a1), some (Sum.inr (Sum.inr (Sum.inl o2))), some (mI x3), some (mI x4), some (mI x5), some (mI x6), some (mI x7)] [mI xt2, mI xt1, mR 53] s Q := Wp_step k113 f113_88 (Wp_step k113 f113_89 ⟨kf_53, Wp_step k113 f113_92 (Wp_step k113 f113_93 (Wp_step k113 f113_94 ⟨kf_53, Wp_step k113 f113_97 (Wp_step k113 f113_98 ⟨kf_53, 54, rf_53_2, Wp_step k113 f113_101 ⟨⟨kf_54, Nat.le_of_ble_eq_true rfl⟩, Nat.le_refl _, _, rfl, Sp_E h_1⟩⟩)⟩))⟩)
theorem bn113_104 {X : (Nat → Int) × Nat} {d : Nat} {s : mSt} {Q : mQ} {a1 : Nat} {o2 : Option Nat} {x3 : Int} {x4 : Int} {x5 : Int} {x6 : Int} {x7 : Int} {xt1 : Int} {xt2 : Int} (h1 : isSc a1) (h_1 : Wp X d 113 21 [some (mR 53), some (mR a1), some (Sum.inr (Sum.inr (Sum.inl o2))), some (mI x3), some (mI x4), some (mI x5), some (mI (w32 (x6 + 1))), some (mI x7)] [] (uS s 53 8 (w32 (xt1 + xt2))) Q) : Wp X d 113 104 [some (mR 53), some (mR a1), some (Sum.inr (Sum.inr (Sum.inl o2))), some (mI x3), some (mI x4), some (mI x5), some (mI x6), some (mI x7)] [mI xt2, mI xt1, mR 53] s Q := Wp_step k113 f113_104 (Wp_step k113 f113_105 ⟨kf_53, Wp_step k113 f113_108 (Wp_step k113 f113_111 (h_1))⟩)
theorem bn113_114 {X : (Nat → Int) × Nat} {d : Nat} {s : mSt} {Q : mQ} {a1 : Nat} {o2 : Option Nat} {x3 : Int} {x4 : Int} {x5 : Int} {x6 : Int} {l7 : Option mV} (h1 : isSc a1) (h_1 : Q none s) : Wp X d 113 114 [some (mR 53), some (mR a1), some (Sum.inr (Sum.inr (Sum.inl o2))), some (mI x3), some (mI x4), some (mI x5), some (mI x6), l7] [] s Q := Wp_step k113 f113_114 ⟨⟨rfl, Or.inl rfl⟩, h_1⟩
theorem en113 {X : (Nat → Int) × Nat} {d : Nat} {s : mSt} {Q : mQ} {a1 : Nat} {o2 : Option Nat} {x3 : Int} {x4 : Int} {x5 : Int} (h : Wp X d 113 0 [some (mR 53), some (mR a1), some (Sum.inr (Sum.inr (Sum.inl o2))), some (mI x3), some (mI x4), some (mI x5), none, none] [] s Q) : Sp X d 113 [mR 53, mR a1, Sum.inr (Sum.inr (Sum.inl o2)), mI x3, mI x4, mI x5] s Q := Sp_of (show mCe 113 = 0 by decide +kernel) (by rw [show mML 113 = 8 by decide +kernel]; rfl) (Nat.le_trans (Nat.le_of_ble_eq_true (show Nat.ble (mArgs _).length 8 = true from rfl)) (show 8 ≤ mML 113 by decide +kernel)) h

theorem v113 {X : (Nat → Int) × Nat} {d : Nat} {s : mSt} {Q : mQ} {a1 : Nat} {o2 : Option Nat} {x3 : Int} {x4 : Int} {x5 : Int} (h1 : isSc a1)
  (I21 : Int → mSt → Prop) (m21 : Int → mSt → Nat)
  (I41 : Int → Int → mSt → Prop) (m41 : Int → Int → mSt → Nat)
  (z1 : ∀ y6 : Int, ∀ s : mSt, I21 y6 s → x3 ≤ y6 → Q none s)
  (z2 : ∀ y6 : Int, ∀ s : mSt, I21 y6 s → ¬ x3 ≤ y6 → 54 ≠ (a1 + 11) ∧ BI s (a1 + 11))
  (z3 : ∀ y6 : Int, ∀ s : mSt, I21 y6 s → ¬ x3 ≤ y6 → ∀ s3 : mSt, (BI s3 54 ∧ brow s3 54 = brow s (a1 + 11) ∧ fB s s3 54) → I41 y6 0 s3 ∧ m41 y6 0 s3 < m21 y6 s)
  (z4 : ∀ y6 : Int, ∀ y7 : Int, ∀ s : mSt, I41 y6 y7 s → x4 ≤ y7 → 0 ≤ (s 54 5) ∧ (s 54 5) < 1073741824)
  (z5 : ∀ y6 : Int, ∀ y7 : Int, ∀ s : mSt, I41 y6 y7 s → x4 ≤ y7 → ∀ t5 : mSt, t5 = uS s 53 7 (w32 ((s 53 7) + (cn (bq (s 54 5)) 30))) → BI t5 54)
  (z6 : ∀ y6 : Int, ∀ y7 : Int, ∀ s : mSt, I41 y6 y7 s → x4 ≤ y7 → ∀ t5 : mSt, t5 = uS s 53 7 (w32 ((s 53 7) + (cn (bq (s 54 5)) 30))) → I21 (w32 (y6 + 1)) (uS t5 53 8 (w32 (((uS s 53 7 (w32 ((s 53 7) + (cn (bq (s 54 5)) 30)))) 53 8) + (kpa (brow t5 54))))) ∧ m21 (w32 (y6 + 1)) (uS t5 53 8 (w32 (((uS s 53 7 (w32 ((s 53 7) + (cn (bq (s 54 5)) 30)))) 53 8) + (kpa (brow t5 54))))) < m41 y6 y7 s)
  (z7 : ∀ y6 : Int, ∀ y7 : Int, ∀ s : mSt, I41 y6 y7 s → ¬ x4 ≤ y7 → BI s 54 ∧ (0 ≤ s 53 9 ∧ s 53 9 < 2147483648))
  (z8 : ∀ y6 : Int, ∀ y7 : Int, ∀ s : mSt, I41 y6 y7 s → ¬ x4 ≤ y7 → ∀ s7 : mSt, (BI s7 54 ∧ brow s7 54 = (ilA (brow s 54) (s 53 9) x5).1 ∧ s7 53 9 = (ilA (brow s 54) (s 53 9) x5).2 ∧ f53 s s7) → BI s7 54 ∧ ¬ s7 54 0 = 0 ∧ brow s7 54 5 < 1000000 ∧ oRq s7 o2)
  (z9 : ∀ y6 : Int, ∀ y7 : Int, ∀ s : mSt, I41 y6 y7 s → ¬ x4 ≤ y7 → ∀ s7 : mSt, (BI s7 54 ∧ brow s7 54 = (ilA (brow s 54) (s 53 9) x5).1 ∧ s7 53 9 = (ilA (brow s 54) (s 53 9) x5).2 ∧ f53 s s7) → ∀ v8 : Int, ∀ s8 : mSt, (v8 = (if chA (ruC s7 o2 (brow s7 54)) (brow s7 54) < 0 then -2 else chA (ruC s7 o2 (brow s7 54)) (brow s7 54)) ∧ BI s8 54 ∧ brow s8 54 = stR (ruC s7 o2 (brow s7 54)) (brow s7 54) ∧ fTB s7 s8 54) → I41 y6 (w32 (y7 + 1)) s8 ∧ m41 y6 (w32 (y7 + 1)) s8 < m41 y6 y7 s)
  (z10 : I21 0 (uS (uS (uS s 53 7 0) 53 8 0) 53 9 ((uS (uS s 53 7 0) 53 8 0) a1 4))) :
  Sp X (d + 11) 113 [mR 53, mR a1, Sum.inr (Sum.inr (Sum.inl o2)), mI x3, mI x4, mI x5] s Q := by
  have L : ∀ k : Nat, (∀ (y6 : Int) (l7 : Option mV) (s : mSt), I21 y6 s → m21 y6 s < k → Wp X (d + 11) 113 21 [some (mR 53), some (mR a1), some (Sum.inr (Sum.inr (Sum.inl o2))), some (mI x3), some (mI x4), some (mI x5), some (mI y6), l7] [] s Q) ∧ (∀ (y6 : Int) (y7 : Int) (s : mSt), I41 y6 y7 s → m41 y6 y7 s < k → Wp X (d + 11) 113 41 [some (mR 53), some (mR a1), some (Sum.inr (Sum.inr (Sum.inl o2))), some (mI x3), some (mI x4), some (mI x5), some (mI y6), some (mI y7)] [] s Q) := by
    intro k
    induction k with
    | zero => exact ⟨fun _ _ _ _ h => absurd h (Nat.not_lt_zero _), fun _ _ _ _ h => absurd h (Nat.not_lt_zero _)⟩
    | succ k ih => exact ⟨fun y6 l7 s hI hm => bn113_21 h1 (fun q1 => bn113_114 h1 (z1 y6 s hI q1)) (fun q2 => bn113_27 h1 (c3 (bdm rfl) (sc_o1 h1) (z2 y6 s hI q2) (fun s3 q3 => ⟨rfl, bn113_38 h1 (ih.2 y6 0 s3 (z3 y6 s hI q2 s3 q3).1 (Nat.lt_of_lt_of_le (z3 y6 s hI q2 s3 q3).2 (Nat.le_of_lt_succ hm)))⟩))), fun y6 y7 s hI hm => bn113_41 h1 (fun q4 => bn113_73 h1 (c309 (z4 y6 y7 s hI q4) ⟨_, rfl, bn113_88 h1 (Sp_gen (fun t5 e5 => (c22 (bdm rfl) (z5 y6 y7 s hI q4 t5 e5) ⟨_, rfl, bn113_104 h1 (ih.1 (w32 (y6 + 1)) (some (mI y7)) (uS t5 53 8 (w32 (((uS s 53 7 (w32 ((s 53 7) + (cn (bq (s 54 5)) 30)))) 53 8) + (kpa (brow t5 54))))) (z6 y6 y7 s hI q4 t5 e5).1 (Nat.lt_of_lt_of_le (z6 y6 y7 s hI q4 t5 e5).2 (Nat.le_of_lt_succ hm)))⟩)))⟩)) (fun q6 => bn113_48 h1 (c114 (z7 y6 y7 s hI q6) (fun s7 q7 => ⟨rfl, bn113_54 h1 (c117 (bdm rfl) (z8 y6 y7 s hI q6 s7 q7) (fun v8 s8 q8 => ⟨v8, rfl, bn113_66 h1 (ih.2 y6 (w32 (y7 + 1)) s8 (z9 y6 y7 s hI q6 s7 q7 v8 s8 q8).1 (Nat.lt_of_lt_of_le (z9 y6 y7 s hI q6 s7 q7 v8 s8 q8).2 (Nat.le_of_lt_succ hm)))⟩))⟩)))⟩
  exact en113 (bn113_0 h1 ((L (m21 0 (uS (uS (uS s 53 7 0) 53 8 0) 53 9 ((uS (uS s 53 7 0) 53 8 0) a1 4)) + 1)).1 0 none (uS (uS (uS s 53 7 0) 53 8 0) 53 9 ((uS (uS s 53 7 0) 53 8 0) a1 4)) z10 (Nat.lt_succ_self _)))

theorem c113 {X : (Nat → Int) × Nat} {d : Nat} {s : mSt} {Q : mQ} {a1 : Nat} {o2 : Option Nat} {x3 : Int} {x4 : Int} {x5 : Int} (h1 : isSc a1) (p1 : BI s (a1 + 11) ∧ ¬ s (a1 + 11) 0 = 0 ∧ oRq s o2 ∧ brow s (a1 + 11) 5 ≤ 999 ∧ (0 ≤ s a1 4 ∧ s a1 4 < 2147483648) ∧ (0 ≤ x3 ∧ x3 ≤ 5) ∧ (0 ≤ x4 ∧ x4 ≤ 9)) (k : ∀ t : mSt, (t 53 7 = (ilY (ruC s o2) x5 x4.toNat (brow s (a1 + 11)) (s a1 4) x3.toNat).1 ∧ t 53 8 = (ilY (ruC s o2) x5 x4.toNat (brow s (a1 + 11)) (s a1 4) x3.toNat).2.1 ∧ fIl s t) → Q none t) : Sp X (d + 11) 113 [mR 53, mR a1, Sum.inr (Sum.inr (Sum.inl o2)), mI x3, mI x4, mI x5] s Q := by
  obtain ⟨hB, hd, hO, h5, hx, h3, h4⟩ := p1
  have hq := sc_54 h1
  have b5 := ok5 hB.1
  let R := ruC s o2
  let a := brow s (a1 + 11)
  let n : Nat := x4.toNat
  have hn : n = x4.toNat := rfl
  let Y := ilY R x5 n a (s a1 4)
  let D : Nat → Nat → Rw × Int := fun y j => ilD R x5 j (a, (Y y).2.2)
  have hn5 : ∀ j : Nat, j ≤ 9 → a 5 + j ≤ 1000000 := fun j hj => by have : a 5 ≤ 999 := h5; omega
  have Yb : ∀ y, (0 ≤ (Y y).1 ∧ (Y y).1 ≤ 6 * y) ∧ (0 ≤ (Y y).2.1 ∧ (Y y).2.1 ≤ 180 * y) ∧ (0 ≤ (Y y).2.2 ∧ (Y y).2.2 < 2147483648) := fun y => ilY_b hB.1 hx (hn5 n (by omega)) y
  have Db : ∀ y j : Nat, j ≤ 9 → Ok (D y j).1 ∧ (D y j).1 5 = a 5 + j ∧ (0 ≤ (D y j).2 ∧ (D y j).2 < 2147483648) ∧ ∀ i, (i < 5 ∨ 77 ≤ i) → (D y j).1 i = a i := fun y j hj => ilD_ok hB.1 (Yb y).2.2 j (hn5 j hj)
  have Ys : ∀ y, Y (y + 1) = ((Y y).1 + cn (pl (D y n).1) (nc (D y n).1), (Y y).2.1 + kpa (D y n).1, (D y n).2) := fun y => rfl
  have Ds : ∀ y j, D y (j + 1) = (stR (R (ilA (D y j).1 (D y j).2 x5).1) (ilA (D y j).1 (D y j).2 x5).1, (ilA (D y j).1 (D y j).2 x5).2) := fun y j => rfl
  have now : ∀ t : mSt, fIl s t → BI t (a1 + 11) ∧ brow t (a1 + 11) = a := fun t ht => BI_cells hB (fun x hx => ht.1 x (by omega) (by omega) (by omega)) (ht.1 417 (by omega) (by omega) (by omega))
  have ru : ∀ t : mSt, fIl s t → (∀ a, ruC t o2 a = R a) ∧ oRq t o2 := fun t ht => ruC_cells hO (fun b hb => ht.1 b (by omega) (by omega) (by omega))
  let J : Int → mSt → Prop := fun y6 t => ∃ y : Nat, y6 = y ∧ y ≤ x3.toNat ∧ t 53 7 = (Y y).1 ∧ t 53 8 = (Y y).2.1 ∧ t 53 9 = (Y y).2.2 ∧ fIl s t
  let K : Int → Int → mSt → Prop := fun y6 y7 t => ∃ y j : Nat, y6 = y ∧ y < x3.toNat ∧ y7 = j ∧ j ≤ n ∧ t 53 7 = (Y y).1 ∧ t 53 8 = (Y y).2.1 ∧ BI t 54 ∧ brow t 54 = (D y j).1 ∧ t 53 9 = (D y j).2 ∧ fIl s t
  refine v113 h1 J (fun y _ => ((6 - y) * 20).toNat) K (fun y6 y7 _ => ((6 - y6) * 20 - 1 - y7).toNat) ?_ ?_ ?_ ?_ ?_ ?_ ?_ ?_ ?_ ?_
  · rintro _ t ⟨y, rfl, hy, e7, e8, e9, ht⟩ hc
    have : y = x3.toNat := by omega
    subst this
    exact k t ⟨e7, e8, ht⟩
  · rintro _ t ⟨y, rfl, hy, e7, e8, e9, ht⟩ hc
    exact ⟨by omega, (now t ht).1⟩
  · rintro _ t ⟨y, rfl, hy, e7, e8, e9, ht⟩ hc u hu
    have c53 : u 53 = t 53 := hu.2.2 53 (by omega)
    refine ⟨⟨y, 0, rfl, by omega, rfl, by omega, by rw [c53]; exact e7, by rw [c53]; exact e8, hu.1, hu.2.1.trans (now t ht).2, by rw [c53]; exact e9, fun b g1 g2 g3 => (hu.2.2 b g3).trans (ht.1 b g1 g2 g3), fun j hj => by rw [c53]; exact ht.2 j hj⟩, by omega⟩
  · rintro _ _ t ⟨y, j, rfl, hy, rfl, hj, e7, e8, hb, e, e9, ht⟩ hc
    have n6 := nc_le hb.1
    rw [bi_pln hb]; exact os_30 (by omega)
  · rintro _ _ t ⟨y, j, rfl, hy, rfl, hj, e7, e8, hb, e, e9, ht⟩ hc t5 h5'
    have ce : ∀ b, b ≠ 53 → t5 b = t b := fun b hb => by rw [h5']; exact uS_cell hb
    exact (BI_cells (t := t5) hb (fun x hx => ce x (by omega)) (ce 417 (by omega))).1
  · rintro _ _ t ⟨y, j, rfl, hy, rfl, hj, e7, e8, hb, e, e9, ht⟩ hc t5 h5'
    have hj' : j = n := by omega
    subst hj'
    have n6 := nc_le hb.1
    have ce : ∀ b, b ≠ 53 → t5 b = t b := fun b hb => by rw [h5']; exact uS_cell hb
    have q := BI_cells (t := t5) hb (fun x hx => ce x (by omega)) (ce 417 (by omega))
    have ec : cn (bq (t 54 5)) 30 = cn (pl (D y n).1) (nc (D y n).1) := by rw [bi_pln hb, cn_os (by omega), e]
    have yb := Yb y
    have yb1 := Yb (y + 1)
    rw [Ys] at yb1
    dsimp only at yb1
    have cb := cn_le (f := pl (D y n).1) (n := nc (D y n).1)
    have kb := kpa_bd (Db y n (by omega)).1
    have n6' := nc_le (Db y n (by omega)).1
    rw [q.2, e, uS_at, if_neg (by decide), e8, w32_of (x := (Y y).2.1 + _) (by omega), w32_of (x := (y : Int) + 1) (by omega)]
    rw [ec, e7, w32_of (by omega)] at h5'
    have c5 : ∀ i, t5 53 i = if i = 7 then (Y y).1 + cn (pl (D y n).1) (nc (D y n).1) else t 53 i := fun i => by rw [h5', uS_at]
    refine ⟨⟨y + 1, by omega, by omega, ?_, ?_, ?_, fun b g1 g2 g3 => ?_, fun i hi => ?_⟩, by omega⟩
    · rw [uS_at, if_neg (by decide), c5, if_pos rfl, Ys]
    · rw [uS_at, if_pos rfl, Ys]
    · rw [uS_at, if_neg (by decide), c5, if_neg (by decide), Ys]; exact e9
    · rw [uS_cell g1, ce b g1]; exact ht.1 b g1 g2 g3
    · rw [uS_at, if_neg (by omega), c5, if_neg (by omega)]; exact ht.2 i hi
  · rintro _ _ t ⟨y, j, rfl, hy, rfl, hj, e7, e8, hb, e, e9, ht⟩ hc
    rw [e9]; exact ⟨hb, (Db y j (by omega)).2.2.1⟩
  · rintro _ _ t ⟨y, j, rfl, hy, rfl, hj, e7, e8, hb, e, e9, ht⟩ hc u hu
    have db := Db y j (by omega)
    have da := ilA_ok db.1 (D y j).2 x5
    rw [e, e9] at hu
    have fu : fIl s u := ⟨fun b g1 g2 g3 => (hu.2.2.2.1 b g1 g3).trans (ht.1 b g1 g2 g3), fun i hi => (hu.2.2.2.2 i (by omega)).trans (ht.2 i hi)⟩
    have h5a : a 5 ≤ 999 := h5
    refine ⟨hu.1, ?_, ?_, (ru u fu).2⟩
    · rw [bi1 (s := u) (k := 54), hu.2.1, da.2.2 1 (by omega), db.2.2.2 1 (by omega)]; show ¬ brow s (a1 + 11) 1 = 0; rw [← bi1]; exact hd
    · rw [hu.2.1, da.2.2 5 (by omega), db.2.1]; omega
  · rintro _ _ t ⟨y, j, rfl, hy, rfl, hj, e7, e8, hb, e, e9, ht⟩ hc u hu v w hw
    rw [e, e9] at hu
    have fu : fIl s u := ⟨fun b g1 g2 g3 => (hu.2.2.2.1 b g1 g3).trans (ht.1 b g1 g2 g3), fun i hi => (hu.2.2.2.2 i (by omega)).trans (ht.2 i hi)⟩
    rw [(ru u fu).1, hu.2.1] at hw
    have c53 : w 53 = u 53 := hw.2.2.2 53 (by omega) (by omega)
    rw [w32_of (by omega)]
    refine ⟨⟨y, j + 1, rfl, hy, by omega, by omega, ?_, ?_, hw.2.1, ?_, ?_, fun b g1 g2 g3 => (hw.2.2.2 b g2 g3).trans (fu.1 b g1 g2 g3), fun i hi => by rw [c53]; exact fu.2 i hi⟩, by omega⟩
    · rw [c53, hu.2.2.2.2 7 (by decide)]; exact e7
    · rw [c53, hu.2.2.2.2 8 (by decide)]; exact e8
    · rw [Ds]; exact hw.2.2.1
    · rw [Ds, c53]; exact hu.2.2.1
  · have ca : uS (uS s 53 7 0) 53 8 0 a1 4 = s a1 4 := by rw [uS_cell (by omega), uS_cell (by omega)]
    rw [ca]
    refine ⟨0, rfl, by omega, ?_, ?_, ?_, fun b g1 g2 g3 => ?_, fun i hi => ?_⟩
    · rw [uS_at, if_neg (by decide), uS_at, if_neg (by decide), uS_at, if_pos rfl]; rfl
    · rw [uS_at, if_neg (by decide), uS_at, if_pos rfl]; rfl
    · rw [uS_at, if_pos rfl]; rfl
    · rw [uS_cell g1, uS_cell g1, uS_cell g1]
    · rw [uS_at, if_neg (by omega), uS_at, if_neg (by omega), uS_at, if_neg (by omega)]
def iqQ (a : Rw) (R : Rw → Nat → Int) (x m n p w r : Int) : Prop := YN (a 0 = 1 ∧ (1 ≤ m ∧ m ≤ 5) ∧ (1 ≤ n ∧ n ≤ 9) ∧ (0 ≤ p ∧ p ≤ 100) ∧ (0 ≤ w ∧ w ≤ 1)) (r = if w = 0 then (ilY R p n.toNat a x m.toNat).1 else (ilY R p n.toNat a x m.toNat).2.1) (r = -1)
