/-! the reference's plan -/
def lst (m i : Nat) : Nat := ((List.range 5).filter (fun p => m.testBit p)).getD i 0
def cntP (m p : Nat) : Nat := ((List.range p).filter (fun q => m.testBit q)).length
theorem lst_f {m i : Nat} (hm : m < 32) (hi : i < cntB m) : (lst m i < 5 ∧ m.testBit (lst m i) = true) ∧ cntB m ≤ 5 ∧ ∀ j, j < i → lst m j ≠ lst m i := by
  have h0 := (show ∀ m : Fin 32, cntB m.val ≤ 5 by decide +kernel) ⟨m, hm⟩
  dsimp only at h0
  have h1 := (show ∀ m : Fin 32, ∀ i : Fin 5, i.val < cntB m.val → (lst m.val i.val < 5 ∧ m.val.testBit (lst m.val i.val) = true) ∧ ∀ j : Fin 5, j.val < i.val → lst m.val j.val ≠ lst m.val i.val by decide +kernel) ⟨m, hm⟩ ⟨i, by omega⟩ hi
  exact ⟨h1.1, h0, fun j hj => h1.2 ⟨j, by omega⟩ hj⟩
theorem lst_s {m p : Nat} (hm : m < 32) (hp : p < 5) (hb : m.testBit p = true) : ∃ i, i < cntB m ∧ lst m i = p := by
  obtain ⟨i, hi⟩ := (show ∀ m : Fin 32, ∀ p : Fin 5, m.val.testBit p.val = true → ∃ i : Fin 5, i.val < cntB m.val ∧ lst m.val i.val = p.val by decide +kernel) ⟨m, hm⟩ ⟨p, hp⟩ hb
  exact ⟨i.val, hi⟩
theorem cntP_s {m p : Nat} (hm : m < 32) (hp : p < 5) : cntP m (p + 1) = cntP m p + (if m.testBit p = true then 1 else 0) ∧ (m.testBit p = true → lst m (cntP m p) = p) ∧ cntP m p ≤ p := (show ∀ m : Fin 32, ∀ p : Fin 5, cntP m.val (p.val + 1) = cntP m.val p.val + (if m.val.testBit p.val = true then 1 else 0) ∧ (m.val.testBit p.val = true → lst m.val (cntP m.val p.val) = p.val) ∧ cntP m.val p.val ≤ p.val by decide +kernel) ⟨m, hm⟩ ⟨p, hp⟩
theorem cntP_all {m n : Nat} (hm : m < 32) (hn : n ≤ 5) (h : ∀ p, m.testBit p = true → p < n) : cntP m n = cntB m := (show ∀ m : Fin 32, ∀ n : Fin 6, (∀ p : Fin 5, m.val.testBit p.val = true → p.val < n.val) → cntP m.val n.val = cntB m.val by decide +kernel) ⟨m, hm⟩ ⟨n, by omega⟩ (fun p hp => h p.val hp)
def ordG (m u : Nat) : List Nat := (List.range (cntB m)).map (fun i => lst m (oK (cntB m) u i))
theorem ord_eq {m : Nat} (hm : m < 32) : ords 5 m = (List.range (fcN (cntB m))).map (ordG m) := (show ∀ m : Fin 32, ords 5 m.val = (List.range (fcN (cntB m.val))).map (ordG m.val) by decide +kernel) ⟨m, hm⟩
theorem oK_inj {n u i j : Nat} (hn : n ≤ 5) (hu : u < fcN n) (hi : i < n) (hj : j < i) : oK n u j ≠ oK n u i := by
  have := (show ∀ n : Fin 6, ∀ u : Fin 120, u.val < fcN n.val → ∀ i : Fin 5, i.val < n.val → ∀ j : Fin 5, j.val < i.val → oK n.val u.val j.val ≠ oK n.val u.val i.val by decide +kernel)
  exact this ⟨n, by omega⟩ ⟨u, by have := (fcN_I hn).2.2; omega⟩ hu ⟨i, by omega⟩ hi ⟨j, by omega⟩ hj
theorem an_lst {m : Nat} (hm : m < 32) (h : Nat → Bool) : an (fun i => h (lst m i)) (cntB m) = an (fun p => m.testBit p && h p) 5 := by
  rw [Bool.eq_iff_iff, an_iff, an_iff]
  constructor
  · rintro ⟨i, hi, q⟩
    have := (lst_f hm hi).1
    exact ⟨lst m i, this.1, by rw [this.2, q]; rfl⟩
  · rintro ⟨p, hp, q⟩
    rw [Bool.and_eq_true] at q
    obtain ⟨i, hi, e⟩ := lst_s hm hp q.1
    exact ⟨i, hi, by rw [e]; exact q.2⟩
theorem kq_kN {t : mSt} {a : Rw} {c m u : Nat} {g : Rw} (hm : m < 32) (e1 : t 417 = a) (e2 : t 407 28 = (cntB m : Int)) (e3 : ∀ i, i < cntB m → t 419 i = (lst m i : Int)) (e4 : ∀ p, p < 5 → m.testBit p = true → t 421 p = g p) : kq t c (u : Int) = kN a c m g u := by
  have hd : dq t (u : Int) = dNl a m 0 g u := by
    unfold dq dNl
    rw [e2, tnc, e1]
    refine (an_congr (g := fun i => (fun p => decide (a (6 + p) ≤ (u : Int)) && decide ((u : Int) < g p)) (lst m i)) (fun i hi => by
      have := (lst_f hm hi).1
      rw [e3 i hi, tnc, e4 _ this.1 this.2])).trans ((an_lst hm (fun p => decide (a (6 + p) ≤ (u : Int)) && decide ((u : Int) < g p))).trans (an_congr (fun p _ => by rw [Nat.zero_testBit]; simp)))
  have hs : sq t c (u : Int) = sNl a c m 0 g u := by
    unfold sq sNl
    rw [e2, tnc, e1]
    refine (an_congr (g := fun i => (fun p => decide (g p ≤ (u : Int)) && decide ((u : Int) < g p + tm a c p)) (lst m i)) (fun i hi => by
      have := (lst_f hm hi).1
      rw [e3 i hi, tnc, e4 _ this.1 this.2])).trans ((an_lst hm (fun p => decide (g p ≤ (u : Int)) && decide ((u : Int) < g p + tm a c p))).trans (an_congr (fun p _ => by rw [Nat.zero_testBit]; simp)))
  unfold kq kN
  rw [hd, hs]
def fQ (s t : mSt) : Prop := (∀ b, ¬ (b = 407 ∨ 418 ≤ b ∧ b ≤ 422) → t b = s b) ∧ ∀ j, ¬ (28 ≤ j ∧ j ≤ 35) → t 407 j = s 407 j
theorem fQ_refl (s : mSt) : fQ s s := ⟨fun _ _ => rfl, fun _ _ => rfl⟩
theorem fQ_trans {s t u : mSt} (h1 : fQ s t) (h2 : fQ t u) : fQ s u := ⟨fun b hb => (h2.1 b hb).trans (h1.1 b hb), fun j hj => (h2.2 j hj).trans (h1.2 j hj)⟩
/-- what the reference holds of the best plan -/
def PQ (t : mSt) (n : Nat) (b : Bt) : Prop := t 407 32 = b.1 ∧ (b.1 ≠ 0 → t 407 29 = b.2.1 ∧ t 407 30 = b.2.2.1 ∧ t 407 31 = b.2.2.2.1) ∧ ∀ p, p < n → t 422 p = if b.1 = 0 then -1 else b.2.2.2.2 p
def bU (a : Rw) (c m u : Nat) : Bt := ((List.range u).map (ordG m)).foldl (stp a c m ini) bt0
theorem bU_s (a : Rw) (c m u : Nat) : bU a c m (u + 1) = stp a c m ini (bU a c m u) (ordG m u) := by
  unfold bU; rw [List.range_succ, List.map_append, List.foldl_append]; rfl
theorem bU_b (a : Rw) (c m u : Nat) : 0 ≤ (bU a c m u).1 ∧ (bU a c m u).1 ≤ u := by
  have := fold_w a c m ini ((List.range u).map (ordG m)) bt0
  rw [List.length_map, List.length_range] at this
  unfold bU
  have e : bt0.1 = 0 := rfl
  omega
theorem ordG_in {m u : Nat} (hm : m < 32) (hu : u < fcN (cntB m)) : ordG m u ∈ ords 5 m := by
  rw [ord_eq hm]; exact List.mem_map.2 ⟨u, List.mem_range.2 hu, rfl⟩
theorem bU_g {a : Rw} {c m u : Nat} (hm : m < 32) (hu : u ≤ fcN (cntB m)) (h : (bU a c m u).1 ≠ 0) : GP m (bU a c m u).2.2.2.2 := by
  refine fold_g hm _ _ (fun o ho => ?_) (fun z => absurd rfl z) (Int.le_refl 0) h
  obtain ⟨v, hv, e⟩ := List.mem_map.1 ho
  rw [← e]
  exact ordG_in hm (by have := List.mem_range.1 hv; omega)
theorem bU_all {a : Rw} {c m : Nat} (hm : m < 32) : bU a c m (fcN (cntB m)) = plB a c m := by
  unfold bU plB; rw [ord_eq hm]
theorem v243 {X : (Nat → Int) × Nat} {d : Nat} {s : mSt} {Q : mQ} {x1 : Int} {x2 : Int}
  (I12 : Int → mSt → Prop) (m12 : Int → mSt → Nat)
  (I37 : Int → mSt → Prop) (m37 : Int → mSt → Nat)
  (I93 : Int → mSt → Prop) (m93 : Int → mSt → Nat)
  (I172 : Int → Int → mSt → Prop) (m172 : Int → Int → mSt → Nat)
  (z1 : ∀ y3 : Int, ∀ s : mSt, I12 y3 s → 30 ≤ y3 → I37 0 s ∧ m37 0 s < m12 y3 s)
  (z2 : ∀ y3 : Int, ∀ s : mSt, I12 y3 s → ¬ 30 ≤ y3 → Ok (s 417) ∧ (0 ≤ y3 ∧ y3 < 30))
  (z3 : ∀ y3 : Int, ∀ s : mSt, I12 y3 s → ¬ 30 ≤ y3 → 0 ≤ y3 ∧ y3 < 30)
  (z4 : ∀ y3 : Int, ∀ s : mSt, I12 y3 s → ¬ 30 ≤ y3 → I12 (w32 (y3 + 1)) (uS s 418 y3.toNat (fre (s 417) y3.toNat)) ∧ m12 (w32 (y3 + 1)) (uS s 418 y3.toNat (fre (s 417) y3.toNat)) < m12 y3 s)
  (z5 : ∀ y3 : Int, ∀ s : mSt, I37 y3 s → (s 417 3) ≤ y3 → I93 0 s ∧ m93 0 s < m37 y3 s)
  (z6 : ∀ y3 : Int, ∀ s : mSt, I37 y3 s → ¬ (s 417 3) ≤ y3 → 0 ≤ y3 ∧ y3 < 5)
  (z7 : ∀ y3 : Int, ∀ s : mSt, I37 y3 s → ¬ (s 417 3) ≤ y3 → 0 ≤ y3 ∧ y3 < 32)
  (z8 : ∀ y3 : Int, ∀ s : mSt, I37 y3 s → ¬ (s 417 3) ≤ y3 → bt x2 y3 → ∀ t6 : mSt, t6 = uS s 422 y3.toNat (-1) → 0 ≤ (t6 407 28) ∧ (t6 407 28) < 5)
  (z9 : ∀ y3 : Int, ∀ s : mSt, I37 y3 s → ¬ (s 417 3) ≤ y3 → bt x2 y3 → ∀ t6 : mSt, t6 = uS s 422 y3.toNat (-1) → ∀ t7 : mSt, t7 = uS (uS t6 419 ((t6 407 28).toNat) y3) 407 28 (w32 (((uS t6 419 ((t6 407 28).toNat) y3) 407 28) + 1)) → I37 (w32 (y3 + 1)) t7 ∧ m37 (w32 (y3 + 1)) t7 < m37 y3 s)
  (z10 : ∀ y3 : Int, ∀ s : mSt, I37 y3 s → ¬ (s 417 3) ≤ y3 → ¬ (bt x2 y3) → ∀ t9 : mSt, t9 = uS s 422 y3.toNat (-1) → I37 (w32 (y3 + 1)) t9 ∧ m37 (w32 (y3 + 1)) t9 < m37 y3 s)
  (z11 : ∀ y3 : Int, ∀ s : mSt, I93 y3 s → 0 ≤ (s 407 28) ∧ (s 407 28) ≤ 5)
  (z12 : ∀ y3 : Int, ∀ s : mSt, I93 y3 s → (fct (s 407 28).toNat) ≤ y3 → (s 407 32) ≤ 0 → Q (some (mI 0)) s)
  (z13 : ∀ y3 : Int, ∀ s : mSt, I93 y3 s → (fct (s 407 28).toNat) ≤ y3 → ¬ (s 407 32) ≤ 0 → Q (some (mI 1)) s)
  (z14 : ∀ y3 : Int, ∀ s : mSt, I93 y3 s → ¬ (fct (s 407 28).toNat) ≤ y3 → (0 ≤ s 407 28 ∧ s 407 28 ≤ 5) ∧ (0 ≤ y3 ∧ y3 < fct (s 407 28).toNat))
  (z15 : ∀ y3 : Int, ∀ s : mSt, I93 y3 s → ¬ (fct (s 407 28).toNat) ≤ y3 → ∀ t14 : mSt, t14 = uC s 420 (ordR s y3.toNat (s 407 28).toNat) → OPq t14 x1)
  (z16 : ∀ y3 : Int, ∀ s : mSt, I93 y3 s → ¬ (fct (s 407 28).toNat) ≤ y3 → ∀ t14 : mSt, t14 = uC s 420 (ordR s y3.toNat (s 407 28).toNat) → ∀ s15 : mSt, OY t14 s15 x1 → LTq (uS s15 407 32 (w32 ((s15 407 32) + 1))) x1)
  (z17 : ∀ y3 : Int, ∀ s : mSt, I93 y3 s → ¬ (fct (s 407 28).toNat) ≤ y3 → ∀ t14 : mSt, t14 = uC s 420 (ordR s y3.toNat (s 407 28).toNat) → ∀ s15 : mSt, OY t14 s15 x1 → ∀ t16 : mSt, t16 = uS (uS s15 407 32 (w32 ((s15 407 32) + 1))) 407 34 (cn (fun t => kq (uS s15 407 32 (w32 ((s15 407 32) + 1))) x1.toNat (t : Int)) 30) → (t16 407 32 = 1 ∨ (t16 407 33 < t16 407 29 ∨ (t16 407 33 = t16 407 29 ∧ (t16 407 34 < t16 407 30 ∨ (t16 407 34 = t16 407 30 ∧ t16 407 35 < t16 407 31))))) → I172 y3 0 (uS (uS (uS t16 407 29 (t16 407 33)) 407 30 ((uS t16 407 29 (t16 407 33)) 407 34)) 407 31 ((uS (uS t16 407 29 (t16 407 33)) 407 30 ((uS t16 407 29 (t16 407 33)) 407 34)) 407 35)) ∧ m172 y3 0 (uS (uS (uS t16 407 29 (t16 407 33)) 407 30 ((uS t16 407 29 (t16 407 33)) 407 34)) 407 31 ((uS (uS t16 407 29 (t16 407 33)) 407 30 ((uS t16 407 29 (t16 407 33)) 407 34)) 407 35)) < m93 y3 s)
  (z18 : ∀ y3 : Int, ∀ s : mSt, I93 y3 s → ¬ (fct (s 407 28).toNat) ≤ y3 → ∀ t14 : mSt, t14 = uC s 420 (ordR s y3.toNat (s 407 28).toNat) → ∀ s15 : mSt, OY t14 s15 x1 → ∀ t16 : mSt, t16 = uS (uS s15 407 32 (w32 ((s15 407 32) + 1))) 407 34 (cn (fun t => kq (uS s15 407 32 (w32 ((s15 407 32) + 1))) x1.toNat (t : Int)) 30) → (¬ (t16 407 32 = 1 ∨ (t16 407 33 < t16 407 29 ∨ (t16 407 33 = t16 407 29 ∧ (t16 407 34 < t16 407 30 ∨ (t16 407 34 = t16 407 30 ∧ t16 407 35 < t16 407 31)))))) → I93 (w32 (y3 + 1)) t16 ∧ m93 (w32 (y3 + 1)) t16 < m93 y3 s)
  (z19 : ∀ y3 : Int, ∀ s : mSt, I93 y3 s → ¬ (fct (s 407 28).toNat) ≤ y3 → ∀ t14 : mSt, t14 = uC s 420 (ordR s y3.toNat (s 407 28).toNat) → ∀ s19 : mSt, ON t14 s19 x1 → I93 (w32 (y3 + 1)) s19 ∧ m93 (w32 (y3 + 1)) s19 < m93 y3 s)
  (z20 : ∀ y3 : Int, ∀ y4 : Int, ∀ s : mSt, I172 y3 y4 s → (s 407 28) ≤ y4 → I93 (w32 (y3 + 1)) s ∧ m93 (w32 (y3 + 1)) s < m172 y3 y4 s)
  (z21 : ∀ y3 : Int, ∀ y4 : Int, ∀ s : mSt, I172 y3 y4 s → ¬ (s 407 28) ≤ y4 → 0 ≤ y4 ∧ y4 < 5)
  (z22 : ∀ y3 : Int, ∀ y4 : Int, ∀ s : mSt, I172 y3 y4 s → ¬ (s 407 28) ≤ y4 → 0 ≤ (s 419 y4.toNat) ∧ (s 419 y4.toNat) < 5)
  (z23 : ∀ y3 : Int, ∀ y4 : Int, ∀ s : mSt, I172 y3 y4 s → ¬ (s 407 28) ≤ y4 → I172 y3 (w32 (y4 + 1)) (uS s 422 ((s 419 y4.toNat).toNat) (s 421 (s 419 y4.toNat).toNat)) ∧ m172 y3 (w32 (y4 + 1)) (uS s 422 ((s 419 y4.toNat).toNat) (s 421 (s 419 y4.toNat).toNat)) < m172 y3 y4 s)
  (z24 : I12 0 (uS (uS s 407 28 0) 407 32 0)) :
  Sp X (d + 4) 243 [mR 407, mI x1, mI x2] s Q := by
  have L : ∀ k : Nat, (∀ (y3 : Int) (l4 : Option mV) (s : mSt), I12 y3 s → m12 y3 s < k → Wp X (d + 4) 243 12 [some (mR 407), some (mI x1), some (mI x2), some (mI y3), l4] [] s Q) ∧ (∀ (y3 : Int) (l4 : Option mV) (s : mSt), I37 y3 s → m37 y3 s < k → Wp X (d + 4) 243 37 [some (mR 407), some (mI x1), some (mI x2), some (mI y3), l4] [] s Q) ∧ (∀ (y3 : Int) (l4 : Option mV) (s : mSt), I93 y3 s → m93 y3 s < k → Wp X (d + 4) 243 93 [some (mR 407), some (mI x1), some (mI x2), some (mI y3), l4] [] s Q) ∧ (∀ (y3 : Int) (y4 : Int) (s : mSt), I172 y3 y4 s → m172 y3 y4 s < k → Wp X (d + 4) 243 172 [some (mR 407), some (mI x1), some (mI x2), some (mI y3), some (mI y4)] [] s Q) := by
    intro k
    induction k with
    | zero => exact ⟨fun _ _ _ _ h => absurd h (Nat.not_lt_zero _), fun _ _ _ _ h => absurd h (Nat.not_lt_zero _), fun _ _ _ _ h => absurd h (Nat.not_lt_zero _), fun _ _ _ _ h => absurd h (Nat.not_lt_zero _)⟩
    | succ k ih => exact ⟨fun y3 l4 s hI hm => b243_12 (fun q1 => b243_35 (ih.2.1 0 l4 s (z1 y3 s hI q1).1 (Nat.lt_of_lt_of_le (z1 y3 s hI q1).2 (Nat.le_of_lt_succ hm)))) (fun q2 => b243_18 (c223 (z2 y3 s hI q2) ⟨_, rfl, b243_28 (z3 y3 s hI q2) (ih.1 (w32 (y3 + 1)) l4 (uS s 418 y3.toNat (fre (s 417) y3.toNat)) (z4 y3 s hI q2).1 (Nat.lt_of_lt_of_le (z4 y3 s hI q2).2 (Nat.le_of_lt_succ hm)))⟩)), fun y3 l4 s hI hm => b243_37 (fun q3 => b243_91 (ih.2.2.1 0 l4 s (z5 y3 s hI q3).1 (Nat.lt_of_lt_of_le (z5 y3 s hI q3).2 (Nat.le_of_lt_succ hm)))) (fun q4 => b243_47 (z6 y3 s hI q4) (c168 (z7 y3 s hI q4) (fun q5 => ⟨1, rfl, Wp_gen (fun t6 e6 => b243_59 (fun _ => b243_65 (z8 y3 s hI q4 q5 t6 e6) (Wp_gen (fun t7 e7 => b243_85 (ih.2.1 (w32 (y3 + 1)) l4 t7 (z9 y3 s hI q4 q5 t6 e6 t7 e7).1 (Nat.lt_of_lt_of_le (z9 y3 s hI q4 q5 t6 e6 t7 e7).2 (Nat.le_of_lt_succ hm)))))) (fun q => absurd q (by decide)))⟩) (fun q8 => ⟨0, rfl, Wp_gen (fun t9 e9 => b243_59 (fun q => absurd q (by decide)) (fun _ => b243_62 (b243_85 (ih.2.1 (w32 (y3 + 1)) l4 t9 (z10 y3 s hI q4 q8 t9 e9).1 (Nat.lt_of_lt_of_le (z10 y3 s hI q4 q8 t9 e9).2 (Nat.le_of_lt_succ hm))))))⟩))), fun y3 l4 s hI hm => b243_93 (c233 (z11 y3 s hI) ⟨_, rfl, b243_101 (fun q10 => b243_217 (fun q11 => b243_228 (b243_229 (z12 y3 s hI q10 q11) (Or.inl rfl))) (fun q12 => b243_224 (b243_229 (z13 y3 s hI q10 q12) (Or.inr rfl)))) (fun q13 => b243_104 (c234 (z14 y3 s hI q13) ⟨rfl, Wp_gen (fun t14 e14 => b243_109 (c238 (z15 y3 s hI q13 t14 e14) (fun s15 q15 => ⟨1, rfl, b243_114 (fun _ => b243_120 (c241 (z16 y3 s hI q13 t14 e14 s15 q15) ⟨rfl, Wp_gen (fun t16 e16 => b243_135 (c242  (fun q17 => ⟨1, rfl, b243_139 (fun _ => b243_145 (ih.2.2.2 y3 0 (uS (uS (uS t16 407 29 (t16 407 33)) 407 30 ((uS t16 407 29 (t16 407 33)) 407 34)) 407 31 ((uS (uS t16 407 29 (t16 407 33)) 407 30 ((uS t16 407 29 (t16 407 33)) 407 34)) 407 35)) (z17 y3 s hI q13 t14 e14 s15 q15 t16 e16 q17).1 (Nat.lt_of_lt_of_le (z17 y3 s hI q13 t14 e14 s15 q15 t16 e16 q17).2 (Nat.le_of_lt_succ hm)))) (fun q => absurd q (by decide))⟩) (fun q18 => ⟨0, rfl, b243_139 (fun q => absurd q (by decide)) (fun _ => b243_142 (b243_211 (ih.2.2.1 (w32 (y3 + 1)) l4 t16 (z18 y3 s hI q13 t14 e14 s15 q15 t16 e16 q18).1 (Nat.lt_of_lt_of_le (z18 y3 s hI q13 t14 e14 s15 q15 t16 e16 q18).2 (Nat.le_of_lt_succ hm)))))⟩)))⟩)) (fun q => absurd q (by decide))⟩) (fun s19 q19 => ⟨0, rfl, b243_114 (fun q => absurd q (by decide)) (fun _ => b243_117 (b243_211 (ih.2.2.1 (w32 (y3 + 1)) l4 s19 (z19 y3 s hI q13 t14 e14 s19 q19).1 (Nat.lt_of_lt_of_le (z19 y3 s hI q13 t14 e14 s19 q19).2 (Nat.le_of_lt_succ hm)))))⟩)))⟩))⟩), fun y3 y4 s hI hm => b243_172 (fun q20 => b243_211 (ih.2.2.1 (w32 (y3 + 1)) (some (mI y4)) s (z20 y3 y4 s hI q20).1 (Nat.lt_of_lt_of_le (z20 y3 y4 s hI q20).2 (Nat.le_of_lt_succ hm)))) (fun q21 => b243_181 (z21 y3 y4 s hI q21) (z21 y3 y4 s hI q21) (z22 y3 y4 s hI q21) (z22 y3 y4 s hI q21) (ih.2.2.2 y3 (w32 (y4 + 1)) (uS s 422 ((s 419 y4.toNat).toNat) (s 421 (s 419 y4.toNat).toNat)) (z23 y3 y4 s hI q21).1 (Nat.lt_of_lt_of_le (z23 y3 y4 s hI q21).2 (Nat.le_of_lt_succ hm))))⟩
  exact e243 (b243_0 ((L (m12 0 (uS (uS s 407 28 0) 407 32 0) + 1)).1 0 none (uS (uS s 407 28 0) 407 32 0) z24 (Nat.lt_succ_self _)))

theorem c243 {X : (Nat → Int) × Nat} {d : Nat} {s : mSt} {Q : mQ} {x1 : Int} {x2 : Int} (p1 : Ok (s 417) ∧ (0 ≤ x1 ∧ x1 < 6) ∧ (0 ≤ x2 ∧ x2 < 32) ∧ ∀ p, x2.toNat.testBit p = true → p < np (s 417)) (k1 : ∀ t : mSt, (0 < (plB (s 417) x1.toNat x2.toNat).1 ∧ PQ t (np (s 417)) (plB (s 417) x1.toNat x2.toNat) ∧ fQ s t) → Q (some (mI 1)) t) (k0 : ∀ t : mSt, ((plB (s 417) x1.toNat x2.toNat).1 = 0 ∧ PQ t (np (s 417)) (plB (s 417) x1.toNat x2.toNat) ∧ fQ s t) → Q (some (mI 0)) t) : Sp X (d + 4) 243 [mR 407, mI x1, mI x2] s Q := by
  obtain ⟨h, h1, h2, hm⟩ := p1
  have hn := npI h
  have n5 := np_le h
  obtain ⟨m, rfl⟩ := nat_of h2.1
  obtain ⟨c, rfl⟩ := nat_of h1.1
  rw [tnc] at hm
  rw [tnc, tnc] at k1 k0
  have hm32 : m < 32 := by omega
  have hcB : cntB m ≤ 5 := (ord_len hm32).2
  have hF := fcN_I hcB
  have hbt : ∀ p : Nat, p < 5 → (bt (m : Int) (p : Int) ↔ m.testBit p = true) := fun p hp => by
    unfold bt; rw [tnc, bq_nat (by omega)]
  have hc6 : c < 6 := by omega
  -- the list is made
  let LS : mSt → Prop := fun t => t 407 28 = (cntB m : Int) ∧ (∀ i, i < cntB m → t 419 i = (lst m i : Int)) ∧ (∀ u, u < 30 → t 418 u = fre (s 417) u) ∧ fQ s t
  have hbw : ∀ u : Nat, u ≤ fcN (cntB m) → 0 ≤ (bU (s 417) c m u).1 ∧ (bU (s 417) c m u).1 ≤ 120 := fun u hu => by
    have := bU_b (s 417) c m u; omega
  have hsum : ∀ t14 t : mSt, ∀ u : Nat, u < fcN (cntB m) → LS t → t14 = uC t 420 (ordR t u (t 407 28).toNat) → (oP t14 (t14 407 28).toNat = ordG m u) ∧ t14 417 = s 417 ∧ t14 407 28 = (cntB m : Int) ∧ (∀ i, i < cntB m → t14 420 i = (lst m (oK (cntB m) u i) : Int)) ∧ LS t14 := fun t14 t u hu hL e => by
    have e1 : t14 407 = t 407 := by rw [e]; exact uC_ne (by decide)
    have e2 : ∀ i, i < cntB m → t14 420 i = (lst m (oK (cntB m) u i) : Int) := fun i hi => by
      rw [e, uC_at]
      unfold ordR
      rw [hL.1, tnc, if_pos hi, hL.2.1 _ (oK_f hcB hu hi).1]
    refine ⟨?_, ?_, by rw [e1]; exact hL.1, e2, ?_⟩
    · unfold oP ordG
      rw [e1, hL.1, tnc]
      refine List.map_congr_left (fun i hi => ?_)
      rw [e2 i (List.mem_range.1 hi), tnc]
    · rw [e, uC_ne (by decide)]; exact hL.2.2.2.1 417 (by omega)
    · refine ⟨by rw [e1]; exact hL.1, ?_, ?_, ?_, ?_⟩
      · rw [e, uC_ne (by decide)]; exact hL.2.1
      · rw [e, uC_ne (by decide)]; exact hL.2.2.1
      · intro b hb; rw [e, uC_ne (by omega)]; exact hL.2.2.2.1 b hb
      · intro j hj; rw [e1]; exact hL.2.2.2.2 j hj
  have gmem : ∀ u : Nat, u < fcN (cntB m) → ∀ p, p < 5 → (m.testBit p = true ↔ p ∈ ordG m u) := fun u hu p hp => ord_mem hm32 _ (ordG_in hm32 hu) p hp
  refine v243 (fun y t => ∃ j : Nat, y = j ∧ j ≤ 30 ∧ t 407 28 = 0 ∧ t 407 32 = 0 ∧ (∀ u, u < j → t 418 u = fre (s 417) u) ∧ fQ s t) (fun y _ => (3200 - y).toNat)
    (fun y t => ∃ p : Nat, y = p ∧ p ≤ np (s 417) ∧ t 407 28 = (cntP m p : Int) ∧ t 407 32 = 0 ∧ (∀ i, i < cntP m p → t 419 i = (lst m i : Int)) ∧ (∀ q, q < p → t 422 q = -1) ∧ (∀ u, u < 30 → t 418 u = fre (s 417) u) ∧ fQ s t) (fun y _ => (3100 - y).toNat)
    (fun y t => ∃ u : Nat, y = u ∧ u ≤ fcN (cntB m) ∧ LS t ∧ PQ t (np (s 417)) (bU (s 417) c m u)) (fun y _ => (3000 - 20 * y).toNat)
    (fun y3 y4 t => ∃ (u i : Nat) (q : St), y3 = u ∧ u < fcN (cntB m) ∧ y4 = i ∧ i ≤ cntB m ∧ LS t ∧ pf (s 417) c (ordG m u) ini = some q ∧ bet (ngN q.2.2.2) (cn (kN (s 417) c m q.2.2.2) 30) q.2.1 (bU (s 417) c m u) = true ∧ t 407 32 = (bU (s 417) c m u).1 + 1 ∧ t 407 29 = ngN q.2.2.2 ∧ t 407 30 = cn (kN (s 417) c m q.2.2.2) 30 ∧ t 407 31 = q.2.1 ∧ (∀ p, p < 5 → m.testBit p = true → t 421 p = q.2.2.2 p) ∧
      (∀ p, p < np (s 417) → ((∃ j, j < i ∧ lst m j = p) → t 422 p = q.2.2.2 p) ∧ (¬ (∃ j, j < i ∧ lst m j = p) → t 422 p = if (bU (s 417) c m u).1 = 0 then -1 else (bU (s 417) c m u).2.2.2.2 p))) (fun y3 y4 _ => (3000 - 20 * y3 - 10 - y4).toNat) ?_ ?_ ?_ ?_ ?_ ?_ ?_ ?_ ?_ ?_ ?_ ?_ ?_ ?_ ?_ ?_ ?_ ?_ ?_ ?_ ?_ ?_ ?_ ?_
  -- 1
  · rintro _ t ⟨j, rfl, hj, e28, e32, e18, hf⟩ hc
    have : j = 30 := by omega
    subst this
    exact ⟨⟨0, rfl, by omega, e28, e32, fun i hi => absurd hi (by simp [cntP]), fun q hq => absurd hq (by omega), e18, hf⟩, by omega⟩
  -- 2
  · rintro _ t ⟨j, rfl, hj, e28, e32, e18, hf⟩ hc
    rw [hf.1 417 (by omega)]; exact ⟨h, by omega⟩
  -- 3
  · rintro _ t ⟨j, rfl, hj, e28, e32, e18, hf⟩ hc
    omega
  -- 4
  · rintro _ t ⟨j, rfl, hj, e28, e32, e18, hf⟩ hc
    rw [tnc, w32_of (by omega), hf.1 417 (by omega)]
    refine ⟨⟨j + 1, by omega, by omega, by rw [uS_cell (by decide)]; exact e28, by rw [uS_cell (by decide)]; exact e32, fun u hu => ?_, fun b hb => ?_, fun i hi => ?_⟩, by omega⟩
    · rw [uS_at]
      by_cases z : u = j
      · rw [if_pos z, z]
      · rw [if_neg z]; exact e18 u (by omega)
    · rw [uS_cell (by omega)]; exact hf.1 b hb
    · rw [uS_cell (by decide)]; exact hf.2 i hi
  -- 5
  · rintro _ t ⟨p, rfl, hp, e28, e32, e19, e22, e18, hf⟩ hc
    rw [hf.1 417 (by omega)] at hc
    have : p = np (s 417) := by omega
    subst this
    rw [cntP_all hm32 n5 hm] at e28 e19
    refine ⟨⟨0, rfl, by omega, ⟨e28, e19, e18, hf⟩, e32, fun z => absurd rfl z, fun q hq => ?_⟩, by omega⟩
    rw [if_pos (show (bU (s 417) c m 0).1 = 0 from rfl)]; exact e22 q hq
  -- 6
  · rintro _ t ⟨p, rfl, hp, e28, e32, e19, e22, e18, hf⟩ hc
    rw [hf.1 417 (by omega)] at hc
    omega
  -- 7
  · rintro _ t ⟨p, rfl, hp, e28, e32, e19, e22, e18, hf⟩ hc
    rw [hf.1 417 (by omega)] at hc
    omega
  -- 8
  · rintro _ t ⟨p, rfl, hp, e28, e32, e19, e22, e18, hf⟩ hc q t6 e6
    rw [hf.1 417 (by omega)] at hc
    have := cntP_s hm32 (show p < 5 by omega)
    rw [e6, uS_cell (by decide), e28]; omega
  -- 9
  · rintro _ t ⟨p, rfl, hp, e28, e32, e19, e22, e18, hf⟩ hc q t6 e6 t7 e7
    rw [hf.1 417 (by omega)] at hc
    rw [hbt p (by omega)] at q
    obtain ⟨c1, c2, c3⟩ := cntP_s hm32 (show p < 5 by omega)
    rw [if_pos q] at c1
    have g28 : t6 407 28 = (cntP m p : Int) := by rw [e6, uS_cell (by decide)]; exact e28
    rw [uS_cell (by decide), g28, tnc, w32_of (by omega)] at e7
    rw [tnc] at e6
    rw [w32_of (by omega)]
    refine ⟨⟨p + 1, by omega, by omega, ?_, ?_, fun i hi => ?_, fun r hr => ?_, ?_, fun b hb => ?_, fun j hj => ?_⟩, by omega⟩
    · rw [e7, uS_at, if_pos rfl]; omega
    · rw [e7, uS_at, if_neg (by decide), uS_cell (by decide), e6, uS_cell (by decide)]; exact e32
    · rw [e7, uS_cell (by decide), uS_at]
      by_cases z : i = cntP m p
      · rw [if_pos z, z, c2 q]
      · rw [if_neg z, e6, uS_cell (by decide)]; exact e19 i (by omega)
    · rw [e7, uS_cell (by decide), uS_cell (by decide), e6, uS_at]
      by_cases z : r = p
      · rw [if_pos z]
      · rw [if_neg z]; exact e22 r (by omega)
    · rw [e7, uS_cell (by decide), uS_cell (by decide), e6, uS_cell (by decide)]; exact e18
    · rw [e7, uS_cell (by omega), uS_cell (by omega), e6, uS_cell (by omega)]; exact hf.1 b hb
    · rw [e7, uS_at, if_neg (by omega), uS_cell (by decide), e6, uS_cell (by decide)]; exact hf.2 j hj
  -- 10
  · rintro _ t ⟨p, rfl, hp, e28, e32, e19, e22, e18, hf⟩ hc q t9 e9
    rw [hf.1 417 (by omega)] at hc
    rw [hbt p (by omega)] at q
    obtain ⟨c1, c2, c3⟩ := cntP_s hm32 (show p < 5 by omega)
    rw [if_neg q] at c1
    rw [tnc] at e9
    rw [w32_of (by omega)]
    refine ⟨⟨p + 1, by omega, by omega, ?_, ?_, fun i hi => ?_, fun r hr => ?_, ?_, fun b hb => ?_, fun j hj => ?_⟩, by omega⟩
    · rw [e9, uS_cell (by decide)]; omega
    · rw [e9, uS_cell (by decide)]; exact e32
    · rw [e9, uS_cell (by decide)]; exact e19 i (by omega)
    · rw [e9, uS_at]
      by_cases z : r = p
      · rw [if_pos z]
      · rw [if_neg z]; exact e22 r (by omega)
    · rw [e9, uS_cell (by decide)]; exact e18
    · rw [e9, uS_cell (by omega)]; exact hf.1 b hb
    · rw [e9, uS_cell (by decide)]; exact hf.2 j hj
  -- 11
  · rintro _ t ⟨u, rfl, hu, hL, hP⟩
    rw [hL.1]; omega
  -- 12
  · rintro _ t ⟨u, rfl, hu, hL, hP⟩ hc q
    rw [hL.1, tnc, hF.1] at hc
    have : u = fcN (cntB m) := by omega
    subst this
    rw [bU_all hm32] at hP
    have hw := hbw (fcN (cntB m)) (Nat.le_refl _)
    rw [bU_all hm32] at hw
    have := hP.1
    exact k0 t ⟨by omega, hP, hL.2.2.2⟩
  -- 13
  · rintro _ t ⟨u, rfl, hu, hL, hP⟩ hc q
    rw [hL.1, tnc, hF.1] at hc
    have : u = fcN (cntB m) := by omega
    subst this
    rw [bU_all hm32] at hP
    have := hP.1
    exact k1 t ⟨by omega, hP, hL.2.2.2⟩
  -- 14
  · rintro _ t ⟨u, rfl, hu, hL, hP⟩ hc
    rw [hL.1, tnc, hF.1] at hc ⊢
    omega
  -- 15
  · rintro _ t ⟨u, rfl, hu, hL, hP⟩ hc t14 e14
    rw [hL.1, tnc, hF.1] at hc
    rw [tnc] at e14
    obtain ⟨g1, g2, g3, g4, g5⟩ := hsum t14 t u (by omega) hL e14
    unfold OPq
    rw [g2, g3, tnc]
    refine ⟨h, h1, by omega, fun i hi => ?_, g5.2.2.1, fun i j hj hi => ?_⟩
    · rw [g4 i hi]
      have a1 := (oK_f hcB (show u < fcN (cntB m) by omega) hi).1
      have a2 := lst_f hm32 a1
      have := hm _ a2.1.2
      omega
    · rw [g4 i hi, g4 j (by omega), tnc, tnc]
      have a0 := oK_inj hcB (show u < fcN (cntB m) by omega) hi hj
      have a1 := (oK_f hcB (show u < fcN (cntB m) by omega) hi).1
      have a2 := (oK_f hcB (show u < fcN (cntB m) by omega) (show j < cntB m by omega)).1
      rcases Nat.lt_or_gt_of_ne a0 with z | z
      · exact (lst_f hm32 a1).2.2 _ z
      · exact Ne.symm ((lst_f hm32 a2).2.2 _ z)
  -- 16
  · rintro _ t ⟨u, rfl, hu, hL, hP⟩ hc t14 e14 s15 ⟨⟨q, hq, q35, q33, q21, qb⟩, hO⟩
    rw [hL.1, tnc, hF.1] at hc
    rw [tnc] at e14
    obtain ⟨g1, g2, g3, g4, g5⟩ := hsum t14 t u (by omega) hL e14
    rw [g1] at hq q21
    rw [g2, tnc] at hq
    have hg := pf_g _ _ _ hq
    unfold LTq
    rw [uS_cell (by decide), uS_at, if_neg (by decide), uS_cell (by decide), uS_cell (by decide), hO.1 417 (by decide) (by decide), hO.2 28 (by decide) (by decide), hO.1 419 (by decide) (by decide), g2, g3, tnc]
    refine ⟨h, h1, by omega, fun i hi => ?_⟩
    have a2 := lst_f hm32 hi
    rw [g5.2.1 i hi, tnc]
    have hp := (gmem u (by omega) (lst m i) a2.1.1).1 a2.1.2
    rw [q21 _ hp]
    have := (hg (lst m i)).1 hp
    omega
  -- 17
  · rintro _ t ⟨u, rfl, hu, hL, hP⟩ hc t14 e14 s15 ⟨⟨q, hq, q35, q33, q21, qb⟩, hO⟩ t16 e16 hb
    rw [hL.1, tnc, hF.1] at hc
    rw [tnc] at e14
    obtain ⟨g1, g2, g3, g4, g5⟩ := hsum t14 t u (by omega) hL e14
    rw [g1] at hq q21
    rw [g2, tnc] at hq
    have hw := hbw u hu
    have e407 : t14 407 = t 407 := by rw [e14]; exact uC_ne (by decide)
    have r32 : s15 407 32 = (bU (s 417) c m u).1 := by rw [hO.2 32 (by decide) (by decide), e407]; exact hP.1
    rw [r32, w32_of (by omega)] at e16
    have q21' : ∀ p, p < 5 → m.testBit p = true → s15 421 p = q.2.2.2 p := fun p hp hb => q21 p ((gmem u (by omega) p hp).1 hb)
    have hk : ∀ v : Nat, kq (uS s15 407 32 ((bU (s 417) c m u).1 + 1)) (c : Int).toNat (v : Int) = kN (s 417) c m q.2.2.2 v := fun v => by
      rw [tnc]
      refine kq_kN hm32 ?_ ?_ ?_ ?_
      · rw [uS_cell (by decide), hO.1 417 (by decide) (by decide)]; exact g2
      · rw [uS_at, if_neg (by decide), hO.2 28 (by decide) (by decide)]; exact g3
      · rw [uS_cell (by decide), hO.1 419 (by decide) (by decide)]; exact g5.2.1
      · rw [uS_cell (by decide)]; exact q21'
    rw [cn_congr (fun v _ => hk v)] at e16
    have w32' : t16 407 32 = (bU (s 417) c m u).1 + 1 := by rw [e16, uS_at, if_neg (by decide), uS_at, if_pos rfl]
    have w33 : t16 407 33 = ngN q.2.2.2 := by rw [e16, uS_at, if_neg (by decide), uS_at, if_neg (by decide)]; exact q33
    have w34 : t16 407 34 = cn (kN (s 417) c m q.2.2.2) 30 := by rw [e16, uS_at, if_pos rfl]
    have w35 : t16 407 35 = q.2.1 := by rw [e16, uS_at, if_neg (by decide), uS_at, if_neg (by decide)]; exact q35
    have wo : ∀ j, j ≠ 32 → j ≠ 33 → j ≠ 34 → j ≠ 35 → t16 407 j = t 407 j := fun j j1 j2 j3 j4 => by
      rw [e16, uS_at, if_neg j3, uS_at, if_neg j1, hO.2 j j2 j4, e407]
    have wc : ∀ b, b ≠ 407 → b ≠ 420 → b ≠ 421 → t16 b = t b := fun b b1 b2 b3 => by
      rw [e16, uS_cell b1, uS_cell b1, hO.1 b b1 b3, e14, uC_ne b2]
    have w421 : t16 421 = s15 421 := by rw [e16, uS_cell (by decide), uS_cell (by decide)]
    have hbet : bet (ngN q.2.2.2) (cn (kN (s 417) c m q.2.2.2) 30) q.2.1 (bU (s 417) c m u) = true := by
      rw [w32', w33, w34, w35, wo 29 (by decide) (by decide) (by decide) (by decide), wo 30 (by decide) (by decide) (by decide) (by decide), wo 31 (by decide) (by decide) (by decide) (by decide)] at hb
      unfold bet
      by_cases z : (bU (s 417) c m u).1 = 0
      · simp [z]
      · have hp := hP.2.1 z
        rw [hp.1, hp.2.1, hp.2.2] at hb
        simp only [Bool.or_eq_true, Bool.and_eq_true, decide_eq_true_iff]
        omega
    rw [uS_at (uS t16 407 29 (t16 407 33)) 407 30, if_neg (by decide), uS_at t16 407 29, if_neg (by decide), uS_at t16 407 29, if_neg (by decide), w33, w34, w35]
    refine ⟨⟨u, 0, q, rfl, by omega, rfl, by omega, ⟨?_, ?_, ?_, ?_, ?_⟩, hq, hbet, ?_, ?_, ?_, ?_, ?_, fun p hp => ⟨fun ⟨j, hj, _⟩ => absurd hj (by omega), fun _ => ?_⟩⟩, by omega⟩
    · simp [uS_at]; rw [wo 28 (by decide) (by decide) (by decide) (by decide)]; exact hL.1
    · rw [uS_cell (by decide), uS_cell (by decide), uS_cell (by decide), wc 419 (by decide) (by decide) (by decide)]; exact hL.2.1
    · rw [uS_cell (by decide), uS_cell (by decide), uS_cell (by decide), wc 418 (by decide) (by decide) (by decide)]; exact hL.2.2.1
    · intro b hb'
      rw [uS_cell (by omega), uS_cell (by omega), uS_cell (by omega), wc b (by omega) (by omega) (by omega)]; exact hL.2.2.2.1 b hb'
    · intro j hj
      rw [uS_at, if_neg (by omega), uS_at, if_neg (by omega), uS_at, if_neg (by omega), wo j (by omega) (by omega) (by omega) (by omega)]; exact hL.2.2.2.2 j hj
    · simp [uS_at]; exact w32'
    · simp [uS_at]
    · simp [uS_at]
    · simp [uS_at]
    · rw [uS_cell (by decide), uS_cell (by decide), uS_cell (by decide), w421]; exact q21'
    · rw [uS_cell (by decide), uS_cell (by decide), uS_cell (by decide), wc 422 (by decide) (by decide) (by decide)]; exact hP.2.2 p hp
  -- 18
  · rintro _ t ⟨u, rfl, hu, hL, hP⟩ hc t14 e14 s15 ⟨⟨q, hq, q35, q33, q21, qb⟩, hO⟩ t16 e16 hb
    rw [hL.1, tnc, hF.1] at hc
    rw [tnc] at e14
    obtain ⟨g1, g2, g3, g4, g5⟩ := hsum t14 t u (by omega) hL e14
    rw [g1] at hq q21
    rw [g2, tnc] at hq
    have hw := hbw u hu
    have e407 : t14 407 = t 407 := by rw [e14]; exact uC_ne (by decide)
    have r32 : s15 407 32 = (bU (s 417) c m u).1 := by rw [hO.2 32 (by decide) (by decide), e407]; exact hP.1
    rw [r32, w32_of (by omega)] at e16
    have q21' : ∀ p, p < 5 → m.testBit p = true → s15 421 p = q.2.2.2 p := fun p hp hb => q21 p ((gmem u (by omega) p hp).1 hb)
    have hk : ∀ v : Nat, kq (uS s15 407 32 ((bU (s 417) c m u).1 + 1)) (c : Int).toNat (v : Int) = kN (s 417) c m q.2.2.2 v := fun v => by
      rw [tnc]
      refine kq_kN hm32 ?_ ?_ ?_ ?_
      · rw [uS_cell (by decide), hO.1 417 (by decide) (by decide)]; exact g2
      · rw [uS_at, if_neg (by decide), hO.2 28 (by decide) (by decide)]; exact g3
      · rw [uS_cell (by decide), hO.1 419 (by decide) (by decide)]; exact g5.2.1
      · rw [uS_cell (by decide)]; exact q21'
    rw [cn_congr (fun v _ => hk v)] at e16
    have w32' : t16 407 32 = (bU (s 417) c m u).1 + 1 := by rw [e16, uS_at, if_neg (by decide), uS_at, if_pos rfl]
    have w33 : t16 407 33 = ngN q.2.2.2 := by rw [e16, uS_at, if_neg (by decide), uS_at, if_neg (by decide)]; exact q33
    have w34 : t16 407 34 = cn (kN (s 417) c m q.2.2.2) 30 := by rw [e16, uS_at, if_pos rfl]
    have w35 : t16 407 35 = q.2.1 := by rw [e16, uS_at, if_neg (by decide), uS_at, if_neg (by decide)]; exact q35
    have wo : ∀ j, j ≠ 32 → j ≠ 33 → j ≠ 34 → j ≠ 35 → t16 407 j = t 407 j := fun j j1 j2 j3 j4 => by
      rw [e16, uS_at, if_neg j3, uS_at, if_neg j1, hO.2 j j2 j4, e407]
    have wc : ∀ b, b ≠ 407 → b ≠ 420 → b ≠ 421 → t16 b = t b := fun b b1 b2 b3 => by
      rw [e16, uS_cell b1, uS_cell b1, hO.1 b b1 b3, e14, uC_ne b2]
    rw [w32', w33, w34, w35, wo 29 (by decide) (by decide) (by decide) (by decide), wo 30 (by decide) (by decide) (by decide) (by decide), wo 31 (by decide) (by decide) (by decide) (by decide)] at hb
    have hz : ¬ (bU (s 417) c m u).1 = 0 := fun z => hb (Or.inl (by omega))
    have hp := hP.2.1 hz
    rw [hp.1, hp.2.1, hp.2.2] at hb
    have hbet : ¬ bet (ngN q.2.2.2) (cn (kN (s 417) c m q.2.2.2) 30) q.2.1 (bU (s 417) c m u) = true := by
      unfold bet
      simp only [Bool.or_eq_true, Bool.and_eq_true, decide_eq_true_iff]
      omega
    have eS : bU (s 417) c m (u + 1) = ((bU (s 417) c m u).1 + 1, (bU (s 417) c m u).2) := by
      rw [bU_s]
      unfold stp
      rw [hq]
      dsimp only
      unfold wgB
      rw [if_neg hbet]
    rw [w32_of (by omega)]
    refine ⟨⟨u + 1, by omega, by omega, ⟨?_, ?_, ?_, ?_, ?_⟩, ?_, fun _ => ?_, fun p hp' => ?_⟩, by omega⟩
    · rw [wo 28 (by decide) (by decide) (by decide) (by decide)]; exact hL.1
    · rw [wc 419 (by decide) (by decide) (by decide)]; exact hL.2.1
    · rw [wc 418 (by decide) (by decide) (by decide)]; exact hL.2.2.1
    · intro b hb'; rw [wc b (by omega) (by omega) (by omega)]; exact hL.2.2.2.1 b hb'
    · intro j hj; rw [wo j (by omega) (by omega) (by omega) (by omega)]; exact hL.2.2.2.2 j hj
    · rw [eS]; exact w32'
    · rw [eS, wo 29 (by decide) (by decide) (by decide) (by decide), wo 30 (by decide) (by decide) (by decide) (by decide), wo 31 (by decide) (by decide) (by decide) (by decide)]; exact hp
    · rw [eS, wc 422 (by decide) (by decide) (by decide), hP.2.2 p hp', if_neg hz]
      dsimp only
      rw [if_neg (by omega)]
  -- 19
  · rintro _ t ⟨u, rfl, hu, hL, hP⟩ hc t14 e14 s19 ⟨hq, hO⟩
    rw [hL.1, tnc, hF.1] at hc
    rw [tnc] at e14
    obtain ⟨g1, g2, g3, g4, g5⟩ := hsum t14 t u (by omega) hL e14
    rw [g1, g2, tnc] at hq
    have e407 : t14 407 = t 407 := by rw [e14]; exact uC_ne (by decide)
    have wo : ∀ j, j ≠ 33 → j ≠ 35 → s19 407 j = t 407 j := fun j j1 j2 => by rw [hO.2 j j1 j2, e407]
    have wc : ∀ b, b ≠ 407 → b ≠ 420 → b ≠ 421 → s19 b = t b := fun b b1 b2 b3 => by rw [hO.1 b b1 b3, e14, uC_ne b2]
    have eS : bU (s 417) c m (u + 1) = bU (s 417) c m u := by
      rw [bU_s]
      unfold stp
      rw [hq]
    rw [w32_of (by omega)]
    refine ⟨⟨u + 1, by omega, by omega, ⟨?_, ?_, ?_, ?_, ?_⟩, ?_⟩, by omega⟩
    · rw [wo 28 (by decide) (by decide)]; exact hL.1
    · rw [wc 419 (by decide) (by decide) (by decide)]; exact hL.2.1
    · rw [wc 418 (by decide) (by decide) (by decide)]; exact hL.2.2.1
    · intro b hb'; rw [wc b (by omega) (by omega) (by omega)]; exact hL.2.2.2.1 b hb'
    · intro j hj; rw [wo j (by omega) (by omega)]; exact hL.2.2.2.2 j hj
    · rw [eS]; unfold PQ
      rw [wo 32 (by decide) (by decide), wo 29 (by decide) (by decide), wo 30 (by decide) (by decide), wo 31 (by decide) (by decide), wc 422 (by decide) (by decide) (by decide)]
      exact hP
  -- 20
  · rintro _ _ t ⟨u, i, q, rfl, hu, rfl, hi, hL, hq, hbet, e32, e29, e30, e31, e21, e22⟩ hc
    rw [hL.1] at hc
    have : i = cntB m := by omega
    subst this
    have hw := hbw u (by omega)
    have hg := pf_g _ _ _ hq
    have eS : bU (s 417) c m (u + 1) = ((bU (s 417) c m u).1 + 1, ngN q.2.2.2, cn (kN (s 417) c m q.2.2.2) 30, q.2.1, q.2.2.2) := by
      rw [bU_s]
      unfold stp
      rw [hq]
      dsimp only
      unfold wgB
      rw [if_pos hbet]
    rw [w32_of (by omega)]
    refine ⟨⟨u + 1, by omega, by omega, hL, by rw [eS]; exact e32, fun _ => by rw [eS]; exact ⟨e29, e30, e31⟩, fun p hp => ?_⟩, by omega⟩
    rw [eS]
    dsimp only
    rw [if_neg (by omega)]
    by_cases hb : m.testBit p = true
    · obtain ⟨j, hj, e⟩ := lst_s hm32 (by omega) hb
      exact (e22 p hp).1 ⟨j, hj, e⟩
    · rw [(e22 p hp).2 (fun ⟨j, hj, e⟩ => hb (by rw [← e]; exact (lst_f hm32 hj).1.2))]
      have e1 : q.2.2.2 p = -1 := by
        rw [(hg p).2 (fun z => hb ((gmem u hu p (by omega)).2 z))]; rfl
      rw [e1]
      by_cases z : (bU (s 417) c m u).1 = 0
      · rw [if_pos z]
      · rw [if_neg z]
        exact (bU_g hm32 (by omega) z p).2 (bf hb)
  -- 21
  · rintro _ _ t ⟨u, i, q, rfl, hu, rfl, hi, hL, hq, hbet, e32, e29, e30, e31, e21, e22⟩ hc
    rw [hL.1] at hc
    omega
  -- 22
  · rintro _ _ t ⟨u, i, q, rfl, hu, rfl, hi, hL, hq, hbet, e32, e29, e30, e31, e21, e22⟩ hc
    rw [hL.1] at hc
    have := lst_f hm32 (show i < cntB m by omega)
    rw [tnc, hL.2.1 i (by omega)]
    omega
  -- 23
  · rintro _ _ t ⟨u, i, q, rfl, hu, rfl, hi, hL, hq, hbet, e32, e29, e30, e31, e21, e22⟩ hc
    rw [hL.1] at hc
    have hl := lst_f hm32 (show i < cntB m by omega)
    rw [tnc, hL.2.1 i (by omega), tnc, e21 _ hl.1.1 hl.1.2, w32_of (by omega)]
    refine ⟨⟨u, i + 1, q, rfl, hu, by omega, by omega, ⟨?_, ?_, ?_, ?_, ?_⟩, hq, hbet, ?_, ?_, ?_, ?_, ?_, fun p hp => ⟨fun ⟨j, hj, e⟩ => ?_, fun z => ?_⟩⟩, by omega⟩
    · rw [uS_cell (by decide)]; exact hL.1
    · rw [uS_cell (by decide)]; exact hL.2.1
    · rw [uS_cell (by decide)]; exact hL.2.2.1
    · intro b hb'; rw [uS_cell (by omega)]; exact hL.2.2.2.1 b hb'
    · rw [uS_cell (by decide)]; exact hL.2.2.2.2
    · rw [uS_cell (by decide)]; exact e32
    · rw [uS_cell (by decide)]; exact e29
    · rw [uS_cell (by decide)]; exact e30
    · rw [uS_cell (by decide)]; exact e31
    · rw [uS_cell (by decide)]; exact e21
    · rw [uS_at]
      by_cases w : p = lst m i
      · rw [if_pos w, w]
      · rw [if_neg w]
        exact (e22 p hp).1 ⟨j, by rcases Nat.lt_or_eq_of_le (Nat.le_of_lt_succ hj) with y | y; exact y; subst y; exact absurd e.symm w, e⟩
    · rw [uS_at, if_neg (fun w => z ⟨i, by omega, w.symm⟩)]
      exact (e22 p hp).2 (fun ⟨j, hj, e⟩ => z ⟨j, by omega, e⟩)
  -- 24
  · refine ⟨0, rfl, by omega, ?_, ?_, fun u hu => absurd hu (by omega), fun b hb => ?_, fun j hj => ?_⟩
    · rw [uS_at, if_neg (by decide), uS_at, if_pos rfl]
    · rw [uS_at, if_pos rfl]
    · rw [uS_cell (by omega), uS_cell (by omega)]
    · rw [uS_at, if_neg (by omega), uS_at, if_neg (by omega)]
