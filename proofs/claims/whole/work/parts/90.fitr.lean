/-! what was noted: the reference -/
theorem anew_up {a b : Rw} {c : Nat} {x : Int} (hc : 117 ≤ c) (h : ∀ j, (j < 5 ∨ 77 ≤ j) → j ≠ c → b j = a j) (hx : b c = x) : anew b = up (anew a) c x := by
  funext j
  by_cases z0 : j = c
  · subst z0; rw [up_at, anew_o (by omega)]; exact hx
  rw [up_ne z0]
  unfold anew anK
  by_cases z5 : j = 5
  · rw [if_pos z5, if_pos z5]
  rw [if_neg z5, if_neg z5]
  by_cases z1 : 6 ≤ j ∧ j < 6 + 5
  · rw [if_pos z1, if_pos z1]; exact h _ (by omega) (by omega)
  rw [if_neg z1, if_neg z1]
  by_cases z2 : 11 ≤ j ∧ j < 11 + 30
  · rw [if_pos z2, if_pos z2]; exact h _ (by omega) (by omega)
  rw [if_neg z2, if_neg z2]
  by_cases z3 : 41 ≤ j ∧ j < 41 + 6
  · rw [if_pos z3, if_pos z3]
  rw [if_neg z3, if_neg z3]
  by_cases z4 : 47 ≤ j ∧ j < 47 + 30
  · rw [if_pos z4, if_pos z4]
  rw [if_neg z4, if_neg z4]
  exact h _ (by omega) z0
theorem anew_cg {a b : Rw} (h : ∀ j, (j < 5 ∨ 77 ≤ j) → b j = a j) : anew b = anew a := by
  rw [anew_up (c := 200) (x := a 200) (by decide) (fun j hj _ => h j hj) (h 200 (by decide))]
  funext j
  by_cases z : j = 200
  · subst z; rw [up_at, anew_o (by decide)]
  · exact up_ne z
def agN (s : mSt) (R : Rw → Nat → Int) (a : Rw) : Bool := agB (fun i => s 417 (135 + 3 * i)) (fun i => s 417 (135 + 3 * i + 1)) (fun i => s 417 (135 + 3 * i + 2)) (s 417 165).toNat R a
theorem agN_iff {s t : mSt} (h : ∀ j, 135 ≤ j → t 417 j = s 417 j) : agR t ↔ agN s (ruR t) (anew (t 417)) = true := by
  unfold agN agR
  rw [agB_iff]
  have g1 : (fun i => t 417 (135 + 3 * i)) = fun i => s 417 (135 + 3 * i) := funext fun i => h _ (by omega)
  have g2 : (fun i => t 417 (135 + 3 * i + 1)) = fun i => s 417 (135 + 3 * i + 1) := funext fun i => h _ (by omega)
  have g3 : (fun i => t 417 (135 + 3 * i + 2)) = fun i => s 417 (135 + 3 * i + 2) := funext fun i => h _ (by omega)
  rw [g1, g2, g3, h 165 (by decide)]
theorem v300 {X : (Nat → Int) × Nat} {d : Nat} {s : mSt} {Q : mQ} {x1 : Int} {x2 : Int} {x3 : Int}
  (I18 : Int → Int → Int → mSt → Prop) (m18 : Int → Int → Int → mSt → Nat)
  (z1 : ∀ y4 : Int, ∀ y5 : Int, ∀ y6 : Int, ∀ s : mSt, I18 y4 y5 y6 s → x2 ≤ y6 → 0 ≤ x1 ∧ x1 < 166)
  (z2 : ∀ y4 : Int, ∀ y5 : Int, ∀ y6 : Int, ∀ s : mSt, I18 y4 y5 y6 s → x2 ≤ y6 → ∀ t2 : mSt, t2 = uS s 417 x1.toNat y4 → ∀ t3 : mSt, t3 = uR t2 (lbk (t2 417) (t2 429)) → Q (some (mI y5)) t3)
  (z3 : ∀ y4 : Int, ∀ y5 : Int, ∀ y6 : Int, ∀ s : mSt, I18 y4 y5 y6 s → ¬ x2 ≤ y6 → 0 ≤ x1 ∧ x1 < 166)
  (z4 : ∀ y4 : Int, ∀ y5 : Int, ∀ y6 : Int, ∀ s : mSt, I18 y4 y5 y6 s → ¬ x2 ≤ y6 → ∀ t5 : mSt, t5 = uS s 417 x1.toNat (w32 (y6 * x3)) → Ok (t5 417) ∧ FOq t5 ∧ (0 ≤ (0 : Int) ∧ (0 : Int) < 7))
  (z5 : ∀ y4 : Int, ∀ y5 : Int, ∀ y6 : Int, ∀ s : mSt, I18 y4 y5 y6 s → ¬ x2 ≤ y6 → ∀ t5 : mSt, t5 = uS s 417 x1.toNat (w32 (y6 * x3)) → ∀ v6 : Int, ∀ s6 : mSt, (((v6 = 1 ∧ agR t5) ∨ (v6 = 0 ∧ ¬ agR t5)) ∧ s6 417 = stN (ruR t5) 10 (anew (t5 417)) ∧ s6 435 = R35 t5 (0 : Int) (-1 : Int) 10 ∧ f35 t5 s6) → v6 = 0 → I18 y4 y5 (w32 (y6 + 1)) s6 ∧ m18 y4 y5 (w32 (y6 + 1)) s6 < m18 y4 y5 y6 s)
  (z6 : ∀ y4 : Int, ∀ y5 : Int, ∀ y6 : Int, ∀ s : mSt, I18 y4 y5 y6 s → ¬ x2 ≤ y6 → ∀ t5 : mSt, t5 = uS s 417 x1.toNat (w32 (y6 * x3)) → ∀ v6 : Int, ∀ s6 : mSt, (((v6 = 1 ∧ agR t5) ∨ (v6 = 0 ∧ ¬ agR t5)) ∧ s6 417 = stN (ruR t5) 10 (anew (t5 417)) ∧ s6 435 = R35 t5 (0 : Int) (-1 : Int) 10 ∧ f35 t5 s6) → ¬ v6 = 0 → I18 y4 (iOr y5 (iShl 1 y6)) (w32 (y6 + 1)) s6 ∧ m18 y4 (iOr y5 (iShl 1 y6)) (w32 (y6 + 1)) s6 < m18 y4 y5 y6 s)
  (z7 : 0 ≤ x1 ∧ x1 < 166)
  (z8 : ∀ t9 : mSt, t9 = uC s 429 (kpR (s 417) (s 429)) → I18 (s 417 x1.toNat) 0 0 t9) :
  Sp X (d + 9) 300 [mR 407, mI x1, mI x2, mI x3] s Q := by
  have L : ∀ k : Nat, (∀ (y4 : Int) (y5 : Int) (y6 : Int) (s : mSt), I18 y4 y5 y6 s → m18 y4 y5 y6 s < k → Wp X (d + 9) 300 18 [some (mR 407), some (mI x1), some (mI x2), some (mI x3), some (mI y4), some (mI y5), some (mI y6)] [] s Q) := by
    intro k
    induction k with
    | zero => exact fun _ _ _ _ _ h => absurd h (Nat.not_lt_zero _)
    | succ k ih => exact fun y4 y5 y6 s hI hm => b300_18 (fun q1 => b300_58 (z1 y4 y5 y6 s hI q1) (Sp_gen (fun t2 e2 => (c278  ⟨rfl, Wp_gen (fun t3 e3 => b300_70 (z2 y4 y5 y6 s hI q1 t2 e2 t3 e3))⟩)))) (fun q4 => b300_24 (z3 y4 y5 y6 s hI q4) (Sp_gen (fun t5 e5 => (c295 (z4 y4 y5 y6 s hI q4 t5 e5) (fun v6 s6 q6 => ⟨v6, rfl, b300_40 (fun q7 => b300_52 (ih y4 y5 (w32 (y6 + 1)) s6 (z5 y4 y5 y6 s hI q4 t5 e5 v6 s6 q6 q7).1 (Nat.lt_of_lt_of_le (z5 y4 y5 y6 s hI q4 t5 e5 v6 s6 q6 q7).2 (Nat.le_of_lt_succ hm)))) (fun q8 => b300_43 (b300_52 (ih y4 (iOr y5 (iShl 1 y6)) (w32 (y6 + 1)) s6 (z6 y4 y5 y6 s hI q4 t5 e5 v6 s6 q6 q8).1 (Nat.lt_of_lt_of_le (z6 y4 y5 y6 s hI q4 t5 e5 v6 s6 q6 q8).2 (Nat.le_of_lt_succ hm)))))⟩)))))
  exact e300 (b300_0 z7 (c277  ⟨rfl, Wp_gen (fun t9 e9 => b300_15 ((L (m18 (s 417 x1.toNat) 0 0 t9 + 1)) (s 417 x1.toNat) 0 0 t9 (z8 t9 e9) (Nat.lt_succ_self _)))⟩))

theorem c300 {X : (Nat → Int) × Nat} {d : Nat} {s : mSt} {Q : mQ} {x1 : Int} {x2 : Int} {x3 : Int} (p1 : Ok (s 417) ∧ FOq s ∧ (123 ≤ x1 ∧ x1 < 135) ∧ (0 ≤ x2 ∧ x2 ≤ 6) ∧ ∀ n : Nat, (n : Int) < x2 → 0 ≤ x3 * (n : Int) ∧ x3 * (n : Int) ≤ if x1.toNat < 129 then 100 else 3) (k : ∀ (v : Int) (t : mSt), (v = os (fun n => agN s (ruR s) (up (anew (s 417)) x1.toNat (x3 * (n : Int)))) x2.toNat ∧ fX s t) → Q (some (mI v)) t) : Sp X (d + 9) 300 [mR 407, mI x1, mI x2, mI x3] s Q := by
  obtain ⟨h, hF, h1, h2, h3⟩ := p1
  let f : Nat → Bool := fun n => agN s (ruR s) (up (anew (s 417)) x1.toNat (x3 * (n : Int)))
  let N : Nat := x1.toNat
  have hN : N = x1.toNat := rfl
  let fr : mSt → Prop := fun t => (∀ b, ¬ (b = 407 ∨ 415 ≤ b ∧ b ≤ 422 ∨ b = 429) → t b = s b) ∧ ∀ j, ¬ (j = 18 ∨ 28 ≤ j ∧ j ≤ 35) → t 407 j = s 407 j
  have fo : ∀ t : mSt, fr t → FOq t ∧ ∀ r, ruR t r = ruR s r := fun t ht => fo_cells hF (fun b hb => ht.1 b (by omega)) (ht.2 21 (by decide))
  let K : mSt → Prop := fun t => (∀ j, (j < 5 ∨ 77 ≤ j) → j ≠ x1.toNat → t 417 j = s 417 j) ∧ Ok (t 417) ∧ t 429 = kpR (s 417) (s 429) ∧ fr t
  have st : ∀ (n : Nat) (t t5 : mSt), (n : Int) < x2 → K t → t5 = uS t 417 x1.toNat (w32 ((n : Int) * x3)) → (Ok (t5 417) ∧ FOq t5) ∧ (agR t5 ↔ f n = true) ∧ ∀ u : mSt, u 417 = stN (ruR t5) 10 (anew (t5 417)) → u 435 = R35 t5 0 (-1) 10 → f35 t5 u → K u := fun n t t5 hn ⟨k1, k2, k3, k4⟩ h5 => by
    have b := h3 n hn
    have b2 : x3 * (n : Int) ≤ 100 := by have := b.2; split at this <;> omega
    rw [Int.mul_comm, w32_of (by omega)] at h5
    have c5 : ∀ b, b ≠ 417 → t5 b = t b := fun b hb => by rw [h5]; exact uS_cell hb
    have e5 : t5 417 = up (t 417) x1.toNat (x3 * (n : Int)) := by rw [h5]; funext j; rw [uS_at]; rfl
    have f5 : fr t5 := ⟨fun b hb => (c5 b (by omega)).trans (k4.1 b hb), fun j hj => by rw [c5 407 (by decide)]; exact k4.2 j hj⟩
    have o5 : Ok (t5 417) := by rw [e5]; exact up_ok k2 (by omega) b
    have ea : anew (t5 417) = up (anew (s 417)) x1.toNat (x3 * (n : Int)) := anew_up (by omega) (fun j hj hne => by rw [e5, up_ne hne]; exact k1 j hj hne) (by rw [e5, up_at])
    have q := fo t5 f5
    have er : ruR t5 = ruR s := funext q.2
    refine ⟨⟨o5, q.1⟩, ?_, fun u u7 u5 uf => ?_⟩
    · rw [agN_iff (s := s) (fun j hj => by rw [e5, up_ne (by omega)]; exact k1 j (by omega) (by omega)), ea, er]
    · have ao := anew_ok o5
      have so := stN_ok (R := ruR t5) ao.1 10 (by rw [ao.2]; omega)
      refine ⟨fun j hj hne => ?_, by rw [u7]; exact so.1, by rw [uf.1 429 (by decide), c5 429 (by decide)]; exact k3, fun b hb => ?_, fun j hj => (uf.2 j hj).trans (f5.2 j hj)⟩
      · rw [u7, stN_o ao.1 hj 10 (by rw [ao.2]; omega), anew_o hj, e5, up_ne hne]; exact k1 j hj hne
      · by_cases z : b = 435
        · subst z
          rw [u5]
          have : R35 t5 0 (-1) 10 = t5 435 := by
            funext i; unfold R35; rw [if_neg (by omega)]
          rw [this]; exact f5.1 435 hb
        · rw [uf.1 b (by omega)]; exact f5.1 b hb
  let J : Int → Int → Int → mSt → Prop := fun y4 y5 y6 t => ∃ n : Nat, y6 = n ∧ n ≤ x2.toNat ∧ y4 = s 417 x1.toNat ∧ y5 = os f n ∧ K t
  refine v300 J (fun _ _ y _ => (6 - y).toNat) ?_ ?_ ?_ ?_ ?_ ?_ ?_ ?_
  · rintro _ _ _ t ⟨n, rfl, hn, rfl, rfl, hk⟩ hc
    omega
  · rintro _ _ _ t ⟨n, rfl, hn, rfl, rfl, k1, k2, k3, k4⟩ hc t2 h2' t3 h3'
    have : n = x2.toNat := by omega
    subst this
    refine k _ t3 ⟨rfl, ?_⟩
    have c2 : ∀ b, b ≠ 417 → t2 b = t b := fun b hb => by rw [h2']; exact uS_cell hb
    have c3 : ∀ b, b ≠ 417 → t3 b = t2 b := fun b hb => by rw [h3']; exact uC_ne hb
    have e3 : t3 417 = s 417 := by
      rw [h3', show uR t2 (lbk (t2 417) (t2 429)) 417 = lbk (t2 417) (t2 429) from uC_at _ _ _, c2 429 (by decide), k3]
      funext j
      unfold lbk kpR
      by_cases z : 5 ≤ j ∧ j < 77
      · rw [if_pos z, if_pos (by omega), show 5 + (j - 5) = j by omega]
      · rw [if_neg z, h2', uS_at]
        by_cases z1 : j = x1.toNat
        · rw [if_pos z1, z1]
        · rw [if_neg z1]; exact k1 j (by omega) z1
    refine ⟨fun b hb => ?_, fun j hj => ?_⟩
    · by_cases z : b = 417
      · rw [z]; exact e3
      · rw [c3 b z, c2 b z]; exact k4.1 b (by omega)
    · rw [c3 407 (by decide), c2 407 (by decide)]; exact k4.2 j hj
  · rintro _ _ _ t ⟨n, rfl, hn, rfl, rfl, hk⟩ hc
    omega
  · rintro _ _ _ t ⟨n, rfl, hn, rfl, rfl, hk⟩ hc t5 h5
    have q := st n t t5 (by omega) hk h5
    exact ⟨q.1.1, q.1.2, by omega⟩
  · rintro _ _ _ t ⟨n, rfl, hn, rfl, rfl, hk⟩ hc t5 h5 v u hu hv
    have q := st n t t5 (by omega) hk h5
    have hf : ¬ f n = true := fun z => by
      rcases hu.1 with w | w
      · omega
      · exact w.2 (q.2.1.2 z)
    rw [os_no hf, w32_of (by omega)]
    exact ⟨⟨n + 1, by omega, by omega, rfl, rfl, q.2.2 u hu.2.1 hu.2.2.1 hu.2.2.2⟩, by omega⟩
  · rintro _ _ _ t ⟨n, rfl, hn, rfl, rfl, hk⟩ hc t5 h5 v u hu hv
    have q := st n t t5 (by omega) hk h5
    have hf : f n = true := by
      rcases hu.1 with w | w
      · exact q.2.1.1 w.2
      · exact absurd w.1 hv
    rw [os_or (by omega) hf, w32_of (by omega)]
    exact ⟨⟨n + 1, by omega, by omega, rfl, rfl, q.2.2 u hu.2.1 hu.2.2.1 hu.2.2.2⟩, by omega⟩
  · omega
  · intro u hu
    have cu : ∀ b, b ≠ 429 → u b = s b := fun b hb => by rw [hu]; exact uC_ne hb
    exact ⟨0, rfl, by omega, rfl, rfl, fun j _ _ => by rw [cu 417 (by decide)], by rw [cu 417 (by decide)]; exact h, by rw [hu]; exact uC_at _ _ _, fun b hb => cu b (by omega), fun j _ => by rw [cu 407 (by decide)]⟩
/-- the rule of a number, 0 for none -/
def ruN (s : mSt) (i : Nat) (a : Rw) : Nat → Int := if i = 0 then fun _ => 1 else fun c => wrF (fcA a c) (sgR s (i - 1)) (E1r s (i - 1)) (E3r s (i - 1)) (s 412 (i - 1)).toNat 0
def fY (s t : mSt) : Prop := (∀ b, ¬ (b = 407 ∨ b = 415 ∨ b = 416 ∨ 418 ≤ b ∧ b ≤ 422 ∨ b = 429 ∨ b = 434 ∨ b = 435) → t b = s b) ∧ ∀ j, ¬ (j = 18 ∨ 28 ≤ j ∧ j ≤ 35) → t 407 j = s 407 j
def fitN (s : mSt) (i : Nat) : Bool := agN s (ruN s i) (anew (s 417))
def RLq (s : mSt) : Prop := (0 ≤ s 407 2 ∧ s 407 2 ≤ 6) ∧ (-1 ≤ s 407 21 ∧ s 407 21 < s 407 2) ∧ ∀ r : Nat, (r : Int) < s 407 2 → SKq s r
theorem v296 {X : (Nat → Int) × Nat} {d : Nat} {s : mSt} {Q : mQ} {x1 : Int}
  (I11 : Int → Int → mSt → Prop) (m11 : Int → Int → mSt → Nat)
  (z1 : ∀ y2 : Int, ∀ y3 : Int, ∀ s : mSt, I11 y2 y3 s → (s 407 2) < y3 → ∀ t2 : mSt, t2 = uS s 407 21 y2 → ∀ t3 : mSt, t3 = uR t2 (lbk (t2 417) (t2 429)) → Q none t3)
  (z2 : ∀ y2 : Int, ∀ y3 : Int, ∀ s : mSt, I11 y2 y3 s → ¬ (s 407 2) < y3 → ∀ t5 : mSt, t5 = uS s 407 21 (w32 (y3 - 1)) → Ok (t5 417) ∧ FOq t5 ∧ (0 ≤ y3 ∧ y3 < 7))
  (z3 : ∀ y2 : Int, ∀ y3 : Int, ∀ s : mSt, I11 y2 y3 s → ¬ (s 407 2) < y3 → ∀ t5 : mSt, t5 = uS s 407 21 (w32 (y3 - 1)) → ∀ v6 : Int, ∀ s6 : mSt, (((v6 = 1 ∧ agR t5) ∨ (v6 = 0 ∧ ¬ agR t5)) ∧ s6 417 = stN (ruR t5) 10 (anew (t5 417)) ∧ s6 435 = R35 t5 y3 x1 10 ∧ f35 t5 s6) → 0 ≤ y3 ∧ y3 < 7)
  (z4 : ∀ y2 : Int, ∀ y3 : Int, ∀ s : mSt, I11 y2 y3 s → ¬ (s 407 2) < y3 → ∀ t5 : mSt, t5 = uS s 407 21 (w32 (y3 - 1)) → ∀ v6 : Int, ∀ s6 : mSt, (((v6 = 1 ∧ agR t5) ∨ (v6 = 0 ∧ ¬ agR t5)) ∧ s6 417 = stN (ruR t5) 10 (anew (t5 417)) ∧ s6 435 = R35 t5 y3 x1 10 ∧ f35 t5 s6) → v6 = 0 ∨ v6 = 1)
  (z5 : ∀ y2 : Int, ∀ y3 : Int, ∀ s : mSt, I11 y2 y3 s → ¬ (s 407 2) < y3 → ∀ t5 : mSt, t5 = uS s 407 21 (w32 (y3 - 1)) → ∀ v6 : Int, ∀ s6 : mSt, (((v6 = 1 ∧ agR t5) ∨ (v6 = 0 ∧ ¬ agR t5)) ∧ s6 417 = stN (ruR t5) 10 (anew (t5 417)) ∧ s6 435 = R35 t5 y3 x1 10 ∧ f35 t5 s6) → I11 y2 (w32 (y3 + 1)) (uS s6 434 y3.toNat v6) ∧ m11 y2 (w32 (y3 + 1)) (uS s6 434 y3.toNat v6) < m11 y2 y3 s)
  (z6 : ∀ t7 : mSt, t7 = uC s 429 (kpR (s 417) (s 429)) → I11 (s 407 21) 0 t7) :
  Sp X (d + 9) 296 [mR 407, mI x1] s Q := by
  have L : ∀ k : Nat, (∀ (y2 : Int) (y3 : Int) (s : mSt), I11 y2 y3 s → m11 y2 y3 s < k → Wp X (d + 9) 296 11 [some (mR 407), some (mI x1), some (mI y2), some (mI y3)] [] s Q) := by
    intro k
    induction k with
    | zero => exact fun _ _ _ _ h => absurd h (Nat.not_lt_zero _)
    | succ k ih => exact fun y2 y3 s hI hm => b296_11 (fun q1 => b296_44 (Sp_gen (fun t2 e2 => (c278  ⟨rfl, Wp_gen (fun t3 e3 => b296_53 (z1 y2 y3 s hI q1 t2 e2 t3 e3))⟩)))) (fun q4 => b296_19 (Sp_gen (fun t5 e5 => (c295 (z2 y2 y3 s hI q4 t5 e5) (fun v6 s6 q6 => ⟨v6, rfl, b296_37 (z3 y2 y3 s hI q4 t5 e5 v6 s6 q6) (z4 y2 y3 s hI q4 t5 e5 v6 s6 q6) (ih y2 (w32 (y3 + 1)) (uS s6 434 y3.toNat v6) (z5 y2 y3 s hI q4 t5 e5 v6 s6 q6).1 (Nat.lt_of_lt_of_le (z5 y2 y3 s hI q4 t5 e5 v6 s6 q6).2 (Nat.le_of_lt_succ hm)))⟩)))))
  exact e296 (b296_0 (c277  ⟨rfl, Wp_gen (fun t7 e7 => b296_9 ((L (m11 (s 407 21) 0 t7 + 1)) (s 407 21) 0 t7 (z6 t7 e7) (Nat.lt_succ_self _)))⟩))

theorem c296 {X : (Nat → Int) × Nat} {d : Nat} {s : mSt} {Q : mQ} {x1 : Int} (p1 : Ok (s 417) ∧ RLq s) (k : ∀ t : mSt, ((∀ i : Nat, (i : Int) ≤ s 407 2 → t 434 i = (if fitN s i = true then 1 else 0) ∧ (0 ≤ x1 ∧ x1 < 10 → ∀ j, j < 30 → t 435 (30 * i + j) = fre (stN (ruN s i) (x1.toNat + 1) (anew (s 417))) j)) ∧ fY s t) → Q none t) : Sp X (d + 9) 296 [mR 407, mI x1] s Q := by
  obtain ⟨h, h2, h21, hS⟩ := p1
  let fr : mSt → Prop := fun t => (∀ b, ¬ (b = 407 ∨ 415 ≤ b ∧ b ≤ 422 ∨ b = 429 ∨ b = 434 ∨ b = 435) → t b = s b) ∧ ∀ j, ¬ (j = 18 ∨ j = 21 ∨ 28 ≤ j ∧ j ≤ 35) → t 407 j = s 407 j
  let V : mSt → Nat → Prop := fun t i => t 434 i = (if fitN s i = true then 1 else 0) ∧ (0 ≤ x1 ∧ x1 < 10 → ∀ j, j < 30 → t 435 (30 * i + j) = fre (stN (ruN s i) (x1.toNat + 1) (anew (s 417))) j)
  let K : mSt → Prop := fun t => (∀ j, (j < 5 ∨ 77 ≤ j) → t 417 j = s 417 j) ∧ Ok (t 417) ∧ t 429 = kpR (s 417) (s 429) ∧ fr t
  have st : ∀ (n : Nat) (t t5 : mSt), (n : Int) ≤ s 407 2 → K t → t5 = uS t 407 21 (w32 ((n : Int) - 1)) → (Ok (t5 417) ∧ FOq t5) ∧ ruR t5 = ruN s n ∧ anew (t5 417) = anew (s 417) ∧ (agR t5 ↔ fitN s n = true) ∧ t5 435 = t 435 ∧ t5 434 = t 434 ∧ ∀ u : mSt, u 417 = stN (ruR t5) 10 (anew (t5 417)) → f35 t5 u → (K u ∧ u 434 = t 434) := fun n t t5 hn ⟨k1, k2, k3, k4⟩ h5 => by
    rw [w32_of (by omega)] at h5
    have c5 : ∀ b, b ≠ 407 → t5 b = t b := fun b hb => by rw [h5]; exact uS_cell hb
    have e5 : t5 417 = t 417 := c5 417 (by decide)
    have e21 : t5 407 21 = (n : Int) - 1 := by rw [h5, uS_at, if_pos rfl]
    have f5 : fr t5 := ⟨fun b hb => (c5 b (by omega)).trans (k4.1 b hb), fun j hj => by rw [h5, uS_at, if_neg (by omega)]; exact k4.2 j hj⟩
    have c9 : ∀ b, 409 ≤ b ∧ b ≤ 412 → t5 b = s b := fun b hb => f5.1 b (by omega)
    have o5 : Ok (t5 417) := by rw [e5]; exact k2
    have ea : anew (t5 417) = anew (s 417) := anew_cg (fun j hj => by rw [e5]; exact k1 j hj)
    have hFO : FOq t5 := by
      refine ⟨by omega, fun z => ?_⟩
      exact (sk_cells (hS _ (by omega)) c9).1
    have er : ruR t5 = ruN s n := by
      funext a
      unfold ruR ruN
      rw [e21]
      by_cases z : n = 0
      · rw [if_pos (by omega), if_pos z]
      · have q := sk_cells (hS (n - 1) (by omega)) c9
        rw [if_neg (by omega), if_neg z, show ((n : Int) - 1).toNat = n - 1 by omega, q.2.1, q.2.2.1, q.2.2.2, c9 412 (by decide)]
    refine ⟨⟨o5, hFO⟩, er, ea, ?_, c5 435 (by decide), c5 434 (by decide), fun u u7 uf => ?_⟩
    · rw [agN_iff (s := s) (fun j hj => by rw [e5]; exact k1 j (by omega)), ea, er]; exact Iff.rfl
    · have ao := anew_ok o5
      have so := stN_ok (R := ruR t5) ao.1 10 (by rw [ao.2]; omega)
      refine ⟨⟨fun j hj => ?_, by rw [u7]; exact so.1, by rw [uf.1 429 (by decide), c5 429 (by decide)]; exact k3, fun b hb => ?_, fun j hj => (uf.2 j (by omega)).trans (f5.2 j hj)⟩, by rw [uf.1 434 (by decide)]; exact c5 434 (by decide)⟩
      · rw [u7, stN_o ao.1 hj 10 (by rw [ao.2]; omega), anew_o hj, e5]; exact k1 j hj
      · rw [uf.1 b (by omega)]; exact f5.1 b hb
  let J : Int → Int → mSt → Prop := fun y2 y3 t => ∃ n : Nat, y3 = n ∧ (n : Int) ≤ s 407 2 + 1 ∧ y2 = s 407 21 ∧ K t ∧ ∀ i, i < n → V t i
  have e2 : ∀ t : mSt, K t → t 407 2 = s 407 2 := fun t hk => hk.2.2.2.2 2 (by decide)
  refine v296 J (fun _ y _ => (8 - y).toNat) ?_ ?_ ?_ ?_ ?_ ?_
  · rintro _ _ t ⟨n, rfl, hn, rfl, hk, hv⟩ hc t2 h2' t3 h3'
    rw [e2 t hk] at hc
    obtain ⟨k1, k2, k3, k4⟩ := hk
    have c2 : ∀ b, b ≠ 407 → t2 b = t b := fun b hb => by rw [h2']; exact uS_cell hb
    have c3 : ∀ b, b ≠ 417 → t3 b = t2 b := fun b hb => by rw [h3']; exact uC_ne hb
    have e3 : t3 417 = s 417 := by
      rw [h3', show uR t2 (lbk (t2 417) (t2 429)) 417 = lbk (t2 417) (t2 429) from uC_at _ _ _, c2 429 (by decide), c2 417 (by decide), k3]
      funext j
      unfold lbk kpR
      by_cases z : 5 ≤ j ∧ j < 77
      · rw [if_pos z, if_pos (by omega), show 5 + (j - 5) = j by omega]
      · rw [if_neg z]; exact k1 j (by omega)
    refine k t3 ⟨fun i hi => ?_, fun b hb => ?_, fun j hj => ?_⟩
    · rw [c3 434 (by decide), c2 434 (by decide), c3 435 (by decide), c2 435 (by decide)]; exact hv i (by omega)
    · by_cases z : b = 417
      · rw [z]; exact e3
      · rw [c3 b z, c2 b (by omega)]; exact k4.1 b (by omega)
    · rw [c3 407 (by decide), h2', uS_at]
      by_cases z : j = 21
      · rw [if_pos z, z]
      · rw [if_neg z]; exact k4.2 j (by omega)
  · rintro _ _ t ⟨n, rfl, hn, rfl, hk, hv⟩ hc t5 h5
    rw [e2 t hk] at hc
    have q := st n t t5 (by omega) hk h5
    exact ⟨q.1.1, q.1.2, by omega⟩
  · rintro _ _ t ⟨n, rfl, hn, rfl, hk, hv⟩ hc t5 h5 v u hu
    rw [e2 t hk] at hc
    omega
  · rintro _ _ t ⟨n, rfl, hn, rfl, hk, hv⟩ hc t5 h5 v u hu
    rcases hu.1 with w | w
    · exact Or.inr w.1
    · exact Or.inl w.1
  · rintro _ _ t ⟨n, rfl, hn, rfl, hk, hv⟩ hc t5 h5 v u hu
    rw [e2 t hk] at hc
    have q := st n t t5 (by omega) hk h5
    have w := q.2.2.2.2.2.2 u hu.2.1 hu.2.2.2
    obtain ⟨⟨k1, k2, k3, k4⟩, w4⟩ := w
    have cu : ∀ b, b ≠ 434 → uS u 434 ((n : Int)).toNat v b = u b := fun b hb => uS_cell hb
    rw [w32_of (by omega)]
    refine ⟨⟨n + 1, by omega, by omega, rfl, ⟨by rw [cu 417 (by decide)]; exact k1, by rw [cu 417 (by decide)]; exact k2, by rw [cu 429 (by decide)]; exact k3, fun b hb => by rw [cu b (by omega)]; exact k4.1 b hb, fun j hj => by rw [cu 407 (by decide)]; exact k4.2 j hj⟩, fun i hi => ?_⟩, by omega⟩
    refine ⟨?_, fun hx j hj => ?_⟩
    · rw [tnc, uS_at]
      by_cases z : i = n
      · rw [if_pos z, z]
        rcases hu.1 with w | w
        · rw [if_pos (q.2.2.2.1.1 w.2)]; exact w.1
        · rw [if_neg (fun y => w.2 (q.2.2.2.1.2 y))]; exact w.1
      · rw [if_neg z, w4]; exact (hv i (by omega)).1
    · rw [cu 435 (by decide), hu.2.2.1]
      unfold R35
      by_cases z : i = n
      · rw [if_pos ⟨by omega, by omega⟩, q.2.1, q.2.2.1, z, tnc, show 30 * n + j - 30 * n = j by omega]
      · rw [if_neg (by omega), q.2.2.2.2.1]; exact (hv i (by omega)).2 hx j hj
  · intro u hu
    have cu : ∀ b, b ≠ 429 → u b = s b := fun b hb => by rw [hu]; exact uC_ne hb
    exact ⟨0, rfl, by omega, rfl, ⟨fun j _ => by rw [cu 417 (by decide)], by rw [cu 417 (by decide)]; exact h, by rw [hu]; exact uC_at _ _ _, fun b hb => cu b (by omega), fun j _ => by rw [cu 407 (by decide)]⟩, fun i hi => by omega⟩
