/-! the stack of the reference -/
def enK (x : Int) : Int := if x = 91 then 91 else encC x
def isK (x : Int) : Prop := x = 91 ∨ x = 200010 ∨ x = 200011 ∨ x = 200012
def KSq (f : Rw) : List Int → Nat → Prop
  | [], n => n = 0
  | x :: K, n => 1 ≤ n ∧ f (n - 1) = enK x ∧ isK x ∧ KSq f K (n - 1)
theorem KS_n {f : Rw} : ∀ {K : List Int} {n : Nat}, KSq f K n → n = K.length
  | [], n, h => h
  | x :: K, n, h => by
    have := KS_n h.2.2.2
    have := h.1
    rw [List.length_cons]; omega
theorem KS_up {f g : Rw} : ∀ {K : List Int} {n : Nat}, KSq f K n → (∀ i, i < n → g i = f i) → KSq g K n
  | [], n, h, _ => h
  | x :: K, n, h, e => ⟨h.1, by rw [e _ (by have := h.1; omega)]; exact h.2.1, h.2.2.1, KS_up h.2.2.2 (fun i hi => e i (by omega))⟩
theorem str_g {x : Int} (h : isK x) : strR (enK x) = (stg x : Int) := by
  rcases h with rfl | rfl | rfl | rfl <;> decide
theorem enK_11 {x : Int} (h : isK x) : enK x = 11 ↔ x = 200012 := by
  rcases h with rfl | rfl | rfl | rfl <;> decide
theorem dp_0 {x : Int} (K : List Int) (h : ¬ x = 200012) (h2 : ¬ x = 91) : dpK (x :: K) = dpK K := by
  show (if x = 200012 ∨ x = 91 then 1 else 0) + dpK K = dpK K
  rw [if_neg (fun w => by rcases w with w | w; exact h w; exact h2 w), Int.zero_add]
def fRt (s t : mSt) : Prop := (∀ b, b ≠ 407 → b ≠ 409 → b ≠ 410 → b ≠ 414 → t b = s b) ∧ (∀ j, ¬ (8 ≤ j ∧ j ≤ 10) → ¬ (12 ≤ j ∧ j ≤ 13) → j ≠ 16 → t 407 j = s 407 j) ∧ (∀ j, j ≠ txR s → t 410 j = s 410 j) ∧ ∀ j, ¬ (400 * txR s ≤ j ∧ j < 400 * txR s + 400) → t 409 j = s 409 j
theorem fRt_x {s t : mSt} (h : fRt s t) : txR t = txR s ∧ TR t = TR s ∧ nR t = nR s := by
  refine ⟨?_, ?_, ?_⟩
  · unfold txR; rw [h.2.1 11 (by decide) (by decide) (by decide)]
  · unfold TR; rw [h.1 408 (by decide) (by decide) (by decide) (by decide)]
  · unfold nR; rw [h.2.1 1 (by decide) (by decide) (by decide)]
theorem fRt_t {s t u : mSt} (h1 : fRt s t) (h2 : fRt t u) : fRt s u := by
  have e := (fRt_x h1).1
  obtain ⟨b1, b2, b3, b4⟩ := h2
  rw [e] at b3 b4
  exact ⟨fun b a1 a2 a3 a4 => (b1 b a1 a2 a3 a4).trans (h1.1 b a1 a2 a3 a4), fun j g1 g2 g3 => (b2 j g1 g2 g3).trans (h1.2.1 j g1 g2 g3), fun j g => (b3 j g).trans (h1.2.2.1 j g), fun j g => (b4 j g).trans (h1.2.2.2 j g)⟩
theorem fRv_T {s t : mSt} (h : fRv s t) : fRt s t := ⟨fun b a1 a2 a3 _ => h.1 b a1 a2 a3, fun j g1 g2 _ => h.2.1 j g1 (by omega), h.2.2.1, h.2.2.2⟩
theorem fRt_0 (s : mSt) : fRt s s := fRv_T (fRv_0 s)
theorem fRt_u {s t : mSt} (h : fRt s t) {j : Nat} (x : Int) (hj : (8 ≤ j ∧ j ≤ 10) ∨ (12 ≤ j ∧ j ≤ 13) ∨ j = 16) : fRt s (uS t 407 j x) :=
  fRt_t h ⟨fun b a1 _ _ _ => uS_cell a1, fun i g1 g2 g3 => by rw [uS_at, if_neg (by omega)], fun i _ => by rw [uS_cell (by decide)], fun i _ => by rw [uS_cell (by decide)]⟩
/-- stack and code, and where the reader stands -/
def KRq (t : mSt) (L K : List Int) : Prop := KSq (t 414) K (t 407 16).toNat ∧ 0 ≤ t 407 16 ∧ t 407 13 = dpK K ∧ SGq t L
def LDq (s t : mSt) : Prop := RHq t ∧ fRt s t ∧ t 414 = s 414 ∧ (t 407 8 = s 407 8 ∧ t 407 12 = s 407 12) ∧ lnR t + t 407 16 = lnR s + s 407 16
theorem LD_k {s t : mSt} (h : LDq s t) : skR t = skR s := by
  have x := fRt_x h.2.1
  unfold skR
  rw [x.2.1, x.2.2, h.2.2.2.1.1]
theorem v186 {X : (Nat → Int) × Nat} {d : Nat} {s : mSt} {Q : mQ} {x1 : Int}
  (I0 : mSt → Prop) (m0 : mSt → Nat)
  (z1 : ∀ s : mSt, I0  s → (s 407 16) ≤ 0 → Q none s)
  (z2 : ∀ s : mSt, I0  s → ¬ (s 407 16) ≤ 0 → 0 ≤ (w32 ((s 407 16) - 1)) ∧ (w32 ((s 407 16) - 1)) < 400)
  (z3 : ∀ s : mSt, I0  s → ¬ (s 407 16) ≤ 0 → (strR (s 414 (w32 ((s 407 16) - 1)).toNat)) < x1 → Q none s)
  (z4 : ∀ s : mSt, I0  s → ¬ (s 407 16) ≤ 0 → ¬ (strR (s 414 (w32 ((s 407 16) - 1)).toNat)) < x1 → 0 ≤ ((uS s 407 16 (w32 ((s 407 16) - 1))) 407 16) ∧ ((uS s 407 16 (w32 ((s 407 16) - 1))) 407 16) < 400)
  (z5 : ∀ s : mSt, I0  s → ¬ (s 407 16) ≤ 0 → ¬ (strR (s 414 (w32 ((s 407 16) - 1)).toNat)) < x1 → ∀ t5 : mSt, t5 = uS s 407 16 (w32 ((s 407 16) - 1)) → (0 ≤ t5 407 11 ∧ t5 407 11 < 6) ∧ (0 ≤ lnR t5 ∧ lnR t5 < 400) ∧ (0 ≤ ((uS s 407 16 (w32 ((s 407 16) - 1))) 414 ((uS s 407 16 (w32 ((s 407 16) - 1))) 407 16).toNat) ∧ ((uS s 407 16 (w32 ((s 407 16) - 1))) 414 ((uS s 407 16 (w32 ((s 407 16) - 1))) 407 16).toNat) ≤ 15) ∧ (0 ≤ (0 : Int) ∧ (0 : Int) ≤ 99999))
  (z6 : ∀ s : mSt, I0  s → ¬ (s 407 16) ≤ 0 → ¬ (strR (s 414 (w32 ((s 407 16) - 1)).toNat)) < x1 → ∀ t5 : mSt, t5 = uS s 407 16 (w32 ((s 407 16) - 1)) → ∀ s6 : mSt, s6 = uS (uS t5 409 (400 * txR t5 + (lnR t5).toNat) (((uS s 407 16 (w32 ((s 407 16) - 1))) 414 ((uS s 407 16 (w32 ((s 407 16) - 1))) 407 16).toNat) + 16 * (0 : Int))) 410 (txR t5) (lnR t5 + 1) → 0 ≤ (s6 407 16) ∧ (s6 407 16) < 400)
  (z7 : ∀ s : mSt, I0  s → ¬ (s 407 16) ≤ 0 → ¬ (strR (s 414 (w32 ((s 407 16) - 1)).toNat)) < x1 → ∀ t5 : mSt, t5 = uS s 407 16 (w32 ((s 407 16) - 1)) → ∀ s6 : mSt, s6 = uS (uS t5 409 (400 * txR t5 + (lnR t5).toNat) (((uS s 407 16 (w32 ((s 407 16) - 1))) 414 ((uS s 407 16 (w32 ((s 407 16) - 1))) 407 16).toNat) + 16 * (0 : Int))) 410 (txR t5) (lnR t5 + 1) → ¬ (s6 414 (s6 407 16).toNat) = 11 → I0  s6 ∧ m0  s6 < m0  s)
  (z8 : ∀ s : mSt, I0  s → ¬ (s 407 16) ≤ 0 → ¬ (strR (s 414 (w32 ((s 407 16) - 1)).toNat)) < x1 → ∀ t5 : mSt, t5 = uS s 407 16 (w32 ((s 407 16) - 1)) → ∀ s6 : mSt, s6 = uS (uS t5 409 (400 * txR t5 + (lnR t5).toNat) (((uS s 407 16 (w32 ((s 407 16) - 1))) 414 ((uS s 407 16 (w32 ((s 407 16) - 1))) 407 16).toNat) + 16 * (0 : Int))) 410 (txR t5) (lnR t5 + 1) → (s6 414 (s6 407 16).toNat) = 11 → I0  (uS s6 407 13 (w32 ((s6 407 13) - 1))) ∧ m0  (uS s6 407 13 (w32 ((s6 407 13) - 1))) < m0  s)
  (z9 : I0  s) :
  Sp X (d + 1) 186 [mR 407, mI x1] s Q := by
  have L : ∀ k : Nat, (∀ (s : mSt), I0  s → m0  s < k → Wp X (d + 1) 186 0 [some (mR 407), some (mI x1)] [] s Q) := by
    intro k
    induction k with
    | zero => exact fun _ _ h => absurd h (Nat.not_lt_zero _)
    | succ k ih => exact fun s hI hm => b186_0 (fun q1 => b186_76 (z1 s hI q1)) (fun q2 => b186_7 (z2 s hI q2) (c185  ⟨_, rfl, b186_21 (fun q3 => b186_76 (z3 s hI q2 q3)) (fun q4 => b186_25 (z4 s hI q2 q4) (Sp_gen (fun t5 e5 => (c182 (z5 s hI q2 q4 t5 e5) (fun s6 q6 => ⟨rfl, b186_49 (z6 s hI q2 q4 t5 e5 s6 q6) (fun q7 => ih  s6 (z7 s hI q2 q4 t5 e5 s6 q6 q7).1 (Nat.lt_of_lt_of_le (z7 s hI q2 q4 t5 e5 s6 q6 q7).2 (Nat.le_of_lt_succ hm))) (fun q8 => b186_63 (ih  (uS s6 407 13 (w32 ((s6 407 13) - 1))) (z8 s hI q2 q4 t5 e5 s6 q6 q8).1 (Nat.lt_of_lt_of_le (z8 s hI q2 q4 t5 e5 s6 q6 q8).2 (Nat.le_of_lt_succ hm))))⟩)))))⟩))
  exact e186 ((L (m0  s + 1))  s z9 (Nat.lt_succ_self _))

theorem dpK_b : ∀ K : List Int, 0 ≤ dpK K ∧ dpK K ≤ (K.length : Int)
  | [] => ⟨Int.le_refl 0, Int.le_refl 0⟩
  | x :: K => by
    have q := dpK_b K
    show 0 ≤ (if x = 200012 ∨ x = 91 then 1 else 0) + dpK K ∧ (if x = 200012 ∨ x = 91 then 1 else 0) + dpK K ≤ ((K.length + 1 : Nat) : Int)
    split <;> omega
theorem KR_c {t : mSt} {M J : List Int} (h : KRq t M J) (hn : 0 < t 407 16) : ∃ x J', J = x :: J' ∧ t 414 (t 407 16 - 1).toNat = enK x ∧ isK x ∧ KSq (t 414) J' (t 407 16 - 1).toNat := by
  cases J with
  | nil =>
    have : (t 407 16).toNat = 0 := h.1
    omega
  | cons x J' =>
    have e : (t 407 16).toNat - 1 = (t 407 16 - 1).toNat := by omega
    have q := h.1
    exact ⟨x, J', rfl, by rw [← e]; exact q.2.1, q.2.2.1, by rw [← e]; exact q.2.2.2⟩
theorem c186 {X : (Nat → Int) × Nat} {d : Nat} {s : mSt} {Q : mQ} {x1 : Int} (p1 : RHq s ∧ (0 ≤ s 407 16 ∧ lnR s + s 407 16 ≤ 400) ∧ (∃ L K, KRq s L K) ∧ (1 ≤ x1 ∧ x1 ≤ 3)) (k : ∀ t : mSt, (LDq s t ∧ ∀ L K, KRq s L K → KRq t (lyD x1.toNat L K).1 (lyD x1.toNat L K).2) → Q none t) : Sp X (d + 1) 186 [mR 407, mI x1] s Q := by
  obtain ⟨h, ⟨ho, hl⟩, ⟨L0, K0, hK0⟩, hx⟩ := p1
  let I0 : mSt → Prop := fun t => LDq s t ∧ 0 ≤ t 407 16 ∧ (∃ L K, KRq t L K) ∧ ∀ L K, KRq s L K → ∃ M J, KRq t M J ∧ lyD x1.toNat L K = lyD x1.toNat M J
  have mx : (x1.toNat : Int) = x1 := by omega
  have stop : ∀ t : mSt, I0 t → (∀ M J, KRq t M J → lyD x1.toNat M J = (M, J)) → Q none t := fun t hI hz => by
    refine k t ⟨hI.1, fun L K hK => ?_⟩
    obtain ⟨M, J, hM, e⟩ := hI.2.2.2 L K hK
    rw [e, hz M J hM]
    exact hM
  have base : ∀ t : mSt, I0 t → ¬ t 407 16 ≤ 0 → w32 (t 407 16 - 1) = t 407 16 - 1 ∧ t 407 16 ≤ 400 := fun t hI hz => by
    have e := hI.1.2.2.2.2
    have := hI.1.1.2.2.2.1
    have l : t 407 16 ≤ 400 := by omega
    exact ⟨w32_of (by omega), l⟩
  -- the step
  have stp5 : ∀ t t5 u : mSt, I0 t → ¬ t 407 16 ≤ 0 → ¬ strR (t 414 (t 407 16 - 1).toNat) < x1 → t5 = uS t 407 16 (t 407 16 - 1) → u = uS (uS t5 409 (400 * txR t5 + (lnR t5).toNat) (t 414 (t 407 16 - 1).toNat + 16 * (0 : Int))) 410 (txR t5) (lnR t5 + 1) → RHq u ∧ fRt s u ∧ u 414 = s 414 ∧ (u 407 8 = s 407 8 ∧ u 407 12 = s 407 12) ∧ lnR u + u 407 16 = lnR s + s 407 16 ∧ u 407 16 = t 407 16 - 1 ∧ u 407 13 = t 407 13 ∧ sgB u = sgB t ++ [t 414 (t 407 16 - 1).toNat] := by
    intro t t5 u hI hz hs5 e5 eu
    have b := base t hI hz
    obtain ⟨hD, hn, _, _⟩ := hI
    have g0 := hD.1.2.2.2.1
    have e16 := hD.2.2.2.2
    have l5 : lnR t5 = lnR t := by rw [e5, lnR_u _ _ (by decide)]
    have x5 : txR t5 = txR t := by unfold txR; rw [e5, uS_at, if_neg (by decide)]
    have b5 : sgB t5 = sgB t := by rw [e5, sgB_8 _ _ (by decide)]
    have q := sgB_e (by rw [l5]; exact g0) eu
    have f5 : fRt t t5 := by rw [e5]; exact fRt_u (fRt_0 t) _ (by decide)
    have fp := fRv_T (fRv_p (by rw [l5]; omega) eu)
    have fu := fRt_t hD.2.1 (fRt_t f5 fp)
    have u7 : ∀ j, u 407 j = if j = 16 then t 407 16 - 1 else t 407 j := fun j => by rw [q.2.2.2.1, e5, uS_at]
    have lu : lnR u = lnR t + 1 := by rw [q.2.2.1, l5]
    have u16 : u 407 16 = t 407 16 - 1 := by rw [u7, if_pos rfl]
    refine ⟨⟨?_, by rw [u7, if_neg (by decide)]; exact hD.1.2.1, by rw [u7, if_neg (by decide)]; exact hD.1.2.2.1, by omega, by rw [u7, if_neg (by decide)]; exact hD.1.2.2.2.2⟩, fu, ?_, ⟨by rw [u7, if_neg (by decide)]; exact hD.2.2.2.1.1, by rw [u7, if_neg (by decide)]; exact hD.2.2.2.1.2⟩, by omega, u16, by rw [u7, if_neg (by decide)], by rw [q.1, b5, Int.mul_zero, Int.add_zero]⟩
    · have a := hD.1.1
      unfold TRq at a ⊢
      rw [u7, u7, if_neg (by decide), if_neg (by decide), q.2.2.2.2.1, e5, uS_cell (by decide)]
      exact a
    · rw [q.2.2.2.2.2, e5, uS_cell (by decide)]; exact hD.2.2.1
  have fin5 : ∀ (t u v : mSt) (e : Int), I0 t → ¬ t 407 16 ≤ 0 → ¬ strR (t 414 (t 407 16 - 1).toNat) < x1 → (RHq u ∧ fRt s u ∧ u 414 = s 414 ∧ (u 407 8 = s 407 8 ∧ u 407 12 = s 407 12) ∧ lnR u + u 407 16 = lnR s + s 407 16 ∧ u 407 16 = t 407 16 - 1 ∧ u 407 13 = t 407 13 ∧ sgB u = sgB t ++ [t 414 (t 407 16 - 1).toNat]) → (e = if t 414 (t 407 16 - 1).toNat = 11 then 1 else 0) → v = uS u 407 13 (u 407 13 - e) → I0 v ∧ (v 407 16).toNat < (t 407 16).toNat := by
    intro t u v e hI hz hs5 hu he ev
    have v7 : ∀ j, v 407 j = if j = 13 then u 407 13 - e else u 407 j := fun j => by rw [ev, uS_at]
    have v4 : v 414 = u 414 := by rw [ev, uS_cell (by decide)]
    have lv : lnR v = lnR u := by rw [ev, lnR_u _ _ (by decide)]
    have bv : sgB v = sgB u := by rw [ev, sgB_8 _ _ (by decide)]
    have v16 : v 407 16 = t 407 16 - 1 := by rw [v7, if_neg (by decide)]; exact hu.2.2.2.2.2.1
    have t4 := hI.1.2.2.1
    have kr : ∀ M J, KRq t M J → ∃ x J', J = x :: J' ∧ KRq v (M ++ [x]) J' ∧ lyD x1.toNat M J = lyD x1.toNat (M ++ [x]) J' := fun M J hM => by
      obtain ⟨x, J', rfl, ex, ik, ks⟩ := KR_c hM (by omega)
      rw [ex] at hs5 he
      rw [str_g ik] at hs5
      have nx : ¬ x = 91 := fun y => by rw [y] at hs5; have : (stg 91 : Int) = 0 := rfl; omega
      refine ⟨x, J', rfl, ⟨?_, by omega, ?_, ?_⟩, ?_⟩
      · rw [v4, hu.2.2.1, ← t4, v16]; exact ks
      · have d0 := hM.2.2.1
        rw [v7, if_pos rfl, hu.2.2.2.2.2.2.1, d0, he]
        by_cases y : x = 200012
        · rw [if_pos ((enK_11 ik).2 y), y, dp_n]; omega
        · rw [if_neg (fun z => y ((enK_11 ik).1 z)), dp_0 _ y nx]; omega
      · have hM' : sgB t = M.map encC := hM.2.2.2
        show sgB v = _
        rw [bv, hu.2.2.2.2.2.2.2, ex, hM', show enK x = encC x from if_neg nx, map_1]
      · show (if x1.toNat ≤ stg x then _ else _) = _
        rw [if_pos (by omega)]
    refine ⟨⟨⟨?_, ?_, by rw [v4]; exact hu.2.2.1, ⟨by rw [v7, if_neg (by decide)]; exact hu.2.2.2.1.1, by rw [v7, if_neg (by decide)]; exact hu.2.2.2.1.2⟩, by rw [lv, v7, if_neg (by decide)]; exact hu.2.2.2.2.1⟩, by omega, ?_, fun L K hK => ?_⟩, by omega⟩
    · have a := hu.1
      exact ⟨by rw [ev]; exact TRq_o a.1 _ (by decide) (by decide), by rw [v7, if_neg (by decide)]; exact a.2.1, by rw [v7, if_neg (by decide)]; exact a.2.2.1, by rw [lv]; exact a.2.2.2.1, by rw [v7, if_neg (by decide)]; exact a.2.2.2.2⟩
    · rw [ev]; exact fRt_u hu.2.1 _ (by decide)
    · obtain ⟨M, J, hM⟩ := hI.2.2.1
      obtain ⟨x, J', _, q, _⟩ := kr M J hM
      exact ⟨_, _, q⟩
    · obtain ⟨M, J, hM, e⟩ := hI.2.2.2 L K hK
      obtain ⟨x, J', _, q, e2⟩ := kr M J hM
      exact ⟨_, _, q, e.trans e2⟩
  refine v186 I0 (fun t => (t 407 16).toNat) ?_ ?_ ?_ ?_ ?_ ?_ ?_ ?_ ?_
  · intro t hI hz
    refine stop t hI (fun M J hM => ?_)
    cases J with
    | nil => rfl
    | cons x J' => have := hM.1.1; omega
  · intro t hI hz
    have b := base t hI hz
    rw [b.1]; omega
  · intro t hI hz hlt
    have b := base t hI hz
    rw [b.1] at hlt
    refine stop t hI (fun M J hM => ?_)
    obtain ⟨x, J', rfl, ex, ik, ks⟩ := KR_c hM (by omega)
    rw [ex, str_g ik] at hlt
    exact if_neg (by omega)
  · intro t hI hz hlt
    have b := base t hI hz
    rw [b.1, uS_at, if_pos rfl]; omega
  · intro t hI hz hlt t5 e5
    have b := base t hI hz
    rw [b.1] at hlt e5 ⊢
    have g0 := hI.1.1.2.2.2.1
    have e16 := hI.1.2.2.2.2
    obtain ⟨M, J, hM⟩ := hI.2.2.1
    obtain ⟨x, J', _, ex, ik, ks⟩ := KR_c hM (by omega)
    have l5 : lnR t5 = lnR t := by rw [e5, lnR_u _ _ (by decide)]
    rw [uS_at, if_pos rfl, uS_cell (show 414 ≠ 407 by decide)]
    rw [ex] at hlt ⊢
    rw [str_g ik] at hlt
    refine ⟨by rw [e5, uS_at, if_neg (by decide)]; exact hI.1.1.2.2.2.2, by omega, ?_, by decide⟩
    rcases ik with rfl | rfl | rfl | rfl
    · have : (stg 91 : Int) = 0 := rfl
      omega
    · decide
    · decide
    · decide
  · intro t hI hz hlt t5 e5 u eu
    have b := base t hI hz
    rw [b.1] at hlt e5 eu
    rw [uS_at, if_pos rfl, uS_cell (show 414 ≠ 407 by decide)] at eu
    have q := stp5 t t5 u hI hz hlt e5 eu
    rw [q.2.2.2.2.2.1]; omega
  · intro t hI hz hlt t5 e5 u eu hc
    have b := base t hI hz
    rw [b.1] at hlt e5 eu
    rw [uS_at, if_pos rfl, uS_cell (show 414 ≠ 407 by decide)] at eu
    have q := stp5 t t5 u hI hz hlt e5 eu
    rw [q.2.2.2.2.2.1, q.2.2.1, ← hI.1.2.2.1] at hc
    exact fin5 t u u 0 hI hz hlt q (by rw [if_neg hc]) (by rw [Int.sub_zero]; exact (uS_self u 407 13).symm)
  · intro t hI hz hlt t5 e5 u eu hc
    have b := base t hI hz
    rw [b.1] at hlt e5 eu
    rw [uS_at, if_pos rfl, uS_cell (show 414 ≠ 407 by decide)] at eu
    have q := stp5 t t5 u hI hz hlt e5 eu
    rw [q.2.2.2.2.2.1, q.2.2.1, ← hI.1.2.2.1] at hc
    have w : w32 (u 407 13 - 1) = u 407 13 - 1 := by
      obtain ⟨M, J, hM⟩ := hI.2.2.1
      have d1 := dpK_b J
      have d2 := KS_n hM.1
      have d3 := hM.2.2.1
      have d4 := q.2.2.2.2.2.2.1
      exact w32_of (by omega)
    rw [w]
    exact fin5 t u _ 1 hI hz hlt q (by rw [if_pos hc]) rfl
  · exact ⟨⟨h, fRt_0 s, rfl, ⟨rfl, rfl⟩, rfl⟩, ho, ⟨L0, K0, hK0⟩, fun L K hK => ⟨L, K, hK, rfl⟩⟩
def inB (s : mSt) : Bool := an (fun i => decide (s 414 i = 91)) (s 407 16).toNat
theorem v192 {X : (Nat → Int) × Nat} {d : Nat} {s : mSt} {Q : mQ}
  (I2 : Int → Prop) (m2 : Int → Nat)
  (z1 : ∀ y1 : Int, I2 y1 → (s 407 16) ≤ y1 → Q (some (mI 0)) s)
  (z2 : ∀ y1 : Int, I2 y1 → ¬ (s 407 16) ≤ y1 → 0 ≤ y1 ∧ y1 < 400)
  (z3 : ∀ y1 : Int, I2 y1 → ¬ (s 407 16) ≤ y1 → ¬ (s 414 y1.toNat) = 91 → I2 (w32 (y1 + 1)) ∧ m2 (w32 (y1 + 1)) < m2 y1)
  (z4 : ∀ y1 : Int, I2 y1 → ¬ (s 407 16) ≤ y1 → (s 414 y1.toNat) = 91 → Q (some (mI 1)) s)
  (z5 : I2 0) :
  Sp X d 192 [mR 407] s Q := by
  have L : ∀ k : Nat, (∀ (y1 : Int), I2 y1 → m2 y1 < k → Wp X d 192 2 [some (mR 407), some (mI y1)] [] s Q) := by
    intro k
    induction k with
    | zero => exact fun _ _ h => absurd h (Nat.not_lt_zero _)
    | succ k ih => exact fun y1 hI hm => b192_2 (fun q1 => b192_29 (z1 y1 hI q1)) (fun q2 => b192_10 (z2 y1 hI q2) (fun q3 => b192_23 (ih (w32 (y1 + 1)) (z3 y1 hI q2 q3).1 (Nat.lt_of_lt_of_le (z3 y1 hI q2 q3).2 (Nat.le_of_lt_succ hm)))) (fun q4 => b192_21 (z4 y1 hI q2 q4)))
  exact e192 (b192_0 ((L (m2 0 + 1)) 0 z5 (Nat.lt_succ_self _)))

theorem c192 {X : (Nat → Int) × Nat} {d : Nat} {s : mSt} {Q : mQ} (p1 : 0 ≤ s 407 16 ∧ s 407 16 ≤ 400) (k1 : (inB s = true) → Q (some (mI 1)) s) (k0 : ¬ (inB s = true) → Q (some (mI 0)) s) : Sp X d 192 [mR 407] s Q := by
  have ii : inB s = true ↔ ∃ i, i < (s 407 16).toNat ∧ s 414 i = 91 := by
    unfold inB; rw [an_iff]
    constructor
    · rintro ⟨i, a, b⟩; exact ⟨i, a, of_decide_eq_true b⟩
    · rintro ⟨i, a, b⟩; exact ⟨i, a, decide_eq_true b⟩
  let J : Int → Prop := fun y => ∃ i : Nat, y = i ∧ i ≤ (s 407 16).toNat ∧ ∀ j, j < i → ¬ s 414 j = 91
  refine v192 J (fun y => (500 - y).toNat) ?_ ?_ ?_ ?_ ⟨0, rfl, by omega, fun j hj => absurd hj (by omega)⟩
  · rintro _ ⟨i, rfl, hi, hj⟩ hc
    refine k0 (fun w => ?_)
    obtain ⟨j, a, b⟩ := ii.1 w
    exact hj j (by omega) b
  · rintro _ ⟨i, rfl, hi, hj⟩ hc
    omega
  · rintro _ ⟨i, rfl, hi, hj⟩ hc h9
    rw [tnc] at h9
    rw [w32_of (by omega)]
    refine ⟨⟨i + 1, by omega, by omega, fun j hj2 => ?_⟩, by omega⟩
    by_cases z : j < i
    · exact hj j z
    · rw [show j = i by omega]; exact h9
  · rintro _ ⟨i, rfl, hi, hj⟩ hc h9
    rw [tnc] at h9
    exact k1 (ii.2 ⟨i, by omega, h9⟩)
theorem KS_91 {f : Rw} : ∀ {K : List Int} {n : Nat}, KSq f K n → ((∃ i, i < n ∧ f i = 91) ↔ 91 ∈ K)
  | [], n, h => by
    have h0 : n = 0 := h
    constructor
    · rintro ⟨i, a, _⟩; omega
    · intro w; simp at w
  | x :: K, n, h => by
    have q := KS_91 h.2.2.2
    have h1 := h.1
    have ex : enK x = 91 ↔ x = 91 := by rcases h.2.2.1 with rfl | rfl | rfl | rfl <;> decide
    rw [List.mem_cons, ← q]
    constructor
    · rintro ⟨i, a, b⟩
      by_cases z : i = n - 1
      · rw [z, h.2.1] at b; exact Or.inl (ex.1 b).symm
      · exact Or.inr ⟨i, by omega, b⟩
    · rintro (w | ⟨i, a, b⟩)
      · exact ⟨n - 1, by omega, by rw [h.2.1]; exact ex.2 w.symm⟩
      · exact ⟨i, by omega, b⟩
theorem in_K {t : mSt} {L K : List Int} (h : KRq t L K) : inB t = true ↔ 91 ∈ K := by
  rw [← KS_91 h.1]
  unfold inB; rw [an_iff]
  constructor
  · rintro ⟨i, a, b⟩; exact ⟨i, a, of_decide_eq_true b⟩
  · rintro ⟨i, a, b⟩; exact ⟨i, a, decide_eq_true b⟩
