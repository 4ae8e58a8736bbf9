/-! sums: the reference -/
def rwA (T : Nat → Int) (n a : Nat) : Int := if n ≤ a then -1 else T a
theorem rw_k {T : Nat → Int} {n a : Nat} (hT : tByt T) {c : Int} (h : 0 ≤ c ∧ c ≤ 255) (h1 : ¬ (97 ≤ c ∧ c ≤ 122)) (h2 : ¬ (48 ≤ c ∧ c ≤ 57)) (h3 : c ≠ 60 ∧ c ≠ 62) : rwA T n a = c ↔ tkK T n a = c := by
  have b := hT a
  unfold rwA tkK
  by_cases z : n ≤ a
  · rw [if_pos z, if_pos z]
  · rw [if_neg z, if_neg z]
    by_cases l : isL T a = true
    · rw [if_pos l]
      have := isL_i.1 l
      constructor <;> intro y <;> omega
    · rw [if_neg l]
      by_cases g : isD T a = true
      · rw [if_pos g]
        have := isD_i.1 g
        constructor <;> intro y <;> omega
      · rw [if_neg g]
        split
        · rename_i w; have := w.2; constructor <;> intro y <;> omega
        · split
          · rename_i w; have := w.2; constructor <;> intro y <;> omega
          · exact Iff.rfl
def tmF (T : Nat → Int) (n a : Nat) (k : Int) (L : List Int) (tm : Int) : Int × Nat × Int × List Int :=
  if h : a < n then
    if vfA T n a k = -1 then
      if tmC (tkK T n (nxA T n a)) = -1 then (0, nxA T n a, k + 1, L ++ [itA T n a] ++ emL tm)
      else tmF T n (nxA T n (nxA T n a)) (k + 1) (L ++ [itA T n a] ++ emL tm) (tmC (tkK T n (nxA T n a)))
    else (fuA a (vfA T n a k), a, k, L)
  else (fuA a (vfA T n a k), a, k, L)
termination_by n - a
decreasing_by
  all_goals
    have b := nxA_b T (show a ≤ n by omega)
    have c := nxA_b T b.2.1
    omega
theorem tmF_0 {T : Nat → Int} {n a : Nat} {k : Int} {L : List Int} {tm : Int} (h : ¬ vfA T n a k = -1) : tmF T n a k L tm = (fuA a (vfA T n a k), a, k, L) := by
  rw [tmF]
  by_cases z : a < n
  · rw [dif_pos z, if_neg h]
  · rw [dif_neg z]
def tmA (T : Nat → Int) (n b : Nat) (k : Int) (L : List Int) : Int × Nat × Int × List Int := if tmC (tkK T n b) = -1 then (0, b, k, L) else tmF T n (nxA T n b) k L (tmC (tkK T n b))
theorem tmF_s {T : Nat → Int} {n a : Nat} {k : Int} {L : List Int} {tm : Int} (h0 : a < n) (h : vfA T n a k = -1) : tmF T n a k L tm = tmA T n (nxA T n a) (k + 1) (L ++ [itA T n a] ++ emL tm) := by
  rw [tmF, dif_pos h0, if_pos h]; rfl
theorem vf_n {T : Nat → Int} {n a : Nat} {k : Int} (h : vfA T n a k = -1) : a < n := by
  by_cases y : a < n
  · exact y
  · exfalso
    have k0 : tkK T n a = -1 := if_pos (by omega)
    have w0 : wnA T n a = -1 := if_neg (by rw [k0]; decide)
    have n0 : nuA T n a 0 99999 = 0 := if_neg (by rw [k0]; decide)
    unfold vfA at h
    rw [w0, n0, if_neg (by omega)] at h
    exact absurd h (by decide)
/-- a sum is terms joined -/
theorem sum_tm {T : Nat → Int} {n : Nat} : ∀ (f a : Nat) (k : Int) (L : List Int) (tm pl : Int), n - a ≤ f → a ≤ n → sumF T n a k L tm pl = if (tmF T n a k L tm).1 = 0 then smB T n (tmF T n a k L tm).2.1 (tmF T n a k L tm).2.2.1 ((tmF T n a k L tm).2.2.2 ++ emL pl) else tmF T n a k L tm
  | f, a, k, L, tm, pl, hf, ha => by
    by_cases hv : vfA T n a k = -1
    · have h0 := vf_n hv
      have b := nxA_b T ha
      have c := nxA_b T b.2.1
      have lt := b.2.2 h0
      rw [sumF_s h0 hv, tmF_s h0 hv]
      unfold smA tmA
      by_cases h1 : tmC (tkK T n (nxA T n a)) = -1
      · rw [if_pos h1, if_pos h1, if_pos rfl]
      · rw [if_neg h1, if_neg h1]
        cases f with
        | zero => omega
        | succ f => exact sum_tm f _ _ _ _ _ (by omega) c.2.1
    · rw [sumF_0 hv, tmF_0 hv]
      have vb := vf_b T n a k
      rw [if_neg (by show ¬ fuA a (vfA T n a k) = 0; unfold fuA; omega)]
def SGq (s : mSt) (L : List Int) : Prop := sgB s = L.map encC
def TM1 (s t : mSt) (q : Int × Nat × Int × List Int) : Prop := q.1 = 0 ∧ skR t = q.2.1 ∧ t 407 12 = q.2.2.1 ∧ SGq t q.2.2.2
def TZq (s t : mSt) : Prop := RGq s t ∧ (lnR t + skR s ≤ lnR s + skR t ∧ skR s < skR t)
def tmR (s : mSt) (L : List Int) : Int × Nat × Int × List Int := tmF (TR s) (nR s) (skR s) (s 407 12) L (-1)
theorem v188 {X : (Nat → Int) × Nat} {d : Nat} {s : mSt} {Q : mQ}
  (I9 : mSt → Prop) (m9 : mSt → Nat)
  (I36 : mSt → Prop) (m36 : mSt → Nat)
  (I74 : Int → mSt → Prop) (m74 : Int → mSt → Nat)
  (z1 : ∀ s : mSt, I9  s → TRq s)
  (z2 : ∀ s : mSt, I9  s → ∀ v1 : Int, ∀ s1 : mSt, (v1 = (if nR s ≤ skR s then -1 else TR s (skR s)) ∧ s1 = uS s 407 8 (skR s : Int)) → v1 = 42 → I36  s1 ∧ m36  s1 < m9  s)
  (z3 : ∀ s : mSt, I9  s → ∀ v1 : Int, ∀ s1 : mSt, (v1 = (if nR s ≤ skR s then -1 else TR s (skR s)) ∧ s1 = uS s 407 8 (skR s : Int)) → ¬ v1 = 42 → TRq s1)
  (z4 : ∀ s : mSt, I9  s → ∀ v1 : Int, ∀ s1 : mSt, (v1 = (if nR s ≤ skR s then -1 else TR s (skR s)) ∧ s1 = uS s 407 8 (skR s : Int)) → ¬ v1 = 42 → ∀ v4 : Int, ∀ s4 : mSt, (v4 = (if nR s1 ≤ skR s1 then -1 else TR s1 (skR s1)) ∧ s4 = uS s1 407 8 (skR s1 : Int)) → v4 = 47 → I36  s4 ∧ m36  s4 < m9  s)
  (z5 : ∀ s : mSt, I9  s → ∀ v1 : Int, ∀ s1 : mSt, (v1 = (if nR s ≤ skR s then -1 else TR s (skR s)) ∧ s1 = uS s 407 8 (skR s : Int)) → ¬ v1 = 42 → ∀ v4 : Int, ∀ s4 : mSt, (v4 = (if nR s1 ≤ skR s1 then -1 else TR s1 (skR s1)) ∧ s4 = uS s1 407 8 (skR s1 : Int)) → ¬ v4 = 47 → TRq s4)
  (z6 : ∀ s : mSt, I9  s → ∀ v1 : Int, ∀ s1 : mSt, (v1 = (if nR s ≤ skR s then -1 else TR s (skR s)) ∧ s1 = uS s 407 8 (skR s : Int)) → ¬ v1 = 42 → ∀ v4 : Int, ∀ s4 : mSt, (v4 = (if nR s1 ≤ skR s1 then -1 else TR s1 (skR s1)) ∧ s4 = uS s1 407 8 (skR s1 : Int)) → ¬ v4 = 47 → ∀ v7 : Int, ∀ s7 : mSt, (v7 = (if nR s4 ≤ skR s4 then -1 else TR s4 (skR s4)) ∧ s7 = uS s4 407 8 (skR s4 : Int)) → ¬ v7 = 37 → Q (some (mI 1)) s7)
  (z7 : ∀ s : mSt, I9  s → ∀ v1 : Int, ∀ s1 : mSt, (v1 = (if nR s ≤ skR s then -1 else TR s (skR s)) ∧ s1 = uS s 407 8 (skR s : Int)) → ¬ v1 = 42 → ∀ v4 : Int, ∀ s4 : mSt, (v4 = (if nR s1 ≤ skR s1 then -1 else TR s1 (skR s1)) ∧ s4 = uS s1 407 8 (skR s1 : Int)) → ¬ v4 = 47 → ∀ v7 : Int, ∀ s7 : mSt, (v7 = (if nR s4 ≤ skR s4 then -1 else TR s4 (skR s4)) ∧ s7 = uS s4 407 8 (skR s4 : Int)) → v7 = 37 → I36  s7 ∧ m36  s7 < m9  s)
  (z8 : ∀ s : mSt, I36  s → 0 ≤ (s 407 8) ∧ (s 407 8) < 400)
  (z9 : ∀ s : mSt, I36  s → ¬ (s 408 (s 407 8).toNat) = 42 → 0 ≤ (s 407 8) ∧ (s 407 8) < 400)
  (z10 : ∀ s : mSt, I36  s → ¬ (s 408 (s 407 8).toNat) = 42 → ¬ (s 408 (s 407 8).toNat) = 47 → I74 14 s ∧ m74 14 s < m36  s)
  (z11 : ∀ s : mSt, I36  s → ¬ (s 408 (s 407 8).toNat) = 42 → (s 408 (s 407 8).toNat) = 47 → I74 5 s ∧ m74 5 s < m36  s)
  (z12 : ∀ s : mSt, I36  s → (s 408 (s 407 8).toNat) = 42 → I74 4 s ∧ m74 4 s < m36  s)
  (z13 : ∀ w0 : Int, ∀ s : mSt, I74 w0 s → ∀ t14 : mSt, t14 = uS s 407 8 (w32 ((s 407 8) + 1)) → RHq t14 ∧ lnR t14 ≤ (skR t14 : Int))
  (z14 : ∀ w0 : Int, ∀ s : mSt, I74 w0 s → ∀ t14 : mSt, t14 = uS s 407 8 (w32 ((s 407 8) + 1)) → ∀ s15 : mSt, (vfA (TR t14) (nR t14) (skR t14) (t14 407 12) = -1 ∧ RGq t14 s15 ∧ skR s15 = nxR t14 ∧ s15 407 12 = t14 407 12 + 1 ∧ sgB s15 = sgB t14 ++ [encC (itA (TR t14) (nR t14) (skR t14))] ∧ lnR s15 = lnR t14 + 1 ∧ skR t14 < nR t14) → (0 ≤ s15 407 11 ∧ s15 407 11 < 6) ∧ (0 ≤ lnR s15 ∧ lnR s15 < 400) ∧ (0 ≤ w0 ∧ w0 ≤ 15) ∧ (0 ≤ (0 : Int) ∧ (0 : Int) ≤ 99999))
  (z15 : ∀ w0 : Int, ∀ s : mSt, I74 w0 s → ∀ t14 : mSt, t14 = uS s 407 8 (w32 ((s 407 8) + 1)) → ∀ s15 : mSt, (vfA (TR t14) (nR t14) (skR t14) (t14 407 12) = -1 ∧ RGq t14 s15 ∧ skR s15 = nxR t14 ∧ s15 407 12 = t14 407 12 + 1 ∧ sgB s15 = sgB t14 ++ [encC (itA (TR t14) (nR t14) (skR t14))] ∧ lnR s15 = lnR t14 + 1 ∧ skR t14 < nR t14) → ∀ s16 : mSt, s16 = uS (uS s15 409 (400 * txR s15 + (lnR s15).toNat) (w0 + 16 * (0 : Int))) 410 (txR s15) (lnR s15 + 1) → I9  s16 ∧ m9  s16 < m74 w0 s)
  (z16 : ∀ w0 : Int, ∀ s : mSt, I74 w0 s → ∀ t14 : mSt, t14 = uS s 407 8 (w32 ((s 407 8) + 1)) → ∀ s17 : mSt, (¬ vfA (TR t14) (nR t14) (skR t14) (t14 407 12) = -1 ∧ RZ0 t14 s17 (fuA (skR t14) (vfA (TR t14) (nR t14) (skR t14) (t14 407 12)))) → Q (some (mI 0)) s17)
  (z17 : RHq s ∧ lnR s ≤ (skR s : Int))
  (z18 : ∀ s18 : mSt, (vfA (TR s) (nR s) (skR s) (s 407 12) = -1 ∧ RGq s s18 ∧ skR s18 = nxR s ∧ s18 407 12 = s 407 12 + 1 ∧ sgB s18 = sgB s ++ [encC (itA (TR s) (nR s) (skR s))] ∧ lnR s18 = lnR s + 1 ∧ skR s < nR s) → I9  s18)
  (z19 : ∀ s19 : mSt, (¬ vfA (TR s) (nR s) (skR s) (s 407 12) = -1 ∧ RZ0 s s19 (fuA (skR s) (vfA (TR s) (nR s) (skR s) (s 407 12)))) → Q (some (mI 0)) s19) :
  Sp X (d + 4) 188 [mR 407] s Q := by
  have L : ∀ k : Nat, (∀ (l1 : Option mV) (s : mSt), I9  s → m9  s < k → Wp X (d + 4) 188 9 [some (mR 407), l1] [] s Q) ∧ (∀ (l1 : Option mV) (s : mSt), I36  s → m36  s < k → Wp X (d + 4) 188 36 [some (mR 407), l1] [] s Q) ∧ (∀ (l1 : Option mV) (w0 : Int) (s : mSt), I74 w0 s → m74 w0 s < k → Wp X (d + 4) 188 74 [some (mR 407), l1] [mI w0] s Q) := by
    intro k
    induction k with
    | zero => exact ⟨fun _ _ _ h => absurd h (Nat.not_lt_zero _), fun _ _ _ h => absurd h (Nat.not_lt_zero _), fun _ _ _ _ h => absurd h (Nat.not_lt_zero _)⟩
    | succ k ih => exact ⟨fun l1 s hI hm => b188_9 (c174 (z1 s hI) (fun v1 s1 q1 => ⟨v1, rfl, b188_13 (fun q2 => ih.2.1 l1 s1 (z2 s hI v1 s1 q1 q2).1 (Nat.lt_of_lt_of_le (z2 s hI v1 s1 q1 q2).2 (Nat.le_of_lt_succ hm))) (fun q3 => b188_18 (c174 (z3 s hI v1 s1 q1 q3) (fun v4 s4 q4 => ⟨v4, rfl, b188_22 (fun q5 => ih.2.1 l1 s4 (z4 s hI v1 s1 q1 q3 v4 s4 q4 q5).1 (Nat.lt_of_lt_of_le (z4 s hI v1 s1 q1 q3 v4 s4 q4 q5).2 (Nat.le_of_lt_succ hm))) (fun q6 => b188_27 (c174 (z5 s hI v1 s1 q1 q3 v4 s4 q4 q6) (fun v7 s7 q7 => ⟨v7, rfl, b188_31 (fun q8 => b188_103 (z6 s hI v1 s1 q1 q3 v4 s4 q4 q6 v7 s7 q7 q8)) (fun q9 => ih.2.1 l1 s7 (z7 s hI v1 s1 q1 q3 v4 s4 q4 q6 v7 s7 q7 q9).1 (Nat.lt_of_lt_of_le (z7 s hI v1 s1 q1 q3 v4 s4 q4 q6 v7 s7 q7 q9).2 (Nat.le_of_lt_succ hm)))⟩)))⟩)))⟩)), fun l1 s hI hm => b188_36 (z8 s hI) (fun q10 => b188_54 (z9 s hI q10) (fun q11 => b188_72 (ih.2.2 l1 14 s (z10 s hI q10 q11).1 (Nat.lt_of_lt_of_le (z10 s hI q10 q11).2 (Nat.le_of_lt_succ hm)))) (fun q12 => b188_68 (ih.2.2 l1 5 s (z11 s hI q10 q12).1 (Nat.lt_of_lt_of_le (z11 s hI q10 q12).2 (Nat.le_of_lt_succ hm))))) (fun q13 => b188_50 (ih.2.2 l1 4 s (z12 s hI q13).1 (Nat.lt_of_lt_of_le (z12 s hI q13).2 (Nat.le_of_lt_succ hm)))), fun l1 w0 s hI hm => b188_74 (Sp_gen (fun t14 e14 => (c187 (z13 w0 s hI t14 e14) (fun s15 q15 => ⟨1, rfl, b188_89 (fun _ => b188_94 (c182 (z14 w0 s hI t14 e14 s15 q15) (fun s16 q16 => ⟨rfl, b188_100 (ih.1 (some (mI w0)) s16 (z15 w0 s hI t14 e14 s15 q15 s16 q16).1 (Nat.lt_of_lt_of_le (z15 w0 s hI t14 e14 s15 q15 s16 q16).2 (Nat.le_of_lt_succ hm)))⟩))) (fun q => absurd q (by decide))⟩) (fun s17 q17 => ⟨0, rfl, b188_89 (fun q => absurd q (by decide)) (fun _ => b188_92 (z16 w0 s hI t14 e14 s17 q17))⟩))))⟩
  exact e188 (b188_0 (c187 z17 (fun s18 q18 => ⟨1, rfl, b188_4 (fun _ => (L (m9  s18 + 1)).1 none s18 (z18 s18 q18) (Nat.lt_succ_self _)) (fun q => absurd q (by decide))⟩) (fun s19 q19 => ⟨0, rfl, b188_4 (fun q => absurd q (by decide)) (fun _ => b188_7 (z19 s19 q19))⟩)))

theorem RG_H {s t : mSt} (h : RHq s) (g : RGq s t) : RHq t := ⟨g.1, g.2.1, g.2.2.1, g.2.2.2.1, by rw [g.2.2.2.2.2.1 11 (by decide) (by decide)]; exact h.2.2.2.2⟩
theorem RG_t {s t u : mSt} (h1 : RGq s t) (h2 : RGq t u) : RGq s u := ⟨h2.1, h2.2.1, h2.2.2.1, h2.2.2.2.1, fRv_t h1.2.2.2.2 h2.2.2.2.2⟩
theorem RG_x {s t : mSt} (g : RGq s t) : TR t = TR s ∧ nR t = nR s ∧ txR t = txR s := ⟨(fRv_x g.2.2.2.2).2.1, (fRv_x g.2.2.2.2).2.2, (fRv_x g.2.2.2.2).1⟩
theorem sgB_8 (s : mSt) {j : Nat} (x : Int) (h : 11 ≠ j) : sgB (uS s 407 j x) = sgB s := by
  unfold sgB
  have e : txR (uS s 407 j x) = txR s := by unfold txR; rw [uS_at, if_neg h]
  rw [lnR_u s x h, e, uS_cell (show 409 ≠ 407 by decide)]
/-- next is set, in the frame -/
theorem RG_8 {s : mSt} (h : RHq s) {a : Nat} (ha : a ≤ nR s) : RGq s (uS s 407 8 (a : Int)) ∧ skR (uS s 407 8 (a : Int)) = sk (TR s) (nR s) a ∧ lnR (uS s 407 8 (a : Int)) = lnR s ∧ sgB (uS s 407 8 (a : Int)) = sgB s ∧ (uS s 407 8 (a : Int)) 407 12 = s 407 12 ∧ (uS s 407 8 (a : Int)) 407 8 = (a : Int) := by
  have e12 : (uS s 407 8 (a : Int)) 407 12 = s 407 12 := by rw [uS_at, if_neg (by decide)]
  exact ⟨⟨TRq_8 h.1 ha, by rw [uS_at, if_neg (by decide)]; exact h.2.1, by rw [e12]; exact h.2.2.1, by rw [lnR_u s _ (by decide)]; exact h.2.2.2.1, fRv_u (fRv_0 s) _ (by decide)⟩, skR_8 s a, lnR_u s _ (by decide), sgB_8 s _ (by decide), e12, by rw [uS_at, if_pos rfl]⟩
theorem RG_0 {s : mSt} (h : RHq s) : RGq s s := ⟨h.1, h.2.1, h.2.2.1, h.2.2.2.1, fRv_0 s⟩
theorem see_s {s t : mSt} (h : RHq s) (e : t = uS s 407 8 (skR s : Int)) : RGq s t ∧ skR t = skR s ∧ lnR t = lnR s ∧ sgB t = sgB s ∧ t 407 12 = s 407 12 ∧ t 407 8 = (skR t : Int) := by
  have q := RG_8 h (skR_b h.1).2.1
  rw [← e, skR_s] at q
  exact ⟨q.1, q.2.1, q.2.2.1, q.2.2.2.1, q.2.2.2.2.1, by rw [q.2.1]; exact q.2.2.2.2.2⟩
theorem RZ_t {s t u : mSt} {f : Int} (h : RGq s t) (q : RZ0 t u f) : RZ0 s u f := ⟨q.1, q.2.1, fRv_t h.2.2.2.2 q.2.2⟩
theorem one_b {T : Nat → Int} {n a : Nat} {c : Int} (hT : tByt T) (hn : a < n) (e : T a = c) (h1 : ¬ (97 ≤ c ∧ c ≤ 122)) (h2 : ¬ (48 ≤ c ∧ c ≤ 57)) (h3 : c ≠ 60 ∧ c ≠ 62) : tkP T n a = a + 1 := by
  unfold tkP
  rw [if_neg (by omega), if_neg (fun w => by have := isL_i.1 w; omega), if_neg (fun w => by have := isD_i.1 w; omega), if_neg (fun w => by have := w.2; omega), if_neg (fun w => by have := w.2; omega)]
theorem map_1 (L : List Int) (x : Int) : L.map encC ++ [encC x] = (L ++ [x]).map encC := by rw [List.map_append]; rfl
theorem ub_c {v c : Int} (hc : 0 ≤ c ∧ c < 128) (h : -128 ≤ v ∧ v < 128) : v = c ↔ ub v = c := by
  unfold ub; split <;> omega
theorem c188 {X : (Nat → Int) × Nat} {d : Nat} {s : mSt} {Q : mQ} (p1 : RHq s ∧ lnR s ≤ (skR s : Int) ∧ ∃ L, SGq s L) (k1 : ∀ t : mSt, (TZq s t ∧ ∀ L, SGq s L → TM1 s t (tmR s L)) → Q (some (mI 1)) t) (k0 : ∀ t : mSt, (∀ L, SGq s L → RZ0 s t (tmR s L).1) → Q (some (mI 0)) t) : Sp X (d + 4) 188 [mR 407] s Q := by
  obtain ⟨h, hs, L0, hL0⟩ := p1
  have hb := skR_b h.1
  have hT := TR_t h.1
  let Ba : mSt → Prop := fun t => RGq s t ∧ lnR t + skR s ≤ lnR s + skR t ∧ skR s < skR t
  let I9 : mSt → Prop := fun t => Ba t ∧ ∀ L, SGq s L → ∃ M, SGq t M ∧ tmR s L = tmA (TR s) (nR s) (skR t) (t 407 12) M
  let I36 : mSt → Prop := fun t => I9 t ∧ t 407 8 = (skR t : Int) ∧ skR t < nR s ∧ (TR s (skR t) = 42 ∨ TR s (skR t) = 47 ∨ TR s (skR t) = 37)
  let I74 : Int → mSt → Prop := fun w t => Ba t ∧ t 407 8 = (skR t : Int) ∧ skR t < nR s ∧ tkP (TR s) (nR s) (skR t) = skR t + 1 ∧ (0 ≤ w ∧ w ≤ 15) ∧ ∃ x : Int, ¬ x = -1 ∧ w = encC x ∧ ∀ L, SGq s L → ∃ M, SGq t M ∧ tmR s L = tmF (TR s) (nR s) (nxA (TR s) (nR s) (skR t)) (t 407 12) M x
  have see9 : ∀ t u : mSt, I9 t → u = uS t 407 8 (skR t : Int) → I9 u ∧ u 407 8 = (skR u : Int) ∧ skR u = skR t := fun t u hI e => by
    obtain ⟨⟨g, z1, z2⟩, hR⟩ := hI
    have q := see_s (RG_H h g) e
    have e1 := q.2.1
    have e2 := q.2.2.1
    refine ⟨⟨⟨RG_t g q.1, by omega, by omega⟩, fun L hL => ?_⟩, q.2.2.2.2.2, e1⟩
    obtain ⟨M, hM, eM⟩ := hR L hL
    exact ⟨M, by unfold SGq; rw [q.2.2.2.1]; exact hM, by rw [e1, q.2.2.2.2.1]; exact eM⟩
  have raw : ∀ {t : mSt} {v c : Int}, RGq s t → v = (if nR t ≤ skR t then -1 else TR t (skR t)) → v = c → 0 ≤ c → skR t < nR s ∧ TR s (skR t) = c := fun {t v c} g ev hv hc => by
    have x := RG_x g
    rw [x.1, x.2.1] at ev
    by_cases z : nR s ≤ skR t
    · rw [if_pos z] at ev; omega
    · rw [if_neg z] at ev; exact ⟨by omega, by omega⟩
  have raw2 : ∀ {t : mSt} {v c : Int}, RGq s t → v = (if nR t ≤ skR t then -1 else TR t (skR t)) → ¬ v = c → 0 ≤ c ∧ c ≤ 255 → ¬ (97 ≤ c ∧ c ≤ 122) → ¬ (48 ≤ c ∧ c ≤ 57) → c ≠ 60 ∧ c ≠ 62 → ¬ tkK (TR s) (nR s) (skR t) = c := fun {t v c} g ev hv h1 h2 h3 h4 y => by
    have x := RG_x g
    rw [x.1, x.2.1] at ev
    exact hv (ev.trans ((rw_k hT h1 h2 h3 h4).2 y))
  have b8 : ∀ {t : mSt}, I36 t → ∀ c : Int, 0 ≤ c ∧ c < 128 → (t 408 (t 407 8).toNat = c ↔ TR s (skR t) = c) := fun {t} hI c hc => by
    have g := hI.1.1.1
    rw [hI.2.1, tnc, g.2.2.2.2.1 408 (by decide) (by decide) (by decide)]
    exact ub_c hc (h.1.1 _)
  have to74 : ∀ (t : mSt) (c x w : Int), I36 t → TR s (skR t) = c → (c = 42 ∨ c = 47 ∨ c = 37) → tmC c = x → ¬ x = -1 → w = encC x → 0 ≤ w ∧ w ≤ 15 → I74 w t := fun t c x w hI hc hcc hx hx2 hw hw2 => by
    obtain ⟨⟨hB, hR⟩, e8, hn, _⟩ := hI
    have kk : tkK (TR s) (nR s) (skR t) = c := (rw_k hT (by omega) (by omega) (by omega) (by omega)).1 (by unfold rwA; rw [if_neg (by omega)]; exact hc)
    refine ⟨hB, e8, hn, one_b hT hn hc (by omega) (by omega) (by omega), hw2, x, hx2, hw, fun L hL => ?_⟩
    obtain ⟨M, hM, eM⟩ := hR L hL
    refine ⟨M, hM, ?_⟩
    rw [eM]
    unfold tmA
    rw [kk, hx, if_neg hx2]
  have st14 : ∀ (w : Int) (t u : mSt), I74 w t → u = uS t 407 8 (w32 (t 407 8 + 1)) → RGq s u ∧ skR u = nxA (TR s) (nR s) (skR t) ∧ lnR u = lnR t ∧ sgB u = sgB t ∧ u 407 12 = t 407 12 ∧ skR t < nxA (TR s) (nR s) (skR t) ∧ nxA (TR s) (nR s) (skR t) ≤ nR s := fun w t u hI e => by
    obtain ⟨hB, e8, hn, ep, _⟩ := hI
    have x := RG_x hB.1
    rw [e8, w32_of (by omega), show (skR t : Int) + 1 = ((skR t + 1 : Nat) : Int) by omega] at e
    have q := RG_8 (RG_H h hB.1) (a := skR t + 1) (by rw [x.2.1]; omega)
    rw [← e] at q
    have nb := nxA_b (TR s) (show skR t ≤ nR s by omega)
    refine ⟨RG_t hB.1 q.1, ?_, q.2.2.1, q.2.2.2.1, q.2.2.2.2.1, nb.2.2 hn, nb.2.1⟩
    rw [q.2.1, x.1, x.2.1]
    unfold nxA
    rw [ep]
  refine v188 I9 (fun t => 8 * (1000 - skR t)) I36 (fun t => 8 * (1000 - skR t) - 1) I74 (fun _ t => 8 * (1000 - skR t) - 2) ?_ ?_ ?_ ?_ ?_ ?_ ?_ ?_ ?_ ?_ ?_ ?_ ?_ ?_ ?_ ?_ ⟨h, hs⟩ ?_ ?_
  · rintro t ⟨⟨g, _⟩, _⟩
    exact g.1
  · rintro t hI v u ⟨ev, e⟩ hv
    have q := see9 t u hI e
    have r := raw hI.1.1 ev hv (by decide)
    have e1 := q.2.2
    exact ⟨⟨q.1, q.2.1, by rw [e1]; exact r.1, by rw [e1]; exact Or.inl r.2⟩, by omega⟩
  · rintro t hI v u ⟨ev, e⟩ hv
    exact (see9 t u hI e).1.1.1.1
  · rintro t hI v u ⟨ev, e⟩ hv v2 w ⟨ev2, e2⟩ hv2
    have q := see9 t u hI e
    have q2 := see9 u w q.1 e2
    have r := raw q.1.1.1 ev2 hv2 (by decide)
    have e1 := q.2.2
    have e3 := q2.2.2
    exact ⟨⟨q2.1, q2.2.1, by rw [e3]; exact r.1, by rw [e3]; exact Or.inr (Or.inl r.2)⟩, by omega⟩
  · rintro t hI v u ⟨ev, e⟩ hv v2 w ⟨ev2, e2⟩ hv2
    exact (see9 u w (see9 t u hI e).1 e2).1.1.1.1
  · rintro t hI v u ⟨ev, e⟩ hv v2 w ⟨ev2, e2⟩ hv2 v3 x ⟨ev3, e3⟩ hv3
    have q := see9 t u hI e
    have q2 := see9 u w q.1 e2
    have q3 := see9 w x q2.1 e3
    have r1 := raw2 hI.1.1 ev hv (by decide) (by decide) (by decide) (by decide)
    have r2 := raw2 q.1.1.1 ev2 hv2 (by decide) (by decide) (by decide) (by decide)
    have r3 := raw2 q2.1.1.1 ev3 hv3 (by decide) (by decide) (by decide) (by decide)
    have e1 := q.2.2
    have e4 := q2.2.2
    have e5 := q3.2.2
    rw [e1] at r2
    rw [e4, e1] at r3
    obtain ⟨⟨g, z1, z2⟩, hR⟩ := q3.1
    refine k1 x ⟨⟨g, z1, z2⟩, fun L hL => ?_⟩
    obtain ⟨M, hM, eM⟩ := hR L hL
    have tn : tmC (tkK (TR s) (nR s) (skR x)) = -1 := by
      rw [e5, e4, e1]; unfold tmC; rw [if_neg r1, if_neg r2, if_neg r3]
    have eq : tmR s L = (0, skR x, x 407 12, M) := by rw [eM]; unfold tmA; rw [if_pos tn]
    rw [eq]
    exact ⟨rfl, rfl, rfl, hM⟩
  · rintro t hI v u ⟨ev, e⟩ hv v2 w ⟨ev2, e2⟩ hv2 v3 x ⟨ev3, e3⟩ hv3
    have q := see9 t u hI e
    have q2 := see9 u w q.1 e2
    have q3 := see9 w x q2.1 e3
    have r := raw q2.1.1.1 ev3 hv3 (by decide)
    have e1 := q.2.2
    have e4 := q2.2.2
    have e5 := q3.2.2
    exact ⟨⟨q3.1, q3.2.1, by rw [e5]; exact r.1, by rw [e5]; exact Or.inr (Or.inr r.2)⟩, by omega⟩
  · rintro t ⟨_, e8, hn, _⟩
    rw [e8]; omega
  · rintro t ⟨_, e8, hn, _⟩ _
    rw [e8]; omega
  · intro t hI a b
    have c : TR s (skR t) = 37 := by
      rcases hI.2.2.2 with y | y | y
      · exact absurd ((b8 hI 42 (by decide)).2 y) a
      · exact absurd ((b8 hI 47 (by decide)).2 y) b
      · exact y
    have := hI.2.2.1
    exact ⟨to74 t 37 200004 14 hI c (by decide) (by decide) (by decide) (by decide) (by decide), by omega⟩
  · intro t hI a b
    have := hI.2.2.1
    exact ⟨to74 t 47 200003 5 hI ((b8 hI 47 (by decide)).1 b) (by decide) (by decide) (by decide) (by decide) (by decide), by omega⟩
  · intro t hI a
    have := hI.2.2.1
    exact ⟨to74 t 42 200002 4 hI ((b8 hI 42 (by decide)).1 a) (by decide) (by decide) (by decide) (by decide) (by decide), by omega⟩
  · intro w t hI u e
    have q := st14 w t u hI e
    have hB := hI.1
    have e1 := q.2.1
    have e2 := q.2.2.1
    exact ⟨RG_H h q.1, by omega⟩
  · rintro w t hI u e x ⟨hv, g, ex, e12, eS, el, lt⟩
    have q := st14 w t u hI e
    have hB := hI.1
    have e1 := q.2.1
    have e2 := q.2.2.1
    have xu := RG_x q.1
    rw [xu.2.1] at lt
    have gx := RG_H h (RG_t q.1 g)
    exact ⟨gx.2.2.2.2, ⟨gx.2.2.2.1, by omega⟩, hI.2.2.2.2.1, by decide⟩
  · rintro w t hI u e x ⟨hv, g, ex, e12, eS, el, lt⟩ y ey
    have q := st14 w t u hI e
    have hB := hI.1
    obtain ⟨_, _, hn, _, _, tm, htm, hw, hR⟩ := hI
    have e1 := q.2.1
    have e2 := q.2.2.1
    have xu := RG_x q.1
    have gx := RG_t q.1 g
    have hx := RG_H h gx
    have xx := RG_x gx
    rw [xu.1, xu.2.1] at hv eS
    rw [xu.2.1] at lt
    rw [e1] at hv eS lt
    have nb := nxA_b (TR s) q.2.2.2.2.2.2
    have ex2 : skR x = nxA (TR s) (nR s) (nxA (TR s) (nR s) (skR t)) := by rw [ex]; unfold nxR; rw [xu.1, xu.2.1, e1]
    have lt2 := nb.2.2 lt
    have r := put_fin (s := x) gx.1 gx.2.1 gx.2.2.1 (fRv_0 x) rfl rfl ⟨gx.2.2.2.1, by omega⟩ ey
    have r1 := r.2.1
    have r2 := r.2.2.2.2
    refine ⟨⟨⟨RG_t gx r.1, by omega, by omega⟩, fun L hL => ?_⟩, by omega⟩
    obtain ⟨M, hM, eM⟩ := hR L hL
    refine ⟨M ++ [itA (TR s) (nR s) (nxA (TR s) (nR s) (skR t))] ++ [tm], ?_, ?_⟩
    · have hM' : sgB t = M.map encC := hM
      show sgB y = _
      rw [r.2.2.2.1, eS, q.2.2.2.1, hM', show w + 16 * (0 : Int) = encC tm by omega, map_1, map_1]
    · rw [q.2.2.2.2.1] at hv
      rw [eM, tmF_s lt hv, r1, ex2, r.2.2.1, e12, q.2.2.2.2.1, emL_y htm]
  · rintro w t hI u e x ⟨hv, hz⟩
    have q := st14 w t u hI e
    obtain ⟨_, _, hn, _, _, tm, htm, hw, hR⟩ := hI
    have xu := RG_x q.1
    rw [xu.1, xu.2.1, q.2.1, q.2.2.2.2.1] at hv hz
    refine k0 x (fun L hL => ?_)
    obtain ⟨M, hM, eM⟩ := hR L hL
    rw [eM, tmF_0 hv]
    exact RZ_t q.1 hz
  · rintro t ⟨hv, g, ex, e12, eS, el, lt⟩
    have nb := nxA_b (TR s) hb.2.1
    have lt2 := nb.2.2 lt
    have ex2 : skR t = nxA (TR s) (nR s) (skR s) := ex
    refine ⟨⟨g, by omega, by omega⟩, fun L hL => ⟨L ++ [itA (TR s) (nR s) (skR s)], ?_, ?_⟩⟩
    · have hL' : sgB s = L.map encC := hL
      show sgB t = _
      rw [eS, hL', map_1]
    · show tmF _ _ _ _ L (-1) = _
      rw [tmF_s lt hv, emL_n, List.append_nil, ex2, e12]
  · rintro t ⟨hv, hz⟩
    refine k0 t (fun L hL => ?_)
    show RZ0 s t (tmF _ _ _ _ L (-1)).1
    rw [tmF_0 hv]
    exact hz
def smR (s : mSt) (L : List Int) : Int × Nat × Int × List Int := sumF (TR s) (nR s) (skR s) (s 407 12) L (-1) (-1)
theorem v189 {X : (Nat → Int) × Nat} {d : Nat} {s : mSt} {Q : mQ}
  (I9 : mSt → Prop) (m9 : mSt → Nat)
  (I27 : mSt → Prop) (m27 : mSt → Nat)
  (I46 : Int → mSt → Prop) (m46 : Int → mSt → Nat)
  (z1 : ∀ s : mSt, I9  s → TRq s)
  (z2 : ∀ s : mSt, I9  s → ∀ v1 : Int, ∀ s1 : mSt, (v1 = (if nR s ≤ skR s then -1 else TR s (skR s)) ∧ s1 = uS s 407 8 (skR s : Int)) → v1 = 43 → I27  s1 ∧ m27  s1 < m9  s)
  (z3 : ∀ s : mSt, I9  s → ∀ v1 : Int, ∀ s1 : mSt, (v1 = (if nR s ≤ skR s then -1 else TR s (skR s)) ∧ s1 = uS s 407 8 (skR s : Int)) → ¬ v1 = 43 → TRq s1)
  (z4 : ∀ s : mSt, I9  s → ∀ v1 : Int, ∀ s1 : mSt, (v1 = (if nR s ≤ skR s then -1 else TR s (skR s)) ∧ s1 = uS s 407 8 (skR s : Int)) → ¬ v1 = 43 → ∀ v4 : Int, ∀ s4 : mSt, (v4 = (if nR s1 ≤ skR s1 then -1 else TR s1 (skR s1)) ∧ s4 = uS s1 407 8 (skR s1 : Int)) → ¬ v4 = 45 → Q (some (mI 1)) s4)
  (z5 : ∀ s : mSt, I9  s → ∀ v1 : Int, ∀ s1 : mSt, (v1 = (if nR s ≤ skR s then -1 else TR s (skR s)) ∧ s1 = uS s 407 8 (skR s : Int)) → ¬ v1 = 43 → ∀ v4 : Int, ∀ s4 : mSt, (v4 = (if nR s1 ≤ skR s1 then -1 else TR s1 (skR s1)) ∧ s4 = uS s1 407 8 (skR s1 : Int)) → v4 = 45 → I27  s4 ∧ m27  s4 < m9  s)
  (z6 : ∀ s : mSt, I27  s → 0 ≤ (s 407 8) ∧ (s 407 8) < 400)
  (z7 : ∀ s : mSt, I27  s → ¬ (s 408 (s 407 8).toNat) = 43 → I46 3 s ∧ m46 3 s < m27  s)
  (z8 : ∀ s : mSt, I27  s → (s 408 (s 407 8).toNat) = 43 → I46 2 s ∧ m46 2 s < m27  s)
  (z9 : ∀ w0 : Int, ∀ s : mSt, I46 w0 s → ∀ t9 : mSt, t9 = uS s 407 8 (w32 ((s 407 8) + 1)) → RHq t9 ∧ lnR t9 ≤ (skR t9 : Int) ∧ ∃ L, SGq t9 L)
  (z10 : ∀ w0 : Int, ∀ s : mSt, I46 w0 s → ∀ t9 : mSt, t9 = uS s 407 8 (w32 ((s 407 8) + 1)) → ∀ s10 : mSt, (TZq t9 s10 ∧ ∀ L, SGq t9 L → TM1 t9 s10 (tmR t9 L)) → (0 ≤ s10 407 11 ∧ s10 407 11 < 6) ∧ (0 ≤ lnR s10 ∧ lnR s10 < 400) ∧ (0 ≤ w0 ∧ w0 ≤ 15) ∧ (0 ≤ (0 : Int) ∧ (0 : Int) ≤ 99999))
  (z11 : ∀ w0 : Int, ∀ s : mSt, I46 w0 s → ∀ t9 : mSt, t9 = uS s 407 8 (w32 ((s 407 8) + 1)) → ∀ s10 : mSt, (TZq t9 s10 ∧ ∀ L, SGq t9 L → TM1 t9 s10 (tmR t9 L)) → ∀ s11 : mSt, s11 = uS (uS s10 409 (400 * txR s10 + (lnR s10).toNat) (w0 + 16 * (0 : Int))) 410 (txR s10) (lnR s10 + 1) → I9  s11 ∧ m9  s11 < m46 w0 s)
  (z12 : ∀ w0 : Int, ∀ s : mSt, I46 w0 s → ∀ t9 : mSt, t9 = uS s 407 8 (w32 ((s 407 8) + 1)) → ∀ s12 : mSt, (∀ L, SGq t9 L → RZ0 t9 s12 (tmR t9 L).1) → Q (some (mI 0)) s12)
  (z13 : RHq s ∧ lnR s ≤ (skR s : Int) ∧ ∃ L, SGq s L)
  (z14 : ∀ s13 : mSt, (TZq s s13 ∧ ∀ L, SGq s L → TM1 s s13 (tmR s L)) → I9  s13)
  (z15 : ∀ s14 : mSt, (∀ L, SGq s L → RZ0 s s14 (tmR s L).1) → Q (some (mI 0)) s14) :
  Sp X (d + 5) 189 [mR 407] s Q := by
  have L : ∀ k : Nat, (∀ (l1 : Option mV) (s : mSt), I9  s → m9  s < k → Wp X (d + 5) 189 9 [some (mR 407), l1] [] s Q) ∧ (∀ (l1 : Option mV) (s : mSt), I27  s → m27  s < k → Wp X (d + 5) 189 27 [some (mR 407), l1] [] s Q) ∧ (∀ (l1 : Option mV) (w0 : Int) (s : mSt), I46 w0 s → m46 w0 s < k → Wp X (d + 5) 189 46 [some (mR 407), l1] [mI w0] s Q) := by
    intro k
    induction k with
    | zero => exact ⟨fun _ _ _ h => absurd h (Nat.not_lt_zero _), fun _ _ _ h => absurd h (Nat.not_lt_zero _), fun _ _ _ _ h => absurd h (Nat.not_lt_zero _)⟩
    | succ k ih => exact ⟨fun l1 s hI hm => b189_9 (c174 (z1 s hI) (fun v1 s1 q1 => ⟨v1, rfl, b189_13 (fun q2 => ih.2.1 l1 s1 (z2 s hI v1 s1 q1 q2).1 (Nat.lt_of_lt_of_le (z2 s hI v1 s1 q1 q2).2 (Nat.le_of_lt_succ hm))) (fun q3 => b189_18 (c174 (z3 s hI v1 s1 q1 q3) (fun v4 s4 q4 => ⟨v4, rfl, b189_22 (fun q5 => b189_75 (z4 s hI v1 s1 q1 q3 v4 s4 q4 q5)) (fun q6 => ih.2.1 l1 s4 (z5 s hI v1 s1 q1 q3 v4 s4 q4 q6).1 (Nat.lt_of_lt_of_le (z5 s hI v1 s1 q1 q3 v4 s4 q4 q6).2 (Nat.le_of_lt_succ hm)))⟩)))⟩)), fun l1 s hI hm => b189_27 (z6 s hI) (fun q7 => b189_45 (ih.2.2 l1 3 s (z7 s hI q7).1 (Nat.lt_of_lt_of_le (z7 s hI q7).2 (Nat.le_of_lt_succ hm)))) (fun q8 => b189_41 (ih.2.2 l1 2 s (z8 s hI q8).1 (Nat.lt_of_lt_of_le (z8 s hI q8).2 (Nat.le_of_lt_succ hm)))), fun l1 w0 s hI hm => b189_46 (Sp_gen (fun t9 e9 => (c188 (z9 w0 s hI t9 e9) (fun s10 q10 => ⟨1, rfl, b189_61 (fun _ => b189_66 (c182 (z10 w0 s hI t9 e9 s10 q10) (fun s11 q11 => ⟨rfl, b189_72 (ih.1 (some (mI w0)) s11 (z11 w0 s hI t9 e9 s10 q10 s11 q11).1 (Nat.lt_of_lt_of_le (z11 w0 s hI t9 e9 s10 q10 s11 q11).2 (Nat.le_of_lt_succ hm)))⟩))) (fun q => absurd q (by decide))⟩) (fun s12 q12 => ⟨0, rfl, b189_61 (fun q => absurd q (by decide)) (fun _ => b189_64 (z12 w0 s hI t9 e9 s12 q12))⟩))))⟩
  exact e189 (b189_0 (c188 z13 (fun s13 q13 => ⟨1, rfl, b189_4 (fun _ => (L (m9  s13 + 1)).1 none s13 (z14 s13 q13) (Nat.lt_succ_self _)) (fun q => absurd q (by decide))⟩) (fun s14 q14 => ⟨0, rfl, b189_4 (fun q => absurd q (by decide)) (fun _ => b189_7 (z15 s14 q14))⟩)))

theorem c189 {X : (Nat → Int) × Nat} {d : Nat} {s : mSt} {Q : mQ} (p1 : RHq s ∧ lnR s ≤ (skR s : Int) ∧ ∃ L, SGq s L) (k1 : ∀ t : mSt, (TZq s t ∧ ∀ L, SGq s L → TM1 s t (smR s L)) → Q (some (mI 1)) t) (k0 : ∀ t : mSt, (∀ L, SGq s L → RZ0 s t (smR s L).1) → Q (some (mI 0)) t) : Sp X (d + 5) 189 [mR 407] s Q := by
  obtain ⟨h, hs, L0, hL0⟩ := p1
  have hb := skR_b h.1
  have hT := TR_t h.1
  let Ba : mSt → Prop := fun t => RGq s t ∧ lnR t + skR s ≤ lnR s + skR t ∧ skR s < skR t
  let I9 : mSt → Prop := fun t => Ba t ∧ ∀ L, SGq s L → ∃ M, SGq t M ∧ smR s L = smB (TR s) (nR s) (skR t) (t 407 12) M
  let I27 : mSt → Prop := fun t => I9 t ∧ t 407 8 = (skR t : Int) ∧ skR t < nR s ∧ (TR s (skR t) = 43 ∨ TR s (skR t) = 45)
  let I46 : Int → mSt → Prop := fun w t => Ba t ∧ t 407 8 = (skR t : Int) ∧ skR t < nR s ∧ tkP (TR s) (nR s) (skR t) = skR t + 1 ∧ (0 ≤ w ∧ w ≤ 15) ∧ ∃ x : Int, ¬ x = -1 ∧ w = encC x ∧ ∀ L, SGq s L → ∃ M, SGq t M ∧ smR s L = sumF (TR s) (nR s) (nxA (TR s) (nR s) (skR t)) (t 407 12) M (-1) x
  have see9 : ∀ t u : mSt, I9 t → u = uS t 407 8 (skR t : Int) → I9 u ∧ u 407 8 = (skR u : Int) ∧ skR u = skR t := fun t u hI e => by
    obtain ⟨⟨g, z1, z2⟩, hR⟩ := hI
    have q := see_s (RG_H h g) e
    have e1 := q.2.1
    have e2 := q.2.2.1
    refine ⟨⟨⟨RG_t g q.1, by omega, by omega⟩, fun L hL => ?_⟩, q.2.2.2.2.2, e1⟩
    obtain ⟨M, hM, eM⟩ := hR L hL
    exact ⟨M, by unfold SGq; rw [q.2.2.2.1]; exact hM, by rw [e1, q.2.2.2.2.1]; exact eM⟩
  have raw : ∀ {t : mSt} {v c : Int}, RGq s t → v = (if nR t ≤ skR t then -1 else TR t (skR t)) → v = c → 0 ≤ c → skR t < nR s ∧ TR s (skR t) = c := fun {t v c} g ev hv hc => by
    have x := RG_x g
    rw [x.1, x.2.1] at ev
    by_cases z : nR s ≤ skR t
    · rw [if_pos z] at ev; omega
    · rw [if_neg z] at ev; exact ⟨by omega, by omega⟩
  have raw2 : ∀ {t : mSt} {v c : Int}, RGq s t → v = (if nR t ≤ skR t then -1 else TR t (skR t)) → ¬ v = c → 0 ≤ c ∧ c ≤ 255 → ¬ (97 ≤ c ∧ c ≤ 122) → ¬ (48 ≤ c ∧ c ≤ 57) → c ≠ 60 ∧ c ≠ 62 → ¬ tkK (TR s) (nR s) (skR t) = c := fun {t v c} g ev hv h1 h2 h3 h4 y => by
    have x := RG_x g
    rw [x.1, x.2.1] at ev
    exact hv (ev.trans ((rw_k hT h1 h2 h3 h4).2 y))
  have b8 : ∀ {t : mSt}, I27 t → ∀ c : Int, 0 ≤ c ∧ c < 128 → (t 408 (t 407 8).toNat = c ↔ TR s (skR t) = c) := fun {t} hI c hc => by
    have g := hI.1.1.1
    rw [hI.2.1, tnc, g.2.2.2.2.1 408 (by decide) (by decide) (by decide)]
    exact ub_c hc (h.1.1 _)
  have to46 : ∀ (t : mSt) (c x w : Int), I27 t → TR s (skR t) = c → (c = 43 ∨ c = 45) → psC c = x → ¬ x = -1 → w = encC x → 0 ≤ w ∧ w ≤ 15 → I46 w t := fun t c x w hI hc hcc hx hx2 hw hw2 => by
    obtain ⟨⟨hB, hR⟩, e8, hn, _⟩ := hI
    have kk : tkK (TR s) (nR s) (skR t) = c := (rw_k hT (by omega) (by omega) (by omega) (by omega)).1 (by unfold rwA; rw [if_neg (by omega)]; exact hc)
    refine ⟨hB, e8, hn, one_b hT hn hc (by omega) (by omega) (by omega), hw2, x, hx2, hw, fun L hL => ?_⟩
    obtain ⟨M, hM, eM⟩ := hR L hL
    refine ⟨M, hM, ?_⟩
    rw [eM]
    unfold smB
    rw [kk, hx, if_neg hx2]
  have st9 : ∀ (w : Int) (t u : mSt), I46 w t → u = uS t 407 8 (w32 (t 407 8 + 1)) → RGq s u ∧ skR u = nxA (TR s) (nR s) (skR t) ∧ lnR u = lnR t ∧ sgB u = sgB t ∧ u 407 12 = t 407 12 ∧ skR t < nxA (TR s) (nR s) (skR t) ∧ nxA (TR s) (nR s) (skR t) ≤ nR s := fun w t u hI e => by
    obtain ⟨hB, e8, hn, ep, _⟩ := hI
    have x := RG_x hB.1
    rw [e8, w32_of (by omega), show (skR t : Int) + 1 = ((skR t + 1 : Nat) : Int) by omega] at e
    have q := RG_8 (RG_H h hB.1) (a := skR t + 1) (by rw [x.2.1]; omega)
    rw [← e] at q
    have nb := nxA_b (TR s) (show skR t ≤ nR s by omega)
    refine ⟨RG_t hB.1 q.1, ?_, q.2.2.1, q.2.2.2.1, q.2.2.2.2.1, nb.2.2 hn, nb.2.1⟩
    rw [q.2.1, x.1, x.2.1]
    unfold nxA
    rw [ep]
  have tr : ∀ {t u : mSt} {M : List Int}, RGq s u → skR u = nxA (TR s) (nR s) (skR t) → u 407 12 = t 407 12 → tmR u M = tmF (TR s) (nR s) (nxA (TR s) (nR s) (skR t)) (t 407 12) M (-1) := fun {t u M} g e1 e2 => by
    have x := RG_x g
    unfold tmR
    rw [x.1, x.2.1, e1, e2]
  refine v189 I9 (fun t => 8 * (1000 - skR t)) I27 (fun t => 8 * (1000 - skR t) - 1) I46 (fun _ t => 8 * (1000 - skR t) - 2) ?_ ?_ ?_ ?_ ?_ ?_ ?_ ?_ ?_ ?_ ?_ ?_ ⟨h, hs, L0, hL0⟩ ?_ ?_
  · rintro t ⟨⟨g, _⟩, _⟩
    exact g.1
  · rintro t hI v u ⟨ev, e⟩ hv
    have q := see9 t u hI e
    have r := raw hI.1.1 ev hv (by decide)
    have e1 := q.2.2
    exact ⟨⟨q.1, q.2.1, by rw [e1]; exact r.1, by rw [e1]; exact Or.inl r.2⟩, by omega⟩
  · rintro t hI v u ⟨ev, e⟩ hv
    exact (see9 t u hI e).1.1.1.1
  · rintro t hI v u ⟨ev, e⟩ hv v2 w ⟨ev2, e2⟩ hv2
    have q := see9 t u hI e
    have q2 := see9 u w q.1 e2
    have r1 := raw2 hI.1.1 ev hv (by decide) (by decide) (by decide) (by decide)
    have r2 := raw2 q.1.1.1 ev2 hv2 (by decide) (by decide) (by decide) (by decide)
    have e1 := q.2.2
    have e4 := q2.2.2
    rw [e1] at r2
    obtain ⟨⟨g, z1, z2⟩, hR⟩ := q2.1
    refine k1 w ⟨⟨g, z1, z2⟩, fun L hL => ?_⟩
    obtain ⟨M, hM, eM⟩ := hR L hL
    have tn : psC (tkK (TR s) (nR s) (skR w)) = -1 := by
      rw [e4, e1]; unfold psC; rw [if_neg r1, if_neg r2]
    have eq : smR s L = (0, skR w, w 407 12, M) := by rw [eM]; unfold smB; rw [if_pos tn]
    rw [eq]
    exact ⟨rfl, rfl, rfl, hM⟩
  · rintro t hI v u ⟨ev, e⟩ hv v2 w ⟨ev2, e2⟩ hv2
    have q := see9 t u hI e
    have q2 := see9 u w q.1 e2
    have r := raw q.1.1.1 ev2 hv2 (by decide)
    have e1 := q.2.2
    have e3 := q2.2.2
    exact ⟨⟨q2.1, q2.2.1, by rw [e3]; exact r.1, by rw [e3]; exact Or.inr r.2⟩, by omega⟩
  · rintro t ⟨_, e8, hn, _⟩
    rw [e8]; omega
  · intro t hI a
    have c : TR s (skR t) = 45 := by
      rcases hI.2.2.2 with y | y
      · exact absurd ((b8 hI 43 (by decide)).2 y) a
      · exact y
    have := hI.2.2.1
    exact ⟨to46 t 45 200001 3 hI c (by decide) (by decide) (by decide) (by decide) (by decide), by omega⟩
  · intro t hI a
    have := hI.2.2.1
    exact ⟨to46 t 43 200000 2 hI ((b8 hI 43 (by decide)).1 a) (by decide) (by decide) (by decide) (by decide) (by decide), by omega⟩
  · intro w t hI u e
    have q := st9 w t u hI e
    have hB := hI.1
    have e1 := q.2.1
    have e2 := q.2.2.1
    obtain ⟨_, _, _, _, _, tm, _, _, hR⟩ := hI
    obtain ⟨M, hM, _⟩ := hR L0 hL0
    exact ⟨RG_H h q.1, by omega, M, by unfold SGq; rw [q.2.2.2.1]; exact hM⟩
  · rintro w t hI u e x ⟨⟨g, z1, z2⟩, _⟩
    have q := st9 w t u hI e
    have hB := hI.1
    have e1 := q.2.1
    have e2 := q.2.2.1
    have gx := RG_t q.1 g
    have hx := RG_H h gx
    have xx := RG_x gx
    have bx := skR_b gx.1
    rw [xx.2.1] at bx
    exact ⟨hx.2.2.2.2, ⟨hx.2.2.2.1, by omega⟩, hI.2.2.2.2.1, by decide⟩
  · rintro w t hI u e x ⟨⟨g, z1, z2⟩, hM1⟩ y ey
    have q := st9 w t u hI e
    have hB := hI.1
    obtain ⟨_, _, hn, _, _, tm, htm, hw, hR⟩ := hI
    have e1 := q.2.1
    have e2 := q.2.2.1
    have gx := RG_t q.1 g
    have xx := RG_x gx
    have bx := skR_b gx.1
    rw [xx.2.1] at bx
    have r := put_fin (s := x) gx.1 gx.2.1 gx.2.2.1 (fRv_0 x) rfl rfl ⟨gx.2.2.2.1, by omega⟩ ey
    have r1 := r.2.1
    have r2 := r.2.2.2.2
    refine ⟨⟨⟨RG_t gx r.1, by omega, by omega⟩, fun L hL => ?_⟩, by omega⟩
    obtain ⟨M, hM, eM⟩ := hR L hL
    have t1 := hM1 M (by unfold SGq; rw [q.2.2.2.1]; exact hM)
    rw [tr q.1 e1 q.2.2.2.2.1] at t1
    refine ⟨(tmF (TR s) (nR s) (nxA (TR s) (nR s) (skR t)) (t 407 12) M (-1)).2.2.2 ++ [tm], ?_, ?_⟩
    · have hM' : sgB x = ((tmF (TR s) (nR s) (nxA (TR s) (nR s) (skR t)) (t 407 12) M (-1)).2.2.2).map encC := t1.2.2.2
      show sgB y = _
      rw [r.2.2.2.1, hM', show w + 16 * (0 : Int) = encC tm by omega, map_1]
    · rw [eM, sum_tm (nR s) _ _ _ _ _ (by omega) q.2.2.2.2.2.2, if_pos t1.1, r1, r.2.2.1, t1.2.1, t1.2.2.1, emL_y htm]
  · rintro w t hI u e x hz
    have q := st9 w t u hI e
    obtain ⟨_, _, hn, _, _, tm, htm, hw, hR⟩ := hI
    refine k0 x (fun L hL => ?_)
    obtain ⟨M, hM, eM⟩ := hR L hL
    have t1 := hz M (by unfold SGq; rw [q.2.2.2.1]; exact hM)
    rw [tr q.1 q.2.1 q.2.2.2.2.1] at t1
    rw [eM, sum_tm (nR s) _ _ _ _ _ (by omega) q.2.2.2.2.2.2, if_neg (by have := t1.2.1; omega)]
    exact RZ_t q.1 t1
  · rintro t ⟨⟨g, z1, z2⟩, hM1⟩
    refine ⟨⟨g, z1, z2⟩, fun L hL => ?_⟩
    have t1 := hM1 L hL
    refine ⟨_, t1.2.2.2, ?_⟩
    have t0 : (tmF (TR s) (nR s) (skR s) (s 407 12) L (-1)).1 = 0 := t1.1
    show sumF _ _ _ _ L (-1) (-1) = _
    rw [sum_tm (nR s) _ _ _ _ _ (by omega) hb.2.1, if_pos t0, emL_n, List.append_nil, t1.2.1, t1.2.2.1]
    rfl
  · rintro t hz
    refine k0 t (fun L hL => ?_)
    have t1 := hz L hL
    have t0 : ¬ (tmF (TR s) (nR s) (skR s) (s 407 12) L (-1)).1 = 0 := by
      have y : 0 < (tmF (TR s) (nR s) (skR s) (s 407 12) L (-1)).1 := t1.2.1
      omega
    show RZ0 s t (sumF _ _ _ _ L (-1) (-1)).1
    rw [sum_tm (nR s) _ _ _ _ _ (by omega) hb.2.1, if_neg t0]
    exact t1
