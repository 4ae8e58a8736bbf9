/-! sums -/
def emL (x : Int) : List Int := if x = -1 then [] else [x]
/-- a sum read from a place on, with what waits to be joined: fault, place behind, values counted, code -/
def sumF (T : Nat → Int) (n a : Nat) (k : Int) (L : List Int) (tm pl : Int) : Int × Nat × Int × List Int :=
  if h : a < n then
    if vfA T n a k = -1 then
      if tmC (tkK T n (nxA T n a)) = -1 then
        if psC (tkK T n (nxA T n a)) = -1 then (0, nxA T n a, k + 1, L ++ [itA T n a] ++ emL tm ++ emL pl)
        else sumF T n (nxA T n (nxA T n a)) (k + 1) (L ++ [itA T n a] ++ emL tm ++ emL pl) (-1) (psC (tkK T n (nxA T n a)))
      else sumF T n (nxA T n (nxA T n a)) (k + 1) (L ++ [itA T n a] ++ emL tm) (tmC (tkK T n (nxA T n a))) pl
    else (fuA a (vfA T n a k), a, k, L)
  else (fuA a (vfA T n a k), a, k, L)
termination_by n - a
decreasing_by
  all_goals
    have b := nxA_b T (show a ≤ n by omega)
    have c := nxA_b T b.2.1
    omega
theorem sumF_0 {T : Nat → Int} {n a : Nat} {k : Int} {L : List Int} {tm pl : Int} (h : ¬ vfA T n a k = -1) : sumF T n a k L tm pl = (fuA a (vfA T n a k), a, k, L) := by
  rw [sumF]
  by_cases z : a < n
  · rw [dif_pos z, if_neg h]
  · rw [dif_neg z]
theorem sumF_1 {T : Nat → Int} {n a : Nat} {k : Int} {L : List Int} {tm pl : Int} (h0 : a < n) (h : vfA T n a k = -1) (h1 : tmC (tkK T n (nxA T n a)) = -1) (h2 : psC (tkK T n (nxA T n a)) = -1) : sumF T n a k L tm pl = (0, nxA T n a, k + 1, L ++ [itA T n a] ++ emL tm ++ emL pl) := by
  rw [sumF, dif_pos h0, if_pos h, if_pos h1, if_pos h2]
theorem sumF_2 {T : Nat → Int} {n a : Nat} {k : Int} {L : List Int} {tm pl : Int} (h0 : a < n) (h : vfA T n a k = -1) (h1 : tmC (tkK T n (nxA T n a)) = -1) (h2 : ¬ psC (tkK T n (nxA T n a)) = -1) : sumF T n a k L tm pl = sumF T n (nxA T n (nxA T n a)) (k + 1) (L ++ [itA T n a] ++ emL tm ++ emL pl) (-1) (psC (tkK T n (nxA T n a))) := by
  rw [sumF, dif_pos h0, if_pos h, if_pos h1, if_neg h2]
theorem sumF_3 {T : Nat → Int} {n a : Nat} {k : Int} {L : List Int} {tm pl : Int} (h0 : a < n) (h : vfA T n a k = -1) (h1 : ¬ tmC (tkK T n (nxA T n a)) = -1) : sumF T n a k L tm pl = sumF T n (nxA T n (nxA T n a)) (k + 1) (L ++ [itA T n a] ++ emL tm) (tmC (tkK T n (nxA T n a))) pl := by
  rw [sumF, dif_pos h0, if_pos h, if_neg h1]
def smC (s : mSt) (k : Nat) : Int × Nat × Int × List Int := sumF (s 2) (nO s) (aO s) (s 5 1) (cdL s k) (-1) (-1)
theorem v82 {X : (Nat → Int) × Nat} {d : Nat} {s : mSt} {Q : mQ} {a1 : Nat} (h1 : isRl a1)
  (I7 : Int → Int → Int → mSt → Prop) (m7 : Int → Int → Int → mSt → Nat)
  (I35 : Int → Int → Int → mSt → Prop) (m35 : Int → Int → Int → mSt → Nat)
  (I61 : Int → Int → Int → mSt → Prop) (m61 : Int → Int → Int → mSt → Nat)
  (I79 : Int → Int → Int → mSt → Prop) (m79 : Int → Int → Int → mSt → Nat)
  (z1 : ∀ y2 : Int, ∀ y3 : Int, ∀ y4 : Int, ∀ s : mSt, I7 y2 y3 y4 s → 400 ≤ y4 → (0 ≤ s 1 3 ∧ s 1 3 ≤ 400) ∧ (0 ≤ (0 : Int) ∧ (0 : Int) ≤ 4))
  (z2 : ∀ y2 : Int, ∀ y3 : Int, ∀ y4 : Int, ∀ s : mSt, I7 y2 y3 y4 s → 400 ≤ y4 → ∀ v2 : Int, ∀ s2 : mSt, (v2 = 0 ∧ s2 = flC s (0 : Int)) → Q (some (mI v2)) s2)
  (z3 : ∀ y2 : Int, ∀ y3 : Int, ∀ y4 : Int, ∀ s : mSt, I7 y2 y3 y4 s → 400 ≤ y4 → ∀ v2 : Int, ∀ s2 : mSt, (v2 = 0 ∧ s2 = flC s (0 : Int)) → v2 = 0 ∨ v2 = 1)
  (z4 : ∀ y2 : Int, ∀ y3 : Int, ∀ y4 : Int, ∀ s : mSt, I7 y2 y3 y4 s → ¬ 400 ≤ y4 → RIq s a1 ∧ s a1 1 ≤ (aO s : Int))
  (z5 : ∀ y2 : Int, ∀ y3 : Int, ∀ y4 : Int, ∀ s : mSt, I7 y2 y3 y4 s → ¬ 400 ≤ y4 → ∀ s4 : mSt, (vfA (s 2) (nO s) (aO s) (s 5 1) = -1 ∧ RQ1 s s4 a1 (nxA (s 2) (nO s) (aO s)) (s 5 1 + 1) (cdL s a1 ++ [itA (s 2) (nO s) (aO s)]) ∧ aO s < nO s) → y2 = (-1) → I35 y2 y3 y4 s4 ∧ m35 y2 y3 y4 s4 < m7 y2 y3 y4 s)
  (z6 : ∀ y2 : Int, ∀ y3 : Int, ∀ y4 : Int, ∀ s : mSt, I7 y2 y3 y4 s → ¬ 400 ≤ y4 → ∀ s4 : mSt, (vfA (s 2) (nO s) (aO s) (s 5 1) = -1 ∧ RQ1 s s4 a1 (nxA (s 2) (nO s) (aO s)) (s 5 1 + 1) (cdL s a1 ++ [itA (s 2) (nO s) (aO s)]) ∧ aO s < nO s) → ¬ y2 = (-1) → 0 ≤ s4 a1 1 ∧ s4 a1 1 < 400)
  (z7 : ∀ y2 : Int, ∀ y3 : Int, ∀ y4 : Int, ∀ s : mSt, I7 y2 y3 y4 s → ¬ 400 ≤ y4 → ∀ s4 : mSt, (vfA (s 2) (nO s) (aO s) (s 5 1) = -1 ∧ RQ1 s s4 a1 (nxA (s 2) (nO s) (aO s)) (s 5 1 + 1) (cdL s a1 ++ [itA (s 2) (nO s) (aO s)]) ∧ aO s < nO s) → ¬ y2 = (-1) → ∀ s7 : mSt, s7 = uS (uS s4 (a1 + 1) (s4 a1 1).toNat y2) a1 1 (s4 a1 1 + 1) → I35 y2 y3 y4 s7 ∧ m35 y2 y3 y4 s7 < m7 y2 y3 y4 s)
  (z8 : ∀ y2 : Int, ∀ y3 : Int, ∀ y4 : Int, ∀ s : mSt, I7 y2 y3 y4 s → ¬ 400 ≤ y4 → ∀ s8 : mSt, (¬ vfA (s 2) (nO s) (aO s) (s 5 1) = -1 ∧ RQ0 s s8 a1 (fuA (aO s) (vfA (s 2) (nO s) (aO s) (s 5 1)))) → Q (some (mI 0)) s8)
  (z9 : ∀ y2 : Int, ∀ y3 : Int, ∀ y4 : Int, ∀ s : mSt, I35 y2 y3 y4 s → ¬ (tmC (s 1 2)) = (-1) → I79 (tmC (s 1 2)) y3 y4 s ∧ m79 (tmC (s 1 2)) y3 y4 s < m35 y2 y3 y4 s)
  (z10 : ∀ y2 : Int, ∀ y3 : Int, ∀ y4 : Int, ∀ s : mSt, I35 y2 y3 y4 s → (tmC (s 1 2)) = (-1) → y3 = (-1) → I61 (tmC (s 1 2)) y3 y4 s ∧ m61 (tmC (s 1 2)) y3 y4 s < m35 y2 y3 y4 s)
  (z11 : ∀ y2 : Int, ∀ y3 : Int, ∀ y4 : Int, ∀ s : mSt, I35 y2 y3 y4 s → (tmC (s 1 2)) = (-1) → ¬ y3 = (-1) → 0 ≤ s a1 1 ∧ s a1 1 < 400)
  (z12 : ∀ y2 : Int, ∀ y3 : Int, ∀ y4 : Int, ∀ s : mSt, I35 y2 y3 y4 s → (tmC (s 1 2)) = (-1) → ¬ y3 = (-1) → ∀ s13 : mSt, s13 = uS (uS s (a1 + 1) (s a1 1).toNat y3) a1 1 (s a1 1 + 1) → I61 (tmC (s 1 2)) y3 y4 s13 ∧ m61 (tmC (s 1 2)) y3 y4 s13 < m35 y2 y3 y4 s)
  (z13 : ∀ y2 : Int, ∀ y3 : Int, ∀ y4 : Int, ∀ s : mSt, I61 y2 y3 y4 s → ¬ (psC (s 1 2)) = (-1) → I79 y2 (psC (s 1 2)) y4 s ∧ m79 y2 (psC (s 1 2)) y4 s < m61 y2 y3 y4 s)
  (z14 : ∀ y2 : Int, ∀ y3 : Int, ∀ y4 : Int, ∀ s : mSt, I61 y2 y3 y4 s → (psC (s 1 2)) = (-1) → Q (some (mI 1)) s)
  (z15 : ∀ y2 : Int, ∀ y3 : Int, ∀ y4 : Int, ∀ s : mSt, I79 y2 y3 y4 s → (0 ≤ s 1 4 ∧ s 1 4 ≤ s 1 1 ∧ s 1 1 ≤ 400) ∧ BYq s)
  (z16 : ∀ y2 : Int, ∀ y3 : Int, ∀ y4 : Int, ∀ s : mSt, I79 y2 y3 y4 s → ∀ s16 : mSt, (TKq (s 2) (s 1 1).toNat (sk (s 2) (s 1 1).toNat (s 1 4).toNat) s16 ∧ f1 s s16) → I7 y2 y3 (w32 (y4 + 1)) s16 ∧ m7 y2 y3 (w32 (y4 + 1)) s16 < m79 y2 y3 y4 s)
  (z17 : I7 (-1) (-1) 0 s) :
  Sp X (d + 7) 82 [mR 5, mR a1] s Q := by
  have L : ∀ k : Nat, (∀ (y2 : Int) (y3 : Int) (y4 : Int) (s : mSt), I7 y2 y3 y4 s → m7 y2 y3 y4 s < k → Wp X (d + 7) 82 7 [some (mR 5), some (mR a1), some (mI y2), some (mI y3), some (mI y4)] [] s Q) ∧ (∀ (y2 : Int) (y3 : Int) (y4 : Int) (s : mSt), I35 y2 y3 y4 s → m35 y2 y3 y4 s < k → Wp X (d + 7) 82 35 [some (mR 5), some (mR a1), some (mI y2), some (mI y3), some (mI y4)] [] s Q) ∧ (∀ (y2 : Int) (y3 : Int) (y4 : Int) (s : mSt), I61 y2 y3 y4 s → m61 y2 y3 y4 s < k → Wp X (d + 7) 82 61 [some (mR 5), some (mR a1), some (mI y2), some (mI y3), some (mI y4)] [] s Q) ∧ (∀ (y2 : Int) (y3 : Int) (y4 : Int) (s : mSt), I79 y2 y3 y4 s → m79 y2 y3 y4 s < k → Wp X (d + 7) 82 79 [some (mR 5), some (mR a1), some (mI y2), some (mI y3), some (mI y4)] [] s Q) := by
    intro k
    induction k with
    | zero => exact ⟨fun _ _ _ _ _ h => absurd h (Nat.not_lt_zero _), fun _ _ _ _ _ h => absurd h (Nat.not_lt_zero _), fun _ _ _ _ _ h => absurd h (Nat.not_lt_zero _), fun _ _ _ _ _ h => absurd h (Nat.not_lt_zero _)⟩
    | succ k ih => exact ⟨fun y2 y3 y4 s hI hm => b82_7 h1 (fun q1 => b82_92 h1 (c94 (z1 y2 y3 y4 s hI q1) (fun v2 s2 q2 => ⟨v2, rfl, b82_100 h1 (z2 y2 y3 y4 s hI q1 v2 s2 q2) (z3 y2 y3 y4 s hI q1 v2 s2 q2)⟩))) (fun q3 => b82_15 h1 (c83 h1 (z4 y2 y3 y4 s hI q3) (fun s4 q4 => ⟨1, rfl, b82_20 h1 (fun _ => b82_25 h1 (fun q5 => ih.2.1 y2 y3 y4 s4 (z5 y2 y3 y4 s hI q3 s4 q4 q5).1 (Nat.lt_of_lt_of_le (z5 y2 y3 y4 s hI q3 s4 q4 q5).2 (Nat.le_of_lt_succ hm))) (fun q6 => b82_30 h1 (c72 h1 (z6 y2 y3 y4 s hI q3 s4 q4 q6) (fun s7 q7 => ⟨rfl, ih.2.1 y2 y3 y4 s7 (z7 y2 y3 y4 s hI q3 s4 q4 q6 s7 q7).1 (Nat.lt_of_lt_of_le (z7 y2 y3 y4 s hI q3 s4 q4 q6 s7 q7).2 (Nat.le_of_lt_succ hm))⟩)))) (fun q => absurd q (by decide))⟩) (fun s8 q8 => ⟨0, rfl, b82_20 h1 (fun q => absurd q (by decide)) (fun _ => b82_23 h1 (z8 y2 y3 y4 s hI q3 s8 q8))⟩))), fun y2 y3 y4 s hI hm => b82_35 h1 (c69  ⟨_, rfl, b82_45 h1 (fun q9 => ih.2.2.2 (tmC (s 1 2)) y3 y4 s (z9 y2 y3 y4 s hI q9).1 (Nat.lt_of_lt_of_le (z9 y2 y3 y4 s hI q9).2 (Nat.le_of_lt_succ hm))) (fun q10 => b82_51 h1 (fun q11 => ih.2.2.1 (tmC (s 1 2)) y3 y4 s (z10 y2 y3 y4 s hI q10 q11).1 (Nat.lt_of_lt_of_le (z10 y2 y3 y4 s hI q10 q11).2 (Nat.le_of_lt_succ hm))) (fun q12 => b82_56 h1 (c72 h1 (z11 y2 y3 y4 s hI q10 q12) (fun s13 q13 => ⟨rfl, ih.2.2.1 (tmC (s 1 2)) y3 y4 s13 (z12 y2 y3 y4 s hI q10 q12 s13 q13).1 (Nat.lt_of_lt_of_le (z12 y2 y3 y4 s hI q10 q12 s13 q13).2 (Nat.le_of_lt_succ hm))⟩))))⟩), fun y2 y3 y4 s hI hm => b82_61 h1 (c70  ⟨_, rfl, b82_71 h1 (fun q14 => ih.2.2.2 y2 (psC (s 1 2)) y4 s (z13 y2 y3 y4 s hI q14).1 (Nat.lt_of_lt_of_le (z13 y2 y3 y4 s hI q14).2 (Nat.le_of_lt_succ hm))) (fun q15 => b82_77 h1 (z14 y2 y3 y4 s hI q15))⟩), fun y2 y3 y4 s hI hm => b82_79 h1 (c90 (z15 y2 y3 y4 s hI) (fun s16 q16 => ⟨rfl, b82_86 h1 (ih.1 y2 y3 (w32 (y4 + 1)) s16 (z16 y2 y3 y4 s hI s16 q16).1 (Nat.lt_of_lt_of_le (z16 y2 y3 y4 s hI s16 q16).2 (Nat.le_of_lt_succ hm)))⟩))⟩
  exact e82 (b82_0 h1 ((L (m7 (-1) (-1) 0 s + 1)).1 (-1) (-1) 0 s z17 (Nat.lt_succ_self _)))

def smB (T : Nat → Int) (n b : Nat) (k : Int) (L : List Int) : Int × Nat × Int × List Int := if psC (tkK T n b) = -1 then (0, b, k, L) else sumF T n (nxA T n b) k L (-1) (psC (tkK T n b))
def smA (T : Nat → Int) (n b : Nat) (k : Int) (L : List Int) (pl : Int) : Int × Nat × Int × List Int := if tmC (tkK T n b) = -1 then smB T n b k (L ++ emL pl) else sumF T n (nxA T n b) k L (tmC (tkK T n b)) pl
theorem sumF_s {T : Nat → Int} {n a : Nat} {k : Int} {L : List Int} {tm pl : Int} (h0 : a < n) (h : vfA T n a k = -1) : sumF T n a k L tm pl = smA T n (nxA T n a) (k + 1) (L ++ [itA T n a] ++ emL tm) pl := by
  unfold smA smB
  by_cases h1 : tmC (tkK T n (nxA T n a)) = -1
  · rw [if_pos h1]
    by_cases h2 : psC (tkK T n (nxA T n a)) = -1
    · rw [if_pos h2]; exact sumF_1 h0 h h1 h2
    · rw [if_neg h2]; exact sumF_2 h0 h h1 h2
  · rw [if_neg h1]; exact sumF_3 h0 h h1
def pd (x : Int) : Int := if x = -1 then 0 else 1
def RBq (s t : mSt) (k : Nat) : Prop := TSa s t (aO t) ∧ t 1 6 = 0 ∧ (0 ≤ t 5 1 ∧ t 5 1 ≤ 60) ∧ 0 ≤ t k 1 ∧ fRl s t k
theorem RB_I {s t : mSt} {k : Nat} (h : RBq s t k) : RIq t k := ⟨h.1.1, h.2.1, h.2.2.1, h.2.2.2.1⟩
theorem RQ0_t {s t u : mSt} {k : Nat} {f : Int} (h : RBq s t k) (q : RQ0 t u k f) : RQ0 s u k f := ⟨q.1, q.2.1, q.2.2.1.trans h.1.2.2.1, fRl_t h.2.2.2.2 q.2.2.2⟩
theorem RB_1 {s t u : mSt} {k a : Nat} {c : Int} {L : List Int} (h : RBq s t k) (q : RQ1 t u k a c L) (hc : 0 ≤ c ∧ c ≤ 60) : RBq s u k ∧ aO u = a ∧ u 5 1 = c ∧ cdL u k = L ∧ u k 1 = (L.length : Int) := by
  have e := q.1.2.2.2
  have n := cdL_n u k
  rw [q.2.2.2.1] at n
  exact ⟨⟨by rw [e]; exact TSa_t h.1 q.1, q.2.1, by rw [q.2.2.1]; exact hc, q.2.2.2.2.1, fRl_t h.2.2.2.2 q.2.2.2.2.2⟩, e, q.2.2.1, q.2.2.2.1, by have := q.2.2.2.2.1; omega⟩
theorem RB_e {s t u : mSt} {k : Nat} {x : Int} (hk : isRl k) (h : RBq s t k) (e : u = uS (uS t (k + 1) (t k 1).toNat x) k 1 (t k 1 + 1)) : RBq s u k ∧ aO u = aO t ∧ u 5 1 = t 5 1 ∧ cdL u k = cdL t k ++ [x] ∧ u k 1 = t k 1 + 1 := by
  have l := rl_8 hk
  have q := cdL_e h.2.2.2.1 e
  have u1 : u 1 = t 1 := q.2.2.1 1 (by omega) (by omega)
  have u2 : u 2 = t 2 := q.2.2.1 2 (by omega) (by omega)
  have u5 : u 5 = t 5 := q.2.2.1 5 (by omega) (by omega)
  have ea : aO u = aO t := by unfold aO; rw [u1]
  refine ⟨⟨by rw [ea]; exact TSa_c h.1 u1 u2, by rw [u1]; exact h.2.1, by rw [u5]; exact h.2.2.1, by have := h.2.2.2.1; rw [q.2.1]; omega, fRl_t h.2.2.2.2 ⟨fun b _ _ a3 a4 => q.2.2.1 b a3 a4, q.2.2.2, fun j _ => by rw [u5]⟩⟩, ea, by rw [u5], q.1, q.2.1⟩
theorem RB_s {s t u : mSt} {k : Nat} (hk : isRl k) (h : RBq s t k) (q : TKq (t 2) (t 1 1).toNat (sk (t 2) (t 1 1).toNat (t 1 4).toNat) u ∧ f1 t u) : RBq s u k ∧ aO u = nxA (s 2) (nO s) (aO t) ∧ u 5 1 = t 5 1 ∧ cdL u k = cdL t k ∧ u k 1 = t k 1 := by
  have w := scan_s hk h.2.1 rfl rfl h.1.1 q
  have f := f1_Rl hk q.2
  have en := TSa_n h.1
  have e2 := h.1.2.1
  rw [e2, en] at w
  have ea := w.1.2.2.2
  exact ⟨⟨by rw [ea]; exact TSa_t h.1 w.1, w.2, by rw [f.2.2.2]; exact h.2.2.1, by rw [f.2.2.1]; exact h.2.2.2.1, fRl_t h.2.2.2.2 f.1⟩, ea, by rw [f.2.2.2], f.2.1, by rw [f.2.2.1]⟩
theorem RB_k {s t : mSt} {k : Nat} (h : RBq s t k) : t 1 2 = tkK (s 2) (nO s) (aO t) ∧ aO t ≤ nO s ∧ nO s ≤ 400 ∧ t 2 = s 2 ∧ nO t = nO s := by
  have en := TSa_n h.1
  have e2 := h.1.2.1
  have b := ts_b h.1.1
  have q := h.1.1.2.2.2.2.2.1
  rw [e2, en] at q
  rw [en] at b
  exact ⟨q, b.1, b.2.1, e2, en⟩
theorem k_lt {T : Nat → Int} {n a : Nat} (h : ¬ tkK T n a = -1) : a < n := by
  by_cases y : a < n
  · exact y
  · exact absurd (show tkK T n a = -1 from if_pos (by omega)) h
theorem emL_n : emL (-1) = [] := rfl
theorem emL_y {x : Int} (h : ¬ x = -1) : emL x = [x] := if_neg h
theorem c82 {X : (Nat → Int) × Nat} {d : Nat} {s : mSt} {Q : mQ} {a1 : Nat} (h1 : isRl a1) (p1 : RIq s a1 ∧ s a1 1 ≤ (aO s : Int)) (k1 : ∀ t : mSt, ((smC s a1).1 = 0 ∧ RQ1 s t a1 (smC s a1).2.1 (smC s a1).2.2.1 (smC s a1).2.2.2 ∧ (t a1 1 + aO s ≤ s a1 1 + aO t ∧ aO s < aO t) ∧ (0 ≤ t 5 1 ∧ t 5 1 ≤ 60)) → Q (some (mI 1)) t) (k0 : ∀ t : mSt, (RQ0 s t a1 (smC s a1).1) → Q (some (mI 0)) t) : Sp X (d + 7) 82 [mR 5, mR a1] s Q := by
  obtain ⟨h, hs⟩ := p1
  have l := rl_8 h1
  have h0 := h.2.2.2
  let B : mSt → Prop := fun t => RBq s t a1
  let I7 : Int → Int → Int → mSt → Prop := fun y2 y3 y4 t => RBq s t a1 ∧ smC s a1 = sumF (s 2) (nO s) (aO t) (t 5 1) (cdL t a1) y2 y3 ∧ t a1 1 + pd y2 + pd y3 + aO s ≤ s a1 1 + aO t ∧ 0 ≤ y4 ∧ 2 * y4 + aO s ≤ aO t
  let I35 : Int → Int → Int → mSt → Prop := fun y2 y3 y4 t => RBq s t a1 ∧ smC s a1 = smA (s 2) (nO s) (aO t) (t 5 1) (cdL t a1) y3 ∧ t a1 1 + pd y3 + aO s ≤ s a1 1 + aO t ∧ 0 ≤ y4 ∧ 2 * y4 + 1 + aO s ≤ aO t
  let I61 : Int → Int → Int → mSt → Prop := fun y2 y3 y4 t => y2 = -1 ∧ RBq s t a1 ∧ smC s a1 = smB (s 2) (nO s) (aO t) (t 5 1) (cdL t a1) ∧ t a1 1 + aO s ≤ s a1 1 + aO t ∧ 0 ≤ y4 ∧ 2 * y4 + 1 + aO s ≤ aO t
  let I79 : Int → Int → Int → mSt → Prop := fun y2 y3 y4 t => RBq s t a1 ∧ aO t < nO s ∧ smC s a1 = sumF (s 2) (nO s) (nxA (s 2) (nO s) (aO t)) (t 5 1) (cdL t a1) y2 y3 ∧ t a1 1 + pd y2 + pd y3 + aO s ≤ s a1 1 + aO t + 1 ∧ 0 ≤ y4 ∧ 2 * y4 + 1 + aO s ≤ aO t
  have pn : pd (-1) = 0 := rfl
  have py : ∀ {x : Int}, ¬ x = -1 → pd x = 1 := fun z => if_neg z
  have pb : ∀ x : Int, 0 ≤ pd x ∧ pd x ≤ 1 := fun x => by unfold pd; split <;> omega
  have vl : ∀ t : mSt, vfA (t 2) (nO t) (aO t) (t 5 1) = -1 → t 5 1 < 60 := fun t z => by
    have nb := nuA_b (t 2) (nO t) (aO t) 0 99999
    unfold vfA at z
    split at z
    · split at z
      · omega
      · omega
    · rename_i y
      exact absurd (Or.inr z) y
  have st5 : ∀ y2 y3 y4 (t u : mSt), I7 y2 y3 y4 t → (vfA (t 2) (nO t) (aO t) (t 5 1) = -1 ∧ RQ1 t u a1 (nxA (t 2) (nO t) (aO t)) (t 5 1 + 1) (cdL t a1 ++ [itA (t 2) (nO t) (aO t)]) ∧ aO t < nO t) → RBq s u a1 ∧ aO t < nO s ∧ aO t < aO u ∧ u a1 1 = t a1 1 + 1 ∧ aO u ≤ nO s ∧ smC s a1 = smA (s 2) (nO s) (aO u) (u 5 1) (cdL u a1 ++ emL y2) y3 := by
    rintro y2 y3 y4 t u ⟨hB, hS, hz, h4, h5⟩ ⟨v1, q, lt⟩
    have kb := RB_k hB
    have h60 := vl t v1
    have w := RB_1 hB q (by have := hB.2.2.1; omega)
    have nb := nxA_b (s 2) kb.2.1
    rw [kb.2.2.2.1, kb.2.2.2.2] at w v1
    rw [kb.2.2.2.2] at lt
    refine ⟨w.1, lt, by rw [w.2.1]; exact nb.2.2 lt, ?_, by rw [w.2.1]; exact nb.2.1, ?_⟩
    · rw [w.2.2.2.2, List.length_append, cdL_n]
      have := hB.2.2.2.1
      show (((t a1 1).toNat + 1 : Nat) : Int) = _
      omega
    · rw [hS, sumF_s lt v1, w.2.1, w.2.2.1, w.2.2.2.1]
  have tmb : ∀ {x : Int}, ¬ tmC x = -1 → ¬ x = -1 := fun {x} z y => z (by rw [y]; rfl)
  have psb : ∀ {x : Int}, ¬ psC x = -1 → ¬ x = -1 := fun {x} z y => z (by rw [y]; rfl)
  refine v82 h1 I7 (fun _ _ _ t => 4 * (1000 - aO t)) I35 (fun _ _ _ t => 4 * (1000 - aO t) + 3) I61 (fun _ _ _ t => 4 * (1000 - aO t) + 2) I79 (fun _ _ _ t => 4 * (1000 - aO t) + 1) ?_ ?_ ?_ ?_ ?_ ?_ ?_ ?_ ?_ ?_ ?_ ?_ ?_ ?_ ?_ ?_ ?_
  · rintro y2 y3 y4 t ⟨hB, hS, hz, h4, h5⟩ hy
    have kb := RB_k hB
    omega
  · rintro y2 y3 y4 t ⟨hB, hS, hz, h4, h5⟩ hy
    have kb := RB_k hB
    omega
  · rintro y2 y3 y4 t ⟨hB, hS, hz, h4, h5⟩ hy
    have kb := RB_k hB
    omega
  · rintro y2 y3 y4 t ⟨hB, hS, hz, h4, h5⟩ hy
    have b2 := pb y2
    have b3 := pb y3
    exact ⟨RB_I hB, by omega⟩
  · rintro y2 y3 y4 t hI hy u q z
    have w := st5 y2 y3 y4 t u hI q
    obtain ⟨hB, hS, hz, h4, h5⟩ := hI
    have kb := RB_k hB
    subst z
    rw [pn] at hz
    refine ⟨⟨w.1, ?_, by omega, h4, by omega⟩, by omega⟩
    rw [w.2.2.2.2.2, emL_n, List.append_nil]
  · rintro y2 y3 y4 t hI hy u q z
    have w := st5 y2 y3 y4 t u hI q
    obtain ⟨hB, hS, hz, h4, h5⟩ := hI
    rw [py z] at hz
    have b3 := pb y3
    have kb := RB_k hB
    have := hB.2.2.2.1
    rw [w.2.2.2.1]
    omega
  · rintro y2 y3 y4 t hI hy u q z x e
    have w := st5 y2 y3 y4 t u hI q
    obtain ⟨hB, hS, hz, h4, h5⟩ := hI
    have r := RB_e h1 w.1 e
    have kb := RB_k hB
    rw [py z] at hz
    have ea := r.2.1
    have ez := r.2.2.2.2
    refine ⟨⟨r.1, ?_, by omega, h4, by omega⟩, by omega⟩
    rw [w.2.2.2.2.2, r.2.1, r.2.2.1, r.2.2.2.1, emL_y z]
  · rintro y2 y3 y4 t ⟨hB, hS, hz, h4, h5⟩ hy u ⟨v1, q⟩
    have kb := RB_k hB
    refine k0 u ?_
    rw [kb.2.2.2.1, kb.2.2.2.2] at v1 q
    rw [hS, sumF_0 v1]
    exact RQ0_t hB q
  · rintro y2 y3 y4 t ⟨hB, hS, hz, h4, h5⟩ z
    have kb := RB_k hB
    rw [kb.1] at z ⊢
    refine ⟨⟨hB, k_lt (tmb z), ?_, by rw [py z]; omega, h4, h5⟩, by omega⟩
    rw [hS]; exact if_neg z
  · rintro y2 y3 y4 t ⟨hB, hS, hz, h4, h5⟩ z z3
    have kb := RB_k hB
    rw [kb.1] at z ⊢
    subst z3
    rw [pn] at hz
    refine ⟨⟨z, hB, ?_, by omega, h4, h5⟩, by omega⟩
    rw [hS]; unfold smA; rw [if_pos z, emL_n, List.append_nil]
  · rintro y2 y3 y4 t ⟨hB, hS, hz, h4, h5⟩ z z3
    have kb := RB_k hB
    rw [py z3] at hz
    have := hB.2.2.2.1
    omega
  · rintro y2 y3 y4 t ⟨hB, hS, hz, h4, h5⟩ z z3 u e
    have kb := RB_k hB
    have r := RB_e h1 hB e
    rw [kb.1] at z ⊢
    rw [py z3] at hz
    have ea := r.2.1
    have ez := r.2.2.2.2
    refine ⟨⟨z, r.1, ?_, by omega, h4, by omega⟩, by omega⟩
    rw [hS, r.2.1, r.2.2.1, r.2.2.2.1]; unfold smA; rw [if_pos z, emL_y z3]
  · rintro y2 y3 y4 t ⟨e2, hB, hS, hz, h4, h5⟩ z
    have kb := RB_k hB
    rw [kb.1] at z ⊢
    subst e2
    refine ⟨⟨hB, k_lt (psb z), ?_, by rw [py z, pn]; omega, h4, h5⟩, by omega⟩
    rw [hS]; exact if_neg z
  · rintro y2 y3 y4 t ⟨e2, hB, hS, hz, h4, h5⟩ z
    have kb := RB_k hB
    rw [kb.1] at z
    have e : smC s a1 = (0, aO t, t 5 1, cdL t a1) := by rw [hS]; exact if_pos z
    refine k1 t ?_
    rw [e]
    exact ⟨rfl, ⟨hB.1, hB.2.1, rfl, rfl, hB.2.2.2.1, hB.2.2.2.2⟩, ⟨by omega, by omega⟩, hB.2.2.1⟩
  · rintro y2 y3 y4 t ⟨hB, hn, hS, hz, h4, h5⟩
    exact ⟨(ts_400 hB.1.1).2.1, hB.1.1.1⟩
  · rintro y2 y3 y4 t ⟨hB, hn, hS, hz, h4, h5⟩ u q
    have kb := RB_k hB
    have r := RB_s h1 hB q
    have nb := nxA_b (s 2) kb.2.1
    have lt := nb.2.2 hn
    have ea := r.2.1
    have ez := r.2.2.2.2
    rw [w32_of (by omega)]
    refine ⟨⟨r.1, ?_, by omega, by omega, by omega⟩, by omega⟩
    rw [hS, r.2.1, r.2.2.1, r.2.2.2.1]
  · refine ⟨⟨⟨h.1, rfl, rfl, rfl⟩, h.2.1, h.2.2.1, h0, ⟨fun _ _ _ _ _ => rfl, fun _ _ => rfl, fun _ _ => rfl⟩⟩, rfl, ?_, Int.le_refl 0, by omega⟩
    rw [pn]; omega
