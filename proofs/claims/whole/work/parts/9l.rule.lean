/-! the reader of a RULE: its small parts -/
def cmC (k : Int) : Int := if k = 60 then 200005 else if k = 258 then 200006 else if k = 61 then 200007 else if k = 259 then 200008 else if k = 62 then 200009 else -1
def tmC (k : Int) : Int := if k = 42 then 200002 else if k = 47 then 200003 else if k = 37 then 200004 else -1
def psC (k : Int) : Int := if k = 43 then 200000 else if k = 45 then 200001 else -1
theorem v68 {X : (Nat → Int) × Nat} {d : Nat} {s : mSt} {Q : mQ} {x0 : Int}
  (z1 : x0 = 60 → Q (some (mI 200005)) s)
  (z2 : x0 = 61 → Q (some (mI 200007)) s)
  (z3 : x0 = 62 → Q (some (mI 200009)) s)
  (z4 : x0 = 258 → Q (some (mI 200006)) s)
  (z5 : x0 = 259 → Q (some (mI 200008)) s)
  (z6 : ¬ x0 = 60 → ¬ x0 = 61 → ¬ x0 = 62 → ¬ x0 = 258 → ¬ x0 = 259 → Q (some (mI (-1))) s) :
  Sp X d 68 [mI x0] s Q := e68 (b68_0 (fun q1 => b68_52 (z1 q1)) (fun q2 => b68_58 (z2 q2)) (fun q3 => b68_64 (z3 q3)) (fun q4 => b68_55 (z4 q4)) (fun q5 => b68_61 (z5 q5)) (fun q6 q7 q8 q9 q10 => b68_67 (z6 q6 q7 q8 q9 q10)))

theorem c68 {X : (Nat → Int) × Nat} {d : Nat} {s : mSt} {Q : mQ} {x0 : Int} (k : Q (some (mI (cmC x0))) s) : Sp X d 68 [mI x0] s Q := by
  unfold cmC at k
  refine v68 ?_ ?_ ?_ ?_ ?_ ?_
  · intro h; rw [if_pos h] at k; exact k
  · intro h; rw [if_neg (by omega), if_neg (by omega), if_pos h] at k; exact k
  · intro h; rw [if_neg (by omega), if_neg (by omega), if_neg (by omega), if_neg (by omega), if_pos h] at k; exact k
  · intro h; rw [if_neg (by omega), if_pos h] at k; exact k
  · intro h; rw [if_neg (by omega), if_neg (by omega), if_neg (by omega), if_pos h] at k; exact k
  · intro h1 h2 h3 h4 h5; rw [if_neg h1, if_neg h4, if_neg h2, if_neg h5, if_neg h3] at k; exact k
theorem v69 {X : (Nat → Int) × Nat} {d : Nat} {s : mSt} {Q : mQ} {x0 : Int}
  (z1 : ¬ x0 = 42 → ¬ x0 = 47 → ¬ x0 = 37 → Q (some (mI (-1))) s)
  (z2 : ¬ x0 = 42 → ¬ x0 = 47 → x0 = 37 → Q (some (mI 200004)) s)
  (z3 : ¬ x0 = 42 → x0 = 47 → Q (some (mI 200003)) s)
  (z4 : x0 = 42 → Q (some (mI 200002)) s) :
  Sp X d 69 [mI x0] s Q := e69 (b69_0 (fun q1 => b69_11 (fun q2 => b69_22 (fun q3 => b69_33 (b69_34 (z1 q1 q2 q3))) (fun q4 => b69_28 (b69_34 (z2 q1 q2 q4)))) (fun q5 => b69_17 (b69_34 (z3 q1 q5)))) (fun q6 => b69_6 (b69_34 (z4 q6))))

theorem c69 {X : (Nat → Int) × Nat} {d : Nat} {s : mSt} {Q : mQ} {x0 : Int} (k : Q (some (mI (tmC x0))) s) : Sp X d 69 [mI x0] s Q := by
  unfold tmC at k
  refine v69 ?_ ?_ ?_ ?_
  · intro h1 h2 h3; rw [if_neg h1, if_neg h2, if_neg h3] at k; exact k
  · intro h1 h2 h3; rw [if_neg h1, if_neg h2, if_pos h3] at k; exact k
  · intro h1 h2; rw [if_neg h1, if_pos h2] at k; exact k
  · intro h1; rw [if_pos h1] at k; exact k
theorem v70 {X : (Nat → Int) × Nat} {d : Nat} {s : mSt} {Q : mQ} {x0 : Int}
  (z1 : ¬ x0 = 43 → ¬ x0 = 45 → Q (some (mI (-1))) s)
  (z2 : ¬ x0 = 43 → x0 = 45 → Q (some (mI 200001)) s)
  (z3 : x0 = 43 → Q (some (mI 200000)) s) :
  Sp X d 70 [mI x0] s Q := e70 (b70_0 (fun q1 => b70_11 (fun q2 => b70_22 (b70_23 (z1 q1 q2))) (fun q3 => b70_17 (b70_23 (z2 q1 q3)))) (fun q4 => b70_6 (b70_23 (z3 q4))))

theorem c70 {X : (Nat → Int) × Nat} {d : Nat} {s : mSt} {Q : mQ} {x0 : Int} (k : Q (some (mI (psC x0))) s) : Sp X d 70 [mI x0] s Q := by
  unfold psC at k
  refine v70 ?_ ?_ ?_
  · intro h1 h2; rw [if_neg h1, if_neg h2] at k; exact k
  · intro h1 h2; rw [if_neg h1, if_pos h2] at k; exact k
  · intro h1; rw [if_pos h1] at k; exact k
theorem v71 {X : (Nat → Int) × Nat} {d : Nat} {s : mSt} {Q : mQ} {a0 : Nat} (h0 : isRl a0)
  (z1 : Q none (uS (uS s a0 1 0) a0 4 0)) :
  Sp X d 71 [mR a0] s Q := e71 (b71_0 h0 z1)

theorem c71 {X : (Nat → Int) × Nat} {d : Nat} {s : mSt} {Q : mQ} {a0 : Nat} (h0 : isRl a0) (k : ∀ t : mSt, (t = uS (uS s a0 1 0) a0 4 0) → Q none t) : Sp X d 71 [mR a0] s Q := by
  exact v71 h0 (k _ rfl)
theorem v72 {X : (Nat → Int) × Nat} {d : Nat} {s : mSt} {Q : mQ} {a0 : Nat} {x1 : Int} (h0 : isRl a0)
  (z1 : 400 ≤ (s a0 1) → Q none s)
  (z2 : ¬ 400 ≤ (s a0 1) → 0 ≤ (s a0 1) ∧ (s a0 1) < 400)
  (z3 : ¬ 400 ≤ (s a0 1) → Q none (uS (uS s (a0 + 1) ((s a0 1).toNat) x1) a0 1 (w32 (((uS s (a0 + 1) ((s a0 1).toNat) x1) a0 1) + 1)))) :
  Sp X d 72 [mR a0, mI x1] s Q := e72 (b72_0 h0 (fun q1 => b72_32 h0 (z1 q1)) (fun q2 => b72_12 h0 (z2 q2) (b72_32 h0 (z3 q2))))

theorem c72 {X : (Nat → Int) × Nat} {d : Nat} {s : mSt} {Q : mQ} {a0 : Nat} {x1 : Int} (h0 : isRl a0) (p1 : 0 ≤ s a0 1 ∧ s a0 1 < 400) (k : ∀ t : mSt, (t = uS (uS s (a0 + 1) (s a0 1).toNat x1) a0 1 (s a0 1 + 1)) → Q none t) : Sp X d 72 [mR a0, mI x1] s Q := by
  refine v72 h0 (fun z => by omega) (fun _ => p1) (fun _ => k _ ?_)
  rw [uS_cell (show a0 ≠ a0 + 1 by omega), w32_of (by omega)]
theorem v73 {X : (Nat → Int) × Nat} {d : Nat} {s : mSt} {Q : mQ} {a0 : Nat} {x1 : Int} (h0 : isRl a0)
  (z1 : 12 ≤ (s a0 4) → Q none s)
  (z2 : ¬ 12 ≤ (s a0 4) → 0 ≤ (s a0 4) ∧ (s a0 4) < 12)
  (z3 : ¬ 12 ≤ (s a0 4) → 0 ≤ ((uS s (a0 + 2) ((s a0 4).toNat) x1) a0 4) ∧ ((uS s (a0 + 2) ((s a0 4).toNat) x1) a0 4) < 12)
  (z4 : ¬ 12 ≤ (s a0 4) → Q none (uS (uS (uS s (a0 + 2) ((s a0 4).toNat) x1) (a0 + 3) (((uS s (a0 + 2) ((s a0 4).toNat) x1) a0 4).toNat) ((uS s (a0 + 2) ((s a0 4).toNat) x1) a0 1)) a0 4 (w32 (((uS (uS s (a0 + 2) ((s a0 4).toNat) x1) (a0 + 3) (((uS s (a0 + 2) ((s a0 4).toNat) x1) a0 4).toNat) ((uS s (a0 + 2) ((s a0 4).toNat) x1) a0 1)) a0 4) + 1)))) :
  Sp X d 73 [mR a0, mI x1] s Q := e73 (b73_0 h0 (fun q1 => b73_42 h0 (z1 q1)) (fun q2 => b73_9 h0 (z2 q2) (z3 q2) (b73_42 h0 (z4 q2))))

theorem c73 {X : (Nat → Int) × Nat} {d : Nat} {s : mSt} {Q : mQ} {a0 : Nat} {x1 : Int} (h0 : isRl a0) (p1 : 0 ≤ s a0 4 ∧ s a0 4 < 12) (k : ∀ t : mSt, (t = uS (uS (uS s (a0 + 2) (s a0 4).toNat x1) (a0 + 3) (s a0 4).toNat (s a0 1)) a0 4 (s a0 4 + 1)) → Q none t) : Sp X d 73 [mR a0, mI x1] s Q := by
  have e (x : Int) : (uS s (a0 + 2) ((s a0 4).toNat) x) a0 = s a0 := uS_cell (show a0 ≠ a0 + 2 by omega)
  refine v73 h0 (fun z => by omega) (fun _ => p1) (fun _ => by rw [e]; exact p1) (fun _ => k _ ?_)
  rw [e, uS_cell (show a0 ≠ a0 + 3 by omega), e, w32_of (by omega)]
/-- the code of a Rule -/
def cdL (s : mSt) (k : Nat) : List Int := (List.range (s k 1).toNat).map (s (k + 1))
theorem cdL_n (s : mSt) (k : Nat) : (cdL s k).length = (s k 1).toNat := by unfold cdL; rw [List.length_map, List.length_range]
theorem cdL_c {s t : mSt} {k : Nat} (h1 : t k 1 = s k 1) (h2 : t (k + 1) = s (k + 1)) : cdL t k = cdL s k := by unfold cdL; rw [h1, h2]
theorem cdL_e {s t : mSt} {k : Nat} {x : Int} (h : 0 ≤ s k 1) (e : t = uS (uS s (k + 1) (s k 1).toNat x) k 1 (s k 1 + 1)) : cdL t k = cdL s k ++ [x] ∧ t k 1 = s k 1 + 1 ∧ (∀ b, b ≠ k → b ≠ k + 1 → t b = s b) ∧ ∀ j, j ≠ 1 → t k j = s k j := by
  have e1 : t k 1 = s k 1 + 1 := by rw [e, uS_at, if_pos rfl]
  have e2 : ∀ i, t (k + 1) i = if i = (s k 1).toNat then x else s (k + 1) i := fun i => by rw [e, uS_cell (by omega), uS_at]
  refine ⟨?_, e1, fun b h1 h2 => by rw [e, uS_cell h1, uS_cell h2], fun j hj => by rw [e, uS_at, if_neg hj, uS_cell (by omega)]⟩
  unfold cdL
  rw [e1, show (s k 1 + 1).toNat = (s k 1).toNat + 1 by omega, List.range_succ, List.map_append]
  congr 1
  · refine List.map_congr_left (fun i hi => ?_)
    rw [List.mem_range] at hi
    rw [e2, if_neg (by omega)]
  · show [t (k + 1) (s k 1).toNat] = [x]
    rw [e2, if_pos rfl]
/-- what is wrong with a value here, and its item -/
def vfA (T : Nat → Int) (n a : Nat) (k : Int) : Int := if (0 ≤ wnA T n a ∧ wnA T n a < 11) ∨ nuA T n a 0 99999 = -1 then (if 60 ≤ k then 3 else -1) else nuA T n a 0 99999
def itA (T : Nat → Int) (n a : Nat) : Int := if 0 ≤ wnA T n a ∧ wnA T n a < 11 then 100000 + wnA T n a else vA T n a
def fRl (s t : mSt) (k : Nat) : Prop := (∀ b, b ≠ 1 → b ≠ 5 → b ≠ k → b ≠ k + 1 → t b = s b) ∧ (∀ j, j ≠ 1 → t k j = s k j) ∧ ∀ j, j ≠ 1 → t 5 j = s 5 j
theorem fRl_t {s t u : mSt} {k : Nat} (h1 : fRl s t k) (h2 : fRl t u k) : fRl s u k := ⟨fun b a1 a2 a3 a4 => (h2.1 b a1 a2 a3 a4).trans (h1.1 b a1 a2 a3 a4), fun j hj => (h2.2.1 j hj).trans (h1.2.1 j hj), fun j hj => (h2.2.2 j hj).trans (h1.2.2 j hj)⟩
def RQ1 (s t : mSt) (k a : Nat) (c : Int) (L : List Int) : Prop := TSa s t a ∧ t 1 6 = 0 ∧ t 5 1 = c ∧ cdL t k = L ∧ 0 ≤ t k 1 ∧ fRl s t k
def RQ0 (s t : mSt) (k : Nat) (f : Int) : Prop := t 1 6 = f ∧ 0 < f ∧ t 1 1 = s 1 1 ∧ fRl s t k
def RIq (s : mSt) (k : Nat) : Prop := TSq s ∧ s 1 6 = 0 ∧ (0 ≤ s 5 1 ∧ s 5 1 ≤ 60) ∧ 0 ≤ s k 1
theorem rl_8 {a : Nat} (h : isRl a) : 83 ≤ a := (rl_b h).1
theorem v83 {X : (Nat → Int) × Nat} {d : Nat} {s : mSt} {Q : mQ} {a1 : Nat} (h1 : isRl a1)
  (z1 : 0 ≤ s 1 3 ∧ s 1 3 ≤ s 1 4 ∧ s 1 4 ≤ 400)
  (z2 : (wnC s) < 0 → 0 ≤ s 1 3 ∧ s 1 3 ≤ s 1 4 ∧ s 1 4 ≤ 400)
  (z3 : (wnC s) < 0 → (nfC s (0 : Int) (99999 : Int)) = (-1) → (s 5 1) < 60 → ∀ t4 : mSt, t4 = uS s 5 1 (w32 ((s 5 1) + 1)) → 0 ≤ t4 a1 1 ∧ t4 a1 1 < 400)
  (z4 : (wnC s) < 0 → (nfC s (0 : Int) (99999 : Int)) = (-1) → (s 5 1) < 60 → ∀ t4 : mSt, t4 = uS s 5 1 (w32 ((s 5 1) + 1)) → ∀ s5 : mSt, s5 = uS (uS t4 (a1 + 1) (t4 a1 1).toNat (t4 1 5)) a1 1 (t4 a1 1 + 1) → (0 ≤ s5 1 4 ∧ s5 1 4 ≤ s5 1 1 ∧ s5 1 1 ≤ 400) ∧ BYq s5)
  (z5 : (wnC s) < 0 → (nfC s (0 : Int) (99999 : Int)) = (-1) → (s 5 1) < 60 → ∀ t4 : mSt, t4 = uS s 5 1 (w32 ((s 5 1) + 1)) → ∀ s5 : mSt, s5 = uS (uS t4 (a1 + 1) (t4 a1 1).toNat (t4 1 5)) a1 1 (t4 a1 1 + 1) → ∀ s6 : mSt, (TKq (s5 2) (s5 1 1).toNat (sk (s5 2) (s5 1 1).toNat (s5 1 4).toNat) s6 ∧ f1 s5 s6) → Q (some (mI 1)) s6)
  (z6 : (wnC s) < 0 → (nfC s (0 : Int) (99999 : Int)) = (-1) → ¬ (s 5 1) < 60 → (0 ≤ s 1 3 ∧ s 1 3 ≤ 400) ∧ (0 ≤ (3 : Int) ∧ (3 : Int) ≤ 4))
  (z7 : (wnC s) < 0 → (nfC s (0 : Int) (99999 : Int)) = (-1) → ¬ (s 5 1) < 60 → ∀ v8 : Int, ∀ s8 : mSt, (v8 = 0 ∧ s8 = flC s (3 : Int)) → Q (some (mI v8)) s8)
  (z8 : (wnC s) < 0 → (nfC s (0 : Int) (99999 : Int)) = (-1) → ¬ (s 5 1) < 60 → ∀ v8 : Int, ∀ s8 : mSt, (v8 = 0 ∧ s8 = flC s (3 : Int)) → v8 = 0 ∨ v8 = 1)
  (z9 : (wnC s) < 0 → ¬ (nfC s (0 : Int) (99999 : Int)) = (-1) → (0 ≤ s 1 3 ∧ s 1 3 ≤ 400) ∧ (0 ≤ (nfC s (0 : Int) (99999 : Int)) ∧ (nfC s (0 : Int) (99999 : Int)) ≤ 4))
  (z10 : (wnC s) < 0 → ¬ (nfC s (0 : Int) (99999 : Int)) = (-1) → ∀ v10 : Int, ∀ s10 : mSt, (v10 = 0 ∧ s10 = flC s (nfC s (0 : Int) (99999 : Int))) → Q (some (mI v10)) s10)
  (z11 : (wnC s) < 0 → ¬ (nfC s (0 : Int) (99999 : Int)) = (-1) → ∀ v10 : Int, ∀ s10 : mSt, (v10 = 0 ∧ s10 = flC s (nfC s (0 : Int) (99999 : Int))) → v10 = 0 ∨ v10 = 1)
  (z12 : ¬ (wnC s) < 0 → 11 ≤ (wnC s) → 0 ≤ s 1 3 ∧ s 1 3 ≤ s 1 4 ∧ s 1 4 ≤ 400)
  (z13 : ¬ (wnC s) < 0 → 11 ≤ (wnC s) → (nfC s (0 : Int) (99999 : Int)) = (-1) → (s 5 1) < 60 → ∀ t15 : mSt, t15 = uS s 5 1 (w32 ((s 5 1) + 1)) → 0 ≤ t15 a1 1 ∧ t15 a1 1 < 400)
  (z14 : ¬ (wnC s) < 0 → 11 ≤ (wnC s) → (nfC s (0 : Int) (99999 : Int)) = (-1) → (s 5 1) < 60 → ∀ t15 : mSt, t15 = uS s 5 1 (w32 ((s 5 1) + 1)) → ∀ s16 : mSt, s16 = uS (uS t15 (a1 + 1) (t15 a1 1).toNat (t15 1 5)) a1 1 (t15 a1 1 + 1) → (0 ≤ s16 1 4 ∧ s16 1 4 ≤ s16 1 1 ∧ s16 1 1 ≤ 400) ∧ BYq s16)
  (z15 : ¬ (wnC s) < 0 → 11 ≤ (wnC s) → (nfC s (0 : Int) (99999 : Int)) = (-1) → (s 5 1) < 60 → ∀ t15 : mSt, t15 = uS s 5 1 (w32 ((s 5 1) + 1)) → ∀ s16 : mSt, s16 = uS (uS t15 (a1 + 1) (t15 a1 1).toNat (t15 1 5)) a1 1 (t15 a1 1 + 1) → ∀ s17 : mSt, (TKq (s16 2) (s16 1 1).toNat (sk (s16 2) (s16 1 1).toNat (s16 1 4).toNat) s17 ∧ f1 s16 s17) → Q (some (mI 1)) s17)
  (z16 : ¬ (wnC s) < 0 → 11 ≤ (wnC s) → (nfC s (0 : Int) (99999 : Int)) = (-1) → ¬ (s 5 1) < 60 → (0 ≤ s 1 3 ∧ s 1 3 ≤ 400) ∧ (0 ≤ (3 : Int) ∧ (3 : Int) ≤ 4))
  (z17 : ¬ (wnC s) < 0 → 11 ≤ (wnC s) → (nfC s (0 : Int) (99999 : Int)) = (-1) → ¬ (s 5 1) < 60 → ∀ v19 : Int, ∀ s19 : mSt, (v19 = 0 ∧ s19 = flC s (3 : Int)) → Q (some (mI v19)) s19)
  (z18 : ¬ (wnC s) < 0 → 11 ≤ (wnC s) → (nfC s (0 : Int) (99999 : Int)) = (-1) → ¬ (s 5 1) < 60 → ∀ v19 : Int, ∀ s19 : mSt, (v19 = 0 ∧ s19 = flC s (3 : Int)) → v19 = 0 ∨ v19 = 1)
  (z19 : ¬ (wnC s) < 0 → 11 ≤ (wnC s) → ¬ (nfC s (0 : Int) (99999 : Int)) = (-1) → (0 ≤ s 1 3 ∧ s 1 3 ≤ 400) ∧ (0 ≤ (nfC s (0 : Int) (99999 : Int)) ∧ (nfC s (0 : Int) (99999 : Int)) ≤ 4))
  (z20 : ¬ (wnC s) < 0 → 11 ≤ (wnC s) → ¬ (nfC s (0 : Int) (99999 : Int)) = (-1) → ∀ v21 : Int, ∀ s21 : mSt, (v21 = 0 ∧ s21 = flC s (nfC s (0 : Int) (99999 : Int))) → Q (some (mI v21)) s21)
  (z21 : ¬ (wnC s) < 0 → 11 ≤ (wnC s) → ¬ (nfC s (0 : Int) (99999 : Int)) = (-1) → ∀ v21 : Int, ∀ s21 : mSt, (v21 = 0 ∧ s21 = flC s (nfC s (0 : Int) (99999 : Int))) → v21 = 0 ∨ v21 = 1)
  (z22 : ¬ (wnC s) < 0 → ¬ 11 ≤ (wnC s) → (s 5 1) < 60 → ∀ t24 : mSt, t24 = uS s 5 1 (w32 ((s 5 1) + 1)) → 0 ≤ t24 a1 1 ∧ t24 a1 1 < 400)
  (z23 : ¬ (wnC s) < 0 → ¬ 11 ≤ (wnC s) → (s 5 1) < 60 → ∀ t24 : mSt, t24 = uS s 5 1 (w32 ((s 5 1) + 1)) → ∀ s25 : mSt, s25 = uS (uS t24 (a1 + 1) (t24 a1 1).toNat (w32 (100000 + (wnC s)))) a1 1 (t24 a1 1 + 1) → (0 ≤ s25 1 4 ∧ s25 1 4 ≤ s25 1 1 ∧ s25 1 1 ≤ 400) ∧ BYq s25)
  (z24 : ¬ (wnC s) < 0 → ¬ 11 ≤ (wnC s) → (s 5 1) < 60 → ∀ t24 : mSt, t24 = uS s 5 1 (w32 ((s 5 1) + 1)) → ∀ s25 : mSt, s25 = uS (uS t24 (a1 + 1) (t24 a1 1).toNat (w32 (100000 + (wnC s)))) a1 1 (t24 a1 1 + 1) → ∀ s26 : mSt, (TKq (s25 2) (s25 1 1).toNat (sk (s25 2) (s25 1 1).toNat (s25 1 4).toNat) s26 ∧ f1 s25 s26) → Q (some (mI 1)) s26)
  (z25 : ¬ (wnC s) < 0 → ¬ 11 ≤ (wnC s) → ¬ (s 5 1) < 60 → (0 ≤ s 1 3 ∧ s 1 3 ≤ 400) ∧ (0 ≤ (3 : Int) ∧ (3 : Int) ≤ 4))
  (z26 : ¬ (wnC s) < 0 → ¬ 11 ≤ (wnC s) → ¬ (s 5 1) < 60 → ∀ v28 : Int, ∀ s28 : mSt, (v28 = 0 ∧ s28 = flC s (3 : Int)) → Q (some (mI v28)) s28)
  (z27 : ¬ (wnC s) < 0 → ¬ 11 ≤ (wnC s) → ¬ (s 5 1) < 60 → ∀ v28 : Int, ∀ s28 : mSt, (v28 = 0 ∧ s28 = flC s (3 : Int)) → v28 = 0 ∨ v28 = 1) :
  Sp X (d + 6) 83 [mR 5, mR a1] s Q := e83 (b83_0 h1 (c91 z1 ⟨_, rfl, b83_7 h1 (fun q1 => b83_22 h1 (b83_23 h1 (fun _ => b83_32 h1 (c95 (z2 q1) ⟨_, rfl, b83_42 h1 (fun q2 => b83_60 h1 (fun q3 => b83_78 h1 (fun _ => Wp_gen (fun t4 e4 => b83_100 h1 h1 (b83_107 h1 h1 (c72 h1 (z3 q1 q2 q3 t4 e4) (fun s5 q5 => ⟨rfl, b83_110 h1 (c90 (z4 q1 q2 q3 t4 e4 s5 q5) (fun s6 q6 => ⟨rfl, b83_117 h1 (z5 q1 q2 q3 t4 e4 s5 q5 s6 q6)⟩))⟩))))) (fun q => absurd q (by decide))) (fun q7 => b83_69 h1 (c94 (z6 q1 q2 q7) (fun v8 s8 q8 => ⟨v8, rfl, b83_77 h1 (z7 q1 q2 q7 v8 s8 q8) (z8 q1 q2 q7 v8 s8 q8)⟩)))) (fun q9 => b83_50 h1 (c94 (z9 q1 q9) (fun v10 s10 q10 => ⟨v10, rfl, b83_59 h1 (z10 q1 q9 v10 s10 q10) (z11 q1 q9 v10 s10 q10)⟩)))⟩)) (fun q => absurd q (by decide)))) (fun q11 => b83_12 h1 (fun q12 => b83_22 h1 (b83_23 h1 (fun _ => b83_32 h1 (c95 (z12 q11 q12) ⟨_, rfl, b83_42 h1 (fun q13 => b83_60 h1 (fun q14 => b83_78 h1 (fun _ => Wp_gen (fun t15 e15 => b83_100 h1 h1 (b83_107 h1 h1 (c72 h1 (z13 q11 q12 q13 q14 t15 e15) (fun s16 q16 => ⟨rfl, b83_110 h1 (c90 (z14 q11 q12 q13 q14 t15 e15 s16 q16) (fun s17 q17 => ⟨rfl, b83_117 h1 (z15 q11 q12 q13 q14 t15 e15 s16 q16 s17 q17)⟩))⟩))))) (fun q => absurd q (by decide))) (fun q18 => b83_69 h1 (c94 (z16 q11 q12 q13 q18) (fun v19 s19 q19 => ⟨v19, rfl, b83_77 h1 (z17 q11 q12 q13 q18 v19 s19 q19) (z18 q11 q12 q13 q18 v19 s19 q19)⟩)))) (fun q20 => b83_50 h1 (c94 (z19 q11 q12 q20) (fun v21 s21 q21 => ⟨v21, rfl, b83_59 h1 (z20 q11 q12 q20 v21 s21 q21) (z21 q11 q12 q20 v21 s21 q21)⟩)))⟩)) (fun q => absurd q (by decide)))) (fun q22 => b83_18 h1 (b83_23 h1 (fun q => absurd q (by decide)) (fun _ => b83_28 h1 (b83_42 h1 (fun _ => b83_60 h1 (fun q23 => b83_78 h1 (fun q => absurd q (by decide)) (fun _ => Wp_gen (fun t24 e24 => b83_93 h1 h1 (b83_107 h1 h1 (c72 h1 (z22 q11 q22 q23 t24 e24) (fun s25 q25 => ⟨rfl, b83_110 h1 (c90 (z23 q11 q22 q23 t24 e24 s25 q25) (fun s26 q26 => ⟨rfl, b83_117 h1 (z24 q11 q22 q23 t24 e24 s25 q25 s26 q26)⟩))⟩)))))) (fun q27 => b83_69 h1 (c94 (z25 q11 q22 q27) (fun v28 s28 q28 => ⟨v28, rfl, b83_77 h1 (z26 q11 q22 q27 v28 s28 q28) (z27 q11 q22 q27 v28 s28 q28)⟩)))) (fun q => absurd q (by decide)))))))⟩))

theorem emit_s {s t u : mSt} {k : Nat} {x : Int} (hk : isRl k) (h : RIq s k) (h5 : s 5 1 < 60) (e : t = uS s 5 1 (w32 (s 5 1 + 1))) (e2 : u = uS (uS t (k + 1) (t k 1).toNat x) k 1 (t k 1 + 1)) : u 1 = s 1 ∧ u 2 = s 2 ∧ TSq u ∧ u 5 1 = s 5 1 + 1 ∧ cdL u k = cdL s k ++ [x] ∧ u k 1 = s k 1 + 1 ∧ fRl s u k := by
  have l := rl_8 hk
  have w : w32 (s 5 1 + 1) = s 5 1 + 1 := w32_of (by have := h.2.2.1; omega)
  rw [w] at e
  have tk : t k = s k := by rw [e, uS_cell (by omega)]
  have tk1 : t (k + 1) = s (k + 1) := by rw [e, uS_cell (by omega)]
  have q := cdL_e (s := t) (t := u) (k := k) (x := x) (by rw [tk]; exact h.2.2.2) e2
  have u1 : u 1 = s 1 := by rw [q.2.2.1 1 (by omega) (by omega), e, uS_cell (by decide)]
  have u2 : u 2 = s 2 := by rw [q.2.2.1 2 (by omega) (by omega), e, uS_cell (by decide)]
  have u5 : u 5 = t 5 := q.2.2.1 5 (by omega) (by omega)
  refine ⟨u1, u2, (TSa_c (s := s) (t := s) (a := aO s) ⟨h.1, rfl, rfl, rfl⟩ u1 u2).1, by rw [u5, e, uS_at, if_pos rfl], by rw [q.1, cdL_c (by rw [tk]) tk1], by rw [q.2.1, tk], ?_, ?_, ?_⟩
  · intro b a1 a2 a3 a4
    rw [q.2.2.1 b a3 a4, e, uS_cell a2]
  · intro j hj
    rw [q.2.2.2 j hj, tk]
  · intro j hj
    rw [u5, e, uS_at, if_neg hj]
theorem f1_Rl {s t : mSt} {k : Nat} (hk : isRl k) (h : f1 s t) : fRl s t k ∧ cdL t k = cdL s k ∧ t k = s k ∧ t 5 = s 5 := by
  have l := rl_8 hk
  have e1 := h.1 k (by omega)
  have e2 := h.1 (k + 1) (by omega)
  have e5 := h.1 5 (by omega)
  exact ⟨⟨fun b a1 _ _ _ => h.1 b a1, fun j _ => by rw [e1], fun j _ => by rw [e5]⟩, cdL_c (by rw [e1]) e2, e1, e5⟩
theorem scan_s {s u v : mSt} {k : Nat} (hk : isRl k) (z : s 1 6 = 0) (u1 : u 1 = s 1) (u2 : u 2 = s 2) (h : TSq u) (q : TKq (u 2) (u 1 1).toNat (sk (u 2) (u 1 1).toNat (u 1 4).toNat) v ∧ f1 u v) : TSa s v (nxA (s 2) (nO s) (aO s)) ∧ v 1 6 = 0 := by
  have w := ts_scan h q
  have n1 : nO u = nO s := by unfold nO; rw [u1]
  have n2 : aO u = aO s := by unfold aO; rw [u1]
  rw [u2, n1, n2] at w
  obtain ⟨⟨w1, w2, w3, w4⟩, w5⟩ := w
  exact ⟨⟨w1, w2.trans u2, by rw [w3, u1], w4⟩, by rw [w5, u1]; exact z⟩
theorem fl_0 {s t : mSt} {k : Nat} {x : Int} (hk : isRl k) (h : TSq s) (z : s 1 6 = 0) (hx : 0 ≤ x) (e : t = flC s x) : RQ0 s t k (fuA (aO s) x) := by
  have l := rl_8 hk
  rw [flC_z h z] at e
  refine ⟨by rw [e, uS_at, if_pos rfl], by unfold fuA; omega, by rw [e, uS_at, if_neg (by decide)], fun b a1 _ _ _ => by rw [e, uS_cell a1], fun j _ => by rw [e, uS_cell (by omega)], fun j _ => by rw [e, uS_cell (by omega)]⟩
theorem c83 {X : (Nat → Int) × Nat} {d : Nat} {s : mSt} {Q : mQ} {a1 : Nat} (h1 : isRl a1) (p1 : RIq s a1 ∧ s a1 1 ≤ (aO s : Int)) (k1 : ∀ t : mSt, (vfA (s 2) (nO s) (aO s) (s 5 1) = -1 ∧ RQ1 s t a1 (nxA (s 2) (nO s) (aO s)) (s 5 1 + 1) (cdL s a1 ++ [itA (s 2) (nO s) (aO s)]) ∧ aO s < nO s) → Q (some (mI 1)) t) (k0 : ∀ t : mSt, (¬ vfA (s 2) (nO s) (aO s) (s 5 1) = -1 ∧ RQ0 s t a1 (fuA (aO s) (vfA (s 2) (nO s) (aO s) (s 5 1)))) → Q (some (mI 0)) t) : Sp X (d + 6) 83 [mR 5, mR a1] s Q := by
  obtain ⟨h, hs⟩ := p1
  have b := ts_400 h.1
  have tb := ts_b h.1
  have ew := wnC_A h.1
  have en := nfC_A h.1 0 99999
  have nb := nuA_b (s 2) (nO s) (aO s) 0 99999
  have l := rl_8 h1
  have ke : ∀ {a : Nat}, nO s ≤ a → tkK (s 2) (nO s) a = -1 := fun ha => if_pos ha
  have lo : (0 ≤ wnA (s 2) (nO s) (aO s) ∧ wnA (s 2) (nO s) (aO s) < 11) ∨ nuA (s 2) (nO s) (aO s) 0 99999 = -1 → aO s < nO s := fun w => by
    by_cases y : aO s < nO s
    · exact y
    · exfalso
      have k0 := ke (a := aO s) (by omega)
      rcases w with w | w
      · unfold wnA at w; rw [k0, if_neg (by decide)] at w; omega
      · unfold nuA at w; rw [k0, if_neg (by decide)] at w; omega
  have sz : ∀ (P : (0 ≤ wnA (s 2) (nO s) (aO s) ∧ wnA (s 2) (nO s) (aO s) < 11) ∨ nuA (s 2) (nO s) (aO s) 0 99999 = -1) (t : mSt), t = uS s 5 1 (w32 (s 5 1 + 1)) → 0 ≤ t a1 1 ∧ t a1 1 < 400 := fun P t e => by
    have := lo P
    have := h.2.2.2
    rw [e, uS_cell (by omega)]; omega
  have vk : ((0 ≤ wnA (s 2) (nO s) (aO s) ∧ wnA (s 2) (nO s) (aO s) < 11) ∨ nuA (s 2) (nO s) (aO s) 0 99999 = -1) → s 5 1 < 60 → vfA (s 2) (nO s) (aO s) (s 5 1) = -1 := fun w y => by
    unfold vfA; rw [if_pos w, if_neg (by omega)]
  have v3 : ((0 ≤ wnA (s 2) (nO s) (aO s) ∧ wnA (s 2) (nO s) (aO s) < 11) ∨ nuA (s 2) (nO s) (aO s) 0 99999 = -1) → ¬ s 5 1 < 60 → vfA (s 2) (nO s) (aO s) (s 5 1) = 3 := fun w y => by
    unfold vfA; rw [if_pos w, if_pos (by omega)]
  have vn : ¬ (0 ≤ wnA (s 2) (nO s) (aO s) ∧ wnA (s 2) (nO s) (aO s) < 11) → ¬ nuA (s 2) (nO s) (aO s) 0 99999 = -1 → vfA (s 2) (nO s) (aO s) (s 5 1) = nuA (s 2) (nO s) (aO s) 0 99999 := fun w y => by
    unfold vfA; rw [if_neg (fun x => by rcases x with x | x; exact w x; exact y x)]
  have ok : ∀ (x : Int) (t u v : mSt), ((0 ≤ wnA (s 2) (nO s) (aO s) ∧ wnA (s 2) (nO s) (aO s) < 11) ∨ nuA (s 2) (nO s) (aO s) 0 99999 = -1) → s 5 1 < 60 → x = itA (s 2) (nO s) (aO s) → t = uS s 5 1 (w32 (s 5 1 + 1)) → u = uS (uS t (a1 + 1) (t a1 1).toNat x) a1 1 (t a1 1 + 1) → TKq (u 2) (u 1 1).toNat (sk (u 2) (u 1 1).toNat (u 1 4).toNat) v ∧ f1 u v → Q (some (mI 1)) v := fun x t u v hP h5 hx e e2 q => by
    have a := emit_s h1 h h5 e e2
    have c := scan_s h1 h.2.1 a.1 a.2.1 a.2.2.1 q
    have f := f1_Rl h1 q.2
    refine k1 v ⟨vk hP h5, ⟨c.1, c.2, by rw [f.2.2.2]; exact a.2.2.2.1, by rw [f.2.1, a.2.2.2.2.1, hx], ?_, fRl_t a.2.2.2.2.2.2 f.1⟩, lo hP⟩
    rw [f.2.2.1, a.2.2.2.2.2.1]
    have := h.2.2.2
    omega
  have sc : ∀ (x : Int) (t u : mSt), s 5 1 < 60 → t = uS s 5 1 (w32 (s 5 1 + 1)) → u = uS (uS t (a1 + 1) (t a1 1).toNat x) a1 1 (t a1 1 + 1) → (0 ≤ u 1 4 ∧ u 1 4 ≤ u 1 1 ∧ u 1 1 ≤ 400) ∧ BYq u := fun x t u h5 e e2 => by
    have a := emit_s h1 h h5 e e2
    exact ⟨(ts_400 a.2.2.1).2.1, a.2.2.1.1⟩
  have e15 : ∀ t : mSt, t = uS s 5 1 (w32 (s 5 1 + 1)) → t 1 5 = s 1 5 := fun t e => by rw [e, uS_cell (by decide)]
  have iv : ¬ (0 ≤ wnA (s 2) (nO s) (aO s) ∧ wnA (s 2) (nO s) (aO s) < 11) → nuA (s 2) (nO s) (aO s) 0 99999 = -1 → s 1 5 = itA (s 2) (nO s) (aO s) := fun w y => by
    unfold itA; rw [if_neg w]; exact en.2 y
  have iw : (0 ≤ wnA (s 2) (nO s) (aO s) ∧ wnA (s 2) (nO s) (aO s) < 11) → w32 (100000 + wnA (s 2) (nO s) (aO s)) = itA (s 2) (nO s) (aO s) := fun w => by
    unfold itA; rw [if_pos w, w32_of (by omega)]
  have N1 : nfC s 0 99999 = -1 → nuA (s 2) (nO s) (aO s) 0 99999 = -1 := fun n => by rw [← en.1]; exact n
  have W1 : wnC s < 0 → ¬ (0 ≤ wnA (s 2) (nO s) (aO s) ∧ wnA (s 2) (nO s) (aO s) < 11) := fun w => by rw [ew] at w; omega
  have W2 : 11 ≤ wnC s → ¬ (0 ≤ wnA (s 2) (nO s) (aO s) ∧ wnA (s 2) (nO s) (aO s) < 11) := fun w => by rw [ew] at w; omega
  have W3 : ¬ wnC s < 0 → ¬ 11 ≤ wnC s → (0 ≤ wnA (s 2) (nO s) (aO s) ∧ wnA (s 2) (nO s) (aO s) < 11) := fun w w2 => by rw [ew] at w w2; omega
  refine v83 h1 b.1 ?_ ?_ ?_ ?_ ?_ ?_ ?_ ?_ ?_ ?_ ?_ ?_ ?_ ?_ ?_ ?_ ?_ ?_ ?_ ?_ ?_ ?_ ?_ ?_ ?_ ?_
  · intro w; exact b.1
  · intro w n h5 t e; exact sz (Or.inr (N1 n)) t e
  · intro w n h5 t e u e2; exact sc _ t u h5 e e2
  · intro w n h5 t e u e2 v q; exact ok _ t u v (Or.inr (N1 n)) h5 (by rw [e15 t e]; exact iv (W1 w) (N1 n)) e e2 q
  · intro w n h5; exact ⟨b.2.2, by decide⟩
  · rintro w n h5 v u ⟨ev, e⟩; rw [ev]; exact k0 u ⟨by rw [v3 (Or.inr (N1 n)) h5]; decide, by rw [v3 (Or.inr (N1 n)) h5]; exact fl_0 h1 h.1 h.2.1 (by decide) e⟩
  · rintro w n h5 v u ⟨ev, e⟩; exact Or.inl ev
  · intro w n; rw [en.1] at n ⊢; exact ⟨b.2.2, by omega⟩
  · rintro w n v u ⟨ev, e⟩; rw [en.1] at n e; rw [ev]; exact k0 u ⟨by rw [vn (W1 w) n]; exact n, by rw [vn (W1 w) n]; exact fl_0 h1 h.1 h.2.1 (by omega) e⟩
  · rintro w n v u ⟨ev, e⟩; exact Or.inl ev
  · intro w w2; exact b.1
  · intro w w2 n h5 t e; exact sz (Or.inr (N1 n)) t e
  · intro w w2 n h5 t e u e2; exact sc _ t u h5 e e2
  · intro w w2 n h5 t e u e2 v q; exact ok _ t u v (Or.inr (N1 n)) h5 (by rw [e15 t e]; exact iv (W2 w2) (N1 n)) e e2 q
  · intro w w2 n h5; exact ⟨b.2.2, by decide⟩
  · rintro w w2 n h5 v u ⟨ev, e⟩; rw [ev]; exact k0 u ⟨by rw [v3 (Or.inr (N1 n)) h5]; decide, by rw [v3 (Or.inr (N1 n)) h5]; exact fl_0 h1 h.1 h.2.1 (by decide) e⟩
  · rintro w w2 n h5 v u ⟨ev, e⟩; exact Or.inl ev
  · intro w w2 n; rw [en.1] at n ⊢; exact ⟨b.2.2, by omega⟩
  · rintro w w2 n v u ⟨ev, e⟩; rw [en.1] at n e; rw [ev]; exact k0 u ⟨by rw [vn (W2 w2) n]; exact n, by rw [vn (W2 w2) n]; exact fl_0 h1 h.1 h.2.1 (by omega) e⟩
  · rintro w w2 n v u ⟨ev, e⟩; exact Or.inl ev
  · intro w w2 h5 t e; exact sz (Or.inl (W3 w w2)) t e
  · intro w w2 h5 t e u e2; exact sc _ t u h5 e e2
  · intro w w2 h5 t e u e2 v q; exact ok _ t u v (Or.inl (W3 w w2)) h5 (by rw [ew]; exact iw (W3 w w2)) e e2 q
  · intro w w2 h5; exact ⟨b.2.2, by decide⟩
  · rintro w w2 h5 v u ⟨ev, e⟩; rw [ev]; exact k0 u ⟨by rw [v3 (Or.inl (W3 w w2)) h5]; decide, by rw [v3 (Or.inl (W3 w w2)) h5]; exact fl_0 h1 h.1 h.2.1 (by decide) e⟩
  · rintro w w2 h5 v u ⟨ev, e⟩; exact Or.inl ev
