/-! the reference's search: one order, all orders -/
theorem v242 {X : (Nat → Int) × Nat} {d : Nat} {s : mSt} {Q : mQ}
  (z1 : ¬ (s 407 32) = 1 → (s 407 33) = (s 407 29) → (s 407 34) = (s 407 30) → (s 407 31) ≤ (s 407 35) → Q (some (mI 0)) s)
  (z2 : ¬ (s 407 32) = 1 → (s 407 33) = (s 407 29) → (s 407 34) = (s 407 30) → ¬ (s 407 31) ≤ (s 407 35) → Q (some (mI 1)) s)
  (z3 : ¬ (s 407 32) = 1 → (s 407 33) = (s 407 29) → ¬ (s 407 34) = (s 407 30) → (s 407 30) ≤ (s 407 34) → Q (some (mI 0)) s)
  (z4 : ¬ (s 407 32) = 1 → (s 407 33) = (s 407 29) → ¬ (s 407 34) = (s 407 30) → ¬ (s 407 30) ≤ (s 407 34) → Q (some (mI 1)) s)
  (z5 : ¬ (s 407 32) = 1 → ¬ (s 407 33) = (s 407 29) → (s 407 29) ≤ (s 407 33) → Q (some (mI 0)) s)
  (z6 : ¬ (s 407 32) = 1 → ¬ (s 407 33) = (s 407 29) → ¬ (s 407 29) ≤ (s 407 33) → Q (some (mI 1)) s)
  (z7 : (s 407 32) = 1 → Q (some (mI 1)) s) :
  Sp X d 242 [mR 407] s Q := e242 (b242_0 (fun q1 => b242_10 (fun q2 => b242_38 (fun q3 => b242_68 (fun q4 => b242_83 (b242_84 (z1 q1 q2 q3 q4) (Or.inl rfl))) (fun q5 => b242_79 (b242_84 (z2 q1 q2 q3 q5) (Or.inr rfl)))) (fun q6 => b242_49 (fun q7 => b242_64 (b242_84 (z3 q1 q2 q6 q7) (Or.inl rfl))) (fun q8 => b242_60 (b242_84 (z4 q1 q2 q6 q8) (Or.inr rfl))))) (fun q9 => b242_21 (fun q10 => b242_36 (b242_37 (z5 q1 q9 q10) (Or.inl rfl))) (fun q11 => b242_32 (b242_37 (z6 q1 q9 q11) (Or.inr rfl))))) (fun q12 => b242_8 (z7 q12)))

theorem c242 {X : (Nat → Int) × Nat} {d : Nat} {s : mSt} {Q : mQ} (k1 : (s 407 32 = 1 ∨ (s 407 33 < s 407 29 ∨ (s 407 33 = s 407 29 ∧ (s 407 34 < s 407 30 ∨ (s 407 34 = s 407 30 ∧ s 407 35 < s 407 31))))) → Q (some (mI 1)) s) (k0 : ¬ (s 407 32 = 1 ∨ (s 407 33 < s 407 29 ∨ (s 407 33 = s 407 29 ∧ (s 407 34 < s 407 30 ∨ (s 407 34 = s 407 30 ∧ s 407 35 < s 407 31))))) → Q (some (mI 0)) s) : Sp X d 242 [mR 407] s Q := by
  refine v242 ?_ ?_ ?_ ?_ ?_ ?_ ?_
  all_goals intros
  all_goals first | (apply k1; omega) | (apply k0; omega)
def oP (s : mSt) (i : Nat) : List Nat := (List.range i).map (fun j => (s 420 j).toNat)
theorem oP_s (s : mSt) (i : Nat) : oP s (i + 1) = oP s i ++ [(s 420 i).toNat] := by unfold oP; rw [List.range_succ, List.map_append]; rfl
theorem oP_mem {s : mSt} {i p : Nat} : p ∈ oP s i ↔ ∃ j, j < i ∧ (s 420 j).toNat = p := by
  unfold oP; simp
theorem pf_snoc {a : Rw} {c : Nat} (o : List Nat) (p : Nat) : ∀ st : St, pf a c (o ++ [p]) st = match pf a c o st with
    | none => none
    | some q => if lsA a c p q.1 q.2.1 q.2.2.1 < 0 then none else some (nxS a c p q) := by
  induction o with
  | nil =>
    intro st
    rw [List.nil_append, pf, pf, pf]
  | cons r o ih =>
    intro st
    rw [List.cons_append, pf, pf]
    by_cases h : lsA a c r st.1 st.2.1 st.2.2.1 < 0
    · rw [if_pos h, if_pos h]
    · rw [if_neg h, if_neg h, ih]
theorem cn_up {f f' : Nat → Bool} {h : Bool} {j : Nat} : ∀ {n : Nat}, j < n → f j = false → f' j = h → (∀ p, p ≠ j → f' p = f p) → cn f' n = cn f n + (if h = true then 1 else 0)
  | 0, h1, _, _, _ => absurd h1 (by omega)
  | n + 1, h1, h2, h3, h4 => by
    rw [cn_s, cn_s]
    by_cases e : j = n
    · subst e
      rw [h2, h3, cn_congr (n := j) (fun p hp => h4 p (by omega))]; simp
    · rw [cn_up (n := n) (by omega) h2 h3 h4, h4 n (by omega)]
      omega
theorem ng_up {g : Rw} {p : Nat} {t : Int} (hp : p < 5) (hg : g p = -1) : ngN (up g p t) = ngN g + dyo t := by
  unfold ngN
  rw [cn_up (f := fun p => decide (20 ≤ g p)) (j := p) (h := decide (20 ≤ t)) hp (by rw [hg]; decide) (by rw [up_at]) (fun q hq => by rw [up_ne hq])]
  unfold dyo
  by_cases z : t < 20
  · rw [if_pos z, if_neg (by simp; omega)]
  · rw [if_neg z, if_pos (by simp; omega)]
def OPq (s : mSt) (x : Int) : Prop := Ok (s 417) ∧ (0 ≤ x ∧ x < 6) ∧ (0 ≤ s 407 28 ∧ s 407 28 ≤ 5) ∧ (∀ i, i < (s 407 28).toNat → 0 ≤ s 420 i ∧ s 420 i < s 417 3) ∧ (∀ t, t < 30 → s 418 t = fre (s 417) t) ∧ ∀ i j, j < i → i < (s 407 28).toNat → (s 420 j).toNat ≠ (s 420 i).toNat
def fO (s t : mSt) : Prop := (∀ b, b ≠ 407 → b ≠ 421 → t b = s b) ∧ ∀ j, j ≠ 33 → j ≠ 35 → t 407 j = s 407 j
def OY (s t : mSt) (x : Int) : Prop := (∃ q : St, pf (s 417) x.toNat (oP s (s 407 28).toNat) ini = some q ∧ t 407 35 = q.2.1 ∧ t 407 33 = ngN q.2.2.2 ∧ (∀ p, p ∈ oP s (s 407 28).toNat → t 421 p = q.2.2.2 p) ∧ (0 ≤ q.2.1 ∧ q.2.1 ≤ 30)) ∧ fO s t
def ON (s t : mSt) (x : Int) : Prop := pf (s 417) x.toNat (oP s (s 407 28).toNat) ini = none ∧ fO s t
theorem v238 {X : (Nat → Int) × Nat} {d : Nat} {s : mSt} {Q : mQ} {x1 : Int}
  (I17 : Int → Int → Int → mSt → Prop) (m17 : Int → Int → Int → mSt → Nat)
  (z1 : ∀ y2 : Int, ∀ y3 : Int, ∀ y4 : Int, ∀ s : mSt, I17 y2 y3 y4 s → (s 407 28) ≤ y4 → Q (some (mI 1)) s)
  (z2 : ∀ y2 : Int, ∀ y3 : Int, ∀ y4 : Int, ∀ s : mSt, I17 y2 y3 y4 s → ¬ (s 407 28) ≤ y4 → 0 ≤ y4 ∧ y4 < 5)
  (z3 : ∀ y2 : Int, ∀ y3 : Int, ∀ y4 : Int, ∀ s : mSt, I17 y2 y3 y4 s → ¬ (s 407 28) ≤ y4 → LPq s x1 (s 420 y4.toNat) y2 (s 407 35) y3)
  (z4 : ∀ y2 : Int, ∀ y3 : Int, ∀ y4 : Int, ∀ s : mSt, I17 y2 y3 y4 s → ¬ (s 407 28) ≤ y4 → 0 ≤ (lsA (s 417) x1.toNat (s 420 y4.toNat).toNat y2 (s 407 35) y3) → 0 ≤ (s 420 y4.toNat) ∧ (s 420 y4.toNat) < 5)
  (z5 : ∀ y2 : Int, ∀ y3 : Int, ∀ y4 : Int, ∀ s : mSt, I17 y2 y3 y4 s → ¬ (s 407 28) ≤ y4 → 0 ≤ (lsA (s 417) x1.toNat (s 420 y4.toNat).toNat y2 (s 407 35) y3) → Ok ((uS s 421 (s 420 y4.toNat).toNat (lsA (s 417) x1.toNat (s 420 y4.toNat).toNat y2 (s 407 35) y3)) 417) ∧ (0 ≤ x1 ∧ x1 < 6) ∧ (0 ≤ (s 420 y4.toNat) ∧ (s 420 y4.toNat) < 5))
  (z6 : ∀ y2 : Int, ∀ y3 : Int, ∀ y4 : Int, ∀ s : mSt, I17 y2 y3 y4 s → ¬ (s 407 28) ≤ y4 → 0 ≤ (lsA (s 417) x1.toNat (s 420 y4.toNat).toNat y2 (s 407 35) y3) → ∀ t4 : mSt, t4 = uS s 421 (s 420 y4.toNat).toNat (lsA (s 417) x1.toNat (s 420 y4.toNat).toNat y2 (s 407 35) y3) → ∀ t5 : mSt, t5 = uS t4 407 35 (w32 ((lsA (s 417) x1.toNat (s 420 y4.toNat).toNat y2 (s 407 35) y3) + (tm ((uS s 421 (s 420 y4.toNat).toNat (lsA (s 417) x1.toNat (s 420 y4.toNat).toNat y2 (s 407 35) y3)) 417) x1.toNat (s 420 y4.toNat).toNat))) → ∀ t6 : mSt, t6 = uS t5 407 33 (w32 (((uS t4 407 35 (w32 ((lsA (s 417) x1.toNat (s 420 y4.toNat).toNat y2 (s 407 35) y3) + (tm ((uS s 421 (s 420 y4.toNat).toNat (lsA (s 417) x1.toNat (s 420 y4.toNat).toNat y2 (s 407 35) y3)) 417) x1.toNat (s 420 y4.toNat).toNat)))) 407 33) + (dyo (lsA (s 417) x1.toNat (s 420 y4.toNat).toNat y2 (s 407 35) y3)))) → ¬ (dyo (lsA (s 417) x1.toNat (s 420 y4.toNat).toNat y2 (s 407 35) y3)) = 0 → I17 (lsA (s 417) x1.toNat (s 420 y4.toNat).toNat y2 (s 407 35) y3) (w32 (y3 + 0)) (w32 (y4 + 1)) t6 ∧ m17 (lsA (s 417) x1.toNat (s 420 y4.toNat).toNat y2 (s 407 35) y3) (w32 (y3 + 0)) (w32 (y4 + 1)) t6 < m17 y2 y3 y4 s)
  (z7 : ∀ y2 : Int, ∀ y3 : Int, ∀ y4 : Int, ∀ s : mSt, I17 y2 y3 y4 s → ¬ (s 407 28) ≤ y4 → 0 ≤ (lsA (s 417) x1.toNat (s 420 y4.toNat).toNat y2 (s 407 35) y3) → ∀ t4 : mSt, t4 = uS s 421 (s 420 y4.toNat).toNat (lsA (s 417) x1.toNat (s 420 y4.toNat).toNat y2 (s 407 35) y3) → ∀ t5 : mSt, t5 = uS t4 407 35 (w32 ((lsA (s 417) x1.toNat (s 420 y4.toNat).toNat y2 (s 407 35) y3) + (tm ((uS s 421 (s 420 y4.toNat).toNat (lsA (s 417) x1.toNat (s 420 y4.toNat).toNat y2 (s 407 35) y3)) 417) x1.toNat (s 420 y4.toNat).toNat))) → ∀ t6 : mSt, t6 = uS t5 407 33 (w32 (((uS t4 407 35 (w32 ((lsA (s 417) x1.toNat (s 420 y4.toNat).toNat y2 (s 407 35) y3) + (tm ((uS s 421 (s 420 y4.toNat).toNat (lsA (s 417) x1.toNat (s 420 y4.toNat).toNat y2 (s 407 35) y3)) 417) x1.toNat (s 420 y4.toNat).toNat)))) 407 33) + (dyo (lsA (s 417) x1.toNat (s 420 y4.toNat).toNat y2 (s 407 35) y3)))) → (dyo (lsA (s 417) x1.toNat (s 420 y4.toNat).toNat y2 (s 407 35) y3)) = 0 → Ok (t6 417) ∧ (0 ≤ x1 ∧ x1 < 6) ∧ (0 ≤ (s 420 y4.toNat) ∧ (s 420 y4.toNat) < 5))
  (z8 : ∀ y2 : Int, ∀ y3 : Int, ∀ y4 : Int, ∀ s : mSt, I17 y2 y3 y4 s → ¬ (s 407 28) ≤ y4 → 0 ≤ (lsA (s 417) x1.toNat (s 420 y4.toNat).toNat y2 (s 407 35) y3) → ∀ t4 : mSt, t4 = uS s 421 (s 420 y4.toNat).toNat (lsA (s 417) x1.toNat (s 420 y4.toNat).toNat y2 (s 407 35) y3) → ∀ t5 : mSt, t5 = uS t4 407 35 (w32 ((lsA (s 417) x1.toNat (s 420 y4.toNat).toNat y2 (s 407 35) y3) + (tm ((uS s 421 (s 420 y4.toNat).toNat (lsA (s 417) x1.toNat (s 420 y4.toNat).toNat y2 (s 407 35) y3)) 417) x1.toNat (s 420 y4.toNat).toNat))) → ∀ t6 : mSt, t6 = uS t5 407 33 (w32 (((uS t4 407 35 (w32 ((lsA (s 417) x1.toNat (s 420 y4.toNat).toNat y2 (s 407 35) y3) + (tm ((uS s 421 (s 420 y4.toNat).toNat (lsA (s 417) x1.toNat (s 420 y4.toNat).toNat y2 (s 407 35) y3)) 417) x1.toNat (s 420 y4.toNat).toNat)))) 407 33) + (dyo (lsA (s 417) x1.toNat (s 420 y4.toNat).toNat y2 (s 407 35) y3)))) → (dyo (lsA (s 417) x1.toNat (s 420 y4.toNat).toNat y2 (s 407 35) y3)) = 0 → I17 (lsA (s 417) x1.toNat (s 420 y4.toNat).toNat y2 (s 407 35) y3) (w32 (y3 + (tm (t6 417) x1.toNat (s 420 y4.toNat).toNat))) (w32 (y4 + 1)) t6 ∧ m17 (lsA (s 417) x1.toNat (s 420 y4.toNat).toNat y2 (s 407 35) y3) (w32 (y3 + (tm (t6 417) x1.toNat (s 420 y4.toNat).toNat))) (w32 (y4 + 1)) t6 < m17 y2 y3 y4 s)
  (z9 : ∀ y2 : Int, ∀ y3 : Int, ∀ y4 : Int, ∀ s : mSt, I17 y2 y3 y4 s → ¬ (s 407 28) ≤ y4 → ¬ 0 ≤ (lsA (s 417) x1.toNat (s 420 y4.toNat).toNat y2 (s 407 35) y3) → Q (some (mI 0)) s)
  (z10 : I17 (-1) 0 0 (uS (uS s 407 33 0) 407 35 0)) :
  Sp X (d + 2) 238 [mR 407, mI x1] s Q := by
  have L : ∀ k : Nat, (∀ (y2 : Int) (y3 : Int) (y4 : Int) (l5 : Option mV) (l6 : Option mV) (s : mSt), I17 y2 y3 y4 s → m17 y2 y3 y4 s < k → Wp X (d + 2) 238 17 [some (mR 407), some (mI x1), some (mI y2), some (mI y3), some (mI y4), l5, l6] [] s Q) := by
    intro k
    induction k with
    | zero => exact fun _ _ _ _ _ _ _ h => absurd h (Nat.not_lt_zero _)
    | succ k ih => exact fun y2 y3 y4 l5 l6 s hI hm => b238_17 (fun q1 => b238_125 (z1 y2 y3 y4 s hI q1)) (fun q2 => b238_26 (z2 y2 y3 y4 s hI q2) (c237 (z3 y2 y3 y4 s hI q2) ⟨_, rfl, b238_48 (fun q3 => b238_57 (z4 y2 y3 y4 s hI q2 q3) (c219 (z5 y2 y3 y4 s hI q2 q3) ⟨_, rfl, Wp_gen (fun t4 e4 => b238_79 (c236  ⟨_, rfl, Wp_gen (fun t5 e5 => b238_93 (c236  ⟨_, rfl, Wp_gen (fun t6 e6 => b238_103 (fun q7 => b238_116 (b238_117 (ih (lsA (s 417) x1.toNat (s 420 y4.toNat).toNat y2 (s 407 35) y3) (w32 (y3 + 0)) (w32 (y4 + 1)) (some (mI (s 420 y4.toNat))) (some (mI (lsA (s 417) x1.toNat (s 420 y4.toNat).toNat y2 (s 407 35) y3))) t6 (z6 y2 y3 y4 s hI q2 q3 t4 e4 t5 e5 t6 e6 q7).1 (Nat.lt_of_lt_of_le (z6 y2 y3 y4 s hI q2 q3 t4 e4 t5 e5 t6 e6 q7).2 (Nat.le_of_lt_succ hm))))) (fun q8 => b238_106 (c219 (z7 y2 y3 y4 s hI q2 q3 t4 e4 t5 e5 t6 e6 q8) ⟨_, rfl, b238_113 (b238_117 (ih (lsA (s 417) x1.toNat (s 420 y4.toNat).toNat y2 (s 407 35) y3) (w32 (y3 + (tm (t6 417) x1.toNat (s 420 y4.toNat).toNat))) (w32 (y4 + 1)) (some (mI (s 420 y4.toNat))) (some (mI (lsA (s 417) x1.toNat (s 420 y4.toNat).toNat y2 (s 407 35) y3))) t6 (z8 y2 y3 y4 s hI q2 q3 t4 e4 t5 e5 t6 e6 q8).1 (Nat.lt_of_lt_of_le (z8 y2 y3 y4 s hI q2 q3 t4 e4 t5 e5 t6 e6 q8).2 (Nat.le_of_lt_succ hm))))⟩)))⟩))⟩))⟩)) (fun q9 => b238_55 (z9 y2 y3 y4 s hI q2 q9))⟩))
  exact e238 (b238_0 ((L (m17 (-1) 0 0 (uS (uS s 407 33 0) 407 35 0) + 1)) (-1) 0 0 none none (uS (uS s 407 33 0) 407 35 0) z10 (Nat.lt_succ_self _)))

theorem pf_none {a : Rw} {c : Nat} {s : mSt} {i : Nat} {q : St} (h : pf a c (oP s i) ini = some q) (hl : lsA a c (s 420 i).toNat q.1 q.2.1 q.2.2.1 < 0) : ∀ {n : Nat}, i < n → pf a c (oP s n) ini = none
  | 0, hn => absurd hn (by omega)
  | n + 1, hn => by
    rw [oP_s, pf_snoc]
    rcases Nat.lt_or_eq_of_le (Nat.le_of_lt_succ hn) with z | z
    · rw [pf_none h hl z]
    · subst z
      rw [h]
      dsimp only
      rw [if_pos hl]
theorem nxS_3 (a : Rw) (c p : Nat) (st : St) : (nxS a c p st).2.2.1 = (if lsA a c p st.1 st.2.1 st.2.2.1 < 20 then st.2.2.1 + tm a c p else st.2.2.1) := by simp only [nxS]
theorem c238 {X : (Nat → Int) × Nat} {d : Nat} {s : mSt} {Q : mQ} {x1 : Int} (p1 : OPq s x1) (k1 : ∀ t : mSt, (OY s t x1) → Q (some (mI 1)) t) (k0 : ∀ t : mSt, (ON s t x1) → Q (some (mI 0)) t) : Sp X (d + 2) 238 [mR 407, mI x1] s Q := by
  obtain ⟨h, h1, h2, h3, hs, hd⟩ := p1
  have hn := npI h
  have n5 := np_le h
  let J : Int → Int → Int → mSt → Prop := fun y2 y3 y4 t => ∃ (i : Nat) (q : St), y4 = i ∧ i ≤ (s 407 28).toNat ∧ pf (s 417) x1.toNat (oP s i) ini = some q ∧ y2 = q.1 ∧ y3 = q.2.2.1 ∧ t 407 35 = q.2.1 ∧ t 407 33 = ngN q.2.2.2 ∧ (∀ p, p ∈ oP s i → t 421 p = q.2.2.2 p) ∧ (0 ≤ q.2.1 ∧ q.2.1 ≤ 30) ∧ (-1 ≤ q.1 ∧ q.1 ≤ 29) ∧ (0 ≤ q.2.2.1 ∧ q.2.2.1 ≤ 12 * i) ∧ fO s t
  have hnd : ∀ i, i < (s 407 28).toNat → (s 420 i).toNat ∉ oP s i := fun i hi z => by
    obtain ⟨j, hj, e⟩ := oP_mem.1 z
    exact hd i j hj hi e
  -- a step
  have stepJ : ∀ (i : Nat) (q : St) (t u : mSt), i < (s 407 28).toNat → pf (s 417) x1.toNat (oP s i) ini = some q → (∀ p, p ∈ oP s i → t 421 p = q.2.2.2 p) → t 407 33 = ngN q.2.2.2 → (0 ≤ q.2.2.1 ∧ q.2.2.1 ≤ 12 * i) → fO s t → 0 ≤ lsA (s 417) x1.toNat (s 420 i).toNat q.1 q.2.1 q.2.2.1 →
      u = uS (uS (uS t 421 (s 420 i).toNat (lsA (s 417) x1.toNat (s 420 i).toNat q.1 q.2.1 q.2.2.1)) 407 35 (lsA (s 417) x1.toNat (s 420 i).toNat q.1 q.2.1 q.2.2.1 + tm (s 417) x1.toNat (s 420 i).toNat)) 407 33 (ngN q.2.2.2 + dyo (lsA (s 417) x1.toNat (s 420 i).toNat q.1 q.2.1 q.2.2.1)) →
      J (lsA (s 417) x1.toNat (s 420 i).toNat q.1 q.2.1 q.2.2.1) (if lsA (s 417) x1.toNat (s 420 i).toNat q.1 q.2.1 q.2.2.1 < 20 then q.2.2.1 + tm (s 417) x1.toNat (s 420 i).toNat else q.2.2.1) ((i + 1 : Nat) : Int) u := fun i q t u hi hq hb h33 hh hf h0 hu => by
    have hp := h3 i hi
    have t1 := tm_pos h (c := x1.toNat) (p := (s 420 i).toNat) (by omega) (by omega)
    have t2 := tm_bd h (c := x1.toNat) (p := (s 420 i).toNat) (by omega) (by omega)
    obtain ⟨f1, f2⟩ := ls_ft h0
    have f3 := ft_end f1 t1
    rw [Int.toNat_of_nonneg h0] at f3
    have hg := (pf_g (oP s i) ini q hq (s 420 i).toNat).2 (hnd i hi)
    subst hu
    refine ⟨i + 1, nxS (s 417) x1.toNat (s 420 i).toNat q, rfl, by omega, ?_, by rw [nxS_1], by rw [nxS_3], ?_, ?_, fun p hp' => ?_, ?_, ?_, ?_, ?_, ?_⟩
    · rw [oP_s, pf_snoc, hq]
      dsimp only
      rw [if_neg (by omega)]
    · rw [uS_at, if_neg (by decide), uS_at, if_pos rfl, nxS_2]
    · rw [uS_at, if_pos rfl, nxS_4, ng_up (by omega) hg]
    · rw [uS_cell (by decide), uS_cell (by decide), nxS_4, uS_at]
      unfold up
      by_cases e : p = (s 420 i).toNat
      · rw [if_pos e, if_pos e]
      · rw [if_neg e, if_neg e]
        rw [oP_s] at hp'
        refine hb p ?_
        rcases List.mem_append.1 hp' with z | z
        · exact z
        · exact absurd (List.mem_singleton.1 z) e
    · rw [nxS_2]; omega
    · rw [nxS_1]; omega
    · rw [nxS_3]; split <;> omega
    · intro b hb1 hb2
      rw [uS_cell hb1, uS_cell hb1, uS_cell hb2]; exact hf.1 b hb1 hb2
    · intro j hj1 hj2
      rw [uS_at, if_neg hj1, uS_at, if_neg hj2, uS_cell (by decide)]; exact hf.2 j hj1 hj2
  refine v238 J (fun _ _ y _ => (5 - y).toNat) ?_ ?_ ?_ ?_ ?_ ?_ ?_ ?_ ?_ ?_
  · rintro _ _ _ t ⟨i, q, rfl, hi, hq, rfl, rfl, e35, e33, eb, b1, b2, b3, hf⟩ hc
    rw [hf.2 28 (by decide) (by decide)] at hc
    have : i = (s 407 28).toNat := by omega
    subst this
    exact k1 t ⟨⟨q, hq, e35, e33, eb, b1⟩, hf⟩
  · rintro _ _ _ t ⟨i, q, rfl, hi, hq, rfl, rfl, e35, e33, eb, b1, b2, b3, hf⟩ hc
    rw [hf.2 28 (by decide) (by decide)] at hc
    omega
  · rintro _ _ _ t ⟨i, q, rfl, hi, hq, rfl, rfl, e35, e33, eb, b1, b2, b3, hf⟩ hc
    rw [hf.2 28 (by decide) (by decide)] at hc
    have hp := h3 i (by omega)
    unfold LPq
    rw [hf.1 417 (by decide) (by decide), hf.1 418 (by decide) (by decide), hf.1 420 (by decide) (by decide), e35, tnc]
    exact ⟨h, h1, by omega, by omega, b1, by omega, hs⟩
  · rintro _ _ _ t ⟨i, q, rfl, hi, hq, rfl, rfl, e35, e33, eb, b1, b2, b3, hf⟩ hc _
    rw [hf.2 28 (by decide) (by decide)] at hc
    have hp := h3 i (by omega)
    rw [hf.1 420 (by decide) (by decide), tnc]
    omega
  · rintro _ _ _ t ⟨i, q, rfl, hi, hq, rfl, rfl, e35, e33, eb, b1, b2, b3, hf⟩ hc _
    rw [hf.2 28 (by decide) (by decide)] at hc
    have hp := h3 i (by omega)
    rw [uS_cell (by decide), hf.1 417 (by decide) (by decide), hf.1 420 (by decide) (by decide), tnc]
    exact ⟨h, h1, by omega⟩
  · rintro _ _ _ t ⟨i, q, rfl, hi, hq, rfl, rfl, e35, e33, eb, b1, b2, b3, hf⟩ hc h0 t4 e4 t5 e5 t6 e6 hd0
    rw [hf.2 28 (by decide) (by decide)] at hc
    have hp := h3 i (by omega)
    have t2 := tm_bd h (c := x1.toNat) (p := (s 420 i).toNat) (by omega) (by omega)
    rw [uS_at, if_neg (by decide), e4, uS_cell (by decide), e33, hf.1 417 (by decide) (by decide), hf.1 420 (by decide) (by decide), e35, tnc] at e6
    rw [uS_cell (by decide), hf.1 417 (by decide) (by decide), hf.1 420 (by decide) (by decide), e35, tnc] at e5
    rw [hf.1 417 (by decide) (by decide), hf.1 420 (by decide) (by decide), e35, tnc] at h0 hd0 e4 ⊢
    have hl := (ls_ft h0).2
    have bn := ng_bd q.2.2.2
    have bd : 0 ≤ dyo (lsA (s 417) x1.toNat (s 420 i).toNat q.1 q.2.1 q.2.2.1) ∧ dyo (lsA (s 417) x1.toNat (s 420 i).toNat q.1 q.2.1 q.2.2.1) ≤ 1 := by unfold dyo; split <;> omega
    rw [w32_of (by omega)] at e5
    rw [w32_of (by omega)] at e6
    rw [w32_of (by omega), w32_of (by omega)]
    have := stepJ i q t t6 (by omega) hq eb e33 b3 hf h0 (by rw [e6, e5, e4])
    rw [if_neg (fun z => hd0 (dyo_0.2 z))] at this
    refine ⟨?_, by omega⟩
    rw [Int.add_zero]
    exact this
  · rintro _ _ _ t ⟨i, q, rfl, hi, hq, rfl, rfl, e35, e33, eb, b1, b2, b3, hf⟩ hc h0 t4 e4 t5 e5 t6 e6 hd0
    rw [hf.2 28 (by decide) (by decide)] at hc
    have hp := h3 i (by omega)
    rw [e6, uS_cell (by decide), e5, uS_cell (by decide), e4, uS_cell (by decide), hf.1 417 (by decide) (by decide), hf.1 420 (by decide) (by decide), tnc]
    exact ⟨h, h1, by omega⟩
  · rintro _ _ _ t ⟨i, q, rfl, hi, hq, rfl, rfl, e35, e33, eb, b1, b2, b3, hf⟩ hc h0 t4 e4 t5 e5 t6 e6 hd0
    rw [hf.2 28 (by decide) (by decide)] at hc
    have hp := h3 i (by omega)
    have t2 := tm_bd h (c := x1.toNat) (p := (s 420 i).toNat) (by omega) (by omega)
    have e417 : t6 417 = s 417 := by rw [e6, uS_cell (by decide), e5, uS_cell (by decide), e4, uS_cell (by decide), hf.1 417 (by decide) (by decide)]
    rw [uS_at, if_neg (by decide), e4, uS_cell (by decide), e33, hf.1 417 (by decide) (by decide), hf.1 420 (by decide) (by decide), e35, tnc] at e6
    rw [uS_cell (by decide), hf.1 417 (by decide) (by decide), hf.1 420 (by decide) (by decide), e35, tnc] at e5
    rw [e417]
    rw [hf.1 417 (by decide) (by decide), hf.1 420 (by decide) (by decide), e35, tnc] at h0 hd0 e4 ⊢
    have hl := (ls_ft h0).2
    have bn := ng_bd q.2.2.2
    have bd : 0 ≤ dyo (lsA (s 417) x1.toNat (s 420 i).toNat q.1 q.2.1 q.2.2.1) ∧ dyo (lsA (s 417) x1.toNat (s 420 i).toNat q.1 q.2.1 q.2.2.1) ≤ 1 := by unfold dyo; split <;> omega
    rw [w32_of (by omega)] at e5
    rw [w32_of (by omega)] at e6
    rw [w32_of (by omega), w32_of (by omega)]
    have := stepJ i q t t6 (by omega) hq eb e33 b3 hf h0 (by rw [e6, e5, e4])
    rw [if_pos (dyo_0.1 hd0)] at this
    exact ⟨this, by omega⟩
  · rintro _ _ _ t ⟨i, q, rfl, hi, hq, rfl, rfl, e35, e33, eb, b1, b2, b3, hf⟩ hc h0
    rw [hf.2 28 (by decide) (by decide)] at hc
    rw [hf.1 417 (by decide) (by decide), hf.1 420 (by decide) (by decide), e35, tnc] at h0
    exact k0 t ⟨pf_none hq (by omega) (by omega), hf⟩
  · refine ⟨0, ini, rfl, by omega, rfl, rfl, rfl, ?_, ?_, fun p hp => absurd hp (by simp [oP]), ?_, ?_, ?_, ?_, ?_⟩
    · rw [uS_at, if_pos rfl]; rfl
    · rw [uS_at, if_neg (by decide), uS_at, if_pos rfl]; rfl
    · exact ⟨by decide, by decide⟩
    · exact ⟨by decide, by decide⟩
    · exact ⟨by decide, by decide⟩
    · intro b hb1 hb2; rw [uS_cell hb1, uS_cell hb1]
    · intro j hj1 hj2; rw [uS_at, if_neg hj2, uS_at, if_neg hj1]
