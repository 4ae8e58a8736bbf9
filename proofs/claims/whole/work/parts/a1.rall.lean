/-! a whole text: the reference -/
def fRA (s t : mSt) : Prop := (∀ b, b ≠ 407 → ¬ (409 ≤ b ∧ b ≤ 414) → t b = s b) ∧ (∀ j, j ≠ 1 → ¬ (8 ≤ j ∧ j ≤ 10) → ¬ (12 ≤ j ∧ j ≤ 14) → j ≠ 16 → t 407 j = s 407 j) ∧ (∀ j, ¬ (400 * txR s ≤ j ∧ j < 400 * txR s + 400) → t 409 j = s 409 j) ∧ (∀ j, j ≠ txR s → t 412 j = s 412 j) ∧ ∀ j, ¬ (48 * txR s ≤ j ∧ j < 48 * txR s + 48) → t 411 j = s 411 j
theorem fRA_t {s t u : mSt} (h1 : fRA s t) (h2 : fRA t u) : fRA s u := by
  have e : txR t = txR s := by unfold txR; rw [h1.2.1 11 (by decide) (by decide) (by decide) (by decide)]
  obtain ⟨b1, b2, b4, b5, b6⟩ := h2
  rw [e] at b4 b5 b6
  exact ⟨fun b a1 a2 => (b1 b a1 a2).trans (h1.1 b a1 a2), fun j g0 g1 g2 g3 => (b2 j g0 g1 g2 g3).trans (h1.2.1 j g0 g1 g2 g3), fun j g => (b4 j g).trans (h1.2.2.1 j g), fun j g => (b5 j g).trans (h1.2.2.2.1 j g), fun j g => (b6 j g).trans (h1.2.2.2.2 j g)⟩
theorem fRd_A {s t : mSt} (h : fRd s t) : fRA s t := ⟨h.1, fun j _ g1 g2 g3 => h.2.1 j g1 g2 g3, h.2.2.2.1, h.2.2.2.2.1, h.2.2.2.2.2⟩
theorem fWs_A {s t : mSt} (h : fWs s t) : fRA s t := ⟨fun b a1 a2 => h.1 b a1 (by omega), fun j _ g1 g2 _ => h.2 j g1 (by omega), fun j _ => by rw [h.1 409 (by decide) (by decide)], fun j _ => by rw [h.1 412 (by decide) (by decide)], fun j _ => by rw [h.1 411 (by decide) (by decide)]⟩
theorem fRA_1 (s : mSt) (x : Int) : fRA s (uS s 407 1 x) := ⟨fun b a1 _ => uS_cell a1, fun j g _ _ _ => by rw [uS_at, if_neg g], fun j _ => by rw [uS_cell (by decide)], fun j _ => by rw [uS_cell (by decide)], fun j _ => by rw [uS_cell (by decide)]⟩
def EDr (t : mSt) (r : Nat) (E : List (Nat × Nat)) : Prop := t 412 r = (E.length : Int) ∧ ∀ c, c < E.length → t 411 (48 * r + 4 * c) = (prE (e3L E) c : Int) ∧ t 411 (48 * r + 4 * c + 1) = (e1L E c : Int) ∧ t 411 (48 * r + 4 * c + 2) = (if e3L E c ≤ e1L E c then -1 else (e1L E c : Int)) ∧ t 411 (48 * r + 4 * c + 3) = (e3L E c : Int)
def RuR (t : mSt) (r : Nat) (x : List Int × List (Nat × Nat)) : Prop := (∀ i, i < x.1.length → t 409 (400 * r + i) = sgW x.1 i) ∧ EDr t r x.2
theorem EDr_c {t u : mSt} {r : Nat} {E : List (Nat × Nat)} (h : EDr t r E) (e1 : u 411 = t 411) (e2 : u 412 = t 412) : EDr u r E := by
  unfold EDr at h ⊢
  rw [e1, e2]; exact h
theorem EDr_s {t u : mSt} {r l e m : Nat} {E : List (Nat × Nat)} (h : EDr t r E) (h2 : u 412 r = t 412 r + 1) (hl : prE (e3L E) E.length = l) (hw : CWq (t 411) (u 411) (48 * r + 4 * E.length) l e m) : EDr u r (E ++ [(e, m)]) := by
  have len : (E ++ [(e, m)]).length = E.length + 1 := by rw [List.length_append]; rfl
  have a1 : ∀ c, c < E.length → e1L (E ++ [(e, m)]) c = e1L E c := fun c hc => by unfold e1L; rw [gdE_l _ _ _ hc]
  have a3 : ∀ c, c < E.length → e3L (E ++ [(e, m)]) c = e3L E c := fun c hc => by unfold e3L; rw [gdE_l _ _ _ hc]
  have b1 : e1L (E ++ [(e, m)]) E.length = e := by unfold e1L; rw [gdE_r]
  have b3 : e3L (E ++ [(e, m)]) E.length = m := by unfold e3L; rw [gdE_r]
  have ap : ∀ c, c ≤ E.length → prE (e3L (E ++ [(e, m)])) c = prE (e3L E) c := fun c hc => by
    cases c with
    | zero => rfl
    | succ c => exact a3 c (by omega)
  generalize E ++ [(e, m)] = F at len a1 a3 b1 b3 ap
  refine ⟨by rw [h2, h.1, len]; omega, fun c hc => ?_⟩
  by_cases z : c < E.length
  · have q := h.2 c z
    rw [ap c (by omega), a1 c z, a3 c z]
    refine ⟨?_, ?_, ?_, ?_⟩
    · rw [hw, if_neg (by omega), if_neg (by omega), if_neg (by omega), if_neg (by omega)]; exact q.1
    · rw [hw, if_neg (by omega), if_neg (by omega), if_neg (by omega), if_neg (by omega)]; exact q.2.1
    · rw [hw, if_neg (by omega), if_neg (by omega), if_neg (by omega), if_neg (by omega)]; exact q.2.2.1
    · rw [hw, if_neg (by omega), if_neg (by omega), if_neg (by omega), if_neg (by omega)]; exact q.2.2.2
  · have ec : c = E.length := by omega
    subst ec
    rw [ap _ (Nat.le_refl _), b1, b3, hl]
    refine ⟨?_, ?_, ?_, ?_⟩
    · rw [hw, if_pos rfl]
    · rw [hw, if_neg (by omega), if_pos rfl]
    · rw [hw, if_neg (by omega), if_neg (by omega), if_pos rfl]
    · rw [hw, if_neg (by omega), if_neg (by omega), if_neg (by omega), if_pos rfl]
theorem SG_u {t : mSt} {L : List Int} (h : SGq t L) {i : Nat} (hi : i < L.length) : t 409 (400 * txR t + i) = sgW L i := by
  have hn : (lnR t).toNat = L.length := by
    have e : (sgB t).length = (L.map encC).length := by rw [h]
    unfold sgB at e
    rw [List.length_map, List.length_range, List.length_map] at e
    exact e
  have e : (sgB t)[i]? = (L.map encC)[i]? := by rw [h]
  rw [List.getElem?_map, List.getElem?_eq_getElem hi] at e
  have e3 : (sgB t)[i]? = some (t 409 (400 * txR t + i)) := by
    unfold sgB
    rw [List.getElem?_map, List.getElem?_range (by omega)]; rfl
  rw [e3] at e
  have e4 : t 409 (400 * txR t + i) = encC L[i] := by simpa using e
  rw [e4]
  unfold sgW
  rw [List.getD_eq_getElem?_getD, List.getElem?_eq_getElem hi]
  rfl
def PAR (s : mSt) : Prop := (∀ i, -128 ≤ s 408 i ∧ s 408 i < 128) ∧ (0 ≤ s 407 1 ∧ s 407 1 ≤ 400) ∧ ((s 407 11 = 6 ∧ ∀ j, j < 135 → s 413 j = 0) ∨ ((0 ≤ s 407 11 ∧ s 407 11 < 6) ∧ s 412 (txR s) = 0))
def PBR (s t : mSt) : Prop := (t 407 1 = 0 ∧ fRA s t) ∧ (s 407 11 = 6 → (dyP (TR s) (nR s)).1 = 0 ∧ ∀ j, j < 135 → t 413 j = (dyP (TR s) (nR s)).2 j) ∧ (s 407 11 < 6 → (rlP (TR s) (nR s)).1 = 0 ∧ RuR t (txR s) (rlP (TR s) (nR s)).2)
def PCR (s t : mSt) : Prop := (t 407 1 = 0 ∧ fRA s t) ∧ (s 407 11 = 6 → ¬ (dyP (TR s) (nR s)).1 = 0 ∧ t 407 9 = (dyP (TR s) (nR s)).1) ∧ (s 407 11 < 6 → ¬ (rlP (TR s) (nR s)).1 = 0 ∧ t 407 9 = (rlP (TR s) (nR s)).1)
theorem v204 {X : (Nat → Int) × Nat} {d : Nat} {s : mSt} {Q : mQ}
  (I35 : Int → mSt → Prop) (m35 : Int → mSt → Nat)
  (I66 : Int → mSt → Prop) (m66 : Int → mSt → Nat)
  (I88 : Int → mSt → Prop) (m88 : Int → mSt → Nat)
  (z1 : ∀ y1 : Int, ∀ s : mSt, I35 y1 s → y1 = 0 → I66 y1 s ∧ m66 y1 s < m35 y1 s)
  (z2 : ∀ y1 : Int, ∀ s : mSt, I35 y1 s → ¬ y1 = 0 → TRq s)
  (z3 : ∀ y1 : Int, ∀ s : mSt, I35 y1 s → ¬ y1 = 0 → ∀ v3 : Int, ∀ s3 : mSt, (v3 = (if nR s ≤ skR s then -1 else TR s (skR s)) ∧ s3 = uS s 407 8 (skR s : Int)) → ¬ v3 = 59 → I66 y1 s3 ∧ m66 y1 s3 < m35 y1 s)
  (z4 : ∀ y1 : Int, ∀ s : mSt, I35 y1 s → ¬ y1 = 0 → ∀ v3 : Int, ∀ s3 : mSt, (v3 = (if nR s ≤ skR s then -1 else TR s (skR s)) ∧ s3 = uS s 407 8 (skR s : Int)) → v3 = 59 → ∀ t6 : mSt, t6 = uS s3 407 8 (w32 ((s3 407 8) + 1)) → PAr t6)
  (z5 : ∀ y1 : Int, ∀ s : mSt, I35 y1 s → ¬ y1 = 0 → ∀ v3 : Int, ∀ s3 : mSt, (v3 = (if nR s ≤ skR s then -1 else TR s (skR s)) ∧ s3 = uS s 407 8 (skR s : Int)) → v3 = 59 → ∀ t6 : mSt, t6 = uS s3 407 8 (w32 ((s3 407 8) + 1)) → ∀ s7 : mSt, PBr t6 s7 → I35 1 s7 ∧ m35 1 s7 < m35 y1 s)
  (z6 : ∀ y1 : Int, ∀ s : mSt, I35 y1 s → ¬ y1 = 0 → ∀ v3 : Int, ∀ s3 : mSt, (v3 = (if nR s ≤ skR s then -1 else TR s (skR s)) ∧ s3 = uS s 407 8 (skR s : Int)) → v3 = 59 → ∀ t6 : mSt, t6 = uS s3 407 8 (w32 ((s3 407 8) + 1)) → ∀ s8 : mSt, PCr t6 s8 → I35 0 s8 ∧ m35 0 s8 < m35 y1 s)
  (z7 : ∀ y1 : Int, ∀ s : mSt, I66 y1 s → y1 = 0 → I88 y1 s ∧ m88 y1 s < m66 y1 s)
  (z8 : ∀ y1 : Int, ∀ s : mSt, I66 y1 s → ¬ y1 = 0 → TRq s)
  (z9 : ∀ y1 : Int, ∀ s : mSt, I66 y1 s → ¬ y1 = 0 → ∀ v11 : Int, ∀ s11 : mSt, (v11 = (if nR s ≤ skR s then -1 else TR s (skR s)) ∧ s11 = uS s 407 8 (skR s : Int)) → v11 = (-1) → I88 y1 s11 ∧ m88 y1 s11 < m66 y1 s)
  (z10 : ∀ y1 : Int, ∀ s : mSt, I66 y1 s → ¬ y1 = 0 → ∀ v11 : Int, ∀ s11 : mSt, (v11 = (if nR s ≤ skR s then -1 else TR s (skR s)) ∧ s11 = uS s 407 8 (skR s : Int)) → ¬ v11 = (-1) → (0 ≤ (0 : Int) ∧ (0 : Int) ≤ 4) ∧ (0 ≤ (s11 407 8) ∧ (s11 407 8) ≤ 400))
  (z11 : ∀ y1 : Int, ∀ s : mSt, I66 y1 s → ¬ y1 = 0 → ∀ v11 : Int, ∀ s11 : mSt, (v11 = (if nR s ≤ skR s then -1 else TR s (skR s)) ∧ s11 = uS s 407 8 (skR s : Int)) → ¬ v11 = (-1) → ∀ v14 : Int, ∀ s14 : mSt, (v14 = 0 ∧ s14 = flR s11 (0 : Int) (s11 407 8)) → I88 y1 s14 ∧ m88 y1 s14 < m66 y1 s)
  (z12 : ∀ y1 : Int, ∀ s : mSt, I88 y1 s → ¬ ((uS s 407 1 0) 407 9) = 0 → ∀ t16 : mSt, t16 = uS s 407 1 0 → Q (some (mI 0)) t16)
  (z13 : ∀ y1 : Int, ∀ s : mSt, I88 y1 s → ((uS s 407 1 0) 407 9) = 0 → ∀ t18 : mSt, t18 = uS s 407 1 0 → Q (some (mI 1)) t18)
  (z14 : 0 ≤ (s 407 11) ∧ (s 407 11) < 7)
  (z15 : ∀ t19 : mSt, t19 = uS (uS (uS (uS (uS s 410 ((s 407 11).toNat) 0) 407 14 0) 407 8 0) 407 9 0) 407 12 0 → PAr t19)
  (z16 : ∀ t19 : mSt, t19 = uS (uS (uS (uS (uS s 410 ((s 407 11).toNat) 0) 407 14 0) 407 8 0) 407 9 0) 407 12 0 → ∀ s20 : mSt, PBr t19 s20 → I35 1 s20)
  (z17 : ∀ t19 : mSt, t19 = uS (uS (uS (uS (uS s 410 ((s 407 11).toNat) 0) 407 14 0) 407 8 0) 407 9 0) 407 12 0 → ∀ s21 : mSt, PCr t19 s21 → I35 0 s21) :
  Sp X (d + 11) 204 [mR 407] s Q := by
  have L : ∀ k : Nat, (∀ (y1 : Int) (s : mSt), I35 y1 s → m35 y1 s < k → Wp X (d + 11) 204 35 [some (mR 407), some (mI y1)] [] s Q) ∧ (∀ (y1 : Int) (s : mSt), I66 y1 s → m66 y1 s < k → Wp X (d + 11) 204 66 [some (mR 407), some (mI y1)] [] s Q) ∧ (∀ (y1 : Int) (s : mSt), I88 y1 s → m88 y1 s < k → Wp X (d + 11) 204 88 [some (mR 407), some (mI y1)] [] s Q) := by
    intro k
    induction k with
    | zero => exact ⟨fun _ _ _ h => absurd h (Nat.not_lt_zero _), fun _ _ _ h => absurd h (Nat.not_lt_zero _), fun _ _ _ h => absurd h (Nat.not_lt_zero _)⟩
    | succ k ih => exact ⟨fun y1 s hI hm => b204_35 (fun q1 => ih.2.1 y1 s (z1 y1 s hI q1).1 (Nat.lt_of_lt_of_le (z1 y1 s hI q1).2 (Nat.le_of_lt_succ hm))) (fun q2 => b204_39 (c174 (z2 y1 s hI q2) (fun v3 s3 q3 => ⟨v3, rfl, b204_43 (fun q4 => ih.2.1 y1 s3 (z3 y1 s hI q2 v3 s3 q3 q4).1 (Nat.lt_of_lt_of_le (z3 y1 s hI q2 v3 s3 q3 q4).2 (Nat.le_of_lt_succ hm))) (fun q5 => b204_48 (Sp_gen (fun t6 e6 => (c203 (z4 y1 s hI q2 v3 s3 q3 q5 t6 e6) (fun s7 q7 => ⟨1, rfl, b204_62 (ih.1 1 s7 (z5 y1 s hI q2 v3 s3 q3 q5 t6 e6 s7 q7).1 (Nat.lt_of_lt_of_le (z5 y1 s hI q2 v3 s3 q3 q5 t6 e6 s7 q7).2 (Nat.le_of_lt_succ hm)))⟩) (fun s8 q8 => ⟨0, rfl, b204_62 (ih.1 0 s8 (z6 y1 s hI q2 v3 s3 q3 q5 t6 e6 s8 q8).1 (Nat.lt_of_lt_of_le (z6 y1 s hI q2 v3 s3 q3 q5 t6 e6 s8 q8).2 (Nat.le_of_lt_succ hm)))⟩)))))⟩))), fun y1 s hI hm => b204_66 (fun q9 => ih.2.2 y1 s (z7 y1 s hI q9).1 (Nat.lt_of_lt_of_le (z7 y1 s hI q9).2 (Nat.le_of_lt_succ hm))) (fun q10 => b204_70 (c174 (z8 y1 s hI q10) (fun v11 s11 q11 => ⟨v11, rfl, b204_74 (fun q12 => ih.2.2 y1 s11 (z9 y1 s hI q10 v11 s11 q11 q12).1 (Nat.lt_of_lt_of_le (z9 y1 s hI q10 v11 s11 q11 q12).2 (Nat.le_of_lt_succ hm))) (fun q13 => b204_78 (c173 (z10 y1 s hI q10 v11 s11 q11 q13) (fun v14 s14 q14 => ⟨v14, rfl, b204_87 (ih.2.2 y1 s14 (z11 y1 s hI q10 v11 s11 q11 q13 v14 s14 q14).1 (Nat.lt_of_lt_of_le (z11 y1 s hI q10 v11 s11 q11 q13 v14 s14 q14).2 (Nat.le_of_lt_succ hm)))⟩)))⟩))), fun y1 s hI hm => b204_88 (fun q15 => Wp_gen (fun t16 e16 => b204_104 (b204_105 (z12 y1 s hI q15 t16 e16) (Or.inl rfl)))) (fun q17 => Wp_gen (fun t18 e18 => b204_100 (b204_105 (z13 y1 s hI q17 t18 e18) (Or.inr rfl))))⟩
  exact e204 (b204_0 z14 (Sp_gen (fun t19 e19 => (c203 (z15 t19 e19) (fun s20 q20 => ⟨1, rfl, b204_34 ((L (m35 1 s20 + 1)).1 1 s20 (z16 t19 e19 s20 q20) (Nat.lt_succ_self _))⟩) (fun s21 q21 => ⟨0, rfl, b204_34 ((L (m35 0 s21 + 1)).1 0 s21 (z17 t19 e19 s21 q21) (Nat.lt_succ_self _))⟩)))))

def stA (s : mSt) : mSt := uS (uS (uS (uS (uS s 410 ((s 407 11).toNat) 0) 407 14 0) 407 8 0) 407 9 0) 407 12 0
theorem rd_g {X : (Nat → Int) × Nat} {d : Nat} {s : mSt} {Q : mQ} (G W R : mSt → Prop) (f : Int) (hs : 0 ≤ s 407 11 ∧ s 407 11 < 7)
    (g1 : ∀ t, G t → TRq t ∧ t 407 9 = 0 ∧ tByt (TR t) ∧ G (uS t 407 8 (skR t : Int)))
    (g2 : ∀ t u, G t → tkK (TR t) (nR t) (skR t) = 59 → u = uS t 407 8 ((skR t + 1 : Nat) : Int) → PAr u ∧ (∀ v, PBr u v → G v ∧ skR t < skR v) ∧ ∀ v, PCr u v → W v ∧ v 407 9 = f ∧ ¬ f = 0)
    (g3 : ∀ t, G t → tkK (TR t) (nR t) (skR t) = -1 → f = 0 ∧ R t)
    (g4 : ∀ t, G t → ¬ tkK (TR t) (nR t) (skR t) = 59 → ¬ tkK (TR t) (nR t) (skR t) = -1 → f = fuA (skR t) 0 ∧ W (uS t 407 9 (fuA (skR t) 0)))
    (g0 : PAr (stA s) ∧ (∀ v, PBr (stA s) v → G v) ∧ ∀ v, PCr (stA s) v → W v ∧ v 407 9 = f ∧ ¬ f = 0)
    (k1 : f = 0 → ∀ t, R t → Q (some (mI 1)) (uS t 407 1 0)) (k0 : ¬ f = 0 → ∀ t, W t → t 407 9 = f → Q (some (mI 0)) (uS t 407 1 0)) : Sp X (d + 11) 204 [mR 407] s Q := by
  let I35 : Int → mSt → Prop := fun y t => (¬ y = 0 → G t) ∧ (y = 0 → W t ∧ t 407 9 = f ∧ ¬ f = 0)
  let I66 : Int → mSt → Prop := fun y t => (¬ y = 0 → G t ∧ ¬ tkK (TR t) (nR t) (skR t) = 59) ∧ (y = 0 → W t ∧ t 407 9 = f ∧ ¬ f = 0)
  let I88 : Int → mSt → Prop := fun _ t => (t 407 9 = 0 ∧ f = 0 ∧ R t) ∨ (W t ∧ t 407 9 = f ∧ ¬ f = 0)
  have raw : ∀ {t : mSt} {v : Int}, G t → v = (if nR t ≤ skR t then -1 else TR t (skR t)) → (v = 59 ↔ tkK (TR t) (nR t) (skR t) = 59) ∧ (v = -1 ↔ tkK (TR t) (nR t) (skR t) = -1) := fun {t v} hI ev => by
    have hT := (g1 t hI).2.2.1
    refine ⟨by rw [ev]; exact rw_k hT (by decide) (by decide) (by decide) (by decide), ?_⟩
    rw [ev]
    by_cases z : nR t ≤ skR t
    · rw [if_pos z]
      unfold tkK
      rw [if_pos z]
    · rw [if_neg z]
      refine ⟨fun y => by have := hT (skR t); omega, fun y => absurd y (fun y => ?_)⟩
      have b := hT (skR t)
      unfold tkK at y
      rw [if_neg z] at y
      revert y
      split
      · intro y; omega
      · split
        · intro y; omega
        · split
          · intro y; omega
          · split
            · intro y; omega
            · intro y; omega
  have see : ∀ t u : mSt, G t → u = uS t 407 8 (skR t : Int) → G u ∧ (TR u = TR t ∧ nR u = nR t ∧ skR u = skR t) ∧ u 407 8 = (skR t : Int) := by
    rintro t u hG rfl
    exact ⟨(g1 t hG).2.2.2, R8w, by rw [uS_at, if_pos rfl]⟩
  have nx : ∀ t u w : mSt, G t → u = uS t 407 8 (skR t : Int) → w = uS u 407 8 (w32 ((u 407 8) + 1)) → w = uS t 407 8 ((skR t + 1 : Nat) : Int) := by
    intro t u w hG e ew
    have b := skR_b (g1 t hG).1
    have q := see t u hG e
    rw [q.2.2, w32_of (by omega)] at ew
    rw [ew, e]
    funext c j
    show (if c = 407 ∧ j = 8 then _ else if c = 407 ∧ j = 8 then _ else _) = (if c = 407 ∧ j = 8 then _ else _)
    by_cases z : c = 407 ∧ j = 8
    · rw [if_pos z, if_pos z]; omega
    · rw [if_neg z, if_neg z, if_neg z]
  refine v204 I35 (fun y t => if y = 0 then 2 else 3 + (1000 - skR t)) I66 (fun _ _ => 1) I88 (fun _ _ => 0) ?_ ?_ ?_ ?_ ?_ ?_ ?_ ?_ ?_ ?_ ?_ ?_ ?_ hs ?_ ?_ ?_
  · rintro y t hI rfl
    exact ⟨⟨fun z => absurd rfl z, fun _ => hI.2 rfl⟩, by show 1 < if (0 : Int) = 0 then 2 else 3 + (1000 - skR t); rw [if_pos rfl]; decide⟩
  · intro y t hI hy
    exact (g1 t (hI.1 hy)).1
  · rintro y t hI hy v u ⟨ev, e⟩ hv
    have hG := hI.1 hy
    have q := see t u hG e
    refine ⟨⟨fun _ => ⟨q.1, fun z => hv ((raw hG ev).1.2 ?_)⟩, fun z => absurd z hy⟩, by show 1 < if y = 0 then 2 else 3 + (1000 - skR t); rw [if_neg hy]; omega⟩
    rw [q.2.1.1, q.2.1.2.1, q.2.1.2.2] at z
    exact z
  · rintro y t hI hy v u ⟨ev, e⟩ hv w ew
    have hG := hI.1 hy
    exact (g2 t w hG ((raw hG ev).1.1 hv) (nx t u w hG e ew)).1
  · rintro y t hI hy v u ⟨ev, e⟩ hv w ew x hx
    have hG := hI.1 hy
    have q := (g2 t w hG ((raw hG ev).1.1 hv) (nx t u w hG e ew)).2.1 x hx
    have b := skR_b (g1 x q.1).1
    refine ⟨⟨fun _ => q.1, fun z => absurd z (by decide)⟩, ?_⟩
    show (if (1 : Int) = 0 then 2 else 3 + (1000 - skR x)) < if y = 0 then 2 else 3 + (1000 - skR t)
    rw [if_neg (by decide), if_neg hy]
    have := q.2
    omega
  · rintro y t hI hy v u ⟨ev, e⟩ hv w ew x hx
    have hG := hI.1 hy
    have q := (g2 t w hG ((raw hG ev).1.1 hv) (nx t u w hG e ew)).2.2 x hx
    refine ⟨⟨fun z => absurd rfl z, fun _ => q⟩, ?_⟩
    show (if (0 : Int) = 0 then 2 else 3 + (1000 - skR x)) < if y = 0 then 2 else 3 + (1000 - skR t)
    rw [if_pos rfl, if_neg hy]
    omega
  · rintro y t hI rfl
    exact ⟨Or.inr (hI.2 rfl), by decide⟩
  · intro y t hI hy
    exact (g1 t (hI.1 hy).1).1
  · rintro y t hI hy v u ⟨ev, e⟩ hv
    have hG := (hI.1 hy).1
    have q := see t u hG e
    have k := (raw hG ev).2.1 hv
    have r := g3 u q.1 (by rw [q.2.1.1, q.2.1.2.1, q.2.1.2.2]; exact k)
    exact ⟨Or.inl ⟨(g1 u q.1).2.1, r.1, r.2⟩, by decide⟩
  · rintro y t hI hy v u ⟨ev, e⟩ hv
    have hG := (hI.1 hy).1
    have b := skR_b (g1 t hG).1
    rw [(see t u hG e).2.2]
    exact ⟨by decide, by omega⟩
  · rintro y t hI hy v u ⟨ev, e⟩ hv v4 w ⟨_, ew⟩
    have hG := (hI.1 hy).1
    have q := see t u hG e
    have kk : tkK (TR u) (nR u) (skR u) = tkK (TR t) (nR t) (skR t) := by rw [q.2.1.1, q.2.1.2.1, q.2.1.2.2]
    have r := g4 u q.1 (by rw [kk]; exact (hI.1 hy).2) (by rw [kk]; exact fun z => hv ((raw hG ev).2.2 z))
    have e2 : w = uS u 407 9 (fuA (skR u) 0) := by
      rw [ew]; unfold flR; rw [if_pos (g1 u q.1).2.1, q.2.2, q.2.1.2.2]; rfl
    refine ⟨Or.inr ⟨by rw [e2]; exact r.2, by rw [e2, uS_at, if_pos rfl]; exact r.1.symm, by rw [r.1]; unfold fuA; omega⟩, by decide⟩
  · rintro y t hI hz u e
    rw [uS_at, if_neg (by decide)] at hz
    rcases hI with h | h
    · exact absurd h.1 hz
    · rw [e]; exact k0 h.2.2 t h.1 h.2.1
  · rintro y t hI hz u e
    rw [uS_at, if_neg (by decide)] at hz
    rcases hI with h | h
    · rw [e]; exact k1 h.2.1 t h.2.2
    · exact absurd (h.2.1.symm.trans hz) h.2.2
  · rintro t rfl
    exact g0.1
  · rintro t rfl v hv
    exact ⟨fun _ => g0.2.1 v hv, fun z => absurd z (by decide)⟩
  · rintro t rfl v hv
    exact ⟨fun z => absurd rfl z, fun _ => g0.2.2 v hv⟩
