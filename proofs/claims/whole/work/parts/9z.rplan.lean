/-! clauses of a rule: the reference -/
def clR (s : mSt) (L : List Int) : Int × Nat × Int × List Int × Nat := clF (TR s) (nR s) 0 (skR s) (s 407 12) L
def fRc (s t : mSt) : Prop := (∀ b, b ≠ 407 → ¬ (409 ≤ b ∧ b ≤ 412) → b ≠ 414 → t b = s b) ∧ (∀ j, ¬ (8 ≤ j ∧ j ≤ 10) → ¬ (12 ≤ j ∧ j ≤ 13) → j ≠ 16 → t 407 j = s 407 j) ∧ (∀ j, j ≠ txR s → t 410 j = s 410 j) ∧ (∀ j, ¬ (400 * txR s ≤ j ∧ j < 400 * txR s + 400) → t 409 j = s 409 j) ∧ (∀ j, j ≠ txR s → t 412 j = s 412 j) ∧ ∀ j, ¬ (48 * txR s ≤ j ∧ j < 48 * txR s + 48) → t 411 j = s 411 j
theorem fRc_x {s t : mSt} (h : fRc s t) : txR t = txR s ∧ TR t = TR s ∧ nR t = nR s := by
  refine ⟨?_, ?_, ?_⟩
  · unfold txR; rw [h.2.1 11 (by decide) (by decide) (by decide)]
  · unfold TR; rw [h.1 408 (by decide) (by decide) (by decide)]
  · unfold nR; rw [h.2.1 1 (by decide) (by decide) (by decide)]
theorem fRc_t {s t u : mSt} (h1 : fRc s t) (h2 : fRc t u) : fRc s u := by
  have e := (fRc_x h1).1
  obtain ⟨b1, b2, b3, b4, b5, b6⟩ := h2
  rw [e] at b3 b4 b5 b6
  exact ⟨fun b a1 a2 a3 => (b1 b a1 a2 a3).trans (h1.1 b a1 a2 a3), fun j g1 g2 g3 => (b2 j g1 g2 g3).trans (h1.2.1 j g1 g2 g3), fun j g => (b3 j g).trans (h1.2.2.1 j g), fun j g => (b4 j g).trans (h1.2.2.2.1 j g), fun j g => (b5 j g).trans (h1.2.2.2.2.1 j g), fun j g => (b6 j g).trans (h1.2.2.2.2.2 j g)⟩
theorem fRt_c {s t : mSt} (h : fRt s t) : fRc s t := ⟨fun b a1 a2 a3 => h.1 b a1 (by omega) (by omega) a3, h.2.1, h.2.2.1, h.2.2.2, fun j _ => by rw [h.1 412 (by decide) (by decide) (by decide) (by decide)], fun j _ => by rw [h.1 411 (by decide) (by decide) (by decide) (by decide)]⟩
theorem fRc_0 (s : mSt) : fRc s s := fRt_c (fRt_0 s)
theorem fRc_1 {s t : mSt} (h : fRc s t) {j : Nat} (x : Int) (hj : 48 * txR s ≤ j ∧ j < 48 * txR s + 48) : fRc s (uS t 411 j x) := by
  refine fRc_t h ?_
  have e := (fRc_x h).1
  refine ⟨fun b a1 a2 a3 => uS_cell (by omega), fun i _ _ _ => by rw [uS_cell (by decide)], fun i _ => by rw [uS_cell (by decide)], fun i _ => by rw [uS_cell (by decide)], fun i _ => by rw [uS_cell (by decide)], fun i hi => ?_⟩
  rw [e] at hi
  rw [uS_at, if_neg (by omega)]
theorem o4_s {t u : mSt} (h7 : u 407 = t 407) (h8 : u 408 = t 408) (h9 : u 409 = t 409) (h10 : u 410 = t 410) : skR u = skR t ∧ lnR u = lnR t ∧ sgB u = sgB t ∧ TR u = TR t ∧ nR u = nR t ∧ txR u = txR t ∧ (RHq t → RHq u) := by
  have e1 : TR u = TR t := by unfold TR; rw [h8]
  have e2 : nR u = nR t := by unfold nR; rw [h7]
  have e3 : txR u = txR t := by unfold txR; rw [h7]
  have e4 : lnR u = lnR t := by unfold lnR; rw [e3, h10]
  refine ⟨by unfold skR; rw [e1, e2, h7], e4, by unfold sgB; rw [e3, e4, h9], e1, e2, e3, fun h => ?_⟩
  unfold RHq TRq at h ⊢
  rw [h7, h8, e4]; exact h
theorem sg_n {t : mSt} {M : List Int} (h : SGq t M) (h0 : 0 ≤ lnR t) : lnR t = (M.length : Int) := by
  have e : (sgB t).length = (M.map encC).length := by rw [h]
  unfold sgB at e
  rw [List.length_map, List.length_range, List.length_map] at e
  omega
def atR (s : mSt) : Nat := 48 * txR s + 4 * (s 412 (txR s)).toNat
def CWq (f g : Rw) (a l e m : Nat) : Prop := ∀ j, g j = if j = a then (l : Int) else if j = a + 1 then (e : Int) else if j = a + 2 then (if m ≤ e then -1 else (e : Int)) else if j = a + 3 then (m : Int) else f j
def PH1 (s t : mSt) : Prop := (RHq t ∧ fRc s t ∧ lnR t ≤ (skR t : Int) ∧ skR s < skR t) ∧ t 412 (txR s) = s 412 (txR s) + 1 ∧ ∀ L, SGq s L → (clR s L).1 = 0 ∧ skR t = (clR s L).2.1 ∧ t 407 12 = (clR s L).2.2.1 ∧ SGq t (clR s L).2.2.2.1 ∧ CWq (s 411) (t 411) (atR s) L.length (clR s L).2.2.2.2 (clR s L).2.2.2.1.length
def PH0 (s t : mSt) : Prop := 0 < t 407 9 ∧ fRc s t ∧ ∀ L, SGq s L → (clR s L).1 = t 407 9
theorem v195 {X : (Nat → Int) × Nat} {d : Nat} {s : mSt} {Q : mQ}
  (I48 : Int → mSt → Prop) (m48 : Int → mSt → Nat)
  (I110 : Int → mSt → Prop) (m110 : Int → mSt → Nat)
  (z1 : ∀ y1 : Int, ∀ s : mSt, I48 y1 s → 0 ≤ (s 407 11) ∧ (s 407 11) < 7)
  (z2 : ∀ y1 : Int, ∀ s : mSt, I48 y1 s → 0 ≤ (w32 (y1 + 1)) ∧ (w32 (y1 + 1)) < 288)
  (z3 : ∀ y1 : Int, ∀ s : mSt, I48 y1 s → 0 ≤ (w32 (y1 + 2)) ∧ (w32 (y1 + 2)) < 288)
  (z4 : ∀ y1 : Int, ∀ s : mSt, I48 y1 s → ∀ t1 : mSt, t1 = uS (uS s 411 ((w32 (y1 + 1)).toNat) (s 410 (s 407 11).toNat)) 411 ((w32 (y1 + 2)).toNat) (-1) → TRq t1)
  (z5 : ∀ y1 : Int, ∀ s : mSt, I48 y1 s → ∀ t1 : mSt, t1 = uS (uS s 411 ((w32 (y1 + 1)).toNat) (s 410 (s 407 11).toNat)) 411 ((w32 (y1 + 2)).toNat) (-1) → ∀ s2 : mSt, (iwR t1 (294 : Int) ∧ s2 = uS t1 407 8 (leT (TR t1) (nR t1) (skR t1) : Int)) → 0 ≤ (s2 407 11) ∧ (s2 407 11) < 7)
  (z6 : ∀ y1 : Int, ∀ s : mSt, I48 y1 s → ∀ t1 : mSt, t1 = uS (uS s 411 ((w32 (y1 + 1)).toNat) (s 410 (s 407 11).toNat)) 411 ((w32 (y1 + 2)).toNat) (-1) → ∀ s2 : mSt, (iwR t1 (294 : Int) ∧ s2 = uS t1 407 8 (leT (TR t1) (nR t1) (skR t1) : Int)) → 0 ≤ (w32 (y1 + 2)) ∧ (w32 (y1 + 2)) < 288)
  (z7 : ∀ y1 : Int, ∀ s : mSt, I48 y1 s → ∀ t1 : mSt, t1 = uS (uS s 411 ((w32 (y1 + 1)).toNat) (s 410 (s 407 11).toNat)) 411 ((w32 (y1 + 2)).toNat) (-1) → ∀ s2 : mSt, (iwR t1 (294 : Int) ∧ s2 = uS t1 407 8 (leT (TR t1) (nR t1) (skR t1) : Int)) → ∀ t3 : mSt, t3 = uS s2 411 ((w32 (y1 + 2)).toNat) (s2 410 (s2 407 11).toNat) → RHq t3 ∧ lnR t3 ≤ (skR t3 : Int) ∧ ∃ L, SGq t3 L)
  (z8 : ∀ y1 : Int, ∀ s : mSt, I48 y1 s → ∀ t1 : mSt, t1 = uS (uS s 411 ((w32 (y1 + 1)).toNat) (s 410 (s 407 11).toNat)) 411 ((w32 (y1 + 2)).toNat) (-1) → ∀ s2 : mSt, (iwR t1 (294 : Int) ∧ s2 = uS t1 407 8 (leT (TR t1) (nR t1) (skR t1) : Int)) → ∀ t3 : mSt, t3 = uS s2 411 ((w32 (y1 + 2)).toNat) (s2 410 (s2 407 11).toNat) → ∀ s4 : mSt, TE1 t3 s4 → I110 y1 s4 ∧ m110 y1 s4 < m48 y1 s)
  (z9 : ∀ y1 : Int, ∀ s : mSt, I48 y1 s → ∀ t1 : mSt, t1 = uS (uS s 411 ((w32 (y1 + 1)).toNat) (s 410 (s 407 11).toNat)) 411 ((w32 (y1 + 2)).toNat) (-1) → ∀ s2 : mSt, (iwR t1 (294 : Int) ∧ s2 = uS t1 407 8 (leT (TR t1) (nR t1) (skR t1) : Int)) → ∀ t3 : mSt, t3 = uS s2 411 ((w32 (y1 + 2)).toNat) (s2 410 (s2 407 11).toNat) → ∀ s5 : mSt, TE0 t3 s5 → Q (some (mI 0)) s5)
  (z10 : ∀ y1 : Int, ∀ s : mSt, I48 y1 s → ∀ t1 : mSt, t1 = uS (uS s 411 ((w32 (y1 + 1)).toNat) (s 410 (s 407 11).toNat)) 411 ((w32 (y1 + 2)).toNat) (-1) → ∀ s6 : mSt, (¬ iwR t1 (294 : Int) ∧ s6 = uS t1 407 8 (skR t1 : Int)) → I110 y1 s6 ∧ m110 y1 s6 < m48 y1 s)
  (z11 : ∀ y1 : Int, ∀ s : mSt, I110 y1 s → 0 ≤ (s 407 11) ∧ (s 407 11) < 7)
  (z12 : ∀ y1 : Int, ∀ s : mSt, I110 y1 s → 0 ≤ (w32 (y1 + 3)) ∧ (w32 (y1 + 3)) < 288)
  (z13 : ∀ y1 : Int, ∀ s : mSt, I110 y1 s → 0 ≤ ((uS s 411 ((w32 (y1 + 3)).toNat) (s 410 (s 407 11).toNat)) 407 11) ∧ ((uS s 411 ((w32 (y1 + 3)).toNat) (s 410 (s 407 11).toNat)) 407 11) < 6)
  (z14 : ∀ y1 : Int, ∀ s : mSt, I110 y1 s → Q (some (mI 1)) (uS (uS s 411 ((w32 (y1 + 3)).toNat) (s 410 (s 407 11).toNat)) 412 (((uS s 411 ((w32 (y1 + 3)).toNat) (s 410 (s 407 11).toNat)) 407 11).toNat) (w32 (((uS s 411 ((w32 (y1 + 3)).toNat) (s 410 (s 407 11).toNat)) 412 ((uS s 411 ((w32 (y1 + 3)).toNat) (s 410 (s 407 11).toNat)) 407 11).toNat) + 1))))
  (z15 : TRq s)
  (z16 : ∀ s7 : mSt, s7 = uS s 407 8 (leT (TR s) (nR s) (s 407 8).toNat : Int) → 0 ≤ (s7 407 11) ∧ (s7 407 11) < 6)
  (z17 : ∀ s7 : mSt, s7 = uS s 407 8 (leT (TR s) (nR s) (s 407 8).toNat : Int) → 0 ≤ (s7 407 11) ∧ (s7 407 11) < 7)
  (z18 : ∀ s7 : mSt, s7 = uS s 407 8 (leT (TR s) (nR s) (s 407 8).toNat : Int) → 0 ≤ (w32 ((w32 (48 * (s7 407 11))) + (w32 (4 * (s7 412 (s7 407 11).toNat))))) ∧ (w32 ((w32 (48 * (s7 407 11))) + (w32 (4 * (s7 412 (s7 407 11).toNat))))) < 288)
  (z19 : ∀ s7 : mSt, s7 = uS s 407 8 (leT (TR s) (nR s) (s 407 8).toNat : Int) → ∀ t8 : mSt, t8 = uS s7 411 ((w32 ((w32 (48 * (s7 407 11))) + (w32 (4 * (s7 412 (s7 407 11).toNat))))).toNat) (s7 410 (s7 407 11).toNat) → RHq t8 ∧ lnR t8 ≤ (skR t8 : Int) ∧ ∃ L, SGq t8 L)
  (z20 : ∀ s7 : mSt, s7 = uS s 407 8 (leT (TR s) (nR s) (s 407 8).toNat : Int) → ∀ t8 : mSt, t8 = uS s7 411 ((w32 ((w32 (48 * (s7 407 11))) + (w32 (4 * (s7 412 (s7 407 11).toNat))))).toNat) (s7 410 (s7 407 11).toNat) → ∀ s9 : mSt, (TZq t8 s9 ∧ ∀ L, SGq t8 L → TM1 t8 s9 (smR t8 L)) → I48 (w32 ((w32 (48 * (s7 407 11))) + (w32 (4 * (s7 412 (s7 407 11).toNat))))) s9)
  (z21 : ∀ s7 : mSt, s7 = uS s 407 8 (leT (TR s) (nR s) (s 407 8).toNat : Int) → ∀ t8 : mSt, t8 = uS s7 411 ((w32 ((w32 (48 * (s7 407 11))) + (w32 (4 * (s7 412 (s7 407 11).toNat))))).toNat) (s7 410 (s7 407 11).toNat) → ∀ s10 : mSt, (∀ L, SGq t8 L → RZ0 t8 s10 (smR t8 L).1) → Q (some (mI 0)) s10) :
  Sp X (d + 9) 195 [mR 407] s Q := by
  have L : ∀ k : Nat, (∀ (y1 : Int) (s : mSt), I48 y1 s → m48 y1 s < k → Wp X (d + 9) 195 48 [some (mR 407), some (mI y1)] [] s Q) ∧ (∀ (y1 : Int) (s : mSt), I110 y1 s → m110 y1 s < k → Wp X (d + 9) 195 110 [some (mR 407), some (mI y1)] [] s Q) := by
    intro k
    induction k with
    | zero => exact ⟨fun _ _ _ h => absurd h (Nat.not_lt_zero _), fun _ _ _ h => absurd h (Nat.not_lt_zero _)⟩
    | succ k ih => exact ⟨fun y1 s hI hm => b195_48 (z1 y1 s hI) (z2 y1 s hI) (z3 y1 s hI) (Sp_gen (fun t1 e1 => (c179 (z4 y1 s hI t1 e1) (fun s2 q2 => ⟨1, rfl, b195_81 (fun q => absurd q (by decide)) (fun _ => b195_84 (z5 y1 s hI t1 e1 s2 q2) (z6 y1 s hI t1 e1 s2 q2) (Sp_gen (fun t3 e3 => (c194 (z7 y1 s hI t1 e1 s2 q2 t3 e3) (fun s4 q4 => ⟨1, rfl, b195_105 (fun _ => ih.2 y1 s4 (z8 y1 s hI t1 e1 s2 q2 t3 e3 s4 q4).1 (Nat.lt_of_lt_of_le (z8 y1 s hI t1 e1 s2 q2 t3 e3 s4 q4).2 (Nat.le_of_lt_succ hm))) (fun q => absurd q (by decide))⟩) (fun s5 q5 => ⟨0, rfl, b195_105 (fun q => absurd q (by decide)) (fun _ => b195_108 (z9 y1 s hI t1 e1 s2 q2 t3 e3 s5 q5))⟩)))))⟩) (fun s6 q6 => ⟨0, rfl, b195_81 (fun _ => ih.2 y1 s6 (z10 y1 s hI t1 e1 s6 q6).1 (Nat.lt_of_lt_of_le (z10 y1 s hI t1 e1 s6 q6).2 (Nat.le_of_lt_succ hm))) (fun q => absurd q (by decide))⟩)))), fun y1 s hI hm => b195_110 (z11 y1 s hI) (z12 y1 s hI) (z13 y1 s hI) (z13 y1 s hI) (z14 y1 s hI)⟩
  exact e195 (b195_0 (c178 z15 (fun s7 q7 => ⟨rfl, b195_4 (z16 s7 q7) (z17 s7 q7) (z18 s7 q7) (Sp_gen (fun t8 e8 => (c189 (z19 s7 q7 t8 e8) (fun s9 q9 => ⟨1, rfl, b195_43 (fun _ => (L (m48 (w32 ((w32 (48 * (s7 407 11))) + (w32 (4 * (s7 412 (s7 407 11).toNat))))) s9 + 1)).1 (w32 ((w32 (48 * (s7 407 11))) + (w32 (4 * (s7 412 (s7 407 11).toNat))))) s9 (z20 s7 q7 t8 e8 s9 q9) (Nat.lt_succ_self _)) (fun q => absurd q (by decide))⟩) (fun s10 q10 => ⟨0, rfl, b195_43 (fun q => absurd q (by decide)) (fun _ => b195_46 (z21 s7 q7 t8 e8 s10 q10))⟩))))⟩)))

theorem c195 {X : (Nat → Int) × Nat} {d : Nat} {s : mSt} {Q : mQ} (p1 : RHq s ∧ lnR s ≤ (skR s : Int) ∧ (∃ L, SGq s L) ∧ s 407 8 = (skR s : Int) ∧ wnA (TR s) (nR s) (skR s) = 14 ∧ (0 ≤ s 412 (txR s) ∧ s 412 (txR s) < 12)) (k1 : ∀ t : mSt, (PH1 s t) → Q (some (mI 1)) t) (k0 : ∀ t : mSt, (PH0 s t) → Q (some (mI 0)) t) : Sp X (d + 9) 195 [mR 407] s Q := by
  obtain ⟨h, hl, ⟨L0, hL0⟩, h8, h14, hc⟩ := p1
  have hT := TR_t h.1
  have hb := skR_b h.1
  have tx6 := h.2.2.2.2
  have txe : (txR s : Int) = s 407 11 := by unfold txR; omega
  have ate : ((atR s : Nat) : Int) = 48 * s 407 11 + 4 * s 412 (txR s) := by unfold atR; omega
  have lt : skR s < nR s := k_lt (by rw [w_257 (by decide) h14]; decide)
  have nb := nxA_b (TR s) (Nat.le_of_lt lt)
  have nlt := nb.2.2 lt
  have atb : 48 * txR s ≤ atR s ∧ atR s + 3 < 48 * txR s + 48 ∧ atR s + 3 < 288 := by unfold atR; omega
  have cl0 : ∀ L, clR s L = if (sumF (TR s) (nR s) (nxR s) (s 407 12) L (-1) (-1)).1 = 0 then cl2 (TR s) (nR s) (sumF (TR s) (nR s) (nxR s) (s 407 12) L (-1) (-1)) else cbd (sumF (TR s) (nR s) (nxR s) (s 407 12) L (-1) (-1)).1 := fun L => by
    unfold clR clF
    rw [if_pos h14, if_neg (by decide)]
    rfl
  let C : mSt → Prop := fun t => RHq t ∧ fRc s t ∧ lnR t ≤ (skR t : Int) ∧ skR s < skR t ∧ t 412 = s 412
  let I48 : Int → mSt → Prop := fun a t => a = (atR s : Int) ∧ C t ∧ ∀ L, SGq s L → ∃ M, SGq t M ∧ sumF (TR s) (nR s) (nxR s) (s 407 12) L (-1) (-1) = (0, skR t, t 407 12, M) ∧ ∀ j, t 411 j = if j = atR s then (L.length : Int) else s 411 j
  let I110 : Int → mSt → Prop := fun a t => a = (atR s : Int) ∧ C t ∧ ∀ L, SGq s L → ∃ M e, SGq t M ∧ clR s L = (0, skR t, t 407 12, M, e) ∧ ∀ j, t 411 j = if j = atR s then (L.length : Int) else if j = atR s + 1 then (e : Int) else if j = atR s + 2 then (if M.length ≤ e then -1 else (e : Int)) else s 411 j
  have c11 : ∀ t : mSt, C t → (0 ≤ t 407 11 ∧ t 407 11 < 6) ∧ txR t = txR s := fun t hC => ⟨hC.1.2.2.2.2, (fRc_x hC.2.1).1⟩
  have aw : ∀ {y : Int} (i : Nat), y = (atR s : Int) → i ≤ 3 → w32 (y + (i : Int)) = ((atR s + i : Nat) : Int) := fun {y} i e hi => by rw [e, w32_of (by omega)]; omega
  -- the first two cells
  have st1 : ∀ (y : Int) (t u : mSt), I48 y t → u = uS (uS t 411 (w32 (y + 1)).toNat (t 410 (t 407 11).toNat)) 411 (w32 (y + 2)).toNat (-1) → C u ∧ skR u = skR t ∧ lnR u = lnR t ∧ sgB u = sgB t ∧ u 407 = t 407 ∧ (TR u = TR s ∧ nR u = nR s) ∧ ∀ j, u 411 j = if j = atR s + 2 then -1 else if j = atR s + 1 then lnR t else t 411 j := by
    rintro y t u ⟨ey, hC, hR⟩ e
    have a1 := aw 1 ey (by decide)
    have a2 := aw 2 ey (by decide)
    rw [show w32 (y + 1) = ((atR s + 1 : Nat) : Int) from a1, show w32 (y + 2) = ((atR s + 2 : Nat) : Int) from a2, tnc, tnc] at e
    have o := o4_s (t := t) (u := u) (by rw [e, uS_cell (by decide), uS_cell (by decide)]) (by rw [e, uS_cell (by decide), uS_cell (by decide)]) (by rw [e, uS_cell (by decide), uS_cell (by decide)]) (by rw [e, uS_cell (by decide), uS_cell (by decide)])
    obtain ⟨o1, o2, o3, o4, o5, o6, o7⟩ := o
    have x := fRc_x hC.2.1
    refine ⟨⟨o7 hC.1, by rw [e]; exact fRc_1 (fRc_1 hC.2.1 _ (by omega)) _ (by omega), by rw [o1, o2]; exact hC.2.2.1, by rw [o1]; exact hC.2.2.2.1, by rw [e, uS_cell (by decide), uS_cell (by decide)]; exact hC.2.2.2.2⟩, o1, o2, o3, by rw [e, uS_cell (by decide), uS_cell (by decide)], ⟨o4.trans x.2.1, o5.trans x.2.2⟩, fun j => ?_⟩
    rw [e, uS_at, uS_at]
    rfl
  have st2 : ∀ (y : Int) (t u v w : mSt), I48 y t → u = uS (uS t 411 (w32 (y + 1)).toNat (t 410 (t 407 11).toNat)) 411 (w32 (y + 2)).toNat (-1) → (iwR u (294 : Int) ∧ v = uS u 407 8 (leT (TR u) (nR u) (skR u) : Int)) → w = uS v 411 (w32 (y + 2)).toNat (v 410 (v 407 11).toNat) → C w ∧ skR w = nxA (TR s) (nR s) (skR t) ∧ skR t < nR s ∧ sgB w = sgB t ∧ w 407 12 = t 407 12 ∧ wnA (TR s) (nR s) (skR t) = 15 ∧ (TR w = TR s ∧ nR w = nR s) ∧ ∀ j, w 411 j = if j = atR s + 2 then lnR t else if j = atR s + 1 then lnR t else t 411 j := by
    rintro y t u v w hI e ⟨hw, ev⟩ ew
    obtain ⟨uC, u1, u2, u3, u4, u5, u6⟩ := st1 y t u hI e
    obtain ⟨ey, hC, hR⟩ := hI
    have wn : wnA (TR s) (nR s) (skR t) = 15 := by
      have := (iw_k uC.1.1 (k := 15) (by decide) cWd.2.1).1 hw
      rw [u5.1, u5.2, u1] at this; exact this
    have tL := (tkL hT).1 (w_257 (by decide) wn)
    have lb := (leT_b (TR s) (nR s) (skR t)).2 (Nat.le_of_lt tL.1)
    rw [u5.1, u5.2, u1] at ev
    have g := RG_8 uC.1 (a := leT (TR s) (nR s) (skR t)) (by rw [u5.2]; exact lb)
    rw [← ev] at g
    have kv : skR v = nxA (TR s) (nR s) (skR t) := by
      rw [g.2.1, u5.1, u5.2]; unfold nxA; rw [tkP_L tL]
    have fv := fRt_c (fRv_T g.1.2.2.2.2)
    have a2 := aw 2 ey (by decide)
    rw [show w32 (y + 2) = ((atR s + 2 : Nat) : Int) from a2, tnc] at ew
    obtain ⟨o1, o2, o3, o4, o5, o6, o7⟩ := o4_s (t := v) (u := w) (by rw [ew, uS_cell (by decide)]) (by rw [ew, uS_cell (by decide)]) (by rw [ew, uS_cell (by decide)]) (by rw [ew, uS_cell (by decide)])
    have fw : fRc s w := by rw [ew]; exact fRc_1 (fRc_t uC.2.1 fv) _ (by omega)
    have x := fRc_x fw
    have n2 := (nxA_b (TR s) (Nat.le_of_lt tL.1)).2.2 tL.1
    have l1 := hC.2.2.1
    have l2 := hC.2.2.2.1
    have g3 := g.2.2.1
    have v411 : v 411 = u 411 := by rw [ev, uS_cell (by decide)]
    refine ⟨⟨o7 (RG_H uC.1 g.1), fw, by omega, by omega, by rw [ew, uS_cell (by decide), ev, uS_cell (by decide)]; exact uC.2.2.2.2⟩, o1.trans kv, tL.1, by rw [o3, g.2.2.2.1, u3], ?_, wn, ⟨x.2.1, x.2.2⟩, fun j => ?_⟩
    · rw [ew, uS_cell (by decide), g.2.2.2.2.1, u4]
    · rw [ew, uS_at]
      show (if j = atR s + 2 then lnR v else v 411 j) = _
      rw [v411, u6, g3, u2]
      by_cases z : j = atR s + 2
      · rw [if_pos z, if_pos z]
      · rw [if_neg z, if_neg z, if_neg z]
  have ps : ∀ u : mSt, u = uS s 407 8 (leT (TR s) (nR s) (s 407 8).toNat : Int) → RHq u ∧ fRc s u ∧ skR u = nxR s ∧ lnR u = lnR s ∧ sgB u = sgB s ∧ u 407 11 = s 407 11 ∧ u 407 12 = s 407 12 ∧ (TR u = TR s ∧ nR u = nR s) ∧ u 412 = s 412 ∧ u 411 = s 411 := by
    intro u e
    have tL := (tkL hT).1 (w_257 (by decide) h14)
    have lb := (leT_b (TR s) (nR s) (skR s)).2 (Nat.le_of_lt tL.1)
    rw [h8, tnc] at e
    have g := RG_8 h (a := leT (TR s) (nR s) (skR s)) lb
    rw [← e] at g
    have fu := fRt_c (fRv_T g.1.2.2.2.2)
    have x := fRc_x fu
    exact ⟨RG_H h g.1, fu, by rw [g.2.1]; unfold nxR nxA; rw [tkP_L tL], g.2.2.1, g.2.2.2.1, by rw [e, uS_at, if_neg (by decide)], g.2.2.2.2.1, ⟨x.2.1, x.2.2⟩, by rw [e, uS_cell (by decide)], by rw [e, uS_cell (by decide)]⟩
  have wat : ∀ u : mSt, u = uS s 407 8 (leT (TR s) (nR s) (s 407 8).toNat : Int) → w32 ((w32 (48 * (u 407 11))) + (w32 (4 * (u 412 (u 407 11).toNat)))) = ((atR s : Nat) : Int) := by
    intro u e
    obtain ⟨_, _, _, _, _, p6, _, _, p9, _⟩ := ps u e
    rw [p6, p9]
    show w32 (w32 (48 * s 407 11) + w32 (4 * s 412 (txR s))) = _
    rw [w32_of (show -2147483648 ≤ 48 * s 407 11 ∧ 48 * s 407 11 < 2147483648 by omega), w32_of (show -2147483648 ≤ 4 * s 412 (txR s) ∧ 4 * s 412 (txR s) < 2147483648 by omega), w32_of (by omega), ate]
  have st0 : ∀ u v : mSt, u = uS s 407 8 (leT (TR s) (nR s) (s 407 8).toNat : Int) → v = uS u 411 ((w32 ((w32 (48 * (u 407 11))) + (w32 (4 * (u 412 (u 407 11).toNat))))).toNat) (u 410 (u 407 11).toNat) → RHq v ∧ fRc s v ∧ skR v = nxR s ∧ lnR v = lnR s ∧ sgB v = sgB s ∧ v 407 12 = s 407 12 ∧ (TR v = TR s ∧ nR v = nR s) ∧ v 412 = s 412 ∧ ∀ j, v 411 j = if j = atR s then lnR s else s 411 j := by
    intro u v e ev
    rw [wat u e, tnc] at ev
    obtain ⟨p1, p2, p3, p4, p5, p6, p7, p8, p9, p10⟩ := ps u e
    obtain ⟨o1, o2, o3, o4, o5, o6, o7⟩ := o4_s (t := u) (u := v) (by rw [ev, uS_cell (by decide)]) (by rw [ev, uS_cell (by decide)]) (by rw [ev, uS_cell (by decide)]) (by rw [ev, uS_cell (by decide)])
    refine ⟨o7 p1, by rw [ev]; exact fRc_1 p2 _ (by omega), o1.trans p3, o2.trans p4, o3.trans p5, by rw [ev, uS_cell (by decide)]; exact p7, ⟨o4.trans p8.1, o5.trans p8.2⟩, by rw [ev, uS_cell (by decide)]; exact p9, fun j => ?_⟩
    rw [ev, uS_at, p10]
    show (if j = atR s then lnR u else s 411 j) = _
    rw [p4]
  refine v195 I48 (fun _ _ => 1) I110 (fun _ _ => 0) ?_ ?_ ?_ ?_ ?_ ?_ ?_ ?_ ?_ ?_ ?_ ?_ ?_ ?_ h.1 ?_ ?_ ?_ ?_ ?_ ?_
  · intro y t hI
    have := (c11 t hI.2.1).1
    omega
  · intro y t hI
    have := aw 1 hI.1 (by decide)
    rw [show w32 (y + 1) = ((atR s + 1 : Nat) : Int) from this]; omega
  · intro y t hI
    have := aw 2 hI.1 (by decide)
    rw [show w32 (y + 2) = ((atR s + 2 : Nat) : Int) from this]; omega
  · intro y t hI u e
    exact (st1 y t u hI e).1.1.1
  · rintro y t hI u e v ⟨hw, ev⟩
    have q := st1 y t u hI e
    have := (c11 u q.1).1
    rw [ev, uS_at, if_neg (by decide)]; omega
  · intro y t hI u e v hv
    have := aw 2 hI.1 (by decide)
    rw [show w32 (y + 2) = ((atR s + 2 : Nat) : Int) from this]; omega
  · intro y t hI u e v hv w ew
    have q := st2 y t u v w hI e hv ew
    obtain ⟨M, m1, m2, m3⟩ := hI.2.2 L0 hL0
    exact ⟨q.1.1, q.1.2.2.1, M, by unfold SGq; rw [q.2.2.2.1]; exact m1⟩
  · rintro y t hI u e v hv w ew x ⟨⟨x1, x2, x3, x4⟩, x5⟩
    obtain ⟨q1, q2, q3, q4, q5, q6, q7, q8⟩ := st2 y t u v w hI e hv ew
    obtain ⟨ey, hC, hR⟩ := hI
    have l2 := q1.2.2.2.1
    have x412 : x 412 = w 412 := x2.1 412 (by decide) (by decide) (by decide) (by decide)
    have x411 : x 411 = w 411 := x2.1 411 (by decide) (by decide) (by decide) (by decide)
    refine ⟨⟨ey, ⟨x1, fRc_t q1.2.1 (fRt_c x2), x3, by omega, by rw [x412]; exact q1.2.2.2.2⟩, fun L hL => ?_⟩, Nat.zero_lt_one⟩
    obtain ⟨M, m1, m2, m3⟩ := hR L hL
    have m1w : SGq w M := by unfold SGq; rw [q4]; exact m1
    have r := x5 M m1w
    have er : tsR w M = tsF (TR s) (nR s) (nxA (TR s) (nR s) (skR t)) (t 407 12) M := by
      unfold tsR; rw [q7.1, q7.2, q2, q5]
    rw [er] at r
    have n2 := (nxA_b (TR s) (Nat.le_of_lt q3)).2.1
    have ty := ty_ts (L := M) n2 hC.1.2.2.1.2 r.1
    have ec : clR s L = (0, (tsF (TR s) (nR s) (nxA (TR s) (nR s) (skR t)) (t 407 12) M).2.1, (tsF (TR s) (nR s) (nxA (TR s) (nR s) (skR t)) (t 407 12) M).2.2.1, (tsF (TR s) (nR s) (nxA (TR s) (nR s) (skR t)) (t 407 12) M).2.2.2.1, M.length) := by
      rw [cl0, m2, if_pos rfl]
      unfold cl2
      rw [if_pos q6, if_pos r.1]
    generalize tsF (TR s) (nR s) (nxA (TR s) (nR s) (skR t)) (t 407 12) M = z at ec ty r
    obtain ⟨r1, r2, r3, r4⟩ := r
    obtain ⟨N, n1, n3, _⟩ := ty
    have gt : ¬ z.2.2.2.1.length ≤ M.length := by
      rw [n1, List.length_append]
      cases N with
      | nil => exact absurd n3 (by show ¬ (some ([] : List Bool) = some [true]); decide)
      | cons x N => rw [List.length_cons]; omega
    refine ⟨z.2.2.2.1, M.length, r4, by rw [ec, r2, r3], fun j => ?_⟩
    have ln := sg_n m1 hC.1.2.2.2.1
    rw [x411, q8, m3, if_neg gt, ln]
    by_cases j0 : j = atR s
    · rw [if_neg (by omega), if_neg (by omega), if_pos j0, if_pos j0]
    · rw [if_neg j0, if_neg j0]
      by_cases j1 : j = atR s + 1
      · rw [if_neg (by omega), if_pos j1, if_pos j1]
      · rw [if_neg j1, if_neg j1]
  · rintro y t hI u e v hv w ew x ⟨x1, x2, x3⟩
    obtain ⟨q1, q2, q3, q4, q5, q6, q7, q8⟩ := st2 y t u v w hI e hv ew
    obtain ⟨ey, hC, hR⟩ := hI
    refine k0 x ⟨x1, fRc_t q1.2.1 (fRt_c x2), fun L hL => ?_⟩
    obtain ⟨M, m1, m2, m3⟩ := hR L hL
    have m1w : SGq w M := by unfold SGq; rw [q4]; exact m1
    have r := x3 M m1w
    have er : tsR w M = tsF (TR s) (nR s) (nxA (TR s) (nR s) (skR t)) (t 407 12) M := by
      unfold tsR; rw [q7.1, q7.2, q2, q5]
    rw [er] at r
    rw [cl0, m2, if_pos rfl]
    unfold cl2
    rw [if_pos q6, if_neg (show ¬ (tsF (TR s) (nR s) (nxA (TR s) (nR s) (skR t)) (t 407 12) M).1 = 0 by omega)]
    exact r
  · rintro y t hI u e v ⟨hw, ev⟩
    obtain ⟨uC, u1, u2, u3, u4, u5, u6⟩ := st1 y t u hI e
    obtain ⟨ey, hC, hR⟩ := hI
    have wn : ¬ wnA (TR s) (nR s) (skR t) = 15 := fun z => hw ((iw_k uC.1.1 (k := 15) (by decide) cWd.2.1).2 (by rw [u5.1, u5.2, u1]; exact z))
    have g := see_s uC.1 ev
    have fv := fRt_c (fRv_T g.1.2.2.2.2)
    have g1 := g.2.1
    have g2 := g.2.2.1
    have l1 := hC.2.2.1
    have l2 := hC.2.2.2.1
    have v411 : v 411 = u 411 := by rw [ev, uS_cell (by decide)]
    refine ⟨⟨ey, ⟨RG_H uC.1 g.1, fRc_t uC.2.1 fv, by omega, by omega, by rw [ev, uS_cell (by decide)]; exact uC.2.2.2.2⟩, fun L hL => ?_⟩, Nat.zero_lt_one⟩
    obtain ⟨M, m1, m2, m3⟩ := hR L hL
    have ln := sg_n m1 hC.1.2.2.2.1
    refine ⟨M, M.length, by unfold SGq; rw [g.2.2.2.1, u3]; exact m1, ?_, fun j => ?_⟩
    · rw [cl0, m2, if_pos rfl]
      unfold cl2
      rw [if_neg wn, g1, u1, g.2.2.2.2.1, u4]
    · rw [v411, u6, m3, if_pos (Nat.le_refl _), ln]
      by_cases j0 : j = atR s
      · rw [if_neg (by omega), if_neg (by omega), if_pos j0, if_pos j0]
      · rw [if_neg j0, if_neg j0]
        by_cases j1 : j = atR s + 1
        · rw [if_neg (by omega), if_pos j1, if_pos j1]
        · rw [if_neg j1, if_neg j1]
  · intro y t hI
    have := (c11 t hI.2.1).1
    omega
  · intro y t hI
    have := aw 3 hI.1 (by decide)
    rw [show w32 (y + 3) = ((atR s + 3 : Nat) : Int) from this]; omega
  · intro y t hI
    rw [uS_cell (by decide)]
    exact (c11 t hI.2.1).1
  · rintro y t ⟨ey, hC, hR⟩
    have a3 := aw 3 ey (by decide)
    have x := fRc_x hC.2.1
    rw [show w32 (y + 3) = ((atR s + 3 : Nat) : Int) from a3, tnc]
    have e7 : (uS t 411 (atR s + 3) (t 410 (t 407 11).toNat)) 407 11 = t 407 11 := by rw [uS_cell (by decide)]
    have etx : (t 407 11).toNat = txR s := x.1
    rw [e7, etx]
    have e2 : (uS t 411 (atR s + 3) (t 410 (txR s))) 412 (txR s) = s 412 (txR s) := by rw [uS_cell (by decide), hC.2.2.2.2]
    rw [e2, w32_of (by omega)]
    generalize eu : uS (uS t 411 (atR s + 3) (t 410 (txR s))) 412 (txR s) (s 412 (txR s) + 1) = u
    have u411 : ∀ j, u 411 j = if j = atR s + 3 then t 410 (txR s) else t 411 j := fun j => by rw [← eu, uS_cell (by decide), uS_at]
    obtain ⟨o1, o2, o3, o4, o5, o6, o7⟩ := o4_s (t := t) (u := u) (by rw [← eu, uS_cell (by decide), uS_cell (by decide)]) (by rw [← eu, uS_cell (by decide), uS_cell (by decide)]) (by rw [← eu, uS_cell (by decide), uS_cell (by decide)]) (by rw [← eu, uS_cell (by decide), uS_cell (by decide)])
    have u407 : u 407 = t 407 := by rw [← eu, uS_cell (by decide), uS_cell (by decide)]
    have fu : fRc s u := by
      rw [← eu]
      refine fRc_t (fRc_1 hC.2.1 (t 410 (txR s)) (j := atR s + 3) (by omega)) ?_
      have ex : txR (uS t 411 (atR s + 3) (t 410 (txR s))) = txR s := by unfold txR; rw [uS_cell (by decide)]; exact etx
      refine ⟨fun b a1 a2 a3 => uS_cell (by omega), fun i _ _ _ => by rw [uS_cell (by decide)], fun i _ => by rw [uS_cell (by decide)], fun i _ => by rw [uS_cell (by decide)], fun i hi => ?_, fun i _ => by rw [uS_cell (by decide)]⟩
      rw [ex] at hi
      rw [uS_at, if_neg hi]
    refine k1 u ⟨⟨o7 hC.1, fu, by rw [o1, o2]; exact hC.2.2.1, by rw [o1]; exact hC.2.2.2.1⟩, by rw [← eu, uS_at, if_pos rfl], fun L hL => ?_⟩
    obtain ⟨M, e, m1, m2, m3⟩ := hR L hL
    have ln := sg_n m1 hC.1.2.2.2.1
    have ln' : t 410 (txR s) = (M.length : Int) := by rw [← ln]; unfold lnR; rw [x.1]
    rw [m2]
    refine ⟨rfl, o1, by rw [u407], by unfold SGq; rw [o3]; exact m1, fun j => ?_⟩
    show u 411 j = if j = atR s then (L.length : Int) else if j = atR s + 1 then (e : Int) else if j = atR s + 2 then (if M.length ≤ e then -1 else (e : Int)) else if j = atR s + 3 then (M.length : Int) else s 411 j
    rw [u411, m3, ln']
    by_cases j3 : j = atR s + 3
    · rw [if_pos j3, if_neg (by omega), if_neg (by omega), if_neg (by omega), if_pos j3]
    · rw [if_neg j3, if_neg j3]
  · intro u e
    rw [(ps u e).2.2.2.2.2.1]; exact tx6
  · intro u e
    rw [(ps u e).2.2.2.2.2.1]; omega
  · intro u e
    rw [wat u e]; omega
  · intro u e v ev
    obtain ⟨p1, p2, p3, p4, p5, p6, p7, p8, p9⟩ := st0 u v e ev
    exact ⟨p1, by rw [p3, p4]; show lnR s ≤ ((nxA (TR s) (nR s) (skR s) : Nat) : Int); omega, L0, by unfold SGq; rw [p5]; exact hL0⟩
  · rintro u e v ev w ⟨⟨g, gl, gk⟩, hw⟩
    obtain ⟨p1, p2, p3, p4, p5, p6, p7, p8, p9⟩ := st0 u v e ev
    rw [wat u e]
    have p3' : skR v = nxA (TR s) (nR s) (skR s) := p3
    have w411 : w 411 = v 411 := g.2.2.2.2.1 411 (by decide) (by decide) (by decide)
    have w412 : w 412 = v 412 := g.2.2.2.2.1 412 (by decide) (by decide) (by decide)
    refine ⟨rfl, ⟨RG_H p1 g, fRc_t p2 (fRt_c (fRv_T g.2.2.2.2)), by omega, by omega, by rw [w412]; exact p8⟩, fun L hL => ?_⟩
    have hv : SGq v L := by unfold SGq; rw [p5]; exact hL
    obtain ⟨r1, r2, r3, r4⟩ := hw L hv
    have er : smR v L = sumF (TR s) (nR s) (nxR s) (s 407 12) L (-1) (-1) := by unfold smR; rw [p7.1, p7.2, p3, p6]
    rw [er] at r1 r2 r3 r4
    refine ⟨_, r4, ?_, fun j => ?_⟩
    · rw [r2, r3, ← r1]
    · rw [w411, p9, sg_n hL h.2.2.2.1]
  · rintro u e v ev w hw
    obtain ⟨p1, p2, p3, p4, p5, p6, p7, p8, p9⟩ := st0 u v e ev
    have er : ∀ L, smR v L = sumF (TR s) (nR s) (nxR s) (s 407 12) L (-1) (-1) := fun L => by unfold smR; rw [p7.1, p7.2, p3, p6]
    have hv : ∀ L, SGq s L → SGq v L := fun L hL => by unfold SGq; rw [p5]; exact hL
    have f0 := hw L0 (hv L0 hL0)
    refine k0 w ⟨by rw [f0.1]; exact f0.2.1, fRc_t p2 (fRt_c (fRv_T f0.2.2)), fun L hL => ?_⟩
    obtain ⟨r1, r2, r3⟩ := hw L (hv L hL)
    rw [er] at r1 r2
    rw [cl0, if_neg (by omega)]
    exact r1.symm
