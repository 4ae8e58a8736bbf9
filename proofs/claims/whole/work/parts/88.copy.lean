/-! copies -/
theorem nt_ne {a b : Nat} (h : isNt a) (h' : isNt b) (hn : a ≠ b) : a + 3 < b ∨ b + 3 < a := (show ∀ a ∈ ntL, ∀ b ∈ ntL, a ≠ b → a + 3 < b ∨ b + 3 < a by decide +kernel) a h b h' hn
theorem v53 {X : (Nat → Int) × Nat} {d : Nat} {s : mSt} {Q : mQ} {a0 : Nat} {a1 : Nat} (h0 : isNt a0) (h1 : isNt a1)
  (z1 : Q none (cS (cS (cS (uS s a0 0 (s a1 0)) (a1 + 1) 0 (a0 + 1) 0 10) (a1 + 2) 0 (a0 + 2) 0 10) (a1 + 3) 0 (a0 + 3) 0 10)) :
  Sp X (d + 1) 53 [mR a0, mR a1] s Q := e53 (b53_0 h0 h1 z1)

theorem c53 {X : (Nat → Int) × Nat} {d : Nat} {s : mSt} {Q : mQ} {a0 : Nat} {a1 : Nat} (h0 : isNt a0) (h1 : isNt a1) (p1 : a0 ≠ a1) (k : ∀ t : mSt, (t a0 0 = s a1 0 ∧ (∀ i, i < 10 → t (a0 + 1) i = s (a1 + 1) i ∧ t (a0 + 2) i = s (a1 + 2) i ∧ t (a0 + 3) i = s (a1 + 3) i) ∧ ∀ b, ¬ (a0 ≤ b ∧ b ≤ a0 + 3) → t b = s b) → Q none t) : Sp X (d + 1) 53 [mR a0, mR a1] s Q := by
  have hp := nt_ne h0 h1 p1
  refine v53 h0 h1 (k _ ⟨?_, fun i hi => ⟨?_, ?_, ?_⟩, fun b hb => ?_⟩)
  · rw [cS_cell (by omega), cS_cell (by omega), cS_cell (by omega), uS_at, if_pos rfl]
  · rw [cS_cell (by omega), cS_cell (by omega), cS_at, if_pos (by omega), uS_cell (by omega), show 0 + (i - 0) = i by omega]
  · rw [cS_cell (by omega), cS_at, if_pos (by omega), cS_cell (by omega), uS_cell (by omega), show 0 + (i - 0) = i by omega]
  · rw [cS_at, if_pos (by omega), cS_cell (by omega), cS_cell (by omega), uS_cell (by omega), show 0 + (i - 0) = i by omega]
  · rw [cS_cell (by omega), cS_cell (by omega), cS_cell (by omega), uS_cell (by omega)]
theorem sc_ne {a b : Nat} (h : isSc a) (h' : isSc b) (hn : a ≠ b) : a + 24 < b ∨ b + 24 < a := (show ∀ a ∈ scL, ∀ b ∈ scL, a ≠ b → a + 24 < b ∨ b + 24 < a by decide +kernel) a h b h' hn
theorem sc_lt {a : Nat} (h : isSc a) : a + 24 < 407 := (show ∀ a ∈ scL, a + 24 < 407 by decide +kernel) a h
theorem v85 {X : (Nat → Int) × Nat} {d : Nat} {s : mSt} {Q : mQ} {a0 : Nat} {a1 : Nat} (h0 : isSc a0) (h1 : isSc a1)
  (z1 : (a0 + 1) ≠ (a1 + 1) ∧ BI s (a1 + 1))
  (z2 : ∀ s1 : mSt, (BI s1 (a0 + 1) ∧ brow s1 (a0 + 1) = brow s (a1 + 1) ∧ fB s s1 (a0 + 1)) → (a0 + 11) ≠ (a1 + 11) ∧ BI s1 (a1 + 11))
  (z3 : ∀ s1 : mSt, (BI s1 (a0 + 1) ∧ brow s1 (a0 + 1) = brow s (a1 + 1) ∧ fB s s1 (a0 + 1)) → ∀ s2 : mSt, (BI s2 (a0 + 11) ∧ brow s2 (a0 + 11) = brow s1 (a1 + 11) ∧ fB s1 s2 (a0 + 11)) → (a0 + 21) ≠ (a1 + 21))
  (z4 : ∀ s1 : mSt, (BI s1 (a0 + 1) ∧ brow s1 (a0 + 1) = brow s (a1 + 1) ∧ fB s s1 (a0 + 1)) → ∀ s2 : mSt, (BI s2 (a0 + 11) ∧ brow s2 (a0 + 11) = brow s1 (a1 + 11) ∧ fB s1 s2 (a0 + 11)) → ∀ s3 : mSt, (s3 (a0 + 21) 0 = s2 (a1 + 21) 0 ∧ (∀ i, i < 10 → s3 ((a0 + 21) + 1) i = s2 ((a1 + 21) + 1) i ∧ s3 ((a0 + 21) + 2) i = s2 ((a1 + 21) + 2) i ∧ s3 ((a0 + 21) + 3) i = s2 ((a1 + 21) + 3) i) ∧ ∀ b, ¬ ((a0 + 21) ≤ b ∧ b ≤ (a0 + 21) + 3) → s3 b = s2 b) → Q none (uS (uS s3 a0 3 (s3 a1 3)) a0 4 ((uS s3 a0 3 (s3 a1 3)) a1 4))) :
  Sp X (d + 2) 85 [mR a0, mR a1] s Q := e85 (b85_0 h0 h1 (c3 (sc_o0 h0) (sc_o0 h1) z1 (fun s1 q1 => ⟨rfl, b85_11 h0 h1 (c3 (sc_o1 h0) (sc_o1 h1) (z2 s1 q1) (fun s2 q2 => ⟨rfl, b85_22 h0 h1 (c53 (sc_o2 h0) (sc_o2 h1) (z3 s1 q1 s2 q2) (fun s3 q3 => ⟨rfl, b85_33 h0 h1 (z4 s1 q1 s2 q2 s3 q3)⟩))⟩))⟩)))

theorem c85 {X : (Nat → Int) × Nat} {d : Nat} {s : mSt} {Q : mQ} {a0 : Nat} {a1 : Nat} (h0 : isSc a0) (h1 : isSc a1) (p1 : a0 ≠ a1 ∧ BI s (a1 + 1) ∧ BI s (a1 + 11)) (k : ∀ t : mSt, (((BI t (a0 + 1) ∧ brow t (a0 + 1) = brow s (a1 + 1)) ∧ BI t (a0 + 11) ∧ brow t (a0 + 11) = brow s (a1 + 11)) ∧ (t (a0 + 21) 0 = s (a1 + 21) 0 ∧ ∀ i, i < 10 → t (a0 + 21 + 1) i = s (a1 + 21 + 1) i ∧ t (a0 + 21 + 2) i = s (a1 + 21 + 2) i ∧ t (a0 + 21 + 3) i = s (a1 + 21 + 3) i) ∧ (t a0 3 = s a1 3 ∧ t a0 4 = s a1 4) ∧ ∀ b, ¬ (a0 ≤ b ∧ b ≤ a0 + 24) → t b = s b) → Q none t) : Sp X (d + 2) 85 [mR a0, mR a1] s Q := by
  obtain ⟨hn, hB, hB2⟩ := p1
  have hp := sc_ne h0 h1 hn
  have l0 := sc_lt h0
  have l1 := sc_lt h1
  have b2 : ∀ u : mSt, fB s u (a0 + 1) → BI u (a1 + 11) ∧ brow u (a1 + 11) = brow s (a1 + 11) := fun u hu => BI_cells hB2 (fun x hx => hu x (by omega)) (hu 417 (by omega))
  refine v85 h0 h1 ⟨by omega, hB⟩ (fun u hu => ⟨by omega, (b2 u hu.2.2).1⟩) (fun u hu v hv => by omega) (fun u hu v hv w hw => ?_)
  have cw : ∀ b, ¬ (a0 + 21 ≤ b ∧ b ≤ a0 + 21 + 3) → w b = v b := hw.2.2
  have q1 := BI_cells (t := w) hu.1 (fun x hx => by rw [cw x (by omega)]; exact hv.2.2 x (by omega)) (by rw [cw 417 (by omega)]; exact hv.2.2 417 (by omega))
  have q2 := BI_cells (t := w) hv.1 (fun x hx => cw x (by omega)) (cw 417 (by omega))
  have sv : ∀ b, ¬ (a0 ≤ b ∧ b ≤ a0 + 24) → w b = s b := fun b hb => by rw [cw b (by omega), hv.2.2 b (by omega)]; exact hu.2.2 b (by omega)
  have vs : ∀ b, ¬ (a0 + 1 ≤ b ∧ b ≤ a0 + 20) → v b = s b := fun b hb => by rw [hv.2.2 b (by omega)]; exact hu.2.2 b (by omega)
  have r1 : ∀ (x y : Int), BI (uS (uS w a0 3 x) a0 4 y) (a0 + 1) ∧ brow (uS (uS w a0 3 x) a0 4 y) (a0 + 1) = brow s (a1 + 1) := fun x y => by
    have q := BI_cells (t := uS (uS w a0 3 x) a0 4 y) q1.1 (fun b hb => by rw [uS_cell (by omega), uS_cell (by omega)]) (by rw [uS_cell (by omega), uS_cell (by omega)])
    exact ⟨q.1, by rw [q.2, q1.2]; exact hu.2.1⟩
  have r2 : ∀ (x y : Int), BI (uS (uS w a0 3 x) a0 4 y) (a0 + 11) ∧ brow (uS (uS w a0 3 x) a0 4 y) (a0 + 11) = brow s (a1 + 11) := fun x y => by
    have q := BI_cells (t := uS (uS w a0 3 x) a0 4 y) q2.1 (fun b hb => by rw [uS_cell (by omega), uS_cell (by omega)]) (by rw [uS_cell (by omega), uS_cell (by omega)])
    exact ⟨q.1, by rw [q.2, q2.2, hv.2.1]; exact (b2 u hu.2.2).2⟩
  refine k _ ⟨⟨r1 _ _, (r2 _ _).1, (r2 _ _).2⟩, ⟨?_, fun i hi => ?_⟩, ⟨?_, ?_⟩, fun b hb => ?_⟩
  · rw [uS_cell (by omega), uS_cell (by omega), hw.1, vs _ (by omega)]
  · have z := hw.2.1 i hi
    rw [vs (a1 + 21 + 1) (by omega), vs (a1 + 21 + 2) (by omega), vs (a1 + 21 + 3) (by omega)] at z
    rw [uS_cell (by omega), uS_cell (by omega), uS_cell (by omega), uS_cell (by omega), uS_cell (by omega), uS_cell (by omega)]; exact z
  · rw [uS_at, if_neg (by decide), uS_at, if_pos rfl, sv a1 (by omega)]
  · rw [uS_at, if_pos rfl, uS_cell (by omega), sv a1 (by omega)]
  · rw [uS_cell (by omega), uS_cell (by omega)]; exact sv b hb
