/-! a clause of any text: the reference -/
def fRd (s t : mSt) : Prop := (∀ b, b ≠ 407 → ¬ (409 ≤ b ∧ b ≤ 414) → t b = s b) ∧ (∀ j, ¬ (8 ≤ j ∧ j ≤ 10) → ¬ (12 ≤ j ∧ j ≤ 14) → j ≠ 16 → t 407 j = s 407 j) ∧ (∀ j, j ≠ txR s → t 410 j = s 410 j) ∧ (∀ j, ¬ (400 * txR s ≤ j ∧ j < 400 * txR s + 400) → t 409 j = s 409 j) ∧ (∀ j, j ≠ txR s → t 412 j = s 412 j) ∧ ∀ j, ¬ (48 * txR s ≤ j ∧ j < 48 * txR s + 48) → t 411 j = s 411 j
theorem fRd_x {s t : mSt} (h : fRd s t) : txR t = txR s ∧ TR t = TR s ∧ nR t = nR s := by
  refine ⟨?_, ?_, ?_⟩
  · unfold txR; rw [h.2.1 11 (by decide) (by decide) (by decide)]
  · unfold TR; rw [h.1 408 (by decide) (by decide)]
  · unfold nR; rw [h.2.1 1 (by decide) (by decide) (by decide)]
theorem fRd_t {s t u : mSt} (h1 : fRd s t) (h2 : fRd t u) : fRd s u := by
  have e := (fRd_x h1).1
  obtain ⟨b1, b2, b3, b4, b5, b6⟩ := h2
  rw [e] at b3 b4 b5 b6
  exact ⟨fun b a1 a2 => (b1 b a1 a2).trans (h1.1 b a1 a2), fun j g1 g2 g3 => (b2 j g1 g2 g3).trans (h1.2.1 j g1 g2 g3), fun j g => (b3 j g).trans (h1.2.2.1 j g), fun j g => (b4 j g).trans (h1.2.2.2.1 j g), fun j g => (b5 j g).trans (h1.2.2.2.2.1 j g), fun j g => (b6 j g).trans (h1.2.2.2.2.2 j g)⟩
theorem fRc_d {s t : mSt} (h : fRc s t) : fRd s t := ⟨fun b a1 a2 => h.1 b a1 (by omega) (by omega), fun j g1 g2 g3 => h.2.1 j g1 (by omega) g3, h.2.2.1, h.2.2.2.1, h.2.2.2.2.1, h.2.2.2.2.2⟩
theorem fRd_0 (s : mSt) : fRd s s := fRc_d (fRc_0 s)
theorem fRd_u {s t : mSt} (h : fRd s t) {j : Nat} (x : Int) (hj : (8 ≤ j ∧ j ≤ 10) ∨ (12 ≤ j ∧ j ≤ 14) ∨ j = 16) : fRd s (uS t 407 j x) :=
  fRd_t h ⟨fun b a1 _ => uS_cell a1, fun i g1 g2 g3 => by rw [uS_at, if_neg (by omega)], fun i _ => by rw [uS_cell (by decide)], fun i _ => by rw [uS_cell (by decide)], fun i _ => by rw [uS_cell (by decide)], fun i _ => by rw [uS_cell (by decide)]⟩
theorem clF_i {T : Nat → Int} {n a : Nat} {i k : Int} {L : List Int} (h : i < 12) : clF T n i a k L = clF T n 0 a k L := by
  unfold clF
  by_cases w : wnA T n a = 14
  · rw [if_pos w, if_pos w, if_neg (show ¬ 12 ≤ i by omega), if_neg (show ¬ (12 : Int) ≤ 0 by decide)]
  · rw [if_neg w, if_neg w]
def clG (s : mSt) (L : List Int) : Int × Nat × Int × List Int × Nat := clF (TR s) (nR s) (s 407 14) (skR s) (s 407 12) L
def dcG (s : mSt) : Int × Nat × Rw := dcA (TR s) (nR s) (s 407 14) (skR s) (s 413)
def RPr (s : mSt) : Prop := RHq s ∧ lnR s ≤ (skR s : Int) ∧ (∃ L, SGq s L) ∧ (0 ≤ s 412 (txR s) ∧ s 412 (txR s) ≤ 12) ∧ s 407 14 = s 412 (txR s)
def DPr (s : mSt) : Prop := TRq s ∧ s 407 9 = 0 ∧ (∃ r, LWq r ∧ ∀ j, j < 135 → s 413 j = r j) ∧ (0 ≤ s 407 14 ∧ s 407 14 ≤ 40) ∧ (s 413 0 = 0 ↔ s 407 14 = 0)
def QH1 (s t : mSt) : Prop := (RHq t ∧ fRd s t ∧ lnR t ≤ (skR t : Int) ∧ skR s < skR t) ∧ (t 412 (txR s) = s 412 (txR s) + 1 ∧ t 407 14 = s 407 14 + 1) ∧ ∀ L, SGq s L → (clG s L).1 = 0 ∧ skR t = (clG s L).2.1 ∧ t 407 12 = (clG s L).2.2.1 ∧ SGq t (clG s L).2.2.2.1 ∧ CWq (s 411) (t 411) (atR s) L.length (clG s L).2.2.2.2 (clG s L).2.2.2.1.length
def QH0 (s t : mSt) : Prop := 0 < t 407 9 ∧ fRd s t ∧ ∀ L, SGq s L → (clG s L).1 = t 407 9
def fWs (s t : mSt) : Prop := (∀ b, b ≠ 407 → b ≠ 413 → t b = s b) ∧ ∀ j, ¬ (8 ≤ j ∧ j ≤ 10) → j ≠ 14 → t 407 j = s 407 j
theorem fWs_t {s t u : mSt} (h1 : fWs s t) (h2 : fWs t u) : fWs s u := ⟨fun b a c => (h2.1 b a c).trans (h1.1 b a c), fun j a c => (h2.2 j a c).trans (h1.2 j a c)⟩
theorem fWs_u (s : mSt) {j : Nat} (x : Int) (h : (8 ≤ j ∧ j ≤ 10) ∨ j = 14) : fWs s (uS s 407 j x) := ⟨fun b a _ => uS_cell a, fun i a c => by rw [uS_at, if_neg (by omega)]⟩
theorem fWr_s {s t : mSt} (h : fWr s t) : fWs s t := ⟨h.1, fun j a _ => h.2 j a⟩
def DH1 (s t : mSt) : Prop := (dcG s).1 = 0 ∧ TRq t ∧ skR t = (dcG s).2.1 ∧ t 407 9 = 0 ∧ t 413 = (dcG s).2.2 ∧ t 407 14 = s 407 14 + 1 ∧ skR s < skR t ∧ fWs s t
def DH0 (s t : mSt) : Prop := 0 < t 407 9 ∧ (dcG s).1 = t 407 9 ∧ fWs s t
def PAr (s : mSt) : Prop := (s 407 11 = 6 ∧ DPr s) ∨ ((0 ≤ s 407 11 ∧ s 407 11 < 6) ∧ RPr s)
def PBr (s t : mSt) : Prop := (s 407 11 = 6 → DH1 s t) ∧ (s 407 11 < 6 → QH1 s t)
def PCr (s t : mSt) : Prop := (s 407 11 = 6 → DH0 s t) ∧ (s 407 11 < 6 → QH0 s t)
theorem seq_l {T : Nat → Int} {n : Nat} : ∀ (L : List (Int × Int)) (a : Nat), a ≤ n → (seqA T n L a).1 = 0 → a ≤ (seqA T n L a).2.1
  | [], a, _, _ => Nat.le_refl _
  | (l, m) :: L, a, h, h0 => by
    have c := seq_c h0
    have b := nxA_b T h
    have q := seq_l L (nxA T n a) b.2.1 c.2.1
    have e : (seqA T n ((l, m) :: L) a).2.1 = (seqA T n L (nxA T n a)).2.1 := by
      show (if nuA T n a l m = -1 then _ else _ : Int × Nat × List Int).2.1 = _
      rw [if_pos c.1]
    rw [e]; omega
theorem v203 {X : (Nat → Int) × Nat} {d : Nat} {s : mSt} {Q : mQ}
  (z1 : TRq s)
  (z2 : ∀ v1 : Int, ∀ s1 : mSt, (v1 = (if nR s ≤ skR s then -1 else TR s (skR s)) ∧ s1 = uS s 407 8 (skR s : Int)) → ¬ (s1 407 11) = 6 → TRq s1)
  (z3 : ∀ v1 : Int, ∀ s1 : mSt, (v1 = (if nR s ≤ skR s then -1 else TR s (skR s)) ∧ s1 = uS s 407 8 (skR s : Int)) → ¬ (s1 407 11) = 6 → ∀ s3 : mSt, (iwR s1 (536622 : Int) ∧ s3 = uS s1 407 8 (skR s1 : Int)) → ¬ (s3 407 14) = 12 → ∀ t5 : mSt, t5 = uS s3 407 14 (w32 ((s3 407 14) + 1)) → RHq t5 ∧ lnR t5 ≤ (skR t5 : Int) ∧ (∃ L, SGq t5 L) ∧ t5 407 8 = (skR t5 : Int) ∧ wnA (TR t5) (nR t5) (skR t5) = 14 ∧ (0 ≤ t5 412 (txR t5) ∧ t5 412 (txR t5) < 12))
  (z4 : ∀ v1 : Int, ∀ s1 : mSt, (v1 = (if nR s ≤ skR s then -1 else TR s (skR s)) ∧ s1 = uS s 407 8 (skR s : Int)) → ¬ (s1 407 11) = 6 → ∀ s3 : mSt, (iwR s1 (536622 : Int) ∧ s3 = uS s1 407 8 (skR s1 : Int)) → ¬ (s3 407 14) = 12 → ∀ t5 : mSt, t5 = uS s3 407 14 (w32 ((s3 407 14) + 1)) → ∀ s6 : mSt, PH1 t5 s6 → Q (some (mI 1)) s6)
  (z5 : ∀ v1 : Int, ∀ s1 : mSt, (v1 = (if nR s ≤ skR s then -1 else TR s (skR s)) ∧ s1 = uS s 407 8 (skR s : Int)) → ¬ (s1 407 11) = 6 → ∀ s3 : mSt, (iwR s1 (536622 : Int) ∧ s3 = uS s1 407 8 (skR s1 : Int)) → ¬ (s3 407 14) = 12 → ∀ t5 : mSt, t5 = uS s3 407 14 (w32 ((s3 407 14) + 1)) → ∀ s7 : mSt, PH0 t5 s7 → Q (some (mI 0)) s7)
  (z6 : ∀ v1 : Int, ∀ s1 : mSt, (v1 = (if nR s ≤ skR s then -1 else TR s (skR s)) ∧ s1 = uS s 407 8 (skR s : Int)) → ¬ (s1 407 11) = 6 → ∀ s3 : mSt, (iwR s1 (536622 : Int) ∧ s3 = uS s1 407 8 (skR s1 : Int)) → (s3 407 14) = 12 → (0 ≤ (4 : Int) ∧ (4 : Int) ≤ 4) ∧ (0 ≤ (s1 407 8) ∧ (s1 407 8) ≤ 400))
  (z7 : ∀ v1 : Int, ∀ s1 : mSt, (v1 = (if nR s ≤ skR s then -1 else TR s (skR s)) ∧ s1 = uS s 407 8 (skR s : Int)) → ¬ (s1 407 11) = 6 → ∀ s3 : mSt, (iwR s1 (536622 : Int) ∧ s3 = uS s1 407 8 (skR s1 : Int)) → (s3 407 14) = 12 → ∀ v9 : Int, ∀ s9 : mSt, (v9 = 0 ∧ s9 = flR s3 (4 : Int) (s1 407 8)) → Q (some (mI v9)) s9)
  (z8 : ∀ v1 : Int, ∀ s1 : mSt, (v1 = (if nR s ≤ skR s then -1 else TR s (skR s)) ∧ s1 = uS s 407 8 (skR s : Int)) → ¬ (s1 407 11) = 6 → ∀ s3 : mSt, (iwR s1 (536622 : Int) ∧ s3 = uS s1 407 8 (skR s1 : Int)) → (s3 407 14) = 12 → ∀ v9 : Int, ∀ s9 : mSt, (v9 = 0 ∧ s9 = flR s3 (4 : Int) (s1 407 8)) → v9 = 0 ∨ v9 = 1)
  (z9 : ∀ v1 : Int, ∀ s1 : mSt, (v1 = (if nR s ≤ skR s then -1 else TR s (skR s)) ∧ s1 = uS s 407 8 (skR s : Int)) → ¬ (s1 407 11) = 6 → ∀ s10 : mSt, (¬ iwR s1 (536622 : Int) ∧ s10 = uS s1 407 8 (skR s1 : Int)) → (0 ≤ (0 : Int) ∧ (0 : Int) ≤ 4) ∧ (0 ≤ (s1 407 8) ∧ (s1 407 8) ≤ 400))
  (z10 : ∀ v1 : Int, ∀ s1 : mSt, (v1 = (if nR s ≤ skR s then -1 else TR s (skR s)) ∧ s1 = uS s 407 8 (skR s : Int)) → ¬ (s1 407 11) = 6 → ∀ s10 : mSt, (¬ iwR s1 (536622 : Int) ∧ s10 = uS s1 407 8 (skR s1 : Int)) → ∀ v11 : Int, ∀ s11 : mSt, (v11 = 0 ∧ s11 = flR s10 (0 : Int) (s1 407 8)) → Q (some (mI v11)) s11)
  (z11 : ∀ v1 : Int, ∀ s1 : mSt, (v1 = (if nR s ≤ skR s then -1 else TR s (skR s)) ∧ s1 = uS s 407 8 (skR s : Int)) → ¬ (s1 407 11) = 6 → ∀ s10 : mSt, (¬ iwR s1 (536622 : Int) ∧ s10 = uS s1 407 8 (skR s1 : Int)) → ∀ v11 : Int, ∀ s11 : mSt, (v11 = 0 ∧ s11 = flR s10 (0 : Int) (s1 407 8)) → v11 = 0 ∨ v11 = 1)
  (z12 : ∀ v1 : Int, ∀ s1 : mSt, (v1 = (if nR s ≤ skR s then -1 else TR s (skR s)) ∧ s1 = uS s 407 8 (skR s : Int)) → (s1 407 11) = 6 → TRq s1)
  (z13 : ∀ v1 : Int, ∀ s1 : mSt, (v1 = (if nR s ≤ skR s then -1 else TR s (skR s)) ∧ s1 = uS s 407 8 (skR s : Int)) → (s1 407 11) = 6 → ∀ s13 : mSt, (dwP (wnA (TR s1) (nR s1) (skR s1)) ∧ s13 = uS s1 407 8 (skR s1 : Int)) → ¬ (s13 407 14) = 40 → ∀ t15 : mSt, t15 = uS s13 407 14 (w32 ((s13 407 14) + 1)) → RWq t15 ∧ (s1 407 8) = (skR t15 : Int) ∧ (0 ≤ t15 413 3 ∧ t15 413 3 ≤ 5) ∧ (0 ≤ t15 413 4 ∧ t15 413 4 ≤ 6) ∧ (t15 413 0 = 0 ∨ t15 413 0 = 1) ∧ dwP (wnA (TR t15) (nR t15) (skR t15)))
  (z14 : ∀ v1 : Int, ∀ s1 : mSt, (v1 = (if nR s ≤ skR s then -1 else TR s (skR s)) ∧ s1 = uS s 407 8 (skR s : Int)) → (s1 407 11) = 6 → ∀ s13 : mSt, (dwP (wnA (TR s1) (nR s1) (skR s1)) ∧ s13 = uS s1 407 8 (skR s1 : Int)) → ¬ (s13 407 14) = 40 → ∀ t15 : mSt, t15 = uS s13 407 14 (w32 ((s13 407 14) + 1)) → ∀ s16 : mSt, DL1 t15 s16 → Q (some (mI 1)) s16)
  (z15 : ∀ v1 : Int, ∀ s1 : mSt, (v1 = (if nR s ≤ skR s then -1 else TR s (skR s)) ∧ s1 = uS s 407 8 (skR s : Int)) → (s1 407 11) = 6 → ∀ s13 : mSt, (dwP (wnA (TR s1) (nR s1) (skR s1)) ∧ s13 = uS s1 407 8 (skR s1 : Int)) → ¬ (s13 407 14) = 40 → ∀ t15 : mSt, t15 = uS s13 407 14 (w32 ((s13 407 14) + 1)) → ∀ s17 : mSt, DL0 t15 s17 → Q (some (mI 0)) s17)
  (z16 : ∀ v1 : Int, ∀ s1 : mSt, (v1 = (if nR s ≤ skR s then -1 else TR s (skR s)) ∧ s1 = uS s 407 8 (skR s : Int)) → (s1 407 11) = 6 → ∀ s13 : mSt, (dwP (wnA (TR s1) (nR s1) (skR s1)) ∧ s13 = uS s1 407 8 (skR s1 : Int)) → (s13 407 14) = 40 → (0 ≤ (4 : Int) ∧ (4 : Int) ≤ 4) ∧ (0 ≤ (s1 407 8) ∧ (s1 407 8) ≤ 400))
  (z17 : ∀ v1 : Int, ∀ s1 : mSt, (v1 = (if nR s ≤ skR s then -1 else TR s (skR s)) ∧ s1 = uS s 407 8 (skR s : Int)) → (s1 407 11) = 6 → ∀ s13 : mSt, (dwP (wnA (TR s1) (nR s1) (skR s1)) ∧ s13 = uS s1 407 8 (skR s1 : Int)) → (s13 407 14) = 40 → ∀ v19 : Int, ∀ s19 : mSt, (v19 = 0 ∧ s19 = flR s13 (4 : Int) (s1 407 8)) → Q (some (mI v19)) s19)
  (z18 : ∀ v1 : Int, ∀ s1 : mSt, (v1 = (if nR s ≤ skR s then -1 else TR s (skR s)) ∧ s1 = uS s 407 8 (skR s : Int)) → (s1 407 11) = 6 → ∀ s13 : mSt, (dwP (wnA (TR s1) (nR s1) (skR s1)) ∧ s13 = uS s1 407 8 (skR s1 : Int)) → (s13 407 14) = 40 → ∀ v19 : Int, ∀ s19 : mSt, (v19 = 0 ∧ s19 = flR s13 (4 : Int) (s1 407 8)) → v19 = 0 ∨ v19 = 1)
  (z19 : ∀ v1 : Int, ∀ s1 : mSt, (v1 = (if nR s ≤ skR s then -1 else TR s (skR s)) ∧ s1 = uS s 407 8 (skR s : Int)) → (s1 407 11) = 6 → ∀ s20 : mSt, (¬ dwP (wnA (TR s1) (nR s1) (skR s1)) ∧ s20 = uS s1 407 8 (skR s1 : Int)) → (0 ≤ (0 : Int) ∧ (0 : Int) ≤ 4) ∧ (0 ≤ (s1 407 8) ∧ (s1 407 8) ≤ 400))
  (z20 : ∀ v1 : Int, ∀ s1 : mSt, (v1 = (if nR s ≤ skR s then -1 else TR s (skR s)) ∧ s1 = uS s 407 8 (skR s : Int)) → (s1 407 11) = 6 → ∀ s20 : mSt, (¬ dwP (wnA (TR s1) (nR s1) (skR s1)) ∧ s20 = uS s1 407 8 (skR s1 : Int)) → ∀ v21 : Int, ∀ s21 : mSt, (v21 = 0 ∧ s21 = flR s20 (0 : Int) (s1 407 8)) → Q (some (mI v21)) s21)
  (z21 : ∀ v1 : Int, ∀ s1 : mSt, (v1 = (if nR s ≤ skR s then -1 else TR s (skR s)) ∧ s1 = uS s 407 8 (skR s : Int)) → (s1 407 11) = 6 → ∀ s20 : mSt, (¬ dwP (wnA (TR s1) (nR s1) (skR s1)) ∧ s20 = uS s1 407 8 (skR s1 : Int)) → ∀ v21 : Int, ∀ s21 : mSt, (v21 = 0 ∧ s21 = flR s20 (0 : Int) (s1 407 8)) → v21 = 0 ∨ v21 = 1) :
  Sp X (d + 10) 203 [mR 407] s Q := e203 (b203_0 (c174 z1 (fun v1 s1 q1 => ⟨v1, rfl, b203_4 (fun q2 => b203_23 (b203_24 (fun _ => b203_39 (c177 (z2 v1 s1 q1 q2) (fun s3 q3 => ⟨1, rfl, b203_46 (fun _ => b203_56 (fun _ => b203_69 (b203_71 (fun q4 => b203_81 (fun _ => Wp_gen (fun t5 e5 => b203_103 (c195 (z3 v1 s1 q1 q2 s3 q3 q4 t5 e5) (fun s6 q6 => ⟨1, rfl, b203_107 (z4 v1 s1 q1 q2 s3 q3 q4 t5 e5 s6 q6) (Or.inr rfl)⟩) (fun s7 q7 => ⟨0, rfl, b203_107 (z5 v1 s1 q1 q2 s3 q3 q4 t5 e5 s7 q7) (Or.inl rfl)⟩)))) (fun q => absurd q (by decide))) (fun q8 => b203_74 (c173 (z6 v1 s1 q1 q2 s3 q3 q8) (fun v9 s9 q9 => ⟨v9, rfl, b203_80 (z7 v1 s1 q1 q2 s3 q3 q8 v9 s9 q9) (z8 v1 s1 q1 q2 s3 q3 q8 v9 s9 q9)⟩))))) (fun q => absurd q (by decide))) (fun q => absurd q (by decide))⟩) (fun s10 q10 => ⟨0, rfl, b203_46 (fun q => absurd q (by decide)) (fun _ => b203_49 (c173 (z9 v1 s1 q1 q2 s10 q10) (fun v11 s11 q11 => ⟨v11, rfl, b203_55 (z10 v1 s1 q1 q2 s10 q10 v11 s11 q11) (z11 v1 s1 q1 q2 s10 q10 v11 s11 q11)⟩)))⟩))) (fun q => absurd q (by decide)))) (fun q12 => b203_19 (b203_24 (fun q => absurd q (by decide)) (fun _ => b203_29 (c202 (z12 v1 s1 q1 q12) (fun s13 q13 => ⟨1, rfl, b203_33 (fun _ => b203_56 (fun q => absurd q (by decide)) (fun _ => b203_64 (b203_71 (fun q14 => b203_81 (fun q => absurd q (by decide)) (fun _ => Wp_gen (fun t15 e15 => b203_95 (c201 (z13 v1 s1 q1 q12 s13 q13 q14 t15 e15) (fun s16 q16 => ⟨1, rfl, b203_100 (b203_107 (z14 v1 s1 q1 q12 s13 q13 q14 t15 e15 s16 q16) (Or.inr rfl))⟩) (fun s17 q17 => ⟨0, rfl, b203_100 (b203_107 (z15 v1 s1 q1 q12 s13 q13 q14 t15 e15 s17 q17) (Or.inl rfl))⟩))))) (fun q18 => b203_74 (c173 (z16 v1 s1 q1 q12 s13 q13 q18) (fun v19 s19 q19 => ⟨v19, rfl, b203_80 (z17 v1 s1 q1 q12 s13 q13 q18 v19 s19 q19) (z18 v1 s1 q1 q12 s13 q13 q18 v19 s19 q19)⟩)))))) (fun q => absurd q (by decide))⟩) (fun s20 q20 => ⟨0, rfl, b203_33 (fun q => absurd q (by decide)) (fun _ => b203_36 (b203_49 (c173 (z19 v1 s1 q1 q12 s20 q20) (fun v21 s21 q21 => ⟨v21, rfl, b203_55 (z20 v1 s1 q1 q12 s20 q20 v21 s21 q21) (z21 v1 s1 q1 q12 s20 q20 v21 s21 q21)⟩))))⟩)))))⟩)))

theorem c203 {X : (Nat → Int) × Nat} {d : Nat} {s : mSt} {Q : mQ} (p1 : PAr s) (k1 : ∀ t : mSt, (PBr s t) → Q (some (mI 1)) t) (k0 : ∀ t : mSt, (PCr s t) → Q (some (mI 0)) t) : Sp X (d + 10) 203 [mR 407] s Q := by
  have hT : TRq s := by
    rcases p1 with h | h
    · exact h.2.1
    · exact h.2.1.1
  have hb := skR_b hT
  have h9 : s 407 9 = 0 := by
    rcases p1 with h | h
    · exact h.2.2.1
    · exact h.2.1.2.1
  have see : ∀ u : mSt, u = uS s 407 8 (skR s : Int) → u 407 11 = s 407 11 ∧ u 407 8 = (skR s : Int) ∧ u 407 14 = s 407 14 ∧ u 407 9 = 0 ∧ (TR u = TR s ∧ nR u = nR s ∧ skR u = skR s) ∧ TRq u ∧ u 413 = s 413 := by
    rintro u rfl
    exact ⟨by rw [uS_at, if_neg (by decide)], by rw [uS_at, if_pos rfl], by rw [uS_at, if_neg (by decide)], by rw [uS_at, if_neg (by decide)]; exact h9, R8w, TRq_s hT, by rw [uS_cell (by decide)]⟩
  have rul : ∀ u : mSt, u = uS s 407 8 (skR s : Int) → ¬ u 407 11 = 6 → (0 ≤ s 407 11 ∧ s 407 11 < 6) ∧ RPr s := fun u e h => by
    rw [(see u e).1] at h
    rcases p1 with q | q
    · exact absurd q.1 h
    · exact q
  have day : ∀ u : mSt, u = uS s 407 8 (skR s : Int) → u 407 11 = 6 → s 407 11 = 6 ∧ DPr s := fun u e h => by
    rw [(see u e).1] at h
    rcases p1 with q | q
    · exact q
    · omega
  have wpl : ∀ u : mSt, u = uS s 407 8 (skR s : Int) → (iwR u (536622 : Int) ↔ wnA (TR s) (nR s) (skR s) = 14) := fun u e => by
    rw [iw9 e, iw_k hT (by decide) cWd.1.2.2.2.2]; exact Iff.rfl
  -- one more line
  have inc : ∀ (u v : mSt) (m : Int), u = uS s 407 8 (skR s : Int) → 0 ≤ s 407 14 → s 407 14 ≤ m → m ≤ 40 → ¬ u 407 14 = m → v = uS u 407 14 (w32 ((u 407 14) + 1)) → v 407 14 = s 407 14 + 1 ∧ s 407 14 < m ∧ (∀ j, j ≠ 14 → v 407 j = u 407 j) ∧ (∀ b, b ≠ 407 → v b = s b) ∧ (TR v = TR s ∧ nR v = nR s ∧ skR v = skR s) ∧ TRq v := by
    intro u v m e h0 h1 h2 hn ev
    obtain ⟨_, _, s3, _, s5, s6, _⟩ := see u e
    rw [s3] at hn ev
    rw [w32_of (by omega)] at ev
    refine ⟨by rw [ev, uS_at, if_pos rfl], by omega, fun j hj => by rw [ev, uS_at, if_neg hj], fun b hb => by rw [ev, uS_cell hb, e, uS_cell hb], ⟨?_, ?_, ?_⟩, by rw [ev]; exact TRq_o s6 _ (by decide) (by decide)⟩
    · rw [ev, TR_u]; exact s5.1
    · rw [ev, nR_u _ _ (by decide)]; exact s5.2.1
    · rw [ev, skR_o _ _ (by decide) (by decide)]; exact s5.2.2
  have flt : ∀ (u v : mSt) (x y : Int), u = uS s 407 8 (skR s : Int) → 0 ≤ x → y = (skR s : Int) → v = flR u x y → v 407 9 = fuA (skR s) x ∧ 0 < v 407 9 ∧ fWs s v ∧ fRd s v := by
    intro u v x y e hx hy ev
    have z := (see u e).2.2.2.1
    have ev2 : v = uS u 407 9 (fuA (skR s) x) := by
      rw [ev]; unfold flR; rw [if_pos z, hy]; rfl
    have v9 : v 407 9 = fuA (skR s) x := by rw [ev2, uS_at, if_pos rfl]
    refine ⟨v9, by rw [v9]; exact fuA_p _ hx, ?_, ?_⟩
    · rw [ev2, e]; exact fWs_t (fWs_u s _ (by decide)) (fWs_u _ _ (by decide))
    · rw [ev2, e]; exact fRd_u (fRd_u (fRd_0 s) _ (by decide)) _ (by decide)
  have dw : ∀ u : mSt, u = uS s 407 8 (skR s : Int) → (dwP (wnA (TR u) (nR u) (skR u)) ↔ dwP (wnA (TR s) (nR s) (skR s))) := fun u e => by
    have q := (see u e).2.2.2.2.1
    rw [q.1, q.2.1, q.2.2]
  have d257 : dwP (wnA (TR s) (nR s) (skR s)) → skR s < nR s ∧ isL (TR s) (skR s) = true := fun z => by
    refine (tkL (TR_t hT)).1 ?_
    rcases z with z | z | z | z
    · exact w_257 (by decide) z
    · exact w_257 (by decide) z
    · exact w_257 (by decide) z
    · exact w_257 (by decide) z
  have dlt : ∀ x : mSt, (TR x = TR s ∧ nR x = nR s ∧ skR x = skR s) → x 413 = s 413 → DPr s → s 407 14 < 40 → (DLt x ↔ tmP (s 407 14) (wnA (TR s) (nR s) (skR s)) (s 413)) ∧ sqR x (rngA (wnA (TR x) (nR x) (skR x)) (x 413)) = seqA (TR s) (nR s) (rngA (wnA (TR s) (nR s) (skR s)) (s 413)) (nxA (TR s) (nR s) (skR s)) ∧ wnA (TR x) (nR x) (skR x) = wnA (TR s) (nR s) (skR s) := by
    rintro x ⟨t1, t2, t3⟩ e13 ⟨r1, r2, r3, r4, r5⟩ hl
    unfold DLt sqR nxR
    rw [t1, t2, t3, e13]
    refine ⟨?_, rfl, rfl⟩
    unfold tmP
    by_cases z : s 413 0 = 0
    · rw [if_pos z]
      have := r5.1 z
      omega
    · rw [if_neg z]
      have : ¬ s 407 14 = 0 := fun y => z (r5.2 y)
      omega
  refine v203 hT ?_ ?_ ?_ ?_ ?_ ?_ ?_ ?_ ?_ ?_ ?_ ?_ ?_ ?_ ?_ ?_ ?_ ?_ ?_ ?_
  · rintro v u ⟨_, e⟩ h
    exact (see u e).2.2.2.2.2.1
  · rintro v u ⟨_, e⟩ h w ⟨hw, e2⟩ hl x ex
    obtain ⟨⟨h0, h6⟩, r1, r2, ⟨L, hL⟩, r4, r5⟩ := rul u e h
    have ew := R8q e e2
    obtain ⟨i1, i2, i3, i4, i5, i6⟩ := inc w x 12 ew (by omega) (by omega) (by decide) hl ex
    have sw := see w ew
    have x7 : ∀ j, j ≠ 14 → j ≠ 8 → x 407 j = s 407 j := fun j a b => by rw [i3 j a, ew, uS_at, if_neg b]
    have xt : txR x = txR s := by unfold txR; rw [x7 11 (by decide) (by decide)]
    have xl : lnR x = lnR s := by unfold lnR; rw [xt, i4 410 (by decide)]
    refine ⟨⟨i6, by rw [x7 9 (by decide) (by decide)]; exact r1.2.1, by rw [x7 12 (by decide) (by decide)]; exact r1.2.2.1, by rw [xl]; exact r1.2.2.2.1, by rw [x7 11 (by decide) (by decide)]; exact r1.2.2.2.2⟩, by rw [xl, i5.2.2]; exact r2, ⟨L, ?_⟩, by rw [i3 8 (by decide), i5.2.2]; exact sw.2.1, by rw [i5.1, i5.2.1, i5.2.2]; exact (wpl u e).1 hw, by rw [xt, i4 412 (by decide)]; omega⟩
    unfold SGq sgB
    rw [xt, xl, i4 409 (by decide)]; exact hL
  · rintro v u ⟨_, e⟩ h w ⟨hw, e2⟩ hl x ex y ⟨⟨y1, y2, y3, y4⟩, y5, y6⟩
    obtain ⟨⟨h0, h6⟩, r1, r2, ⟨L0, hL0⟩, r4, r5⟩ := rul u e h
    have ew := R8q e e2
    obtain ⟨i1, i2, i3, i4, i5, i6⟩ := inc w x 12 ew (by omega) (by omega) (by decide) hl ex
    have x7 : ∀ j, j ≠ 14 → j ≠ 8 → x 407 j = s 407 j := fun j a b => by rw [i3 j a, ew, uS_at, if_neg b]
    have xt : txR x = txR s := by unfold txR; rw [x7 11 (by decide) (by decide)]
    have xl : lnR x = lnR s := by unfold lnR; rw [xt, i4 410 (by decide)]
    have fx : fRd s x := by rw [ex, ew]; exact fRd_u (fRd_u (fRd_0 s) _ (by decide)) _ (by decide)
    refine k1 y ⟨fun z => by omega, fun _ => ⟨⟨y1, fRd_t fx (fRc_d y2), y3, by rw [i5.2.2] at y4; exact y4⟩, ⟨by rw [xt, i4 412 (by decide)] at y5; exact y5, by rw [y2.2.1 14 (by decide) (by decide) (by decide)]; exact i1⟩, fun L hL => ?_⟩⟩
    have hx : SGq x L := by
      unfold SGq sgB
      rw [xt, xl, i4 409 (by decide)]; exact hL
    have q := y6 L hx
    have ec : clR x L = clG s L := by
      unfold clR clG
      rw [i5.1, i5.2.1, i5.2.2, x7 12 (by decide) (by decide), clF_i i2]
    have ea : atR x = atR s := by unfold atR; rw [xt, i4 412 (by decide)]
    rw [ec, ea, i4 411 (by decide)] at q
    exact q
  · rintro v u ⟨_, e⟩ h w ⟨hw, e2⟩ hl x ex y ⟨y1, y2, y3⟩
    obtain ⟨⟨h0, h6⟩, r1, r2, ⟨L0, hL0⟩, r4, r5⟩ := rul u e h
    have ew := R8q e e2
    obtain ⟨i1, i2, i3, i4, i5, i6⟩ := inc w x 12 ew (by omega) (by omega) (by decide) hl ex
    have x7 : ∀ j, j ≠ 14 → j ≠ 8 → x 407 j = s 407 j := fun j a b => by rw [i3 j a, ew, uS_at, if_neg b]
    have xt : txR x = txR s := by unfold txR; rw [x7 11 (by decide) (by decide)]
    have xl : lnR x = lnR s := by unfold lnR; rw [xt, i4 410 (by decide)]
    have fx : fRd s x := by rw [ex, ew]; exact fRd_u (fRd_u (fRd_0 s) _ (by decide)) _ (by decide)
    refine k0 y ⟨fun z => by omega, fun _ => ⟨y1, fRd_t fx (fRc_d y2), fun L hL => ?_⟩⟩
    have hx : SGq x L := by
      unfold SGq sgB
      rw [xt, xl, i4 409 (by decide)]; exact hL
    have q := y3 L hx
    have ec : clR x L = clG s L := by
      unfold clR clG
      rw [i5.1, i5.2.1, i5.2.2, x7 12 (by decide) (by decide), clF_i i2]
    rw [ec] at q
    exact q
  · rintro v u ⟨_, e⟩ h w ⟨hw, e2⟩ hl
    rw [(see u e).2.1]
    exact ⟨by decide, by omega⟩
  · rintro v u ⟨_, e⟩ h w ⟨hw, e2⟩ hl v9 x ⟨rfl, ex⟩
    obtain ⟨⟨h0, h6⟩, r1, r2, ⟨L0, hL0⟩, r4, r5⟩ := rul u e h
    have ew := R8q e e2
    rw [(see w ew).2.2.1] at hl
    have f := flt w x 4 _ ew (by decide) (see u e).2.1 ex
    refine k0 x ⟨fun z => by omega, fun _ => ⟨f.2.1, f.2.2.2, fun L hL => ?_⟩⟩
    unfold clG clF
    rw [if_pos ((wpl u e).1 hw), if_pos (by omega), f.1]
    rfl
  · rintro v u ⟨_, e⟩ h w ⟨hw, e2⟩ hl v9 x ⟨rfl, ex⟩
    exact Or.inl rfl
  · rintro v u ⟨_, e⟩ h w ⟨hw, e2⟩
    rw [(see u e).2.1]
    exact ⟨by decide, by omega⟩
  · rintro v u ⟨_, e⟩ h w ⟨hw, e2⟩ v9 x ⟨rfl, ex⟩
    obtain ⟨⟨h0, h6⟩, r1, r2, ⟨L0, hL0⟩, r4, r5⟩ := rul u e h
    have ew := R8q e e2
    have f := flt w x 0 _ ew (by decide) (see u e).2.1 ex
    refine k0 x ⟨fun z => by omega, fun _ => ⟨f.2.1, f.2.2.2, fun L hL => ?_⟩⟩
    unfold clG clF
    rw [if_neg (fun z => hw ((wpl u e).2 z)), f.1]
    rfl
  · rintro v u ⟨_, e⟩ h w ⟨hw, e2⟩ v9 x ⟨rfl, ex⟩
    exact Or.inl rfl
  · rintro v u ⟨_, e⟩ h
    exact (see u e).2.2.2.2.2.1
  · rintro v u ⟨_, e⟩ h w ⟨hw, e2⟩ hl x ex
    obtain ⟨h6, r1, r2, ⟨r, r3, er⟩, r4, r5⟩ := day u e h
    have ew := R8q e e2
    obtain ⟨i1, i2, i3, i4, i5, i6⟩ := inc w x 40 ew (by omega) (by omega) (by decide) hl ex
    have sw := see w ew
    have hd := (dw u e).1 hw
    have tL := d257 hd
    rw [i4 413 (by decide)]
    refine ⟨⟨i6, by rw [i3 9 (by decide)]; exact sw.2.2.2.1, by rw [i3 8 (by decide), i5.2.2]; exact sw.2.1, by rw [i5.1, i5.2.1, i5.2.2]; exact tL⟩, by rw [(see u e).2.1, i5.2.2], by rw [er 3 (by decide)]; exact r3.1.1, by rw [er 4 (by decide)]; exact r3.1.2, ?_, by rw [i5.1, i5.2.1, i5.2.2]; exact hd⟩
    rw [er 0 (by decide)]
    rcases r3.2.2.2.2.2 with z | z
    · exact Or.inl z.1
    · exact Or.inr z.1
  · rintro v u ⟨_, e⟩ h w ⟨hw, e2⟩ hl x ex y ⟨y1, y2⟩
    obtain ⟨h6, hD⟩ := day u e h
    have ew := R8q e e2
    have r4 := hD.2.2.2.1
    obtain ⟨i1, i2, i3, i4, i5, i6⟩ := inc w x 40 ew (by omega) (by omega) (by decide) hl ex
    have hd := (dw u e).1 hw
    have tL := d257 hd
    have q := dlt x i5 (i4 413 (by decide)) hD i2
    have dc := dcA_1 hd (fun z => y1 (q.1.2 z))
    unfold E1q at y2
    rw [q.2.1, q.2.2, i4 413 (by decide)] at y2
    obtain ⟨y21, y22, y23⟩ := y2
    have fx : fWs s x := by rw [ex, ew]; exact fWs_t (fWs_u s _ (by decide)) (fWs_u _ _ (by decide))
    have ed : dcG s = _ := dc
    have nb := nxA_b (TR s) hb.2.1
    have n2 := nb.2.2 tL.1
    have sl := seq_l (rngA (wnA (TR s) (nR s) (skR s)) (s 413)) _ nb.2.1 y21
    refine k1 y ⟨fun _ => ?_, fun z => by omega⟩
    unfold DH1
    rw [ed]
    refine ⟨y21, y22.1, y22.2.1, y22.2.2.1, y23, ?_, ?_, fWs_t fx (fWr_s y22.2.2.2)⟩
    · rw [y22.2.2.2.2 14 (by decide)]; exact i1
    · rw [y22.2.1]; omega
  · rintro v u ⟨_, e⟩ h w ⟨hw, e2⟩ hl x ex y hy
    obtain ⟨h6, hD⟩ := day u e h
    have ew := R8q e e2
    have r4 := hD.2.2.2.1
    obtain ⟨i1, i2, i3, i4, i5, i6⟩ := inc w x 40 ew (by omega) (by omega) (by decide) hl ex
    have hd := (dw u e).1 hw
    have tL := d257 hd
    have q := dlt x i5 (i4 413 (by decide)) hD i2
    have fx : fWs s x := by rw [ex, ew]; exact fWs_t (fWs_u s _ (by decide)) (fWs_u _ _ (by decide))
    refine k0 y ⟨fun _ => ?_, fun z => by omega⟩
    rcases hy with ⟨y1, y2, y3⟩ | ⟨y1, y2, y3, y4⟩
    · have dc : dcG s = _ := dcA_4 hd (q.1.1 y1)
      unfold DH0
      rw [dc, y2, i5.2.2]
      exact ⟨fuA_p _ (by decide), rfl, fWs_t fx (fWr_s y3)⟩
    · have dc : dcG s = _ := dcA_1 hd (fun z => y1 (q.1.2 z))
      rw [q.2.1] at y2 y3
      have sb := (seq_b (T := TR s) (rngA (wnA (TR s) (nR s) (skR s)) (s 413)) (nxA (TR s) (nR s) (skR s)) (nxA_b (TR s) hb.2.1).2.1).1
      unfold DH0
      rw [dc, y3]
      exact ⟨by omega, rfl, fWs_t fx (fWr_s y4)⟩
  · rintro v u ⟨_, e⟩ h w ⟨hw, e2⟩ hl
    rw [(see u e).2.1]
    exact ⟨by decide, by omega⟩
  · rintro v u ⟨_, e⟩ h w ⟨hw, e2⟩ hl v9 x ⟨rfl, ex⟩
    obtain ⟨h6, hD⟩ := day u e h
    have ew := R8q e e2
    rw [(see w ew).2.2.1] at hl
    have f := flt w x 4 _ ew (by decide) (see u e).2.1 ex
    have dc : dcG s = _ := dcA_4 ((dw u e).1 hw) (Or.inl (by omega))
    refine k0 x ⟨fun _ => ?_, fun z => by omega⟩
    unfold DH0
    rw [dc]
    exact ⟨f.2.1, f.1.symm, f.2.2.1⟩
  · rintro v u ⟨_, e⟩ h w ⟨hw, e2⟩ hl v9 x ⟨rfl, ex⟩
    exact Or.inl rfl
  · rintro v u ⟨_, e⟩ h w ⟨hw, e2⟩
    rw [(see u e).2.1]
    exact ⟨by decide, by omega⟩
  · rintro v u ⟨_, e⟩ h w ⟨hw, e2⟩ v9 x ⟨rfl, ex⟩
    obtain ⟨h6, hD⟩ := day u e h
    have ew := R8q e e2
    have f := flt w x 0 _ ew (by decide) (see u e).2.1 ex
    have dc : dcG s = _ := dcA_0 (fun z => hw ((dw u e).2 z))
    refine k0 x ⟨fun _ => ?_, fun z => by omega⟩
    unfold DH0
    rw [dc]
    exact ⟨f.2.1, f.1.symm, f.2.2.1⟩
  · rintro v u ⟨_, e⟩ h w ⟨hw, e2⟩ v9 x ⟨rfl, ex⟩
    exact Or.inl rfl
