/-! a RULE read: the class -/
def rlF (T : Nat → Int) (n : Nat) : Nat → Int → Nat → Int → List Int → List (Nat × Nat) → Int × List Int × List (Nat × Nat)
  | 0, _, _, _, L, E => (0, L, E)
  | f + 1, i, a, k, L, E => if (clF T n i a k L).1 = 0 then (if tkK T n (clF T n i a k L).2.1 = 59 then rlF T n f (i + 1) (nxA T n (clF T n i a k L).2.1) (clF T n i a k L).2.2.1 (clF T n i a k L).2.2.2.1 (E ++ [((clF T n i a k L).2.2.2.2, (clF T n i a k L).2.2.2.1.length)])
    else (if tkK T n (clF T n i a k L).2.1 = -1 then 0 else fuA (clF T n i a k L).2.1 0, (clF T n i a k L).2.2.2.1, E ++ [((clF T n i a k L).2.2.2.2, (clF T n i a k L).2.2.2.1.length)]))
    else ((clF T n i a k L).1, [], [])
theorem rlF_s (T : Nat → Int) (n f : Nat) (i : Int) (a : Nat) (k : Int) (L : List Int) (E : List (Nat × Nat)) : rlF T n (f + 1) i a k L E = if (clF T n i a k L).1 = 0 then (if tkK T n (clF T n i a k L).2.1 = 59 then rlF T n f (i + 1) (nxA T n (clF T n i a k L).2.1) (clF T n i a k L).2.2.1 (clF T n i a k L).2.2.2.1 (E ++ [((clF T n i a k L).2.2.2.2, (clF T n i a k L).2.2.2.1.length)])
    else (if tkK T n (clF T n i a k L).2.1 = -1 then 0 else fuA (clF T n i a k L).2.1 0, (clF T n i a k L).2.2.2.1, E ++ [((clF T n i a k L).2.2.2.2, (clF T n i a k L).2.2.2.1.length)]))
    else ((clF T n i a k L).1, [], []) := rfl
def rlP (T : Nat → Int) (n : Nat) : Int × List Int × List (Nat × Nat) := rlF T n 13 0 (sk T n 0) 0 [] []
def EDq (t : mSt) (k : Nat) (E : List (Nat × Nat)) : Prop := t k 4 = (E.length : Int) ∧ ∀ c, c < E.length → t (k + 2) c = ((E.getD c (0, 0)).1 : Int) ∧ t (k + 3) c = ((E.getD c (0, 0)).2 : Int)
def RuL (t : mSt) (k : Nat) (x : List Int × List (Nat × Nat)) : Prop := cdL t k = x.1 ∧ t k 1 = (x.1.length : Int) ∧ EDq t k x.2
theorem v78 {X : (Nat → Int) × Nat} {d : Nat} {s : mSt} {Q : mQ} {a1 : Nat} (h1 : isRl a1)
  (I18 : Int → mSt → Prop) (m18 : Int → mSt → Nat)
  (z1 : ∀ y2 : Int, ∀ s : mSt, I18 y2 s → 12 < y2 → Q (some (mI (s 1 6))) s)
  (z2 : ∀ y2 : Int, ∀ s : mSt, I18 y2 s → ¬ 12 < y2 → RIq s a1 ∧ s a1 1 ≤ (aO s : Int) ∧ 0 ≤ y2 ∧ s a1 4 = y2)
  (z3 : ∀ y2 : Int, ∀ s : mSt, I18 y2 s → ¬ 12 < y2 → ∀ s3 : mSt, ((clQ s a1 y2).1 = 0 ∧ CB1 s s3 a1 (clQ s a1 y2)) → TSq s3 ∧ s3 1 6 = 0)
  (z4 : ∀ y2 : Int, ∀ s : mSt, I18 y2 s → ¬ 12 < y2 → ∀ s3 : mSt, ((clQ s a1 y2).1 = 0 ∧ CB1 s s3 a1 (clQ s a1 y2)) → ∀ s4 : mSt, (tkK (s3 2) (nO s3) (aO s3) = 59 ∧ TSa s3 s4 (nxA (s3 2) (nO s3) (aO s3)) ∧ s4 1 6 = 0 ∧ ∀ b, b ≠ 1 → s4 b = s3 b) → I18 (w32 (y2 + 1)) s4 ∧ m18 (w32 (y2 + 1)) s4 < m18 y2 s)
  (z5 : ∀ y2 : Int, ∀ s : mSt, I18 y2 s → ¬ 12 < y2 → ∀ s3 : mSt, ((clQ s a1 y2).1 = 0 ∧ CB1 s s3 a1 (clQ s a1 y2)) → ∀ s5 : mSt, (¬ tkK (s3 2) (nO s3) (aO s3) = 59 ∧ s5 1 6 = (if tkK (s3 2) (nO s3) (aO s3) = -1 then 0 else fuA (aO s3) 0) ∧ s5 1 1 = s3 1 1 ∧ ∀ b, b ≠ 1 → s5 b = s3 b) → Q (some (mI (s5 1 6))) s5)
  (z6 : ∀ y2 : Int, ∀ s : mSt, I18 y2 s → ¬ 12 < y2 → ∀ s6 : mSt, CB0 s s6 a1 (clQ s a1 y2).1 → Q (some (mI (s6 1 6))) s6)
  (z7 : (0 ≤ s 1 1 ∧ s 1 1 ≤ 400) ∧ BYq s)
  (z8 : ∀ s7 : mSt, (TSa s s7 (sk (s 2) (nO s) 0) ∧ s7 1 6 = 0 ∧ ∀ b, b ≠ 1 → s7 b = s b) → ∀ s8 : mSt, s8 = uS (uS s7 a1 1 0) a1 4 0 → I18 0 (uS s8 5 1 0)) :
  Sp X (d + 31) 78 [mR 5, mR a1] s Q := by
  have L : ∀ k : Nat, (∀ (y2 : Int) (s : mSt), I18 y2 s → m18 y2 s < k → Wp X (d + 31) 78 18 [some (mR 5), some (mR a1), some (mI y2)] [] s Q) := by
    intro k
    induction k with
    | zero => exact fun _ _ _ h => absurd h (Nat.not_lt_zero _)
    | succ k ih => exact fun y2 s hI hm => b78_18 h1 (fun q1 => b78_52 h1 (z1 y2 s hI q1)) (fun q2 => b78_24 h1 (c79 h1 (z2 y2 s hI q2) (fun s3 q3 => ⟨1, rfl, b78_30 h1 (fun q => absurd q (by decide)) (fun _ => b78_33 h1 (c93 (z3 y2 s hI q2 s3 q3) (fun s4 q4 => ⟨1, rfl, b78_40 h1 (fun _ => b78_46 h1 (ih (w32 (y2 + 1)) s4 (z4 y2 s hI q2 s3 q3 s4 q4).1 (Nat.lt_of_lt_of_le (z4 y2 s hI q2 s3 q3 s4 q4).2 (Nat.le_of_lt_succ hm)))) (fun q => absurd q (by decide))⟩) (fun s5 q5 => ⟨0, rfl, b78_40 h1 (fun q => absurd q (by decide)) (fun _ => b78_43 h1 (b78_52 h1 (z5 y2 s hI q2 s3 q3 s5 q5)))⟩)))⟩) (fun s6 q6 => ⟨0, rfl, b78_30 h1 (fun _ => b78_52 h1 (z6 y2 s hI q2 s6 q6)) (fun q => absurd q (by decide))⟩)))
  exact e78 (b78_0 h1 (c89 z7 (fun s7 q7 => ⟨rfl, b78_7 h1 (c71 h1 (fun s8 q8 => ⟨rfl, b78_11 h1 ((L (m18 0 (uS s8 5 1 0) + 1)) 0 (uS s8 5 1 0) (z8 s7 q7 s8 q8) (Nat.lt_succ_self _))⟩))⟩)))

theorem gdE_l {α : Type} (E : List α) (x d : α) {c : Nat} (h : c < E.length) : (E ++ [x]).getD c d = E.getD c d := by
  rw [List.getD_eq_getElem?_getD, List.getD_eq_getElem?_getD, List.getElem?_append_left h]
theorem gdE_r {α : Type} (E : List α) (x d : α) : (E ++ [x]).getD E.length d = x := by
  rw [List.getD_eq_getElem?_getD, List.getElem?_append_right (Nat.le_refl _), Nat.sub_self]; rfl
theorem ED_s {s t : mSt} {k e m : Nat} {E : List (Nat × Nat)} (h : EDq s k E) (h4 : t k 4 = s k 4 + 1) (h2 : t (k + 2) = up (s (k + 2)) (s k 4).toNat (e : Int)) (h3 : t (k + 3) = up (s (k + 3)) (s k 4).toNat (m : Int)) : EDq t k (E ++ [(e, m)]) := by
  have n : (s k 4).toNat = E.length := by have := h.1; omega
  rw [n] at h2 h3
  refine ⟨by rw [h4, h.1, List.length_append]; rfl, fun c hc => ?_⟩
  rw [List.length_append] at hc
  have hc' : c < E.length + 1 := hc
  rw [h2, h3]
  by_cases z : c < E.length
  · rw [gdE_l E _ _ z, up_ne (by omega), up_ne (by omega)]; exact h.2 c z
  · have e0 : c = E.length := by omega
    rw [e0, gdE_r, up_at, up_at]; exact ⟨rfl, rfl⟩
theorem ED_c {s t : mSt} {k : Nat} {E : List (Nat × Nat)} (h : EDq s k E) (e0 : t k = s k) (e2 : t (k + 2) = s (k + 2)) (e3 : t (k + 3) = s (k + 3)) : EDq t k E := by
  unfold EDq; rw [e0, e2, e3]; exact h
theorem clF_12 {T : Nat → Int} {n a : Nat} {i k : Int} {L : List Int} (h : 12 ≤ i) : ¬ (clF T n i a k L).1 = 0 := by
  unfold clF
  by_cases w : wnA T n a = 14
  · rw [if_pos w, if_pos h]; show ¬ fuA a 4 = 0; unfold fuA; omega
  · rw [if_neg w]; show ¬ fuA a 0 = 0; unfold fuA; omega
theorem c78 {X : (Nat → Int) × Nat} {d : Nat} {s : mSt} {Q : mQ} {a1 : Nat} (h1 : isRl a1) (p1 : (0 ≤ s 1 1 ∧ s 1 1 ≤ 400) ∧ BYq s) (k : ∀ (v : Int) (t : mSt), (v = (rlP (s 2) (nO s)).1 ∧ ((rlP (s 2) (nO s)).1 = 0 → RuL t a1 (rlP (s 2) (nO s)).2) ∧ t 1 1 = s 1 1 ∧ fRr s t a1) → Q (some (mI v)) t) : Sp X (d + 31) 78 [mR 5, mR a1] s Q := by
  have l := rl_8 h1
  let T := s 2
  let n := nO s
  let J : Int → mSt → Prop := fun y t => ∃ i : Nat, y = i ∧ i ≤ 12 ∧ ∃ a kk L E, rlF T n (13 - i) i a kk L E = rlP T n ∧ TSa s t a ∧ t 1 6 = 0 ∧ (t 5 1 = kk ∧ 0 ≤ kk ∧ kk ≤ 60) ∧ (cdL t a1 = L ∧ 0 ≤ t a1 1 ∧ t a1 1 ≤ (a : Int)) ∧ (EDq t a1 E ∧ E.length = i) ∧ fRr s t a1
  have cq : ∀ {t : mSt} {a i : Nat} {kk : Int} {L : List Int}, TSa s t a → t 5 1 = kk → cdL t a1 = L → clQ t a1 i = clF T n i a kk L := fun {t a i kk L} ht e5 eL => by
    unfold clQ
    rw [ht.2.1, TSa_n ht, ht.2.2.2, e5, eL]
  refine v78 h1 J (fun y _ => (50 - y).toNat) ?_ ?_ ?_ ?_ ?_ ?_ p1 ?_
  · rintro _ t ⟨i, rfl, hi, _⟩ hc
    omega
  · rintro _ t ⟨i, rfl, hi, a, kk, L, E, eR, ht, hz, h5, hL, hE, hf⟩ hc
    have e4 := hE.1.1
    exact ⟨⟨ht.1, hz, by rw [h5.1]; exact h5.2, hL.2.1⟩, by rw [ht.2.2.2]; exact hL.2.2, by omega, by rw [e4, hE.2]⟩
  · rintro _ t ⟨i, rfl, hi, a, kk, L, E, eR, ht, hz, h5, hL, hE, hf⟩ hc u hu
    exact ⟨hu.2.1.1.1, hu.2.1.2.1⟩
  · rintro _ t ⟨i, rfl, hi, a, kk, L, E, eR, ht, hz, h5, hL, hE, hf⟩ hc u hu v hv
    rw [cq (i := i) ht h5.1 hL.1] at hu
    obtain ⟨q0, ⟨c1, c2, c3, c4, c5, c6, c7⟩, d4, d2, d3, df⟩ := hu
    have tu := TSa_t ht c1
    rw [tu.2.1, TSa_n tu, tu.2.2.2] at hv
    have i12 : i < 12 := by
      apply Nat.not_le.1
      intro w
      exact clF_12 (by omega) q0
    have e : rlF T n (13 - i) i a kk L E = rlF T n (13 - (i + 1)) ((i + 1 : Nat) : Int) (nxA T n (clF T n i a kk L).2.1) (clF T n i a kk L).2.2.1 (clF T n i a kk L).2.2.2.1 (E ++ [((clF T n i a kk L).2.2.2.2, (clF T n i a kk L).2.2.2.1.length)]) := by
      rw [show 13 - i = (13 - (i + 1)) + 1 by omega, rlF_s, if_pos q0, if_pos hv.1]; rfl
    rw [w32_of (by omega)]
    have vb : ∀ b, b ≠ 1 → v b = u b := hv.2.2.2
    have bv := nxA_b T (show (clF T n i a kk L).2.1 ≤ n by
      have := ts_b tu.1
      rw [tu.2.2.2, TSa_n tu] at this
      exact this.1)
    refine ⟨⟨i + 1, by omega, by omega, _, _, _, _, e.symm.trans eR, TSa_t tu hv.2.1, hv.2.2.1, ⟨by rw [vb 5 (by omega)]; exact c3, by rw [← c3]; exact c4⟩, ⟨by rw [cdL_c (by rw [vb a1 (by omega)]) (vb (a1 + 1) (by omega))]; exact c5, by rw [vb a1 (by omega)]; exact c6, ?_⟩, ⟨ED_c (ED_s hE.1 d4 d2 d3) (vb a1 (by omega)) (vb (a1 + 2) (by omega)) (vb (a1 + 3) (by omega)), ?_⟩, fRr_t hf (fRr_t df ⟨fun b g1 _ _ => vb b g1, fun j _ => by rw [vb 5 (by omega)]⟩)⟩, by omega⟩
    · rw [vb a1 (by omega)]
      have := hL.2.2
      rw [ht.2.2.2, tu.2.2.2] at c7
      omega
    · rw [List.length_append, hE.2]; rfl
  · rintro _ t ⟨i, rfl, hi, a, kk, L, E, eR, ht, hz, h5, hL, hE, hf⟩ hc u hu v hv
    rw [cq (i := i) ht h5.1 hL.1] at hu
    obtain ⟨q0, ⟨c1, c2, c3, c4, c5, c6, c7⟩, d4, d2, d3, df⟩ := hu
    have tu := TSa_t ht c1
    rw [tu.2.1, TSa_n tu, tu.2.2.2] at hv
    have e : rlF T n (13 - i) i a kk L E = (if tkK T n (clF T n i a kk L).2.1 = -1 then 0 else fuA (clF T n i a kk L).2.1 0, (clF T n i a kk L).2.2.2.1, E ++ [((clF T n i a kk L).2.2.2.2, (clF T n i a kk L).2.2.2.1.length)]) := by
      rw [show 13 - i = (13 - (i + 1)) + 1 by omega, rlF_s, if_pos q0, if_neg hv.1]
    rw [e] at eR
    have vb : ∀ b, b ≠ 1 → v b = u b := hv.2.2.2
    refine k _ v ⟨?_, fun _ => ?_, hv.2.2.1.trans tu.2.2.1, fRr_t hf (fRr_t df ⟨fun b g1 _ _ => vb b g1, fun j _ => by rw [vb 5 (by omega)]⟩)⟩
    · show v 1 6 = (rlP T n).1
      rw [← eR]; exact hv.2.1
    · show RuL v a1 (rlP T n).2
      rw [← eR]
      have cu : cdL v a1 = cdL u a1 := cdL_c (by rw [vb a1 (by omega)]) (vb (a1 + 1) (by omega))
      refine ⟨cu.trans c5, ?_, ED_c (ED_s hE.1 d4 d2 d3) (vb a1 (by omega)) (vb (a1 + 2) (by omega)) (vb (a1 + 3) (by omega))⟩
      show v a1 1 = ((clF T n i a kk L).2.2.2.1.length : Int)
      rw [vb a1 (by omega), ← c5, cdL_n]
      omega
  · rintro _ t ⟨i, rfl, hi, a, kk, L, E, eR, ht, hz, h5, hL, hE, hf⟩ hc u hu
    rw [cq (i := i) ht h5.1 hL.1] at hu
    have q0 := hu.1
    have e : rlF T n (13 - i) i a kk L E = ((clF T n i a kk L).1, [], []) := by
      rw [show 13 - i = (13 - (i + 1)) + 1 by omega, rlF_s, if_neg (by omega)]
    rw [e] at eR
    refine k _ u ⟨?_, fun w => ?_, hu.2.2.1.trans ht.2.2.1, fRr_t hf hu.2.2.2⟩
    · show u 1 6 = (rlP T n).1
      rw [← eR]; exact hu.2.1
    · have w' : (rlP T n).1 = 0 := w
      rw [← eR] at w'
      have w2 : (clF T n i a kk L).1 = 0 := w'
      omega
  · rintro a ha b hb
    have v5 : ∀ c, c ≠ 5 → (uS b 5 1 0) c = b c := fun c hc => uS_cell hc
    have b1 : b 1 = a 1 := by rw [hb, uS_cell (by omega), uS_cell (by omega)]
    have b2 : b 2 = a 2 := by rw [hb, uS_cell (by omega), uS_cell (by omega)]
    have bk : ∀ j, b a1 j = if j = 4 then 0 else if j = 1 then 0 else a a1 j := fun j => by rw [hb, uS_at, uS_at]
    have z1 : (uS b 5 1 0) a1 1 = 0 := by rw [v5 a1 (by omega), bk]; rfl
    refine ⟨0, rfl, by omega, _, 0, [], [], rfl, TSa_c ha.1 (by rw [v5 1 (by omega), b1]) (by rw [v5 2 (by omega), b2]), by rw [v5 1 (by omega), b1]; exact ha.2.1, ⟨by rw [uS_at, if_pos rfl], by omega, by omega⟩, ⟨?_, by rw [z1]; exact Int.le_refl 0, by rw [z1]; omega⟩, ⟨⟨by rw [v5 a1 (by omega), bk]; rfl, fun c hc => absurd hc (by show ¬ c < 0; omega)⟩, rfl⟩, ?_, ?_⟩
    · unfold cdL; rw [z1]; rfl
    · intro c g1 g2 g3
      rw [v5 c g2, hb, uS_cell (by omega), uS_cell (by omega)]
      exact ha.2.2 c g1
    · intro j hj
      rw [uS_at, if_neg hj, hb, uS_cell (by omega), uS_cell (by omega), ha.2.2 5 (by omega)]
def fRu (s t : mSt) (k : Nat) : Prop := (∀ b, ¬ (b = 0 ∨ b = 1 ∨ b = 5 ∨ k ≤ b ∧ b ≤ k + 3) → t b = s b) ∧ (∀ j, j ≠ 4 → t 0 j = s 0 j) ∧ ∀ j, j ≠ 1 → t 5 j = s 5 j
theorem cl_p {T : Nat → Int} {n a : Nat} {i k : Int} {L : List Int} (ha : a ≤ n) : (0 ≤ (clF T n i a k L).1 ∧ (clF T n i a k L).1 ≤ 8 * (n : Int) + 5) ∧ (clF T n i a k L).2.1 ≤ n := by
  have nb := nxA_b T ha
  have q := sum_p (T := T) (n := n) (n - nxA T n a) (nxA T n a) k L (-1) (-1) (Nat.le_refl _) nb.2.1
  unfold clF
  by_cases w : wnA T n a = 14
  · rw [if_pos w]
    by_cases h : 12 ≤ i
    · rw [if_pos h]
      refine ⟨⟨?_, ?_⟩, Nat.zero_le n⟩
      · show 0 ≤ fuA _ _; unfold fuA; omega
      · show fuA _ _ ≤ _; unfold fuA; omega
    · rw [if_neg h]
      generalize sumF T n (nxA T n a) k L (-1) (-1) = u at q
      by_cases z : u.1 = 0
      · rw [if_pos z]
        have p := q.2 z
        unfold cl2
        by_cases w2 : wnA T n u.2.1 = 15
        · rw [if_pos w2]
          have nu := nxA_b T p.2
          have r := ts_p (T := T) (k := u.2.2.1) (L := u.2.2.2) nu.2.1
          generalize tsF T n (nxA T n u.2.1) u.2.2.1 u.2.2.2 = v at r
          by_cases z2 : v.1 = 0
          · rw [if_pos z2]; exact ⟨⟨Int.le_refl 0, by show (0 : Int) ≤ _; omega⟩, r.2⟩
          · rw [if_neg z2]; exact ⟨r.1, Nat.zero_le n⟩
        · rw [if_neg w2]; exact ⟨⟨Int.le_refl 0, by show (0 : Int) ≤ _; omega⟩, p.2⟩
      · rw [if_neg z]; exact ⟨q.1, Nat.zero_le n⟩
  · rw [if_neg w]
    refine ⟨⟨?_, ?_⟩, Nat.zero_le n⟩
    · show 0 ≤ fuA _ _; unfold fuA; omega
    · show fuA _ _ ≤ _; unfold fuA; omega
theorem rl_p {T : Nat → Int} {n : Nat} : ∀ (f : Nat) (i : Int) (a : Nat) (k : Int) (L : List Int) (E : List (Nat × Nat)), a ≤ n → 0 ≤ (rlF T n f i a k L E).1 ∧ (rlF T n f i a k L E).1 ≤ 8 * (n : Int) + 5
  | 0, i, a, k, L, E, ha => ⟨Int.le_refl 0, by show (0 : Int) ≤ _; omega⟩
  | f + 1, i, a, k, L, E, ha => by
    have c := cl_p (T := T) (i := i) (k := k) (L := L) ha
    rw [rlF_s]
    split
    · split
      · exact rl_p f _ _ _ _ _ (nxA_b T c.2).2.1
      · split
        · exact ⟨Int.le_refl 0, by show (0 : Int) ≤ _; omega⟩
        · refine ⟨?_, ?_⟩
          · show 0 ≤ fuA _ _; unfold fuA; omega
          · show fuA _ _ ≤ _; unfold fuA; omega
    · exact c.1
theorem rlP_b (T : Nat → Int) (n : Nat) : 0 ≤ (rlP T n).1 ∧ (rlP T n).1 ≤ 8 * (n : Int) + 5 := rl_p 13 0 _ _ _ _ ((rnT_b (fun k => decide (T k = 32)) n 0).2 (by omega))
def rlK (s : mSt) : Nat := 83 + 4 * (s 0 4).toNat
theorem v125 {X : (Nat → Int) × Nat} {d : Nat} {s : mSt} {Q : mQ}
  (z1 : (s 0 4) < 6 → isRl (s 6 (s 0 4).toNat).toNat)
  (z2 : (s 0 4) < 6 → 0 ≤ (s 0 4) ∧ (s 0 4) < 6)
  (z3 : (s 0 4) < 6 → s 6 (s 0 4).toNat = (((s 6 (s 0 4).toNat).toNat : Nat) : Int))
  (z4 : (s 0 4) < 6 → (0 ≤ s 1 1 ∧ s 1 1 ≤ 400) ∧ BYq s)
  (z5 : (s 0 4) < 6 → ∀ v2 : Int, ∀ s2 : mSt, (v2 = (rlP (s 2) (nO s)).1 ∧ ((rlP (s 2) (nO s)).1 = 0 → RuL s2 ((s 6 (s 0 4).toNat).toNat) (rlP (s 2) (nO s)).2) ∧ s2 1 1 = s 1 1 ∧ fRr s s2 ((s 6 (s 0 4).toNat).toNat)) → v2 = 0 → ∀ t4 : mSt, t4 = uS s2 1 1 0 → Q (some (mI (w32 (((uS t4 0 4 (w32 ((t4 0 4) + 1))) 0 4) - 1)))) (uS t4 0 4 (w32 ((t4 0 4) + 1))))
  (z6 : (s 0 4) < 6 → ∀ v2 : Int, ∀ s2 : mSt, (v2 = (rlP (s 2) (nO s)).1 ∧ ((rlP (s 2) (nO s)).1 = 0 → RuL s2 ((s 6 (s 0 4).toNat).toNat) (rlP (s 2) (nO s)).2) ∧ s2 1 1 = s 1 1 ∧ fRr s s2 ((s 6 (s 0 4).toNat).toNat)) → ¬ v2 = 0 → ∀ t6 : mSt, t6 = uS s2 1 1 0 → Q (some (mI (w32 ((-2) - v2)))) t6)
  (z7 : ¬ (s 0 4) < 6 → Q (some (mI (-1))) s) :
  Sp X (d + 32) 125 [mR 0] s Q := e125 (b125_0 (fun q1 => b125_11 (r1 := (s 6 (s 0 4).toNat).toNat) (z1 q1) (z2 q1) (z3 q1) (c78 (z1 q1) (z4 q1) (fun v2 s2 q2 => ⟨v2, rfl, b125_27 (fun q3 => Wp_gen (fun t4 e4 => b125_45 (z5 q1 v2 s2 q2 q3 t4 e4))) (fun q5 => Wp_gen (fun t6 e6 => b125_40 (z6 q1 v2 s2 q2 q5 t6 e6)))⟩))) (fun q7 => b125_9 (z7 q7)))

theorem c125 {X : (Nat → Int) × Nat} {d : Nat} {s : mSt} {Q : mQ} (p1 : (0 ≤ s 1 1 ∧ s 1 1 ≤ 400) ∧ BYq s ∧ 0 ≤ s 0 4 ∧ ∀ r, r < 6 → s 6 r = ((83 + 4 * r : Nat) : Int)) (k : ∀ (v : Int) (t : mSt), (YN (s 0 4 < 6) (YN ((rlP (s 2) (nO s)).1 = 0) (v = s 0 4 ∧ t 0 4 = s 0 4 + 1 ∧ RuL t (rlK s) (rlP (s 2) (nO s)).2 ∧ t 1 1 = 0 ∧ fRu s t (rlK s)) (v = -2 - (rlP (s 2) (nO s)).1 ∧ t 0 = s 0 ∧ t 1 1 = 0 ∧ fRu s t (rlK s))) (v = -1 ∧ t = s)) → Q (some (mI v)) t) : Sp X (d + 32) 125 [mR 0] s Q := by
  obtain ⟨hn, hb, h4, h6⟩ := p1
  have ek : s 0 4 < 6 → (s 6 (s 0 4).toNat).toNat = rlK s := fun z => by
    rw [h6 _ (by omega), tnc]; rfl
  have bb := rlP_b (s 2) (nO s)
  have nn : (nO s : Int) ≤ 400 := by unfold nO; omega
  have k8 : 83 ≤ rlK s := by unfold rlK; omega
  refine v125 (fun z => by rw [ek z]; exact rl_of (by omega)) (fun z => ⟨h4, z⟩) (fun z => by rw [h6 _ (by omega), tnc]) (fun _ => ⟨hn, hb⟩) ?_ ?_ (fun z => k _ s ⟨fun y => absurd y z, fun _ => ⟨rfl, rfl⟩⟩)
  · rintro z v u ⟨ev, hR, e1, hf⟩ hv w ew
    rw [ek z] at hR hf
    have r0 : (rlP (s 2) (nO s)).1 = 0 := by rw [← ev]; exact hv
    have w0 : w 0 = s 0 := by rw [ew, uS_cell (by decide)]; exact hf.1 0 (by decide) (by decide) (by omega)
    have w4 : w 0 4 = s 0 4 := by rw [w0]
    have wc : ∀ b, b ≠ 1 → w b = u b := fun b hb => by rw [ew, uS_cell hb]
    have tc : ∀ b, b ≠ 0 → (uS w 0 4 (w32 (w 0 4 + 1))) b = w b := fun b hb => uS_cell hb
    have q := hR r0
    refine k _ _ ⟨fun _ => ⟨fun _ => ⟨?_, ?_, ⟨?_, ?_, ?_⟩, ?_, ?_, ?_, ?_⟩, fun y => absurd r0 y⟩, fun y => absurd z y⟩
    · rw [uS_at, if_pos rfl, w4, w32_of (x := s 0 4 + 1) (by omega), w32_of (by omega)]; omega
    · rw [uS_at, if_pos rfl, w4, w32_of (by omega)]
    · rw [cdL_c (by rw [tc _ (by omega), wc _ (by omega)]) ((tc (rlK s + 1) (by omega)).trans (wc _ (by omega)))]; exact q.1
    · rw [tc _ (by omega), wc _ (by omega)]; exact q.2.1
    · exact ED_c q.2.2 ((tc _ (by omega)).trans (wc _ (by omega))) ((tc _ (by omega)).trans (wc _ (by omega))) ((tc _ (by omega)).trans (wc _ (by omega)))
    · rw [tc 1 (by decide), ew, uS_at, if_pos rfl]
    · intro b hb
      rw [tc b (by omega), wc b (by omega)]; exact hf.1 b (by omega) (by omega) (by omega)
    · intro j hj
      rw [uS_at, if_neg hj, w0]
    · intro j hj
      rw [tc 5 (by decide), wc 5 (by decide)]; exact hf.2 j hj
  · rintro z v u ⟨ev, hR, e1, hf⟩ hv w ew
    rw [ek z] at hf
    have r0 : ¬ (rlP (s 2) (nO s)).1 = 0 := by rw [← ev]; exact hv
    have w0 : w 0 = s 0 := by rw [ew, uS_cell (by decide)]; exact hf.1 0 (by decide) (by decide) (by omega)
    have wc : ∀ b, b ≠ 1 → w b = u b := fun b hb => by rw [ew, uS_cell hb]
    refine k _ w ⟨fun _ => ⟨fun y => absurd y r0, fun _ => ⟨by rw [ev, w32_of (by omega)], w0, by rw [ew, uS_at, if_pos rfl], ?_, fun j _ => by rw [w0], fun j hj => by rw [wc 5 (by decide)]; exact hf.2 j hj⟩⟩, fun y => absurd z y⟩
    intro b hb
    rw [wc b (by omega)]; exact hf.1 b (by omega) (by omega) (by omega)
