/-! a whole text, of a rule and of a day: the reference -/
def BRq (s u : mSt) : Prop := RHq u ∧ fRd s u ∧ lnR u ≤ (skR u : Int) ∧ ∃ (F : Nat) (L : List Int) (E : List (Nat × Nat)), SGq u L ∧ EDr u (txR s) E ∧ F + E.length = 13 ∧ prE (e3L E) E.length = L.length ∧ u 407 14 = (E.length : Int) ∧ E.length ≤ 12 ∧ rlP (TR s) (nR s) = rlF (TR s) (nR s) F (E.length : Int) (skR u) (u 407 12) L E
def GRq (s t : mSt) : Prop := RHq t ∧ fRd s t ∧ lnR t ≤ (skR t : Int) ∧ ∃ (F : Nat) (L : List Int) (E : List (Nat × Nat)), SGq t L ∧ EDr t (txR s) E ∧ F + E.length = 13 ∧ prE (e3L E) E.length = L.length ∧ t 407 14 = (E.length : Int) ∧ E.length ≤ 12 ∧ rlP (TR s) (nR s) = if tkK (TR s) (nR s) (skR t) = 59 then rlF (TR s) (nR s) F (E.length : Int) (nxA (TR s) (nR s) (skR t)) (t 407 12) L E else (if tkK (TR s) (nR s) (skR t) = -1 then 0 else fuA (skR t) 0, L, E)
theorem BR_s {s u : mSt} (h : BRq s u) : PAr u ∧ (∀ v, PBr u v → GRq s v ∧ skR u < skR v) ∧ ∀ v, PCr u v → fRd s v ∧ v 407 9 = (rlP (TR s) (nR s)).1 ∧ ¬ (rlP (TR s) (nR s)).1 = 0 := by
  obtain ⟨h1, h2, h3, F, L, E, e1, e2, e3, e4, e5, e6, e7⟩ := h
  have x := fRd_x h2
  have h11 := h1.2.2.2.2
  have u2 : u 412 (txR u) = (E.length : Int) := by rw [x.1]; exact e2.1
  have eg : clG u L = clF (TR s) (nR s) (E.length : Int) (skR u) (u 407 12) L := by unfold clG; rw [x.2.1, x.2.2, e5]
  obtain ⟨F', rfl⟩ : ∃ F', F = F' + 1 := ⟨F - 1, by omega⟩
  rw [rlF_s] at e7
  refine ⟨Or.inr ⟨h11, h1, h3, ⟨L, e1⟩, by omega, by rw [u2]; exact e5⟩, fun v hv => ?_, fun v hv => ?_⟩
  · obtain ⟨⟨v1, v2, v3, v4⟩, ⟨v5, v6⟩, v7⟩ := hv.2 h11.2
    have r := v7 L e1
    rw [eg] at r
    have l12 : ¬ 12 ≤ (E.length : Int) := fun z => clF_12 z r.1
    rw [if_pos r.1] at e7
    have ea : atR u = 48 * txR s + 4 * E.length := by unfold atR; rw [u2, x.1, tnc]
    rw [ea] at r
    rw [x.1] at v5
    generalize clF (TR s) (nR s) (E.length : Int) (skR u) (u 407 12) L = c at r e7
    obtain ⟨r1, r2, r3, r4, r5⟩ := r
    have len : (E ++ [(c.2.2.2.2, c.2.2.2.1.length)]).length = E.length + 1 := by rw [List.length_append]; rfl
    refine ⟨⟨v1, fRd_t h2 v2, v3, F', c.2.2.2.1, E ++ [(c.2.2.2.2, c.2.2.2.1.length)], r4, EDr_s e2 v5 e4 r5, by omega, ?_, by rw [v6, e5, len]; omega, by omega, ?_⟩, v4⟩
    · rw [len]
      show e3L _ E.length = _
      unfold e3L; rw [gdE_r]
    · rw [e7, r2, r3, len]
      rfl
  · obtain ⟨w1, w2, w3⟩ := hv.2 h11.2
    have r := w3 L e1
    rw [eg] at r
    rw [if_neg (by omega)] at e7
    have e8 : (rlP (TR s) (nR s)).1 = v 407 9 := by rw [e7]; exact r
    exact ⟨fRd_t h2 w2, e8.symm, by omega⟩
theorem GR_n {s t u : mSt} (h : GRq s t) (k : tkK (TR t) (nR t) (skR t) = 59) (e : u = uS t 407 8 ((skR t + 1 : Nat) : Int)) : BRq s u ∧ skR t < skR u := by
  obtain ⟨h1, h2, h3, F, L, E, e1, e2, e3, e4, e5, e6, e7⟩ := h
  have x := fRd_x h2
  have lt : skR t < nR t := k_lt (by rw [k]; decide)
  have hT := TR_t h1.1
  have g := RG_8 h1 (a := skR t + 1) lt
  rw [← e] at g
  have b1 := one_b hT lt (c := 59) (by
        have := (rw_k hT (n := nR t) (a := skR t) (c := 59) (by decide) (by decide) (by decide) (by decide)).2 k
        unfold rwA at this
        rw [if_neg (by omega)] at this
        exact this) (by decide) (by decide) (by decide)
  have ku : skR u = nxA (TR s) (nR s) (skR t) := by
    rw [g.2.1, ← x.2.1, ← x.2.2]; unfold nxA; rw [b1]
  have nb := nxA_b (TR t) (Nat.le_of_lt lt)
  have n2 := nb.2.2 lt
  rw [x.2.1, x.2.2] at n2 k
  rw [if_pos k] at e7
  have g3 := g.2.2.1
  refine ⟨⟨RG_H h1 g.1, fRd_t h2 (fRc_d (fRt_c (fRv_T g.1.2.2.2.2))), by omega, F, L, E, by unfold SGq; rw [g.2.2.2.1]; exact e1, EDr_c e2 (by rw [e, uS_cell (by decide)]) (by rw [e, uS_cell (by decide)]), e3, e4, by rw [e, uS_at, if_neg (by decide)]; exact e5, e6, by rw [e7, ku, g.2.2.2.2.1]⟩, by omega⟩
theorem GR_8 {s t : mSt} (h : GRq s t) : GRq s (uS t 407 8 (skR t : Int)) := by
  obtain ⟨h1, h2, h3, F, L, E, e1, e2, e3, e4, e5, e6, e7⟩ := h
  have g := see_s h1 rfl
  have g1 := g.2.1
  have g2 := g.2.2.1
  refine ⟨RG_H h1 g.1, fRd_t h2 (fRc_d (fRt_c (fRv_T g.1.2.2.2.2))), by omega, F, L, E, by unfold SGq; rw [g.2.2.2.1]; exact e1, EDr_c e2 (by rw [uS_cell (by decide)]) (by rw [uS_cell (by decide)]), e3, e4, by rw [uS_at, if_neg (by decide)]; exact e5, e6, by rw [e7, g1, g.2.2.2.2.1]⟩
/-! the day -/
def eqR (r r' : Rw) : Prop := ∀ j, j < 135 → r j = r' j
theorem up_q {r r' : Rw} (h : eqR r r') (i : Nat) (x : Int) : eqR (up r i x) (up r' i x) := fun j hj => by
  unfold up
  by_cases z : j = i
  · rw [if_pos z, if_pos z]
  · rw [if_neg z, if_neg z]; exact h j hj
theorem row_q {r r' : Rw} (h : eqR r r') (w : Int) (v : List Int) : eqR (rowA w r v) (rowA w r' v) := by
  have e3 := h 3 (by decide)
  have e4 := h 4 (by decide)
  unfold rowA
  by_cases a : w = 11
  · rw [if_pos a, if_pos a]; exact up_q (up_q (up_q h _ _) _ _) _ _
  · rw [if_neg a, if_neg a]
    by_cases b : w = 12
    · rw [if_pos b, if_pos b]
      unfold rdP
      rw [e3]; exact up_q (up_q (up_q h _ _) _ _) _ _
    · rw [if_neg b, if_neg b]
      by_cases c : w = 0
      · rw [if_pos c, if_pos c]
        unfold rdC
        rw [e4]; exact up_q (up_q (up_q (up_q h _ _) _ _) _ _) _ _
      · rw [if_neg c, if_neg c]; exact up_q h _ _
theorem dc_q {T : Nat → Int} {n a : Nat} {i : Int} {r r' : Rw} (h : eqR r r') : (dcA T n i a r).1 = (dcA T n i a r').1 ∧ (dcA T n i a r).2.1 = (dcA T n i a r').2.1 ∧ eqR (dcA T n i a r).2.2 (dcA T n i a r').2.2 := by
  have e3 := h 3 (by decide)
  have e4 := h 4 (by decide)
  by_cases d : dwP (wnA T n a)
  · have et : tmP i (wnA T n a) r ↔ tmP i (wnA T n a) r' := by unfold tmP; rw [e3, e4]
    by_cases t : tmP i (wnA T n a) r
    · rw [dcA_4 d t, dcA_4 d (et.1 t)]; exact ⟨rfl, rfl, h⟩
    · rw [dcA_1 d t, dcA_1 d (fun z => t (et.2 z))]
      have er : rngA (wnA T n a) r = rngA (wnA T n a) r' := by unfold rngA; rw [e3]
      rw [er]
      exact ⟨rfl, rfl, row_q h _ _⟩
  · rw [dcA_0 d, dcA_0 d]; exact ⟨rfl, rfl, h⟩
def fRB (s t : mSt) : Prop := fRA s t ∧ t 407 1 = s 407 1
theorem fRB_x {s t : mSt} (h : fRB s t) : TR t = TR s ∧ nR t = nR s := ⟨by unfold TR; rw [h.1.1 408 (by decide) (by decide)], by unfold nR; rw [h.2]⟩
theorem fRB_W {s t u : mSt} (h : fRB s t) (w : fWs t u) : fRB s u := ⟨fRA_t h.1 (fWs_A w), by rw [w.2 1 (by decide) (by decide)]; exact h.2⟩
def BDq (s u : mSt) : Prop := (TRq u ∧ u 407 9 = 0 ∧ fRB s u ∧ u 407 11 = 6) ∧ ∃ (F : Nat) (r : Rw), LWq r ∧ eqR (u 413) r ∧ 0 ≤ u 407 14 ∧ u 407 14 + F = 41 ∧ u 407 14 ≤ 40 ∧ (r 0 = 0 ↔ u 407 14 = 0) ∧ dyP (TR s) (nR s) = dyA (TR s) (nR s) F (u 407 14) (skR u) r
def GDq (s t : mSt) : Prop := (TRq t ∧ t 407 9 = 0 ∧ fRB s t ∧ t 407 11 = 6) ∧ ∃ (F : Nat) (r : Rw), LWq r ∧ r 0 = 1 ∧ eqR (t 413) r ∧ 1 ≤ t 407 14 ∧ t 407 14 + F = 41 ∧ t 407 14 ≤ 40 ∧ dyP (TR s) (nR s) = if tkK (TR s) (nR s) (skR t) = 59 then dyA (TR s) (nR s) F (t 407 14) (nxA (TR s) (nR s) (skR t)) r else (if tkK (TR s) (nR s) (skR t) = -1 then 0 else fuA (skR t) 0, r)
theorem BD_s {s u : mSt} (h : BDq s u) : PAr u ∧ (∀ v, PBr u v → GDq s v ∧ skR u < skR v) ∧ ∀ v, PCr u v → fRA s v ∧ v 407 9 = (dyP (TR s) (nR s)).1 ∧ ¬ (dyP (TR s) (nR s)).1 = 0 := by
  obtain ⟨⟨h1, h2, h3, h4⟩, F, r, e1, e2, e3, e4, e5, e6, e7⟩ := h
  have x := fRB_x h3
  obtain ⟨F', rfl⟩ : ∃ F', F = F' + 1 := ⟨F - 1, by omega⟩
  rw [dyA_s] at e7
  have q := dc_q (T := TR s) (n := nR s) (a := skR u) (i := u 407 14) e2
  have eg : dcG u = dcA (TR s) (nR s) (u 407 14) (skR u) (u 413) := by unfold dcG; rw [x.1, x.2]
  refine ⟨Or.inl ⟨h4, h1, h2, ⟨r, e1, e2⟩, ⟨e3, e5⟩, by rw [e2 0 (by decide)]; exact e6⟩, fun v hv => ?_, fun v hv => ?_⟩
  · obtain ⟨v1, v2, v3, v4, v5, v6, v7, v8⟩ := hv.1 h4
    rw [eg] at v1 v3 v5
    have d0 := q.1.symm.trans v1
    have r0 : ¬ u 407 14 = 0 → r 0 = 1 := fun z => by
      rcases e1.2.2.2.2.2 with y | y
      · exact absurd (e6.1 y.1) z
      · exact y.1
    have lw := LW_dc e1 r0 d0
    have l40 : ¬ 40 ≤ u 407 14 := fun z => dcA_40 z d0
    rw [if_pos d0] at e7
    refine ⟨⟨⟨v2, v4, fRB_W h3 v8, by rw [v8.2 11 (by decide) (by decide)]; exact h4⟩, F', (dcA (TR s) (nR s) (u 407 14) (skR u) r).2.2, lw.1, lw.2, by rw [v5]; exact q.2.2, by omega, by omega, by omega, ?_⟩, v7⟩
    rw [e7, v3, q.2.1, v6]
  · obtain ⟨w1, w2, w3⟩ := hv.1 h4
    rw [eg] at w2
    have d0 := q.1.symm.trans w2
    rw [if_neg (by omega)] at e7
    have e8 : (dyP (TR s) (nR s)).1 = v 407 9 := by rw [e7]; exact d0
    exact ⟨(fRB_W h3 w3).1, e8.symm, by omega⟩
theorem GD_n {s t u : mSt} (h : GDq s t) (k : tkK (TR t) (nR t) (skR t) = 59) (e : u = uS t 407 8 ((skR t + 1 : Nat) : Int)) : BDq s u ∧ skR t < skR u := by
  obtain ⟨⟨h1, h2, h3, h4⟩, F, r, e1, e0, e2, e3, e4, e5, e7⟩ := h
  have x := fRB_x h3
  have lt : skR t < nR t := k_lt (by rw [k]; decide)
  have hT := TR_t h1
  have b1 := one_b hT lt (c := 59) (by
        have := (rw_k hT (n := nR t) (a := skR t) (c := 59) (by decide) (by decide) (by decide) (by decide)).2 k
        unfold rwA at this
        rw [if_neg (by omega)] at this
        exact this) (by decide) (by decide) (by decide)
  have ku : skR u = nxA (TR s) (nR s) (skR t) := by
    rw [e, skR_8, ← x.1, ← x.2]; unfold nxA; rw [b1]
  have n2 := (nxA_b (TR t) (Nat.le_of_lt lt)).2.2 lt
  rw [x.1, x.2] at n2 k
  rw [if_pos k] at e7
  have u14 : u 407 14 = t 407 14 := by rw [e, uS_at, if_neg (by decide)]
  refine ⟨⟨⟨by rw [e]; exact TRq_8 h1 lt, by rw [e, uS_at, if_neg (by decide)]; exact h2, by rw [e]; exact fRB_W h3 (fWs_u t _ (by decide)), by rw [e, uS_at, if_neg (by decide)]; exact h4⟩, F, r, e1, by rw [e, uS_cell (by decide)]; exact e2, by omega, by omega, by omega, ⟨fun z => by omega, fun z => by omega⟩, by rw [e7, ku, u14]⟩, by omega⟩
theorem GD_8 {s t : mSt} (h : GDq s t) : GDq s (uS t 407 8 (skR t : Int)) := by
  obtain ⟨⟨h1, h2, h3, h4⟩, F, r, e1, e0, e2, e3, e4, e5, e7⟩ := h
  refine ⟨⟨TRq_s h1, by rw [uS_at, if_neg (by decide)]; exact h2, fRB_W h3 (fWs_u t _ (by decide)), by rw [uS_at, if_neg (by decide)]; exact h4⟩, F, r, e1, e0, by rw [uS_cell (by decide)]; exact e2, ?_⟩
  rw [uS_at, if_neg (by decide), skR_id]
  exact ⟨e3, e4, e5, e7⟩
theorem stA_7 (s : mSt) (j : Nat) : stA s 407 j = if j = 12 then 0 else if j = 9 then 0 else if j = 8 then 0 else if j = 14 then 0 else s 407 j := by
  unfold stA
  rw [uS_at, uS_at, uS_at, uS_at, uS_cell (by decide)]
theorem stA_b (s : mSt) {b : Nat} (h : b ≠ 407) (h2 : b ≠ 410) : stA s b = s b := by
  unfold stA
  rw [uS_cell h, uS_cell h, uS_cell h, uS_cell h, uS_cell h2]
theorem stA_0 (s : mSt) (j : Nat) : stA s 410 j = if j = txR s then 0 else s 410 j := by
  unfold stA
  rw [uS_cell (by decide), uS_cell (by decide), uS_cell (by decide), uS_cell (by decide), uS_at]
  rfl
theorem stA_f (s : mSt) : fRd s (stA s) := by
  refine ⟨fun b a1 a2 => stA_b s a1 (by omega), fun j g1 g2 g3 => ?_, fun j g => ?_, fun j _ => by rw [stA_b s (by decide) (by decide)], fun j _ => by rw [stA_b s (by decide) (by decide)], fun j _ => by rw [stA_b s (by decide) (by decide)]⟩
  · rw [stA_7, if_neg (by omega), if_neg (by omega), if_neg (by omega), if_neg (by omega)]
  · rw [stA_0, if_neg g]
theorem c204 {X : (Nat → Int) × Nat} {d : Nat} {s : mSt} {Q : mQ} (p1 : PAR s) (k1 : ∀ t : mSt, (PBR s t) → Q (some (mI 1)) t) (k0 : ∀ t : mSt, (PCR s t) → Q (some (mI 0)) t) : Sp X (d + 11) 204 [mR 407] s Q := by
  obtain ⟨hB, h1, hC⟩ := p1
  have x := fRd_x (stA_f s)
  have hn : (nR s : Int) = s 407 1 ∧ nR s ≤ 400 := by unfold nR; omega
  have k8 : skR (stA s) = sk (TR s) (nR s) 0 := by
    unfold skR
    rw [x.2.1, x.2.2, stA_7]; rfl
  have a1 : stA s 407 1 = s 407 1 := by rw [stA_7]; rfl
  have a8 : stA s 407 8 = 0 := by rw [stA_7]; rfl
  have a9 : stA s 407 9 = 0 := by rw [stA_7]; rfl
  have a12 : stA s 407 12 = 0 := by rw [stA_7]; rfl
  have a14 : stA s 407 14 = 0 := by rw [stA_7]; rfl
  have a11 : stA s 407 11 = s 407 11 := by rw [stA_7]; rfl
  have tq : TRq (stA s) := ⟨by rw [stA_b s (by decide) (by decide)]; exact hB, by rw [a1]; exact h1, by rw [a8]; omega, by rw [a8, a1]; omega⟩
  have one : ∀ t : mSt, fRA s t → fRA s (uS t 407 1 0) ∧ (uS t 407 1 0) 407 1 = 0 := fun t h => ⟨fRA_t h (fRA_1 t 0), by rw [uS_at, if_pos rfl]⟩
  rcases hC with ⟨h6, h13⟩ | ⟨h6, h12⟩
  · have b0 : BDq s (stA s) := ⟨⟨tq, a9, ⟨fRd_A (stA_f s), a1⟩, by rw [a11]; exact h6⟩, 41, rd0, LW_0, fun j hj => by rw [stA_b s (by decide) (by decide)]; exact h13 j hj, by omega, by omega, by omega, ⟨fun _ => a14, fun _ => rfl⟩, by rw [k8, a14]; rfl⟩
    refine rd_g (GDq s) (fRA s) (fun t => fRA s t ∧ (dyP (TR s) (nR s)).1 = 0 ∧ ∀ j, j < 135 → t 413 j = (dyP (TR s) (nR s)).2 j) (dyP (TR s) (nR s)).1 (by omega) ?_ ?_ ?_ ?_ ?_ ?_ ?_
    · intro t hG
      exact ⟨hG.1.1, hG.1.2.1, TR_t hG.1.1, GD_8 hG⟩
    · intro t u hG k e
      have q := GD_n hG k e
      have r := BD_s q.1
      exact ⟨r.1, fun v hv => ⟨(r.2.1 v hv).1, Nat.lt_trans q.2 (r.2.1 v hv).2⟩, r.2.2⟩
    · intro t hG k
      have xt := fRB_x hG.1.2.2.1
      rw [xt.1, xt.2] at k
      obtain ⟨F, r, e1, e0, e2, e3, e4, e5, e7⟩ := hG.2
      rw [if_neg (by omega), if_pos k] at e7
      rw [e7]
      exact ⟨rfl, hG.1.2.2.1.1, rfl, e2⟩
    · intro t hG k59 k1'
      have xt := fRB_x hG.1.2.2.1
      rw [xt.1, xt.2] at k59 k1'
      obtain ⟨F, r, e1, e0, e2, e3, e4, e5, e7⟩ := hG.2
      rw [if_neg k59, if_neg k1'] at e7
      rw [e7]
      exact ⟨rfl, (fRB_W hG.1.2.2.1 (fWs_u t _ (by decide))).1⟩
    · have r := BD_s b0
      exact ⟨r.1, fun v hv => (r.2.1 v hv).1, r.2.2⟩
    · rintro f0 t ⟨w1, w2, w3⟩
      have o := one t w1
      exact k1 _ ⟨⟨o.2, o.1⟩, fun _ => ⟨f0, fun j hj => by rw [uS_cell (by decide)]; exact w3 j hj⟩, fun z => by omega⟩
    · intro f0 t w1 w2
      have o := one t w1
      exact k0 _ ⟨⟨o.2, o.1⟩, fun _ => ⟨f0, by rw [uS_at, if_neg (by decide)]; exact w2⟩, fun z => by omega⟩
  · have l0 : lnR (stA s) = 0 := by unfold lnR; rw [x.1, stA_0, if_pos rfl]
    have b0 : BRq s (stA s) := by
      refine ⟨⟨tq, a9, by rw [a12]; decide, by rw [l0]; decide, by rw [a11]; exact h6⟩, stA_f s, by rw [l0]; omega, 13, [], [], ?_, ⟨by rw [stA_b s (by decide) (by decide)]; exact h12, fun c hc => absurd hc (Nat.not_lt_zero c)⟩, rfl, rfl, a14, by decide, by rw [k8, a12]; rfl⟩
      unfold SGq sgB
      rw [l0]; rfl
    have g1 : ∀ t, GRq s t → TR t = TR s ∧ nR t = nR s ∧ txR t = txR s := fun t hG => ⟨(fRd_x hG.2.1).2.1, (fRd_x hG.2.1).2.2, (fRd_x hG.2.1).1⟩
    refine rd_g (GRq s) (fRA s) (fun t => fRA s t ∧ (rlP (TR s) (nR s)).1 = 0 ∧ RuR t (txR s) (rlP (TR s) (nR s)).2) (rlP (TR s) (nR s)).1 (by omega) ?_ ?_ ?_ ?_ ?_ ?_ ?_
    · intro t hG
      exact ⟨hG.1.1, hG.1.2.1, TR_t hG.1.1, GR_8 hG⟩
    · intro t u hG k e
      have q := GR_n hG k e
      have r := BR_s q.1
      exact ⟨r.1, fun v hv => ⟨(r.2.1 v hv).1, Nat.lt_trans q.2 (r.2.1 v hv).2⟩, fun v hv => ⟨fRd_A (r.2.2 v hv).1, (r.2.2 v hv).2⟩⟩
    · intro t hG k
      have xt := g1 t hG
      rw [xt.1, xt.2.1] at k
      obtain ⟨F, L, E, e1, e2, e3, e4, e5, e6, e7⟩ := hG.2.2.2
      rw [if_neg (by omega), if_pos k] at e7
      rw [e7]
      refine ⟨rfl, fRd_A hG.2.1, rfl, fun i hi => ?_, e2⟩
      rw [← xt.2.2]; exact SG_u e1 hi
    · intro t hG k59 k1'
      have xt := g1 t hG
      rw [xt.1, xt.2.1] at k59 k1'
      obtain ⟨F, L, E, e1, e2, e3, e4, e5, e6, e7⟩ := hG.2.2.2
      rw [if_neg k59, if_neg k1'] at e7
      rw [e7]
      exact ⟨rfl, fRA_t (fRd_A hG.2.1) (fWs_A (fWs_u t _ (by decide)))⟩
    · have r := BR_s b0
      exact ⟨r.1, fun v hv => (r.2.1 v hv).1, fun v hv => ⟨fRd_A (r.2.2 v hv).1, (r.2.2 v hv).2⟩⟩
    · rintro f0 t ⟨w1, w2, w3⟩
      have o := one t w1
      refine k1 _ ⟨⟨o.2, o.1⟩, fun z => by omega, fun _ => ⟨f0, ?_⟩⟩
      exact ⟨fun i hi => by rw [uS_cell (by decide)]; exact w3.1 i hi, EDr_c w3.2 (by rw [uS_cell (by decide)]) (by rw [uS_cell (by decide)])⟩
    · intro f0 t w1 w2
      have o := one t w1
      exact k0 _ ⟨⟨o.2, o.1⟩, fun z => by omega, fun _ => ⟨f0, by rw [uS_at, if_neg (by decide)]; exact w2⟩⟩
