/-! day, rule, image, back keep the relation -/
theorem LW_TO {s : mSt} {D : Rw} (h : LWq D) (e : ∀ j, 77 ≤ j → j < 166 → s 417 j = D j) : TOq s := by
  intro j h1 h2 h3
  rw [e j (by omega) h2]
  obtain ⟨l1, l2, l3, l4, l5, l6⟩ := h
  have lo : loA j = 0 := if_neg (by omega)
  rw [lo]
  by_cases a : j < 87
  · have q := l3 (j - 82) (by omega)
    rw [show 82 + (j - 82) = j by omega] at q
    have hi : hiA j = 15 := by
      unfold hiA
      rw [if_neg (by omega), if_neg (by omega), if_neg (by omega), if_neg (by omega), if_neg (by omega), if_neg (by omega), if_neg (by omega), if_neg (by omega), if_neg (by omega), if_neg (by omega), if_neg (by omega), if_pos a]
    rw [hi]
    by_cases z : ((j - 82 : Nat) : Int) < D 3
    · have := (q.1 z).1; omega
    · have := (q.2 z).1; omega
  · by_cases b : j < 117
    · have q := l5 (j - 87) (by omega)
      rw [show 87 + (j - 87) = j by omega] at q
      have hi : hiA j = 9 := by
        unfold hiA
        rw [if_neg (by omega), if_neg (by omega), if_neg (by omega), if_neg (by omega), if_neg (by omega), if_neg (by omega), if_neg (by omega), if_neg (by omega), if_neg (by omega), if_neg (by omega), if_neg (by omega), if_neg a, if_pos b]
      rw [hi]; exact q
    · rw [l2 j (Or.inr (by omega))]
      refine ⟨by decide, ?_⟩
      have q := (show ∀ j : Fin 166, 0 ≤ hiA j.val by decide +kernel) ⟨j, h2⟩
      exact q
theorem J_day {s t u : mSt} {D : Rw} (hJ : Jq s) (hD : LWq D ∧ D 0 = 1) (c1 : BI t 8 ∧ BI t 18 ∧ ∀ j, (j < 82 ∨ 117 ≤ j ∧ j < 135) → brow t 8 j = anew D j ∧ brow t 18 j = anew D j) (c2 : t 28 0 = 0 ∧ t 0 8 = 0) (c3 : t 1 1 = 0) (c4 : fDy s t) (d1 : ∀ j, j < 166 → u 417 j = anew D j) (d2 : u 407 37 = 0) (d3 : u 407 1 = 0) (d4 : fRY t u) : Jq u := by
  obtain ⟨h1, h2, h3, h4, h5, h6, h7, h8⟩ := hJ
  have to : TOq u := LW_TO hD.1 (fun j a b => by rw [d1 j b, anew_o (by omega)])
  have g : ∀ b, (b = 2 ∨ b = 3 ∨ b = 5 ∨ b = 6 ∨ b = 7 ∨ 29 ≤ b ∧ b ≤ 33 ∨ 44 ≤ b ∧ b ≤ 406 ∨ b = 408 ∨ b = 415 ∨ b = 416 ∨ 418 ≤ b) → u b = s b := fun b hb => by rw [d4.1 b (by omega) (by omega) (by omega), c4.1 b (by omega)]
  have f : ∀ j, (j = 2 ∨ j = 21 ∨ j = 22) → u 407 j = s 407 j := fun j hj => by rw [d4.2.1 j (by omega) (by omega) (by omega) (by omega), c4.1 407 (by omega)]
  have u0 : u 0 = t 0 := d4.1 0 (by omega) (by omega) (by omega)
  have u04 : u 0 4 = s 0 4 := by rw [u0, c4.2 4 (by omega)]
  have B := BI_r c1.2.1 (fun x hx => d4.1 x (by omega) (by omega) (by omega)) to
  have B8 := BI_r c1.1 (fun x hx => d4.1 x (by omega) (by omega) (by omega)) to
  have eB : brow u 18 = u 417 := by
    funext j
    rw [B.2]
    by_cases y : 82 ≤ j ∧ (j < 117 ∨ 135 ≤ j)
    · rw [if_pos y]
    · rw [if_neg y, (c1.2.2 j (by omega)).2, d1 j (by omega)]
  have okU : Ok (u 417) := by rw [← eB]; exact B.1.1
  have n6 := nc_le okU
  have e33 : u 33 = s 33 := g 33 (by omega)
  refine ⟨⟨?_, ?_, ?_, ?_⟩, JC_c h2 (g 6 (by omega)) (g 32 (by omega)) (g 77 (by omega)) (g 68 (by omega)), JR_c h3 u04 (f 2 (by omega)) (fun b _ _ => g b (by omega)) (fun j hj => by rw [d4.2.2.1 j hj, c4.1 409 (by omega)]) (fun j hj => by rw [d4.2.2.2.2 j hj, c4.1 411 (by omega)]) (fun j hj => by rw [d4.2.2.2.1 j hj, c4.1 412 (by omega)]), JF_c h4 (by rw [g 7 (by omega)]) (f 21 (by omega)) (by rw [u04]; exact Int.le_refl _) (by rw [g 7 (by omega)]) (f 22 (by omega)), ⟨eB, B.1, B8.1, fun _ => ?_, ?_, ?_⟩, ⟨?_, ?_, ?_⟩, ⟨?_, ⟨?_, ?_, ?_⟩, ?_⟩, JI_c h8 (fun b _ _ => g b (by omega)) (fun b _ _ => g b (by omega)) (by rw [f 2 (by omega)]; exact Int.le_refl _) to⟩
  · rw [d4.1 1 (by omega) (by omega) (by omega), c3, d3]
  · rw [d4.1 1 (by omega) (by omega) (by omega), c3]; decide
  · unfold BYq; rw [g 2 (by omega)]; exact h1.2.2.1
  · rw [g 2 (by omega), g 408 (by omega)]; exact h1.2.2.2
  · have ea : anew (anew D) = anew D := anew_cg (fun j hj => anew_o hj)
    funext j
    rw [B8.2]
    by_cases y : 82 ≤ j ∧ (j < 117 ∨ 135 ≤ j)
    · rw [if_pos y, anew_o (by omega)]
    · rw [if_neg y, (c1.2.2 j (by omega)).1, ← ea]
      exact anew_p (m := 166) (by decide) (fun i hi => (d1 i hi).symm) (by omega)
  · rw [d1 5 (by omega)]
    show anew D 5 ≤ 999
    unfold anew anK
    rw [if_pos rfl]; decide
  · intro c hc hpl
    unfold pl at hpl
    rw [decide_eq_true_iff, d1 _ (by omega)] at hpl
    unfold anew anK at hpl
    rw [if_neg (by omega), if_neg (by omega), if_neg (by omega), if_pos (by omega)] at hpl
    omega
  · rw [d4.1 28 (by omega) (by omega) (by omega), c2.1, d1 165 (by omega), anew_o (by omega), hD.1.2.1 165 (Or.inr (by omega))]
  · rw [d4.1 28 (by omega) (by omega) (by omega), c2.1]; decide
  · intro i hi
    rw [d4.1 28 (by omega) (by omega) (by omega), c2.1] at hi
    exact absurd hi (Nat.not_lt_zero i)
  · rw [u0, c2.2, d2]
  · rw [u0, c2.2]; decide
  · unfold PPp; rw [e33]; exact h7.2.1.2.1
  · intro i hi
    rw [u0, c2.2] at hi
    exact absurd hi (Nat.not_lt_zero i)
  · intro i hi
    rw [u0, c2.2] at hi
    exact absurd hi (Nat.not_lt_zero i)
theorem J_day0 {s t u : mSt} (hJ : Jq s) (c2 : t 0 8 = s 0 8) (c3 : t 1 1 = 0) (c4 : ∀ b, ¬ (b = 1 ∨ b = 4 ∨ 34 ≤ b ∧ b ≤ 43) → t b = s b) (d1 : u 417 = t 417) (d2 : u 407 37 = t 407 37) (d3 : u 407 1 = 0) (d4 : fRY t u) : Jq u := by
  have hT := hJ.1
  have hR := hJ.2.2.1
  have g : ∀ b, ¬ (b = 1 ∨ b = 4 ∨ 34 ≤ b ∧ b ≤ 43 ∨ b = 407 ∨ b = 417 ∨ 409 ≤ b ∧ b ≤ 414) → u b = s b := fun b hb => by rw [d4.1 b (by omega) (by omega) (by omega), c4 b (by omega)]
  have t7 : t 407 = s 407 := c4 407 (by omega)
  have f : ∀ j, (j = 2 ∨ j = 21 ∨ j = 22) → u 407 j = s 407 j := fun j hj => by rw [d4.2.1 j (by omega) (by omega) (by omega) (by omega), t7]
  have u04 : u 0 4 = s 0 4 := by rw [g 0 (by omega)]
  refine J_txt hJ (fun b hb => ?_) (by rw [g 0 (by omega)]) (fun j hj => ?_) ⟨?_, ?_, ?_, ?_⟩ (JR_c hR u04 (f 2 (by omega)) (fun b _ _ => g b (by omega)) (fun j hj => by rw [d4.2.2.1 j hj, c4 409 (by omega)]) (fun j hj => by rw [d4.2.2.2.2 j hj, c4 411 (by omega)]) (fun j hj => by rw [d4.2.2.2.1 j hj, c4 412 (by omega)])) (by rw [u04]; exact Int.le_refl _) (by rw [f 2 (by omega)]; exact Int.le_refl _)
  · by_cases z : b = 417
    · rw [z, d1, c4 417 (by omega)]
    · exact g b (by omega)
  · by_cases z : j = 37
    · rw [z, d2, t7]
    · exact f j (by omega)
  · rw [d4.1 1 (by omega) (by omega) (by omega), c3, d3]
  · rw [d4.1 1 (by omega) (by omega) (by omega), c3]; decide
  · unfold BYq; rw [g 2 (by omega)]; exact hT.2.2.1
  · rw [g 2 (by omega), g 408 (by omega)]; exact hT.2.2.2
theorem J_rule {s t u : mSt} {x : List Int × List (Nat × Nat)} {y : Int} (hJ : Jq s) (h6 : s 0 4 < 6) (hy : y = 0 ∨ y = 1) (hl : y = 1 → LWl x.1 x.2) (c1 : t 0 4 = s 0 4 + y) (c2 : y = 1 → RuL t (rlK s) x) (c3 : t 1 1 = 0) (c4 : fRu s t (rlK s)) (d1 : u 407 2 = t 407 2 + y) (d2 : y = 1 → RuR u (t 407 2).toNat x) (d3 : u 407 1 = 0) (d4 : fRV t u) : Jq u := by
  have hT := hJ.1
  have hR := hJ.2.2.1
  obtain ⟨r1, r2, r3⟩ := hR
  have kk : rlK s = 83 + 4 * (s 0 4).toNat := rfl
  have t7 : t 407 = s 407 := c4.1 407 (by omega)
  have g : ∀ b, ¬ (b = 0 ∨ b = 1 ∨ b = 5 ∨ rlK s ≤ b ∧ b ≤ rlK s + 3 ∨ b = 407 ∨ 409 ≤ b ∧ b ≤ 414) → u b = s b := fun b hb => by rw [d4.1 b (by omega) (by omega), c4.1 b (by omega)]
  have u0 : u 0 = t 0 := d4.1 0 (by omega) (by omega)
  have u1 : u 1 = t 1 := d4.1 1 (by omega) (by omega)
  have ub : ∀ b, b < 407 → u b = t b := fun b hb => d4.1 b (by omega) (by omega)
  have tr : (t 407 2).toNat = (s 0 4).toNat := by rw [t7, ← r1]
  have d43 := d4.2.2.1
  have d44 := d4.2.2.2.1
  have d45 := d4.2.2.2.2
  rw [tr] at d43 d44 d45 d2
  refine J_txt hJ (fun b hb => g b (by omega)) (by rw [u0, c4.2.1 8 (by omega)]) (fun j hj => by rw [d4.2.1 j (by omega) (by omega) (by omega), t7]) ⟨by rw [u1, c3, d3], by rw [u1, c3]; decide, by unfold BYq; rw [g 2 (by omega)]; exact hT.2.2.1, by rw [g 2 (by omega), g 408 (by omega)]; exact hT.2.2.2⟩ ⟨by rw [u0, c1, d1, t7, r1], by rw [u0, c1]; omega, fun r hr => ?_⟩ (by rw [u0, c1]; omega) (by rw [d1, t7]; omega)
  rw [u0, c1] at hr
  by_cases z : (r : Int) < s 0 4
  · obtain ⟨L, E, a1, a2, a3⟩ := r3 r z
    have b := LWl_b a1
    exact ⟨L, E, a1, RuL_c a2 (fun b _ _ => g b (by omega)), RuR_c a3 b.1 b.2 (fun j _ _ => by rw [d43 j (by omega), c4.1 409 (by omega)]) (by rw [d44 r (by omega), c4.1 412 (by omega)]) (fun j _ _ => by rw [d45 j (by omega), c4.1 411 (by omega)])⟩
  · have y1 : y = 1 := by omega
    have er : r = (s 0 4).toNat := by omega
    subst er
    exact ⟨x.1, x.2, hl y1, RuL_c (c2 y1) (fun b _ _ => ub b (by omega)), d2 y1⟩
theorem JIi_c {s u : mSt} {i : Nat} (hi : i < 4) (h : JIi s i) (e1 : ∀ b, 107 + 25 * i ≤ b → b ≤ 107 + 25 * i + 24 → u b = s b) (e2 : ∀ j, j < 166 → imZ u i j = imZ s i j) (e3 : u 437 i = s 437 i) (e4 : u 438 i = s 438 i) (e5 : s 407 2 ≤ u 407 2) (to : TOq u) : JIi u i := by
  obtain ⟨⟨a1, a2⟩, a3, a4, a5, a6, a7, a8⟩ := h
  have ei : imZ u i = imZ s i := by
    funext j
    by_cases z : j < 166
    · exact e2 j z
    · unfold imZ; rw [if_neg z, if_neg z]
  have b1 := BI_r a1 (fun x hx => e1 x (by omega) (by omega)) to
  have b2 := BI_r a2 (fun x hx => e1 x (by omega) (by omega)) to
  unfold JIi
  rw [ei, e1 (107 + 25 * i) (by omega) (by omega), e3, e4]
  refine ⟨⟨b1.1, b2.1⟩, fun j hj => ?_, fun y j hj => ?_, a5, JN_c a6 (fun b _ _ => e1 b (by omega) (by omega)) (fun _ _ _ => rfl), ⟨a7.1, by omega⟩, a8⟩
  · have hj' := hj
    unfold lcJ at hj'
    rw [b2.2, if_neg (by omega)]; exact a3 j hj
  · have hj' := hj
    unfold lcJ at hj'
    rw [b1.2, if_neg (by omega)]; exact a4 y j hj
theorem im_Z {s : mSt} {i j : Nat} (h : j < 166) : imZ s i j = imR s i j := by unfold imZ imR; rw [if_pos h, if_pos h]
theorem J_img {s t u : mSt} {i : Nat} (hi : i < 4) (hJ : Jq s) (c1 : SCq s 7 t (107 + 25 * i)) (c2 : t (107 + 25 * i) 5 = 1) (c3 : ∀ b, ¬ (107 + 25 * i ≤ b ∧ b ≤ 107 + 25 * i + 24) → t b = s b) (d1 : imR u i = t 417) (d2 : ∀ j, j < 4 → j ≠ i → imR u j = imR t j ∧ u 437 j = t 437 j ∧ u 438 j = t 438 j ∧ u 439 j = t 439 j) (d3 : u 437 i = t 407 21 ∧ u 438 i = t 407 22 ∧ u 439 i = 1) (d4 : ∀ b, ¬ (436 ≤ b ∧ b ≤ 439) → u b = t b) : Jq u := by
  have ok := J_ok hJ
  obtain ⟨h1, h2, h3, h4, h5, h6, h7, h8⟩ := hJ
  have g : ∀ b, (b ≤ 106 ∨ 207 ≤ b ∧ b ≤ 435) → u b = s b := fun b hb => by rw [d4 b (by omega), c3 b (by omega)]
  have e17 : u 417 = s 417 := g 417 (by omega)
  have u7 : u 407 = s 407 := g 407 (by omega)
  have to : TOq u := Ok_TO (by rw [e17]; exact ok)
  refine ⟨JT_c h1 (by rw [g 1 (by omega)]) (g 2 (by omega)) (by rw [u7]) (g 408 (by omega)), JC_c h2 (g 6 (by omega)) (g 32 (by omega)) (g 77 (by omega)) (g 68 (by omega)), JR_c h3 (by rw [g 0 (by omega)]) (by rw [u7]) (fun b _ _ => g b (by omega)) (fun j _ => by rw [g 409 (by omega)]) (fun j _ => by rw [g 411 (by omega)]) (fun j _ => by rw [g 412 (by omega)]), JF_c h4 (by rw [g 7 (by omega)]) (by rw [u7]) (by rw [g 0 (by omega)]; exact Int.le_refl _) (by rw [g 7 (by omega)]) (by rw [u7]), JB_c h5 (fun b _ _ => g b (by omega)) e17, JN_c h6 (fun b _ _ => g b (by omega)) (fun j _ _ => by rw [e17]), JP_c h7 (by rw [g 0 (by omega)]) (by rw [u7]) (g 33 (by omega)) (fun b _ _ => g b (by omega)) (g 423 (by omega)) to (fun j _ _ => by rw [e17]), fun k hk => ?_⟩
  by_cases z : k = i
  · subst z
    obtain ⟨⟨⟨s1, s2⟩, s3, s4⟩, ⟨s5, s6⟩, s7, s8⟩ := c1
    have s2' : brow t (107 + 25 * k + 1) = brow s 8 := s2
    have s4' : brow t (107 + 25 * k + 11) = brow s 18 := s4
    have s5' : t (107 + 25 * k + 21) 0 = s 28 0 := s5
    have s6' : ∀ i, i < 10 → t (107 + 25 * k + 21 + 1) i = s 29 i ∧ t (107 + 25 * k + 21 + 2) i = s 30 i ∧ t (107 + 25 * k + 21 + 3) i = s 31 i := s6
    have t17 : t 417 = s 417 := c3 417 (by omega)
    have t7 : t 407 = s 407 := c3 407 (by omega)
    have eu : u 417 = t 417 := d4 417 (by omega)
    have iz : ∀ j, j < 166 → imZ u k j = s 417 j := fun j hj => by rw [im_Z hj, d1, t17]
    have b1 := BI_cells s1 (fun x hx => d4 x (by omega)) eu
    have b2 := BI_cells s3 (fun x hx => d4 x (by omega)) eu
    refine ⟨by rw [d4 _ (by omega), c2, d3.2.2], fun _ => ⟨⟨b1.1, b2.1⟩, fun j hj => ?_, fun y j hj => ?_, ⟨Ok_q ok iz, by rw [iz 5 (by omega)]; exact h5.2.2.2.2.1, Pg_q ok h5.2.2.2.2.2 (fun j hj => iz j (by omega))⟩, ?_, ⟨?_, ?_⟩, ⟨?_, ?_⟩⟩⟩
    · unfold lcJ at hj
      rw [b2.2, s4', h5.1, iz j (by omega)]
    · unfold lcJ at hj
      rw [iz 0 (by omega)] at y
      rw [b1.2, s2', h5.2.2.2.1 y]
      exact anew_p (m := 166) (by decide) (fun i hi => (iz i hi).symm) (by omega)
    · obtain ⟨n1, n2, n3⟩ := h6
      have e0 : u (107 + 25 * k + 21) 0 = s 28 0 := by rw [d4 _ (by omega)]; exact s5'
      refine ⟨by rw [e0, n1, iz 165 (by omega)], by rw [e0]; exact n2, fun i hi => ?_⟩
      rw [e0] at hi
      have q := s6' i (by omega)
      rw [d4 (107 + 25 * k + 21 + 1) (by omega), d4 (107 + 25 * k + 21 + 2) (by omega), d4 (107 + 25 * k + 21 + 3) (by omega), q.1, q.2.1, q.2.2, iz _ (by omega), iz _ (by omega), iz _ (by omega)]
      exact n3 i hi
    · rw [d4 _ (by omega), d3.1, t7, s7]; exact h4.1
    · rw [d3.1, t7, u7, ← h4.1, ← h3.1]; exact h4.2.1
    · rw [d4 _ (by omega), d3.2.1, t7, s8]; exact h4.2.2.1
    · rw [d3.2.1, t7, ← h4.2.2.1]; exact h4.2.2.2
  · have q := d2 k hk z
    have cu : ∀ b, 107 + 25 * k ≤ b → b ≤ 107 + 25 * k + 24 → u b = s b := fun b _ _ => by rw [d4 b (by omega), c3 b (by omega)]
    have t9 : t 439 = s 439 := c3 439 (by omega)
    have p := h8 k hk
    rw [cu _ (by omega) (by omega), q.2.2.2, t9]
    refine ⟨p.1, fun y => JIi_c hk (p.2 y) cu (fun j hj => ?_) (by rw [q.2.1, c3 437 (by omega)]) (by rw [q.2.2.1, c3 438 (by omega)]) (by rw [u7]; exact Int.le_refl _) to⟩
    rw [im_Z hj, im_Z hj, q.1]
    unfold imR
    rw [if_pos hj, if_pos hj, c3 436 (by omega)]
theorem J_bck {s t u : mSt} {i : Nat} (hi : i < 4) (hJ : Jq s) (hz : ¬ s 439 i = 0) (c1 : SCq s (107 + 25 * i) t 7) (c2 : t 0 8 = 0) (c3 : ∀ b, b ≠ 0 → ¬ (7 ≤ b ∧ b ≤ 31) → t b = s b) (c4 : ∀ j, j ≠ 8 → t 0 j = s 0 j) (d1 : u 417 = imR t i) (d2 : u 407 21 = t 437 i ∧ u 407 22 = t 438 i ∧ u 407 37 = 0) (d3 : ∀ j, ¬ (j = 21 ∨ j = 22 ∨ j = 37) → u 407 j = t 407 j) (d4 : ∀ b, b ≠ 407 → b ≠ 417 → u b = t b) : Jq u ∧ t 18 4 = u 417 5 := by
  obtain ⟨h1, h2, h3, h4, h5, h6, h7, h8⟩ := hJ
  obtain ⟨_, a1, a2, a3, a4, a5, a6, a7⟩ := (h8 i hi).2 hz
  obtain ⟨⟨⟨s1, s2⟩, s3, s4⟩, ⟨s5, s6⟩, s7, s8⟩ := c1
  have s1' : BI t 8 := s1
  have s2' : brow t 8 = brow s (107 + 25 * i + 1) := s2
  have s3' : BI t 18 := s3
  have s4' : brow t 18 = brow s (107 + 25 * i + 11) := s4
  have s5' : t 28 0 = s (107 + 25 * i + 21) 0 := s5
  have s6' : ∀ k, k < 10 → t 29 k = s (107 + 25 * i + 21 + 1) k ∧ t 30 k = s (107 + 25 * i + 21 + 2) k ∧ t 31 k = s (107 + 25 * i + 21 + 3) k := s6
  have iz : ∀ j, j < 166 → u 417 j = imZ s i j := fun j hj => by
    rw [d1, im_Z hj]; unfold imR
    rw [if_pos hj, if_pos hj, c3 436 (by omega) (by omega)]
  have ok : Ok (u 417) := Ok_q a3.1 iz
  have to := Ok_TO ok
  have g : ∀ b, (1 ≤ b ∧ b ≤ 6 ∨ 32 ≤ b ∧ b ≤ 406 ∨ 408 ≤ b ∧ b ≤ 416 ∨ 418 ≤ b) → u b = s b := fun b hb => by rw [d4 b (by omega) (by omega), c3 b (by omega) (by omega)]
  have t7 : t 407 = s 407 := c3 407 (by omega) (by omega)
  have f : ∀ j, (j = 1 ∨ j = 2) → u 407 j = s 407 j := fun j hj => by rw [d3 j (by omega), t7]
  have u0 : u 0 = t 0 := d4 0 (by omega) (by omega)
  have u04 : u 0 4 = s 0 4 := by rw [u0, c4 4 (by omega)]
  have B := BI_r s3' (fun x hx => d4 x (by omega) (by omega)) to
  have B8 := BI_r s1' (fun x hx => d4 x (by omega) (by omega)) to
  have eB : brow u 18 = u 417 := by
    funext j
    rw [B.2]
    by_cases y : 82 ≤ j ∧ (j < 117 ∨ 135 ≤ j)
    · rw [if_pos y]
    · rw [if_neg y, s4', a1 j (by unfold lcJ; omega), iz j (by omega)]
  have u7 : u 7 = t 7 := d4 7 (by omega) (by omega)
  refine ⟨⟨JT_c h1 (by rw [g 1 (by omega)]) (g 2 (by omega)) (f 1 (by omega)) (g 408 (by omega)), JC_c h2 (g 6 (by omega)) (g 32 (by omega)) (g 77 (by omega)) (g 68 (by omega)), JR_c h3 u04 (f 2 (by omega)) (fun b _ _ => g b (by omega)) (fun j _ => by rw [g 409 (by omega)]) (fun j _ => by rw [g 411 (by omega)]) (fun j _ => by rw [g 412 (by omega)]), ⟨?_, ?_, ?_, ?_⟩, ⟨eB, B.1, B8.1, fun z => ?_, by rw [iz 5 (by omega)]; exact a3.2.1, Pg_q a3.1 a3.2.2 (fun j hj => iz j (by omega))⟩, ⟨?_, ?_, ?_⟩, ⟨?_, ⟨?_, ?_, ?_⟩, ?_⟩, JI_c h8 (fun b _ _ => g b (by omega)) (fun b _ _ => g b (by omega)) (by rw [f 2 (by omega)]; exact Int.le_refl _) to⟩, ?_⟩
  · rw [u7, s7, d2.1, c3 437 (by omega) (by omega)]; exact a5.1
  · rw [u7, s7, u04, a5.1, h3.1]; exact a5.2
  · rw [u7, s8, d2.2.1, c3 438 (by omega) (by omega)]; exact a6
  · rw [u7, s8, a6]; exact a7
  · rw [iz 0 (by omega)] at z
    have q := a2 z
    funext j
    rw [B8.2]
    by_cases y : 82 ≤ j ∧ (j < 117 ∨ 135 ≤ j)
    · rw [if_pos y, anew_o (by omega)]
    · rw [if_neg y, s2', q j (by unfold lcJ; omega)]
      exact anew_p (m := 166) (by decide) (fun i hi => (iz i hi).symm) (by omega)
  · rw [d4 28 (by omega) (by omega), s5', iz 165 (by omega)]; exact a4.1
  · rw [d4 28 (by omega) (by omega), s5']; exact a4.2.1
  · intro k hk
    rw [d4 28 (by omega) (by omega), s5'] at hk
    have b := a4.2.1
    have q := s6' k (by omega)
    have p := a4.2.2 k hk
    rw [d4 29 (by omega) (by omega), d4 30 (by omega) (by omega), d4 31 (by omega) (by omega), q.1, q.2.1, q.2.2, iz _ (by omega), iz _ (by omega), iz _ (by omega)]
    exact p
  · rw [u0, c2, d2.2.2]
  · rw [u0, c2]; decide
  · unfold PPp; rw [g 33 (by omega)]; exact h7.2.1.2.1
  · intro k hk
    rw [u0, c2] at hk
    exact absurd hk (Nat.not_lt_zero k)
  · intro k hk
    rw [u0, c2] at hk
    exact absurd hk (Nat.not_lt_zero k)
  · rw [bi5 s3', s4', a1 5 (by unfold lcJ; omega), iz 5 (by omega)]
