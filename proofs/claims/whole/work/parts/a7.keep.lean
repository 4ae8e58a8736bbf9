/-! each act keeps the relation -/
theorem J_act {s t u : mSt} {a' : Rw} (hJ : Jq s) (h1 : ACq s t a') (h2 : ACr t u a') (ho : ∀ j, (j < 5 ∨ 77 ≤ j) → a' j = s 417 j) (h5 : a' 5 ≤ 999) (hp : Pg a') : Jq u := by
  obtain ⟨⟨b1, b2⟩, c1, c2, c3, c4⟩ := h1
  obtain ⟨d1, d2, d3, d4, d5⟩ := h2
  have ok := J_ok hJ
  have br := J_br hJ
  have hP := hJ.2.2.2.2.2.2.1
  have hB := hJ.2.2.2.2.1
  have p1 := hP.2.1.1
  have to : TOq u := fun j a1 a2 a3 => by rw [d1, ho j (by omega)]; exact ok.1 j a2
  have t7 : ∀ j, t 407 j = s 407 j := fun j => by rw [c4 407 (by omega)]
  have t417 : t 417 = s 417 := c4 417 (by omega)
  have t423 : t 423 = s 423 := c4 423 (by omega)
  have t08 : t 0 8 = if s 0 8 = 20 then 20 else s 0 8 + 1 := by rw [c1]; unfold up; rw [if_pos rfl]
  have t04 : t 0 4 = s 0 4 := by rw [c1]; unfold up; rw [if_neg (by decide)]
  have B := BI_r b1 (fun x hx => d4 x (by omega)) to
  have ps : ∀ i, i < (t 0 8).toNat → Ok (pshB s i) ∧ pshB s i 5 ≤ 999 ∧ Pg (pshB s i) ∧ ∀ j, lcJ j → pshB s i j = if 5 ≤ j ∧ j < 77 then kaR t (72 * i + (j - 5)) else s 417 j := by
    intro i hi
    rw [t08] at hi
    have nowR : Ok (brow s 18) ∧ brow s 18 5 ≤ 999 ∧ Pg (brow s 18) ∧ ∀ j, brow s 18 j = s 417 j := by rw [br]; exact ⟨ok, hB.2.2.2.2.1, hB.2.2.2.2.2, fun _ => rfl⟩
    have pasR : ∀ m, m < (s 0 8).toNat → Ok (brow s (pst s m)) ∧ brow s (pst s m) 5 ≤ 999 ∧ Pg (brow s (pst s m)) ∧ ∀ j, lcJ j → brow s (pst s m) j = if 5 ≤ j ∧ j < 77 then s 423 (72 * m + (j - 5)) else s 417 j := fun m hm => ⟨(hP.2.1.2.2 m hm).1, (hP.2.2 m hm).2.1, (hP.2.2 m hm).2.2, (hP.2.2 m hm).1⟩
    have ek : ∀ x, kaR t x = if s 0 8 = 20 then (if x < 1368 then s 423 (x + 72) else if x < 1440 then s 417 (x - 1363) else s 423 x) else if 72 * (s 0 8).toNat ≤ x ∧ x < 72 * (s 0 8).toNat + 72 then s 417 (5 + (x - 72 * (s 0 8).toNat)) else s 423 x := fun x => by
      unfold kaR
      rw [t7, ← hP.1, t423, t417]
    by_cases z : s 0 8 = 20
    · rw [if_pos z] at hi
      by_cases y : i < 19
      · have e : pshB s i = brow s (pst s (i + 1)) := by unfold pshB; rw [if_pos z, if_pos y]
        rw [e]
        obtain ⟨q1, q2, q3, q4⟩ := pasR (i + 1) (by omega)
        refine ⟨q1, q2, q3, fun j hj => ?_⟩
        rw [q4 j hj]
        by_cases x : 5 ≤ j ∧ j < 77
        · rw [if_pos x, if_pos x, ek, if_pos z, if_pos (by omega)]
          exact congrArg (s 423) (by omega)
        · rw [if_neg x, if_neg x]
      · have e : pshB s i = brow s 18 := by unfold pshB; rw [if_pos z, if_neg y]
        rw [e]
        obtain ⟨q1, q2, q3, q4⟩ := nowR
        refine ⟨q1, q2, q3, fun j hj => ?_⟩
        rw [q4 j]
        by_cases x : 5 ≤ j ∧ j < 77
        · rw [if_pos x, ek, if_pos z, if_neg (by omega), if_pos (by omega)]
          exact congrArg (s 417) (by omega)
        · rw [if_neg x]
    · rw [if_neg z] at hi
      by_cases y : i < (s 0 8).toNat
      · have e : pshB s i = brow s (pst s i) := by unfold pshB; rw [if_neg z, if_pos y]
        rw [e]
        obtain ⟨q1, q2, q3, q4⟩ := pasR i y
        refine ⟨q1, q2, q3, fun j hj => ?_⟩
        rw [q4 j hj]
        by_cases x : 5 ≤ j ∧ j < 77
        · rw [if_pos x, if_pos x, ek, if_neg z, if_neg (by omega)]
        · rw [if_neg x, if_neg x]
      · have e : pshB s i = brow s 18 := by unfold pshB; rw [if_neg z, if_neg y]
        rw [e]
        obtain ⟨q1, q2, q3, q4⟩ := nowR
        refine ⟨q1, q2, q3, fun j hj => ?_⟩
        rw [q4 j]
        by_cases x : 5 ≤ j ∧ j < 77
        · rw [if_pos x, ek, if_neg z, if_pos (by omega)]
          exact congrArg (s 417) (by omega)
        · rw [if_neg x]
  have u08 : u 0 8 = t 0 8 := by rw [d4 0 (by omega)]
  have u33 : u 33 = t 33 := d4 33 (by omega)
  have ep : ∀ i, pst u i = pst t i := fun i => by unfold pst; rw [u33]
  have tb : 0 ≤ t 0 8 ∧ t 0 8 ≤ 20 := c2.1
  have key : ∀ i, i < (t 0 8).toNat → BI u (pst t i) ∧ ∀ j, brow u (pst t i) j = if 82 ≤ j ∧ (j < 117 ∨ 135 ≤ j) then u 417 j else brow t (pst t i) j := fun i hi => by
    have b := (pp_bd c2.2.1 (i := i) (by omega)).2.1
    exact BI_r (c2.2.2 i hi) (fun x hx => d4 x (by omega)) to
  refine J_mk hJ (fun b hb => by rw [d4 b (by omega), c4 b (by omega)]) (by rw [d4 0 (by omega)]; exact t04) (fun j hj => by rw [d5 j (by omega), t7]) (fun j hj => by rw [d1]; exact ho j hj) ⟨B.1, ?_⟩ (by rw [d1]; exact h5) (by rw [d1]; exact hp) ⟨?_, ⟨by rw [u08]; exact tb, by unfold PPp; rw [u33]; exact c2.2.1, fun i hi => ?_⟩, fun i hi => ?_⟩
  · funext j
    rw [B.2]
    by_cases y : 82 ≤ j ∧ (j < 117 ∨ 135 ≤ j)
    · rw [if_pos y]
    · rw [if_neg y, b2, d1]
  · rw [u08, t08, d3, t7, ← hP.1]
  · rw [u08] at hi
    rw [ep]; exact (key i hi).1
  · rw [u08] at hi
    rw [ep]
    have k := (key i hi).2
    obtain ⟨q1, q2, q3, q4⟩ := ps i hi
    have e : brow t (pst t i) = pshB s i := c3 i hi
    refine ⟨fun j hj => ?_, by rw [k, if_neg (by omega), e]; exact q2, Pg_q q1 q3 (fun j hj => by rw [k, if_neg (by omega), e])⟩
    have hj' := hj
    unfold lcJ at hj'
    rw [k, if_neg (by omega), e, q4 j hj, d2]
    by_cases x : 5 ≤ j ∧ j < 77
    · rw [if_pos x, if_pos x]
    · rw [if_neg x, if_neg x, d1, ho j (by omega)]
theorem J_undo {s t u : mSt} (hJ : Jq s) (hn : ¬ s 0 8 = 0) (h1 : UNq s t) (h2 : u 407 = up (t 407) 37 (t 407 37 - 1)) (h3 : u 417 = unR t) (h4 : ∀ b, b ≠ 407 → b ≠ 417 → u b = t b) : Jq u := by
  obtain ⟨⟨b1, b2⟩, c1, c2, c3, c4⟩ := h1
  have ok := J_ok hJ
  have hP := hJ.2.2.2.2.2.2.1
  have p1 := hP.2.1.1
  have t7 : ∀ j, t 407 j = s 407 j := fun j => by rw [c4 407 (by omega)]
  have t417 : t 417 = s 417 := c4 417 (by omega)
  have t423 : t 423 = s 423 := c4 423 (by omega)
  have u7 : ∀ j, u 407 j = if j = 37 then s 0 8 - 1 else s 407 j := fun j => by
    rw [h2]; unfold up
    rw [t7, t7, ← hP.1]
  have t08 : t 0 8 = s 0 8 - 1 := by rw [c1]; unfold up; rw [if_pos rfl]
  have t04 : t 0 4 = s 0 4 := by rw [c1]; unfold up; rw [if_neg (by decide)]
  have uR : ∀ j, u 417 j = if 5 ≤ j ∧ j < 77 then s 423 (72 * ((s 0 8).toNat - 1) + (j - 5)) else s 417 j := fun j => by
    rw [h3]; unfold unR
    rw [t7, ← hP.1, t423, t417]
  have ho : ∀ j, (j < 5 ∨ 77 ≤ j) → u 417 j = s 417 j := fun j hj => by rw [uR, if_neg (by omega)]
  have to : TOq u := fun j a1 a2 a3 => by rw [ho j (by omega)]; exact ok.1 j a2
  have B := BI_r b1 (fun x hx => h4 x (by omega) (by omega)) to
  have hl : (s 0 8).toNat - 1 < (s 0 8).toNat := by omega
  obtain ⟨q1, q2, q3⟩ := hP.2.2 _ hl
  have ok2 := (hP.2.1.2.2 _ hl).1
  have eB : brow u 18 = u 417 := by
    funext j
    rw [B.2]
    by_cases y : 82 ≤ j ∧ (j < 117 ∨ 135 ≤ j)
    · rw [if_pos y]
    · rw [if_neg y, b2, q1 j (by unfold lcJ; omega), uR]
  have u08 : u 0 8 = t 0 8 := by rw [h4 0 (by omega) (by omega)]
  have u33 : u 33 = t 33 := h4 33 (by omega) (by omega)
  have ep : ∀ i, pst u i = pst t i := fun i => by unfold pst; rw [u33]
  have key : ∀ i, i < (t 0 8).toNat → BI u (pst t i) ∧ ∀ j, brow u (pst t i) j = if 82 ≤ j ∧ (j < 117 ∨ 135 ≤ j) then u 417 j else brow t (pst t i) j := fun i hi => by
    have tb := c2.1
    have b := (pp_bd c2.2.1 (i := i) (by omega)).2.1
    exact BI_r (c2.2.2 i hi) (fun x hx => h4 x (by omega) (by omega)) to
  refine J_mk hJ (fun b hb => by rw [h4 b (by omega) (by omega), c4 b (by omega)]) (by rw [h4 0 (by omega) (by omega)]; exact t04) (fun j hj => by rw [u7, if_neg (by omega)]) ho ⟨B.1, eB⟩ ?_ ?_ ⟨?_, ⟨by rw [u08]; exact c2.1, by unfold PPp; rw [u33]; exact c2.2.1, fun i hi => ?_⟩, fun i hi => ?_⟩
  · rw [← eB, B.2, if_neg (by omega), b2]; exact q2
  · rw [← eB]
    exact Pg_q ok2 q3 (fun j hj => by rw [B.2, if_neg (by omega), b2])
  · rw [u08, t08, u7, if_pos rfl]
  · rw [u08] at hi
    rw [ep]; exact (key i hi).1
  · rw [u08] at hi
    rw [ep]
    have k := (key i hi).2
    have hi2 : i < (s 0 8).toNat - 1 := by rw [t08] at hi; omega
    have e := c3 i hi2
    obtain ⟨r1, r2, r3⟩ := hP.2.2 i (by omega)
    refine ⟨fun j hj => ?_, by rw [k, if_neg (by omega), e]; exact r2, Pg_q (hP.2.1.2.2 i (by omega)).1 r3 (fun j hj => by rw [k, if_neg (by omega), e])⟩
    have hj' := hj
    unfold lcJ at hj'
    rw [k, if_neg (by omega), e, r1 j hj, h4 423 (by omega) (by omega), t423]
    by_cases x : 5 ≤ j ∧ j < 77
    · rw [if_pos x, if_pos x]
    · rw [if_neg x, if_neg x, ho j (by omega)]
theorem anew_p {a b : Rw} {m : Nat} (hm : 117 ≤ m) (h : ∀ j, j < m → a j = b j) {j : Nat} (hj : j < m) : anew a j = anew b j := by
  unfold anew anK
  by_cases z1 : j = 5
  · rw [if_pos z1, if_pos z1]
  · rw [if_neg z1, if_neg z1]
    by_cases z2 : 6 ≤ j ∧ j < 6 + 5
    · rw [if_pos z2, if_pos z2]; exact h _ (by omega)
    · rw [if_neg z2, if_neg z2]
      by_cases z3 : 11 ≤ j ∧ j < 11 + 30
      · rw [if_pos z3, if_pos z3]; exact h _ (by omega)
      · rw [if_neg z3, if_neg z3]
        by_cases z4 : 41 ≤ j ∧ j < 41 + 6
        · rw [if_pos z4, if_pos z4]
        · rw [if_neg z4, if_neg z4]
          by_cases z5 : 47 ≤ j ∧ j < 47 + 30
          · rw [if_pos z5, if_pos z5]
          · rw [if_neg z5, if_neg z5]; exact h _ hj
/-- notes -/
theorem J_nt {s u : mSt} (hJ : Jq s) (e : ∀ b, ¬ (28 ≤ b ∧ b ≤ 31) → b ≠ 417 → u b = s b) (ho : ∀ j, j < 135 → u 417 j = s 417 j) (hOk : Ok (u 417)) (hN : JNr u 28 (u 417)) : Jq u := by
  have ok := J_ok hJ
  obtain ⟨h1, h2, h3, h4, ⟨b1, b2, b3, b4, b5, b6⟩, h6, h7, h8⟩ := hJ
  have to := Ok_TO hOk
  have g : ∀ b, (b < 28 ∨ 31 < b ∧ b ≠ 417) → u b = s b := fun b hb => e b (by omega) (by omega)
  have B := BI_r b2 (fun x hx => g x (by omega)) to
  have B8 := BI_r b3 (fun x hx => g x (by omega)) to
  have u7 : u 407 = s 407 := g 407 (by omega)
  have u0 : u 0 = s 0 := g 0 (by omega)
  refine ⟨JT_c h1 (by rw [g 1 (by omega)]) (g 2 (by omega)) (by rw [u7]) (g 408 (by omega)), JC_c h2 (g 6 (by omega)) (g 32 (by omega)) (g 77 (by omega)) (g 68 (by omega)), JR_c h3 (by rw [u0]) (by rw [u7]) (fun b _ _ => g b (by omega)) (fun j _ => by rw [g 409 (by omega)]) (fun j _ => by rw [g 411 (by omega)]) (fun j _ => by rw [g 412 (by omega)]), JF_c h4 (by rw [g 7 (by omega)]) (by rw [u7]) (by rw [u0]; exact Int.le_refl _) (by rw [g 7 (by omega)]) (by rw [u7]), ⟨?_, B.1, B8.1, fun z => ?_, by rw [ho 5 (by omega)]; exact b5, Pg_q ok b6 (fun j hj => ho j (by omega))⟩, hN, JP_c h7 (by rw [u0]) (by rw [u7]) (g 33 (by omega)) (fun b _ _ => g b (by omega)) (g 423 (by omega)) to (fun j hj _ => ho j (by unfold lcJ at hj; omega)), JI_c h8 (fun b _ _ => g b (by omega)) (fun b _ _ => g b (by omega)) (by rw [u7]; exact Int.le_refl _) to⟩
  · funext j
    rw [B.2]
    by_cases y : 82 ≤ j ∧ (j < 117 ∨ 135 ≤ j)
    · rw [if_pos y]
    · rw [if_neg y, b1, ho j (by omega)]
  · rw [ho 0 (by omega)] at z
    have q := b4 z
    funext j
    rw [B8.2]
    by_cases y : 82 ≤ j ∧ (j < 117 ∨ 135 ≤ j)
    · rw [if_pos y, anew_o (by omega)]
    · rw [if_neg y, q]
      exact anew_p (m := 135) (by decide) (fun i hi => (ho i hi).symm) (by omega)
/-- texts -/
theorem J_txt {s u : mSt} (hJ : Jq s) (e : ∀ b, ¬ (b ≤ 2 ∨ b = 4 ∨ b = 5 ∨ 34 ≤ b ∧ b ≤ 43 ∨ 83 ≤ b ∧ b ≤ 106 ∨ 407 ≤ b ∧ b ≤ 414) → u b = s b) (e0 : u 0 8 = s 0 8) (e7 : ∀ j, (j = 21 ∨ j = 22 ∨ j = 37) → u 407 j = s 407 j) (hT : JTq u) (hR : JRq u) (h4' : s 0 4 ≤ u 0 4) (h2' : s 407 2 ≤ u 407 2) : Jq u := by
  have ok := J_ok hJ
  obtain ⟨h1, h2, h3, h4, h5, h6, h7, h8⟩ := hJ
  have e17 : u 417 = s 417 := e 417 (by omega)
  have to : TOq u := Ok_TO (by rw [e17]; exact ok)
  exact ⟨hT, JC_c h2 (e 6 (by omega)) (e 32 (by omega)) (e 77 (by omega)) (e 68 (by omega)), hR, JF_c h4 (by rw [e 7 (by omega)]) (e7 21 (by omega)) h4' (by rw [e 7 (by omega)]) (e7 22 (by omega)), JB_c h5 (fun b _ _ => e b (by omega)) e17, JN_c h6 (fun b _ _ => e b (by omega)) (fun j _ _ => by rw [e17]), JP_c h7 e0 (e7 37 (by omega)) (e 33 (by omega)) (fun b _ _ => e b (by omega)) (e 423 (by omega)) to (fun j _ _ => by rw [e17]), JI_c h8 (fun b _ _ => e b (by omega)) (fun b _ _ => e b (by omega)) h2' to⟩
/-- force and seed -/
theorem J_fs {s u : mSt} (hJ : Jq s) (e : ∀ b, b ≠ 7 → b ≠ 407 → u b = s b) (e7 : ∀ j, j ≠ 21 → j ≠ 22 → u 407 j = s 407 j) (hF : JFq u) : Jq u := by
  have ok := J_ok hJ
  obtain ⟨h1, h2, h3, h4, h5, h6, h7, h8⟩ := hJ
  have g : ∀ b, (b ≤ 6 ∨ 8 ≤ b ∧ b ≠ 407) → u b = s b := fun b hb => e b (by omega) (by omega)
  have e17 : u 417 = s 417 := g 417 (by omega)
  have to : TOq u := Ok_TO (by rw [e17]; exact ok)
  exact ⟨JT_c h1 (by rw [g 1 (by omega)]) (g 2 (by omega)) (e7 1 (by omega) (by omega)) (g 408 (by omega)), JC_c h2 (g 6 (by omega)) (g 32 (by omega)) (g 77 (by omega)) (g 68 (by omega)), JR_c h3 (by rw [g 0 (by omega)]) (e7 2 (by omega) (by omega)) (fun b _ _ => g b (by omega)) (fun j _ => by rw [g 409 (by omega)]) (fun j _ => by rw [g 411 (by omega)]) (fun j _ => by rw [g 412 (by omega)]), hF, JB_c h5 (fun b _ _ => g b (by omega)) e17, JN_c h6 (fun b _ _ => g b (by omega)) (fun j _ _ => by rw [e17]), JP_c h7 (by rw [g 0 (by omega)]) (e7 37 (by omega) (by omega)) (g 33 (by omega)) (fun b _ _ => g b (by omega)) (g 423 (by omega)) to (fun j _ _ => by rw [e17]), JI_c h8 (fun b _ _ => g b (by omega)) (fun b _ _ => g b (by omega)) (by rw [e7 2 (by omega) (by omega)]; exact Int.le_refl _) to⟩
