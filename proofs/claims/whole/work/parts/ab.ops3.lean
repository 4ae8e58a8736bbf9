/-! texts and notes: both sides answer alike, and the relation stays -/
theorem pt_s {r r' : Rw} (h : ∀ i, r' i = sb (r i)) (n : Nat) (x : Int) : ∀ i, pt4s r' n x i = sb (pt4 r n x i) := fun i => by
  unfold pt4s pt4
  by_cases z : n ≤ i ∧ i < n + 4
  · rw [if_pos z, if_pos z]
  · rw [if_neg z, if_neg z]; exact h i
theorem pt_b {r : Rw} (h : ∀ i, 0 ≤ r i ∧ r i ≤ 255) (n : Nat) (x : Int) : ∀ i, 0 ≤ pt4 r n x i ∧ pt4 r n x i ≤ 255 := fun i => by
  unfold pt4
  by_cases z : n ≤ i ∧ i < n + 4
  · rw [if_pos z]
    have := byB_b x (24 - 8 * (i - n))
    omega
  · rw [if_neg z]; exact h i
theorem o_0 {X : (Nat → Int) × Nat} {s : mSt} (x1 x2 x3 x4 x5 : Int) (h : Jq s) : oPq X 122 171 [mI x1, mI x2, mI x3, mI x4, mI x5] s := by
  obtain ⟨t1, t2, t3, t4⟩ := h.1
  have hR := h.2.2.1
  refine c122 t2 (fun v t hv => ⟨v, rfl, ?_⟩)
  by_cases hc : s 1 1 + 20 ≤ 400
  · obtain ⟨v1, v2, v3, v4, v5⟩ := hv.1 hc
    have t7 : t 407 = s 407 := v5 407 (by omega) (by omega)
    have t8 : t 408 = s 408 := v5 408 (by omega) (by omega)
    refine c171 (by rw [t7, ← t1]; exact t2) (fun v' u hu => ⟨v', rfl, ?_⟩)
    rw [t7, t8, ← t1] at hu
    obtain ⟨u1, u2, u3, u4, u5⟩ := hu.1 hc
    have g : ∀ b, b ≠ 1 → b ≠ 2 → b ≠ 407 → b ≠ 408 → u b = s b := fun b a1 a2 a3 a4 => by rw [u5 b a3 a4, v5 b a1 a2]
    have u0 : u 0 = s 0 := g 0 (by omega) (by omega) (by omega) (by omega)
    have c1 : u 1 = t 1 := u5 1 (by omega) (by omega)
    have c2 : u 2 = t 2 := u5 2 (by omega) (by omega)
    refine ⟨v1.trans u1.symm, J_txt h (fun b hb => g b (by omega) (by omega) (by omega) (by omega)) (by rw [u0]) (fun j hj => u4 j (by omega)) ⟨?_, ?_, ?_, ?_⟩ (JR_c hR (by rw [u0]) (u4 2 (by omega)) (fun b _ _ => g b (by omega) (by omega) (by omega) (by omega)) (fun j _ => by rw [g 409 (by omega) (by omega) (by omega) (by omega)]) (fun j _ => by rw [g 411 (by omega) (by omega) (by omega) (by omega)]) (fun j _ => by rw [g 412 (by omega) (by omega) (by omega) (by omega)])) (by rw [u0]; exact Int.le_refl _) (by rw [u4 2 (by omega)]; exact Int.le_refl _)⟩
    · rw [c1, v2, u2]
    · rw [c1, v2]; omega
    · unfold BYq
      rw [c2, v3]
      exact pt_b (pt_b (pt_b (pt_b (pt_b t3 _ _) _ _) _ _) _ _) _ _
    · rw [c2, v3, u3]
      exact pt_s (pt_s (pt_s (pt_s (pt_s t4 _ _) _ _) _ _) _ _) _ _
  · obtain ⟨v1, v2⟩ := hv.2 hc
    rw [v2]
    refine c171 (by rw [← t1]; exact t2) (fun v' u hu => ⟨v', rfl, ?_⟩)
    rw [← t1] at hu
    obtain ⟨u1, u2⟩ := hu.2 hc
    exact ⟨v1.trans u1.symm, by rw [u2]; exact h⟩
theorem o_1 {X : (Nat → Int) × Nat} {s : mSt} (x1 : Int) (h : Jq s) : oPq X 123 172 [mI x1] s := by
  obtain ⟨t1, t2, t3, t4⟩ := h.1
  have hR := h.2.2.1
  refine c123 (fun v t hv => ⟨v, rfl, ?_⟩)
  by_cases hc : 0 ≤ x1 ∧ x1 ≤ s 1 1
  · obtain ⟨v1, v2⟩ := hv.1 hc
    have t7 : t 407 = s 407 := by rw [v2, uS_cell (by decide)]
    refine c172 (fun v' u hu => ⟨v', rfl, ?_⟩)
    rw [t7, ← t1] at hu
    obtain ⟨u1, u2⟩ := hu.1 hc
    have g : ∀ b, b ≠ 1 → b ≠ 407 → u b = s b := fun b a1 a2 => by rw [u2, uS_cell a2, v2, uS_cell a1]
    have f : ∀ j, j ≠ 1 → u 407 j = s 407 j := fun j hj => by rw [u2, uS_at, if_neg hj, t7]
    have u0 : u 0 = s 0 := g 0 (by omega) (by omega)
    have e1 : u 1 1 = x1 := by rw [u2, uS_cell (by decide), v2, uS_at, if_pos rfl]
    refine ⟨v1.trans u1.symm, J_txt h (fun b hb => g b (by omega) (by omega)) (by rw [u0]) (fun j hj => f j (by omega)) ⟨?_, ?_, ?_, ?_⟩ (JR_c hR (by rw [u0]) (f 2 (by omega)) (fun b _ _ => g b (by omega) (by omega)) (fun j _ => by rw [g 409 (by omega) (by omega)]) (fun j _ => by rw [g 411 (by omega) (by omega)]) (fun j _ => by rw [g 412 (by omega) (by omega)])) (by rw [u0]; exact Int.le_refl _) (by rw [f 2 (by omega)]; exact Int.le_refl _)⟩
    · rw [e1, u2, uS_at, if_pos rfl]
    · rw [e1]; omega
    · unfold BYq; rw [g 2 (by omega) (by omega)]; exact t3
    · rw [g 2 (by omega) (by omega), g 408 (by omega) (by omega)]; exact t4
  · obtain ⟨v1, v2⟩ := hv.2 hc
    rw [v2]
    refine c172 (fun v' u hu => ⟨v', rfl, ?_⟩)
    rw [← t1] at hu
    obtain ⟨u1, u2⟩ := hu.2 hc
    exact ⟨v1.trans u1.symm, by rw [u2]; exact h⟩
theorem o_2 {X : (Nat → Int) × Nat} {s : mSt} (h : Jq s) : oPq X 124 206 [] s := by
  have hT := h.1
  have tr := J_TR hT
  obtain ⟨t1, t2, t3, t4⟩ := hT
  refine c124 ⟨t2, t3, Ok_TO (J_ok h)⟩ (fun v t hv => ⟨v, rfl, ?_⟩)
  obtain ⟨hy, e1, e2⟩ := hv
  have t7 : t 407 = s 407 := e2.1 407 (by omega)
  have t8 : t 408 = s 408 := e2.1 408 (by omega)
  have ed : dyR t = dyP (s 2) (nO s) := by
    unfold dyR
    rw [show TR t = TR s from by unfold TR; rw [t8], show nR t = nR s from by unfold nR; rw [t7], tr.1, tr.2.1]
  refine c206 ⟨by rw [t8]; exact tr.2.2, by rw [t7, ← t1]; exact t2⟩ (fun v' u hu => ⟨v', rfl, ?_⟩)
  rw [ed] at hu
  obtain ⟨hz, d3, d4⟩ := hu
  by_cases hc : (dyP (s 2) (nO s)).1 = 0
  · obtain ⟨v1, v2, v3, v4⟩ := hy.1 hc
    obtain ⟨w1, w2, w3⟩ := hz.1 hc
    exact ⟨v1.trans w1.symm, J_day h (LW_dp hc) v2 ⟨v3, v4⟩ e1 e2 w2 w3 d3 d4⟩
  · obtain ⟨v1, v2, v3⟩ := hy.2 hc
    obtain ⟨w1, w2, w3⟩ := hz.2 hc
    exact ⟨v1.trans w1.symm, J_day0 h v2 e1 v3 w2 w3 d3 d4⟩
theorem o_3 {X : (Nat → Int) × Nat} {s : mSt} (h : Jq s) : oPq X 125 205 [] s := by
  have hT := h.1
  have tr := J_TR hT
  have hR := h.2.2.1
  obtain ⟨t1, t2, t3, t4⟩ := hT
  refine c125 ⟨t2, t3, hR.2.1.1, h.2.1.1⟩ (fun v t hv => ⟨v, rfl, ?_⟩)
  by_cases h6 : s 0 4 < 6
  · have hv1 := hv.1 h6
    have key : fRu s t (rlK s) → t 407 = s 407 ∧ t 408 = s 408 ∧ ruP t = rlP (s 2) (nO s) := fun f => by
      have kk : rlK s = 83 + 4 * (s 0 4).toNat := rfl
      have r4 := hR.2.1
      have t7 : t 407 = s 407 := f.1 407 (by omega)
      have t8 : t 408 = s 408 := f.1 408 (by omega)
      refine ⟨t7, t8, ?_⟩
      unfold ruP
      rw [show TR t = TR s from by unfold TR; rw [t8], show nR t = nR s from by unfold nR; rw [t7], tr.1, tr.2.1]
    by_cases hc : (rlP (s 2) (nO s)).1 = 0
    · obtain ⟨v1, v2, v3, v4, v5⟩ := hv1.1 hc
      obtain ⟨t7, t8, er⟩ := key v5
      refine c205 ⟨by rw [t8]; exact tr.2.2, by rw [t7, ← t1]; exact t2, by rw [t7, ← hR.1]; exact hR.2.1⟩ (fun v' u hu => ⟨v', rfl, ?_⟩)
      rw [er] at hu
      obtain ⟨w1, w2, w3, w4, w5⟩ := (hu.1 (by rw [t7, ← hR.1]; exact h6)).1 hc
      exact ⟨by rw [v1, w1, t7, hR.1], J_rule (y := 1) h h6 (Or.inr rfl) (fun _ => LWl_P (by unfold nO; omega) hc) v2 (fun _ => v3) v4 v5 w2 (fun _ => w3) w4 w5⟩
    · obtain ⟨v1, v2, v3, v4⟩ := hv1.2 hc
      obtain ⟨t7, t8, er⟩ := key v4
      refine c205 ⟨by rw [t8]; exact tr.2.2, by rw [t7, ← t1]; exact t2, by rw [t7, ← hR.1]; exact hR.2.1⟩ (fun v' u hu => ⟨v', rfl, ?_⟩)
      rw [er] at hu
      obtain ⟨w1, w2, w3, w4⟩ := (hu.1 (by rw [t7, ← hR.1]; exact h6)).2 hc
      exact ⟨v1.trans w1.symm, J_rule (x := ([], [])) (y := 0) h h6 (Or.inl rfl) (fun z => absurd z (by decide)) (by rw [v2, Int.add_zero]) (fun z => absurd z (by decide)) v3 v4 (by rw [w2, Int.add_zero]) (fun z => absurd z (by decide)) w3 w4⟩
  · obtain ⟨v1, v2⟩ := hv.2 h6
    rw [v2]
    refine c205 ⟨tr.2.2, by rw [← t1]; exact t2, by rw [← hR.1]; exact hR.2.1⟩ (fun v' u hu => ⟨v', rfl, ?_⟩)
    obtain ⟨w1, w2⟩ := hu.2 (by rw [← hR.1]; exact h6)
    exact ⟨v1.trans w1.symm, by rw [w2]; exact h⟩
theorem noR_e (a : Rw) (x y z : Int) (j : Nat) : noR a x y z j = if j = 165 then a 165 + 1 else if j = 135 + 3 * (a 165).toNat + 2 then z else if j = 135 + 3 * (a 165).toNat + 1 then y else if j = 135 + 3 * (a 165).toNat then x else a j := rfl
theorem noR_ok {a : Rw} {x y z : Int} (h : Ok a) (hc : noC a x y z) : Ok (noR a x y z) := by
  obtain ⟨_, h1, h2, h3, h4⟩ := hc
  have b := h.1 165 (by decide)
  have l0 : (0 : Int) ≤ a 165 := b.1
  have e : ∀ j, j < 135 → noR a x y z j = a j := fun j hj => by rw [noR_e, if_neg (by omega), if_neg (by omega), if_neg (by omega), if_neg (by omega)]
  have lo : ∀ j, 77 ≤ j → loA j = 0 := fun j hj => if_neg (by omega)
  have hi : ∀ j, 135 ≤ j → j < 165 → hiA j = 29 := fun j a1 a2 => by
    have q := (show ∀ j : Fin 165, 135 ≤ j.val → hiA j.val = 29 by decide +kernel) ⟨j, a2⟩ a1
    exact q
  refine Ok_row h (fun j hj => ?_) (e 3 (by omega)) (e 4 (by omega)) (fun c hc => e _ (by omega)) (fun p hp => e _ (by omega))
  rw [noR_e]
  by_cases z1 : j = 165
  · right
    rw [if_pos z1, z1]
    exact ⟨by show (0 : Int) ≤ a 165 + 1; omega, by show a 165 + 1 ≤ 10; omega⟩
  · rw [if_neg z1]
    by_cases z2 : j = 135 + 3 * (a 165).toNat + 2
    · right; rw [if_pos z2, lo j (by omega), hi j (by omega) (by omega)]; omega
    · rw [if_neg z2]
      by_cases z3 : j = 135 + 3 * (a 165).toNat + 1
      · right; rw [if_pos z3, lo j (by omega), hi j (by omega) (by omega)]; omega
      · rw [if_neg z3]
        by_cases z4 : j = 135 + 3 * (a 165).toNat
        · right; rw [if_pos z4, lo j (by omega), hi j (by omega) (by omega)]; omega
        · left; rw [if_neg z4]
theorem o_33 {X : (Nat → Int) × Nat} {s : mSt} (x1 x2 x3 : Int) (h : Jq s) : oPq X 155 293 [mI x1, mI x2, mI x3] s := by
  have ok := J_ok h
  obtain ⟨n1, n2, n3⟩ := h.2.2.2.2.2.1
  refine c155 ⟨J_BI h, n2.1⟩ (fun v t hv => ⟨v, rfl, ?_⟩)
  by_cases hm : x1 = -1
  · obtain ⟨v1, v2⟩ := hv.1 hm
    have t17 : t 417 = s 417 := by rw [v2, uS_cell (by decide)]
    refine c293 (by rw [t17]; exact ok) (fun v' u hu => ⟨v', rfl, ?_⟩)
    obtain ⟨u1, u2⟩ := hu.1 hm
    have g : ∀ b, b ≠ 28 → b ≠ 417 → u b = s b := fun b a1 a2 => by rw [u2, uS_cell a2, v2, uS_cell a1]
    have e17 : ∀ j, u 417 j = if j = 165 then 0 else s 417 j := fun j => by rw [u2, uS_at, t17]
    have e28 : u 28 0 = 0 := by rw [u2, uS_cell (by decide), v2, uS_at, if_pos rfl]
    refine ⟨v1.trans u1.symm, J_nt h (fun b a1 a2 => g b (by omega) a2) (fun j hj => by rw [e17, if_neg (by omega)]) (Ok_row ok (fun j hj => ?_) (by rw [e17]; rfl) (by rw [e17]; rfl) (fun c hc => by rw [e17, if_neg (by omega)]) (fun p hp => by rw [e17, if_neg (by omega)])) ⟨by rw [e28, e17]; rfl, by rw [e28]; decide, fun i hi => ?_⟩⟩
    · by_cases z : j = 165
      · right; rw [e17, if_pos z, z]; decide
      · left; rw [e17, if_neg z]
    · rw [e28] at hi
      exact absurd hi (Nat.not_lt_zero i)
  · have hv2 := hv.2 hm
    rw [J_br h, n1] at hv2
    by_cases hc : noC (s 417) x1 x2 x3
    · obtain ⟨v1, v2, v3, v4, v5, v6⟩ := hv2.1 hc
      have t17 : t 417 = s 417 := v6 417 (by omega)
      refine c293 (by rw [t17]; exact ok) (fun v' u hu => ⟨v', rfl, ?_⟩)
      rw [t17] at hu
      obtain ⟨u1, u2, u3⟩ := (hu.2 hm).1 hc
      have g : ∀ b, ¬ (28 ≤ b ∧ b ≤ 31) → b ≠ 417 → u b = s b := fun b a1 a2 => by rw [u3 b a2, v6 b (by omega)]
      have e28 : u 28 0 = s 28 0 + 1 := by rw [u3 28 (by omega), v2]; unfold up; rw [if_pos rfl]
      have h10 : s 417 165 < 10 := hc.2.2.2.2
      refine ⟨v1.trans u1.symm, J_nt h g (fun j hj => by rw [u2, noR_e, if_neg (by omega), if_neg (by omega), if_neg (by omega), if_neg (by omega)]) (by rw [u2]; exact noR_ok ok hc) ⟨by rw [e28, u2, noR_e, if_pos rfl, n1], by rw [e28]; omega, fun i hi => ?_⟩⟩
      have e29 : u 29 i = if i = (s 28 0).toNat then x1 else s 29 i := by
        have v3' : t 29 = up (s 29) (s 28 0).toNat x1 := v3
        rw [u3 29 (by omega), v3']; rfl
      have e30 : u 30 i = if i = (s 28 0).toNat then x2 else s 30 i := by
        have v4' : t 30 = up (s 30) (s 28 0).toNat x2 := v4
        rw [u3 30 (by omega), v4']; rfl
      have e31 : u 31 i = if i = (s 28 0).toNat then x3 else s 31 i := by
        have v5' : t 31 = up (s 31) (s 28 0).toNat x3 := v5
        rw [u3 31 (by omega), v5']; rfl
      rw [e28] at hi
      show (u 29 i = u 417 (135 + 3 * i) ∧ u 30 i = u 417 (135 + 3 * i + 1) ∧ u 31 i = u 417 (135 + 3 * i + 2)) ∧ (0 ≤ u 29 i ∧ u 29 i ≤ 9) ∧ (0 ≤ u 30 i ∧ u 30 i < 30)
      rw [e29, e30, e31, u2, noR_e, noR_e, noR_e, ← n1]
      by_cases z : i = (s 28 0).toNat
      · rw [if_pos z, if_pos z, if_pos z, if_neg (by omega), if_neg (by omega), if_neg (by omega), if_pos (by omega), if_neg (by omega), if_neg (by omega), if_pos (by omega), if_neg (by omega), if_pos (by omega)]
        exact ⟨⟨rfl, rfl, rfl⟩, hc.2.1, hc.2.2.1⟩
      · rw [if_neg z, if_neg z, if_neg z, if_neg (by omega), if_neg (by omega), if_neg (by omega), if_neg (by omega), if_neg (by omega), if_neg (by omega), if_neg (by omega), if_neg (by omega), if_neg (by omega), if_neg (by omega), if_neg (by omega), if_neg (by omega)]
        exact n3 i (by omega)
    · obtain ⟨v1, v2⟩ := hv2.2 hc
      rw [v2]
      refine c293 ok (fun v' u hu => ⟨v', rfl, ?_⟩)
      obtain ⟨u1, u2⟩ := (hu.2 hm).2 hc
      exact ⟨v1.trans u1.symm, by rw [u2]; exact h⟩
