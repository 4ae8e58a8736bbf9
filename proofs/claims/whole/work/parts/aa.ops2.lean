/-! each act: both sides answer alike, and the relation stays -/
theorem o_9 {X : (Nat → Int) × Nat} {s : mSt} (h : Jq s) : oPq X 131 255 [] s := by
  have F := J_FC h
  have ok := J_ok h
  have j9 := J_99 h
  refine c131 ⟨J_PP h, J_BI h, F.1, F.2.1⟩ (fun v t hv => ⟨v, rfl, ?_⟩)
  rw [J_br h, F.2.2.2] at hv
  by_cases hc : s 417 0 = 1 ∧ s 417 5 < 999
  · obtain ⟨hv1, hv2⟩ := hv.1 hc
    have rs : ∀ b, 407 ≤ b → t b = s b := fun b hb => hv2.2.2.2.2 b (by omega)
    have t17 := rs 417 (by omega)
    have fo := FO_c F.2.2.1 rs
    refine c255 ⟨by rw [t17]; exact ok, fo.1, by rw [rs 407 (by omega)]; exact J_37 h, by rw [t17]; exact j9.1⟩ (fun v' u hu => ⟨v', rfl, ?_⟩)
    rw [t17, fo.2] at hu
    obtain ⟨hu1, hu2⟩ := hu.1 hc
    exact ⟨hv1.trans hu1.symm, J_act h hv2 hu2 (fun j hj => stR_o ok hj) (by rw [(stR_ok ok (by omega)).2]; omega) (Pg_st ok j9.2)⟩
  · obtain ⟨hv1, hv2⟩ := hv.2 hc
    rw [hv2]
    refine c255 ⟨ok, F.2.2.1, J_37 h, j9.1⟩ (fun v' u hu => ⟨v', rfl, ?_⟩)
    obtain ⟨hu1, hu2⟩ := hu.2 hc
    exact ⟨hv1.trans hu1.symm, by rw [hu2]; exact h⟩
theorem o_10 {X : (Nat → Int) × Nat} {s : mSt} (x1 : Int) (h : Jq s) : oPq X 132 256 [mI x1] s := by
  have ok := J_ok h
  have j9 := J_99 h
  have n6 := nc_le ok
  refine c132 ⟨J_PP h, J_BI h⟩ (fun v t hv => ⟨v, rfl, ?_⟩)
  rw [J_br h] at hv
  by_cases hc : plC (s 417) x1
  · obtain ⟨hv1, hv2⟩ := hv.1 hc
    have rs : ∀ b, 407 ≤ b → t b = s b := fun b hb => hv2.2.2.2.2 b (by omega)
    have t17 := rs 417 (by omega)
    refine c256 ⟨by rw [t17]; exact ok, by rw [rs 407 (by omega)]; exact J_37 h⟩ (fun v' u hu => ⟨v', rfl, ?_⟩)
    rw [t17] at hu
    obtain ⟨hu1, hu2⟩ := hu.1 hc
    have hl : x1.toNat < nc (s 417) := by unfold nc; have := hc.1.1; omega
    exact ⟨hv1.trans hu1.symm, J_act h hv2 hu2 (fun j hj => lyR_o (np_le ok) (by omega) (by omega)) (by rw [lyR_o (np_le ok) (by omega) (by omega)]; exact j9.1) (Pg_lay ok j9.2 hl (by have := hc.2; omega))⟩
  · obtain ⟨hv1, hv2⟩ := hv.2 hc
    have q := S_fT hv2
    have r := S_r q
    have ht := J_scr h q
    refine c256 ⟨J_ok ht, J_37 ht⟩ (fun v' u hu => ⟨v', rfl, ?_⟩)
    rw [r.1] at hu
    obtain ⟨hu1, hu2⟩ := hu.2 hc
    exact ⟨hv1.trans hu1.symm, J_scr ht (S_fQ hu2)⟩
theorem o_11 {X : (Nat → Int) × Nat} {s : mSt} (x1 : Int) (h : Jq s) : oPq X 133 257 [mI x1] s := by
  have ok := J_ok h
  have j9 := J_99 h
  have n6 := nc_le ok
  refine c133 ⟨J_PP h, J_BI h⟩ (fun v t hv => ⟨v, rfl, ?_⟩)
  rw [J_br h] at hv
  by_cases hc : drC (s 417) x1
  · obtain ⟨hv1, hv2⟩ := hv.1 hc
    have rs : ∀ b, 407 ≤ b → t b = s b := fun b hb => hv2.2.2.2.2 b (by omega)
    have t17 := rs 417 (by omega)
    refine c257 ⟨by rw [t17]; exact ok, by rw [rs 407 (by omega)]; exact J_37 h⟩ (fun v' u hu => ⟨v', rfl, ?_⟩)
    rw [t17] at hu
    obtain ⟨hu1, hu2⟩ := hu.1 hc
    have hl : x1.toNat < 6 := by unfold nc at n6; have := hc.1; omega
    exact ⟨hv1.trans hu1.symm, J_act h hv2 hu2 (fun j hj => wtR_o (by omega) hl) (by rw [wtR_o (by omega) hl]; exact j9.1) (Pg_wt ok j9.2 hl)⟩
  · obtain ⟨hv1, hv2⟩ := hv.2 hc
    rw [hv2]
    refine c257 ⟨ok, J_37 h⟩ (fun v' u hu => ⟨v', rfl, ?_⟩)
    obtain ⟨hu1, hu2⟩ := hu.2 hc
    exact ⟨hv1.trans hu1.symm, by rw [hu2]; exact h⟩
theorem o_12 {X : (Nat → Int) × Nat} {s : mSt} (x1 x2 : Int) (h : Jq s) : oPq X 134 259 [mI x1, mI x2] s := by
  have ok := J_ok h
  have j9 := J_99 h
  have n5 := np_le ok
  refine c134 ⟨J_PP h, J_BI h⟩ (fun v t hv => ⟨v, rfl, ?_⟩)
  rw [J_br h] at hv
  by_cases hc : dlC (s 417) x1 x2
  · obtain ⟨hv1, hv2⟩ := hv.1 hc
    have rs : ∀ b, 407 ≤ b → t b = s b := fun b hb => hv2.2.2.2.2 b (by omega)
    have t17 := rs 417 (by omega)
    refine c259 ⟨by rw [t17]; exact ok, by rw [rs 407 (by omega)]; exact J_37 h⟩ (fun v' u hu => ⟨v', rfl, ?_⟩)
    rw [t17] at hu
    obtain ⟨hu1, hu2⟩ := hu.1 hc
    have hl : x1.toNat < 5 := by unfold np at n5; have := hc.2.1; omega
    exact ⟨hv1.trans hu1.symm, J_act h hv2 hu2 (fun j hj => by rw [dlR_o hl (by omega), if_neg (by omega)]) (by rw [dlR_o hl (by omega), if_neg (by omega)]; exact j9.1) (Pg_dl ok j9.2 hl)⟩
  · obtain ⟨hv1, hv2⟩ := hv.2 hc
    rw [hv2]
    refine c259 ⟨ok, J_37 h⟩ (fun v' u hu => ⟨v', rfl, ?_⟩)
    obtain ⟨hu1, hu2⟩ := hu.2 hc
    exact ⟨hv1.trans hu1.symm, by rw [hu2]; exact h⟩
theorem o_13 {X : (Nat → Int) × Nat} {s : mSt} (x1 x2 : Int) (h : Jq s) : oPq X 135 260 [mI x1, mI x2] s := by
  have ok := J_ok h
  have j9 := J_99 h
  refine c135 ⟨J_PP h, J_BI h⟩ (fun v t hv => ⟨v, rfl, ?_⟩)
  rw [J_br h] at hv
  by_cases hc : tkC (s 417) x1 x2
  · obtain ⟨hv1, hv2⟩ := hv.1 hc
    have rs : ∀ b, 407 ≤ b → t b = s b := fun b hb => hv2.2.2.2.2 b (by omega)
    have t17 := rs 417 (by omega)
    refine c260 (by rw [rs 407 (by omega)]; exact J_37 h) (fun v' u hu => ⟨v', rfl, ?_⟩)
    rw [t17] at hu
    obtain ⟨hu1, hu2⟩ := hu.1 hc
    have hl : x1.toNat < 30 := by have := hc.2.1; omega
    have eu : ∀ j, (j < 11 ∨ 41 ≤ j) → up (s 417) (11 + x1.toNat) x2 j = s 417 j := fun j hj => by unfold up; rw [if_neg (by omega)]
    exact ⟨hv1.trans hu1.symm, J_act h hv2 hu2 (fun j hj => eu j (by omega)) (by rw [eu 5 (by omega)]; exact j9.1) (Pg_q ok j9.2 (fun j hj => eu j (by omega)))⟩
  · obtain ⟨hv1, hv2⟩ := hv.2 hc
    rw [hv2]
    refine c260 (J_37 h) (fun v' u hu => ⟨v', rfl, ?_⟩)
    obtain ⟨hu1, hu2⟩ := hu.2 hc
    exact ⟨hv1.trans hu1.symm, by rw [hu2]; exact h⟩
theorem o_14 {X : (Nat → Int) × Nat} {s : mSt} (h : Jq s) : oPq X 136 254 [] s := by
  have e8 := h.2.2.2.2.2.2.1.1
  refine c136 (J_PP h) (fun v t hv => ⟨v, rfl, ?_⟩)
  by_cases hc : s 0 8 = 0
  · obtain ⟨hv1, hv2⟩ := hv.2 (fun z => z hc)
    rw [hv2]
    refine c254 (J_37 h) (fun v' u hu => ⟨v', rfl, ?_⟩)
    obtain ⟨hu1, hu2⟩ := hu.1 (by rw [← e8]; exact hc)
    exact ⟨hv1.trans hu1.symm, by rw [hu2]; exact h⟩
  · obtain ⟨hv1, hv2⟩ := hv.1 hc
    have t7 : t 407 = s 407 := hv2.2.2.2.2 407 (by omega)
    refine c254 (by rw [t7]; exact J_37 h) (fun v' u hu => ⟨v', rfl, ?_⟩)
    obtain ⟨hu1, hu2, hu3, hu4⟩ := hu.2 (by rw [t7, ← e8]; exact hc)
    refine ⟨by rw [hv1, hu1, t7, e8], J_undo h hc hv2 hu2 hu3 hu4⟩
theorem o_4 {X : (Nat → Int) × Nat} {s : mSt} (x1 : Int) (h : Jq s) : oPq X 126 228 [mI x1] s := by
  obtain ⟨f1, f2, f3, f4⟩ := h.2.2.2.1
  have r := h.2.2.1
  refine c126 (fun v t hv => ⟨v, rfl, ?_⟩)
  by_cases hc : -1 ≤ x1 ∧ x1 < s 0 4
  · obtain ⟨hv1, hv2⟩ := hv.1 hc
    have t7 : t 407 = s 407 := by rw [hv2, uS_cell (by decide)]
    refine c228 (by rw [t7, ← r.1]; exact r.2.1.1) (fun v' u hu => ⟨v', rfl, ?_⟩)
    obtain ⟨hu1, hu2⟩ := hu.1 (by rw [t7, ← r.1]; exact hc)
    refine ⟨by rw [hv1, hu1, t7, f1], J_fs h (fun b a1 a2 => by rw [hu2, uS_cell a2, hv2, uS_cell a1]) (fun j a1 a2 => by rw [hu2, uS_at, if_neg a1, t7]) ⟨?_, ?_, ?_, ?_⟩⟩
    · rw [hu2, uS_cell (by decide), hv2, uS_at, if_pos rfl, uS_at, if_pos rfl]
    · rw [hu2, uS_cell (by decide), uS_cell (by decide), hv2, uS_at, if_pos rfl, uS_cell (by decide)]; exact hc
    · rw [hu2, uS_cell (by decide), uS_at, if_neg (by decide), t7, hv2, uS_at, if_neg (by decide)]; exact f3
    · rw [hu2, uS_cell (by decide), hv2, uS_at, if_neg (by decide)]; exact f4
  · obtain ⟨hv1, hv2⟩ := hv.2 hc
    rw [hv2]
    refine c228 (by rw [← r.1]; exact r.2.1.1) (fun v' u hu => ⟨v', rfl, ?_⟩)
    obtain ⟨hu1, hu2⟩ := hu.2 (by rw [← r.1]; exact hc)
    exact ⟨hv1.trans hu1.symm, by rw [hu2]; exact h⟩
theorem o_36 {X : (Nat → Int) × Nat} {s : mSt} (x1 : Int) (hx : x1 < 2147483648) (h : Jq s) : oPq X 158 303 [mI x1] s := by
  obtain ⟨f1, f2, f3, f4⟩ := h.2.2.2.1
  refine c158 (fun v t hv => ⟨v, rfl, ?_⟩)
  by_cases hc : 0 ≤ x1
  · obtain ⟨hv1, hv2⟩ := hv.1 hc
    have t7 : t 407 = s 407 := by rw [hv2, uS_cell (by decide)]
    refine c303 (fun v' u hu => ⟨v', rfl, ?_⟩)
    obtain ⟨hu1, hu2⟩ := hu.1 hc
    refine ⟨by rw [hv1, hu1, t7, f3], J_fs h (fun b a1 a2 => by rw [hu2, uS_cell a2, hv2, uS_cell a1]) (fun j a1 a2 => by rw [hu2, uS_at, if_neg a2, t7]) ⟨?_, ?_, ?_, ?_⟩⟩
    · rw [hu2, uS_cell (by decide), uS_at, if_neg (by decide), t7, hv2, uS_at, if_neg (by decide)]; exact f1
    · rw [hu2, uS_cell (by decide), uS_cell (by decide), hv2, uS_at, if_neg (by decide), uS_cell (by decide)]; exact f2
    · rw [hu2, uS_cell (by decide), hv2, uS_at, if_pos rfl, uS_at, if_pos rfl]
    · rw [hu2, uS_cell (by decide), hv2, uS_at, if_pos rfl]; exact ⟨hc, hx⟩
  · obtain ⟨hv1, hv2⟩ := hv.2 hc
    rw [hv2]
    refine c303 (fun v' u hu => ⟨v', rfl, ?_⟩)
    obtain ⟨hu1, hu2⟩ := hu.2 hc
    exact ⟨hv1.trans hu1.symm, by rw [hu2]; exact h⟩
theorem o_39 {X : (Nat → Int) × Nat} {s : mSt} (x1 : Int) (h : Jq s) : oPq X 161 307 [mI x1] s := by
  refine c161 ⟨h.2.1.2.1, h.2.2.2.2.1.2.2.1, J_BI h⟩ (fun v t hv => ⟨v, rfl, ?_⟩)
  by_cases hc : 0 ≤ x1 ∧ x1 < 4
  · obtain ⟨hv1, hv2, hv3, hv4⟩ := hv.1 hc
    have t17 : t 417 = s 417 := hv4 417 (by omega)
    refine c307 (fun v' u hu => ⟨v', rfl, ?_⟩)
    obtain ⟨hu1, hu2, hu3, hu4, hu5⟩ := hu.1 hc
    exact ⟨by rw [hv1, hu1, t17, bi5 (J_BI h), J_br h], J_img (by omega) h hv2 hv3 hv4 hu2 hu3 hu4 hu5⟩
  · obtain ⟨hv1, hv2⟩ := hv.2 hc
    rw [hv2]
    refine c307 (fun v' u hu => ⟨v', rfl, ?_⟩)
    obtain ⟨hu1, hu2⟩ := hu.2 hc
    exact ⟨hv1.trans hu1.symm, by rw [hu2]; exact h⟩
theorem o_40 {X : (Nat → Int) × Nat} {s : mSt} (x1 : Int) (h : Jq s) : oPq X 162 308 [mI x1] s := by
  have hI := h.2.2.2.2.2.2.2
  refine c162 ⟨h.2.1.2.1, fun j hj z => ((hI j hj).2 (by rw [← (hI j hj).1]; exact z)).1⟩ (fun v t hv => ⟨v, rfl, ?_⟩)
  by_cases hc : (0 ≤ x1 ∧ x1 < 4) ∧ ¬ s (107 + 25 * x1.toNat) 5 = 0
  · obtain ⟨hv1, hv2, hv3, hv4, hv5⟩ := hv.1 hc
    have hi : x1.toNat < 4 := by omega
    have e9 := (hI _ hi).1
    have hz : ¬ s 439 x1.toNat = 0 := by rw [← e9]; exact hc.2
    refine c308 (fun v' u hu => ⟨v', rfl, ?_⟩)
    obtain ⟨hu1, hu2, hu3, hu4, hu5⟩ := hu.1 ⟨hc.1, by rw [hv4 439 (by omega) (by omega)]; exact hz⟩
    have q := J_bck hi h hz hv2 hv3 hv4 hv5 hu2 hu3 hu4 hu5
    exact ⟨by rw [hv1, hu1]; exact q.2, q.1⟩
  · obtain ⟨hv1, hv2⟩ := hv.2 hc
    rw [hv2]
    refine c308 (fun v' u hu => ⟨v', rfl, ?_⟩)
    obtain ⟨hu1, hu2⟩ := hu.2 (fun z => hc ⟨z.1, by rw [(hI _ (by omega)).1]; exact z.2⟩)
    exact ⟨hv1.trans hu1.symm, by rw [hu2]; exact h⟩
