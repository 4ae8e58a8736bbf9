/-! each call: both sides answer alike, and the relation stays -/
abbrev oPq (X : (Nat → Int) × Nat) (mc mr : Nat) (as : List mV) (s : mSt) : Prop := Sp X 1399 mc (mR 0 :: as) s (fun r t => ∃ v : Int, r = some (mI v) ∧ Sp X 1399 mr (mR 407 :: as) t (fun r u => ∃ v' : Int, r = some (mI v') ∧ v = v' ∧ Jq u))
theorem YN_u {C : Prop} {r r' A B : Int} (h : YN C (r = A) (r = B)) (h' : YN C (r' = A) (r' = B)) : r = r' := by
  by_cases c : C
  · exact (h.1 c).trans (h'.1 c).symm
  · exact (h.2 c).trans (h'.2 c).symm
theorem S_fT {s t : mSt} (h : fT s t) : SCR s t := ⟨fun b _ _ _ _ _ _ _ => h b (by omega), fun j _ => by rw [h 407 (by omega)]⟩
theorem S_fl2 {s t : mSt} (h : fl2 s t) : SCR s t := ⟨fun b _ _ _ _ _ _ _ => h b (by omega), fun j _ => by rw [h 407 (by omega)]⟩
theorem S_f12 {s t : mSt} (h : f12 s t) : SCR s t := ⟨fun b _ _ _ _ _ _ _ => h b (by omega) (by omega), fun j _ => by rw [h 407 (by omega) (by omega)]⟩
theorem S_frB {s t : mSt} (h : frB s t) : SCR s t := ⟨fun b _ _ _ _ _ _ _ => h.1 b (by omega) (by omega), fun j _ => by rw [h.1 407 (by omega) (by omega)]⟩
theorem S_fW {s t : mSt} (h : fW s t) : SCR s t := ⟨fun b _ _ _ _ _ _ _ => h b (by omega) (by omega), fun j _ => by rw [h 407 (by omega) (by omega)]⟩
theorem S_fRs {s t : mSt} (h : fRs s t) : SCR s t := ⟨fun b _ _ _ _ _ _ _ => h b (by omega) (by omega) (by omega), fun j _ => by rw [h 407 (by omega) (by omega) (by omega)]⟩
theorem S_fZ {s t : mSt} (h : fZ s t) : SCR s t := ⟨fun b _ _ _ _ _ _ _ => h b (by omega) (by omega) (by omega), fun j _ => by rw [h 407 (by omega) (by omega) (by omega)]⟩
theorem S_fIl {s t : mSt} (h : fIl s t) : SCR s t := ⟨fun b _ _ _ _ _ _ _ => h.1 b (by omega) (by omega) (by omega), fun j _ => by rw [h.1 407 (by omega) (by omega) (by omega)]⟩
theorem S_fQ {s t : mSt} (h : fQ s t) : SCR s t := ⟨fun b _ _ _ _ _ _ _ => h.1 b (by omega), fun j _ => h.2 j (by omega)⟩
theorem S_fv2 {s t : mSt} (h : fv2 s t) : SCR s t := ⟨fun b _ _ _ _ _ _ _ => h b (by omega) (by omega), fun j _ => by rw [h 407 (by omega) (by omega)]⟩
theorem S_f48 {s t : mSt} (h : f48 s t) : SCR s t := ⟨fun b _ _ _ _ _ _ _ => h b (by omega), fun j _ => by rw [h 407 (by omega)]⟩
theorem S_frS {s t : mSt} (h : frS s t) : SCR s t := ⟨fun b _ _ _ _ _ _ _ => h.1 b (by omega), fun j _ => h.2 j (by omega)⟩
theorem S_fX {s t : mSt} (h : fX s t) : SCR s t := ⟨fun b _ _ _ _ _ _ _ => h.1 b (by omega), fun j _ => h.2 j (by omega)⟩
theorem S_fXr {s t : mSt} (h : fXr s t) : SCR s t := ⟨fun b _ _ _ _ _ _ _ => h.1 b (by omega), fun j _ => h.2 j (by omega)⟩
theorem S_fY {s t : mSt} (h : fY s t) : SCR s t := ⟨fun b _ _ _ _ _ _ _ => h.1 b (by omega), fun j _ => h.2 j (by omega)⟩
theorem S_fXi {s t : mSt} (h : fXi s t) : SCR s t := ⟨fun b _ _ _ _ _ _ _ => h.1 b (by omega), fun j _ => h.2 j (by omega)⟩
/-- what the class's questions leave of the reference -/
theorem S_r {s t : mSt} (h : SCR s t) : t 417 = s 417 ∧ t 407 2 = s 407 2 ∧ t 407 22 = s 407 22 ∧ ruR t = ruR s ∧ ruN t = ruN s ∧ agN t = agN s ∧ fitN t = fitN s := by
  have c : ∀ b, (408 ≤ b ∧ b ≤ 414 ∨ b = 417) → t b = s b := fun b hb => h.1 b (by omega) (by omega) (by omega) (by omega) (by omega) (by omega) (by omega)
  have e17 := c 417 (by omega)
  have e9 := c 409 (by omega)
  have e11 := c 411 (by omega)
  have e12 := c 412 (by omega)
  have r : ruR t = ruR s := by
    funext a
    unfold ruR sgR E1r E3r
    rw [h.2 21 (by omega), e9, e11, e12]
  have n : ruN t = ruN s := by
    funext i a
    unfold ruN sgR E1r E3r
    rw [e9, e11, e12]
  have g : agN t = agN s := by
    funext R a
    unfold agN
    rw [e17]
  refine ⟨e17, h.2 2 (by omega), h.2 22 (by omega), r, n, g, ?_⟩
  funext i
  unfold fitN
  rw [g, n, e17]
theorem FO_c {s t : mSt} (h : FOq s) (e : ∀ b, 407 ≤ b → t b = s b) : FOq t ∧ ruR t = ruR s := by
  refine ⟨⟨by rw [e 407 (by omega)]; exact h.1, fun z => ?_⟩, ?_⟩
  · rw [e 407 (by omega)] at z ⊢
    exact (sk_cells (h.2 z) (fun b hb => e b (by omega))).1
  · funext a
    unfold ruR sgR E1r E3r
    rw [e 407 (by omega), e 409 (by omega), e 411 (by omega), e 412 (by omega)]
theorem J_37 {s : mSt} (h : Jq s) : 0 ≤ s 407 37 ∧ s 407 37 ≤ 20 := by
  have p := h.2.2.2.2.2.2.1
  rw [← p.1]; exact p.2.1.1
theorem J_PP {s : mSt} (h : Jq s) : PPq s := h.2.2.2.2.2.2.1.2.1
theorem J_99 {s : mSt} (h : Jq s) : s 417 5 ≤ 999 ∧ Pg (s 417) := ⟨h.2.2.2.2.1.2.2.2.2.1, h.2.2.2.2.1.2.2.2.2.2⟩
/-! questions -/
theorem o_5 {X : (Nat → Int) × Nat} {s : mSt} (x1 x2 : Int) (h : Jq s) : oPq X 127 229 [mI x1, mI x2] s := c127 (J_BI h) ⟨_, rfl, c229 (J_ok h) ⟨_, rfl, by rw [J_br h], h⟩⟩
theorem o_6 {X : (Nat → Int) × Nat} {s : mSt} (x1 x2 : Int) (h : Jq s) : oPq X 128 230 [mI x1, mI x2] s := c128 (J_BI h) ⟨_, rfl, c230 (J_ok h) ⟨_, rfl, by rw [J_br h], h⟩⟩
theorem o_7 {X : (Nat → Int) × Nat} {s : mSt} (x1 : Int) (h : Jq s) : oPq X 129 231 [mI x1] s := c129 (J_BI h) ⟨_, rfl, c231 (J_ok h) ⟨_, rfl, by rw [J_br h], h⟩⟩
theorem o_8 {X : (Nat → Int) × Nat} {s : mSt} (x1 x2 : Int) (h : Jq s) : oPq X 130 232 [mI x1, mI x2] s := c130 (J_BI h) ⟨_, rfl, c232 (J_ok h) ⟨_, rfl, by rw [J_br h], h⟩⟩
theorem o_15 {X : (Nat → Int) × Nat} {s : mSt} (x1 x2 : Int) (h : Jq s) : oPq X 137 261 [mI x1, mI x2] s := c137 (J_BI h) ⟨_, rfl, c261 (J_ok h) ⟨_, rfl, by rw [J_br h], h⟩⟩
theorem o_22 {X : (Nat → Int) × Nat} {s : mSt} (x1 x2 : Int) (h : Jq s) : oPq X 144 272 [mI x1, mI x2] s := c144 (J_BI h) ⟨_, rfl, c272 (J_ok h) ⟨_, rfl, by rw [J_br h], h⟩⟩
theorem o_32 {X : (Nat → Int) × Nat} {s : mSt} (x1 x2 : Int) (h : Jq s) : oPq X 154 292 [mI x1, mI x2] s := c154 (J_BI h) ⟨_, rfl, c292 (J_ok h) ⟨_, rfl, by rw [J_br h], h⟩⟩
theorem o_38 {X : (Nat → Int) × Nat} {s : mSt} (x1 : Int) (h : Jq s) : oPq X 160 306 [mI x1] s := c160 (J_BI h) ⟨_, rfl, c306 (J_ok h) ⟨_, rfl, by rw [J_br h, h.2.2.1.1, h.2.2.2.1.1, h.2.2.2.2.2.1.1, h.2.2.2.2.2.2.1.1, h.2.2.2.1.2.2.1, h.1.1], h⟩⟩
theorem o_16 {X : (Nat → Int) × Nat} {s : mSt} (x1 x2 : Int) (h : Jq s) : oPq X 138 262 [mI x1, mI x2] s := c138 (J_BI h) (fun v t hv => ⟨v, rfl, by
  have q := S_fT hv.2
  have r := S_r q
  have ht := J_scr h q
  refine c262 (J_ok ht) (fun v' u hu => ⟨v', rfl, ?_, J_scr ht (S_fQ hu.2)⟩)
  rw [r.1] at hu
  rw [J_br h] at hv
  exact YN_u hv.1 hu.1⟩)
theorem o_17 {X : (Nat → Int) × Nat} {s : mSt} (x1 : Int) (h : Jq s) : oPq X 139 263 [mI x1] s := c139 (J_BI h) (fun v t hv => ⟨v, rfl, by
  have q := S_fT hv.2
  have r := S_r q
  have ht := J_scr h q
  refine c263 (J_ok ht) (fun v' u hu => ⟨v', rfl, ?_, J_scr ht (S_fQ hu.2)⟩)
  rw [r.1] at hu
  rw [J_br h] at hv
  exact YN_u hv.1 hu.1⟩)
theorem o_18 {X : (Nat → Int) × Nat} {s : mSt} (x1 x2 : Int) (h : Jq s) : oPq X 140 264 [mI x1, mI x2] s := c140 (J_BI h) (fun v t hv => ⟨v, rfl, by
  have q := S_fT hv.2
  have r := S_r q
  have ht := J_scr h q
  refine c264 (J_ok ht) (fun v' u hu => ⟨v', rfl, ?_, J_scr ht (S_fQ hu.2)⟩)
  rw [r.1] at hu
  rw [J_br h] at hv
  exact ckQ_un hv.1 hu.1⟩)
theorem o_19 {X : (Nat → Int) × Nat} {s : mSt} (x1 x2 : Int) (h : Jq s) : oPq X 141 266 [mI x1, mI x2] s := c141 (J_BI h) (fun v t hv => ⟨v, rfl, by
  rw [hv.2]
  refine c266 (J_ok h) (fun v' u hu => ⟨v', rfl, ?_, by rw [hu.2]; exact h⟩)
  rw [J_br h] at hv
  exact YN_u hv.1 hu.1⟩)
theorem o_20 {X : (Nat → Int) × Nat} {s : mSt} (x1 x2 : Int) (h : Jq s) : oPq X 142 269 [mI x1, mI x2] s := c142 ⟨J_BI h, h.2.1.2.2.1⟩ (fun v t hv => ⟨v, rfl, by
  have q := S_fl2 hv.2
  have r := S_r q
  have ht := J_scr h q
  refine c269 (J_ok ht) (fun v' u hu => ⟨v', rfl, ?_, J_scr ht (S_fv2 hu.2)⟩)
  rw [r.1] at hu
  rw [J_br h] at hv
  exact YN_u hv.1 hu.1⟩)
theorem o_21 {X : (Nat → Int) × Nat} {s : mSt} (x1 x2 x3 : Int) (h : Jq s) : oPq X 143 270 [mI x1, mI x2, mI x3] s := c143 ⟨J_BI h, h.2.1.2.2.1⟩ (fun v t hv => ⟨v, rfl, by
  have q := S_fl2 hv.2
  have r := S_r q
  have ht := J_scr h q
  refine c270 (J_ok ht) (fun v' u hu => ⟨v', rfl, ?_, J_scr ht (S_fv2 hu.2)⟩)
  rw [r.1] at hu
  rw [J_br h] at hv
  exact YN_u hv.1 hu.1⟩)
theorem o_23 {X : (Nat → Int) × Nat} {s : mSt} (x1 x2 x3 : Int) (h : Jq s) : oPq X 145 274 [mI x1, mI x2, mI x3] s := c145 (J_BI h) (fun v t hv => ⟨v, rfl, by
  have q := S_f12 hv.2
  have r := S_r q
  have ht := J_scr h q
  refine c274 (J_ok ht) (fun v' u hu => ⟨v', rfl, ?_, J_scr ht (S_f48 hu.2)⟩)
  rw [r.1] at hu
  rw [J_br h] at hv
  exact YN_u hv.1 hu.1⟩)
theorem o_24 {X : (Nat → Int) × Nat} {s : mSt} (x1 x2 : Int) (h : Jq s) : oPq X 146 276 [mI x1, mI x2] s := c146 ⟨J_BI h, by rw [J_br h]; exact (J_99 h).2⟩ (fun v t hv => ⟨v, rfl, by
  rw [hv.2]
  refine c276 (J_ok h) (fun v' u hu => ⟨v', rfl, ?_, by rw [hu.2]; exact h⟩)
  rw [J_br h] at hv
  exact YN_u hv.1 hu.1⟩)
theorem o_25 {X : (Nat → Int) × Nat} {s : mSt} (x1 : Int) (h : Jq s) : oPq X 147 281 [mI x1] s := c147 (J_BI h) (fun v t hv => ⟨v, rfl, by
  have q := S_frB hv.2
  have r := S_r q
  have ht := J_scr h q
  refine c281 (J_ok ht) (fun v' u hu => ⟨v', rfl, ?_, J_scr ht (S_frS hu.2)⟩)
  rw [r.1] at hu
  rw [J_br h] at hv
  exact YN_u hv.1 hu.1⟩)
theorem o_26 {X : (Nat → Int) × Nat} {s : mSt} (x1 x2 : Int) (h : Jq s) : oPq X 148 283 [mI x1, mI x2] s := c148 (J_BI h) (fun v t hv => ⟨v, rfl, by
  have q := S_fW hv.2
  have r := S_r q
  have ht := J_scr h q
  refine c283 (J_ok ht) (fun v' u hu => ⟨v', rfl, ?_, J_scr ht (S_fX hu.2)⟩)
  rw [r.1] at hu
  rw [J_br h] at hv
  exact YN_u hv.1 hu.1⟩)
theorem o_27 {X : (Nat → Int) × Nat} {s : mSt} (x1 x2 : Int) (h : Jq s) : oPq X 149 286 [mI x1, mI x2] s := c149 ⟨J_BI h, (J_FC h).1, (J_FC h).2.1, by rw [J_br h]; exact (J_99 h).1⟩ (fun v t hv => ⟨v, rfl, by
  have q := S_fW hv.2
  have r := S_r q
  have ht := J_scr h q
  refine c286 ⟨J_ok ht, (J_FC ht).2.2.1, (J_99 ht).1⟩ (fun v' u hu => ⟨v', rfl, ?_, J_scr ht (S_fX hu.2)⟩)
  rw [r.1, r.2.2.2.1] at hu
  rw [J_br h, (J_FC h).2.2.2] at hv
  exact YN_u hv.1 hu.1⟩)
theorem o_28 {X : (Nat → Int) × Nat} {s : mSt} (x1 : Int) (h : Jq s) : oPq X 150 287 [mI x1] s := c150 ⟨J_BI h, (J_FC h).1, (J_FC h).2.1, by rw [J_br h]; exact (J_99 h).1⟩ (fun v t hv => ⟨v, rfl, by
  have q := S_fW hv.2
  have r := S_r q
  have ht := J_scr h q
  refine c287 ⟨J_ok ht, (J_FC ht).2.2.1, (J_99 ht).1⟩ (fun v' u hu => ⟨v', rfl, ?_, J_scr ht (S_fX hu.2)⟩)
  rw [r.1, r.2.2.2.1] at hu
  rw [J_br h, (J_FC h).2.2.2] at hv
  exact YN_u hv.1 hu.1⟩)
theorem o_29 {X : (Nat → Int) × Nat} {s : mSt} (x1 x2 : Int) (h : Jq s) : oPq X 151 301 [mI x1, mI x2] s := c151 ⟨(J_TD h).1, (J_FC h).1, (J_FC h).2.1⟩ (fun v t hv => ⟨v, rfl, by
  have q := S_fW hv.2
  have r := S_r q
  have ht := J_scr h q
  refine c301 ⟨J_ok ht, (J_FC ht).2.2.1⟩ (fun v' u hu => ⟨v', rfl, ?_, J_scr ht (S_fX hu.2)⟩)
  rw [r.1, r.2.2.2.1, r.2.2.2.2.2.1] at hu
  rw [J_br h, (J_FC h).2.2.2, (J_TD h).2] at hv
  exact YN_u hv.1 hu.1⟩)
theorem o_30 {X : (Nat → Int) × Nat} {s : mSt} (x1 : Int) (h : Jq s) : oPq X 152 302 [mI x1] s := c152 ⟨(J_TD h).1, (J_FC h).1, (J_FC h).2.1⟩ (fun v t hv => ⟨v, rfl, by
  have q := S_fW hv.2
  have r := S_r q
  have ht := J_scr h q
  refine c302 ⟨J_ok ht, (J_FC ht).2.2.1⟩ (fun v' u hu => ⟨v', rfl, ?_, J_scr ht (S_fX hu.2)⟩)
  rw [r.1, r.2.2.2.1, r.2.2.2.2.2.1] at hu
  rw [J_br h, (J_FC h).2.2.2, (J_TD h).2] at hv
  exact YN_u hv.1 hu.1⟩)
theorem o_31 {X : (Nat → Int) × Nat} {s : mSt} (x1 x2 x3 : Int) (h : Jq s) : oPq X 153 291 [mI x1, mI x2, mI x3] s := c153 (J_BI h) (fun v t hv => ⟨v, rfl, by
  have q := S_fRs hv.2
  have r := S_r q
  have ht := J_scr h q
  refine c291 (J_ok ht) (fun v' u hu => ⟨v', rfl, ?_, J_scr ht (S_fXr hu.2)⟩)
  rw [r.1] at hu
  rw [J_br h] at hv
  exact YN_u hv.1 hu.1⟩)
theorem fit_e {s : mSt} (h : Jq s) {i : Nat} (hi : i < (s 0 4).toNat + 1) : agC s 28 (ruC s (rlI i)) (anew (s 417)) = fitN s i := by
  unfold fitN
  rw [(J_TD h).2, (J_RL h).2.2 i (by omega)]
theorem o_34 {X : (Nat → Int) × Nat} {s : mSt} (x1 : Int) (h : Jq s) : oPq X 156 297 [mI x1] s := c156 ⟨(J_TD h).1, (J_RL h).1⟩ (fun v t hv => ⟨v, rfl, by
  have q := S_fW hv.2
  have r := S_r q
  have ht := J_scr h q
  refine c297 ⟨J_ok ht, (J_RL ht).2.1⟩ (fun v' u hu => ⟨v', rfl, ?_, J_scr ht (S_fY hu.2)⟩)
  rw [r.1, r.2.1, r.2.2.2.2.2.2, ← h.2.2.1.1] at hu
  rw [J_br h] at hv
  have hv1 := hv.1
  unfold rdQ at hv1
  rw [cn_congr (fun i hi => fit_e h hi), fd_congr (fun i hi => fit_e h hi)] at hv1
  exact YN_u hv1 hu.1⟩)
theorem o_35 {X : (Nat → Int) × Nat} {s : mSt} (x1 x2 : Int) (h : Jq s) : oPq X 157 299 [mI x1, mI x2] s := c157 ⟨(J_TD h).1, (J_RL h).1, h.2.1.2.2.2⟩ (fun v t hv => ⟨v, rfl, by
  have q := S_fZ hv.2
  have r := S_r q
  have ht := J_scr h q
  refine c299 ⟨J_ok ht, (J_RL ht).2.1⟩ (fun v' u hu => ⟨v', rfl, ?_, J_scr ht (S_fY hu.2)⟩)
  rw [r.1, r.2.1, r.2.2.2.2.2.2, r.2.2.2.2.1, ← h.2.2.1.1] at hu
  rw [J_br h] at hv
  have hv1 := hv.1
  unfold lkQ at hv1
  rw [lkV_congr (F' := fun i t => fre (stN (ruN s i) (x1.toNat + 1) (anew (s 417))) t) (fun i hi => fit_e h hi) (fun i t hi _ _ => by
    show fre (stN (ruC s (rlI i)) (x1.toNat + 1) (anew (s 417))) t = fre (stN (ruN s i) (x1.toNat + 1) (anew (s 417))) t
    rw [(J_RL h).2.2 i (by omega)])] at hv1
  exact YN_u hv1 hu.1⟩)
theorem o_37 {X : (Nat → Int) × Nat} {s : mSt} (x1 x2 x3 x4 : Int) (h : Jq s) : oPq X 159 305 [mI x1, mI x2, mI x3, mI x4] s := c159 ⟨J_BI h, (J_FC h).1, (J_FC h).2.1, by rw [J_br h]; exact (J_99 h).1, h.2.2.2.1.2.2.2⟩ (fun v t hv => ⟨v, rfl, by
  have q := S_fIl hv.2
  have r := S_r q
  have ht := J_scr h q
  refine c305 ⟨J_ok ht, (J_FC ht).2.2.1, (J_99 ht).1, by rw [r.2.2.1, ← h.2.2.2.1.2.2.1]; exact h.2.2.2.1.2.2.2⟩ (fun v' u hu => ⟨v', rfl, ?_, J_scr ht (S_fXi hu.2)⟩)
  rw [r.1, r.2.2.2.1, r.2.2.1, ← h.2.2.2.1.2.2.1] at hu
  rw [J_br h, (J_FC h).2.2.2] at hv
  exact YN_u hv.1 hu.1⟩)
