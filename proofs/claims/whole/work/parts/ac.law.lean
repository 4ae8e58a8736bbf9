/-! the start, the loop, the claim -/
def zqW : mWr → Nat → Bool
  | [], _ => true
  | (a, _, x, 0) :: t, b => if a = b then decide (x = 0) && zqW t b else zqW t b
  | (a, _, x, 1) :: t, b => if a = b then decide (x = 0) else zqW t b
  | (a, _, _, _ + 2) :: t, b => if b = a then false else if a < b then true else zqW t b
theorem zqW_ok : ∀ (L : mWr) (b : Nat), zqW L b = true → ∀ j, rd L b j = 0
  | [], b, _, j => rfl
  | (a, k, x, 0) :: t, b, h, j => by
    show (if b = a ∧ j = k then x else rd t b j) = 0
    have h' : (if a = b then decide (x = 0) && zqW t b else zqW t b) = true := h
    by_cases z : a = b
    · rw [if_pos z, Bool.and_eq_true, decide_eq_true_eq] at h'
      by_cases y : b = a ∧ j = k
      · rw [if_pos y]; exact h'.1
      · rw [if_neg y]; exact zqW_ok t b h'.2 j
    · rw [if_neg z] at h'
      rw [if_neg (fun y => z y.1.symm)]
      exact zqW_ok t b h' j
  | (a, k, x, 1) :: t, b, h, j => by
    show (if b = a then x else rd t b j) = 0
    have h' : (if a = b then decide (x = 0) else zqW t b) = true := h
    by_cases z : a = b
    · rw [if_pos z, decide_eq_true_eq] at h'
      rw [if_pos z.symm]; exact h'
    · rw [if_neg z] at h'
      rw [if_neg (fun y => z y.symm)]
      exact zqW_ok t b h' j
  | (a, k, x, n + 2) :: t, b, h, j => by
    show (if b = a then (a + 1 + j : Nat) else if a < b then 0 else rd t b j : Int) = 0
    have h' : (if b = a then false else if a < b then true else zqW t b) = true := h
    by_cases z : b = a
    · rw [if_pos z] at h'; exact absurd h' (by decide)
    · rw [if_neg z] at h' ⊢
      by_cases y : a < b
      · rw [if_pos y]
      · rw [if_neg y] at h' ⊢
        exact zqW_ok t b h' j
def bzL : List Nat := [0, 1, 2, 408, 417, 439] ++ (List.range 24).map (fun i => 8 + i)
set_option maxRecDepth 100000 in
theorem bz_d : ∀ b ∈ bzL, zqW bootW b = true := by decide +kernel
theorem bz {b : Nat} (h : b ∈ bzL) : rd bootW b = fun _ => 0 := funext (zqW_ok bootW b (bz_d b h))
set_option maxRecDepth 100000 in
theorem b_lit : (rd bootW 7 3 = -1 ∧ rd bootW 407 21 = -1 ∧ rd bootW 7 4 = 0 ∧ rd bootW 407 22 = 0 ∧ rd bootW 407 1 = 0 ∧ rd bootW 407 2 = 0 ∧ rd bootW 407 37 = 0) ∧ (∀ r : Fin 6, rd bootW 6 r.val = ((83 + 4 * r.val : Nat) : Int)) ∧ (∀ j : Fin 4, rd bootW 32 j.val = ((107 + 25 * j.val : Nat) : Int) ∧ rd bootW (107 + 25 * j.val) 5 = 0) ∧ (∀ w : Fin 2, rd bootW 77 w.val = ((78 + w.val : Nat) : Int)) ∧ (∀ i : Fin 7, rd bootW 68 i.val = ((69 + i.val : Nat) : Int)) := by decide +kernel
set_option maxRecDepth 100000 in
theorem b_past : (∀ i : Fin 20, rd bootW 33 i.val = ((207 + 10 * i.val : Nat) : Int)) := by decide +kernel
theorem Ok_0 : Ok (fun _ => 0) := ⟨fun j hj => (show ∀ j : Fin 166, loA j.val ≤ 0 ∧ 0 ≤ hiA j.val by decide +kernel) ⟨j, hj⟩, fun c hc => absurd hc (show ¬ c < 0 by omega), fun p hp => absurd hp (show ¬ p < 0 by omega)⟩
theorem brow_0 {s : mSt} {k : Nat} (h0 : s k 0 = 0) (h7 : s 417 = fun _ => 0) : brow s k = fun _ => 0 := by
  funext j
  unfold brow
  by_cases z : 82 ≤ j ∧ (j < 117 ∨ 135 ≤ j)
  · rw [if_pos z, h7]
  · rw [if_neg z, if_pos h0]
theorem BI_0 {s : mSt} {k : Nat} (h : ∀ x, k ≤ x → x ≤ k + 9 → s x = fun _ => 0) (h7 : s 417 = fun _ => 0) : BI s k ∧ brow s k = fun _ => 0 := by
  have hk := h k (by omega) (by omega)
  have e := brow_0 (s := s) (k := k) (by rw [hk]) h7
  refine ⟨⟨by rw [e]; exact Ok_0, ?_, fun c _ => ?_, fun c _ => ?_, ?_⟩, e⟩
  · rw [e, hk]
    exact ⟨Int.le_refl 0, (by decide : (0 : Int) < 2 ^ 0)⟩
  · rw [h (k + 8) (by omega) (by omega), hk, bq_0]; rfl
  · rw [h (k + 9) (by omega) (by omega), hk, bq_0]; rfl
  · rw [hk]
    exact ⟨Int.le_refl 0, fun _ => ⟨rfl, rfl, rfl, rfl⟩⟩
theorem J_0 : Jq (rd bootW) := by
  obtain ⟨⟨l1, l2, l3, l4, l5, l6, l7⟩, m1, m2, m3, m4⟩ := b_lit
  have z0 : rd bootW 0 = fun _ => 0 := bz (by decide)
  have z1 : rd bootW 1 = fun _ => 0 := bz (by decide)
  have z2 : rd bootW 2 = fun _ => 0 := bz (by decide)
  have z408 : rd bootW 408 = fun _ => 0 := bz (by decide)
  have z417 : rd bootW 417 = fun _ => 0 := bz (by decide)
  have z439 : rd bootW 439 = fun _ => 0 := bz (by decide)
  have zb : ∀ x, 8 ≤ x → x ≤ 31 → rd bootW x = fun _ => 0 := fun x h1 h2 => bz ((show ∀ i : Fin 24, 8 + i.val ∈ bzL by decide) ⟨x - 8, by omega⟩ |> fun q => by rw [show 8 + (x - 8) = x by omega] at q; exact q)
  have B18 := BI_0 (k := 18) (fun x h1 h2 => zb x (by omega) (by omega)) z417
  have B8 := BI_0 (k := 8) (fun x h1 h2 => zb x (by omega) (by omega)) z417
  have pp : ∀ i, i < 20 → rd bootW 33 i = ((207 + 10 * i : Nat) : Int) := fun i hi => b_past ⟨i, hi⟩
  have n0 : ¬ ∃ i : Nat, i < (0 : Int).toNat := fun ⟨i, hi⟩ => absurd hi (Nat.not_lt_zero i)
  refine ⟨⟨by rw [z1, l5], by rw [z1]; decide, fun i => by rw [z2]; exact (by decide : (0 : Int) ≤ 0 ∧ (0 : Int) ≤ 255), fun i => by rw [z2, z408]; exact (by decide : (0 : Int) = sb 0)⟩, ⟨fun r hr => m1 ⟨r, hr⟩, fun j hj => (m2 ⟨j, hj⟩).1, fun w hw => m3 ⟨w, hw⟩, fun i hi => m4 ⟨i, hi⟩⟩, ⟨by rw [z0, l6], by rw [z0]; decide, fun r hr => ?_⟩, ⟨by rw [l1, l2], by rw [l1, z0]; decide, by rw [l3, l4], by rw [l3]; decide⟩, ⟨by rw [B18.2, z417], B18.1, B8.1, fun z => ?_, by rw [z417]; decide, by rw [z417]; exact Pg_0⟩, ⟨by rw [zb 28 (by omega) (by omega), z417], by rw [zb 28 (by omega) (by omega)]; decide, fun i hi => ?_⟩, ⟨by rw [z0, l7], ⟨by rw [z0]; decide, ⟨fun i hi => ?_, fun i j hi hj hn => ?_⟩, fun i hi => ?_⟩, fun i hi => ?_⟩, fun i hi => ⟨by rw [(m2 ⟨i, hi⟩).2, z439], fun z => ?_⟩⟩
  · rw [z0] at hr
    exact absurd hr (show ¬ (r : Int) < 0 by omega)
  · rw [z417] at z
    exact absurd z (by decide)
  · rw [zb 28 (by omega) (by omega)] at hi
    exact absurd ⟨i, hi⟩ n0
  · rw [pp i hi]; omega
  · rw [pp i hi, pp j hj]; omega
  · rw [z0] at hi
    exact absurd ⟨i, hi⟩ n0
  · rw [z0] at hi
    exact absurd ⟨i, hi⟩ n0
  · rw [z439] at z
    exact absurd rfl z
theorem lw_loop {X : (Nat → Int) × Nat} (hX : X.2 ≤ 3072) (hr : ∀ j, nr32 (X.1 j)) : ∀ (n : Nat) (i : Int) (s : mSt), 0 ≤ i → i ≤ (X.2 : Int) → (X.2 : Int) + 1 - i ≤ (n : Int) → Jq s → Wp X 1400 0 18 [some (mX 0), some (mR 0), some (mR 407), some (mI i)] [] s (fun r _ => r = some (mI 1))
  | 0, i, s, h0, h1, hn, hJ => by omega
  | n + 1, i, s, h0, h1, hn, hJ => by
    have w6 : w32 ((X.2 : Int) - 6) = (X.2 : Int) - 6 := w32_of (by omega)
    refine w0_h (fun _ => rfl) (fun z => by rw [w6] at z; omega) (fun z => ?_)
    rw [w6] at z
    have ak : ∀ k : Int, 0 ≤ k → k ≤ 5 → 0 ≤ w32 (i + k) ∧ w32 (i + k) < (X.2 : Int) := fun k a b => by rw [w32_of (by omega)]; omega
    have a1 := ak 1 (by decide) (by decide)
    have a2 := ak 2 (by decide) (by decide)
    have a3 := ak 3 (by decide) (by decide)
    have a4 := ak 4 (by decide) (by decide)
    have a5 := ak 5 (by decide) (by decide)
    have tail : ∀ u : mSt, Jq u → Wp X 1400 0 1435 [some (mX 0), some (mR 0), some (mR 407), some (mI i)] [] u (fun r _ => r = some (mI 1)) := fun u hu => w0_t (by
      rw [show w32 (i + 6) = i + 6 from w32_of (by omega)]
      exact lw_loop hX hr n (i + 6) u (by omega) (by omega) (by omega) hu)
    have fin : ∀ {mc mr : Nat} {as : List mV}, oPq X mc mr as s → Sp X 1399 mc (mR 0 :: as) s (fun r t => ∃ v : Int, r = some (mI v) ∧ Sp X 1399 mr (mR 407 :: as) t (fun r u => ∃ v' : Int, r = some (mI v') ∧ v = v' ∧ Wp X (1399 + 1) 0 1435 [some (mX 0), some (mR 0), some (mR 407), some (mI i)] [] u (fun r _ => r = some (mI 1)))) := fun h => h.imp (fun r t ⟨v, e, z⟩ => ⟨v, e, z.imp (fun r u ⟨v', e1, e2, hJ⟩ => ⟨v', e1, e2, tail u hJ⟩)⟩)
    show Wp X 1400 0 (lwT (iAnd (X.1 i.toNat) 63)) [some (mX 0), some (mR 0), some (mR 407), some (mI i)] [] s (fun r _ => r = some (mI 1))
    rw [w0_s]
    by_cases hk : 0 ≤ iAnd (X.1 i.toNat) 63 ∧ iAnd (X.1 i.toNat) 63 < 41
    · rw [if_pos hk]
      have hl : (iAnd (X.1 i.toNat) 63).toNat < 41 := by omega
      generalize (iAnd (X.1 i.toNat) 63).toNat = k at hl
      refine sw41 (P := fun k => Wp X 1400 0 (lwP.getD k 1435) [some (mX 0), some (mR 0), some (mR 407), some (mI i)] [] s (fun r _ => r = some (mI 1))) ?_ ?_ ?_ ?_ ?_ ?_ ?_ ?_ ?_ ?_ ?_ ?_ ?_ ?_ ?_ ?_ ?_ ?_ ?_ ?_ ?_ ?_ ?_ ?_ ?_ ?_ ?_ ?_ ?_ ?_ ?_ ?_ ?_ ?_ ?_ ?_ ?_ ?_ ?_ ?_ ?_ k hl
      · exact w0_0 a1 a2 a3 a4 a5 (fin (o_0 _ _ _ _ _ hJ))
      · exact w0_1 a1 (fin (o_1 _ hJ))
      · exact w0_2 (fin (o_2 hJ))
      · exact w0_3 (fin (o_3 hJ))
      · exact w0_4 a1 (fin (o_4 _ hJ))
      · exact w0_5 a1 a2 (fin (o_5 _ _ hJ))
      · exact w0_6 a1 a2 (fin (o_6 _ _ hJ))
      · exact w0_7 a1 (fin (o_7 _ hJ))
      · exact w0_8 a1 a2 (fin (o_8 _ _ hJ))
      · exact w0_9 (fin (o_9 hJ))
      · exact w0_10 a1 (fin (o_10 _ hJ))
      · exact w0_11 a1 (fin (o_11 _ hJ))
      · exact w0_12 a1 a2 (fin (o_12 _ _ hJ))
      · exact w0_13 a1 a2 (fin (o_13 _ _ hJ))
      · exact w0_14 (fin (o_14 hJ))
      · exact w0_15 a1 a2 (fin (o_15 _ _ hJ))
      · exact w0_16 a1 a2 (fin (o_16 _ _ hJ))
      · exact w0_17 a1 (fin (o_17 _ hJ))
      · exact w0_18 a1 a2 (fin (o_18 _ _ hJ))
      · exact w0_19 a1 a2 (fin (o_19 _ _ hJ))
      · exact w0_20 a1 a2 (fin (o_20 _ _ hJ))
      · exact w0_21 a1 a2 a3 (fin (o_21 _ _ _ hJ))
      · exact w0_22 a1 a2 (fin (o_22 _ _ hJ))
      · exact w0_23 a1 a2 a3 (fin (o_23 _ _ _ hJ))
      · exact w0_24 a1 a2 (fin (o_24 _ _ hJ))
      · exact w0_25 a1 (fin (o_25 _ hJ))
      · exact w0_26 a1 a2 (fin (o_26 _ _ hJ))
      · exact w0_27 a1 a2 (fin (o_27 _ _ hJ))
      · exact w0_28 a1 (fin (o_28 _ hJ))
      · exact w0_29 a1 a2 (fin (o_29 _ _ hJ))
      · exact w0_30 a1 (fin (o_30 _ hJ))
      · exact w0_31 a1 a2 a3 (fin (o_31 _ _ _ hJ))
      · exact w0_32 a1 a2 (fin (o_32 _ _ hJ))
      · exact w0_33 a1 a2 a3 (fin (o_33 _ _ _ hJ))
      · exact w0_34 a1 (fin (o_34 _ hJ))
      · exact w0_35 a1 a2 (fin (o_35 _ _ hJ))
      · exact w0_36 a1 (fin (o_36 _ (hr _).2 hJ))
      · exact w0_37 a1 a2 a3 a4 (fin (o_37 _ _ _ _ hJ))
      · exact w0_38 a1 (fin (o_38 _ hJ))
      · exact w0_39 a1 (fin (o_39 _ hJ))
      · exact w0_40 a1 (fin (o_40 _ hJ))
    · rw [if_neg hk]; exact tail s hJ
theorem lawOk : LawOk := lawOk_of (fun X h1 h2 => lw_loop h1 h2 (X.2 + 1) 0 (rd bootW) (by decide) (by omega) (by omega) J_0)
