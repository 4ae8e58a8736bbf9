/-! a Board as a row: what the class holds of a day, in the reference's order -/
def brow (s : mSt) (k : Nat) : Rw := fun j =>
  if 82 ≤ j ∧ (j < 117 ∨ 135 ≤ j) then s 417 j else if s k 0 = 0 then 0 else
  if j = 0 then 1 else if j < 6 then s k (j - 1) else
  if j < 11 then (if (j : Int) - 6 < s k 2 then s (k + 1) (j - 6) else 0) else
  if j < 41 then s (k + 6) (j - 11) else
  if j < 47 then (if bq (s k 5) (j - 41) = true then 0 else 1) else
  if j < 77 then (if bq (s k 5) ((j - 47) / 5) = true ∧ (((j - 47) % 5 : Nat) : Int) < s k 2 then s (k + 7) (j - 47) else -1) else
  if j < 82 then (if (j : Int) - 77 < s k 2 then s (k + 2) (j - 77) else 0) else
  if j < 123 then (if (j : Int) - 117 < s k 3 then s (k + 3) (j - 117) else 0) else
  if j < 129 then (if (j : Int) - 123 < s k 3 then s (k + 4) (j - 123) else 0) else
  (if (j : Int) - 129 < s k 3 then s (k + 5) (j - 129) else 0)
def BI (s : mSt) (k : Nat) : Prop := Ok (brow s k) ∧ (0 ≤ s k 5 ∧ s k 5 < 2 ^ nc (brow s k)) ∧
  (∀ c, c < 6 → s (k + 8) c = if bq (s k 5) c = true then os (sat (brow s k) c) 30 else 0) ∧
  (∀ c, c < 6 → s (k + 9) c = if bq (s k 5) c = true then os (kpt (brow s k) c) 30 else 0) ∧
  (0 ≤ s k 0 ∧ (s k 0 = 0 → s k 1 = 0 ∧ s k 2 = 0 ∧ s k 3 = 0 ∧ s k 4 = 0))
theorem brw_0 {s : mSt} {k : Nat} : brow s k 0 = if s k 0 = 0 then 0 else 1 := by simp [brow]
theorem brw_f {s : mSt} {k j : Nat} (h : 1 ≤ j ∧ j < 6) : brow s k j = if s k 0 = 0 then 0 else s k (j - 1) := by
  unfold brow
  rw [if_neg (by omega), if_neg (show ¬ j = 0 by omega), if_pos h.2]
theorem bi1 {s : mSt} {k : Nat} : s k 0 = brow s k 1 := by
  rw [brw_f (by omega)]; split <;> simp_all
theorem bi2 {s : mSt} {k : Nat} (h : BI s k) : s k 1 = brow s k 2 := by
  have h2 := h.2.2.2.2.2
  rw [brw_f (by omega)]; split
  · next z => exact (h2 z).1
  · rfl
theorem bi3 {s : mSt} {k : Nat} (h : BI s k) : s k 2 = brow s k 3 := by
  have h2 := h.2.2.2.2.2
  rw [brw_f (by omega)]; split
  · next z => exact (h2 z).2.1
  · rfl
theorem bi4 {s : mSt} {k : Nat} (h : BI s k) : s k 3 = brow s k 4 := by
  have h2 := h.2.2.2.2.2
  rw [brw_f (by omega)]; split
  · next z => exact (h2 z).2.2.1
  · rfl
theorem bi5 {s : mSt} {k : Nat} (h : BI s k) : s k 4 = brow s k 5 := by
  have h2 := h.2.2.2.2.2
  rw [brw_f (by omega)]; split
  · next z => exact (h2 z).2.2.2
  · rfl
theorem bi_np {s : mSt} {k : Nat} (h : BI s k) : (np (brow s k) : Int) = s k 2 := by rw [npI h.1, bi3 h]
theorem bi_nc {s : mSt} {k : Nat} (h : BI s k) : (nc (brow s k) : Int) = s k 3 := by rw [ncI h.1, bi4 h]
theorem bi_dp {s : mSt} {k : Nat} (h : BI s k) (hp : 0 < np (brow s k)) : ¬ s k 0 = 0 := fun z => by
  have h1 := bi_np h
  have h2 := (h.2.2.2.2.2 z).2.1
  omega
theorem bi_dc {s : mSt} {k : Nat} (h : BI s k) (hp : 0 < nc (brow s k)) : ¬ s k 0 = 0 := fun z => by
  have h1 := bi_nc h
  have h2 := (h.2.2.2.2.2 z).2.2.1
  omega
theorem biS {s : mSt} {k p : Nat} (h : BI s k) (hp : p < np (brow s k)) : s (k + 1) p = brow s k (6 + p) := by
  have h1 := bi_np h
  have h2 := np_le h.1
  unfold brow
  rw [if_neg (by omega), if_neg (bi_dp h (by omega)), if_neg (by omega), if_neg (by omega), if_pos (by omega), if_pos (by omega), Nat.add_sub_cancel_left]
theorem biL {s : mSt} {k p : Nat} (h : BI s k) (hp : p < np (brow s k)) : s (k + 2) p = brow s k (77 + p) := by
  have h1 := bi_np h
  have h2 := np_le h.1
  unfold brow
  rw [if_neg (by omega), if_neg (bi_dp h (by omega)), if_neg (by omega), if_neg (by omega), if_neg (by omega), if_neg (by omega), if_neg (by omega), if_neg (by omega), if_pos (by omega), if_pos (by omega), Nat.add_sub_cancel_left]
theorem biP {s : mSt} {k c : Nat} (h : BI s k) (hc : c < nc (brow s k)) : s (k + 3) c = brow s k (117 + c) := by
  have h1 := bi_nc h
  have h2 := nc_le h.1
  unfold brow
  rw [if_neg (by omega), if_neg (bi_dc h (by omega)), if_neg (by omega), if_neg (by omega), if_neg (by omega), if_neg (by omega), if_neg (by omega), if_neg (by omega), if_neg (by omega), if_pos (by omega), if_pos (by omega), Nat.add_sub_cancel_left]
theorem biE {s : mSt} {k c : Nat} (h : BI s k) (hc : c < nc (brow s k)) : s (k + 4) c = brow s k (123 + c) := by
  have h1 := bi_nc h
  have h2 := nc_le h.1
  unfold brow
  rw [if_neg (by omega), if_neg (bi_dc h (by omega)), if_neg (by omega), if_neg (by omega), if_neg (by omega), if_neg (by omega), if_neg (by omega), if_neg (by omega), if_neg (by omega), if_neg (by omega), if_pos (by omega), if_pos (by omega), Nat.add_sub_cancel_left]
theorem biR {s : mSt} {k c : Nat} (h : BI s k) (hc : c < nc (brow s k)) : s (k + 5) c = brow s k (129 + c) := by
  have h1 := bi_nc h
  have h2 := nc_le h.1
  unfold brow
  rw [if_neg (by omega), if_neg (bi_dc h (by omega)), if_neg (by omega), if_neg (by omega), if_neg (by omega), if_neg (by omega), if_neg (by omega), if_neg (by omega), if_neg (by omega), if_neg (by omega), if_neg (by omega), if_pos (by omega), Nat.add_sub_cancel_left]
theorem biT {s : mSt} {k t : Nat} (hd : ¬ s k 0 = 0) (ht : t < 30) : s (k + 6) t = brow s k (11 + t) := by
  unfold brow
  rw [if_neg (by omega), if_neg hd, if_neg (by omega), if_neg (by omega), if_neg (by omega), if_pos (by omega), Nat.add_sub_cancel_left]
theorem biW {s : mSt} {k c : Nat} (hd : ¬ s k 0 = 0) (hc : c < 6) : brow s k (41 + c) = if bq (s k 5) c = true then 0 else 1 := by
  unfold brow
  rw [if_neg (by omega), if_neg hd, if_neg (by omega), if_neg (by omega), if_neg (by omega), if_neg (by omega), if_pos (by omega), Nat.add_sub_cancel_left]
theorem bi_pl {s : mSt} {k c : Nat} (h : BI s k) (hc : c < nc (brow s k)) : pl (brow s k) c = bq (s k 5) c := by
  have h2 := nc_le h.1
  unfold pl
  rw [biW (bi_dc h (by omega)) (by omega)]
  cases bq (s k 5) c <;> simp
theorem biB {s : mSt} {k c p : Nat} (h : BI s k) (hc : c < nc (brow s k)) (hp : p < np (brow s k)) (hb : bq (s k 5) c = true) : s (k + 7) (5 * c + p) = bg (brow s k) c p := by
  have h0 := bi_np h
  have h1 := nc_le h.1
  have h2 := np_le h.1
  unfold bg brow
  rw [if_neg (by omega), if_neg (bi_dc h (by omega)), if_neg (by omega), if_neg (by omega), if_neg (by omega), if_neg (by omega), if_neg (by omega), if_pos (by omega)]
  rw [show (47 + 5 * c + p - 47) / 5 = c by omega, show (47 + 5 * c + p - 47) % 5 = p by omega, if_pos ⟨hb, by omega⟩, show 47 + 5 * c + p - 47 = 5 * c + p by omega]
theorem bi_sat {s : mSt} {k c : Nat} (h : BI s k) (hc : c < nc (brow s k)) : s (k + 8) c = if pl (brow s k) c = true then os (sat (brow s k) c) 30 else 0 := by
  rw [bi_pl h hc]; exact h.2.2.1 c (Nat.lt_of_lt_of_le hc (nc_le h.1))
theorem bi_kpt {s : mSt} {k c : Nat} (h : BI s k) (hc : c < nc (brow s k)) : s (k + 9) c = if pl (brow s k) c = true then os (kpt (brow s k) c) 30 else 0 := by
  rw [bi_pl h hc]; exact h.2.2.2.1 c (Nat.lt_of_lt_of_le hc (nc_le h.1))
theorem bi_pln {s : mSt} {k : Nat} (h : BI s k) : s k 5 = os (pl (brow s k)) (nc (brow s k)) := by
  have h2 := nc_le h.1
  rw [os_of (by omega) h.2.1]
  have e := os_of (show nc (brow s k) ≤ 31 by omega) h.2.1
  rw [← e]
  conv => lhs; rw [e]
  exact os_congr (fun i hi => (bi_pl h hi).symm)
theorem satb {s : mSt} {k c t : Nat} (h : BI s k) (hc : c < nc (brow s k)) (ht : t < 30) : bq (s (k + 8) c) t = (pl (brow s k) c && sat (brow s k) c t) := by
  rw [bi_sat h hc]
  cases pl (brow s k) c
  · simp [bq_0]
  · simp [os_bq (n := 30) (by decide), ht]
theorem kptb {s : mSt} {k c t : Nat} (h : BI s k) (hc : c < nc (brow s k)) (ht : t < 30) : bq (s (k + 9) c) t = (pl (brow s k) c && kpt (brow s k) c t) := by
  rw [bi_kpt h hc]
  cases pl (brow s k) c
  · simp [bq_0]
  · simp [os_bq (n := 30) (by decide), ht]
theorem v6 {X : (Nat → Int) × Nat} {d : Nat} {s : mSt} {Q : mQ} {a0 : Nat} (h0 : isBd a0)
  (z1 : (s a0 0) ≤ 0 → Q (some (mI 0)) s)
  (z2 : ¬ (s a0 0) ≤ 0 → Q (some (mI 1)) s) :
  Sp X d 6 [mR a0] s Q := e6 (b6_0 h0 (fun q1 => b6_11 h0 (b6_12 h0 (z1 q1) (Or.inl rfl))) (fun q2 => b6_7 h0 (b6_12 h0 (z2 q2) (Or.inr rfl))))

theorem c6 {X : (Nat → Int) × Nat} {d : Nat} {s : mSt} {Q : mQ} {a0 : Nat} (h0 : isBd a0) (k1 : (0 < s a0 0) → Q (some (mI 1)) s) (k0 : ¬ (0 < s a0 0) → Q (some (mI 0)) s) : Sp X d 6 [mR a0] s Q := v6 h0 (fun h => k0 (by omega)) (fun h => k1 (by omega))
theorem v7 {X : (Nat → Int) × Nat} {d : Nat} {s : mSt} {Q : mQ} {a0 : Nat} {x1 : Int} (h0 : isBd a0)
  (z1 : x1 < 0 → Q (some (mI 0)) s)
  (z2 : ¬ x1 < 0 → (s a0 2) ≤ x1 → Q (some (mI 0)) s)
  (z3 : ¬ x1 < 0 → ¬ (s a0 2) ≤ x1 → Q (some (mI 1)) s) :
  Sp X d 7 [mR a0, mI x1] s Q := e7 (b7_0 h0 (fun q1 => b7_16 h0 (b7_17 h0 (z1 q1) (Or.inl rfl))) (fun q2 => b7_4 h0 (fun q3 => b7_16 h0 (b7_17 h0 (z2 q2 q3) (Or.inl rfl))) (fun q4 => b7_12 h0 (b7_17 h0 (z3 q2 q4) (Or.inr rfl)))))

theorem c7 {X : (Nat → Int) × Nat} {d : Nat} {s : mSt} {Q : mQ} {a0 : Nat} {x1 : Int} (h0 : isBd a0) (k1 : (0 ≤ x1 ∧ x1 < s a0 2) → Q (some (mI 1)) s) (k0 : ¬ (0 ≤ x1 ∧ x1 < s a0 2) → Q (some (mI 0)) s) : Sp X d 7 [mR a0, mI x1] s Q := v7 h0 (fun h => k0 (by omega)) (fun _ h => k0 (by omega)) (fun h h2 => k1 (by omega))
theorem v8 {X : (Nat → Int) × Nat} {d : Nat} {s : mSt} {Q : mQ} {a0 : Nat} {x1 : Int} (h0 : isBd a0)
  (z1 : x1 < 0 → Q (some (mI 0)) s)
  (z2 : ¬ x1 < 0 → (s a0 3) ≤ x1 → Q (some (mI 0)) s)
  (z3 : ¬ x1 < 0 → ¬ (s a0 3) ≤ x1 → Q (some (mI 1)) s) :
  Sp X d 8 [mR a0, mI x1] s Q := e8 (b8_0 h0 (fun q1 => b8_16 h0 (b8_17 h0 (z1 q1) (Or.inl rfl))) (fun q2 => b8_4 h0 (fun q3 => b8_16 h0 (b8_17 h0 (z2 q2 q3) (Or.inl rfl))) (fun q4 => b8_12 h0 (b8_17 h0 (z3 q2 q4) (Or.inr rfl)))))

theorem c8 {X : (Nat → Int) × Nat} {d : Nat} {s : mSt} {Q : mQ} {a0 : Nat} {x1 : Int} (h0 : isBd a0) (k1 : (0 ≤ x1 ∧ x1 < s a0 3) → Q (some (mI 1)) s) (k0 : ¬ (0 ≤ x1 ∧ x1 < s a0 3) → Q (some (mI 0)) s) : Sp X d 8 [mR a0, mI x1] s Q := v8 h0 (fun h => k0 (by omega)) (fun _ h => k0 (by omega)) (fun h h2 => k1 (by omega))
theorem v9 {X : (Nat → Int) × Nat} {d : Nat} {s : mSt} {Q : mQ} {a0 : Nat} {x1 : Int} (h0 : isBd a0)
  (z1 : (0 ≤ x1 ∧ x1 < s a0 3) → ¬ (iAnd (iShr (s a0 5) x1) 1) = 1 → Q (some (mI 0)) s)
  (z2 : (0 ≤ x1 ∧ x1 < s a0 3) → (iAnd (iShr (s a0 5) x1) 1) = 1 → Q (some (mI 1)) s)
  (z3 : (¬ (0 ≤ x1 ∧ x1 < s a0 3)) → Q (some (mI 0)) s) :
  Sp X (d + 1) 9 [mR a0, mI x1] s Q := e9 (b9_0 h0 (c8 h0 (fun q1 => ⟨1, rfl, b9_5 h0 (fun q => absurd q (by decide)) (fun _ => b9_8 h0 (fun q2 => b9_24 h0 (b9_25 h0 (z1 q1 q2) (Or.inl rfl))) (fun q3 => b9_20 h0 (b9_25 h0 (z2 q1 q3) (Or.inr rfl))))⟩) (fun q4 => ⟨0, rfl, b9_5 h0 (fun _ => b9_24 h0 (b9_25 h0 (z3 q4) (Or.inl rfl))) (fun q => absurd q (by decide))⟩)))

theorem c9 {X : (Nat → Int) × Nat} {d : Nat} {s : mSt} {Q : mQ} {a0 : Nat} {x1 : Int} (h0 : isBd a0) (p1 : BI s a0) (k1 : ((0 ≤ x1 ∧ x1 < s a0 3) ∧ pl (brow s a0) x1.toNat = true) → Q (some (mI 1)) s) (k0 : ¬ ((0 ≤ x1 ∧ x1 < s a0 3) ∧ pl (brow s a0) x1.toNat = true) → Q (some (mI 0)) s) : Sp X (d + 1) 9 [mR a0, mI x1] s Q := by
  have h4 := ok4 p1.1
  have h5 := bi4 p1
  have h6 := bi_nc p1
  have e : (0 ≤ x1 ∧ x1 < s a0 3) → (iAnd (iShr (s a0 5) x1) 1 = 1 ↔ pl (brow s a0) x1.toNat = true) := fun h => by
    rw [bt_iff _ (by omega), bi_pl p1 (by omega)]
  exact v9 h0 (fun h q => k0 (fun z => q ((e h).2 z.2))) (fun h q => k1 ⟨h, (e h).1 q⟩) (fun h => k0 (fun z => h z.1))
theorem v10 {X : (Nat → Int) × Nat} {d : Nat} {s : mSt} {Q : mQ} {a0 : Nat} {x1 : Int} (h0 : isBd a0)
  (z1 : (0 ≤ x1 ∧ x1 < s a0 3) → ¬ (iAnd (iShr (s a0 5) x1) 1) = 0 → Q (some (mI 0)) s)
  (z2 : (0 ≤ x1 ∧ x1 < s a0 3) → (iAnd (iShr (s a0 5) x1) 1) = 0 → Q (some (mI 1)) s)
  (z3 : (¬ (0 ≤ x1 ∧ x1 < s a0 3)) → Q (some (mI 0)) s) :
  Sp X (d + 1) 10 [mR a0, mI x1] s Q := e10 (b10_0 h0 (c8 h0 (fun q1 => ⟨1, rfl, b10_5 h0 (fun q => absurd q (by decide)) (fun _ => b10_8 h0 (fun q2 => b10_23 h0 (b10_24 h0 (z1 q1 q2) (Or.inl rfl))) (fun q3 => b10_19 h0 (b10_24 h0 (z2 q1 q3) (Or.inr rfl))))⟩) (fun q4 => ⟨0, rfl, b10_5 h0 (fun _ => b10_23 h0 (b10_24 h0 (z3 q4) (Or.inl rfl))) (fun q => absurd q (by decide))⟩)))

theorem c10 {X : (Nat → Int) × Nat} {d : Nat} {s : mSt} {Q : mQ} {a0 : Nat} {x1 : Int} (h0 : isBd a0) (p1 : BI s a0) (k1 : ((0 ≤ x1 ∧ x1 < s a0 3) ∧ ¬ pl (brow s a0) x1.toNat = true) → Q (some (mI 1)) s) (k0 : ¬ ((0 ≤ x1 ∧ x1 < s a0 3) ∧ ¬ pl (brow s a0) x1.toNat = true) → Q (some (mI 0)) s) : Sp X (d + 1) 10 [mR a0, mI x1] s Q := by
  have h4 := ok4 p1.1
  have h5 := bi4 p1
  have h6 := bi_nc p1
  have e : (0 ≤ x1 ∧ x1 < s a0 3) → (iAnd (iShr (s a0 5) x1) 1 = 0 ↔ ¬ pl (brow s a0) x1.toNat = true) := fun h => by
    rw [bt_iff0 _ (by omega), bi_pl p1 (by omega)]
  exact v10 h0 (fun h q => k0 (fun z => q ((e h).2 z.2))) (fun h q => k1 ⟨h, (e h).1 q⟩) (fun h => k0 (fun z => h z.1))
theorem v11 {X : (Nat → Int) × Nat} {d : Nat} {s : mSt} {Q : mQ} {a0 : Nat} (h0 : isBd a0)
  (z1 : Q (some (mI (iAnd (w32 ((iShl 1 (s a0 3)) - 1)) (iXor (s a0 5) (-1))))) s) :
  Sp X d 11 [mR a0] s Q := e11 (b11_0 h0 z1)

theorem c11 {X : (Nat → Int) × Nat} {d : Nat} {s : mSt} {Q : mQ} {a0 : Nat} (h0 : isBd a0) (p1 : BI s a0) (k : Q (some (mI (wts (brow s a0)))) s) : Sp X d 11 [mR a0] s Q := by
  have h2 := nc_le p1.1
  have h6 := bi_nc p1
  refine v11 h0 ?_
  have e : iAnd (w32 (iShl 1 (s a0 3) - 1)) (iXor (s a0 5) (-1)) = wts (brow s a0) := by
    rw [← h6, shl1 (by omega)]
    have hp : (2:Int) ^ nc (brow s a0) ≤ 2 ^ 6 := by
      have : (2:Nat) ^ nc (brow s a0) ≤ 2 ^ 6 := Nat.pow_le_pow_right (by decide) h2
      exact_mod_cast this
    have hq : (1:Int) ≤ 2 ^ nc (brow s a0) := by
      have : (1:Nat) ≤ 2 ^ nc (brow s a0) := Nat.one_le_two_pow
      exact_mod_cast this
    have h7 := wts_bd p1.1
    rw [w32_of (by omega)]
    apply bq_ext (i3_and _ _) (by unfold i3; omega)
    intro i hi
    rw [bq_and, bq_not]
    unfold wts
    rw [os_bq (by omega)]
    rw [show (2:Int) ^ nc (brow s a0) - 1 = ((2 ^ nc (brow s a0) - 1 : Nat) : Int) from by
      rw [Int.natCast_sub Nat.one_le_two_pow]; simp]
    have hp2 : (2:Nat) ^ nc (brow s a0) ≤ 64 := by exact_mod_cast hp
    rw [bq_nat (by omega), Nat.testBit_two_pow_sub_one]
    by_cases hc : i < nc (brow s a0)
    · rw [bi_pl p1 hc]; simp [hc, hi]
    · simp [hc]
  rw [e]; exact k
theorem v12 {X : (Nat → Int) × Nat} {d : Nat} {s : mSt} {Q : mQ} {a0 : Nat} {x1 : Int} {x2 : Int} (h0 : isBd a0)
  (z1 : 0 ≤ x1 ∧ x1 < 6)
  (z2 : ¬ (iAnd (iShr (s (a0 + 3) x1.toNat) x2) 1) = 1 → Q (some (mI 0)) s)
  (z3 : (iAnd (iShr (s (a0 + 3) x1.toNat) x2) 1) = 1 → Q (some (mI 1)) s) :
  Sp X d 12 [mR a0, mI x1, mI x2] s Q := e12 (b12_0 h0 z1 (fun q1 => b12_18 h0 (b12_19 h0 (z2 q1) (Or.inl rfl))) (fun q2 => b12_14 h0 (b12_19 h0 (z3 q2) (Or.inr rfl))))

theorem c12 {X : (Nat → Int) × Nat} {d : Nat} {s : mSt} {Q : mQ} {a0 : Nat} {x1 : Int} {x2 : Int} (h0 : isBd a0) (p1 : BI s a0 ∧ (0 ≤ x1 ∧ x1 < s a0 3) ∧ (0 ≤ x2 ∧ x2 < 5)) (k1 : (ss (brow s a0) x1.toNat x2.toNat = true) → Q (some (mI 1)) s) (k0 : ¬ (ss (brow s a0) x1.toNat x2.toNat = true) → Q (some (mI 0)) s) : Sp X d 12 [mR a0, mI x1, mI x2] s Q := by
  obtain ⟨h, h1, h2⟩ := p1
  have h3 := nc_le h.1
  have h6 := bi_nc h
  have e : iAnd (iShr (s (a0 + 3) x1.toNat) x2) 1 = 1 ↔ ss (brow s a0) x1.toNat x2.toNat = true := by
    rw [bt_iff _ (by omega), biP h (by omega)]; rfl
  exact v12 h0 (by omega) (fun q => k0 (fun z => q (e.2 z))) (fun q => k1 (e.1 q))
theorem v13 {X : (Nat → Int) × Nat} {d : Nat} {s : mSt} {Q : mQ} {a0 : Nat} {x1 : Int} (h0 : isBd a0)
  (I4 : Int → Int → Prop) (m4 : Int → Int → Nat)
  (z1 : ∀ y2 : Int, ∀ y3 : Int, I4 y2 y3 → (s a0 3) ≤ y3 → Q (some (mI y2)) s)
  (z2 : ∀ y2 : Int, ∀ y3 : Int, I4 y2 y3 → ¬ (s a0 3) ≤ y3 → BI s a0 ∧ (0 ≤ y3 ∧ y3 < s a0 3) ∧ (0 ≤ x1 ∧ x1 < 5))
  (z3 : ∀ y2 : Int, ∀ y3 : Int, I4 y2 y3 → ¬ (s a0 3) ≤ y3 → ss (brow s a0) y3.toNat x1.toNat = true → I4 (iOr y2 (iShl 1 y3)) (w32 (y3 + 1)) ∧ m4 (iOr y2 (iShl 1 y3)) (w32 (y3 + 1)) < m4 y2 y3)
  (z4 : ∀ y2 : Int, ∀ y3 : Int, I4 y2 y3 → ¬ (s a0 3) ≤ y3 → ¬ (ss (brow s a0) y3.toNat x1.toNat = true) → I4 y2 (w32 (y3 + 1)) ∧ m4 y2 (w32 (y3 + 1)) < m4 y2 y3)
  (z5 : I4 0 0) :
  Sp X (d + 1) 13 [mR a0, mI x1] s Q := by
  have L : ∀ k : Nat, (∀ (y2 : Int) (y3 : Int), I4 y2 y3 → m4 y2 y3 < k → Wp X (d + 1) 13 4 [some (mR a0), some (mI x1), some (mI y2), some (mI y3)] [] s Q) := by
    intro k
    induction k with
    | zero => exact fun _ _ _ h => absurd h (Nat.not_lt_zero _)
    | succ k ih => exact fun y2 y3 hI hm => b13_4 h0 (fun q1 => b13_33 h0 (z1 y2 y3 hI q1)) (fun q2 => b13_12 h0 (c12 h0 (z2 y2 y3 hI q2) (fun q3 => ⟨1, rfl, b13_18 h0 (fun q => absurd q (by decide)) (fun _ => b13_21 h0 (b13_27 h0 (ih (iOr y2 (iShl 1 y3)) (w32 (y3 + 1)) (z3 y2 y3 hI q2 q3).1 (Nat.lt_of_lt_of_le (z3 y2 y3 hI q2 q3).2 (Nat.le_of_lt_succ hm)))))⟩) (fun q4 => ⟨0, rfl, b13_18 h0 (fun _ => b13_27 h0 (ih y2 (w32 (y3 + 1)) (z4 y2 y3 hI q2 q4).1 (Nat.lt_of_lt_of_le (z4 y2 y3 hI q2 q4).2 (Nat.le_of_lt_succ hm)))) (fun q => absurd q (by decide))⟩)))
  exact e13 (b13_0 h0 ((L (m4 0 0 + 1)) 0 0 z5 (Nat.lt_succ_self _)))

theorem c13 {X : (Nat → Int) × Nat} {d : Nat} {s : mSt} {Q : mQ} {a0 : Nat} {x1 : Int} (h0 : isBd a0) (p1 : BI s a0 ∧ (0 ≤ x1 ∧ x1 < 5)) (k : Q (some (mI (os (fun c => ss (brow s a0) c x1.toNat) (nc (brow s a0))))) s) : Sp X (d + 1) 13 [mR a0, mI x1] s Q := by
  obtain ⟨h, h1⟩ := p1
  have h5 := nc_le h.1
  have h6 := bi_nc h
  refine v13 h0 (fun y2 y3 => ∃ j : Nat, y3 = j ∧ j ≤ nc (brow s a0) ∧ y2 = os (fun c => ss (brow s a0) c x1.toNat) j) (fun _ y => (6 - y).toNat) ?_ ?_ ?_ ?_ ?_
  · rintro _ _ ⟨j, rfl, hj, rfl⟩ hc
    have : j = nc (brow s a0) := by omega
    subst this
    exact k
  · rintro _ _ ⟨j, rfl, hj, rfl⟩ hc
    exact ⟨h, by omega, h1⟩
  · rintro _ _ ⟨j, rfl, hj, rfl⟩ hc q
    rw [tnc] at q
    rw [w32_of (by omega), shl1 (by omega), or_os (by omega)]
    refine ⟨⟨j + 1, by omega, by omega, ?_⟩, by omega⟩
    rw [os_s, if_pos q]
  · rintro _ _ ⟨j, rfl, hj, rfl⟩ hc q
    rw [tnc] at q
    rw [w32_of (by omega)]
    refine ⟨⟨j + 1, by omega, by omega, ?_⟩, by omega⟩
    rw [os_s, if_neg q, Int.add_zero]
  · exact ⟨0, rfl, by omega, rfl⟩
theorem v14 {X : (Nat → Int) × Nat} {d : Nat} {s : mSt} {Q : mQ} {a0 : Nat} {x1 : Int} {x2 : Int} (h0 : isBd a0)
  (z1 : 0 ≤ x2 ∧ x2 < 5)
  (z2 : 0 ≤ x1 ∧ x1 < 6)
  (z3 : Q (some (mI (w32 (Int.tdiv (w32 ((w32 ((s (a0 + 2) x2.toNat) * (w32 (100 + (s (a0 + 4) x1.toNat))))) + 99)) 100)))) s) :
  Sp X d 14 [mR a0, mI x1, mI x2] s Q := e14 (b14_0 h0 z1 z2 z3)

theorem c14 {X : (Nat → Int) × Nat} {d : Nat} {s : mSt} {Q : mQ} {a0 : Nat} {x1 : Int} {x2 : Int} (h0 : isBd a0) (p1 : BI s a0 ∧ (0 ≤ x1 ∧ x1 < s a0 3) ∧ (0 ≤ x2 ∧ x2 < s a0 2)) (k : Q (some (mI (tm (brow s a0) x1.toNat x2.toNat))) s) : Sp X d 14 [mR a0, mI x1, mI x2] s Q := by
  obtain ⟨h, h1, h2⟩ := p1
  have h5 := nc_le h.1
  have h6 := bi_nc h
  have h7 := np_le h.1
  have h8 := bi_np h
  have b1 := tm_raw h.1 (c := x1.toNat) (p := x2.toNat) (by omega) (by omega)
  have b2 := okE h.1 (p := x1.toNat) (by omega)
  refine v14 h0 (by omega) (by omega) ?_
  rw [biL h (by omega), biE h (by omega), w32_of (x := 100 + brow s a0 (123 + x1.toNat)) (by omega)]
  have e4 : ∀ y : Int, 0 ≤ y → y ≤ 1200 → w32 (Int.tdiv (w32 (w32 y + 99)) 100) = (y + 99) / 100 := fun y l u => by
    rw [w32_of (x := y) (by omega), w32_of (x := y + 99) (by omega), Int.tdiv_eq_ediv_of_nonneg (by omega), w32_of (by omega)]
  rw [e4 _ b1.1 b1.2]
  exact k
theorem v15 {X : (Nat → Int) × Nat} {d : Nat} {s : mSt} {Q : mQ} {a0 : Nat} {x1 : Int} (h0 : isBd a0)
  (I4 : Int → Int → Prop) (m4 : Int → Int → Nat)
  (z1 : ∀ y2 : Int, ∀ y3 : Int, I4 y2 y3 → (s a0 2) ≤ y3 → Q (some (mI y2)) s)
  (z2 : ∀ y2 : Int, ∀ y3 : Int, I4 y2 y3 → ¬ (s a0 2) ≤ y3 → BI s a0 ∧ (0 ≤ x1 ∧ x1 < s a0 3) ∧ (0 ≤ y3 ∧ y3 < 5))
  (z3 : ∀ y2 : Int, ∀ y3 : Int, I4 y2 y3 → ¬ (s a0 2) ≤ y3 → ss (brow s a0) x1.toNat y3.toNat = true → BI s a0 ∧ (0 ≤ x1 ∧ x1 < s a0 3) ∧ (0 ≤ y3 ∧ y3 < s a0 2))
  (z4 : ∀ y2 : Int, ∀ y3 : Int, I4 y2 y3 → ¬ (s a0 2) ≤ y3 → ss (brow s a0) x1.toNat y3.toNat = true → I4 (w32 (y2 + (tm (brow s a0) x1.toNat y3.toNat))) (w32 (y3 + 1)) ∧ m4 (w32 (y2 + (tm (brow s a0) x1.toNat y3.toNat))) (w32 (y3 + 1)) < m4 y2 y3)
  (z5 : ∀ y2 : Int, ∀ y3 : Int, I4 y2 y3 → ¬ (s a0 2) ≤ y3 → ¬ (ss (brow s a0) x1.toNat y3.toNat = true) → I4 y2 (w32 (y3 + 1)) ∧ m4 y2 (w32 (y3 + 1)) < m4 y2 y3)
  (z6 : I4 0 0) :
  Sp X (d + 1) 15 [mR a0, mI x1] s Q := by
  have L : ∀ k : Nat, (∀ (y2 : Int) (y3 : Int), I4 y2 y3 → m4 y2 y3 < k → Wp X (d + 1) 15 4 [some (mR a0), some (mI x1), some (mI y2), some (mI y3)] [] s Q) := by
    intro k
    induction k with
    | zero => exact fun _ _ _ h => absurd h (Nat.not_lt_zero _)
    | succ k ih => exact fun y2 y3 hI hm => b15_4 h0 (fun q1 => b15_36 h0 (z1 y2 y3 hI q1)) (fun q2 => b15_12 h0 (c12 h0 (z2 y2 y3 hI q2) (fun q3 => ⟨1, rfl, b15_18 h0 (fun q => absurd q (by decide)) (fun _ => b15_21 h0 (c14 h0 (z3 y2 y3 hI q2 q3) ⟨_, rfl, b15_28 h0 (b15_30 h0 (ih (w32 (y2 + (tm (brow s a0) x1.toNat y3.toNat))) (w32 (y3 + 1)) (z4 y2 y3 hI q2 q3).1 (Nat.lt_of_lt_of_le (z4 y2 y3 hI q2 q3).2 (Nat.le_of_lt_succ hm))))⟩))⟩) (fun q4 => ⟨0, rfl, b15_18 h0 (fun _ => b15_30 h0 (ih y2 (w32 (y3 + 1)) (z5 y2 y3 hI q2 q4).1 (Nat.lt_of_lt_of_le (z5 y2 y3 hI q2 q4).2 (Nat.le_of_lt_succ hm)))) (fun q => absurd q (by decide))⟩)))
  exact e15 (b15_0 h0 ((L (m4 0 0 + 1)) 0 0 z6 (Nat.lt_succ_self _)))

theorem c15 {X : (Nat → Int) × Nat} {d : Nat} {s : mSt} {Q : mQ} {a0 : Nat} {x1 : Int} (h0 : isBd a0) (p1 : BI s a0 ∧ (0 ≤ x1 ∧ x1 < s a0 3)) (k : Q (some (mI (wrk (brow s a0) x1.toNat))) s) : Sp X (d + 1) 15 [mR a0, mI x1] s Q := by
  obtain ⟨h, h1⟩ := p1
  have h3 := bi_np h
  have h5 := np_le h.1
  have h7 := bi_nc h
  have h8 := nc_le h.1
  have hb : ∀ j : Nat, j ≤ np (brow s a0) → 0 ≤ sm (fun p => if ss (brow s a0) x1.toNat p = true then tm (brow s a0) x1.toNat p else 0) j ∧ sm (fun p => if ss (brow s a0) x1.toNat p = true then tm (brow s a0) x1.toNat p else 0) j ≤ 60 := fun j hj => by
    have := sm_bd (f := fun p => if ss (brow s a0) x1.toNat p = true then tm (brow s a0) x1.toNat p else 0) (b := 12) (n := j) (fun i hi => by
      have := tm_bd h.1 (c := x1.toNat) (p := i) (by omega) (by omega)
      try dsimp only
      split <;> omega)
    omega
  refine v15 h0 (fun y2 y3 => ∃ j : Nat, y3 = j ∧ j ≤ np (brow s a0) ∧ y2 = sm (fun p => if ss (brow s a0) x1.toNat p = true then tm (brow s a0) x1.toNat p else 0) j) (fun _ y3 => (5 - y3).toNat) ?_ ?_ ?_ ?_ ?_ ?_
  · rintro _ _ ⟨j, rfl, hj, rfl⟩ hc
    have : j = np (brow s a0) := by omega
    subst this
    exact k
  · rintro _ _ ⟨j, rfl, hj, rfl⟩ hc
    exact ⟨h, h1, by omega⟩
  · rintro _ _ ⟨j, rfl, hj, rfl⟩ hc _
    exact ⟨h, h1, by omega⟩
  · rintro _ _ ⟨j, rfl, hj, rfl⟩ hc q
    rw [tnc] at q ⊢
    have b1 := hb j hj
    have b2 := tm_bd h.1 (c := x1.toNat) (p := j) (by omega) (by omega)
    rw [w32_of (by omega), w32_of (by omega)]
    refine ⟨⟨j + 1, by omega, by omega, ?_⟩, by omega⟩
    rw [sm_s, if_pos q]
  · rintro _ _ ⟨j, rfl, hj, rfl⟩ hc q
    rw [tnc] at q
    rw [w32_of (by omega)]
    refine ⟨⟨j + 1, by omega, by omega, ?_⟩, by omega⟩
    rw [sm_s, if_neg q, Int.add_zero]
  · exact ⟨0, rfl, by omega, rfl⟩
theorem v16 {X : (Nat → Int) × Nat} {d : Nat} {s : mSt} {Q : mQ} {a0 : Nat} {x1 : Int} {x2 : Int} (h0 : isBd a0)
  (z1 : 0 ≤ (w32 ((w32 (x1 * 5)) + x2)) ∧ (w32 ((w32 (x1 * 5)) + x2)) < 30)
  (z2 : Q (some (mI (s (a0 + 7) (w32 ((w32 (x1 * 5)) + x2)).toNat))) s) :
  Sp X d 16 [mR a0, mI x1, mI x2] s Q := e16 (b16_0 h0 z1 z2)

theorem c16 {X : (Nat → Int) × Nat} {d : Nat} {s : mSt} {Q : mQ} {a0 : Nat} {x1 : Int} {x2 : Int} (h0 : isBd a0) (p1 : BI s a0 ∧ (0 ≤ x1 ∧ x1 < s a0 3) ∧ (0 ≤ x2 ∧ x2 < s a0 2) ∧ pl (brow s a0) x1.toNat = true) (k : Q (some (mI (bg (brow s a0) x1.toNat x2.toNat))) s) : Sp X d 16 [mR a0, mI x1, mI x2] s Q := by
  obtain ⟨h, h1, h2, h4⟩ := p1
  have h3 := bi_np h
  have h5 := np_le h.1
  have h7 := bi_nc h
  have h8 := nc_le h.1
  have e1 : w32 (x1 * 5) = x1 * 5 := w32_of (by omega)
  have e : (w32 (x1 * 5 + x2)).toNat = 5 * x1.toNat + x2.toNat := wt (by omega) (by omega)
  rw [bi_pl h (by omega)] at h4
  refine v16 h0 ?_ ?_
  · rw [e1, w32_of (by omega)]; omega
  · rw [e1, e, biB h (by omega) (by omega) h4]; exact k
theorem v17 {X : (Nat → Int) × Nat} {d : Nat} {s : mSt} {Q : mQ} {a0 : Nat} {x1 : Int} (h0 : isBd a0)
  (I14 : Int → Int → Prop) (m14 : Int → Int → Nat)
  (z1 : ∀ y2 : Int, ∀ y3 : Int, I14 y2 y3 → (s a0 3) ≤ y3 → Q (some (mI (iMax y2 0))) s)
  (z2 : ∀ y2 : Int, ∀ y3 : Int, I14 y2 y3 → ¬ (s a0 3) ≤ y3 → 0 ≤ y3 ∧ y3 < 6)
  (z3 : ∀ y2 : Int, ∀ y3 : Int, I14 y2 y3 → ¬ (s a0 3) ≤ y3 → I14 (w32 (y2 - (iAnd (iShr (s (a0 + 8) y3.toNat) x1) 1))) (w32 (y3 + 1)) ∧ m14 (w32 (y2 - (iAnd (iShr (s (a0 + 8) y3.toNat) x1) 1))) (w32 (y3 + 1)) < m14 y2 y3)
  (z4 : 0 ≤ x1 ∧ x1 < 30)
  (z5 : I14 (w32 ((s a0 0) - (s (a0 + 6) x1.toNat))) 0) :
  Sp X (d + 1) 17 [mR a0, mI x1] s Q := by
  have L : ∀ k : Nat, (∀ (y2 : Int) (y3 : Int), I14 y2 y3 → m14 y2 y3 < k → Wp X (d + 1) 17 14 [some (mR a0), some (mI x1), some (mI y2), some (mI y3)] [] s Q) := by
    intro k
    induction k with
    | zero => exact fun _ _ _ h => absurd h (Nat.not_lt_zero _)
    | succ k ih => exact fun y2 y3 hI hm => b17_14 h0 (fun q1 => b17_41 h0 (z1 y2 y3 hI q1)) (fun q2 => b17_22 h0 (z2 y2 y3 hI q2) (ih (w32 (y2 - (iAnd (iShr (s (a0 + 8) y3.toNat) x1) 1))) (w32 (y3 + 1)) (z3 y2 y3 hI q2).1 (Nat.lt_of_lt_of_le (z3 y2 y3 hI q2).2 (Nat.le_of_lt_succ hm))))
  exact e17 (b17_0 h0 z4 ((L (m14 (w32 ((s a0 0) - (s (a0 + 6) x1.toNat))) 0 + 1)) (w32 ((s a0 0) - (s (a0 + 6) x1.toNat))) 0 z5 (Nat.lt_succ_self _)))

theorem c17 {X : (Nat → Int) × Nat} {d : Nat} {s : mSt} {Q : mQ} {a0 : Nat} {x1 : Int} (h0 : isBd a0) (p1 : BI s a0 ∧ ¬ s a0 0 = 0 ∧ (0 ≤ x1 ∧ x1 < 30)) (k : Q (some (mI (fre (brow s a0) x1.toNat))) s) : Sp X (d + 1) 17 [mR a0, mI x1] s Q := by
  obtain ⟨h, hd, h2⟩ := p1
  have h3 := bi_nc h
  have h5 := nc_le h.1
  have b1 := ok1 h.1
  have b2 := okT h.1 (p := x1.toNat) (by omega)
  have e1 := biT hd (t := x1.toNat) (by omega)
  have e0 := bi1 (s := s) (k := a0)
  have e2 : w32 (s a0 0 - s (a0 + 6) x1.toNat) = brow s a0 1 - brow s a0 (11 + x1.toNat) := by rw [e0, e1, w32_of (by omega)]
  refine v17 h0 (fun y2 y3 => ∃ j : Nat, y3 = j ∧ j ≤ nc (brow s a0) ∧ y2 = brow s a0 1 - brow s a0 (11 + x1.toNat) - cn (fun c => pl (brow s a0) c && sat (brow s a0) c x1.toNat) j) (fun _ y3 => (6 - y3).toNat) ?_ ?_ ?_ ?_ ?_
  · rintro _ _ ⟨j, rfl, hj, rfl⟩ hc
    have : j = nc (brow s a0) := by omega
    subst this
    unfold fre fr0 at k
    exact k
  · rintro _ _ ⟨j, rfl, hj, rfl⟩ hc
    omega
  · rintro _ _ ⟨j, rfl, hj, rfl⟩ hc
    have b := cn_le (f := fun c => pl (brow s a0) c && sat (brow s a0) c x1.toNat) (n := j)
    rw [tnc, and1_bt _ (by omega), satb h (by omega) (by omega)]
    have b3 : ∀ q : Prop, [Decidable q] → (0:Int) ≤ (if q then 1 else 0) ∧ (if q then (1:Int) else 0) ≤ 1 := fun q _ => by split <;> omega
    have b4 := b3 ((pl (brow s a0) j && sat (brow s a0) j x1.toNat) = true)
    rw [w32_of (by omega), w32_of (by omega)]
    refine ⟨⟨j + 1, by omega, by omega, ?_⟩, by omega⟩
    rw [cn_s]
    omega
  · exact h2
  · refine ⟨0, rfl, by omega, ?_⟩
    rw [e2]
    simp [cn]
theorem v18 {X : (Nat → Int) × Nat} {d : Nat} {s : mSt} {Q : mQ} {a0 : Nat} (h0 : isBd a0)
  (I4 : Int → Int → Prop) (m4 : Int → Int → Nat)
  (I25 : Int → Int → Int → Int → Prop) (m25 : Int → Int → Int → Int → Nat)
  (z1 : ∀ y1 : Int, ∀ y2 : Int, I4 y1 y2 → 30 ≤ y2 → Q (some (mI y1)) s)
  (z2 : ∀ y1 : Int, ∀ y2 : Int, I4 y1 y2 → ¬ 30 ≤ y2 → 0 ≤ y2 ∧ y2 < 30)
  (z3 : ∀ y1 : Int, ∀ y2 : Int, I4 y1 y2 → ¬ 30 ≤ y2 → I25 y1 y2 (w32 ((s a0 0) - (s (a0 + 6) y2.toNat))) 0 ∧ m25 y1 y2 (w32 ((s a0 0) - (s (a0 + 6) y2.toNat))) 0 < m4 y1 y2)
  (z4 : ∀ y1 : Int, ∀ y2 : Int, ∀ y3 : Int, ∀ y4 : Int, I25 y1 y2 y3 y4 → (s a0 3) ≤ y4 → y3 ≤ 0 → I4 y1 (w32 (y2 + 1)) ∧ m4 y1 (w32 (y2 + 1)) < m25 y1 y2 y3 y4)
  (z5 : ∀ y1 : Int, ∀ y2 : Int, ∀ y3 : Int, ∀ y4 : Int, I25 y1 y2 y3 y4 → (s a0 3) ≤ y4 → ¬ y3 ≤ 0 → I4 (iOr y1 (iShl 1 y2)) (w32 (y2 + 1)) ∧ m4 (iOr y1 (iShl 1 y2)) (w32 (y2 + 1)) < m25 y1 y2 y3 y4)
  (z6 : ∀ y1 : Int, ∀ y2 : Int, ∀ y3 : Int, ∀ y4 : Int, I25 y1 y2 y3 y4 → ¬ (s a0 3) ≤ y4 → 0 ≤ y4 ∧ y4 < 6)
  (z7 : ∀ y1 : Int, ∀ y2 : Int, ∀ y3 : Int, ∀ y4 : Int, I25 y1 y2 y3 y4 → ¬ (s a0 3) ≤ y4 → I25 y1 y2 (w32 (y3 - (iAnd (iShr (s (a0 + 8) y4.toNat) y2) 1))) (w32 (y4 + 1)) ∧ m25 y1 y2 (w32 (y3 - (iAnd (iShr (s (a0 + 8) y4.toNat) y2) 1))) (w32 (y4 + 1)) < m25 y1 y2 y3 y4)
  (z8 : I4 0 0) :
  Sp X d 18 [mR a0] s Q := by
  have L : ∀ k : Nat, (∀ (y1 : Int) (y2 : Int) (l3 : Option mV) (l4 : Option mV), I4 y1 y2 → m4 y1 y2 < k → Wp X d 18 4 [some (mR a0), some (mI y1), some (mI y2), l3, l4] [] s Q) ∧ (∀ (y1 : Int) (y2 : Int) (y3 : Int) (y4 : Int), I25 y1 y2 y3 y4 → m25 y1 y2 y3 y4 < k → Wp X d 18 25 [some (mR a0), some (mI y1), some (mI y2), some (mI y3), some (mI y4)] [] s Q) := by
    intro k
    induction k with
    | zero => exact ⟨fun _ _ _ _ _ h => absurd h (Nat.not_lt_zero _), fun _ _ _ _ _ h => absurd h (Nat.not_lt_zero _)⟩
    | succ k ih => exact ⟨fun y1 y2 l3 l4 hI hm => b18_4 h0 (fun q1 => b18_70 h0 (z1 y1 y2 hI q1)) (fun q2 => b18_10 h0 (z2 y1 y2 hI q2) (ih.2 y1 y2 (w32 ((s a0 0) - (s (a0 + 6) y2.toNat))) 0 (z3 y1 y2 hI q2).1 (Nat.lt_of_lt_of_le (z3 y1 y2 hI q2).2 (Nat.le_of_lt_succ hm)))), fun y1 y2 y3 y4 hI hm => b18_25 h0 (fun q3 => b18_54 h0 (fun q4 => b18_64 h0 (ih.1 y1 (w32 (y2 + 1)) (some (mI y3)) (some (mI y4)) (z4 y1 y2 y3 y4 hI q3 q4).1 (Nat.lt_of_lt_of_le (z4 y1 y2 y3 y4 hI q3 q4).2 (Nat.le_of_lt_succ hm)))) (fun q5 => b18_58 h0 (b18_64 h0 (ih.1 (iOr y1 (iShl 1 y2)) (w32 (y2 + 1)) (some (mI y3)) (some (mI y4)) (z5 y1 y2 y3 y4 hI q3 q5).1 (Nat.lt_of_lt_of_le (z5 y1 y2 y3 y4 hI q3 q5).2 (Nat.le_of_lt_succ hm)))))) (fun q6 => b18_34 h0 (z6 y1 y2 y3 y4 hI q6) (ih.2 y1 y2 (w32 (y3 - (iAnd (iShr (s (a0 + 8) y4.toNat) y2) 1))) (w32 (y4 + 1)) (z7 y1 y2 y3 y4 hI q6).1 (Nat.lt_of_lt_of_le (z7 y1 y2 y3 y4 hI q6).2 (Nat.le_of_lt_succ hm))))⟩
  exact e18 (b18_0 h0 ((L (m4 0 0 + 1)).1 0 0 none none z8 (Nat.lt_succ_self _)))

theorem c18 {X : (Nat → Int) × Nat} {d : Nat} {s : mSt} {Q : mQ} {a0 : Nat} (h0 : isBd a0) (p1 : BI s a0 ∧ ¬ s a0 0 = 0) (k : Q (some (mI (os (fun t => decide (0 < fre (brow s a0) t)) 30))) s) : Sp X d 18 [mR a0] s Q := by
  obtain ⟨h, hd⟩ := p1
  have h3 := bi_nc h
  have h5 := nc_le h.1
  have b1 := ok1 h.1
  have e0 := bi1 (s := s) (k := a0)
  have hf : ∀ t, (0 < fre (brow s a0) t) = (0 < fr0 (brow s a0) t) := fun t => by
    unfold fre; split <;> (apply propext; omega)
  refine v18 h0 (fun y1 y2 => ∃ j : Nat, y2 = j ∧ j ≤ 30 ∧ y1 = os (fun t => decide (0 < fre (brow s a0) t)) j) (fun _ y => ((31 - y) * 10).toNat)
    (fun y1 y2 y3 y4 => ∃ j i : Nat, y2 = j ∧ j < 30 ∧ y1 = os (fun t => decide (0 < fre (brow s a0) t)) j ∧ y4 = i ∧ i ≤ nc (brow s a0) ∧ y3 = brow s a0 1 - brow s a0 (11 + j) - cn (fun c => pl (brow s a0) c && sat (brow s a0) c j) i) (fun _ y _ z => ((30 - y) * 10 + (8 - z)).toNat) ?_ ?_ ?_ ?_ ?_ ?_ ?_ ?_
  · rintro _ _ ⟨j, rfl, hj, rfl⟩ hc
    have : j = 30 := by omega
    subst this
    exact k
  · rintro _ _ ⟨j, rfl, hj, rfl⟩ hc
    omega
  · rintro _ _ ⟨j, rfl, hj, rfl⟩ hc
    have b2 := okT h.1 (p := j) (by omega)
    rw [tnc, biT hd (by omega), e0, w32_of (by omega)]
    exact ⟨⟨j, 0, rfl, by omega, rfl, rfl, by omega, by simp [cn]⟩, by omega⟩
  · rintro _ _ _ _ ⟨j, i, rfl, hj, rfl, rfl, hi, rfl⟩ hc q
    have : i = nc (brow s a0) := by omega
    subst this
    rw [w32_of (by omega)]
    refine ⟨⟨j + 1, by omega, by omega, ?_⟩, by omega⟩
    rw [os_s, if_neg (by rw [decide_eq_true_iff, hf]; unfold fr0; omega), Int.add_zero]
  · rintro _ _ _ _ ⟨j, i, rfl, hj, rfl, rfl, hi, rfl⟩ hc q
    have : i = nc (brow s a0) := by omega
    subst this
    rw [w32_of (by omega), shl1 (by omega), or_os (by omega)]
    refine ⟨⟨j + 1, by omega, by omega, ?_⟩, by omega⟩
    rw [os_s, if_pos (by rw [decide_eq_true_iff, hf]; unfold fr0; omega)]
  · rintro _ _ _ _ ⟨j, i, rfl, hj, rfl, rfl, hi, rfl⟩ hc
    omega
  · rintro _ _ _ _ ⟨j, i, rfl, hj, rfl, rfl, hi, rfl⟩ hc
    have b2 := okT h.1 (p := j) (by omega)
    have b := cn_le (f := fun c => pl (brow s a0) c && sat (brow s a0) c j) (n := i)
    rw [tnc, and1_bt _ (by omega), tnc, satb h (by omega) (by omega)]
    have b3 : ∀ q : Prop, [Decidable q] → (0:Int) ≤ (if q then 1 else 0) ∧ (if q then (1:Int) else 0) ≤ 1 := fun q _ => by split <;> omega
    have b4 := b3 ((pl (brow s a0) i && sat (brow s a0) i j) = true)
    rw [w32_of (by omega), w32_of (by omega)]
    refine ⟨⟨j, i + 1, rfl, hj, rfl, by omega, by omega, ?_⟩, by omega⟩
    rw [cn_s]
    omega
  · exact ⟨0, rfl, by omega, rfl⟩
theorem v19 {X : (Nat → Int) × Nat} {d : Nat} {s : mSt} {Q : mQ} {a0 : Nat} (h0 : isBd a0)
  (I4 : Int → Int → Prop) (m4 : Int → Int → Nat)
  (z1 : ∀ y1 : Int, ∀ y2 : Int, I4 y1 y2 → 30 ≤ y2 → Q (some (mI y1)) s)
  (z2 : ∀ y1 : Int, ∀ y2 : Int, I4 y1 y2 → ¬ 30 ≤ y2 → BI s a0 ∧ ¬ s a0 0 = 0 ∧ (0 ≤ y2 ∧ y2 < 30))
  (z3 : ∀ y1 : Int, ∀ y2 : Int, I4 y1 y2 → ¬ 30 ≤ y2 → I4 (iMax y1 (w32 ((s a0 0) - (fre (brow s a0) y2.toNat)))) (w32 (y2 + 1)) ∧ m4 (iMax y1 (w32 ((s a0 0) - (fre (brow s a0) y2.toNat)))) (w32 (y2 + 1)) < m4 y1 y2)
  (z4 : I4 0 0) :
  Sp X (d + 2) 19 [mR a0] s Q := by
  have L : ∀ k : Nat, (∀ (y1 : Int) (y2 : Int), I4 y1 y2 → m4 y1 y2 < k → Wp X (d + 2) 19 4 [some (mR a0), some (mI y1), some (mI y2)] [] s Q) := by
    intro k
    induction k with
    | zero => exact fun _ _ _ h => absurd h (Nat.not_lt_zero _)
    | succ k ih => exact fun y1 y2 hI hm => b19_4 h0 (fun q1 => b19_31 h0 (z1 y1 y2 hI q1)) (fun q2 => b19_10 h0 (c17 h0 (z2 y1 y2 hI q2) ⟨_, rfl, b19_20 h0 (ih (iMax y1 (w32 ((s a0 0) - (fre (brow s a0) y2.toNat)))) (w32 (y2 + 1)) (z3 y1 y2 hI q2).1 (Nat.lt_of_lt_of_le (z3 y1 y2 hI q2).2 (Nat.le_of_lt_succ hm)))⟩))
  exact e19 (b19_0 h0 ((L (m4 0 0 + 1)) 0 0 z4 (Nat.lt_succ_self _)))

theorem c19 {X : (Nat → Int) × Nat} {d : Nat} {s : mSt} {Q : mQ} {a0 : Nat} (h0 : isBd a0) (p1 : BI s a0 ∧ ¬ s a0 0 = 0) (k : Q (some (mI (mx (fun t => s a0 0 - fre (brow s a0) t) 30))) s) : Sp X (d + 2) 19 [mR a0] s Q := by
  obtain ⟨h, hd⟩ := p1
  have b1 := ok1 h.1
  have e0 := bi1 (s := s) (k := a0)
  refine v19 h0 (fun y1 y2 => ∃ j : Nat, y2 = j ∧ j ≤ 30 ∧ y1 = mx (fun t => s a0 0 - fre (brow s a0) t) j) (fun _ y => (30 - y).toNat) ?_ ?_ ?_ ?_
  · rintro _ _ ⟨j, rfl, hj, rfl⟩ hc
    have : j = 30 := by omega
    subst this
    exact k
  · rintro _ _ ⟨j, rfl, hj, rfl⟩ hc
    exact ⟨h, hd, by omega⟩
  · rintro _ _ ⟨j, rfl, hj, rfl⟩ hc
    have b2 := fre_bd h.1 (t := j) (by omega)
    rw [tnc, w32_of (by omega), w32_of (by omega)]
    refine ⟨⟨j + 1, by omega, by omega, ?_⟩, by omega⟩
    rw [mx_s]
    rfl
  · exact ⟨0, rfl, by omega, rfl⟩
theorem v20 {X : (Nat → Int) × Nat} {d : Nat} {s : mSt} {Q : mQ} {a0 : Nat} {x1 : Int} {x2 : Int} (h0 : isBd a0)
  (z1 : 0 ≤ x1 ∧ x1 < 6)
  (z2 : ¬ (iAnd (iShr (s (a0 + 9) x1.toNat) x2) 1) = 1 → Q (some (mI 0)) s)
  (z3 : (iAnd (iShr (s (a0 + 9) x1.toNat) x2) 1) = 1 → Q (some (mI 1)) s) :
  Sp X d 20 [mR a0, mI x1, mI x2] s Q := e20 (b20_0 h0 z1 (fun q1 => b20_18 h0 (b20_19 h0 (z2 q1) (Or.inl rfl))) (fun q2 => b20_14 h0 (b20_19 h0 (z3 q2) (Or.inr rfl))))

theorem c20 {X : (Nat → Int) × Nat} {d : Nat} {s : mSt} {Q : mQ} {a0 : Nat} {x1 : Int} {x2 : Int} (h0 : isBd a0) (p1 : BI s a0 ∧ (0 ≤ x1 ∧ x1 < s a0 3) ∧ (0 ≤ x2 ∧ x2 < 30)) (k1 : (pl (brow s a0) x1.toNat = true ∧ kpt (brow s a0) x1.toNat x2.toNat = true) → Q (some (mI 1)) s) (k0 : ¬ (pl (brow s a0) x1.toNat = true ∧ kpt (brow s a0) x1.toNat x2.toNat = true) → Q (some (mI 0)) s) : Sp X d 20 [mR a0, mI x1, mI x2] s Q := by
  obtain ⟨h, h1, h2⟩ := p1
  have h3 := nc_le h.1
  have h6 := bi_nc h
  have e : iAnd (iShr (s (a0 + 9) x1.toNat) x2) 1 = 1 ↔ pl (brow s a0) x1.toNat = true ∧ kpt (brow s a0) x1.toNat x2.toNat = true := by
    rw [bt_iff _ (by omega)]
    unfold bt
    rw [kptb h (by omega) (by omega), Bool.and_eq_true]
  exact v20 h0 (by omega) (fun q => k0 (fun z => q (e.2 z))) (fun q => k1 (e.1 q))
