/-! numbers of the small machine and of the machine -/
def nr32 (x : Int) : Prop := -2147483648 ≤ x ∧ x < 2147483648
def nr64 (x : Int) : Prop := -9223372036854775808 ≤ x ∧ x < 9223372036854775808
theorem nr_w32 (x : Int) : nr32 (w32 x) := by
  have h1 := Int.le_bmod (x := x) (m := 4294967296) (by decide)
  have h2 := Int.bmod_lt (x := x) (m := 4294967296) (by decide)
  unfold nr32 w32
  omega
theorem nr_w64 (x : Int) : nr64 (w64 x) := by
  have h1 := Int.le_bmod (x := x) (m := 18446744073709551616) (by decide)
  have h2 := Int.bmod_lt (x := x) (m := 18446744073709551616) (by decide)
  unfold nr64 w64
  omega
theorem nr_w8 (x : Int) : nr32 (w8 x) := by
  have h1 := Int.le_bmod (x := x) (m := 256) (by decide)
  have h2 := Int.bmod_lt (x := x) (m := 256) (by decide)
  unfold nr32 w8
  omega
theorem nr_i (x : Int32) : nr32 x.toInt := by
  have h1 := x.le_toInt
  have h2 := x.toInt_lt
  unfold nr32
  omega
theorem nr_j (x : Int64) : nr64 x.toInt := by
  have h1 := x.le_toInt
  have h2 := x.toInt_lt
  unfold nr64
  omega
theorem nr_up {x : Int} (h : nr32 x) : nr64 x := by unfold nr32 at h; unfold nr64; omega
theorem ti32 {x : Int} (h : nr32 x) : (Int32.ofInt x).toInt = x := Int32.toInt_ofInt_of_le (by unfold nr32 at h; omega) (by unfold nr32 at h; omega)
theorem ti64 {x : Int} (h : nr64 x) : (Int64.ofInt x).toInt = x := Int64.toInt_ofInt_of_le (by unfold nr64 at h; omega) (by unfold nr64 at h; omega)
theorem of_w32 (x : Int) : Int32.ofInt (w32 x) = Int32.ofInt x := by
  rw [← Int32.toInt_inj, Int32.toInt_ofInt, Int32.toInt_ofInt]
  show Int.bmod (Int.bmod x 4294967296) 4294967296 = Int.bmod x 4294967296
  exact Int.bmod_bmod
theorem of_w64 (x : Int) : Int64.ofInt (w64 x) = Int64.ofInt x := by
  rw [← Int64.toInt_inj, Int64.toInt_ofInt, Int64.toInt_ofInt]
  show Int.bmod (Int.bmod x 18446744073709551616) 18446744073709551616 = Int.bmod x 18446744073709551616
  exact Int.bmod_bmod
theorem q_add (x y : Int) : Int32.ofInt x + Int32.ofInt y = Int32.ofInt (w32 (x + y)) := by rw [of_w32, Int32.ofInt_add]
theorem q_sub (x y : Int) : Int32.ofInt x - Int32.ofInt y = Int32.ofInt (w32 (x - y)) := by rw [of_w32, Int32.ofInt_sub]
theorem q_mul (x y : Int) : Int32.ofInt x * Int32.ofInt y = Int32.ofInt (w32 (x * y)) := by rw [of_w32, Int32.ofInt_mul]
theorem q_addL (x y : Int) : Int64.ofInt x + Int64.ofInt y = Int64.ofInt (w64 (x + y)) := by rw [of_w64, Int64.ofInt_add]
theorem q_subL (x y : Int) : Int64.ofInt x - Int64.ofInt y = Int64.ofInt (w64 (x - y)) := by rw [of_w64, Int64.ofInt_sub]
theorem q_mulL (x y : Int) : Int64.ofInt x * Int64.ofInt y = Int64.ofInt (w64 (x * y)) := by rw [of_w64, Int64.ofInt_mul]
theorem q_div {x y : Int} (hx : nr32 x) (hy : nr32 y) : Int32.ofInt x / Int32.ofInt y = Int32.ofInt (w32 (x.tdiv y)) := by
  rw [← Int32.toInt_inj, Int32.toInt_div, ti32 hx, ti32 hy, ti32 (nr_w32 _)]
  rfl
theorem q_divL {x y : Int} (hx : nr64 x) (hy : nr64 y) : Int64.ofInt x / Int64.ofInt y = Int64.ofInt (w64 (x.tdiv y)) := by
  rw [← Int64.toInt_inj, Int64.toInt_div, ti64 hx, ti64 hy, ti64 (nr_w64 _)]
  rfl
theorem q_rem {x y : Int} (hx : nr32 x) (hy : nr32 y) : Int32.ofInt x - Int32.ofInt x / Int32.ofInt y * Int32.ofInt y = Int32.ofInt (x.tmod y) := by
  rw [q_div hx hy, of_w32, ← Int32.ofInt_mul, ← Int32.ofInt_sub]
  congr 1
  have h := Int.tmod_def x y
  rw [h, Int.mul_comm]
theorem q_remL {x y : Int} (hx : nr64 x) (hy : nr64 y) : Int64.ofInt x - Int64.ofInt x / Int64.ofInt y * Int64.ofInt y = Int64.ofInt (x.tmod y) := by
  rw [q_divL hx hy, of_w64, ← Int64.ofInt_mul, ← Int64.ofInt_sub]
  congr 1
  have h := Int.tmod_def x y
  rw [h, Int.mul_comm]
theorem tm_lo {x y : Int} (h : 0 ≤ x) : 0 ≤ x.tmod y ∧ x.tmod y ≤ x := by
  refine ⟨Int.tmod_nonneg y h, ?_⟩
  have h1 : (x.tmod y).natAbs = x.natAbs % y.natAbs := Int.natAbs_tmod ..
  have h2 := Nat.mod_le x.natAbs y.natAbs
  have h3 := Int.tmod_nonneg y h
  omega
theorem tm_hi {x y : Int} (h : x ≤ 0) : x ≤ x.tmod y ∧ x.tmod y ≤ 0 := by
  have h1 := tm_lo (x := -x) (y := y) (by omega)
  rw [Int.neg_tmod] at h1
  omega
theorem nr_rem {x y : Int} (hx : nr32 x) : nr32 (x.tmod y) := by
  unfold nr32 at *
  rcases Int.le_total 0 x with h | h
  · have := tm_lo (y := y) h; omega
  · have := tm_hi (y := y) h; omega
theorem nr_remL {x y : Int} (hx : nr64 x) : nr64 (x.tmod y) := by
  unfold nr64 at *
  rcases Int.le_total 0 x with h | h
  · have := tm_lo (y := y) h; omega
  · have := tm_hi (y := y) h; omega
theorem q_lt {x y : Int} (hx : nr32 x) (hy : nr32 y) : Int32.ofInt x < Int32.ofInt y ↔ x < y := by rw [Int32.lt_iff_toInt_lt, ti32 hx, ti32 hy]
theorem q_le {x y : Int} (hx : nr32 x) (hy : nr32 y) : Int32.ofInt x ≤ Int32.ofInt y ↔ x ≤ y := by rw [Int32.le_iff_toInt_le, ti32 hx, ti32 hy]
theorem q_eq {x y : Int} (hx : nr32 x) (hy : nr32 y) : Int32.ofInt x = Int32.ofInt y ↔ x = y := by rw [← Int32.toInt_inj, ti32 hx, ti32 hy]
theorem q_ltL {x y : Int} (hx : nr64 x) (hy : nr64 y) : Int64.ofInt x < Int64.ofInt y ↔ x < y := by rw [Int64.lt_iff_toInt_lt, ti64 hx, ti64 hy]
theorem q_eqL {x y : Int} (hx : nr64 x) (hy : nr64 y) : Int64.ofInt x = Int64.ofInt y ↔ x = y := by rw [← Int64.toInt_inj, ti64 hx, ti64 hy]
theorem nr_0 : nr32 0 := ⟨by decide, by decide⟩
theorem z32 : (0 : Int32) = Int32.ofInt 0 := rfl
theorem z64 : (0 : Int64) = Int64.ofInt 0 := rfl
theorem q_i2l {x : Int} (hx : nr32 x) : (Int32.ofInt x).toInt64 = Int64.ofInt x := by
  rw [← Int64.toInt_inj, Int32.toInt_toInt64, ti32 hx, ti64 (nr_up hx)]
theorem q_l2i {x : Int} (hx : nr64 x) : (Int64.ofInt x).toInt32 = Int32.ofInt (w32 x) := by
  rw [← Int32.toInt_inj, Int64.toInt_toInt32, ti64 hx, ti32 (nr_w32 _)]
  rfl
theorem q_i2b {x : Int} (hx : nr32 x) : (Int32.ofInt x).toInt8.toInt32 = Int32.ofInt (w8 x) := by
  rw [← Int32.toInt_inj, Int8.toInt_toInt32, Int32.toInt_toInt8, ti32 hx, ti32 (nr_w8 _)]
  rfl
theorem bv_ofInt {x : Int} (h : nr32 x) : ((Int32.ofInt x).toBitVec.toNat : Int) = x % 4294967296 := by
  show ((BitVec.ofInt 32 x).toNat : Int) = _
  rw [BitVec.toNat_ofInt]
  have : (0 : Int) ≤ x % (2 ^ 32 : Nat) := Int.emod_nonneg _ (by decide)
  omega
theorem q_i2c {x : Int} (hx : nr32 x) : ((Int32.ofInt x).toUInt32 % 65536).toInt32 = Int32.ofInt (x % 65536) := by
  rw [pk_char]
  have h := bv_ofInt hx
  show Int32.ofNat _ = _
  rw [show x % 65536 = (((Int32.ofInt x).toBitVec.toNat % 65536 : Nat) : Int) by omega]
  rfl
theorem nr_i2c (x : Int) : nr32 (x % 65536) := by unfold nr32; omega
theorem q_cmp {x y : Int} (hx : nr64 x) (hy : nr64 y) : lg_cmp (Int64.ofInt x) (Int64.ofInt y) = Int32.ofInt (lCmp x y) := by
  unfold lg_cmp lCmp
  by_cases h1 : x < y
  · have h2 : ¬ Int64.ofInt x > Int64.ofInt y := by rw [gt_iff_lt, q_ltL hy hx]; omega
    have h3 : ¬ Int64.ofInt x = Int64.ofInt y := by rw [q_eqL hx hy]; omega
    rw [if_neg h2, if_neg h3, if_pos h1]; rfl
  · by_cases h4 : x = y
    · subst h4
      have h2 : ¬ Int64.ofInt x > Int64.ofInt x := by rw [gt_iff_lt, q_ltL hx hx]; omega
      rw [if_neg h2, if_pos rfl, if_neg h1, if_pos rfl]; rfl
    · have h2 : Int64.ofInt x > Int64.ofInt y := by rw [gt_iff_lt, q_ltL hy hx]; omega
      rw [if_pos h2, if_neg h1, if_neg h4]; rfl
theorem nr_cmp (x y : Int) : nr32 (lCmp x y) := by
  unfold lCmp nr32
  split
  · omega
  · split <;> omega
theorem q_push8 {n : Int} (h : -128 ≤ n ∧ n < 128) : (Int8.ofInt n).toInt32 = Int32.ofInt n := by
  rw [← Int32.toInt_inj, Int8.toInt_toInt32, Int8.toInt_ofInt_of_le (by omega) (by omega), ti32 (by unfold nr32; omega)]
theorem q_push16 {n : Int} (h : -32768 ≤ n ∧ n < 32768) : (Int16.ofInt n).toInt32 = Int32.ofInt n := by
  rw [← Int32.toInt_inj, Int16.toInt_toInt32, Int16.toInt_ofInt_of_le (by omega) (by omega), ti32 (by unfold nr32; omega)]
/-- an index as a number -/
theorem q_ix {j : Int} {n : Nat} (h : 0 ≤ j ∧ j < n) (hn : n < 2147483648) : vp_in (Int32.ofInt j) n ∧ (Int32.ofInt j).toNatClampNeg = j.toNat := by
  have hj : nr32 j := by unfold nr32; omega
  refine ⟨vp_in_iff.mpr (by rw [ti32 hj]; exact h), ?_⟩
  show (Int32.ofInt j).toInt.toNat = j.toNat
  rw [ti32 hj]
