/-! bits counted -/
theorem and_split {k h l M m : Nat} (hl : l < 2 ^ k) (hm : m < 2 ^ k) : (2 ^ k * h + l) &&& (2 ^ k * M + m) = 2 ^ k * (h &&& M) + (l &&& m) := by
  apply Nat.eq_of_testBit_eq
  intro i
  have h2 : l &&& m < 2 ^ k := Nat.and_lt_two_pow l hm
  rw [Nat.testBit_and, Nat.testBit_two_pow_mul_add _ hl, Nat.testBit_two_pow_mul_add _ hm, Nat.testBit_two_pow_mul_add _ h2]
  split
  · rw [Nat.testBit_and]
  · rw [Nat.testBit_and]
theorem and_sp8 {h l M m : Nat} (hl : l < 256) (hm : m < 256) : (256 * h + l) &&& (256 * M + m) = 256 * (h &&& M) + (l &&& m) := and_split (k := 8) hl hm
def pA (M x : Nat) : Nat := x - ((x / 2) &&& M)
def pB (M x : Nat) : Nat := (x &&& M) + ((x / 4) &&& M)
def pC (M x : Nat) : Nat := (x + x / 16) &&& M
theorem pA_s {M h l : Nat} (hl : l < 256) : pA (256 * M + 85) (256 * h + l) = 256 * pA M h + pA 85 l := by
  unfold pA
  have e1 : (256 * h + l) / 2 = 256 * (h / 2) + (128 * (h % 2) + l / 2) := by omega
  rw [e1, and_sp8 (by omega) (by decide)]
  have e2 : ∀ e : Fin 2, ∀ l : Fin 256, (128 * e.val + l.val / 2) &&& 85 = (l.val / 2) &&& 85 := by decide +kernel
  have e3 := e2 ⟨h % 2, by omega⟩ ⟨l, hl⟩
  simp only at e3
  rw [e3]
  have h1 : (h / 2) &&& M ≤ h / 2 := Nat.and_le_left
  have h2 : (l / 2) &&& 85 ≤ l / 2 := Nat.and_le_left
  omega
theorem pB_s {M h l : Nat} (hl : l < 256) : pB (256 * M + 51) (256 * h + l) = 256 * pB M h + pB 51 l := by
  unfold pB
  have e1 : (256 * h + l) / 4 = 256 * (h / 4) + (64 * (h % 4) + l / 4) := by omega
  rw [e1, and_sp8 (by omega) (by decide), and_sp8 (by omega) (by decide)]
  have e2 : ∀ e : Fin 4, ∀ l : Fin 256, (64 * e.val + l.val / 4) &&& 51 = (l.val / 4) &&& 51 := by decide +kernel
  have e3 := e2 ⟨h % 4, by omega⟩ ⟨l, hl⟩
  simp only at e3
  rw [e3]
  omega
theorem pC_s {M h l : Nat} (hl : l < 69) (hh : h % 16 < 5) : pC (256 * M + 15) (256 * h + l) = 256 * pC M h + pC 15 l := by
  unfold pC
  have e1 : (256 * h + l) + (256 * h + l) / 16 = 256 * (h + h / 16) + (l + l / 16 + 16 * (h % 16)) := by omega
  rw [e1, and_sp8 (by omega) (by decide)]
  have e2 : ∀ e : Fin 5, ∀ l : Fin 69, (l.val + l.val / 16 + 16 * e.val) &&& 15 = (l.val + l.val / 16) &&& 15 := by decide +kernel
  have e3 := e2 ⟨h % 16, hh⟩ ⟨l, hl⟩
  simp only at e3
  rw [e3]
theorem pAB_b {l : Nat} (hl : l < 256) : pA 85 l < 256 ∧ pB 51 (pA 85 l) < 69 ∧ pB 51 (pA 85 l) % 16 < 5 ∧ (pC 15 (pB 51 (pA 85 l)) : Int) = cn (fun i => l.testBit i) 8 := by
  have : ∀ l : Fin 256, pA 85 l.val < 256 ∧ pB 51 (pA 85 l.val) < 69 ∧ pB 51 (pA 85 l.val) % 16 < 5 ∧ (pC 15 (pB 51 (pA 85 l.val)) : Int) = cn (fun i => l.val.testBit i) 8 := by decide +kernel
  exact this ⟨l, hl⟩
theorem cn_add (f : Nat → Bool) (m : Nat) : ∀ n : Nat, cn f (m + n) = cn f m + cn (fun i => f (m + i)) n
  | 0 => by simp [cn]
  | n + 1 => by
    rw [← Nat.add_assoc, cn_s, cn_add f m n, cn_s]
    omega
theorem pABC {b3 b2 b1 b0 : Nat} (h3 : b3 < 256) (h2 : b2 < 256) (h1 : b1 < 256) (h0 : b0 < 256) :
    pC 252645135 (pB 858993459 (pA 1431655765 (256 * (256 * (256 * b3 + b2) + b1) + b0))) = 256 * (256 * (256 * pC 15 (pB 51 (pA 85 b3)) + pC 15 (pB 51 (pA 85 b2))) + pC 15 (pB 51 (pA 85 b1))) + pC 15 (pB 51 (pA 85 b0)) := by
  have q3 := pAB_b h3
  have q2 := pAB_b h2
  have q1 := pAB_b h1
  have q0 := pAB_b h0
  rw [show (1431655765 : Nat) = 256 * (256 * (256 * 85 + 85) + 85) + 85 from rfl, pA_s h0, pA_s h1, pA_s h2]
  rw [show (858993459 : Nat) = 256 * (256 * (256 * 51 + 51) + 51) + 51 from rfl, pB_s q0.1, pB_s q1.1, pB_s q2.1]
  rw [show (252645135 : Nat) = 256 * (256 * (256 * 15 + 15) + 15) + 15 from rfl]
  rw [pC_s q0.2.1 (by omega), pC_s q1.2.1 (by omega), pC_s q2.2.1 (by omega)]
theorem tb_lo {h l i : Nat} (hl : l < 256) (hi : i < 8) : (256 * h + l).testBit i = l.testBit i := by
  have := Nat.testBit_two_pow_mul_add h (show l < 2 ^ 8 from hl) i
  rw [show (2:Nat) ^ 8 = 256 from rfl, if_pos hi] at this
  exact this
theorem tb_hi {h l i : Nat} (hl : l < 256) : (256 * h + l).testBit (8 + i) = h.testBit i := by
  have := Nat.testBit_two_pow_mul_add h (show l < 2 ^ 8 from hl) (8 + i)
  rw [show (2:Nat) ^ 8 = 256 from rfl, if_neg (by omega), Nat.add_sub_cancel_left] at this
  exact this
theorem cn_byte {h l n : Nat} (hl : l < 256) : cn (fun i => (256 * h + l).testBit i) (8 + n) = cn (fun i => l.testBit i) 8 + cn (fun i => h.testBit i) n := by
  rw [cn_add]
  rw [cn_congr (f := fun i => (256 * h + l).testBit i) (g := fun i => l.testBit i) (n := 8) (fun i hi => tb_lo hl hi)]
  rw [cn_congr (f := fun i => (256 * h + l).testBit (8 + i)) (g := fun i => h.testBit i) (n := n) (fun i hi => tb_hi hl)]
def pE (x : Nat) : Nat := x + x / 256 + (x + x / 256) / 65536
theorem pop_b {b3 b2 b1 b0 : Nat} (h3 : b3 < 256) (h2 : b2 < 256) (h1 : b1 < 256) (h0 : b0 < 256) :
    (((pE (pC 252645135 (pB 858993459 (pA 1431655765 (256 * (256 * (256 * b3 + b2) + b1) + b0))))) % 64 : Nat) : Int) = cn (fun i => (256 * (256 * (256 * b3 + b2) + b1) + b0).testBit i) 32 := by
  rw [pABC h3 h2 h1 h0]
  have c3 := (pAB_b h3).2.2.2
  have c2 := (pAB_b h2).2.2.2
  have c1 := (pAB_b h1).2.2.2
  have c0 := (pAB_b h0).2.2.2
  rw [show (32 : Nat) = 8 + 24 from rfl, cn_byte h0, show (24 : Nat) = 8 + 16 from rfl, cn_byte h1, show (16 : Nat) = 8 + 8 from rfl, cn_byte h2, ← c0, ← c1, ← c2, ← c3]
  have l3 := cn_le (f := fun i => b3.testBit i) (n := 8)
  have l2 := cn_le (f := fun i => b2.testBit i) (n := 8)
  have l1 := cn_le (f := fun i => b1.testBit i) (n := 8)
  have l0 := cn_le (f := fun i => b0.testBit i) (n := 8)
  revert c3 c2 c1 c0
  generalize pC 15 (pB 51 (pA 85 b3)) = p3
  generalize pC 15 (pB 51 (pA 85 b2)) = p2
  generalize pC 15 (pB 51 (pA 85 b1)) = p1
  generalize pC 15 (pB 51 (pA 85 b0)) = p0
  intro c3 c2 c1 c0
  unfold pE
  have m3 : p3 ≤ 8 := by omega
  have m2 : p2 ≤ 8 := by omega
  have m1 : p1 ≤ 8 := by omega
  have m0 : p0 ≤ 8 := by omega
  rw [show (256 * (256 * (256 * p3 + p2) + p1) + p0) / 256 = 256 * (256 * p3 + p2) + p1 by omega]
  rw [show (256 * (256 * (256 * p3 + p2) + p1) + p0 + (256 * (256 * p3 + p2) + p1)) / 65536 = 256 * p3 + p2 + p3 by omega]
  rw [show (256 * (256 * (256 * p3 + p2) + p1) + p0 + (256 * (256 * p3 + p2) + p1) + (256 * p3 + p2 + p3)) % 64 = p0 + p1 + p2 + p3 by omega]
  omega
theorem pop_nat {x : Nat} (h : x < 4294967296) : (((pE (pC 252645135 (pB 858993459 (pA 1431655765 x)))) % 64 : Nat) : Int) = cn (fun i => x.testBit i) 32 := by
  have e : 256 * (256 * (256 * (x / 16777216) + x / 65536 % 256) + x / 256 % 256) + x % 256 = x := by omega
  have := pop_b (b3 := x / 16777216) (b2 := x / 65536 % 256) (b1 := x / 256 % 256) (b0 := x % 256) (by omega) (by omega) (by omega) (by omega)
  rw [e] at this
  exact this
theorem iAnd_nat {x y : Nat} (hx : x < 2147483648) (hy : y < 2147483648) : iAnd x y = ((x &&& y : Nat) : Int) := by
  have h : x &&& y < 2147483648 := Nat.lt_of_le_of_lt Nat.and_le_left hx
  apply bq_ext (i3_and _ _) (by unfold i3; omega)
  intro i hi
  rw [bq_and, bq_nat (by omega), bq_nat (by omega), bq_nat (by omega), Nat.testBit_and]
theorem bq_ush (x : Int) {k : Int} (h : 0 ≤ k ∧ k < 32) (i : Nat) : bq (iUsh x k) i = bq x (i + k.toNat) := by
  have e : ∀ m : Fin 32, ((((Int32.ofInt (m.val : Int)).toUInt32 &&& Int32.toUInt32 31)).toBitVec % 32).toNat = m.val := by decide
  obtain ⟨n, rfl⟩ := Int.eq_ofNat_of_zero_le h.1
  have hn : n < 32 := by omega
  have e2 := e ⟨n, hn⟩
  simp only at e2
  unfold iUsh
  rw [bq_toInt, UInt32.toBitVec_toInt32, UInt32.toBitVec_shiftRight, BitVec.ushiftRight_eq', e2, BitVec.getLsbD_ushiftRight, Nat.add_comm]
  rfl
theorem iUsh_nat {x : Nat} (hx : x < 2147483648) {k : Nat} (hk : k < 32) : iUsh x (k : Int) = ((x / 2 ^ k : Nat) : Int) := by
  have h : x / 2 ^ k < 2147483648 := Nat.lt_of_le_of_lt (Nat.div_le_self _ _) hx
  apply bq_ext (i3_ush _ _) (by revert h; generalize x / 2 ^ k = q; intro h; unfold i3; omega)
  intro i hi
  rw [bq_ush _ (by omega), tnc, bq_nat (by omega), bq_nat (Nat.lt_trans h (by decide)), Nat.testBit_div_two_pow]
theorem v309 {X : (Nat → Int) × Nat} {d : Nat} {s : mSt} {Q : mQ} {x0 : Int}
  (z1 : Q (some (mI (iAnd (w32 ((w32 ((iAnd (w32 ((w32 ((iAnd (w32 (x0 - (iAnd (iUsh x0 1) 1431655765))) 858993459) + (iAnd (iUsh (w32 (x0 - (iAnd (iUsh x0 1) 1431655765))) 2) 858993459))) + (iUsh (w32 ((iAnd (w32 (x0 - (iAnd (iUsh x0 1) 1431655765))) 858993459) + (iAnd (iUsh (w32 (x0 - (iAnd (iUsh x0 1) 1431655765))) 2) 858993459))) 4))) 252645135) + (iUsh (iAnd (w32 ((w32 ((iAnd (w32 (x0 - (iAnd (iUsh x0 1) 1431655765))) 858993459) + (iAnd (iUsh (w32 (x0 - (iAnd (iUsh x0 1) 1431655765))) 2) 858993459))) + (iUsh (w32 ((iAnd (w32 (x0 - (iAnd (iUsh x0 1) 1431655765))) 858993459) + (iAnd (iUsh (w32 (x0 - (iAnd (iUsh x0 1) 1431655765))) 2) 858993459))) 4))) 252645135) 8))) + (iUsh (w32 ((iAnd (w32 ((w32 ((iAnd (w32 (x0 - (iAnd (iUsh x0 1) 1431655765))) 858993459) + (iAnd (iUsh (w32 (x0 - (iAnd (iUsh x0 1) 1431655765))) 2) 858993459))) + (iUsh (w32 ((iAnd (w32 (x0 - (iAnd (iUsh x0 1) 1431655765))) 858993459) + (iAnd (iUsh (w32 (x0 - (iAnd (iUsh x0 1) 1431655765))) 2) 858993459))) 4))) 252645135) + (iUsh (iAnd (w32 ((w32 ((iAnd (w32 (x0 - (iAnd (iUsh x0 1) 1431655765))) 858993459) + (iAnd (iUsh (w32 (x0 - (iAnd (iUsh x0 1) 1431655765))) 2) 858993459))) + (iUsh (w32 ((iAnd (w32 (x0 - (iAnd (iUsh x0 1) 1431655765))) 858993459) + (iAnd (iUsh (w32 (x0 - (iAnd (iUsh x0 1) 1431655765))) 2) 858993459))) 4))) 252645135) 8))) 16))) 63))) s) :
  Sp X d 309 [mI x0] s Q := e309 (b309_0 z1)

theorem c309 {X : (Nat → Int) × Nat} {d : Nat} {s : mSt} {Q : mQ} {x0 : Int} (p1 : 0 ≤ x0 ∧ x0 < 1073741824) (k : Q (some (mI (cn (bq x0) 30))) s) : Sp X d 309 [mI x0] s Q := by
  obtain ⟨x, rfl⟩ := nat_of p1.1
  have hx : x < 1073741824 := by omega
  refine v309 ?_
  have a1 : iAnd (iUsh (x : Int) 1) 1431655765 = ((x / 2 &&& 1431655765 : Nat) : Int) := by
    rw [show (1 : Int) = ((1 : Nat) : Int) from rfl, iUsh_nat (by omega) (by decide), show (1431655765 : Int) = ((1431655765 : Nat) : Int) from rfl, iAnd_nat (by omega) (by decide)]
  have l1 : x / 2 &&& 1431655765 ≤ x / 2 := Nat.and_le_left
  have a2 : w32 ((x : Int) - iAnd (iUsh (x : Int) 1) 1431655765) = (pA 1431655765 x : Int) := by
    rw [a1, w32_of (by omega)]; unfold pA; omega
  have l2 : pA 1431655765 x ≤ x := Nat.sub_le _ _
  rw [a2]
  revert l2
  have hpop := pop_nat (x := x) (by omega)
  revert hpop
  generalize pA 1431655765 x = y
  intro hpop l2
  have l3 : y &&& 858993459 ≤ y := Nat.and_le_left
  have l4 : y / 4 &&& 858993459 ≤ y / 4 := Nat.and_le_left
  have l5 : y &&& 858993459 ≤ 858993459 := Nat.and_le_right
  have a3 : w32 (iAnd (y : Int) 858993459 + iAnd (iUsh (y : Int) 2) 858993459) = (pB 858993459 y : Int) := by
    rw [show (2 : Int) = ((2 : Nat) : Int) from rfl, iUsh_nat (by omega) (by decide), show (2:Nat) ^ 2 = 4 from rfl, show (858993459 : Int) = ((858993459 : Nat) : Int) from rfl, iAnd_nat (by omega) (by decide), iAnd_nat (by omega) (by decide), w32_of (by omega)]
    unfold pB; omega
  have l6 : pB 858993459 y < 1132462080 := by unfold pB; omega
  rw [a3]
  revert hpop l6
  generalize pB 858993459 y = z
  intro hpop l6
  have l7 : (z + z / 16) &&& 252645135 ≤ 252645135 := Nat.and_le_right
  have a4 : iAnd (w32 ((z : Int) + iUsh (z : Int) 4)) 252645135 = (pC 252645135 z : Int) := by
    rw [show (4 : Int) = ((4 : Nat) : Int) from rfl, iUsh_nat (by omega) (by decide), show (2:Nat) ^ 4 = 16 from rfl, w32_of (by omega), ← Int.natCast_add, show (252645135 : Int) = ((252645135 : Nat) : Int) from rfl, iAnd_nat (by omega) (by decide)]
    rfl
  have l8 : pC 252645135 z ≤ 252645135 := l7
  rw [a4]
  revert hpop l8
  generalize pC 252645135 z = c
  intro hpop l8
  have a5 : w32 ((c : Int) + iUsh (c : Int) 8) = ((c + c / 256 : Nat) : Int) := by
    rw [show (8 : Int) = ((8 : Nat) : Int) from rfl, iUsh_nat (by omega) (by decide), show (2:Nat) ^ 8 = 256 from rfl, w32_of (by omega), ← Int.natCast_add]
  rw [a5]
  have a6 : w32 (((c + c / 256 : Nat) : Int) + iUsh ((c + c / 256 : Nat) : Int) 16) = ((pE c : Nat) : Int) := by
    rw [show (16 : Int) = ((16 : Nat) : Int) from rfl, iUsh_nat (by omega) (by decide), show (2:Nat) ^ 16 = 65536 from rfl, w32_of (by omega), ← Int.natCast_add]
    rfl
  rw [a6]
  have l9 : pE c < 2147483648 := by unfold pE; omega
  have a7 : iAnd ((pE c : Nat) : Int) 63 = ((pE c % 64 : Nat) : Int) := by
    rw [show (63 : Int) = ((63 : Nat) : Int) from rfl, iAnd_nat l9 (by decide), show (63 : Nat) = 2 ^ 6 - 1 from rfl, Nat.and_two_pow_sub_one_eq_mod]
  rw [a7, hpop]
  have e : cn (fun i => x.testBit i) 32 = cn (bq (x : Int)) 30 := by
    rw [show (32 : Nat) = 30 + 2 from rfl, cn_add]
    rw [cn_congr (f := fun i => x.testBit i) (g := bq (x : Int)) (n := 30) (fun i hi => (bq_nat (by omega) i).symm)]
    have t0 : x.testBit 30 = false := Nat.testBit_lt_two_pow hx
    have t1 : x.testBit 31 = false := Nat.testBit_lt_two_pow (Nat.lt_trans hx (by decide))
    simp [cn, t0, t1]
  rw [e]
  exact k
/-- counting the bits of a set -/
theorem cn_os {f : Nat → Bool} {n : Nat} (hn : n ≤ 30) : cn (bq (os f n)) 30 = cn f n := by
  rw [show (30 : Nat) = n + (30 - n) by omega, cn_add]
  rw [cn_congr (f := bq (os f n)) (g := f) (n := n) (fun i hi => by rw [os_bq (by omega)]; simp [hi])]
  rw [cn_congr (f := fun i => bq (os f n) (n + i)) (g := fun _ => false) (n := 30 - n) (fun i hi => by rw [os_bq (by omega)]; simp [show ¬ n + i < n by omega])]
  have : ∀ m : Nat, cn (fun _ => false) m = 0 := fun m => by
    induction m with
    | zero => rfl
    | succ m ih => rw [cn_s, ih]; rfl
  rw [this]; omega
theorem os_30 {f : Nat → Bool} {n : Nat} (hn : n ≤ 30) : 0 ≤ os f n ∧ os f n < 1073741824 := by
  have h2 := os_lt (f := f) (n := n)
  have h3 : (2:Int) ^ n ≤ 2 ^ 30 := by
    have : (2:Nat) ^ n ≤ 2 ^ 30 := Nat.pow_le_pow_right (by decide) hn
    exact_mod_cast this
  omega
/-- the lowest bit taken off -/
theorem cn_shift (y n : Nat) : cn (fun i => y.testBit i) (n + 1) = (y % 2 : Nat) + cn (fun i => (y / 2).testBit i) n := by
  rw [Nat.add_comm n 1, cn_add]
  rw [cn_congr (f := fun i => y.testBit (1 + i)) (g := fun i => (y / 2).testBit i) (n := n) (fun i hi => by rw [Nat.add_comm, Nat.testBit_succ])]
  have : cn (fun i => y.testBit i) 1 = (y % 2 : Nat) := by
    simp only [cn, Nat.testBit_zero]
    rcases Nat.mod_two_eq_zero_or_one y with h | h <;> simp [h]
  rw [this]
theorem low_off : ∀ (n y : Nat), 0 < y → y < 2 ^ n → cn (fun i => (y &&& (y - 1)).testBit i) n + 1 = cn (fun i => y.testBit i) n ∧ y &&& (y - 1) < y
  | 0, y, h1, h2 => by simp at h2; omega
  | n + 1, y, h1, h2 => by
    rw [Nat.pow_succ] at h2
    rw [cn_shift, cn_shift]
    have e : ∀ a b : Nat, (a &&& b) % 2 = (a % 2) * (b % 2) ∧ (a &&& b) / 2 = (a / 2) &&& (b / 2) := fun a b => by
      refine ⟨?_, Nat.and_div_two⟩
      have q := Nat.and_mod_two_pow (a := a) (b := b) (n := 1)
      rw [show (2:Nat) ^ 1 = 2 from rfl] at q
      rw [q]
      rcases Nat.mod_two_eq_zero_or_one a with h | h <;> rcases Nat.mod_two_eq_zero_or_one b with h' | h' <;> rw [h, h'] <;> rfl
    rw [(e y (y - 1)).1, (e y (y - 1)).2]
    have hle : y &&& (y - 1) ≤ y - 1 := Nat.and_le_right
    refine ⟨?_, by omega⟩
    rcases Nat.mod_two_eq_zero_or_one y with hp | hp
    · have ih := low_off n (y / 2) (by omega) (by omega)
      rw [show (y - 1) / 2 = y / 2 - 1 by omega, show (y - 1) % 2 = 1 by omega, hp]
      omega
    · rw [show (y - 1) / 2 = y / 2 by omega, show (y - 1) % 2 = 0 by omega, hp, Nat.and_self]
      omega
theorem v169 {X : (Nat → Int) × Nat} {d : Nat} {s : mSt} {Q : mQ} {x0 : Int}
  (I4 : Int → Int → Prop) (m4 : Int → Int → Nat)
  (z1 : ∀ y1 : Int, ∀ y2 : Int, I4 y1 y2 → y2 = 0 → Q (some (mI y1)) s)
  (z2 : ∀ y1 : Int, ∀ y2 : Int, I4 y1 y2 → ¬ y2 = 0 → I4 (w32 (y1 + 1)) (iAnd y2 (w32 (y2 - 1))) ∧ m4 (w32 (y1 + 1)) (iAnd y2 (w32 (y2 - 1))) < m4 y1 y2)
  (z3 : I4 0 x0) :
  Sp X d 169 [mI x0] s Q := by
  have L : ∀ k : Nat, (∀ (y1 : Int) (y2 : Int), I4 y1 y2 → m4 y1 y2 < k → Wp X d 169 4 [some (mI x0), some (mI y1), some (mI y2)] [] s Q) := by
    intro k
    induction k with
    | zero => exact fun _ _ _ h => absurd h (Nat.not_lt_zero _)
    | succ k ih => exact fun y1 y2 hI hm => b169_4 (fun q1 => b169_20 (z1 y1 y2 hI q1)) (fun q2 => b169_8 (ih (w32 (y1 + 1)) (iAnd y2 (w32 (y2 - 1))) (z2 y1 y2 hI q2).1 (Nat.lt_of_lt_of_le (z2 y1 y2 hI q2).2 (Nat.le_of_lt_succ hm))))
  exact e169 (b169_0 ((L (m4 0 x0 + 1)) 0 x0 z3 (Nat.lt_succ_self _)))

theorem c169 {X : (Nat → Int) × Nat} {d : Nat} {s : mSt} {Q : mQ} {x0 : Int} (p1 : 0 ≤ x0 ∧ x0 < 1073741824) (k : Q (some (mI (cn (bq x0) 30))) s) : Sp X d 169 [mI x0] s Q := by
  obtain ⟨x, rfl⟩ := nat_of p1.1
  have hx : x < 1073741824 := by omega
  have e0 : cn (bq (x : Int)) 30 = cn (fun i => x.testBit i) 30 := cn_congr (fun i hi => bq_nat (by omega) i)
  rw [e0] at k
  refine v169 (fun y1 y2 => ∃ y : Nat, y2 = y ∧ y < 1073741824 ∧ 0 ≤ y1 ∧ y1 + cn (fun i => y.testBit i) 30 = cn (fun i => x.testBit i) 30) (fun _ y => y.toNat) ?_ ?_ ?_
  · rintro y1 _ ⟨y, rfl, hy, h1, h2⟩ hc
    have : y = 0 := by omega
    subst this
    have z : cn (fun i => (0 : Nat).testBit i) 30 = 0 := by decide
    rw [z] at h2
    rw [show y1 = cn (fun i => x.testBit i) 30 by omega]
    exact k
  · rintro y1 _ ⟨y, rfl, hy, h1, h2⟩ hc
    have b := cn_le (f := fun i => x.testBit i) (n := 30)
    have b2 := cn_le (f := fun i => y.testBit i) (n := 30)
    have lo := low_off 30 y (by omega) (by omega)
    rw [w32_of (x := (y : Int) - 1) (by omega), show (y : Int) - 1 = ((y - 1 : Nat) : Int) by omega, iAnd_nat (by omega) (by omega), w32_of (by omega)]
    exact ⟨⟨y &&& (y - 1), rfl, by omega, by omega, by omega⟩, by omega⟩
  · exact ⟨x, rfl, hx, by omega, by omega⟩
/-- the lowest bit -/
def ntzF (v : Int) : Int :=
  if 0 < v then
    (let u := if v ≤ 65536 then v else iUsh v 16
     let n := if v ≤ 65536 then 1 else w32 (1 + 16)
     let u2 := if u ≤ 256 then u else iUsh u 8
     let n2 := if u ≤ 256 then n else w32 (n + 8)
     let u3 := if u2 ≤ 16 then u2 else iUsh u2 4
     let n3 := if u2 ≤ 16 then n2 else w32 (n2 + 4)
     let u4 := if u3 ≤ 4 then u3 else iUsh u3 2
     let n4 := if u3 ≤ 4 then n3 else w32 (n3 + 2)
     w32 (n4 + iUsh u4 1))
  else iAnd v 32
theorem ntzF_ok : ∀ k : Fin 30, ntzF (2 ^ k.val - 1) = (k.val : Int) := by decide +kernel
theorem low_mask {x : Nat} {k : Nat} (hx : x < 1073741824) (hk : k < 30) (h1 : x.testBit k = true) (h2 : ∀ i, i < k → x.testBit i = false) : iAnd (iXor (x : Int) (-1)) (w32 ((x : Int) - 1)) = 2 ^ k - 1 := by
  have hz : x % 2 ^ k = 0 := by
    apply Nat.eq_of_testBit_eq
    intro i
    rw [Nat.testBit_mod_two_pow, Nat.zero_testBit]
    by_cases hi : i < k
    · rw [h2 i hi]; simp
    · simp [hi]
  have hp : 0 < 2 ^ k := Nat.two_pow_pos k
  have ex : x = 2 ^ k * (x / 2 ^ k) := by have := Nat.div_add_mod x (2 ^ k); omega
  have ho : (x / 2 ^ k) % 2 = 1 := by
    rw [Nat.testBit_eq_decide_div_mod_eq] at h1
    simpa using h1
  have e3 : ∀ i, k ≤ i → x.testBit i = (x / 2 ^ k).testBit (i - k) := fun i hi => by
    rw [Nat.testBit_div_two_pow, show i - k + k = i by omega]
  have hx0 : 0 < x := by
    rcases Nat.eq_zero_or_pos x with z | z
    · rw [z] at h1; simp at h1
    · exact z
  have hk2 : (2:Nat) ^ k ≤ 2 ^ 30 := Nat.pow_le_pow_right (by decide) (by omega)
  have hc : ((2:Int) ^ k - 1) = ((2 ^ k - 1 : Nat) : Int) := by rw [Int.natCast_sub hp]; simp
  rw [w32_of (by omega), show (x : Int) - 1 = ((x - 1 : Nat) : Int) by omega, hc]
  revert ex ho e3
  generalize x / 2 ^ k = q
  intro ex ho e3
  have em : x - 1 = 2 ^ k * (q - 1) + (2 ^ k - 1) := by
    have : 2 ^ k * (q - 1) = 2 ^ k * q - 2 ^ k := by rw [Nat.mul_sub, Nat.mul_one]
    have h3 : 2 ^ k * 1 ≤ 2 ^ k * q := Nat.mul_le_mul_left _ (by omega)
    rw [Nat.mul_one] at h3
    rw [this]
    omega
  apply bq_ext (i3_and _ _) (by unfold i3; omega)
  intro i hi
  rw [bq_and, bq_not, bq_nat (by omega), bq_nat (by omega), bq_nat (by omega), Nat.testBit_two_pow_sub_one, em, Nat.testBit_two_pow_mul_add _ (by omega)]
  by_cases hik : i < k
  · rw [if_pos hik, Nat.testBit_two_pow_sub_one, h2 i hik]; simp [hik, hi]
  · rw [if_neg hik, e3 i (by omega)]
    rcases Nat.eq_or_lt_of_le (Nat.le_of_not_lt hik) with z | z
    · subst z
      simp [ho]
    · obtain ⟨j, hj⟩ : ∃ j, i - k = j + 1 := ⟨i - k - 1, by omega⟩
      rw [hj, Nat.testBit_succ, Nat.testBit_succ, show (q - 1) / 2 = q / 2 by omega]
      simp [hik]
theorem v310 {X : (Nat → Int) × Nat} {d : Nat} {s : mSt} {Q : mQ} {x0 : Int}
  (z1 : 0 < (iAnd (iXor x0 (-1)) (w32 (x0 - 1))) → (iAnd (iXor x0 (-1)) (w32 (x0 - 1))) ≤ 65536 → (iAnd (iXor x0 (-1)) (w32 (x0 - 1))) ≤ 256 → (iAnd (iXor x0 (-1)) (w32 (x0 - 1))) ≤ 16 → (iAnd (iXor x0 (-1)) (w32 (x0 - 1))) ≤ 4 → Q (some (mI (w32 (1 + (iUsh (iAnd (iXor x0 (-1)) (w32 (x0 - 1))) 1))))) s)
  (z2 : 0 < (iAnd (iXor x0 (-1)) (w32 (x0 - 1))) → (iAnd (iXor x0 (-1)) (w32 (x0 - 1))) ≤ 65536 → (iAnd (iXor x0 (-1)) (w32 (x0 - 1))) ≤ 256 → (iAnd (iXor x0 (-1)) (w32 (x0 - 1))) ≤ 16 → ¬ (iAnd (iXor x0 (-1)) (w32 (x0 - 1))) ≤ 4 → Q (some (mI (w32 ((w32 (1 + 2)) + (iUsh (iUsh (iAnd (iXor x0 (-1)) (w32 (x0 - 1))) 2) 1))))) s)
  (z3 : 0 < (iAnd (iXor x0 (-1)) (w32 (x0 - 1))) → (iAnd (iXor x0 (-1)) (w32 (x0 - 1))) ≤ 65536 → (iAnd (iXor x0 (-1)) (w32 (x0 - 1))) ≤ 256 → ¬ (iAnd (iXor x0 (-1)) (w32 (x0 - 1))) ≤ 16 → (iUsh (iAnd (iXor x0 (-1)) (w32 (x0 - 1))) 4) ≤ 4 → Q (some (mI (w32 ((w32 (1 + 4)) + (iUsh (iUsh (iAnd (iXor x0 (-1)) (w32 (x0 - 1))) 4) 1))))) s)
  (z4 : 0 < (iAnd (iXor x0 (-1)) (w32 (x0 - 1))) → (iAnd (iXor x0 (-1)) (w32 (x0 - 1))) ≤ 65536 → (iAnd (iXor x0 (-1)) (w32 (x0 - 1))) ≤ 256 → ¬ (iAnd (iXor x0 (-1)) (w32 (x0 - 1))) ≤ 16 → ¬ (iUsh (iAnd (iXor x0 (-1)) (w32 (x0 - 1))) 4) ≤ 4 → Q (some (mI (w32 ((w32 ((w32 (1 + 4)) + 2)) + (iUsh (iUsh (iUsh (iAnd (iXor x0 (-1)) (w32 (x0 - 1))) 4) 2) 1))))) s)
  (z5 : 0 < (iAnd (iXor x0 (-1)) (w32 (x0 - 1))) → (iAnd (iXor x0 (-1)) (w32 (x0 - 1))) ≤ 65536 → ¬ (iAnd (iXor x0 (-1)) (w32 (x0 - 1))) ≤ 256 → (iUsh (iAnd (iXor x0 (-1)) (w32 (x0 - 1))) 8) ≤ 16 → (iUsh (iAnd (iXor x0 (-1)) (w32 (x0 - 1))) 8) ≤ 4 → Q (some (mI (w32 ((w32 (1 + 8)) + (iUsh (iUsh (iAnd (iXor x0 (-1)) (w32 (x0 - 1))) 8) 1))))) s)
  (z6 : 0 < (iAnd (iXor x0 (-1)) (w32 (x0 - 1))) → (iAnd (iXor x0 (-1)) (w32 (x0 - 1))) ≤ 65536 → ¬ (iAnd (iXor x0 (-1)) (w32 (x0 - 1))) ≤ 256 → (iUsh (iAnd (iXor x0 (-1)) (w32 (x0 - 1))) 8) ≤ 16 → ¬ (iUsh (iAnd (iXor x0 (-1)) (w32 (x0 - 1))) 8) ≤ 4 → Q (some (mI (w32 ((w32 ((w32 (1 + 8)) + 2)) + (iUsh (iUsh (iUsh (iAnd (iXor x0 (-1)) (w32 (x0 - 1))) 8) 2) 1))))) s)
  (z7 : 0 < (iAnd (iXor x0 (-1)) (w32 (x0 - 1))) → (iAnd (iXor x0 (-1)) (w32 (x0 - 1))) ≤ 65536 → ¬ (iAnd (iXor x0 (-1)) (w32 (x0 - 1))) ≤ 256 → ¬ (iUsh (iAnd (iXor x0 (-1)) (w32 (x0 - 1))) 8) ≤ 16 → (iUsh (iUsh (iAnd (iXor x0 (-1)) (w32 (x0 - 1))) 8) 4) ≤ 4 → Q (some (mI (w32 ((w32 ((w32 (1 + 8)) + 4)) + (iUsh (iUsh (iUsh (iAnd (iXor x0 (-1)) (w32 (x0 - 1))) 8) 4) 1))))) s)
  (z8 : 0 < (iAnd (iXor x0 (-1)) (w32 (x0 - 1))) → (iAnd (iXor x0 (-1)) (w32 (x0 - 1))) ≤ 65536 → ¬ (iAnd (iXor x0 (-1)) (w32 (x0 - 1))) ≤ 256 → ¬ (iUsh (iAnd (iXor x0 (-1)) (w32 (x0 - 1))) 8) ≤ 16 → ¬ (iUsh (iUsh (iAnd (iXor x0 (-1)) (w32 (x0 - 1))) 8) 4) ≤ 4 → Q (some (mI (w32 ((w32 ((w32 ((w32 (1 + 8)) + 4)) + 2)) + (iUsh (iUsh (iUsh (iUsh (iAnd (iXor x0 (-1)) (w32 (x0 - 1))) 8) 4) 2) 1))))) s)
  (z9 : 0 < (iAnd (iXor x0 (-1)) (w32 (x0 - 1))) → ¬ (iAnd (iXor x0 (-1)) (w32 (x0 - 1))) ≤ 65536 → (iUsh (iAnd (iXor x0 (-1)) (w32 (x0 - 1))) 16) ≤ 256 → (iUsh (iAnd (iXor x0 (-1)) (w32 (x0 - 1))) 16) ≤ 16 → (iUsh (iAnd (iXor x0 (-1)) (w32 (x0 - 1))) 16) ≤ 4 → Q (some (mI (w32 ((w32 (1 + 16)) + (iUsh (iUsh (iAnd (iXor x0 (-1)) (w32 (x0 - 1))) 16) 1))))) s)
  (z10 : 0 < (iAnd (iXor x0 (-1)) (w32 (x0 - 1))) → ¬ (iAnd (iXor x0 (-1)) (w32 (x0 - 1))) ≤ 65536 → (iUsh (iAnd (iXor x0 (-1)) (w32 (x0 - 1))) 16) ≤ 256 → (iUsh (iAnd (iXor x0 (-1)) (w32 (x0 - 1))) 16) ≤ 16 → ¬ (iUsh (iAnd (iXor x0 (-1)) (w32 (x0 - 1))) 16) ≤ 4 → Q (some (mI (w32 ((w32 ((w32 (1 + 16)) + 2)) + (iUsh (iUsh (iUsh (iAnd (iXor x0 (-1)) (w32 (x0 - 1))) 16) 2) 1))))) s)
  (z11 : 0 < (iAnd (iXor x0 (-1)) (w32 (x0 - 1))) → ¬ (iAnd (iXor x0 (-1)) (w32 (x0 - 1))) ≤ 65536 → (iUsh (iAnd (iXor x0 (-1)) (w32 (x0 - 1))) 16) ≤ 256 → ¬ (iUsh (iAnd (iXor x0 (-1)) (w32 (x0 - 1))) 16) ≤ 16 → (iUsh (iUsh (iAnd (iXor x0 (-1)) (w32 (x0 - 1))) 16) 4) ≤ 4 → Q (some (mI (w32 ((w32 ((w32 (1 + 16)) + 4)) + (iUsh (iUsh (iUsh (iAnd (iXor x0 (-1)) (w32 (x0 - 1))) 16) 4) 1))))) s)
  (z12 : 0 < (iAnd (iXor x0 (-1)) (w32 (x0 - 1))) → ¬ (iAnd (iXor x0 (-1)) (w32 (x0 - 1))) ≤ 65536 → (iUsh (iAnd (iXor x0 (-1)) (w32 (x0 - 1))) 16) ≤ 256 → ¬ (iUsh (iAnd (iXor x0 (-1)) (w32 (x0 - 1))) 16) ≤ 16 → ¬ (iUsh (iUsh (iAnd (iXor x0 (-1)) (w32 (x0 - 1))) 16) 4) ≤ 4 → Q (some (mI (w32 ((w32 ((w32 ((w32 (1 + 16)) + 4)) + 2)) + (iUsh (iUsh (iUsh (iUsh (iAnd (iXor x0 (-1)) (w32 (x0 - 1))) 16) 4) 2) 1))))) s)
  (z13 : 0 < (iAnd (iXor x0 (-1)) (w32 (x0 - 1))) → ¬ (iAnd (iXor x0 (-1)) (w32 (x0 - 1))) ≤ 65536 → ¬ (iUsh (iAnd (iXor x0 (-1)) (w32 (x0 - 1))) 16) ≤ 256 → (iUsh (iUsh (iAnd (iXor x0 (-1)) (w32 (x0 - 1))) 16) 8) ≤ 16 → (iUsh (iUsh (iAnd (iXor x0 (-1)) (w32 (x0 - 1))) 16) 8) ≤ 4 → Q (some (mI (w32 ((w32 ((w32 (1 + 16)) + 8)) + (iUsh (iUsh (iUsh (iAnd (iXor x0 (-1)) (w32 (x0 - 1))) 16) 8) 1))))) s)
  (z14 : 0 < (iAnd (iXor x0 (-1)) (w32 (x0 - 1))) → ¬ (iAnd (iXor x0 (-1)) (w32 (x0 - 1))) ≤ 65536 → ¬ (iUsh (iAnd (iXor x0 (-1)) (w32 (x0 - 1))) 16) ≤ 256 → (iUsh (iUsh (iAnd (iXor x0 (-1)) (w32 (x0 - 1))) 16) 8) ≤ 16 → ¬ (iUsh (iUsh (iAnd (iXor x0 (-1)) (w32 (x0 - 1))) 16) 8) ≤ 4 → Q (some (mI (w32 ((w32 ((w32 ((w32 (1 + 16)) + 8)) + 2)) + (iUsh (iUsh (iUsh (iUsh (iAnd (iXor x0 (-1)) (w32 (x0 - 1))) 16) 8) 2) 1))))) s)
  (z15 : 0 < (iAnd (iXor x0 (-1)) (w32 (x0 - 1))) → ¬ (iAnd (iXor x0 (-1)) (w32 (x0 - 1))) ≤ 65536 → ¬ (iUsh (iAnd (iXor x0 (-1)) (w32 (x0 - 1))) 16) ≤ 256 → ¬ (iUsh (iUsh (iAnd (iXor x0 (-1)) (w32 (x0 - 1))) 16) 8) ≤ 16 → (iUsh (iUsh (iUsh (iAnd (iXor x0 (-1)) (w32 (x0 - 1))) 16) 8) 4) ≤ 4 → Q (some (mI (w32 ((w32 ((w32 ((w32 (1 + 16)) + 8)) + 4)) + (iUsh (iUsh (iUsh (iUsh (iAnd (iXor x0 (-1)) (w32 (x0 - 1))) 16) 8) 4) 1))))) s)
  (z16 : 0 < (iAnd (iXor x0 (-1)) (w32 (x0 - 1))) → ¬ (iAnd (iXor x0 (-1)) (w32 (x0 - 1))) ≤ 65536 → ¬ (iUsh (iAnd (iXor x0 (-1)) (w32 (x0 - 1))) 16) ≤ 256 → ¬ (iUsh (iUsh (iAnd (iXor x0 (-1)) (w32 (x0 - 1))) 16) 8) ≤ 16 → ¬ (iUsh (iUsh (iUsh (iAnd (iXor x0 (-1)) (w32 (x0 - 1))) 16) 8) 4) ≤ 4 → Q (some (mI (w32 ((w32 ((w32 ((w32 ((w32 (1 + 16)) + 8)) + 4)) + 2)) + (iUsh (iUsh (iUsh (iUsh (iUsh (iAnd (iXor x0 (-1)) (w32 (x0 - 1))) 16) 8) 4) 2) 1))))) s)
  (z17 : ¬ 0 < (iAnd (iXor x0 (-1)) (w32 (x0 - 1))) → Q (some (mI (iAnd (iAnd (iXor x0 (-1)) (w32 (x0 - 1))) 32))) s) :
  Sp X d 310 [mI x0] s Q := e310 (b310_0 (fun q1 => b310_17 (fun q2 => b310_34 (fun q3 => b310_49 (fun q4 => b310_62 (fun q5 => b310_74 (z1 q1 q2 q3 q4 q5)) (fun q6 => b310_67 (b310_74 (z2 q1 q2 q3 q4 q6)))) (fun q7 => b310_55 (b310_62 (fun q8 => b310_74 (z3 q1 q2 q3 q7 q8)) (fun q9 => b310_67 (b310_74 (z4 q1 q2 q3 q7 q9)))))) (fun q10 => b310_41 (b310_49 (fun q11 => b310_62 (fun q12 => b310_74 (z5 q1 q2 q10 q11 q12)) (fun q13 => b310_67 (b310_74 (z6 q1 q2 q10 q11 q13)))) (fun q14 => b310_55 (b310_62 (fun q15 => b310_74 (z7 q1 q2 q10 q14 q15)) (fun q16 => b310_67 (b310_74 (z8 q1 q2 q10 q14 q16)))))))) (fun q17 => b310_26 (b310_34 (fun q18 => b310_49 (fun q19 => b310_62 (fun q20 => b310_74 (z9 q1 q17 q18 q19 q20)) (fun q21 => b310_67 (b310_74 (z10 q1 q17 q18 q19 q21)))) (fun q22 => b310_55 (b310_62 (fun q23 => b310_74 (z11 q1 q17 q18 q22 q23)) (fun q24 => b310_67 (b310_74 (z12 q1 q17 q18 q22 q24)))))) (fun q25 => b310_41 (b310_49 (fun q26 => b310_62 (fun q27 => b310_74 (z13 q1 q17 q25 q26 q27)) (fun q28 => b310_67 (b310_74 (z14 q1 q17 q25 q26 q28)))) (fun q29 => b310_55 (b310_62 (fun q30 => b310_74 (z15 q1 q17 q25 q29 q30)) (fun q31 => b310_67 (b310_74 (z16 q1 q17 q25 q29 q31)))))))))) (fun q32 => b310_12 (z17 q32)))

theorem c310 {X : (Nat → Int) × Nat} {d : Nat} {s : mSt} {Q : mQ} {x0 : Int} (p1 : 0 < x0 ∧ x0 < 1073741824) (k : Q (some (mI (fd (bq x0) 30))) s) : Sp X d 310 [mI x0] s Q := by
  obtain ⟨x, rfl⟩ := nat_of (show 0 ≤ x0 by omega)
  have hx : x < 1073741824 := by omega
  have h0 : 0 ≤ fd (bq (x : Int)) 30 := by
    apply Classical.byContradiction; intro hn
    have hz := fd_neg.1 (Int.not_le.1 hn)
    have : (x : Int) = 0 := bq_ext (by unfold i3; omega) (by unfold i3; omega) (fun i hi => by
      rw [bq_0]
      by_cases h3 : i < 30
      · exact hz i h3
      · exact bq_lt (k := 30) (by omega) (by decide) (by omega))
    omega
  have hr := fd_ge (f := bq (x : Int)) (n := 30)
  have ⟨s1, s2⟩ := fd_spec h0
  have hm := low_mask (k := (fd (bq (x : Int)) 30).toNat) hx (by omega) (by rw [← bq_nat (by omega)]; exact s1) (fun i hi => by rw [← bq_nat (by omega)]; exact s2 i hi)
  have hn := ntzF_ok ⟨(fd (bq (x : Int)) 30).toNat, by omega⟩
  dsimp only at hn
  rw [← hm, Int.toNat_of_nonneg h0] at hn
  have key : Q (some (mI (ntzF (iAnd (iXor (x : Int) (-1)) (w32 ((x : Int) - 1)))))) s := by rw [hn]; exact k
  clear hn hm s1 s2 hr h0 k
  revert key
  unfold ntzF
  refine fun key => v310 ?_ ?_ ?_ ?_ ?_ ?_ ?_ ?_ ?_ ?_ ?_ ?_ ?_ ?_ ?_ ?_ ?_
  all_goals intros
  all_goals (simp only [*, if_true, if_false, not_false_eq_true] at key; exact key)
