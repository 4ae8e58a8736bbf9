/-! numbers and bits of the small machine -/
theorem bdm {a : Nat} (h : decide (a ∈ bdL) = true) : isBd a := (of_decide_eq_true h : a ∈ bdL)
theorem rlm {a : Nat} (h : decide (a ∈ rlL) = true) : isRl a := (of_decide_eq_true h : a ∈ rlL)
theorem scm {a : Nat} (h : decide (a ∈ scL) = true) : isSc a := (of_decide_eq_true h : a ∈ scL)
theorem ntm {a : Nat} (h : decide (a ∈ ntL) = true) : isNt a := (of_decide_eq_true h : a ∈ ntL)
theorem w32_of {x : Int} (h : -2147483648 ≤ x ∧ x < 2147483648) : w32 x = x := by
  unfold w32
  rw [Int.bmod_def]
  split <;> omega
theorem w64_of {x : Int} (h : -9223372036854775808 ≤ x ∧ x < 9223372036854775808) : w64 x = x := by
  unfold w64
  rw [Int.bmod_def]
  split <;> omega
theorem uS_eq (s : mSt) (a k : Nat) (x : Int) : uS s a k x a k = x := by simp [uS]
theorem uS_cell {s : mSt} {a k b : Nat} {x : Int} (h : b ≠ a) : uS s a k x b = s b := by
  funext j; simp [uS, h]
theorem uS_at (s : mSt) (a k : Nat) (x : Int) (j : Nat) : uS s a k x a j = if j = k then x else s a j := by simp [uS]
theorem cS_cell {s : mSt} {a sp b dp n c : Nat} (h : c ≠ b) : cS s a sp b dp n c = s c := by
  funext j; simp [cS, h]
theorem cS_at (s : mSt) (a sp b dp n j : Nat) : cS s a sp b dp n b j = if dp ≤ j ∧ j < dp + n then s a (sp + (j - dp)) else s b j := by simp [cS]
def i3 (x : Int) : Prop := -2147483648 ≤ x ∧ x < 2147483648
/-- bit i of an int -/
def bq (x : Int) (i : Nat) : Bool := (BitVec.ofInt 32 x).getLsbD i
abbrev bt (x k : Int) : Prop := bq x k.toNat = true
theorem bv_i (x : Int) : (Int32.ofInt x).toBitVec = BitVec.ofInt 32 x := rfl
theorem bq_toInt (v : Int32) (i : Nat) : bq v.toInt i = v.toBitVec.getLsbD i := by
  unfold bq
  rw [show BitVec.ofInt 32 v.toInt = v.toBitVec from by rw [← Int32.toInt_toBitVec]; exact BitVec.ofInt_toInt]
theorem bq_and (x y : Int) (i : Nat) : bq (iAnd x y) i = (bq x i && bq y i) := by
  unfold iAnd; rw [bq_toInt]; simp [bq, bv_i]
theorem bq_or (x y : Int) (i : Nat) : bq (iOr x y) i = (bq x i || bq y i) := by
  unfold iOr; rw [bq_toInt]; simp [bq, bv_i]
theorem bq_xor (x y : Int) (i : Nat) : bq (iXor x y) i = (bq x i != bq y i) := by
  unfold iXor; rw [bq_toInt]; simp [bq, bv_i]
theorem bq_hi (x : Int) {i : Nat} (h : 32 ≤ i) : bq x i = false := by unfold bq; exact BitVec.getLsbD_of_ge _ _ h
theorem bq_m1 (i : Nat) : bq (-1) i = decide (i < 32) := by
  unfold bq
  rw [show BitVec.ofInt 32 (-1) = BitVec.allOnes 32 from by decide, BitVec.getLsbD_allOnes]
theorem bq_0 (i : Nat) : bq 0 i = false := by
  unfold bq; rw [show BitVec.ofInt 32 0 = 0#32 from rfl]; simp
theorem bq_not (x : Int) (i : Nat) : bq (iXor x (-1)) i = (decide (i < 32) && !bq x i) := by
  rw [bq_xor, bq_m1]
  by_cases h : i < 32
  · simp [h]
  · simp [h, bq_hi x (Nat.le_of_not_lt h)]
theorem sh_amt {k : Int} (h : 0 ≤ k ∧ k < 32) : ((Int32.ofInt k &&& 31).toBitVec).toNat = k.toNat := by
  obtain ⟨n, rfl⟩ := Int.eq_ofNat_of_zero_le h.1
  have hn : n < 32 := by omega
  have : ∀ m : Fin 32, ((Int32.ofInt (m.val : Int) &&& 31).toBitVec).toNat = m.val := by decide
  simpa using this ⟨n, hn⟩
theorem sh_mod {k : Int} (h : 0 ≤ k ∧ k < 32) : ((Int32.ofInt k &&& 31).toBitVec.smod 32).toNat = k.toNat := by
  obtain ⟨n, rfl⟩ := Int.eq_ofNat_of_zero_le h.1
  have hn : n < 32 := by omega
  have : ∀ m : Fin 32, ((Int32.ofInt (m.val : Int) &&& 31).toBitVec.smod 32).toNat = m.val := by decide
  simpa using this ⟨n, hn⟩
theorem bq_shl (x : Int) {k : Int} (h : 0 ≤ k ∧ k < 32) (i : Nat) : bq (iShl x k) i = (decide (i < 32) && decide (k.toNat ≤ i) && bq x (i - k.toNat)) := by
  unfold iShl; rw [bq_toInt, Int32.toBitVec_shiftLeft]
  rw [BitVec.shiftLeft_eq', sh_mod h, BitVec.getLsbD_shiftLeft]
  unfold bq; rw [bv_i]
  by_cases h1 : i < 32 <;> by_cases h2 : k.toNat ≤ i <;> simp [h1, h2] <;> omega
theorem bq_shr (x : Int) {k : Int} (h : 0 ≤ k ∧ k < 32) (i : Nat) : bq (iShr x k) i = (decide (i < 32) && (if i + k.toNat < 32 then bq x (i + k.toNat) else bq x 31)) := by
  unfold iShr; rw [bq_toInt, Int32.toBitVec_shiftRight]
  rw [BitVec.sshiftRight_eq', sh_mod h, BitVec.getLsbD_sshiftRight]
  unfold bq; rw [bv_i]
  by_cases h1 : i < 32
  · have h3 : ¬ 32 ≤ i := by omega
    simp only [h1, h3, decide_true, decide_false, Bool.not_false, Bool.true_and]
    by_cases h2 : k.toNat + i < 32
    · rw [if_pos h2, if_pos (by omega), Nat.add_comm]
    · rw [if_neg h2, if_neg (by omega), BitVec.msb_eq_getLsbD_last]
  · have h3 : 32 ≤ i := by omega
    simp [h1, h3]
theorem bq_ext {x y : Int} (hx : i3 x) (hy : i3 y) (h : ∀ i, i < 32 → bq x i = bq y i) : x = y := by
  have e : BitVec.ofInt 32 x = BitVec.ofInt 32 y := BitVec.eq_of_getLsbD_eq (fun i hi => h i hi)
  have e2 : (BitVec.ofInt 32 x).toInt = (BitVec.ofInt 32 y).toInt := by rw [e]
  rw [BitVec.toInt_ofInt, BitVec.toInt_ofInt] at e2
  have a1 : w32 x = x := w32_of hx
  have a2 : w32 y = y := w32_of hy
  unfold w32 at a1 a2
  rw [show (2 ^ 32 : Nat) = 4294967296 from rfl] at e2
  omega
theorem i3_i32 (v : Int32) : i3 v.toInt := ⟨Int32.le_toInt v, Int32.toInt_lt v⟩
theorem i3_and (x y : Int) : i3 (iAnd x y) := i3_i32 _
theorem i3_or (x y : Int) : i3 (iOr x y) := i3_i32 _
theorem i3_xor (x y : Int) : i3 (iXor x y) := i3_i32 _
theorem i3_shl (x y : Int) : i3 (iShl x y) := i3_i32 _
theorem i3_shr (x y : Int) : i3 (iShr x y) := i3_i32 _
theorem i3_ush (x y : Int) : i3 (iUsh x y) := i3_i32 _
theorem bq_1 (i : Nat) : bq 1 i = decide (i = 0) := by
  unfold bq; rw [show BitVec.ofInt 32 1 = 1#32 from rfl]
  rw [BitVec.getLsbD_one]
  by_cases h : i = 0 <;> simp [h]
/-- the test of a bit, as the programs do it -/
theorem and1_bt (x : Int) {k : Int} (h : 0 ≤ k ∧ k < 32) : iAnd (iShr x k) 1 = (if bq x k.toNat = true then 1 else 0) := by
  apply bq_ext (i3_and _ _) (by split <;> (unfold i3; omega))
  intro i hi
  rw [bq_and, bq_shr x h, bq_1]
  by_cases h0 : i = 0
  · subst h0
    rw [if_pos (by omega)]
    simp only [Nat.zero_add, decide_true, Bool.true_and, Bool.and_true, show (0:Nat) < 32 from by decide]
    cases hb : bq x k.toNat <;> simp [bq_0, bq_1]
  · cases hb : bq x k.toNat <;> simp [bq_0, bq_1, h0]
theorem bt_iff (x : Int) {k : Int} (h : 0 ≤ k ∧ k < 32) : iAnd (iShr x k) 1 = 1 ↔ bt x k := by
  rw [and1_bt x h]; unfold bt
  cases bq x k.toNat <;> simp
theorem bt_iff0 (x : Int) {k : Int} (h : 0 ≤ k ∧ k < 32) : iAnd (iShr x k) 1 = 0 ↔ ¬ bt x k := by
  rw [and1_bt x h]; unfold bt
  cases bq x k.toNat <;> simp
/-- bits of a number that isn't negative -/
theorem bq_nat {n : Nat} (h : n < 4294967296) (i : Nat) : bq (n : Int) i = n.testBit i := by
  unfold bq
  rw [BitVec.ofInt_natCast, BitVec.getLsbD_ofNat]
  by_cases hi : i < 32
  · simp [hi]
  · simp [hi]
    exact (Nat.testBit_lt_two_pow (Nat.lt_of_lt_of_le h (Nat.pow_le_pow_right (n := 2) (by decide) (Nat.le_of_not_lt hi))))
theorem bq_int {x : Int} (h : 0 ≤ x ∧ x < 4294967296) (i : Nat) : bq x i = x.toNat.testBit i := by
  obtain ⟨n, rfl⟩ := Int.eq_ofNat_of_zero_le h.1
  exact bq_nat (by omega) i
theorem bq_lt {x : Int} {k : Nat} (h : 0 ≤ x ∧ x < 2 ^ k) (hk : k ≤ 32) {i : Nat} (hi : k ≤ i) : bq x i = false := by
  obtain ⟨n, rfl⟩ := Int.eq_ofNat_of_zero_le h.1
  have h1 : n < 2 ^ k := by exact_mod_cast h.2
  have h2 : (2:Nat) ^ k ≤ 2 ^ 32 := Nat.pow_le_pow_right (by decide) hk
  rw [bq_nat (by omega)]
  exact Nat.testBit_lt_two_pow (Nat.lt_of_lt_of_le h1 (Nat.pow_le_pow_right (by decide) hi))
/-- a number whose high bits are none is small -/
theorem lt_of_bq {x : Int} (hx : i3 x) {k : Nat} (hk : k < 32) (h : ∀ i, k ≤ i → i < 32 → bq x i = false) : 0 ≤ x ∧ x < 2 ^ k := by
  have h31 : bq x 31 = false := h 31 (by omega) (by omega)
  have h0 : 0 ≤ x := by
    unfold i3 at hx
    apply Classical.byContradiction; intro hn
    have hn2 : x < 0 := by omega
    have e : BitVec.ofInt 32 x = BitVec.ofInt 32 (((x + 4294967296).toNat : Nat) : Int) := by
      apply BitVec.eq_of_toInt_eq
      rw [BitVec.toInt_ofInt, BitVec.toInt_ofInt, Int.toNat_of_nonneg (by omega)]
      rw [Int.bmod_def, Int.bmod_def]
      split <;> split <;> omega
    have : bq x 31 = ((x + 4294967296).toNat).testBit 31 := by
      rw [← bq_nat (by omega)]; unfold bq; rw [e]
    rw [this, Nat.testBit_eq_decide_div_mod_eq] at h31
    simp at h31
    omega
  refine ⟨h0, ?_⟩
  obtain ⟨n, rfl⟩ := Int.eq_ofNat_of_zero_le h0
  have hn : n < 2147483648 := by unfold i3 at hx; omega
  have : n < 2 ^ k := by
    apply Nat.lt_pow_two_of_testBit
    intro i hi
    by_cases h32 : i < 32
    · rw [← bq_nat (by omega)]; exact h i hi h32
    · exact Nat.testBit_lt_two_pow (Nat.lt_of_lt_of_le hn (Nat.le_trans (show 2147483648 ≤ 2 ^ 32 by decide) (Nat.pow_le_pow_right (by decide) (Nat.le_of_not_lt h32))))
  exact_mod_cast this
theorem shl1 {k : Nat} (h : k < 31) : iShl 1 (k : Int) = 2 ^ k := by
  have : ∀ m : Fin 31, iShl 1 ((m.val : Nat) : Int) = 2 ^ m.val := by decide
  exact this ⟨k, h⟩
theorem bq_pow {k : Nat} (h : k < 32) (i : Nat) : bq (2 ^ k) i = decide (i = k) := by
  have h2 : (2:Nat) ^ k < 4294967296 := Nat.lt_of_le_of_lt (Nat.pow_le_pow_right (n := 2) (by decide) (Nat.le_of_lt_succ h)) (by decide)
  rw [show ((2:Int) ^ k) = ((2 ^ k : Nat) : Int) from by simp, bq_nat h2, Nat.testBit_two_pow]
  by_cases e : k = i
  · simp [e]
  · simp [e, Ne.symm e]
/-! sums, tests and searches over 0 .. n - 1 -/
def sm (f : Nat → Int) : Nat → Int
  | 0 => 0
  | n + 1 => sm f n + f n
def an (f : Nat → Bool) : Nat → Bool
  | 0 => false
  | n + 1 => an f n || f n
/-- the least below n, or -1 -/
def fd (f : Nat → Bool) : Nat → Int
  | 0 => -1
  | n + 1 => if fd f n < 0 then (if f n = true then (n : Int) else -1) else fd f n
def cn (f : Nat → Bool) : Nat → Int
  | 0 => 0
  | n + 1 => cn f n + (if f n = true then 1 else 0)
/-- as bits -/
def os (f : Nat → Bool) : Nat → Int
  | 0 => 0
  | n + 1 => os f n + (if f n = true then 2 ^ n else 0)
def mx (f : Nat → Int) : Nat → Int
  | 0 => 0
  | n + 1 => if mx f n < f n then f n else mx f n
theorem sm_s (f : Nat → Int) (n : Nat) : sm f (n + 1) = sm f n + f n := rfl
theorem an_s (f : Nat → Bool) (n : Nat) : an f (n + 1) = (an f n || f n) := rfl
theorem fd_s (f : Nat → Bool) (n : Nat) : fd f (n + 1) = if fd f n < 0 then (if f n = true then (n : Int) else -1) else fd f n := rfl
theorem cn_s (f : Nat → Bool) (n : Nat) : cn f (n + 1) = cn f n + (if f n = true then 1 else 0) := rfl
theorem os_s (f : Nat → Bool) (n : Nat) : os f (n + 1) = os f n + (if f n = true then 2 ^ n else 0) := rfl
theorem mx_s (f : Nat → Int) (n : Nat) : mx f (n + 1) = if mx f n < f n then f n else mx f n := rfl
theorem sm_congr {f g : Nat → Int} : ∀ {n : Nat}, (∀ i, i < n → f i = g i) → sm f n = sm g n
  | 0, _ => rfl
  | n + 1, h => by unfold sm; rw [sm_congr (n := n) (fun i hi => h i (by omega)), h n (by omega)]
theorem an_congr {f g : Nat → Bool} : ∀ {n : Nat}, (∀ i, i < n → f i = g i) → an f n = an g n
  | 0, _ => rfl
  | n + 1, h => by unfold an; rw [an_congr (n := n) (fun i hi => h i (by omega)), h n (by omega)]
theorem fd_congr {f g : Nat → Bool} : ∀ {n : Nat}, (∀ i, i < n → f i = g i) → fd f n = fd g n
  | 0, _ => rfl
  | n + 1, h => by unfold fd; rw [fd_congr (n := n) (fun i hi => h i (by omega)), h n (by omega)]
theorem cn_congr {f g : Nat → Bool} : ∀ {n : Nat}, (∀ i, i < n → f i = g i) → cn f n = cn g n
  | 0, _ => rfl
  | n + 1, h => by unfold cn; rw [cn_congr (n := n) (fun i hi => h i (by omega)), h n (by omega)]
theorem os_congr {f g : Nat → Bool} : ∀ {n : Nat}, (∀ i, i < n → f i = g i) → os f n = os g n
  | 0, _ => rfl
  | n + 1, h => by unfold os; rw [os_congr (n := n) (fun i hi => h i (by omega)), h n (by omega)]
theorem mx_congr {f g : Nat → Int} : ∀ {n : Nat}, (∀ i, i < n → f i = g i) → mx f n = mx g n
  | 0, _ => rfl
  | n + 1, h => by unfold mx; rw [mx_congr (n := n) (fun i hi => h i (by omega)), h n (by omega)]
theorem an_iff {f : Nat → Bool} : ∀ {n : Nat}, an f n = true ↔ ∃ i, i < n ∧ f i = true
  | 0 => by simp [an]
  | n + 1 => by
    unfold an
    rw [Bool.or_eq_true, an_iff (n := n)]
    constructor
    · rintro (⟨i, hi, h⟩ | h)
      · exact ⟨i, by omega, h⟩
      · exact ⟨n, by omega, h⟩
    · rintro ⟨i, hi, h⟩
      by_cases e : i = n
      · subst e; exact Or.inr h
      · exact Or.inl ⟨i, by omega, h⟩
theorem fd_neg {f : Nat → Bool} : ∀ {n : Nat}, fd f n < 0 ↔ ∀ i, i < n → f i = false
  | 0 => by simp [fd]
  | n + 1 => by
    unfold fd
    constructor
    · intro h i hi
      by_cases h1 : fd f n < 0
      · rw [if_pos h1] at h
        by_cases e : i = n
        · subst e
          cases hf : f i with
          | false => rfl
          | true => rw [if_pos hf] at h; omega
        · exact (fd_neg (n := n)).1 h1 i (by omega)
      · rw [if_neg h1] at h; omega
    · intro h
      have h1 : fd f n < 0 := (fd_neg (n := n)).2 (fun i hi => h i (by omega))
      rw [if_pos h1, if_neg (by rw [h n (by omega)]; decide)]
      decide
theorem fd_ge {f : Nat → Bool} : ∀ {n : Nat}, -1 ≤ fd f n ∧ fd f n < n
  | 0 => by simp [fd]
  | n + 1 => by
    have := fd_ge (f := f) (n := n)
    unfold fd
    split
    · split <;> omega
    · omega
theorem fd_an {f : Nat → Bool} {n : Nat} : 0 ≤ fd f n ↔ an f n = true := by
  constructor
  · intro h
    cases ha : an f n with
    | true => rfl
    | false =>
      exfalso
      have : fd f n < 0 := fd_neg.2 (fun i hi => by
        cases hf : f i with
        | false => rfl
        | true => rw [an_iff.2 ⟨i, hi, hf⟩] at ha; exact absurd ha (by decide))
      omega
  · intro h
    apply Classical.byContradiction; intro hn
    obtain ⟨i, hi, hf⟩ := an_iff.1 h
    have := fd_neg.1 (Int.not_le.1 hn) i hi
    rw [hf] at this; exact absurd this (by decide)
theorem fd_spec {f : Nat → Bool} : ∀ {n : Nat}, 0 ≤ fd f n → f (fd f n).toNat = true ∧ ∀ i, i < (fd f n).toNat → f i = false
  | 0, h => by simp [fd] at h
  | n + 1, h => by
    unfold fd at h ⊢
    by_cases h1 : fd f n < 0
    · rw [if_pos h1] at h ⊢
      by_cases h2 : f n = true
      · rw [if_pos h2]
        refine ⟨by simpa using h2, fun i hi => fd_neg.1 h1 i (by simpa using hi)⟩
      · rw [if_neg h2] at h; omega
    · rw [if_neg h1] at h ⊢
      exact fd_spec h
theorem fd_eq {f : Nat → Bool} {n k : Nat} (hk : k < n) (h1 : f k = true) (h2 : ∀ i, i < k → f i = false) : fd f n = k := by
  have h0 : 0 ≤ fd f n := fd_an.2 (an_iff.2 ⟨k, hk, h1⟩)
  have ⟨h3, h4⟩ := fd_spec h0
  rcases Nat.lt_trichotomy (fd f n).toNat k with h | h | h
  · rw [h2 _ h] at h3; exact absurd h3 (by decide)
  · omega
  · rw [h4 _ h] at h1; exact absurd h1 (by decide)
theorem cn_le {f : Nat → Bool} : ∀ {n : Nat}, 0 ≤ cn f n ∧ cn f n ≤ n
  | 0 => by simp [cn]
  | n + 1 => by
    have := cn_le (f := f) (n := n)
    unfold cn
    split <;> omega
theorem os_lt {f : Nat → Bool} : ∀ {n : Nat}, 0 ≤ os f n ∧ os f n < 2 ^ n
  | 0 => by simp [os]
  | n + 1 => by
    have := os_lt (f := f) (n := n)
    unfold os
    rw [Int.pow_succ]
    split <;> omega
theorem os_bq {f : Nat → Bool} : ∀ {n : Nat}, n ≤ 31 → ∀ i, bq (os f n) i = (decide (i < n) && f i)
  | 0, _, i => by simp [os, bq_0]
  | n + 1, hn, i => by
    have h := os_lt (f := f) (n := n)
    have ih := os_bq (f := f) (n := n) (by omega)
    have hp : ((2:Int) ^ n) = ((2 ^ n : Nat) : Int) := by simp
    have hm : (2:Nat) ^ n ≤ 2 ^ 30 := Nat.pow_le_pow_right (by decide) (by omega)
    obtain ⟨k, hk⟩ := Int.eq_ofNat_of_zero_le h.1
    have hk2 : k < 2 ^ n := by rw [hk, hp] at h; exact_mod_cast h.2
    unfold os
    by_cases hf : f n = true
    · rw [if_pos hf, hk, hp, ← Int.natCast_add, bq_nat (by omega)]
      have ihi := ih i
      rw [hk, bq_nat (by omega)] at ihi
      by_cases e : i = n
      · subst e
        rw [Nat.add_comm, Nat.testBit_two_pow_add_eq, Nat.testBit_lt_two_pow hk2]
        simp [hf]
      · by_cases h3 : i < n
        · rw [Nat.add_comm, Nat.testBit_two_pow_add_gt h3, ihi]
          simp [h3, show i < n + 1 by omega]
        · rw [Nat.testBit_lt_two_pow]
          · simp [show ¬ i < n + 1 by omega]
          · have : (2:Nat) ^ (n + 1) ≤ 2 ^ i := Nat.pow_le_pow_right (by decide) (by omega)
            rw [Nat.pow_succ] at this; omega
    · rw [if_neg hf, Int.add_zero, ih i]
      by_cases e : i = n
      · subst e; simp [hf]
      · by_cases h3 : i < n
        · simp [h3, show i < n + 1 by omega]
        · simp [h3, show ¬ i < n + 1 by omega]
/-- an int below 2^n by its bits -/
theorem os_of {x : Int} {n : Nat} (hn : n ≤ 31) (h : 0 ≤ x ∧ x < 2 ^ n) : x = os (bq x) n := by
  have h2 : (2:Int) ^ n ≤ 2 ^ 31 := by
    have : (2:Nat) ^ n ≤ 2 ^ 31 := Nat.pow_le_pow_right (by decide) hn
    exact_mod_cast this
  have h3 := os_lt (f := bq x) (n := n)
  apply bq_ext (by unfold i3; omega) (by unfold i3; omega)
  intro i hi
  rw [os_bq hn]
  by_cases hl : i < n
  · simp [hl]
  · simp [hl]; exact bq_lt h (by omega) (by omega)
theorem or_os {f : Nat → Bool} {n : Nat} (hn : n < 31) : iOr (os f n) (2 ^ n) = os f n + 2 ^ n := by
  have h := os_lt (f := f) (n := n)
  have h2 : (2:Int) ^ n ≤ 2 ^ 30 := by
    have : (2:Nat) ^ n ≤ 2 ^ 30 := Nat.pow_le_pow_right (by decide) (by omega)
    exact_mod_cast this
  have h0 : (0:Int) ≤ 2 ^ n := by omega
  apply bq_ext (i3_or _ _) (by unfold i3; omega)
  intro i hi
  have e : os (fun j => decide (j = n) || f j) (n + 1) = os f n + 2 ^ n := by
    rw [os_s, if_pos (by simp)]
    rw [os_congr (fun j hj => by simp [show ¬ j = n by omega] : ∀ j, j < n → (fun j => decide (j = n) || f j) j = f j)]
  rw [← e, bq_or, os_bq (by omega), os_bq (by omega), bq_pow (by omega)]
  by_cases e1 : i = n
  · subst e1; simp
  · by_cases e2 : i < n
    · simp [e1, e2, show i < n + 1 by omega]
    · simp [e1, e2, show ¬ i < n + 1 by omega]
theorem or_0 {x : Int} (h : i3 x) : iOr x 0 = x := bq_ext (i3_or _ _) h (fun i _ => by rw [bq_or, bq_0, Bool.or_false])
theorem or_0l {x : Int} (h : i3 x) : iOr 0 x = x := bq_ext (i3_or _ _) h (fun i _ => by rw [bq_or, bq_0, Bool.false_or])
theorem mx_ge {f : Nat → Int} : ∀ {n : Nat}, 0 ≤ mx f n
  | 0 => by simp [mx]
  | n + 1 => by
    have := mx_ge (f := f) (n := n)
    unfold mx; split <;> omega
theorem mx_le {f : Nat → Int} {b : Int} (hb : 0 ≤ b) : ∀ {n : Nat}, (∀ i, i < n → f i ≤ b) → mx f n ≤ b
  | 0, _ => by simpa [mx] using hb
  | n + 1, h => by
    have := mx_le (n := n) hb (fun i hi => h i (by omega))
    have := h n (by omega)
    unfold mx; split <;> omega
theorem sm_bd {f : Nat → Int} {b : Int} : ∀ {n : Nat}, (∀ i, i < n → 0 ≤ f i ∧ f i ≤ b) → 0 ≤ sm f n ∧ sm f n ≤ n * b
  | 0, _ => by simp [sm]
  | n + 1, h => by
    have h1 := sm_bd (n := n) (fun i hi => h i (by omega))
    have h2 := h n (by omega)
    unfold sm
    rw [Int.natCast_succ, Int.add_mul]
    omega
