/-! faces that ask: apart, pence, watchers -/
def wcF (a : Rw) (x : Int) (t : Nat) : Int := (cn (fun c => pl a c && kpt a c t) (nc a) + x - 1) / x
def waA (a : Rw) (x y : Int) : Int := if a 0 = 1 ∧ (1 ≤ x ∧ x ≤ 6) ∧ (0 ≤ y ∧ y ≤ 1) then (if y = 1 then (am (wcF a x) 30 : Int) else wcF a x (am (wcF a x) 30)) else -1
theorem v146 {X : (Nat → Int) × Nat} {d : Nat} {s : mSt} {Q : mQ} {x1 : Int} {x2 : Int}
  (z1 : BI s 18)
  (z2 : ((0 ≤ x1 ∧ x1 < s 18 3) ∧ pl (brow s 18) x1.toNat = true) → BI s 18)
  (z3 : ((0 ≤ x1 ∧ x1 < s 18 3) ∧ pl (brow s 18) x1.toNat = true) → ((0 ≤ x2 ∧ x2 < s 18 3) ∧ pl (brow s 18) x2.toNat = true) → ¬ x1 = x2 → BI s 18 ∧ Pg (brow s 18) ∧ ((0 ≤ x1 ∧ x1 < s 18 3) ∧ pl (brow s 18) x1.toNat = true) ∧ (0 ≤ x2 ∧ x2 < s 18 3) ∧ pl (brow s 18) x2.toNat = true)
  (z4 : ((0 ≤ x1 ∧ x1 < s 18 3) ∧ pl (brow s 18) x1.toNat = true) → ((0 ≤ x2 ∧ x2 < s 18 3) ∧ pl (brow s 18) x2.toNat = true) → ¬ x1 = x2 → 0 ≤ (os (mnm (brow s 18) x1.toNat x2.toNat) 30) ∧ (os (mnm (brow s 18) x1.toNat x2.toNat) 30) < 1073741824)
  (z5 : ((0 ≤ x1 ∧ x1 < s 18 3) ∧ pl (brow s 18) x1.toNat = true) → ((0 ≤ x2 ∧ x2 < s 18 3) ∧ pl (brow s 18) x2.toNat = true) → ¬ x1 = x2 → Q (some (mI (cn (bq (os (mnm (brow s 18) x1.toNat x2.toNat) 30)) 30))) s)
  (z6 : ((0 ≤ x1 ∧ x1 < s 18 3) ∧ pl (brow s 18) x1.toNat = true) → ((0 ≤ x2 ∧ x2 < s 18 3) ∧ pl (brow s 18) x2.toNat = true) → x1 = x2 → Q (some (mI (-1))) s)
  (z7 : ((0 ≤ x1 ∧ x1 < s 18 3) ∧ pl (brow s 18) x1.toNat = true) → (¬ ((0 ≤ x2 ∧ x2 < s 18 3) ∧ pl (brow s 18) x2.toNat = true)) → Q (some (mI (-1))) s)
  (z8 : (¬ ((0 ≤ x1 ∧ x1 < s 18 3) ∧ pl (brow s 18) x1.toNat = true)) → Q (some (mI (-1))) s) :
  Sp X (d + 3) 146 [mR 0, mI x1, mI x2] s Q := e146 (b146_0 (c9 (bdm rfl) z1 (fun q1 => ⟨1, rfl, b146_13 (fun q => absurd q (by decide)) (fun _ => b146_16 (c9 (bdm rfl) (z2 q1) (fun q2 => ⟨1, rfl, b146_21 (fun q => absurd q (by decide)) (fun _ => b146_24 (fun q3 => b146_31 (c29 (bdm rfl) (z3 q1 q2 q3) ⟨_, rfl, b146_37 (c309 (z4 q1 q2 q3) ⟨_, rfl, b146_40 (z5 q1 q2 q3)⟩)⟩)) (fun q4 => b146_29 (z6 q1 q2 q4)))⟩) (fun q5 => ⟨0, rfl, b146_21 (fun _ => b146_29 (z7 q1 q5)) (fun q => absurd q (by decide))⟩)))⟩) (fun q6 => ⟨0, rfl, b146_13 (fun _ => b146_29 (z8 q6)) (fun q => absurd q (by decide))⟩)))

theorem c146 {X : (Nat → Int) × Nat} {d : Nat} {s : mSt} {Q : mQ} {x1 : Int} {x2 : Int} (p1 : BI s 18 ∧ Pg (brow s 18)) (k : ∀ (v : Int) (t : mSt), (YN (drC (brow s 18) x1 ∧ drC (brow s 18) x2 ∧ ¬ x1 = x2) (v = cn (mnm (brow s 18) x1.toNat x2.toNat) 30) (v = -1) ∧ t = s) → Q (some (mI v)) t) : Sp X (d + 3) 146 [mR 0, mI x1, mI x2] s Q := by
  obtain ⟨hB, hg⟩ := p1
  have h4 := bi4 hB
  have dr : ∀ x : Int, ((0 ≤ x ∧ x < s 18 3) ∧ pl (brow s 18) x.toNat = true) ↔ drC (brow s 18) x := fun x => by unfold drC; rw [h4]
  refine v146 hB (fun _ => hB) (fun g1 g2 g3 => ⟨hB, hg, g1, g2.1, g2.2⟩) (fun g1 g2 g3 => os_30 (by decide)) (fun g1 g2 g3 => ?_) (fun g1 g2 g3 => ?_) (fun g1 g2 => ?_) (fun g1 => ?_)
  · rw [cn_os (by decide)]
    exact k _ s ⟨YN_y ⟨(dr _).1 g1, (dr _).1 g2, g3⟩ rfl, rfl⟩
  · exact k _ s ⟨YN_n (fun z => z.2.2 g3) rfl, rfl⟩
  · exact k _ s ⟨YN_n (fun z => g2 ((dr _).2 z.2.1)) rfl, rfl⟩
  · exact k _ s ⟨YN_n (fun z => g1 ((dr _).2 z.1)) rfl, rfl⟩
theorem v276 {X : (Nat → Int) × Nat} {d : Nat} {s : mSt} {Q : mQ} {x1 : Int} {x2 : Int}
  (I28 : Int → Int → Prop) (m28 : Int → Int → Nat)
  (z1 : ∀ y3 : Int, ∀ y4 : Int, I28 y3 y4 → 30 ≤ y4 → Q (some (mI y3)) s)
  (z2 : ∀ y3 : Int, ∀ y4 : Int, I28 y3 y4 → ¬ 30 ≤ y4 → Ok (s 417) ∧ (0 ≤ x1 ∧ x1 < 6) ∧ (0 ≤ x2 ∧ x2 < 6) ∧ (0 ≤ y4 ∧ y4 < 30))
  (z3 : ∀ y3 : Int, ∀ y4 : Int, I28 y3 y4 → ¬ 30 ≤ y4 → mnm (s 417) x1.toNat x2.toNat y4.toNat = true → I28 (w32 (y3 + 1)) (w32 (y4 + 1)) ∧ m28 (w32 (y3 + 1)) (w32 (y4 + 1)) < m28 y3 y4)
  (z4 : ∀ y3 : Int, ∀ y4 : Int, I28 y3 y4 → ¬ 30 ≤ y4 → ¬ (mnm (s 417) x1.toNat x2.toNat y4.toNat = true) → I28 (w32 (y3 + 0)) (w32 (y4 + 1)) ∧ m28 (w32 (y3 + 0)) (w32 (y4 + 1)) < m28 y3 y4)
  (z5 : Ok (s 417))
  (z6 : ((0 ≤ x1 ∧ x1 < s 417 4) ∧ s 417 (41 + x1.toNat) = 0) → Ok (s 417))
  (z7 : ((0 ≤ x1 ∧ x1 < s 417 4) ∧ s 417 (41 + x1.toNat) = 0) → ((0 ≤ x2 ∧ x2 < s 417 4) ∧ s 417 (41 + x2.toNat) = 0) → ¬ x1 = x2 → I28 0 0)
  (z8 : ((0 ≤ x1 ∧ x1 < s 417 4) ∧ s 417 (41 + x1.toNat) = 0) → ((0 ≤ x2 ∧ x2 < s 417 4) ∧ s 417 (41 + x2.toNat) = 0) → x1 = x2 → Q (some (mI (-1))) s)
  (z9 : ((0 ≤ x1 ∧ x1 < s 417 4) ∧ s 417 (41 + x1.toNat) = 0) → (¬ ((0 ≤ x2 ∧ x2 < s 417 4) ∧ s 417 (41 + x2.toNat) = 0)) → Q (some (mI (-1))) s)
  (z10 : (¬ ((0 ≤ x1 ∧ x1 < s 417 4) ∧ s 417 (41 + x1.toNat) = 0)) → Q (some (mI (-1))) s) :
  Sp X (d + 4) 276 [mR 407, mI x1, mI x2] s Q := by
  have L : ∀ k : Nat, (∀ (y3 : Int) (y4 : Int), I28 y3 y4 → m28 y3 y4 < k → Wp X (d + 4) 276 28 [some (mR 407), some (mI x1), some (mI x2), some (mI y3), some (mI y4)] [] s Q) := by
    intro k
    induction k with
    | zero => exact fun _ _ _ h => absurd h (Nat.not_lt_zero _)
    | succ k ih => exact fun y3 y4 hI hm => b276_28 (fun q1 => b276_60 (z1 y3 y4 hI q1)) (fun q2 => b276_35 (c275 (z2 y3 y4 hI q2) (fun q3 => ⟨1, rfl, b276_44 (fun q => absurd q (by decide)) (fun _ => b276_47 (b276_52 (ih (w32 (y3 + 1)) (w32 (y4 + 1)) (z3 y3 y4 hI q2 q3).1 (Nat.lt_of_lt_of_le (z3 y3 y4 hI q2 q3).2 (Nat.le_of_lt_succ hm)))))⟩) (fun q4 => ⟨0, rfl, b276_44 (fun _ => b276_51 (b276_52 (ih (w32 (y3 + 0)) (w32 (y4 + 1)) (z4 y3 y4 hI q2 q4).1 (Nat.lt_of_lt_of_le (z4 y3 y4 hI q2 q4).2 (Nat.le_of_lt_succ hm))))) (fun q => absurd q (by decide))⟩)))
  exact e276 (b276_0 (c216 z5 (fun q5 => ⟨1, rfl, b276_5 (fun q => absurd q (by decide)) (fun _ => b276_8 (c216 (z6 q5) (fun q6 => ⟨1, rfl, b276_13 (fun q => absurd q (by decide)) (fun _ => b276_16 (fun q7 => b276_23 ((L (m28 0 0 + 1)) 0 0 (z7 q5 q6 q7) (Nat.lt_succ_self _))) (fun q8 => b276_21 (z8 q5 q6 q8)))⟩) (fun q9 => ⟨0, rfl, b276_13 (fun _ => b276_21 (z9 q5 q9)) (fun q => absurd q (by decide))⟩)))⟩) (fun q10 => ⟨0, rfl, b276_5 (fun _ => b276_21 (z10 q10)) (fun q => absurd q (by decide))⟩)))

theorem c276 {X : (Nat → Int) × Nat} {d : Nat} {s : mSt} {Q : mQ} {x1 : Int} {x2 : Int} (p1 : Ok (s 417)) (k : ∀ (v : Int) (t : mSt), (YN (drC (s 417) x1 ∧ drC (s 417) x2 ∧ ¬ x1 = x2) (v = cn (mnm (s 417) x1.toNat x2.toNat) 30) (v = -1) ∧ t = s) → Q (some (mI v)) t) : Sp X (d + 4) 276 [mR 407, mI x1, mI x2] s Q := by
  have h := p1
  have h4 := ok4 h
  have dr : ∀ x : Int, ((0 ≤ x ∧ x < s 417 4) ∧ s 417 (41 + x.toNat) = 0) ↔ drC (s 417) x := fun x => by unfold drC; rw [pl_0]
  refine v276 (fun y3 y4 => ∃ j : Nat, y4 = j ∧ j ≤ 30 ∧ (drC (s 417) x1 ∧ drC (s 417) x2 ∧ ¬ x1 = x2) ∧ y3 = cn (mnm (s 417) x1.toNat x2.toNat) j) (fun _ y => (30 - y).toNat) ?_ ?_ ?_ ?_ h (fun _ => h) (fun g1 g2 g3 => ⟨0, rfl, by omega, ⟨(dr _).1 g1, (dr _).1 g2, g3⟩, rfl⟩) ?_ ?_ ?_
  · rintro _ _ ⟨j, rfl, hj, g, rfl⟩ hc
    have : j = 30 := by omega
    subst this
    exact k _ s ⟨YN_y g rfl, rfl⟩
  · rintro _ _ ⟨j, rfl, hj, g, rfl⟩ hc
    have a1 := g.1.1
    have a2 := g.2.1.1
    exact ⟨h, by omega, by omega, by omega⟩
  · rintro _ _ ⟨j, rfl, hj, g, rfl⟩ hc q
    rw [tnc] at q
    have b := cn_le (f := mnm (s 417) x1.toNat x2.toNat) (n := j)
    rw [w32_of (by omega), w32_of (by omega)]
    refine ⟨⟨j + 1, by omega, by omega, g, ?_⟩, by omega⟩
    rw [cn_s, if_pos q]
  · rintro _ _ ⟨j, rfl, hj, g, rfl⟩ hc q
    rw [tnc] at q
    have b := cn_le (f := mnm (s 417) x1.toNat x2.toNat) (n := j)
    rw [w32_of (by omega), w32_of (by omega)]
    refine ⟨⟨j + 1, by omega, by omega, g, ?_⟩, by omega⟩
    rw [cn_s, if_neg q]
  · intro g1 g2 g3; exact k _ s ⟨YN_n (fun z => z.2.2 g3) rfl, rfl⟩
  · intro g1 g2; exact k _ s ⟨YN_n (fun z => g2 ((dr _).2 z.2.1)) rfl, rfl⟩
  · intro g1; exact k _ s ⟨YN_n (fun z => g1 ((dr _).2 z.1)) rfl, rfl⟩
theorem v154 {X : (Nat → Int) × Nat} {d : Nat} {s : mSt} {Q : mQ} {x1 : Int} {x2 : Int}
  (z1 : x1 < 0 → Q (some (mI (-1))) s)
  (z2 : ¬ x1 < 0 → 9999 < x1 → Q (some (mI (-1))) s)
  (z3 : ¬ x1 < 0 → ¬ 9999 < x1 → (0 ≤ x2 ∧ x2 < s 18 3) → BI s 18)
  (z4 : ¬ x1 < 0 → ¬ 9999 < x1 → (0 ≤ x2 ∧ x2 < s 18 3) → ((0 ≤ x2 ∧ x2 < s 18 3) ∧ ¬ pl (brow s 18) x2.toNat = true) → Q (some (mI 0)) s)
  (z5 : ¬ x1 < 0 → ¬ 9999 < x1 → (0 ≤ x2 ∧ x2 < s 18 3) → (¬ ((0 ≤ x2 ∧ x2 < s 18 3) ∧ ¬ pl (brow s 18) x2.toNat = true)) → BI s 18 ∧ (0 ≤ x1 ∧ x1 ≤ 9999) ∧ (0 ≤ x2 ∧ x2 < s 18 3) ∧ pl (brow s 18) x2.toNat = true)
  (z6 : ¬ x1 < 0 → ¬ 9999 < x1 → (0 ≤ x2 ∧ x2 < s 18 3) → (¬ ((0 ≤ x2 ∧ x2 < s 18 3) ∧ ¬ pl (brow s 18) x2.toNat = true)) → Q (some (mI (shA (brow s 18) x1 x2.toNat))) s)
  (z7 : ¬ x1 < 0 → ¬ 9999 < x1 → (¬ (0 ≤ x2 ∧ x2 < s 18 3)) → Q (some (mI (-1))) s) :
  Sp X (d + 3) 154 [mR 0, mI x1, mI x2] s Q := e154 (b154_0 (fun q1 => b154_27 (z1 q1)) (fun q2 => b154_12 (fun q3 => b154_27 (z2 q2 q3)) (fun q4 => b154_19 (c8 (bdm rfl) (fun q5 => ⟨1, rfl, b154_24 (fun _ => b154_29 (c10 (bdm rfl) (z3 q2 q4 q5) (fun q6 => ⟨1, rfl, b154_34 (fun q => absurd q (by decide)) (fun _ => b154_37 (b154_47 (z4 q2 q4 q5 q6)))⟩) (fun q7 => ⟨0, rfl, b154_34 (fun _ => b154_41 (c30 (bdm rfl) (z5 q2 q4 q5 q7) ⟨_, rfl, b154_47 (z6 q2 q4 q5 q7)⟩)) (fun q => absurd q (by decide))⟩))) (fun q => absurd q (by decide))⟩) (fun q8 => ⟨0, rfl, b154_24 (fun q => absurd q (by decide)) (fun _ => b154_27 (z7 q2 q4 q8))⟩)))))

theorem c154 {X : (Nat → Int) × Nat} {d : Nat} {s : mSt} {Q : mQ} {x1 : Int} {x2 : Int} (p1 : BI s 18) (k : Q (some (mI (if (0 ≤ x2 ∧ x2 < brow s 18 4) ∧ (0 ≤ x1 ∧ x1 ≤ 9999) then (if pl (brow s 18) x2.toNat = true then shA (brow s 18) x1 x2.toNat else 0) else -1))) s) : Sp X (d + 3) 154 [mR 0, mI x1, mI x2] s Q := by
  have h4 := bi4 p1
  rw [← h4] at k
  have pn : (0 ≤ x2 ∧ x2 < s 18 3) → (¬ ((0 ≤ x2 ∧ x2 < s 18 3) ∧ ¬ pl (brow s 18) x2.toNat = true)) → pl (brow s 18) x2.toNat = true := fun g q => by
    apply Classical.byContradiction; intro z; exact q ⟨g, z⟩
  refine v154 (fun g => ?_) (fun g1 g2 => ?_) (fun _ _ _ => p1) (fun g1 g2 g3 q => ?_) (fun g1 g2 g3 q => ⟨p1, by omega, g3, pn g3 q⟩) (fun g1 g2 g3 q => ?_) (fun g1 g2 g3 => ?_)
  · rw [if_neg (by omega)] at k; exact k
  · rw [if_neg (by omega)] at k; exact k
  · rw [if_pos ⟨g3, by omega⟩, if_neg q.2] at k; exact k
  · rw [if_pos ⟨g3, by omega⟩, if_pos (pn g3 q)] at k; exact k
  · rw [if_neg (fun z => g3 z.1)] at k; exact k
theorem v144 {X : (Nat → Int) × Nat} {d : Nat} {s : mSt} {Q : mQ} {x1 : Int} {x2 : Int}
  (z1 : 0 < s 18 0 → x1 < 1 → Q (some (mI (-1))) s)
  (z2 : 0 < s 18 0 → ¬ x1 < 1 → 6 < x1 → Q (some (mI (-1))) s)
  (z3 : 0 < s 18 0 → ¬ x1 < 1 → ¬ 6 < x1 → x2 < 0 → Q (some (mI (-1))) s)
  (z4 : 0 < s 18 0 → ¬ x1 < 1 → ¬ 6 < x1 → ¬ x2 < 0 → x2 ≤ 1 → BI s 18 ∧ (1 ≤ x1 ∧ x1 ≤ 6))
  (z5 : 0 < s 18 0 → ¬ x1 < 1 → ¬ 6 < x1 → ¬ x2 < 0 → x2 ≤ 1 → ¬ x2 = 1 → BI s 18 ∧ (0 ≤ (am (fun t => (cn (fun c => pl (brow s 18) c && kpt (brow s 18) c t) (nc (brow s 18)) + x1 - 1) / x1) 30 : Int) ∧ (am (fun t => (cn (fun c => pl (brow s 18) c && kpt (brow s 18) c t) (nc (brow s 18)) + x1 - 1) / x1) 30 : Int) < 30) ∧ (1 ≤ x1 ∧ x1 ≤ 6))
  (z6 : 0 < s 18 0 → ¬ x1 < 1 → ¬ 6 < x1 → ¬ x2 < 0 → x2 ≤ 1 → ¬ x2 = 1 → Q (some (mI ((cn (fun c => pl (brow s 18) c && kpt (brow s 18) c (am (fun t => (cn (fun c => pl (brow s 18) c && kpt (brow s 18) c t) (nc (brow s 18)) + x1 - 1) / x1) 30 : Int).toNat) (nc (brow s 18)) + x1 - 1) / x1))) s)
  (z7 : 0 < s 18 0 → ¬ x1 < 1 → ¬ 6 < x1 → ¬ x2 < 0 → x2 ≤ 1 → x2 = 1 → Q (some (mI (am (fun t => (cn (fun c => pl (brow s 18) c && kpt (brow s 18) c t) (nc (brow s 18)) + x1 - 1) / x1) 30 : Int))) s)
  (z8 : 0 < s 18 0 → ¬ x1 < 1 → ¬ 6 < x1 → ¬ x2 < 0 → ¬ x2 ≤ 1 → Q (some (mI (-1))) s)
  (z9 : ¬ (0 < s 18 0) → Q (some (mI (-1))) s) :
  Sp X (d + 3) 144 [mR 0, mI x1, mI x2] s Q := e144 (b144_0 (c6 (bdm rfl) (fun q1 => ⟨1, rfl, b144_10 (fun q => absurd q (by decide)) (fun _ => b144_13 (fun q2 => b144_33 (z1 q1 q2)) (fun q3 => b144_18 (fun q4 => b144_33 (z2 q1 q3 q4)) (fun q5 => b144_24 (fun q6 => b144_33 (z3 q1 q3 q5 q6)) (fun q7 => b144_28 (fun q8 => b144_35 (c28 (bdm rfl) (z4 q1 q3 q5 q7 q8) ⟨_, rfl, b144_46 (fun q9 => b144_56 (c27 (bdm rfl) (z5 q1 q3 q5 q7 q8 q9) ⟨_, rfl, b144_68 (z6 q1 q3 q5 q7 q8 q9)⟩)) (fun q10 => b144_52 (b144_68 (z7 q1 q3 q5 q7 q8 q10)))⟩)) (fun q11 => b144_33 (z8 q1 q3 q5 q7 q11))))))⟩) (fun q12 => ⟨0, rfl, b144_10 (fun _ => b144_33 (z9 q12)) (fun q => absurd q (by decide))⟩)))

theorem c144 {X : (Nat → Int) × Nat} {d : Nat} {s : mSt} {Q : mQ} {x1 : Int} {x2 : Int} (p1 : BI s 18) (k : Q (some (mI (waA (brow s 18) x1 x2))) s) : Sp X (d + 3) 144 [mR 0, mI x1, mI x2] s Q := by
  have b0 := p1.2.2.2.2.1
  have e0 := brw_0 (s := s) (k := 18)
  have eF : (fun t => (cn (fun c => pl (brow s 18) c && kpt (brow s 18) c t) (nc (brow s 18)) + x1 - 1) / x1) = wcF (brow s 18) x1 := rfl
  have al := am_lt2 (f := wcF (brow s 18) x1) (n := 30) (by decide)
  unfold waA at k
  refine v144 (fun g0 g => ?_) (fun g0 g1 g2 => ?_) (fun g0 g1 g2 g3 => ?_) (fun g0 g1 g2 g3 g4 => ⟨p1, by omega⟩) (fun g0 g1 g2 g3 g4 g5 => ?_) (fun g0 g1 g2 g3 g4 g5 => ?_) (fun g0 g1 g2 g3 g4 g5 => ?_) (fun g0 g1 g2 g3 g4 => ?_) (fun g0 => ?_)
  · rw [if_neg (by omega)] at k; exact k
  · rw [if_neg (by omega)] at k; exact k
  · rw [if_neg (by omega)] at k; exact k
  · rw [eF]; exact ⟨p1, by omega, by omega⟩
  · rw [if_neg (by omega)] at e0
    rw [if_pos ⟨e0, by omega, by omega⟩, if_neg g5] at k
    rw [eF, tnc]; exact k
  · rw [if_neg (by omega)] at e0
    rw [if_pos ⟨e0, by omega, by omega⟩, if_pos g5] at k
    rw [eF]; exact k
  · rw [if_neg (by omega)] at k; exact k
  · rw [if_pos (by omega)] at e0
    rw [if_neg (by omega)] at k; exact k
theorem v272 {X : (Nat → Int) × Nat} {d : Nat} {s : mSt} {Q : mQ} {x1 : Int} {x2 : Int}
  (I39 : Int → Int → Int → Prop) (m39 : Int → Int → Int → Nat)
  (z1 : ∀ y3 : Int, ∀ y4 : Int, ∀ y5 : Int, I39 y3 y4 y5 → 30 ≤ y5 → ¬ x2 = 0 → Q (some (mI y4)) s)
  (z2 : ∀ y3 : Int, ∀ y4 : Int, ∀ y5 : Int, I39 y3 y4 y5 → 30 ≤ y5 → x2 = 0 → Q (some (mI y3)) s)
  (z3 : ∀ y3 : Int, ∀ y4 : Int, ∀ y5 : Int, I39 y3 y4 y5 → ¬ 30 ≤ y5 → Ok (s 417) ∧ (0 ≤ y5 ∧ y5 < 30))
  (z4 : ∀ y3 : Int, ∀ y4 : Int, ∀ y5 : Int, I39 y3 y4 y5 → ¬ 30 ≤ y5 → x1 ≠ 0)
  (z5 : ∀ y3 : Int, ∀ y4 : Int, ∀ y5 : Int, I39 y3 y4 y5 → ¬ 30 ≤ y5 → y3 < (w32 (Int.tdiv (w32 ((w32 ((cn (fun c => pl (s 417) c && kpt (s 417) c y5.toNat) (nc (s 417))) + x1)) - 1)) x1)) → I39 (w32 (Int.tdiv (w32 ((w32 ((cn (fun c => pl (s 417) c && kpt (s 417) c y5.toNat) (nc (s 417))) + x1)) - 1)) x1)) y5 (w32 (y5 + 1)) ∧ m39 (w32 (Int.tdiv (w32 ((w32 ((cn (fun c => pl (s 417) c && kpt (s 417) c y5.toNat) (nc (s 417))) + x1)) - 1)) x1)) y5 (w32 (y5 + 1)) < m39 y3 y4 y5)
  (z6 : ∀ y3 : Int, ∀ y4 : Int, ∀ y5 : Int, I39 y3 y4 y5 → ¬ 30 ≤ y5 → ¬ y3 < (w32 (Int.tdiv (w32 ((w32 ((cn (fun c => pl (s 417) c && kpt (s 417) c y5.toNat) (nc (s 417))) + x1)) - 1)) x1)) → I39 y3 y4 (w32 (y5 + 1)) ∧ m39 y3 y4 (w32 (y5 + 1)) < m39 y3 y4 y5)
  (z7 : s 417 0 = 1 → (1 ≤ x1 ∧ x1 ≤ 6) → (0 ≤ x2 ∧ x2 ≤ 1) → I39 0 0 0)
  (z8 : s 417 0 = 1 → (1 ≤ x1 ∧ x1 ≤ 6) → (¬ (0 ≤ x2 ∧ x2 ≤ 1)) → Q (some (mI (-1))) s)
  (z9 : s 417 0 = 1 → (¬ (1 ≤ x1 ∧ x1 ≤ 6)) → Q (some (mI (-1))) s)
  (z10 : ¬ (s 417 0 = 1) → Q (some (mI (-1))) s) :
  Sp X (d + 5) 272 [mR 407, mI x1, mI x2] s Q := by
  have L : ∀ k : Nat, (∀ (y3 : Int) (y4 : Int) (y5 : Int) (l6 : Option mV), I39 y3 y4 y5 → m39 y3 y4 y5 < k → Wp X (d + 5) 272 39 [some (mR 407), some (mI x1), some (mI x2), some (mI y3), some (mI y4), some (mI y5), l6] [] s Q) := by
    intro k
    induction k with
    | zero => exact fun _ _ _ _ _ h => absurd h (Nat.not_lt_zero _)
    | succ k ih => exact fun y3 y4 y5 l6 hI hm => b272_39 (fun q1 => b272_82 (fun q2 => b272_90 (b272_92 (z1 y3 y4 y5 hI q1 q2))) (fun q3 => b272_86 (b272_92 (z2 y3 y4 y5 hI q1 q3)))) (fun q4 => b272_46 (c271 (z3 y3 y4 y5 hI q4) ⟨_, rfl, b272_52 (z4 y3 y4 y5 hI q4) (fun q5 => b272_69 (b272_76 (ih (w32 (Int.tdiv (w32 ((w32 ((cn (fun c => pl (s 417) c && kpt (s 417) c y5.toNat) (nc (s 417))) + x1)) - 1)) x1)) y5 (w32 (y5 + 1)) (some (mI (w32 (Int.tdiv (w32 ((w32 ((cn (fun c => pl (s 417) c && kpt (s 417) c y5.toNat) (nc (s 417))) + x1)) - 1)) x1)))) (z5 y3 y4 y5 hI q4 q5).1 (Nat.lt_of_lt_of_le (z5 y3 y4 y5 hI q4 q5).2 (Nat.le_of_lt_succ hm))))) (fun q6 => b272_66 (b272_76 (ih y3 y4 (w32 (y5 + 1)) (some (mI (w32 (Int.tdiv (w32 ((w32 ((cn (fun c => pl (s 417) c && kpt (s 417) c y5.toNat) (nc (s 417))) + x1)) - 1)) x1)))) (z6 y3 y4 y5 hI q4 q6).1 (Nat.lt_of_lt_of_le (z6 y3 y4 y5 hI q4 q6).2 (Nat.le_of_lt_succ hm)))))⟩))
  exact e272 (b272_0 (c212  (fun q7 => ⟨1, rfl, b272_4 (fun q => absurd q (by decide)) (fun _ => b272_7 (c167  (fun q8 => ⟨1, rfl, b272_16 (fun q => absurd q (by decide)) (fun _ => b272_19 (c167  (fun q9 => ⟨1, rfl, b272_26 (fun _ => b272_31 ((L (m39 0 0 0 + 1)) 0 0 0 none (z7 q7 q8 q9) (Nat.lt_succ_self _))) (fun q => absurd q (by decide))⟩) (fun q10 => ⟨0, rfl, b272_26 (fun q => absurd q (by decide)) (fun _ => b272_29 (z8 q7 q8 q10))⟩)))⟩) (fun q11 => ⟨0, rfl, b272_16 (fun _ => b272_29 (z9 q7 q11)) (fun q => absurd q (by decide))⟩)))⟩) (fun q12 => ⟨0, rfl, b272_4 (fun _ => b272_29 (z10 q12)) (fun q => absurd q (by decide))⟩)))

theorem c272 {X : (Nat → Int) × Nat} {d : Nat} {s : mSt} {Q : mQ} {x1 : Int} {x2 : Int} (p1 : Ok (s 417)) (k : Q (some (mI (waA (s 417) x1 x2))) s) : Sp X (d + 5) 272 [mR 407, mI x1, mI x2] s Q := by
  have h := p1
  have n6 := nc_le h
  unfold waA at k
  let f := wcF (s 417) x1
  have eV : (1 ≤ x1 ∧ x1 ≤ 6) → ∀ j : Nat, w32 (Int.tdiv (w32 (w32 (cn (fun c => pl (s 417) c && kpt (s 417) c j) (nc (s 417)) + x1) - 1)) x1) = f j ∧ 0 ≤ f j := fun hx j => by
    have b := cn_le (f := fun c => pl (s 417) c && kpt (s 417) c j) (n := nc (s 417))
    have q1 := Int.ediv_nonneg (a := cn (fun c => pl (s 417) c && kpt (s 417) c j) (nc (s 417)) + x1 - 1) (b := x1) (by omega) (by omega)
    have q2 := Int.ediv_le_self (a := cn (fun c => pl (s 417) c && kpt (s 417) c j) (nc (s 417)) + x1 - 1) x1 (by omega)
    refine ⟨?_, q1⟩
    rw [w32_of (x := cn (fun c => pl (s 417) c && kpt (s 417) c j) (nc (s 417)) + x1) (by omega), w32_of (x := cn (fun c => pl (s 417) c && kpt (s 417) c j) (nc (s 417)) + x1 - 1) (by omega), Int.tdiv_eq_ediv_of_nonneg (by omega), w32_of (by omega)]
    rfl
  let J : Int → Int → Int → Prop := fun y3 y4 y5 => ∃ j : Nat, y5 = j ∧ j ≤ 30 ∧ (s 417 0 = 1 ∧ (1 ≤ x1 ∧ x1 ≤ 6) ∧ (0 ≤ x2 ∧ x2 ≤ 1)) ∧ y4 = (am f j : Int) ∧ y3 = if j = 0 then 0 else f (am f j)
  refine v272 J (fun _ _ y => (30 - y).toNat) ?_ ?_ ?_ ?_ ?_ ?_ (fun g1 g2 g3 => ⟨0, rfl, by omega, ⟨g1, g2, g3⟩, rfl, rfl⟩) ?_ ?_ ?_
  · rintro _ _ _ ⟨j, rfl, hj, g, rfl, rfl⟩ hc q
    have : j = 30 := by omega
    subst this
    rw [if_pos g, if_pos (by omega)] at k
    exact k
  · rintro _ _ _ ⟨j, rfl, hj, g, rfl, rfl⟩ hc q
    have : j = 30 := by omega
    subst this
    rw [if_pos g, if_neg (by omega)] at k
    rw [if_neg (by decide)]
    exact k
  · rintro _ _ _ ⟨j, rfl, hj, g, rfl, rfl⟩ hc
    exact ⟨h, by omega⟩
  · rintro _ _ _ ⟨j, rfl, hj, g, rfl, rfl⟩ hc
    omega
  · rintro _ _ _ ⟨j, rfl, hj, g, rfl, rfl⟩ hc q
    rw [tnc, (eV g.2.1 j).1] at q ⊢
    rw [w32_of (by omega)]
    have e : am f (j + 1) = j := by
      rw [am_s]
      by_cases z : j = 0
      · subst z; split <;> rfl
      · rw [if_neg z] at q; rw [if_pos q]
    refine ⟨⟨j + 1, by omega, by omega, g, by rw [e], by rw [if_neg (by omega), e]⟩, by omega⟩
  · rintro _ _ _ ⟨j, rfl, hj, g, rfl, rfl⟩ hc q
    rw [tnc, (eV g.2.1 j).1] at q
    rw [w32_of (by omega)]
    refine ⟨⟨j + 1, by omega, by omega, g, ?_, ?_⟩, by omega⟩
    · rw [am_s]
      by_cases z : j = 0
      · subst z; split <;> rfl
      · rw [if_neg z] at q; rw [if_neg q]
    · rw [if_neg (show ¬ j + 1 = 0 by omega), am_s]
      by_cases z : j = 0
      · subst z
        have b := (eV g.2.1 0).2
        rw [if_pos rfl] at q ⊢
        have e : (if f (am f 0) < f 0 then 0 else am f 0) = 0 := by split <;> rfl
        rw [e]; omega
      · rw [if_neg z] at q ⊢; rw [if_neg q]
  · intro g1 g2 g3; rw [if_neg (fun z => g3 z.2.2)] at k; exact k
  · intro g1 g2; rw [if_neg (fun z => g2 z.2.1)] at k; exact k
  · intro g1; rw [if_neg (fun z => g1 z.1)] at k; exact k
