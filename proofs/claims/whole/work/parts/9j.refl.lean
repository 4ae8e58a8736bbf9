/-! tokens: the reference -/
def ub (v : Int) : Int := if v < 0 then v + 256 else v
def TR (s : mSt) : Nat → Int := fun i => ub (s 408 i)
def nR (s : mSt) : Nat := (s 407 1).toNat
def TRq (s : mSt) : Prop := (∀ i, -128 ≤ s 408 i ∧ s 408 i < 128) ∧ (0 ≤ s 407 1 ∧ s 407 1 ≤ 400) ∧ (0 ≤ s 407 8 ∧ s 407 8 ≤ s 407 1)
theorem and_ub {v : Int} (h : -128 ≤ v ∧ v < 128) : iAnd v 255 = ub v := by
  rw [and255, ← mod256 (by unfold i3; omega)]
  unfold ub; split <;> omega
def flR (s : mSt) (x a : Int) : mSt := if s 407 9 = 0 then uS s 407 9 (1 + 8 * a + x) else s
theorem v173 {X : (Nat → Int) × Nat} {d : Nat} {s : mSt} {Q : mQ} {x1 : Int} {x2 : Int}
  (z1 : ¬ (s 407 9) = 0 → Q (some (mI 0)) s)
  (z2 : (s 407 9) = 0 → ∀ t3 : mSt, t3 = uS s 407 9 (w32 ((w32 (1 + (w32 (8 * x2)))) + x1)) → Q (some (mI 0)) t3) :
  Sp X d 173 [mR 407, mI x1, mI x2] s Q := e173 (b173_0 (fun q1 => b173_19 (z1 q1)) (fun q2 => b173_7 (Wp_gen (fun t3 e3 => b173_19 (z2 q2 t3 e3)))))

theorem c173 {X : (Nat → Int) × Nat} {d : Nat} {s : mSt} {Q : mQ} {x1 : Int} {x2 : Int} (p1 : (0 ≤ x1 ∧ x1 ≤ 4) ∧ (0 ≤ x2 ∧ x2 ≤ 400)) (k : ∀ (v : Int) (t : mSt), (v = 0 ∧ t = flR s x1 x2) → Q (some (mI v)) t) : Sp X d 173 [mR 407, mI x1, mI x2] s Q := by
  refine v173 (fun z => k _ s ⟨rfl, by unfold flR; rw [if_neg z]⟩) (fun z t ht => k _ t ⟨rfl, ?_⟩)
  rw [w32_of (x := 8 * x2) (by omega), w32_of (x := 1 + 8 * x2) (by omega), w32_of (by omega)] at ht
  unfold flR; rw [if_pos z]; exact ht
def skR (s : mSt) : Nat := sk (TR s) (nR s) (s 407 8).toNat
theorem skR_b {s : mSt} (h : TRq s) : (s 407 8).toNat ≤ skR s ∧ skR s ≤ nR s ∧ nR s ≤ 400 := by
  have b := rnT_b (fun k => decide (TR s k = 32)) (nR s) (s 407 8).toNat
  have h1 := h.2.1
  have h2 := h.2.2
  refine ⟨b.1, b.2 (by unfold nR; omega), by unfold nR; omega⟩
theorem v174 {X : (Nat → Int) × Nat} {d : Nat} {s : mSt} {Q : mQ}
  (I0 : mSt → Prop) (m0 : mSt → Nat)
  (z1 : ∀ s : mSt, I0  s → (s 407 1) ≤ (s 407 8) → (s 407 1) ≤ (s 407 8) → Q (some (mI (-1))) s)
  (z2 : ∀ s : mSt, I0  s → (s 407 1) ≤ (s 407 8) → ¬ (s 407 1) ≤ (s 407 8) → 0 ≤ (s 407 8) ∧ (s 407 8) < 400)
  (z3 : ∀ s : mSt, I0  s → (s 407 1) ≤ (s 407 8) → ¬ (s 407 1) ≤ (s 407 8) → Q (some (mI (iAnd (s 408 (s 407 8).toNat) 255))) s)
  (z4 : ∀ s : mSt, I0  s → ¬ (s 407 1) ≤ (s 407 8) → 0 ≤ (s 407 8) ∧ (s 407 8) < 400)
  (z5 : ∀ s : mSt, I0  s → ¬ (s 407 1) ≤ (s 407 8) → ¬ (s 408 (s 407 8).toNat) = 32 → (s 407 1) ≤ (s 407 8) → Q (some (mI (-1))) s)
  (z6 : ∀ s : mSt, I0  s → ¬ (s 407 1) ≤ (s 407 8) → ¬ (s 408 (s 407 8).toNat) = 32 → ¬ (s 407 1) ≤ (s 407 8) → 0 ≤ (s 407 8) ∧ (s 407 8) < 400)
  (z7 : ∀ s : mSt, I0  s → ¬ (s 407 1) ≤ (s 407 8) → ¬ (s 408 (s 407 8).toNat) = 32 → ¬ (s 407 1) ≤ (s 407 8) → Q (some (mI (iAnd (s 408 (s 407 8).toNat) 255))) s)
  (z8 : ∀ s : mSt, I0  s → ¬ (s 407 1) ≤ (s 407 8) → (s 408 (s 407 8).toNat) = 32 → I0  (uS s 407 8 (w32 ((s 407 8) + 1))) ∧ m0  (uS s 407 8 (w32 ((s 407 8) + 1))) < m0  s)
  (z9 : I0  s) :
  Sp X d 174 [mR 407] s Q := by
  have L : ∀ k : Nat, (∀ (s : mSt), I0  s → m0  s < k → Wp X d 174 0 [some (mR 407)] [] s Q) := by
    intro k
    induction k with
    | zero => exact fun _ _ h => absurd h (Nat.not_lt_zero _)
    | succ k ih => exact fun s hI hm => b174_0 (fun q1 => b174_38 (fun q2 => b174_65 (b174_66 (z1 s hI q1 q2))) (fun q3 => b174_49 (z2 s hI q1 q3) (b174_66 (z3 s hI q1 q3)))) (fun q4 => b174_11 (z4 s hI q4) (fun q5 => b174_38 (fun q6 => b174_65 (b174_66 (z5 s hI q4 q5 q6))) (fun q7 => b174_49 (z6 s hI q4 q5 q7) (b174_66 (z7 s hI q4 q5 q7)))) (fun q8 => b174_25 (ih  (uS s 407 8 (w32 ((s 407 8) + 1))) (z8 s hI q4 q8).1 (Nat.lt_of_lt_of_le (z8 s hI q4 q8).2 (Nat.le_of_lt_succ hm)))))
  exact e174 ((L (m0  s + 1))  s z9 (Nat.lt_succ_self _))

theorem c174 {X : (Nat → Int) × Nat} {d : Nat} {s : mSt} {Q : mQ} (p1 : TRq s) (k : ∀ (v : Int) (t : mSt), (v = (if nR s ≤ skR s then -1 else TR s (skR s)) ∧ t = uS s 407 8 (skR s : Int)) → Q (some (mI v)) t) : Sp X d 174 [mR 407] s Q := by
  have h := p1
  have hb := skR_b h
  have en : s 407 1 = (nR s : Int) := by have := h.2.1; unfold nR; omega
  let J : mSt → Prop := fun t => ∃ i : Nat, i ≤ nR s ∧ sk (TR s) (nR s) i = skR s ∧ t = uS s 407 8 (i : Int)
  have tt : ∀ t i, t = uS s 407 8 ((i : Nat) : Int) → t 407 8 = (i : Int) ∧ t 407 1 = (nR s : Int) ∧ t 408 = s 408 := fun t i ht => by
    rw [ht]
    exact ⟨by rw [uS_at, if_pos rfl], by rw [uS_at, if_neg (by decide)]; exact en, uS_cell (by decide)⟩
  have e32 : ∀ i : Nat, (s 408 i = 32 ↔ TR s i = 32) := fun i => by
    have := h.1 i
    unfold TR ub
    split <;> omega
  have kEnd : ∀ (t : mSt) (i : Nat), nR s ≤ i → i ≤ nR s → sk (TR s) (nR s) i = skR s → t = uS s 407 8 (i : Int) → Q (some (mI (-1))) t := fun t i h1 h2 h3 h4 => by
    have e : sk (TR s) (nR s) i = i := by unfold sk; rw [rnT_e, if_neg (by omega)]
    have e2 : skR s = i := by rw [← h3, e]
    exact k _ t ⟨by rw [if_pos (by omega)], by rw [e2]; exact h4⟩
  refine v174 J (fun t => (500 - t 407 8).toNat) ?_ ?_ ?_ ?_ ?_ ?_ ?_ ?_ ?_
  · rintro t ⟨i, hi, e, ht⟩ hc _
    have q := tt t i ht
    rw [q.1, q.2.1] at hc
    exact kEnd t i (by omega) hi e ht
  · rintro t ⟨i, hi, e, ht⟩ hc hc2
    exact absurd hc hc2
  · rintro t ⟨i, hi, e, ht⟩ hc hc2
    exact absurd hc hc2
  · rintro t ⟨i, hi, e, ht⟩ hc
    have q := tt t i ht
    rw [q.1, q.2.1] at hc
    rw [q.1]; omega
  · rintro t ⟨i, hi, e, ht⟩ hc q1 hc2
    exact absurd hc2 hc
  · rintro t ⟨i, hi, e, ht⟩ hc q1 hc2
    have q := tt t i ht
    rw [q.1, q.2.1] at hc
    rw [q.1]; omega
  · rintro t ⟨i, hi, e, ht⟩ hc q1 hc2
    have q := tt t i ht
    rw [q.1, q.2.1] at hc
    rw [q.1, q.2.2, tnc] at q1 ⊢
    have e' : sk (TR s) (nR s) i = i := by unfold sk; rw [rnT_e, if_neg (fun w => q1 ((e32 i).2 (by have := w.2; simpa using this)))]
    have e2 : skR s = i := by rw [← e, e']
    rw [and_ub (h.1 i)]
    exact k _ t ⟨by rw [if_neg (by omega), e2]; rfl, by rw [e2]; exact ht⟩
  · rintro t ⟨i, hi, e, ht⟩ hc q1
    have q := tt t i ht
    rw [q.1, q.2.1] at hc
    rw [q.1, q.2.2, tnc] at q1
    rw [q.1, w32_of (by omega)]
    have e' : sk (TR s) (nR s) i = sk (TR s) (nR s) (i + 1) := by unfold sk; rw [rnT_e, if_pos ⟨by omega, by simp; exact (e32 i).1 q1⟩]
    refine ⟨⟨i + 1, by omega, by rw [← e']; exact e, ?_⟩, ?_⟩
    · rw [ht, uS_uS]; rfl
    · rw [uS_at, if_pos rfl]; omega
  · refine ⟨(s 407 8).toNat, by have := h.2.2; unfold nR; omega, rfl, ?_⟩
    have e : (((s 407 8).toNat : Nat) : Int) = s 407 8 := by have := h.2.2; omega
    rw [e]
    funext c j
    unfold uS
    by_cases z : c = 407 ∧ j = 8
    · rw [if_pos z, z.1, z.2]
    · rw [if_neg z]
theorem v175 {X : (Nat → Int) × Nat} {d : Nat} {s : mSt} {Q : mQ} {x1 : Int}
  (z1 : (s 407 1) ≤ x1 → Q (some (mI 0)) s)
  (z2 : ¬ (s 407 1) ≤ x1 → 0 ≤ x1 ∧ x1 < 400)
  (z3 : ¬ (s 407 1) ≤ x1 → (s 408 x1.toNat) < 48 → Q (some (mI 0)) s)
  (z4 : ¬ (s 407 1) ≤ x1 → ¬ (s 408 x1.toNat) < 48 → 0 ≤ x1 ∧ x1 < 400)
  (z5 : ¬ (s 407 1) ≤ x1 → ¬ (s 408 x1.toNat) < 48 → 57 < (s 408 x1.toNat) → Q (some (mI 0)) s)
  (z6 : ¬ (s 407 1) ≤ x1 → ¬ (s 408 x1.toNat) < 48 → ¬ 57 < (s 408 x1.toNat) → Q (some (mI 1)) s) :
  Sp X d 175 [mR 407, mI x1] s Q := e175 (b175_0 (fun q1 => b175_34 (b175_35 (z1 q1) (Or.inl rfl))) (fun q2 => b175_8 (z2 q2) (fun q3 => b175_34 (b175_35 (z3 q2 q3) (Or.inl rfl))) (fun q4 => b175_19 (z4 q2 q4) (fun q5 => b175_34 (b175_35 (z5 q2 q4 q5) (Or.inl rfl))) (fun q6 => b175_30 (b175_35 (z6 q2 q4 q6) (Or.inr rfl))))))

theorem c175 {X : (Nat → Int) × Nat} {d : Nat} {s : mSt} {Q : mQ} {x1 : Int} (p1 : TRq s ∧ 0 ≤ x1) (k1 : (x1.toNat < nR s ∧ isD (TR s) x1.toNat = true) → Q (some (mI 1)) s) (k0 : ¬ (x1.toNat < nR s ∧ isD (TR s) x1.toNat = true) → Q (some (mI 0)) s) : Sp X d 175 [mR 407, mI x1] s Q := by
  obtain ⟨h, hx⟩ := p1
  have en : s 407 1 = (nR s : Int) := by have := h.2.1; unfold nR; omega
  have nb := (skR_b h).2.2
  have b := h.1 x1.toNat
  have eT : TR s x1.toNat = ub (s 408 x1.toNat) := rfl
  have iD : isD (TR s) x1.toNat = true ↔ 48 ≤ s 408 x1.toNat ∧ s 408 x1.toNat ≤ 57 := by
    rw [isD_i, eT]; unfold ub; split <;> omega
  refine v175 (fun z => k0 (fun w => by have := w.1; omega)) (fun z => by omega) (fun z z1 => k0 (fun w => by have := iD.1 w.2; omega)) (fun z _ => by omega) (fun z z1 z2 => k0 (fun w => by have := iD.1 w.2; omega)) (fun z z1 z2 => k1 ⟨by omega, iD.2 (by omega)⟩)
theorem v176 {X : (Nat → Int) × Nat} {d : Nat} {s : mSt} {Q : mQ} {x1 : Int}
  (z1 : (s 407 1) ≤ x1 → Q (some (mI 0)) s)
  (z2 : ¬ (s 407 1) ≤ x1 → 0 ≤ x1 ∧ x1 < 400)
  (z3 : ¬ (s 407 1) ≤ x1 → (s 408 x1.toNat) < 97 → Q (some (mI 0)) s)
  (z4 : ¬ (s 407 1) ≤ x1 → ¬ (s 408 x1.toNat) < 97 → 0 ≤ x1 ∧ x1 < 400)
  (z5 : ¬ (s 407 1) ≤ x1 → ¬ (s 408 x1.toNat) < 97 → 122 < (s 408 x1.toNat) → Q (some (mI 0)) s)
  (z6 : ¬ (s 407 1) ≤ x1 → ¬ (s 408 x1.toNat) < 97 → ¬ 122 < (s 408 x1.toNat) → Q (some (mI 1)) s) :
  Sp X d 176 [mR 407, mI x1] s Q := e176 (b176_0 (fun q1 => b176_34 (b176_35 (z1 q1) (Or.inl rfl))) (fun q2 => b176_8 (z2 q2) (fun q3 => b176_34 (b176_35 (z3 q2 q3) (Or.inl rfl))) (fun q4 => b176_19 (z4 q2 q4) (fun q5 => b176_34 (b176_35 (z5 q2 q4 q5) (Or.inl rfl))) (fun q6 => b176_30 (b176_35 (z6 q2 q4 q6) (Or.inr rfl))))))

theorem c176 {X : (Nat → Int) × Nat} {d : Nat} {s : mSt} {Q : mQ} {x1 : Int} (p1 : TRq s ∧ 0 ≤ x1) (k1 : (x1.toNat < nR s ∧ isL (TR s) x1.toNat = true) → Q (some (mI 1)) s) (k0 : ¬ (x1.toNat < nR s ∧ isL (TR s) x1.toNat = true) → Q (some (mI 0)) s) : Sp X d 176 [mR 407, mI x1] s Q := by
  obtain ⟨h, hx⟩ := p1
  have en : s 407 1 = (nR s : Int) := by have := h.2.1; unfold nR; omega
  have nb := (skR_b h).2.2
  have b := h.1 x1.toNat
  have eT : TR s x1.toNat = ub (s 408 x1.toNat) := rfl
  have iD : isL (TR s) x1.toNat = true ↔ 97 ≤ s 408 x1.toNat ∧ s 408 x1.toNat ≤ 122 := by
    rw [isL_i, eT]; unfold ub; split <;> omega
  refine v176 (fun z => k0 (fun w => by have := w.1; omega)) (fun z => by omega) (fun z z1 => k0 (fun w => by have := iD.1 w.2; omega)) (fun z _ => by omega) (fun z z1 z2 => k0 (fun w => by have := iD.1 w.2; omega)) (fun z z1 z2 => k1 ⟨by omega, iD.2 (by omega)⟩)
theorem TR_u (s : mSt) (j : Nat) (x : Int) : TR (uS s 407 j x) = TR s := by
  unfold TR; rw [uS_cell (by decide)]
theorem nR_u (s : mSt) {j : Nat} (x : Int) (h : 1 ≠ j) : nR (uS s 407 j x) = nR s := by
  unfold nR; rw [uS_at, if_neg h]
theorem TRq_o {s : mSt} (h : TRq s) {j : Nat} (x : Int) (h1 : 1 ≠ j) (h8 : 8 ≠ j) : TRq (uS s 407 j x) := by
  unfold TRq
  rw [uS_cell (by decide), uS_at, uS_at, if_neg h1, if_neg h8]
  exact h
theorem TRq_8 {s : mSt} (h : TRq s) {a : Nat} (ha : a ≤ nR s) : TRq (uS s 407 8 (a : Int)) := by
  unfold TRq
  rw [uS_cell (by decide), uS_at, uS_at, if_neg (by decide), if_pos rfl]
  have := h.2.1
  unfold nR at ha
  exact ⟨h.1, h.2.1, by omega, by omega⟩
theorem skR_8 (s : mSt) (a : Nat) : skR (uS s 407 8 (a : Int)) = sk (TR s) (nR s) a := by
  unfold skR
  rw [TR_u, nR_u s _ (by decide), uS_at, if_pos rfl, Int.toNat_natCast]
theorem skR_o (s : mSt) {j : Nat} (x : Int) (h1 : 1 ≠ j) (h8 : 8 ≠ j) : skR (uS s 407 j x) = skR s := by
  unfold skR
  rw [TR_u, nR_u s _ h1, uS_at, if_neg h8]
theorem skR_s (s : mSt) : sk (TR s) (nR s) (skR s) = skR s := sk_sk (TR s) (nR s) _ _ (Nat.le_refl _)
theorem skR_id (s : mSt) : skR (uS s 407 8 (skR s : Int)) = skR s := by rw [skR_8, skR_s]
theorem TRq_s {s : mSt} (h : TRq s) : TRq (uS s 407 8 (skR s : Int)) := TRq_8 h (skR_b h).2.1
theorem nR_e {s : mSt} (h : TRq s) : s 407 1 = (nR s : Int) := by have := h.2.1; unfold nR; omega
/-- a word, five bits a letter -/
def PK (f : Nat → Int) : Nat → Int
  | 0 => 0
  | k + 1 => 32 * PK f k + f k
theorem PK_s (f : Nat → Int) (k : Nat) : PK f (k + 1) = 32 * PK f k + f k := rfl
theorem PK_n (f : Nat → Int) : ∀ e, (∀ i, i < e → 1 ≤ f i ∧ f i ≤ 26) → 0 ≤ PK f e
  | 0, _ => Int.le_refl 0
  | e + 1, h => by
    have := PK_n f e (fun i hi => h i (by omega))
    have := h e (by omega)
    rw [PK_s]; omega
theorem PK_inj (f g : Nat → Int) : ∀ e e', (∀ i, i < e → 1 ≤ f i ∧ f i ≤ 26) → (∀ i, i < e' → 1 ≤ g i ∧ g i ≤ 26) → PK f e = PK g e' → e = e' ∧ ∀ i, i < e → f i = g i
  | 0, 0, _, _, _ => ⟨rfl, fun i hi => absurd hi (by omega)⟩
  | 0, e' + 1, _, hg, h => by
    have a := PK_n g e' (fun i hi => hg i (by omega))
    have b := hg e' (by omega)
    rw [PK_s] at h
    have : PK f 0 = 0 := rfl
    omega
  | e + 1, 0, hf, _, h => by
    have a := PK_n f e (fun i hi => hf i (by omega))
    have b := hf e (by omega)
    rw [PK_s] at h
    have : PK g 0 = 0 := rfl
    omega
  | e + 1, e' + 1, hf, hg, h => by
    have b := hf e (by omega)
    have c := hg e' (by omega)
    rw [PK_s, PK_s] at h
    have q := PK_inj f g e e' (fun i hi => hf i (by omega)) (fun i hi => hg i (by omega)) (by omega)
    refine ⟨by omega, fun i hi => ?_⟩
    by_cases z : i < e
    · exact q.2 i z
    · have e1 : i = e := by omega
      have e2 : i = e' := by omega
      rw [e1]
      have := q.1
      subst this
      omega
theorem PK_m (f : Nat → Int) : ∀ e, (∀ i, i < e → 1 ≤ f i ∧ f i ≤ 26) → PK f e < 32 ^ e
  | 0, _ => (show (0 : Int) < 1 by decide)
  | e + 1, h => by
    have a := PK_m f e (fun i hi => h i (by omega))
    have b := h e (by omega)
    rw [PK_s, Int.pow_succ]; omega
theorem lP {v u : Int} (hv : 0 ≤ v ∧ v < 36028797018963968) (hu : 0 ≤ u ∧ u < 32) : lOr (lShl v 5) u = 32 * v + u := by
  obtain ⟨n, rfl⟩ : ∃ n : Nat, v = (n : Int) := ⟨v.toNat, by omega⟩
  obtain ⟨m, rfl⟩ : ∃ m : Nat, u = (m : Int) := ⟨u.toNat, by omega⟩
  unfold lOr lShl
  rw [Int64.ofInt_toInt, show ((Int32.ofInt 5).toInt64 &&& 63) = (5 : Int64) from by decide +kernel]
  rw [← Int64.toInt_toBitVec, Int64.toBitVec_or, Int64.toBitVec_shiftLeft, Int64.toBitVec_ofInt, Int64.toBitVec_ofInt, BitVec.ofInt_natCast, BitVec.ofInt_natCast]
  rw [show ((5 : Int64).toBitVec.smod 64) = (5 : BitVec 64) from by decide +kernel]
  have e : (BitVec.ofNat 64 n <<< (5 : BitVec 64) ||| BitVec.ofNat 64 m) = BitVec.ofNat 64 (32 * n + m) := by
    apply BitVec.eq_of_toNat_eq
    rw [BitVec.toNat_or, BitVec.shiftLeft_eq', BitVec.toNat_shiftLeft, BitVec.toNat_ofNat, BitVec.toNat_ofNat, BitVec.toNat_ofNat, show (5 : BitVec 64).toNat = 5 from rfl]
    rw [Nat.mod_eq_of_lt (show n < 2 ^ 64 by omega), Nat.mod_eq_of_lt (show m < 2 ^ 64 by omega), Nat.mod_eq_of_lt (show 32 * n + m < 2 ^ 64 by omega), Nat.mod_eq_of_lt (show n <<< 5 < 2 ^ 64 by rw [Nat.shiftLeft_eq]; omega)]
    rw [← Nat.shiftLeft_add_eq_or_of_lt (show m < 2 ^ 5 by omega), Nat.shiftLeft_eq]
    omega
  rw [e, BitVec.toInt_eq_toNat_of_lt (by rw [BitVec.toNat_ofNat]; omega), BitVec.toNat_ofNat]
  omega
theorem lCmp_0 (x y : Int) : lCmp x y = 0 ↔ x = y := by
  unfold lCmp
  by_cases h : x < y
  · rw [if_pos h]; constructor
    · intro z; exact absurd z (by decide)
    · intro z; omega
  · rw [if_neg h]
    by_cases h2 : x = y
    · rw [if_pos h2]; exact ⟨fun _ => h2, fun _ => rfl⟩
    · rw [if_neg h2]; exact ⟨fun z => absurd z (by decide), fun z => absurd z h2⟩
theorem and31 : ∀ c : Fin 26, iAnd (97 + (c.val : Int)) 31 = 1 + (c.val : Int) := by decide +kernel
def ltR (s : mSt) (a i : Nat) : Int := TR s (a + i) - 96
def iwR (s : mSt) (x : Int) : Prop := skR s < leT (TR s) (nR s) (skR s) ∧ leT (TR s) (nR s) (skR s) < skR s + 13 ∧ PK (ltR s (skR s)) (leT (TR s) (nR s) (skR s) - skR s) = x
theorem v177 {X : (Nat → Int) × Nat} {d : Nat} {s : mSt} {Q : mQ} {x1 : Int}
  (I10 : Int → Int → mSt → Prop) (m10 : Int → Int → mSt → Nat)
  (z1 : ∀ y3 : Int, ∀ y5 : Int, ∀ s : mSt, I10 y3 y5 s → TRq s ∧ 0 ≤ (w32 ((s 407 8) + y5)))
  (z2 : ∀ y3 : Int, ∀ y5 : Int, ∀ s : mSt, I10 y3 y5 s → ((w32 ((s 407 8) + y5)).toNat < nR s ∧ isL (TR s) (w32 ((s 407 8) + y5)).toNat = true) → 12 ≤ y5 → I10 y3 (w32 (y5 + 1)) s ∧ m10 y3 (w32 (y5 + 1)) s < m10 y3 y5 s)
  (z3 : ∀ y3 : Int, ∀ y5 : Int, ∀ s : mSt, I10 y3 y5 s → ((w32 ((s 407 8) + y5)).toNat < nR s ∧ isL (TR s) (w32 ((s 407 8) + y5)).toNat = true) → ¬ 12 ≤ y5 → 0 ≤ (w32 ((s 407 8) + y5)) ∧ (w32 ((s 407 8) + y5)) < 400)
  (z4 : ∀ y3 : Int, ∀ y5 : Int, ∀ s : mSt, I10 y3 y5 s → ((w32 ((s 407 8) + y5)).toNat < nR s ∧ isL (TR s) (w32 ((s 407 8) + y5)).toNat = true) → ¬ 12 ≤ y5 → I10 (lOr (lShl y3 5) (iAnd (s 408 (w32 ((s 407 8) + y5)).toNat) 31)) (w32 (y5 + 1)) s ∧ m10 (lOr (lShl y3 5) (iAnd (s 408 (w32 ((s 407 8) + y5)).toNat) 31)) (w32 (y5 + 1)) s < m10 y3 y5 s)
  (z5 : ∀ y3 : Int, ∀ y5 : Int, ∀ s : mSt, I10 y3 y5 s → (¬ ((w32 ((s 407 8) + y5)).toNat < nR s ∧ isL (TR s) (w32 ((s 407 8) + y5)).toNat = true)) → y5 ≤ 0 → Q (some (mI 0)) s)
  (z6 : ∀ y3 : Int, ∀ y5 : Int, ∀ s : mSt, I10 y3 y5 s → (¬ ((w32 ((s 407 8) + y5)).toNat < nR s ∧ isL (TR s) (w32 ((s 407 8) + y5)).toNat = true)) → ¬ y5 ≤ 0 → 13 ≤ y5 → Q (some (mI 0)) s)
  (z7 : ∀ y3 : Int, ∀ y5 : Int, ∀ s : mSt, I10 y3 y5 s → (¬ ((w32 ((s 407 8) + y5)).toNat < nR s ∧ isL (TR s) (w32 ((s 407 8) + y5)).toNat = true)) → ¬ y5 ≤ 0 → ¬ 13 ≤ y5 → ¬ (lCmp y3 x1) = 0 → Q (some (mI 0)) s)
  (z8 : ∀ y3 : Int, ∀ y5 : Int, ∀ s : mSt, I10 y3 y5 s → (¬ ((w32 ((s 407 8) + y5)).toNat < nR s ∧ isL (TR s) (w32 ((s 407 8) + y5)).toNat = true)) → ¬ y5 ≤ 0 → ¬ 13 ≤ y5 → (lCmp y3 x1) = 0 → Q (some (mI 1)) s)
  (z9 : TRq s)
  (z10 : ∀ v11 : Int, ∀ s11 : mSt, (v11 = (if nR s ≤ skR s then -1 else TR s (skR s)) ∧ s11 = uS s 407 8 (skR s : Int)) → I10 0 0 s11) :
  Sp X (d + 1) 177 [mR 407, mJ x1] s Q := by
  have L : ∀ k : Nat, (∀ (l2 : Option mV) (y3 : Int) (l4 : Option mV) (y5 : Int) (s : mSt), I10 y3 y5 s → m10 y3 y5 s < k → Wp X (d + 1) 177 10 [some (mR 407), some (mJ x1), l2, some (mJ y3), l4, some (mI y5)] [] s Q) := by
    intro k
    induction k with
    | zero => exact fun _ _ _ _ _ _ h => absurd h (Nat.not_lt_zero _)
    | succ k ih => exact fun l2 y3 l4 y5 s hI hm => b177_10 (c176 (z1 y3 y5 s hI) (fun q1 => ⟨1, rfl, b177_21 (fun q => absurd q (by decide)) (fun _ => b177_24 (fun q2 => b177_52 (ih l2 y3 (kL 0 l4) (w32 (y5 + 1)) s (z2 y3 y5 s hI q1 q2).1 (Nat.lt_of_lt_of_le (z2 y3 y5 s hI q1 q2).2 (Nat.le_of_lt_succ hm)))) (fun q3 => b177_31 (z3 y3 y5 s hI q1 q3) (b177_52 (ih (kL 0 l2) (lOr (lShl y3 5) (iAnd (s 408 (w32 ((s 407 8) + y5)).toNat) 31)) (kL 0 none) (w32 (y5 + 1)) s (z4 y3 y5 s hI q1 q3).1 (Nat.lt_of_lt_of_le (z4 y3 y5 s hI q1 q3).2 (Nat.le_of_lt_succ hm))))))⟩) (fun q4 => ⟨0, rfl, b177_21 (fun _ => b177_58 (fun q5 => b177_80 (b177_81 (z5 y3 y5 s hI q4 q5) (Or.inl rfl))) (fun q6 => b177_63 (fun q7 => b177_80 (b177_81 (z6 y3 y5 s hI q4 q6 q7) (Or.inl rfl))) (fun q8 => b177_70 (fun q9 => b177_80 (b177_81 (z7 y3 y5 s hI q4 q6 q8 q9) (Or.inl rfl))) (fun q10 => b177_76 (b177_81 (z8 y3 y5 s hI q4 q6 q8 q10) (Or.inr rfl)))))) (fun q => absurd q (by decide))⟩))
  exact e177 (b177_0 (c174 z9 (fun v11 s11 q11 => ⟨v11, rfl, b177_4 ((L (m10 0 0 s11 + 1)) (kL 0 none) 0 none 0 s11 (z10 v11 s11 q11) (Nat.lt_succ_self _))⟩)))

theorem c177 {X : (Nat → Int) × Nat} {d : Nat} {s : mSt} {Q : mQ} {x1 : Int} (p1 : TRq s) (k1 : ∀ t : mSt, (iwR s x1 ∧ t = uS s 407 8 (skR s : Int)) → Q (some (mI 1)) t) (k0 : ∀ t : mSt, (¬ iwR s x1 ∧ t = uS s 407 8 (skR s : Int)) → Q (some (mI 0)) t) : Sp X (d + 1) 177 [mR 407, mJ x1] s Q := by
  have h := p1
  have hb := skR_b h
  let J : Int → Int → mSt → Prop := fun y3 y5 t => ∃ i : Nat, y5 = (i : Int) ∧ t = uS s 407 8 (skR s : Int) ∧ skR s + i ≤ nR s ∧ leT (TR s) (nR s) (skR s + i) = leT (TR s) (nR s) (skR s) ∧ (∀ j, j < i → isL (TR s) (skR s + j) = true) ∧ (i ≤ 12 → y3 = PK (ltR s (skR s)) i)
  have tt : ∀ t, t = uS s 407 8 (skR s : Int) → t 407 8 = (skR s : Int) ∧ nR t = nR s ∧ TR t = TR s ∧ t 408 = s 408 ∧ TRq t := fun t ht => by
    rw [ht]
    exact ⟨by rw [uS_at, if_pos rfl], nR_u s _ (by decide), TR_u s _ _, uS_cell (by decide), TRq_s h⟩
  have ad : ∀ i : Nat, skR s + i ≤ nR s → w32 ((skR s : Int) + (i : Int)) = ((skR s + i : Nat) : Int) := fun i hi => by rw [w32_of (by omega)]; omega
  have lt : ∀ j, isL (TR s) (skR s + j) = true → 1 ≤ ltR s (skR s) j ∧ ltR s (skR s) j ≤ 26 := fun j hj => by
    have := isL_i.1 hj
    unfold ltR; omega
  have en : ∀ i : Nat, ¬ (skR s + i < nR s ∧ isL (TR s) (skR s + i) = true) → leT (TR s) (nR s) (skR s + i) = leT (TR s) (nR s) (skR s) → leT (TR s) (nR s) (skR s) = skR s + i := fun i h1 h2 => by
    rw [← h2]; unfold leT; rw [rnT_e, if_neg h1]
  have go : ∀ i : Nat, skR s + i < nR s ∧ isL (TR s) (skR s + i) = true → leT (TR s) (nR s) (skR s + i) = leT (TR s) (nR s) (skR s) → leT (TR s) (nR s) (skR s + (i + 1)) = leT (TR s) (nR s) (skR s) := fun i h1 h2 => by
    rw [← h2]; unfold leT; rw [rnT_e _ _ (skR s + i), if_pos h1]; rfl
  refine v177 J (fun _ y5 _ => (500 - y5).toNat) ?_ ?_ ?_ ?_ ?_ ?_ ?_ ?_ h ?_
  · rintro y3 y5 t ⟨i, rfl, ht, hi, hl, ha, hv⟩
    have q := tt t ht
    rw [q.1, ad i hi]
    exact ⟨q.2.2.2.2, by omega⟩
  · rintro y3 y5 t ⟨i, rfl, ht, hi, hl, ha, hv⟩ hc h12
    have q := tt t ht
    rw [q.1, ad i hi, tnc, q.2.1, q.2.2.1] at hc
    rw [w32_of (by omega)]
    refine ⟨⟨i + 1, by omega, ht, by omega, go i hc hl, fun j hj => ?_, fun w => by omega⟩, by omega⟩
    by_cases z : j < i
    · exact ha j z
    · rw [show j = i by omega]; exact hc.2
  · rintro y3 y5 t ⟨i, rfl, ht, hi, hl, ha, hv⟩ hc h12
    have q := tt t ht
    rw [q.1, ad i hi, tnc, q.2.1, q.2.2.1] at hc
    rw [q.1, ad i hi]
    omega
  · rintro y3 y5 t ⟨i, rfl, ht, hi, hl, ha, hv⟩ hc h12
    have q := tt t ht
    rw [q.1, ad i hi, tnc, q.2.1, q.2.2.1] at hc
    rw [q.1, ad i hi, tnc, q.2.2.2.1, w32_of (by omega)]
    refine ⟨⟨i + 1, by omega, ht, by omega, go i hc hl, fun j hj => ?_, fun w => ?_⟩, by omega⟩
    · by_cases z : j < i
      · exact ha j z
      · rw [show j = i by omega]; exact hc.2
    · have el := lt i hc.2
      have e8 : s 408 (skR s + i) = ltR s (skR s) i + 96 := by
        have b := h.1 (skR s + i)
        unfold ltR at el ⊢
        unfold TR ub at el ⊢
        split at el <;> omega
      have ea := and31 ⟨(ltR s (skR s) i - 1).toNat, by omega⟩
      have ec : (97 : Int) + (((ltR s (skR s) i - 1).toNat : Nat) : Int) = ltR s (skR s) i + 96 := by omega
      have ea2 : iAnd (ltR s (skR s) i + 96) 31 = ltR s (skR s) i := by
        have ea3 : iAnd (97 + (((ltR s (skR s) i - 1).toNat : Nat) : Int)) 31 = 1 + (((ltR s (skR s) i - 1).toNat : Nat) : Int) := ea
        rw [ec] at ea3
        omega
      have em := PK_m (ltR s (skR s)) i (fun j hj => lt j (ha j hj))
      have e0 := PK_n (ltR s (skR s)) i (fun j hj => lt j (ha j hj))
      have em2 : (32 : Int) ^ i ≤ 32 ^ 11 := by
        have := Nat.pow_le_pow_right (show 0 < 32 by decide) (show i ≤ 11 by omega)
        exact_mod_cast this
      rw [e8, ea2, hv (by omega), lP ⟨e0, by omega⟩ (by omega)]
      rfl
  · rintro y3 y5 t ⟨i, rfl, ht, hi, hl, ha, hv⟩ hc h0
    have q := tt t ht
    rw [q.1, ad i hi, tnc, q.2.1, q.2.2.1] at hc
    have e := en i hc hl
    exact k0 t ⟨fun w => by have := w.1; omega, ht⟩
  · rintro y3 y5 t ⟨i, rfl, ht, hi, hl, ha, hv⟩ hc h0 h13
    have q := tt t ht
    rw [q.1, ad i hi, tnc, q.2.1, q.2.2.1] at hc
    have e := en i hc hl
    exact k0 t ⟨fun w => by have := w.2.1; omega, ht⟩
  · rintro y3 y5 t ⟨i, rfl, ht, hi, hl, ha, hv⟩ hc h0 h13 hx
    have q := tt t ht
    rw [q.1, ad i hi, tnc, q.2.1, q.2.2.1] at hc
    have e := en i hc hl
    refine k0 t ⟨fun w => ?_, ht⟩
    have w2 := w.2.2
    rw [e, show skR s + i - skR s = i by omega] at w2
    rw [lCmp_0, hv (by omega)] at hx
    exact hx w2
  · rintro y3 y5 t ⟨i, rfl, ht, hi, hl, ha, hv⟩ hc h0 h13 hx
    have q := tt t ht
    rw [q.1, ad i hi, tnc, q.2.1, q.2.2.1] at hc
    have e := en i hc hl
    refine k1 t ⟨⟨by omega, by omega, ?_⟩, ht⟩
    rw [e, show skR s + i - skR s = i by omega]
    rw [lCmp_0, hv (by omega)] at hx
    exact hx
  · rintro v t ⟨_, ht⟩
    exact ⟨0, rfl, ht, by omega, rfl, fun j hj => absurd hj (by omega), fun _ => rfl⟩
/-- the words as the reference writes them -/
def cW (k : Nat) : Int := PK (fun i => (chW k i : Int) - 96) (lnW k)
theorem leT_b (T : Nat → Int) (n a : Nat) : a ≤ leT T n a ∧ (a ≤ n → leT T n a ≤ n) := rnT_b (isL T) n a
theorem rnF_P (P : Nat → Bool) (n : Nat) : ∀ f i j, i ≤ j → j < rnF P n f i → P j = true
  | 0, i, j, h1, h2 => absurd (show j < i from h2) (by omega)
  | f + 1, i, j, h1, h2 => by
    unfold rnF at h2
    by_cases z : i < n ∧ P i = true
    · rw [if_pos z] at h2
      by_cases y : j = i
      · rw [y]; exact z.2
      · exact rnF_P P n f (i + 1) j (by omega) h2
    · rw [if_neg z] at h2; omega
theorem rnT_P {P : Nat → Bool} {n i j : Nat} (h1 : i ≤ j) (h2 : j < rnT P n i) : P j = true := rnF_P P n _ i j h1 h2
def tByt (T : Nat → Int) : Prop := ∀ i, 0 ≤ T i ∧ T i ≤ 255
theorem TR_t {s : mSt} (h : TRq s) : tByt (TR s) := fun i => by
  have := h.1 i
  show 0 ≤ ub (s 408 i) ∧ ub (s 408 i) ≤ 255
  unfold ub; split <;> omega
theorem tkL {T : Nat → Int} {n a : Nat} (hT : tByt T) : tkK T n a = 257 ↔ a < n ∧ isL T a = true := by
  have := hT a
  unfold tkK
  by_cases h1 : n ≤ a
  · rw [if_pos h1]; exact ⟨fun z => absurd z (by decide), fun z => by omega⟩
  · rw [if_neg h1]
    by_cases h2 : isL T a = true
    · rw [if_pos h2]; exact ⟨fun _ => ⟨by omega, h2⟩, fun _ => rfl⟩
    · rw [if_neg h2]
      refine ⟨fun z => ?_, fun z => absurd z.2 h2⟩
      exfalso
      split at z
      · exact absurd z (by decide)
      · split at z
        · exact absurd z (by decide)
        · split at z
          · exact absurd z (by decide)
          · omega
theorem tkD {T : Nat → Int} {n a : Nat} (hT : tByt T) : tkK T n a = 256 ↔ a < n ∧ isD T a = true := by
  have := hT a
  unfold tkK
  by_cases h1 : n ≤ a
  · rw [if_pos h1]; exact ⟨fun z => absurd z (by decide), fun z => by omega⟩
  · rw [if_neg h1]
    by_cases h2 : isL T a = true
    · rw [if_pos h2]
      refine ⟨fun z => absurd z (by decide), fun z => ?_⟩
      have a1 := isL_i.1 h2
      have a2 := isD_i.1 z.2
      omega
    · rw [if_neg h2]
      by_cases h3 : isD T a = true
      · rw [if_pos h3]; exact ⟨fun _ => ⟨by omega, h3⟩, fun _ => rfl⟩
      · rw [if_neg h3]
        refine ⟨fun z => ?_, fun z => absurd z.2 h3⟩
        exfalso
        split at z
        · exact absurd z (by decide)
        · split at z
          · exact absurd z (by decide)
          · omega
theorem tkP_L {T : Nat → Int} {n a : Nat} (h : a < n ∧ isL T a = true) : tkP T n a = leT T n a := by
  unfold tkP; rw [if_neg (by omega), if_pos h.2]
theorem tkP_D {T : Nat → Int} {n a : Nat} (h : a < n ∧ isD T a = true) : tkP T n a = deT T n a := by
  unfold tkP; rw [if_neg (by omega), if_neg (fun w => by have a1 := isL_i.1 w; have a2 := isD_i.1 h.2; omega), if_pos h.2]
theorem wd_d : ∀ k : Fin 19, ∀ l : Fin 19, cW k.val = cW l.val → k = l := by decide +kernel
theorem wl_b {k : Nat} (hk : k < 19) : (1 ≤ lnW k ∧ lnW k ≤ 9) ∧ ∀ j, j < lnW k → 1 ≤ (chW k j : Int) - 96 ∧ (chW k j : Int) - 96 ≤ 26 := by
  have f := wd_f ⟨k, hk⟩
  refine ⟨f.1, fun j hj => ?_⟩
  have := f.2.2.2 ⟨j, by have : lnW k ≤ 9 := f.1.2; omega⟩ hj
  have e : 97 ≤ chW k j ∧ chW k j ≤ 122 := this
  omega
theorem iw_b {s : mSt} {k : Nat} (hk : k < 19) : iwR s (cW k) ↔ (skR s < nR s ∧ isL (TR s) (skR s) = true) ∧ isWb (TR s) (skR s) (leT (TR s) (nR s) (skR s)) k = true := by
  have w := wl_b hk
  have b := leT_b (TR s) (nR s) (skR s)
  have lt : ∀ j, j < leT (TR s) (nR s) (skR s) - skR s → 1 ≤ ltR s (skR s) j ∧ ltR s (skR s) j ≤ 26 := fun j hj => by
    have := isL_i.1 (rnT_P (P := isL (TR s)) (n := nR s) (i := skR s) (j := skR s + j) (by omega) (show skR s + j < leT (TR s) (nR s) (skR s) by omega))
    unfold ltR; omega
  rw [isWb_i]
  constructor
  · intro z
    have q := PK_inj _ _ _ _ lt w.2 z.2.2
    have y : skR s < nR s ∧ isL (TR s) (skR s) = true := by
      by_cases y : skR s < nR s ∧ isL (TR s) (skR s) = true
      · exact y
      · have e : leT (TR s) (nR s) (skR s) = skR s := by unfold leT; rw [rnT_e, if_neg y]
        have := z.1
        omega
    refine ⟨y, by have := z.1; omega, fun i hi => ?_⟩
    have := q.2 i (by omega)
    unfold ltR at this
    omega
  · rintro ⟨y, e, q⟩
    refine ⟨by omega, by omega, ?_⟩
    rw [e, show skR s + lnW k - skR s = lnW k by omega]
    unfold cW
    have cg : ∀ (f g : Nat → Int) (m : Nat), (∀ i, i < m → f i = g i) → PK f m = PK g m := fun f g m => by
      induction m with
      | zero => intro _; rfl
      | succ m ih => intro hh; rw [PK_s, PK_s, ih (fun i hi => hh i (by omega)), hh m (by omega)]
    refine cg _ _ _ (fun i hi => ?_)
    have := q i hi
    unfold ltR
    omega
/-- the reference's word is the class's number -/
theorem iw_k {s : mSt} (h : TRq s) {k : Nat} (hk : k < 19) {x : Int} (hx : x = cW k) : iwR s x ↔ wnA (TR s) (nR s) (skR s) = (k : Int) := by
  rw [hx, iw_b hk]
  unfold wnA
  constructor
  · rintro ⟨y, z⟩
    rw [if_pos ((tkL (TR_t h)).2 y), tkP_L y]
    refine fd_eq hk z (fun i hi => ?_)
    by_cases w : isWb (TR s) (skR s) (leT (TR s) (nR s) (skR s)) i = true
    · have e1 := (iw_b (s := s) hk).2 ⟨y, z⟩
      have e2 := (iw_b (s := s) (k := i) (by omega)).2 ⟨y, w⟩
      have e3 : cW k = cW i := e1.2.2.symm.trans e2.2.2
      have := wd_d ⟨k, hk⟩ ⟨i, by omega⟩ e3
      have : k = i := congrArg Fin.val this
      omega
    · exact Bool.eq_false_iff.2 w
  · intro z
    by_cases y : skR s < nR s ∧ isL (TR s) (skR s) = true
    · rw [if_pos ((tkL (TR_t h)).2 y), tkP_L y] at z
      refine ⟨y, ?_⟩
      have := (fd_spec (f := isWb (TR s) (skR s) (leT (TR s) (nR s) (skR s))) (n := 19) (by omega)).1
      rw [z] at this
      exact this
    · rw [if_neg (fun w => y ((tkL (TR_t h)).1 w))] at z
      omega
theorem uS_self (s : mSt) (c j : Nat) : uS s c j (s c j) = s := by
  funext c' j'
  unfold uS
  by_cases z : c' = c ∧ j' = j
  · rw [if_pos z, z.1, z.2]
  · rw [if_neg z]
theorem v178 {X : (Nat → Int) × Nat} {d : Nat} {s : mSt} {Q : mQ}
  (I0 : mSt → Prop) (m0 : mSt → Nat)
  (z1 : ∀ s : mSt, I0  s → TRq s ∧ 0 ≤ (s 407 8))
  (z2 : ∀ s : mSt, I0  s → ((s 407 8).toNat < nR s ∧ isL (TR s) (s 407 8).toNat = true) → I0  (uS s 407 8 (w32 ((s 407 8) + 1))) ∧ m0  (uS s 407 8 (w32 ((s 407 8) + 1))) < m0  s)
  (z3 : ∀ s : mSt, I0  s → (¬ ((s 407 8).toNat < nR s ∧ isL (TR s) (s 407 8).toNat = true)) → Q none s)
  (z4 : I0  s) :
  Sp X (d + 1) 178 [mR 407] s Q := by
  have L : ∀ k : Nat, (∀ (s : mSt), I0  s → m0  s < k → Wp X (d + 1) 178 0 [some (mR 407)] [] s Q) := by
    intro k
    induction k with
    | zero => exact fun _ _ h => absurd h (Nat.not_lt_zero _)
    | succ k ih => exact fun s hI hm => b178_0 (c176 (z1 s hI) (fun q1 => ⟨1, rfl, b178_8 (fun q => absurd q (by decide)) (fun _ => b178_11 (ih  (uS s 407 8 (w32 ((s 407 8) + 1))) (z2 s hI q1).1 (Nat.lt_of_lt_of_le (z2 s hI q1).2 (Nat.le_of_lt_succ hm))))⟩) (fun q2 => ⟨0, rfl, b178_8 (fun _ => b178_24 (z3 s hI q2)) (fun q => absurd q (by decide))⟩))
  exact e178 ((L (m0  s + 1))  s z4 (Nat.lt_succ_self _))

theorem c178 {X : (Nat → Int) × Nat} {d : Nat} {s : mSt} {Q : mQ} (p1 : TRq s) (k : ∀ t : mSt, (t = uS s 407 8 (leT (TR s) (nR s) (s 407 8).toNat : Int)) → Q none t) : Sp X (d + 1) 178 [mR 407] s Q := by
  have h := p1
  have hb := leT_b (TR s) (nR s) (s 407 8).toNat
  have h8 : (s 407 8).toNat ≤ nR s := by have := h.2.2; unfold nR; omega
  let J : mSt → Prop := fun t => ∃ i : Nat, i ≤ nR s ∧ leT (TR s) (nR s) i = leT (TR s) (nR s) (s 407 8).toNat ∧ t = uS s 407 8 (i : Int)
  have tt : ∀ t i, i ≤ nR s → t = uS s 407 8 ((i : Nat) : Int) → t 407 8 = (i : Int) ∧ nR t = nR s ∧ TR t = TR s ∧ TRq t := fun t i hi ht => by
    rw [ht]
    exact ⟨by rw [uS_at, if_pos rfl], nR_u s _ (by decide), TR_u s _ _, TRq_8 h hi⟩
  have nb := (skR_b h).2.2
  refine v178 J (fun t => (500 - t 407 8).toNat) ?_ ?_ ?_ ?_
  · rintro t ⟨i, hi, e, ht⟩
    have q := tt t i hi ht
    exact ⟨q.2.2.2, by rw [q.1]; omega⟩
  · rintro t ⟨i, hi, e, ht⟩ hc
    have q := tt t i hi ht
    rw [q.1, tnc, q.2.1, q.2.2.1] at hc
    rw [q.1, w32_of (by omega)]
    refine ⟨⟨i + 1, by omega, ?_, ?_⟩, ?_⟩
    · rw [← e]; unfold leT; rw [rnT_e _ _ i, if_pos hc]
    · rw [ht, uS_uS]; rfl
    · rw [uS_at, if_pos rfl]; omega
  · rintro t ⟨i, hi, e, ht⟩ hc
    have q := tt t i hi ht
    rw [q.1, tnc, q.2.1, q.2.2.1] at hc
    have e2 : leT (TR s) (nR s) i = i := by unfold leT; rw [rnT_e, if_neg hc]
    exact k t (by rw [← e, e2]; exact ht)
  · refine ⟨(s 407 8).toNat, h8, rfl, ?_⟩
    have e : (((s 407 8).toNat : Nat) : Int) = s 407 8 := by have := h.2.2; omega
    rw [e]
    exact (uS_self s 407 8).symm
theorem v179 {X : (Nat → Int) × Nat} {d : Nat} {s : mSt} {Q : mQ} {x1 : Int}
  (z1 : TRq s)
  (z2 : ∀ s1 : mSt, (iwR s x1 ∧ s1 = uS s 407 8 (skR s : Int)) → TRq s1)
  (z3 : ∀ s1 : mSt, (iwR s x1 ∧ s1 = uS s 407 8 (skR s : Int)) → ∀ s2 : mSt, s2 = uS s1 407 8 (leT (TR s1) (nR s1) (s1 407 8).toNat : Int) → Q (some (mI 1)) s2)
  (z4 : ∀ s3 : mSt, (¬ iwR s x1 ∧ s3 = uS s 407 8 (skR s : Int)) → Q (some (mI 0)) s3) :
  Sp X (d + 2) 179 [mR 407, mJ x1] s Q := e179 (b179_0 (c177 z1 (fun s1 q1 => ⟨1, rfl, b179_5 (fun _ => b179_10 (c178 (z2 s1 q1) (fun s2 q2 => ⟨rfl, b179_14 (z3 s1 q1 s2 q2)⟩))) (fun q => absurd q (by decide))⟩) (fun s3 q3 => ⟨0, rfl, b179_5 (fun q => absurd q (by decide)) (fun _ => b179_8 (z4 s3 q3))⟩)))

theorem c179 {X : (Nat → Int) × Nat} {d : Nat} {s : mSt} {Q : mQ} {x1 : Int} (p1 : TRq s) (k1 : ∀ t : mSt, (iwR s x1 ∧ t = uS s 407 8 (leT (TR s) (nR s) (skR s) : Int)) → Q (some (mI 1)) t) (k0 : ∀ t : mSt, (¬ iwR s x1 ∧ t = uS s 407 8 (skR s : Int)) → Q (some (mI 0)) t) : Sp X (d + 2) 179 [mR 407, mJ x1] s Q := by
  have h := p1
  refine v179 h (fun s1 w => by rw [w.2]; exact TRq_s h) (fun s1 w s2 e => k1 s2 ⟨w.1, ?_⟩) (fun s1 w => k0 s1 w)
  rw [e, w.2, TR_u, nR_u s _ (by decide), uS_at, if_pos rfl, tnc, uS_uS]
