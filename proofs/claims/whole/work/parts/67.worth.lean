/-! the worth of a candidate by a rule -/
def prE (E3 : Nat → Nat) : Nat → Nat
  | 0 => 0
  | c + 1 => E3 c
def wrF (fa sg : Rw) (E1 E3 : Nat → Nat) : Nat → Nat → Int
  | 0, _ => 0
  | k + 1, c => if E3 c ≤ E1 c ∨ evV fa sg (E1 c) (E3 c - E1 c) ≠ 0 then evV fa sg (prE E3 c) (E1 c - prE E3 c) else wrF fa sg E1 E3 k (c + 1)
/-- a lawful rule -/
def RV (sg : Rw) (E1 E3 : Nat → Nat) (n : Nat) : Prop := n ≤ 12 ∧ ∀ c, c < n → (prE E3 c ≤ E1 c ∧ E1 c ≤ E3 c ∧ E3 c ≤ 400) ∧ WS sg (prE E3 c) (E1 c - prE E3 c) false ∧ (E1 c < E3 c → WS sg (E1 c) (E3 c - E1 c) true)
def E1c (s : mSt) (k : Nat) : Nat → Nat := fun c => (s (k + 2) c).toNat
def E3c (s : mSt) (k : Nat) : Nat → Nat := fun c => (s (k + 3) c).toNat
def WKq (s : mSt) (k : Nat) : Prop := RV (sgC s k) (E1c s k) (E3c s k) (s k 4).toNat ∧ 0 ≤ s k 4 ∧ ∀ c, c < (s k 4).toNat → 0 ≤ s (k + 2) c ∧ 0 ≤ s (k + 3) c
def wrC (s : mSt) (k : Nat) : Int := wrF (s 51) (sgC s k) (E1c s k) (E3c s k) (s k 4).toNat 0
theorem v74 {X : (Nat → Int) × Nat} {d : Nat} {s : mSt} {Q : mQ} {a0 : Nat} (h0 : isRl a0)
  (I5 : Int → Int → mSt → Prop) (m5 : Int → Int → mSt → Nat)
  (z1 : ∀ y3 : Int, ∀ y4 : Int, ∀ s : mSt, I5 y3 y4 s → (s a0 4) ≤ y4 → Q (some (mJ 0)) s)
  (z2 : ∀ y3 : Int, ∀ y4 : Int, ∀ s : mSt, I5 y3 y4 s → ¬ (s a0 4) ≤ y4 → 0 ≤ y4 ∧ y4 < 12)
  (z3 : ∀ y3 : Int, ∀ y4 : Int, ∀ s : mSt, I5 y3 y4 s → ¬ (s a0 4) ≤ y4 → (s (a0 + 3) y4.toNat) ≤ (s (a0 + 2) y4.toNat) → 0 ≤ y4 ∧ y4 < 12)
  (z4 : ∀ y3 : Int, ∀ y4 : Int, ∀ s : mSt, I5 y3 y4 s → ¬ (s a0 4) ≤ y4 → (s (a0 + 3) y4.toNat) ≤ (s (a0 + 2) y4.toNat) → VKq s a0 y3 (s (a0 + 2) y4.toNat))
  (z5 : ∀ y3 : Int, ∀ y4 : Int, ∀ s : mSt, I5 y3 y4 s → ¬ (s a0 4) ≤ y4 → (s (a0 + 3) y4.toNat) ≤ (s (a0 + 2) y4.toNat) → ∀ v4 : Int, ∀ s4 : mSt, (v4 = evV (s 51) (sgC s a0) y3.toNat ((s (a0 + 2) y4.toNat) - y3).toNat ∧ (∀ b, b ≠ 52 → s4 b = s b)) → Q (some (mJ v4)) s4)
  (z6 : ∀ y3 : Int, ∀ y4 : Int, ∀ s : mSt, I5 y3 y4 s → ¬ (s a0 4) ≤ y4 → ¬ (s (a0 + 3) y4.toNat) ≤ (s (a0 + 2) y4.toNat) → 0 ≤ y4 ∧ y4 < 12)
  (z7 : ∀ y3 : Int, ∀ y4 : Int, ∀ s : mSt, I5 y3 y4 s → ¬ (s a0 4) ≤ y4 → ¬ (s (a0 + 3) y4.toNat) ≤ (s (a0 + 2) y4.toNat) → VKq s a0 (s (a0 + 2) y4.toNat) (s (a0 + 3) y4.toNat))
  (z8 : ∀ y3 : Int, ∀ y4 : Int, ∀ s : mSt, I5 y3 y4 s → ¬ (s a0 4) ≤ y4 → ¬ (s (a0 + 3) y4.toNat) ≤ (s (a0 + 2) y4.toNat) → ∀ v6 : Int, ∀ s6 : mSt, (v6 = evV (s 51) (sgC s a0) (s (a0 + 2) y4.toNat).toNat ((s (a0 + 3) y4.toNat) - (s (a0 + 2) y4.toNat)).toNat ∧ (∀ b, b ≠ 52 → s6 b = s b)) → (lCmp v6 0) = 0 → 0 ≤ y4 ∧ y4 < 12)
  (z9 : ∀ y3 : Int, ∀ y4 : Int, ∀ s : mSt, I5 y3 y4 s → ¬ (s a0 4) ≤ y4 → ¬ (s (a0 + 3) y4.toNat) ≤ (s (a0 + 2) y4.toNat) → ∀ v6 : Int, ∀ s6 : mSt, (v6 = evV (s 51) (sgC s a0) (s (a0 + 2) y4.toNat).toNat ((s (a0 + 3) y4.toNat) - (s (a0 + 2) y4.toNat)).toNat ∧ (∀ b, b ≠ 52 → s6 b = s b)) → (lCmp v6 0) = 0 → I5 (s6 (a0 + 3) y4.toNat) (w32 (y4 + 1)) s6 ∧ m5 (s6 (a0 + 3) y4.toNat) (w32 (y4 + 1)) s6 < m5 y3 y4 s)
  (z10 : ∀ y3 : Int, ∀ y4 : Int, ∀ s : mSt, I5 y3 y4 s → ¬ (s a0 4) ≤ y4 → ¬ (s (a0 + 3) y4.toNat) ≤ (s (a0 + 2) y4.toNat) → ∀ v6 : Int, ∀ s6 : mSt, (v6 = evV (s 51) (sgC s a0) (s (a0 + 2) y4.toNat).toNat ((s (a0 + 3) y4.toNat) - (s (a0 + 2) y4.toNat)).toNat ∧ (∀ b, b ≠ 52 → s6 b = s b)) → ¬ (lCmp v6 0) = 0 → 0 ≤ y4 ∧ y4 < 12)
  (z11 : ∀ y3 : Int, ∀ y4 : Int, ∀ s : mSt, I5 y3 y4 s → ¬ (s a0 4) ≤ y4 → ¬ (s (a0 + 3) y4.toNat) ≤ (s (a0 + 2) y4.toNat) → ∀ v6 : Int, ∀ s6 : mSt, (v6 = evV (s 51) (sgC s a0) (s (a0 + 2) y4.toNat).toNat ((s (a0 + 3) y4.toNat) - (s (a0 + 2) y4.toNat)).toNat ∧ (∀ b, b ≠ 52 → s6 b = s b)) → ¬ (lCmp v6 0) = 0 → VKq s6 a0 y3 (s6 (a0 + 2) y4.toNat))
  (z12 : ∀ y3 : Int, ∀ y4 : Int, ∀ s : mSt, I5 y3 y4 s → ¬ (s a0 4) ≤ y4 → ¬ (s (a0 + 3) y4.toNat) ≤ (s (a0 + 2) y4.toNat) → ∀ v6 : Int, ∀ s6 : mSt, (v6 = evV (s 51) (sgC s a0) (s (a0 + 2) y4.toNat).toNat ((s (a0 + 3) y4.toNat) - (s (a0 + 2) y4.toNat)).toNat ∧ (∀ b, b ≠ 52 → s6 b = s b)) → ¬ (lCmp v6 0) = 0 → ∀ v9 : Int, ∀ s9 : mSt, (v9 = evV (s6 51) (sgC s6 a0) y3.toNat ((s6 (a0 + 2) y4.toNat) - y3).toNat ∧ (∀ b, b ≠ 52 → s9 b = s6 b)) → Q (some (mJ v9)) s9)
  (z13 : I5 0 0 s) :
  Sp X (d + 2) 74 [mR a0, mR 51, mR 52] s Q := by
  have L : ∀ k : Nat, (∀ (y3 : Int) (y4 : Int) (l5 : Option mV) (s : mSt), I5 y3 y4 s → m5 y3 y4 s < k → Wp X (d + 2) 74 5 [some (mR a0), some (mR 51), some (mR 52), some (mI y3), some (mI y4), l5] [] s Q) := by
    intro k
    induction k with
    | zero => exact fun _ _ _ _ _ h => absurd h (Nat.not_lt_zero _)
    | succ k ih => exact fun y3 y4 l5 s hI hm => b74_5 h0 (fun q1 => b74_97 h0 (z1 y3 y4 s hI q1)) (fun q2 => b74_14 h0 (z2 y3 y4 s hI q2) (z2 y3 y4 s hI q2) (fun q3 => b74_35 h0 (b74_36 h0 (fun _ => b74_68 h0 (z3 y3 y4 s hI q2 q3) (c75 h0 (z4 y3 y4 s hI q2 q3) (fun v4 s4 q4 => ⟨v4, rfl, b74_82 h0 (z5 y3 y4 s hI q2 q3 v4 s4 q4)⟩))) (fun q => absurd q (by decide)))) (fun q5 => b74_31 h0 (b74_36 h0 (fun q => absurd q (by decide)) (fun _ => b74_43 h0 (z6 y3 y4 s hI q2 q5) (z6 y3 y4 s hI q2 q5) (c75 h0 (z7 y3 y4 s hI q2 q5) (fun v6 s6 q6 => ⟨v6, rfl, b74_63 h0 (fun q7 => b74_83 h0 (z8 y3 y4 s hI q2 q5 v6 s6 q6 q7) (ih (s6 (a0 + 3) y4.toNat) (w32 (y4 + 1)) (some (mI 1)) s6 (z9 y3 y4 s hI q2 q5 v6 s6 q6 q7).1 (Nat.lt_of_lt_of_le (z9 y3 y4 s hI q2 q5 v6 s6 q6 q7).2 (Nat.le_of_lt_succ hm)))) (fun q8 => b74_68 h0 (z10 y3 y4 s hI q2 q5 v6 s6 q6 q8) (c75 h0 (z11 y3 y4 s hI q2 q5 v6 s6 q6 q8) (fun v9 s9 q9 => ⟨v9, rfl, b74_82 h0 (z12 y3 y4 s hI q2 q5 v6 s6 q6 q8 v9 s9 q9)⟩)))⟩))))))
  exact e74 (b74_0 h0 ((L (m5 0 0 s + 1)) 0 0 none s z13 (Nat.lt_succ_self _)))

theorem c74 {X : (Nat → Int) × Nat} {d : Nat} {s : mSt} {Q : mQ} {a0 : Nat} (h0 : isRl a0) (p1 : WKq s a0) (k : ∀ (v : Int) (t : mSt), (v = wrC s a0 ∧ (∀ b, b ≠ 52 → t b = s b)) → Q (some (mJ v)) t) : Sp X (d + 2) 74 [mR a0, mR 51, mR 52] s Q := by
  obtain ⟨⟨r1, r2⟩, r3, r4⟩ := p1
  have hrl := rl_b h0
  let n := (s a0 4).toNat
  have hn : n = (s a0 4).toNat := rfl
  have cs : ∀ t : mSt, (∀ b, b ≠ 52 → t b = s b) → t a0 = s a0 ∧ t (a0 + 2) = s (a0 + 2) ∧ t (a0 + 3) = s (a0 + 3) ∧ t 51 = s 51 ∧ sgC t a0 = sgC s a0 := fun t h => by
    refine ⟨h _ (by omega), h _ (by omega), h _ (by omega), h _ (by decide), ?_⟩
    funext i; unfold sgC; rw [h _ (by omega)]
  let J : Int → Int → mSt → Prop := fun y3 y4 t => ∃ c : Nat, y4 = c ∧ c ≤ n ∧ y3 = (prE (E3c s a0) c : Int) ∧ wrC s a0 = wrF (s 51) (sgC s a0) (E1c s a0) (E3c s a0) (n - c) c ∧ (∀ b, b ≠ 52 → t b = s b)
  have jj : ∀ y3 y4 t, J y3 y4 t → ¬ t a0 4 ≤ y4 → ∃ c : Nat, y4 = c ∧ c < n ∧ y3 = (prE (E3c s a0) c : Int) ∧ wrC s a0 = wrF (s 51) (sgC s a0) (E1c s a0) (E3c s a0) ((n - (c + 1)) + 1) c ∧ (∀ b, b ≠ 52 → t b = s b) := fun y3 y4 t ⟨c, e, hc, e1, e2, e3⟩ hy => by
    rw [(cs t e3).1] at hy
    refine ⟨c, e, by omega, e1, ?_, e3⟩
    rw [e2, show n - (c + 1) + 1 = n - c by omega]
  have e12 : ∀ c : Nat, c < n → s (a0 + 2) c = (E1c s a0 c : Int) ∧ s (a0 + 3) c = (E3c s a0 c : Int) := fun c hc => by
    have := r4 c hc
    unfold E1c E3c; omega
  have sumV : ∀ (c : Nat) (t : mSt), c < n → (∀ b, b ≠ 52 → t b = s b) → VKq t a0 (prE (E3c s a0) c : Int) (E1c s a0 c : Int) := fun c t hc h => by
    obtain ⟨w1, w2, w3⟩ := r2 c hc
    unfold VKq
    rw [(cs t h).2.2.2.2, tnc, show ((E1c s a0 c : Int) - (prE (E3c s a0) c : Int)).toNat = E1c s a0 c - prE (E3c s a0) c by omega]
    exact ⟨by omega, false, w2⟩
  refine v74 h0 J (fun _ y _ => (12 - y).toNat) ?_ ?_ ?_ ?_ ?_ ?_ ?_ ?_ ?_ ?_ ?_ ?_ ?_
  · rintro _ _ t ⟨c, rfl, hc, rfl, e2, e3⟩ hy
    rw [(cs t e3).1] at hy
    rw [show n - c = 0 by omega] at e2
    exact k _ t ⟨e2.symm, e3⟩
  · intro y3 y4 t hJ hy
    obtain ⟨c, rfl, hc, rfl, e2, e3⟩ := jj _ _ t hJ hy
    omega
  · intro y3 y4 t hJ hy _
    obtain ⟨c, rfl, hc, rfl, e2, e3⟩ := jj _ _ t hJ hy
    omega
  · intro y3 y4 t hJ hy q
    obtain ⟨c, rfl, hc, rfl, e2, e3⟩ := jj _ _ t hJ hy
    have w := cs t e3
    rw [w.2.1, tnc, (e12 c hc).1]
    exact sumV c t hc e3
  · intro y3 y4 t hJ hy q v u hv
    obtain ⟨c, rfl, hc, rfl, e2, e3⟩ := jj _ _ t hJ hy
    have w := cs t e3
    rw [w.2.2.1, w.2.1, tnc, (e12 c hc).1, (e12 c hc).2] at q
    rw [w.2.1, tnc, tnc, (e12 c hc).1, w.2.2.2.1, w.2.2.2.2, show ((E1c s a0 c : Int) - (prE (E3c s a0) c : Int)).toNat = E1c s a0 c - prE (E3c s a0) c by omega] at hv
    refine k _ u ⟨?_, fun b hb => (hv.2 b hb).trans (e3 b hb)⟩
    rw [e2, wrF, if_pos (Or.inl (by omega))]; exact hv.1
  · intro y3 y4 t hJ hy q
    obtain ⟨c, rfl, hc, rfl, e2, e3⟩ := jj _ _ t hJ hy
    omega
  · intro y3 y4 t hJ hy q
    obtain ⟨c, rfl, hc, rfl, e2, e3⟩ := jj _ _ t hJ hy
    have w := cs t e3
    obtain ⟨w1, w2, w3⟩ := r2 c hc
    rw [w.2.2.1, w.2.1, tnc, (e12 c hc).1, (e12 c hc).2] at q ⊢
    unfold VKq
    rw [w.2.2.2.2, tnc, show ((E3c s a0 c : Int) - (E1c s a0 c : Int)).toNat = E3c s a0 c - E1c s a0 c by omega]
    exact ⟨by omega, true, w3 (by omega)⟩
  · intro y3 y4 t hJ hy q v u hv q2
    obtain ⟨c, rfl, hc, rfl, e2, e3⟩ := jj _ _ t hJ hy
    omega
  · intro y3 y4 t hJ hy q v u hv q2
    obtain ⟨c, rfl, hc, rfl, e2, e3⟩ := jj _ _ t hJ hy
    have w := cs t e3
    rw [w.2.2.1, w.2.1, tnc, (e12 c hc).1, (e12 c hc).2] at q
    rw [w.2.2.1, w.2.1, tnc, (e12 c hc).1, (e12 c hc).2, w.2.2.2.1, w.2.2.2.2, tnc, show ((E3c s a0 c : Int) - (E1c s a0 c : Int)).toNat = E3c s a0 c - E1c s a0 c by omega] at hv
    have hu : ∀ b, b ≠ 52 → u b = s b := fun b hb => (hv.2 b hb).trans (e3 b hb)
    rw [lCmp_eq] at q2
    rw [w32_of (by omega), (cs u hu).2.2.1, tnc, (e12 c hc).2]
    refine ⟨⟨c + 1, by omega, by omega, rfl, ?_, hu⟩, by omega⟩
    rw [e2, wrF, if_neg (by rw [← hv.1]; intro z; rcases z with z | z; exact absurd z (by omega); exact z q2)]
  · intro y3 y4 t hJ hy q v u hv q2
    obtain ⟨c, rfl, hc, rfl, e2, e3⟩ := jj _ _ t hJ hy
    omega
  · intro y3 y4 t hJ hy q v u hv q2
    obtain ⟨c, rfl, hc, rfl, e2, e3⟩ := jj _ _ t hJ hy
    have hu : ∀ b, b ≠ 52 → u b = s b := fun b hb => (hv.2 b hb).trans (e3 b hb)
    rw [(cs u hu).2.1, tnc, (e12 c hc).1]
    exact sumV c u hc hu
  · intro y3 y4 t hJ hy q v u hv q2 v9 u9 hv9
    obtain ⟨c, rfl, hc, rfl, e2, e3⟩ := jj _ _ t hJ hy
    have w := cs t e3
    rw [w.2.2.1, w.2.1, tnc, (e12 c hc).1, (e12 c hc).2, w.2.2.2.1, w.2.2.2.2, tnc, show ((E3c s a0 c : Int) - (E1c s a0 c : Int)).toNat = E3c s a0 c - E1c s a0 c by omega] at hv
    have hu : ∀ b, b ≠ 52 → u b = s b := fun b hb => (hv.2 b hb).trans (e3 b hb)
    have w' := cs u hu
    rw [lCmp_eq] at q2
    rw [w'.2.1, tnc, tnc, (e12 c hc).1, w'.2.2.2.1, w'.2.2.2.2, show ((E1c s a0 c : Int) - (prE (E3c s a0) c : Int)).toNat = E1c s a0 c - prE (E3c s a0) c by omega] at hv9
    refine k _ u9 ⟨?_, fun b hb => (hv9.2 b hb).trans (hu b hb)⟩
    rw [e2, wrF, if_pos (Or.inr (by rw [← hv.1]; exact q2))]; exact hv9.1
  · exact ⟨0, rfl, by omega, rfl, rfl, fun _ _ => rfl⟩
/-! the reference's -/
def sgR (s : mSt) (r : Nat) : Rw := fun i => s 409 (400 * r + i)
def E1r (s : mSt) (r : Nat) : Nat → Nat := fun c => (s 411 (48 * r + 4 * c + 1)).toNat
def E3r (s : mSt) (r : Nat) : Nat → Nat := fun c => (s 411 (48 * r + 4 * c + 3)).toNat
def SKq (s : mSt) (r : Nat) : Prop := RV (sgR s r) (E1r s r) (E3r s r) (s 412 r).toNat ∧ 0 ≤ s 412 r ∧ ∀ c, c < (s 412 r).toNat → (0 ≤ s 411 (48 * r + 4 * c + 1) ∧ 0 ≤ s 411 (48 * r + 4 * c + 3)) ∧ s 411 (48 * r + 4 * c) = (prE (E3r s r) c : Int) ∧ s 411 (48 * r + 4 * c + 2) = (if E3r s r c ≤ E1r s r c then -1 else (E1r s r c : Int))
def wrR (s : mSt) (r : Nat) : Int := wrF (s 416) (sgR s r) (E1r s r) (E3r s r) (s 412 r).toNat 0
theorem evP_sh (fa : Rw) (s : mSt) (r o : Nat) : ∀ j : Nat, evP fa (s 409) (400 * r + o) j = evP fa (sgR s r) o j
  | 0 => rfl
  | j + 1 => by
    rw [evP, evP, evP_sh fa s r o j]
    unfold sgR
    rw [Nat.add_assoc]
theorem seg_sh (s : mSt) (r o n : Nat) : seg (s 409) (400 * r + o) n = seg (sgR s r) o n := by
  unfold seg sgR
  refine List.map_congr_left (fun i _ => ?_)
  rw [Nat.add_assoc]
theorem evV_sh (fa : Rw) (s : mSt) (r o n : Nat) : evV fa (s 409) (400 * r + o) n = evV fa (sgR s r) o n := by unfold evV; rw [evP_sh]
theorem WS_sh {s : mSt} {r o n : Nat} {b : Bool} (h : WS (sgR s r) o n b) : WS (s 409) (400 * r + o) n b := by unfold WS at h ⊢; rw [seg_sh]; exact h
theorem v247 {X : (Nat → Int) × Nat} {d : Nat} {s : mSt} {Q : mQ} {x1 : Int}
  (I2 : Int → mSt → Prop) (m2 : Int → mSt → Nat)
  (z1 : ∀ y2 : Int, ∀ s : mSt, I2 y2 s → 0 ≤ x1 ∧ x1 < 6)
  (z2 : ∀ y2 : Int, ∀ s : mSt, I2 y2 s → (s 412 x1.toNat) ≤ y2 → Q (some (mJ 0)) s)
  (z3 : ∀ y2 : Int, ∀ s : mSt, I2 y2 s → ¬ (s 412 x1.toNat) ≤ y2 → 0 ≤ (w32 ((w32 ((w32 (48 * x1)) + (w32 (4 * y2)))) + 2)) ∧ (w32 ((w32 ((w32 (48 * x1)) + (w32 (4 * y2)))) + 2)) < 288)
  (z4 : ∀ y2 : Int, ∀ s : mSt, I2 y2 s → ¬ (s 412 x1.toNat) ≤ y2 → (s 411 (w32 ((w32 ((w32 (48 * x1)) + (w32 (4 * y2)))) + 2)).toNat) < 0 → 0 ≤ (w32 ((w32 (48 * x1)) + (w32 (4 * y2)))) ∧ (w32 ((w32 (48 * x1)) + (w32 (4 * y2)))) < 288)
  (z5 : ∀ y2 : Int, ∀ s : mSt, I2 y2 s → ¬ (s 412 x1.toNat) ≤ y2 → (s 411 (w32 ((w32 ((w32 (48 * x1)) + (w32 (4 * y2)))) + 2)).toNat) < 0 → 0 ≤ (w32 ((w32 ((w32 (48 * x1)) + (w32 (4 * y2)))) + 1)) ∧ (w32 ((w32 ((w32 (48 * x1)) + (w32 (4 * y2)))) + 1)) < 288)
  (z6 : ∀ y2 : Int, ∀ s : mSt, I2 y2 s → ¬ (s 412 x1.toNat) ≤ y2 → (s 411 (w32 ((w32 ((w32 (48 * x1)) + (w32 (4 * y2)))) + 2)).toNat) < 0 → RKq s x1 (s 411 (w32 ((w32 (48 * x1)) + (w32 (4 * y2)))).toNat) (s 411 (w32 ((w32 ((w32 (48 * x1)) + (w32 (4 * y2)))) + 1)).toNat))
  (z7 : ∀ y2 : Int, ∀ s : mSt, I2 y2 s → ¬ (s 412 x1.toNat) ≤ y2 → (s 411 (w32 ((w32 ((w32 (48 * x1)) + (w32 (4 * y2)))) + 2)).toNat) < 0 → ∀ v4 : Int, ∀ s4 : mSt, (v4 = evV (s 416) (s 409) (400 * x1.toNat + (s 411 (w32 ((w32 (48 * x1)) + (w32 (4 * y2)))).toNat).toNat) ((s 411 (w32 ((w32 ((w32 (48 * x1)) + (w32 (4 * y2)))) + 1)).toNat) - (s 411 (w32 ((w32 (48 * x1)) + (w32 (4 * y2)))).toNat)).toNat ∧ fK s s4) → Q (some (mJ v4)) s4)
  (z8 : ∀ y2 : Int, ∀ s : mSt, I2 y2 s → ¬ (s 412 x1.toNat) ≤ y2 → ¬ (s 411 (w32 ((w32 ((w32 (48 * x1)) + (w32 (4 * y2)))) + 2)).toNat) < 0 → 0 ≤ (w32 ((w32 ((w32 (48 * x1)) + (w32 (4 * y2)))) + 2)) ∧ (w32 ((w32 ((w32 (48 * x1)) + (w32 (4 * y2)))) + 2)) < 288)
  (z9 : ∀ y2 : Int, ∀ s : mSt, I2 y2 s → ¬ (s 412 x1.toNat) ≤ y2 → ¬ (s 411 (w32 ((w32 ((w32 (48 * x1)) + (w32 (4 * y2)))) + 2)).toNat) < 0 → 0 ≤ (w32 ((w32 ((w32 (48 * x1)) + (w32 (4 * y2)))) + 3)) ∧ (w32 ((w32 ((w32 (48 * x1)) + (w32 (4 * y2)))) + 3)) < 288)
  (z10 : ∀ y2 : Int, ∀ s : mSt, I2 y2 s → ¬ (s 412 x1.toNat) ≤ y2 → ¬ (s 411 (w32 ((w32 ((w32 (48 * x1)) + (w32 (4 * y2)))) + 2)).toNat) < 0 → RKq s x1 (s 411 (w32 ((w32 ((w32 (48 * x1)) + (w32 (4 * y2)))) + 2)).toNat) (s 411 (w32 ((w32 ((w32 (48 * x1)) + (w32 (4 * y2)))) + 3)).toNat))
  (z11 : ∀ y2 : Int, ∀ s : mSt, I2 y2 s → ¬ (s 412 x1.toNat) ≤ y2 → ¬ (s 411 (w32 ((w32 ((w32 (48 * x1)) + (w32 (4 * y2)))) + 2)).toNat) < 0 → ∀ v6 : Int, ∀ s6 : mSt, (v6 = evV (s 416) (s 409) (400 * x1.toNat + (s 411 (w32 ((w32 ((w32 (48 * x1)) + (w32 (4 * y2)))) + 2)).toNat).toNat) ((s 411 (w32 ((w32 ((w32 (48 * x1)) + (w32 (4 * y2)))) + 3)).toNat) - (s 411 (w32 ((w32 ((w32 (48 * x1)) + (w32 (4 * y2)))) + 2)).toNat)).toNat ∧ fK s s6) → ¬ (lCmp v6 1) = 0 → I2 (w32 (y2 + 1)) s6 ∧ m2 (w32 (y2 + 1)) s6 < m2 y2 s)
  (z12 : ∀ y2 : Int, ∀ s : mSt, I2 y2 s → ¬ (s 412 x1.toNat) ≤ y2 → ¬ (s 411 (w32 ((w32 ((w32 (48 * x1)) + (w32 (4 * y2)))) + 2)).toNat) < 0 → ∀ v6 : Int, ∀ s6 : mSt, (v6 = evV (s 416) (s 409) (400 * x1.toNat + (s 411 (w32 ((w32 ((w32 (48 * x1)) + (w32 (4 * y2)))) + 2)).toNat).toNat) ((s 411 (w32 ((w32 ((w32 (48 * x1)) + (w32 (4 * y2)))) + 3)).toNat) - (s 411 (w32 ((w32 ((w32 (48 * x1)) + (w32 (4 * y2)))) + 2)).toNat)).toNat ∧ fK s s6) → (lCmp v6 1) = 0 → 0 ≤ (w32 ((w32 (48 * x1)) + (w32 (4 * y2)))) ∧ (w32 ((w32 (48 * x1)) + (w32 (4 * y2)))) < 288)
  (z13 : ∀ y2 : Int, ∀ s : mSt, I2 y2 s → ¬ (s 412 x1.toNat) ≤ y2 → ¬ (s 411 (w32 ((w32 ((w32 (48 * x1)) + (w32 (4 * y2)))) + 2)).toNat) < 0 → ∀ v6 : Int, ∀ s6 : mSt, (v6 = evV (s 416) (s 409) (400 * x1.toNat + (s 411 (w32 ((w32 ((w32 (48 * x1)) + (w32 (4 * y2)))) + 2)).toNat).toNat) ((s 411 (w32 ((w32 ((w32 (48 * x1)) + (w32 (4 * y2)))) + 3)).toNat) - (s 411 (w32 ((w32 ((w32 (48 * x1)) + (w32 (4 * y2)))) + 2)).toNat)).toNat ∧ fK s s6) → (lCmp v6 1) = 0 → 0 ≤ (w32 ((w32 ((w32 (48 * x1)) + (w32 (4 * y2)))) + 1)) ∧ (w32 ((w32 ((w32 (48 * x1)) + (w32 (4 * y2)))) + 1)) < 288)
  (z14 : ∀ y2 : Int, ∀ s : mSt, I2 y2 s → ¬ (s 412 x1.toNat) ≤ y2 → ¬ (s 411 (w32 ((w32 ((w32 (48 * x1)) + (w32 (4 * y2)))) + 2)).toNat) < 0 → ∀ v6 : Int, ∀ s6 : mSt, (v6 = evV (s 416) (s 409) (400 * x1.toNat + (s 411 (w32 ((w32 ((w32 (48 * x1)) + (w32 (4 * y2)))) + 2)).toNat).toNat) ((s 411 (w32 ((w32 ((w32 (48 * x1)) + (w32 (4 * y2)))) + 3)).toNat) - (s 411 (w32 ((w32 ((w32 (48 * x1)) + (w32 (4 * y2)))) + 2)).toNat)).toNat ∧ fK s s6) → (lCmp v6 1) = 0 → RKq s6 x1 (s6 411 (w32 ((w32 (48 * x1)) + (w32 (4 * y2)))).toNat) (s6 411 (w32 ((w32 ((w32 (48 * x1)) + (w32 (4 * y2)))) + 1)).toNat))
  (z15 : ∀ y2 : Int, ∀ s : mSt, I2 y2 s → ¬ (s 412 x1.toNat) ≤ y2 → ¬ (s 411 (w32 ((w32 ((w32 (48 * x1)) + (w32 (4 * y2)))) + 2)).toNat) < 0 → ∀ v6 : Int, ∀ s6 : mSt, (v6 = evV (s 416) (s 409) (400 * x1.toNat + (s 411 (w32 ((w32 ((w32 (48 * x1)) + (w32 (4 * y2)))) + 2)).toNat).toNat) ((s 411 (w32 ((w32 ((w32 (48 * x1)) + (w32 (4 * y2)))) + 3)).toNat) - (s 411 (w32 ((w32 ((w32 (48 * x1)) + (w32 (4 * y2)))) + 2)).toNat)).toNat ∧ fK s s6) → (lCmp v6 1) = 0 → ∀ v9 : Int, ∀ s9 : mSt, (v9 = evV (s6 416) (s6 409) (400 * x1.toNat + (s6 411 (w32 ((w32 (48 * x1)) + (w32 (4 * y2)))).toNat).toNat) ((s6 411 (w32 ((w32 ((w32 (48 * x1)) + (w32 (4 * y2)))) + 1)).toNat) - (s6 411 (w32 ((w32 (48 * x1)) + (w32 (4 * y2)))).toNat)).toNat ∧ fK s6 s9) → Q (some (mJ v9)) s9)
  (z16 : I2 0 s) :
  Sp X (d + 2) 247 [mR 407, mI x1] s Q := by
  have L : ∀ k : Nat, (∀ (y2 : Int) (l3 : Option mV) (s : mSt), I2 y2 s → m2 y2 s < k → Wp X (d + 2) 247 2 [some (mR 407), some (mI x1), some (mI y2), l3] [] s Q) := by
    intro k
    induction k with
    | zero => exact fun _ _ _ _ h => absurd h (Nat.not_lt_zero _)
    | succ k ih => exact fun y2 l3 s hI hm => b247_2 (z1 y2 s hI) (fun q1 => b247_84 (z2 y2 s hI q1)) (fun q2 => b247_12 (z3 y2 s hI q2) (fun q3 => b247_58 (z4 y2 s hI q2 q3) (z5 y2 s hI q2 q3) (c211 (z6 y2 s hI q2 q3) (fun v4 s4 q4 => ⟨v4, rfl, b247_77 (z7 y2 s hI q2 q3 v4 s4 q4)⟩))) (fun q5 => b247_32 (z8 y2 s hI q2 q5) (z9 y2 s hI q2 q5) (c211 (z10 y2 s hI q2 q5) (fun v6 s6 q6 => ⟨v6, rfl, b247_53 (fun q7 => b247_78 (ih (w32 (y2 + 1)) (some (mI (w32 ((w32 (48 * x1)) + (w32 (4 * y2)))))) s6 (z11 y2 s hI q2 q5 v6 s6 q6 q7).1 (Nat.lt_of_lt_of_le (z11 y2 s hI q2 q5 v6 s6 q6 q7).2 (Nat.le_of_lt_succ hm)))) (fun q8 => b247_58 (z12 y2 s hI q2 q5 v6 s6 q6 q8) (z13 y2 s hI q2 q5 v6 s6 q6 q8) (c211 (z14 y2 s hI q2 q5 v6 s6 q6 q8) (fun v9 s9 q9 => ⟨v9, rfl, b247_77 (z15 y2 s hI q2 q5 v6 s6 q6 q8 v9 s9 q9)⟩)))⟩))))
  exact e247 (b247_0 ((L (m2 0 s + 1)) 0 none s z16 (Nat.lt_succ_self _)))

theorem c247 {X : (Nat → Int) × Nat} {d : Nat} {s : mSt} {Q : mQ} {x1 : Int} (p1 : (0 ≤ x1 ∧ x1 < 6) ∧ SKq s x1.toNat) (k : ∀ (v : Int) (t : mSt), (v = wrR s x1.toNat ∧ fK s t) → Q (some (mJ v)) t) : Sp X (d + 2) 247 [mR 407, mI x1] s Q := by
  obtain ⟨h1, ⟨r1, r2⟩, r3, r4⟩ := p1
  obtain ⟨r, rfl⟩ := nat_of h1.1
  rw [tnc] at r1 r2 r3 r4 k
  let n := (s 412 r).toNat
  have hn : n = (s 412 r).toNat := rfl
  have hf : ∀ t u : mSt, fK s t → fK t u → fK s u := fun t u a b => ⟨fun x h1 h2 => (b.1 x h1 h2).trans (a.1 x h1 h2), fun j h => (b.2 j h).trans (a.2 j h)⟩
  let J : Int → mSt → Prop := fun y t => ∃ c : Nat, y = c ∧ c ≤ n ∧ wrR s r = wrF (s 416) (sgR s r) (E1r s r) (E3r s r) (n - c) c ∧ fK s t
  have jj : ∀ y t, J y t → ¬ t 412 (r : Int).toNat ≤ y → ∃ c : Nat, y = c ∧ c < n ∧ wrR s r = wrF (s 416) (sgR s r) (E1r s r) (E3r s r) ((n - (c + 1)) + 1) c ∧ fK s t := fun y t ⟨c, e, hc, e2, e3⟩ hy => by
    rw [e3.1 412 (by decide) (by decide), tnc] at hy
    refine ⟨c, e, by omega, ?_, e3⟩
    rw [e2, show n - (c + 1) + 1 = n - c by omega]
  have ix : ∀ (c q : Nat), c < n → q ≤ 3 → (w32 (w32 (w32 (48 * (r : Int)) + w32 (4 * (c : Int))) + (q : Int))).toNat = 48 * r + 4 * c + q ∧ (0 ≤ w32 (w32 (w32 (48 * (r : Int)) + w32 (4 * (c : Int))) + (q : Int)) ∧ w32 (w32 (w32 (48 * (r : Int)) + w32 (4 * (c : Int))) + (q : Int)) < 288) := fun c q hc hq => by
    rw [w32_of (x := 48 * (r : Int)) (by omega), w32_of (x := 4 * (c : Int)) (by omega), w32_of (x := 48 * (r : Int) + 4 * (c : Int)) (by omega), w32_of (by omega)]; omega
  have ix0 : ∀ c : Nat, c < n → (w32 (w32 (48 * (r : Int)) + w32 (4 * (c : Int)))).toNat = 48 * r + 4 * c ∧ (0 ≤ w32 (w32 (48 * (r : Int)) + w32 (4 * (c : Int))) ∧ w32 (w32 (48 * (r : Int)) + w32 (4 * (c : Int))) < 288) := fun c hc => by
    rw [w32_of (x := 48 * (r : Int)) (by omega), w32_of (x := 4 * (c : Int)) (by omega), w32_of (by omega)]; omega
  have i1 : ∀ c : Nat, c < n → (w32 (w32 (w32 (48 * (r : Int)) + w32 (4 * (c : Int))) + 1)).toNat = 48 * r + 4 * c + 1 := fun c hc => (ix c 1 hc (by omega)).1
  have i2 : ∀ c : Nat, c < n → (w32 (w32 (w32 (48 * (r : Int)) + w32 (4 * (c : Int))) + 2)).toNat = 48 * r + 4 * c + 2 := fun c hc => (ix c 2 hc (by omega)).1
  have i3' : ∀ c : Nat, c < n → (w32 (w32 (w32 (48 * (r : Int)) + w32 (4 * (c : Int))) + 3)).toNat = 48 * r + 4 * c + 3 := fun c hc => (ix c 3 hc (by omega)).1
  have e12 : ∀ c : Nat, c < n → s 411 (48 * r + 4 * c + 1) = (E1r s r c : Int) ∧ s 411 (48 * r + 4 * c + 3) = (E3r s r c : Int) ∧ s 411 (48 * r + 4 * c) = (prE (E3r s r) c : Int) ∧ s 411 (48 * r + 4 * c + 2) = (if E3r s r c ≤ E1r s r c then -1 else (E1r s r c : Int)) := fun c hc => by
    have := r4 c hc
    exact ⟨by unfold E1r; omega, by unfold E3r; omega, this.2.1, this.2.2⟩
  have sumV : ∀ (c : Nat) (t : mSt), c < n → fK s t → RKq t (r : Int) (prE (E3r s r) c : Int) (E1r s r c : Int) := fun c t hc h => by
    obtain ⟨w1, w2, w3⟩ := r2 c hc
    unfold RKq
    rw [h.1 409 (by decide) (by decide), tnc, tnc, show ((E1r s r c : Int) - (prE (E3r s r) c : Int)).toNat = E1r s r c - prE (E3r s r) c by omega]
    exact ⟨by omega, by omega, false, WS_sh w2⟩
  refine v247 J (fun y _ => (12 - y).toNat) ?_ ?_ ?_ ?_ ?_ ?_ ?_ ?_ ?_ ?_ ?_ ?_ ?_ ?_ ?_ ?_
  · intro y t hJ; exact h1
  · rintro _ t ⟨c, rfl, hc, e2, e3⟩ hy
    rw [e3.1 412 (by decide) (by decide), tnc] at hy
    rw [show n - c = 0 by omega] at e2
    exact k _ t ⟨e2.symm, e3⟩
  · intro y t hJ hy
    obtain ⟨c, rfl, hc, e2, e3⟩ := jj _ t hJ hy
    exact (ix c 2 hc (by omega)).2
  · intro y t hJ hy _
    obtain ⟨c, rfl, hc, e2, e3⟩ := jj _ t hJ hy
    exact (ix0 c hc).2
  · intro y t hJ hy _
    obtain ⟨c, rfl, hc, e2, e3⟩ := jj _ t hJ hy
    exact (ix c 1 hc (by omega)).2
  · intro y t hJ hy q
    obtain ⟨c, rfl, hc, e2, e3⟩ := jj _ t hJ hy
    rw [(ix0 c hc).1, i1 c hc, e3.1 411 (by decide) (by decide), (e12 c hc).1, (e12 c hc).2.2.1]
    exact sumV c t hc e3
  · intro y t hJ hy q v u hv
    obtain ⟨c, rfl, hc, e2, e3⟩ := jj _ t hJ hy
    rw [i2 c hc, e3.1 411 (by decide) (by decide), (e12 c hc).2.2.2] at q
    rw [(ix0 c hc).1, i1 c hc, e3.1 411 (by decide) (by decide), (e12 c hc).1, (e12 c hc).2.2.1, e3.1 416 (by decide) (by decide), e3.1 409 (by decide) (by decide), tnc, tnc, show ((E1r s r c : Int) - (prE (E3r s r) c : Int)).toNat = E1r s r c - prE (E3r s r) c by omega, evV_sh] at hv
    refine k _ u ⟨?_, hf t u e3 hv.2⟩
    have hle : E3r s r c ≤ E1r s r c := by
      apply Classical.byContradiction; intro z
      rw [if_neg z] at q; omega
    rw [e2, wrF, if_pos (Or.inl hle)]; exact hv.1
  · intro y t hJ hy _
    obtain ⟨c, rfl, hc, e2, e3⟩ := jj _ t hJ hy
    exact (ix c 2 hc (by omega)).2
  · intro y t hJ hy _
    obtain ⟨c, rfl, hc, e2, e3⟩ := jj _ t hJ hy
    exact (ix c 3 hc (by omega)).2
  · intro y t hJ hy q
    obtain ⟨c, rfl, hc, e2, e3⟩ := jj _ t hJ hy
    obtain ⟨w1, w2, w3⟩ := r2 c hc
    rw [i2 c hc, e3.1 411 (by decide) (by decide), (e12 c hc).2.2.2] at q
    have hle : ¬ E3r s r c ≤ E1r s r c := fun z => by rw [if_pos z] at q; exact q (by decide)
    rw [i2 c hc, i3' c hc, e3.1 411 (by decide) (by decide), (e12 c hc).2.2.2, (e12 c hc).2.1, if_neg hle]
    unfold RKq
    rw [e3.1 409 (by decide) (by decide), tnc, tnc, show ((E3r s r c : Int) - (E1r s r c : Int)).toNat = E3r s r c - E1r s r c by omega]
    exact ⟨by omega, by omega, true, WS_sh (w3 (by omega))⟩
  · intro y t hJ hy q v u hv q2
    obtain ⟨c, rfl, hc, e2, e3⟩ := jj _ t hJ hy
    obtain ⟨w1, w2, w3⟩ := r2 c hc
    rw [i2 c hc, e3.1 411 (by decide) (by decide), (e12 c hc).2.2.2] at q
    have hle : ¬ E3r s r c ≤ E1r s r c := fun z => by rw [if_pos z] at q; exact q (by decide)
    rw [i2 c hc, i3' c hc, e3.1 411 (by decide) (by decide), (e12 c hc).2.2.2, (e12 c hc).2.1, if_neg hle, e3.1 416 (by decide) (by decide), e3.1 409 (by decide) (by decide), tnc, tnc, show ((E3r s r c : Int) - (E1r s r c : Int)).toNat = E3r s r c - E1r s r c by omega, evV_sh] at hv
    rw [lCmp_eq] at q2
    have h01 := WS_01 (fa := s 416) (w3 (by omega))
    rw [w32_of (by omega)]
    refine ⟨⟨c + 1, by omega, by omega, ?_, hf t u e3 hv.2⟩, by omega⟩
    rw [e2, wrF, if_neg (by rw [← hv.1] at h01 ⊢; intro z; rcases z with z | z; exact hle z; omega)]
  · intro y t hJ hy q v u hv q2
    obtain ⟨c, rfl, hc, e2, e3⟩ := jj _ t hJ hy
    exact (ix0 c hc).2
  · intro y t hJ hy q v u hv q2
    obtain ⟨c, rfl, hc, e2, e3⟩ := jj _ t hJ hy
    exact (ix c 1 hc (by omega)).2
  · intro y t hJ hy q v u hv q2
    obtain ⟨c, rfl, hc, e2, e3⟩ := jj _ t hJ hy
    have hu := hf t u e3 hv.2
    rw [(ix0 c hc).1, i1 c hc, hu.1 411 (by decide) (by decide), (e12 c hc).1, (e12 c hc).2.2.1]
    exact sumV c u hc hu
  · intro y t hJ hy q v u hv q2 v9 u9 hv9
    obtain ⟨c, rfl, hc, e2, e3⟩ := jj _ t hJ hy
    have hu := hf t u e3 hv.2
    rw [i2 c hc, e3.1 411 (by decide) (by decide), (e12 c hc).2.2.2] at q
    have hle : ¬ E3r s r c ≤ E1r s r c := fun z => by rw [if_pos z] at q; exact q (by decide)
    rw [i2 c hc, i3' c hc, e3.1 411 (by decide) (by decide), (e12 c hc).2.2.2, (e12 c hc).2.1, if_neg hle, e3.1 416 (by decide) (by decide), e3.1 409 (by decide) (by decide), tnc, tnc, show ((E3r s r c : Int) - (E1r s r c : Int)).toNat = E3r s r c - E1r s r c by omega, evV_sh] at hv
    rw [(ix0 c hc).1, i1 c hc, hu.1 411 (by decide) (by decide), (e12 c hc).1, (e12 c hc).2.2.1, hu.1 416 (by decide) (by decide), hu.1 409 (by decide) (by decide), tnc, tnc, show ((E1r s r c : Int) - (prE (E3r s r) c : Int)).toNat = E1r s r c - prE (E3r s r) c by omega, evV_sh] at hv9
    rw [lCmp_eq] at q2
    refine k _ u9 ⟨?_, hf u u9 hu hv9.2⟩
    rw [e2, wrF, if_pos (Or.inr (by rw [← hv.1]; omega))]; exact hv9.1
  · exact ⟨0, rfl, by omega, rfl, fun _ _ _ => rfl, fun _ _ => rfl⟩
