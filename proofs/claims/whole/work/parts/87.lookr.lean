/-! looking ahead by the notes: the reference -/
def agR (s : mSt) : Prop := agA (fun i => s 417 (135 + 3 * i)) (fun i => s 417 (135 + 3 * i + 1)) (fun i => s 417 (135 + 3 * i + 2)) (s 417 165).toNat (ruR s) (anew (s 417))
def f35 (s t : mSt) : Prop := (∀ b, ¬ (b = 407 ∨ 415 ≤ b ∧ b ≤ 422 ∨ b = 435) → t b = s b) ∧ ∀ j, ¬ (j = 18 ∨ 28 ≤ j ∧ j ≤ 35) → t 407 j = s 407 j
def R35 (s : mSt) (x1 x2 : Int) (n : Int) : Rw := fun i => if (0 ≤ x2 ∧ x2 < n) ∧ 30 * x1.toNat ≤ i ∧ i < 30 * x1.toNat + 30 then fre (stN (ruR s) (x2.toNat + 1) (anew (s 417))) (i - 30 * x1.toNat) else s 435 i
theorem v295 {X : (Nat → Int) × Nat} {d : Nat} {s : mSt} {Q : mQ} {x1 : Int} {x2 : Int}
  (I9 : Int → Int → mSt → Prop) (m9 : Int → Int → mSt → Nat)
  (I43 : Int → Int → Int → mSt → Prop) (m43 : Int → Int → Int → mSt → Nat)
  (z1 : ∀ y3 : Int, ∀ y4 : Int, ∀ s : mSt, I9 y3 y4 s → 9 < y4 → Q (some (mI y3)) s)
  (z2 : ∀ y3 : Int, ∀ y4 : Int, ∀ s : mSt, I9 y3 y4 s → 9 < y4 → y3 = 0 ∨ y3 = 1)
  (z3 : ∀ y3 : Int, ∀ y4 : Int, ∀ s : mSt, I9 y3 y4 s → ¬ 9 < y4 → Ok (s 417) ∧ FOq s ∧ s 417 5 < 1000000)
  (z4 : ∀ y3 : Int, ∀ y4 : Int, ∀ s : mSt, I9 y3 y4 s → ¬ 9 < y4 → ∀ v3 : Int, ∀ s3 : mSt, (v3 = chA (ruR s (s 417)) (s 417) ∧ s3 417 = stR (ruR s (s 417)) (s 417) ∧ fV s s3) → y3 = 0 → I43 0 y4 0 s3 ∧ m43 0 y4 0 s3 < m9 y3 y4 s)
  (z5 : ∀ y3 : Int, ∀ y4 : Int, ∀ s : mSt, I9 y3 y4 s → ¬ 9 < y4 → ∀ v3 : Int, ∀ s3 : mSt, (v3 = chA (ruR s (s 417)) (s 417) ∧ s3 417 = stR (ruR s (s 417)) (s 417) ∧ fV s s3) → ¬ y3 = 0 → Ok (s3 417))
  (z6 : ∀ y3 : Int, ∀ y4 : Int, ∀ s : mSt, I9 y3 y4 s → ¬ 9 < y4 → ∀ v3 : Int, ∀ s3 : mSt, (v3 = chA (ruR s (s 417)) (s 417) ∧ s3 417 = stR (ruR s (s 417)) (s 417) ∧ fV s s3) → ¬ y3 = 0 → an (ntB (fun i => s3 417 (135 + 3 * i)) (fun i => s3 417 (135 + 3 * i + 1)) (fun i => s3 417 (135 + 3 * i + 2)) (s3 417) y4) (s3 417 165).toNat = false → I43 1 y4 0 s3 ∧ m43 1 y4 0 s3 < m9 y3 y4 s)
  (z7 : ∀ y3 : Int, ∀ y4 : Int, ∀ s : mSt, I9 y3 y4 s → ¬ 9 < y4 → ∀ v3 : Int, ∀ s3 : mSt, (v3 = chA (ruR s (s 417)) (s 417) ∧ s3 417 = stR (ruR s (s 417)) (s 417) ∧ fV s s3) → ¬ y3 = 0 → ¬ (an (ntB (fun i => s3 417 (135 + 3 * i)) (fun i => s3 417 (135 + 3 * i + 1)) (fun i => s3 417 (135 + 3 * i + 2)) (s3 417) y4) (s3 417 165).toNat = false) → I43 0 y4 0 s3 ∧ m43 0 y4 0 s3 < m9 y3 y4 s)
  (z8 : ∀ y3 : Int, ∀ y4 : Int, ∀ y5 : Int, ∀ s : mSt, I43 y3 y4 y5 s → 30 ≤ y5 → I9 y3 (w32 (y4 + 1)) s ∧ m9 y3 (w32 (y4 + 1)) s < m43 y3 y4 y5 s)
  (z9 : ∀ y3 : Int, ∀ y4 : Int, ∀ y5 : Int, ∀ s : mSt, I43 y3 y4 y5 s → ¬ 30 ≤ y5 → ¬ y4 = x2 → I9 y3 (w32 (y4 + 1)) s ∧ m9 y3 (w32 (y4 + 1)) s < m43 y3 y4 y5 s)
  (z10 : ∀ y3 : Int, ∀ y4 : Int, ∀ y5 : Int, ∀ s : mSt, I43 y3 y4 y5 s → ¬ 30 ≤ y5 → y4 = x2 → Ok (s 417) ∧ (0 ≤ y5 ∧ y5 < 30))
  (z11 : ∀ y3 : Int, ∀ y4 : Int, ∀ y5 : Int, ∀ s : mSt, I43 y3 y4 y5 s → ¬ 30 ≤ y5 → y4 = x2 → 0 ≤ (w32 ((w32 (30 * x1)) + y5)) ∧ (w32 ((w32 (30 * x1)) + y5)) < 210)
  (z12 : ∀ y3 : Int, ∀ y4 : Int, ∀ y5 : Int, ∀ s : mSt, I43 y3 y4 y5 s → ¬ 30 ≤ y5 → y4 = x2 → I43 y3 y4 (w32 (y5 + 1)) (uS s 435 (w32 ((w32 (30 * x1)) + y5)).toNat (fre (s 417) y5.toNat)) ∧ m43 y3 y4 (w32 (y5 + 1)) (uS s 435 (w32 ((w32 (30 * x1)) + y5)).toNat (fre (s 417) y5.toNat)) < m43 y3 y4 y5 s)
  (z13 : ∀ t12 : mSt, t12 = uR s (anew (s 417)) → I9 1 0 t12) :
  Sp X (d + 8) 295 [mR 407, mI x1, mI x2] s Q := by
  have L : ∀ k : Nat, (∀ (y3 : Int) (y4 : Int) (l5 : Option mV) (s : mSt), I9 y3 y4 s → m9 y3 y4 s < k → Wp X (d + 8) 295 9 [some (mR 407), some (mI x1), some (mI x2), some (mI y3), some (mI y4), l5] [] s Q) ∧ (∀ (y3 : Int) (y4 : Int) (y5 : Int) (s : mSt), I43 y3 y4 y5 s → m43 y3 y4 y5 s < k → Wp X (d + 8) 295 43 [some (mR 407), some (mI x1), some (mI x2), some (mI y3), some (mI y4), some (mI y5)] [] s Q) := by
    intro k
    induction k with
    | zero => exact ⟨fun _ _ _ _ _ h => absurd h (Nat.not_lt_zero _), fun _ _ _ _ _ h => absurd h (Nat.not_lt_zero _)⟩
    | succ k ih => exact ⟨fun y3 y4 l5 s hI hm => b295_9 (fun q1 => b295_86 (z1 y3 y4 s hI q1) (z2 y3 y4 s hI q1)) (fun q2 => b295_16 (c251 (z3 y3 y4 s hI q2) (fun v3 s3 q3 => ⟨v3, rfl, b295_20 (fun q4 => b295_38 (b295_39 (ih.2 0 y4 0 s3 (z4 y3 y4 s hI q2 v3 s3 q3 q4).1 (Nat.lt_of_lt_of_le (z4 y3 y4 s hI q2 v3 s3 q3 q4).2 (Nat.le_of_lt_succ hm))))) (fun q5 => b295_25 (c294 (z5 y3 y4 s hI q2 v3 s3 q3 q5) (fun q6 => ⟨1, rfl, b295_31 (fun q => absurd q (by decide)) (fun _ => b295_34 (b295_39 (ih.2 1 y4 0 s3 (z6 y3 y4 s hI q2 v3 s3 q3 q5 q6).1 (Nat.lt_of_lt_of_le (z6 y3 y4 s hI q2 v3 s3 q3 q5 q6).2 (Nat.le_of_lt_succ hm)))))⟩) (fun q7 => ⟨0, rfl, b295_31 (fun _ => b295_38 (b295_39 (ih.2 0 y4 0 s3 (z7 y3 y4 s hI q2 v3 s3 q3 q5 q7).1 (Nat.lt_of_lt_of_le (z7 y3 y4 s hI q2 v3 s3 q3 q5 q7).2 (Nat.le_of_lt_succ hm))))) (fun q => absurd q (by decide))⟩)))⟩))), fun y3 y4 y5 s hI hm => b295_43 (fun q8 => b295_80 (ih.1 y3 (w32 (y4 + 1)) (some (mI y5)) s (z8 y3 y4 y5 s hI q8).1 (Nat.lt_of_lt_of_le (z8 y3 y4 y5 s hI q8).2 (Nat.le_of_lt_succ hm)))) (fun q9 => b295_50 (fun q10 => b295_80 (ih.1 y3 (w32 (y4 + 1)) (some (mI y5)) s (z9 y3 y4 y5 s hI q9 q10).1 (Nat.lt_of_lt_of_le (z9 y3 y4 y5 s hI q9 q10).2 (Nat.le_of_lt_succ hm)))) (fun q11 => b295_56 (c223 (z10 y3 y4 y5 s hI q9 q11) ⟨_, rfl, b295_73 (z11 y3 y4 y5 s hI q9 q11) (ih.2 y3 y4 (w32 (y5 + 1)) (uS s 435 (w32 ((w32 (30 * x1)) + y5)).toNat (fre (s 417) y5.toNat)) (z12 y3 y4 y5 s hI q9 q11).1 (Nat.lt_of_lt_of_le (z12 y3 y4 y5 s hI q9 q11).2 (Nat.le_of_lt_succ hm)))⟩)))⟩
  exact e295 (b295_0 (c227  ⟨rfl, Wp_gen (fun t12 e12 => b295_6 ((L (m9 1 0 t12 + 1)).1 1 0 none t12 (z13 t12 e12) (Nat.lt_succ_self _)))⟩))

theorem c295 {X : (Nat → Int) × Nat} {d : Nat} {s : mSt} {Q : mQ} {x1 : Int} {x2 : Int} (p1 : Ok (s 417) ∧ FOq s ∧ (0 ≤ x1 ∧ x1 < 7)) (k : ∀ (v : Int) (t : mSt), (((v = 1 ∧ agR s) ∨ (v = 0 ∧ ¬ agR s)) ∧ t 417 = stN (ruR s) 10 (anew (s 417)) ∧ t 435 = R35 s x1 x2 10 ∧ f35 s t) → Q (some (mI v)) t) : Sp X (d + 8) 295 [mR 407, mI x1, mI x2] s Q := by
  obtain ⟨h, hF, h1⟩ := p1
  have ha := anew_ok h
  let a := anew (s 417)
  let R := ruR s
  let ag : Nat → Prop := fun t => an (ntB (fun i => s 417 (135 + 3 * i)) (fun i => s 417 (135 + 3 * i + 1)) (fun i => s 417 (135 + 3 * i + 2)) (stN R (t + 1) a) (t : Int)) (s 417 165).toNat = false
  have hag : agR s ↔ ∀ t, t < 10 → ag t := Iff.rfl
  have ok : ∀ n : Nat, n ≤ 10 → Ok (stN R n a) ∧ stN R n a 5 = (n : Int) := fun n hn => by
    have q := stN_ok (R := R) ha.1 n (by rw [ha.2]; omega)
    exact ⟨q.1, by rw [q.2, ha.2]; omega⟩
  have oo : ∀ (n j : Nat), n ≤ 10 → 77 ≤ j → stN R n a j = s 417 j := fun n j hn hj => by
    rw [stN_o ha.1 (Or.inr hj) n (by rw [ha.2]; omega)]; exact anew_o (Or.inr hj)
  have fo : ∀ t : mSt, f35 s t → FOq t ∧ ∀ r, ruR t r = ruR s r := fun t ht => fo_cells hF (fun b hb => ht.1 b (by omega)) (ht.2 21 (by decide))
  have f35V : ∀ t u : mSt, f35 s t → fV t u → f35 s u := fun t u a b => ⟨fun x h => (b.1 x (by omega)).trans (a.1 x h), fun j h => (b.2 j h).trans (a.2 j h)⟩
  have ntE : ∀ (u : mSt) (n : Nat), n ≤ 9 → u 417 = stN R (n + 1) a → (an (ntB (fun i => u 417 (135 + 3 * i)) (fun i => u 417 (135 + 3 * i + 1)) (fun i => u 417 (135 + 3 * i + 2)) (u 417) (n : Int)) (u 417 165).toNat = false ↔ ag n) := fun u n hn e => by
    rw [e]
    have g1 : (fun i => stN R (n + 1) a (135 + 3 * i)) = fun i => s 417 (135 + 3 * i) := funext fun i => oo _ _ (by omega) (by omega)
    have g2 : (fun i => stN R (n + 1) a (135 + 3 * i + 1)) = fun i => s 417 (135 + 3 * i + 1) := funext fun i => oo _ _ (by omega) (by omega)
    have g3 : (fun i => stN R (n + 1) a (135 + 3 * i + 2)) = fun i => s 417 (135 + 3 * i + 2) := funext fun i => oo _ _ (by omega) (by omega)
    rw [g1, g2, g3, oo (n + 1) 165 (by omega) (by omega)]
  let V : Int → Nat → Prop := fun y n => (y = 1 ∧ ∀ t, t < n → ag t) ∨ (y = 0 ∧ ¬ ∀ t, t < n → ag t)
  let J : Int → Int → mSt → Prop := fun y3 y4 t => ∃ n : Nat, y4 = n ∧ n ≤ 10 ∧ V y3 n ∧ t 417 = stN R n a ∧ t 435 = R35 s x1 x2 n ∧ f35 s t
  let K : Int → Int → Int → mSt → Prop := fun y3 y4 y5 t => ∃ n j : Nat, y4 = n ∧ n ≤ 9 ∧ y5 = j ∧ j ≤ 30 ∧ V y3 (n + 1) ∧ t 417 = stN R (n + 1) a ∧ (y4 ≠ x2 → j = 0) ∧ (∀ i, t 435 i = if (y4 = x2 ∧ 30 * x1.toNat ≤ i) ∧ i < 30 * x1.toNat + j then fre (stN R (n + 1) a) (i - 30 * x1.toNat) else R35 s x1 x2 n i) ∧ f35 s t
  have toK : ∀ (y : Int) (n : Nat) (u : mSt), n ≤ 9 → V y (n + 1) → u 417 = stN R (n + 1) a → u 435 = R35 s x1 x2 n → f35 s u → K y n 0 u := fun y n u hn hv e e5 hu =>
    ⟨n, 0, rfl, hn, rfl, by omega, hv, e, fun _ => rfl, fun i => by rw [if_neg (by omega), e5], hu⟩
  have toJ : ∀ (y : Int) (n j : Nat) (t : mSt), n ≤ 9 → ((n : Int) = x2 → j = 30) → ((n : Int) ≠ x2 → j = 0) → V y (n + 1) → t 417 = stN R (n + 1) a → (∀ i, t 435 i = if ((n : Int) = x2 ∧ 30 * x1.toNat ≤ i) ∧ i < 30 * x1.toNat + j then fre (stN R (n + 1) a) (i - 30 * x1.toNat) else R35 s x1 x2 n i) → f35 s t → J y (w32 ((n : Int) + 1)) t := fun y n j t hn h30 h0 hv e e5 ht => by
    rw [w32_of (by omega)]
    refine ⟨n + 1, by omega, by omega, hv, e, ?_, ht⟩
    funext i
    rw [e5]
    unfold R35
    by_cases z : (n : Int) = x2
    · have zj := h30 z
      subst zj
      by_cases z1 : 30 * x1.toNat ≤ i ∧ i < 30 * x1.toNat + 30
      · rw [if_pos ⟨⟨z, z1.1⟩, z1.2⟩, if_pos ⟨by omega, z1⟩, show x2.toNat = n by omega]
      · rw [if_neg (fun q => z1 ⟨q.1.2, q.2⟩), if_neg (fun q => z1 q.2), if_neg (fun q => z1 q.2)]
    · rw [if_neg (fun q => z q.1.1)]
      by_cases z1 : (0 ≤ x2 ∧ x2 < (n : Int)) ∧ 30 * x1.toNat ≤ i ∧ i < 30 * x1.toNat + 30
      · rw [if_pos z1, if_pos ⟨by omega, z1.2⟩]
      · rw [if_neg z1, if_neg (fun q => z1 ⟨by omega, q.2⟩)]
  have Vs : ∀ (n : Nat) (y : Int), V y n → (y = 0 → V 0 (n + 1)) ∧ (¬ y = 0 → (ag n → V 1 (n + 1)) ∧ (¬ ag n → V 0 (n + 1))) := fun n y hv => by
    rcases hv with ⟨q1, q2⟩ | ⟨q1, q2⟩
    · refine ⟨fun z => by omega, fun _ => ⟨fun g => Or.inl ⟨rfl, fun t ht => ?_⟩, fun g => Or.inr ⟨rfl, fun w => g (w n (by omega))⟩⟩⟩
      by_cases z : t = n
      · rw [z]; exact g
      · exact q2 t (by omega)
    · exact ⟨fun _ => Or.inr ⟨rfl, fun w => q2 (fun t ht => w t (by omega))⟩, fun z => absurd q1 z⟩
  refine v295 J (fun _ y _ => ((11 - y) * 50).toNat) K (fun _ y4 y5 _ => ((11 - y4) * 50 - 1 - y5).toNat) ?_ ?_ ?_ ?_ ?_ ?_ ?_ ?_ ?_ ?_ ?_ ?_ ?_
  · rintro y3 _ t ⟨n, rfl, hn, hv, e, e5, ht⟩ hc
    have : n = 10 := by omega
    subst this
    exact k _ t ⟨hv, e, e5, ht⟩
  · rintro y3 _ t ⟨n, rfl, hn, hv, e, e5, ht⟩ hc
    rcases hv with q | q
    · exact Or.inr q.1
    · exact Or.inl q.1
  · rintro y3 _ t ⟨n, rfl, hn, hv, e, e5, ht⟩ hc
    have q := ok n (by omega)
    rw [e]; exact ⟨q.1, (fo t ht).1, by omega⟩
  · rintro y3 _ t ⟨n, rfl, hn, hv, e, e5, ht⟩ hc v u hu hz
    rw [(fo t ht).2, e] at hu
    exact ⟨toK 0 n u (by omega) ((Vs n y3 hv).1 hz) hu.2.1 (by rw [hu.2.2.1 435 (by decide)]; exact e5) (f35V t u ht hu.2.2), by omega⟩
  · rintro y3 _ t ⟨n, rfl, hn, hv, e, e5, ht⟩ hc v u hu hz
    rw [(fo t ht).2, e] at hu
    have e2 : u 417 = stN R (n + 1) a := hu.2.1
    rw [e2]; exact (ok (n + 1) (by omega)).1
  · rintro y3 _ t ⟨n, rfl, hn, hv, e, e5, ht⟩ hc v u hu hz q
    rw [(fo t ht).2, e] at hu
    have g := (ntE u n (by omega) hu.2.1).1 q
    exact ⟨toK 1 n u (by omega) (((Vs n y3 hv).2 hz).1 g) hu.2.1 (by rw [hu.2.2.1 435 (by decide)]; exact e5) (f35V t u ht hu.2.2), by omega⟩
  · rintro y3 _ t ⟨n, rfl, hn, hv, e, e5, ht⟩ hc v u hu hz q
    rw [(fo t ht).2, e] at hu
    have g : ¬ ag n := fun w => q ((ntE u n (by omega) hu.2.1).2 w)
    exact ⟨toK 0 n u (by omega) (((Vs n y3 hv).2 hz).2 g) hu.2.1 (by rw [hu.2.2.1 435 (by decide)]; exact e5) (f35V t u ht hu.2.2), by omega⟩
  · rintro y3 _ _ t ⟨n, j, rfl, hn, rfl, hj, hv, e, h0, e5, ht⟩ hc
    refine ⟨toJ y3 n j t hn (fun _ => by omega) h0 hv e e5 ht, ?_⟩
    rw [w32_of (by omega)]; omega
  · rintro y3 _ _ t ⟨n, j, rfl, hn, rfl, hj, hv, e, h0, e5, ht⟩ hc q
    refine ⟨toJ y3 n j t hn (fun w => absurd w q) h0 hv e e5 ht, ?_⟩
    have := h0 q
    rw [w32_of (by omega)]; omega
  · rintro y3 _ _ t ⟨n, j, rfl, hn, rfl, hj, hv, e, h0, e5, ht⟩ hc q
    rw [e]; exact ⟨(ok (n + 1) (by omega)).1, by omega⟩
  · rintro y3 _ _ t ⟨n, j, rfl, hn, rfl, hj, hv, e, h0, e5, ht⟩ hc q
    rw [w32_of (x := 30 * x1) (by omega), w32_of (by omega)]; omega
  · rintro y3 _ _ t ⟨n, j, rfl, hn, rfl, hj, hv, e, h0, e5, ht⟩ hc q
    rw [w32_of (x := 30 * x1) (by omega), wt (n := 30 * x1.toNat + j) (by omega) (by omega), tnc, w32_of (by omega), e]
    refine ⟨⟨n, j + 1, rfl, hn, by omega, by omega, hv, by rw [uS_cell (by decide)]; exact e, fun w => absurd q w, fun i => ?_, fun b hb => by rw [uS_cell (by omega)]; exact ht.1 b hb, fun i hi => by rw [uS_cell (by decide)]; exact ht.2 i hi⟩, by omega⟩
    rw [uS_at, e5]
    by_cases z : i = 30 * x1.toNat + j
    · rw [if_pos z, if_pos ⟨⟨q, by omega⟩, by omega⟩, show i - 30 * x1.toNat = j by omega]
    · rw [if_neg z]
      by_cases z1 : ((n : Int) = x2 ∧ 30 * x1.toNat ≤ i) ∧ i < 30 * x1.toNat + j
      · rw [if_pos z1, if_pos ⟨z1.1, by omega⟩]
      · rw [if_neg z1, if_neg (fun w => z1 ⟨w.1, by omega⟩)]
  · intro u hu
    have cu : ∀ b, b ≠ 417 → u b = s b := fun b hb => by rw [hu]; exact uC_ne hb
    refine ⟨0, rfl, by omega, Or.inl ⟨rfl, fun t ht => by omega⟩, by rw [hu]; exact uC_at _ _ _, ?_, fun b hb => cu b (by omega), fun j _ => by rw [cu 407 (by decide)]⟩
    rw [cu 435 (by decide)]
    funext i
    unfold R35
    rw [if_neg (by omega)]
