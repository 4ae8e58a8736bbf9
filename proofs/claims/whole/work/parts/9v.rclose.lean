/-! brackets closed: the reference -/
def CLq (s t : mSt) : Prop := (RHq t ∧ fRt s t ∧ t 407 12 = s 407 12 ∧ 0 ≤ t 407 16 ∧ lnR t + t 407 16 ≤ (skR t : Int) ∧ skR s ≤ skR t ∧ lnR t + t 407 16 + skR s ≤ lnR s + s 407 16 + skR t) ∧ ∀ L K, KRq s L K → ∃ M J, KRq t M J ∧ ¬ (tkK (TR s) (nR s) (skR t) = 93 ∧ 91 ∈ J) ∧ rch (TR s) (nR s) (-2, skR s, s 407 12, L, K) (mtB (TR s) (nR s) (skR t) (s 407 12) M J)
theorem v193 {X : (Nat → Int) × Nat} {d : Nat} {s : mSt} {Q : mQ}
  (I5 : mSt → Prop) (m5 : mSt → Nat)
  (z1 : ∀ s : mSt, I5  s → TRq s)
  (z2 : ∀ s : mSt, I5  s → ∀ v1 : Int, ∀ s1 : mSt, (v1 = (if nR s ≤ skR s then -1 else TR s (skR s)) ∧ s1 = uS s 407 8 (skR s : Int)) → ¬ v1 = 93 → Q none s1)
  (z3 : ∀ s : mSt, I5  s → ∀ v1 : Int, ∀ s1 : mSt, (v1 = (if nR s ≤ skR s then -1 else TR s (skR s)) ∧ s1 = uS s 407 8 (skR s : Int)) → v1 = 93 → 0 ≤ s1 407 16 ∧ s1 407 16 ≤ 400)
  (z4 : ∀ s : mSt, I5  s → ∀ v1 : Int, ∀ s1 : mSt, (v1 = (if nR s ≤ skR s then -1 else TR s (skR s)) ∧ s1 = uS s 407 8 (skR s : Int)) → v1 = 93 → inB s1 = true → RHq s1 ∧ (0 ≤ s1 407 16 ∧ lnR s1 + s1 407 16 ≤ 400) ∧ (∃ L K, KRq s1 L K) ∧ (1 ≤ (1 : Int) ∧ (1 : Int) ≤ 3))
  (z5 : ∀ s : mSt, I5  s → ∀ v1 : Int, ∀ s1 : mSt, (v1 = (if nR s ≤ skR s then -1 else TR s (skR s)) ∧ s1 = uS s 407 8 (skR s : Int)) → v1 = 93 → inB s1 = true → ∀ s5 : mSt, (LDq s1 s5 ∧ ∀ L K, KRq s1 L K → KRq s5 (lyD (1 : Int).toNat L K).1 (lyD (1 : Int).toNat L K).2) → ∀ t6 : mSt, t6 = uS (uS (uS s5 407 16 (w32 ((s5 407 16) - 1))) 407 13 (w32 (((uS s5 407 16 (w32 ((s5 407 16) - 1))) 407 13) - 1))) 407 8 (w32 (((uS (uS s5 407 16 (w32 ((s5 407 16) - 1))) 407 13 (w32 (((uS s5 407 16 (w32 ((s5 407 16) - 1))) 407 13) - 1))) 407 8) + 1)) → RHq t6 ∧ (0 ≤ t6 407 16 ∧ lnR t6 + t6 407 16 ≤ 400) ∧ (∃ L K, KRq t6 L K) ∧ (1 ≤ (3 : Int) ∧ (3 : Int) ≤ 3))
  (z6 : ∀ s : mSt, I5  s → ∀ v1 : Int, ∀ s1 : mSt, (v1 = (if nR s ≤ skR s then -1 else TR s (skR s)) ∧ s1 = uS s 407 8 (skR s : Int)) → v1 = 93 → inB s1 = true → ∀ s5 : mSt, (LDq s1 s5 ∧ ∀ L K, KRq s1 L K → KRq s5 (lyD (1 : Int).toNat L K).1 (lyD (1 : Int).toNat L K).2) → ∀ t6 : mSt, t6 = uS (uS (uS s5 407 16 (w32 ((s5 407 16) - 1))) 407 13 (w32 (((uS s5 407 16 (w32 ((s5 407 16) - 1))) 407 13) - 1))) 407 8 (w32 (((uS (uS s5 407 16 (w32 ((s5 407 16) - 1))) 407 13 (w32 (((uS s5 407 16 (w32 ((s5 407 16) - 1))) 407 13) - 1))) 407 8) + 1)) → ∀ s7 : mSt, (LDq t6 s7 ∧ ∀ L K, KRq t6 L K → KRq s7 (lyD (3 : Int).toNat L K).1 (lyD (3 : Int).toNat L K).2) → I5  s7 ∧ m5  s7 < m5  s)
  (z7 : ∀ s : mSt, I5  s → ∀ v1 : Int, ∀ s1 : mSt, (v1 = (if nR s ≤ skR s then -1 else TR s (skR s)) ∧ s1 = uS s 407 8 (skR s : Int)) → v1 = 93 → ¬ (inB s1 = true) → Q none s1)
  (z8 : RHq s ∧ (0 ≤ s 407 16 ∧ lnR s + s 407 16 ≤ 400) ∧ (∃ L K, KRq s L K) ∧ (1 ≤ (3 : Int) ∧ (3 : Int) ≤ 3))
  (z9 : ∀ s9 : mSt, (LDq s s9 ∧ ∀ L K, KRq s L K → KRq s9 (lyD (3 : Int).toNat L K).1 (lyD (3 : Int).toNat L K).2) → I5  s9) :
  Sp X (d + 2) 193 [mR 407] s Q := by
  have L : ∀ k : Nat, (∀ (s : mSt), I5  s → m5  s < k → Wp X (d + 2) 193 5 [some (mR 407)] [] s Q) := by
    intro k
    induction k with
    | zero => exact fun _ _ h => absurd h (Nat.not_lt_zero _)
    | succ k ih => exact fun s hI hm => b193_5 (c174 (z1 s hI) (fun v1 s1 q1 => ⟨v1, rfl, b193_9 (fun q2 => b193_64 (z2 s hI v1 s1 q1 q2)) (fun q3 => b193_14 (c192 (z3 s hI v1 s1 q1 q3) (fun q4 => ⟨1, rfl, b193_18 (fun q => absurd q (by decide)) (fun _ => b193_21 (c186 (z4 s hI v1 s1 q1 q3 q4) (fun s5 q5 => ⟨rfl, b193_26 (Sp_gen (fun t6 e6 => (c186 (z5 s hI v1 s1 q1 q3 q4 s5 q5 t6 e6) (fun s7 q7 => ⟨rfl, b193_61 (ih  s7 (z6 s hI v1 s1 q1 q3 q4 s5 q5 t6 e6 s7 q7).1 (Nat.lt_of_lt_of_le (z6 s hI v1 s1 q1 q3 q4 s5 q5 t6 e6 s7 q7).2 (Nat.le_of_lt_succ hm)))⟩))))⟩)))⟩) (fun q8 => ⟨0, rfl, b193_18 (fun _ => b193_64 (z7 s hI v1 s1 q1 q3 q8)) (fun q => absurd q (by decide))⟩)))⟩))
  exact e193 (b193_0 (c186 z8 (fun s9 q9 => ⟨rfl, (L (m5  s9 + 1))  s9 (z9 s9 q9) (Nat.lt_succ_self _)⟩)))

theorem KR_8 {t : mSt} {L K : List Int} (h : KRq t L K) (a : Int) : KRq (uS t 407 8 a) L K := by
  unfold KRq SGq at h ⊢
  rw [uS_cell (show 414 ≠ 407 by decide), uS_at, uS_at, if_neg (by decide), if_neg (by decide), sgB_8 _ _ (by decide)]
  exact h
theorem ly_91 {f : Rw} : ∀ {K : List Int} {n : Nat} (L : List Int), KSq f K n → 91 ∈ K → ∃ J', (lyD 1 L K).2 = 91 :: J'
  | [], n, L, h, w => by simp at w
  | x :: K, n, L, h, w => by
    by_cases z : x = 91
    · subst z; exact ⟨K, rfl⟩
    · have w2 : 91 ∈ K := by
        rcases List.mem_cons.1 w with y | y
        · exact absurd y.symm z
        · exact y
      have g : 1 ≤ stg x := by
        rcases h.2.2.1 with rfl | rfl | rfl | rfl
        · exact absurd rfl z
        · decide
        · decide
        · decide
      obtain ⟨J', e⟩ := ly_91 (L ++ [x]) h.2.2.2 w2
      refine ⟨J', ?_⟩
      show (if 1 ≤ stg x then lyD 1 (L ++ [x]) K else (L, x :: K)).2 = _
      rw [if_pos g]; exact e
theorem c193 {X : (Nat → Int) × Nat} {d : Nat} {s : mSt} {Q : mQ} (p1 : RHq s ∧ (0 ≤ s 407 16 ∧ lnR s + s 407 16 ≤ (skR s : Int)) ∧ ∃ L K, KRq s L K) (k : ∀ t : mSt, (CLq s t) → Q none t) : Sp X (d + 2) 193 [mR 407] s Q := by
  obtain ⟨h, ⟨ho, hl⟩, L0, K0, hK0⟩ := p1
  have hT := TR_t h.1
  have hb := skR_b h.1
  let P : mSt → Prop := fun t => RHq t ∧ fRt s t ∧ t 407 12 = s 407 12 ∧ 0 ≤ t 407 16 ∧ lnR t + t 407 16 ≤ (skR t : Int) ∧ skR s ≤ skR t ∧ lnR t + t 407 16 + skR s ≤ lnR s + s 407 16 + skR t
  let I5 : mSt → Prop := fun t => P t ∧ (∃ L K, KRq t L K) ∧ ∀ L K, KRq s L K → ∃ M J, KRq t M J ∧ rch (TR s) (nR s) (-2, skR s, s 407 12, L, K) (mtB (TR s) (nR s) (skR t) (s 407 12) M J)
  have see : ∀ t u : mSt, I5 t → u = uS t 407 8 (skR t : Int) → I5 u ∧ u 407 8 = (skR u : Int) ∧ skR u = skR t ∧ skR u ≤ nR s ∧ nR s ≤ 400 := by
    rintro t u ⟨⟨q1, q2, q3, q4, q5, q6, q7⟩, ⟨L1, K1, hK1⟩, hR⟩ e
    have w := see_s q1 e
    have e1 := w.2.1
    have e2 := w.2.2.1
    have u16 : u 407 16 = t 407 16 := by rw [e, uS_at, if_neg (by decide)]
    have xt := fRt_x q2
    have bt := skR_b q1.1
    rw [xt.2.2] at bt
    refine ⟨⟨⟨RG_H q1 w.1, fRt_t q2 (by rw [e]; exact fRt_u (fRt_0 t) _ (by decide)), by rw [w.2.2.2.2.1]; exact q3, by omega, by omega, by omega, by omega⟩, ⟨L1, K1, by rw [e]; exact KR_8 hK1 _⟩, fun L K hK => ?_⟩, w.2.2.2.2.2, e1, by omega, by omega⟩
    obtain ⟨M, J, hM, r⟩ := hR L K hK
    exact ⟨M, J, by rw [e]; exact KR_8 hM _, by rw [e1]; exact r⟩
  have raw : ∀ {t : mSt} {v : Int}, I5 t → v = (if nR t ≤ skR t then -1 else TR t (skR t)) → (v = 93 ↔ tkK (TR s) (nR s) (skR t) = 93) := fun {t v} hI ev => by
    have x := fRt_x hI.1.2.1
    rw [x.2.1, x.2.2] at ev
    rw [ev]
    exact rw_k hT (by decide) (by decide) (by decide) (by decide)
  have done : ∀ u : mSt, I5 u → (∀ M J, KRq u M J → ¬ (tkK (TR s) (nR s) (skR u) = 93 ∧ 91 ∈ J)) → Q none u := fun u hI hz => by
    refine k u ⟨hI.1, fun L K hK => ?_⟩
    obtain ⟨M, J, hM, r⟩ := hI.2.2 L K hK
    exact ⟨M, J, hM, hz M J hM, r⟩
  have pop : ∀ u v w : mSt, I5 u → u 407 8 = (skR u : Int) → skR u ≤ nR s ∧ nR s ≤ 400 → tkK (TR s) (nR s) (skR u) = 93 → inB u = true → (LDq u v ∧ ∀ L K, KRq u L K → KRq v (lyD 1 L K).1 (lyD 1 L K).2) → w = uS (uS (uS v 407 16 (w32 (v 407 16 - 1))) 407 13 (w32 ((uS v 407 16 (w32 (v 407 16 - 1))) 407 13 - 1))) 407 8 (w32 ((uS (uS v 407 16 (w32 (v 407 16 - 1))) 407 13 (w32 ((uS v 407 16 (w32 (v 407 16 - 1))) 407 13 - 1))) 407 8 + 1)) → P w ∧ (∀ M J, KRq u M J → KRq w (lyD 1 M J).1 (lyD 1 M J).2.tail) ∧ skR w = nxA (TR s) (nR s) (skR u) ∧ skR u < skR w := by
    rintro u v w hI e8 hn k93 hin ⟨hD, hKv⟩ ew
    obtain ⟨⟨q1, q2, q3, q4, q5, q6, q7⟩, ⟨L1, K1, hK1⟩, hR⟩ := hI
    have lt : skR u < nR s := k_lt (by rw [k93]; decide)
    have kv : ∀ M J, KRq u M J → ∃ J', (lyD 1 M J).2 = 91 :: J' ∧ KRq v (lyD 1 M J).1 (91 :: J') := fun M J hM => by
      obtain ⟨J', e⟩ := ly_91 M hM.1 ((in_K hM).1 hin)
      have := hKv M J hM
      rw [e] at this
      exact ⟨J', e, this⟩
    obtain ⟨J1, _, hv1⟩ := kv L1 K1 hK1
    have n1 := KS_n hv1.1
    have d1 := dpK_b (91 :: J1)
    have d2 := hv1.2.2.1
    have v0 := hv1.2.1
    have l0 := hD.1.2.2.2.1
    have lD := hD.2.2.2.2
    have v1 : 1 ≤ v 407 16 := by rw [List.length_cons] at n1; omega
    have a16 : w32 (v 407 16 - 1) = v 407 16 - 1 := w32_of (by omega)
    have a13 : w32 (v 407 13 - 1) = v 407 13 - 1 := w32_of (by omega)
    clear d1 d2 n1
    have v8 : v 407 8 = (skR u : Int) := by rw [hD.2.2.2.1.1, e8]
    have a8 : w32 ((skR u : Int) + 1) = ((skR u + 1 : Nat) : Int) := by rw [w32_of (by omega)]; omega
    rw [a16] at ew
    have i13 : (uS v 407 16 (v 407 16 - 1)) 407 13 = v 407 13 := by rw [uS_at, if_neg (by decide)]
    rw [i13, a13] at ew
    have i8 : (uS (uS v 407 16 (v 407 16 - 1)) 407 13 (v 407 13 - 1)) 407 8 = (skR u : Int) := by rw [uS_at, if_neg (by decide), uS_at, if_neg (by decide)]; exact v8
    rw [i8, a8] at ew
    clear i8 i13 a8 a13 a16
    have w7 : ∀ j, w 407 j = if j = 8 then ((skR u + 1 : Nat) : Int) else if j = 13 then v 407 13 - 1 else if j = 16 then v 407 16 - 1 else v 407 j := fun j => by rw [ew, uS_at, uS_at, uS_at]
    have wl : lnR w = lnR v := by rw [ew, lnR_u _ _ (by decide), lnR_u _ _ (by decide), lnR_u _ _ (by decide)]
    have wb : sgB w = sgB v := by rw [ew, sgB_8 _ _ (by decide), sgB_8 _ _ (by decide), sgB_8 _ _ (by decide)]
    have w4 : w 414 = v 414 := by rw [ew, uS_cell (by decide), uS_cell (by decide), uS_cell (by decide)]
    have fw : fRt v w := by rw [ew]; exact fRt_u (fRt_u (fRt_u (fRt_0 v) _ (by decide)) _ (by decide)) _ (by decide)
    have fs := fRt_t q2 (fRt_t hD.2.1 fw)
    have xs := fRt_x fs
    have w16 : w 407 16 = v 407 16 - 1 := by rw [w7]; rfl
    have nb := nxA_b (TR s) (Nat.le_of_lt lt)
    have kw : skR w = nxA (TR s) (nR s) (skR u) := by
      show sk (TR w) (nR w) (w 407 8).toNat = _
      rw [xs.2.1, xs.2.2, show w 407 8 = ((skR u + 1 : Nat) : Int) from by rw [w7]; rfl, tnc]
      unfold nxA
      rw [one_b hT lt (c := 93) (by
        have := (rw_k hT (n := nR s) (a := skR u) (c := 93) (by decide) (by decide) (by decide) (by decide)).2 k93
        unfold rwA at this
        rw [if_neg (by omega)] at this
        exact this) (by decide) (by decide) (by decide)]
    have lt2 := nb.2.2 lt
    have hv := hD.1
    have xv := fRt_x (fRt_t q2 hD.2.1)
    refine ⟨⟨⟨?_, by rw [w7]; exact hv.2.1, by rw [w7]; exact hv.2.2.1, by omega, by rw [w7]; exact hv.2.2.2.2⟩, fs, ?_, by omega, by omega, by omega, by omega⟩, fun M J hM => ?_, kw, by omega⟩
    · rw [ew]
      have nv := xv.2.2
      refine TRq_8 (TRq_o (TRq_o hv.1 _ (by decide) (by decide)) _ (by decide) (by decide)) ?_
      rw [nR_u _ _ (by decide), nR_u _ _ (by decide), nv]; omega
    · rw [w7]; show v 407 12 = _; rw [hD.2.2.2.1.2]; exact q3
    · obtain ⟨J', e, hv2⟩ := kv M J hM
      rw [e]
      have q := hv2.1
      have e16 : (w 407 16).toNat = (v 407 16).toNat - 1 := by omega
      have d3 := hv2.2.2.1
      rw [dp_b] at d3
      refine ⟨by rw [w4, e16]; exact q.2.2.2, by omega, by rw [w7]; show v 407 13 - 1 = dpK J'; omega, by unfold SGq; rw [wb]; exact hv2.2.2.2⟩
  refine v193 I5 (fun t => 1000 - skR t) ?_ ?_ ?_ ?_ ?_ ?_ ?_ ⟨h, ⟨ho, by omega⟩, ⟨L0, K0, hK0⟩, by decide⟩ ?_
  · intro t hI
    exact hI.1.1.1
  · rintro t hI v u ⟨ev, e⟩ hv
    have q := see t u hI e
    have r := raw hI ev
    refine done u q.1 (fun M J _ z => hv (r.2 ?_))
    rw [← q.2.2.1]; exact z.1
  · rintro t hI v u ⟨ev, e⟩ hv
    have q := see t u hI e
    have p := q.1.1
    have a := p.2.2.2.2.1
    have b := p.1.2.2.2.1
    have c := p.2.2.2.1
    omega
  · rintro t hI v u ⟨ev, e⟩ hv hin
    have q := see t u hI e
    have p := q.1.1
    have a := p.2.2.2.2.1
    have c := p.2.2.2.1
    exact ⟨p.1, ⟨c, by omega⟩, q.1.2.1, by decide⟩
  · rintro t hI v u ⟨ev, e⟩ hv hin w hw x ex
    have q := see t u hI e
    have r := (raw hI ev).1 hv
    rw [← q.2.2.1] at r
    have o := pop u w x q.1 q.2.1 ⟨q.2.2.2.1, q.2.2.2.2⟩ r hin hw ex
    obtain ⟨L1, K1, hK1⟩ := q.1.2.1
    have p := o.1
    have a := p.2.2.2.2.1
    have xs := fRt_x p.2.1
    have bx := skR_b p.1.1
    exact ⟨p.1, ⟨p.2.2.2.1, by omega⟩, ⟨_, _, o.2.1 L1 K1 hK1⟩, by decide⟩
  · rintro t hI v u ⟨ev, e⟩ hv hin w hw x ex y ⟨hD, hy⟩
    have q := see t u hI e
    have r := (raw hI ev).1 hv
    rw [← q.2.2.1] at r
    have o := pop u w x q.1 q.2.1 ⟨q.2.2.2.1, q.2.2.2.2⟩ r hin hw ex
    obtain ⟨p1, p2, p3, p4, p5, p6, p7⟩ := o.1
    have ky := LD_k hD
    have kx := o.2.2.1
    have lD := hD.2.2.2.2
    have e1 := q.2.2.1
    have lt := o.2.2.2
    have y16 : 0 ≤ y 407 16 := by
      obtain ⟨L1, K1, hK1⟩ := q.1.2.1
      exact (hy _ _ (o.2.1 L1 K1 hK1)).2.1
    refine ⟨⟨⟨hD.1, fRt_t p2 hD.2.1, by rw [hD.2.2.2.1.2]; exact p3, y16, by omega, by omega, by omega⟩, ?_, fun L K hK => ?_⟩, by omega⟩
    · obtain ⟨L1, K1, hK1⟩ := q.1.2.1
      exact ⟨_, _, hy _ _ (o.2.1 L1 K1 hK1)⟩
    · obtain ⟨M, J, hM, rc⟩ := q.1.2.2 L K hK
      refine ⟨_, _, hy _ _ (o.2.1 M J hM), rch_t rc ?_⟩
      have m91 := (in_K hM).1 hin
      have eB : mtB (TR s) (nR s) (skR u) (s 407 12) M J = (-2, nxA (TR s) (nR s) (skR u), s 407 12, (lyD 1 M J).1, (lyD 1 M J).2.tail) := if_pos ⟨r, m91⟩
      rw [eB, ky, kx]
      have y2 := rch_s (T := TR s) (n := nR s) (-2, nxA (TR s) (nR s) (skR u), s 407 12, (lyD 1 M J).1, (lyD 1 M J).2.tail)
      rw [st_A] at y2
      exact y2
  · rintro t hI v u ⟨ev, e⟩ hv hin
    have q := see t u hI e
    refine done u q.1 (fun M J hM z => hin ((in_K hM).2 z.2))
  · rintro t ⟨hD, hy⟩
    have kt := LD_k hD
    have lD := hD.2.2.2.2
    have t16 := (hy L0 K0 hK0).2.1
    refine ⟨⟨hD.1, hD.2.1, hD.2.2.2.1.2, t16, by omega, by omega, by omega⟩, ⟨_, _, hy L0 K0 hK0⟩, fun L K hK => ⟨_, _, hy L K hK, ?_⟩⟩
    rw [kt]
    have y2 := rch_s (T := TR s) (n := nR s) (-2, skR s, s 407 12, L, K)
    rw [st_A] at y2
    exact y2
