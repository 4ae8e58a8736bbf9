/-! acts -/
def FCq (s : mSt) : Prop := (-1 ≤ s 7 3 ∧ s 7 3 < s 0 4) ∧ s 0 4 ≤ 6 ∧ ∀ r, r < 6 → s 6 r = ((83 + 4 * r : Nat) : Int)
def frC (s : mSt) : Option Nat := if s 7 3 < 0 then none else some (83 + 4 * (s 7 3).toNat)
theorem rl_of {r : Nat} (h : r < 6) : isRl (83 + 4 * r) := (show ∀ r : Fin 6, isRl (83 + 4 * r.val) by unfold isRl; decide +kernel) ⟨r, h⟩
theorem v164 {X : (Nat → Int) × Nat} {d : Nat} {s : mSt} {Q : mQ}
  (z1 : (s 7 3) < 0 → Q (some (Sum.inr (Sum.inr (Sum.inl none)))) s)
  (z2 : ¬ (s 7 3) < 0 → (s 7 3) < (s 0 4) → isRl (s 6 (s 7 3).toNat).toNat)
  (z3 : ¬ (s 7 3) < 0 → (s 7 3) < (s 0 4) → 0 ≤ (s 7 3) ∧ (s 7 3) < 6)
  (z4 : ¬ (s 7 3) < 0 → (s 7 3) < (s 0 4) → s 6 (s 7 3).toNat = (((s 6 (s 7 3).toNat).toNat : Nat) : Int))
  (z5 : ¬ (s 7 3) < 0 → (s 7 3) < (s 0 4) → Q (some (Sum.inr (Sum.inr (Sum.inl (some ((s 6 (s 7 3).toNat).toNat)))))) s)
  (z6 : ¬ (s 7 3) < 0 → ¬ (s 7 3) < (s 0 4) → Q (some (Sum.inr (Sum.inr (Sum.inl none)))) s) :
  Sp X d 164 [mR 0] s Q := e164 (b164_0 (fun q1 => b164_20 (b164_30 (z1 q1))) (fun q2 => b164_12 (fun q3 => b164_24 (r1 := (s 6 (s 7 3).toNat).toNat) (z2 q2 q3) (z3 q2 q3) (z4 q2 q3) (b164_30 (z5 q2 q3))) (fun q4 => b164_20 (b164_30 (z6 q2 q4)))))

theorem c164 {X : (Nat → Int) × Nat} {d : Nat} {s : mSt} {Q : mQ} (p1 : FCq s) (k : Q (some (Sum.inr (Sum.inr (Sum.inl (frC s))))) s) : Sp X d 164 [mR 0] s Q := by
  obtain ⟨h1, h2, h3⟩ := p1
  have e : ¬ s 7 3 < 0 → s 6 (s 7 3).toNat = ((83 + 4 * (s 7 3).toNat : Nat) : Int) := fun z => h3 _ (by omega)
  unfold frC at k
  refine v164 (fun z => ?_) (fun z _ => ?_) (fun z _ => by omega) (fun z _ => ?_) (fun z _ => ?_) (fun z w => absurd h1.2 w)
  · rw [if_pos z] at k; exact k
  · rw [e z, tnc]; exact rl_of (by omega)
  · rw [e z, tnc]
  · rw [if_neg z] at k; rw [e z, tnc]; exact k
/-- an act of the class: what was is kept -/
def ACq (s t : mSt) (a : Rw) : Prop := (BI t 18 ∧ brow t 18 = a) ∧ t 0 = up (s 0) 8 (if s 0 8 = 20 then 20 else s 0 8 + 1) ∧ PPq t ∧ (∀ i, i < (t 0 8).toNat → brow t (pst t i) = pshB s i) ∧ ∀ b, ¬ (b = 0 ∨ b = 33 ∨ 18 ≤ b ∧ b ≤ 27 ∨ 44 ≤ b ∧ b ≤ 52 ∨ 207 ≤ b ∧ b < 407) → t b = s b
theorem rm_8 {s t : mSt} (hB : BI s 18) (h : RMq s t) : BI t 18 ∧ brow t 18 = brow s 18 :=
  BI_cells hB (fun x hx => h.2.2.2 x (by omega) (by omega) (by omega)) (h.2.2.2 417 (by decide) (by decide) (by decide))
theorem pp_cells {s t : mSt} (h : PPq s) (e0 : t 0 = s 0) (e33 : t 33 = s 33) (e : ∀ b, 207 ≤ b ∧ b < 407 → t b = s b) (e7 : t 417 = s 417) : PPq t ∧ ∀ i, i < (s 0 8).toNat → brow t (pst t i) = brow s (pst s i) := by
  have ep : ∀ i, pst t i = pst s i := fun i => by unfold pst; rw [e33]
  have hp : PPp t := by have := h.2.1; unfold PPp at this ⊢; rw [e33]; exact this
  have q : ∀ i, i < (s 0 8).toNat → BI t (pst s i) ∧ brow t (pst s i) = brow s (pst s i) := fun i hi => by
    have hh := h.1
    have b := pp_bd h.2.1 (i := i) (by omega)
    exact BI_cells (h.2.2 i hi) (fun x hx => e x (by omega)) e7
  refine ⟨⟨by rw [e0]; exact h.1, hp, fun i hi => ?_⟩, fun i hi => ?_⟩
  · rw [e0] at hi; rw [ep]; exact (q i hi).1
  · rw [ep]; exact (q i hi).2
theorem ac_of {s u t : mSt} {a : Rw} (h : RMq s u) (hB : BI t 18 ∧ brow t 18 = a) (hf : ∀ b, ¬ (44 ≤ b ∧ b ≤ 52) → ¬ (18 ≤ b ∧ b ≤ 18 + 9) → t b = u b) : ACq s t a := by
  have p := pp_cells h.2.1 (hf 0 (by decide) (by decide)) (hf 33 (by decide) (by decide)) (fun b hb => hf b (by omega) (by omega)) (hf 417 (by decide) (by decide))
  refine ⟨hB, by rw [hf 0 (by decide) (by decide)]; exact h.1, p.1, fun i hi => ?_, fun b hb => ?_⟩
  · rw [hf 0 (by decide) (by decide)] at hi
    rw [p.2 i hi]; exact h.2.2.1 i hi
  · rw [hf b (by omega) (by omega)]; exact h.2.2.2 b (by omega) (by omega) (by omega)
theorem ruC_cells {s t : mSt} {r : Option Nat} (hr : oRq s r) (e : ∀ b, 83 ≤ b ∧ b < 107 → t b = s b) : (∀ a, ruC t r a = ruC s r a) ∧ oRq t r := by
  refine ⟨fun a => ?_, fun k hk => ?_⟩
  · cases r with
    | none => rfl
    | some k =>
      have q := rl_cells (hr k rfl).1 e
      show (fun c => wrF (fcA a c) (sgC t k) (E1c t k) (E3c t k) (t k 4).toNat 0) = fun c => wrF (fcA a c) (sgC s k) (E1c s k) (E3c s k) (s k 4).toNat 0
      rw [q.1, q.2.1, q.2.2.1, q.2.2.2.1]
  · have w := hr k hk
    exact ⟨w.1, (rl_cells w.1 e).2.2.2.2 w.2⟩
def tuA (w : Nat → Int) (a : Rw) : Int := if chA w a < 0 then -2 else chA w a
theorem v131 {X : (Nat → Int) × Nat} {d : Nat} {s : mSt} {Q : mQ}
  (z1 : 0 < s 18 0 → (s 18 4) < 999 → PPq s ∧ BI s 18)
  (z2 : 0 < s 18 0 → (s 18 4) < 999 → ∀ s3 : mSt, RMq s s3 → FCq s3)
  (z3 : 0 < s 18 0 → (s 18 4) < 999 → ∀ s3 : mSt, RMq s s3 → BI s3 18 ∧ ¬ s3 18 0 = 0 ∧ brow s3 18 5 < 1000000 ∧ oRq s3 (frC s3))
  (z4 : 0 < s 18 0 → (s 18 4) < 999 → ∀ s3 : mSt, RMq s s3 → ∀ v4 : Int, ∀ s4 : mSt, (v4 = (if chA (ruC s3 (frC s3) (brow s3 18)) (brow s3 18) < 0 then -2 else chA (ruC s3 (frC s3) (brow s3 18)) (brow s3 18)) ∧ BI s4 18 ∧ brow s4 18 = stR (ruC s3 (frC s3) (brow s3 18)) (brow s3 18) ∧ fTB s3 s4 18) → Q (some (mI v4)) s4)
  (z5 : 0 < s 18 0 → ¬ (s 18 4) < 999 → Q (some (mI (-1))) s)
  (z6 : ¬ (0 < s 18 0) → Q (some (mI (-1))) s) :
  Sp X (d + 11) 131 [mR 0] s Q := e131 (b131_0 (c6 (bdm rfl) (fun q1 => ⟨1, rfl, b131_10 (fun q => absurd q (by decide)) (fun _ => b131_13 (fun q2 => b131_31 (c165 (z1 q1 q2) (fun s3 q3 => ⟨rfl, b131_35 (c164 (z2 q1 q2 s3 q3) ⟨_, rfl, b131_50 (c117 (bdm rfl) (z3 q1 q2 s3 q3) (fun v4 s4 q4 => ⟨v4, rfl, b131_53 (z4 q1 q2 s3 q3 v4 s4 q4)⟩))⟩)⟩))) (fun q5 => b131_29 (z5 q1 q5)))⟩) (fun q6 => ⟨0, rfl, b131_10 (fun _ => b131_29 (z6 q6)) (fun q => absurd q (by decide))⟩)))

theorem c131 {X : (Nat → Int) × Nat} {d : Nat} {s : mSt} {Q : mQ} (p1 : PPq s ∧ BI s 18 ∧ FCq s ∧ oRq s (frC s)) (k : ∀ (v : Int) (t : mSt), (((brow s 18 0 = 1 ∧ brow s 18 5 < 999) → v = tuA (ruC s (frC s) (brow s 18)) (brow s 18) ∧ ACq s t (stR (ruC s (frC s) (brow s 18)) (brow s 18))) ∧ (¬ (brow s 18 0 = 1 ∧ brow s 18 5 < 999) → v = -1 ∧ t = s)) → Q (some (mI v)) t) : Sp X (d + 11) 131 [mR 0] s Q := by
  obtain ⟨hP, hB, hF, hO⟩ := p1
  have b0 := hB.2.2.2.2.1
  have e0 := brw_0 (s := s) (k := 18)
  have e5 := bi5 hB
  have fr : ∀ t : mSt, RMq s t → FCq t ∧ frC t = frC s := fun t ht => by
    have c7 := ht.2.2.2 7 (by decide) (by decide) (by decide)
    have c6 := ht.2.2.2 6 (by decide) (by decide) (by decide)
    have c0 : t 0 4 = s 0 4 := by rw [ht.1]; rfl
    unfold FCq frC
    rw [c7, c6, c0]
    exact ⟨hF, rfl⟩
  have ru : ∀ t : mSt, RMq s t → (∀ a, ruC t (frC s) a = ruC s (frC s) a) ∧ oRq t (frC s) := fun t ht => ruC_cells hO (fun b hb => ht.2.2.2 b (by omega) (by omega) (by omega))
  refine v131 (fun _ _ => ⟨hP, hB⟩) (fun _ _ u hu => (fr u hu).1) (fun g1 g2 u hu => ?_) (fun g1 g2 u hu v t hv => ?_) (fun g1 g2 => ?_) (fun g1 => ?_)
  · have w := rm_8 hB hu
    rw [w.2, (fr u hu).2, hu.2.2.2 18 (by decide) (by decide) (by decide)]
    exact ⟨w.1, by omega, by omega, (ru u hu).2⟩
  · have w := rm_8 hB hu
    rw [(fr u hu).2, w.2, (ru u hu).1] at hv
    rw [if_neg (by omega)] at e0
    refine k _ t ⟨fun _ => ⟨hv.1, ac_of hu ⟨hv.2.1, hv.2.2.1⟩ hv.2.2.2⟩, fun z => absurd ⟨e0, by omega⟩ z⟩
  · refine k _ s ⟨fun z => by omega, fun _ => ⟨rfl, rfl⟩⟩
  · rw [if_pos (by omega)] at e0
    refine k _ s ⟨fun z => by omega, fun _ => ⟨rfl, rfl⟩⟩
/-- an act of the reference -/
def ACr (s t : mSt) (a : Rw) : Prop := t 417 = a ∧ t 423 = kaR s ∧ t 407 37 = (if s 407 37 = 20 then 20 else s 407 37 + 1) ∧ (∀ b, ¬ (b = 407 ∨ 415 ≤ b ∧ b ≤ 423) → t b = s b) ∧ ∀ j, ¬ (j = 18 ∨ j = 37 ∨ 28 ≤ j ∧ j ≤ 35) → t 407 j = s 407 j
def KAr (s t : mSt) : Prop := t 423 = kaR s ∧ t 407 = up (s 407) 37 (if s 407 37 = 20 then 20 else s 407 37 + 1) ∧ ∀ b, b ≠ 407 → b ≠ 423 → t b = s b
theorem ka_fo {s t : mSt} (h : KAr s t) (hF : FOq s) : FOq t ∧ ∀ a, ruR t a = ruR s a := fo_cells hF (fun b hb => h.2.2 b (by omega) (by omega)) (by rw [h.2.1]; rfl)
theorem acr_of {s u t : mSt} {a : Rw} (h : KAr s u) (e : t 417 = a) (hf : fV u t) : ACr s t a := by
  refine ⟨e, by rw [hf.1 423 (by decide)]; exact h.1, by rw [hf.2 37 (by decide), h.2.1]; rfl, fun b hb => ?_, fun j hj => ?_⟩
  · rw [hf.1 b (by omega)]; exact h.2.2 b (by omega) (by omega)
  · rw [hf.2 j (by omega), h.2.1]; unfold up; rw [if_neg (by omega)]
theorem v255 {X : (Nat → Int) × Nat} {d : Nat} {s : mSt} {Q : mQ}
  (z1 : s 417 0 = 1 → ¬ (s 417 5) = 999 → 0 ≤ s 407 37 ∧ s 407 37 ≤ 20)
  (z2 : s 417 0 = 1 → ¬ (s 417 5) = 999 → ∀ s3 : mSt, (s3 423 = kaR s ∧ s3 407 = up (s 407) 37 (if s 407 37 = 20 then 20 else s 407 37 + 1) ∧ ∀ b, b ≠ 407 → b ≠ 423 → s3 b = s b) → Ok (s3 417) ∧ FOq s3 ∧ s3 417 5 < 1000000)
  (z3 : s 417 0 = 1 → ¬ (s 417 5) = 999 → ∀ s3 : mSt, (s3 423 = kaR s ∧ s3 407 = up (s 407) 37 (if s 407 37 = 20 then 20 else s 407 37 + 1) ∧ ∀ b, b ≠ 407 → b ≠ 423 → s3 b = s b) → ∀ v4 : Int, ∀ s4 : mSt, (v4 = chA (ruR s3 (s3 417)) (s3 417) ∧ s4 417 = stR (ruR s3 (s3 417)) (s3 417) ∧ fV s3 s4) → 0 ≤ v4 → Q (some (mI v4)) s4)
  (z4 : s 417 0 = 1 → ¬ (s 417 5) = 999 → ∀ s3 : mSt, (s3 423 = kaR s ∧ s3 407 = up (s 407) 37 (if s 407 37 = 20 then 20 else s 407 37 + 1) ∧ ∀ b, b ≠ 407 → b ≠ 423 → s3 b = s b) → ∀ v4 : Int, ∀ s4 : mSt, (v4 = chA (ruR s3 (s3 417)) (s3 417) ∧ s4 417 = stR (ruR s3 (s3 417)) (s3 417) ∧ fV s3 s4) → ¬ 0 ≤ v4 → Q (some (mI (-2))) s4)
  (z5 : s 417 0 = 1 → (s 417 5) = 999 → Q (some (mI (-1))) s)
  (z6 : ¬ (s 417 0 = 1) → Q (some (mI (-1))) s) :
  Sp X (d + 8) 255 [mR 407] s Q := e255 (b255_0 (c212  (fun q1 => ⟨1, rfl, b255_4 (fun q => absurd q (by decide)) (fun _ => b255_7 (fun q2 => b255_21 (c253 (z1 q1 q2) (fun s3 q3 => ⟨rfl, b255_25 (c251 (z2 q1 q2 s3 q3) (fun v4 s4 q4 => ⟨v4, rfl, b255_29 (fun q5 => b255_39 (b255_40 (z3 q1 q2 s3 q3 v4 s4 q4 q5))) (fun q6 => b255_34 (b255_40 (z4 q1 q2 s3 q3 v4 s4 q4 q6)))⟩))⟩))) (fun q7 => b255_19 (z5 q1 q7)))⟩) (fun q8 => ⟨0, rfl, b255_4 (fun _ => b255_19 (z6 q8)) (fun q => absurd q (by decide))⟩)))

theorem c255 {X : (Nat → Int) × Nat} {d : Nat} {s : mSt} {Q : mQ} (p1 : Ok (s 417) ∧ FOq s ∧ (0 ≤ s 407 37 ∧ s 407 37 ≤ 20) ∧ s 417 5 ≤ 999) (k : ∀ (v : Int) (t : mSt), (((s 417 0 = 1 ∧ s 417 5 < 999) → v = tuA (ruR s (s 417)) (s 417) ∧ ACr s t (stR (ruR s (s 417)) (s 417))) ∧ (¬ (s 417 0 = 1 ∧ s 417 5 < 999) → v = -1 ∧ t = s)) → Q (some (mI v)) t) : Sp X (d + 8) 255 [mR 407] s Q := by
  obtain ⟨h, hF, hn, h5⟩ := p1
  refine v255 (fun _ _ => hn) (fun _ _ u hu => ?_) (fun g1 g2 u hu v t hv hz => ?_) (fun g1 g2 u hu v t hv hz => ?_) (fun g1 g2 => ?_) (fun g1 => ?_)
  · have q := ka_fo hu hF
    rw [hu.2.2 417 (by decide) (by decide)]
    exact ⟨h, q.1, by omega⟩
  · have q := ka_fo hu hF
    rw [hu.2.2 417 (by decide) (by decide), q.2] at hv
    refine k _ t ⟨fun _ => ⟨?_, acr_of hu hv.2.1 hv.2.2⟩, fun z => absurd ⟨g1, by omega⟩ z⟩
    unfold tuA; rw [← hv.1, if_neg (by omega)]
  · have q := ka_fo hu hF
    rw [hu.2.2 417 (by decide) (by decide), q.2] at hv
    refine k _ t ⟨fun _ => ⟨?_, acr_of hu hv.2.1 hv.2.2⟩, fun z => absurd ⟨g1, by omega⟩ z⟩
    unfold tuA; rw [← hv.1, if_pos (by omega)]
  · exact k _ s ⟨fun z => by omega, fun _ => ⟨rfl, rfl⟩⟩
  · exact k _ s ⟨fun z => absurd z.1 g1, fun _ => ⟨rfl, rfl⟩⟩
