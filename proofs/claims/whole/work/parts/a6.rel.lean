/-! the relation of the two sides -/
def lcJ (j : Nat) : Prop := j < 82 ∨ 117 ≤ j ∧ j < 135
def JTq (s : mSt) : Prop := s 1 1 = s 407 1 ∧ (0 ≤ s 1 1 ∧ s 1 1 ≤ 400) ∧ BYq s ∧ ∀ i, s 408 i = sb (s 2 i)
def JCq (s : mSt) : Prop := (∀ r, r < 6 → s 6 r = ((83 + 4 * r : Nat) : Int)) ∧ IMc s ∧ LRq s ∧ sgQ s
def JRq (s : mSt) : Prop := s 0 4 = s 407 2 ∧ (0 ≤ s 0 4 ∧ s 0 4 ≤ 6) ∧ ∀ r : Nat, (r : Int) < s 0 4 → ∃ L E, LWl L E ∧ RuL s (83 + 4 * r) (L, E) ∧ RuR s r (L, E)
def JFq (s : mSt) : Prop := s 7 3 = s 407 21 ∧ (-1 ≤ s 7 3 ∧ s 7 3 < s 0 4) ∧ s 7 4 = s 407 22 ∧ (0 ≤ s 7 4 ∧ s 7 4 < 2147483648)
def JBq (s : mSt) : Prop := brow s 18 = s 417 ∧ BI s 18 ∧ BI s 8 ∧ (s 417 0 = 1 → brow s 8 = anew (s 417)) ∧ s 417 5 ≤ 999 ∧ Pg (s 417)
def JNr (s : mSt) (k : Nat) (a : Rw) : Prop := s k 0 = a 165 ∧ (0 ≤ s k 0 ∧ s k 0 ≤ 10) ∧ ∀ i, i < (s k 0).toNat → (s (k + 1) i = a (135 + 3 * i) ∧ s (k + 2) i = a (135 + 3 * i + 1) ∧ s (k + 3) i = a (135 + 3 * i + 2)) ∧ (0 ≤ s (k + 1) i ∧ s (k + 1) i ≤ 9) ∧ (0 ≤ s (k + 2) i ∧ s (k + 2) i < 30)
def JPq (s : mSt) : Prop := s 0 8 = s 407 37 ∧ PPq s ∧ ∀ i, i < (s 0 8).toNat → (∀ j, lcJ j → brow s (pst s i) j = if 5 ≤ j ∧ j < 77 then s 423 (72 * i + (j - 5)) else s 417 j) ∧ brow s (pst s i) 5 ≤ 999 ∧ Pg (brow s (pst s i))
def imZ (s : mSt) (i : Nat) : Rw := fun j => if j < 166 then s 436 (166 * i + j) else 0
def JIi (s : mSt) (i : Nat) : Prop := (BI s (107 + 25 * i + 1) ∧ BI s (107 + 25 * i + 11)) ∧ (∀ j, lcJ j → brow s (107 + 25 * i + 11) j = imZ s i j) ∧ (imZ s i 0 = 1 → ∀ j, lcJ j → brow s (107 + 25 * i + 1) j = anew (imZ s i) j) ∧ (Ok (imZ s i) ∧ imZ s i 5 ≤ 999 ∧ Pg (imZ s i)) ∧ JNr s (107 + 25 * i + 21) (imZ s i) ∧ (s (107 + 25 * i) 3 = s 437 i ∧ (-1 ≤ s 437 i ∧ s 437 i < s 407 2)) ∧ (s (107 + 25 * i) 4 = s 438 i ∧ (0 ≤ s 438 i ∧ s 438 i < 2147483648))
def JIq (s : mSt) : Prop := ∀ i, i < 4 → s (107 + 25 * i) 5 = s 439 i ∧ (¬ s 439 i = 0 → JIi s i)
def Jq (s : mSt) : Prop := JTq s ∧ JCq s ∧ JRq s ∧ JFq s ∧ JBq s ∧ JNr s 28 (s 417) ∧ JPq s ∧ JIq s
theorem J_ok {s : mSt} (h : Jq s) : Ok (s 417) := by
  have b := h.2.2.2.2.1
  rw [← b.1]; exact b.2.1.1
theorem Ok_TO {s : mSt} (h : Ok (s 417)) : TOq s := fun j _ h2 _ => h.1 j h2
theorem J_br {s : mSt} (h : Jq s) : brow s 18 = s 417 := h.2.2.2.2.1.1
theorem J_BI {s : mSt} (h : Jq s) : BI s 18 := h.2.2.2.2.1.2.1
theorem J_TR {s : mSt} (h : JTq s) : TR s = s 2 ∧ nR s = nO s ∧ ∀ i, -128 ≤ s 408 i ∧ s 408 i < 128 := by
  obtain ⟨h1, h2, h3, h4⟩ := h
  have b : ∀ i, -128 ≤ s 408 i ∧ s 408 i < 128 := fun i => by
    have := h3 i
    rw [h4 i]; unfold sb; split <;> omega
  refine ⟨?_, by unfold nR nO; rw [h1], b⟩
  funext i
  have := h3 i
  unfold TR ub
  rw [h4 i]; unfold sb
  split <;> split <;> omega
theorem J_rl {s : mSt} (h : JRq s) {r : Nat} (hr : (r : Int) < s 0 4) : (isRl (83 + 4 * r) ∧ WKq s (83 + 4 * r)) ∧ SKq s r ∧ ∀ fa, wrF fa (sgC s (83 + 4 * r)) (E1c s (83 + 4 * r)) (E3c s (83 + 4 * r)) (s (83 + 4 * r) 4).toNat 0 = wrF fa (sgR s r) (E1r s r) (E3r s r) (s 412 r).toNat 0 := by
  obtain ⟨h1, h2, h3⟩ := h
  obtain ⟨L, E, a1, a2, a3⟩ := h3 r hr
  have c := RL_C a1 a2
  have d := RL_R a1 a3
  exact ⟨⟨rl_of (by omega), c.1⟩, d.1, fun fa => (c.2 fa).trans (d.2 fa).symm⟩
theorem J_FC {s : mSt} (h : Jq s) : FCq s ∧ oRq s (frC s) ∧ FOq s ∧ ruC s (frC s) = ruR s := by
  have hR := h.2.2.1
  obtain ⟨f1, f2, f3, f4⟩ := h.2.2.2.1
  have hC := h.2.1.1
  refine ⟨⟨f2, hR.2.1.2, hC⟩, fun k hk => ?_, ⟨by rw [← f1]; have := hR.2.1.2; omega, fun z => ?_⟩, ?_⟩
  · unfold frC at hk
    by_cases z : s 7 3 < 0
    · rw [if_pos z] at hk; simp at hk
    · rw [if_neg z] at hk
      have hk' : 83 + 4 * (s 7 3).toNat = k := by simpa using hk
      rw [← hk']
      exact (J_rl hR (r := (s 7 3).toNat) (by omega)).1
  · rw [← f1] at z ⊢
    exact (J_rl hR (r := (s 7 3).toNat) (by omega)).2.1
  · funext a
    unfold ruR frC
    rw [← f1]
    by_cases z : s 7 3 < 0
    · rw [if_pos z, if_pos z]; rfl
    · rw [if_neg z, if_neg z]
      funext c
      exact (J_rl hR (r := (s 7 3).toNat) (by omega)).2.2 (fcA a c)
theorem J_RL {s : mSt} (h : Jq s) : rlQ s ∧ RLq s ∧ ∀ i, i ≤ (s 0 4).toNat → ruC s (rlI i) = ruN s i := by
  have hR := h.2.2.1
  obtain ⟨f1, f2, f3, f4⟩ := h.2.2.2.1
  have hC := h.2.1.1
  have b := hR.2.1
  refine ⟨⟨b, hC, fun i hi k hk => ?_⟩, ⟨by rw [← hR.1]; exact b, by rw [← hR.1, ← f1]; exact f2, fun r hr => (J_rl hR (by rw [hR.1]; exact hr)).2.1⟩, fun i hi => ?_⟩
  · unfold rlI at hk
    by_cases z : i = 0
    · rw [if_pos z] at hk; simp at hk
    · rw [if_neg z] at hk
      have hk' : 83 + 4 * (i - 1) = k := by simpa using hk
      rw [← hk']
      exact (J_rl hR (r := i - 1) (by omega)).1
  · funext a
    unfold ruN rlI
    by_cases z : i = 0
    · rw [if_pos z, if_pos z]; rfl
    · rw [if_neg z, if_neg z]
      funext c
      exact (J_rl hR (r := i - 1) (by omega)).2.2 (fcA a c)
theorem J_TD {s : mSt} (h : Jq s) : TDq s ∧ agC s 28 = agN s := by
  obtain ⟨b1, b2, b3, b4, b5, b6⟩ := h.2.2.2.2.1
  obtain ⟨n1, n2, n3⟩ := h.2.2.2.2.2.1
  refine ⟨⟨⟨⟨n2, fun i hi => (n3 i hi).2.2⟩, fun i hi => (n3 i hi).2.1⟩, b3, b2, fun z => ?_⟩, ?_⟩
  · rw [b1]
    refine b4 ?_
    rw [← b1, brw_0, if_neg (by omega)]
  · funext R a
    unfold agC agN agB
    rw [n1]
    refine congrArg (fun z => !z) (an_congr (fun t _ => an_congr (fun i hi => ?_)))
    have q := (n3 i (by rw [n1]; exact hi)).1
    unfold ntB
    rw [q.1, q.2.1, q.2.2]
/-! what keeps it -/
theorem JT_c {s u : mSt} (h : JTq s) (e1 : u 1 1 = s 1 1) (e2 : u 2 = s 2) (e3 : u 407 1 = s 407 1) (e4 : u 408 = s 408) : JTq u := by
  unfold JTq BYq at h ⊢
  rw [e1, e2, e3, e4]; exact h
theorem JC_c {s u : mSt} (h : JCq s) (e1 : u 6 = s 6) (e2 : u 32 = s 32) (e3 : u 77 = s 77) (e4 : u 68 = s 68) : JCq u := by
  unfold JCq IMc LRq sgQ at h ⊢
  rw [e1, e2, e3, e4]; exact h
theorem RuL_c {s u : mSt} {k : Nat} {x : List Int × List (Nat × Nat)} (h : RuL s k x) (e : ∀ b, k ≤ b → b ≤ k + 3 → u b = s b) : RuL u k x := by
  unfold RuL EDq cdL at h ⊢
  rw [e k (by omega) (by omega), e (k + 1) (by omega) (by omega), e (k + 2) (by omega) (by omega), e (k + 3) (by omega) (by omega)]; exact h
theorem RuR_c {s u : mSt} {r : Nat} {x : List Int × List (Nat × Nat)} (h : RuR s r x) (hl : x.1.length ≤ 400) (hn : x.2.length ≤ 12) (e1 : ∀ j, 400 * r ≤ j → j < 400 * r + 400 → u 409 j = s 409 j) (e2 : u 412 r = s 412 r) (e3 : ∀ j, 48 * r ≤ j → j < 48 * r + 48 → u 411 j = s 411 j) : RuR u r x := by
  obtain ⟨h1, h2, h3⟩ := h
  refine ⟨fun i hi => by rw [e1 _ (by omega) (by omega)]; exact h1 i hi, by rw [e2]; exact h2, fun c hc => ?_⟩
  rw [e3 _ (by omega) (by omega), e3 _ (by omega) (by omega), e3 _ (by omega) (by omega), e3 _ (by omega) (by omega)]
  exact h3 c hc
theorem LWl_b {L : List Int} {E : List (Nat × Nat)} (h : LWl L E) : L.length ≤ 400 ∧ E.length ≤ 12 := by
  refine ⟨?_, h.1.1⟩
  rw [← h.2.1]
  by_cases z : E.length = 0
  · rw [z]; exact Nat.zero_le _
  · obtain ⟨m, hm⟩ : ∃ m, E.length = m + 1 := ⟨E.length - 1, by omega⟩
    rw [hm]
    exact (h.1.2 m (by omega)).1.2.2
theorem JR_c {s u : mSt} (h : JRq s) (e1 : u 0 4 = s 0 4) (e2 : u 407 2 = s 407 2) (e3 : ∀ b, 83 ≤ b → b ≤ 106 → u b = s b) (e4 : ∀ j, j < 2400 → u 409 j = s 409 j) (e5 : ∀ j, j < 288 → u 411 j = s 411 j) (e6 : ∀ j, j < 6 → u 412 j = s 412 j) : JRq u := by
  obtain ⟨h1, h2, h3⟩ := h
  refine ⟨by rw [e1, e2]; exact h1, by rw [e1]; exact h2, fun r hr => ?_⟩
  rw [e1] at hr
  obtain ⟨L, E, a1, a2, a3⟩ := h3 r hr
  have b := LWl_b a1
  exact ⟨L, E, a1, RuL_c a2 (fun b _ _ => e3 b (by omega) (by omega)), RuR_c a3 b.1 b.2 (fun j _ _ => e4 j (by omega)) (e6 r (by omega)) (fun j _ _ => e5 j (by omega))⟩
theorem JF_c {s u : mSt} (h : JFq s) (e1 : u 7 3 = s 7 3) (e2 : u 407 21 = s 407 21) (e3 : s 0 4 ≤ u 0 4) (e4 : u 7 4 = s 7 4) (e5 : u 407 22 = s 407 22) : JFq u := by
  unfold JFq at h ⊢
  rw [e1, e2, e4, e5]
  exact ⟨h.1, by omega, h.2.2⟩
theorem JB_c {s u : mSt} (h : JBq s) (e1 : ∀ b, 8 ≤ b → b ≤ 27 → u b = s b) (e2 : u 417 = s 417) : JBq u := by
  obtain ⟨h1, h2, h3, h4, h5, h6⟩ := h
  have a := BI_cells h2 (fun x hx => e1 x (by omega) (by omega)) e2
  have b := BI_cells h3 (fun x hx => e1 x (by omega) (by omega)) e2
  refine ⟨by rw [a.2, e2]; exact h1, a.1, b.1, ?_, by rw [e2]; exact h5, by rw [e2]; exact h6⟩
  rw [b.2, e2]; exact h4
theorem JN_c {s u : mSt} {k : Nat} {a a' : Rw} (h : JNr s k a) (e1 : ∀ b, k ≤ b → b ≤ k + 3 → u b = s b) (e2 : ∀ j, 135 ≤ j → j < 166 → a' j = a j) : JNr u k a' := by
  obtain ⟨h1, h2, h3⟩ := h
  rw [← e1 k (by omega) (by omega)] at h1 h2 h3
  refine ⟨by rw [e2 165 (by omega) (by omega)]; exact h1, h2, fun i hi => ?_⟩
  rw [e1 (k + 1) (by omega) (by omega), e1 (k + 2) (by omega) (by omega), e1 (k + 3) (by omega) (by omega), e2 _ (by omega) (by omega), e2 _ (by omega) (by omega), e2 _ (by omega) (by omega)]
  exact h3 i hi
theorem JP_c {s u : mSt} (h : JPq s) (e0 : u 0 8 = s 0 8) (e1 : u 407 37 = s 407 37) (e2 : u 33 = s 33) (e3 : ∀ b, 207 ≤ b → b < 407 → u b = s b) (e4 : u 423 = s 423) (e5 : TOq u) (e6 : ∀ j, lcJ j → ¬ (5 ≤ j ∧ j < 77) → u 417 j = s 417 j) : JPq u := by
  obtain ⟨h1, ⟨p1, p2, p3⟩, h3⟩ := h
  have ep : ∀ i, pst u i = pst s i := fun i => by unfold pst; rw [e2]
  have key : ∀ i, i < (s 0 8).toNat → BI u (pst s i) ∧ ∀ j, brow u (pst s i) j = if 82 ≤ j ∧ (j < 117 ∨ 135 ≤ j) then u 417 j else brow s (pst s i) j := fun i hi => by
    have b := (pp_bd p2 (i := i) (by omega)).2.1
    exact BI_r (p3 i hi) (fun x hx => e3 x (by omega) (by omega)) e5
  refine ⟨by rw [e0, e1]; exact h1, ⟨by rw [e0]; exact p1, by unfold PPp; rw [e2]; exact p2, fun i hi => ?_⟩, fun i hi => ?_⟩
  · rw [e0] at hi
    rw [ep]; exact (key i hi).1
  · rw [e0] at hi
    rw [ep]
    have k := (key i hi).2
    obtain ⟨a1, a2, a3⟩ := h3 i hi
    refine ⟨fun j hj => ?_, by rw [k, if_neg (by omega)]; exact a2, Pg_q (p3 i hi).1 a3 (fun j hj => by rw [k, if_neg (by omega)])⟩
    have hj' := hj
    unfold lcJ at hj'
    rw [k, if_neg (by omega), a1 j hj, e4]
    by_cases z : 5 ≤ j ∧ j < 77
    · rw [if_pos z, if_pos z]
    · rw [if_neg z, if_neg z, e6 j hj z]
theorem JI_c {s u : mSt} (h : JIq s) (e1 : ∀ b, 107 ≤ b → b < 207 → u b = s b) (e2 : ∀ b, 436 ≤ b → b ≤ 439 → u b = s b) (e3 : s 407 2 ≤ u 407 2) (e4 : TOq u) : JIq u := by
  intro i hi
  have q := h i hi
  rw [e1 _ (by omega) (by omega), e2 439 (by omega) (by omega)]
  refine ⟨q.1, fun z => ?_⟩
  obtain ⟨⟨a1, a2⟩, a3, a4, a5, a6, a7, a8⟩ := q.2 z
  have ei : imZ u i = imZ s i := by unfold imZ; rw [e2 436 (by omega) (by omega)]
  have b1 := BI_r a1 (fun x hx => e1 x (by omega) (by omega)) e4
  have b2 := BI_r a2 (fun x hx => e1 x (by omega) (by omega)) e4
  unfold JIi
  rw [ei, e1 (107 + 25 * i) (by omega) (by omega), e2 437 (by omega) (by omega), e2 438 (by omega) (by omega)]
  refine ⟨⟨b1.1, b2.1⟩, fun j hj => ?_, fun y j hj => ?_, a5, JN_c a6 (fun b _ _ => e1 b (by omega) (by omega)) (fun _ _ _ => rfl), ⟨a7.1, by omega⟩, a8⟩
  · have hj' := hj
    unfold lcJ at hj'
    rw [b2.2, if_neg (by omega)]; exact a3 j hj
  · have hj' := hj
    unfold lcJ at hj'
    rw [b1.2, if_neg (by omega)]; exact a4 y j hj
/-- what questions leave -/
def SCR (s u : mSt) : Prop := (∀ b, ¬ (44 ≤ b ∧ b ≤ 67) → ¬ (69 ≤ b ∧ b ≤ 75) → ¬ (78 ≤ b ∧ b ≤ 82) → b ≠ 407 → ¬ (415 ≤ b ∧ b ≤ 416) → ¬ (418 ≤ b ∧ b ≤ 422) → ¬ (424 ≤ b ∧ b ≤ 435) → u b = s b) ∧ ∀ j, ¬ (j = 18 ∨ 28 ≤ j ∧ j ≤ 35 ∨ 47 ≤ j ∧ j ≤ 49 ∨ j = 53) → u 407 j = s 407 j
theorem J_scr {s u : mSt} (h : Jq s) (e : SCR s u) : Jq u := by
  have ok := J_ok h
  obtain ⟨h1, h2, h3, h4, h5, h6, h7, h8⟩ := h
  obtain ⟨c, f⟩ := e
  have g : ∀ b, (b ≤ 43 ∨ b = 68 ∨ b = 76 ∨ b = 77 ∨ 83 ≤ b ∧ b ≤ 406 ∨ 408 ≤ b ∧ b ≤ 414 ∨ b = 417 ∨ b = 423 ∨ 436 ≤ b) → u b = s b := fun b hb => c b (by omega) (by omega) (by omega) (by omega) (by omega) (by omega) (by omega)
  have e7 : u 417 = s 417 := g 417 (by omega)
  have to : TOq u := Ok_TO (by rw [e7]; exact ok)
  refine ⟨JT_c h1 (by rw [g 1 (by omega)]) (g 2 (by omega)) (f 1 (by omega)) (g 408 (by omega)), JC_c h2 (g 6 (by omega)) (g 32 (by omega)) (g 77 (by omega)) (g 68 (by omega)), JR_c h3 (by rw [g 0 (by omega)]) (f 2 (by omega)) (fun b _ _ => g b (by omega)) (fun j _ => by rw [g 409 (by omega)]) (fun j _ => by rw [g 411 (by omega)]) (fun j _ => by rw [g 412 (by omega)]), JF_c h4 (by rw [g 7 (by omega)]) (f 21 (by omega)) (by rw [g 0 (by omega)]; exact Int.le_refl _) (by rw [g 7 (by omega)]) (f 22 (by omega)), JB_c h5 (fun b _ _ => g b (by omega)) e7, JN_c h6 (fun b _ _ => g b (by omega)) (fun j _ _ => by rw [e7]), JP_c h7 (by rw [g 0 (by omega)]) (f 37 (by omega)) (g 33 (by omega)) (fun b _ _ => g b (by omega)) (g 423 (by omega)) to (fun j _ _ => by rw [e7]), JI_c h8 (fun b _ _ => g b (by omega)) (fun b _ _ => g b (by omega)) (by rw [f 2 (by omega)]; exact Int.le_refl _) to⟩
/-- what acts leave -/
theorem J_mk {s u : mSt} (hJ : Jq s) (e : ∀ b, ¬ (b = 0 ∨ 18 ≤ b ∧ b ≤ 27 ∨ b = 33 ∨ 44 ≤ b ∧ b ≤ 52 ∨ 207 ≤ b ∧ b ≤ 407 ∨ 415 ≤ b ∧ b ≤ 423) → u b = s b) (e0 : u 0 4 = s 0 4) (e7 : ∀ j, (j = 1 ∨ j = 2 ∨ j = 21 ∨ j = 22) → u 407 j = s 407 j) (ho : ∀ j, (j < 5 ∨ 77 ≤ j) → u 417 j = s 417 j) (hb : BI u 18 ∧ brow u 18 = u 417) (h5' : u 417 5 ≤ 999) (hp : Pg (u 417)) (hP : JPq u) : Jq u := by
  have ok := J_ok hJ
  obtain ⟨h1, h2, h3, h4, h5, h6, h7, h8⟩ := hJ
  have to : TOq u := fun j a1 a2 a3 => by rw [ho j (by omega)]; exact ok.1 j a2
  have b8 := BI_r h5.2.2.1 (fun x hx => e x (by omega)) to
  refine ⟨JT_c h1 (by rw [e 1 (by omega)]) (e 2 (by omega)) (e7 1 (by omega)) (e 408 (by omega)), JC_c h2 (e 6 (by omega)) (e 32 (by omega)) (e 77 (by omega)) (e 68 (by omega)), JR_c h3 e0 (e7 2 (by omega)) (fun b _ _ => e b (by omega)) (fun j _ => by rw [e 409 (by omega)]) (fun j _ => by rw [e 411 (by omega)]) (fun j _ => by rw [e 412 (by omega)]), JF_c h4 (by rw [e 7 (by omega)]) (e7 21 (by omega)) (by rw [e0]; exact Int.le_refl _) (by rw [e 7 (by omega)]) (e7 22 (by omega)), ⟨hb.2, hb.1, b8.1, fun z => ?_, h5', hp⟩, JN_c h6 (fun b _ _ => e b (by omega)) (fun j _ _ => ho j (by omega)), hP, JI_c h8 (fun b _ _ => e b (by omega)) (fun b _ _ => e b (by omega)) (by rw [e7 2 (by omega)]; exact Int.le_refl _) to⟩
  rw [ho 0 (by omega)] at z
  have q := h5.2.2.2.1 z
  have ea : anew (u 417) = anew (s 417) := anew_cg ho
  funext j
  rw [b8.2]
  by_cases y : 82 ≤ j ∧ (j < 117 ∨ 135 ≤ j)
  · rw [if_pos y, anew_o (by omega)]
  · rw [if_neg y, q, ea]
