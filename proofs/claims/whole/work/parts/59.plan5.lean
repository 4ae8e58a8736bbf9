/-! plans: what is found stands in the row -/
def sM (a : Rw) (c : Nat) : Nat := (a (117 + c)).toNat
def pA1 (a : Rw) (c : Nat) : Bt := plB a c (sM a c)
def lyR (a : Rw) (c : Nat) (g : Rw) : Rw := fun j => if j = 41 + c then 0 else if 47 + 5 * c ≤ j ∧ j < 47 + 5 * c + np a then g (j - (47 + 5 * c)) else a j
theorem sM_b {a : Rw} (h : Ok a) {c : Nat} (hc : c < nc a) : (0 < sM a c ∧ sM a c < 32) ∧ (sM a c : Int) = a (117 + c) ∧ (∀ p, (sM a c).testBit p = ss a c p) ∧ ∀ p, (sM a c).testBit p = true → p < np a := by
  have n6 := nc_le h
  have n5 := np_le h
  have h1 := h.2.1 c hc
  have h2 := okP h (p := c) (by omega)
  have e : (sM a c : Int) = a (117 + c) := by unfold sM; omega
  have hb : ∀ p, (sM a c).testBit p = ss a c p := fun p => by
    unfold ss; rw [← e, bq_nat (by omega)]
  refine ⟨by omega, e, hb, fun p hp => ?_⟩
  apply Classical.byContradiction; intro hn
  rw [hb] at hp
  unfold ss at hp
  rw [bq_lt ⟨by omega, h1.2⟩ (by omega) (by omega)] at hp
  exact absurd hp (by decide)
theorem lyR_o {a g : Rw} {c j : Nat} (h5 : np a ≤ 5) (hc : c < 6) (h : j < 41 ∨ 77 ≤ j) : lyR a c g j = a j := by
  unfold lyR; rw [if_neg (by omega), if_neg (by omega)]
theorem lyR_W {a g : Rw} {c i : Nat} (hi : i < 6) : lyR a c g (41 + i) = if i = c then 0 else a (41 + i) := by
  unfold lyR
  by_cases h : i = c
  · subst h; simp
  · rw [if_neg (by omega), if_neg (by omega), if_neg h]
theorem lyR_B {a g : Rw} {c i p : Nat} (h5 : np a ≤ 5) (hc : c < 6) (hp : p < 5) : bg (lyR a c g) i p = if i = c ∧ p < np a then g p else bg a i p := by
  unfold bg lyR
  by_cases h : i = c ∧ p < np a
  · obtain ⟨rfl, h2⟩ := h
    rw [if_neg (by omega), if_pos (by omega), if_pos ⟨rfl, h2⟩, show 47 + 5 * i + p - (47 + 5 * i) = p by omega]
  · rw [if_neg (by omega), if_neg (by omega), if_neg h]
theorem an_trim {f : Nat → Bool} {n : Nat} : ∀ {k : Nat}, n ≤ k → (∀ p, n ≤ p → p < k → f p = false) → an f k = an f n
  | 0, h, _ => by rw [Nat.le_zero.1 h]
  | k + 1, h, hf => by
    rcases Nat.lt_or_eq_of_le h with z | z
    · rw [an_s, an_trim (k := k) (by omega) (fun p h1 h2 => hf p h1 (by omega)), hf k (by omega) (by omega), Bool.or_false]
    · rw [z]
theorem np_lay {a g : Rw} {c : Nat} (h : Ok a) (hc : c < 6) : np (lyR a c g) = np a := by unfold np; rw [lyR_o (np_le h) hc (by omega)]
theorem nc_lay {a g : Rw} {c : Nat} (h : Ok a) (hc : c < 6) : nc (lyR a c g) = nc a := by unfold nc; rw [lyR_o (np_le h) hc (by omega)]
theorem sat_lay {a g : Rw} (h : Ok a) {c : Nat} (hc : c < nc a) (t : Nat) : sat (lyR a c g) c t = sNl a c (sM a c) 0 g t := by
  have n6 := nc_le h
  have n5 := np_le h
  obtain ⟨_, _, hb, hp⟩ := sM_b h hc
  unfold sat sNl
  rw [np_lay h (by omega)]
  rw [an_trim (n := np a) (k := 5) n5 (fun p h1 _ => by
    have e : (sM a c).testBit p = false := bf (fun z => by have := hp p z; omega)
    rw [e]; rfl)]
  refine an_congr (fun p hq => ?_)
  unfold sIn
  rw [lyR_B n5 (by omega) (by omega), if_pos ⟨rfl, hq⟩, tm_eq (lyR_o n5 (by omega) (by omega)) (lyR_o n5 (by omega) (by omega)), hb, Nat.zero_testBit]
  unfold ss
  rw [lyR_o n5 (by omega) (by omega)]; simp
theorem kpt_lay {a g : Rw} (h : Ok a) {c : Nat} (hc : c < nc a) (t : Nat) : kpt (lyR a c g) c t = kN a c (sM a c) g t := by
  have n6 := nc_le h
  have n5 := np_le h
  obtain ⟨_, _, hb, hp⟩ := sM_b h hc
  unfold kpt kN
  rw [sat_lay h hc, Bool.and_comm]
  congr 1
  unfold dNl
  rw [np_lay h (by omega)]
  rw [an_trim (n := np a) (k := 5) n5 (fun p h1 _ => by
    have e : (sM a c).testBit p = false := bf (fun z => by have := hp p z; omega)
    rw [e]; rfl)]
  refine an_congr (fun p hq => ?_)
  unfold due
  rw [lyR_B n5 (by omega) (by omega), if_pos ⟨rfl, hq⟩, lyR_o n5 (by omega) (by omega), hb, Nat.zero_testBit]
  unfold ss
  rw [lyR_o n5 (by omega) (by omega)]; simp
theorem lay_rc {a g : Rw} (h : Ok a) {c i : Nat} (hc : c < 6) (hi : i ≠ c) (hi6 : i < 6) : rc (lyR a c g) a i := by
  have n5 := np_le h
  refine ⟨lyR_o n5 hc (by omega), fun p hp => ?_⟩
  rw [np_lay h hc] at hp
  refine ⟨?_, ?_, ?_⟩
  · unfold ss; rw [lyR_o n5 hc (by omega)]
  · exact tm_eq (lyR_o n5 hc (by omega)) (lyR_o n5 hc (by omega))
  · rw [lyR_B n5 hc (by omega), if_neg (fun z => hi z.1)]
/-- the begins that are found -/
def GP (m : Nat) (g : Rw) : Prop := ∀ p, (m.testBit p = true → 0 ≤ g p ∧ g p ≤ 29) ∧ (m.testBit p = false → g p = -1)
theorem nxS_4 (a : Rw) (c p : Nat) (st : St) : (nxS a c p st).2.2.2 = up st.2.2.2 p (lsA a c p st.1 st.2.1 st.2.2.1) := by simp only [nxS]
theorem pf_g {a : Rw} {c : Nat} (o : List Nat) : ∀ (st q : St), pf a c o st = some q → ∀ p, (p ∈ o → 0 ≤ q.2.2.2 p ∧ q.2.2.2 p ≤ 29) ∧ (p ∉ o → q.2.2.2 p = st.2.2.2 p) := by
  induction o with
  | nil =>
    intro st q h p
    simp only [pf, Option.some.injEq] at h
    subst h
    exact ⟨fun z => absurd z (by simp), fun _ => rfl⟩
  | cons r o ih =>
    intro st q h p
    rw [pf] at h
    by_cases hz : lsA a c r st.1 st.2.1 st.2.2.1 < 0
    · rw [if_pos hz] at h; exact absurd h (by simp)
    · rw [if_neg hz] at h
      have ih := ih (nxS a c r st) q h p
      have hl := (ls_ft (Int.not_lt.1 hz)).2
      rw [nxS_4] at ih
      revert ih hz hl
      generalize lsA a c r st.1 st.2.1 st.2.2.1 = x
      intro hz ih hl
      refine ⟨fun hp => ?_, fun hp => ?_⟩
      · by_cases ho : p ∈ o
        · exact ih.1 ho
        · have e : p = r := by
            rcases List.mem_cons.1 hp with z | z
            · exact z
            · exact absurd z ho
          rw [ih.2 ho, e, up_at]
          omega
      · rw [ih.2 (fun z => hp (List.mem_cons_of_mem _ z)), up_ne (fun z => hp (by rw [z]; exact List.mem_cons_self))]
theorem ord_mem {m : Nat} (h : m < 32) : ∀ o ∈ ords 5 m, ∀ p, p < 5 → (m.testBit p = true ↔ p ∈ o) := by
  have := (show ∀ m : Fin 32, ∀ o ∈ ords 5 m.val, ∀ p : Fin 5, m.val.testBit p.val = decide (p.val ∈ o) by decide +kernel) ⟨m, h⟩
  intro o ho p hp
  have q := this o ho ⟨p, hp⟩
  simp only at q
  rw [q]; simp
theorem ord_lt {m : Nat} (h : m < 32) : ∀ o ∈ ords 5 m, ∀ p ∈ o, p < 5 := (show ∀ m : Fin 32, ∀ o ∈ ords 5 m.val, ∀ p ∈ o, p < 5 by decide +kernel) ⟨m, h⟩
theorem fold_g {a : Rw} {c m : Nat} (hm : m < 32) : ∀ (L : List (List Nat)) (b : Bt), (∀ o ∈ L, o ∈ ords 5 m) → (b.1 ≠ 0 → GP m b.2.2.2.2) → 0 ≤ b.1 → ((L.foldl (stp a c m ini) b).1 ≠ 0 → GP m (L.foldl (stp a c m ini) b).2.2.2.2)
  | [], b, _, hb, _ => hb
  | o :: L, b, hL, hb, h0 => by
    rw [List.foldl_cons]
    refine fold_g hm L _ (fun o ho => hL o (List.mem_cons_of_mem _ ho)) ?_ (by have := stp_w a c m ini b o; omega)
    have ho := hL o List.mem_cons_self
    unfold stp
    cases hpf : pf a c o ini with
    | none => exact hb
    | some q =>
      dsimp only
      unfold wgB
      split
      · intro _ p
        have hg := pf_g o ini q hpf p
        have hmem := ord_mem hm o ho p
        have hlt := ord_lt hm o ho
        refine ⟨fun z => hg.1 ((hmem (tb5 hm z)).1 z), fun z => ?_⟩
        dsimp only
        rw [hg.2 (fun w => by rw [(hmem (hlt p w)).2 w] at z; exact absurd z (by decide))]
        rfl
      · next hbt =>
        intro _
        refine hb (fun z => hbt ?_)
        unfold bet; simp [z]
theorem plB_g {a : Rw} {c m : Nat} (hm : m < 32) (h : (plB a c m).1 ≠ 0) : GP m (plB a c m).2.2.2.2 :=
  fold_g hm _ _ (fun _ ho => ho) (fun z => absurd rfl z) (Int.le_refl 0) h
theorem lay_ok {a g : Rw} (h : Ok a) {c : Nat} (hc : c < 6) (hg : ∀ p, -1 ≤ g p ∧ g p ≤ 29) : Ok (lyR a c g) := by
  have n5 := np_le h
  refine Ok_row h (fun j hj => ?_) (lyR_o n5 hc (by omega)) (lyR_o n5 hc (by omega)) (fun c' h' => lyR_o n5 hc (by omega)) (fun p h' => lyR_o n5 hc (by omega))
  unfold lyR
  by_cases e : j = 41 + c
  · rw [if_pos e]
    right; subst e
    exact (show ∀ c : Fin 6, loA (41 + c.val) ≤ 0 ∧ 0 ≤ hiA (41 + c.val) by decide +kernel) ⟨c, hc⟩
  · rw [if_neg e]
    by_cases e2 : 47 + 5 * c ≤ j ∧ j < 47 + 5 * c + np a
    · rw [if_pos e2]
      right
      have := (show ∀ i : Fin 30, loA (47 + i.val) ≤ -1 ∧ 29 ≤ hiA (47 + i.val) by decide +kernel) ⟨j - 47, by omega⟩
      simp only at this
      rw [show 47 + (j - 47) = j by omega] at this
      have := hg (j - (47 + 5 * c))
      omega
    · rw [if_neg e2]; exact Or.inl rfl
theorem GP_bd {m : Nat} {g : Rw} (h : GP m g) (p : Nat) : -1 ≤ g p ∧ g p ≤ 29 := by
  have := h p
  cases hb : m.testBit p with
  | true => have := this.1 hb; omega
  | false => have := this.2 hb; omega
theorem lay_row {s t : mSt} {k c : Nat} {g : Rw} (h : BI s k) (hc : c < nc (brow s k)) (hw : ¬ pl (brow s k) c = true) (hg : ∀ p, -1 ≤ g p ∧ g p ≤ 29) (hs : sB s t k k) (h5 : ∀ i, bq (t k 5) i = (bq (s k 5) i || decide (i = c))) (h5b : 0 ≤ t k 5 ∧ t k 5 < 2 ^ nc (brow s k))
    (h7 : ∀ i, t (k + 7) i = if 5 * c ≤ i ∧ i < 5 * c + 5 then g (i - 5 * c) else s (k + 7) i) (h8 : ∀ i, t (k + 8) i = if i = c then os (sNl (brow s k) c (sM (brow s k) c) 0 g) 30 else s (k + 8) i) (h9 : ∀ i, t (k + 9) i = if i = c then os (kN (brow s k) c (sM (brow s k) c) g) 30 else s (k + 9) i) : BI t k ∧ brow t k = lyR (brow s k) c g := by
  have n6 := nc_le h.1
  have n5 := np_le h.1
  have hnp := bi_np h
  have hd : ¬ s k 0 = 0 := bi_dc h (by omega)
  have hd' : ¬ t k 0 = 0 := by rw [hs.1 0 (by omega)]; exact hd
  rw [bi_pl h hc] at hw
  have e : brow t k = lyR (brow s k) c g := by
    refine row_ext (fun j hj => ?_) (fun i hi => ?_) (fun i hi p hp => ?_)
    · rw [lyR_o n5 (by omega) hj]; exact sB_out hs hj
    · rw [lyR_W hi, biW hd' hi, biW hd hi, h5]
      by_cases e : i = c
      · subst e; simp
      · simp [e]
    · rw [lyR_B n5 (by omega) hp, brow_B hd' hi hp, brow_B hd hi hp, h5, h7, hs.1 2 (by omega)]
      by_cases e : i = c
      · subst e
        by_cases w : p < np (brow s k)
        · rw [if_pos ⟨by simp, by omega⟩, if_pos (by omega), if_pos ⟨rfl, w⟩, Nat.add_sub_cancel_left]
        · rw [if_neg (fun z => w (by omega)), if_neg (fun z => w z.2), if_neg (fun z => w (by omega))]
      · rw [if_neg (by omega : ¬ (5 * c ≤ 5 * i + p ∧ 5 * i + p < 5 * c + 5)), if_neg (show ¬ (i = c ∧ p < np (brow s k)) from fun z => e z.1)]
        simp [e]
  refine ⟨⟨?_, ?_, ?_, ?_, ?_⟩, e⟩
  · rw [e]; exact lay_ok h.1 (by omega) hg
  · rw [e, nc_lay h.1 (by omega)]; exact h5b
  · intro i hi
    rw [h8, h5, e]
    by_cases q : i = c
    · subst q
      rw [if_pos rfl, os_congr (fun t' _ => sat_lay h.1 hc t')]; simp
    · rw [if_neg q, h.2.2.1 i hi]
      rw [os_congr (fun t' _ => sat_rc (lay_rc h.1 (by omega) q hi) t')]
      simp [q]
  · intro i hi
    rw [h9, h5, e]
    by_cases q : i = c
    · subst q
      rw [if_pos rfl, os_congr (fun t' _ => kpt_lay h.1 hc t')]; simp
    · rw [if_neg q, h.2.2.2.1 i hi]
      rw [os_congr (fun t' _ => kpt_rc (lay_rc h.1 (by omega) q hi) (fun p hp _ => lyR_o n5 (by omega) (by rw [np_lay h.1 (by omega)] at hp; omega)) t')]
      simp [q]
  · rw [hs.1 0 (by omega), hs.1 1 (by omega), hs.1 2 (by omega), hs.1 3 (by omega), hs.1 4 (by omega)]; exact h.2.2.2.2
theorem v23 {X : (Nat → Int) × Nat} {d : Nat} {s : mSt} {Q : mQ} {a0 : Nat} {x1 : Int} (h0 : isBd a0)
  (z1 : 0 ≤ (w32 (x1 * 5)) ∧ (w32 (x1 * 5)) + 5 ≤ (30 : Int))
  (z2 : 0 ≤ x1 ∧ x1 < 6)
  (z3 : Q none (uS (uS (uS (cS s 49 0 (a0 + 7) ((w32 (x1 * 5)).toNat) 5) (a0 + 8) x1.toNat ((cS s 49 0 (a0 + 7) ((w32 (x1 * 5)).toNat) 5) 44 9)) (a0 + 9) x1.toNat ((uS (cS s 49 0 (a0 + 7) ((w32 (x1 * 5)).toNat) 5) (a0 + 8) x1.toNat ((cS s 49 0 (a0 + 7) ((w32 (x1 * 5)).toNat) 5) 44 9)) 44 8)) a0 5 (iOr ((uS (uS (cS s 49 0 (a0 + 7) ((w32 (x1 * 5)).toNat) 5) (a0 + 8) x1.toNat ((cS s 49 0 (a0 + 7) ((w32 (x1 * 5)).toNat) 5) 44 9)) (a0 + 9) x1.toNat ((uS (cS s 49 0 (a0 + 7) ((w32 (x1 * 5)).toNat) 5) (a0 + 8) x1.toNat ((cS s 49 0 (a0 + 7) ((w32 (x1 * 5)).toNat) 5) 44 9)) 44 8)) a0 5) (iShl 1 x1)))) :
  Sp X (d + 1) 23 [mR a0, mI x1, mR 44] s Q := e23 (b23_0 h0 z1 z2 z2 z3)

theorem c23 {X : (Nat → Int) × Nat} {d : Nat} {s : mSt} {Q : mQ} {a0 : Nat} {x1 : Int} (h0 : isBd a0) (p1 : BI s a0 ∧ ((0 ≤ x1 ∧ x1 < s a0 3) ∧ ¬ pl (brow s a0) x1.toNat = true) ∧ 0 < (pA1 (brow s a0) x1.toNat).1 ∧ PB s (brow s a0) x1.toNat (sM (brow s a0) x1.toNat) (pA1 (brow s a0) x1.toNat)) (k : ∀ t : mSt, (BI t a0 ∧ brow t a0 = lyR (brow s a0) x1.toNat (pA1 (brow s a0) x1.toNat).2.2.2.2 ∧ fB s t a0) → Q none t) : Sp X (d + 1) 23 [mR a0, mI x1, mR 44] s Q := by
  obtain ⟨h, ⟨h1, hw⟩, hwy, hb⟩ := p1
  have h4 := bi_nc h
  have n6 := nc_le h.1
  have hl := bd_lt h0
  have hp := bd_pl h0
  obtain ⟨c, rfl⟩ := nat_of h1.1
  rw [tnc] at hw hwy hb k
  have e1 : (w32 ((c : Int) * 5)).toNat = 5 * c := wt (by omega) (by omega)
  obtain ⟨b1, b2, b3⟩ := hb
  have b4 := b3 (by omega)
  have hg := plB_g (sM_b h.1 (c := c) (by omega)).1.2 (show (plB (brow s a0) c (sM (brow s a0) c)).1 ≠ 0 from by unfold pA1 at hwy; omega)
  have ⟨o1, o2⟩ := bit_in n6 h.2.1 (show c < nc (brow s a0) by omega)
  refine v23 h0 (by rw [w32_of (by omega)]; omega) (by omega) ?_
  rw [e1, tnc]
  have c1 : cS s 49 0 (a0 + 7) (5 * c) 5 44 = s 44 := cS_cell (by omega)
  have c2 : ∀ (q : mSt) (i : Nat) (x : Int), uS q (a0 + 8) i x 44 = q 44 := fun q i x => uS_cell (by omega)
  have c3 : ∀ (q : mSt) (i : Nat) (x : Int), uS q (a0 + 9) i x a0 = q a0 := fun q i x => uS_cell (by omega)
  have c4 : ∀ (q : mSt) (i : Nat) (x : Int), uS q (a0 + 8) i x a0 = q a0 := fun q i x => uS_cell (by omega)
  have c5 : cS s 49 0 (a0 + 7) (5 * c) 5 a0 = s a0 := cS_cell (by omega)
  rw [c2, c1, c3, c4, c5]
  have r := lay_row (g := (pA1 (brow s a0) c).2.2.2.2) (t := uS (uS (uS (cS s 49 0 (a0 + 7) (5 * c) 5) (a0 + 8) c (s 44 9)) (a0 + 9) c (s 44 8)) a0 5 (iOr (s a0 5) (iShl 1 (c : Int)))) h (c := c) (by omega) hw (GP_bd hg) ?_ ?_ ?_ ?_ ?_ ?_
  · refine k _ ⟨r.1, r.2, fun b hb => ?_⟩
    rw [uS_cell (by omega), uS_cell (by omega), uS_cell (by omega), cS_cell (by omega)]
  · refine ⟨fun i hi => ?_, fun p _ => ?_, fun p _ => ?_, fun p _ => ?_, fun p _ => ?_, fun p _ => ?_, fun p _ => ?_, ?_⟩
    · rw [uS_at, if_neg (by omega), uS_cell (by omega), uS_cell (by omega), cS_cell (by omega)]
    all_goals rw [uS_cell (by omega), uS_cell (by omega), uS_cell (by omega), cS_cell (by omega)]
  · intro i
    rw [uS_at, if_pos rfl, o2]
  · rw [uS_at, if_pos rfl]; exact o1
  · intro i
    rw [uS_cell (by omega), uS_cell (by omega), uS_cell (by omega), cS_at]
    by_cases q : 5 * c ≤ i ∧ i < 5 * c + 5
    · rw [if_pos q, if_pos q, Nat.zero_add]; exact b4.1.2.2.2.2.2 _ (by omega)
    · rw [if_neg q, if_neg q]
  · intro i
    rw [uS_cell (by omega), uS_cell (by omega), uS_at]
    by_cases q : i = c
    · rw [if_pos q, if_pos q]; exact b4.1.2.2.1
    · rw [if_neg q, if_neg q, cS_cell (by omega)]
  · intro i
    rw [uS_cell (by omega), uS_at]
    by_cases q : i = c
    · rw [if_pos q, if_pos q]; exact b4.1.2.1
    · rw [if_neg q, if_neg q, uS_cell (by omega), cS_cell (by omega)]
def fBP (s t : mSt) (k : Nat) : Prop := ∀ x, ¬ (k ≤ x ∧ x ≤ k + 9) → ¬ (44 ≤ x ∧ x ≤ 49) → t x = s x
theorem v60 {X : (Nat → Int) × Nat} {d : Nat} {s : mSt} {Q : mQ} {a1 : Nat} {x2 : Int} (h1 : isBd a1)
  (z1 : BI s a1)
  (z2 : ((0 ≤ x2 ∧ x2 < s a1 3) ∧ ¬ pl (brow s a1) x2.toNat = true) → 0 ≤ x2 ∧ x2 < 6)
  (z3 : ((0 ≤ x2 ∧ x2 < s a1 3) ∧ ¬ pl (brow s a1) x2.toNat = true) → BI s a1 ∧ ¬ s a1 0 = 0 ∧ (0 ≤ x2 ∧ x2 < s a1 3) ∧ (0 < (s (a1 + 3) x2.toNat) ∧ (s (a1 + 3) x2.toNat) < 32) ∧ ∀ p, (s (a1 + 3) x2.toNat).toNat.testBit p = true → p < np (brow s a1))
  (z4 : ((0 ≤ x2 ∧ x2 < s a1 3) ∧ ¬ pl (brow s a1) x2.toNat = true) → ∀ s2 : mSt, (0 < (plB (brow s a1) x2.toNat (s (a1 + 3) x2.toNat).toNat).1 ∧ PB s2 (brow s a1) x2.toNat (s (a1 + 3) x2.toNat).toNat (plB (brow s a1) x2.toNat (s (a1 + 3) x2.toNat).toNat) ∧ fP s s2) → BI s2 a1 ∧ ((0 ≤ x2 ∧ x2 < s2 a1 3) ∧ ¬ pl (brow s2 a1) x2.toNat = true) ∧ 0 < (pA1 (brow s2 a1) x2.toNat).1 ∧ PB s2 (brow s2 a1) x2.toNat (sM (brow s2 a1) x2.toNat) (pA1 (brow s2 a1) x2.toNat))
  (z5 : ((0 ≤ x2 ∧ x2 < s a1 3) ∧ ¬ pl (brow s a1) x2.toNat = true) → ∀ s2 : mSt, (0 < (plB (brow s a1) x2.toNat (s (a1 + 3) x2.toNat).toNat).1 ∧ PB s2 (brow s a1) x2.toNat (s (a1 + 3) x2.toNat).toNat (plB (brow s a1) x2.toNat (s (a1 + 3) x2.toNat).toNat) ∧ fP s s2) → ∀ s3 : mSt, (BI s3 a1 ∧ brow s3 a1 = lyR (brow s2 a1) x2.toNat (pA1 (brow s2 a1) x2.toNat).2.2.2.2 ∧ fB s2 s3 a1) → Q (some (mI 1)) s3)
  (z6 : ((0 ≤ x2 ∧ x2 < s a1 3) ∧ ¬ pl (brow s a1) x2.toNat = true) → ∀ s4 : mSt, ((plB (brow s a1) x2.toNat (s (a1 + 3) x2.toNat).toNat).1 = 0 ∧ PB s4 (brow s a1) x2.toNat (s (a1 + 3) x2.toNat).toNat (plB (brow s a1) x2.toNat (s (a1 + 3) x2.toNat).toNat) ∧ fP s s4) → Q (some (mI 0)) s4)
  (z7 : (¬ ((0 ≤ x2 ∧ x2 < s a1 3) ∧ ¬ pl (brow s a1) x2.toNat = true)) → Q (some (mI 0)) s) :
  Sp X (d + 9) 60 [mR 44, mR a1, mI x2] s Q := e60 (b60_0 h1 (c10 h1 z1 (fun q1 => ⟨1, rfl, b60_5 h1 (fun q => absurd q (by decide)) (fun _ => b60_8 h1 (z2 q1) (c59 h1 (z3 q1) (fun s2 q2 => ⟨1, rfl, b60_20 h1 (fun _ => b60_25 h1 (c23 h1 (z4 q1 s2 q2) (fun s3 q3 => ⟨rfl, b60_31 h1 (z5 q1 s2 q2 s3 q3)⟩))) (fun q => absurd q (by decide))⟩) (fun s4 q4 => ⟨0, rfl, b60_20 h1 (fun q => absurd q (by decide)) (fun _ => b60_23 h1 (z6 q1 s4 q4))⟩)))⟩) (fun q5 => ⟨0, rfl, b60_5 h1 (fun _ => b60_23 h1 (z7 q5)) (fun q => absurd q (by decide))⟩)))

theorem c60 {X : (Nat → Int) × Nat} {d : Nat} {s : mSt} {Q : mQ} {a1 : Nat} {x2 : Int} (h1 : isBd a1) (p1 : BI s a1) (k1 : ∀ t : mSt, (((0 ≤ x2 ∧ x2 < s a1 3) ∧ ¬ pl (brow s a1) x2.toNat = true) ∧ 0 < (pA1 (brow s a1) x2.toNat).1 ∧ BI t a1 ∧ brow t a1 = lyR (brow s a1) x2.toNat (pA1 (brow s a1) x2.toNat).2.2.2.2 ∧ PB t (brow s a1) x2.toNat (sM (brow s a1) x2.toNat) (pA1 (brow s a1) x2.toNat) ∧ fBP s t a1) → Q (some (mI 1)) t) (k0 : ∀ t : mSt, (¬ (((0 ≤ x2 ∧ x2 < s a1 3) ∧ ¬ pl (brow s a1) x2.toNat = true) ∧ 0 < (pA1 (brow s a1) x2.toNat).1) ∧ BI t a1 ∧ brow t a1 = brow s a1 ∧ fP s t) → Q (some (mI 0)) t) : Sp X (d + 9) 60 [mR 44, mR a1, mI x2] s Q := by
  have h4 := bi_nc p1
  have n6 := nc_le p1.1
  have hl := bd_lt h1
  have hp := bd_pl h1
  have eM : (0 ≤ x2 ∧ x2 < s a1 3) → (s (a1 + 3) x2.toNat).toNat = sM (brow s a1) x2.toNat := fun z => by
    rw [biP p1 (by omega)]; rfl
  have eB : (0 ≤ x2 ∧ x2 < s a1 3) → ∀ s2 : mSt, PB s2 (brow s a1) x2.toNat (s (a1 + 3) x2.toNat).toNat (plB (brow s a1) x2.toNat (s (a1 + 3) x2.toNat).toNat) → PB s2 (brow s a1) x2.toNat (sM (brow s a1) x2.toNat) (pA1 (brow s a1) x2.toNat) := fun z s2 q => by
    rw [eM z] at q; exact q
  refine v60 h1 p1 (fun z => by omega) (fun z => ?_) (fun z s2 q => ?_) (fun z s2 q s3 q3 => ?_) (fun z s4 q => ?_) (fun z => k0 s ⟨fun w => z w.1, p1, rfl, fun _ _ => rfl⟩)
  · have w := sM_b p1.1 (c := x2.toNat) (by omega)
    have e := biP p1 (c := x2.toNat) (by omega)
    refine ⟨p1, bi_dc p1 (by omega), z.1, by omega, ?_⟩
    rw [eM z.1]; exact w.2.2.2
  · have w := BI_fP h1 p1 q.2.2
    have q1 := q.1
    rw [eM z.1] at q1
    rw [w.2, q.2.2 a1 (by omega)]
    exact ⟨w.1, z, q1, eB z.1 s2 q.2.1⟩
  · have w := BI_fP h1 p1 q.2.2
    have q1 := q.1
    rw [eM z.1] at q1
    rw [w.2] at q3
    refine k1 s3 ⟨z, q1, q3.1, q3.2.1, ?_, fun x hx hx2 => ?_⟩
    · have := eB z.1 s2 q.2.1
      unfold PB at this ⊢
      rw [q3.2.2 44 (by omega), q3.2.2 49 (by omega)]
      exact this
    · rw [q3.2.2 x hx]; exact q.2.2 x hx2
  · have w := BI_fP h1 p1 q.2.2
    have q1 := q.1
    rw [eM z.1] at q1
    refine k0 s4 ⟨fun y => ?_, w.1, w.2, q.2.2⟩
    have := y.2
    unfold pA1 at this
    omega
/-! the least set that clashes -/
def bN (m : Nat) : Int := cn (bq (m : Int)) 30
def isF (a : Rw) (c m : Nat) : Prop := 0 < m ∧ (∀ p, m.testBit p = true → (sM a c).testBit p = true) ∧ (plB a c m).1 = 0
def clC (a : Rw) (c v : Nat) : Prop := isF a c v ∧ ∀ m, isF a c m → bN v < bN m ∨ (bN v = bN m ∧ v ≤ m)
theorem clC_un {a : Rw} {c v w : Nat} (h1 : clC a c v) (h2 : clC a c w) : v = w := by
  have := h1.2 w h2.1
  have := h2.2 v h1.1
  omega
theorem sub_le {m M : Nat} (h : ∀ p, m.testBit p = true → M.testBit p = true) : m ≤ M := by
  have : m &&& M = m := by
    apply Nat.eq_of_testBit_eq
    intro i
    rw [Nat.testBit_and]
    cases hb : m.testBit i with
    | true => rw [h i hb]; rfl
    | false => rfl
  rw [← this]; exact Nat.and_le_right
theorem sub_iff {m M : Nat} (hm : m < 1000) (hM : M < 1000) : iAnd (m : Int) (iXor (M : Int) (-1)) = 0 ↔ ∀ p, m.testBit p = true → M.testBit p = true := by
  constructor
  · intro h p hp
    have e : bq (iAnd (m : Int) (iXor (M : Int) (-1))) p = false := by rw [h, bq_0]
    rw [bq_and, bq_not, bq_nat (by omega), bq_nat (by omega), hp] at e
    have h10 : p < 32 := by
      apply Classical.byContradiction; intro hq
      have : (2:Nat) ^ 32 ≤ 2 ^ p := Nat.pow_le_pow_right (by decide) (by omega)
      rw [Nat.testBit_lt_two_pow (by omega)] at hp; exact absurd hp (by decide)
    simpa [h10] using e
  · intro h
    apply bq_ext (i3_and _ _) (by unfold i3; omega)
    intro i hi
    rw [bq_and, bq_not, bq_nat (by omega), bq_nat (by omega), bq_0]
    cases hb : m.testBit i with
    | true => rw [h i hb]; simp
    | false => rfl
theorem bN_5 {m : Nat} (h : m < 32) : bN m ≤ 5 := (show ∀ m : Fin 32, bN m.val ≤ 5 by decide +kernel) ⟨m, h⟩
theorem bN_1 {m : Nat} (h : m < 32) (h0 : 0 < m) : 1 ≤ bN m := (show ∀ m : Fin 32, 0 < m.val → 1 ≤ bN m.val by decide +kernel) ⟨m, h⟩ h0
theorem v61 {X : (Nat → Int) × Nat} {d : Nat} {s : mSt} {Q : mQ} {a1 : Nat} {x2 : Int} (h1 : isBd a1)
  (I10 : Int → Int → mSt → Prop) (m10 : Int → Int → mSt → Nat)
  (I19 : Int → Int → Int → mSt → Prop) (m19 : Int → Int → Int → mSt → Nat)
  (z1 : ∀ y3 : Int, ∀ y4 : Int, ∀ s : mSt, I10 y3 y4 s → 5 < y4 → Q (some (mI y3)) s)
  (z2 : ∀ y3 : Int, ∀ y4 : Int, ∀ s : mSt, I10 y3 y4 s → ¬ 5 < y4 → I19 y3 y4 1 s ∧ m19 y3 y4 1 s < m10 y3 y4 s)
  (z3 : ∀ y3 : Int, ∀ y4 : Int, ∀ y5 : Int, ∀ s : mSt, I19 y3 y4 y5 s → y3 < y5 → I10 y3 (w32 (y4 + 1)) s ∧ m10 y3 (w32 (y4 + 1)) s < m19 y3 y4 y5 s)
  (z4 : ∀ y3 : Int, ∀ y4 : Int, ∀ y5 : Int, ∀ s : mSt, I19 y3 y4 y5 s → ¬ y3 < y5 → ¬ (iAnd y5 (iXor y3 (-1))) = 0 → I19 y3 y4 (w32 (y5 + 1)) s ∧ m19 y3 y4 (w32 (y5 + 1)) s < m19 y3 y4 y5 s)
  (z5 : ∀ y3 : Int, ∀ y4 : Int, ∀ y5 : Int, ∀ s : mSt, I19 y3 y4 y5 s → ¬ y3 < y5 → (iAnd y5 (iXor y3 (-1))) = 0 → 0 ≤ y5 ∧ y5 < 1073741824)
  (z6 : ∀ y3 : Int, ∀ y4 : Int, ∀ y5 : Int, ∀ s : mSt, I19 y3 y4 y5 s → ¬ y3 < y5 → (iAnd y5 (iXor y3 (-1))) = 0 → ¬ (cn (bq y5) 30) = y4 → I19 y3 y4 (w32 (y5 + 1)) s ∧ m19 y3 y4 (w32 (y5 + 1)) s < m19 y3 y4 y5 s)
  (z7 : ∀ y3 : Int, ∀ y4 : Int, ∀ y5 : Int, ∀ s : mSt, I19 y3 y4 y5 s → ¬ y3 < y5 → (iAnd y5 (iXor y3 (-1))) = 0 → (cn (bq y5) 30) = y4 → BI s a1 ∧ ¬ s a1 0 = 0 ∧ (0 ≤ x2 ∧ x2 < s a1 3) ∧ (0 < y5 ∧ y5 < 32) ∧ ∀ p, y5.toNat.testBit p = true → p < np (brow s a1))
  (z8 : ∀ y3 : Int, ∀ y4 : Int, ∀ y5 : Int, ∀ s : mSt, I19 y3 y4 y5 s → ¬ y3 < y5 → (iAnd y5 (iXor y3 (-1))) = 0 → (cn (bq y5) 30) = y4 → ∀ s9 : mSt, (0 < (plB (brow s a1) x2.toNat y5.toNat).1 ∧ PB s9 (brow s a1) x2.toNat y5.toNat (plB (brow s a1) x2.toNat y5.toNat) ∧ fP s s9) → I19 y3 y4 (w32 (y5 + 1)) s9 ∧ m19 y3 y4 (w32 (y5 + 1)) s9 < m19 y3 y4 y5 s)
  (z9 : ∀ y3 : Int, ∀ y4 : Int, ∀ y5 : Int, ∀ s : mSt, I19 y3 y4 y5 s → ¬ y3 < y5 → (iAnd y5 (iXor y3 (-1))) = 0 → (cn (bq y5) 30) = y4 → ∀ s10 : mSt, ((plB (brow s a1) x2.toNat y5.toNat).1 = 0 ∧ PB s10 (brow s a1) x2.toNat y5.toNat (plB (brow s a1) x2.toNat y5.toNat) ∧ fP s s10) → Q (some (mI y5)) s10)
  (z10 : 0 ≤ x2 ∧ x2 < 6)
  (z11 : I10 (s (a1 + 3) x2.toNat) 1 s) :
  Sp X (d + 9) 61 [mR 44, mR a1, mI x2] s Q := by
  have L : ∀ k : Nat, (∀ (y3 : Int) (y4 : Int) (l5 : Option mV) (l6 : Option mV) (s : mSt), I10 y3 y4 s → m10 y3 y4 s < k → Wp X (d + 9) 61 10 [some (mR 44), some (mR a1), some (mI x2), some (mI y3), some (mI y4), l5, l6] [] s Q) ∧ (∀ (y3 : Int) (y4 : Int) (y5 : Int) (l6 : Option mV) (s : mSt), I19 y3 y4 y5 s → m19 y3 y4 y5 s < k → Wp X (d + 9) 61 19 [some (mR 44), some (mR a1), some (mI x2), some (mI y3), some (mI y4), some (mI y5), l6] [] s Q) := by
    intro k
    induction k with
    | zero => exact ⟨fun _ _ _ _ _ _ h => absurd h (Nat.not_lt_zero _), fun _ _ _ _ _ _ h => absurd h (Nat.not_lt_zero _)⟩
    | succ k ih => exact ⟨fun y3 y4 l5 l6 s hI hm => b61_10 h1 (fun q1 => b61_82 h1 (z1 y3 y4 s hI q1)) (fun q2 => b61_16 h1 (ih.2 y3 y4 1 l6 s (z2 y3 y4 s hI q2).1 (Nat.lt_of_lt_of_le (z2 y3 y4 s hI q2).2 (Nat.le_of_lt_succ hm)))), fun y3 y4 y5 l6 s hI hm => b61_19 h1 (fun q3 => b61_76 h1 (ih.1 y3 (w32 (y4 + 1)) (some (mI y5)) l6 s (z3 y3 y4 y5 s hI q3).1 (Nat.lt_of_lt_of_le (z3 y3 y4 y5 s hI q3).2 (Nat.le_of_lt_succ hm)))) (fun q4 => b61_25 h1 (fun q5 => b61_38 h1 (b61_39 h1 (fun _ => b61_70 h1 (ih.2 y3 y4 (w32 (y5 + 1)) (some (mI 0)) s (z4 y3 y4 y5 s hI q4 q5).1 (Nat.lt_of_lt_of_le (z4 y3 y4 y5 s hI q4 q5).2 (Nat.le_of_lt_succ hm)))) (fun q => absurd q (by decide)))) (fun q6 => b61_34 h1 (b61_39 h1 (fun q => absurd q (by decide)) (fun _ => b61_46 h1 (c309 (z5 y3 y4 y5 s hI q4 q6) ⟨_, rfl, b61_51 h1 (fun q7 => b61_70 h1 (ih.2 y3 y4 (w32 (y5 + 1)) (some (mI 1)) s (z6 y3 y4 y5 s hI q4 q6 q7).1 (Nat.lt_of_lt_of_le (z6 y3 y4 y5 s hI q4 q6 q7).2 (Nat.le_of_lt_succ hm)))) (fun q8 => b61_56 h1 (c59 h1 (z7 y3 y4 y5 s hI q4 q6 q8) (fun s9 q9 => ⟨1, rfl, b61_64 h1 (fun _ => b61_70 h1 (ih.2 y3 y4 (w32 (y5 + 1)) (some (mI 1)) s9 (z8 y3 y4 y5 s hI q4 q6 q8 s9 q9).1 (Nat.lt_of_lt_of_le (z8 y3 y4 y5 s hI q4 q6 q8 s9 q9).2 (Nat.le_of_lt_succ hm)))) (fun q => absurd q (by decide))⟩) (fun s10 q10 => ⟨0, rfl, b61_64 h1 (fun q => absurd q (by decide)) (fun _ => b61_67 h1 (z9 y3 y4 y5 s hI q4 q6 q8 s10 q10))⟩)))⟩)))))⟩
  exact e61 (b61_0 h1 z10 ((L (m10 (s (a1 + 3) x2.toNat) 1 s + 1)).1 (s (a1 + 3) x2.toNat) 1 none none s z11 (Nat.lt_succ_self _)))

theorem c61 {X : (Nat → Int) × Nat} {d : Nat} {s : mSt} {Q : mQ} {a1 : Nat} {x2 : Int} (h1 : isBd a1) (p1 : BI s a1 ∧ (0 ≤ x2 ∧ x2 < s a1 3) ∧ (pA1 (brow s a1) x2.toNat).1 = 0) (k : ∀ (v : Int) (t : mSt), ((∃ w : Nat, v = w ∧ w < 32 ∧ clC (brow s a1) x2.toNat w) ∧ fP s t) → Q (some (mI v)) t) : Sp X (d + 9) 61 [mR 44, mR a1, mI x2] s Q := by
  obtain ⟨h, h2, hz⟩ := p1
  have h4 := bi_nc h
  have n6 := nc_le h.1
  have hl := bd_lt h1
  have hp := bd_pl h1
  obtain ⟨⟨b1, b2⟩, b3, b4, b5⟩ := sM_b h.1 (c := x2.toNat) (by omega)
  have eM : s (a1 + 3) x2.toNat = (sM (brow s a1) x2.toNat : Int) := by rw [biP h (by omega), b3]
  have hF : isF (brow s a1) x2.toNat (sM (brow s a1) x2.toNat) := ⟨b1, fun p hp => hp, hz⟩
  have hlt : ∀ m, isF (brow s a1) x2.toNat m → m ≤ sM (brow s a1) x2.toNat := fun m hm => sub_le hm.2.1
  refine v61 h1 (fun y3 y4 t => y3 = (sM (brow s a1) x2.toNat : Int) ∧ (1 ≤ y4 ∧ y4 ≤ 6) ∧ fP s t ∧ ∀ m, isF (brow s a1) x2.toNat m → y4 ≤ bN m) (fun _ y4 _ => ((7 - y4) * 50).toNat)
    (fun y3 y4 y5 t => y3 = (sM (brow s a1) x2.toNat : Int) ∧ (1 ≤ y4 ∧ y4 ≤ 5) ∧ fP s t ∧ (∀ m, isF (brow s a1) x2.toNat m → y4 ≤ bN m) ∧ ∃ w : Nat, y5 = w ∧ 1 ≤ w ∧ w ≤ 32 ∧ ∀ m, isF (brow s a1) x2.toNat m → bN m = y4 → w ≤ m) (fun _ y4 y5 _ => ((7 - y4) * 50 - y5).toNat) ?_ ?_ ?_ ?_ ?_ ?_ ?_ ?_ ?_ ?_ ?_
  · rintro y3 y4 t ⟨rfl, q1, q2, q3⟩ hc
    exfalso
    have := q3 _ hF
    have := bN_5 b2
    omega
  · rintro y3 y4 t ⟨rfl, q1, q2, q3⟩ hc
    exact ⟨⟨rfl, by omega, q2, q3, 1, rfl, by omega, by omega, fun m hm _ => hm.1⟩, by omega⟩
  · rintro y3 y4 y5 t ⟨rfl, q1, q2, q3, w, rfl, w1, w2, w3⟩ hc
    rw [w32_of (by omega)]
    refine ⟨⟨rfl, by omega, q2, fun m hm => ?_⟩, by omega⟩
    have e1 := q3 m hm
    rcases Int.lt_or_eq_of_le e1 with z | z
    · omega
    · have := w3 m hm z.symm
      have := hlt m hm
      omega
  · rintro y3 y4 y5 t ⟨rfl, q1, q2, q3, w, rfl, w1, w2, w3⟩ hc z
    rw [sub_iff (by omega) (by omega)] at z
    rw [w32_of (by omega)]
    refine ⟨⟨rfl, q1, q2, q3, w + 1, by omega, by omega, by omega, fun m hm e => ?_⟩, by omega⟩
    have := w3 m hm e
    rcases Nat.lt_or_eq_of_le this with y | y
    · omega
    · subst y; exact absurd hm.2.1 z
  · rintro y3 y4 y5 t ⟨rfl, q1, q2, q3, w, rfl, w1, w2, w3⟩ hc z
    omega
  · rintro y3 y4 y5 t ⟨rfl, q1, q2, q3, w, rfl, w1, w2, w3⟩ hc z z2
    rw [w32_of (by omega)]
    refine ⟨⟨rfl, q1, q2, q3, w + 1, by omega, by omega, by omega, fun m hm e => ?_⟩, by omega⟩
    have := w3 m hm e
    rcases Nat.lt_or_eq_of_le this with y | y
    · omega
    · subst y; exact absurd e z2
  · rintro y3 y4 y5 t ⟨rfl, q1, q2, q3, w, rfl, w1, w2, w3⟩ hc z z2
    rw [sub_iff (by omega) (by omega)] at z
    have v := BI_fP h1 h q2
    rw [v.2, q2 a1 (by omega), tnc]
    exact ⟨v.1, bi_dc h (by omega), h2, by omega, fun p hp => b5 p (z p hp)⟩
  · rintro y3 y4 y5 t ⟨rfl, q1, q2, q3, w, rfl, w1, w2, w3⟩ hc z z2 s9 q9
    have v := BI_fP h1 h q2
    rw [v.2, tnc] at q9
    rw [w32_of (by omega)]
    refine ⟨⟨rfl, q1, fun x hx => (q9.2.2 x hx).trans (q2 x hx), q3, w + 1, by omega, by omega, by omega, fun m hm e => ?_⟩, by omega⟩
    have := w3 m hm e
    rcases Nat.lt_or_eq_of_le this with y | y
    · omega
    · subst y; have := hm.2.2; have := q9.1; omega
  · rintro y3 y4 y5 t ⟨rfl, q1, q2, q3, w, rfl, w1, w2, w3⟩ hc z z2 s9 q9
    rw [sub_iff (by omega) (by omega)] at z
    have v := BI_fP h1 h q2
    rw [v.2, tnc] at q9
    refine k _ s9 ⟨⟨w, rfl, by omega, ⟨by omega, z, q9.1⟩, fun m hm => ?_⟩, fun x hx => (q9.2.2 x hx).trans (q2 x hx)⟩
    have e1 := q3 m hm
    have e2 : bN w = y4 := z2
    rcases Int.lt_or_eq_of_le e1 with y | y
    · left; omega
    · right; exact ⟨by omega, w3 m hm y.symm⟩
  · omega
  · rw [eM]
    exact ⟨rfl, by omega, fun _ _ => rfl, fun m hm => bN_1 (by have := hlt m hm; omega) hm.1⟩
