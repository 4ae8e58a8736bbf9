/-! plans: all orders, the best of them -/
abbrev St : Type := Int × Int × Int × Rw
abbrev Bt : Type := Int × Int × Int × Int × Rw
def fm {α : Type} (F : Nat → List α) : Nat → List α
  | 0 => []
  | n + 1 => fm F n ++ F n
theorem fm_s {α : Type} (F : Nat → List α) (n : Nat) : fm F (n + 1) = fm F n ++ F n := rfl
theorem fm_len {α : Type} (F : Nat → List α) {i : Nat} : ∀ {k : Nat}, i ≤ k → (fm F i).length ≤ (fm F k).length
  | 0, h => by rw [Nat.le_zero.1 h]; exact Nat.le_refl _
  | k + 1, h => by
    rcases Nat.lt_or_eq_of_le h with z | z
    · rw [fm_s, List.length_append]
      have := fm_len F (i := i) (k := k) (by omega)
      omega
    · rw [z]; exact Nat.le_refl _
def ords : Nat → Nat → List (List Nat)
  | 0, _ => [[]]
  | n + 1, m => if m = 0 then [[]] else fm (fun p => if m.testBit p = true then (ords n (m - 2 ^ p)).map (fun o => p :: o) else []) 5
def cntB (m : Nat) : Nat := ((List.range 5).filter (fun p => m.testBit p)).length
theorem cntB_0 {m : Nat} (h : m < 32) (hc : cntB m ≤ 0) : m = 0 := (show ∀ m : Fin 32, cntB m.val ≤ 0 → m.val = 0 by decide +kernel) ⟨m, h⟩ hc
theorem cntB_s {m p n : Nat} (h : m < 32) (hp : p < 5) (hb : m.testBit p = true) (hc : cntB m ≤ n + 1) : cntB (m - 2 ^ p) ≤ n ∧ m - 2 ^ p < 32 ∧ 2 ^ p ≤ m ∧ ∀ q, (m - 2 ^ p).testBit q = (m.testBit q && !decide (q = p)) := by
  have h1 := (show ∀ m : Fin 32, ∀ p : Fin 5, m.val.testBit p.val = true → cntB (m.val - 2 ^ p.val) + 1 = cntB m.val ∧ 2 ^ p.val ≤ m.val by decide +kernel) ⟨m, h⟩ ⟨p, hp⟩ hb
  dsimp only at h1
  have hlt : m - 2 ^ p < 32 := Nat.lt_of_le_of_lt (Nat.sub_le _ _) h
  refine ⟨by omega, hlt, h1.2, fun q => ?_⟩
  by_cases hq : q < 5
  · exact (show ∀ m : Fin 32, ∀ p : Fin 5, ∀ q : Fin 5, m.val.testBit p.val = true → (m.val - 2 ^ p.val).testBit q.val = (m.val.testBit q.val && !decide (q.val = p.val)) by decide +kernel) ⟨m, h⟩ ⟨p, hp⟩ ⟨q, hq⟩ hb
  · have e : (2:Nat) ^ 5 ≤ 2 ^ q := Nat.pow_le_pow_right (by decide) (by omega)
    rw [Nat.testBit_lt_two_pow (Nat.lt_of_lt_of_le hlt e), Nat.testBit_lt_two_pow (Nat.lt_of_lt_of_le h e)]; rfl
theorem tb5 {m q : Nat} (h : m < 32) (hb : m.testBit q = true) : q < 5 := by
  apply Classical.byContradiction; intro hq
  have e : (2:Nat) ^ 5 ≤ 2 ^ q := Nat.pow_le_pow_right (by decide) (by omega)
  rw [Nat.testBit_lt_two_pow (Nat.lt_of_lt_of_le h e)] at hb
  exact absurd hb (by decide)
def nxS (a : Rw) (c p : Nat) (st : St) : St := (lsA a c p st.1 st.2.1 st.2.2.1, lsA a c p st.1 st.2.1 st.2.2.1 + tm a c p, (if lsA a c p st.1 st.2.1 st.2.2.1 < 20 then st.2.2.1 + tm a c p else st.2.2.1), up st.2.2.2 p (lsA a c p st.1 st.2.1 st.2.2.1))
def pf (a : Rw) (c : Nat) : List Nat → St → Option St
  | [], st => some st
  | p :: ps, st => if lsA a c p st.1 st.2.1 st.2.2.1 < 0 then none else pf a c ps (nxS a c p st)
def sNl (a : Rw) (c m l : Nat) (g : Rw) (t : Nat) : Bool := an (fun p => (m.testBit p && !l.testBit p) && (decide (g p ≤ (t : Int)) && decide ((t : Int) < g p + tm a c p))) 5
def dNl (a : Rw) (m l : Nat) (g : Rw) (t : Nat) : Bool := an (fun p => (m.testBit p && !l.testBit p) && (decide (a (6 + p) ≤ (t : Int)) && decide ((t : Int) < g p))) 5
def kN (a : Rw) (c m : Nat) (g : Rw) (t : Nat) : Bool := dNl a m 0 g t && !sNl a c m 0 g t
def ngN (g : Rw) : Int := cn (fun p => decide (20 ≤ g p)) 5
def bet (n k e : Int) (b : Bt) : Bool := decide (b.1 = 0) || (decide (n < b.2.1) || (decide (n = b.2.1) && (decide (k < b.2.2.1) || (decide (k = b.2.2.1) && decide (e < b.2.2.2.1)))))
def wgB (a : Rw) (c m : Nat) (b : Bt) (e : Int) (g : Rw) : Bt := if bet (ngN g) (cn (kN a c m g) 30) e b = true then (b.1 + 1, ngN g, cn (kN a c m g) 30, e, g) else (b.1 + 1, b.2)
def stp (a : Rw) (c m : Nat) (st : St) (b : Bt) (o : List Nat) : Bt := match pf a c o st with
  | none => b
  | some q => wgB a c m b q.2.1 q.2.2.2
theorem stp_nil (a : Rw) (c m : Nat) (st : St) (b : Bt) : stp a c m st b [] = wgB a c m b st.2.1 st.2.2.2 := rfl
theorem stp_cons (a : Rw) (c m : Nat) (st : St) (b : Bt) (p : Nat) (o : List Nat) : stp a c m st b (p :: o) = if lsA a c p st.1 st.2.1 st.2.2.1 < 0 then b else stp a c m (nxS a c p st) b o := by
  unfold stp
  rw [pf]
  by_cases h : lsA a c p st.1 st.2.1 st.2.2.1 < 0
  · rw [if_pos h, if_pos h]
  · rw [if_neg h, if_neg h]
theorem wgB_1 (a : Rw) (c m : Nat) (b : Bt) (e : Int) (g : Rw) : (wgB a c m b e g).1 = b.1 + 1 := by
  unfold wgB; split <;> rfl
theorem stp_w (a : Rw) (c m : Nat) (st : St) (b : Bt) (o : List Nat) : b.1 ≤ (stp a c m st b o).1 ∧ (stp a c m st b o).1 ≤ b.1 + 1 := by
  unfold stp
  split
  · omega
  · rw [wgB_1]; omega
theorem fold_w (a : Rw) (c m : Nat) (st : St) : ∀ (L : List (List Nat)) (b : Bt), b.1 ≤ (L.foldl (stp a c m st) b).1 ∧ (L.foldl (stp a c m st) b).1 ≤ b.1 + L.length
  | [], b => by simp
  | o :: L, b => by
    have h1 := stp_w a c m st b o
    have h2 := fold_w a c m st L (stp a c m st b o)
    rw [List.foldl_cons, List.length_cons]
    omega
theorem fold_cons (a : Rw) (c m : Nat) (st : St) (p : Nat) (L : List (List Nat)) (b : Bt) : (L.map (fun o => p :: o)).foldl (stp a c m st) b = if lsA a c p st.1 st.2.1 st.2.2.1 < 0 then b else L.foldl (stp a c m (nxS a c p st)) b := by
  rw [List.foldl_map]
  by_cases h : lsA a c p st.1 st.2.1 st.2.2.1 < 0
  · rw [if_pos h]
    have : (fun b o => stp a c m st b (p :: o)) = (fun (b : Bt) (_ : List Nat) => b) := by funext b o; rw [stp_cons, if_pos h]
    rw [this]
    induction L generalizing b with
    | nil => rfl
    | cons o L ih => exact ih b
  · rw [if_neg h]
    have : (fun b o => stp a c m st b (p :: o)) = stp a c m (nxS a c p st) := by funext b o; rw [stp_cons, if_neg h]
    rw [this]
/-- the planner is prepared; what it holds is the best so far -/
def PR (s : mSt) (a : Rw) (c m : Nat) : Prop := s 44 4 = a 2 ∧ s 44 5 = a (129 + c) ∧ ∀ p, p < 5 → m.testBit p = true → s 45 p = a (6 + p) ∧ s 46 p = tm a c p ∧ s 47 p = os (ftA a c p) 30
def PB (s : mSt) (a : Rw) (c m : Nat) (b : Bt) : Prop := s 44 6 = b.1 ∧ 0 ≤ b.1 ∧ (b.1 ≠ 0 → (s 44 7 = b.2.1 ∧ s 44 8 = os (kN a c m b.2.2.2.2) 30 ∧ s 44 9 = os (sNl a c m 0 b.2.2.2.2) 30 ∧ s 44 10 = b.2.2.2.1 ∧ s 44 12 = (b.2.1 * 100 + b.2.2.1) * 100 + b.2.2.2.1 ∧ (∀ p, p < 5 → s 49 p = b.2.2.2.2 p)) ∧
  (0 ≤ b.2.2.2.1 ∧ b.2.2.2.1 ≤ 30) ∧ b.2.2.1 = cn (kN a c m b.2.2.2.2) 30 ∧ b.2.1 = ngN b.2.2.2.2)
def FP (a : Rw) (c m n l : Nat) (st : St) (b : Bt) (en wk si ow : Int) (s : mSt) : Prop :=
  PR s a c m ∧ PB s a c m b ∧ (l < 32 ∧ cntB l ≤ n ∧ ∀ p, l.testBit p = true → m.testBit p = true) ∧
  ((st.1 = -1 ∧ en = -1 ∧ ¬ l = 0) ∨ (0 ≤ st.1 ∧ en = st.2.1 ∧ (0 ≤ en ∧ en ≤ 30) ∧ (st.1 < 20 ↔ en ≤ 20))) ∧
  (wk = st.2.2.1 ∧ 0 ≤ wk ∧ wk + 12 * n ≤ 60) ∧
  ((∀ p, p < 5 → l.testBit p = false → s 48 p = st.2.2.2 p) ∧ (∀ p, l.testBit p = true → st.2.2.2 p = -1)) ∧
  (si = os (sNl a c m l st.2.2.2) 30 ∧ ow = os (dNl a m l st.2.2.2) 30) ∧ b.1 + (ords n l).length ≤ 1000
def FR (a : Rw) (c m n l : Nat) (st : St) (b : Bt) (s t : mSt) : Prop := PR t a c m ∧ PB t a c m ((ords n l).foldl (stp a c m st) b) ∧ (∀ p, p < 5 → l.testBit p = false → t 48 p = s 48 p) ∧ (∀ x, x ≠ 44 → x ≠ 48 → x ≠ 49 → t x = s x)
theorem ng_bd (g : Rw) : 0 ≤ ngN g ∧ ngN g ≤ 5 := cn_le
theorem PR_cell {s t : mSt} {a : Rw} {c m : Nat} (h : PR s a c m) (h4 : t 44 4 = s 44 4) (h5 : t 44 5 = s 44 5) (h6 : t 45 = s 45) (h7 : t 46 = s 46) (h8 : t 47 = s 47) : PR t a c m := by
  unfold PR at h ⊢
  rw [h4, h5, h6, h7, h8]; exact h
theorem fol_leaf {a : Rw} {c m n : Nat} {st : St} {b : Bt} {en wk si ow : Int} {s t : mSt} (h : FP a c m n 0 st b en wk si ow s)
    (hk : iAnd ow (iXor si (-1)) = os (kN a c m st.2.2.2) 30)
    (h1 : (s 44 6 = 0 ∨ wgV s en (iAnd ow (iXor si (-1))) < s 44 12) → t = cS (uS (uS (uS (uS (uS (uS s 44 6 (s 44 6 + 1)) 44 12 (wgV s en (iAnd ow (iXor si (-1))))) 44 7 (wgN s)) 44 8 (iAnd ow (iXor si (-1)))) 44 9 si) 44 10 en) 48 0 49 0 5)
    (h0 : ¬ (s 44 6 = 0 ∨ wgV s en (iAnd ow (iXor si (-1))) < s 44 12) → t = uS s 44 6 (s 44 6 + 1)) : FR a c m n 0 st b s t := by
  obtain ⟨hr, hb, hl, he, hw, ht, hs, hlen⟩ := h
  have he2 : 0 ≤ st.1 ∧ en = st.2.1 ∧ (0 ≤ en ∧ en ≤ 30) := by
    rcases he with z | z
    · exact absurd rfl z.2.2
    · exact ⟨z.1, z.2.1, z.2.2.1⟩
  have ho : ords n 0 = [[]] := by cases n <;> rfl
  have hz : ∀ p, (0:Nat).testBit p = false := fun p => Nat.zero_testBit p
  have en_ : wgN s = ngN st.2.2.2 := by
    unfold wgN ngN
    exact cn_congr (fun p hp => by rw [ht.1 p hp (hz p)])
  have ev : wgV s en (iAnd ow (iXor si (-1))) = (ngN st.2.2.2 * 100 + cn (kN a c m st.2.2.2) 30) * 100 + en := by
    unfold wgV
    rw [hk, en_, cn_os (by decide)]
  rw [ev] at h1 h0
  have bn := ng_bd st.2.2.2
  have bk := cn_le (f := kN a c m st.2.2.2) (n := 30)
  have hbet : (s 44 6 = 0 ∨ (ngN st.2.2.2 * 100 + cn (kN a c m st.2.2.2) 30) * 100 + en < s 44 12) ↔ bet (ngN st.2.2.2) (cn (kN a c m st.2.2.2) 30) en b = true := by
    unfold bet
    rw [hb.1]
    by_cases z : b.1 = 0
    · simp [z]
    · have w := hb.2.2 z
      have w1 := w.1.2.2.2.2.1
      have w2 := w.2.1
      have w3 := cn_le (f := kN a c m b.2.2.2.2) (n := 30)
      rw [← w.2.2.1] at w3
      have w4 := ng_bd b.2.2.2.2
      rw [← w.2.2.2] at w4
      rw [w1]
      simp [z]
      omega
  unfold FR
  rw [ho]
  simp only [List.foldl_cons, List.foldl_nil, stp_nil]
  unfold wgB
  rw [← he2.2.1]
  by_cases q : s 44 6 = 0 ∨ (ngN st.2.2.2 * 100 + cn (kN a c m st.2.2.2) 30) * 100 + en < s 44 12
  · rw [if_pos (hbet.1 q)]
    have et := h1 q
    subst et
    refine ⟨PR_cell hr ?_ ?_ ?_ ?_ ?_, ⟨?_, ?_, fun _ => ⟨⟨?_, ?_, ?_, ?_, ?_, ?_⟩, he2.2.2, rfl, rfl⟩⟩, ?_, ?_⟩
    · rw [cS_cell (by decide)]; simp [uS_at]
    · rw [cS_cell (by decide)]; simp [uS_at]
    · rw [cS_cell (by decide), uS_cell (by decide), uS_cell (by decide), uS_cell (by decide), uS_cell (by decide), uS_cell (by decide), uS_cell (by decide)]
    · rw [cS_cell (by decide), uS_cell (by decide), uS_cell (by decide), uS_cell (by decide), uS_cell (by decide), uS_cell (by decide), uS_cell (by decide)]
    · rw [cS_cell (by decide), uS_cell (by decide), uS_cell (by decide), uS_cell (by decide), uS_cell (by decide), uS_cell (by decide), uS_cell (by decide)]
    · rw [cS_cell (by decide)]; simp [uS_at]; exact hb.1
    · have := hb.2.1; dsimp only; omega
    · rw [cS_cell (by decide)]; simp [uS_at]; exact en_
    · rw [cS_cell (by decide)]; simp [uS_at]; exact hk
    · rw [cS_cell (by decide)]; simp [uS_at]; exact hs.1
    · rw [cS_cell (by decide)]; simp [uS_at]
    · rw [cS_cell (by decide)]; simp [uS_at]
    · intro p hp
      rw [cS_at, if_pos (by omega), uS_cell (by decide), uS_cell (by decide), uS_cell (by decide), uS_cell (by decide), uS_cell (by decide), uS_cell (by decide), Nat.zero_add, Nat.sub_zero]
      exact ht.1 p hp (hz p)
    · intro p hp _
      rw [cS_cell (by decide), uS_cell (by decide), uS_cell (by decide), uS_cell (by decide), uS_cell (by decide), uS_cell (by decide), uS_cell (by decide)]
    · intro x hx1 hx2 hx3
      rw [cS_cell hx3, uS_cell hx1, uS_cell hx1, uS_cell hx1, uS_cell hx1, uS_cell hx1, uS_cell hx1]
  · rw [if_neg (fun z => q (hbet.2 z))]
    have et := h0 q
    subst et
    have hne : ¬ b.1 = 0 := fun z => q (Or.inl (by rw [hb.1]; exact z))
    have w := hb.2.2 hne
    refine ⟨PR_cell hr ?_ ?_ ?_ ?_ ?_, ⟨?_, ?_, fun _ => ⟨⟨?_, ?_, ?_, ?_, ?_, ?_⟩, w.2⟩⟩, ?_, ?_⟩
    · simp [uS_at]
    · simp [uS_at]
    · rw [uS_cell (by decide)]
    · rw [uS_cell (by decide)]
    · rw [uS_cell (by decide)]
    · simp [uS_at]; exact hb.1
    · have := hb.2.1; dsimp only; omega
    · simp [uS_at]; exact w.1.1
    · simp [uS_at]; exact w.1.2.1
    · simp [uS_at]; exact w.1.2.2.1
    · simp [uS_at]; exact w.1.2.2.2.1
    · simp [uS_at]; exact w.1.2.2.2.2.1
    · intro p hp
      rw [uS_cell (by decide)]; exact w.1.2.2.2.2.2 p hp
    · intro p hp _
      rw [uS_cell (by decide)]
    · intro x hx1 hx2 hx3
      rw [uS_cell hx1]
theorem kp_bits {a : Rw} {c m : Nat} {g : Rw} : iAnd (os (dNl a m 0 g) 30) (iXor (os (sNl a c m 0 g) 30) (-1)) = os (kN a c m g) 30 := by
  have b := os_30 (f := kN a c m g) (n := 30) (by decide)
  apply bq_ext (i3_and _ _) (by unfold i3; omega)
  intro i hi
  rw [bq_and, bq_not, os_bq (by decide), os_bq (by decide), os_bq (by decide)]
  unfold kN
  by_cases q : i < 30
  · simp [q, hi]
  · simp [q]
theorem an_up {f f' : Nat → Bool} {h : Bool} {j : Nat} : ∀ {n : Nat}, j < n → f j = false → f' j = h → (∀ p, p ≠ j → f' p = f p) → an f' n = (an f n || h)
  | 0, h1, _, _, _ => absurd h1 (by omega)
  | n + 1, h1, h2, h3, h4 => by
    rw [an_s, an_s]
    by_cases e : j = n
    · subst e
      rw [h2, h3, an_congr (n := j) (fun p hp => h4 p (by omega))]; simp
    · rw [an_up (n := n) (by omega) h2 h3 h4, h4 n (by omega)]
      cases an f n <;> cases h <;> cases f n <;> rfl
/-- what the class tests of a slot is what the text asks -/
theorem lsB_okA {a : Rw} {c m : Nat} {s : mSt} {ah en0 hr en : Int} {p t : Nat} (hr1 : PR s a c m) (hp : p < 5) (hm : m.testBit p = true) (hR : 0 ≤ a (129 + c)) (ht : t < 30)
    (he : (ah = -1 ∧ en = -1) ∨ (0 ≤ ah ∧ en = en0 ∧ (0 ≤ en ∧ en ≤ 30) ∧ (ah < 20 ↔ en ≤ 20))) : lsB s p en hr t = okA a c p ah en0 hr t := by
  obtain ⟨e1, e2, e3⟩ := hr1
  obtain ⟨e4, e5, e6⟩ := e3 p hp hm
  unfold lsB okA
  rw [e1, e2, e5, e6, os_bq (by decide)]
  simp only [ht, decide_true, Bool.true_and]
  congr 1
  rw [Bool.eq_iff_iff]
  simp only [Bool.and_eq_true, Bool.or_eq_true, Bool.not_eq_true', Bool.and_eq_false_iff, decide_eq_true_iff, decide_eq_false_iff_not]
  rcases he with ⟨z1, z2⟩ | ⟨z1, z2, z3, z4⟩
  · omega
  · unfold dyo
    by_cases w1 : ah < 20 <;> by_cases w2 : (t : Int) < 20 <;> simp only [w1, w2, if_true, if_false] <;> simp <;> omega
