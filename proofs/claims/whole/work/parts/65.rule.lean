/-! rules reckoned: the reference -/
def psh (l : List Int) : Nat := (l.filter (fun x => decide (ik x ≤ 1))).length
def seg (sg : Rw) (o n : Nat) : List Int := (List.range n).map (fun i => sg (o + i))
theorem seg_s (sg : Rw) (o n : Nat) : seg sg o (n + 1) = seg sg o n ++ [sg (o + n)] := by unfold seg; rw [List.range_succ, List.map_append]; rfl
/-- a run of items is lawful and leaves one value, of a kind -/
def WS (sg : Rw) (o n : Nat) (b : Bool) : Prop := tyL (seg sg o n) [] = some [b] ∧ psh (seg sg o n) ≤ 60
def evP (fa sg : Rw) (o : Nat) : Nat → Nat × Rw
  | 0 => (0, fun _ => 0)
  | j + 1 => (evN (sg (o + j)) (evP fa sg o j).1, evF fa (sg (o + j)) (evP fa sg o j).1 (evP fa sg o j).2)
def evV (fa sg : Rw) (o n : Nat) : Int := (evP fa sg o n).2 0
theorem tyS_inv {x : Int} {st q : List Bool} (h : tyS x st = some q) : (ik x ≤ 1 ∧ (0 ≤ x ∧ x < 1600000) ∧ (ik x = 1 → iv x < 11) ∧ q = false :: st) ∨ (x = 11 ∧ ∃ r, st = true :: r ∧ q = true :: r) ∨ ((x = 12 ∨ x = 13) ∧ ∃ r, st = true :: true :: r ∧ q = true :: r) ∨
    ((x = 2 ∨ x = 3 ∨ x = 4 ∨ x = 5 ∨ x = 14) ∧ ∃ r, st = false :: false :: r ∧ q = false :: r) ∨ ((6 ≤ x ∧ x ≤ 10) ∧ ∃ r, st = false :: false :: r ∧ q = true :: r) := by
  unfold tyS at h
  by_cases h1 : ik x ≤ 1
  · rw [if_pos h1] at h
    by_cases h2 : 0 ≤ x ∧ x < 1600000 ∧ (ik x = 1 → iv x < 11)
    · rw [if_pos h2] at h
      left; exact ⟨h1, ⟨h2.1, h2.2.1⟩, h2.2.2, (Option.some.inj h).symm⟩
    · rw [if_neg h2] at h; exact absurd h (by simp)
  · rw [if_neg h1] at h
    right
    match st, h with
    | [], h => exact absurd h (by simp)
    | [false], h => exact absurd h (by simp)
    | true :: r, h =>
      dsimp only at h
      by_cases h2 : ik x = 11 ∧ x = 11
      · rw [if_pos h2] at h
        left; exact ⟨h2.2, r, rfl, (Option.some.inj h).symm⟩
      · rw [if_neg h2] at h
        match r, h with
        | [], h => exact absurd h (by simp)
        | false :: r', h => exact absurd h (by simp)
        | true :: r', h =>
          dsimp only at h
          by_cases h3 : (ik x = 12 ∧ x = 12) ∨ (ik x = 13 ∧ x = 13)
          · rw [if_pos h3] at h
            right; left; exact ⟨by omega, r', rfl, (Option.some.inj h).symm⟩
          · rw [if_neg h3] at h; exact absurd h (by simp)
    | false :: true :: r, h => exact absurd h (by simp)
    | false :: false :: r, h =>
      dsimp only at h
      by_cases h2 : x = 2 ∨ x = 3 ∨ x = 4 ∨ x = 5 ∨ x = 14
      · rw [if_pos h2] at h
        right; right; left; exact ⟨h2, r, rfl, (Option.some.inj h).symm⟩
      · rw [if_neg h2] at h
        by_cases h3 : 6 ≤ x ∧ x ≤ 10
        · rw [if_pos h3] at h
          right; right; right; exact ⟨h3, r, rfl, (Option.some.inj h).symm⟩
        · rw [if_neg h3] at h; exact absurd h (by simp)
theorem ik_s {x : Int} (h : 0 ≤ x ∧ x < 16) : ik x = x := by unfold ik; omega
theorem tyL_len {l : List Int} : ∀ {st q : List Bool}, tyL l st = some q → q.length ≤ st.length + psh l := by
  induction l with
  | nil => intro st q h; simp only [tyL, Option.some.injEq] at h; subst h; simp [psh]
  | cons x l ih =>
    intro st q h
    rw [tyL] at h
    cases hx : tyS x st with
    | none => rw [hx] at h; exact absurd h (by simp)
    | some r =>
      rw [hx] at h
      dsimp only at h
      have h2 := ih h
      have e : psh (x :: l) = (if ik x ≤ 1 then 1 else 0) + psh l := by
        unfold psh
        by_cases z : ik x ≤ 1
        · rw [List.filter_cons_of_pos (by simpa using z), if_pos z, List.length_cons]; omega
        · rw [List.filter_cons_of_neg (by simpa using z), if_neg z]; omega
      rw [e]
      rcases tyS_inv hx with ⟨i1, _, _, rfl⟩ | ⟨_, r', rfl, rfl⟩ | ⟨_, r', rfl, rfl⟩ | ⟨_, r', rfl, rfl⟩ | ⟨_, r', rfl, rfl⟩
      · rw [if_pos i1]; simp only [List.length_cons] at h2 ⊢; omega
      all_goals (simp only [List.length_cons] at h2 ⊢; omega)
theorem psh_app (l l' : List Int) : psh (l ++ l') = psh l + psh l' := by unfold psh; rw [List.filter_append, List.length_append]
/-- all along a lawful run -/
theorem WS_at {fa sg : Rw} {o n : Nat} {b : Bool} (h : WS sg o n b) : ∀ {j : Nat}, j ≤ n → ∃ st, tyL (seg sg o j) [] = some st ∧ st.length = (evP fa sg o j).1 ∧ st.length ≤ 60 ∧ (∀ d, d < st.length → st.getD d false = true → (evP fa sg o j).2 (st.length - 1 - d) = 0 ∨ (evP fa sg o j).2 (st.length - 1 - d) = 1)
  | 0, _ => ⟨[], rfl, rfl, by simp, fun d hd => absurd hd (by simp)⟩
  | j + 1, hj => by
    obtain ⟨st, h1, h2, h3, h4⟩ := WS_at (fa := fa) h (j := j) (by omega)
    have hall : ∀ m, j + 1 ≤ m → m ≤ n → tyL (seg sg o (j + 1)) [] ≠ none ∧ psh (seg sg o (j + 1)) ≤ 60 := fun m hm1 hm2 => by
      have key : ∀ k, j + 1 ≤ n - k → tyL (seg sg o (n - k)) [] ≠ none ∧ psh (seg sg o (n - k)) ≤ 60 := fun k => by
        induction k with
        | zero => intro _; exact ⟨by rw [Nat.sub_zero, h.1]; simp, by rw [Nat.sub_zero]; exact h.2⟩
        | succ k ih =>
          intro hk
          have i := ih (by omega)
          rw [show n - k = (n - (k + 1)) + 1 by omega, seg_s, tyL_app, psh_app] at i
          refine ⟨fun z => i.1 (by rw [z]), by omega⟩
      have := key (n - (j + 1)) (by omega)
      rw [show n - (n - (j + 1)) = j + 1 by omega] at this
      exact this
    have hh := hall (j + 1) (by omega) hj
    have happ := tyL_app (seg sg o j) [sg (o + j)] []
    rw [← seg_s, h1] at happ
    dsimp only at happ
    rw [tyL] at happ
    cases hx : tyS (sg (o + j)) st with
    | none => rw [hx] at happ; exact absurd happ hh.1
    | some q =>
      rw [hx] at happ
      dsimp only at happ
      rw [tyL] at happ
      have hl := tyL_len happ
      refine ⟨q, happ, ?_, by simp only [List.length_nil] at hl; omega, ?_⟩
      · rw [evP]
        dsimp only
        rw [← h2]
        unfold evN
        rcases tyS_inv hx with ⟨i1, _, _, rfl⟩ | ⟨i1, r', rfl, rfl⟩ | ⟨i1, r', rfl, rfl⟩ | ⟨i1, r', rfl, rfl⟩ | ⟨i1, r', rfl, rfl⟩
        · rw [if_pos i1]; rfl
        · rw [i1, if_neg (by decide), if_pos (by decide)]
        · rw [if_neg (by rw [ik_s (by omega)]; omega), if_neg (by rw [ik_s (by omega)]; omega)]; simp
        · rw [if_neg (by rw [ik_s (by omega)]; omega), if_neg (by rw [ik_s (by omega)]; omega)]; simp
        · rw [if_neg (by rw [ik_s (by omega)]; omega), if_neg (by rw [ik_s (by omega)]; omega)]; simp
      · intro d hd hb
        rw [evP]
        dsimp only
        rw [← h2]
        unfold evF
        have lo : lAnd 0 0 = 0 ∧ lAnd 0 1 = 0 ∧ lAnd 1 0 = 0 ∧ lAnd 1 1 = 1 ∧ lOr 0 0 = 0 ∧ lOr 0 1 = 1 ∧ lOr 1 0 = 1 ∧ lOr 1 1 = 1 ∧ w64 (1 - 0) = 1 ∧ w64 (1 - 1) = 0 := by decide +kernel
        rcases tyS_inv hx with ⟨i1, i2, _, rfl⟩ | ⟨i1, r', rfl, rfl⟩ | ⟨i1, r', rfl, rfl⟩ | ⟨i1, r', rfl, rfl⟩ | ⟨i1, r', rfl, rfl⟩
        · have hd0 : d ≠ 0 := fun z => by subst z; simp at hb
          obtain ⟨e, rfl⟩ : ∃ e, d = e + 1 := ⟨d - 1, by omega⟩
          simp only [List.length_cons, List.getD_cons_succ] at hd hb ⊢
          have := h4 e (by omega) hb
          rw [show st.length + 1 - 1 - (e + 1) = st.length - 1 - e by omega]
          have i0 : ik (sg (o + j)) = 0 ∨ ik (sg (o + j)) = 1 := by unfold ik at i1 ⊢; omega
          rcases i0 with z | z
          · rw [if_pos z, up_ne (by omega)]; exact this
          · rw [if_neg (by omega), if_pos z, up_ne (by omega)]; exact this
        · rw [i1, if_neg (by decide), if_neg (by decide), if_pos (by decide)]
          simp only [List.length_cons] at hd h4 ⊢
          by_cases hd0 : d = 0
          · subst hd0
            have := h4 0 (by omega) rfl
            rw [show r'.length + 1 - 1 - 0 = r'.length + 1 - 1 by omega] at this ⊢
            rw [up_at]
            rcases this with z | z
            · rw [z]; exact Or.inr lo.2.2.2.2.2.2.2.2.1
            · rw [z]; exact Or.inl lo.2.2.2.2.2.2.2.2.2
          · rw [up_ne (by omega)]
            exact h4 d hd hb
        · have e1 : ik (sg (o + j)) = 12 ∨ ik (sg (o + j)) = 13 := by rw [ik_s (by omega)]; exact i1
          rw [if_neg (by omega), if_neg (by omega), if_neg (by omega)]
          simp only [List.length_cons] at hd h4 ⊢
          by_cases hd0 : d = 0
          · subst hd0
            have a0 := h4 0 (by omega) rfl
            have a1 := h4 1 (by omega) rfl
            rw [show r'.length + 1 + 1 - 1 - 0 = r'.length + 1 + 1 - 1 by omega] at a0
            rw [show r'.length + 1 + 1 - 1 - 1 = r'.length + 1 + 1 - 2 by omega] at a1
            rw [show r'.length + 1 - 1 - 0 = r'.length + 1 + 1 - 2 by omega, up_at]
            obtain ⟨l1, l2, l3, l4, l5, l6, l7, l8, _⟩ := lo
            unfold opA
            rcases e1 with z | z
            · rw [z]
              simp only [show ¬ (12 : Int) = 2 by decide, show ¬ (12 : Int) = 3 by decide, show ¬ (12 : Int) = 4 by decide, show ¬ (12 : Int) = 5 by decide, show ¬ (12 : Int) = 14 by decide, show ¬ (12 : Int) = 6 by decide, show ¬ (12 : Int) = 7 by decide, show ¬ (12 : Int) = 8 by decide, show ¬ (12 : Int) = 9 by decide, show ¬ (12 : Int) = 10 by decide, if_true, if_false]
              rcases a0 with w | w <;> rcases a1 with v | v <;> rw [w, v] <;> simp only [l1, l2, l3, l4] <;> simp
            · rw [z]
              simp only [show ¬ (13 : Int) = 2 by decide, show ¬ (13 : Int) = 3 by decide, show ¬ (13 : Int) = 4 by decide, show ¬ (13 : Int) = 5 by decide, show ¬ (13 : Int) = 14 by decide, show ¬ (13 : Int) = 6 by decide, show ¬ (13 : Int) = 7 by decide, show ¬ (13 : Int) = 8 by decide, show ¬ (13 : Int) = 9 by decide, show ¬ (13 : Int) = 10 by decide, show ¬ (13 : Int) = 12 by decide, if_false]
              rcases a0 with w | w <;> rcases a1 with v | v <;> rw [w, v] <;> simp only [l5, l6, l7, l8] <;> simp
          · rw [up_ne (by omega)]
            obtain ⟨e, rfl⟩ : ∃ e, d = e + 1 := ⟨d - 1, by omega⟩
            have := h4 (e + 2) (by omega) (by simpa using hb)
            rw [show r'.length + 1 + 1 - 1 - (e + 2) = r'.length + 1 - 1 - (e + 1) by omega] at this
            exact this
        · have e1 : ik (sg (o + j)) = sg (o + j) := ik_s (by omega)
          rw [if_neg (by omega), if_neg (by omega), if_neg (by omega)]
          simp only [List.length_cons] at hd h4 ⊢
          have hd0 : d ≠ 0 := fun z => by subst z; simp at hb
          rw [up_ne (by omega)]
          obtain ⟨e, rfl⟩ : ∃ e, d = e + 1 := ⟨d - 1, by omega⟩
          have := h4 (e + 2) (by omega) (by simpa using hb)
          rw [show r'.length + 1 + 1 - 1 - (e + 2) = r'.length + 1 - 1 - (e + 1) by omega] at this
          exact this
        · have e1 : ik (sg (o + j)) = sg (o + j) := ik_s (by omega)
          rw [if_neg (by omega), if_neg (by omega), if_neg (by omega)]
          simp only [List.length_cons] at hd h4 ⊢
          by_cases hd0 : d = 0
          · subst hd0
            rw [show r'.length + 1 - 1 - 0 = r'.length + 1 + 1 - 2 by omega, up_at]
            have i01 : ∀ (P : Prop) [Decidable P], ((if P then (1:Int) else 0) = 0 ∨ (if P then (1:Int) else 0) = 1) := fun P _ => by split <;> simp
            rw [e1]
            unfold opA
            have hx5 : sg (o + j) = 6 ∨ sg (o + j) = 7 ∨ sg (o + j) = 8 ∨ sg (o + j) = 9 ∨ sg (o + j) = 10 := by omega
            rcases hx5 with z | z | z | z | z <;> rw [z] <;> simp <;> omega
          · rw [up_ne (by omega)]
            obtain ⟨e, rfl⟩ : ∃ e, d = e + 1 := ⟨d - 1, by omega⟩
            have := h4 (e + 2) (by omega) (by simpa using hb)
            rw [show r'.length + 1 + 1 - 1 - (e + 2) = r'.length + 1 - 1 - (e + 1) by omega] at this
            exact this
theorem WS_01 {fa sg : Rw} {o n : Nat} (h : WS sg o n true) : evV fa sg o n = 0 ∨ evV fa sg o n = 1 := by
  obtain ⟨st, h1, h2, h3, h4⟩ := WS_at (fa := fa) h (Nat.le_refl n)
  rw [h.1] at h1
  have : st = [true] := (Option.some.inj h1).symm
  subst this
  exact h4 0 (by simp) rfl
theorem WS_step {fa sg : Rw} {o n : Nat} {b : Bool} (h : WS sg o n b) {j : Nat} (hj : j < n) : (evP fa sg o j).1 ≤ 60 ∧ ((ik (sg (o + j)) ≤ 1 ∧ (0 ≤ sg (o + j) ∧ sg (o + j) < 1600000) ∧ (ik (sg (o + j)) = 1 → iv (sg (o + j)) < 11) ∧ (evP fa sg o j).1 < 60) ∨ (sg (o + j) = 11 ∧ 1 ≤ (evP fa sg o j).1) ∨ ((2 ≤ sg (o + j) ∧ sg (o + j) ≤ 14 ∧ sg (o + j) ≠ 11) ∧ 2 ≤ (evP fa sg o j).1)) := by
  obtain ⟨st, h1, h2, h3, h4⟩ := WS_at (fa := fa) h (j := j) (by omega)
  obtain ⟨q, g1, g2, g3, g4⟩ := WS_at (fa := fa) h (j := j + 1) (by omega)
  rw [seg_s, tyL_app, h1] at g1
  dsimp only at g1
  rw [tyL] at g1
  cases hx : tyS (sg (o + j)) st with
  | none => rw [hx] at g1; exact absurd g1 (by simp)
  | some r =>
    rw [hx] at g1
    dsimp only at g1
    rw [tyL] at g1
    have e : r = q := Option.some.inj g1
    subst e
    refine ⟨by omega, ?_⟩
    rcases tyS_inv hx with ⟨i1, i2, i3, rfl⟩ | ⟨i1, r', rfl, rfl⟩ | ⟨i1, r', rfl, rfl⟩ | ⟨i1, r', rfl, rfl⟩ | ⟨i1, r', rfl, rfl⟩
    · left; refine ⟨i1, i2, i3, ?_⟩
      simp only [List.length_cons] at g3; omega
    · right; left; simp only [List.length_cons] at h2; omega
    · right; right; simp only [List.length_cons] at h2; omega
    · right; right; simp only [List.length_cons] at h2; omega
    · right; right; simp only [List.length_cons] at h2; omega
theorem WS_end {fa sg : Rw} {o n : Nat} {b : Bool} (h : WS sg o n b) : (evP fa sg o n).1 = 1 := by
  obtain ⟨st, h1, h2, h3, h4⟩ := WS_at (fa := fa) h (Nat.le_refl n)
  rw [h.1] at h1
  have : st = [b] := (Option.some.inj h1).symm
  subst this
  exact h2.symm
theorem and15 {x : Int} (h : 0 ≤ x ∧ x < 2147483648) : iAnd x 15 = ik x := by
  obtain ⟨n, rfl⟩ := nat_of h.1
  rw [show (15 : Int) = ((15 : Nat) : Int) from rfl, iAnd_nat (by omega) (by decide), show (15 : Nat) = 2 ^ 4 - 1 from rfl, Nat.and_two_pow_sub_one_eq_mod]
  unfold ik; omega
theorem shr4 {x : Int} (h : 0 ≤ x ∧ x < 2147483648) : iShr x 4 = (iv x : Int) := by
  obtain ⟨n, rfl⟩ := nat_of h.1
  have e : iv (n : Int) = n / 16 := by unfold iv; omega
  rw [e]
  apply bq_ext (i3_shr _ _) (by unfold i3; omega)
  intro i hi
  rw [bq_shr _ (by omega), bq_nat (n := n / 16) (by omega), show n / 16 = n / 2 ^ 4 from rfl, Nat.testBit_div_two_pow]
  by_cases z : i + 4 < 32
  · rw [if_pos (by simpa using z), bq_nat (by omega)]; simp [hi]
  · rw [if_neg (by simpa using z), bq_nat (by omega)]
    have a1 : n.testBit 31 = false := Nat.testBit_lt_two_pow (by omega)
    have a2 : n.testBit (i + 4) = false := Nat.testBit_lt_two_pow (Nat.lt_of_lt_of_le (show n < 2 ^ 31 by omega) (Nat.pow_le_pow_right (by decide) (by omega)))
    rw [a1, a2]; simp
theorem v208 {X : (Nat → Int) × Nat} {d : Nat} {s : mSt} {Q : mQ} {x1 : Int}
  (z1 : 0 ≤ (s 407 18) ∧ (s 407 18) < 64)
  (z2 : Q none (uS (uS s 415 ((s 407 18).toNat) x1) 407 18 (w32 (((uS s 415 ((s 407 18).toNat) x1) 407 18) + 1)))) :
  Sp X d 208 [mR 407, mJ x1] s Q := e208 (b208_0 z1 z2)

theorem c208 {X : (Nat → Int) × Nat} {d : Nat} {s : mSt} {Q : mQ} {x1 : Int} (p1 : 0 ≤ s 407 18 ∧ s 407 18 < 64) (k : Q none (uS (uS s 415 (s 407 18).toNat x1) 407 18 (s 407 18 + 1))) : Sp X d 208 [mR 407, mJ x1] s Q := by
  refine v208 p1 ?_
  rw [uS_cell (by decide), w32_of (by omega)]; exact k
theorem v209 {X : (Nat → Int) × Nat} {d : Nat} {s : mSt} {Q : mQ}
  (z1 : 0 ≤ ((uS s 407 18 (w32 ((s 407 18) - 1))) 407 18) ∧ ((uS s 407 18 (w32 ((s 407 18) - 1))) 407 18) < 64)
  (z2 : Q (some (mJ ((uS s 407 18 (w32 ((s 407 18) - 1))) 415 ((uS s 407 18 (w32 ((s 407 18) - 1))) 407 18).toNat))) (uS s 407 18 (w32 ((s 407 18) - 1)))) :
  Sp X d 209 [mR 407] s Q := e209 (b209_0 z1 z2)

theorem c209 {X : (Nat → Int) × Nat} {d : Nat} {s : mSt} {Q : mQ} (p1 : 0 < s 407 18 ∧ s 407 18 ≤ 64) (k : Q (some (mJ (s 415 (s 407 18 - 1).toNat))) (uS s 407 18 (s 407 18 - 1))) : Sp X d 209 [mR 407] s Q := by
  have e : w32 (s 407 18 - 1) = s 407 18 - 1 := w32_of (by omega)
  refine v209 ?_ ?_
  · rw [e, uS_at, if_pos rfl]; omega
  · rw [e, uS_at, if_pos rfl, uS_cell (by decide)]; exact k
theorem lCmp_ge (x y : Int) : 0 ≤ lCmp x y ↔ y ≤ x := by unfold lCmp; split <;> (try split) <;> omega
theorem lCmp_le (x y : Int) : lCmp x y ≤ 0 ↔ x ≤ y := by unfold lCmp; split <;> (try split) <;> omega
theorem v210 {X : (Nat → Int) × Nat} {d : Nat} {s : mSt} {Q : mQ} {x0 : Int} {x1 : Int} {x3 : Int}
  (z1 : x0 = 2 → Q (some (mJ (w64 (x1 + x3)))) s)
  (z2 : x0 = 3 → Q (some (mJ (w64 (x1 - x3)))) s)
  (z3 : x0 = 4 → Q (some (mJ (w64 (x1 * x3)))) s)
  (z4 : x0 = 5 → ¬ (lCmp x3 0) = 0 → x3 ≠ 0)
  (z5 : x0 = 5 → ¬ (lCmp x3 0) = 0 → Q (some (mJ (w64 (Int.tdiv x1 x3)))) s)
  (z6 : x0 = 5 → (lCmp x3 0) = 0 → Q (some (mJ 0)) s)
  (z7 : x0 = 6 → 0 ≤ (lCmp x1 x3) → Q (some (mJ 0)) s)
  (z8 : x0 = 6 → ¬ 0 ≤ (lCmp x1 x3) → Q (some (mJ 1)) s)
  (z9 : x0 = 7 → 0 < (lCmp x1 x3) → Q (some (mJ 0)) s)
  (z10 : x0 = 7 → ¬ 0 < (lCmp x1 x3) → Q (some (mJ 1)) s)
  (z11 : x0 = 8 → ¬ (lCmp x1 x3) = 0 → Q (some (mJ 0)) s)
  (z12 : x0 = 8 → (lCmp x1 x3) = 0 → Q (some (mJ 1)) s)
  (z13 : x0 = 9 → (lCmp x1 x3) < 0 → Q (some (mJ 0)) s)
  (z14 : x0 = 9 → ¬ (lCmp x1 x3) < 0 → Q (some (mJ 1)) s)
  (z15 : x0 = 10 → (lCmp x1 x3) ≤ 0 → Q (some (mJ 0)) s)
  (z16 : x0 = 10 → ¬ (lCmp x1 x3) ≤ 0 → Q (some (mJ 1)) s)
  (z17 : x0 = 11 → Q (some (mJ (lOr x1 x3))) s)
  (z18 : x0 = 12 → Q (some (mJ (lAnd x1 x3))) s)
  (z19 : x0 = 13 → Q (some (mJ (lOr x1 x3))) s)
  (z20 : x0 = 14 → ¬ (lCmp x3 0) = 0 → x3 ≠ 0)
  (z21 : x0 = 14 → ¬ (lCmp x3 0) = 0 → Q (some (mJ (Int.tmod x1 x3))) s)
  (z22 : x0 = 14 → (lCmp x3 0) = 0 → Q (some (mJ 0)) s)
  (z23 : ¬ x0 = 2 → ¬ x0 = 3 → ¬ x0 = 4 → ¬ x0 = 5 → ¬ x0 = 6 → ¬ x0 = 7 → ¬ x0 = 8 → ¬ x0 = 9 → ¬ x0 = 10 → ¬ x0 = 11 → ¬ x0 = 12 → ¬ x0 = 13 → ¬ x0 = 14 → Q (some (mJ (lOr x1 x3))) s) :
  Sp X d 210 [mI x0, mJ x1, mJ x3] s Q := e210 (b210_0 (fun q1 => b210_68 (z1 q1)) (fun q2 => b210_72 (z2 q2)) (fun q3 => b210_76 (z3 q3)) (fun q4 => b210_80 (fun q5 => b210_90 (z4 q4 q5) (b210_93 (z5 q4 q5))) (fun q6 => b210_86 (b210_93 (z6 q4 q6)))) (fun q7 => b210_108 (fun q8 => b210_118 (b210_119 (z7 q7 q8))) (fun q9 => b210_114 (b210_119 (z8 q7 q9)))) (fun q10 => b210_120 (fun q11 => b210_130 (b210_131 (z9 q10 q11))) (fun q12 => b210_126 (b210_131 (z10 q10 q12)))) (fun q13 => b210_132 (fun q14 => b210_142 (b210_143 (z11 q13 q14))) (fun q15 => b210_138 (b210_143 (z12 q13 q15)))) (fun q16 => b210_144 (fun q17 => b210_154 (b210_155 (z13 q16 q17))) (fun q18 => b210_150 (b210_155 (z14 q16 q18)))) (fun q19 => b210_156 (fun q20 => b210_166 (b210_167 (z15 q19 q20))) (fun q21 => b210_162 (b210_167 (z16 q19 q21)))) (fun q22 => b210_172 (z17 q22)) (fun q23 => b210_168 (z18 q23)) (fun q24 => b210_172 (z19 q24)) (fun q25 => b210_94 (fun q26 => b210_104 (z20 q25 q26) (b210_107 (z21 q25 q26))) (fun q27 => b210_100 (b210_107 (z22 q25 q27)))) (fun q28 q29 q30 q31 q32 q33 q34 q35 q36 q37 q38 q39 q40 => b210_172 (z23 q28 q29 q30 q31 q32 q33 q34 q35 q36 q37 q38 q39 q40)))

theorem c210 {X : (Nat → Int) × Nat} {d : Nat} {s : mSt} {Q : mQ} {x0 : Int} {x1 : Int} {x3 : Int} (p1 : 2 ≤ x0 ∧ x0 ≤ 14) (k : Q (some (mJ (opA x0 x1 x3))) s) : Sp X d 210 [mI x0, mJ x1, mJ x3] s Q := by
  unfold opA at k
  refine v210 ?_ ?_ ?_ ?_ ?_ ?_ ?_ ?_ ?_ ?_ ?_ ?_ ?_ ?_ ?_ ?_ ?_ ?_ ?_ ?_ ?_ ?_ ?_
  all_goals (try simp only [lCmp_eq, lCmp_ge, lCmp_gt, lCmp_lt, lCmp_le])
  all_goals intros
  all_goals first
    | assumption
    | (subst_vars; simp_all (config := { decide := true }); done)
    | (subst_vars; simp (config := { decide := true }) only [if_true, if_false] at k; first | (rw [if_pos (by omega)] at k; exact k) | (rw [if_neg (by omega)] at k; exact k))
    | (exfalso; omega)
def RKq (s : mSt) (x1 x2 x3 : Int) : Prop := (0 ≤ x1 ∧ x1 < 6) ∧ (0 ≤ x2 ∧ x2 ≤ x3 ∧ x3 ≤ 400) ∧ ∃ b, WS (s 409) (400 * x1.toNat + x2.toNat) (x3 - x2).toNat b
def fK (s t : mSt) : Prop := (∀ b, b ≠ 407 → b ≠ 415 → t b = s b) ∧ ∀ j, j ≠ 18 → t 407 j = s 407 j
theorem v211 {X : (Nat → Int) × Nat} {d : Nat} {s : mSt} {Q : mQ} {x1 : Int} {x2 : Int} {x3 : Int}
  (I8 : Int → mSt → Prop) (m8 : Int → mSt → Nat)
  (z1 : ∀ y4 : Int, ∀ s : mSt, I8 y4 s → x3 ≤ y4 → 0 < s 407 18 ∧ s 407 18 ≤ 64)
  (z2 : ∀ y4 : Int, ∀ s : mSt, I8 y4 s → x3 ≤ y4 → ∀ t2 : mSt, t2 = uS s 407 18 (s 407 18 - 1) → Q (some (mJ (s 415 (s 407 18 - 1).toNat))) t2)
  (z3 : ∀ y4 : Int, ∀ s : mSt, I8 y4 s → ¬ x3 ≤ y4 → 0 ≤ (w32 ((w32 (400 * x1)) + y4)) ∧ (w32 ((w32 (400 * x1)) + y4)) < 2400)
  (z4 : ∀ y4 : Int, ∀ s : mSt, I8 y4 s → ¬ x3 ≤ y4 → ¬ (iAnd (s 409 (w32 ((w32 (400 * x1)) + y4)).toNat) 15) = 0 → ¬ (iAnd (s 409 (w32 ((w32 (400 * x1)) + y4)).toNat) 15) = 1 → ¬ (iAnd (s 409 (w32 ((w32 (400 * x1)) + y4)).toNat) 15) = 11 → 0 < s 407 18 ∧ s 407 18 ≤ 64)
  (z5 : ∀ y4 : Int, ∀ s : mSt, I8 y4 s → ¬ x3 ≤ y4 → ¬ (iAnd (s 409 (w32 ((w32 (400 * x1)) + y4)).toNat) 15) = 0 → ¬ (iAnd (s 409 (w32 ((w32 (400 * x1)) + y4)).toNat) 15) = 1 → ¬ (iAnd (s 409 (w32 ((w32 (400 * x1)) + y4)).toNat) 15) = 11 → ∀ t7 : mSt, t7 = uS s 407 18 (s 407 18 - 1) → 0 < t7 407 18 ∧ t7 407 18 ≤ 64)
  (z6 : ∀ y4 : Int, ∀ s : mSt, I8 y4 s → ¬ x3 ≤ y4 → ¬ (iAnd (s 409 (w32 ((w32 (400 * x1)) + y4)).toNat) 15) = 0 → ¬ (iAnd (s 409 (w32 ((w32 (400 * x1)) + y4)).toNat) 15) = 1 → ¬ (iAnd (s 409 (w32 ((w32 (400 * x1)) + y4)).toNat) 15) = 11 → ∀ t7 : mSt, t7 = uS s 407 18 (s 407 18 - 1) → ∀ t8 : mSt, t8 = uS t7 407 18 (t7 407 18 - 1) → 2 ≤ (iAnd (s 409 (w32 ((w32 (400 * x1)) + y4)).toNat) 15) ∧ (iAnd (s 409 (w32 ((w32 (400 * x1)) + y4)).toNat) 15) ≤ 14)
  (z7 : ∀ y4 : Int, ∀ s : mSt, I8 y4 s → ¬ x3 ≤ y4 → ¬ (iAnd (s 409 (w32 ((w32 (400 * x1)) + y4)).toNat) 15) = 0 → ¬ (iAnd (s 409 (w32 ((w32 (400 * x1)) + y4)).toNat) 15) = 1 → ¬ (iAnd (s 409 (w32 ((w32 (400 * x1)) + y4)).toNat) 15) = 11 → ∀ t7 : mSt, t7 = uS s 407 18 (s 407 18 - 1) → ∀ t8 : mSt, t8 = uS t7 407 18 (t7 407 18 - 1) → 0 ≤ t8 407 18 ∧ t8 407 18 < 64)
  (z8 : ∀ y4 : Int, ∀ s : mSt, I8 y4 s → ¬ x3 ≤ y4 → ¬ (iAnd (s 409 (w32 ((w32 (400 * x1)) + y4)).toNat) 15) = 0 → ¬ (iAnd (s 409 (w32 ((w32 (400 * x1)) + y4)).toNat) 15) = 1 → ¬ (iAnd (s 409 (w32 ((w32 (400 * x1)) + y4)).toNat) 15) = 11 → ∀ t7 : mSt, t7 = uS s 407 18 (s 407 18 - 1) → ∀ t8 : mSt, t8 = uS t7 407 18 (t7 407 18 - 1) → ∀ t9 : mSt, t9 = uS (uS t8 415 (t8 407 18).toNat (opA (iAnd (s 409 (w32 ((w32 (400 * x1)) + y4)).toNat) 15) (t7 415 (t7 407 18 - 1).toNat) (s 415 (s 407 18 - 1).toNat))) 407 18 (t8 407 18 + 1) → I8 (w32 (y4 + 1)) t9 ∧ m8 (w32 (y4 + 1)) t9 < m8 y4 s)
  (z9 : ∀ y4 : Int, ∀ s : mSt, I8 y4 s → ¬ x3 ≤ y4 → ¬ (iAnd (s 409 (w32 ((w32 (400 * x1)) + y4)).toNat) 15) = 0 → ¬ (iAnd (s 409 (w32 ((w32 (400 * x1)) + y4)).toNat) 15) = 1 → (iAnd (s 409 (w32 ((w32 (400 * x1)) + y4)).toNat) 15) = 11 → 0 < s 407 18 ∧ s 407 18 ≤ 64)
  (z10 : ∀ y4 : Int, ∀ s : mSt, I8 y4 s → ¬ x3 ≤ y4 → ¬ (iAnd (s 409 (w32 ((w32 (400 * x1)) + y4)).toNat) 15) = 0 → ¬ (iAnd (s 409 (w32 ((w32 (400 * x1)) + y4)).toNat) 15) = 1 → (iAnd (s 409 (w32 ((w32 (400 * x1)) + y4)).toNat) 15) = 11 → ∀ t11 : mSt, t11 = uS s 407 18 (s 407 18 - 1) → 0 ≤ t11 407 18 ∧ t11 407 18 < 64)
  (z11 : ∀ y4 : Int, ∀ s : mSt, I8 y4 s → ¬ x3 ≤ y4 → ¬ (iAnd (s 409 (w32 ((w32 (400 * x1)) + y4)).toNat) 15) = 0 → ¬ (iAnd (s 409 (w32 ((w32 (400 * x1)) + y4)).toNat) 15) = 1 → (iAnd (s 409 (w32 ((w32 (400 * x1)) + y4)).toNat) 15) = 11 → ∀ t11 : mSt, t11 = uS s 407 18 (s 407 18 - 1) → ∀ t12 : mSt, t12 = uS (uS t11 415 (t11 407 18).toNat (w64 (1 - (s 415 (s 407 18 - 1).toNat)))) 407 18 (t11 407 18 + 1) → I8 (w32 (y4 + 1)) t12 ∧ m8 (w32 (y4 + 1)) t12 < m8 y4 s)
  (z12 : ∀ y4 : Int, ∀ s : mSt, I8 y4 s → ¬ x3 ≤ y4 → ¬ (iAnd (s 409 (w32 ((w32 (400 * x1)) + y4)).toNat) 15) = 0 → (iAnd (s 409 (w32 ((w32 (400 * x1)) + y4)).toNat) 15) = 1 → 0 ≤ (iShr (s 409 (w32 ((w32 (400 * x1)) + y4)).toNat) 4) ∧ (iShr (s 409 (w32 ((w32 (400 * x1)) + y4)).toNat) 4) < 11)
  (z13 : ∀ y4 : Int, ∀ s : mSt, I8 y4 s → ¬ x3 ≤ y4 → ¬ (iAnd (s 409 (w32 ((w32 (400 * x1)) + y4)).toNat) 15) = 0 → (iAnd (s 409 (w32 ((w32 (400 * x1)) + y4)).toNat) 15) = 1 → 0 ≤ s 407 18 ∧ s 407 18 < 64)
  (z14 : ∀ y4 : Int, ∀ s : mSt, I8 y4 s → ¬ x3 ≤ y4 → ¬ (iAnd (s 409 (w32 ((w32 (400 * x1)) + y4)).toNat) 15) = 0 → (iAnd (s 409 (w32 ((w32 (400 * x1)) + y4)).toNat) 15) = 1 → ∀ t14 : mSt, t14 = uS (uS s 415 (s 407 18).toNat (s 416 (iShr (s 409 (w32 ((w32 (400 * x1)) + y4)).toNat) 4).toNat)) 407 18 (s 407 18 + 1) → I8 (w32 (y4 + 1)) t14 ∧ m8 (w32 (y4 + 1)) t14 < m8 y4 s)
  (z15 : ∀ y4 : Int, ∀ s : mSt, I8 y4 s → ¬ x3 ≤ y4 → (iAnd (s 409 (w32 ((w32 (400 * x1)) + y4)).toNat) 15) = 0 → 0 ≤ s 407 18 ∧ s 407 18 < 64)
  (z16 : ∀ y4 : Int, ∀ s : mSt, I8 y4 s → ¬ x3 ≤ y4 → (iAnd (s 409 (w32 ((w32 (400 * x1)) + y4)).toNat) 15) = 0 → ∀ t16 : mSt, t16 = uS (uS s 415 (s 407 18).toNat (iShr (s 409 (w32 ((w32 (400 * x1)) + y4)).toNat) 4)) 407 18 (s 407 18 + 1) → I8 (w32 (y4 + 1)) t16 ∧ m8 (w32 (y4 + 1)) t16 < m8 y4 s)
  (z17 : I8 x2 (uS s 407 18 0)) :
  Sp X (d + 1) 211 [mR 407, mI x1, mI x2, mI x3] s Q := by
  have L : ∀ k : Nat, (∀ (y4 : Int) (l5 : Option mV) (l6 : Option mV) (l7 : Option mV) (l8 : Option mV) (l9 : Option mV) (l10 : Option mV) (s : mSt), I8 y4 s → m8 y4 s < k → Wp X (d + 1) 211 8 [some (mR 407), some (mI x1), some (mI x2), some (mI x3), some (mI y4), l5, l6, l7, l8, l9, l10] [] s Q) := by
    intro k
    induction k with
    | zero => exact fun _ _ _ _ _ _ _ _ _ h => absurd h (Nat.not_lt_zero _)
    | succ k ih => exact fun y4 l5 l6 l7 l8 l9 l10 s hI hm => b211_8 (fun q1 => b211_135 (c209 (z1 y4 s hI q1) ⟨_, rfl, Wp_gen (fun t2 e2 => b211_139 (z2 y4 s hI q1 t2 e2))⟩)) (fun q3 => b211_14 (z3 y4 s hI q3) (z3 y4 s hI q3) (fun q4 => b211_64 (fun q5 => b211_84 (fun q6 => b211_104 (c209 (z4 y4 s hI q3 q4 q5 q6) ⟨_, rfl, Wp_gen (fun t7 e7 => b211_108 (c209 (z5 y4 s hI q3 q4 q5 q6 t7 e7) ⟨_, rfl, Wp_gen (fun t8 e8 => b211_114 (c210 (z6 y4 s hI q3 q4 q5 q6 t7 e7 t8 e8) ⟨_, rfl, b211_126 (c208 (z7 y4 s hI q3 q4 q5 q6 t7 e7 t8 e8) ⟨rfl, Wp_gen (fun t9 e9 => b211_129 (ih (w32 (y4 + 1)) (some (mI (iAnd (s 409 (w32 ((w32 (400 * x1)) + y4)).toNat) 15))) (some (mI (iShr (s 409 (w32 ((w32 (400 * x1)) + y4)).toNat) 4))) (some (mJ (s 415 (s 407 18 - 1).toNat))) ((kL 0 none)) (some (mJ (t7 415 (t7 407 18 - 1).toNat))) none t9 (z8 y4 s hI q3 q4 q5 q6 t7 e7 t8 e8 t9 e9).1 (Nat.lt_of_lt_of_le (z8 y4 s hI q3 q4 q5 q6 t7 e7 t8 e8 t9 e9).2 (Nat.le_of_lt_succ hm))))⟩)⟩))⟩))⟩)) (fun q10 => b211_91 (c209 (z9 y4 s hI q3 q4 q5 q10) ⟨_, rfl, Wp_gen (fun t11 e11 => b211_97 (c208 (z10 y4 s hI q3 q4 q5 q10 t11 e11) ⟨rfl, Wp_gen (fun t12 e12 => b211_101 (b211_129 (ih (w32 (y4 + 1)) (some (mI (iAnd (s 409 (w32 ((w32 (400 * x1)) + y4)).toNat) 15))) (some (mI (iShr (s 409 (w32 ((w32 (400 * x1)) + y4)).toNat) 4))) l7 l8 l9 l10 t12 (z11 y4 s hI q3 q4 q5 q10 t11 e11 t12 e12).1 (Nat.lt_of_lt_of_le (z11 y4 s hI q3 q4 q5 q10 t11 e11 t12 e12).2 (Nat.le_of_lt_succ hm)))))⟩))⟩))) (fun q13 => b211_70 (z12 y4 s hI q3 q4 q13) (c208 (z13 y4 s hI q3 q4 q13) ⟨rfl, Wp_gen (fun t14 e14 => b211_81 (b211_129 (ih (w32 (y4 + 1)) (some (mI (iAnd (s 409 (w32 ((w32 (400 * x1)) + y4)).toNat) 15))) (some (mI (iShr (s 409 (w32 ((w32 (400 * x1)) + y4)).toNat) 4))) l7 l8 l9 l10 t14 (z14 y4 s hI q3 q4 q13 t14 e14).1 (Nat.lt_of_lt_of_le (z14 y4 s hI q3 q4 q13 t14 e14).2 (Nat.le_of_lt_succ hm)))))⟩))) (fun q15 => b211_54 (c208 (z15 y4 s hI q3 q15) ⟨rfl, Wp_gen (fun t16 e16 => b211_61 (b211_129 (ih (w32 (y4 + 1)) (some (mI (iAnd (s 409 (w32 ((w32 (400 * x1)) + y4)).toNat) 15))) (some (mI (iShr (s 409 (w32 ((w32 (400 * x1)) + y4)).toNat) 4))) l7 l8 l9 l10 t16 (z16 y4 s hI q3 q15 t16 e16).1 (Nat.lt_of_lt_of_le (z16 y4 s hI q3 q15 t16 e16).2 (Nat.le_of_lt_succ hm)))))⟩)))
  exact e211 (b211_0 ((L (m8 x2 (uS s 407 18 0) + 1)) x2 none none none none none none (uS s 407 18 0) z17 (Nat.lt_succ_self _)))

theorem c211 {X : (Nat → Int) × Nat} {d : Nat} {s : mSt} {Q : mQ} {x1 : Int} {x2 : Int} {x3 : Int} (p1 : RKq s x1 x2 x3) (k : ∀ (v : Int) (t : mSt), (v = evV (s 416) (s 409) (400 * x1.toNat + x2.toNat) (x3 - x2).toNat ∧ fK s t) → Q (some (mJ v)) t) : Sp X (d + 1) 211 [mR 407, mI x1, mI x2, mI x3] s Q := by
  obtain ⟨h1, h2, b, hW⟩ := p1
  obtain ⟨r, rfl⟩ := nat_of h1.1
  obtain ⟨o, rfl⟩ := nat_of h2.1
  rw [tnc, tnc] at hW k
  let n := (x3 - (o : Int)).toNat
  have hn : n = (x3 - (o : Int)).toNat := rfl
  rw [← hn] at hW k
  let P : Nat → Nat × Rw := evP (s 416) (s 409) (400 * r + o)
  have hP : ∀ j, P j = evP (s 416) (s 409) (400 * r + o) j := fun _ => rfl
  let J : Int → mSt → Prop := fun y t => ∃ j : Nat, y = ((o + j : Nat) : Int) ∧ j ≤ n ∧ t 407 18 = ((P j).1 : Int) ∧ (∀ i, i < (P j).1 → t 415 i = (P j).2 i) ∧ fK s t
  have ew : ∀ j : Nat, j < n → (w32 (w32 (400 * (r : Int)) + ((o + j : Nat) : Int))).toNat = 400 * r + o + j ∧ 0 ≤ w32 (w32 (400 * (r : Int)) + ((o + j : Nat) : Int)) ∧ w32 (w32 (400 * (r : Int)) + ((o + j : Nat) : Int)) < 2400 := fun j hj => by
    rw [w32_of (x := 400 * (r : Int)) (by omega), w32_of (by omega)]; omega
  have hst := fun (j : Nat) (hj : j < n) => WS_step (fa := s 416) hW hj
  have bx : ∀ j : Nat, j < n → 0 ≤ s 409 (400 * r + o + j) ∧ s 409 (400 * r + o + j) < 2147483648 := fun j hj => by
    rcases (hst j hj).2 with z | z | z <;> omega
  have ek : ∀ j : Nat, j < n → iAnd (s 409 (400 * r + o + j)) 15 = ik (s 409 (400 * r + o + j)) := fun j hj => and15 (bx j hj)
  have es : ∀ j : Nat, j < n → iShr (s 409 (400 * r + o + j)) 4 = (iv (s 409 (400 * r + o + j)) : Int) := fun j hj => shr4 (bx j hj)
  have jj : ∀ y t, J y t → ¬ x3 ≤ y → ∃ j : Nat, y = ((o + j : Nat) : Int) ∧ j < n ∧ t 407 18 = ((P j).1 : Int) ∧ (∀ i, i < (P j).1 → t 415 i = (P j).2 i) ∧ fK s t := fun y t ⟨j, e, hj, e1, e2, e3⟩ hy => ⟨j, e, by omega, e1, e2, e3⟩
  have hs : ∀ j : Nat, P (j + 1) = (evN (s 409 (400 * r + o + j)) (P j).1, evF (s 416) (s 409 (400 * r + o + j)) (P j).1 (P j).2) := fun j => rfl
  have push : ∀ (j : Nat) (t u : mSt) (v : Int), j < n → (P j).1 < 60 → t 407 18 = ((P j).1 : Int) → (∀ i, i < (P j).1 → t 415 i = (P j).2 i) → fK s t → P (j + 1) = ((P j).1 + 1, up (P j).2 (P j).1 v) → u = uS (uS t 415 (t 407 18).toNat v) 407 18 (t 407 18 + 1) → J (w32 (((o + j : Nat) : Int) + 1)) u ∧ (401 - w32 (((o + j : Nat) : Int) + 1)).toNat < (401 - ((o + j : Nat) : Int)).toNat := fun j t u v hj h60 e1 e2 e3 e4 hu => by
    rw [e1, tnc] at hu
    rw [w32_of (by omega)]
    refine ⟨⟨j + 1, by omega, by omega, ?_, fun i hi => ?_, fun b hb1 hb2 => ?_, fun q hq => ?_⟩, by omega⟩
    · rw [hu, uS_at, if_pos rfl, e4]; omega
    · rw [e4] at hi ⊢
      rw [hu, uS_cell (by decide), uS_at]
      dsimp only at hi ⊢
      unfold up
      by_cases z : i = (P j).1
      · rw [if_pos z, if_pos z]
      · rw [if_neg z, if_neg z]; exact e2 i (by omega)
    · rw [hu, uS_cell hb1, uS_cell hb2]; exact e3.1 b hb1 hb2
    · rw [hu, uS_at, if_neg hq, uS_cell (by decide)]; exact e3.2 q hq
  refine v211 J (fun y _ => (401 - y).toNat) ?_ ?_ ?_ ?_ ?_ ?_ ?_ ?_ ?_ ?_ ?_ ?_ ?_ ?_ ?_ ?_ ?_
  · rintro _ t ⟨j, rfl, hj, e1, e2, e3⟩ hc
    have : j = n := by omega
    subst this
    rw [e1, hP, WS_end hW]; decide
  · rintro _ t ⟨j, rfl, hj, e1, e2, e3⟩ hc u hu
    have : j = n := by omega
    subst this
    have e0 := WS_end (fa := s 416) hW
    rw [e1, hP, e0] at hu ⊢
    refine k _ u ⟨?_, fun b hb1 hb2 => ?_, fun q hq => ?_⟩
    · exact e2 0 (by rw [hP, e0]; decide)
    · rw [hu, uS_cell hb1]; exact e3.1 b hb1 hb2
    · rw [hu, uS_at, if_neg hq]; exact e3.2 q hq
  · intro y t hJ hc
    obtain ⟨j, rfl, hj, e1, e2, e3⟩ := jj y t hJ hc
    exact (ew j hj).2
  · intro y t hJ hc q0 q1 q2
    obtain ⟨j, rfl, hj, e1, e2, e3⟩ := jj y t hJ hc
    rw [(ew j hj).1, e3.1 409 (by decide) (by decide), ek j hj] at q0 q1 q2
    have w := hst j hj
    rw [e1]
    rcases w.2 with z | z | z
    · exfalso; unfold ik at *; omega
    · exfalso; rw [z.1] at q2; exact q2 (by decide)
    · rw [← hP] at z w; omega
  · intro y t hJ hc q0 q1 q2 t7 e7
    obtain ⟨j, rfl, hj, e1, e2, e3⟩ := jj y t hJ hc
    rw [(ew j hj).1, e3.1 409 (by decide) (by decide), ek j hj] at q0 q1 q2
    have w := hst j hj
    rw [e7, uS_at, if_pos rfl, e1]
    rcases w.2 with z | z | z
    · exfalso; unfold ik at *; omega
    · exfalso; rw [z.1] at q2; exact q2 (by decide)
    · rw [← hP] at z w; omega
  · intro y t hJ hc q0 q1 q2 t7 e7 t8 e8
    obtain ⟨j, rfl, hj, e1, e2, e3⟩ := jj y t hJ hc
    rw [(ew j hj).1, e3.1 409 (by decide) (by decide), ek j hj] at q0 q1 q2 ⊢
    rcases (hst j hj).2 with z | z | z
    · exfalso; unfold ik at *; omega
    · exfalso; rw [z.1] at q2; exact q2 (by decide)
    · rw [ik_s (by omega)]; omega
  · intro y t hJ hc q0 q1 q2 t7 e7 t8 e8
    obtain ⟨j, rfl, hj, e1, e2, e3⟩ := jj y t hJ hc
    rw [(ew j hj).1, e3.1 409 (by decide) (by decide), ek j hj] at q0 q1 q2
    have w := hst j hj
    rw [e8, uS_at, if_pos rfl, e7, uS_at, if_pos rfl, e1]
    rcases w.2 with z | z | z
    · exfalso; unfold ik at *; omega
    · exfalso; rw [z.1] at q2; exact q2 (by decide)
    · rw [← hP] at z w; omega
  · intro y t hJ hc q0 q1 q2 t7 e7 t8 e8 t9 e9
    obtain ⟨j, rfl, hj, e1, e2, e3⟩ := jj y t hJ hc
    rw [(ew j hj).1, e3.1 409 (by decide) (by decide), ek j hj] at q0 q1 q2 e9
    have w := hst j hj
    rcases w.2 with z | z | z
    · exfalso; unfold ik at *; omega
    · exfalso; rw [z.1] at q2; exact q2 (by decide)
    · rw [← hP] at z w
      have g7 : t7 407 18 = ((P j).1 : Int) - 1 := by rw [e7, uS_at, if_pos rfl, e1]
      have g8 : t8 407 18 = ((P j).1 : Int) - 2 := by rw [e8, uS_at, if_pos rfl, g7]; omega
      have g415 : t7 415 = t 415 := by rw [e7, uS_cell (by decide)]
      rw [g7, g8, g415, e1, show ((P j).1 : Int) - 1 - 1 = (((P j).1 - 2 : Nat) : Int) by omega, show ((P j).1 : Int) - 1 = (((P j).1 - 1 : Nat) : Int) by omega, show ((P j).1 : Int) - 2 = (((P j).1 - 2 : Nat) : Int) by omega, tnc, tnc, e2 _ (by omega), e2 _ (by omega)] at e9
      have hPn : P (j + 1) = ((P j).1 - 1, up (P j).2 ((P j).1 - 2) (opA (ik (s 409 (400 * r + o + j))) ((P j).2 ((P j).1 - 2)) ((P j).2 ((P j).1 - 1)))) := by
        rw [hs]; unfold evN evF
        rw [if_neg (by unfold ik at *; omega), if_neg q2, if_neg q0, if_neg q1, if_neg q2]
      rw [w32_of (by omega)]
      refine ⟨⟨j + 1, by omega, by omega, ?_, fun i hi => ?_, fun b hb1 hb2 => ?_, fun q hq => ?_⟩, by omega⟩
      · rw [e9, uS_at, if_pos rfl, hPn]; dsimp only; omega
      · rw [hPn] at hi ⊢
        dsimp only at hi ⊢
        rw [e9, uS_cell (by decide), uS_at]
        unfold up
        by_cases v : i = (P j).1 - 2
        · rw [if_pos v, if_pos v]
        · rw [if_neg v, if_neg v, e8, uS_cell (by decide), g415]; exact e2 i (by omega)
      · rw [e9, uS_cell hb1, uS_cell hb2, e8, uS_cell hb1, e7, uS_cell hb1]; exact e3.1 b hb1 hb2
      · rw [e9, uS_at, if_neg hq, uS_cell (by decide), e8, uS_at, if_neg hq, e7, uS_at, if_neg hq]; exact e3.2 q hq
  · intro y t hJ hc q0 q1 q2
    obtain ⟨j, rfl, hj, e1, e2, e3⟩ := jj y t hJ hc
    rw [(ew j hj).1, e3.1 409 (by decide) (by decide), ek j hj] at q0 q1 q2
    have w := hst j hj
    rw [e1]
    rcases w.2 with z | z | z
    · exfalso; omega
    · rw [← hP] at z w; omega
    · exfalso; rw [ik_s (by omega)] at q2; omega
  · intro y t hJ hc q0 q1 q2 t7 e7
    obtain ⟨j, rfl, hj, e1, e2, e3⟩ := jj y t hJ hc
    rw [(ew j hj).1, e3.1 409 (by decide) (by decide), ek j hj] at q0 q1 q2
    have w := hst j hj
    rw [e7, uS_at, if_pos rfl, e1]
    rcases w.2 with z | z | z
    · exfalso; omega
    · rw [← hP] at z w; omega
    · exfalso; rw [ik_s (by omega)] at q2; omega
  · intro y t hJ hc q0 q1 q2 t7 e7 t8 e8
    obtain ⟨j, rfl, hj, e1, e2, e3⟩ := jj y t hJ hc
    rw [(ew j hj).1, e3.1 409 (by decide) (by decide), ek j hj] at q0 q1 q2
    have w := hst j hj
    rcases w.2 with z | z | z
    · exfalso; omega
    · rw [← hP] at z w
      have g7 : t7 407 18 = ((P j).1 : Int) - 1 := by rw [e7, uS_at, if_pos rfl, e1]
      rw [g7, e1, show ((P j).1 : Int) - 1 = (((P j).1 - 1 : Nat) : Int) by omega, tnc, e2 _ (by omega)] at e8
      have hPn : P (j + 1) = ((P j).1, up (P j).2 ((P j).1 - 1) (w64 (1 - (P j).2 ((P j).1 - 1)))) := by
        rw [hs]; unfold evN evF
        rw [if_neg (by omega), if_pos q2, if_neg q0, if_neg q1, if_pos q2]
      rw [w32_of (by omega)]
      refine ⟨⟨j + 1, by omega, by omega, ?_, fun i hi => ?_, fun b hb1 hb2 => ?_, fun q hq => ?_⟩, by omega⟩
      · rw [e8, uS_at, if_pos rfl, hPn]; dsimp only; omega
      · rw [hPn] at hi ⊢
        dsimp only at hi ⊢
        rw [e8, uS_cell (by decide), uS_at]
        unfold up
        by_cases v : i = (P j).1 - 1
        · rw [if_pos v, if_pos v]
        · rw [if_neg v, if_neg v, e7, uS_cell (by decide)]; exact e2 i (by omega)
      · rw [e8, uS_cell hb1, uS_cell hb2, e7, uS_cell hb1]; exact e3.1 b hb1 hb2
      · rw [e8, uS_at, if_neg hq, uS_cell (by decide), e7, uS_at, if_neg hq]; exact e3.2 q hq
    · exfalso; rw [ik_s (by omega)] at q2; omega
  · intro y t hJ hc q0 q1
    obtain ⟨j, rfl, hj, e1, e2, e3⟩ := jj y t hJ hc
    rw [(ew j hj).1, e3.1 409 (by decide) (by decide)] at q0 q1 ⊢
    rw [ek j hj] at q0 q1
    rw [es j hj]
    rcases (hst j hj).2 with z | z | z
    · have := z.2.2.1 q1; omega
    · exfalso; rw [z.1] at q1; exact absurd q1 (by decide)
    · exfalso; rw [ik_s (by omega)] at q1; omega
  · intro y t hJ hc q0 q1
    obtain ⟨j, rfl, hj, e1, e2, e3⟩ := jj y t hJ hc
    have w := hst j hj
    rw [← hP] at w
    rw [e1]; omega
  · intro y t hJ hc q0 q1 u hu
    obtain ⟨j, rfl, hj, e1, e2, e3⟩ := jj y t hJ hc
    rw [(ew j hj).1, e3.1 409 (by decide) (by decide)] at q0 q1 hu
    rw [ek j hj] at q0 q1
    rw [es j hj, tnc, e3.1 416 (by decide) (by decide)] at hu
    rcases (hst j hj).2 with z | z | z
    · refine push j t u _ hj z.2.2.2 e1 e2 e3 ?_ hu
      rw [hs]; unfold evN evF
      rw [if_pos z.1, if_neg q0, if_pos q1]
    · exfalso; rw [z.1] at q1; exact absurd q1 (by decide)
    · exfalso; rw [ik_s (by omega)] at q1; omega
  · intro y t hJ hc q0
    obtain ⟨j, rfl, hj, e1, e2, e3⟩ := jj y t hJ hc
    have w := hst j hj
    rw [← hP] at w
    rw [e1]; omega
  · intro y t hJ hc q0 u hu
    obtain ⟨j, rfl, hj, e1, e2, e3⟩ := jj y t hJ hc
    rw [(ew j hj).1, e3.1 409 (by decide) (by decide)] at q0 hu
    rw [ek j hj] at q0
    rw [es j hj] at hu
    rcases (hst j hj).2 with z | z | z
    · refine push j t u _ hj z.2.2.2 e1 e2 e3 ?_ hu
      rw [hs]; unfold evN evF
      rw [if_pos z.1, if_pos q0]
    · exfalso; rw [z.1] at q0; exact absurd q0 (by decide)
    · exfalso; rw [ik_s (by omega)] at q0; omega
  · refine ⟨0, rfl, by omega, ?_, fun i hi => absurd hi (Nat.not_lt_zero _), fun b hb1 hb2 => ?_, fun q hq => ?_⟩
    · rw [uS_at, if_pos rfl]; rfl
    · rw [uS_cell hb1]
    · rw [uS_at, if_neg hq]
