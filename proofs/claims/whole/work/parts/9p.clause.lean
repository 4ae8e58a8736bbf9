/-! the machine comes to an end; clauses -/
theorem vf_b (T : Nat → Int) (n a : Nat) (k : Int) : -1 ≤ vfA T n a k ∧ vfA T n a k ≤ 3 := by
  have nb := nuA_b T n a 0 99999
  unfold vfA
  split
  · split <;> omega
  · omega
theorem sum_p {T : Nat → Int} {n : Nat} : ∀ (f a : Nat) (k : Int) (L : List Int) (tm pl : Int), n - a ≤ f → a ≤ n → (0 ≤ (sumF T n a k L tm pl).1 ∧ (sumF T n a k L tm pl).1 ≤ 8 * (n : Int) + 5) ∧ ((sumF T n a k L tm pl).1 = 0 → a < (sumF T n a k L tm pl).2.1 ∧ (sumF T n a k L tm pl).2.1 ≤ n)
  | f, a, k, L, tm, pl, hf, ha => by
    have vb := vf_b T n a k
    by_cases hv : vfA T n a k = -1
    · by_cases h0 : a < n
      · have b := nxA_b T ha
        have c := nxA_b T b.2.1
        have lt := b.2.2 h0
        by_cases h1 : tmC (tkK T n (nxA T n a)) = -1
        · by_cases h2 : psC (tkK T n (nxA T n a)) = -1
          · rw [sumF_1 h0 hv h1 h2]
            exact ⟨⟨Int.le_refl 0, by show (0 : Int) ≤ _; omega⟩, fun _ => ⟨lt, b.2.1⟩⟩
          · rw [sumF_2 h0 hv h1 h2]
            cases f with
            | zero => omega
            | succ f =>
              have q := sum_p (T := T) (n := n) f (nxA T n (nxA T n a)) (k + 1) (L ++ [itA T n a] ++ emL tm ++ emL pl) (-1) (psC (tkK T n (nxA T n a))) (by omega) c.2.1
              exact ⟨q.1, fun z => ⟨by have := (q.2 z).1; omega, (q.2 z).2⟩⟩
        · rw [sumF_3 h0 hv h1]
          cases f with
          | zero => omega
          | succ f =>
            have q := sum_p (T := T) (n := n) f (nxA T n (nxA T n a)) (k + 1) (L ++ [itA T n a] ++ emL tm) (tmC (tkK T n (nxA T n a))) pl (by omega) c.2.1
            exact ⟨q.1, fun z => ⟨by have := (q.2 z).1; omega, (q.2 z).2⟩⟩
      · exfalso
        have k0 : tkK T n a = -1 := if_pos (by omega)
        have w0 : wnA T n a = -1 := if_neg (by rw [k0]; decide)
        have n0 : nuA T n a 0 99999 = 0 := if_neg (by rw [k0]; decide)
        unfold vfA at hv
        rw [w0, n0, if_neg (by omega)] at hv
        exact absurd hv (by decide)
    · rw [sumF_0 hv]
      refine ⟨⟨?_, ?_⟩, fun z => ?_⟩
      · show 0 ≤ fuA a (vfA T n a k); unfold fuA; omega
      · show fuA a (vfA T n a k) ≤ _; unfold fuA; omega
      · have z' : fuA a (vfA T n a k) = 0 := z
        unfold fuA at z'; omega
theorem cp_p {T : Nat → Int} {n a : Nat} {k : Int} {L : List Int} (ha : a ≤ n) : (0 ≤ (cpF T n a k L).1 ∧ (cpF T n a k L).1 ≤ 8 * (n : Int) + 5) ∧ ((cpF T n a k L).1 = 0 → a < (cpF T n a k L).2.1 ∧ (cpF T n a k L).2.1 ≤ n) := by
  have q := sum_p (T := T) (n := n) (n - a) a k L (-1) (-1) (Nat.le_refl _) ha
  generalize hq : sumF T n a k L (-1) (-1) = u at q
  generalize hr : sumF T n (nxA T n u.2.1) (u.2.2.1 + 1) u.2.2.2 (-1) (-1) = v
  rw [cpF_e hq hr]
  by_cases z : u.1 = 0
  · have p := q.2 z
    have nb := nxA_b T p.2
    have r := sum_p (T := T) (n := n) (n - nxA T n u.2.1) (nxA T n u.2.1) (u.2.2.1 + 1) u.2.2.2 (-1) (-1) (Nat.le_refl _) nb.2.1
    rw [hr] at r
    rw [if_pos z]
    by_cases z1 : cmC (tkK T n u.2.1) = -1
    · rw [if_pos z1]
      refine ⟨⟨?_, ?_⟩, fun y => ?_⟩
      · show 0 ≤ fuA _ _; unfold fuA; omega
      · show fuA _ _ ≤ _; unfold fuA; omega
      · have y' : fuA u.2.1 0 = 0 := y
        unfold fuA at y'; omega
    · rw [if_neg z1]
      by_cases z2 : 60 ≤ u.2.2.1
      · rw [if_pos z2]
        refine ⟨⟨?_, ?_⟩, fun y => ?_⟩
        · show 0 ≤ fuA _ _; unfold fuA; omega
        · show fuA _ _ ≤ _; unfold fuA; omega
        · have y' : fuA u.2.1 3 = 0 := y
          unfold fuA at y'; omega
      · rw [if_neg z2]
        by_cases z3 : v.1 = 0
        · rw [if_pos z3]
          refine ⟨⟨Int.le_refl 0, by show (0 : Int) ≤ _; omega⟩, fun _ => ?_⟩
          have := r.2 z3
          exact ⟨by show a < v.2.1; omega, this.2⟩
        · rw [if_neg z3]
          exact ⟨r.1, fun y => absurd y z3⟩
  · rw [if_neg z]
    exact ⟨q.1, fun y => absurd y z⟩
def mtQ (n a : Nat) (y : Int × Nat × Int × List Int × List Int) : Prop := ((0 ≤ y.1 ∧ y.1 ≤ 8 * (n : Int) + 5) ∧ y.2.1 ≤ n) ∨ ((y.1 = -1 ∨ y.1 = -2) ∧ a < y.2.1 ∧ y.2.1 ≤ n)
theorem bad_q {n a b : Nat} {x : Int} (ha : a ≤ n) (hx : 0 ≤ x ∧ x ≤ 3) : mtQ n b (bad (fuA a x)) := Or.inl ⟨by
  show 0 ≤ fuA a x ∧ fuA a x ≤ _
  unfold fuA; omega, Nat.zero_le n⟩
theorem mt_p {T : Nat → Int} {n : Nat} (x : Int × Nat × Int × List Int × List Int) (h : x.1 = -1 ∨ x.1 = -2) (ha : x.2.1 ≤ n) : mtQ n x.2.1 (mtP T n x) := by
  obtain ⟨m, a, k, L, K⟩ := x
  have ha' : a ≤ n := ha
  have nb := nxA_b T ha'
  show mtQ n a _
  rcases h with h | h
  · have h' : m = -1 := h
    subst h'
    rw [st_F]
    unfold mtF
    by_cases w : wnA T n a = 18
    · have lt := nb.2.2 (k_lt (by rw [w_257 (by decide) w]; decide))
      rw [if_pos w]
      by_cases z : 10 ≤ dpK K
      · rw [if_pos z]; exact bad_q ha' (by decide)
      · rw [if_neg z]; exact Or.inr ⟨Or.inl rfl, lt, nb.2.1⟩
    · rw [if_neg w]
      by_cases b : tkK T n a = 91
      · have lt := nb.2.2 (k_lt (by rw [b]; decide))
        rw [if_pos b]
        by_cases z : 10 ≤ dpK K
        · rw [if_pos z]; exact bad_q ha' (by decide)
        · rw [if_neg z]; exact Or.inr ⟨Or.inl rfl, lt, nb.2.1⟩
      · rw [if_neg b]
        have q := cp_p (T := T) (k := k) (L := L) ha'
        by_cases z : (cpF T n a k L).1 = 0
        · rw [if_pos z]; exact Or.inr ⟨Or.inr rfl, q.2 z⟩
        · rw [if_neg z]; exact Or.inl ⟨q.1, Nat.zero_le n⟩
  · have h' : m = -2 := h
    subst h'
    rw [st_A]
    unfold mtA mtB
    split
    · rename_i z
      exact Or.inr ⟨Or.inr rfl, nb.2.2 (k_lt (by rw [z.1]; decide)), nb.2.1⟩
    · split
      · rename_i w
        exact Or.inr ⟨Or.inl rfl, nb.2.2 (k_lt (by rw [w_257 (by decide) w]; decide)), nb.2.1⟩
      · split
        · rename_i w
          exact Or.inr ⟨Or.inl rfl, nb.2.2 (k_lt (by rw [w_257 (by decide) w]; decide)), nb.2.1⟩
        · split
          · exact bad_q ha' (by decide)
          · exact Or.inl ⟨⟨Int.le_refl 0, by show (0 : Int) ≤ _; omega⟩, ha'⟩
theorem itr_p {T : Nat → Int} {n : Nat} : ∀ (f : Nat) (x : Int × Nat × Int × List Int × List Int), (x.1 = -1 ∨ x.1 = -2) → x.2.1 ≤ n → n < x.2.1 + f → (0 ≤ (itr T n f x).1 ∧ (itr T n f x).1 ≤ 8 * (n : Int) + 5) ∧ (itr T n f x).2.1 ≤ n
  | 0, x, h, ha, hf => by omega
  | f + 1, x, h, ha, hf => by
    show (0 ≤ (itr T n f (mtP T n x)).1 ∧ (itr T n f (mtP T n x)).1 ≤ 8 * (n : Int) + 5) ∧ (itr T n f (mtP T n x)).2.1 ≤ n
    rcases mt_p (T := T) x h ha with q | q
    · rw [itr_d q.1.1]; exact q
    · exact itr_p f _ q.1 q.2.2 (by omega)
/-- a test read -/
def tsF (T : Nat → Int) (n a : Nat) (k : Int) (L : List Int) : Int × Nat × Int × List Int × List Int := itr T n (n + 1) (-1, a, k, L, [])
theorem ts_p {T : Nat → Int} {n a : Nat} {k : Int} {L : List Int} (ha : a ≤ n) : (0 ≤ (tsF T n a k L).1 ∧ (tsF T n a k L).1 ≤ 8 * (n : Int) + 5) ∧ (tsF T n a k L).2.1 ≤ n := itr_p (n + 1) _ (Or.inl rfl) ha (by show n < a + (n + 1); omega)
theorem ts_e {T : Nat → Int} {n a : Nat} {k : Int} {L : List Int} (ha : a ≤ n) {y : Int × Nat × Int × List Int × List Int} (h : rch T n (-1, a, k, L, []) y) (hy : 0 ≤ y.1) : tsF T n a k L = y := rch_d ⟨n + 1, rfl⟩ h (ts_p ha).1.1 hy
/-- a clause read: fault, place behind, values, code, end of the sum -/
def cbd (f : Int) : Int × Nat × Int × List Int × Nat := (f, 0, 0, [], 0)
def cl2 (T : Nat → Int) (n : Nat) (q : Int × Nat × Int × List Int) : Int × Nat × Int × List Int × Nat :=
  if wnA T n q.2.1 = 15 then (if (tsF T n (nxA T n q.2.1) q.2.2.1 q.2.2.2).1 = 0 then (0, (tsF T n (nxA T n q.2.1) q.2.2.1 q.2.2.2).2.1, (tsF T n (nxA T n q.2.1) q.2.2.1 q.2.2.2).2.2.1, (tsF T n (nxA T n q.2.1) q.2.2.1 q.2.2.2).2.2.2.1, q.2.2.2.length) else cbd (tsF T n (nxA T n q.2.1) q.2.2.1 q.2.2.2).1)
  else (0, q.2.1, q.2.2.1, q.2.2.2, q.2.2.2.length)
def clF (T : Nat → Int) (n : Nat) (i : Int) (a : Nat) (k : Int) (L : List Int) : Int × Nat × Int × List Int × Nat :=
  if wnA T n a = 14 then (if 12 ≤ i then cbd (fuA a 4) else if (sumF T n (nxA T n a) k L (-1) (-1)).1 = 0 then cl2 T n (sumF T n (nxA T n a) k L (-1) (-1)) else cbd (sumF T n (nxA T n a) k L (-1) (-1)).1)
  else cbd (fuA a 0)
def fRr (s t : mSt) (k : Nat) : Prop := (∀ b, b ≠ 1 → b ≠ 5 → ¬ (k ≤ b ∧ b ≤ k + 3) → t b = s b) ∧ ∀ j, j ≠ 1 → t 5 j = s 5 j
theorem fRl_r {s t : mSt} {k : Nat} (h : fRl s t k) : fRr s t k := ⟨fun b a1 a2 a3 => h.1 b a1 a2 (by omega) (by omega), h.2.2⟩
theorem fRr_t {s t u : mSt} {k : Nat} (h1 : fRr s t k) (h2 : fRr t u k) : fRr s u k := ⟨fun b a1 a2 a3 => (h2.1 b a1 a2 a3).trans (h1.1 b a1 a2 a3), fun j hj => (h2.2 j hj).trans (h1.2 j hj)⟩
def CB1 (s t : mSt) (k : Nat) (r : Int × Nat × Int × List Int × Nat) : Prop := (TSa s t r.2.1 ∧ t 1 6 = 0 ∧ t 5 1 = r.2.2.1 ∧ (0 ≤ t 5 1 ∧ t 5 1 ≤ 60) ∧ cdL t k = r.2.2.2.1 ∧ 0 ≤ t k 1 ∧ (t k 1 + aO s ≤ s k 1 + aO t ∧ aO s < aO t)) ∧ t k 4 = s k 4 + 1 ∧ t (k + 2) = up (s (k + 2)) (s k 4).toNat (r.2.2.2.2 : Int) ∧ t (k + 3) = up (s (k + 3)) (s k 4).toNat (r.2.2.2.1.length : Int) ∧ fRr s t k
def CB0 (s t : mSt) (k : Nat) (f : Int) : Prop := 0 < f ∧ t 1 6 = f ∧ t 1 1 = s 1 1 ∧ fRr s t k
def clQ (s : mSt) (k : Nat) (i : Int) : Int × Nat × Int × List Int × Nat := clF (s 2) (nO s) i (aO s) (s 5 1) (cdL s k)
theorem v79 {X : (Nat → Int) × Nat} {d : Nat} {s : mSt} {Q : mQ} {a1 : Nat} {x2 : Int} (h1 : isRl a1)
  (z1 : TSq s)
  (z2 : wnC s = (14 : Int) → x2 < 12 → (0 ≤ s 1 4 ∧ s 1 4 ≤ s 1 1 ∧ s 1 1 ≤ 400) ∧ BYq s)
  (z3 : wnC s = (14 : Int) → x2 < 12 → ∀ s3 : mSt, (TKq (s 2) (s 1 1).toNat (sk (s 2) (s 1 1).toNat (s 1 4).toNat) s3 ∧ f1 s s3) → RIq s3 a1 ∧ s3 a1 1 ≤ (aO s3 : Int))
  (z4 : wnC s = (14 : Int) → x2 < 12 → ∀ s3 : mSt, (TKq (s 2) (s 1 1).toNat (sk (s 2) (s 1 1).toNat (s 1 4).toNat) s3 ∧ f1 s s3) → ∀ s4 : mSt, ((smC s3 a1).1 = 0 ∧ RQ1 s3 s4 a1 (smC s3 a1).2.1 (smC s3 a1).2.2.1 (smC s3 a1).2.2.2 ∧ (s4 a1 1 + aO s3 ≤ s3 a1 1 + aO s4 ∧ aO s3 < aO s4) ∧ (0 ≤ s4 5 1 ∧ s4 5 1 ≤ 60)) → TSq s4)
  (z5 : wnC s = (14 : Int) → x2 < 12 → ∀ s3 : mSt, (TKq (s 2) (s 1 1).toNat (sk (s 2) (s 1 1).toNat (s 1 4).toNat) s3 ∧ f1 s s3) → ∀ s4 : mSt, ((smC s3 a1).1 = 0 ∧ RQ1 s3 s4 a1 (smC s3 a1).2.1 (smC s3 a1).2.2.1 (smC s3 a1).2.2.2 ∧ (s4 a1 1 + aO s3 ≤ s3 a1 1 + aO s4 ∧ aO s3 < aO s4) ∧ (0 ≤ s4 5 1 ∧ s4 5 1 ≤ 60)) → wnC s4 = (15 : Int) → (0 ≤ s4 1 4 ∧ s4 1 4 ≤ s4 1 1 ∧ s4 1 1 ≤ 400) ∧ BYq s4)
  (z6 : wnC s = (14 : Int) → x2 < 12 → ∀ s3 : mSt, (TKq (s 2) (s 1 1).toNat (sk (s 2) (s 1 1).toNat (s 1 4).toNat) s3 ∧ f1 s s3) → ∀ s4 : mSt, ((smC s3 a1).1 = 0 ∧ RQ1 s3 s4 a1 (smC s3 a1).2.1 (smC s3 a1).2.2.1 (smC s3 a1).2.2.2 ∧ (s4 a1 1 + aO s3 ≤ s3 a1 1 + aO s4 ∧ aO s3 < aO s4) ∧ (0 ≤ s4 5 1 ∧ s4 5 1 ≤ 60)) → wnC s4 = (15 : Int) → ∀ s6 : mSt, (TKq (s4 2) (s4 1 1).toNat (sk (s4 2) (s4 1 1).toNat (s4 1 4).toNat) s6 ∧ f1 s4 s6) → RIq s6 a1 ∧ s6 a1 1 ≤ (aO s6 : Int) ∧ (0 : Int) = 0)
  (z7 : wnC s = (14 : Int) → x2 < 12 → ∀ s3 : mSt, (TKq (s 2) (s 1 1).toNat (sk (s 2) (s 1 1).toNat (s 1 4).toNat) s3 ∧ f1 s s3) → ∀ s4 : mSt, ((smC s3 a1).1 = 0 ∧ RQ1 s3 s4 a1 (smC s3 a1).2.1 (smC s3 a1).2.2.1 (smC s3 a1).2.2.2 ∧ (s4 a1 1 + aO s3 ≤ s3 a1 1 + aO s4 ∧ aO s3 < aO s4) ∧ (0 ≤ s4 5 1 ∧ s4 5 1 ≤ 60)) → wnC s4 = (15 : Int) → ∀ s6 : mSt, (TKq (s4 2) (s4 1 1).toNat (sk (s4 2) (s4 1 1).toNat (s4 1 4).toNat) s6 ∧ f1 s4 s6) → ∀ s7 : mSt, TQ1 s6 s7 a1 0 → 0 ≤ s7 a1 4 ∧ s7 a1 4 < 12)
  (z8 : wnC s = (14 : Int) → x2 < 12 → ∀ s3 : mSt, (TKq (s 2) (s 1 1).toNat (sk (s 2) (s 1 1).toNat (s 1 4).toNat) s3 ∧ f1 s s3) → ∀ s4 : mSt, ((smC s3 a1).1 = 0 ∧ RQ1 s3 s4 a1 (smC s3 a1).2.1 (smC s3 a1).2.2.1 (smC s3 a1).2.2.2 ∧ (s4 a1 1 + aO s3 ≤ s3 a1 1 + aO s4 ∧ aO s3 < aO s4) ∧ (0 ≤ s4 5 1 ∧ s4 5 1 ≤ 60)) → wnC s4 = (15 : Int) → ∀ s6 : mSt, (TKq (s4 2) (s4 1 1).toNat (sk (s4 2) (s4 1 1).toNat (s4 1 4).toNat) s6 ∧ f1 s4 s6) → ∀ s7 : mSt, TQ1 s6 s7 a1 0 → ∀ s8 : mSt, s8 = uS (uS (uS s7 (a1 + 2) (s7 a1 4).toNat (s4 a1 1)) (a1 + 3) (s7 a1 4).toNat (s7 a1 1)) a1 4 (s7 a1 4 + 1) → Q (some (mI 1)) s8)
  (z9 : wnC s = (14 : Int) → x2 < 12 → ∀ s3 : mSt, (TKq (s 2) (s 1 1).toNat (sk (s 2) (s 1 1).toNat (s 1 4).toNat) s3 ∧ f1 s s3) → ∀ s4 : mSt, ((smC s3 a1).1 = 0 ∧ RQ1 s3 s4 a1 (smC s3 a1).2.1 (smC s3 a1).2.2.1 (smC s3 a1).2.2.2 ∧ (s4 a1 1 + aO s3 ≤ s3 a1 1 + aO s4 ∧ aO s3 < aO s4) ∧ (0 ≤ s4 5 1 ∧ s4 5 1 ≤ 60)) → wnC s4 = (15 : Int) → ∀ s6 : mSt, (TKq (s4 2) (s4 1 1).toNat (sk (s4 2) (s4 1 1).toNat (s4 1 4).toNat) s6 ∧ f1 s4 s6) → ∀ s9 : mSt, TQ0 s6 s9 a1 0 → Q (some (mI 0)) s9)
  (z10 : wnC s = (14 : Int) → x2 < 12 → ∀ s3 : mSt, (TKq (s 2) (s 1 1).toNat (sk (s 2) (s 1 1).toNat (s 1 4).toNat) s3 ∧ f1 s s3) → ∀ s4 : mSt, ((smC s3 a1).1 = 0 ∧ RQ1 s3 s4 a1 (smC s3 a1).2.1 (smC s3 a1).2.2.1 (smC s3 a1).2.2.2 ∧ (s4 a1 1 + aO s3 ≤ s3 a1 1 + aO s4 ∧ aO s3 < aO s4) ∧ (0 ≤ s4 5 1 ∧ s4 5 1 ≤ 60)) → ¬ (wnC s4 = (15 : Int)) → 0 ≤ s4 a1 4 ∧ s4 a1 4 < 12)
  (z11 : wnC s = (14 : Int) → x2 < 12 → ∀ s3 : mSt, (TKq (s 2) (s 1 1).toNat (sk (s 2) (s 1 1).toNat (s 1 4).toNat) s3 ∧ f1 s s3) → ∀ s4 : mSt, ((smC s3 a1).1 = 0 ∧ RQ1 s3 s4 a1 (smC s3 a1).2.1 (smC s3 a1).2.2.1 (smC s3 a1).2.2.2 ∧ (s4 a1 1 + aO s3 ≤ s3 a1 1 + aO s4 ∧ aO s3 < aO s4) ∧ (0 ≤ s4 5 1 ∧ s4 5 1 ≤ 60)) → ¬ (wnC s4 = (15 : Int)) → ∀ s11 : mSt, s11 = uS (uS (uS s4 (a1 + 2) (s4 a1 4).toNat (s4 a1 1)) (a1 + 3) (s4 a1 4).toNat (s4 a1 1)) a1 4 (s4 a1 4 + 1) → Q (some (mI 1)) s11)
  (z12 : wnC s = (14 : Int) → x2 < 12 → ∀ s3 : mSt, (TKq (s 2) (s 1 1).toNat (sk (s 2) (s 1 1).toNat (s 1 4).toNat) s3 ∧ f1 s s3) → ∀ s12 : mSt, RQ0 s3 s12 a1 (smC s3 a1).1 → Q (some (mI 0)) s12)
  (z13 : wnC s = (14 : Int) → ¬ x2 < 12 → (0 ≤ s 1 3 ∧ s 1 3 ≤ 400) ∧ (0 ≤ (4 : Int) ∧ (4 : Int) ≤ 4))
  (z14 : wnC s = (14 : Int) → ¬ x2 < 12 → ∀ v14 : Int, ∀ s14 : mSt, (v14 = 0 ∧ s14 = flC s (4 : Int)) → Q (some (mI v14)) s14)
  (z15 : wnC s = (14 : Int) → ¬ x2 < 12 → ∀ v14 : Int, ∀ s14 : mSt, (v14 = 0 ∧ s14 = flC s (4 : Int)) → v14 = 0 ∨ v14 = 1)
  (z16 : ¬ (wnC s = (14 : Int)) → (0 ≤ s 1 3 ∧ s 1 3 ≤ 400) ∧ (0 ≤ (0 : Int) ∧ (0 : Int) ≤ 4))
  (z17 : ¬ (wnC s = (14 : Int)) → ∀ v16 : Int, ∀ s16 : mSt, (v16 = 0 ∧ s16 = flC s (0 : Int)) → Q (some (mI v16)) s16)
  (z18 : ¬ (wnC s = (14 : Int)) → ∀ v16 : Int, ∀ s16 : mSt, (v16 = 0 ∧ s16 = flC s (0 : Int)) → v16 = 0 ∨ v16 = 1) :
  Sp X (d + 30) 79 [mR 5, mR a1, mI x2] s Q := e79 (b79_0 h1 (c92 z1 (fun q1 => ⟨1, rfl, b79_9 h1 (fun _ => b79_21 h1 (fun q2 => b79_36 h1 (c90 (z2 q1 q2) (fun s3 q3 => ⟨rfl, b79_43 h1 (c82 h1 (z3 q1 q2 s3 q3) (fun s4 q4 => ⟨1, rfl, b79_48 h1 (fun _ => b79_53 h1 (c92 (z4 q1 q2 s3 q3 s4 q4) (fun q5 => ⟨1, rfl, b79_67 h1 (fun q => absurd q (by decide)) (fun _ => b79_70 h1 (c90 (z5 q1 q2 s3 q3 s4 q4 q5) (fun s6 q6 => ⟨rfl, b79_77 h1 (c80q h1 (z6 q1 q2 s3 q3 s4 q4 q5 s6 q6) (fun s7 q7 => ⟨1, rfl, b79_83 h1 (fun _ => b79_88 h1 (c73 h1 (z7 q1 q2 s3 q3 s4 q4 q5 s6 q6 s7 q7) (fun s8 q8 => ⟨rfl, b79_93 h1 (z8 q1 q2 s3 q3 s4 q4 q5 s6 q6 s7 q7 s8 q8)⟩))) (fun q => absurd q (by decide))⟩) (fun s9 q9 => ⟨0, rfl, b79_83 h1 (fun q => absurd q (by decide)) (fun _ => b79_86 h1 (z9 q1 q2 s3 q3 s4 q4 q5 s6 q6 s9 q9))⟩))⟩)))⟩) (fun q10 => ⟨0, rfl, b79_67 h1 (fun _ => b79_88 h1 (c73 h1 (z10 q1 q2 s3 q3 s4 q4 q10) (fun s11 q11 => ⟨rfl, b79_93 h1 (z11 q1 q2 s3 q3 s4 q4 q10 s11 q11)⟩))) (fun q => absurd q (by decide))⟩))) (fun q => absurd q (by decide))⟩) (fun s12 q12 => ⟨0, rfl, b79_48 h1 (fun q => absurd q (by decide)) (fun _ => b79_51 h1 (z12 q1 q2 s3 q3 s12 q12))⟩))⟩))) (fun q13 => b79_27 h1 (c94 (z13 q1 q13) (fun v14 s14 q14 => ⟨v14, rfl, b79_35 h1 (z14 q1 q13 v14 s14 q14) (z15 q1 q13 v14 s14 q14)⟩)))) (fun q => absurd q (by decide))⟩) (fun q15 => ⟨0, rfl, b79_9 h1 (fun q => absurd q (by decide)) (fun _ => b79_12 h1 (c94 (z16 q15) (fun v16 s16 q16 => ⟨v16, rfl, b79_20 h1 (z17 q15 v16 s16 q16) (z18 q15 v16 s16 q16)⟩)))⟩)))

theorem E_end {T : Nat → Int} {n a : Nat} {k : Int} {L : List Int} (w : ¬ wnA T n a = 17) (w2 : ¬ wnA T n a = 16) : mtA T n a k L [] = (0, a, k, L, []) := by
  show mtB T n a k L [] = _
  unfold mtB
  rw [if_neg (fun z => by have := z.2; simp at this), if_neg w, if_neg w2, if_neg (by simp)]
  rfl
theorem cl_fin {s u t : mSt} {k : Nat} {e1 : Nat} {r : Int × Nat × Int × List Int × Nat} (hk : isRl k) (hB : RBq s u k) (h4 : 0 ≤ s k 4) (hz : u k 1 + aO s ≤ s k 1 + aO u ∧ aO s < aO u) (e : t = uS (uS (uS u (k + 2) (u k 4).toNat (e1 : Int)) (k + 3) (u k 4).toNat (u k 1)) k 4 (u k 4 + 1)) (hr : r = (0, aO u, u 5 1, cdL u k, e1)) : r.1 = 0 ∧ CB1 s t k r := by
  have l := rl_8 hk
  have f := hB.2.2.2.2
  have u4 : u k 4 = s k 4 := f.2.1 4 (by decide)
  have c1 : t 1 = u 1 := by rw [e, uS_cell (by omega), uS_cell (by omega), uS_cell (by omega)]
  have c2 : t 2 = u 2 := by rw [e, uS_cell (by omega), uS_cell (by omega), uS_cell (by omega)]
  have c5 : t 5 = u 5 := by rw [e, uS_cell (by omega), uS_cell (by omega), uS_cell (by omega)]
  have ck1 : t (k + 1) = u (k + 1) := by rw [e, uS_cell (by omega), uS_cell (by omega), uS_cell (by omega)]
  have ck : ∀ j, t k j = if j = 4 then u k 4 + 1 else u k j := fun j => by rw [e, uS_at, uS_cell (show k ≠ k + 3 by omega), uS_cell (show k ≠ k + 2 by omega)]
  have k1 : t k 1 = u k 1 := by rw [ck, if_neg (by decide)]
  have ea : aO t = aO u := by unfold aO; rw [c1]
  have n1 : (u k 1) = ((cdL u k).length : Int) := by rw [cdL_n]; have := hB.2.2.2.1; omega
  rw [hr]
  refine ⟨rfl, ⟨TSa_c hB.1 c1 c2, by rw [c1]; exact hB.2.1, by rw [c5], by rw [c5]; exact hB.2.2.1, cdL_c k1 ck1, by rw [k1]; exact hB.2.2.2.1, by rw [k1, ea]; exact hz⟩, by rw [ck, if_pos rfl, u4], ?_, ?_, ?_, ?_⟩
  · funext j
    rw [e, uS_cell (by omega), uS_cell (by omega), uS_at, u4, f.1 (k + 2) (by omega) (by omega) (by omega) (by omega)]
    rfl
  · funext j
    show t (k + 3) j = up (s (k + 3)) (s k 4).toNat ((cdL u k).length : Int) j
    rw [← n1, e, uS_cell (by omega), uS_at, u4, uS_cell (show k + 3 ≠ k + 2 by omega), f.1 (k + 3) (by omega) (by omega) (by omega) (by omega)]
    rfl
  · intro b a1 a2 a3
    rw [e, uS_cell (by omega), uS_cell (by omega), uS_cell (by omega)]
    exact f.1 b a1 a2 (by omega) (by omega)
  · intro j hj
    rw [c5]; exact f.2.2 j hj
theorem CB0_of {s u : mSt} {k : Nat} {f : Int} (h : RQ0 s u k f) : CB0 s u k f := ⟨h.2.1, h.1, h.2.2.1, fRl_r h.2.2.2⟩
theorem c79 {X : (Nat → Int) × Nat} {d : Nat} {s : mSt} {Q : mQ} {a1 : Nat} {x2 : Int} (h1 : isRl a1) (p1 : RIq s a1 ∧ s a1 1 ≤ (aO s : Int) ∧ 0 ≤ x2 ∧ s a1 4 = x2) (k1 : ∀ t : mSt, ((clQ s a1 x2).1 = 0 ∧ CB1 s t a1 (clQ s a1 x2)) → Q (some (mI 1)) t) (k0 : ∀ t : mSt, (CB0 s t a1 (clQ s a1 x2).1) → Q (some (mI 0)) t) : Sp X (d + 30) 79 [mR 5, mR a1, mI x2] s Q := by
  obtain ⟨h, hs, hi, h4⟩ := p1
  have l := rl_8 h1
  have h0 := h.2.2.2
  have hB0 := RB_0 h
  have kb := RB_k hB0
  have ew := wnC_R hB0
  have ts := ts_400 h.1
  have nb := nxA_b (s 2) kb.2.1
  -- behind the word
  have st3 : wnC s = 14 → ∀ u : mSt, (TKq (s 2) (s 1 1).toNat (sk (s 2) (s 1 1).toNat (s 1 4).toNat) u ∧ f1 s u) → RBq s u a1 ∧ smC u a1 = sumF (s 2) (nO s) (nxA (s 2) (nO s) (aO s)) (s 5 1) (cdL s a1) (-1) (-1) ∧ u a1 1 = s a1 1 ∧ aO s < aO u ∧ wnA (s 2) (nO s) (aO s) = 14 := fun a u q => by
    have e := RB_s h1 hB0 q
    have ke := RB_k e.1
    rw [ew] at a
    have lt := nb.2.2 (k_lt (by rw [w_257 (by decide) a]; decide))
    refine ⟨e.1, ?_, e.2.2.2.2, by rw [e.2.1]; exact lt, a⟩
    unfold smC
    rw [ke.2.2.2.1, ke.2.2.2.2, e.2.1, e.2.2.1, e.2.2.2.1]
  have c14 : wnC s = 14 → x2 < 12 → clQ s a1 x2 = if (sumF (s 2) (nO s) (nxA (s 2) (nO s) (aO s)) (s 5 1) (cdL s a1) (-1) (-1)).1 = 0 then cl2 (s 2) (nO s) (sumF (s 2) (nO s) (nxA (s 2) (nO s) (aO s)) (s 5 1) (cdL s a1) (-1) (-1)) else cbd (sumF (s 2) (nO s) (nxA (s 2) (nO s) (aO s)) (s 5 1) (cdL s a1) (-1) (-1)).1 := fun a b => by
    rw [ew] at a
    unfold clQ clF
    rw [if_pos a, if_neg (by omega)]
  refine v79 h1 h.1 ?_ ?_ ?_ ?_ ?_ ?_ ?_ ?_ ?_ ?_ ?_ ?_ ?_ ?_ ?_ ?_ ?_
  · intro a b; exact ⟨ts.2.1, h.1.1⟩
  · intro a b u q
    have e := st3 a u q
    exact ⟨RB_I e.1, by have := e.2.2.1; have := e.2.2.2.1; omega⟩
  · intro a b u q v q2
    have e := st3 a u q
    exact (smC_B (RB_I e.1) q2).1.1.1
  · intro a b u q v q2 c
    have w := (smC_B (RB_I (st3 a u q).1) q2).1
    exact ⟨(ts_400 w.1.1).2.1, w.1.1.1⟩
  · intro a b u q v q2 c t q3
    have e := st3 a u q
    have w := RB_t e.1 (smC_B (RB_I e.1) q2).1
    have r := RB_s h1 w q3
    have kv := RB_k w
    have nv := nxA_b (s 2) kv.2.1
    have ea := r.2.1
    have ez := r.2.2.2.2
    have hz := q2.2.2.1
    have e3 := e.2.2.1
    exact ⟨RB_I r.1, by omega, rfl⟩
  · intro a b u q v q2 c t q3 t2 q4
    have e := st3 a u q
    have w := RB_t e.1 (smC_B (RB_I e.1) q2).1
    have r := RB_s h1 w q3
    have w2 := RB_t r.1 q4.1
    have := w2.2.2.2.2.2.1 4 (by decide)
    omega
  · intro a b u q v q2 c t q3 t2 q4 t3 e3
    have e := st3 a u q
    have w0 := smC_B (RB_I e.1) q2
    have w := RB_t e.1 w0.1
    have r := RB_s h1 w q3
    have w2 := RB_t r.1 q4.1
    have kv := RB_k w
    have kt := RB_k r.1
    have nv := nxA_b (s 2) kv.2.1
    have ea := r.2.1
    have ez := r.2.2.2.2
    have hz := q2.2.2.1
    have hz4 := q4.2.1
    have e31 := e.2.2.1
    have ev := wnC_R w
    rw [ev] at c
    have lv : v a1 1 = ((cdL v a1).length : Int) := by rw [cdL_n]; have := w.2.2.2.1; omega
    rw [lv] at e3
    refine k1 t3 (cl_fin h1 w2 (by omega) ⟨by omega, by omega⟩ e3 ?_)
    rw [c14 a b, ← e.2.1, w0.2, if_pos rfl]
    have hw := q4.2.2.1
    have hR := q4.2.2.2 [] rfl (Or.inl rfl)
    unfold ctA ctS at hR
    rw [kt.2.2.2.1, kt.2.2.2.2] at hR hw
    rw [E_end hw.1 hw.2] at hR
    have et := ts_e (by rw [← kt.2.2.2.2]; exact (RB_k (RB_0 (RB_I r.1))).2.1) hR (Int.le_refl 0)
    rw [r.2.1, r.2.2.1, r.2.2.2.1] at et
    unfold cl2
    rw [if_pos c]
    show (if (tsF (s 2) (nO s) (nxA (s 2) (nO s) (aO v)) (v 5 1) (cdL v a1)).1 = 0 then _ else _) = _
    rw [et, if_pos rfl]
  · intro a b u q v q2 c t q3 t2 q4
    have e := st3 a u q
    have w0 := smC_B (RB_I e.1) q2
    have w := RB_t e.1 w0.1
    have r := RB_s h1 w q3
    have kv := RB_k w
    have kt := RB_k r.1
    have ev := wnC_R w
    rw [ev] at c
    have hR := q4.2 [] rfl (Or.inl rfl)
    unfold ctS at hR
    rw [kt.2.2.2.1, kt.2.2.2.2] at hR
    have f1 : 0 < t2 1 6 := q4.1.2.1
    have f0 : ¬ t2 1 6 = 0 := by omega
    have g : 0 ≤ t2 1 6 := by omega
    have et := ts_e kt.2.1 hR g
    rw [r.2.1, r.2.2.1, r.2.2.2.1] at et
    have ec : clQ s a1 x2 = cbd (t2 1 6) := by
      rw [c14 a b, ← e.2.1, w0.2, if_pos rfl]
      unfold cl2
      rw [if_pos c]
      show (if (tsF (s 2) (nO s) (nxA (s 2) (nO s) (aO v)) (v 5 1) (cdL v a1)).1 = 0 then _ else cbd (tsF (s 2) (nO s) (nxA (s 2) (nO s) (aO v)) (v 5 1) (cdL v a1)).1) = _
      rw [et]
      exact if_neg f0
    refine k0 t2 ?_
    rw [ec]
    exact CB0_of (RQ0_t r.1 q4.1)
  · intro a b u q v q2 c
    have e := st3 a u q
    have w := RB_t e.1 (smC_B (RB_I e.1) q2).1
    have := w.2.2.2.2.2.1 4 (by decide)
    omega
  · intro a b u q v q2 c t e3
    have e := st3 a u q
    have w0 := smC_B (RB_I e.1) q2
    have w := RB_t e.1 w0.1
    have hz := q2.2.2.1
    have e31 := e.2.2.1
    have ev := wnC_R w
    rw [ev] at c
    have lv : v a1 1 = ((cdL v a1).length : Int) := by rw [cdL_n]; have := w.2.2.2.1; omega
    have e3' : t = uS (uS (uS v (a1 + 2) (v a1 4).toNat ((cdL v a1).length : Int)) (a1 + 3) (v a1 4).toNat (v a1 1)) a1 4 (v a1 4 + 1) := by rw [← lv]; exact e3
    refine k1 t (cl_fin h1 w (by omega) ⟨by omega, by omega⟩ e3' ?_)
    rw [c14 a b, ← e.2.1, w0.2, if_pos rfl]
    exact if_neg c
  · intro a b u q v q0
    have e := st3 a u q
    have nz : ¬ (smC u a1).1 = 0 := by have := q0.2.1; omega
    refine k0 v ?_
    rw [c14 a b, ← e.2.1, if_neg nz]
    exact CB0_of (RQ0_t e.1 q0)
  · intro a b; exact ⟨ts.2.2, by decide⟩
  · rintro a b v u ⟨ev, eu⟩
    rw [ev]
    refine k0 u ?_
    rw [ew] at a
    have ec : clQ s a1 x2 = cbd (fuA (aO s) 4) := by unfold clQ clF; rw [if_pos a, if_pos (by omega)]
    rw [ec]
    exact CB0_of (fl_0 h1 h.1 h.2.1 (by decide) eu)
  · intro a b v u e; exact Or.inl e.1
  · intro a; exact ⟨ts.2.2, by decide⟩
  · rintro a v u ⟨ev, eu⟩
    rw [ev]
    refine k0 u ?_
    rw [ew] at a
    have ec : clQ s a1 x2 = cbd (fuA (aO s) 0) := by unfold clQ clF; rw [if_neg a]
    rw [ec]
    exact CB0_of (fl_0 h1 h.1 h.2.1 (by decide) eu)
  · intro a v u e; exact Or.inl e.1
