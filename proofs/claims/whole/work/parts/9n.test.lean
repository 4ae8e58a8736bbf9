/-! tests: a machine with a stack of what is open -/
def stg (x : Int) : Nat := if x = 200011 then 1 else if x = 200010 then 2 else if x = 200012 then 3 else 0
def lyD (m : Nat) : List Int → List Int → List Int × List Int
  | L, [] => (L, [])
  | L, x :: K => if m ≤ stg x then lyD m (L ++ [x]) K else (L, x :: K)
def dpK : List Int → Int
  | [] => 0
  | x :: K => (if x = 200012 ∨ x = 91 then 1 else 0) + dpK K
/-- a comparison read -/
def cpF (T : Nat → Int) (n a : Nat) (k : Int) (L : List Int) : Int × Nat × Int × List Int :=
  if (sumF T n a k L (-1) (-1)).1 = 0 then
    if cmC (tkK T n (sumF T n a k L (-1) (-1)).2.1) = -1 then (fuA (sumF T n a k L (-1) (-1)).2.1 0, a, k, L)
    else if 60 ≤ (sumF T n a k L (-1) (-1)).2.2.1 then (fuA (sumF T n a k L (-1) (-1)).2.1 3, a, k, L)
    else if (sumF T n (nxA T n (sumF T n a k L (-1) (-1)).2.1) ((sumF T n a k L (-1) (-1)).2.2.1 + 1) (sumF T n a k L (-1) (-1)).2.2.2 (-1) (-1)).1 = 0 then
      (0, (sumF T n (nxA T n (sumF T n a k L (-1) (-1)).2.1) ((sumF T n a k L (-1) (-1)).2.2.1 + 1) (sumF T n a k L (-1) (-1)).2.2.2 (-1) (-1)).2.1, (sumF T n (nxA T n (sumF T n a k L (-1) (-1)).2.1) ((sumF T n a k L (-1) (-1)).2.2.1 + 1) (sumF T n a k L (-1) (-1)).2.2.2 (-1) (-1)).2.2.1, (sumF T n (nxA T n (sumF T n a k L (-1) (-1)).2.1) ((sumF T n a k L (-1) (-1)).2.2.1 + 1) (sumF T n a k L (-1) (-1)).2.2.2 (-1) (-1)).2.2.2 ++ [cmC (tkK T n (sumF T n a k L (-1) (-1)).2.1)])
    else ((sumF T n (nxA T n (sumF T n a k L (-1) (-1)).2.1) ((sumF T n a k L (-1) (-1)).2.2.1 + 1) (sumF T n a k L (-1) (-1)).2.2.2 (-1) (-1)).1, a, k, L)
  else ((sumF T n a k L (-1) (-1)).1, a, k, L)
def bad (f : Int) : Int × Nat × Int × List Int × List Int := (f, 0, 0, [], [])
/-- one step: at a fact (-1), behind one (-2); 0 and above: at the end -/
def mtF (T : Nat → Int) (n a : Nat) (k : Int) (L K : List Int) : Int × Nat × Int × List Int × List Int :=
  if wnA T n a = 18 then (if 10 ≤ dpK K then bad (fuA a 2) else (-1, nxA T n a, k, L, 200012 :: K))
  else if tkK T n a = 91 then (if 10 ≤ dpK K then bad (fuA a 2) else (-1, nxA T n a, k, L, 91 :: K))
  else if (cpF T n a k L).1 = 0 then (-2, (cpF T n a k L).2.1, (cpF T n a k L).2.2.1, (cpF T n a k L).2.2.2, K)
  else bad (cpF T n a k L).1
def mtB (T : Nat → Int) (n a : Nat) (k : Int) (L K : List Int) : Int × Nat × Int × List Int × List Int :=
  if tkK T n a = 93 ∧ 91 ∈ K then (-2, nxA T n a, k, (lyD 1 L K).1, (lyD 1 L K).2.tail)
  else if wnA T n a = 17 then (-1, nxA T n a, k, (lyD 2 L K).1, 200010 :: (lyD 2 L K).2)
  else if wnA T n a = 16 then (-1, nxA T n a, k, (lyD 1 L K).1, 200011 :: (lyD 1 L K).2)
  else if 91 ∈ K then bad (fuA a 0)
  else (0, a, k, (lyD 1 L K).1, [])
def mtA (T : Nat → Int) (n a : Nat) (k : Int) (L K : List Int) : Int × Nat × Int × List Int × List Int := mtB T n a k (lyD 3 L K).1 (lyD 3 L K).2
def mtP (T : Nat → Int) (n : Nat) (x : Int × Nat × Int × List Int × List Int) : Int × Nat × Int × List Int × List Int :=
  if x.1 = -1 then mtF T n x.2.1 x.2.2.1 x.2.2.2.1 x.2.2.2.2 else if x.1 = -2 then mtA T n x.2.1 x.2.2.1 x.2.2.2.1 x.2.2.2.2 else x
def itr (T : Nat → Int) (n : Nat) : Nat → Int × Nat × Int × List Int × List Int → Int × Nat × Int × List Int × List Int
  | 0, x => x
  | m + 1, x => itr T n m (mtP T n x)
theorem itr_add (T : Nat → Int) (n : Nat) : ∀ i j x, itr T n (i + j) x = itr T n j (itr T n i x)
  | 0, j, x => by rw [Nat.zero_add]; rfl
  | i + 1, j, x => by rw [show i + 1 + j = (i + j) + 1 by omega]; exact itr_add T n i j (mtP T n x)
def rch (T : Nat → Int) (n : Nat) (x y : Int × Nat × Int × List Int × List Int) : Prop := ∃ m, itr T n m x = y
theorem rch_0 {T : Nat → Int} {n : Nat} (x : Int × Nat × Int × List Int × List Int) : rch T n x x := ⟨0, rfl⟩
theorem rch_t {T : Nat → Int} {n : Nat} {x y z : Int × Nat × Int × List Int × List Int} (h1 : rch T n x y) (h2 : rch T n y z) : rch T n x z := by
  obtain ⟨i, hi⟩ := h1
  obtain ⟨j, hj⟩ := h2
  exact ⟨i + j, by rw [itr_add, hi, hj]⟩
theorem rch_s {T : Nat → Int} {n : Nat} (x : Int × Nat × Int × List Int × List Int) : rch T n x (mtP T n x) := ⟨1, rfl⟩
theorem itr_d {T : Nat → Int} {n : Nat} {x : Int × Nat × Int × List Int × List Int} (h : 0 ≤ x.1) : ∀ m, itr T n m x = x
  | 0 => rfl
  | m + 1 => by
    have e : mtP T n x = x := by unfold mtP; rw [if_neg (by omega), if_neg (by omega)]
    show itr T n m (mtP T n x) = x
    rw [e]; exact itr_d h m
theorem rch_d {T : Nat → Int} {n : Nat} {x y z : Int × Nat × Int × List Int × List Int} (h1 : rch T n x y) (h2 : rch T n x z) (hy : 0 ≤ y.1) (hz : 0 ≤ z.1) : y = z := by
  obtain ⟨i, hi⟩ := h1
  obtain ⟨j, hj⟩ := h2
  have e1 : itr T n (i + j) x = y := by rw [itr_add, hi, itr_d hy]
  have e2 : itr T n (i + j) x = z := by rw [Nat.add_comm, itr_add, hj, itr_d hz]
  exact e1.symm.trans e2
def okK (K : List Int) : Prop := K = [] ∨ ∃ K', K = 91 :: K'
theorem lyD_ok {K : List Int} (h : okK K) {m : Nat} (hm : 1 ≤ m) (L : List Int) : lyD m L K = (L, K) := by
  rcases h with rfl | ⟨K', rfl⟩
  · rfl
  · exact if_neg (by show ¬ m ≤ 0; omega)
def pnd (y3 y4 : Int) : List Int := (if y3 = 0 then [] else [200010]) ++ (if y4 = 0 then [] else [200011])
theorem w_257 {T : Nat → Int} {n a : Nat} {w : Int} (hw : 0 ≤ w) (h : wnA T n a = w) : tkK T n a = 257 := by
  unfold wnA at h
  by_cases z : tkK T n a = 257
  · exact z
  · rw [if_neg z] at h; omega
theorem lyD_p3 {K : List Int} (h : okK K) (y3 y4 : Int) (L : List Int) : lyD 3 L (pnd y3 y4 ++ K) = (L, pnd y3 y4 ++ K) := by
  unfold pnd
  by_cases a : y3 = 0
  · by_cases b : y4 = 0
    · rw [if_pos a, if_pos b]; exact lyD_ok h (by decide) L
    · rw [if_pos a, if_neg b]; rfl
  · by_cases b : y4 = 0
    · rw [if_neg a, if_pos b]; rfl
    · rw [if_neg a, if_neg b]; rfl
theorem lyD_p2 {K : List Int} (h : okK K) (y3 y4 : Int) (L : List Int) : lyD 2 L (pnd y3 y4 ++ K) = (L ++ (if y3 = 0 then [] else [200010]), pnd 0 y4 ++ K) := by
  unfold pnd
  have ok := fun L => lyD_ok h (m := 2) (by decide) L
  by_cases a : y3 = 0
  · by_cases b : y4 = 0
    · rw [if_pos a, if_pos b]; exact (ok L).trans (by simp)
    · rw [if_pos a, if_neg b]; show (L, _) = _; simp
  · by_cases b : y4 = 0
    · rw [if_neg a, if_pos b]; exact (ok _).trans (by simp)
    · rw [if_neg a, if_neg b]; rfl
theorem lyD_p1 {K : List Int} (h : okK K) (y3 y4 : Int) (L : List Int) : lyD 1 L (pnd y3 y4 ++ K) = (L ++ pnd y3 y4, K) := by
  unfold pnd
  have ok := fun L => lyD_ok h (m := 1) (by decide) L
  by_cases a : y3 = 0
  · by_cases b : y4 = 0
    · rw [if_pos a, if_pos b]; exact (ok L).trans (by simp)
    · rw [if_pos a, if_neg b]; exact (ok _).trans (by simp)
  · by_cases b : y4 = 0
    · rw [if_neg a, if_pos b]; exact (ok _).trans (by simp)
    · rw [if_neg a, if_neg b]; exact (ok _).trans (by simp)
theorem mem_p {K : List Int} (y3 y4 : Int) : 91 ∈ pnd y3 y4 ++ K ↔ 91 ∈ K := by
  unfold pnd
  by_cases a : y3 = 0 <;> by_cases b : y4 = 0 <;> simp [a, b]
theorem dp_p (K : List Int) (y3 y4 : Int) : dpK (pnd y3 y4 ++ K) = dpK K := by
  unfold pnd
  by_cases a : y3 = 0 <;> by_cases b : y4 = 0 <;> simp [a, b, dpK]
theorem S_and {T : Nat → Int} {n a : Nat} {k : Int} {L K : List Int} (h : okK K) (y3 y4 : Int) (w : wnA T n a = 17) : mtA T n a k L (pnd y3 y4 ++ K) = (-1, nxA T n a, k, L ++ (if y3 = 0 then [] else [200010]), pnd 1 y4 ++ K) := by
  have t := w_257 (by decide) w
  unfold mtA
  rw [lyD_p3 h]
  unfold mtB
  rw [if_neg (fun z => by have := z.1; omega), if_pos w, lyD_p2 h]
  rfl
theorem S_or {T : Nat → Int} {n a : Nat} {k : Int} {L K : List Int} (h : okK K) (y3 y4 : Int) (w : wnA T n a = 16) : mtA T n a k L (pnd y3 y4 ++ K) = (-1, nxA T n a, k, L ++ pnd y3 y4, pnd 0 1 ++ K) := by
  have t := w_257 (by decide) w
  unfold mtA
  rw [lyD_p3 h]
  unfold mtB
  rw [if_neg (fun z => by have := z.1; omega), if_neg (by omega), if_pos w, lyD_p1 h]
  rfl
theorem S_end {T : Nat → Int} {n a : Nat} {k : Int} {L K : List Int} (h : okK K) (y3 y4 : Int) (w : ¬ wnA T n a = 17) (w2 : ¬ wnA T n a = 16) : mtA T n a k L (pnd y3 y4 ++ K) = mtA T n a k (L ++ pnd y3 y4) K := by
  unfold mtA
  rw [lyD_p3 h, lyD_ok h (by decide)]
  show mtB T n a k L (pnd y3 y4 ++ K) = mtB T n a k (L ++ pnd y3 y4) K
  unfold mtB
  by_cases z : tkK T n a = 93 ∧ 91 ∈ K
  · rw [if_pos z, if_pos ⟨z.1, (mem_p y3 y4).2 z.2⟩, lyD_p1 h, lyD_ok h (by decide)]
  · rw [if_neg z, if_neg (fun y => z ⟨y.1, (mem_p y3 y4).1 y.2⟩), if_neg w, if_neg w, if_neg w2, if_neg w2]
    by_cases y : 91 ∈ K
    · rw [if_pos y, if_pos ((mem_p y3 y4).2 y)]
    · rw [if_neg y, if_neg (fun x => y ((mem_p y3 y4).1 x)), lyD_p1 h, lyD_ok h (by decide)]
theorem S_not {T : Nat → Int} {n a : Nat} {k : Int} {L K : List Int} : mtA T n a k L (200012 :: K) = mtA T n a k (L ++ [200012]) K := rfl
