/-! what is said, as a row of numbers; what the answers are made of -/
abbrev Rw : Type := Nat → Int
def ss (a : Rw) (c p : Nat) : Bool := bq (a (117 + c)) p
def tm (a : Rw) (c p : Nat) : Int := (a (77 + p) * (100 + a (123 + c)) + 99) / 100
def bg (a : Rw) (c p : Nat) : Int := a (47 + 5 * c + p)
def pl (a : Rw) (c : Nat) : Bool := decide (a (41 + c) = 0)
def np (a : Rw) : Nat := (a 3).toNat
def nc (a : Rw) : Nat := (a 4).toNat
def sIn (a : Rw) (c t p : Nat) : Bool := ss a c p && (decide (bg a c p ≤ t) && decide ((t : Int) < bg a c p + tm a c p))
def sat (a : Rw) (c t : Nat) : Bool := an (sIn a c t) (np a)
def fr0 (a : Rw) (t : Nat) : Int := a 1 - a (11 + t) - cn (fun c => pl a c && sat a c t) (nc a)
def fre (a : Rw) (t : Nat) : Int := if fr0 a t < 0 then 0 else fr0 a t
def due (a : Rw) (c t p : Nat) : Bool := ss a c p && (decide (a (6 + p) ≤ t) && decide ((t : Int) < bg a c p))
def kpt (a : Rw) (c t : Nat) : Bool := !sat a c t && an (due a c t) (np a)
def kpo (a : Rw) (c : Nat) : Int := cn (kpt a c) 30
def kpa (a : Rw) : Int := sm (fun c => if pl a c = true then kpo a c else 0) (nc a)
def wrk (a : Rw) (c : Nat) : Int := sm (fun p => if ss a c p = true then tm a c p else 0) (np a)
def wts (a : Rw) : Int := os (fun c => !pl a c) (nc a)
def loA (j : Nat) : Int := if 47 ≤ j ∧ j < 77 then -1 else 0
def hiA (j : Nat) : Int := if j < 1 then 1 else if j < 2 then 9 else if j < 3 then 20 else if j < 4 then 5 else if j < 5 then 6 else if j < 6 then 1000000 else
  if j < 11 then 15 else if j < 41 then 9 else if j < 47 then 1 else if j < 77 then 29 else if j < 82 then 6 else if j < 87 then 15 else if j < 117 then 9 else
  if j < 123 then 31 else if j < 129 then 100 else if j < 135 then 3 else if j < 165 then 29 else 10
def Ok (a : Rw) : Prop := (∀ j, j < 166 → loA j ≤ a j ∧ a j ≤ hiA j) ∧ (∀ c, c < nc a → 1 ≤ a (117 + c) ∧ a (117 + c) < 2 ^ np a) ∧ (∀ p, p < np a → 1 ≤ a (77 + p))
theorem okb {a : Rw} (h : Ok a) {j : Nat} (hj : j < 166) {l u : Int} (hl : l ≤ loA j) (hu : hiA j ≤ u) : l ≤ a j ∧ a j ≤ u := by
  have := h.1 j hj; omega
theorem ok_c {a : Rw} (h : Ok a) {j : Nat} (hj : j < 166) : a j = a j ∧ -1 ≤ a j ∧ a j ≤ 1000000 := by
  have h1 := h.1 j hj
  have h2 := (show ∀ j : Fin 166, -1 ≤ loA j.val ∧ hiA j.val ≤ 1000000 by decide +kernel) ⟨j, hj⟩
  dsimp only at h2
  omega
theorem ok0 {a : Rw} (h : Ok a) : 0 ≤ a 0 ∧ a 0 ≤ 1 := h.1 0 (by decide)
theorem ok1 {a : Rw} (h : Ok a) : 0 ≤ a 1 ∧ a 1 ≤ 9 := h.1 1 (by decide)
theorem ok2 {a : Rw} (h : Ok a) : 0 ≤ a 2 ∧ a 2 ≤ 20 := h.1 2 (by decide)
theorem ok3 {a : Rw} (h : Ok a) : 0 ≤ a 3 ∧ a 3 ≤ 5 := h.1 3 (by decide)
theorem ok4 {a : Rw} (h : Ok a) : 0 ≤ a 4 ∧ a 4 ≤ 6 := h.1 4 (by decide)
theorem ok5 {a : Rw} (h : Ok a) : 0 ≤ a 5 ∧ a 5 ≤ 1000000 := h.1 5 (by decide)
theorem npI {a : Rw} (h : Ok a) : (np a : Int) = a 3 := by have := ok3 h; unfold np; omega
theorem ncI {a : Rw} (h : Ok a) : (nc a : Int) = a 4 := by have := ok4 h; unfold nc; omega
theorem np_le {a : Rw} (h : Ok a) : np a ≤ 5 := by have := ok3 h; unfold np; omega
theorem nc_le {a : Rw} (h : Ok a) : nc a ≤ 6 := by have := ok4 h; unfold nc; omega
theorem okS {a : Rw} (h : Ok a) {p : Nat} (hp : p < 5) : 0 ≤ a (6 + p) ∧ a (6 + p) ≤ 15 := by
  refine okb h (by omega) ?_ ?_
  · exact (show ∀ p : Fin 5, (0 : Int) ≤ loA (6 + p.val) by decide) ⟨p, hp⟩
  · exact (show ∀ p : Fin 5, hiA (6 + p.val) ≤ 15 by decide) ⟨p, hp⟩
theorem okT {a : Rw} (h : Ok a) {p : Nat} (hp : p < 30) : 0 ≤ a (11 + p) ∧ a (11 + p) ≤ 9 := by
  refine okb h (by omega) ?_ ?_
  · exact (show ∀ p : Fin 30, (0 : Int) ≤ loA (11 + p.val) by decide) ⟨p, hp⟩
  · exact (show ∀ p : Fin 30, hiA (11 + p.val) ≤ 9 by decide) ⟨p, hp⟩
theorem okW {a : Rw} (h : Ok a) {p : Nat} (hp : p < 6) : 0 ≤ a (41 + p) ∧ a (41 + p) ≤ 1 := by
  refine okb h (by omega) ?_ ?_
  · exact (show ∀ p : Fin 6, (0 : Int) ≤ loA (41 + p.val) by decide) ⟨p, hp⟩
  · exact (show ∀ p : Fin 6, hiA (41 + p.val) ≤ 1 by decide) ⟨p, hp⟩
theorem okB {a : Rw} (h : Ok a) {c p : Nat} (hc : c < 6) (hp : p < 5) : -1 ≤ bg a c p ∧ bg a c p ≤ 29 := by
  refine okb h (by omega) ?_ ?_
  · exact (show ∀ c : Fin 6, ∀ p : Fin 5, (-1 : Int) ≤ loA (47 + 5 * c.val + p.val) by decide) ⟨c, hc⟩ ⟨p, hp⟩
  · exact (show ∀ c : Fin 6, ∀ p : Fin 5, hiA (47 + 5 * c.val + p.val) ≤ 29 by decide) ⟨c, hc⟩ ⟨p, hp⟩
theorem okL {a : Rw} (h : Ok a) {p : Nat} (hp : p < 5) : 0 ≤ a (77 + p) ∧ a (77 + p) ≤ 6 := by
  refine okb h (by omega) ?_ ?_
  · exact (show ∀ p : Fin 5, (0 : Int) ≤ loA (77 + p.val) by decide) ⟨p, hp⟩
  · exact (show ∀ p : Fin 5, hiA (77 + p.val) ≤ 6 by decide) ⟨p, hp⟩
theorem okTS {a : Rw} (h : Ok a) {p : Nat} (hp : p < 5) : 0 ≤ a (82 + p) ∧ a (82 + p) ≤ 15 := by
  refine okb h (by omega) ?_ ?_
  · exact (show ∀ p : Fin 5, (0 : Int) ≤ loA (82 + p.val) by decide) ⟨p, hp⟩
  · exact (show ∀ p : Fin 5, hiA (82 + p.val) ≤ 15 by decide) ⟨p, hp⟩
theorem okTT {a : Rw} (h : Ok a) {p : Nat} (hp : p < 30) : 0 ≤ a (87 + p) ∧ a (87 + p) ≤ 9 := by
  refine okb h (by omega) ?_ ?_
  · exact (show ∀ p : Fin 30, (0 : Int) ≤ loA (87 + p.val) by decide) ⟨p, hp⟩
  · exact (show ∀ p : Fin 30, hiA (87 + p.val) ≤ 9 by decide) ⟨p, hp⟩
theorem okP {a : Rw} (h : Ok a) {p : Nat} (hp : p < 6) : 0 ≤ a (117 + p) ∧ a (117 + p) ≤ 31 := by
  refine okb h (by omega) ?_ ?_
  · exact (show ∀ p : Fin 6, (0 : Int) ≤ loA (117 + p.val) by decide) ⟨p, hp⟩
  · exact (show ∀ p : Fin 6, hiA (117 + p.val) ≤ 31 by decide) ⟨p, hp⟩
theorem okE {a : Rw} (h : Ok a) {p : Nat} (hp : p < 6) : 0 ≤ a (123 + p) ∧ a (123 + p) ≤ 100 := by
  refine okb h (by omega) ?_ ?_
  · exact (show ∀ p : Fin 6, (0 : Int) ≤ loA (123 + p.val) by decide) ⟨p, hp⟩
  · exact (show ∀ p : Fin 6, hiA (123 + p.val) ≤ 100 by decide) ⟨p, hp⟩
theorem okRe {a : Rw} (h : Ok a) {p : Nat} (hp : p < 6) : 0 ≤ a (129 + p) ∧ a (129 + p) ≤ 3 := by
  refine okb h (by omega) ?_ ?_
  · exact (show ∀ p : Fin 6, (0 : Int) ≤ loA (129 + p.val) by decide) ⟨p, hp⟩
  · exact (show ∀ p : Fin 6, hiA (129 + p.val) ≤ 3 by decide) ⟨p, hp⟩
theorem okN {a : Rw} (h : Ok a) {p : Nat} (hp : p < 30) : 0 ≤ a (135 + p) ∧ a (135 + p) ≤ 29 := by
  refine okb h (by omega) ?_ ?_
  · exact (show ∀ p : Fin 30, (0 : Int) ≤ loA (135 + p.val) by decide) ⟨p, hp⟩
  · exact (show ∀ p : Fin 30, hiA (135 + p.val) ≤ 29 by decide) ⟨p, hp⟩
theorem okNM {a : Rw} (h : Ok a) : 0 ≤ a 165 ∧ a 165 ≤ 10 := h.1 165 (by decide)
theorem mul_le6 {x y : Int} (h1 : 0 ≤ x) (h2 : x ≤ 6) (h3 : 0 ≤ y) (h4 : y ≤ 200) : 0 ≤ x * y ∧ x * y ≤ 1200 := by
  refine ⟨Int.mul_nonneg h1 h3, ?_⟩
  exact Int.le_trans (Int.mul_le_mul_of_nonneg_right h2 h3) (by omega)
theorem tm_raw {a : Rw} (h : Ok a) {c p : Nat} (hc : c < 6) (hp : p < 5) : 0 ≤ a (77 + p) * (100 + a (123 + c)) ∧ a (77 + p) * (100 + a (123 + c)) ≤ 1200 := by
  have h1 := okL h hp
  have h2 := okE h hc
  exact mul_le6 h1.1 h1.2 (by omega) (by omega)
theorem tm_bd {a : Rw} (h : Ok a) {c p : Nat} (hc : c < 6) (hp : p < 5) : 0 ≤ tm a c p ∧ tm a c p ≤ 12 := by
  have := tm_raw h hc hp
  unfold tm
  omega
theorem tm_pos {a : Rw} (h : Ok a) {c p : Nat} (hc : c < 6) (hp : p < np a) : 1 ≤ tm a c p := by
  have h1 := h.2.2 p hp
  have h2 := okE h hc
  have h3 : 1 * 100 ≤ a (77 + p) * (100 + a (123 + c)) := Int.mul_le_mul h1 (by omega) (by omega) (by omega)
  unfold tm
  omega
theorem wrk_bd {a : Rw} (h : Ok a) {c : Nat} (hc : c < 6) : 0 ≤ wrk a c ∧ wrk a c ≤ 60 := by
  have hn := np_le h
  have := sm_bd (f := fun p => if ss a c p = true then tm a c p else 0) (b := 12) (n := np a) (fun i hi => by
    have := tm_bd h hc (show i < 5 by omega)
    try dsimp only
    split <;> omega)
  unfold wrk
  omega
theorem wts_bd {a : Rw} (h : Ok a) : 0 ≤ wts a ∧ wts a < 64 := by
  have h1 := nc_le h
  have h2 := os_lt (f := fun c => !pl a c) (n := nc a)
  have h3 : (2:Int) ^ nc a ≤ 2 ^ 6 := by
    have : (2:Nat) ^ nc a ≤ 2 ^ 6 := Nat.pow_le_pow_right (by decide) h1
    exact_mod_cast this
  unfold wts
  omega
theorem fre_bd {a : Rw} (h : Ok a) {t : Nat} (ht : t < 30) : 0 ≤ fre a t ∧ fre a t ≤ 9 := by
  have h1 := ok1 h
  have h2 := okT h ht
  have h3 := cn_le (f := fun c => pl a c && sat a c t) (n := nc a)
  unfold fre fr0
  split <;> omega
theorem kpo_bd {a : Rw} {c : Nat} : 0 ≤ kpo a c ∧ kpo a c ≤ 30 := cn_le
theorem kpa_bd {a : Rw} (h : Ok a) : 0 ≤ kpa a ∧ kpa a ≤ 180 := by
  have hn := nc_le h
  have := sm_bd (f := fun c => if pl a c = true then kpo a c else 0) (b := 30) (n := nc a) (fun i hi => by
    have := kpo_bd (a := a) (c := i)
    try dsimp only
    split <;> omega)
  unfold kpa
  omega
