/-! the small machine's cells in the machine's heap: cell k lies at base + k -/
def mFKd (ci j : Nat) : Nat := (mFK.getD ci []).getD j 0
def mNf (ci : Nat) : Nat := match mCl[ci]? with
  | some q => q.2.2
  | none => 0
def mUp (base : Nat) (sp : Nat → Nat) (v : mV) : Value := match v with
  | Sum.inl x => .int (Int32.ofInt x)
  | Sum.inr (Sum.inl x) => .long (Int64.ofInt x)
  | Sum.inr (Sum.inr (Sum.inl none)) => .null
  | Sum.inr (Sum.inr (Sum.inl (some k))) => .ref (base + k)
  | Sum.inr (Sum.inr (Sum.inr j)) => .ref (sp j)
def nrV (v : mV) : Prop := match v with
  | Sum.inl x => nr32 x
  | Sum.inr (Sum.inl x) => nr64 x
  | _ => True
def nrS (st : List mV) : Prop := match st with
  | [] => True
  | v :: t => nrV v ∧ nrS t
def mRf (base r : Nat) : Value := match r with
  | 0 => .null
  | k + 1 => .ref (base + k)
def mFv (base : Nat) (q : mSh) (j : Nat) (x : Int) : Value :=
  if mFKd q.1 j = 1 then .long (Int64.ofInt x) else if mFKd q.1 j = 2 then mRf base (q.2.2.getD j 0) else .int (Int32.ofInt x)
def mRw (base : Nat) (x : Int) : Option Nat := if x < 0 then none else some (base + x.toNat)
def mEnt (base : Nat) (dA : Nat → ClassId) (q : mSh) (f : Nat → Int) : va_E :=
  if q.1 < 20 then .inr (q.1, (List.range (mNf q.1)).map (fun j => mFv base q j (f j)))
  else if q.1 = 23 then .inl (dA q.1, q.2.1, .inr (.inl (fun j => Int64.ofInt (f j))))
  else if q.1 < 25 then .inl (dA q.1, q.2.1, .inl (fun j => Int32.ofInt (f j)))
  else .inl (dA q.1, q.2.1, .inr (.inr (.inr (.inr (fun j => mRw base (f j))))))
def mD : mSh := (99, 0, [])
def mWs (base : Nat) (dA : Nat → ClassId) (S : List mSh) (s : mSt) : va_W := (List.range S.length).map (fun k => (base + k, mEnt base dA (S.getD k mD) (s k)))
/-- what numbers a cell may hold -/
def nrC (q : mSh) (j : Nat) (x : Int) : Prop := if q.1 = 23 ∨ (q.1 < 20 ∧ mFKd q.1 j = 1) then nr64 x else if q.1 < 25 then nr32 x else True
def nrH (S : List mSh) (s : mSt) : Prop := ∀ (k : Nat) (q : mSh), S[k]? = some q → q.2.1 ≤ 2400 ∧ ∀ j, nrC q j (s k j)
def mTys (dA : Nat → ClassId) : List (ClassId × FieldType) := [(dA 20, .byte), (dA 21, .char), (dA 22, .int), (dA 23, .long), (dA 24, .boolean), (dA 25, .object "ClashDay$Board"), (dA 26, .object "ClashDay$Rule"), (dA 27, .object "ClashDay$Scene"), (dA 28, .array .int)]
def mA (base : Nat) : Nat → Prop := fun q => base ≤ q
def HV (base : Nat) (D : va_G) (dA : Nat → ClassId) (H0 : Heap) (S : List mSh) (s : mSt) (H : Heap) (locs : List Loc) : Prop :=
  va_P D mCl (mWs base dA S s) H ∧ va_S (mA base) H0 H locs ∧ nrH S s
theorem mWs_len {base : Nat} {dA : Nat → ClassId} {S : List mSh} {s : mSt} : (mWs base dA S s).length = S.length := by simp [mWs]
theorem mWs_at {base : Nat} {dA : Nat → ClassId} {S : List mSh} {s : mSt} {k : Nat} {q : mSh} (h : S[k]? = some q) : (mWs base dA S s)[k]? = some (base + k, mEnt base dA q (s k)) := by
  have hk : k < S.length := (List.getElem?_eq_some_iff.mp h).1
  have hq : S.getD k mD = q := by rw [List.getD_eq_getElem?_getD, h]; rfl
  unfold mWs
  rw [List.getElem?_map, List.getElem?_range hk, Option.map_some, hq]
theorem mWs_lt {base : Nat} {dA : Nat → ClassId} {S : List mSh} {s : mSt} {k : Nat} {x : Nat × va_E} (h : (mWs base dA S s)[k]? = some x) : k < S.length ∧ x.1 = base + k := by
  have hk : k < (mWs base dA S s).length := (List.getElem?_eq_some_iff.mp h).1
  rw [mWs_len] at hk
  refine ⟨hk, ?_⟩
  rw [mWs_at (List.getElem?_eq_getElem hk)] at h
  cases h
  rfl
theorem mWs_D {base : Nat} {dA : Nat → ClassId} {S : List mSh} {s : mSt} : va_D (mA base) (mWs base dA S s) := by
  refine ⟨fun i j p q h1 h2 e => ?_, fun k q h => ?_⟩
  · have a := mWs_lt h1
    have b := mWs_lt h2
    omega
  · have a := mWs_lt h
    show base ≤ q.1
    omega
theorem mWs_set {base : Nat} {dA : Nat → ClassId} {S S' : List mSh} {s s' : mSt} {k : Nat} {q' : mSh} {E : va_E} (hl : S'.length = S.length) (hq : S'[k]? = some q') (ho : ∀ j, j ≠ k → S'[j]? = S[j]? ∧ s' j = s j) (hE : mEnt base dA q' (s' k) = E) :
    (mWs base dA S s).set k (base + k, E) = mWs base dA S' s' := by
  have hk' : k < S'.length := (List.getElem?_eq_some_iff.mp hq).1
  apply List.ext_getElem?
  intro j
  by_cases hj : j = k
  · subst hj
    rw [List.getElem?_set_self (by rw [mWs_len]; omega), mWs_at hq, hE]
  · rw [List.getElem?_set_ne (fun e => hj e.symm)]
    obtain ⟨h1, h2⟩ := ho j hj
    cases hc : S[j]? with
    | none =>
      have a : S.length ≤ j := List.getElem?_eq_none_iff.mp hc
      rw [List.getElem?_eq_none_iff.mpr (by rw [mWs_len]; exact a), List.getElem?_eq_none_iff.mpr (by rw [mWs_len]; omega)]
    | some q =>
      rw [mWs_at hc, mWs_at (h1.trans hc), h2]
theorem mWs_push {base : Nat} {dA : Nat → ClassId} {S : List mSh} {s s' : mSt} {q : mSh} {E : va_E} (ho : ∀ j, j < S.length → s' j = s j) (hE : mEnt base dA q (s' S.length) = E) :
    mWs base dA S s ++ [(base + S.length, E)] = mWs base dA (S ++ [q]) s' := by
  apply List.ext_getElem?
  intro j
  rcases Nat.lt_trichotomy j S.length with hj | hj | hj
  · rw [List.getElem?_append_left (by rw [mWs_len]; exact hj), mWs_at (List.getElem?_eq_getElem hj), mWs_at (q := S[j]) (by rw [List.getElem?_append_left hj, List.getElem?_eq_getElem hj]), ho j hj]
  · subst hj
    rw [List.getElem?_append_right (by rw [mWs_len]; exact Nat.le_refl _), mWs_len, Nat.sub_self, mWs_at (q := q) (by rw [List.getElem?_append_right (Nat.le_refl _), Nat.sub_self]; rfl), hE]
    rfl
  · rw [List.getElem?_eq_none_iff.mpr (by rw [List.length_append, mWs_len]; show S.length + 1 ≤ j; omega), List.getElem?_eq_none_iff.mpr (by rw [mWs_len, List.length_append]; show S.length + 1 ≤ j; omega)]
theorem kS_at {S : List mSh} {a kd : Nat} (h : kS S a = kd) (hk : kd ≠ 99) : ∃ n rs, S[a]? = some (kd, n, rs) := by
  unfold kS at h
  cases hc : S[a]? with
  | none => rw [hc] at h; exact absurd h.symm hk
  | some q => rw [hc] at h; subst h; exact ⟨q.2.1, q.2.2, rfl⟩
theorem aS_at {S : List mSh} {a kd n : Nat} (h : aS S a kd n) (hk : kd ≠ 99) : ∃ rs, S[a]? = some (kd, n, rs) := by
  obtain ⟨h1, h2⟩ := h
  obtain ⟨n', rs, e⟩ := kS_at h1 hk
  unfold nS at h2
  rw [e] at h2
  subst h2
  exact ⟨rs, e⟩
theorem ent_obj {base : Nat} {dA : Nat → ClassId} {q : mSh} {f : Nat → Int} (h : q.1 < 20) : mEnt base dA q f = .inr (q.1, (List.range (mNf q.1)).map (fun j => mFv base q j (f j))) := by unfold mEnt; rw [if_pos h]
theorem ent_int {base : Nat} {dA : Nat → ClassId} {q : mSh} {f : Nat → Int} (h : 20 ≤ q.1) (h1 : q.1 ≠ 23) (h2 : q.1 < 25) : mEnt base dA q f = .inl (dA q.1, q.2.1, .inl (fun j => Int32.ofInt (f j))) := by
  unfold mEnt; rw [if_neg (by omega), if_neg h1, if_pos h2]
theorem ent_long {base : Nat} {dA : Nat → ClassId} {q : mSh} {f : Nat → Int} (h1 : q.1 = 23) : mEnt base dA q f = .inl (dA q.1, q.2.1, .inr (.inl (fun j => Int64.ofInt (f j)))) := by
  unfold mEnt; rw [if_neg (by omega), if_pos h1]
theorem ent_ref {base : Nat} {dA : Nat → ClassId} {q : mSh} {f : Nat → Int} (h : 25 ≤ q.1) : mEnt base dA q f = .inl (dA q.1, q.2.1, .inr (.inr (.inr (.inr (fun j => mRw base (f j)))))) := by
  unfold mEnt; rw [if_neg (by omega), if_neg (by omega), if_neg (by omega)]
theorem nrC_int {q : mSh} {j : Nat} {x : Int} (h : 20 ≤ q.1) (h1 : q.1 ≠ 23) (h2 : q.1 < 25) : nrC q j x ↔ nr32 x := by
  unfold nrC; rw [if_neg (by omega), if_pos h2]
theorem nrC_long {q : mSh} {j : Nat} {x : Int} (h : q.1 = 23) : nrC q j x ↔ nr64 x := by
  unfold nrC; rw [if_pos (Or.inl h)]
theorem nrC_ref {q : mSh} {j : Nat} {x : Int} (h : 25 ≤ q.1) : nrC q j x := by
  unfold nrC; rw [if_neg (by omega), if_neg (by omega)]; trivial
theorem nrC_f0 {q : mSh} {j : Nat} {x : Int} (h : q.1 < 20) (h1 : mFKd q.1 j ≠ 1) : nrC q j x ↔ nr32 x := by
  unfold nrC
  rw [if_neg (by rintro (a | a) <;> omega), if_pos (by omega)]
theorem nrC_f1 {q : mSh} {j : Nat} {x : Int} (h : q.1 < 20) (h1 : mFKd q.1 j = 1) : nrC q j x ↔ nr64 x := by
  unfold nrC
  rw [if_pos (Or.inr ⟨h, h1⟩)]
theorem nrH_up {S : List mSh} {s : mSt} {a k : Nat} {q : mSh} {x : Int} (h : nrH S s) (ha : S[a]? = some q) (hx : nrC q k x) : nrH S (uS s a k x) := by
  intro b p hb
  refine ⟨(h b p hb).1, fun j => ?_⟩
  unfold uS
  by_cases e : b = a ∧ j = k
  · rw [if_pos e]
    obtain ⟨rfl, rfl⟩ := e
    cases hb.symm.trans ha
    exact hx
  · rw [if_neg e]; exact (h b p hb).2 j
/-- variables -/
def mHas (base : Nat) (sp : Nat → Nat) (rls : Array Slot) (nL : Nat) (ls : mLo) : Prop := ls.length = nL ∧ rls.size = nL ∧ lv_wf rls ∧ ∀ (i : Nat) (v : mV), ls[i]? = some (some v) → rls[i]? = some (.val (mUp base sp v)) ∧ nrV v
theorem mHas_lv {base : Nat} {sp : Nat → Nat} {rls : Array Slot} {nL : Nat} {ls : mLo} (h : mHas base sp rls nL ls) {i : Nat} {v : mV} (hi : ls[i]? = some (some v)) : lv_has rls nL [(i, mUp base sp v)] := by
  refine ⟨h.2.1, h.2.2.1, fun q hq => ?_⟩
  rw [List.mem_singleton] at hq
  subst hq
  exact (h.2.2.2 i v hi).1
theorem mUp_cat {base : Nat} {sp : Nat → Nat} (v : mV) : (mUp base sp v).category = 2 ↔ ∃ x, v = mJ x := by
  rcases v with x | x | (_ | k) | j
  · simp [mUp, Value.category]
  · simp [mUp, Value.category]
  · simp [mUp, Value.category]
  · simp [mUp, Value.category]
  · simp [mUp, Value.category]
/-- the list behind a store, by places -/
theorem sL_el {v : mV} : ∀ {ls : mLo} {i : Nat} {k : mLo → Prop}, sL ls i v k → ∃ ls', k ls' ∧ i < ls.length ∧ ls'.length = ls.length ∧ ls'[i]? = some (some v) ∧ ∀ (j : Nat) (u : mV), j ≠ i → ls'[j]? = some (some u) → ls[j]? = some (some u) ∧ ¬ (j + 1 = i ∧ ∃ x, u = mJ x) := by
  intro ls
  induction ls with
  | nil => intro i k h; cases i <;> exact False.elim h
  | cons a t ih =>
    intro i k h
    cases i with
    | zero =>
      refine ⟨_, h, by simp, by simp, by simp, fun j u hj hu => ?_⟩
      cases j with
      | zero => exact absurd rfl hj
      | succ j => exact ⟨by simpa using hu, by omega⟩
    | succ n =>
      obtain ⟨t', h1, h2, h3, h4, h5⟩ := ih (k := fun t' => k (kL n a :: t')) h
      refine ⟨_, h1, by simpa using h2, by simpa using h3, by simpa using h4, fun j u hj hu => ?_⟩
      cases j with
      | zero =>
        have hw : kL n a = some u := by simpa using hu
        clear hu
        unfold kL at hw
        split at hw
        · cases hw
        · rename_i hne
          refine ⟨by simpa using hw, ?_⟩
          rintro ⟨e, x, rfl⟩
          have e : n = 0 := by omega
          subst e
          exact hne _ rfl hw
      | succ j =>
        have := h5 j u (by omega) (by simpa using hu)
        exact ⟨by simpa using this.1, fun ⟨e, x⟩ => this.2 ⟨by omega, x⟩⟩
theorem sJ_el {v : mV} : ∀ {ls : mLo} {i : Nat} {k : mLo → Prop}, sJ ls i v k → ∃ ls', k ls' ∧ i + 1 < ls.length ∧ ls'.length = ls.length ∧ ls'[i]? = some (some v) ∧ ∀ (j : Nat) (u : mV), j ≠ i → ls'[j]? = some (some u) → j ≠ i + 1 ∧ ls[j]? = some (some u) ∧ ¬ (j + 1 = i ∧ ∃ x, u = mJ x) := by
  intro ls
  induction ls with
  | nil => intro i k h; cases i <;> exact False.elim h
  | cons a t ih =>
    intro i k h
    cases i with
    | zero =>
      cases t with
      | nil => exact False.elim h
      | cons b t =>
        refine ⟨_, h, by simp, by simp, by simp, fun j u hj hu => ?_⟩
        match j, hj, hu with
        | 1, _, hu => simp at hu
        | j + 2, _, hu => exact ⟨by omega, by simpa using hu, by omega⟩
    | succ n =>
      have e : sJ (a :: t) (n + 1) v k = sJ t n v (fun t' => k (kL n a :: t')) := by cases t <;> rfl
      rw [e] at h
      obtain ⟨t', h1, h2, h3, h4, h5⟩ := ih (k := fun t' => k (kL n a :: t')) h
      refine ⟨_, h1, by simpa using h2, by simpa using h3, by simpa using h4, fun j u hj hu => ?_⟩
      cases j with
      | zero =>
        have hw : kL n a = some u := by simpa using hu
        clear hu
        unfold kL at hw
        split at hw
        · cases hw
        · rename_i hne
          refine ⟨by omega, by simpa using hw, ?_⟩
          rintro ⟨e, x, rfl⟩
          have e : n = 0 := by omega
          subst e
          exact hne _ rfl hw
      | succ j =>
        have := h5 j u (by omega) (by simpa using hu)
        exact ⟨by omega, by simpa using this.2.1, fun ⟨e, x⟩ => this.2.2 ⟨by omega, x⟩⟩
theorem mHas_1 {base : Nat} {sp : Nat → Nat} {rls : Array Slot} {nL : Nat} {ls : mLo} {i : Nat} {v : mV} {k : mLo → Prop} (h : mHas base sp rls nL ls) (hs : sL ls i v k) (hc : (mUp base sp v).category = 1) (hv : nrV v) :
    ∃ rls' ls', storeLocals rls i (mUp base sp v) = some rls' ∧ k ls' ∧ mHas base sp rls' nL ls' := by
  obtain ⟨ls', h1, h2, h3, h4, h5⟩ := sL_el hs
  have hi : i < nL := by rw [← h.1]; exact h2
  obtain ⟨rls', e1, a1, a2, a3⟩ := lv_store1 (l := []) (ls := rls) (nL := nL) (i := i) (v := mUp base sp v) ⟨h.2.1, h.2.2.1, fun q hq => by cases hq⟩ hi hc
  refine ⟨rls', ls', e1, h1, h3.trans h.1, a1, a2, fun j u hu => ?_⟩
  by_cases hj : j = i
  · subst hj
    rw [h4] at hu
    cases hu
    exact ⟨a3 (j, mUp base sp v) List.mem_cons_self, hv⟩
  · obtain ⟨b1, b2⟩ := h5 j u hj hu
    obtain ⟨rls2, e2, -, -, c3⟩ := lv_store1 (i := i) (v := mUp base sp v) (mHas_lv h b1) hi hc
    cases e1.symm.trans e2
    refine ⟨c3 (j, mUp base sp u) (List.mem_cons_of_mem _ (List.mem_filter.mpr ⟨List.mem_cons_self, ?_⟩)), (h.2.2.2 j u b1).2⟩
    by_cases e : j + 1 = i
    · have : ¬ (mUp base sp u).category = 2 := fun z => b2 ⟨e, (mUp_cat u).mp z⟩
      simp [hj, e, this]
    · simp [hj, e]
theorem mHas_2 {base : Nat} {sp : Nat → Nat} {rls : Array Slot} {nL : Nat} {ls : mLo} {i : Nat} {x : Int} {k : mLo → Prop} (h : mHas base sp rls nL ls) (hs : sJ ls i (mJ x) k) (hv : nr64 x) :
    ∃ rls' ls', storeLocals rls i (.long (Int64.ofInt x)) = some rls' ∧ k ls' ∧ mHas base sp rls' nL ls' := by
  obtain ⟨ls', h1, h2, h3, h4, h5⟩ := sJ_el hs
  have hi : i + 1 < nL := by rw [← h.1]; exact h2
  obtain ⟨rls', e1, a1, a2, a3⟩ := lv_store2 (l := []) (ls := rls) (nL := nL) (i := i) (v := .long (Int64.ofInt x)) ⟨h.2.1, h.2.2.1, fun q hq => by cases hq⟩ hi rfl
  refine ⟨rls', ls', e1, h1, h3.trans h.1, a1, a2, fun j u hu => ?_⟩
  by_cases hj : j = i
  · subst hj
    rw [h4] at hu
    cases hu
    exact ⟨a3 (j, .long (Int64.ofInt x)) List.mem_cons_self, hv⟩
  · obtain ⟨b0, b1, b2⟩ := h5 j u hj hu
    obtain ⟨rls2, e2, -, -, c3⟩ := lv_store2 (i := i) (v := .long (Int64.ofInt x)) (mHas_lv h b1) hi rfl
    cases e1.symm.trans e2
    refine ⟨c3 (j, mUp base sp u) (List.mem_cons_of_mem _ (List.mem_filter.mpr ⟨List.mem_cons_self, ?_⟩)), (h.2.2.2 j u b1).2⟩
    by_cases e : j + 1 = i
    · have : ¬ (mUp base sp u).category = 2 := fun z => b2 ⟨e, (mUp_cat u).mp z⟩
      simp [hj, b0, e, this]
    · simp [hj, b0, e]
