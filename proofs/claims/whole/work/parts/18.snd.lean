/-! THE SMALL MACHINE IS SOUND -/
theorem eI_el {st : List mV} {k : Int → List mV → Prop} (h : eI st k) : ∃ x t, st = mI x :: t ∧ k x t := by
  unfold eI at h; split at h
  · exact ⟨_, _, rfl, h⟩
  · exact False.elim h
theorem eJ_el {st : List mV} {k : Int → List mV → Prop} (h : eJ st k) : ∃ x t, st = mJ x :: t ∧ k x t := by
  unfold eJ at h; split at h
  · exact ⟨_, _, rfl, h⟩
  · exact False.elim h
theorem eR_el {st : List mV} {k : Nat → List mV → Prop} (h : eR st k) : ∃ x t, st = mR x :: t ∧ k x t := by
  unfold eR at h; split at h
  · exact ⟨_, _, rfl, h⟩
  · exact False.elim h
theorem eX_el {st : List mV} {k : Nat → List mV → Prop} (h : eX st k) : ∃ x t, st = mX x :: t ∧ k x t := by
  unfold eX at h; split at h
  · exact ⟨_, _, rfl, h⟩
  · exact False.elim h
theorem eO_el {st : List mV} {k : Option Nat → List mV → Prop} (h : eO st k) : ∃ x t, st = Sum.inr (Sum.inr (Sum.inl x)) :: t ∧ k x t := by
  unfold eO at h; split at h
  · exact ⟨_, _, rfl, h⟩
  · exact False.elim h
theorem gI_el {ls : mLo} {i : Nat} {k : Int → Prop} (h : gI ls i k) : ∃ x, ls[i]? = some (some (mI x)) ∧ k x := by
  unfold gI at h; split at h
  · rename_i e; exact ⟨_, e, h⟩
  · exact False.elim h
theorem gJ_el {ls : mLo} {i : Nat} {k : Int → Prop} (h : gJ ls i k) : ∃ x, ls[i]? = some (some (mJ x)) ∧ k x := by
  unfold gJ at h; split at h
  · rename_i e; exact ⟨_, e, h⟩
  · exact False.elim h
theorem gA_el {ls : mLo} {i : Nat} {k : mV → Prop} (h : gA ls i k) : ∃ r, ls[i]? = some (some (Sum.inr (Sum.inr r))) ∧ k (Sum.inr (Sum.inr r)) := by
  unfold gA at h; split at h
  · rename_i e; exact ⟨_, e, h⟩
  · exact False.elim h
def isRet (rk : Nat) (i : Instr) (r : Option mV) : Prop := (i = .return_ ∧ r = none ∧ (rk = 0 ∨ rk = 6)) ∨ (i = .ireturn ∧ ∃ x, r = some (mI x) ∧ okR rk x) ∨ (i = .lreturn ∧ ∃ x, r = some (mJ x) ∧ rk = 4) ∨ (i = .areturn ∧ ∃ q, r = some (Sum.inr (Sum.inr (Sum.inl q))) ∧ rk = 5)
/-- the rows of the words' String -/
def STR (l : Launch) (base : Nat) (sp : Nat → Nat) (D : va_G) (dA : Nat → ClassId) (SK : State → Prop) : Prop :=
  ∀ (p : Program) (e : Env) (R : Room) (U : State) (m : MethodId) (args : Array Value) (below : List Frame) (meth : Method) (c : Code) (Q : State → Prop) (mi B n0 bud pc : Nat) (ls : mLo) (st : List mV) (S : List mSh) (s : mSt), mi < 311 → (mY mi).cls = "ClashDay$Tape" → FX p U m args meth c D dA mi → EX SK U → U.heap.size = base + n0 → (B ≤ R.cells ∧ 2400 * B ≤ R.slots) →
  (decode (mB mi) pc = .ok (.ldc 37, 2) → WG p l e R U m args below meth c Q base sp D dA (mML mi) B n0 bud (pc + 2) ls (mX 1 :: st) S s → WG p l e R U m args below meth c Q base sp D dA (mML mi) B n0 bud pc ls st S s) ∧
  (∀ idx, (5 ≤ R.frames ∧ 300 ≤ R.locals) → sW st ≤ 8 → Cond.methodLink "ClashDay$Tape" idx sLen ∈ mT → decode (mB mi) pc = .ok (.invokevirtual idx, 3) → WG p l e R U m args below meth c Q base sp D dA (mML mi) B n0 bud (pc + 3) ls (mI 105 :: st) S s → WG p l e R U m args below meth c Q base sp D dA (mML mi) B n0 bud pc ls (mX 1 :: st) S s) ∧
  (∀ idx (j : Int), (5 ≤ R.frames ∧ 300 ≤ R.locals) → sW st ≤ 8 → 0 ≤ j ∧ j < 105 → Cond.methodLink "ClashDay$Tape" idx sChr ∈ mT → decode (mB mi) pc = .ok (.invokevirtual idx, 3) → WG p l e R U m args below meth c Q base sp D dA (mML mi) B n0 bud (pc + 3) ls (mI (mTx.getD j.toNat 0 : Nat) :: st) S s → WG p l e R U m args below meth c Q base sp D dA (mML mi) B n0 bud pc ls (mI j :: mX 1 :: st) S s)
/-- soundness in a frame, for so many steps -/
def SND (X : (Nat → Int) × Nat) (l : Launch) (base : Nat) (sp : Nat → Nat) (D : va_G) (dA : Nat → ClassId) (SK : State → Prop) (n : Nat) : Prop :=
  ∀ (d bud mi pc : Nat) (ls : mLo) (st : List mV) (S : List mSh) (s : mSt) (K : mRt) (p : Program) (e : Env) (R : Room) (U : State) (m : MethodId) (args : Array Value) (below : List Frame) (meth : Method) (c : Code) (Q : State → Prop) (B n0 : Nat), mi < 311 → wp X n d bud mi pc ls st S s K → FX p U m args meth c D dA mi → EX SK U → U.heap.size = base + n0 → (d ≤ R.frames ∧ 60 * d ≤ R.locals) → (B ≤ R.cells ∧ 2400 * B ≤ R.slots) → (mi = 0 → SX X U base sp) →
  (∀ r S s pc ls i, K r S s → isRet (mRk mi) i r → decode (mB mi) pc = .ok (i, 1) → WG p l e R U m args below meth c Q base sp D dA (mML mi) B n0 0 pc ls r.toList S s) → WG p l e R U m args below meth c Q base sp D dA (mML mi) B n0 bud pc ls st S s
theorem mArgs_sl {base : Nat} {sp : Nat → Nat} : ∀ (as : List mV), (lg_sl (as.map (mUp base sp))).length = (mArgs as).length
  | [] => rfl
  | Sum.inl x :: t => by
    show (Slot.val (Value.int _) :: lg_sl (t.map (mUp base sp))).length = (mArgs t).length + 1
    rw [List.length_cons, mArgs_sl t]
  | Sum.inr (Sum.inl x) :: t => by
    show (Slot.val (Value.long _) :: Slot.second :: lg_sl (t.map (mUp base sp))).length = (mArgs t).length + 1 + 1
    rw [List.length_cons, List.length_cons, mArgs_sl t]
  | Sum.inr (Sum.inr (Sum.inl none)) :: t => by
    show (Slot.val (Value.null) :: lg_sl (t.map (mUp base sp))).length = (mArgs t).length + 1
    rw [List.length_cons, mArgs_sl t]
  | Sum.inr (Sum.inr (Sum.inl (some k))) :: t => by
    show (Slot.val (Value.ref _) :: lg_sl (t.map (mUp base sp))).length = (mArgs t).length + 1
    rw [List.length_cons, mArgs_sl t]
  | Sum.inr (Sum.inr (Sum.inr j)) :: t => by
    show (Slot.val (Value.ref _) :: lg_sl (t.map (mUp base sp))).length = (mArgs t).length + 1
    rw [List.length_cons, mArgs_sl t]
theorem mArgs_in {base : Nat} {sp : Nat → Nat} : ∀ (as : List mV) (k i : Nat) (v : mV), nrS as → (mArgs as)[i]? = some (some v) → (k + i, mUp base sp v) ∈ lv_args k (as.map (mUp base sp)) ∧ nrV v := by
  intro as
  induction as with
  | nil => intro k i v _ h; simp [mArgs] at h
  | cons a t ih =>
    intro k i v hn h
    have one : (mUp base sp a).category = 1 → mArgs (a :: t) = some a :: mArgs t → (k + i, mUp base sp v) ∈ lv_args k ((a :: t).map (mUp base sp)) ∧ nrV v := by
      intro hc e
      rw [e] at h
      cases i with
      | zero =>
        have h : a = v := by simpa using h
        subst h
        exact ⟨List.mem_cons_self, hn.1⟩
      | succ i =>
        have := ih (k + 1) i v hn.2 (by simpa using h)
        refine ⟨?_, this.2⟩
        show _ ∈ (k, mUp base sp a) :: lv_args (if (mUp base sp a).category = 2 then k + 2 else k + 1) (t.map (mUp base sp))
        rw [hc, if_neg (by decide), show k + (i + 1) = k + 1 + i by omega]
        exact List.mem_cons_of_mem _ this.1
    rcases a with x | x | (_ | r) | j
    · exact one rfl rfl
    · match i, h with
      | 0, h =>
        have h : (mJ x : mV) = v := by simpa [mArgs] using h
        subst h
        exact ⟨List.mem_cons_self, hn.1⟩
      | 1, h => simp [mArgs] at h
      | i + 2, h =>
        have := ih (k + 2) i v hn.2 (by simpa [mArgs] using h)
        refine ⟨?_, this.2⟩
        show _ ∈ (k, Value.long (Int64.ofInt x)) :: lv_args (k + 2) (t.map (mUp base sp))
        rw [show k + (i + 2) = k + 2 + i by omega]
        exact List.mem_cons_of_mem _ this.1
    · exact one rfl rfl
    · exact one rfl rfl
    · exact one rfl rfl
theorem mHas_entry {base : Nat} {sp : Nat → Nat} {as : List mV} {n : Nat} (hn : nrS as) (hl : (mArgs as).length ≤ n) : mHas base sp ((lg_sl (as.map (mUp base sp)) ++ List.replicate (n - (lg_sl (as.map (mUp base sp))).length) Slot.unset).toArray) n (mLoc as n) := by
  have h := lv_entry (as.map (mUp base sp)) (n := n) (by rw [mArgs_sl]; exact hl)
  refine ⟨by unfold mLoc; rw [List.length_append, List.length_replicate]; omega, h.1, h.2.1, fun i v hi => ?_⟩
  unfold mLoc at hi
  rcases Nat.lt_or_ge i (mArgs as).length with hk | hk
  · rw [List.getElem?_append_left hk] at hi
    have := mArgs_in (base := base) (sp := sp) as 0 i v hn hi
    rw [Nat.zero_add] at this
    exact ⟨h.2.2 _ this.1, this.2⟩
  · rw [List.getElem?_append_right hk, List.getElem?_replicate] at hi
    split at hi <;> cases hi
theorem okR_3 {x : Int} (h : 0 ≤ x ∧ x < 65536) : narrow .char (.int (Int32.ofInt x)) = .int (Int32.ofInt x) := by
  have h1 := nar_c h
  have h2 := pk_nc (Int32.ofInt x)
  have h3 := q_i2c (x := x) (by unfold nr32; omega)
  rw [show x % 65536 = x by omega] at h3
  rw [h3] at h2
  exact h2
/-- a method's contract out of its runs -/
theorem met_of {X : (Nat → Int) × Nat} {l : Launch} {base : Nat} {sp : Nat → Nat} {D : va_G} {dA : Nat → ClassId} {SK : State → Prop} {n : Nat} (hP : SND X l base sp D dA SK n) {d mj : Nat} {as : List mV} {S : List mSh} {s : mSt} {K : mRt} (h0 : 0 < mj) (h1 : mj < 311) (hl : (mArgs as).length ≤ mML mj) (h : wp X n d (mCe mj) mj 0 (mLoc as (mML mj)) [] S s K) : MetW l base sp D dA SK d mj as S s K := by
  have hK := MK_all h0 h1
  refine Met.ofW (cc := mB mj) (maxL := mML mj) (ret := mRet mj) hK.2.2.2.1 rfl ?_
  intro p e U m args below meth c s₁ Bd hml hpre
  obtain ⟨rfl, hp1, hp2, hp3, hp4, hp5, hp6⟩ := hpre
  have hts := atoms_spec (ws := wsM mj) Bd.pre
  have hown : U.vm.findClass (mY mj).cls = some m.cls := findClass_of_methodNamed Bd.named
  have F : FX p U m (as.map (mUp base sp)).toArray meth c D dA mj := ⟨Bd.exec, Bd.bytes, hml, hown, fun w hw => hts w (List.mem_cons_of_mem _ hw), hp5, Bd.returns, Bd.notSynchronized, (name_of_methodNamed Bd.named Bd.method).1⟩
  rw [lg_entry_eq]
  refine hP d (mCe mj) mj 0 (mLoc as (mML mj)) [] S s K p e _ U m _ below meth c _ (mCe mj) S.length h1 h F hp6 hp2 ⟨Nat.le_refl _, Nat.le_refl _⟩ ⟨Nat.le_refl _, Nat.le_refl _⟩ (fun q => by omega) ?_ U.heap [] 0 0 _ ⟨hp1, va_S.rf, hp3⟩ (mHas_entry hp4 hl) trivial ⟨by omega, rfl⟩ (by omega)
  intro r S' s' pc ls i hk hr hd
  intro H locs cells slots rls hv hl2 hn hc hz
  have hlen : S'.length = S.length + mCe mj := by omega
  have hcc : cells = mCe mj := by omega
  refine W.widen (k := mCe mj) (n := 2400 * mCe mj) (by omega) (by rw [← hcc]; exact hz) ?_
  have fin : ∀ t : State, t.heap = H → U.WarmedH t.vm → nrO r → QcW base sp D dA (S.length + mCe mj) K (as.map (mUp base sp)).toArray U (.returned (r.map (mUp base sp))) t := fun t ht _ hno => ⟨⟨r, S', s', rfl, hk, by rw [ht]; exact hv.1, hv.2.2, hno, hlen⟩, va_S.F hv.2.1 ht⟩
  obtain ⟨-, -, -, -, -, k6, k7, k8, k9, k10, k11, -⟩ := hK
  rcases hr with ⟨rfl, rfl, hrk⟩ | ⟨rfl, x, rfl, hx⟩ | ⟨rfl, x, rfl, hx⟩ | ⟨rfl, q, rfl, hx⟩
  · exact W.vret F.1 F.2.1 (F.2.2.2.2.2.2.1.trans (k6 hrk)) (fun t a b => fin t a b trivial) hv.2.1.2.2 hd F.2.2.2.2.2.2.2.1
  · unfold okR at hx
    split at hx
    · rename_i hq
      exact W.iret F.1 F.2.1 (F.2.2.2.2.2.2.1.trans (k7 hq)) (fun t a b => fin t a b hn.1) hv.2.1.2.2 hd F.2.2.2.2.2.2.2.1
    · rename_i hq
      exact W.zret F.1 F.2.1 (F.2.2.2.2.2.2.1.trans (k8 hq)) (by rcases hx with rfl | rfl <;> rfl) (fun t a b => fin t a b hn.1) hv.2.1.2.2 hd F.2.2.2.2.2.2.2.1
    · rename_i hq
      exact W.zret F.1 F.2.1 (F.2.2.2.2.2.2.1.trans (k9 hq)) (okR_3 hx) (fun t a b => fin t a b hn.1) hv.2.1.2.2 hd F.2.2.2.2.2.2.2.1
    · exact False.elim hx
  · exact W.lret F.1 F.2.1 (F.2.2.2.2.2.2.1.trans (k10 hx)) (fun t a b => fin t a b hn.1) hv.2.1.2.2 hd F.2.2.2.2.2.2.2.1
  · obtain ⟨nm, hnm⟩ := k11 hx
    exact W.aret F.1 F.2.1 (F.2.2.2.2.2.2.1.trans hnm) (Or.inl ⟨nm, rfl⟩) (by cases q with | none => exact Or.inl rfl | some k => exact Or.inr ⟨_, rfl⟩) (fun t a b => fin t a b trivial) hv.2.1.2.2 hd F.2.2.2.2.2.2.2.1
