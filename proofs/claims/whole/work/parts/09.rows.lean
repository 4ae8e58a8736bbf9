/-! a row an instruction: from the small machine to the machine -/
/-- the words that hold in every frame -/
def mT : List Cond := lw_tbl.filter goodWord
/-- what is known in a frame of method mi -/
def FX (p : Program) (U : State) (m : MethodId) (args : Array Value) (meth : Method) (c : Code) (D : va_G) (dA : Nat → ClassId) (mi : Nat) : Prop :=
  p.tables.exec = Jvm.exec ∧ c.code = mB mi ∧ c.maxLocals = mML mi ∧ U.vm.findClass (mY mi).cls = some m.cls ∧ (∀ w ∈ mT, w.before args U = true) ∧ va_K D mCl (mTys dA) U ∧ meth.sig.returnType = mRet mi ∧ meth.locks = false ∧ meth.name = (mY mi).name
def WG (p : Program) (l : Launch) (e : Env) (R : Room) (U : State) (m : MethodId) (args : Array Value) (below : List Frame) (meth : Method) (c : Code) (Q : State → Prop) (base : Nat) (sp : Nat → Nat) (D : va_G) (dA : Nat → ClassId) (nL B n0 bud pc : Nat) (ls : mLo) (st : List mV) (S : List mSh) (s : mSt) : Prop :=
  ∀ (H : Heap) (locs : List Loc) (cells slots : Nat) (rls : Array Slot), HV base D dA U.heap S s H locs → mHas base sp rls nL ls → nrS st → (cells + bud = B ∧ S.length + bud = n0 + B) → slots ≤ 2400 * cells → W p l e R U m args below meth c H locs cells slots Q (F0 m pc rls (st.map (mUp base sp)))
theorem nrV_of {base : Nat} {sp : Nat → Nat} {rls : Array Slot} {nL : Nat} {ls : mLo} (h : mHas base sp rls nL ls) {i : Nat} {v : mV} (hi : ls[i]? = some (some v)) : nrV v := (h.2.2.2 i v hi).2
section RW
variable {p : Program} {l : Launch} {e : Env} {R : Room} {U : State} {m : MethodId} {args : Array Value} {below : List Frame} {meth : Method} {c : Code} {Q : State → Prop}
variable {base : Nat} {sp : Nat → Nat} {D : va_G} {dA : Nat → ClassId} {mi nL B n0 bud pc : Nat} {ls : mLo} {st : List mV} {S : List mSh} {s : mSt}
theorem r_iconst (F : FX p U m args meth c D dA mi) {v : Int} (hv0 : nr32 v) (hd : decode (mB mi) pc = .ok (.iconst v, 1)) (h : WG p l e R U m args below meth c Q base sp D dA nL B n0 bud (pc + 1) ls (mI v :: st) S s) : WG p l e R U m args below meth c Q base sp D dA nL B n0 bud pc ls st S s := by
  intro H locs cells slots rls hv hl hn hc hz
  refine lv_iconst F.1 F.2.1 hd rfl ?_
  exact h H locs cells slots rls hv hl ⟨hv0, hn⟩ hc hz
theorem r_bipush (F : FX p U m args meth c D dA mi) {v : Int} (hv0 : -128 ≤ v ∧ v < 128) (hd : decode (mB mi) pc = .ok (.bipush v, 2)) (h : WG p l e R U m args below meth c Q base sp D dA nL B n0 bud (pc + 2) ls (mI v :: st) S s) : WG p l e R U m args below meth c Q base sp D dA nL B n0 bud pc ls st S s := by
  intro H locs cells slots rls hv hl hn hc hz
  refine lv_bipush F.1 F.2.1 hd (q_push8 hv0) ?_
  exact h H locs cells slots rls hv hl ⟨(show nr32 _ by unfold nr32; omega), hn⟩ hc hz
theorem r_sipush (F : FX p U m args meth c D dA mi) {v : Int} (hv0 : -32768 ≤ v ∧ v < 32768) (hd : decode (mB mi) pc = .ok (.sipush v, 3)) (h : WG p l e R U m args below meth c Q base sp D dA nL B n0 bud (pc + 3) ls (mI v :: st) S s) : WG p l e R U m args below meth c Q base sp D dA nL B n0 bud pc ls st S s := by
  intro H locs cells slots rls hv hl hn hc hz
  refine lv_sipush F.1 F.2.1 hd (q_push16 hv0) ?_
  exact h H locs cells slots rls hv hl ⟨(show nr32 _ by unfold nr32; omega), hn⟩ hc hz
theorem r_lconst (F : FX p U m args meth c D dA mi) {v : Fin 2} (hd : decode (mB mi) pc = .ok (.lconst v, 1)) (h : WG p l e R U m args below meth c Q base sp D dA nL B n0 bud (pc + 1) ls (mJ v.val :: st) S s) : WG p l e R U m args below meth c Q base sp D dA nL B n0 bud pc ls st S s := by
  intro H locs cells slots rls hv hl hn hc hz
  refine lv_lconst F.1 F.2.1 hd (v := Int64.ofInt v.val) rfl ?_
  exact h H locs cells slots rls hv hl ⟨(show nr64 _ by unfold nr64; omega), hn⟩ hc hz
theorem r_null (F : FX p U m args meth c D dA mi)  (hd : decode (mB mi) pc = .ok (.aconst_null, 1)) (h : WG p l e R U m args below meth c Q base sp D dA nL B n0 bud (pc + 1) ls (mN :: st) S s) : WG p l e R U m args below meth c Q base sp D dA nL B n0 bud pc ls st S s := by
  intro H locs cells slots rls hv hl hn hc hz
  refine lv_null F.1 F.2.1 hd ?_
  exact h H locs cells slots rls hv hl ⟨trivial, hn⟩ hc hz
theorem r_iload (F : FX p U m args meth c D dA mi) {n : Nat} {x : Int} (hi : ls[n]? = some (some (mI x))) (hd : decode (mB mi) pc = .ok (.iload n, 2)) (h : WG p l e R U m args below meth c Q base sp D dA nL B n0 bud (pc + 2) ls (mI x :: st) S s) : WG p l e R U m args below meth c Q base sp D dA nL B n0 bud pc ls st S s := by
  intro H locs cells slots rls hv hl hn hc hz
  refine lv_iload F.1 F.2.1 hd (hl.2.2.2 n _ hi).1 ?_
  exact h H locs cells slots rls hv hl ⟨nrV_of hl hi, hn⟩ hc hz
theorem r_iload_n (F : FX p U m args meth c D dA mi) {n : Fin 4} {x : Int} (hi : ls[n.val]? = some (some (mI x))) (hd : decode (mB mi) pc = .ok (.iload_n n, 1)) (h : WG p l e R U m args below meth c Q base sp D dA nL B n0 bud (pc + 1) ls (mI x :: st) S s) : WG p l e R U m args below meth c Q base sp D dA nL B n0 bud pc ls st S s := by
  intro H locs cells slots rls hv hl hn hc hz
  refine lv_iload_n F.1 F.2.1 hd rfl (hl.2.2.2 n.val _ hi).1 ?_
  exact h H locs cells slots rls hv hl ⟨nrV_of hl hi, hn⟩ hc hz
theorem r_lload (F : FX p U m args meth c D dA mi) {n : Nat} {x : Int} (hi : ls[n]? = some (some (mJ x))) (hd : decode (mB mi) pc = .ok (.lload n, 2)) (h : WG p l e R U m args below meth c Q base sp D dA nL B n0 bud (pc + 2) ls (mJ x :: st) S s) : WG p l e R U m args below meth c Q base sp D dA nL B n0 bud pc ls st S s := by
  intro H locs cells slots rls hv hl hn hc hz
  refine lv_lload F.1 F.2.1 hd (hl.2.2.2 n _ hi).1 ?_
  exact h H locs cells slots rls hv hl ⟨nrV_of hl hi, hn⟩ hc hz
theorem r_lload_n (F : FX p U m args meth c D dA mi) {n : Fin 4} {x : Int} (hi : ls[n.val]? = some (some (mJ x))) (hd : decode (mB mi) pc = .ok (.lload_n n, 1)) (h : WG p l e R U m args below meth c Q base sp D dA nL B n0 bud (pc + 1) ls (mJ x :: st) S s) : WG p l e R U m args below meth c Q base sp D dA nL B n0 bud pc ls st S s := by
  intro H locs cells slots rls hv hl hn hc hz
  refine lv_lload_n F.1 F.2.1 hd rfl (hl.2.2.2 n.val _ hi).1 ?_
  exact h H locs cells slots rls hv hl ⟨nrV_of hl hi, hn⟩ hc hz
theorem r_aload (F : FX p U m args meth c D dA mi) {n : Nat} {r : Sum (Option Nat) Nat} (hi : ls[n]? = some (some (Sum.inr (Sum.inr r)))) (hd : decode (mB mi) pc = .ok (.aload n, 2)) (h : WG p l e R U m args below meth c Q base sp D dA nL B n0 bud (pc + 2) ls (Sum.inr (Sum.inr r) :: st) S s) : WG p l e R U m args below meth c Q base sp D dA nL B n0 bud pc ls st S s := by
  intro H locs cells slots rls hv hl hn hc hz
  have hk := (hl.2.2.2 n _ hi).1
  rcases r with (_ | k) | j
  · refine lv_aloadN F.1 F.2.1 hd  hk ?_
    exact h H locs cells slots rls hv hl ⟨trivial, hn⟩ hc hz
  · refine lv_aload F.1 F.2.1 hd  hk ?_
    exact h H locs cells slots rls hv hl ⟨trivial, hn⟩ hc hz
  · refine lv_aload F.1 F.2.1 hd  hk ?_
    exact h H locs cells slots rls hv hl ⟨trivial, hn⟩ hc hz
theorem r_aload_n (F : FX p U m args meth c D dA mi) {n : Fin 4} {r : Sum (Option Nat) Nat} (hi : ls[n.val]? = some (some (Sum.inr (Sum.inr r)))) (hd : decode (mB mi) pc = .ok (.aload_n n, 1)) (h : WG p l e R U m args below meth c Q base sp D dA nL B n0 bud (pc + 1) ls (Sum.inr (Sum.inr r) :: st) S s) : WG p l e R U m args below meth c Q base sp D dA nL B n0 bud pc ls st S s := by
  intro H locs cells slots rls hv hl hn hc hz
  have hk := (hl.2.2.2 n.val _ hi).1
  rcases r with (_ | k) | j
  · refine lv_aload_nN F.1 F.2.1 hd rfl hk ?_
    exact h H locs cells slots rls hv hl ⟨trivial, hn⟩ hc hz
  · refine lv_aload_n F.1 F.2.1 hd rfl hk ?_
    exact h H locs cells slots rls hv hl ⟨trivial, hn⟩ hc hz
  · refine lv_aload_n F.1 F.2.1 hd rfl hk ?_
    exact h H locs cells slots rls hv hl ⟨trivial, hn⟩ hc hz
theorem r_istore (F : FX p U m args meth c D dA mi) {n : Nat} {x : Int} (hd : decode (mB mi) pc = .ok (.istore n, 2)) (hs : sL ls n (mI x) fun ls => WG p l e R U m args below meth c Q base sp D dA nL B n0 bud (pc + 2) ls st S s) : WG p l e R U m args below meth c Q base sp D dA nL B n0 bud pc ls (mI x :: st) S s := by
  intro H locs cells slots rls hv hl hn hc hz
  obtain ⟨rls', ls', e1, h, hl'⟩ := mHas_1 hl hs rfl hn.1
  have k := h H locs cells slots rls' hv hl' hn.2 hc hz
  intro T hT Y
  obtain ⟨t, a1, b1⟩ := k T hT Y
  refine ⟨t, ?_, b1⟩
  jvm_step Y.here [Y.here.top, ↓top_set Y.here.top, F.1, F.2.1, hd, mUp, e1]
  first | exact a1 | exact ⟨_, e1, a1⟩
theorem r_istore_n (F : FX p U m args meth c D dA mi) {n : Fin 4} {x : Int} (hd : decode (mB mi) pc = .ok (.istore_n n, 1)) (hs : sL ls n.val (mI x) fun ls => WG p l e R U m args below meth c Q base sp D dA nL B n0 bud (pc + 1) ls st S s) : WG p l e R U m args below meth c Q base sp D dA nL B n0 bud pc ls (mI x :: st) S s := by
  intro H locs cells slots rls hv hl hn hc hz
  obtain ⟨rls', ls', e1, h, hl'⟩ := mHas_1 hl hs rfl hn.1
  have k := h H locs cells slots rls' hv hl' hn.2 hc hz
  intro T hT Y
  obtain ⟨t, a1, b1⟩ := k T hT Y
  refine ⟨t, ?_, b1⟩
  jvm_step Y.here [Y.here.top, ↓top_set Y.here.top, F.1, F.2.1, hd, mUp, e1]
  first | exact a1 | exact ⟨_, e1, a1⟩
theorem r_lstore (F : FX p U m args meth c D dA mi) {n : Nat} {x : Int} (hd : decode (mB mi) pc = .ok (.lstore n, 2)) (hs : sJ ls n (mJ x) fun ls => WG p l e R U m args below meth c Q base sp D dA nL B n0 bud (pc + 2) ls st S s) : WG p l e R U m args below meth c Q base sp D dA nL B n0 bud pc ls (mJ x :: st) S s := by
  intro H locs cells slots rls hv hl hn hc hz
  obtain ⟨rls', ls', e1, h, hl'⟩ := mHas_2 hl hs hn.1
  have k := h H locs cells slots rls' hv hl' hn.2 hc hz
  intro T hT Y
  obtain ⟨t, a1, b1⟩ := k T hT Y
  refine ⟨t, ?_, b1⟩
  jvm_step Y.here [Y.here.top, ↓top_set Y.here.top, F.1, F.2.1, hd, mUp, e1]
  first | exact a1 | exact ⟨_, e1, a1⟩
theorem r_lstore_n (F : FX p U m args meth c D dA mi) {n : Fin 4} {x : Int} (hd : decode (mB mi) pc = .ok (.lstore_n n, 1)) (hs : sJ ls n.val (mJ x) fun ls => WG p l e R U m args below meth c Q base sp D dA nL B n0 bud (pc + 1) ls st S s) : WG p l e R U m args below meth c Q base sp D dA nL B n0 bud pc ls (mJ x :: st) S s := by
  intro H locs cells slots rls hv hl hn hc hz
  obtain ⟨rls', ls', e1, h, hl'⟩ := mHas_2 hl hs hn.1
  have k := h H locs cells slots rls' hv hl' hn.2 hc hz
  intro T hT Y
  obtain ⟨t, a1, b1⟩ := k T hT Y
  refine ⟨t, ?_, b1⟩
  jvm_step Y.here [Y.here.top, ↓top_set Y.here.top, F.1, F.2.1, hd, mUp, e1]
  first | exact a1 | exact ⟨_, e1, a1⟩
theorem r_astore (F : FX p U m args meth c D dA mi) {n : Nat} {r : Option Nat} (hd : decode (mB mi) pc = .ok (.astore n, 2)) (hs : sL ls n (Sum.inr (Sum.inr (Sum.inl r))) fun ls => WG p l e R U m args below meth c Q base sp D dA nL B n0 bud (pc + 2) ls st S s) : WG p l e R U m args below meth c Q base sp D dA nL B n0 bud pc ls (Sum.inr (Sum.inr (Sum.inl r)) :: st) S s := by
  intro H locs cells slots rls hv hl hn hc hz
  obtain ⟨rls', ls', e1, h, hl'⟩ := mHas_1 hl hs (by cases r <;> rfl) hn.1
  have k := h H locs cells slots rls' hv hl' hn.2 hc hz
  intro T hT Y
  obtain ⟨t, a1, b1⟩ := k T hT Y
  refine ⟨t, ?_, b1⟩
  rcases r with _ | r
  · jvm_step Y.here [Y.here.top, ↓top_set Y.here.top, F.1, F.2.1, hd, mUp, e1, Value.isRef]
    first | exact a1 | exact ⟨_, e1, a1⟩
  · jvm_step Y.here [Y.here.top, ↓top_set Y.here.top, F.1, F.2.1, hd, mUp, e1, Value.isRef]
    first | exact a1 | exact ⟨_, e1, a1⟩
theorem r_astore_n (F : FX p U m args meth c D dA mi) {n : Fin 4} {r : Option Nat} (hd : decode (mB mi) pc = .ok (.astore_n n, 1)) (hs : sL ls n.val (Sum.inr (Sum.inr (Sum.inl r))) fun ls => WG p l e R U m args below meth c Q base sp D dA nL B n0 bud (pc + 1) ls st S s) : WG p l e R U m args below meth c Q base sp D dA nL B n0 bud pc ls (Sum.inr (Sum.inr (Sum.inl r)) :: st) S s := by
  intro H locs cells slots rls hv hl hn hc hz
  obtain ⟨rls', ls', e1, h, hl'⟩ := mHas_1 hl hs (by cases r <;> rfl) hn.1
  have k := h H locs cells slots rls' hv hl' hn.2 hc hz
  intro T hT Y
  obtain ⟨t, a1, b1⟩ := k T hT Y
  refine ⟨t, ?_, b1⟩
  rcases r with _ | r
  · jvm_step Y.here [Y.here.top, ↓top_set Y.here.top, F.1, F.2.1, hd, mUp, e1, Value.isRef]
    first | exact a1 | exact ⟨_, e1, a1⟩
  · jvm_step Y.here [Y.here.top, ↓top_set Y.here.top, F.1, F.2.1, hd, mUp, e1, Value.isRef]
    first | exact a1 | exact ⟨_, e1, a1⟩
theorem r_iinc (F : FX p U m args meth c D dA mi) {n : Nat} {k x : Int} (hi : ls[n]? = some (some (mI x))) (hd : decode (mB mi) pc = .ok (.iinc n k, 3)) (hs : sL ls n (mI (w32 (x + k))) fun ls => WG p l e R U m args below meth c Q base sp D dA nL B n0 bud (pc + 3) ls st S s) : WG p l e R U m args below meth c Q base sp D dA nL B n0 bud pc ls st S s := by
  intro H locs cells slots rls hv hl hn hc hz
  have hg : rls[n]? = some (.val (.int (Int32.ofInt x))) := (hl.2.2.2 n _ hi).1
  obtain ⟨rls', ls', e1, h, hl'⟩ := mHas_1 hl hs rfl (nr_w32 _)
  have e1 : storeLocals rls n (.int (Int32.ofInt x + Int32.ofInt k)) = some rls' := by rw [q_add]; exact e1
  have z := h H locs cells slots rls' hv hl' hn hc hz
  intro T hT Y
  obtain ⟨t, a1, b1⟩ := z T hT Y
  refine ⟨t, ?_, b1⟩
  jvm_step Y.here [Y.here.top, ↓top_set Y.here.top, F.1, F.2.1, hd, hg, e1]
  first | exact a1 | exact ⟨_, e1, a1⟩
theorem w_cat {base : Nat} {sp : Nat → Nat} {st t : List mV} {k : mV → List mV → Prop} (h : eW st k) : ∃ v t, st = v :: t ∧ (mUp base sp v).category = 1 ∧ k v t := by
  unfold eW at h
  split at h
  · exact ⟨_, _, rfl, rfl, h⟩
  · rename_i r t
    exact ⟨_, _, rfl, by rcases r with (_ | _) | _ <;> rfl, h⟩
  · exact False.elim h
theorem r_pop (F : FX p U m args meth c D dA mi) {v : mV} (hv0 : (mUp base sp v).category = 1) (hd : decode (mB mi) pc = .ok (.pop, 1)) (h : WG p l e R U m args below meth c Q base sp D dA nL B n0 bud (pc + 1) ls st S s) : WG p l e R U m args below meth c Q base sp D dA nL B n0 bud pc ls (v :: st) S s := by
  intro H locs cells slots rls hv hl hn hc hz
  refine lv_pop F.1 F.2.1 hd hv0 ?_
  exact h H locs cells slots rls hv hl hn.2 hc hz
theorem r_dup (F : FX p U m args meth c D dA mi) {v : mV} (hv0 : (mUp base sp v).category = 1) (hd : decode (mB mi) pc = .ok (.dup, 1)) (h : WG p l e R U m args below meth c Q base sp D dA nL B n0 bud (pc + 1) ls (v :: v :: st) S s) : WG p l e R U m args below meth c Q base sp D dA nL B n0 bud pc ls (v :: st) S s := by
  intro H locs cells slots rls hv hl hn hc hz
  refine lv_dup F.1 F.2.1 hd hv0 ?_
  exact h H locs cells slots rls hv hl ⟨hn.1, hn⟩ hc hz
theorem r_dup2 (F : FX p U m args meth c D dA mi) {v u : mV} (hv0 : (mUp base sp v).category = 1) (hu0 : (mUp base sp u).category = 1) (hd : decode (mB mi) pc = .ok (.dup2, 1)) (h : WG p l e R U m args below meth c Q base sp D dA nL B n0 bud (pc + 1) ls (v :: u :: v :: u :: st) S s) : WG p l e R U m args below meth c Q base sp D dA nL B n0 bud pc ls (v :: u :: st) S s := by
  intro H locs cells slots rls hv hl hn hc hz
  refine lv_dup2_11 F.1 F.2.1 hd hv0 hu0 ?_
  exact h H locs cells slots rls hv hl ⟨hn.1, hn.2.1, hn⟩ hc hz
theorem r_iadd (F : FX p U m args meth c D dA mi) {x y : Int}  (hd : decode (mB mi) pc = .ok (.iadd, 1)) (h : WG p l e R U m args below meth c Q base sp D dA nL B n0 bud (pc + 1) ls (mI (w32 (x + y)) :: st) S s) : WG p l e R U m args below meth c Q base sp D dA nL B n0 bud pc ls (mI y :: mI x :: st) S s := by
  intro H locs cells slots rls hv hl hn hc hz
  refine lv_iadd F.1 F.2.1 hd ?_
  rw [q_add]
  exact h H locs cells slots rls hv hl ⟨nr_w32 _, hn.2.2⟩ hc hz
theorem r_isub (F : FX p U m args meth c D dA mi) {x y : Int}  (hd : decode (mB mi) pc = .ok (.isub, 1)) (h : WG p l e R U m args below meth c Q base sp D dA nL B n0 bud (pc + 1) ls (mI (w32 (x - y)) :: st) S s) : WG p l e R U m args below meth c Q base sp D dA nL B n0 bud pc ls (mI y :: mI x :: st) S s := by
  intro H locs cells slots rls hv hl hn hc hz
  refine lv_isub F.1 F.2.1 hd ?_
  rw [q_sub]
  exact h H locs cells slots rls hv hl ⟨nr_w32 _, hn.2.2⟩ hc hz
theorem r_imul (F : FX p U m args meth c D dA mi) {x y : Int}  (hd : decode (mB mi) pc = .ok (.imul, 1)) (h : WG p l e R U m args below meth c Q base sp D dA nL B n0 bud (pc + 1) ls (mI (w32 (x * y)) :: st) S s) : WG p l e R U m args below meth c Q base sp D dA nL B n0 bud pc ls (mI y :: mI x :: st) S s := by
  intro H locs cells slots rls hv hl hn hc hz
  refine lv_imul F.1 F.2.1 hd ?_
  rw [q_mul]
  exact h H locs cells slots rls hv hl ⟨nr_w32 _, hn.2.2⟩ hc hz
theorem r_ladd (F : FX p U m args meth c D dA mi) {x y : Int}  (hd : decode (mB mi) pc = .ok (.ladd, 1)) (h : WG p l e R U m args below meth c Q base sp D dA nL B n0 bud (pc + 1) ls (mJ (w64 (x + y)) :: st) S s) : WG p l e R U m args below meth c Q base sp D dA nL B n0 bud pc ls (mJ y :: mJ x :: st) S s := by
  intro H locs cells slots rls hv hl hn hc hz
  refine lv_ladd F.1 F.2.1 hd ?_
  rw [q_addL]
  exact h H locs cells slots rls hv hl ⟨nr_w64 _, hn.2.2⟩ hc hz
theorem r_lsub (F : FX p U m args meth c D dA mi) {x y : Int}  (hd : decode (mB mi) pc = .ok (.lsub, 1)) (h : WG p l e R U m args below meth c Q base sp D dA nL B n0 bud (pc + 1) ls (mJ (w64 (x - y)) :: st) S s) : WG p l e R U m args below meth c Q base sp D dA nL B n0 bud pc ls (mJ y :: mJ x :: st) S s := by
  intro H locs cells slots rls hv hl hn hc hz
  refine lv_lsub F.1 F.2.1 hd ?_
  rw [q_subL]
  exact h H locs cells slots rls hv hl ⟨nr_w64 _, hn.2.2⟩ hc hz
theorem r_lmul (F : FX p U m args meth c D dA mi) {x y : Int}  (hd : decode (mB mi) pc = .ok (.lmul, 1)) (h : WG p l e R U m args below meth c Q base sp D dA nL B n0 bud (pc + 1) ls (mJ (w64 (x * y)) :: st) S s) : WG p l e R U m args below meth c Q base sp D dA nL B n0 bud pc ls (mJ y :: mJ x :: st) S s := by
  intro H locs cells slots rls hv hl hn hc hz
  refine lv_lmul F.1 F.2.1 hd ?_
  rw [q_mulL]
  exact h H locs cells slots rls hv hl ⟨nr_w64 _, hn.2.2⟩ hc hz
theorem r_idiv (F : FX p U m args meth c D dA mi) {x y : Int} (h0 : y ≠ 0) (hd : decode (mB mi) pc = .ok (.idiv, 1)) (h : WG p l e R U m args below meth c Q base sp D dA nL B n0 bud (pc + 1) ls (mI (w32 (x.tdiv y)) :: st) S s) : WG p l e R U m args below meth c Q base sp D dA nL B n0 bud pc ls (mI y :: mI x :: st) S s := by
  intro H locs cells slots rls hv hl hn hc hz
  refine lv_idiv F.1 F.2.1 hd (by rw [z32, q_eq hn.1 nr_0]; exact h0) ?_
  rw [q_div hn.2.1 hn.1]
  exact h H locs cells slots rls hv hl ⟨nr_w32 _, hn.2.2⟩ hc hz
theorem r_irem (F : FX p U m args meth c D dA mi) {x y : Int} (h0 : y ≠ 0) (hd : decode (mB mi) pc = .ok (.irem, 1)) (h : WG p l e R U m args below meth c Q base sp D dA nL B n0 bud (pc + 1) ls (mI (x.tmod y) :: st) S s) : WG p l e R U m args below meth c Q base sp D dA nL B n0 bud pc ls (mI y :: mI x :: st) S s := by
  intro H locs cells slots rls hv hl hn hc hz
  refine lv_irem F.1 F.2.1 hd (by rw [z32, q_eq hn.1 nr_0]; exact h0) ?_
  rw [q_rem hn.2.1 hn.1]
  exact h H locs cells slots rls hv hl ⟨nr_rem hn.2.1, hn.2.2⟩ hc hz
theorem r_ldiv (F : FX p U m args meth c D dA mi) {x y : Int} (h0 : y ≠ 0) (hd : decode (mB mi) pc = .ok (.ldiv, 1)) (h : WG p l e R U m args below meth c Q base sp D dA nL B n0 bud (pc + 1) ls (mJ (w64 (x.tdiv y)) :: st) S s) : WG p l e R U m args below meth c Q base sp D dA nL B n0 bud pc ls (mJ y :: mJ x :: st) S s := by
  intro H locs cells slots rls hv hl hn hc hz
  refine lv_ldiv F.1 F.2.1 hd (by rw [z64, q_eqL hn.1 (nr_up nr_0)]; exact h0) ?_
  rw [q_divL hn.2.1 hn.1]
  exact h H locs cells slots rls hv hl ⟨nr_w64 _, hn.2.2⟩ hc hz
theorem r_lrem (F : FX p U m args meth c D dA mi) {x y : Int} (h0 : y ≠ 0) (hd : decode (mB mi) pc = .ok (.lrem, 1)) (h : WG p l e R U m args below meth c Q base sp D dA nL B n0 bud (pc + 1) ls (mJ (x.tmod y) :: st) S s) : WG p l e R U m args below meth c Q base sp D dA nL B n0 bud pc ls (mJ y :: mJ x :: st) S s := by
  intro H locs cells slots rls hv hl hn hc hz
  refine lv_lrem F.1 F.2.1 hd (by rw [z64, q_eqL hn.1 (nr_up nr_0)]; exact h0) ?_
  rw [q_remL hn.2.1 hn.1]
  exact h H locs cells slots rls hv hl ⟨nr_remL hn.2.1, hn.2.2⟩ hc hz
theorem r_iand (F : FX p U m args meth c D dA mi) {x y : Int}  (hd : decode (mB mi) pc = .ok (.iand, 1)) (h : WG p l e R U m args below meth c Q base sp D dA nL B n0 bud (pc + 1) ls (mI (iAnd x y) :: st) S s) : WG p l e R U m args below meth c Q base sp D dA nL B n0 bud pc ls (mI y :: mI x :: st) S s := by
  intro H locs cells slots rls hv hl hn hc hz
  refine lv_iand F.1 F.2.1 hd ?_
  rw [show Int32.ofInt x &&& Int32.ofInt y = Int32.ofInt (iAnd x y) from (Int32.ofInt_toInt _).symm]
  exact h H locs cells slots rls hv hl ⟨nr_i _, hn.2.2⟩ hc hz
theorem r_ior (F : FX p U m args meth c D dA mi) {x y : Int}  (hd : decode (mB mi) pc = .ok (.ior, 1)) (h : WG p l e R U m args below meth c Q base sp D dA nL B n0 bud (pc + 1) ls (mI (iOr x y) :: st) S s) : WG p l e R U m args below meth c Q base sp D dA nL B n0 bud pc ls (mI y :: mI x :: st) S s := by
  intro H locs cells slots rls hv hl hn hc hz
  refine lv_ior F.1 F.2.1 hd ?_
  rw [show Int32.ofInt x ||| Int32.ofInt y = Int32.ofInt (iOr x y) from (Int32.ofInt_toInt _).symm]
  exact h H locs cells slots rls hv hl ⟨nr_i _, hn.2.2⟩ hc hz
theorem r_ixor (F : FX p U m args meth c D dA mi) {x y : Int}  (hd : decode (mB mi) pc = .ok (.ixor, 1)) (h : WG p l e R U m args below meth c Q base sp D dA nL B n0 bud (pc + 1) ls (mI (iXor x y) :: st) S s) : WG p l e R U m args below meth c Q base sp D dA nL B n0 bud pc ls (mI y :: mI x :: st) S s := by
  intro H locs cells slots rls hv hl hn hc hz
  refine lv_ixor F.1 F.2.1 hd ?_
  rw [show Int32.ofInt x ^^^ Int32.ofInt y = Int32.ofInt (iXor x y) from (Int32.ofInt_toInt _).symm]
  exact h H locs cells slots rls hv hl ⟨nr_i _, hn.2.2⟩ hc hz
theorem r_land (F : FX p U m args meth c D dA mi) {x y : Int}  (hd : decode (mB mi) pc = .ok (.land, 1)) (h : WG p l e R U m args below meth c Q base sp D dA nL B n0 bud (pc + 1) ls (mJ (lAnd x y) :: st) S s) : WG p l e R U m args below meth c Q base sp D dA nL B n0 bud pc ls (mJ y :: mJ x :: st) S s := by
  intro H locs cells slots rls hv hl hn hc hz
  refine lv_land F.1 F.2.1 hd ?_
  rw [show Int64.ofInt x &&& Int64.ofInt y = Int64.ofInt (lAnd x y) from (Int64.ofInt_toInt _).symm]
  exact h H locs cells slots rls hv hl ⟨nr_j _, hn.2.2⟩ hc hz
theorem r_lor (F : FX p U m args meth c D dA mi) {x y : Int}  (hd : decode (mB mi) pc = .ok (.lor, 1)) (h : WG p l e R U m args below meth c Q base sp D dA nL B n0 bud (pc + 1) ls (mJ (lOr x y) :: st) S s) : WG p l e R U m args below meth c Q base sp D dA nL B n0 bud pc ls (mJ y :: mJ x :: st) S s := by
  intro H locs cells slots rls hv hl hn hc hz
  refine lv_lor F.1 F.2.1 hd ?_
  rw [show Int64.ofInt x ||| Int64.ofInt y = Int64.ofInt (lOr x y) from (Int64.ofInt_toInt _).symm]
  exact h H locs cells slots rls hv hl ⟨nr_j _, hn.2.2⟩ hc hz
theorem r_ishl (F : FX p U m args meth c D dA mi) {x y : Int}  (hd : decode (mB mi) pc = .ok (.ishl, 1)) (h : WG p l e R U m args below meth c Q base sp D dA nL B n0 bud (pc + 1) ls (mI (iShl x y) :: st) S s) : WG p l e R U m args below meth c Q base sp D dA nL B n0 bud pc ls (mI y :: mI x :: st) S s := by
  intro H locs cells slots rls hv hl hn hc hz
  refine lv_ishl F.1 F.2.1 hd ?_
  rw [show Int32.ofInt x <<< (Int32.ofInt y &&& 31) = Int32.ofInt (iShl x y) from (Int32.ofInt_toInt _).symm]
  exact h H locs cells slots rls hv hl ⟨nr_i _, hn.2.2⟩ hc hz
theorem r_ishr (F : FX p U m args meth c D dA mi) {x y : Int}  (hd : decode (mB mi) pc = .ok (.ishr, 1)) (h : WG p l e R U m args below meth c Q base sp D dA nL B n0 bud (pc + 1) ls (mI (iShr x y) :: st) S s) : WG p l e R U m args below meth c Q base sp D dA nL B n0 bud pc ls (mI y :: mI x :: st) S s := by
  intro H locs cells slots rls hv hl hn hc hz
  refine lv_ishr F.1 F.2.1 hd ?_
  rw [show Int32.ofInt x >>> (Int32.ofInt y &&& 31) = Int32.ofInt (iShr x y) from (Int32.ofInt_toInt _).symm]
  exact h H locs cells slots rls hv hl ⟨nr_i _, hn.2.2⟩ hc hz
theorem r_iushr (F : FX p U m args meth c D dA mi) {x y : Int}  (hd : decode (mB mi) pc = .ok (.iushr, 1)) (h : WG p l e R U m args below meth c Q base sp D dA nL B n0 bud (pc + 1) ls (mI (iUsh x y) :: st) S s) : WG p l e R U m args below meth c Q base sp D dA nL B n0 bud pc ls (mI y :: mI x :: st) S s := by
  intro H locs cells slots rls hv hl hn hc hz
  refine lv_iushr F.1 F.2.1 hd (v := Int32.ofInt (iUsh x y)) (Int32.ofInt_toInt _).symm ?_
  exact h H locs cells slots rls hv hl ⟨nr_i _, hn.2.2⟩ hc hz
theorem r_lshl (F : FX p U m args meth c D dA mi) {x y : Int} (hd : decode (mB mi) pc = .ok (.lshl, 1)) (h : WG p l e R U m args below meth c Q base sp D dA nL B n0 bud (pc + 1) ls (mJ (lShl x y) :: st) S s) : WG p l e R U m args below meth c Q base sp D dA nL B n0 bud pc ls (mI y :: mJ x :: st) S s := by
  intro H locs cells slots rls hv hl hn hc hz
  refine lv_lshl F.1 F.2.1 hd (v := Int64.ofInt (lShl x y)) (Int64.ofInt_toInt _).symm ?_
  exact h H locs cells slots rls hv hl ⟨nr_j _, hn.2.2⟩ hc hz
theorem r_lcmp (F : FX p U m args meth c D dA mi) {x y : Int} (hd : decode (mB mi) pc = .ok (.lcmp, 1)) (h : WG p l e R U m args below meth c Q base sp D dA nL B n0 bud (pc + 1) ls (mI (lCmp x y) :: st) S s) : WG p l e R U m args below meth c Q base sp D dA nL B n0 bud pc ls (mJ y :: mJ x :: st) S s := by
  intro H locs cells slots rls hv hl hn hc hz
  refine W.lcmp F.1 F.2.1 hd ?_
  rw [q_cmp hn.2.1 hn.1]
  exact h H locs cells slots rls hv hl ⟨nr_cmp _ _, hn.2.2⟩ hc hz
theorem r_i2l (F : FX p U m args meth c D dA mi) {x : Int} (hd : decode (mB mi) pc = .ok (.i2l, 1)) (h : WG p l e R U m args below meth c Q base sp D dA nL B n0 bud (pc + 1) ls (mJ x :: st) S s) : WG p l e R U m args below meth c Q base sp D dA nL B n0 bud pc ls (mI x :: st) S s := by
  intro H locs cells slots rls hv hl hn hc hz
  refine lv_i2l F.1 F.2.1 hd (q_i2l hn.1) ?_
  exact h H locs cells slots rls hv hl ⟨nr_up hn.1, hn.2⟩ hc hz
theorem r_i2b (F : FX p U m args meth c D dA mi) {x : Int} (hd : decode (mB mi) pc = .ok (.i2b, 1)) (h : WG p l e R U m args below meth c Q base sp D dA nL B n0 bud (pc + 1) ls (mI (w8 x) :: st) S s) : WG p l e R U m args below meth c Q base sp D dA nL B n0 bud pc ls (mI x :: st) S s := by
  intro H locs cells slots rls hv hl hn hc hz
  refine lv_i2b F.1 F.2.1 hd (q_i2b hn.1) ?_
  exact h H locs cells slots rls hv hl ⟨nr_w8 _, hn.2⟩ hc hz
theorem r_i2c (F : FX p U m args meth c D dA mi) {x : Int} (hd : decode (mB mi) pc = .ok (.i2c, 1)) (h : WG p l e R U m args below meth c Q base sp D dA nL B n0 bud (pc + 1) ls (mI (x % 65536) :: st) S s) : WG p l e R U m args below meth c Q base sp D dA nL B n0 bud pc ls (mI x :: st) S s := by
  intro H locs cells slots rls hv hl hn hc hz
  refine lv_i2c F.1 F.2.1 hd (q_i2c hn.1) ?_
  exact h H locs cells slots rls hv hl ⟨nr_i2c _, hn.2⟩ hc hz
theorem r_l2i (F : FX p U m args meth c D dA mi) {x : Int} (hd : decode (mB mi) pc = .ok (.l2i, 1)) (h : WG p l e R U m args below meth c Q base sp D dA nL B n0 bud (pc + 1) ls (mI (w32 x) :: st) S s) : WG p l e R U m args below meth c Q base sp D dA nL B n0 bud pc ls (mJ x :: st) S s := by
  intro H locs cells slots rls hv hl hn hc hz
  refine lv_l2i F.1 F.2.1 hd (q_l2i hn.1) ?_
  exact h H locs cells slots rls hv hl ⟨nr_w32 _, hn.2⟩ hc hz
theorem r_goto (F : FX p U m args meth c D dA mi) {off : Int} {tgt : Nat} (ht : (pc : Int) + off = (tgt : Int)) (hd : decode (mB mi) pc = .ok (.goto off, 3)) (h : WG p l e R U m args below meth c Q base sp D dA nL B n0 bud tgt ls st S s) : WG p l e R U m args below meth c Q base sp D dA nL B n0 bud pc ls st S s := by
  intro H locs cells slots rls hv hl hn hc hz
  refine lv_goto F.1 F.2.1 hd ht ?_
  exact h H locs cells slots rls hv hl hn hc hz
theorem r_icmp_eq (F : FX p U m args meth c D dA mi) {off : Int} {tgt : Nat} (ht : (pc : Int) + off = (tgt : Int)) {x y : Int} (hd : decode (mB mi) pc = .ok (.if_icmp .eq off, 3)) (h1 : x = y → WG p l e R U m args below meth c Q base sp D dA nL B n0 bud tgt ls st S s) (h2 : ¬ x = y → WG p l e R U m args below meth c Q base sp D dA nL B n0 bud (pc + 3) ls st S s) : WG p l e R U m args below meth c Q base sp D dA nL B n0 bud pc ls (mI y :: mI x :: st) S s := by
  intro H locs cells slots rls hv hl hn hc hz
  refine lv_icmp_eq F.1 F.2.1 hd ht (fun q => h1 ((q_eq hn.2.1 hn.1).mp q) H locs cells slots rls hv hl hn.2.2 hc hz) (fun q => h2 (fun z => q ((q_eq hn.2.1 hn.1).mpr z)) H locs cells slots rls hv hl hn.2.2 hc hz)
theorem r_icmp_ne (F : FX p U m args meth c D dA mi) {off : Int} {tgt : Nat} (ht : (pc : Int) + off = (tgt : Int)) {x y : Int} (hd : decode (mB mi) pc = .ok (.if_icmp .ne off, 3)) (h1 : ¬ x = y → WG p l e R U m args below meth c Q base sp D dA nL B n0 bud tgt ls st S s) (h2 : x = y → WG p l e R U m args below meth c Q base sp D dA nL B n0 bud (pc + 3) ls st S s) : WG p l e R U m args below meth c Q base sp D dA nL B n0 bud pc ls (mI y :: mI x :: st) S s := by
  intro H locs cells slots rls hv hl hn hc hz
  refine lv_icmp_ne F.1 F.2.1 hd ht (fun q => h1 (fun z => q ((q_eq hn.2.1 hn.1).mpr z)) H locs cells slots rls hv hl hn.2.2 hc hz) (fun q => h2 ((q_eq hn.2.1 hn.1).mp q) H locs cells slots rls hv hl hn.2.2 hc hz)
theorem r_icmp_lt (F : FX p U m args meth c D dA mi) {off : Int} {tgt : Nat} (ht : (pc : Int) + off = (tgt : Int)) {x y : Int} (hd : decode (mB mi) pc = .ok (.if_icmp .lt off, 3)) (h1 : x < y → WG p l e R U m args below meth c Q base sp D dA nL B n0 bud tgt ls st S s) (h2 : ¬ x < y → WG p l e R U m args below meth c Q base sp D dA nL B n0 bud (pc + 3) ls st S s) : WG p l e R U m args below meth c Q base sp D dA nL B n0 bud pc ls (mI y :: mI x :: st) S s := by
  intro H locs cells slots rls hv hl hn hc hz
  refine lv_icmp_lt F.1 F.2.1 hd ht (fun q => h1 ((q_lt hn.2.1 hn.1).mp q) H locs cells slots rls hv hl hn.2.2 hc hz) (fun q => h2 (fun z => q ((q_lt hn.2.1 hn.1).mpr z)) H locs cells slots rls hv hl hn.2.2 hc hz)
theorem r_icmp_ge (F : FX p U m args meth c D dA mi) {off : Int} {tgt : Nat} (ht : (pc : Int) + off = (tgt : Int)) {x y : Int} (hd : decode (mB mi) pc = .ok (.if_icmp .ge off, 3)) (h1 : y ≤ x → WG p l e R U m args below meth c Q base sp D dA nL B n0 bud tgt ls st S s) (h2 : ¬ y ≤ x → WG p l e R U m args below meth c Q base sp D dA nL B n0 bud (pc + 3) ls st S s) : WG p l e R U m args below meth c Q base sp D dA nL B n0 bud pc ls (mI y :: mI x :: st) S s := by
  intro H locs cells slots rls hv hl hn hc hz
  refine lv_icmp_ge F.1 F.2.1 hd ht (fun q => h1 ((q_le hn.1 hn.2.1).mp q) H locs cells slots rls hv hl hn.2.2 hc hz) (fun q => h2 (fun z => q ((q_le hn.1 hn.2.1).mpr z)) H locs cells slots rls hv hl hn.2.2 hc hz)
theorem r_icmp_gt (F : FX p U m args meth c D dA mi) {off : Int} {tgt : Nat} (ht : (pc : Int) + off = (tgt : Int)) {x y : Int} (hd : decode (mB mi) pc = .ok (.if_icmp .gt off, 3)) (h1 : y < x → WG p l e R U m args below meth c Q base sp D dA nL B n0 bud tgt ls st S s) (h2 : ¬ y < x → WG p l e R U m args below meth c Q base sp D dA nL B n0 bud (pc + 3) ls st S s) : WG p l e R U m args below meth c Q base sp D dA nL B n0 bud pc ls (mI y :: mI x :: st) S s := by
  intro H locs cells slots rls hv hl hn hc hz
  refine lv_icmp_gt F.1 F.2.1 hd ht (fun q => h1 ((q_lt hn.1 hn.2.1).mp q) H locs cells slots rls hv hl hn.2.2 hc hz) (fun q => h2 (fun z => q ((q_lt hn.1 hn.2.1).mpr z)) H locs cells slots rls hv hl hn.2.2 hc hz)
theorem r_icmp_le (F : FX p U m args meth c D dA mi) {off : Int} {tgt : Nat} (ht : (pc : Int) + off = (tgt : Int)) {x y : Int} (hd : decode (mB mi) pc = .ok (.if_icmp .le off, 3)) (h1 : x ≤ y → WG p l e R U m args below meth c Q base sp D dA nL B n0 bud tgt ls st S s) (h2 : ¬ x ≤ y → WG p l e R U m args below meth c Q base sp D dA nL B n0 bud (pc + 3) ls st S s) : WG p l e R U m args below meth c Q base sp D dA nL B n0 bud pc ls (mI y :: mI x :: st) S s := by
  intro H locs cells slots rls hv hl hn hc hz
  refine lv_icmp_le F.1 F.2.1 hd ht (fun q => h1 ((q_le hn.2.1 hn.1).mp q) H locs cells slots rls hv hl hn.2.2 hc hz) (fun q => h2 (fun z => q ((q_le hn.2.1 hn.1).mpr z)) H locs cells slots rls hv hl hn.2.2 hc hz)
theorem r_if_eq (F : FX p U m args meth c D dA mi) {off : Int} {tgt : Nat} (ht : (pc : Int) + off = (tgt : Int)) {x : Int} (hd : decode (mB mi) pc = .ok (.ifCond .eq off, 3)) (h1 : x = 0 → WG p l e R U m args below meth c Q base sp D dA nL B n0 bud tgt ls st S s) (h2 : ¬ x = 0 → WG p l e R U m args below meth c Q base sp D dA nL B n0 bud (pc + 3) ls st S s) : WG p l e R U m args below meth c Q base sp D dA nL B n0 bud pc ls (mI x :: st) S s := by
  intro H locs cells slots rls hv hl hn hc hz
  refine lv_if_eq F.1 F.2.1 hd ht (fun q => h1 ((q_eq hn.1 nr_0).mp q) H locs cells slots rls hv hl hn.2 hc hz) (fun q => h2 (fun z => q ((q_eq hn.1 nr_0).mpr z)) H locs cells slots rls hv hl hn.2 hc hz)
theorem r_if_ne (F : FX p U m args meth c D dA mi) {off : Int} {tgt : Nat} (ht : (pc : Int) + off = (tgt : Int)) {x : Int} (hd : decode (mB mi) pc = .ok (.ifCond .ne off, 3)) (h1 : ¬ x = 0 → WG p l e R U m args below meth c Q base sp D dA nL B n0 bud tgt ls st S s) (h2 : x = 0 → WG p l e R U m args below meth c Q base sp D dA nL B n0 bud (pc + 3) ls st S s) : WG p l e R U m args below meth c Q base sp D dA nL B n0 bud pc ls (mI x :: st) S s := by
  intro H locs cells slots rls hv hl hn hc hz
  refine lv_if_ne F.1 F.2.1 hd ht (fun q => h1 (fun z => q ((q_eq hn.1 nr_0).mpr z)) H locs cells slots rls hv hl hn.2 hc hz) (fun q => h2 ((q_eq hn.1 nr_0).mp q) H locs cells slots rls hv hl hn.2 hc hz)
theorem r_if_lt (F : FX p U m args meth c D dA mi) {off : Int} {tgt : Nat} (ht : (pc : Int) + off = (tgt : Int)) {x : Int} (hd : decode (mB mi) pc = .ok (.ifCond .lt off, 3)) (h1 : x < 0 → WG p l e R U m args below meth c Q base sp D dA nL B n0 bud tgt ls st S s) (h2 : ¬ x < 0 → WG p l e R U m args below meth c Q base sp D dA nL B n0 bud (pc + 3) ls st S s) : WG p l e R U m args below meth c Q base sp D dA nL B n0 bud pc ls (mI x :: st) S s := by
  intro H locs cells slots rls hv hl hn hc hz
  refine lv_if_lt F.1 F.2.1 hd ht (fun q => h1 ((q_lt hn.1 nr_0).mp q) H locs cells slots rls hv hl hn.2 hc hz) (fun q => h2 (fun z => q ((q_lt hn.1 nr_0).mpr z)) H locs cells slots rls hv hl hn.2 hc hz)
theorem r_if_ge (F : FX p U m args meth c D dA mi) {off : Int} {tgt : Nat} (ht : (pc : Int) + off = (tgt : Int)) {x : Int} (hd : decode (mB mi) pc = .ok (.ifCond .ge off, 3)) (h1 : 0 ≤ x → WG p l e R U m args below meth c Q base sp D dA nL B n0 bud tgt ls st S s) (h2 : ¬ 0 ≤ x → WG p l e R U m args below meth c Q base sp D dA nL B n0 bud (pc + 3) ls st S s) : WG p l e R U m args below meth c Q base sp D dA nL B n0 bud pc ls (mI x :: st) S s := by
  intro H locs cells slots rls hv hl hn hc hz
  refine lv_if_ge F.1 F.2.1 hd ht (fun q => h1 ((q_le nr_0 hn.1).mp q) H locs cells slots rls hv hl hn.2 hc hz) (fun q => h2 (fun z => q ((q_le nr_0 hn.1).mpr z)) H locs cells slots rls hv hl hn.2 hc hz)
theorem r_if_gt (F : FX p U m args meth c D dA mi) {off : Int} {tgt : Nat} (ht : (pc : Int) + off = (tgt : Int)) {x : Int} (hd : decode (mB mi) pc = .ok (.ifCond .gt off, 3)) (h1 : 0 < x → WG p l e R U m args below meth c Q base sp D dA nL B n0 bud tgt ls st S s) (h2 : ¬ 0 < x → WG p l e R U m args below meth c Q base sp D dA nL B n0 bud (pc + 3) ls st S s) : WG p l e R U m args below meth c Q base sp D dA nL B n0 bud pc ls (mI x :: st) S s := by
  intro H locs cells slots rls hv hl hn hc hz
  refine lv_if_gt F.1 F.2.1 hd ht (fun q => h1 ((q_lt nr_0 hn.1).mp q) H locs cells slots rls hv hl hn.2 hc hz) (fun q => h2 (fun z => q ((q_lt nr_0 hn.1).mpr z)) H locs cells slots rls hv hl hn.2 hc hz)
theorem r_if_le (F : FX p U m args meth c D dA mi) {off : Int} {tgt : Nat} (ht : (pc : Int) + off = (tgt : Int)) {x : Int} (hd : decode (mB mi) pc = .ok (.ifCond .le off, 3)) (h1 : x ≤ 0 → WG p l e R U m args below meth c Q base sp D dA nL B n0 bud tgt ls st S s) (h2 : ¬ x ≤ 0 → WG p l e R U m args below meth c Q base sp D dA nL B n0 bud (pc + 3) ls st S s) : WG p l e R U m args below meth c Q base sp D dA nL B n0 bud pc ls (mI x :: st) S s := by
  intro H locs cells slots rls hv hl hn hc hz
  refine lv_if_le F.1 F.2.1 hd ht (fun q => h1 ((q_le hn.1 nr_0).mp q) H locs cells slots rls hv hl hn.2 hc hz) (fun q => h2 (fun z => q ((q_le hn.1 nr_0).mpr z)) H locs cells slots rls hv hl hn.2 hc hz)
theorem r_ifnonnull (F : FX p U m args meth c D dA mi) {off : Int} {tgt : Nat} (ht : (pc : Int) + off = (tgt : Int)) {r : Option Nat} (hd : decode (mB mi) pc = .ok (.ifnonnull off, 3)) (h1 : ¬ r = none → WG p l e R U m args below meth c Q base sp D dA nL B n0 bud tgt ls st S s) (h2 : r = none → WG p l e R U m args below meth c Q base sp D dA nL B n0 bud (pc + 3) ls st S s) : WG p l e R U m args below meth c Q base sp D dA nL B n0 bud pc ls (Sum.inr (Sum.inr (Sum.inl r)) :: st) S s := by
  intro H locs cells slots rls hv hl hn hc hz
  rcases r with _ | r
  · refine lv_ifnonnullN F.1 F.2.1 hd ?_
    exact h2 rfl H locs cells slots rls hv hl hn.2 hc hz
  · refine lv_ifnonnull F.1 F.2.1 hd ht ?_
    exact h1 (by simp) H locs cells slots rls hv hl hn.2 hc hz
theorem r_table (F : FX p U m args meth c D dA mi) {dflt lo hi x : Int} {offs : Array Int} {len : Nat} (hg : 0 ≤ dflt ∧ ∀ o ∈ offs.toList, 0 ≤ o) (hd : decode (mB mi) pc = .ok (.tableswitch dflt lo hi offs, len)) (hq : offs[(x - lo).toNat]? = none → ¬ (x < lo ∨ hi < x) → False) (h : WG p l e R U m args below meth c Q base sp D dA nL B n0 bud (tT pc dflt lo hi offs x) ls st S s) : WG p l e R U m args below meth c Q base sp D dA nL B n0 bud pc ls (mI x :: st) S s := by
  intro H locs cells slots rls hv hl hn hc hz
  have hx := ti32 hn.1
  by_cases hb : x < lo ∨ hi < x
  · have e : (pc : Int) + dflt = (tT pc dflt lo hi offs x : Int) := by
      unfold tT; rw [if_pos hb]; have := hg.1; omega
    refine lv_tableOut F.1 F.2.1 hd (by rw [hx]; exact hb) e ?_
    exact h H locs cells slots rls hv hl hn.2 hc hz
  · cases ho : offs[(x - lo).toNat]? with
    | none =>
      exfalso
      exact hq ho hb
    | some o =>
      have h0 : 0 ≤ o := hg.2 o (by
        have := Array.getElem?_eq_some_iff.mp ho
        obtain ⟨a, b⟩ := this
        rw [← b]
        exact Array.getElem_mem_toList ..)
      have e : (pc : Int) + o = (tT pc dflt lo hi offs x : Int) := by
        unfold tT; rw [if_neg hb, ho]; show _ = (((pc : Int) + o).toNat : Int); omega
      refine lv_tableIn F.1 F.2.1 hd (by rw [hx]; omega) (by rw [hx]; omega) (by rw [hx]; exact ho) e ?_
      exact h H locs cells slots rls hv hl hn.2 hc hz
theorem lk_nn (dflt : Int) : ∀ (ps : List (Int × Int)) (x : Int), 0 ≤ dflt → (∀ q ∈ ps, 0 ≤ q.2) → 0 ≤ Op.lookupswitch.offset ps dflt x := by
  intro ps x h1
  induction ps with
  | nil => intro _; exact h1
  | cons q t ih =>
    intro h2
    unfold Op.lookupswitch.offset
    split
    · exact h2 q List.mem_cons_self
    · exact ih (fun z hz => h2 z (List.mem_cons_of_mem _ hz))
theorem r_lookup (F : FX p U m args meth c D dA mi) {dflt x : Int} {ps : Array (Int × Int)} {len : Nat} (hp : (ps.toList.zip (ps.toList.drop 1)).all (fun (a, next) => a.1 < next.1) = true) (hg : 0 ≤ dflt ∧ ∀ q ∈ ps.toList, 0 ≤ q.2) (hd : decode (mB mi) pc = .ok (.lookupswitch dflt ps, len)) (h : WG p l e R U m args below meth c Q base sp D dA nL B n0 bud (tL pc dflt ps x) ls st S s) : WG p l e R U m args below meth c Q base sp D dA nL B n0 bud pc ls (mI x :: st) S s := by
  intro H locs cells slots rls hv hl hn hc hz
  have hx := ti32 hn.1
  have h0 := lk_nn dflt ps.toList x hg.1 hg.2
  refine lv_lookup F.1 F.2.1 hd hp rfl (tgt := tL pc dflt ps x) ?_ ?_
  · rw [hx]; unfold tL; omega
  · exact h H locs cells slots rls hv hl hn.2 hc hz
end RW
