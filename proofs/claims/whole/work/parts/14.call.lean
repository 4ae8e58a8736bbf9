/-! calls and ends -/
def wsM (mj : Nat) : List Cond := Cond.code (mY mj) (mB mj) (mML mj) (mRet mj) :: mT
def rmD (d mj : Nat) : Room := { frames := d, cells := mCe mj, slots := 2400 * mCe mj, locals := 60 * d }
def nrO (r : Option mV) : Prop := match r with
  | none => True
  | some v => nrV v
/-- the words that are not carried with the tables: of arrays of objects, of nest mates -/
def mNw : List Cond := lw_tbl.filter (fun w => match w with | .methodLinkNest _ _ _ _ => true | _ => false)
def EX (SK : State → Prop) (U : State) : Prop := (∀ C, C = "ClashDay$Board" ∨ C = "ClashDay$Rule" ∨ C = "ClashDay$Scene" → va_AO C U) ∧ (Cond.arrayOver (.array .int)).before #[] U = true ∧ (∀ a i y h, Cond.methodLinkNest a i y h ∈ mNw → va_Nw (.methodLinkNest a i y h) U) ∧ SK U
/-- what SK must bear -/
def SKm (base : Nat) (SK : State → Prop) : Prop := ∀ U V : State, U.WarmedH V.vm → (∀ q : Nat, q < base → V.heap[q]? = U.heap[q]?) → SK U → SK V
theorem EX.mv {base : Nat} {SK : State → Prop} (hm : SKm base SK) {U V : State} (hW : U.WarmedH V.vm) (hh : ∀ q : Nat, q < base → V.heap[q]? = U.heap[q]?) (h : EX SK U) : EX SK V := by
  refine ⟨fun C hC => va_AO.moved hW.alike (h.1 C hC), ?_, fun a i y q hq => va_Nw.warmM hW (h.2.2.1 a i y q hq), hm U V hW hh h.2.2.2⟩
  have h1 := Cond.arrayOver_setVmC (args := #[]) (s := U) hW.alike (.array .int)
  rw [h.2.1] at h1
  exact h1
def PcW (base : Nat) (sp : Nat → Nat) (D : va_G) (dA : Nat → ClassId) (SK : State → Prop) (as : List mV) (S : List mSh) (s : mSt) : Array Value → State → Prop := fun v V =>
  v = (as.map (mUp base sp)).toArray ∧ va_P D mCl (mWs base dA S s) V.heap ∧ V.heap.size = base + S.length ∧ nrH S s ∧ nrS as ∧ va_K D mCl (mTys dA) V ∧ EX SK V
def QcW (base : Nat) (sp : Nat → Nat) (D : va_G) (dA : Nat → ClassId) (n : Nat) (K : mRt) : Array Value → State → Outcome → State → Prop := fun _ V oc t =>
  (∃ r S' s', oc = .returned (r.map (mUp base sp)) ∧ K r S' s' ∧ va_P D mCl (mWs base dA S' s') t.heap ∧ nrH S' s' ∧ nrO r ∧ S'.length = n) ∧ va_F (mA base) V t
def MetW (l : Launch) (base : Nat) (sp : Nat → Nat) (D : va_G) (dA : Nat → ClassId) (SK : State → Prop) (d mj : Nat) (as : List mV) (S : List mSh) (s : mSt) (K : mRt) : Prop :=
  Met l (mY mj) (wsM mj) (rmD d mj) (PcW base sp D dA SK as S s) (QcW base sp D dA (S.length + mCe mj) K) (mCe mj) (2400 * mCe mj) (mA base)
/-- what the tables say of a method -/
def MK (mj : Nat) : Prop := Cond.code (mY mj) (mB mj) (mML mj) (mRet mj) ∈ mT ∧ Cond.initialized (mY mj).cls ∈ mT ∧ ((mY mj).cls ≠ "java/lang/invoke/MethodHandle" ∧ (mY mj).cls ≠ "java/lang/invoke/VarHandle") ∧ plainName (mY mj).cls = true ∧ mML mj ≤ 40 ∧
  (mRk mj = 0 ∨ mRk mj = 6 → mRet mj = none) ∧ (mRk mj = 1 → mRet mj = some .int) ∧ (mRk mj = 2 → mRet mj = some .boolean) ∧ (mRk mj = 3 → mRet mj = some .char) ∧ (mRk mj = 4 → mRet mj = some .long) ∧ (mRk mj = 5 → ∃ n, mRet mj = some (.object n)) ∧ (mRk mj = 6 → (mY mj).name = "<init>")
theorem mT_good {w : Cond} (h : w ∈ mT) : (w.onTables && w.keeps) = true ∨ ∃ ty, w = .arrayClass ty := good_of_word (List.mem_filter.mp h).2
theorem wsM_good {mj : Nat} (h : MK mj) : GoodIn mT (wsM mj) := by
  intro w hw
  rcases List.mem_cons.mp hw with rfl | hw
  · exact ⟨h.1, mT_good h.1⟩
  · exact ⟨hw, mT_good hw⟩
theorem popA_el : ∀ {n : Nat} {st acc : List mV} {k : List mV → List mV → Prop}, popA n st acc k → ∃ as rest, st = as.reverse ++ rest ∧ as.length = n ∧ k (as ++ acc) rest := by
  intro n
  induction n with
  | zero => intro st acc k h; cases st <;> exact ⟨[], _, rfl, rfl, h⟩
  | succ n ih =>
    intro st acc k h
    cases st with
    | nil => exact False.elim h
    | cons v t =>
      obtain ⟨as, rest, e1, e2, h1⟩ := ih (acc := v :: acc) h
      refine ⟨as ++ [v], rest, by rw [e1]; simp, by simp [e2], by simpa using h1⟩
theorem nrS_app : ∀ {a b : List mV}, nrS (a ++ b) → nrS a ∧ nrS b
  | [], _, h => ⟨trivial, h⟩
  | _ :: _, _, h => ⟨⟨h.1, (nrS_app h.2).1⟩, (nrS_app h.2).2⟩
theorem nrS_mem : ∀ {a : List mV}, nrS a ↔ ∀ v ∈ a, nrV v
  | [] => ⟨fun _ _ h => absurd h List.not_mem_nil, fun _ => trivial⟩
  | v :: t => ⟨fun h u hu => by rcases List.mem_cons.mp hu with rfl | hu; exact h.1; exact nrS_mem.mp h.2 u hu, fun h => ⟨h v List.mem_cons_self, nrS_mem.mpr fun u hu => h u (List.mem_cons_of_mem _ hu)⟩⟩
theorem nrS_rev {a : List mV} (h : nrS a.reverse) : nrS a := nrS_mem.mpr fun v hv => nrS_mem.mp h v (List.mem_reverse.mpr hv)
section RC
variable {p : Program} {l : Launch} {e : Env} {R : Room} {U : State} {m : MethodId} {args : Array Value} {below : List Frame} {meth : Method} {c : Code} {Q : State → Prop}
variable {base : Nat} {sp : Nat → Nat} {D : va_G} {dA : Nat → ClassId} {SK : State → Prop} {mi nL B n0 bud pc : Nat} {ls : mLo} {st : List mV} {S : List mSh} {s : mSt}
/-- behind a call -/
theorem W_call {H : Heap} {locs : List Loc} {cells slots : Nat} {rls : Array Slot} {st0 rest : List Value} {mj n : Nat} {a : Array Value} {K : mRt}
    (hr : va_Run p l e R U m args below meth c H locs cells slots (mCe mj) (2400 * mCe mj) (F0 m pc rls st0) rest (QcW base sp D dA n K a) (mA base)) (hS : va_S (mA base) U.heap H locs)
    (kk : ∀ r S' s' H1 locs1, K r S' s' → HV base D dA U.heap S' s' H1 locs1 → nrO r → S'.length = n → W p l e R U m args below meth c H1 locs1 (cells + mCe mj) (slots + 2400 * mCe mj) Q (F0 m (pc + 3) rls ((r.map (mUp base sp)).toList ++ rest))) : W p l e R U m args below meth c H locs cells slots Q (F0 m pc rls st0) := by
  intro T hT X
  obtain ⟨v, st₀, t, T', L, h0, X', hL, e1, e2, ⟨⟨r, S', s', hv, hk, hP, hn, ho, hlen⟩, hz, hkeep⟩, stp⟩ := hr T hT X
  cases hv
  rw [h0] at hz hkeep
  have hS1 : va_S (mA base) U.heap T'.heap (locs ++ L) := by
    refine ⟨by rw [e1]; exact Nat.le_trans hS.1 hz, fun q h1 h2 => ?_, fun q hq => ?_⟩
    · rw [e1, hkeep q (Nat.lt_of_lt_of_le h1 hS.1) h2]; exact hS.2.1 q h1 h2
    · rcases List.mem_append.mp hq with h | h
      · exact hS.2.2 q h
      · exact hL q h
  obtain ⟨t2, a1, b1⟩ := kk r S' s' T'.heap (locs ++ L) hk ⟨by rw [e1]; exact hP, hS1, hn⟩ ho hlen T' rfl X'
  exact ⟨t2, stp t2 a1, b1⟩
theorem pre_ok (F : FX p U m args meth c D dA mi) (hSK : SKm base SK) (hE : EX SK U) (hbU : base ≤ U.heap.size) {H : Heap} {locs : List Loc} {as : List mV} (hv : HV base D dA U.heap S s H locs) (hs : H.size = base + S.length) (hn : nrS as) : PreS U H (PcW base sp D dA SK as S s) (as.map (mUp base sp)) := by
  refine ⟨fun a V g mk q => ?_, fun V hV hW => ⟨rfl, by rw [hV]; exact hv.1, by rw [hV]; exact hs, hv.2.2, hn, va_K.moved hW.alike F.2.2.2.2.2.1, EX.mv hSK hW (fun q hq => ?_) hE⟩⟩
  · obtain ⟨q1, q2, q3, q4, q5, q6, q7⟩ := q
    refine ⟨q1, q2, q3, q4, q5, va_K.moved (u := V) (U := V.calling g mk a) (Vm.Alike.refl V.vm) q6, ?_⟩
    exact EX.mv (U := V) (V := V.calling g mk a) hSK (State.WarmedH.refl V) (fun q hq => rfl) q7
  · rw [hV]
    exact hv.2.1.2.1 q (by omega) (by show ¬ base ≤ q; omega)
theorem r_static (F : FX p U m args meth c D dA mi) (hSK : SKm base SK) (hE : EX SK U) (hbU : base ≤ U.heap.size) (hU : U.heap.size = base + n0) (hnl : nL = mML mi) {d : Nat} (hRf : d + 1 ≤ R.frames ∧ 60 * (d + 1) ≤ R.locals) (hB : B ≤ R.cells ∧ 2400 * B ≤ R.slots) {mj idx : Nat} (hK : MK mj) (hst : Cond.static (mY mj) ∈ mT) (hlk : Cond.methodLink (mY mi).cls idx (mY mj) ∈ mT) {n : Nat} (hpar : (parseMethodDescriptor (mY mj).desc).map (fun d => d.parameters.length) = some n) {as : List mV} (hlen : as.length = n) (hw : sW st ≤ 8) (hbud : mCe mj ≤ bud) {K : mRt} (hM : nrS as → nrH S s → MetW l base sp D dA SK d mj as S s K) (hd : decode (mB mi) pc = .ok (.invokestatic idx, 3))
    (h : ∀ r S' s', K r S' s' → WG p l e R U m args below meth c Q base sp D dA nL B n0 (bud - mCe mj) (pc + 3) ls (r.toList ++ st) S' s') : WG p l e R U m args below meth c Q base sp D dA nL B n0 bud pc ls (as.reverse ++ st) S s := by
  intro H locs cells slots rls hv hl hn hc hz
  refine W_size (fun hup => ?_)
  have hs := sz_eq hU hv hc hup
  have hn2 := nrS_app hn
  have hmap : (as.reverse ++ st).map (mUp base sp) = (as.map (mUp base sp)).reverse ++ st.map (mUp base sp) := by simp
  rw [hmap]
  have hcb := callB_of (own := (mY mi).cls) (index := idx) n F.2.2.2.2.1 (wsM_good hK) (ws' := mT) rfl (rm := rmD d mj) (R := R) rfl rfl (F.2.2.2.2.1 _ hK.2.1) (F.2.2.2.2.1 _ hlk) ⟨hK.2.2.1.1, hK.2.2.1.2, hpar⟩ ⟨hRf.1, by have := hK.2.2.2.2.1; have := hRf.2; show 8 + (mML mj + 11) + 60 * d ≤ _; omega⟩
  refine W_call (mj := mj) (va_runS (nL := nL) ⟨F.1, F.2.1, by rw [F.2.2.1, hnl], F.2.2.2.1, F.2.2.2.2.1⟩ (hM (nrS_rev hn2.1) hv.2.2) ⟨hcb, F.2.2.2.2.1 _ hst⟩ (pre_ok F hSK hE hbU hv hs (nrS_rev hn2.1)) rfl (by simp [hlen]) hl.2.1 rfl (by rw [sW_eq]; show 2 * 0 + sW st ≤ 8; omega) hd ⟨by omega, by omega⟩) hv.2.1 (fun r S' s' H1 locs1 hk hv1 ho hl1 => ?_)
  have := h r S' s' hk H1 locs1 (cells + mCe mj) (slots + 2400 * mCe mj) rls hv1 hl (by cases r with | none => exact hn2.2 | some v => exact ⟨ho, hn2.2⟩) (by rw [hl1]; omega) (by omega)
  cases r with
  | none => exact this
  | some v => exact this
theorem r_virtual (F : FX p U m args meth c D dA mi) (hSK : SKm base SK) (hE : EX SK U) (hbU : base ≤ U.heap.size) (hU : U.heap.size = base + n0) (hnl : nL = mML mi) {d : Nat} (hRf : d + 1 ≤ R.frames ∧ 60 * (d + 1) ≤ R.locals) (hB : B ≤ R.cells ∧ 2400 * B ≤ R.slots) {mj idx : Nat} (hK : MK mj) (hin : Cond.instanceMethod (mY mj) ∈ mT) (hse : Cond.selects (mY mj).cls (mY mj) (mY mj) ∈ mT) (hlk : Cond.methodLink (mY mi).cls idx (mY mj) ∈ mT) {n ci o : Nat} (hci : ∃ T N, mCl[ci]? = some ((mY mj).cls, T, N)) (hc20 : ci < 20) (ho : kS S o = ci) (hpar : (parseMethodDescriptor (mY mj).desc).map (fun d => d.parameters.length) = some n) {as : List mV} (hlen : as.length = n) (hw : sW st ≤ 8) (hbud : mCe mj ≤ bud) {K : mRt} (hM : nrS (mR o :: as) → nrH S s → MetW l base sp D dA SK d mj (mR o :: as) S s K) (hd : decode (mB mi) pc = .ok (.invokevirtual idx, 3))
    (h : ∀ r S' s', K r S' s' → WG p l e R U m args below meth c Q base sp D dA nL B n0 (bud - mCe mj) (pc + 3) ls (r.toList ++ st) S' s') : WG p l e R U m args below meth c Q base sp D dA nL B n0 bud pc ls ((mR o :: as).reverse ++ st) S s := by
  intro H locs cells slots rls hv hl hn hc hz
  refine W_size (fun hup => ?_)
  have hs := sz_eq hU hv hc hup
  have hn2 := nrS_app hn
  have hmap : ((mR o :: as).reverse ++ st).map (mUp base sp) = (as.map (mUp base sp)).reverse ++ Value.ref (base + o) :: st.map (mUp base sp) := by simp [mUp]
  rw [hmap]
  obtain ⟨T0, N0, hcl⟩ := hci
  obtain ⟨nf, rs, eo⟩ := kS_at ho (by omega)
  have hw0 := mWs_at (base := base) (dA := dA) (s := s) eo
  rw [ent_obj hc20] at hw0
  have hcb := callB_of (own := (mY mi).cls) (index := idx) n F.2.2.2.2.1 (wsM_good hK) (ws' := mT) rfl (rm := rmD d mj) (R := R) rfl rfl (F.2.2.2.2.1 _ hK.2.1) (F.2.2.2.2.1 _ hlk) ⟨hK.2.2.1.1, hK.2.2.1.2, hpar⟩ ⟨hRf.1, by have := hK.2.2.2.2.1; have := hRf.2; show 8 + (mML mj + 11) + 60 * d ≤ _; omega⟩
  refine W_call (mj := mj) (va_runV (nL := nL) (As := as.map (mUp base sp)) (b := base + o) ⟨F.1, F.2.1, by rw [F.2.2.1, hnl], F.2.2.2.1, F.2.2.2.2.1⟩ (hM (nrS_rev hn2.1) hv.2.2) ⟨hcb, F.2.2.2.2.1 _ hin, F.2.2.2.2.1 _ hse⟩ ⟨(pre_ok F hSK hE hbU hv hs (nrS_rev hn2.1)).1, va_recv F.2.2.2.2.2.1 hv.1 hcl hw0, (pre_ok F hSK hE hbU hv hs (nrS_rev hn2.1)).2⟩ rfl (by simp [hlen]) hl.2.1 rfl (by rw [sW_eq]; show 2 * 0 + sW st ≤ 8; omega) hd ⟨by omega, by omega⟩) hv.2.1 (fun r S' s' H1 locs1 hk hv1 ho hl1 => ?_)
  have := h r S' s' hk H1 locs1 (cells + mCe mj) (slots + 2400 * mCe mj) rls hv1 hl (by cases r with | none => exact hn2.2 | some v => exact ⟨ho, hn2.2⟩) (by rw [hl1]; omega) (by omega)
  cases r with
  | none => exact this
  | some v => exact this
theorem r_special (F : FX p U m args meth c D dA mi) (hSK : SKm base SK) (hE : EX SK U) (hbU : base ≤ U.heap.size) (hU : U.heap.size = base + n0) (hnl : nL = mML mi) {d : Nat} (hRf : d + 1 ≤ R.frames ∧ 60 * (d + 1) ≤ R.locals) (hB : B ≤ R.cells ∧ 2400 * B ≤ R.slots) {mj idx : Nat} (hK : MK mj) (hin : Cond.instanceMethod (mY mj) ∈ mT) (hre : mRet mj = none) (hini : (mY mj).name = "<init>") (hlk : Cond.methodLink (mY mi).cls idx (mY mj) ∈ mT) {n ci o : Nat} (hci : ∃ T N, mCl[ci]? = some ((mY mj).cls, T, N)) (hc20 : ci < 20) (ho : kS S o = ci) (hpar : (parseMethodDescriptor (mY mj).desc).map (fun d => d.parameters.length) = some n) {as : List mV} (hlen : as.length = n) (hw : sW st ≤ 8) (hbud : mCe mj ≤ bud) {K : mRt} (hM : nrS (mR o :: as) → nrH S s → MetW l base sp D dA SK d mj (mR o :: as) S s K) (hd : decode (mB mi) pc = .ok (.invokespecial idx, 3))
    (h : ∀ r S' s', K r S' s' → WG p l e R U m args below meth c Q base sp D dA nL B n0 (bud - mCe mj) (pc + 3) ls (r.toList ++ st) S' s') : WG p l e R U m args below meth c Q base sp D dA nL B n0 bud pc ls ((mR o :: as).reverse ++ st) S s := by
  intro H locs cells slots rls hv hl hn hc hz
  refine W_size (fun hup => ?_)
  have hs := sz_eq hU hv hc hup
  have hn2 := nrS_app hn
  have hmap : ((mR o :: as).reverse ++ st).map (mUp base sp) = (as.map (mUp base sp)).reverse ++ Value.ref (base + o) :: st.map (mUp base sp) := by simp [mUp]
  rw [hmap]
  obtain ⟨T0, N0, hcl⟩ := hci
  obtain ⟨nf, rs, eo⟩ := kS_at ho (by omega)
  have hw0 := mWs_at (base := base) (dA := dA) (s := s) eo
  rw [ent_obj hc20] at hw0
  have hcb := callB_of (own := (mY mi).cls) (index := idx) n F.2.2.2.2.1 (wsM_good hK) (ws' := mT) (by unfold wsM; rw [hre]) (rm := rmD d mj) (R := R) rfl rfl (F.2.2.2.2.1 _ hK.2.1) (F.2.2.2.2.1 _ hlk) ⟨hK.2.2.1.1, hK.2.2.1.2, hpar⟩ ⟨hRf.1, by have := hK.2.2.2.2.1; have := hRf.2; show 8 + (mML mj + 11) + 60 * d ≤ _; omega⟩
  refine W_call (mj := mj) (va_runI (nL := nL) (As := as.map (mUp base sp)) (b := base + o) ⟨F.1, F.2.1, by rw [F.2.2.1, hnl], F.2.2.2.1, F.2.2.2.2.1⟩ (hM (nrS_rev hn2.1) hv.2.2) ⟨hcb, hini, F.2.2.2.2.1 _ hin⟩ (pre_ok F hSK hE hbU hv hs (nrS_rev hn2.1)) rfl (by simp [hlen]) hl.2.1 rfl (by rw [sW_eq]; show 2 * 0 + sW st ≤ 8; omega) hd ⟨by omega, by omega⟩) hv.2.1 (fun r S' s' H1 locs1 hk hv1 ho hl1 => ?_)
  have := h r S' s' hk H1 locs1 (cells + mCe mj) (slots + 2400 * mCe mj) rls hv1 hl (by cases r with | none => exact hn2.2 | some v => exact ⟨ho, hn2.2⟩) (by rw [hl1]; omega) (by omega)
  cases r with
  | none => exact this
  | some v => exact this
theorem r_nest (F : FX p U m args meth c D dA mi) (hSK : SKm base SK) (hE : EX SK U) (hbU : base ≤ U.heap.size) (hU : U.heap.size = base + n0) (hnl : nL = mML mi) {d : Nat} (hRf : d + 1 ≤ R.frames ∧ 60 * (d + 1) ≤ R.locals) (hB : B ≤ R.cells ∧ 2400 * B ≤ R.slots) {mj idx : Nat} (hK : MK mj) {host : String} (hin : Cond.instanceMethod (mY mj) ∈ mT) (hre : mRet mj = none) (hini : (mY mj).name = "<init>") (hlk : Cond.methodLinkNest (mY mi).cls idx (mY mj) host ∈ mNw) {n ci o : Nat} (hci : ∃ T N, mCl[ci]? = some ((mY mj).cls, T, N)) (hc20 : ci < 20) (ho : kS S o = ci) (hpar : (parseMethodDescriptor (mY mj).desc).map (fun d => d.parameters.length) = some n) {as : List mV} (hlen : as.length = n) (hw : sW st ≤ 8) (hbud : mCe mj ≤ bud) {K : mRt} (hM : nrS (mR o :: as) → nrH S s → MetW l base sp D dA SK d mj (mR o :: as) S s K) (hd : decode (mB mi) pc = .ok (.invokespecial idx, 3))
    (h : ∀ r S' s', K r S' s' → WG p l e R U m args below meth c Q base sp D dA nL B n0 (bud - mCe mj) (pc + 3) ls (r.toList ++ st) S' s') : WG p l e R U m args below meth c Q base sp D dA nL B n0 bud pc ls ((mR o :: as).reverse ++ st) S s := by
  intro H locs cells slots rls hv hl hn hc hz
  refine W_size (fun hup => ?_)
  have hs := sz_eq hU hv hc hup
  have hn2 := nrS_app hn
  have hmap : ((mR o :: as).reverse ++ st).map (mUp base sp) = (as.map (mUp base sp)).reverse ++ Value.ref (base + o) :: st.map (mUp base sp) := by simp [mUp]
  rw [hmap]
  obtain ⟨T0, N0, hcl⟩ := hci
  obtain ⟨nf, rs, eo⟩ := kS_at ho (by omega)
  have hw0 := mWs_at (base := base) (dA := dA) (s := s) eo
  rw [ent_obj hc20] at hw0
  have hcb := va_cnB (own := (mY mi).cls) (index := idx) (host := host) n F.2.2.2.2.1 (wsM_good hK) (ws' := mT) (by unfold wsM; rw [hre]) (rm := rmD d mj) (R := R) rfl rfl (hE.2.2.1 _ _ _ _ hlk) (F.2.2.2.2.1 _ hK.2.1) ⟨hK.2.2.1.1, hK.2.2.1.2, hpar⟩ ⟨hRf.1, by have := hK.2.2.2.2.1; have := hRf.2; show 8 + (mML mj + 11) + 60 * d ≤ _; omega⟩
  refine W_call (mj := mj) (va_runIN (nL := nL) (As := as.map (mUp base sp)) (b := base + o) ⟨F.1, F.2.1, by rw [F.2.2.1, hnl], F.2.2.2.1, F.2.2.2.2.1⟩ (hM (nrS_rev hn2.1) hv.2.2) ⟨hcb, hini, F.2.2.2.2.1 _ hin⟩ (pre_ok F hSK hE hbU hv hs (nrS_rev hn2.1)) rfl (by simp [hlen]) hl.2.1 rfl (by rw [sW_eq]; show 2 * 0 + sW st ≤ 8; omega) hd ⟨by omega, by omega⟩) hv.2.1 (fun r S' s' H1 locs1 hk hv1 ho hl1 => ?_)
  have := h r S' s' hk H1 locs1 (cells + mCe mj) (slots + 2400 * mCe mj) rls hv1 hl (by cases r with | none => exact hn2.2 | some v => exact ⟨ho, hn2.2⟩) (by rw [hl1]; omega) (by omega)
  cases r with
  | none => exact this
  | some v => exact this
end RC
