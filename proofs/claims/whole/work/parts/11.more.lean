/-! constants, rows of references, lengths, the script, new cells, copies -/
theorem sW_eq {base : Nat} {sp : Nat → Nat} : ∀ (st : List mV), ((st.map (mUp base sp)).map fun v => v.category).sum = sW st
  | [] => rfl
  | Sum.inl x :: t => by
    rw [List.map_cons, List.map_cons, List.sum_cons, sW_eq t]
    show 1 + sW t = sW t + 1
    omega
  | Sum.inr (Sum.inl x) :: t => by
    rw [List.map_cons, List.map_cons, List.sum_cons, sW_eq t]
    show 2 + sW t = sW t + 2
    omega
  | Sum.inr (Sum.inr (Sum.inl none)) :: t => by
    rw [List.map_cons, List.map_cons, List.sum_cons, sW_eq t]
    show 1 + sW t = sW t + 1
    omega
  | Sum.inr (Sum.inr (Sum.inl (some k))) :: t => by
    rw [List.map_cons, List.map_cons, List.sum_cons, sW_eq t]
    show 1 + sW t = sW t + 1
    omega
  | Sum.inr (Sum.inr (Sum.inr j)) :: t => by
    rw [List.map_cons, List.map_cons, List.sum_cons, sW_eq t]
    show 1 + sW t = sW t + 1
    omega
/-- what a class is: its words, its fields' types, what a new object holds -/
def CLs (ci : Nat) (C : String) (T : u_T) (N : Nat) (Y : Nat → FieldType) : Prop := mCl[ci]? = some (C, T, N) ∧ (∀ w ∈ u_ws C T N, w ∈ mT) ∧ (∀ j, j < N → parseFieldDescriptor (T j).2.2.1 = some (Y j)) ∧ ci < 20 ∧ (∀ j, j < N → defaultValue (Y j) = if mFKd ci j = 1 then .long 0 else if mFKd ci j = 2 then .null else .int 0) ∧ Cond.instantiable C N ∈ mT ∧ Cond.initialized C ∈ mT ∧ N ≤ 2400
section RM
variable {p : Program} {l : Launch} {e : Env} {R : Room} {U : State} {m : MethodId} {args : Array Value} {below : List Frame} {meth : Method} {c : Code} {Q : State → Prop}
variable {base : Nat} {sp : Nat → Nat} {D : va_G} {dA : Nat → ClassId} {mi nL B n0 bud pc : Nat} {ls : mLo} {st : List mV} {S : List mSh} {s : mSt}
theorem r_ldc (F : FX p U m args meth c D dA mi) {idx : Nat} {a : Int} (ha : nr32 a) (hlk : Cond.constant (mY mi).cls idx (Int32.ofInt a) ∈ mT) (hd : decode (mB mi) pc = .ok (.ldc idx, 2)) (h : WG p l e R U m args below meth c Q base sp D dA nL B n0 bud (pc + 2) ls (mI a :: st) S s) : WG p l e R U m args below meth c Q base sp D dA nL B n0 bud pc ls st S s := by
  intro H locs cells slots rls hv hl hn hc hz
  refine lv_ldc F.1 F.2.1 F.2.2.2.1 (F.2.2.2.2.1 _ hlk) hd ?_
  exact h H locs cells slots rls hv hl ⟨ha, hn⟩ hc hz
theorem r_ldcw (F : FX p U m args meth c D dA mi) {idx : Nat} {a : Int} (ha : nr32 a) (hlk : Cond.constant (mY mi).cls idx (Int32.ofInt a) ∈ mT) (hd : decode (mB mi) pc = .ok (.ldc_w idx, 3)) (h : WG p l e R U m args below meth c Q base sp D dA nL B n0 bud (pc + 3) ls (mI a :: st) S s) : WG p l e R U m args below meth c Q base sp D dA nL B n0 bud pc ls st S s := by
  intro H locs cells slots rls hv hl hn hc hz
  refine lv_ldcw F.1 F.2.1 F.2.2.2.1 (F.2.2.2.2.1 _ hlk) hd ?_
  exact h H locs cells slots rls hv hl ⟨ha, hn⟩ hc hz
theorem r_ldc2 (F : FX p U m args meth c D dA mi) {idx : Nat} {a : Int} (ha : nr64 a) (hlk : Cond.constantLong (mY mi).cls idx (Int64.ofInt a) ∈ mT) (hd : decode (mB mi) pc = .ok (.ldc2_w idx, 3)) (h : WG p l e R U m args below meth c Q base sp D dA nL B n0 bud (pc + 3) ls (mJ a :: st) S s) : WG p l e R U m args below meth c Q base sp D dA nL B n0 bud pc ls st S s := by
  intro H locs cells slots rls hv hl hn hc hz
  refine lv_ldc2 F.1 F.2.1 F.2.2.2.1 (F.2.2.2.2.1 _ hlk) hd ?_
  exact h H locs cells slots rls hv hl ⟨ha, hn⟩ hc hz
theorem el_cl {kd : Nat} (h1 : 25 ≤ kd) (h2 : kd ≤ 27) {dA : Nat → ClassId} : ∃ q : vw_C, mCl[elOf kd]? = some q ∧ (mTys dA)[kd - 20]? = some (dA kd, .object q.1) ∧ elOf kd < 20 := by
  rcases (show kd = 25 ∨ kd = 26 ∨ kd = 27 by omega) with rfl | rfl | rfl
  · exact ⟨_, rfl, rfl, by decide⟩
  · exact ⟨_, rfl, rfl, by decide⟩
  · exact ⟨_, rfl, rfl, by decide⟩
theorem r_aast (F : FX p U m args meth c D dA mi) {a n kd r : Nat} {j : Int} (ha : aS S a kd n) (hk : 25 ≤ kd ∧ kd ≤ 27 ∧ kS S r = elOf kd) (hj : 0 ≤ j ∧ j < n) (hd : decode (mB mi) pc = .ok (.aastore, 1)) (h : WG p l e R U m args below meth c Q base sp D dA nL B n0 bud (pc + 1) ls st S (uS s a j.toNat r)) : WG p l e R U m args below meth c Q base sp D dA nL B n0 bud pc ls (mR r :: mI j :: mR a :: st) S s := by
  intro H locs cells slots rls hv hl hn hc hz
  obtain ⟨rs, e⟩ := aS_at ha (by omega)
  have hw := mWs_at (base := base) (dA := dA) (s := s) e
  rw [ent_ref hk.1] at hw
  have hb := hv.2.2 a _ e
  have hi := q_ix hj (Nat.lt_of_le_of_lt hb.1 (by decide))
  obtain ⟨q, hq, ht, hlt⟩ := el_cl hk.1 hk.2.1 (dA := dA)
  obtain ⟨n', rs', e'⟩ := kS_at hk.2.2 (by omega)
  have hw' := mWs_at (base := base) (dA := dA) (s := s) e'
  rw [ent_obj hlt] at hw'
  refine va_astq F.1 F.2.1 F.2.2.2.2.2.1 hv.1 mWs_D hv.2.1 a (kd - 20) r (elOf kd) hw ht hw' hq hi.1 hd (fun H1 locs1 hP1 hD1 hS1 => ?_)
  rw [hi.2] at hP1
  rw [mWs_set (S' := S) (s' := uS s a j.toNat r) rfl e (fun b hb => ⟨rfl, uS_o hb⟩) (by
    rw [ent_ref hk.1]
    refine congrArg (fun z => Sum.inl (dA kd, n, Sum.inr (Sum.inr (Sum.inr (Sum.inr z))))) (funext fun q => ?_)
    by_cases hq : q = j.toNat
    · subst hq
      rw [uS_k]
      unfold mRw
      rw [if_neg (by omega)]
      simp [va_up]
    · rw [uS_j hq]; simp [va_up, hq])] at hP1
  exact h H1 locs1 cells slots rls ⟨hP1, hS1, nrH_up hv.2.2 e (nrC_ref hk.1)⟩ hl hn.2.2.2 hc hz
theorem ent_arr {base : Nat} {dA : Nat → ClassId} {q : mSh} {f : Nat → Int} (h : 20 ≤ q.1) : ∃ z, mEnt base dA q f = .inl (dA q.1, q.2.1, z) := by
  unfold mEnt
  rw [if_neg (by omega)]
  split
  · exact ⟨_, rfl⟩
  · split <;> exact ⟨_, rfl⟩
theorem ty_at {dA : Nat → ClassId} {kd : Nat} (h : 20 ≤ kd ∧ kd ≤ 28) : ∃ ty, (mTys dA)[kd - 20]? = some (dA kd, ty) := by
  rcases (show kd = 20 ∨ kd = 21 ∨ kd = 22 ∨ kd = 23 ∨ kd = 24 ∨ kd = 25 ∨ kd = 26 ∨ kd = 27 ∨ kd = 28 by omega) with rfl | rfl | rfl | rfl | rfl | rfl | rfl | rfl | rfl <;> exact ⟨_, rfl⟩
theorem r_alen (F : FX p U m args meth c D dA mi) {a n kd : Nat} (ha : aS S a kd n) (hk : 20 ≤ kd ∧ kd ≤ 28 ∧ n < 2147483648) (hd : decode (mB mi) pc = .ok (.arraylength, 1)) (h : WG p l e R U m args below meth c Q base sp D dA nL B n0 bud (pc + 1) ls (mI n :: st) S s) : WG p l e R U m args below meth c Q base sp D dA nL B n0 bud pc ls (mR a :: st) S s := by
  intro H locs cells slots rls hv hl hn hc hz
  obtain ⟨rs, e⟩ := aS_at ha (by omega)
  have hw := mWs_at (base := base) (dA := dA) (s := s) e
  obtain ⟨z, hz1⟩ := ent_arr (base := base) (dA := dA) (q := (kd, n, rs)) (f := s a) hk.1
  rw [hz1] at hw
  obtain ⟨ty, ht⟩ := ty_at (dA := dA) ⟨hk.1, hk.2.1⟩
  refine va_alen (v := Int32.ofInt n) F.1 F.2.1 F.2.2.2.2.2.1 hv.1 a (kd - 20) hw ht rfl hd ?_
  exact h H locs cells slots rls hv hl ⟨(show nr32 _ by unfold nr32; omega), hn.2⟩ hc hz
/-- the script, as the law's frame has it -/
def SX (X : (Nat → Int) × Nat) (U : State) (base : Nat) (sp : Nat → Nat) : Prop := ∃ xs : Nat → Int32, va_X (sp 0) X.2 xs U U.heap ∧ sp 0 < U.heap.size ∧ sp 0 < base ∧ X.2 < 2147483648 ∧ ∀ j, j < X.2 → (xs j).toInt = X.1 j
theorem r_sld (F : FX p U m args meth c D dA mi) {X : (Nat → Int) × Nat} (hX : SX X U base sp) {j : Int} (hj : 0 ≤ j ∧ j < X.2) (hd : decode (mB mi) pc = .ok (.iaload, 1)) (h : WG p l e R U m args below meth c Q base sp D dA nL B n0 bud (pc + 1) ls (mI (X.1 j.toNat) :: st) S s) : WG p l e R U m args below meth c Q base sp D dA nL B n0 bud pc ls (mI j :: mX 0 :: st) S s := by
  intro H locs cells slots rls hv hl hn hc hz
  obtain ⟨xs, h1, h2, h3, h4, h5⟩ := hX
  have hi := q_ix hj h4
  refine va_sld F.1 F.2.1 h1 h2 (Nat.not_le.mpr h3) hv.2.1 hi.1 hd ?_
  rw [hi.2]
  have hx := h5 j.toNat (by omega)
  have hxx : xs j.toNat = Int32.ofInt (X.1 j.toNat) := by rw [← hx, Int32.ofInt_toInt]
  rw [hxx]
  exact h H locs cells slots rls hv hl ⟨(show nr32 _ by rw [← hx]; exact nr_i _), hn.2.2⟩ hc hz
theorem r_slen (F : FX p U m args meth c D dA mi) {X : (Nat → Int) × Nat} (hX : SX X U base sp) (hd : decode (mB mi) pc = .ok (.arraylength, 1)) (h : WG p l e R U m args below meth c Q base sp D dA nL B n0 bud (pc + 1) ls (mI X.2 :: st) S s) : WG p l e R U m args below meth c Q base sp D dA nL B n0 bud pc ls (mX 0 :: st) S s := by
  intro H locs cells slots rls hv hl hn hc hz
  obtain ⟨xs, h1, h2, h3, h4, h5⟩ := hX
  refine va_slen F.1 F.2.1 h1 h2 (Nat.not_le.mpr h3) hv.2.1 hd ?_
  exact h H locs cells slots rls hv hl ⟨(show nr32 _ by unfold nr32; omega), hn.2⟩ hc hz
theorem r_oinit (F : FX p U m args meth c D dA mi) {idx r : Nat} (hlk : Cond.methodLink (mY mi).cls idx Lib.objectInit ∈ mT) (hin : Cond.instanceMethod Lib.objectInit ∈ mT) (hco : Cond.code Lib.objectInit ⟨#[0xb1]⟩ 1 none ∈ mT) (hnl : nL = mML mi) (hfr : 1 ≤ R.frames) (hlo : 20 ≤ R.locals) (hw : sW st ≤ 8) (hd : decode (mB mi) pc = .ok (.invokespecial idx, 3)) (h : WG p l e R U m args below meth c Q base sp D dA nL B n0 bud (pc + 3) ls st S s) : WG p l e R U m args below meth c Q base sp D dA nL B n0 bud pc ls (mR r :: st) S s := by
  intro H locs cells slots rls hv hl hn hc hz
  refine W.objInit F.1 F.2.1 F.2.2.2.1 (F.2.2.2.2.1 _ hlk) (F.2.2.2.2.1 _ hin) (F.2.2.2.2.1 _ hco) rfl (by show rls.size = _; rw [hl.2.1, F.2.2.1, hnl]) rfl hd hfr ?_ ?_
  · have := sW_eq (base := base) (sp := sp) st
    show 2 * 0 + ((st.map (mUp base sp)).map fun v => v.category).sum + 12 ≤ _
    omega
  · exact h H locs cells slots rls hv hl hn.2 hc hz
theorem cS_o {s : mSt} {a i b j n d : Nat} (h : d ≠ b) : cS s a i b j n d = s d := by funext q; unfold cS; rw [if_neg (fun z => h z.1)]
theorem r_copy (F : FX p U m args meth c D dA mi) {idx a b l0 l1 : Nat} {i j n : Int} (hlk : Cond.methodLink (mY mi).cls idx arraycopyName ∈ mT) (hna : Cond.native arraycopyName ∈ mT) (hst : Cond.static arraycopyName ∈ mT) (hin : Cond.initialized "java/lang/System" ∈ mT) (hnl : nL = mML mi) (hfr : 1 ≤ R.frames) (hlo : 60 ≤ R.locals) (hw : sW st ≤ 8) (ha : aS S a 22 l0 ∧ 0 ≤ i ∧ 0 ≤ n ∧ i + n ≤ l0) (hb : aS S b 22 l1 ∧ 0 ≤ j ∧ j + n ≤ l1) (hd : decode (mB mi) pc = .ok (.invokestatic idx, 3)) (h : WG p l e R U m args below meth c Q base sp D dA nL B n0 bud (pc + 3) ls st S (cS s a i.toNat b j.toNat n.toNat)) : WG p l e R U m args below meth c Q base sp D dA nL B n0 bud pc ls (mI n :: mI j :: mR b :: mI i :: mR a :: st) S s := by
  intro H locs cells slots rls hv hl hn hc hz
  obtain ⟨ha, hi0, hn0, hin0⟩ := ha
  obtain ⟨hb, hj0, hjn⟩ := hb
  obtain ⟨rs, ea⟩ := aS_at ha (by decide)
  obtain ⟨rt, eb⟩ := aS_at hb (by decide)
  have hwa := mWs_at (base := base) (dA := dA) (s := s) ea
  have hwb := mWs_at (base := base) (dA := dA) (s := s) eb
  rw [ent_int (show 20 ≤ 22 by decide) (show 22 ≠ 23 by decide) (show 22 < 25 by decide)] at hwa hwb
  have ba := hv.2.2 a _ ea
  have bb := hv.2.2 b _ eb
  have b1 : l0 ≤ 2400 := ba.1
  have b2 : l1 ≤ 2400 := bb.1
  have nn : ∀ z : Int, 0 ≤ z → z ≤ 2400 → ¬ Int32.ofInt z < 0 ∧ (Int32.ofInt z).toNatClampNeg = z.toNat := by
    intro z h0 h1
    have hr : nr32 z := by unfold nr32; omega
    refine ⟨by rw [z32, q_lt hr nr_0]; omega, ?_⟩
    show (Int32.ofInt z).toInt.toNat = _
    rw [ti32 hr]
  obtain ⟨i1, i2⟩ := nn i hi0 (by omega)
  obtain ⟨j1, j2⟩ := nn j hj0 (by omega)
  obtain ⟨k1, k2⟩ := nn n hn0 (by omega)
  refine va_copyi F.1 F.2.1 (by rw [F.2.2.1, hl.2.1, hnl]) F.2.2.2.1 (F.2.2.2.2.1 _ hlk) (F.2.2.2.2.1 _ hna) (F.2.2.2.2.1 _ hst) (F.2.2.2.2.1 _ hin) F.2.2.2.2.2.1 hv.1 mWs_D hv.2.1 a b 2 2 hwa hwb rfl rfl rfl i1 j1 k1 (by rw [i2, k2]; show i.toNat + n.toNat ≤ l0; omega) (by rw [j2, k2]; show j.toNat + n.toNat ≤ l1; omega) (fun _ _ => rfl) hfr ?_ hd (fun H1 locs1 hP1 hD1 hS1 => ?_)
  · have := sW_eq (base := base) (sp := sp) st
    rw [this]
    exact Nat.le_trans (Nat.add_le_add_right hw _) (Nat.le_trans (by decide +kernel) hlo)
  rw [i2, j2, k2] at hP1
  rw [mWs_set (S' := S) (s' := cS s a i.toNat b j.toNat n.toNat) rfl eb (fun d hd => ⟨rfl, cS_o hd⟩) (by
    rw [ent_int (show 20 ≤ 22 by decide) (show 22 ≠ 23 by decide) (show 22 < 25 by decide)]
    refine congrArg (fun z => Sum.inl (dA 22, l1, Sum.inl z)) (funext fun q => ?_)
    unfold cS
    by_cases hq : j.toNat ≤ q ∧ q < j.toNat + n.toNat
    · rw [if_pos ⟨rfl, hq⟩, pk_cpy_in hq.1 hq.2]
    · rw [if_neg (fun z => hq z.2), pk_cpy_out (by omega)])] at hP1
  refine h H1 locs1 cells slots rls ⟨hP1, hS1, fun d q hq => ⟨(hv.2.2 d q hq).1, fun k => ?_⟩⟩ hl hn.2.2.2.2.2 hc hz
  unfold cS
  by_cases hk : d = b ∧ j.toNat ≤ k ∧ k < j.toNat + n.toNat
  · rw [if_pos hk]
    obtain ⟨rfl, -⟩ := hk
    cases hq.symm.trans eb
    exact (nrC_int (show 20 ≤ 22 by decide) (show 22 ≠ 23 by decide) (show 22 < 25 by decide)).mpr ((nrC_int (show 20 ≤ 22 by decide) (show 22 ≠ 23 by decide) (show 22 < 25 by decide)).mp (ba.2 _))
  · rw [if_neg hk]; exact (hv.2.2 d q hq).2 k
end RM
