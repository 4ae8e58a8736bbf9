/-! rows of rows -/
theorem arrV_cg {cI : ClassId} {N : Nat} {f g : Nat → Value} (h : ∀ j, j < N → f j = g j) : arrV cI N f = arrV cI N g := by
  unfold arrV
  congr 2
  funext j
  exact h j.val j.isLt
theorem mna_outer (c : ClassId) (N h0 : Nat) : ∀ i : Nat, Jvm.Free.Multi.outerC c N h0 i = arrV c N (fun j => va_rf (if j < i then some (h0 + 1 + j) else none))
  | 0 => by
    show ({ cls := c, slots := Array.replicate N .null, vm := .none } : Cell) = _
    rw [arrV_new]
    refine congrArg (arrV c N) (funext fun j => ?_)
    simp [va_rf]
  | i + 1 => by
    show (Jvm.Free.Multi.outerC c N h0 i).setSlot i (.ref (h0 + 1 + i)) = _
    rw [mna_outer c N h0 i, arrV_store]
    refine congrArg (arrV c N) (funext fun j => ?_)
    by_cases e : j = i
    · subst e
      simp [updV, va_rf]
    · by_cases h : j < i
      · simp [updV, e, h, Nat.lt_succ_of_lt h]
      · simp [updV, e, h, show ¬ j < i + 1 by omega]
section RA
variable {p : Program} {l : Launch} {e : Env} {R : Room} {U : State} {m : MethodId} {args : Array Value} {below : List Frame} {meth : Method} {c : Code} {Q : State → Prop}
variable {base : Nat} {sp : Nat → Nat} {D : va_G} {dA : Nat → ClassId} {mi nL B n0 bud pc : Nat} {ls : mLo} {st : List mV} {S : List mSh} {s : mSt}
theorem r_mna (F : FX p U m args meth c D dA mi) (hU : U.heap.size = base + n0) (hB : B ≤ R.cells ∧ 2400 * B ≤ R.slots) {idx : Nat} (hlk : Cond.classLink (mY mi).cls idx "[[I" ∈ mT) (hov : (Cond.arrayOver (.array .int)).before args U = true) (harr : Cond.arrayClass .int ∈ mT) {k n : Int} (hk0 : 0 ≤ k ∧ k ≤ 100 ∧ 0 ≤ n ∧ n ≤ 20 ∧ n.toNat + 1 ≤ bud) (hd : decode (mB mi) pc = .ok (.multianewarray idx 2, 4)) (h : WG p l e R U m args below meth c Q base sp D dA nL B n0 (bud - (n.toNat + 1)) (pc + 4) ls (mR S.length :: st) (S ++ ((28, n.toNat, []) :: List.replicate n.toNat (22, k.toNat, []))) (mM2 S s)) : WG p l e R U m args below meth c Q base sp D dA nL B n0 bud pc ls (mI k :: mI n :: st) S s := by
  intro H locs cells slots rls hv hl hn hc hz
  refine W_size (fun hup => ?_)
  have hs := sz_eq hU hv hc hup
  have nn : ∀ z : Int, 0 ≤ z → z ≤ 100 → ¬ Int32.ofInt z < 0 ∧ (Int32.ofInt z).toNatClampNeg = z.toNat := by
    intro z h0 h1
    have hr : nr32 z := by unfold nr32; omega
    refine ⟨by rw [z32, q_lt hr nr_0]; omega, ?_⟩
    show (Int32.ofInt z).toInt.toNat = _
    rw [ti32 hr]
  obtain ⟨k1, k2⟩ := nn k hk0.1 hk0.2.1
  obtain ⟨n1, n2⟩ := nn n hk0.2.2.1 (by omega)
  have hm : n.toNat * k.toNat ≤ 20 * 100 := Nat.mul_le_mul (by omega) (by omega)
  intro T0 hT X0
  obtain ⟨vm₁, cA, comp, -, fA, fC, hO, -, X', step⟩ := X0.multianewarray2F F.1 F.2.2.2.1 (F.2.2.2.2.1 _ hlk) hov (F.2.2.2.2.1 _ harr) (g := F0 m pc rls (Value.int (Int32.ofInt k) :: Value.int (Int32.ofInt n) :: st.map (mUp base sp))) rfl (by rw [F.2.1]; exact hd) rfl n1 k1 (by rw [n2]; omega) (by rw [k2]; show k.toNat * 4 ≤ _; omega) (by rw [k2]; omega) rfl rfl (by rw [n2]; omega) (by rw [n2, k2]; omega)
  have hTh : (T0.setVm vm₁).heap = H := hT
  rw [n2, k2] at X' step
  generalize hF : Jvm.Free.Multi.fill (T0.setVm vm₁) cA comp n.toNat k.toNat (defaultValue .int) n.toNat = G at X' step
  obtain ⟨f1, f2, -, -⟩ := Jvm.Free.Multi.fill_facts (T0.setVm vm₁) cA comp n.toNat k.toNat (defaultValue .int) n.toNat
  rw [hF, hTh] at f1 f2
  have hold : ∀ x : Nat, x < H.size → G.heap[x]? = H[x]? := fun x hx => by
    have := Jvm.Free.Multi.fill_old (T0.setVm vm₁) cA comp n.toNat k.toNat (defaultValue .int) (a := x) (by rw [hTh]; exact hx) n.toNat
    rw [hF, hTh] at this
    exact this
  have hrow : ∀ j : Nat, j < n.toNat → G.heap[H.size + 1 + j]? = some (Jvm.Free.Multi.innerC comp k.toNat (defaultValue .int)) := fun j hj => by
    have := Jvm.Free.Multi.fill_inner (T0.setVm vm₁) cA comp n.toNat k.toNat (defaultValue .int) n.toNat j hj
    rw [hF, hTh] at this
    exact this
  have hcA : cA = dA 28 := Option.some.inj (fA.symm.trans (F.2.2.2.2.2.1.2 8 _ rfl).2)
  have hcm : comp = dA 22 := Option.some.inj (fC.symm.trans (F.2.2.2.2.2.1.2 2 _ rfl).2)
  subst hcA
  subst hcm
  have hso : ∀ q, q < S.length → mM2 S s q = s q := fun q hq => by funext j; unfold mM2; rw [if_neg (by omega), if_neg (by omega)]
  have hlen : (S ++ ((28, n.toNat, []) :: List.replicate n.toNat (22, k.toNat, [])) : List mSh).length = S.length + (n.toNat + 1) := by simp
  have key := h G.heap locs (cells + 1 + n.toNat) (slots + n.toNat + n.toNat * k.toNat) rls ⟨P_app hs hv.1 hold hso (fun i q hq => ?_), S_new hv.2.1 (by omega) hold, nrH_app hv.2.2 hso (fun i q hq => ?_)⟩ hl ⟨trivial, hn.2.2⟩ (by rw [hlen]; omega) (by omega)
  · obtain ⟨t, a1, b1⟩ := key G rfl X'
    refine ⟨t, step t ?_, b1⟩
    have e : T0.heap.size = base + S.length := by rw [hT]; exact hs
    rw [e]
    exact a1
  · cases i with
    | zero =>
      have hq : (28, n.toNat, []) = q := Option.some.inj hq
      subst hq
      rw [ent_ref (show 25 ≤ 28 by decide)]
      show G.heap[base + S.length]? = some (arrV (dA 28) n.toNat (fun j => va_rf (mRw base (mM2 S s (S.length + 0) j))))
      rw [← hs, f2, mna_outer]
      refine congrArg some (arrV_cg (fun j hj => ?_))
      rw [if_pos hj]
      refine congrArg va_rf ?_
      have e1 : mM2 S s (S.length + 0) j = ((S.length + 1 + j : Nat) : Int) := by unfold mM2; rw [if_pos (by omega)]
      rw [e1]
      unfold mRw
      rw [if_neg (by omega)]
      congr 1
      omega
    | succ i =>
      have hq : (List.replicate n.toNat (22, k.toNat, ([] : List Nat)))[i]? = some q := by simpa using hq
      rw [List.getElem?_replicate] at hq
      by_cases hi : i < n.toNat
      · rw [if_pos hi] at hq
        cases hq
        rw [ent_int (show 20 ≤ 22 by decide) (show 22 ≠ 23 by decide) (show 22 < 25 by decide)]
        show G.heap[base + (S.length + (i + 1))]? = some (arrV (dA 22) k.toNat (fun j => Value.int (Int32.ofInt (mM2 S s (S.length + (i + 1)) j))))
        rw [show base + (S.length + (i + 1)) = H.size + 1 + i by omega, hrow i hi]
        show some ({ cls := dA 22, slots := Array.replicate k.toNat (defaultValue .int), vm := .none } : Cell) = _
        rw [arrV_new]
        refine congrArg some (arrV_cg (fun j hj => ?_))
        unfold mM2
        rw [if_neg (by omega), if_pos (by omega)]
        rfl
      · rw [if_neg hi] at hq
        cases hq
  · cases i with
    | zero =>
      have hq : (28, n.toNat, []) = q := Option.some.inj hq
      subst hq
      exact ⟨(show n.toNat ≤ 2400 by omega), fun j => nrC_ref (show 25 ≤ 28 by decide)⟩
    | succ i =>
      have hq : (List.replicate n.toNat (22, k.toNat, ([] : List Nat)))[i]? = some q := by simpa using hq
      rw [List.getElem?_replicate] at hq
      by_cases hi : i < n.toNat
      · rw [if_pos hi] at hq
        cases hq
        refine ⟨(show k.toNat ≤ 2400 by omega), fun j => ?_⟩
        unfold mM2
        rw [if_neg (by omega), if_pos (by omega)]
        exact nrC_0 _ _
      · rw [if_neg hi] at hq
        cases hq
end RA
