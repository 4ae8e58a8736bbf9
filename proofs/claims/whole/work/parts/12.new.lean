/-! new cells -/
theorem sz_eq {base n0 cells bud B : Nat} {D : va_G} {dA : Nat → ClassId} {U : State} {S : List mSh} {s : mSt} {H : Heap} {locs : List Loc} (hU : U.heap.size = base + n0) (hv : HV base D dA U.heap S s H locs) (hc : cells + bud = B ∧ S.length + bud = n0 + B) (hup : H.size ≤ U.heap.size + cells) : H.size = base + S.length := by
  have h1 := hv.2.1.1
  have h2 : base + S.length ≤ H.size := by
    rcases Nat.eq_zero_or_pos S.length with h0 | h0
    · omega
    · have hk : S.length - 1 < S.length := by omega
      have := (hv.1 _ _ (mWs_at (List.getElem?_eq_getElem hk))).lt
      have this : base + (S.length - 1) < H.size := this
      omega
  omega
theorem P_app {base : Nat} {D : va_G} {dA : Nat → ClassId} {S T : List mSh} {s s' : mSt} {H H1 : Heap} (hsz : H.size = base + S.length) (hP : va_P D mCl (mWs base dA S s) H) (ho : ∀ q : Nat, q < H.size → H1[q]? = H[q]?) (hs : ∀ k, k < S.length → s' k = s k) (hn : ∀ (i : Nat) (q : mSh), T[i]? = some q → va_at D mCl (base + (S.length + i), mEnt base dA q (s' (S.length + i))) H1) : va_P D mCl (mWs base dA (S ++ T) s') H1 := by
  intro k x hx
  obtain ⟨h1, h2⟩ := mWs_lt hx
  rcases Nat.lt_or_ge k S.length with hk | hk
  · have e1 : (S ++ T)[k]? = some S[k] := by rw [List.getElem?_append_left hk, List.getElem?_eq_getElem hk]
    rw [mWs_at e1, hs k hk] at hx
    have := hP k _ (mWs_at (List.getElem?_eq_getElem hk))
    cases hx
    exact this.kept (ho _ (by show base + k < H.size; omega))
  · have hl : k - S.length < T.length := by rw [List.length_append] at h1; omega
    have e1 : (S ++ T)[k]? = some T[k - S.length] := by rw [List.getElem?_append_right hk, List.getElem?_eq_getElem hl]
    rw [mWs_at e1] at hx
    have := hn (k - S.length) _ (List.getElem?_eq_getElem hl)
    rw [show S.length + (k - S.length) = k by omega] at this
    cases hx
    exact this
theorem zS_o {s : mSt} {a b : Nat} {x : Int} (h : b ≠ a) : zS s a x b = s b := by funext j; unfold zS; rw [if_neg h]
theorem zS_s {s : mSt} {a j : Nat} {x : Int} : zS s a x a j = x := by unfold zS; rw [if_pos rfl]
theorem nrC_0 (q : mSh) (j : Nat) : nrC q j 0 := by
  unfold nrC
  split
  · exact nr_up nr_0
  · split
    · exact nr_0
    · trivial
theorem nrH_app {S T : List mSh} {s s' : mSt} (h : nrH S s) (hs : ∀ k, k < S.length → s' k = s k) (hn : ∀ (i : Nat) (q : mSh), T[i]? = some q → q.2.1 ≤ 2400 ∧ ∀ j, nrC q j (s' (S.length + i) j)) : nrH (S ++ T) s' := by
  intro k q hq
  rcases Nat.lt_or_ge k S.length with hk | hk
  · rw [List.getElem?_append_left hk] at hq
    rw [hs k hk]
    exact h k q hq
  · rw [List.getElem?_append_right hk] at hq
    have := hn _ q hq
    rw [show S.length + (k - S.length) = k by omega] at this
    exact this
theorem one_at {α : Type} {q x : α} {i : Nat} (h : [q][i]? = some x) : i = 0 ∧ x = q := by
  have hi : i < 1 := (List.getElem?_eq_some_iff.mp h).1
  have : i = 0 := by omega
  subst this
  exact ⟨rfl, (Option.some.inj h).symm⟩
theorem S_new {base : Nat} {H0 H H1 : Heap} {locs : List Loc} (h : va_S (mA base) H0 H locs) (hz : H.size ≤ H1.size) (ho : ∀ q : Nat, q < H.size → H1[q]? = H[q]?) : va_S (mA base) H0 H1 locs :=
  ⟨Nat.le_trans h.1 hz, fun x h1 h2 => (ho x (Nat.lt_of_lt_of_le h1 h.1)).trans (h.2.1 x h1 h2), h.2.2⟩
section RN
variable {p : Program} {l : Launch} {e : Env} {R : Room} {U : State} {m : MethodId} {args : Array Value} {below : List Frame} {meth : Method} {c : Code} {Q : State → Prop}
variable {base : Nat} {sp : Nat → Nat} {D : va_G} {dA : Nat → ClassId} {mi nL B n0 bud pc : Nat} {ls : mLo} {st : List mV} {S : List mSh} {s : mSt}
theorem W_size {H : Heap} {locs : List Loc} {cells slots : Nat} {g : JFrame} (h : H.size ≤ U.heap.size + cells → W p l e R U m args below meth c H locs cells slots Q g) : W p l e R U m args below meth c H locs cells slots Q g := fun T hT X => h (by rw [← hT]; exact X.heapSize) T hT X
theorem r_new (F : FX p U m args meth c D dA mi) (hU : U.heap.size = base + n0) (hB : B ≤ R.cells ∧ 2400 * B ≤ R.slots) {idx ci N : Nat} {C : String} {T : u_T} {Y : Nat → FieldType} (L : CLs ci C T N Y) (hlk : Cond.classLink (mY mi).cls idx C ∈ mT) (hd : decode (mB mi) pc = .ok (.new idx, 3)) (h : WG p l e R U m args below meth c Q base sp D dA nL B n0 bud (pc + 3) ls (mR S.length :: st) (S ++ [(ci, N, List.replicate N 0)]) (zS s S.length 0)) : WG p l e R U m args below meth c Q base sp D dA nL B n0 (bud + 1) pc ls st S s := by
  intro H locs cells slots rls hv hl hn hc hz
  refine W_size (fun hup => ?_)
  have hs := sz_eq hU hv hc hup
  obtain ⟨hcl, hin, hty, hci, hdf, hins, hini, hN⟩ := L
  have hKn := F.2.2.2.2.2.1.1 ci _ hcl
  have hnf := nf_of hcl
  refine W.newcK F.1 F.2.1 F.2.2.2.1 (F.2.2.2.2.1 _ hlk) (F.2.2.2.2.1 _ hins) (F.2.2.2.2.1 _ hini) rfl hd (by omega) (by omega) hKn.2.1 hs (fun H1 kC hkC e1 z1 o1 => ?_)
  refine h H1 locs (cells + 1) (slots + N) rls ⟨P_app hs hv.1 (fun q hq => o1 q (by omega)) (fun k hk => zS_o (by omega)) (fun i q hq => ?_), S_new hv.2.1 (by omega) (fun q hq => o1 q (by omega)), nrH_app hv.2.2 (fun k hk => zS_o (by omega)) (fun i q hq => ?_)⟩ hl ⟨trivial, hn⟩ (by rw [List.length_append]; show _ ∧ S.length + 1 + bud = _; omega) (by omega)
  · obtain ⟨rfl, rfl⟩ := one_at hq
    rw [ent_obj hci]
    refine ⟨_, hcl, (u_born Y F.2.2.2.2.1 hin hKn hkC e1 hty).to (fun j hj => ?_)⟩
    unfold vp_V
    rw [List.getD_eq_getElem?_getD, fs_at (by show j < mNf ci; rw [hnf]; exact hj), hdf j hj]
    show _ = mFv base (ci, N, List.replicate N 0) j (zS s S.length 0 S.length j)
    rw [zS_s]
    unfold mFv
    show _ = if mFKd ci j = 1 then _ else if mFKd ci j = 2 then mRf base ((List.replicate N 0).getD j 0) else _
    split
    · rfl
    · split
      · rw [List.getD_eq_getElem?_getD, List.getElem?_replicate, if_pos hj]; rfl
      · rfl
  · obtain ⟨rfl, rfl⟩ := one_at hq
    exact ⟨hN, fun j => by rw [Nat.add_zero, zS_s]; exact nrC_0 _ _⟩
theorem r_newa_byte (F : FX p U m args meth c D dA mi) (hU : U.heap.size = base + n0) (hB : B ≤ R.cells ∧ 2400 * B ≤ R.slots) (harr : Cond.arrayClass .byte ∈ mT) {n : Int} (hn0 : 0 ≤ n ∧ n ≤ 2400) (hd : decode (mB mi) pc = .ok (.newarray .byte, 2)) (h : WG p l e R U m args below meth c Q base sp D dA nL B n0 bud (pc + 2) ls (mR S.length :: st) (S ++ [(20, n.toNat, [])]) (zS s S.length 0)) : WG p l e R U m args below meth c Q base sp D dA nL B n0 (bud + 1) pc ls (mI n :: st) S s := by
  intro H locs cells slots rls hv hl hn hc hz
  refine W_size (fun hup => ?_)
  have hs := sz_eq hU hv hc hup
  have hr : nr32 n := by unfold nr32; omega
  have h0 : ¬ Int32.ofInt n < 0 := by rw [z32, q_lt hr nr_0]; omega
  have h1 : (Int32.ofInt n).toNatClampNeg = n.toNat := by show (Int32.ofInt n).toInt.toNat = _; rw [ti32 hr]
  refine va_newaK (atype := .byte) F.1 F.2.1 (F.2.2.2.2.1 _ harr) rfl hd rfl h0 h1 (by show n.toNat * _ ≤ _; exact Nat.le_trans (Nat.mul_le_mul (show n.toNat ≤ 2400 by omega) (show componentBytes .byte ≤ 8 by decide)) (by decide)) (by omega) (by omega) hs (fun H1 cA e1 z1 o1 hAr hNm => ?_)
  have hcA : cA = dA 20 := Option.some.inj (hNm.symm.trans (F.2.2.2.2.2.1.2 0 _ rfl).2)
  refine h H1 locs (cells + 1) (slots + n.toNat) rls ⟨P_app hs hv.1 (fun q hq => o1 q (by omega)) (fun k hk => zS_o (by omega)) (fun i q hq => ?_), S_new hv.2.1 (by omega) (fun q hq => o1 q (by omega)), nrH_app hv.2.2 (fun k hk => zS_o (by omega)) (fun i q hq => ?_)⟩ hl ⟨trivial, hn.2⟩ (by rw [List.length_append]; show _ ∧ S.length + 1 + bud = _; omega) (by omega)
  · obtain ⟨rfl, rfl⟩ := one_at hq
    rw [ent_int (show 20 ≤ 20 by decide) (show 20 ≠ 23 by decide) (show 20 < 25 by decide)]
    show H1[base + S.length]? = some (vp_cell _ _)
    rw [e1, hcA]
    show some (arrV (dA 20) n.toNat fun _ => Value.int 0) = some (arrV (dA 20) n.toNat fun j => Value.int (Int32.ofInt (zS s S.length 0 (S.length + 0) j)))
    refine congrArg (fun f => some (arrV (dA 20) n.toNat f)) (funext fun j => ?_)
    rw [Nat.add_zero, zS_s]
    rfl
  · obtain ⟨rfl, rfl⟩ := one_at hq
    exact ⟨(show n.toNat ≤ 2400 by omega), fun j => by rw [Nat.add_zero, zS_s]; exact nrC_0 _ _⟩
theorem r_newa_char (F : FX p U m args meth c D dA mi) (hU : U.heap.size = base + n0) (hB : B ≤ R.cells ∧ 2400 * B ≤ R.slots) (harr : Cond.arrayClass .char ∈ mT) {n : Int} (hn0 : 0 ≤ n ∧ n ≤ 2400) (hd : decode (mB mi) pc = .ok (.newarray .char, 2)) (h : WG p l e R U m args below meth c Q base sp D dA nL B n0 bud (pc + 2) ls (mR S.length :: st) (S ++ [(21, n.toNat, [])]) (zS s S.length 0)) : WG p l e R U m args below meth c Q base sp D dA nL B n0 (bud + 1) pc ls (mI n :: st) S s := by
  intro H locs cells slots rls hv hl hn hc hz
  refine W_size (fun hup => ?_)
  have hs := sz_eq hU hv hc hup
  have hr : nr32 n := by unfold nr32; omega
  have h0 : ¬ Int32.ofInt n < 0 := by rw [z32, q_lt hr nr_0]; omega
  have h1 : (Int32.ofInt n).toNatClampNeg = n.toNat := by show (Int32.ofInt n).toInt.toNat = _; rw [ti32 hr]
  refine va_newaK (atype := .char) F.1 F.2.1 (F.2.2.2.2.1 _ harr) rfl hd rfl h0 h1 (by show n.toNat * _ ≤ _; exact Nat.le_trans (Nat.mul_le_mul (show n.toNat ≤ 2400 by omega) (show componentBytes .char ≤ 8 by decide)) (by decide)) (by omega) (by omega) hs (fun H1 cA e1 z1 o1 hAr hNm => ?_)
  have hcA : cA = dA 21 := Option.some.inj (hNm.symm.trans (F.2.2.2.2.2.1.2 1 _ rfl).2)
  refine h H1 locs (cells + 1) (slots + n.toNat) rls ⟨P_app hs hv.1 (fun q hq => o1 q (by omega)) (fun k hk => zS_o (by omega)) (fun i q hq => ?_), S_new hv.2.1 (by omega) (fun q hq => o1 q (by omega)), nrH_app hv.2.2 (fun k hk => zS_o (by omega)) (fun i q hq => ?_)⟩ hl ⟨trivial, hn.2⟩ (by rw [List.length_append]; show _ ∧ S.length + 1 + bud = _; omega) (by omega)
  · obtain ⟨rfl, rfl⟩ := one_at hq
    rw [ent_int (show 20 ≤ 21 by decide) (show 21 ≠ 23 by decide) (show 21 < 25 by decide)]
    show H1[base + S.length]? = some (vp_cell _ _)
    rw [e1, hcA]
    show some (arrV (dA 21) n.toNat fun _ => Value.int 0) = some (arrV (dA 21) n.toNat fun j => Value.int (Int32.ofInt (zS s S.length 0 (S.length + 0) j)))
    refine congrArg (fun f => some (arrV (dA 21) n.toNat f)) (funext fun j => ?_)
    rw [Nat.add_zero, zS_s]
    rfl
  · obtain ⟨rfl, rfl⟩ := one_at hq
    exact ⟨(show n.toNat ≤ 2400 by omega), fun j => by rw [Nat.add_zero, zS_s]; exact nrC_0 _ _⟩
theorem r_newa_int (F : FX p U m args meth c D dA mi) (hU : U.heap.size = base + n0) (hB : B ≤ R.cells ∧ 2400 * B ≤ R.slots) (harr : Cond.arrayClass .int ∈ mT) {n : Int} (hn0 : 0 ≤ n ∧ n ≤ 2400) (hd : decode (mB mi) pc = .ok (.newarray .int, 2)) (h : WG p l e R U m args below meth c Q base sp D dA nL B n0 bud (pc + 2) ls (mR S.length :: st) (S ++ [(22, n.toNat, [])]) (zS s S.length 0)) : WG p l e R U m args below meth c Q base sp D dA nL B n0 (bud + 1) pc ls (mI n :: st) S s := by
  intro H locs cells slots rls hv hl hn hc hz
  refine W_size (fun hup => ?_)
  have hs := sz_eq hU hv hc hup
  have hr : nr32 n := by unfold nr32; omega
  have h0 : ¬ Int32.ofInt n < 0 := by rw [z32, q_lt hr nr_0]; omega
  have h1 : (Int32.ofInt n).toNatClampNeg = n.toNat := by show (Int32.ofInt n).toInt.toNat = _; rw [ti32 hr]
  refine va_newaK (atype := .int) F.1 F.2.1 (F.2.2.2.2.1 _ harr) rfl hd rfl h0 h1 (by show n.toNat * _ ≤ _; exact Nat.le_trans (Nat.mul_le_mul (show n.toNat ≤ 2400 by omega) (show componentBytes .int ≤ 8 by decide)) (by decide)) (by omega) (by omega) hs (fun H1 cA e1 z1 o1 hAr hNm => ?_)
  have hcA : cA = dA 22 := Option.some.inj (hNm.symm.trans (F.2.2.2.2.2.1.2 2 _ rfl).2)
  refine h H1 locs (cells + 1) (slots + n.toNat) rls ⟨P_app hs hv.1 (fun q hq => o1 q (by omega)) (fun k hk => zS_o (by omega)) (fun i q hq => ?_), S_new hv.2.1 (by omega) (fun q hq => o1 q (by omega)), nrH_app hv.2.2 (fun k hk => zS_o (by omega)) (fun i q hq => ?_)⟩ hl ⟨trivial, hn.2⟩ (by rw [List.length_append]; show _ ∧ S.length + 1 + bud = _; omega) (by omega)
  · obtain ⟨rfl, rfl⟩ := one_at hq
    rw [ent_int (show 20 ≤ 22 by decide) (show 22 ≠ 23 by decide) (show 22 < 25 by decide)]
    show H1[base + S.length]? = some (vp_cell _ _)
    rw [e1, hcA]
    show some (arrV (dA 22) n.toNat fun _ => Value.int 0) = some (arrV (dA 22) n.toNat fun j => Value.int (Int32.ofInt (zS s S.length 0 (S.length + 0) j)))
    refine congrArg (fun f => some (arrV (dA 22) n.toNat f)) (funext fun j => ?_)
    rw [Nat.add_zero, zS_s]
    rfl
  · obtain ⟨rfl, rfl⟩ := one_at hq
    exact ⟨(show n.toNat ≤ 2400 by omega), fun j => by rw [Nat.add_zero, zS_s]; exact nrC_0 _ _⟩
theorem r_newa_long (F : FX p U m args meth c D dA mi) (hU : U.heap.size = base + n0) (hB : B ≤ R.cells ∧ 2400 * B ≤ R.slots) (harr : Cond.arrayClass .long ∈ mT) {n : Int} (hn0 : 0 ≤ n ∧ n ≤ 2400) (hd : decode (mB mi) pc = .ok (.newarray .long, 2)) (h : WG p l e R U m args below meth c Q base sp D dA nL B n0 bud (pc + 2) ls (mR S.length :: st) (S ++ [(23, n.toNat, [])]) (zS s S.length 0)) : WG p l e R U m args below meth c Q base sp D dA nL B n0 (bud + 1) pc ls (mI n :: st) S s := by
  intro H locs cells slots rls hv hl hn hc hz
  refine W_size (fun hup => ?_)
  have hs := sz_eq hU hv hc hup
  have hr : nr32 n := by unfold nr32; omega
  have h0 : ¬ Int32.ofInt n < 0 := by rw [z32, q_lt hr nr_0]; omega
  have h1 : (Int32.ofInt n).toNatClampNeg = n.toNat := by show (Int32.ofInt n).toInt.toNat = _; rw [ti32 hr]
  refine va_newaK (atype := .long) F.1 F.2.1 (F.2.2.2.2.1 _ harr) rfl hd rfl h0 h1 (by show n.toNat * _ ≤ _; exact Nat.le_trans (Nat.mul_le_mul (show n.toNat ≤ 2400 by omega) (show componentBytes .long ≤ 8 by decide)) (by decide)) (by omega) (by omega) hs (fun H1 cA e1 z1 o1 hAr hNm => ?_)
  have hcA : cA = dA 23 := Option.some.inj (hNm.symm.trans (F.2.2.2.2.2.1.2 3 _ rfl).2)
  refine h H1 locs (cells + 1) (slots + n.toNat) rls ⟨P_app hs hv.1 (fun q hq => o1 q (by omega)) (fun k hk => zS_o (by omega)) (fun i q hq => ?_), S_new hv.2.1 (by omega) (fun q hq => o1 q (by omega)), nrH_app hv.2.2 (fun k hk => zS_o (by omega)) (fun i q hq => ?_)⟩ hl ⟨trivial, hn.2⟩ (by rw [List.length_append]; show _ ∧ S.length + 1 + bud = _; omega) (by omega)
  · obtain ⟨rfl, rfl⟩ := one_at hq
    rw [ent_long rfl]
    show H1[base + S.length]? = some (vp_cell _ _)
    rw [e1, hcA]
    show some (arrV (dA 23) n.toNat fun _ => Value.long 0) = some (arrV (dA 23) n.toNat fun j => Value.long (Int64.ofInt (zS s S.length 0 (S.length + 0) j)))
    refine congrArg (fun f => some (arrV (dA 23) n.toNat f)) (funext fun j => ?_)
    rw [Nat.add_zero, zS_s]
    rfl
  · obtain ⟨rfl, rfl⟩ := one_at hq
    exact ⟨(show n.toNat ≤ 2400 by omega), fun j => by rw [Nat.add_zero, zS_s]; exact nrC_0 _ _⟩
theorem r_newa_boolean (F : FX p U m args meth c D dA mi) (hU : U.heap.size = base + n0) (hB : B ≤ R.cells ∧ 2400 * B ≤ R.slots) (harr : Cond.arrayClass .boolean ∈ mT) {n : Int} (hn0 : 0 ≤ n ∧ n ≤ 2400) (hd : decode (mB mi) pc = .ok (.newarray .boolean, 2)) (h : WG p l e R U m args below meth c Q base sp D dA nL B n0 bud (pc + 2) ls (mR S.length :: st) (S ++ [(24, n.toNat, [])]) (zS s S.length 0)) : WG p l e R U m args below meth c Q base sp D dA nL B n0 (bud + 1) pc ls (mI n :: st) S s := by
  intro H locs cells slots rls hv hl hn hc hz
  refine W_size (fun hup => ?_)
  have hs := sz_eq hU hv hc hup
  have hr : nr32 n := by unfold nr32; omega
  have h0 : ¬ Int32.ofInt n < 0 := by rw [z32, q_lt hr nr_0]; omega
  have h1 : (Int32.ofInt n).toNatClampNeg = n.toNat := by show (Int32.ofInt n).toInt.toNat = _; rw [ti32 hr]
  refine va_newaK (atype := .boolean) F.1 F.2.1 (F.2.2.2.2.1 _ harr) rfl hd rfl h0 h1 (by show n.toNat * _ ≤ _; exact Nat.le_trans (Nat.mul_le_mul (show n.toNat ≤ 2400 by omega) (show componentBytes .boolean ≤ 8 by decide)) (by decide)) (by omega) (by omega) hs (fun H1 cA e1 z1 o1 hAr hNm => ?_)
  have hcA : cA = dA 24 := Option.some.inj (hNm.symm.trans (F.2.2.2.2.2.1.2 4 _ rfl).2)
  refine h H1 locs (cells + 1) (slots + n.toNat) rls ⟨P_app hs hv.1 (fun q hq => o1 q (by omega)) (fun k hk => zS_o (by omega)) (fun i q hq => ?_), S_new hv.2.1 (by omega) (fun q hq => o1 q (by omega)), nrH_app hv.2.2 (fun k hk => zS_o (by omega)) (fun i q hq => ?_)⟩ hl ⟨trivial, hn.2⟩ (by rw [List.length_append]; show _ ∧ S.length + 1 + bud = _; omega) (by omega)
  · obtain ⟨rfl, rfl⟩ := one_at hq
    rw [ent_int (show 20 ≤ 24 by decide) (show 24 ≠ 23 by decide) (show 24 < 25 by decide)]
    show H1[base + S.length]? = some (vp_cell _ _)
    rw [e1, hcA]
    show some (arrV (dA 24) n.toNat fun _ => Value.int 0) = some (arrV (dA 24) n.toNat fun j => Value.int (Int32.ofInt (zS s S.length 0 (S.length + 0) j)))
    refine congrArg (fun f => some (arrV (dA 24) n.toNat f)) (funext fun j => ?_)
    rw [Nat.add_zero, zS_s]
    rfl
  · obtain ⟨rfl, rfl⟩ := one_at hq
    exact ⟨(show n.toNat ≤ 2400 by omega), fun j => by rw [Nat.add_zero, zS_s]; exact nrC_0 _ _⟩
theorem r_anew (F : FX p U m args meth c D dA mi) (hU : U.heap.size = base + n0) (hB : B ≤ R.cells ∧ 2400 * B ≤ R.slots) {idx kd : Nat} {C : String} (hlk : Cond.classLink (mY mi).cls idx C ∈ mT) (hov : va_AO C U) (hk : 25 ≤ kd ∧ kd ≤ 27) (hty : (mTys dA)[kd - 20]? = some (dA kd, .object C)) {n : Int} (hn0 : 0 ≤ n ∧ n ≤ 2400) (hd : decode (mB mi) pc = .ok (.anewarray idx, 3)) (h : WG p l e R U m args below meth c Q base sp D dA nL B n0 bud (pc + 3) ls (mR S.length :: st) (S ++ [(kd, n.toNat, [])]) (zS s S.length (-1))) : WG p l e R U m args below meth c Q base sp D dA nL B n0 (bud + 1) pc ls (mI n :: st) S s := by
  intro H locs cells slots rls hv hl hn hc hz
  refine W_size (fun hup => ?_)
  have hs := sz_eq hU hv hc hup
  have hr : nr32 n := by unfold nr32; omega
  have h0 : ¬ Int32.ofInt n < 0 := by rw [z32, q_lt hr nr_0]; omega
  have h1 : (Int32.ofInt n).toNatClampNeg = n.toNat := by show (Int32.ofInt n).toInt.toNat = _; rw [ti32 hr]
  refine W.anew F.1 F.2.1 F.2.2.2.1 (F.2.2.2.2.1 _ hlk) (va_AO.use hov) rfl hd rfl h0 (by rw [h1]; omega) (by omega) (by rw [h1]; omega) (fun cA kA comp f1 f2 f3 f4 => ?_)
  obtain ⟨-, kA', comp', -, -, -, f5⟩ := F.2.2.2.2.2.1.2 _ _ hty
  have hcA : cA = dA kd := Option.some.inj (f1.symm.trans f5)
  rw [h1]
  generalize hH1 : H.push ({ cls := cA, slots := Array.replicate n.toNat .null, vm := .none } : Cell) = H1
  have z1 : H1.size = H.size + 1 := by rw [← hH1, Array.size_push]
  have e1 : H1[H.size]? = some (arrV cA n.toNat (fun _ => .null)) := by rw [← hH1, Array.getElem?_push_size, ← arrV_new]
  have o1 : ∀ q : Nat, q < H.size → H1[q]? = H[q]? := fun q hq => by rw [← hH1, Array.getElem?_push, if_neg (Nat.ne_of_lt hq)]
  rw [hs]
  refine h H1 locs (cells + 1) (slots + n.toNat) rls ⟨P_app hs hv.1 o1 (fun k hk => zS_o (by omega)) (fun i q hq => ?_), S_new hv.2.1 (by omega) o1, nrH_app hv.2.2 (fun k hk => zS_o (by omega)) (fun i q hq => ?_)⟩ hl ⟨trivial, hn.2⟩ (by rw [List.length_append]; show _ ∧ S.length + 1 + bud = _; omega) (by omega)
  · obtain ⟨rfl, rfl⟩ := one_at hq
    rw [ent_ref hk.1]
    show H1[base + S.length]? = some (vp_cell _ _)
    rw [← hs, e1, hcA]
    show some (arrV (dA kd) n.toNat fun _ => Value.null) = some (arrV (dA kd) n.toNat fun j => va_rf (mRw base (zS s S.length (-1) (S.length + 0) j)))
    refine congrArg (fun f => some (arrV (dA kd) n.toNat f)) (funext fun j => ?_)
    rw [Nat.add_zero, zS_s]
    rfl
  · obtain ⟨rfl, rfl⟩ := one_at hq
    exact ⟨(show n.toNat ≤ 2400 by omega), fun j => nrC_ref hk.1⟩
end RN
