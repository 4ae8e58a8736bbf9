/-! rows of fields and arrays -/
/-- what a field's index means: class ci, field k, of kind kd -/
def FL (mi idx ci k kd : Nat) : Prop := ∃ (C : String) (T : u_T) (N : Nat) (Y : Nat → FieldType), mCl[ci]? = some (C, T, N) ∧ k < N ∧ Cond.fieldLink (mY mi).cls idx C (T k).2.1 (T k).2.2.1 ∈ mT ∧ (T k).1 = C ∧ (∀ w ∈ u_ws C T N, w ∈ mT) ∧ (∀ j, j < N → parseFieldDescriptor (T j).2.2.1 = some (Y j)) ∧ (∀ a, a < N → ∀ b, b < N → a ≠ b → (T a).2.1 ≠ (T b).2.1) ∧ ci < 20 ∧ mFKd ci k = kd ∧
  (kd = 0 → Y k = .int ∧ (T k).2.2.2 = false) ∧ (kd = 1 → Y k = .long ∧ (T k).2.2.2 = false) ∧ (kd = 2 → (T k).2.2.2 = true ∧ ((∃ n, Y k = .object n) ∨ ∃ t, Y k = .array t)) ∧ (kd = 3 → Y k = .boolean ∧ (T k).2.2.2 = false)
theorem nf_of {ci N : Nat} {C : String} {T : u_T} (h : mCl[ci]? = some (C, T, N)) : mNf ci = N := by unfold mNf; rw [h]
theorem fs_at {base : Nat} {q : mSh} {f : Nat → Int} {k : Nat} (h : k < mNf q.1) : ((List.range (mNf q.1)).map (fun j => mFv base q j (f j)))[k]? = some (mFv base q k (f k)) := by
  rw [List.getElem?_map, List.getElem?_range h]; rfl
theorem fs_set {base n k : Nat} {g g' : Nat → Value} {v : Value} (h : k < n) (hk : g' k = v) (ho : ∀ j, j ≠ k → g' j = g j) : ((List.range n).map g).set k v = (List.range n).map g' := by
  apply List.ext_getElem?
  intro j
  by_cases e : j = k
  · subst e
    rw [List.getElem?_set_self (by simpa using h), List.getElem?_map, List.getElem?_range h, Option.map_some, hk]
  · rw [List.getElem?_set_ne (fun z => e z.symm), List.getElem?_map, List.getElem?_map]
    rcases Nat.lt_or_ge j n with hj | hj
    · rw [List.getElem?_range hj, Option.map_some, Option.map_some, ho j e]
    · rw [List.getElem?_eq_none_iff.mpr (by simpa using hj)]; rfl
theorem uS_o {s : mSt} {a k : Nat} {x : Int} {b : Nat} (h : b ≠ a) : uS s a k x b = s b := by funext j; unfold uS; rw [if_neg (fun z => h z.1)]
theorem uS_k {s : mSt} {a k : Nat} {x : Int} : uS s a k x a k = x := by unfold uS; rw [if_pos ⟨rfl, rfl⟩]
theorem uS_j {s : mSt} {a k j : Nat} {x : Int} (h : j ≠ k) : uS s a k x a j = s a j := by unfold uS; rw [if_neg (fun z => h z.2)]
theorem nar_c {x : Int} (hx : 0 ≤ x ∧ x < 65536) : vp_nar .char (Int32.ofInt x) = Int32.ofInt x := by
  have h := q_i2c (x := x) (by unfold nr32; omega)
  rw [show x % 65536 = x by omega] at h
  rw [← h]
  exact pk_vc _
section RH
variable {p : Program} {l : Launch} {e : Env} {R : Room} {U : State} {m : MethodId} {args : Array Value} {below : List Frame} {meth : Method} {c : Code} {Q : State → Prop}
variable {base : Nat} {sp : Nat → Nat} {D : va_G} {dA : Nat → ClassId} {mi nL B n0 bud pc : Nat} {ls : mLo} {st : List mV} {S : List mSh} {s : mSt}
theorem r_getI (F : FX p U m args meth c D dA mi) {idx ci k kd o : Nat} (L : FL mi idx ci k kd) (hk : kd ≠ 1 ∧ kd ≠ 2) (ho : kS S o = ci) (hd : decode (mB mi) pc = .ok (.getfield idx, 3)) (h : WG p l e R U m args below meth c Q base sp D dA nL B n0 bud (pc + 3) ls (mI (s o k) :: st) S s) : WG p l e R U m args below meth c Q base sp D dA nL B n0 bud pc ls (mR o :: st) S s := by
  intro H locs cells slots rls hv hl hn hc hz
  obtain ⟨C, T, N, Y, hcl, hkN, hlk, hC, hin, hty, hnm, hci, hkd, k0, k1, k2, k3⟩ := L
  obtain ⟨n, rs, e⟩ := kS_at ho (by omega)
  have hw := mWs_at (base := base) (dA := dA) (s := s) e
  rw [ent_obj hci] at hw
  have hnf := nf_of hcl
  refine va_get F.1 F.2.1 F.2.2.2.2.1 hin F.2.2.2.1 F.2.2.2.2.2.1 hv.1 o hw hcl k hkN (F.2.2.2.2.1 _ hlk) (fun x hx => by rw [hC] at hx; exact hx) (fs_at (by rw [hnf]; exact hkN)) hd ?_
  have hr := (hv.2.2 o _ e).2 k
  have hm : mFv base (ci, n, rs) k (s o k) = mUp base sp (mI (s o k)) := by
    unfold mFv
    rw [if_neg (by show ¬ mFKd ci k = 1; rw [hkd]; exact hk.1), if_neg (by show ¬ mFKd ci k = 2; rw [hkd]; exact hk.2)]; rfl
  rw [hm]
  exact h H locs cells slots rls hv hl ⟨(nrC_f0 hci (by rw [hkd]; exact hk.1)).mp hr, hn.2⟩ hc hz
theorem r_getJ (F : FX p U m args meth c D dA mi) {idx ci k kd o : Nat} (L : FL mi idx ci k kd) (hk : kd = 1) (ho : kS S o = ci) (hd : decode (mB mi) pc = .ok (.getfield idx, 3)) (h : WG p l e R U m args below meth c Q base sp D dA nL B n0 bud (pc + 3) ls (mJ (s o k) :: st) S s) : WG p l e R U m args below meth c Q base sp D dA nL B n0 bud pc ls (mR o :: st) S s := by
  intro H locs cells slots rls hv hl hn hc hz
  obtain ⟨C, T, N, Y, hcl, hkN, hlk, hC, hin, hty, hnm, hci, hkd, k0, k1, k2, k3⟩ := L
  obtain ⟨n, rs, e⟩ := kS_at ho (by omega)
  have hw := mWs_at (base := base) (dA := dA) (s := s) e
  rw [ent_obj hci] at hw
  have hnf := nf_of hcl
  refine va_get F.1 F.2.1 F.2.2.2.2.1 hin F.2.2.2.1 F.2.2.2.2.2.1 hv.1 o hw hcl k hkN (F.2.2.2.2.1 _ hlk) (fun x hx => by rw [hC] at hx; exact hx) (fs_at (by rw [hnf]; exact hkN)) hd ?_
  have hr := (hv.2.2 o _ e).2 k
  have hm : mFv base (ci, n, rs) k (s o k) = mUp base sp (mJ (s o k)) := by
    unfold mFv
    rw [if_pos (by show mFKd ci k = 1; rw [hkd]; exact hk)]; rfl
  rw [hm]
  exact h H locs cells slots rls hv hl ⟨(nrC_f1 hci (by rw [hkd]; exact hk)).mp hr, hn.2⟩ hc hz
theorem r_getR (F : FX p U m args meth c D dA mi) {idx ci k o r : Nat} (L : FL mi idx ci k 2) (ho : kS S o = ci) (hr : rS S o k = r + 1) (hd : decode (mB mi) pc = .ok (.getfield idx, 3)) (h : WG p l e R U m args below meth c Q base sp D dA nL B n0 bud (pc + 3) ls (mR r :: st) S s) : WG p l e R U m args below meth c Q base sp D dA nL B n0 bud pc ls (mR o :: st) S s := by
  intro H locs cells slots rls hv hl hn hc hz
  obtain ⟨C, T, N, Y, hcl, hkN, hlk, hC, hin, hty, hnm, hci, hkd, k0, k1, k2, k3⟩ := L
  obtain ⟨n, rs, e⟩ := kS_at ho (by omega)
  have hw := mWs_at (base := base) (dA := dA) (s := s) e
  rw [ent_obj hci] at hw
  have hnf := nf_of hcl
  refine va_get F.1 F.2.1 F.2.2.2.2.1 hin F.2.2.2.1 F.2.2.2.2.2.1 hv.1 o hw hcl k hkN (F.2.2.2.2.1 _ hlk) (fun x hx => by rw [hC] at hx; exact hx) (fs_at (by rw [hnf]; exact hkN)) hd ?_
  have hm : mFv base (ci, n, rs) k (s o k) = mUp base sp (mR r) := by
    unfold mFv
    unfold rS at hr
    rw [e] at hr
    have hr : rs.getD k 0 = r + 1 := hr
    rw [if_neg (by show ¬ mFKd ci k = 1; rw [hkd]; decide), if_pos (by show mFKd ci k = 2; exact hkd)]
    show mRf base (rs.getD k 0) = _
    rw [hr]; rfl
  rw [hm]
  exact h H locs cells slots rls hv hl ⟨trivial, hn.2⟩ hc hz
theorem r_putI (F : FX p U m args meth c D dA mi) {idx ci k o : Nat} {x : Int} (L : FL mi idx ci k 0)  (ho : kS S o = ci) (hd : decode (mB mi) pc = .ok (.putfield idx, 3)) (h : WG p l e R U m args below meth c Q base sp D dA nL B n0 bud (pc + 3) ls st S (uS s o k x)) : WG p l e R U m args below meth c Q base sp D dA nL B n0 bud pc ls (mI x :: mR o :: st) S s := by
  intro H locs cells slots rls hv hl hn hc hz
  obtain ⟨C, T, N, Y, hcl, hkN, hlk, hC, hin, hty, hnm, hci, hkd, k0, k1, k2, k3⟩ := L
  obtain ⟨n, rs, e⟩ := kS_at ho (by omega)
  have hw := mWs_at (base := base) (dA := dA) (s := s) e
  rw [ent_obj hci] at hw
  have hnf := nf_of hcl
  have hY := k0 rfl
  refine va_put F.1 F.2.1 F.2.2.2.2.1 hin Y hty hnm F.2.2.2.1 F.2.2.2.2.2.1 hv.1 mWs_D hv.2.1 o hw hcl k hkN (F.2.2.2.2.1 _ hlk) (fun x hx => by rw [hC] at hx; exact hx) hY.2 (hty k hkN) (v := mUp base sp (mI x)) (by rw [hY.1]; rfl) (by rw [hY.1]; rfl) (by simpa [hnf] using hkN) hd (fun H1 locs1 hP1 hD1 hS1 => ?_)
  rw [mWs_set (S' := S) (s' := uS s o k x) rfl e (fun j hj => ⟨rfl, uS_o hj⟩) (by
    rw [ent_obj hci]
    refine congrArg (fun z => Sum.inr (ci, z)) (fs_set (base := base) (by rw [hnf]; exact hkN) ?_ (fun j hj => ?_)).symm
    · rw [uS_k]; unfold mFv; rw [if_neg (by show ¬ mFKd ci k = 1; rw [hkd]; decide), if_neg (by show ¬ mFKd ci k = 2; rw [hkd]; decide)]; rfl
    · rw [uS_j hj])] at hP1
  exact h H1 locs1 cells slots rls ⟨hP1, hS1, nrH_up hv.2.2 e ((nrC_f0 hci (by show mFKd ci k ≠ 1; rw [hkd]; decide)).mpr hn.1)⟩ hl hn.2.2 hc hz
theorem r_putZ (F : FX p U m args meth c D dA mi) {idx ci k o : Nat} {x : Int} (L : FL mi idx ci k 3) (hx : x = 0 ∨ x = 1) (ho : kS S o = ci) (hd : decode (mB mi) pc = .ok (.putfield idx, 3)) (h : WG p l e R U m args below meth c Q base sp D dA nL B n0 bud (pc + 3) ls st S (uS s o k x)) : WG p l e R U m args below meth c Q base sp D dA nL B n0 bud pc ls (mI x :: mR o :: st) S s := by
  intro H locs cells slots rls hv hl hn hc hz
  obtain ⟨C, T, N, Y, hcl, hkN, hlk, hC, hin, hty, hnm, hci, hkd, k0, k1, k2, k3⟩ := L
  obtain ⟨n, rs, e⟩ := kS_at ho (by omega)
  have hw := mWs_at (base := base) (dA := dA) (s := s) e
  rw [ent_obj hci] at hw
  have hnf := nf_of hcl
  have hY := k3 rfl
  refine va_put F.1 F.2.1 F.2.2.2.2.1 hin Y hty hnm F.2.2.2.1 F.2.2.2.2.2.1 hv.1 mWs_D hv.2.1 o hw hcl k hkN (F.2.2.2.2.1 _ hlk) (fun x hx => by rw [hC] at hx; exact hx) hY.2 (hty k hkN) (v := mUp base sp (mI x)) (by rw [hY.1]; rcases hx with rfl | rfl <;> rfl) (by rw [hY.1]; rcases hx with rfl | rfl <;> rfl) (by simpa [hnf] using hkN) hd (fun H1 locs1 hP1 hD1 hS1 => ?_)
  rw [mWs_set (S' := S) (s' := uS s o k x) rfl e (fun j hj => ⟨rfl, uS_o hj⟩) (by
    rw [ent_obj hci]
    refine congrArg (fun z => Sum.inr (ci, z)) (fs_set (base := base) (by rw [hnf]; exact hkN) ?_ (fun j hj => ?_)).symm
    · rw [uS_k]; unfold mFv; rw [if_neg (by show ¬ mFKd ci k = 1; rw [hkd]; decide), if_neg (by show ¬ mFKd ci k = 2; rw [hkd]; decide)]; rfl
    · rw [uS_j hj])] at hP1
  exact h H1 locs1 cells slots rls ⟨hP1, hS1, nrH_up hv.2.2 e ((nrC_f0 hci (by show mFKd ci k ≠ 1; rw [hkd]; decide)).mpr hn.1)⟩ hl hn.2.2 hc hz
theorem r_putJ (F : FX p U m args meth c D dA mi) {idx ci k o : Nat} {x : Int} (L : FL mi idx ci k 1)  (ho : kS S o = ci) (hd : decode (mB mi) pc = .ok (.putfield idx, 3)) (h : WG p l e R U m args below meth c Q base sp D dA nL B n0 bud (pc + 3) ls st S (uS s o k x)) : WG p l e R U m args below meth c Q base sp D dA nL B n0 bud pc ls (mJ x :: mR o :: st) S s := by
  intro H locs cells slots rls hv hl hn hc hz
  obtain ⟨C, T, N, Y, hcl, hkN, hlk, hC, hin, hty, hnm, hci, hkd, k0, k1, k2, k3⟩ := L
  obtain ⟨n, rs, e⟩ := kS_at ho (by omega)
  have hw := mWs_at (base := base) (dA := dA) (s := s) e
  rw [ent_obj hci] at hw
  have hnf := nf_of hcl
  have hY := k1 rfl
  refine va_put F.1 F.2.1 F.2.2.2.2.1 hin Y hty hnm F.2.2.2.1 F.2.2.2.2.2.1 hv.1 mWs_D hv.2.1 o hw hcl k hkN (F.2.2.2.2.1 _ hlk) (fun x hx => by rw [hC] at hx; exact hx) hY.2 (hty k hkN) (v := mUp base sp (mJ x)) (by rw [hY.1]; rfl) (by rw [hY.1]; rfl) (by simpa [hnf] using hkN) hd (fun H1 locs1 hP1 hD1 hS1 => ?_)
  rw [mWs_set (S' := S) (s' := uS s o k x) rfl e (fun j hj => ⟨rfl, uS_o hj⟩) (by
    rw [ent_obj hci]
    refine congrArg (fun z => Sum.inr (ci, z)) (fs_set (base := base) (by rw [hnf]; exact hkN) ?_ (fun j hj => ?_)).symm
    · rw [uS_k]; unfold mFv; rw [if_pos (by show mFKd ci k = 1; exact hkd)]; rfl
    · rw [uS_j hj])] at hP1
  exact h H1 locs1 cells slots rls ⟨hP1, hS1, nrH_up hv.2.2 e ((nrC_f1 hci hkd).mpr hn.1)⟩ hl hn.2.2 hc hz
theorem pS_at {S : List mSh} {o k v n : Nat} {ci : Nat} {rs : List Nat} (e : S[o]? = some (ci, n, rs)) : (pS S o k v)[o]? = some (ci, n, rs.set k v) := by
  simp [pS, List.getElem?_modify, e]
theorem pS_ne {S : List mSh} {o k v j : Nat} (h : j ≠ o) : (pS S o k v)[j]? = S[j]? := by
  have h : ¬ o = j := fun z => h z.symm
  simp [pS, List.getElem?_modify, h]
theorem pS_len {S : List mSh} {o k v : Nat} : (pS S o k v).length = S.length := by unfold pS; exact List.length_modify ..
theorem r_putR (F : FX p U m args meth c D dA mi) {idx ci k o r : Nat} (L : FL mi idx ci k 2) (hin1 : (mY mi).name = "<init>") (hown1 : ∀ C T N, mCl[ci]? = some (C, T, N) → C = (mY mi).cls) (hrl : ∀ n rs, S[o]? = some (ci, n, rs) → k < rs.length) (ho : kS S o = ci) (hd : decode (mB mi) pc = .ok (.putfield idx, 3)) (h : WG p l e R U m args below meth c Q base sp D dA nL B n0 bud (pc + 3) ls st (pS S o k (r + 1)) s) : WG p l e R U m args below meth c Q base sp D dA nL B n0 bud pc ls (mR r :: mR o :: st) S s := by
  intro H locs cells slots rls hv hl hn hc hz
  obtain ⟨C, T, N, Y, hcl, hkN, hlk, hC, hin, hty, hnm, hci, hkd, k0, k1, k2, k3⟩ := L
  obtain ⟨n, rs, e⟩ := kS_at ho (by omega)
  have hw := mWs_at (base := base) (dA := dA) (s := s) e
  rw [ent_obj hci] at hw
  have hnf := nf_of hcl
  have hY := k2 rfl
  have hrs := hrl n rs e
  refine va_putF F.1 F.2.1 F.2.2.2.2.1 hin Y hty hnm F.2.2.2.1 F.2.2.2.2.2.1 hv.1 mWs_D hv.2.1 o hw hcl k hkN (F.2.2.2.2.1 _ hlk) (fun x hx => by rw [hC] at hx; exact hx) hY.1 (F.2.2.2.2.2.2.2.2.trans hin1) (hC.trans (hown1 _ _ _ hcl)) (hty k hkN) (by rcases hY.2 with ⟨_, q⟩ | ⟨_, q⟩ <;> rw [q] <;> rfl) (by rcases hY.2 with ⟨_, q⟩ | ⟨_, q⟩ <;> rw [q] <;> rfl) (by simpa [hnf] using hkN) hd (fun H1 locs1 hP1 hD1 hS1 => ?_)
  have e' := pS_at (k := k) (v := r + 1) e
  rw [mWs_set (S' := pS S o k (r + 1)) (s' := s) pS_len e' (fun j hj => ⟨pS_ne hj, rfl⟩) (by
    rw [ent_obj hci]
    refine congrArg (fun z => Sum.inr (ci, z)) (fs_set (base := base) (by rw [hnf]; exact hkN) ?_ (fun j hj => ?_)).symm
    · unfold mFv
      rw [if_neg (by show ¬ mFKd ci k = 1; rw [hkd]; decide), if_pos (by show mFKd ci k = 2; exact hkd)]
      show mRf base ((rs.set k (r + 1)).getD k 0) = _
      rw [List.getD_eq_getElem?_getD, List.getElem?_set_self hrs]; rfl
    · unfold mFv
      show (if mFKd ci j = 1 then _ else if mFKd ci j = 2 then mRf base ((rs.set k (r + 1)).getD j 0) else _) = (if mFKd ci j = 1 then _ else if mFKd ci j = 2 then mRf base (rs.getD j 0) else _)
      rw [List.getD_eq_getElem?_getD, List.getElem?_set_ne (fun z => hj z.symm), ← List.getD_eq_getElem?_getD])] at hP1
  refine h H1 locs1 cells slots rls ⟨hP1, hS1, fun a q hq => ?_⟩ hl hn.2.2 (by rw [pS_len]; exact hc) hz
  by_cases ha : a = o
  · subst ha
    rw [e'] at hq
    cases hq
    have := hv.2.2 a _ e
    exact this
  · rw [pS_ne ha] at hq
    exact hv.2.2 a q hq
theorem r_iald (F : FX p U m args meth c D dA mi) {a n : Nat} {j : Int} (ha : aS S a 22 n) (hj : 0 ≤ j ∧ j < n) (hd : decode (mB mi) pc = .ok (.iaload, 1)) (h : WG p l e R U m args below meth c Q base sp D dA nL B n0 bud (pc + 1) ls (mI (s a j.toNat) :: st) S s) : WG p l e R U m args below meth c Q base sp D dA nL B n0 bud pc ls (mI j :: mR a :: st) S s := by
  intro H locs cells slots rls hv hl hn hc hz
  obtain ⟨rs, e⟩ := aS_at ha (by decide)
  have hw := mWs_at (base := base) (dA := dA) (s := s) e
  rw [ent_int (show 20 ≤ 22 by decide) (show 22 ≠ 23 by decide) (show 22 < 25 by decide)] at hw
  have hb := hv.2.2 a _ e
  have hi := q_ix hj (Nat.lt_of_le_of_lt hb.1 (by decide))
  refine va_iald F.1 F.2.1 F.2.2.2.2.2.1 hv.1 a 2 hw rfl hi.1 hd ?_
  rw [hi.2]
  exact h H locs cells slots rls hv hl ⟨(nrC_int (show 20 ≤ 22 by decide) (show 22 ≠ 23 by decide) (show 22 < 25 by decide)).mp (hb.2 j.toNat), hn.2.2⟩ hc hz
theorem r_bald (F : FX p U m args meth c D dA mi) {a n : Nat} {j : Int} (ha : aS S a 20 n) (hj : 0 ≤ j ∧ j < n) (hd : decode (mB mi) pc = .ok (.baload, 1)) (h : WG p l e R U m args below meth c Q base sp D dA nL B n0 bud (pc + 1) ls (mI (s a j.toNat) :: st) S s) : WG p l e R U m args below meth c Q base sp D dA nL B n0 bud pc ls (mI j :: mR a :: st) S s := by
  intro H locs cells slots rls hv hl hn hc hz
  obtain ⟨rs, e⟩ := aS_at ha (by decide)
  have hw := mWs_at (base := base) (dA := dA) (s := s) e
  rw [ent_int (show 20 ≤ 20 by decide) (show 20 ≠ 23 by decide) (show 20 < 25 by decide)] at hw
  have hb := hv.2.2 a _ e
  have hi := q_ix hj (Nat.lt_of_le_of_lt hb.1 (by decide))
  refine va_bald F.1 F.2.1 F.2.2.2.2.2.1 hv.1 a 0 hw rfl hi.1 hd ?_
  rw [hi.2]
  exact h H locs cells slots rls hv hl ⟨(nrC_int (show 20 ≤ 20 by decide) (show 20 ≠ 23 by decide) (show 20 < 25 by decide)).mp (hb.2 j.toNat), hn.2.2⟩ hc hz
theorem r_zald (F : FX p U m args meth c D dA mi) {a n : Nat} {j : Int} (ha : aS S a 24 n) (hj : 0 ≤ j ∧ j < n) (hd : decode (mB mi) pc = .ok (.baload, 1)) (h : WG p l e R U m args below meth c Q base sp D dA nL B n0 bud (pc + 1) ls (mI (s a j.toNat) :: st) S s) : WG p l e R U m args below meth c Q base sp D dA nL B n0 bud pc ls (mI j :: mR a :: st) S s := by
  intro H locs cells slots rls hv hl hn hc hz
  obtain ⟨rs, e⟩ := aS_at ha (by decide)
  have hw := mWs_at (base := base) (dA := dA) (s := s) e
  rw [ent_int (show 20 ≤ 24 by decide) (show 24 ≠ 23 by decide) (show 24 < 25 by decide)] at hw
  have hb := hv.2.2 a _ e
  have hi := q_ix hj (Nat.lt_of_le_of_lt hb.1 (by decide))
  refine va_zald F.1 F.2.1 F.2.2.2.2.2.1 hv.1 a 4 hw rfl hi.1 hd ?_
  rw [hi.2]
  exact h H locs cells slots rls hv hl ⟨(nrC_int (show 20 ≤ 24 by decide) (show 24 ≠ 23 by decide) (show 24 < 25 by decide)).mp (hb.2 j.toNat), hn.2.2⟩ hc hz
theorem r_cald (F : FX p U m args meth c D dA mi) {a n : Nat} {j : Int} (ha : aS S a 21 n) (hj : 0 ≤ j ∧ j < n) (hd : decode (mB mi) pc = .ok (.caload, 1)) (h : WG p l e R U m args below meth c Q base sp D dA nL B n0 bud (pc + 1) ls (mI (s a j.toNat) :: st) S s) : WG p l e R U m args below meth c Q base sp D dA nL B n0 bud pc ls (mI j :: mR a :: st) S s := by
  intro H locs cells slots rls hv hl hn hc hz
  obtain ⟨rs, e⟩ := aS_at ha (by decide)
  have hw := mWs_at (base := base) (dA := dA) (s := s) e
  rw [ent_int (show 20 ≤ 21 by decide) (show 21 ≠ 23 by decide) (show 21 < 25 by decide)] at hw
  have hb := hv.2.2 a _ e
  have hi := q_ix hj (Nat.lt_of_le_of_lt hb.1 (by decide))
  refine va_cald F.1 F.2.1 F.2.2.2.2.2.1 hv.1 a 1 hw rfl hi.1 hd ?_
  rw [hi.2]
  exact h H locs cells slots rls hv hl ⟨(nrC_int (show 20 ≤ 21 by decide) (show 21 ≠ 23 by decide) (show 21 < 25 by decide)).mp (hb.2 j.toNat), hn.2.2⟩ hc hz
theorem r_lald (F : FX p U m args meth c D dA mi) {a n : Nat} {j : Int} (ha : aS S a 23 n) (hj : 0 ≤ j ∧ j < n) (hd : decode (mB mi) pc = .ok (.laload, 1)) (h : WG p l e R U m args below meth c Q base sp D dA nL B n0 bud (pc + 1) ls (mJ (s a j.toNat) :: st) S s) : WG p l e R U m args below meth c Q base sp D dA nL B n0 bud pc ls (mI j :: mR a :: st) S s := by
  intro H locs cells slots rls hv hl hn hc hz
  obtain ⟨rs, e⟩ := aS_at ha (by decide)
  have hw := mWs_at (base := base) (dA := dA) (s := s) e
  rw [ent_long rfl] at hw
  have hb := hv.2.2 a _ e
  have hi := q_ix hj (Nat.lt_of_le_of_lt hb.1 (by decide))
  refine va_lald F.1 F.2.1 F.2.2.2.2.2.1 hv.1 a 3 hw rfl hi.1 hd ?_
  rw [hi.2]
  exact h H locs cells slots rls hv hl ⟨(nrC_long rfl).mp (hb.2 j.toNat), hn.2.2⟩ hc hz
theorem rw_of {base : Nat} {x : Int} {r : Nat} (h : x = r) : va_rf (mRw base x) = .ref (base + r) := by
  subst h
  unfold mRw
  rw [if_neg (by omega)]
  simp [va_rf]
theorem ty_ref {dA : Nat → ClassId} {kd : Nat} (h : 25 ≤ kd ∧ kd ≤ 28) : ∃ ty, (mTys dA)[kd - 20]? = some (dA kd, ty) ∧ ty.isReference = true := by
  obtain ⟨h1, h2⟩ := h
  rcases (show kd = 25 ∨ kd = 26 ∨ kd = 27 ∨ kd = 28 by omega) with rfl | rfl | rfl | rfl <;> exact ⟨_, rfl, rfl⟩
theorem r_aald (F : FX p U m args meth c D dA mi) {a n kd r : Nat} {j : Int} (ha : aS S a kd n) (hk : 25 ≤ kd ∧ kd ≤ 28) (hj : 0 ≤ j ∧ j < n) (hr : s a j.toNat = r) (hd : decode (mB mi) pc = .ok (.aaload, 1)) (h : WG p l e R U m args below meth c Q base sp D dA nL B n0 bud (pc + 1) ls (mR r :: st) S s) : WG p l e R U m args below meth c Q base sp D dA nL B n0 bud pc ls (mI j :: mR a :: st) S s := by
  intro H locs cells slots rls hv hl hn hc hz
  obtain ⟨rs, e⟩ := aS_at ha (by omega)
  have hw := mWs_at (base := base) (dA := dA) (s := s) e
  rw [ent_ref hk.1] at hw
  have hb := hv.2.2 a _ e
  have hi := q_ix hj (Nat.lt_of_le_of_lt hb.1 (by decide))
  obtain ⟨ty, ht, hty⟩ := ty_ref (dA := dA) hk
  have hlt : (Int32.ofInt j).toNatClampNeg < n := by rw [hi.2]; omega
  refine W.aald (v := va_rf (mRw base (s a (Int32.ofInt j).toNatClampNeg))) (ty := ty) F.1 F.2.1 (hv.1 a _ hw) ((F.2.2.2.2.2.1.2 _ _ ht).1 n (fun j => va_rf (mRw base (s a j)))) hty (fun q => by cases q) (by show ¬ (Int32.ofInt j < 0 ∨ (arrV _ _ _).slots.size ≤ _); rw [arrV_size]; exact hi.1) (by show (arrV _ _ _).slots[_]? = _; rw [arrV_read _ _ hlt]) rfl rfl hd ?_
  rw [hi.2, rw_of hr]
  exact h H locs cells slots rls hv hl ⟨trivial, hn.2.2⟩ hc hz
theorem r_iast (F : FX p U m args meth c D dA mi) {a n : Nat} {j x : Int} (ha : aS S a 22 n)  (hj : 0 ≤ j ∧ j < n) (hd : decode (mB mi) pc = .ok (.iastore, 1)) (h : WG p l e R U m args below meth c Q base sp D dA nL B n0 bud (pc + 1) ls st S (uS s a j.toNat x)) : WG p l e R U m args below meth c Q base sp D dA nL B n0 bud pc ls (mI x :: mI j :: mR a :: st) S s := by
  intro H locs cells slots rls hv hl hn hc hz
  obtain ⟨rs, e⟩ := aS_at ha (by decide)
  have hw := mWs_at (base := base) (dA := dA) (s := s) e
  rw [ent_int (show 20 ≤ 22 by decide) (show 22 ≠ 23 by decide) (show 22 < 25 by decide)] at hw
  have hb := hv.2.2 a _ e
  have hi := q_ix hj (Nat.lt_of_le_of_lt hb.1 (by decide))
  refine va_iast F.1 F.2.1 F.2.2.2.2.2.1 hv.1 mWs_D hv.2.1 a 2 hw rfl hi.1 hd (fun H1 locs1 hP1 hD1 hS1 => ?_)
  rw [hi.2] at hP1
  rw [mWs_set (S' := S) (s' := uS s a j.toNat x) rfl e (fun b hb => ⟨rfl, uS_o hb⟩) (by
    rw [ent_int (show 20 ≤ 22 by decide) (show 22 ≠ 23 by decide) (show 22 < 25 by decide)]
    refine congrArg (fun z => Sum.inl (dA 22, n, Sum.inl z)) (funext fun q => ?_)
    by_cases hq : q = j.toNat
    · subst hq; rw [uS_k]; simp [upd]
    · rw [uS_j hq]; simp [upd, hq])] at hP1
  exact h H1 locs1 cells slots rls ⟨hP1, hS1, nrH_up hv.2.2 e ((nrC_int (show 20 ≤ 22 by decide) (show 22 ≠ 23 by decide) (show 22 < 25 by decide)).mpr hn.1)⟩ hl hn.2.2.2 hc hz
theorem r_last (F : FX p U m args meth c D dA mi) {a n : Nat} {j x : Int} (ha : aS S a 23 n)  (hj : 0 ≤ j ∧ j < n) (hd : decode (mB mi) pc = .ok (.lastore, 1)) (h : WG p l e R U m args below meth c Q base sp D dA nL B n0 bud (pc + 1) ls st S (uS s a j.toNat x)) : WG p l e R U m args below meth c Q base sp D dA nL B n0 bud pc ls (mJ x :: mI j :: mR a :: st) S s := by
  intro H locs cells slots rls hv hl hn hc hz
  obtain ⟨rs, e⟩ := aS_at ha (by decide)
  have hw := mWs_at (base := base) (dA := dA) (s := s) e
  rw [ent_long rfl] at hw
  have hb := hv.2.2 a _ e
  have hi := q_ix hj (Nat.lt_of_le_of_lt hb.1 (by decide))
  refine va_last F.1 F.2.1 F.2.2.2.2.2.1 hv.1 mWs_D hv.2.1 a 3 hw rfl hi.1 hd (fun H1 locs1 hP1 hD1 hS1 => ?_)
  rw [hi.2] at hP1
  rw [mWs_set (S' := S) (s' := uS s a j.toNat x) rfl e (fun b hb => ⟨rfl, uS_o hb⟩) (by
    rw [ent_long rfl]
    refine congrArg (fun z => Sum.inl (dA 23, n, Sum.inr (Sum.inl z))) (funext fun q => ?_)
    by_cases hq : q = j.toNat
    · subst hq; rw [uS_k]; simp [vp_updL]
    · rw [uS_j hq]; simp [vp_updL, hq])] at hP1
  exact h H1 locs1 cells slots rls ⟨hP1, hS1, nrH_up hv.2.2 e ((nrC_long rfl).mpr hn.1)⟩ hl hn.2.2.2 hc hz
theorem r_bast (F : FX p U m args meth c D dA mi) {a n : Nat} {j x : Int} (ha : aS S a 20 n) (hx : -128 ≤ x ∧ x < 128) (hj : 0 ≤ j ∧ j < n) (hd : decode (mB mi) pc = .ok (.bastore, 1)) (h : WG p l e R U m args below meth c Q base sp D dA nL B n0 bud (pc + 1) ls st S (uS s a j.toNat x)) : WG p l e R U m args below meth c Q base sp D dA nL B n0 bud pc ls (mI x :: mI j :: mR a :: st) S s := by
  intro H locs cells slots rls hv hl hn hc hz
  obtain ⟨rs, e⟩ := aS_at ha (by decide)
  have hw := mWs_at (base := base) (dA := dA) (s := s) e
  rw [ent_int (show 20 ≤ 20 by decide) (show 20 ≠ 23 by decide) (show 20 < 25 by decide)] at hw
  have hb := hv.2.2 a _ e
  have hi := q_ix hj (Nat.lt_of_le_of_lt hb.1 (by decide))
  refine va_bast F.1 F.2.1 F.2.2.2.2.2.1 hv.1 mWs_D hv.2.1 a 0 hw rfl hi.1 hd (fun H1 locs1 hP1 hD1 hS1 => ?_)
  rw [hi.2] at hP1
  rw [vp_nar_byte, q_i2b hn.1, show w8 x = x from Int.bmod_eq_of_le (by omega) (by omega)] at hP1
  rw [mWs_set (S' := S) (s' := uS s a j.toNat x) rfl e (fun b hb => ⟨rfl, uS_o hb⟩) (by
    rw [ent_int (show 20 ≤ 20 by decide) (show 20 ≠ 23 by decide) (show 20 < 25 by decide)]
    refine congrArg (fun z => Sum.inl (dA 20, n, Sum.inl z)) (funext fun q => ?_)
    by_cases hq : q = j.toNat
    · subst hq; rw [uS_k]; simp [upd]
    · rw [uS_j hq]; simp [upd, hq])] at hP1
  exact h H1 locs1 cells slots rls ⟨hP1, hS1, nrH_up hv.2.2 e ((nrC_int (show 20 ≤ 20 by decide) (show 20 ≠ 23 by decide) (show 20 < 25 by decide)).mpr hn.1)⟩ hl hn.2.2.2 hc hz
theorem r_zast (F : FX p U m args meth c D dA mi) {a n : Nat} {j x : Int} (ha : aS S a 24 n) (hx : x = 0 ∨ x = 1) (hj : 0 ≤ j ∧ j < n) (hd : decode (mB mi) pc = .ok (.bastore, 1)) (h : WG p l e R U m args below meth c Q base sp D dA nL B n0 bud (pc + 1) ls st S (uS s a j.toNat x)) : WG p l e R U m args below meth c Q base sp D dA nL B n0 bud pc ls (mI x :: mI j :: mR a :: st) S s := by
  intro H locs cells slots rls hv hl hn hc hz
  obtain ⟨rs, e⟩ := aS_at ha (by decide)
  have hw := mWs_at (base := base) (dA := dA) (s := s) e
  rw [ent_int (show 20 ≤ 24 by decide) (show 24 ≠ 23 by decide) (show 24 < 25 by decide)] at hw
  have hb := hv.2.2 a _ e
  have hi := q_ix hj (Nat.lt_of_le_of_lt hb.1 (by decide))
  refine va_zast F.1 F.2.1 F.2.2.2.2.2.1 hv.1 mWs_D hv.2.1 a 4 hw rfl hi.1 hd (fun H1 locs1 hP1 hD1 hS1 => ?_)
  rw [hi.2] at hP1
  rw [show vp_nar .boolean (Int32.ofInt x) = Int32.ofInt x by rcases hx with rfl | rfl <;> rfl] at hP1
  rw [mWs_set (S' := S) (s' := uS s a j.toNat x) rfl e (fun b hb => ⟨rfl, uS_o hb⟩) (by
    rw [ent_int (show 20 ≤ 24 by decide) (show 24 ≠ 23 by decide) (show 24 < 25 by decide)]
    refine congrArg (fun z => Sum.inl (dA 24, n, Sum.inl z)) (funext fun q => ?_)
    by_cases hq : q = j.toNat
    · subst hq; rw [uS_k]; simp [upd]
    · rw [uS_j hq]; simp [upd, hq])] at hP1
  exact h H1 locs1 cells slots rls ⟨hP1, hS1, nrH_up hv.2.2 e ((nrC_int (show 20 ≤ 24 by decide) (show 24 ≠ 23 by decide) (show 24 < 25 by decide)).mpr hn.1)⟩ hl hn.2.2.2 hc hz
theorem r_cast (F : FX p U m args meth c D dA mi) {a n : Nat} {j x : Int} (ha : aS S a 21 n) (hx : 0 ≤ x ∧ x < 65536) (hj : 0 ≤ j ∧ j < n) (hd : decode (mB mi) pc = .ok (.castore, 1)) (h : WG p l e R U m args below meth c Q base sp D dA nL B n0 bud (pc + 1) ls st S (uS s a j.toNat x)) : WG p l e R U m args below meth c Q base sp D dA nL B n0 bud pc ls (mI x :: mI j :: mR a :: st) S s := by
  intro H locs cells slots rls hv hl hn hc hz
  obtain ⟨rs, e⟩ := aS_at ha (by decide)
  have hw := mWs_at (base := base) (dA := dA) (s := s) e
  rw [ent_int (show 20 ≤ 21 by decide) (show 21 ≠ 23 by decide) (show 21 < 25 by decide)] at hw
  have hb := hv.2.2 a _ e
  have hi := q_ix hj (Nat.lt_of_le_of_lt hb.1 (by decide))
  refine va_cast F.1 F.2.1 F.2.2.2.2.2.1 hv.1 mWs_D hv.2.1 a 1 hw rfl hi.1 hd (fun H1 locs1 hP1 hD1 hS1 => ?_)
  rw [hi.2] at hP1
  rw [nar_c hx] at hP1
  rw [mWs_set (S' := S) (s' := uS s a j.toNat x) rfl e (fun b hb => ⟨rfl, uS_o hb⟩) (by
    rw [ent_int (show 20 ≤ 21 by decide) (show 21 ≠ 23 by decide) (show 21 < 25 by decide)]
    refine congrArg (fun z => Sum.inl (dA 21, n, Sum.inl z)) (funext fun q => ?_)
    by_cases hq : q = j.toNat
    · subst hq; rw [uS_k]; simp [upd]
    · rw [uS_j hq]; simp [upd, hq])] at hP1
  exact h H1 locs1 cells slots rls ⟨hP1, hS1, nrH_up hv.2.2 e ((nrC_int (show 20 ≤ 21 by decide) (show 21 ≠ 23 by decide) (show 21 < 25 by decide)).mpr hn.1)⟩ hl hn.2.2.2 hc hz
end RH
