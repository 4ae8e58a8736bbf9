/-- what a class's index means -/
theorem cl_of {cn k c e p ci : Nat} {b : Int} (h : ckL cn (k, .ofNat ci, b, c, e, p, 2) = true) (hn : ci ≠ 28) : ∃ C T N, mCl[ci]? = some (C, T, N) ∧ Cond.classLink (mNames.getD cn "") k C ∈ mT ∧ c = N := by
  simp only [ckL] at h
  split at h
  · rename_i r hr
    simp only [Bool.and_eq_true, beq_iff_eq] at h
    exact ⟨r.1, r.2.1, r.2.2, hr, wAt_in h.1 rfl, h.2⟩
  · cases h
theorem recv_el {S : List mSh} {as : List mV} {e : Nat} (h : match as with | Sum.inr (Sum.inr (Sum.inl (some k))) :: _ => kS S k = e | _ => False) : ∃ k tl, as = mR k :: tl ∧ kS S k = e := by
  split at h
  · exact ⟨_, _, rfl, h⟩
  · exact False.elim h
theorem clIs_of {ci : Nat} {C : String} (h : clIs ci C = true) : ∃ T N, mCl[ci]? = some (C, T, N) ∧ ci < 20 := by
  unfold clIs at h
  cases hc : mCl[ci]? with
  | none => rw [hc] at h; cases h
  | some r =>
    rw [hc] at h
    have hl : ci < 13 := (List.getElem?_eq_some_iff.mp hc).1
    have h : r.1 = C := eq_of_beq h
    subst h
    exact ⟨r.2.1, r.2.2, rfl, by omega⟩
section RX
variable {p : Program} {l : Launch} {e : Env} {R : Room} {U : State} {m : MethodId} {args : Array Value} {below : List Frame} {meth : Method} {c : Code} {Q : State → Prop}
variable {base : Nat} {sp : Nat → Nat} {D : va_G} {dA : Nat → ClassId} {mi nL B n0 bud pc : Nat} {ls : mLo} {st : List mV} {S : List mSh} {s : mSt}
theorem r_mmax (F : FX p U m args meth c D dA mi) {idx : Nat} {x y : Int} (hlk : Cond.methodLink (mY mi).cls idx Lib.Math.max.name ∈ mT) (hst : Cond.static Lib.Math.max.name ∈ mT) (hin : Cond.initialized "java/lang/Math" ∈ mT) (hco : Cond.code Lib.Math.max.name Lib.Math.max.code 2 (some .int) ∈ mT) (hnl : nL = mML mi) (hfr : 1 ≤ R.frames) (hlo : 60 ≤ R.locals) (hB : B ≤ R.cells ∧ 2400 * B ≤ R.slots) (hw : sW st ≤ 8) (hd : decode (mB mi) pc = .ok (.invokestatic idx, 3)) (h : WG p l e R U m args below meth c Q base sp D dA nL B n0 bud (pc + 3) ls (mI (iMax x y) :: st) S s) : WG p l e R U m args below meth c Q base sp D dA nL B n0 bud pc ls (mI y :: mI x :: st) S s := by
  intro H locs cells slots rls hv hl hn hc hz
  refine va_mmax F.1 F.2.1 (by rw [F.2.2.1, hl.2.1, hnl]) F.2.2.2.1 (F.2.2.2.2.1 _ hlk) (F.2.2.2.2.1 _ hst) (F.2.2.2.2.1 _ hin) (F.2.2.2.2.1 _ hco) hfr (by have := sW_eq (base := base) (sp := sp) st; rw [this]; omega) (by omega) (by omega) hd ?_
  have hv1 : (if Int32.ofInt x < Int32.ofInt y then Int32.ofInt y else Int32.ofInt x : Int32) = Int32.ofInt (iMax x y) := by
    unfold iMax
    by_cases hq : x < y
    · rw [if_pos hq, if_pos ((q_lt hn.2.1 hn.1).mpr hq)]
    · rw [if_neg hq, if_neg (fun z => hq ((q_lt hn.2.1 hn.1).mp z))]
  rw [hv1]
  exact h H locs cells slots rls hv hl ⟨(show nr32 _ by unfold iMax; split; exact hn.1; exact hn.2.1), hn.2.2⟩ hc hz
theorem r_mmin (F : FX p U m args meth c D dA mi) {idx : Nat} {x y : Int} (hlk : Cond.methodLink (mY mi).cls idx Lib.Math.min.name ∈ mT) (hst : Cond.static Lib.Math.min.name ∈ mT) (hin : Cond.initialized "java/lang/Math" ∈ mT) (hco : Cond.code Lib.Math.min.name Lib.Math.min.code 2 (some .int) ∈ mT) (hnl : nL = mML mi) (hfr : 1 ≤ R.frames) (hlo : 60 ≤ R.locals) (hB : B ≤ R.cells ∧ 2400 * B ≤ R.slots) (hw : sW st ≤ 8) (hd : decode (mB mi) pc = .ok (.invokestatic idx, 3)) (h : WG p l e R U m args below meth c Q base sp D dA nL B n0 bud (pc + 3) ls (mI (iMin x y) :: st) S s) : WG p l e R U m args below meth c Q base sp D dA nL B n0 bud pc ls (mI y :: mI x :: st) S s := by
  intro H locs cells slots rls hv hl hn hc hz
  refine va_mmin F.1 F.2.1 (by rw [F.2.2.1, hl.2.1, hnl]) F.2.2.2.1 (F.2.2.2.2.1 _ hlk) (F.2.2.2.2.1 _ hst) (F.2.2.2.2.1 _ hin) (F.2.2.2.2.1 _ hco) hfr (by have := sW_eq (base := base) (sp := sp) st; rw [this]; omega) (by omega) (by omega) hd ?_
  have hv1 : (if Int32.ofInt y < Int32.ofInt x then Int32.ofInt y else Int32.ofInt x : Int32) = Int32.ofInt (iMin x y) := by
    unfold iMin
    by_cases hq : y < x
    · rw [if_pos hq, if_pos ((q_lt hn.1 hn.2.1).mpr hq)]
    · rw [if_neg hq, if_neg (fun z => hq ((q_lt hn.1 hn.2.1).mp z))]
  rw [hv1]
  exact h H locs cells slots rls hv hl ⟨(show nr32 _ by unfold iMin; split; exact hn.1; exact hn.2.1), hn.2.2⟩ hc hz
end RX
set_option maxHeartbeats 4000000 in
theorem snd_all {X : (Nat → Int) × Nat} {l : Launch} {base : Nat} {sp : Nat → Nat} {D : va_G} {dA : Nat → ClassId} {SK : State → Prop} (hSK : SKm base SK) (hST : STR l base sp D dA SK) : ∀ n, SND X l base sp D dA SK n := by
  intro n
  induction n with
  | zero => intro d bud mi pc ls st S s K p e R U m args below meth c Q B n0 hm h; exact False.elim h
  | succ n ih =>
    intro d bud mi pc ls st S s K p e R U m args below meth c Q B n0 hm h F hE hU hR hB hX hret
    unfold wp at h
    cases hf : mFetch mi pc with
    | none => rw [hf] at h; exact False.elim h
    | some i =>
      rw [hf] at h
      obtain ⟨op, len, a, b, cc, ee⟩ := i
      obtain ⟨hd, hok, hlk, hjp⟩ := fetch_of hm hf
      have hbU : base ≤ U.heap.size := by omega
      have hown := cn_all mi hm
      have go : ∀ bud pc ls st S s, wp X n d bud mi pc ls st S s K → WG p l e R U m args below meth c Q base sp D dA (mML mi) B n0 bud pc ls st S s := fun bud pc ls st S s z => ih d bud mi pc ls st S s K p e R U m args below meth c Q B n0 hm z F hE hU hR hB hX hret
      clear hf
      dsimp only at h
      cases op
      case iconst v =>
        have h1 : decide (-1 ≤ v ∧ v ≤ 5) = true ∧ (len == 1) = true := by simpa [mOK, Bool.and_eq_true] using hok
        have h2 := of_decide_eq_true h1.1
        have e1 : len = 1 := eq_of_beq h1.2
        subst e1
        exact r_iconst F (by unfold nr32; omega) hd (go _ _ _ _ _ _ h)
      case bipush v =>
        have h1 : decide (-128 ≤ v ∧ v < 128) = true ∧ (len == 2) = true := by simpa [mOK, Bool.and_eq_true] using hok
        have h2 := of_decide_eq_true h1.1
        have e1 : len = 2 := eq_of_beq h1.2
        subst e1
        exact r_bipush F h2 hd (go _ _ _ _ _ _ h)
      case sipush v =>
        have h1 : decide (-32768 ≤ v ∧ v < 32768) = true ∧ (len == 3) = true := by simpa [mOK, Bool.and_eq_true] using hok
        have h2 := of_decide_eq_true h1.1
        have e1 : len = 3 := eq_of_beq h1.2
        subst e1
        exact r_sipush F h2 hd (go _ _ _ _ _ _ h)
      case lconst v =>
        have e1 : len = 1 := eq_of_beq hok
        subst e1
        exact r_lconst F hd (go _ _ _ _ _ _ h)
      case aconst_null =>
        have e1 : len = 1 := eq_of_beq hok
        subst e1
        exact r_null F hd (go _ _ _ _ _ _ h)
      case iload n =>
        have e1 : len = 2 := eq_of_beq hok
        subst e1
        obtain ⟨x, hx, h⟩ := gI_el h
        exact r_iload F hx hd (go _ _ _ _ _ _ h)
      case iload_n n =>
        have e1 : len = 1 := eq_of_beq hok
        subst e1
        obtain ⟨x, hx, h⟩ := gI_el h
        exact r_iload_n F hx hd (go _ _ _ _ _ _ h)
      case lload n =>
        have e1 : len = 2 := eq_of_beq hok
        subst e1
        obtain ⟨x, hx, h⟩ := gJ_el h
        exact r_lload F hx hd (go _ _ _ _ _ _ h)
      case lload_n n =>
        have e1 : len = 1 := eq_of_beq hok
        subst e1
        obtain ⟨x, hx, h⟩ := gJ_el h
        exact r_lload_n F hx hd (go _ _ _ _ _ _ h)
      case aload n =>
        have e1 : len = 2 := eq_of_beq hok
        subst e1
        dsimp only [ex1] at h
        obtain ⟨x, hx, h⟩ := gA_el h
        exact r_aload F hx hd (go _ _ _ _ _ _ h)
      case aload_n n =>
        have e1 : len = 1 := eq_of_beq hok
        subst e1
        dsimp only [ex1] at h
        obtain ⟨x, hx, h⟩ := gA_el h
        exact r_aload_n F hx hd (go _ _ _ _ _ _ h)
      case istore k =>
        have e1 : len = 2 := eq_of_beq hok
        subst e1
        obtain ⟨x, st, rfl, h⟩ := eI_el h
        exact r_istore F hd (sL_mono _ _ _ _ (fun _ z => go _ _ _ _ _ _ z) h)
      case istore_n k =>
        have e1 : len = 1 := eq_of_beq hok
        subst e1
        obtain ⟨x, st, rfl, h⟩ := eI_el h
        exact r_istore_n F hd (sL_mono _ _ _ _ (fun _ z => go _ _ _ _ _ _ z) h)
      case lstore k =>
        have e1 : len = 2 := eq_of_beq hok
        subst e1
        obtain ⟨x, st, rfl, h⟩ := eJ_el h
        exact r_lstore F hd (sJ_mono _ _ _ _ (fun _ z => go _ _ _ _ _ _ z) h)
      case lstore_n k =>
        have e1 : len = 1 := eq_of_beq hok
        subst e1
        obtain ⟨x, st, rfl, h⟩ := eJ_el h
        exact r_lstore_n F hd (sJ_mono _ _ _ _ (fun _ z => go _ _ _ _ _ _ z) h)
      case astore k =>
        have e1 : len = 2 := eq_of_beq hok
        subst e1
        obtain ⟨x, st, rfl, h⟩ := eO_el h
        exact r_astore F hd (sL_mono _ _ _ _ (fun _ z => go _ _ _ _ _ _ z) h)
      case astore_n k =>
        have e1 : len = 1 := eq_of_beq hok
        subst e1
        obtain ⟨x, st, rfl, h⟩ := eO_el h
        exact r_astore_n F hd (sL_mono _ _ _ _ (fun _ z => go _ _ _ _ _ _ z) h)
      case iinc k v =>
        have e1 : len = 3 := eq_of_beq hok
        subst e1
        obtain ⟨x, hx, h⟩ := gI_el h
        exact r_iinc F hx hd (sL_mono _ _ _ _ (fun _ z => go _ _ _ _ _ _ z) h)
      case pop =>
        have e1 : len = 1 := eq_of_beq hok
        subst e1
        dsimp only [ex1] at h
        obtain ⟨v, st, rfl, hv, h⟩ := w_cat (base := base) (sp := sp) (t := []) h
        exact r_pop F hv hd (go _ _ _ _ _ _ h)
      case dup =>
        have e1 : len = 1 := eq_of_beq hok
        subst e1
        dsimp only [ex1] at h
        obtain ⟨v, st, rfl, hv, h⟩ := w_cat (base := base) (sp := sp) (t := []) h
        exact r_dup F hv hd (go _ _ _ _ _ _ h)
      case dup2 =>
        have e1 : len = 1 := eq_of_beq hok
        subst e1
        dsimp only [ex1] at h
        obtain ⟨v, st, rfl, hv, h⟩ := w_cat (base := base) (sp := sp) (t := []) h
        obtain ⟨u, st, rfl, hu, h⟩ := w_cat (base := base) (sp := sp) (t := []) h
        exact r_dup2 F hv hu hd (go _ _ _ _ _ _ h)
      case iadd =>
        have e1 : len = 1 := eq_of_beq hok
        subst e1
        obtain ⟨y, st, rfl, h⟩ := eI_el h
        obtain ⟨x, st, rfl, h⟩ := eI_el h
        exact r_iadd F hd (go _ _ _ _ _ _ h)
      case isub =>
        have e1 : len = 1 := eq_of_beq hok
        subst e1
        obtain ⟨y, st, rfl, h⟩ := eI_el h
        obtain ⟨x, st, rfl, h⟩ := eI_el h
        exact r_isub F hd (go _ _ _ _ _ _ h)
      case imul =>
        have e1 : len = 1 := eq_of_beq hok
        subst e1
        obtain ⟨y, st, rfl, h⟩ := eI_el h
        obtain ⟨x, st, rfl, h⟩ := eI_el h
        exact r_imul F hd (go _ _ _ _ _ _ h)
      case iand =>
        have e1 : len = 1 := eq_of_beq hok
        subst e1
        obtain ⟨y, st, rfl, h⟩ := eI_el h
        obtain ⟨x, st, rfl, h⟩ := eI_el h
        exact r_iand F hd (go _ _ _ _ _ _ h)
      case ior =>
        have e1 : len = 1 := eq_of_beq hok
        subst e1
        obtain ⟨y, st, rfl, h⟩ := eI_el h
        obtain ⟨x, st, rfl, h⟩ := eI_el h
        exact r_ior F hd (go _ _ _ _ _ _ h)
      case ixor =>
        have e1 : len = 1 := eq_of_beq hok
        subst e1
        obtain ⟨y, st, rfl, h⟩ := eI_el h
        obtain ⟨x, st, rfl, h⟩ := eI_el h
        exact r_ixor F hd (go _ _ _ _ _ _ h)
      case ishl =>
        have e1 : len = 1 := eq_of_beq hok
        subst e1
        obtain ⟨y, st, rfl, h⟩ := eI_el h
        obtain ⟨x, st, rfl, h⟩ := eI_el h
        exact r_ishl F hd (go _ _ _ _ _ _ h)
      case ishr =>
        have e1 : len = 1 := eq_of_beq hok
        subst e1
        obtain ⟨y, st, rfl, h⟩ := eI_el h
        obtain ⟨x, st, rfl, h⟩ := eI_el h
        exact r_ishr F hd (go _ _ _ _ _ _ h)
      case iushr =>
        have e1 : len = 1 := eq_of_beq hok
        subst e1
        obtain ⟨y, st, rfl, h⟩ := eI_el h
        obtain ⟨x, st, rfl, h⟩ := eI_el h
        exact r_iushr F hd (go _ _ _ _ _ _ h)
      case ladd =>
        have e1 : len = 1 := eq_of_beq hok
        subst e1
        obtain ⟨y, st, rfl, h⟩ := eJ_el h
        obtain ⟨x, st, rfl, h⟩ := eJ_el h
        exact r_ladd F hd (go _ _ _ _ _ _ h)
      case lsub =>
        have e1 : len = 1 := eq_of_beq hok
        subst e1
        obtain ⟨y, st, rfl, h⟩ := eJ_el h
        obtain ⟨x, st, rfl, h⟩ := eJ_el h
        exact r_lsub F hd (go _ _ _ _ _ _ h)
      case lmul =>
        have e1 : len = 1 := eq_of_beq hok
        subst e1
        obtain ⟨y, st, rfl, h⟩ := eJ_el h
        obtain ⟨x, st, rfl, h⟩ := eJ_el h
        exact r_lmul F hd (go _ _ _ _ _ _ h)
      case land =>
        have e1 : len = 1 := eq_of_beq hok
        subst e1
        obtain ⟨y, st, rfl, h⟩ := eJ_el h
        obtain ⟨x, st, rfl, h⟩ := eJ_el h
        exact r_land F hd (go _ _ _ _ _ _ h)
      case lor =>
        have e1 : len = 1 := eq_of_beq hok
        subst e1
        obtain ⟨y, st, rfl, h⟩ := eJ_el h
        obtain ⟨x, st, rfl, h⟩ := eJ_el h
        exact r_lor F hd (go _ _ _ _ _ _ h)
      case lcmp =>
        have e1 : len = 1 := eq_of_beq hok
        subst e1
        obtain ⟨y, st, rfl, h⟩ := eJ_el h
        obtain ⟨x, st, rfl, h⟩ := eJ_el h
        exact r_lcmp F hd (go _ _ _ _ _ _ h)
      case idiv =>
        have e1 : len = 1 := eq_of_beq hok
        subst e1
        obtain ⟨y, st, rfl, h⟩ := eI_el h
        obtain ⟨x, st, rfl, h⟩ := eI_el h
        exact r_idiv F h.1 hd (go _ _ _ _ _ _ h.2)
      case irem =>
        have e1 : len = 1 := eq_of_beq hok
        subst e1
        obtain ⟨y, st, rfl, h⟩ := eI_el h
        obtain ⟨x, st, rfl, h⟩ := eI_el h
        exact r_irem F h.1 hd (go _ _ _ _ _ _ h.2)
      case ldiv =>
        have e1 : len = 1 := eq_of_beq hok
        subst e1
        obtain ⟨y, st, rfl, h⟩ := eJ_el h
        obtain ⟨x, st, rfl, h⟩ := eJ_el h
        exact r_ldiv F h.1 hd (go _ _ _ _ _ _ h.2)
      case lrem =>
        have e1 : len = 1 := eq_of_beq hok
        subst e1
        obtain ⟨y, st, rfl, h⟩ := eJ_el h
        obtain ⟨x, st, rfl, h⟩ := eJ_el h
        exact r_lrem F h.1 hd (go _ _ _ _ _ _ h.2)
      case lshl =>
        have e1 : len = 1 := eq_of_beq hok
        subst e1
        obtain ⟨y, st, rfl, h⟩ := eI_el h
        obtain ⟨x, st, rfl, h⟩ := eJ_el h
        exact r_lshl F hd (go _ _ _ _ _ _ h)
      case i2l =>
        have e1 : len = 1 := eq_of_beq hok
        subst e1
        obtain ⟨x, st, rfl, h⟩ := eI_el h
        exact r_i2l F hd (go _ _ _ _ _ _ h)
      case i2b =>
        have e1 : len = 1 := eq_of_beq hok
        subst e1
        obtain ⟨x, st, rfl, h⟩ := eI_el h
        exact r_i2b F hd (go _ _ _ _ _ _ h)
      case i2c =>
        have e1 : len = 1 := eq_of_beq hok
        subst e1
        obtain ⟨x, st, rfl, h⟩ := eI_el h
        exact r_i2c F hd (go _ _ _ _ _ _ h)
      case l2i =>
        have e1 : len = 1 := eq_of_beq hok
        subst e1
        obtain ⟨x, st, rfl, h⟩ := eJ_el h
        exact r_l2i F hd (go _ _ _ _ _ _ h)
      case goto off =>
        have e1 : len = 3 := eq_of_beq hok
        subst e1
        obtain ⟨ha, ha0⟩ := hjp rfl _ rfl
        have ht : (pc : Int) + off = (a.toNat : Int) := by omega
        exact r_goto F ht hd (go _ _ _ _ _ _ h)
      case ifCond cd off =>
        have e1 : len = 3 := eq_of_beq hok
        subst e1
        obtain ⟨ha, ha0⟩ := hjp rfl _ rfl
        have ht : (pc : Int) + off = (a.toNat : Int) := by omega
        cases cd with
        | eq =>
          obtain ⟨x, st, rfl, h⟩ := eI_el h
          exact r_if_eq F ht hd (fun z => go _ _ _ _ _ _ (h.1 z)) (fun z => go _ _ _ _ _ _ (h.2 z))
        | ne =>
          obtain ⟨x, st, rfl, h⟩ := eI_el h
          exact r_if_ne F ht hd (fun z => go _ _ _ _ _ _ (h.1 z)) (fun z => go _ _ _ _ _ _ (h.2 z))
        | lt =>
          obtain ⟨x, st, rfl, h⟩ := eI_el h
          exact r_if_lt F ht hd (fun z => go _ _ _ _ _ _ (h.1 z)) (fun z => go _ _ _ _ _ _ (h.2 z))
        | ge =>
          obtain ⟨x, st, rfl, h⟩ := eI_el h
          exact r_if_ge F ht hd (fun z => go _ _ _ _ _ _ (h.1 z)) (fun z => go _ _ _ _ _ _ (h.2 z))
        | gt =>
          obtain ⟨x, st, rfl, h⟩ := eI_el h
          exact r_if_gt F ht hd (fun z => go _ _ _ _ _ _ (h.1 z)) (fun z => go _ _ _ _ _ _ (h.2 z))
        | le =>
          obtain ⟨x, st, rfl, h⟩ := eI_el h
          exact r_if_le F ht hd (fun z => go _ _ _ _ _ _ (h.1 z)) (fun z => go _ _ _ _ _ _ (h.2 z))
      case if_icmp cd off =>
        have e1 : len = 3 := eq_of_beq hok
        subst e1
        obtain ⟨ha, ha0⟩ := hjp rfl _ rfl
        have ht : (pc : Int) + off = (a.toNat : Int) := by omega
        cases cd with
        | eq =>
          obtain ⟨y, st, rfl, h⟩ := eI_el h
          obtain ⟨x, st, rfl, h⟩ := eI_el h
          exact r_icmp_eq F ht hd (fun z => go _ _ _ _ _ _ (h.1 z)) (fun z => go _ _ _ _ _ _ (h.2 z))
        | ne =>
          obtain ⟨y, st, rfl, h⟩ := eI_el h
          obtain ⟨x, st, rfl, h⟩ := eI_el h
          exact r_icmp_ne F ht hd (fun z => go _ _ _ _ _ _ (h.1 z)) (fun z => go _ _ _ _ _ _ (h.2 z))
        | lt =>
          obtain ⟨y, st, rfl, h⟩ := eI_el h
          obtain ⟨x, st, rfl, h⟩ := eI_el h
          exact r_icmp_lt F ht hd (fun z => go _ _ _ _ _ _ (h.1 z)) (fun z => go _ _ _ _ _ _ (h.2 z))
        | ge =>
          obtain ⟨y, st, rfl, h⟩ := eI_el h
          obtain ⟨x, st, rfl, h⟩ := eI_el h
          exact r_icmp_ge F ht hd (fun z => go _ _ _ _ _ _ (h.1 z)) (fun z => go _ _ _ _ _ _ (h.2 z))
        | gt =>
          obtain ⟨y, st, rfl, h⟩ := eI_el h
          obtain ⟨x, st, rfl, h⟩ := eI_el h
          exact r_icmp_gt F ht hd (fun z => go _ _ _ _ _ _ (h.1 z)) (fun z => go _ _ _ _ _ _ (h.2 z))
        | le =>
          obtain ⟨y, st, rfl, h⟩ := eI_el h
          obtain ⟨x, st, rfl, h⟩ := eI_el h
          exact r_icmp_le F ht hd (fun z => go _ _ _ _ _ _ (h.1 z)) (fun z => go _ _ _ _ _ _ (h.2 z))
      case ifnonnull off =>
        have e1 : len = 3 := eq_of_beq hok
        subst e1
        obtain ⟨ha, ha0⟩ := hjp rfl _ rfl
        have ht : (pc : Int) + off = (a.toNat : Int) := by omega
        obtain ⟨r, st, rfl, h⟩ := eO_el h
        exact r_ifnonnull F ht hd (fun z => go _ _ _ _ _ _ (h.1 z)) (fun z => go _ _ _ _ _ _ (h.2 z))
      case tableswitch dflt lo hi offs =>
        have h1 : decide (0 ≤ dflt) = true ∧ (offs.toList.all (fun o => decide (0 ≤ o))) = true ∧ offs.size = (hi - lo + 1).toNat := by simpa [mOK, Bool.and_eq_true, and_assoc] using hok
        obtain ⟨x, st, rfl, h⟩ := eI_el h
        refine r_table F ⟨of_decide_eq_true h1.1, fun o ho => of_decide_eq_true (List.all_eq_true.mp h1.2.1 o ho)⟩ hd (fun q1 q2 => ?_) (go _ _ _ _ _ _ h)
        have q3 := Array.getElem?_eq_none_iff.mp q1
        omega
      case lookupswitch dflt ps =>
        have h1 : decide (0 ≤ dflt) = true ∧ ((ps.toList.zip (ps.toList.drop 1)).all (fun (a, next) => a.1 < next.1)) = true ∧ (ps.toList.all (fun q => decide (0 ≤ q.2))) = true := by
          have hq : ((decide (0 ≤ dflt) && (ps.toList.zip (ps.toList.drop 1)).all (fun (a, next) => a.1 < next.1)) && ps.toList.all (fun q => decide (0 ≤ q.2))) = true := hok
          rw [Bool.and_eq_true, Bool.and_eq_true] at hq
          exact ⟨hq.1.1, hq.1.2, hq.2⟩
        obtain ⟨x, st, rfl, h⟩ := eI_el h
        exact r_lookup F h1.2.1 ⟨of_decide_eq_true h1.1, fun q hq => of_decide_eq_true (List.all_eq_true.mp h1.2.2 q hq)⟩ hd (go _ _ _ _ _ _ h)
      case getfield k =>
        have e1 : len = 3 := eq_of_beq hok
        subst e1
        obtain ⟨lp, lt, hck, htg⟩ := hlk _ rfl
        have e2 : lt = 0 := eq_of_beq htg
        subst e2
        obtain ⟨hF, -⟩ := FL_of hm hck
        obtain ⟨r, st, rfl, h⟩ := eR_el h
        obtain ⟨hk, h⟩ := h
        dsimp only at h
        split at h
        · exact r_getI F hF (by decide) hk hd (go _ _ _ _ _ _ h)
        · exact r_getJ F hF rfl hk hd (go _ _ _ _ _ _ h)
        · obtain ⟨q, hq, h⟩ := h
          exact r_getR F hF hk hq hd (go _ _ _ _ _ _ h)
        · rename_i n0 n1 n2
          exact r_getI F hF ⟨n1, n2⟩ hk hd (go _ _ _ _ _ _ h)
      case putfield k =>
        have e1 : len = 3 := eq_of_beq hok
        subst e1
        obtain ⟨lp, lt, hck, htg⟩ := hlk _ rfl
        have e2 : lt = 0 := eq_of_beq htg
        subst e2
        obtain ⟨hF, hF2⟩ := FL_of hm hck
        dsimp only [ex1] at h
        split at h
        · obtain ⟨x, st, rfl, h⟩ := eI_el h
          obtain ⟨r, st, rfl, h⟩ := eR_el h
          exact r_putI F hF h.1 hd (go _ _ _ _ _ _ h.2)
        · obtain ⟨x, st, rfl, h⟩ := eJ_el h
          obtain ⟨r, st, rfl, h⟩ := eR_el h
          exact r_putJ F hF h.1 hd (go _ _ _ _ _ _ h.2)
        · have h0 := eR_el h
          clear h
          obtain ⟨x, st, rfl, h⟩ := h0
          have h0 := eR_el h
          clear h
          obtain ⟨r, st, rfl, h⟩ := h0
          obtain ⟨⟨h1, h2, h3, h4⟩, h⟩ := h
          have hm0 : 0 < mi := by
            rcases Nat.eq_zero_or_pos mi with q | q
            · rw [q] at h1; exact absurd h1 (by decide +kernel)
            · exact q
          exact r_putR F hF ((MK_all hm0 hm).2.2.2.2.2.2.2.2.2.2.2 h1) (hF2 h2) (fun n rs e => by unfold lS at h4; rw [e] at h4; exact h4) h3 hd (go _ _ _ _ _ _ h)
        · rename_i n0 n1 n2
          have hk3 : cc = 3 := by
            obtain ⟨C, T, N, Y, q1, q2, q3, q4, q5, q6, q7, q8, q9, -⟩ := hF
            obtain ⟨Y', -, -, z⟩ := clx_all q1
            rcases (z _ q2).2 with y | y | y | y
            · exact absurd (q9.symm.trans y.1) n0
            · exact absurd (q9.symm.trans y.1) n1
            · exact q9.symm.trans y.1
            · exact absurd (q9.symm.trans y.1) n2
          subst hk3
          obtain ⟨x, st, rfl, h⟩ := eI_el h
          obtain ⟨r, st, rfl, h⟩ := eR_el h
          exact r_putZ F hF h.1 h.2.1 hd (go _ _ _ _ _ _ h.2.2)
      case iaload =>
        have e1 : len = 1 := eq_of_beq hok
        subst e1
        by_cases hq : mi = 0
        · rw [show (mi == 0) = true by rw [hq]; rfl] at h
          obtain ⟨j, st, rfl, h⟩ := eI_el h
          obtain ⟨q, st, rfl, h⟩ := eX_el h
          obtain ⟨rfl, h1, h2, h⟩ := h
          exact r_sld F (hX hq) ⟨h1, h2⟩ hd (go _ _ _ _ _ _ h)
        · rw [show (mi == 0) = false by simpa using hq] at h
          obtain ⟨j, st, rfl, h⟩ := eI_el h
          obtain ⟨q, st, rfl, h⟩ := eR_el h
          obtain ⟨n1, h1, h2, h⟩ := h
          exact r_iald F h1 h2 hd (go _ _ _ _ _ _ h)
      case arraylength =>
        have e1 : len = 1 := eq_of_beq hok
        subst e1
        by_cases hq : mi = 0
        · rw [show (mi == 0) = true by rw [hq]; rfl] at h
          obtain ⟨q, st, rfl, h⟩ := eX_el h
          obtain ⟨q0, h'⟩ := h
          have q0 : q = 0 := q0
          subst q0
          exact r_slen F (hX hq) hd (go _ _ _ _ _ _ h')
        · rw [show (mi == 0) = false by simpa using hq] at h
          obtain ⟨q, st, rfl, h⟩ := eR_el h
          obtain ⟨kd, n1, h1, h2, h⟩ := h
          exact r_alen F h1 h2 hd (go _ _ _ _ _ _ h)
      case baload =>
        have e1 : len = 1 := eq_of_beq hok
        subst e1
        obtain ⟨j, st, rfl, h⟩ := eI_el h
        obtain ⟨q, st, rfl, h⟩ := eR_el h
        obtain ⟨kd, n1, h1, h2, h3, h⟩ := h
        rcases h2 with rfl | rfl
        · exact r_bald F h1 h3 hd (go _ _ _ _ _ _ h)
        · exact r_zald F h1 h3 hd (go _ _ _ _ _ _ h)
      case caload =>
        have e1 : len = 1 := eq_of_beq hok
        subst e1
        obtain ⟨j, st, rfl, h⟩ := eI_el h
        obtain ⟨q, st, rfl, h⟩ := eR_el h
        obtain ⟨n1, h1, h2, h⟩ := h
        exact r_cald F h1 h2 hd (go _ _ _ _ _ _ h)
      case laload =>
        have e1 : len = 1 := eq_of_beq hok
        subst e1
        obtain ⟨j, st, rfl, h⟩ := eI_el h
        obtain ⟨q, st, rfl, h⟩ := eR_el h
        obtain ⟨n1, h1, h2, h⟩ := h
        exact r_lald F h1 h2 hd (go _ _ _ _ _ _ h)
      case aaload =>
        have e1 : len = 1 := eq_of_beq hok
        subst e1
        obtain ⟨j, st, rfl, h⟩ := eI_el h
        obtain ⟨q, st, rfl, h⟩ := eR_el h
        obtain ⟨kd, n1, h1, h2, h3, r, h4, h⟩ := h
        exact r_aald F h1 h2 h3 h4 hd (go _ _ _ _ _ _ h)
      case iastore =>
        have e1 : len = 1 := eq_of_beq hok
        subst e1
        obtain ⟨x, st, rfl, h⟩ := eI_el h
        obtain ⟨j, st, rfl, h⟩ := eI_el h
        obtain ⟨q, st, rfl, h⟩ := eR_el h
        obtain ⟨n1, h1, h2, h⟩ := h
        exact r_iast F h1 h2 hd (go _ _ _ _ _ _ h)
      case lastore =>
        have e1 : len = 1 := eq_of_beq hok
        subst e1
        obtain ⟨x, st, rfl, h⟩ := eJ_el h
        obtain ⟨j, st, rfl, h⟩ := eI_el h
        obtain ⟨q, st, rfl, h⟩ := eR_el h
        obtain ⟨n1, h1, h2, h⟩ := h
        exact r_last F h1 h2 hd (go _ _ _ _ _ _ h)
      case bastore =>
        have e1 : len = 1 := eq_of_beq hok
        subst e1
        obtain ⟨x, st, rfl, h⟩ := eI_el h
        obtain ⟨j, st, rfl, h⟩ := eI_el h
        obtain ⟨q, st, rfl, h⟩ := eR_el h
        obtain ⟨kd, n1, h1, h2, h3, h⟩ := h
        rcases h2 with ⟨rfl, h2⟩ | ⟨rfl, h2⟩
        · exact r_bast F h1 h2 h3 hd (go _ _ _ _ _ _ h)
        · exact r_zast F h1 h2 h3 hd (go _ _ _ _ _ _ h)
      case castore =>
        have e1 : len = 1 := eq_of_beq hok
        subst e1
        obtain ⟨x, st, rfl, h⟩ := eI_el h
        obtain ⟨j, st, rfl, h⟩ := eI_el h
        obtain ⟨q, st, rfl, h⟩ := eR_el h
        obtain ⟨n1, h1, h2, h3, h⟩ := h
        exact r_cast F h1 h2 h3 hd (go _ _ _ _ _ _ h)
      case aastore =>
        have e1 : len = 1 := eq_of_beq hok
        subst e1
        obtain ⟨r, st, rfl, h⟩ := eR_el h
        obtain ⟨j, st, rfl, h⟩ := eI_el h
        obtain ⟨q, st, rfl, h⟩ := eR_el h
        obtain ⟨kd, n1, h1, h2, h3, h⟩ := h
        exact r_aast F h1 h2 h3 hd (go _ _ _ _ _ _ h)
      case ldc k =>
        have e1 : len = 2 := eq_of_beq hok
        subst e1
        obtain ⟨lp, lt, hck, htg⟩ := hlk _ rfl
        have e2 : lt = 3 ∨ lt = 5 := by
          have : ((lt == 3) || (lt == 5)) = true := htg
          simpa [Bool.or_eq_true] using this
        rcases e2 with rfl | rfl
        · simp only [ckL, Bool.and_eq_true, beq_iff_eq] at hck
          obtain ⟨⟨h1, h2⟩, rfl⟩ := hck
          rw [← hown] at h1
          exact r_ldc F (show nr32 a from of_decide_eq_true (p := -2147483648 ≤ a ∧ a < 2147483648) h2) (wAt_in h1 rfl) hd (go _ _ _ _ _ _ h)
        · simp only [ckL, Bool.and_eq_true, beq_iff_eq] at hck
          obtain ⟨⟨h1, rfl⟩, rfl⟩ := hck
          have hcl : (mY mi).cls = "ClashDay$Tape" := by rw [hown, h1]; rfl
          have hm0 : mi ≠ 0 := fun q => by rw [q] at h1; exact absurd h1 (by decide +kernel)
          exact (hST p e R U m args below meth c Q mi B n0 bud pc ls st S s hm hcl F hE hU hB).1 hd (go _ _ _ _ _ _ h)
      case ldc_w k =>
        have e1 : len = 3 := eq_of_beq hok
        subst e1
        obtain ⟨lp, lt, hck, htg⟩ := hlk _ rfl
        have e2 : lt = 3 := eq_of_beq htg
        subst e2
        simp only [ckL, Bool.and_eq_true, beq_iff_eq] at hck
        obtain ⟨⟨h1, h2⟩, rfl⟩ := hck
        rw [← hown] at h1
        exact r_ldcw F (show nr32 a from of_decide_eq_true (p := -2147483648 ≤ a ∧ a < 2147483648) h2) (wAt_in h1 rfl) hd (go _ _ _ _ _ _ h)
      case ldc2_w k =>
        have e1 : len = 3 := eq_of_beq hok
        subst e1
        obtain ⟨lp, lt, hck, htg⟩ := hlk _ rfl
        have e2 : lt = 4 := eq_of_beq htg
        subst e2
        simp only [ckL, Bool.and_eq_true] at hck
        obtain ⟨h1, h2⟩ := hck
        rw [← hown] at h1
        exact r_ldc2 F (show nr64 a from of_decide_eq_true (p := -9223372036854775808 ≤ a ∧ a < 9223372036854775808) h2) (wAt_in h1 rfl) hd (go _ _ _ _ _ _ h)
      case new k =>
        have e1 : len = 3 := eq_of_beq hok
        subst e1
        obtain ⟨lp, lt, hck, htg⟩ := hlk _ rfl
        have e2 : lt = 2 := eq_of_beq htg
        subst e2
        cases bud with
        | zero => exact False.elim h
        | succ bud =>
          cases a with
          | negSucc q => simp [ckL] at hck
          | ofNat ci =>
            obtain ⟨⟨-, h20⟩, h⟩ := h
            have h20 : (ci : Int) < 20 := h20
            obtain ⟨C, T, N, hcl, hw, hN⟩ := cl_of hck (by omega)
            subst hN
            obtain ⟨Y, hY, -⟩ := clx_all hcl
            rw [← hown] at hw
            exact r_new F hU hB hY hw hd (go _ _ _ _ _ _ h)
      case newarray t =>
        have e1 : len = 2 := eq_of_beq hok
        subst e1
        cases bud with
        | zero => exact False.elim h
        | succ bud =>
          obtain ⟨x, st, rfl, h⟩ := eI_el h
          cases t with
          | boolean => exact r_newa_boolean F hU hB (wAt_in (p := 6197) (by decide +kernel) rfl) ⟨h.1.1, h.1.2.1⟩ hd (go _ _ _ _ _ _ h.2)
          | char => exact r_newa_char F hU hB (wAt_in (p := 1063) (by decide +kernel) rfl) ⟨h.1.1, h.1.2.1⟩ hd (go _ _ _ _ _ _ h.2)
          | byte => exact r_newa_byte F hU hB (wAt_in (p := 3117) (by decide +kernel) rfl) ⟨h.1.1, h.1.2.1⟩ hd (go _ _ _ _ _ _ h.2)
          | int => exact r_newa_int F hU hB (wAt_in (p := 1077) (by decide +kernel) rfl) ⟨h.1.1, h.1.2.1⟩ hd (go _ _ _ _ _ _ h.2)
          | long => exact r_newa_long F hU hB (wAt_in (p := 2072) (by decide +kernel) rfl) ⟨h.1.1, h.1.2.1⟩ hd (go _ _ _ _ _ _ h.2)
          | float => exact absurd rfl h.1.2.2
          | double => exact absurd rfl h.1.2.2
          | short => exact absurd rfl h.1.2.2
      case anewarray k =>
        have e1 : len = 3 := eq_of_beq hok
        subst e1
        obtain ⟨lp, lt, hck, htg⟩ := hlk _ rfl
        have e2 : lt = 2 := eq_of_beq htg
        subst e2
        cases bud with
        | zero => exact False.elim h
        | succ bud =>
          obtain ⟨x, st, rfl, h⟩ := eI_el h
          obtain ⟨⟨h1, h2, h3⟩, h⟩ := h
          rcases h3 with h3 | h3 | h3
          · have h3 : a = Int.ofNat 0 := h3
            subst h3
            obtain ⟨C, T, N, hcl, hw, hN⟩ := cl_of hck (by decide)
            cases hcl
            rw [← hown] at hw
            exact r_anew F hU hB hw (hE.1 _ (Or.inl rfl)) (kd := 25) (by decide) rfl ⟨h1, h2⟩ hd (go _ _ _ _ _ _ h)
          · have h3 : a = Int.ofNat 5 := h3
            subst h3
            obtain ⟨C, T, N, hcl, hw, hN⟩ := cl_of hck (by decide)
            cases hcl
            rw [← hown] at hw
            exact r_anew F hU hB hw (hE.1 _ (Or.inr (Or.inl rfl))) (kd := 26) (by decide) rfl ⟨h1, h2⟩ hd (go _ _ _ _ _ _ h)
          · have h3 : a = Int.ofNat 7 := h3
            subst h3
            obtain ⟨C, T, N, hcl, hw, hN⟩ := cl_of hck (by decide)
            cases hcl
            rw [← hown] at hw
            exact r_anew F hU hB hw (hE.1 _ (Or.inr (Or.inr rfl))) (kd := 27) (by decide) rfl ⟨h1, h2⟩ hd (go _ _ _ _ _ _ h)
      case multianewarray k dims =>
        have h1 : (dims == 2) = true ∧ (len == 4) = true := by simpa [mOK, Bool.and_eq_true] using hok
        have e1 : len = 4 := eq_of_beq h1.2
        have e3 : dims = 2 := eq_of_beq h1.1
        subst e1
        subst e3
        obtain ⟨lp, lt, hck, htg⟩ := hlk _ rfl
        have e2 : lt = 2 := eq_of_beq htg
        subst e2
        obtain ⟨x, st, rfl, h⟩ := eI_el h
        obtain ⟨y, st, rfl, h⟩ := eI_el h
        obtain ⟨⟨h1, h2, h3, h4, h5, h6⟩, h⟩ := h
        have h6 : a = Int.ofNat 28 := h6
        subst h6
        simp only [ckL] at hck
        rw [← hown] at hck
        exact r_mna F hU hB (wAt_in hck rfl) hE.2.1 (wAt_in (p := 1077) (by decide +kernel) rfl) ⟨h1, h2, h3, h4, h5⟩ hd (go _ _ _ _ _ _ h)
      case invokestatic k =>
        have e1 : len = 3 := eq_of_beq hok
        subst e1
        obtain ⟨lp, lt, hck, htg⟩ := hlk _ rfl
        have e2 : lt = 1 := eq_of_beq htg
        subst e2
        cases a with
        | ofNat mj =>
          simp only [ckL, Bool.and_eq_true, beq_iff_eq] at hck
          obtain ⟨⟨⟨⟨c1, c2⟩, c3⟩, rfl⟩, rfl⟩ := hck
          have c1 := of_decide_eq_true c1
          rw [← hown] at c2
          obtain ⟨as, st, rfl, hlen, h⟩ := popA_el h
          rw [List.append_nil] at h
          obtain ⟨⟨hw, hbud⟩, hcall⟩ := h
          cases d with
          | zero => exact False.elim hcall
          | succ d =>
            obtain ⟨hle, hcall⟩ := hcall
            obtain ⟨m1, m2⟩ := MS_all c1.1 c1.2 c3
            refine r_static F hSK hE hbU hU rfl hR hB (MK_all c1.1 c1.2) m1 (wAt_in c2 rfl) m2 hlen hw hbud (fun _ _ => met_of ih c1.1 c1.2 hle hcall) hd (fun r S' s' hk => ?_)
            cases r with
            | none => exact go _ _ _ _ _ _ hk
            | some v => exact go _ _ _ _ _ _ hk
        | negSucc q =>
          match q, hck, h with
          | 1, hck, h =>
            simp only [ckL] at hck
            rw [← hown] at hck
            obtain ⟨n1, st, rfl, h⟩ := eI_el h
            obtain ⟨dp, st, rfl, h⟩ := eI_el h
            obtain ⟨q1, st, rfl, h⟩ := eR_el h
            obtain ⟨sp1, st, rfl, h⟩ := eI_el h
            obtain ⟨q2, st, rfl, h⟩ := eR_el h
            obtain ⟨⟨h1, h2⟩, ⟨l0, h3⟩, ⟨l1, h4⟩, h⟩ := h
            exact r_copy F (wAt_in hck rfl) (wAt_in (p := 3116) (by decide +kernel) rfl) (wAt_in (p := 3115) (by decide +kernel) rfl) (wAt_in (p := 1018) (by decide +kernel) rfl) rfl (by omega) (by omega) h2 h3 h4 hd (go _ _ _ _ _ _ h)
          | 4, hck, h =>
            simp only [ckL] at hck
            rw [← hown] at hck
            obtain ⟨y, st, rfl, h⟩ := eI_el h
            obtain ⟨x, st, rfl, h⟩ := eI_el h
            obtain ⟨⟨h1, h2⟩, h⟩ := h
            exact r_mmax F (wAt_in hck rfl) (wAt_in (p := 4002) (by decide +kernel) rfl) (wAt_in (p := 1019) (by decide +kernel) rfl) (wAt_in (p := 4003) (by decide +kernel) rfl) rfl (by omega) (by omega) hB h2 hd (go _ _ _ _ _ _ h)
          | 5, hck, h =>
            simp only [ckL] at hck
            rw [← hown] at hck
            obtain ⟨y, st, rfl, h⟩ := eI_el h
            obtain ⟨x, st, rfl, h⟩ := eI_el h
            obtain ⟨⟨h1, h2⟩, h⟩ := h
            exact r_mmin F (wAt_in hck rfl) (wAt_in (p := 4057) (by decide +kernel) rfl) (wAt_in (p := 1019) (by decide +kernel) rfl) (wAt_in (p := 4058) (by decide +kernel) rfl) rfl (by omega) (by omega) hB h2 hd (go _ _ _ _ _ _ h)
          | 0, hck, _ => simp [ckL] at hck
          | 2, hck, _ => simp [ckL] at hck
          | 3, hck, _ => simp [ckL] at hck
          | q + 6, hck, _ => simp [ckL] at hck
      case invokevirtual k =>
        have e1 : len = 3 := eq_of_beq hok
        subst e1
        obtain ⟨lp, lt, hck, htg⟩ := hlk _ rfl
        have e2 : lt = 6 := eq_of_beq htg
        subst e2
        cases a with
        | ofNat mj =>
          simp only [ckL, Bool.and_eq_true, beq_iff_eq, bne_iff_ne] at hck
          obtain ⟨⟨⟨⟨⟨⟨c1, c2⟩, c3⟩, c4⟩, rfl⟩, rfl⟩, c5⟩ := hck
          have c1 := of_decide_eq_true c1
          rw [← hown] at c2
          obtain ⟨as, st, rfl, hlen, h⟩ := popA_el h
          rw [List.append_nil] at h
          obtain ⟨⟨hrc, hw⟩, hbud, hcall⟩ := h
          obtain ⟨ko, tl, rfl, hko⟩ := recv_el hrc
          cases d with
          | zero => exact False.elim hcall
          | succ d =>
            obtain ⟨hle, hcall⟩ := hcall
            obtain ⟨m1, m2, m3⟩ := MI_all c1.1 c1.2 c3
            obtain ⟨m4, m5⟩ := par_1 m3
            obtain ⟨cT, cN, hcl, h20⟩ := clIs_of c5
            have hl2 : tl.length = mNa mj - 1 := by
              have q : tl.length + 1 = mNa mj := hlen
              omega
            refine r_virtual F hSK hE hbU hU rfl hR hB (MK_all c1.1 c1.2) m1 (m2 c4) (wAt_in c2 rfl) ⟨cT, cN, hcl⟩ h20 hko m5 hl2 hw hbud (fun _ _ => met_of ih c1.1 c1.2 hle hcall) hd (fun r S' s' hk => ?_)
            cases r with
            | none => exact go _ _ _ _ _ _ hk
            | some v => exact go _ _ _ _ _ _ hk
        | negSucc q =>
          match q, hck, h with
          | 2, hck, h =>
            simp only [ckL, Bool.and_eq_true, beq_iff_eq] at hck
            have hcl : (mY mi).cls = "ClashDay$Tape" := by rw [hown, hck.1]; rfl
            obtain ⟨q1, st, rfl, h⟩ := eX_el h
            obtain ⟨rfl, ⟨h1, h2⟩, h⟩ := h
            have hw := wAt_in hck.2 rfl
            rw [← hown, hcl] at hw
            exact (hST p e R U m args below meth c Q mi B n0 bud pc ls st S s hm hcl F hE hU hB).2.1 k ⟨by omega, by omega⟩ h2 hw hd (go _ _ _ _ _ _ h)
          | 3, hck, h =>
            simp only [ckL, Bool.and_eq_true, beq_iff_eq] at hck
            have hcl : (mY mi).cls = "ClashDay$Tape" := by rw [hown, hck.1]; rfl
            obtain ⟨j, st, rfl, h⟩ := eI_el h
            obtain ⟨q1, st, rfl, h⟩ := eX_el h
            obtain ⟨rfl, ⟨h1, h2⟩, h3, h⟩ := h
            have hw := wAt_in hck.2 rfl
            rw [← hown, hcl] at hw
            exact (hST p e R U m args below meth c Q mi B n0 bud pc ls st S s hm hcl F hE hU hB).2.2 k j ⟨by omega, by omega⟩ h2 h3 hw hd (go _ _ _ _ _ _ h)
          | 0, hck, _ => simp [ckL] at hck
          | 1, hck, _ => simp [ckL] at hck
          | q + 4, hck, _ => simp [ckL] at hck
      case invokespecial k =>
        have e1 : len = 3 := eq_of_beq hok
        subst e1
        obtain ⟨lp, lt, hck, htg⟩ := hlk _ rfl
        have e2 : lt = 7 := eq_of_beq htg
        subst e2
        cases a with
        | ofNat mj =>
          simp only [ckL, Bool.and_eq_true, Bool.or_eq_true, beq_iff_eq] at hck
          obtain ⟨⟨⟨⟨⟨⟨c1, c2⟩, c3⟩, c4⟩, rfl⟩, rfl⟩, c5⟩ := hck
          have c1 := of_decide_eq_true c1
          rw [← hown] at c2
          obtain ⟨as, st, rfl, hlen, h⟩ := popA_el h
          rw [List.append_nil] at h
          obtain ⟨⟨hrc, hw⟩, hbud, hcall⟩ := h
          obtain ⟨ko, tl, rfl, hko⟩ := recv_el hrc
          cases d with
          | zero => exact False.elim hcall
          | succ d =>
            obtain ⟨hle, hcall⟩ := hcall
            obtain ⟨m1, m2, m3⟩ := MI_all c1.1 c1.2 c3
            obtain ⟨m4, m5⟩ := par_1 m3
            obtain ⟨cT, cN, hcl, h20⟩ := clIs_of c5
            have hl2 : tl.length = mNa mj - 1 := by
              have q : tl.length + 1 = mNa mj := hlen
              omega
            have hmk := MK_all c1.1 c1.2
            have hre := hmk.2.2.2.2.2.1 (Or.inr c4)
            have hin := hmk.2.2.2.2.2.2.2.2.2.2.2 c4
            rcases c2 with c2 | c2
            · refine r_special F hSK hE hbU hU rfl hR hB hmk m1 hre hin (wAt_in c2 rfl) ⟨cT, cN, hcl⟩ h20 hko m5 hl2 hw hbud (fun _ _ => met_of ih c1.1 c1.2 hle hcall) hd (fun r S' s' hk => ?_)
              cases r with
              | none => exact go _ _ _ _ _ _ hk
              | some v => exact go _ _ _ _ _ _ hk
            · refine r_nest F hSK hE hbU hU rfl hR hB hmk m1 hre hin (List.mem_filter.mpr ⟨wAt_tbl c2, rfl⟩) ⟨cT, cN, hcl⟩ h20 hko m5 hl2 hw hbud (fun _ _ => met_of ih c1.1 c1.2 hle hcall) hd (fun r S' s' hk => ?_)
              cases r with
              | none => exact go _ _ _ _ _ _ hk
              | some v => exact go _ _ _ _ _ _ hk
        | negSucc q =>
          match q, hck, h with
          | 0, hck, h =>
            simp only [ckL] at hck
            rw [← hown] at hck
            obtain ⟨q1, st, rfl, h⟩ := eR_el h
            obtain ⟨⟨h1, h2⟩, h⟩ := h
            exact r_oinit F (wAt_in hck rfl) (wAt_in (p := 1027) (by decide +kernel) rfl) (wAt_in (p := 1028) (by decide +kernel) rfl) rfl (by omega) (by omega) h2 hd (go _ _ _ _ _ _ h)
          | q + 1, hck, _ => simp [ckL] at hck
      case return_ =>
        have e1 : len = 1 := eq_of_beq hok
        subst e1
        dsimp only [ex1] at h
        split at h
        · obtain ⟨⟨rfl, hr⟩, h⟩ := h
          exact hret _ _ _ _ _ _ h (Or.inl ⟨rfl, rfl, hr⟩) hd
        · exact False.elim h
      case ireturn =>
        have e1 : len = 1 := eq_of_beq hok
        subst e1
        dsimp only [ex1] at h
        split at h
        · obtain ⟨⟨rfl, hr⟩, h⟩ := h
          exact hret _ _ _ _ _ _ h (Or.inr (Or.inl ⟨rfl, _, rfl, hr⟩)) hd
        · exact False.elim h
      case lreturn =>
        have e1 : len = 1 := eq_of_beq hok
        subst e1
        dsimp only [ex1] at h
        split at h
        · obtain ⟨⟨rfl, hr⟩, h⟩ := h
          exact hret _ _ _ _ _ _ h (Or.inr (Or.inr (Or.inl ⟨rfl, _, rfl, hr⟩))) hd
        · exact False.elim h
      case areturn =>
        have e1 : len = 1 := eq_of_beq hok
        subst e1
        dsimp only [ex1] at h
        split at h
        · obtain ⟨⟨rfl, hr⟩, h⟩ := h
          exact hret _ _ _ _ _ _ h (Or.inr (Or.inr (Or.inr ⟨rfl, _, rfl, hr⟩))) hd
        · exact False.elim h
      all_goals exact False.elim h
