def R_law : String := "ClashDayLaw"
def lw_P (b : Addr) (xs : List Int32) (args : Array Value) (s : State) : Prop := args = #[.ref b] ∧ s.IntsAt b xs ∧ xs.length ≤ 3072 ∧ (Jvm.Cond.and given_1 narrow_1).before args s = true
def lw_Q (_ : Array Value) (s : State) (o : Outcome) (t : State) : Prop := o = .returned (some (.int 1)) ∧ Framed s o t [] 600000 7302250
def lw_Z (below : List Frame) (a : Array Value) (s : State) : State → Prop := fun t => ∃ o, t.status = .running ∧ Ended t below o ∧ lw_Q a s o t
/-- the law's own end, with 1 on the stack, nothing written that was there before, its room as the claim has it -/
theorem lw_ret {p : Program} {l : Launch} {e : Env} {s : State} {m : MethodId} {below : List Frame} {meth : Method} {c : Code} {b : Nat} (hx : p.tables.exec = Jvm.exec) (hb : c.code = code) (hr : meth.sig.returnType = ret) (hlocks : meth.locks = false) {pc : Nat} {H : Heap} {ls : Array Slot} (hdg : decode code pc = .ok (.ireturn, 1)) : W p l e room_1 s m #[Value.ref b] below meth c H [] 600000 7302250 (lw_Z below #[Value.ref b] s) (F0 m pc ls [.int 1]) := by
  intro T hT X
  obtain ⟨fs, hret, hrun, hended, hW, hframe⟩ := X.leave (v := some (.int 1)) (hlocks := hlocks) (fun h => by rw [hr] at h; cases h)
  have hmeth' : T.vm.method? m = some meth := X.method'
  refine ⟨T.setFrames fs, ?_, .returned (some (.int 1)), hrun, hended, rfl, ⟨_, rfl⟩, hW, hframe⟩
  jvm_step X.here [X.here.top, hx, hb, hdg, hmeth', hr, ret, narrow_b1]
  (try refine ⟨rfl, ?_⟩); (try refine ⟨rfl, ?_⟩)
  first | (intro acts; rw [hret _ acts rfl rfl rfl]) | rw [hret _ _ rfl rfl rfl]
  exact Steps.refl _
/-- what holds at the law's entry: the machine, the code, the tables' words (any of lw_tbl by 'hts w (by decide +kernel)'), the script of L ints xs at the cell b, what the Statement gives of the start (any of its parts by flat_of_before) -/
def lw_At (p : Program) (s : State) (m : MethodId) (meth : Method) (c : Code) (b L : Nat) (xs : Nat → Int32) : Prop :=
  p.tables.exec = Jvm.exec ∧ c.code = code ∧ meth.sig.returnType = ret ∧ c.maxLocals = 4 ∧ s.vm.findClass R_law = some m.cls ∧ (∀ w ∈ lw_tbl, w.before #[Value.ref b] s = true) ∧ va_X b L xs s s.heap ∧ b < s.heap.size ∧ meth.locks = false ∧ (Jvm.Cond.and given_1 narrow_1).before #[Value.ref b] s = true
theorem sa_byte : Cond.arrayClass .byte ∈ lw_tbl := wAt_tbl (p := 3117) (by decide +kernel)
theorem sa_char : Cond.arrayClass .char ∈ lw_tbl := wAt_tbl (p := 1063) (by decide +kernel)
theorem sa_int : Cond.arrayClass .int ∈ lw_tbl := wAt_tbl (p := 1077) (by decide +kernel)
theorem sa_long : Cond.arrayClass .long ∈ lw_tbl := wAt_tbl (p := 2072) (by decide +kernel)
theorem sa_boolean : Cond.arrayClass .boolean ∈ lw_tbl := wAt_tbl (p := 6197) (by decide +kernel)
theorem so_25 : Cond.arrayOver (.object "ClashDay$Board") ∈ lw_tbl := wAt_tbl (p := 1236) (by decide +kernel)
theorem so_26 : Cond.arrayOver (.object "ClashDay$Rule") ∈ lw_tbl := wAt_tbl (p := 1092) (by decide +kernel)
theorem so_27 : Cond.arrayOver (.object "ClashDay$Scene") ∈ lw_tbl := wAt_tbl (p := 1234) (by decide +kernel)
theorem so_28 : Cond.arrayOver (.array .int) ∈ lw_tbl := wAt_tbl (p := 2082) (by decide +kernel)
theorem ss_37 : Cond.stringRef "ClashDay$Tape" 37 jTx ∈ lw_tbl := wAt_tbl (p := 3019) (by decide +kernel)
theorem ss_cs : Cond.laysStatic "java/lang/String" "COMPACT_STRINGS" "Z" ∈ lw_tbl := wAt_tbl (p := 3029) (by decide +kernel)
theorem ss_sf : Cond.laysStatic "jdk/internal/util/Preconditions" "SIOOBE_FORMATTER" "Ljava/util/function/BiFunction;" ∈ lw_tbl := wAt_tbl (p := 3045) (by decide +kernel)
theorem ss_is : Cond.initialized "java/lang/String" ∈ lw_tbl := wAt_tbl (p := 1014) (by decide +kernel)
theorem ss_ip : Cond.initialized "jdk/internal/util/Preconditions" ∈ lw_tbl := wAt_tbl (p := 1016) (by decide +kernel)
abbrev nTm : Term := .string "ClashDay$Tape" 37
abbrev nVa : Term := .field nTm "java/lang/String" "value" "[B"
abbrev nFl : List Cond := flatC (Jvm.Cond.and given_1 narrow_1)
theorem na_ex : Cond.exactly nTm "java/lang/String" ∈ nFl := by decide +kernel
theorem na_co : Cond.eq (.field nTm "java/lang/String" "coder" "B") (.int 0) ∈ nFl := by decide +kernel
theorem na_ar : Cond.arrayOf nVa .byte ∈ nFl := by decide +kernel
theorem na_le : Cond.eq (.length nVa) (.int (Int32.ofNat 105)) ∈ nFl := by decide +kernel
theorem na_el : ∀ j, j < 105 → Cond.eq (.elem nVa (.int (Int32.ofNat j))) (.int (Int32.ofNat (mTx.getD j 0))) ∈ nFl := by decide +kernel
theorem na_cs : Cond.eq (.static "java/lang/String" "COMPACT_STRINGS" "Z") (.int 1) ∈ nFl := by decide +kernel
theorem na_sf : Cond.isRef (.static "jdk/internal/util/Preconditions" "SIOOBE_FORMATTER" "Ljava/util/function/BiFunction;") ∈ nFl := by decide +kernel
theorem nb_el : ∀ j, j < 105 → (([mTx.map Int32.ofNat]).getD 0 []).getD j 0 = Int32.ofNat (mTx.getD j 0) := by decide +kernel
/-- the String of the words, at the start -/
theorem sk_start {s : State} {args : Array Value} (hts : ∀ w ∈ lw_tbl, w.before args s = true) (hn : ∀ w ∈ nFl, w.before args s = true) : ∃ a : Nat, ∀ sp : Nat → Nat, sp 1 = a → SKx s.heap.size sp s := by
  have hA : ∀ a : Nat, a < s.heap.size → ¬ mA s.heap.size a := fun a h => Nat.not_le.mpr h
  obtain ⟨adK, adV, h1, h2⟩ := vk_Sof (args := args) (s := s) (N := 1) (tm := fun _ => nTm) (len := [105]) (byt := [mTx.map Int32.ofNat]) (A := mA s.heap.size) (fun i hi => by rw [show i = 0 by omega]; decide) (fun _ _ => hn _ na_ex) (fun _ _ => hn _ na_co) (fun _ _ => hn _ na_ar) (fun i hi => by rw [show i = 0 by omega]; exact hn _ na_le) (fun i hi j hj => by
    rw [show i = 0 by omega] at hj ⊢
    rw [nb_el j hj]
    exact hn _ (na_el j hj)) (fun i j hi hj hij => absurd (show i = j by omega) hij) hA
  obtain ⟨g1, g2, g3, g4⟩ := h1.1 0 (by omega)
  refine ⟨adK 0, fun sp hsp => ?_⟩
  unfold SKx
  rw [hsp]
  refine ⟨vk_R.of (hts _ ss_37) (h2 0 (by omega)), g1, g2, ⟨adV 0, g3, ?_⟩, va_Zof (hts _ ss_cs) (hts _ ss_is) (va_eqt (hn _ na_cs)) hA, va_Zqof (hts _ ss_sf) (hts _ ss_ip) (hn _ na_sf) hA⟩
  obtain ⟨cell, q1, q2, q3, q4, q5, q6, q7⟩ := g4
  exact ⟨cell, q1, q2, q3, q4, q5, fun j hj => (q6 j hj).trans (congrArg (fun v => some (Value.int v)) (nb_el j hj)), q7⟩
theorem ar_start {s : State} {args : Array Value} {ty : FieldType} (h : (Cond.arrayClass ty).before args s = true) (hty : ∀ C, ty ≠ .object C) : ∃ cA, ArrOfT s cA ty ∧ va_RA s cA ty := by
  obtain ⟨cA, kA, comp, h1, h2, h3⟩ := Cond.arrayClass_spec h
  refine ⟨cA, fun n z => ⟨fun k h => (by cases h), kA, h2, comp, h3⟩, ?_⟩
  cases ty with
  | object C => exact absurd rfl (hty C)
  | _ => exact h1
theorem ao_start {s : State} {args : Array Value} {C : String} (h : (Cond.arrayOver (.object C)).before args s = true) : ∃ cA, ArrOfT s cA (.object C) ∧ va_RA s cA (.object C) := by
  obtain ⟨comp, cA, kA, h1, h2, h3, h4, h5⟩ := Cond.arrayOver_spec h
  exact ⟨cA, fun n z => ⟨fun k h => (by cases h), kA, h3, comp, h4⟩, kA, comp, h3, h4, h1, h5⟩
theorem aa_start {s : State} {args : Array Value} {t : FieldType} (h : (Cond.arrayOver (.array t)).before args s = true) : ∃ cA, ArrOfT s cA (.array t) ∧ va_RA s cA (.array t) := by
  obtain ⟨comp, cA, kA, h1, h2, h3, h4, h5⟩ := arrayOverA_spec h
  exact ⟨cA, fun n z => ⟨fun k h => (by cases h), kA, h3, comp, h4⟩, h5⟩
/-- the classes, at the start -/
theorem k_start {s : State} {args : Array Value} (hts : ∀ w ∈ lw_tbl, w.before args s = true) : ∃ (D : va_G) (dA : Nat → ClassId), va_K D mCl (mTys dA) s := by
  have hm : ∀ w ∈ mT, w.before args s = true := fun w hw => hts w (List.mem_filter.mp hw).1
  have hk : ∀ c : Nat, ∃ q : ClassId × (Nat → Nat), ∀ r : vw_C, mCl[c]? = some r → u_Kn s r.1 r.2.1 r.2.2 q.1 q.2 := by
    intro c
    cases hc : mCl[c]? with
    | none => exact ⟨((0 : Nat), fun _ => 0), fun r h => by cases h⟩
    | some r =>
      obtain ⟨C, T, N⟩ := r
      obtain ⟨Y, h1, -⟩ := clx_all hc
      obtain ⟨cC, iS, h⟩ := u_known (C := C) (T := T) (N := N) (n := N) hm h1.2.1 (hm _ h1.2.2.2.2.2.1)
      exact ⟨(cC, iS), fun r hr => by cases hr; exact h⟩
  obtain ⟨f, hf⟩ := Classical.axiomOfChoice hk
  obtain ⟨a20, h20⟩ := ar_start (hts _ sa_byte) (fun C h => by cases h)
  obtain ⟨a21, h21⟩ := ar_start (hts _ sa_char) (fun C h => by cases h)
  obtain ⟨a22, h22⟩ := ar_start (hts _ sa_int) (fun C h => by cases h)
  obtain ⟨a23, h23⟩ := ar_start (hts _ sa_long) (fun C h => by cases h)
  obtain ⟨a24, h24⟩ := ar_start (hts _ sa_boolean) (fun C h => by cases h)
  obtain ⟨a25, h25⟩ := ao_start (hts _ so_25)
  obtain ⟨a26, h26⟩ := ao_start (hts _ so_26)
  obtain ⟨a27, h27⟩ := ao_start (hts _ so_27)
  obtain ⟨a28, h28⟩ := aa_start (hts _ so_28)
  refine ⟨(fun c => (f c).1, fun c => (f c).2), fun n => if n = 20 then a20 else if n = 21 then a21 else if n = 22 then a22 else if n = 23 then a23 else if n = 24 then a24 else if n = 25 then a25 else if n = 26 then a26 else if n = 27 then a27 else a28, fun c q h => hf c q h, fun k q h => ?_⟩
  have hl : k < 9 := (List.getElem?_eq_some_iff.mp h).1
  rcases (show k = 0 ∨ k = 1 ∨ k = 2 ∨ k = 3 ∨ k = 4 ∨ k = 5 ∨ k = 6 ∨ k = 7 ∨ k = 8 by omega) with rfl | rfl | rfl | rfl | rfl | rfl | rfl | rfl | rfl
  · cases h; exact h20
  · cases h; exact h21
  · cases h; exact h22
  · cases h; exact h23
  · cases h; exact h24
  · cases h; exact h25
  · cases h; exact h26
  · cases h; exact h27
  · cases h; exact h28
/-- what is left: the small machine, run on the law from its entry, comes to its end with 1 -/
def LawOk : Prop := ∀ X : (Nat → Int) × Nat, X.2 ≤ 3072 → (∀ j, nr32 (X.1 j)) → ∃ n, wp X n 1400 440 0 0 (mLoc [mX 0] 4) [] [] (fun _ _ => 0) (fun r _ _ => r = some (mI 1))
theorem start_of (hok : LawOk) {p : Program} {e : Env} {s : State} {m : MethodId} {below : List Frame} {meth : Method} {c : Code} (l : Launch) (hnm : meth.name = (mY 0).name) {b L : Nat} {xs : Nat → Int32} (hL : L ≤ 3072) (C0 : lw_At p s m meth c b L xs) : W p l e room_1 s m #[Value.ref b] below meth c s.heap [] 0 0 (lw_Z below #[Value.ref b] s) (entryFrame m ([Value.ref b] : List Value).toArray 4) := by
  obtain ⟨hx, hb, hr, hml, hown, hts, hX, hbl, hlocks, hgv⟩ := C0
  have hm : ∀ w ∈ mT, w.before #[Value.ref b] s = true := fun w hw => hts w (List.mem_filter.mp hw).1
  obtain ⟨D, dA, hK⟩ := k_start hts
  obtain ⟨a, hsk⟩ := sk_start hts (flat_of_before _ hgv)
  have hsk := hsk (fun i => if i = 0 then b else a) rfl
  generalize hsp : (fun i : Nat => if i = 0 then b else a) = sp at hsk
  have hb0 : sp 0 = b := by rw [← hsp]; rfl
  have hE : EX (SKx s.heap.size sp) s := ⟨fun C hC => by
    rcases hC with rfl | rfl | rfl
    · exact hts _ so_25
    · exact hts _ so_26
    · exact hts _ so_27, hts _ so_28, fun a i y h hw => hts _ (List.mem_filter.mp hw).1, hsk⟩
  have F : FX p s m #[Value.ref b] meth c D dA 0 := ⟨hx, hb, hml, hown, hm, hK, hr, hlocks, hnm⟩
  obtain ⟨n, hw⟩ := hok (fun j => (xs j).toInt, L) hL (fun j => by
    have h1 := Int32.le_toInt (xs j)
    have h2 := Int32.toInt_lt (xs j)
    unfold nr32
    show -2147483648 ≤ (xs j).toInt ∧ (xs j).toInt < 2147483648
    omega)
  have hl : lg_sl ([mX 0].map (mUp s.heap.size sp)) = lg_sl [Value.ref b] := by show lg_sl [Value.ref (sp 0)] = _; rw [hb0]
  have hls := mHas_entry (base := s.heap.size) (sp := sp) (as := [mX 0]) (n := 4) ⟨trivial, trivial⟩ (Nat.le_of_ble_eq_true rfl)
  rw [hl] at hls
  rw [lg_entry_eq]
  refine snd_all SKx_m (STR_all l) n 1400 440 0 0 (mLoc [mX 0] 4) [] [] (fun _ _ => 0) _ p e room_1 s m #[Value.ref b] below meth c (lw_Z below #[Value.ref b] s) 440 0 (by decide) hw F hE rfl ⟨by decide, by decide⟩ ⟨by decide, by decide⟩ (fun _ => ⟨xs, by rw [hb0]; exact hX, by rw [hb0]; exact hbl, by rw [hb0]; exact hbl, by show L < _; omega, fun j hj => rfl⟩) ?_ s.heap [] 0 0 _ ⟨fun k q h => by simp [mWs] at h, va_S.rf, fun k q h => by simp at h⟩ hls trivial ⟨rfl, rfl⟩ (Nat.le_refl 0)
  intro r S' s' pc ls i hq hi hd H locs cells slots rls hv hl2 hn hc hz
  have hq : r = some (mI 1) := hq
  subst hq
  rcases hi with ⟨-, h, -⟩ | ⟨rfl, x, h, -⟩ | ⟨-, x, h, -⟩ | ⟨-, x, h, -⟩
  · cases h
  · cases h
    refine va_forget (fun q hq => hv.2.1.2.2 q hq) ?_
    refine W.widen (k := 600000) (n := 7302250) (by omega) (by omega) ?_
    exact lw_ret hx hb hr hlocks hd
  · cases h
  · cases h
