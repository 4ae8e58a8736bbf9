/-! the words' String: the JDK's own methods on it -/
def jY_pci : MethodName := ⟨"jdk/internal/util/Preconditions", "checkIndex", "(IILjava/util/function/BiFunction;)I"⟩
abbrev jB_pci : ByteArray := prog_21_method_11_code
theorem jc_pci : Cond.code jY_pci jB_pci 3 (some .int) ∈ mT := wAt_in (p := 3048) (by decide +kernel) rfl
theorem js_pci : Cond.static jY_pci ∈ mT := wAt_in (p := 3047) (by decide +kernel) rfl
theorem ji_pci : Cond.initialized "jdk/internal/util/Preconditions" ∈ mT := wAt_in (p := 1016) (by decide +kernel) rfl
theorem jp_pci : plainName "jdk/internal/util/Preconditions" = true := by decide +kernel
def jY_sci : MethodName := ⟨"java/lang/String", "checkIndex", "(II)V"⟩
abbrev jB_sci : ByteArray := prog_17_method_155_code
theorem jc_sci : Cond.code jY_sci jB_sci 2 (none) ∈ mT := wAt_in (p := 3043) (by decide +kernel) rfl
theorem js_sci : Cond.static jY_sci ∈ mT := wAt_in (p := 3042) (by decide +kernel) rfl
theorem ji_sci : Cond.initialized "java/lang/String" ∈ mT := wAt_in (p := 1014) (by decide +kernel) rfl
theorem jp_sci : plainName "java/lang/String" = true := by decide +kernel
def jY_lch : MethodName := ⟨"java/lang/StringLatin1", "charAt", "([BI)C"⟩
abbrev jB_lch : ByteArray := prog_18_method_2_code
theorem jc_lch : Cond.code jY_lch jB_lch 2 (some .char) ∈ mT := wAt_in (p := 3040) (by decide +kernel) rfl
theorem js_lch : Cond.static jY_lch ∈ mT := wAt_in (p := 3039) (by decide +kernel) rfl
theorem ji_lch : Cond.initialized "java/lang/StringLatin1" ∈ mT := wAt_in (p := 1015) (by decide +kernel) rfl
theorem jp_lch : plainName "java/lang/StringLatin1" = true := by decide +kernel
def jY_isl : MethodName := ⟨"java/lang/String", "isLatin1", "()Z"⟩
abbrev jB_isl : ByteArray := prog_17_method_154_code
theorem jc_isl : Cond.code jY_isl jB_isl 1 (some .boolean) ∈ mT := wAt_in (p := 3037) (by decide +kernel) rfl
theorem js_isl : Cond.instanceMethod jY_isl ∈ mT := wAt_in (p := 3035) (by decide +kernel) rfl
theorem jv_isl : Cond.selects "java/lang/String" jY_isl jY_isl ∈ mT := wAt_in (p := 3036) (by decide +kernel) rfl
theorem ji_isl : Cond.initialized "java/lang/String" ∈ mT := wAt_in (p := 1014) (by decide +kernel) rfl
theorem jp_isl : plainName "java/lang/String" = true := by decide +kernel
def jY_cod : MethodName := ⟨"java/lang/String", "coder", "()B"⟩
abbrev jB_cod : ByteArray := prog_17_method_152_code
theorem jc_cod : Cond.code jY_cod jB_cod 1 (some .byte) ∈ mT := wAt_in (p := 3027) (by decide +kernel) rfl
theorem js_cod : Cond.instanceMethod jY_cod ∈ mT := wAt_in (p := 3025) (by decide +kernel) rfl
theorem jv_cod : Cond.selects "java/lang/String" jY_cod jY_cod ∈ mT := wAt_in (p := 3026) (by decide +kernel) rfl
theorem ji_cod : Cond.initialized "java/lang/String" ∈ mT := wAt_in (p := 1014) (by decide +kernel) rfl
theorem jp_cod : plainName "java/lang/String" = true := by decide +kernel
def jY_len : MethodName := ⟨"java/lang/String", "length", "()I"⟩
abbrev jB_len : ByteArray := prog_17_method_54_code
theorem jc_len : Cond.code jY_len jB_len 1 (some .int) ∈ mT := wAt_in (p := 3023) (by decide +kernel) rfl
theorem js_len : Cond.instanceMethod jY_len ∈ mT := wAt_in (p := 3021) (by decide +kernel) rfl
theorem jv_len : Cond.selects "java/lang/String" jY_len jY_len ∈ mT := wAt_in (p := 3022) (by decide +kernel) rfl
theorem ji_len : Cond.initialized "java/lang/String" ∈ mT := wAt_in (p := 1014) (by decide +kernel) rfl
theorem jp_len : plainName "java/lang/String" = true := by decide +kernel
def jY_chr : MethodName := ⟨"java/lang/String", "charAt", "(I)C"⟩
abbrev jB_chr : ByteArray := prog_17_method_56_code
theorem jc_chr : Cond.code jY_chr jB_chr 2 (some .char) ∈ mT := wAt_in (p := 3033) (by decide +kernel) rfl
theorem js_chr : Cond.instanceMethod jY_chr ∈ mT := wAt_in (p := 3031) (by decide +kernel) rfl
theorem jv_chr : Cond.selects "java/lang/String" jY_chr jY_chr ∈ mT := wAt_in (p := 3032) (by decide +kernel) rfl
theorem ji_chr : Cond.initialized "java/lang/String" ∈ mT := wAt_in (p := 1014) (by decide +kernel) rfl
theorem jp_chr : plainName "java/lang/String" = true := by decide +kernel
theorem jl_1059_pci : Cond.methodLink "java/lang/String" 1059 jY_pci ∈ mT := wAt_in (p := 3046) (by decide +kernel) rfl
theorem jl_9_sci : Cond.methodLink "java/lang/StringLatin1" 9 jY_sci ∈ mT := wAt_in (p := 3041) (by decide +kernel) rfl
theorem jl_495_lch : Cond.methodLink "java/lang/String" 495 jY_lch ∈ mT := wAt_in (p := 3038) (by decide +kernel) rfl
theorem jl_492_isl : Cond.methodLink "java/lang/String" 492 jY_isl ∈ mT := wAt_in (p := 3034) (by decide +kernel) rfl
theorem jl_335_cod : Cond.methodLink "java/lang/String" 335 jY_cod ∈ mT := wAt_in (p := 3024) (by decide +kernel) rfl
theorem jf_1053 : Cond.fieldLink "java/lang/String" 1053 "jdk/internal/util/Preconditions" "SIOOBE_FORMATTER" "Ljava/util/function/BiFunction;" ∈ mT := wAt_in (p := 3044) (by decide +kernel) rfl
theorem jf_38 : Cond.fieldLink "java/lang/String" 38 "java/lang/String" "COMPACT_STRINGS" "Z" ∈ mT := wAt_in (p := 3028) (by decide +kernel) rfl
theorem jf_9 : Cond.fieldLink "java/lang/String" 9 "java/lang/String" "value" "[B" ∈ mT := wAt_in (p := 9073) (by decide +kernel) rfl
theorem jf_15 : Cond.fieldLink "java/lang/String" 15 "java/lang/String" "coder" "B" ∈ mT := wAt_in (p := 9074) (by decide +kernel) rfl
def jTx : String := "candidate papers extra rest nights kept finish work busy waiting turn day paper taken plan if or and not "
def SKx (base : Nat) (sp : Nat → Nat) (U : State) : Prop := vk_R "ClashDay$Tape" 37 jTx (sp 1) U ∧ va_O "java/lang/String" (sp 1) (mA base) U U.heap ∧ va_OF "java/lang/String" "coder" "B" (.int 0) (sp 1) (mA base) U U.heap ∧ (∃ t, va_OF "java/lang/String" "value" "[B" (.ref t) (sp 1) (mA base) U U.heap ∧ va_T .byte t 105 (fun j => .int (Int32.ofNat (mTx.getD j 0))) (mA base) U U.heap) ∧ va_Z "java/lang/String" "COMPACT_STRINGS" "Z" (.int 1) (mA base) U U.heap ∧ va_Zq "jdk/internal/util/Preconditions" "SIOOBE_FORMATTER" "Ljava/util/function/BiFunction;" (mA base) U U.heap
theorem SKx_m {base : Nat} {sp : Nat → Nat} : SKm base (SKx base sp) := by
  intro U V hW hh h
  have hq : ∀ a : Nat, a < U.heap.size → ¬ mA base a → V.heap[a]? = U.heap[a]? := fun a _ ha => hh a (Nat.not_le.mp ha)
  obtain ⟨h1, h2, h3, ⟨t, h4, h5⟩, h6, h7⟩ := h
  exact ⟨vk_R.warm hW h1, (va_O.moved hW.alike h2).kept hq, (va_OF.moved hW.alike h3).kept hq, ⟨t, (va_OF.moved hW.alike h4).kept hq, (va_T.moved hW.alike h5).kept hq⟩, (va_Z.moved hW.alike h6).kept hq, (va_Zq.moved hW.alike h7).kept hq⟩
def PcJ (av : List Value) (P : State → Prop) : Array Value → State → Prop := fun v V => v = av.toArray ∧ P V
def QcJ (r : Option Value) : Array Value → State → Outcome → State → Prop := fun _ V oc t => oc = .returned r ∧ t.heap = V.heap
def rmJ (d : Nat) : Room := { frames := d, cells := 0, slots := 0, locals := 60 * d }
def MetJ (l : Launch) (y : MethodName) (b : ByteArray) (ml : Nat) (ret : Option FieldType) (d : Nat) (av : List Value) (P : State → Prop) (r : Option Value) : Prop := Met l y (Cond.code y b ml ret :: mT) (rmJ d) (PcJ av P) (QcJ r) 0 0 (fun _ => False)
theorem wsJ_good {y : MethodName} {b : ByteArray} {ml : Nat} {ret : Option FieldType} (h : Cond.code y b ml ret ∈ mT) : GoodIn mT (Cond.code y b ml ret :: mT) := by
  intro w hw
  rcases List.mem_cons.mp hw with rfl | hw
  · exact ⟨h, mT_good h⟩
  · exact ⟨hw, mT_good hw⟩
section RJ
variable {p : Program} {l : Launch} {e : Env} {R : Room} {U : State} {m : MethodId} {args : Array Value} {below : List Frame} {meth : Method} {c : Code} {Q : State → Prop} {H : Heap} {locs : List Loc} {cells slots pc : Nat} {rls : Array Slot} {rest : List Value} {base : Nat} {sp : Nat → Nat}
theorem W_callJ {st0 : List Value} {a : Array Value} {r : Option Value} (hr : va_Run p l e R U m args below meth c H locs cells slots 0 0 (F0 m pc rls st0) rest (QcJ r a) (fun _ => False)) (kk : W p l e R U m args below meth c H locs cells slots Q (F0 m (pc + 3) rls (r.toList ++ rest))) : W p l e R U m args below meth c H locs cells slots Q (F0 m pc rls st0) := by
  intro T hT X
  obtain ⟨v, st₀, t, T', L, h0, X', hL, e1, e2, ⟨hv, hh⟩, stp⟩ := hr T hT X
  cases hv
  have hLn : L = [] := List.eq_nil_iff_forall_not_mem.mpr hL
  subst hLn
  rw [List.append_nil] at X'
  obtain ⟨t2, a1, b1⟩ := kk T' (by rw [e1, hh, h0]) X'
  exact ⟨t2, stp t2 a1, b1⟩
theorem preJ {av : List Value} {P : State → Prop} (hb : ∀ (V : State) (g : JFrame) (mk : MethodId) (a : Array Value), P V → P (V.calling g mk a)) (hP : ∀ V : State, V.heap = H → U.WarmedH V.vm → P V) : PreS U H (PcJ av P) av :=
  ⟨fun a V g mk q => ⟨q.1, hb V g mk a q.2⟩, fun V hV hW => ⟨rfl, hP V hV hW⟩⟩
theorem w_jS (hx : p.tables.exec = Jvm.exec) {cc : ByteArray} (hb : c.code = cc) {nL : Nat} (hml : c.maxLocals = nL) {own : String} (hown : U.vm.findClass own = some m.cls) (hts : ∀ w ∈ mT, w.before args U = true) {d : Nat} (hR : d + 1 ≤ R.frames ∧ 60 * (d + 1) ≤ R.locals) {y : MethodName} {b : ByteArray} {ml : Nat} {ret : Option FieldType} {av : List Value} {P : State → Prop} {r : Option Value} (hM : MetJ l y b ml ret d av P r) (hco : Cond.code y b ml ret ∈ mT) (hst : Cond.static y ∈ mT) (hin : Cond.initialized y.cls ∈ mT) {idx : Nat} (hlk : Cond.methodLink own idx y ∈ mT) (hy : y.cls ≠ "java/lang/invoke/MethodHandle" ∧ y.cls ≠ "java/lang/invoke/VarHandle") (hpar : (parseMethodDescriptor y.desc).map (fun d => d.parameters.length) = some av.length) (hmx : ml ≤ 40) (hbl : ∀ (V : State) (g : JFrame) (mk : MethodId) (a : Array Value), P V → P (V.calling g mk a)) (hP : ∀ V : State, V.heap = H → U.WarmedH V.vm → P V) (hsz : rls.size = nL) (hw : (rest.map fun v => v.category).sum ≤ 8) (hce : cells ≤ R.cells ∧ slots ≤ R.slots) (hd : decode cc pc = .ok (.invokestatic idx, 3))
    (kk : W p l e R U m args below meth c H locs cells slots Q (F0 m (pc + 3) rls (r.toList ++ rest))) : W p l e R U m args below meth c H locs cells slots Q (F0 m pc rls (av.reverse ++ rest)) := by
  have hcb := callB_of (own := own) (index := idx) av.length hts (wsJ_good hco) (ws' := mT) rfl (rm := rmJ d) (R := R) (mc := 0) (ms := 0) rfl rfl (hts _ hin) (hts _ hlk) ⟨hy.1, hy.2, hpar⟩ ⟨hR.1, by have := hR.2; show 8 + (ml + 11) + 60 * d ≤ _; omega⟩
  exact W_callJ (va_runS (nL := nL) ⟨hx, hb, hml, hown, hts⟩ hM ⟨hcb, hts _ hst⟩ (preJ hbl hP) rfl rfl hsz rfl (by show 2 * 0 + _ ≤ 8; omega) hd ⟨by omega, by omega⟩) kk
theorem w_jV (hx : p.tables.exec = Jvm.exec) {cc : ByteArray} (hb : c.code = cc) {nL : Nat} (hml : c.maxLocals = nL) {own : String} (hown : U.vm.findClass own = some m.cls) (hts : ∀ w ∈ mT, w.before args U = true) {d : Nat} (hR : d + 1 ≤ R.frames ∧ 60 * (d + 1) ≤ R.locals) {y : MethodName} {b : ByteArray} {ml : Nat} {ret : Option FieldType} {q : Nat} {av : List Value} {P : State → Prop} {r : Option Value} (hM : MetJ l y b ml ret d (.ref q :: av) P r) (hco : Cond.code y b ml ret ∈ mT) (hst : Cond.instanceMethod y ∈ mT) (hse : Cond.selects y.cls y y ∈ mT) (hin : Cond.initialized y.cls ∈ mT) {idx : Nat} (hlk : Cond.methodLink own idx y ∈ mT) (hy : y.cls ≠ "java/lang/invoke/MethodHandle" ∧ y.cls ≠ "java/lang/invoke/VarHandle") (hpar : (parseMethodDescriptor y.desc).map (fun d => d.parameters.length) = some av.length) (hmx : ml ≤ 40) (hbl : ∀ (V : State) (g : JFrame) (mk : MethodId) (a : Array Value), P V → P (V.calling g mk a)) (hP : ∀ V : State, V.heap = H → U.WarmedH V.vm → P V) (hrc : ∃ cell : Cell, H[q]? = some cell ∧ cell.vm.isStatics = false ∧ U.vm.findClass y.cls = some cell.cls) (hsz : rls.size = nL) (hw : (rest.map fun v => v.category).sum ≤ 8) (hce : cells ≤ R.cells ∧ slots ≤ R.slots) (hd : decode cc pc = .ok (.invokevirtual idx, 3))
    (kk : W p l e R U m args below meth c H locs cells slots Q (F0 m (pc + 3) rls (r.toList ++ rest))) : W p l e R U m args below meth c H locs cells slots Q (F0 m pc rls (av.reverse ++ .ref q :: rest)) := by
  have hcb := callB_of (own := own) (index := idx) av.length hts (wsJ_good hco) (ws' := mT) rfl (rm := rmJ d) (R := R) (mc := 0) (ms := 0) rfl rfl (hts _ hin) (hts _ hlk) ⟨hy.1, hy.2, hpar⟩ ⟨hR.1, by have := hR.2; show 8 + (ml + 11) + 60 * d ≤ _; omega⟩
  exact W_callJ (va_runV (nL := nL) (As := av) (b := q) ⟨hx, hb, hml, hown, hts⟩ hM ⟨hcb, hts _ hst, hts _ hse⟩ ⟨(preJ (av := .ref q :: av) hbl hP).1, hrc, (preJ (av := .ref q :: av) hbl hP).2⟩ rfl rfl hsz rfl (by show 2 * 0 + _ ≤ 8; omega) hd ⟨by omega, by omega⟩) kk
end RJ
theorem SKx_c {base : Nat} {sp : Nat → Nat} (V : State) (g : JFrame) (mk : MethodId) (a : Array Value) (h : SKx base sp V) : SKx base sp (V.calling g mk a) := SKx_m V (V.calling g mk a) (State.WarmedH.refl V) (fun _ _ => rfl) h
theorem fin0 : ∀ q ∈ ([] : List Loc), (fun _ : Addr => False) q.base := fun q h => by cases h
theorem jd_pci_0 : decode jB_pci 0 = .ok (.iload_n 0, 1) := by decide +kernel
theorem jd_pci_1 : decode jB_pci 1 = .ok (.ifCond .lt 8, 3) := by decide +kernel
theorem jd_pci_4 : decode jB_pci 4 = .ok (.iload_n 0, 1) := by decide +kernel
theorem jd_pci_5 : decode jB_pci 5 = .ok (.iload_n 1, 1) := by decide +kernel
theorem jd_pci_6 : decode jB_pci 6 = .ok (.if_icmp .lt 10, 3) := by decide +kernel
theorem jd_pci_16 : decode jB_pci 16 = .ok (.iload_n 0, 1) := by decide +kernel
theorem jd_pci_17 : decode jB_pci 17 = .ok (.ireturn, 1) := by decide +kernel
theorem jd_sci_0 : decode jB_sci 0 = .ok (.iload_n 0, 1) := by decide +kernel
theorem jd_sci_1 : decode jB_sci 1 = .ok (.iload_n 1, 1) := by decide +kernel
theorem jd_sci_2 : decode jB_sci 2 = .ok (.getstatic 1053, 3) := by decide +kernel
theorem jd_sci_5 : decode jB_sci 5 = .ok (.invokestatic 1059, 3) := by decide +kernel
theorem jd_sci_8 : decode jB_sci 8 = .ok (.pop, 1) := by decide +kernel
theorem jd_sci_9 : decode jB_sci 9 = .ok (.return_, 1) := by decide +kernel
theorem jd_lch_0 : decode jB_lch 0 = .ok (.iload_n 1, 1) := by decide +kernel
theorem jd_lch_1 : decode jB_lch 1 = .ok (.aload_n 0, 1) := by decide +kernel
theorem jd_lch_2 : decode jB_lch 2 = .ok (.arraylength, 1) := by decide +kernel
theorem jd_lch_3 : decode jB_lch 3 = .ok (.invokestatic 9, 3) := by decide +kernel
theorem jd_lch_6 : decode jB_lch 6 = .ok (.aload_n 0, 1) := by decide +kernel
theorem jd_lch_7 : decode jB_lch 7 = .ok (.iload_n 1, 1) := by decide +kernel
theorem jd_lch_8 : decode jB_lch 8 = .ok (.baload, 1) := by decide +kernel
theorem jd_lch_9 : decode jB_lch 9 = .ok (.sipush 255, 3) := by decide +kernel
theorem jd_lch_12 : decode jB_lch 12 = .ok (.iand, 1) := by decide +kernel
theorem jd_lch_13 : decode jB_lch 13 = .ok (.i2c, 1) := by decide +kernel
theorem jd_lch_14 : decode jB_lch 14 = .ok (.ireturn, 1) := by decide +kernel
theorem jd_isl_0 : decode jB_isl 0 = .ok (.getstatic 38, 3) := by decide +kernel
theorem jd_isl_3 : decode jB_isl 3 = .ok (.ifCond .eq 14, 3) := by decide +kernel
theorem jd_isl_6 : decode jB_isl 6 = .ok (.aload_n 0, 1) := by decide +kernel
theorem jd_isl_7 : decode jB_isl 7 = .ok (.getfield 15, 3) := by decide +kernel
theorem jd_isl_10 : decode jB_isl 10 = .ok (.ifCond .ne 7, 3) := by decide +kernel
theorem jd_isl_13 : decode jB_isl 13 = .ok (.iconst 1, 1) := by decide +kernel
theorem jd_isl_14 : decode jB_isl 14 = .ok (.goto 4, 3) := by decide +kernel
theorem jd_isl_18 : decode jB_isl 18 = .ok (.ireturn, 1) := by decide +kernel
theorem jd_cod_0 : decode jB_cod 0 = .ok (.getstatic 38, 3) := by decide +kernel
theorem jd_cod_3 : decode jB_cod 3 = .ok (.ifCond .eq 10, 3) := by decide +kernel
theorem jd_cod_6 : decode jB_cod 6 = .ok (.aload_n 0, 1) := by decide +kernel
theorem jd_cod_7 : decode jB_cod 7 = .ok (.getfield 15, 3) := by decide +kernel
theorem jd_cod_10 : decode jB_cod 10 = .ok (.goto 4, 3) := by decide +kernel
theorem jd_cod_14 : decode jB_cod 14 = .ok (.ireturn, 1) := by decide +kernel
theorem jd_len_0 : decode jB_len 0 = .ok (.aload_n 0, 1) := by decide +kernel
theorem jd_len_1 : decode jB_len 1 = .ok (.getfield 9, 3) := by decide +kernel
theorem jd_len_4 : decode jB_len 4 = .ok (.arraylength, 1) := by decide +kernel
theorem jd_len_5 : decode jB_len 5 = .ok (.aload_n 0, 1) := by decide +kernel
theorem jd_len_6 : decode jB_len 6 = .ok (.invokevirtual 335, 3) := by decide +kernel
theorem jd_len_9 : decode jB_len 9 = .ok (.ishr, 1) := by decide +kernel
theorem jd_len_10 : decode jB_len 10 = .ok (.ireturn, 1) := by decide +kernel
theorem jd_chr_0 : decode jB_chr 0 = .ok (.aload_n 0, 1) := by decide +kernel
theorem jd_chr_1 : decode jB_chr 1 = .ok (.invokevirtual 492, 3) := by decide +kernel
theorem jd_chr_4 : decode jB_chr 4 = .ok (.ifCond .eq 12, 3) := by decide +kernel
theorem jd_chr_7 : decode jB_chr 7 = .ok (.aload_n 0, 1) := by decide +kernel
theorem jd_chr_8 : decode jB_chr 8 = .ok (.getfield 9, 3) := by decide +kernel
theorem jd_chr_11 : decode jB_chr 11 = .ok (.iload_n 1, 1) := by decide +kernel
theorem jd_chr_12 : decode jB_chr 12 = .ok (.invokestatic 495, 3) := by decide +kernel
theorem jd_chr_15 : decode jB_chr 15 = .ok (.ireturn, 1) := by decide +kernel
theorem tx_ok : ∀ j, j < 105 → ((Int32.ofNat (mTx.getD j 0) &&& 255).toUInt32 % 65536).toInt32 = Int32.ofInt (mTx.getD j 0 : Nat) ∧ narrow .char (.int (Int32.ofInt (mTx.getD j 0 : Nat))) = .int (Int32.ofInt (mTx.getD j 0 : Nat)) := by decide +kernel
theorem m_pci (l : Launch) (d : Nat) {i n : Int} (hi : 0 ≤ i ∧ i < n ∧ n ≤ 105) {f : Option Nat} : MetJ l jY_pci jB_pci 3 (some .int) d [.int (Int32.ofInt i), .int (Int32.ofInt n), va_rf f] (fun _ => True) (some (.int (Int32.ofInt i))) := by
  refine Met.ofW (cc := jB_pci) (maxL := 3) (ret := some .int) jp_pci rfl ?_
  intro p e U m args below meth c s₁ Bd hml hpre
  obtain ⟨rfl, hP⟩ := hpre
  have hts0 := atoms_spec (ws := Cond.code jY_pci jB_pci 3 (some .int) :: mT) Bd.pre
  have hts : ∀ w ∈ mT, w.before [Value.int (Int32.ofInt i), Value.int (Int32.ofInt n), va_rf f].toArray U = true := fun w hw => hts0 w (List.mem_cons_of_mem _ hw)
  have hown : U.vm.findClass "jdk/internal/util/Preconditions" = some m.cls := findClass_of_methodNamed Bd.named
  have hx := Bd.exec
  have hb := Bd.bytes
  have hr := Bd.returns
  have hk := Bd.notSynchronized
  have hl := lv_entry ([Value.int (Int32.ofInt i), Value.int (Int32.ofInt n), va_rf f]) (n := 3) (by cases f <;> exact Nat.le_of_ble_eq_true rfl)
  rw [lg_entry_eq]
  generalize (lg_sl ([Value.int (Int32.ofInt i), Value.int (Int32.ofInt n), va_rf f]) ++ List.replicate (3 - (lg_sl ([Value.int (Int32.ofInt i), Value.int (Int32.ofInt n), va_rf f])).length) Slot.unset).toArray = ls at hl ⊢
  have hl : lv_has ls 3 [(0, .int (Int32.ofInt i)), (1, .int (Int32.ofInt n)), (2, va_rf f)] := by cases f <;> exact hl
  have ri : nr32 i := by unfold nr32; omega
  have rn : nr32 n := by unfold nr32; omega
  refine lv_iload_n hx hb jd_pci_0 rfl (lv_at hl 0 rfl) ?_
  refine lv_if_lt (tgt := 9) hx hb jd_pci_1 (by decide) (fun q => ?_) (fun _ => ?_)
  · rw [z32, q_lt ri nr_0] at q; omega
  refine lv_iload_n hx hb jd_pci_4 rfl (lv_at hl 0 rfl) ?_
  refine lv_iload_n hx hb jd_pci_5 rfl (lv_at hl 1 rfl) ?_
  refine lv_icmp_lt (tgt := 16) hx hb jd_pci_6 (by decide) (fun _ => ?_) (fun q => ?_)
  · refine lv_iload_n hx hb jd_pci_16 rfl (lv_at hl 0 rfl) ?_
    exact W.iret hx hb hr (fun t ht _ => ⟨rfl, ht⟩) fin0 jd_pci_17 hk
  · rw [q_lt ri rn] at q; omega
theorem m_sci (l : Launch) (d : Nat) {base : Nat} {sp : Nat → Nat} {i n : Int} (hi : 0 ≤ i ∧ i < n ∧ n ≤ 105) : MetJ l jY_sci jB_sci 2 none (d + 1) [.int (Int32.ofInt i), .int (Int32.ofInt n)] (SKx base sp) none := by
  refine Met.ofW (cc := jB_sci) (maxL := 2) (ret := none) jp_sci rfl ?_
  intro p e U m args below meth c s₁ Bd hml hpre
  obtain ⟨rfl, hP⟩ := hpre
  have hts0 := atoms_spec (ws := Cond.code jY_sci jB_sci 2 (none) :: mT) Bd.pre
  have hts : ∀ w ∈ mT, w.before [Value.int (Int32.ofInt i), Value.int (Int32.ofInt n)].toArray U = true := fun w hw => hts0 w (List.mem_cons_of_mem _ hw)
  have hown : U.vm.findClass "java/lang/String" = some m.cls := findClass_of_methodNamed Bd.named
  have hx := Bd.exec
  have hb := Bd.bytes
  have hr := Bd.returns
  have hk := Bd.notSynchronized
  have hl := lv_entry ([Value.int (Int32.ofInt i), Value.int (Int32.ofInt n)]) (n := 2) (Nat.le_of_ble_eq_true rfl)
  rw [lg_entry_eq]
  generalize (lg_sl ([Value.int (Int32.ofInt i), Value.int (Int32.ofInt n)]) ++ List.replicate (2 - (lg_sl ([Value.int (Int32.ofInt i), Value.int (Int32.ofInt n)])).length) Slot.unset).toArray = ls at hl ⊢
  have hl : lv_has ls 2 [(0, .int (Int32.ofInt i)), (1, .int (Int32.ofInt n))] := hl
  refine lv_iload_n hx hb jd_sci_0 rfl (lv_at hl 0 rfl) ?_
  refine lv_iload_n hx hb jd_sci_1 rfl (lv_at hl 1 rfl) ?_
  have key : ∀ f : Option Nat, va_Z "jdk/internal/util/Preconditions" "SIOOBE_FORMATTER" "Ljava/util/function/BiFunction;" (va_rf f) (mA base) U U.heap → W p l e (headSpec (Cond.code jY_sci jB_sci 2 none :: mT) (rmJ (d + 1))).room U m [Value.int (Int32.ofInt i), Value.int (Int32.ofInt n)].toArray below meth c U.heap [] 0 0 (MQ below (QcJ none) [Value.int (Int32.ofInt i), Value.int (Int32.ofInt n)].toArray U 0 0 (fun _ => False)) (F0 m 2 ls [.int (Int32.ofInt n), .int (Int32.ofInt i)]) := by
    intro f hf
    refine va_gets hx hb hf va_S.rf hown (hts _ jf_1053) (fun x h => h) jd_sci_2 ?_
    refine w_jS (rest := []) (av := [.int (Int32.ofInt i), .int (Int32.ofInt n), va_rf f]) hx hb hml hown hts (d := d) ⟨Nat.le_refl _, Nat.le_refl _⟩ (m_pci l d hi (f := f)) jc_pci js_pci ji_pci jl_1059_pci ⟨by decide, by decide⟩ (show (parseMethodDescriptor jY_pci.desc).map (fun d => d.parameters.length) = some 3 by decide +kernel) (by decide) (fun _ _ _ _ _ => trivial) (fun _ _ _ => trivial) hl.1 (by decide) ⟨Nat.zero_le _, Nat.zero_le _⟩ jd_sci_5 ?_
    refine lv_pop hx hb jd_sci_8 rfl ?_
    exact W.vret hx hb hr (fun t ht _ => ⟨rfl, ht⟩) fin0 jd_sci_9 hk
  rcases hP.2.2.2.2.2 with h | ⟨t, h⟩
  · exact key none h
  · exact key (some t) h
theorem m_lch (l : Launch) (d : Nat) {base : Nat} {sp : Nat → Nat} {i : Int} (hi : 0 ≤ i ∧ i < 105) {t : Nat} : MetJ l jY_lch jB_lch 2 (some .char) (d + 2) [.ref t, .int (Int32.ofInt i)] (fun V => SKx base sp V ∧ va_T .byte t 105 (fun j => .int (Int32.ofNat (mTx.getD j 0))) (mA base) V V.heap) (some (.int (Int32.ofInt (mTx.getD i.toNat 0 : Nat)))) := by
  refine Met.ofW (cc := jB_lch) (maxL := 2) (ret := some .char) jp_lch rfl ?_
  intro p e U m args below meth c s₁ Bd hml hpre
  obtain ⟨rfl, hP⟩ := hpre
  have hts0 := atoms_spec (ws := Cond.code jY_lch jB_lch 2 (some .char) :: mT) Bd.pre
  have hts : ∀ w ∈ mT, w.before [Value.ref t, Value.int (Int32.ofInt i)].toArray U = true := fun w hw => hts0 w (List.mem_cons_of_mem _ hw)
  have hown : U.vm.findClass "java/lang/StringLatin1" = some m.cls := findClass_of_methodNamed Bd.named
  have hx := Bd.exec
  have hb := Bd.bytes
  have hr := Bd.returns
  have hk := Bd.notSynchronized
  have hl := lv_entry ([Value.ref t, Value.int (Int32.ofInt i)]) (n := 2) (Nat.le_of_ble_eq_true rfl)
  rw [lg_entry_eq]
  generalize (lg_sl ([Value.ref t, Value.int (Int32.ofInt i)]) ++ List.replicate (2 - (lg_sl ([Value.ref t, Value.int (Int32.ofInt i)])).length) Slot.unset).toArray = ls at hl ⊢
  have hl : lv_has ls 2 [(0, .ref t), (1, .int (Int32.ofInt i))] := hl
  have ix := q_ix (j := i) (n := 105) hi (by decide)
  have hch := tx_ok i.toNat (by omega)
  refine lv_iload_n hx hb jd_lch_0 rfl (lv_at hl 1 rfl) ?_
  refine lv_aload_n hx hb jd_lch_1 rfl (lv_at hl 0 rfl) ?_
  refine va_tlen (v := Int32.ofInt 105) hx hb hP.2 va_S.rf rfl jd_lch_2 ?_
  refine w_jS (rest := []) (av := [.int (Int32.ofInt i), .int (Int32.ofInt 105)]) hx hb hml hown hts (d := d + 1) ⟨Nat.le_refl _, Nat.le_refl _⟩ (m_sci l d (base := base) (sp := sp) (i := i) (n := 105) ⟨hi.1, hi.2, Int.le_refl _⟩) jc_sci js_sci ji_sci jl_9_sci ⟨by decide, by decide⟩ (show (parseMethodDescriptor jY_sci.desc).map (fun d => d.parameters.length) = some 2 by decide +kernel) (by decide) SKx_c (fun V hV hW => SKx_m U V hW (fun q _ => by rw [hV]) hP.1) hl.1 (by decide) ⟨Nat.zero_le _, Nat.zero_le _⟩ jd_lch_3 ?_
  refine lv_aload_n hx hb jd_lch_6 rfl (lv_at hl 0 rfl) ?_
  refine lv_iload_n hx hb jd_lch_7 rfl (lv_at hl 1 rfl) ?_
  refine va_tb hx hb hP.2 va_S.rf ix.1 rfl jd_lch_8 ?_
  rw [ix.2]
  refine lv_sipush (v := 255) hx hb jd_lch_9 (by decide) ?_
  refine lv_iand hx hb jd_lch_12 ?_
  refine lv_i2c hx hb jd_lch_13 hch.1 ?_
  exact W.zret hx hb hr hch.2 (fun t ht _ => ⟨rfl, ht⟩) fin0 jd_lch_14 hk
theorem m_isl (l : Launch) (d : Nat) {base : Nat} {sp : Nat → Nat} : MetJ l jY_isl jB_isl 1 (some .boolean) d [.ref (sp 1)] (SKx base sp) (some (.int 1)) := by
  refine Met.ofW (cc := jB_isl) (maxL := 1) (ret := some .boolean) jp_isl rfl ?_
  intro p e U m args below meth c s₁ Bd hml hpre
  obtain ⟨rfl, hP⟩ := hpre
  have hts0 := atoms_spec (ws := Cond.code jY_isl jB_isl 1 (some .boolean) :: mT) Bd.pre
  have hts : ∀ w ∈ mT, w.before [Value.ref (sp 1)].toArray U = true := fun w hw => hts0 w (List.mem_cons_of_mem _ hw)
  have hown : U.vm.findClass "java/lang/String" = some m.cls := findClass_of_methodNamed Bd.named
  have hx := Bd.exec
  have hb := Bd.bytes
  have hr := Bd.returns
  have hk := Bd.notSynchronized
  have hl := lv_entry ([Value.ref (sp 1)]) (n := 1) (Nat.le_of_ble_eq_true rfl)
  rw [lg_entry_eq]
  generalize (lg_sl ([Value.ref (sp 1)]) ++ List.replicate (1 - (lg_sl ([Value.ref (sp 1)])).length) Slot.unset).toArray = ls at hl ⊢
  have hl : lv_has ls 1 [(0, .ref (sp 1))] := hl
  obtain ⟨-, -, h3, -, h6, -⟩ := hP
  refine va_gets hx hb h6 va_S.rf hown (hts _ jf_38) (fun x h => h) jd_isl_0 ?_
  refine lv_if_eq (tgt := 17) hx hb jd_isl_3 (by decide) (fun q => absurd q (by decide)) (fun _ => ?_)
  refine lv_aload_n hx hb jd_isl_6 rfl (lv_at hl 0 rfl) ?_
  refine vk_getf hx hb h3 va_S.rf hown (hts _ jf_15) (fun x h => h) jd_isl_7 ?_
  refine lv_if_ne (tgt := 17) hx hb jd_isl_10 (by decide) (fun q => absurd rfl q) (fun _ => ?_)
  refine lv_iconst (v := 1) hx hb jd_isl_13 (by decide) ?_
  refine lv_goto (tgt := 18) hx hb jd_isl_14 (by decide) ?_
  exact W.zret hx hb hr rfl (fun t ht _ => ⟨rfl, ht⟩) fin0 jd_isl_18 hk
theorem m_cod (l : Launch) (d : Nat) {base : Nat} {sp : Nat → Nat} : MetJ l jY_cod jB_cod 1 (some .byte) d [.ref (sp 1)] (SKx base sp) (some (.int 0)) := by
  refine Met.ofW (cc := jB_cod) (maxL := 1) (ret := some .byte) jp_cod rfl ?_
  intro p e U m args below meth c s₁ Bd hml hpre
  obtain ⟨rfl, hP⟩ := hpre
  have hts0 := atoms_spec (ws := Cond.code jY_cod jB_cod 1 (some .byte) :: mT) Bd.pre
  have hts : ∀ w ∈ mT, w.before [Value.ref (sp 1)].toArray U = true := fun w hw => hts0 w (List.mem_cons_of_mem _ hw)
  have hown : U.vm.findClass "java/lang/String" = some m.cls := findClass_of_methodNamed Bd.named
  have hx := Bd.exec
  have hb := Bd.bytes
  have hr := Bd.returns
  have hk := Bd.notSynchronized
  have hl := lv_entry ([Value.ref (sp 1)]) (n := 1) (Nat.le_of_ble_eq_true rfl)
  rw [lg_entry_eq]
  generalize (lg_sl ([Value.ref (sp 1)]) ++ List.replicate (1 - (lg_sl ([Value.ref (sp 1)])).length) Slot.unset).toArray = ls at hl ⊢
  have hl : lv_has ls 1 [(0, .ref (sp 1))] := hl
  obtain ⟨-, -, h3, -, h6, -⟩ := hP
  refine va_gets hx hb h6 va_S.rf hown (hts _ jf_38) (fun x h => h) jd_cod_0 ?_
  refine lv_if_eq (tgt := 13) hx hb jd_cod_3 (by decide) (fun q => absurd q (by decide)) (fun _ => ?_)
  refine lv_aload_n hx hb jd_cod_6 rfl (lv_at hl 0 rfl) ?_
  refine vk_getf hx hb h3 va_S.rf hown (hts _ jf_15) (fun x h => h) jd_cod_7 ?_
  refine lv_goto (tgt := 14) hx hb jd_cod_10 (by decide) ?_
  exact W.zret hx hb hr rfl (fun t ht _ => ⟨rfl, ht⟩) fin0 jd_cod_14 hk
theorem m_len (l : Launch) (d : Nat) {base : Nat} {sp : Nat → Nat} : MetJ l jY_len jB_len 1 (some .int) (d + 1) [.ref (sp 1)] (SKx base sp) (some (.int (Int32.ofInt 105))) := by
  refine Met.ofW (cc := jB_len) (maxL := 1) (ret := some .int) jp_len rfl ?_
  intro p e U m args below meth c s₁ Bd hml hpre
  obtain ⟨rfl, hP⟩ := hpre
  have hts0 := atoms_spec (ws := Cond.code jY_len jB_len 1 (some .int) :: mT) Bd.pre
  have hts : ∀ w ∈ mT, w.before [Value.ref (sp 1)].toArray U = true := fun w hw => hts0 w (List.mem_cons_of_mem _ hw)
  have hown : U.vm.findClass "java/lang/String" = some m.cls := findClass_of_methodNamed Bd.named
  have hx := Bd.exec
  have hb := Bd.bytes
  have hr := Bd.returns
  have hk := Bd.notSynchronized
  have hl := lv_entry ([Value.ref (sp 1)]) (n := 1) (Nat.le_of_ble_eq_true rfl)
  rw [lg_entry_eq]
  generalize (lg_sl ([Value.ref (sp 1)]) ++ List.replicate (1 - (lg_sl ([Value.ref (sp 1)])).length) Slot.unset).toArray = ls at hl ⊢
  have hl : lv_has ls 1 [(0, .ref (sp 1))] := hl
  have hP0 := hP
  obtain ⟨-, h2, h3, ⟨t, h4, h5⟩, h6, -⟩ := hP
  refine lv_aload_n hx hb jd_len_0 rfl (lv_at hl 0 rfl) ?_
  refine vk_getf hx hb h4 va_S.rf hown (hts _ jf_9) (fun x h => h) jd_len_1 ?_
  refine va_tlen (v := Int32.ofInt 105) hx hb h5 va_S.rf rfl jd_len_4 ?_
  refine lv_aload_n hx hb jd_len_5 rfl (lv_at hl 0 rfl) ?_
  obtain ⟨cell, g1, g2, g3, -⟩ := h2
  refine w_jV (rest := [.int (Int32.ofInt 105)]) (av := []) hx hb hml hown hts (d := d) ⟨Nat.le_refl _, Nat.le_refl _⟩ (m_cod l d (base := base) (sp := sp)) jc_cod js_cod jv_cod ji_cod jl_335_cod ⟨by decide, by decide⟩ (show (parseMethodDescriptor jY_cod.desc).map (fun d => d.parameters.length) = some 0 by decide +kernel) (by decide) SKx_c (fun V hV hW => SKx_m U V hW (fun q _ => by rw [hV]) hP0) ⟨cell, g1, g2, g3⟩ hl.1 (by decide) ⟨Nat.zero_le _, Nat.zero_le _⟩ jd_len_6 ?_
  refine lv_ishr hx hb jd_len_9 ?_
  exact W.iret hx hb hr (fun t ht _ => ⟨rfl, ht⟩) fin0 jd_len_10 hk
theorem m_chr (l : Launch) (d : Nat) {base : Nat} {sp : Nat → Nat} {i : Int} (hi : 0 ≤ i ∧ i < 105) : MetJ l jY_chr jB_chr 2 (some .char) (d + 3) [.ref (sp 1), .int (Int32.ofInt i)] (SKx base sp) (some (.int (Int32.ofInt (mTx.getD i.toNat 0 : Nat)))) := by
  refine Met.ofW (cc := jB_chr) (maxL := 2) (ret := some .char) jp_chr rfl ?_
  intro p e U m args below meth c s₁ Bd hml hpre
  obtain ⟨rfl, hP⟩ := hpre
  have hts0 := atoms_spec (ws := Cond.code jY_chr jB_chr 2 (some .char) :: mT) Bd.pre
  have hts : ∀ w ∈ mT, w.before [Value.ref (sp 1), Value.int (Int32.ofInt i)].toArray U = true := fun w hw => hts0 w (List.mem_cons_of_mem _ hw)
  have hown : U.vm.findClass "java/lang/String" = some m.cls := findClass_of_methodNamed Bd.named
  have hx := Bd.exec
  have hb := Bd.bytes
  have hr := Bd.returns
  have hk := Bd.notSynchronized
  have hl := lv_entry ([Value.ref (sp 1), Value.int (Int32.ofInt i)]) (n := 2) (Nat.le_of_ble_eq_true rfl)
  rw [lg_entry_eq]
  generalize (lg_sl ([Value.ref (sp 1), Value.int (Int32.ofInt i)]) ++ List.replicate (2 - (lg_sl ([Value.ref (sp 1), Value.int (Int32.ofInt i)])).length) Slot.unset).toArray = ls at hl ⊢
  have hl : lv_has ls 2 [(0, .ref (sp 1)), (1, .int (Int32.ofInt i))] := hl
  have hP0 := hP
  obtain ⟨-, h2, h3, ⟨t, h4, h5⟩, h6, -⟩ := hP
  have hch := tx_ok i.toNat (by omega)
  obtain ⟨cell, g1, g2, g3, -⟩ := h2
  refine lv_aload_n hx hb jd_chr_0 rfl (lv_at hl 0 rfl) ?_
  refine w_jV (rest := []) (av := []) hx hb hml hown hts (d := d + 2) ⟨Nat.le_refl _, Nat.le_refl _⟩ (m_isl l (d + 2) (base := base) (sp := sp)) jc_isl js_isl jv_isl ji_isl jl_492_isl ⟨by decide, by decide⟩ (show (parseMethodDescriptor jY_isl.desc).map (fun d => d.parameters.length) = some 0 by decide +kernel) (by decide) SKx_c (fun V hV hW => SKx_m U V hW (fun q _ => by rw [hV]) hP0) ⟨cell, g1, g2, g3⟩ hl.1 (by decide) ⟨Nat.zero_le _, Nat.zero_le _⟩ jd_chr_1 ?_
  refine lv_if_eq (tgt := 16) hx hb jd_chr_4 (by decide) (fun q => absurd q (by decide)) (fun _ => ?_)
  refine lv_aload_n hx hb jd_chr_7 rfl (lv_at hl 0 rfl) ?_
  refine vk_getf hx hb h4 va_S.rf hown (hts _ jf_9) (fun x h => h) jd_chr_8 ?_
  refine lv_iload_n hx hb jd_chr_11 rfl (lv_at hl 1 rfl) ?_
  refine w_jS (rest := []) (av := [.ref t, .int (Int32.ofInt i)]) hx hb hml hown hts (d := d + 2) ⟨Nat.le_refl _, Nat.le_refl _⟩ (m_lch l d (base := base) (sp := sp) hi (t := t)) jc_lch js_lch ji_lch jl_495_lch ⟨by decide, by decide⟩ (show (parseMethodDescriptor jY_lch.desc).map (fun d => d.parameters.length) = some 2 by decide +kernel) (by decide) (fun V g mk a q => ⟨SKx_c V g mk a q.1, va_T.moved (u := V) (U := V.calling g mk a) (Vm.Alike.refl V.vm) q.2⟩) (fun V hV hW => ⟨SKx_m U V hW (fun q _ => by rw [hV]) hP0, by rw [hV]; exact va_T.moved hW.alike h5⟩) hl.1 (by decide) ⟨Nat.zero_le _, Nat.zero_le _⟩ jd_chr_12 ?_
  exact W.zret hx hb hr hch.2 (fun t ht _ => ⟨rfl, ht⟩) fin0 jd_chr_15 hk
theorem tx_lt : ∀ j, j < 105 → mTx.getD j 0 < 256 := by decide +kernel
theorem STR_all (l : Launch) {base : Nat} {sp : Nat → Nat} {D : va_G} {dA : Nat → ClassId} : STR l base sp D dA (SKx base sp) := by
  intro p e R U m args below meth c Q mi B n0 bud pc ls st S s hm hcl F hE hU hB
  have hown : U.vm.findClass "ClashDay$Tape" = some m.cls := hcl ▸ F.2.2.2.1
  have hsk := hE.2.2.2
  have hbU : base ≤ U.heap.size := by omega
  refine ⟨fun hd h => ?_, fun idx hR hw hlk hd h => ?_, fun idx j hR hw hj hlk hd h => ?_⟩
  · intro H locs cells slots rls hv hl hn hc hz
    refine va_ldcS F.1 F.2.1 hown hsk.1 hd ?_
    exact h H locs cells slots rls hv hl ⟨trivial, hn⟩ hc hz
  · intro H locs cells slots rls hv hl hn hc hz
    have hkp : ∀ q : Nat, q < base → H[q]? = U.heap[q]? := fun q hq => hv.2.1.2.1 q (by omega) (by show ¬ base ≤ q; omega)
    have hO := hsk.2.1.kept (H1 := H) (fun a _ ha => hkp a (Nat.not_le.mp ha))
    obtain ⟨cell, g1, g2, g3, -⟩ := hO
    refine w_jV (rest := st.map (mUp base sp)) (av := []) F.1 F.2.1 (F.2.2.1) hown F.2.2.2.2.1 (d := 4) ⟨hR.1, hR.2⟩ (m_len l 3 (base := base) (sp := sp)) jc_len js_len jv_len ji_len hlk ⟨by decide, by decide⟩ (show (parseMethodDescriptor jY_len.desc).map (fun d => d.parameters.length) = some 0 by decide +kernel) (by decide) SKx_c (fun V hV hW => SKx_m U V hW (fun q hq => by rw [hV]; exact hkp q hq) hsk) ⟨cell, g1, g2, g3⟩ hl.2.1 (by rw [sW_eq]; exact hw) ⟨by omega, by omega⟩ hd ?_
    exact h H locs cells slots rls hv hl ⟨(show nr32 105 by unfold nr32; omega), hn.2⟩ hc hz
  · intro H locs cells slots rls hv hl hn hc hz
    have hkp : ∀ q : Nat, q < base → H[q]? = U.heap[q]? := fun q hq => hv.2.1.2.1 q (by omega) (by show ¬ base ≤ q; omega)
    have hO := hsk.2.1.kept (H1 := H) (fun a _ ha => hkp a (Nat.not_le.mp ha))
    obtain ⟨cell, g1, g2, g3, -⟩ := hO
    have hch : mTx.getD j.toNat 0 < 256 := tx_lt j.toNat (by omega)
    refine w_jV (rest := st.map (mUp base sp)) (av := [.int (Int32.ofInt j)]) F.1 F.2.1 (F.2.2.1) hown F.2.2.2.2.1 (d := 4) ⟨hR.1, hR.2⟩ (m_chr l 1 (base := base) (sp := sp) hj) jc_chr js_chr jv_chr ji_chr hlk ⟨by decide, by decide⟩ (show (parseMethodDescriptor jY_chr.desc).map (fun d => d.parameters.length) = some 1 by decide +kernel) (by decide) SKx_c (fun V hV hW => SKx_m U V hW (fun q hq => by rw [hV]; exact hkp q hq) hsk) ⟨cell, g1, g2, g3⟩ hl.2.1 (by rw [sW_eq]; exact hw) ⟨by omega, by omega⟩ hd ?_
    exact h H locs cells slots rls hv hl ⟨(show nr32 _ by unfold nr32; omega), hn.2.2⟩ hc hz
