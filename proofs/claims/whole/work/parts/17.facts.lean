/-! what the checks give -/
theorem zg_1 (y : MethodName) (b : ByteArray) (n : Nat) (r : Option FieldType) : goodWord (.code y b n r) = true := rfl
theorem ckM_all {mj : Nat} (h0 : 0 < mj) (h1 : mj < 311) : ckM mj = true := by
  rcases (show (mj - 1) / 10 = 0 ∨ (mj - 1) / 10 = 1 ∨ (mj - 1) / 10 = 2 ∨ (mj - 1) / 10 = 3 ∨ (mj - 1) / 10 = 4 ∨ (mj - 1) / 10 = 5 ∨ (mj - 1) / 10 = 6 ∨ (mj - 1) / 10 = 7 ∨ (mj - 1) / 10 = 8 ∨ (mj - 1) / 10 = 9 ∨ (mj - 1) / 10 = 10 ∨ (mj - 1) / 10 = 11 ∨ (mj - 1) / 10 = 12 ∨ (mj - 1) / 10 = 13 ∨ (mj - 1) / 10 = 14 ∨ (mj - 1) / 10 = 15 ∨ (mj - 1) / 10 = 16 ∨ (mj - 1) / 10 = 17 ∨ (mj - 1) / 10 = 18 ∨ (mj - 1) / 10 = 19 ∨ (mj - 1) / 10 = 20 ∨ (mj - 1) / 10 = 21 ∨ (mj - 1) / 10 = 22 ∨ (mj - 1) / 10 = 23 ∨ (mj - 1) / 10 = 24 ∨ (mj - 1) / 10 = 25 ∨ (mj - 1) / 10 = 26 ∨ (mj - 1) / 10 = 27 ∨ (mj - 1) / 10 = 28 ∨ (mj - 1) / 10 = 29 ∨ (mj - 1) / 10 = 30 by omega) with h | h | h | h | h | h | h | h | h | h | h | h | h | h | h | h | h | h | h | h | h | h | h | h | h | h | h | h | h | h | h
  · have q := ckM_0 (mj - 1) (by omega)
    rwa [show 1 + (mj - 1) = mj by omega] at q
  · have q := ckM_1 (mj - 11) (by omega)
    rwa [show 11 + (mj - 11) = mj by omega] at q
  · have q := ckM_2 (mj - 21) (by omega)
    rwa [show 21 + (mj - 21) = mj by omega] at q
  · have q := ckM_3 (mj - 31) (by omega)
    rwa [show 31 + (mj - 31) = mj by omega] at q
  · have q := ckM_4 (mj - 41) (by omega)
    rwa [show 41 + (mj - 41) = mj by omega] at q
  · have q := ckM_5 (mj - 51) (by omega)
    rwa [show 51 + (mj - 51) = mj by omega] at q
  · have q := ckM_6 (mj - 61) (by omega)
    rwa [show 61 + (mj - 61) = mj by omega] at q
  · have q := ckM_7 (mj - 71) (by omega)
    rwa [show 71 + (mj - 71) = mj by omega] at q
  · have q := ckM_8 (mj - 81) (by omega)
    rwa [show 81 + (mj - 81) = mj by omega] at q
  · have q := ckM_9 (mj - 91) (by omega)
    rwa [show 91 + (mj - 91) = mj by omega] at q
  · have q := ckM_10 (mj - 101) (by omega)
    rwa [show 101 + (mj - 101) = mj by omega] at q
  · have q := ckM_11 (mj - 111) (by omega)
    rwa [show 111 + (mj - 111) = mj by omega] at q
  · have q := ckM_12 (mj - 121) (by omega)
    rwa [show 121 + (mj - 121) = mj by omega] at q
  · have q := ckM_13 (mj - 131) (by omega)
    rwa [show 131 + (mj - 131) = mj by omega] at q
  · have q := ckM_14 (mj - 141) (by omega)
    rwa [show 141 + (mj - 141) = mj by omega] at q
  · have q := ckM_15 (mj - 151) (by omega)
    rwa [show 151 + (mj - 151) = mj by omega] at q
  · have q := ckM_16 (mj - 161) (by omega)
    rwa [show 161 + (mj - 161) = mj by omega] at q
  · have q := ckM_17 (mj - 171) (by omega)
    rwa [show 171 + (mj - 171) = mj by omega] at q
  · have q := ckM_18 (mj - 181) (by omega)
    rwa [show 181 + (mj - 181) = mj by omega] at q
  · have q := ckM_19 (mj - 191) (by omega)
    rwa [show 191 + (mj - 191) = mj by omega] at q
  · have q := ckM_20 (mj - 201) (by omega)
    rwa [show 201 + (mj - 201) = mj by omega] at q
  · have q := ckM_21 (mj - 211) (by omega)
    rwa [show 211 + (mj - 211) = mj by omega] at q
  · have q := ckM_22 (mj - 221) (by omega)
    rwa [show 221 + (mj - 221) = mj by omega] at q
  · have q := ckM_23 (mj - 231) (by omega)
    rwa [show 231 + (mj - 231) = mj by omega] at q
  · have q := ckM_24 (mj - 241) (by omega)
    rwa [show 241 + (mj - 241) = mj by omega] at q
  · have q := ckM_25 (mj - 251) (by omega)
    rwa [show 251 + (mj - 251) = mj by omega] at q
  · have q := ckM_26 (mj - 261) (by omega)
    rwa [show 261 + (mj - 261) = mj by omega] at q
  · have q := ckM_27 (mj - 271) (by omega)
    rwa [show 271 + (mj - 271) = mj by omega] at q
  · have q := ckM_28 (mj - 281) (by omega)
    rwa [show 281 + (mj - 281) = mj by omega] at q
  · have q := ckM_29 (mj - 291) (by omega)
    rwa [show 291 + (mj - 291) = mj by omega] at q
  · have q := ckM_30 (mj - 301) (by omega)
    rwa [show 301 + (mj - 301) = mj by omega] at q
theorem ckR_spec {rk : Nat} {r : Option FieldType} {nm : String} (h : ckR rk r nm = true) : (rk = 0 ∨ rk = 6 → r = none) ∧ (rk = 1 → r = some .int) ∧ (rk = 2 → r = some .boolean) ∧ (rk = 3 → r = some .char) ∧ (rk = 4 → r = some .long) ∧ (rk = 5 → ∃ n, r = some (.object n)) ∧ (rk = 6 → nm = "<init>") := by
  unfold ckR at h
  split at h
  all_goals first | exact absurd h (by decide) | skip
  all_goals refine ⟨?_, ?_, ?_, ?_, ?_, ?_, ?_⟩ <;> intro q <;> first | rfl | (exfalso; omega) | exact ⟨_, rfl⟩ | exact eq_of_beq h
theorem MK_all {mj : Nat} (h0 : 0 < mj) (h1 : mj < 311) : MK mj := by
  have h := ckM_all h0 h1
  unfold ckM at h
  simp only [Bool.and_eq_true] at h
  obtain ⟨⟨⟨⟨⟨⟨⟨a1, a2⟩, a3⟩, a4⟩, a5⟩, a6⟩, a7⟩, -⟩ := h
  obtain ⟨b1, b2, b3, b4, b5, b6, b7⟩ := ckR_spec a7
  exact ⟨wAt_in a1 rfl, wAt_in a2 rfl, ⟨by simpa using a3, by simpa using a4⟩, a5, of_decide_eq_true a6, b1, b2, b3, b4, b5, b6, b7⟩
theorem MS_all {mj : Nat} (h0 : 0 < mj) (h1 : mj < 311) (hs : (plA mj).2.2.2.2 = 1) : Cond.static (mY mj) ∈ mT ∧ (parseMethodDescriptor (mY mj).desc).map (fun d => d.parameters.length) = some (mNa mj) := by
  have h := ckM_all h0 h1
  unfold ckM at h
  simp only [Bool.and_eq_true] at h
  have h := h.2
  rw [hs] at h
  simp only [Bool.and_eq_true] at h
  exact ⟨wAt_in h.1 rfl, of_decide_eq_true h.2⟩
theorem MI_all {mj : Nat} (h0 : 0 < mj) (h1 : mj < 311) (hs : (plA mj).2.2.2.2 = 0) : Cond.instanceMethod (mY mj) ∈ mT ∧ (mRk mj ≠ 6 → Cond.selects (mY mj).cls (mY mj) (mY mj) ∈ mT) ∧ (parseMethodDescriptor (mY mj).desc).map (fun d => d.parameters.length + 1) = some (mNa mj) := by
  have h := ckM_all h0 h1
  unfold ckM at h
  simp only [Bool.and_eq_true] at h
  have h := h.2
  rw [hs] at h
  simp only [Bool.and_eq_true, Bool.or_eq_true, beq_iff_eq] at h
  exact ⟨wAt_in h.1.1 rfl, fun q => wAt_in (h.1.2.resolve_left q) rfl, of_decide_eq_true h.2⟩
theorem par_1 {x : Option MethodDescriptor} {n : Nat} (h : x.map (fun d => d.parameters.length + 1) = some n) : 0 < n ∧ x.map (fun d => d.parameters.length) = some (n - 1) := by
  cases x with
  | none => cases h
  | some d =>
    have h : d.parameters.length + 1 = n := Option.some.inj h
    exact ⟨by omega, congrArg some (by show d.parameters.length = n - 1; omega)⟩
theorem cn_all : ∀ mi, mi < 311 → (mY mi).cls = mNames.getD (mCn mi) "" := by decide +kernel
theorem cn_16 : ∀ mi, mi < 311 → mCn mi < 16 := by decide +kernel
theorem ckL_all {cn : Nat} (hc : cn < 16) : ∀ g ∈ mLk.getD cn [], ∀ q ∈ g, ckL cn q = true := by
  intro g hg q hq
  have key : ∀ {l : List (List mLR)}, l.all (fun g => g.all (ckL cn)) = true → g ∈ l → ckL cn q = true := fun h hm => List.all_eq_true.mp (List.all_eq_true.mp h g hm) q hq
  rcases (show cn = 0 ∨ cn = 1 ∨ cn = 2 ∨ cn = 3 ∨ cn = 4 ∨ cn = 5 ∨ cn = 6 ∨ cn = 7 ∨ cn = 8 ∨ cn = 9 ∨ cn = 10 ∨ cn = 11 ∨ cn = 12 ∨ cn = 13 ∨ cn = 14 ∨ cn = 15 by omega) with rfl | rfl | rfl | rfl | rfl | rfl | rfl | rfl | rfl | rfl | rfl | rfl | rfl | rfl | rfl | rfl

  · exact key ckL_0 hg
  · exact key ckL_1 hg
  · exact key ckL_2 hg
  · exact key ckL_3 hg
  · exact key ckL_4 hg
  · exact key ckL_5 hg
  · exact key ckL_6 hg
  · exact key ckL_7 hg
  · exact key ckL_8 hg
  · exact key ckL_9 hg
  · exact key ckL_10 hg
  · exact key ckL_11 hg
  · exact key ckL_12 hg
  · exact key ckL_13 hg
  · exact key ckL_14 hg
  · exact key ckL_15 hg
theorem look_of {cn k : Nat} (hc : cn < 16) {q : mLR} (h : mLook cn k = some q) : ckL cn q = true ∧ q.1 = k := by
  unfold mLook at h
  have h1 := List.mem_of_find?_eq_some h
  have h2 := List.find?_some h
  refine ⟨?_, by simpa using h2⟩
  rw [List.getD_eq_getElem?_getD] at h1
  cases hg : (mLk.getD cn [])[k / 16]? with
  | none => rw [hg] at h1; exact absurd h1 List.not_mem_nil
  | some g => rw [hg] at h1; exact ckL_all hc g (List.mem_of_getElem? hg) q h1
/-- what a fetched instruction is -/
theorem fetch_of {mi pc : Nat} {op : Instr} {len : Nat} {a b : Int} {c e : Nat} (hm : mi < 311) (h : mFetch mi pc = some (op, len, a, b, c, e)) : decode (mB mi) pc = .ok (op, len) ∧ mOK op len = true ∧
    (∀ k, mIx op = some k → ∃ p t, ckL (mCn mi) (k, a, b, c, e, p, t) = true ∧ mTg op t = true) ∧ (mIx op = none → ∀ o, mJp op = some o → a = (pc : Int) + o ∧ 0 ≤ a) := by
  unfold mFetch at h
  cases hd : decode (mB mi) pc with
  | error _ => rw [hd] at h; cases h
  | ok r =>
    obtain ⟨i, ln⟩ := r
    rw [hd] at h
    dsimp only at h
    cases hk : mOK i ln with
    | false => rw [hk] at h; cases h
    | true =>
      rw [hk] at h
      dsimp only [cond_true] at h
      cases hx : mIx i with
      | some k =>
        rw [hx] at h
        dsimp only at h
        cases hl : mLook (mCn mi) k with
        | none => rw [hl] at h; cases h
        | some q =>
          rw [hl] at h
          dsimp only [Option.bind_some] at h
          cases ht : mTg i q.2.2.2.2.2.2 with
          | false => rw [ht] at h; cases h
          | true =>
            rw [ht] at h
            obtain ⟨q1, q2⟩ := look_of (cn_16 mi hm) hl
            cases h
            refine ⟨rfl, hk, fun k' hk' => ?_, fun hn => by rw [hx] at hn; cases hn⟩
            rw [hx] at hk'
            cases hk'
            refine ⟨q.2.2.2.2.2.1, q.2.2.2.2.2.2, ?_, ht⟩
            rw [← q2]
            exact q1
      | none =>
        rw [hx] at h
        dsimp only at h
        cases hj : mJp i with
        | none =>
          rw [hj] at h
          cases h
          exact ⟨rfl, hk, fun k' hk' => (by rw [hx] at hk'; cases hk'), fun _ o ho => (by rw [hj] at ho; cases ho)⟩
        | some o =>
          rw [hj] at h
          dsimp only at h
          by_cases h0 : 0 ≤ (pc : Int) + o
          · rw [decide_eq_true h0] at h
            cases h
            refine ⟨rfl, hk, fun k' hk' => (by rw [hx] at hk'; cases hk'), fun _ o' ho => ?_⟩
            rw [hj] at ho
            cases ho
            exact ⟨rfl, h0⟩
          · rw [decide_eq_false h0] at h
            cases h
/-- the classes -/
def CLx (ci : Nat) (C : String) (T : u_T) (N : Nat) (Y : Nat → FieldType) : Prop := CLs ci C T N Y ∧ (∀ a, a < N → ∀ b, b < N → a ≠ b → (T a).2.1 ≠ (T b).2.1) ∧ ∀ j, j < N → (T j).1 = C ∧ ((mFKd ci j = 0 ∧ Y j = .int ∧ (T j).2.2.2 = false) ∨ (mFKd ci j = 1 ∧ Y j = .long ∧ (T j).2.2.2 = false) ∨ (mFKd ci j = 3 ∧ Y j = .boolean ∧ (T j).2.2.2 = false) ∨ (mFKd ci j = 2 ∧ (T j).2.2.2 = true ∧ (Y j).isReference = true))
theorem lay_in {C : String} {T : u_T} {N : Nat} {f : Nat → Nat} (h : ∀ j, j < N → wAt (f j) (u_lay C T j) = true) : ∀ w ∈ u_ws C T N, w ∈ mT := by
  intro w hw
  unfold u_ws at hw
  obtain ⟨j, hj, rfl⟩ := List.mem_map.mp hw
  refine wAt_in (h j (List.mem_range.mp hj)) ?_
  unfold u_lay
  split <;> rfl
theorem clx_0 : CLx 0 "ClashDay$Board" kT0 15 kY0 := ⟨⟨rfl, lay_in layk_0, cty_0, by decide, cdf_0, wAt_in cwi_0.1 rfl, wAt_in cwi_0.2 rfl, by decide⟩, cnm_0, cfk_0⟩
theorem clx_1 : CLx 1 "ClashDay$DayReader" kT1 2 kY1 := ⟨⟨rfl, lay_in layk_1, cty_1, by decide, cdf_1, wAt_in cwi_1.1 rfl, wAt_in cwi_1.2 rfl, by decide⟩, cnm_1, cfk_1⟩
theorem clx_2 : CLx 2 "ClashDay$Lines" kT2 4 kY2 := ⟨⟨rfl, lay_in layk_2, cty_2, by decide, cdf_2, wAt_in cwi_2.1 rfl, wAt_in cwi_2.2 rfl, by decide⟩, cnm_2, cfk_2⟩
theorem clx_3 : CLx 3 "ClashDay$Notes" kT3 4 kY3 := ⟨⟨rfl, lay_in layk_3, cty_3, by decide, cdf_3, wAt_in cwi_3.1 rfl, wAt_in cwi_3.2 rfl, by decide⟩, cnm_3, cfk_3⟩
theorem clx_4 : CLx 4 "ClashDay$Planner" kT4 13 kY4 := ⟨⟨rfl, lay_in layk_4, cty_4, by decide, cdf_4, wAt_in cwi_4.1 rfl, wAt_in cwi_4.2 rfl, by decide⟩, cnm_4, cfk_4⟩
theorem clx_5 : CLx 5 "ClashDay$Rule" kT5 5 kY5 := ⟨⟨rfl, lay_in layk_5, cty_5, by decide, cdf_5, wAt_in cwi_5.1 rfl, wAt_in cwi_5.2 rfl, by decide⟩, cnm_5, cfk_5⟩
theorem clx_6 : CLx 6 "ClashDay$RuleReader" kT6 2 kY6 := ⟨⟨rfl, lay_in layk_6, cty_6, by decide, cdf_6, wAt_in cwi_6.1 rfl, wAt_in cwi_6.2 rfl, by decide⟩, cnm_6, cfk_6⟩
theorem clx_7 : CLx 7 "ClashDay$Scene" kT7 6 kY7 := ⟨⟨rfl, lay_in layk_7, cty_7, by decide, cdf_7, wAt_in cwi_7.1 rfl, wAt_in cwi_7.2 rfl, by decide⟩, cnm_7, cfk_7⟩
theorem clx_8 : CLx 8 "ClashDay$Tape" kT8 7 kY8 := ⟨⟨rfl, lay_in layk_8, cty_8, by decide, cdf_8, wAt_in cwi_8.1 rfl, wAt_in cwi_8.2 rfl, by decide⟩, cnm_8, cfk_8⟩
theorem clx_9 : CLx 9 "ClashDay$Trials" kT9 13 kY9 := ⟨⟨rfl, lay_in layk_9, cty_9, by decide, cdf_9, wAt_in cwi_9.1 rfl, wAt_in cwi_9.2 rfl, by decide⟩, cnm_9, cfk_9⟩
theorem clx_10 : CLx 10 "ClashDay$Turns" kT10 3 kY10 := ⟨⟨rfl, lay_in layk_10, cty_10, by decide, cdf_10, wAt_in cwi_10.1 rfl, wAt_in cwi_10.2 rfl, by decide⟩, cnm_10, cfk_10⟩
theorem clx_11 : CLx 11 "ClashDay" kT11 14 kY11 := ⟨⟨rfl, lay_in layk_11, cty_11, by decide, cdf_11, wAt_in cwi_11.1 rfl, wAt_in cwi_11.2 rfl, by decide⟩, cnm_11, cfk_11⟩
theorem clx_12 : CLx 12 "ClashDayModel" kT12 58 kY12 := ⟨⟨rfl, lay_in layk_12, cty_12, by decide, cdf_12, wAt_in cwi_12.1 rfl, wAt_in cwi_12.2 rfl, by decide⟩, cnm_12, cfk_12⟩
theorem clx_all {ci : Nat} {C : String} {T : u_T} {N : Nat} (h : mCl[ci]? = some (C, T, N)) : ∃ Y, CLx ci C T N Y := by
  have hl : ci < 13 := (List.getElem?_eq_some_iff.mp h).1
  rcases (show ci = 0 ∨ ci = 1 ∨ ci = 2 ∨ ci = 3 ∨ ci = 4 ∨ ci = 5 ∨ ci = 6 ∨ ci = 7 ∨ ci = 8 ∨ ci = 9 ∨ ci = 10 ∨ ci = 11 ∨ ci = 12 by omega) with rfl | rfl | rfl | rfl | rfl | rfl | rfl | rfl | rfl | rfl | rfl | rfl | rfl
  · cases h; exact ⟨_, clx_0⟩
  · cases h; exact ⟨_, clx_1⟩
  · cases h; exact ⟨_, clx_2⟩
  · cases h; exact ⟨_, clx_3⟩
  · cases h; exact ⟨_, clx_4⟩
  · cases h; exact ⟨_, clx_5⟩
  · cases h; exact ⟨_, clx_6⟩
  · cases h; exact ⟨_, clx_7⟩
  · cases h; exact ⟨_, clx_8⟩
  · cases h; exact ⟨_, clx_9⟩
  · cases h; exact ⟨_, clx_10⟩
  · cases h; exact ⟨_, clx_11⟩
  · cases h; exact ⟨_, clx_12⟩
theorem ref_ty {t : FieldType} (h : t.isReference = true) : (∃ n, t = .object n) ∨ ∃ u, t = .array u := by
  cases t <;> first | exact Or.inl ⟨_, rfl⟩ | exact Or.inr ⟨_, rfl⟩ | cases h
theorem FL_of {mi k c e p : Nat} {a b : Int} (hm : mi < 311) (h : ckL (mCn mi) (k, a, b, c, e, p, 0) = true) : FL mi k a.toNat b.toNat c ∧ (e = 1 → ∀ C T N, mCl[a.toNat]? = some (C, T, N) → C = (mY mi).cls) := by
  unfold ckL at h
  dsimp only at h
  cases hc : mCl[a.toNat]? with
  | none => rw [hc] at h; cases h
  | some r =>
    obtain ⟨C, T, N⟩ := r
    rw [hc] at h
    simp only [Bool.and_eq_true, Bool.or_eq_true, bne_iff_ne, beq_iff_eq] at h
    obtain ⟨⟨⟨⟨⟨h1, h2⟩, h3⟩, h4⟩, h5⟩, h6⟩ := h
    obtain ⟨Y, ⟨_, x2, x3, x4, -, -, -, -⟩, x5, x6⟩ := clx_all hc
    have hk := of_decide_eq_true h3
    have hw := wAt_in h4 rfl
    rw [← cn_all mi hm] at hw h6
    obtain ⟨y1, y2⟩ := x6 _ hk
    refine ⟨⟨C, T, N, Y, hc, hk, hw, y1, x2, x3, x5, x4, h5, ?_, ?_, ?_, ?_⟩, fun he C' T' N' hC => ?_⟩
    · intro q; rw [← h5] at q; rcases y2 with z | z | z | z
      · exact z.2
      all_goals (exfalso; omega)
    · intro q; rw [← h5] at q; rcases y2 with z | z | z | z
      rotate_left
      · exact z.2
      all_goals (exfalso; omega)
    · intro q; rw [← h5] at q; rcases y2 with z | z | z | z
      rotate_left 3
      · exact ⟨z.2.1, ref_ty z.2.2⟩
      all_goals (exfalso; omega)
    · intro q; rw [← h5] at q; rcases y2 with z | z | z | z
      rotate_left 2
      · exact z.2
      all_goals (exfalso; omega)
    · cases hC
      rcases h6 with z | z
      · exact absurd he z
      · exact z
