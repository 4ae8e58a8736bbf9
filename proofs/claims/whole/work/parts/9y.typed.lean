/-! what is read is lawful -/
theorem psh_a2 (l l' : List Int) : psh (l ++ l') = psh l + psh l' := by unfold psh; rw [List.filter_append, List.length_append]
theorem tyL_2 {l l' : List Int} {st q r : List Bool} (h : tyL l st = some q) (h2 : tyL l' q = some r) : tyL (l ++ l') st = some r := by rw [tyL_app, h]; exact h2
theorem ty_it {T : Nat → Int} {n a : Nat} {k : Int} (h : vfA T n a k = -1) : (∀ st, tyL [encC (itA T n a)] st = some (false :: st)) ∧ psh [encC (itA T n a)] = 1 ∧ k < 60 := by
  have hk : k < 60 := by
    unfold vfA at h
    by_cases z : (0 ≤ wnA T n a ∧ wnA T n a < 11) ∨ nuA T n a 0 99999 = -1
    · rw [if_pos z] at h
      by_cases y : 60 ≤ k
      · rw [if_pos y] at h; omega
      · omega
    · rw [if_neg z] at h
      exact absurd (Or.inr h) z
  have z : (0 ≤ wnA T n a ∧ wnA T n a < 11) ∨ nuA T n a 0 99999 = -1 := by
    unfold vfA at h
    by_cases z : (0 ≤ wnA T n a ∧ wnA T n a < 11) ∨ nuA T n a 0 99999 = -1
    · exact z
    · rw [if_neg z] at h
      exact Or.inr h
  have e : ik (encC (itA T n a)) ≤ 1 ∧ 0 ≤ encC (itA T n a) ∧ encC (itA T n a) < 1600000 ∧ (ik (encC (itA T n a)) = 1 → iv (encC (itA T n a)) < 11) := by
    by_cases w : 0 ≤ wnA T n a ∧ wnA T n a < 11
    · have ei : itA T n a = 100000 + wnA T n a := if_pos w
      rw [ei]
      rcases enc_c (100000 + wnA T n a) with q | q | q
      · omega
      · obtain ⟨_, q2, q3, q4⟩ := q
        exact ⟨by omega, by omega, by omega, fun _ => by omega⟩
      · omega
    · have ei : itA T n a = vA T n a := if_neg w
      rw [ei]
      have hn : nuA T n a 0 99999 = -1 := by
        rcases z with z | z
        · exact absurd z w
        · exact z
      have hv : 0 ≤ vA T n a ∧ vA T n a ≤ 99999 := by
        unfold nuA at hn
        by_cases y : tkK T n a = 256
        · rw [if_pos y] at hn
          by_cases x : (tkP T n a : Int) - (a : Int) ≤ 5 ∧ 0 ≤ vA T n a ∧ vA T n a ≤ 99999
          · exact x.2
          · rw [if_neg x] at hn; omega
        · rw [if_neg y] at hn; omega
      rcases enc_c (vA T n a) with q | q | q
      · obtain ⟨_, q2, q3, q4⟩ := q
        exact ⟨by omega, by omega, by omega, fun _ => by omega⟩
      · omega
      · omega
  refine ⟨fun st => ?_, ?_, hk⟩
  · have t : tyS (encC (itA T n a)) st = some (false :: st) := by
      unfold tyS
      rw [if_pos e.1, if_pos ⟨e.2.1, e.2.2.1, e.2.2.2⟩]
    unfold tyL
    rw [t]; rfl
  · unfold psh
    rw [List.filter_cons, if_pos (by rw [decide_eq_true_eq]; exact e.1)]
    rfl
def rpB (x : Int) : List Bool := if x = -1 then [] else [false]
def opB (x : Int) : Prop := x = -1 ∨ x = 200000 ∨ x = 200001 ∨ x = 200002 ∨ x = 200003 ∨ x = 200004
theorem tm_B (x : Int) : opB (tmC x) := by
  unfold tmC opB
  split
  · omega
  · split
    · omega
    · split <;> omega
theorem ps_B (x : Int) : opB (psC x) := by
  unfold psC opB
  split
  · omega
  · split <;> omega
theorem ty_em {x : Int} (h : opB x) : (∀ st, tyL ((emL x).map encC) (false :: (rpB x ++ st)) = some (false :: st)) ∧ psh ((emL x).map encC) = 0 ∧ (emL x).length = (rpB x).length := by
  rcases h with rfl | rfl | rfl | rfl | rfl | rfl
  · exact ⟨fun st => rfl, rfl, rfl⟩
  all_goals exact ⟨fun st => rfl, by decide, rfl⟩
theorem ty_sum {T : Nat → Int} {n : Nat} : ∀ (f a : Nat) (k : Int) (L : List Int) (tm pl : Int), n - a ≤ f → a ≤ n → opB tm → opB pl → (sumF T n a k L tm pl).1 = 0 → ∃ M, (sumF T n a k L tm pl).2.2.2 = L ++ M ∧ (∀ st, tyL (M.map encC) (rpB tm ++ (rpB pl ++ st)) = some (false :: st)) ∧ k + psh (M.map encC) = (sumF T n a k L tm pl).2.2.1 ∧ (sumF T n a k L tm pl).2.2.1 ≤ 60 ∧ M.length + a ≤ (sumF T n a k L tm pl).2.1 + (rpB tm).length + (rpB pl).length ∧ (sumF T n a k L tm pl).2.1 ≤ n
  | 0, a, k, L, tm, pl, hf, ha, ht, hp, h0 => by
    have hv : ¬ vfA T n a k = -1 := fun z => by have := vf_n z; omega
    rw [sumF_0 hv] at h0
    have := vf_b T n a k
    have h0' : fuA a (vfA T n a k) = 0 := h0
    unfold fuA at h0'
    omega
  | f + 1, a, k, L, tm, pl, hf, ha, ht, hp, h0 => by
    by_cases hv : vfA T n a k = -1
    · have lt := vf_n hv
      have b1 := nxA_b T ha
      have l1 := b1.2.2 lt
      obtain ⟨i1, i2, i3⟩ := ty_it hv
      obtain ⟨t1, t2, t3⟩ := ty_em ht
      obtain ⟨p1, p2, p3⟩ := ty_em hp
      by_cases ht2 : tmC (tkK T n (nxA T n a)) = -1
      · have ty0 : ∀ st, tyL (([itA T n a] ++ emL tm ++ emL pl).map encC) (rpB tm ++ (rpB pl ++ st)) = some (false :: st) := fun st => by
          rw [List.map_append, List.map_append]
          exact tyL_2 (tyL_2 (i1 _) (t1 _)) (p1 st)
        have ps0 : psh (([itA T n a] ++ emL tm ++ emL pl).map encC) = 1 := by
          rw [List.map_append, List.map_append, psh_a2, psh_a2, t2, p2]
          exact i2
        have ln0 : ([itA T n a] ++ emL tm ++ emL pl).length = 1 + (rpB tm).length + (rpB pl).length := by
          rw [List.length_append, List.length_append, t3, p3]; rfl
        by_cases hp2 : psC (tkK T n (nxA T n a)) = -1
        · rw [sumF_1 lt hv ht2 hp2]
          refine ⟨[itA T n a] ++ emL tm ++ emL pl, by rw [List.append_assoc, List.append_assoc, List.append_assoc], ty0, ?_, ?_, ?_, b1.2.1⟩
          · rw [ps0]; show k + ((1 : Nat) : Int) = k + 1; omega
          · show k + 1 ≤ 60; omega
          · show _ ≤ nxA T n a + _ + _
            rw [ln0]; omega
        · rw [sumF_2 lt hv ht2 hp2] at h0 ⊢
          have l2 : nxA T n a < n := k_lt (fun z => hp2 (by rw [z]; decide))
          have b2 := nxA_b T b1.2.1
          have l3 := b2.2.2 l2
          obtain ⟨M, m1, m2, m3, m4, m5, m6⟩ := ty_sum f (nxA T n (nxA T n a)) (k + 1) (L ++ [itA T n a] ++ emL tm ++ emL pl) (-1) (psC (tkK T n (nxA T n a))) (by omega) b2.2.1 (Or.inl rfl) (ps_B _) h0
          refine ⟨([itA T n a] ++ emL tm ++ emL pl) ++ M, by rw [m1]; simp only [List.append_assoc], fun st => ?_, ?_, m4, ?_, m6⟩
          · rw [List.map_append]
            refine tyL_2 (ty0 st) ?_
            have e : (false :: st : List Bool) = rpB (-1) ++ (rpB (psC (tkK T n (nxA T n a))) ++ st) := by
              unfold rpB; rw [if_pos rfl, if_neg hp2]; rfl
            have m2' := m2 st
            rw [← e] at m2'; exact m2'
          · rw [List.map_append, psh_a2, ps0, ← m3]; omega
          · have e1 : (rpB (-1)).length = 0 := rfl
            have e2 : (rpB (psC (tkK T n (nxA T n a)))).length = 1 := by unfold rpB; rw [if_neg hp2]; rfl
            rw [List.length_append, ln0]; omega
      · rw [sumF_3 lt hv ht2] at h0 ⊢
        have l2 : nxA T n a < n := k_lt (fun z => ht2 (by rw [z]; decide))
        have b2 := nxA_b T b1.2.1
        have l3 := b2.2.2 l2
        obtain ⟨M, m1, m2, m3, m4, m5, m6⟩ := ty_sum f (nxA T n (nxA T n a)) (k + 1) (L ++ [itA T n a] ++ emL tm) (tmC (tkK T n (nxA T n a))) pl (by omega) b2.2.1 (tm_B _) hp h0
        refine ⟨([itA T n a] ++ emL tm) ++ M, by rw [m1]; simp only [List.append_assoc], fun st => ?_, ?_, m4, ?_, m6⟩
        · rw [List.map_append, List.map_append]
          refine tyL_2 (tyL_2 (i1 _) (t1 _)) ?_
          have e : (false :: (rpB pl ++ st) : List Bool) = rpB (tmC (tkK T n (nxA T n a))) ++ (rpB pl ++ st) := by
            unfold rpB; rw [if_neg ht2]; rfl
          rw [e]; exact m2 st
        · rw [List.map_append, List.map_append, psh_a2, psh_a2, t2, ← m3]
          have i2' : psh ([itA T n a].map encC) = 1 := i2
          rw [i2']; omega
        · have e2 : (rpB (tmC (tkK T n (nxA T n a)))).length = 1 := by unfold rpB; rw [if_neg ht2]; rfl
          rw [List.length_append, List.length_append, t3]
          have : ([itA T n a] : List Int).length = 1 := rfl
          omega
    · rw [sumF_0 hv] at h0
      have := vf_b T n a k
      have h0' : fuA a (vfA T n a k) = 0 := h0
      unfold fuA at h0'
      omega
theorem ty_s {T : Nat → Int} {n a : Nat} {k : Int} {L : List Int} (ha : a ≤ n) (h0 : (sumF T n a k L (-1) (-1)).1 = 0) : ∃ M, (sumF T n a k L (-1) (-1)).2.2.2 = L ++ M ∧ (∀ st, tyL (M.map encC) st = some (false :: st)) ∧ k + psh (M.map encC) = (sumF T n a k L (-1) (-1)).2.2.1 ∧ (sumF T n a k L (-1) (-1)).2.2.1 ≤ 60 ∧ M.length + a ≤ (sumF T n a k L (-1) (-1)).2.1 ∧ (sumF T n a k L (-1) (-1)).2.1 ≤ n :=
  ty_sum (n - a) a k L (-1) (-1) (Nat.le_refl _) ha (Or.inl rfl) (Or.inl rfl) h0
theorem cm_B (x : Int) (h : ¬ cmC x = -1) : (∀ st, tyL [encC (cmC x)] (false :: false :: st) = some (true :: st)) ∧ psh [encC (cmC x)] = 0 := by
  have c : cmC x = -1 ∨ cmC x = 200005 ∨ cmC x = 200006 ∨ cmC x = 200007 ∨ cmC x = 200008 ∨ cmC x = 200009 := by
    unfold cmC
    split
    · omega
    · split
      · omega
      · split
        · omega
        · split
          · omega
          · split <;> omega
  rcases c with c | c | c | c | c | c
  · exact absurd c h
  all_goals rw [c]; exact ⟨fun st => rfl, by decide⟩
theorem ty_cp {T : Nat → Int} {n a : Nat} {k : Int} {L : List Int} (ha : a ≤ n) (h0 : (cpF T n a k L).1 = 0) : ∃ M, (cpF T n a k L).2.2.2 = L ++ M ∧ (∀ st, tyL (M.map encC) st = some (true :: st)) ∧ k + psh (M.map encC) ≤ (cpF T n a k L).2.2.1 ∧ (cpF T n a k L).2.2.1 ≤ 60 ∧ M.length + a ≤ (cpF T n a k L).2.1 ∧ (cpF T n a k L).2.1 ≤ n := by
  have hs : (sumF T n a k L (-1) (-1)).1 = 0 → _ := fun z => ty_s (T := T) (n := n) (a := a) (k := k) (L := L) ha z
  have hs0 := (sum_p (T := T) (n := n) (n - a) a k L (-1) (-1) (Nat.le_refl _) ha).1
  generalize hq : sumF T n a k L (-1) (-1) = q at hs hs0
  obtain ⟨r, hr⟩ : ∃ r, sumF T n (nxA T n q.2.1) (q.2.2.1 + 1) q.2.2.2 (-1) (-1) = r := ⟨_, rfl⟩
  rw [cpF_e hq hr] at h0 ⊢
  by_cases q0 : q.1 = 0
  · rw [if_pos q0] at h0 ⊢
    by_cases c : cmC (tkK T n q.2.1) = -1
    · rw [if_pos c] at h0
      have h0' : fuA q.2.1 0 = 0 := h0
      unfold fuA at h0'; omega
    · rw [if_neg c] at h0 ⊢
      by_cases k6 : 60 ≤ q.2.2.1
      · rw [if_pos k6] at h0
        have h0' : fuA q.2.1 3 = 0 := h0
        unfold fuA at h0'; omega
      · rw [if_neg k6] at h0 ⊢
        by_cases r0 : r.1 = 0
        · rw [if_pos r0]
          obtain ⟨M, m1, m2, m3, m4, m5, m6⟩ := hs q0
          have lt : q.2.1 < n := k_lt (fun z => c (by rw [z]; decide))
          have b := nxA_b T m6
          have l2 := b.2.2 lt
          have hz := ty_s (T := T) (n := n) (a := nxA T n q.2.1) (k := q.2.2.1 + 1) (L := q.2.2.2) b.2.1 (by rw [hr]; exact r0)
          rw [hr] at hz
          obtain ⟨N, n1, n2, n3, n4, n5, n6⟩ := hz
          have cm := cm_B _ c
          refine ⟨M ++ N ++ [cmC (tkK T n q.2.1)], ?_, fun st => ?_, ?_, n4, ?_, n6⟩
          · show r.2.2.2 ++ _ = _
            rw [n1, m1]; simp only [List.append_assoc]
          · rw [List.map_append, List.map_append]
            exact tyL_2 (tyL_2 (m2 st) (n2 _)) (cm.1 st)
          · show k + _ ≤ r.2.2.1
            rw [List.map_append, List.map_append, psh_a2, psh_a2]
            have e : psh ([cmC (tkK T n q.2.1)].map encC) = 0 := cm.2
            rw [e]; omega
          · show _ ≤ r.2.1
            rw [List.length_append, List.length_append]
            show M.length + N.length + 1 + a ≤ r.2.1
            omega
        · rw [if_neg r0] at h0
          exact absurd h0 r0
  · rw [if_neg q0] at h0
    exact absurd h0 q0
/-! the machine of tests -/
def cnK : List Int → Nat
  | [] => 0
  | x :: K => (if x = 200010 ∨ x = 200011 then 1 else 0) + cnK K
def stK (K : List Int) : List Bool := List.replicate (cnK K) true
def alK (K : List Int) : Prop := ∀ y, y ∈ K → isK y
theorem alK_c {x : Int} {K : List Int} (h : alK (x :: K)) : isK x ∧ alK K := ⟨h x (List.mem_cons_self ..), fun y hy => h y (List.mem_cons_of_mem _ hy)⟩
theorem alK_p {x : Int} {K : List Int} (h : isK x) (h2 : alK K) : alK (x :: K) := fun y hy => by
  rcases List.mem_cons.1 hy with z | z
  · rw [z]; exact h
  · exact h2 y z
theorem stK_1 (K : List Int) {x : Int} (h : x = 200010 ∨ x = 200011) : stK (x :: K) = true :: stK K := by
  unfold stK
  show List.replicate ((if x = 200010 ∨ x = 200011 then 1 else 0) + cnK K) true = _
  rw [if_pos h, Nat.add_comm]; rfl
theorem stK_0 (K : List Int) {x : Int} (h : x = 91 ∨ x = 200012) : stK (x :: K) = stK K := by
  unfold stK
  show List.replicate ((if x = 200010 ∨ x = 200011 then 1 else 0) + cnK K) true = _
  rw [if_neg (by omega), Nat.zero_add]
theorem ty_ly {L0 : List Int} (m : Nat) (hm : 1 ≤ m) : ∀ (K L M : List Int), alK K → L = L0 ++ M → tyL (M.map encC) [] = some (true :: stK K) → ∃ M', (lyD m L K).1 = L0 ++ M' ∧ tyL (M'.map encC) [] = some (true :: stK (lyD m L K).2) ∧ psh (M'.map encC) = psh (M.map encC) ∧ M'.length + (lyD m L K).2.length = M.length + K.length ∧ alK (lyD m L K).2
  | [], L, M, hK, hL, ht => ⟨M, hL, ht, rfl, rfl, hK⟩
  | x :: K, L, M, hK, hL, ht => by
    obtain ⟨kx, kK⟩ := alK_c hK
    by_cases z : m ≤ stg x
    · have e : lyD m L (x :: K) = lyD m (L ++ [x]) K := if_pos z
      rw [e]
      have t1 : tyL ((M ++ [x]).map encC) [] = some (true :: stK K) ∧ psh ((M ++ [x]).map encC) = psh (M.map encC) := by
        rw [List.map_append, psh_a2]
        rcases kx with rfl | rfl | rfl | rfl
        · have : stg 91 = 0 := rfl
          omega
        · rw [stK_1 K (Or.inl rfl)] at ht
          exact ⟨tyL_2 ht rfl, rfl⟩
        · rw [stK_1 K (Or.inr rfl)] at ht
          exact ⟨tyL_2 ht rfl, rfl⟩
        · rw [stK_0 K (Or.inr rfl)] at ht
          exact ⟨tyL_2 ht rfl, rfl⟩
      obtain ⟨M', a1, a2, a3, a4, a5⟩ := ty_ly m hm K (L ++ [x]) (M ++ [x]) kK (by rw [hL, List.append_assoc]) t1.1
      refine ⟨M', a1, a2, a3.trans t1.2, ?_, a5⟩
      have l1 : (M ++ [x]).length = M.length + 1 := by rw [List.length_append]; rfl
      have l2 : (x :: K).length = K.length + 1 := rfl
      omega
    · have e : lyD m L (x :: K) = (L, x :: K) := if_neg z
      rw [e]
      exact ⟨M, hL, ht, rfl, rfl, hK⟩
theorem ly_e : ∀ (K L : List Int), alK K → (91 ∈ K → ∃ J, (lyD 1 L K).2 = 91 :: J) ∧ (¬ 91 ∈ K → (lyD 1 L K).2 = [])
  | [], L, _ => ⟨fun z => by simp at z, fun _ => rfl⟩
  | x :: K, L, h => by
    obtain ⟨kx, kK⟩ := alK_c h
    by_cases z : x = 91
    · subst z
      exact ⟨fun _ => ⟨K, rfl⟩, fun y => absurd (List.mem_cons_self ..) y⟩
    · have g : 1 ≤ stg x := by
        rcases kx with rfl | rfl | rfl | rfl
        · exact absurd rfl z
        · decide
        · decide
        · decide
      have e : lyD 1 L (x :: K) = lyD 1 (L ++ [x]) K := if_pos g
      rw [e]
      have q := ly_e K (L ++ [x]) kK
      refine ⟨fun y => q.1 ?_, fun y => q.2 (fun w => y (List.mem_cons_of_mem _ w))⟩
      rcases List.mem_cons.1 y with w | w
      · exact absurd w.symm z
      · exact w
def MIq (n a0 : Nat) (k0 : Int) (L0 : List Int) (x : Int × Nat × Int × List Int × List Int) : Prop := (x.1 = 0 ∨ x.1 = -1 ∨ x.1 = -2) → (alK x.2.2.2.2 ∧ x.2.1 ≤ n ∧ x.2.2.1 ≤ 60 ∧ ∃ M, x.2.2.2.1 = L0 ++ M ∧ tyL (M.map encC) [] = some ((if x.1 = -1 then [] else [true]) ++ stK x.2.2.2.2) ∧ k0 + psh (M.map encC) ≤ x.2.2.1 ∧ M.length + x.2.2.2.2.length + a0 ≤ x.2.1) ∧ (x.1 = 0 → x.2.2.2.2 = [])
theorem MI_bad {n a0 : Nat} {k0 f : Int} {L0 : List Int} (h : 0 < f) : MIq n a0 k0 L0 (bad f) := fun z => by
  have z' : f = 0 ∨ f = -1 ∨ f = -2 := z
  omega
theorem fuA_p (a : Nat) {x : Int} (h : 0 ≤ x) : 0 < fuA a x := by unfold fuA; omega
theorem MI_s {T : Nat → Int} {n a0 : Nat} {k0 : Int} {L0 : List Int} (x : Int × Nat × Int × List Int × List Int) (h : MIq n a0 k0 L0 x) : MIq n a0 k0 L0 (mtP T n x) := by
  obtain ⟨c, a, k, L, K⟩ := x
  unfold mtP
  by_cases h1 : c = -1
  · subst h1
    rw [if_pos rfl]
    obtain ⟨⟨hK, ha, hk, M, m1, m2, m3, m4⟩, _⟩ := h (Or.inr (Or.inl rfl))
    show MIq n a0 k0 L0 (mtF T n a k L K)
    have hK : alK K := hK
    have ha : a ≤ n := ha
    have m1 : L = L0 ++ M := m1
    have m2 : tyL (M.map encC) [] = some (stK K) := m2
    have m3 : k0 + psh (M.map encC) ≤ k := m3
    have m4 : M.length + K.length + a0 ≤ a := m4
    have b := nxA_b T ha
    have opn : ∀ x : Int, (x = 91 ∨ x = 200012) → a < n → MIq n a0 k0 L0 (-1, nxA T n a, k, L, x :: K) := fun x hx hl _ => by
      have l := b.2.2 hl
      refine ⟨⟨alK_p (by rcases hx with z | z; exact Or.inl z; exact Or.inr (Or.inr (Or.inr z))) hK, b.2.1, hk, M, m1, ?_, m3, ?_⟩, fun z => absurd z (by show ¬ ((-1 : Int) = 0); decide)⟩
      · show tyL (M.map encC) [] = some ([] ++ stK (x :: K))
        rw [stK_0 K hx]; exact m2
      · show M.length + (K.length + 1) + a0 ≤ nxA T n a
        omega
    unfold mtF
    by_cases w : wnA T n a = 18
    · rw [if_pos w]
      by_cases d : 10 ≤ dpK K
      · rw [if_pos d]; exact MI_bad (fuA_p _ (by decide))
      · rw [if_neg d]
        exact opn 200012 (Or.inr rfl) (k_lt (by rw [w_257 (by decide) w]; decide))
    · rw [if_neg w]
      by_cases w2 : tkK T n a = 91
      · rw [if_pos w2]
        by_cases d : 10 ≤ dpK K
        · rw [if_pos d]; exact MI_bad (fuA_p _ (by decide))
        · rw [if_neg d]
          exact opn 91 (Or.inl rfl) (k_lt (by rw [w2]; decide))
      · rw [if_neg w2]
        by_cases c0 : (cpF T n a k L).1 = 0
        · rw [if_pos c0]
          obtain ⟨N, n1, n2, n3, n4, n5, n6⟩ := ty_cp ha c0
          intro _
          refine ⟨⟨hK, n6, n4, M ++ N, by show (cpF T n a k L).2.2.2 = _; rw [n1, m1, List.append_assoc], ?_, ?_, ?_⟩, fun z => absurd z (by show ¬ ((-2 : Int) = 0); decide)⟩
          · show tyL ((M ++ N).map encC) [] = some (true :: stK K)
            rw [List.map_append]
            exact tyL_2 m2 (n2 _)
          · show k0 + _ ≤ (cpF T n a k L).2.2.1
            rw [List.map_append, psh_a2]; omega
          · show (M ++ N).length + K.length + a0 ≤ (cpF T n a k L).2.1
            rw [List.length_append]; omega
        · rw [if_neg c0]
          have := (cp_p (T := T) (k := k) (L := L) ha).1
          exact MI_bad (by omega)
  · rw [if_neg (show ¬ (c, a, k, L, K).1 = -1 from h1)]
    by_cases h2 : c = -2
    · subst h2
      rw [if_pos (show ((-2 : Int), a, k, L, K).1 = -2 from rfl)]
      obtain ⟨⟨hK, ha, hk, M, m1, m2, m3, m4⟩, _⟩ := h (Or.inr (Or.inr rfl))
      show MIq n a0 k0 L0 (mtA T n a k L K)
      have hK : alK K := hK
      have ha : a ≤ n := ha
      have m2 : tyL (M.map encC) [] = some (true :: stK K) := m2
      have m3 : k0 + psh (M.map encC) ≤ k := m3
      have m4 : M.length + K.length + a0 ≤ a := m4
      have b := nxA_b T ha
      unfold mtA
      obtain ⟨M3, g1, g2, g3, g4, g5⟩ := ty_ly 3 (by decide) K L M hK m1 m2
      generalize lyD 3 L K = y at g1 g2 g4 g5
      unfold mtB
      by_cases b1 : tkK T n a = 93 ∧ 91 ∈ y.2
      · rw [if_pos b1]
        have l := b.2.2 (k_lt (by rw [b1.1]; decide))
        obtain ⟨M4, e1, e2, e3, e4, e5⟩ := ty_ly 1 (by decide) y.2 y.1 M3 g5 g1 g2
        obtain ⟨J, eJ⟩ := (ly_e y.2 y.1 g5).1 b1.2
        rw [eJ] at e2 e4 e5 ⊢
        rw [List.length_cons] at e4
        intro _
        refine ⟨⟨(alK_c e5).2, b.2.1, hk, M4, e1, ?_, ?_, ?_⟩, fun z => absurd z (by show ¬ ((-2 : Int) = 0); decide)⟩
        · show tyL (M4.map encC) [] = some (true :: stK J)
          rw [stK_0 J (Or.inl rfl)] at e2; exact e2
        · show k0 + _ ≤ k
          rw [e3, g3]; exact m3
        · show M4.length + J.length + a0 ≤ nxA T n a
          omega
      · rw [if_neg b1]
        have bin : ∀ (m : Nat) (x : Int), 1 ≤ m → (x = 200010 ∨ x = 200011) → a < n → MIq n a0 k0 L0 (-1, nxA T n a, k, (lyD m y.1 y.2).1, x :: (lyD m y.1 y.2).2) := fun m x hm hx hl _ => by
          have l := b.2.2 hl
          obtain ⟨M4, e1, e2, e3, e4, e5⟩ := ty_ly m hm y.2 y.1 M3 g5 g1 g2
          refine ⟨⟨alK_p (by rcases hx with z | z; exact Or.inr (Or.inl z); exact Or.inr (Or.inr (Or.inl z))) e5, b.2.1, hk, M4, e1, ?_, ?_, ?_⟩, fun z => absurd z (by show ¬ ((-1 : Int) = 0); decide)⟩
          · show tyL (M4.map encC) [] = some ([] ++ stK (x :: (lyD m y.1 y.2).2))
            rw [stK_1 _ hx]; exact e2
          · show k0 + _ ≤ k
            rw [e3, g3]; exact m3
          · show M4.length + ((lyD m y.1 y.2).2.length + 1) + a0 ≤ nxA T n a
            omega
        by_cases b2 : wnA T n a = 17
        · rw [if_pos b2]
          exact bin 2 200010 (by decide) (Or.inl rfl) (k_lt (by rw [w_257 (by decide) b2]; decide))
        · rw [if_neg b2]
          by_cases b3 : wnA T n a = 16
          · rw [if_pos b3]
            exact bin 1 200011 (by decide) (Or.inr rfl) (k_lt (by rw [w_257 (by decide) b3]; decide))
          · rw [if_neg b3]
            by_cases b4 : 91 ∈ y.2
            · rw [if_pos b4]; exact MI_bad (fuA_p _ (by decide))
            · rw [if_neg b4]
              obtain ⟨M4, e1, e2, e3, e4, e5⟩ := ty_ly 1 (by decide) y.2 y.1 M3 g5 g1 g2
              have eJ := (ly_e y.2 y.1 g5).2 b4
              rw [eJ] at e2 e4
              have e4' : M4.length = M3.length + y.2.length := e4
              intro _
              refine ⟨⟨fun z hz => by simp at hz, ha, hk, M4, e1, ?_, ?_, ?_⟩, fun _ => rfl⟩
              · exact e2
              · show k0 + _ ≤ k
                rw [e3, g3]; exact m3
              · show M4.length + 0 + a0 ≤ a
                omega
    · rw [if_neg (show ¬ (c, a, k, L, K).1 = -2 from h2)]; exact h
theorem MI_i {T : Nat → Int} {n a0 : Nat} {k0 : Int} {L0 : List Int} : ∀ (m : Nat) (x : Int × Nat × Int × List Int × List Int), MIq n a0 k0 L0 x → MIq n a0 k0 L0 (itr T n m x)
  | 0, _, h => h
  | m + 1, x, h => MI_i m (mtP T n x) (MI_s x h)
theorem ty_ts {T : Nat → Int} {n a : Nat} {k : Int} {L : List Int} (ha : a ≤ n) (hk : k ≤ 60) (h0 : (tsF T n a k L).1 = 0) : ∃ M, (tsF T n a k L).2.2.2.1 = L ++ M ∧ tyL (M.map encC) [] = some [true] ∧ k + psh (M.map encC) ≤ (tsF T n a k L).2.2.1 ∧ (tsF T n a k L).2.2.1 ≤ 60 ∧ M.length + a ≤ (tsF T n a k L).2.1 ∧ (tsF T n a k L).2.1 ≤ n := by
  have i : MIq n a k L ((-1 : Int), a, k, L, ([] : List Int)) := fun _ => ⟨⟨fun z hz => by simp at hz, ha, hk, [], (List.append_nil L).symm, rfl, by show k + ((0 : Nat) : Int) ≤ k; omega, by show 0 + 0 + a ≤ a; omega⟩, fun z => absurd z (by show ¬ ((-1 : Int) = 0); decide)⟩
  have q := MI_i (T := T) (n + 1) _ i
  have q2 : MIq n a k L (tsF T n a k L) := q
  obtain ⟨⟨_, q4, q5, M, m1, m2, m3, m4⟩, q6⟩ := q2 (Or.inl h0)
  have e := q6 h0
  rw [e, if_neg (by omega)] at m2
  rw [e] at m4
  exact ⟨M, m1, m2, m3, q5, m4, q4⟩
/-- a clause read is lawful -/
theorem ty_cl {T : Nat → Int} {n a : Nat} {i k : Int} {L : List Int} (ha : a ≤ n) (h0 : (clF T n i a k L).1 = 0) : ∃ M N, (clF T n i a k L).2.2.2.1 = L ++ M ++ N ∧ (clF T n i a k L).2.2.2.2 = (L ++ M).length ∧ tyL (M.map encC) [] = some [false] ∧ (N = [] ∨ tyL (N.map encC) [] = some [true]) ∧ k + psh (M.map encC) + psh (N.map encC) ≤ (clF T n i a k L).2.2.1 ∧ (clF T n i a k L).2.2.1 ≤ 60 ∧ M.length + N.length + a ≤ (clF T n i a k L).2.1 ∧ (clF T n i a k L).2.1 ≤ n ∧ i < 12 := by
  unfold clF at h0 ⊢
  by_cases w : wnA T n a = 14
  · rw [if_pos w] at h0 ⊢
    by_cases hi : 12 ≤ i
    · rw [if_pos hi] at h0
      have h0' : fuA a 4 = 0 := h0
      unfold fuA at h0'; omega
    · rw [if_neg hi] at h0 ⊢
      have b := nxA_b T ha
      have hs : (sumF T n (nxA T n a) k L (-1) (-1)).1 = 0 → _ := fun z => ty_s (T := T) (n := n) (a := nxA T n a) (k := k) (L := L) b.2.1 z
      generalize sumF T n (nxA T n a) k L (-1) (-1) = q at hs h0 ⊢
      by_cases q0 : q.1 = 0
      · rw [if_pos q0] at h0 ⊢
        obtain ⟨M, m1, m2, m3, m4, m5, m6⟩ := hs q0
        unfold cl2 at h0 ⊢
        by_cases w2 : wnA T n q.2.1 = 15
        · rw [if_pos w2] at h0 ⊢
          have b2 := nxA_b T m6
          have ht : (tsF T n (nxA T n q.2.1) q.2.2.1 q.2.2.2).1 = 0 → _ := fun z => ty_ts (T := T) (n := n) (a := nxA T n q.2.1) (k := q.2.2.1) (L := q.2.2.2) b2.2.1 m4 z
          generalize tsF T n (nxA T n q.2.1) q.2.2.1 q.2.2.2 = r at ht h0 ⊢
          by_cases r0 : r.1 = 0
          · rw [if_pos r0]
            obtain ⟨N, n1, n2, n3, n4, n5, n6⟩ := ht r0
            refine ⟨M, N, by show r.2.2.2.1 = _; rw [n1, m1], by show q.2.2.2.length = _; rw [m1], m2 [], Or.inr n2, ?_, n4, ?_, n6, by omega⟩
            · show k + _ + _ ≤ r.2.2.1
              omega
            · show _ ≤ r.2.1
              omega
          · rw [if_neg r0] at h0
            exact absurd h0 r0
        · rw [if_neg w2]
          refine ⟨M, [], by show q.2.2.2 = _; rw [m1, List.append_nil], by show q.2.2.2.length = _; rw [m1], m2 [], Or.inl rfl, ?_, m4, ?_, m6, by omega⟩
          · show k + _ + ((0 : Nat) : Int) ≤ q.2.2.1
            omega
          · show M.length + 0 + a ≤ q.2.1
            omega
      · rw [if_neg q0] at h0
        exact absurd h0 q0
  · rw [if_neg w] at h0
    have h0' : fuA a 0 = 0 := h0
    unfold fuA at h0'; omega
/-! lawful rules, as lists -/
def sgW (L : List Int) : Rw := fun i => encC (L.getD i 0)
def e1L (E : List (Nat × Nat)) : Nat → Nat := fun c => (E.getD c (0, 0)).1
def e3L (E : List (Nat × Nat)) : Nat → Nat := fun c => (E.getD c (0, 0)).2
def LWl (L : List Int) (E : List (Nat × Nat)) : Prop := RV (sgW L) (e1L E) (e3L E) E.length ∧ prE (e3L E) E.length = L.length ∧ ∀ c, c < E.length → e3L E c ≤ L.length
theorem seg_c {f g : Rw} {o n : Nat} (h : ∀ i, o ≤ i → i < o + n → f i = g i) : seg f o n = seg g o n := by
  unfold seg
  refine List.map_congr_left (fun i hi => ?_)
  have := List.mem_range.1 hi
  exact h _ (by omega) (by omega)
theorem WS_c {f g : Rw} {o n : Nat} {b : Bool} (h : ∀ i, o ≤ i → i < o + n → f i = g i) (w : WS f o n b) : WS g o n b := by
  unfold WS at w ⊢
  rw [← seg_c h]; exact w
theorem seg_L (L M N : List Int) : seg (sgW (L ++ M ++ N)) L.length M.length = M.map encC := by
  unfold seg
  refine List.ext_getElem (by rw [List.length_map, List.length_map, List.length_range]) (fun i h1 h2 => ?_)
  rw [List.length_map, List.length_range] at h1
  rw [List.getElem_map, List.getElem_map, List.getElem_range]
  unfold sgW
  rw [List.append_assoc, List.getD_eq_getElem?_getD, List.getElem?_append_right (by omega), Nat.add_sub_cancel_left, List.getElem?_append_left h1, List.getElem?_eq_getElem h1]
  rfl
theorem sgW_l (L M : List Int) {i : Nat} (h : i < L.length) : sgW (L ++ M) i = sgW L i := by
  unfold sgW
  rw [List.getD_eq_getElem?_getD, List.getD_eq_getElem?_getD, List.getElem?_append_left h]
theorem RV_e {L M N : List Int} {E : List (Nat × Nat)} (h : LWl L E) (hn : E.length < 12) (hl : (L ++ M ++ N).length ≤ 400) (h1 : tyL (M.map encC) [] = some [false]) (h2 : N = [] ∨ tyL (N.map encC) [] = some [true]) (p1 : psh (M.map encC) ≤ 60) (p2 : psh (N.map encC) ≤ 60) : LWl (L ++ M ++ N) (E ++ [((L ++ M).length, (L ++ M ++ N).length)]) := by
  obtain ⟨⟨_, hr⟩, hp, hb⟩ := h
  have len : (E ++ [((L ++ M).length, (L ++ M ++ N).length)]).length = E.length + 1 := by rw [List.length_append]; rfl
  have a1 : ∀ c, c < E.length → e1L (E ++ [((L ++ M).length, (L ++ M ++ N).length)]) c = e1L E c := fun c hc => by unfold e1L; rw [gdE_l _ _ _ hc]
  have a3 : ∀ c, c < E.length → e3L (E ++ [((L ++ M).length, (L ++ M ++ N).length)]) c = e3L E c := fun c hc => by unfold e3L; rw [gdE_l _ _ _ hc]
  have b1 : e1L (E ++ [((L ++ M).length, (L ++ M ++ N).length)]) E.length = (L ++ M).length := by unfold e1L; rw [gdE_r]
  have b3 : e3L (E ++ [((L ++ M).length, (L ++ M ++ N).length)]) E.length = (L ++ M ++ N).length := by unfold e3L; rw [gdE_r]
  have ap : ∀ c, c ≤ E.length → prE (e3L (E ++ [((L ++ M).length, (L ++ M ++ N).length)])) c = prE (e3L E) c := fun c hc => by
    cases c with
    | zero => rfl
    | succ c => exact a3 c (by omega)
  have ll : (L ++ M ++ N).length = L.length + M.length + N.length := by rw [List.length_append, List.length_append]
  have lm : (L ++ M).length = L.length + M.length := List.length_append
  generalize E ++ [((L ++ M).length, (L ++ M ++ N).length)] = F at len a1 a3 b1 b3 ap
  refine ⟨⟨by omega, fun c hc => ?_⟩, by rw [len]; exact b3, fun c hc => ?_⟩
  · by_cases z : c < E.length
    · have q := hr c z
      have l3 := hb c z
      rw [ap c (by omega), a1 c z, a3 c z]
      refine ⟨q.1, WS_c (fun i h1 h2 => ?_) q.2.1, fun y => WS_c (fun i h1 h2 => ?_) (q.2.2 y)⟩
      · rw [List.append_assoc, sgW_l _ _ (by omega)]
      · rw [List.append_assoc, sgW_l _ _ (by omega)]
    · have ec : c = E.length := by omega
      subst ec
      rw [ap _ (Nat.le_refl _), b1, b3, hp]
      refine ⟨by omega, ?_, fun y => ?_⟩
      · have e : (L ++ M).length - L.length = M.length := by omega
        unfold WS
        rw [e, seg_L]
        exact ⟨h1, p1⟩
      · have e : (L ++ M ++ N).length - (L ++ M).length = N.length := by omega
        have s2 := seg_L (L ++ M) N []
        rw [List.append_nil] at s2
        unfold WS
        rw [e, s2]
        rcases h2 with z | z
        · rw [z, List.append_nil] at y; omega
        · exact ⟨z, p2⟩
  · by_cases z : c < E.length
    · have l3 := hb c z
      rw [a3 c z]; omega
    · have ec : c = E.length := by omega
      subst ec
      rw [b3]; exact Nat.le_refl _
theorem LW_r {T : Nat → Int} {n : Nat} (hn : n ≤ 400) : ∀ (f : Nat) (i : Int) (a : Nat) (k : Int) (L : List Int) (E : List (Nat × Nat)), 13 ≤ (f : Int) + i → i = (E.length : Int) → i ≤ 12 → a ≤ n → 0 ≤ k → L.length ≤ a → LWl L E → (rlF T n f i a k L E).1 = 0 → LWl (rlF T n f i a k L E).2.1 (rlF T n f i a k L E).2.2
  | 0, i, a, k, L, E, hf, hi, hi2, ha, hk, hl, hL, h0 => by omega
  | f + 1, i, a, k, L, E, hf, hi, hi2, ha, hk, hl, hL, h0 => by
    rw [rlF_s] at h0 ⊢
    by_cases c0 : (clF T n i a k L).1 = 0
    · rw [if_pos c0] at h0 ⊢
      obtain ⟨M, N, m1, m2, m3, m4, m5, m6, m7, m8, m9⟩ := ty_cl ha c0
      have ll : (L ++ M ++ N).length = L.length + M.length + N.length := by rw [List.length_append, List.length_append]
      have hL2 : LWl (L ++ M ++ N) (E ++ [((L ++ M).length, (L ++ M ++ N).length)]) := RV_e hL (by omega) (by omega) m3 m4 (by omega) (by omega)
      rw [m1, m2] at h0 ⊢
      by_cases t : tkK T n (clF T n i a k L).2.1 = 59
      · rw [if_pos t] at h0 ⊢
        have lt : (clF T n i a k L).2.1 < n := k_lt (by rw [t]; decide)
        have b := nxA_b T m8
        refine LW_r hn f (i + 1) _ _ _ _ (by omega) ?_ (by omega) b.2.1 (by omega) (by omega) hL2 h0
        rw [List.length_append]
        show i + 1 = ((E.length + 1 : Nat) : Int)
        omega
      · rw [if_neg t]
        exact hL2
    · rw [if_neg c0] at h0
      exact absurd h0 c0
theorem LWl_P {T : Nat → Int} {n : Nat} (hn : n ≤ 400) (h0 : (rlP T n).1 = 0) : LWl (rlP T n).2.1 (rlP T n).2.2 :=
  LW_r hn 13 0 (sk T n 0) 0 [] [] (by decide) rfl (by decide) ((rnT_b (fun k => decide (T k = 32)) n 0).2 (by omega)) (by decide) (Nat.zero_le _) ⟨⟨by decide, fun c hc => absurd hc (Nat.not_lt_zero c)⟩, rfl, fun c hc => absurd hc (Nat.not_lt_zero c)⟩ h0
/-! what is reckoned, by the lists alone -/
theorem evP_c {fa f g : Rw} {o : Nat} : ∀ {n : Nat}, (∀ i, o ≤ i → i < o + n → f i = g i) → evP fa f o n = evP fa g o n
  | 0, _ => rfl
  | n + 1, h => by
    rw [evP, evP, evP_c (n := n) (fun i a b => h i a (by omega)), h (o + n) (by omega) (by omega)]
theorem wr_c {fa f g : Rw} {A1 A3 B1 B3 : Nat → Nat} {N m : Nat} (h1 : ∀ c, c < N → A1 c = B1 c) (h3 : ∀ c, c < N → A3 c = B3 c) (hv : RV f A1 A3 N) (hm : ∀ c, c < N → A3 c ≤ m) (hf : ∀ i, i < m → f i = g i) : ∀ k c, c + k = N → wrF fa f A1 A3 k c = wrF fa g B1 B3 k c
  | 0, c, _ => rfl
  | k + 1, c, hc => by
    have q := hv.2 c (by omega)
    have b := hm c (by omega)
    have ep : prE A3 c = prE B3 c := by
      cases c with
      | zero => rfl
      | succ c => exact h3 c (by omega)
    have e1 : evV fa f (A1 c) (A3 c - A1 c) = evV fa g (A1 c) (A3 c - A1 c) := by unfold evV; rw [evP_c (fun i a1 a2 => hf i (by omega))]
    have e2 : evV fa f (prE A3 c) (A1 c - prE A3 c) = evV fa g (prE A3 c) (A1 c - prE A3 c) := by unfold evV; rw [evP_c (fun i a1 a2 => hf i (by omega))]
    rw [wrF, wrF, wr_c h1 h3 hv hm hf k (c + 1) (by omega), e1, e2, ep, h1 c (by omega), h3 c (by omega)]
theorem RV_c {f g : Rw} {A1 A3 B1 B3 : Nat → Nat} {N m : Nat} (h1 : ∀ c, c < N → A1 c = B1 c) (h3 : ∀ c, c < N → A3 c = B3 c) (hv : RV f A1 A3 N) (hm : ∀ c, c < N → A3 c ≤ m) (hf : ∀ i, i < m → f i = g i) : RV g B1 B3 N := by
  refine ⟨hv.1, fun c hc => ?_⟩
  have q := hv.2 c hc
  have b := hm c hc
  have ep : prE A3 c = prE B3 c := by
    cases c with
    | zero => rfl
    | succ c => exact h3 c (by omega)
  rw [← ep, ← h1 c hc, ← h3 c hc]
  exact ⟨q.1, WS_c (fun i a1 a2 => hf i (by omega)) q.2.1, fun y => WS_c (fun i a1 a2 => hf i (by omega)) (q.2.2 y)⟩
