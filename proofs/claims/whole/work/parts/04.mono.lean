/-! more is reached by more steps -/
theorem eI_mono {st : List mV} {k k' : Int → List mV → Prop} (h : ∀ x t, k x t → k' x t) : eI st k → eI st k' := by
  unfold eI; split
  · exact h _ _
  · exact id
theorem eJ_mono {st : List mV} {k k' : Int → List mV → Prop} (h : ∀ x t, k x t → k' x t) : eJ st k → eJ st k' := by
  unfold eJ; split
  · exact h _ _
  · exact id
theorem eR_mono {st : List mV} {k k' : Nat → List mV → Prop} (h : ∀ x t, k x t → k' x t) : eR st k → eR st k' := by
  unfold eR; split
  · exact h _ _
  · exact id
theorem eX_mono {st : List mV} {k k' : Nat → List mV → Prop} (h : ∀ x t, k x t → k' x t) : eX st k → eX st k' := by
  unfold eX; split
  · exact h _ _
  · exact id
theorem eO_mono {st : List mV} {k k' : Option Nat → List mV → Prop} (h : ∀ x t, k x t → k' x t) : eO st k → eO st k' := by
  unfold eO; split
  · exact h _ _
  · exact id
theorem eW_mono {st : List mV} {k k' : mV → List mV → Prop} (h : ∀ x t, k x t → k' x t) : eW st k → eW st k' := by
  unfold eW; split
  · exact h _ _
  · exact h _ _
  · exact id
theorem gI_mono {ls : mLo} {i : Nat} {k k' : Int → Prop} (h : ∀ x, k x → k' x) : gI ls i k → gI ls i k' := by
  unfold gI; split
  · exact h _
  · exact id
theorem gJ_mono {ls : mLo} {i : Nat} {k k' : Int → Prop} (h : ∀ x, k x → k' x) : gJ ls i k → gJ ls i k' := by
  unfold gJ; split
  · exact h _
  · exact id
theorem gA_mono {ls : mLo} {i : Nat} {k k' : mV → Prop} (h : ∀ x, k x → k' x) : gA ls i k → gA ls i k' := by
  unfold gA; split
  · exact h _
  · exact id
theorem sL_mono {v : mV} : ∀ (ls : mLo) (i : Nat) (k k' : mLo → Prop), (∀ x, k x → k' x) → sL ls i v k → sL ls i v k' := by
  intro ls
  induction ls with
  | nil => intro i k k' h z; cases i <;> exact z
  | cons a t ih =>
    intro i k k' h z
    cases i with
    | zero => exact h _ z
    | succ n => exact ih n (fun t' => k (kL n a :: t')) (fun t' => k' (kL n a :: t')) (fun x => h _) z
theorem sJ_mono {v : mV} : ∀ (ls : mLo) (i : Nat) (k k' : mLo → Prop), (∀ x, k x → k' x) → sJ ls i v k → sJ ls i v k' := by
  intro ls
  induction ls with
  | nil => intro i k k' h z; cases i <;> exact z
  | cons a t ih =>
    intro i k k' h z
    cases i with
    | zero => cases t with
      | nil => exact z
      | cons b t => exact h _ z
    | succ n =>
      have e : ∀ kk : mLo → Prop, sJ (a :: t) (n + 1) v kk = sJ t n v (fun t' => kk (kL n a :: t')) := fun kk => by cases t <;> rfl
      rw [e] at z ⊢
      exact ih n (fun t' => k (kL n a :: t')) (fun t' => k' (kL n a :: t')) (fun x => h _) z
theorem popA_mono : ∀ {n : Nat} {st acc : List mV} {k k' : List mV → List mV → Prop}, (∀ x t, k x t → k' x t) → popA n st acc k → popA n st acc k' := by
  intro n
  induction n with
  | zero => intro st acc k k' h z; cases st <;> exact h _ _ z
  | succ n ih =>
    intro st acc k k' h z
    cases st with
    | nil => exact z
    | cons v t => exact ih h z
theorem pushR_mono {r : Option mV} {st : List mV} {k k' : List mV → Prop} (h : ∀ x, k x → k' x) : pushR r st k → pushR r st k' := by
  cases r <;> exact h _
theorem an_i {a b c : Prop} (h : a → b) : c ∧ a → c ∧ b := fun q => ⟨q.1, h q.2⟩
theorem an_b {a b c d e f : Prop} (h : a → b) (h' : c → d) : (e → a) ∧ (f → c) → (e → b) ∧ (f → d) := fun q => ⟨fun z => h (q.1 z), fun z => h' (q.2 z)⟩
theorem ex_i {α : Sort _} {p q : α → Prop} (h : ∀ a, p a → q a) : (∃ a, p a) → ∃ a, q a := fun ⟨a, z⟩ => ⟨a, h a z⟩
set_option maxHeartbeats 4000000 in
theorem ex1_mono {X : (Nat → Int) × Nat} {sc : Bool} {rk d bud pc : Nat} {i : mE} {ls : mLo} {st : List mV} {S : List mSh} {s : mSt} {go go' : Nat → Nat → mLo → List mV → List mSh → mSt → Prop} {call call' : Nat → List mV → List mSh → mSt → mRt → Prop} {ret ret' : mRt}
    (hg : ∀ b p l t S s, go b p l t S s → go' b p l t S s) (hc : ∀ m a S s (K K' : mRt), (∀ r S s, K r S s → K' r S s) → call m a S s K → call' m a S s K') (hr : ∀ r S s, ret r S s → ret' r S s) :
    ex1 X sc rk d bud pc i ls st S s go call ret → ex1 X sc rk d bud pc i ls st S s go' call' ret' := by
  obtain ⟨op, len, a, b, c, e⟩ := i
  cases op
  case ldc =>
    dsimp only [ex1]
    split <;> exact hg _ _ _ _ _ _
  case ifCond cd _ => cases cd <;> exact eI_mono fun _ _ => an_b (hg _ _ _ _ _ _) (hg _ _ _ _ _ _)
  case if_icmp cd _ => cases cd <;> exact eI_mono fun _ _ => eI_mono fun _ _ => an_b (hg _ _ _ _ _ _) (hg _ _ _ _ _ _)
  case ifnonnull => exact eO_mono fun _ _ => an_b (hg _ _ _ _ _ _) (hg _ _ _ _ _ _)
  case getfield =>
    refine eR_mono fun _ _ => an_i ?_
    dsimp only
    split
    · exact hg _ _ _ _ _ _
    · exact hg _ _ _ _ _ _
    · exact ex_i fun _ => an_i (hg _ _ _ _ _ _)
    · exact hg _ _ _ _ _ _
  case putfield =>
    dsimp only [ex1]
    split
    · exact eI_mono fun _ _ => eR_mono fun _ _ => an_i (hg _ _ _ _ _ _)
    · exact eJ_mono fun _ _ => eR_mono fun _ _ => an_i (hg _ _ _ _ _ _)
    · exact eR_mono fun _ _ => eR_mono fun _ _ => an_i (hg _ _ _ _ _ _)
    · exact eI_mono fun _ _ => eR_mono fun _ _ => an_i (an_i (hg _ _ _ _ _ _))
  case iaload =>
    cases sc
    · exact eI_mono fun _ _ => eR_mono fun _ _ => ex_i fun _ => an_i (an_i (hg _ _ _ _ _ _))
    · exact eI_mono fun _ _ => eX_mono fun _ _ => an_i (an_i (an_i (hg _ _ _ _ _ _)))
  case arraylength =>
    cases sc
    · exact eR_mono fun _ _ => ex_i fun _ => ex_i fun _ => an_i (an_i (hg _ _ _ _ _ _))
    · exact eX_mono fun _ _ => an_i (hg _ _ _ _ _ _)
  case baload => exact eI_mono fun _ _ => eR_mono fun _ _ => ex_i fun _ => ex_i fun _ => an_i (an_i (an_i (hg _ _ _ _ _ _)))
  case caload => exact eI_mono fun _ _ => eR_mono fun _ _ => ex_i fun _ => an_i (an_i (hg _ _ _ _ _ _))
  case laload => exact eI_mono fun _ _ => eR_mono fun _ _ => ex_i fun _ => an_i (an_i (hg _ _ _ _ _ _))
  case aaload => exact eI_mono fun _ _ => eR_mono fun _ _ => ex_i fun _ => ex_i fun _ => an_i (an_i (an_i (ex_i fun _ => an_i (hg _ _ _ _ _ _))))
  case iastore => exact eI_mono fun _ _ => eI_mono fun _ _ => eR_mono fun _ _ => ex_i fun _ => an_i (an_i (hg _ _ _ _ _ _))
  case bastore => exact eI_mono fun _ _ => eI_mono fun _ _ => eR_mono fun _ _ => ex_i fun _ => ex_i fun _ => an_i (an_i (an_i (hg _ _ _ _ _ _)))
  case castore => exact eI_mono fun _ _ => eI_mono fun _ _ => eR_mono fun _ _ => ex_i fun _ => an_i (an_i (an_i (hg _ _ _ _ _ _)))
  case lastore => exact eJ_mono fun _ _ => eI_mono fun _ _ => eR_mono fun _ _ => ex_i fun _ => an_i (an_i (hg _ _ _ _ _ _))
  case aastore => exact eR_mono fun _ _ => eI_mono fun _ _ => eR_mono fun _ _ => ex_i fun _ => ex_i fun _ => an_i (an_i (an_i (hg _ _ _ _ _ _)))
  case new => cases bud <;> first | exact id | exact an_i (hg _ _ _ _ _ _)
  case newarray => cases bud <;> first | exact id | exact eI_mono fun _ _ => an_i (hg _ _ _ _ _ _)
  case anewarray => cases bud <;> first | exact id | exact eI_mono fun _ _ => an_i (hg _ _ _ _ _ _)
  case multianewarray => exact eI_mono fun _ _ => eI_mono fun _ _ => an_i (hg _ _ _ _ _ _)
  case invokespecial =>
    dsimp only [ex1]
    split
    · exact eR_mono fun _ _ => an_i (hg _ _ _ _ _ _)
    · exact popA_mono fun _ _ => an_i (an_i (hc _ _ _ _ _ _ fun _ _ _ => pushR_mono fun _ => hg _ _ _ _ _ _))
  case invokevirtual =>
    dsimp only [ex1]
    split
    · exact eX_mono fun _ _ => an_i (an_i (hg _ _ _ _ _ _))
    · exact eI_mono fun _ _ => eX_mono fun _ _ => an_i (an_i (an_i (hg _ _ _ _ _ _)))
    · exact popA_mono fun _ _ => an_i (an_i (hc _ _ _ _ _ _ fun _ _ _ => pushR_mono fun _ => hg _ _ _ _ _ _))
  case invokestatic =>
    dsimp only [ex1]
    split
    · exact eI_mono fun _ _ => eI_mono fun _ _ => an_i (hg _ _ _ _ _ _)
    · exact eI_mono fun _ _ => eI_mono fun _ _ => an_i (hg _ _ _ _ _ _)
    · exact eI_mono fun _ _ => eI_mono fun _ _ => eR_mono fun _ _ => eI_mono fun _ _ => eR_mono fun _ _ => an_i (an_i (an_i (hg _ _ _ _ _ _)))
    · exact popA_mono fun _ _ => an_i (hc _ _ _ _ _ _ fun _ _ _ => pushR_mono fun _ => hg _ _ _ _ _ _)
  case return_ =>
    dsimp only [ex1]
    split
    · exact an_i (hr _ _ _)
    · exact id
  case ireturn =>
    dsimp only [ex1]
    split
    · exact an_i (hr _ _ _)
    · exact id
  case lreturn =>
    dsimp only [ex1]
    split
    · exact an_i (hr _ _ _)
    · exact id
  case areturn =>
    dsimp only [ex1]
    split
    · exact an_i (hr _ _ _)
    · exact id
  case aload =>
    dsimp only [ex1]
    exact gA_mono fun _ => hg _ _ _ _ _ _
  case aload_n =>
    dsimp only [ex1]
    exact gA_mono fun _ => hg _ _ _ _ _ _
  case pop =>
    dsimp only [ex1]
    exact eW_mono fun _ _ => hg _ _ _ _ _ _
  case dup =>
    dsimp only [ex1]
    exact eW_mono fun _ _ => hg _ _ _ _ _ _
  case dup2 =>
    dsimp only [ex1]
    exact eW_mono fun _ _ => eW_mono fun _ _ => hg _ _ _ _ _ _
  all_goals first
    | exact hg _ _ _ _ _ _
    | exact id
    | exact gI_mono fun _ => hg _ _ _ _ _ _
    | exact gJ_mono fun _ => hg _ _ _ _ _ _
    | exact gA_mono fun _ => hg _ _ _ _ _ _
    | exact eI_mono fun _ _ => sL_mono _ _ _ _ fun _ => hg _ _ _ _ _ _
    | exact eJ_mono fun _ _ => sJ_mono _ _ _ _ fun _ => hg _ _ _ _ _ _
    | exact eO_mono fun _ _ => sL_mono _ _ _ _ fun _ => hg _ _ _ _ _ _
    | exact gI_mono fun _ => sL_mono _ _ _ _ fun _ => hg _ _ _ _ _ _
    | exact eW_mono fun _ _ => hg _ _ _ _ _ _
    | exact eW_mono fun _ _ => eW_mono fun _ _ => hg _ _ _ _ _ _
    | exact eI_mono fun _ _ => hg _ _ _ _ _ _
    | exact eJ_mono fun _ _ => hg _ _ _ _ _ _
    | exact eI_mono fun _ _ => eI_mono fun _ _ => hg _ _ _ _ _ _
    | exact eJ_mono fun _ _ => eJ_mono fun _ _ => hg _ _ _ _ _ _
    | exact eI_mono fun _ _ => eJ_mono fun _ _ => hg _ _ _ _ _ _
    | exact eI_mono fun _ _ => eI_mono fun _ _ => an_i (hg _ _ _ _ _ _)
    | exact eJ_mono fun _ _ => eJ_mono fun _ _ => an_i (hg _ _ _ _ _ _)
theorem wp_mono {X : (Nat → Int) × Nat} : ∀ {n n' : Nat} {d bud mi pc : Nat} {ls : mLo} {st : List mV} {S : List mSh} {s : mSt} {Q Q' : mRt}, n ≤ n' → (∀ r S s, Q r S s → Q' r S s) → wp X n d bud mi pc ls st S s Q → wp X n' d bud mi pc ls st S s Q'
  | 0, _, _, _, _, _, _, _, _, _, _, _, _, _, h => False.elim h
  | n + 1, 0, _, _, _, _, _, _, _, _, _, _, hn, _, _ => absurd hn (by omega)
  | n + 1, n' + 1, d, bud, mi, pc, ls, st, S, s, Q, Q', hn, hq, h => by
    unfold wp at h ⊢
    cases hf : mFetch mi pc with
    | none => rw [hf] at h; exact h
    | some i =>
      rw [hf] at h
      refine ex1_mono (fun b p l t S s z => wp_mono (by omega) hq z) (fun m a S s K K' hk z => ?_) hq h
      cases d with
      | zero => exact z
      | succ d => exact ⟨z.1, wp_mono (by omega) hk z.2⟩
