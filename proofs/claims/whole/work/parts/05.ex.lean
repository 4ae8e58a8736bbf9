/-! a number of steps that does for all that can come -/
theorem eI_ex {st : List mV} {k : Int → List mV → Prop} {k' : Nat → Int → List mV → Prop} (h : ∀ x t, k x t → ∃ n, k' n x t) : eI st k → ∃ n, eI st (k' n) := by
  unfold eI; split
  · exact h _ _
  · exact fun z => ⟨0, z⟩
theorem eJ_ex {st : List mV} {k : Int → List mV → Prop} {k' : Nat → Int → List mV → Prop} (h : ∀ x t, k x t → ∃ n, k' n x t) : eJ st k → ∃ n, eJ st (k' n) := by
  unfold eJ; split
  · exact h _ _
  · exact fun z => ⟨0, z⟩
theorem eR_ex {st : List mV} {k : Nat → List mV → Prop} {k' : Nat → Nat → List mV → Prop} (h : ∀ x t, k x t → ∃ n, k' n x t) : eR st k → ∃ n, eR st (k' n) := by
  unfold eR; split
  · exact h _ _
  · exact fun z => ⟨0, z⟩
theorem eX_ex {st : List mV} {k : Nat → List mV → Prop} {k' : Nat → Nat → List mV → Prop} (h : ∀ x t, k x t → ∃ n, k' n x t) : eX st k → ∃ n, eX st (k' n) := by
  unfold eX; split
  · exact h _ _
  · exact fun z => ⟨0, z⟩
theorem eO_ex {st : List mV} {k : Option Nat → List mV → Prop} {k' : Nat → Option Nat → List mV → Prop} (h : ∀ x t, k x t → ∃ n, k' n x t) : eO st k → ∃ n, eO st (k' n) := by
  unfold eO; split
  · exact h _ _
  · exact fun z => ⟨0, z⟩
theorem eW_ex {st : List mV} {k : mV → List mV → Prop} {k' : Nat → mV → List mV → Prop} (h : ∀ x t, k x t → ∃ n, k' n x t) : eW st k → ∃ n, eW st (k' n) := by
  unfold eW; split
  · exact h _ _
  · exact h _ _
  · exact fun z => ⟨0, z⟩
theorem gI_ex {ls : mLo} {i : Nat} {k : Int → Prop} {k' : Nat → Int → Prop} (h : ∀ x, k x → ∃ n, k' n x) : gI ls i k → ∃ n, gI ls i (k' n) := by
  unfold gI; split
  · exact h _
  · exact fun z => ⟨0, z⟩
theorem gJ_ex {ls : mLo} {i : Nat} {k : Int → Prop} {k' : Nat → Int → Prop} (h : ∀ x, k x → ∃ n, k' n x) : gJ ls i k → ∃ n, gJ ls i (k' n) := by
  unfold gJ; split
  · exact h _
  · exact fun z => ⟨0, z⟩
theorem gA_ex {ls : mLo} {i : Nat} {k : mV → Prop} {k' : Nat → mV → Prop} (h : ∀ x, k x → ∃ n, k' n x) : gA ls i k → ∃ n, gA ls i (k' n) := by
  unfold gA; split
  · exact h _
  · exact fun z => ⟨0, z⟩
theorem sL_ex {v : mV} : ∀ (ls : mLo) (i : Nat) (k : mLo → Prop) (k' : Nat → mLo → Prop), (∀ x, k x → ∃ n, k' n x) → sL ls i v k → ∃ n, sL ls i v (k' n) := by
  intro ls
  induction ls with
  | nil => intro i k k' h z; cases i <;> exact ⟨0, z⟩
  | cons a t ih =>
    intro i k k' h z
    cases i with
    | zero => exact h _ z
    | succ n => exact ih n (fun t' => k (kL n a :: t')) (fun q t' => k' q (kL n a :: t')) (fun x => h _) z
theorem sJ_ex {v : mV} : ∀ (ls : mLo) (i : Nat) (k : mLo → Prop) (k' : Nat → mLo → Prop), (∀ x, k x → ∃ n, k' n x) → sJ ls i v k → ∃ n, sJ ls i v (k' n) := by
  intro ls
  induction ls with
  | nil => intro i k k' h z; cases i <;> exact ⟨0, z⟩
  | cons a t ih =>
    intro i k k' h z
    cases i with
    | zero => cases t with
      | nil => exact ⟨0, z⟩
      | cons b t => exact h _ z
    | succ n =>
      have e : ∀ kk : mLo → Prop, sJ (a :: t) (n + 1) v kk = sJ t n v (fun t' => kk (kL n a :: t')) := fun kk => by cases t <;> rfl
      rw [e] at z
      obtain ⟨q, hq⟩ := ih n (fun t' => k (kL n a :: t')) (fun q t' => k' q (kL n a :: t')) (fun x => h _) z
      exact ⟨q, by rw [e]; exact hq⟩
theorem popA_ex : ∀ {n : Nat} {st acc : List mV} {k : List mV → List mV → Prop} {k' : Nat → List mV → List mV → Prop}, (∀ x t, k x t → ∃ q, k' q x t) → popA n st acc k → ∃ q, popA n st acc (k' q) := by
  intro n
  induction n with
  | zero => intro st acc k k' h z; cases st <;> exact h _ _ z
  | succ n ih =>
    intro st acc k k' h z
    cases st with
    | nil => exact ⟨0, z⟩
    | cons v t => exact ih h z
theorem pushR_ex {r : Option mV} {st : List mV} {k : List mV → Prop} {k' : Nat → List mV → Prop} (h : ∀ x, k x → ∃ n, k' n x) : pushR r st k → ∃ n, pushR r st (k' n) := by
  cases r <;> exact h _
theorem an_e {a c : Prop} {b : Nat → Prop} (h : a → ∃ n, b n) : c ∧ a → ∃ n, c ∧ b n := fun q => (h q.2).imp fun _ z => ⟨q.1, z⟩
/-- of two branches one is taken -/
theorem an_x {a c e f : Prop} {b d : Nat → Prop} (hef : ¬ (e ∧ f)) (h : a → ∃ n, b n) (h' : c → ∃ n, d n) : (e → a) ∧ (f → c) → ∃ n, (e → b n) ∧ (f → d n) := by
  rintro ⟨h1, h2⟩
  by_cases he : e
  · obtain ⟨n, hn⟩ := h (h1 he)
    exact ⟨n, fun _ => hn, fun hf => absurd ⟨he, hf⟩ hef⟩
  · by_cases hf : f
    · obtain ⟨n, hn⟩ := h' (h2 hf)
      exact ⟨n, fun z => absurd z he, fun _ => hn⟩
    · exact ⟨0, fun z => absurd z he, fun z => absurd z hf⟩
theorem ex_e {α : Sort _} {p : α → Prop} {q : Nat → α → Prop} (h : ∀ a, p a → ∃ n, q n a) : (∃ a, p a) → ∃ n, ∃ a, q n a := fun ⟨a, z⟩ => (h a z).imp fun _ y => ⟨a, y⟩
theorem nd_1 {e : Prop} : ¬ (e ∧ ¬ e) := fun h => h.2 h.1
theorem nd_2 {e : Prop} : ¬ (¬ e ∧ e) := fun h => h.1 h.2
set_option maxHeartbeats 4000000 in
theorem ex1_ex {X : (Nat → Int) × Nat} {sc : Bool} {rk d bud pc : Nat} {i : mE} {ls : mLo} {st : List mV} {S : List mSh} {s : mSt} {go : Nat → Nat → mLo → List mV → List mSh → mSt → Prop} {go' : Nat → Nat → Nat → mLo → List mV → List mSh → mSt → Prop} {call : Nat → List mV → List mSh → mSt → mRt → Prop} {call' : Nat → Nat → List mV → List mSh → mSt → mRt → Prop} {ret : mRt} {ret' : Nat → mRt}
    (hg : ∀ b p l t S s, go b p l t S s → ∃ n, go' n b p l t S s) (hc : ∀ m a S s (K : mRt) (K' : Nat → mRt), (∀ r S s, K r S s → ∃ n, K' n r S s) → call m a S s K → ∃ n, call' n m a S s (K' n)) (hr : ∀ r S s, ret r S s → ∃ n, ret' n r S s) :
    ex1 X sc rk d bud pc i ls st S s go call ret → ∃ n, ex1 X sc rk d bud pc i ls st S s (go' n) (call' n) (ret' n) := by
  obtain ⟨op, len, a, b, c, e⟩ := i
  cases op
  case ldc =>
    dsimp only [ex1]
    split <;> exact hg _ _ _ _ _ _
  case ifCond cd _ => cases cd <;> first | exact eI_ex fun _ _ => an_x nd_1 (hg _ _ _ _ _ _) (hg _ _ _ _ _ _) | exact eI_ex fun _ _ => an_x nd_2 (hg _ _ _ _ _ _) (hg _ _ _ _ _ _)
  case if_icmp cd _ => cases cd <;> first | exact eI_ex fun _ _ => eI_ex fun _ _ => an_x nd_1 (hg _ _ _ _ _ _) (hg _ _ _ _ _ _) | exact eI_ex fun _ _ => eI_ex fun _ _ => an_x nd_2 (hg _ _ _ _ _ _) (hg _ _ _ _ _ _)
  case ifnonnull => exact eO_ex fun _ _ => an_x nd_2 (hg _ _ _ _ _ _) (hg _ _ _ _ _ _)
  case getfield =>
    refine eR_ex fun _ _ => an_e ?_
    dsimp only
    split
    · exact hg _ _ _ _ _ _
    · exact hg _ _ _ _ _ _
    · exact ex_e fun _ => an_e (hg _ _ _ _ _ _)
    · exact hg _ _ _ _ _ _
  case putfield =>
    dsimp only [ex1]
    split
    · exact eI_ex fun _ _ => eR_ex fun _ _ => an_e (hg _ _ _ _ _ _)
    · exact eJ_ex fun _ _ => eR_ex fun _ _ => an_e (hg _ _ _ _ _ _)
    · exact eR_ex fun _ _ => eR_ex fun _ _ => an_e (hg _ _ _ _ _ _)
    · exact eI_ex fun _ _ => eR_ex fun _ _ => an_e (an_e (hg _ _ _ _ _ _))
  case iaload =>
    cases sc
    · exact eI_ex fun _ _ => eR_ex fun _ _ => ex_e fun _ => an_e (an_e (hg _ _ _ _ _ _))
    · exact eI_ex fun _ _ => eX_ex fun _ _ => an_e (an_e (an_e (hg _ _ _ _ _ _)))
  case arraylength =>
    cases sc
    · exact eR_ex fun _ _ => ex_e fun _ => ex_e fun _ => an_e (an_e (hg _ _ _ _ _ _))
    · exact eX_ex fun _ _ => an_e (hg _ _ _ _ _ _)
  case baload => exact eI_ex fun _ _ => eR_ex fun _ _ => ex_e fun _ => ex_e fun _ => an_e (an_e (an_e (hg _ _ _ _ _ _)))
  case caload => exact eI_ex fun _ _ => eR_ex fun _ _ => ex_e fun _ => an_e (an_e (hg _ _ _ _ _ _))
  case laload => exact eI_ex fun _ _ => eR_ex fun _ _ => ex_e fun _ => an_e (an_e (hg _ _ _ _ _ _))
  case aaload => exact eI_ex fun _ _ => eR_ex fun _ _ => ex_e fun _ => ex_e fun _ => an_e (an_e (an_e (ex_e fun _ => an_e (hg _ _ _ _ _ _))))
  case iastore => exact eI_ex fun _ _ => eI_ex fun _ _ => eR_ex fun _ _ => ex_e fun _ => an_e (an_e (hg _ _ _ _ _ _))
  case bastore => exact eI_ex fun _ _ => eI_ex fun _ _ => eR_ex fun _ _ => ex_e fun _ => ex_e fun _ => an_e (an_e (an_e (hg _ _ _ _ _ _)))
  case castore => exact eI_ex fun _ _ => eI_ex fun _ _ => eR_ex fun _ _ => ex_e fun _ => an_e (an_e (an_e (hg _ _ _ _ _ _)))
  case lastore => exact eJ_ex fun _ _ => eI_ex fun _ _ => eR_ex fun _ _ => ex_e fun _ => an_e (an_e (hg _ _ _ _ _ _))
  case aastore => exact eR_ex fun _ _ => eI_ex fun _ _ => eR_ex fun _ _ => ex_e fun _ => ex_e fun _ => an_e (an_e (an_e (hg _ _ _ _ _ _)))
  case new => cases bud <;> first | exact fun z => ⟨0, z⟩ | exact an_e (hg _ _ _ _ _ _)
  case newarray => cases bud <;> first | exact fun z => ⟨0, z⟩ | exact eI_ex fun _ _ => an_e (hg _ _ _ _ _ _)
  case anewarray => cases bud <;> first | exact fun z => ⟨0, z⟩ | exact eI_ex fun _ _ => an_e (hg _ _ _ _ _ _)
  case multianewarray => exact eI_ex fun _ _ => eI_ex fun _ _ => an_e (hg _ _ _ _ _ _)
  case invokespecial =>
    dsimp only [ex1]
    split
    · exact eR_ex fun _ _ => an_e (hg _ _ _ _ _ _)
    · exact popA_ex fun _ _ => an_e (an_e (hc _ _ _ _ _ _ fun _ _ _ => pushR_ex fun _ => hg _ _ _ _ _ _))
  case invokevirtual =>
    dsimp only [ex1]
    split
    · exact eX_ex fun _ _ => an_e (an_e (hg _ _ _ _ _ _))
    · exact eI_ex fun _ _ => eX_ex fun _ _ => an_e (an_e (an_e (hg _ _ _ _ _ _)))
    · exact popA_ex fun _ _ => an_e (an_e (hc _ _ _ _ _ _ fun _ _ _ => pushR_ex fun _ => hg _ _ _ _ _ _))
  case invokestatic =>
    dsimp only [ex1]
    split
    · exact eI_ex fun _ _ => eI_ex fun _ _ => an_e (hg _ _ _ _ _ _)
    · exact eI_ex fun _ _ => eI_ex fun _ _ => an_e (hg _ _ _ _ _ _)
    · exact eI_ex fun _ _ => eI_ex fun _ _ => eR_ex fun _ _ => eI_ex fun _ _ => eR_ex fun _ _ => an_e (an_e (an_e (hg _ _ _ _ _ _)))
    · exact popA_ex fun _ _ => an_e (hc _ _ _ _ _ _ fun _ _ _ => pushR_ex fun _ => hg _ _ _ _ _ _)
  case return_ =>
    dsimp only [ex1]
    split
    · exact an_e (hr _ _ _)
    · exact fun z => ⟨0, z⟩
  case ireturn =>
    dsimp only [ex1]
    split
    · exact an_e (hr _ _ _)
    · exact fun z => ⟨0, z⟩
  case lreturn =>
    dsimp only [ex1]
    split
    · exact an_e (hr _ _ _)
    · exact fun z => ⟨0, z⟩
  case areturn =>
    dsimp only [ex1]
    split
    · exact an_e (hr _ _ _)
    · exact fun z => ⟨0, z⟩
  case aload =>
    dsimp only [ex1]
    exact gA_ex fun _ => hg _ _ _ _ _ _
  case aload_n =>
    dsimp only [ex1]
    exact gA_ex fun _ => hg _ _ _ _ _ _
  case pop =>
    dsimp only [ex1]
    exact eW_ex fun _ _ => hg _ _ _ _ _ _
  case dup =>
    dsimp only [ex1]
    exact eW_ex fun _ _ => hg _ _ _ _ _ _
  case dup2 =>
    dsimp only [ex1]
    exact eW_ex fun _ _ => eW_ex fun _ _ => hg _ _ _ _ _ _
  all_goals first
    | exact hg _ _ _ _ _ _
    | exact fun z => ⟨0, z⟩
    | exact gI_ex fun _ => hg _ _ _ _ _ _
    | exact gJ_ex fun _ => hg _ _ _ _ _ _
    | exact gA_ex fun _ => hg _ _ _ _ _ _
    | exact eI_ex fun _ _ => sL_ex _ _ _ _ fun _ => hg _ _ _ _ _ _
    | exact eJ_ex fun _ _ => sJ_ex _ _ _ _ fun _ => hg _ _ _ _ _ _
    | exact eO_ex fun _ _ => sL_ex _ _ _ _ fun _ => hg _ _ _ _ _ _
    | exact gI_ex fun _ => sL_ex _ _ _ _ fun _ => hg _ _ _ _ _ _
    | exact eW_ex fun _ _ => hg _ _ _ _ _ _
    | exact eW_ex fun _ _ => eW_ex fun _ _ => hg _ _ _ _ _ _
    | exact eI_ex fun _ _ => hg _ _ _ _ _ _
    | exact eJ_ex fun _ _ => hg _ _ _ _ _ _
    | exact eI_ex fun _ _ => eI_ex fun _ _ => hg _ _ _ _ _ _
    | exact eJ_ex fun _ _ => eJ_ex fun _ _ => hg _ _ _ _ _ _
    | exact eI_ex fun _ _ => eJ_ex fun _ _ => hg _ _ _ _ _ _
    | exact eI_ex fun _ _ => eI_ex fun _ _ => an_e (hg _ _ _ _ _ _)
    | exact eJ_ex fun _ _ => eJ_ex fun _ _ => an_e (hg _ _ _ _ _ _)
