/-! the law's own loop -/
theorem Wp_step0 {X : (Nat → Int) × Nat} {d pc : Nat} {i : mE} {ls : mLo} {st : List mV} {s : mSt} {Q : mQ} (hf : mFetch 0 pc = some i) (h : ex1 X true 2 d 0 pc i ls st S0 s (mGo X d 0 Q) (mCa X d) (fun r _ s => Q r s)) (hs : sfI i = true := by rfl) : Wp X d 0 pc ls st s Q := by
  obtain ⟨n, hn⟩ := ex1_main hs h
  refine ⟨n + 1, ?_⟩
  unfold wp
  rw [hf]
  exact hn
/-- the law, from its loop on the two objects fresh from their constructors -/
theorem lawOk_of (h : ∀ X : (Nat → Int) × Nat, X.2 ≤ 3072 → (∀ j, nr32 (X.1 j)) → Wp X 1400 0 18 [some (mX 0), some (mR 0), some (mR 407), some (mI 0)] [] (rd bootW) (fun r _ => r = some (mI 1))) : LawOk := by
  intro X h1 h2
  obtain ⟨n, hn⟩ := h X h1 h2
  exact boot ⟨n, wp_mono (Nat.le_refl _) (fun r S s q => q.2) hn⟩
