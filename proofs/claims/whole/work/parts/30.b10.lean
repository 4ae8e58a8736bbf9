-- 151 ClashDay.extras(II)I
theorem k151 : mRk 151 = 1 := by decide +kernel
theorem f151_0 : mFetch 151 0 = some (.aload_n 0, 1, 0, 0, 0, 0) := by decide +kernel
theorem f151_1 : mFetch 151 1 = some (.getfield 41, 3, 11, 5, 2, 1) := by decide +kernel
theorem f151_4 : mFetch 151 4 = some (.getfield 116, 3, 7, 1, 2, 0) := by decide +kernel
theorem f151_7 : mFetch 151 7 = some (.iload_n 1, 1, 0, 0, 0, 0) := by decide +kernel
theorem f151_8 : mFetch 151 8 = some (.invokevirtual 155, 3, 8, 0, 2, 0) := by decide +kernel
theorem f151_11 : mFetch 151 11 = some (.ifCond .eq 12, 3, 23, 0, 0, 0) := by decide +kernel
theorem f151_14 : mFetch 151 14 = some (.iload_n 2, 1, 0, 0, 0, 0) := by decide +kernel
theorem f151_15 : mFetch 151 15 = some (.ifCond .lt 8, 3, 23, 0, 0, 0) := by decide +kernel
theorem f151_18 : mFetch 151 18 = some (.iload_n 2, 1, 0, 0, 0, 0) := by decide +kernel
theorem f151_19 : mFetch 151 19 = some (.iconst 1, 1, 0, 0, 0, 0) := by decide +kernel
theorem f151_20 : mFetch 151 20 = some (.if_icmp .le 5, 3, 25, 0, 0, 0) := by decide +kernel
theorem f151_23 : mFetch 151 23 = some (.iconst (-1), 1, 0, 0, 0, 0) := by decide +kernel
theorem f151_24 : mFetch 151 24 = some (.ireturn, 1, 0, 0, 0, 0) := by decide +kernel
theorem f151_25 : mFetch 151 25 = some (.aload_n 0, 1, 0, 0, 0, 0) := by decide +kernel
theorem f151_26 : mFetch 151 26 = some (.getfield 81, 3, 11, 12, 2, 1) := by decide +kernel
theorem f151_29 : mFetch 151 29 = some (.aload_n 0, 1, 0, 0, 0, 0) := by decide +kernel
theorem f151_30 : mFetch 151 30 = some (.getfield 41, 3, 11, 5, 2, 1) := by decide +kernel
theorem f151_33 : mFetch 151 33 = some (.aload_n 0, 1, 0, 0, 0, 0) := by decide +kernel
theorem f151_34 : mFetch 151 34 = some (.invokevirtual 194, 3, 164, 0, 1, 11) := by decide +kernel
theorem f151_37 : mFetch 151 37 = some (.iload_n 1, 1, 0, 0, 0, 0) := by decide +kernel
theorem f151_38 : mFetch 151 38 = some (.invokevirtual 331, 3, 103, 0, 4, 9) := by decide +kernel
theorem f151_41 : mFetch 151 41 = some (.istore_n 3, 1, 0, 0, 0, 0) := by decide +kernel
theorem f151_42 : mFetch 151 42 = some (.iload_n 2, 1, 0, 0, 0, 0) := by decide +kernel
theorem f151_43 : mFetch 151 43 = some (.ifCond .ne 8, 3, 51, 0, 0, 0) := by decide +kernel
theorem f151_46 : mFetch 151 46 = some (.iload_n 3, 1, 0, 0, 0, 0) := by decide +kernel
theorem f151_47 : mFetch 151 47 = some (.invokestatic 223, 3, 309, 0, 1, 99) := by decide +kernel
theorem f151_50 : mFetch 151 50 = some (.ireturn, 1, 0, 0, 0, 0) := by decide +kernel
theorem f151_51 : mFetch 151 51 = some (.iload_n 3, 1, 0, 0, 0, 0) := by decide +kernel
theorem f151_52 : mFetch 151 52 = some (.ifCond .ne 8, 3, 60, 0, 0, 0) := by decide +kernel
theorem f151_55 : mFetch 151 55 = some (.bipush (-2), 2, 0, 0, 0, 0) := by decide +kernel
theorem f151_57 : mFetch 151 57 = some (.goto 10, 3, 67, 0, 0, 0) := by decide +kernel
theorem f151_60 : mFetch 151 60 = some (.bipush 20, 2, 0, 0, 0, 0) := by decide +kernel
theorem f151_62 : mFetch 151 62 = some (.iload_n 3, 1, 0, 0, 0, 0) := by decide +kernel
theorem f151_63 : mFetch 151 63 = some (.invokestatic 335, 3, 310, 0, 1, 99) := by decide +kernel
theorem f151_66 : mFetch 151 66 = some (.imul, 1, 0, 0, 0, 0) := by decide +kernel
theorem f151_67 : mFetch 151 67 = some (.ireturn, 1, 0, 0, 0, 0) := by decide +kernel
theorem b151_0 {X : (Nat → Int) × Nat} {d : Nat} {s : mSt} {Q : mQ} {x1 : Int} {x2 : Int} {l3 : Option mV} (h_1 : Sp X d 8 [mR 18, mI x1] s (fun r s' => ∃ v : Int, r = some (mI v) ∧ Wp X (d + 1) 151 11 [some (mR 0), some (mI x1), some (mI x2), l3] [mI v] s' Q)) : Wp X (d + 1) 151 0 [some (mR 0), some (mI x1), some (mI x2), l3] [] s Q := Wp_step k151 f151_0 (Wp_step k151 f151_1 ⟨kf_0, 7, rf_0_5, Wp_step k151 f151_4 ⟨kf_7, 18, rf_7_1, Wp_step k151 f151_7 (Wp_step k151 f151_8 ⟨⟨kf_18, Nat.le_of_ble_eq_true rfl⟩, Nat.le_refl _, _, rfl, Sp_E h_1⟩)⟩⟩)
theorem b151_11 {X : (Nat → Int) × Nat} {d : Nat} {s : mSt} {Q : mQ} {x1 : Int} {x2 : Int} {l3 : Option mV} {xt0 : Int} (h_1 : xt0 = 0 → Wp X d 151 23 [some (mR 0), some (mI x1), some (mI x2), l3] [] s Q) (h_2 : ¬ xt0 = 0 → Wp X d 151 14 [some (mR 0), some (mI x1), some (mI x2), l3] [] s Q) : Wp X d 151 11 [some (mR 0), some (mI x1), some (mI x2), l3] [mI xt0] s Q := Wp_step k151 f151_11 ⟨h_1, h_2⟩
theorem b151_14 {X : (Nat → Int) × Nat} {d : Nat} {s : mSt} {Q : mQ} {x1 : Int} {x2 : Int} {l3 : Option mV} (h_1 : x2 < 0 → Wp X d 151 23 [some (mR 0), some (mI x1), some (mI x2), l3] [] s Q) (h_2 : ¬ x2 < 0 → Wp X d 151 18 [some (mR 0), some (mI x1), some (mI x2), l3] [] s Q) : Wp X d 151 14 [some (mR 0), some (mI x1), some (mI x2), l3] [] s Q := Wp_step k151 f151_14 (Wp_step k151 f151_15 ⟨h_1, h_2⟩)
theorem b151_18 {X : (Nat → Int) × Nat} {d : Nat} {s : mSt} {Q : mQ} {x1 : Int} {x2 : Int} {l3 : Option mV} (h_1 : x2 ≤ 1 → Wp X d 151 25 [some (mR 0), some (mI x1), some (mI x2), l3] [] s Q) (h_2 : ¬ x2 ≤ 1 → Wp X d 151 23 [some (mR 0), some (mI x1), some (mI x2), l3] [] s Q) : Wp X d 151 18 [some (mR 0), some (mI x1), some (mI x2), l3] [] s Q := Wp_step k151 f151_18 (Wp_step k151 f151_19 (Wp_step k151 f151_20 ⟨h_1, h_2⟩))
theorem b151_23 {X : (Nat → Int) × Nat} {d : Nat} {s : mSt} {Q : mQ} {x1 : Int} {x2 : Int} {l3 : Option mV} (h_1 : Q (some (mI (-1))) s) : Wp X d 151 23 [some (mR 0), some (mI x1), some (mI x2), l3] [] s Q := Wp_step k151 f151_23 (Wp_step k151 f151_24 ⟨⟨rfl, trivial⟩, h_1⟩)
theorem b151_25 {X : (Nat → Int) × Nat} {d : Nat} {s : mSt} {Q : mQ} {x1 : Int} {x2 : Int} {l3 : Option mV} (h_1 : Sp X d 164 [mR 0] s (fun r s' => ∃ v : Option Nat, r = some (Sum.inr (Sum.inr (Sum.inl v))) ∧ Wp X (d + 1) 151 37 [some (mR 0), some (mI x1), some (mI x2), l3] [Sum.inr (Sum.inr (Sum.inl v)), mR 7, mR 53] s' Q)) : Wp X (d + 1) 151 25 [some (mR 0), some (mI x1), some (mI x2), l3] [] s Q := Wp_step k151 f151_25 (Wp_step k151 f151_26 ⟨kf_0, 53, rf_0_12, Wp_step k151 f151_29 (Wp_step k151 f151_30 ⟨kf_0, 7, rf_0_5, Wp_step k151 f151_33 (Wp_step k151 f151_34 ⟨⟨kf_0, Nat.le_of_ble_eq_true rfl⟩, Nat.le_refl _, _, rfl, Sp_E h_1⟩)⟩)⟩)
theorem b151_37 {X : (Nat → Int) × Nat} {d : Nat} {s : mSt} {Q : mQ} {x1 : Int} {x2 : Int} {l3 : Option mV} {ot2 : Option Nat} (h_1 : Sp X d 103 [mR 53, mR 7, Sum.inr (Sum.inr (Sum.inl ot2)), mI x1] s (fun r s' => ∃ v : Int, r = some (mI v) ∧ Wp X (d + 1) 151 41 [some (mR 0), some (mI x1), some (mI x2), l3] [mI v] s' Q)) : Wp X (d + 1) 151 37 [some (mR 0), some (mI x1), some (mI x2), l3] [Sum.inr (Sum.inr (Sum.inl ot2)), mR 7, mR 53] s Q := Wp_step k151 f151_37 (Wp_step k151 f151_38 ⟨⟨kf_53, Nat.le_of_ble_eq_true rfl⟩, Nat.le_refl _, _, rfl, Sp_E h_1⟩)
theorem b151_41 {X : (Nat → Int) × Nat} {d : Nat} {s : mSt} {Q : mQ} {x1 : Int} {x2 : Int} {l3 : Option mV} {xt0 : Int} (h_1 : ¬ x2 = 0 → Wp X d 151 51 [some (mR 0), some (mI x1), some (mI x2), some (mI xt0)] [] s Q) (h_2 : x2 = 0 → Wp X d 151 46 [some (mR 0), some (mI x1), some (mI x2), some (mI xt0)] [] s Q) : Wp X d 151 41 [some (mR 0), some (mI x1), some (mI x2), l3] [mI xt0] s Q := Wp_step k151 f151_41 (Wp_step k151 f151_42 (Wp_step k151 f151_43 ⟨h_1, h_2⟩))
theorem b151_46 {X : (Nat → Int) × Nat} {d : Nat} {s : mSt} {Q : mQ} {x1 : Int} {x2 : Int} {x3 : Int} (h_1 : Sp X d 309 [mI x3] s (fun r s' => ∃ v : Int, r = some (mI v) ∧ Wp X (d + 1) 151 50 [some (mR 0), some (mI x1), some (mI x2), some (mI x3)] [mI v] s' Q)) : Wp X (d + 1) 151 46 [some (mR 0), some (mI x1), some (mI x2), some (mI x3)] [] s Q := Wp_step k151 f151_46 (Wp_step k151 f151_47 ⟨⟨Nat.le_of_ble_eq_true rfl, Nat.le_refl _⟩, _, rfl, Sp_E h_1⟩)
theorem b151_50 {X : (Nat → Int) × Nat} {d : Nat} {s : mSt} {Q : mQ} {x1 : Int} {x2 : Int} {x3 : Int} {xt0 : Int} (h_1 : Q (some (mI xt0)) s) : Wp X d 151 50 [some (mR 0), some (mI x1), some (mI x2), some (mI x3)] [mI xt0] s Q := Wp_step k151 f151_50 ⟨⟨rfl, trivial⟩, h_1⟩
theorem b151_51 {X : (Nat → Int) × Nat} {d : Nat} {s : mSt} {Q : mQ} {x1 : Int} {x2 : Int} {x3 : Int} (h_1 : ¬ x3 = 0 → Wp X d 151 60 [some (mR 0), some (mI x1), some (mI x2), some (mI x3)] [] s Q) (h_2 : x3 = 0 → Wp X d 151 55 [some (mR 0), some (mI x1), some (mI x2), some (mI x3)] [] s Q) : Wp X d 151 51 [some (mR 0), some (mI x1), some (mI x2), some (mI x3)] [] s Q := Wp_step k151 f151_51 (Wp_step k151 f151_52 ⟨h_1, h_2⟩)
theorem b151_55 {X : (Nat → Int) × Nat} {d : Nat} {s : mSt} {Q : mQ} {x1 : Int} {x2 : Int} {x3 : Int} (h_1 : Wp X d 151 67 [some (mR 0), some (mI x1), some (mI x2), some (mI x3)] [mI (-2)] s Q) : Wp X d 151 55 [some (mR 0), some (mI x1), some (mI x2), some (mI x3)] [] s Q := Wp_step k151 f151_55 (Wp_step k151 f151_57 (h_1))
theorem b151_60 {X : (Nat → Int) × Nat} {d : Nat} {s : mSt} {Q : mQ} {x1 : Int} {x2 : Int} {x3 : Int} (h_1 : Sp X d 310 [mI x3] s (fun r s' => ∃ v : Int, r = some (mI v) ∧ Wp X (d + 1) 151 66 [some (mR 0), some (mI x1), some (mI x2), some (mI x3)] [mI v, mI 20] s' Q)) : Wp X (d + 1) 151 60 [some (mR 0), some (mI x1), some (mI x2), some (mI x3)] [] s Q := Wp_step k151 f151_60 (Wp_step k151 f151_62 (Wp_step k151 f151_63 ⟨⟨Nat.le_of_ble_eq_true rfl, Nat.le_refl _⟩, _, rfl, Sp_E h_1⟩))
theorem b151_66 {X : (Nat → Int) × Nat} {d : Nat} {s : mSt} {Q : mQ} {x1 : Int} {x2 : Int} {x3 : Int} {xt0 : Int} {xt1 : Int} (h_1 : Wp X d 151 67 [some (mR 0), some (mI x1), some (mI x2), some (mI x3)] [mI (w32 (xt0 * xt1))] s Q) : Wp X d 151 66 [some (mR 0), some (mI x1), some (mI x2), some (mI x3)] [mI xt1, mI xt0] s Q := Wp_step k151 f151_66 (h_1)
theorem b151_67 {X : (Nat → Int) × Nat} {d : Nat} {s : mSt} {Q : mQ} {x1 : Int} {x2 : Int} {x3 : Int} {xt0 : Int} (h_1 : Q (some (mI xt0)) s) : Wp X d 151 67 [some (mR 0), some (mI x1), some (mI x2), some (mI x3)] [mI xt0] s Q := Wp_step k151 f151_67 ⟨⟨rfl, trivial⟩, h_1⟩
theorem e151 {X : (Nat → Int) × Nat} {d : Nat} {s : mSt} {Q : mQ} {x1 : Int} {x2 : Int} (h : Wp X d 151 0 [some (mR 0), some (mI x1), some (mI x2), none] [] s Q) : Sp X d 151 [mR 0, mI x1, mI x2] s Q := Sp_of (show mCe 151 = 0 by decide +kernel) (by rw [show mML 151 = 4 by decide +kernel]; rfl) (Nat.le_trans (Nat.le_of_ble_eq_true (show Nat.ble (mArgs _).length 4 = true from rfl)) (show 4 ≤ mML 151 by decide +kernel)) h
-- 152 ClashDay.resting(I)I
theorem k152 : mRk 152 = 1 := by decide +kernel
theorem f152_0 : mFetch 152 0 = some (.aload_n 0, 1, 0, 0, 0, 0) := by decide +kernel
theorem f152_1 : mFetch 152 1 = some (.getfield 41, 3, 11, 5, 2, 1) := by decide +kernel
theorem f152_4 : mFetch 152 4 = some (.getfield 116, 3, 7, 1, 2, 0) := by decide +kernel
theorem f152_7 : mFetch 152 7 = some (.iload_n 1, 1, 0, 0, 0, 0) := by decide +kernel
theorem f152_8 : mFetch 152 8 = some (.invokevirtual 155, 3, 8, 0, 2, 0) := by decide +kernel
theorem f152_11 : mFetch 152 11 = some (.ifCond .ne 5, 3, 16, 0, 0, 0) := by decide +kernel
theorem f152_14 : mFetch 152 14 = some (.iconst (-1), 1, 0, 0, 0, 0) := by decide +kernel
theorem f152_15 : mFetch 152 15 = some (.ireturn, 1, 0, 0, 0, 0) := by decide +kernel
theorem f152_16 : mFetch 152 16 = some (.aload_n 0, 1, 0, 0, 0, 0) := by decide +kernel
theorem f152_17 : mFetch 152 17 = some (.getfield 81, 3, 11, 12, 2, 1) := by decide +kernel
theorem f152_20 : mFetch 152 20 = some (.aload_n 0, 1, 0, 0, 0, 0) := by decide +kernel
theorem f152_21 : mFetch 152 21 = some (.getfield 41, 3, 11, 5, 2, 1) := by decide +kernel
theorem f152_24 : mFetch 152 24 = some (.aload_n 0, 1, 0, 0, 0, 0) := by decide +kernel
theorem f152_25 : mFetch 152 25 = some (.invokevirtual 194, 3, 164, 0, 1, 11) := by decide +kernel
theorem f152_28 : mFetch 152 28 = some (.iload_n 1, 1, 0, 0, 0, 0) := by decide +kernel
theorem f152_29 : mFetch 152 29 = some (.invokevirtual 338, 3, 104, 0, 4, 9) := by decide +kernel
theorem f152_32 : mFetch 152 32 = some (.ireturn, 1, 0, 0, 0, 0) := by decide +kernel
theorem b152_0 {X : (Nat → Int) × Nat} {d : Nat} {s : mSt} {Q : mQ} {x1 : Int} (h_1 : Sp X d 8 [mR 18, mI x1] s (fun r s' => ∃ v : Int, r = some (mI v) ∧ Wp X (d + 1) 152 11 [some (mR 0), some (mI x1)] [mI v] s' Q)) : Wp X (d + 1) 152 0 [some (mR 0), some (mI x1)] [] s Q := Wp_step k152 f152_0 (Wp_step k152 f152_1 ⟨kf_0, 7, rf_0_5, Wp_step k152 f152_4 ⟨kf_7, 18, rf_7_1, Wp_step k152 f152_7 (Wp_step k152 f152_8 ⟨⟨kf_18, Nat.le_of_ble_eq_true rfl⟩, Nat.le_refl _, _, rfl, Sp_E h_1⟩)⟩⟩)
theorem b152_11 {X : (Nat → Int) × Nat} {d : Nat} {s : mSt} {Q : mQ} {x1 : Int} {xt0 : Int} (h_1 : ¬ xt0 = 0 → Wp X d 152 16 [some (mR 0), some (mI x1)] [] s Q) (h_2 : xt0 = 0 → Wp X d 152 14 [some (mR 0), some (mI x1)] [] s Q) : Wp X d 152 11 [some (mR 0), some (mI x1)] [mI xt0] s Q := Wp_step k152 f152_11 ⟨h_1, h_2⟩
theorem b152_14 {X : (Nat → Int) × Nat} {d : Nat} {s : mSt} {Q : mQ} {x1 : Int} (h_1 : Q (some (mI (-1))) s) : Wp X d 152 14 [some (mR 0), some (mI x1)] [] s Q := Wp_step k152 f152_14 (Wp_step k152 f152_15 ⟨⟨rfl, trivial⟩, h_1⟩)
theorem b152_16 {X : (Nat → Int) × Nat} {d : Nat} {s : mSt} {Q : mQ} {x1 : Int} (h_1 : Sp X d 164 [mR 0] s (fun r s' => ∃ v : Option Nat, r = some (Sum.inr (Sum.inr (Sum.inl v))) ∧ Wp X (d + 1) 152 28 [some (mR 0), some (mI x1)] [Sum.inr (Sum.inr (Sum.inl v)), mR 7, mR 53] s' Q)) : Wp X (d + 1) 152 16 [some (mR 0), some (mI x1)] [] s Q := Wp_step k152 f152_16 (Wp_step k152 f152_17 ⟨kf_0, 53, rf_0_12, Wp_step k152 f152_20 (Wp_step k152 f152_21 ⟨kf_0, 7, rf_0_5, Wp_step k152 f152_24 (Wp_step k152 f152_25 ⟨⟨kf_0, Nat.le_of_ble_eq_true rfl⟩, Nat.le_refl _, _, rfl, Sp_E h_1⟩)⟩)⟩)
theorem b152_28 {X : (Nat → Int) × Nat} {d : Nat} {s : mSt} {Q : mQ} {x1 : Int} {ot2 : Option Nat} (h_1 : Sp X d 104 [mR 53, mR 7, Sum.inr (Sum.inr (Sum.inl ot2)), mI x1] s (fun r s' => ∃ v : Int, r = some (mI v) ∧ Wp X (d + 1) 152 32 [some (mR 0), some (mI x1)] [mI v] s' Q)) : Wp X (d + 1) 152 28 [some (mR 0), some (mI x1)] [Sum.inr (Sum.inr (Sum.inl ot2)), mR 7, mR 53] s Q := Wp_step k152 f152_28 (Wp_step k152 f152_29 ⟨⟨kf_53, Nat.le_of_ble_eq_true rfl⟩, Nat.le_refl _, _, rfl, Sp_E h_1⟩)
theorem b152_32 {X : (Nat → Int) × Nat} {d : Nat} {s : mSt} {Q : mQ} {x1 : Int} {xt0 : Int} (h_1 : Q (some (mI xt0)) s) : Wp X d 152 32 [some (mR 0), some (mI x1)] [mI xt0] s Q := Wp_step k152 f152_32 ⟨⟨rfl, trivial⟩, h_1⟩
theorem e152 {X : (Nat → Int) × Nat} {d : Nat} {s : mSt} {Q : mQ} {x1 : Int} (h : Wp X d 152 0 [some (mR 0), some (mI x1)] [] s Q) : Sp X d 152 [mR 0, mI x1] s Q := Sp_of (show mCe 152 = 0 by decide +kernel) (by rw [show mML 152 = 2 by decide +kernel]; rfl) (Nat.le_trans (Nat.le_of_ble_eq_true (show Nat.ble (mArgs _).length 2 = true from rfl)) (show 2 ≤ mML 152 by decide +kernel)) h
-- 153 ClashDay.rests(III)I
theorem k153 : mRk 153 = 1 := by decide +kernel
theorem f153_0 : mFetch 153 0 = some (.aload_n 0, 1, 0, 0, 0, 0) := by decide +kernel
theorem f153_1 : mFetch 153 1 = some (.getfield 41, 3, 11, 5, 2, 1) := by decide +kernel
theorem f153_4 : mFetch 153 4 = some (.getfield 116, 3, 7, 1, 2, 0) := by decide +kernel
theorem f153_7 : mFetch 153 7 = some (.astore 4, 2, 0, 0, 0, 0) := by decide +kernel
theorem f153_9 : mFetch 153 9 = some (.aload 4, 2, 0, 0, 0, 0) := by decide +kernel
theorem f153_11 : mFetch 153 11 = some (.iload_n 1, 1, 0, 0, 0, 0) := by decide +kernel
theorem f153_12 : mFetch 153 12 = some (.invokevirtual 167, 3, 10, 0, 2, 0) := by decide +kernel
theorem f153_15 : mFetch 153 15 = some (.ifCond .eq 26, 3, 41, 0, 0, 0) := by decide +kernel
theorem f153_18 : mFetch 153 18 = some (.aload 4, 2, 0, 0, 0, 0) := by decide +kernel
theorem f153_20 : mFetch 153 20 = some (.iload_n 2, 1, 0, 0, 0, 0) := by decide +kernel
theorem f153_21 : mFetch 153 21 = some (.invokevirtual 167, 3, 10, 0, 2, 0) := by decide +kernel
theorem f153_24 : mFetch 153 24 = some (.ifCond .eq 17, 3, 41, 0, 0, 0) := by decide +kernel
theorem f153_27 : mFetch 153 27 = some (.iload_n 1, 1, 0, 0, 0, 0) := by decide +kernel
theorem f153_28 : mFetch 153 28 = some (.iload_n 2, 1, 0, 0, 0, 0) := by decide +kernel
theorem f153_29 : mFetch 153 29 = some (.if_icmp .eq 12, 3, 41, 0, 0, 0) := by decide +kernel
theorem f153_32 : mFetch 153 32 = some (.iload_n 3, 1, 0, 0, 0, 0) := by decide +kernel
theorem f153_33 : mFetch 153 33 = some (.ifCond .lt 8, 3, 41, 0, 0, 0) := by decide +kernel
theorem f153_36 : mFetch 153 36 = some (.iload_n 3, 1, 0, 0, 0, 0) := by decide +kernel
theorem f153_37 : mFetch 153 37 = some (.iconst 2, 1, 0, 0, 0, 0) := by decide +kernel
theorem f153_38 : mFetch 153 38 = some (.if_icmp .le 5, 3, 43, 0, 0, 0) := by decide +kernel
theorem f153_41 : mFetch 153 41 = some (.iconst (-1), 1, 0, 0, 0, 0) := by decide +kernel
theorem f153_42 : mFetch 153 42 = some (.ireturn, 1, 0, 0, 0, 0) := by decide +kernel
theorem f153_43 : mFetch 153 43 = some (.aload_n 0, 1, 0, 0, 0, 0) := by decide +kernel
theorem f153_44 : mFetch 153 44 = some (.getfield 81, 3, 11, 12, 2, 1) := by decide +kernel
theorem f153_47 : mFetch 153 47 = some (.aload 4, 2, 0, 0, 0, 0) := by decide +kernel
theorem f153_49 : mFetch 153 49 = some (.iload_n 1, 1, 0, 0, 0, 0) := by decide +kernel
theorem f153_50 : mFetch 153 50 = some (.iload_n 2, 1, 0, 0, 0, 0) := by decide +kernel
theorem f153_51 : mFetch 153 51 = some (.invokevirtual 341, 3, 110, 0, 4, 9) := by decide +kernel
theorem f153_54 : mFetch 153 54 = some (.istore 5, 2, 0, 0, 0, 0) := by decide +kernel
theorem f153_56 : mFetch 153 56 = some (.iload_n 3, 1, 0, 0, 0, 0) := by decide +kernel
theorem f153_57 : mFetch 153 57 = some (.ifCond .ne 9, 3, 66, 0, 0, 0) := by decide +kernel
theorem f153_60 : mFetch 153 60 = some (.iload 5, 2, 0, 0, 0, 0) := by decide +kernel
theorem f153_62 : mFetch 153 62 = some (.invokestatic 223, 3, 309, 0, 1, 99) := by decide +kernel
theorem f153_65 : mFetch 153 65 = some (.ireturn, 1, 0, 0, 0, 0) := by decide +kernel
theorem f153_66 : mFetch 153 66 = some (.iload 5, 2, 0, 0, 0, 0) := by decide +kernel
theorem f153_68 : mFetch 153 68 = some (.ifCond .ne 6, 3, 74, 0, 0, 0) := by decide +kernel
theorem f153_71 : mFetch 153 71 = some (.bipush (-2), 2, 0, 0, 0, 0) := by decide +kernel
theorem f153_73 : mFetch 153 73 = some (.ireturn, 1, 0, 0, 0, 0) := by decide +kernel
theorem f153_74 : mFetch 153 74 = some (.iload 5, 2, 0, 0, 0, 0) := by decide +kernel
theorem f153_76 : mFetch 153 76 = some (.invokestatic 335, 3, 310, 0, 1, 99) := by decide +kernel
theorem f153_79 : mFetch 153 79 = some (.istore 6, 2, 0, 0, 0, 0) := by decide +kernel
theorem f153_81 : mFetch 153 81 = some (.iload_n 3, 1, 0, 0, 0, 0) := by decide +kernel
theorem f153_82 : mFetch 153 82 = some (.iconst 1, 1, 0, 0, 0, 0) := by decide +kernel
theorem f153_83 : mFetch 153 83 = some (.if_icmp .ne 10, 3, 93, 0, 0, 0) := by decide +kernel
theorem f153_86 : mFetch 153 86 = some (.iload 6, 2, 0, 0, 0, 0) := by decide +kernel
theorem f153_88 : mFetch 153 88 = some (.iconst 4, 1, 0, 0, 0, 0) := by decide +kernel
theorem f153_89 : mFetch 153 89 = some (.idiv, 1, 0, 0, 0, 0) := by decide +kernel
theorem f153_90 : mFetch 153 90 = some (.goto 7, 3, 97, 0, 0, 0) := by decide +kernel
theorem f153_93 : mFetch 153 93 = some (.iload 6, 2, 0, 0, 0, 0) := by decide +kernel
theorem f153_95 : mFetch 153 95 = some (.iconst 4, 1, 0, 0, 0, 0) := by decide +kernel
theorem f153_96 : mFetch 153 96 = some (.irem, 1, 0, 0, 0, 0) := by decide +kernel
theorem f153_97 : mFetch 153 97 = some (.ireturn, 1, 0, 0, 0, 0) := by decide +kernel
theorem b153_0 {X : (Nat → Int) × Nat} {d : Nat} {s : mSt} {Q : mQ} {x1 : Int} {x2 : Int} {x3 : Int} {l4 : Option mV} {l5 : Option mV} {l6 : Option mV} (h_1 : Sp X d 10 [mR 18, mI x1] s (fun r s' => ∃ v : Int, r = some (mI v) ∧ Wp X (d + 1) 153 15 [some (mR 0), some (mI x1), some (mI x2), some (mI x3), some (mR 18), l5, l6] [mI v] s' Q)) : Wp X (d + 1) 153 0 [some (mR 0), some (mI x1), some (mI x2), some (mI x3), l4, l5, l6] [] s Q := Wp_step k153 f153_0 (Wp_step k153 f153_1 ⟨kf_0, 7, rf_0_5, Wp_step k153 f153_4 ⟨kf_7, 18, rf_7_1, Wp_step k153 f153_7 (Wp_step k153 f153_9 (Wp_step k153 f153_11 (Wp_step k153 f153_12 ⟨⟨kf_18, Nat.le_of_ble_eq_true rfl⟩, Nat.le_refl _, _, rfl, Sp_E h_1⟩)))⟩⟩)
theorem b153_15 {X : (Nat → Int) × Nat} {d : Nat} {s : mSt} {Q : mQ} {x1 : Int} {x2 : Int} {x3 : Int} {l5 : Option mV} {l6 : Option mV} {xt0 : Int} (h_1 : xt0 = 0 → Wp X d 153 41 [some (mR 0), some (mI x1), some (mI x2), some (mI x3), some (mR 18), l5, l6] [] s Q) (h_2 : ¬ xt0 = 0 → Wp X d 153 18 [some (mR 0), some (mI x1), some (mI x2), some (mI x3), some (mR 18), l5, l6] [] s Q) : Wp X d 153 15 [some (mR 0), some (mI x1), some (mI x2), some (mI x3), some (mR 18), l5, l6] [mI xt0] s Q := Wp_step k153 f153_15 ⟨h_1, h_2⟩
theorem b153_18 {X : (Nat → Int) × Nat} {d : Nat} {s : mSt} {Q : mQ} {x1 : Int} {x2 : Int} {x3 : Int} {l5 : Option mV} {l6 : Option mV} (h_1 : Sp X d 10 [mR 18, mI x2] s (fun r s' => ∃ v : Int, r = some (mI v) ∧ Wp X (d + 1) 153 24 [some (mR 0), some (mI x1), some (mI x2), some (mI x3), some (mR 18), l5, l6] [mI v] s' Q)) : Wp X (d + 1) 153 18 [some (mR 0), some (mI x1), some (mI x2), some (mI x3), some (mR 18), l5, l6] [] s Q := Wp_step k153 f153_18 (Wp_step k153 f153_20 (Wp_step k153 f153_21 ⟨⟨kf_18, Nat.le_of_ble_eq_true rfl⟩, Nat.le_refl _, _, rfl, Sp_E h_1⟩))
theorem b153_24 {X : (Nat → Int) × Nat} {d : Nat} {s : mSt} {Q : mQ} {x1 : Int} {x2 : Int} {x3 : Int} {l5 : Option mV} {l6 : Option mV} {xt0 : Int} (h_1 : xt0 = 0 → Wp X d 153 41 [some (mR 0), some (mI x1), some (mI x2), some (mI x3), some (mR 18), l5, l6] [] s Q) (h_2 : ¬ xt0 = 0 → Wp X d 153 27 [some (mR 0), some (mI x1), some (mI x2), some (mI x3), some (mR 18), l5, l6] [] s Q) : Wp X d 153 24 [some (mR 0), some (mI x1), some (mI x2), some (mI x3), some (mR 18), l5, l6] [mI xt0] s Q := Wp_step k153 f153_24 ⟨h_1, h_2⟩
theorem b153_27 {X : (Nat → Int) × Nat} {d : Nat} {s : mSt} {Q : mQ} {x1 : Int} {x2 : Int} {x3 : Int} {l5 : Option mV} {l6 : Option mV} (h_1 : x1 = x2 → Wp X d 153 41 [some (mR 0), some (mI x1), some (mI x2), some (mI x3), some (mR 18), l5, l6] [] s Q) (h_2 : ¬ x1 = x2 → Wp X d 153 32 [some (mR 0), some (mI x1), some (mI x2), some (mI x3), some (mR 18), l5, l6] [] s Q) : Wp X d 153 27 [some (mR 0), some (mI x1), some (mI x2), some (mI x3), some (mR 18), l5, l6] [] s Q := Wp_step k153 f153_27 (Wp_step k153 f153_28 (Wp_step k153 f153_29 ⟨h_1, h_2⟩))
theorem b153_32 {X : (Nat → Int) × Nat} {d : Nat} {s : mSt} {Q : mQ} {x1 : Int} {x2 : Int} {x3 : Int} {l5 : Option mV} {l6 : Option mV} (h_1 : x3 < 0 → Wp X d 153 41 [some (mR 0), some (mI x1), some (mI x2), some (mI x3), some (mR 18), l5, l6] [] s Q) (h_2 : ¬ x3 < 0 → Wp X d 153 36 [some (mR 0), some (mI x1), some (mI x2), some (mI x3), some (mR 18), l5, l6] [] s Q) : Wp X d 153 32 [some (mR 0), some (mI x1), some (mI x2), some (mI x3), some (mR 18), l5, l6] [] s Q := Wp_step k153 f153_32 (Wp_step k153 f153_33 ⟨h_1, h_2⟩)
theorem b153_36 {X : (Nat → Int) × Nat} {d : Nat} {s : mSt} {Q : mQ} {x1 : Int} {x2 : Int} {x3 : Int} {l5 : Option mV} {l6 : Option mV} (h_1 : x3 ≤ 2 → Wp X d 153 43 [some (mR 0), some (mI x1), some (mI x2), some (mI x3), some (mR 18), l5, l6] [] s Q) (h_2 : ¬ x3 ≤ 2 → Wp X d 153 41 [some (mR 0), some (mI x1), some (mI x2), some (mI x3), some (mR 18), l5, l6] [] s Q) : Wp X d 153 36 [some (mR 0), some (mI x1), some (mI x2), some (mI x3), some (mR 18), l5, l6] [] s Q := Wp_step k153 f153_36 (Wp_step k153 f153_37 (Wp_step k153 f153_38 ⟨h_1, h_2⟩))
theorem b153_41 {X : (Nat → Int) × Nat} {d : Nat} {s : mSt} {Q : mQ} {x1 : Int} {x2 : Int} {x3 : Int} {l5 : Option mV} {l6 : Option mV} (h_1 : Q (some (mI (-1))) s) : Wp X d 153 41 [some (mR 0), some (mI x1), some (mI x2), some (mI x3), some (mR 18), l5, l6] [] s Q := Wp_step k153 f153_41 (Wp_step k153 f153_42 ⟨⟨rfl, trivial⟩, h_1⟩)
theorem b153_43 {X : (Nat → Int) × Nat} {d : Nat} {s : mSt} {Q : mQ} {x1 : Int} {x2 : Int} {x3 : Int} {l5 : Option mV} {l6 : Option mV} (h_1 : Sp X d 110 [mR 53, mR 18, mI x1, mI x2] s (fun r s' => ∃ v : Int, r = some (mI v) ∧ Wp X (d + 1) 153 54 [some (mR 0), some (mI x1), some (mI x2), some (mI x3), some (mR 18), l5, l6] [mI v] s' Q)) : Wp X (d + 1) 153 43 [some (mR 0), some (mI x1), some (mI x2), some (mI x3), some (mR 18), l5, l6] [] s Q := Wp_step k153 f153_43 (Wp_step k153 f153_44 ⟨kf_0, 53, rf_0_12, Wp_step k153 f153_47 (Wp_step k153 f153_49 (Wp_step k153 f153_50 (Wp_step k153 f153_51 ⟨⟨kf_53, Nat.le_of_ble_eq_true rfl⟩, Nat.le_refl _, _, rfl, Sp_E h_1⟩)))⟩)
theorem b153_54 {X : (Nat → Int) × Nat} {d : Nat} {s : mSt} {Q : mQ} {x1 : Int} {x2 : Int} {x3 : Int} {l5 : Option mV} {l6 : Option mV} {xt0 : Int} (h_1 : ¬ x3 = 0 → Wp X d 153 66 [some (mR 0), some (mI x1), some (mI x2), some (mI x3), some (mR 18), some (mI xt0), l6] [] s Q) (h_2 : x3 = 0 → Wp X d 153 60 [some (mR 0), some (mI x1), some (mI x2), some (mI x3), some (mR 18), some (mI xt0), l6] [] s Q) : Wp X d 153 54 [some (mR 0), some (mI x1), some (mI x2), some (mI x3), some (mR 18), l5, l6] [mI xt0] s Q := Wp_step k153 f153_54 (Wp_step k153 f153_56 (Wp_step k153 f153_57 ⟨h_1, h_2⟩))
theorem b153_60 {X : (Nat → Int) × Nat} {d : Nat} {s : mSt} {Q : mQ} {x1 : Int} {x2 : Int} {x3 : Int} {x5 : Int} {l6 : Option mV} (h_1 : Sp X d 309 [mI x5] s (fun r s' => ∃ v : Int, r = some (mI v) ∧ Wp X (d + 1) 153 65 [some (mR 0), some (mI x1), some (mI x2), some (mI x3), some (mR 18), some (mI x5), l6] [mI v] s' Q)) : Wp X (d + 1) 153 60 [some (mR 0), some (mI x1), some (mI x2), some (mI x3), some (mR 18), some (mI x5), l6] [] s Q := Wp_step k153 f153_60 (Wp_step k153 f153_62 ⟨⟨Nat.le_of_ble_eq_true rfl, Nat.le_refl _⟩, _, rfl, Sp_E h_1⟩)
theorem b153_65 {X : (Nat → Int) × Nat} {d : Nat} {s : mSt} {Q : mQ} {x1 : Int} {x2 : Int} {x3 : Int} {x5 : Int} {l6 : Option mV} {xt0 : Int} (h_1 : Q (some (mI xt0)) s) : Wp X d 153 65 [some (mR 0), some (mI x1), some (mI x2), some (mI x3), some (mR 18), some (mI x5), l6] [mI xt0] s Q := Wp_step k153 f153_65 ⟨⟨rfl, trivial⟩, h_1⟩
theorem b153_66 {X : (Nat → Int) × Nat} {d : Nat} {s : mSt} {Q : mQ} {x1 : Int} {x2 : Int} {x3 : Int} {x5 : Int} {l6 : Option mV} (h_1 : ¬ x5 = 0 → Wp X d 153 74 [some (mR 0), some (mI x1), some (mI x2), some (mI x3), some (mR 18), some (mI x5), l6] [] s Q) (h_2 : x5 = 0 → Wp X d 153 71 [some (mR 0), some (mI x1), some (mI x2), some (mI x3), some (mR 18), some (mI x5), l6] [] s Q) : Wp X d 153 66 [some (mR 0), some (mI x1), some (mI x2), some (mI x3), some (mR 18), some (mI x5), l6] [] s Q := Wp_step k153 f153_66 (Wp_step k153 f153_68 ⟨h_1, h_2⟩)
theorem b153_71 {X : (Nat → Int) × Nat} {d : Nat} {s : mSt} {Q : mQ} {x1 : Int} {x2 : Int} {x3 : Int} {x5 : Int} {l6 : Option mV} (h_1 : Q (some (mI (-2))) s) : Wp X d 153 71 [some (mR 0), some (mI x1), some (mI x2), some (mI x3), some (mR 18), some (mI x5), l6] [] s Q := Wp_step k153 f153_71 (Wp_step k153 f153_73 ⟨⟨rfl, trivial⟩, h_1⟩)
theorem b153_74 {X : (Nat → Int) × Nat} {d : Nat} {s : mSt} {Q : mQ} {x1 : Int} {x2 : Int} {x3 : Int} {x5 : Int} {l6 : Option mV} (h_1 : Sp X d 310 [mI x5] s (fun r s' => ∃ v : Int, r = some (mI v) ∧ Wp X (d + 1) 153 79 [some (mR 0), some (mI x1), some (mI x2), some (mI x3), some (mR 18), some (mI x5), l6] [mI v] s' Q)) : Wp X (d + 1) 153 74 [some (mR 0), some (mI x1), some (mI x2), some (mI x3), some (mR 18), some (mI x5), l6] [] s Q := Wp_step k153 f153_74 (Wp_step k153 f153_76 ⟨⟨Nat.le_of_ble_eq_true rfl, Nat.le_refl _⟩, _, rfl, Sp_E h_1⟩)
theorem b153_79 {X : (Nat → Int) × Nat} {d : Nat} {s : mSt} {Q : mQ} {x1 : Int} {x2 : Int} {x3 : Int} {x5 : Int} {l6 : Option mV} {xt0 : Int} (h_1 : ¬ x3 = 1 → Wp X d 153 93 [some (mR 0), some (mI x1), some (mI x2), some (mI x3), some (mR 18), some (mI x5), some (mI xt0)] [] s Q) (h_2 : x3 = 1 → Wp X d 153 86 [some (mR 0), some (mI x1), some (mI x2), some (mI x3), some (mR 18), some (mI x5), some (mI xt0)] [] s Q) : Wp X d 153 79 [some (mR 0), some (mI x1), some (mI x2), some (mI x3), some (mR 18), some (mI x5), l6] [mI xt0] s Q := Wp_step k153 f153_79 (Wp_step k153 f153_81 (Wp_step k153 f153_82 (Wp_step k153 f153_83 ⟨h_1, h_2⟩)))
theorem b153_86 {X : (Nat → Int) × Nat} {d : Nat} {s : mSt} {Q : mQ} {x1 : Int} {x2 : Int} {x3 : Int} {x5 : Int} {x6 : Int} (h_1 : Wp X d 153 97 [some (mR 0), some (mI x1), some (mI x2), some (mI x3), some (mR 18), some (mI x5), some (mI x6)] [mI (w32 (Int.tdiv x6 4))] s Q) : Wp X d 153 86 [some (mR 0), some (mI x1), some (mI x2), some (mI x3), some (mR 18), some (mI x5), some (mI x6)] [] s Q := Wp_step k153 f153_86 (Wp_step k153 f153_88 (Wp_step k153 f153_89 ⟨(by decide), Wp_step k153 f153_90 (h_1)⟩))
theorem b153_93 {X : (Nat → Int) × Nat} {d : Nat} {s : mSt} {Q : mQ} {x1 : Int} {x2 : Int} {x3 : Int} {x5 : Int} {x6 : Int} (h_1 : Wp X d 153 97 [some (mR 0), some (mI x1), some (mI x2), some (mI x3), some (mR 18), some (mI x5), some (mI x6)] [mI (Int.tmod x6 4)] s Q) : Wp X d 153 93 [some (mR 0), some (mI x1), some (mI x2), some (mI x3), some (mR 18), some (mI x5), some (mI x6)] [] s Q := Wp_step k153 f153_93 (Wp_step k153 f153_95 (Wp_step k153 f153_96 ⟨(by decide), h_1⟩))
theorem b153_97 {X : (Nat → Int) × Nat} {d : Nat} {s : mSt} {Q : mQ} {x1 : Int} {x2 : Int} {x3 : Int} {x5 : Int} {x6 : Int} {xt0 : Int} (h_1 : Q (some (mI xt0)) s) : Wp X d 153 97 [some (mR 0), some (mI x1), some (mI x2), some (mI x3), some (mR 18), some (mI x5), some (mI x6)] [mI xt0] s Q := Wp_step k153 f153_97 ⟨⟨rfl, trivial⟩, h_1⟩
theorem e153 {X : (Nat → Int) × Nat} {d : Nat} {s : mSt} {Q : mQ} {x1 : Int} {x2 : Int} {x3 : Int} (h : Wp X d 153 0 [some (mR 0), some (mI x1), some (mI x2), some (mI x3), none, none, none] [] s Q) : Sp X d 153 [mR 0, mI x1, mI x2, mI x3] s Q := Sp_of (show mCe 153 = 0 by decide +kernel) (by rw [show mML 153 = 7 by decide +kernel]; rfl) (Nat.le_trans (Nat.le_of_ble_eq_true (show Nat.ble (mArgs _).length 7 = true from rfl)) (show 7 ≤ mML 153 by decide +kernel)) h
-- 154 ClashDay.pence(II)I
theorem k154 : mRk 154 = 1 := by decide +kernel
theorem f154_0 : mFetch 154 0 = some (.aload_n 0, 1, 0, 0, 0, 0) := by decide +kernel
theorem f154_1 : mFetch 154 1 = some (.getfield 41, 3, 11, 5, 2, 1) := by decide +kernel
theorem f154_4 : mFetch 154 4 = some (.getfield 116, 3, 7, 1, 2, 0) := by decide +kernel
theorem f154_7 : mFetch 154 7 = some (.astore_n 3, 1, 0, 0, 0, 0) := by decide +kernel
theorem f154_8 : mFetch 154 8 = some (.iload_n 1, 1, 0, 0, 0, 0) := by decide +kernel
theorem f154_9 : mFetch 154 9 = some (.ifCond .lt 18, 3, 27, 0, 0, 0) := by decide +kernel
theorem f154_12 : mFetch 154 12 = some (.iload_n 1, 1, 0, 0, 0, 0) := by decide +kernel
theorem f154_13 : mFetch 154 13 = some (.sipush 9999, 3, 0, 0, 0, 0) := by decide +kernel
theorem f154_16 : mFetch 154 16 = some (.if_icmp .gt 11, 3, 27, 0, 0, 0) := by decide +kernel
theorem f154_19 : mFetch 154 19 = some (.aload_n 3, 1, 0, 0, 0, 0) := by decide +kernel
theorem f154_20 : mFetch 154 20 = some (.iload_n 2, 1, 0, 0, 0, 0) := by decide +kernel
theorem f154_21 : mFetch 154 21 = some (.invokevirtual 155, 3, 8, 0, 2, 0) := by decide +kernel
theorem f154_24 : mFetch 154 24 = some (.ifCond .ne 5, 3, 29, 0, 0, 0) := by decide +kernel
theorem f154_27 : mFetch 154 27 = some (.iconst (-1), 1, 0, 0, 0, 0) := by decide +kernel
theorem f154_28 : mFetch 154 28 = some (.ireturn, 1, 0, 0, 0, 0) := by decide +kernel
theorem f154_29 : mFetch 154 29 = some (.aload_n 3, 1, 0, 0, 0, 0) := by decide +kernel
theorem f154_30 : mFetch 154 30 = some (.iload_n 2, 1, 0, 0, 0, 0) := by decide +kernel
theorem f154_31 : mFetch 154 31 = some (.invokevirtual 167, 3, 10, 0, 2, 0) := by decide +kernel
theorem f154_34 : mFetch 154 34 = some (.ifCond .eq 7, 3, 41, 0, 0, 0) := by decide +kernel
theorem f154_37 : mFetch 154 37 = some (.iconst 0, 1, 0, 0, 0, 0) := by decide +kernel
theorem f154_38 : mFetch 154 38 = some (.goto 9, 3, 47, 0, 0, 0) := by decide +kernel
theorem f154_41 : mFetch 154 41 = some (.aload_n 3, 1, 0, 0, 0, 0) := by decide +kernel
theorem f154_42 : mFetch 154 42 = some (.iload_n 1, 1, 0, 0, 0, 0) := by decide +kernel
theorem f154_43 : mFetch 154 43 = some (.iload_n 2, 1, 0, 0, 0, 0) := by decide +kernel
theorem f154_44 : mFetch 154 44 = some (.invokevirtual 344, 3, 30, 0, 3, 0) := by decide +kernel
theorem f154_47 : mFetch 154 47 = some (.ireturn, 1, 0, 0, 0, 0) := by decide +kernel
theorem b154_0 {X : (Nat → Int) × Nat} {d : Nat} {s : mSt} {Q : mQ} {x1 : Int} {x2 : Int} {l3 : Option mV} (h_1 : x1 < 0 → Wp X d 154 27 [some (mR 0), some (mI x1), some (mI x2), some (mR 18)] [] s Q) (h_2 : ¬ x1 < 0 → Wp X d 154 12 [some (mR 0), some (mI x1), some (mI x2), some (mR 18)] [] s Q) : Wp X d 154 0 [some (mR 0), some (mI x1), some (mI x2), l3] [] s Q := Wp_step k154 f154_0 (Wp_step k154 f154_1 ⟨kf_0, 7, rf_0_5, Wp_step k154 f154_4 ⟨kf_7, 18, rf_7_1, Wp_step k154 f154_7 (Wp_step k154 f154_8 (Wp_step k154 f154_9 ⟨h_1, h_2⟩))⟩⟩)
theorem b154_12 {X : (Nat → Int) × Nat} {d : Nat} {s : mSt} {Q : mQ} {x1 : Int} {x2 : Int} (h_1 : 9999 < x1 → Wp X d 154 27 [some (mR 0), some (mI x1), some (mI x2), some (mR 18)] [] s Q) (h_2 : ¬ 9999 < x1 → Wp X d 154 19 [some (mR 0), some (mI x1), some (mI x2), some (mR 18)] [] s Q) : Wp X d 154 12 [some (mR 0), some (mI x1), some (mI x2), some (mR 18)] [] s Q := Wp_step k154 f154_12 (Wp_step k154 f154_13 (Wp_step k154 f154_16 ⟨h_1, h_2⟩))
theorem b154_19 {X : (Nat → Int) × Nat} {d : Nat} {s : mSt} {Q : mQ} {x1 : Int} {x2 : Int} (h_1 : Sp X d 8 [mR 18, mI x2] s (fun r s' => ∃ v : Int, r = some (mI v) ∧ Wp X (d + 1) 154 24 [some (mR 0), some (mI x1), some (mI x2), some (mR 18)] [mI v] s' Q)) : Wp X (d + 1) 154 19 [some (mR 0), some (mI x1), some (mI x2), some (mR 18)] [] s Q := Wp_step k154 f154_19 (Wp_step k154 f154_20 (Wp_step k154 f154_21 ⟨⟨kf_18, Nat.le_of_ble_eq_true rfl⟩, Nat.le_refl _, _, rfl, Sp_E h_1⟩))
theorem b154_24 {X : (Nat → Int) × Nat} {d : Nat} {s : mSt} {Q : mQ} {x1 : Int} {x2 : Int} {xt0 : Int} (h_1 : ¬ xt0 = 0 → Wp X d 154 29 [some (mR 0), some (mI x1), some (mI x2), some (mR 18)] [] s Q) (h_2 : xt0 = 0 → Wp X d 154 27 [some (mR 0), some (mI x1), some (mI x2), some (mR 18)] [] s Q) : Wp X d 154 24 [some (mR 0), some (mI x1), some (mI x2), some (mR 18)] [mI xt0] s Q := Wp_step k154 f154_24 ⟨h_1, h_2⟩
theorem b154_27 {X : (Nat → Int) × Nat} {d : Nat} {s : mSt} {Q : mQ} {x1 : Int} {x2 : Int} (h_1 : Q (some (mI (-1))) s) : Wp X d 154 27 [some (mR 0), some (mI x1), some (mI x2), some (mR 18)] [] s Q := Wp_step k154 f154_27 (Wp_step k154 f154_28 ⟨⟨rfl, trivial⟩, h_1⟩)
theorem b154_29 {X : (Nat → Int) × Nat} {d : Nat} {s : mSt} {Q : mQ} {x1 : Int} {x2 : Int} (h_1 : Sp X d 10 [mR 18, mI x2] s (fun r s' => ∃ v : Int, r = some (mI v) ∧ Wp X (d + 1) 154 34 [some (mR 0), some (mI x1), some (mI x2), some (mR 18)] [mI v] s' Q)) : Wp X (d + 1) 154 29 [some (mR 0), some (mI x1), some (mI x2), some (mR 18)] [] s Q := Wp_step k154 f154_29 (Wp_step k154 f154_30 (Wp_step k154 f154_31 ⟨⟨kf_18, Nat.le_of_ble_eq_true rfl⟩, Nat.le_refl _, _, rfl, Sp_E h_1⟩))
theorem b154_34 {X : (Nat → Int) × Nat} {d : Nat} {s : mSt} {Q : mQ} {x1 : Int} {x2 : Int} {xt0 : Int} (h_1 : xt0 = 0 → Wp X d 154 41 [some (mR 0), some (mI x1), some (mI x2), some (mR 18)] [] s Q) (h_2 : ¬ xt0 = 0 → Wp X d 154 37 [some (mR 0), some (mI x1), some (mI x2), some (mR 18)] [] s Q) : Wp X d 154 34 [some (mR 0), some (mI x1), some (mI x2), some (mR 18)] [mI xt0] s Q := Wp_step k154 f154_34 ⟨h_1, h_2⟩
theorem b154_37 {X : (Nat → Int) × Nat} {d : Nat} {s : mSt} {Q : mQ} {x1 : Int} {x2 : Int} (h_1 : Wp X d 154 47 [some (mR 0), some (mI x1), some (mI x2), some (mR 18)] [mI 0] s Q) : Wp X d 154 37 [some (mR 0), some (mI x1), some (mI x2), some (mR 18)] [] s Q := Wp_step k154 f154_37 (Wp_step k154 f154_38 (h_1))
theorem b154_41 {X : (Nat → Int) × Nat} {d : Nat} {s : mSt} {Q : mQ} {x1 : Int} {x2 : Int} (h_1 : Sp X d 30 [mR 18, mI x1, mI x2] s (fun r s' => ∃ v : Int, r = some (mI v) ∧ Wp X (d + 1) 154 47 [some (mR 0), some (mI x1), some (mI x2), some (mR 18)] [mI v] s' Q)) : Wp X (d + 1) 154 41 [some (mR 0), some (mI x1), some (mI x2), some (mR 18)] [] s Q := Wp_step k154 f154_41 (Wp_step k154 f154_42 (Wp_step k154 f154_43 (Wp_step k154 f154_44 ⟨⟨kf_18, Nat.le_of_ble_eq_true rfl⟩, Nat.le_refl _, _, rfl, Sp_E h_1⟩)))
theorem b154_47 {X : (Nat → Int) × Nat} {d : Nat} {s : mSt} {Q : mQ} {x1 : Int} {x2 : Int} {xt0 : Int} (h_1 : Q (some (mI xt0)) s) : Wp X d 154 47 [some (mR 0), some (mI x1), some (mI x2), some (mR 18)] [mI xt0] s Q := Wp_step k154 f154_47 ⟨⟨rfl, trivial⟩, h_1⟩
theorem e154 {X : (Nat → Int) × Nat} {d : Nat} {s : mSt} {Q : mQ} {x1 : Int} {x2 : Int} (h : Wp X d 154 0 [some (mR 0), some (mI x1), some (mI x2), none] [] s Q) : Sp X d 154 [mR 0, mI x1, mI x2] s Q := Sp_of (show mCe 154 = 0 by decide +kernel) (by rw [show mML 154 = 4 by decide +kernel]; rfl) (Nat.le_trans (Nat.le_of_ble_eq_true (show Nat.ble (mArgs _).length 4 = true from rfl)) (show 4 ≤ mML 154 by decide +kernel)) h
-- 155 ClashDay.note(III)I
theorem k155 : mRk 155 = 1 := by decide +kernel
theorem f155_0 : mFetch 155 0 = some (.aload_n 0, 1, 0, 0, 0, 0) := by decide +kernel
theorem f155_1 : mFetch 155 1 = some (.getfield 41, 3, 11, 5, 2, 1) := by decide +kernel
theorem f155_4 : mFetch 155 4 = some (.getfield 119, 3, 7, 2, 2, 0) := by decide +kernel
theorem f155_7 : mFetch 155 7 = some (.astore 4, 2, 0, 0, 0, 0) := by decide +kernel
theorem f155_9 : mFetch 155 9 = some (.iload_n 1, 1, 0, 0, 0, 0) := by decide +kernel
theorem f155_10 : mFetch 155 10 = some (.iconst (-1), 1, 0, 0, 0, 0) := by decide +kernel
theorem f155_11 : mFetch 155 11 = some (.if_icmp .ne 11, 3, 22, 0, 0, 0) := by decide +kernel
theorem f155_14 : mFetch 155 14 = some (.aload 4, 2, 0, 0, 0, 0) := by decide +kernel
theorem f155_16 : mFetch 155 16 = some (.iconst 0, 1, 0, 0, 0, 0) := by decide +kernel
theorem f155_17 : mFetch 155 17 = some (.putfield 123, 3, 3, 0, 0, 0) := by decide +kernel
theorem f155_20 : mFetch 155 20 = some (.iconst 0, 1, 0, 0, 0, 0) := by decide +kernel
theorem f155_21 : mFetch 155 21 = some (.ireturn, 1, 0, 0, 0, 0) := by decide +kernel
theorem f155_22 : mFetch 155 22 = some (.iload_n 1, 1, 0, 0, 0, 0) := by decide +kernel
theorem f155_23 : mFetch 155 23 = some (.ifCond .lt 30, 3, 53, 0, 0, 0) := by decide +kernel
theorem f155_26 : mFetch 155 26 = some (.iload_n 1, 1, 0, 0, 0, 0) := by decide +kernel
theorem f155_27 : mFetch 155 27 = some (.bipush 9, 2, 0, 0, 0, 0) := by decide +kernel
theorem f155_29 : mFetch 155 29 = some (.if_icmp .gt 24, 3, 53, 0, 0, 0) := by decide +kernel
theorem f155_32 : mFetch 155 32 = some (.iload_n 2, 1, 0, 0, 0, 0) := by decide +kernel
theorem f155_33 : mFetch 155 33 = some (.invokestatic 174, 3, 163, 0, 1, 99) := by decide +kernel
theorem f155_36 : mFetch 155 36 = some (.ifCond .eq 17, 3, 53, 0, 0, 0) := by decide +kernel
theorem f155_39 : mFetch 155 39 = some (.iload_n 3, 1, 0, 0, 0, 0) := by decide +kernel
theorem f155_40 : mFetch 155 40 = some (.ifCond .lt 13, 3, 53, 0, 0, 0) := by decide +kernel
theorem f155_43 : mFetch 155 43 = some (.iload_n 3, 1, 0, 0, 0, 0) := by decide +kernel
theorem f155_44 : mFetch 155 44 = some (.bipush 9, 2, 0, 0, 0, 0) := by decide +kernel
theorem f155_46 : mFetch 155 46 = some (.if_icmp .gt 7, 3, 53, 0, 0, 0) := by decide +kernel
theorem f155_49 : mFetch 155 49 = some (.iconst 1, 1, 0, 0, 0, 0) := by decide +kernel
theorem f155_50 : mFetch 155 50 = some (.goto 4, 3, 54, 0, 0, 0) := by decide +kernel
theorem f155_53 : mFetch 155 53 = some (.iconst 0, 1, 0, 0, 0, 0) := by decide +kernel
theorem f155_54 : mFetch 155 54 = some (.istore 5, 2, 0, 0, 0, 0) := by decide +kernel
theorem f155_56 : mFetch 155 56 = some (.aload_n 0, 1, 0, 0, 0, 0) := by decide +kernel
theorem f155_57 : mFetch 155 57 = some (.getfield 41, 3, 11, 5, 2, 1) := by decide +kernel
theorem f155_60 : mFetch 155 60 = some (.getfield 116, 3, 7, 1, 2, 0) := by decide +kernel
theorem f155_63 : mFetch 155 63 = some (.invokevirtual 170, 3, 6, 0, 1, 0) := by decide +kernel
theorem f155_66 : mFetch 155 66 = some (.ifCond .eq 16, 3, 82, 0, 0, 0) := by decide +kernel
theorem f155_69 : mFetch 155 69 = some (.iload 5, 2, 0, 0, 0, 0) := by decide +kernel
theorem f155_71 : mFetch 155 71 = some (.ifCond .eq 11, 3, 82, 0, 0, 0) := by decide +kernel
theorem f155_74 : mFetch 155 74 = some (.aload 4, 2, 0, 0, 0, 0) := by decide +kernel
theorem f155_76 : mFetch 155 76 = some (.invokevirtual 347, 3, 54, 0, 1, 3) := by decide +kernel
theorem f155_79 : mFetch 155 79 = some (.ifCond .eq 6, 3, 85, 0, 0, 0) := by decide +kernel
theorem f155_82 : mFetch 155 82 = some (.bipush (-2), 2, 0, 0, 0, 0) := by decide +kernel
theorem f155_84 : mFetch 155 84 = some (.ireturn, 1, 0, 0, 0, 0) := by decide +kernel
theorem f155_85 : mFetch 155 85 = some (.aload 4, 2, 0, 0, 0, 0) := by decide +kernel
theorem f155_87 : mFetch 155 87 = some (.iload_n 1, 1, 0, 0, 0, 0) := by decide +kernel
theorem f155_88 : mFetch 155 88 = some (.iload_n 2, 1, 0, 0, 0, 0) := by decide +kernel
theorem f155_89 : mFetch 155 89 = some (.iload_n 3, 1, 0, 0, 0, 0) := by decide +kernel
theorem f155_90 : mFetch 155 90 = some (.invokevirtual 350, 3, 55, 0, 4, 3) := by decide +kernel
theorem f155_93 : mFetch 155 93 = some (.aload 4, 2, 0, 0, 0, 0) := by decide +kernel
theorem f155_95 : mFetch 155 95 = some (.getfield 123, 3, 3, 0, 0, 0) := by decide +kernel
theorem f155_98 : mFetch 155 98 = some (.ireturn, 1, 0, 0, 0, 0) := by decide +kernel
theorem b155_0 {X : (Nat → Int) × Nat} {d : Nat} {s : mSt} {Q : mQ} {x1 : Int} {x2 : Int} {x3 : Int} {l4 : Option mV} {l5 : Option mV} (h_1 : ¬ x1 = (-1) → Wp X d 155 22 [some (mR 0), some (mI x1), some (mI x2), some (mI x3), some (mR 28), l5] [] s Q) (h_2 : x1 = (-1) → Wp X d 155 14 [some (mR 0), some (mI x1), some (mI x2), some (mI x3), some (mR 28), l5] [] s Q) : Wp X d 155 0 [some (mR 0), some (mI x1), some (mI x2), some (mI x3), l4, l5] [] s Q := Wp_step k155 f155_0 (Wp_step k155 f155_1 ⟨kf_0, 7, rf_0_5, Wp_step k155 f155_4 ⟨kf_7, 28, rf_7_2, Wp_step k155 f155_7 (Wp_step k155 f155_9 (Wp_step k155 f155_10 (Wp_step k155 f155_11 ⟨h_1, h_2⟩)))⟩⟩)
theorem b155_14 {X : (Nat → Int) × Nat} {d : Nat} {s : mSt} {Q : mQ} {x1 : Int} {x2 : Int} {x3 : Int} {l5 : Option mV} (h_1 : Q (some (mI 0)) (uS s 28 0 0)) : Wp X d 155 14 [some (mR 0), some (mI x1), some (mI x2), some (mI x3), some (mR 28), l5] [] s Q := Wp_step k155 f155_14 (Wp_step k155 f155_16 (Wp_step k155 f155_17 ⟨kf_28, Wp_step k155 f155_20 (Wp_step k155 f155_21 ⟨⟨rfl, trivial⟩, h_1⟩)⟩))
theorem b155_22 {X : (Nat → Int) × Nat} {d : Nat} {s : mSt} {Q : mQ} {x1 : Int} {x2 : Int} {x3 : Int} {l5 : Option mV} (h_1 : x1 < 0 → Wp X d 155 53 [some (mR 0), some (mI x1), some (mI x2), some (mI x3), some (mR 28), l5] [] s Q) (h_2 : ¬ x1 < 0 → Wp X d 155 26 [some (mR 0), some (mI x1), some (mI x2), some (mI x3), some (mR 28), l5] [] s Q) : Wp X d 155 22 [some (mR 0), some (mI x1), some (mI x2), some (mI x3), some (mR 28), l5] [] s Q := Wp_step k155 f155_22 (Wp_step k155 f155_23 ⟨h_1, h_2⟩)
theorem b155_26 {X : (Nat → Int) × Nat} {d : Nat} {s : mSt} {Q : mQ} {x1 : Int} {x2 : Int} {x3 : Int} {l5 : Option mV} (h_1 : 9 < x1 → Wp X d 155 53 [some (mR 0), some (mI x1), some (mI x2), some (mI x3), some (mR 28), l5] [] s Q) (h_2 : ¬ 9 < x1 → Wp X d 155 32 [some (mR 0), some (mI x1), some (mI x2), some (mI x3), some (mR 28), l5] [] s Q) : Wp X d 155 26 [some (mR 0), some (mI x1), some (mI x2), some (mI x3), some (mR 28), l5] [] s Q := Wp_step k155 f155_26 (Wp_step k155 f155_27 (Wp_step k155 f155_29 ⟨h_1, h_2⟩))
theorem b155_32 {X : (Nat → Int) × Nat} {d : Nat} {s : mSt} {Q : mQ} {x1 : Int} {x2 : Int} {x3 : Int} {l5 : Option mV} (h_1 : Sp X d 163 [mI x2] s (fun r s' => ∃ v : Int, r = some (mI v) ∧ Wp X (d + 1) 155 36 [some (mR 0), some (mI x1), some (mI x2), some (mI x3), some (mR 28), l5] [mI v] s' Q)) : Wp X (d + 1) 155 32 [some (mR 0), some (mI x1), some (mI x2), some (mI x3), some (mR 28), l5] [] s Q := Wp_step k155 f155_32 (Wp_step k155 f155_33 ⟨⟨Nat.le_of_ble_eq_true rfl, Nat.le_refl _⟩, _, rfl, Sp_E h_1⟩)
theorem b155_36 {X : (Nat → Int) × Nat} {d : Nat} {s : mSt} {Q : mQ} {x1 : Int} {x2 : Int} {x3 : Int} {l5 : Option mV} {xt0 : Int} (h_1 : xt0 = 0 → Wp X d 155 53 [some (mR 0), some (mI x1), some (mI x2), some (mI x3), some (mR 28), l5] [] s Q) (h_2 : ¬ xt0 = 0 → Wp X d 155 39 [some (mR 0), some (mI x1), some (mI x2), some (mI x3), some (mR 28), l5] [] s Q) : Wp X d 155 36 [some (mR 0), some (mI x1), some (mI x2), some (mI x3), some (mR 28), l5] [mI xt0] s Q := Wp_step k155 f155_36 ⟨h_1, h_2⟩
theorem b155_39 {X : (Nat → Int) × Nat} {d : Nat} {s : mSt} {Q : mQ} {x1 : Int} {x2 : Int} {x3 : Int} {l5 : Option mV} (h_1 : x3 < 0 → Wp X d 155 53 [some (mR 0), some (mI x1), some (mI x2), some (mI x3), some (mR 28), l5] [] s Q) (h_2 : ¬ x3 < 0 → Wp X d 155 43 [some (mR 0), some (mI x1), some (mI x2), some (mI x3), some (mR 28), l5] [] s Q) : Wp X d 155 39 [some (mR 0), some (mI x1), some (mI x2), some (mI x3), some (mR 28), l5] [] s Q := Wp_step k155 f155_39 (Wp_step k155 f155_40 ⟨h_1, h_2⟩)
theorem b155_43 {X : (Nat → Int) × Nat} {d : Nat} {s : mSt} {Q : mQ} {x1 : Int} {x2 : Int} {x3 : Int} {l5 : Option mV} (h_1 : 9 < x3 → Wp X d 155 53 [some (mR 0), some (mI x1), some (mI x2), some (mI x3), some (mR 28), l5] [] s Q) (h_2 : ¬ 9 < x3 → Wp X d 155 49 [some (mR 0), some (mI x1), some (mI x2), some (mI x3), some (mR 28), l5] [] s Q) : Wp X d 155 43 [some (mR 0), some (mI x1), some (mI x2), some (mI x3), some (mR 28), l5] [] s Q := Wp_step k155 f155_43 (Wp_step k155 f155_44 (Wp_step k155 f155_46 ⟨h_1, h_2⟩))
theorem b155_49 {X : (Nat → Int) × Nat} {d : Nat} {s : mSt} {Q : mQ} {x1 : Int} {x2 : Int} {x3 : Int} {l5 : Option mV} (h_1 : Wp X d 155 54 [some (mR 0), some (mI x1), some (mI x2), some (mI x3), some (mR 28), l5] [mI 1] s Q) : Wp X d 155 49 [some (mR 0), some (mI x1), some (mI x2), some (mI x3), some (mR 28), l5] [] s Q := Wp_step k155 f155_49 (Wp_step k155 f155_50 (h_1))
theorem b155_53 {X : (Nat → Int) × Nat} {d : Nat} {s : mSt} {Q : mQ} {x1 : Int} {x2 : Int} {x3 : Int} {l5 : Option mV} (h_1 : Wp X d 155 54 [some (mR 0), some (mI x1), some (mI x2), some (mI x3), some (mR 28), l5] [mI 0] s Q) : Wp X d 155 53 [some (mR 0), some (mI x1), some (mI x2), some (mI x3), some (mR 28), l5] [] s Q := Wp_step k155 f155_53 (h_1)
theorem b155_54 {X : (Nat → Int) × Nat} {d : Nat} {s : mSt} {Q : mQ} {x1 : Int} {x2 : Int} {x3 : Int} {l5 : Option mV} {xt0 : Int} (h_1 : Sp X d 6 [mR 18] s (fun r s' => ∃ v : Int, r = some (mI v) ∧ Wp X (d + 1) 155 66 [some (mR 0), some (mI x1), some (mI x2), some (mI x3), some (mR 28), some (mI xt0)] [mI v] s' Q)) : Wp X (d + 1) 155 54 [some (mR 0), some (mI x1), some (mI x2), some (mI x3), some (mR 28), l5] [mI xt0] s Q := Wp_step k155 f155_54 (Wp_step k155 f155_56 (Wp_step k155 f155_57 ⟨kf_0, 7, rf_0_5, Wp_step k155 f155_60 ⟨kf_7, 18, rf_7_1, Wp_step k155 f155_63 ⟨⟨kf_18, Nat.le_of_ble_eq_true rfl⟩, Nat.le_refl _, _, rfl, Sp_E h_1⟩⟩⟩))
theorem b155_66 {X : (Nat → Int) × Nat} {d : Nat} {s : mSt} {Q : mQ} {x1 : Int} {x2 : Int} {x3 : Int} {x5 : Int} {xt0 : Int} (h_1 : xt0 = 0 → Wp X d 155 82 [some (mR 0), some (mI x1), some (mI x2), some (mI x3), some (mR 28), some (mI x5)] [] s Q) (h_2 : ¬ xt0 = 0 → Wp X d 155 69 [some (mR 0), some (mI x1), some (mI x2), some (mI x3), some (mR 28), some (mI x5)] [] s Q) : Wp X d 155 66 [some (mR 0), some (mI x1), some (mI x2), some (mI x3), some (mR 28), some (mI x5)] [mI xt0] s Q := Wp_step k155 f155_66 ⟨h_1, h_2⟩
theorem b155_69 {X : (Nat → Int) × Nat} {d : Nat} {s : mSt} {Q : mQ} {x1 : Int} {x2 : Int} {x3 : Int} {x5 : Int} (h_1 : x5 = 0 → Wp X d 155 82 [some (mR 0), some (mI x1), some (mI x2), some (mI x3), some (mR 28), some (mI x5)] [] s Q) (h_2 : ¬ x5 = 0 → Wp X d 155 74 [some (mR 0), some (mI x1), some (mI x2), some (mI x3), some (mR 28), some (mI x5)] [] s Q) : Wp X d 155 69 [some (mR 0), some (mI x1), some (mI x2), some (mI x3), some (mR 28), some (mI x5)] [] s Q := Wp_step k155 f155_69 (Wp_step k155 f155_71 ⟨h_1, h_2⟩)
theorem b155_74 {X : (Nat → Int) × Nat} {d : Nat} {s : mSt} {Q : mQ} {x1 : Int} {x2 : Int} {x3 : Int} {x5 : Int} (h_1 : Sp X d 54 [mR 28] s (fun r s' => ∃ v : Int, r = some (mI v) ∧ Wp X (d + 1) 155 79 [some (mR 0), some (mI x1), some (mI x2), some (mI x3), some (mR 28), some (mI x5)] [mI v] s' Q)) : Wp X (d + 1) 155 74 [some (mR 0), some (mI x1), some (mI x2), some (mI x3), some (mR 28), some (mI x5)] [] s Q := Wp_step k155 f155_74 (Wp_step k155 f155_76 ⟨⟨kf_28, Nat.le_of_ble_eq_true rfl⟩, Nat.le_refl _, _, rfl, Sp_E h_1⟩)
theorem b155_79 {X : (Nat → Int) × Nat} {d : Nat} {s : mSt} {Q : mQ} {x1 : Int} {x2 : Int} {x3 : Int} {x5 : Int} {xt0 : Int} (h_1 : xt0 = 0 → Wp X d 155 85 [some (mR 0), some (mI x1), some (mI x2), some (mI x3), some (mR 28), some (mI x5)] [] s Q) (h_2 : ¬ xt0 = 0 → Wp X d 155 82 [some (mR 0), some (mI x1), some (mI x2), some (mI x3), some (mR 28), some (mI x5)] [] s Q) : Wp X d 155 79 [some (mR 0), some (mI x1), some (mI x2), some (mI x3), some (mR 28), some (mI x5)] [mI xt0] s Q := Wp_step k155 f155_79 ⟨h_1, h_2⟩
theorem b155_82 {X : (Nat → Int) × Nat} {d : Nat} {s : mSt} {Q : mQ} {x1 : Int} {x2 : Int} {x3 : Int} {x5 : Int} (h_1 : Q (some (mI (-2))) s) : Wp X d 155 82 [some (mR 0), some (mI x1), some (mI x2), some (mI x3), some (mR 28), some (mI x5)] [] s Q := Wp_step k155 f155_82 (Wp_step k155 f155_84 ⟨⟨rfl, trivial⟩, h_1⟩)
theorem b155_85 {X : (Nat → Int) × Nat} {d : Nat} {s : mSt} {Q : mQ} {x1 : Int} {x2 : Int} {x3 : Int} {x5 : Int} (h_1 : Sp X d 55 [mR 28, mI x1, mI x2, mI x3] s (fun r s' => r = none ∧ Wp X (d + 1) 155 93 [some (mR 0), some (mI x1), some (mI x2), some (mI x3), some (mR 28), some (mI x5)] [] s' Q)) : Wp X (d + 1) 155 85 [some (mR 0), some (mI x1), some (mI x2), some (mI x3), some (mR 28), some (mI x5)] [] s Q := Wp_step k155 f155_85 (Wp_step k155 f155_87 (Wp_step k155 f155_88 (Wp_step k155 f155_89 (Wp_step k155 f155_90 ⟨⟨kf_28, Nat.le_of_ble_eq_true rfl⟩, Nat.le_refl _, _, rfl, Sp_V h_1⟩))))
theorem b155_93 {X : (Nat → Int) × Nat} {d : Nat} {s : mSt} {Q : mQ} {x1 : Int} {x2 : Int} {x3 : Int} {x5 : Int} (h_1 : Q (some (mI (s 28 0))) s) : Wp X d 155 93 [some (mR 0), some (mI x1), some (mI x2), some (mI x3), some (mR 28), some (mI x5)] [] s Q := Wp_step k155 f155_93 (Wp_step k155 f155_95 ⟨kf_28, Wp_step k155 f155_98 ⟨⟨rfl, trivial⟩, h_1⟩⟩)
theorem e155 {X : (Nat → Int) × Nat} {d : Nat} {s : mSt} {Q : mQ} {x1 : Int} {x2 : Int} {x3 : Int} (h : Wp X d 155 0 [some (mR 0), some (mI x1), some (mI x2), some (mI x3), none, none] [] s Q) : Sp X d 155 [mR 0, mI x1, mI x2, mI x3] s Q := Sp_of (show mCe 155 = 0 by decide +kernel) (by rw [show mML 155 = 6 by decide +kernel]; rfl) (Nat.le_trans (Nat.le_of_ble_eq_true (show Nat.ble (mArgs _).length 6 = true from rfl)) (show 6 ≤ mML 155 by decide +kernel)) h
-- 156 ClashDay.ruled(I)I
theorem k156 : mRk 156 = 1 := by decide +kernel
theorem f156_0 : mFetch 156 0 = some (.aload_n 0, 1, 0, 0, 0, 0) := by decide +kernel
theorem f156_1 : mFetch 156 1 = some (.getfield 41, 3, 11, 5, 2, 1) := by decide +kernel
theorem f156_4 : mFetch 156 4 = some (.getfield 116, 3, 7, 1, 2, 0) := by decide +kernel
theorem f156_7 : mFetch 156 7 = some (.invokevirtual 170, 3, 6, 0, 1, 0) := by decide +kernel
theorem f156_10 : mFetch 156 10 = some (.ifCond .eq 12, 3, 22, 0, 0, 0) := by decide +kernel
theorem f156_13 : mFetch 156 13 = some (.iload_n 1, 1, 0, 0, 0, 0) := by decide +kernel
theorem f156_14 : mFetch 156 14 = some (.ifCond .lt 8, 3, 22, 0, 0, 0) := by decide +kernel
theorem f156_17 : mFetch 156 17 = some (.iload_n 1, 1, 0, 0, 0, 0) := by decide +kernel
theorem f156_18 : mFetch 156 18 = some (.iconst 1, 1, 0, 0, 0, 0) := by decide +kernel
theorem f156_19 : mFetch 156 19 = some (.if_icmp .le 6, 3, 25, 0, 0, 0) := by decide +kernel
theorem f156_22 : mFetch 156 22 = some (.bipush (-3), 2, 0, 0, 0, 0) := by decide +kernel
theorem f156_24 : mFetch 156 24 = some (.ireturn, 1, 0, 0, 0, 0) := by decide +kernel
theorem f156_25 : mFetch 156 25 = some (.aload_n 0, 1, 0, 0, 0, 0) := by decide +kernel
theorem f156_26 : mFetch 156 26 = some (.getfield 81, 3, 11, 12, 2, 1) := by decide +kernel
theorem f156_29 : mFetch 156 29 = some (.aload_n 0, 1, 0, 0, 0, 0) := by decide +kernel
theorem f156_30 : mFetch 156 30 = some (.getfield 41, 3, 11, 5, 2, 1) := by decide +kernel
theorem f156_33 : mFetch 156 33 = some (.aload_n 0, 1, 0, 0, 0, 0) := by decide +kernel
theorem f156_34 : mFetch 156 34 = some (.getfield 34, 3, 11, 3, 2, 1) := by decide +kernel
theorem f156_37 : mFetch 156 37 = some (.aload_n 0, 1, 0, 0, 0, 0) := by decide +kernel
theorem f156_38 : mFetch 156 38 = some (.getfield 132, 3, 11, 4, 0, 1) := by decide +kernel
theorem f156_41 : mFetch 156 41 = some (.invokevirtual 353, 3, 105, 0, 4, 9) := by decide +kernel
theorem f156_44 : mFetch 156 44 = some (.istore_n 2, 1, 0, 0, 0, 0) := by decide +kernel
theorem f156_45 : mFetch 156 45 = some (.iload_n 1, 1, 0, 0, 0, 0) := by decide +kernel
theorem f156_46 : mFetch 156 46 = some (.ifCond .ne 8, 3, 54, 0, 0, 0) := by decide +kernel
theorem f156_49 : mFetch 156 49 = some (.iload_n 2, 1, 0, 0, 0, 0) := by decide +kernel
theorem f156_50 : mFetch 156 50 = some (.invokestatic 223, 3, 309, 0, 1, 99) := by decide +kernel
theorem f156_53 : mFetch 156 53 = some (.ireturn, 1, 0, 0, 0, 0) := by decide +kernel
theorem f156_54 : mFetch 156 54 = some (.iload_n 2, 1, 0, 0, 0, 0) := by decide +kernel
theorem f156_55 : mFetch 156 55 = some (.ifCond .ne 8, 3, 63, 0, 0, 0) := by decide +kernel
theorem f156_58 : mFetch 156 58 = some (.bipush (-2), 2, 0, 0, 0, 0) := by decide +kernel
theorem f156_60 : mFetch 156 60 = some (.goto 9, 3, 69, 0, 0, 0) := by decide +kernel
theorem f156_63 : mFetch 156 63 = some (.iload_n 2, 1, 0, 0, 0, 0) := by decide +kernel
theorem f156_64 : mFetch 156 64 = some (.invokestatic 335, 3, 310, 0, 1, 99) := by decide +kernel
theorem f156_67 : mFetch 156 67 = some (.iconst 1, 1, 0, 0, 0, 0) := by decide +kernel
theorem f156_68 : mFetch 156 68 = some (.isub, 1, 0, 0, 0, 0) := by decide +kernel
theorem f156_69 : mFetch 156 69 = some (.ireturn, 1, 0, 0, 0, 0) := by decide +kernel
theorem b156_0 {X : (Nat → Int) × Nat} {d : Nat} {s : mSt} {Q : mQ} {x1 : Int} {l2 : Option mV} (h_1 : Sp X d 6 [mR 18] s (fun r s' => ∃ v : Int, r = some (mI v) ∧ Wp X (d + 1) 156 10 [some (mR 0), some (mI x1), l2] [mI v] s' Q)) : Wp X (d + 1) 156 0 [some (mR 0), some (mI x1), l2] [] s Q := Wp_step k156 f156_0 (Wp_step k156 f156_1 ⟨kf_0, 7, rf_0_5, Wp_step k156 f156_4 ⟨kf_7, 18, rf_7_1, Wp_step k156 f156_7 ⟨⟨kf_18, Nat.le_of_ble_eq_true rfl⟩, Nat.le_refl _, _, rfl, Sp_E h_1⟩⟩⟩)
theorem b156_10 {X : (Nat → Int) × Nat} {d : Nat} {s : mSt} {Q : mQ} {x1 : Int} {l2 : Option mV} {xt0 : Int} (h_1 : xt0 = 0 → Wp X d 156 22 [some (mR 0), some (mI x1), l2] [] s Q) (h_2 : ¬ xt0 = 0 → Wp X d 156 13 [some (mR 0), some (mI x1), l2] [] s Q) : Wp X d 156 10 [some (mR 0), some (mI x1), l2] [mI xt0] s Q := Wp_step k156 f156_10 ⟨h_1, h_2⟩
theorem b156_13 {X : (Nat → Int) × Nat} {d : Nat} {s : mSt} {Q : mQ} {x1 : Int} {l2 : Option mV} (h_1 : x1 < 0 → Wp X d 156 22 [some (mR 0), some (mI x1), l2] [] s Q) (h_2 : ¬ x1 < 0 → Wp X d 156 17 [some (mR 0), some (mI x1), l2] [] s Q) : Wp X d 156 13 [some (mR 0), some (mI x1), l2] [] s Q := Wp_step k156 f156_13 (Wp_step k156 f156_14 ⟨h_1, h_2⟩)
theorem b156_17 {X : (Nat → Int) × Nat} {d : Nat} {s : mSt} {Q : mQ} {x1 : Int} {l2 : Option mV} (h_1 : x1 ≤ 1 → Wp X d 156 25 [some (mR 0), some (mI x1), l2] [] s Q) (h_2 : ¬ x1 ≤ 1 → Wp X d 156 22 [some (mR 0), some (mI x1), l2] [] s Q) : Wp X d 156 17 [some (mR 0), some (mI x1), l2] [] s Q := Wp_step k156 f156_17 (Wp_step k156 f156_18 (Wp_step k156 f156_19 ⟨h_1, h_2⟩))
theorem b156_22 {X : (Nat → Int) × Nat} {d : Nat} {s : mSt} {Q : mQ} {x1 : Int} {l2 : Option mV} (h_1 : Q (some (mI (-3))) s) : Wp X d 156 22 [some (mR 0), some (mI x1), l2] [] s Q := Wp_step k156 f156_22 (Wp_step k156 f156_24 ⟨⟨rfl, trivial⟩, h_1⟩)
theorem b156_25 {X : (Nat → Int) × Nat} {d : Nat} {s : mSt} {Q : mQ} {x1 : Int} {l2 : Option mV} (h_1 : Sp X d 105 [mR 53, mR 7, mR 6, mI (s 0 4)] s (fun r s' => ∃ v : Int, r = some (mI v) ∧ Wp X (d + 1) 156 44 [some (mR 0), some (mI x1), l2] [mI v] s' Q)) : Wp X (d + 1) 156 25 [some (mR 0), some (mI x1), l2] [] s Q := Wp_step k156 f156_25 (Wp_step k156 f156_26 ⟨kf_0, 53, rf_0_12, Wp_step k156 f156_29 (Wp_step k156 f156_30 ⟨kf_0, 7, rf_0_5, Wp_step k156 f156_33 (Wp_step k156 f156_34 ⟨kf_0, 6, rf_0_3, Wp_step k156 f156_37 (Wp_step k156 f156_38 ⟨kf_0, Wp_step k156 f156_41 ⟨⟨kf_53, Nat.le_of_ble_eq_true rfl⟩, Nat.le_refl _, _, rfl, Sp_E h_1⟩⟩)⟩)⟩)⟩)
theorem b156_44 {X : (Nat → Int) × Nat} {d : Nat} {s : mSt} {Q : mQ} {x1 : Int} {l2 : Option mV} {xt0 : Int} (h_1 : ¬ x1 = 0 → Wp X d 156 54 [some (mR 0), some (mI x1), some (mI xt0)] [] s Q) (h_2 : x1 = 0 → Wp X d 156 49 [some (mR 0), some (mI x1), some (mI xt0)] [] s Q) : Wp X d 156 44 [some (mR 0), some (mI x1), l2] [mI xt0] s Q := Wp_step k156 f156_44 (Wp_step k156 f156_45 (Wp_step k156 f156_46 ⟨h_1, h_2⟩))
theorem b156_49 {X : (Nat → Int) × Nat} {d : Nat} {s : mSt} {Q : mQ} {x1 : Int} {x2 : Int} (h_1 : Sp X d 309 [mI x2] s (fun r s' => ∃ v : Int, r = some (mI v) ∧ Wp X (d + 1) 156 53 [some (mR 0), some (mI x1), some (mI x2)] [mI v] s' Q)) : Wp X (d + 1) 156 49 [some (mR 0), some (mI x1), some (mI x2)] [] s Q := Wp_step k156 f156_49 (Wp_step k156 f156_50 ⟨⟨Nat.le_of_ble_eq_true rfl, Nat.le_refl _⟩, _, rfl, Sp_E h_1⟩)
theorem b156_53 {X : (Nat → Int) × Nat} {d : Nat} {s : mSt} {Q : mQ} {x1 : Int} {x2 : Int} {xt0 : Int} (h_1 : Q (some (mI xt0)) s) : Wp X d 156 53 [some (mR 0), some (mI x1), some (mI x2)] [mI xt0] s Q := Wp_step k156 f156_53 ⟨⟨rfl, trivial⟩, h_1⟩
theorem b156_54 {X : (Nat → Int) × Nat} {d : Nat} {s : mSt} {Q : mQ} {x1 : Int} {x2 : Int} (h_1 : ¬ x2 = 0 → Wp X d 156 63 [some (mR 0), some (mI x1), some (mI x2)] [] s Q) (h_2 : x2 = 0 → Wp X d 156 58 [some (mR 0), some (mI x1), some (mI x2)] [] s Q) : Wp X d 156 54 [some (mR 0), some (mI x1), some (mI x2)] [] s Q := Wp_step k156 f156_54 (Wp_step k156 f156_55 ⟨h_1, h_2⟩)
theorem b156_58 {X : (Nat → Int) × Nat} {d : Nat} {s : mSt} {Q : mQ} {x1 : Int} {x2 : Int} (h_1 : Wp X d 156 69 [some (mR 0), some (mI x1), some (mI x2)] [mI (-2)] s Q) : Wp X d 156 58 [some (mR 0), some (mI x1), some (mI x2)] [] s Q := Wp_step k156 f156_58 (Wp_step k156 f156_60 (h_1))
theorem b156_63 {X : (Nat → Int) × Nat} {d : Nat} {s : mSt} {Q : mQ} {x1 : Int} {x2 : Int} (h_1 : Sp X d 310 [mI x2] s (fun r s' => ∃ v : Int, r = some (mI v) ∧ Wp X (d + 1) 156 67 [some (mR 0), some (mI x1), some (mI x2)] [mI v] s' Q)) : Wp X (d + 1) 156 63 [some (mR 0), some (mI x1), some (mI x2)] [] s Q := Wp_step k156 f156_63 (Wp_step k156 f156_64 ⟨⟨Nat.le_of_ble_eq_true rfl, Nat.le_refl _⟩, _, rfl, Sp_E h_1⟩)
theorem b156_67 {X : (Nat → Int) × Nat} {d : Nat} {s : mSt} {Q : mQ} {x1 : Int} {x2 : Int} {xt0 : Int} (h_1 : Wp X d 156 69 [some (mR 0), some (mI x1), some (mI x2)] [mI (w32 (xt0 - 1))] s Q) : Wp X d 156 67 [some (mR 0), some (mI x1), some (mI x2)] [mI xt0] s Q := Wp_step k156 f156_67 (Wp_step k156 f156_68 (h_1))
theorem b156_69 {X : (Nat → Int) × Nat} {d : Nat} {s : mSt} {Q : mQ} {x1 : Int} {x2 : Int} {xt0 : Int} (h_1 : Q (some (mI xt0)) s) : Wp X d 156 69 [some (mR 0), some (mI x1), some (mI x2)] [mI xt0] s Q := Wp_step k156 f156_69 ⟨⟨rfl, trivial⟩, h_1⟩
theorem e156 {X : (Nat → Int) × Nat} {d : Nat} {s : mSt} {Q : mQ} {x1 : Int} (h : Wp X d 156 0 [some (mR 0), some (mI x1), none] [] s Q) : Sp X d 156 [mR 0, mI x1] s Q := Sp_of (show mCe 156 = 0 by decide +kernel) (by rw [show mML 156 = 3 by decide +kernel]; rfl) (Nat.le_trans (Nat.le_of_ble_eq_true (show Nat.ble (mArgs _).length 3 = true from rfl)) (show 3 ≤ mML 156 by decide +kernel)) h
-- 157 ClashDay.look(II)I
theorem k157 : mRk 157 = 1 := by decide +kernel
theorem f157_0 : mFetch 157 0 = some (.aload_n 0, 1, 0, 0, 0, 0) := by decide +kernel
theorem f157_1 : mFetch 157 1 = some (.getfield 41, 3, 11, 5, 2, 1) := by decide +kernel
theorem f157_4 : mFetch 157 4 = some (.getfield 116, 3, 7, 1, 2, 0) := by decide +kernel
theorem f157_7 : mFetch 157 7 = some (.invokevirtual 170, 3, 6, 0, 1, 0) := by decide +kernel
theorem f157_10 : mFetch 157 10 = some (.ifCond .eq 22, 3, 32, 0, 0, 0) := by decide +kernel
theorem f157_13 : mFetch 157 13 = some (.iload_n 1, 1, 0, 0, 0, 0) := by decide +kernel
theorem f157_14 : mFetch 157 14 = some (.ifCond .lt 18, 3, 32, 0, 0, 0) := by decide +kernel
theorem f157_17 : mFetch 157 17 = some (.iload_n 1, 1, 0, 0, 0, 0) := by decide +kernel
theorem f157_18 : mFetch 157 18 = some (.bipush 9, 2, 0, 0, 0, 0) := by decide +kernel
theorem f157_20 : mFetch 157 20 = some (.if_icmp .gt 12, 3, 32, 0, 0, 0) := by decide +kernel
theorem f157_23 : mFetch 157 23 = some (.iload_n 2, 1, 0, 0, 0, 0) := by decide +kernel
theorem f157_24 : mFetch 157 24 = some (.ifCond .lt 8, 3, 32, 0, 0, 0) := by decide +kernel
theorem f157_27 : mFetch 157 27 = some (.iload_n 2, 1, 0, 0, 0, 0) := by decide +kernel
theorem f157_28 : mFetch 157 28 = some (.iconst 1, 1, 0, 0, 0, 0) := by decide +kernel
theorem f157_29 : mFetch 157 29 = some (.if_icmp .le 5, 3, 34, 0, 0, 0) := by decide +kernel
theorem f157_32 : mFetch 157 32 = some (.iconst (-1), 1, 0, 0, 0, 0) := by decide +kernel
theorem f157_33 : mFetch 157 33 = some (.ireturn, 1, 0, 0, 0, 0) := by decide +kernel
theorem f157_34 : mFetch 157 34 = some (.aload_n 0, 1, 0, 0, 0, 0) := by decide +kernel
theorem f157_35 : mFetch 157 35 = some (.getfield 81, 3, 11, 12, 2, 1) := by decide +kernel
theorem f157_38 : mFetch 157 38 = some (.aload_n 0, 1, 0, 0, 0, 0) := by decide +kernel
theorem f157_39 : mFetch 157 39 = some (.getfield 41, 3, 11, 5, 2, 1) := by decide +kernel
theorem f157_42 : mFetch 157 42 = some (.aload_n 0, 1, 0, 0, 0, 0) := by decide +kernel
theorem f157_43 : mFetch 157 43 = some (.getfield 34, 3, 11, 3, 2, 1) := by decide +kernel
theorem f157_46 : mFetch 157 46 = some (.aload_n 0, 1, 0, 0, 0, 0) := by decide +kernel
theorem f157_47 : mFetch 157 47 = some (.getfield 132, 3, 11, 4, 0, 1) := by decide +kernel
theorem f157_50 : mFetch 157 50 = some (.invokevirtual 353, 3, 105, 0, 4, 9) := by decide +kernel
theorem f157_53 : mFetch 157 53 = some (.istore_n 3, 1, 0, 0, 0, 0) := by decide +kernel
theorem f157_54 : mFetch 157 54 = some (.iload_n 3, 1, 0, 0, 0, 0) := by decide +kernel
theorem f157_55 : mFetch 157 55 = some (.ifCond .ne 6, 3, 61, 0, 0, 0) := by decide +kernel
theorem f157_58 : mFetch 157 58 = some (.bipush (-2), 2, 0, 0, 0, 0) := by decide +kernel
theorem f157_60 : mFetch 157 60 = some (.ireturn, 1, 0, 0, 0, 0) := by decide +kernel
theorem f157_61 : mFetch 157 61 = some (.aload_n 0, 1, 0, 0, 0, 0) := by decide +kernel
theorem f157_62 : mFetch 157 62 = some (.getfield 81, 3, 11, 12, 2, 1) := by decide +kernel
theorem f157_65 : mFetch 157 65 = some (.aload_n 0, 1, 0, 0, 0, 0) := by decide +kernel
theorem f157_66 : mFetch 157 66 = some (.getfield 41, 3, 11, 5, 2, 1) := by decide +kernel
theorem f157_69 : mFetch 157 69 = some (.getfield 109, 3, 7, 0, 2, 0) := by decide +kernel
theorem f157_72 : mFetch 157 72 = some (.aload_n 0, 1, 0, 0, 0, 0) := by decide +kernel
theorem f157_73 : mFetch 157 73 = some (.getfield 34, 3, 11, 3, 2, 1) := by decide +kernel
theorem f157_76 : mFetch 157 76 = some (.iload_n 3, 1, 0, 0, 0, 0) := by decide +kernel
theorem f157_77 : mFetch 157 77 = some (.iload_n 1, 1, 0, 0, 0, 0) := by decide +kernel
theorem f157_78 : mFetch 157 78 = some (.invokevirtual 357, 3, 107, 0, 5, 9) := by decide +kernel
theorem f157_81 : mFetch 157 81 = some (.aload_n 0, 1, 0, 0, 0, 0) := by decide +kernel
theorem f157_82 : mFetch 157 82 = some (.getfield 81, 3, 11, 12, 2, 1) := by decide +kernel
theorem f157_85 : mFetch 157 85 = some (.iload_n 3, 1, 0, 0, 0, 0) := by decide +kernel
theorem f157_86 : mFetch 157 86 = some (.invokevirtual 361, 3, 108, 0, 2, 9) := by decide +kernel
theorem f157_89 : mFetch 157 89 = some (.istore 4, 2, 0, 0, 0, 0) := by decide +kernel
theorem f157_91 : mFetch 157 91 = some (.iload_n 2, 1, 0, 0, 0, 0) := by decide +kernel
theorem f157_92 : mFetch 157 92 = some (.ifCond .ne 8, 3, 100, 0, 0, 0) := by decide +kernel
theorem f157_95 : mFetch 157 95 = some (.iload 4, 2, 0, 0, 0, 0) := by decide +kernel
theorem f157_97 : mFetch 157 97 = some (.goto 13, 3, 110, 0, 0, 0) := by decide +kernel
theorem f157_100 : mFetch 157 100 = some (.aload_n 0, 1, 0, 0, 0, 0) := by decide +kernel
theorem f157_101 : mFetch 157 101 = some (.getfield 81, 3, 11, 12, 2, 1) := by decide +kernel
theorem f157_104 : mFetch 157 104 = some (.iload_n 3, 1, 0, 0, 0, 0) := by decide +kernel
theorem f157_105 : mFetch 157 105 = some (.iload 4, 2, 0, 0, 0, 0) := by decide +kernel
theorem f157_107 : mFetch 157 107 = some (.invokevirtual 364, 3, 109, 0, 3, 9) := by decide +kernel
theorem f157_110 : mFetch 157 110 = some (.ireturn, 1, 0, 0, 0, 0) := by decide +kernel
theorem b157_0 {X : (Nat → Int) × Nat} {d : Nat} {s : mSt} {Q : mQ} {x1 : Int} {x2 : Int} {l3 : Option mV} {l4 : Option mV} (h_1 : Sp X d 6 [mR 18] s (fun r s' => ∃ v : Int, r = some (mI v) ∧ Wp X (d + 1) 157 10 [some (mR 0), some (mI x1), some (mI x2), l3, l4] [mI v] s' Q)) : Wp X (d + 1) 157 0 [some (mR 0), some (mI x1), some (mI x2), l3, l4] [] s Q := Wp_step k157 f157_0 (Wp_step k157 f157_1 ⟨kf_0, 7, rf_0_5, Wp_step k157 f157_4 ⟨kf_7, 18, rf_7_1, Wp_step k157 f157_7 ⟨⟨kf_18, Nat.le_of_ble_eq_true rfl⟩, Nat.le_refl _, _, rfl, Sp_E h_1⟩⟩⟩)
theorem b157_10 {X : (Nat → Int) × Nat} {d : Nat} {s : mSt} {Q : mQ} {x1 : Int} {x2 : Int} {l3 : Option mV} {l4 : Option mV} {xt0 : Int} (h_1 : xt0 = 0 → Wp X d 157 32 [some (mR 0), some (mI x1), some (mI x2), l3, l4] [] s Q) (h_2 : ¬ xt0 = 0 → Wp X d 157 13 [some (mR 0), some (mI x1), some (mI x2), l3, l4] [] s Q) : Wp X d 157 10 [some (mR 0), some (mI x1), some (mI x2), l3, l4] [mI xt0] s Q := Wp_step k157 f157_10 ⟨h_1, h_2⟩
theorem b157_13 {X : (Nat → Int) × Nat} {d : Nat} {s : mSt} {Q : mQ} {x1 : Int} {x2 : Int} {l3 : Option mV} {l4 : Option mV} (h_1 : x1 < 0 → Wp X d 157 32 [some (mR 0), some (mI x1), some (mI x2), l3, l4] [] s Q) (h_2 : ¬ x1 < 0 → Wp X d 157 17 [some (mR 0), some (mI x1), some (mI x2), l3, l4] [] s Q) : Wp X d 157 13 [some (mR 0), some (mI x1), some (mI x2), l3, l4] [] s Q := Wp_step k157 f157_13 (Wp_step k157 f157_14 ⟨h_1, h_2⟩)
theorem b157_17 {X : (Nat → Int) × Nat} {d : Nat} {s : mSt} {Q : mQ} {x1 : Int} {x2 : Int} {l3 : Option mV} {l4 : Option mV} (h_1 : 9 < x1 → Wp X d 157 32 [some (mR 0), some (mI x1), some (mI x2), l3, l4] [] s Q) (h_2 : ¬ 9 < x1 → Wp X d 157 23 [some (mR 0), some (mI x1), some (mI x2), l3, l4] [] s Q) : Wp X d 157 17 [some (mR 0), some (mI x1), some (mI x2), l3, l4] [] s Q := Wp_step k157 f157_17 (Wp_step k157 f157_18 (Wp_step k157 f157_20 ⟨h_1, h_2⟩))
theorem b157_23 {X : (Nat → Int) × Nat} {d : Nat} {s : mSt} {Q : mQ} {x1 : Int} {x2 : Int} {l3 : Option mV} {l4 : Option mV} (h_1 : x2 < 0 → Wp X d 157 32 [some (mR 0), some (mI x1), some (mI x2), l3, l4] [] s Q) (h_2 : ¬ x2 < 0 → Wp X d 157 27 [some (mR 0), some (mI x1), some (mI x2), l3, l4] [] s Q) : Wp X d 157 23 [some (mR 0), some (mI x1), some (mI x2), l3, l4] [] s Q := Wp_step k157 f157_23 (Wp_step k157 f157_24 ⟨h_1, h_2⟩)
theorem b157_27 {X : (Nat → Int) × Nat} {d : Nat} {s : mSt} {Q : mQ} {x1 : Int} {x2 : Int} {l3 : Option mV} {l4 : Option mV} (h_1 : x2 ≤ 1 → Wp X d 157 34 [some (mR 0), some (mI x1), some (mI x2), l3, l4] [] s Q) (h_2 : ¬ x2 ≤ 1 → Wp X d 157 32 [some (mR 0), some (mI x1), some (mI x2), l3, l4] [] s Q) : Wp X d 157 27 [some (mR 0), some (mI x1), some (mI x2), l3, l4] [] s Q := Wp_step k157 f157_27 (Wp_step k157 f157_28 (Wp_step k157 f157_29 ⟨h_1, h_2⟩))
theorem b157_32 {X : (Nat → Int) × Nat} {d : Nat} {s : mSt} {Q : mQ} {x1 : Int} {x2 : Int} {l3 : Option mV} {l4 : Option mV} (h_1 : Q (some (mI (-1))) s) : Wp X d 157 32 [some (mR 0), some (mI x1), some (mI x2), l3, l4] [] s Q := Wp_step k157 f157_32 (Wp_step k157 f157_33 ⟨⟨rfl, trivial⟩, h_1⟩)
theorem b157_34 {X : (Nat → Int) × Nat} {d : Nat} {s : mSt} {Q : mQ} {x1 : Int} {x2 : Int} {l3 : Option mV} {l4 : Option mV} (h_1 : Sp X d 105 [mR 53, mR 7, mR 6, mI (s 0 4)] s (fun r s' => ∃ v : Int, r = some (mI v) ∧ Wp X (d + 1) 157 53 [some (mR 0), some (mI x1), some (mI x2), l3, l4] [mI v] s' Q)) : Wp X (d + 1) 157 34 [some (mR 0), some (mI x1), some (mI x2), l3, l4] [] s Q := Wp_step k157 f157_34 (Wp_step k157 f157_35 ⟨kf_0, 53, rf_0_12, Wp_step k157 f157_38 (Wp_step k157 f157_39 ⟨kf_0, 7, rf_0_5, Wp_step k157 f157_42 (Wp_step k157 f157_43 ⟨kf_0, 6, rf_0_3, Wp_step k157 f157_46 (Wp_step k157 f157_47 ⟨kf_0, Wp_step k157 f157_50 ⟨⟨kf_53, Nat.le_of_ble_eq_true rfl⟩, Nat.le_refl _, _, rfl, Sp_E h_1⟩⟩)⟩)⟩)⟩)
theorem b157_53 {X : (Nat → Int) × Nat} {d : Nat} {s : mSt} {Q : mQ} {x1 : Int} {x2 : Int} {l3 : Option mV} {l4 : Option mV} {xt0 : Int} (h_1 : ¬ xt0 = 0 → Wp X d 157 61 [some (mR 0), some (mI x1), some (mI x2), some (mI xt0), l4] [] s Q) (h_2 : xt0 = 0 → Wp X d 157 58 [some (mR 0), some (mI x1), some (mI x2), some (mI xt0), l4] [] s Q) : Wp X d 157 53 [some (mR 0), some (mI x1), some (mI x2), l3, l4] [mI xt0] s Q := Wp_step k157 f157_53 (Wp_step k157 f157_54 (Wp_step k157 f157_55 ⟨h_1, h_2⟩))
theorem b157_58 {X : (Nat → Int) × Nat} {d : Nat} {s : mSt} {Q : mQ} {x1 : Int} {x2 : Int} {x3 : Int} {l4 : Option mV} (h_1 : Q (some (mI (-2))) s) : Wp X d 157 58 [some (mR 0), some (mI x1), some (mI x2), some (mI x3), l4] [] s Q := Wp_step k157 f157_58 (Wp_step k157 f157_60 ⟨⟨rfl, trivial⟩, h_1⟩)
theorem b157_61 {X : (Nat → Int) × Nat} {d : Nat} {s : mSt} {Q : mQ} {x1 : Int} {x2 : Int} {x3 : Int} {l4 : Option mV} (h_1 : Sp X d 107 [mR 53, mR 8, mR 6, mI x3, mI x1] s (fun r s' => r = none ∧ Wp X (d + 1) 157 81 [some (mR 0), some (mI x1), some (mI x2), some (mI x3), l4] [] s' Q)) : Wp X (d + 1) 157 61 [some (mR 0), some (mI x1), some (mI x2), some (mI x3), l4] [] s Q := Wp_step k157 f157_61 (Wp_step k157 f157_62 ⟨kf_0, 53, rf_0_12, Wp_step k157 f157_65 (Wp_step k157 f157_66 ⟨kf_0, 7, rf_0_5, Wp_step k157 f157_69 ⟨kf_7, 8, rf_7_0, Wp_step k157 f157_72 (Wp_step k157 f157_73 ⟨kf_0, 6, rf_0_3, Wp_step k157 f157_76 (Wp_step k157 f157_77 (Wp_step k157 f157_78 ⟨⟨kf_53, Nat.le_of_ble_eq_true rfl⟩, Nat.le_refl _, _, rfl, Sp_V h_1⟩))⟩)⟩⟩)⟩)
theorem b157_81 {X : (Nat → Int) × Nat} {d : Nat} {s : mSt} {Q : mQ} {x1 : Int} {x2 : Int} {x3 : Int} {l4 : Option mV} (h_1 : Sp X d 108 [mR 53, mI x3] s (fun r s' => ∃ v : Int, r = some (mI v) ∧ Wp X (d + 1) 157 89 [some (mR 0), some (mI x1), some (mI x2), some (mI x3), l4] [mI v] s' Q)) : Wp X (d + 1) 157 81 [some (mR 0), some (mI x1), some (mI x2), some (mI x3), l4] [] s Q := Wp_step k157 f157_81 (Wp_step k157 f157_82 ⟨kf_0, 53, rf_0_12, Wp_step k157 f157_85 (Wp_step k157 f157_86 ⟨⟨kf_53, Nat.le_of_ble_eq_true rfl⟩, Nat.le_refl _, _, rfl, Sp_E h_1⟩)⟩)
theorem b157_89 {X : (Nat → Int) × Nat} {d : Nat} {s : mSt} {Q : mQ} {x1 : Int} {x2 : Int} {x3 : Int} {l4 : Option mV} {xt0 : Int} (h_1 : ¬ x2 = 0 → Wp X d 157 100 [some (mR 0), some (mI x1), some (mI x2), some (mI x3), some (mI xt0)] [] s Q) (h_2 : x2 = 0 → Wp X d 157 95 [some (mR 0), some (mI x1), some (mI x2), some (mI x3), some (mI xt0)] [] s Q) : Wp X d 157 89 [some (mR 0), some (mI x1), some (mI x2), some (mI x3), l4] [mI xt0] s Q := Wp_step k157 f157_89 (Wp_step k157 f157_91 (Wp_step k157 f157_92 ⟨h_1, h_2⟩))
theorem b157_95 {X : (Nat → Int) × Nat} {d : Nat} {s : mSt} {Q : mQ} {x1 : Int} {x2 : Int} {x3 : Int} {x4 : Int} (h_1 : Wp X d 157 110 [some (mR 0), some (mI x1), some (mI x2), some (mI x3), some (mI x4)] [mI x4] s Q) : Wp X d 157 95 [some (mR 0), some (mI x1), some (mI x2), some (mI x3), some (mI x4)] [] s Q := Wp_step k157 f157_95 (Wp_step k157 f157_97 (h_1))
theorem b157_100 {X : (Nat → Int) × Nat} {d : Nat} {s : mSt} {Q : mQ} {x1 : Int} {x2 : Int} {x3 : Int} {x4 : Int} (h_1 : Sp X d 109 [mR 53, mI x3, mI x4] s (fun r s' => ∃ v : Int, r = some (mI v) ∧ Wp X (d + 1) 157 110 [some (mR 0), some (mI x1), some (mI x2), some (mI x3), some (mI x4)] [mI v] s' Q)) : Wp X (d + 1) 157 100 [some (mR 0), some (mI x1), some (mI x2), some (mI x3), some (mI x4)] [] s Q := Wp_step k157 f157_100 (Wp_step k157 f157_101 ⟨kf_0, 53, rf_0_12, Wp_step k157 f157_104 (Wp_step k157 f157_105 (Wp_step k157 f157_107 ⟨⟨kf_53, Nat.le_of_ble_eq_true rfl⟩, Nat.le_refl _, _, rfl, Sp_E h_1⟩))⟩)
theorem b157_110 {X : (Nat → Int) × Nat} {d : Nat} {s : mSt} {Q : mQ} {x1 : Int} {x2 : Int} {x3 : Int} {x4 : Int} {xt0 : Int} (h_1 : Q (some (mI xt0)) s) : Wp X d 157 110 [some (mR 0), some (mI x1), some (mI x2), some (mI x3), some (mI x4)] [mI xt0] s Q := Wp_step k157 f157_110 ⟨⟨rfl, trivial⟩, h_1⟩
theorem e157 {X : (Nat → Int) × Nat} {d : Nat} {s : mSt} {Q : mQ} {x1 : Int} {x2 : Int} (h : Wp X d 157 0 [some (mR 0), some (mI x1), some (mI x2), none, none] [] s Q) : Sp X d 157 [mR 0, mI x1, mI x2] s Q := Sp_of (show mCe 157 = 0 by decide +kernel) (by rw [show mML 157 = 5 by decide +kernel]; rfl) (Nat.le_trans (Nat.le_of_ble_eq_true (show Nat.ble (mArgs _).length 5 = true from rfl)) (show 5 ≤ mML 157 by decide +kernel)) h
-- 158 ClashDay.seed(I)I
theorem k158 : mRk 158 = 1 := by decide +kernel
theorem f158_0 : mFetch 158 0 = some (.iload_n 1, 1, 0, 0, 0, 0) := by decide +kernel
theorem f158_1 : mFetch 158 1 = some (.ifCond .ge 5, 3, 6, 0, 0, 0) := by decide +kernel
theorem f158_4 : mFetch 158 4 = some (.iconst (-1), 1, 0, 0, 0, 0) := by decide +kernel
theorem f158_5 : mFetch 158 5 = some (.ireturn, 1, 0, 0, 0, 0) := by decide +kernel
theorem f158_6 : mFetch 158 6 = some (.aload_n 0, 1, 0, 0, 0, 0) := by decide +kernel
theorem f158_7 : mFetch 158 7 = some (.getfield 41, 3, 11, 5, 2, 1) := by decide +kernel
theorem f158_10 : mFetch 158 10 = some (.getfield 367, 3, 7, 4, 0, 0) := by decide +kernel
theorem f158_13 : mFetch 158 13 = some (.istore_n 2, 1, 0, 0, 0, 0) := by decide +kernel
theorem f158_14 : mFetch 158 14 = some (.aload_n 0, 1, 0, 0, 0, 0) := by decide +kernel
theorem f158_15 : mFetch 158 15 = some (.getfield 41, 3, 11, 5, 2, 1) := by decide +kernel
theorem f158_18 : mFetch 158 18 = some (.iload_n 1, 1, 0, 0, 0, 0) := by decide +kernel
theorem f158_19 : mFetch 158 19 = some (.putfield 367, 3, 7, 4, 0, 0) := by decide +kernel
theorem f158_22 : mFetch 158 22 = some (.iload_n 2, 1, 0, 0, 0, 0) := by decide +kernel
theorem f158_23 : mFetch 158 23 = some (.ireturn, 1, 0, 0, 0, 0) := by decide +kernel
theorem b158_0 {X : (Nat → Int) × Nat} {d : Nat} {s : mSt} {Q : mQ} {x1 : Int} {l2 : Option mV} (h_1 : 0 ≤ x1 → Wp X d 158 6 [some (mR 0), some (mI x1), l2] [] s Q) (h_2 : ¬ 0 ≤ x1 → Wp X d 158 4 [some (mR 0), some (mI x1), l2] [] s Q) : Wp X d 158 0 [some (mR 0), some (mI x1), l2] [] s Q := Wp_step k158 f158_0 (Wp_step k158 f158_1 ⟨h_1, h_2⟩)
theorem b158_4 {X : (Nat → Int) × Nat} {d : Nat} {s : mSt} {Q : mQ} {x1 : Int} {l2 : Option mV} (h_1 : Q (some (mI (-1))) s) : Wp X d 158 4 [some (mR 0), some (mI x1), l2] [] s Q := Wp_step k158 f158_4 (Wp_step k158 f158_5 ⟨⟨rfl, trivial⟩, h_1⟩)
theorem b158_6 {X : (Nat → Int) × Nat} {d : Nat} {s : mSt} {Q : mQ} {x1 : Int} {l2 : Option mV} (h_1 : Q (some (mI (s 7 4))) (uS s 7 4 x1)) : Wp X d 158 6 [some (mR 0), some (mI x1), l2] [] s Q := Wp_step k158 f158_6 (Wp_step k158 f158_7 ⟨kf_0, 7, rf_0_5, Wp_step k158 f158_10 ⟨kf_7, Wp_step k158 f158_13 (Wp_step k158 f158_14 (Wp_step k158 f158_15 ⟨kf_0, 7, rf_0_5, Wp_step k158 f158_18 (Wp_step k158 f158_19 ⟨kf_7, Wp_step k158 f158_22 (Wp_step k158 f158_23 ⟨⟨rfl, trivial⟩, h_1⟩)⟩)⟩))⟩⟩)
theorem e158 {X : (Nat → Int) × Nat} {d : Nat} {s : mSt} {Q : mQ} {x1 : Int} (h : Wp X d 158 0 [some (mR 0), some (mI x1), none] [] s Q) : Sp X d 158 [mR 0, mI x1] s Q := Sp_of (show mCe 158 = 0 by decide +kernel) (by rw [show mML 158 = 3 by decide +kernel]; rfl) (Nat.le_trans (Nat.le_of_ble_eq_true (show Nat.ble (mArgs _).length 3 = true from rfl)) (show 3 ≤ mML 158 by decide +kernel)) h
-- 159 ClashDay.ill(IIII)I
theorem k159 : mRk 159 = 1 := by decide +kernel
theorem f159_0 : mFetch 159 0 = some (.aload_n 0, 1, 0, 0, 0, 0) := by decide +kernel
theorem f159_1 : mFetch 159 1 = some (.getfield 41, 3, 11, 5, 2, 1) := by decide +kernel
theorem f159_4 : mFetch 159 4 = some (.getfield 116, 3, 7, 1, 2, 0) := by decide +kernel
theorem f159_7 : mFetch 159 7 = some (.invokevirtual 170, 3, 6, 0, 1, 0) := by decide +kernel
theorem f159_10 : mFetch 159 10 = some (.ifCond .eq 45, 3, 55, 0, 0, 0) := by decide +kernel
theorem f159_13 : mFetch 159 13 = some (.iload_n 1, 1, 0, 0, 0, 0) := by decide +kernel
theorem f159_14 : mFetch 159 14 = some (.iconst 1, 1, 0, 0, 0, 0) := by decide +kernel
theorem f159_15 : mFetch 159 15 = some (.if_icmp .lt 40, 3, 55, 0, 0, 0) := by decide +kernel
theorem f159_18 : mFetch 159 18 = some (.iload_n 1, 1, 0, 0, 0, 0) := by decide +kernel
theorem f159_19 : mFetch 159 19 = some (.iconst 5, 1, 0, 0, 0, 0) := by decide +kernel
theorem f159_20 : mFetch 159 20 = some (.if_icmp .gt 35, 3, 55, 0, 0, 0) := by decide +kernel
theorem f159_23 : mFetch 159 23 = some (.iload_n 2, 1, 0, 0, 0, 0) := by decide +kernel
theorem f159_24 : mFetch 159 24 = some (.iconst 1, 1, 0, 0, 0, 0) := by decide +kernel
theorem f159_25 : mFetch 159 25 = some (.if_icmp .lt 30, 3, 55, 0, 0, 0) := by decide +kernel
theorem f159_28 : mFetch 159 28 = some (.iload_n 2, 1, 0, 0, 0, 0) := by decide +kernel
theorem f159_29 : mFetch 159 29 = some (.bipush 9, 2, 0, 0, 0, 0) := by decide +kernel
theorem f159_31 : mFetch 159 31 = some (.if_icmp .gt 24, 3, 55, 0, 0, 0) := by decide +kernel
theorem f159_34 : mFetch 159 34 = some (.iload_n 3, 1, 0, 0, 0, 0) := by decide +kernel
theorem f159_35 : mFetch 159 35 = some (.ifCond .lt 20, 3, 55, 0, 0, 0) := by decide +kernel
theorem f159_38 : mFetch 159 38 = some (.iload_n 3, 1, 0, 0, 0, 0) := by decide +kernel
theorem f159_39 : mFetch 159 39 = some (.bipush 100, 2, 0, 0, 0, 0) := by decide +kernel
theorem f159_41 : mFetch 159 41 = some (.if_icmp .gt 14, 3, 55, 0, 0, 0) := by decide +kernel
theorem f159_44 : mFetch 159 44 = some (.iload 4, 2, 0, 0, 0, 0) := by decide +kernel
theorem f159_46 : mFetch 159 46 = some (.ifCond .lt 9, 3, 55, 0, 0, 0) := by decide +kernel
theorem f159_49 : mFetch 159 49 = some (.iload 4, 2, 0, 0, 0, 0) := by decide +kernel
theorem f159_51 : mFetch 159 51 = some (.iconst 1, 1, 0, 0, 0, 0) := by decide +kernel
theorem f159_52 : mFetch 159 52 = some (.if_icmp .le 5, 3, 57, 0, 0, 0) := by decide +kernel
theorem f159_55 : mFetch 159 55 = some (.iconst (-1), 1, 0, 0, 0, 0) := by decide +kernel
theorem f159_56 : mFetch 159 56 = some (.ireturn, 1, 0, 0, 0, 0) := by decide +kernel
theorem f159_57 : mFetch 159 57 = some (.aload_n 0, 1, 0, 0, 0, 0) := by decide +kernel
theorem f159_58 : mFetch 159 58 = some (.getfield 81, 3, 11, 12, 2, 1) := by decide +kernel
theorem f159_61 : mFetch 159 61 = some (.aload_n 0, 1, 0, 0, 0, 0) := by decide +kernel
theorem f159_62 : mFetch 159 62 = some (.getfield 41, 3, 11, 5, 2, 1) := by decide +kernel
theorem f159_65 : mFetch 159 65 = some (.aload_n 0, 1, 0, 0, 0, 0) := by decide +kernel
theorem f159_66 : mFetch 159 66 = some (.invokevirtual 194, 3, 164, 0, 1, 11) := by decide +kernel
theorem f159_69 : mFetch 159 69 = some (.iload_n 1, 1, 0, 0, 0, 0) := by decide +kernel
theorem f159_70 : mFetch 159 70 = some (.iload_n 2, 1, 0, 0, 0, 0) := by decide +kernel
theorem f159_71 : mFetch 159 71 = some (.iload_n 3, 1, 0, 0, 0, 0) := by decide +kernel
theorem f159_72 : mFetch 159 72 = some (.invokevirtual 370, 3, 113, 0, 6, 9) := by decide +kernel
theorem f159_75 : mFetch 159 75 = some (.iload 4, 2, 0, 0, 0, 0) := by decide +kernel
theorem f159_77 : mFetch 159 77 = some (.ifCond .ne 13, 3, 90, 0, 0, 0) := by decide +kernel
theorem f159_80 : mFetch 159 80 = some (.aload_n 0, 1, 0, 0, 0, 0) := by decide +kernel
theorem f159_81 : mFetch 159 81 = some (.getfield 81, 3, 11, 12, 2, 1) := by decide +kernel
theorem f159_84 : mFetch 159 84 = some (.getfield 374, 3, 9, 7, 0, 0) := by decide +kernel
theorem f159_87 : mFetch 159 87 = some (.goto 10, 3, 97, 0, 0, 0) := by decide +kernel
theorem f159_90 : mFetch 159 90 = some (.aload_n 0, 1, 0, 0, 0, 0) := by decide +kernel
theorem f159_91 : mFetch 159 91 = some (.getfield 81, 3, 11, 12, 2, 1) := by decide +kernel
theorem f159_94 : mFetch 159 94 = some (.getfield 377, 3, 9, 8, 0, 0) := by decide +kernel
theorem f159_97 : mFetch 159 97 = some (.ireturn, 1, 0, 0, 0, 0) := by decide +kernel
theorem b159_0 {X : (Nat → Int) × Nat} {d : Nat} {s : mSt} {Q : mQ} {x1 : Int} {x2 : Int} {x3 : Int} {x4 : Int} (h_1 : Sp X d 6 [mR 18] s (fun r s' => ∃ v : Int, r = some (mI v) ∧ Wp X (d + 1) 159 10 [some (mR 0), some (mI x1), some (mI x2), some (mI x3), some (mI x4)] [mI v] s' Q)) : Wp X (d + 1) 159 0 [some (mR 0), some (mI x1), some (mI x2), some (mI x3), some (mI x4)] [] s Q := Wp_step k159 f159_0 (Wp_step k159 f159_1 ⟨kf_0, 7, rf_0_5, Wp_step k159 f159_4 ⟨kf_7, 18, rf_7_1, Wp_step k159 f159_7 ⟨⟨kf_18, Nat.le_of_ble_eq_true rfl⟩, Nat.le_refl _, _, rfl, Sp_E h_1⟩⟩⟩)
theorem b159_10 {X : (Nat → Int) × Nat} {d : Nat} {s : mSt} {Q : mQ} {x1 : Int} {x2 : Int} {x3 : Int} {x4 : Int} {xt0 : Int} (h_1 : xt0 = 0 → Wp X d 159 55 [some (mR 0), some (mI x1), some (mI x2), some (mI x3), some (mI x4)] [] s Q) (h_2 : ¬ xt0 = 0 → Wp X d 159 13 [some (mR 0), some (mI x1), some (mI x2), some (mI x3), some (mI x4)] [] s Q) : Wp X d 159 10 [some (mR 0), some (mI x1), some (mI x2), some (mI x3), some (mI x4)] [mI xt0] s Q := Wp_step k159 f159_10 ⟨h_1, h_2⟩
theorem b159_13 {X : (Nat → Int) × Nat} {d : Nat} {s : mSt} {Q : mQ} {x1 : Int} {x2 : Int} {x3 : Int} {x4 : Int} (h_1 : x1 < 1 → Wp X d 159 55 [some (mR 0), some (mI x1), some (mI x2), some (mI x3), some (mI x4)] [] s Q) (h_2 : ¬ x1 < 1 → Wp X d 159 18 [some (mR 0), some (mI x1), some (mI x2), some (mI x3), some (mI x4)] [] s Q) : Wp X d 159 13 [some (mR 0), some (mI x1), some (mI x2), some (mI x3), some (mI x4)] [] s Q := Wp_step k159 f159_13 (Wp_step k159 f159_14 (Wp_step k159 f159_15 ⟨h_1, h_2⟩))
theorem b159_18 {X : (Nat → Int) × Nat} {d : Nat} {s : mSt} {Q : mQ} {x1 : Int} {x2 : Int} {x3 : Int} {x4 : Int} (h_1 : 5 < x1 → Wp X d 159 55 [some (mR 0), some (mI x1), some (mI x2), some (mI x3), some (mI x4)] [] s Q) (h_2 : ¬ 5 < x1 → Wp X d 159 23 [some (mR 0), some (mI x1), some (mI x2), some (mI x3), some (mI x4)] [] s Q) : Wp X d 159 18 [some (mR 0), some (mI x1), some (mI x2), some (mI x3), some (mI x4)] [] s Q := Wp_step k159 f159_18 (Wp_step k159 f159_19 (Wp_step k159 f159_20 ⟨h_1, h_2⟩))
theorem b159_23 {X : (Nat → Int) × Nat} {d : Nat} {s : mSt} {Q : mQ} {x1 : Int} {x2 : Int} {x3 : Int} {x4 : Int} (h_1 : x2 < 1 → Wp X d 159 55 [some (mR 0), some (mI x1), some (mI x2), some (mI x3), some (mI x4)] [] s Q) (h_2 : ¬ x2 < 1 → Wp X d 159 28 [some (mR 0), some (mI x1), some (mI x2), some (mI x3), some (mI x4)] [] s Q) : Wp X d 159 23 [some (mR 0), some (mI x1), some (mI x2), some (mI x3), some (mI x4)] [] s Q := Wp_step k159 f159_23 (Wp_step k159 f159_24 (Wp_step k159 f159_25 ⟨h_1, h_2⟩))
theorem b159_28 {X : (Nat → Int) × Nat} {d : Nat} {s : mSt} {Q : mQ} {x1 : Int} {x2 : Int} {x3 : Int} {x4 : Int} (h_1 : 9 < x2 → Wp X d 159 55 [some (mR 0), some (mI x1), some (mI x2), some (mI x3), some (mI x4)] [] s Q) (h_2 : ¬ 9 < x2 → Wp X d 159 34 [some (mR 0), some (mI x1), some (mI x2), some (mI x3), some (mI x4)] [] s Q) : Wp X d 159 28 [some (mR 0), some (mI x1), some (mI x2), some (mI x3), some (mI x4)] [] s Q := Wp_step k159 f159_28 (Wp_step k159 f159_29 (Wp_step k159 f159_31 ⟨h_1, h_2⟩))
theorem b159_34 {X : (Nat → Int) × Nat} {d : Nat} {s : mSt} {Q : mQ} {x1 : Int} {x2 : Int} {x3 : Int} {x4 : Int} (h_1 : x3 < 0 → Wp X d 159 55 [some (mR 0), some (mI x1), some (mI x2), some (mI x3), some (mI x4)] [] s Q) (h_2 : ¬ x3 < 0 → Wp X d 159 38 [some (mR 0), some (mI x1), some (mI x2), some (mI x3), some (mI x4)] [] s Q) : Wp X d 159 34 [some (mR 0), some (mI x1), some (mI x2), some (mI x3), some (mI x4)] [] s Q := Wp_step k159 f159_34 (Wp_step k159 f159_35 ⟨h_1, h_2⟩)
theorem b159_38 {X : (Nat → Int) × Nat} {d : Nat} {s : mSt} {Q : mQ} {x1 : Int} {x2 : Int} {x3 : Int} {x4 : Int} (h_1 : 100 < x3 → Wp X d 159 55 [some (mR 0), some (mI x1), some (mI x2), some (mI x3), some (mI x4)] [] s Q) (h_2 : ¬ 100 < x3 → Wp X d 159 44 [some (mR 0), some (mI x1), some (mI x2), some (mI x3), some (mI x4)] [] s Q) : Wp X d 159 38 [some (mR 0), some (mI x1), some (mI x2), some (mI x3), some (mI x4)] [] s Q := Wp_step k159 f159_38 (Wp_step k159 f159_39 (Wp_step k159 f159_41 ⟨h_1, h_2⟩))
theorem b159_44 {X : (Nat → Int) × Nat} {d : Nat} {s : mSt} {Q : mQ} {x1 : Int} {x2 : Int} {x3 : Int} {x4 : Int} (h_1 : x4 < 0 → Wp X d 159 55 [some (mR 0), some (mI x1), some (mI x2), some (mI x3), some (mI x4)] [] s Q) (h_2 : ¬ x4 < 0 → Wp X d 159 49 [some (mR 0), some (mI x1), some (mI x2), some (mI x3), some (mI x4)] [] s Q) : Wp X d 159 44 [some (mR 0), some (mI x1), some (mI x2), some (mI x3), some (mI x4)] [] s Q := Wp_step k159 f159_44 (Wp_step k159 f159_46 ⟨h_1, h_2⟩)
theorem b159_49 {X : (Nat → Int) × Nat} {d : Nat} {s : mSt} {Q : mQ} {x1 : Int} {x2 : Int} {x3 : Int} {x4 : Int} (h_1 : x4 ≤ 1 → Wp X d 159 57 [some (mR 0), some (mI x1), some (mI x2), some (mI x3), some (mI x4)] [] s Q) (h_2 : ¬ x4 ≤ 1 → Wp X d 159 55 [some (mR 0), some (mI x1), some (mI x2), some (mI x3), some (mI x4)] [] s Q) : Wp X d 159 49 [some (mR 0), some (mI x1), some (mI x2), some (mI x3), some (mI x4)] [] s Q := Wp_step k159 f159_49 (Wp_step k159 f159_51 (Wp_step k159 f159_52 ⟨h_1, h_2⟩))
theorem b159_55 {X : (Nat → Int) × Nat} {d : Nat} {s : mSt} {Q : mQ} {x1 : Int} {x2 : Int} {x3 : Int} {x4 : Int} (h_1 : Q (some (mI (-1))) s) : Wp X d 159 55 [some (mR 0), some (mI x1), some (mI x2), some (mI x3), some (mI x4)] [] s Q := Wp_step k159 f159_55 (Wp_step k159 f159_56 ⟨⟨rfl, trivial⟩, h_1⟩)
theorem b159_57 {X : (Nat → Int) × Nat} {d : Nat} {s : mSt} {Q : mQ} {x1 : Int} {x2 : Int} {x3 : Int} {x4 : Int} (h_1 : Sp X d 164 [mR 0] s (fun r s' => ∃ v : Option Nat, r = some (Sum.inr (Sum.inr (Sum.inl v))) ∧ Wp X (d + 1) 159 69 [some (mR 0), some (mI x1), some (mI x2), some (mI x3), some (mI x4)] [Sum.inr (Sum.inr (Sum.inl v)), mR 7, mR 53] s' Q)) : Wp X (d + 1) 159 57 [some (mR 0), some (mI x1), some (mI x2), some (mI x3), some (mI x4)] [] s Q := Wp_step k159 f159_57 (Wp_step k159 f159_58 ⟨kf_0, 53, rf_0_12, Wp_step k159 f159_61 (Wp_step k159 f159_62 ⟨kf_0, 7, rf_0_5, Wp_step k159 f159_65 (Wp_step k159 f159_66 ⟨⟨kf_0, Nat.le_of_ble_eq_true rfl⟩, Nat.le_refl _, _, rfl, Sp_E h_1⟩)⟩)⟩)
theorem b159_69 {X : (Nat → Int) × Nat} {d : Nat} {s : mSt} {Q : mQ} {x1 : Int} {x2 : Int} {x3 : Int} {x4 : Int} {ot2 : Option Nat} (h_1 : Sp X d 113 [mR 53, mR 7, Sum.inr (Sum.inr (Sum.inl ot2)), mI x1, mI x2, mI x3] s (fun r s' => r = none ∧ Wp X (d + 1) 159 75 [some (mR 0), some (mI x1), some (mI x2), some (mI x3), some (mI x4)] [] s' Q)) : Wp X (d + 1) 159 69 [some (mR 0), some (mI x1), some (mI x2), some (mI x3), some (mI x4)] [Sum.inr (Sum.inr (Sum.inl ot2)), mR 7, mR 53] s Q := Wp_step k159 f159_69 (Wp_step k159 f159_70 (Wp_step k159 f159_71 (Wp_step k159 f159_72 ⟨⟨kf_53, Nat.le_of_ble_eq_true rfl⟩, Nat.le_refl _, _, rfl, Sp_V h_1⟩)))
theorem b159_75 {X : (Nat → Int) × Nat} {d : Nat} {s : mSt} {Q : mQ} {x1 : Int} {x2 : Int} {x3 : Int} {x4 : Int} (h_1 : ¬ x4 = 0 → Wp X d 159 90 [some (mR 0), some (mI x1), some (mI x2), some (mI x3), some (mI x4)] [] s Q) (h_2 : x4 = 0 → Wp X d 159 80 [some (mR 0), some (mI x1), some (mI x2), some (mI x3), some (mI x4)] [] s Q) : Wp X d 159 75 [some (mR 0), some (mI x1), some (mI x2), some (mI x3), some (mI x4)] [] s Q := Wp_step k159 f159_75 (Wp_step k159 f159_77 ⟨h_1, h_2⟩)
theorem b159_80 {X : (Nat → Int) × Nat} {d : Nat} {s : mSt} {Q : mQ} {x1 : Int} {x2 : Int} {x3 : Int} {x4 : Int} (h_1 : Wp X d 159 97 [some (mR 0), some (mI x1), some (mI x2), some (mI x3), some (mI x4)] [mI (s 53 7)] s Q) : Wp X d 159 80 [some (mR 0), some (mI x1), some (mI x2), some (mI x3), some (mI x4)] [] s Q := Wp_step k159 f159_80 (Wp_step k159 f159_81 ⟨kf_0, 53, rf_0_12, Wp_step k159 f159_84 ⟨kf_53, Wp_step k159 f159_87 (h_1)⟩⟩)
theorem b159_90 {X : (Nat → Int) × Nat} {d : Nat} {s : mSt} {Q : mQ} {x1 : Int} {x2 : Int} {x3 : Int} {x4 : Int} (h_1 : Wp X d 159 97 [some (mR 0), some (mI x1), some (mI x2), some (mI x3), some (mI x4)] [mI (s 53 8)] s Q) : Wp X d 159 90 [some (mR 0), some (mI x1), some (mI x2), some (mI x3), some (mI x4)] [] s Q := Wp_step k159 f159_90 (Wp_step k159 f159_91 ⟨kf_0, 53, rf_0_12, Wp_step k159 f159_94 ⟨kf_53, h_1⟩⟩)
theorem b159_97 {X : (Nat → Int) × Nat} {d : Nat} {s : mSt} {Q : mQ} {x1 : Int} {x2 : Int} {x3 : Int} {x4 : Int} {xt0 : Int} (h_1 : Q (some (mI xt0)) s) : Wp X d 159 97 [some (mR 0), some (mI x1), some (mI x2), some (mI x3), some (mI x4)] [mI xt0] s Q := Wp_step k159 f159_97 ⟨⟨rfl, trivial⟩, h_1⟩
theorem e159 {X : (Nat → Int) × Nat} {d : Nat} {s : mSt} {Q : mQ} {x1 : Int} {x2 : Int} {x3 : Int} {x4 : Int} (h : Wp X d 159 0 [some (mR 0), some (mI x1), some (mI x2), some (mI x3), some (mI x4)] [] s Q) : Sp X d 159 [mR 0, mI x1, mI x2, mI x3, mI x4] s Q := Sp_of (show mCe 159 = 0 by decide +kernel) (by rw [show mML 159 = 5 by decide +kernel]; rfl) (Nat.le_trans (Nat.le_of_ble_eq_true (show Nat.ble (mArgs _).length 5 = true from rfl)) (show 5 ≤ mML 159 by decide +kernel)) h
-- 160 ClashDay.count(I)I
theorem k160 : mRk 160 = 1 := by decide +kernel
theorem f160_0 : mFetch 160 0 = some (.aload_n 0, 1, 0, 0, 0, 0) := by decide +kernel
theorem f160_1 : mFetch 160 1 = some (.getfield 41, 3, 11, 5, 2, 1) := by decide +kernel
theorem f160_4 : mFetch 160 4 = some (.getfield 116, 3, 7, 1, 2, 0) := by decide +kernel
theorem f160_7 : mFetch 160 7 = some (.astore_n 2, 1, 0, 0, 0, 0) := by decide +kernel
theorem f160_8 : mFetch 160 8 = some (.iload_n 1, 1, 0, 0, 0, 0) := by decide +kernel
theorem f160_9 : mFetch 160 9 = some (.tableswitch 147 0 12 #[67, 72, 77, 82, 87, 92, 100, 105, 110, 115, 126, 131, 139], 67, 0, 0, 0, 0) := by decide +kernel
theorem f160_76 : mFetch 160 76 = some (.aload_n 2, 1, 0, 0, 0, 0) := by decide +kernel
theorem f160_77 : mFetch 160 77 = some (.getfield 380, 3, 0, 0, 0, 0) := by decide +kernel
theorem f160_80 : mFetch 160 80 = some (.ireturn, 1, 0, 0, 0, 0) := by decide +kernel
theorem f160_81 : mFetch 160 81 = some (.aload_n 2, 1, 0, 0, 0, 0) := by decide +kernel
theorem f160_82 : mFetch 160 82 = some (.getfield 383, 3, 0, 1, 0, 0) := by decide +kernel
theorem f160_85 : mFetch 160 85 = some (.ireturn, 1, 0, 0, 0, 0) := by decide +kernel
theorem f160_86 : mFetch 160 86 = some (.aload_n 2, 1, 0, 0, 0, 0) := by decide +kernel
theorem f160_87 : mFetch 160 87 = some (.getfield 386, 3, 0, 2, 0, 0) := by decide +kernel
theorem f160_90 : mFetch 160 90 = some (.ireturn, 1, 0, 0, 0, 0) := by decide +kernel
theorem f160_91 : mFetch 160 91 = some (.aload_n 2, 1, 0, 0, 0, 0) := by decide +kernel
theorem f160_92 : mFetch 160 92 = some (.getfield 129, 3, 0, 3, 0, 0) := by decide +kernel
theorem f160_95 : mFetch 160 95 = some (.ireturn, 1, 0, 0, 0, 0) := by decide +kernel
theorem f160_96 : mFetch 160 96 = some (.aload_n 0, 1, 0, 0, 0, 0) := by decide +kernel
theorem f160_97 : mFetch 160 97 = some (.getfield 132, 3, 11, 4, 0, 1) := by decide +kernel
theorem f160_100 : mFetch 160 100 = some (.ireturn, 1, 0, 0, 0, 0) := by decide +kernel
theorem f160_101 : mFetch 160 101 = some (.aload_n 0, 1, 0, 0, 0, 0) := by decide +kernel
theorem f160_102 : mFetch 160 102 = some (.getfield 41, 3, 11, 5, 2, 1) := by decide +kernel
theorem f160_105 : mFetch 160 105 = some (.getfield 138, 3, 7, 3, 0, 0) := by decide +kernel
theorem f160_108 : mFetch 160 108 = some (.ireturn, 1, 0, 0, 0, 0) := by decide +kernel
theorem f160_109 : mFetch 160 109 = some (.aload_n 2, 1, 0, 0, 0, 0) := by decide +kernel
theorem f160_110 : mFetch 160 110 = some (.getfield 188, 3, 0, 4, 0, 0) := by decide +kernel
theorem f160_113 : mFetch 160 113 = some (.ireturn, 1, 0, 0, 0, 0) := by decide +kernel
theorem f160_114 : mFetch 160 114 = some (.aload_n 2, 1, 0, 0, 0, 0) := by decide +kernel
theorem f160_115 : mFetch 160 115 = some (.invokevirtual 219, 3, 11, 0, 1, 0) := by decide +kernel
theorem f160_118 : mFetch 160 118 = some (.ireturn, 1, 0, 0, 0, 0) := by decide +kernel
theorem f160_119 : mFetch 160 119 = some (.aload_n 2, 1, 0, 0, 0, 0) := by decide +kernel
theorem f160_120 : mFetch 160 120 = some (.invokevirtual 320, 3, 22, 0, 1, 0) := by decide +kernel
theorem f160_123 : mFetch 160 123 = some (.ireturn, 1, 0, 0, 0, 0) := by decide +kernel
theorem f160_124 : mFetch 160 124 = some (.aload_n 0, 1, 0, 0, 0, 0) := by decide +kernel
theorem f160_125 : mFetch 160 125 = some (.getfield 41, 3, 11, 5, 2, 1) := by decide +kernel
theorem f160_128 : mFetch 160 128 = some (.getfield 119, 3, 7, 2, 2, 0) := by decide +kernel
theorem f160_131 : mFetch 160 131 = some (.getfield 123, 3, 3, 0, 0, 0) := by decide +kernel
theorem f160_134 : mFetch 160 134 = some (.ireturn, 1, 0, 0, 0, 0) := by decide +kernel
theorem f160_135 : mFetch 160 135 = some (.aload_n 0, 1, 0, 0, 0, 0) := by decide +kernel
theorem f160_136 : mFetch 160 136 = some (.getfield 126, 3, 11, 8, 0, 1) := by decide +kernel
theorem f160_139 : mFetch 160 139 = some (.ireturn, 1, 0, 0, 0, 0) := by decide +kernel
theorem f160_140 : mFetch 160 140 = some (.aload_n 0, 1, 0, 0, 0, 0) := by decide +kernel
theorem f160_141 : mFetch 160 141 = some (.getfield 41, 3, 11, 5, 2, 1) := by decide +kernel
theorem f160_144 : mFetch 160 144 = some (.getfield 367, 3, 7, 4, 0, 0) := by decide +kernel
theorem f160_147 : mFetch 160 147 = some (.ireturn, 1, 0, 0, 0, 0) := by decide +kernel
theorem f160_148 : mFetch 160 148 = some (.aload_n 0, 1, 0, 0, 0, 0) := by decide +kernel
theorem f160_149 : mFetch 160 149 = some (.getfield 12, 3, 11, 0, 2, 1) := by decide +kernel
theorem f160_152 : mFetch 160 152 = some (.getfield 101, 3, 8, 1, 0, 0) := by decide +kernel
theorem f160_155 : mFetch 160 155 = some (.ireturn, 1, 0, 0, 0, 0) := by decide +kernel
theorem f160_156 : mFetch 160 156 = some (.iconst (-1), 1, 0, 0, 0, 0) := by decide +kernel
theorem f160_157 : mFetch 160 157 = some (.ireturn, 1, 0, 0, 0, 0) := by decide +kernel
theorem b160_0 {X : (Nat → Int) × Nat} {d : Nat} {s : mSt} {Q : mQ} {x1 : Int} {l2 : Option mV} (h_1 : x1 = 0 → Wp X d 160 76 [some (mR 0), some (mI x1), some (mR 18)] [] s Q) (h_2 : x1 = 1 → Wp X d 160 81 [some (mR 0), some (mI x1), some (mR 18)] [] s Q) (h_3 : x1 = 2 → Wp X d 160 86 [some (mR 0), some (mI x1), some (mR 18)] [] s Q) (h_4 : x1 = 3 → Wp X d 160 91 [some (mR 0), some (mI x1), some (mR 18)] [] s Q) (h_5 : x1 = 4 → Wp X d 160 96 [some (mR 0), some (mI x1), some (mR 18)] [] s Q) (h_6 : x1 = 5 → Wp X d 160 101 [some (mR 0), some (mI x1), some (mR 18)] [] s Q) (h_7 : x1 = 6 → Wp X d 160 109 [some (mR 0), some (mI x1), some (mR 18)] [] s Q) (h_8 : x1 = 7 → Wp X d 160 114 [some (mR 0), some (mI x1), some (mR 18)] [] s Q) (h_9 : x1 = 8 → Wp X d 160 119 [some (mR 0), some (mI x1), some (mR 18)] [] s Q) (h_10 : x1 = 9 → Wp X d 160 124 [some (mR 0), some (mI x1), some (mR 18)] [] s Q) (h_11 : x1 = 10 → Wp X d 160 135 [some (mR 0), some (mI x1), some (mR 18)] [] s Q) (h_12 : x1 = 11 → Wp X d 160 140 [some (mR 0), some (mI x1), some (mR 18)] [] s Q) (h_13 : x1 = 12 → Wp X d 160 148 [some (mR 0), some (mI x1), some (mR 18)] [] s Q) (h_14 : ¬ x1 = 0 → ¬ x1 = 1 → ¬ x1 = 2 → ¬ x1 = 3 → ¬ x1 = 4 → ¬ x1 = 5 → ¬ x1 = 6 → ¬ x1 = 7 → ¬ x1 = 8 → ¬ x1 = 9 → ¬ x1 = 10 → ¬ x1 = 11 → ¬ x1 = 12 → Wp X d 160 156 [some (mR 0), some (mI x1), some (mR 18)] [] s Q) : Wp X d 160 0 [some (mR 0), some (mI x1), l2] [] s Q := Wp_step k160 f160_0 (Wp_step k160 f160_1 ⟨kf_0, 7, rf_0_5, Wp_step k160 f160_4 ⟨kf_7, 18, rf_7_1, Wp_step k160 f160_7 (Wp_step k160 f160_8 (Wp_step k160 f160_9 (by
    show Wp X d 160 (tT 9 147 0 12 #[67, 72, 77, 82, 87, 92, 100, 105, 110, 115, 126, 131, 139] x1) [some (mR 0), some (mI x1), some (mR 18)] [] s Q
    by_cases q0 : x1 = 0
    · have e : tT 9 147 0 12 #[67, 72, 77, 82, 87, 92, 100, 105, 110, 115, 126, 131, 139] x1 = 76 := by rw [q0]; decide +kernel
      rw [e]; exact h_1 q0
    by_cases q1 : x1 = 1
    · have e : tT 9 147 0 12 #[67, 72, 77, 82, 87, 92, 100, 105, 110, 115, 126, 131, 139] x1 = 81 := by rw [q1]; decide +kernel
      rw [e]; exact h_2 q1
    by_cases q2 : x1 = 2
    · have e : tT 9 147 0 12 #[67, 72, 77, 82, 87, 92, 100, 105, 110, 115, 126, 131, 139] x1 = 86 := by rw [q2]; decide +kernel
      rw [e]; exact h_3 q2
    by_cases q3 : x1 = 3
    · have e : tT 9 147 0 12 #[67, 72, 77, 82, 87, 92, 100, 105, 110, 115, 126, 131, 139] x1 = 91 := by rw [q3]; decide +kernel
      rw [e]; exact h_4 q3
    by_cases q4 : x1 = 4
    · have e : tT 9 147 0 12 #[67, 72, 77, 82, 87, 92, 100, 105, 110, 115, 126, 131, 139] x1 = 96 := by rw [q4]; decide +kernel
      rw [e]; exact h_5 q4
    by_cases q5 : x1 = 5
    · have e : tT 9 147 0 12 #[67, 72, 77, 82, 87, 92, 100, 105, 110, 115, 126, 131, 139] x1 = 101 := by rw [q5]; decide +kernel
      rw [e]; exact h_6 q5
    by_cases q6 : x1 = 6
    · have e : tT 9 147 0 12 #[67, 72, 77, 82, 87, 92, 100, 105, 110, 115, 126, 131, 139] x1 = 109 := by rw [q6]; decide +kernel
      rw [e]; exact h_7 q6
    by_cases q7 : x1 = 7
    · have e : tT 9 147 0 12 #[67, 72, 77, 82, 87, 92, 100, 105, 110, 115, 126, 131, 139] x1 = 114 := by rw [q7]; decide +kernel
      rw [e]; exact h_8 q7
    by_cases q8 : x1 = 8
    · have e : tT 9 147 0 12 #[67, 72, 77, 82, 87, 92, 100, 105, 110, 115, 126, 131, 139] x1 = 119 := by rw [q8]; decide +kernel
      rw [e]; exact h_9 q8
    by_cases q9 : x1 = 9
    · have e : tT 9 147 0 12 #[67, 72, 77, 82, 87, 92, 100, 105, 110, 115, 126, 131, 139] x1 = 124 := by rw [q9]; decide +kernel
      rw [e]; exact h_10 q9
    by_cases q10 : x1 = 10
    · have e : tT 9 147 0 12 #[67, 72, 77, 82, 87, 92, 100, 105, 110, 115, 126, 131, 139] x1 = 135 := by rw [q10]; decide +kernel
      rw [e]; exact h_11 q10
    by_cases q11 : x1 = 11
    · have e : tT 9 147 0 12 #[67, 72, 77, 82, 87, 92, 100, 105, 110, 115, 126, 131, 139] x1 = 140 := by rw [q11]; decide +kernel
      rw [e]; exact h_12 q11
    by_cases q12 : x1 = 12
    · have e : tT 9 147 0 12 #[67, 72, 77, 82, 87, 92, 100, 105, 110, 115, 126, 131, 139] x1 = 148 := by rw [q12]; decide +kernel
      rw [e]; exact h_13 q12
    have e : tT 9 147 0 12 #[67, 72, 77, 82, 87, 92, 100, 105, 110, 115, 126, 131, 139] x1 = 156 := by unfold tT; rw [if_pos (by omega)]; decide +kernel
    rw [e]; exact h_14 q0 q1 q2 q3 q4 q5 q6 q7 q8 q9 q10 q11 q12)))⟩⟩)
theorem b160_76 {X : (Nat → Int) × Nat} {d : Nat} {s : mSt} {Q : mQ} {x1 : Int} (h_1 : Q (some (mI (s 18 0))) s) : Wp X d 160 76 [some (mR 0), some (mI x1), some (mR 18)] [] s Q := Wp_step k160 f160_76 (Wp_step k160 f160_77 ⟨kf_18, Wp_step k160 f160_80 ⟨⟨rfl, trivial⟩, h_1⟩⟩)
theorem b160_81 {X : (Nat → Int) × Nat} {d : Nat} {s : mSt} {Q : mQ} {x1 : Int} (h_1 : Q (some (mI (s 18 1))) s) : Wp X d 160 81 [some (mR 0), some (mI x1), some (mR 18)] [] s Q := Wp_step k160 f160_81 (Wp_step k160 f160_82 ⟨kf_18, Wp_step k160 f160_85 ⟨⟨rfl, trivial⟩, h_1⟩⟩)
theorem b160_86 {X : (Nat → Int) × Nat} {d : Nat} {s : mSt} {Q : mQ} {x1 : Int} (h_1 : Q (some (mI (s 18 2))) s) : Wp X d 160 86 [some (mR 0), some (mI x1), some (mR 18)] [] s Q := Wp_step k160 f160_86 (Wp_step k160 f160_87 ⟨kf_18, Wp_step k160 f160_90 ⟨⟨rfl, trivial⟩, h_1⟩⟩)
theorem b160_91 {X : (Nat → Int) × Nat} {d : Nat} {s : mSt} {Q : mQ} {x1 : Int} (h_1 : Q (some (mI (s 18 3))) s) : Wp X d 160 91 [some (mR 0), some (mI x1), some (mR 18)] [] s Q := Wp_step k160 f160_91 (Wp_step k160 f160_92 ⟨kf_18, Wp_step k160 f160_95 ⟨⟨rfl, trivial⟩, h_1⟩⟩)
theorem b160_96 {X : (Nat → Int) × Nat} {d : Nat} {s : mSt} {Q : mQ} {x1 : Int} (h_1 : Q (some (mI (s 0 4))) s) : Wp X d 160 96 [some (mR 0), some (mI x1), some (mR 18)] [] s Q := Wp_step k160 f160_96 (Wp_step k160 f160_97 ⟨kf_0, Wp_step k160 f160_100 ⟨⟨rfl, trivial⟩, h_1⟩⟩)
theorem b160_101 {X : (Nat → Int) × Nat} {d : Nat} {s : mSt} {Q : mQ} {x1 : Int} (h_1 : Q (some (mI (s 7 3))) s) : Wp X d 160 101 [some (mR 0), some (mI x1), some (mR 18)] [] s Q := Wp_step k160 f160_101 (Wp_step k160 f160_102 ⟨kf_0, 7, rf_0_5, Wp_step k160 f160_105 ⟨kf_7, Wp_step k160 f160_108 ⟨⟨rfl, trivial⟩, h_1⟩⟩⟩)
theorem b160_109 {X : (Nat → Int) × Nat} {d : Nat} {s : mSt} {Q : mQ} {x1 : Int} (h_1 : Q (some (mI (s 18 4))) s) : Wp X d 160 109 [some (mR 0), some (mI x1), some (mR 18)] [] s Q := Wp_step k160 f160_109 (Wp_step k160 f160_110 ⟨kf_18, Wp_step k160 f160_113 ⟨⟨rfl, trivial⟩, h_1⟩⟩)
theorem b160_114 {X : (Nat → Int) × Nat} {d : Nat} {s : mSt} {Q : mQ} {x1 : Int} (h_1 : Sp X d 11 [mR 18] s (fun r s' => ∃ v : Int, r = some (mI v) ∧ Wp X (d + 1) 160 118 [some (mR 0), some (mI x1), some (mR 18)] [mI v] s' Q)) : Wp X (d + 1) 160 114 [some (mR 0), some (mI x1), some (mR 18)] [] s Q := Wp_step k160 f160_114 (Wp_step k160 f160_115 ⟨⟨kf_18, Nat.le_of_ble_eq_true rfl⟩, Nat.le_refl _, _, rfl, Sp_E h_1⟩)
theorem b160_118 {X : (Nat → Int) × Nat} {d : Nat} {s : mSt} {Q : mQ} {x1 : Int} {xt0 : Int} (h_1 : Q (some (mI xt0)) s) : Wp X d 160 118 [some (mR 0), some (mI x1), some (mR 18)] [mI xt0] s Q := Wp_step k160 f160_118 ⟨⟨rfl, trivial⟩, h_1⟩
theorem b160_119 {X : (Nat → Int) × Nat} {d : Nat} {s : mSt} {Q : mQ} {x1 : Int} (h_1 : Sp X d 22 [mR 18] s (fun r s' => ∃ v : Int, r = some (mI v) ∧ Wp X (d + 1) 160 123 [some (mR 0), some (mI x1), some (mR 18)] [mI v] s' Q)) : Wp X (d + 1) 160 119 [some (mR 0), some (mI x1), some (mR 18)] [] s Q := Wp_step k160 f160_119 (Wp_step k160 f160_120 ⟨⟨kf_18, Nat.le_of_ble_eq_true rfl⟩, Nat.le_refl _, _, rfl, Sp_E h_1⟩)
theorem b160_123 {X : (Nat → Int) × Nat} {d : Nat} {s : mSt} {Q : mQ} {x1 : Int} {xt0 : Int} (h_1 : Q (some (mI xt0)) s) : Wp X d 160 123 [some (mR 0), some (mI x1), some (mR 18)] [mI xt0] s Q := Wp_step k160 f160_123 ⟨⟨rfl, trivial⟩, h_1⟩
theorem b160_124 {X : (Nat → Int) × Nat} {d : Nat} {s : mSt} {Q : mQ} {x1 : Int} (h_1 : Q (some (mI (s 28 0))) s) : Wp X d 160 124 [some (mR 0), some (mI x1), some (mR 18)] [] s Q := Wp_step k160 f160_124 (Wp_step k160 f160_125 ⟨kf_0, 7, rf_0_5, Wp_step k160 f160_128 ⟨kf_7, 28, rf_7_2, Wp_step k160 f160_131 ⟨kf_28, Wp_step k160 f160_134 ⟨⟨rfl, trivial⟩, h_1⟩⟩⟩⟩)
theorem b160_135 {X : (Nat → Int) × Nat} {d : Nat} {s : mSt} {Q : mQ} {x1 : Int} (h_1 : Q (some (mI (s 0 8))) s) : Wp X d 160 135 [some (mR 0), some (mI x1), some (mR 18)] [] s Q := Wp_step k160 f160_135 (Wp_step k160 f160_136 ⟨kf_0, Wp_step k160 f160_139 ⟨⟨rfl, trivial⟩, h_1⟩⟩)
theorem b160_140 {X : (Nat → Int) × Nat} {d : Nat} {s : mSt} {Q : mQ} {x1 : Int} (h_1 : Q (some (mI (s 7 4))) s) : Wp X d 160 140 [some (mR 0), some (mI x1), some (mR 18)] [] s Q := Wp_step k160 f160_140 (Wp_step k160 f160_141 ⟨kf_0, 7, rf_0_5, Wp_step k160 f160_144 ⟨kf_7, Wp_step k160 f160_147 ⟨⟨rfl, trivial⟩, h_1⟩⟩⟩)
theorem b160_148 {X : (Nat → Int) × Nat} {d : Nat} {s : mSt} {Q : mQ} {x1 : Int} (h_1 : Q (some (mI (s 1 1))) s) : Wp X d 160 148 [some (mR 0), some (mI x1), some (mR 18)] [] s Q := Wp_step k160 f160_148 (Wp_step k160 f160_149 ⟨kf_0, 1, rf_0_0, Wp_step k160 f160_152 ⟨kf_1, Wp_step k160 f160_155 ⟨⟨rfl, trivial⟩, h_1⟩⟩⟩)
theorem b160_156 {X : (Nat → Int) × Nat} {d : Nat} {s : mSt} {Q : mQ} {x1 : Int} (h_1 : Q (some (mI (-1))) s) : Wp X d 160 156 [some (mR 0), some (mI x1), some (mR 18)] [] s Q := Wp_step k160 f160_156 (Wp_step k160 f160_157 ⟨⟨rfl, trivial⟩, h_1⟩)
theorem e160 {X : (Nat → Int) × Nat} {d : Nat} {s : mSt} {Q : mQ} {x1 : Int} (h : Wp X d 160 0 [some (mR 0), some (mI x1), none] [] s Q) : Sp X d 160 [mR 0, mI x1] s Q := Sp_of (show mCe 160 = 0 by decide +kernel) (by rw [show mML 160 = 3 by decide +kernel]; rfl) (Nat.le_trans (Nat.le_of_ble_eq_true (show Nat.ble (mArgs _).length 3 = true from rfl)) (show 3 ≤ mML 160 by decide +kernel)) h
-- 161 ClashDay.image(I)I
theorem k161 : mRk 161 = 1 := by decide +kernel
theorem f161_0 : mFetch 161 0 = some (.iload_n 1, 1, 0, 0, 0, 0) := by decide +kernel
theorem f161_1 : mFetch 161 1 = some (.ifCond .lt 8, 3, 9, 0, 0, 0) := by decide +kernel
theorem f161_4 : mFetch 161 4 = some (.iload_n 1, 1, 0, 0, 0, 0) := by decide +kernel
theorem f161_5 : mFetch 161 5 = some (.iconst 4, 1, 0, 0, 0, 0) := by decide +kernel
theorem f161_6 : mFetch 161 6 = some (.if_icmp .lt 5, 3, 11, 0, 0, 0) := by decide +kernel
theorem f161_9 : mFetch 161 9 = some (.iconst (-1), 1, 0, 0, 0, 0) := by decide +kernel
theorem f161_10 : mFetch 161 10 = some (.ireturn, 1, 0, 0, 0, 0) := by decide +kernel
theorem f161_11 : mFetch 161 11 = some (.aload_n 0, 1, 0, 0, 0, 0) := by decide +kernel
theorem f161_12 : mFetch 161 12 = some (.getfield 45, 3, 11, 6, 2, 1) := by decide +kernel
theorem f161_15 : mFetch 161 15 = some (.iload_n 1, 1, 0, 0, 0, 0) := by decide +kernel
theorem f161_16 : mFetch 161 16 = some (.aaload, 1, 0, 0, 0, 0) := by decide +kernel
theorem f161_17 : mFetch 161 17 = some (.aload_n 0, 1, 0, 0, 0, 0) := by decide +kernel
theorem f161_18 : mFetch 161 18 = some (.getfield 41, 3, 11, 5, 2, 1) := by decide +kernel
theorem f161_21 : mFetch 161 21 = some (.invokevirtual 389, 3, 85, 0, 2, 7) := by decide +kernel
theorem f161_24 : mFetch 161 24 = some (.aload_n 0, 1, 0, 0, 0, 0) := by decide +kernel
theorem f161_25 : mFetch 161 25 = some (.getfield 45, 3, 11, 6, 2, 1) := by decide +kernel
theorem f161_28 : mFetch 161 28 = some (.iload_n 1, 1, 0, 0, 0, 0) := by decide +kernel
theorem f161_29 : mFetch 161 29 = some (.aaload, 1, 0, 0, 0, 0) := by decide +kernel
theorem f161_30 : mFetch 161 30 = some (.iconst 1, 1, 0, 0, 0, 0) := by decide +kernel
theorem f161_31 : mFetch 161 31 = some (.putfield 392, 3, 7, 5, 3, 0) := by decide +kernel
theorem f161_34 : mFetch 161 34 = some (.aload_n 0, 1, 0, 0, 0, 0) := by decide +kernel
theorem f161_35 : mFetch 161 35 = some (.getfield 41, 3, 11, 5, 2, 1) := by decide +kernel
theorem f161_38 : mFetch 161 38 = some (.getfield 116, 3, 7, 1, 2, 0) := by decide +kernel
theorem f161_41 : mFetch 161 41 = some (.getfield 188, 3, 0, 4, 0, 0) := by decide +kernel
theorem f161_44 : mFetch 161 44 = some (.ireturn, 1, 0, 0, 0, 0) := by decide +kernel
theorem b161_0 {X : (Nat → Int) × Nat} {d : Nat} {s : mSt} {Q : mQ} {x1 : Int} (h_1 : x1 < 0 → Wp X d 161 9 [some (mR 0), some (mI x1)] [] s Q) (h_2 : ¬ x1 < 0 → Wp X d 161 4 [some (mR 0), some (mI x1)] [] s Q) : Wp X d 161 0 [some (mR 0), some (mI x1)] [] s Q := Wp_step k161 f161_0 (Wp_step k161 f161_1 ⟨h_1, h_2⟩)
theorem b161_4 {X : (Nat → Int) × Nat} {d : Nat} {s : mSt} {Q : mQ} {x1 : Int} (h_1 : x1 < 4 → Wp X d 161 11 [some (mR 0), some (mI x1)] [] s Q) (h_2 : ¬ x1 < 4 → Wp X d 161 9 [some (mR 0), some (mI x1)] [] s Q) : Wp X d 161 4 [some (mR 0), some (mI x1)] [] s Q := Wp_step k161 f161_4 (Wp_step k161 f161_5 (Wp_step k161 f161_6 ⟨h_1, h_2⟩))
theorem b161_9 {X : (Nat → Int) × Nat} {d : Nat} {s : mSt} {Q : mQ} {x1 : Int} (h_1 : Q (some (mI (-1))) s) : Wp X d 161 9 [some (mR 0), some (mI x1)] [] s Q := Wp_step k161 f161_9 (Wp_step k161 f161_10 ⟨⟨rfl, trivial⟩, h_1⟩)
theorem b161_11 {X : (Nat → Int) × Nat} {d : Nat} {s : mSt} {Q : mQ} {x1 : Int} {r1 : Nat} (hr1 : isSc r1) (h_1 : 0 ≤ x1 ∧ x1 < 4) (h_2 : s 32 x1.toNat = (r1 : Int)) (h_3 : Sp X d 85 [mR r1, mR 7] s (fun r s' => r = none ∧ Wp X (d + 1) 161 24 [some (mR 0), some (mI x1)] [] s' Q)) : Wp X (d + 1) 161 11 [some (mR 0), some (mI x1)] [] s Q := Wp_step k161 f161_11 (Wp_step k161 f161_12 ⟨kf_0, 32, rf_0_6, Wp_step k161 f161_15 (Wp_step k161 f161_16 ⟨27, 4, af_32, ⟨by decide, by decide⟩, h_1, r1, h_2, Wp_step k161 f161_17 (Wp_step k161 f161_18 ⟨kf_0, 7, rf_0_5, Wp_step k161 f161_21 ⟨⟨(sc_k hr1), Nat.le_of_ble_eq_true rfl⟩, Nat.le_refl _, _, rfl, Sp_V h_3⟩⟩)⟩)⟩)
theorem b161_24 {X : (Nat → Int) × Nat} {d : Nat} {s : mSt} {Q : mQ} {x1 : Int} {r1 : Nat} (hr1 : isSc r1) (h_1 : 0 ≤ x1 ∧ x1 < 4) (h_2 : s 32 x1.toNat = (r1 : Int)) (h_3 : Q (some (mI ((uS s r1 5 1) 18 4))) (uS s r1 5 1)) : Wp X d 161 24 [some (mR 0), some (mI x1)] [] s Q := Wp_step k161 f161_24 (Wp_step k161 f161_25 ⟨kf_0, 32, rf_0_6, Wp_step k161 f161_28 (Wp_step k161 f161_29 ⟨27, 4, af_32, ⟨by decide, by decide⟩, h_1, r1, h_2, Wp_step k161 f161_30 (Wp_step k161 f161_31 ⟨(Or.inr rfl), (sc_k hr1), Wp_step k161 f161_34 (Wp_step k161 f161_35 ⟨kf_0, 7, rf_0_5, Wp_step k161 f161_38 ⟨kf_7, 18, rf_7_1, Wp_step k161 f161_41 ⟨kf_18, Wp_step k161 f161_44 ⟨⟨rfl, trivial⟩, h_3⟩⟩⟩⟩)⟩)⟩)⟩)
theorem e161 {X : (Nat → Int) × Nat} {d : Nat} {s : mSt} {Q : mQ} {x1 : Int} (h : Wp X d 161 0 [some (mR 0), some (mI x1)] [] s Q) : Sp X d 161 [mR 0, mI x1] s Q := Sp_of (show mCe 161 = 0 by decide +kernel) (by rw [show mML 161 = 2 by decide +kernel]; rfl) (Nat.le_trans (Nat.le_of_ble_eq_true (show Nat.ble (mArgs _).length 2 = true from rfl)) (show 2 ≤ mML 161 by decide +kernel)) h
-- 162 ClashDay.back(I)I
theorem k162 : mRk 162 = 1 := by decide +kernel
theorem f162_0 : mFetch 162 0 = some (.iload_n 1, 1, 0, 0, 0, 0) := by decide +kernel
theorem f162_1 : mFetch 162 1 = some (.ifCond .lt 20, 3, 21, 0, 0, 0) := by decide +kernel
theorem f162_4 : mFetch 162 4 = some (.iload_n 1, 1, 0, 0, 0, 0) := by decide +kernel
theorem f162_5 : mFetch 162 5 = some (.iconst 4, 1, 0, 0, 0, 0) := by decide +kernel
theorem f162_6 : mFetch 162 6 = some (.if_icmp .ge 15, 3, 21, 0, 0, 0) := by decide +kernel
theorem f162_9 : mFetch 162 9 = some (.aload_n 0, 1, 0, 0, 0, 0) := by decide +kernel
theorem f162_10 : mFetch 162 10 = some (.getfield 45, 3, 11, 6, 2, 1) := by decide +kernel
theorem f162_13 : mFetch 162 13 = some (.iload_n 1, 1, 0, 0, 0, 0) := by decide +kernel
theorem f162_14 : mFetch 162 14 = some (.aaload, 1, 0, 0, 0, 0) := by decide +kernel
theorem f162_15 : mFetch 162 15 = some (.getfield 392, 3, 7, 5, 3, 0) := by decide +kernel
theorem f162_18 : mFetch 162 18 = some (.ifCond .ne 5, 3, 23, 0, 0, 0) := by decide +kernel
theorem f162_21 : mFetch 162 21 = some (.iconst (-1), 1, 0, 0, 0, 0) := by decide +kernel
theorem f162_22 : mFetch 162 22 = some (.ireturn, 1, 0, 0, 0, 0) := by decide +kernel
theorem f162_23 : mFetch 162 23 = some (.aload_n 0, 1, 0, 0, 0, 0) := by decide +kernel
theorem f162_24 : mFetch 162 24 = some (.getfield 41, 3, 11, 5, 2, 1) := by decide +kernel
theorem f162_27 : mFetch 162 27 = some (.aload_n 0, 1, 0, 0, 0, 0) := by decide +kernel
theorem f162_28 : mFetch 162 28 = some (.getfield 45, 3, 11, 6, 2, 1) := by decide +kernel
theorem f162_31 : mFetch 162 31 = some (.iload_n 1, 1, 0, 0, 0, 0) := by decide +kernel
theorem f162_32 : mFetch 162 32 = some (.aaload, 1, 0, 0, 0, 0) := by decide +kernel
theorem f162_33 : mFetch 162 33 = some (.invokevirtual 389, 3, 85, 0, 2, 7) := by decide +kernel
theorem f162_36 : mFetch 162 36 = some (.aload_n 0, 1, 0, 0, 0, 0) := by decide +kernel
theorem f162_37 : mFetch 162 37 = some (.iconst 0, 1, 0, 0, 0, 0) := by decide +kernel
theorem f162_38 : mFetch 162 38 = some (.putfield 126, 3, 11, 8, 0, 1) := by decide +kernel
theorem f162_41 : mFetch 162 41 = some (.aload_n 0, 1, 0, 0, 0, 0) := by decide +kernel
theorem f162_42 : mFetch 162 42 = some (.getfield 41, 3, 11, 5, 2, 1) := by decide +kernel
theorem f162_45 : mFetch 162 45 = some (.getfield 116, 3, 7, 1, 2, 0) := by decide +kernel
theorem f162_48 : mFetch 162 48 = some (.getfield 188, 3, 0, 4, 0, 0) := by decide +kernel
theorem f162_51 : mFetch 162 51 = some (.ireturn, 1, 0, 0, 0, 0) := by decide +kernel
theorem b162_0 {X : (Nat → Int) × Nat} {d : Nat} {s : mSt} {Q : mQ} {x1 : Int} (h_1 : x1 < 0 → Wp X d 162 21 [some (mR 0), some (mI x1)] [] s Q) (h_2 : ¬ x1 < 0 → Wp X d 162 4 [some (mR 0), some (mI x1)] [] s Q) : Wp X d 162 0 [some (mR 0), some (mI x1)] [] s Q := Wp_step k162 f162_0 (Wp_step k162 f162_1 ⟨h_1, h_2⟩)
theorem b162_4 {X : (Nat → Int) × Nat} {d : Nat} {s : mSt} {Q : mQ} {x1 : Int} (h_1 : 4 ≤ x1 → Wp X d 162 21 [some (mR 0), some (mI x1)] [] s Q) (h_2 : ¬ 4 ≤ x1 → Wp X d 162 9 [some (mR 0), some (mI x1)] [] s Q) : Wp X d 162 4 [some (mR 0), some (mI x1)] [] s Q := Wp_step k162 f162_4 (Wp_step k162 f162_5 (Wp_step k162 f162_6 ⟨h_1, h_2⟩))
theorem b162_9 {X : (Nat → Int) × Nat} {d : Nat} {s : mSt} {Q : mQ} {x1 : Int} {r1 : Nat} (hr1 : isSc r1) (h_1 : 0 ≤ x1 ∧ x1 < 4) (h_2 : s 32 x1.toNat = (r1 : Int)) (h_3 : ¬ (s r1 5) = 0 → Wp X d 162 23 [some (mR 0), some (mI x1)] [] s Q) (h_4 : (s r1 5) = 0 → Wp X d 162 21 [some (mR 0), some (mI x1)] [] s Q) : Wp X d 162 9 [some (mR 0), some (mI x1)] [] s Q := Wp_step k162 f162_9 (Wp_step k162 f162_10 ⟨kf_0, 32, rf_0_6, Wp_step k162 f162_13 (Wp_step k162 f162_14 ⟨27, 4, af_32, ⟨by decide, by decide⟩, h_1, r1, h_2, Wp_step k162 f162_15 ⟨(sc_k hr1), Wp_step k162 f162_18 ⟨h_3, h_4⟩⟩⟩)⟩)
theorem b162_21 {X : (Nat → Int) × Nat} {d : Nat} {s : mSt} {Q : mQ} {x1 : Int} (h_1 : Q (some (mI (-1))) s) : Wp X d 162 21 [some (mR 0), some (mI x1)] [] s Q := Wp_step k162 f162_21 (Wp_step k162 f162_22 ⟨⟨rfl, trivial⟩, h_1⟩)
theorem b162_23 {X : (Nat → Int) × Nat} {d : Nat} {s : mSt} {Q : mQ} {x1 : Int} {r1 : Nat} (hr1 : isSc r1) (h_1 : 0 ≤ x1 ∧ x1 < 4) (h_2 : s 32 x1.toNat = (r1 : Int)) (h_3 : Sp X d 85 [mR 7, mR r1] s (fun r s' => r = none ∧ Wp X (d + 1) 162 36 [some (mR 0), some (mI x1)] [] s' Q)) : Wp X (d + 1) 162 23 [some (mR 0), some (mI x1)] [] s Q := Wp_step k162 f162_23 (Wp_step k162 f162_24 ⟨kf_0, 7, rf_0_5, Wp_step k162 f162_27 (Wp_step k162 f162_28 ⟨kf_0, 32, rf_0_6, Wp_step k162 f162_31 (Wp_step k162 f162_32 ⟨27, 4, af_32, ⟨by decide, by decide⟩, h_1, r1, h_2, Wp_step k162 f162_33 ⟨⟨kf_7, Nat.le_of_ble_eq_true rfl⟩, Nat.le_refl _, _, rfl, Sp_V h_3⟩⟩)⟩)⟩)
theorem b162_36 {X : (Nat → Int) × Nat} {d : Nat} {s : mSt} {Q : mQ} {x1 : Int} (h_1 : Q (some (mI ((uS s 0 8 0) 18 4))) (uS s 0 8 0)) : Wp X d 162 36 [some (mR 0), some (mI x1)] [] s Q := Wp_step k162 f162_36 (Wp_step k162 f162_37 (Wp_step k162 f162_38 ⟨kf_0, Wp_step k162 f162_41 (Wp_step k162 f162_42 ⟨kf_0, 7, rf_0_5, Wp_step k162 f162_45 ⟨kf_7, 18, rf_7_1, Wp_step k162 f162_48 ⟨kf_18, Wp_step k162 f162_51 ⟨⟨rfl, trivial⟩, h_1⟩⟩⟩⟩)⟩))
theorem e162 {X : (Nat → Int) × Nat} {d : Nat} {s : mSt} {Q : mQ} {x1 : Int} (h : Wp X d 162 0 [some (mR 0), some (mI x1)] [] s Q) : Sp X d 162 [mR 0, mI x1] s Q := Sp_of (show mCe 162 = 0 by decide +kernel) (by rw [show mML 162 = 2 by decide +kernel]; rfl) (Nat.le_trans (Nat.le_of_ble_eq_true (show Nat.ble (mArgs _).length 2 = true from rfl)) (show 2 ≤ mML 162 by decide +kernel)) h
-- 163 ClashDay.isSlot(I)Z
theorem k163 : mRk 163 = 2 := by decide +kernel
theorem f163_0 : mFetch 163 0 = some (.iload_n 0, 1, 0, 0, 0, 0) := by decide +kernel
theorem f163_1 : mFetch 163 1 = some (.ifCond .lt 13, 3, 14, 0, 0, 0) := by decide +kernel
theorem f163_4 : mFetch 163 4 = some (.iload_n 0, 1, 0, 0, 0, 0) := by decide +kernel
theorem f163_5 : mFetch 163 5 = some (.bipush 30, 2, 0, 0, 0, 0) := by decide +kernel
theorem f163_7 : mFetch 163 7 = some (.if_icmp .ge 7, 3, 14, 0, 0, 0) := by decide +kernel
theorem f163_10 : mFetch 163 10 = some (.iconst 1, 1, 0, 0, 0, 0) := by decide +kernel
theorem f163_11 : mFetch 163 11 = some (.goto 4, 3, 15, 0, 0, 0) := by decide +kernel
theorem f163_14 : mFetch 163 14 = some (.iconst 0, 1, 0, 0, 0, 0) := by decide +kernel
theorem f163_15 : mFetch 163 15 = some (.ireturn, 1, 0, 0, 0, 0) := by decide +kernel
theorem b163_0 {X : (Nat → Int) × Nat} {d : Nat} {s : mSt} {Q : mQ} {x0 : Int} (h_1 : x0 < 0 → Wp X d 163 14 [some (mI x0)] [] s Q) (h_2 : ¬ x0 < 0 → Wp X d 163 4 [some (mI x0)] [] s Q) : Wp X d 163 0 [some (mI x0)] [] s Q := Wp_step k163 f163_0 (Wp_step k163 f163_1 ⟨h_1, h_2⟩)
theorem b163_4 {X : (Nat → Int) × Nat} {d : Nat} {s : mSt} {Q : mQ} {x0 : Int} (h_1 : 30 ≤ x0 → Wp X d 163 14 [some (mI x0)] [] s Q) (h_2 : ¬ 30 ≤ x0 → Wp X d 163 10 [some (mI x0)] [] s Q) : Wp X d 163 4 [some (mI x0)] [] s Q := Wp_step k163 f163_4 (Wp_step k163 f163_5 (Wp_step k163 f163_7 ⟨h_1, h_2⟩))
theorem b163_10 {X : (Nat → Int) × Nat} {d : Nat} {s : mSt} {Q : mQ} {x0 : Int} (h_1 : Wp X d 163 15 [some (mI x0)] [mI 1] s Q) : Wp X d 163 10 [some (mI x0)] [] s Q := Wp_step k163 f163_10 (Wp_step k163 f163_11 (h_1))
theorem b163_14 {X : (Nat → Int) × Nat} {d : Nat} {s : mSt} {Q : mQ} {x0 : Int} (h_1 : Wp X d 163 15 [some (mI x0)] [mI 0] s Q) : Wp X d 163 14 [some (mI x0)] [] s Q := Wp_step k163 f163_14 (h_1)
theorem b163_15 {X : (Nat → Int) × Nat} {d : Nat} {s : mSt} {Q : mQ} {x0 : Int} {xt0 : Int} (h_1 : Q (some (mI xt0)) s) (h_2 : xt0 = 0 ∨ xt0 = 1) : Wp X d 163 15 [some (mI x0)] [mI xt0] s Q := Wp_step k163 f163_15 ⟨⟨rfl, h_2⟩, h_1⟩
theorem e163 {X : (Nat → Int) × Nat} {d : Nat} {s : mSt} {Q : mQ} {x0 : Int} (h : Wp X d 163 0 [some (mI x0)] [] s Q) : Sp X d 163 [mI x0] s Q := Sp_of (show mCe 163 = 0 by decide +kernel) (by rw [show mML 163 = 1 by decide +kernel]; rfl) (Nat.le_trans (Nat.le_of_ble_eq_true (show Nat.ble (mArgs _).length 1 = true from rfl)) (show 1 ≤ mML 163 by decide +kernel)) h
-- 164 ClashDay.ruleInForce()LClashDay$Rule;
theorem k164 : mRk 164 = 5 := by decide +kernel
theorem f164_0 : mFetch 164 0 = some (.aload_n 0, 1, 0, 0, 0, 0) := by decide +kernel
theorem f164_1 : mFetch 164 1 = some (.getfield 41, 3, 11, 5, 2, 1) := by decide +kernel
theorem f164_4 : mFetch 164 4 = some (.getfield 138, 3, 7, 3, 0, 0) := by decide +kernel
theorem f164_7 : mFetch 164 7 = some (.istore_n 1, 1, 0, 0, 0, 0) := by decide +kernel
theorem f164_8 : mFetch 164 8 = some (.iload_n 1, 1, 0, 0, 0, 0) := by decide +kernel
theorem f164_9 : mFetch 164 9 = some (.ifCond .lt 11, 3, 20, 0, 0, 0) := by decide +kernel
theorem f164_12 : mFetch 164 12 = some (.iload_n 1, 1, 0, 0, 0, 0) := by decide +kernel
theorem f164_13 : mFetch 164 13 = some (.aload_n 0, 1, 0, 0, 0, 0) := by decide +kernel
theorem f164_14 : mFetch 164 14 = some (.getfield 132, 3, 11, 4, 0, 1) := by decide +kernel
theorem f164_17 : mFetch 164 17 = some (.if_icmp .lt 7, 3, 24, 0, 0, 0) := by decide +kernel
theorem f164_20 : mFetch 164 20 = some (.aconst_null, 1, 0, 0, 0, 0) := by decide +kernel
theorem f164_21 : mFetch 164 21 = some (.goto 9, 3, 30, 0, 0, 0) := by decide +kernel
theorem f164_24 : mFetch 164 24 = some (.aload_n 0, 1, 0, 0, 0, 0) := by decide +kernel
theorem f164_25 : mFetch 164 25 = some (.getfield 34, 3, 11, 3, 2, 1) := by decide +kernel
theorem f164_28 : mFetch 164 28 = some (.iload_n 1, 1, 0, 0, 0, 0) := by decide +kernel
theorem f164_29 : mFetch 164 29 = some (.aaload, 1, 0, 0, 0, 0) := by decide +kernel
theorem f164_30 : mFetch 164 30 = some (.areturn, 1, 0, 0, 0, 0) := by decide +kernel
theorem b164_0 {X : (Nat → Int) × Nat} {d : Nat} {s : mSt} {Q : mQ} {l1 : Option mV} (h_1 : (s 7 3) < 0 → Wp X d 164 20 [some (mR 0), some (mI (s 7 3))] [] s Q) (h_2 : ¬ (s 7 3) < 0 → Wp X d 164 12 [some (mR 0), some (mI (s 7 3))] [] s Q) : Wp X d 164 0 [some (mR 0), l1] [] s Q := Wp_step k164 f164_0 (Wp_step k164 f164_1 ⟨kf_0, 7, rf_0_5, Wp_step k164 f164_4 ⟨kf_7, Wp_step k164 f164_7 (Wp_step k164 f164_8 (Wp_step k164 f164_9 ⟨h_1, h_2⟩))⟩⟩)
theorem b164_12 {X : (Nat → Int) × Nat} {d : Nat} {s : mSt} {Q : mQ} {x1 : Int} (h_1 : x1 < (s 0 4) → Wp X d 164 24 [some (mR 0), some (mI x1)] [] s Q) (h_2 : ¬ x1 < (s 0 4) → Wp X d 164 20 [some (mR 0), some (mI x1)] [] s Q) : Wp X d 164 12 [some (mR 0), some (mI x1)] [] s Q := Wp_step k164 f164_12 (Wp_step k164 f164_13 (Wp_step k164 f164_14 ⟨kf_0, Wp_step k164 f164_17 ⟨h_1, h_2⟩⟩))
theorem b164_20 {X : (Nat → Int) × Nat} {d : Nat} {s : mSt} {Q : mQ} {x1 : Int} (h_1 : Wp X d 164 30 [some (mR 0), some (mI x1)] [mN] s Q) : Wp X d 164 20 [some (mR 0), some (mI x1)] [] s Q := Wp_step k164 f164_20 (Wp_step k164 f164_21 (h_1))
theorem b164_24 {X : (Nat → Int) × Nat} {d : Nat} {s : mSt} {Q : mQ} {x1 : Int} {r1 : Nat} (hr1 : isRl r1) (h_1 : 0 ≤ x1 ∧ x1 < 6) (h_2 : s 6 x1.toNat = (r1 : Int)) (h_3 : Wp X d 164 30 [some (mR 0), some (mI x1)] [mR r1] s Q) : Wp X d 164 24 [some (mR 0), some (mI x1)] [] s Q := Wp_step k164 f164_24 (Wp_step k164 f164_25 ⟨kf_0, 6, rf_0_3, Wp_step k164 f164_28 (Wp_step k164 f164_29 ⟨26, 6, af_6, ⟨by decide, by decide⟩, h_1, r1, h_2, h_3⟩)⟩)
theorem b164_30 {X : (Nat → Int) × Nat} {d : Nat} {s : mSt} {Q : mQ} {x1 : Int} {ot0 : Option Nat} (h_1 : Q (some (Sum.inr (Sum.inr (Sum.inl ot0)))) s) : Wp X d 164 30 [some (mR 0), some (mI x1)] [Sum.inr (Sum.inr (Sum.inl ot0))] s Q := Wp_step k164 f164_30 ⟨⟨rfl, rfl⟩, h_1⟩
theorem e164 {X : (Nat → Int) × Nat} {d : Nat} {s : mSt} {Q : mQ} (h : Wp X d 164 0 [some (mR 0), none] [] s Q) : Sp X d 164 [mR 0] s Q := Sp_of (show mCe 164 = 0 by decide +kernel) (by rw [show mML 164 = 2 by decide +kernel]; rfl) (Nat.le_trans (Nat.le_of_ble_eq_true (show Nat.ble (mArgs _).length 2 = true from rfl)) (show 2 ≤ mML 164 by decide +kernel)) h
-- 165 ClashDay.remember()V
theorem k165 : mRk 165 = 0 := by decide +kernel
theorem f165_0 : mFetch 165 0 = some (.aload_n 0, 1, 0, 0, 0, 0) := by decide +kernel
theorem f165_1 : mFetch 165 1 = some (.getfield 126, 3, 11, 8, 0, 1) := by decide +kernel
theorem f165_4 : mFetch 165 4 = some (.bipush 20, 2, 0, 0, 0, 0) := by decide +kernel
theorem f165_6 : mFetch 165 6 = some (.if_icmp .lt 52, 3, 58, 0, 0, 0) := by decide +kernel
theorem f165_9 : mFetch 165 9 = some (.aload_n 0, 1, 0, 0, 0, 0) := by decide +kernel
theorem f165_10 : mFetch 165 10 = some (.getfield 51, 3, 11, 7, 2, 1) := by decide +kernel
theorem f165_13 : mFetch 165 13 = some (.iconst 0, 1, 0, 0, 0, 0) := by decide +kernel
theorem f165_14 : mFetch 165 14 = some (.aaload, 1, 0, 0, 0, 0) := by decide +kernel
theorem f165_15 : mFetch 165 15 = some (.astore_n 1, 1, 0, 0, 0, 0) := by decide +kernel
theorem f165_16 : mFetch 165 16 = some (.iconst 1, 1, 0, 0, 0, 0) := by decide +kernel
theorem f165_17 : mFetch 165 17 = some (.istore_n 2, 1, 0, 0, 0, 0) := by decide +kernel
theorem f165_18 : mFetch 165 18 = some (.iload_n 2, 1, 0, 0, 0, 0) := by decide +kernel
theorem f165_19 : mFetch 165 19 = some (.bipush 20, 2, 0, 0, 0, 0) := by decide +kernel
theorem f165_21 : mFetch 165 21 = some (.if_icmp .ge 23, 3, 44, 0, 0, 0) := by decide +kernel
theorem f165_24 : mFetch 165 24 = some (.aload_n 0, 1, 0, 0, 0, 0) := by decide +kernel
theorem f165_25 : mFetch 165 25 = some (.getfield 51, 3, 11, 7, 2, 1) := by decide +kernel
theorem f165_28 : mFetch 165 28 = some (.iload_n 2, 1, 0, 0, 0, 0) := by decide +kernel
theorem f165_29 : mFetch 165 29 = some (.iconst 1, 1, 0, 0, 0, 0) := by decide +kernel
theorem f165_30 : mFetch 165 30 = some (.isub, 1, 0, 0, 0, 0) := by decide +kernel
theorem f165_31 : mFetch 165 31 = some (.aload_n 0, 1, 0, 0, 0, 0) := by decide +kernel
theorem f165_32 : mFetch 165 32 = some (.getfield 51, 3, 11, 7, 2, 1) := by decide +kernel
theorem f165_35 : mFetch 165 35 = some (.iload_n 2, 1, 0, 0, 0, 0) := by decide +kernel
theorem f165_36 : mFetch 165 36 = some (.aaload, 1, 0, 0, 0, 0) := by decide +kernel
theorem f165_37 : mFetch 165 37 = some (.aastore, 1, 0, 0, 0, 0) := by decide +kernel
theorem f165_38 : mFetch 165 38 = some (.iinc 2 1, 3, 0, 0, 0, 0) := by decide +kernel
theorem f165_41 : mFetch 165 41 = some (.goto (-23), 3, 18, 0, 0, 0) := by decide +kernel
theorem f165_44 : mFetch 165 44 = some (.aload_n 0, 1, 0, 0, 0, 0) := by decide +kernel
theorem f165_45 : mFetch 165 45 = some (.getfield 51, 3, 11, 7, 2, 1) := by decide +kernel
theorem f165_48 : mFetch 165 48 = some (.bipush 19, 2, 0, 0, 0, 0) := by decide +kernel
theorem f165_50 : mFetch 165 50 = some (.aload_n 1, 1, 0, 0, 0, 0) := by decide +kernel
theorem f165_51 : mFetch 165 51 = some (.aastore, 1, 0, 0, 0, 0) := by decide +kernel
theorem f165_52 : mFetch 165 52 = some (.aload_n 0, 1, 0, 0, 0, 0) := by decide +kernel
theorem f165_53 : mFetch 165 53 = some (.bipush 19, 2, 0, 0, 0, 0) := by decide +kernel
theorem f165_55 : mFetch 165 55 = some (.putfield 126, 3, 11, 8, 0, 1) := by decide +kernel
theorem f165_58 : mFetch 165 58 = some (.aload_n 0, 1, 0, 0, 0, 0) := by decide +kernel
theorem f165_59 : mFetch 165 59 = some (.getfield 51, 3, 11, 7, 2, 1) := by decide +kernel
theorem f165_62 : mFetch 165 62 = some (.aload_n 0, 1, 0, 0, 0, 0) := by decide +kernel
theorem f165_63 : mFetch 165 63 = some (.getfield 126, 3, 11, 8, 0, 1) := by decide +kernel
theorem f165_66 : mFetch 165 66 = some (.aaload, 1, 0, 0, 0, 0) := by decide +kernel
theorem f165_67 : mFetch 165 67 = some (.aload_n 0, 1, 0, 0, 0, 0) := by decide +kernel
theorem f165_68 : mFetch 165 68 = some (.getfield 41, 3, 11, 5, 2, 1) := by decide +kernel
theorem f165_71 : mFetch 165 71 = some (.getfield 116, 3, 7, 1, 2, 0) := by decide +kernel
theorem f165_74 : mFetch 165 74 = some (.invokevirtual 112, 3, 3, 0, 2, 0) := by decide +kernel
theorem f165_77 : mFetch 165 77 = some (.aload_n 0, 1, 0, 0, 0, 0) := by decide +kernel
theorem f165_78 : mFetch 165 78 = some (.dup, 1, 0, 0, 0, 0) := by decide +kernel
theorem f165_79 : mFetch 165 79 = some (.getfield 126, 3, 11, 8, 0, 1) := by decide +kernel
theorem f165_82 : mFetch 165 82 = some (.iconst 1, 1, 0, 0, 0, 0) := by decide +kernel
theorem f165_83 : mFetch 165 83 = some (.iadd, 1, 0, 0, 0, 0) := by decide +kernel
theorem f165_84 : mFetch 165 84 = some (.putfield 126, 3, 11, 8, 0, 1) := by decide +kernel
theorem f165_87 : mFetch 165 87 = some (.return_, 1, 0, 0, 0, 0) := by decide +kernel
theorem b165_0 {X : (Nat → Int) × Nat} {d : Nat} {s : mSt} {Q : mQ} {l1 : Option mV} {l2 : Option mV} (h_1 : (s 0 8) < 20 → Wp X d 165 58 [some (mR 0), l1, l2] [] s Q) (h_2 : ¬ (s 0 8) < 20 → Wp X d 165 9 [some (mR 0), l1, l2] [] s Q) : Wp X d 165 0 [some (mR 0), l1, l2] [] s Q := Wp_step k165 f165_0 (Wp_step k165 f165_1 ⟨kf_0, Wp_step k165 f165_4 (Wp_step k165 f165_6 ⟨h_1, h_2⟩)⟩)
theorem b165_9 {X : (Nat → Int) × Nat} {d : Nat} {s : mSt} {Q : mQ} {l1 : Option mV} {l2 : Option mV} {r1 : Nat} (hr1 : isBd r1) (h_1 : s 33 0 = (r1 : Int)) (h_2 : Wp X d 165 18 [some (mR 0), some (mR r1), some (mI 1)] [] s Q) : Wp X d 165 9 [some (mR 0), l1, l2] [] s Q := Wp_step k165 f165_9 (Wp_step k165 f165_10 ⟨kf_0, 33, rf_0_7, Wp_step k165 f165_13 (Wp_step k165 f165_14 ⟨25, 20, af_33, ⟨by decide, by decide⟩, ⟨by decide, by decide⟩, r1, h_1, Wp_step k165 f165_15 (Wp_step k165 f165_16 (Wp_step k165 f165_17 (h_2)))⟩)⟩)
theorem b165_18 {X : (Nat → Int) × Nat} {d : Nat} {s : mSt} {Q : mQ} {a1 : Nat} {x2 : Int} (h1 : isBd a1) (h_1 : 20 ≤ x2 → Wp X d 165 44 [some (mR 0), some (mR a1), some (mI x2)] [] s Q) (h_2 : ¬ 20 ≤ x2 → Wp X d 165 24 [some (mR 0), some (mR a1), some (mI x2)] [] s Q) : Wp X d 165 18 [some (mR 0), some (mR a1), some (mI x2)] [] s Q := Wp_step k165 f165_18 (Wp_step k165 f165_19 (Wp_step k165 f165_21 ⟨h_1, h_2⟩))
theorem b165_24 {X : (Nat → Int) × Nat} {d : Nat} {s : mSt} {Q : mQ} {a1 : Nat} {x2 : Int} {r1 : Nat} (h1 : isBd a1) (hr1 : isBd r1) (h_1 : 0 ≤ x2 ∧ x2 < 20) (h_2 : s 33 x2.toNat = (r1 : Int)) (h_3 : 0 ≤ (w32 (x2 - 1)) ∧ (w32 (x2 - 1)) < 20) (h_4 : Wp X d 165 18 [some (mR 0), some (mR a1), some (mI (w32 (x2 + 1)))] [] (uS s 33 ((w32 (x2 - 1)).toNat) (r1 : Nat)) Q) : Wp X d 165 24 [some (mR 0), some (mR a1), some (mI x2)] [] s Q := Wp_step k165 f165_24 (Wp_step k165 f165_25 ⟨kf_0, 33, rf_0_7, Wp_step k165 f165_28 (Wp_step k165 f165_29 (Wp_step k165 f165_30 (Wp_step k165 f165_31 (Wp_step k165 f165_32 ⟨kf_0, 33, rf_0_7, Wp_step k165 f165_35 (Wp_step k165 f165_36 ⟨25, 20, af_33, ⟨by decide, by decide⟩, h_1, r1, h_2, Wp_step k165 f165_37 ⟨25, 20, af_33, ⟨by decide, by decide, (bd_k hr1)⟩, h_3, Wp_step k165 f165_38 (Wp_step k165 f165_41 (h_4))⟩⟩)⟩))))⟩)
theorem b165_44 {X : (Nat → Int) × Nat} {d : Nat} {s : mSt} {Q : mQ} {a1 : Nat} {x2 : Int} (h1 : isBd a1) (h_1 : Wp X d 165 58 [some (mR 0), some (mR a1), some (mI x2)] [] (uS (uS s 33 19 (a1 : Nat)) 0 8 19) Q) : Wp X d 165 44 [some (mR 0), some (mR a1), some (mI x2)] [] s Q := Wp_step k165 f165_44 (Wp_step k165 f165_45 ⟨kf_0, 33, rf_0_7, Wp_step k165 f165_48 (Wp_step k165 f165_50 (Wp_step k165 f165_51 ⟨25, 20, af_33, ⟨by decide, by decide, (bd_k h1)⟩, ⟨by decide, by decide⟩, Wp_step k165 f165_52 (Wp_step k165 f165_53 (Wp_step k165 f165_55 ⟨kf_0, h_1⟩))⟩))⟩)
theorem b165_58 {X : (Nat → Int) × Nat} {d : Nat} {s : mSt} {Q : mQ} {l1 : Option mV} {l2 : Option mV} {r1 : Nat} (hr1 : isBd r1) (h_1 : 0 ≤ (s 0 8) ∧ (s 0 8) < 20) (h_2 : s 33 (s 0 8).toNat = (r1 : Int)) (h_3 : Sp X d 3 [mR r1, mR 18] s (fun r s' => r = none ∧ Wp X (d + 1) 165 77 [some (mR 0), l1, l2] [] s' Q)) : Wp X (d + 1) 165 58 [some (mR 0), l1, l2] [] s Q := Wp_step k165 f165_58 (Wp_step k165 f165_59 ⟨kf_0, 33, rf_0_7, Wp_step k165 f165_62 (Wp_step k165 f165_63 ⟨kf_0, Wp_step k165 f165_66 ⟨25, 20, af_33, ⟨by decide, by decide⟩, h_1, r1, h_2, Wp_step k165 f165_67 (Wp_step k165 f165_68 ⟨kf_0, 7, rf_0_5, Wp_step k165 f165_71 ⟨kf_7, 18, rf_7_1, Wp_step k165 f165_74 ⟨⟨(bd_k hr1), Nat.le_of_ble_eq_true rfl⟩, Nat.le_refl _, _, rfl, Sp_V h_3⟩⟩⟩)⟩⟩)⟩)
theorem b165_77 {X : (Nat → Int) × Nat} {d : Nat} {s : mSt} {Q : mQ} {l1 : Option mV} {l2 : Option mV} (h_1 : Q none (uS s 0 8 (w32 ((s 0 8) + 1)))) : Wp X d 165 77 [some (mR 0), l1, l2] [] s Q := Wp_step k165 f165_77 (Wp_step k165 f165_78 (Wp_step k165 f165_79 ⟨kf_0, Wp_step k165 f165_82 (Wp_step k165 f165_83 (Wp_step k165 f165_84 ⟨kf_0, Wp_step k165 f165_87 ⟨⟨rfl, Or.inl rfl⟩, h_1⟩⟩))⟩))
theorem e165 {X : (Nat → Int) × Nat} {d : Nat} {s : mSt} {Q : mQ} (h : Wp X d 165 0 [some (mR 0), none, none] [] s Q) : Sp X d 165 [mR 0] s Q := Sp_of (show mCe 165 = 0 by decide +kernel) (by rw [show mML 165 = 3 by decide +kernel]; rfl) (Nat.le_trans (Nat.le_of_ble_eq_true (show Nat.ble (mArgs _).length 3 = true from rfl)) (show 3 ≤ mML 165 by decide +kernel)) h
