-- 137 ClashDay.begins(II)I
theorem k137 : mRk 137 = 1 := by decide +kernel
theorem f137_0 : mFetch 137 0 = some (.aload_n 0, 1, 0, 0, 0, 0) := by decide +kernel
theorem f137_1 : mFetch 137 1 = some (.getfield 41, 3, 11, 5, 2, 1) := by decide +kernel
theorem f137_4 : mFetch 137 4 = some (.getfield 116, 3, 7, 1, 2, 0) := by decide +kernel
theorem f137_7 : mFetch 137 7 = some (.astore_n 3, 1, 0, 0, 0, 0) := by decide +kernel
theorem f137_8 : mFetch 137 8 = some (.aload_n 3, 1, 0, 0, 0, 0) := by decide +kernel
theorem f137_9 : mFetch 137 9 = some (.iload_n 1, 1, 0, 0, 0, 0) := by decide +kernel
theorem f137_10 : mFetch 137 10 = some (.invokevirtual 213, 3, 9, 0, 2, 0) := by decide +kernel
theorem f137_13 : mFetch 137 13 = some (.ifCond .eq 11, 3, 24, 0, 0, 0) := by decide +kernel
theorem f137_16 : mFetch 137 16 = some (.aload_n 3, 1, 0, 0, 0, 0) := by decide +kernel
theorem f137_17 : mFetch 137 17 = some (.iload_n 2, 1, 0, 0, 0, 0) := by decide +kernel
theorem f137_18 : mFetch 137 18 = some (.invokevirtual 141, 3, 7, 0, 2, 0) := by decide +kernel
theorem f137_21 : mFetch 137 21 = some (.ifCond .ne 5, 3, 26, 0, 0, 0) := by decide +kernel
theorem f137_24 : mFetch 137 24 = some (.iconst (-1), 1, 0, 0, 0, 0) := by decide +kernel
theorem f137_25 : mFetch 137 25 = some (.ireturn, 1, 0, 0, 0, 0) := by decide +kernel
theorem f137_26 : mFetch 137 26 = some (.aload_n 3, 1, 0, 0, 0, 0) := by decide +kernel
theorem f137_27 : mFetch 137 27 = some (.iload_n 1, 1, 0, 0, 0, 0) := by decide +kernel
theorem f137_28 : mFetch 137 28 = some (.iload_n 2, 1, 0, 0, 0, 0) := by decide +kernel
theorem f137_29 : mFetch 137 29 = some (.invokevirtual 180, 3, 12, 0, 3, 0) := by decide +kernel
theorem f137_32 : mFetch 137 32 = some (.ifCond .eq 12, 3, 44, 0, 0, 0) := by decide +kernel
theorem f137_35 : mFetch 137 35 = some (.aload_n 3, 1, 0, 0, 0, 0) := by decide +kernel
theorem f137_36 : mFetch 137 36 = some (.iload_n 1, 1, 0, 0, 0, 0) := by decide +kernel
theorem f137_37 : mFetch 137 37 = some (.iload_n 2, 1, 0, 0, 0, 0) := by decide +kernel
theorem f137_38 : mFetch 137 38 = some (.invokevirtual 238, 3, 16, 0, 3, 0) := by decide +kernel
theorem f137_41 : mFetch 137 41 = some (.goto 5, 3, 46, 0, 0, 0) := by decide +kernel
theorem f137_44 : mFetch 137 44 = some (.bipush (-2), 2, 0, 0, 0, 0) := by decide +kernel
theorem f137_46 : mFetch 137 46 = some (.ireturn, 1, 0, 0, 0, 0) := by decide +kernel
theorem b137_0 {X : (Nat → Int) × Nat} {d : Nat} {s : mSt} {Q : mQ} {x1 : Int} {x2 : Int} {l3 : Option mV} (h_1 : Sp X d 9 [mR 18, mI x1] s (fun r s' => ∃ v : Int, r = some (mI v) ∧ Wp X (d + 1) 137 13 [some (mR 0), some (mI x1), some (mI x2), some (mR 18)] [mI v] s' Q)) : Wp X (d + 1) 137 0 [some (mR 0), some (mI x1), some (mI x2), l3] [] s Q := Wp_step k137 f137_0 (Wp_step k137 f137_1 ⟨kf_0, 7, rf_0_5, Wp_step k137 f137_4 ⟨kf_7, 18, rf_7_1, Wp_step k137 f137_7 (Wp_step k137 f137_8 (Wp_step k137 f137_9 (Wp_step k137 f137_10 ⟨⟨kf_18, Nat.le_of_ble_eq_true rfl⟩, Nat.le_refl _, _, rfl, Sp_E h_1⟩)))⟩⟩)
theorem b137_13 {X : (Nat → Int) × Nat} {d : Nat} {s : mSt} {Q : mQ} {x1 : Int} {x2 : Int} {xt0 : Int} (h_1 : xt0 = 0 → Wp X d 137 24 [some (mR 0), some (mI x1), some (mI x2), some (mR 18)] [] s Q) (h_2 : ¬ xt0 = 0 → Wp X d 137 16 [some (mR 0), some (mI x1), some (mI x2), some (mR 18)] [] s Q) : Wp X d 137 13 [some (mR 0), some (mI x1), some (mI x2), some (mR 18)] [mI xt0] s Q := Wp_step k137 f137_13 ⟨h_1, h_2⟩
theorem b137_16 {X : (Nat → Int) × Nat} {d : Nat} {s : mSt} {Q : mQ} {x1 : Int} {x2 : Int} (h_1 : Sp X d 7 [mR 18, mI x2] s (fun r s' => ∃ v : Int, r = some (mI v) ∧ Wp X (d + 1) 137 21 [some (mR 0), some (mI x1), some (mI x2), some (mR 18)] [mI v] s' Q)) : Wp X (d + 1) 137 16 [some (mR 0), some (mI x1), some (mI x2), some (mR 18)] [] s Q := Wp_step k137 f137_16 (Wp_step k137 f137_17 (Wp_step k137 f137_18 ⟨⟨kf_18, Nat.le_of_ble_eq_true rfl⟩, Nat.le_refl _, _, rfl, Sp_E h_1⟩))
theorem b137_21 {X : (Nat → Int) × Nat} {d : Nat} {s : mSt} {Q : mQ} {x1 : Int} {x2 : Int} {xt0 : Int} (h_1 : ¬ xt0 = 0 → Wp X d 137 26 [some (mR 0), some (mI x1), some (mI x2), some (mR 18)] [] s Q) (h_2 : xt0 = 0 → Wp X d 137 24 [some (mR 0), some (mI x1), some (mI x2), some (mR 18)] [] s Q) : Wp X d 137 21 [some (mR 0), some (mI x1), some (mI x2), some (mR 18)] [mI xt0] s Q := Wp_step k137 f137_21 ⟨h_1, h_2⟩
theorem b137_24 {X : (Nat → Int) × Nat} {d : Nat} {s : mSt} {Q : mQ} {x1 : Int} {x2 : Int} (h_1 : Q (some (mI (-1))) s) : Wp X d 137 24 [some (mR 0), some (mI x1), some (mI x2), some (mR 18)] [] s Q := Wp_step k137 f137_24 (Wp_step k137 f137_25 ⟨⟨rfl, trivial⟩, h_1⟩)
theorem b137_26 {X : (Nat → Int) × Nat} {d : Nat} {s : mSt} {Q : mQ} {x1 : Int} {x2 : Int} (h_1 : Sp X d 12 [mR 18, mI x1, mI x2] s (fun r s' => ∃ v : Int, r = some (mI v) ∧ Wp X (d + 1) 137 32 [some (mR 0), some (mI x1), some (mI x2), some (mR 18)] [mI v] s' Q)) : Wp X (d + 1) 137 26 [some (mR 0), some (mI x1), some (mI x2), some (mR 18)] [] s Q := Wp_step k137 f137_26 (Wp_step k137 f137_27 (Wp_step k137 f137_28 (Wp_step k137 f137_29 ⟨⟨kf_18, Nat.le_of_ble_eq_true rfl⟩, Nat.le_refl _, _, rfl, Sp_E h_1⟩)))
theorem b137_32 {X : (Nat → Int) × Nat} {d : Nat} {s : mSt} {Q : mQ} {x1 : Int} {x2 : Int} {xt0 : Int} (h_1 : xt0 = 0 → Wp X d 137 44 [some (mR 0), some (mI x1), some (mI x2), some (mR 18)] [] s Q) (h_2 : ¬ xt0 = 0 → Wp X d 137 35 [some (mR 0), some (mI x1), some (mI x2), some (mR 18)] [] s Q) : Wp X d 137 32 [some (mR 0), some (mI x1), some (mI x2), some (mR 18)] [mI xt0] s Q := Wp_step k137 f137_32 ⟨h_1, h_2⟩
theorem b137_35 {X : (Nat → Int) × Nat} {d : Nat} {s : mSt} {Q : mQ} {x1 : Int} {x2 : Int} (h_1 : Sp X d 16 [mR 18, mI x1, mI x2] s (fun r s' => ∃ v : Int, r = some (mI v) ∧ Wp X (d + 1) 137 41 [some (mR 0), some (mI x1), some (mI x2), some (mR 18)] [mI v] s' Q)) : Wp X (d + 1) 137 35 [some (mR 0), some (mI x1), some (mI x2), some (mR 18)] [] s Q := Wp_step k137 f137_35 (Wp_step k137 f137_36 (Wp_step k137 f137_37 (Wp_step k137 f137_38 ⟨⟨kf_18, Nat.le_of_ble_eq_true rfl⟩, Nat.le_refl _, _, rfl, Sp_E h_1⟩)))
theorem b137_41 {X : (Nat → Int) × Nat} {d : Nat} {s : mSt} {Q : mQ} {x1 : Int} {x2 : Int} {xt0 : Int} (h_1 : Wp X d 137 46 [some (mR 0), some (mI x1), some (mI x2), some (mR 18)] [mI xt0] s Q) : Wp X d 137 41 [some (mR 0), some (mI x1), some (mI x2), some (mR 18)] [mI xt0] s Q := Wp_step k137 f137_41 (h_1)
theorem b137_44 {X : (Nat → Int) × Nat} {d : Nat} {s : mSt} {Q : mQ} {x1 : Int} {x2 : Int} (h_1 : Wp X d 137 46 [some (mR 0), some (mI x1), some (mI x2), some (mR 18)] [mI (-2)] s Q) : Wp X d 137 44 [some (mR 0), some (mI x1), some (mI x2), some (mR 18)] [] s Q := Wp_step k137 f137_44 (h_1)
theorem b137_46 {X : (Nat → Int) × Nat} {d : Nat} {s : mSt} {Q : mQ} {x1 : Int} {x2 : Int} {xt0 : Int} (h_1 : Q (some (mI xt0)) s) : Wp X d 137 46 [some (mR 0), some (mI x1), some (mI x2), some (mR 18)] [mI xt0] s Q := Wp_step k137 f137_46 ⟨⟨rfl, trivial⟩, h_1⟩
theorem e137 {X : (Nat → Int) × Nat} {d : Nat} {s : mSt} {Q : mQ} {x1 : Int} {x2 : Int} (h : Wp X d 137 0 [some (mR 0), some (mI x1), some (mI x2), none] [] s Q) : Sp X d 137 [mR 0, mI x1, mI x2] s Q := Sp_of (show mCe 137 = 0 by decide +kernel) (by rw [show mML 137 = 4 by decide +kernel]; rfl) (Nat.le_trans (Nat.le_of_ble_eq_true (show Nat.ble (mArgs _).length 4 = true from rfl)) (show 4 ≤ mML 137 by decide +kernel)) h
-- 138 ClashDay.could(II)I
theorem k138 : mRk 138 = 1 := by decide +kernel
theorem f138_0 : mFetch 138 0 = some (.aload_n 0, 1, 0, 0, 0, 0) := by decide +kernel
theorem f138_1 : mFetch 138 1 = some (.getfield 41, 3, 11, 5, 2, 1) := by decide +kernel
theorem f138_4 : mFetch 138 4 = some (.getfield 116, 3, 7, 1, 2, 0) := by decide +kernel
theorem f138_7 : mFetch 138 7 = some (.astore_n 3, 1, 0, 0, 0, 0) := by decide +kernel
theorem f138_8 : mFetch 138 8 = some (.aload_n 3, 1, 0, 0, 0, 0) := by decide +kernel
theorem f138_9 : mFetch 138 9 = some (.iload_n 1, 1, 0, 0, 0, 0) := by decide +kernel
theorem f138_10 : mFetch 138 10 = some (.invokevirtual 167, 3, 10, 0, 2, 0) := by decide +kernel
theorem f138_13 : mFetch 138 13 = some (.ifCond .eq 13, 3, 26, 0, 0, 0) := by decide +kernel
theorem f138_16 : mFetch 138 16 = some (.iload_n 2, 1, 0, 0, 0, 0) := by decide +kernel
theorem f138_17 : mFetch 138 17 = some (.ifCond .lt 9, 3, 26, 0, 0, 0) := by decide +kernel
theorem f138_20 : mFetch 138 20 = some (.iload_n 2, 1, 0, 0, 0, 0) := by decide +kernel
theorem f138_21 : mFetch 138 21 = some (.bipush 7, 2, 0, 0, 0, 0) := by decide +kernel
theorem f138_23 : mFetch 138 23 = some (.if_icmp .le 6, 3, 29, 0, 0, 0) := by decide +kernel
theorem f138_26 : mFetch 138 26 = some (.bipush (-3), 2, 0, 0, 0, 0) := by decide +kernel
theorem f138_28 : mFetch 138 28 = some (.ireturn, 1, 0, 0, 0, 0) := by decide +kernel
theorem f138_29 : mFetch 138 29 = some (.aload_n 0, 1, 0, 0, 0, 0) := by decide +kernel
theorem f138_30 : mFetch 138 30 = some (.getfield 63, 3, 11, 10, 2, 1) := by decide +kernel
theorem f138_33 : mFetch 138 33 = some (.aload_n 3, 1, 0, 0, 0, 0) := by decide +kernel
theorem f138_34 : mFetch 138 34 = some (.iload_n 1, 1, 0, 0, 0, 0) := by decide +kernel
theorem f138_35 : mFetch 138 35 = some (.aload_n 3, 1, 0, 0, 0, 0) := by decide +kernel
theorem f138_36 : mFetch 138 36 = some (.getfield 158, 3, 0, 8, 2, 0) := by decide +kernel
theorem f138_39 : mFetch 138 39 = some (.iload_n 1, 1, 0, 0, 0, 0) := by decide +kernel
theorem f138_40 : mFetch 138 40 = some (.iaload, 1, 0, 0, 0, 0) := by decide +kernel
theorem f138_41 : mFetch 138 41 = some (.invokevirtual 202, 3, 59, 0, 4, 4) := by decide +kernel
theorem f138_44 : mFetch 138 44 = some (.ifCond .ne 6, 3, 50, 0, 0, 0) := by decide +kernel
theorem f138_47 : mFetch 138 47 = some (.bipush (-2), 2, 0, 0, 0, 0) := by decide +kernel
theorem f138_49 : mFetch 138 49 = some (.ireturn, 1, 0, 0, 0, 0) := by decide +kernel
theorem f138_50 : mFetch 138 50 = some (.iload_n 2, 1, 0, 0, 0, 0) := by decide +kernel
theorem f138_51 : mFetch 138 51 = some (.tableswitch 52 0 2 #[25, 33, 44], 25, 0, 0, 0, 0) := by decide +kernel
theorem f138_76 : mFetch 138 76 = some (.aload_n 0, 1, 0, 0, 0, 0) := by decide +kernel
theorem f138_77 : mFetch 138 77 = some (.getfield 63, 3, 11, 10, 2, 1) := by decide +kernel
theorem f138_80 : mFetch 138 80 = some (.getfield 241, 3, 4, 7, 0, 0) := by decide +kernel
theorem f138_83 : mFetch 138 83 = some (.ireturn, 1, 0, 0, 0, 0) := by decide +kernel
theorem f138_84 : mFetch 138 84 = some (.aload_n 0, 1, 0, 0, 0, 0) := by decide +kernel
theorem f138_85 : mFetch 138 85 = some (.getfield 63, 3, 11, 10, 2, 1) := by decide +kernel
theorem f138_88 : mFetch 138 88 = some (.getfield 244, 3, 4, 8, 0, 0) := by decide +kernel
theorem f138_91 : mFetch 138 91 = some (.invokestatic 223, 3, 309, 0, 1, 99) := by decide +kernel
theorem f138_94 : mFetch 138 94 = some (.ireturn, 1, 0, 0, 0, 0) := by decide +kernel
theorem f138_95 : mFetch 138 95 = some (.aload_n 0, 1, 0, 0, 0, 0) := by decide +kernel
theorem f138_96 : mFetch 138 96 = some (.getfield 63, 3, 11, 10, 2, 1) := by decide +kernel
theorem f138_99 : mFetch 138 99 = some (.getfield 210, 3, 4, 10, 0, 0) := by decide +kernel
theorem f138_102 : mFetch 138 102 = some (.ireturn, 1, 0, 0, 0, 0) := by decide +kernel
theorem f138_103 : mFetch 138 103 = some (.aload_n 0, 1, 0, 0, 0, 0) := by decide +kernel
theorem f138_104 : mFetch 138 104 = some (.getfield 63, 3, 11, 10, 2, 1) := by decide +kernel
theorem f138_107 : mFetch 138 107 = some (.getfield 247, 3, 4, 11, 2, 0) := by decide +kernel
theorem f138_110 : mFetch 138 110 = some (.iload_n 2, 1, 0, 0, 0, 0) := by decide +kernel
theorem f138_111 : mFetch 138 111 = some (.iconst 3, 1, 0, 0, 0, 0) := by decide +kernel
theorem f138_112 : mFetch 138 112 = some (.isub, 1, 0, 0, 0, 0) := by decide +kernel
theorem f138_113 : mFetch 138 113 = some (.iaload, 1, 0, 0, 0, 0) := by decide +kernel
theorem f138_114 : mFetch 138 114 = some (.ireturn, 1, 0, 0, 0, 0) := by decide +kernel
theorem b138_0 {X : (Nat → Int) × Nat} {d : Nat} {s : mSt} {Q : mQ} {x1 : Int} {x2 : Int} {l3 : Option mV} (h_1 : Sp X d 10 [mR 18, mI x1] s (fun r s' => ∃ v : Int, r = some (mI v) ∧ Wp X (d + 1) 138 13 [some (mR 0), some (mI x1), some (mI x2), some (mR 18)] [mI v] s' Q)) : Wp X (d + 1) 138 0 [some (mR 0), some (mI x1), some (mI x2), l3] [] s Q := Wp_step k138 f138_0 (Wp_step k138 f138_1 ⟨kf_0, 7, rf_0_5, Wp_step k138 f138_4 ⟨kf_7, 18, rf_7_1, Wp_step k138 f138_7 (Wp_step k138 f138_8 (Wp_step k138 f138_9 (Wp_step k138 f138_10 ⟨⟨kf_18, Nat.le_of_ble_eq_true rfl⟩, Nat.le_refl _, _, rfl, Sp_E h_1⟩)))⟩⟩)
theorem b138_13 {X : (Nat → Int) × Nat} {d : Nat} {s : mSt} {Q : mQ} {x1 : Int} {x2 : Int} {xt0 : Int} (h_1 : xt0 = 0 → Wp X d 138 26 [some (mR 0), some (mI x1), some (mI x2), some (mR 18)] [] s Q) (h_2 : ¬ xt0 = 0 → Wp X d 138 16 [some (mR 0), some (mI x1), some (mI x2), some (mR 18)] [] s Q) : Wp X d 138 13 [some (mR 0), some (mI x1), some (mI x2), some (mR 18)] [mI xt0] s Q := Wp_step k138 f138_13 ⟨h_1, h_2⟩
theorem b138_16 {X : (Nat → Int) × Nat} {d : Nat} {s : mSt} {Q : mQ} {x1 : Int} {x2 : Int} (h_1 : x2 < 0 → Wp X d 138 26 [some (mR 0), some (mI x1), some (mI x2), some (mR 18)] [] s Q) (h_2 : ¬ x2 < 0 → Wp X d 138 20 [some (mR 0), some (mI x1), some (mI x2), some (mR 18)] [] s Q) : Wp X d 138 16 [some (mR 0), some (mI x1), some (mI x2), some (mR 18)] [] s Q := Wp_step k138 f138_16 (Wp_step k138 f138_17 ⟨h_1, h_2⟩)
theorem b138_20 {X : (Nat → Int) × Nat} {d : Nat} {s : mSt} {Q : mQ} {x1 : Int} {x2 : Int} (h_1 : x2 ≤ 7 → Wp X d 138 29 [some (mR 0), some (mI x1), some (mI x2), some (mR 18)] [] s Q) (h_2 : ¬ x2 ≤ 7 → Wp X d 138 26 [some (mR 0), some (mI x1), some (mI x2), some (mR 18)] [] s Q) : Wp X d 138 20 [some (mR 0), some (mI x1), some (mI x2), some (mR 18)] [] s Q := Wp_step k138 f138_20 (Wp_step k138 f138_21 (Wp_step k138 f138_23 ⟨h_1, h_2⟩))
theorem b138_26 {X : (Nat → Int) × Nat} {d : Nat} {s : mSt} {Q : mQ} {x1 : Int} {x2 : Int} (h_1 : Q (some (mI (-3))) s) : Wp X d 138 26 [some (mR 0), some (mI x1), some (mI x2), some (mR 18)] [] s Q := Wp_step k138 f138_26 (Wp_step k138 f138_28 ⟨⟨rfl, trivial⟩, h_1⟩)
theorem b138_29 {X : (Nat → Int) × Nat} {d : Nat} {s : mSt} {Q : mQ} {x1 : Int} {x2 : Int} (h_1 : 0 ≤ x1 ∧ x1 < 6) (h_2 : Sp X d 59 [mR 44, mR 18, mI x1, mI (s 21 x1.toNat)] s (fun r s' => ∃ v : Int, r = some (mI v) ∧ Wp X (d + 1) 138 44 [some (mR 0), some (mI x1), some (mI x2), some (mR 18)] [mI v] s' Q)) : Wp X (d + 1) 138 29 [some (mR 0), some (mI x1), some (mI x2), some (mR 18)] [] s Q := Wp_step k138 f138_29 (Wp_step k138 f138_30 ⟨kf_0, 44, rf_0_10, Wp_step k138 f138_33 (Wp_step k138 f138_34 (Wp_step k138 f138_35 (Wp_step k138 f138_36 ⟨kf_18, 21, rf_18_8, Wp_step k138 f138_39 (Wp_step k138 f138_40 ⟨6, af_21, h_1, Wp_step k138 f138_41 ⟨⟨kf_44, Nat.le_of_ble_eq_true rfl⟩, Nat.le_refl _, _, rfl, Sp_E h_2⟩⟩)⟩)))⟩)
theorem b138_44 {X : (Nat → Int) × Nat} {d : Nat} {s : mSt} {Q : mQ} {x1 : Int} {x2 : Int} {xt0 : Int} (h_1 : ¬ xt0 = 0 → Wp X d 138 50 [some (mR 0), some (mI x1), some (mI x2), some (mR 18)] [] s Q) (h_2 : xt0 = 0 → Wp X d 138 47 [some (mR 0), some (mI x1), some (mI x2), some (mR 18)] [] s Q) : Wp X d 138 44 [some (mR 0), some (mI x1), some (mI x2), some (mR 18)] [mI xt0] s Q := Wp_step k138 f138_44 ⟨h_1, h_2⟩
theorem b138_47 {X : (Nat → Int) × Nat} {d : Nat} {s : mSt} {Q : mQ} {x1 : Int} {x2 : Int} (h_1 : Q (some (mI (-2))) s) : Wp X d 138 47 [some (mR 0), some (mI x1), some (mI x2), some (mR 18)] [] s Q := Wp_step k138 f138_47 (Wp_step k138 f138_49 ⟨⟨rfl, trivial⟩, h_1⟩)
theorem b138_50 {X : (Nat → Int) × Nat} {d : Nat} {s : mSt} {Q : mQ} {x1 : Int} {x2 : Int} (h_1 : x2 = 0 → Wp X d 138 76 [some (mR 0), some (mI x1), some (mI x2), some (mR 18)] [] s Q) (h_2 : x2 = 1 → Wp X d 138 84 [some (mR 0), some (mI x1), some (mI x2), some (mR 18)] [] s Q) (h_3 : x2 = 2 → Wp X d 138 95 [some (mR 0), some (mI x1), some (mI x2), some (mR 18)] [] s Q) (h_4 : ¬ x2 = 0 → ¬ x2 = 1 → ¬ x2 = 2 → Wp X d 138 103 [some (mR 0), some (mI x1), some (mI x2), some (mR 18)] [] s Q) : Wp X d 138 50 [some (mR 0), some (mI x1), some (mI x2), some (mR 18)] [] s Q := Wp_step k138 f138_50 (Wp_step k138 f138_51 (by
    show Wp X d 138 (tT 51 52 0 2 #[25, 33, 44] x2) [some (mR 0), some (mI x1), some (mI x2), some (mR 18)] [] s Q
    by_cases q0 : x2 = 0
    · have e : tT 51 52 0 2 #[25, 33, 44] x2 = 76 := by rw [q0]; decide +kernel
      rw [e]; exact h_1 q0
    by_cases q1 : x2 = 1
    · have e : tT 51 52 0 2 #[25, 33, 44] x2 = 84 := by rw [q1]; decide +kernel
      rw [e]; exact h_2 q1
    by_cases q2 : x2 = 2
    · have e : tT 51 52 0 2 #[25, 33, 44] x2 = 95 := by rw [q2]; decide +kernel
      rw [e]; exact h_3 q2
    have e : tT 51 52 0 2 #[25, 33, 44] x2 = 103 := by unfold tT; rw [if_pos (by omega)]; decide +kernel
    rw [e]; exact h_4 q0 q1 q2))
theorem b138_76 {X : (Nat → Int) × Nat} {d : Nat} {s : mSt} {Q : mQ} {x1 : Int} {x2 : Int} (h_1 : Q (some (mI (s 44 7))) s) : Wp X d 138 76 [some (mR 0), some (mI x1), some (mI x2), some (mR 18)] [] s Q := Wp_step k138 f138_76 (Wp_step k138 f138_77 ⟨kf_0, 44, rf_0_10, Wp_step k138 f138_80 ⟨kf_44, Wp_step k138 f138_83 ⟨⟨rfl, trivial⟩, h_1⟩⟩⟩)
theorem b138_84 {X : (Nat → Int) × Nat} {d : Nat} {s : mSt} {Q : mQ} {x1 : Int} {x2 : Int} (h_1 : Sp X d 309 [mI (s 44 8)] s (fun r s' => ∃ v : Int, r = some (mI v) ∧ Wp X (d + 1) 138 94 [some (mR 0), some (mI x1), some (mI x2), some (mR 18)] [mI v] s' Q)) : Wp X (d + 1) 138 84 [some (mR 0), some (mI x1), some (mI x2), some (mR 18)] [] s Q := Wp_step k138 f138_84 (Wp_step k138 f138_85 ⟨kf_0, 44, rf_0_10, Wp_step k138 f138_88 ⟨kf_44, Wp_step k138 f138_91 ⟨⟨Nat.le_of_ble_eq_true rfl, Nat.le_refl _⟩, _, rfl, Sp_E h_1⟩⟩⟩)
theorem b138_94 {X : (Nat → Int) × Nat} {d : Nat} {s : mSt} {Q : mQ} {x1 : Int} {x2 : Int} {xt0 : Int} (h_1 : Q (some (mI xt0)) s) : Wp X d 138 94 [some (mR 0), some (mI x1), some (mI x2), some (mR 18)] [mI xt0] s Q := Wp_step k138 f138_94 ⟨⟨rfl, trivial⟩, h_1⟩
theorem b138_95 {X : (Nat → Int) × Nat} {d : Nat} {s : mSt} {Q : mQ} {x1 : Int} {x2 : Int} (h_1 : Q (some (mI (s 44 10))) s) : Wp X d 138 95 [some (mR 0), some (mI x1), some (mI x2), some (mR 18)] [] s Q := Wp_step k138 f138_95 (Wp_step k138 f138_96 ⟨kf_0, 44, rf_0_10, Wp_step k138 f138_99 ⟨kf_44, Wp_step k138 f138_102 ⟨⟨rfl, trivial⟩, h_1⟩⟩⟩)
theorem b138_103 {X : (Nat → Int) × Nat} {d : Nat} {s : mSt} {Q : mQ} {x1 : Int} {x2 : Int} (h_1 : 0 ≤ (w32 (x2 - 3)) ∧ (w32 (x2 - 3)) < 5) (h_2 : Q (some (mI (s 49 (w32 (x2 - 3)).toNat))) s) : Wp X d 138 103 [some (mR 0), some (mI x1), some (mI x2), some (mR 18)] [] s Q := Wp_step k138 f138_103 (Wp_step k138 f138_104 ⟨kf_0, 44, rf_0_10, Wp_step k138 f138_107 ⟨kf_44, 49, rf_44_11, Wp_step k138 f138_110 (Wp_step k138 f138_111 (Wp_step k138 f138_112 (Wp_step k138 f138_113 ⟨5, af_49, h_1, Wp_step k138 f138_114 ⟨⟨rfl, trivial⟩, h_2⟩⟩)))⟩⟩)
theorem e138 {X : (Nat → Int) × Nat} {d : Nat} {s : mSt} {Q : mQ} {x1 : Int} {x2 : Int} (h : Wp X d 138 0 [some (mR 0), some (mI x1), some (mI x2), none] [] s Q) : Sp X d 138 [mR 0, mI x1, mI x2] s Q := Sp_of (show mCe 138 = 0 by decide +kernel) (by rw [show mML 138 = 4 by decide +kernel]; rfl) (Nat.le_trans (Nat.le_of_ble_eq_true (show Nat.ble (mArgs _).length 4 = true from rfl)) (show 4 ≤ mML 138 by decide +kernel)) h
-- 139 ClashDay.orders(I)I
theorem k139 : mRk 139 = 1 := by decide +kernel
theorem f139_0 : mFetch 139 0 = some (.aload_n 0, 1, 0, 0, 0, 0) := by decide +kernel
theorem f139_1 : mFetch 139 1 = some (.getfield 41, 3, 11, 5, 2, 1) := by decide +kernel
theorem f139_4 : mFetch 139 4 = some (.getfield 116, 3, 7, 1, 2, 0) := by decide +kernel
theorem f139_7 : mFetch 139 7 = some (.astore_n 2, 1, 0, 0, 0, 0) := by decide +kernel
theorem f139_8 : mFetch 139 8 = some (.aload_n 2, 1, 0, 0, 0, 0) := by decide +kernel
theorem f139_9 : mFetch 139 9 = some (.iload_n 1, 1, 0, 0, 0, 0) := by decide +kernel
theorem f139_10 : mFetch 139 10 = some (.invokevirtual 167, 3, 10, 0, 2, 0) := by decide +kernel
theorem f139_13 : mFetch 139 13 = some (.ifCond .ne 5, 3, 18, 0, 0, 0) := by decide +kernel
theorem f139_16 : mFetch 139 16 = some (.iconst (-1), 1, 0, 0, 0, 0) := by decide +kernel
theorem f139_17 : mFetch 139 17 = some (.ireturn, 1, 0, 0, 0, 0) := by decide +kernel
theorem f139_18 : mFetch 139 18 = some (.aload_n 0, 1, 0, 0, 0, 0) := by decide +kernel
theorem f139_19 : mFetch 139 19 = some (.getfield 63, 3, 11, 10, 2, 1) := by decide +kernel
theorem f139_22 : mFetch 139 22 = some (.aload_n 2, 1, 0, 0, 0, 0) := by decide +kernel
theorem f139_23 : mFetch 139 23 = some (.iload_n 1, 1, 0, 0, 0, 0) := by decide +kernel
theorem f139_24 : mFetch 139 24 = some (.aload_n 2, 1, 0, 0, 0, 0) := by decide +kernel
theorem f139_25 : mFetch 139 25 = some (.getfield 158, 3, 0, 8, 2, 0) := by decide +kernel
theorem f139_28 : mFetch 139 28 = some (.iload_n 1, 1, 0, 0, 0, 0) := by decide +kernel
theorem f139_29 : mFetch 139 29 = some (.iaload, 1, 0, 0, 0, 0) := by decide +kernel
theorem f139_30 : mFetch 139 30 = some (.invokevirtual 202, 3, 59, 0, 4, 4) := by decide +kernel
theorem f139_33 : mFetch 139 33 = some (.pop, 1, 0, 0, 0, 0) := by decide +kernel
theorem f139_34 : mFetch 139 34 = some (.aload_n 0, 1, 0, 0, 0, 0) := by decide +kernel
theorem f139_35 : mFetch 139 35 = some (.getfield 63, 3, 11, 10, 2, 1) := by decide +kernel
theorem f139_38 : mFetch 139 38 = some (.getfield 250, 3, 4, 6, 0, 0) := by decide +kernel
theorem f139_41 : mFetch 139 41 = some (.ireturn, 1, 0, 0, 0, 0) := by decide +kernel
theorem b139_0 {X : (Nat → Int) × Nat} {d : Nat} {s : mSt} {Q : mQ} {x1 : Int} {l2 : Option mV} (h_1 : Sp X d 10 [mR 18, mI x1] s (fun r s' => ∃ v : Int, r = some (mI v) ∧ Wp X (d + 1) 139 13 [some (mR 0), some (mI x1), some (mR 18)] [mI v] s' Q)) : Wp X (d + 1) 139 0 [some (mR 0), some (mI x1), l2] [] s Q := Wp_step k139 f139_0 (Wp_step k139 f139_1 ⟨kf_0, 7, rf_0_5, Wp_step k139 f139_4 ⟨kf_7, 18, rf_7_1, Wp_step k139 f139_7 (Wp_step k139 f139_8 (Wp_step k139 f139_9 (Wp_step k139 f139_10 ⟨⟨kf_18, Nat.le_of_ble_eq_true rfl⟩, Nat.le_refl _, _, rfl, Sp_E h_1⟩)))⟩⟩)
theorem b139_13 {X : (Nat → Int) × Nat} {d : Nat} {s : mSt} {Q : mQ} {x1 : Int} {xt0 : Int} (h_1 : ¬ xt0 = 0 → Wp X d 139 18 [some (mR 0), some (mI x1), some (mR 18)] [] s Q) (h_2 : xt0 = 0 → Wp X d 139 16 [some (mR 0), some (mI x1), some (mR 18)] [] s Q) : Wp X d 139 13 [some (mR 0), some (mI x1), some (mR 18)] [mI xt0] s Q := Wp_step k139 f139_13 ⟨h_1, h_2⟩
theorem b139_16 {X : (Nat → Int) × Nat} {d : Nat} {s : mSt} {Q : mQ} {x1 : Int} (h_1 : Q (some (mI (-1))) s) : Wp X d 139 16 [some (mR 0), some (mI x1), some (mR 18)] [] s Q := Wp_step k139 f139_16 (Wp_step k139 f139_17 ⟨⟨rfl, trivial⟩, h_1⟩)
theorem b139_18 {X : (Nat → Int) × Nat} {d : Nat} {s : mSt} {Q : mQ} {x1 : Int} (h_1 : 0 ≤ x1 ∧ x1 < 6) (h_2 : Sp X d 59 [mR 44, mR 18, mI x1, mI (s 21 x1.toNat)] s (fun r s' => ∃ v : Int, r = some (mI v) ∧ Wp X (d + 1) 139 33 [some (mR 0), some (mI x1), some (mR 18)] [mI v] s' Q)) : Wp X (d + 1) 139 18 [some (mR 0), some (mI x1), some (mR 18)] [] s Q := Wp_step k139 f139_18 (Wp_step k139 f139_19 ⟨kf_0, 44, rf_0_10, Wp_step k139 f139_22 (Wp_step k139 f139_23 (Wp_step k139 f139_24 (Wp_step k139 f139_25 ⟨kf_18, 21, rf_18_8, Wp_step k139 f139_28 (Wp_step k139 f139_29 ⟨6, af_21, h_1, Wp_step k139 f139_30 ⟨⟨kf_44, Nat.le_of_ble_eq_true rfl⟩, Nat.le_refl _, _, rfl, Sp_E h_2⟩⟩)⟩)))⟩)
theorem b139_33 {X : (Nat → Int) × Nat} {d : Nat} {s : mSt} {Q : mQ} {x1 : Int} {xt0 : Int} (h_1 : Q (some (mI (s 44 6))) s) : Wp X d 139 33 [some (mR 0), some (mI x1), some (mR 18)] [mI xt0] s Q := Wp_step k139 f139_33 (Wp_step k139 f139_34 (Wp_step k139 f139_35 ⟨kf_0, 44, rf_0_10, Wp_step k139 f139_38 ⟨kf_44, Wp_step k139 f139_41 ⟨⟨rfl, trivial⟩, h_1⟩⟩⟩))
theorem e139 {X : (Nat → Int) × Nat} {d : Nat} {s : mSt} {Q : mQ} {x1 : Int} (h : Wp X d 139 0 [some (mR 0), some (mI x1), none] [] s Q) : Sp X d 139 [mR 0, mI x1] s Q := Sp_of (show mCe 139 = 0 by decide +kernel) (by rw [show mML 139 = 3 by decide +kernel]; rfl) (Nat.le_trans (Nat.le_of_ble_eq_true (show Nat.ble (mArgs _).length 3 = true from rfl)) (show 3 ≤ mML 139 by decide +kernel)) h
-- 140 ClashDay.clash(II)I
theorem k140 : mRk 140 = 1 := by decide +kernel
theorem f140_0 : mFetch 140 0 = some (.aload_n 0, 1, 0, 0, 0, 0) := by decide +kernel
theorem f140_1 : mFetch 140 1 = some (.getfield 41, 3, 11, 5, 2, 1) := by decide +kernel
theorem f140_4 : mFetch 140 4 = some (.getfield 116, 3, 7, 1, 2, 0) := by decide +kernel
theorem f140_7 : mFetch 140 7 = some (.astore_n 3, 1, 0, 0, 0, 0) := by decide +kernel
theorem f140_8 : mFetch 140 8 = some (.aload_n 3, 1, 0, 0, 0, 0) := by decide +kernel
theorem f140_9 : mFetch 140 9 = some (.iload_n 1, 1, 0, 0, 0, 0) := by decide +kernel
theorem f140_10 : mFetch 140 10 = some (.invokevirtual 167, 3, 10, 0, 2, 0) := by decide +kernel
theorem f140_13 : mFetch 140 13 = some (.ifCond .eq 12, 3, 25, 0, 0, 0) := by decide +kernel
theorem f140_16 : mFetch 140 16 = some (.iload_n 2, 1, 0, 0, 0, 0) := by decide +kernel
theorem f140_17 : mFetch 140 17 = some (.ifCond .lt 8, 3, 25, 0, 0, 0) := by decide +kernel
theorem f140_20 : mFetch 140 20 = some (.iload_n 2, 1, 0, 0, 0, 0) := by decide +kernel
theorem f140_21 : mFetch 140 21 = some (.iconst 1, 1, 0, 0, 0, 0) := by decide +kernel
theorem f140_22 : mFetch 140 22 = some (.if_icmp .le 5, 3, 27, 0, 0, 0) := by decide +kernel
theorem f140_25 : mFetch 140 25 = some (.iconst (-1), 1, 0, 0, 0, 0) := by decide +kernel
theorem f140_26 : mFetch 140 26 = some (.ireturn, 1, 0, 0, 0, 0) := by decide +kernel
theorem f140_27 : mFetch 140 27 = some (.aload_n 0, 1, 0, 0, 0, 0) := by decide +kernel
theorem f140_28 : mFetch 140 28 = some (.getfield 63, 3, 11, 10, 2, 1) := by decide +kernel
theorem f140_31 : mFetch 140 31 = some (.aload_n 3, 1, 0, 0, 0, 0) := by decide +kernel
theorem f140_32 : mFetch 140 32 = some (.iload_n 1, 1, 0, 0, 0, 0) := by decide +kernel
theorem f140_33 : mFetch 140 33 = some (.aload_n 3, 1, 0, 0, 0, 0) := by decide +kernel
theorem f140_34 : mFetch 140 34 = some (.getfield 158, 3, 0, 8, 2, 0) := by decide +kernel
theorem f140_37 : mFetch 140 37 = some (.iload_n 1, 1, 0, 0, 0, 0) := by decide +kernel
theorem f140_38 : mFetch 140 38 = some (.iaload, 1, 0, 0, 0, 0) := by decide +kernel
theorem f140_39 : mFetch 140 39 = some (.invokevirtual 202, 3, 59, 0, 4, 4) := by decide +kernel
theorem f140_42 : mFetch 140 42 = some (.ifCond .eq 6, 3, 48, 0, 0, 0) := by decide +kernel
theorem f140_45 : mFetch 140 45 = some (.bipush (-2), 2, 0, 0, 0, 0) := by decide +kernel
theorem f140_47 : mFetch 140 47 = some (.ireturn, 1, 0, 0, 0, 0) := by decide +kernel
theorem f140_48 : mFetch 140 48 = some (.aload_n 0, 1, 0, 0, 0, 0) := by decide +kernel
theorem f140_49 : mFetch 140 49 = some (.getfield 63, 3, 11, 10, 2, 1) := by decide +kernel
theorem f140_52 : mFetch 140 52 = some (.aload_n 3, 1, 0, 0, 0, 0) := by decide +kernel
theorem f140_53 : mFetch 140 53 = some (.iload_n 1, 1, 0, 0, 0, 0) := by decide +kernel
theorem f140_54 : mFetch 140 54 = some (.invokevirtual 253, 3, 61, 0, 3, 4) := by decide +kernel
theorem f140_57 : mFetch 140 57 = some (.istore 4, 2, 0, 0, 0, 0) := by decide +kernel
theorem f140_59 : mFetch 140 59 = some (.iload_n 2, 1, 0, 0, 0, 0) := by decide +kernel
theorem f140_60 : mFetch 140 60 = some (.ifCond .ne 11, 3, 71, 0, 0, 0) := by decide +kernel
theorem f140_63 : mFetch 140 63 = some (.iload 4, 2, 0, 0, 0, 0) := by decide +kernel
theorem f140_65 : mFetch 140 65 = some (.invokestatic 223, 3, 309, 0, 1, 99) := by decide +kernel
theorem f140_68 : mFetch 140 68 = some (.goto 5, 3, 73, 0, 0, 0) := by decide +kernel
theorem f140_71 : mFetch 140 71 = some (.iload 4, 2, 0, 0, 0, 0) := by decide +kernel
theorem f140_73 : mFetch 140 73 = some (.ireturn, 1, 0, 0, 0, 0) := by decide +kernel
theorem b140_0 {X : (Nat → Int) × Nat} {d : Nat} {s : mSt} {Q : mQ} {x1 : Int} {x2 : Int} {l3 : Option mV} {l4 : Option mV} (h_1 : Sp X d 10 [mR 18, mI x1] s (fun r s' => ∃ v : Int, r = some (mI v) ∧ Wp X (d + 1) 140 13 [some (mR 0), some (mI x1), some (mI x2), some (mR 18), l4] [mI v] s' Q)) : Wp X (d + 1) 140 0 [some (mR 0), some (mI x1), some (mI x2), l3, l4] [] s Q := Wp_step k140 f140_0 (Wp_step k140 f140_1 ⟨kf_0, 7, rf_0_5, Wp_step k140 f140_4 ⟨kf_7, 18, rf_7_1, Wp_step k140 f140_7 (Wp_step k140 f140_8 (Wp_step k140 f140_9 (Wp_step k140 f140_10 ⟨⟨kf_18, Nat.le_of_ble_eq_true rfl⟩, Nat.le_refl _, _, rfl, Sp_E h_1⟩)))⟩⟩)
theorem b140_13 {X : (Nat → Int) × Nat} {d : Nat} {s : mSt} {Q : mQ} {x1 : Int} {x2 : Int} {l4 : Option mV} {xt0 : Int} (h_1 : xt0 = 0 → Wp X d 140 25 [some (mR 0), some (mI x1), some (mI x2), some (mR 18), l4] [] s Q) (h_2 : ¬ xt0 = 0 → Wp X d 140 16 [some (mR 0), some (mI x1), some (mI x2), some (mR 18), l4] [] s Q) : Wp X d 140 13 [some (mR 0), some (mI x1), some (mI x2), some (mR 18), l4] [mI xt0] s Q := Wp_step k140 f140_13 ⟨h_1, h_2⟩
theorem b140_16 {X : (Nat → Int) × Nat} {d : Nat} {s : mSt} {Q : mQ} {x1 : Int} {x2 : Int} {l4 : Option mV} (h_1 : x2 < 0 → Wp X d 140 25 [some (mR 0), some (mI x1), some (mI x2), some (mR 18), l4] [] s Q) (h_2 : ¬ x2 < 0 → Wp X d 140 20 [some (mR 0), some (mI x1), some (mI x2), some (mR 18), l4] [] s Q) : Wp X d 140 16 [some (mR 0), some (mI x1), some (mI x2), some (mR 18), l4] [] s Q := Wp_step k140 f140_16 (Wp_step k140 f140_17 ⟨h_1, h_2⟩)
theorem b140_20 {X : (Nat → Int) × Nat} {d : Nat} {s : mSt} {Q : mQ} {x1 : Int} {x2 : Int} {l4 : Option mV} (h_1 : x2 ≤ 1 → Wp X d 140 27 [some (mR 0), some (mI x1), some (mI x2), some (mR 18), l4] [] s Q) (h_2 : ¬ x2 ≤ 1 → Wp X d 140 25 [some (mR 0), some (mI x1), some (mI x2), some (mR 18), l4] [] s Q) : Wp X d 140 20 [some (mR 0), some (mI x1), some (mI x2), some (mR 18), l4] [] s Q := Wp_step k140 f140_20 (Wp_step k140 f140_21 (Wp_step k140 f140_22 ⟨h_1, h_2⟩))
theorem b140_25 {X : (Nat → Int) × Nat} {d : Nat} {s : mSt} {Q : mQ} {x1 : Int} {x2 : Int} {l4 : Option mV} (h_1 : Q (some (mI (-1))) s) : Wp X d 140 25 [some (mR 0), some (mI x1), some (mI x2), some (mR 18), l4] [] s Q := Wp_step k140 f140_25 (Wp_step k140 f140_26 ⟨⟨rfl, trivial⟩, h_1⟩)
theorem b140_27 {X : (Nat → Int) × Nat} {d : Nat} {s : mSt} {Q : mQ} {x1 : Int} {x2 : Int} {l4 : Option mV} (h_1 : 0 ≤ x1 ∧ x1 < 6) (h_2 : Sp X d 59 [mR 44, mR 18, mI x1, mI (s 21 x1.toNat)] s (fun r s' => ∃ v : Int, r = some (mI v) ∧ Wp X (d + 1) 140 42 [some (mR 0), some (mI x1), some (mI x2), some (mR 18), l4] [mI v] s' Q)) : Wp X (d + 1) 140 27 [some (mR 0), some (mI x1), some (mI x2), some (mR 18), l4] [] s Q := Wp_step k140 f140_27 (Wp_step k140 f140_28 ⟨kf_0, 44, rf_0_10, Wp_step k140 f140_31 (Wp_step k140 f140_32 (Wp_step k140 f140_33 (Wp_step k140 f140_34 ⟨kf_18, 21, rf_18_8, Wp_step k140 f140_37 (Wp_step k140 f140_38 ⟨6, af_21, h_1, Wp_step k140 f140_39 ⟨⟨kf_44, Nat.le_of_ble_eq_true rfl⟩, Nat.le_refl _, _, rfl, Sp_E h_2⟩⟩)⟩)))⟩)
theorem b140_42 {X : (Nat → Int) × Nat} {d : Nat} {s : mSt} {Q : mQ} {x1 : Int} {x2 : Int} {l4 : Option mV} {xt0 : Int} (h_1 : xt0 = 0 → Wp X d 140 48 [some (mR 0), some (mI x1), some (mI x2), some (mR 18), l4] [] s Q) (h_2 : ¬ xt0 = 0 → Wp X d 140 45 [some (mR 0), some (mI x1), some (mI x2), some (mR 18), l4] [] s Q) : Wp X d 140 42 [some (mR 0), some (mI x1), some (mI x2), some (mR 18), l4] [mI xt0] s Q := Wp_step k140 f140_42 ⟨h_1, h_2⟩
theorem b140_45 {X : (Nat → Int) × Nat} {d : Nat} {s : mSt} {Q : mQ} {x1 : Int} {x2 : Int} {l4 : Option mV} (h_1 : Q (some (mI (-2))) s) : Wp X d 140 45 [some (mR 0), some (mI x1), some (mI x2), some (mR 18), l4] [] s Q := Wp_step k140 f140_45 (Wp_step k140 f140_47 ⟨⟨rfl, trivial⟩, h_1⟩)
theorem b140_48 {X : (Nat → Int) × Nat} {d : Nat} {s : mSt} {Q : mQ} {x1 : Int} {x2 : Int} {l4 : Option mV} (h_1 : Sp X d 61 [mR 44, mR 18, mI x1] s (fun r s' => ∃ v : Int, r = some (mI v) ∧ Wp X (d + 1) 140 57 [some (mR 0), some (mI x1), some (mI x2), some (mR 18), l4] [mI v] s' Q)) : Wp X (d + 1) 140 48 [some (mR 0), some (mI x1), some (mI x2), some (mR 18), l4] [] s Q := Wp_step k140 f140_48 (Wp_step k140 f140_49 ⟨kf_0, 44, rf_0_10, Wp_step k140 f140_52 (Wp_step k140 f140_53 (Wp_step k140 f140_54 ⟨⟨kf_44, Nat.le_of_ble_eq_true rfl⟩, Nat.le_refl _, _, rfl, Sp_E h_1⟩))⟩)
theorem b140_57 {X : (Nat → Int) × Nat} {d : Nat} {s : mSt} {Q : mQ} {x1 : Int} {x2 : Int} {l4 : Option mV} {xt0 : Int} (h_1 : ¬ x2 = 0 → Wp X d 140 71 [some (mR 0), some (mI x1), some (mI x2), some (mR 18), some (mI xt0)] [] s Q) (h_2 : x2 = 0 → Wp X d 140 63 [some (mR 0), some (mI x1), some (mI x2), some (mR 18), some (mI xt0)] [] s Q) : Wp X d 140 57 [some (mR 0), some (mI x1), some (mI x2), some (mR 18), l4] [mI xt0] s Q := Wp_step k140 f140_57 (Wp_step k140 f140_59 (Wp_step k140 f140_60 ⟨h_1, h_2⟩))
theorem b140_63 {X : (Nat → Int) × Nat} {d : Nat} {s : mSt} {Q : mQ} {x1 : Int} {x2 : Int} {x4 : Int} (h_1 : Sp X d 309 [mI x4] s (fun r s' => ∃ v : Int, r = some (mI v) ∧ Wp X (d + 1) 140 68 [some (mR 0), some (mI x1), some (mI x2), some (mR 18), some (mI x4)] [mI v] s' Q)) : Wp X (d + 1) 140 63 [some (mR 0), some (mI x1), some (mI x2), some (mR 18), some (mI x4)] [] s Q := Wp_step k140 f140_63 (Wp_step k140 f140_65 ⟨⟨Nat.le_of_ble_eq_true rfl, Nat.le_refl _⟩, _, rfl, Sp_E h_1⟩)
theorem b140_68 {X : (Nat → Int) × Nat} {d : Nat} {s : mSt} {Q : mQ} {x1 : Int} {x2 : Int} {x4 : Int} {xt0 : Int} (h_1 : Wp X d 140 73 [some (mR 0), some (mI x1), some (mI x2), some (mR 18), some (mI x4)] [mI xt0] s Q) : Wp X d 140 68 [some (mR 0), some (mI x1), some (mI x2), some (mR 18), some (mI x4)] [mI xt0] s Q := Wp_step k140 f140_68 (h_1)
theorem b140_71 {X : (Nat → Int) × Nat} {d : Nat} {s : mSt} {Q : mQ} {x1 : Int} {x2 : Int} {x4 : Int} (h_1 : Wp X d 140 73 [some (mR 0), some (mI x1), some (mI x2), some (mR 18), some (mI x4)] [mI x4] s Q) : Wp X d 140 71 [some (mR 0), some (mI x1), some (mI x2), some (mR 18), some (mI x4)] [] s Q := Wp_step k140 f140_71 (h_1)
theorem b140_73 {X : (Nat → Int) × Nat} {d : Nat} {s : mSt} {Q : mQ} {x1 : Int} {x2 : Int} {x4 : Int} {xt0 : Int} (h_1 : Q (some (mI xt0)) s) : Wp X d 140 73 [some (mR 0), some (mI x1), some (mI x2), some (mR 18), some (mI x4)] [mI xt0] s Q := Wp_step k140 f140_73 ⟨⟨rfl, trivial⟩, h_1⟩
theorem e140 {X : (Nat → Int) × Nat} {d : Nat} {s : mSt} {Q : mQ} {x1 : Int} {x2 : Int} (h : Wp X d 140 0 [some (mR 0), some (mI x1), some (mI x2), none, none] [] s Q) : Sp X d 140 [mR 0, mI x1, mI x2] s Q := Sp_of (show mCe 140 = 0 by decide +kernel) (by rw [show mML 140 = 5 by decide +kernel]; rfl) (Nat.le_trans (Nat.le_of_ble_eq_true (show Nat.ble (mArgs _).length 5 = true from rfl)) (show 5 ≤ mML 140 by decide +kernel)) h
-- 141 ClashDay.line(II)I
theorem k141 : mRk 141 = 1 := by decide +kernel
theorem f141_0 : mFetch 141 0 = some (.aload_n 0, 1, 0, 0, 0, 0) := by decide +kernel
theorem f141_1 : mFetch 141 1 = some (.getfield 41, 3, 11, 5, 2, 1) := by decide +kernel
theorem f141_4 : mFetch 141 4 = some (.getfield 116, 3, 7, 1, 2, 0) := by decide +kernel
theorem f141_7 : mFetch 141 7 = some (.iload_n 1, 1, 0, 0, 0, 0) := by decide +kernel
theorem f141_8 : mFetch 141 8 = some (.invokevirtual 213, 3, 9, 0, 2, 0) := by decide +kernel
theorem f141_11 : mFetch 141 11 = some (.ifCond .eq 10, 3, 21, 0, 0, 0) := by decide +kernel
theorem f141_14 : mFetch 141 14 = some (.iload_n 2, 1, 0, 0, 0, 0) := by decide +kernel
theorem f141_15 : mFetch 141 15 = some (.invokestatic 174, 3, 163, 0, 1, 99) := by decide +kernel
theorem f141_18 : mFetch 141 18 = some (.ifCond .ne 5, 3, 23, 0, 0, 0) := by decide +kernel
theorem f141_21 : mFetch 141 21 = some (.iconst (-1), 1, 0, 0, 0, 0) := by decide +kernel
theorem f141_22 : mFetch 141 22 = some (.ireturn, 1, 0, 0, 0, 0) := by decide +kernel
theorem f141_23 : mFetch 141 23 = some (.aload_n 0, 1, 0, 0, 0, 0) := by decide +kernel
theorem f141_24 : mFetch 141 24 = some (.getfield 41, 3, 11, 5, 2, 1) := by decide +kernel
theorem f141_27 : mFetch 141 27 = some (.getfield 116, 3, 7, 1, 2, 0) := by decide +kernel
theorem f141_30 : mFetch 141 30 = some (.iload_n 1, 1, 0, 0, 0, 0) := by decide +kernel
theorem f141_31 : mFetch 141 31 = some (.iload_n 2, 1, 0, 0, 0, 0) := by decide +kernel
theorem f141_32 : mFetch 141 32 = some (.invokestatic 257, 3, 42, 0, 3, 99) := by decide +kernel
theorem f141_35 : mFetch 141 35 = some (.ireturn, 1, 0, 0, 0, 0) := by decide +kernel
theorem b141_0 {X : (Nat → Int) × Nat} {d : Nat} {s : mSt} {Q : mQ} {x1 : Int} {x2 : Int} (h_1 : Sp X d 9 [mR 18, mI x1] s (fun r s' => ∃ v : Int, r = some (mI v) ∧ Wp X (d + 1) 141 11 [some (mR 0), some (mI x1), some (mI x2)] [mI v] s' Q)) : Wp X (d + 1) 141 0 [some (mR 0), some (mI x1), some (mI x2)] [] s Q := Wp_step k141 f141_0 (Wp_step k141 f141_1 ⟨kf_0, 7, rf_0_5, Wp_step k141 f141_4 ⟨kf_7, 18, rf_7_1, Wp_step k141 f141_7 (Wp_step k141 f141_8 ⟨⟨kf_18, Nat.le_of_ble_eq_true rfl⟩, Nat.le_refl _, _, rfl, Sp_E h_1⟩)⟩⟩)
theorem b141_11 {X : (Nat → Int) × Nat} {d : Nat} {s : mSt} {Q : mQ} {x1 : Int} {x2 : Int} {xt0 : Int} (h_1 : xt0 = 0 → Wp X d 141 21 [some (mR 0), some (mI x1), some (mI x2)] [] s Q) (h_2 : ¬ xt0 = 0 → Wp X d 141 14 [some (mR 0), some (mI x1), some (mI x2)] [] s Q) : Wp X d 141 11 [some (mR 0), some (mI x1), some (mI x2)] [mI xt0] s Q := Wp_step k141 f141_11 ⟨h_1, h_2⟩
theorem b141_14 {X : (Nat → Int) × Nat} {d : Nat} {s : mSt} {Q : mQ} {x1 : Int} {x2 : Int} (h_1 : Sp X d 163 [mI x2] s (fun r s' => ∃ v : Int, r = some (mI v) ∧ Wp X (d + 1) 141 18 [some (mR 0), some (mI x1), some (mI x2)] [mI v] s' Q)) : Wp X (d + 1) 141 14 [some (mR 0), some (mI x1), some (mI x2)] [] s Q := Wp_step k141 f141_14 (Wp_step k141 f141_15 ⟨⟨Nat.le_of_ble_eq_true rfl, Nat.le_refl _⟩, _, rfl, Sp_E h_1⟩)
theorem b141_18 {X : (Nat → Int) × Nat} {d : Nat} {s : mSt} {Q : mQ} {x1 : Int} {x2 : Int} {xt0 : Int} (h_1 : ¬ xt0 = 0 → Wp X d 141 23 [some (mR 0), some (mI x1), some (mI x2)] [] s Q) (h_2 : xt0 = 0 → Wp X d 141 21 [some (mR 0), some (mI x1), some (mI x2)] [] s Q) : Wp X d 141 18 [some (mR 0), some (mI x1), some (mI x2)] [mI xt0] s Q := Wp_step k141 f141_18 ⟨h_1, h_2⟩
theorem b141_21 {X : (Nat → Int) × Nat} {d : Nat} {s : mSt} {Q : mQ} {x1 : Int} {x2 : Int} (h_1 : Q (some (mI (-1))) s) : Wp X d 141 21 [some (mR 0), some (mI x1), some (mI x2)] [] s Q := Wp_step k141 f141_21 (Wp_step k141 f141_22 ⟨⟨rfl, trivial⟩, h_1⟩)
theorem b141_23 {X : (Nat → Int) × Nat} {d : Nat} {s : mSt} {Q : mQ} {x1 : Int} {x2 : Int} (h_1 : Sp X d 42 [mR 18, mI x1, mI x2] s (fun r s' => ∃ v : Int, r = some (mI v) ∧ Wp X (d + 1) 141 35 [some (mR 0), some (mI x1), some (mI x2)] [mI v] s' Q)) : Wp X (d + 1) 141 23 [some (mR 0), some (mI x1), some (mI x2)] [] s Q := Wp_step k141 f141_23 (Wp_step k141 f141_24 ⟨kf_0, 7, rf_0_5, Wp_step k141 f141_27 ⟨kf_7, 18, rf_7_1, Wp_step k141 f141_30 (Wp_step k141 f141_31 (Wp_step k141 f141_32 ⟨⟨Nat.le_of_ble_eq_true rfl, Nat.le_refl _⟩, _, rfl, Sp_E h_1⟩))⟩⟩)
theorem b141_35 {X : (Nat → Int) × Nat} {d : Nat} {s : mSt} {Q : mQ} {x1 : Int} {x2 : Int} {xt0 : Int} (h_1 : Q (some (mI xt0)) s) : Wp X d 141 35 [some (mR 0), some (mI x1), some (mI x2)] [mI xt0] s Q := Wp_step k141 f141_35 ⟨⟨rfl, trivial⟩, h_1⟩
theorem e141 {X : (Nat → Int) × Nat} {d : Nat} {s : mSt} {Q : mQ} {x1 : Int} {x2 : Int} (h : Wp X d 141 0 [some (mR 0), some (mI x1), some (mI x2)] [] s Q) : Sp X d 141 [mR 0, mI x1, mI x2] s Q := Sp_of (show mCe 141 = 0 by decide +kernel) (by rw [show mML 141 = 3 by decide +kernel]; rfl) (Nat.le_trans (Nat.le_of_ble_eq_true (show Nat.ble (mArgs _).length 3 = true from rfl)) (show 3 ≤ mML 141 by decide +kernel)) h
-- 142 ClashDay.spelt(II)I
theorem k142 : mRk 142 = 1 := by decide +kernel
theorem f142_0 : mFetch 142 0 = some (.aload_n 0, 1, 0, 0, 0, 0) := by decide +kernel
theorem f142_1 : mFetch 142 1 = some (.getfield 41, 3, 11, 5, 2, 1) := by decide +kernel
theorem f142_4 : mFetch 142 4 = some (.getfield 116, 3, 7, 1, 2, 0) := by decide +kernel
theorem f142_7 : mFetch 142 7 = some (.iload_n 1, 1, 0, 0, 0, 0) := by decide +kernel
theorem f142_8 : mFetch 142 8 = some (.invokevirtual 213, 3, 9, 0, 2, 0) := by decide +kernel
theorem f142_11 : mFetch 142 11 = some (.ifCond .eq 8, 3, 19, 0, 0, 0) := by decide +kernel
theorem f142_14 : mFetch 142 14 = some (.iload_n 2, 1, 0, 0, 0, 0) := by decide +kernel
theorem f142_15 : mFetch 142 15 = some (.iconst (-1), 1, 0, 0, 0, 0) := by decide +kernel
theorem f142_16 : mFetch 142 16 = some (.if_icmp .ge 5, 3, 21, 0, 0, 0) := by decide +kernel
theorem f142_19 : mFetch 142 19 = some (.iconst (-1), 1, 0, 0, 0, 0) := by decide +kernel
theorem f142_20 : mFetch 142 20 = some (.ireturn, 1, 0, 0, 0, 0) := by decide +kernel
theorem f142_21 : mFetch 142 21 = some (.aload_n 0, 1, 0, 0, 0, 0) := by decide +kernel
theorem f142_22 : mFetch 142 22 = some (.getfield 88, 3, 11, 13, 2, 1) := by decide +kernel
theorem f142_25 : mFetch 142 25 = some (.aload_n 0, 1, 0, 0, 0, 0) := by decide +kernel
theorem f142_26 : mFetch 142 26 = some (.getfield 41, 3, 11, 5, 2, 1) := by decide +kernel
theorem f142_29 : mFetch 142 29 = some (.getfield 116, 3, 7, 1, 2, 0) := by decide +kernel
theorem f142_32 : mFetch 142 32 = some (.iload_n 1, 1, 0, 0, 0, 0) := by decide +kernel
theorem f142_33 : mFetch 142 33 = some (.iconst 0, 1, 0, 0, 0, 0) := by decide +kernel
theorem f142_34 : mFetch 142 34 = some (.invokevirtual 261, 3, 43, 0, 4, 2) := by decide +kernel
theorem f142_37 : mFetch 142 37 = some (.iload_n 2, 1, 0, 0, 0, 0) := by decide +kernel
theorem f142_38 : mFetch 142 38 = some (.iconst (-1), 1, 0, 0, 0, 0) := by decide +kernel
theorem f142_39 : mFetch 142 39 = some (.if_icmp .ne 13, 3, 52, 0, 0, 0) := by decide +kernel
theorem f142_42 : mFetch 142 42 = some (.aload_n 0, 1, 0, 0, 0, 0) := by decide +kernel
theorem f142_43 : mFetch 142 43 = some (.getfield 88, 3, 11, 13, 2, 1) := by decide +kernel
theorem f142_46 : mFetch 142 46 = some (.getfield 265, 3, 2, 1, 2, 0) := by decide +kernel
theorem f142_49 : mFetch 142 49 = some (.iconst 0, 1, 0, 0, 0, 0) := by decide +kernel
theorem f142_50 : mFetch 142 50 = some (.iaload, 1, 0, 0, 0, 0) := by decide +kernel
theorem f142_51 : mFetch 142 51 = some (.ireturn, 1, 0, 0, 0, 0) := by decide +kernel
theorem f142_52 : mFetch 142 52 = some (.iload_n 2, 1, 0, 0, 0, 0) := by decide +kernel
theorem f142_53 : mFetch 142 53 = some (.aload_n 0, 1, 0, 0, 0, 0) := by decide +kernel
theorem f142_54 : mFetch 142 54 = some (.getfield 88, 3, 11, 13, 2, 1) := by decide +kernel
theorem f142_57 : mFetch 142 57 = some (.getfield 265, 3, 2, 1, 2, 0) := by decide +kernel
theorem f142_60 : mFetch 142 60 = some (.iconst 0, 1, 0, 0, 0, 0) := by decide +kernel
theorem f142_61 : mFetch 142 61 = some (.iaload, 1, 0, 0, 0, 0) := by decide +kernel
theorem f142_62 : mFetch 142 62 = some (.if_icmp .ge 17, 3, 79, 0, 0, 0) := by decide +kernel
theorem f142_65 : mFetch 142 65 = some (.aload_n 0, 1, 0, 0, 0, 0) := by decide +kernel
theorem f142_66 : mFetch 142 66 = some (.getfield 88, 3, 11, 13, 2, 1) := by decide +kernel
theorem f142_69 : mFetch 142 69 = some (.getfield 268, 3, 2, 0, 2, 0) := by decide +kernel
theorem f142_72 : mFetch 142 72 = some (.iconst 0, 1, 0, 0, 0, 0) := by decide +kernel
theorem f142_73 : mFetch 142 73 = some (.aaload, 1, 0, 0, 0, 0) := by decide +kernel
theorem f142_74 : mFetch 142 74 = some (.iload_n 2, 1, 0, 0, 0, 0) := by decide +kernel
theorem f142_75 : mFetch 142 75 = some (.iaload, 1, 0, 0, 0, 0) := by decide +kernel
theorem f142_76 : mFetch 142 76 = some (.goto 5, 3, 81, 0, 0, 0) := by decide +kernel
theorem f142_79 : mFetch 142 79 = some (.bipush (-2), 2, 0, 0, 0, 0) := by decide +kernel
theorem f142_81 : mFetch 142 81 = some (.ireturn, 1, 0, 0, 0, 0) := by decide +kernel
theorem b142_0 {X : (Nat → Int) × Nat} {d : Nat} {s : mSt} {Q : mQ} {x1 : Int} {x2 : Int} (h_1 : Sp X d 9 [mR 18, mI x1] s (fun r s' => ∃ v : Int, r = some (mI v) ∧ Wp X (d + 1) 142 11 [some (mR 0), some (mI x1), some (mI x2)] [mI v] s' Q)) : Wp X (d + 1) 142 0 [some (mR 0), some (mI x1), some (mI x2)] [] s Q := Wp_step k142 f142_0 (Wp_step k142 f142_1 ⟨kf_0, 7, rf_0_5, Wp_step k142 f142_4 ⟨kf_7, 18, rf_7_1, Wp_step k142 f142_7 (Wp_step k142 f142_8 ⟨⟨kf_18, Nat.le_of_ble_eq_true rfl⟩, Nat.le_refl _, _, rfl, Sp_E h_1⟩)⟩⟩)
theorem b142_11 {X : (Nat → Int) × Nat} {d : Nat} {s : mSt} {Q : mQ} {x1 : Int} {x2 : Int} {xt0 : Int} (h_1 : xt0 = 0 → Wp X d 142 19 [some (mR 0), some (mI x1), some (mI x2)] [] s Q) (h_2 : ¬ xt0 = 0 → Wp X d 142 14 [some (mR 0), some (mI x1), some (mI x2)] [] s Q) : Wp X d 142 11 [some (mR 0), some (mI x1), some (mI x2)] [mI xt0] s Q := Wp_step k142 f142_11 ⟨h_1, h_2⟩
theorem b142_14 {X : (Nat → Int) × Nat} {d : Nat} {s : mSt} {Q : mQ} {x1 : Int} {x2 : Int} (h_1 : (-1) ≤ x2 → Wp X d 142 21 [some (mR 0), some (mI x1), some (mI x2)] [] s Q) (h_2 : ¬ (-1) ≤ x2 → Wp X d 142 19 [some (mR 0), some (mI x1), some (mI x2)] [] s Q) : Wp X d 142 14 [some (mR 0), some (mI x1), some (mI x2)] [] s Q := Wp_step k142 f142_14 (Wp_step k142 f142_15 (Wp_step k142 f142_16 ⟨h_1, h_2⟩))
theorem b142_19 {X : (Nat → Int) × Nat} {d : Nat} {s : mSt} {Q : mQ} {x1 : Int} {x2 : Int} (h_1 : Q (some (mI (-1))) s) : Wp X d 142 19 [some (mR 0), some (mI x1), some (mI x2)] [] s Q := Wp_step k142 f142_19 (Wp_step k142 f142_20 ⟨⟨rfl, trivial⟩, h_1⟩)
theorem b142_21 {X : (Nat → Int) × Nat} {d : Nat} {s : mSt} {Q : mQ} {x1 : Int} {x2 : Int} (h_1 : Sp X d 43 [mR 76, mR 18, mI x1, mI 0] s (fun r s' => r = none ∧ Wp X (d + 1) 142 37 [some (mR 0), some (mI x1), some (mI x2)] [] s' Q)) : Wp X (d + 1) 142 21 [some (mR 0), some (mI x1), some (mI x2)] [] s Q := Wp_step k142 f142_21 (Wp_step k142 f142_22 ⟨kf_0, 76, rf_0_13, Wp_step k142 f142_25 (Wp_step k142 f142_26 ⟨kf_0, 7, rf_0_5, Wp_step k142 f142_29 ⟨kf_7, 18, rf_7_1, Wp_step k142 f142_32 (Wp_step k142 f142_33 (Wp_step k142 f142_34 ⟨⟨kf_76, Nat.le_of_ble_eq_true rfl⟩, Nat.le_refl _, _, rfl, Sp_V h_1⟩))⟩⟩)⟩)
theorem b142_37 {X : (Nat → Int) × Nat} {d : Nat} {s : mSt} {Q : mQ} {x1 : Int} {x2 : Int} (h_1 : ¬ x2 = (-1) → Wp X d 142 52 [some (mR 0), some (mI x1), some (mI x2)] [] s Q) (h_2 : x2 = (-1) → Wp X d 142 42 [some (mR 0), some (mI x1), some (mI x2)] [] s Q) : Wp X d 142 37 [some (mR 0), some (mI x1), some (mI x2)] [] s Q := Wp_step k142 f142_37 (Wp_step k142 f142_38 (Wp_step k142 f142_39 ⟨h_1, h_2⟩))
theorem b142_42 {X : (Nat → Int) × Nat} {d : Nat} {s : mSt} {Q : mQ} {x1 : Int} {x2 : Int} (h_1 : Q (some (mI (s 80 0))) s) : Wp X d 142 42 [some (mR 0), some (mI x1), some (mI x2)] [] s Q := Wp_step k142 f142_42 (Wp_step k142 f142_43 ⟨kf_0, 76, rf_0_13, Wp_step k142 f142_46 ⟨kf_76, 80, rf_76_1, Wp_step k142 f142_49 (Wp_step k142 f142_50 ⟨2, af_80, ⟨by decide, by decide⟩, Wp_step k142 f142_51 ⟨⟨rfl, trivial⟩, h_1⟩⟩)⟩⟩)
theorem b142_52 {X : (Nat → Int) × Nat} {d : Nat} {s : mSt} {Q : mQ} {x1 : Int} {x2 : Int} (h_1 : (s 80 0) ≤ x2 → Wp X d 142 79 [some (mR 0), some (mI x1), some (mI x2)] [] s Q) (h_2 : ¬ (s 80 0) ≤ x2 → Wp X d 142 65 [some (mR 0), some (mI x1), some (mI x2)] [] s Q) : Wp X d 142 52 [some (mR 0), some (mI x1), some (mI x2)] [] s Q := Wp_step k142 f142_52 (Wp_step k142 f142_53 (Wp_step k142 f142_54 ⟨kf_0, 76, rf_0_13, Wp_step k142 f142_57 ⟨kf_76, 80, rf_76_1, Wp_step k142 f142_60 (Wp_step k142 f142_61 ⟨2, af_80, ⟨by decide, by decide⟩, Wp_step k142 f142_62 ⟨h_1, h_2⟩⟩)⟩⟩))
theorem b142_65 {X : (Nat → Int) × Nat} {d : Nat} {s : mSt} {Q : mQ} {x1 : Int} {x2 : Int} {r1 : Nat} (hr1 : aS S0 r1 22 30) (h_1 : s 77 0 = (r1 : Int)) (h_2 : 0 ≤ x2 ∧ x2 < 30) (h_3 : Wp X d 142 81 [some (mR 0), some (mI x1), some (mI x2)] [mI (s r1 x2.toNat)] s Q) : Wp X d 142 65 [some (mR 0), some (mI x1), some (mI x2)] [] s Q := Wp_step k142 f142_65 (Wp_step k142 f142_66 ⟨kf_0, 76, rf_0_13, Wp_step k142 f142_69 ⟨kf_76, 77, rf_76_0, Wp_step k142 f142_72 (Wp_step k142 f142_73 ⟨28, 2, af_77, ⟨by decide, by decide⟩, ⟨by decide, by decide⟩, r1, h_1, Wp_step k142 f142_74 (Wp_step k142 f142_75 ⟨30, hr1, h_2, Wp_step k142 f142_76 (h_3)⟩)⟩)⟩⟩)
theorem b142_79 {X : (Nat → Int) × Nat} {d : Nat} {s : mSt} {Q : mQ} {x1 : Int} {x2 : Int} (h_1 : Wp X d 142 81 [some (mR 0), some (mI x1), some (mI x2)] [mI (-2)] s Q) : Wp X d 142 79 [some (mR 0), some (mI x1), some (mI x2)] [] s Q := Wp_step k142 f142_79 (h_1)
theorem b142_81 {X : (Nat → Int) × Nat} {d : Nat} {s : mSt} {Q : mQ} {x1 : Int} {x2 : Int} {xt0 : Int} (h_1 : Q (some (mI xt0)) s) : Wp X d 142 81 [some (mR 0), some (mI x1), some (mI x2)] [mI xt0] s Q := Wp_step k142 f142_81 ⟨⟨rfl, trivial⟩, h_1⟩
theorem e142 {X : (Nat → Int) × Nat} {d : Nat} {s : mSt} {Q : mQ} {x1 : Int} {x2 : Int} (h : Wp X d 142 0 [some (mR 0), some (mI x1), some (mI x2)] [] s Q) : Sp X d 142 [mR 0, mI x1, mI x2] s Q := Sp_of (show mCe 142 = 0 by decide +kernel) (by rw [show mML 142 = 3 by decide +kernel]; rfl) (Nat.le_trans (Nat.le_of_ble_eq_true (show Nat.ble (mArgs _).length 3 = true from rfl)) (show 3 ≤ mML 142 by decide +kernel)) h
-- 143 ClashDay.first(III)I
theorem k143 : mRk 143 = 1 := by decide +kernel
theorem f143_0 : mFetch 143 0 = some (.aload_n 0, 1, 0, 0, 0, 0) := by decide +kernel
theorem f143_1 : mFetch 143 1 = some (.getfield 41, 3, 11, 5, 2, 1) := by decide +kernel
theorem f143_4 : mFetch 143 4 = some (.getfield 116, 3, 7, 1, 2, 0) := by decide +kernel
theorem f143_7 : mFetch 143 7 = some (.astore 4, 2, 0, 0, 0, 0) := by decide +kernel
theorem f143_9 : mFetch 143 9 = some (.aload 4, 2, 0, 0, 0, 0) := by decide +kernel
theorem f143_11 : mFetch 143 11 = some (.iload_n 1, 1, 0, 0, 0, 0) := by decide +kernel
theorem f143_12 : mFetch 143 12 = some (.invokevirtual 213, 3, 9, 0, 2, 0) := by decide +kernel
theorem f143_15 : mFetch 143 15 = some (.ifCond .eq 26, 3, 41, 0, 0, 0) := by decide +kernel
theorem f143_18 : mFetch 143 18 = some (.aload 4, 2, 0, 0, 0, 0) := by decide +kernel
theorem f143_20 : mFetch 143 20 = some (.iload_n 2, 1, 0, 0, 0, 0) := by decide +kernel
theorem f143_21 : mFetch 143 21 = some (.invokevirtual 213, 3, 9, 0, 2, 0) := by decide +kernel
theorem f143_24 : mFetch 143 24 = some (.ifCond .eq 17, 3, 41, 0, 0, 0) := by decide +kernel
theorem f143_27 : mFetch 143 27 = some (.iload_n 1, 1, 0, 0, 0, 0) := by decide +kernel
theorem f143_28 : mFetch 143 28 = some (.iload_n 2, 1, 0, 0, 0, 0) := by decide +kernel
theorem f143_29 : mFetch 143 29 = some (.if_icmp .eq 12, 3, 41, 0, 0, 0) := by decide +kernel
theorem f143_32 : mFetch 143 32 = some (.iload_n 3, 1, 0, 0, 0, 0) := by decide +kernel
theorem f143_33 : mFetch 143 33 = some (.ifCond .lt 8, 3, 41, 0, 0, 0) := by decide +kernel
theorem f143_36 : mFetch 143 36 = some (.iload_n 3, 1, 0, 0, 0, 0) := by decide +kernel
theorem f143_37 : mFetch 143 37 = some (.iconst 1, 1, 0, 0, 0, 0) := by decide +kernel
theorem f143_38 : mFetch 143 38 = some (.if_icmp .le 5, 3, 43, 0, 0, 0) := by decide +kernel
theorem f143_41 : mFetch 143 41 = some (.iconst (-1), 1, 0, 0, 0, 0) := by decide +kernel
theorem f143_42 : mFetch 143 42 = some (.ireturn, 1, 0, 0, 0, 0) := by decide +kernel
theorem f143_43 : mFetch 143 43 = some (.aload_n 0, 1, 0, 0, 0, 0) := by decide +kernel
theorem f143_44 : mFetch 143 44 = some (.getfield 88, 3, 11, 13, 2, 1) := by decide +kernel
theorem f143_47 : mFetch 143 47 = some (.aload 4, 2, 0, 0, 0, 0) := by decide +kernel
theorem f143_49 : mFetch 143 49 = some (.iload_n 1, 1, 0, 0, 0, 0) := by decide +kernel
theorem f143_50 : mFetch 143 50 = some (.iconst 0, 1, 0, 0, 0, 0) := by decide +kernel
theorem f143_51 : mFetch 143 51 = some (.invokevirtual 261, 3, 43, 0, 4, 2) := by decide +kernel
theorem f143_54 : mFetch 143 54 = some (.aload_n 0, 1, 0, 0, 0, 0) := by decide +kernel
theorem f143_55 : mFetch 143 55 = some (.getfield 88, 3, 11, 13, 2, 1) := by decide +kernel
theorem f143_58 : mFetch 143 58 = some (.aload 4, 2, 0, 0, 0, 0) := by decide +kernel
theorem f143_60 : mFetch 143 60 = some (.iload_n 2, 1, 0, 0, 0, 0) := by decide +kernel
theorem f143_61 : mFetch 143 61 = some (.iconst 1, 1, 0, 0, 0, 0) := by decide +kernel
theorem f143_62 : mFetch 143 62 = some (.invokevirtual 261, 3, 43, 0, 4, 2) := by decide +kernel
theorem f143_65 : mFetch 143 65 = some (.iload_n 3, 1, 0, 0, 0, 0) := by decide +kernel
theorem f143_66 : mFetch 143 66 = some (.iconst 1, 1, 0, 0, 0, 0) := by decide +kernel
theorem f143_67 : mFetch 143 67 = some (.if_icmp .ne 11, 3, 78, 0, 0, 0) := by decide +kernel
theorem f143_70 : mFetch 143 70 = some (.aload_n 0, 1, 0, 0, 0, 0) := by decide +kernel
theorem f143_71 : mFetch 143 71 = some (.getfield 88, 3, 11, 13, 2, 1) := by decide +kernel
theorem f143_74 : mFetch 143 74 = some (.invokevirtual 272, 3, 46, 0, 1, 2) := by decide +kernel
theorem f143_77 : mFetch 143 77 = some (.ireturn, 1, 0, 0, 0, 0) := by decide +kernel
theorem f143_78 : mFetch 143 78 = some (.aload_n 0, 1, 0, 0, 0, 0) := by decide +kernel
theorem f143_79 : mFetch 143 79 = some (.getfield 88, 3, 11, 13, 2, 1) := by decide +kernel
theorem f143_82 : mFetch 143 82 = some (.invokevirtual 275, 3, 47, 0, 1, 2) := by decide +kernel
theorem f143_85 : mFetch 143 85 = some (.istore 5, 2, 0, 0, 0, 0) := by decide +kernel
theorem f143_87 : mFetch 143 87 = some (.iload 5, 2, 0, 0, 0, 0) := by decide +kernel
theorem f143_89 : mFetch 143 89 = some (.ifCond .ne 7, 3, 96, 0, 0, 0) := by decide +kernel
theorem f143_92 : mFetch 143 92 = some (.iload_n 1, 1, 0, 0, 0, 0) := by decide +kernel
theorem f143_93 : mFetch 143 93 = some (.goto 15, 3, 108, 0, 0, 0) := by decide +kernel
theorem f143_96 : mFetch 143 96 = some (.iload 5, 2, 0, 0, 0, 0) := by decide +kernel
theorem f143_98 : mFetch 143 98 = some (.iconst 1, 1, 0, 0, 0, 0) := by decide +kernel
theorem f143_99 : mFetch 143 99 = some (.if_icmp .ne 7, 3, 106, 0, 0, 0) := by decide +kernel
theorem f143_102 : mFetch 143 102 = some (.iload_n 2, 1, 0, 0, 0, 0) := by decide +kernel
theorem f143_103 : mFetch 143 103 = some (.goto 5, 3, 108, 0, 0, 0) := by decide +kernel
theorem f143_106 : mFetch 143 106 = some (.bipush (-2), 2, 0, 0, 0, 0) := by decide +kernel
theorem f143_108 : mFetch 143 108 = some (.ireturn, 1, 0, 0, 0, 0) := by decide +kernel
theorem b143_0 {X : (Nat → Int) × Nat} {d : Nat} {s : mSt} {Q : mQ} {x1 : Int} {x2 : Int} {x3 : Int} {l4 : Option mV} {l5 : Option mV} (h_1 : Sp X d 9 [mR 18, mI x1] s (fun r s' => ∃ v : Int, r = some (mI v) ∧ Wp X (d + 1) 143 15 [some (mR 0), some (mI x1), some (mI x2), some (mI x3), some (mR 18), l5] [mI v] s' Q)) : Wp X (d + 1) 143 0 [some (mR 0), some (mI x1), some (mI x2), some (mI x3), l4, l5] [] s Q := Wp_step k143 f143_0 (Wp_step k143 f143_1 ⟨kf_0, 7, rf_0_5, Wp_step k143 f143_4 ⟨kf_7, 18, rf_7_1, Wp_step k143 f143_7 (Wp_step k143 f143_9 (Wp_step k143 f143_11 (Wp_step k143 f143_12 ⟨⟨kf_18, Nat.le_of_ble_eq_true rfl⟩, Nat.le_refl _, _, rfl, Sp_E h_1⟩)))⟩⟩)
theorem b143_15 {X : (Nat → Int) × Nat} {d : Nat} {s : mSt} {Q : mQ} {x1 : Int} {x2 : Int} {x3 : Int} {l5 : Option mV} {xt0 : Int} (h_1 : xt0 = 0 → Wp X d 143 41 [some (mR 0), some (mI x1), some (mI x2), some (mI x3), some (mR 18), l5] [] s Q) (h_2 : ¬ xt0 = 0 → Wp X d 143 18 [some (mR 0), some (mI x1), some (mI x2), some (mI x3), some (mR 18), l5] [] s Q) : Wp X d 143 15 [some (mR 0), some (mI x1), some (mI x2), some (mI x3), some (mR 18), l5] [mI xt0] s Q := Wp_step k143 f143_15 ⟨h_1, h_2⟩
theorem b143_18 {X : (Nat → Int) × Nat} {d : Nat} {s : mSt} {Q : mQ} {x1 : Int} {x2 : Int} {x3 : Int} {l5 : Option mV} (h_1 : Sp X d 9 [mR 18, mI x2] s (fun r s' => ∃ v : Int, r = some (mI v) ∧ Wp X (d + 1) 143 24 [some (mR 0), some (mI x1), some (mI x2), some (mI x3), some (mR 18), l5] [mI v] s' Q)) : Wp X (d + 1) 143 18 [some (mR 0), some (mI x1), some (mI x2), some (mI x3), some (mR 18), l5] [] s Q := Wp_step k143 f143_18 (Wp_step k143 f143_20 (Wp_step k143 f143_21 ⟨⟨kf_18, Nat.le_of_ble_eq_true rfl⟩, Nat.le_refl _, _, rfl, Sp_E h_1⟩))
theorem b143_24 {X : (Nat → Int) × Nat} {d : Nat} {s : mSt} {Q : mQ} {x1 : Int} {x2 : Int} {x3 : Int} {l5 : Option mV} {xt0 : Int} (h_1 : xt0 = 0 → Wp X d 143 41 [some (mR 0), some (mI x1), some (mI x2), some (mI x3), some (mR 18), l5] [] s Q) (h_2 : ¬ xt0 = 0 → Wp X d 143 27 [some (mR 0), some (mI x1), some (mI x2), some (mI x3), some (mR 18), l5] [] s Q) : Wp X d 143 24 [some (mR 0), some (mI x1), some (mI x2), some (mI x3), some (mR 18), l5] [mI xt0] s Q := Wp_step k143 f143_24 ⟨h_1, h_2⟩
theorem b143_27 {X : (Nat → Int) × Nat} {d : Nat} {s : mSt} {Q : mQ} {x1 : Int} {x2 : Int} {x3 : Int} {l5 : Option mV} (h_1 : x1 = x2 → Wp X d 143 41 [some (mR 0), some (mI x1), some (mI x2), some (mI x3), some (mR 18), l5] [] s Q) (h_2 : ¬ x1 = x2 → Wp X d 143 32 [some (mR 0), some (mI x1), some (mI x2), some (mI x3), some (mR 18), l5] [] s Q) : Wp X d 143 27 [some (mR 0), some (mI x1), some (mI x2), some (mI x3), some (mR 18), l5] [] s Q := Wp_step k143 f143_27 (Wp_step k143 f143_28 (Wp_step k143 f143_29 ⟨h_1, h_2⟩))
theorem b143_32 {X : (Nat → Int) × Nat} {d : Nat} {s : mSt} {Q : mQ} {x1 : Int} {x2 : Int} {x3 : Int} {l5 : Option mV} (h_1 : x3 < 0 → Wp X d 143 41 [some (mR 0), some (mI x1), some (mI x2), some (mI x3), some (mR 18), l5] [] s Q) (h_2 : ¬ x3 < 0 → Wp X d 143 36 [some (mR 0), some (mI x1), some (mI x2), some (mI x3), some (mR 18), l5] [] s Q) : Wp X d 143 32 [some (mR 0), some (mI x1), some (mI x2), some (mI x3), some (mR 18), l5] [] s Q := Wp_step k143 f143_32 (Wp_step k143 f143_33 ⟨h_1, h_2⟩)
theorem b143_36 {X : (Nat → Int) × Nat} {d : Nat} {s : mSt} {Q : mQ} {x1 : Int} {x2 : Int} {x3 : Int} {l5 : Option mV} (h_1 : x3 ≤ 1 → Wp X d 143 43 [some (mR 0), some (mI x1), some (mI x2), some (mI x3), some (mR 18), l5] [] s Q) (h_2 : ¬ x3 ≤ 1 → Wp X d 143 41 [some (mR 0), some (mI x1), some (mI x2), some (mI x3), some (mR 18), l5] [] s Q) : Wp X d 143 36 [some (mR 0), some (mI x1), some (mI x2), some (mI x3), some (mR 18), l5] [] s Q := Wp_step k143 f143_36 (Wp_step k143 f143_37 (Wp_step k143 f143_38 ⟨h_1, h_2⟩))
theorem b143_41 {X : (Nat → Int) × Nat} {d : Nat} {s : mSt} {Q : mQ} {x1 : Int} {x2 : Int} {x3 : Int} {l5 : Option mV} (h_1 : Q (some (mI (-1))) s) : Wp X d 143 41 [some (mR 0), some (mI x1), some (mI x2), some (mI x3), some (mR 18), l5] [] s Q := Wp_step k143 f143_41 (Wp_step k143 f143_42 ⟨⟨rfl, trivial⟩, h_1⟩)
theorem b143_43 {X : (Nat → Int) × Nat} {d : Nat} {s : mSt} {Q : mQ} {x1 : Int} {x2 : Int} {x3 : Int} {l5 : Option mV} (h_1 : Sp X d 43 [mR 76, mR 18, mI x1, mI 0] s (fun r s' => r = none ∧ Wp X (d + 1) 143 54 [some (mR 0), some (mI x1), some (mI x2), some (mI x3), some (mR 18), l5] [] s' Q)) : Wp X (d + 1) 143 43 [some (mR 0), some (mI x1), some (mI x2), some (mI x3), some (mR 18), l5] [] s Q := Wp_step k143 f143_43 (Wp_step k143 f143_44 ⟨kf_0, 76, rf_0_13, Wp_step k143 f143_47 (Wp_step k143 f143_49 (Wp_step k143 f143_50 (Wp_step k143 f143_51 ⟨⟨kf_76, Nat.le_of_ble_eq_true rfl⟩, Nat.le_refl _, _, rfl, Sp_V h_1⟩)))⟩)
theorem b143_54 {X : (Nat → Int) × Nat} {d : Nat} {s : mSt} {Q : mQ} {x1 : Int} {x2 : Int} {x3 : Int} {l5 : Option mV} (h_1 : Sp X d 43 [mR 76, mR 18, mI x2, mI 1] s (fun r s' => r = none ∧ Wp X (d + 1) 143 65 [some (mR 0), some (mI x1), some (mI x2), some (mI x3), some (mR 18), l5] [] s' Q)) : Wp X (d + 1) 143 54 [some (mR 0), some (mI x1), some (mI x2), some (mI x3), some (mR 18), l5] [] s Q := Wp_step k143 f143_54 (Wp_step k143 f143_55 ⟨kf_0, 76, rf_0_13, Wp_step k143 f143_58 (Wp_step k143 f143_60 (Wp_step k143 f143_61 (Wp_step k143 f143_62 ⟨⟨kf_76, Nat.le_of_ble_eq_true rfl⟩, Nat.le_refl _, _, rfl, Sp_V h_1⟩)))⟩)
theorem b143_65 {X : (Nat → Int) × Nat} {d : Nat} {s : mSt} {Q : mQ} {x1 : Int} {x2 : Int} {x3 : Int} {l5 : Option mV} (h_1 : ¬ x3 = 1 → Wp X d 143 78 [some (mR 0), some (mI x1), some (mI x2), some (mI x3), some (mR 18), l5] [] s Q) (h_2 : x3 = 1 → Wp X d 143 70 [some (mR 0), some (mI x1), some (mI x2), some (mI x3), some (mR 18), l5] [] s Q) : Wp X d 143 65 [some (mR 0), some (mI x1), some (mI x2), some (mI x3), some (mR 18), l5] [] s Q := Wp_step k143 f143_65 (Wp_step k143 f143_66 (Wp_step k143 f143_67 ⟨h_1, h_2⟩))
theorem b143_70 {X : (Nat → Int) × Nat} {d : Nat} {s : mSt} {Q : mQ} {x1 : Int} {x2 : Int} {x3 : Int} {l5 : Option mV} (h_1 : Sp X d 46 [mR 76] s (fun r s' => ∃ v : Int, r = some (mI v) ∧ Wp X (d + 1) 143 77 [some (mR 0), some (mI x1), some (mI x2), some (mI x3), some (mR 18), l5] [mI v] s' Q)) : Wp X (d + 1) 143 70 [some (mR 0), some (mI x1), some (mI x2), some (mI x3), some (mR 18), l5] [] s Q := Wp_step k143 f143_70 (Wp_step k143 f143_71 ⟨kf_0, 76, rf_0_13, Wp_step k143 f143_74 ⟨⟨kf_76, Nat.le_of_ble_eq_true rfl⟩, Nat.le_refl _, _, rfl, Sp_E h_1⟩⟩)
theorem b143_77 {X : (Nat → Int) × Nat} {d : Nat} {s : mSt} {Q : mQ} {x1 : Int} {x2 : Int} {x3 : Int} {l5 : Option mV} {xt0 : Int} (h_1 : Q (some (mI xt0)) s) : Wp X d 143 77 [some (mR 0), some (mI x1), some (mI x2), some (mI x3), some (mR 18), l5] [mI xt0] s Q := Wp_step k143 f143_77 ⟨⟨rfl, trivial⟩, h_1⟩
theorem b143_78 {X : (Nat → Int) × Nat} {d : Nat} {s : mSt} {Q : mQ} {x1 : Int} {x2 : Int} {x3 : Int} {l5 : Option mV} (h_1 : Sp X d 47 [mR 76] s (fun r s' => ∃ v : Int, r = some (mI v) ∧ Wp X (d + 1) 143 85 [some (mR 0), some (mI x1), some (mI x2), some (mI x3), some (mR 18), l5] [mI v] s' Q)) : Wp X (d + 1) 143 78 [some (mR 0), some (mI x1), some (mI x2), some (mI x3), some (mR 18), l5] [] s Q := Wp_step k143 f143_78 (Wp_step k143 f143_79 ⟨kf_0, 76, rf_0_13, Wp_step k143 f143_82 ⟨⟨kf_76, Nat.le_of_ble_eq_true rfl⟩, Nat.le_refl _, _, rfl, Sp_E h_1⟩⟩)
theorem b143_85 {X : (Nat → Int) × Nat} {d : Nat} {s : mSt} {Q : mQ} {x1 : Int} {x2 : Int} {x3 : Int} {l5 : Option mV} {xt0 : Int} (h_1 : ¬ xt0 = 0 → Wp X d 143 96 [some (mR 0), some (mI x1), some (mI x2), some (mI x3), some (mR 18), some (mI xt0)] [] s Q) (h_2 : xt0 = 0 → Wp X d 143 92 [some (mR 0), some (mI x1), some (mI x2), some (mI x3), some (mR 18), some (mI xt0)] [] s Q) : Wp X d 143 85 [some (mR 0), some (mI x1), some (mI x2), some (mI x3), some (mR 18), l5] [mI xt0] s Q := Wp_step k143 f143_85 (Wp_step k143 f143_87 (Wp_step k143 f143_89 ⟨h_1, h_2⟩))
theorem b143_92 {X : (Nat → Int) × Nat} {d : Nat} {s : mSt} {Q : mQ} {x1 : Int} {x2 : Int} {x3 : Int} {x5 : Int} (h_1 : Wp X d 143 108 [some (mR 0), some (mI x1), some (mI x2), some (mI x3), some (mR 18), some (mI x5)] [mI x1] s Q) : Wp X d 143 92 [some (mR 0), some (mI x1), some (mI x2), some (mI x3), some (mR 18), some (mI x5)] [] s Q := Wp_step k143 f143_92 (Wp_step k143 f143_93 (h_1))
theorem b143_96 {X : (Nat → Int) × Nat} {d : Nat} {s : mSt} {Q : mQ} {x1 : Int} {x2 : Int} {x3 : Int} {x5 : Int} (h_1 : ¬ x5 = 1 → Wp X d 143 106 [some (mR 0), some (mI x1), some (mI x2), some (mI x3), some (mR 18), some (mI x5)] [] s Q) (h_2 : x5 = 1 → Wp X d 143 102 [some (mR 0), some (mI x1), some (mI x2), some (mI x3), some (mR 18), some (mI x5)] [] s Q) : Wp X d 143 96 [some (mR 0), some (mI x1), some (mI x2), some (mI x3), some (mR 18), some (mI x5)] [] s Q := Wp_step k143 f143_96 (Wp_step k143 f143_98 (Wp_step k143 f143_99 ⟨h_1, h_2⟩))
theorem b143_102 {X : (Nat → Int) × Nat} {d : Nat} {s : mSt} {Q : mQ} {x1 : Int} {x2 : Int} {x3 : Int} {x5 : Int} (h_1 : Wp X d 143 108 [some (mR 0), some (mI x1), some (mI x2), some (mI x3), some (mR 18), some (mI x5)] [mI x2] s Q) : Wp X d 143 102 [some (mR 0), some (mI x1), some (mI x2), some (mI x3), some (mR 18), some (mI x5)] [] s Q := Wp_step k143 f143_102 (Wp_step k143 f143_103 (h_1))
theorem b143_106 {X : (Nat → Int) × Nat} {d : Nat} {s : mSt} {Q : mQ} {x1 : Int} {x2 : Int} {x3 : Int} {x5 : Int} (h_1 : Wp X d 143 108 [some (mR 0), some (mI x1), some (mI x2), some (mI x3), some (mR 18), some (mI x5)] [mI (-2)] s Q) : Wp X d 143 106 [some (mR 0), some (mI x1), some (mI x2), some (mI x3), some (mR 18), some (mI x5)] [] s Q := Wp_step k143 f143_106 (h_1)
theorem b143_108 {X : (Nat → Int) × Nat} {d : Nat} {s : mSt} {Q : mQ} {x1 : Int} {x2 : Int} {x3 : Int} {x5 : Int} {xt0 : Int} (h_1 : Q (some (mI xt0)) s) : Wp X d 143 108 [some (mR 0), some (mI x1), some (mI x2), some (mI x3), some (mR 18), some (mI x5)] [mI xt0] s Q := Wp_step k143 f143_108 ⟨⟨rfl, trivial⟩, h_1⟩
theorem e143 {X : (Nat → Int) × Nat} {d : Nat} {s : mSt} {Q : mQ} {x1 : Int} {x2 : Int} {x3 : Int} (h : Wp X d 143 0 [some (mR 0), some (mI x1), some (mI x2), some (mI x3), none, none] [] s Q) : Sp X d 143 [mR 0, mI x1, mI x2, mI x3] s Q := Sp_of (show mCe 143 = 0 by decide +kernel) (by rw [show mML 143 = 6 by decide +kernel]; rfl) (Nat.le_trans (Nat.le_of_ble_eq_true (show Nat.ble (mArgs _).length 6 = true from rfl)) (show 6 ≤ mML 143 by decide +kernel)) h
-- 144 ClashDay.watchers(II)I
theorem k144 : mRk 144 = 1 := by decide +kernel
theorem f144_0 : mFetch 144 0 = some (.aload_n 0, 1, 0, 0, 0, 0) := by decide +kernel
theorem f144_1 : mFetch 144 1 = some (.getfield 41, 3, 11, 5, 2, 1) := by decide +kernel
theorem f144_4 : mFetch 144 4 = some (.getfield 116, 3, 7, 1, 2, 0) := by decide +kernel
theorem f144_7 : mFetch 144 7 = some (.invokevirtual 170, 3, 6, 0, 1, 0) := by decide +kernel
theorem f144_10 : mFetch 144 10 = some (.ifCond .eq 23, 3, 33, 0, 0, 0) := by decide +kernel
theorem f144_13 : mFetch 144 13 = some (.iload_n 1, 1, 0, 0, 0, 0) := by decide +kernel
theorem f144_14 : mFetch 144 14 = some (.iconst 1, 1, 0, 0, 0, 0) := by decide +kernel
theorem f144_15 : mFetch 144 15 = some (.if_icmp .lt 18, 3, 33, 0, 0, 0) := by decide +kernel
theorem f144_18 : mFetch 144 18 = some (.iload_n 1, 1, 0, 0, 0, 0) := by decide +kernel
theorem f144_19 : mFetch 144 19 = some (.bipush 6, 2, 0, 0, 0, 0) := by decide +kernel
theorem f144_21 : mFetch 144 21 = some (.if_icmp .gt 12, 3, 33, 0, 0, 0) := by decide +kernel
theorem f144_24 : mFetch 144 24 = some (.iload_n 2, 1, 0, 0, 0, 0) := by decide +kernel
theorem f144_25 : mFetch 144 25 = some (.ifCond .lt 8, 3, 33, 0, 0, 0) := by decide +kernel
theorem f144_28 : mFetch 144 28 = some (.iload_n 2, 1, 0, 0, 0, 0) := by decide +kernel
theorem f144_29 : mFetch 144 29 = some (.iconst 1, 1, 0, 0, 0, 0) := by decide +kernel
theorem f144_30 : mFetch 144 30 = some (.if_icmp .le 5, 3, 35, 0, 0, 0) := by decide +kernel
theorem f144_33 : mFetch 144 33 = some (.iconst (-1), 1, 0, 0, 0, 0) := by decide +kernel
theorem f144_34 : mFetch 144 34 = some (.ireturn, 1, 0, 0, 0, 0) := by decide +kernel
theorem f144_35 : mFetch 144 35 = some (.aload_n 0, 1, 0, 0, 0, 0) := by decide +kernel
theorem f144_36 : mFetch 144 36 = some (.getfield 41, 3, 11, 5, 2, 1) := by decide +kernel
theorem f144_39 : mFetch 144 39 = some (.getfield 116, 3, 7, 1, 2, 0) := by decide +kernel
theorem f144_42 : mFetch 144 42 = some (.iload_n 1, 1, 0, 0, 0, 0) := by decide +kernel
theorem f144_43 : mFetch 144 43 = some (.invokevirtual 278, 3, 28, 0, 2, 0) := by decide +kernel
theorem f144_46 : mFetch 144 46 = some (.istore_n 3, 1, 0, 0, 0, 0) := by decide +kernel
theorem f144_47 : mFetch 144 47 = some (.iload_n 2, 1, 0, 0, 0, 0) := by decide +kernel
theorem f144_48 : mFetch 144 48 = some (.iconst 1, 1, 0, 0, 0, 0) := by decide +kernel
theorem f144_49 : mFetch 144 49 = some (.if_icmp .ne 7, 3, 56, 0, 0, 0) := by decide +kernel
theorem f144_52 : mFetch 144 52 = some (.iload_n 3, 1, 0, 0, 0, 0) := by decide +kernel
theorem f144_53 : mFetch 144 53 = some (.goto 15, 3, 68, 0, 0, 0) := by decide +kernel
theorem f144_56 : mFetch 144 56 = some (.aload_n 0, 1, 0, 0, 0, 0) := by decide +kernel
theorem f144_57 : mFetch 144 57 = some (.getfield 41, 3, 11, 5, 2, 1) := by decide +kernel
theorem f144_60 : mFetch 144 60 = some (.getfield 116, 3, 7, 1, 2, 0) := by decide +kernel
theorem f144_63 : mFetch 144 63 = some (.iload_n 3, 1, 0, 0, 0, 0) := by decide +kernel
theorem f144_64 : mFetch 144 64 = some (.iload_n 1, 1, 0, 0, 0, 0) := by decide +kernel
theorem f144_65 : mFetch 144 65 = some (.invokevirtual 281, 3, 27, 0, 3, 0) := by decide +kernel
theorem f144_68 : mFetch 144 68 = some (.ireturn, 1, 0, 0, 0, 0) := by decide +kernel
theorem b144_0 {X : (Nat → Int) × Nat} {d : Nat} {s : mSt} {Q : mQ} {x1 : Int} {x2 : Int} {l3 : Option mV} (h_1 : Sp X d 6 [mR 18] s (fun r s' => ∃ v : Int, r = some (mI v) ∧ Wp X (d + 1) 144 10 [some (mR 0), some (mI x1), some (mI x2), l3] [mI v] s' Q)) : Wp X (d + 1) 144 0 [some (mR 0), some (mI x1), some (mI x2), l3] [] s Q := Wp_step k144 f144_0 (Wp_step k144 f144_1 ⟨kf_0, 7, rf_0_5, Wp_step k144 f144_4 ⟨kf_7, 18, rf_7_1, Wp_step k144 f144_7 ⟨⟨kf_18, Nat.le_of_ble_eq_true rfl⟩, Nat.le_refl _, _, rfl, Sp_E h_1⟩⟩⟩)
theorem b144_10 {X : (Nat → Int) × Nat} {d : Nat} {s : mSt} {Q : mQ} {x1 : Int} {x2 : Int} {l3 : Option mV} {xt0 : Int} (h_1 : xt0 = 0 → Wp X d 144 33 [some (mR 0), some (mI x1), some (mI x2), l3] [] s Q) (h_2 : ¬ xt0 = 0 → Wp X d 144 13 [some (mR 0), some (mI x1), some (mI x2), l3] [] s Q) : Wp X d 144 10 [some (mR 0), some (mI x1), some (mI x2), l3] [mI xt0] s Q := Wp_step k144 f144_10 ⟨h_1, h_2⟩
theorem b144_13 {X : (Nat → Int) × Nat} {d : Nat} {s : mSt} {Q : mQ} {x1 : Int} {x2 : Int} {l3 : Option mV} (h_1 : x1 < 1 → Wp X d 144 33 [some (mR 0), some (mI x1), some (mI x2), l3] [] s Q) (h_2 : ¬ x1 < 1 → Wp X d 144 18 [some (mR 0), some (mI x1), some (mI x2), l3] [] s Q) : Wp X d 144 13 [some (mR 0), some (mI x1), some (mI x2), l3] [] s Q := Wp_step k144 f144_13 (Wp_step k144 f144_14 (Wp_step k144 f144_15 ⟨h_1, h_2⟩))
theorem b144_18 {X : (Nat → Int) × Nat} {d : Nat} {s : mSt} {Q : mQ} {x1 : Int} {x2 : Int} {l3 : Option mV} (h_1 : 6 < x1 → Wp X d 144 33 [some (mR 0), some (mI x1), some (mI x2), l3] [] s Q) (h_2 : ¬ 6 < x1 → Wp X d 144 24 [some (mR 0), some (mI x1), some (mI x2), l3] [] s Q) : Wp X d 144 18 [some (mR 0), some (mI x1), some (mI x2), l3] [] s Q := Wp_step k144 f144_18 (Wp_step k144 f144_19 (Wp_step k144 f144_21 ⟨h_1, h_2⟩))
theorem b144_24 {X : (Nat → Int) × Nat} {d : Nat} {s : mSt} {Q : mQ} {x1 : Int} {x2 : Int} {l3 : Option mV} (h_1 : x2 < 0 → Wp X d 144 33 [some (mR 0), some (mI x1), some (mI x2), l3] [] s Q) (h_2 : ¬ x2 < 0 → Wp X d 144 28 [some (mR 0), some (mI x1), some (mI x2), l3] [] s Q) : Wp X d 144 24 [some (mR 0), some (mI x1), some (mI x2), l3] [] s Q := Wp_step k144 f144_24 (Wp_step k144 f144_25 ⟨h_1, h_2⟩)
theorem b144_28 {X : (Nat → Int) × Nat} {d : Nat} {s : mSt} {Q : mQ} {x1 : Int} {x2 : Int} {l3 : Option mV} (h_1 : x2 ≤ 1 → Wp X d 144 35 [some (mR 0), some (mI x1), some (mI x2), l3] [] s Q) (h_2 : ¬ x2 ≤ 1 → Wp X d 144 33 [some (mR 0), some (mI x1), some (mI x2), l3] [] s Q) : Wp X d 144 28 [some (mR 0), some (mI x1), some (mI x2), l3] [] s Q := Wp_step k144 f144_28 (Wp_step k144 f144_29 (Wp_step k144 f144_30 ⟨h_1, h_2⟩))
theorem b144_33 {X : (Nat → Int) × Nat} {d : Nat} {s : mSt} {Q : mQ} {x1 : Int} {x2 : Int} {l3 : Option mV} (h_1 : Q (some (mI (-1))) s) : Wp X d 144 33 [some (mR 0), some (mI x1), some (mI x2), l3] [] s Q := Wp_step k144 f144_33 (Wp_step k144 f144_34 ⟨⟨rfl, trivial⟩, h_1⟩)
theorem b144_35 {X : (Nat → Int) × Nat} {d : Nat} {s : mSt} {Q : mQ} {x1 : Int} {x2 : Int} {l3 : Option mV} (h_1 : Sp X d 28 [mR 18, mI x1] s (fun r s' => ∃ v : Int, r = some (mI v) ∧ Wp X (d + 1) 144 46 [some (mR 0), some (mI x1), some (mI x2), l3] [mI v] s' Q)) : Wp X (d + 1) 144 35 [some (mR 0), some (mI x1), some (mI x2), l3] [] s Q := Wp_step k144 f144_35 (Wp_step k144 f144_36 ⟨kf_0, 7, rf_0_5, Wp_step k144 f144_39 ⟨kf_7, 18, rf_7_1, Wp_step k144 f144_42 (Wp_step k144 f144_43 ⟨⟨kf_18, Nat.le_of_ble_eq_true rfl⟩, Nat.le_refl _, _, rfl, Sp_E h_1⟩)⟩⟩)
theorem b144_46 {X : (Nat → Int) × Nat} {d : Nat} {s : mSt} {Q : mQ} {x1 : Int} {x2 : Int} {l3 : Option mV} {xt0 : Int} (h_1 : ¬ x2 = 1 → Wp X d 144 56 [some (mR 0), some (mI x1), some (mI x2), some (mI xt0)] [] s Q) (h_2 : x2 = 1 → Wp X d 144 52 [some (mR 0), some (mI x1), some (mI x2), some (mI xt0)] [] s Q) : Wp X d 144 46 [some (mR 0), some (mI x1), some (mI x2), l3] [mI xt0] s Q := Wp_step k144 f144_46 (Wp_step k144 f144_47 (Wp_step k144 f144_48 (Wp_step k144 f144_49 ⟨h_1, h_2⟩)))
theorem b144_52 {X : (Nat → Int) × Nat} {d : Nat} {s : mSt} {Q : mQ} {x1 : Int} {x2 : Int} {x3 : Int} (h_1 : Wp X d 144 68 [some (mR 0), some (mI x1), some (mI x2), some (mI x3)] [mI x3] s Q) : Wp X d 144 52 [some (mR 0), some (mI x1), some (mI x2), some (mI x3)] [] s Q := Wp_step k144 f144_52 (Wp_step k144 f144_53 (h_1))
theorem b144_56 {X : (Nat → Int) × Nat} {d : Nat} {s : mSt} {Q : mQ} {x1 : Int} {x2 : Int} {x3 : Int} (h_1 : Sp X d 27 [mR 18, mI x3, mI x1] s (fun r s' => ∃ v : Int, r = some (mI v) ∧ Wp X (d + 1) 144 68 [some (mR 0), some (mI x1), some (mI x2), some (mI x3)] [mI v] s' Q)) : Wp X (d + 1) 144 56 [some (mR 0), some (mI x1), some (mI x2), some (mI x3)] [] s Q := Wp_step k144 f144_56 (Wp_step k144 f144_57 ⟨kf_0, 7, rf_0_5, Wp_step k144 f144_60 ⟨kf_7, 18, rf_7_1, Wp_step k144 f144_63 (Wp_step k144 f144_64 (Wp_step k144 f144_65 ⟨⟨kf_18, Nat.le_of_ble_eq_true rfl⟩, Nat.le_refl _, _, rfl, Sp_E h_1⟩))⟩⟩)
theorem b144_68 {X : (Nat → Int) × Nat} {d : Nat} {s : mSt} {Q : mQ} {x1 : Int} {x2 : Int} {x3 : Int} {xt0 : Int} (h_1 : Q (some (mI xt0)) s) : Wp X d 144 68 [some (mR 0), some (mI x1), some (mI x2), some (mI x3)] [mI xt0] s Q := Wp_step k144 f144_68 ⟨⟨rfl, trivial⟩, h_1⟩
theorem e144 {X : (Nat → Int) × Nat} {d : Nat} {s : mSt} {Q : mQ} {x1 : Int} {x2 : Int} (h : Wp X d 144 0 [some (mR 0), some (mI x1), some (mI x2), none] [] s Q) : Sp X d 144 [mR 0, mI x1, mI x2] s Q := Sp_of (show mCe 144 = 0 by decide +kernel) (by rw [show mML 144 = 4 by decide +kernel]; rfl) (Nat.le_trans (Nat.le_of_ble_eq_true (show Nat.ble (mArgs _).length 4 = true from rfl)) (show 4 ≤ mML 144 by decide +kernel)) h
-- 145 ClashDay.chain(III)I
theorem k145 : mRk 145 = 1 := by decide +kernel
theorem f145_0 : mFetch 145 0 = some (.aload_n 0, 1, 0, 0, 0, 0) := by decide +kernel
theorem f145_1 : mFetch 145 1 = some (.getfield 41, 3, 11, 5, 2, 1) := by decide +kernel
theorem f145_4 : mFetch 145 4 = some (.getfield 116, 3, 7, 1, 2, 0) := by decide +kernel
theorem f145_7 : mFetch 145 7 = some (.astore 4, 2, 0, 0, 0, 0) := by decide +kernel
theorem f145_9 : mFetch 145 9 = some (.iload_n 1, 1, 0, 0, 0, 0) := by decide +kernel
theorem f145_10 : mFetch 145 10 = some (.iconst 1, 1, 0, 0, 0, 0) := by decide +kernel
theorem f145_11 : mFetch 145 11 = some (.if_icmp .lt 25, 3, 36, 0, 0, 0) := by decide +kernel
theorem f145_14 : mFetch 145 14 = some (.iload_n 1, 1, 0, 0, 0, 0) := by decide +kernel
theorem f145_15 : mFetch 145 15 = some (.bipush 6, 2, 0, 0, 0, 0) := by decide +kernel
theorem f145_17 : mFetch 145 17 = some (.if_icmp .gt 19, 3, 36, 0, 0, 0) := by decide +kernel
theorem f145_20 : mFetch 145 20 = some (.aload 4, 2, 0, 0, 0, 0) := by decide +kernel
theorem f145_22 : mFetch 145 22 = some (.iload_n 2, 1, 0, 0, 0, 0) := by decide +kernel
theorem f145_23 : mFetch 145 23 = some (.invokevirtual 213, 3, 9, 0, 2, 0) := by decide +kernel
theorem f145_26 : mFetch 145 26 = some (.ifCond .eq 10, 3, 36, 0, 0, 0) := by decide +kernel
theorem f145_29 : mFetch 145 29 = some (.iload_n 3, 1, 0, 0, 0, 0) := by decide +kernel
theorem f145_30 : mFetch 145 30 = some (.invokestatic 174, 3, 163, 0, 1, 99) := by decide +kernel
theorem f145_33 : mFetch 145 33 = some (.ifCond .ne 5, 3, 38, 0, 0, 0) := by decide +kernel
theorem f145_36 : mFetch 145 36 = some (.iconst (-1), 1, 0, 0, 0, 0) := by decide +kernel
theorem f145_37 : mFetch 145 37 = some (.ireturn, 1, 0, 0, 0, 0) := by decide +kernel
theorem f145_38 : mFetch 145 38 = some (.aload 4, 2, 0, 0, 0, 0) := by decide +kernel
theorem f145_40 : mFetch 145 40 = some (.iload_n 2, 1, 0, 0, 0, 0) := by decide +kernel
theorem f145_41 : mFetch 145 41 = some (.iload_n 3, 1, 0, 0, 0, 0) := by decide +kernel
theorem f145_42 : mFetch 145 42 = some (.invokevirtual 284, 3, 20, 0, 3, 0) := by decide +kernel
theorem f145_45 : mFetch 145 45 = some (.ifCond .eq 18, 3, 63, 0, 0, 0) := by decide +kernel
theorem f145_48 : mFetch 145 48 = some (.aload_n 0, 1, 0, 0, 0, 0) := by decide +kernel
theorem f145_49 : mFetch 145 49 = some (.getfield 88, 3, 11, 13, 2, 1) := by decide +kernel
theorem f145_52 : mFetch 145 52 = some (.aload 4, 2, 0, 0, 0, 0) := by decide +kernel
theorem f145_54 : mFetch 145 54 = some (.iload_n 1, 1, 0, 0, 0, 0) := by decide +kernel
theorem f145_55 : mFetch 145 55 = some (.iload_n 2, 1, 0, 0, 0, 0) := by decide +kernel
theorem f145_56 : mFetch 145 56 = some (.iload_n 3, 1, 0, 0, 0, 0) := by decide +kernel
theorem f145_57 : mFetch 145 57 = some (.invokevirtual 287, 3, 48, 0, 5, 2) := by decide +kernel
theorem f145_60 : mFetch 145 60 = some (.goto 5, 3, 65, 0, 0, 0) := by decide +kernel
theorem f145_63 : mFetch 145 63 = some (.bipush (-2), 2, 0, 0, 0, 0) := by decide +kernel
theorem f145_65 : mFetch 145 65 = some (.ireturn, 1, 0, 0, 0, 0) := by decide +kernel
theorem b145_0 {X : (Nat → Int) × Nat} {d : Nat} {s : mSt} {Q : mQ} {x1 : Int} {x2 : Int} {x3 : Int} {l4 : Option mV} (h_1 : x1 < 1 → Wp X d 145 36 [some (mR 0), some (mI x1), some (mI x2), some (mI x3), some (mR 18)] [] s Q) (h_2 : ¬ x1 < 1 → Wp X d 145 14 [some (mR 0), some (mI x1), some (mI x2), some (mI x3), some (mR 18)] [] s Q) : Wp X d 145 0 [some (mR 0), some (mI x1), some (mI x2), some (mI x3), l4] [] s Q := Wp_step k145 f145_0 (Wp_step k145 f145_1 ⟨kf_0, 7, rf_0_5, Wp_step k145 f145_4 ⟨kf_7, 18, rf_7_1, Wp_step k145 f145_7 (Wp_step k145 f145_9 (Wp_step k145 f145_10 (Wp_step k145 f145_11 ⟨h_1, h_2⟩)))⟩⟩)
theorem b145_14 {X : (Nat → Int) × Nat} {d : Nat} {s : mSt} {Q : mQ} {x1 : Int} {x2 : Int} {x3 : Int} (h_1 : 6 < x1 → Wp X d 145 36 [some (mR 0), some (mI x1), some (mI x2), some (mI x3), some (mR 18)] [] s Q) (h_2 : ¬ 6 < x1 → Wp X d 145 20 [some (mR 0), some (mI x1), some (mI x2), some (mI x3), some (mR 18)] [] s Q) : Wp X d 145 14 [some (mR 0), some (mI x1), some (mI x2), some (mI x3), some (mR 18)] [] s Q := Wp_step k145 f145_14 (Wp_step k145 f145_15 (Wp_step k145 f145_17 ⟨h_1, h_2⟩))
theorem b145_20 {X : (Nat → Int) × Nat} {d : Nat} {s : mSt} {Q : mQ} {x1 : Int} {x2 : Int} {x3 : Int} (h_1 : Sp X d 9 [mR 18, mI x2] s (fun r s' => ∃ v : Int, r = some (mI v) ∧ Wp X (d + 1) 145 26 [some (mR 0), some (mI x1), some (mI x2), some (mI x3), some (mR 18)] [mI v] s' Q)) : Wp X (d + 1) 145 20 [some (mR 0), some (mI x1), some (mI x2), some (mI x3), some (mR 18)] [] s Q := Wp_step k145 f145_20 (Wp_step k145 f145_22 (Wp_step k145 f145_23 ⟨⟨kf_18, Nat.le_of_ble_eq_true rfl⟩, Nat.le_refl _, _, rfl, Sp_E h_1⟩))
theorem b145_26 {X : (Nat → Int) × Nat} {d : Nat} {s : mSt} {Q : mQ} {x1 : Int} {x2 : Int} {x3 : Int} {xt0 : Int} (h_1 : xt0 = 0 → Wp X d 145 36 [some (mR 0), some (mI x1), some (mI x2), some (mI x3), some (mR 18)] [] s Q) (h_2 : ¬ xt0 = 0 → Wp X d 145 29 [some (mR 0), some (mI x1), some (mI x2), some (mI x3), some (mR 18)] [] s Q) : Wp X d 145 26 [some (mR 0), some (mI x1), some (mI x2), some (mI x3), some (mR 18)] [mI xt0] s Q := Wp_step k145 f145_26 ⟨h_1, h_2⟩
theorem b145_29 {X : (Nat → Int) × Nat} {d : Nat} {s : mSt} {Q : mQ} {x1 : Int} {x2 : Int} {x3 : Int} (h_1 : Sp X d 163 [mI x3] s (fun r s' => ∃ v : Int, r = some (mI v) ∧ Wp X (d + 1) 145 33 [some (mR 0), some (mI x1), some (mI x2), some (mI x3), some (mR 18)] [mI v] s' Q)) : Wp X (d + 1) 145 29 [some (mR 0), some (mI x1), some (mI x2), some (mI x3), some (mR 18)] [] s Q := Wp_step k145 f145_29 (Wp_step k145 f145_30 ⟨⟨Nat.le_of_ble_eq_true rfl, Nat.le_refl _⟩, _, rfl, Sp_E h_1⟩)
theorem b145_33 {X : (Nat → Int) × Nat} {d : Nat} {s : mSt} {Q : mQ} {x1 : Int} {x2 : Int} {x3 : Int} {xt0 : Int} (h_1 : ¬ xt0 = 0 → Wp X d 145 38 [some (mR 0), some (mI x1), some (mI x2), some (mI x3), some (mR 18)] [] s Q) (h_2 : xt0 = 0 → Wp X d 145 36 [some (mR 0), some (mI x1), some (mI x2), some (mI x3), some (mR 18)] [] s Q) : Wp X d 145 33 [some (mR 0), some (mI x1), some (mI x2), some (mI x3), some (mR 18)] [mI xt0] s Q := Wp_step k145 f145_33 ⟨h_1, h_2⟩
theorem b145_36 {X : (Nat → Int) × Nat} {d : Nat} {s : mSt} {Q : mQ} {x1 : Int} {x2 : Int} {x3 : Int} (h_1 : Q (some (mI (-1))) s) : Wp X d 145 36 [some (mR 0), some (mI x1), some (mI x2), some (mI x3), some (mR 18)] [] s Q := Wp_step k145 f145_36 (Wp_step k145 f145_37 ⟨⟨rfl, trivial⟩, h_1⟩)
theorem b145_38 {X : (Nat → Int) × Nat} {d : Nat} {s : mSt} {Q : mQ} {x1 : Int} {x2 : Int} {x3 : Int} (h_1 : Sp X d 20 [mR 18, mI x2, mI x3] s (fun r s' => ∃ v : Int, r = some (mI v) ∧ Wp X (d + 1) 145 45 [some (mR 0), some (mI x1), some (mI x2), some (mI x3), some (mR 18)] [mI v] s' Q)) : Wp X (d + 1) 145 38 [some (mR 0), some (mI x1), some (mI x2), some (mI x3), some (mR 18)] [] s Q := Wp_step k145 f145_38 (Wp_step k145 f145_40 (Wp_step k145 f145_41 (Wp_step k145 f145_42 ⟨⟨kf_18, Nat.le_of_ble_eq_true rfl⟩, Nat.le_refl _, _, rfl, Sp_E h_1⟩)))
theorem b145_45 {X : (Nat → Int) × Nat} {d : Nat} {s : mSt} {Q : mQ} {x1 : Int} {x2 : Int} {x3 : Int} {xt0 : Int} (h_1 : xt0 = 0 → Wp X d 145 63 [some (mR 0), some (mI x1), some (mI x2), some (mI x3), some (mR 18)] [] s Q) (h_2 : ¬ xt0 = 0 → Wp X d 145 48 [some (mR 0), some (mI x1), some (mI x2), some (mI x3), some (mR 18)] [] s Q) : Wp X d 145 45 [some (mR 0), some (mI x1), some (mI x2), some (mI x3), some (mR 18)] [mI xt0] s Q := Wp_step k145 f145_45 ⟨h_1, h_2⟩
theorem b145_48 {X : (Nat → Int) × Nat} {d : Nat} {s : mSt} {Q : mQ} {x1 : Int} {x2 : Int} {x3 : Int} (h_1 : Sp X d 48 [mR 76, mR 18, mI x1, mI x2, mI x3] s (fun r s' => ∃ v : Int, r = some (mI v) ∧ Wp X (d + 1) 145 60 [some (mR 0), some (mI x1), some (mI x2), some (mI x3), some (mR 18)] [mI v] s' Q)) : Wp X (d + 1) 145 48 [some (mR 0), some (mI x1), some (mI x2), some (mI x3), some (mR 18)] [] s Q := Wp_step k145 f145_48 (Wp_step k145 f145_49 ⟨kf_0, 76, rf_0_13, Wp_step k145 f145_52 (Wp_step k145 f145_54 (Wp_step k145 f145_55 (Wp_step k145 f145_56 (Wp_step k145 f145_57 ⟨⟨kf_76, Nat.le_of_ble_eq_true rfl⟩, Nat.le_refl _, _, rfl, Sp_E h_1⟩))))⟩)
theorem b145_60 {X : (Nat → Int) × Nat} {d : Nat} {s : mSt} {Q : mQ} {x1 : Int} {x2 : Int} {x3 : Int} {xt0 : Int} (h_1 : Wp X d 145 65 [some (mR 0), some (mI x1), some (mI x2), some (mI x3), some (mR 18)] [mI xt0] s Q) : Wp X d 145 60 [some (mR 0), some (mI x1), some (mI x2), some (mI x3), some (mR 18)] [mI xt0] s Q := Wp_step k145 f145_60 (h_1)
theorem b145_63 {X : (Nat → Int) × Nat} {d : Nat} {s : mSt} {Q : mQ} {x1 : Int} {x2 : Int} {x3 : Int} (h_1 : Wp X d 145 65 [some (mR 0), some (mI x1), some (mI x2), some (mI x3), some (mR 18)] [mI (-2)] s Q) : Wp X d 145 63 [some (mR 0), some (mI x1), some (mI x2), some (mI x3), some (mR 18)] [] s Q := Wp_step k145 f145_63 (h_1)
theorem b145_65 {X : (Nat → Int) × Nat} {d : Nat} {s : mSt} {Q : mQ} {x1 : Int} {x2 : Int} {x3 : Int} {xt0 : Int} (h_1 : Q (some (mI xt0)) s) : Wp X d 145 65 [some (mR 0), some (mI x1), some (mI x2), some (mI x3), some (mR 18)] [mI xt0] s Q := Wp_step k145 f145_65 ⟨⟨rfl, trivial⟩, h_1⟩
theorem e145 {X : (Nat → Int) × Nat} {d : Nat} {s : mSt} {Q : mQ} {x1 : Int} {x2 : Int} {x3 : Int} (h : Wp X d 145 0 [some (mR 0), some (mI x1), some (mI x2), some (mI x3), none] [] s Q) : Sp X d 145 [mR 0, mI x1, mI x2, mI x3] s Q := Sp_of (show mCe 145 = 0 by decide +kernel) (by rw [show mML 145 = 5 by decide +kernel]; rfl) (Nat.le_trans (Nat.le_of_ble_eq_true (show Nat.ble (mArgs _).length 5 = true from rfl)) (show 5 ≤ mML 145 by decide +kernel)) h
-- 146 ClashDay.apart(II)I
theorem k146 : mRk 146 = 1 := by decide +kernel
theorem f146_0 : mFetch 146 0 = some (.aload_n 0, 1, 0, 0, 0, 0) := by decide +kernel
theorem f146_1 : mFetch 146 1 = some (.getfield 41, 3, 11, 5, 2, 1) := by decide +kernel
theorem f146_4 : mFetch 146 4 = some (.getfield 116, 3, 7, 1, 2, 0) := by decide +kernel
theorem f146_7 : mFetch 146 7 = some (.astore_n 3, 1, 0, 0, 0, 0) := by decide +kernel
theorem f146_8 : mFetch 146 8 = some (.aload_n 3, 1, 0, 0, 0, 0) := by decide +kernel
theorem f146_9 : mFetch 146 9 = some (.iload_n 1, 1, 0, 0, 0, 0) := by decide +kernel
theorem f146_10 : mFetch 146 10 = some (.invokevirtual 213, 3, 9, 0, 2, 0) := by decide +kernel
theorem f146_13 : mFetch 146 13 = some (.ifCond .eq 16, 3, 29, 0, 0, 0) := by decide +kernel
theorem f146_16 : mFetch 146 16 = some (.aload_n 3, 1, 0, 0, 0, 0) := by decide +kernel
theorem f146_17 : mFetch 146 17 = some (.iload_n 2, 1, 0, 0, 0, 0) := by decide +kernel
theorem f146_18 : mFetch 146 18 = some (.invokevirtual 213, 3, 9, 0, 2, 0) := by decide +kernel
theorem f146_21 : mFetch 146 21 = some (.ifCond .eq 8, 3, 29, 0, 0, 0) := by decide +kernel
theorem f146_24 : mFetch 146 24 = some (.iload_n 1, 1, 0, 0, 0, 0) := by decide +kernel
theorem f146_25 : mFetch 146 25 = some (.iload_n 2, 1, 0, 0, 0, 0) := by decide +kernel
theorem f146_26 : mFetch 146 26 = some (.if_icmp .ne 5, 3, 31, 0, 0, 0) := by decide +kernel
theorem f146_29 : mFetch 146 29 = some (.iconst (-1), 1, 0, 0, 0, 0) := by decide +kernel
theorem f146_30 : mFetch 146 30 = some (.ireturn, 1, 0, 0, 0, 0) := by decide +kernel
theorem f146_31 : mFetch 146 31 = some (.aload_n 3, 1, 0, 0, 0, 0) := by decide +kernel
theorem f146_32 : mFetch 146 32 = some (.iload_n 1, 1, 0, 0, 0, 0) := by decide +kernel
theorem f146_33 : mFetch 146 33 = some (.iload_n 2, 1, 0, 0, 0, 0) := by decide +kernel
theorem f146_34 : mFetch 146 34 = some (.invokevirtual 291, 3, 29, 0, 3, 0) := by decide +kernel
theorem f146_37 : mFetch 146 37 = some (.invokestatic 223, 3, 309, 0, 1, 99) := by decide +kernel
theorem f146_40 : mFetch 146 40 = some (.ireturn, 1, 0, 0, 0, 0) := by decide +kernel
theorem b146_0 {X : (Nat → Int) × Nat} {d : Nat} {s : mSt} {Q : mQ} {x1 : Int} {x2 : Int} {l3 : Option mV} (h_1 : Sp X d 9 [mR 18, mI x1] s (fun r s' => ∃ v : Int, r = some (mI v) ∧ Wp X (d + 1) 146 13 [some (mR 0), some (mI x1), some (mI x2), some (mR 18)] [mI v] s' Q)) : Wp X (d + 1) 146 0 [some (mR 0), some (mI x1), some (mI x2), l3] [] s Q := Wp_step k146 f146_0 (Wp_step k146 f146_1 ⟨kf_0, 7, rf_0_5, Wp_step k146 f146_4 ⟨kf_7, 18, rf_7_1, Wp_step k146 f146_7 (Wp_step k146 f146_8 (Wp_step k146 f146_9 (Wp_step k146 f146_10 ⟨⟨kf_18, Nat.le_of_ble_eq_true rfl⟩, Nat.le_refl _, _, rfl, Sp_E h_1⟩)))⟩⟩)
theorem b146_13 {X : (Nat → Int) × Nat} {d : Nat} {s : mSt} {Q : mQ} {x1 : Int} {x2 : Int} {xt0 : Int} (h_1 : xt0 = 0 → Wp X d 146 29 [some (mR 0), some (mI x1), some (mI x2), some (mR 18)] [] s Q) (h_2 : ¬ xt0 = 0 → Wp X d 146 16 [some (mR 0), some (mI x1), some (mI x2), some (mR 18)] [] s Q) : Wp X d 146 13 [some (mR 0), some (mI x1), some (mI x2), some (mR 18)] [mI xt0] s Q := Wp_step k146 f146_13 ⟨h_1, h_2⟩
theorem b146_16 {X : (Nat → Int) × Nat} {d : Nat} {s : mSt} {Q : mQ} {x1 : Int} {x2 : Int} (h_1 : Sp X d 9 [mR 18, mI x2] s (fun r s' => ∃ v : Int, r = some (mI v) ∧ Wp X (d + 1) 146 21 [some (mR 0), some (mI x1), some (mI x2), some (mR 18)] [mI v] s' Q)) : Wp X (d + 1) 146 16 [some (mR 0), some (mI x1), some (mI x2), some (mR 18)] [] s Q := Wp_step k146 f146_16 (Wp_step k146 f146_17 (Wp_step k146 f146_18 ⟨⟨kf_18, Nat.le_of_ble_eq_true rfl⟩, Nat.le_refl _, _, rfl, Sp_E h_1⟩))
theorem b146_21 {X : (Nat → Int) × Nat} {d : Nat} {s : mSt} {Q : mQ} {x1 : Int} {x2 : Int} {xt0 : Int} (h_1 : xt0 = 0 → Wp X d 146 29 [some (mR 0), some (mI x1), some (mI x2), some (mR 18)] [] s Q) (h_2 : ¬ xt0 = 0 → Wp X d 146 24 [some (mR 0), some (mI x1), some (mI x2), some (mR 18)] [] s Q) : Wp X d 146 21 [some (mR 0), some (mI x1), some (mI x2), some (mR 18)] [mI xt0] s Q := Wp_step k146 f146_21 ⟨h_1, h_2⟩
theorem b146_24 {X : (Nat → Int) × Nat} {d : Nat} {s : mSt} {Q : mQ} {x1 : Int} {x2 : Int} (h_1 : ¬ x1 = x2 → Wp X d 146 31 [some (mR 0), some (mI x1), some (mI x2), some (mR 18)] [] s Q) (h_2 : x1 = x2 → Wp X d 146 29 [some (mR 0), some (mI x1), some (mI x2), some (mR 18)] [] s Q) : Wp X d 146 24 [some (mR 0), some (mI x1), some (mI x2), some (mR 18)] [] s Q := Wp_step k146 f146_24 (Wp_step k146 f146_25 (Wp_step k146 f146_26 ⟨h_1, h_2⟩))
theorem b146_29 {X : (Nat → Int) × Nat} {d : Nat} {s : mSt} {Q : mQ} {x1 : Int} {x2 : Int} (h_1 : Q (some (mI (-1))) s) : Wp X d 146 29 [some (mR 0), some (mI x1), some (mI x2), some (mR 18)] [] s Q := Wp_step k146 f146_29 (Wp_step k146 f146_30 ⟨⟨rfl, trivial⟩, h_1⟩)
theorem b146_31 {X : (Nat → Int) × Nat} {d : Nat} {s : mSt} {Q : mQ} {x1 : Int} {x2 : Int} (h_1 : Sp X d 29 [mR 18, mI x1, mI x2] s (fun r s' => ∃ v : Int, r = some (mI v) ∧ Wp X (d + 1) 146 37 [some (mR 0), some (mI x1), some (mI x2), some (mR 18)] [mI v] s' Q)) : Wp X (d + 1) 146 31 [some (mR 0), some (mI x1), some (mI x2), some (mR 18)] [] s Q := Wp_step k146 f146_31 (Wp_step k146 f146_32 (Wp_step k146 f146_33 (Wp_step k146 f146_34 ⟨⟨kf_18, Nat.le_of_ble_eq_true rfl⟩, Nat.le_refl _, _, rfl, Sp_E h_1⟩)))
theorem b146_37 {X : (Nat → Int) × Nat} {d : Nat} {s : mSt} {Q : mQ} {x1 : Int} {x2 : Int} {xt0 : Int} (h_1 : Sp X d 309 [mI xt0] s (fun r s' => ∃ v : Int, r = some (mI v) ∧ Wp X (d + 1) 146 40 [some (mR 0), some (mI x1), some (mI x2), some (mR 18)] [mI v] s' Q)) : Wp X (d + 1) 146 37 [some (mR 0), some (mI x1), some (mI x2), some (mR 18)] [mI xt0] s Q := Wp_step k146 f146_37 ⟨⟨Nat.le_of_ble_eq_true rfl, Nat.le_refl _⟩, _, rfl, Sp_E h_1⟩
theorem b146_40 {X : (Nat → Int) × Nat} {d : Nat} {s : mSt} {Q : mQ} {x1 : Int} {x2 : Int} {xt0 : Int} (h_1 : Q (some (mI xt0)) s) : Wp X d 146 40 [some (mR 0), some (mI x1), some (mI x2), some (mR 18)] [mI xt0] s Q := Wp_step k146 f146_40 ⟨⟨rfl, trivial⟩, h_1⟩
theorem e146 {X : (Nat → Int) × Nat} {d : Nat} {s : mSt} {Q : mQ} {x1 : Int} {x2 : Int} (h : Wp X d 146 0 [some (mR 0), some (mI x1), some (mI x2), none] [] s Q) : Sp X d 146 [mR 0, mI x1, mI x2] s Q := Sp_of (show mCe 146 = 0 by decide +kernel) (by rw [show mML 146 = 4 by decide +kernel]; rfl) (Nat.le_trans (Nat.le_of_ble_eq_true (show Nat.ble (mArgs _).length 4 = true from rfl)) (show 4 ≤ mML 146 by decide +kernel)) h
-- 147 ClashDay.best(I)I
theorem k147 : mRk 147 = 1 := by decide +kernel
theorem f147_0 : mFetch 147 0 = some (.aload_n 0, 1, 0, 0, 0, 0) := by decide +kernel
theorem f147_1 : mFetch 147 1 = some (.getfield 41, 3, 11, 5, 2, 1) := by decide +kernel
theorem f147_4 : mFetch 147 4 = some (.getfield 116, 3, 7, 1, 2, 0) := by decide +kernel
theorem f147_7 : mFetch 147 7 = some (.invokevirtual 170, 3, 6, 0, 1, 0) := by decide +kernel
theorem f147_10 : mFetch 147 10 = some (.ifCond .eq 12, 3, 22, 0, 0, 0) := by decide +kernel
theorem f147_13 : mFetch 147 13 = some (.iload_n 1, 1, 0, 0, 0, 0) := by decide +kernel
theorem f147_14 : mFetch 147 14 = some (.ifCond .lt 8, 3, 22, 0, 0, 0) := by decide +kernel
theorem f147_17 : mFetch 147 17 = some (.iload_n 1, 1, 0, 0, 0, 0) := by decide +kernel
theorem f147_18 : mFetch 147 18 = some (.iconst 5, 1, 0, 0, 0, 0) := by decide +kernel
theorem f147_19 : mFetch 147 19 = some (.if_icmp .le 6, 3, 25, 0, 0, 0) := by decide +kernel
theorem f147_22 : mFetch 147 22 = some (.bipush (-2), 2, 0, 0, 0, 0) := by decide +kernel
theorem f147_24 : mFetch 147 24 = some (.ireturn, 1, 0, 0, 0, 0) := by decide +kernel
theorem f147_25 : mFetch 147 25 = some (.aload_n 0, 1, 0, 0, 0, 0) := by decide +kernel
theorem f147_26 : mFetch 147 26 = some (.getfield 81, 3, 11, 12, 2, 1) := by decide +kernel
theorem f147_29 : mFetch 147 29 = some (.aload_n 0, 1, 0, 0, 0, 0) := by decide +kernel
theorem f147_30 : mFetch 147 30 = some (.getfield 41, 3, 11, 5, 2, 1) := by decide +kernel
theorem f147_33 : mFetch 147 33 = some (.getfield 116, 3, 7, 1, 2, 0) := by decide +kernel
theorem f147_36 : mFetch 147 36 = some (.invokevirtual 294, 3, 97, 0, 2, 9) := by decide +kernel
theorem f147_39 : mFetch 147 39 = some (.iload_n 1, 1, 0, 0, 0, 0) := by decide +kernel
theorem f147_40 : mFetch 147 40 = some (.lookupswitch 44 #[(0, 28), (1, 36)], 28, 0, 0, 0, 0) := by decide +kernel
theorem f147_68 : mFetch 147 68 = some (.aload_n 0, 1, 0, 0, 0, 0) := by decide +kernel
theorem f147_69 : mFetch 147 69 = some (.getfield 81, 3, 11, 12, 2, 1) := by decide +kernel
theorem f147_72 : mFetch 147 72 = some (.getfield 297, 3, 9, 3, 0, 0) := by decide +kernel
theorem f147_75 : mFetch 147 75 = some (.ireturn, 1, 0, 0, 0, 0) := by decide +kernel
theorem f147_76 : mFetch 147 76 = some (.aload_n 0, 1, 0, 0, 0, 0) := by decide +kernel
theorem f147_77 : mFetch 147 77 = some (.getfield 81, 3, 11, 12, 2, 1) := by decide +kernel
theorem f147_80 : mFetch 147 80 = some (.getfield 300, 3, 9, 4, 0, 0) := by decide +kernel
theorem f147_83 : mFetch 147 83 = some (.ireturn, 1, 0, 0, 0, 0) := by decide +kernel
theorem f147_84 : mFetch 147 84 = some (.aload_n 0, 1, 0, 0, 0, 0) := by decide +kernel
theorem f147_85 : mFetch 147 85 = some (.getfield 81, 3, 11, 12, 2, 1) := by decide +kernel
theorem f147_88 : mFetch 147 88 = some (.getfield 303, 3, 9, 5, 2, 0) := by decide +kernel
theorem f147_91 : mFetch 147 91 = some (.iload_n 1, 1, 0, 0, 0, 0) := by decide +kernel
theorem f147_92 : mFetch 147 92 = some (.iconst 2, 1, 0, 0, 0, 0) := by decide +kernel
theorem f147_93 : mFetch 147 93 = some (.isub, 1, 0, 0, 0, 0) := by decide +kernel
theorem f147_94 : mFetch 147 94 = some (.iaload, 1, 0, 0, 0, 0) := by decide +kernel
theorem f147_95 : mFetch 147 95 = some (.ireturn, 1, 0, 0, 0, 0) := by decide +kernel
theorem b147_0 {X : (Nat → Int) × Nat} {d : Nat} {s : mSt} {Q : mQ} {x1 : Int} (h_1 : Sp X d 6 [mR 18] s (fun r s' => ∃ v : Int, r = some (mI v) ∧ Wp X (d + 1) 147 10 [some (mR 0), some (mI x1)] [mI v] s' Q)) : Wp X (d + 1) 147 0 [some (mR 0), some (mI x1)] [] s Q := Wp_step k147 f147_0 (Wp_step k147 f147_1 ⟨kf_0, 7, rf_0_5, Wp_step k147 f147_4 ⟨kf_7, 18, rf_7_1, Wp_step k147 f147_7 ⟨⟨kf_18, Nat.le_of_ble_eq_true rfl⟩, Nat.le_refl _, _, rfl, Sp_E h_1⟩⟩⟩)
theorem b147_10 {X : (Nat → Int) × Nat} {d : Nat} {s : mSt} {Q : mQ} {x1 : Int} {xt0 : Int} (h_1 : xt0 = 0 → Wp X d 147 22 [some (mR 0), some (mI x1)] [] s Q) (h_2 : ¬ xt0 = 0 → Wp X d 147 13 [some (mR 0), some (mI x1)] [] s Q) : Wp X d 147 10 [some (mR 0), some (mI x1)] [mI xt0] s Q := Wp_step k147 f147_10 ⟨h_1, h_2⟩
theorem b147_13 {X : (Nat → Int) × Nat} {d : Nat} {s : mSt} {Q : mQ} {x1 : Int} (h_1 : x1 < 0 → Wp X d 147 22 [some (mR 0), some (mI x1)] [] s Q) (h_2 : ¬ x1 < 0 → Wp X d 147 17 [some (mR 0), some (mI x1)] [] s Q) : Wp X d 147 13 [some (mR 0), some (mI x1)] [] s Q := Wp_step k147 f147_13 (Wp_step k147 f147_14 ⟨h_1, h_2⟩)
theorem b147_17 {X : (Nat → Int) × Nat} {d : Nat} {s : mSt} {Q : mQ} {x1 : Int} (h_1 : x1 ≤ 5 → Wp X d 147 25 [some (mR 0), some (mI x1)] [] s Q) (h_2 : ¬ x1 ≤ 5 → Wp X d 147 22 [some (mR 0), some (mI x1)] [] s Q) : Wp X d 147 17 [some (mR 0), some (mI x1)] [] s Q := Wp_step k147 f147_17 (Wp_step k147 f147_18 (Wp_step k147 f147_19 ⟨h_1, h_2⟩))
theorem b147_22 {X : (Nat → Int) × Nat} {d : Nat} {s : mSt} {Q : mQ} {x1 : Int} (h_1 : Q (some (mI (-2))) s) : Wp X d 147 22 [some (mR 0), some (mI x1)] [] s Q := Wp_step k147 f147_22 (Wp_step k147 f147_24 ⟨⟨rfl, trivial⟩, h_1⟩)
theorem b147_25 {X : (Nat → Int) × Nat} {d : Nat} {s : mSt} {Q : mQ} {x1 : Int} (h_1 : Sp X d 97 [mR 53, mR 18] s (fun r s' => r = none ∧ Wp X (d + 1) 147 39 [some (mR 0), some (mI x1)] [] s' Q)) : Wp X (d + 1) 147 25 [some (mR 0), some (mI x1)] [] s Q := Wp_step k147 f147_25 (Wp_step k147 f147_26 ⟨kf_0, 53, rf_0_12, Wp_step k147 f147_29 (Wp_step k147 f147_30 ⟨kf_0, 7, rf_0_5, Wp_step k147 f147_33 ⟨kf_7, 18, rf_7_1, Wp_step k147 f147_36 ⟨⟨kf_53, Nat.le_of_ble_eq_true rfl⟩, Nat.le_refl _, _, rfl, Sp_V h_1⟩⟩⟩)⟩)
theorem b147_39 {X : (Nat → Int) × Nat} {d : Nat} {s : mSt} {Q : mQ} {x1 : Int} (h_1 : x1 = 0 → Wp X d 147 68 [some (mR 0), some (mI x1)] [] s Q) (h_2 : x1 = 1 → Wp X d 147 76 [some (mR 0), some (mI x1)] [] s Q) (h_3 : ¬ x1 = 0 → ¬ x1 = 1 → Wp X d 147 84 [some (mR 0), some (mI x1)] [] s Q) : Wp X d 147 39 [some (mR 0), some (mI x1)] [] s Q := Wp_step k147 f147_39 (Wp_step k147 f147_40 (by
    show Wp X d 147 (tL 40 44 #[(0, 28), (1, 36)] x1) [some (mR 0), some (mI x1)] [] s Q
    by_cases q0 : x1 = 0
    · have e : tL 40 44 #[(0, 28), (1, 36)] x1 = 68 := by rw [q0]; decide +kernel
      rw [e]; exact h_1 q0
    by_cases q1 : x1 = 1
    · have e : tL 40 44 #[(0, 28), (1, 36)] x1 = 76 := by rw [q1]; decide +kernel
      rw [e]; exact h_2 q1
    have e : tL 40 44 #[(0, 28), (1, 36)] x1 = 84 := by simp [tL, Op.lookupswitch.offset, q0, Ne.symm q0, q1, Ne.symm q1]
    rw [e]; exact h_3 q0 q1))
theorem b147_68 {X : (Nat → Int) × Nat} {d : Nat} {s : mSt} {Q : mQ} {x1 : Int} (h_1 : Q (some (mI (s 53 3))) s) : Wp X d 147 68 [some (mR 0), some (mI x1)] [] s Q := Wp_step k147 f147_68 (Wp_step k147 f147_69 ⟨kf_0, 53, rf_0_12, Wp_step k147 f147_72 ⟨kf_53, Wp_step k147 f147_75 ⟨⟨rfl, trivial⟩, h_1⟩⟩⟩)
theorem b147_76 {X : (Nat → Int) × Nat} {d : Nat} {s : mSt} {Q : mQ} {x1 : Int} (h_1 : Q (some (mI (s 53 4))) s) : Wp X d 147 76 [some (mR 0), some (mI x1)] [] s Q := Wp_step k147 f147_76 (Wp_step k147 f147_77 ⟨kf_0, 53, rf_0_12, Wp_step k147 f147_80 ⟨kf_53, Wp_step k147 f147_83 ⟨⟨rfl, trivial⟩, h_1⟩⟩⟩)
theorem b147_84 {X : (Nat → Int) × Nat} {d : Nat} {s : mSt} {Q : mQ} {x1 : Int} (h_1 : 0 ≤ (w32 (x1 - 2)) ∧ (w32 (x1 - 2)) < 4) (h_2 : Q (some (mI (s 64 (w32 (x1 - 2)).toNat))) s) : Wp X d 147 84 [some (mR 0), some (mI x1)] [] s Q := Wp_step k147 f147_84 (Wp_step k147 f147_85 ⟨kf_0, 53, rf_0_12, Wp_step k147 f147_88 ⟨kf_53, 64, rf_53_5, Wp_step k147 f147_91 (Wp_step k147 f147_92 (Wp_step k147 f147_93 (Wp_step k147 f147_94 ⟨4, af_64, h_1, Wp_step k147 f147_95 ⟨⟨rfl, trivial⟩, h_2⟩⟩)))⟩⟩)
theorem e147 {X : (Nat → Int) × Nat} {d : Nat} {s : mSt} {Q : mQ} {x1 : Int} (h : Wp X d 147 0 [some (mR 0), some (mI x1)] [] s Q) : Sp X d 147 [mR 0, mI x1] s Q := Sp_of (show mCe 147 = 0 by decide +kernel) (by rw [show mML 147 = 2 by decide +kernel]; rfl) (Nat.le_trans (Nat.le_of_ble_eq_true (show Nat.ble (mArgs _).length 2 = true from rfl)) (show 2 ≤ mML 147 by decide +kernel)) h
-- 148 ClashDay.harm(II)I
theorem k148 : mRk 148 = 1 := by decide +kernel
theorem f148_0 : mFetch 148 0 = some (.aload_n 0, 1, 0, 0, 0, 0) := by decide +kernel
theorem f148_1 : mFetch 148 1 = some (.getfield 41, 3, 11, 5, 2, 1) := by decide +kernel
theorem f148_4 : mFetch 148 4 = some (.getfield 116, 3, 7, 1, 2, 0) := by decide +kernel
theorem f148_7 : mFetch 148 7 = some (.invokevirtual 170, 3, 6, 0, 1, 0) := by decide +kernel
theorem f148_10 : mFetch 148 10 = some (.ifCond .eq 23, 3, 33, 0, 0, 0) := by decide +kernel
theorem f148_13 : mFetch 148 13 = some (.iload_n 1, 1, 0, 0, 0, 0) := by decide +kernel
theorem f148_14 : mFetch 148 14 = some (.iconst 1, 1, 0, 0, 0, 0) := by decide +kernel
theorem f148_15 : mFetch 148 15 = some (.if_icmp .lt 18, 3, 33, 0, 0, 0) := by decide +kernel
theorem f148_18 : mFetch 148 18 = some (.iload_n 1, 1, 0, 0, 0, 0) := by decide +kernel
theorem f148_19 : mFetch 148 19 = some (.bipush 9, 2, 0, 0, 0, 0) := by decide +kernel
theorem f148_21 : mFetch 148 21 = some (.if_icmp .gt 12, 3, 33, 0, 0, 0) := by decide +kernel
theorem f148_24 : mFetch 148 24 = some (.iload_n 2, 1, 0, 0, 0, 0) := by decide +kernel
theorem f148_25 : mFetch 148 25 = some (.ifCond .lt 8, 3, 33, 0, 0, 0) := by decide +kernel
theorem f148_28 : mFetch 148 28 = some (.iload_n 2, 1, 0, 0, 0, 0) := by decide +kernel
theorem f148_29 : mFetch 148 29 = some (.iconst 1, 1, 0, 0, 0, 0) := by decide +kernel
theorem f148_30 : mFetch 148 30 = some (.if_icmp .le 5, 3, 35, 0, 0, 0) := by decide +kernel
theorem f148_33 : mFetch 148 33 = some (.iconst (-1), 1, 0, 0, 0, 0) := by decide +kernel
theorem f148_34 : mFetch 148 34 = some (.ireturn, 1, 0, 0, 0, 0) := by decide +kernel
theorem f148_35 : mFetch 148 35 = some (.aload_n 0, 1, 0, 0, 0, 0) := by decide +kernel
theorem f148_36 : mFetch 148 36 = some (.getfield 81, 3, 11, 12, 2, 1) := by decide +kernel
theorem f148_39 : mFetch 148 39 = some (.aload_n 0, 1, 0, 0, 0, 0) := by decide +kernel
theorem f148_40 : mFetch 148 40 = some (.getfield 41, 3, 11, 5, 2, 1) := by decide +kernel
theorem f148_43 : mFetch 148 43 = some (.getfield 116, 3, 7, 1, 2, 0) := by decide +kernel
theorem f148_46 : mFetch 148 46 = some (.iload_n 1, 1, 0, 0, 0, 0) := by decide +kernel
theorem f148_47 : mFetch 148 47 = some (.invokevirtual 306, 3, 99, 0, 3, 9) := by decide +kernel
theorem f148_50 : mFetch 148 50 = some (.istore_n 3, 1, 0, 0, 0, 0) := by decide +kernel
theorem f148_51 : mFetch 148 51 = some (.iload_n 3, 1, 0, 0, 0, 0) := by decide +kernel
theorem f148_52 : mFetch 148 52 = some (.iconst (-1), 1, 0, 0, 0, 0) := by decide +kernel
theorem f148_53 : mFetch 148 53 = some (.if_icmp .ne 6, 3, 59, 0, 0, 0) := by decide +kernel
theorem f148_56 : mFetch 148 56 = some (.bipush (-2), 2, 0, 0, 0, 0) := by decide +kernel
theorem f148_58 : mFetch 148 58 = some (.ireturn, 1, 0, 0, 0, 0) := by decide +kernel
theorem f148_59 : mFetch 148 59 = some (.iload_n 2, 1, 0, 0, 0, 0) := by decide +kernel
theorem f148_60 : mFetch 148 60 = some (.ifCond .ne 7, 3, 67, 0, 0, 0) := by decide +kernel
theorem f148_63 : mFetch 148 63 = some (.iload_n 3, 1, 0, 0, 0, 0) := by decide +kernel
theorem f148_64 : mFetch 148 64 = some (.goto 19, 3, 83, 0, 0, 0) := by decide +kernel
theorem f148_67 : mFetch 148 67 = some (.aload_n 0, 1, 0, 0, 0, 0) := by decide +kernel
theorem f148_68 : mFetch 148 68 = some (.getfield 81, 3, 11, 12, 2, 1) := by decide +kernel
theorem f148_71 : mFetch 148 71 = some (.aload_n 0, 1, 0, 0, 0, 0) := by decide +kernel
theorem f148_72 : mFetch 148 72 = some (.getfield 41, 3, 11, 5, 2, 1) := by decide +kernel
theorem f148_75 : mFetch 148 75 = some (.getfield 116, 3, 7, 1, 2, 0) := by decide +kernel
theorem f148_78 : mFetch 148 78 = some (.iload_n 3, 1, 0, 0, 0, 0) := by decide +kernel
theorem f148_79 : mFetch 148 79 = some (.iload_n 1, 1, 0, 0, 0, 0) := by decide +kernel
theorem f148_80 : mFetch 148 80 = some (.invokevirtual 309, 3, 100, 0, 4, 9) := by decide +kernel
theorem f148_83 : mFetch 148 83 = some (.ireturn, 1, 0, 0, 0, 0) := by decide +kernel
theorem b148_0 {X : (Nat → Int) × Nat} {d : Nat} {s : mSt} {Q : mQ} {x1 : Int} {x2 : Int} {l3 : Option mV} (h_1 : Sp X d 6 [mR 18] s (fun r s' => ∃ v : Int, r = some (mI v) ∧ Wp X (d + 1) 148 10 [some (mR 0), some (mI x1), some (mI x2), l3] [mI v] s' Q)) : Wp X (d + 1) 148 0 [some (mR 0), some (mI x1), some (mI x2), l3] [] s Q := Wp_step k148 f148_0 (Wp_step k148 f148_1 ⟨kf_0, 7, rf_0_5, Wp_step k148 f148_4 ⟨kf_7, 18, rf_7_1, Wp_step k148 f148_7 ⟨⟨kf_18, Nat.le_of_ble_eq_true rfl⟩, Nat.le_refl _, _, rfl, Sp_E h_1⟩⟩⟩)
theorem b148_10 {X : (Nat → Int) × Nat} {d : Nat} {s : mSt} {Q : mQ} {x1 : Int} {x2 : Int} {l3 : Option mV} {xt0 : Int} (h_1 : xt0 = 0 → Wp X d 148 33 [some (mR 0), some (mI x1), some (mI x2), l3] [] s Q) (h_2 : ¬ xt0 = 0 → Wp X d 148 13 [some (mR 0), some (mI x1), some (mI x2), l3] [] s Q) : Wp X d 148 10 [some (mR 0), some (mI x1), some (mI x2), l3] [mI xt0] s Q := Wp_step k148 f148_10 ⟨h_1, h_2⟩
theorem b148_13 {X : (Nat → Int) × Nat} {d : Nat} {s : mSt} {Q : mQ} {x1 : Int} {x2 : Int} {l3 : Option mV} (h_1 : x1 < 1 → Wp X d 148 33 [some (mR 0), some (mI x1), some (mI x2), l3] [] s Q) (h_2 : ¬ x1 < 1 → Wp X d 148 18 [some (mR 0), some (mI x1), some (mI x2), l3] [] s Q) : Wp X d 148 13 [some (mR 0), some (mI x1), some (mI x2), l3] [] s Q := Wp_step k148 f148_13 (Wp_step k148 f148_14 (Wp_step k148 f148_15 ⟨h_1, h_2⟩))
theorem b148_18 {X : (Nat → Int) × Nat} {d : Nat} {s : mSt} {Q : mQ} {x1 : Int} {x2 : Int} {l3 : Option mV} (h_1 : 9 < x1 → Wp X d 148 33 [some (mR 0), some (mI x1), some (mI x2), l3] [] s Q) (h_2 : ¬ 9 < x1 → Wp X d 148 24 [some (mR 0), some (mI x1), some (mI x2), l3] [] s Q) : Wp X d 148 18 [some (mR 0), some (mI x1), some (mI x2), l3] [] s Q := Wp_step k148 f148_18 (Wp_step k148 f148_19 (Wp_step k148 f148_21 ⟨h_1, h_2⟩))
theorem b148_24 {X : (Nat → Int) × Nat} {d : Nat} {s : mSt} {Q : mQ} {x1 : Int} {x2 : Int} {l3 : Option mV} (h_1 : x2 < 0 → Wp X d 148 33 [some (mR 0), some (mI x1), some (mI x2), l3] [] s Q) (h_2 : ¬ x2 < 0 → Wp X d 148 28 [some (mR 0), some (mI x1), some (mI x2), l3] [] s Q) : Wp X d 148 24 [some (mR 0), some (mI x1), some (mI x2), l3] [] s Q := Wp_step k148 f148_24 (Wp_step k148 f148_25 ⟨h_1, h_2⟩)
theorem b148_28 {X : (Nat → Int) × Nat} {d : Nat} {s : mSt} {Q : mQ} {x1 : Int} {x2 : Int} {l3 : Option mV} (h_1 : x2 ≤ 1 → Wp X d 148 35 [some (mR 0), some (mI x1), some (mI x2), l3] [] s Q) (h_2 : ¬ x2 ≤ 1 → Wp X d 148 33 [some (mR 0), some (mI x1), some (mI x2), l3] [] s Q) : Wp X d 148 28 [some (mR 0), some (mI x1), some (mI x2), l3] [] s Q := Wp_step k148 f148_28 (Wp_step k148 f148_29 (Wp_step k148 f148_30 ⟨h_1, h_2⟩))
theorem b148_33 {X : (Nat → Int) × Nat} {d : Nat} {s : mSt} {Q : mQ} {x1 : Int} {x2 : Int} {l3 : Option mV} (h_1 : Q (some (mI (-1))) s) : Wp X d 148 33 [some (mR 0), some (mI x1), some (mI x2), l3] [] s Q := Wp_step k148 f148_33 (Wp_step k148 f148_34 ⟨⟨rfl, trivial⟩, h_1⟩)
theorem b148_35 {X : (Nat → Int) × Nat} {d : Nat} {s : mSt} {Q : mQ} {x1 : Int} {x2 : Int} {l3 : Option mV} (h_1 : Sp X d 99 [mR 53, mR 18, mI x1] s (fun r s' => ∃ v : Int, r = some (mI v) ∧ Wp X (d + 1) 148 50 [some (mR 0), some (mI x1), some (mI x2), l3] [mI v] s' Q)) : Wp X (d + 1) 148 35 [some (mR 0), some (mI x1), some (mI x2), l3] [] s Q := Wp_step k148 f148_35 (Wp_step k148 f148_36 ⟨kf_0, 53, rf_0_12, Wp_step k148 f148_39 (Wp_step k148 f148_40 ⟨kf_0, 7, rf_0_5, Wp_step k148 f148_43 ⟨kf_7, 18, rf_7_1, Wp_step k148 f148_46 (Wp_step k148 f148_47 ⟨⟨kf_53, Nat.le_of_ble_eq_true rfl⟩, Nat.le_refl _, _, rfl, Sp_E h_1⟩)⟩⟩)⟩)
theorem b148_50 {X : (Nat → Int) × Nat} {d : Nat} {s : mSt} {Q : mQ} {x1 : Int} {x2 : Int} {l3 : Option mV} {xt0 : Int} (h_1 : ¬ xt0 = (-1) → Wp X d 148 59 [some (mR 0), some (mI x1), some (mI x2), some (mI xt0)] [] s Q) (h_2 : xt0 = (-1) → Wp X d 148 56 [some (mR 0), some (mI x1), some (mI x2), some (mI xt0)] [] s Q) : Wp X d 148 50 [some (mR 0), some (mI x1), some (mI x2), l3] [mI xt0] s Q := Wp_step k148 f148_50 (Wp_step k148 f148_51 (Wp_step k148 f148_52 (Wp_step k148 f148_53 ⟨h_1, h_2⟩)))
theorem b148_56 {X : (Nat → Int) × Nat} {d : Nat} {s : mSt} {Q : mQ} {x1 : Int} {x2 : Int} {x3 : Int} (h_1 : Q (some (mI (-2))) s) : Wp X d 148 56 [some (mR 0), some (mI x1), some (mI x2), some (mI x3)] [] s Q := Wp_step k148 f148_56 (Wp_step k148 f148_58 ⟨⟨rfl, trivial⟩, h_1⟩)
theorem b148_59 {X : (Nat → Int) × Nat} {d : Nat} {s : mSt} {Q : mQ} {x1 : Int} {x2 : Int} {x3 : Int} (h_1 : ¬ x2 = 0 → Wp X d 148 67 [some (mR 0), some (mI x1), some (mI x2), some (mI x3)] [] s Q) (h_2 : x2 = 0 → Wp X d 148 63 [some (mR 0), some (mI x1), some (mI x2), some (mI x3)] [] s Q) : Wp X d 148 59 [some (mR 0), some (mI x1), some (mI x2), some (mI x3)] [] s Q := Wp_step k148 f148_59 (Wp_step k148 f148_60 ⟨h_1, h_2⟩)
theorem b148_63 {X : (Nat → Int) × Nat} {d : Nat} {s : mSt} {Q : mQ} {x1 : Int} {x2 : Int} {x3 : Int} (h_1 : Wp X d 148 83 [some (mR 0), some (mI x1), some (mI x2), some (mI x3)] [mI x3] s Q) : Wp X d 148 63 [some (mR 0), some (mI x1), some (mI x2), some (mI x3)] [] s Q := Wp_step k148 f148_63 (Wp_step k148 f148_64 (h_1))
theorem b148_67 {X : (Nat → Int) × Nat} {d : Nat} {s : mSt} {Q : mQ} {x1 : Int} {x2 : Int} {x3 : Int} (h_1 : Sp X d 100 [mR 53, mR 18, mI x3, mI x1] s (fun r s' => ∃ v : Int, r = some (mI v) ∧ Wp X (d + 1) 148 83 [some (mR 0), some (mI x1), some (mI x2), some (mI x3)] [mI v] s' Q)) : Wp X (d + 1) 148 67 [some (mR 0), some (mI x1), some (mI x2), some (mI x3)] [] s Q := Wp_step k148 f148_67 (Wp_step k148 f148_68 ⟨kf_0, 53, rf_0_12, Wp_step k148 f148_71 (Wp_step k148 f148_72 ⟨kf_0, 7, rf_0_5, Wp_step k148 f148_75 ⟨kf_7, 18, rf_7_1, Wp_step k148 f148_78 (Wp_step k148 f148_79 (Wp_step k148 f148_80 ⟨⟨kf_53, Nat.le_of_ble_eq_true rfl⟩, Nat.le_refl _, _, rfl, Sp_E h_1⟩))⟩⟩)⟩)
theorem b148_83 {X : (Nat → Int) × Nat} {d : Nat} {s : mSt} {Q : mQ} {x1 : Int} {x2 : Int} {x3 : Int} {xt0 : Int} (h_1 : Q (some (mI xt0)) s) : Wp X d 148 83 [some (mR 0), some (mI x1), some (mI x2), some (mI x3)] [mI xt0] s Q := Wp_step k148 f148_83 ⟨⟨rfl, trivial⟩, h_1⟩
theorem e148 {X : (Nat → Int) × Nat} {d : Nat} {s : mSt} {Q : mQ} {x1 : Int} {x2 : Int} (h : Wp X d 148 0 [some (mR 0), some (mI x1), some (mI x2), none] [] s Q) : Sp X d 148 [mR 0, mI x1, mI x2] s Q := Sp_of (show mCe 148 = 0 by decide +kernel) (by rw [show mML 148 = 4 by decide +kernel]; rfl) (Nat.le_trans (Nat.le_of_ble_eq_true (show Nat.ble (mArgs _).length 4 = true from rfl)) (show 4 ≤ mML 148 by decide +kernel)) h
-- 149 ClashDay.ahead(II)I
theorem k149 : mRk 149 = 1 := by decide +kernel
theorem f149_0 : mFetch 149 0 = some (.aload_n 0, 1, 0, 0, 0, 0) := by decide +kernel
theorem f149_1 : mFetch 149 1 = some (.getfield 41, 3, 11, 5, 2, 1) := by decide +kernel
theorem f149_4 : mFetch 149 4 = some (.getfield 116, 3, 7, 1, 2, 0) := by decide +kernel
theorem f149_7 : mFetch 149 7 = some (.invokevirtual 170, 3, 6, 0, 1, 0) := by decide +kernel
theorem f149_10 : mFetch 149 10 = some (.ifCond .eq 22, 3, 32, 0, 0, 0) := by decide +kernel
theorem f149_13 : mFetch 149 13 = some (.iload_n 1, 1, 0, 0, 0, 0) := by decide +kernel
theorem f149_14 : mFetch 149 14 = some (.ifCond .lt 18, 3, 32, 0, 0, 0) := by decide +kernel
theorem f149_17 : mFetch 149 17 = some (.iload_n 1, 1, 0, 0, 0, 0) := by decide +kernel
theorem f149_18 : mFetch 149 18 = some (.bipush 20, 2, 0, 0, 0, 0) := by decide +kernel
theorem f149_20 : mFetch 149 20 = some (.if_icmp .gt 12, 3, 32, 0, 0, 0) := by decide +kernel
theorem f149_23 : mFetch 149 23 = some (.iload_n 2, 1, 0, 0, 0, 0) := by decide +kernel
theorem f149_24 : mFetch 149 24 = some (.ifCond .lt 8, 3, 32, 0, 0, 0) := by decide +kernel
theorem f149_27 : mFetch 149 27 = some (.iload_n 2, 1, 0, 0, 0, 0) := by decide +kernel
theorem f149_28 : mFetch 149 28 = some (.iconst 2, 1, 0, 0, 0, 0) := by decide +kernel
theorem f149_29 : mFetch 149 29 = some (.if_icmp .le 5, 3, 34, 0, 0, 0) := by decide +kernel
theorem f149_32 : mFetch 149 32 = some (.iconst (-1), 1, 0, 0, 0, 0) := by decide +kernel
theorem f149_33 : mFetch 149 33 = some (.ireturn, 1, 0, 0, 0, 0) := by decide +kernel
theorem f149_34 : mFetch 149 34 = some (.aload_n 0, 1, 0, 0, 0, 0) := by decide +kernel
theorem f149_35 : mFetch 149 35 = some (.getfield 81, 3, 11, 12, 2, 1) := by decide +kernel
theorem f149_38 : mFetch 149 38 = some (.aload_n 0, 1, 0, 0, 0, 0) := by decide +kernel
theorem f149_39 : mFetch 149 39 = some (.getfield 41, 3, 11, 5, 2, 1) := by decide +kernel
theorem f149_42 : mFetch 149 42 = some (.getfield 116, 3, 7, 1, 2, 0) := by decide +kernel
theorem f149_45 : mFetch 149 45 = some (.aload_n 0, 1, 0, 0, 0, 0) := by decide +kernel
theorem f149_46 : mFetch 149 46 = some (.invokevirtual 194, 3, 164, 0, 1, 11) := by decide +kernel
theorem f149_49 : mFetch 149 49 = some (.iload_n 1, 1, 0, 0, 0, 0) := by decide +kernel
theorem f149_50 : mFetch 149 50 = some (.invokevirtual 313, 3, 101, 0, 4, 9) := by decide +kernel
theorem f149_53 : mFetch 149 53 = some (.astore_n 3, 1, 0, 0, 0, 0) := by decide +kernel
theorem f149_54 : mFetch 149 54 = some (.iload_n 2, 1, 0, 0, 0, 0) := by decide +kernel
theorem f149_55 : mFetch 149 55 = some (.lookupswitch 38 #[(0, 25), (1, 33)], 25, 0, 0, 0, 0) := by decide +kernel
theorem f149_80 : mFetch 149 80 = some (.aload_n 3, 1, 0, 0, 0, 0) := by decide +kernel
theorem f149_81 : mFetch 149 81 = some (.getfield 317, 3, 0, 5, 0, 0) := by decide +kernel
theorem f149_84 : mFetch 149 84 = some (.invokestatic 223, 3, 309, 0, 1, 99) := by decide +kernel
theorem f149_87 : mFetch 149 87 = some (.ireturn, 1, 0, 0, 0, 0) := by decide +kernel
theorem f149_88 : mFetch 149 88 = some (.aload_n 3, 1, 0, 0, 0, 0) := by decide +kernel
theorem f149_89 : mFetch 149 89 = some (.invokevirtual 320, 3, 22, 0, 1, 0) := by decide +kernel
theorem f149_92 : mFetch 149 92 = some (.ireturn, 1, 0, 0, 0, 0) := by decide +kernel
theorem f149_93 : mFetch 149 93 = some (.ldc_w 323, 3, 1073741823, 0, 0, 0) := by decide +kernel
theorem f149_96 : mFetch 149 96 = some (.aload_n 3, 1, 0, 0, 0, 0) := by decide +kernel
theorem f149_97 : mFetch 149 97 = some (.invokevirtual 324, 3, 18, 0, 1, 0) := by decide +kernel
theorem f149_100 : mFetch 149 100 = some (.iconst (-1), 1, 0, 0, 0, 0) := by decide +kernel
theorem f149_101 : mFetch 149 101 = some (.ixor, 1, 0, 0, 0, 0) := by decide +kernel
theorem f149_102 : mFetch 149 102 = some (.iand, 1, 0, 0, 0, 0) := by decide +kernel
theorem f149_103 : mFetch 149 103 = some (.ireturn, 1, 0, 0, 0, 0) := by decide +kernel
theorem b149_0 {X : (Nat → Int) × Nat} {d : Nat} {s : mSt} {Q : mQ} {x1 : Int} {x2 : Int} {l3 : Option mV} (h_1 : Sp X d 6 [mR 18] s (fun r s' => ∃ v : Int, r = some (mI v) ∧ Wp X (d + 1) 149 10 [some (mR 0), some (mI x1), some (mI x2), l3] [mI v] s' Q)) : Wp X (d + 1) 149 0 [some (mR 0), some (mI x1), some (mI x2), l3] [] s Q := Wp_step k149 f149_0 (Wp_step k149 f149_1 ⟨kf_0, 7, rf_0_5, Wp_step k149 f149_4 ⟨kf_7, 18, rf_7_1, Wp_step k149 f149_7 ⟨⟨kf_18, Nat.le_of_ble_eq_true rfl⟩, Nat.le_refl _, _, rfl, Sp_E h_1⟩⟩⟩)
theorem b149_10 {X : (Nat → Int) × Nat} {d : Nat} {s : mSt} {Q : mQ} {x1 : Int} {x2 : Int} {l3 : Option mV} {xt0 : Int} (h_1 : xt0 = 0 → Wp X d 149 32 [some (mR 0), some (mI x1), some (mI x2), l3] [] s Q) (h_2 : ¬ xt0 = 0 → Wp X d 149 13 [some (mR 0), some (mI x1), some (mI x2), l3] [] s Q) : Wp X d 149 10 [some (mR 0), some (mI x1), some (mI x2), l3] [mI xt0] s Q := Wp_step k149 f149_10 ⟨h_1, h_2⟩
theorem b149_13 {X : (Nat → Int) × Nat} {d : Nat} {s : mSt} {Q : mQ} {x1 : Int} {x2 : Int} {l3 : Option mV} (h_1 : x1 < 0 → Wp X d 149 32 [some (mR 0), some (mI x1), some (mI x2), l3] [] s Q) (h_2 : ¬ x1 < 0 → Wp X d 149 17 [some (mR 0), some (mI x1), some (mI x2), l3] [] s Q) : Wp X d 149 13 [some (mR 0), some (mI x1), some (mI x2), l3] [] s Q := Wp_step k149 f149_13 (Wp_step k149 f149_14 ⟨h_1, h_2⟩)
theorem b149_17 {X : (Nat → Int) × Nat} {d : Nat} {s : mSt} {Q : mQ} {x1 : Int} {x2 : Int} {l3 : Option mV} (h_1 : 20 < x1 → Wp X d 149 32 [some (mR 0), some (mI x1), some (mI x2), l3] [] s Q) (h_2 : ¬ 20 < x1 → Wp X d 149 23 [some (mR 0), some (mI x1), some (mI x2), l3] [] s Q) : Wp X d 149 17 [some (mR 0), some (mI x1), some (mI x2), l3] [] s Q := Wp_step k149 f149_17 (Wp_step k149 f149_18 (Wp_step k149 f149_20 ⟨h_1, h_2⟩))
theorem b149_23 {X : (Nat → Int) × Nat} {d : Nat} {s : mSt} {Q : mQ} {x1 : Int} {x2 : Int} {l3 : Option mV} (h_1 : x2 < 0 → Wp X d 149 32 [some (mR 0), some (mI x1), some (mI x2), l3] [] s Q) (h_2 : ¬ x2 < 0 → Wp X d 149 27 [some (mR 0), some (mI x1), some (mI x2), l3] [] s Q) : Wp X d 149 23 [some (mR 0), some (mI x1), some (mI x2), l3] [] s Q := Wp_step k149 f149_23 (Wp_step k149 f149_24 ⟨h_1, h_2⟩)
theorem b149_27 {X : (Nat → Int) × Nat} {d : Nat} {s : mSt} {Q : mQ} {x1 : Int} {x2 : Int} {l3 : Option mV} (h_1 : x2 ≤ 2 → Wp X d 149 34 [some (mR 0), some (mI x1), some (mI x2), l3] [] s Q) (h_2 : ¬ x2 ≤ 2 → Wp X d 149 32 [some (mR 0), some (mI x1), some (mI x2), l3] [] s Q) : Wp X d 149 27 [some (mR 0), some (mI x1), some (mI x2), l3] [] s Q := Wp_step k149 f149_27 (Wp_step k149 f149_28 (Wp_step k149 f149_29 ⟨h_1, h_2⟩))
theorem b149_32 {X : (Nat → Int) × Nat} {d : Nat} {s : mSt} {Q : mQ} {x1 : Int} {x2 : Int} {l3 : Option mV} (h_1 : Q (some (mI (-1))) s) : Wp X d 149 32 [some (mR 0), some (mI x1), some (mI x2), l3] [] s Q := Wp_step k149 f149_32 (Wp_step k149 f149_33 ⟨⟨rfl, trivial⟩, h_1⟩)
theorem b149_34 {X : (Nat → Int) × Nat} {d : Nat} {s : mSt} {Q : mQ} {x1 : Int} {x2 : Int} {l3 : Option mV} (h_1 : Sp X d 164 [mR 0] s (fun r s' => ∃ v : Option Nat, r = some (Sum.inr (Sum.inr (Sum.inl v))) ∧ Wp X (d + 1) 149 49 [some (mR 0), some (mI x1), some (mI x2), l3] [Sum.inr (Sum.inr (Sum.inl v)), mR 18, mR 53] s' Q)) : Wp X (d + 1) 149 34 [some (mR 0), some (mI x1), some (mI x2), l3] [] s Q := Wp_step k149 f149_34 (Wp_step k149 f149_35 ⟨kf_0, 53, rf_0_12, Wp_step k149 f149_38 (Wp_step k149 f149_39 ⟨kf_0, 7, rf_0_5, Wp_step k149 f149_42 ⟨kf_7, 18, rf_7_1, Wp_step k149 f149_45 (Wp_step k149 f149_46 ⟨⟨kf_0, Nat.le_of_ble_eq_true rfl⟩, Nat.le_refl _, _, rfl, Sp_E h_1⟩)⟩⟩)⟩)
theorem b149_49 {X : (Nat → Int) × Nat} {d : Nat} {s : mSt} {Q : mQ} {x1 : Int} {x2 : Int} {l3 : Option mV} {ot2 : Option Nat} (h_1 : Sp X d 101 [mR 53, mR 18, Sum.inr (Sum.inr (Sum.inl ot2)), mI x1] s (fun r s' => r = some (mR 54) ∧ Wp X (d + 1) 149 53 [some (mR 0), some (mI x1), some (mI x2), l3] [mR 54] s' Q)) : Wp X (d + 1) 149 49 [some (mR 0), some (mI x1), some (mI x2), l3] [Sum.inr (Sum.inr (Sum.inl ot2)), mR 18, mR 53] s Q := Wp_step k149 f149_49 (Wp_step k149 f149_50 ⟨⟨kf_53, Nat.le_of_ble_eq_true rfl⟩, Nat.le_refl _, _, rfl, Sp_B h_1⟩)
theorem b149_53 {X : (Nat → Int) × Nat} {d : Nat} {s : mSt} {Q : mQ} {x1 : Int} {x2 : Int} {l3 : Option mV} (h_1 : x2 = 0 → Wp X d 149 80 [some (mR 0), some (mI x1), some (mI x2), some (mR 54)] [] s Q) (h_2 : x2 = 1 → Wp X d 149 88 [some (mR 0), some (mI x1), some (mI x2), some (mR 54)] [] s Q) (h_3 : ¬ x2 = 0 → ¬ x2 = 1 → Wp X d 149 93 [some (mR 0), some (mI x1), some (mI x2), some (mR 54)] [] s Q) : Wp X d 149 53 [some (mR 0), some (mI x1), some (mI x2), l3] [mR 54] s Q := Wp_step k149 f149_53 (Wp_step k149 f149_54 (Wp_step k149 f149_55 (by
    show Wp X d 149 (tL 55 38 #[(0, 25), (1, 33)] x2) [some (mR 0), some (mI x1), some (mI x2), some (mR 54)] [] s Q
    by_cases q0 : x2 = 0
    · have e : tL 55 38 #[(0, 25), (1, 33)] x2 = 80 := by rw [q0]; decide +kernel
      rw [e]; exact h_1 q0
    by_cases q1 : x2 = 1
    · have e : tL 55 38 #[(0, 25), (1, 33)] x2 = 88 := by rw [q1]; decide +kernel
      rw [e]; exact h_2 q1
    have e : tL 55 38 #[(0, 25), (1, 33)] x2 = 93 := by simp [tL, Op.lookupswitch.offset, q0, Ne.symm q0, q1, Ne.symm q1]
    rw [e]; exact h_3 q0 q1)))
theorem b149_80 {X : (Nat → Int) × Nat} {d : Nat} {s : mSt} {Q : mQ} {x1 : Int} {x2 : Int} (h_1 : Sp X d 309 [mI (s 54 5)] s (fun r s' => ∃ v : Int, r = some (mI v) ∧ Wp X (d + 1) 149 87 [some (mR 0), some (mI x1), some (mI x2), some (mR 54)] [mI v] s' Q)) : Wp X (d + 1) 149 80 [some (mR 0), some (mI x1), some (mI x2), some (mR 54)] [] s Q := Wp_step k149 f149_80 (Wp_step k149 f149_81 ⟨kf_54, Wp_step k149 f149_84 ⟨⟨Nat.le_of_ble_eq_true rfl, Nat.le_refl _⟩, _, rfl, Sp_E h_1⟩⟩)
theorem b149_87 {X : (Nat → Int) × Nat} {d : Nat} {s : mSt} {Q : mQ} {x1 : Int} {x2 : Int} {xt0 : Int} (h_1 : Q (some (mI xt0)) s) : Wp X d 149 87 [some (mR 0), some (mI x1), some (mI x2), some (mR 54)] [mI xt0] s Q := Wp_step k149 f149_87 ⟨⟨rfl, trivial⟩, h_1⟩
theorem b149_88 {X : (Nat → Int) × Nat} {d : Nat} {s : mSt} {Q : mQ} {x1 : Int} {x2 : Int} (h_1 : Sp X d 22 [mR 54] s (fun r s' => ∃ v : Int, r = some (mI v) ∧ Wp X (d + 1) 149 92 [some (mR 0), some (mI x1), some (mI x2), some (mR 54)] [mI v] s' Q)) : Wp X (d + 1) 149 88 [some (mR 0), some (mI x1), some (mI x2), some (mR 54)] [] s Q := Wp_step k149 f149_88 (Wp_step k149 f149_89 ⟨⟨kf_54, Nat.le_of_ble_eq_true rfl⟩, Nat.le_refl _, _, rfl, Sp_E h_1⟩)
theorem b149_92 {X : (Nat → Int) × Nat} {d : Nat} {s : mSt} {Q : mQ} {x1 : Int} {x2 : Int} {xt0 : Int} (h_1 : Q (some (mI xt0)) s) : Wp X d 149 92 [some (mR 0), some (mI x1), some (mI x2), some (mR 54)] [mI xt0] s Q := Wp_step k149 f149_92 ⟨⟨rfl, trivial⟩, h_1⟩
theorem b149_93 {X : (Nat → Int) × Nat} {d : Nat} {s : mSt} {Q : mQ} {x1 : Int} {x2 : Int} (h_1 : Sp X d 18 [mR 54] s (fun r s' => ∃ v : Int, r = some (mI v) ∧ Wp X (d + 1) 149 100 [some (mR 0), some (mI x1), some (mI x2), some (mR 54)] [mI v, mI 1073741823] s' Q)) : Wp X (d + 1) 149 93 [some (mR 0), some (mI x1), some (mI x2), some (mR 54)] [] s Q := Wp_step k149 f149_93 (Wp_step k149 f149_96 (Wp_step k149 f149_97 ⟨⟨kf_54, Nat.le_of_ble_eq_true rfl⟩, Nat.le_refl _, _, rfl, Sp_E h_1⟩))
theorem b149_100 {X : (Nat → Int) × Nat} {d : Nat} {s : mSt} {Q : mQ} {x1 : Int} {x2 : Int} {xt0 : Int} {xt1 : Int} (h_1 : Q (some (mI (iAnd xt0 (iXor xt1 (-1))))) s) : Wp X d 149 100 [some (mR 0), some (mI x1), some (mI x2), some (mR 54)] [mI xt1, mI xt0] s Q := Wp_step k149 f149_100 (Wp_step k149 f149_101 (Wp_step k149 f149_102 (Wp_step k149 f149_103 ⟨⟨rfl, trivial⟩, h_1⟩)))
theorem e149 {X : (Nat → Int) × Nat} {d : Nat} {s : mSt} {Q : mQ} {x1 : Int} {x2 : Int} (h : Wp X d 149 0 [some (mR 0), some (mI x1), some (mI x2), none] [] s Q) : Sp X d 149 [mR 0, mI x1, mI x2] s Q := Sp_of (show mCe 149 = 0 by decide +kernel) (by rw [show mML 149 = 4 by decide +kernel]; rfl) (Nat.le_trans (Nat.le_of_ble_eq_true (show Nat.ble (mArgs _).length 4 = true from rfl)) (show 4 ≤ mML 149 by decide +kernel)) h
-- 150 ClashDay.when(I)I
theorem k150 : mRk 150 = 1 := by decide +kernel
theorem f150_0 : mFetch 150 0 = some (.aload_n 0, 1, 0, 0, 0, 0) := by decide +kernel
theorem f150_1 : mFetch 150 1 = some (.getfield 41, 3, 11, 5, 2, 1) := by decide +kernel
theorem f150_4 : mFetch 150 4 = some (.getfield 116, 3, 7, 1, 2, 0) := by decide +kernel
theorem f150_7 : mFetch 150 7 = some (.iload_n 1, 1, 0, 0, 0, 0) := by decide +kernel
theorem f150_8 : mFetch 150 8 = some (.invokevirtual 167, 3, 10, 0, 2, 0) := by decide +kernel
theorem f150_11 : mFetch 150 11 = some (.ifCond .ne 5, 3, 16, 0, 0, 0) := by decide +kernel
theorem f150_14 : mFetch 150 14 = some (.iconst (-1), 1, 0, 0, 0, 0) := by decide +kernel
theorem f150_15 : mFetch 150 15 = some (.ireturn, 1, 0, 0, 0, 0) := by decide +kernel
theorem f150_16 : mFetch 150 16 = some (.aload_n 0, 1, 0, 0, 0, 0) := by decide +kernel
theorem f150_17 : mFetch 150 17 = some (.getfield 81, 3, 11, 12, 2, 1) := by decide +kernel
theorem f150_20 : mFetch 150 20 = some (.aload_n 0, 1, 0, 0, 0, 0) := by decide +kernel
theorem f150_21 : mFetch 150 21 = some (.getfield 41, 3, 11, 5, 2, 1) := by decide +kernel
theorem f150_24 : mFetch 150 24 = some (.getfield 116, 3, 7, 1, 2, 0) := by decide +kernel
theorem f150_27 : mFetch 150 27 = some (.aload_n 0, 1, 0, 0, 0, 0) := by decide +kernel
theorem f150_28 : mFetch 150 28 = some (.invokevirtual 194, 3, 164, 0, 1, 11) := by decide +kernel
theorem f150_31 : mFetch 150 31 = some (.iload_n 1, 1, 0, 0, 0, 0) := by decide +kernel
theorem f150_32 : mFetch 150 32 = some (.invokevirtual 327, 3, 102, 0, 4, 9) := by decide +kernel
theorem f150_35 : mFetch 150 35 = some (.ireturn, 1, 0, 0, 0, 0) := by decide +kernel
theorem b150_0 {X : (Nat → Int) × Nat} {d : Nat} {s : mSt} {Q : mQ} {x1 : Int} (h_1 : Sp X d 10 [mR 18, mI x1] s (fun r s' => ∃ v : Int, r = some (mI v) ∧ Wp X (d + 1) 150 11 [some (mR 0), some (mI x1)] [mI v] s' Q)) : Wp X (d + 1) 150 0 [some (mR 0), some (mI x1)] [] s Q := Wp_step k150 f150_0 (Wp_step k150 f150_1 ⟨kf_0, 7, rf_0_5, Wp_step k150 f150_4 ⟨kf_7, 18, rf_7_1, Wp_step k150 f150_7 (Wp_step k150 f150_8 ⟨⟨kf_18, Nat.le_of_ble_eq_true rfl⟩, Nat.le_refl _, _, rfl, Sp_E h_1⟩)⟩⟩)
theorem b150_11 {X : (Nat → Int) × Nat} {d : Nat} {s : mSt} {Q : mQ} {x1 : Int} {xt0 : Int} (h_1 : ¬ xt0 = 0 → Wp X d 150 16 [some (mR 0), some (mI x1)] [] s Q) (h_2 : xt0 = 0 → Wp X d 150 14 [some (mR 0), some (mI x1)] [] s Q) : Wp X d 150 11 [some (mR 0), some (mI x1)] [mI xt0] s Q := Wp_step k150 f150_11 ⟨h_1, h_2⟩
theorem b150_14 {X : (Nat → Int) × Nat} {d : Nat} {s : mSt} {Q : mQ} {x1 : Int} (h_1 : Q (some (mI (-1))) s) : Wp X d 150 14 [some (mR 0), some (mI x1)] [] s Q := Wp_step k150 f150_14 (Wp_step k150 f150_15 ⟨⟨rfl, trivial⟩, h_1⟩)
theorem b150_16 {X : (Nat → Int) × Nat} {d : Nat} {s : mSt} {Q : mQ} {x1 : Int} (h_1 : Sp X d 164 [mR 0] s (fun r s' => ∃ v : Option Nat, r = some (Sum.inr (Sum.inr (Sum.inl v))) ∧ Wp X (d + 1) 150 31 [some (mR 0), some (mI x1)] [Sum.inr (Sum.inr (Sum.inl v)), mR 18, mR 53] s' Q)) : Wp X (d + 1) 150 16 [some (mR 0), some (mI x1)] [] s Q := Wp_step k150 f150_16 (Wp_step k150 f150_17 ⟨kf_0, 53, rf_0_12, Wp_step k150 f150_20 (Wp_step k150 f150_21 ⟨kf_0, 7, rf_0_5, Wp_step k150 f150_24 ⟨kf_7, 18, rf_7_1, Wp_step k150 f150_27 (Wp_step k150 f150_28 ⟨⟨kf_0, Nat.le_of_ble_eq_true rfl⟩, Nat.le_refl _, _, rfl, Sp_E h_1⟩)⟩⟩)⟩)
theorem b150_31 {X : (Nat → Int) × Nat} {d : Nat} {s : mSt} {Q : mQ} {x1 : Int} {ot2 : Option Nat} (h_1 : Sp X d 102 [mR 53, mR 18, Sum.inr (Sum.inr (Sum.inl ot2)), mI x1] s (fun r s' => ∃ v : Int, r = some (mI v) ∧ Wp X (d + 1) 150 35 [some (mR 0), some (mI x1)] [mI v] s' Q)) : Wp X (d + 1) 150 31 [some (mR 0), some (mI x1)] [Sum.inr (Sum.inr (Sum.inl ot2)), mR 18, mR 53] s Q := Wp_step k150 f150_31 (Wp_step k150 f150_32 ⟨⟨kf_53, Nat.le_of_ble_eq_true rfl⟩, Nat.le_refl _, _, rfl, Sp_E h_1⟩)
theorem b150_35 {X : (Nat → Int) × Nat} {d : Nat} {s : mSt} {Q : mQ} {x1 : Int} {xt0 : Int} (h_1 : Q (some (mI xt0)) s) : Wp X d 150 35 [some (mR 0), some (mI x1)] [mI xt0] s Q := Wp_step k150 f150_35 ⟨⟨rfl, trivial⟩, h_1⟩
theorem e150 {X : (Nat → Int) × Nat} {d : Nat} {s : mSt} {Q : mQ} {x1 : Int} (h : Wp X d 150 0 [some (mR 0), some (mI x1)] [] s Q) : Sp X d 150 [mR 0, mI x1] s Q := Sp_of (show mCe 150 = 0 by decide +kernel) (by rw [show mML 150 = 2 by decide +kernel]; rfl) (Nat.le_trans (Nat.le_of_ble_eq_true (show Nat.ble (mArgs _).length 2 = true from rfl)) (show 2 ≤ mML 150 by decide +kernel)) h
