-- 295 ClashDayModel.areAllSo(II)Z
theorem k295 : mRk 295 = 2 := by decide +kernel
theorem f295_0 : mFetch 295 0 = some (.iconst 1, 1, 0, 0, 0, 0) := by decide +kernel
theorem f295_1 : mFetch 295 1 = some (.istore_n 3, 1, 0, 0, 0, 0) := by decide +kernel
theorem f295_2 : mFetch 295 2 = some (.aload_n 0, 1, 0, 0, 0, 0) := by decide +kernel
theorem f295_3 : mFetch 295 3 = some (.invokevirtual 294, 3, 227, 0, 1, 12) := by decide +kernel
theorem f295_6 : mFetch 295 6 = some (.iconst 0, 1, 0, 0, 0, 0) := by decide +kernel
theorem f295_7 : mFetch 295 7 = some (.istore 4, 2, 0, 0, 0, 0) := by decide +kernel
theorem f295_9 : mFetch 295 9 = some (.iload 4, 2, 0, 0, 0, 0) := by decide +kernel
theorem f295_11 : mFetch 295 11 = some (.bipush 9, 2, 0, 0, 0, 0) := by decide +kernel
theorem f295_13 : mFetch 295 13 = some (.if_icmp .gt 73, 3, 86, 0, 0, 0) := by decide +kernel
theorem f295_16 : mFetch 295 16 = some (.aload_n 0, 1, 0, 0, 0, 0) := by decide +kernel
theorem f295_17 : mFetch 295 17 = some (.invokevirtual 452, 3, 251, 0, 1, 12) := by decide +kernel
theorem f295_20 : mFetch 295 20 = some (.pop, 1, 0, 0, 0, 0) := by decide +kernel
theorem f295_21 : mFetch 295 21 = some (.iload_n 3, 1, 0, 0, 0, 0) := by decide +kernel
theorem f295_22 : mFetch 295 22 = some (.ifCond .eq 16, 3, 38, 0, 0, 0) := by decide +kernel
theorem f295_25 : mFetch 295 25 = some (.aload_n 0, 1, 0, 0, 0, 0) := by decide +kernel
theorem f295_26 : mFetch 295 26 = some (.iload 4, 2, 0, 0, 0, 0) := by decide +kernel
theorem f295_28 : mFetch 295 28 = some (.invokevirtual 539, 3, 294, 0, 2, 12) := by decide +kernel
theorem f295_31 : mFetch 295 31 = some (.ifCond .eq 7, 3, 38, 0, 0, 0) := by decide +kernel
theorem f295_34 : mFetch 295 34 = some (.iconst 1, 1, 0, 0, 0, 0) := by decide +kernel
theorem f295_35 : mFetch 295 35 = some (.goto 4, 3, 39, 0, 0, 0) := by decide +kernel
theorem f295_38 : mFetch 295 38 = some (.iconst 0, 1, 0, 0, 0, 0) := by decide +kernel
theorem f295_39 : mFetch 295 39 = some (.istore_n 3, 1, 0, 0, 0, 0) := by decide +kernel
theorem f295_40 : mFetch 295 40 = some (.iconst 0, 1, 0, 0, 0, 0) := by decide +kernel
theorem f295_41 : mFetch 295 41 = some (.istore 5, 2, 0, 0, 0, 0) := by decide +kernel
theorem f295_43 : mFetch 295 43 = some (.iload 5, 2, 0, 0, 0, 0) := by decide +kernel
theorem f295_45 : mFetch 295 45 = some (.bipush 30, 2, 0, 0, 0, 0) := by decide +kernel
theorem f295_47 : mFetch 295 47 = some (.if_icmp .ge 33, 3, 80, 0, 0, 0) := by decide +kernel
theorem f295_50 : mFetch 295 50 = some (.iload 4, 2, 0, 0, 0, 0) := by decide +kernel
theorem f295_52 : mFetch 295 52 = some (.iload_n 2, 1, 0, 0, 0, 0) := by decide +kernel
theorem f295_53 : mFetch 295 53 = some (.if_icmp .ne 27, 3, 80, 0, 0, 0) := by decide +kernel
theorem f295_56 : mFetch 295 56 = some (.aload_n 0, 1, 0, 0, 0, 0) := by decide +kernel
theorem f295_57 : mFetch 295 57 = some (.getfield 98, 3, 12, 52, 2, 1) := by decide +kernel
theorem f295_60 : mFetch 295 60 = some (.bipush 30, 2, 0, 0, 0, 0) := by decide +kernel
theorem f295_62 : mFetch 295 62 = some (.iload_n 1, 1, 0, 0, 0, 0) := by decide +kernel
theorem f295_63 : mFetch 295 63 = some (.imul, 1, 0, 0, 0, 0) := by decide +kernel
theorem f295_64 : mFetch 295 64 = some (.iload 5, 2, 0, 0, 0, 0) := by decide +kernel
theorem f295_66 : mFetch 295 66 = some (.iadd, 1, 0, 0, 0, 0) := by decide +kernel
theorem f295_67 : mFetch 295 67 = some (.aload_n 0, 1, 0, 0, 0, 0) := by decide +kernel
theorem f295_68 : mFetch 295 68 = some (.iload 5, 2, 0, 0, 0, 0) := by decide +kernel
theorem f295_70 : mFetch 295 70 = some (.invokevirtual 359, 3, 223, 0, 2, 12) := by decide +kernel
theorem f295_73 : mFetch 295 73 = some (.iastore, 1, 0, 0, 0, 0) := by decide +kernel
theorem f295_74 : mFetch 295 74 = some (.iinc 5 1, 3, 0, 0, 0, 0) := by decide +kernel
theorem f295_77 : mFetch 295 77 = some (.goto (-34), 3, 43, 0, 0, 0) := by decide +kernel
theorem f295_80 : mFetch 295 80 = some (.iinc 4 1, 3, 0, 0, 0, 0) := by decide +kernel
theorem f295_83 : mFetch 295 83 = some (.goto (-74), 3, 9, 0, 0, 0) := by decide +kernel
theorem f295_86 : mFetch 295 86 = some (.iload_n 3, 1, 0, 0, 0, 0) := by decide +kernel
theorem f295_87 : mFetch 295 87 = some (.ireturn, 1, 0, 0, 0, 0) := by decide +kernel
theorem b295_0 {X : (Nat → Int) × Nat} {d : Nat} {s : mSt} {Q : mQ} {x1 : Int} {x2 : Int} (h_1 : Sp X d 227 [mR 407] s (fun r s' => r = none ∧ Wp X (d + 1) 295 6 [some (mR 407), some (mI x1), some (mI x2), some (mI 1), none, none] [] s' Q)) : Wp X (d + 1) 295 0 [some (mR 407), some (mI x1), some (mI x2), none, none, none] [] s Q := Wp_step k295 f295_0 (Wp_step k295 f295_1 (Wp_step k295 f295_2 (Wp_step k295 f295_3 ⟨⟨kf_407, Nat.le_of_ble_eq_true rfl⟩, Nat.le_refl _, _, rfl, Sp_V h_1⟩)))
theorem b295_6 {X : (Nat → Int) × Nat} {d : Nat} {s : mSt} {Q : mQ} {x1 : Int} {x2 : Int} {x3 : Int} (h_1 : Wp X d 295 9 [some (mR 407), some (mI x1), some (mI x2), some (mI x3), some (mI 0), none] [] s Q) : Wp X d 295 6 [some (mR 407), some (mI x1), some (mI x2), some (mI x3), none, none] [] s Q := Wp_step k295 f295_6 (Wp_step k295 f295_7 (h_1))
theorem b295_9 {X : (Nat → Int) × Nat} {d : Nat} {s : mSt} {Q : mQ} {x1 : Int} {x2 : Int} {x3 : Int} {x4 : Int} (h_1 : 9 < x4 → Wp X d 295 86 [some (mR 407), some (mI x1), some (mI x2), some (mI x3), some (mI x4), none] [] s Q) (h_2 : ¬ 9 < x4 → Wp X d 295 16 [some (mR 407), some (mI x1), some (mI x2), some (mI x3), some (mI x4), none] [] s Q) : Wp X d 295 9 [some (mR 407), some (mI x1), some (mI x2), some (mI x3), some (mI x4), none] [] s Q := Wp_step k295 f295_9 (Wp_step k295 f295_11 (Wp_step k295 f295_13 ⟨h_1, h_2⟩))
theorem b295_16 {X : (Nat → Int) × Nat} {d : Nat} {s : mSt} {Q : mQ} {x1 : Int} {x2 : Int} {x3 : Int} {x4 : Int} (h_1 : Sp X d 251 [mR 407] s (fun r s' => ∃ v : Int, r = some (mI v) ∧ Wp X (d + 1) 295 20 [some (mR 407), some (mI x1), some (mI x2), some (mI x3), some (mI x4), none] [mI v] s' Q)) : Wp X (d + 1) 295 16 [some (mR 407), some (mI x1), some (mI x2), some (mI x3), some (mI x4), none] [] s Q := Wp_step k295 f295_16 (Wp_step k295 f295_17 ⟨⟨kf_407, Nat.le_of_ble_eq_true rfl⟩, Nat.le_refl _, _, rfl, Sp_E h_1⟩)
theorem b295_20 {X : (Nat → Int) × Nat} {d : Nat} {s : mSt} {Q : mQ} {x1 : Int} {x2 : Int} {x3 : Int} {x4 : Int} {xt0 : Int} (h_1 : x3 = 0 → Wp X d 295 38 [some (mR 407), some (mI x1), some (mI x2), some (mI x3), some (mI x4), none] [] s Q) (h_2 : ¬ x3 = 0 → Wp X d 295 25 [some (mR 407), some (mI x1), some (mI x2), some (mI x3), some (mI x4), none] [] s Q) : Wp X d 295 20 [some (mR 407), some (mI x1), some (mI x2), some (mI x3), some (mI x4), none] [mI xt0] s Q := Wp_step k295 f295_20 (Wp_step k295 f295_21 (Wp_step k295 f295_22 ⟨h_1, h_2⟩))
theorem b295_25 {X : (Nat → Int) × Nat} {d : Nat} {s : mSt} {Q : mQ} {x1 : Int} {x2 : Int} {x3 : Int} {x4 : Int} (h_1 : Sp X d 294 [mR 407, mI x4] s (fun r s' => ∃ v : Int, r = some (mI v) ∧ Wp X (d + 1) 295 31 [some (mR 407), some (mI x1), some (mI x2), some (mI x3), some (mI x4), none] [mI v] s' Q)) : Wp X (d + 1) 295 25 [some (mR 407), some (mI x1), some (mI x2), some (mI x3), some (mI x4), none] [] s Q := Wp_step k295 f295_25 (Wp_step k295 f295_26 (Wp_step k295 f295_28 ⟨⟨kf_407, Nat.le_of_ble_eq_true rfl⟩, Nat.le_refl _, _, rfl, Sp_E h_1⟩))
theorem b295_31 {X : (Nat → Int) × Nat} {d : Nat} {s : mSt} {Q : mQ} {x1 : Int} {x2 : Int} {x3 : Int} {x4 : Int} {xt0 : Int} (h_1 : xt0 = 0 → Wp X d 295 38 [some (mR 407), some (mI x1), some (mI x2), some (mI x3), some (mI x4), none] [] s Q) (h_2 : ¬ xt0 = 0 → Wp X d 295 34 [some (mR 407), some (mI x1), some (mI x2), some (mI x3), some (mI x4), none] [] s Q) : Wp X d 295 31 [some (mR 407), some (mI x1), some (mI x2), some (mI x3), some (mI x4), none] [mI xt0] s Q := Wp_step k295 f295_31 ⟨h_1, h_2⟩
theorem b295_34 {X : (Nat → Int) × Nat} {d : Nat} {s : mSt} {Q : mQ} {x1 : Int} {x2 : Int} {x3 : Int} {x4 : Int} (h_1 : Wp X d 295 39 [some (mR 407), some (mI x1), some (mI x2), some (mI x3), some (mI x4), none] [mI 1] s Q) : Wp X d 295 34 [some (mR 407), some (mI x1), some (mI x2), some (mI x3), some (mI x4), none] [] s Q := Wp_step k295 f295_34 (Wp_step k295 f295_35 (h_1))
theorem b295_38 {X : (Nat → Int) × Nat} {d : Nat} {s : mSt} {Q : mQ} {x1 : Int} {x2 : Int} {x3 : Int} {x4 : Int} (h_1 : Wp X d 295 39 [some (mR 407), some (mI x1), some (mI x2), some (mI x3), some (mI x4), none] [mI 0] s Q) : Wp X d 295 38 [some (mR 407), some (mI x1), some (mI x2), some (mI x3), some (mI x4), none] [] s Q := Wp_step k295 f295_38 (h_1)
theorem b295_39 {X : (Nat → Int) × Nat} {d : Nat} {s : mSt} {Q : mQ} {x1 : Int} {x2 : Int} {x3 : Int} {x4 : Int} {xt0 : Int} (h_1 : Wp X d 295 43 [some (mR 407), some (mI x1), some (mI x2), some (mI xt0), some (mI x4), some (mI 0)] [] s Q) : Wp X d 295 39 [some (mR 407), some (mI x1), some (mI x2), some (mI x3), some (mI x4), none] [mI xt0] s Q := Wp_step k295 f295_39 (Wp_step k295 f295_40 (Wp_step k295 f295_41 (h_1)))
theorem b295_43 {X : (Nat → Int) × Nat} {d : Nat} {s : mSt} {Q : mQ} {x1 : Int} {x2 : Int} {x3 : Int} {x4 : Int} {x5 : Int} (h_1 : 30 ≤ x5 → Wp X d 295 80 [some (mR 407), some (mI x1), some (mI x2), some (mI x3), some (mI x4), some (mI x5)] [] s Q) (h_2 : ¬ 30 ≤ x5 → Wp X d 295 50 [some (mR 407), some (mI x1), some (mI x2), some (mI x3), some (mI x4), some (mI x5)] [] s Q) : Wp X d 295 43 [some (mR 407), some (mI x1), some (mI x2), some (mI x3), some (mI x4), some (mI x5)] [] s Q := Wp_step k295 f295_43 (Wp_step k295 f295_45 (Wp_step k295 f295_47 ⟨h_1, h_2⟩))
theorem b295_50 {X : (Nat → Int) × Nat} {d : Nat} {s : mSt} {Q : mQ} {x1 : Int} {x2 : Int} {x3 : Int} {x4 : Int} {x5 : Int} (h_1 : ¬ x4 = x2 → Wp X d 295 80 [some (mR 407), some (mI x1), some (mI x2), some (mI x3), some (mI x4), some (mI x5)] [] s Q) (h_2 : x4 = x2 → Wp X d 295 56 [some (mR 407), some (mI x1), some (mI x2), some (mI x3), some (mI x4), some (mI x5)] [] s Q) : Wp X d 295 50 [some (mR 407), some (mI x1), some (mI x2), some (mI x3), some (mI x4), some (mI x5)] [] s Q := Wp_step k295 f295_50 (Wp_step k295 f295_52 (Wp_step k295 f295_53 ⟨h_1, h_2⟩))
theorem b295_56 {X : (Nat → Int) × Nat} {d : Nat} {s : mSt} {Q : mQ} {x1 : Int} {x2 : Int} {x3 : Int} {x4 : Int} {x5 : Int} (h_1 : Sp X d 223 [mR 407, mI x5] s (fun r s' => ∃ v : Int, r = some (mI v) ∧ Wp X (d + 1) 295 73 [some (mR 407), some (mI x1), some (mI x2), some (mI x3), some (mI x4), some (mI x5)] [mI v, mI (w32 ((w32 (30 * x1)) + x5)), mR 435] s' Q)) : Wp X (d + 1) 295 56 [some (mR 407), some (mI x1), some (mI x2), some (mI x3), some (mI x4), some (mI x5)] [] s Q := Wp_step k295 f295_56 (Wp_step k295 f295_57 ⟨kf_407, 435, rf_407_52, Wp_step k295 f295_60 (Wp_step k295 f295_62 (Wp_step k295 f295_63 (Wp_step k295 f295_64 (Wp_step k295 f295_66 (Wp_step k295 f295_67 (Wp_step k295 f295_68 (Wp_step k295 f295_70 ⟨⟨kf_407, Nat.le_of_ble_eq_true rfl⟩, Nat.le_refl _, _, rfl, Sp_E h_1⟩)))))))⟩)
theorem b295_73 {X : (Nat → Int) × Nat} {d : Nat} {s : mSt} {Q : mQ} {x1 : Int} {x2 : Int} {x3 : Int} {x4 : Int} {x5 : Int} {xt1 : Int} {xt2 : Int} (h_1 : 0 ≤ xt1 ∧ xt1 < 210) (h_2 : Wp X d 295 43 [some (mR 407), some (mI x1), some (mI x2), some (mI x3), some (mI x4), some (mI (w32 (x5 + 1)))] [] (uS s 435 xt1.toNat xt2) Q) : Wp X d 295 73 [some (mR 407), some (mI x1), some (mI x2), some (mI x3), some (mI x4), some (mI x5)] [mI xt2, mI xt1, mR 435] s Q := Wp_step k295 f295_73 ⟨210, af_435, h_1, Wp_step k295 f295_74 (Wp_step k295 f295_77 (h_2))⟩
theorem b295_80 {X : (Nat → Int) × Nat} {d : Nat} {s : mSt} {Q : mQ} {x1 : Int} {x2 : Int} {x3 : Int} {x4 : Int} {x5 : Int} (h_1 : Wp X d 295 9 [some (mR 407), some (mI x1), some (mI x2), some (mI x3), some (mI (w32 (x4 + 1))), some (mI x5)] [] s Q) : Wp X d 295 80 [some (mR 407), some (mI x1), some (mI x2), some (mI x3), some (mI x4), some (mI x5)] [] s Q := Wp_step k295 f295_80 (Wp_step k295 f295_83 (h_1))
theorem b295_86 {X : (Nat → Int) × Nat} {d : Nat} {s : mSt} {Q : mQ} {x1 : Int} {x2 : Int} {x3 : Int} {x4 : Int} (h_1 : Q (some (mI x3)) s) (h_2 : x3 = 0 ∨ x3 = 1) : Wp X d 295 86 [some (mR 407), some (mI x1), some (mI x2), some (mI x3), some (mI x4), none] [] s Q := Wp_step k295 f295_86 (Wp_step k295 f295_87 ⟨⟨rfl, h_2⟩, h_1⟩)
theorem e295 {X : (Nat → Int) × Nat} {d : Nat} {s : mSt} {Q : mQ} {x1 : Int} {x2 : Int} (h : Wp X d 295 0 [some (mR 407), some (mI x1), some (mI x2), none, none, none] [] s Q) : Sp X d 295 [mR 407, mI x1, mI x2] s Q := Sp_of (show mCe 295 = 0 by decide +kernel) (by rw [show mML 295 = 6 by decide +kernel]; rfl) (Nat.le_trans (Nat.le_of_ble_eq_true (show Nat.ble (mArgs _).length 6 = true from rfl)) (show 6 ≤ mML 295 by decide +kernel)) h
-- 296 ClashDayModel.fillsFits(I)V
theorem k296 : mRk 296 = 0 := by decide +kernel
theorem f296_0 : mFetch 296 0 = some (.aload_n 0, 1, 0, 0, 0, 0) := by decide +kernel
theorem f296_1 : mFetch 296 1 = some (.getfield 42, 3, 12, 21, 0, 1) := by decide +kernel
theorem f296_4 : mFetch 296 4 = some (.istore_n 2, 1, 0, 0, 0, 0) := by decide +kernel
theorem f296_5 : mFetch 296 5 = some (.aload_n 0, 1, 0, 0, 0, 0) := by decide +kernel
theorem f296_6 : mFetch 296 6 = some (.invokevirtual 502, 3, 277, 0, 1, 12) := by decide +kernel
theorem f296_9 : mFetch 296 9 = some (.iconst 0, 1, 0, 0, 0, 0) := by decide +kernel
theorem f296_10 : mFetch 296 10 = some (.istore_n 3, 1, 0, 0, 0, 0) := by decide +kernel
theorem f296_11 : mFetch 296 11 = some (.iload_n 3, 1, 0, 0, 0, 0) := by decide +kernel
theorem f296_12 : mFetch 296 12 = some (.aload_n 0, 1, 0, 0, 0, 0) := by decide +kernel
theorem f296_13 : mFetch 296 13 = some (.getfield 288, 3, 12, 2, 0, 1) := by decide +kernel
theorem f296_16 : mFetch 296 16 = some (.if_icmp .gt 28, 3, 44, 0, 0, 0) := by decide +kernel
theorem f296_19 : mFetch 296 19 = some (.aload_n 0, 1, 0, 0, 0, 0) := by decide +kernel
theorem f296_20 : mFetch 296 20 = some (.iload_n 3, 1, 0, 0, 0, 0) := by decide +kernel
theorem f296_21 : mFetch 296 21 = some (.iconst 1, 1, 0, 0, 0, 0) := by decide +kernel
theorem f296_22 : mFetch 296 22 = some (.isub, 1, 0, 0, 0, 0) := by decide +kernel
theorem f296_23 : mFetch 296 23 = some (.putfield 42, 3, 12, 21, 0, 1) := by decide +kernel
theorem f296_26 : mFetch 296 26 = some (.aload_n 0, 1, 0, 0, 0, 0) := by decide +kernel
theorem f296_27 : mFetch 296 27 = some (.getfield 94, 3, 12, 51, 2, 1) := by decide +kernel
theorem f296_30 : mFetch 296 30 = some (.iload_n 3, 1, 0, 0, 0, 0) := by decide +kernel
theorem f296_31 : mFetch 296 31 = some (.aload_n 0, 1, 0, 0, 0, 0) := by decide +kernel
theorem f296_32 : mFetch 296 32 = some (.iload_n 3, 1, 0, 0, 0, 0) := by decide +kernel
theorem f296_33 : mFetch 296 33 = some (.iload_n 1, 1, 0, 0, 0, 0) := by decide +kernel
theorem f296_34 : mFetch 296 34 = some (.invokevirtual 542, 3, 295, 0, 3, 12) := by decide +kernel
theorem f296_37 : mFetch 296 37 = some (.bastore, 1, 0, 0, 0, 0) := by decide +kernel
theorem f296_38 : mFetch 296 38 = some (.iinc 3 1, 3, 0, 0, 0, 0) := by decide +kernel
theorem f296_41 : mFetch 296 41 = some (.goto (-30), 3, 11, 0, 0, 0) := by decide +kernel
theorem f296_44 : mFetch 296 44 = some (.aload_n 0, 1, 0, 0, 0, 0) := by decide +kernel
theorem f296_45 : mFetch 296 45 = some (.iload_n 2, 1, 0, 0, 0, 0) := by decide +kernel
theorem f296_46 : mFetch 296 46 = some (.putfield 42, 3, 12, 21, 0, 1) := by decide +kernel
theorem f296_49 : mFetch 296 49 = some (.aload_n 0, 1, 0, 0, 0, 0) := by decide +kernel
theorem f296_50 : mFetch 296 50 = some (.invokevirtual 491, 3, 278, 0, 1, 12) := by decide +kernel
theorem f296_53 : mFetch 296 53 = some (.return_, 1, 0, 0, 0, 0) := by decide +kernel
theorem b296_0 {X : (Nat → Int) × Nat} {d : Nat} {s : mSt} {Q : mQ} {x1 : Int} (h_1 : Sp X d 277 [mR 407] s (fun r s' => r = none ∧ Wp X (d + 1) 296 9 [some (mR 407), some (mI x1), some (mI (s 407 21)), none] [] s' Q)) : Wp X (d + 1) 296 0 [some (mR 407), some (mI x1), none, none] [] s Q := Wp_step k296 f296_0 (Wp_step k296 f296_1 ⟨kf_407, Wp_step k296 f296_4 (Wp_step k296 f296_5 (Wp_step k296 f296_6 ⟨⟨kf_407, Nat.le_of_ble_eq_true rfl⟩, Nat.le_refl _, _, rfl, Sp_V h_1⟩))⟩)
theorem b296_9 {X : (Nat → Int) × Nat} {d : Nat} {s : mSt} {Q : mQ} {x1 : Int} {x2 : Int} (h_1 : Wp X d 296 11 [some (mR 407), some (mI x1), some (mI x2), some (mI 0)] [] s Q) : Wp X d 296 9 [some (mR 407), some (mI x1), some (mI x2), none] [] s Q := Wp_step k296 f296_9 (Wp_step k296 f296_10 (h_1))
theorem b296_11 {X : (Nat → Int) × Nat} {d : Nat} {s : mSt} {Q : mQ} {x1 : Int} {x2 : Int} {x3 : Int} (h_1 : (s 407 2) < x3 → Wp X d 296 44 [some (mR 407), some (mI x1), some (mI x2), some (mI x3)] [] s Q) (h_2 : ¬ (s 407 2) < x3 → Wp X d 296 19 [some (mR 407), some (mI x1), some (mI x2), some (mI x3)] [] s Q) : Wp X d 296 11 [some (mR 407), some (mI x1), some (mI x2), some (mI x3)] [] s Q := Wp_step k296 f296_11 (Wp_step k296 f296_12 (Wp_step k296 f296_13 ⟨kf_407, Wp_step k296 f296_16 ⟨h_1, h_2⟩⟩))
theorem b296_19 {X : (Nat → Int) × Nat} {d : Nat} {s : mSt} {Q : mQ} {x1 : Int} {x2 : Int} {x3 : Int} (h_1 : Sp X d 295 [mR 407, mI x3, mI x1] (uS s 407 21 (w32 (x3 - 1))) (fun r s' => ∃ v : Int, r = some (mI v) ∧ Wp X (d + 1) 296 37 [some (mR 407), some (mI x1), some (mI x2), some (mI x3)] [mI v, mI x3, mR 434] s' Q)) : Wp X (d + 1) 296 19 [some (mR 407), some (mI x1), some (mI x2), some (mI x3)] [] s Q := Wp_step k296 f296_19 (Wp_step k296 f296_20 (Wp_step k296 f296_21 (Wp_step k296 f296_22 (Wp_step k296 f296_23 ⟨kf_407, Wp_step k296 f296_26 (Wp_step k296 f296_27 ⟨kf_407, 434, rf_407_51, Wp_step k296 f296_30 (Wp_step k296 f296_31 (Wp_step k296 f296_32 (Wp_step k296 f296_33 (Wp_step k296 f296_34 ⟨⟨kf_407, Nat.le_of_ble_eq_true rfl⟩, Nat.le_refl _, _, rfl, Sp_E h_1⟩))))⟩)⟩))))
theorem b296_37 {X : (Nat → Int) × Nat} {d : Nat} {s : mSt} {Q : mQ} {x1 : Int} {x2 : Int} {x3 : Int} {xt1 : Int} {xt2 : Int} (h_1 : 0 ≤ xt1 ∧ xt1 < 7) (h_2 : xt2 = 0 ∨ xt2 = 1) (h_3 : Wp X d 296 11 [some (mR 407), some (mI x1), some (mI x2), some (mI (w32 (x3 + 1)))] [] (uS s 434 xt1.toNat xt2) Q) : Wp X d 296 37 [some (mR 407), some (mI x1), some (mI x2), some (mI x3)] [mI xt2, mI xt1, mR 434] s Q := Wp_step k296 f296_37 ⟨24, 7, af_434, Or.inr ⟨rfl, h_2⟩, h_1, Wp_step k296 f296_38 (Wp_step k296 f296_41 (h_3))⟩
theorem b296_44 {X : (Nat → Int) × Nat} {d : Nat} {s : mSt} {Q : mQ} {x1 : Int} {x2 : Int} {x3 : Int} (h_1 : Sp X d 278 [mR 407] (uS s 407 21 x2) (fun r s' => r = none ∧ Wp X (d + 1) 296 53 [some (mR 407), some (mI x1), some (mI x2), some (mI x3)] [] s' Q)) : Wp X (d + 1) 296 44 [some (mR 407), some (mI x1), some (mI x2), some (mI x3)] [] s Q := Wp_step k296 f296_44 (Wp_step k296 f296_45 (Wp_step k296 f296_46 ⟨kf_407, Wp_step k296 f296_49 (Wp_step k296 f296_50 ⟨⟨kf_407, Nat.le_of_ble_eq_true rfl⟩, Nat.le_refl _, _, rfl, Sp_V h_1⟩)⟩))
theorem b296_53 {X : (Nat → Int) × Nat} {d : Nat} {s : mSt} {Q : mQ} {x1 : Int} {x2 : Int} {x3 : Int} (h_1 : Q none s) : Wp X d 296 53 [some (mR 407), some (mI x1), some (mI x2), some (mI x3)] [] s Q := Wp_step k296 f296_53 ⟨⟨rfl, Or.inl rfl⟩, h_1⟩
theorem e296 {X : (Nat → Int) × Nat} {d : Nat} {s : mSt} {Q : mQ} {x1 : Int} (h : Wp X d 296 0 [some (mR 407), some (mI x1), none, none] [] s Q) : Sp X d 296 [mR 407, mI x1] s Q := Sp_of (show mCe 296 = 0 by decide +kernel) (by rw [show mML 296 = 4 by decide +kernel]; rfl) (Nat.le_trans (Nat.le_of_ble_eq_true (show Nat.ble (mArgs _).length 4 = true from rfl)) (show 4 ≤ mML 296 by decide +kernel)) h
-- 297 ClashDayModel.ruled(I)I
theorem k297 : mRk 297 = 1 := by decide +kernel
theorem f297_0 : mFetch 297 0 = some (.aload_n 0, 1, 0, 0, 0, 0) := by decide +kernel
theorem f297_1 : mFetch 297 1 = some (.invokevirtual 354, 3, 212, 0, 1, 12) := by decide +kernel
theorem f297_4 : mFetch 297 4 = some (.ifCond .eq 13, 3, 17, 0, 0, 0) := by decide +kernel
theorem f297_7 : mFetch 297 7 = some (.iload_n 1, 1, 0, 0, 0, 0) := by decide +kernel
theorem f297_8 : mFetch 297 8 = some (.i2l, 1, 0, 0, 0, 0) := by decide +kernel
theorem f297_9 : mFetch 297 9 = some (.lconst 0, 1, 0, 0, 0, 0) := by decide +kernel
theorem f297_10 : mFetch 297 10 = some (.lconst 1, 1, 0, 0, 0, 0) := by decide +kernel
theorem f297_11 : mFetch 297 11 = some (.invokestatic 151, 3, 167, 0, 3, 99) := by decide +kernel
theorem f297_14 : mFetch 297 14 = some (.ifCond .ne 6, 3, 20, 0, 0, 0) := by decide +kernel
theorem f297_17 : mFetch 297 17 = some (.bipush (-3), 2, 0, 0, 0, 0) := by decide +kernel
theorem f297_19 : mFetch 297 19 = some (.ireturn, 1, 0, 0, 0, 0) := by decide +kernel
theorem f297_20 : mFetch 297 20 = some (.aload_n 0, 1, 0, 0, 0, 0) := by decide +kernel
theorem f297_21 : mFetch 297 21 = some (.iconst 0, 1, 0, 0, 0, 0) := by decide +kernel
theorem f297_22 : mFetch 297 22 = some (.invokevirtual 545, 3, 296, 0, 2, 12) := by decide +kernel
theorem f297_25 : mFetch 297 25 = some (.iconst 0, 1, 0, 0, 0, 0) := by decide +kernel
theorem f297_26 : mFetch 297 26 = some (.istore_n 2, 1, 0, 0, 0, 0) := by decide +kernel
theorem f297_27 : mFetch 297 27 = some (.bipush (-2), 2, 0, 0, 0, 0) := by decide +kernel
theorem f297_29 : mFetch 297 29 = some (.istore_n 3, 1, 0, 0, 0, 0) := by decide +kernel
theorem f297_30 : mFetch 297 30 = some (.aload_n 0, 1, 0, 0, 0, 0) := by decide +kernel
theorem f297_31 : mFetch 297 31 = some (.getfield 288, 3, 12, 2, 0, 1) := by decide +kernel
theorem f297_34 : mFetch 297 34 = some (.istore 4, 2, 0, 0, 0, 0) := by decide +kernel
theorem f297_36 : mFetch 297 36 = some (.iload 4, 2, 0, 0, 0, 0) := by decide +kernel
theorem f297_38 : mFetch 297 38 = some (.ifCond .lt 30, 3, 68, 0, 0, 0) := by decide +kernel
theorem f297_41 : mFetch 297 41 = some (.aload_n 0, 1, 0, 0, 0, 0) := by decide +kernel
theorem f297_42 : mFetch 297 42 = some (.getfield 94, 3, 12, 51, 2, 1) := by decide +kernel
theorem f297_45 : mFetch 297 45 = some (.iload 4, 2, 0, 0, 0, 0) := by decide +kernel
theorem f297_47 : mFetch 297 47 = some (.baload, 1, 0, 0, 0, 0) := by decide +kernel
theorem f297_48 : mFetch 297 48 = some (.ifCond .ne 6, 3, 54, 0, 0, 0) := by decide +kernel
theorem f297_51 : mFetch 297 51 = some (.goto 11, 3, 62, 0, 0, 0) := by decide +kernel
theorem f297_54 : mFetch 297 54 = some (.iload 4, 2, 0, 0, 0, 0) := by decide +kernel
theorem f297_56 : mFetch 297 56 = some (.iconst 1, 1, 0, 0, 0, 0) := by decide +kernel
theorem f297_57 : mFetch 297 57 = some (.isub, 1, 0, 0, 0, 0) := by decide +kernel
theorem f297_58 : mFetch 297 58 = some (.istore_n 3, 1, 0, 0, 0, 0) := by decide +kernel
theorem f297_59 : mFetch 297 59 = some (.iinc 2 1, 3, 0, 0, 0, 0) := by decide +kernel
theorem f297_62 : mFetch 297 62 = some (.iinc 4 (-1), 3, 0, 0, 0, 0) := by decide +kernel
theorem f297_65 : mFetch 297 65 = some (.goto (-29), 3, 36, 0, 0, 0) := by decide +kernel
theorem f297_68 : mFetch 297 68 = some (.iload_n 1, 1, 0, 0, 0, 0) := by decide +kernel
theorem f297_69 : mFetch 297 69 = some (.ifCond .ne 7, 3, 76, 0, 0, 0) := by decide +kernel
theorem f297_72 : mFetch 297 72 = some (.iload_n 2, 1, 0, 0, 0, 0) := by decide +kernel
theorem f297_73 : mFetch 297 73 = some (.goto 4, 3, 77, 0, 0, 0) := by decide +kernel
theorem f297_76 : mFetch 297 76 = some (.iload_n 3, 1, 0, 0, 0, 0) := by decide +kernel
theorem f297_77 : mFetch 297 77 = some (.ireturn, 1, 0, 0, 0, 0) := by decide +kernel
theorem b297_0 {X : (Nat → Int) × Nat} {d : Nat} {s : mSt} {Q : mQ} {x1 : Int} (h_1 : Sp X d 212 [mR 407] s (fun r s' => ∃ v : Int, r = some (mI v) ∧ Wp X (d + 1) 297 4 [some (mR 407), some (mI x1), none, none, none] [mI v] s' Q)) : Wp X (d + 1) 297 0 [some (mR 407), some (mI x1), none, none, none] [] s Q := Wp_step k297 f297_0 (Wp_step k297 f297_1 ⟨⟨kf_407, Nat.le_of_ble_eq_true rfl⟩, Nat.le_refl _, _, rfl, Sp_E h_1⟩)
theorem b297_4 {X : (Nat → Int) × Nat} {d : Nat} {s : mSt} {Q : mQ} {x1 : Int} {xt0 : Int} (h_1 : xt0 = 0 → Wp X d 297 17 [some (mR 407), some (mI x1), none, none, none] [] s Q) (h_2 : ¬ xt0 = 0 → Wp X d 297 7 [some (mR 407), some (mI x1), none, none, none] [] s Q) : Wp X d 297 4 [some (mR 407), some (mI x1), none, none, none] [mI xt0] s Q := Wp_step k297 f297_4 ⟨h_1, h_2⟩
theorem b297_7 {X : (Nat → Int) × Nat} {d : Nat} {s : mSt} {Q : mQ} {x1 : Int} (h_1 : Sp X d 167 [mJ x1, mJ 0, mJ 1] s (fun r s' => ∃ v : Int, r = some (mI v) ∧ Wp X (d + 1) 297 14 [some (mR 407), some (mI x1), none, none, none] [mI v] s' Q)) : Wp X (d + 1) 297 7 [some (mR 407), some (mI x1), none, none, none] [] s Q := Wp_step k297 f297_7 (Wp_step k297 f297_8 (Wp_step k297 f297_9 (Wp_step k297 f297_10 (Wp_step k297 f297_11 ⟨⟨Nat.le_of_ble_eq_true rfl, Nat.le_refl _⟩, _, rfl, Sp_E h_1⟩))))
theorem b297_14 {X : (Nat → Int) × Nat} {d : Nat} {s : mSt} {Q : mQ} {x1 : Int} {xt0 : Int} (h_1 : ¬ xt0 = 0 → Wp X d 297 20 [some (mR 407), some (mI x1), none, none, none] [] s Q) (h_2 : xt0 = 0 → Wp X d 297 17 [some (mR 407), some (mI x1), none, none, none] [] s Q) : Wp X d 297 14 [some (mR 407), some (mI x1), none, none, none] [mI xt0] s Q := Wp_step k297 f297_14 ⟨h_1, h_2⟩
theorem b297_17 {X : (Nat → Int) × Nat} {d : Nat} {s : mSt} {Q : mQ} {x1 : Int} (h_1 : Q (some (mI (-3))) s) : Wp X d 297 17 [some (mR 407), some (mI x1), none, none, none] [] s Q := Wp_step k297 f297_17 (Wp_step k297 f297_19 ⟨⟨rfl, trivial⟩, h_1⟩)
theorem b297_20 {X : (Nat → Int) × Nat} {d : Nat} {s : mSt} {Q : mQ} {x1 : Int} (h_1 : Sp X d 296 [mR 407, mI 0] s (fun r s' => r = none ∧ Wp X (d + 1) 297 25 [some (mR 407), some (mI x1), none, none, none] [] s' Q)) : Wp X (d + 1) 297 20 [some (mR 407), some (mI x1), none, none, none] [] s Q := Wp_step k297 f297_20 (Wp_step k297 f297_21 (Wp_step k297 f297_22 ⟨⟨kf_407, Nat.le_of_ble_eq_true rfl⟩, Nat.le_refl _, _, rfl, Sp_V h_1⟩))
theorem b297_25 {X : (Nat → Int) × Nat} {d : Nat} {s : mSt} {Q : mQ} {x1 : Int} (h_1 : Wp X d 297 36 [some (mR 407), some (mI x1), some (mI 0), some (mI (-2)), some (mI (s 407 2))] [] s Q) : Wp X d 297 25 [some (mR 407), some (mI x1), none, none, none] [] s Q := Wp_step k297 f297_25 (Wp_step k297 f297_26 (Wp_step k297 f297_27 (Wp_step k297 f297_29 (Wp_step k297 f297_30 (Wp_step k297 f297_31 ⟨kf_407, Wp_step k297 f297_34 (h_1)⟩)))))
theorem b297_36 {X : (Nat → Int) × Nat} {d : Nat} {s : mSt} {Q : mQ} {x1 : Int} {x2 : Int} {x3 : Int} {x4 : Int} (h_1 : x4 < 0 → Wp X d 297 68 [some (mR 407), some (mI x1), some (mI x2), some (mI x3), some (mI x4)] [] s Q) (h_2 : ¬ x4 < 0 → Wp X d 297 41 [some (mR 407), some (mI x1), some (mI x2), some (mI x3), some (mI x4)] [] s Q) : Wp X d 297 36 [some (mR 407), some (mI x1), some (mI x2), some (mI x3), some (mI x4)] [] s Q := Wp_step k297 f297_36 (Wp_step k297 f297_38 ⟨h_1, h_2⟩)
theorem b297_41 {X : (Nat → Int) × Nat} {d : Nat} {s : mSt} {Q : mQ} {x1 : Int} {x2 : Int} {x3 : Int} {x4 : Int} (h_1 : 0 ≤ x4 ∧ x4 < 7) (h_2 : ¬ (s 434 x4.toNat) = 0 → Wp X d 297 54 [some (mR 407), some (mI x1), some (mI x2), some (mI x3), some (mI x4)] [] s Q) (h_3 : (s 434 x4.toNat) = 0 → Wp X d 297 51 [some (mR 407), some (mI x1), some (mI x2), some (mI x3), some (mI x4)] [] s Q) : Wp X d 297 41 [some (mR 407), some (mI x1), some (mI x2), some (mI x3), some (mI x4)] [] s Q := Wp_step k297 f297_41 (Wp_step k297 f297_42 ⟨kf_407, 434, rf_407_51, Wp_step k297 f297_45 (Wp_step k297 f297_47 ⟨24, 7, af_434, (Or.inr rfl), h_1, Wp_step k297 f297_48 ⟨h_2, h_3⟩⟩)⟩)
theorem b297_51 {X : (Nat → Int) × Nat} {d : Nat} {s : mSt} {Q : mQ} {x1 : Int} {x2 : Int} {x3 : Int} {x4 : Int} (h_1 : Wp X d 297 62 [some (mR 407), some (mI x1), some (mI x2), some (mI x3), some (mI x4)] [] s Q) : Wp X d 297 51 [some (mR 407), some (mI x1), some (mI x2), some (mI x3), some (mI x4)] [] s Q := Wp_step k297 f297_51 (h_1)
theorem b297_54 {X : (Nat → Int) × Nat} {d : Nat} {s : mSt} {Q : mQ} {x1 : Int} {x2 : Int} {x3 : Int} {x4 : Int} (h_1 : Wp X d 297 62 [some (mR 407), some (mI x1), some (mI (w32 (x2 + 1))), some (mI (w32 (x4 - 1))), some (mI x4)] [] s Q) : Wp X d 297 54 [some (mR 407), some (mI x1), some (mI x2), some (mI x3), some (mI x4)] [] s Q := Wp_step k297 f297_54 (Wp_step k297 f297_56 (Wp_step k297 f297_57 (Wp_step k297 f297_58 (Wp_step k297 f297_59 (h_1)))))
theorem b297_62 {X : (Nat → Int) × Nat} {d : Nat} {s : mSt} {Q : mQ} {x1 : Int} {x2 : Int} {x3 : Int} {x4 : Int} (h_1 : Wp X d 297 36 [some (mR 407), some (mI x1), some (mI x2), some (mI x3), some (mI (w32 (x4 + (-1))))] [] s Q) : Wp X d 297 62 [some (mR 407), some (mI x1), some (mI x2), some (mI x3), some (mI x4)] [] s Q := Wp_step k297 f297_62 (Wp_step k297 f297_65 (h_1))
theorem b297_68 {X : (Nat → Int) × Nat} {d : Nat} {s : mSt} {Q : mQ} {x1 : Int} {x2 : Int} {x3 : Int} {x4 : Int} (h_1 : ¬ x1 = 0 → Wp X d 297 76 [some (mR 407), some (mI x1), some (mI x2), some (mI x3), some (mI x4)] [] s Q) (h_2 : x1 = 0 → Wp X d 297 72 [some (mR 407), some (mI x1), some (mI x2), some (mI x3), some (mI x4)] [] s Q) : Wp X d 297 68 [some (mR 407), some (mI x1), some (mI x2), some (mI x3), some (mI x4)] [] s Q := Wp_step k297 f297_68 (Wp_step k297 f297_69 ⟨h_1, h_2⟩)
theorem b297_72 {X : (Nat → Int) × Nat} {d : Nat} {s : mSt} {Q : mQ} {x1 : Int} {x2 : Int} {x3 : Int} {x4 : Int} (h_1 : Wp X d 297 77 [some (mR 407), some (mI x1), some (mI x2), some (mI x3), some (mI x4)] [mI x2] s Q) : Wp X d 297 72 [some (mR 407), some (mI x1), some (mI x2), some (mI x3), some (mI x4)] [] s Q := Wp_step k297 f297_72 (Wp_step k297 f297_73 (h_1))
theorem b297_76 {X : (Nat → Int) × Nat} {d : Nat} {s : mSt} {Q : mQ} {x1 : Int} {x2 : Int} {x3 : Int} {x4 : Int} (h_1 : Wp X d 297 77 [some (mR 407), some (mI x1), some (mI x2), some (mI x3), some (mI x4)] [mI x3] s Q) : Wp X d 297 76 [some (mR 407), some (mI x1), some (mI x2), some (mI x3), some (mI x4)] [] s Q := Wp_step k297 f297_76 (h_1)
theorem b297_77 {X : (Nat → Int) × Nat} {d : Nat} {s : mSt} {Q : mQ} {x1 : Int} {x2 : Int} {x3 : Int} {x4 : Int} {xt0 : Int} (h_1 : Q (some (mI xt0)) s) : Wp X d 297 77 [some (mR 407), some (mI x1), some (mI x2), some (mI x3), some (mI x4)] [mI xt0] s Q := Wp_step k297 f297_77 ⟨⟨rfl, trivial⟩, h_1⟩
theorem e297 {X : (Nat → Int) × Nat} {d : Nat} {s : mSt} {Q : mQ} {x1 : Int} (h : Wp X d 297 0 [some (mR 407), some (mI x1), none, none, none] [] s Q) : Sp X d 297 [mR 407, mI x1] s Q := Sp_of (show mCe 297 = 0 by decide +kernel) (by rw [show mML 297 = 5 by decide +kernel]; rfl) (Nat.le_trans (Nat.le_of_ble_eq_true (show Nat.ble (mArgs _).length 5 = true from rfl)) (show 5 ≤ mML 297 by decide +kernel)) h
-- 298 ClashDayModel.alikeAt(I)I
theorem k298 : mRk 298 = 1 := by decide +kernel
theorem f298_0 : mFetch 298 0 = some (.iconst 0, 1, 0, 0, 0, 0) := by decide +kernel
theorem f298_1 : mFetch 298 1 = some (.istore_n 2, 1, 0, 0, 0, 0) := by decide +kernel
theorem f298_2 : mFetch 298 2 = some (.iconst 0, 1, 0, 0, 0, 0) := by decide +kernel
theorem f298_3 : mFetch 298 3 = some (.istore_n 3, 1, 0, 0, 0, 0) := by decide +kernel
theorem f298_4 : mFetch 298 4 = some (.iload_n 3, 1, 0, 0, 0, 0) := by decide +kernel
theorem f298_5 : mFetch 298 5 = some (.aload_n 0, 1, 0, 0, 0, 0) := by decide +kernel
theorem f298_6 : mFetch 298 6 = some (.getfield 288, 3, 12, 2, 0, 1) := by decide +kernel
theorem f298_9 : mFetch 298 9 = some (.if_icmp .gt 98, 3, 107, 0, 0, 0) := by decide +kernel
theorem f298_12 : mFetch 298 12 = some (.iconst 0, 1, 0, 0, 0, 0) := by decide +kernel
theorem f298_13 : mFetch 298 13 = some (.istore 4, 2, 0, 0, 0, 0) := by decide +kernel
theorem f298_15 : mFetch 298 15 = some (.iconst 0, 1, 0, 0, 0, 0) := by decide +kernel
theorem f298_16 : mFetch 298 16 = some (.istore 5, 2, 0, 0, 0, 0) := by decide +kernel
theorem f298_18 : mFetch 298 18 = some (.iload 5, 2, 0, 0, 0, 0) := by decide +kernel
theorem f298_20 : mFetch 298 20 = some (.aload_n 0, 1, 0, 0, 0, 0) := by decide +kernel
theorem f298_21 : mFetch 298 21 = some (.getfield 288, 3, 12, 2, 0, 1) := by decide +kernel
theorem f298_24 : mFetch 298 24 = some (.if_icmp .gt 64, 3, 88, 0, 0, 0) := by decide +kernel
theorem f298_27 : mFetch 298 27 = some (.aload_n 0, 1, 0, 0, 0, 0) := by decide +kernel
theorem f298_28 : mFetch 298 28 = some (.getfield 94, 3, 12, 51, 2, 1) := by decide +kernel
theorem f298_31 : mFetch 298 31 = some (.iload_n 3, 1, 0, 0, 0, 0) := by decide +kernel
theorem f298_32 : mFetch 298 32 = some (.baload, 1, 0, 0, 0, 0) := by decide +kernel
theorem f298_33 : mFetch 298 33 = some (.ifCond .eq 55, 3, 88, 0, 0, 0) := by decide +kernel
theorem f298_36 : mFetch 298 36 = some (.iload 4, 2, 0, 0, 0, 0) := by decide +kernel
theorem f298_38 : mFetch 298 38 = some (.aload_n 0, 1, 0, 0, 0, 0) := by decide +kernel
theorem f298_39 : mFetch 298 39 = some (.getfield 94, 3, 12, 51, 2, 1) := by decide +kernel
theorem f298_42 : mFetch 298 42 = some (.iload 5, 2, 0, 0, 0, 0) := by decide +kernel
theorem f298_44 : mFetch 298 44 = some (.baload, 1, 0, 0, 0, 0) := by decide +kernel
theorem f298_45 : mFetch 298 45 = some (.ifCond .eq 33, 3, 78, 0, 0, 0) := by decide +kernel
theorem f298_48 : mFetch 298 48 = some (.aload_n 0, 1, 0, 0, 0, 0) := by decide +kernel
theorem f298_49 : mFetch 298 49 = some (.getfield 98, 3, 12, 52, 2, 1) := by decide +kernel
theorem f298_52 : mFetch 298 52 = some (.bipush 30, 2, 0, 0, 0, 0) := by decide +kernel
theorem f298_54 : mFetch 298 54 = some (.iload_n 3, 1, 0, 0, 0, 0) := by decide +kernel
theorem f298_55 : mFetch 298 55 = some (.imul, 1, 0, 0, 0, 0) := by decide +kernel
theorem f298_56 : mFetch 298 56 = some (.iload_n 1, 1, 0, 0, 0, 0) := by decide +kernel
theorem f298_57 : mFetch 298 57 = some (.iadd, 1, 0, 0, 0, 0) := by decide +kernel
theorem f298_58 : mFetch 298 58 = some (.iaload, 1, 0, 0, 0, 0) := by decide +kernel
theorem f298_59 : mFetch 298 59 = some (.aload_n 0, 1, 0, 0, 0, 0) := by decide +kernel
theorem f298_60 : mFetch 298 60 = some (.getfield 98, 3, 12, 52, 2, 1) := by decide +kernel
theorem f298_63 : mFetch 298 63 = some (.bipush 30, 2, 0, 0, 0, 0) := by decide +kernel
theorem f298_65 : mFetch 298 65 = some (.iload 5, 2, 0, 0, 0, 0) := by decide +kernel
theorem f298_67 : mFetch 298 67 = some (.imul, 1, 0, 0, 0, 0) := by decide +kernel
theorem f298_68 : mFetch 298 68 = some (.iload_n 1, 1, 0, 0, 0, 0) := by decide +kernel
theorem f298_69 : mFetch 298 69 = some (.iadd, 1, 0, 0, 0, 0) := by decide +kernel
theorem f298_70 : mFetch 298 70 = some (.iaload, 1, 0, 0, 0, 0) := by decide +kernel
theorem f298_71 : mFetch 298 71 = some (.if_icmp .ne 7, 3, 78, 0, 0, 0) := by decide +kernel
theorem f298_74 : mFetch 298 74 = some (.iconst 1, 1, 0, 0, 0, 0) := by decide +kernel
theorem f298_75 : mFetch 298 75 = some (.goto 4, 3, 79, 0, 0, 0) := by decide +kernel
theorem f298_78 : mFetch 298 78 = some (.iconst 0, 1, 0, 0, 0, 0) := by decide +kernel
theorem f298_79 : mFetch 298 79 = some (.iadd, 1, 0, 0, 0, 0) := by decide +kernel
theorem f298_80 : mFetch 298 80 = some (.istore 4, 2, 0, 0, 0, 0) := by decide +kernel
theorem f298_82 : mFetch 298 82 = some (.iinc 5 1, 3, 0, 0, 0, 0) := by decide +kernel
theorem f298_85 : mFetch 298 85 = some (.goto (-67), 3, 18, 0, 0, 0) := by decide +kernel
theorem f298_88 : mFetch 298 88 = some (.iload 4, 2, 0, 0, 0, 0) := by decide +kernel
theorem f298_90 : mFetch 298 90 = some (.iload_n 2, 1, 0, 0, 0, 0) := by decide +kernel
theorem f298_91 : mFetch 298 91 = some (.if_icmp .le 8, 3, 99, 0, 0, 0) := by decide +kernel
theorem f298_94 : mFetch 298 94 = some (.iload 4, 2, 0, 0, 0, 0) := by decide +kernel
theorem f298_96 : mFetch 298 96 = some (.goto 4, 3, 100, 0, 0, 0) := by decide +kernel
theorem f298_99 : mFetch 298 99 = some (.iload_n 2, 1, 0, 0, 0, 0) := by decide +kernel
theorem f298_100 : mFetch 298 100 = some (.istore_n 2, 1, 0, 0, 0, 0) := by decide +kernel
theorem f298_101 : mFetch 298 101 = some (.iinc 3 1, 3, 0, 0, 0, 0) := by decide +kernel
theorem f298_104 : mFetch 298 104 = some (.goto (-100), 3, 4, 0, 0, 0) := by decide +kernel
theorem f298_107 : mFetch 298 107 = some (.iload_n 2, 1, 0, 0, 0, 0) := by decide +kernel
theorem f298_108 : mFetch 298 108 = some (.ireturn, 1, 0, 0, 0, 0) := by decide +kernel
theorem b298_0 {X : (Nat → Int) × Nat} {d : Nat} {s : mSt} {Q : mQ} {x1 : Int} (h_1 : Wp X d 298 4 [some (mR 407), some (mI x1), some (mI 0), some (mI 0), none, none] [] s Q) : Wp X d 298 0 [some (mR 407), some (mI x1), none, none, none, none] [] s Q := Wp_step k298 f298_0 (Wp_step k298 f298_1 (Wp_step k298 f298_2 (Wp_step k298 f298_3 (h_1))))
theorem b298_4 {X : (Nat → Int) × Nat} {d : Nat} {s : mSt} {Q : mQ} {x1 : Int} {x2 : Int} {x3 : Int} (h_1 : (s 407 2) < x3 → Wp X d 298 107 [some (mR 407), some (mI x1), some (mI x2), some (mI x3), none, none] [] s Q) (h_2 : ¬ (s 407 2) < x3 → Wp X d 298 12 [some (mR 407), some (mI x1), some (mI x2), some (mI x3), none, none] [] s Q) : Wp X d 298 4 [some (mR 407), some (mI x1), some (mI x2), some (mI x3), none, none] [] s Q := Wp_step k298 f298_4 (Wp_step k298 f298_5 (Wp_step k298 f298_6 ⟨kf_407, Wp_step k298 f298_9 ⟨h_1, h_2⟩⟩))
theorem b298_12 {X : (Nat → Int) × Nat} {d : Nat} {s : mSt} {Q : mQ} {x1 : Int} {x2 : Int} {x3 : Int} (h_1 : Wp X d 298 18 [some (mR 407), some (mI x1), some (mI x2), some (mI x3), some (mI 0), some (mI 0)] [] s Q) : Wp X d 298 12 [some (mR 407), some (mI x1), some (mI x2), some (mI x3), none, none] [] s Q := Wp_step k298 f298_12 (Wp_step k298 f298_13 (Wp_step k298 f298_15 (Wp_step k298 f298_16 (h_1))))
theorem b298_18 {X : (Nat → Int) × Nat} {d : Nat} {s : mSt} {Q : mQ} {x1 : Int} {x2 : Int} {x3 : Int} {x4 : Int} {x5 : Int} (h_1 : (s 407 2) < x5 → Wp X d 298 88 [some (mR 407), some (mI x1), some (mI x2), some (mI x3), some (mI x4), some (mI x5)] [] s Q) (h_2 : ¬ (s 407 2) < x5 → Wp X d 298 27 [some (mR 407), some (mI x1), some (mI x2), some (mI x3), some (mI x4), some (mI x5)] [] s Q) : Wp X d 298 18 [some (mR 407), some (mI x1), some (mI x2), some (mI x3), some (mI x4), some (mI x5)] [] s Q := Wp_step k298 f298_18 (Wp_step k298 f298_20 (Wp_step k298 f298_21 ⟨kf_407, Wp_step k298 f298_24 ⟨h_1, h_2⟩⟩))
theorem b298_27 {X : (Nat → Int) × Nat} {d : Nat} {s : mSt} {Q : mQ} {x1 : Int} {x2 : Int} {x3 : Int} {x4 : Int} {x5 : Int} (h_1 : 0 ≤ x3 ∧ x3 < 7) (h_2 : (s 434 x3.toNat) = 0 → Wp X d 298 88 [some (mR 407), some (mI x1), some (mI x2), some (mI x3), some (mI x4), some (mI x5)] [] s Q) (h_3 : ¬ (s 434 x3.toNat) = 0 → Wp X d 298 36 [some (mR 407), some (mI x1), some (mI x2), some (mI x3), some (mI x4), some (mI x5)] [] s Q) : Wp X d 298 27 [some (mR 407), some (mI x1), some (mI x2), some (mI x3), some (mI x4), some (mI x5)] [] s Q := Wp_step k298 f298_27 (Wp_step k298 f298_28 ⟨kf_407, 434, rf_407_51, Wp_step k298 f298_31 (Wp_step k298 f298_32 ⟨24, 7, af_434, (Or.inr rfl), h_1, Wp_step k298 f298_33 ⟨h_2, h_3⟩⟩)⟩)
theorem b298_36 {X : (Nat → Int) × Nat} {d : Nat} {s : mSt} {Q : mQ} {x1 : Int} {x2 : Int} {x3 : Int} {x4 : Int} {x5 : Int} (h_1 : 0 ≤ x5 ∧ x5 < 7) (h_2 : (s 434 x5.toNat) = 0 → Wp X d 298 78 [some (mR 407), some (mI x1), some (mI x2), some (mI x3), some (mI x4), some (mI x5)] [mI x4] s Q) (h_3 : ¬ (s 434 x5.toNat) = 0 → Wp X d 298 48 [some (mR 407), some (mI x1), some (mI x2), some (mI x3), some (mI x4), some (mI x5)] [mI x4] s Q) : Wp X d 298 36 [some (mR 407), some (mI x1), some (mI x2), some (mI x3), some (mI x4), some (mI x5)] [] s Q := Wp_step k298 f298_36 (Wp_step k298 f298_38 (Wp_step k298 f298_39 ⟨kf_407, 434, rf_407_51, Wp_step k298 f298_42 (Wp_step k298 f298_44 ⟨24, 7, af_434, (Or.inr rfl), h_1, Wp_step k298 f298_45 ⟨h_2, h_3⟩⟩)⟩))
theorem b298_48 {X : (Nat → Int) × Nat} {d : Nat} {s : mSt} {Q : mQ} {x1 : Int} {x2 : Int} {x3 : Int} {x4 : Int} {x5 : Int} {xt0 : Int} (h_1 : 0 ≤ (w32 ((w32 (30 * x3)) + x1)) ∧ (w32 ((w32 (30 * x3)) + x1)) < 210) (h_2 : 0 ≤ (w32 ((w32 (30 * x5)) + x1)) ∧ (w32 ((w32 (30 * x5)) + x1)) < 210) (h_3 : ¬ (s 435 (w32 ((w32 (30 * x3)) + x1)).toNat) = (s 435 (w32 ((w32 (30 * x5)) + x1)).toNat) → Wp X d 298 78 [some (mR 407), some (mI x1), some (mI x2), some (mI x3), some (mI x4), some (mI x5)] [mI xt0] s Q) (h_4 : (s 435 (w32 ((w32 (30 * x3)) + x1)).toNat) = (s 435 (w32 ((w32 (30 * x5)) + x1)).toNat) → Wp X d 298 74 [some (mR 407), some (mI x1), some (mI x2), some (mI x3), some (mI x4), some (mI x5)] [mI xt0] s Q) : Wp X d 298 48 [some (mR 407), some (mI x1), some (mI x2), some (mI x3), some (mI x4), some (mI x5)] [mI xt0] s Q := Wp_step k298 f298_48 (Wp_step k298 f298_49 ⟨kf_407, 435, rf_407_52, Wp_step k298 f298_52 (Wp_step k298 f298_54 (Wp_step k298 f298_55 (Wp_step k298 f298_56 (Wp_step k298 f298_57 (Wp_step k298 f298_58 ⟨210, af_435, h_1, Wp_step k298 f298_59 (Wp_step k298 f298_60 ⟨kf_407, 435, rf_407_52, Wp_step k298 f298_63 (Wp_step k298 f298_65 (Wp_step k298 f298_67 (Wp_step k298 f298_68 (Wp_step k298 f298_69 (Wp_step k298 f298_70 ⟨210, af_435, h_2, Wp_step k298 f298_71 ⟨h_3, h_4⟩⟩)))))⟩)⟩)))))⟩)
theorem b298_74 {X : (Nat → Int) × Nat} {d : Nat} {s : mSt} {Q : mQ} {x1 : Int} {x2 : Int} {x3 : Int} {x4 : Int} {x5 : Int} {xt0 : Int} (h_1 : Wp X d 298 79 [some (mR 407), some (mI x1), some (mI x2), some (mI x3), some (mI x4), some (mI x5)] [mI 1, mI xt0] s Q) : Wp X d 298 74 [some (mR 407), some (mI x1), some (mI x2), some (mI x3), some (mI x4), some (mI x5)] [mI xt0] s Q := Wp_step k298 f298_74 (Wp_step k298 f298_75 (h_1))
theorem b298_78 {X : (Nat → Int) × Nat} {d : Nat} {s : mSt} {Q : mQ} {x1 : Int} {x2 : Int} {x3 : Int} {x4 : Int} {x5 : Int} {xt0 : Int} (h_1 : Wp X d 298 79 [some (mR 407), some (mI x1), some (mI x2), some (mI x3), some (mI x4), some (mI x5)] [mI 0, mI xt0] s Q) : Wp X d 298 78 [some (mR 407), some (mI x1), some (mI x2), some (mI x3), some (mI x4), some (mI x5)] [mI xt0] s Q := Wp_step k298 f298_78 (h_1)
theorem b298_79 {X : (Nat → Int) × Nat} {d : Nat} {s : mSt} {Q : mQ} {x1 : Int} {x2 : Int} {x3 : Int} {x4 : Int} {x5 : Int} {xt0 : Int} {xt1 : Int} (h_1 : Wp X d 298 18 [some (mR 407), some (mI x1), some (mI x2), some (mI x3), some (mI (w32 (xt0 + xt1))), some (mI (w32 (x5 + 1)))] [] s Q) : Wp X d 298 79 [some (mR 407), some (mI x1), some (mI x2), some (mI x3), some (mI x4), some (mI x5)] [mI xt1, mI xt0] s Q := Wp_step k298 f298_79 (Wp_step k298 f298_80 (Wp_step k298 f298_82 (Wp_step k298 f298_85 (h_1))))
theorem b298_88 {X : (Nat → Int) × Nat} {d : Nat} {s : mSt} {Q : mQ} {x1 : Int} {x2 : Int} {x3 : Int} {x4 : Int} {x5 : Int} (h_1 : x4 ≤ x2 → Wp X d 298 99 [some (mR 407), some (mI x1), some (mI x2), some (mI x3), some (mI x4), some (mI x5)] [] s Q) (h_2 : ¬ x4 ≤ x2 → Wp X d 298 94 [some (mR 407), some (mI x1), some (mI x2), some (mI x3), some (mI x4), some (mI x5)] [] s Q) : Wp X d 298 88 [some (mR 407), some (mI x1), some (mI x2), some (mI x3), some (mI x4), some (mI x5)] [] s Q := Wp_step k298 f298_88 (Wp_step k298 f298_90 (Wp_step k298 f298_91 ⟨h_1, h_2⟩))
theorem b298_94 {X : (Nat → Int) × Nat} {d : Nat} {s : mSt} {Q : mQ} {x1 : Int} {x2 : Int} {x3 : Int} {x4 : Int} {x5 : Int} (h_1 : Wp X d 298 100 [some (mR 407), some (mI x1), some (mI x2), some (mI x3), some (mI x4), some (mI x5)] [mI x4] s Q) : Wp X d 298 94 [some (mR 407), some (mI x1), some (mI x2), some (mI x3), some (mI x4), some (mI x5)] [] s Q := Wp_step k298 f298_94 (Wp_step k298 f298_96 (h_1))
theorem b298_99 {X : (Nat → Int) × Nat} {d : Nat} {s : mSt} {Q : mQ} {x1 : Int} {x2 : Int} {x3 : Int} {x4 : Int} {x5 : Int} (h_1 : Wp X d 298 100 [some (mR 407), some (mI x1), some (mI x2), some (mI x3), some (mI x4), some (mI x5)] [mI x2] s Q) : Wp X d 298 99 [some (mR 407), some (mI x1), some (mI x2), some (mI x3), some (mI x4), some (mI x5)] [] s Q := Wp_step k298 f298_99 (h_1)
theorem b298_100 {X : (Nat → Int) × Nat} {d : Nat} {s : mSt} {Q : mQ} {x1 : Int} {x2 : Int} {x3 : Int} {x4 : Int} {x5 : Int} {xt0 : Int} (h_1 : Wp X d 298 4 [some (mR 407), some (mI x1), some (mI xt0), some (mI (w32 (x3 + 1))), some (mI x4), some (mI x5)] [] s Q) : Wp X d 298 100 [some (mR 407), some (mI x1), some (mI x2), some (mI x3), some (mI x4), some (mI x5)] [mI xt0] s Q := Wp_step k298 f298_100 (Wp_step k298 f298_101 (Wp_step k298 f298_104 (h_1)))
theorem b298_107 {X : (Nat → Int) × Nat} {d : Nat} {s : mSt} {Q : mQ} {x1 : Int} {x2 : Int} {x3 : Int} (h_1 : Q (some (mI x2)) s) : Wp X d 298 107 [some (mR 407), some (mI x1), some (mI x2), some (mI x3), none, none] [] s Q := Wp_step k298 f298_107 (Wp_step k298 f298_108 ⟨⟨rfl, trivial⟩, h_1⟩)
theorem e298 {X : (Nat → Int) × Nat} {d : Nat} {s : mSt} {Q : mQ} {x1 : Int} (h : Wp X d 298 0 [some (mR 407), some (mI x1), none, none, none, none] [] s Q) : Sp X d 298 [mR 407, mI x1] s Q := Sp_of (show mCe 298 = 0 by decide +kernel) (by rw [show mML 298 = 6 by decide +kernel]; rfl) (Nat.le_trans (Nat.le_of_ble_eq_true (show Nat.ble (mArgs _).length 6 = true from rfl)) (show 6 ≤ mML 298 by decide +kernel)) h
-- 299 ClashDayModel.look(II)I
theorem k299 : mRk 299 = 1 := by decide +kernel
theorem f299_0 : mFetch 299 0 = some (.aload_n 0, 1, 0, 0, 0, 0) := by decide +kernel
theorem f299_1 : mFetch 299 1 = some (.invokevirtual 354, 3, 212, 0, 1, 12) := by decide +kernel
theorem f299_4 : mFetch 299 4 = some (.ifCond .eq 25, 3, 29, 0, 0, 0) := by decide +kernel
theorem f299_7 : mFetch 299 7 = some (.iload_n 1, 1, 0, 0, 0, 0) := by decide +kernel
theorem f299_8 : mFetch 299 8 = some (.i2l, 1, 0, 0, 0, 0) := by decide +kernel
theorem f299_9 : mFetch 299 9 = some (.lconst 0, 1, 0, 0, 0, 0) := by decide +kernel
theorem f299_10 : mFetch 299 10 = some (.ldc2_w 461, 3, 9, 0, 0, 0) := by decide +kernel
theorem f299_13 : mFetch 299 13 = some (.invokestatic 151, 3, 167, 0, 3, 99) := by decide +kernel
theorem f299_16 : mFetch 299 16 = some (.ifCond .eq 13, 3, 29, 0, 0, 0) := by decide +kernel
theorem f299_19 : mFetch 299 19 = some (.iload_n 2, 1, 0, 0, 0, 0) := by decide +kernel
theorem f299_20 : mFetch 299 20 = some (.i2l, 1, 0, 0, 0, 0) := by decide +kernel
theorem f299_21 : mFetch 299 21 = some (.lconst 0, 1, 0, 0, 0, 0) := by decide +kernel
theorem f299_22 : mFetch 299 22 = some (.lconst 1, 1, 0, 0, 0, 0) := by decide +kernel
theorem f299_23 : mFetch 299 23 = some (.invokestatic 151, 3, 167, 0, 3, 99) := by decide +kernel
theorem f299_26 : mFetch 299 26 = some (.ifCond .ne 5, 3, 31, 0, 0, 0) := by decide +kernel
theorem f299_29 : mFetch 299 29 = some (.iconst (-1), 1, 0, 0, 0, 0) := by decide +kernel
theorem f299_30 : mFetch 299 30 = some (.ireturn, 1, 0, 0, 0, 0) := by decide +kernel
theorem f299_31 : mFetch 299 31 = some (.aload_n 0, 1, 0, 0, 0, 0) := by decide +kernel
theorem f299_32 : mFetch 299 32 = some (.iload_n 1, 1, 0, 0, 0, 0) := by decide +kernel
theorem f299_33 : mFetch 299 33 = some (.invokevirtual 545, 3, 296, 0, 2, 12) := by decide +kernel
theorem f299_36 : mFetch 299 36 = some (.bipush (-2), 2, 0, 0, 0, 0) := by decide +kernel
theorem f299_38 : mFetch 299 38 = some (.istore_n 3, 1, 0, 0, 0, 0) := by decide +kernel
theorem f299_39 : mFetch 299 39 = some (.bipush (-2), 2, 0, 0, 0, 0) := by decide +kernel
theorem f299_41 : mFetch 299 41 = some (.istore 4, 2, 0, 0, 0, 0) := by decide +kernel
theorem f299_43 : mFetch 299 43 = some (.iconst 0, 1, 0, 0, 0, 0) := by decide +kernel
theorem f299_44 : mFetch 299 44 = some (.istore 5, 2, 0, 0, 0, 0) := by decide +kernel
theorem f299_46 : mFetch 299 46 = some (.iload 5, 2, 0, 0, 0, 0) := by decide +kernel
theorem f299_48 : mFetch 299 48 = some (.bipush 30, 2, 0, 0, 0, 0) := by decide +kernel
theorem f299_50 : mFetch 299 50 = some (.if_icmp .ge 43, 3, 93, 0, 0, 0) := by decide +kernel
theorem f299_53 : mFetch 299 53 = some (.aload_n 0, 1, 0, 0, 0, 0) := by decide +kernel
theorem f299_54 : mFetch 299 54 = some (.iload 5, 2, 0, 0, 0, 0) := by decide +kernel
theorem f299_56 : mFetch 299 56 = some (.invokevirtual 548, 3, 298, 0, 2, 12) := by decide +kernel
theorem f299_59 : mFetch 299 59 = some (.istore 6, 2, 0, 0, 0, 0) := by decide +kernel
theorem f299_61 : mFetch 299 61 = some (.iload 6, 2, 0, 0, 0, 0) := by decide +kernel
theorem f299_63 : mFetch 299 63 = some (.ifCond .eq 24, 3, 87, 0, 0, 0) := by decide +kernel
theorem f299_66 : mFetch 299 66 = some (.iload_n 3, 1, 0, 0, 0, 0) := by decide +kernel
theorem f299_67 : mFetch 299 67 = some (.ifCond .lt 13, 3, 80, 0, 0, 0) := by decide +kernel
theorem f299_70 : mFetch 299 70 = some (.iload 6, 2, 0, 0, 0, 0) := by decide +kernel
theorem f299_72 : mFetch 299 72 = some (.iload 4, 2, 0, 0, 0, 0) := by decide +kernel
theorem f299_74 : mFetch 299 74 = some (.if_icmp .lt 6, 3, 80, 0, 0, 0) := by decide +kernel
theorem f299_77 : mFetch 299 77 = some (.goto 10, 3, 87, 0, 0, 0) := by decide +kernel
theorem f299_80 : mFetch 299 80 = some (.iload 5, 2, 0, 0, 0, 0) := by decide +kernel
theorem f299_82 : mFetch 299 82 = some (.istore_n 3, 1, 0, 0, 0, 0) := by decide +kernel
theorem f299_83 : mFetch 299 83 = some (.iload 6, 2, 0, 0, 0, 0) := by decide +kernel
theorem f299_85 : mFetch 299 85 = some (.istore 4, 2, 0, 0, 0, 0) := by decide +kernel
theorem f299_87 : mFetch 299 87 = some (.iinc 5 1, 3, 0, 0, 0, 0) := by decide +kernel
theorem f299_90 : mFetch 299 90 = some (.goto (-44), 3, 46, 0, 0, 0) := by decide +kernel
theorem f299_93 : mFetch 299 93 = some (.iload_n 2, 1, 0, 0, 0, 0) := by decide +kernel
theorem f299_94 : mFetch 299 94 = some (.ifCond .ne 7, 3, 101, 0, 0, 0) := by decide +kernel
theorem f299_97 : mFetch 299 97 = some (.iload_n 3, 1, 0, 0, 0, 0) := by decide +kernel
theorem f299_98 : mFetch 299 98 = some (.goto 5, 3, 103, 0, 0, 0) := by decide +kernel
theorem f299_101 : mFetch 299 101 = some (.iload 4, 2, 0, 0, 0, 0) := by decide +kernel
theorem f299_103 : mFetch 299 103 = some (.ireturn, 1, 0, 0, 0, 0) := by decide +kernel
theorem b299_0 {X : (Nat → Int) × Nat} {d : Nat} {s : mSt} {Q : mQ} {x1 : Int} {x2 : Int} (h_1 : Sp X d 212 [mR 407] s (fun r s' => ∃ v : Int, r = some (mI v) ∧ Wp X (d + 1) 299 4 [some (mR 407), some (mI x1), some (mI x2), none, none, none, none] [mI v] s' Q)) : Wp X (d + 1) 299 0 [some (mR 407), some (mI x1), some (mI x2), none, none, none, none] [] s Q := Wp_step k299 f299_0 (Wp_step k299 f299_1 ⟨⟨kf_407, Nat.le_of_ble_eq_true rfl⟩, Nat.le_refl _, _, rfl, Sp_E h_1⟩)
theorem b299_4 {X : (Nat → Int) × Nat} {d : Nat} {s : mSt} {Q : mQ} {x1 : Int} {x2 : Int} {xt0 : Int} (h_1 : xt0 = 0 → Wp X d 299 29 [some (mR 407), some (mI x1), some (mI x2), none, none, none, none] [] s Q) (h_2 : ¬ xt0 = 0 → Wp X d 299 7 [some (mR 407), some (mI x1), some (mI x2), none, none, none, none] [] s Q) : Wp X d 299 4 [some (mR 407), some (mI x1), some (mI x2), none, none, none, none] [mI xt0] s Q := Wp_step k299 f299_4 ⟨h_1, h_2⟩
theorem b299_7 {X : (Nat → Int) × Nat} {d : Nat} {s : mSt} {Q : mQ} {x1 : Int} {x2 : Int} (h_1 : Sp X d 167 [mJ x1, mJ 0, mJ 9] s (fun r s' => ∃ v : Int, r = some (mI v) ∧ Wp X (d + 1) 299 16 [some (mR 407), some (mI x1), some (mI x2), none, none, none, none] [mI v] s' Q)) : Wp X (d + 1) 299 7 [some (mR 407), some (mI x1), some (mI x2), none, none, none, none] [] s Q := Wp_step k299 f299_7 (Wp_step k299 f299_8 (Wp_step k299 f299_9 (Wp_step k299 f299_10 (Wp_step k299 f299_13 ⟨⟨Nat.le_of_ble_eq_true rfl, Nat.le_refl _⟩, _, rfl, Sp_E h_1⟩))))
theorem b299_16 {X : (Nat → Int) × Nat} {d : Nat} {s : mSt} {Q : mQ} {x1 : Int} {x2 : Int} {xt0 : Int} (h_1 : xt0 = 0 → Wp X d 299 29 [some (mR 407), some (mI x1), some (mI x2), none, none, none, none] [] s Q) (h_2 : ¬ xt0 = 0 → Wp X d 299 19 [some (mR 407), some (mI x1), some (mI x2), none, none, none, none] [] s Q) : Wp X d 299 16 [some (mR 407), some (mI x1), some (mI x2), none, none, none, none] [mI xt0] s Q := Wp_step k299 f299_16 ⟨h_1, h_2⟩
theorem b299_19 {X : (Nat → Int) × Nat} {d : Nat} {s : mSt} {Q : mQ} {x1 : Int} {x2 : Int} (h_1 : Sp X d 167 [mJ x2, mJ 0, mJ 1] s (fun r s' => ∃ v : Int, r = some (mI v) ∧ Wp X (d + 1) 299 26 [some (mR 407), some (mI x1), some (mI x2), none, none, none, none] [mI v] s' Q)) : Wp X (d + 1) 299 19 [some (mR 407), some (mI x1), some (mI x2), none, none, none, none] [] s Q := Wp_step k299 f299_19 (Wp_step k299 f299_20 (Wp_step k299 f299_21 (Wp_step k299 f299_22 (Wp_step k299 f299_23 ⟨⟨Nat.le_of_ble_eq_true rfl, Nat.le_refl _⟩, _, rfl, Sp_E h_1⟩))))
theorem b299_26 {X : (Nat → Int) × Nat} {d : Nat} {s : mSt} {Q : mQ} {x1 : Int} {x2 : Int} {xt0 : Int} (h_1 : ¬ xt0 = 0 → Wp X d 299 31 [some (mR 407), some (mI x1), some (mI x2), none, none, none, none] [] s Q) (h_2 : xt0 = 0 → Wp X d 299 29 [some (mR 407), some (mI x1), some (mI x2), none, none, none, none] [] s Q) : Wp X d 299 26 [some (mR 407), some (mI x1), some (mI x2), none, none, none, none] [mI xt0] s Q := Wp_step k299 f299_26 ⟨h_1, h_2⟩
theorem b299_29 {X : (Nat → Int) × Nat} {d : Nat} {s : mSt} {Q : mQ} {x1 : Int} {x2 : Int} (h_1 : Q (some (mI (-1))) s) : Wp X d 299 29 [some (mR 407), some (mI x1), some (mI x2), none, none, none, none] [] s Q := Wp_step k299 f299_29 (Wp_step k299 f299_30 ⟨⟨rfl, trivial⟩, h_1⟩)
theorem b299_31 {X : (Nat → Int) × Nat} {d : Nat} {s : mSt} {Q : mQ} {x1 : Int} {x2 : Int} (h_1 : Sp X d 296 [mR 407, mI x1] s (fun r s' => r = none ∧ Wp X (d + 1) 299 36 [some (mR 407), some (mI x1), some (mI x2), none, none, none, none] [] s' Q)) : Wp X (d + 1) 299 31 [some (mR 407), some (mI x1), some (mI x2), none, none, none, none] [] s Q := Wp_step k299 f299_31 (Wp_step k299 f299_32 (Wp_step k299 f299_33 ⟨⟨kf_407, Nat.le_of_ble_eq_true rfl⟩, Nat.le_refl _, _, rfl, Sp_V h_1⟩))
theorem b299_36 {X : (Nat → Int) × Nat} {d : Nat} {s : mSt} {Q : mQ} {x1 : Int} {x2 : Int} (h_1 : Wp X d 299 46 [some (mR 407), some (mI x1), some (mI x2), some (mI (-2)), some (mI (-2)), some (mI 0), none] [] s Q) : Wp X d 299 36 [some (mR 407), some (mI x1), some (mI x2), none, none, none, none] [] s Q := Wp_step k299 f299_36 (Wp_step k299 f299_38 (Wp_step k299 f299_39 (Wp_step k299 f299_41 (Wp_step k299 f299_43 (Wp_step k299 f299_44 (h_1))))))
theorem b299_46 {X : (Nat → Int) × Nat} {d : Nat} {s : mSt} {Q : mQ} {x1 : Int} {x2 : Int} {x3 : Int} {x4 : Int} {x5 : Int} (h_1 : 30 ≤ x5 → Wp X d 299 93 [some (mR 407), some (mI x1), some (mI x2), some (mI x3), some (mI x4), some (mI x5), none] [] s Q) (h_2 : ¬ 30 ≤ x5 → Wp X d 299 53 [some (mR 407), some (mI x1), some (mI x2), some (mI x3), some (mI x4), some (mI x5), none] [] s Q) : Wp X d 299 46 [some (mR 407), some (mI x1), some (mI x2), some (mI x3), some (mI x4), some (mI x5), none] [] s Q := Wp_step k299 f299_46 (Wp_step k299 f299_48 (Wp_step k299 f299_50 ⟨h_1, h_2⟩))
theorem b299_53 {X : (Nat → Int) × Nat} {d : Nat} {s : mSt} {Q : mQ} {x1 : Int} {x2 : Int} {x3 : Int} {x4 : Int} {x5 : Int} (h_1 : Sp X d 298 [mR 407, mI x5] s (fun r s' => ∃ v : Int, r = some (mI v) ∧ Wp X (d + 1) 299 59 [some (mR 407), some (mI x1), some (mI x2), some (mI x3), some (mI x4), some (mI x5), none] [mI v] s' Q)) : Wp X (d + 1) 299 53 [some (mR 407), some (mI x1), some (mI x2), some (mI x3), some (mI x4), some (mI x5), none] [] s Q := Wp_step k299 f299_53 (Wp_step k299 f299_54 (Wp_step k299 f299_56 ⟨⟨kf_407, Nat.le_of_ble_eq_true rfl⟩, Nat.le_refl _, _, rfl, Sp_E h_1⟩))
theorem b299_59 {X : (Nat → Int) × Nat} {d : Nat} {s : mSt} {Q : mQ} {x1 : Int} {x2 : Int} {x3 : Int} {x4 : Int} {x5 : Int} {xt0 : Int} (h_1 : xt0 = 0 → Wp X d 299 87 [some (mR 407), some (mI x1), some (mI x2), some (mI x3), some (mI x4), some (mI x5), some (mI xt0)] [] s Q) (h_2 : ¬ xt0 = 0 → Wp X d 299 66 [some (mR 407), some (mI x1), some (mI x2), some (mI x3), some (mI x4), some (mI x5), some (mI xt0)] [] s Q) : Wp X d 299 59 [some (mR 407), some (mI x1), some (mI x2), some (mI x3), some (mI x4), some (mI x5), none] [mI xt0] s Q := Wp_step k299 f299_59 (Wp_step k299 f299_61 (Wp_step k299 f299_63 ⟨h_1, h_2⟩))
theorem b299_66 {X : (Nat → Int) × Nat} {d : Nat} {s : mSt} {Q : mQ} {x1 : Int} {x2 : Int} {x3 : Int} {x4 : Int} {x5 : Int} {x6 : Int} (h_1 : x3 < 0 → Wp X d 299 80 [some (mR 407), some (mI x1), some (mI x2), some (mI x3), some (mI x4), some (mI x5), some (mI x6)] [] s Q) (h_2 : ¬ x3 < 0 → Wp X d 299 70 [some (mR 407), some (mI x1), some (mI x2), some (mI x3), some (mI x4), some (mI x5), some (mI x6)] [] s Q) : Wp X d 299 66 [some (mR 407), some (mI x1), some (mI x2), some (mI x3), some (mI x4), some (mI x5), some (mI x6)] [] s Q := Wp_step k299 f299_66 (Wp_step k299 f299_67 ⟨h_1, h_2⟩)
theorem b299_70 {X : (Nat → Int) × Nat} {d : Nat} {s : mSt} {Q : mQ} {x1 : Int} {x2 : Int} {x3 : Int} {x4 : Int} {x5 : Int} {x6 : Int} (h_1 : x6 < x4 → Wp X d 299 80 [some (mR 407), some (mI x1), some (mI x2), some (mI x3), some (mI x4), some (mI x5), some (mI x6)] [] s Q) (h_2 : ¬ x6 < x4 → Wp X d 299 77 [some (mR 407), some (mI x1), some (mI x2), some (mI x3), some (mI x4), some (mI x5), some (mI x6)] [] s Q) : Wp X d 299 70 [some (mR 407), some (mI x1), some (mI x2), some (mI x3), some (mI x4), some (mI x5), some (mI x6)] [] s Q := Wp_step k299 f299_70 (Wp_step k299 f299_72 (Wp_step k299 f299_74 ⟨h_1, h_2⟩))
theorem b299_77 {X : (Nat → Int) × Nat} {d : Nat} {s : mSt} {Q : mQ} {x1 : Int} {x2 : Int} {x3 : Int} {x4 : Int} {x5 : Int} {x6 : Int} (h_1 : Wp X d 299 87 [some (mR 407), some (mI x1), some (mI x2), some (mI x3), some (mI x4), some (mI x5), some (mI x6)] [] s Q) : Wp X d 299 77 [some (mR 407), some (mI x1), some (mI x2), some (mI x3), some (mI x4), some (mI x5), some (mI x6)] [] s Q := Wp_step k299 f299_77 (h_1)
theorem b299_80 {X : (Nat → Int) × Nat} {d : Nat} {s : mSt} {Q : mQ} {x1 : Int} {x2 : Int} {x3 : Int} {x4 : Int} {x5 : Int} {x6 : Int} (h_1 : Wp X d 299 87 [some (mR 407), some (mI x1), some (mI x2), some (mI x5), some (mI x6), some (mI x5), some (mI x6)] [] s Q) : Wp X d 299 80 [some (mR 407), some (mI x1), some (mI x2), some (mI x3), some (mI x4), some (mI x5), some (mI x6)] [] s Q := Wp_step k299 f299_80 (Wp_step k299 f299_82 (Wp_step k299 f299_83 (Wp_step k299 f299_85 (h_1))))
theorem b299_87 {X : (Nat → Int) × Nat} {d : Nat} {s : mSt} {Q : mQ} {x1 : Int} {x2 : Int} {x3 : Int} {x4 : Int} {x5 : Int} {x6 : Int} (h_1 : Wp X d 299 46 [some (mR 407), some (mI x1), some (mI x2), some (mI x3), some (mI x4), some (mI (w32 (x5 + 1))), some (mI x6)] [] s Q) : Wp X d 299 87 [some (mR 407), some (mI x1), some (mI x2), some (mI x3), some (mI x4), some (mI x5), some (mI x6)] [] s Q := Wp_step k299 f299_87 (Wp_step k299 f299_90 (h_1))
theorem b299_93 {X : (Nat → Int) × Nat} {d : Nat} {s : mSt} {Q : mQ} {x1 : Int} {x2 : Int} {x3 : Int} {x4 : Int} {x5 : Int} (h_1 : ¬ x2 = 0 → Wp X d 299 101 [some (mR 407), some (mI x1), some (mI x2), some (mI x3), some (mI x4), some (mI x5), none] [] s Q) (h_2 : x2 = 0 → Wp X d 299 97 [some (mR 407), some (mI x1), some (mI x2), some (mI x3), some (mI x4), some (mI x5), none] [] s Q) : Wp X d 299 93 [some (mR 407), some (mI x1), some (mI x2), some (mI x3), some (mI x4), some (mI x5), none] [] s Q := Wp_step k299 f299_93 (Wp_step k299 f299_94 ⟨h_1, h_2⟩)
theorem b299_97 {X : (Nat → Int) × Nat} {d : Nat} {s : mSt} {Q : mQ} {x1 : Int} {x2 : Int} {x3 : Int} {x4 : Int} {x5 : Int} (h_1 : Wp X d 299 103 [some (mR 407), some (mI x1), some (mI x2), some (mI x3), some (mI x4), some (mI x5), none] [mI x3] s Q) : Wp X d 299 97 [some (mR 407), some (mI x1), some (mI x2), some (mI x3), some (mI x4), some (mI x5), none] [] s Q := Wp_step k299 f299_97 (Wp_step k299 f299_98 (h_1))
theorem b299_101 {X : (Nat → Int) × Nat} {d : Nat} {s : mSt} {Q : mQ} {x1 : Int} {x2 : Int} {x3 : Int} {x4 : Int} {x5 : Int} (h_1 : Wp X d 299 103 [some (mR 407), some (mI x1), some (mI x2), some (mI x3), some (mI x4), some (mI x5), none] [mI x4] s Q) : Wp X d 299 101 [some (mR 407), some (mI x1), some (mI x2), some (mI x3), some (mI x4), some (mI x5), none] [] s Q := Wp_step k299 f299_101 (h_1)
theorem b299_103 {X : (Nat → Int) × Nat} {d : Nat} {s : mSt} {Q : mQ} {x1 : Int} {x2 : Int} {x3 : Int} {x4 : Int} {x5 : Int} {xt0 : Int} (h_1 : Q (some (mI xt0)) s) : Wp X d 299 103 [some (mR 407), some (mI x1), some (mI x2), some (mI x3), some (mI x4), some (mI x5), none] [mI xt0] s Q := Wp_step k299 f299_103 ⟨⟨rfl, trivial⟩, h_1⟩
theorem e299 {X : (Nat → Int) × Nat} {d : Nat} {s : mSt} {Q : mQ} {x1 : Int} {x2 : Int} (h : Wp X d 299 0 [some (mR 407), some (mI x1), some (mI x2), none, none, none, none] [] s Q) : Sp X d 299 [mR 407, mI x1, mI x2] s Q := Sp_of (show mCe 299 = 0 by decide +kernel) (by rw [show mML 299 = 7 by decide +kernel]; rfl) (Nat.le_trans (Nat.le_of_ble_eq_true (show Nat.ble (mArgs _).length 7 = true from rfl)) (show 7 ≤ mML 299 by decide +kernel)) h
-- 300 ClashDayModel.canBe(III)I
theorem k300 : mRk 300 = 1 := by decide +kernel
theorem f300_0 : mFetch 300 0 = some (.aload_n 0, 1, 0, 0, 0, 0) := by decide +kernel
theorem f300_1 : mFetch 300 1 = some (.getfield 39, 3, 12, 20, 2, 1) := by decide +kernel
theorem f300_4 : mFetch 300 4 = some (.iload_n 1, 1, 0, 0, 0, 0) := by decide +kernel
theorem f300_5 : mFetch 300 5 = some (.iaload, 1, 0, 0, 0, 0) := by decide +kernel
theorem f300_6 : mFetch 300 6 = some (.istore 4, 2, 0, 0, 0, 0) := by decide +kernel
theorem f300_8 : mFetch 300 8 = some (.iconst 0, 1, 0, 0, 0, 0) := by decide +kernel
theorem f300_9 : mFetch 300 9 = some (.istore 5, 2, 0, 0, 0, 0) := by decide +kernel
theorem f300_11 : mFetch 300 11 = some (.aload_n 0, 1, 0, 0, 0, 0) := by decide +kernel
theorem f300_12 : mFetch 300 12 = some (.invokevirtual 502, 3, 277, 0, 1, 12) := by decide +kernel
theorem f300_15 : mFetch 300 15 = some (.iconst 0, 1, 0, 0, 0, 0) := by decide +kernel
theorem f300_16 : mFetch 300 16 = some (.istore 6, 2, 0, 0, 0, 0) := by decide +kernel
theorem f300_18 : mFetch 300 18 = some (.iload 6, 2, 0, 0, 0, 0) := by decide +kernel
theorem f300_20 : mFetch 300 20 = some (.iload_n 2, 1, 0, 0, 0, 0) := by decide +kernel
theorem f300_21 : mFetch 300 21 = some (.if_icmp .ge 37, 3, 58, 0, 0, 0) := by decide +kernel
theorem f300_24 : mFetch 300 24 = some (.aload_n 0, 1, 0, 0, 0, 0) := by decide +kernel
theorem f300_25 : mFetch 300 25 = some (.getfield 39, 3, 12, 20, 2, 1) := by decide +kernel
theorem f300_28 : mFetch 300 28 = some (.iload_n 1, 1, 0, 0, 0, 0) := by decide +kernel
theorem f300_29 : mFetch 300 29 = some (.iload 6, 2, 0, 0, 0, 0) := by decide +kernel
theorem f300_31 : mFetch 300 31 = some (.iload_n 3, 1, 0, 0, 0, 0) := by decide +kernel
theorem f300_32 : mFetch 300 32 = some (.imul, 1, 0, 0, 0, 0) := by decide +kernel
theorem f300_33 : mFetch 300 33 = some (.iastore, 1, 0, 0, 0, 0) := by decide +kernel
theorem f300_34 : mFetch 300 34 = some (.aload_n 0, 1, 0, 0, 0, 0) := by decide +kernel
theorem f300_35 : mFetch 300 35 = some (.iconst 0, 1, 0, 0, 0, 0) := by decide +kernel
theorem f300_36 : mFetch 300 36 = some (.iconst (-1), 1, 0, 0, 0, 0) := by decide +kernel
theorem f300_37 : mFetch 300 37 = some (.invokevirtual 542, 3, 295, 0, 3, 12) := by decide +kernel
theorem f300_40 : mFetch 300 40 = some (.ifCond .eq 12, 3, 52, 0, 0, 0) := by decide +kernel
theorem f300_43 : mFetch 300 43 = some (.iload 5, 2, 0, 0, 0, 0) := by decide +kernel
theorem f300_45 : mFetch 300 45 = some (.iconst 1, 1, 0, 0, 0, 0) := by decide +kernel
theorem f300_46 : mFetch 300 46 = some (.iload 6, 2, 0, 0, 0, 0) := by decide +kernel
theorem f300_48 : mFetch 300 48 = some (.ishl, 1, 0, 0, 0, 0) := by decide +kernel
theorem f300_49 : mFetch 300 49 = some (.ior, 1, 0, 0, 0, 0) := by decide +kernel
theorem f300_50 : mFetch 300 50 = some (.istore 5, 2, 0, 0, 0, 0) := by decide +kernel
theorem f300_52 : mFetch 300 52 = some (.iinc 6 1, 3, 0, 0, 0, 0) := by decide +kernel
theorem f300_55 : mFetch 300 55 = some (.goto (-37), 3, 18, 0, 0, 0) := by decide +kernel
theorem f300_58 : mFetch 300 58 = some (.aload_n 0, 1, 0, 0, 0, 0) := by decide +kernel
theorem f300_59 : mFetch 300 59 = some (.getfield 39, 3, 12, 20, 2, 1) := by decide +kernel
theorem f300_62 : mFetch 300 62 = some (.iload_n 1, 1, 0, 0, 0, 0) := by decide +kernel
theorem f300_63 : mFetch 300 63 = some (.iload 4, 2, 0, 0, 0, 0) := by decide +kernel
theorem f300_65 : mFetch 300 65 = some (.iastore, 1, 0, 0, 0, 0) := by decide +kernel
theorem f300_66 : mFetch 300 66 = some (.aload_n 0, 1, 0, 0, 0, 0) := by decide +kernel
theorem f300_67 : mFetch 300 67 = some (.invokevirtual 491, 3, 278, 0, 1, 12) := by decide +kernel
theorem f300_70 : mFetch 300 70 = some (.iload 5, 2, 0, 0, 0, 0) := by decide +kernel
theorem f300_72 : mFetch 300 72 = some (.ireturn, 1, 0, 0, 0, 0) := by decide +kernel
theorem b300_0 {X : (Nat → Int) × Nat} {d : Nat} {s : mSt} {Q : mQ} {x1 : Int} {x2 : Int} {x3 : Int} (h_1 : 0 ≤ x1 ∧ x1 < 166) (h_2 : Sp X d 277 [mR 407] s (fun r s' => r = none ∧ Wp X (d + 1) 300 15 [some (mR 407), some (mI x1), some (mI x2), some (mI x3), some (mI (s 417 x1.toNat)), some (mI 0), none] [] s' Q)) : Wp X (d + 1) 300 0 [some (mR 407), some (mI x1), some (mI x2), some (mI x3), none, none, none] [] s Q := Wp_step k300 f300_0 (Wp_step k300 f300_1 ⟨kf_407, 417, rf_407_20, Wp_step k300 f300_4 (Wp_step k300 f300_5 ⟨166, af_417, h_1, Wp_step k300 f300_6 (Wp_step k300 f300_8 (Wp_step k300 f300_9 (Wp_step k300 f300_11 (Wp_step k300 f300_12 ⟨⟨kf_407, Nat.le_of_ble_eq_true rfl⟩, Nat.le_refl _, _, rfl, Sp_V h_2⟩))))⟩)⟩)
theorem b300_15 {X : (Nat → Int) × Nat} {d : Nat} {s : mSt} {Q : mQ} {x1 : Int} {x2 : Int} {x3 : Int} {x4 : Int} {x5 : Int} (h_1 : Wp X d 300 18 [some (mR 407), some (mI x1), some (mI x2), some (mI x3), some (mI x4), some (mI x5), some (mI 0)] [] s Q) : Wp X d 300 15 [some (mR 407), some (mI x1), some (mI x2), some (mI x3), some (mI x4), some (mI x5), none] [] s Q := Wp_step k300 f300_15 (Wp_step k300 f300_16 (h_1))
theorem b300_18 {X : (Nat → Int) × Nat} {d : Nat} {s : mSt} {Q : mQ} {x1 : Int} {x2 : Int} {x3 : Int} {x4 : Int} {x5 : Int} {x6 : Int} (h_1 : x2 ≤ x6 → Wp X d 300 58 [some (mR 407), some (mI x1), some (mI x2), some (mI x3), some (mI x4), some (mI x5), some (mI x6)] [] s Q) (h_2 : ¬ x2 ≤ x6 → Wp X d 300 24 [some (mR 407), some (mI x1), some (mI x2), some (mI x3), some (mI x4), some (mI x5), some (mI x6)] [] s Q) : Wp X d 300 18 [some (mR 407), some (mI x1), some (mI x2), some (mI x3), some (mI x4), some (mI x5), some (mI x6)] [] s Q := Wp_step k300 f300_18 (Wp_step k300 f300_20 (Wp_step k300 f300_21 ⟨h_1, h_2⟩))
theorem b300_24 {X : (Nat → Int) × Nat} {d : Nat} {s : mSt} {Q : mQ} {x1 : Int} {x2 : Int} {x3 : Int} {x4 : Int} {x5 : Int} {x6 : Int} (h_1 : 0 ≤ x1 ∧ x1 < 166) (h_2 : Sp X d 295 [mR 407, mI 0, mI (-1)] (uS s 417 x1.toNat (w32 (x6 * x3))) (fun r s' => ∃ v : Int, r = some (mI v) ∧ Wp X (d + 1) 300 40 [some (mR 407), some (mI x1), some (mI x2), some (mI x3), some (mI x4), some (mI x5), some (mI x6)] [mI v] s' Q)) : Wp X (d + 1) 300 24 [some (mR 407), some (mI x1), some (mI x2), some (mI x3), some (mI x4), some (mI x5), some (mI x6)] [] s Q := Wp_step k300 f300_24 (Wp_step k300 f300_25 ⟨kf_407, 417, rf_407_20, Wp_step k300 f300_28 (Wp_step k300 f300_29 (Wp_step k300 f300_31 (Wp_step k300 f300_32 (Wp_step k300 f300_33 ⟨166, af_417, h_1, Wp_step k300 f300_34 (Wp_step k300 f300_35 (Wp_step k300 f300_36 (Wp_step k300 f300_37 ⟨⟨kf_407, Nat.le_of_ble_eq_true rfl⟩, Nat.le_refl _, _, rfl, Sp_E h_2⟩)))⟩))))⟩)
theorem b300_40 {X : (Nat → Int) × Nat} {d : Nat} {s : mSt} {Q : mQ} {x1 : Int} {x2 : Int} {x3 : Int} {x4 : Int} {x5 : Int} {x6 : Int} {xt0 : Int} (h_1 : xt0 = 0 → Wp X d 300 52 [some (mR 407), some (mI x1), some (mI x2), some (mI x3), some (mI x4), some (mI x5), some (mI x6)] [] s Q) (h_2 : ¬ xt0 = 0 → Wp X d 300 43 [some (mR 407), some (mI x1), some (mI x2), some (mI x3), some (mI x4), some (mI x5), some (mI x6)] [] s Q) : Wp X d 300 40 [some (mR 407), some (mI x1), some (mI x2), some (mI x3), some (mI x4), some (mI x5), some (mI x6)] [mI xt0] s Q := Wp_step k300 f300_40 ⟨h_1, h_2⟩
theorem b300_43 {X : (Nat → Int) × Nat} {d : Nat} {s : mSt} {Q : mQ} {x1 : Int} {x2 : Int} {x3 : Int} {x4 : Int} {x5 : Int} {x6 : Int} (h_1 : Wp X d 300 52 [some (mR 407), some (mI x1), some (mI x2), some (mI x3), some (mI x4), some (mI (iOr x5 (iShl 1 x6))), some (mI x6)] [] s Q) : Wp X d 300 43 [some (mR 407), some (mI x1), some (mI x2), some (mI x3), some (mI x4), some (mI x5), some (mI x6)] [] s Q := Wp_step k300 f300_43 (Wp_step k300 f300_45 (Wp_step k300 f300_46 (Wp_step k300 f300_48 (Wp_step k300 f300_49 (Wp_step k300 f300_50 (h_1))))))
theorem b300_52 {X : (Nat → Int) × Nat} {d : Nat} {s : mSt} {Q : mQ} {x1 : Int} {x2 : Int} {x3 : Int} {x4 : Int} {x5 : Int} {x6 : Int} (h_1 : Wp X d 300 18 [some (mR 407), some (mI x1), some (mI x2), some (mI x3), some (mI x4), some (mI x5), some (mI (w32 (x6 + 1)))] [] s Q) : Wp X d 300 52 [some (mR 407), some (mI x1), some (mI x2), some (mI x3), some (mI x4), some (mI x5), some (mI x6)] [] s Q := Wp_step k300 f300_52 (Wp_step k300 f300_55 (h_1))
theorem b300_58 {X : (Nat → Int) × Nat} {d : Nat} {s : mSt} {Q : mQ} {x1 : Int} {x2 : Int} {x3 : Int} {x4 : Int} {x5 : Int} {x6 : Int} (h_1 : 0 ≤ x1 ∧ x1 < 166) (h_2 : Sp X d 278 [mR 407] (uS s 417 x1.toNat x4) (fun r s' => r = none ∧ Wp X (d + 1) 300 70 [some (mR 407), some (mI x1), some (mI x2), some (mI x3), some (mI x4), some (mI x5), some (mI x6)] [] s' Q)) : Wp X (d + 1) 300 58 [some (mR 407), some (mI x1), some (mI x2), some (mI x3), some (mI x4), some (mI x5), some (mI x6)] [] s Q := Wp_step k300 f300_58 (Wp_step k300 f300_59 ⟨kf_407, 417, rf_407_20, Wp_step k300 f300_62 (Wp_step k300 f300_63 (Wp_step k300 f300_65 ⟨166, af_417, h_1, Wp_step k300 f300_66 (Wp_step k300 f300_67 ⟨⟨kf_407, Nat.le_of_ble_eq_true rfl⟩, Nat.le_refl _, _, rfl, Sp_V h_2⟩)⟩))⟩)
theorem b300_70 {X : (Nat → Int) × Nat} {d : Nat} {s : mSt} {Q : mQ} {x1 : Int} {x2 : Int} {x3 : Int} {x4 : Int} {x5 : Int} {x6 : Int} (h_1 : Q (some (mI x5)) s) : Wp X d 300 70 [some (mR 407), some (mI x1), some (mI x2), some (mI x3), some (mI x4), some (mI x5), some (mI x6)] [] s Q := Wp_step k300 f300_70 (Wp_step k300 f300_72 ⟨⟨rfl, trivial⟩, h_1⟩)
theorem e300 {X : (Nat → Int) × Nat} {d : Nat} {s : mSt} {Q : mQ} {x1 : Int} {x2 : Int} {x3 : Int} (h : Wp X d 300 0 [some (mR 407), some (mI x1), some (mI x2), some (mI x3), none, none, none] [] s Q) : Sp X d 300 [mR 407, mI x1, mI x2, mI x3] s Q := Sp_of (show mCe 300 = 0 by decide +kernel) (by rw [show mML 300 = 7 by decide +kernel]; rfl) (Nat.le_trans (Nat.le_of_ble_eq_true (show Nat.ble (mArgs _).length 7 = true from rfl)) (show 7 ≤ mML 300 by decide +kernel)) h
-- 301 ClashDayModel.extras(II)I
theorem k301 : mRk 301 = 1 := by decide +kernel
theorem f301_0 : mFetch 301 0 = some (.aload_n 0, 1, 0, 0, 0, 0) := by decide +kernel
theorem f301_1 : mFetch 301 1 = some (.iload_n 1, 1, 0, 0, 0, 0) := by decide +kernel
theorem f301_2 : mFetch 301 2 = some (.invokevirtual 315, 3, 214, 0, 2, 12) := by decide +kernel
theorem f301_5 : mFetch 301 5 = some (.ifCond .eq 13, 3, 18, 0, 0, 0) := by decide +kernel
theorem f301_8 : mFetch 301 8 = some (.iload_n 2, 1, 0, 0, 0, 0) := by decide +kernel
theorem f301_9 : mFetch 301 9 = some (.i2l, 1, 0, 0, 0, 0) := by decide +kernel
theorem f301_10 : mFetch 301 10 = some (.lconst 0, 1, 0, 0, 0, 0) := by decide +kernel
theorem f301_11 : mFetch 301 11 = some (.lconst 1, 1, 0, 0, 0, 0) := by decide +kernel
theorem f301_12 : mFetch 301 12 = some (.invokestatic 151, 3, 167, 0, 3, 99) := by decide +kernel
theorem f301_15 : mFetch 301 15 = some (.ifCond .ne 5, 3, 20, 0, 0, 0) := by decide +kernel
theorem f301_18 : mFetch 301 18 = some (.iconst (-1), 1, 0, 0, 0, 0) := by decide +kernel
theorem f301_19 : mFetch 301 19 = some (.ireturn, 1, 0, 0, 0, 0) := by decide +kernel
theorem f301_20 : mFetch 301 20 = some (.aload_n 0, 1, 0, 0, 0, 0) := by decide +kernel
theorem f301_21 : mFetch 301 21 = some (.bipush 123, 2, 0, 0, 0, 0) := by decide +kernel
theorem f301_23 : mFetch 301 23 = some (.iload_n 1, 1, 0, 0, 0, 0) := by decide +kernel
theorem f301_24 : mFetch 301 24 = some (.iadd, 1, 0, 0, 0, 0) := by decide +kernel
theorem f301_25 : mFetch 301 25 = some (.bipush 6, 2, 0, 0, 0, 0) := by decide +kernel
theorem f301_27 : mFetch 301 27 = some (.bipush 20, 2, 0, 0, 0, 0) := by decide +kernel
theorem f301_29 : mFetch 301 29 = some (.invokevirtual 551, 3, 300, 0, 4, 12) := by decide +kernel
theorem f301_32 : mFetch 301 32 = some (.istore_n 3, 1, 0, 0, 0, 0) := by decide +kernel
theorem f301_33 : mFetch 301 33 = some (.iload_n 2, 1, 0, 0, 0, 0) := by decide +kernel
theorem f301_34 : mFetch 301 34 = some (.ifCond .ne 8, 3, 42, 0, 0, 0) := by decide +kernel
theorem f301_37 : mFetch 301 37 = some (.iload_n 3, 1, 0, 0, 0, 0) := by decide +kernel
theorem f301_38 : mFetch 301 38 = some (.invokestatic 427, 3, 169, 0, 1, 99) := by decide +kernel
theorem f301_41 : mFetch 301 41 = some (.ireturn, 1, 0, 0, 0, 0) := by decide +kernel
theorem f301_42 : mFetch 301 42 = some (.iconst 0, 1, 0, 0, 0, 0) := by decide +kernel
theorem f301_43 : mFetch 301 43 = some (.istore 4, 2, 0, 0, 0, 0) := by decide +kernel
theorem f301_45 : mFetch 301 45 = some (.iload 4, 2, 0, 0, 0, 0) := by decide +kernel
theorem f301_47 : mFetch 301 47 = some (.bipush 6, 2, 0, 0, 0, 0) := by decide +kernel
theorem f301_49 : mFetch 301 49 = some (.if_icmp .ge 24, 3, 73, 0, 0, 0) := by decide +kernel
theorem f301_52 : mFetch 301 52 = some (.iload_n 3, 1, 0, 0, 0, 0) := by decide +kernel
theorem f301_53 : mFetch 301 53 = some (.iload 4, 2, 0, 0, 0, 0) := by decide +kernel
theorem f301_55 : mFetch 301 55 = some (.invokestatic 318, 3, 168, 0, 2, 99) := by decide +kernel
theorem f301_58 : mFetch 301 58 = some (.ifCond .eq 9, 3, 67, 0, 0, 0) := by decide +kernel
theorem f301_61 : mFetch 301 61 = some (.bipush 20, 2, 0, 0, 0, 0) := by decide +kernel
theorem f301_63 : mFetch 301 63 = some (.iload 4, 2, 0, 0, 0, 0) := by decide +kernel
theorem f301_65 : mFetch 301 65 = some (.imul, 1, 0, 0, 0, 0) := by decide +kernel
theorem f301_66 : mFetch 301 66 = some (.ireturn, 1, 0, 0, 0, 0) := by decide +kernel
theorem f301_67 : mFetch 301 67 = some (.iinc 4 1, 3, 0, 0, 0, 0) := by decide +kernel
theorem f301_70 : mFetch 301 70 = some (.goto (-25), 3, 45, 0, 0, 0) := by decide +kernel
theorem f301_73 : mFetch 301 73 = some (.bipush (-2), 2, 0, 0, 0, 0) := by decide +kernel
theorem f301_75 : mFetch 301 75 = some (.ireturn, 1, 0, 0, 0, 0) := by decide +kernel
theorem b301_0 {X : (Nat → Int) × Nat} {d : Nat} {s : mSt} {Q : mQ} {x1 : Int} {x2 : Int} (h_1 : Sp X d 214 [mR 407, mI x1] s (fun r s' => ∃ v : Int, r = some (mI v) ∧ Wp X (d + 1) 301 5 [some (mR 407), some (mI x1), some (mI x2), none, none] [mI v] s' Q)) : Wp X (d + 1) 301 0 [some (mR 407), some (mI x1), some (mI x2), none, none] [] s Q := Wp_step k301 f301_0 (Wp_step k301 f301_1 (Wp_step k301 f301_2 ⟨⟨kf_407, Nat.le_of_ble_eq_true rfl⟩, Nat.le_refl _, _, rfl, Sp_E h_1⟩))
theorem b301_5 {X : (Nat → Int) × Nat} {d : Nat} {s : mSt} {Q : mQ} {x1 : Int} {x2 : Int} {xt0 : Int} (h_1 : xt0 = 0 → Wp X d 301 18 [some (mR 407), some (mI x1), some (mI x2), none, none] [] s Q) (h_2 : ¬ xt0 = 0 → Wp X d 301 8 [some (mR 407), some (mI x1), some (mI x2), none, none] [] s Q) : Wp X d 301 5 [some (mR 407), some (mI x1), some (mI x2), none, none] [mI xt0] s Q := Wp_step k301 f301_5 ⟨h_1, h_2⟩
theorem b301_8 {X : (Nat → Int) × Nat} {d : Nat} {s : mSt} {Q : mQ} {x1 : Int} {x2 : Int} (h_1 : Sp X d 167 [mJ x2, mJ 0, mJ 1] s (fun r s' => ∃ v : Int, r = some (mI v) ∧ Wp X (d + 1) 301 15 [some (mR 407), some (mI x1), some (mI x2), none, none] [mI v] s' Q)) : Wp X (d + 1) 301 8 [some (mR 407), some (mI x1), some (mI x2), none, none] [] s Q := Wp_step k301 f301_8 (Wp_step k301 f301_9 (Wp_step k301 f301_10 (Wp_step k301 f301_11 (Wp_step k301 f301_12 ⟨⟨Nat.le_of_ble_eq_true rfl, Nat.le_refl _⟩, _, rfl, Sp_E h_1⟩))))
theorem b301_15 {X : (Nat → Int) × Nat} {d : Nat} {s : mSt} {Q : mQ} {x1 : Int} {x2 : Int} {xt0 : Int} (h_1 : ¬ xt0 = 0 → Wp X d 301 20 [some (mR 407), some (mI x1), some (mI x2), none, none] [] s Q) (h_2 : xt0 = 0 → Wp X d 301 18 [some (mR 407), some (mI x1), some (mI x2), none, none] [] s Q) : Wp X d 301 15 [some (mR 407), some (mI x1), some (mI x2), none, none] [mI xt0] s Q := Wp_step k301 f301_15 ⟨h_1, h_2⟩
theorem b301_18 {X : (Nat → Int) × Nat} {d : Nat} {s : mSt} {Q : mQ} {x1 : Int} {x2 : Int} (h_1 : Q (some (mI (-1))) s) : Wp X d 301 18 [some (mR 407), some (mI x1), some (mI x2), none, none] [] s Q := Wp_step k301 f301_18 (Wp_step k301 f301_19 ⟨⟨rfl, trivial⟩, h_1⟩)
theorem b301_20 {X : (Nat → Int) × Nat} {d : Nat} {s : mSt} {Q : mQ} {x1 : Int} {x2 : Int} (h_1 : Sp X d 300 [mR 407, mI (w32 (123 + x1)), mI 6, mI 20] s (fun r s' => ∃ v : Int, r = some (mI v) ∧ Wp X (d + 1) 301 32 [some (mR 407), some (mI x1), some (mI x2), none, none] [mI v] s' Q)) : Wp X (d + 1) 301 20 [some (mR 407), some (mI x1), some (mI x2), none, none] [] s Q := Wp_step k301 f301_20 (Wp_step k301 f301_21 (Wp_step k301 f301_23 (Wp_step k301 f301_24 (Wp_step k301 f301_25 (Wp_step k301 f301_27 (Wp_step k301 f301_29 ⟨⟨kf_407, Nat.le_of_ble_eq_true rfl⟩, Nat.le_refl _, _, rfl, Sp_E h_1⟩))))))
theorem b301_32 {X : (Nat → Int) × Nat} {d : Nat} {s : mSt} {Q : mQ} {x1 : Int} {x2 : Int} {xt0 : Int} (h_1 : ¬ x2 = 0 → Wp X d 301 42 [some (mR 407), some (mI x1), some (mI x2), some (mI xt0), none] [] s Q) (h_2 : x2 = 0 → Wp X d 301 37 [some (mR 407), some (mI x1), some (mI x2), some (mI xt0), none] [] s Q) : Wp X d 301 32 [some (mR 407), some (mI x1), some (mI x2), none, none] [mI xt0] s Q := Wp_step k301 f301_32 (Wp_step k301 f301_33 (Wp_step k301 f301_34 ⟨h_1, h_2⟩))
theorem b301_37 {X : (Nat → Int) × Nat} {d : Nat} {s : mSt} {Q : mQ} {x1 : Int} {x2 : Int} {x3 : Int} (h_1 : Sp X d 169 [mI x3] s (fun r s' => ∃ v : Int, r = some (mI v) ∧ Wp X (d + 1) 301 41 [some (mR 407), some (mI x1), some (mI x2), some (mI x3), none] [mI v] s' Q)) : Wp X (d + 1) 301 37 [some (mR 407), some (mI x1), some (mI x2), some (mI x3), none] [] s Q := Wp_step k301 f301_37 (Wp_step k301 f301_38 ⟨⟨Nat.le_of_ble_eq_true rfl, Nat.le_refl _⟩, _, rfl, Sp_E h_1⟩)
theorem b301_41 {X : (Nat → Int) × Nat} {d : Nat} {s : mSt} {Q : mQ} {x1 : Int} {x2 : Int} {x3 : Int} {xt0 : Int} (h_1 : Q (some (mI xt0)) s) : Wp X d 301 41 [some (mR 407), some (mI x1), some (mI x2), some (mI x3), none] [mI xt0] s Q := Wp_step k301 f301_41 ⟨⟨rfl, trivial⟩, h_1⟩
theorem b301_42 {X : (Nat → Int) × Nat} {d : Nat} {s : mSt} {Q : mQ} {x1 : Int} {x2 : Int} {x3 : Int} (h_1 : Wp X d 301 45 [some (mR 407), some (mI x1), some (mI x2), some (mI x3), some (mI 0)] [] s Q) : Wp X d 301 42 [some (mR 407), some (mI x1), some (mI x2), some (mI x3), none] [] s Q := Wp_step k301 f301_42 (Wp_step k301 f301_43 (h_1))
theorem b301_45 {X : (Nat → Int) × Nat} {d : Nat} {s : mSt} {Q : mQ} {x1 : Int} {x2 : Int} {x3 : Int} {x4 : Int} (h_1 : 6 ≤ x4 → Wp X d 301 73 [some (mR 407), some (mI x1), some (mI x2), some (mI x3), some (mI x4)] [] s Q) (h_2 : ¬ 6 ≤ x4 → Wp X d 301 52 [some (mR 407), some (mI x1), some (mI x2), some (mI x3), some (mI x4)] [] s Q) : Wp X d 301 45 [some (mR 407), some (mI x1), some (mI x2), some (mI x3), some (mI x4)] [] s Q := Wp_step k301 f301_45 (Wp_step k301 f301_47 (Wp_step k301 f301_49 ⟨h_1, h_2⟩))
theorem b301_52 {X : (Nat → Int) × Nat} {d : Nat} {s : mSt} {Q : mQ} {x1 : Int} {x2 : Int} {x3 : Int} {x4 : Int} (h_1 : Sp X d 168 [mI x3, mI x4] s (fun r s' => ∃ v : Int, r = some (mI v) ∧ Wp X (d + 1) 301 58 [some (mR 407), some (mI x1), some (mI x2), some (mI x3), some (mI x4)] [mI v] s' Q)) : Wp X (d + 1) 301 52 [some (mR 407), some (mI x1), some (mI x2), some (mI x3), some (mI x4)] [] s Q := Wp_step k301 f301_52 (Wp_step k301 f301_53 (Wp_step k301 f301_55 ⟨⟨Nat.le_of_ble_eq_true rfl, Nat.le_refl _⟩, _, rfl, Sp_E h_1⟩))
theorem b301_58 {X : (Nat → Int) × Nat} {d : Nat} {s : mSt} {Q : mQ} {x1 : Int} {x2 : Int} {x3 : Int} {x4 : Int} {xt0 : Int} (h_1 : xt0 = 0 → Wp X d 301 67 [some (mR 407), some (mI x1), some (mI x2), some (mI x3), some (mI x4)] [] s Q) (h_2 : ¬ xt0 = 0 → Wp X d 301 61 [some (mR 407), some (mI x1), some (mI x2), some (mI x3), some (mI x4)] [] s Q) : Wp X d 301 58 [some (mR 407), some (mI x1), some (mI x2), some (mI x3), some (mI x4)] [mI xt0] s Q := Wp_step k301 f301_58 ⟨h_1, h_2⟩
theorem b301_61 {X : (Nat → Int) × Nat} {d : Nat} {s : mSt} {Q : mQ} {x1 : Int} {x2 : Int} {x3 : Int} {x4 : Int} (h_1 : Q (some (mI (w32 (20 * x4)))) s) : Wp X d 301 61 [some (mR 407), some (mI x1), some (mI x2), some (mI x3), some (mI x4)] [] s Q := Wp_step k301 f301_61 (Wp_step k301 f301_63 (Wp_step k301 f301_65 (Wp_step k301 f301_66 ⟨⟨rfl, trivial⟩, h_1⟩)))
theorem b301_67 {X : (Nat → Int) × Nat} {d : Nat} {s : mSt} {Q : mQ} {x1 : Int} {x2 : Int} {x3 : Int} {x4 : Int} (h_1 : Wp X d 301 45 [some (mR 407), some (mI x1), some (mI x2), some (mI x3), some (mI (w32 (x4 + 1)))] [] s Q) : Wp X d 301 67 [some (mR 407), some (mI x1), some (mI x2), some (mI x3), some (mI x4)] [] s Q := Wp_step k301 f301_67 (Wp_step k301 f301_70 (h_1))
theorem b301_73 {X : (Nat → Int) × Nat} {d : Nat} {s : mSt} {Q : mQ} {x1 : Int} {x2 : Int} {x3 : Int} {x4 : Int} (h_1 : Q (some (mI (-2))) s) : Wp X d 301 73 [some (mR 407), some (mI x1), some (mI x2), some (mI x3), some (mI x4)] [] s Q := Wp_step k301 f301_73 (Wp_step k301 f301_75 ⟨⟨rfl, trivial⟩, h_1⟩)
theorem e301 {X : (Nat → Int) × Nat} {d : Nat} {s : mSt} {Q : mQ} {x1 : Int} {x2 : Int} (h : Wp X d 301 0 [some (mR 407), some (mI x1), some (mI x2), none, none] [] s Q) : Sp X d 301 [mR 407, mI x1, mI x2] s Q := Sp_of (show mCe 301 = 0 by decide +kernel) (by rw [show mML 301 = 5 by decide +kernel]; rfl) (Nat.le_trans (Nat.le_of_ble_eq_true (show Nat.ble (mArgs _).length 5 = true from rfl)) (show 5 ≤ mML 301 by decide +kernel)) h
-- 302 ClashDayModel.resting(I)I
theorem k302 : mRk 302 = 1 := by decide +kernel
theorem f302_0 : mFetch 302 0 = some (.aload_n 0, 1, 0, 0, 0, 0) := by decide +kernel
theorem f302_1 : mFetch 302 1 = some (.iload_n 1, 1, 0, 0, 0, 0) := by decide +kernel
theorem f302_2 : mFetch 302 2 = some (.invokevirtual 315, 3, 214, 0, 2, 12) := by decide +kernel
theorem f302_5 : mFetch 302 5 = some (.ifCond .eq 17, 3, 22, 0, 0, 0) := by decide +kernel
theorem f302_8 : mFetch 302 8 = some (.aload_n 0, 1, 0, 0, 0, 0) := by decide +kernel
theorem f302_9 : mFetch 302 9 = some (.sipush 129, 3, 0, 0, 0, 0) := by decide +kernel
theorem f302_12 : mFetch 302 12 = some (.iload_n 1, 1, 0, 0, 0, 0) := by decide +kernel
theorem f302_13 : mFetch 302 13 = some (.iadd, 1, 0, 0, 0, 0) := by decide +kernel
theorem f302_14 : mFetch 302 14 = some (.iconst 4, 1, 0, 0, 0, 0) := by decide +kernel
theorem f302_15 : mFetch 302 15 = some (.iconst 1, 1, 0, 0, 0, 0) := by decide +kernel
theorem f302_16 : mFetch 302 16 = some (.invokevirtual 551, 3, 300, 0, 4, 12) := by decide +kernel
theorem f302_19 : mFetch 302 19 = some (.goto 4, 3, 23, 0, 0, 0) := by decide +kernel
theorem f302_22 : mFetch 302 22 = some (.iconst (-1), 1, 0, 0, 0, 0) := by decide +kernel
theorem f302_23 : mFetch 302 23 = some (.ireturn, 1, 0, 0, 0, 0) := by decide +kernel
theorem b302_0 {X : (Nat → Int) × Nat} {d : Nat} {s : mSt} {Q : mQ} {x1 : Int} (h_1 : Sp X d 214 [mR 407, mI x1] s (fun r s' => ∃ v : Int, r = some (mI v) ∧ Wp X (d + 1) 302 5 [some (mR 407), some (mI x1)] [mI v] s' Q)) : Wp X (d + 1) 302 0 [some (mR 407), some (mI x1)] [] s Q := Wp_step k302 f302_0 (Wp_step k302 f302_1 (Wp_step k302 f302_2 ⟨⟨kf_407, Nat.le_of_ble_eq_true rfl⟩, Nat.le_refl _, _, rfl, Sp_E h_1⟩))
theorem b302_5 {X : (Nat → Int) × Nat} {d : Nat} {s : mSt} {Q : mQ} {x1 : Int} {xt0 : Int} (h_1 : xt0 = 0 → Wp X d 302 22 [some (mR 407), some (mI x1)] [] s Q) (h_2 : ¬ xt0 = 0 → Wp X d 302 8 [some (mR 407), some (mI x1)] [] s Q) : Wp X d 302 5 [some (mR 407), some (mI x1)] [mI xt0] s Q := Wp_step k302 f302_5 ⟨h_1, h_2⟩
theorem b302_8 {X : (Nat → Int) × Nat} {d : Nat} {s : mSt} {Q : mQ} {x1 : Int} (h_1 : Sp X d 300 [mR 407, mI (w32 (129 + x1)), mI 4, mI 1] s (fun r s' => ∃ v : Int, r = some (mI v) ∧ Wp X (d + 1) 302 19 [some (mR 407), some (mI x1)] [mI v] s' Q)) : Wp X (d + 1) 302 8 [some (mR 407), some (mI x1)] [] s Q := Wp_step k302 f302_8 (Wp_step k302 f302_9 (Wp_step k302 f302_12 (Wp_step k302 f302_13 (Wp_step k302 f302_14 (Wp_step k302 f302_15 (Wp_step k302 f302_16 ⟨⟨kf_407, Nat.le_of_ble_eq_true rfl⟩, Nat.le_refl _, _, rfl, Sp_E h_1⟩))))))
theorem b302_19 {X : (Nat → Int) × Nat} {d : Nat} {s : mSt} {Q : mQ} {x1 : Int} {xt0 : Int} (h_1 : Wp X d 302 23 [some (mR 407), some (mI x1)] [mI xt0] s Q) : Wp X d 302 19 [some (mR 407), some (mI x1)] [mI xt0] s Q := Wp_step k302 f302_19 (h_1)
theorem b302_22 {X : (Nat → Int) × Nat} {d : Nat} {s : mSt} {Q : mQ} {x1 : Int} (h_1 : Wp X d 302 23 [some (mR 407), some (mI x1)] [mI (-1)] s Q) : Wp X d 302 22 [some (mR 407), some (mI x1)] [] s Q := Wp_step k302 f302_22 (h_1)
theorem b302_23 {X : (Nat → Int) × Nat} {d : Nat} {s : mSt} {Q : mQ} {x1 : Int} {xt0 : Int} (h_1 : Q (some (mI xt0)) s) : Wp X d 302 23 [some (mR 407), some (mI x1)] [mI xt0] s Q := Wp_step k302 f302_23 ⟨⟨rfl, trivial⟩, h_1⟩
theorem e302 {X : (Nat → Int) × Nat} {d : Nat} {s : mSt} {Q : mQ} {x1 : Int} (h : Wp X d 302 0 [some (mR 407), some (mI x1)] [] s Q) : Sp X d 302 [mR 407, mI x1] s Q := Sp_of (show mCe 302 = 0 by decide +kernel) (by rw [show mML 302 = 2 by decide +kernel]; rfl) (Nat.le_trans (Nat.le_of_ble_eq_true (show Nat.ble (mArgs _).length 2 = true from rfl)) (show 2 ≤ mML 302 by decide +kernel)) h
-- 303 ClashDayModel.seed(I)I
theorem k303 : mRk 303 = 1 := by decide +kernel
theorem f303_0 : mFetch 303 0 = some (.iload_n 1, 1, 0, 0, 0, 0) := by decide +kernel
theorem f303_1 : mFetch 303 1 = some (.ifCond .ge 5, 3, 6, 0, 0, 0) := by decide +kernel
theorem f303_4 : mFetch 303 4 = some (.iconst (-1), 1, 0, 0, 0, 0) := by decide +kernel
theorem f303_5 : mFetch 303 5 = some (.ireturn, 1, 0, 0, 0, 0) := by decide +kernel
theorem f303_6 : mFetch 303 6 = some (.aload_n 0, 1, 0, 0, 0, 0) := by decide +kernel
theorem f303_7 : mFetch 303 7 = some (.getfield 555, 3, 12, 22, 0, 1) := by decide +kernel
theorem f303_10 : mFetch 303 10 = some (.istore_n 2, 1, 0, 0, 0, 0) := by decide +kernel
theorem f303_11 : mFetch 303 11 = some (.aload_n 0, 1, 0, 0, 0, 0) := by decide +kernel
theorem f303_12 : mFetch 303 12 = some (.iload_n 1, 1, 0, 0, 0, 0) := by decide +kernel
theorem f303_13 : mFetch 303 13 = some (.putfield 555, 3, 12, 22, 0, 1) := by decide +kernel
theorem f303_16 : mFetch 303 16 = some (.iload_n 2, 1, 0, 0, 0, 0) := by decide +kernel
theorem f303_17 : mFetch 303 17 = some (.ireturn, 1, 0, 0, 0, 0) := by decide +kernel
theorem b303_0 {X : (Nat → Int) × Nat} {d : Nat} {s : mSt} {Q : mQ} {x1 : Int} (h_1 : 0 ≤ x1 → Wp X d 303 6 [some (mR 407), some (mI x1), none] [] s Q) (h_2 : ¬ 0 ≤ x1 → Wp X d 303 4 [some (mR 407), some (mI x1), none] [] s Q) : Wp X d 303 0 [some (mR 407), some (mI x1), none] [] s Q := Wp_step k303 f303_0 (Wp_step k303 f303_1 ⟨h_1, h_2⟩)
theorem b303_4 {X : (Nat → Int) × Nat} {d : Nat} {s : mSt} {Q : mQ} {x1 : Int} (h_1 : Q (some (mI (-1))) s) : Wp X d 303 4 [some (mR 407), some (mI x1), none] [] s Q := Wp_step k303 f303_4 (Wp_step k303 f303_5 ⟨⟨rfl, trivial⟩, h_1⟩)
theorem b303_6 {X : (Nat → Int) × Nat} {d : Nat} {s : mSt} {Q : mQ} {x1 : Int} (h_1 : Q (some (mI (s 407 22))) (uS s 407 22 x1)) : Wp X d 303 6 [some (mR 407), some (mI x1), none] [] s Q := Wp_step k303 f303_6 (Wp_step k303 f303_7 ⟨kf_407, Wp_step k303 f303_10 (Wp_step k303 f303_11 (Wp_step k303 f303_12 (Wp_step k303 f303_13 ⟨kf_407, Wp_step k303 f303_16 (Wp_step k303 f303_17 ⟨⟨rfl, trivial⟩, h_1⟩)⟩)))⟩)
theorem e303 {X : (Nat → Int) × Nat} {d : Nat} {s : mSt} {Q : mQ} {x1 : Int} (h : Wp X d 303 0 [some (mR 407), some (mI x1), none] [] s Q) : Sp X d 303 [mR 407, mI x1] s Q := Sp_of (show mCe 303 = 0 by decide +kernel) (by rw [show mML 303 = 3 by decide +kernel]; rfl) (Nat.le_trans (Nat.le_of_ble_eq_true (show Nat.ble (mArgs _).length 3 = true from rfl)) (show 3 ≤ mML 303 by decide +kernel)) h
-- 304 ClashDayModel.draw(I)I
theorem k304 : mRk 304 = 1 := by decide +kernel
theorem f304_0 : mFetch 304 0 = some (.aload_n 0, 1, 0, 0, 0, 0) := by decide +kernel
theorem f304_1 : mFetch 304 1 = some (.aload_n 0, 1, 0, 0, 0, 0) := by decide +kernel
theorem f304_2 : mFetch 304 2 = some (.getfield 558, 3, 12, 53, 1, 1) := by decide +kernel
theorem f304_5 : mFetch 304 5 = some (.ldc2_w 562, 3, 1103515245, 0, 0, 0) := by decide +kernel
theorem f304_8 : mFetch 304 8 = some (.lmul, 1, 0, 0, 0, 0) := by decide +kernel
theorem f304_9 : mFetch 304 9 = some (.ldc2_w 564, 3, 12345, 0, 0, 0) := by decide +kernel
theorem f304_12 : mFetch 304 12 = some (.ladd, 1, 0, 0, 0, 0) := by decide +kernel
theorem f304_13 : mFetch 304 13 = some (.ldc2_w 566, 3, 2147483648, 0, 0, 0) := by decide +kernel
theorem f304_16 : mFetch 304 16 = some (.lrem, 1, 0, 0, 0, 0) := by decide +kernel
theorem f304_17 : mFetch 304 17 = some (.putfield 558, 3, 12, 53, 1, 1) := by decide +kernel
theorem f304_20 : mFetch 304 20 = some (.aload_n 0, 1, 0, 0, 0, 0) := by decide +kernel
theorem f304_21 : mFetch 304 21 = some (.getfield 558, 3, 12, 53, 1, 1) := by decide +kernel
theorem f304_24 : mFetch 304 24 = some (.ldc2_w 568, 3, 65536, 0, 0, 0) := by decide +kernel
theorem f304_27 : mFetch 304 27 = some (.ldiv, 1, 0, 0, 0, 0) := by decide +kernel
theorem f304_28 : mFetch 304 28 = some (.iload_n 1, 1, 0, 0, 0, 0) := by decide +kernel
theorem f304_29 : mFetch 304 29 = some (.i2l, 1, 0, 0, 0, 0) := by decide +kernel
theorem f304_30 : mFetch 304 30 = some (.lrem, 1, 0, 0, 0, 0) := by decide +kernel
theorem f304_31 : mFetch 304 31 = some (.l2i, 1, 0, 0, 0, 0) := by decide +kernel
theorem f304_32 : mFetch 304 32 = some (.ireturn, 1, 0, 0, 0, 0) := by decide +kernel
theorem b304_0 {X : (Nat → Int) × Nat} {d : Nat} {s : mSt} {Q : mQ} {x1 : Int} (h_1 : x1 ≠ 0) (h_2 : Q (some (mI (w32 (Int.tmod (w64 (Int.tdiv ((uS s 407 53 (Int.tmod (w64 ((w64 ((s 407 53) * 1103515245)) + 12345)) 2147483648)) 407 53) 65536)) x1)))) (uS s 407 53 (Int.tmod (w64 ((w64 ((s 407 53) * 1103515245)) + 12345)) 2147483648))) : Wp X d 304 0 [some (mR 407), some (mI x1)] [] s Q := Wp_step k304 f304_0 (Wp_step k304 f304_1 (Wp_step k304 f304_2 ⟨kf_407, Wp_step k304 f304_5 (Wp_step k304 f304_8 (Wp_step k304 f304_9 (Wp_step k304 f304_12 (Wp_step k304 f304_13 (Wp_step k304 f304_16 ⟨(by decide), Wp_step k304 f304_17 ⟨kf_407, Wp_step k304 f304_20 (Wp_step k304 f304_21 ⟨kf_407, Wp_step k304 f304_24 (Wp_step k304 f304_27 ⟨(by decide), Wp_step k304 f304_28 (Wp_step k304 f304_29 (Wp_step k304 f304_30 ⟨h_1, Wp_step k304 f304_31 (Wp_step k304 f304_32 ⟨⟨rfl, trivial⟩, h_2⟩)⟩))⟩)⟩)⟩⟩)))))⟩))
theorem e304 {X : (Nat → Int) × Nat} {d : Nat} {s : mSt} {Q : mQ} {x1 : Int} (h : Wp X d 304 0 [some (mR 407), some (mI x1)] [] s Q) : Sp X d 304 [mR 407, mI x1] s Q := Sp_of (show mCe 304 = 0 by decide +kernel) (by rw [show mML 304 = 2 by decide +kernel]; rfl) (Nat.le_trans (Nat.le_of_ble_eq_true (show Nat.ble (mArgs _).length 2 = true from rfl)) (show 2 ≤ mML 304 by decide +kernel)) h
-- 305 ClashDayModel.ill(IIII)I
theorem k305 : mRk 305 = 1 := by decide +kernel
theorem f305_0 : mFetch 305 0 = some (.aload_n 0, 1, 0, 0, 0, 0) := by decide +kernel
theorem f305_1 : mFetch 305 1 = some (.invokevirtual 354, 3, 212, 0, 1, 12) := by decide +kernel
theorem f305_4 : mFetch 305 4 = some (.ifCond .eq 50, 3, 54, 0, 0, 0) := by decide +kernel
theorem f305_7 : mFetch 305 7 = some (.iload_n 1, 1, 0, 0, 0, 0) := by decide +kernel
theorem f305_8 : mFetch 305 8 = some (.i2l, 1, 0, 0, 0, 0) := by decide +kernel
theorem f305_9 : mFetch 305 9 = some (.lconst 1, 1, 0, 0, 0, 0) := by decide +kernel
theorem f305_10 : mFetch 305 10 = some (.ldc2_w 500, 3, 5, 0, 0, 0) := by decide +kernel
theorem f305_13 : mFetch 305 13 = some (.invokestatic 151, 3, 167, 0, 3, 99) := by decide +kernel
theorem f305_16 : mFetch 305 16 = some (.ifCond .eq 38, 3, 54, 0, 0, 0) := by decide +kernel
theorem f305_19 : mFetch 305 19 = some (.iload_n 2, 1, 0, 0, 0, 0) := by decide +kernel
theorem f305_20 : mFetch 305 20 = some (.i2l, 1, 0, 0, 0, 0) := by decide +kernel
theorem f305_21 : mFetch 305 21 = some (.lconst 1, 1, 0, 0, 0, 0) := by decide +kernel
theorem f305_22 : mFetch 305 22 = some (.ldc2_w 461, 3, 9, 0, 0, 0) := by decide +kernel
theorem f305_25 : mFetch 305 25 = some (.invokestatic 151, 3, 167, 0, 3, 99) := by decide +kernel
theorem f305_28 : mFetch 305 28 = some (.ifCond .eq 26, 3, 54, 0, 0, 0) := by decide +kernel
theorem f305_31 : mFetch 305 31 = some (.iload_n 3, 1, 0, 0, 0, 0) := by decide +kernel
theorem f305_32 : mFetch 305 32 = some (.i2l, 1, 0, 0, 0, 0) := by decide +kernel
theorem f305_33 : mFetch 305 33 = some (.lconst 0, 1, 0, 0, 0, 0) := by decide +kernel
theorem f305_34 : mFetch 305 34 = some (.ldc2_w 570, 3, 100, 0, 0, 0) := by decide +kernel
theorem f305_37 : mFetch 305 37 = some (.invokestatic 151, 3, 167, 0, 3, 99) := by decide +kernel
theorem f305_40 : mFetch 305 40 = some (.ifCond .eq 14, 3, 54, 0, 0, 0) := by decide +kernel
theorem f305_43 : mFetch 305 43 = some (.iload 4, 2, 0, 0, 0, 0) := by decide +kernel
theorem f305_45 : mFetch 305 45 = some (.i2l, 1, 0, 0, 0, 0) := by decide +kernel
theorem f305_46 : mFetch 305 46 = some (.lconst 0, 1, 0, 0, 0, 0) := by decide +kernel
theorem f305_47 : mFetch 305 47 = some (.lconst 1, 1, 0, 0, 0, 0) := by decide +kernel
theorem f305_48 : mFetch 305 48 = some (.invokestatic 151, 3, 167, 0, 3, 99) := by decide +kernel
theorem f305_51 : mFetch 305 51 = some (.ifCond .ne 5, 3, 56, 0, 0, 0) := by decide +kernel
theorem f305_54 : mFetch 305 54 = some (.iconst (-1), 1, 0, 0, 0, 0) := by decide +kernel
theorem f305_55 : mFetch 305 55 = some (.ireturn, 1, 0, 0, 0, 0) := by decide +kernel
theorem f305_56 : mFetch 305 56 = some (.aload_n 0, 1, 0, 0, 0, 0) := by decide +kernel
theorem f305_57 : mFetch 305 57 = some (.aload_n 0, 1, 0, 0, 0, 0) := by decide +kernel
theorem f305_58 : mFetch 305 58 = some (.getfield 555, 3, 12, 22, 0, 1) := by decide +kernel
theorem f305_61 : mFetch 305 61 = some (.i2l, 1, 0, 0, 0, 0) := by decide +kernel
theorem f305_62 : mFetch 305 62 = some (.putfield 558, 3, 12, 53, 1, 1) := by decide +kernel
theorem f305_65 : mFetch 305 65 = some (.iconst 0, 1, 0, 0, 0, 0) := by decide +kernel
theorem f305_66 : mFetch 305 66 = some (.istore 5, 2, 0, 0, 0, 0) := by decide +kernel
theorem f305_68 : mFetch 305 68 = some (.iconst 0, 1, 0, 0, 0, 0) := by decide +kernel
theorem f305_69 : mFetch 305 69 = some (.istore 6, 2, 0, 0, 0, 0) := by decide +kernel
theorem f305_71 : mFetch 305 71 = some (.aload_n 0, 1, 0, 0, 0, 0) := by decide +kernel
theorem f305_72 : mFetch 305 72 = some (.invokevirtual 502, 3, 277, 0, 1, 12) := by decide +kernel
theorem f305_75 : mFetch 305 75 = some (.iconst 0, 1, 0, 0, 0, 0) := by decide +kernel
theorem f305_76 : mFetch 305 76 = some (.istore 7, 2, 0, 0, 0, 0) := by decide +kernel
theorem f305_78 : mFetch 305 78 = some (.iload 7, 2, 0, 0, 0, 0) := by decide +kernel
theorem f305_80 : mFetch 305 80 = some (.iload_n 1, 1, 0, 0, 0, 0) := by decide +kernel
theorem f305_81 : mFetch 305 81 = some (.if_icmp .ge 84, 3, 165, 0, 0, 0) := by decide +kernel
theorem f305_84 : mFetch 305 84 = some (.iconst 0, 1, 0, 0, 0, 0) := by decide +kernel
theorem f305_85 : mFetch 305 85 = some (.istore 8, 2, 0, 0, 0, 0) := by decide +kernel
theorem f305_87 : mFetch 305 87 = some (.iload 8, 2, 0, 0, 0, 0) := by decide +kernel
theorem f305_89 : mFetch 305 89 = some (.iload_n 2, 1, 0, 0, 0, 0) := by decide +kernel
theorem f305_90 : mFetch 305 90 = some (.if_icmp .ge 47, 3, 137, 0, 0, 0) := by decide +kernel
theorem f305_93 : mFetch 305 93 = some (.aload_n 0, 1, 0, 0, 0, 0) := by decide +kernel
theorem f305_94 : mFetch 305 94 = some (.bipush 100, 2, 0, 0, 0, 0) := by decide +kernel
theorem f305_96 : mFetch 305 96 = some (.invokevirtual 572, 3, 304, 0, 2, 12) := by decide +kernel
theorem f305_99 : mFetch 305 99 = some (.iload_n 3, 1, 0, 0, 0, 0) := by decide +kernel
theorem f305_100 : mFetch 305 100 = some (.if_icmp .ge 26, 3, 126, 0, 0, 0) := by decide +kernel
theorem f305_103 : mFetch 305 103 = some (.aload_n 0, 1, 0, 0, 0, 0) := by decide +kernel
theorem f305_104 : mFetch 305 104 = some (.getfield 39, 3, 12, 20, 2, 1) := by decide +kernel
theorem f305_107 : mFetch 305 107 = some (.iconst 4, 1, 0, 0, 0, 0) := by decide +kernel
theorem f305_108 : mFetch 305 108 = some (.iaload, 1, 0, 0, 0, 0) := by decide +kernel
theorem f305_109 : mFetch 305 109 = some (.ifCond .le 17, 3, 126, 0, 0, 0) := by decide +kernel
theorem f305_112 : mFetch 305 112 = some (.aload_n 0, 1, 0, 0, 0, 0) := by decide +kernel
theorem f305_113 : mFetch 305 113 = some (.aload_n 0, 1, 0, 0, 0, 0) := by decide +kernel
theorem f305_114 : mFetch 305 114 = some (.aload_n 0, 1, 0, 0, 0, 0) := by decide +kernel
theorem f305_115 : mFetch 305 115 = some (.getfield 39, 3, 12, 20, 2, 1) := by decide +kernel
theorem f305_118 : mFetch 305 118 = some (.iconst 4, 1, 0, 0, 0, 0) := by decide +kernel
theorem f305_119 : mFetch 305 119 = some (.iaload, 1, 0, 0, 0, 0) := by decide +kernel
theorem f305_120 : mFetch 305 120 = some (.invokevirtual 572, 3, 304, 0, 2, 12) := by decide +kernel
theorem f305_123 : mFetch 305 123 = some (.invokevirtual 458, 3, 246, 0, 2, 12) := by decide +kernel
theorem f305_126 : mFetch 305 126 = some (.aload_n 0, 1, 0, 0, 0, 0) := by decide +kernel
theorem f305_127 : mFetch 305 127 = some (.invokevirtual 452, 3, 251, 0, 1, 12) := by decide +kernel
theorem f305_130 : mFetch 305 130 = some (.pop, 1, 0, 0, 0, 0) := by decide +kernel
theorem f305_131 : mFetch 305 131 = some (.iinc 8 1, 3, 0, 0, 0, 0) := by decide +kernel
theorem f305_134 : mFetch 305 134 = some (.goto (-47), 3, 87, 0, 0, 0) := by decide +kernel
theorem f305_137 : mFetch 305 137 = some (.iload 5, 2, 0, 0, 0, 0) := by decide +kernel
theorem f305_139 : mFetch 305 139 = some (.aload_n 0, 1, 0, 0, 0, 0) := by decide +kernel
theorem f305_140 : mFetch 305 140 = some (.invokevirtual 519, 3, 285, 0, 1, 12) := by decide +kernel
theorem f305_143 : mFetch 305 143 = some (.iadd, 1, 0, 0, 0, 0) := by decide +kernel
theorem f305_144 : mFetch 305 144 = some (.istore 5, 2, 0, 0, 0, 0) := by decide +kernel
theorem f305_146 : mFetch 305 146 = some (.iload 6, 2, 0, 0, 0, 0) := by decide +kernel
theorem f305_148 : mFetch 305 148 = some (.aload_n 0, 1, 0, 0, 0, 0) := by decide +kernel
theorem f305_149 : mFetch 305 149 = some (.invokevirtual 522, 3, 226, 0, 1, 12) := by decide +kernel
theorem f305_152 : mFetch 305 152 = some (.iadd, 1, 0, 0, 0, 0) := by decide +kernel
theorem f305_153 : mFetch 305 153 = some (.istore 6, 2, 0, 0, 0, 0) := by decide +kernel
theorem f305_155 : mFetch 305 155 = some (.aload_n 0, 1, 0, 0, 0, 0) := by decide +kernel
theorem f305_156 : mFetch 305 156 = some (.invokevirtual 491, 3, 278, 0, 1, 12) := by decide +kernel
theorem f305_159 : mFetch 305 159 = some (.iinc 7 1, 3, 0, 0, 0, 0) := by decide +kernel
theorem f305_162 : mFetch 305 162 = some (.goto (-84), 3, 78, 0, 0, 0) := by decide +kernel
theorem f305_165 : mFetch 305 165 = some (.iload 4, 2, 0, 0, 0, 0) := by decide +kernel
theorem f305_167 : mFetch 305 167 = some (.ifCond .ne 8, 3, 175, 0, 0, 0) := by decide +kernel
theorem f305_170 : mFetch 305 170 = some (.iload 5, 2, 0, 0, 0, 0) := by decide +kernel
theorem f305_172 : mFetch 305 172 = some (.goto 5, 3, 177, 0, 0, 0) := by decide +kernel
theorem f305_175 : mFetch 305 175 = some (.iload 6, 2, 0, 0, 0, 0) := by decide +kernel
theorem f305_177 : mFetch 305 177 = some (.ireturn, 1, 0, 0, 0, 0) := by decide +kernel
theorem b305_0 {X : (Nat → Int) × Nat} {d : Nat} {s : mSt} {Q : mQ} {x1 : Int} {x2 : Int} {x3 : Int} {x4 : Int} (h_1 : Sp X d 212 [mR 407] s (fun r s' => ∃ v : Int, r = some (mI v) ∧ Wp X (d + 1) 305 4 [some (mR 407), some (mI x1), some (mI x2), some (mI x3), some (mI x4), none, none, none, none] [mI v] s' Q)) : Wp X (d + 1) 305 0 [some (mR 407), some (mI x1), some (mI x2), some (mI x3), some (mI x4), none, none, none, none] [] s Q := Wp_step k305 f305_0 (Wp_step k305 f305_1 ⟨⟨kf_407, Nat.le_of_ble_eq_true rfl⟩, Nat.le_refl _, _, rfl, Sp_E h_1⟩)
theorem b305_4 {X : (Nat → Int) × Nat} {d : Nat} {s : mSt} {Q : mQ} {x1 : Int} {x2 : Int} {x3 : Int} {x4 : Int} {xt0 : Int} (h_1 : xt0 = 0 → Wp X d 305 54 [some (mR 407), some (mI x1), some (mI x2), some (mI x3), some (mI x4), none, none, none, none] [] s Q) (h_2 : ¬ xt0 = 0 → Wp X d 305 7 [some (mR 407), some (mI x1), some (mI x2), some (mI x3), some (mI x4), none, none, none, none] [] s Q) : Wp X d 305 4 [some (mR 407), some (mI x1), some (mI x2), some (mI x3), some (mI x4), none, none, none, none] [mI xt0] s Q := Wp_step k305 f305_4 ⟨h_1, h_2⟩
theorem b305_7 {X : (Nat → Int) × Nat} {d : Nat} {s : mSt} {Q : mQ} {x1 : Int} {x2 : Int} {x3 : Int} {x4 : Int} (h_1 : Sp X d 167 [mJ x1, mJ 1, mJ 5] s (fun r s' => ∃ v : Int, r = some (mI v) ∧ Wp X (d + 1) 305 16 [some (mR 407), some (mI x1), some (mI x2), some (mI x3), some (mI x4), none, none, none, none] [mI v] s' Q)) : Wp X (d + 1) 305 7 [some (mR 407), some (mI x1), some (mI x2), some (mI x3), some (mI x4), none, none, none, none] [] s Q := Wp_step k305 f305_7 (Wp_step k305 f305_8 (Wp_step k305 f305_9 (Wp_step k305 f305_10 (Wp_step k305 f305_13 ⟨⟨Nat.le_of_ble_eq_true rfl, Nat.le_refl _⟩, _, rfl, Sp_E h_1⟩))))
theorem b305_16 {X : (Nat → Int) × Nat} {d : Nat} {s : mSt} {Q : mQ} {x1 : Int} {x2 : Int} {x3 : Int} {x4 : Int} {xt0 : Int} (h_1 : xt0 = 0 → Wp X d 305 54 [some (mR 407), some (mI x1), some (mI x2), some (mI x3), some (mI x4), none, none, none, none] [] s Q) (h_2 : ¬ xt0 = 0 → Wp X d 305 19 [some (mR 407), some (mI x1), some (mI x2), some (mI x3), some (mI x4), none, none, none, none] [] s Q) : Wp X d 305 16 [some (mR 407), some (mI x1), some (mI x2), some (mI x3), some (mI x4), none, none, none, none] [mI xt0] s Q := Wp_step k305 f305_16 ⟨h_1, h_2⟩
theorem b305_19 {X : (Nat → Int) × Nat} {d : Nat} {s : mSt} {Q : mQ} {x1 : Int} {x2 : Int} {x3 : Int} {x4 : Int} (h_1 : Sp X d 167 [mJ x2, mJ 1, mJ 9] s (fun r s' => ∃ v : Int, r = some (mI v) ∧ Wp X (d + 1) 305 28 [some (mR 407), some (mI x1), some (mI x2), some (mI x3), some (mI x4), none, none, none, none] [mI v] s' Q)) : Wp X (d + 1) 305 19 [some (mR 407), some (mI x1), some (mI x2), some (mI x3), some (mI x4), none, none, none, none] [] s Q := Wp_step k305 f305_19 (Wp_step k305 f305_20 (Wp_step k305 f305_21 (Wp_step k305 f305_22 (Wp_step k305 f305_25 ⟨⟨Nat.le_of_ble_eq_true rfl, Nat.le_refl _⟩, _, rfl, Sp_E h_1⟩))))
theorem b305_28 {X : (Nat → Int) × Nat} {d : Nat} {s : mSt} {Q : mQ} {x1 : Int} {x2 : Int} {x3 : Int} {x4 : Int} {xt0 : Int} (h_1 : xt0 = 0 → Wp X d 305 54 [some (mR 407), some (mI x1), some (mI x2), some (mI x3), some (mI x4), none, none, none, none] [] s Q) (h_2 : ¬ xt0 = 0 → Wp X d 305 31 [some (mR 407), some (mI x1), some (mI x2), some (mI x3), some (mI x4), none, none, none, none] [] s Q) : Wp X d 305 28 [some (mR 407), some (mI x1), some (mI x2), some (mI x3), some (mI x4), none, none, none, none] [mI xt0] s Q := Wp_step k305 f305_28 ⟨h_1, h_2⟩
theorem b305_31 {X : (Nat → Int) × Nat} {d : Nat} {s : mSt} {Q : mQ} {x1 : Int} {x2 : Int} {x3 : Int} {x4 : Int} (h_1 : Sp X d 167 [mJ x3, mJ 0, mJ 100] s (fun r s' => ∃ v : Int, r = some (mI v) ∧ Wp X (d + 1) 305 40 [some (mR 407), some (mI x1), some (mI x2), some (mI x3), some (mI x4), none, none, none, none] [mI v] s' Q)) : Wp X (d + 1) 305 31 [some (mR 407), some (mI x1), some (mI x2), some (mI x3), some (mI x4), none, none, none, none] [] s Q := Wp_step k305 f305_31 (Wp_step k305 f305_32 (Wp_step k305 f305_33 (Wp_step k305 f305_34 (Wp_step k305 f305_37 ⟨⟨Nat.le_of_ble_eq_true rfl, Nat.le_refl _⟩, _, rfl, Sp_E h_1⟩))))
theorem b305_40 {X : (Nat → Int) × Nat} {d : Nat} {s : mSt} {Q : mQ} {x1 : Int} {x2 : Int} {x3 : Int} {x4 : Int} {xt0 : Int} (h_1 : xt0 = 0 → Wp X d 305 54 [some (mR 407), some (mI x1), some (mI x2), some (mI x3), some (mI x4), none, none, none, none] [] s Q) (h_2 : ¬ xt0 = 0 → Wp X d 305 43 [some (mR 407), some (mI x1), some (mI x2), some (mI x3), some (mI x4), none, none, none, none] [] s Q) : Wp X d 305 40 [some (mR 407), some (mI x1), some (mI x2), some (mI x3), some (mI x4), none, none, none, none] [mI xt0] s Q := Wp_step k305 f305_40 ⟨h_1, h_2⟩
theorem b305_43 {X : (Nat → Int) × Nat} {d : Nat} {s : mSt} {Q : mQ} {x1 : Int} {x2 : Int} {x3 : Int} {x4 : Int} (h_1 : Sp X d 167 [mJ x4, mJ 0, mJ 1] s (fun r s' => ∃ v : Int, r = some (mI v) ∧ Wp X (d + 1) 305 51 [some (mR 407), some (mI x1), some (mI x2), some (mI x3), some (mI x4), none, none, none, none] [mI v] s' Q)) : Wp X (d + 1) 305 43 [some (mR 407), some (mI x1), some (mI x2), some (mI x3), some (mI x4), none, none, none, none] [] s Q := Wp_step k305 f305_43 (Wp_step k305 f305_45 (Wp_step k305 f305_46 (Wp_step k305 f305_47 (Wp_step k305 f305_48 ⟨⟨Nat.le_of_ble_eq_true rfl, Nat.le_refl _⟩, _, rfl, Sp_E h_1⟩))))
theorem b305_51 {X : (Nat → Int) × Nat} {d : Nat} {s : mSt} {Q : mQ} {x1 : Int} {x2 : Int} {x3 : Int} {x4 : Int} {xt0 : Int} (h_1 : ¬ xt0 = 0 → Wp X d 305 56 [some (mR 407), some (mI x1), some (mI x2), some (mI x3), some (mI x4), none, none, none, none] [] s Q) (h_2 : xt0 = 0 → Wp X d 305 54 [some (mR 407), some (mI x1), some (mI x2), some (mI x3), some (mI x4), none, none, none, none] [] s Q) : Wp X d 305 51 [some (mR 407), some (mI x1), some (mI x2), some (mI x3), some (mI x4), none, none, none, none] [mI xt0] s Q := Wp_step k305 f305_51 ⟨h_1, h_2⟩
theorem b305_54 {X : (Nat → Int) × Nat} {d : Nat} {s : mSt} {Q : mQ} {x1 : Int} {x2 : Int} {x3 : Int} {x4 : Int} (h_1 : Q (some (mI (-1))) s) : Wp X d 305 54 [some (mR 407), some (mI x1), some (mI x2), some (mI x3), some (mI x4), none, none, none, none] [] s Q := Wp_step k305 f305_54 (Wp_step k305 f305_55 ⟨⟨rfl, trivial⟩, h_1⟩)
theorem b305_56 {X : (Nat → Int) × Nat} {d : Nat} {s : mSt} {Q : mQ} {x1 : Int} {x2 : Int} {x3 : Int} {x4 : Int} (h_1 : Sp X d 277 [mR 407] (uS s 407 53 (s 407 22)) (fun r s' => r = none ∧ Wp X (d + 1) 305 75 [some (mR 407), some (mI x1), some (mI x2), some (mI x3), some (mI x4), some (mI 0), some (mI 0), none, none] [] s' Q)) : Wp X (d + 1) 305 56 [some (mR 407), some (mI x1), some (mI x2), some (mI x3), some (mI x4), none, none, none, none] [] s Q := Wp_step k305 f305_56 (Wp_step k305 f305_57 (Wp_step k305 f305_58 ⟨kf_407, Wp_step k305 f305_61 (Wp_step k305 f305_62 ⟨kf_407, Wp_step k305 f305_65 (Wp_step k305 f305_66 (Wp_step k305 f305_68 (Wp_step k305 f305_69 (Wp_step k305 f305_71 (Wp_step k305 f305_72 ⟨⟨kf_407, Nat.le_of_ble_eq_true rfl⟩, Nat.le_refl _, _, rfl, Sp_V h_1⟩)))))⟩)⟩))
theorem b305_75 {X : (Nat → Int) × Nat} {d : Nat} {s : mSt} {Q : mQ} {x1 : Int} {x2 : Int} {x3 : Int} {x4 : Int} {x5 : Int} {x6 : Int} (h_1 : Wp X d 305 78 [some (mR 407), some (mI x1), some (mI x2), some (mI x3), some (mI x4), some (mI x5), some (mI x6), some (mI 0), none] [] s Q) : Wp X d 305 75 [some (mR 407), some (mI x1), some (mI x2), some (mI x3), some (mI x4), some (mI x5), some (mI x6), none, none] [] s Q := Wp_step k305 f305_75 (Wp_step k305 f305_76 (h_1))
theorem b305_78 {X : (Nat → Int) × Nat} {d : Nat} {s : mSt} {Q : mQ} {x1 : Int} {x2 : Int} {x3 : Int} {x4 : Int} {x5 : Int} {x6 : Int} {x7 : Int} (h_1 : x1 ≤ x7 → Wp X d 305 165 [some (mR 407), some (mI x1), some (mI x2), some (mI x3), some (mI x4), some (mI x5), some (mI x6), some (mI x7), none] [] s Q) (h_2 : ¬ x1 ≤ x7 → Wp X d 305 84 [some (mR 407), some (mI x1), some (mI x2), some (mI x3), some (mI x4), some (mI x5), some (mI x6), some (mI x7), none] [] s Q) : Wp X d 305 78 [some (mR 407), some (mI x1), some (mI x2), some (mI x3), some (mI x4), some (mI x5), some (mI x6), some (mI x7), none] [] s Q := Wp_step k305 f305_78 (Wp_step k305 f305_80 (Wp_step k305 f305_81 ⟨h_1, h_2⟩))
theorem b305_84 {X : (Nat → Int) × Nat} {d : Nat} {s : mSt} {Q : mQ} {x1 : Int} {x2 : Int} {x3 : Int} {x4 : Int} {x5 : Int} {x6 : Int} {x7 : Int} (h_1 : Wp X d 305 87 [some (mR 407), some (mI x1), some (mI x2), some (mI x3), some (mI x4), some (mI x5), some (mI x6), some (mI x7), some (mI 0)] [] s Q) : Wp X d 305 84 [some (mR 407), some (mI x1), some (mI x2), some (mI x3), some (mI x4), some (mI x5), some (mI x6), some (mI x7), none] [] s Q := Wp_step k305 f305_84 (Wp_step k305 f305_85 (h_1))
theorem b305_87 {X : (Nat → Int) × Nat} {d : Nat} {s : mSt} {Q : mQ} {x1 : Int} {x2 : Int} {x3 : Int} {x4 : Int} {x5 : Int} {x6 : Int} {x7 : Int} {x8 : Int} (h_1 : x2 ≤ x8 → Wp X d 305 137 [some (mR 407), some (mI x1), some (mI x2), some (mI x3), some (mI x4), some (mI x5), some (mI x6), some (mI x7), some (mI x8)] [] s Q) (h_2 : ¬ x2 ≤ x8 → Wp X d 305 93 [some (mR 407), some (mI x1), some (mI x2), some (mI x3), some (mI x4), some (mI x5), some (mI x6), some (mI x7), some (mI x8)] [] s Q) : Wp X d 305 87 [some (mR 407), some (mI x1), some (mI x2), some (mI x3), some (mI x4), some (mI x5), some (mI x6), some (mI x7), some (mI x8)] [] s Q := Wp_step k305 f305_87 (Wp_step k305 f305_89 (Wp_step k305 f305_90 ⟨h_1, h_2⟩))
theorem b305_93 {X : (Nat → Int) × Nat} {d : Nat} {s : mSt} {Q : mQ} {x1 : Int} {x2 : Int} {x3 : Int} {x4 : Int} {x5 : Int} {x6 : Int} {x7 : Int} {x8 : Int} (h_1 : Sp X d 304 [mR 407, mI 100] s (fun r s' => ∃ v : Int, r = some (mI v) ∧ Wp X (d + 1) 305 99 [some (mR 407), some (mI x1), some (mI x2), some (mI x3), some (mI x4), some (mI x5), some (mI x6), some (mI x7), some (mI x8)] [mI v] s' Q)) : Wp X (d + 1) 305 93 [some (mR 407), some (mI x1), some (mI x2), some (mI x3), some (mI x4), some (mI x5), some (mI x6), some (mI x7), some (mI x8)] [] s Q := Wp_step k305 f305_93 (Wp_step k305 f305_94 (Wp_step k305 f305_96 ⟨⟨kf_407, Nat.le_of_ble_eq_true rfl⟩, Nat.le_refl _, _, rfl, Sp_E h_1⟩))
theorem b305_99 {X : (Nat → Int) × Nat} {d : Nat} {s : mSt} {Q : mQ} {x1 : Int} {x2 : Int} {x3 : Int} {x4 : Int} {x5 : Int} {x6 : Int} {x7 : Int} {x8 : Int} {xt0 : Int} (h_1 : x3 ≤ xt0 → Wp X d 305 126 [some (mR 407), some (mI x1), some (mI x2), some (mI x3), some (mI x4), some (mI x5), some (mI x6), some (mI x7), some (mI x8)] [] s Q) (h_2 : ¬ x3 ≤ xt0 → Wp X d 305 103 [some (mR 407), some (mI x1), some (mI x2), some (mI x3), some (mI x4), some (mI x5), some (mI x6), some (mI x7), some (mI x8)] [] s Q) : Wp X d 305 99 [some (mR 407), some (mI x1), some (mI x2), some (mI x3), some (mI x4), some (mI x5), some (mI x6), some (mI x7), some (mI x8)] [mI xt0] s Q := Wp_step k305 f305_99 (Wp_step k305 f305_100 ⟨h_1, h_2⟩)
theorem b305_103 {X : (Nat → Int) × Nat} {d : Nat} {s : mSt} {Q : mQ} {x1 : Int} {x2 : Int} {x3 : Int} {x4 : Int} {x5 : Int} {x6 : Int} {x7 : Int} {x8 : Int} (h_1 : (s 417 4) ≤ 0 → Wp X d 305 126 [some (mR 407), some (mI x1), some (mI x2), some (mI x3), some (mI x4), some (mI x5), some (mI x6), some (mI x7), some (mI x8)] [] s Q) (h_2 : ¬ (s 417 4) ≤ 0 → Wp X d 305 112 [some (mR 407), some (mI x1), some (mI x2), some (mI x3), some (mI x4), some (mI x5), some (mI x6), some (mI x7), some (mI x8)] [] s Q) : Wp X d 305 103 [some (mR 407), some (mI x1), some (mI x2), some (mI x3), some (mI x4), some (mI x5), some (mI x6), some (mI x7), some (mI x8)] [] s Q := Wp_step k305 f305_103 (Wp_step k305 f305_104 ⟨kf_407, 417, rf_407_20, Wp_step k305 f305_107 (Wp_step k305 f305_108 ⟨166, af_417, ⟨by decide, by decide⟩, Wp_step k305 f305_109 ⟨h_1, h_2⟩⟩)⟩)
theorem b305_112 {X : (Nat → Int) × Nat} {d : Nat} {s : mSt} {Q : mQ} {x1 : Int} {x2 : Int} {x3 : Int} {x4 : Int} {x5 : Int} {x6 : Int} {x7 : Int} {x8 : Int} (h_1 : Sp X d 304 [mR 407, mI (s 417 4)] s (fun r s' => ∃ v : Int, r = some (mI v) ∧ Wp X (d + 1) 305 123 [some (mR 407), some (mI x1), some (mI x2), some (mI x3), some (mI x4), some (mI x5), some (mI x6), some (mI x7), some (mI x8)] [mI v, mR 407] s' Q)) : Wp X (d + 1) 305 112 [some (mR 407), some (mI x1), some (mI x2), some (mI x3), some (mI x4), some (mI x5), some (mI x6), some (mI x7), some (mI x8)] [] s Q := Wp_step k305 f305_112 (Wp_step k305 f305_113 (Wp_step k305 f305_114 (Wp_step k305 f305_115 ⟨kf_407, 417, rf_407_20, Wp_step k305 f305_118 (Wp_step k305 f305_119 ⟨166, af_417, ⟨by decide, by decide⟩, Wp_step k305 f305_120 ⟨⟨kf_407, Nat.le_of_ble_eq_true rfl⟩, Nat.le_refl _, _, rfl, Sp_E h_1⟩⟩)⟩)))
theorem b305_123 {X : (Nat → Int) × Nat} {d : Nat} {s : mSt} {Q : mQ} {x1 : Int} {x2 : Int} {x3 : Int} {x4 : Int} {x5 : Int} {x6 : Int} {x7 : Int} {x8 : Int} {xt1 : Int} (h_1 : Sp X d 246 [mR 407, mI xt1] s (fun r s' => r = none ∧ Wp X (d + 1) 305 126 [some (mR 407), some (mI x1), some (mI x2), some (mI x3), some (mI x4), some (mI x5), some (mI x6), some (mI x7), some (mI x8)] [] s' Q)) : Wp X (d + 1) 305 123 [some (mR 407), some (mI x1), some (mI x2), some (mI x3), some (mI x4), some (mI x5), some (mI x6), some (mI x7), some (mI x8)] [mI xt1, mR 407] s Q := Wp_step k305 f305_123 ⟨⟨kf_407, Nat.le_of_ble_eq_true rfl⟩, Nat.le_refl _, _, rfl, Sp_V h_1⟩
theorem b305_126 {X : (Nat → Int) × Nat} {d : Nat} {s : mSt} {Q : mQ} {x1 : Int} {x2 : Int} {x3 : Int} {x4 : Int} {x5 : Int} {x6 : Int} {x7 : Int} {x8 : Int} (h_1 : Sp X d 251 [mR 407] s (fun r s' => ∃ v : Int, r = some (mI v) ∧ Wp X (d + 1) 305 130 [some (mR 407), some (mI x1), some (mI x2), some (mI x3), some (mI x4), some (mI x5), some (mI x6), some (mI x7), some (mI x8)] [mI v] s' Q)) : Wp X (d + 1) 305 126 [some (mR 407), some (mI x1), some (mI x2), some (mI x3), some (mI x4), some (mI x5), some (mI x6), some (mI x7), some (mI x8)] [] s Q := Wp_step k305 f305_126 (Wp_step k305 f305_127 ⟨⟨kf_407, Nat.le_of_ble_eq_true rfl⟩, Nat.le_refl _, _, rfl, Sp_E h_1⟩)
theorem b305_130 {X : (Nat → Int) × Nat} {d : Nat} {s : mSt} {Q : mQ} {x1 : Int} {x2 : Int} {x3 : Int} {x4 : Int} {x5 : Int} {x6 : Int} {x7 : Int} {x8 : Int} {xt0 : Int} (h_1 : Wp X d 305 87 [some (mR 407), some (mI x1), some (mI x2), some (mI x3), some (mI x4), some (mI x5), some (mI x6), some (mI x7), some (mI (w32 (x8 + 1)))] [] s Q) : Wp X d 305 130 [some (mR 407), some (mI x1), some (mI x2), some (mI x3), some (mI x4), some (mI x5), some (mI x6), some (mI x7), some (mI x8)] [mI xt0] s Q := Wp_step k305 f305_130 (Wp_step k305 f305_131 (Wp_step k305 f305_134 (h_1)))
theorem b305_137 {X : (Nat → Int) × Nat} {d : Nat} {s : mSt} {Q : mQ} {x1 : Int} {x2 : Int} {x3 : Int} {x4 : Int} {x5 : Int} {x6 : Int} {x7 : Int} {x8 : Int} (h_1 : Sp X d 285 [mR 407] s (fun r s' => ∃ v : Int, r = some (mI v) ∧ Wp X (d + 1) 305 143 [some (mR 407), some (mI x1), some (mI x2), some (mI x3), some (mI x4), some (mI x5), some (mI x6), some (mI x7), some (mI x8)] [mI v, mI x5] s' Q)) : Wp X (d + 1) 305 137 [some (mR 407), some (mI x1), some (mI x2), some (mI x3), some (mI x4), some (mI x5), some (mI x6), some (mI x7), some (mI x8)] [] s Q := Wp_step k305 f305_137 (Wp_step k305 f305_139 (Wp_step k305 f305_140 ⟨⟨kf_407, Nat.le_of_ble_eq_true rfl⟩, Nat.le_refl _, _, rfl, Sp_E h_1⟩))
theorem b305_143 {X : (Nat → Int) × Nat} {d : Nat} {s : mSt} {Q : mQ} {x1 : Int} {x2 : Int} {x3 : Int} {x4 : Int} {x5 : Int} {x6 : Int} {x7 : Int} {x8 : Int} {xt0 : Int} {xt1 : Int} (h_1 : Sp X d 226 [mR 407] s (fun r s' => ∃ v : Int, r = some (mI v) ∧ Wp X (d + 1) 305 152 [some (mR 407), some (mI x1), some (mI x2), some (mI x3), some (mI x4), some (mI (w32 (xt0 + xt1))), some (mI x6), some (mI x7), some (mI x8)] [mI v, mI x6] s' Q)) : Wp X (d + 1) 305 143 [some (mR 407), some (mI x1), some (mI x2), some (mI x3), some (mI x4), some (mI x5), some (mI x6), some (mI x7), some (mI x8)] [mI xt1, mI xt0] s Q := Wp_step k305 f305_143 (Wp_step k305 f305_144 (Wp_step k305 f305_146 (Wp_step k305 f305_148 (Wp_step k305 f305_149 ⟨⟨kf_407, Nat.le_of_ble_eq_true rfl⟩, Nat.le_refl _, _, rfl, Sp_E h_1⟩))))
theorem b305_152 {X : (Nat → Int) × Nat} {d : Nat} {s : mSt} {Q : mQ} {x1 : Int} {x2 : Int} {x3 : Int} {x4 : Int} {x5 : Int} {x6 : Int} {x7 : Int} {x8 : Int} {xt0 : Int} {xt1 : Int} (h_1 : Sp X d 278 [mR 407] s (fun r s' => r = none ∧ Wp X (d + 1) 305 159 [some (mR 407), some (mI x1), some (mI x2), some (mI x3), some (mI x4), some (mI x5), some (mI (w32 (xt0 + xt1))), some (mI x7), some (mI x8)] [] s' Q)) : Wp X (d + 1) 305 152 [some (mR 407), some (mI x1), some (mI x2), some (mI x3), some (mI x4), some (mI x5), some (mI x6), some (mI x7), some (mI x8)] [mI xt1, mI xt0] s Q := Wp_step k305 f305_152 (Wp_step k305 f305_153 (Wp_step k305 f305_155 (Wp_step k305 f305_156 ⟨⟨kf_407, Nat.le_of_ble_eq_true rfl⟩, Nat.le_refl _, _, rfl, Sp_V h_1⟩)))
theorem b305_159 {X : (Nat → Int) × Nat} {d : Nat} {s : mSt} {Q : mQ} {x1 : Int} {x2 : Int} {x3 : Int} {x4 : Int} {x5 : Int} {x6 : Int} {x7 : Int} {x8 : Int} (h_1 : Wp X d 305 78 [some (mR 407), some (mI x1), some (mI x2), some (mI x3), some (mI x4), some (mI x5), some (mI x6), some (mI (w32 (x7 + 1))), some (mI x8)] [] s Q) : Wp X d 305 159 [some (mR 407), some (mI x1), some (mI x2), some (mI x3), some (mI x4), some (mI x5), some (mI x6), some (mI x7), some (mI x8)] [] s Q := Wp_step k305 f305_159 (Wp_step k305 f305_162 (h_1))
theorem b305_165 {X : (Nat → Int) × Nat} {d : Nat} {s : mSt} {Q : mQ} {x1 : Int} {x2 : Int} {x3 : Int} {x4 : Int} {x5 : Int} {x6 : Int} {x7 : Int} (h_1 : ¬ x4 = 0 → Wp X d 305 175 [some (mR 407), some (mI x1), some (mI x2), some (mI x3), some (mI x4), some (mI x5), some (mI x6), some (mI x7), none] [] s Q) (h_2 : x4 = 0 → Wp X d 305 170 [some (mR 407), some (mI x1), some (mI x2), some (mI x3), some (mI x4), some (mI x5), some (mI x6), some (mI x7), none] [] s Q) : Wp X d 305 165 [some (mR 407), some (mI x1), some (mI x2), some (mI x3), some (mI x4), some (mI x5), some (mI x6), some (mI x7), none] [] s Q := Wp_step k305 f305_165 (Wp_step k305 f305_167 ⟨h_1, h_2⟩)
theorem b305_170 {X : (Nat → Int) × Nat} {d : Nat} {s : mSt} {Q : mQ} {x1 : Int} {x2 : Int} {x3 : Int} {x4 : Int} {x5 : Int} {x6 : Int} {x7 : Int} (h_1 : Wp X d 305 177 [some (mR 407), some (mI x1), some (mI x2), some (mI x3), some (mI x4), some (mI x5), some (mI x6), some (mI x7), none] [mI x5] s Q) : Wp X d 305 170 [some (mR 407), some (mI x1), some (mI x2), some (mI x3), some (mI x4), some (mI x5), some (mI x6), some (mI x7), none] [] s Q := Wp_step k305 f305_170 (Wp_step k305 f305_172 (h_1))
theorem b305_175 {X : (Nat → Int) × Nat} {d : Nat} {s : mSt} {Q : mQ} {x1 : Int} {x2 : Int} {x3 : Int} {x4 : Int} {x5 : Int} {x6 : Int} {x7 : Int} (h_1 : Wp X d 305 177 [some (mR 407), some (mI x1), some (mI x2), some (mI x3), some (mI x4), some (mI x5), some (mI x6), some (mI x7), none] [mI x6] s Q) : Wp X d 305 175 [some (mR 407), some (mI x1), some (mI x2), some (mI x3), some (mI x4), some (mI x5), some (mI x6), some (mI x7), none] [] s Q := Wp_step k305 f305_175 (h_1)
theorem b305_177 {X : (Nat → Int) × Nat} {d : Nat} {s : mSt} {Q : mQ} {x1 : Int} {x2 : Int} {x3 : Int} {x4 : Int} {x5 : Int} {x6 : Int} {x7 : Int} {xt0 : Int} (h_1 : Q (some (mI xt0)) s) : Wp X d 305 177 [some (mR 407), some (mI x1), some (mI x2), some (mI x3), some (mI x4), some (mI x5), some (mI x6), some (mI x7), none] [mI xt0] s Q := Wp_step k305 f305_177 ⟨⟨rfl, trivial⟩, h_1⟩
theorem e305 {X : (Nat → Int) × Nat} {d : Nat} {s : mSt} {Q : mQ} {x1 : Int} {x2 : Int} {x3 : Int} {x4 : Int} (h : Wp X d 305 0 [some (mR 407), some (mI x1), some (mI x2), some (mI x3), some (mI x4), none, none, none, none] [] s Q) : Sp X d 305 [mR 407, mI x1, mI x2, mI x3, mI x4] s Q := Sp_of (show mCe 305 = 0 by decide +kernel) (by rw [show mML 305 = 9 by decide +kernel]; rfl) (Nat.le_trans (Nat.le_of_ble_eq_true (show Nat.ble (mArgs _).length 9 = true from rfl)) (show 9 ≤ mML 305 by decide +kernel)) h
