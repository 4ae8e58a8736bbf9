-- 247 ClashDayModel.summedBy(I)J
theorem k247 : mRk 247 = 4 := by decide +kernel
theorem f247_0 : mFetch 247 0 = some (.iconst 0, 1, 0, 0, 0, 0) := by decide +kernel
theorem f247_1 : mFetch 247 1 = some (.istore_n 2, 1, 0, 0, 0, 0) := by decide +kernel
theorem f247_2 : mFetch 247 2 = some (.iload_n 2, 1, 0, 0, 0, 0) := by decide +kernel
theorem f247_3 : mFetch 247 3 = some (.aload_n 0, 1, 0, 0, 0, 0) := by decide +kernel
theorem f247_4 : mFetch 247 4 = some (.getfield 23, 3, 12, 6, 2, 1) := by decide +kernel
theorem f247_7 : mFetch 247 7 = some (.iload_n 1, 1, 0, 0, 0, 0) := by decide +kernel
theorem f247_8 : mFetch 247 8 = some (.iaload, 1, 0, 0, 0, 0) := by decide +kernel
theorem f247_9 : mFetch 247 9 = some (.if_icmp .ge 75, 3, 84, 0, 0, 0) := by decide +kernel
theorem f247_12 : mFetch 247 12 = some (.bipush 48, 2, 0, 0, 0, 0) := by decide +kernel
theorem f247_14 : mFetch 247 14 = some (.iload_n 1, 1, 0, 0, 0, 0) := by decide +kernel
theorem f247_15 : mFetch 247 15 = some (.imul, 1, 0, 0, 0, 0) := by decide +kernel
theorem f247_16 : mFetch 247 16 = some (.iconst 4, 1, 0, 0, 0, 0) := by decide +kernel
theorem f247_17 : mFetch 247 17 = some (.iload_n 2, 1, 0, 0, 0, 0) := by decide +kernel
theorem f247_18 : mFetch 247 18 = some (.imul, 1, 0, 0, 0, 0) := by decide +kernel
theorem f247_19 : mFetch 247 19 = some (.iadd, 1, 0, 0, 0, 0) := by decide +kernel
theorem f247_20 : mFetch 247 20 = some (.istore_n 3, 1, 0, 0, 0, 0) := by decide +kernel
theorem f247_21 : mFetch 247 21 = some (.aload_n 0, 1, 0, 0, 0, 0) := by decide +kernel
theorem f247_22 : mFetch 247 22 = some (.getfield 20, 3, 12, 5, 2, 1) := by decide +kernel
theorem f247_25 : mFetch 247 25 = some (.iload_n 3, 1, 0, 0, 0, 0) := by decide +kernel
theorem f247_26 : mFetch 247 26 = some (.iconst 2, 1, 0, 0, 0, 0) := by decide +kernel
theorem f247_27 : mFetch 247 27 = some (.iadd, 1, 0, 0, 0, 0) := by decide +kernel
theorem f247_28 : mFetch 247 28 = some (.iaload, 1, 0, 0, 0, 0) := by decide +kernel
theorem f247_29 : mFetch 247 29 = some (.ifCond .lt 29, 3, 58, 0, 0, 0) := by decide +kernel
theorem f247_32 : mFetch 247 32 = some (.aload_n 0, 1, 0, 0, 0, 0) := by decide +kernel
theorem f247_33 : mFetch 247 33 = some (.iload_n 1, 1, 0, 0, 0, 0) := by decide +kernel
theorem f247_34 : mFetch 247 34 = some (.aload_n 0, 1, 0, 0, 0, 0) := by decide +kernel
theorem f247_35 : mFetch 247 35 = some (.getfield 20, 3, 12, 5, 2, 1) := by decide +kernel
theorem f247_38 : mFetch 247 38 = some (.iload_n 3, 1, 0, 0, 0, 0) := by decide +kernel
theorem f247_39 : mFetch 247 39 = some (.iconst 2, 1, 0, 0, 0, 0) := by decide +kernel
theorem f247_40 : mFetch 247 40 = some (.iadd, 1, 0, 0, 0, 0) := by decide +kernel
theorem f247_41 : mFetch 247 41 = some (.iaload, 1, 0, 0, 0, 0) := by decide +kernel
theorem f247_42 : mFetch 247 42 = some (.aload_n 0, 1, 0, 0, 0, 0) := by decide +kernel
theorem f247_43 : mFetch 247 43 = some (.getfield 20, 3, 12, 5, 2, 1) := by decide +kernel
theorem f247_46 : mFetch 247 46 = some (.iload_n 3, 1, 0, 0, 0, 0) := by decide +kernel
theorem f247_47 : mFetch 247 47 = some (.iconst 3, 1, 0, 0, 0, 0) := by decide +kernel
theorem f247_48 : mFetch 247 48 = some (.iadd, 1, 0, 0, 0, 0) := by decide +kernel
theorem f247_49 : mFetch 247 49 = some (.iaload, 1, 0, 0, 0, 0) := by decide +kernel
theorem f247_50 : mFetch 247 50 = some (.invokevirtual 423, 3, 211, 0, 4, 12) := by decide +kernel
theorem f247_53 : mFetch 247 53 = some (.lconst 1, 1, 0, 0, 0, 0) := by decide +kernel
theorem f247_54 : mFetch 247 54 = some (.lcmp, 1, 0, 0, 0, 0) := by decide +kernel
theorem f247_55 : mFetch 247 55 = some (.ifCond .ne 23, 3, 78, 0, 0, 0) := by decide +kernel
theorem f247_58 : mFetch 247 58 = some (.aload_n 0, 1, 0, 0, 0, 0) := by decide +kernel
theorem f247_59 : mFetch 247 59 = some (.iload_n 1, 1, 0, 0, 0, 0) := by decide +kernel
theorem f247_60 : mFetch 247 60 = some (.aload_n 0, 1, 0, 0, 0, 0) := by decide +kernel
theorem f247_61 : mFetch 247 61 = some (.getfield 20, 3, 12, 5, 2, 1) := by decide +kernel
theorem f247_64 : mFetch 247 64 = some (.iload_n 3, 1, 0, 0, 0, 0) := by decide +kernel
theorem f247_65 : mFetch 247 65 = some (.iaload, 1, 0, 0, 0, 0) := by decide +kernel
theorem f247_66 : mFetch 247 66 = some (.aload_n 0, 1, 0, 0, 0, 0) := by decide +kernel
theorem f247_67 : mFetch 247 67 = some (.getfield 20, 3, 12, 5, 2, 1) := by decide +kernel
theorem f247_70 : mFetch 247 70 = some (.iload_n 3, 1, 0, 0, 0, 0) := by decide +kernel
theorem f247_71 : mFetch 247 71 = some (.iconst 1, 1, 0, 0, 0, 0) := by decide +kernel
theorem f247_72 : mFetch 247 72 = some (.iadd, 1, 0, 0, 0, 0) := by decide +kernel
theorem f247_73 : mFetch 247 73 = some (.iaload, 1, 0, 0, 0, 0) := by decide +kernel
theorem f247_74 : mFetch 247 74 = some (.invokevirtual 423, 3, 211, 0, 4, 12) := by decide +kernel
theorem f247_77 : mFetch 247 77 = some (.lreturn, 1, 0, 0, 0, 0) := by decide +kernel
theorem f247_78 : mFetch 247 78 = some (.iinc 2 1, 3, 0, 0, 0, 0) := by decide +kernel
theorem f247_81 : mFetch 247 81 = some (.goto (-79), 3, 2, 0, 0, 0) := by decide +kernel
theorem f247_84 : mFetch 247 84 = some (.lconst 0, 1, 0, 0, 0, 0) := by decide +kernel
theorem f247_85 : mFetch 247 85 = some (.lreturn, 1, 0, 0, 0, 0) := by decide +kernel
theorem b247_0 {X : (Nat → Int) × Nat} {d : Nat} {s : mSt} {Q : mQ} {x1 : Int} (h_1 : Wp X d 247 2 [some (mR 407), some (mI x1), some (mI 0), none] [] s Q) : Wp X d 247 0 [some (mR 407), some (mI x1), none, none] [] s Q := Wp_step k247 f247_0 (Wp_step k247 f247_1 (h_1))
theorem b247_2 {X : (Nat → Int) × Nat} {d : Nat} {s : mSt} {Q : mQ} {x1 : Int} {x2 : Int} (h_1 : 0 ≤ x1 ∧ x1 < 6) (h_2 : (s 412 x1.toNat) ≤ x2 → Wp X d 247 84 [some (mR 407), some (mI x1), some (mI x2), none] [] s Q) (h_3 : ¬ (s 412 x1.toNat) ≤ x2 → Wp X d 247 12 [some (mR 407), some (mI x1), some (mI x2), none] [] s Q) : Wp X d 247 2 [some (mR 407), some (mI x1), some (mI x2), none] [] s Q := Wp_step k247 f247_2 (Wp_step k247 f247_3 (Wp_step k247 f247_4 ⟨kf_407, 412, rf_407_6, Wp_step k247 f247_7 (Wp_step k247 f247_8 ⟨6, af_412, h_1, Wp_step k247 f247_9 ⟨h_2, h_3⟩⟩)⟩))
theorem b247_12 {X : (Nat → Int) × Nat} {d : Nat} {s : mSt} {Q : mQ} {x1 : Int} {x2 : Int} (h_1 : 0 ≤ (w32 ((w32 ((w32 (48 * x1)) + (w32 (4 * x2)))) + 2)) ∧ (w32 ((w32 ((w32 (48 * x1)) + (w32 (4 * x2)))) + 2)) < 288) (h_2 : (s 411 (w32 ((w32 ((w32 (48 * x1)) + (w32 (4 * x2)))) + 2)).toNat) < 0 → Wp X d 247 58 [some (mR 407), some (mI x1), some (mI x2), some (mI (w32 ((w32 (48 * x1)) + (w32 (4 * x2)))))] [] s Q) (h_3 : ¬ (s 411 (w32 ((w32 ((w32 (48 * x1)) + (w32 (4 * x2)))) + 2)).toNat) < 0 → Wp X d 247 32 [some (mR 407), some (mI x1), some (mI x2), some (mI (w32 ((w32 (48 * x1)) + (w32 (4 * x2)))))] [] s Q) : Wp X d 247 12 [some (mR 407), some (mI x1), some (mI x2), none] [] s Q := Wp_step k247 f247_12 (Wp_step k247 f247_14 (Wp_step k247 f247_15 (Wp_step k247 f247_16 (Wp_step k247 f247_17 (Wp_step k247 f247_18 (Wp_step k247 f247_19 (Wp_step k247 f247_20 (Wp_step k247 f247_21 (Wp_step k247 f247_22 ⟨kf_407, 411, rf_407_5, Wp_step k247 f247_25 (Wp_step k247 f247_26 (Wp_step k247 f247_27 (Wp_step k247 f247_28 ⟨288, af_411, h_1, Wp_step k247 f247_29 ⟨h_2, h_3⟩⟩)))⟩)))))))))
theorem b247_32 {X : (Nat → Int) × Nat} {d : Nat} {s : mSt} {Q : mQ} {x1 : Int} {x2 : Int} {x3 : Int} (h_1 : 0 ≤ (w32 (x3 + 2)) ∧ (w32 (x3 + 2)) < 288) (h_2 : 0 ≤ (w32 (x3 + 3)) ∧ (w32 (x3 + 3)) < 288) (h_3 : Sp X d 211 [mR 407, mI x1, mI (s 411 (w32 (x3 + 2)).toNat), mI (s 411 (w32 (x3 + 3)).toNat)] s (fun r s' => ∃ v : Int, r = some (mJ v) ∧ Wp X (d + 1) 247 53 [some (mR 407), some (mI x1), some (mI x2), some (mI x3)] [mJ v] s' Q)) : Wp X (d + 1) 247 32 [some (mR 407), some (mI x1), some (mI x2), some (mI x3)] [] s Q := Wp_step k247 f247_32 (Wp_step k247 f247_33 (Wp_step k247 f247_34 (Wp_step k247 f247_35 ⟨kf_407, 411, rf_407_5, Wp_step k247 f247_38 (Wp_step k247 f247_39 (Wp_step k247 f247_40 (Wp_step k247 f247_41 ⟨288, af_411, h_1, Wp_step k247 f247_42 (Wp_step k247 f247_43 ⟨kf_407, 411, rf_407_5, Wp_step k247 f247_46 (Wp_step k247 f247_47 (Wp_step k247 f247_48 (Wp_step k247 f247_49 ⟨288, af_411, h_2, Wp_step k247 f247_50 ⟨⟨kf_407, Nat.le_of_ble_eq_true rfl⟩, Nat.le_refl _, _, rfl, Sp_E h_3⟩⟩)))⟩)⟩)))⟩)))
theorem b247_53 {X : (Nat → Int) × Nat} {d : Nat} {s : mSt} {Q : mQ} {x1 : Int} {x2 : Int} {x3 : Int} {xt0 : Int} (h_1 : ¬ (lCmp xt0 1) = 0 → Wp X d 247 78 [some (mR 407), some (mI x1), some (mI x2), some (mI x3)] [] s Q) (h_2 : (lCmp xt0 1) = 0 → Wp X d 247 58 [some (mR 407), some (mI x1), some (mI x2), some (mI x3)] [] s Q) : Wp X d 247 53 [some (mR 407), some (mI x1), some (mI x2), some (mI x3)] [mJ xt0] s Q := Wp_step k247 f247_53 (Wp_step k247 f247_54 (Wp_step k247 f247_55 ⟨h_1, h_2⟩))
theorem b247_58 {X : (Nat → Int) × Nat} {d : Nat} {s : mSt} {Q : mQ} {x1 : Int} {x2 : Int} {x3 : Int} (h_1 : 0 ≤ x3 ∧ x3 < 288) (h_2 : 0 ≤ (w32 (x3 + 1)) ∧ (w32 (x3 + 1)) < 288) (h_3 : Sp X d 211 [mR 407, mI x1, mI (s 411 x3.toNat), mI (s 411 (w32 (x3 + 1)).toNat)] s (fun r s' => ∃ v : Int, r = some (mJ v) ∧ Wp X (d + 1) 247 77 [some (mR 407), some (mI x1), some (mI x2), some (mI x3)] [mJ v] s' Q)) : Wp X (d + 1) 247 58 [some (mR 407), some (mI x1), some (mI x2), some (mI x3)] [] s Q := Wp_step k247 f247_58 (Wp_step k247 f247_59 (Wp_step k247 f247_60 (Wp_step k247 f247_61 ⟨kf_407, 411, rf_407_5, Wp_step k247 f247_64 (Wp_step k247 f247_65 ⟨288, af_411, h_1, Wp_step k247 f247_66 (Wp_step k247 f247_67 ⟨kf_407, 411, rf_407_5, Wp_step k247 f247_70 (Wp_step k247 f247_71 (Wp_step k247 f247_72 (Wp_step k247 f247_73 ⟨288, af_411, h_2, Wp_step k247 f247_74 ⟨⟨kf_407, Nat.le_of_ble_eq_true rfl⟩, Nat.le_refl _, _, rfl, Sp_E h_3⟩⟩)))⟩)⟩)⟩)))
theorem b247_77 {X : (Nat → Int) × Nat} {d : Nat} {s : mSt} {Q : mQ} {x1 : Int} {x2 : Int} {x3 : Int} {xt0 : Int} (h_1 : Q (some (mJ xt0)) s) : Wp X d 247 77 [some (mR 407), some (mI x1), some (mI x2), some (mI x3)] [mJ xt0] s Q := Wp_step k247 f247_77 ⟨⟨rfl, rfl⟩, h_1⟩
theorem b247_78 {X : (Nat → Int) × Nat} {d : Nat} {s : mSt} {Q : mQ} {x1 : Int} {x2 : Int} {x3 : Int} (h_1 : Wp X d 247 2 [some (mR 407), some (mI x1), some (mI (w32 (x2 + 1))), some (mI x3)] [] s Q) : Wp X d 247 78 [some (mR 407), some (mI x1), some (mI x2), some (mI x3)] [] s Q := Wp_step k247 f247_78 (Wp_step k247 f247_81 (h_1))
theorem b247_84 {X : (Nat → Int) × Nat} {d : Nat} {s : mSt} {Q : mQ} {x1 : Int} {x2 : Int} (h_1 : Q (some (mJ 0)) s) : Wp X d 247 84 [some (mR 407), some (mI x1), some (mI x2), none] [] s Q := Wp_step k247 f247_84 (Wp_step k247 f247_85 ⟨⟨rfl, rfl⟩, h_1⟩)
theorem e247 {X : (Nat → Int) × Nat} {d : Nat} {s : mSt} {Q : mQ} {x1 : Int} (h : Wp X d 247 0 [some (mR 407), some (mI x1), none, none] [] s Q) : Sp X d 247 [mR 407, mI x1] s Q := Sp_of (show mCe 247 = 0 by decide +kernel) (by rw [show mML 247 = 4 by decide +kernel]; rfl) (Nat.le_trans (Nat.le_of_ble_eq_true (show Nat.ble (mArgs _).length 4 = true from rfl)) (show 4 ≤ mML 247 by decide +kernel)) h
-- 248 ClashDayModel.busyNow()I
theorem k248 : mRk 248 = 1 := by decide +kernel
theorem f248_0 : mFetch 248 0 = some (.iconst 0, 1, 0, 0, 0, 0) := by decide +kernel
theorem f248_1 : mFetch 248 1 = some (.istore_n 1, 1, 0, 0, 0, 0) := by decide +kernel
theorem f248_2 : mFetch 248 2 = some (.iconst 0, 1, 0, 0, 0, 0) := by decide +kernel
theorem f248_3 : mFetch 248 3 = some (.istore_n 2, 1, 0, 0, 0, 0) := by decide +kernel
theorem f248_4 : mFetch 248 4 = some (.iload_n 2, 1, 0, 0, 0, 0) := by decide +kernel
theorem f248_5 : mFetch 248 5 = some (.bipush 30, 2, 0, 0, 0, 0) := by decide +kernel
theorem f248_7 : mFetch 248 7 = some (.if_icmp .ge 42, 3, 49, 0, 0, 0) := by decide +kernel
theorem f248_10 : mFetch 248 10 = some (.aload_n 0, 1, 0, 0, 0, 0) := by decide +kernel
theorem f248_11 : mFetch 248 11 = some (.getfield 39, 3, 12, 20, 2, 1) := by decide +kernel
theorem f248_14 : mFetch 248 14 = some (.iconst 1, 1, 0, 0, 0, 0) := by decide +kernel
theorem f248_15 : mFetch 248 15 = some (.iaload, 1, 0, 0, 0, 0) := by decide +kernel
theorem f248_16 : mFetch 248 16 = some (.aload_n 0, 1, 0, 0, 0, 0) := by decide +kernel
theorem f248_17 : mFetch 248 17 = some (.iload_n 2, 1, 0, 0, 0, 0) := by decide +kernel
theorem f248_18 : mFetch 248 18 = some (.invokevirtual 359, 3, 223, 0, 2, 12) := by decide +kernel
theorem f248_21 : mFetch 248 21 = some (.isub, 1, 0, 0, 0, 0) := by decide +kernel
theorem f248_22 : mFetch 248 22 = some (.iload_n 1, 1, 0, 0, 0, 0) := by decide +kernel
theorem f248_23 : mFetch 248 23 = some (.if_icmp .le 18, 3, 41, 0, 0, 0) := by decide +kernel
theorem f248_26 : mFetch 248 26 = some (.aload_n 0, 1, 0, 0, 0, 0) := by decide +kernel
theorem f248_27 : mFetch 248 27 = some (.getfield 39, 3, 12, 20, 2, 1) := by decide +kernel
theorem f248_30 : mFetch 248 30 = some (.iconst 1, 1, 0, 0, 0, 0) := by decide +kernel
theorem f248_31 : mFetch 248 31 = some (.iaload, 1, 0, 0, 0, 0) := by decide +kernel
theorem f248_32 : mFetch 248 32 = some (.aload_n 0, 1, 0, 0, 0, 0) := by decide +kernel
theorem f248_33 : mFetch 248 33 = some (.iload_n 2, 1, 0, 0, 0, 0) := by decide +kernel
theorem f248_34 : mFetch 248 34 = some (.invokevirtual 359, 3, 223, 0, 2, 12) := by decide +kernel
theorem f248_37 : mFetch 248 37 = some (.isub, 1, 0, 0, 0, 0) := by decide +kernel
theorem f248_38 : mFetch 248 38 = some (.goto 4, 3, 42, 0, 0, 0) := by decide +kernel
theorem f248_41 : mFetch 248 41 = some (.iload_n 1, 1, 0, 0, 0, 0) := by decide +kernel
theorem f248_42 : mFetch 248 42 = some (.istore_n 1, 1, 0, 0, 0, 0) := by decide +kernel
theorem f248_43 : mFetch 248 43 = some (.iinc 2 1, 3, 0, 0, 0, 0) := by decide +kernel
theorem f248_46 : mFetch 248 46 = some (.goto (-42), 3, 4, 0, 0, 0) := by decide +kernel
theorem f248_49 : mFetch 248 49 = some (.iload_n 1, 1, 0, 0, 0, 0) := by decide +kernel
theorem f248_50 : mFetch 248 50 = some (.ireturn, 1, 0, 0, 0, 0) := by decide +kernel
theorem b248_0 {X : (Nat → Int) × Nat} {d : Nat} {s : mSt} {Q : mQ} (h_1 : Wp X d 248 4 [some (mR 407), some (mI 0), some (mI 0)] [] s Q) : Wp X d 248 0 [some (mR 407), none, none] [] s Q := Wp_step k248 f248_0 (Wp_step k248 f248_1 (Wp_step k248 f248_2 (Wp_step k248 f248_3 (h_1))))
theorem b248_4 {X : (Nat → Int) × Nat} {d : Nat} {s : mSt} {Q : mQ} {x1 : Int} {x2 : Int} (h_1 : 30 ≤ x2 → Wp X d 248 49 [some (mR 407), some (mI x1), some (mI x2)] [] s Q) (h_2 : ¬ 30 ≤ x2 → Wp X d 248 10 [some (mR 407), some (mI x1), some (mI x2)] [] s Q) : Wp X d 248 4 [some (mR 407), some (mI x1), some (mI x2)] [] s Q := Wp_step k248 f248_4 (Wp_step k248 f248_5 (Wp_step k248 f248_7 ⟨h_1, h_2⟩))
theorem b248_10 {X : (Nat → Int) × Nat} {d : Nat} {s : mSt} {Q : mQ} {x1 : Int} {x2 : Int} (h_1 : Sp X d 223 [mR 407, mI x2] s (fun r s' => ∃ v : Int, r = some (mI v) ∧ Wp X (d + 1) 248 21 [some (mR 407), some (mI x1), some (mI x2)] [mI v, mI (s 417 1)] s' Q)) : Wp X (d + 1) 248 10 [some (mR 407), some (mI x1), some (mI x2)] [] s Q := Wp_step k248 f248_10 (Wp_step k248 f248_11 ⟨kf_407, 417, rf_407_20, Wp_step k248 f248_14 (Wp_step k248 f248_15 ⟨166, af_417, ⟨by decide, by decide⟩, Wp_step k248 f248_16 (Wp_step k248 f248_17 (Wp_step k248 f248_18 ⟨⟨kf_407, Nat.le_of_ble_eq_true rfl⟩, Nat.le_refl _, _, rfl, Sp_E h_1⟩))⟩)⟩)
theorem b248_21 {X : (Nat → Int) × Nat} {d : Nat} {s : mSt} {Q : mQ} {x1 : Int} {x2 : Int} {xt0 : Int} {xt1 : Int} (h_1 : (w32 (xt0 - xt1)) ≤ x1 → Wp X d 248 41 [some (mR 407), some (mI x1), some (mI x2)] [] s Q) (h_2 : ¬ (w32 (xt0 - xt1)) ≤ x1 → Wp X d 248 26 [some (mR 407), some (mI x1), some (mI x2)] [] s Q) : Wp X d 248 21 [some (mR 407), some (mI x1), some (mI x2)] [mI xt1, mI xt0] s Q := Wp_step k248 f248_21 (Wp_step k248 f248_22 (Wp_step k248 f248_23 ⟨h_1, h_2⟩))
theorem b248_26 {X : (Nat → Int) × Nat} {d : Nat} {s : mSt} {Q : mQ} {x1 : Int} {x2 : Int} (h_1 : Sp X d 223 [mR 407, mI x2] s (fun r s' => ∃ v : Int, r = some (mI v) ∧ Wp X (d + 1) 248 37 [some (mR 407), some (mI x1), some (mI x2)] [mI v, mI (s 417 1)] s' Q)) : Wp X (d + 1) 248 26 [some (mR 407), some (mI x1), some (mI x2)] [] s Q := Wp_step k248 f248_26 (Wp_step k248 f248_27 ⟨kf_407, 417, rf_407_20, Wp_step k248 f248_30 (Wp_step k248 f248_31 ⟨166, af_417, ⟨by decide, by decide⟩, Wp_step k248 f248_32 (Wp_step k248 f248_33 (Wp_step k248 f248_34 ⟨⟨kf_407, Nat.le_of_ble_eq_true rfl⟩, Nat.le_refl _, _, rfl, Sp_E h_1⟩))⟩)⟩)
theorem b248_37 {X : (Nat → Int) × Nat} {d : Nat} {s : mSt} {Q : mQ} {x1 : Int} {x2 : Int} {xt0 : Int} {xt1 : Int} (h_1 : Wp X d 248 42 [some (mR 407), some (mI x1), some (mI x2)] [mI (w32 (xt0 - xt1))] s Q) : Wp X d 248 37 [some (mR 407), some (mI x1), some (mI x2)] [mI xt1, mI xt0] s Q := Wp_step k248 f248_37 (Wp_step k248 f248_38 (h_1))
theorem b248_41 {X : (Nat → Int) × Nat} {d : Nat} {s : mSt} {Q : mQ} {x1 : Int} {x2 : Int} (h_1 : Wp X d 248 42 [some (mR 407), some (mI x1), some (mI x2)] [mI x1] s Q) : Wp X d 248 41 [some (mR 407), some (mI x1), some (mI x2)] [] s Q := Wp_step k248 f248_41 (h_1)
theorem b248_42 {X : (Nat → Int) × Nat} {d : Nat} {s : mSt} {Q : mQ} {x1 : Int} {x2 : Int} {xt0 : Int} (h_1 : Wp X d 248 4 [some (mR 407), some (mI xt0), some (mI (w32 (x2 + 1)))] [] s Q) : Wp X d 248 42 [some (mR 407), some (mI x1), some (mI x2)] [mI xt0] s Q := Wp_step k248 f248_42 (Wp_step k248 f248_43 (Wp_step k248 f248_46 (h_1)))
theorem b248_49 {X : (Nat → Int) × Nat} {d : Nat} {s : mSt} {Q : mQ} {x1 : Int} {x2 : Int} (h_1 : Q (some (mI x1)) s) : Wp X d 248 49 [some (mR 407), some (mI x1), some (mI x2)] [] s Q := Wp_step k248 f248_49 (Wp_step k248 f248_50 ⟨⟨rfl, trivial⟩, h_1⟩)
theorem e248 {X : (Nat → Int) × Nat} {d : Nat} {s : mSt} {Q : mQ} (h : Wp X d 248 0 [some (mR 407), none, none] [] s Q) : Sp X d 248 [mR 407] s Q := Sp_of (show mCe 248 = 0 by decide +kernel) (by rw [show mML 248 = 3 by decide +kernel]; rfl) (Nat.le_trans (Nat.le_of_ble_eq_true (show Nat.ble (mArgs _).length 3 = true from rfl)) (show 3 ≤ mML 248 by decide +kernel)) h
-- 249 ClashDayModel.sumOf(I)J
theorem k249 : mRk 249 = 4 := by decide +kernel
theorem f249_0 : mFetch 249 0 = some (.aload_n 0, 1, 0, 0, 0, 0) := by decide +kernel
theorem f249_1 : mFetch 249 1 = some (.getfield 36, 3, 12, 19, 2, 1) := by decide +kernel
theorem f249_4 : mFetch 249 4 = some (.iconst 0, 1, 0, 0, 0, 0) := by decide +kernel
theorem f249_5 : mFetch 249 5 = some (.iload_n 1, 1, 0, 0, 0, 0) := by decide +kernel
theorem f249_6 : mFetch 249 6 = some (.i2l, 1, 0, 0, 0, 0) := by decide +kernel
theorem f249_7 : mFetch 249 7 = some (.lastore, 1, 0, 0, 0, 0) := by decide +kernel
theorem f249_8 : mFetch 249 8 = some (.aload_n 0, 1, 0, 0, 0, 0) := by decide +kernel
theorem f249_9 : mFetch 249 9 = some (.getfield 36, 3, 12, 19, 2, 1) := by decide +kernel
theorem f249_12 : mFetch 249 12 = some (.iconst 1, 1, 0, 0, 0, 0) := by decide +kernel
theorem f249_13 : mFetch 249 13 = some (.aload_n 0, 1, 0, 0, 0, 0) := by decide +kernel
theorem f249_14 : mFetch 249 14 = some (.getfield 39, 3, 12, 20, 2, 1) := by decide +kernel
theorem f249_17 : mFetch 249 17 = some (.bipush 117, 2, 0, 0, 0, 0) := by decide +kernel
theorem f249_19 : mFetch 249 19 = some (.iload_n 1, 1, 0, 0, 0, 0) := by decide +kernel
theorem f249_20 : mFetch 249 20 = some (.iadd, 1, 0, 0, 0, 0) := by decide +kernel
theorem f249_21 : mFetch 249 21 = some (.iaload, 1, 0, 0, 0, 0) := by decide +kernel
theorem f249_22 : mFetch 249 22 = some (.invokestatic 427, 3, 169, 0, 1, 99) := by decide +kernel
theorem f249_25 : mFetch 249 25 = some (.i2l, 1, 0, 0, 0, 0) := by decide +kernel
theorem f249_26 : mFetch 249 26 = some (.lastore, 1, 0, 0, 0, 0) := by decide +kernel
theorem f249_27 : mFetch 249 27 = some (.aload_n 0, 1, 0, 0, 0, 0) := by decide +kernel
theorem f249_28 : mFetch 249 28 = some (.getfield 36, 3, 12, 19, 2, 1) := by decide +kernel
theorem f249_31 : mFetch 249 31 = some (.iconst 2, 1, 0, 0, 0, 0) := by decide +kernel
theorem f249_32 : mFetch 249 32 = some (.aload_n 0, 1, 0, 0, 0, 0) := by decide +kernel
theorem f249_33 : mFetch 249 33 = some (.getfield 39, 3, 12, 20, 2, 1) := by decide +kernel
theorem f249_36 : mFetch 249 36 = some (.bipush 123, 2, 0, 0, 0, 0) := by decide +kernel
theorem f249_38 : mFetch 249 38 = some (.iload_n 1, 1, 0, 0, 0, 0) := by decide +kernel
theorem f249_39 : mFetch 249 39 = some (.iadd, 1, 0, 0, 0, 0) := by decide +kernel
theorem f249_40 : mFetch 249 40 = some (.iaload, 1, 0, 0, 0, 0) := by decide +kernel
theorem f249_41 : mFetch 249 41 = some (.i2l, 1, 0, 0, 0, 0) := by decide +kernel
theorem f249_42 : mFetch 249 42 = some (.lastore, 1, 0, 0, 0, 0) := by decide +kernel
theorem f249_43 : mFetch 249 43 = some (.aload_n 0, 1, 0, 0, 0, 0) := by decide +kernel
theorem f249_44 : mFetch 249 44 = some (.getfield 36, 3, 12, 19, 2, 1) := by decide +kernel
theorem f249_47 : mFetch 249 47 = some (.iconst 3, 1, 0, 0, 0, 0) := by decide +kernel
theorem f249_48 : mFetch 249 48 = some (.aload_n 0, 1, 0, 0, 0, 0) := by decide +kernel
theorem f249_49 : mFetch 249 49 = some (.getfield 39, 3, 12, 20, 2, 1) := by decide +kernel
theorem f249_52 : mFetch 249 52 = some (.sipush 129, 3, 0, 0, 0, 0) := by decide +kernel
theorem f249_55 : mFetch 249 55 = some (.iload_n 1, 1, 0, 0, 0, 0) := by decide +kernel
theorem f249_56 : mFetch 249 56 = some (.iadd, 1, 0, 0, 0, 0) := by decide +kernel
theorem f249_57 : mFetch 249 57 = some (.iaload, 1, 0, 0, 0, 0) := by decide +kernel
theorem f249_58 : mFetch 249 58 = some (.i2l, 1, 0, 0, 0, 0) := by decide +kernel
theorem f249_59 : mFetch 249 59 = some (.lastore, 1, 0, 0, 0, 0) := by decide +kernel
theorem f249_60 : mFetch 249 60 = some (.aload_n 0, 1, 0, 0, 0, 0) := by decide +kernel
theorem f249_61 : mFetch 249 61 = some (.getfield 36, 3, 12, 19, 2, 1) := by decide +kernel
theorem f249_64 : mFetch 249 64 = some (.iconst 4, 1, 0, 0, 0, 0) := by decide +kernel
theorem f249_65 : mFetch 249 65 = some (.aload_n 0, 1, 0, 0, 0, 0) := by decide +kernel
theorem f249_66 : mFetch 249 66 = some (.getfield 396, 3, 12, 29, 0, 1) := by decide +kernel
theorem f249_69 : mFetch 249 69 = some (.i2l, 1, 0, 0, 0, 0) := by decide +kernel
theorem f249_70 : mFetch 249 70 = some (.lastore, 1, 0, 0, 0, 0) := by decide +kernel
theorem f249_71 : mFetch 249 71 = some (.aload_n 0, 1, 0, 0, 0, 0) := by decide +kernel
theorem f249_72 : mFetch 249 72 = some (.getfield 36, 3, 12, 19, 2, 1) := by decide +kernel
theorem f249_75 : mFetch 249 75 = some (.iconst 5, 1, 0, 0, 0, 0) := by decide +kernel
theorem f249_76 : mFetch 249 76 = some (.aload_n 0, 1, 0, 0, 0, 0) := by decide +kernel
theorem f249_77 : mFetch 249 77 = some (.getfield 399, 3, 12, 30, 0, 1) := by decide +kernel
theorem f249_80 : mFetch 249 80 = some (.i2l, 1, 0, 0, 0, 0) := by decide +kernel
theorem f249_81 : mFetch 249 81 = some (.lastore, 1, 0, 0, 0, 0) := by decide +kernel
theorem f249_82 : mFetch 249 82 = some (.aload_n 0, 1, 0, 0, 0, 0) := by decide +kernel
theorem f249_83 : mFetch 249 83 = some (.getfield 36, 3, 12, 19, 2, 1) := by decide +kernel
theorem f249_86 : mFetch 249 86 = some (.bipush 6, 2, 0, 0, 0, 0) := by decide +kernel
theorem f249_88 : mFetch 249 88 = some (.aload_n 0, 1, 0, 0, 0, 0) := by decide +kernel
theorem f249_89 : mFetch 249 89 = some (.getfield 402, 3, 12, 31, 0, 1) := by decide +kernel
theorem f249_92 : mFetch 249 92 = some (.i2l, 1, 0, 0, 0, 0) := by decide +kernel
theorem f249_93 : mFetch 249 93 = some (.lastore, 1, 0, 0, 0, 0) := by decide +kernel
theorem f249_94 : mFetch 249 94 = some (.aload_n 0, 1, 0, 0, 0, 0) := by decide +kernel
theorem f249_95 : mFetch 249 95 = some (.getfield 36, 3, 12, 19, 2, 1) := by decide +kernel
theorem f249_98 : mFetch 249 98 = some (.bipush 7, 2, 0, 0, 0, 0) := by decide +kernel
theorem f249_100 : mFetch 249 100 = some (.aload_n 0, 1, 0, 0, 0, 0) := by decide +kernel
theorem f249_101 : mFetch 249 101 = some (.iload_n 1, 1, 0, 0, 0, 0) := by decide +kernel
theorem f249_102 : mFetch 249 102 = some (.invokevirtual 430, 3, 220, 0, 2, 12) := by decide +kernel
theorem f249_105 : mFetch 249 105 = some (.i2l, 1, 0, 0, 0, 0) := by decide +kernel
theorem f249_106 : mFetch 249 106 = some (.lastore, 1, 0, 0, 0, 0) := by decide +kernel
theorem f249_107 : mFetch 249 107 = some (.aload_n 0, 1, 0, 0, 0, 0) := by decide +kernel
theorem f249_108 : mFetch 249 108 = some (.getfield 36, 3, 12, 19, 2, 1) := by decide +kernel
theorem f249_111 : mFetch 249 111 = some (.bipush 8, 2, 0, 0, 0, 0) := by decide +kernel
theorem f249_113 : mFetch 249 113 = some (.aload_n 0, 1, 0, 0, 0, 0) := by decide +kernel
theorem f249_114 : mFetch 249 114 = some (.invokevirtual 433, 3, 248, 0, 1, 12) := by decide +kernel
theorem f249_117 : mFetch 249 117 = some (.i2l, 1, 0, 0, 0, 0) := by decide +kernel
theorem f249_118 : mFetch 249 118 = some (.lastore, 1, 0, 0, 0, 0) := by decide +kernel
theorem f249_119 : mFetch 249 119 = some (.aload_n 0, 1, 0, 0, 0, 0) := by decide +kernel
theorem f249_120 : mFetch 249 120 = some (.getfield 36, 3, 12, 19, 2, 1) := by decide +kernel
theorem f249_123 : mFetch 249 123 = some (.bipush 9, 2, 0, 0, 0, 0) := by decide +kernel
theorem f249_125 : mFetch 249 125 = some (.aload_n 0, 1, 0, 0, 0, 0) := by decide +kernel
theorem f249_126 : mFetch 249 126 = some (.invokevirtual 436, 3, 221, 0, 1, 12) := by decide +kernel
theorem f249_129 : mFetch 249 129 = some (.invokestatic 427, 3, 169, 0, 1, 99) := by decide +kernel
theorem f249_132 : mFetch 249 132 = some (.i2l, 1, 0, 0, 0, 0) := by decide +kernel
theorem f249_133 : mFetch 249 133 = some (.lastore, 1, 0, 0, 0, 0) := by decide +kernel
theorem f249_134 : mFetch 249 134 = some (.aload_n 0, 1, 0, 0, 0, 0) := by decide +kernel
theorem f249_135 : mFetch 249 135 = some (.getfield 36, 3, 12, 19, 2, 1) := by decide +kernel
theorem f249_138 : mFetch 249 138 = some (.bipush 10, 2, 0, 0, 0, 0) := by decide +kernel
theorem f249_140 : mFetch 249 140 = some (.aload_n 0, 1, 0, 0, 0, 0) := by decide +kernel
theorem f249_141 : mFetch 249 141 = some (.getfield 39, 3, 12, 20, 2, 1) := by decide +kernel
theorem f249_144 : mFetch 249 144 = some (.iconst 5, 1, 0, 0, 0, 0) := by decide +kernel
theorem f249_145 : mFetch 249 145 = some (.iaload, 1, 0, 0, 0, 0) := by decide +kernel
theorem f249_146 : mFetch 249 146 = some (.i2l, 1, 0, 0, 0, 0) := by decide +kernel
theorem f249_147 : mFetch 249 147 = some (.lastore, 1, 0, 0, 0, 0) := by decide +kernel
theorem f249_148 : mFetch 249 148 = some (.aload_n 0, 1, 0, 0, 0, 0) := by decide +kernel
theorem f249_149 : mFetch 249 149 = some (.aload_n 0, 1, 0, 0, 0, 0) := by decide +kernel
theorem f249_150 : mFetch 249 150 = some (.getfield 42, 3, 12, 21, 0, 1) := by decide +kernel
theorem f249_153 : mFetch 249 153 = some (.invokevirtual 439, 3, 247, 0, 2, 12) := by decide +kernel
theorem f249_156 : mFetch 249 156 = some (.lreturn, 1, 0, 0, 0, 0) := by decide +kernel
theorem b249_0 {X : (Nat → Int) × Nat} {d : Nat} {s : mSt} {Q : mQ} {x1 : Int} (h_1 : 0 ≤ (w32 (117 + x1)) ∧ (w32 (117 + x1)) < 166) (h_2 : Sp X d 169 [mI ((uS s 416 0 x1) 417 (w32 (117 + x1)).toNat)] (uS s 416 0 x1) (fun r s' => ∃ v : Int, r = some (mI v) ∧ Wp X (d + 1) 249 25 [some (mR 407), some (mI x1)] [mI v, mI 1, mR 416] s' Q)) : Wp X (d + 1) 249 0 [some (mR 407), some (mI x1)] [] s Q := Wp_step k249 f249_0 (Wp_step k249 f249_1 ⟨kf_407, 416, rf_407_19, Wp_step k249 f249_4 (Wp_step k249 f249_5 (Wp_step k249 f249_6 (Wp_step k249 f249_7 ⟨11, af_416, ⟨by decide, by decide⟩, Wp_step k249 f249_8 (Wp_step k249 f249_9 ⟨kf_407, 416, rf_407_19, Wp_step k249 f249_12 (Wp_step k249 f249_13 (Wp_step k249 f249_14 ⟨kf_407, 417, rf_407_20, Wp_step k249 f249_17 (Wp_step k249 f249_19 (Wp_step k249 f249_20 (Wp_step k249 f249_21 ⟨166, af_417, h_1, Wp_step k249 f249_22 ⟨⟨Nat.le_of_ble_eq_true rfl, Nat.le_refl _⟩, _, rfl, Sp_E h_2⟩⟩)))⟩))⟩)⟩)))⟩)
theorem b249_25 {X : (Nat → Int) × Nat} {d : Nat} {s : mSt} {Q : mQ} {x1 : Int} {xt1 : Int} {xt2 : Int} (h_1 : 0 ≤ xt1 ∧ xt1 < 11) (h_2 : 0 ≤ (w32 (123 + x1)) ∧ (w32 (123 + x1)) < 166) (h_3 : 0 ≤ (w32 (129 + x1)) ∧ (w32 (129 + x1)) < 166) (h_4 : Sp X d 220 [mR 407, mI x1] (uS (uS (uS (uS (uS (uS s 416 xt1.toNat xt2) 416 2 ((uS s 416 xt1.toNat xt2) 417 (w32 (123 + x1)).toNat)) 416 3 ((uS (uS s 416 xt1.toNat xt2) 416 2 ((uS s 416 xt1.toNat xt2) 417 (w32 (123 + x1)).toNat)) 417 (w32 (129 + x1)).toNat)) 416 4 ((uS (uS (uS s 416 xt1.toNat xt2) 416 2 ((uS s 416 xt1.toNat xt2) 417 (w32 (123 + x1)).toNat)) 416 3 ((uS (uS s 416 xt1.toNat xt2) 416 2 ((uS s 416 xt1.toNat xt2) 417 (w32 (123 + x1)).toNat)) 417 (w32 (129 + x1)).toNat)) 407 29)) 416 5 ((uS (uS (uS (uS s 416 xt1.toNat xt2) 416 2 ((uS s 416 xt1.toNat xt2) 417 (w32 (123 + x1)).toNat)) 416 3 ((uS (uS s 416 xt1.toNat xt2) 416 2 ((uS s 416 xt1.toNat xt2) 417 (w32 (123 + x1)).toNat)) 417 (w32 (129 + x1)).toNat)) 416 4 ((uS (uS (uS s 416 xt1.toNat xt2) 416 2 ((uS s 416 xt1.toNat xt2) 417 (w32 (123 + x1)).toNat)) 416 3 ((uS (uS s 416 xt1.toNat xt2) 416 2 ((uS s 416 xt1.toNat xt2) 417 (w32 (123 + x1)).toNat)) 417 (w32 (129 + x1)).toNat)) 407 29)) 407 30)) 416 6 ((uS (uS (uS (uS (uS s 416 xt1.toNat xt2) 416 2 ((uS s 416 xt1.toNat xt2) 417 (w32 (123 + x1)).toNat)) 416 3 ((uS (uS s 416 xt1.toNat xt2) 416 2 ((uS s 416 xt1.toNat xt2) 417 (w32 (123 + x1)).toNat)) 417 (w32 (129 + x1)).toNat)) 416 4 ((uS (uS (uS s 416 xt1.toNat xt2) 416 2 ((uS s 416 xt1.toNat xt2) 417 (w32 (123 + x1)).toNat)) 416 3 ((uS (uS s 416 xt1.toNat xt2) 416 2 ((uS s 416 xt1.toNat xt2) 417 (w32 (123 + x1)).toNat)) 417 (w32 (129 + x1)).toNat)) 407 29)) 416 5 ((uS (uS (uS (uS s 416 xt1.toNat xt2) 416 2 ((uS s 416 xt1.toNat xt2) 417 (w32 (123 + x1)).toNat)) 416 3 ((uS (uS s 416 xt1.toNat xt2) 416 2 ((uS s 416 xt1.toNat xt2) 417 (w32 (123 + x1)).toNat)) 417 (w32 (129 + x1)).toNat)) 416 4 ((uS (uS (uS s 416 xt1.toNat xt2) 416 2 ((uS s 416 xt1.toNat xt2) 417 (w32 (123 + x1)).toNat)) 416 3 ((uS (uS s 416 xt1.toNat xt2) 416 2 ((uS s 416 xt1.toNat xt2) 417 (w32 (123 + x1)).toNat)) 417 (w32 (129 + x1)).toNat)) 407 29)) 407 30)) 407 31)) (fun r s' => ∃ v : Int, r = some (mI v) ∧ Wp X (d + 1) 249 105 [some (mR 407), some (mI x1)] [mI v, mI 7, mR 416] s' Q)) : Wp X (d + 1) 249 25 [some (mR 407), some (mI x1)] [mI xt2, mI xt1, mR 416] s Q := Wp_step k249 f249_25 (Wp_step k249 f249_26 ⟨11, af_416, h_1, Wp_step k249 f249_27 (Wp_step k249 f249_28 ⟨kf_407, 416, rf_407_19, Wp_step k249 f249_31 (Wp_step k249 f249_32 (Wp_step k249 f249_33 ⟨kf_407, 417, rf_407_20, Wp_step k249 f249_36 (Wp_step k249 f249_38 (Wp_step k249 f249_39 (Wp_step k249 f249_40 ⟨166, af_417, h_2, Wp_step k249 f249_41 (Wp_step k249 f249_42 ⟨11, af_416, ⟨by decide, by decide⟩, Wp_step k249 f249_43 (Wp_step k249 f249_44 ⟨kf_407, 416, rf_407_19, Wp_step k249 f249_47 (Wp_step k249 f249_48 (Wp_step k249 f249_49 ⟨kf_407, 417, rf_407_20, Wp_step k249 f249_52 (Wp_step k249 f249_55 (Wp_step k249 f249_56 (Wp_step k249 f249_57 ⟨166, af_417, h_3, Wp_step k249 f249_58 (Wp_step k249 f249_59 ⟨11, af_416, ⟨by decide, by decide⟩, Wp_step k249 f249_60 (Wp_step k249 f249_61 ⟨kf_407, 416, rf_407_19, Wp_step k249 f249_64 (Wp_step k249 f249_65 (Wp_step k249 f249_66 ⟨kf_407, Wp_step k249 f249_69 (Wp_step k249 f249_70 ⟨11, af_416, ⟨by decide, by decide⟩, Wp_step k249 f249_71 (Wp_step k249 f249_72 ⟨kf_407, 416, rf_407_19, Wp_step k249 f249_75 (Wp_step k249 f249_76 (Wp_step k249 f249_77 ⟨kf_407, Wp_step k249 f249_80 (Wp_step k249 f249_81 ⟨11, af_416, ⟨by decide, by decide⟩, Wp_step k249 f249_82 (Wp_step k249 f249_83 ⟨kf_407, 416, rf_407_19, Wp_step k249 f249_86 (Wp_step k249 f249_88 (Wp_step k249 f249_89 ⟨kf_407, Wp_step k249 f249_92 (Wp_step k249 f249_93 ⟨11, af_416, ⟨by decide, by decide⟩, Wp_step k249 f249_94 (Wp_step k249 f249_95 ⟨kf_407, 416, rf_407_19, Wp_step k249 f249_98 (Wp_step k249 f249_100 (Wp_step k249 f249_101 (Wp_step k249 f249_102 ⟨⟨kf_407, Nat.le_of_ble_eq_true rfl⟩, Nat.le_refl _, _, rfl, Sp_E h_4⟩)))⟩)⟩)⟩))⟩)⟩)⟩))⟩)⟩)⟩))⟩)⟩)⟩)))⟩))⟩)⟩)⟩)))⟩))⟩)⟩)
theorem b249_105 {X : (Nat → Int) × Nat} {d : Nat} {s : mSt} {Q : mQ} {x1 : Int} {xt1 : Int} {xt2 : Int} (h_1 : 0 ≤ xt1 ∧ xt1 < 11) (h_2 : Sp X d 248 [mR 407] (uS s 416 xt1.toNat xt2) (fun r s' => ∃ v : Int, r = some (mI v) ∧ Wp X (d + 1) 249 117 [some (mR 407), some (mI x1)] [mI v, mI 8, mR 416] s' Q)) : Wp X (d + 1) 249 105 [some (mR 407), some (mI x1)] [mI xt2, mI xt1, mR 416] s Q := Wp_step k249 f249_105 (Wp_step k249 f249_106 ⟨11, af_416, h_1, Wp_step k249 f249_107 (Wp_step k249 f249_108 ⟨kf_407, 416, rf_407_19, Wp_step k249 f249_111 (Wp_step k249 f249_113 (Wp_step k249 f249_114 ⟨⟨kf_407, Nat.le_of_ble_eq_true rfl⟩, Nat.le_refl _, _, rfl, Sp_E h_2⟩))⟩)⟩)
theorem b249_117 {X : (Nat → Int) × Nat} {d : Nat} {s : mSt} {Q : mQ} {x1 : Int} {xt1 : Int} {xt2 : Int} (h_1 : 0 ≤ xt1 ∧ xt1 < 11) (h_2 : Sp X d 221 [mR 407] (uS s 416 xt1.toNat xt2) (fun r s' => ∃ v : Int, r = some (mI v) ∧ Wp X (d + 1) 249 129 [some (mR 407), some (mI x1)] [mI v, mI 9, mR 416] s' Q)) : Wp X (d + 1) 249 117 [some (mR 407), some (mI x1)] [mI xt2, mI xt1, mR 416] s Q := Wp_step k249 f249_117 (Wp_step k249 f249_118 ⟨11, af_416, h_1, Wp_step k249 f249_119 (Wp_step k249 f249_120 ⟨kf_407, 416, rf_407_19, Wp_step k249 f249_123 (Wp_step k249 f249_125 (Wp_step k249 f249_126 ⟨⟨kf_407, Nat.le_of_ble_eq_true rfl⟩, Nat.le_refl _, _, rfl, Sp_E h_2⟩))⟩)⟩)
theorem b249_129 {X : (Nat → Int) × Nat} {d : Nat} {s : mSt} {Q : mQ} {x1 : Int} {xt1 : Int} {xt2 : Int} (h_1 : Sp X d 169 [mI xt2] s (fun r s' => ∃ v : Int, r = some (mI v) ∧ Wp X (d + 1) 249 132 [some (mR 407), some (mI x1)] [mI v, mI xt1, mR 416] s' Q)) : Wp X (d + 1) 249 129 [some (mR 407), some (mI x1)] [mI xt2, mI xt1, mR 416] s Q := Wp_step k249 f249_129 ⟨⟨Nat.le_of_ble_eq_true rfl, Nat.le_refl _⟩, _, rfl, Sp_E h_1⟩
theorem b249_132 {X : (Nat → Int) × Nat} {d : Nat} {s : mSt} {Q : mQ} {x1 : Int} {xt1 : Int} {xt2 : Int} (h_1 : 0 ≤ xt1 ∧ xt1 < 11) (h_2 : Sp X d 247 [mR 407, mI ((uS (uS s 416 xt1.toNat xt2) 416 10 ((uS s 416 xt1.toNat xt2) 417 5)) 407 21)] (uS (uS s 416 xt1.toNat xt2) 416 10 ((uS s 416 xt1.toNat xt2) 417 5)) (fun r s' => ∃ v : Int, r = some (mJ v) ∧ Wp X (d + 1) 249 156 [some (mR 407), some (mI x1)] [mJ v] s' Q)) : Wp X (d + 1) 249 132 [some (mR 407), some (mI x1)] [mI xt2, mI xt1, mR 416] s Q := Wp_step k249 f249_132 (Wp_step k249 f249_133 ⟨11, af_416, h_1, Wp_step k249 f249_134 (Wp_step k249 f249_135 ⟨kf_407, 416, rf_407_19, Wp_step k249 f249_138 (Wp_step k249 f249_140 (Wp_step k249 f249_141 ⟨kf_407, 417, rf_407_20, Wp_step k249 f249_144 (Wp_step k249 f249_145 ⟨166, af_417, ⟨by decide, by decide⟩, Wp_step k249 f249_146 (Wp_step k249 f249_147 ⟨11, af_416, ⟨by decide, by decide⟩, Wp_step k249 f249_148 (Wp_step k249 f249_149 (Wp_step k249 f249_150 ⟨kf_407, Wp_step k249 f249_153 ⟨⟨kf_407, Nat.le_of_ble_eq_true rfl⟩, Nat.le_refl _, _, rfl, Sp_E h_2⟩⟩))⟩)⟩)⟩))⟩)⟩)
theorem b249_156 {X : (Nat → Int) × Nat} {d : Nat} {s : mSt} {Q : mQ} {x1 : Int} {xt0 : Int} (h_1 : Q (some (mJ xt0)) s) : Wp X d 249 156 [some (mR 407), some (mI x1)] [mJ xt0] s Q := Wp_step k249 f249_156 ⟨⟨rfl, rfl⟩, h_1⟩
theorem e249 {X : (Nat → Int) × Nat} {d : Nat} {s : mSt} {Q : mQ} {x1 : Int} (h : Wp X d 249 0 [some (mR 407), some (mI x1)] [] s Q) : Sp X d 249 [mR 407, mI x1] s Q := Sp_of (show mCe 249 = 0 by decide +kernel) (by rw [show mML 249 = 2 by decide +kernel]; rfl) (Nat.le_trans (Nat.le_of_ble_eq_true (show Nat.ble (mArgs _).length 2 = true from rfl)) (show 2 ≤ mML 249 by decide +kernel)) h
-- 250 ClashDayModel.choice()I
theorem k250 : mRk 250 = 1 := by decide +kernel
theorem f250_0 : mFetch 250 0 = some (.iconst (-1), 1, 0, 0, 0, 0) := by decide +kernel
theorem f250_1 : mFetch 250 1 = some (.istore_n 1, 1, 0, 0, 0, 0) := by decide +kernel
theorem f250_2 : mFetch 250 2 = some (.lconst 0, 1, 0, 0, 0, 0) := by decide +kernel
theorem f250_3 : mFetch 250 3 = some (.lstore_n 2, 1, 0, 0, 0, 0) := by decide +kernel
theorem f250_4 : mFetch 250 4 = some (.iconst 0, 1, 0, 0, 0, 0) := by decide +kernel
theorem f250_5 : mFetch 250 5 = some (.istore 4, 2, 0, 0, 0, 0) := by decide +kernel
theorem f250_7 : mFetch 250 7 = some (.iload 4, 2, 0, 0, 0, 0) := by decide +kernel
theorem f250_9 : mFetch 250 9 = some (.aload_n 0, 1, 0, 0, 0, 0) := by decide +kernel
theorem f250_10 : mFetch 250 10 = some (.getfield 39, 3, 12, 20, 2, 1) := by decide +kernel
theorem f250_13 : mFetch 250 13 = some (.iconst 4, 1, 0, 0, 0, 0) := by decide +kernel
theorem f250_14 : mFetch 250 14 = some (.iaload, 1, 0, 0, 0, 0) := by decide +kernel
theorem f250_15 : mFetch 250 15 = some (.if_icmp .ge 65, 3, 80, 0, 0, 0) := by decide +kernel
theorem f250_18 : mFetch 250 18 = some (.aload_n 0, 1, 0, 0, 0, 0) := by decide +kernel
theorem f250_19 : mFetch 250 19 = some (.iload 4, 2, 0, 0, 0, 0) := by decide +kernel
theorem f250_21 : mFetch 250 21 = some (.invokevirtual 328, 3, 215, 0, 2, 12) := by decide +kernel
theorem f250_24 : mFetch 250 24 = some (.ifCond .eq 50, 3, 74, 0, 0, 0) := by decide +kernel
theorem f250_27 : mFetch 250 27 = some (.aload_n 0, 1, 0, 0, 0, 0) := by decide +kernel
theorem f250_28 : mFetch 250 28 = some (.iload 4, 2, 0, 0, 0, 0) := by decide +kernel
theorem f250_30 : mFetch 250 30 = some (.invokevirtual 420, 3, 244, 0, 2, 12) := by decide +kernel
theorem f250_33 : mFetch 250 33 = some (.ifCond .ne 6, 3, 39, 0, 0, 0) := by decide +kernel
theorem f250_36 : mFetch 250 36 = some (.goto 38, 3, 74, 0, 0, 0) := by decide +kernel
theorem f250_39 : mFetch 250 39 = some (.aload_n 0, 1, 0, 0, 0, 0) := by decide +kernel
theorem f250_40 : mFetch 250 40 = some (.getfield 42, 3, 12, 21, 0, 1) := by decide +kernel
theorem f250_43 : mFetch 250 43 = some (.ifCond .ge 7, 3, 50, 0, 0, 0) := by decide +kernel
theorem f250_46 : mFetch 250 46 = some (.lconst 1, 1, 0, 0, 0, 0) := by decide +kernel
theorem f250_47 : mFetch 250 47 = some (.goto 9, 3, 56, 0, 0, 0) := by decide +kernel
theorem f250_50 : mFetch 250 50 = some (.aload_n 0, 1, 0, 0, 0, 0) := by decide +kernel
theorem f250_51 : mFetch 250 51 = some (.iload 4, 2, 0, 0, 0, 0) := by decide +kernel
theorem f250_53 : mFetch 250 53 = some (.invokevirtual 443, 3, 249, 0, 2, 12) := by decide +kernel
theorem f250_56 : mFetch 250 56 = some (.lstore 5, 2, 0, 0, 0, 0) := by decide +kernel
theorem f250_58 : mFetch 250 58 = some (.lload 5, 2, 0, 0, 0, 0) := by decide +kernel
theorem f250_60 : mFetch 250 60 = some (.lload_n 2, 1, 0, 0, 0, 0) := by decide +kernel
theorem f250_61 : mFetch 250 61 = some (.lcmp, 1, 0, 0, 0, 0) := by decide +kernel
theorem f250_62 : mFetch 250 62 = some (.ifCond .gt 6, 3, 68, 0, 0, 0) := by decide +kernel
theorem f250_65 : mFetch 250 65 = some (.goto 9, 3, 74, 0, 0, 0) := by decide +kernel
theorem f250_68 : mFetch 250 68 = some (.iload 4, 2, 0, 0, 0, 0) := by decide +kernel
theorem f250_70 : mFetch 250 70 = some (.istore_n 1, 1, 0, 0, 0, 0) := by decide +kernel
theorem f250_71 : mFetch 250 71 = some (.lload 5, 2, 0, 0, 0, 0) := by decide +kernel
theorem f250_73 : mFetch 250 73 = some (.lstore_n 2, 1, 0, 0, 0, 0) := by decide +kernel
theorem f250_74 : mFetch 250 74 = some (.iinc 4 1, 3, 0, 0, 0, 0) := by decide +kernel
theorem f250_77 : mFetch 250 77 = some (.goto (-70), 3, 7, 0, 0, 0) := by decide +kernel
theorem f250_80 : mFetch 250 80 = some (.iload_n 1, 1, 0, 0, 0, 0) := by decide +kernel
theorem f250_81 : mFetch 250 81 = some (.ireturn, 1, 0, 0, 0, 0) := by decide +kernel
theorem b250_0 {X : (Nat → Int) × Nat} {d : Nat} {s : mSt} {Q : mQ} (h_1 : Wp X d 250 7 [some (mR 407), some (mI (-1)), some (mJ 0), none, some (mI 0), none, none] [] s Q) : Wp X d 250 0 [some (mR 407), none, none, none, none, none, none] [] s Q := Wp_step k250 f250_0 (Wp_step k250 f250_1 (Wp_step k250 f250_2 (Wp_step k250 f250_3 (Wp_step k250 f250_4 (Wp_step k250 f250_5 (h_1))))))
theorem b250_7 {X : (Nat → Int) × Nat} {d : Nat} {s : mSt} {Q : mQ} {x1 : Int} {x2 : Int} {x4 : Int} (h_1 : (s 417 4) ≤ x4 → Wp X d 250 80 [some (mR 407), some (mI x1), some (mJ x2), none, some (mI x4), none, none] [] s Q) (h_2 : ¬ (s 417 4) ≤ x4 → Wp X d 250 18 [some (mR 407), some (mI x1), some (mJ x2), none, some (mI x4), none, none] [] s Q) : Wp X d 250 7 [some (mR 407), some (mI x1), some (mJ x2), none, some (mI x4), none, none] [] s Q := Wp_step k250 f250_7 (Wp_step k250 f250_9 (Wp_step k250 f250_10 ⟨kf_407, 417, rf_407_20, Wp_step k250 f250_13 (Wp_step k250 f250_14 ⟨166, af_417, ⟨by decide, by decide⟩, Wp_step k250 f250_15 ⟨h_1, h_2⟩⟩)⟩))
theorem b250_18 {X : (Nat → Int) × Nat} {d : Nat} {s : mSt} {Q : mQ} {x1 : Int} {x2 : Int} {x4 : Int} (h_1 : Sp X d 215 [mR 407, mI x4] s (fun r s' => ∃ v : Int, r = some (mI v) ∧ Wp X (d + 1) 250 24 [some (mR 407), some (mI x1), some (mJ x2), none, some (mI x4), none, none] [mI v] s' Q)) : Wp X (d + 1) 250 18 [some (mR 407), some (mI x1), some (mJ x2), none, some (mI x4), none, none] [] s Q := Wp_step k250 f250_18 (Wp_step k250 f250_19 (Wp_step k250 f250_21 ⟨⟨kf_407, Nat.le_of_ble_eq_true rfl⟩, Nat.le_refl _, _, rfl, Sp_E h_1⟩))
theorem b250_24 {X : (Nat → Int) × Nat} {d : Nat} {s : mSt} {Q : mQ} {x1 : Int} {x2 : Int} {x4 : Int} {xt0 : Int} (h_1 : xt0 = 0 → Wp X d 250 74 [some (mR 407), some (mI x1), some (mJ x2), none, some (mI x4), none, none] [] s Q) (h_2 : ¬ xt0 = 0 → Wp X d 250 27 [some (mR 407), some (mI x1), some (mJ x2), none, some (mI x4), none, none] [] s Q) : Wp X d 250 24 [some (mR 407), some (mI x1), some (mJ x2), none, some (mI x4), none, none] [mI xt0] s Q := Wp_step k250 f250_24 ⟨h_1, h_2⟩
theorem b250_27 {X : (Nat → Int) × Nat} {d : Nat} {s : mSt} {Q : mQ} {x1 : Int} {x2 : Int} {x4 : Int} (h_1 : Sp X d 244 [mR 407, mI x4] s (fun r s' => ∃ v : Int, r = some (mI v) ∧ Wp X (d + 1) 250 33 [some (mR 407), some (mI x1), some (mJ x2), none, some (mI x4), none, none] [mI v] s' Q)) : Wp X (d + 1) 250 27 [some (mR 407), some (mI x1), some (mJ x2), none, some (mI x4), none, none] [] s Q := Wp_step k250 f250_27 (Wp_step k250 f250_28 (Wp_step k250 f250_30 ⟨⟨kf_407, Nat.le_of_ble_eq_true rfl⟩, Nat.le_refl _, _, rfl, Sp_E h_1⟩))
theorem b250_33 {X : (Nat → Int) × Nat} {d : Nat} {s : mSt} {Q : mQ} {x1 : Int} {x2 : Int} {x4 : Int} {xt0 : Int} (h_1 : ¬ xt0 = 0 → Wp X d 250 39 [some (mR 407), some (mI x1), some (mJ x2), none, some (mI x4), none, none] [] s Q) (h_2 : xt0 = 0 → Wp X d 250 36 [some (mR 407), some (mI x1), some (mJ x2), none, some (mI x4), none, none] [] s Q) : Wp X d 250 33 [some (mR 407), some (mI x1), some (mJ x2), none, some (mI x4), none, none] [mI xt0] s Q := Wp_step k250 f250_33 ⟨h_1, h_2⟩
theorem b250_36 {X : (Nat → Int) × Nat} {d : Nat} {s : mSt} {Q : mQ} {x1 : Int} {x2 : Int} {x4 : Int} (h_1 : Wp X d 250 74 [some (mR 407), some (mI x1), some (mJ x2), none, some (mI x4), none, none] [] s Q) : Wp X d 250 36 [some (mR 407), some (mI x1), some (mJ x2), none, some (mI x4), none, none] [] s Q := Wp_step k250 f250_36 (h_1)
theorem b250_39 {X : (Nat → Int) × Nat} {d : Nat} {s : mSt} {Q : mQ} {x1 : Int} {x2 : Int} {x4 : Int} (h_1 : 0 ≤ (s 407 21) → Wp X d 250 50 [some (mR 407), some (mI x1), some (mJ x2), none, some (mI x4), none, none] [] s Q) (h_2 : ¬ 0 ≤ (s 407 21) → Wp X d 250 46 [some (mR 407), some (mI x1), some (mJ x2), none, some (mI x4), none, none] [] s Q) : Wp X d 250 39 [some (mR 407), some (mI x1), some (mJ x2), none, some (mI x4), none, none] [] s Q := Wp_step k250 f250_39 (Wp_step k250 f250_40 ⟨kf_407, Wp_step k250 f250_43 ⟨h_1, h_2⟩⟩)
theorem b250_46 {X : (Nat → Int) × Nat} {d : Nat} {s : mSt} {Q : mQ} {x1 : Int} {x2 : Int} {x4 : Int} (h_1 : Wp X d 250 56 [some (mR 407), some (mI x1), some (mJ x2), none, some (mI x4), none, none] [mJ 1] s Q) : Wp X d 250 46 [some (mR 407), some (mI x1), some (mJ x2), none, some (mI x4), none, none] [] s Q := Wp_step k250 f250_46 (Wp_step k250 f250_47 (h_1))
theorem b250_50 {X : (Nat → Int) × Nat} {d : Nat} {s : mSt} {Q : mQ} {x1 : Int} {x2 : Int} {x4 : Int} (h_1 : Sp X d 249 [mR 407, mI x4] s (fun r s' => ∃ v : Int, r = some (mJ v) ∧ Wp X (d + 1) 250 56 [some (mR 407), some (mI x1), some (mJ x2), none, some (mI x4), none, none] [mJ v] s' Q)) : Wp X (d + 1) 250 50 [some (mR 407), some (mI x1), some (mJ x2), none, some (mI x4), none, none] [] s Q := Wp_step k250 f250_50 (Wp_step k250 f250_51 (Wp_step k250 f250_53 ⟨⟨kf_407, Nat.le_of_ble_eq_true rfl⟩, Nat.le_refl _, _, rfl, Sp_E h_1⟩))
theorem b250_56 {X : (Nat → Int) × Nat} {d : Nat} {s : mSt} {Q : mQ} {x1 : Int} {x2 : Int} {x4 : Int} {xt0 : Int} (h_1 : 0 < (lCmp xt0 x2) → Wp X d 250 68 [some (mR 407), some (mI x1), some (mJ x2), none, some (mI x4), some (mJ xt0), none] [] s Q) (h_2 : ¬ 0 < (lCmp xt0 x2) → Wp X d 250 65 [some (mR 407), some (mI x1), some (mJ x2), none, some (mI x4), some (mJ xt0), none] [] s Q) : Wp X d 250 56 [some (mR 407), some (mI x1), some (mJ x2), none, some (mI x4), none, none] [mJ xt0] s Q := Wp_step k250 f250_56 (Wp_step k250 f250_58 (Wp_step k250 f250_60 (Wp_step k250 f250_61 (Wp_step k250 f250_62 ⟨h_1, h_2⟩))))
theorem b250_65 {X : (Nat → Int) × Nat} {d : Nat} {s : mSt} {Q : mQ} {x1 : Int} {x2 : Int} {x4 : Int} {x5 : Int} (h_1 : Wp X d 250 74 [some (mR 407), some (mI x1), some (mJ x2), none, some (mI x4), some (mJ x5), none] [] s Q) : Wp X d 250 65 [some (mR 407), some (mI x1), some (mJ x2), none, some (mI x4), some (mJ x5), none] [] s Q := Wp_step k250 f250_65 (h_1)
theorem b250_68 {X : (Nat → Int) × Nat} {d : Nat} {s : mSt} {Q : mQ} {x1 : Int} {x2 : Int} {x4 : Int} {x5 : Int} (h_1 : Wp X d 250 74 [some (mR 407), some (mI x4), some (mJ x5), none, some (mI x4), some (mJ x5), none] [] s Q) : Wp X d 250 68 [some (mR 407), some (mI x1), some (mJ x2), none, some (mI x4), some (mJ x5), none] [] s Q := Wp_step k250 f250_68 (Wp_step k250 f250_70 (Wp_step k250 f250_71 (Wp_step k250 f250_73 (h_1))))
theorem b250_74 {X : (Nat → Int) × Nat} {d : Nat} {s : mSt} {Q : mQ} {x1 : Int} {x2 : Int} {x4 : Int} (h_1 : Wp X d 250 7 [some (mR 407), some (mI x1), some (mJ x2), none, some (mI (w32 (x4 + 1))), none, none] [] s Q) : Wp X d 250 74 [some (mR 407), some (mI x1), some (mJ x2), none, some (mI x4), none, none] [] s Q := Wp_step k250 f250_74 (Wp_step k250 f250_77 (h_1))
theorem b250_80 {X : (Nat → Int) × Nat} {d : Nat} {s : mSt} {Q : mQ} {x1 : Int} {x2 : Int} {x4 : Int} (h_1 : Q (some (mI x1)) s) : Wp X d 250 80 [some (mR 407), some (mI x1), some (mJ x2), none, some (mI x4), none, none] [] s Q := Wp_step k250 f250_80 (Wp_step k250 f250_81 ⟨⟨rfl, trivial⟩, h_1⟩)
theorem e250 {X : (Nat → Int) × Nat} {d : Nat} {s : mSt} {Q : mQ} (h : Wp X d 250 0 [some (mR 407), none, none, none, none, none, none] [] s Q) : Sp X d 250 [mR 407] s Q := Sp_of (show mCe 250 = 0 by decide +kernel) (by rw [show mML 250 = 7 by decide +kernel]; rfl) (Nat.le_trans (Nat.le_of_ble_eq_true (show Nat.ble (mArgs _).length 7 = true from rfl)) (show 7 ≤ mML 250 by decide +kernel)) h
-- 251 ClashDayModel.passes()I
theorem k251 : mRk 251 = 1 := by decide +kernel
theorem f251_0 : mFetch 251 0 = some (.aload_n 0, 1, 0, 0, 0, 0) := by decide +kernel
theorem f251_1 : mFetch 251 1 = some (.invokevirtual 446, 3, 250, 0, 1, 12) := by decide +kernel
theorem f251_4 : mFetch 251 4 = some (.istore_n 1, 1, 0, 0, 0, 0) := by decide +kernel
theorem f251_5 : mFetch 251 5 = some (.iload_n 1, 1, 0, 0, 0, 0) := by decide +kernel
theorem f251_6 : mFetch 251 6 = some (.ifCond .lt 9, 3, 15, 0, 0, 0) := by decide +kernel
theorem f251_9 : mFetch 251 9 = some (.aload_n 0, 1, 0, 0, 0, 0) := by decide +kernel
theorem f251_10 : mFetch 251 10 = some (.iload_n 1, 1, 0, 0, 0, 0) := by decide +kernel
theorem f251_11 : mFetch 251 11 = some (.invokevirtual 449, 3, 245, 0, 2, 12) := by decide +kernel
theorem f251_14 : mFetch 251 14 = some (.pop, 1, 0, 0, 0, 0) := by decide +kernel
theorem f251_15 : mFetch 251 15 = some (.aload_n 0, 1, 0, 0, 0, 0) := by decide +kernel
theorem f251_16 : mFetch 251 16 = some (.getfield 39, 3, 12, 20, 2, 1) := by decide +kernel
theorem f251_19 : mFetch 251 19 = some (.iconst 5, 1, 0, 0, 0, 0) := by decide +kernel
theorem f251_20 : mFetch 251 20 = some (.dup2, 1, 0, 0, 0, 0) := by decide +kernel
theorem f251_21 : mFetch 251 21 = some (.iaload, 1, 0, 0, 0, 0) := by decide +kernel
theorem f251_22 : mFetch 251 22 = some (.iconst 1, 1, 0, 0, 0, 0) := by decide +kernel
theorem f251_23 : mFetch 251 23 = some (.iadd, 1, 0, 0, 0, 0) := by decide +kernel
theorem f251_24 : mFetch 251 24 = some (.iastore, 1, 0, 0, 0, 0) := by decide +kernel
theorem f251_25 : mFetch 251 25 = some (.iload_n 1, 1, 0, 0, 0, 0) := by decide +kernel
theorem f251_26 : mFetch 251 26 = some (.ireturn, 1, 0, 0, 0, 0) := by decide +kernel
theorem b251_0 {X : (Nat → Int) × Nat} {d : Nat} {s : mSt} {Q : mQ} (h_1 : Sp X d 250 [mR 407] s (fun r s' => ∃ v : Int, r = some (mI v) ∧ Wp X (d + 1) 251 4 [some (mR 407), none] [mI v] s' Q)) : Wp X (d + 1) 251 0 [some (mR 407), none] [] s Q := Wp_step k251 f251_0 (Wp_step k251 f251_1 ⟨⟨kf_407, Nat.le_of_ble_eq_true rfl⟩, Nat.le_refl _, _, rfl, Sp_E h_1⟩)
theorem b251_4 {X : (Nat → Int) × Nat} {d : Nat} {s : mSt} {Q : mQ} {xt0 : Int} (h_1 : xt0 < 0 → Wp X d 251 15 [some (mR 407), some (mI xt0)] [] s Q) (h_2 : ¬ xt0 < 0 → Wp X d 251 9 [some (mR 407), some (mI xt0)] [] s Q) : Wp X d 251 4 [some (mR 407), none] [mI xt0] s Q := Wp_step k251 f251_4 (Wp_step k251 f251_5 (Wp_step k251 f251_6 ⟨h_1, h_2⟩))
theorem b251_9 {X : (Nat → Int) × Nat} {d : Nat} {s : mSt} {Q : mQ} {x1 : Int} (h_1 : Sp X d 245 [mR 407, mI x1] s (fun r s' => ∃ v : Int, r = some (mI v) ∧ Wp X (d + 1) 251 14 [some (mR 407), some (mI x1)] [mI v] s' Q)) : Wp X (d + 1) 251 9 [some (mR 407), some (mI x1)] [] s Q := Wp_step k251 f251_9 (Wp_step k251 f251_10 (Wp_step k251 f251_11 ⟨⟨kf_407, Nat.le_of_ble_eq_true rfl⟩, Nat.le_refl _, _, rfl, Sp_E h_1⟩))
theorem b251_14 {X : (Nat → Int) × Nat} {d : Nat} {s : mSt} {Q : mQ} {x1 : Int} {xt0 : Int} (h_1 : Wp X d 251 15 [some (mR 407), some (mI x1)] [] s Q) : Wp X d 251 14 [some (mR 407), some (mI x1)] [mI xt0] s Q := Wp_step k251 f251_14 (h_1)
theorem b251_15 {X : (Nat → Int) × Nat} {d : Nat} {s : mSt} {Q : mQ} {x1 : Int} (h_1 : Q (some (mI x1)) (uS s 417 5 (w32 ((s 417 5) + 1)))) : Wp X d 251 15 [some (mR 407), some (mI x1)] [] s Q := Wp_step k251 f251_15 (Wp_step k251 f251_16 ⟨kf_407, 417, rf_407_20, Wp_step k251 f251_19 (Wp_step k251 f251_20 (Wp_step k251 f251_21 ⟨166, af_417, ⟨by decide, by decide⟩, Wp_step k251 f251_22 (Wp_step k251 f251_23 (Wp_step k251 f251_24 ⟨166, af_417, ⟨by decide, by decide⟩, Wp_step k251 f251_25 (Wp_step k251 f251_26 ⟨⟨rfl, trivial⟩, h_1⟩)⟩))⟩))⟩)
theorem e251 {X : (Nat → Int) × Nat} {d : Nat} {s : mSt} {Q : mQ} (h : Wp X d 251 0 [some (mR 407), none] [] s Q) : Sp X d 251 [mR 407] s Q := Sp_of (show mCe 251 = 0 by decide +kernel) (by rw [show mML 251 = 2 by decide +kernel]; rfl) (Nat.le_trans (Nat.le_of_ble_eq_true (show Nat.ble (mArgs _).length 2 = true from rfl)) (show 2 ≤ mML 251 by decide +kernel)) h
-- 252 ClashDayModel.passesAll(I)V
theorem k252 : mRk 252 = 0 := by decide +kernel
theorem f252_0 : mFetch 252 0 = some (.iconst 0, 1, 0, 0, 0, 0) := by decide +kernel
theorem f252_1 : mFetch 252 1 = some (.istore_n 2, 1, 0, 0, 0, 0) := by decide +kernel
theorem f252_2 : mFetch 252 2 = some (.iload_n 2, 1, 0, 0, 0, 0) := by decide +kernel
theorem f252_3 : mFetch 252 3 = some (.iload_n 1, 1, 0, 0, 0, 0) := by decide +kernel
theorem f252_4 : mFetch 252 4 = some (.if_icmp .ge 14, 3, 18, 0, 0, 0) := by decide +kernel
theorem f252_7 : mFetch 252 7 = some (.aload_n 0, 1, 0, 0, 0, 0) := by decide +kernel
theorem f252_8 : mFetch 252 8 = some (.invokevirtual 452, 3, 251, 0, 1, 12) := by decide +kernel
theorem f252_11 : mFetch 252 11 = some (.pop, 1, 0, 0, 0, 0) := by decide +kernel
theorem f252_12 : mFetch 252 12 = some (.iinc 2 1, 3, 0, 0, 0, 0) := by decide +kernel
theorem f252_15 : mFetch 252 15 = some (.goto (-13), 3, 2, 0, 0, 0) := by decide +kernel
theorem f252_18 : mFetch 252 18 = some (.return_, 1, 0, 0, 0, 0) := by decide +kernel
theorem b252_0 {X : (Nat → Int) × Nat} {d : Nat} {s : mSt} {Q : mQ} {x1 : Int} (h_1 : Wp X d 252 2 [some (mR 407), some (mI x1), some (mI 0)] [] s Q) : Wp X d 252 0 [some (mR 407), some (mI x1), none] [] s Q := Wp_step k252 f252_0 (Wp_step k252 f252_1 (h_1))
theorem b252_2 {X : (Nat → Int) × Nat} {d : Nat} {s : mSt} {Q : mQ} {x1 : Int} {x2 : Int} (h_1 : x1 ≤ x2 → Wp X d 252 18 [some (mR 407), some (mI x1), some (mI x2)] [] s Q) (h_2 : ¬ x1 ≤ x2 → Wp X d 252 7 [some (mR 407), some (mI x1), some (mI x2)] [] s Q) : Wp X d 252 2 [some (mR 407), some (mI x1), some (mI x2)] [] s Q := Wp_step k252 f252_2 (Wp_step k252 f252_3 (Wp_step k252 f252_4 ⟨h_1, h_2⟩))
theorem b252_7 {X : (Nat → Int) × Nat} {d : Nat} {s : mSt} {Q : mQ} {x1 : Int} {x2 : Int} (h_1 : Sp X d 251 [mR 407] s (fun r s' => ∃ v : Int, r = some (mI v) ∧ Wp X (d + 1) 252 11 [some (mR 407), some (mI x1), some (mI x2)] [mI v] s' Q)) : Wp X (d + 1) 252 7 [some (mR 407), some (mI x1), some (mI x2)] [] s Q := Wp_step k252 f252_7 (Wp_step k252 f252_8 ⟨⟨kf_407, Nat.le_of_ble_eq_true rfl⟩, Nat.le_refl _, _, rfl, Sp_E h_1⟩)
theorem b252_11 {X : (Nat → Int) × Nat} {d : Nat} {s : mSt} {Q : mQ} {x1 : Int} {x2 : Int} {xt0 : Int} (h_1 : Wp X d 252 2 [some (mR 407), some (mI x1), some (mI (w32 (x2 + 1)))] [] s Q) : Wp X d 252 11 [some (mR 407), some (mI x1), some (mI x2)] [mI xt0] s Q := Wp_step k252 f252_11 (Wp_step k252 f252_12 (Wp_step k252 f252_15 (h_1)))
theorem b252_18 {X : (Nat → Int) × Nat} {d : Nat} {s : mSt} {Q : mQ} {x1 : Int} {x2 : Int} (h_1 : Q none s) : Wp X d 252 18 [some (mR 407), some (mI x1), some (mI x2)] [] s Q := Wp_step k252 f252_18 ⟨⟨rfl, Or.inl rfl⟩, h_1⟩
theorem e252 {X : (Nat → Int) × Nat} {d : Nat} {s : mSt} {Q : mQ} {x1 : Int} (h : Wp X d 252 0 [some (mR 407), some (mI x1), none] [] s Q) : Sp X d 252 [mR 407, mI x1] s Q := Sp_of (show mCe 252 = 0 by decide +kernel) (by rw [show mML 252 = 3 by decide +kernel]; rfl) (Nat.le_trans (Nat.le_of_ble_eq_true (show Nat.ble (mArgs _).length 3 = true from rfl)) (show 3 ≤ mML 252 by decide +kernel)) h
-- 253 ClashDayModel.keepsAct()V
theorem k253 : mRk 253 = 0 := by decide +kernel
theorem f253_0 : mFetch 253 0 = some (.aload_n 0, 1, 0, 0, 0, 0) := by decide +kernel
theorem f253_1 : mFetch 253 1 = some (.getfield 297, 3, 12, 37, 0, 1) := by decide +kernel
theorem f253_4 : mFetch 253 4 = some (.bipush 20, 2, 0, 0, 0, 0) := by decide +kernel
theorem f253_6 : mFetch 253 6 = some (.if_icmp .ne 44, 3, 50, 0, 0, 0) := by decide +kernel
theorem f253_9 : mFetch 253 9 = some (.bipush 72, 2, 0, 0, 0, 0) := by decide +kernel
theorem f253_11 : mFetch 253 11 = some (.istore_n 1, 1, 0, 0, 0, 0) := by decide +kernel
theorem f253_12 : mFetch 253 12 = some (.iload_n 1, 1, 0, 0, 0, 0) := by decide +kernel
theorem f253_13 : mFetch 253 13 = some (.sipush 1440, 3, 0, 0, 0, 0) := by decide +kernel
theorem f253_16 : mFetch 253 16 = some (.if_icmp .ge 24, 3, 40, 0, 0, 0) := by decide +kernel
theorem f253_19 : mFetch 253 19 = some (.aload_n 0, 1, 0, 0, 0, 0) := by decide +kernel
theorem f253_20 : mFetch 253 20 = some (.getfield 61, 3, 12, 36, 2, 1) := by decide +kernel
theorem f253_23 : mFetch 253 23 = some (.iload_n 1, 1, 0, 0, 0, 0) := by decide +kernel
theorem f253_24 : mFetch 253 24 = some (.bipush 72, 2, 0, 0, 0, 0) := by decide +kernel
theorem f253_26 : mFetch 253 26 = some (.isub, 1, 0, 0, 0, 0) := by decide +kernel
theorem f253_27 : mFetch 253 27 = some (.aload_n 0, 1, 0, 0, 0, 0) := by decide +kernel
theorem f253_28 : mFetch 253 28 = some (.getfield 61, 3, 12, 36, 2, 1) := by decide +kernel
theorem f253_31 : mFetch 253 31 = some (.iload_n 1, 1, 0, 0, 0, 0) := by decide +kernel
theorem f253_32 : mFetch 253 32 = some (.iaload, 1, 0, 0, 0, 0) := by decide +kernel
theorem f253_33 : mFetch 253 33 = some (.iastore, 1, 0, 0, 0, 0) := by decide +kernel
theorem f253_34 : mFetch 253 34 = some (.iinc 1 1, 3, 0, 0, 0, 0) := by decide +kernel
theorem f253_37 : mFetch 253 37 = some (.goto (-25), 3, 12, 0, 0, 0) := by decide +kernel
theorem f253_40 : mFetch 253 40 = some (.aload_n 0, 1, 0, 0, 0, 0) := by decide +kernel
theorem f253_41 : mFetch 253 41 = some (.dup, 1, 0, 0, 0, 0) := by decide +kernel
theorem f253_42 : mFetch 253 42 = some (.getfield 297, 3, 12, 37, 0, 1) := by decide +kernel
theorem f253_45 : mFetch 253 45 = some (.iconst 1, 1, 0, 0, 0, 0) := by decide +kernel
theorem f253_46 : mFetch 253 46 = some (.isub, 1, 0, 0, 0, 0) := by decide +kernel
theorem f253_47 : mFetch 253 47 = some (.putfield 297, 3, 12, 37, 0, 1) := by decide +kernel
theorem f253_50 : mFetch 253 50 = some (.iconst 0, 1, 0, 0, 0, 0) := by decide +kernel
theorem f253_51 : mFetch 253 51 = some (.istore_n 1, 1, 0, 0, 0, 0) := by decide +kernel
theorem f253_52 : mFetch 253 52 = some (.iload_n 1, 1, 0, 0, 0, 0) := by decide +kernel
theorem f253_53 : mFetch 253 53 = some (.bipush 72, 2, 0, 0, 0, 0) := by decide +kernel
theorem f253_55 : mFetch 253 55 = some (.if_icmp .ge 31, 3, 86, 0, 0, 0) := by decide +kernel
theorem f253_58 : mFetch 253 58 = some (.aload_n 0, 1, 0, 0, 0, 0) := by decide +kernel
theorem f253_59 : mFetch 253 59 = some (.getfield 61, 3, 12, 36, 2, 1) := by decide +kernel
theorem f253_62 : mFetch 253 62 = some (.bipush 72, 2, 0, 0, 0, 0) := by decide +kernel
theorem f253_64 : mFetch 253 64 = some (.aload_n 0, 1, 0, 0, 0, 0) := by decide +kernel
theorem f253_65 : mFetch 253 65 = some (.getfield 297, 3, 12, 37, 0, 1) := by decide +kernel
theorem f253_68 : mFetch 253 68 = some (.imul, 1, 0, 0, 0, 0) := by decide +kernel
theorem f253_69 : mFetch 253 69 = some (.iload_n 1, 1, 0, 0, 0, 0) := by decide +kernel
theorem f253_70 : mFetch 253 70 = some (.iadd, 1, 0, 0, 0, 0) := by decide +kernel
theorem f253_71 : mFetch 253 71 = some (.aload_n 0, 1, 0, 0, 0, 0) := by decide +kernel
theorem f253_72 : mFetch 253 72 = some (.getfield 39, 3, 12, 20, 2, 1) := by decide +kernel
theorem f253_75 : mFetch 253 75 = some (.iconst 5, 1, 0, 0, 0, 0) := by decide +kernel
theorem f253_76 : mFetch 253 76 = some (.iload_n 1, 1, 0, 0, 0, 0) := by decide +kernel
theorem f253_77 : mFetch 253 77 = some (.iadd, 1, 0, 0, 0, 0) := by decide +kernel
theorem f253_78 : mFetch 253 78 = some (.iaload, 1, 0, 0, 0, 0) := by decide +kernel
theorem f253_79 : mFetch 253 79 = some (.iastore, 1, 0, 0, 0, 0) := by decide +kernel
theorem f253_80 : mFetch 253 80 = some (.iinc 1 1, 3, 0, 0, 0, 0) := by decide +kernel
theorem f253_83 : mFetch 253 83 = some (.goto (-31), 3, 52, 0, 0, 0) := by decide +kernel
theorem f253_86 : mFetch 253 86 = some (.aload_n 0, 1, 0, 0, 0, 0) := by decide +kernel
theorem f253_87 : mFetch 253 87 = some (.dup, 1, 0, 0, 0, 0) := by decide +kernel
theorem f253_88 : mFetch 253 88 = some (.getfield 297, 3, 12, 37, 0, 1) := by decide +kernel
theorem f253_91 : mFetch 253 91 = some (.iconst 1, 1, 0, 0, 0, 0) := by decide +kernel
theorem f253_92 : mFetch 253 92 = some (.iadd, 1, 0, 0, 0, 0) := by decide +kernel
theorem f253_93 : mFetch 253 93 = some (.putfield 297, 3, 12, 37, 0, 1) := by decide +kernel
theorem f253_96 : mFetch 253 96 = some (.return_, 1, 0, 0, 0, 0) := by decide +kernel
theorem b253_0 {X : (Nat → Int) × Nat} {d : Nat} {s : mSt} {Q : mQ} (h_1 : ¬ (s 407 37) = 20 → Wp X d 253 50 [some (mR 407), none] [] s Q) (h_2 : (s 407 37) = 20 → Wp X d 253 9 [some (mR 407), none] [] s Q) : Wp X d 253 0 [some (mR 407), none] [] s Q := Wp_step k253 f253_0 (Wp_step k253 f253_1 ⟨kf_407, Wp_step k253 f253_4 (Wp_step k253 f253_6 ⟨h_1, h_2⟩)⟩)
theorem b253_9 {X : (Nat → Int) × Nat} {d : Nat} {s : mSt} {Q : mQ} (h_1 : Wp X d 253 12 [some (mR 407), some (mI 72)] [] s Q) : Wp X d 253 9 [some (mR 407), none] [] s Q := Wp_step k253 f253_9 (Wp_step k253 f253_11 (h_1))
theorem b253_12 {X : (Nat → Int) × Nat} {d : Nat} {s : mSt} {Q : mQ} {x1 : Int} (h_1 : 1440 ≤ x1 → Wp X d 253 40 [some (mR 407), some (mI x1)] [] s Q) (h_2 : ¬ 1440 ≤ x1 → Wp X d 253 19 [some (mR 407), some (mI x1)] [] s Q) : Wp X d 253 12 [some (mR 407), some (mI x1)] [] s Q := Wp_step k253 f253_12 (Wp_step k253 f253_13 (Wp_step k253 f253_16 ⟨h_1, h_2⟩))
theorem b253_19 {X : (Nat → Int) × Nat} {d : Nat} {s : mSt} {Q : mQ} {x1 : Int} (h_1 : 0 ≤ x1 ∧ x1 < 1440) (h_2 : 0 ≤ (w32 (x1 - 72)) ∧ (w32 (x1 - 72)) < 1440) (h_3 : Wp X d 253 12 [some (mR 407), some (mI (w32 (x1 + 1)))] [] (uS s 423 ((w32 (x1 - 72)).toNat) (s 423 x1.toNat)) Q) : Wp X d 253 19 [some (mR 407), some (mI x1)] [] s Q := Wp_step k253 f253_19 (Wp_step k253 f253_20 ⟨kf_407, 423, rf_407_36, Wp_step k253 f253_23 (Wp_step k253 f253_24 (Wp_step k253 f253_26 (Wp_step k253 f253_27 (Wp_step k253 f253_28 ⟨kf_407, 423, rf_407_36, Wp_step k253 f253_31 (Wp_step k253 f253_32 ⟨1440, af_423, h_1, Wp_step k253 f253_33 ⟨1440, af_423, h_2, Wp_step k253 f253_34 (Wp_step k253 f253_37 (h_3))⟩⟩)⟩))))⟩)
theorem b253_40 {X : (Nat → Int) × Nat} {d : Nat} {s : mSt} {Q : mQ} {x1 : Int} (h_1 : Wp X d 253 50 [some (mR 407), some (mI x1)] [] (uS s 407 37 (w32 ((s 407 37) - 1))) Q) : Wp X d 253 40 [some (mR 407), some (mI x1)] [] s Q := Wp_step k253 f253_40 (Wp_step k253 f253_41 (Wp_step k253 f253_42 ⟨kf_407, Wp_step k253 f253_45 (Wp_step k253 f253_46 (Wp_step k253 f253_47 ⟨kf_407, h_1⟩))⟩))
theorem b253_50 {X : (Nat → Int) × Nat} {d : Nat} {s : mSt} {Q : mQ} (h_1 : Wp X d 253 52 [some (mR 407), some (mI 0)] [] s Q) : Wp X d 253 50 [some (mR 407), none] [] s Q := Wp_step k253 f253_50 (Wp_step k253 f253_51 (h_1))
theorem b253_52 {X : (Nat → Int) × Nat} {d : Nat} {s : mSt} {Q : mQ} {x1 : Int} (h_1 : 72 ≤ x1 → Wp X d 253 86 [some (mR 407), some (mI x1)] [] s Q) (h_2 : ¬ 72 ≤ x1 → Wp X d 253 58 [some (mR 407), some (mI x1)] [] s Q) : Wp X d 253 52 [some (mR 407), some (mI x1)] [] s Q := Wp_step k253 f253_52 (Wp_step k253 f253_53 (Wp_step k253 f253_55 ⟨h_1, h_2⟩))
theorem b253_58 {X : (Nat → Int) × Nat} {d : Nat} {s : mSt} {Q : mQ} {x1 : Int} (h_1 : 0 ≤ (w32 (5 + x1)) ∧ (w32 (5 + x1)) < 166) (h_2 : 0 ≤ (w32 ((w32 (72 * (s 407 37))) + x1)) ∧ (w32 ((w32 (72 * (s 407 37))) + x1)) < 1440) (h_3 : Wp X d 253 52 [some (mR 407), some (mI (w32 (x1 + 1)))] [] (uS s 423 ((w32 ((w32 (72 * (s 407 37))) + x1)).toNat) (s 417 (w32 (5 + x1)).toNat)) Q) : Wp X d 253 58 [some (mR 407), some (mI x1)] [] s Q := Wp_step k253 f253_58 (Wp_step k253 f253_59 ⟨kf_407, 423, rf_407_36, Wp_step k253 f253_62 (Wp_step k253 f253_64 (Wp_step k253 f253_65 ⟨kf_407, Wp_step k253 f253_68 (Wp_step k253 f253_69 (Wp_step k253 f253_70 (Wp_step k253 f253_71 (Wp_step k253 f253_72 ⟨kf_407, 417, rf_407_20, Wp_step k253 f253_75 (Wp_step k253 f253_76 (Wp_step k253 f253_77 (Wp_step k253 f253_78 ⟨166, af_417, h_1, Wp_step k253 f253_79 ⟨1440, af_423, h_2, Wp_step k253 f253_80 (Wp_step k253 f253_83 (h_3))⟩⟩)))⟩))))⟩))⟩)
theorem b253_86 {X : (Nat → Int) × Nat} {d : Nat} {s : mSt} {Q : mQ} {x1 : Int} (h_1 : Q none (uS s 407 37 (w32 ((s 407 37) + 1)))) : Wp X d 253 86 [some (mR 407), some (mI x1)] [] s Q := Wp_step k253 f253_86 (Wp_step k253 f253_87 (Wp_step k253 f253_88 ⟨kf_407, Wp_step k253 f253_91 (Wp_step k253 f253_92 (Wp_step k253 f253_93 ⟨kf_407, Wp_step k253 f253_96 ⟨⟨rfl, Or.inl rfl⟩, h_1⟩⟩))⟩))
theorem e253 {X : (Nat → Int) × Nat} {d : Nat} {s : mSt} {Q : mQ} (h : Wp X d 253 0 [some (mR 407), none] [] s Q) : Sp X d 253 [mR 407] s Q := Sp_of (show mCe 253 = 0 by decide +kernel) (by rw [show mML 253 = 2 by decide +kernel]; rfl) (Nat.le_trans (Nat.le_of_ble_eq_true (show Nat.ble (mArgs _).length 2 = true from rfl)) (show 2 ≤ mML 253 by decide +kernel)) h
-- 254 ClashDayModel.undo()I
theorem k254 : mRk 254 = 1 := by decide +kernel
theorem f254_0 : mFetch 254 0 = some (.aload_n 0, 1, 0, 0, 0, 0) := by decide +kernel
theorem f254_1 : mFetch 254 1 = some (.getfield 297, 3, 12, 37, 0, 1) := by decide +kernel
theorem f254_4 : mFetch 254 4 = some (.ifCond .ne 5, 3, 9, 0, 0, 0) := by decide +kernel
theorem f254_7 : mFetch 254 7 = some (.iconst (-1), 1, 0, 0, 0, 0) := by decide +kernel
theorem f254_8 : mFetch 254 8 = some (.ireturn, 1, 0, 0, 0, 0) := by decide +kernel
theorem f254_9 : mFetch 254 9 = some (.aload_n 0, 1, 0, 0, 0, 0) := by decide +kernel
theorem f254_10 : mFetch 254 10 = some (.dup, 1, 0, 0, 0, 0) := by decide +kernel
theorem f254_11 : mFetch 254 11 = some (.getfield 297, 3, 12, 37, 0, 1) := by decide +kernel
theorem f254_14 : mFetch 254 14 = some (.iconst 1, 1, 0, 0, 0, 0) := by decide +kernel
theorem f254_15 : mFetch 254 15 = some (.isub, 1, 0, 0, 0, 0) := by decide +kernel
theorem f254_16 : mFetch 254 16 = some (.putfield 297, 3, 12, 37, 0, 1) := by decide +kernel
theorem f254_19 : mFetch 254 19 = some (.iconst 0, 1, 0, 0, 0, 0) := by decide +kernel
theorem f254_20 : mFetch 254 20 = some (.istore_n 1, 1, 0, 0, 0, 0) := by decide +kernel
theorem f254_21 : mFetch 254 21 = some (.iload_n 1, 1, 0, 0, 0, 0) := by decide +kernel
theorem f254_22 : mFetch 254 22 = some (.bipush 72, 2, 0, 0, 0, 0) := by decide +kernel
theorem f254_24 : mFetch 254 24 = some (.if_icmp .ge 31, 3, 55, 0, 0, 0) := by decide +kernel
theorem f254_27 : mFetch 254 27 = some (.aload_n 0, 1, 0, 0, 0, 0) := by decide +kernel
theorem f254_28 : mFetch 254 28 = some (.getfield 39, 3, 12, 20, 2, 1) := by decide +kernel
theorem f254_31 : mFetch 254 31 = some (.iconst 5, 1, 0, 0, 0, 0) := by decide +kernel
theorem f254_32 : mFetch 254 32 = some (.iload_n 1, 1, 0, 0, 0, 0) := by decide +kernel
theorem f254_33 : mFetch 254 33 = some (.iadd, 1, 0, 0, 0, 0) := by decide +kernel
theorem f254_34 : mFetch 254 34 = some (.aload_n 0, 1, 0, 0, 0, 0) := by decide +kernel
theorem f254_35 : mFetch 254 35 = some (.getfield 61, 3, 12, 36, 2, 1) := by decide +kernel
theorem f254_38 : mFetch 254 38 = some (.bipush 72, 2, 0, 0, 0, 0) := by decide +kernel
theorem f254_40 : mFetch 254 40 = some (.aload_n 0, 1, 0, 0, 0, 0) := by decide +kernel
theorem f254_41 : mFetch 254 41 = some (.getfield 297, 3, 12, 37, 0, 1) := by decide +kernel
theorem f254_44 : mFetch 254 44 = some (.imul, 1, 0, 0, 0, 0) := by decide +kernel
theorem f254_45 : mFetch 254 45 = some (.iload_n 1, 1, 0, 0, 0, 0) := by decide +kernel
theorem f254_46 : mFetch 254 46 = some (.iadd, 1, 0, 0, 0, 0) := by decide +kernel
theorem f254_47 : mFetch 254 47 = some (.iaload, 1, 0, 0, 0, 0) := by decide +kernel
theorem f254_48 : mFetch 254 48 = some (.iastore, 1, 0, 0, 0, 0) := by decide +kernel
theorem f254_49 : mFetch 254 49 = some (.iinc 1 1, 3, 0, 0, 0, 0) := by decide +kernel
theorem f254_52 : mFetch 254 52 = some (.goto (-31), 3, 21, 0, 0, 0) := by decide +kernel
theorem f254_55 : mFetch 254 55 = some (.aload_n 0, 1, 0, 0, 0, 0) := by decide +kernel
theorem f254_56 : mFetch 254 56 = some (.getfield 297, 3, 12, 37, 0, 1) := by decide +kernel
theorem f254_59 : mFetch 254 59 = some (.ireturn, 1, 0, 0, 0, 0) := by decide +kernel
theorem b254_0 {X : (Nat → Int) × Nat} {d : Nat} {s : mSt} {Q : mQ} (h_1 : ¬ (s 407 37) = 0 → Wp X d 254 9 [some (mR 407), none] [] s Q) (h_2 : (s 407 37) = 0 → Wp X d 254 7 [some (mR 407), none] [] s Q) : Wp X d 254 0 [some (mR 407), none] [] s Q := Wp_step k254 f254_0 (Wp_step k254 f254_1 ⟨kf_407, Wp_step k254 f254_4 ⟨h_1, h_2⟩⟩)
theorem b254_7 {X : (Nat → Int) × Nat} {d : Nat} {s : mSt} {Q : mQ} (h_1 : Q (some (mI (-1))) s) : Wp X d 254 7 [some (mR 407), none] [] s Q := Wp_step k254 f254_7 (Wp_step k254 f254_8 ⟨⟨rfl, trivial⟩, h_1⟩)
theorem b254_9 {X : (Nat → Int) × Nat} {d : Nat} {s : mSt} {Q : mQ} (h_1 : Wp X d 254 21 [some (mR 407), some (mI 0)] [] (uS s 407 37 (w32 ((s 407 37) - 1))) Q) : Wp X d 254 9 [some (mR 407), none] [] s Q := Wp_step k254 f254_9 (Wp_step k254 f254_10 (Wp_step k254 f254_11 ⟨kf_407, Wp_step k254 f254_14 (Wp_step k254 f254_15 (Wp_step k254 f254_16 ⟨kf_407, Wp_step k254 f254_19 (Wp_step k254 f254_20 (h_1))⟩))⟩))
theorem b254_21 {X : (Nat → Int) × Nat} {d : Nat} {s : mSt} {Q : mQ} {x1 : Int} (h_1 : 72 ≤ x1 → Wp X d 254 55 [some (mR 407), some (mI x1)] [] s Q) (h_2 : ¬ 72 ≤ x1 → Wp X d 254 27 [some (mR 407), some (mI x1)] [] s Q) : Wp X d 254 21 [some (mR 407), some (mI x1)] [] s Q := Wp_step k254 f254_21 (Wp_step k254 f254_22 (Wp_step k254 f254_24 ⟨h_1, h_2⟩))
theorem b254_27 {X : (Nat → Int) × Nat} {d : Nat} {s : mSt} {Q : mQ} {x1 : Int} (h_1 : 0 ≤ (w32 ((w32 (72 * (s 407 37))) + x1)) ∧ (w32 ((w32 (72 * (s 407 37))) + x1)) < 1440) (h_2 : 0 ≤ (w32 (5 + x1)) ∧ (w32 (5 + x1)) < 166) (h_3 : Wp X d 254 21 [some (mR 407), some (mI (w32 (x1 + 1)))] [] (uS s 417 ((w32 (5 + x1)).toNat) (s 423 (w32 ((w32 (72 * (s 407 37))) + x1)).toNat)) Q) : Wp X d 254 27 [some (mR 407), some (mI x1)] [] s Q := Wp_step k254 f254_27 (Wp_step k254 f254_28 ⟨kf_407, 417, rf_407_20, Wp_step k254 f254_31 (Wp_step k254 f254_32 (Wp_step k254 f254_33 (Wp_step k254 f254_34 (Wp_step k254 f254_35 ⟨kf_407, 423, rf_407_36, Wp_step k254 f254_38 (Wp_step k254 f254_40 (Wp_step k254 f254_41 ⟨kf_407, Wp_step k254 f254_44 (Wp_step k254 f254_45 (Wp_step k254 f254_46 (Wp_step k254 f254_47 ⟨1440, af_423, h_1, Wp_step k254 f254_48 ⟨166, af_417, h_2, Wp_step k254 f254_49 (Wp_step k254 f254_52 (h_3))⟩⟩)))⟩))⟩))))⟩)
theorem b254_55 {X : (Nat → Int) × Nat} {d : Nat} {s : mSt} {Q : mQ} {x1 : Int} (h_1 : Q (some (mI (s 407 37))) s) : Wp X d 254 55 [some (mR 407), some (mI x1)] [] s Q := Wp_step k254 f254_55 (Wp_step k254 f254_56 ⟨kf_407, Wp_step k254 f254_59 ⟨⟨rfl, trivial⟩, h_1⟩⟩)
theorem e254 {X : (Nat → Int) × Nat} {d : Nat} {s : mSt} {Q : mQ} (h : Wp X d 254 0 [some (mR 407), none] [] s Q) : Sp X d 254 [mR 407] s Q := Sp_of (show mCe 254 = 0 by decide +kernel) (by rw [show mML 254 = 2 by decide +kernel]; rfl) (Nat.le_trans (Nat.le_of_ble_eq_true (show Nat.ble (mArgs _).length 2 = true from rfl)) (show 2 ≤ mML 254 by decide +kernel)) h
-- 255 ClashDayModel.turn()I
theorem k255 : mRk 255 = 1 := by decide +kernel
theorem f255_0 : mFetch 255 0 = some (.aload_n 0, 1, 0, 0, 0, 0) := by decide +kernel
theorem f255_1 : mFetch 255 1 = some (.invokevirtual 354, 3, 212, 0, 1, 12) := by decide +kernel
theorem f255_4 : mFetch 255 4 = some (.ifCond .eq 15, 3, 19, 0, 0, 0) := by decide +kernel
theorem f255_7 : mFetch 255 7 = some (.aload_n 0, 1, 0, 0, 0, 0) := by decide +kernel
theorem f255_8 : mFetch 255 8 = some (.getfield 39, 3, 12, 20, 2, 1) := by decide +kernel
theorem f255_11 : mFetch 255 11 = some (.iconst 5, 1, 0, 0, 0, 0) := by decide +kernel
theorem f255_12 : mFetch 255 12 = some (.iaload, 1, 0, 0, 0, 0) := by decide +kernel
theorem f255_13 : mFetch 255 13 = some (.sipush 999, 3, 0, 0, 0, 0) := by decide +kernel
theorem f255_16 : mFetch 255 16 = some (.if_icmp .ne 5, 3, 21, 0, 0, 0) := by decide +kernel
theorem f255_19 : mFetch 255 19 = some (.iconst (-1), 1, 0, 0, 0, 0) := by decide +kernel
theorem f255_20 : mFetch 255 20 = some (.ireturn, 1, 0, 0, 0, 0) := by decide +kernel
theorem f255_21 : mFetch 255 21 = some (.aload_n 0, 1, 0, 0, 0, 0) := by decide +kernel
theorem f255_22 : mFetch 255 22 = some (.invokevirtual 455, 3, 253, 0, 1, 12) := by decide +kernel
theorem f255_25 : mFetch 255 25 = some (.aload_n 0, 1, 0, 0, 0, 0) := by decide +kernel
theorem f255_26 : mFetch 255 26 = some (.invokevirtual 452, 3, 251, 0, 1, 12) := by decide +kernel
theorem f255_29 : mFetch 255 29 = some (.istore_n 1, 1, 0, 0, 0, 0) := by decide +kernel
theorem f255_30 : mFetch 255 30 = some (.iload_n 1, 1, 0, 0, 0, 0) := by decide +kernel
theorem f255_31 : mFetch 255 31 = some (.ifCond .ge 8, 3, 39, 0, 0, 0) := by decide +kernel
theorem f255_34 : mFetch 255 34 = some (.bipush (-2), 2, 0, 0, 0, 0) := by decide +kernel
theorem f255_36 : mFetch 255 36 = some (.goto 4, 3, 40, 0, 0, 0) := by decide +kernel
theorem f255_39 : mFetch 255 39 = some (.iload_n 1, 1, 0, 0, 0, 0) := by decide +kernel
theorem f255_40 : mFetch 255 40 = some (.ireturn, 1, 0, 0, 0, 0) := by decide +kernel
theorem b255_0 {X : (Nat → Int) × Nat} {d : Nat} {s : mSt} {Q : mQ} (h_1 : Sp X d 212 [mR 407] s (fun r s' => ∃ v : Int, r = some (mI v) ∧ Wp X (d + 1) 255 4 [some (mR 407), none] [mI v] s' Q)) : Wp X (d + 1) 255 0 [some (mR 407), none] [] s Q := Wp_step k255 f255_0 (Wp_step k255 f255_1 ⟨⟨kf_407, Nat.le_of_ble_eq_true rfl⟩, Nat.le_refl _, _, rfl, Sp_E h_1⟩)
theorem b255_4 {X : (Nat → Int) × Nat} {d : Nat} {s : mSt} {Q : mQ} {xt0 : Int} (h_1 : xt0 = 0 → Wp X d 255 19 [some (mR 407), none] [] s Q) (h_2 : ¬ xt0 = 0 → Wp X d 255 7 [some (mR 407), none] [] s Q) : Wp X d 255 4 [some (mR 407), none] [mI xt0] s Q := Wp_step k255 f255_4 ⟨h_1, h_2⟩
theorem b255_7 {X : (Nat → Int) × Nat} {d : Nat} {s : mSt} {Q : mQ} (h_1 : ¬ (s 417 5) = 999 → Wp X d 255 21 [some (mR 407), none] [] s Q) (h_2 : (s 417 5) = 999 → Wp X d 255 19 [some (mR 407), none] [] s Q) : Wp X d 255 7 [some (mR 407), none] [] s Q := Wp_step k255 f255_7 (Wp_step k255 f255_8 ⟨kf_407, 417, rf_407_20, Wp_step k255 f255_11 (Wp_step k255 f255_12 ⟨166, af_417, ⟨by decide, by decide⟩, Wp_step k255 f255_13 (Wp_step k255 f255_16 ⟨h_1, h_2⟩)⟩)⟩)
theorem b255_19 {X : (Nat → Int) × Nat} {d : Nat} {s : mSt} {Q : mQ} (h_1 : Q (some (mI (-1))) s) : Wp X d 255 19 [some (mR 407), none] [] s Q := Wp_step k255 f255_19 (Wp_step k255 f255_20 ⟨⟨rfl, trivial⟩, h_1⟩)
theorem b255_21 {X : (Nat → Int) × Nat} {d : Nat} {s : mSt} {Q : mQ} (h_1 : Sp X d 253 [mR 407] s (fun r s' => r = none ∧ Wp X (d + 1) 255 25 [some (mR 407), none] [] s' Q)) : Wp X (d + 1) 255 21 [some (mR 407), none] [] s Q := Wp_step k255 f255_21 (Wp_step k255 f255_22 ⟨⟨kf_407, Nat.le_of_ble_eq_true rfl⟩, Nat.le_refl _, _, rfl, Sp_V h_1⟩)
theorem b255_25 {X : (Nat → Int) × Nat} {d : Nat} {s : mSt} {Q : mQ} (h_1 : Sp X d 251 [mR 407] s (fun r s' => ∃ v : Int, r = some (mI v) ∧ Wp X (d + 1) 255 29 [some (mR 407), none] [mI v] s' Q)) : Wp X (d + 1) 255 25 [some (mR 407), none] [] s Q := Wp_step k255 f255_25 (Wp_step k255 f255_26 ⟨⟨kf_407, Nat.le_of_ble_eq_true rfl⟩, Nat.le_refl _, _, rfl, Sp_E h_1⟩)
theorem b255_29 {X : (Nat → Int) × Nat} {d : Nat} {s : mSt} {Q : mQ} {xt0 : Int} (h_1 : 0 ≤ xt0 → Wp X d 255 39 [some (mR 407), some (mI xt0)] [] s Q) (h_2 : ¬ 0 ≤ xt0 → Wp X d 255 34 [some (mR 407), some (mI xt0)] [] s Q) : Wp X d 255 29 [some (mR 407), none] [mI xt0] s Q := Wp_step k255 f255_29 (Wp_step k255 f255_30 (Wp_step k255 f255_31 ⟨h_1, h_2⟩))
theorem b255_34 {X : (Nat → Int) × Nat} {d : Nat} {s : mSt} {Q : mQ} {x1 : Int} (h_1 : Wp X d 255 40 [some (mR 407), some (mI x1)] [mI (-2)] s Q) : Wp X d 255 34 [some (mR 407), some (mI x1)] [] s Q := Wp_step k255 f255_34 (Wp_step k255 f255_36 (h_1))
theorem b255_39 {X : (Nat → Int) × Nat} {d : Nat} {s : mSt} {Q : mQ} {x1 : Int} (h_1 : Wp X d 255 40 [some (mR 407), some (mI x1)] [mI x1] s Q) : Wp X d 255 39 [some (mR 407), some (mI x1)] [] s Q := Wp_step k255 f255_39 (h_1)
theorem b255_40 {X : (Nat → Int) × Nat} {d : Nat} {s : mSt} {Q : mQ} {x1 : Int} {xt0 : Int} (h_1 : Q (some (mI xt0)) s) : Wp X d 255 40 [some (mR 407), some (mI x1)] [mI xt0] s Q := Wp_step k255 f255_40 ⟨⟨rfl, trivial⟩, h_1⟩
theorem e255 {X : (Nat → Int) × Nat} {d : Nat} {s : mSt} {Q : mQ} (h : Wp X d 255 0 [some (mR 407), none] [] s Q) : Sp X d 255 [mR 407] s Q := Sp_of (show mCe 255 = 0 by decide +kernel) (by rw [show mML 255 = 2 by decide +kernel]; rfl) (Nat.le_trans (Nat.le_of_ble_eq_true (show Nat.ble (mArgs _).length 2 = true from rfl)) (show 2 ≤ mML 255 by decide +kernel)) h
-- 256 ClashDayModel.plan(I)I
theorem k256 : mRk 256 = 1 := by decide +kernel
theorem f256_0 : mFetch 256 0 = some (.aload_n 0, 1, 0, 0, 0, 0) := by decide +kernel
theorem f256_1 : mFetch 256 1 = some (.iload_n 1, 1, 0, 0, 0, 0) := by decide +kernel
theorem f256_2 : mFetch 256 2 = some (.invokevirtual 328, 3, 215, 0, 2, 12) := by decide +kernel
theorem f256_5 : mFetch 256 5 = some (.ifCond .eq 11, 3, 16, 0, 0, 0) := by decide +kernel
theorem f256_8 : mFetch 256 8 = some (.aload_n 0, 1, 0, 0, 0, 0) := by decide +kernel
theorem f256_9 : mFetch 256 9 = some (.iload_n 1, 1, 0, 0, 0, 0) := by decide +kernel
theorem f256_10 : mFetch 256 10 = some (.invokevirtual 420, 3, 244, 0, 2, 12) := by decide +kernel
theorem f256_13 : mFetch 256 13 = some (.ifCond .ne 5, 3, 18, 0, 0, 0) := by decide +kernel
theorem f256_16 : mFetch 256 16 = some (.iconst (-1), 1, 0, 0, 0, 0) := by decide +kernel
theorem f256_17 : mFetch 256 17 = some (.ireturn, 1, 0, 0, 0, 0) := by decide +kernel
theorem f256_18 : mFetch 256 18 = some (.aload_n 0, 1, 0, 0, 0, 0) := by decide +kernel
theorem f256_19 : mFetch 256 19 = some (.invokevirtual 455, 3, 253, 0, 1, 12) := by decide +kernel
theorem f256_22 : mFetch 256 22 = some (.aload_n 0, 1, 0, 0, 0, 0) := by decide +kernel
theorem f256_23 : mFetch 256 23 = some (.iload_n 1, 1, 0, 0, 0, 0) := by decide +kernel
theorem f256_24 : mFetch 256 24 = some (.invokevirtual 449, 3, 245, 0, 2, 12) := by decide +kernel
theorem f256_27 : mFetch 256 27 = some (.pop, 1, 0, 0, 0, 0) := by decide +kernel
theorem f256_28 : mFetch 256 28 = some (.aload_n 0, 1, 0, 0, 0, 0) := by decide +kernel
theorem f256_29 : mFetch 256 29 = some (.getfield 402, 3, 12, 31, 0, 1) := by decide +kernel
theorem f256_32 : mFetch 256 32 = some (.ireturn, 1, 0, 0, 0, 0) := by decide +kernel
theorem b256_0 {X : (Nat → Int) × Nat} {d : Nat} {s : mSt} {Q : mQ} {x1 : Int} (h_1 : Sp X d 215 [mR 407, mI x1] s (fun r s' => ∃ v : Int, r = some (mI v) ∧ Wp X (d + 1) 256 5 [some (mR 407), some (mI x1)] [mI v] s' Q)) : Wp X (d + 1) 256 0 [some (mR 407), some (mI x1)] [] s Q := Wp_step k256 f256_0 (Wp_step k256 f256_1 (Wp_step k256 f256_2 ⟨⟨kf_407, Nat.le_of_ble_eq_true rfl⟩, Nat.le_refl _, _, rfl, Sp_E h_1⟩))
theorem b256_5 {X : (Nat → Int) × Nat} {d : Nat} {s : mSt} {Q : mQ} {x1 : Int} {xt0 : Int} (h_1 : xt0 = 0 → Wp X d 256 16 [some (mR 407), some (mI x1)] [] s Q) (h_2 : ¬ xt0 = 0 → Wp X d 256 8 [some (mR 407), some (mI x1)] [] s Q) : Wp X d 256 5 [some (mR 407), some (mI x1)] [mI xt0] s Q := Wp_step k256 f256_5 ⟨h_1, h_2⟩
theorem b256_8 {X : (Nat → Int) × Nat} {d : Nat} {s : mSt} {Q : mQ} {x1 : Int} (h_1 : Sp X d 244 [mR 407, mI x1] s (fun r s' => ∃ v : Int, r = some (mI v) ∧ Wp X (d + 1) 256 13 [some (mR 407), some (mI x1)] [mI v] s' Q)) : Wp X (d + 1) 256 8 [some (mR 407), some (mI x1)] [] s Q := Wp_step k256 f256_8 (Wp_step k256 f256_9 (Wp_step k256 f256_10 ⟨⟨kf_407, Nat.le_of_ble_eq_true rfl⟩, Nat.le_refl _, _, rfl, Sp_E h_1⟩))
theorem b256_13 {X : (Nat → Int) × Nat} {d : Nat} {s : mSt} {Q : mQ} {x1 : Int} {xt0 : Int} (h_1 : ¬ xt0 = 0 → Wp X d 256 18 [some (mR 407), some (mI x1)] [] s Q) (h_2 : xt0 = 0 → Wp X d 256 16 [some (mR 407), some (mI x1)] [] s Q) : Wp X d 256 13 [some (mR 407), some (mI x1)] [mI xt0] s Q := Wp_step k256 f256_13 ⟨h_1, h_2⟩
theorem b256_16 {X : (Nat → Int) × Nat} {d : Nat} {s : mSt} {Q : mQ} {x1 : Int} (h_1 : Q (some (mI (-1))) s) : Wp X d 256 16 [some (mR 407), some (mI x1)] [] s Q := Wp_step k256 f256_16 (Wp_step k256 f256_17 ⟨⟨rfl, trivial⟩, h_1⟩)
theorem b256_18 {X : (Nat → Int) × Nat} {d : Nat} {s : mSt} {Q : mQ} {x1 : Int} (h_1 : Sp X d 253 [mR 407] s (fun r s' => r = none ∧ Wp X (d + 1) 256 22 [some (mR 407), some (mI x1)] [] s' Q)) : Wp X (d + 1) 256 18 [some (mR 407), some (mI x1)] [] s Q := Wp_step k256 f256_18 (Wp_step k256 f256_19 ⟨⟨kf_407, Nat.le_of_ble_eq_true rfl⟩, Nat.le_refl _, _, rfl, Sp_V h_1⟩)
theorem b256_22 {X : (Nat → Int) × Nat} {d : Nat} {s : mSt} {Q : mQ} {x1 : Int} (h_1 : Sp X d 245 [mR 407, mI x1] s (fun r s' => ∃ v : Int, r = some (mI v) ∧ Wp X (d + 1) 256 27 [some (mR 407), some (mI x1)] [mI v] s' Q)) : Wp X (d + 1) 256 22 [some (mR 407), some (mI x1)] [] s Q := Wp_step k256 f256_22 (Wp_step k256 f256_23 (Wp_step k256 f256_24 ⟨⟨kf_407, Nat.le_of_ble_eq_true rfl⟩, Nat.le_refl _, _, rfl, Sp_E h_1⟩))
theorem b256_27 {X : (Nat → Int) × Nat} {d : Nat} {s : mSt} {Q : mQ} {x1 : Int} {xt0 : Int} (h_1 : Q (some (mI (s 407 31))) s) : Wp X d 256 27 [some (mR 407), some (mI x1)] [mI xt0] s Q := Wp_step k256 f256_27 (Wp_step k256 f256_28 (Wp_step k256 f256_29 ⟨kf_407, Wp_step k256 f256_32 ⟨⟨rfl, trivial⟩, h_1⟩⟩))
theorem e256 {X : (Nat → Int) × Nat} {d : Nat} {s : mSt} {Q : mQ} {x1 : Int} (h : Wp X d 256 0 [some (mR 407), some (mI x1)] [] s Q) : Sp X d 256 [mR 407, mI x1] s Q := Sp_of (show mCe 256 = 0 by decide +kernel) (by rw [show mML 256 = 2 by decide +kernel]; rfl) (Nat.le_trans (Nat.le_of_ble_eq_true (show Nat.ble (mArgs _).length 2 = true from rfl)) (show 2 ≤ mML 256 by decide +kernel)) h
-- 257 ClashDayModel.drop(I)I
theorem k257 : mRk 257 = 1 := by decide +kernel
theorem f257_0 : mFetch 257 0 = some (.aload_n 0, 1, 0, 0, 0, 0) := by decide +kernel
theorem f257_1 : mFetch 257 1 = some (.iload_n 1, 1, 0, 0, 0, 0) := by decide +kernel
theorem f257_2 : mFetch 257 2 = some (.invokevirtual 334, 3, 216, 0, 2, 12) := by decide +kernel
theorem f257_5 : mFetch 257 5 = some (.ifCond .ne 5, 3, 10, 0, 0, 0) := by decide +kernel
theorem f257_8 : mFetch 257 8 = some (.iconst (-1), 1, 0, 0, 0, 0) := by decide +kernel
theorem f257_9 : mFetch 257 9 = some (.ireturn, 1, 0, 0, 0, 0) := by decide +kernel
theorem f257_10 : mFetch 257 10 = some (.aload_n 0, 1, 0, 0, 0, 0) := by decide +kernel
theorem f257_11 : mFetch 257 11 = some (.invokevirtual 455, 3, 253, 0, 1, 12) := by decide +kernel
theorem f257_14 : mFetch 257 14 = some (.aload_n 0, 1, 0, 0, 0, 0) := by decide +kernel
theorem f257_15 : mFetch 257 15 = some (.iload_n 1, 1, 0, 0, 0, 0) := by decide +kernel
theorem f257_16 : mFetch 257 16 = some (.invokevirtual 458, 3, 246, 0, 2, 12) := by decide +kernel
theorem f257_19 : mFetch 257 19 = some (.aload_n 0, 1, 0, 0, 0, 0) := by decide +kernel
theorem f257_20 : mFetch 257 20 = some (.invokevirtual 436, 3, 221, 0, 1, 12) := by decide +kernel
theorem f257_23 : mFetch 257 23 = some (.invokestatic 427, 3, 169, 0, 1, 99) := by decide +kernel
theorem f257_26 : mFetch 257 26 = some (.ireturn, 1, 0, 0, 0, 0) := by decide +kernel
theorem b257_0 {X : (Nat → Int) × Nat} {d : Nat} {s : mSt} {Q : mQ} {x1 : Int} (h_1 : Sp X d 216 [mR 407, mI x1] s (fun r s' => ∃ v : Int, r = some (mI v) ∧ Wp X (d + 1) 257 5 [some (mR 407), some (mI x1)] [mI v] s' Q)) : Wp X (d + 1) 257 0 [some (mR 407), some (mI x1)] [] s Q := Wp_step k257 f257_0 (Wp_step k257 f257_1 (Wp_step k257 f257_2 ⟨⟨kf_407, Nat.le_of_ble_eq_true rfl⟩, Nat.le_refl _, _, rfl, Sp_E h_1⟩))
theorem b257_5 {X : (Nat → Int) × Nat} {d : Nat} {s : mSt} {Q : mQ} {x1 : Int} {xt0 : Int} (h_1 : ¬ xt0 = 0 → Wp X d 257 10 [some (mR 407), some (mI x1)] [] s Q) (h_2 : xt0 = 0 → Wp X d 257 8 [some (mR 407), some (mI x1)] [] s Q) : Wp X d 257 5 [some (mR 407), some (mI x1)] [mI xt0] s Q := Wp_step k257 f257_5 ⟨h_1, h_2⟩
theorem b257_8 {X : (Nat → Int) × Nat} {d : Nat} {s : mSt} {Q : mQ} {x1 : Int} (h_1 : Q (some (mI (-1))) s) : Wp X d 257 8 [some (mR 407), some (mI x1)] [] s Q := Wp_step k257 f257_8 (Wp_step k257 f257_9 ⟨⟨rfl, trivial⟩, h_1⟩)
theorem b257_10 {X : (Nat → Int) × Nat} {d : Nat} {s : mSt} {Q : mQ} {x1 : Int} (h_1 : Sp X d 253 [mR 407] s (fun r s' => r = none ∧ Wp X (d + 1) 257 14 [some (mR 407), some (mI x1)] [] s' Q)) : Wp X (d + 1) 257 10 [some (mR 407), some (mI x1)] [] s Q := Wp_step k257 f257_10 (Wp_step k257 f257_11 ⟨⟨kf_407, Nat.le_of_ble_eq_true rfl⟩, Nat.le_refl _, _, rfl, Sp_V h_1⟩)
theorem b257_14 {X : (Nat → Int) × Nat} {d : Nat} {s : mSt} {Q : mQ} {x1 : Int} (h_1 : Sp X d 246 [mR 407, mI x1] s (fun r s' => r = none ∧ Wp X (d + 1) 257 19 [some (mR 407), some (mI x1)] [] s' Q)) : Wp X (d + 1) 257 14 [some (mR 407), some (mI x1)] [] s Q := Wp_step k257 f257_14 (Wp_step k257 f257_15 (Wp_step k257 f257_16 ⟨⟨kf_407, Nat.le_of_ble_eq_true rfl⟩, Nat.le_refl _, _, rfl, Sp_V h_1⟩))
theorem b257_19 {X : (Nat → Int) × Nat} {d : Nat} {s : mSt} {Q : mQ} {x1 : Int} (h_1 : Sp X d 221 [mR 407] s (fun r s' => ∃ v : Int, r = some (mI v) ∧ Wp X (d + 1) 257 23 [some (mR 407), some (mI x1)] [mI v] s' Q)) : Wp X (d + 1) 257 19 [some (mR 407), some (mI x1)] [] s Q := Wp_step k257 f257_19 (Wp_step k257 f257_20 ⟨⟨kf_407, Nat.le_of_ble_eq_true rfl⟩, Nat.le_refl _, _, rfl, Sp_E h_1⟩)
theorem b257_23 {X : (Nat → Int) × Nat} {d : Nat} {s : mSt} {Q : mQ} {x1 : Int} {xt0 : Int} (h_1 : Sp X d 169 [mI xt0] s (fun r s' => ∃ v : Int, r = some (mI v) ∧ Wp X (d + 1) 257 26 [some (mR 407), some (mI x1)] [mI v] s' Q)) : Wp X (d + 1) 257 23 [some (mR 407), some (mI x1)] [mI xt0] s Q := Wp_step k257 f257_23 ⟨⟨Nat.le_of_ble_eq_true rfl, Nat.le_refl _⟩, _, rfl, Sp_E h_1⟩
theorem b257_26 {X : (Nat → Int) × Nat} {d : Nat} {s : mSt} {Q : mQ} {x1 : Int} {xt0 : Int} (h_1 : Q (some (mI xt0)) s) : Wp X d 257 26 [some (mR 407), some (mI x1)] [mI xt0] s Q := Wp_step k257 f257_26 ⟨⟨rfl, trivial⟩, h_1⟩
theorem e257 {X : (Nat → Int) × Nat} {d : Nat} {s : mSt} {Q : mQ} {x1 : Int} (h : Wp X d 257 0 [some (mR 407), some (mI x1)] [] s Q) : Sp X d 257 [mR 407, mI x1] s Q := Sp_of (show mCe 257 = 0 by decide +kernel) (by rw [show mML 257 = 2 by decide +kernel]; rfl) (Nat.le_trans (Nat.le_of_ble_eq_true (show Nat.ble (mArgs _).length 2 = true from rfl)) (show 2 ≤ mML 257 by decide +kernel)) h
-- 258 ClashDayModel.delays(II)V
theorem k258 : mRk 258 = 0 := by decide +kernel
theorem f258_0 : mFetch 258 0 = some (.aload_n 0, 1, 0, 0, 0, 0) := by decide +kernel
theorem f258_1 : mFetch 258 1 = some (.getfield 39, 3, 12, 20, 2, 1) := by decide +kernel
theorem f258_4 : mFetch 258 4 = some (.bipush 6, 2, 0, 0, 0, 0) := by decide +kernel
theorem f258_6 : mFetch 258 6 = some (.iload_n 1, 1, 0, 0, 0, 0) := by decide +kernel
theorem f258_7 : mFetch 258 7 = some (.iadd, 1, 0, 0, 0, 0) := by decide +kernel
theorem f258_8 : mFetch 258 8 = some (.aload_n 0, 1, 0, 0, 0, 0) := by decide +kernel
theorem f258_9 : mFetch 258 9 = some (.getfield 39, 3, 12, 20, 2, 1) := by decide +kernel
theorem f258_12 : mFetch 258 12 = some (.bipush 6, 2, 0, 0, 0, 0) := by decide +kernel
theorem f258_14 : mFetch 258 14 = some (.iload_n 1, 1, 0, 0, 0, 0) := by decide +kernel
theorem f258_15 : mFetch 258 15 = some (.iadd, 1, 0, 0, 0, 0) := by decide +kernel
theorem f258_16 : mFetch 258 16 = some (.iaload, 1, 0, 0, 0, 0) := by decide +kernel
theorem f258_17 : mFetch 258 17 = some (.iload_n 2, 1, 0, 0, 0, 0) := by decide +kernel
theorem f258_18 : mFetch 258 18 = some (.iadd, 1, 0, 0, 0, 0) := by decide +kernel
theorem f258_19 : mFetch 258 19 = some (.bipush 15, 2, 0, 0, 0, 0) := by decide +kernel
theorem f258_21 : mFetch 258 21 = some (.if_icmp .ge 17, 3, 38, 0, 0, 0) := by decide +kernel
theorem f258_24 : mFetch 258 24 = some (.aload_n 0, 1, 0, 0, 0, 0) := by decide +kernel
theorem f258_25 : mFetch 258 25 = some (.getfield 39, 3, 12, 20, 2, 1) := by decide +kernel
theorem f258_28 : mFetch 258 28 = some (.bipush 6, 2, 0, 0, 0, 0) := by decide +kernel
theorem f258_30 : mFetch 258 30 = some (.iload_n 1, 1, 0, 0, 0, 0) := by decide +kernel
theorem f258_31 : mFetch 258 31 = some (.iadd, 1, 0, 0, 0, 0) := by decide +kernel
theorem f258_32 : mFetch 258 32 = some (.iaload, 1, 0, 0, 0, 0) := by decide +kernel
theorem f258_33 : mFetch 258 33 = some (.iload_n 2, 1, 0, 0, 0, 0) := by decide +kernel
theorem f258_34 : mFetch 258 34 = some (.iadd, 1, 0, 0, 0, 0) := by decide +kernel
theorem f258_35 : mFetch 258 35 = some (.goto 5, 3, 40, 0, 0, 0) := by decide +kernel
theorem f258_38 : mFetch 258 38 = some (.bipush 15, 2, 0, 0, 0, 0) := by decide +kernel
theorem f258_40 : mFetch 258 40 = some (.iastore, 1, 0, 0, 0, 0) := by decide +kernel
theorem f258_41 : mFetch 258 41 = some (.iconst 0, 1, 0, 0, 0, 0) := by decide +kernel
theorem f258_42 : mFetch 258 42 = some (.istore_n 3, 1, 0, 0, 0, 0) := by decide +kernel
theorem f258_43 : mFetch 258 43 = some (.iload_n 3, 1, 0, 0, 0, 0) := by decide +kernel
theorem f258_44 : mFetch 258 44 = some (.aload_n 0, 1, 0, 0, 0, 0) := by decide +kernel
theorem f258_45 : mFetch 258 45 = some (.getfield 39, 3, 12, 20, 2, 1) := by decide +kernel
theorem f258_48 : mFetch 258 48 = some (.iconst 4, 1, 0, 0, 0, 0) := by decide +kernel
theorem f258_49 : mFetch 258 49 = some (.iaload, 1, 0, 0, 0, 0) := by decide +kernel
theorem f258_50 : mFetch 258 50 = some (.if_icmp .ge 23, 3, 73, 0, 0, 0) := by decide +kernel
theorem f258_53 : mFetch 258 53 = some (.aload_n 0, 1, 0, 0, 0, 0) := by decide +kernel
theorem f258_54 : mFetch 258 54 = some (.iload_n 3, 1, 0, 0, 0, 0) := by decide +kernel
theorem f258_55 : mFetch 258 55 = some (.iload_n 1, 1, 0, 0, 0, 0) := by decide +kernel
theorem f258_56 : mFetch 258 56 = some (.invokevirtual 321, 3, 217, 0, 3, 12) := by decide +kernel
theorem f258_59 : mFetch 258 59 = some (.ifCond .eq 8, 3, 67, 0, 0, 0) := by decide +kernel
theorem f258_62 : mFetch 258 62 = some (.aload_n 0, 1, 0, 0, 0, 0) := by decide +kernel
theorem f258_63 : mFetch 258 63 = some (.iload_n 3, 1, 0, 0, 0, 0) := by decide +kernel
theorem f258_64 : mFetch 258 64 = some (.invokevirtual 458, 3, 246, 0, 2, 12) := by decide +kernel
theorem f258_67 : mFetch 258 67 = some (.iinc 3 1, 3, 0, 0, 0, 0) := by decide +kernel
theorem f258_70 : mFetch 258 70 = some (.goto (-27), 3, 43, 0, 0, 0) := by decide +kernel
theorem f258_73 : mFetch 258 73 = some (.return_, 1, 0, 0, 0, 0) := by decide +kernel
theorem b258_0 {X : (Nat → Int) × Nat} {d : Nat} {s : mSt} {Q : mQ} {x1 : Int} {x2 : Int} (h_1 : 0 ≤ (w32 (6 + x1)) ∧ (w32 (6 + x1)) < 166) (h_2 : 15 ≤ (w32 ((s 417 (w32 (6 + x1)).toNat) + x2)) → Wp X d 258 38 [some (mR 407), some (mI x1), some (mI x2), none] [mI (w32 (6 + x1)), mR 417] s Q) (h_3 : ¬ 15 ≤ (w32 ((s 417 (w32 (6 + x1)).toNat) + x2)) → Wp X d 258 24 [some (mR 407), some (mI x1), some (mI x2), none] [mI (w32 (6 + x1)), mR 417] s Q) : Wp X d 258 0 [some (mR 407), some (mI x1), some (mI x2), none] [] s Q := Wp_step k258 f258_0 (Wp_step k258 f258_1 ⟨kf_407, 417, rf_407_20, Wp_step k258 f258_4 (Wp_step k258 f258_6 (Wp_step k258 f258_7 (Wp_step k258 f258_8 (Wp_step k258 f258_9 ⟨kf_407, 417, rf_407_20, Wp_step k258 f258_12 (Wp_step k258 f258_14 (Wp_step k258 f258_15 (Wp_step k258 f258_16 ⟨166, af_417, h_1, Wp_step k258 f258_17 (Wp_step k258 f258_18 (Wp_step k258 f258_19 (Wp_step k258 f258_21 ⟨h_2, h_3⟩)))⟩)))⟩))))⟩)
theorem b258_24 {X : (Nat → Int) × Nat} {d : Nat} {s : mSt} {Q : mQ} {x1 : Int} {x2 : Int} {xt1 : Int} (h_1 : 0 ≤ (w32 (6 + x1)) ∧ (w32 (6 + x1)) < 166) (h_2 : Wp X d 258 40 [some (mR 407), some (mI x1), some (mI x2), none] [mI (w32 ((s 417 (w32 (6 + x1)).toNat) + x2)), mI xt1, mR 417] s Q) : Wp X d 258 24 [some (mR 407), some (mI x1), some (mI x2), none] [mI xt1, mR 417] s Q := Wp_step k258 f258_24 (Wp_step k258 f258_25 ⟨kf_407, 417, rf_407_20, Wp_step k258 f258_28 (Wp_step k258 f258_30 (Wp_step k258 f258_31 (Wp_step k258 f258_32 ⟨166, af_417, h_1, Wp_step k258 f258_33 (Wp_step k258 f258_34 (Wp_step k258 f258_35 (h_2)))⟩)))⟩)
theorem b258_38 {X : (Nat → Int) × Nat} {d : Nat} {s : mSt} {Q : mQ} {x1 : Int} {x2 : Int} {xt1 : Int} (h_1 : Wp X d 258 40 [some (mR 407), some (mI x1), some (mI x2), none] [mI 15, mI xt1, mR 417] s Q) : Wp X d 258 38 [some (mR 407), some (mI x1), some (mI x2), none] [mI xt1, mR 417] s Q := Wp_step k258 f258_38 (h_1)
theorem b258_40 {X : (Nat → Int) × Nat} {d : Nat} {s : mSt} {Q : mQ} {x1 : Int} {x2 : Int} {xt1 : Int} {xt2 : Int} (h_1 : 0 ≤ xt1 ∧ xt1 < 166) (h_2 : Wp X d 258 43 [some (mR 407), some (mI x1), some (mI x2), some (mI 0)] [] (uS s 417 xt1.toNat xt2) Q) : Wp X d 258 40 [some (mR 407), some (mI x1), some (mI x2), none] [mI xt2, mI xt1, mR 417] s Q := Wp_step k258 f258_40 ⟨166, af_417, h_1, Wp_step k258 f258_41 (Wp_step k258 f258_42 (h_2))⟩
theorem b258_43 {X : (Nat → Int) × Nat} {d : Nat} {s : mSt} {Q : mQ} {x1 : Int} {x2 : Int} {x3 : Int} (h_1 : (s 417 4) ≤ x3 → Wp X d 258 73 [some (mR 407), some (mI x1), some (mI x2), some (mI x3)] [] s Q) (h_2 : ¬ (s 417 4) ≤ x3 → Wp X d 258 53 [some (mR 407), some (mI x1), some (mI x2), some (mI x3)] [] s Q) : Wp X d 258 43 [some (mR 407), some (mI x1), some (mI x2), some (mI x3)] [] s Q := Wp_step k258 f258_43 (Wp_step k258 f258_44 (Wp_step k258 f258_45 ⟨kf_407, 417, rf_407_20, Wp_step k258 f258_48 (Wp_step k258 f258_49 ⟨166, af_417, ⟨by decide, by decide⟩, Wp_step k258 f258_50 ⟨h_1, h_2⟩⟩)⟩))
theorem b258_53 {X : (Nat → Int) × Nat} {d : Nat} {s : mSt} {Q : mQ} {x1 : Int} {x2 : Int} {x3 : Int} (h_1 : Sp X d 217 [mR 407, mI x3, mI x1] s (fun r s' => ∃ v : Int, r = some (mI v) ∧ Wp X (d + 1) 258 59 [some (mR 407), some (mI x1), some (mI x2), some (mI x3)] [mI v] s' Q)) : Wp X (d + 1) 258 53 [some (mR 407), some (mI x1), some (mI x2), some (mI x3)] [] s Q := Wp_step k258 f258_53 (Wp_step k258 f258_54 (Wp_step k258 f258_55 (Wp_step k258 f258_56 ⟨⟨kf_407, Nat.le_of_ble_eq_true rfl⟩, Nat.le_refl _, _, rfl, Sp_E h_1⟩)))
theorem b258_59 {X : (Nat → Int) × Nat} {d : Nat} {s : mSt} {Q : mQ} {x1 : Int} {x2 : Int} {x3 : Int} {xt0 : Int} (h_1 : xt0 = 0 → Wp X d 258 67 [some (mR 407), some (mI x1), some (mI x2), some (mI x3)] [] s Q) (h_2 : ¬ xt0 = 0 → Wp X d 258 62 [some (mR 407), some (mI x1), some (mI x2), some (mI x3)] [] s Q) : Wp X d 258 59 [some (mR 407), some (mI x1), some (mI x2), some (mI x3)] [mI xt0] s Q := Wp_step k258 f258_59 ⟨h_1, h_2⟩
theorem b258_62 {X : (Nat → Int) × Nat} {d : Nat} {s : mSt} {Q : mQ} {x1 : Int} {x2 : Int} {x3 : Int} (h_1 : Sp X d 246 [mR 407, mI x3] s (fun r s' => r = none ∧ Wp X (d + 1) 258 67 [some (mR 407), some (mI x1), some (mI x2), some (mI x3)] [] s' Q)) : Wp X (d + 1) 258 62 [some (mR 407), some (mI x1), some (mI x2), some (mI x3)] [] s Q := Wp_step k258 f258_62 (Wp_step k258 f258_63 (Wp_step k258 f258_64 ⟨⟨kf_407, Nat.le_of_ble_eq_true rfl⟩, Nat.le_refl _, _, rfl, Sp_V h_1⟩))
theorem b258_67 {X : (Nat → Int) × Nat} {d : Nat} {s : mSt} {Q : mQ} {x1 : Int} {x2 : Int} {x3 : Int} (h_1 : Wp X d 258 43 [some (mR 407), some (mI x1), some (mI x2), some (mI (w32 (x3 + 1)))] [] s Q) : Wp X d 258 67 [some (mR 407), some (mI x1), some (mI x2), some (mI x3)] [] s Q := Wp_step k258 f258_67 (Wp_step k258 f258_70 (h_1))
theorem b258_73 {X : (Nat → Int) × Nat} {d : Nat} {s : mSt} {Q : mQ} {x1 : Int} {x2 : Int} {x3 : Int} (h_1 : Q none s) : Wp X d 258 73 [some (mR 407), some (mI x1), some (mI x2), some (mI x3)] [] s Q := Wp_step k258 f258_73 ⟨⟨rfl, Or.inl rfl⟩, h_1⟩
theorem e258 {X : (Nat → Int) × Nat} {d : Nat} {s : mSt} {Q : mQ} {x1 : Int} {x2 : Int} (h : Wp X d 258 0 [some (mR 407), some (mI x1), some (mI x2), none] [] s Q) : Sp X d 258 [mR 407, mI x1, mI x2] s Q := Sp_of (show mCe 258 = 0 by decide +kernel) (by rw [show mML 258 = 4 by decide +kernel]; rfl) (Nat.le_trans (Nat.le_of_ble_eq_true (show Nat.ble (mArgs _).length 4 = true from rfl)) (show 4 ≤ mML 258 by decide +kernel)) h
-- 259 ClashDayModel.delay(II)I
theorem k259 : mRk 259 = 1 := by decide +kernel
theorem f259_0 : mFetch 259 0 = some (.aload_n 0, 1, 0, 0, 0, 0) := by decide +kernel
theorem f259_1 : mFetch 259 1 = some (.iload_n 1, 1, 0, 0, 0, 0) := by decide +kernel
theorem f259_2 : mFetch 259 2 = some (.invokevirtual 349, 3, 213, 0, 2, 12) := by decide +kernel
theorem f259_5 : mFetch 259 5 = some (.ifCond .eq 29, 3, 34, 0, 0, 0) := by decide +kernel
theorem f259_8 : mFetch 259 8 = some (.iload_n 2, 1, 0, 0, 0, 0) := by decide +kernel
theorem f259_9 : mFetch 259 9 = some (.i2l, 1, 0, 0, 0, 0) := by decide +kernel
theorem f259_10 : mFetch 259 10 = some (.lconst 1, 1, 0, 0, 0, 0) := by decide +kernel
theorem f259_11 : mFetch 259 11 = some (.ldc2_w 461, 3, 9, 0, 0, 0) := by decide +kernel
theorem f259_14 : mFetch 259 14 = some (.invokestatic 151, 3, 167, 0, 3, 99) := by decide +kernel
theorem f259_17 : mFetch 259 17 = some (.ifCond .eq 17, 3, 34, 0, 0, 0) := by decide +kernel
theorem f259_20 : mFetch 259 20 = some (.aload_n 0, 1, 0, 0, 0, 0) := by decide +kernel
theorem f259_21 : mFetch 259 21 = some (.getfield 39, 3, 12, 20, 2, 1) := by decide +kernel
theorem f259_24 : mFetch 259 24 = some (.bipush 6, 2, 0, 0, 0, 0) := by decide +kernel
theorem f259_26 : mFetch 259 26 = some (.iload_n 1, 1, 0, 0, 0, 0) := by decide +kernel
theorem f259_27 : mFetch 259 27 = some (.iadd, 1, 0, 0, 0, 0) := by decide +kernel
theorem f259_28 : mFetch 259 28 = some (.iaload, 1, 0, 0, 0, 0) := by decide +kernel
theorem f259_29 : mFetch 259 29 = some (.bipush 15, 2, 0, 0, 0, 0) := by decide +kernel
theorem f259_31 : mFetch 259 31 = some (.if_icmp .ne 5, 3, 36, 0, 0, 0) := by decide +kernel
theorem f259_34 : mFetch 259 34 = some (.iconst (-1), 1, 0, 0, 0, 0) := by decide +kernel
theorem f259_35 : mFetch 259 35 = some (.ireturn, 1, 0, 0, 0, 0) := by decide +kernel
theorem f259_36 : mFetch 259 36 = some (.aload_n 0, 1, 0, 0, 0, 0) := by decide +kernel
theorem f259_37 : mFetch 259 37 = some (.invokevirtual 455, 3, 253, 0, 1, 12) := by decide +kernel
theorem f259_40 : mFetch 259 40 = some (.aload_n 0, 1, 0, 0, 0, 0) := by decide +kernel
theorem f259_41 : mFetch 259 41 = some (.iload_n 1, 1, 0, 0, 0, 0) := by decide +kernel
theorem f259_42 : mFetch 259 42 = some (.iload_n 2, 1, 0, 0, 0, 0) := by decide +kernel
theorem f259_43 : mFetch 259 43 = some (.invokevirtual 463, 3, 258, 0, 3, 12) := by decide +kernel
theorem f259_46 : mFetch 259 46 = some (.aload_n 0, 1, 0, 0, 0, 0) := by decide +kernel
theorem f259_47 : mFetch 259 47 = some (.getfield 39, 3, 12, 20, 2, 1) := by decide +kernel
theorem f259_50 : mFetch 259 50 = some (.bipush 6, 2, 0, 0, 0, 0) := by decide +kernel
theorem f259_52 : mFetch 259 52 = some (.iload_n 1, 1, 0, 0, 0, 0) := by decide +kernel
theorem f259_53 : mFetch 259 53 = some (.iadd, 1, 0, 0, 0, 0) := by decide +kernel
theorem f259_54 : mFetch 259 54 = some (.iaload, 1, 0, 0, 0, 0) := by decide +kernel
theorem f259_55 : mFetch 259 55 = some (.ireturn, 1, 0, 0, 0, 0) := by decide +kernel
theorem b259_0 {X : (Nat → Int) × Nat} {d : Nat} {s : mSt} {Q : mQ} {x1 : Int} {x2 : Int} (h_1 : Sp X d 213 [mR 407, mI x1] s (fun r s' => ∃ v : Int, r = some (mI v) ∧ Wp X (d + 1) 259 5 [some (mR 407), some (mI x1), some (mI x2)] [mI v] s' Q)) : Wp X (d + 1) 259 0 [some (mR 407), some (mI x1), some (mI x2)] [] s Q := Wp_step k259 f259_0 (Wp_step k259 f259_1 (Wp_step k259 f259_2 ⟨⟨kf_407, Nat.le_of_ble_eq_true rfl⟩, Nat.le_refl _, _, rfl, Sp_E h_1⟩))
theorem b259_5 {X : (Nat → Int) × Nat} {d : Nat} {s : mSt} {Q : mQ} {x1 : Int} {x2 : Int} {xt0 : Int} (h_1 : xt0 = 0 → Wp X d 259 34 [some (mR 407), some (mI x1), some (mI x2)] [] s Q) (h_2 : ¬ xt0 = 0 → Wp X d 259 8 [some (mR 407), some (mI x1), some (mI x2)] [] s Q) : Wp X d 259 5 [some (mR 407), some (mI x1), some (mI x2)] [mI xt0] s Q := Wp_step k259 f259_5 ⟨h_1, h_2⟩
theorem b259_8 {X : (Nat → Int) × Nat} {d : Nat} {s : mSt} {Q : mQ} {x1 : Int} {x2 : Int} (h_1 : Sp X d 167 [mJ x2, mJ 1, mJ 9] s (fun r s' => ∃ v : Int, r = some (mI v) ∧ Wp X (d + 1) 259 17 [some (mR 407), some (mI x1), some (mI x2)] [mI v] s' Q)) : Wp X (d + 1) 259 8 [some (mR 407), some (mI x1), some (mI x2)] [] s Q := Wp_step k259 f259_8 (Wp_step k259 f259_9 (Wp_step k259 f259_10 (Wp_step k259 f259_11 (Wp_step k259 f259_14 ⟨⟨Nat.le_of_ble_eq_true rfl, Nat.le_refl _⟩, _, rfl, Sp_E h_1⟩))))
theorem b259_17 {X : (Nat → Int) × Nat} {d : Nat} {s : mSt} {Q : mQ} {x1 : Int} {x2 : Int} {xt0 : Int} (h_1 : xt0 = 0 → Wp X d 259 34 [some (mR 407), some (mI x1), some (mI x2)] [] s Q) (h_2 : ¬ xt0 = 0 → Wp X d 259 20 [some (mR 407), some (mI x1), some (mI x2)] [] s Q) : Wp X d 259 17 [some (mR 407), some (mI x1), some (mI x2)] [mI xt0] s Q := Wp_step k259 f259_17 ⟨h_1, h_2⟩
theorem b259_20 {X : (Nat → Int) × Nat} {d : Nat} {s : mSt} {Q : mQ} {x1 : Int} {x2 : Int} (h_1 : 0 ≤ (w32 (6 + x1)) ∧ (w32 (6 + x1)) < 166) (h_2 : ¬ (s 417 (w32 (6 + x1)).toNat) = 15 → Wp X d 259 36 [some (mR 407), some (mI x1), some (mI x2)] [] s Q) (h_3 : (s 417 (w32 (6 + x1)).toNat) = 15 → Wp X d 259 34 [some (mR 407), some (mI x1), some (mI x2)] [] s Q) : Wp X d 259 20 [some (mR 407), some (mI x1), some (mI x2)] [] s Q := Wp_step k259 f259_20 (Wp_step k259 f259_21 ⟨kf_407, 417, rf_407_20, Wp_step k259 f259_24 (Wp_step k259 f259_26 (Wp_step k259 f259_27 (Wp_step k259 f259_28 ⟨166, af_417, h_1, Wp_step k259 f259_29 (Wp_step k259 f259_31 ⟨h_2, h_3⟩)⟩)))⟩)
theorem b259_34 {X : (Nat → Int) × Nat} {d : Nat} {s : mSt} {Q : mQ} {x1 : Int} {x2 : Int} (h_1 : Q (some (mI (-1))) s) : Wp X d 259 34 [some (mR 407), some (mI x1), some (mI x2)] [] s Q := Wp_step k259 f259_34 (Wp_step k259 f259_35 ⟨⟨rfl, trivial⟩, h_1⟩)
theorem b259_36 {X : (Nat → Int) × Nat} {d : Nat} {s : mSt} {Q : mQ} {x1 : Int} {x2 : Int} (h_1 : Sp X d 253 [mR 407] s (fun r s' => r = none ∧ Wp X (d + 1) 259 40 [some (mR 407), some (mI x1), some (mI x2)] [] s' Q)) : Wp X (d + 1) 259 36 [some (mR 407), some (mI x1), some (mI x2)] [] s Q := Wp_step k259 f259_36 (Wp_step k259 f259_37 ⟨⟨kf_407, Nat.le_of_ble_eq_true rfl⟩, Nat.le_refl _, _, rfl, Sp_V h_1⟩)
theorem b259_40 {X : (Nat → Int) × Nat} {d : Nat} {s : mSt} {Q : mQ} {x1 : Int} {x2 : Int} (h_1 : Sp X d 258 [mR 407, mI x1, mI x2] s (fun r s' => r = none ∧ Wp X (d + 1) 259 46 [some (mR 407), some (mI x1), some (mI x2)] [] s' Q)) : Wp X (d + 1) 259 40 [some (mR 407), some (mI x1), some (mI x2)] [] s Q := Wp_step k259 f259_40 (Wp_step k259 f259_41 (Wp_step k259 f259_42 (Wp_step k259 f259_43 ⟨⟨kf_407, Nat.le_of_ble_eq_true rfl⟩, Nat.le_refl _, _, rfl, Sp_V h_1⟩)))
theorem b259_46 {X : (Nat → Int) × Nat} {d : Nat} {s : mSt} {Q : mQ} {x1 : Int} {x2 : Int} (h_1 : 0 ≤ (w32 (6 + x1)) ∧ (w32 (6 + x1)) < 166) (h_2 : Q (some (mI (s 417 (w32 (6 + x1)).toNat))) s) : Wp X d 259 46 [some (mR 407), some (mI x1), some (mI x2)] [] s Q := Wp_step k259 f259_46 (Wp_step k259 f259_47 ⟨kf_407, 417, rf_407_20, Wp_step k259 f259_50 (Wp_step k259 f259_52 (Wp_step k259 f259_53 (Wp_step k259 f259_54 ⟨166, af_417, h_1, Wp_step k259 f259_55 ⟨⟨rfl, trivial⟩, h_2⟩⟩)))⟩)
theorem e259 {X : (Nat → Int) × Nat} {d : Nat} {s : mSt} {Q : mQ} {x1 : Int} {x2 : Int} (h : Wp X d 259 0 [some (mR 407), some (mI x1), some (mI x2)] [] s Q) : Sp X d 259 [mR 407, mI x1, mI x2] s Q := Sp_of (show mCe 259 = 0 by decide +kernel) (by rw [show mML 259 = 3 by decide +kernel]; rfl) (Nat.le_trans (Nat.le_of_ble_eq_true (show Nat.ble (mArgs _).length 3 = true from rfl)) (show 3 ≤ mML 259 by decide +kernel)) h
-- 260 ClashDayModel.take(II)I
theorem k260 : mRk 260 = 1 := by decide +kernel
theorem f260_0 : mFetch 260 0 = some (.aload_n 0, 1, 0, 0, 0, 0) := by decide +kernel
theorem f260_1 : mFetch 260 1 = some (.invokevirtual 354, 3, 212, 0, 1, 12) := by decide +kernel
theorem f260_4 : mFetch 260 4 = some (.ifCond .eq 40, 3, 44, 0, 0, 0) := by decide +kernel
theorem f260_7 : mFetch 260 7 = some (.iload_n 1, 1, 0, 0, 0, 0) := by decide +kernel
theorem f260_8 : mFetch 260 8 = some (.i2l, 1, 0, 0, 0, 0) := by decide +kernel
theorem f260_9 : mFetch 260 9 = some (.lconst 0, 1, 0, 0, 0, 0) := by decide +kernel
theorem f260_10 : mFetch 260 10 = some (.ldc2_w 357, 3, 29, 0, 0, 0) := by decide +kernel
theorem f260_13 : mFetch 260 13 = some (.invokestatic 151, 3, 167, 0, 3, 99) := by decide +kernel
theorem f260_16 : mFetch 260 16 = some (.ifCond .eq 28, 3, 44, 0, 0, 0) := by decide +kernel
theorem f260_19 : mFetch 260 19 = some (.iload_n 2, 1, 0, 0, 0, 0) := by decide +kernel
theorem f260_20 : mFetch 260 20 = some (.i2l, 1, 0, 0, 0, 0) := by decide +kernel
theorem f260_21 : mFetch 260 21 = some (.lconst 0, 1, 0, 0, 0, 0) := by decide +kernel
theorem f260_22 : mFetch 260 22 = some (.ldc2_w 461, 3, 9, 0, 0, 0) := by decide +kernel
theorem f260_25 : mFetch 260 25 = some (.invokestatic 151, 3, 167, 0, 3, 99) := by decide +kernel
theorem f260_28 : mFetch 260 28 = some (.ifCond .eq 16, 3, 44, 0, 0, 0) := by decide +kernel
theorem f260_31 : mFetch 260 31 = some (.aload_n 0, 1, 0, 0, 0, 0) := by decide +kernel
theorem f260_32 : mFetch 260 32 = some (.getfield 39, 3, 12, 20, 2, 1) := by decide +kernel
theorem f260_35 : mFetch 260 35 = some (.bipush 11, 2, 0, 0, 0, 0) := by decide +kernel
theorem f260_37 : mFetch 260 37 = some (.iload_n 1, 1, 0, 0, 0, 0) := by decide +kernel
theorem f260_38 : mFetch 260 38 = some (.iadd, 1, 0, 0, 0, 0) := by decide +kernel
theorem f260_39 : mFetch 260 39 = some (.iaload, 1, 0, 0, 0, 0) := by decide +kernel
theorem f260_40 : mFetch 260 40 = some (.iload_n 2, 1, 0, 0, 0, 0) := by decide +kernel
theorem f260_41 : mFetch 260 41 = some (.if_icmp .ne 5, 3, 46, 0, 0, 0) := by decide +kernel
theorem f260_44 : mFetch 260 44 = some (.iconst (-1), 1, 0, 0, 0, 0) := by decide +kernel
theorem f260_45 : mFetch 260 45 = some (.ireturn, 1, 0, 0, 0, 0) := by decide +kernel
theorem f260_46 : mFetch 260 46 = some (.aload_n 0, 1, 0, 0, 0, 0) := by decide +kernel
theorem f260_47 : mFetch 260 47 = some (.invokevirtual 455, 3, 253, 0, 1, 12) := by decide +kernel
theorem f260_50 : mFetch 260 50 = some (.aload_n 0, 1, 0, 0, 0, 0) := by decide +kernel
theorem f260_51 : mFetch 260 51 = some (.getfield 39, 3, 12, 20, 2, 1) := by decide +kernel
theorem f260_54 : mFetch 260 54 = some (.bipush 11, 2, 0, 0, 0, 0) := by decide +kernel
theorem f260_56 : mFetch 260 56 = some (.iload_n 1, 1, 0, 0, 0, 0) := by decide +kernel
theorem f260_57 : mFetch 260 57 = some (.iadd, 1, 0, 0, 0, 0) := by decide +kernel
theorem f260_58 : mFetch 260 58 = some (.iaload, 1, 0, 0, 0, 0) := by decide +kernel
theorem f260_59 : mFetch 260 59 = some (.istore_n 3, 1, 0, 0, 0, 0) := by decide +kernel
theorem f260_60 : mFetch 260 60 = some (.aload_n 0, 1, 0, 0, 0, 0) := by decide +kernel
theorem f260_61 : mFetch 260 61 = some (.getfield 39, 3, 12, 20, 2, 1) := by decide +kernel
theorem f260_64 : mFetch 260 64 = some (.bipush 11, 2, 0, 0, 0, 0) := by decide +kernel
theorem f260_66 : mFetch 260 66 = some (.iload_n 1, 1, 0, 0, 0, 0) := by decide +kernel
theorem f260_67 : mFetch 260 67 = some (.iadd, 1, 0, 0, 0, 0) := by decide +kernel
theorem f260_68 : mFetch 260 68 = some (.iload_n 2, 1, 0, 0, 0, 0) := by decide +kernel
theorem f260_69 : mFetch 260 69 = some (.iastore, 1, 0, 0, 0, 0) := by decide +kernel
theorem f260_70 : mFetch 260 70 = some (.iload_n 3, 1, 0, 0, 0, 0) := by decide +kernel
theorem f260_71 : mFetch 260 71 = some (.ireturn, 1, 0, 0, 0, 0) := by decide +kernel
theorem b260_0 {X : (Nat → Int) × Nat} {d : Nat} {s : mSt} {Q : mQ} {x1 : Int} {x2 : Int} (h_1 : Sp X d 212 [mR 407] s (fun r s' => ∃ v : Int, r = some (mI v) ∧ Wp X (d + 1) 260 4 [some (mR 407), some (mI x1), some (mI x2), none] [mI v] s' Q)) : Wp X (d + 1) 260 0 [some (mR 407), some (mI x1), some (mI x2), none] [] s Q := Wp_step k260 f260_0 (Wp_step k260 f260_1 ⟨⟨kf_407, Nat.le_of_ble_eq_true rfl⟩, Nat.le_refl _, _, rfl, Sp_E h_1⟩)
theorem b260_4 {X : (Nat → Int) × Nat} {d : Nat} {s : mSt} {Q : mQ} {x1 : Int} {x2 : Int} {xt0 : Int} (h_1 : xt0 = 0 → Wp X d 260 44 [some (mR 407), some (mI x1), some (mI x2), none] [] s Q) (h_2 : ¬ xt0 = 0 → Wp X d 260 7 [some (mR 407), some (mI x1), some (mI x2), none] [] s Q) : Wp X d 260 4 [some (mR 407), some (mI x1), some (mI x2), none] [mI xt0] s Q := Wp_step k260 f260_4 ⟨h_1, h_2⟩
theorem b260_7 {X : (Nat → Int) × Nat} {d : Nat} {s : mSt} {Q : mQ} {x1 : Int} {x2 : Int} (h_1 : Sp X d 167 [mJ x1, mJ 0, mJ 29] s (fun r s' => ∃ v : Int, r = some (mI v) ∧ Wp X (d + 1) 260 16 [some (mR 407), some (mI x1), some (mI x2), none] [mI v] s' Q)) : Wp X (d + 1) 260 7 [some (mR 407), some (mI x1), some (mI x2), none] [] s Q := Wp_step k260 f260_7 (Wp_step k260 f260_8 (Wp_step k260 f260_9 (Wp_step k260 f260_10 (Wp_step k260 f260_13 ⟨⟨Nat.le_of_ble_eq_true rfl, Nat.le_refl _⟩, _, rfl, Sp_E h_1⟩))))
theorem b260_16 {X : (Nat → Int) × Nat} {d : Nat} {s : mSt} {Q : mQ} {x1 : Int} {x2 : Int} {xt0 : Int} (h_1 : xt0 = 0 → Wp X d 260 44 [some (mR 407), some (mI x1), some (mI x2), none] [] s Q) (h_2 : ¬ xt0 = 0 → Wp X d 260 19 [some (mR 407), some (mI x1), some (mI x2), none] [] s Q) : Wp X d 260 16 [some (mR 407), some (mI x1), some (mI x2), none] [mI xt0] s Q := Wp_step k260 f260_16 ⟨h_1, h_2⟩
theorem b260_19 {X : (Nat → Int) × Nat} {d : Nat} {s : mSt} {Q : mQ} {x1 : Int} {x2 : Int} (h_1 : Sp X d 167 [mJ x2, mJ 0, mJ 9] s (fun r s' => ∃ v : Int, r = some (mI v) ∧ Wp X (d + 1) 260 28 [some (mR 407), some (mI x1), some (mI x2), none] [mI v] s' Q)) : Wp X (d + 1) 260 19 [some (mR 407), some (mI x1), some (mI x2), none] [] s Q := Wp_step k260 f260_19 (Wp_step k260 f260_20 (Wp_step k260 f260_21 (Wp_step k260 f260_22 (Wp_step k260 f260_25 ⟨⟨Nat.le_of_ble_eq_true rfl, Nat.le_refl _⟩, _, rfl, Sp_E h_1⟩))))
theorem b260_28 {X : (Nat → Int) × Nat} {d : Nat} {s : mSt} {Q : mQ} {x1 : Int} {x2 : Int} {xt0 : Int} (h_1 : xt0 = 0 → Wp X d 260 44 [some (mR 407), some (mI x1), some (mI x2), none] [] s Q) (h_2 : ¬ xt0 = 0 → Wp X d 260 31 [some (mR 407), some (mI x1), some (mI x2), none] [] s Q) : Wp X d 260 28 [some (mR 407), some (mI x1), some (mI x2), none] [mI xt0] s Q := Wp_step k260 f260_28 ⟨h_1, h_2⟩
theorem b260_31 {X : (Nat → Int) × Nat} {d : Nat} {s : mSt} {Q : mQ} {x1 : Int} {x2 : Int} (h_1 : 0 ≤ (w32 (11 + x1)) ∧ (w32 (11 + x1)) < 166) (h_2 : ¬ (s 417 (w32 (11 + x1)).toNat) = x2 → Wp X d 260 46 [some (mR 407), some (mI x1), some (mI x2), none] [] s Q) (h_3 : (s 417 (w32 (11 + x1)).toNat) = x2 → Wp X d 260 44 [some (mR 407), some (mI x1), some (mI x2), none] [] s Q) : Wp X d 260 31 [some (mR 407), some (mI x1), some (mI x2), none] [] s Q := Wp_step k260 f260_31 (Wp_step k260 f260_32 ⟨kf_407, 417, rf_407_20, Wp_step k260 f260_35 (Wp_step k260 f260_37 (Wp_step k260 f260_38 (Wp_step k260 f260_39 ⟨166, af_417, h_1, Wp_step k260 f260_40 (Wp_step k260 f260_41 ⟨h_2, h_3⟩)⟩)))⟩)
theorem b260_44 {X : (Nat → Int) × Nat} {d : Nat} {s : mSt} {Q : mQ} {x1 : Int} {x2 : Int} (h_1 : Q (some (mI (-1))) s) : Wp X d 260 44 [some (mR 407), some (mI x1), some (mI x2), none] [] s Q := Wp_step k260 f260_44 (Wp_step k260 f260_45 ⟨⟨rfl, trivial⟩, h_1⟩)
theorem b260_46 {X : (Nat → Int) × Nat} {d : Nat} {s : mSt} {Q : mQ} {x1 : Int} {x2 : Int} (h_1 : Sp X d 253 [mR 407] s (fun r s' => r = none ∧ Wp X (d + 1) 260 50 [some (mR 407), some (mI x1), some (mI x2), none] [] s' Q)) : Wp X (d + 1) 260 46 [some (mR 407), some (mI x1), some (mI x2), none] [] s Q := Wp_step k260 f260_46 (Wp_step k260 f260_47 ⟨⟨kf_407, Nat.le_of_ble_eq_true rfl⟩, Nat.le_refl _, _, rfl, Sp_V h_1⟩)
theorem b260_50 {X : (Nat → Int) × Nat} {d : Nat} {s : mSt} {Q : mQ} {x1 : Int} {x2 : Int} (h_1 : 0 ≤ (w32 (11 + x1)) ∧ (w32 (11 + x1)) < 166) (h_2 : 0 ≤ (w32 (11 + x1)) ∧ (w32 (11 + x1)) < 166) (h_3 : Q (some (mI (s 417 (w32 (11 + x1)).toNat))) (uS s 417 ((w32 (11 + x1)).toNat) x2)) : Wp X d 260 50 [some (mR 407), some (mI x1), some (mI x2), none] [] s Q := Wp_step k260 f260_50 (Wp_step k260 f260_51 ⟨kf_407, 417, rf_407_20, Wp_step k260 f260_54 (Wp_step k260 f260_56 (Wp_step k260 f260_57 (Wp_step k260 f260_58 ⟨166, af_417, h_1, Wp_step k260 f260_59 (Wp_step k260 f260_60 (Wp_step k260 f260_61 ⟨kf_407, 417, rf_407_20, Wp_step k260 f260_64 (Wp_step k260 f260_66 (Wp_step k260 f260_67 (Wp_step k260 f260_68 (Wp_step k260 f260_69 ⟨166, af_417, h_2, Wp_step k260 f260_70 (Wp_step k260 f260_71 ⟨⟨rfl, trivial⟩, h_3⟩)⟩))))⟩))⟩)))⟩)
theorem e260 {X : (Nat → Int) × Nat} {d : Nat} {s : mSt} {Q : mQ} {x1 : Int} {x2 : Int} (h : Wp X d 260 0 [some (mR 407), some (mI x1), some (mI x2), none] [] s Q) : Sp X d 260 [mR 407, mI x1, mI x2] s Q := Sp_of (show mCe 260 = 0 by decide +kernel) (by rw [show mML 260 = 4 by decide +kernel]; rfl) (Nat.le_trans (Nat.le_of_ble_eq_true (show Nat.ble (mArgs _).length 4 = true from rfl)) (show 4 ≤ mML 260 by decide +kernel)) h
-- 261 ClashDayModel.begins(II)I
theorem k261 : mRk 261 = 1 := by decide +kernel
theorem f261_0 : mFetch 261 0 = some (.aload_n 0, 1, 0, 0, 0, 0) := by decide +kernel
theorem f261_1 : mFetch 261 1 = some (.iload_n 1, 1, 0, 0, 0, 0) := by decide +kernel
theorem f261_2 : mFetch 261 2 = some (.invokevirtual 334, 3, 216, 0, 2, 12) := by decide +kernel
theorem f261_5 : mFetch 261 5 = some (.ifCond .eq 11, 3, 16, 0, 0, 0) := by decide +kernel
theorem f261_8 : mFetch 261 8 = some (.aload_n 0, 1, 0, 0, 0, 0) := by decide +kernel
theorem f261_9 : mFetch 261 9 = some (.iload_n 2, 1, 0, 0, 0, 0) := by decide +kernel
theorem f261_10 : mFetch 261 10 = some (.invokevirtual 349, 3, 213, 0, 2, 12) := by decide +kernel
theorem f261_13 : mFetch 261 13 = some (.ifCond .ne 5, 3, 18, 0, 0, 0) := by decide +kernel
theorem f261_16 : mFetch 261 16 = some (.iconst (-1), 1, 0, 0, 0, 0) := by decide +kernel
theorem f261_17 : mFetch 261 17 = some (.ireturn, 1, 0, 0, 0, 0) := by decide +kernel
theorem f261_18 : mFetch 261 18 = some (.aload_n 0, 1, 0, 0, 0, 0) := by decide +kernel
theorem f261_19 : mFetch 261 19 = some (.iload_n 1, 1, 0, 0, 0, 0) := by decide +kernel
theorem f261_20 : mFetch 261 20 = some (.iload_n 2, 1, 0, 0, 0, 0) := by decide +kernel
theorem f261_21 : mFetch 261 21 = some (.invokevirtual 321, 3, 217, 0, 3, 12) := by decide +kernel
theorem f261_24 : mFetch 261 24 = some (.ifCond .eq 12, 3, 36, 0, 0, 0) := by decide +kernel
theorem f261_27 : mFetch 261 27 = some (.aload_n 0, 1, 0, 0, 0, 0) := by decide +kernel
theorem f261_28 : mFetch 261 28 = some (.iload_n 1, 1, 0, 0, 0, 0) := by decide +kernel
theorem f261_29 : mFetch 261 29 = some (.iload_n 2, 1, 0, 0, 0, 0) := by decide +kernel
theorem f261_30 : mFetch 261 30 = some (.invokevirtual 331, 3, 218, 0, 3, 12) := by decide +kernel
theorem f261_33 : mFetch 261 33 = some (.goto 5, 3, 38, 0, 0, 0) := by decide +kernel
theorem f261_36 : mFetch 261 36 = some (.bipush (-2), 2, 0, 0, 0, 0) := by decide +kernel
theorem f261_38 : mFetch 261 38 = some (.ireturn, 1, 0, 0, 0, 0) := by decide +kernel
theorem b261_0 {X : (Nat → Int) × Nat} {d : Nat} {s : mSt} {Q : mQ} {x1 : Int} {x2 : Int} (h_1 : Sp X d 216 [mR 407, mI x1] s (fun r s' => ∃ v : Int, r = some (mI v) ∧ Wp X (d + 1) 261 5 [some (mR 407), some (mI x1), some (mI x2)] [mI v] s' Q)) : Wp X (d + 1) 261 0 [some (mR 407), some (mI x1), some (mI x2)] [] s Q := Wp_step k261 f261_0 (Wp_step k261 f261_1 (Wp_step k261 f261_2 ⟨⟨kf_407, Nat.le_of_ble_eq_true rfl⟩, Nat.le_refl _, _, rfl, Sp_E h_1⟩))
theorem b261_5 {X : (Nat → Int) × Nat} {d : Nat} {s : mSt} {Q : mQ} {x1 : Int} {x2 : Int} {xt0 : Int} (h_1 : xt0 = 0 → Wp X d 261 16 [some (mR 407), some (mI x1), some (mI x2)] [] s Q) (h_2 : ¬ xt0 = 0 → Wp X d 261 8 [some (mR 407), some (mI x1), some (mI x2)] [] s Q) : Wp X d 261 5 [some (mR 407), some (mI x1), some (mI x2)] [mI xt0] s Q := Wp_step k261 f261_5 ⟨h_1, h_2⟩
theorem b261_8 {X : (Nat → Int) × Nat} {d : Nat} {s : mSt} {Q : mQ} {x1 : Int} {x2 : Int} (h_1 : Sp X d 213 [mR 407, mI x2] s (fun r s' => ∃ v : Int, r = some (mI v) ∧ Wp X (d + 1) 261 13 [some (mR 407), some (mI x1), some (mI x2)] [mI v] s' Q)) : Wp X (d + 1) 261 8 [some (mR 407), some (mI x1), some (mI x2)] [] s Q := Wp_step k261 f261_8 (Wp_step k261 f261_9 (Wp_step k261 f261_10 ⟨⟨kf_407, Nat.le_of_ble_eq_true rfl⟩, Nat.le_refl _, _, rfl, Sp_E h_1⟩))
theorem b261_13 {X : (Nat → Int) × Nat} {d : Nat} {s : mSt} {Q : mQ} {x1 : Int} {x2 : Int} {xt0 : Int} (h_1 : ¬ xt0 = 0 → Wp X d 261 18 [some (mR 407), some (mI x1), some (mI x2)] [] s Q) (h_2 : xt0 = 0 → Wp X d 261 16 [some (mR 407), some (mI x1), some (mI x2)] [] s Q) : Wp X d 261 13 [some (mR 407), some (mI x1), some (mI x2)] [mI xt0] s Q := Wp_step k261 f261_13 ⟨h_1, h_2⟩
theorem b261_16 {X : (Nat → Int) × Nat} {d : Nat} {s : mSt} {Q : mQ} {x1 : Int} {x2 : Int} (h_1 : Q (some (mI (-1))) s) : Wp X d 261 16 [some (mR 407), some (mI x1), some (mI x2)] [] s Q := Wp_step k261 f261_16 (Wp_step k261 f261_17 ⟨⟨rfl, trivial⟩, h_1⟩)
theorem b261_18 {X : (Nat → Int) × Nat} {d : Nat} {s : mSt} {Q : mQ} {x1 : Int} {x2 : Int} (h_1 : Sp X d 217 [mR 407, mI x1, mI x2] s (fun r s' => ∃ v : Int, r = some (mI v) ∧ Wp X (d + 1) 261 24 [some (mR 407), some (mI x1), some (mI x2)] [mI v] s' Q)) : Wp X (d + 1) 261 18 [some (mR 407), some (mI x1), some (mI x2)] [] s Q := Wp_step k261 f261_18 (Wp_step k261 f261_19 (Wp_step k261 f261_20 (Wp_step k261 f261_21 ⟨⟨kf_407, Nat.le_of_ble_eq_true rfl⟩, Nat.le_refl _, _, rfl, Sp_E h_1⟩)))
theorem b261_24 {X : (Nat → Int) × Nat} {d : Nat} {s : mSt} {Q : mQ} {x1 : Int} {x2 : Int} {xt0 : Int} (h_1 : xt0 = 0 → Wp X d 261 36 [some (mR 407), some (mI x1), some (mI x2)] [] s Q) (h_2 : ¬ xt0 = 0 → Wp X d 261 27 [some (mR 407), some (mI x1), some (mI x2)] [] s Q) : Wp X d 261 24 [some (mR 407), some (mI x1), some (mI x2)] [mI xt0] s Q := Wp_step k261 f261_24 ⟨h_1, h_2⟩
theorem b261_27 {X : (Nat → Int) × Nat} {d : Nat} {s : mSt} {Q : mQ} {x1 : Int} {x2 : Int} (h_1 : Sp X d 218 [mR 407, mI x1, mI x2] s (fun r s' => ∃ v : Int, r = some (mI v) ∧ Wp X (d + 1) 261 33 [some (mR 407), some (mI x1), some (mI x2)] [mI v] s' Q)) : Wp X (d + 1) 261 27 [some (mR 407), some (mI x1), some (mI x2)] [] s Q := Wp_step k261 f261_27 (Wp_step k261 f261_28 (Wp_step k261 f261_29 (Wp_step k261 f261_30 ⟨⟨kf_407, Nat.le_of_ble_eq_true rfl⟩, Nat.le_refl _, _, rfl, Sp_E h_1⟩)))
theorem b261_33 {X : (Nat → Int) × Nat} {d : Nat} {s : mSt} {Q : mQ} {x1 : Int} {x2 : Int} {xt0 : Int} (h_1 : Wp X d 261 38 [some (mR 407), some (mI x1), some (mI x2)] [mI xt0] s Q) : Wp X d 261 33 [some (mR 407), some (mI x1), some (mI x2)] [mI xt0] s Q := Wp_step k261 f261_33 (h_1)
theorem b261_36 {X : (Nat → Int) × Nat} {d : Nat} {s : mSt} {Q : mQ} {x1 : Int} {x2 : Int} (h_1 : Wp X d 261 38 [some (mR 407), some (mI x1), some (mI x2)] [mI (-2)] s Q) : Wp X d 261 36 [some (mR 407), some (mI x1), some (mI x2)] [] s Q := Wp_step k261 f261_36 (h_1)
theorem b261_38 {X : (Nat → Int) × Nat} {d : Nat} {s : mSt} {Q : mQ} {x1 : Int} {x2 : Int} {xt0 : Int} (h_1 : Q (some (mI xt0)) s) : Wp X d 261 38 [some (mR 407), some (mI x1), some (mI x2)] [mI xt0] s Q := Wp_step k261 f261_38 ⟨⟨rfl, trivial⟩, h_1⟩
theorem e261 {X : (Nat → Int) × Nat} {d : Nat} {s : mSt} {Q : mQ} {x1 : Int} {x2 : Int} (h : Wp X d 261 0 [some (mR 407), some (mI x1), some (mI x2)] [] s Q) : Sp X d 261 [mR 407, mI x1, mI x2] s Q := Sp_of (show mCe 261 = 0 by decide +kernel) (by rw [show mML 261 = 3 by decide +kernel]; rfl) (Nat.le_trans (Nat.le_of_ble_eq_true (show Nat.ble (mArgs _).length 3 = true from rfl)) (show 3 ≤ mML 261 by decide +kernel)) h
-- 262 ClashDayModel.could(II)I
theorem k262 : mRk 262 = 1 := by decide +kernel
theorem f262_0 : mFetch 262 0 = some (.aload_n 0, 1, 0, 0, 0, 0) := by decide +kernel
theorem f262_1 : mFetch 262 1 = some (.iload_n 1, 1, 0, 0, 0, 0) := by decide +kernel
theorem f262_2 : mFetch 262 2 = some (.invokevirtual 328, 3, 215, 0, 2, 12) := by decide +kernel
theorem f262_5 : mFetch 262 5 = some (.ifCond .eq 15, 3, 20, 0, 0, 0) := by decide +kernel
theorem f262_8 : mFetch 262 8 = some (.iload_n 2, 1, 0, 0, 0, 0) := by decide +kernel
theorem f262_9 : mFetch 262 9 = some (.i2l, 1, 0, 0, 0, 0) := by decide +kernel
theorem f262_10 : mFetch 262 10 = some (.lconst 0, 1, 0, 0, 0, 0) := by decide +kernel
theorem f262_11 : mFetch 262 11 = some (.ldc2_w 466, 3, 7, 0, 0, 0) := by decide +kernel
theorem f262_14 : mFetch 262 14 = some (.invokestatic 151, 3, 167, 0, 3, 99) := by decide +kernel
theorem f262_17 : mFetch 262 17 = some (.ifCond .ne 6, 3, 23, 0, 0, 0) := by decide +kernel
theorem f262_20 : mFetch 262 20 = some (.bipush (-3), 2, 0, 0, 0, 0) := by decide +kernel
theorem f262_22 : mFetch 262 22 = some (.ireturn, 1, 0, 0, 0, 0) := by decide +kernel
theorem f262_23 : mFetch 262 23 = some (.aload_n 0, 1, 0, 0, 0, 0) := by decide +kernel
theorem f262_24 : mFetch 262 24 = some (.iload_n 1, 1, 0, 0, 0, 0) := by decide +kernel
theorem f262_25 : mFetch 262 25 = some (.invokevirtual 420, 3, 244, 0, 2, 12) := by decide +kernel
theorem f262_28 : mFetch 262 28 = some (.ifCond .ne 6, 3, 34, 0, 0, 0) := by decide +kernel
theorem f262_31 : mFetch 262 31 = some (.bipush (-2), 2, 0, 0, 0, 0) := by decide +kernel
theorem f262_33 : mFetch 262 33 = some (.ireturn, 1, 0, 0, 0, 0) := by decide +kernel
theorem f262_34 : mFetch 262 34 = some (.iload_n 2, 1, 0, 0, 0, 0) := by decide +kernel
theorem f262_35 : mFetch 262 35 = some (.iconst 2, 1, 0, 0, 0, 0) := by decide +kernel
theorem f262_36 : mFetch 262 36 = some (.if_icmp .le 15, 3, 51, 0, 0, 0) := by decide +kernel
theorem f262_39 : mFetch 262 39 = some (.aload_n 0, 1, 0, 0, 0, 0) := by decide +kernel
theorem f262_40 : mFetch 262 40 = some (.iload_n 2, 1, 0, 0, 0, 0) := by decide +kernel
theorem f262_41 : mFetch 262 41 = some (.iconst 3, 1, 0, 0, 0, 0) := by decide +kernel
theorem f262_42 : mFetch 262 42 = some (.isub, 1, 0, 0, 0, 0) := by decide +kernel
theorem f262_43 : mFetch 262 43 = some (.invokevirtual 349, 3, 213, 0, 2, 12) := by decide +kernel
theorem f262_46 : mFetch 262 46 = some (.ifCond .ne 5, 3, 51, 0, 0, 0) := by decide +kernel
theorem f262_49 : mFetch 262 49 = some (.iconst (-1), 1, 0, 0, 0, 0) := by decide +kernel
theorem f262_50 : mFetch 262 50 = some (.ireturn, 1, 0, 0, 0, 0) := by decide +kernel
theorem f262_51 : mFetch 262 51 = some (.iload_n 2, 1, 0, 0, 0, 0) := by decide +kernel
theorem f262_52 : mFetch 262 52 = some (.ifCond .ne 10, 3, 62, 0, 0, 0) := by decide +kernel
theorem f262_55 : mFetch 262 55 = some (.aload_n 0, 1, 0, 0, 0, 0) := by decide +kernel
theorem f262_56 : mFetch 262 56 = some (.getfield 396, 3, 12, 29, 0, 1) := by decide +kernel
theorem f262_59 : mFetch 262 59 = some (.goto 35, 3, 94, 0, 0, 0) := by decide +kernel
theorem f262_62 : mFetch 262 62 = some (.iload_n 2, 1, 0, 0, 0, 0) := by decide +kernel
theorem f262_63 : mFetch 262 63 = some (.iconst 1, 1, 0, 0, 0, 0) := by decide +kernel
theorem f262_64 : mFetch 262 64 = some (.if_icmp .ne 10, 3, 74, 0, 0, 0) := by decide +kernel
theorem f262_67 : mFetch 262 67 = some (.aload_n 0, 1, 0, 0, 0, 0) := by decide +kernel
theorem f262_68 : mFetch 262 68 = some (.getfield 399, 3, 12, 30, 0, 1) := by decide +kernel
theorem f262_71 : mFetch 262 71 = some (.goto 23, 3, 94, 0, 0, 0) := by decide +kernel
theorem f262_74 : mFetch 262 74 = some (.iload_n 2, 1, 0, 0, 0, 0) := by decide +kernel
theorem f262_75 : mFetch 262 75 = some (.iconst 2, 1, 0, 0, 0, 0) := by decide +kernel
theorem f262_76 : mFetch 262 76 = some (.if_icmp .ne 10, 3, 86, 0, 0, 0) := by decide +kernel
theorem f262_79 : mFetch 262 79 = some (.aload_n 0, 1, 0, 0, 0, 0) := by decide +kernel
theorem f262_80 : mFetch 262 80 = some (.getfield 402, 3, 12, 31, 0, 1) := by decide +kernel
theorem f262_83 : mFetch 262 83 = some (.goto 11, 3, 94, 0, 0, 0) := by decide +kernel
theorem f262_86 : mFetch 262 86 = some (.aload_n 0, 1, 0, 0, 0, 0) := by decide +kernel
theorem f262_87 : mFetch 262 87 = some (.getfield 58, 3, 12, 27, 2, 1) := by decide +kernel
theorem f262_90 : mFetch 262 90 = some (.iload_n 2, 1, 0, 0, 0, 0) := by decide +kernel
theorem f262_91 : mFetch 262 91 = some (.iconst 3, 1, 0, 0, 0, 0) := by decide +kernel
theorem f262_92 : mFetch 262 92 = some (.isub, 1, 0, 0, 0, 0) := by decide +kernel
theorem f262_93 : mFetch 262 93 = some (.iaload, 1, 0, 0, 0, 0) := by decide +kernel
theorem f262_94 : mFetch 262 94 = some (.ireturn, 1, 0, 0, 0, 0) := by decide +kernel
theorem b262_0 {X : (Nat → Int) × Nat} {d : Nat} {s : mSt} {Q : mQ} {x1 : Int} {x2 : Int} (h_1 : Sp X d 215 [mR 407, mI x1] s (fun r s' => ∃ v : Int, r = some (mI v) ∧ Wp X (d + 1) 262 5 [some (mR 407), some (mI x1), some (mI x2)] [mI v] s' Q)) : Wp X (d + 1) 262 0 [some (mR 407), some (mI x1), some (mI x2)] [] s Q := Wp_step k262 f262_0 (Wp_step k262 f262_1 (Wp_step k262 f262_2 ⟨⟨kf_407, Nat.le_of_ble_eq_true rfl⟩, Nat.le_refl _, _, rfl, Sp_E h_1⟩))
theorem b262_5 {X : (Nat → Int) × Nat} {d : Nat} {s : mSt} {Q : mQ} {x1 : Int} {x2 : Int} {xt0 : Int} (h_1 : xt0 = 0 → Wp X d 262 20 [some (mR 407), some (mI x1), some (mI x2)] [] s Q) (h_2 : ¬ xt0 = 0 → Wp X d 262 8 [some (mR 407), some (mI x1), some (mI x2)] [] s Q) : Wp X d 262 5 [some (mR 407), some (mI x1), some (mI x2)] [mI xt0] s Q := Wp_step k262 f262_5 ⟨h_1, h_2⟩
theorem b262_8 {X : (Nat → Int) × Nat} {d : Nat} {s : mSt} {Q : mQ} {x1 : Int} {x2 : Int} (h_1 : Sp X d 167 [mJ x2, mJ 0, mJ 7] s (fun r s' => ∃ v : Int, r = some (mI v) ∧ Wp X (d + 1) 262 17 [some (mR 407), some (mI x1), some (mI x2)] [mI v] s' Q)) : Wp X (d + 1) 262 8 [some (mR 407), some (mI x1), some (mI x2)] [] s Q := Wp_step k262 f262_8 (Wp_step k262 f262_9 (Wp_step k262 f262_10 (Wp_step k262 f262_11 (Wp_step k262 f262_14 ⟨⟨Nat.le_of_ble_eq_true rfl, Nat.le_refl _⟩, _, rfl, Sp_E h_1⟩))))
theorem b262_17 {X : (Nat → Int) × Nat} {d : Nat} {s : mSt} {Q : mQ} {x1 : Int} {x2 : Int} {xt0 : Int} (h_1 : ¬ xt0 = 0 → Wp X d 262 23 [some (mR 407), some (mI x1), some (mI x2)] [] s Q) (h_2 : xt0 = 0 → Wp X d 262 20 [some (mR 407), some (mI x1), some (mI x2)] [] s Q) : Wp X d 262 17 [some (mR 407), some (mI x1), some (mI x2)] [mI xt0] s Q := Wp_step k262 f262_17 ⟨h_1, h_2⟩
theorem b262_20 {X : (Nat → Int) × Nat} {d : Nat} {s : mSt} {Q : mQ} {x1 : Int} {x2 : Int} (h_1 : Q (some (mI (-3))) s) : Wp X d 262 20 [some (mR 407), some (mI x1), some (mI x2)] [] s Q := Wp_step k262 f262_20 (Wp_step k262 f262_22 ⟨⟨rfl, trivial⟩, h_1⟩)
theorem b262_23 {X : (Nat → Int) × Nat} {d : Nat} {s : mSt} {Q : mQ} {x1 : Int} {x2 : Int} (h_1 : Sp X d 244 [mR 407, mI x1] s (fun r s' => ∃ v : Int, r = some (mI v) ∧ Wp X (d + 1) 262 28 [some (mR 407), some (mI x1), some (mI x2)] [mI v] s' Q)) : Wp X (d + 1) 262 23 [some (mR 407), some (mI x1), some (mI x2)] [] s Q := Wp_step k262 f262_23 (Wp_step k262 f262_24 (Wp_step k262 f262_25 ⟨⟨kf_407, Nat.le_of_ble_eq_true rfl⟩, Nat.le_refl _, _, rfl, Sp_E h_1⟩))
theorem b262_28 {X : (Nat → Int) × Nat} {d : Nat} {s : mSt} {Q : mQ} {x1 : Int} {x2 : Int} {xt0 : Int} (h_1 : ¬ xt0 = 0 → Wp X d 262 34 [some (mR 407), some (mI x1), some (mI x2)] [] s Q) (h_2 : xt0 = 0 → Wp X d 262 31 [some (mR 407), some (mI x1), some (mI x2)] [] s Q) : Wp X d 262 28 [some (mR 407), some (mI x1), some (mI x2)] [mI xt0] s Q := Wp_step k262 f262_28 ⟨h_1, h_2⟩
theorem b262_31 {X : (Nat → Int) × Nat} {d : Nat} {s : mSt} {Q : mQ} {x1 : Int} {x2 : Int} (h_1 : Q (some (mI (-2))) s) : Wp X d 262 31 [some (mR 407), some (mI x1), some (mI x2)] [] s Q := Wp_step k262 f262_31 (Wp_step k262 f262_33 ⟨⟨rfl, trivial⟩, h_1⟩)
theorem b262_34 {X : (Nat → Int) × Nat} {d : Nat} {s : mSt} {Q : mQ} {x1 : Int} {x2 : Int} (h_1 : x2 ≤ 2 → Wp X d 262 51 [some (mR 407), some (mI x1), some (mI x2)] [] s Q) (h_2 : ¬ x2 ≤ 2 → Wp X d 262 39 [some (mR 407), some (mI x1), some (mI x2)] [] s Q) : Wp X d 262 34 [some (mR 407), some (mI x1), some (mI x2)] [] s Q := Wp_step k262 f262_34 (Wp_step k262 f262_35 (Wp_step k262 f262_36 ⟨h_1, h_2⟩))
theorem b262_39 {X : (Nat → Int) × Nat} {d : Nat} {s : mSt} {Q : mQ} {x1 : Int} {x2 : Int} (h_1 : Sp X d 213 [mR 407, mI (w32 (x2 - 3))] s (fun r s' => ∃ v : Int, r = some (mI v) ∧ Wp X (d + 1) 262 46 [some (mR 407), some (mI x1), some (mI x2)] [mI v] s' Q)) : Wp X (d + 1) 262 39 [some (mR 407), some (mI x1), some (mI x2)] [] s Q := Wp_step k262 f262_39 (Wp_step k262 f262_40 (Wp_step k262 f262_41 (Wp_step k262 f262_42 (Wp_step k262 f262_43 ⟨⟨kf_407, Nat.le_of_ble_eq_true rfl⟩, Nat.le_refl _, _, rfl, Sp_E h_1⟩))))
theorem b262_46 {X : (Nat → Int) × Nat} {d : Nat} {s : mSt} {Q : mQ} {x1 : Int} {x2 : Int} {xt0 : Int} (h_1 : ¬ xt0 = 0 → Wp X d 262 51 [some (mR 407), some (mI x1), some (mI x2)] [] s Q) (h_2 : xt0 = 0 → Wp X d 262 49 [some (mR 407), some (mI x1), some (mI x2)] [] s Q) : Wp X d 262 46 [some (mR 407), some (mI x1), some (mI x2)] [mI xt0] s Q := Wp_step k262 f262_46 ⟨h_1, h_2⟩
theorem b262_49 {X : (Nat → Int) × Nat} {d : Nat} {s : mSt} {Q : mQ} {x1 : Int} {x2 : Int} (h_1 : Q (some (mI (-1))) s) : Wp X d 262 49 [some (mR 407), some (mI x1), some (mI x2)] [] s Q := Wp_step k262 f262_49 (Wp_step k262 f262_50 ⟨⟨rfl, trivial⟩, h_1⟩)
theorem b262_51 {X : (Nat → Int) × Nat} {d : Nat} {s : mSt} {Q : mQ} {x1 : Int} {x2 : Int} (h_1 : ¬ x2 = 0 → Wp X d 262 62 [some (mR 407), some (mI x1), some (mI x2)] [] s Q) (h_2 : x2 = 0 → Wp X d 262 55 [some (mR 407), some (mI x1), some (mI x2)] [] s Q) : Wp X d 262 51 [some (mR 407), some (mI x1), some (mI x2)] [] s Q := Wp_step k262 f262_51 (Wp_step k262 f262_52 ⟨h_1, h_2⟩)
theorem b262_55 {X : (Nat → Int) × Nat} {d : Nat} {s : mSt} {Q : mQ} {x1 : Int} {x2 : Int} (h_1 : Wp X d 262 94 [some (mR 407), some (mI x1), some (mI x2)] [mI (s 407 29)] s Q) : Wp X d 262 55 [some (mR 407), some (mI x1), some (mI x2)] [] s Q := Wp_step k262 f262_55 (Wp_step k262 f262_56 ⟨kf_407, Wp_step k262 f262_59 (h_1)⟩)
theorem b262_62 {X : (Nat → Int) × Nat} {d : Nat} {s : mSt} {Q : mQ} {x1 : Int} {x2 : Int} (h_1 : ¬ x2 = 1 → Wp X d 262 74 [some (mR 407), some (mI x1), some (mI x2)] [] s Q) (h_2 : x2 = 1 → Wp X d 262 67 [some (mR 407), some (mI x1), some (mI x2)] [] s Q) : Wp X d 262 62 [some (mR 407), some (mI x1), some (mI x2)] [] s Q := Wp_step k262 f262_62 (Wp_step k262 f262_63 (Wp_step k262 f262_64 ⟨h_1, h_2⟩))
theorem b262_67 {X : (Nat → Int) × Nat} {d : Nat} {s : mSt} {Q : mQ} {x1 : Int} {x2 : Int} (h_1 : Wp X d 262 94 [some (mR 407), some (mI x1), some (mI x2)] [mI (s 407 30)] s Q) : Wp X d 262 67 [some (mR 407), some (mI x1), some (mI x2)] [] s Q := Wp_step k262 f262_67 (Wp_step k262 f262_68 ⟨kf_407, Wp_step k262 f262_71 (h_1)⟩)
theorem b262_74 {X : (Nat → Int) × Nat} {d : Nat} {s : mSt} {Q : mQ} {x1 : Int} {x2 : Int} (h_1 : ¬ x2 = 2 → Wp X d 262 86 [some (mR 407), some (mI x1), some (mI x2)] [] s Q) (h_2 : x2 = 2 → Wp X d 262 79 [some (mR 407), some (mI x1), some (mI x2)] [] s Q) : Wp X d 262 74 [some (mR 407), some (mI x1), some (mI x2)] [] s Q := Wp_step k262 f262_74 (Wp_step k262 f262_75 (Wp_step k262 f262_76 ⟨h_1, h_2⟩))
theorem b262_79 {X : (Nat → Int) × Nat} {d : Nat} {s : mSt} {Q : mQ} {x1 : Int} {x2 : Int} (h_1 : Wp X d 262 94 [some (mR 407), some (mI x1), some (mI x2)] [mI (s 407 31)] s Q) : Wp X d 262 79 [some (mR 407), some (mI x1), some (mI x2)] [] s Q := Wp_step k262 f262_79 (Wp_step k262 f262_80 ⟨kf_407, Wp_step k262 f262_83 (h_1)⟩)
theorem b262_86 {X : (Nat → Int) × Nat} {d : Nat} {s : mSt} {Q : mQ} {x1 : Int} {x2 : Int} (h_1 : 0 ≤ (w32 (x2 - 3)) ∧ (w32 (x2 - 3)) < 5) (h_2 : Wp X d 262 94 [some (mR 407), some (mI x1), some (mI x2)] [mI (s 422 (w32 (x2 - 3)).toNat)] s Q) : Wp X d 262 86 [some (mR 407), some (mI x1), some (mI x2)] [] s Q := Wp_step k262 f262_86 (Wp_step k262 f262_87 ⟨kf_407, 422, rf_407_27, Wp_step k262 f262_90 (Wp_step k262 f262_91 (Wp_step k262 f262_92 (Wp_step k262 f262_93 ⟨5, af_422, h_1, h_2⟩)))⟩)
theorem b262_94 {X : (Nat → Int) × Nat} {d : Nat} {s : mSt} {Q : mQ} {x1 : Int} {x2 : Int} {xt0 : Int} (h_1 : Q (some (mI xt0)) s) : Wp X d 262 94 [some (mR 407), some (mI x1), some (mI x2)] [mI xt0] s Q := Wp_step k262 f262_94 ⟨⟨rfl, trivial⟩, h_1⟩
theorem e262 {X : (Nat → Int) × Nat} {d : Nat} {s : mSt} {Q : mQ} {x1 : Int} {x2 : Int} (h : Wp X d 262 0 [some (mR 407), some (mI x1), some (mI x2)] [] s Q) : Sp X d 262 [mR 407, mI x1, mI x2] s Q := Sp_of (show mCe 262 = 0 by decide +kernel) (by rw [show mML 262 = 3 by decide +kernel]; rfl) (Nat.le_trans (Nat.le_of_ble_eq_true (show Nat.ble (mArgs _).length 3 = true from rfl)) (show 3 ≤ mML 262 by decide +kernel)) h
