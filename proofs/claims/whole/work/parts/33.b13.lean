-- 198 ClashDayModel.isPaperHere(I)Z
theorem k198 : mRk 198 = 2 := by decide +kernel
theorem f198_0 : mFetch 198 0 = some (.aload_n 0, 1, 0, 0, 0, 0) := by decide +kernel
theorem f198_1 : mFetch 198 1 = some (.getfield 26, 3, 12, 7, 2, 1) := by decide +kernel
theorem f198_4 : mFetch 198 4 = some (.iconst 3, 1, 0, 0, 0, 0) := by decide +kernel
theorem f198_5 : mFetch 198 5 = some (.iaload, 1, 0, 0, 0, 0) := by decide +kernel
theorem f198_6 : mFetch 198 6 = some (.iconst 5, 1, 0, 0, 0, 0) := by decide +kernel
theorem f198_7 : mFetch 198 7 = some (.if_icmp .ne 10, 3, 17, 0, 0, 0) := by decide +kernel
theorem f198_10 : mFetch 198 10 = some (.aload_n 0, 1, 0, 0, 0, 0) := by decide +kernel
theorem f198_11 : mFetch 198 11 = some (.iconst 4, 1, 0, 0, 0, 0) := by decide +kernel
theorem f198_12 : mFetch 198 12 = some (.iload_n 1, 1, 0, 0, 0, 0) := by decide +kernel
theorem f198_13 : mFetch 198 13 = some (.invokevirtual 144, 3, 173, 0, 3, 12) := by decide +kernel
theorem f198_16 : mFetch 198 16 = some (.ireturn, 1, 0, 0, 0, 0) := by decide +kernel
theorem f198_17 : mFetch 198 17 = some (.aload_n 0, 1, 0, 0, 0, 0) := by decide +kernel
theorem f198_18 : mFetch 198 18 = some (.invokevirtual 138, 3, 178, 0, 1, 12) := by decide +kernel
theorem f198_21 : mFetch 198 21 = some (.aload_n 0, 1, 0, 0, 0, 0) := by decide +kernel
theorem f198_22 : mFetch 198 22 = some (.getfield 26, 3, 12, 7, 2, 1) := by decide +kernel
theorem f198_25 : mFetch 198 25 = some (.iconst 3, 1, 0, 0, 0, 0) := by decide +kernel
theorem f198_26 : mFetch 198 26 = some (.iaload, 1, 0, 0, 0, 0) := by decide +kernel
theorem f198_27 : mFetch 198 27 = some (.istore_n 2, 1, 0, 0, 0, 0) := by decide +kernel
theorem f198_28 : mFetch 198 28 = some (.aload_n 0, 1, 0, 0, 0, 0) := by decide +kernel
theorem f198_29 : mFetch 198 29 = some (.bipush 82, 2, 0, 0, 0, 0) := by decide +kernel
theorem f198_31 : mFetch 198 31 = some (.iload_n 2, 1, 0, 0, 0, 0) := by decide +kernel
theorem f198_32 : mFetch 198 32 = some (.iadd, 1, 0, 0, 0, 0) := by decide +kernel
theorem f198_33 : mFetch 198 33 = some (.iconst 0, 1, 0, 0, 0, 0) := by decide +kernel
theorem f198_34 : mFetch 198 34 = some (.bipush 15, 2, 0, 0, 0, 0) := by decide +kernel
theorem f198_36 : mFetch 198 36 = some (.invokevirtual 249, 3, 196, 0, 4, 12) := by decide +kernel
theorem f198_39 : mFetch 198 39 = some (.ifCond .eq 17, 3, 56, 0, 0, 0) := by decide +kernel
theorem f198_42 : mFetch 198 42 = some (.aload_n 0, 1, 0, 0, 0, 0) := by decide +kernel
theorem f198_43 : mFetch 198 43 = some (.bipush 77, 2, 0, 0, 0, 0) := by decide +kernel
theorem f198_45 : mFetch 198 45 = some (.iload_n 2, 1, 0, 0, 0, 0) := by decide +kernel
theorem f198_46 : mFetch 198 46 = some (.iadd, 1, 0, 0, 0, 0) := by decide +kernel
theorem f198_47 : mFetch 198 47 = some (.iconst 1, 1, 0, 0, 0, 0) := by decide +kernel
theorem f198_48 : mFetch 198 48 = some (.bipush 6, 2, 0, 0, 0, 0) := by decide +kernel
theorem f198_50 : mFetch 198 50 = some (.invokevirtual 249, 3, 196, 0, 4, 12) := by decide +kernel
theorem f198_53 : mFetch 198 53 = some (.ifCond .ne 5, 3, 58, 0, 0, 0) := by decide +kernel
theorem f198_56 : mFetch 198 56 = some (.iconst 0, 1, 0, 0, 0, 0) := by decide +kernel
theorem f198_57 : mFetch 198 57 = some (.ireturn, 1, 0, 0, 0, 0) := by decide +kernel
theorem f198_58 : mFetch 198 58 = some (.aload_n 0, 1, 0, 0, 0, 0) := by decide +kernel
theorem f198_59 : mFetch 198 59 = some (.getfield 26, 3, 12, 7, 2, 1) := by decide +kernel
theorem f198_62 : mFetch 198 62 = some (.iconst 3, 1, 0, 0, 0, 0) := by decide +kernel
theorem f198_63 : mFetch 198 63 = some (.dup2, 1, 0, 0, 0, 0) := by decide +kernel
theorem f198_64 : mFetch 198 64 = some (.iaload, 1, 0, 0, 0, 0) := by decide +kernel
theorem f198_65 : mFetch 198 65 = some (.iconst 1, 1, 0, 0, 0, 0) := by decide +kernel
theorem f198_66 : mFetch 198 66 = some (.iadd, 1, 0, 0, 0, 0) := by decide +kernel
theorem f198_67 : mFetch 198 67 = some (.iastore, 1, 0, 0, 0, 0) := by decide +kernel
theorem f198_68 : mFetch 198 68 = some (.iconst 1, 1, 0, 0, 0, 0) := by decide +kernel
theorem f198_69 : mFetch 198 69 = some (.ireturn, 1, 0, 0, 0, 0) := by decide +kernel
theorem b198_0 {X : (Nat → Int) × Nat} {d : Nat} {s : mSt} {Q : mQ} {x1 : Int} {l2 : Option mV} (h_1 : ¬ (s 413 3) = 5 → Wp X d 198 17 [some (mR 407), some (mI x1), l2] [] s Q) (h_2 : (s 413 3) = 5 → Wp X d 198 10 [some (mR 407), some (mI x1), l2] [] s Q) : Wp X d 198 0 [some (mR 407), some (mI x1), l2] [] s Q := Wp_step k198 f198_0 (Wp_step k198 f198_1 ⟨kf_407, 413, rf_407_7, Wp_step k198 f198_4 (Wp_step k198 f198_5 ⟨135, af_413, ⟨by decide, by decide⟩, Wp_step k198 f198_6 (Wp_step k198 f198_7 ⟨h_1, h_2⟩)⟩)⟩)
theorem b198_10 {X : (Nat → Int) × Nat} {d : Nat} {s : mSt} {Q : mQ} {x1 : Int} {l2 : Option mV} (h_1 : Sp X d 173 [mR 407, mI 4, mI x1] s (fun r s' => ∃ v : Int, r = some (mI v) ∧ Wp X (d + 1) 198 16 [some (mR 407), some (mI x1), l2] [mI v] s' Q)) : Wp X (d + 1) 198 10 [some (mR 407), some (mI x1), l2] [] s Q := Wp_step k198 f198_10 (Wp_step k198 f198_11 (Wp_step k198 f198_12 (Wp_step k198 f198_13 ⟨⟨kf_407, Nat.le_of_ble_eq_true rfl⟩, Nat.le_refl _, _, rfl, Sp_E h_1⟩)))
theorem b198_16 {X : (Nat → Int) × Nat} {d : Nat} {s : mSt} {Q : mQ} {x1 : Int} {l2 : Option mV} {xt0 : Int} (h_1 : Q (some (mI xt0)) s) (h_2 : xt0 = 0 ∨ xt0 = 1) : Wp X d 198 16 [some (mR 407), some (mI x1), l2] [mI xt0] s Q := Wp_step k198 f198_16 ⟨⟨rfl, h_2⟩, h_1⟩
theorem b198_17 {X : (Nat → Int) × Nat} {d : Nat} {s : mSt} {Q : mQ} {x1 : Int} {l2 : Option mV} (h_1 : Sp X d 178 [mR 407] s (fun r s' => r = none ∧ Wp X (d + 1) 198 21 [some (mR 407), some (mI x1), l2] [] s' Q)) : Wp X (d + 1) 198 17 [some (mR 407), some (mI x1), l2] [] s Q := Wp_step k198 f198_17 (Wp_step k198 f198_18 ⟨⟨kf_407, Nat.le_of_ble_eq_true rfl⟩, Nat.le_refl _, _, rfl, Sp_V h_1⟩)
theorem b198_21 {X : (Nat → Int) × Nat} {d : Nat} {s : mSt} {Q : mQ} {x1 : Int} {l2 : Option mV} (h_1 : Sp X d 196 [mR 407, mI (w32 (82 + (s 413 3))), mI 0, mI 15] s (fun r s' => ∃ v : Int, r = some (mI v) ∧ Wp X (d + 1) 198 39 [some (mR 407), some (mI x1), some (mI (s 413 3))] [mI v] s' Q)) : Wp X (d + 1) 198 21 [some (mR 407), some (mI x1), l2] [] s Q := Wp_step k198 f198_21 (Wp_step k198 f198_22 ⟨kf_407, 413, rf_407_7, Wp_step k198 f198_25 (Wp_step k198 f198_26 ⟨135, af_413, ⟨by decide, by decide⟩, Wp_step k198 f198_27 (Wp_step k198 f198_28 (Wp_step k198 f198_29 (Wp_step k198 f198_31 (Wp_step k198 f198_32 (Wp_step k198 f198_33 (Wp_step k198 f198_34 (Wp_step k198 f198_36 ⟨⟨kf_407, Nat.le_of_ble_eq_true rfl⟩, Nat.le_refl _, _, rfl, Sp_E h_1⟩)))))))⟩)⟩)
theorem b198_39 {X : (Nat → Int) × Nat} {d : Nat} {s : mSt} {Q : mQ} {x1 : Int} {x2 : Int} {xt0 : Int} (h_1 : xt0 = 0 → Wp X d 198 56 [some (mR 407), some (mI x1), some (mI x2)] [] s Q) (h_2 : ¬ xt0 = 0 → Wp X d 198 42 [some (mR 407), some (mI x1), some (mI x2)] [] s Q) : Wp X d 198 39 [some (mR 407), some (mI x1), some (mI x2)] [mI xt0] s Q := Wp_step k198 f198_39 ⟨h_1, h_2⟩
theorem b198_42 {X : (Nat → Int) × Nat} {d : Nat} {s : mSt} {Q : mQ} {x1 : Int} {x2 : Int} (h_1 : Sp X d 196 [mR 407, mI (w32 (77 + x2)), mI 1, mI 6] s (fun r s' => ∃ v : Int, r = some (mI v) ∧ Wp X (d + 1) 198 53 [some (mR 407), some (mI x1), some (mI x2)] [mI v] s' Q)) : Wp X (d + 1) 198 42 [some (mR 407), some (mI x1), some (mI x2)] [] s Q := Wp_step k198 f198_42 (Wp_step k198 f198_43 (Wp_step k198 f198_45 (Wp_step k198 f198_46 (Wp_step k198 f198_47 (Wp_step k198 f198_48 (Wp_step k198 f198_50 ⟨⟨kf_407, Nat.le_of_ble_eq_true rfl⟩, Nat.le_refl _, _, rfl, Sp_E h_1⟩))))))
theorem b198_53 {X : (Nat → Int) × Nat} {d : Nat} {s : mSt} {Q : mQ} {x1 : Int} {x2 : Int} {xt0 : Int} (h_1 : ¬ xt0 = 0 → Wp X d 198 58 [some (mR 407), some (mI x1), some (mI x2)] [] s Q) (h_2 : xt0 = 0 → Wp X d 198 56 [some (mR 407), some (mI x1), some (mI x2)] [] s Q) : Wp X d 198 53 [some (mR 407), some (mI x1), some (mI x2)] [mI xt0] s Q := Wp_step k198 f198_53 ⟨h_1, h_2⟩
theorem b198_56 {X : (Nat → Int) × Nat} {d : Nat} {s : mSt} {Q : mQ} {x1 : Int} {x2 : Int} (h_1 : Q (some (mI 0)) s) : Wp X d 198 56 [some (mR 407), some (mI x1), some (mI x2)] [] s Q := Wp_step k198 f198_56 (Wp_step k198 f198_57 ⟨⟨rfl, (Or.inl rfl)⟩, h_1⟩)
theorem b198_58 {X : (Nat → Int) × Nat} {d : Nat} {s : mSt} {Q : mQ} {x1 : Int} {x2 : Int} (h_1 : Q (some (mI 1)) (uS s 413 3 (w32 ((s 413 3) + 1)))) : Wp X d 198 58 [some (mR 407), some (mI x1), some (mI x2)] [] s Q := Wp_step k198 f198_58 (Wp_step k198 f198_59 ⟨kf_407, 413, rf_407_7, Wp_step k198 f198_62 (Wp_step k198 f198_63 (Wp_step k198 f198_64 ⟨135, af_413, ⟨by decide, by decide⟩, Wp_step k198 f198_65 (Wp_step k198 f198_66 (Wp_step k198 f198_67 ⟨135, af_413, ⟨by decide, by decide⟩, Wp_step k198 f198_68 (Wp_step k198 f198_69 ⟨⟨rfl, (Or.inr rfl)⟩, h_1⟩)⟩))⟩))⟩)
theorem e198 {X : (Nat → Int) × Nat} {d : Nat} {s : mSt} {Q : mQ} {x1 : Int} (h : Wp X d 198 0 [some (mR 407), some (mI x1), none] [] s Q) : Sp X d 198 [mR 407, mI x1] s Q := Sp_of (show mCe 198 = 0 by decide +kernel) (by rw [show mML 198 = 3 by decide +kernel]; rfl) (Nat.le_trans (Nat.le_of_ble_eq_true (show Nat.ble (mArgs _).length 3 = true from rfl)) (show 3 ≤ mML 198 by decide +kernel)) h
-- 199 ClashDayModel.isCandidateHere(I)Z
theorem k199 : mRk 199 = 2 := by decide +kernel
theorem f199_0 : mFetch 199 0 = some (.aload_n 0, 1, 0, 0, 0, 0) := by decide +kernel
theorem f199_1 : mFetch 199 1 = some (.getfield 26, 3, 12, 7, 2, 1) := by decide +kernel
theorem f199_4 : mFetch 199 4 = some (.iconst 4, 1, 0, 0, 0, 0) := by decide +kernel
theorem f199_5 : mFetch 199 5 = some (.iaload, 1, 0, 0, 0, 0) := by decide +kernel
theorem f199_6 : mFetch 199 6 = some (.bipush 6, 2, 0, 0, 0, 0) := by decide +kernel
theorem f199_8 : mFetch 199 8 = some (.if_icmp .ne 10, 3, 18, 0, 0, 0) := by decide +kernel
theorem f199_11 : mFetch 199 11 = some (.aload_n 0, 1, 0, 0, 0, 0) := by decide +kernel
theorem f199_12 : mFetch 199 12 = some (.iconst 4, 1, 0, 0, 0, 0) := by decide +kernel
theorem f199_13 : mFetch 199 13 = some (.iload_n 1, 1, 0, 0, 0, 0) := by decide +kernel
theorem f199_14 : mFetch 199 14 = some (.invokevirtual 144, 3, 173, 0, 3, 12) := by decide +kernel
theorem f199_17 : mFetch 199 17 = some (.ireturn, 1, 0, 0, 0, 0) := by decide +kernel
theorem f199_18 : mFetch 199 18 = some (.aload_n 0, 1, 0, 0, 0, 0) := by decide +kernel
theorem f199_19 : mFetch 199 19 = some (.invokevirtual 138, 3, 178, 0, 1, 12) := by decide +kernel
theorem f199_22 : mFetch 199 22 = some (.aload_n 0, 1, 0, 0, 0, 0) := by decide +kernel
theorem f199_23 : mFetch 199 23 = some (.getfield 26, 3, 12, 7, 2, 1) := by decide +kernel
theorem f199_26 : mFetch 199 26 = some (.iconst 4, 1, 0, 0, 0, 0) := by decide +kernel
theorem f199_27 : mFetch 199 27 = some (.iaload, 1, 0, 0, 0, 0) := by decide +kernel
theorem f199_28 : mFetch 199 28 = some (.istore_n 2, 1, 0, 0, 0, 0) := by decide +kernel
theorem f199_29 : mFetch 199 29 = some (.aload_n 0, 1, 0, 0, 0, 0) := by decide +kernel
theorem f199_30 : mFetch 199 30 = some (.bipush 117, 2, 0, 0, 0, 0) := by decide +kernel
theorem f199_32 : mFetch 199 32 = some (.iload_n 2, 1, 0, 0, 0, 0) := by decide +kernel
theorem f199_33 : mFetch 199 33 = some (.iadd, 1, 0, 0, 0, 0) := by decide +kernel
theorem f199_34 : mFetch 199 34 = some (.iconst 1, 1, 0, 0, 0, 0) := by decide +kernel
theorem f199_35 : mFetch 199 35 = some (.iconst 1, 1, 0, 0, 0, 0) := by decide +kernel
theorem f199_36 : mFetch 199 36 = some (.aload_n 0, 1, 0, 0, 0, 0) := by decide +kernel
theorem f199_37 : mFetch 199 37 = some (.getfield 26, 3, 12, 7, 2, 1) := by decide +kernel
theorem f199_40 : mFetch 199 40 = some (.iconst 3, 1, 0, 0, 0, 0) := by decide +kernel
theorem f199_41 : mFetch 199 41 = some (.iaload, 1, 0, 0, 0, 0) := by decide +kernel
theorem f199_42 : mFetch 199 42 = some (.ishl, 1, 0, 0, 0, 0) := by decide +kernel
theorem f199_43 : mFetch 199 43 = some (.iconst 1, 1, 0, 0, 0, 0) := by decide +kernel
theorem f199_44 : mFetch 199 44 = some (.isub, 1, 0, 0, 0, 0) := by decide +kernel
theorem f199_45 : mFetch 199 45 = some (.invokevirtual 249, 3, 196, 0, 4, 12) := by decide +kernel
theorem f199_48 : mFetch 199 48 = some (.ifCond .eq 31, 3, 79, 0, 0, 0) := by decide +kernel
theorem f199_51 : mFetch 199 51 = some (.aload_n 0, 1, 0, 0, 0, 0) := by decide +kernel
theorem f199_52 : mFetch 199 52 = some (.bipush 123, 2, 0, 0, 0, 0) := by decide +kernel
theorem f199_54 : mFetch 199 54 = some (.iload_n 2, 1, 0, 0, 0, 0) := by decide +kernel
theorem f199_55 : mFetch 199 55 = some (.iadd, 1, 0, 0, 0, 0) := by decide +kernel
theorem f199_56 : mFetch 199 56 = some (.iconst 0, 1, 0, 0, 0, 0) := by decide +kernel
theorem f199_57 : mFetch 199 57 = some (.bipush 100, 2, 0, 0, 0, 0) := by decide +kernel
theorem f199_59 : mFetch 199 59 = some (.invokevirtual 249, 3, 196, 0, 4, 12) := by decide +kernel
theorem f199_62 : mFetch 199 62 = some (.ifCond .eq 17, 3, 79, 0, 0, 0) := by decide +kernel
theorem f199_65 : mFetch 199 65 = some (.aload_n 0, 1, 0, 0, 0, 0) := by decide +kernel
theorem f199_66 : mFetch 199 66 = some (.sipush 129, 3, 0, 0, 0, 0) := by decide +kernel
theorem f199_69 : mFetch 199 69 = some (.iload_n 2, 1, 0, 0, 0, 0) := by decide +kernel
theorem f199_70 : mFetch 199 70 = some (.iadd, 1, 0, 0, 0, 0) := by decide +kernel
theorem f199_71 : mFetch 199 71 = some (.iconst 0, 1, 0, 0, 0, 0) := by decide +kernel
theorem f199_72 : mFetch 199 72 = some (.iconst 3, 1, 0, 0, 0, 0) := by decide +kernel
theorem f199_73 : mFetch 199 73 = some (.invokevirtual 249, 3, 196, 0, 4, 12) := by decide +kernel
theorem f199_76 : mFetch 199 76 = some (.ifCond .ne 5, 3, 81, 0, 0, 0) := by decide +kernel
theorem f199_79 : mFetch 199 79 = some (.iconst 0, 1, 0, 0, 0, 0) := by decide +kernel
theorem f199_80 : mFetch 199 80 = some (.ireturn, 1, 0, 0, 0, 0) := by decide +kernel
theorem f199_81 : mFetch 199 81 = some (.aload_n 0, 1, 0, 0, 0, 0) := by decide +kernel
theorem f199_82 : mFetch 199 82 = some (.getfield 26, 3, 12, 7, 2, 1) := by decide +kernel
theorem f199_85 : mFetch 199 85 = some (.iconst 4, 1, 0, 0, 0, 0) := by decide +kernel
theorem f199_86 : mFetch 199 86 = some (.dup2, 1, 0, 0, 0, 0) := by decide +kernel
theorem f199_87 : mFetch 199 87 = some (.iaload, 1, 0, 0, 0, 0) := by decide +kernel
theorem f199_88 : mFetch 199 88 = some (.iconst 1, 1, 0, 0, 0, 0) := by decide +kernel
theorem f199_89 : mFetch 199 89 = some (.iadd, 1, 0, 0, 0, 0) := by decide +kernel
theorem f199_90 : mFetch 199 90 = some (.iastore, 1, 0, 0, 0, 0) := by decide +kernel
theorem f199_91 : mFetch 199 91 = some (.iconst 1, 1, 0, 0, 0, 0) := by decide +kernel
theorem f199_92 : mFetch 199 92 = some (.ireturn, 1, 0, 0, 0, 0) := by decide +kernel
theorem b199_0 {X : (Nat → Int) × Nat} {d : Nat} {s : mSt} {Q : mQ} {x1 : Int} {l2 : Option mV} (h_1 : ¬ (s 413 4) = 6 → Wp X d 199 18 [some (mR 407), some (mI x1), l2] [] s Q) (h_2 : (s 413 4) = 6 → Wp X d 199 11 [some (mR 407), some (mI x1), l2] [] s Q) : Wp X d 199 0 [some (mR 407), some (mI x1), l2] [] s Q := Wp_step k199 f199_0 (Wp_step k199 f199_1 ⟨kf_407, 413, rf_407_7, Wp_step k199 f199_4 (Wp_step k199 f199_5 ⟨135, af_413, ⟨by decide, by decide⟩, Wp_step k199 f199_6 (Wp_step k199 f199_8 ⟨h_1, h_2⟩)⟩)⟩)
theorem b199_11 {X : (Nat → Int) × Nat} {d : Nat} {s : mSt} {Q : mQ} {x1 : Int} {l2 : Option mV} (h_1 : Sp X d 173 [mR 407, mI 4, mI x1] s (fun r s' => ∃ v : Int, r = some (mI v) ∧ Wp X (d + 1) 199 17 [some (mR 407), some (mI x1), l2] [mI v] s' Q)) : Wp X (d + 1) 199 11 [some (mR 407), some (mI x1), l2] [] s Q := Wp_step k199 f199_11 (Wp_step k199 f199_12 (Wp_step k199 f199_13 (Wp_step k199 f199_14 ⟨⟨kf_407, Nat.le_of_ble_eq_true rfl⟩, Nat.le_refl _, _, rfl, Sp_E h_1⟩)))
theorem b199_17 {X : (Nat → Int) × Nat} {d : Nat} {s : mSt} {Q : mQ} {x1 : Int} {l2 : Option mV} {xt0 : Int} (h_1 : Q (some (mI xt0)) s) (h_2 : xt0 = 0 ∨ xt0 = 1) : Wp X d 199 17 [some (mR 407), some (mI x1), l2] [mI xt0] s Q := Wp_step k199 f199_17 ⟨⟨rfl, h_2⟩, h_1⟩
theorem b199_18 {X : (Nat → Int) × Nat} {d : Nat} {s : mSt} {Q : mQ} {x1 : Int} {l2 : Option mV} (h_1 : Sp X d 178 [mR 407] s (fun r s' => r = none ∧ Wp X (d + 1) 199 22 [some (mR 407), some (mI x1), l2] [] s' Q)) : Wp X (d + 1) 199 18 [some (mR 407), some (mI x1), l2] [] s Q := Wp_step k199 f199_18 (Wp_step k199 f199_19 ⟨⟨kf_407, Nat.le_of_ble_eq_true rfl⟩, Nat.le_refl _, _, rfl, Sp_V h_1⟩)
theorem b199_22 {X : (Nat → Int) × Nat} {d : Nat} {s : mSt} {Q : mQ} {x1 : Int} {l2 : Option mV} (h_1 : Sp X d 196 [mR 407, mI (w32 (117 + (s 413 4))), mI 1, mI (w32 ((iShl 1 (s 413 3)) - 1))] s (fun r s' => ∃ v : Int, r = some (mI v) ∧ Wp X (d + 1) 199 48 [some (mR 407), some (mI x1), some (mI (s 413 4))] [mI v] s' Q)) : Wp X (d + 1) 199 22 [some (mR 407), some (mI x1), l2] [] s Q := Wp_step k199 f199_22 (Wp_step k199 f199_23 ⟨kf_407, 413, rf_407_7, Wp_step k199 f199_26 (Wp_step k199 f199_27 ⟨135, af_413, ⟨by decide, by decide⟩, Wp_step k199 f199_28 (Wp_step k199 f199_29 (Wp_step k199 f199_30 (Wp_step k199 f199_32 (Wp_step k199 f199_33 (Wp_step k199 f199_34 (Wp_step k199 f199_35 (Wp_step k199 f199_36 (Wp_step k199 f199_37 ⟨kf_407, 413, rf_407_7, Wp_step k199 f199_40 (Wp_step k199 f199_41 ⟨135, af_413, ⟨by decide, by decide⟩, Wp_step k199 f199_42 (Wp_step k199 f199_43 (Wp_step k199 f199_44 (Wp_step k199 f199_45 ⟨⟨kf_407, Nat.le_of_ble_eq_true rfl⟩, Nat.le_refl _, _, rfl, Sp_E h_1⟩)))⟩)⟩))))))))⟩)⟩)
theorem b199_48 {X : (Nat → Int) × Nat} {d : Nat} {s : mSt} {Q : mQ} {x1 : Int} {x2 : Int} {xt0 : Int} (h_1 : xt0 = 0 → Wp X d 199 79 [some (mR 407), some (mI x1), some (mI x2)] [] s Q) (h_2 : ¬ xt0 = 0 → Wp X d 199 51 [some (mR 407), some (mI x1), some (mI x2)] [] s Q) : Wp X d 199 48 [some (mR 407), some (mI x1), some (mI x2)] [mI xt0] s Q := Wp_step k199 f199_48 ⟨h_1, h_2⟩
theorem b199_51 {X : (Nat → Int) × Nat} {d : Nat} {s : mSt} {Q : mQ} {x1 : Int} {x2 : Int} (h_1 : Sp X d 196 [mR 407, mI (w32 (123 + x2)), mI 0, mI 100] s (fun r s' => ∃ v : Int, r = some (mI v) ∧ Wp X (d + 1) 199 62 [some (mR 407), some (mI x1), some (mI x2)] [mI v] s' Q)) : Wp X (d + 1) 199 51 [some (mR 407), some (mI x1), some (mI x2)] [] s Q := Wp_step k199 f199_51 (Wp_step k199 f199_52 (Wp_step k199 f199_54 (Wp_step k199 f199_55 (Wp_step k199 f199_56 (Wp_step k199 f199_57 (Wp_step k199 f199_59 ⟨⟨kf_407, Nat.le_of_ble_eq_true rfl⟩, Nat.le_refl _, _, rfl, Sp_E h_1⟩))))))
theorem b199_62 {X : (Nat → Int) × Nat} {d : Nat} {s : mSt} {Q : mQ} {x1 : Int} {x2 : Int} {xt0 : Int} (h_1 : xt0 = 0 → Wp X d 199 79 [some (mR 407), some (mI x1), some (mI x2)] [] s Q) (h_2 : ¬ xt0 = 0 → Wp X d 199 65 [some (mR 407), some (mI x1), some (mI x2)] [] s Q) : Wp X d 199 62 [some (mR 407), some (mI x1), some (mI x2)] [mI xt0] s Q := Wp_step k199 f199_62 ⟨h_1, h_2⟩
theorem b199_65 {X : (Nat → Int) × Nat} {d : Nat} {s : mSt} {Q : mQ} {x1 : Int} {x2 : Int} (h_1 : Sp X d 196 [mR 407, mI (w32 (129 + x2)), mI 0, mI 3] s (fun r s' => ∃ v : Int, r = some (mI v) ∧ Wp X (d + 1) 199 76 [some (mR 407), some (mI x1), some (mI x2)] [mI v] s' Q)) : Wp X (d + 1) 199 65 [some (mR 407), some (mI x1), some (mI x2)] [] s Q := Wp_step k199 f199_65 (Wp_step k199 f199_66 (Wp_step k199 f199_69 (Wp_step k199 f199_70 (Wp_step k199 f199_71 (Wp_step k199 f199_72 (Wp_step k199 f199_73 ⟨⟨kf_407, Nat.le_of_ble_eq_true rfl⟩, Nat.le_refl _, _, rfl, Sp_E h_1⟩))))))
theorem b199_76 {X : (Nat → Int) × Nat} {d : Nat} {s : mSt} {Q : mQ} {x1 : Int} {x2 : Int} {xt0 : Int} (h_1 : ¬ xt0 = 0 → Wp X d 199 81 [some (mR 407), some (mI x1), some (mI x2)] [] s Q) (h_2 : xt0 = 0 → Wp X d 199 79 [some (mR 407), some (mI x1), some (mI x2)] [] s Q) : Wp X d 199 76 [some (mR 407), some (mI x1), some (mI x2)] [mI xt0] s Q := Wp_step k199 f199_76 ⟨h_1, h_2⟩
theorem b199_79 {X : (Nat → Int) × Nat} {d : Nat} {s : mSt} {Q : mQ} {x1 : Int} {x2 : Int} (h_1 : Q (some (mI 0)) s) : Wp X d 199 79 [some (mR 407), some (mI x1), some (mI x2)] [] s Q := Wp_step k199 f199_79 (Wp_step k199 f199_80 ⟨⟨rfl, (Or.inl rfl)⟩, h_1⟩)
theorem b199_81 {X : (Nat → Int) × Nat} {d : Nat} {s : mSt} {Q : mQ} {x1 : Int} {x2 : Int} (h_1 : Q (some (mI 1)) (uS s 413 4 (w32 ((s 413 4) + 1)))) : Wp X d 199 81 [some (mR 407), some (mI x1), some (mI x2)] [] s Q := Wp_step k199 f199_81 (Wp_step k199 f199_82 ⟨kf_407, 413, rf_407_7, Wp_step k199 f199_85 (Wp_step k199 f199_86 (Wp_step k199 f199_87 ⟨135, af_413, ⟨by decide, by decide⟩, Wp_step k199 f199_88 (Wp_step k199 f199_89 (Wp_step k199 f199_90 ⟨135, af_413, ⟨by decide, by decide⟩, Wp_step k199 f199_91 (Wp_step k199 f199_92 ⟨⟨rfl, (Or.inr rfl)⟩, h_1⟩)⟩))⟩))⟩)
theorem e199 {X : (Nat → Int) × Nat} {d : Nat} {s : mSt} {Q : mQ} {x1 : Int} (h : Wp X d 199 0 [some (mR 407), some (mI x1), none] [] s Q) : Sp X d 199 [mR 407, mI x1] s Q := Sp_of (show mCe 199 = 0 by decide +kernel) (by rw [show mML 199 = 3 by decide +kernel]; rfl) (Nat.le_trans (Nat.le_of_ble_eq_true (show Nat.ble (mArgs _).length 3 = true from rfl)) (show 3 ≤ mML 199 by decide +kernel)) h
-- 200 ClashDayModel.isTakenHere()Z
theorem k200 : mRk 200 = 2 := by decide +kernel
theorem f200_0 : mFetch 200 0 = some (.aload_n 0, 1, 0, 0, 0, 0) := by decide +kernel
theorem f200_1 : mFetch 200 1 = some (.invokevirtual 138, 3, 178, 0, 1, 12) := by decide +kernel
theorem f200_4 : mFetch 200 4 = some (.aload_n 0, 1, 0, 0, 0, 0) := by decide +kernel
theorem f200_5 : mFetch 200 5 = some (.iconst 0, 1, 0, 0, 0, 0) := by decide +kernel
theorem f200_6 : mFetch 200 6 = some (.bipush 29, 2, 0, 0, 0, 0) := by decide +kernel
theorem f200_8 : mFetch 200 8 = some (.invokevirtual 198, 3, 180, 0, 3, 12) := by decide +kernel
theorem f200_11 : mFetch 200 11 = some (.ifCond .ne 5, 3, 16, 0, 0, 0) := by decide +kernel
theorem f200_14 : mFetch 200 14 = some (.iconst 0, 1, 0, 0, 0, 0) := by decide +kernel
theorem f200_15 : mFetch 200 15 = some (.ireturn, 1, 0, 0, 0, 0) := by decide +kernel
theorem f200_16 : mFetch 200 16 = some (.aload_n 0, 1, 0, 0, 0, 0) := by decide +kernel
theorem f200_17 : mFetch 200 17 = some (.getfield 148, 3, 12, 10, 0, 1) := by decide +kernel
theorem f200_20 : mFetch 200 20 = some (.istore_n 1, 1, 0, 0, 0, 0) := by decide +kernel
theorem f200_21 : mFetch 200 21 = some (.aload_n 0, 1, 0, 0, 0, 0) := by decide +kernel
theorem f200_22 : mFetch 200 22 = some (.bipush 87, 2, 0, 0, 0, 0) := by decide +kernel
theorem f200_24 : mFetch 200 24 = some (.iload_n 1, 1, 0, 0, 0, 0) := by decide +kernel
theorem f200_25 : mFetch 200 25 = some (.iadd, 1, 0, 0, 0, 0) := by decide +kernel
theorem f200_26 : mFetch 200 26 = some (.iconst 0, 1, 0, 0, 0, 0) := by decide +kernel
theorem f200_27 : mFetch 200 27 = some (.bipush 9, 2, 0, 0, 0, 0) := by decide +kernel
theorem f200_29 : mFetch 200 29 = some (.invokevirtual 249, 3, 196, 0, 4, 12) := by decide +kernel
theorem f200_32 : mFetch 200 32 = some (.ireturn, 1, 0, 0, 0, 0) := by decide +kernel
theorem b200_0 {X : (Nat → Int) × Nat} {d : Nat} {s : mSt} {Q : mQ} {l1 : Option mV} (h_1 : Sp X d 178 [mR 407] s (fun r s' => r = none ∧ Wp X (d + 1) 200 4 [some (mR 407), l1] [] s' Q)) : Wp X (d + 1) 200 0 [some (mR 407), l1] [] s Q := Wp_step k200 f200_0 (Wp_step k200 f200_1 ⟨⟨kf_407, Nat.le_of_ble_eq_true rfl⟩, Nat.le_refl _, _, rfl, Sp_V h_1⟩)
theorem b200_4 {X : (Nat → Int) × Nat} {d : Nat} {s : mSt} {Q : mQ} {l1 : Option mV} (h_1 : Sp X d 180 [mR 407, mI 0, mI 29] s (fun r s' => ∃ v : Int, r = some (mI v) ∧ Wp X (d + 1) 200 11 [some (mR 407), l1] [mI v] s' Q)) : Wp X (d + 1) 200 4 [some (mR 407), l1] [] s Q := Wp_step k200 f200_4 (Wp_step k200 f200_5 (Wp_step k200 f200_6 (Wp_step k200 f200_8 ⟨⟨kf_407, Nat.le_of_ble_eq_true rfl⟩, Nat.le_refl _, _, rfl, Sp_E h_1⟩)))
theorem b200_11 {X : (Nat → Int) × Nat} {d : Nat} {s : mSt} {Q : mQ} {l1 : Option mV} {xt0 : Int} (h_1 : ¬ xt0 = 0 → Wp X d 200 16 [some (mR 407), l1] [] s Q) (h_2 : xt0 = 0 → Wp X d 200 14 [some (mR 407), l1] [] s Q) : Wp X d 200 11 [some (mR 407), l1] [mI xt0] s Q := Wp_step k200 f200_11 ⟨h_1, h_2⟩
theorem b200_14 {X : (Nat → Int) × Nat} {d : Nat} {s : mSt} {Q : mQ} {l1 : Option mV} (h_1 : Q (some (mI 0)) s) : Wp X d 200 14 [some (mR 407), l1] [] s Q := Wp_step k200 f200_14 (Wp_step k200 f200_15 ⟨⟨rfl, (Or.inl rfl)⟩, h_1⟩)
theorem b200_16 {X : (Nat → Int) × Nat} {d : Nat} {s : mSt} {Q : mQ} {l1 : Option mV} (h_1 : Sp X d 196 [mR 407, mI (w32 (87 + (s 407 10))), mI 0, mI 9] s (fun r s' => ∃ v : Int, r = some (mI v) ∧ Wp X (d + 1) 200 32 [some (mR 407), some (mI (s 407 10))] [mI v] s' Q)) : Wp X (d + 1) 200 16 [some (mR 407), l1] [] s Q := Wp_step k200 f200_16 (Wp_step k200 f200_17 ⟨kf_407, Wp_step k200 f200_20 (Wp_step k200 f200_21 (Wp_step k200 f200_22 (Wp_step k200 f200_24 (Wp_step k200 f200_25 (Wp_step k200 f200_26 (Wp_step k200 f200_27 (Wp_step k200 f200_29 ⟨⟨kf_407, Nat.le_of_ble_eq_true rfl⟩, Nat.le_refl _, _, rfl, Sp_E h_1⟩)))))))⟩)
theorem b200_32 {X : (Nat → Int) × Nat} {d : Nat} {s : mSt} {Q : mQ} {x1 : Int} {xt0 : Int} (h_1 : Q (some (mI xt0)) s) (h_2 : xt0 = 0 ∨ xt0 = 1) : Wp X d 200 32 [some (mR 407), some (mI x1)] [mI xt0] s Q := Wp_step k200 f200_32 ⟨⟨rfl, h_2⟩, h_1⟩
theorem e200 {X : (Nat → Int) × Nat} {d : Nat} {s : mSt} {Q : mQ} (h : Wp X d 200 0 [some (mR 407), none] [] s Q) : Sp X d 200 [mR 407] s Q := Sp_of (show mCe 200 = 0 by decide +kernel) (by rw [show mML 200 = 2 by decide +kernel]; rfl) (Nat.le_trans (Nat.le_of_ble_eq_true (show Nat.ble (mArgs _).length 2 = true from rfl)) (show 2 ≤ mML 200 by decide +kernel)) h
-- 201 ClashDayModel.dayLineHere(I)Z
theorem k201 : mRk 201 = 2 := by decide +kernel
theorem f201_0 : mFetch 201 0 = some (.aload_n 0, 1, 0, 0, 0, 0) := by decide +kernel
theorem f201_1 : mFetch 201 1 = some (.ldc2_w 253, 3, 4153, 0, 0, 0) := by decide +kernel
theorem f201_4 : mFetch 201 4 = some (.invokevirtual 134, 3, 177, 0, 2, 12) := by decide +kernel
theorem f201_7 : mFetch 201 7 = some (.ifCond .eq 9, 3, 16, 0, 0, 0) := by decide +kernel
theorem f201_10 : mFetch 201 10 = some (.aload_n 0, 1, 0, 0, 0, 0) := by decide +kernel
theorem f201_11 : mFetch 201 11 = some (.iload_n 1, 1, 0, 0, 0, 0) := by decide +kernel
theorem f201_12 : mFetch 201 12 = some (.invokevirtual 255, 3, 197, 0, 2, 12) := by decide +kernel
theorem f201_15 : mFetch 201 15 = some (.ireturn, 1, 0, 0, 0, 0) := by decide +kernel
theorem f201_16 : mFetch 201 16 = some (.aload_n 0, 1, 0, 0, 0, 0) := by decide +kernel
theorem f201_17 : mFetch 201 17 = some (.getfield 26, 3, 12, 7, 2, 1) := by decide +kernel
theorem f201_20 : mFetch 201 20 = some (.iconst 0, 1, 0, 0, 0, 0) := by decide +kernel
theorem f201_21 : mFetch 201 21 = some (.iaload, 1, 0, 0, 0, 0) := by decide +kernel
theorem f201_22 : mFetch 201 22 = some (.ifCond .ne 10, 3, 32, 0, 0, 0) := by decide +kernel
theorem f201_25 : mFetch 201 25 = some (.aload_n 0, 1, 0, 0, 0, 0) := by decide +kernel
theorem f201_26 : mFetch 201 26 = some (.iconst 4, 1, 0, 0, 0, 0) := by decide +kernel
theorem f201_27 : mFetch 201 27 = some (.iload_n 1, 1, 0, 0, 0, 0) := by decide +kernel
theorem f201_28 : mFetch 201 28 = some (.invokevirtual 144, 3, 173, 0, 3, 12) := by decide +kernel
theorem f201_31 : mFetch 201 31 = some (.ireturn, 1, 0, 0, 0, 0) := by decide +kernel
theorem f201_32 : mFetch 201 32 = some (.aload_n 0, 1, 0, 0, 0, 0) := by decide +kernel
theorem f201_33 : mFetch 201 33 = some (.ldc2_w 258, 3, 16826546, 0, 0, 0) := by decide +kernel
theorem f201_36 : mFetch 201 36 = some (.invokevirtual 134, 3, 177, 0, 2, 12) := by decide +kernel
theorem f201_39 : mFetch 201 39 = some (.ifCond .eq 9, 3, 48, 0, 0, 0) := by decide +kernel
theorem f201_42 : mFetch 201 42 = some (.aload_n 0, 1, 0, 0, 0, 0) := by decide +kernel
theorem f201_43 : mFetch 201 43 = some (.iload_n 1, 1, 0, 0, 0, 0) := by decide +kernel
theorem f201_44 : mFetch 201 44 = some (.invokevirtual 260, 3, 198, 0, 2, 12) := by decide +kernel
theorem f201_47 : mFetch 201 47 = some (.ireturn, 1, 0, 0, 0, 0) := by decide +kernel
theorem f201_48 : mFetch 201 48 = some (.aload_n 0, 1, 0, 0, 0, 0) := by decide +kernel
theorem f201_49 : mFetch 201 49 = some (.ldc2_w 155, 3, 3348070794885, 0, 0, 0) := by decide +kernel
theorem f201_52 : mFetch 201 52 = some (.invokevirtual 134, 3, 177, 0, 2, 12) := by decide +kernel
theorem f201_55 : mFetch 201 55 = some (.ifCond .eq 11, 3, 66, 0, 0, 0) := by decide +kernel
theorem f201_58 : mFetch 201 58 = some (.aload_n 0, 1, 0, 0, 0, 0) := by decide +kernel
theorem f201_59 : mFetch 201 59 = some (.iload_n 1, 1, 0, 0, 0, 0) := by decide +kernel
theorem f201_60 : mFetch 201 60 = some (.invokevirtual 263, 3, 199, 0, 2, 12) := by decide +kernel
theorem f201_63 : mFetch 201 63 = some (.goto 7, 3, 70, 0, 0, 0) := by decide +kernel
theorem f201_66 : mFetch 201 66 = some (.aload_n 0, 1, 0, 0, 0, 0) := by decide +kernel
theorem f201_67 : mFetch 201 67 = some (.invokevirtual 266, 3, 200, 0, 1, 12) := by decide +kernel
theorem f201_70 : mFetch 201 70 = some (.ireturn, 1, 0, 0, 0, 0) := by decide +kernel
theorem b201_0 {X : (Nat → Int) × Nat} {d : Nat} {s : mSt} {Q : mQ} {x1 : Int} (h_1 : Sp X d 177 [mR 407, mJ 4153] s (fun r s' => ∃ v : Int, r = some (mI v) ∧ Wp X (d + 1) 201 7 [some (mR 407), some (mI x1)] [mI v] s' Q)) : Wp X (d + 1) 201 0 [some (mR 407), some (mI x1)] [] s Q := Wp_step k201 f201_0 (Wp_step k201 f201_1 (Wp_step k201 f201_4 ⟨⟨kf_407, Nat.le_of_ble_eq_true rfl⟩, Nat.le_refl _, _, rfl, Sp_E h_1⟩))
theorem b201_7 {X : (Nat → Int) × Nat} {d : Nat} {s : mSt} {Q : mQ} {x1 : Int} {xt0 : Int} (h_1 : xt0 = 0 → Wp X d 201 16 [some (mR 407), some (mI x1)] [] s Q) (h_2 : ¬ xt0 = 0 → Wp X d 201 10 [some (mR 407), some (mI x1)] [] s Q) : Wp X d 201 7 [some (mR 407), some (mI x1)] [mI xt0] s Q := Wp_step k201 f201_7 ⟨h_1, h_2⟩
theorem b201_10 {X : (Nat → Int) × Nat} {d : Nat} {s : mSt} {Q : mQ} {x1 : Int} (h_1 : Sp X d 197 [mR 407, mI x1] s (fun r s' => ∃ v : Int, r = some (mI v) ∧ Wp X (d + 1) 201 15 [some (mR 407), some (mI x1)] [mI v] s' Q)) : Wp X (d + 1) 201 10 [some (mR 407), some (mI x1)] [] s Q := Wp_step k201 f201_10 (Wp_step k201 f201_11 (Wp_step k201 f201_12 ⟨⟨kf_407, Nat.le_of_ble_eq_true rfl⟩, Nat.le_refl _, _, rfl, Sp_E h_1⟩))
theorem b201_15 {X : (Nat → Int) × Nat} {d : Nat} {s : mSt} {Q : mQ} {x1 : Int} {xt0 : Int} (h_1 : Q (some (mI xt0)) s) (h_2 : xt0 = 0 ∨ xt0 = 1) : Wp X d 201 15 [some (mR 407), some (mI x1)] [mI xt0] s Q := Wp_step k201 f201_15 ⟨⟨rfl, h_2⟩, h_1⟩
theorem b201_16 {X : (Nat → Int) × Nat} {d : Nat} {s : mSt} {Q : mQ} {x1 : Int} (h_1 : ¬ (s 413 0) = 0 → Wp X d 201 32 [some (mR 407), some (mI x1)] [] s Q) (h_2 : (s 413 0) = 0 → Wp X d 201 25 [some (mR 407), some (mI x1)] [] s Q) : Wp X d 201 16 [some (mR 407), some (mI x1)] [] s Q := Wp_step k201 f201_16 (Wp_step k201 f201_17 ⟨kf_407, 413, rf_407_7, Wp_step k201 f201_20 (Wp_step k201 f201_21 ⟨135, af_413, ⟨by decide, by decide⟩, Wp_step k201 f201_22 ⟨h_1, h_2⟩⟩)⟩)
theorem b201_25 {X : (Nat → Int) × Nat} {d : Nat} {s : mSt} {Q : mQ} {x1 : Int} (h_1 : Sp X d 173 [mR 407, mI 4, mI x1] s (fun r s' => ∃ v : Int, r = some (mI v) ∧ Wp X (d + 1) 201 31 [some (mR 407), some (mI x1)] [mI v] s' Q)) : Wp X (d + 1) 201 25 [some (mR 407), some (mI x1)] [] s Q := Wp_step k201 f201_25 (Wp_step k201 f201_26 (Wp_step k201 f201_27 (Wp_step k201 f201_28 ⟨⟨kf_407, Nat.le_of_ble_eq_true rfl⟩, Nat.le_refl _, _, rfl, Sp_E h_1⟩)))
theorem b201_31 {X : (Nat → Int) × Nat} {d : Nat} {s : mSt} {Q : mQ} {x1 : Int} {xt0 : Int} (h_1 : Q (some (mI xt0)) s) (h_2 : xt0 = 0 ∨ xt0 = 1) : Wp X d 201 31 [some (mR 407), some (mI x1)] [mI xt0] s Q := Wp_step k201 f201_31 ⟨⟨rfl, h_2⟩, h_1⟩
theorem b201_32 {X : (Nat → Int) × Nat} {d : Nat} {s : mSt} {Q : mQ} {x1 : Int} (h_1 : Sp X d 177 [mR 407, mJ 16826546] s (fun r s' => ∃ v : Int, r = some (mI v) ∧ Wp X (d + 1) 201 39 [some (mR 407), some (mI x1)] [mI v] s' Q)) : Wp X (d + 1) 201 32 [some (mR 407), some (mI x1)] [] s Q := Wp_step k201 f201_32 (Wp_step k201 f201_33 (Wp_step k201 f201_36 ⟨⟨kf_407, Nat.le_of_ble_eq_true rfl⟩, Nat.le_refl _, _, rfl, Sp_E h_1⟩))
theorem b201_39 {X : (Nat → Int) × Nat} {d : Nat} {s : mSt} {Q : mQ} {x1 : Int} {xt0 : Int} (h_1 : xt0 = 0 → Wp X d 201 48 [some (mR 407), some (mI x1)] [] s Q) (h_2 : ¬ xt0 = 0 → Wp X d 201 42 [some (mR 407), some (mI x1)] [] s Q) : Wp X d 201 39 [some (mR 407), some (mI x1)] [mI xt0] s Q := Wp_step k201 f201_39 ⟨h_1, h_2⟩
theorem b201_42 {X : (Nat → Int) × Nat} {d : Nat} {s : mSt} {Q : mQ} {x1 : Int} (h_1 : Sp X d 198 [mR 407, mI x1] s (fun r s' => ∃ v : Int, r = some (mI v) ∧ Wp X (d + 1) 201 47 [some (mR 407), some (mI x1)] [mI v] s' Q)) : Wp X (d + 1) 201 42 [some (mR 407), some (mI x1)] [] s Q := Wp_step k201 f201_42 (Wp_step k201 f201_43 (Wp_step k201 f201_44 ⟨⟨kf_407, Nat.le_of_ble_eq_true rfl⟩, Nat.le_refl _, _, rfl, Sp_E h_1⟩))
theorem b201_47 {X : (Nat → Int) × Nat} {d : Nat} {s : mSt} {Q : mQ} {x1 : Int} {xt0 : Int} (h_1 : Q (some (mI xt0)) s) (h_2 : xt0 = 0 ∨ xt0 = 1) : Wp X d 201 47 [some (mR 407), some (mI x1)] [mI xt0] s Q := Wp_step k201 f201_47 ⟨⟨rfl, h_2⟩, h_1⟩
theorem b201_48 {X : (Nat → Int) × Nat} {d : Nat} {s : mSt} {Q : mQ} {x1 : Int} (h_1 : Sp X d 177 [mR 407, mJ 3348070794885] s (fun r s' => ∃ v : Int, r = some (mI v) ∧ Wp X (d + 1) 201 55 [some (mR 407), some (mI x1)] [mI v] s' Q)) : Wp X (d + 1) 201 48 [some (mR 407), some (mI x1)] [] s Q := Wp_step k201 f201_48 (Wp_step k201 f201_49 (Wp_step k201 f201_52 ⟨⟨kf_407, Nat.le_of_ble_eq_true rfl⟩, Nat.le_refl _, _, rfl, Sp_E h_1⟩))
theorem b201_55 {X : (Nat → Int) × Nat} {d : Nat} {s : mSt} {Q : mQ} {x1 : Int} {xt0 : Int} (h_1 : xt0 = 0 → Wp X d 201 66 [some (mR 407), some (mI x1)] [] s Q) (h_2 : ¬ xt0 = 0 → Wp X d 201 58 [some (mR 407), some (mI x1)] [] s Q) : Wp X d 201 55 [some (mR 407), some (mI x1)] [mI xt0] s Q := Wp_step k201 f201_55 ⟨h_1, h_2⟩
theorem b201_58 {X : (Nat → Int) × Nat} {d : Nat} {s : mSt} {Q : mQ} {x1 : Int} (h_1 : Sp X d 199 [mR 407, mI x1] s (fun r s' => ∃ v : Int, r = some (mI v) ∧ Wp X (d + 1) 201 63 [some (mR 407), some (mI x1)] [mI v] s' Q)) : Wp X (d + 1) 201 58 [some (mR 407), some (mI x1)] [] s Q := Wp_step k201 f201_58 (Wp_step k201 f201_59 (Wp_step k201 f201_60 ⟨⟨kf_407, Nat.le_of_ble_eq_true rfl⟩, Nat.le_refl _, _, rfl, Sp_E h_1⟩))
theorem b201_63 {X : (Nat → Int) × Nat} {d : Nat} {s : mSt} {Q : mQ} {x1 : Int} {xt0 : Int} (h_1 : Wp X d 201 70 [some (mR 407), some (mI x1)] [mI xt0] s Q) : Wp X d 201 63 [some (mR 407), some (mI x1)] [mI xt0] s Q := Wp_step k201 f201_63 (h_1)
theorem b201_66 {X : (Nat → Int) × Nat} {d : Nat} {s : mSt} {Q : mQ} {x1 : Int} (h_1 : Sp X d 200 [mR 407] s (fun r s' => ∃ v : Int, r = some (mI v) ∧ Wp X (d + 1) 201 70 [some (mR 407), some (mI x1)] [mI v] s' Q)) : Wp X (d + 1) 201 66 [some (mR 407), some (mI x1)] [] s Q := Wp_step k201 f201_66 (Wp_step k201 f201_67 ⟨⟨kf_407, Nat.le_of_ble_eq_true rfl⟩, Nat.le_refl _, _, rfl, Sp_E h_1⟩)
theorem b201_70 {X : (Nat → Int) × Nat} {d : Nat} {s : mSt} {Q : mQ} {x1 : Int} {xt0 : Int} (h_1 : Q (some (mI xt0)) s) (h_2 : xt0 = 0 ∨ xt0 = 1) : Wp X d 201 70 [some (mR 407), some (mI x1)] [mI xt0] s Q := Wp_step k201 f201_70 ⟨⟨rfl, h_2⟩, h_1⟩
theorem e201 {X : (Nat → Int) × Nat} {d : Nat} {s : mSt} {Q : mQ} {x1 : Int} (h : Wp X d 201 0 [some (mR 407), some (mI x1)] [] s Q) : Sp X d 201 [mR 407, mI x1] s Q := Sp_of (show mCe 201 = 0 by decide +kernel) (by rw [show mML 201 = 2 by decide +kernel]; rfl) (Nat.le_trans (Nat.le_of_ble_eq_true (show Nat.ble (mArgs _).length 2 = true from rfl)) (show 2 ≤ mML 201 by decide +kernel)) h
-- 202 ClashDayModel.isDayWord()Z
theorem k202 : mRk 202 = 2 := by decide +kernel
theorem f202_0 : mFetch 202 0 = some (.aload_n 0, 1, 0, 0, 0, 0) := by decide +kernel
theorem f202_1 : mFetch 202 1 = some (.ldc2_w 253, 3, 4153, 0, 0, 0) := by decide +kernel
theorem f202_4 : mFetch 202 4 = some (.invokevirtual 134, 3, 177, 0, 2, 12) := by decide +kernel
theorem f202_7 : mFetch 202 7 = some (.ifCond .ne 33, 3, 40, 0, 0, 0) := by decide +kernel
theorem f202_10 : mFetch 202 10 = some (.aload_n 0, 1, 0, 0, 0, 0) := by decide +kernel
theorem f202_11 : mFetch 202 11 = some (.ldc2_w 258, 3, 16826546, 0, 0, 0) := by decide +kernel
theorem f202_14 : mFetch 202 14 = some (.invokevirtual 134, 3, 177, 0, 2, 12) := by decide +kernel
theorem f202_17 : mFetch 202 17 = some (.ifCond .ne 23, 3, 40, 0, 0, 0) := by decide +kernel
theorem f202_20 : mFetch 202 20 = some (.aload_n 0, 1, 0, 0, 0, 0) := by decide +kernel
theorem f202_21 : mFetch 202 21 = some (.ldc2_w 155, 3, 3348070794885, 0, 0, 0) := by decide +kernel
theorem f202_24 : mFetch 202 24 = some (.invokevirtual 134, 3, 177, 0, 2, 12) := by decide +kernel
theorem f202_27 : mFetch 202 27 = some (.ifCond .ne 13, 3, 40, 0, 0, 0) := by decide +kernel
theorem f202_30 : mFetch 202 30 = some (.aload_n 0, 1, 0, 0, 0, 0) := by decide +kernel
theorem f202_31 : mFetch 202 31 = some (.ldc2_w 269, 3, 21015726, 0, 0, 0) := by decide +kernel
theorem f202_34 : mFetch 202 34 = some (.invokevirtual 134, 3, 177, 0, 2, 12) := by decide +kernel
theorem f202_37 : mFetch 202 37 = some (.ifCond .eq 7, 3, 44, 0, 0, 0) := by decide +kernel
theorem f202_40 : mFetch 202 40 = some (.iconst 1, 1, 0, 0, 0, 0) := by decide +kernel
theorem f202_41 : mFetch 202 41 = some (.goto 4, 3, 45, 0, 0, 0) := by decide +kernel
theorem f202_44 : mFetch 202 44 = some (.iconst 0, 1, 0, 0, 0, 0) := by decide +kernel
theorem f202_45 : mFetch 202 45 = some (.ireturn, 1, 0, 0, 0, 0) := by decide +kernel
theorem b202_0 {X : (Nat → Int) × Nat} {d : Nat} {s : mSt} {Q : mQ} (h_1 : Sp X d 177 [mR 407, mJ 4153] s (fun r s' => ∃ v : Int, r = some (mI v) ∧ Wp X (d + 1) 202 7 [some (mR 407)] [mI v] s' Q)) : Wp X (d + 1) 202 0 [some (mR 407)] [] s Q := Wp_step k202 f202_0 (Wp_step k202 f202_1 (Wp_step k202 f202_4 ⟨⟨kf_407, Nat.le_of_ble_eq_true rfl⟩, Nat.le_refl _, _, rfl, Sp_E h_1⟩))
theorem b202_7 {X : (Nat → Int) × Nat} {d : Nat} {s : mSt} {Q : mQ} {xt0 : Int} (h_1 : ¬ xt0 = 0 → Wp X d 202 40 [some (mR 407)] [] s Q) (h_2 : xt0 = 0 → Wp X d 202 10 [some (mR 407)] [] s Q) : Wp X d 202 7 [some (mR 407)] [mI xt0] s Q := Wp_step k202 f202_7 ⟨h_1, h_2⟩
theorem b202_10 {X : (Nat → Int) × Nat} {d : Nat} {s : mSt} {Q : mQ} (h_1 : Sp X d 177 [mR 407, mJ 16826546] s (fun r s' => ∃ v : Int, r = some (mI v) ∧ Wp X (d + 1) 202 17 [some (mR 407)] [mI v] s' Q)) : Wp X (d + 1) 202 10 [some (mR 407)] [] s Q := Wp_step k202 f202_10 (Wp_step k202 f202_11 (Wp_step k202 f202_14 ⟨⟨kf_407, Nat.le_of_ble_eq_true rfl⟩, Nat.le_refl _, _, rfl, Sp_E h_1⟩))
theorem b202_17 {X : (Nat → Int) × Nat} {d : Nat} {s : mSt} {Q : mQ} {xt0 : Int} (h_1 : ¬ xt0 = 0 → Wp X d 202 40 [some (mR 407)] [] s Q) (h_2 : xt0 = 0 → Wp X d 202 20 [some (mR 407)] [] s Q) : Wp X d 202 17 [some (mR 407)] [mI xt0] s Q := Wp_step k202 f202_17 ⟨h_1, h_2⟩
theorem b202_20 {X : (Nat → Int) × Nat} {d : Nat} {s : mSt} {Q : mQ} (h_1 : Sp X d 177 [mR 407, mJ 3348070794885] s (fun r s' => ∃ v : Int, r = some (mI v) ∧ Wp X (d + 1) 202 27 [some (mR 407)] [mI v] s' Q)) : Wp X (d + 1) 202 20 [some (mR 407)] [] s Q := Wp_step k202 f202_20 (Wp_step k202 f202_21 (Wp_step k202 f202_24 ⟨⟨kf_407, Nat.le_of_ble_eq_true rfl⟩, Nat.le_refl _, _, rfl, Sp_E h_1⟩))
theorem b202_27 {X : (Nat → Int) × Nat} {d : Nat} {s : mSt} {Q : mQ} {xt0 : Int} (h_1 : ¬ xt0 = 0 → Wp X d 202 40 [some (mR 407)] [] s Q) (h_2 : xt0 = 0 → Wp X d 202 30 [some (mR 407)] [] s Q) : Wp X d 202 27 [some (mR 407)] [mI xt0] s Q := Wp_step k202 f202_27 ⟨h_1, h_2⟩
theorem b202_30 {X : (Nat → Int) × Nat} {d : Nat} {s : mSt} {Q : mQ} (h_1 : Sp X d 177 [mR 407, mJ 21015726] s (fun r s' => ∃ v : Int, r = some (mI v) ∧ Wp X (d + 1) 202 37 [some (mR 407)] [mI v] s' Q)) : Wp X (d + 1) 202 30 [some (mR 407)] [] s Q := Wp_step k202 f202_30 (Wp_step k202 f202_31 (Wp_step k202 f202_34 ⟨⟨kf_407, Nat.le_of_ble_eq_true rfl⟩, Nat.le_refl _, _, rfl, Sp_E h_1⟩))
theorem b202_37 {X : (Nat → Int) × Nat} {d : Nat} {s : mSt} {Q : mQ} {xt0 : Int} (h_1 : xt0 = 0 → Wp X d 202 44 [some (mR 407)] [] s Q) (h_2 : ¬ xt0 = 0 → Wp X d 202 40 [some (mR 407)] [] s Q) : Wp X d 202 37 [some (mR 407)] [mI xt0] s Q := Wp_step k202 f202_37 ⟨h_1, h_2⟩
theorem b202_40 {X : (Nat → Int) × Nat} {d : Nat} {s : mSt} {Q : mQ} (h_1 : Wp X d 202 45 [some (mR 407)] [mI 1] s Q) : Wp X d 202 40 [some (mR 407)] [] s Q := Wp_step k202 f202_40 (Wp_step k202 f202_41 (h_1))
theorem b202_44 {X : (Nat → Int) × Nat} {d : Nat} {s : mSt} {Q : mQ} (h_1 : Wp X d 202 45 [some (mR 407)] [mI 0] s Q) : Wp X d 202 44 [some (mR 407)] [] s Q := Wp_step k202 f202_44 (h_1)
theorem b202_45 {X : (Nat → Int) × Nat} {d : Nat} {s : mSt} {Q : mQ} {xt0 : Int} (h_1 : Q (some (mI xt0)) s) (h_2 : xt0 = 0 ∨ xt0 = 1) : Wp X d 202 45 [some (mR 407)] [mI xt0] s Q := Wp_step k202 f202_45 ⟨⟨rfl, h_2⟩, h_1⟩
theorem e202 {X : (Nat → Int) × Nat} {d : Nat} {s : mSt} {Q : mQ} (h : Wp X d 202 0 [some (mR 407)] [] s Q) : Sp X d 202 [mR 407] s Q := Sp_of (show mCe 202 = 0 by decide +kernel) (by rw [show mML 202 = 1 by decide +kernel]; rfl) (Nat.le_trans (Nat.le_of_ble_eq_true (show Nat.ble (mArgs _).length 1 = true from rfl)) (show 1 ≤ mML 202 by decide +kernel)) h
-- 203 ClashDayModel.clauseHere()Z
theorem k203 : mRk 203 = 2 := by decide +kernel
theorem f203_0 : mFetch 203 0 = some (.aload_n 0, 1, 0, 0, 0, 0) := by decide +kernel
theorem f203_1 : mFetch 203 1 = some (.invokevirtual 126, 3, 174, 0, 1, 12) := by decide +kernel
theorem f203_4 : mFetch 203 4 = some (.pop, 1, 0, 0, 0, 0) := by decide +kernel
theorem f203_5 : mFetch 203 5 = some (.aload_n 0, 1, 0, 0, 0, 0) := by decide +kernel
theorem f203_6 : mFetch 203 6 = some (.getfield 123, 3, 12, 8, 0, 1) := by decide +kernel
theorem f203_9 : mFetch 203 9 = some (.istore_n 1, 1, 0, 0, 0, 0) := by decide +kernel
theorem f203_10 : mFetch 203 10 = some (.aload_n 0, 1, 0, 0, 0, 0) := by decide +kernel
theorem f203_11 : mFetch 203 11 = some (.getfield 177, 3, 12, 11, 0, 1) := by decide +kernel
theorem f203_14 : mFetch 203 14 = some (.bipush 6, 2, 0, 0, 0, 0) := by decide +kernel
theorem f203_16 : mFetch 203 16 = some (.if_icmp .ne 7, 3, 23, 0, 0, 0) := by decide +kernel
theorem f203_19 : mFetch 203 19 = some (.iconst 1, 1, 0, 0, 0, 0) := by decide +kernel
theorem f203_20 : mFetch 203 20 = some (.goto 4, 3, 24, 0, 0, 0) := by decide +kernel
theorem f203_23 : mFetch 203 23 = some (.iconst 0, 1, 0, 0, 0, 0) := by decide +kernel
theorem f203_24 : mFetch 203 24 = some (.istore_n 2, 1, 0, 0, 0, 0) := by decide +kernel
theorem f203_25 : mFetch 203 25 = some (.iload_n 2, 1, 0, 0, 0, 0) := by decide +kernel
theorem f203_26 : mFetch 203 26 = some (.ifCond .eq 13, 3, 39, 0, 0, 0) := by decide +kernel
theorem f203_29 : mFetch 203 29 = some (.aload_n 0, 1, 0, 0, 0, 0) := by decide +kernel
theorem f203_30 : mFetch 203 30 = some (.invokevirtual 271, 3, 202, 0, 1, 12) := by decide +kernel
theorem f203_33 : mFetch 203 33 = some (.ifCond .ne 23, 3, 56, 0, 0, 0) := by decide +kernel
theorem f203_36 : mFetch 203 36 = some (.goto 13, 3, 49, 0, 0, 0) := by decide +kernel
theorem f203_39 : mFetch 203 39 = some (.aload_n 0, 1, 0, 0, 0, 0) := by decide +kernel
theorem f203_40 : mFetch 203 40 = some (.ldc2_w 274, 3, 536622, 0, 0, 0) := by decide +kernel
theorem f203_43 : mFetch 203 43 = some (.invokevirtual 134, 3, 177, 0, 2, 12) := by decide +kernel
theorem f203_46 : mFetch 203 46 = some (.ifCond .ne 10, 3, 56, 0, 0, 0) := by decide +kernel
theorem f203_49 : mFetch 203 49 = some (.aload_n 0, 1, 0, 0, 0, 0) := by decide +kernel
theorem f203_50 : mFetch 203 50 = some (.iconst 0, 1, 0, 0, 0, 0) := by decide +kernel
theorem f203_51 : mFetch 203 51 = some (.iload_n 1, 1, 0, 0, 0, 0) := by decide +kernel
theorem f203_52 : mFetch 203 52 = some (.invokevirtual 144, 3, 173, 0, 3, 12) := by decide +kernel
theorem f203_55 : mFetch 203 55 = some (.ireturn, 1, 0, 0, 0, 0) := by decide +kernel
theorem f203_56 : mFetch 203 56 = some (.aload_n 0, 1, 0, 0, 0, 0) := by decide +kernel
theorem f203_57 : mFetch 203 57 = some (.getfield 276, 3, 12, 14, 0, 1) := by decide +kernel
theorem f203_60 : mFetch 203 60 = some (.iload_n 2, 1, 0, 0, 0, 0) := by decide +kernel
theorem f203_61 : mFetch 203 61 = some (.ifCond .eq 8, 3, 69, 0, 0, 0) := by decide +kernel
theorem f203_64 : mFetch 203 64 = some (.bipush 40, 2, 0, 0, 0, 0) := by decide +kernel
theorem f203_66 : mFetch 203 66 = some (.goto 5, 3, 71, 0, 0, 0) := by decide +kernel
theorem f203_69 : mFetch 203 69 = some (.bipush 12, 2, 0, 0, 0, 0) := by decide +kernel
theorem f203_71 : mFetch 203 71 = some (.if_icmp .ne 10, 3, 81, 0, 0, 0) := by decide +kernel
theorem f203_74 : mFetch 203 74 = some (.aload_n 0, 1, 0, 0, 0, 0) := by decide +kernel
theorem f203_75 : mFetch 203 75 = some (.iconst 4, 1, 0, 0, 0, 0) := by decide +kernel
theorem f203_76 : mFetch 203 76 = some (.iload_n 1, 1, 0, 0, 0, 0) := by decide +kernel
theorem f203_77 : mFetch 203 77 = some (.invokevirtual 144, 3, 173, 0, 3, 12) := by decide +kernel
theorem f203_80 : mFetch 203 80 = some (.ireturn, 1, 0, 0, 0, 0) := by decide +kernel
theorem f203_81 : mFetch 203 81 = some (.aload_n 0, 1, 0, 0, 0, 0) := by decide +kernel
theorem f203_82 : mFetch 203 82 = some (.dup, 1, 0, 0, 0, 0) := by decide +kernel
theorem f203_83 : mFetch 203 83 = some (.getfield 276, 3, 12, 14, 0, 1) := by decide +kernel
theorem f203_86 : mFetch 203 86 = some (.iconst 1, 1, 0, 0, 0, 0) := by decide +kernel
theorem f203_87 : mFetch 203 87 = some (.iadd, 1, 0, 0, 0, 0) := by decide +kernel
theorem f203_88 : mFetch 203 88 = some (.putfield 276, 3, 12, 14, 0, 1) := by decide +kernel
theorem f203_91 : mFetch 203 91 = some (.iload_n 2, 1, 0, 0, 0, 0) := by decide +kernel
theorem f203_92 : mFetch 203 92 = some (.ifCond .eq 11, 3, 103, 0, 0, 0) := by decide +kernel
theorem f203_95 : mFetch 203 95 = some (.aload_n 0, 1, 0, 0, 0, 0) := by decide +kernel
theorem f203_96 : mFetch 203 96 = some (.iload_n 1, 1, 0, 0, 0, 0) := by decide +kernel
theorem f203_97 : mFetch 203 97 = some (.invokevirtual 279, 3, 201, 0, 2, 12) := by decide +kernel
theorem f203_100 : mFetch 203 100 = some (.goto 7, 3, 107, 0, 0, 0) := by decide +kernel
theorem f203_103 : mFetch 203 103 = some (.aload_n 0, 1, 0, 0, 0, 0) := by decide +kernel
theorem f203_104 : mFetch 203 104 = some (.invokevirtual 282, 3, 195, 0, 1, 12) := by decide +kernel
theorem f203_107 : mFetch 203 107 = some (.ireturn, 1, 0, 0, 0, 0) := by decide +kernel
theorem b203_0 {X : (Nat → Int) × Nat} {d : Nat} {s : mSt} {Q : mQ} {l1 : Option mV} {l2 : Option mV} (h_1 : Sp X d 174 [mR 407] s (fun r s' => ∃ v : Int, r = some (mI v) ∧ Wp X (d + 1) 203 4 [some (mR 407), l1, l2] [mI v] s' Q)) : Wp X (d + 1) 203 0 [some (mR 407), l1, l2] [] s Q := Wp_step k203 f203_0 (Wp_step k203 f203_1 ⟨⟨kf_407, Nat.le_of_ble_eq_true rfl⟩, Nat.le_refl _, _, rfl, Sp_E h_1⟩)
theorem b203_4 {X : (Nat → Int) × Nat} {d : Nat} {s : mSt} {Q : mQ} {l1 : Option mV} {l2 : Option mV} {xt0 : Int} (h_1 : ¬ (s 407 11) = 6 → Wp X d 203 23 [some (mR 407), some (mI (s 407 8)), l2] [] s Q) (h_2 : (s 407 11) = 6 → Wp X d 203 19 [some (mR 407), some (mI (s 407 8)), l2] [] s Q) : Wp X d 203 4 [some (mR 407), l1, l2] [mI xt0] s Q := Wp_step k203 f203_4 (Wp_step k203 f203_5 (Wp_step k203 f203_6 ⟨kf_407, Wp_step k203 f203_9 (Wp_step k203 f203_10 (Wp_step k203 f203_11 ⟨kf_407, Wp_step k203 f203_14 (Wp_step k203 f203_16 ⟨h_1, h_2⟩)⟩))⟩))
theorem b203_19 {X : (Nat → Int) × Nat} {d : Nat} {s : mSt} {Q : mQ} {x1 : Int} {l2 : Option mV} (h_1 : Wp X d 203 24 [some (mR 407), some (mI x1), l2] [mI 1] s Q) : Wp X d 203 19 [some (mR 407), some (mI x1), l2] [] s Q := Wp_step k203 f203_19 (Wp_step k203 f203_20 (h_1))
theorem b203_23 {X : (Nat → Int) × Nat} {d : Nat} {s : mSt} {Q : mQ} {x1 : Int} {l2 : Option mV} (h_1 : Wp X d 203 24 [some (mR 407), some (mI x1), l2] [mI 0] s Q) : Wp X d 203 23 [some (mR 407), some (mI x1), l2] [] s Q := Wp_step k203 f203_23 (h_1)
theorem b203_24 {X : (Nat → Int) × Nat} {d : Nat} {s : mSt} {Q : mQ} {x1 : Int} {l2 : Option mV} {xt0 : Int} (h_1 : xt0 = 0 → Wp X d 203 39 [some (mR 407), some (mI x1), some (mI xt0)] [] s Q) (h_2 : ¬ xt0 = 0 → Wp X d 203 29 [some (mR 407), some (mI x1), some (mI xt0)] [] s Q) : Wp X d 203 24 [some (mR 407), some (mI x1), l2] [mI xt0] s Q := Wp_step k203 f203_24 (Wp_step k203 f203_25 (Wp_step k203 f203_26 ⟨h_1, h_2⟩))
theorem b203_29 {X : (Nat → Int) × Nat} {d : Nat} {s : mSt} {Q : mQ} {x1 : Int} {x2 : Int} (h_1 : Sp X d 202 [mR 407] s (fun r s' => ∃ v : Int, r = some (mI v) ∧ Wp X (d + 1) 203 33 [some (mR 407), some (mI x1), some (mI x2)] [mI v] s' Q)) : Wp X (d + 1) 203 29 [some (mR 407), some (mI x1), some (mI x2)] [] s Q := Wp_step k203 f203_29 (Wp_step k203 f203_30 ⟨⟨kf_407, Nat.le_of_ble_eq_true rfl⟩, Nat.le_refl _, _, rfl, Sp_E h_1⟩)
theorem b203_33 {X : (Nat → Int) × Nat} {d : Nat} {s : mSt} {Q : mQ} {x1 : Int} {x2 : Int} {xt0 : Int} (h_1 : ¬ xt0 = 0 → Wp X d 203 56 [some (mR 407), some (mI x1), some (mI x2)] [] s Q) (h_2 : xt0 = 0 → Wp X d 203 36 [some (mR 407), some (mI x1), some (mI x2)] [] s Q) : Wp X d 203 33 [some (mR 407), some (mI x1), some (mI x2)] [mI xt0] s Q := Wp_step k203 f203_33 ⟨h_1, h_2⟩
theorem b203_36 {X : (Nat → Int) × Nat} {d : Nat} {s : mSt} {Q : mQ} {x1 : Int} {x2 : Int} (h_1 : Wp X d 203 49 [some (mR 407), some (mI x1), some (mI x2)] [] s Q) : Wp X d 203 36 [some (mR 407), some (mI x1), some (mI x2)] [] s Q := Wp_step k203 f203_36 (h_1)
theorem b203_39 {X : (Nat → Int) × Nat} {d : Nat} {s : mSt} {Q : mQ} {x1 : Int} {x2 : Int} (h_1 : Sp X d 177 [mR 407, mJ 536622] s (fun r s' => ∃ v : Int, r = some (mI v) ∧ Wp X (d + 1) 203 46 [some (mR 407), some (mI x1), some (mI x2)] [mI v] s' Q)) : Wp X (d + 1) 203 39 [some (mR 407), some (mI x1), some (mI x2)] [] s Q := Wp_step k203 f203_39 (Wp_step k203 f203_40 (Wp_step k203 f203_43 ⟨⟨kf_407, Nat.le_of_ble_eq_true rfl⟩, Nat.le_refl _, _, rfl, Sp_E h_1⟩))
theorem b203_46 {X : (Nat → Int) × Nat} {d : Nat} {s : mSt} {Q : mQ} {x1 : Int} {x2 : Int} {xt0 : Int} (h_1 : ¬ xt0 = 0 → Wp X d 203 56 [some (mR 407), some (mI x1), some (mI x2)] [] s Q) (h_2 : xt0 = 0 → Wp X d 203 49 [some (mR 407), some (mI x1), some (mI x2)] [] s Q) : Wp X d 203 46 [some (mR 407), some (mI x1), some (mI x2)] [mI xt0] s Q := Wp_step k203 f203_46 ⟨h_1, h_2⟩
theorem b203_49 {X : (Nat → Int) × Nat} {d : Nat} {s : mSt} {Q : mQ} {x1 : Int} {x2 : Int} (h_1 : Sp X d 173 [mR 407, mI 0, mI x1] s (fun r s' => ∃ v : Int, r = some (mI v) ∧ Wp X (d + 1) 203 55 [some (mR 407), some (mI x1), some (mI x2)] [mI v] s' Q)) : Wp X (d + 1) 203 49 [some (mR 407), some (mI x1), some (mI x2)] [] s Q := Wp_step k203 f203_49 (Wp_step k203 f203_50 (Wp_step k203 f203_51 (Wp_step k203 f203_52 ⟨⟨kf_407, Nat.le_of_ble_eq_true rfl⟩, Nat.le_refl _, _, rfl, Sp_E h_1⟩)))
theorem b203_55 {X : (Nat → Int) × Nat} {d : Nat} {s : mSt} {Q : mQ} {x1 : Int} {x2 : Int} {xt0 : Int} (h_1 : Q (some (mI xt0)) s) (h_2 : xt0 = 0 ∨ xt0 = 1) : Wp X d 203 55 [some (mR 407), some (mI x1), some (mI x2)] [mI xt0] s Q := Wp_step k203 f203_55 ⟨⟨rfl, h_2⟩, h_1⟩
theorem b203_56 {X : (Nat → Int) × Nat} {d : Nat} {s : mSt} {Q : mQ} {x1 : Int} {x2 : Int} (h_1 : x2 = 0 → Wp X d 203 69 [some (mR 407), some (mI x1), some (mI x2)] [mI (s 407 14)] s Q) (h_2 : ¬ x2 = 0 → Wp X d 203 64 [some (mR 407), some (mI x1), some (mI x2)] [mI (s 407 14)] s Q) : Wp X d 203 56 [some (mR 407), some (mI x1), some (mI x2)] [] s Q := Wp_step k203 f203_56 (Wp_step k203 f203_57 ⟨kf_407, Wp_step k203 f203_60 (Wp_step k203 f203_61 ⟨h_1, h_2⟩)⟩)
theorem b203_64 {X : (Nat → Int) × Nat} {d : Nat} {s : mSt} {Q : mQ} {x1 : Int} {x2 : Int} {xt0 : Int} (h_1 : Wp X d 203 71 [some (mR 407), some (mI x1), some (mI x2)] [mI 40, mI xt0] s Q) : Wp X d 203 64 [some (mR 407), some (mI x1), some (mI x2)] [mI xt0] s Q := Wp_step k203 f203_64 (Wp_step k203 f203_66 (h_1))
theorem b203_69 {X : (Nat → Int) × Nat} {d : Nat} {s : mSt} {Q : mQ} {x1 : Int} {x2 : Int} {xt0 : Int} (h_1 : Wp X d 203 71 [some (mR 407), some (mI x1), some (mI x2)] [mI 12, mI xt0] s Q) : Wp X d 203 69 [some (mR 407), some (mI x1), some (mI x2)] [mI xt0] s Q := Wp_step k203 f203_69 (h_1)
theorem b203_71 {X : (Nat → Int) × Nat} {d : Nat} {s : mSt} {Q : mQ} {x1 : Int} {x2 : Int} {xt0 : Int} {xt1 : Int} (h_1 : ¬ xt0 = xt1 → Wp X d 203 81 [some (mR 407), some (mI x1), some (mI x2)] [] s Q) (h_2 : xt0 = xt1 → Wp X d 203 74 [some (mR 407), some (mI x1), some (mI x2)] [] s Q) : Wp X d 203 71 [some (mR 407), some (mI x1), some (mI x2)] [mI xt1, mI xt0] s Q := Wp_step k203 f203_71 ⟨h_1, h_2⟩
theorem b203_74 {X : (Nat → Int) × Nat} {d : Nat} {s : mSt} {Q : mQ} {x1 : Int} {x2 : Int} (h_1 : Sp X d 173 [mR 407, mI 4, mI x1] s (fun r s' => ∃ v : Int, r = some (mI v) ∧ Wp X (d + 1) 203 80 [some (mR 407), some (mI x1), some (mI x2)] [mI v] s' Q)) : Wp X (d + 1) 203 74 [some (mR 407), some (mI x1), some (mI x2)] [] s Q := Wp_step k203 f203_74 (Wp_step k203 f203_75 (Wp_step k203 f203_76 (Wp_step k203 f203_77 ⟨⟨kf_407, Nat.le_of_ble_eq_true rfl⟩, Nat.le_refl _, _, rfl, Sp_E h_1⟩)))
theorem b203_80 {X : (Nat → Int) × Nat} {d : Nat} {s : mSt} {Q : mQ} {x1 : Int} {x2 : Int} {xt0 : Int} (h_1 : Q (some (mI xt0)) s) (h_2 : xt0 = 0 ∨ xt0 = 1) : Wp X d 203 80 [some (mR 407), some (mI x1), some (mI x2)] [mI xt0] s Q := Wp_step k203 f203_80 ⟨⟨rfl, h_2⟩, h_1⟩
theorem b203_81 {X : (Nat → Int) × Nat} {d : Nat} {s : mSt} {Q : mQ} {x1 : Int} {x2 : Int} (h_1 : x2 = 0 → Wp X d 203 103 [some (mR 407), some (mI x1), some (mI x2)] [] (uS s 407 14 (w32 ((s 407 14) + 1))) Q) (h_2 : ¬ x2 = 0 → Wp X d 203 95 [some (mR 407), some (mI x1), some (mI x2)] [] (uS s 407 14 (w32 ((s 407 14) + 1))) Q) : Wp X d 203 81 [some (mR 407), some (mI x1), some (mI x2)] [] s Q := Wp_step k203 f203_81 (Wp_step k203 f203_82 (Wp_step k203 f203_83 ⟨kf_407, Wp_step k203 f203_86 (Wp_step k203 f203_87 (Wp_step k203 f203_88 ⟨kf_407, Wp_step k203 f203_91 (Wp_step k203 f203_92 ⟨h_1, h_2⟩)⟩))⟩))
theorem b203_95 {X : (Nat → Int) × Nat} {d : Nat} {s : mSt} {Q : mQ} {x1 : Int} {x2 : Int} (h_1 : Sp X d 201 [mR 407, mI x1] s (fun r s' => ∃ v : Int, r = some (mI v) ∧ Wp X (d + 1) 203 100 [some (mR 407), some (mI x1), some (mI x2)] [mI v] s' Q)) : Wp X (d + 1) 203 95 [some (mR 407), some (mI x1), some (mI x2)] [] s Q := Wp_step k203 f203_95 (Wp_step k203 f203_96 (Wp_step k203 f203_97 ⟨⟨kf_407, Nat.le_of_ble_eq_true rfl⟩, Nat.le_refl _, _, rfl, Sp_E h_1⟩))
theorem b203_100 {X : (Nat → Int) × Nat} {d : Nat} {s : mSt} {Q : mQ} {x1 : Int} {x2 : Int} {xt0 : Int} (h_1 : Wp X d 203 107 [some (mR 407), some (mI x1), some (mI x2)] [mI xt0] s Q) : Wp X d 203 100 [some (mR 407), some (mI x1), some (mI x2)] [mI xt0] s Q := Wp_step k203 f203_100 (h_1)
theorem b203_103 {X : (Nat → Int) × Nat} {d : Nat} {s : mSt} {Q : mQ} {x1 : Int} {x2 : Int} (h_1 : Sp X d 195 [mR 407] s (fun r s' => ∃ v : Int, r = some (mI v) ∧ Wp X (d + 1) 203 107 [some (mR 407), some (mI x1), some (mI x2)] [mI v] s' Q)) : Wp X (d + 1) 203 103 [some (mR 407), some (mI x1), some (mI x2)] [] s Q := Wp_step k203 f203_103 (Wp_step k203 f203_104 ⟨⟨kf_407, Nat.le_of_ble_eq_true rfl⟩, Nat.le_refl _, _, rfl, Sp_E h_1⟩)
theorem b203_107 {X : (Nat → Int) × Nat} {d : Nat} {s : mSt} {Q : mQ} {x1 : Int} {x2 : Int} {xt0 : Int} (h_1 : Q (some (mI xt0)) s) (h_2 : xt0 = 0 ∨ xt0 = 1) : Wp X d 203 107 [some (mR 407), some (mI x1), some (mI x2)] [mI xt0] s Q := Wp_step k203 f203_107 ⟨⟨rfl, h_2⟩, h_1⟩
theorem e203 {X : (Nat → Int) × Nat} {d : Nat} {s : mSt} {Q : mQ} (h : Wp X d 203 0 [some (mR 407), none, none] [] s Q) : Sp X d 203 [mR 407] s Q := Sp_of (show mCe 203 = 0 by decide +kernel) (by rw [show mML 203 = 3 by decide +kernel]; rfl) (Nat.le_trans (Nat.le_of_ble_eq_true (show Nat.ble (mArgs _).length 3 = true from rfl)) (show 3 ≤ mML 203 by decide +kernel)) h
-- 204 ClashDayModel.readsAll()Z
theorem k204 : mRk 204 = 2 := by decide +kernel
theorem f204_0 : mFetch 204 0 = some (.aload_n 0, 1, 0, 0, 0, 0) := by decide +kernel
theorem f204_1 : mFetch 204 1 = some (.getfield 17, 3, 12, 4, 2, 1) := by decide +kernel
theorem f204_4 : mFetch 204 4 = some (.aload_n 0, 1, 0, 0, 0, 0) := by decide +kernel
theorem f204_5 : mFetch 204 5 = some (.getfield 177, 3, 12, 11, 0, 1) := by decide +kernel
theorem f204_8 : mFetch 204 8 = some (.iconst 0, 1, 0, 0, 0, 0) := by decide +kernel
theorem f204_9 : mFetch 204 9 = some (.iastore, 1, 0, 0, 0, 0) := by decide +kernel
theorem f204_10 : mFetch 204 10 = some (.aload_n 0, 1, 0, 0, 0, 0) := by decide +kernel
theorem f204_11 : mFetch 204 11 = some (.iconst 0, 1, 0, 0, 0, 0) := by decide +kernel
theorem f204_12 : mFetch 204 12 = some (.putfield 276, 3, 12, 14, 0, 1) := by decide +kernel
theorem f204_15 : mFetch 204 15 = some (.aload_n 0, 1, 0, 0, 0, 0) := by decide +kernel
theorem f204_16 : mFetch 204 16 = some (.iconst 0, 1, 0, 0, 0, 0) := by decide +kernel
theorem f204_17 : mFetch 204 17 = some (.putfield 123, 3, 12, 8, 0, 1) := by decide +kernel
theorem f204_20 : mFetch 204 20 = some (.aload_n 0, 1, 0, 0, 0, 0) := by decide +kernel
theorem f204_21 : mFetch 204 21 = some (.iconst 0, 1, 0, 0, 0, 0) := by decide +kernel
theorem f204_22 : mFetch 204 22 = some (.putfield 120, 3, 12, 9, 0, 1) := by decide +kernel
theorem f204_25 : mFetch 204 25 = some (.aload_n 0, 1, 0, 0, 0, 0) := by decide +kernel
theorem f204_26 : mFetch 204 26 = some (.iconst 0, 1, 0, 0, 0, 0) := by decide +kernel
theorem f204_27 : mFetch 204 27 = some (.putfield 180, 3, 12, 12, 0, 1) := by decide +kernel
theorem f204_30 : mFetch 204 30 = some (.aload_n 0, 1, 0, 0, 0, 0) := by decide +kernel
theorem f204_31 : mFetch 204 31 = some (.invokevirtual 285, 3, 203, 0, 1, 12) := by decide +kernel
theorem f204_34 : mFetch 204 34 = some (.istore_n 1, 1, 0, 0, 0, 0) := by decide +kernel
theorem f204_35 : mFetch 204 35 = some (.iload_n 1, 1, 0, 0, 0, 0) := by decide +kernel
theorem f204_36 : mFetch 204 36 = some (.ifCond .eq 30, 3, 66, 0, 0, 0) := by decide +kernel
theorem f204_39 : mFetch 204 39 = some (.aload_n 0, 1, 0, 0, 0, 0) := by decide +kernel
theorem f204_40 : mFetch 204 40 = some (.invokevirtual 126, 3, 174, 0, 1, 12) := by decide +kernel
theorem f204_43 : mFetch 204 43 = some (.bipush 59, 2, 0, 0, 0, 0) := by decide +kernel
theorem f204_45 : mFetch 204 45 = some (.if_icmp .ne 21, 3, 66, 0, 0, 0) := by decide +kernel
theorem f204_48 : mFetch 204 48 = some (.aload_n 0, 1, 0, 0, 0, 0) := by decide +kernel
theorem f204_49 : mFetch 204 49 = some (.dup, 1, 0, 0, 0, 0) := by decide +kernel
theorem f204_50 : mFetch 204 50 = some (.getfield 123, 3, 12, 8, 0, 1) := by decide +kernel
theorem f204_53 : mFetch 204 53 = some (.iconst 1, 1, 0, 0, 0, 0) := by decide +kernel
theorem f204_54 : mFetch 204 54 = some (.iadd, 1, 0, 0, 0, 0) := by decide +kernel
theorem f204_55 : mFetch 204 55 = some (.putfield 123, 3, 12, 8, 0, 1) := by decide +kernel
theorem f204_58 : mFetch 204 58 = some (.aload_n 0, 1, 0, 0, 0, 0) := by decide +kernel
theorem f204_59 : mFetch 204 59 = some (.invokevirtual 285, 3, 203, 0, 1, 12) := by decide +kernel
theorem f204_62 : mFetch 204 62 = some (.istore_n 1, 1, 0, 0, 0, 0) := by decide +kernel
theorem f204_63 : mFetch 204 63 = some (.goto (-28), 3, 35, 0, 0, 0) := by decide +kernel
theorem f204_66 : mFetch 204 66 = some (.iload_n 1, 1, 0, 0, 0, 0) := by decide +kernel
theorem f204_67 : mFetch 204 67 = some (.ifCond .eq 21, 3, 88, 0, 0, 0) := by decide +kernel
theorem f204_70 : mFetch 204 70 = some (.aload_n 0, 1, 0, 0, 0, 0) := by decide +kernel
theorem f204_71 : mFetch 204 71 = some (.invokevirtual 126, 3, 174, 0, 1, 12) := by decide +kernel
theorem f204_74 : mFetch 204 74 = some (.iconst (-1), 1, 0, 0, 0, 0) := by decide +kernel
theorem f204_75 : mFetch 204 75 = some (.if_icmp .eq 13, 3, 88, 0, 0, 0) := by decide +kernel
theorem f204_78 : mFetch 204 78 = some (.aload_n 0, 1, 0, 0, 0, 0) := by decide +kernel
theorem f204_79 : mFetch 204 79 = some (.iconst 0, 1, 0, 0, 0, 0) := by decide +kernel
theorem f204_80 : mFetch 204 80 = some (.aload_n 0, 1, 0, 0, 0, 0) := by decide +kernel
theorem f204_81 : mFetch 204 81 = some (.getfield 123, 3, 12, 8, 0, 1) := by decide +kernel
theorem f204_84 : mFetch 204 84 = some (.invokevirtual 144, 3, 173, 0, 3, 12) := by decide +kernel
theorem f204_87 : mFetch 204 87 = some (.pop, 1, 0, 0, 0, 0) := by decide +kernel
theorem f204_88 : mFetch 204 88 = some (.aload_n 0, 1, 0, 0, 0, 0) := by decide +kernel
theorem f204_89 : mFetch 204 89 = some (.iconst 0, 1, 0, 0, 0, 0) := by decide +kernel
theorem f204_90 : mFetch 204 90 = some (.putfield 113, 3, 12, 1, 0, 1) := by decide +kernel
theorem f204_93 : mFetch 204 93 = some (.aload_n 0, 1, 0, 0, 0, 0) := by decide +kernel
theorem f204_94 : mFetch 204 94 = some (.getfield 120, 3, 12, 9, 0, 1) := by decide +kernel
theorem f204_97 : mFetch 204 97 = some (.ifCond .ne 7, 3, 104, 0, 0, 0) := by decide +kernel
theorem f204_100 : mFetch 204 100 = some (.iconst 1, 1, 0, 0, 0, 0) := by decide +kernel
theorem f204_101 : mFetch 204 101 = some (.goto 4, 3, 105, 0, 0, 0) := by decide +kernel
theorem f204_104 : mFetch 204 104 = some (.iconst 0, 1, 0, 0, 0, 0) := by decide +kernel
theorem f204_105 : mFetch 204 105 = some (.ireturn, 1, 0, 0, 0, 0) := by decide +kernel
theorem b204_0 {X : (Nat → Int) × Nat} {d : Nat} {s : mSt} {Q : mQ} {l1 : Option mV} (h_1 : 0 ≤ (s 407 11) ∧ (s 407 11) < 7) (h_2 : Sp X d 203 [mR 407] (uS (uS (uS (uS (uS s 410 ((s 407 11).toNat) 0) 407 14 0) 407 8 0) 407 9 0) 407 12 0) (fun r s' => ∃ v : Int, r = some (mI v) ∧ Wp X (d + 1) 204 34 [some (mR 407), l1] [mI v] s' Q)) : Wp X (d + 1) 204 0 [some (mR 407), l1] [] s Q := Wp_step k204 f204_0 (Wp_step k204 f204_1 ⟨kf_407, 410, rf_407_4, Wp_step k204 f204_4 (Wp_step k204 f204_5 ⟨kf_407, Wp_step k204 f204_8 (Wp_step k204 f204_9 ⟨7, af_410, h_1, Wp_step k204 f204_10 (Wp_step k204 f204_11 (Wp_step k204 f204_12 ⟨kf_407, Wp_step k204 f204_15 (Wp_step k204 f204_16 (Wp_step k204 f204_17 ⟨kf_407, Wp_step k204 f204_20 (Wp_step k204 f204_21 (Wp_step k204 f204_22 ⟨kf_407, Wp_step k204 f204_25 (Wp_step k204 f204_26 (Wp_step k204 f204_27 ⟨kf_407, Wp_step k204 f204_30 (Wp_step k204 f204_31 ⟨⟨kf_407, Nat.le_of_ble_eq_true rfl⟩, Nat.le_refl _, _, rfl, Sp_E h_2⟩)⟩))⟩))⟩))⟩))⟩)⟩)⟩)
theorem b204_34 {X : (Nat → Int) × Nat} {d : Nat} {s : mSt} {Q : mQ} {l1 : Option mV} {xt0 : Int} (h_1 : Wp X d 204 35 [some (mR 407), some (mI xt0)] [] s Q) : Wp X d 204 34 [some (mR 407), l1] [mI xt0] s Q := Wp_step k204 f204_34 (h_1)
theorem b204_35 {X : (Nat → Int) × Nat} {d : Nat} {s : mSt} {Q : mQ} {x1 : Int} (h_1 : x1 = 0 → Wp X d 204 66 [some (mR 407), some (mI x1)] [] s Q) (h_2 : ¬ x1 = 0 → Wp X d 204 39 [some (mR 407), some (mI x1)] [] s Q) : Wp X d 204 35 [some (mR 407), some (mI x1)] [] s Q := Wp_step k204 f204_35 (Wp_step k204 f204_36 ⟨h_1, h_2⟩)
theorem b204_39 {X : (Nat → Int) × Nat} {d : Nat} {s : mSt} {Q : mQ} {x1 : Int} (h_1 : Sp X d 174 [mR 407] s (fun r s' => ∃ v : Int, r = some (mI v) ∧ Wp X (d + 1) 204 43 [some (mR 407), some (mI x1)] [mI v] s' Q)) : Wp X (d + 1) 204 39 [some (mR 407), some (mI x1)] [] s Q := Wp_step k204 f204_39 (Wp_step k204 f204_40 ⟨⟨kf_407, Nat.le_of_ble_eq_true rfl⟩, Nat.le_refl _, _, rfl, Sp_E h_1⟩)
theorem b204_43 {X : (Nat → Int) × Nat} {d : Nat} {s : mSt} {Q : mQ} {x1 : Int} {xt0 : Int} (h_1 : ¬ xt0 = 59 → Wp X d 204 66 [some (mR 407), some (mI x1)] [] s Q) (h_2 : xt0 = 59 → Wp X d 204 48 [some (mR 407), some (mI x1)] [] s Q) : Wp X d 204 43 [some (mR 407), some (mI x1)] [mI xt0] s Q := Wp_step k204 f204_43 (Wp_step k204 f204_45 ⟨h_1, h_2⟩)
theorem b204_48 {X : (Nat → Int) × Nat} {d : Nat} {s : mSt} {Q : mQ} {x1 : Int} (h_1 : Sp X d 203 [mR 407] (uS s 407 8 (w32 ((s 407 8) + 1))) (fun r s' => ∃ v : Int, r = some (mI v) ∧ Wp X (d + 1) 204 62 [some (mR 407), some (mI x1)] [mI v] s' Q)) : Wp X (d + 1) 204 48 [some (mR 407), some (mI x1)] [] s Q := Wp_step k204 f204_48 (Wp_step k204 f204_49 (Wp_step k204 f204_50 ⟨kf_407, Wp_step k204 f204_53 (Wp_step k204 f204_54 (Wp_step k204 f204_55 ⟨kf_407, Wp_step k204 f204_58 (Wp_step k204 f204_59 ⟨⟨kf_407, Nat.le_of_ble_eq_true rfl⟩, Nat.le_refl _, _, rfl, Sp_E h_1⟩)⟩))⟩))
theorem b204_62 {X : (Nat → Int) × Nat} {d : Nat} {s : mSt} {Q : mQ} {x1 : Int} {xt0 : Int} (h_1 : Wp X d 204 35 [some (mR 407), some (mI xt0)] [] s Q) : Wp X d 204 62 [some (mR 407), some (mI x1)] [mI xt0] s Q := Wp_step k204 f204_62 (Wp_step k204 f204_63 (h_1))
theorem b204_66 {X : (Nat → Int) × Nat} {d : Nat} {s : mSt} {Q : mQ} {x1 : Int} (h_1 : x1 = 0 → Wp X d 204 88 [some (mR 407), some (mI x1)] [] s Q) (h_2 : ¬ x1 = 0 → Wp X d 204 70 [some (mR 407), some (mI x1)] [] s Q) : Wp X d 204 66 [some (mR 407), some (mI x1)] [] s Q := Wp_step k204 f204_66 (Wp_step k204 f204_67 ⟨h_1, h_2⟩)
theorem b204_70 {X : (Nat → Int) × Nat} {d : Nat} {s : mSt} {Q : mQ} {x1 : Int} (h_1 : Sp X d 174 [mR 407] s (fun r s' => ∃ v : Int, r = some (mI v) ∧ Wp X (d + 1) 204 74 [some (mR 407), some (mI x1)] [mI v] s' Q)) : Wp X (d + 1) 204 70 [some (mR 407), some (mI x1)] [] s Q := Wp_step k204 f204_70 (Wp_step k204 f204_71 ⟨⟨kf_407, Nat.le_of_ble_eq_true rfl⟩, Nat.le_refl _, _, rfl, Sp_E h_1⟩)
theorem b204_74 {X : (Nat → Int) × Nat} {d : Nat} {s : mSt} {Q : mQ} {x1 : Int} {xt0 : Int} (h_1 : xt0 = (-1) → Wp X d 204 88 [some (mR 407), some (mI x1)] [] s Q) (h_2 : ¬ xt0 = (-1) → Wp X d 204 78 [some (mR 407), some (mI x1)] [] s Q) : Wp X d 204 74 [some (mR 407), some (mI x1)] [mI xt0] s Q := Wp_step k204 f204_74 (Wp_step k204 f204_75 ⟨h_1, h_2⟩)
theorem b204_78 {X : (Nat → Int) × Nat} {d : Nat} {s : mSt} {Q : mQ} {x1 : Int} (h_1 : Sp X d 173 [mR 407, mI 0, mI (s 407 8)] s (fun r s' => ∃ v : Int, r = some (mI v) ∧ Wp X (d + 1) 204 87 [some (mR 407), some (mI x1)] [mI v] s' Q)) : Wp X (d + 1) 204 78 [some (mR 407), some (mI x1)] [] s Q := Wp_step k204 f204_78 (Wp_step k204 f204_79 (Wp_step k204 f204_80 (Wp_step k204 f204_81 ⟨kf_407, Wp_step k204 f204_84 ⟨⟨kf_407, Nat.le_of_ble_eq_true rfl⟩, Nat.le_refl _, _, rfl, Sp_E h_1⟩⟩)))
theorem b204_87 {X : (Nat → Int) × Nat} {d : Nat} {s : mSt} {Q : mQ} {x1 : Int} {xt0 : Int} (h_1 : Wp X d 204 88 [some (mR 407), some (mI x1)] [] s Q) : Wp X d 204 87 [some (mR 407), some (mI x1)] [mI xt0] s Q := Wp_step k204 f204_87 (h_1)
theorem b204_88 {X : (Nat → Int) × Nat} {d : Nat} {s : mSt} {Q : mQ} {x1 : Int} (h_1 : ¬ ((uS s 407 1 0) 407 9) = 0 → Wp X d 204 104 [some (mR 407), some (mI x1)] [] (uS s 407 1 0) Q) (h_2 : ((uS s 407 1 0) 407 9) = 0 → Wp X d 204 100 [some (mR 407), some (mI x1)] [] (uS s 407 1 0) Q) : Wp X d 204 88 [some (mR 407), some (mI x1)] [] s Q := Wp_step k204 f204_88 (Wp_step k204 f204_89 (Wp_step k204 f204_90 ⟨kf_407, Wp_step k204 f204_93 (Wp_step k204 f204_94 ⟨kf_407, Wp_step k204 f204_97 ⟨h_1, h_2⟩⟩)⟩))
theorem b204_100 {X : (Nat → Int) × Nat} {d : Nat} {s : mSt} {Q : mQ} {x1 : Int} (h_1 : Wp X d 204 105 [some (mR 407), some (mI x1)] [mI 1] s Q) : Wp X d 204 100 [some (mR 407), some (mI x1)] [] s Q := Wp_step k204 f204_100 (Wp_step k204 f204_101 (h_1))
theorem b204_104 {X : (Nat → Int) × Nat} {d : Nat} {s : mSt} {Q : mQ} {x1 : Int} (h_1 : Wp X d 204 105 [some (mR 407), some (mI x1)] [mI 0] s Q) : Wp X d 204 104 [some (mR 407), some (mI x1)] [] s Q := Wp_step k204 f204_104 (h_1)
theorem b204_105 {X : (Nat → Int) × Nat} {d : Nat} {s : mSt} {Q : mQ} {x1 : Int} {xt0 : Int} (h_1 : Q (some (mI xt0)) s) (h_2 : xt0 = 0 ∨ xt0 = 1) : Wp X d 204 105 [some (mR 407), some (mI x1)] [mI xt0] s Q := Wp_step k204 f204_105 ⟨⟨rfl, h_2⟩, h_1⟩
theorem e204 {X : (Nat → Int) × Nat} {d : Nat} {s : mSt} {Q : mQ} (h : Wp X d 204 0 [some (mR 407), none] [] s Q) : Sp X d 204 [mR 407] s Q := Sp_of (show mCe 204 = 0 by decide +kernel) (by rw [show mML 204 = 2 by decide +kernel]; rfl) (Nat.le_trans (Nat.le_of_ble_eq_true (show Nat.ble (mArgs _).length 2 = true from rfl)) (show 2 ≤ mML 204 by decide +kernel)) h
-- 205 ClashDayModel.rule()I
theorem k205 : mRk 205 = 1 := by decide +kernel
theorem f205_0 : mFetch 205 0 = some (.aload_n 0, 1, 0, 0, 0, 0) := by decide +kernel
theorem f205_1 : mFetch 205 1 = some (.getfield 288, 3, 12, 2, 0, 1) := by decide +kernel
theorem f205_4 : mFetch 205 4 = some (.bipush 6, 2, 0, 0, 0, 0) := by decide +kernel
theorem f205_6 : mFetch 205 6 = some (.if_icmp .ne 5, 3, 11, 0, 0, 0) := by decide +kernel
theorem f205_9 : mFetch 205 9 = some (.iconst (-1), 1, 0, 0, 0, 0) := by decide +kernel
theorem f205_10 : mFetch 205 10 = some (.ireturn, 1, 0, 0, 0, 0) := by decide +kernel
theorem f205_11 : mFetch 205 11 = some (.aload_n 0, 1, 0, 0, 0, 0) := by decide +kernel
theorem f205_12 : mFetch 205 12 = some (.aload_n 0, 1, 0, 0, 0, 0) := by decide +kernel
theorem f205_13 : mFetch 205 13 = some (.getfield 288, 3, 12, 2, 0, 1) := by decide +kernel
theorem f205_16 : mFetch 205 16 = some (.putfield 177, 3, 12, 11, 0, 1) := by decide +kernel
theorem f205_19 : mFetch 205 19 = some (.aload_n 0, 1, 0, 0, 0, 0) := by decide +kernel
theorem f205_20 : mFetch 205 20 = some (.getfield 23, 3, 12, 6, 2, 1) := by decide +kernel
theorem f205_23 : mFetch 205 23 = some (.aload_n 0, 1, 0, 0, 0, 0) := by decide +kernel
theorem f205_24 : mFetch 205 24 = some (.getfield 177, 3, 12, 11, 0, 1) := by decide +kernel
theorem f205_27 : mFetch 205 27 = some (.iconst 0, 1, 0, 0, 0, 0) := by decide +kernel
theorem f205_28 : mFetch 205 28 = some (.iastore, 1, 0, 0, 0, 0) := by decide +kernel
theorem f205_29 : mFetch 205 29 = some (.aload_n 0, 1, 0, 0, 0, 0) := by decide +kernel
theorem f205_30 : mFetch 205 30 = some (.invokevirtual 291, 3, 204, 0, 1, 12) := by decide +kernel
theorem f205_33 : mFetch 205 33 = some (.ifCond .ne 11, 3, 44, 0, 0, 0) := by decide +kernel
theorem f205_36 : mFetch 205 36 = some (.bipush (-2), 2, 0, 0, 0, 0) := by decide +kernel
theorem f205_38 : mFetch 205 38 = some (.aload_n 0, 1, 0, 0, 0, 0) := by decide +kernel
theorem f205_39 : mFetch 205 39 = some (.getfield 120, 3, 12, 9, 0, 1) := by decide +kernel
theorem f205_42 : mFetch 205 42 = some (.isub, 1, 0, 0, 0, 0) := by decide +kernel
theorem f205_43 : mFetch 205 43 = some (.ireturn, 1, 0, 0, 0, 0) := by decide +kernel
theorem f205_44 : mFetch 205 44 = some (.aload_n 0, 1, 0, 0, 0, 0) := by decide +kernel
theorem f205_45 : mFetch 205 45 = some (.dup, 1, 0, 0, 0, 0) := by decide +kernel
theorem f205_46 : mFetch 205 46 = some (.getfield 288, 3, 12, 2, 0, 1) := by decide +kernel
theorem f205_49 : mFetch 205 49 = some (.iconst 1, 1, 0, 0, 0, 0) := by decide +kernel
theorem f205_50 : mFetch 205 50 = some (.iadd, 1, 0, 0, 0, 0) := by decide +kernel
theorem f205_51 : mFetch 205 51 = some (.putfield 288, 3, 12, 2, 0, 1) := by decide +kernel
theorem f205_54 : mFetch 205 54 = some (.aload_n 0, 1, 0, 0, 0, 0) := by decide +kernel
theorem f205_55 : mFetch 205 55 = some (.getfield 288, 3, 12, 2, 0, 1) := by decide +kernel
theorem f205_58 : mFetch 205 58 = some (.iconst 1, 1, 0, 0, 0, 0) := by decide +kernel
theorem f205_59 : mFetch 205 59 = some (.isub, 1, 0, 0, 0, 0) := by decide +kernel
theorem f205_60 : mFetch 205 60 = some (.ireturn, 1, 0, 0, 0, 0) := by decide +kernel
theorem b205_0 {X : (Nat → Int) × Nat} {d : Nat} {s : mSt} {Q : mQ} (h_1 : ¬ (s 407 2) = 6 → Wp X d 205 11 [some (mR 407)] [] s Q) (h_2 : (s 407 2) = 6 → Wp X d 205 9 [some (mR 407)] [] s Q) : Wp X d 205 0 [some (mR 407)] [] s Q := Wp_step k205 f205_0 (Wp_step k205 f205_1 ⟨kf_407, Wp_step k205 f205_4 (Wp_step k205 f205_6 ⟨h_1, h_2⟩)⟩)
theorem b205_9 {X : (Nat → Int) × Nat} {d : Nat} {s : mSt} {Q : mQ} (h_1 : Q (some (mI (-1))) s) : Wp X d 205 9 [some (mR 407)] [] s Q := Wp_step k205 f205_9 (Wp_step k205 f205_10 ⟨⟨rfl, trivial⟩, h_1⟩)
theorem b205_11 {X : (Nat → Int) × Nat} {d : Nat} {s : mSt} {Q : mQ} (h_1 : 0 ≤ ((uS s 407 11 (s 407 2)) 407 11) ∧ ((uS s 407 11 (s 407 2)) 407 11) < 6) (h_2 : Sp X d 204 [mR 407] (uS (uS s 407 11 (s 407 2)) 412 (((uS s 407 11 (s 407 2)) 407 11).toNat) 0) (fun r s' => ∃ v : Int, r = some (mI v) ∧ Wp X (d + 1) 205 33 [some (mR 407)] [mI v] s' Q)) : Wp X (d + 1) 205 11 [some (mR 407)] [] s Q := Wp_step k205 f205_11 (Wp_step k205 f205_12 (Wp_step k205 f205_13 ⟨kf_407, Wp_step k205 f205_16 ⟨kf_407, Wp_step k205 f205_19 (Wp_step k205 f205_20 ⟨kf_407, 412, rf_407_6, Wp_step k205 f205_23 (Wp_step k205 f205_24 ⟨kf_407, Wp_step k205 f205_27 (Wp_step k205 f205_28 ⟨6, af_412, h_1, Wp_step k205 f205_29 (Wp_step k205 f205_30 ⟨⟨kf_407, Nat.le_of_ble_eq_true rfl⟩, Nat.le_refl _, _, rfl, Sp_E h_2⟩)⟩)⟩)⟩)⟩⟩))
theorem b205_33 {X : (Nat → Int) × Nat} {d : Nat} {s : mSt} {Q : mQ} {xt0 : Int} (h_1 : ¬ xt0 = 0 → Wp X d 205 44 [some (mR 407)] [] s Q) (h_2 : xt0 = 0 → Wp X d 205 36 [some (mR 407)] [] s Q) : Wp X d 205 33 [some (mR 407)] [mI xt0] s Q := Wp_step k205 f205_33 ⟨h_1, h_2⟩
theorem b205_36 {X : (Nat → Int) × Nat} {d : Nat} {s : mSt} {Q : mQ} (h_1 : Q (some (mI (w32 ((-2) - (s 407 9))))) s) : Wp X d 205 36 [some (mR 407)] [] s Q := Wp_step k205 f205_36 (Wp_step k205 f205_38 (Wp_step k205 f205_39 ⟨kf_407, Wp_step k205 f205_42 (Wp_step k205 f205_43 ⟨⟨rfl, trivial⟩, h_1⟩)⟩))
theorem b205_44 {X : (Nat → Int) × Nat} {d : Nat} {s : mSt} {Q : mQ} (h_1 : Q (some (mI (w32 (((uS s 407 2 (w32 ((s 407 2) + 1))) 407 2) - 1)))) (uS s 407 2 (w32 ((s 407 2) + 1)))) : Wp X d 205 44 [some (mR 407)] [] s Q := Wp_step k205 f205_44 (Wp_step k205 f205_45 (Wp_step k205 f205_46 ⟨kf_407, Wp_step k205 f205_49 (Wp_step k205 f205_50 (Wp_step k205 f205_51 ⟨kf_407, Wp_step k205 f205_54 (Wp_step k205 f205_55 ⟨kf_407, Wp_step k205 f205_58 (Wp_step k205 f205_59 (Wp_step k205 f205_60 ⟨⟨rfl, trivial⟩, h_1⟩))⟩)⟩))⟩))
theorem e205 {X : (Nat → Int) × Nat} {d : Nat} {s : mSt} {Q : mQ} (h : Wp X d 205 0 [some (mR 407)] [] s Q) : Sp X d 205 [mR 407] s Q := Sp_of (show mCe 205 = 0 by decide +kernel) (by rw [show mML 205 = 1 by decide +kernel]; rfl) (Nat.le_trans (Nat.le_of_ble_eq_true (show Nat.ble (mArgs _).length 1 = true from rfl)) (show 1 ≤ mML 205 by decide +kernel)) h
-- 206 ClashDayModel.day()I
theorem k206 : mRk 206 = 1 := by decide +kernel
theorem f206_0 : mFetch 206 0 = some (.aload_n 0, 1, 0, 0, 0, 0) := by decide +kernel
theorem f206_1 : mFetch 206 1 = some (.bipush 6, 2, 0, 0, 0, 0) := by decide +kernel
theorem f206_3 : mFetch 206 3 = some (.putfield 177, 3, 12, 11, 0, 1) := by decide +kernel
theorem f206_6 : mFetch 206 6 = some (.iconst 0, 1, 0, 0, 0, 0) := by decide +kernel
theorem f206_7 : mFetch 206 7 = some (.istore_n 1, 1, 0, 0, 0, 0) := by decide +kernel
theorem f206_8 : mFetch 206 8 = some (.iload_n 1, 1, 0, 0, 0, 0) := by decide +kernel
theorem f206_9 : mFetch 206 9 = some (.sipush 135, 3, 0, 0, 0, 0) := by decide +kernel
theorem f206_12 : mFetch 206 12 = some (.if_icmp .ge 16, 3, 28, 0, 0, 0) := by decide +kernel
theorem f206_15 : mFetch 206 15 = some (.aload_n 0, 1, 0, 0, 0, 0) := by decide +kernel
theorem f206_16 : mFetch 206 16 = some (.getfield 26, 3, 12, 7, 2, 1) := by decide +kernel
theorem f206_19 : mFetch 206 19 = some (.iload_n 1, 1, 0, 0, 0, 0) := by decide +kernel
theorem f206_20 : mFetch 206 20 = some (.iconst 0, 1, 0, 0, 0, 0) := by decide +kernel
theorem f206_21 : mFetch 206 21 = some (.iastore, 1, 0, 0, 0, 0) := by decide +kernel
theorem f206_22 : mFetch 206 22 = some (.iinc 1 1, 3, 0, 0, 0, 0) := by decide +kernel
theorem f206_25 : mFetch 206 25 = some (.goto (-17), 3, 8, 0, 0, 0) := by decide +kernel
theorem f206_28 : mFetch 206 28 = some (.aload_n 0, 1, 0, 0, 0, 0) := by decide +kernel
theorem f206_29 : mFetch 206 29 = some (.invokevirtual 291, 3, 204, 0, 1, 12) := by decide +kernel
theorem f206_32 : mFetch 206 32 = some (.ifCond .ne 11, 3, 43, 0, 0, 0) := by decide +kernel
theorem f206_35 : mFetch 206 35 = some (.bipush (-2), 2, 0, 0, 0, 0) := by decide +kernel
theorem f206_37 : mFetch 206 37 = some (.aload_n 0, 1, 0, 0, 0, 0) := by decide +kernel
theorem f206_38 : mFetch 206 38 = some (.getfield 120, 3, 12, 9, 0, 1) := by decide +kernel
theorem f206_41 : mFetch 206 41 = some (.isub, 1, 0, 0, 0, 0) := by decide +kernel
theorem f206_42 : mFetch 206 42 = some (.ireturn, 1, 0, 0, 0, 0) := by decide +kernel
theorem f206_43 : mFetch 206 43 = some (.iconst 0, 1, 0, 0, 0, 0) := by decide +kernel
theorem f206_44 : mFetch 206 44 = some (.istore_n 1, 1, 0, 0, 0, 0) := by decide +kernel
theorem f206_45 : mFetch 206 45 = some (.iload_n 1, 1, 0, 0, 0, 0) := by decide +kernel
theorem f206_46 : mFetch 206 46 = some (.sipush 166, 3, 0, 0, 0, 0) := by decide +kernel
theorem f206_49 : mFetch 206 49 = some (.if_icmp .ge 32, 3, 81, 0, 0, 0) := by decide +kernel
theorem f206_52 : mFetch 206 52 = some (.aload_n 0, 1, 0, 0, 0, 0) := by decide +kernel
theorem f206_53 : mFetch 206 53 = some (.getfield 39, 3, 12, 20, 2, 1) := by decide +kernel
theorem f206_56 : mFetch 206 56 = some (.iload_n 1, 1, 0, 0, 0, 0) := by decide +kernel
theorem f206_57 : mFetch 206 57 = some (.iload_n 1, 1, 0, 0, 0, 0) := by decide +kernel
theorem f206_58 : mFetch 206 58 = some (.sipush 135, 3, 0, 0, 0, 0) := by decide +kernel
theorem f206_61 : mFetch 206 61 = some (.if_icmp .ge 12, 3, 73, 0, 0, 0) := by decide +kernel
theorem f206_64 : mFetch 206 64 = some (.aload_n 0, 1, 0, 0, 0, 0) := by decide +kernel
theorem f206_65 : mFetch 206 65 = some (.getfield 26, 3, 12, 7, 2, 1) := by decide +kernel
theorem f206_68 : mFetch 206 68 = some (.iload_n 1, 1, 0, 0, 0, 0) := by decide +kernel
theorem f206_69 : mFetch 206 69 = some (.iaload, 1, 0, 0, 0, 0) := by decide +kernel
theorem f206_70 : mFetch 206 70 = some (.goto 4, 3, 74, 0, 0, 0) := by decide +kernel
theorem f206_73 : mFetch 206 73 = some (.iconst 0, 1, 0, 0, 0, 0) := by decide +kernel
theorem f206_74 : mFetch 206 74 = some (.iastore, 1, 0, 0, 0, 0) := by decide +kernel
theorem f206_75 : mFetch 206 75 = some (.iinc 1 1, 3, 0, 0, 0, 0) := by decide +kernel
theorem f206_78 : mFetch 206 78 = some (.goto (-33), 3, 45, 0, 0, 0) := by decide +kernel
theorem f206_81 : mFetch 206 81 = some (.aload_n 0, 1, 0, 0, 0, 0) := by decide +kernel
theorem f206_82 : mFetch 206 82 = some (.invokevirtual 294, 3, 227, 0, 1, 12) := by decide +kernel
theorem f206_85 : mFetch 206 85 = some (.aload_n 0, 1, 0, 0, 0, 0) := by decide +kernel
theorem f206_86 : mFetch 206 86 = some (.iconst 0, 1, 0, 0, 0, 0) := by decide +kernel
theorem f206_87 : mFetch 206 87 = some (.putfield 297, 3, 12, 37, 0, 1) := by decide +kernel
theorem f206_90 : mFetch 206 90 = some (.aload_n 0, 1, 0, 0, 0, 0) := by decide +kernel
theorem f206_91 : mFetch 206 91 = some (.getfield 39, 3, 12, 20, 2, 1) := by decide +kernel
theorem f206_94 : mFetch 206 94 = some (.iconst 4, 1, 0, 0, 0, 0) := by decide +kernel
theorem f206_95 : mFetch 206 95 = some (.iaload, 1, 0, 0, 0, 0) := by decide +kernel
theorem f206_96 : mFetch 206 96 = some (.ireturn, 1, 0, 0, 0, 0) := by decide +kernel
theorem b206_0 {X : (Nat → Int) × Nat} {d : Nat} {s : mSt} {Q : mQ} {l1 : Option mV} (h_1 : Wp X d 206 8 [some (mR 407), some (mI 0)] [] (uS s 407 11 6) Q) : Wp X d 206 0 [some (mR 407), l1] [] s Q := Wp_step k206 f206_0 (Wp_step k206 f206_1 (Wp_step k206 f206_3 ⟨kf_407, Wp_step k206 f206_6 (Wp_step k206 f206_7 (h_1))⟩))
theorem b206_8 {X : (Nat → Int) × Nat} {d : Nat} {s : mSt} {Q : mQ} {x1 : Int} (h_1 : 135 ≤ x1 → Wp X d 206 28 [some (mR 407), some (mI x1)] [] s Q) (h_2 : ¬ 135 ≤ x1 → Wp X d 206 15 [some (mR 407), some (mI x1)] [] s Q) : Wp X d 206 8 [some (mR 407), some (mI x1)] [] s Q := Wp_step k206 f206_8 (Wp_step k206 f206_9 (Wp_step k206 f206_12 ⟨h_1, h_2⟩))
theorem b206_15 {X : (Nat → Int) × Nat} {d : Nat} {s : mSt} {Q : mQ} {x1 : Int} (h_1 : 0 ≤ x1 ∧ x1 < 135) (h_2 : Wp X d 206 8 [some (mR 407), some (mI (w32 (x1 + 1)))] [] (uS s 413 x1.toNat 0) Q) : Wp X d 206 15 [some (mR 407), some (mI x1)] [] s Q := Wp_step k206 f206_15 (Wp_step k206 f206_16 ⟨kf_407, 413, rf_407_7, Wp_step k206 f206_19 (Wp_step k206 f206_20 (Wp_step k206 f206_21 ⟨135, af_413, h_1, Wp_step k206 f206_22 (Wp_step k206 f206_25 (h_2))⟩))⟩)
theorem b206_28 {X : (Nat → Int) × Nat} {d : Nat} {s : mSt} {Q : mQ} {x1 : Int} (h_1 : Sp X d 204 [mR 407] s (fun r s' => ∃ v : Int, r = some (mI v) ∧ Wp X (d + 1) 206 32 [some (mR 407), some (mI x1)] [mI v] s' Q)) : Wp X (d + 1) 206 28 [some (mR 407), some (mI x1)] [] s Q := Wp_step k206 f206_28 (Wp_step k206 f206_29 ⟨⟨kf_407, Nat.le_of_ble_eq_true rfl⟩, Nat.le_refl _, _, rfl, Sp_E h_1⟩)
theorem b206_32 {X : (Nat → Int) × Nat} {d : Nat} {s : mSt} {Q : mQ} {x1 : Int} {xt0 : Int} (h_1 : ¬ xt0 = 0 → Wp X d 206 43 [some (mR 407), some (mI x1)] [] s Q) (h_2 : xt0 = 0 → Wp X d 206 35 [some (mR 407), some (mI x1)] [] s Q) : Wp X d 206 32 [some (mR 407), some (mI x1)] [mI xt0] s Q := Wp_step k206 f206_32 ⟨h_1, h_2⟩
theorem b206_35 {X : (Nat → Int) × Nat} {d : Nat} {s : mSt} {Q : mQ} {x1 : Int} (h_1 : Q (some (mI (w32 ((-2) - (s 407 9))))) s) : Wp X d 206 35 [some (mR 407), some (mI x1)] [] s Q := Wp_step k206 f206_35 (Wp_step k206 f206_37 (Wp_step k206 f206_38 ⟨kf_407, Wp_step k206 f206_41 (Wp_step k206 f206_42 ⟨⟨rfl, trivial⟩, h_1⟩)⟩))
theorem b206_43 {X : (Nat → Int) × Nat} {d : Nat} {s : mSt} {Q : mQ} {x1 : Int} (h_1 : Wp X d 206 45 [some (mR 407), some (mI 0)] [] s Q) : Wp X d 206 43 [some (mR 407), some (mI x1)] [] s Q := Wp_step k206 f206_43 (Wp_step k206 f206_44 (h_1))
theorem b206_45 {X : (Nat → Int) × Nat} {d : Nat} {s : mSt} {Q : mQ} {x1 : Int} (h_1 : 166 ≤ x1 → Wp X d 206 81 [some (mR 407), some (mI x1)] [] s Q) (h_2 : ¬ 166 ≤ x1 → Wp X d 206 52 [some (mR 407), some (mI x1)] [] s Q) : Wp X d 206 45 [some (mR 407), some (mI x1)] [] s Q := Wp_step k206 f206_45 (Wp_step k206 f206_46 (Wp_step k206 f206_49 ⟨h_1, h_2⟩))
theorem b206_52 {X : (Nat → Int) × Nat} {d : Nat} {s : mSt} {Q : mQ} {x1 : Int} (h_1 : 135 ≤ x1 → Wp X d 206 73 [some (mR 407), some (mI x1)] [mI x1, mR 417] s Q) (h_2 : ¬ 135 ≤ x1 → Wp X d 206 64 [some (mR 407), some (mI x1)] [mI x1, mR 417] s Q) : Wp X d 206 52 [some (mR 407), some (mI x1)] [] s Q := Wp_step k206 f206_52 (Wp_step k206 f206_53 ⟨kf_407, 417, rf_407_20, Wp_step k206 f206_56 (Wp_step k206 f206_57 (Wp_step k206 f206_58 (Wp_step k206 f206_61 ⟨h_1, h_2⟩)))⟩)
theorem b206_64 {X : (Nat → Int) × Nat} {d : Nat} {s : mSt} {Q : mQ} {x1 : Int} {xt1 : Int} (h_1 : 0 ≤ x1 ∧ x1 < 135) (h_2 : Wp X d 206 74 [some (mR 407), some (mI x1)] [mI (s 413 x1.toNat), mI xt1, mR 417] s Q) : Wp X d 206 64 [some (mR 407), some (mI x1)] [mI xt1, mR 417] s Q := Wp_step k206 f206_64 (Wp_step k206 f206_65 ⟨kf_407, 413, rf_407_7, Wp_step k206 f206_68 (Wp_step k206 f206_69 ⟨135, af_413, h_1, Wp_step k206 f206_70 (h_2)⟩)⟩)
theorem b206_73 {X : (Nat → Int) × Nat} {d : Nat} {s : mSt} {Q : mQ} {x1 : Int} {xt1 : Int} (h_1 : Wp X d 206 74 [some (mR 407), some (mI x1)] [mI 0, mI xt1, mR 417] s Q) : Wp X d 206 73 [some (mR 407), some (mI x1)] [mI xt1, mR 417] s Q := Wp_step k206 f206_73 (h_1)
theorem b206_74 {X : (Nat → Int) × Nat} {d : Nat} {s : mSt} {Q : mQ} {x1 : Int} {xt1 : Int} {xt2 : Int} (h_1 : 0 ≤ xt1 ∧ xt1 < 166) (h_2 : Wp X d 206 45 [some (mR 407), some (mI (w32 (x1 + 1)))] [] (uS s 417 xt1.toNat xt2) Q) : Wp X d 206 74 [some (mR 407), some (mI x1)] [mI xt2, mI xt1, mR 417] s Q := Wp_step k206 f206_74 ⟨166, af_417, h_1, Wp_step k206 f206_75 (Wp_step k206 f206_78 (h_2))⟩
theorem b206_81 {X : (Nat → Int) × Nat} {d : Nat} {s : mSt} {Q : mQ} {x1 : Int} (h_1 : Sp X d 227 [mR 407] s (fun r s' => r = none ∧ Wp X (d + 1) 206 85 [some (mR 407), some (mI x1)] [] s' Q)) : Wp X (d + 1) 206 81 [some (mR 407), some (mI x1)] [] s Q := Wp_step k206 f206_81 (Wp_step k206 f206_82 ⟨⟨kf_407, Nat.le_of_ble_eq_true rfl⟩, Nat.le_refl _, _, rfl, Sp_V h_1⟩)
theorem b206_85 {X : (Nat → Int) × Nat} {d : Nat} {s : mSt} {Q : mQ} {x1 : Int} (h_1 : Q (some (mI ((uS s 407 37 0) 417 4))) (uS s 407 37 0)) : Wp X d 206 85 [some (mR 407), some (mI x1)] [] s Q := Wp_step k206 f206_85 (Wp_step k206 f206_86 (Wp_step k206 f206_87 ⟨kf_407, Wp_step k206 f206_90 (Wp_step k206 f206_91 ⟨kf_407, 417, rf_407_20, Wp_step k206 f206_94 (Wp_step k206 f206_95 ⟨166, af_417, ⟨by decide, by decide⟩, Wp_step k206 f206_96 ⟨⟨rfl, trivial⟩, h_1⟩⟩)⟩)⟩))
theorem e206 {X : (Nat → Int) × Nat} {d : Nat} {s : mSt} {Q : mQ} (h : Wp X d 206 0 [some (mR 407), none] [] s Q) : Sp X d 206 [mR 407] s Q := Sp_of (show mCe 206 = 0 by decide +kernel) (by rw [show mML 206 = 2 by decide +kernel]; rfl) (Nat.le_trans (Nat.le_of_ble_eq_true (show Nat.ble (mArgs _).length 2 = true from rfl)) (show 2 ≤ mML 206 by decide +kernel)) h
-- 207 ClashDayModel.isRule(I)Z
theorem k207 : mRk 207 = 2 := by decide +kernel
theorem f207_0 : mFetch 207 0 = some (.iload_n 1, 1, 0, 0, 0, 0) := by decide +kernel
theorem f207_1 : mFetch 207 1 = some (.ifCond .lt 15, 3, 16, 0, 0, 0) := by decide +kernel
theorem f207_4 : mFetch 207 4 = some (.iload_n 1, 1, 0, 0, 0, 0) := by decide +kernel
theorem f207_5 : mFetch 207 5 = some (.aload_n 0, 1, 0, 0, 0, 0) := by decide +kernel
theorem f207_6 : mFetch 207 6 = some (.getfield 288, 3, 12, 2, 0, 1) := by decide +kernel
theorem f207_9 : mFetch 207 9 = some (.if_icmp .ge 7, 3, 16, 0, 0, 0) := by decide +kernel
theorem f207_12 : mFetch 207 12 = some (.iconst 1, 1, 0, 0, 0, 0) := by decide +kernel
theorem f207_13 : mFetch 207 13 = some (.goto 4, 3, 17, 0, 0, 0) := by decide +kernel
theorem f207_16 : mFetch 207 16 = some (.iconst 0, 1, 0, 0, 0, 0) := by decide +kernel
theorem f207_17 : mFetch 207 17 = some (.ireturn, 1, 0, 0, 0, 0) := by decide +kernel
theorem b207_0 {X : (Nat → Int) × Nat} {d : Nat} {s : mSt} {Q : mQ} {x1 : Int} (h_1 : x1 < 0 → Wp X d 207 16 [some (mR 407), some (mI x1)] [] s Q) (h_2 : ¬ x1 < 0 → Wp X d 207 4 [some (mR 407), some (mI x1)] [] s Q) : Wp X d 207 0 [some (mR 407), some (mI x1)] [] s Q := Wp_step k207 f207_0 (Wp_step k207 f207_1 ⟨h_1, h_2⟩)
theorem b207_4 {X : (Nat → Int) × Nat} {d : Nat} {s : mSt} {Q : mQ} {x1 : Int} (h_1 : (s 407 2) ≤ x1 → Wp X d 207 16 [some (mR 407), some (mI x1)] [] s Q) (h_2 : ¬ (s 407 2) ≤ x1 → Wp X d 207 12 [some (mR 407), some (mI x1)] [] s Q) : Wp X d 207 4 [some (mR 407), some (mI x1)] [] s Q := Wp_step k207 f207_4 (Wp_step k207 f207_5 (Wp_step k207 f207_6 ⟨kf_407, Wp_step k207 f207_9 ⟨h_1, h_2⟩⟩))
theorem b207_12 {X : (Nat → Int) × Nat} {d : Nat} {s : mSt} {Q : mQ} {x1 : Int} (h_1 : Wp X d 207 17 [some (mR 407), some (mI x1)] [mI 1] s Q) : Wp X d 207 12 [some (mR 407), some (mI x1)] [] s Q := Wp_step k207 f207_12 (Wp_step k207 f207_13 (h_1))
theorem b207_16 {X : (Nat → Int) × Nat} {d : Nat} {s : mSt} {Q : mQ} {x1 : Int} (h_1 : Wp X d 207 17 [some (mR 407), some (mI x1)] [mI 0] s Q) : Wp X d 207 16 [some (mR 407), some (mI x1)] [] s Q := Wp_step k207 f207_16 (h_1)
theorem b207_17 {X : (Nat → Int) × Nat} {d : Nat} {s : mSt} {Q : mQ} {x1 : Int} {xt0 : Int} (h_1 : Q (some (mI xt0)) s) (h_2 : xt0 = 0 ∨ xt0 = 1) : Wp X d 207 17 [some (mR 407), some (mI x1)] [mI xt0] s Q := Wp_step k207 f207_17 ⟨⟨rfl, h_2⟩, h_1⟩
theorem e207 {X : (Nat → Int) × Nat} {d : Nat} {s : mSt} {Q : mQ} {x1 : Int} (h : Wp X d 207 0 [some (mR 407), some (mI x1)] [] s Q) : Sp X d 207 [mR 407, mI x1] s Q := Sp_of (show mCe 207 = 0 by decide +kernel) (by rw [show mML 207 = 2 by decide +kernel]; rfl) (Nat.le_trans (Nat.le_of_ble_eq_true (show Nat.ble (mArgs _).length 2 = true from rfl)) (show 2 ≤ mML 207 by decide +kernel)) h
-- 208 ClashDayModel.push(J)V
theorem k208 : mRk 208 = 0 := by decide +kernel
theorem f208_0 : mFetch 208 0 = some (.aload_n 0, 1, 0, 0, 0, 0) := by decide +kernel
theorem f208_1 : mFetch 208 1 = some (.getfield 32, 3, 12, 17, 2, 1) := by decide +kernel
theorem f208_4 : mFetch 208 4 = some (.aload_n 0, 1, 0, 0, 0, 0) := by decide +kernel
theorem f208_5 : mFetch 208 5 = some (.getfield 300, 3, 12, 18, 0, 1) := by decide +kernel
theorem f208_8 : mFetch 208 8 = some (.lload_n 1, 1, 0, 0, 0, 0) := by decide +kernel
theorem f208_9 : mFetch 208 9 = some (.lastore, 1, 0, 0, 0, 0) := by decide +kernel
theorem f208_10 : mFetch 208 10 = some (.aload_n 0, 1, 0, 0, 0, 0) := by decide +kernel
theorem f208_11 : mFetch 208 11 = some (.dup, 1, 0, 0, 0, 0) := by decide +kernel
theorem f208_12 : mFetch 208 12 = some (.getfield 300, 3, 12, 18, 0, 1) := by decide +kernel
theorem f208_15 : mFetch 208 15 = some (.iconst 1, 1, 0, 0, 0, 0) := by decide +kernel
theorem f208_16 : mFetch 208 16 = some (.iadd, 1, 0, 0, 0, 0) := by decide +kernel
theorem f208_17 : mFetch 208 17 = some (.putfield 300, 3, 12, 18, 0, 1) := by decide +kernel
theorem f208_20 : mFetch 208 20 = some (.return_, 1, 0, 0, 0, 0) := by decide +kernel
theorem b208_0 {X : (Nat → Int) × Nat} {d : Nat} {s : mSt} {Q : mQ} {x1 : Int} {l2 : Option mV} (h_1 : 0 ≤ (s 407 18) ∧ (s 407 18) < 64) (h_2 : Q none (uS (uS s 415 ((s 407 18).toNat) x1) 407 18 (w32 (((uS s 415 ((s 407 18).toNat) x1) 407 18) + 1)))) : Wp X d 208 0 [some (mR 407), some (mJ x1), l2] [] s Q := Wp_step k208 f208_0 (Wp_step k208 f208_1 ⟨kf_407, 415, rf_407_17, Wp_step k208 f208_4 (Wp_step k208 f208_5 ⟨kf_407, Wp_step k208 f208_8 (Wp_step k208 f208_9 ⟨64, af_415, h_1, Wp_step k208 f208_10 (Wp_step k208 f208_11 (Wp_step k208 f208_12 ⟨kf_407, Wp_step k208 f208_15 (Wp_step k208 f208_16 (Wp_step k208 f208_17 ⟨kf_407, Wp_step k208 f208_20 ⟨⟨rfl, Or.inl rfl⟩, h_2⟩⟩))⟩))⟩)⟩)⟩)
theorem e208 {X : (Nat → Int) × Nat} {d : Nat} {s : mSt} {Q : mQ} {x1 : Int} (h : Wp X d 208 0 [some (mR 407), some (mJ x1), none] [] s Q) : Sp X d 208 [mR 407, mJ x1] s Q := Sp_of (show mCe 208 = 0 by decide +kernel) (by rw [show mML 208 = 3 by decide +kernel]; rfl) (Nat.le_trans (Nat.le_of_ble_eq_true (show Nat.ble (mArgs _).length 3 = true from rfl)) (show 3 ≤ mML 208 by decide +kernel)) h
-- 209 ClashDayModel.pop()J
theorem k209 : mRk 209 = 4 := by decide +kernel
theorem f209_0 : mFetch 209 0 = some (.aload_n 0, 1, 0, 0, 0, 0) := by decide +kernel
theorem f209_1 : mFetch 209 1 = some (.dup, 1, 0, 0, 0, 0) := by decide +kernel
theorem f209_2 : mFetch 209 2 = some (.getfield 300, 3, 12, 18, 0, 1) := by decide +kernel
theorem f209_5 : mFetch 209 5 = some (.iconst 1, 1, 0, 0, 0, 0) := by decide +kernel
theorem f209_6 : mFetch 209 6 = some (.isub, 1, 0, 0, 0, 0) := by decide +kernel
theorem f209_7 : mFetch 209 7 = some (.putfield 300, 3, 12, 18, 0, 1) := by decide +kernel
theorem f209_10 : mFetch 209 10 = some (.aload_n 0, 1, 0, 0, 0, 0) := by decide +kernel
theorem f209_11 : mFetch 209 11 = some (.getfield 32, 3, 12, 17, 2, 1) := by decide +kernel
theorem f209_14 : mFetch 209 14 = some (.aload_n 0, 1, 0, 0, 0, 0) := by decide +kernel
theorem f209_15 : mFetch 209 15 = some (.getfield 300, 3, 12, 18, 0, 1) := by decide +kernel
theorem f209_18 : mFetch 209 18 = some (.laload, 1, 0, 0, 0, 0) := by decide +kernel
theorem f209_19 : mFetch 209 19 = some (.lreturn, 1, 0, 0, 0, 0) := by decide +kernel
theorem b209_0 {X : (Nat → Int) × Nat} {d : Nat} {s : mSt} {Q : mQ} (h_1 : 0 ≤ ((uS s 407 18 (w32 ((s 407 18) - 1))) 407 18) ∧ ((uS s 407 18 (w32 ((s 407 18) - 1))) 407 18) < 64) (h_2 : Q (some (mJ ((uS s 407 18 (w32 ((s 407 18) - 1))) 415 ((uS s 407 18 (w32 ((s 407 18) - 1))) 407 18).toNat))) (uS s 407 18 (w32 ((s 407 18) - 1)))) : Wp X d 209 0 [some (mR 407)] [] s Q := Wp_step k209 f209_0 (Wp_step k209 f209_1 (Wp_step k209 f209_2 ⟨kf_407, Wp_step k209 f209_5 (Wp_step k209 f209_6 (Wp_step k209 f209_7 ⟨kf_407, Wp_step k209 f209_10 (Wp_step k209 f209_11 ⟨kf_407, 415, rf_407_17, Wp_step k209 f209_14 (Wp_step k209 f209_15 ⟨kf_407, Wp_step k209 f209_18 ⟨64, af_415, h_1, Wp_step k209 f209_19 ⟨⟨rfl, rfl⟩, h_2⟩⟩⟩)⟩)⟩))⟩))
theorem e209 {X : (Nat → Int) × Nat} {d : Nat} {s : mSt} {Q : mQ} (h : Wp X d 209 0 [some (mR 407)] [] s Q) : Sp X d 209 [mR 407] s Q := Sp_of (show mCe 209 = 0 by decide +kernel) (by rw [show mML 209 = 1 by decide +kernel]; rfl) (Nat.le_trans (Nat.le_of_ble_eq_true (show Nat.ble (mArgs _).length 1 = true from rfl)) (show 1 ≤ mML 209 by decide +kernel)) h
-- 210 ClashDayModel.one(IJJ)J
theorem k210 : mRk 210 = 4 := by decide +kernel
theorem f210_0 : mFetch 210 0 = some (.iload_n 0, 1, 0, 0, 0, 0) := by decide +kernel
theorem f210_1 : mFetch 210 1 = some (.tableswitch 171 2 14 #[67, 71, 75, 79, 107, 119, 131, 143, 155, 171, 167, 171, 93], 67, 0, 0, 0, 0) := by decide +kernel
theorem f210_68 : mFetch 210 68 = some (.lload_n 1, 1, 0, 0, 0, 0) := by decide +kernel
theorem f210_69 : mFetch 210 69 = some (.lload_n 3, 1, 0, 0, 0, 0) := by decide +kernel
theorem f210_70 : mFetch 210 70 = some (.ladd, 1, 0, 0, 0, 0) := by decide +kernel
theorem f210_71 : mFetch 210 71 = some (.lreturn, 1, 0, 0, 0, 0) := by decide +kernel
theorem f210_72 : mFetch 210 72 = some (.lload_n 1, 1, 0, 0, 0, 0) := by decide +kernel
theorem f210_73 : mFetch 210 73 = some (.lload_n 3, 1, 0, 0, 0, 0) := by decide +kernel
theorem f210_74 : mFetch 210 74 = some (.lsub, 1, 0, 0, 0, 0) := by decide +kernel
theorem f210_75 : mFetch 210 75 = some (.lreturn, 1, 0, 0, 0, 0) := by decide +kernel
theorem f210_76 : mFetch 210 76 = some (.lload_n 1, 1, 0, 0, 0, 0) := by decide +kernel
theorem f210_77 : mFetch 210 77 = some (.lload_n 3, 1, 0, 0, 0, 0) := by decide +kernel
theorem f210_78 : mFetch 210 78 = some (.lmul, 1, 0, 0, 0, 0) := by decide +kernel
theorem f210_79 : mFetch 210 79 = some (.lreturn, 1, 0, 0, 0, 0) := by decide +kernel
theorem f210_80 : mFetch 210 80 = some (.lload_n 3, 1, 0, 0, 0, 0) := by decide +kernel
theorem f210_81 : mFetch 210 81 = some (.lconst 0, 1, 0, 0, 0, 0) := by decide +kernel
theorem f210_82 : mFetch 210 82 = some (.lcmp, 1, 0, 0, 0, 0) := by decide +kernel
theorem f210_83 : mFetch 210 83 = some (.ifCond .ne 7, 3, 90, 0, 0, 0) := by decide +kernel
theorem f210_86 : mFetch 210 86 = some (.lconst 0, 1, 0, 0, 0, 0) := by decide +kernel
theorem f210_87 : mFetch 210 87 = some (.goto 6, 3, 93, 0, 0, 0) := by decide +kernel
theorem f210_90 : mFetch 210 90 = some (.lload_n 1, 1, 0, 0, 0, 0) := by decide +kernel
theorem f210_91 : mFetch 210 91 = some (.lload_n 3, 1, 0, 0, 0, 0) := by decide +kernel
theorem f210_92 : mFetch 210 92 = some (.ldiv, 1, 0, 0, 0, 0) := by decide +kernel
theorem f210_93 : mFetch 210 93 = some (.lreturn, 1, 0, 0, 0, 0) := by decide +kernel
theorem f210_94 : mFetch 210 94 = some (.lload_n 3, 1, 0, 0, 0, 0) := by decide +kernel
theorem f210_95 : mFetch 210 95 = some (.lconst 0, 1, 0, 0, 0, 0) := by decide +kernel
theorem f210_96 : mFetch 210 96 = some (.lcmp, 1, 0, 0, 0, 0) := by decide +kernel
theorem f210_97 : mFetch 210 97 = some (.ifCond .ne 7, 3, 104, 0, 0, 0) := by decide +kernel
theorem f210_100 : mFetch 210 100 = some (.lconst 0, 1, 0, 0, 0, 0) := by decide +kernel
theorem f210_101 : mFetch 210 101 = some (.goto 6, 3, 107, 0, 0, 0) := by decide +kernel
theorem f210_104 : mFetch 210 104 = some (.lload_n 1, 1, 0, 0, 0, 0) := by decide +kernel
theorem f210_105 : mFetch 210 105 = some (.lload_n 3, 1, 0, 0, 0, 0) := by decide +kernel
theorem f210_106 : mFetch 210 106 = some (.lrem, 1, 0, 0, 0, 0) := by decide +kernel
theorem f210_107 : mFetch 210 107 = some (.lreturn, 1, 0, 0, 0, 0) := by decide +kernel
theorem f210_108 : mFetch 210 108 = some (.lload_n 1, 1, 0, 0, 0, 0) := by decide +kernel
theorem f210_109 : mFetch 210 109 = some (.lload_n 3, 1, 0, 0, 0, 0) := by decide +kernel
theorem f210_110 : mFetch 210 110 = some (.lcmp, 1, 0, 0, 0, 0) := by decide +kernel
theorem f210_111 : mFetch 210 111 = some (.ifCond .ge 7, 3, 118, 0, 0, 0) := by decide +kernel
theorem f210_114 : mFetch 210 114 = some (.lconst 1, 1, 0, 0, 0, 0) := by decide +kernel
theorem f210_115 : mFetch 210 115 = some (.goto 4, 3, 119, 0, 0, 0) := by decide +kernel
theorem f210_118 : mFetch 210 118 = some (.lconst 0, 1, 0, 0, 0, 0) := by decide +kernel
theorem f210_119 : mFetch 210 119 = some (.lreturn, 1, 0, 0, 0, 0) := by decide +kernel
theorem f210_120 : mFetch 210 120 = some (.lload_n 1, 1, 0, 0, 0, 0) := by decide +kernel
theorem f210_121 : mFetch 210 121 = some (.lload_n 3, 1, 0, 0, 0, 0) := by decide +kernel
theorem f210_122 : mFetch 210 122 = some (.lcmp, 1, 0, 0, 0, 0) := by decide +kernel
theorem f210_123 : mFetch 210 123 = some (.ifCond .gt 7, 3, 130, 0, 0, 0) := by decide +kernel
theorem f210_126 : mFetch 210 126 = some (.lconst 1, 1, 0, 0, 0, 0) := by decide +kernel
theorem f210_127 : mFetch 210 127 = some (.goto 4, 3, 131, 0, 0, 0) := by decide +kernel
theorem f210_130 : mFetch 210 130 = some (.lconst 0, 1, 0, 0, 0, 0) := by decide +kernel
theorem f210_131 : mFetch 210 131 = some (.lreturn, 1, 0, 0, 0, 0) := by decide +kernel
theorem f210_132 : mFetch 210 132 = some (.lload_n 1, 1, 0, 0, 0, 0) := by decide +kernel
theorem f210_133 : mFetch 210 133 = some (.lload_n 3, 1, 0, 0, 0, 0) := by decide +kernel
theorem f210_134 : mFetch 210 134 = some (.lcmp, 1, 0, 0, 0, 0) := by decide +kernel
theorem f210_135 : mFetch 210 135 = some (.ifCond .ne 7, 3, 142, 0, 0, 0) := by decide +kernel
theorem f210_138 : mFetch 210 138 = some (.lconst 1, 1, 0, 0, 0, 0) := by decide +kernel
theorem f210_139 : mFetch 210 139 = some (.goto 4, 3, 143, 0, 0, 0) := by decide +kernel
theorem f210_142 : mFetch 210 142 = some (.lconst 0, 1, 0, 0, 0, 0) := by decide +kernel
theorem f210_143 : mFetch 210 143 = some (.lreturn, 1, 0, 0, 0, 0) := by decide +kernel
theorem f210_144 : mFetch 210 144 = some (.lload_n 1, 1, 0, 0, 0, 0) := by decide +kernel
theorem f210_145 : mFetch 210 145 = some (.lload_n 3, 1, 0, 0, 0, 0) := by decide +kernel
theorem f210_146 : mFetch 210 146 = some (.lcmp, 1, 0, 0, 0, 0) := by decide +kernel
theorem f210_147 : mFetch 210 147 = some (.ifCond .lt 7, 3, 154, 0, 0, 0) := by decide +kernel
theorem f210_150 : mFetch 210 150 = some (.lconst 1, 1, 0, 0, 0, 0) := by decide +kernel
theorem f210_151 : mFetch 210 151 = some (.goto 4, 3, 155, 0, 0, 0) := by decide +kernel
theorem f210_154 : mFetch 210 154 = some (.lconst 0, 1, 0, 0, 0, 0) := by decide +kernel
theorem f210_155 : mFetch 210 155 = some (.lreturn, 1, 0, 0, 0, 0) := by decide +kernel
theorem f210_156 : mFetch 210 156 = some (.lload_n 1, 1, 0, 0, 0, 0) := by decide +kernel
theorem f210_157 : mFetch 210 157 = some (.lload_n 3, 1, 0, 0, 0, 0) := by decide +kernel
theorem f210_158 : mFetch 210 158 = some (.lcmp, 1, 0, 0, 0, 0) := by decide +kernel
theorem f210_159 : mFetch 210 159 = some (.ifCond .le 7, 3, 166, 0, 0, 0) := by decide +kernel
theorem f210_162 : mFetch 210 162 = some (.lconst 1, 1, 0, 0, 0, 0) := by decide +kernel
theorem f210_163 : mFetch 210 163 = some (.goto 4, 3, 167, 0, 0, 0) := by decide +kernel
theorem f210_166 : mFetch 210 166 = some (.lconst 0, 1, 0, 0, 0, 0) := by decide +kernel
theorem f210_167 : mFetch 210 167 = some (.lreturn, 1, 0, 0, 0, 0) := by decide +kernel
theorem f210_168 : mFetch 210 168 = some (.lload_n 1, 1, 0, 0, 0, 0) := by decide +kernel
theorem f210_169 : mFetch 210 169 = some (.lload_n 3, 1, 0, 0, 0, 0) := by decide +kernel
theorem f210_170 : mFetch 210 170 = some (.land, 1, 0, 0, 0, 0) := by decide +kernel
theorem f210_171 : mFetch 210 171 = some (.lreturn, 1, 0, 0, 0, 0) := by decide +kernel
theorem f210_172 : mFetch 210 172 = some (.lload_n 1, 1, 0, 0, 0, 0) := by decide +kernel
theorem f210_173 : mFetch 210 173 = some (.lload_n 3, 1, 0, 0, 0, 0) := by decide +kernel
theorem f210_174 : mFetch 210 174 = some (.lor, 1, 0, 0, 0, 0) := by decide +kernel
theorem f210_175 : mFetch 210 175 = some (.lreturn, 1, 0, 0, 0, 0) := by decide +kernel
theorem b210_0 {X : (Nat → Int) × Nat} {d : Nat} {s : mSt} {Q : mQ} {x0 : Int} {x1 : Int} {l2 : Option mV} {x3 : Int} {l4 : Option mV} (h_1 : x0 = 2 → Wp X d 210 68 [some (mI x0), some (mJ x1), l2, some (mJ x3), l4] [] s Q) (h_2 : x0 = 3 → Wp X d 210 72 [some (mI x0), some (mJ x1), l2, some (mJ x3), l4] [] s Q) (h_3 : x0 = 4 → Wp X d 210 76 [some (mI x0), some (mJ x1), l2, some (mJ x3), l4] [] s Q) (h_4 : x0 = 5 → Wp X d 210 80 [some (mI x0), some (mJ x1), l2, some (mJ x3), l4] [] s Q) (h_5 : x0 = 6 → Wp X d 210 108 [some (mI x0), some (mJ x1), l2, some (mJ x3), l4] [] s Q) (h_6 : x0 = 7 → Wp X d 210 120 [some (mI x0), some (mJ x1), l2, some (mJ x3), l4] [] s Q) (h_7 : x0 = 8 → Wp X d 210 132 [some (mI x0), some (mJ x1), l2, some (mJ x3), l4] [] s Q) (h_8 : x0 = 9 → Wp X d 210 144 [some (mI x0), some (mJ x1), l2, some (mJ x3), l4] [] s Q) (h_9 : x0 = 10 → Wp X d 210 156 [some (mI x0), some (mJ x1), l2, some (mJ x3), l4] [] s Q) (h_10 : x0 = 11 → Wp X d 210 172 [some (mI x0), some (mJ x1), l2, some (mJ x3), l4] [] s Q) (h_11 : x0 = 12 → Wp X d 210 168 [some (mI x0), some (mJ x1), l2, some (mJ x3), l4] [] s Q) (h_12 : x0 = 13 → Wp X d 210 172 [some (mI x0), some (mJ x1), l2, some (mJ x3), l4] [] s Q) (h_13 : x0 = 14 → Wp X d 210 94 [some (mI x0), some (mJ x1), l2, some (mJ x3), l4] [] s Q) (h_14 : ¬ x0 = 2 → ¬ x0 = 3 → ¬ x0 = 4 → ¬ x0 = 5 → ¬ x0 = 6 → ¬ x0 = 7 → ¬ x0 = 8 → ¬ x0 = 9 → ¬ x0 = 10 → ¬ x0 = 11 → ¬ x0 = 12 → ¬ x0 = 13 → ¬ x0 = 14 → Wp X d 210 172 [some (mI x0), some (mJ x1), l2, some (mJ x3), l4] [] s Q) : Wp X d 210 0 [some (mI x0), some (mJ x1), l2, some (mJ x3), l4] [] s Q := Wp_step k210 f210_0 (Wp_step k210 f210_1 (by
    show Wp X d 210 (tT 1 171 2 14 #[67, 71, 75, 79, 107, 119, 131, 143, 155, 171, 167, 171, 93] x0) [some (mI x0), some (mJ x1), l2, some (mJ x3), l4] [] s Q
    by_cases q0 : x0 = 2
    · have e : tT 1 171 2 14 #[67, 71, 75, 79, 107, 119, 131, 143, 155, 171, 167, 171, 93] x0 = 68 := by rw [q0]; decide +kernel
      rw [e]; exact h_1 q0
    by_cases q1 : x0 = 3
    · have e : tT 1 171 2 14 #[67, 71, 75, 79, 107, 119, 131, 143, 155, 171, 167, 171, 93] x0 = 72 := by rw [q1]; decide +kernel
      rw [e]; exact h_2 q1
    by_cases q2 : x0 = 4
    · have e : tT 1 171 2 14 #[67, 71, 75, 79, 107, 119, 131, 143, 155, 171, 167, 171, 93] x0 = 76 := by rw [q2]; decide +kernel
      rw [e]; exact h_3 q2
    by_cases q3 : x0 = 5
    · have e : tT 1 171 2 14 #[67, 71, 75, 79, 107, 119, 131, 143, 155, 171, 167, 171, 93] x0 = 80 := by rw [q3]; decide +kernel
      rw [e]; exact h_4 q3
    by_cases q4 : x0 = 6
    · have e : tT 1 171 2 14 #[67, 71, 75, 79, 107, 119, 131, 143, 155, 171, 167, 171, 93] x0 = 108 := by rw [q4]; decide +kernel
      rw [e]; exact h_5 q4
    by_cases q5 : x0 = 7
    · have e : tT 1 171 2 14 #[67, 71, 75, 79, 107, 119, 131, 143, 155, 171, 167, 171, 93] x0 = 120 := by rw [q5]; decide +kernel
      rw [e]; exact h_6 q5
    by_cases q6 : x0 = 8
    · have e : tT 1 171 2 14 #[67, 71, 75, 79, 107, 119, 131, 143, 155, 171, 167, 171, 93] x0 = 132 := by rw [q6]; decide +kernel
      rw [e]; exact h_7 q6
    by_cases q7 : x0 = 9
    · have e : tT 1 171 2 14 #[67, 71, 75, 79, 107, 119, 131, 143, 155, 171, 167, 171, 93] x0 = 144 := by rw [q7]; decide +kernel
      rw [e]; exact h_8 q7
    by_cases q8 : x0 = 10
    · have e : tT 1 171 2 14 #[67, 71, 75, 79, 107, 119, 131, 143, 155, 171, 167, 171, 93] x0 = 156 := by rw [q8]; decide +kernel
      rw [e]; exact h_9 q8
    by_cases q9 : x0 = 11
    · have e : tT 1 171 2 14 #[67, 71, 75, 79, 107, 119, 131, 143, 155, 171, 167, 171, 93] x0 = 172 := by rw [q9]; decide +kernel
      rw [e]; exact h_10 q9
    by_cases q10 : x0 = 12
    · have e : tT 1 171 2 14 #[67, 71, 75, 79, 107, 119, 131, 143, 155, 171, 167, 171, 93] x0 = 168 := by rw [q10]; decide +kernel
      rw [e]; exact h_11 q10
    by_cases q11 : x0 = 13
    · have e : tT 1 171 2 14 #[67, 71, 75, 79, 107, 119, 131, 143, 155, 171, 167, 171, 93] x0 = 172 := by rw [q11]; decide +kernel
      rw [e]; exact h_12 q11
    by_cases q12 : x0 = 14
    · have e : tT 1 171 2 14 #[67, 71, 75, 79, 107, 119, 131, 143, 155, 171, 167, 171, 93] x0 = 94 := by rw [q12]; decide +kernel
      rw [e]; exact h_13 q12
    have e : tT 1 171 2 14 #[67, 71, 75, 79, 107, 119, 131, 143, 155, 171, 167, 171, 93] x0 = 172 := by unfold tT; rw [if_pos (by omega)]; decide +kernel
    rw [e]; exact h_14 q0 q1 q2 q3 q4 q5 q6 q7 q8 q9 q10 q11 q12))
theorem b210_68 {X : (Nat → Int) × Nat} {d : Nat} {s : mSt} {Q : mQ} {x0 : Int} {x1 : Int} {l2 : Option mV} {x3 : Int} {l4 : Option mV} (h_1 : Q (some (mJ (w64 (x1 + x3)))) s) : Wp X d 210 68 [some (mI x0), some (mJ x1), l2, some (mJ x3), l4] [] s Q := Wp_step k210 f210_68 (Wp_step k210 f210_69 (Wp_step k210 f210_70 (Wp_step k210 f210_71 ⟨⟨rfl, rfl⟩, h_1⟩)))
theorem b210_72 {X : (Nat → Int) × Nat} {d : Nat} {s : mSt} {Q : mQ} {x0 : Int} {x1 : Int} {l2 : Option mV} {x3 : Int} {l4 : Option mV} (h_1 : Q (some (mJ (w64 (x1 - x3)))) s) : Wp X d 210 72 [some (mI x0), some (mJ x1), l2, some (mJ x3), l4] [] s Q := Wp_step k210 f210_72 (Wp_step k210 f210_73 (Wp_step k210 f210_74 (Wp_step k210 f210_75 ⟨⟨rfl, rfl⟩, h_1⟩)))
theorem b210_76 {X : (Nat → Int) × Nat} {d : Nat} {s : mSt} {Q : mQ} {x0 : Int} {x1 : Int} {l2 : Option mV} {x3 : Int} {l4 : Option mV} (h_1 : Q (some (mJ (w64 (x1 * x3)))) s) : Wp X d 210 76 [some (mI x0), some (mJ x1), l2, some (mJ x3), l4] [] s Q := Wp_step k210 f210_76 (Wp_step k210 f210_77 (Wp_step k210 f210_78 (Wp_step k210 f210_79 ⟨⟨rfl, rfl⟩, h_1⟩)))
theorem b210_80 {X : (Nat → Int) × Nat} {d : Nat} {s : mSt} {Q : mQ} {x0 : Int} {x1 : Int} {l2 : Option mV} {x3 : Int} {l4 : Option mV} (h_1 : ¬ (lCmp x3 0) = 0 → Wp X d 210 90 [some (mI x0), some (mJ x1), l2, some (mJ x3), l4] [] s Q) (h_2 : (lCmp x3 0) = 0 → Wp X d 210 86 [some (mI x0), some (mJ x1), l2, some (mJ x3), l4] [] s Q) : Wp X d 210 80 [some (mI x0), some (mJ x1), l2, some (mJ x3), l4] [] s Q := Wp_step k210 f210_80 (Wp_step k210 f210_81 (Wp_step k210 f210_82 (Wp_step k210 f210_83 ⟨h_1, h_2⟩)))
theorem b210_86 {X : (Nat → Int) × Nat} {d : Nat} {s : mSt} {Q : mQ} {x0 : Int} {x1 : Int} {l2 : Option mV} {x3 : Int} {l4 : Option mV} (h_1 : Wp X d 210 93 [some (mI x0), some (mJ x1), l2, some (mJ x3), l4] [mJ 0] s Q) : Wp X d 210 86 [some (mI x0), some (mJ x1), l2, some (mJ x3), l4] [] s Q := Wp_step k210 f210_86 (Wp_step k210 f210_87 (h_1))
theorem b210_90 {X : (Nat → Int) × Nat} {d : Nat} {s : mSt} {Q : mQ} {x0 : Int} {x1 : Int} {l2 : Option mV} {x3 : Int} {l4 : Option mV} (h_1 : x3 ≠ 0) (h_2 : Wp X d 210 93 [some (mI x0), some (mJ x1), l2, some (mJ x3), l4] [mJ (w64 (Int.tdiv x1 x3))] s Q) : Wp X d 210 90 [some (mI x0), some (mJ x1), l2, some (mJ x3), l4] [] s Q := Wp_step k210 f210_90 (Wp_step k210 f210_91 (Wp_step k210 f210_92 ⟨h_1, h_2⟩))
theorem b210_93 {X : (Nat → Int) × Nat} {d : Nat} {s : mSt} {Q : mQ} {x0 : Int} {x1 : Int} {l2 : Option mV} {x3 : Int} {l4 : Option mV} {xt0 : Int} (h_1 : Q (some (mJ xt0)) s) : Wp X d 210 93 [some (mI x0), some (mJ x1), l2, some (mJ x3), l4] [mJ xt0] s Q := Wp_step k210 f210_93 ⟨⟨rfl, rfl⟩, h_1⟩
theorem b210_94 {X : (Nat → Int) × Nat} {d : Nat} {s : mSt} {Q : mQ} {x0 : Int} {x1 : Int} {l2 : Option mV} {x3 : Int} {l4 : Option mV} (h_1 : ¬ (lCmp x3 0) = 0 → Wp X d 210 104 [some (mI x0), some (mJ x1), l2, some (mJ x3), l4] [] s Q) (h_2 : (lCmp x3 0) = 0 → Wp X d 210 100 [some (mI x0), some (mJ x1), l2, some (mJ x3), l4] [] s Q) : Wp X d 210 94 [some (mI x0), some (mJ x1), l2, some (mJ x3), l4] [] s Q := Wp_step k210 f210_94 (Wp_step k210 f210_95 (Wp_step k210 f210_96 (Wp_step k210 f210_97 ⟨h_1, h_2⟩)))
theorem b210_100 {X : (Nat → Int) × Nat} {d : Nat} {s : mSt} {Q : mQ} {x0 : Int} {x1 : Int} {l2 : Option mV} {x3 : Int} {l4 : Option mV} (h_1 : Wp X d 210 107 [some (mI x0), some (mJ x1), l2, some (mJ x3), l4] [mJ 0] s Q) : Wp X d 210 100 [some (mI x0), some (mJ x1), l2, some (mJ x3), l4] [] s Q := Wp_step k210 f210_100 (Wp_step k210 f210_101 (h_1))
theorem b210_104 {X : (Nat → Int) × Nat} {d : Nat} {s : mSt} {Q : mQ} {x0 : Int} {x1 : Int} {l2 : Option mV} {x3 : Int} {l4 : Option mV} (h_1 : x3 ≠ 0) (h_2 : Wp X d 210 107 [some (mI x0), some (mJ x1), l2, some (mJ x3), l4] [mJ (Int.tmod x1 x3)] s Q) : Wp X d 210 104 [some (mI x0), some (mJ x1), l2, some (mJ x3), l4] [] s Q := Wp_step k210 f210_104 (Wp_step k210 f210_105 (Wp_step k210 f210_106 ⟨h_1, h_2⟩))
theorem b210_107 {X : (Nat → Int) × Nat} {d : Nat} {s : mSt} {Q : mQ} {x0 : Int} {x1 : Int} {l2 : Option mV} {x3 : Int} {l4 : Option mV} {xt0 : Int} (h_1 : Q (some (mJ xt0)) s) : Wp X d 210 107 [some (mI x0), some (mJ x1), l2, some (mJ x3), l4] [mJ xt0] s Q := Wp_step k210 f210_107 ⟨⟨rfl, rfl⟩, h_1⟩
theorem b210_108 {X : (Nat → Int) × Nat} {d : Nat} {s : mSt} {Q : mQ} {x0 : Int} {x1 : Int} {l2 : Option mV} {x3 : Int} {l4 : Option mV} (h_1 : 0 ≤ (lCmp x1 x3) → Wp X d 210 118 [some (mI x0), some (mJ x1), l2, some (mJ x3), l4] [] s Q) (h_2 : ¬ 0 ≤ (lCmp x1 x3) → Wp X d 210 114 [some (mI x0), some (mJ x1), l2, some (mJ x3), l4] [] s Q) : Wp X d 210 108 [some (mI x0), some (mJ x1), l2, some (mJ x3), l4] [] s Q := Wp_step k210 f210_108 (Wp_step k210 f210_109 (Wp_step k210 f210_110 (Wp_step k210 f210_111 ⟨h_1, h_2⟩)))
theorem b210_114 {X : (Nat → Int) × Nat} {d : Nat} {s : mSt} {Q : mQ} {x0 : Int} {x1 : Int} {l2 : Option mV} {x3 : Int} {l4 : Option mV} (h_1 : Wp X d 210 119 [some (mI x0), some (mJ x1), l2, some (mJ x3), l4] [mJ 1] s Q) : Wp X d 210 114 [some (mI x0), some (mJ x1), l2, some (mJ x3), l4] [] s Q := Wp_step k210 f210_114 (Wp_step k210 f210_115 (h_1))
theorem b210_118 {X : (Nat → Int) × Nat} {d : Nat} {s : mSt} {Q : mQ} {x0 : Int} {x1 : Int} {l2 : Option mV} {x3 : Int} {l4 : Option mV} (h_1 : Wp X d 210 119 [some (mI x0), some (mJ x1), l2, some (mJ x3), l4] [mJ 0] s Q) : Wp X d 210 118 [some (mI x0), some (mJ x1), l2, some (mJ x3), l4] [] s Q := Wp_step k210 f210_118 (h_1)
theorem b210_119 {X : (Nat → Int) × Nat} {d : Nat} {s : mSt} {Q : mQ} {x0 : Int} {x1 : Int} {l2 : Option mV} {x3 : Int} {l4 : Option mV} {xt0 : Int} (h_1 : Q (some (mJ xt0)) s) : Wp X d 210 119 [some (mI x0), some (mJ x1), l2, some (mJ x3), l4] [mJ xt0] s Q := Wp_step k210 f210_119 ⟨⟨rfl, rfl⟩, h_1⟩
theorem b210_120 {X : (Nat → Int) × Nat} {d : Nat} {s : mSt} {Q : mQ} {x0 : Int} {x1 : Int} {l2 : Option mV} {x3 : Int} {l4 : Option mV} (h_1 : 0 < (lCmp x1 x3) → Wp X d 210 130 [some (mI x0), some (mJ x1), l2, some (mJ x3), l4] [] s Q) (h_2 : ¬ 0 < (lCmp x1 x3) → Wp X d 210 126 [some (mI x0), some (mJ x1), l2, some (mJ x3), l4] [] s Q) : Wp X d 210 120 [some (mI x0), some (mJ x1), l2, some (mJ x3), l4] [] s Q := Wp_step k210 f210_120 (Wp_step k210 f210_121 (Wp_step k210 f210_122 (Wp_step k210 f210_123 ⟨h_1, h_2⟩)))
theorem b210_126 {X : (Nat → Int) × Nat} {d : Nat} {s : mSt} {Q : mQ} {x0 : Int} {x1 : Int} {l2 : Option mV} {x3 : Int} {l4 : Option mV} (h_1 : Wp X d 210 131 [some (mI x0), some (mJ x1), l2, some (mJ x3), l4] [mJ 1] s Q) : Wp X d 210 126 [some (mI x0), some (mJ x1), l2, some (mJ x3), l4] [] s Q := Wp_step k210 f210_126 (Wp_step k210 f210_127 (h_1))
theorem b210_130 {X : (Nat → Int) × Nat} {d : Nat} {s : mSt} {Q : mQ} {x0 : Int} {x1 : Int} {l2 : Option mV} {x3 : Int} {l4 : Option mV} (h_1 : Wp X d 210 131 [some (mI x0), some (mJ x1), l2, some (mJ x3), l4] [mJ 0] s Q) : Wp X d 210 130 [some (mI x0), some (mJ x1), l2, some (mJ x3), l4] [] s Q := Wp_step k210 f210_130 (h_1)
theorem b210_131 {X : (Nat → Int) × Nat} {d : Nat} {s : mSt} {Q : mQ} {x0 : Int} {x1 : Int} {l2 : Option mV} {x3 : Int} {l4 : Option mV} {xt0 : Int} (h_1 : Q (some (mJ xt0)) s) : Wp X d 210 131 [some (mI x0), some (mJ x1), l2, some (mJ x3), l4] [mJ xt0] s Q := Wp_step k210 f210_131 ⟨⟨rfl, rfl⟩, h_1⟩
theorem b210_132 {X : (Nat → Int) × Nat} {d : Nat} {s : mSt} {Q : mQ} {x0 : Int} {x1 : Int} {l2 : Option mV} {x3 : Int} {l4 : Option mV} (h_1 : ¬ (lCmp x1 x3) = 0 → Wp X d 210 142 [some (mI x0), some (mJ x1), l2, some (mJ x3), l4] [] s Q) (h_2 : (lCmp x1 x3) = 0 → Wp X d 210 138 [some (mI x0), some (mJ x1), l2, some (mJ x3), l4] [] s Q) : Wp X d 210 132 [some (mI x0), some (mJ x1), l2, some (mJ x3), l4] [] s Q := Wp_step k210 f210_132 (Wp_step k210 f210_133 (Wp_step k210 f210_134 (Wp_step k210 f210_135 ⟨h_1, h_2⟩)))
theorem b210_138 {X : (Nat → Int) × Nat} {d : Nat} {s : mSt} {Q : mQ} {x0 : Int} {x1 : Int} {l2 : Option mV} {x3 : Int} {l4 : Option mV} (h_1 : Wp X d 210 143 [some (mI x0), some (mJ x1), l2, some (mJ x3), l4] [mJ 1] s Q) : Wp X d 210 138 [some (mI x0), some (mJ x1), l2, some (mJ x3), l4] [] s Q := Wp_step k210 f210_138 (Wp_step k210 f210_139 (h_1))
theorem b210_142 {X : (Nat → Int) × Nat} {d : Nat} {s : mSt} {Q : mQ} {x0 : Int} {x1 : Int} {l2 : Option mV} {x3 : Int} {l4 : Option mV} (h_1 : Wp X d 210 143 [some (mI x0), some (mJ x1), l2, some (mJ x3), l4] [mJ 0] s Q) : Wp X d 210 142 [some (mI x0), some (mJ x1), l2, some (mJ x3), l4] [] s Q := Wp_step k210 f210_142 (h_1)
theorem b210_143 {X : (Nat → Int) × Nat} {d : Nat} {s : mSt} {Q : mQ} {x0 : Int} {x1 : Int} {l2 : Option mV} {x3 : Int} {l4 : Option mV} {xt0 : Int} (h_1 : Q (some (mJ xt0)) s) : Wp X d 210 143 [some (mI x0), some (mJ x1), l2, some (mJ x3), l4] [mJ xt0] s Q := Wp_step k210 f210_143 ⟨⟨rfl, rfl⟩, h_1⟩
theorem b210_144 {X : (Nat → Int) × Nat} {d : Nat} {s : mSt} {Q : mQ} {x0 : Int} {x1 : Int} {l2 : Option mV} {x3 : Int} {l4 : Option mV} (h_1 : (lCmp x1 x3) < 0 → Wp X d 210 154 [some (mI x0), some (mJ x1), l2, some (mJ x3), l4] [] s Q) (h_2 : ¬ (lCmp x1 x3) < 0 → Wp X d 210 150 [some (mI x0), some (mJ x1), l2, some (mJ x3), l4] [] s Q) : Wp X d 210 144 [some (mI x0), some (mJ x1), l2, some (mJ x3), l4] [] s Q := Wp_step k210 f210_144 (Wp_step k210 f210_145 (Wp_step k210 f210_146 (Wp_step k210 f210_147 ⟨h_1, h_2⟩)))
theorem b210_150 {X : (Nat → Int) × Nat} {d : Nat} {s : mSt} {Q : mQ} {x0 : Int} {x1 : Int} {l2 : Option mV} {x3 : Int} {l4 : Option mV} (h_1 : Wp X d 210 155 [some (mI x0), some (mJ x1), l2, some (mJ x3), l4] [mJ 1] s Q) : Wp X d 210 150 [some (mI x0), some (mJ x1), l2, some (mJ x3), l4] [] s Q := Wp_step k210 f210_150 (Wp_step k210 f210_151 (h_1))
theorem b210_154 {X : (Nat → Int) × Nat} {d : Nat} {s : mSt} {Q : mQ} {x0 : Int} {x1 : Int} {l2 : Option mV} {x3 : Int} {l4 : Option mV} (h_1 : Wp X d 210 155 [some (mI x0), some (mJ x1), l2, some (mJ x3), l4] [mJ 0] s Q) : Wp X d 210 154 [some (mI x0), some (mJ x1), l2, some (mJ x3), l4] [] s Q := Wp_step k210 f210_154 (h_1)
theorem b210_155 {X : (Nat → Int) × Nat} {d : Nat} {s : mSt} {Q : mQ} {x0 : Int} {x1 : Int} {l2 : Option mV} {x3 : Int} {l4 : Option mV} {xt0 : Int} (h_1 : Q (some (mJ xt0)) s) : Wp X d 210 155 [some (mI x0), some (mJ x1), l2, some (mJ x3), l4] [mJ xt0] s Q := Wp_step k210 f210_155 ⟨⟨rfl, rfl⟩, h_1⟩
theorem b210_156 {X : (Nat → Int) × Nat} {d : Nat} {s : mSt} {Q : mQ} {x0 : Int} {x1 : Int} {l2 : Option mV} {x3 : Int} {l4 : Option mV} (h_1 : (lCmp x1 x3) ≤ 0 → Wp X d 210 166 [some (mI x0), some (mJ x1), l2, some (mJ x3), l4] [] s Q) (h_2 : ¬ (lCmp x1 x3) ≤ 0 → Wp X d 210 162 [some (mI x0), some (mJ x1), l2, some (mJ x3), l4] [] s Q) : Wp X d 210 156 [some (mI x0), some (mJ x1), l2, some (mJ x3), l4] [] s Q := Wp_step k210 f210_156 (Wp_step k210 f210_157 (Wp_step k210 f210_158 (Wp_step k210 f210_159 ⟨h_1, h_2⟩)))
theorem b210_162 {X : (Nat → Int) × Nat} {d : Nat} {s : mSt} {Q : mQ} {x0 : Int} {x1 : Int} {l2 : Option mV} {x3 : Int} {l4 : Option mV} (h_1 : Wp X d 210 167 [some (mI x0), some (mJ x1), l2, some (mJ x3), l4] [mJ 1] s Q) : Wp X d 210 162 [some (mI x0), some (mJ x1), l2, some (mJ x3), l4] [] s Q := Wp_step k210 f210_162 (Wp_step k210 f210_163 (h_1))
theorem b210_166 {X : (Nat → Int) × Nat} {d : Nat} {s : mSt} {Q : mQ} {x0 : Int} {x1 : Int} {l2 : Option mV} {x3 : Int} {l4 : Option mV} (h_1 : Wp X d 210 167 [some (mI x0), some (mJ x1), l2, some (mJ x3), l4] [mJ 0] s Q) : Wp X d 210 166 [some (mI x0), some (mJ x1), l2, some (mJ x3), l4] [] s Q := Wp_step k210 f210_166 (h_1)
theorem b210_167 {X : (Nat → Int) × Nat} {d : Nat} {s : mSt} {Q : mQ} {x0 : Int} {x1 : Int} {l2 : Option mV} {x3 : Int} {l4 : Option mV} {xt0 : Int} (h_1 : Q (some (mJ xt0)) s) : Wp X d 210 167 [some (mI x0), some (mJ x1), l2, some (mJ x3), l4] [mJ xt0] s Q := Wp_step k210 f210_167 ⟨⟨rfl, rfl⟩, h_1⟩
theorem b210_168 {X : (Nat → Int) × Nat} {d : Nat} {s : mSt} {Q : mQ} {x0 : Int} {x1 : Int} {l2 : Option mV} {x3 : Int} {l4 : Option mV} (h_1 : Q (some (mJ (lAnd x1 x3))) s) : Wp X d 210 168 [some (mI x0), some (mJ x1), l2, some (mJ x3), l4] [] s Q := Wp_step k210 f210_168 (Wp_step k210 f210_169 (Wp_step k210 f210_170 (Wp_step k210 f210_171 ⟨⟨rfl, rfl⟩, h_1⟩)))
theorem b210_172 {X : (Nat → Int) × Nat} {d : Nat} {s : mSt} {Q : mQ} {x0 : Int} {x1 : Int} {l2 : Option mV} {x3 : Int} {l4 : Option mV} (h_1 : Q (some (mJ (lOr x1 x3))) s) : Wp X d 210 172 [some (mI x0), some (mJ x1), l2, some (mJ x3), l4] [] s Q := Wp_step k210 f210_172 (Wp_step k210 f210_173 (Wp_step k210 f210_174 (Wp_step k210 f210_175 ⟨⟨rfl, rfl⟩, h_1⟩)))
theorem e210 {X : (Nat → Int) × Nat} {d : Nat} {s : mSt} {Q : mQ} {x0 : Int} {x1 : Int} {x3 : Int} (h : Wp X d 210 0 [some (mI x0), some (mJ x1), none, some (mJ x3), none] [] s Q) : Sp X d 210 [mI x0, mJ x1, mJ x3] s Q := Sp_of (show mCe 210 = 0 by decide +kernel) (by rw [show mML 210 = 5 by decide +kernel]; rfl) (Nat.le_trans (Nat.le_of_ble_eq_true (show Nat.ble (mArgs _).length 5 = true from rfl)) (show 5 ≤ mML 210 by decide +kernel)) h
